theorem bdX12_routes_0 : (decode cX12_routes 0 = .ok (.iconst 0, 1)) ∧ (decode cX12_routes 1 = .ok (.istore_n 3, 1)) ∧ (decode cX12_routes 2 = .ok (.iload_n 3, 1)) ∧ (decode cX12_routes 3 = .ok (.bipush 6, 2)) ∧ (decode cX12_routes 5 = .ok (.if_icmp .ge 27, 3)) ∧ (decode cX12_routes 8 = .ok (.aload_n 0, 1)) ∧ (decode cX12_routes 9 = .ok (.getfield 83, 3)) ∧ (decode cX12_routes 12 = .ok (.iload_n 3, 1)) ∧ (decode cX12_routes 13 = .ok (.iload_n 3, 1)) ∧ (decode cX12_routes 14 = .ok (.iload_n 1, 1)) ∧ (decode cX12_routes 15 = .ok (.if_icmp .ne 7, 3)) ∧ (decode cX12_routes 18 = .ok (.iconst 0, 1)) ∧ (decode cX12_routes 19 = .ok (.goto 6, 3)) ∧ (decode cX12_routes 22 = .ok (.ldc_w 317, 3)) ∧ (decode cX12_routes 25 = .ok (.iastore, 1)) ∧ (decode cX12_routes 26 = .ok (.iinc 3 1, 3)) := by decide +kernel
theorem dX12_routes_0 : decode cX12_routes 0 = .ok (.iconst 0, 1) := bdX12_routes_0.1
theorem dX12_routes_1 : decode cX12_routes 1 = .ok (.istore_n 3, 1) := bdX12_routes_0.2.1
theorem dX12_routes_2 : decode cX12_routes 2 = .ok (.iload_n 3, 1) := bdX12_routes_0.2.2.1
theorem dX12_routes_3 : decode cX12_routes 3 = .ok (.bipush 6, 2) := bdX12_routes_0.2.2.2.1
theorem dX12_routes_5 : decode cX12_routes 5 = .ok (.if_icmp .ge 27, 3) := bdX12_routes_0.2.2.2.2.1
theorem dX12_routes_8 : decode cX12_routes 8 = .ok (.aload_n 0, 1) := bdX12_routes_0.2.2.2.2.2.1
theorem dX12_routes_9 : decode cX12_routes 9 = .ok (.getfield 83, 3) := bdX12_routes_0.2.2.2.2.2.2.1
theorem dX12_routes_12 : decode cX12_routes 12 = .ok (.iload_n 3, 1) := bdX12_routes_0.2.2.2.2.2.2.2.1
theorem dX12_routes_13 : decode cX12_routes 13 = .ok (.iload_n 3, 1) := bdX12_routes_0.2.2.2.2.2.2.2.2.1
theorem dX12_routes_14 : decode cX12_routes 14 = .ok (.iload_n 1, 1) := bdX12_routes_0.2.2.2.2.2.2.2.2.2.1
theorem dX12_routes_15 : decode cX12_routes 15 = .ok (.if_icmp .ne 7, 3) := bdX12_routes_0.2.2.2.2.2.2.2.2.2.2.1
theorem dX12_routes_18 : decode cX12_routes 18 = .ok (.iconst 0, 1) := bdX12_routes_0.2.2.2.2.2.2.2.2.2.2.2.1
theorem dX12_routes_19 : decode cX12_routes 19 = .ok (.goto 6, 3) := bdX12_routes_0.2.2.2.2.2.2.2.2.2.2.2.2.1
theorem dX12_routes_22 : decode cX12_routes 22 = .ok (.ldc_w 317, 3) := bdX12_routes_0.2.2.2.2.2.2.2.2.2.2.2.2.2.1
theorem dX12_routes_25 : decode cX12_routes 25 = .ok (.iastore, 1) := bdX12_routes_0.2.2.2.2.2.2.2.2.2.2.2.2.2.2.1
theorem dX12_routes_26 : decode cX12_routes 26 = .ok (.iinc 3 1, 3) := bdX12_routes_0.2.2.2.2.2.2.2.2.2.2.2.2.2.2.2
theorem bdX12_routes_29 : (decode cX12_routes 29 = .ok (.goto (-27), 3)) ∧ (decode cX12_routes 32 = .ok (.iconst 0, 1)) ∧ (decode cX12_routes 33 = .ok (.istore_n 3, 1)) ∧ (decode cX12_routes 34 = .ok (.iload_n 3, 1)) ∧ (decode cX12_routes 35 = .ok (.bipush 6, 2)) ∧ (decode cX12_routes 37 = .ok (.if_icmp .ge 122, 3)) ∧ (decode cX12_routes 40 = .ok (.iconst 0, 1)) ∧ (decode cX12_routes 41 = .ok (.istore 4, 2)) ∧ (decode cX12_routes 43 = .ok (.iload 4, 2)) ∧ (decode cX12_routes 45 = .ok (.aload_n 0, 1)) ∧ (decode cX12_routes 46 = .ok (.getfield 7, 3)) ∧ (decode cX12_routes 49 = .ok (.iconst 2, 1)) ∧ (decode cX12_routes 50 = .ok (.iaload, 1)) ∧ (decode cX12_routes 51 = .ok (.if_icmp .ge 102, 3)) ∧ (decode cX12_routes 54 = .ok (.iconst 0, 1)) ∧ (decode cX12_routes 55 = .ok (.istore 5, 2)) := by decide +kernel
theorem dX12_routes_29 : decode cX12_routes 29 = .ok (.goto (-27), 3) := bdX12_routes_29.1
theorem dX12_routes_32 : decode cX12_routes 32 = .ok (.iconst 0, 1) := bdX12_routes_29.2.1
theorem dX12_routes_33 : decode cX12_routes 33 = .ok (.istore_n 3, 1) := bdX12_routes_29.2.2.1
theorem dX12_routes_34 : decode cX12_routes 34 = .ok (.iload_n 3, 1) := bdX12_routes_29.2.2.2.1
theorem dX12_routes_35 : decode cX12_routes 35 = .ok (.bipush 6, 2) := bdX12_routes_29.2.2.2.2.1
theorem dX12_routes_37 : decode cX12_routes 37 = .ok (.if_icmp .ge 122, 3) := bdX12_routes_29.2.2.2.2.2.1
theorem dX12_routes_40 : decode cX12_routes 40 = .ok (.iconst 0, 1) := bdX12_routes_29.2.2.2.2.2.2.1
theorem dX12_routes_41 : decode cX12_routes 41 = .ok (.istore 4, 2) := bdX12_routes_29.2.2.2.2.2.2.2.1
theorem dX12_routes_43 : decode cX12_routes 43 = .ok (.iload 4, 2) := bdX12_routes_29.2.2.2.2.2.2.2.2.1
theorem dX12_routes_45 : decode cX12_routes 45 = .ok (.aload_n 0, 1) := bdX12_routes_29.2.2.2.2.2.2.2.2.2.1
theorem dX12_routes_46 : decode cX12_routes 46 = .ok (.getfield 7, 3) := bdX12_routes_29.2.2.2.2.2.2.2.2.2.2.1
theorem dX12_routes_49 : decode cX12_routes 49 = .ok (.iconst 2, 1) := bdX12_routes_29.2.2.2.2.2.2.2.2.2.2.2.1
theorem dX12_routes_50 : decode cX12_routes 50 = .ok (.iaload, 1) := bdX12_routes_29.2.2.2.2.2.2.2.2.2.2.2.2.1
theorem dX12_routes_51 : decode cX12_routes 51 = .ok (.if_icmp .ge 102, 3) := bdX12_routes_29.2.2.2.2.2.2.2.2.2.2.2.2.2.1
theorem dX12_routes_54 : decode cX12_routes 54 = .ok (.iconst 0, 1) := bdX12_routes_29.2.2.2.2.2.2.2.2.2.2.2.2.2.2.1
theorem dX12_routes_55 : decode cX12_routes 55 = .ok (.istore 5, 2) := bdX12_routes_29.2.2.2.2.2.2.2.2.2.2.2.2.2.2.2
theorem bdX12_routes_57 : (decode cX12_routes 57 = .ok (.iload 5, 2)) ∧ (decode cX12_routes 59 = .ok (.aload_n 0, 1)) ∧ (decode cX12_routes 60 = .ok (.getfield 7, 3)) ∧ (decode cX12_routes 63 = .ok (.iconst 1, 1)) ∧ (decode cX12_routes 64 = .ok (.iaload, 1)) ∧ (decode cX12_routes 65 = .ok (.if_icmp .ge 82, 3)) ∧ (decode cX12_routes 68 = .ok (.aload_n 0, 1)) ∧ (decode cX12_routes 69 = .ok (.iload 4, 2)) ∧ (decode cX12_routes 71 = .ok (.iload 5, 2)) ∧ (decode cX12_routes 73 = .ok (.iload_n 2, 1)) ∧ (decode cX12_routes 74 = .ok (.invokevirtual 318, 3)) ∧ (decode cX12_routes 77 = .ok (.istore 6, 2)) ∧ (decode cX12_routes 79 = .ok (.iload 6, 2)) ∧ (decode cX12_routes 81 = .ok (.iconst (-1), 1)) ∧ (decode cX12_routes 82 = .ok (.if_icmp .ne 9, 3)) ∧ (decode cX12_routes 85 = .ok (.ldc_w 317, 3)) := by decide +kernel
theorem dX12_routes_57 : decode cX12_routes 57 = .ok (.iload 5, 2) := bdX12_routes_57.1
theorem dX12_routes_59 : decode cX12_routes 59 = .ok (.aload_n 0, 1) := bdX12_routes_57.2.1
theorem dX12_routes_60 : decode cX12_routes 60 = .ok (.getfield 7, 3) := bdX12_routes_57.2.2.1
theorem dX12_routes_63 : decode cX12_routes 63 = .ok (.iconst 1, 1) := bdX12_routes_57.2.2.2.1
theorem dX12_routes_64 : decode cX12_routes 64 = .ok (.iaload, 1) := bdX12_routes_57.2.2.2.2.1
theorem dX12_routes_65 : decode cX12_routes 65 = .ok (.if_icmp .ge 82, 3) := bdX12_routes_57.2.2.2.2.2.1
theorem dX12_routes_68 : decode cX12_routes 68 = .ok (.aload_n 0, 1) := bdX12_routes_57.2.2.2.2.2.2.1
theorem dX12_routes_69 : decode cX12_routes 69 = .ok (.iload 4, 2) := bdX12_routes_57.2.2.2.2.2.2.2.1
theorem dX12_routes_71 : decode cX12_routes 71 = .ok (.iload 5, 2) := bdX12_routes_57.2.2.2.2.2.2.2.2.1
theorem dX12_routes_73 : decode cX12_routes 73 = .ok (.iload_n 2, 1) := bdX12_routes_57.2.2.2.2.2.2.2.2.2.1
theorem dX12_routes_74 : decode cX12_routes 74 = .ok (.invokevirtual 318, 3) := bdX12_routes_57.2.2.2.2.2.2.2.2.2.2.1
theorem dX12_routes_77 : decode cX12_routes 77 = .ok (.istore 6, 2) := bdX12_routes_57.2.2.2.2.2.2.2.2.2.2.2.1
theorem dX12_routes_79 : decode cX12_routes 79 = .ok (.iload 6, 2) := bdX12_routes_57.2.2.2.2.2.2.2.2.2.2.2.2.1
theorem dX12_routes_81 : decode cX12_routes 81 = .ok (.iconst (-1), 1) := bdX12_routes_57.2.2.2.2.2.2.2.2.2.2.2.2.2.1
theorem dX12_routes_82 : decode cX12_routes 82 = .ok (.if_icmp .ne 9, 3) := bdX12_routes_57.2.2.2.2.2.2.2.2.2.2.2.2.2.2.1
theorem dX12_routes_85 : decode cX12_routes 85 = .ok (.ldc_w 317, 3) := bdX12_routes_57.2.2.2.2.2.2.2.2.2.2.2.2.2.2.2
theorem bdX12_routes_88 : (decode cX12_routes 88 = .ok (.goto 16, 3)) ∧ (decode cX12_routes 91 = .ok (.aload_n 0, 1)) ∧ (decode cX12_routes 92 = .ok (.getfield 83, 3)) ∧ (decode cX12_routes 95 = .ok (.aload_n 0, 1)) ∧ (decode cX12_routes 96 = .ok (.iload 4, 2)) ∧ (decode cX12_routes 98 = .ok (.iload 5, 2)) ∧ (decode cX12_routes 100 = .ok (.invokevirtual 322, 3)) ∧ (decode cX12_routes 103 = .ok (.iaload, 1)) ∧ (decode cX12_routes 104 = .ok (.istore 7, 2)) ∧ (decode cX12_routes 106 = .ok (.iload 7, 2)) ∧ (decode cX12_routes 108 = .ok (.ldc_w 317, 3)) ∧ (decode cX12_routes 111 = .ok (.if_icmp .ge 30, 3)) ∧ (decode cX12_routes 114 = .ok (.iload 7, 2)) ∧ (decode cX12_routes 116 = .ok (.iload 6, 2)) ∧ (decode cX12_routes 118 = .ok (.iadd, 1)) ∧ (decode cX12_routes 119 = .ok (.aload_n 0, 1)) := by decide +kernel
theorem dX12_routes_88 : decode cX12_routes 88 = .ok (.goto 16, 3) := bdX12_routes_88.1
theorem dX12_routes_91 : decode cX12_routes 91 = .ok (.aload_n 0, 1) := bdX12_routes_88.2.1
theorem dX12_routes_92 : decode cX12_routes 92 = .ok (.getfield 83, 3) := bdX12_routes_88.2.2.1
theorem dX12_routes_95 : decode cX12_routes 95 = .ok (.aload_n 0, 1) := bdX12_routes_88.2.2.2.1
theorem dX12_routes_96 : decode cX12_routes 96 = .ok (.iload 4, 2) := bdX12_routes_88.2.2.2.2.1
theorem dX12_routes_98 : decode cX12_routes 98 = .ok (.iload 5, 2) := bdX12_routes_88.2.2.2.2.2.1
theorem dX12_routes_100 : decode cX12_routes 100 = .ok (.invokevirtual 322, 3) := bdX12_routes_88.2.2.2.2.2.2.1
theorem dX12_routes_103 : decode cX12_routes 103 = .ok (.iaload, 1) := bdX12_routes_88.2.2.2.2.2.2.2.1
theorem dX12_routes_104 : decode cX12_routes 104 = .ok (.istore 7, 2) := bdX12_routes_88.2.2.2.2.2.2.2.2.1
theorem dX12_routes_106 : decode cX12_routes 106 = .ok (.iload 7, 2) := bdX12_routes_88.2.2.2.2.2.2.2.2.2.1
theorem dX12_routes_108 : decode cX12_routes 108 = .ok (.ldc_w 317, 3) := bdX12_routes_88.2.2.2.2.2.2.2.2.2.2.1
theorem dX12_routes_111 : decode cX12_routes 111 = .ok (.if_icmp .ge 30, 3) := bdX12_routes_88.2.2.2.2.2.2.2.2.2.2.2.1
theorem dX12_routes_114 : decode cX12_routes 114 = .ok (.iload 7, 2) := bdX12_routes_88.2.2.2.2.2.2.2.2.2.2.2.2.1
theorem dX12_routes_116 : decode cX12_routes 116 = .ok (.iload 6, 2) := bdX12_routes_88.2.2.2.2.2.2.2.2.2.2.2.2.2.1
theorem dX12_routes_118 : decode cX12_routes 118 = .ok (.iadd, 1) := bdX12_routes_88.2.2.2.2.2.2.2.2.2.2.2.2.2.2.1
theorem dX12_routes_119 : decode cX12_routes 119 = .ok (.aload_n 0, 1) := bdX12_routes_88.2.2.2.2.2.2.2.2.2.2.2.2.2.2.2
theorem bdX12_routes_120 : (decode cX12_routes 120 = .ok (.getfield 83, 3)) ∧ (decode cX12_routes 123 = .ok (.iload 5, 2)) ∧ (decode cX12_routes 125 = .ok (.iaload, 1)) ∧ (decode cX12_routes 126 = .ok (.if_icmp .ge 15, 3)) ∧ (decode cX12_routes 129 = .ok (.aload_n 0, 1)) ∧ (decode cX12_routes 130 = .ok (.getfield 83, 3)) ∧ (decode cX12_routes 133 = .ok (.iload 5, 2)) ∧ (decode cX12_routes 135 = .ok (.iload 7, 2)) ∧ (decode cX12_routes 137 = .ok (.iload 6, 2)) ∧ (decode cX12_routes 139 = .ok (.iadd, 1)) ∧ (decode cX12_routes 140 = .ok (.iastore, 1)) ∧ (decode cX12_routes 141 = .ok (.iinc 5 1, 3)) ∧ (decode cX12_routes 144 = .ok (.goto (-87), 3)) ∧ (decode cX12_routes 147 = .ok (.iinc 4 1, 3)) ∧ (decode cX12_routes 150 = .ok (.goto (-107), 3)) ∧ (decode cX12_routes 153 = .ok (.iinc 3 1, 3)) := by decide +kernel
theorem dX12_routes_120 : decode cX12_routes 120 = .ok (.getfield 83, 3) := bdX12_routes_120.1
theorem dX12_routes_123 : decode cX12_routes 123 = .ok (.iload 5, 2) := bdX12_routes_120.2.1
theorem dX12_routes_125 : decode cX12_routes 125 = .ok (.iaload, 1) := bdX12_routes_120.2.2.1
theorem dX12_routes_126 : decode cX12_routes 126 = .ok (.if_icmp .ge 15, 3) := bdX12_routes_120.2.2.2.1
theorem dX12_routes_129 : decode cX12_routes 129 = .ok (.aload_n 0, 1) := bdX12_routes_120.2.2.2.2.1
theorem dX12_routes_130 : decode cX12_routes 130 = .ok (.getfield 83, 3) := bdX12_routes_120.2.2.2.2.2.1
theorem dX12_routes_133 : decode cX12_routes 133 = .ok (.iload 5, 2) := bdX12_routes_120.2.2.2.2.2.2.1
theorem dX12_routes_135 : decode cX12_routes 135 = .ok (.iload 7, 2) := bdX12_routes_120.2.2.2.2.2.2.2.1
theorem dX12_routes_137 : decode cX12_routes 137 = .ok (.iload 6, 2) := bdX12_routes_120.2.2.2.2.2.2.2.2.1
theorem dX12_routes_139 : decode cX12_routes 139 = .ok (.iadd, 1) := bdX12_routes_120.2.2.2.2.2.2.2.2.2.1
theorem dX12_routes_140 : decode cX12_routes 140 = .ok (.iastore, 1) := bdX12_routes_120.2.2.2.2.2.2.2.2.2.2.1
theorem dX12_routes_141 : decode cX12_routes 141 = .ok (.iinc 5 1, 3) := bdX12_routes_120.2.2.2.2.2.2.2.2.2.2.2.1
theorem dX12_routes_144 : decode cX12_routes 144 = .ok (.goto (-87), 3) := bdX12_routes_120.2.2.2.2.2.2.2.2.2.2.2.2.1
theorem dX12_routes_147 : decode cX12_routes 147 = .ok (.iinc 4 1, 3) := bdX12_routes_120.2.2.2.2.2.2.2.2.2.2.2.2.2.1
theorem dX12_routes_150 : decode cX12_routes 150 = .ok (.goto (-107), 3) := bdX12_routes_120.2.2.2.2.2.2.2.2.2.2.2.2.2.2.1
theorem dX12_routes_153 : decode cX12_routes 153 = .ok (.iinc 3 1, 3) := bdX12_routes_120.2.2.2.2.2.2.2.2.2.2.2.2.2.2.2
theorem bdX12_routes_156 : (decode cX12_routes 156 = .ok (.goto (-122), 3)) ∧ (decode cX12_routes 159 = .ok (.iconst 0, 1)) ∧ (decode cX12_routes 160 = .ok (.istore_n 3, 1)) ∧ (decode cX12_routes 161 = .ok (.iload_n 3, 1)) ∧ (decode cX12_routes 162 = .ok (.bipush 6, 2)) ∧ (decode cX12_routes 164 = .ok (.if_icmp .ge 128, 3)) ∧ (decode cX12_routes 167 = .ok (.aload_n 0, 1)) ∧ (decode cX12_routes 168 = .ok (.getfield 80, 3)) ∧ (decode cX12_routes 171 = .ok (.bipush 36, 2)) ∧ (decode cX12_routes 173 = .ok (.iload_n 2, 1)) ∧ (decode cX12_routes 174 = .ok (.imul, 1)) ∧ (decode cX12_routes 175 = .ok (.bipush 6, 2)) ∧ (decode cX12_routes 177 = .ok (.iload_n 1, 1)) ∧ (decode cX12_routes 178 = .ok (.imul, 1)) ∧ (decode cX12_routes 179 = .ok (.iadd, 1)) ∧ (decode cX12_routes 180 = .ok (.iload_n 3, 1)) := by decide +kernel
theorem dX12_routes_156 : decode cX12_routes 156 = .ok (.goto (-122), 3) := bdX12_routes_156.1
theorem dX12_routes_159 : decode cX12_routes 159 = .ok (.iconst 0, 1) := bdX12_routes_156.2.1
theorem dX12_routes_160 : decode cX12_routes 160 = .ok (.istore_n 3, 1) := bdX12_routes_156.2.2.1
theorem dX12_routes_161 : decode cX12_routes 161 = .ok (.iload_n 3, 1) := bdX12_routes_156.2.2.2.1
theorem dX12_routes_162 : decode cX12_routes 162 = .ok (.bipush 6, 2) := bdX12_routes_156.2.2.2.2.1
theorem dX12_routes_164 : decode cX12_routes 164 = .ok (.if_icmp .ge 128, 3) := bdX12_routes_156.2.2.2.2.2.1
theorem dX12_routes_167 : decode cX12_routes 167 = .ok (.aload_n 0, 1) := bdX12_routes_156.2.2.2.2.2.2.1
theorem dX12_routes_168 : decode cX12_routes 168 = .ok (.getfield 80, 3) := bdX12_routes_156.2.2.2.2.2.2.2.1
theorem dX12_routes_171 : decode cX12_routes 171 = .ok (.bipush 36, 2) := bdX12_routes_156.2.2.2.2.2.2.2.2.1
theorem dX12_routes_173 : decode cX12_routes 173 = .ok (.iload_n 2, 1) := bdX12_routes_156.2.2.2.2.2.2.2.2.2.1
theorem dX12_routes_174 : decode cX12_routes 174 = .ok (.imul, 1) := bdX12_routes_156.2.2.2.2.2.2.2.2.2.2.1
theorem dX12_routes_175 : decode cX12_routes 175 = .ok (.bipush 6, 2) := bdX12_routes_156.2.2.2.2.2.2.2.2.2.2.2.1
theorem dX12_routes_177 : decode cX12_routes 177 = .ok (.iload_n 1, 1) := bdX12_routes_156.2.2.2.2.2.2.2.2.2.2.2.2.1
theorem dX12_routes_178 : decode cX12_routes 178 = .ok (.imul, 1) := bdX12_routes_156.2.2.2.2.2.2.2.2.2.2.2.2.2.1
theorem dX12_routes_179 : decode cX12_routes 179 = .ok (.iadd, 1) := bdX12_routes_156.2.2.2.2.2.2.2.2.2.2.2.2.2.2.1
theorem dX12_routes_180 : decode cX12_routes 180 = .ok (.iload_n 3, 1) := bdX12_routes_156.2.2.2.2.2.2.2.2.2.2.2.2.2.2.2
theorem bdX12_routes_181 : (decode cX12_routes 181 = .ok (.iadd, 1)) ∧ (decode cX12_routes 182 = .ok (.iconst (-1), 1)) ∧ (decode cX12_routes 183 = .ok (.iastore, 1)) ∧ (decode cX12_routes 184 = .ok (.aload_n 0, 1)) ∧ (decode cX12_routes 185 = .ok (.getfield 7, 3)) ∧ (decode cX12_routes 188 = .ok (.iconst 2, 1)) ∧ (decode cX12_routes 189 = .ok (.iaload, 1)) ∧ (decode cX12_routes 190 = .ok (.iconst 1, 1)) ∧ (decode cX12_routes 191 = .ok (.isub, 1)) ∧ (decode cX12_routes 192 = .ok (.istore 4, 2)) ∧ (decode cX12_routes 194 = .ok (.iload 4, 2)) ∧ (decode cX12_routes 196 = .ok (.ifCond .lt 90, 3)) ∧ (decode cX12_routes 199 = .ok (.iload_n 3, 1)) ∧ (decode cX12_routes 200 = .ok (.iload_n 1, 1)) ∧ (decode cX12_routes 201 = .ok (.if_icmp .eq 85, 3)) ∧ (decode cX12_routes 204 = .ok (.aload_n 0, 1)) := by decide +kernel
theorem dX12_routes_181 : decode cX12_routes 181 = .ok (.iadd, 1) := bdX12_routes_181.1
theorem dX12_routes_182 : decode cX12_routes 182 = .ok (.iconst (-1), 1) := bdX12_routes_181.2.1
theorem dX12_routes_183 : decode cX12_routes 183 = .ok (.iastore, 1) := bdX12_routes_181.2.2.1
theorem dX12_routes_184 : decode cX12_routes 184 = .ok (.aload_n 0, 1) := bdX12_routes_181.2.2.2.1
theorem dX12_routes_185 : decode cX12_routes 185 = .ok (.getfield 7, 3) := bdX12_routes_181.2.2.2.2.1
theorem dX12_routes_188 : decode cX12_routes 188 = .ok (.iconst 2, 1) := bdX12_routes_181.2.2.2.2.2.1
theorem dX12_routes_189 : decode cX12_routes 189 = .ok (.iaload, 1) := bdX12_routes_181.2.2.2.2.2.2.1
theorem dX12_routes_190 : decode cX12_routes 190 = .ok (.iconst 1, 1) := bdX12_routes_181.2.2.2.2.2.2.2.1
theorem dX12_routes_191 : decode cX12_routes 191 = .ok (.isub, 1) := bdX12_routes_181.2.2.2.2.2.2.2.2.1
theorem dX12_routes_192 : decode cX12_routes 192 = .ok (.istore 4, 2) := bdX12_routes_181.2.2.2.2.2.2.2.2.2.1
theorem dX12_routes_194 : decode cX12_routes 194 = .ok (.iload 4, 2) := bdX12_routes_181.2.2.2.2.2.2.2.2.2.2.1
theorem dX12_routes_196 : decode cX12_routes 196 = .ok (.ifCond .lt 90, 3) := bdX12_routes_181.2.2.2.2.2.2.2.2.2.2.2.1
theorem dX12_routes_199 : decode cX12_routes 199 = .ok (.iload_n 3, 1) := bdX12_routes_181.2.2.2.2.2.2.2.2.2.2.2.2.1
theorem dX12_routes_200 : decode cX12_routes 200 = .ok (.iload_n 1, 1) := bdX12_routes_181.2.2.2.2.2.2.2.2.2.2.2.2.2.1
theorem dX12_routes_201 : decode cX12_routes 201 = .ok (.if_icmp .eq 85, 3) := bdX12_routes_181.2.2.2.2.2.2.2.2.2.2.2.2.2.2.1
theorem dX12_routes_204 : decode cX12_routes 204 = .ok (.aload_n 0, 1) := bdX12_routes_181.2.2.2.2.2.2.2.2.2.2.2.2.2.2.2
theorem bdX12_routes_205 : (decode cX12_routes 205 = .ok (.iload 4, 2)) ∧ (decode cX12_routes 207 = .ok (.iload_n 3, 1)) ∧ (decode cX12_routes 208 = .ok (.iload_n 2, 1)) ∧ (decode cX12_routes 209 = .ok (.invokevirtual 318, 3)) ∧ (decode cX12_routes 212 = .ok (.istore 5, 2)) ∧ (decode cX12_routes 214 = .ok (.iload 5, 2)) ∧ (decode cX12_routes 216 = .ok (.iconst (-1), 1)) ∧ (decode cX12_routes 217 = .ok (.if_icmp .eq 63, 3)) ∧ (decode cX12_routes 220 = .ok (.aload_n 0, 1)) ∧ (decode cX12_routes 221 = .ok (.getfield 83, 3)) ∧ (decode cX12_routes 224 = .ok (.aload_n 0, 1)) ∧ (decode cX12_routes 225 = .ok (.iload 4, 2)) ∧ (decode cX12_routes 227 = .ok (.iload_n 3, 1)) ∧ (decode cX12_routes 228 = .ok (.invokevirtual 322, 3)) ∧ (decode cX12_routes 231 = .ok (.iaload, 1)) ∧ (decode cX12_routes 232 = .ok (.ldc_w 317, 3)) := by decide +kernel
theorem dX12_routes_205 : decode cX12_routes 205 = .ok (.iload 4, 2) := bdX12_routes_205.1
theorem dX12_routes_207 : decode cX12_routes 207 = .ok (.iload_n 3, 1) := bdX12_routes_205.2.1
theorem dX12_routes_208 : decode cX12_routes 208 = .ok (.iload_n 2, 1) := bdX12_routes_205.2.2.1
theorem dX12_routes_209 : decode cX12_routes 209 = .ok (.invokevirtual 318, 3) := bdX12_routes_205.2.2.2.1
theorem dX12_routes_212 : decode cX12_routes 212 = .ok (.istore 5, 2) := bdX12_routes_205.2.2.2.2.1
theorem dX12_routes_214 : decode cX12_routes 214 = .ok (.iload 5, 2) := bdX12_routes_205.2.2.2.2.2.1
theorem dX12_routes_216 : decode cX12_routes 216 = .ok (.iconst (-1), 1) := bdX12_routes_205.2.2.2.2.2.2.1
theorem dX12_routes_217 : decode cX12_routes 217 = .ok (.if_icmp .eq 63, 3) := bdX12_routes_205.2.2.2.2.2.2.2.1
theorem dX12_routes_220 : decode cX12_routes 220 = .ok (.aload_n 0, 1) := bdX12_routes_205.2.2.2.2.2.2.2.2.1
theorem dX12_routes_221 : decode cX12_routes 221 = .ok (.getfield 83, 3) := bdX12_routes_205.2.2.2.2.2.2.2.2.2.1
theorem dX12_routes_224 : decode cX12_routes 224 = .ok (.aload_n 0, 1) := bdX12_routes_205.2.2.2.2.2.2.2.2.2.2.1
theorem dX12_routes_225 : decode cX12_routes 225 = .ok (.iload 4, 2) := bdX12_routes_205.2.2.2.2.2.2.2.2.2.2.2.1
theorem dX12_routes_227 : decode cX12_routes 227 = .ok (.iload_n 3, 1) := bdX12_routes_205.2.2.2.2.2.2.2.2.2.2.2.2.1
theorem dX12_routes_228 : decode cX12_routes 228 = .ok (.invokevirtual 322, 3) := bdX12_routes_205.2.2.2.2.2.2.2.2.2.2.2.2.2.1
theorem dX12_routes_231 : decode cX12_routes 231 = .ok (.iaload, 1) := bdX12_routes_205.2.2.2.2.2.2.2.2.2.2.2.2.2.2.1
theorem dX12_routes_232 : decode cX12_routes 232 = .ok (.ldc_w 317, 3) := bdX12_routes_205.2.2.2.2.2.2.2.2.2.2.2.2.2.2.2
theorem bdX12_routes_235 : (decode cX12_routes 235 = .ok (.if_icmp .ge 45, 3)) ∧ (decode cX12_routes 238 = .ok (.aload_n 0, 1)) ∧ (decode cX12_routes 239 = .ok (.getfield 83, 3)) ∧ (decode cX12_routes 242 = .ok (.aload_n 0, 1)) ∧ (decode cX12_routes 243 = .ok (.iload 4, 2)) ∧ (decode cX12_routes 245 = .ok (.iload_n 3, 1)) ∧ (decode cX12_routes 246 = .ok (.invokevirtual 322, 3)) ∧ (decode cX12_routes 249 = .ok (.iaload, 1)) ∧ (decode cX12_routes 250 = .ok (.iload 5, 2)) ∧ (decode cX12_routes 252 = .ok (.iadd, 1)) ∧ (decode cX12_routes 253 = .ok (.aload_n 0, 1)) ∧ (decode cX12_routes 254 = .ok (.getfield 83, 3)) ∧ (decode cX12_routes 257 = .ok (.iload_n 3, 1)) ∧ (decode cX12_routes 258 = .ok (.iaload, 1)) ∧ (decode cX12_routes 259 = .ok (.if_icmp .ne 21, 3)) ∧ (decode cX12_routes 262 = .ok (.aload_n 0, 1)) := by decide +kernel
theorem dX12_routes_235 : decode cX12_routes 235 = .ok (.if_icmp .ge 45, 3) := bdX12_routes_235.1
theorem dX12_routes_238 : decode cX12_routes 238 = .ok (.aload_n 0, 1) := bdX12_routes_235.2.1
theorem dX12_routes_239 : decode cX12_routes 239 = .ok (.getfield 83, 3) := bdX12_routes_235.2.2.1
theorem dX12_routes_242 : decode cX12_routes 242 = .ok (.aload_n 0, 1) := bdX12_routes_235.2.2.2.1
theorem dX12_routes_243 : decode cX12_routes 243 = .ok (.iload 4, 2) := bdX12_routes_235.2.2.2.2.1
theorem dX12_routes_245 : decode cX12_routes 245 = .ok (.iload_n 3, 1) := bdX12_routes_235.2.2.2.2.2.1
theorem dX12_routes_246 : decode cX12_routes 246 = .ok (.invokevirtual 322, 3) := bdX12_routes_235.2.2.2.2.2.2.1
theorem dX12_routes_249 : decode cX12_routes 249 = .ok (.iaload, 1) := bdX12_routes_235.2.2.2.2.2.2.2.1
theorem dX12_routes_250 : decode cX12_routes 250 = .ok (.iload 5, 2) := bdX12_routes_235.2.2.2.2.2.2.2.2.1
theorem dX12_routes_252 : decode cX12_routes 252 = .ok (.iadd, 1) := bdX12_routes_235.2.2.2.2.2.2.2.2.2.1
theorem dX12_routes_253 : decode cX12_routes 253 = .ok (.aload_n 0, 1) := bdX12_routes_235.2.2.2.2.2.2.2.2.2.2.1
theorem dX12_routes_254 : decode cX12_routes 254 = .ok (.getfield 83, 3) := bdX12_routes_235.2.2.2.2.2.2.2.2.2.2.2.1
theorem dX12_routes_257 : decode cX12_routes 257 = .ok (.iload_n 3, 1) := bdX12_routes_235.2.2.2.2.2.2.2.2.2.2.2.2.1
theorem dX12_routes_258 : decode cX12_routes 258 = .ok (.iaload, 1) := bdX12_routes_235.2.2.2.2.2.2.2.2.2.2.2.2.2.1
theorem dX12_routes_259 : decode cX12_routes 259 = .ok (.if_icmp .ne 21, 3) := bdX12_routes_235.2.2.2.2.2.2.2.2.2.2.2.2.2.2.1
theorem dX12_routes_262 : decode cX12_routes 262 = .ok (.aload_n 0, 1) := bdX12_routes_235.2.2.2.2.2.2.2.2.2.2.2.2.2.2.2
theorem bdX12_routes_263 : (decode cX12_routes 263 = .ok (.getfield 80, 3)) ∧ (decode cX12_routes 266 = .ok (.bipush 36, 2)) ∧ (decode cX12_routes 268 = .ok (.iload_n 2, 1)) ∧ (decode cX12_routes 269 = .ok (.imul, 1)) ∧ (decode cX12_routes 270 = .ok (.bipush 6, 2)) ∧ (decode cX12_routes 272 = .ok (.iload_n 1, 1)) ∧ (decode cX12_routes 273 = .ok (.imul, 1)) ∧ (decode cX12_routes 274 = .ok (.iadd, 1)) ∧ (decode cX12_routes 275 = .ok (.iload_n 3, 1)) ∧ (decode cX12_routes 276 = .ok (.iadd, 1)) ∧ (decode cX12_routes 277 = .ok (.iload 4, 2)) ∧ (decode cX12_routes 279 = .ok (.iastore, 1)) ∧ (decode cX12_routes 280 = .ok (.iinc 4 (-1), 3)) ∧ (decode cX12_routes 283 = .ok (.goto (-89), 3)) ∧ (decode cX12_routes 286 = .ok (.iinc 3 1, 3)) ∧ (decode cX12_routes 289 = .ok (.goto (-128), 3)) := by decide +kernel
theorem dX12_routes_263 : decode cX12_routes 263 = .ok (.getfield 80, 3) := bdX12_routes_263.1
theorem dX12_routes_266 : decode cX12_routes 266 = .ok (.bipush 36, 2) := bdX12_routes_263.2.1
theorem dX12_routes_268 : decode cX12_routes 268 = .ok (.iload_n 2, 1) := bdX12_routes_263.2.2.1
theorem dX12_routes_269 : decode cX12_routes 269 = .ok (.imul, 1) := bdX12_routes_263.2.2.2.1
theorem dX12_routes_270 : decode cX12_routes 270 = .ok (.bipush 6, 2) := bdX12_routes_263.2.2.2.2.1
theorem dX12_routes_272 : decode cX12_routes 272 = .ok (.iload_n 1, 1) := bdX12_routes_263.2.2.2.2.2.1
theorem dX12_routes_273 : decode cX12_routes 273 = .ok (.imul, 1) := bdX12_routes_263.2.2.2.2.2.2.1
theorem dX12_routes_274 : decode cX12_routes 274 = .ok (.iadd, 1) := bdX12_routes_263.2.2.2.2.2.2.2.1
theorem dX12_routes_275 : decode cX12_routes 275 = .ok (.iload_n 3, 1) := bdX12_routes_263.2.2.2.2.2.2.2.2.1
theorem dX12_routes_276 : decode cX12_routes 276 = .ok (.iadd, 1) := bdX12_routes_263.2.2.2.2.2.2.2.2.2.1
theorem dX12_routes_277 : decode cX12_routes 277 = .ok (.iload 4, 2) := bdX12_routes_263.2.2.2.2.2.2.2.2.2.2.1
theorem dX12_routes_279 : decode cX12_routes 279 = .ok (.iastore, 1) := bdX12_routes_263.2.2.2.2.2.2.2.2.2.2.2.1
theorem dX12_routes_280 : decode cX12_routes 280 = .ok (.iinc 4 (-1), 3) := bdX12_routes_263.2.2.2.2.2.2.2.2.2.2.2.2.1
theorem dX12_routes_283 : decode cX12_routes 283 = .ok (.goto (-89), 3) := bdX12_routes_263.2.2.2.2.2.2.2.2.2.2.2.2.2.1
theorem dX12_routes_286 : decode cX12_routes 286 = .ok (.iinc 3 1, 3) := bdX12_routes_263.2.2.2.2.2.2.2.2.2.2.2.2.2.2.1
theorem dX12_routes_289 : decode cX12_routes 289 = .ok (.goto (-128), 3) := bdX12_routes_263.2.2.2.2.2.2.2.2.2.2.2.2.2.2.2
theorem dX12_routes_292 : decode cX12_routes 292 = .ok (.return_, 1) := by decide +kernel
theorem bdX12_allRoutes_0 : (decode cX12_allRoutes 0 = .ok (.iconst 0, 1)) ∧ (decode cX12_allRoutes 1 = .ok (.istore_n 1, 1)) ∧ (decode cX12_allRoutes 2 = .ok (.iload_n 1, 1)) ∧ (decode cX12_allRoutes 3 = .ok (.aload_n 0, 1)) ∧ (decode cX12_allRoutes 4 = .ok (.getfield 7, 3)) ∧ (decode cX12_allRoutes 7 = .ok (.iconst 1, 1)) ∧ (decode cX12_allRoutes 8 = .ok (.iaload, 1)) ∧ (decode cX12_allRoutes 9 = .ok (.if_icmp .ge 21, 3)) ∧ (decode cX12_allRoutes 12 = .ok (.aload_n 0, 1)) ∧ (decode cX12_allRoutes 13 = .ok (.iload_n 1, 1)) ∧ (decode cX12_allRoutes 14 = .ok (.iconst 0, 1)) ∧ (decode cX12_allRoutes 15 = .ok (.invokevirtual 325, 3)) ∧ (decode cX12_allRoutes 18 = .ok (.aload_n 0, 1)) ∧ (decode cX12_allRoutes 19 = .ok (.iload_n 1, 1)) ∧ (decode cX12_allRoutes 20 = .ok (.iconst 1, 1)) ∧ (decode cX12_allRoutes 21 = .ok (.invokevirtual 325, 3)) := by decide +kernel
theorem dX12_allRoutes_0 : decode cX12_allRoutes 0 = .ok (.iconst 0, 1) := bdX12_allRoutes_0.1
theorem dX12_allRoutes_1 : decode cX12_allRoutes 1 = .ok (.istore_n 1, 1) := bdX12_allRoutes_0.2.1
theorem dX12_allRoutes_2 : decode cX12_allRoutes 2 = .ok (.iload_n 1, 1) := bdX12_allRoutes_0.2.2.1
theorem dX12_allRoutes_3 : decode cX12_allRoutes 3 = .ok (.aload_n 0, 1) := bdX12_allRoutes_0.2.2.2.1
theorem dX12_allRoutes_4 : decode cX12_allRoutes 4 = .ok (.getfield 7, 3) := bdX12_allRoutes_0.2.2.2.2.1
theorem dX12_allRoutes_7 : decode cX12_allRoutes 7 = .ok (.iconst 1, 1) := bdX12_allRoutes_0.2.2.2.2.2.1
theorem dX12_allRoutes_8 : decode cX12_allRoutes 8 = .ok (.iaload, 1) := bdX12_allRoutes_0.2.2.2.2.2.2.1
theorem dX12_allRoutes_9 : decode cX12_allRoutes 9 = .ok (.if_icmp .ge 21, 3) := bdX12_allRoutes_0.2.2.2.2.2.2.2.1
theorem dX12_allRoutes_12 : decode cX12_allRoutes 12 = .ok (.aload_n 0, 1) := bdX12_allRoutes_0.2.2.2.2.2.2.2.2.1
theorem dX12_allRoutes_13 : decode cX12_allRoutes 13 = .ok (.iload_n 1, 1) := bdX12_allRoutes_0.2.2.2.2.2.2.2.2.2.1
theorem dX12_allRoutes_14 : decode cX12_allRoutes 14 = .ok (.iconst 0, 1) := bdX12_allRoutes_0.2.2.2.2.2.2.2.2.2.2.1
theorem dX12_allRoutes_15 : decode cX12_allRoutes 15 = .ok (.invokevirtual 325, 3) := bdX12_allRoutes_0.2.2.2.2.2.2.2.2.2.2.2.1
theorem dX12_allRoutes_18 : decode cX12_allRoutes 18 = .ok (.aload_n 0, 1) := bdX12_allRoutes_0.2.2.2.2.2.2.2.2.2.2.2.2.1
theorem dX12_allRoutes_19 : decode cX12_allRoutes 19 = .ok (.iload_n 1, 1) := bdX12_allRoutes_0.2.2.2.2.2.2.2.2.2.2.2.2.2.1
theorem dX12_allRoutes_20 : decode cX12_allRoutes 20 = .ok (.iconst 1, 1) := bdX12_allRoutes_0.2.2.2.2.2.2.2.2.2.2.2.2.2.2.1
theorem dX12_allRoutes_21 : decode cX12_allRoutes 21 = .ok (.invokevirtual 325, 3) := bdX12_allRoutes_0.2.2.2.2.2.2.2.2.2.2.2.2.2.2.2
theorem bdX12_allRoutes_24 : (decode cX12_allRoutes 24 = .ok (.iinc 1 1, 3)) ∧ (decode cX12_allRoutes 27 = .ok (.goto (-25), 3)) ∧ (decode cX12_allRoutes 30 = .ok (.return_, 1)) := by decide +kernel
theorem dX12_allRoutes_24 : decode cX12_allRoutes 24 = .ok (.iinc 1 1, 3) := bdX12_allRoutes_24.1
theorem dX12_allRoutes_27 : decode cX12_allRoutes 27 = .ok (.goto (-25), 3) := bdX12_allRoutes_24.2.1
theorem dX12_allRoutes_30 : decode cX12_allRoutes 30 = .ok (.return_, 1) := bdX12_allRoutes_24.2.2
theorem bdX12_walkOf_0 : (decode cX12_walkOf 0 = .ok (.aload_n 0, 1)) ∧ (decode cX12_walkOf 1 = .ok (.getfield 7, 3)) ∧ (decode cX12_walkOf 4 = .ok (.iconst 5, 1)) ∧ (decode cX12_walkOf 5 = .ok (.iaload, 1)) ∧ (decode cX12_walkOf 6 = .ok (.istore_n 2, 1)) ∧ (decode cX12_walkOf 7 = .ok (.ldc2_w 302, 3)) ∧ (decode cX12_walkOf 10 = .ok (.lstore_n 3, 1)) ∧ (decode cX12_walkOf 11 = .ok (.aload_n 0, 1)) ∧ (decode cX12_walkOf 12 = .ok (.getfield 69, 3)) ∧ (decode cX12_walkOf 15 = .ok (.iconst 0, 1)) ∧ (decode cX12_walkOf 16 = .ok (.aload_n 0, 1)) ∧ (decode cX12_walkOf 17 = .ok (.getfield 7, 3)) ∧ (decode cX12_walkOf 20 = .ok (.iconst 0, 1)) ∧ (decode cX12_walkOf 21 = .ok (.iaload, 1)) ∧ (decode cX12_walkOf 22 = .ok (.iastore, 1)) ∧ (decode cX12_walkOf 23 = .ok (.aload_n 0, 1)) := by decide +kernel
theorem dX12_walkOf_0 : decode cX12_walkOf 0 = .ok (.aload_n 0, 1) := bdX12_walkOf_0.1
theorem dX12_walkOf_1 : decode cX12_walkOf 1 = .ok (.getfield 7, 3) := bdX12_walkOf_0.2.1
theorem dX12_walkOf_4 : decode cX12_walkOf 4 = .ok (.iconst 5, 1) := bdX12_walkOf_0.2.2.1
theorem dX12_walkOf_5 : decode cX12_walkOf 5 = .ok (.iaload, 1) := bdX12_walkOf_0.2.2.2.1
theorem dX12_walkOf_6 : decode cX12_walkOf 6 = .ok (.istore_n 2, 1) := bdX12_walkOf_0.2.2.2.2.1
theorem dX12_walkOf_7 : decode cX12_walkOf 7 = .ok (.ldc2_w 302, 3) := bdX12_walkOf_0.2.2.2.2.2.1
theorem dX12_walkOf_10 : decode cX12_walkOf 10 = .ok (.lstore_n 3, 1) := bdX12_walkOf_0.2.2.2.2.2.2.1
theorem dX12_walkOf_11 : decode cX12_walkOf 11 = .ok (.aload_n 0, 1) := bdX12_walkOf_0.2.2.2.2.2.2.2.1
theorem dX12_walkOf_12 : decode cX12_walkOf 12 = .ok (.getfield 69, 3) := bdX12_walkOf_0.2.2.2.2.2.2.2.2.1
theorem dX12_walkOf_15 : decode cX12_walkOf 15 = .ok (.iconst 0, 1) := bdX12_walkOf_0.2.2.2.2.2.2.2.2.2.1
theorem dX12_walkOf_16 : decode cX12_walkOf 16 = .ok (.aload_n 0, 1) := bdX12_walkOf_0.2.2.2.2.2.2.2.2.2.2.1
theorem dX12_walkOf_17 : decode cX12_walkOf 17 = .ok (.getfield 7, 3) := bdX12_walkOf_0.2.2.2.2.2.2.2.2.2.2.2.1
theorem dX12_walkOf_20 : decode cX12_walkOf 20 = .ok (.iconst 0, 1) := bdX12_walkOf_0.2.2.2.2.2.2.2.2.2.2.2.2.1
theorem dX12_walkOf_21 : decode cX12_walkOf 21 = .ok (.iaload, 1) := bdX12_walkOf_0.2.2.2.2.2.2.2.2.2.2.2.2.2.1
theorem dX12_walkOf_22 : decode cX12_walkOf 22 = .ok (.iastore, 1) := bdX12_walkOf_0.2.2.2.2.2.2.2.2.2.2.2.2.2.2.1
theorem dX12_walkOf_23 : decode cX12_walkOf 23 = .ok (.aload_n 0, 1) := bdX12_walkOf_0.2.2.2.2.2.2.2.2.2.2.2.2.2.2.2
theorem bdX12_walkOf_24 : (decode cX12_walkOf 24 = .ok (.getfield 69, 3)) ∧ (decode cX12_walkOf 27 = .ok (.iconst 5, 1)) ∧ (decode cX12_walkOf 28 = .ok (.aload_n 0, 1)) ∧ (decode cX12_walkOf 29 = .ok (.iload_n 1, 1)) ∧ (decode cX12_walkOf 30 = .ok (.iconst 3, 1)) ∧ (decode cX12_walkOf 31 = .ok (.invokevirtual 103, 3)) ∧ (decode cX12_walkOf 34 = .ok (.iastore, 1)) ∧ (decode cX12_walkOf 35 = .ok (.aload_n 0, 1)) ∧ (decode cX12_walkOf 36 = .ok (.getfield 69, 3)) ∧ (decode cX12_walkOf 39 = .ok (.bipush 6, 2)) ∧ (decode cX12_walkOf 41 = .ok (.aload_n 0, 1)) ∧ (decode cX12_walkOf 42 = .ok (.iload_n 1, 1)) ∧ (decode cX12_walkOf 43 = .ok (.invokevirtual 117, 3)) ∧ (decode cX12_walkOf 46 = .ok (.iastore, 1)) ∧ (decode cX12_walkOf 47 = .ok (.aload_n 0, 1)) ∧ (decode cX12_walkOf 48 = .ok (.getfield 69, 3)) := by decide +kernel
theorem dX12_walkOf_24 : decode cX12_walkOf 24 = .ok (.getfield 69, 3) := bdX12_walkOf_24.1
theorem dX12_walkOf_27 : decode cX12_walkOf 27 = .ok (.iconst 5, 1) := bdX12_walkOf_24.2.1
theorem dX12_walkOf_28 : decode cX12_walkOf 28 = .ok (.aload_n 0, 1) := bdX12_walkOf_24.2.2.1
theorem dX12_walkOf_29 : decode cX12_walkOf 29 = .ok (.iload_n 1, 1) := bdX12_walkOf_24.2.2.2.1
theorem dX12_walkOf_30 : decode cX12_walkOf 30 = .ok (.iconst 3, 1) := bdX12_walkOf_24.2.2.2.2.1
theorem dX12_walkOf_31 : decode cX12_walkOf 31 = .ok (.invokevirtual 103, 3) := bdX12_walkOf_24.2.2.2.2.2.1
theorem dX12_walkOf_34 : decode cX12_walkOf 34 = .ok (.iastore, 1) := bdX12_walkOf_24.2.2.2.2.2.2.1
theorem dX12_walkOf_35 : decode cX12_walkOf 35 = .ok (.aload_n 0, 1) := bdX12_walkOf_24.2.2.2.2.2.2.2.1
theorem dX12_walkOf_36 : decode cX12_walkOf 36 = .ok (.getfield 69, 3) := bdX12_walkOf_24.2.2.2.2.2.2.2.2.1
theorem dX12_walkOf_39 : decode cX12_walkOf 39 = .ok (.bipush 6, 2) := bdX12_walkOf_24.2.2.2.2.2.2.2.2.2.1
theorem dX12_walkOf_41 : decode cX12_walkOf 41 = .ok (.aload_n 0, 1) := bdX12_walkOf_24.2.2.2.2.2.2.2.2.2.2.1
theorem dX12_walkOf_42 : decode cX12_walkOf 42 = .ok (.iload_n 1, 1) := bdX12_walkOf_24.2.2.2.2.2.2.2.2.2.2.2.1
theorem dX12_walkOf_43 : decode cX12_walkOf 43 = .ok (.invokevirtual 117, 3) := bdX12_walkOf_24.2.2.2.2.2.2.2.2.2.2.2.2.1
theorem dX12_walkOf_46 : decode cX12_walkOf 46 = .ok (.iastore, 1) := bdX12_walkOf_24.2.2.2.2.2.2.2.2.2.2.2.2.2.1
theorem dX12_walkOf_47 : decode cX12_walkOf 47 = .ok (.aload_n 0, 1) := bdX12_walkOf_24.2.2.2.2.2.2.2.2.2.2.2.2.2.2.1
theorem dX12_walkOf_48 : decode cX12_walkOf 48 = .ok (.getfield 69, 3) := bdX12_walkOf_24.2.2.2.2.2.2.2.2.2.2.2.2.2.2.2
theorem bdX12_walkOf_51 : (decode cX12_walkOf 51 = .ok (.bipush 7, 2)) ∧ (decode cX12_walkOf 53 = .ok (.aload_n 0, 1)) ∧ (decode cX12_walkOf 54 = .ok (.aload_n 0, 1)) ∧ (decode cX12_walkOf 55 = .ok (.iload_n 1, 1)) ∧ (decode cX12_walkOf 56 = .ok (.invokevirtual 304, 3)) ∧ (decode cX12_walkOf 59 = .ok (.invokevirtual 292, 3)) ∧ (decode cX12_walkOf 62 = .ok (.iastore, 1)) ∧ (decode cX12_walkOf 63 = .ok (.iconst 0, 1)) ∧ (decode cX12_walkOf 64 = .ok (.istore 5, 2)) ∧ (decode cX12_walkOf 66 = .ok (.iload_n 2, 1)) ∧ (decode cX12_walkOf 67 = .ok (.iconst (-1), 1)) ∧ (decode cX12_walkOf 68 = .ok (.if_icmp .eq 56, 3)) ∧ (decode cX12_walkOf 71 = .ok (.iload 5, 2)) ∧ (decode cX12_walkOf 73 = .ok (.aload_n 0, 1)) ∧ (decode cX12_walkOf 74 = .ok (.getfield 30, 3)) ∧ (decode cX12_walkOf 77 = .ok (.iload_n 2, 1)) := by decide +kernel
theorem dX12_walkOf_51 : decode cX12_walkOf 51 = .ok (.bipush 7, 2) := bdX12_walkOf_51.1
theorem dX12_walkOf_53 : decode cX12_walkOf 53 = .ok (.aload_n 0, 1) := bdX12_walkOf_51.2.1
theorem dX12_walkOf_54 : decode cX12_walkOf 54 = .ok (.aload_n 0, 1) := bdX12_walkOf_51.2.2.1
theorem dX12_walkOf_55 : decode cX12_walkOf 55 = .ok (.iload_n 1, 1) := bdX12_walkOf_51.2.2.2.1
theorem dX12_walkOf_56 : decode cX12_walkOf 56 = .ok (.invokevirtual 304, 3) := bdX12_walkOf_51.2.2.2.2.1
theorem dX12_walkOf_59 : decode cX12_walkOf 59 = .ok (.invokevirtual 292, 3) := bdX12_walkOf_51.2.2.2.2.2.1
theorem dX12_walkOf_62 : decode cX12_walkOf 62 = .ok (.iastore, 1) := bdX12_walkOf_51.2.2.2.2.2.2.1
theorem dX12_walkOf_63 : decode cX12_walkOf 63 = .ok (.iconst 0, 1) := bdX12_walkOf_51.2.2.2.2.2.2.2.1
theorem dX12_walkOf_64 : decode cX12_walkOf 64 = .ok (.istore 5, 2) := bdX12_walkOf_51.2.2.2.2.2.2.2.2.1
theorem dX12_walkOf_66 : decode cX12_walkOf 66 = .ok (.iload_n 2, 1) := bdX12_walkOf_51.2.2.2.2.2.2.2.2.2.1
theorem dX12_walkOf_67 : decode cX12_walkOf 67 = .ok (.iconst (-1), 1) := bdX12_walkOf_51.2.2.2.2.2.2.2.2.2.2.1
theorem dX12_walkOf_68 : decode cX12_walkOf 68 = .ok (.if_icmp .eq 56, 3) := bdX12_walkOf_51.2.2.2.2.2.2.2.2.2.2.2.1
theorem dX12_walkOf_71 : decode cX12_walkOf 71 = .ok (.iload 5, 2) := bdX12_walkOf_51.2.2.2.2.2.2.2.2.2.2.2.2.1
theorem dX12_walkOf_73 : decode cX12_walkOf 73 = .ok (.aload_n 0, 1) := bdX12_walkOf_51.2.2.2.2.2.2.2.2.2.2.2.2.2.1
theorem dX12_walkOf_74 : decode cX12_walkOf 74 = .ok (.getfield 30, 3) := bdX12_walkOf_51.2.2.2.2.2.2.2.2.2.2.2.2.2.2.1
theorem dX12_walkOf_77 : decode cX12_walkOf 77 = .ok (.iload_n 2, 1) := bdX12_walkOf_51.2.2.2.2.2.2.2.2.2.2.2.2.2.2.2
theorem bdX12_walkOf_78 : (decode cX12_walkOf 78 = .ok (.iaload, 1)) ∧ (decode cX12_walkOf 79 = .ok (.if_icmp .ge 45, 3)) ∧ (decode cX12_walkOf 82 = .ok (.aload_n 0, 1)) ∧ (decode cX12_walkOf 83 = .ok (.getfield 33, 3)) ∧ (decode cX12_walkOf 86 = .ok (.bipush 10, 2)) ∧ (decode cX12_walkOf 88 = .ok (.iload_n 2, 1)) ∧ (decode cX12_walkOf 89 = .ok (.imul, 1)) ∧ (decode cX12_walkOf 90 = .ok (.iload 5, 2)) ∧ (decode cX12_walkOf 92 = .ok (.iadd, 1)) ∧ (decode cX12_walkOf 93 = .ok (.iaload, 1)) ∧ (decode cX12_walkOf 94 = .ok (.ifCond .ne 22, 3)) ∧ (decode cX12_walkOf 97 = .ok (.aload_n 0, 1)) ∧ (decode cX12_walkOf 98 = .ok (.aload_n 0, 1)) ∧ (decode cX12_walkOf 99 = .ok (.getfield 36, 3)) ∧ (decode cX12_walkOf 102 = .ok (.bipush 10, 2)) ∧ (decode cX12_walkOf 104 = .ok (.iload_n 2, 1)) := by decide +kernel
theorem dX12_walkOf_78 : decode cX12_walkOf 78 = .ok (.iaload, 1) := bdX12_walkOf_78.1
theorem dX12_walkOf_79 : decode cX12_walkOf 79 = .ok (.if_icmp .ge 45, 3) := bdX12_walkOf_78.2.1
theorem dX12_walkOf_82 : decode cX12_walkOf 82 = .ok (.aload_n 0, 1) := bdX12_walkOf_78.2.2.1
theorem dX12_walkOf_83 : decode cX12_walkOf 83 = .ok (.getfield 33, 3) := bdX12_walkOf_78.2.2.2.1
theorem dX12_walkOf_86 : decode cX12_walkOf 86 = .ok (.bipush 10, 2) := bdX12_walkOf_78.2.2.2.2.1
theorem dX12_walkOf_88 : decode cX12_walkOf 88 = .ok (.iload_n 2, 1) := bdX12_walkOf_78.2.2.2.2.2.1
theorem dX12_walkOf_89 : decode cX12_walkOf 89 = .ok (.imul, 1) := bdX12_walkOf_78.2.2.2.2.2.2.1
theorem dX12_walkOf_90 : decode cX12_walkOf 90 = .ok (.iload 5, 2) := bdX12_walkOf_78.2.2.2.2.2.2.2.1
theorem dX12_walkOf_92 : decode cX12_walkOf 92 = .ok (.iadd, 1) := bdX12_walkOf_78.2.2.2.2.2.2.2.2.1
theorem dX12_walkOf_93 : decode cX12_walkOf 93 = .ok (.iaload, 1) := bdX12_walkOf_78.2.2.2.2.2.2.2.2.2.1
theorem dX12_walkOf_94 : decode cX12_walkOf 94 = .ok (.ifCond .ne 22, 3) := bdX12_walkOf_78.2.2.2.2.2.2.2.2.2.2.1
theorem dX12_walkOf_97 : decode cX12_walkOf 97 = .ok (.aload_n 0, 1) := bdX12_walkOf_78.2.2.2.2.2.2.2.2.2.2.2.1
theorem dX12_walkOf_98 : decode cX12_walkOf 98 = .ok (.aload_n 0, 1) := bdX12_walkOf_78.2.2.2.2.2.2.2.2.2.2.2.2.1
theorem dX12_walkOf_99 : decode cX12_walkOf 99 = .ok (.getfield 36, 3) := bdX12_walkOf_78.2.2.2.2.2.2.2.2.2.2.2.2.2.1
theorem dX12_walkOf_102 : decode cX12_walkOf 102 = .ok (.bipush 10, 2) := bdX12_walkOf_78.2.2.2.2.2.2.2.2.2.2.2.2.2.2.1
theorem dX12_walkOf_104 : decode cX12_walkOf 104 = .ok (.iload_n 2, 1) := bdX12_walkOf_78.2.2.2.2.2.2.2.2.2.2.2.2.2.2.2
theorem bdX12_walkOf_105 : (decode cX12_walkOf 105 = .ok (.imul, 1)) ∧ (decode cX12_walkOf 106 = .ok (.iload 5, 2)) ∧ (decode cX12_walkOf 108 = .ok (.iadd, 1)) ∧ (decode cX12_walkOf 109 = .ok (.iaload, 1)) ∧ (decode cX12_walkOf 110 = .ok (.invokevirtual 298, 3)) ∧ (decode cX12_walkOf 113 = .ok (.goto 4, 3)) ∧ (decode cX12_walkOf 116 = .ok (.lload_n 3, 1)) ∧ (decode cX12_walkOf 117 = .ok (.lstore_n 3, 1)) ∧ (decode cX12_walkOf 118 = .ok (.iinc 5 1, 3)) ∧ (decode cX12_walkOf 121 = .ok (.goto (-55), 3)) ∧ (decode cX12_walkOf 124 = .ok (.lload_n 3, 1)) ∧ (decode cX12_walkOf 125 = .ok (.lconst 0, 1)) ∧ (decode cX12_walkOf 126 = .ok (.lcmp, 1)) ∧ (decode cX12_walkOf 127 = .ok (.ifCond .ge 7, 3)) ∧ (decode cX12_walkOf 130 = .ok (.iconst 0, 1)) ∧ (decode cX12_walkOf 131 = .ok (.goto 18, 3)) := by decide +kernel
theorem dX12_walkOf_105 : decode cX12_walkOf 105 = .ok (.imul, 1) := bdX12_walkOf_105.1
theorem dX12_walkOf_106 : decode cX12_walkOf 106 = .ok (.iload 5, 2) := bdX12_walkOf_105.2.1
theorem dX12_walkOf_108 : decode cX12_walkOf 108 = .ok (.iadd, 1) := bdX12_walkOf_105.2.2.1
theorem dX12_walkOf_109 : decode cX12_walkOf 109 = .ok (.iaload, 1) := bdX12_walkOf_105.2.2.2.1
theorem dX12_walkOf_110 : decode cX12_walkOf 110 = .ok (.invokevirtual 298, 3) := bdX12_walkOf_105.2.2.2.2.1
theorem dX12_walkOf_113 : decode cX12_walkOf 113 = .ok (.goto 4, 3) := bdX12_walkOf_105.2.2.2.2.2.1
theorem dX12_walkOf_116 : decode cX12_walkOf 116 = .ok (.lload_n 3, 1) := bdX12_walkOf_105.2.2.2.2.2.2.1
theorem dX12_walkOf_117 : decode cX12_walkOf 117 = .ok (.lstore_n 3, 1) := bdX12_walkOf_105.2.2.2.2.2.2.2.1
theorem dX12_walkOf_118 : decode cX12_walkOf 118 = .ok (.iinc 5 1, 3) := bdX12_walkOf_105.2.2.2.2.2.2.2.2.1
theorem dX12_walkOf_121 : decode cX12_walkOf 121 = .ok (.goto (-55), 3) := bdX12_walkOf_105.2.2.2.2.2.2.2.2.2.1
theorem dX12_walkOf_124 : decode cX12_walkOf 124 = .ok (.lload_n 3, 1) := bdX12_walkOf_105.2.2.2.2.2.2.2.2.2.2.1
theorem dX12_walkOf_125 : decode cX12_walkOf 125 = .ok (.lconst 0, 1) := bdX12_walkOf_105.2.2.2.2.2.2.2.2.2.2.2.1
theorem dX12_walkOf_126 : decode cX12_walkOf 126 = .ok (.lcmp, 1) := bdX12_walkOf_105.2.2.2.2.2.2.2.2.2.2.2.2.1
theorem dX12_walkOf_127 : decode cX12_walkOf 127 = .ok (.ifCond .ge 7, 3) := bdX12_walkOf_105.2.2.2.2.2.2.2.2.2.2.2.2.2.1
theorem dX12_walkOf_130 : decode cX12_walkOf 130 = .ok (.iconst 0, 1) := bdX12_walkOf_105.2.2.2.2.2.2.2.2.2.2.2.2.2.2.1
theorem dX12_walkOf_131 : decode cX12_walkOf 131 = .ok (.goto 18, 3) := bdX12_walkOf_105.2.2.2.2.2.2.2.2.2.2.2.2.2.2.2
theorem bdX12_walkOf_134 : (decode cX12_walkOf 134 = .ok (.lload_n 3, 1)) ∧ (decode cX12_walkOf 135 = .ok (.ldc2_w 307, 3)) ∧ (decode cX12_walkOf 138 = .ok (.lcmp, 1)) ∧ (decode cX12_walkOf 139 = .ok (.ifCond .le 8, 3)) ∧ (decode cX12_walkOf 142 = .ok (.bipush 10, 2)) ∧ (decode cX12_walkOf 144 = .ok (.goto 5, 3)) ∧ (decode cX12_walkOf 147 = .ok (.lload_n 3, 1)) ∧ (decode cX12_walkOf 148 = .ok (.l2i, 1)) ∧ (decode cX12_walkOf 149 = .ok (.ireturn, 1)) := by decide +kernel
theorem dX12_walkOf_134 : decode cX12_walkOf 134 = .ok (.lload_n 3, 1) := bdX12_walkOf_134.1
theorem dX12_walkOf_135 : decode cX12_walkOf 135 = .ok (.ldc2_w 307, 3) := bdX12_walkOf_134.2.1
theorem dX12_walkOf_138 : decode cX12_walkOf 138 = .ok (.lcmp, 1) := bdX12_walkOf_134.2.2.1
theorem dX12_walkOf_139 : decode cX12_walkOf 139 = .ok (.ifCond .le 8, 3) := bdX12_walkOf_134.2.2.2.1
theorem dX12_walkOf_142 : decode cX12_walkOf 142 = .ok (.bipush 10, 2) := bdX12_walkOf_134.2.2.2.2.1
theorem dX12_walkOf_144 : decode cX12_walkOf 144 = .ok (.goto 5, 3) := bdX12_walkOf_134.2.2.2.2.2.1
theorem dX12_walkOf_147 : decode cX12_walkOf 147 = .ok (.lload_n 3, 1) := bdX12_walkOf_134.2.2.2.2.2.2.1
theorem dX12_walkOf_148 : decode cX12_walkOf 148 = .ok (.l2i, 1) := bdX12_walkOf_134.2.2.2.2.2.2.2.1
theorem dX12_walkOf_149 : decode cX12_walkOf 149 = .ok (.ireturn, 1) := bdX12_walkOf_134.2.2.2.2.2.2.2.2
theorem bdX12_headOf_0 : (decode cX12_headOf 0 = .ok (.aload_n 0, 1)) ∧ (decode cX12_headOf 1 = .ok (.iload_n 1, 1)) ∧ (decode cX12_headOf 2 = .ok (.aload_n 0, 1)) ∧ (decode cX12_headOf 3 = .ok (.iload_n 1, 1)) ∧ (decode cX12_headOf 4 = .ok (.iconst 5, 1)) ∧ (decode cX12_headOf 5 = .ok (.invokevirtual 103, 3)) ∧ (decode cX12_headOf 8 = .ok (.iconst 1, 1)) ∧ (decode cX12_headOf 9 = .ok (.if_icmp .ne 7, 3)) ∧ (decode cX12_headOf 12 = .ok (.iconst 2, 1)) ∧ (decode cX12_headOf 13 = .ok (.goto 4, 3)) ∧ (decode cX12_headOf 16 = .ok (.iconst 1, 1)) ∧ (decode cX12_headOf 17 = .ok (.invokevirtual 103, 3)) ∧ (decode cX12_headOf 20 = .ok (.ireturn, 1)) := by decide +kernel
theorem dX12_headOf_0 : decode cX12_headOf 0 = .ok (.aload_n 0, 1) := bdX12_headOf_0.1
theorem dX12_headOf_1 : decode cX12_headOf 1 = .ok (.iload_n 1, 1) := bdX12_headOf_0.2.1
theorem dX12_headOf_2 : decode cX12_headOf 2 = .ok (.aload_n 0, 1) := bdX12_headOf_0.2.2.1
theorem dX12_headOf_3 : decode cX12_headOf 3 = .ok (.iload_n 1, 1) := bdX12_headOf_0.2.2.2.1
theorem dX12_headOf_4 : decode cX12_headOf 4 = .ok (.iconst 5, 1) := bdX12_headOf_0.2.2.2.2.1
theorem dX12_headOf_5 : decode cX12_headOf 5 = .ok (.invokevirtual 103, 3) := bdX12_headOf_0.2.2.2.2.2.1
theorem dX12_headOf_8 : decode cX12_headOf 8 = .ok (.iconst 1, 1) := bdX12_headOf_0.2.2.2.2.2.2.1
theorem dX12_headOf_9 : decode cX12_headOf 9 = .ok (.if_icmp .ne 7, 3) := bdX12_headOf_0.2.2.2.2.2.2.2.1
theorem dX12_headOf_12 : decode cX12_headOf 12 = .ok (.iconst 2, 1) := bdX12_headOf_0.2.2.2.2.2.2.2.2.1
theorem dX12_headOf_13 : decode cX12_headOf 13 = .ok (.goto 4, 3) := bdX12_headOf_0.2.2.2.2.2.2.2.2.2.1
theorem dX12_headOf_16 : decode cX12_headOf 16 = .ok (.iconst 1, 1) := bdX12_headOf_0.2.2.2.2.2.2.2.2.2.2.1
theorem dX12_headOf_17 : decode cX12_headOf 17 = .ok (.invokevirtual 103, 3) := bdX12_headOf_0.2.2.2.2.2.2.2.2.2.2.2.1
theorem dX12_headOf_20 : decode cX12_headOf 20 = .ok (.ireturn, 1) := bdX12_headOf_0.2.2.2.2.2.2.2.2.2.2.2.2
theorem bdX12_stepsOff_0 : (decode cX12_stepsOff 0 = .ok (.aload_n 0, 1)) ∧ (decode cX12_stepsOff 1 = .ok (.iload_n 1, 1)) ∧ (decode cX12_stepsOff 2 = .ok (.invokevirtual 331, 3)) ∧ (decode cX12_stepsOff 5 = .ok (.istore_n 3, 1)) ∧ (decode cX12_stepsOff 6 = .ok (.iload_n 2, 1)) ∧ (decode cX12_stepsOff 7 = .ok (.bipush 10, 2)) ∧ (decode cX12_stepsOff 9 = .ok (.irem, 1)) ∧ (decode cX12_stepsOff 10 = .ok (.istore 4, 2)) ∧ (decode cX12_stepsOff 12 = .ok (.iload_n 3, 1)) ∧ (decode cX12_stepsOff 13 = .ok (.iload 4, 2)) ∧ (decode cX12_stepsOff 15 = .ok (.if_icmp .eq 19, 3)) ∧ (decode cX12_stepsOff 18 = .ok (.aload_n 0, 1)) ∧ (decode cX12_stepsOff 19 = .ok (.iload_n 3, 1)) ∧ (decode cX12_stepsOff 20 = .ok (.invokevirtual 292, 3)) ∧ (decode cX12_stepsOff 23 = .ok (.aload_n 0, 1)) ∧ (decode cX12_stepsOff 24 = .ok (.iload_n 3, 1)) := by decide +kernel
theorem dX12_stepsOff_0 : decode cX12_stepsOff 0 = .ok (.aload_n 0, 1) := bdX12_stepsOff_0.1
theorem dX12_stepsOff_1 : decode cX12_stepsOff 1 = .ok (.iload_n 1, 1) := bdX12_stepsOff_0.2.1
theorem dX12_stepsOff_2 : decode cX12_stepsOff 2 = .ok (.invokevirtual 331, 3) := bdX12_stepsOff_0.2.2.1
theorem dX12_stepsOff_5 : decode cX12_stepsOff 5 = .ok (.istore_n 3, 1) := bdX12_stepsOff_0.2.2.2.1
theorem dX12_stepsOff_6 : decode cX12_stepsOff 6 = .ok (.iload_n 2, 1) := bdX12_stepsOff_0.2.2.2.2.1
theorem dX12_stepsOff_7 : decode cX12_stepsOff 7 = .ok (.bipush 10, 2) := bdX12_stepsOff_0.2.2.2.2.2.1
theorem dX12_stepsOff_9 : decode cX12_stepsOff 9 = .ok (.irem, 1) := bdX12_stepsOff_0.2.2.2.2.2.2.1
theorem dX12_stepsOff_10 : decode cX12_stepsOff 10 = .ok (.istore 4, 2) := bdX12_stepsOff_0.2.2.2.2.2.2.2.1
theorem dX12_stepsOff_12 : decode cX12_stepsOff 12 = .ok (.iload_n 3, 1) := bdX12_stepsOff_0.2.2.2.2.2.2.2.2.1
theorem dX12_stepsOff_13 : decode cX12_stepsOff 13 = .ok (.iload 4, 2) := bdX12_stepsOff_0.2.2.2.2.2.2.2.2.2.1
theorem dX12_stepsOff_15 : decode cX12_stepsOff 15 = .ok (.if_icmp .eq 19, 3) := bdX12_stepsOff_0.2.2.2.2.2.2.2.2.2.2.1
theorem dX12_stepsOff_18 : decode cX12_stepsOff 18 = .ok (.aload_n 0, 1) := bdX12_stepsOff_0.2.2.2.2.2.2.2.2.2.2.2.1
theorem dX12_stepsOff_19 : decode cX12_stepsOff 19 = .ok (.iload_n 3, 1) := bdX12_stepsOff_0.2.2.2.2.2.2.2.2.2.2.2.2.1
theorem dX12_stepsOff_20 : decode cX12_stepsOff 20 = .ok (.invokevirtual 292, 3) := bdX12_stepsOff_0.2.2.2.2.2.2.2.2.2.2.2.2.2.1
theorem dX12_stepsOff_23 : decode cX12_stepsOff 23 = .ok (.aload_n 0, 1) := bdX12_stepsOff_0.2.2.2.2.2.2.2.2.2.2.2.2.2.2.1
theorem dX12_stepsOff_24 : decode cX12_stepsOff 24 = .ok (.iload_n 3, 1) := bdX12_stepsOff_0.2.2.2.2.2.2.2.2.2.2.2.2.2.2.2
theorem bdX12_stepsOff_25 : (decode cX12_stepsOff 25 = .ok (.iconst 0, 1)) ∧ (decode cX12_stepsOff 26 = .ok (.invokevirtual 295, 3)) ∧ (decode cX12_stepsOff 29 = .ok (.if_icmp .lt 5, 3)) ∧ (decode cX12_stepsOff 32 = .ok (.iconst 0, 1)) ∧ (decode cX12_stepsOff 33 = .ok (.ireturn, 1)) ∧ (decode cX12_stepsOff 34 = .ok (.aload_n 0, 1)) ∧ (decode cX12_stepsOff 35 = .ok (.iload_n 3, 1)) ∧ (decode cX12_stepsOff 36 = .ok (.iload 4, 2)) ∧ (decode cX12_stepsOff 38 = .ok (.iconst 0, 1)) ∧ (decode cX12_stepsOff 39 = .ok (.iconst 1, 1)) ∧ (decode cX12_stepsOff 40 = .ok (.invokevirtual 309, 3)) ∧ (decode cX12_stepsOff 43 = .ok (.aload_n 0, 1)) ∧ (decode cX12_stepsOff 44 = .ok (.iload_n 1, 1)) ∧ (decode cX12_stepsOff 45 = .ok (.bipush 11, 2)) ∧ (decode cX12_stepsOff 47 = .ok (.aload_n 0, 1)) ∧ (decode cX12_stepsOff 48 = .ok (.iload_n 1, 1)) := by decide +kernel
theorem dX12_stepsOff_25 : decode cX12_stepsOff 25 = .ok (.iconst 0, 1) := bdX12_stepsOff_25.1
theorem dX12_stepsOff_26 : decode cX12_stepsOff 26 = .ok (.invokevirtual 295, 3) := bdX12_stepsOff_25.2.1
theorem dX12_stepsOff_29 : decode cX12_stepsOff 29 = .ok (.if_icmp .lt 5, 3) := bdX12_stepsOff_25.2.2.1
theorem dX12_stepsOff_32 : decode cX12_stepsOff 32 = .ok (.iconst 0, 1) := bdX12_stepsOff_25.2.2.2.1
theorem dX12_stepsOff_33 : decode cX12_stepsOff 33 = .ok (.ireturn, 1) := bdX12_stepsOff_25.2.2.2.2.1
theorem dX12_stepsOff_34 : decode cX12_stepsOff 34 = .ok (.aload_n 0, 1) := bdX12_stepsOff_25.2.2.2.2.2.1
theorem dX12_stepsOff_35 : decode cX12_stepsOff 35 = .ok (.iload_n 3, 1) := bdX12_stepsOff_25.2.2.2.2.2.2.1
theorem dX12_stepsOff_36 : decode cX12_stepsOff 36 = .ok (.iload 4, 2) := bdX12_stepsOff_25.2.2.2.2.2.2.2.1
theorem dX12_stepsOff_38 : decode cX12_stepsOff 38 = .ok (.iconst 0, 1) := bdX12_stepsOff_25.2.2.2.2.2.2.2.2.1
theorem dX12_stepsOff_39 : decode cX12_stepsOff 39 = .ok (.iconst 1, 1) := bdX12_stepsOff_25.2.2.2.2.2.2.2.2.2.1
theorem dX12_stepsOff_40 : decode cX12_stepsOff 40 = .ok (.invokevirtual 309, 3) := bdX12_stepsOff_25.2.2.2.2.2.2.2.2.2.2.1
theorem dX12_stepsOff_43 : decode cX12_stepsOff 43 = .ok (.aload_n 0, 1) := bdX12_stepsOff_25.2.2.2.2.2.2.2.2.2.2.2.1
theorem dX12_stepsOff_44 : decode cX12_stepsOff 44 = .ok (.iload_n 1, 1) := bdX12_stepsOff_25.2.2.2.2.2.2.2.2.2.2.2.2.1
theorem dX12_stepsOff_45 : decode cX12_stepsOff 45 = .ok (.bipush 11, 2) := bdX12_stepsOff_25.2.2.2.2.2.2.2.2.2.2.2.2.2.1
theorem dX12_stepsOff_47 : decode cX12_stepsOff 47 = .ok (.aload_n 0, 1) := bdX12_stepsOff_25.2.2.2.2.2.2.2.2.2.2.2.2.2.2.1
theorem dX12_stepsOff_48 : decode cX12_stepsOff 48 = .ok (.iload_n 1, 1) := bdX12_stepsOff_25.2.2.2.2.2.2.2.2.2.2.2.2.2.2.2
theorem bdX12_stepsOff_49 : (decode cX12_stepsOff 49 = .ok (.bipush 11, 2)) ∧ (decode cX12_stepsOff 51 = .ok (.invokevirtual 103, 3)) ∧ (decode cX12_stepsOff 54 = .ok (.iconst 1, 1)) ∧ (decode cX12_stepsOff 55 = .ok (.iadd, 1)) ∧ (decode cX12_stepsOff 56 = .ok (.invokevirtual 110, 3)) ∧ (decode cX12_stepsOff 59 = .ok (.iconst 1, 1)) ∧ (decode cX12_stepsOff 60 = .ok (.ireturn, 1)) := by decide +kernel
theorem dX12_stepsOff_49 : decode cX12_stepsOff 49 = .ok (.bipush 11, 2) := bdX12_stepsOff_49.1
theorem dX12_stepsOff_51 : decode cX12_stepsOff 51 = .ok (.invokevirtual 103, 3) := bdX12_stepsOff_49.2.1
theorem dX12_stepsOff_54 : decode cX12_stepsOff 54 = .ok (.iconst 1, 1) := bdX12_stepsOff_49.2.2.1
theorem dX12_stepsOff_55 : decode cX12_stepsOff 55 = .ok (.iadd, 1) := bdX12_stepsOff_49.2.2.2.1
theorem dX12_stepsOff_56 : decode cX12_stepsOff 56 = .ok (.invokevirtual 110, 3) := bdX12_stepsOff_49.2.2.2.2.1
theorem dX12_stepsOff_59 : decode cX12_stepsOff 59 = .ok (.iconst 1, 1) := bdX12_stepsOff_49.2.2.2.2.2.1
theorem dX12_stepsOff_60 : decode cX12_stepsOff 60 = .ok (.ireturn, 1) := bdX12_stepsOff_49.2.2.2.2.2.2
theorem bdX12_placeOf_0 : (decode cX12_placeOf 0 = .ok (.sipush 580, 3)) ∧ (decode cX12_placeOf 3 = .ok (.bipush 80, 2)) ∧ (decode cX12_placeOf 5 = .ok (.iload_n 1, 1)) ∧ (decode cX12_placeOf 6 = .ok (.imul, 1)) ∧ (decode cX12_placeOf 7 = .ok (.iadd, 1)) ∧ (decode cX12_placeOf 8 = .ok (.bipush 40, 2)) ∧ (decode cX12_placeOf 10 = .ok (.iload_n 2, 1)) ∧ (decode cX12_placeOf 11 = .ok (.imul, 1)) ∧ (decode cX12_placeOf 12 = .ok (.iadd, 1)) ∧ (decode cX12_placeOf 13 = .ok (.iload_n 3, 1)) ∧ (decode cX12_placeOf 14 = .ok (.iadd, 1)) ∧ (decode cX12_placeOf 15 = .ok (.ireturn, 1)) := by decide +kernel
theorem dX12_placeOf_0 : decode cX12_placeOf 0 = .ok (.sipush 580, 3) := bdX12_placeOf_0.1
theorem dX12_placeOf_3 : decode cX12_placeOf 3 = .ok (.bipush 80, 2) := bdX12_placeOf_0.2.1
theorem dX12_placeOf_5 : decode cX12_placeOf 5 = .ok (.iload_n 1, 1) := bdX12_placeOf_0.2.2.1
theorem dX12_placeOf_6 : decode cX12_placeOf 6 = .ok (.imul, 1) := bdX12_placeOf_0.2.2.2.1
theorem dX12_placeOf_7 : decode cX12_placeOf 7 = .ok (.iadd, 1) := bdX12_placeOf_0.2.2.2.2.1
theorem dX12_placeOf_8 : decode cX12_placeOf 8 = .ok (.bipush 40, 2) := bdX12_placeOf_0.2.2.2.2.2.1
theorem dX12_placeOf_10 : decode cX12_placeOf 10 = .ok (.iload_n 2, 1) := bdX12_placeOf_0.2.2.2.2.2.2.1
theorem dX12_placeOf_11 : decode cX12_placeOf 11 = .ok (.imul, 1) := bdX12_placeOf_0.2.2.2.2.2.2.2.1
theorem dX12_placeOf_12 : decode cX12_placeOf 12 = .ok (.iadd, 1) := bdX12_placeOf_0.2.2.2.2.2.2.2.2.1
theorem dX12_placeOf_13 : decode cX12_placeOf 13 = .ok (.iload_n 3, 1) := bdX12_placeOf_0.2.2.2.2.2.2.2.2.2.1
theorem dX12_placeOf_14 : decode cX12_placeOf 14 = .ok (.iadd, 1) := bdX12_placeOf_0.2.2.2.2.2.2.2.2.2.2.1
theorem dX12_placeOf_15 : decode cX12_placeOf 15 = .ok (.ireturn, 1) := bdX12_placeOf_0.2.2.2.2.2.2.2.2.2.2.2
theorem bdX12_climbs_0 : (decode cX12_climbs 0 = .ok (.aload_n 0, 1)) ∧ (decode cX12_climbs 1 = .ok (.iload_n 1, 1)) ∧ (decode cX12_climbs 2 = .ok (.iconst 3, 1)) ∧ (decode cX12_climbs 3 = .ok (.invokevirtual 103, 3)) ∧ (decode cX12_climbs 6 = .ok (.iconst 1, 1)) ∧ (decode cX12_climbs 7 = .ok (.isub, 1)) ∧ (decode cX12_climbs 8 = .ok (.istore_n 3, 1)) ∧ (decode cX12_climbs 9 = .ok (.iload_n 3, 1)) ∧ (decode cX12_climbs 10 = .ok (.istore 4, 2)) ∧ (decode cX12_climbs 12 = .ok (.iload 4, 2)) ∧ (decode cX12_climbs 14 = .ok (.ifCond .lt 104, 3)) ∧ (decode cX12_climbs 17 = .ok (.aload_n 0, 1)) ∧ (decode cX12_climbs 18 = .ok (.iload_n 1, 1)) ∧ (decode cX12_climbs 19 = .ok (.iload_n 2, 1)) ∧ (decode cX12_climbs 20 = .ok (.iload 4, 2)) ∧ (decode cX12_climbs 22 = .ok (.invokevirtual 334, 3)) := by decide +kernel
theorem dX12_climbs_0 : decode cX12_climbs 0 = .ok (.aload_n 0, 1) := bdX12_climbs_0.1
theorem dX12_climbs_1 : decode cX12_climbs 1 = .ok (.iload_n 1, 1) := bdX12_climbs_0.2.1
theorem dX12_climbs_2 : decode cX12_climbs 2 = .ok (.iconst 3, 1) := bdX12_climbs_0.2.2.1
theorem dX12_climbs_3 : decode cX12_climbs 3 = .ok (.invokevirtual 103, 3) := bdX12_climbs_0.2.2.2.1
theorem dX12_climbs_6 : decode cX12_climbs 6 = .ok (.iconst 1, 1) := bdX12_climbs_0.2.2.2.2.1
theorem dX12_climbs_7 : decode cX12_climbs 7 = .ok (.isub, 1) := bdX12_climbs_0.2.2.2.2.2.1
theorem dX12_climbs_8 : decode cX12_climbs 8 = .ok (.istore_n 3, 1) := bdX12_climbs_0.2.2.2.2.2.2.1
theorem dX12_climbs_9 : decode cX12_climbs 9 = .ok (.iload_n 3, 1) := bdX12_climbs_0.2.2.2.2.2.2.2.1
theorem dX12_climbs_10 : decode cX12_climbs 10 = .ok (.istore 4, 2) := bdX12_climbs_0.2.2.2.2.2.2.2.2.1
theorem dX12_climbs_12 : decode cX12_climbs 12 = .ok (.iload 4, 2) := bdX12_climbs_0.2.2.2.2.2.2.2.2.2.1
theorem dX12_climbs_14 : decode cX12_climbs 14 = .ok (.ifCond .lt 104, 3) := bdX12_climbs_0.2.2.2.2.2.2.2.2.2.2.1
theorem dX12_climbs_17 : decode cX12_climbs 17 = .ok (.aload_n 0, 1) := bdX12_climbs_0.2.2.2.2.2.2.2.2.2.2.2.1
theorem dX12_climbs_18 : decode cX12_climbs 18 = .ok (.iload_n 1, 1) := bdX12_climbs_0.2.2.2.2.2.2.2.2.2.2.2.2.1
theorem dX12_climbs_19 : decode cX12_climbs 19 = .ok (.iload_n 2, 1) := bdX12_climbs_0.2.2.2.2.2.2.2.2.2.2.2.2.2.1
theorem dX12_climbs_20 : decode cX12_climbs 20 = .ok (.iload 4, 2) := bdX12_climbs_0.2.2.2.2.2.2.2.2.2.2.2.2.2.2.1
theorem dX12_climbs_22 : decode cX12_climbs 22 = .ok (.invokevirtual 334, 3) := bdX12_climbs_0.2.2.2.2.2.2.2.2.2.2.2.2.2.2.2
theorem bdX12_climbs_25 : (decode cX12_climbs 25 = .ok (.istore 5, 2)) ∧ (decode cX12_climbs 27 = .ok (.aload_n 0, 1)) ∧ (decode cX12_climbs 28 = .ok (.getfield 7, 3)) ∧ (decode cX12_climbs 31 = .ok (.iload 5, 2)) ∧ (decode cX12_climbs 33 = .ok (.iaload, 1)) ∧ (decode cX12_climbs 34 = .ok (.istore 6, 2)) ∧ (decode cX12_climbs 36 = .ok (.iload 6, 2)) ∧ (decode cX12_climbs 38 = .ok (.iconst (-1), 1)) ∧ (decode cX12_climbs 39 = .ok (.if_icmp .eq 35, 3)) ∧ (decode cX12_climbs 42 = .ok (.iload 4, 2)) ∧ (decode cX12_climbs 44 = .ok (.iload_n 3, 1)) ∧ (decode cX12_climbs 45 = .ok (.if_icmp .ne 29, 3)) ∧ (decode cX12_climbs 48 = .ok (.aload_n 0, 1)) ∧ (decode cX12_climbs 49 = .ok (.getfield 7, 3)) ∧ (decode cX12_climbs 52 = .ok (.iload 5, 2)) ∧ (decode cX12_climbs 54 = .ok (.aload_n 0, 1)) := by decide +kernel
theorem dX12_climbs_25 : decode cX12_climbs 25 = .ok (.istore 5, 2) := bdX12_climbs_25.1
theorem dX12_climbs_27 : decode cX12_climbs 27 = .ok (.aload_n 0, 1) := bdX12_climbs_25.2.1
theorem dX12_climbs_28 : decode cX12_climbs 28 = .ok (.getfield 7, 3) := bdX12_climbs_25.2.2.1
theorem dX12_climbs_31 : decode cX12_climbs 31 = .ok (.iload 5, 2) := bdX12_climbs_25.2.2.2.1
theorem dX12_climbs_33 : decode cX12_climbs 33 = .ok (.iaload, 1) := bdX12_climbs_25.2.2.2.2.1
theorem dX12_climbs_34 : decode cX12_climbs 34 = .ok (.istore 6, 2) := bdX12_climbs_25.2.2.2.2.2.1
theorem dX12_climbs_36 : decode cX12_climbs 36 = .ok (.iload 6, 2) := bdX12_climbs_25.2.2.2.2.2.2.1
theorem dX12_climbs_38 : decode cX12_climbs 38 = .ok (.iconst (-1), 1) := bdX12_climbs_25.2.2.2.2.2.2.2.1
theorem dX12_climbs_39 : decode cX12_climbs 39 = .ok (.if_icmp .eq 35, 3) := bdX12_climbs_25.2.2.2.2.2.2.2.2.1
theorem dX12_climbs_42 : decode cX12_climbs 42 = .ok (.iload 4, 2) := bdX12_climbs_25.2.2.2.2.2.2.2.2.2.1
theorem dX12_climbs_44 : decode cX12_climbs 44 = .ok (.iload_n 3, 1) := bdX12_climbs_25.2.2.2.2.2.2.2.2.2.2.1
theorem dX12_climbs_45 : decode cX12_climbs 45 = .ok (.if_icmp .ne 29, 3) := bdX12_climbs_25.2.2.2.2.2.2.2.2.2.2.2.1
theorem dX12_climbs_48 : decode cX12_climbs 48 = .ok (.aload_n 0, 1) := bdX12_climbs_25.2.2.2.2.2.2.2.2.2.2.2.2.1
theorem dX12_climbs_49 : decode cX12_climbs 49 = .ok (.getfield 7, 3) := bdX12_climbs_25.2.2.2.2.2.2.2.2.2.2.2.2.2.1
theorem dX12_climbs_52 : decode cX12_climbs 52 = .ok (.iload 5, 2) := bdX12_climbs_25.2.2.2.2.2.2.2.2.2.2.2.2.2.2.1
theorem dX12_climbs_54 : decode cX12_climbs 54 = .ok (.aload_n 0, 1) := bdX12_climbs_25.2.2.2.2.2.2.2.2.2.2.2.2.2.2.2
theorem bdX12_climbs_55 : (decode cX12_climbs 55 = .ok (.iload_n 1, 1)) ∧ (decode cX12_climbs 56 = .ok (.iload 6, 2)) ∧ (decode cX12_climbs 58 = .ok (.invokevirtual 337, 3)) ∧ (decode cX12_climbs 61 = .ok (.ifCond .eq 7, 3)) ∧ (decode cX12_climbs 64 = .ok (.iconst (-1), 1)) ∧ (decode cX12_climbs 65 = .ok (.goto 5, 3)) ∧ (decode cX12_climbs 68 = .ok (.iload 6, 2)) ∧ (decode cX12_climbs 70 = .ok (.iastore, 1)) ∧ (decode cX12_climbs 71 = .ok (.goto 41, 3)) ∧ (decode cX12_climbs 74 = .ok (.iload 6, 2)) ∧ (decode cX12_climbs 76 = .ok (.iconst (-1), 1)) ∧ (decode cX12_climbs 77 = .ok (.if_icmp .eq 35, 3)) ∧ (decode cX12_climbs 80 = .ok (.aload_n 0, 1)) ∧ (decode cX12_climbs 81 = .ok (.getfield 7, 3)) ∧ (decode cX12_climbs 84 = .ok (.iload 5, 2)) ∧ (decode cX12_climbs 86 = .ok (.iconst 1, 1)) := by decide +kernel
theorem dX12_climbs_55 : decode cX12_climbs 55 = .ok (.iload_n 1, 1) := bdX12_climbs_55.1
theorem dX12_climbs_56 : decode cX12_climbs 56 = .ok (.iload 6, 2) := bdX12_climbs_55.2.1
theorem dX12_climbs_58 : decode cX12_climbs 58 = .ok (.invokevirtual 337, 3) := bdX12_climbs_55.2.2.1
theorem dX12_climbs_61 : decode cX12_climbs 61 = .ok (.ifCond .eq 7, 3) := bdX12_climbs_55.2.2.2.1
theorem dX12_climbs_64 : decode cX12_climbs 64 = .ok (.iconst (-1), 1) := bdX12_climbs_55.2.2.2.2.1
theorem dX12_climbs_65 : decode cX12_climbs 65 = .ok (.goto 5, 3) := bdX12_climbs_55.2.2.2.2.2.1
theorem dX12_climbs_68 : decode cX12_climbs 68 = .ok (.iload 6, 2) := bdX12_climbs_55.2.2.2.2.2.2.1
theorem dX12_climbs_70 : decode cX12_climbs 70 = .ok (.iastore, 1) := bdX12_climbs_55.2.2.2.2.2.2.2.1
theorem dX12_climbs_71 : decode cX12_climbs 71 = .ok (.goto 41, 3) := bdX12_climbs_55.2.2.2.2.2.2.2.2.1
theorem dX12_climbs_74 : decode cX12_climbs 74 = .ok (.iload 6, 2) := bdX12_climbs_55.2.2.2.2.2.2.2.2.2.1
theorem dX12_climbs_76 : decode cX12_climbs 76 = .ok (.iconst (-1), 1) := bdX12_climbs_55.2.2.2.2.2.2.2.2.2.2.1
theorem dX12_climbs_77 : decode cX12_climbs 77 = .ok (.if_icmp .eq 35, 3) := bdX12_climbs_55.2.2.2.2.2.2.2.2.2.2.2.1
theorem dX12_climbs_80 : decode cX12_climbs 80 = .ok (.aload_n 0, 1) := bdX12_climbs_55.2.2.2.2.2.2.2.2.2.2.2.2.1
theorem dX12_climbs_81 : decode cX12_climbs 81 = .ok (.getfield 7, 3) := bdX12_climbs_55.2.2.2.2.2.2.2.2.2.2.2.2.2.1
theorem dX12_climbs_84 : decode cX12_climbs 84 = .ok (.iload 5, 2) := bdX12_climbs_55.2.2.2.2.2.2.2.2.2.2.2.2.2.2.1
theorem dX12_climbs_86 : decode cX12_climbs 86 = .ok (.iconst 1, 1) := bdX12_climbs_55.2.2.2.2.2.2.2.2.2.2.2.2.2.2.2
theorem bdX12_climbs_87 : (decode cX12_climbs 87 = .ok (.iadd, 1)) ∧ (decode cX12_climbs 88 = .ok (.iaload, 1)) ∧ (decode cX12_climbs 89 = .ok (.iconst (-1), 1)) ∧ (decode cX12_climbs 90 = .ok (.if_icmp .ne 22, 3)) ∧ (decode cX12_climbs 93 = .ok (.aload_n 0, 1)) ∧ (decode cX12_climbs 94 = .ok (.getfield 7, 3)) ∧ (decode cX12_climbs 97 = .ok (.iload 5, 2)) ∧ (decode cX12_climbs 99 = .ok (.iconst (-1), 1)) ∧ (decode cX12_climbs 100 = .ok (.iastore, 1)) ∧ (decode cX12_climbs 101 = .ok (.aload_n 0, 1)) ∧ (decode cX12_climbs 102 = .ok (.getfield 7, 3)) ∧ (decode cX12_climbs 105 = .ok (.iload 5, 2)) ∧ (decode cX12_climbs 107 = .ok (.iconst 1, 1)) ∧ (decode cX12_climbs 108 = .ok (.iadd, 1)) ∧ (decode cX12_climbs 109 = .ok (.iload 6, 2)) ∧ (decode cX12_climbs 111 = .ok (.iastore, 1)) := by decide +kernel
theorem dX12_climbs_87 : decode cX12_climbs 87 = .ok (.iadd, 1) := bdX12_climbs_87.1
theorem dX12_climbs_88 : decode cX12_climbs 88 = .ok (.iaload, 1) := bdX12_climbs_87.2.1
theorem dX12_climbs_89 : decode cX12_climbs 89 = .ok (.iconst (-1), 1) := bdX12_climbs_87.2.2.1
theorem dX12_climbs_90 : decode cX12_climbs 90 = .ok (.if_icmp .ne 22, 3) := bdX12_climbs_87.2.2.2.1
theorem dX12_climbs_93 : decode cX12_climbs 93 = .ok (.aload_n 0, 1) := bdX12_climbs_87.2.2.2.2.1
theorem dX12_climbs_94 : decode cX12_climbs 94 = .ok (.getfield 7, 3) := bdX12_climbs_87.2.2.2.2.2.1
theorem dX12_climbs_97 : decode cX12_climbs 97 = .ok (.iload 5, 2) := bdX12_climbs_87.2.2.2.2.2.2.1
theorem dX12_climbs_99 : decode cX12_climbs 99 = .ok (.iconst (-1), 1) := bdX12_climbs_87.2.2.2.2.2.2.2.1
theorem dX12_climbs_100 : decode cX12_climbs 100 = .ok (.iastore, 1) := bdX12_climbs_87.2.2.2.2.2.2.2.2.1
theorem dX12_climbs_101 : decode cX12_climbs 101 = .ok (.aload_n 0, 1) := bdX12_climbs_87.2.2.2.2.2.2.2.2.2.1
theorem dX12_climbs_102 : decode cX12_climbs 102 = .ok (.getfield 7, 3) := bdX12_climbs_87.2.2.2.2.2.2.2.2.2.2.1
theorem dX12_climbs_105 : decode cX12_climbs 105 = .ok (.iload 5, 2) := bdX12_climbs_87.2.2.2.2.2.2.2.2.2.2.2.1
theorem dX12_climbs_107 : decode cX12_climbs 107 = .ok (.iconst 1, 1) := bdX12_climbs_87.2.2.2.2.2.2.2.2.2.2.2.2.1
theorem dX12_climbs_108 : decode cX12_climbs 108 = .ok (.iadd, 1) := bdX12_climbs_87.2.2.2.2.2.2.2.2.2.2.2.2.2.1
theorem dX12_climbs_109 : decode cX12_climbs 109 = .ok (.iload 6, 2) := bdX12_climbs_87.2.2.2.2.2.2.2.2.2.2.2.2.2.2.1
theorem dX12_climbs_111 : decode cX12_climbs 111 = .ok (.iastore, 1) := bdX12_climbs_87.2.2.2.2.2.2.2.2.2.2.2.2.2.2.2
theorem bdX12_climbs_112 : (decode cX12_climbs 112 = .ok (.iinc 4 (-1), 3)) ∧ (decode cX12_climbs 115 = .ok (.goto (-103), 3)) ∧ (decode cX12_climbs 118 = .ok (.return_, 1)) := by decide +kernel
theorem dX12_climbs_112 : decode cX12_climbs 112 = .ok (.iinc 4 (-1), 3) := bdX12_climbs_112.1
theorem dX12_climbs_115 : decode cX12_climbs 115 = .ok (.goto (-103), 3) := bdX12_climbs_112.2.1
theorem dX12_climbs_118 : decode cX12_climbs 118 = .ok (.return_, 1) := bdX12_climbs_112.2.2
theorem bdX12_moves_0 : (decode cX12_moves 0 = .ok (.aload_n 0, 1)) ∧ (decode cX12_moves 1 = .ok (.iload_n 1, 1)) ∧ (decode cX12_moves 2 = .ok (.iconst 3, 1)) ∧ (decode cX12_moves 3 = .ok (.invokevirtual 103, 3)) ∧ (decode cX12_moves 6 = .ok (.iconst 1, 1)) ∧ (decode cX12_moves 7 = .ok (.isub, 1)) ∧ (decode cX12_moves 8 = .ok (.istore_n 3, 1)) ∧ (decode cX12_moves 9 = .ok (.iload_n 3, 1)) ∧ (decode cX12_moves 10 = .ok (.istore 4, 2)) ∧ (decode cX12_moves 12 = .ok (.iload 4, 2)) ∧ (decode cX12_moves 14 = .ok (.ifCond .lt 163, 3)) ∧ (decode cX12_moves 17 = .ok (.aload_n 0, 1)) ∧ (decode cX12_moves 18 = .ok (.iload_n 1, 1)) ∧ (decode cX12_moves 19 = .ok (.iload_n 2, 1)) ∧ (decode cX12_moves 20 = .ok (.iload 4, 2)) ∧ (decode cX12_moves 22 = .ok (.invokevirtual 334, 3)) := by decide +kernel
theorem dX12_moves_0 : decode cX12_moves 0 = .ok (.aload_n 0, 1) := bdX12_moves_0.1
theorem dX12_moves_1 : decode cX12_moves 1 = .ok (.iload_n 1, 1) := bdX12_moves_0.2.1
theorem dX12_moves_2 : decode cX12_moves 2 = .ok (.iconst 3, 1) := bdX12_moves_0.2.2.1
theorem dX12_moves_3 : decode cX12_moves 3 = .ok (.invokevirtual 103, 3) := bdX12_moves_0.2.2.2.1
theorem dX12_moves_6 : decode cX12_moves 6 = .ok (.iconst 1, 1) := bdX12_moves_0.2.2.2.2.1
theorem dX12_moves_7 : decode cX12_moves 7 = .ok (.isub, 1) := bdX12_moves_0.2.2.2.2.2.1
theorem dX12_moves_8 : decode cX12_moves 8 = .ok (.istore_n 3, 1) := bdX12_moves_0.2.2.2.2.2.2.1
theorem dX12_moves_9 : decode cX12_moves 9 = .ok (.iload_n 3, 1) := bdX12_moves_0.2.2.2.2.2.2.2.1
theorem dX12_moves_10 : decode cX12_moves 10 = .ok (.istore 4, 2) := bdX12_moves_0.2.2.2.2.2.2.2.2.1
theorem dX12_moves_12 : decode cX12_moves 12 = .ok (.iload 4, 2) := bdX12_moves_0.2.2.2.2.2.2.2.2.2.1
theorem dX12_moves_14 : decode cX12_moves 14 = .ok (.ifCond .lt 163, 3) := bdX12_moves_0.2.2.2.2.2.2.2.2.2.2.1
theorem dX12_moves_17 : decode cX12_moves 17 = .ok (.aload_n 0, 1) := bdX12_moves_0.2.2.2.2.2.2.2.2.2.2.2.1
theorem dX12_moves_18 : decode cX12_moves 18 = .ok (.iload_n 1, 1) := bdX12_moves_0.2.2.2.2.2.2.2.2.2.2.2.2.1
theorem dX12_moves_19 : decode cX12_moves 19 = .ok (.iload_n 2, 1) := bdX12_moves_0.2.2.2.2.2.2.2.2.2.2.2.2.2.1
theorem dX12_moves_20 : decode cX12_moves 20 = .ok (.iload 4, 2) := bdX12_moves_0.2.2.2.2.2.2.2.2.2.2.2.2.2.2.1
theorem dX12_moves_22 : decode cX12_moves 22 = .ok (.invokevirtual 334, 3) := bdX12_moves_0.2.2.2.2.2.2.2.2.2.2.2.2.2.2.2
theorem bdX12_moves_25 : (decode cX12_moves 25 = .ok (.istore 5, 2)) ∧ (decode cX12_moves 27 = .ok (.aload_n 0, 1)) ∧ (decode cX12_moves 28 = .ok (.getfield 7, 3)) ∧ (decode cX12_moves 31 = .ok (.iload 5, 2)) ∧ (decode cX12_moves 33 = .ok (.iaload, 1)) ∧ (decode cX12_moves 34 = .ok (.istore 6, 2)) ∧ (decode cX12_moves 36 = .ok (.iload 6, 2)) ∧ (decode cX12_moves 38 = .ok (.iconst (-1), 1)) ∧ (decode cX12_moves 39 = .ok (.if_icmp .eq 132, 3)) ∧ (decode cX12_moves 42 = .ok (.iload 4, 2)) ∧ (decode cX12_moves 44 = .ok (.iload_n 3, 1)) ∧ (decode cX12_moves 45 = .ok (.if_icmp .ne 26, 3)) ∧ (decode cX12_moves 48 = .ok (.aload_n 0, 1)) ∧ (decode cX12_moves 49 = .ok (.iload_n 1, 1)) ∧ (decode cX12_moves 50 = .ok (.iload 6, 2)) ∧ (decode cX12_moves 52 = .ok (.invokevirtual 337, 3)) := by decide +kernel
theorem dX12_moves_25 : decode cX12_moves 25 = .ok (.istore 5, 2) := bdX12_moves_25.1
theorem dX12_moves_27 : decode cX12_moves 27 = .ok (.aload_n 0, 1) := bdX12_moves_25.2.1
theorem dX12_moves_28 : decode cX12_moves 28 = .ok (.getfield 7, 3) := bdX12_moves_25.2.2.1
theorem dX12_moves_31 : decode cX12_moves 31 = .ok (.iload 5, 2) := bdX12_moves_25.2.2.2.1
theorem dX12_moves_33 : decode cX12_moves 33 = .ok (.iaload, 1) := bdX12_moves_25.2.2.2.2.1
theorem dX12_moves_34 : decode cX12_moves 34 = .ok (.istore 6, 2) := bdX12_moves_25.2.2.2.2.2.1
theorem dX12_moves_36 : decode cX12_moves 36 = .ok (.iload 6, 2) := bdX12_moves_25.2.2.2.2.2.2.1
theorem dX12_moves_38 : decode cX12_moves 38 = .ok (.iconst (-1), 1) := bdX12_moves_25.2.2.2.2.2.2.2.1
theorem dX12_moves_39 : decode cX12_moves 39 = .ok (.if_icmp .eq 132, 3) := bdX12_moves_25.2.2.2.2.2.2.2.2.1
theorem dX12_moves_42 : decode cX12_moves 42 = .ok (.iload 4, 2) := bdX12_moves_25.2.2.2.2.2.2.2.2.2.1
theorem dX12_moves_44 : decode cX12_moves 44 = .ok (.iload_n 3, 1) := bdX12_moves_25.2.2.2.2.2.2.2.2.2.2.1
theorem dX12_moves_45 : decode cX12_moves 45 = .ok (.if_icmp .ne 26, 3) := bdX12_moves_25.2.2.2.2.2.2.2.2.2.2.2.1
theorem dX12_moves_48 : decode cX12_moves 48 = .ok (.aload_n 0, 1) := bdX12_moves_25.2.2.2.2.2.2.2.2.2.2.2.2.1
theorem dX12_moves_49 : decode cX12_moves 49 = .ok (.iload_n 1, 1) := bdX12_moves_25.2.2.2.2.2.2.2.2.2.2.2.2.2.1
theorem dX12_moves_50 : decode cX12_moves 50 = .ok (.iload 6, 2) := bdX12_moves_25.2.2.2.2.2.2.2.2.2.2.2.2.2.2.1
theorem dX12_moves_52 : decode cX12_moves 52 = .ok (.invokevirtual 337, 3) := bdX12_moves_25.2.2.2.2.2.2.2.2.2.2.2.2.2.2.2
theorem bdX12_moves_55 : (decode cX12_moves 55 = .ok (.ifCond .ne 5, 3)) ∧ (decode cX12_moves 58 = .ok (.iconst 0, 1)) ∧ (decode cX12_moves 59 = .ok (.ireturn, 1)) ∧ (decode cX12_moves 60 = .ok (.aload_n 0, 1)) ∧ (decode cX12_moves 61 = .ok (.getfield 7, 3)) ∧ (decode cX12_moves 64 = .ok (.iload 5, 2)) ∧ (decode cX12_moves 66 = .ok (.iconst (-1), 1)) ∧ (decode cX12_moves 67 = .ok (.iastore, 1)) ∧ (decode cX12_moves 68 = .ok (.goto 103, 3)) ∧ (decode cX12_moves 71 = .ok (.aload_n 0, 1)) ∧ (decode cX12_moves 72 = .ok (.getfield 7, 3)) ∧ (decode cX12_moves 75 = .ok (.iload 5, 2)) ∧ (decode cX12_moves 77 = .ok (.iconst (-1), 1)) ∧ (decode cX12_moves 78 = .ok (.iastore, 1)) ∧ (decode cX12_moves 79 = .ok (.aload_n 0, 1)) ∧ (decode cX12_moves 80 = .ok (.getfield 7, 3)) := by decide +kernel
theorem dX12_moves_55 : decode cX12_moves 55 = .ok (.ifCond .ne 5, 3) := bdX12_moves_55.1
theorem dX12_moves_58 : decode cX12_moves 58 = .ok (.iconst 0, 1) := bdX12_moves_55.2.1
theorem dX12_moves_59 : decode cX12_moves 59 = .ok (.ireturn, 1) := bdX12_moves_55.2.2.1
theorem dX12_moves_60 : decode cX12_moves 60 = .ok (.aload_n 0, 1) := bdX12_moves_55.2.2.2.1
theorem dX12_moves_61 : decode cX12_moves 61 = .ok (.getfield 7, 3) := bdX12_moves_55.2.2.2.2.1
theorem dX12_moves_64 : decode cX12_moves 64 = .ok (.iload 5, 2) := bdX12_moves_55.2.2.2.2.2.1
theorem dX12_moves_66 : decode cX12_moves 66 = .ok (.iconst (-1), 1) := bdX12_moves_55.2.2.2.2.2.2.1
theorem dX12_moves_67 : decode cX12_moves 67 = .ok (.iastore, 1) := bdX12_moves_55.2.2.2.2.2.2.2.1
theorem dX12_moves_68 : decode cX12_moves 68 = .ok (.goto 103, 3) := bdX12_moves_55.2.2.2.2.2.2.2.2.1
theorem dX12_moves_71 : decode cX12_moves 71 = .ok (.aload_n 0, 1) := bdX12_moves_55.2.2.2.2.2.2.2.2.2.1
theorem dX12_moves_72 : decode cX12_moves 72 = .ok (.getfield 7, 3) := bdX12_moves_55.2.2.2.2.2.2.2.2.2.2.1
theorem dX12_moves_75 : decode cX12_moves 75 = .ok (.iload 5, 2) := bdX12_moves_55.2.2.2.2.2.2.2.2.2.2.2.1
theorem dX12_moves_77 : decode cX12_moves 77 = .ok (.iconst (-1), 1) := bdX12_moves_55.2.2.2.2.2.2.2.2.2.2.2.2.1
theorem dX12_moves_78 : decode cX12_moves 78 = .ok (.iastore, 1) := bdX12_moves_55.2.2.2.2.2.2.2.2.2.2.2.2.2.1
theorem dX12_moves_79 : decode cX12_moves 79 = .ok (.aload_n 0, 1) := bdX12_moves_55.2.2.2.2.2.2.2.2.2.2.2.2.2.2.1
theorem dX12_moves_80 : decode cX12_moves 80 = .ok (.getfield 7, 3) := bdX12_moves_55.2.2.2.2.2.2.2.2.2.2.2.2.2.2.2
theorem bdX12_moves_83 : (decode cX12_moves 83 = .ok (.iload 5, 2)) ∧ (decode cX12_moves 85 = .ok (.iconst 1, 1)) ∧ (decode cX12_moves 86 = .ok (.iadd, 1)) ∧ (decode cX12_moves 87 = .ok (.iload 6, 2)) ∧ (decode cX12_moves 89 = .ok (.iastore, 1)) ∧ (decode cX12_moves 90 = .ok (.iload 6, 2)) ∧ (decode cX12_moves 92 = .ok (.bipush 9, 2)) ∧ (decode cX12_moves 94 = .ok (.if_icmp .le 36, 3)) ∧ (decode cX12_moves 97 = .ok (.iload 4, 2)) ∧ (decode cX12_moves 99 = .ok (.iconst 1, 1)) ∧ (decode cX12_moves 100 = .ok (.iadd, 1)) ∧ (decode cX12_moves 101 = .ok (.iload_n 3, 1)) ∧ (decode cX12_moves 102 = .ok (.if_icmp .ne 28, 3)) ∧ (decode cX12_moves 105 = .ok (.aload_n 0, 1)) ∧ (decode cX12_moves 106 = .ok (.iload_n 1, 1)) ∧ (decode cX12_moves 107 = .ok (.iload 6, 2)) := by decide +kernel
theorem dX12_moves_83 : decode cX12_moves 83 = .ok (.iload 5, 2) := bdX12_moves_83.1
theorem dX12_moves_85 : decode cX12_moves 85 = .ok (.iconst 1, 1) := bdX12_moves_83.2.1
theorem dX12_moves_86 : decode cX12_moves 86 = .ok (.iadd, 1) := bdX12_moves_83.2.2.1
theorem dX12_moves_87 : decode cX12_moves 87 = .ok (.iload 6, 2) := bdX12_moves_83.2.2.2.1
theorem dX12_moves_89 : decode cX12_moves 89 = .ok (.iastore, 1) := bdX12_moves_83.2.2.2.2.1
theorem dX12_moves_90 : decode cX12_moves 90 = .ok (.iload 6, 2) := bdX12_moves_83.2.2.2.2.2.1
theorem dX12_moves_92 : decode cX12_moves 92 = .ok (.bipush 9, 2) := bdX12_moves_83.2.2.2.2.2.2.1
theorem dX12_moves_94 : decode cX12_moves 94 = .ok (.if_icmp .le 36, 3) := bdX12_moves_83.2.2.2.2.2.2.2.1
theorem dX12_moves_97 : decode cX12_moves 97 = .ok (.iload 4, 2) := bdX12_moves_83.2.2.2.2.2.2.2.2.1
theorem dX12_moves_99 : decode cX12_moves 99 = .ok (.iconst 1, 1) := bdX12_moves_83.2.2.2.2.2.2.2.2.2.1
theorem dX12_moves_100 : decode cX12_moves 100 = .ok (.iadd, 1) := bdX12_moves_83.2.2.2.2.2.2.2.2.2.2.1
theorem dX12_moves_101 : decode cX12_moves 101 = .ok (.iload_n 3, 1) := bdX12_moves_83.2.2.2.2.2.2.2.2.2.2.2.1
theorem dX12_moves_102 : decode cX12_moves 102 = .ok (.if_icmp .ne 28, 3) := bdX12_moves_83.2.2.2.2.2.2.2.2.2.2.2.2.1
theorem dX12_moves_105 : decode cX12_moves 105 = .ok (.aload_n 0, 1) := bdX12_moves_83.2.2.2.2.2.2.2.2.2.2.2.2.2.1
theorem dX12_moves_106 : decode cX12_moves 106 = .ok (.iload_n 1, 1) := bdX12_moves_83.2.2.2.2.2.2.2.2.2.2.2.2.2.2.1
theorem dX12_moves_107 : decode cX12_moves 107 = .ok (.iload 6, 2) := bdX12_moves_83.2.2.2.2.2.2.2.2.2.2.2.2.2.2.2
theorem bdX12_moves_109 : (decode cX12_moves 109 = .ok (.invokevirtual 337, 3)) ∧ (decode cX12_moves 112 = .ok (.ifCond .ne 5, 3)) ∧ (decode cX12_moves 115 = .ok (.iconst 0, 1)) ∧ (decode cX12_moves 116 = .ok (.ireturn, 1)) ∧ (decode cX12_moves 117 = .ok (.aload_n 0, 1)) ∧ (decode cX12_moves 118 = .ok (.getfield 7, 3)) ∧ (decode cX12_moves 121 = .ok (.iload 5, 2)) ∧ (decode cX12_moves 123 = .ok (.iconst 1, 1)) ∧ (decode cX12_moves 124 = .ok (.iadd, 1)) ∧ (decode cX12_moves 125 = .ok (.iconst (-1), 1)) ∧ (decode cX12_moves 126 = .ok (.iastore, 1)) ∧ (decode cX12_moves 127 = .ok (.goto 44, 3)) ∧ (decode cX12_moves 130 = .ok (.iload 6, 2)) ∧ (decode cX12_moves 132 = .ok (.bipush 9, 2)) ∧ (decode cX12_moves 134 = .ok (.if_icmp .le 37, 3)) ∧ (decode cX12_moves 137 = .ok (.aload_n 0, 1)) := by decide +kernel
theorem dX12_moves_109 : decode cX12_moves 109 = .ok (.invokevirtual 337, 3) := bdX12_moves_109.1
theorem dX12_moves_112 : decode cX12_moves 112 = .ok (.ifCond .ne 5, 3) := bdX12_moves_109.2.1
theorem dX12_moves_115 : decode cX12_moves 115 = .ok (.iconst 0, 1) := bdX12_moves_109.2.2.1
theorem dX12_moves_116 : decode cX12_moves 116 = .ok (.ireturn, 1) := bdX12_moves_109.2.2.2.1
theorem dX12_moves_117 : decode cX12_moves 117 = .ok (.aload_n 0, 1) := bdX12_moves_109.2.2.2.2.1
theorem dX12_moves_118 : decode cX12_moves 118 = .ok (.getfield 7, 3) := bdX12_moves_109.2.2.2.2.2.1
theorem dX12_moves_121 : decode cX12_moves 121 = .ok (.iload 5, 2) := bdX12_moves_109.2.2.2.2.2.2.1
theorem dX12_moves_123 : decode cX12_moves 123 = .ok (.iconst 1, 1) := bdX12_moves_109.2.2.2.2.2.2.2.1
theorem dX12_moves_124 : decode cX12_moves 124 = .ok (.iadd, 1) := bdX12_moves_109.2.2.2.2.2.2.2.2.1
theorem dX12_moves_125 : decode cX12_moves 125 = .ok (.iconst (-1), 1) := bdX12_moves_109.2.2.2.2.2.2.2.2.2.1
theorem dX12_moves_126 : decode cX12_moves 126 = .ok (.iastore, 1) := bdX12_moves_109.2.2.2.2.2.2.2.2.2.2.1
theorem dX12_moves_127 : decode cX12_moves 127 = .ok (.goto 44, 3) := bdX12_moves_109.2.2.2.2.2.2.2.2.2.2.2.1
theorem dX12_moves_130 : decode cX12_moves 130 = .ok (.iload 6, 2) := bdX12_moves_109.2.2.2.2.2.2.2.2.2.2.2.2.1
theorem dX12_moves_132 : decode cX12_moves 132 = .ok (.bipush 9, 2) := bdX12_moves_109.2.2.2.2.2.2.2.2.2.2.2.2.2.1
theorem dX12_moves_134 : decode cX12_moves 134 = .ok (.if_icmp .le 37, 3) := bdX12_moves_109.2.2.2.2.2.2.2.2.2.2.2.2.2.2.1
theorem dX12_moves_137 : decode cX12_moves 137 = .ok (.aload_n 0, 1) := bdX12_moves_109.2.2.2.2.2.2.2.2.2.2.2.2.2.2.2
theorem bdX12_moves_138 : (decode cX12_moves 138 = .ok (.getfield 7, 3)) ∧ (decode cX12_moves 141 = .ok (.iload 5, 2)) ∧ (decode cX12_moves 143 = .ok (.iconst 2, 1)) ∧ (decode cX12_moves 144 = .ok (.iadd, 1)) ∧ (decode cX12_moves 145 = .ok (.iaload, 1)) ∧ (decode cX12_moves 146 = .ok (.iconst (-1), 1)) ∧ (decode cX12_moves 147 = .ok (.if_icmp .ne 24, 3)) ∧ (decode cX12_moves 150 = .ok (.aload_n 0, 1)) ∧ (decode cX12_moves 151 = .ok (.getfield 7, 3)) ∧ (decode cX12_moves 154 = .ok (.iload 5, 2)) ∧ (decode cX12_moves 156 = .ok (.iconst 1, 1)) ∧ (decode cX12_moves 157 = .ok (.iadd, 1)) ∧ (decode cX12_moves 158 = .ok (.iconst (-1), 1)) ∧ (decode cX12_moves 159 = .ok (.iastore, 1)) ∧ (decode cX12_moves 160 = .ok (.aload_n 0, 1)) ∧ (decode cX12_moves 161 = .ok (.getfield 7, 3)) := by decide +kernel
theorem dX12_moves_138 : decode cX12_moves 138 = .ok (.getfield 7, 3) := bdX12_moves_138.1
theorem dX12_moves_141 : decode cX12_moves 141 = .ok (.iload 5, 2) := bdX12_moves_138.2.1
theorem dX12_moves_143 : decode cX12_moves 143 = .ok (.iconst 2, 1) := bdX12_moves_138.2.2.1
theorem dX12_moves_144 : decode cX12_moves 144 = .ok (.iadd, 1) := bdX12_moves_138.2.2.2.1
theorem dX12_moves_145 : decode cX12_moves 145 = .ok (.iaload, 1) := bdX12_moves_138.2.2.2.2.1
theorem dX12_moves_146 : decode cX12_moves 146 = .ok (.iconst (-1), 1) := bdX12_moves_138.2.2.2.2.2.1
theorem dX12_moves_147 : decode cX12_moves 147 = .ok (.if_icmp .ne 24, 3) := bdX12_moves_138.2.2.2.2.2.2.1
theorem dX12_moves_150 : decode cX12_moves 150 = .ok (.aload_n 0, 1) := bdX12_moves_138.2.2.2.2.2.2.2.1
theorem dX12_moves_151 : decode cX12_moves 151 = .ok (.getfield 7, 3) := bdX12_moves_138.2.2.2.2.2.2.2.2.1
theorem dX12_moves_154 : decode cX12_moves 154 = .ok (.iload 5, 2) := bdX12_moves_138.2.2.2.2.2.2.2.2.2.1
theorem dX12_moves_156 : decode cX12_moves 156 = .ok (.iconst 1, 1) := bdX12_moves_138.2.2.2.2.2.2.2.2.2.2.1
theorem dX12_moves_157 : decode cX12_moves 157 = .ok (.iadd, 1) := bdX12_moves_138.2.2.2.2.2.2.2.2.2.2.2.1
theorem dX12_moves_158 : decode cX12_moves 158 = .ok (.iconst (-1), 1) := bdX12_moves_138.2.2.2.2.2.2.2.2.2.2.2.2.1
theorem dX12_moves_159 : decode cX12_moves 159 = .ok (.iastore, 1) := bdX12_moves_138.2.2.2.2.2.2.2.2.2.2.2.2.2.1
theorem dX12_moves_160 : decode cX12_moves 160 = .ok (.aload_n 0, 1) := bdX12_moves_138.2.2.2.2.2.2.2.2.2.2.2.2.2.2.1
theorem dX12_moves_161 : decode cX12_moves 161 = .ok (.getfield 7, 3) := bdX12_moves_138.2.2.2.2.2.2.2.2.2.2.2.2.2.2.2
theorem bdX12_moves_164 : (decode cX12_moves 164 = .ok (.iload 5, 2)) ∧ (decode cX12_moves 166 = .ok (.iconst 2, 1)) ∧ (decode cX12_moves 167 = .ok (.iadd, 1)) ∧ (decode cX12_moves 168 = .ok (.iload 6, 2)) ∧ (decode cX12_moves 170 = .ok (.iastore, 1)) ∧ (decode cX12_moves 171 = .ok (.iinc 4 (-1), 3)) ∧ (decode cX12_moves 174 = .ok (.goto (-162), 3)) ∧ (decode cX12_moves 177 = .ok (.iconst 1, 1)) ∧ (decode cX12_moves 178 = .ok (.ireturn, 1)) := by decide +kernel
theorem dX12_moves_164 : decode cX12_moves 164 = .ok (.iload 5, 2) := bdX12_moves_164.1
theorem dX12_moves_166 : decode cX12_moves 166 = .ok (.iconst 2, 1) := bdX12_moves_164.2.1
theorem dX12_moves_167 : decode cX12_moves 167 = .ok (.iadd, 1) := bdX12_moves_164.2.2.1
theorem dX12_moves_168 : decode cX12_moves 168 = .ok (.iload 6, 2) := bdX12_moves_164.2.2.2.1
theorem dX12_moves_170 : decode cX12_moves 170 = .ok (.iastore, 1) := bdX12_moves_164.2.2.2.2.1
theorem dX12_moves_171 : decode cX12_moves 171 = .ok (.iinc 4 (-1), 3) := bdX12_moves_164.2.2.2.2.2.1
theorem dX12_moves_174 : decode cX12_moves 174 = .ok (.goto (-162), 3) := bdX12_moves_164.2.2.2.2.2.2.1
theorem dX12_moves_177 : decode cX12_moves 177 = .ok (.iconst 1, 1) := bdX12_moves_164.2.2.2.2.2.2.2.1
theorem dX12_moves_178 : decode cX12_moves 178 = .ok (.ireturn, 1) := bdX12_moves_164.2.2.2.2.2.2.2.2
theorem bdX12_trips_0 : (decode cX12_trips 0 = .ok (.aload_n 0, 1)) ∧ (decode cX12_trips 1 = .ok (.iload_n 1, 1)) ∧ (decode cX12_trips 2 = .ok (.bipush 9, 2)) ∧ (decode cX12_trips 4 = .ok (.iconst 1, 1)) ∧ (decode cX12_trips 5 = .ok (.invokevirtual 110, 3)) ∧ (decode cX12_trips 8 = .ok (.aload_n 0, 1)) ∧ (decode cX12_trips 9 = .ok (.getfield 7, 3)) ∧ (decode cX12_trips 12 = .ok (.bipush 12, 2)) ∧ (decode cX12_trips 14 = .ok (.dup2, 1)) ∧ (decode cX12_trips 15 = .ok (.iaload, 1)) ∧ (decode cX12_trips 16 = .ok (.iconst 1, 1)) ∧ (decode cX12_trips 17 = .ok (.iadd, 1)) ∧ (decode cX12_trips 18 = .ok (.iastore, 1)) ∧ (decode cX12_trips 19 = .ok (.return_, 1)) := by decide +kernel
theorem dX12_trips_0 : decode cX12_trips 0 = .ok (.aload_n 0, 1) := bdX12_trips_0.1
theorem dX12_trips_1 : decode cX12_trips 1 = .ok (.iload_n 1, 1) := bdX12_trips_0.2.1
theorem dX12_trips_2 : decode cX12_trips 2 = .ok (.bipush 9, 2) := bdX12_trips_0.2.2.1
theorem dX12_trips_4 : decode cX12_trips 4 = .ok (.iconst 1, 1) := bdX12_trips_0.2.2.2.1
theorem dX12_trips_5 : decode cX12_trips 5 = .ok (.invokevirtual 110, 3) := bdX12_trips_0.2.2.2.2.1
theorem dX12_trips_8 : decode cX12_trips 8 = .ok (.aload_n 0, 1) := bdX12_trips_0.2.2.2.2.2.1
theorem dX12_trips_9 : decode cX12_trips 9 = .ok (.getfield 7, 3) := bdX12_trips_0.2.2.2.2.2.2.1
theorem dX12_trips_12 : decode cX12_trips 12 = .ok (.bipush 12, 2) := bdX12_trips_0.2.2.2.2.2.2.2.1
theorem dX12_trips_14 : decode cX12_trips 14 = .ok (.dup2, 1) := bdX12_trips_0.2.2.2.2.2.2.2.2.1
theorem dX12_trips_15 : decode cX12_trips 15 = .ok (.iaload, 1) := bdX12_trips_0.2.2.2.2.2.2.2.2.2.1
theorem dX12_trips_16 : decode cX12_trips 16 = .ok (.iconst 1, 1) := bdX12_trips_0.2.2.2.2.2.2.2.2.2.2.1
theorem dX12_trips_17 : decode cX12_trips 17 = .ok (.iadd, 1) := bdX12_trips_0.2.2.2.2.2.2.2.2.2.2.2.1
theorem dX12_trips_18 : decode cX12_trips 18 = .ok (.iastore, 1) := bdX12_trips_0.2.2.2.2.2.2.2.2.2.2.2.2.1
theorem dX12_trips_19 : decode cX12_trips 19 = .ok (.return_, 1) := bdX12_trips_0.2.2.2.2.2.2.2.2.2.2.2.2.2
def fX12_routes_25 (a0 : Nat) (a1 : Int32) (a2 : Int32) (rec2 : Int32 → xMem → Option xMem) (l3 : Int32) (s0 : Nat) (s1 : Int32) (s2 : Int32) (m : xMem) : Option xMem := bif xIn s1 6 then xLet (xPut m s0 s1.toNatClampNeg s2) fun m1 => xLet (l3 + (1 : Int32)) fun x3 => rec2 x3 m1 else none
set_option maxRecDepth 4000 in
theorem fX12_routes_25_ok {a0 : Nat} {a1 : Int32} {a2 : Int32} {rec2 : Int32 → xMem → Option xMem} {d : Nat} (hd : 3 ≤ d) (ha0 : isModel a0) (hrec2 : ∀ (l3 : Int32) (o4 : Option Value) (o5 : Option Value) (o6 : Option Value) (o7 : Option Value) (q4 : xNoD o4 = true) (q5 : xNoD o5 = true) (q6 : xNoD o6 = true) (q7 : xNoD o7 = true) (m : xMem) (r : xMem), rec2 l3 m = some r → xFx hh_176 cX12_routes d 2 [some (.ref a0), some (.int a1), some (.int a2), some (.int l3), o4, o5, o6, o7] [] (xLay m) 0 0 none (xLay r)) {l3 : Int32} {s0 : Nat} {s1 : Int32} {s2 : Int32} {o4 : Option Value} {o5 : Option Value} {o6 : Option Value} {o7 : Option Value} {m : xMem} {r : xMem} (hs0 : xTmL[s0]? = some (101, 6, [])) (q4 : xNoD o4 = true) (q5 : xNoD o5 = true) (q6 : xNoD o6 = true) (q7 : xNoD o7 = true) (h : fX12_routes_25 a0 a1 a2 rec2 l3 s0 s1 s2 m = some r) : xFx hh_176 cX12_routes d 25 [some (.ref a0), some (.int a1), some (.int a2), some (.int l3), o4, o5, o6, o7] [.int s2, .int s1, .ref s0] (xLay m) 0 0 none (xLay r) := by
  unfold fX12_routes_25 at h
  obtain ⟨hj2, h⟩ := xChk_el h
  obtain ⟨m1, hm1, h⟩ := xLet_el h
  refine gx_iastore dX12_routes_25 rfl hs0 hj2 hm1 ?_
  obtain ⟨x3, hx3, h⟩ := xLet_el h
  refine fx_iinc (ls2 := [some (.ref a0), some (.int a1), some (.int a2), some (.int x3), o4, o5, o6, o7]) dX12_routes_26 rfl rfl rfl hx3 rfl ?_
  refine fx_goto (t := 2) dX12_routes_29 rfl rfl ?_
  exact hrec2 x3 (o4) (o5) (o6) (o7) q4 q5 q6 q7 m1 r h
def fX12_routes_141 (a0 : Nat) (a1 : Int32) (a2 : Int32) (rec34 : Int32 → xMem → Option xMem) (rec43 : Int32 → Int32 → xMem → Option xMem) (rec57 : Int32 → Int32 → Int32 → xMem → Option xMem) (l3 : Int32) (l4 : Int32) (l5 : Int32) (m : xMem) : Option xMem := xLet (l5 + (1 : Int32)) fun x1 => rec57 l3 l4 x1 m
set_option maxRecDepth 4000 in
theorem fX12_routes_141_ok {a0 : Nat} {a1 : Int32} {a2 : Int32} {rec34 : Int32 → xMem → Option xMem} {rec43 : Int32 → Int32 → xMem → Option xMem} {rec57 : Int32 → Int32 → Int32 → xMem → Option xMem} {d : Nat} (hd : 3 ≤ d) (ha0 : isModel a0) (hrec34 : ∀ (l3 : Int32) (o4 : Option Value) (o5 : Option Value) (o6 : Option Value) (o7 : Option Value) (q4 : xNoD o4 = true) (q5 : xNoD o5 = true) (q6 : xNoD o6 = true) (q7 : xNoD o7 = true) (m : xMem) (r : xMem), rec34 l3 m = some r → xFx hh_176 cX12_routes d 34 [some (.ref a0), some (.int a1), some (.int a2), some (.int l3), o4, o5, o6, o7] [] (xLay m) 0 0 none (xLay r)) (hrec43 : ∀ (l3 : Int32) (l4 : Int32) (o5 : Option Value) (o6 : Option Value) (o7 : Option Value) (q5 : xNoD o5 = true) (q6 : xNoD o6 = true) (q7 : xNoD o7 = true) (m : xMem) (r : xMem), rec43 l3 l4 m = some r → xFx hh_176 cX12_routes d 43 [some (.ref a0), some (.int a1), some (.int a2), some (.int l3), some (.int l4), o5, o6, o7] [] (xLay m) 0 0 none (xLay r)) (hrec57 : ∀ (l3 : Int32) (l4 : Int32) (l5 : Int32) (o6 : Option Value) (o7 : Option Value) (q6 : xNoD o6 = true) (q7 : xNoD o7 = true) (m : xMem) (r : xMem), rec57 l3 l4 l5 m = some r → xFx hh_176 cX12_routes d 57 [some (.ref a0), some (.int a1), some (.int a2), some (.int l3), some (.int l4), some (.int l5), o6, o7] [] (xLay m) 0 0 none (xLay r)) {l3 : Int32} {l4 : Int32} {l5 : Int32} {o6 : Option Value} {o7 : Option Value} {m : xMem} {r : xMem} (q6 : xNoD o6 = true) (q7 : xNoD o7 = true) (h : fX12_routes_141 a0 a1 a2 rec34 rec43 rec57 l3 l4 l5 m = some r) : xFx hh_176 cX12_routes d 141 [some (.ref a0), some (.int a1), some (.int a2), some (.int l3), some (.int l4), some (.int l5), o6, o7] [] (xLay m) 0 0 none (xLay r) := by
  unfold fX12_routes_141 at h
  obtain ⟨x1, hx1, h⟩ := xLet_el h
  refine fx_iinc (ls2 := [some (.ref a0), some (.int a1), some (.int a2), some (.int l3), some (.int l4), some (.int x1), o6, o7]) dX12_routes_141 rfl rfl rfl hx1 rfl ?_
  refine fx_goto (t := 57) dX12_routes_144 rfl rfl ?_
  exact hrec57 l3 l4 x1 (o6) (o7) q6 q7 m r h
def fX12_routes_104 (a0 : Nat) (a1 : Int32) (a2 : Int32) (rec34 : Int32 → xMem → Option xMem) (rec43 : Int32 → Int32 → xMem → Option xMem) (rec57 : Int32 → Int32 → Int32 → xMem → Option xMem) (l3 : Int32) (l4 : Int32) (l5 : Int32) (l6 : Int32) (s0 : Int32) (m : xMem) : Option xMem := if (1000000000 : Int32) ≤ s0 then fX12_routes_141 a0 a1 a2 rec34 rec43 rec57 l3 l4 l5 m else xLet (s0 + l6) fun x2 => bif xIn l5 6 then xLet (m.1 (a0 + 22) l5.toNatClampNeg) fun x3 => if x3 ≤ x2 then fX12_routes_141 a0 a1 a2 rec34 rec43 rec57 l3 l4 l5 m else xLet (s0 + l6) fun x6 => bif xIn l5 6 then xLet (xPut m (a0 + 22) l5.toNatClampNeg x6) fun m7 => fX12_routes_141 a0 a1 a2 rec34 rec43 rec57 l3 l4 l5 m7 else none else none
set_option maxRecDepth 4000 in
theorem fX12_routes_104_ok {a0 : Nat} {a1 : Int32} {a2 : Int32} {rec34 : Int32 → xMem → Option xMem} {rec43 : Int32 → Int32 → xMem → Option xMem} {rec57 : Int32 → Int32 → Int32 → xMem → Option xMem} {d : Nat} (hd : 3 ≤ d) (ha0 : isModel a0) (hrec34 : ∀ (l3 : Int32) (o4 : Option Value) (o5 : Option Value) (o6 : Option Value) (o7 : Option Value) (q4 : xNoD o4 = true) (q5 : xNoD o5 = true) (q6 : xNoD o6 = true) (q7 : xNoD o7 = true) (m : xMem) (r : xMem), rec34 l3 m = some r → xFx hh_176 cX12_routes d 34 [some (.ref a0), some (.int a1), some (.int a2), some (.int l3), o4, o5, o6, o7] [] (xLay m) 0 0 none (xLay r)) (hrec43 : ∀ (l3 : Int32) (l4 : Int32) (o5 : Option Value) (o6 : Option Value) (o7 : Option Value) (q5 : xNoD o5 = true) (q6 : xNoD o6 = true) (q7 : xNoD o7 = true) (m : xMem) (r : xMem), rec43 l3 l4 m = some r → xFx hh_176 cX12_routes d 43 [some (.ref a0), some (.int a1), some (.int a2), some (.int l3), some (.int l4), o5, o6, o7] [] (xLay m) 0 0 none (xLay r)) (hrec57 : ∀ (l3 : Int32) (l4 : Int32) (l5 : Int32) (o6 : Option Value) (o7 : Option Value) (q6 : xNoD o6 = true) (q7 : xNoD o7 = true) (m : xMem) (r : xMem), rec57 l3 l4 l5 m = some r → xFx hh_176 cX12_routes d 57 [some (.ref a0), some (.int a1), some (.int a2), some (.int l3), some (.int l4), some (.int l5), o6, o7] [] (xLay m) 0 0 none (xLay r)) {l3 : Int32} {l4 : Int32} {l5 : Int32} {l6 : Int32} {s0 : Int32} {o7 : Option Value} {m : xMem} {r : xMem} (q7 : xNoD o7 = true) (h : fX12_routes_104 a0 a1 a2 rec34 rec43 rec57 l3 l4 l5 l6 s0 m = some r) : xFx hh_176 cX12_routes d 104 [some (.ref a0), some (.int a1), some (.int a2), some (.int l3), some (.int l4), some (.int l5), some (.int l6), o7] [.int s0] (xLay m) 0 0 none (xLay r) := by
  unfold fX12_routes_104 at h
  refine fx_istore (ls2 := [some (.ref a0), some (.int a1), some (.int a2), some (.int l3), some (.int l4), some (.int l5), some (.int l6), some (.int s0)]) dX12_routes_104 rfl rfl rfl ?_
  refine fx_iload dX12_routes_106 rfl rfl ?_
  refine fx_ldc_w dX12_routes_108 rfl ck_12_317 ?_
  refine fx_icmp_ge (t := 141) dX12_routes_111 rfl rfl (fun hc1 => ?_) (fun hc1 => ?_)
  · rw [if_pos hc1] at h
    exact fX12_routes_141_ok (o6 := some (.int l6)) (o7 := some (.int s0)) hd ha0 hrec34 hrec43 hrec57 rfl rfl h
  · rw [if_neg hc1] at h
    refine fx_iload dX12_routes_114 rfl rfl ?_
    refine fx_iload dX12_routes_116 rfl rfl ?_
    obtain ⟨x2, hx2, h⟩ := xLet_el h
    refine fx_iadd dX12_routes_118 rfl hx2 ?_
    refine fx_aload_n dX12_routes_119 rfl rfl ?_
    refine gx_getr dX12_routes_120 rfl fd_12_83 ha0.1 rfl rfl ?_
    refine fx_iload dX12_routes_123 rfl rfl ?_
    obtain ⟨hj4, h⟩ := xChk_el h
    obtain ⟨x3, hx3, h⟩ := xLet_el h
    refine gx_iaload dX12_routes_125 rfl ha0.2.2.2.2.2.2.2.2.2.2.2.2.2.2.2.2.2.2.2.2.2.2.1 hj4 hx3 ?_
    refine fx_icmp_ge (t := 141) dX12_routes_126 rfl rfl (fun hc5 => ?_) (fun hc5 => ?_)
    · rw [if_pos hc5] at h
      exact fX12_routes_141_ok (o6 := some (.int l6)) (o7 := some (.int s0)) hd ha0 hrec34 hrec43 hrec57 rfl rfl h
    · rw [if_neg hc5] at h
      refine fx_aload_n dX12_routes_129 rfl rfl ?_
      refine gx_getr dX12_routes_130 rfl fd_12_83 ha0.1 rfl rfl ?_
      refine fx_iload dX12_routes_133 rfl rfl ?_
      refine fx_iload dX12_routes_135 rfl rfl ?_
      refine fx_iload dX12_routes_137 rfl rfl ?_
      obtain ⟨x6, hx6, h⟩ := xLet_el h
      refine fx_iadd dX12_routes_139 rfl hx6 ?_
      obtain ⟨hj8, h⟩ := xChk_el h
      obtain ⟨m7, hm7, h⟩ := xLet_el h
      refine gx_iastore dX12_routes_140 rfl ha0.2.2.2.2.2.2.2.2.2.2.2.2.2.2.2.2.2.2.2.2.2.2.1 hj8 hm7 ?_
      exact fX12_routes_141_ok (o6 := some (.int l6)) (o7 := some (.int s0)) hd ha0 hrec34 hrec43 hrec57 rfl rfl h
def fX12_routes_57 (a0 : Nat) (a1 : Int32) (a2 : Int32) (rec34 : Int32 → xMem → Option xMem) (rec43 : Int32 → Int32 → xMem → Option xMem) : Nat → Int32 → Int32 → Int32 → xMem → Option xMem
  | 0, _, _, _, _ => none
  | fuel + 1, l3, l4, l5, m => bif xIn (1 : Int32) 1610 then xLet (m.1 (a0 + 1) (1 : Int32).toNatClampNeg) fun x1 => if x1 ≤ l5 then xLet (l4 + (1 : Int32)) fun x4 => rec43 l3 x4 m else (fX12_costFrom a0 l4 l5 a2 m).bind fun p5 => if ¬ p5.1 = (-1 : Int32) then (fX12_otherEnd a0 l4 l5 p5.2).bind fun p7 => bif xIn p7.1 6 then xLet (p7.2.1 (a0 + 22) p7.1.toNatClampNeg) fun x8 => fX12_routes_104 a0 a1 a2 rec34 rec43 (fX12_routes_57 a0 a1 a2 rec34 rec43 fuel) l3 l4 l5 p5.1 x8 p7.2 else none else fX12_routes_104 a0 a1 a2 rec34 rec43 (fX12_routes_57 a0 a1 a2 rec34 rec43 fuel) l3 l4 l5 p5.1 (1000000000 : Int32) p5.2 else none
set_option maxRecDepth 4000 in
theorem fX12_routes_57_ok {a0 : Nat} {a1 : Int32} {a2 : Int32} {rec34 : Int32 → xMem → Option xMem} {rec43 : Int32 → Int32 → xMem → Option xMem} {d : Nat} (hd : 3 ≤ d) (ha0 : isModel a0) (hrec34 : ∀ (l3 : Int32) (o4 : Option Value) (o5 : Option Value) (o6 : Option Value) (o7 : Option Value) (q4 : xNoD o4 = true) (q5 : xNoD o5 = true) (q6 : xNoD o6 = true) (q7 : xNoD o7 = true) (m : xMem) (r : xMem), rec34 l3 m = some r → xFx hh_176 cX12_routes d 34 [some (.ref a0), some (.int a1), some (.int a2), some (.int l3), o4, o5, o6, o7] [] (xLay m) 0 0 none (xLay r)) (hrec43 : ∀ (l3 : Int32) (l4 : Int32) (o5 : Option Value) (o6 : Option Value) (o7 : Option Value) (q5 : xNoD o5 = true) (q6 : xNoD o6 = true) (q7 : xNoD o7 = true) (m : xMem) (r : xMem), rec43 l3 l4 m = some r → xFx hh_176 cX12_routes d 43 [some (.ref a0), some (.int a1), some (.int a2), some (.int l3), some (.int l4), o5, o6, o7] [] (xLay m) 0 0 none (xLay r)) : ∀ (fuel : Nat) (l3 : Int32) (l4 : Int32) (l5 : Int32) (o6 : Option Value) (o7 : Option Value) (q6 : xNoD o6 = true) (q7 : xNoD o7 = true) (m : xMem) (r : xMem), fX12_routes_57 a0 a1 a2 rec34 rec43 fuel l3 l4 l5 m = some r → xFx hh_176 cX12_routes d 57 [some (.ref a0), some (.int a1), some (.int a2), some (.int l3), some (.int l4), some (.int l5), o6, o7] [] (xLay m) 0 0 none (xLay r) := by
  intro fuel
  induction fuel with
  | zero => intro l3 l4 l5 o6 o7 q6 q7 m r  h; cases h
  | succ fuel ih =>
    intro l3 l4 l5 o6 o7 q6 q7 m r  h
    unfold fX12_routes_57 at h
    refine fx_iload dX12_routes_57 rfl rfl ?_
    refine fx_aload_n dX12_routes_59 rfl rfl ?_
    refine gx_getr dX12_routes_60 rfl fd_12_7 ha0.1 rfl rfl ?_
    refine fx_iconst (x := 1) dX12_routes_63 rfl (by decide) ?_
    obtain ⟨hj2, h⟩ := xChk_el h
    obtain ⟨x1, hx1, h⟩ := xLet_el h
    refine gx_iaload dX12_routes_64 rfl ha0.2.1 hj2 hx1 ?_
    refine fx_icmp_ge (t := 147) dX12_routes_65 rfl rfl (fun hc3 => ?_) (fun hc3 => ?_)
    · rw [if_pos hc3] at h
      obtain ⟨x4, hx4, h⟩ := xLet_el h
      refine fx_iinc (ls2 := [some (.ref a0), some (.int a1), some (.int a2), some (.int l3), some (.int x4), some (.int l5), o6, o7]) dX12_routes_147 rfl rfl rfl hx4 rfl ?_
      refine fx_goto (t := 43) dX12_routes_150 rfl rfl ?_
      exact hrec43 l3 x4 (some (.int l5)) (o6) (o7) rfl q6 q7 m r h
    · rw [if_neg hc3] at h
      refine fx_aload_n dX12_routes_68 rfl rfl ?_
      refine fx_iload dX12_routes_69 rfl rfl ?_
      refine fx_iload dX12_routes_71 rfl rfl ?_
      refine fx_iload_n dX12_routes_73 rfl rfl ?_
      obtain ⟨p5, ep5, h⟩ := xBind_el h
      refine gx_callv (as := [.int l4, .int l5, .int a2]) (r := []) rfl dX12_routes_74 ca_12_318 rfl me_177 rfl rfl rfl rfl (ha0.1) rfl (fX12_costFrom_ok (d := d) (by omega) ha0 ep5) rfl rfl ?_
      refine fx_istore (ls2 := [some (.ref a0), some (.int a1), some (.int a2), some (.int l3), some (.int l4), some (.int l5), some (.int p5.1), o7]) dX12_routes_77 rfl rfl rfl ?_
      refine fx_iload dX12_routes_79 rfl rfl ?_
      refine fx_iconst (x := -1) dX12_routes_81 rfl (by decide) ?_
      refine fx_icmp_ne (t := 91) dX12_routes_82 rfl rfl (fun hc6 => ?_) (fun hc6 => ?_)
      · rw [if_pos hc6] at h
        refine fx_aload_n dX12_routes_91 rfl rfl ?_
        refine gx_getr dX12_routes_92 rfl fd_12_83 ha0.1 rfl rfl ?_
        refine fx_aload_n dX12_routes_95 rfl rfl ?_
        refine fx_iload dX12_routes_96 rfl rfl ?_
        refine fx_iload dX12_routes_98 rfl rfl ?_
        obtain ⟨p7, ep7, h⟩ := xBind_el h
        refine gx_callv (as := [.int l4, .int l5]) (r := [.ref (a0 + 22)]) rfl dX12_routes_100 ca_12_322 rfl me_179 rfl rfl rfl rfl (ha0.1) rfl (fX12_otherEnd_ok (d := d) (by omega) ha0 ep7) rfl rfl ?_
        obtain ⟨hj9, h⟩ := xChk_el h
        obtain ⟨x8, hx8, h⟩ := xLet_el h
        refine gx_iaload dX12_routes_103 rfl ha0.2.2.2.2.2.2.2.2.2.2.2.2.2.2.2.2.2.2.2.2.2.2.1 hj9 hx8 ?_
        exact fX12_routes_104_ok (o7 := o7) hd ha0 hrec34 hrec43 ih q7 h
      · rw [if_neg hc6] at h
        refine fx_ldc_w dX12_routes_85 rfl ck_12_317 ?_
        refine fx_goto (t := 104) dX12_routes_88 rfl rfl ?_
        exact fX12_routes_104_ok (o7 := o7) hd ha0 hrec34 hrec43 ih q7 h
def fX12_routes_43 (a0 : Nat) (a1 : Int32) (a2 : Int32) (rec34 : Int32 → xMem → Option xMem) : Nat → Int32 → Int32 → xMem → Option xMem
  | 0, _, _, _ => none
  | fuel + 1, l3, l4, m => bif xIn (2 : Int32) 1610 then xLet (m.1 (a0 + 1) (2 : Int32).toNatClampNeg) fun x1 => if x1 ≤ l4 then xLet (l3 + (1 : Int32)) fun x4 => rec34 x4 m else fX12_routes_57 a0 a1 a2 rec34 (fX12_routes_43 a0 a1 a2 rec34 fuel) xFuel l3 l4 (0 : Int32) m else none
set_option maxRecDepth 4000 in
theorem fX12_routes_43_ok {a0 : Nat} {a1 : Int32} {a2 : Int32} {rec34 : Int32 → xMem → Option xMem} {d : Nat} (hd : 3 ≤ d) (ha0 : isModel a0) (hrec34 : ∀ (l3 : Int32) (o4 : Option Value) (o5 : Option Value) (o6 : Option Value) (o7 : Option Value) (q4 : xNoD o4 = true) (q5 : xNoD o5 = true) (q6 : xNoD o6 = true) (q7 : xNoD o7 = true) (m : xMem) (r : xMem), rec34 l3 m = some r → xFx hh_176 cX12_routes d 34 [some (.ref a0), some (.int a1), some (.int a2), some (.int l3), o4, o5, o6, o7] [] (xLay m) 0 0 none (xLay r)) : ∀ (fuel : Nat) (l3 : Int32) (l4 : Int32) (o5 : Option Value) (o6 : Option Value) (o7 : Option Value) (q5 : xNoD o5 = true) (q6 : xNoD o6 = true) (q7 : xNoD o7 = true) (m : xMem) (r : xMem), fX12_routes_43 a0 a1 a2 rec34 fuel l3 l4 m = some r → xFx hh_176 cX12_routes d 43 [some (.ref a0), some (.int a1), some (.int a2), some (.int l3), some (.int l4), o5, o6, o7] [] (xLay m) 0 0 none (xLay r) := by
  intro fuel
  induction fuel with
  | zero => intro l3 l4 o5 o6 o7 q5 q6 q7 m r  h; cases h
  | succ fuel ih =>
    intro l3 l4 o5 o6 o7 q5 q6 q7 m r  h
    unfold fX12_routes_43 at h
    refine fx_iload dX12_routes_43 rfl rfl ?_
    refine fx_aload_n dX12_routes_45 rfl rfl ?_
    refine gx_getr dX12_routes_46 rfl fd_12_7 ha0.1 rfl rfl ?_
    refine fx_iconst (x := 2) dX12_routes_49 rfl (by decide) ?_
    obtain ⟨hj2, h⟩ := xChk_el h
    obtain ⟨x1, hx1, h⟩ := xLet_el h
    refine gx_iaload dX12_routes_50 rfl ha0.2.1 hj2 hx1 ?_
    refine fx_icmp_ge (t := 153) dX12_routes_51 rfl rfl (fun hc3 => ?_) (fun hc3 => ?_)
    · rw [if_pos hc3] at h
      obtain ⟨x4, hx4, h⟩ := xLet_el h
      refine fx_iinc (ls2 := [some (.ref a0), some (.int a1), some (.int a2), some (.int x4), some (.int l4), o5, o6, o7]) dX12_routes_153 rfl rfl rfl hx4 rfl ?_
      refine fx_goto (t := 34) dX12_routes_156 rfl rfl ?_
      exact hrec34 x4 (some (.int l4)) (o5) (o6) (o7) rfl q5 q6 q7 m r h
    · rw [if_neg hc3] at h
      refine fx_iconst (x := 0) dX12_routes_54 rfl (by decide) ?_
      refine fx_istore (ls2 := [some (.ref a0), some (.int a1), some (.int a2), some (.int l3), some (.int l4), some (.int (0 : Int32)), o6, o7]) dX12_routes_55 rfl rfl rfl ?_
      exact fX12_routes_57_ok hd ha0 hrec34 ih xFuel l3 l4 (0 : Int32) (o6) (o7) q6 q7 m r h
def fX12_routes_280 (a0 : Nat) (a1 : Int32) (a2 : Int32) (rec161 : Int32 → xMem → Option xMem) (rec194 : Int32 → Int32 → xMem → Option xMem) (l3 : Int32) (l4 : Int32) (m : xMem) : Option xMem := xLet (l4 + (-1 : Int32)) fun x1 => rec194 l3 x1 m
set_option maxRecDepth 4000 in
theorem fX12_routes_280_ok {a0 : Nat} {a1 : Int32} {a2 : Int32} {rec161 : Int32 → xMem → Option xMem} {rec194 : Int32 → Int32 → xMem → Option xMem} {d : Nat} (hd : 3 ≤ d) (ha0 : isModel a0) (hrec161 : ∀ (l3 : Int32) (o4 : Option Value) (o5 : Option Value) (o6 : Option Value) (o7 : Option Value) (q4 : xNoD o4 = true) (q5 : xNoD o5 = true) (q6 : xNoD o6 = true) (q7 : xNoD o7 = true) (m : xMem) (r : xMem), rec161 l3 m = some r → xFx hh_176 cX12_routes d 161 [some (.ref a0), some (.int a1), some (.int a2), some (.int l3), o4, o5, o6, o7] [] (xLay m) 0 0 none (xLay r)) (hrec194 : ∀ (l3 : Int32) (l4 : Int32) (o5 : Option Value) (o6 : Option Value) (o7 : Option Value) (q5 : xNoD o5 = true) (q6 : xNoD o6 = true) (q7 : xNoD o7 = true) (m : xMem) (r : xMem), rec194 l3 l4 m = some r → xFx hh_176 cX12_routes d 194 [some (.ref a0), some (.int a1), some (.int a2), some (.int l3), some (.int l4), o5, o6, o7] [] (xLay m) 0 0 none (xLay r)) {l3 : Int32} {l4 : Int32} {o5 : Option Value} {o6 : Option Value} {o7 : Option Value} {m : xMem} {r : xMem} (q5 : xNoD o5 = true) (q6 : xNoD o6 = true) (q7 : xNoD o7 = true) (h : fX12_routes_280 a0 a1 a2 rec161 rec194 l3 l4 m = some r) : xFx hh_176 cX12_routes d 280 [some (.ref a0), some (.int a1), some (.int a2), some (.int l3), some (.int l4), o5, o6, o7] [] (xLay m) 0 0 none (xLay r) := by
  unfold fX12_routes_280 at h
  obtain ⟨x1, hx1, h⟩ := xLet_el h
  refine fx_iinc (ls2 := [some (.ref a0), some (.int a1), some (.int a2), some (.int l3), some (.int x1), o5, o6, o7]) dX12_routes_280 rfl rfl rfl hx1 rfl ?_
  refine fx_goto (t := 194) dX12_routes_283 rfl rfl ?_
  exact hrec194 l3 x1 (o5) (o6) (o7) q5 q6 q7 m r h
def fX12_routes_286 (a0 : Nat) (a1 : Int32) (a2 : Int32) (rec161 : Int32 → xMem → Option xMem) (l3 : Int32) (m : xMem) : Option xMem := xLet (l3 + (1 : Int32)) fun x1 => rec161 x1 m
set_option maxRecDepth 4000 in
theorem fX12_routes_286_ok {a0 : Nat} {a1 : Int32} {a2 : Int32} {rec161 : Int32 → xMem → Option xMem} {d : Nat} (hd : 3 ≤ d) (ha0 : isModel a0) (hrec161 : ∀ (l3 : Int32) (o4 : Option Value) (o5 : Option Value) (o6 : Option Value) (o7 : Option Value) (q4 : xNoD o4 = true) (q5 : xNoD o5 = true) (q6 : xNoD o6 = true) (q7 : xNoD o7 = true) (m : xMem) (r : xMem), rec161 l3 m = some r → xFx hh_176 cX12_routes d 161 [some (.ref a0), some (.int a1), some (.int a2), some (.int l3), o4, o5, o6, o7] [] (xLay m) 0 0 none (xLay r)) {l3 : Int32} {o4 : Option Value} {o5 : Option Value} {o6 : Option Value} {o7 : Option Value} {m : xMem} {r : xMem} (q4 : xNoD o4 = true) (q5 : xNoD o5 = true) (q6 : xNoD o6 = true) (q7 : xNoD o7 = true) (h : fX12_routes_286 a0 a1 a2 rec161 l3 m = some r) : xFx hh_176 cX12_routes d 286 [some (.ref a0), some (.int a1), some (.int a2), some (.int l3), o4, o5, o6, o7] [] (xLay m) 0 0 none (xLay r) := by
  unfold fX12_routes_286 at h
  obtain ⟨x1, hx1, h⟩ := xLet_el h
  refine fx_iinc (ls2 := [some (.ref a0), some (.int a1), some (.int a2), some (.int x1), o4, o5, o6, o7]) dX12_routes_286 rfl rfl rfl hx1 rfl ?_
  refine fx_goto (t := 161) dX12_routes_289 rfl rfl ?_
  exact hrec161 x1 (o4) (o5) (o6) (o7) q4 q5 q6 q7 m r h
def fX12_routes_194 (a0 : Nat) (a1 : Int32) (a2 : Int32) (rec161 : Int32 → xMem → Option xMem) : Nat → Int32 → Int32 → xMem → Option xMem
  | 0, _, _, _ => none
  | fuel + 1, l3, l4, m => if l4 < (0 : Int32) then fX12_routes_286 a0 a1 a2 rec161 l3 m else if l3 = a1 then fX12_routes_286 a0 a1 a2 rec161 l3 m else (fX12_costFrom a0 l4 l3 a2 m).bind fun p3 => if p3.1 = (-1 : Int32) then fX12_routes_280 a0 a1 a2 rec161 (fX12_routes_194 a0 a1 a2 rec161 fuel) l3 l4 p3.2 else (fX12_otherEnd a0 l4 l3 p3.2).bind fun p5 => bif xIn p5.1 6 then xLet (p5.2.1 (a0 + 22) p5.1.toNatClampNeg) fun x6 => if (1000000000 : Int32) ≤ x6 then fX12_routes_280 a0 a1 a2 rec161 (fX12_routes_194 a0 a1 a2 rec161 fuel) l3 l4 p5.2 else (fX12_otherEnd a0 l4 l3 p5.2).bind fun p9 => bif xIn p9.1 6 then xLet (p9.2.1 (a0 + 22) p9.1.toNatClampNeg) fun x10 => xLet (x10 + p3.1) fun x12 => bif xIn l3 6 then xLet (p9.2.1 (a0 + 22) l3.toNatClampNeg) fun x13 => if ¬ x12 = x13 then fX12_routes_280 a0 a1 a2 rec161 (fX12_routes_194 a0 a1 a2 rec161 fuel) l3 l4 p9.2 else xLet ((36 : Int32) * a2) fun x16 => xLet ((6 : Int32) * a1) fun x17 => xLet (x16 + x17) fun x18 => xLet (x18 + l3) fun x19 => bif xIn x19 72 then xLet (xPut p9.2 (a0 + 21) x19.toNatClampNeg l4) fun m20 => fX12_routes_280 a0 a1 a2 rec161 (fX12_routes_194 a0 a1 a2 rec161 fuel) l3 l4 m20 else none else none else none else none
set_option maxRecDepth 4000 in
theorem fX12_routes_194_ok {a0 : Nat} {a1 : Int32} {a2 : Int32} {rec161 : Int32 → xMem → Option xMem} {d : Nat} (hd : 3 ≤ d) (ha0 : isModel a0) (hrec161 : ∀ (l3 : Int32) (o4 : Option Value) (o5 : Option Value) (o6 : Option Value) (o7 : Option Value) (q4 : xNoD o4 = true) (q5 : xNoD o5 = true) (q6 : xNoD o6 = true) (q7 : xNoD o7 = true) (m : xMem) (r : xMem), rec161 l3 m = some r → xFx hh_176 cX12_routes d 161 [some (.ref a0), some (.int a1), some (.int a2), some (.int l3), o4, o5, o6, o7] [] (xLay m) 0 0 none (xLay r)) : ∀ (fuel : Nat) (l3 : Int32) (l4 : Int32) (o5 : Option Value) (o6 : Option Value) (o7 : Option Value) (q5 : xNoD o5 = true) (q6 : xNoD o6 = true) (q7 : xNoD o7 = true) (m : xMem) (r : xMem), fX12_routes_194 a0 a1 a2 rec161 fuel l3 l4 m = some r → xFx hh_176 cX12_routes d 194 [some (.ref a0), some (.int a1), some (.int a2), some (.int l3), some (.int l4), o5, o6, o7] [] (xLay m) 0 0 none (xLay r) := by
  intro fuel
  induction fuel with
  | zero => intro l3 l4 o5 o6 o7 q5 q6 q7 m r  h; cases h
  | succ fuel ih =>
    intro l3 l4 o5 o6 o7 q5 q6 q7 m r  h
    unfold fX12_routes_194 at h
    refine fx_iload dX12_routes_194 rfl rfl ?_
    refine fx_if_lt (t := 286) dX12_routes_196 rfl rfl (fun hc1 => ?_) (fun hc1 => ?_)
    · rw [if_pos hc1] at h
      exact fX12_routes_286_ok (o4 := some (.int l4)) (o5 := o5) (o6 := o6) (o7 := o7) hd ha0 hrec161 rfl q5 q6 q7 h
    · rw [if_neg hc1] at h
      refine fx_iload_n dX12_routes_199 rfl rfl ?_
      refine fx_iload_n dX12_routes_200 rfl rfl ?_
      refine fx_icmp_eq (t := 286) dX12_routes_201 rfl rfl (fun hc2 => ?_) (fun hc2 => ?_)
      · rw [if_pos hc2] at h
        exact fX12_routes_286_ok (o4 := some (.int l4)) (o5 := o5) (o6 := o6) (o7 := o7) hd ha0 hrec161 rfl q5 q6 q7 h
      · rw [if_neg hc2] at h
        refine fx_aload_n dX12_routes_204 rfl rfl ?_
        refine fx_iload dX12_routes_205 rfl rfl ?_
        refine fx_iload_n dX12_routes_207 rfl rfl ?_
        refine fx_iload_n dX12_routes_208 rfl rfl ?_
        obtain ⟨p3, ep3, h⟩ := xBind_el h
        refine gx_callv (as := [.int l4, .int l3, .int a2]) (r := []) rfl dX12_routes_209 ca_12_318 rfl me_177 rfl rfl rfl rfl (ha0.1) rfl (fX12_costFrom_ok (d := d) (by omega) ha0 ep3) rfl rfl ?_
        refine fx_istore (ls2 := [some (.ref a0), some (.int a1), some (.int a2), some (.int l3), some (.int l4), some (.int p3.1), o6, o7]) dX12_routes_212 rfl rfl rfl ?_
        refine fx_iload dX12_routes_214 rfl rfl ?_
        refine fx_iconst (x := -1) dX12_routes_216 rfl (by decide) ?_
        refine fx_icmp_eq (t := 280) dX12_routes_217 rfl rfl (fun hc4 => ?_) (fun hc4 => ?_)
        · rw [if_pos hc4] at h
          exact fX12_routes_280_ok (o5 := some (.int p3.1)) (o6 := o6) (o7 := o7) hd ha0 hrec161 ih rfl q6 q7 h
        · rw [if_neg hc4] at h
          refine fx_aload_n dX12_routes_220 rfl rfl ?_
          refine gx_getr dX12_routes_221 rfl fd_12_83 ha0.1 rfl rfl ?_
          refine fx_aload_n dX12_routes_224 rfl rfl ?_
          refine fx_iload dX12_routes_225 rfl rfl ?_
          refine fx_iload_n dX12_routes_227 rfl rfl ?_
          obtain ⟨p5, ep5, h⟩ := xBind_el h
          refine gx_callv (as := [.int l4, .int l3]) (r := [.ref (a0 + 22)]) rfl dX12_routes_228 ca_12_322 rfl me_179 rfl rfl rfl rfl (ha0.1) rfl (fX12_otherEnd_ok (d := d) (by omega) ha0 ep5) rfl rfl ?_
          obtain ⟨hj7, h⟩ := xChk_el h
          obtain ⟨x6, hx6, h⟩ := xLet_el h
          refine gx_iaload dX12_routes_231 rfl ha0.2.2.2.2.2.2.2.2.2.2.2.2.2.2.2.2.2.2.2.2.2.2.1 hj7 hx6 ?_
          refine fx_ldc_w dX12_routes_232 rfl ck_12_317 ?_
          refine fx_icmp_ge (t := 280) dX12_routes_235 rfl rfl (fun hc8 => ?_) (fun hc8 => ?_)
          · rw [if_pos hc8] at h
            exact fX12_routes_280_ok (o5 := some (.int p3.1)) (o6 := o6) (o7 := o7) hd ha0 hrec161 ih rfl q6 q7 h
          · rw [if_neg hc8] at h
            refine fx_aload_n dX12_routes_238 rfl rfl ?_
            refine gx_getr dX12_routes_239 rfl fd_12_83 ha0.1 rfl rfl ?_
            refine fx_aload_n dX12_routes_242 rfl rfl ?_
            refine fx_iload dX12_routes_243 rfl rfl ?_
            refine fx_iload_n dX12_routes_245 rfl rfl ?_
            obtain ⟨p9, ep9, h⟩ := xBind_el h
            refine gx_callv (as := [.int l4, .int l3]) (r := [.ref (a0 + 22)]) rfl dX12_routes_246 ca_12_322 rfl me_179 rfl rfl rfl rfl (ha0.1) rfl (fX12_otherEnd_ok (d := d) (by omega) ha0 ep9) rfl rfl ?_
            obtain ⟨hj11, h⟩ := xChk_el h
            obtain ⟨x10, hx10, h⟩ := xLet_el h
            refine gx_iaload dX12_routes_249 rfl ha0.2.2.2.2.2.2.2.2.2.2.2.2.2.2.2.2.2.2.2.2.2.2.1 hj11 hx10 ?_
            refine fx_iload dX12_routes_250 rfl rfl ?_
            obtain ⟨x12, hx12, h⟩ := xLet_el h
            refine fx_iadd dX12_routes_252 rfl hx12 ?_
            refine fx_aload_n dX12_routes_253 rfl rfl ?_
            refine gx_getr dX12_routes_254 rfl fd_12_83 ha0.1 rfl rfl ?_
            refine fx_iload_n dX12_routes_257 rfl rfl ?_
            obtain ⟨hj14, h⟩ := xChk_el h
            obtain ⟨x13, hx13, h⟩ := xLet_el h
            refine gx_iaload dX12_routes_258 rfl ha0.2.2.2.2.2.2.2.2.2.2.2.2.2.2.2.2.2.2.2.2.2.2.1 hj14 hx13 ?_
            refine fx_icmp_ne (t := 280) dX12_routes_259 rfl rfl (fun hc15 => ?_) (fun hc15 => ?_)
            · rw [if_pos hc15] at h
              exact fX12_routes_280_ok (o5 := some (.int p3.1)) (o6 := o6) (o7 := o7) hd ha0 hrec161 ih rfl q6 q7 h
            · rw [if_neg hc15] at h
              refine fx_aload_n dX12_routes_262 rfl rfl ?_
              refine gx_getr dX12_routes_263 rfl fd_12_80 ha0.1 rfl rfl ?_
              refine fx_bipush (x := 36) dX12_routes_266 rfl (by decide) ?_
              refine fx_iload_n dX12_routes_268 rfl rfl ?_
              obtain ⟨x16, hx16, h⟩ := xLet_el h
              refine fx_imul dX12_routes_269 rfl hx16 ?_
              refine fx_bipush (x := 6) dX12_routes_270 rfl (by decide) ?_
              refine fx_iload_n dX12_routes_272 rfl rfl ?_
              obtain ⟨x17, hx17, h⟩ := xLet_el h
              refine fx_imul dX12_routes_273 rfl hx17 ?_
              obtain ⟨x18, hx18, h⟩ := xLet_el h
              refine fx_iadd dX12_routes_274 rfl hx18 ?_
              refine fx_iload_n dX12_routes_275 rfl rfl ?_
              obtain ⟨x19, hx19, h⟩ := xLet_el h
              refine fx_iadd dX12_routes_276 rfl hx19 ?_
              refine fx_iload dX12_routes_277 rfl rfl ?_
              obtain ⟨hj21, h⟩ := xChk_el h
              obtain ⟨m20, hm20, h⟩ := xLet_el h
              refine gx_iastore dX12_routes_279 rfl ha0.2.2.2.2.2.2.2.2.2.2.2.2.2.2.2.2.2.2.2.2.2.1 hj21 hm20 ?_
              exact fX12_routes_280_ok (o5 := some (.int p3.1)) (o6 := o6) (o7 := o7) hd ha0 hrec161 ih rfl q6 q7 h
def fX12_routes_161 (a0 : Nat) (a1 : Int32) (a2 : Int32) : Nat → Int32 → xMem → Option xMem
  | 0, _, _ => none
  | fuel + 1, l3, m => if (6 : Int32) ≤ l3 then some m else xLet ((36 : Int32) * a2) fun x2 => xLet ((6 : Int32) * a1) fun x3 => xLet (x2 + x3) fun x4 => xLet (x4 + l3) fun x5 => bif xIn x5 72 then xLet (xPut m (a0 + 21) x5.toNatClampNeg (-1 : Int32)) fun m6 => bif xIn (2 : Int32) 1610 then xLet (m6.1 (a0 + 1) (2 : Int32).toNatClampNeg) fun x8 => xLet (x8 - (1 : Int32)) fun x10 => fX12_routes_194 a0 a1 a2 (fX12_routes_161 a0 a1 a2 fuel) xFuel l3 x10 m6 else none else none
set_option maxRecDepth 4000 in
theorem fX12_routes_161_ok {a0 : Nat} {a1 : Int32} {a2 : Int32} {d : Nat} (hd : 3 ≤ d) (ha0 : isModel a0) : ∀ (fuel : Nat) (l3 : Int32) (o4 : Option Value) (o5 : Option Value) (o6 : Option Value) (o7 : Option Value) (q4 : xNoD o4 = true) (q5 : xNoD o5 = true) (q6 : xNoD o6 = true) (q7 : xNoD o7 = true) (m : xMem) (r : xMem), fX12_routes_161 a0 a1 a2 fuel l3 m = some r → xFx hh_176 cX12_routes d 161 [some (.ref a0), some (.int a1), some (.int a2), some (.int l3), o4, o5, o6, o7] [] (xLay m) 0 0 none (xLay r) := by
  intro fuel
  induction fuel with
  | zero => intro l3 o4 o5 o6 o7 q4 q5 q6 q7 m r  h; cases h
  | succ fuel ih =>
    intro l3 o4 o5 o6 o7 q4 q5 q6 q7 m r  h
    unfold fX12_routes_161 at h
    refine fx_iload_n dX12_routes_161 rfl rfl ?_
    refine fx_bipush (x := 6) dX12_routes_162 rfl (by decide) ?_
    refine fx_icmp_ge (t := 292) dX12_routes_164 rfl rfl (fun hc1 => ?_) (fun hc1 => ?_)
    · rw [if_pos hc1] at h
      cases h
      exact fx_return dX12_routes_292 rfl rfl
    · rw [if_neg hc1] at h
      refine fx_aload_n dX12_routes_167 rfl rfl ?_
      refine gx_getr dX12_routes_168 rfl fd_12_80 ha0.1 rfl rfl ?_
      refine fx_bipush (x := 36) dX12_routes_171 rfl (by decide) ?_
      refine fx_iload_n dX12_routes_173 rfl rfl ?_
      obtain ⟨x2, hx2, h⟩ := xLet_el h
      refine fx_imul dX12_routes_174 rfl hx2 ?_
      refine fx_bipush (x := 6) dX12_routes_175 rfl (by decide) ?_
      refine fx_iload_n dX12_routes_177 rfl rfl ?_
      obtain ⟨x3, hx3, h⟩ := xLet_el h
      refine fx_imul dX12_routes_178 rfl hx3 ?_
      obtain ⟨x4, hx4, h⟩ := xLet_el h
      refine fx_iadd dX12_routes_179 rfl hx4 ?_
      refine fx_iload_n dX12_routes_180 rfl rfl ?_
      obtain ⟨x5, hx5, h⟩ := xLet_el h
      refine fx_iadd dX12_routes_181 rfl hx5 ?_
      refine fx_iconst (x := -1) dX12_routes_182 rfl (by decide) ?_
      obtain ⟨hj7, h⟩ := xChk_el h
      obtain ⟨m6, hm6, h⟩ := xLet_el h
      refine gx_iastore dX12_routes_183 rfl ha0.2.2.2.2.2.2.2.2.2.2.2.2.2.2.2.2.2.2.2.2.2.1 hj7 hm6 ?_
      refine fx_aload_n dX12_routes_184 rfl rfl ?_
      refine gx_getr dX12_routes_185 rfl fd_12_7 ha0.1 rfl rfl ?_
      refine fx_iconst (x := 2) dX12_routes_188 rfl (by decide) ?_
      obtain ⟨hj9, h⟩ := xChk_el h
      obtain ⟨x8, hx8, h⟩ := xLet_el h
      refine gx_iaload dX12_routes_189 rfl ha0.2.1 hj9 hx8 ?_
      refine fx_iconst (x := 1) dX12_routes_190 rfl (by decide) ?_
      obtain ⟨x10, hx10, h⟩ := xLet_el h
      refine fx_isub dX12_routes_191 rfl hx10 ?_
      refine fx_istore (ls2 := [some (.ref a0), some (.int a1), some (.int a2), some (.int l3), some (.int x10), o5, o6, o7]) dX12_routes_192 rfl rfl rfl ?_
      exact fX12_routes_194_ok hd ha0 ih xFuel l3 x10 (o5) (o6) (o7) q5 q6 q7 m6 r h
def fX12_routes_34 (a0 : Nat) (a1 : Int32) (a2 : Int32) : Nat → Int32 → xMem → Option xMem
  | 0, _, _ => none
  | fuel + 1, l3, m => if (6 : Int32) ≤ l3 then fX12_routes_161 a0 a1 a2 xFuel (0 : Int32) m else fX12_routes_43 a0 a1 a2 (fX12_routes_34 a0 a1 a2 fuel) xFuel l3 (0 : Int32) m
set_option maxRecDepth 4000 in
theorem fX12_routes_34_ok {a0 : Nat} {a1 : Int32} {a2 : Int32} {d : Nat} (hd : 3 ≤ d) (ha0 : isModel a0) : ∀ (fuel : Nat) (l3 : Int32) (o4 : Option Value) (o5 : Option Value) (o6 : Option Value) (o7 : Option Value) (q4 : xNoD o4 = true) (q5 : xNoD o5 = true) (q6 : xNoD o6 = true) (q7 : xNoD o7 = true) (m : xMem) (r : xMem), fX12_routes_34 a0 a1 a2 fuel l3 m = some r → xFx hh_176 cX12_routes d 34 [some (.ref a0), some (.int a1), some (.int a2), some (.int l3), o4, o5, o6, o7] [] (xLay m) 0 0 none (xLay r) := by
  intro fuel
  induction fuel with
  | zero => intro l3 o4 o5 o6 o7 q4 q5 q6 q7 m r  h; cases h
  | succ fuel ih =>
    intro l3 o4 o5 o6 o7 q4 q5 q6 q7 m r  h
    unfold fX12_routes_34 at h
    refine fx_iload_n dX12_routes_34 rfl rfl ?_
    refine fx_bipush (x := 6) dX12_routes_35 rfl (by decide) ?_
    refine fx_icmp_ge (t := 159) dX12_routes_37 rfl rfl (fun hc1 => ?_) (fun hc1 => ?_)
    · rw [if_pos hc1] at h
      refine fx_iconst (x := 0) dX12_routes_159 rfl (by decide) ?_
      refine fx_istore_n (ls2 := [some (.ref a0), some (.int a1), some (.int a2), some (.int (0 : Int32)), o4, o5, o6, o7]) dX12_routes_160 rfl rfl rfl ?_
      exact fX12_routes_161_ok hd ha0 xFuel (0 : Int32) (o4) (o5) (o6) (o7) q4 q5 q6 q7 m r h
    · rw [if_neg hc1] at h
      refine fx_iconst (x := 0) dX12_routes_40 rfl (by decide) ?_
      refine fx_istore (ls2 := [some (.ref a0), some (.int a1), some (.int a2), some (.int l3), some (.int (0 : Int32)), o5, o6, o7]) dX12_routes_41 rfl rfl rfl ?_
      exact fX12_routes_43_ok hd ha0 ih xFuel l3 (0 : Int32) (o5) (o6) (o7) q5 q6 q7 m r h
def fX12_routes_2 (a0 : Nat) (a1 : Int32) (a2 : Int32) : Nat → Int32 → xMem → Option xMem
  | 0, _, _ => none
  | fuel + 1, l3, m => if (6 : Int32) ≤ l3 then fX12_routes_34 a0 a1 a2 xFuel (0 : Int32) m else if ¬ l3 = a1 then fX12_routes_25 a0 a1 a2 (fX12_routes_2 a0 a1 a2 fuel) l3 (a0 + 22) l3 (1000000000 : Int32) m else fX12_routes_25 a0 a1 a2 (fX12_routes_2 a0 a1 a2 fuel) l3 (a0 + 22) l3 (0 : Int32) m
set_option maxRecDepth 4000 in
theorem fX12_routes_2_ok {a0 : Nat} {a1 : Int32} {a2 : Int32} {d : Nat} (hd : 3 ≤ d) (ha0 : isModel a0) : ∀ (fuel : Nat) (l3 : Int32) (o4 : Option Value) (o5 : Option Value) (o6 : Option Value) (o7 : Option Value) (q4 : xNoD o4 = true) (q5 : xNoD o5 = true) (q6 : xNoD o6 = true) (q7 : xNoD o7 = true) (m : xMem) (r : xMem), fX12_routes_2 a0 a1 a2 fuel l3 m = some r → xFx hh_176 cX12_routes d 2 [some (.ref a0), some (.int a1), some (.int a2), some (.int l3), o4, o5, o6, o7] [] (xLay m) 0 0 none (xLay r) := by
  intro fuel
  induction fuel with
  | zero => intro l3 o4 o5 o6 o7 q4 q5 q6 q7 m r  h; cases h
  | succ fuel ih =>
    intro l3 o4 o5 o6 o7 q4 q5 q6 q7 m r  h
    unfold fX12_routes_2 at h
    refine fx_iload_n dX12_routes_2 rfl rfl ?_
    refine fx_bipush (x := 6) dX12_routes_3 rfl (by decide) ?_
    refine fx_icmp_ge (t := 32) dX12_routes_5 rfl rfl (fun hc1 => ?_) (fun hc1 => ?_)
    · rw [if_pos hc1] at h
      refine fx_iconst (x := 0) dX12_routes_32 rfl (by decide) ?_
      refine fx_istore_n (ls2 := [some (.ref a0), some (.int a1), some (.int a2), some (.int (0 : Int32)), o4, o5, o6, o7]) dX12_routes_33 rfl rfl rfl ?_
      exact fX12_routes_34_ok hd ha0 xFuel (0 : Int32) (o4) (o5) (o6) (o7) q4 q5 q6 q7 m r h
    · rw [if_neg hc1] at h
      refine fx_aload_n dX12_routes_8 rfl rfl ?_
      refine gx_getr dX12_routes_9 rfl fd_12_83 ha0.1 rfl rfl ?_
      refine fx_iload_n dX12_routes_12 rfl rfl ?_
      refine fx_iload_n dX12_routes_13 rfl rfl ?_
      refine fx_iload_n dX12_routes_14 rfl rfl ?_
      refine fx_icmp_ne (t := 22) dX12_routes_15 rfl rfl (fun hc2 => ?_) (fun hc2 => ?_)
      · rw [if_pos hc2] at h
        refine fx_ldc_w dX12_routes_22 rfl ck_12_317 ?_
        exact fX12_routes_25_ok (o4 := o4) (o5 := o5) (o6 := o6) (o7 := o7) hd ha0 ih ha0.2.2.2.2.2.2.2.2.2.2.2.2.2.2.2.2.2.2.2.2.2.2.1 q4 q5 q6 q7 h
      · rw [if_neg hc2] at h
        refine fx_iconst (x := 0) dX12_routes_18 rfl (by decide) ?_
        refine fx_goto (t := 25) dX12_routes_19 rfl rfl ?_
        exact fX12_routes_25_ok (o4 := o4) (o5 := o5) (o6 := o6) (o7 := o7) hd ha0 ih ha0.2.2.2.2.2.2.2.2.2.2.2.2.2.2.2.2.2.2.2.2.2.2.1 q4 q5 q6 q7 h
def fX12_routes_0 (a0 : Nat) (a1 : Int32) (a2 : Int32) (m : xMem) : Option xMem := fX12_routes_2 a0 a1 a2 xFuel (0 : Int32) m
set_option maxRecDepth 4000 in
theorem fX12_routes_0_ok {a0 : Nat} {a1 : Int32} {a2 : Int32} {d : Nat} (hd : 3 ≤ d) (ha0 : isModel a0) {o3 : Option Value} {o4 : Option Value} {o5 : Option Value} {o6 : Option Value} {o7 : Option Value} {m : xMem} {r : xMem} (q3 : xNoD o3 = true) (q4 : xNoD o4 = true) (q5 : xNoD o5 = true) (q6 : xNoD o6 = true) (q7 : xNoD o7 = true) (h : fX12_routes_0 a0 a1 a2 m = some r) : xFx hh_176 cX12_routes d 0 [some (.ref a0), some (.int a1), some (.int a2), o3, o4, o5, o6, o7] [] (xLay m) 0 0 none (xLay r) := by
  unfold fX12_routes_0 at h
  refine fx_iconst (x := 0) dX12_routes_0 rfl (by decide) ?_
  refine fx_istore_n (ls2 := [some (.ref a0), some (.int a1), some (.int a2), some (.int (0 : Int32)), o4, o5, o6, o7]) dX12_routes_1 rfl rfl rfl ?_
  exact fX12_routes_2_ok hd ha0 xFuel (0 : Int32) (o4) (o5) (o6) (o7) q4 q5 q6 q7 m r h
def fX12_routes (a0 : Nat) (a1 : Int32) (a2 : Int32) (m : xMem) : Option xMem := fX12_routes_0 a0 a1 a2  m
theorem fX12_routes_ok {a0 : Nat} {a1 : Int32} {a2 : Int32} {m : xMem} {r : xMem} {d : Nat} (hd : 4 ≤ d) (ha0 : isModel a0) (h : fX12_routes a0 a1 a2 m = some r) : xEx d 176 [.ref a0, .int a1, .int a2] (xLay m) none (xLay r) := by
  obtain ⟨d, rfl⟩ : ∃ q, d = q + 1 := ⟨d - 1, by omega⟩
  exact xEx_of me_176 rfl (fX12_routes_0_ok (d := d) (o3 := none) (o4 := none) (o5 := none) (o6 := none) (o7 := none) (by omega) ha0 rfl rfl rfl rfl rfl h)
def fX12_allRoutes_2 (a0 : Nat) : Nat → Int32 → xMem → Option xMem
  | 0, _, _ => none
  | fuel + 1, l1, m => bif xIn (1 : Int32) 1610 then xLet (m.1 (a0 + 1) (1 : Int32).toNatClampNeg) fun x1 => if x1 ≤ l1 then some m else (fX12_routes a0 l1 (0 : Int32) m).bind fun p4 => (fX12_routes a0 l1 (1 : Int32) p4).bind fun p5 => xLet (l1 + (1 : Int32)) fun x6 => fX12_allRoutes_2 a0 fuel x6 p5 else none
set_option maxRecDepth 4000 in
theorem fX12_allRoutes_2_ok {a0 : Nat} {d : Nat} (hd : 4 ≤ d) (ha0 : isModel a0) : ∀ (fuel : Nat) (l1 : Int32) (m : xMem) (r : xMem), fX12_allRoutes_2 a0 fuel l1 m = some r → xFx hh_175 cX12_allRoutes d 2 [some (.ref a0), some (.int l1)] [] (xLay m) 0 0 none (xLay r) := by
  intro fuel
  induction fuel with
  | zero => intro l1  m r  h; cases h
  | succ fuel ih =>
    intro l1  m r  h
    unfold fX12_allRoutes_2 at h
    refine fx_iload_n dX12_allRoutes_2 rfl rfl ?_
    refine fx_aload_n dX12_allRoutes_3 rfl rfl ?_
    refine gx_getr dX12_allRoutes_4 rfl fd_12_7 ha0.1 rfl rfl ?_
    refine fx_iconst (x := 1) dX12_allRoutes_7 rfl (by decide) ?_
    obtain ⟨hj2, h⟩ := xChk_el h
    obtain ⟨x1, hx1, h⟩ := xLet_el h
    refine gx_iaload dX12_allRoutes_8 rfl ha0.2.1 hj2 hx1 ?_
    refine fx_icmp_ge (t := 30) dX12_allRoutes_9 rfl rfl (fun hc3 => ?_) (fun hc3 => ?_)
    · rw [if_pos hc3] at h
      cases h
      exact fx_return dX12_allRoutes_30 rfl rfl
    · rw [if_neg hc3] at h
      refine fx_aload_n dX12_allRoutes_12 rfl rfl ?_
      refine fx_iload_n dX12_allRoutes_13 rfl rfl ?_
      refine fx_iconst (x := 0) dX12_allRoutes_14 rfl (by decide) ?_
      obtain ⟨p4, ep4, h⟩ := xBind_el h
      refine gx_callv (as := [.int l1, .int (0 : Int32)]) (r := []) rfl dX12_allRoutes_15 ca_12_325 rfl me_176 rfl rfl rfl rfl (ha0.1) rfl (fX12_routes_ok (d := d) (by omega) ha0 ep4) rfl rfl ?_
      refine fx_aload_n dX12_allRoutes_18 rfl rfl ?_
      refine fx_iload_n dX12_allRoutes_19 rfl rfl ?_
      refine fx_iconst (x := 1) dX12_allRoutes_20 rfl (by decide) ?_
      obtain ⟨p5, ep5, h⟩ := xBind_el h
      refine gx_callv (as := [.int l1, .int (1 : Int32)]) (r := []) rfl dX12_allRoutes_21 ca_12_325 rfl me_176 rfl rfl rfl rfl (ha0.1) rfl (fX12_routes_ok (d := d) (by omega) ha0 ep5) rfl rfl ?_
      obtain ⟨x6, hx6, h⟩ := xLet_el h
      refine fx_iinc (ls2 := [some (.ref a0), some (.int x6)]) dX12_allRoutes_24 rfl rfl rfl hx6 rfl ?_
      refine fx_goto (t := 2) dX12_allRoutes_27 rfl rfl ?_
      exact ih x6 p5 r h
def fX12_allRoutes_0 (a0 : Nat) (m : xMem) : Option xMem := fX12_allRoutes_2 a0 xFuel (0 : Int32) m
set_option maxRecDepth 4000 in
theorem fX12_allRoutes_0_ok {a0 : Nat} {d : Nat} (hd : 4 ≤ d) (ha0 : isModel a0) {o1 : Option Value} {m : xMem} {r : xMem} (q1 : xNoD o1 = true) (h : fX12_allRoutes_0 a0 m = some r) : xFx hh_175 cX12_allRoutes d 0 [some (.ref a0), o1] [] (xLay m) 0 0 none (xLay r) := by
  unfold fX12_allRoutes_0 at h
  refine fx_iconst (x := 0) dX12_allRoutes_0 rfl (by decide) ?_
  refine fx_istore_n (ls2 := [some (.ref a0), some (.int (0 : Int32))]) dX12_allRoutes_1 rfl rfl rfl ?_
  exact fX12_allRoutes_2_ok hd ha0 xFuel (0 : Int32) m r h
def fX12_allRoutes (a0 : Nat) (m : xMem) : Option xMem := fX12_allRoutes_0 a0  m
theorem fX12_allRoutes_ok {a0 : Nat} {m : xMem} {r : xMem} {d : Nat} (hd : 5 ≤ d) (ha0 : isModel a0) (h : fX12_allRoutes a0 m = some r) : xEx d 175 [.ref a0] (xLay m) none (xLay r) := by
  obtain ⟨d, rfl⟩ : ∃ q, d = q + 1 := ⟨d - 1, by omega⟩
  exact xEx_of me_175 rfl (fX12_allRoutes_0_ok (d := d) (o1 := none) (by omega) ha0 rfl h)
def fX12_walkOf_117 (a0 : Nat) (a1 : Int32) (rec66 : Int32 → Int64 → Int32 → xMem → Option (Int32 × xMem)) (l2 : Int32) (l5 : Int32) (s0 : Int64) (m : xMem) : Option (Int32 × xMem) := xLet (l5 + (1 : Int32)) fun x1 => rec66 l2 s0 x1 m
set_option maxRecDepth 4000 in
theorem fX12_walkOf_117_ok {a0 : Nat} {a1 : Int32} {rec66 : Int32 → Int64 → Int32 → xMem → Option (Int32 × xMem)} {d : Nat} (hd : 3 ≤ d) (ha0 : isModel a0) (hrec66 : ∀ (l2 : Int32) (l3 : Int64) (l5 : Int32) (m : xMem) (r : (Int32 × xMem)), rec66 l2 l3 l5 m = some r → xFx hh_181 cX12_walkOf d 66 [some (.ref a0), some (.int a1), some (.int l2), some (.long l3), none, some (.int l5)] [] (xLay m) 0 0 (some (.int r.1)) (xLay r.2)) {l2 : Int32} {l5 : Int32} {s0 : Int64} {o3 : Option Value} {o4 : Option Value} {m : xMem} {r : (Int32 × xMem)} (h : fX12_walkOf_117 a0 a1 rec66 l2 l5 s0 m = some r) : xFx hh_181 cX12_walkOf d 117 [some (.ref a0), some (.int a1), some (.int l2), o3, o4, some (.int l5)] [.long s0] (xLay m) 0 0 (some (.int r.1)) (xLay r.2) := by
  unfold fX12_walkOf_117 at h
  refine fx_lstore_n (ls2 := [some (.ref a0), some (.int a1), some (.int l2), some (.long s0), none, some (.int l5)]) dX12_walkOf_117 rfl rfl rfl ?_
  obtain ⟨x1, hx1, h⟩ := xLet_el h
  refine fx_iinc (ls2 := [some (.ref a0), some (.int a1), some (.int l2), some (.long s0), none, some (.int x1)]) dX12_walkOf_118 rfl rfl rfl hx1 rfl ?_
  refine fx_goto (t := 66) dX12_walkOf_121 rfl rfl ?_
  exact hrec66 l2 s0 x1 m r h
def fX12_walkOf_149 (a0 : Nat) (a1 : Int32) (s0 : Int32) (m : xMem) : Option (Int32 × xMem) := some (s0, m)
set_option maxRecDepth 4000 in
theorem fX12_walkOf_149_ok {a0 : Nat} {a1 : Int32} {d : Nat} (hd : 3 ≤ d) (ha0 : isModel a0) {s0 : Int32} {o2 : Option Value} {o3 : Option Value} {o4 : Option Value} {o5 : Option Value} {m : xMem} {r : (Int32 × xMem)} (q2 : xNoD o2 = true) (q5 : xNoD o5 = true) (h : fX12_walkOf_149 a0 a1 s0 m = some r) : xFx hh_181 cX12_walkOf d 149 [some (.ref a0), some (.int a1), o2, o3, o4, o5] [.int s0] (xLay m) 0 0 (some (.int r.1)) (xLay r.2) := by
  unfold fX12_walkOf_149 at h
  cases h
  exact fx_ireturn dX12_walkOf_149 rfl rfl
def fX12_walkOf_124 (a0 : Nat) (a1 : Int32) (l3 : Int64) (m : xMem) : Option (Int32 × xMem) := xLet (lg_cmp l3 (0 : Int64)) fun x1 => if (0 : Int32) ≤ x1 then xLet (lg_cmp l3 (10 : Int64)) fun x3 => if x3 ≤ (0 : Int32) then xLet (l3.toInt32) fun x5 => fX12_walkOf_149 a0 a1 x5 m else fX12_walkOf_149 a0 a1 (10 : Int32) m else fX12_walkOf_149 a0 a1 (0 : Int32) m
set_option maxRecDepth 4000 in
theorem fX12_walkOf_124_ok {a0 : Nat} {a1 : Int32} {d : Nat} (hd : 3 ≤ d) (ha0 : isModel a0) {l3 : Int64} {o2 : Option Value} {o5 : Option Value} {m : xMem} {r : (Int32 × xMem)} (q2 : xNoD o2 = true) (q5 : xNoD o5 = true) (h : fX12_walkOf_124 a0 a1 l3 m = some r) : xFx hh_181 cX12_walkOf d 124 [some (.ref a0), some (.int a1), o2, some (.long l3), none, o5] [] (xLay m) 0 0 (some (.int r.1)) (xLay r.2) := by
  unfold fX12_walkOf_124 at h
  refine fx_lload_n dX12_walkOf_124 rfl rfl ?_
  refine fx_lconst (x := 0) dX12_walkOf_125 rfl (by decide) ?_
  obtain ⟨x1, hx1, h⟩ := xLet_el h
  refine fx_lcmp dX12_walkOf_126 rfl hx1 ?_
  refine fx_if_ge (t := 134) dX12_walkOf_127 rfl rfl (fun hc2 => ?_) (fun hc2 => ?_)
  · rw [if_pos hc2] at h
    refine fx_lload_n dX12_walkOf_134 rfl rfl ?_
    refine fx_ldc2_w dX12_walkOf_135 rfl cl_12_307 ?_
    obtain ⟨x3, hx3, h⟩ := xLet_el h
    refine fx_lcmp dX12_walkOf_138 rfl hx3 ?_
    refine fx_if_le (t := 147) dX12_walkOf_139 rfl rfl (fun hc4 => ?_) (fun hc4 => ?_)
    · rw [if_pos hc4] at h
      refine fx_lload_n dX12_walkOf_147 rfl rfl ?_
      obtain ⟨x5, hx5, h⟩ := xLet_el h
      refine fx_l2i dX12_walkOf_148 rfl hx5 ?_
      exact fX12_walkOf_149_ok (o2 := o2) (o3 := some (.long l3)) (o4 := none) (o5 := o5) hd ha0 q2 q5 h
    · rw [if_neg hc4] at h
      refine fx_bipush (x := 10) dX12_walkOf_142 rfl (by decide) ?_
      refine fx_goto (t := 149) dX12_walkOf_144 rfl rfl ?_
      exact fX12_walkOf_149_ok (o2 := o2) (o3 := some (.long l3)) (o4 := none) (o5 := o5) hd ha0 q2 q5 h
  · rw [if_neg hc2] at h
    refine fx_iconst (x := 0) dX12_walkOf_130 rfl (by decide) ?_
    refine fx_goto (t := 149) dX12_walkOf_131 rfl rfl ?_
    exact fX12_walkOf_149_ok (o2 := o2) (o3 := some (.long l3)) (o4 := none) (o5 := o5) hd ha0 q2 q5 h
def fX12_walkOf_66 (a0 : Nat) (a1 : Int32) : Nat → Int32 → Int64 → Int32 → xMem → Option (Int32 × xMem)
  | 0, _, _, _, _ => none
  | fuel + 1, l2, l3, l5, m => if l2 = (-1 : Int32) then fX12_walkOf_124 a0 a1 l3 m else bif xIn l2 4 then xLet (m.1 (a0 + 5) l2.toNatClampNeg) fun x2 => if x2 ≤ l5 then fX12_walkOf_124 a0 a1 l3 m else xLet ((10 : Int32) * l2) fun x5 => xLet (x5 + l5) fun x6 => bif xIn x6 40 then xLet (m.1 (a0 + 6) x6.toNatClampNeg) fun x7 => if ¬ x7 = (0 : Int32) then fX12_walkOf_117 a0 a1 (fX12_walkOf_66 a0 a1 fuel) l2 l5 l3 m else xLet ((10 : Int32) * l2) fun x10 => xLet (x10 + l5) fun x11 => bif xIn x11 40 then xLet (m.1 (a0 + 7) x11.toNatClampNeg) fun x12 => (fX12_saysOf a0 x12 m).bind fun p14 => fX12_walkOf_117 a0 a1 (fX12_walkOf_66 a0 a1 fuel) l2 l5 p14.1 p14.2 else none else none else none
set_option maxRecDepth 4000 in
theorem fX12_walkOf_66_ok {a0 : Nat} {a1 : Int32} {d : Nat} (hd : 3 ≤ d) (ha0 : isModel a0) : ∀ (fuel : Nat) (l2 : Int32) (l3 : Int64) (l5 : Int32) (m : xMem) (r : (Int32 × xMem)), fX12_walkOf_66 a0 a1 fuel l2 l3 l5 m = some r → xFx hh_181 cX12_walkOf d 66 [some (.ref a0), some (.int a1), some (.int l2), some (.long l3), none, some (.int l5)] [] (xLay m) 0 0 (some (.int r.1)) (xLay r.2) := by
  intro fuel
  induction fuel with
  | zero => intro l2 l3 l5  m r  h; cases h
  | succ fuel ih =>
    intro l2 l3 l5  m r  h
    unfold fX12_walkOf_66 at h
    refine fx_iload_n dX12_walkOf_66 rfl rfl ?_
    refine fx_iconst (x := -1) dX12_walkOf_67 rfl (by decide) ?_
    refine fx_icmp_eq (t := 124) dX12_walkOf_68 rfl rfl (fun hc1 => ?_) (fun hc1 => ?_)
    · rw [if_pos hc1] at h
      exact fX12_walkOf_124_ok (o2 := some (.int l2)) (o5 := some (.int l5)) hd ha0 rfl rfl h
    · rw [if_neg hc1] at h
      refine fx_iload dX12_walkOf_71 rfl rfl ?_
      refine fx_aload_n dX12_walkOf_73 rfl rfl ?_
      refine gx_getr dX12_walkOf_74 rfl fd_12_30 ha0.1 rfl rfl ?_
      refine fx_iload_n dX12_walkOf_77 rfl rfl ?_
      obtain ⟨hj3, h⟩ := xChk_el h
      obtain ⟨x2, hx2, h⟩ := xLet_el h
      refine gx_iaload dX12_walkOf_78 rfl ha0.2.2.2.2.2.1 hj3 hx2 ?_
      refine fx_icmp_ge (t := 124) dX12_walkOf_79 rfl rfl (fun hc4 => ?_) (fun hc4 => ?_)
      · rw [if_pos hc4] at h
        exact fX12_walkOf_124_ok (o2 := some (.int l2)) (o5 := some (.int l5)) hd ha0 rfl rfl h
      · rw [if_neg hc4] at h
        refine fx_aload_n dX12_walkOf_82 rfl rfl ?_
        refine gx_getr dX12_walkOf_83 rfl fd_12_33 ha0.1 rfl rfl ?_
        refine fx_bipush (x := 10) dX12_walkOf_86 rfl (by decide) ?_
        refine fx_iload_n dX12_walkOf_88 rfl rfl ?_
        obtain ⟨x5, hx5, h⟩ := xLet_el h
        refine fx_imul dX12_walkOf_89 rfl hx5 ?_
        refine fx_iload dX12_walkOf_90 rfl rfl ?_
        obtain ⟨x6, hx6, h⟩ := xLet_el h
        refine fx_iadd dX12_walkOf_92 rfl hx6 ?_
        obtain ⟨hj8, h⟩ := xChk_el h
        obtain ⟨x7, hx7, h⟩ := xLet_el h
        refine gx_iaload dX12_walkOf_93 rfl ha0.2.2.2.2.2.2.1 hj8 hx7 ?_
        refine fx_if_ne (t := 116) dX12_walkOf_94 rfl rfl (fun hc9 => ?_) (fun hc9 => ?_)
        · rw [if_pos hc9] at h
          refine fx_lload_n dX12_walkOf_116 rfl rfl ?_
          exact fX12_walkOf_117_ok (o3 := some (.long l3)) (o4 := none) hd ha0 ih h
        · rw [if_neg hc9] at h
          refine fx_aload_n dX12_walkOf_97 rfl rfl ?_
          refine fx_aload_n dX12_walkOf_98 rfl rfl ?_
          refine gx_getr dX12_walkOf_99 rfl fd_12_36 ha0.1 rfl rfl ?_
          refine fx_bipush (x := 10) dX12_walkOf_102 rfl (by decide) ?_
          refine fx_iload_n dX12_walkOf_104 rfl rfl ?_
          obtain ⟨x10, hx10, h⟩ := xLet_el h
          refine fx_imul dX12_walkOf_105 rfl hx10 ?_
          refine fx_iload dX12_walkOf_106 rfl rfl ?_
          obtain ⟨x11, hx11, h⟩ := xLet_el h
          refine fx_iadd dX12_walkOf_108 rfl hx11 ?_
          obtain ⟨hj13, h⟩ := xChk_el h
          obtain ⟨x12, hx12, h⟩ := xLet_el h
          refine gx_iaload dX12_walkOf_109 rfl ha0.2.2.2.2.2.2.2.1 hj13 hx12 ?_
          obtain ⟨p14, ep14, h⟩ := xBind_el h
          refine gx_callv (as := [.int x12]) (r := []) rfl dX12_walkOf_110 ca_12_298 rfl me_171 rfl rfl rfl rfl (ha0.1) rfl (fX12_saysOf_ok (d := d) (by omega) ha0 ep14) rfl rfl ?_
          refine fx_goto (t := 117) dX12_walkOf_113 rfl rfl ?_
          exact fX12_walkOf_117_ok (o3 := some (.long l3)) (o4 := none) hd ha0 ih h
def fX12_walkOf_0 (a0 : Nat) (a1 : Int32) (m : xMem) : Option (Int32 × xMem) := bif xIn (5 : Int32) 1610 then xLet (m.1 (a0 + 1) (5 : Int32).toNatClampNeg) fun x1 => bif xIn (0 : Int32) 1610 then xLet (m.1 (a0 + 1) (0 : Int32).toNatClampNeg) fun x3 => bif xIn (0 : Int32) 8 then xLet (xPut m (a0 + 18) (0 : Int32).toNatClampNeg x3) fun m5 => (fX12_linkOf a0 a1 (3 : Int32) m5).bind fun p7 => bif xIn (5 : Int32) 8 then xLet (xPut p7.2 (a0 + 18) (5 : Int32).toNatClampNeg p7.1) fun m8 => (fX12_loadOf a0 a1 m8).bind fun p10 => bif xIn (6 : Int32) 8 then xLet (xPut p10.2 (a0 + 18) (6 : Int32).toNatClampNeg p10.1) fun m11 => (fX12_footOf a0 a1 m11).bind fun p13 => (fX12_inHall a0 p13.1 p13.2).bind fun p14 => bif xIn (7 : Int32) 8 then xLet (xPut p14.2 (a0 + 18) (7 : Int32).toNatClampNeg p14.1) fun m15 => fX12_walkOf_66 a0 a1 xFuel x1 (4 : Int64) (0 : Int32) m15 else none else none else none else none else none else none
set_option maxRecDepth 4000 in
theorem fX12_walkOf_0_ok {a0 : Nat} {a1 : Int32} {d : Nat} (hd : 3 ≤ d) (ha0 : isModel a0) {o2 : Option Value} {o3 : Option Value} {o4 : Option Value} {o5 : Option Value} {m : xMem} {r : (Int32 × xMem)} (q2 : xNoD o2 = true) (q5 : xNoD o5 = true) (h : fX12_walkOf_0 a0 a1 m = some r) : xFx hh_181 cX12_walkOf d 0 [some (.ref a0), some (.int a1), o2, o3, o4, o5] [] (xLay m) 0 0 (some (.int r.1)) (xLay r.2) := by
  unfold fX12_walkOf_0 at h
  refine fx_aload_n dX12_walkOf_0 rfl rfl ?_
  refine gx_getr dX12_walkOf_1 rfl fd_12_7 ha0.1 rfl rfl ?_
  refine fx_iconst (x := 5) dX12_walkOf_4 rfl (by decide) ?_
  obtain ⟨hj2, h⟩ := xChk_el h
  obtain ⟨x1, hx1, h⟩ := xLet_el h
  refine gx_iaload dX12_walkOf_5 rfl ha0.2.1 hj2 hx1 ?_
  refine fx_istore_n (ls2 := [some (.ref a0), some (.int a1), some (.int x1), o3, o4, o5]) dX12_walkOf_6 rfl rfl rfl ?_
  refine fx_ldc2_w dX12_walkOf_7 rfl cl_12_302 ?_
  refine fx_lstore_n (ls2 := [some (.ref a0), some (.int a1), some (.int x1), some (.long (4 : Int64)), none, o5]) dX12_walkOf_10 rfl rfl rfl ?_
  refine fx_aload_n dX12_walkOf_11 rfl rfl ?_
  refine gx_getr dX12_walkOf_12 rfl fd_12_69 ha0.1 rfl rfl ?_
  refine fx_iconst (x := 0) dX12_walkOf_15 rfl (by decide) ?_
  refine fx_aload_n dX12_walkOf_16 rfl rfl ?_
  refine gx_getr dX12_walkOf_17 rfl fd_12_7 ha0.1 rfl rfl ?_
  refine fx_iconst (x := 0) dX12_walkOf_20 rfl (by decide) ?_
  obtain ⟨hj4, h⟩ := xChk_el h
  obtain ⟨x3, hx3, h⟩ := xLet_el h
  refine gx_iaload dX12_walkOf_21 rfl ha0.2.1 hj4 hx3 ?_
  obtain ⟨hj6, h⟩ := xChk_el h
  obtain ⟨m5, hm5, h⟩ := xLet_el h
  refine gx_iastore dX12_walkOf_22 rfl ha0.2.2.2.2.2.2.2.2.2.2.2.2.2.2.2.2.2.2.1 hj6 hm5 ?_
  refine fx_aload_n dX12_walkOf_23 rfl rfl ?_
  refine gx_getr dX12_walkOf_24 rfl fd_12_69 ha0.1 rfl rfl ?_
  refine fx_iconst (x := 5) dX12_walkOf_27 rfl (by decide) ?_
  refine fx_aload_n dX12_walkOf_28 rfl rfl ?_
  refine fx_iload_n dX12_walkOf_29 rfl rfl ?_
  refine fx_iconst (x := 3) dX12_walkOf_30 rfl (by decide) ?_
  obtain ⟨p7, ep7, h⟩ := xBind_el h
  refine gx_callv (as := [.int a1, .int (3 : Int32)]) (r := [.int (5 : Int32), .ref (a0 + 18)]) rfl dX12_walkOf_31 ca_12_103 rfl me_34 rfl rfl rfl rfl (ha0.1) rfl (fX12_linkOf_ok (d := d) (by omega) ha0 ep7) rfl rfl ?_
  obtain ⟨hj9, h⟩ := xChk_el h
  obtain ⟨m8, hm8, h⟩ := xLet_el h
  refine gx_iastore dX12_walkOf_34 rfl ha0.2.2.2.2.2.2.2.2.2.2.2.2.2.2.2.2.2.2.1 hj9 hm8 ?_
  refine fx_aload_n dX12_walkOf_35 rfl rfl ?_
  refine gx_getr dX12_walkOf_36 rfl fd_12_69 ha0.1 rfl rfl ?_
  refine fx_bipush (x := 6) dX12_walkOf_39 rfl (by decide) ?_
  refine fx_aload_n dX12_walkOf_41 rfl rfl ?_
  refine fx_iload_n dX12_walkOf_42 rfl rfl ?_
  obtain ⟨p10, ep10, h⟩ := xBind_el h
  refine gx_callv (as := [.int a1]) (r := [.int (6 : Int32), .ref (a0 + 18)]) rfl dX12_walkOf_43 ca_12_117 rfl me_35 rfl rfl rfl rfl (ha0.1) rfl (fX12_loadOf_ok (d := d) (by omega) ha0 ep10) rfl rfl ?_
  obtain ⟨hj12, h⟩ := xChk_el h
  obtain ⟨m11, hm11, h⟩ := xLet_el h
  refine gx_iastore dX12_walkOf_46 rfl ha0.2.2.2.2.2.2.2.2.2.2.2.2.2.2.2.2.2.2.1 hj12 hm11 ?_
  refine fx_aload_n dX12_walkOf_47 rfl rfl ?_
  refine gx_getr dX12_walkOf_48 rfl fd_12_69 ha0.1 rfl rfl ?_
  refine fx_bipush (x := 7) dX12_walkOf_51 rfl (by decide) ?_
  refine fx_aload_n dX12_walkOf_53 rfl rfl ?_
  refine fx_aload_n dX12_walkOf_54 rfl rfl ?_
  refine fx_iload_n dX12_walkOf_55 rfl rfl ?_
  obtain ⟨p13, ep13, h⟩ := xBind_el h
  refine gx_callv (as := [.int a1]) (r := [.ref a0, .int (7 : Int32), .ref (a0 + 18)]) rfl dX12_walkOf_56 ca_12_304 rfl me_178 rfl rfl rfl rfl (ha0.1) rfl (fX12_footOf_ok (d := d) (by omega) ha0 ep13) rfl rfl ?_
  obtain ⟨p14, ep14, h⟩ := xBind_el h
  refine gx_callv (as := [.int p13.1]) (r := [.int (7 : Int32), .ref (a0 + 18)]) rfl dX12_walkOf_59 ca_12_292 rfl me_168 rfl rfl rfl rfl (ha0.1) rfl (fX12_inHall_ok (d := d) (by omega) ha0 ep14) rfl rfl ?_
  obtain ⟨hj16, h⟩ := xChk_el h
  obtain ⟨m15, hm15, h⟩ := xLet_el h
  refine gx_iastore dX12_walkOf_62 rfl ha0.2.2.2.2.2.2.2.2.2.2.2.2.2.2.2.2.2.2.1 hj16 hm15 ?_
  refine fx_iconst (x := 0) dX12_walkOf_63 rfl (by decide) ?_
  refine fx_istore (ls2 := [some (.ref a0), some (.int a1), some (.int x1), some (.long (4 : Int64)), none, some (.int (0 : Int32))]) dX12_walkOf_64 rfl rfl rfl ?_
  exact fX12_walkOf_66_ok hd ha0 xFuel x1 (4 : Int64) (0 : Int32) m15 r h
def fX12_walkOf (a0 : Nat) (a1 : Int32) (m : xMem) : Option (Int32 × xMem) := fX12_walkOf_0 a0 a1  m
theorem fX12_walkOf_ok {a0 : Nat} {a1 : Int32} {m : xMem} {r : (Int32 × xMem)} {d : Nat} (hd : 4 ≤ d) (ha0 : isModel a0) (h : fX12_walkOf a0 a1 m = some r) : xEx d 181 [.ref a0, .int a1] (xLay m) (some (.int r.1)) (xLay r.2) := by
  obtain ⟨d, rfl⟩ : ∃ q, d = q + 1 := ⟨d - 1, by omega⟩
  exact xEx_of me_181 rfl (fX12_walkOf_0_ok (d := d) (o2 := none) (o3 := none) (o4 := none) (o5 := none) (by omega) ha0 rfl rfl h)
def fX12_headOf_17 (a0 : Nat) (a1 : Int32) (s0 : Nat) (s1 : Int32) (s2 : Int32) (m : xMem) : Option (Int32 × xMem) := (fX12_linkOf s0 s1 s2 m).bind fun p1 => some (p1.1, p1.2)
set_option maxRecDepth 4000 in
theorem fX12_headOf_17_ok {a0 : Nat} {a1 : Int32} {d : Nat} (hd : 1 ≤ d) (ha0 : isModel a0) {s0 : Nat} {s1 : Int32} {s2 : Int32} {m : xMem} {r : (Int32 × xMem)} (hs0 : isModel s0) (h : fX12_headOf_17 a0 a1 s0 s1 s2 m = some r) : xFx hh_185 cX12_headOf d 17 [some (.ref a0), some (.int a1)] [.int s2, .int s1, .ref s0] (xLay m) 0 0 (some (.int r.1)) (xLay r.2) := by
  unfold fX12_headOf_17 at h
  obtain ⟨p1, ep1, h⟩ := xBind_el h
  refine gx_callv (as := [.int s1, .int s2]) (r := []) rfl dX12_headOf_17 ca_12_103 rfl me_34 rfl rfl rfl rfl (hs0.1) rfl (fX12_linkOf_ok (d := d) (by omega) hs0 ep1) rfl rfl ?_
  cases h
  exact fx_ireturn dX12_headOf_20 rfl rfl
def fX12_headOf_0 (a0 : Nat) (a1 : Int32) (m : xMem) : Option (Int32 × xMem) := (fX12_linkOf a0 a1 (5 : Int32) m).bind fun p1 => if ¬ p1.1 = (1 : Int32) then fX12_headOf_17 a0 a1 a0 a1 (1 : Int32) p1.2 else fX12_headOf_17 a0 a1 a0 a1 (2 : Int32) p1.2
set_option maxRecDepth 4000 in
theorem fX12_headOf_0_ok {a0 : Nat} {a1 : Int32} {d : Nat} (hd : 1 ≤ d) (ha0 : isModel a0) {m : xMem} {r : (Int32 × xMem)} (h : fX12_headOf_0 a0 a1 m = some r) : xFx hh_185 cX12_headOf d 0 [some (.ref a0), some (.int a1)] [] (xLay m) 0 0 (some (.int r.1)) (xLay r.2) := by
  unfold fX12_headOf_0 at h
  refine fx_aload_n dX12_headOf_0 rfl rfl ?_
  refine fx_iload_n dX12_headOf_1 rfl rfl ?_
  refine fx_aload_n dX12_headOf_2 rfl rfl ?_
  refine fx_iload_n dX12_headOf_3 rfl rfl ?_
  refine fx_iconst (x := 5) dX12_headOf_4 rfl (by decide) ?_
  obtain ⟨p1, ep1, h⟩ := xBind_el h
  refine gx_callv (as := [.int a1, .int (5 : Int32)]) (r := [.int a1, .ref a0]) rfl dX12_headOf_5 ca_12_103 rfl me_34 rfl rfl rfl rfl (ha0.1) rfl (fX12_linkOf_ok (d := d) (by omega) ha0 ep1) rfl rfl ?_
  refine fx_iconst (x := 1) dX12_headOf_8 rfl (by decide) ?_
  refine fx_icmp_ne (t := 16) dX12_headOf_9 rfl rfl (fun hc2 => ?_) (fun hc2 => ?_)
  · rw [if_pos hc2] at h
    refine fx_iconst (x := 1) dX12_headOf_16 rfl (by decide) ?_
    exact fX12_headOf_17_ok hd ha0 ha0 h
  · rw [if_neg hc2] at h
    refine fx_iconst (x := 2) dX12_headOf_12 rfl (by decide) ?_
    refine fx_goto (t := 17) dX12_headOf_13 rfl rfl ?_
    exact fX12_headOf_17_ok hd ha0 ha0 h
def fX12_headOf (a0 : Nat) (a1 : Int32) (m : xMem) : Option (Int32 × xMem) := fX12_headOf_0 a0 a1  m
theorem fX12_headOf_ok {a0 : Nat} {a1 : Int32} {m : xMem} {r : (Int32 × xMem)} {d : Nat} (hd : 2 ≤ d) (ha0 : isModel a0) (h : fX12_headOf a0 a1 m = some r) : xEx d 185 [.ref a0, .int a1] (xLay m) (some (.int r.1)) (xLay r.2) := by
  obtain ⟨d, rfl⟩ : ∃ q, d = q + 1 := ⟨d - 1, by omega⟩
  exact xEx_of me_185 rfl (fX12_headOf_0_ok (d := d) (by omega) ha0 h)
def fX12_stepsOff_34 (a0 : Nat) (a1 : Int32) (a2 : Int32) (l3 : Int32) (l4 : Int32) (m : xMem) : Option (Int32 × xMem) := (fX12_comes a0 l3 l4 (0 : Int32) (1 : Int32) m).bind fun p1 => (fX12_linkOf a0 a1 (11 : Int32) p1).bind fun p2 => xLet (p2.1 + (1 : Int32)) fun x3 => (fX12_tells a0 a1 (11 : Int32) x3 p2.2).bind fun p4 => some ((1 : Int32), p4)
set_option maxRecDepth 4000 in
theorem fX12_stepsOff_34_ok {a0 : Nat} {a1 : Int32} {a2 : Int32} {d : Nat} (hd : 2 ≤ d) (ha0 : isModel a0) {l3 : Int32} {l4 : Int32} {m : xMem} {r : (Int32 × xMem)} (h : fX12_stepsOff_34 a0 a1 a2 l3 l4 m = some r) : xFx hh_184 cX12_stepsOff d 34 [some (.ref a0), some (.int a1), some (.int a2), some (.int l3), some (.int l4)] [] (xLay m) 0 0 (some (.int r.1)) (xLay r.2) := by
  unfold fX12_stepsOff_34 at h
  refine fx_aload_n dX12_stepsOff_34 rfl rfl ?_
  refine fx_iload_n dX12_stepsOff_35 rfl rfl ?_
  refine fx_iload dX12_stepsOff_36 rfl rfl ?_
  refine fx_iconst (x := 0) dX12_stepsOff_38 rfl (by decide) ?_
  refine fx_iconst (x := 1) dX12_stepsOff_39 rfl (by decide) ?_
  obtain ⟨p1, ep1, h⟩ := xBind_el h
  refine gx_callv (as := [.int l3, .int l4, .int (0 : Int32), .int (1 : Int32)]) (r := []) rfl dX12_stepsOff_40 ca_12_309 rfl me_166 rfl rfl rfl rfl (ha0.1) rfl (fX12_comes_ok (d := d) (by omega) ha0 ep1) rfl rfl ?_
  refine fx_aload_n dX12_stepsOff_43 rfl rfl ?_
  refine fx_iload_n dX12_stepsOff_44 rfl rfl ?_
  refine fx_bipush (x := 11) dX12_stepsOff_45 rfl (by decide) ?_
  refine fx_aload_n dX12_stepsOff_47 rfl rfl ?_
  refine fx_iload_n dX12_stepsOff_48 rfl rfl ?_
  refine fx_bipush (x := 11) dX12_stepsOff_49 rfl (by decide) ?_
  obtain ⟨p2, ep2, h⟩ := xBind_el h
  refine gx_callv (as := [.int a1, .int (11 : Int32)]) (r := [.int (11 : Int32), .int a1, .ref a0]) rfl dX12_stepsOff_51 ca_12_103 rfl me_34 rfl rfl rfl rfl (ha0.1) rfl (fX12_linkOf_ok (d := d) (by omega) ha0 ep2) rfl rfl ?_
  refine fx_iconst (x := 1) dX12_stepsOff_54 rfl (by decide) ?_
  obtain ⟨x3, hx3, h⟩ := xLet_el h
  refine fx_iadd dX12_stepsOff_55 rfl hx3 ?_
  obtain ⟨p4, ep4, h⟩ := xBind_el h
  refine gx_callv (as := [.int a1, .int (11 : Int32), .int x3]) (r := []) rfl dX12_stepsOff_56 ca_12_110 rfl me_26 rfl rfl rfl rfl (ha0.1) rfl (fX12_tells_ok (d := d) (by omega) ha0 ep4) rfl rfl ?_
  refine fx_iconst (x := 1) dX12_stepsOff_59 rfl (by decide) ?_
  cases h
  exact fx_ireturn dX12_stepsOff_60 rfl rfl
def fX12_stepsOff_0 (a0 : Nat) (a1 : Int32) (a2 : Int32) (m : xMem) : Option (Int32 × xMem) := (fX12_headOf a0 a1 m).bind fun p1 => xLet (xRem a2 (10 : Int32)) fun x2 => if p1.1 = x2 then fX12_stepsOff_34 a0 a1 a2 p1.1 x2 p1.2 else (fX12_inHall a0 p1.1 p1.2).bind fun p4 => (fX12_hallOf a0 p1.1 (0 : Int32) p4.2).bind fun p5 => if p4.1 < p5.1 then fX12_stepsOff_34 a0 a1 a2 p1.1 x2 p5.2 else some ((0 : Int32), p5.2)
set_option maxRecDepth 4000 in
theorem fX12_stepsOff_0_ok {a0 : Nat} {a1 : Int32} {a2 : Int32} {d : Nat} (hd : 2 ≤ d) (ha0 : isModel a0) {o3 : Option Value} {o4 : Option Value} {m : xMem} {r : (Int32 × xMem)} (q3 : xNoD o3 = true) (q4 : xNoD o4 = true) (h : fX12_stepsOff_0 a0 a1 a2 m = some r) : xFx hh_184 cX12_stepsOff d 0 [some (.ref a0), some (.int a1), some (.int a2), o3, o4] [] (xLay m) 0 0 (some (.int r.1)) (xLay r.2) := by
  unfold fX12_stepsOff_0 at h
  refine fx_aload_n dX12_stepsOff_0 rfl rfl ?_
  refine fx_iload_n dX12_stepsOff_1 rfl rfl ?_
  obtain ⟨p1, ep1, h⟩ := xBind_el h
  refine gx_callv (as := [.int a1]) (r := []) rfl dX12_stepsOff_2 ca_12_331 rfl me_185 rfl rfl rfl rfl (ha0.1) rfl (fX12_headOf_ok (d := d) (by omega) ha0 ep1) rfl rfl ?_
  refine fx_istore_n (ls2 := [some (.ref a0), some (.int a1), some (.int a2), some (.int p1.1), o4]) dX12_stepsOff_5 rfl rfl rfl ?_
  refine fx_iload_n dX12_stepsOff_6 rfl rfl ?_
  refine fx_bipush (x := 10) dX12_stepsOff_7 rfl (by decide) ?_
  obtain ⟨x2, hx2, h⟩ := xLet_el h
  refine fx_irem dX12_stepsOff_9 rfl (by decide) hx2 ?_
  refine fx_istore (ls2 := [some (.ref a0), some (.int a1), some (.int a2), some (.int p1.1), some (.int x2)]) dX12_stepsOff_10 rfl rfl rfl ?_
  refine fx_iload_n dX12_stepsOff_12 rfl rfl ?_
  refine fx_iload dX12_stepsOff_13 rfl rfl ?_
  refine fx_icmp_eq (t := 34) dX12_stepsOff_15 rfl rfl (fun hc3 => ?_) (fun hc3 => ?_)
  · rw [if_pos hc3] at h
    exact fX12_stepsOff_34_ok hd ha0 h
  · rw [if_neg hc3] at h
    refine fx_aload_n dX12_stepsOff_18 rfl rfl ?_
    refine fx_iload_n dX12_stepsOff_19 rfl rfl ?_
    obtain ⟨p4, ep4, h⟩ := xBind_el h
    refine gx_callv (as := [.int p1.1]) (r := []) rfl dX12_stepsOff_20 ca_12_292 rfl me_168 rfl rfl rfl rfl (ha0.1) rfl (fX12_inHall_ok (d := d) (by omega) ha0 ep4) rfl rfl ?_
    refine fx_aload_n dX12_stepsOff_23 rfl rfl ?_
    refine fx_iload_n dX12_stepsOff_24 rfl rfl ?_
    refine fx_iconst (x := 0) dX12_stepsOff_25 rfl (by decide) ?_
    obtain ⟨p5, ep5, h⟩ := xBind_el h
    refine gx_callv (as := [.int p1.1, .int (0 : Int32)]) (r := [.int p4.1]) rfl dX12_stepsOff_26 ca_12_295 rfl me_170 rfl rfl rfl rfl (ha0.1) rfl (fX12_hallOf_ok (d := d) (by omega) ha0 ep5) rfl rfl ?_
    refine fx_icmp_lt (t := 34) dX12_stepsOff_29 rfl rfl (fun hc6 => ?_) (fun hc6 => ?_)
    · rw [if_pos hc6] at h
      exact fX12_stepsOff_34_ok hd ha0 h
    · rw [if_neg hc6] at h
      refine fx_iconst (x := 0) dX12_stepsOff_32 rfl (by decide) ?_
      cases h
      exact fx_ireturn dX12_stepsOff_33 rfl rfl
def fX12_stepsOff (a0 : Nat) (a1 : Int32) (a2 : Int32) (m : xMem) : Option (Int32 × xMem) := fX12_stepsOff_0 a0 a1 a2  m
theorem fX12_stepsOff_ok {a0 : Nat} {a1 : Int32} {a2 : Int32} {m : xMem} {r : (Int32 × xMem)} {d : Nat} (hd : 3 ≤ d) (ha0 : isModel a0) (h : fX12_stepsOff a0 a1 a2 m = some r) : xEx d 184 [.ref a0, .int a1, .int a2] (xLay m) (some (.int r.1)) (xLay r.2) := by
  obtain ⟨d, rfl⟩ : ∃ q, d = q + 1 := ⟨d - 1, by omega⟩
  exact xEx_of me_184 rfl (fX12_stepsOff_0_ok (d := d) (o3 := none) (o4 := none) (by omega) ha0 rfl rfl h)
def fX12_placeOf_0 (a0 : Nat) (a1 : Int32) (a2 : Int32) (a3 : Int32) (m : xMem) : Option (Int32 × xMem) := xLet ((80 : Int32) * a1) fun x1 => xLet ((580 : Int32) + x1) fun x2 => xLet ((40 : Int32) * a2) fun x3 => xLet (x2 + x3) fun x4 => xLet (x4 + a3) fun x5 => some (x5, m)
set_option maxRecDepth 4000 in
theorem fX12_placeOf_0_ok {a0 : Nat} {a1 : Int32} {a2 : Int32} {a3 : Int32} {d : Nat} (hd : 0 ≤ d) (ha0 : isModel a0) {m : xMem} {r : (Int32 × xMem)} (h : fX12_placeOf_0 a0 a1 a2 a3 m = some r) : xFx hh_183 cX12_placeOf d 0 [some (.ref a0), some (.int a1), some (.int a2), some (.int a3)] [] (xLay m) 0 0 (some (.int r.1)) (xLay r.2) := by
  unfold fX12_placeOf_0 at h
  refine fx_sipush (x := 580) dX12_placeOf_0 rfl (by decide) ?_
  refine fx_bipush (x := 80) dX12_placeOf_3 rfl (by decide) ?_
  refine fx_iload_n dX12_placeOf_5 rfl rfl ?_
  obtain ⟨x1, hx1, h⟩ := xLet_el h
  refine fx_imul dX12_placeOf_6 rfl hx1 ?_
  obtain ⟨x2, hx2, h⟩ := xLet_el h
  refine fx_iadd dX12_placeOf_7 rfl hx2 ?_
  refine fx_bipush (x := 40) dX12_placeOf_8 rfl (by decide) ?_
  refine fx_iload_n dX12_placeOf_10 rfl rfl ?_
  obtain ⟨x3, hx3, h⟩ := xLet_el h
  refine fx_imul dX12_placeOf_11 rfl hx3 ?_
  obtain ⟨x4, hx4, h⟩ := xLet_el h
  refine fx_iadd dX12_placeOf_12 rfl hx4 ?_
  refine fx_iload_n dX12_placeOf_13 rfl rfl ?_
  obtain ⟨x5, hx5, h⟩ := xLet_el h
  refine fx_iadd dX12_placeOf_14 rfl hx5 ?_
  cases h
  exact fx_ireturn dX12_placeOf_15 rfl rfl
def fX12_placeOf (a0 : Nat) (a1 : Int32) (a2 : Int32) (a3 : Int32) (m : xMem) : Option (Int32 × xMem) := fX12_placeOf_0 a0 a1 a2 a3  m
theorem fX12_placeOf_ok {a0 : Nat} {a1 : Int32} {a2 : Int32} {a3 : Int32} {m : xMem} {r : (Int32 × xMem)} {d : Nat} (hd : 1 ≤ d) (ha0 : isModel a0) (h : fX12_placeOf a0 a1 a2 a3 m = some r) : xEx d 183 [.ref a0, .int a1, .int a2, .int a3] (xLay m) (some (.int r.1)) (xLay r.2) := by
  obtain ⟨d, rfl⟩ : ∃ q, d = q + 1 := ⟨d - 1, by omega⟩
  exact xEx_of me_183 rfl (fX12_placeOf_0_ok (d := d) (by omega) ha0 h)
def fX12_climbs_112 (a0 : Nat) (a1 : Int32) (a2 : Int32) (rec12 : Int32 → Int32 → xMem → Option xMem) (l3 : Int32) (l4 : Int32) (m : xMem) : Option xMem := xLet (l4 + (-1 : Int32)) fun x1 => rec12 l3 x1 m
set_option maxRecDepth 4000 in
theorem fX12_climbs_112_ok {a0 : Nat} {a1 : Int32} {a2 : Int32} {rec12 : Int32 → Int32 → xMem → Option xMem} {d : Nat} (hd : 3 ≤ d) (ha0 : isModel a0) (hrec12 : ∀ (l3 : Int32) (l4 : Int32) (o5 : Option Value) (o6 : Option Value) (q5 : xNoD o5 = true) (q6 : xNoD o6 = true) (m : xMem) (r : xMem), rec12 l3 l4 m = some r → xFx hh_182 cX12_climbs d 12 [some (.ref a0), some (.int a1), some (.int a2), some (.int l3), some (.int l4), o5, o6] [] (xLay m) 0 0 none (xLay r)) {l3 : Int32} {l4 : Int32} {o5 : Option Value} {o6 : Option Value} {m : xMem} {r : xMem} (q5 : xNoD o5 = true) (q6 : xNoD o6 = true) (h : fX12_climbs_112 a0 a1 a2 rec12 l3 l4 m = some r) : xFx hh_182 cX12_climbs d 112 [some (.ref a0), some (.int a1), some (.int a2), some (.int l3), some (.int l4), o5, o6] [] (xLay m) 0 0 none (xLay r) := by
  unfold fX12_climbs_112 at h
  obtain ⟨x1, hx1, h⟩ := xLet_el h
  refine fx_iinc (ls2 := [some (.ref a0), some (.int a1), some (.int a2), some (.int l3), some (.int x1), o5, o6]) dX12_climbs_112 rfl rfl rfl hx1 rfl ?_
  refine fx_goto (t := 12) dX12_climbs_115 rfl rfl ?_
  exact hrec12 l3 x1 (o5) (o6) q5 q6 m r h
def fX12_climbs_70 (a0 : Nat) (a1 : Int32) (a2 : Int32) (rec12 : Int32 → Int32 → xMem → Option xMem) (l3 : Int32) (l4 : Int32) (s0 : Nat) (s1 : Int32) (s2 : Int32) (m : xMem) : Option xMem := bif xIn s1 1610 then xLet (xPut m s0 s1.toNatClampNeg s2) fun m1 => fX12_climbs_112 a0 a1 a2 rec12 l3 l4 m1 else none
set_option maxRecDepth 4000 in
theorem fX12_climbs_70_ok {a0 : Nat} {a1 : Int32} {a2 : Int32} {rec12 : Int32 → Int32 → xMem → Option xMem} {d : Nat} (hd : 3 ≤ d) (ha0 : isModel a0) (hrec12 : ∀ (l3 : Int32) (l4 : Int32) (o5 : Option Value) (o6 : Option Value) (q5 : xNoD o5 = true) (q6 : xNoD o6 = true) (m : xMem) (r : xMem), rec12 l3 l4 m = some r → xFx hh_182 cX12_climbs d 12 [some (.ref a0), some (.int a1), some (.int a2), some (.int l3), some (.int l4), o5, o6] [] (xLay m) 0 0 none (xLay r)) {l3 : Int32} {l4 : Int32} {s0 : Nat} {s1 : Int32} {s2 : Int32} {o5 : Option Value} {o6 : Option Value} {m : xMem} {r : xMem} (hs0 : xTmL[s0]? = some (101, 1610, [])) (q5 : xNoD o5 = true) (q6 : xNoD o6 = true) (h : fX12_climbs_70 a0 a1 a2 rec12 l3 l4 s0 s1 s2 m = some r) : xFx hh_182 cX12_climbs d 70 [some (.ref a0), some (.int a1), some (.int a2), some (.int l3), some (.int l4), o5, o6] [.int s2, .int s1, .ref s0] (xLay m) 0 0 none (xLay r) := by
  unfold fX12_climbs_70 at h
  obtain ⟨hj2, h⟩ := xChk_el h
  obtain ⟨m1, hm1, h⟩ := xLet_el h
  refine gx_iastore dX12_climbs_70 rfl hs0 hj2 hm1 ?_
  refine fx_goto (t := 112) dX12_climbs_71 rfl rfl ?_
  exact fX12_climbs_112_ok (o5 := o5) (o6 := o6) hd ha0 hrec12 q5 q6 h
def fX12_climbs_74 (a0 : Nat) (a1 : Int32) (a2 : Int32) (rec12 : Int32 → Int32 → xMem → Option xMem) (l3 : Int32) (l4 : Int32) (l5 : Int32) (l6 : Int32) (m : xMem) : Option xMem := if l6 = (-1 : Int32) then fX12_climbs_112 a0 a1 a2 rec12 l3 l4 m else xLet (l5 + (1 : Int32)) fun x2 => bif xIn x2 1610 then xLet (m.1 (a0 + 1) x2.toNatClampNeg) fun x3 => if ¬ x3 = (-1 : Int32) then fX12_climbs_112 a0 a1 a2 rec12 l3 l4 m else bif xIn l5 1610 then xLet (xPut m (a0 + 1) l5.toNatClampNeg (-1 : Int32)) fun m6 => xLet (l5 + (1 : Int32)) fun x8 => bif xIn x8 1610 then xLet (xPut m6 (a0 + 1) x8.toNatClampNeg l6) fun m9 => fX12_climbs_112 a0 a1 a2 rec12 l3 l4 m9 else none else none else none
set_option maxRecDepth 4000 in
theorem fX12_climbs_74_ok {a0 : Nat} {a1 : Int32} {a2 : Int32} {rec12 : Int32 → Int32 → xMem → Option xMem} {d : Nat} (hd : 3 ≤ d) (ha0 : isModel a0) (hrec12 : ∀ (l3 : Int32) (l4 : Int32) (o5 : Option Value) (o6 : Option Value) (q5 : xNoD o5 = true) (q6 : xNoD o6 = true) (m : xMem) (r : xMem), rec12 l3 l4 m = some r → xFx hh_182 cX12_climbs d 12 [some (.ref a0), some (.int a1), some (.int a2), some (.int l3), some (.int l4), o5, o6] [] (xLay m) 0 0 none (xLay r)) {l3 : Int32} {l4 : Int32} {l5 : Int32} {l6 : Int32} {m : xMem} {r : xMem} (h : fX12_climbs_74 a0 a1 a2 rec12 l3 l4 l5 l6 m = some r) : xFx hh_182 cX12_climbs d 74 [some (.ref a0), some (.int a1), some (.int a2), some (.int l3), some (.int l4), some (.int l5), some (.int l6)] [] (xLay m) 0 0 none (xLay r) := by
  unfold fX12_climbs_74 at h
  refine fx_iload dX12_climbs_74 rfl rfl ?_
  refine fx_iconst (x := -1) dX12_climbs_76 rfl (by decide) ?_
  refine fx_icmp_eq (t := 112) dX12_climbs_77 rfl rfl (fun hc1 => ?_) (fun hc1 => ?_)
  · rw [if_pos hc1] at h
    exact fX12_climbs_112_ok (o5 := some (.int l5)) (o6 := some (.int l6)) hd ha0 hrec12 rfl rfl h
  · rw [if_neg hc1] at h
    refine fx_aload_n dX12_climbs_80 rfl rfl ?_
    refine gx_getr dX12_climbs_81 rfl fd_12_7 ha0.1 rfl rfl ?_
    refine fx_iload dX12_climbs_84 rfl rfl ?_
    refine fx_iconst (x := 1) dX12_climbs_86 rfl (by decide) ?_
    obtain ⟨x2, hx2, h⟩ := xLet_el h
    refine fx_iadd dX12_climbs_87 rfl hx2 ?_
    obtain ⟨hj4, h⟩ := xChk_el h
    obtain ⟨x3, hx3, h⟩ := xLet_el h
    refine gx_iaload dX12_climbs_88 rfl ha0.2.1 hj4 hx3 ?_
    refine fx_iconst (x := -1) dX12_climbs_89 rfl (by decide) ?_
    refine fx_icmp_ne (t := 112) dX12_climbs_90 rfl rfl (fun hc5 => ?_) (fun hc5 => ?_)
    · rw [if_pos hc5] at h
      exact fX12_climbs_112_ok (o5 := some (.int l5)) (o6 := some (.int l6)) hd ha0 hrec12 rfl rfl h
    · rw [if_neg hc5] at h
      refine fx_aload_n dX12_climbs_93 rfl rfl ?_
      refine gx_getr dX12_climbs_94 rfl fd_12_7 ha0.1 rfl rfl ?_
      refine fx_iload dX12_climbs_97 rfl rfl ?_
      refine fx_iconst (x := -1) dX12_climbs_99 rfl (by decide) ?_
      obtain ⟨hj7, h⟩ := xChk_el h
      obtain ⟨m6, hm6, h⟩ := xLet_el h
      refine gx_iastore dX12_climbs_100 rfl ha0.2.1 hj7 hm6 ?_
      refine fx_aload_n dX12_climbs_101 rfl rfl ?_
      refine gx_getr dX12_climbs_102 rfl fd_12_7 ha0.1 rfl rfl ?_
      refine fx_iload dX12_climbs_105 rfl rfl ?_
      refine fx_iconst (x := 1) dX12_climbs_107 rfl (by decide) ?_
      obtain ⟨x8, hx8, h⟩ := xLet_el h
      refine fx_iadd dX12_climbs_108 rfl hx8 ?_
      refine fx_iload dX12_climbs_109 rfl rfl ?_
      obtain ⟨hj10, h⟩ := xChk_el h
      obtain ⟨m9, hm9, h⟩ := xLet_el h
      refine gx_iastore dX12_climbs_111 rfl ha0.2.1 hj10 hm9 ?_
      exact fX12_climbs_112_ok (o5 := some (.int l5)) (o6 := some (.int l6)) hd ha0 hrec12 rfl rfl h
def fX12_climbs_12 (a0 : Nat) (a1 : Int32) (a2 : Int32) : Nat → Int32 → Int32 → xMem → Option xMem
  | 0, _, _, _ => none
  | fuel + 1, l3, l4, m => if l4 < (0 : Int32) then some m else (fX12_placeOf a0 a1 a2 l4 m).bind fun p2 => bif xIn p2.1 1610 then xLet (p2.2.1 (a0 + 1) p2.1.toNatClampNeg) fun x3 => if x3 = (-1 : Int32) then fX12_climbs_74 a0 a1 a2 (fX12_climbs_12 a0 a1 a2 fuel) l3 l4 p2.1 x3 p2.2 else if ¬ l4 = l3 then fX12_climbs_74 a0 a1 a2 (fX12_climbs_12 a0 a1 a2 fuel) l3 l4 p2.1 x3 p2.2 else (fX12_stepsOff a0 a1 x3 p2.2).bind fun p7 => if p7.1 = (0 : Int32) then fX12_climbs_70 a0 a1 a2 (fX12_climbs_12 a0 a1 a2 fuel) l3 l4 (a0 + 1) p2.1 x3 p7.2 else fX12_climbs_70 a0 a1 a2 (fX12_climbs_12 a0 a1 a2 fuel) l3 l4 (a0 + 1) p2.1 (-1 : Int32) p7.2 else none
set_option maxRecDepth 4000 in
theorem fX12_climbs_12_ok {a0 : Nat} {a1 : Int32} {a2 : Int32} {d : Nat} (hd : 3 ≤ d) (ha0 : isModel a0) : ∀ (fuel : Nat) (l3 : Int32) (l4 : Int32) (o5 : Option Value) (o6 : Option Value) (q5 : xNoD o5 = true) (q6 : xNoD o6 = true) (m : xMem) (r : xMem), fX12_climbs_12 a0 a1 a2 fuel l3 l4 m = some r → xFx hh_182 cX12_climbs d 12 [some (.ref a0), some (.int a1), some (.int a2), some (.int l3), some (.int l4), o5, o6] [] (xLay m) 0 0 none (xLay r) := by
  intro fuel
  induction fuel with
  | zero => intro l3 l4 o5 o6 q5 q6 m r  h; cases h
  | succ fuel ih =>
    intro l3 l4 o5 o6 q5 q6 m r  h
    unfold fX12_climbs_12 at h
    refine fx_iload dX12_climbs_12 rfl rfl ?_
    refine fx_if_lt (t := 118) dX12_climbs_14 rfl rfl (fun hc1 => ?_) (fun hc1 => ?_)
    · rw [if_pos hc1] at h
      cases h
      exact fx_return dX12_climbs_118 rfl rfl
    · rw [if_neg hc1] at h
      refine fx_aload_n dX12_climbs_17 rfl rfl ?_
      refine fx_iload_n dX12_climbs_18 rfl rfl ?_
      refine fx_iload_n dX12_climbs_19 rfl rfl ?_
      refine fx_iload dX12_climbs_20 rfl rfl ?_
      obtain ⟨p2, ep2, h⟩ := xBind_el h
      refine gx_callv (as := [.int a1, .int a2, .int l4]) (r := []) rfl dX12_climbs_22 ca_12_334 rfl me_183 rfl rfl rfl rfl (ha0.1) rfl (fX12_placeOf_ok (d := d) (by omega) ha0 ep2) rfl rfl ?_
      refine fx_istore (ls2 := [some (.ref a0), some (.int a1), some (.int a2), some (.int l3), some (.int l4), some (.int p2.1), o6]) dX12_climbs_25 rfl rfl rfl ?_
      refine fx_aload_n dX12_climbs_27 rfl rfl ?_
      refine gx_getr dX12_climbs_28 rfl fd_12_7 ha0.1 rfl rfl ?_
      refine fx_iload dX12_climbs_31 rfl rfl ?_
      obtain ⟨hj4, h⟩ := xChk_el h
      obtain ⟨x3, hx3, h⟩ := xLet_el h
      refine gx_iaload dX12_climbs_33 rfl ha0.2.1 hj4 hx3 ?_
      refine fx_istore (ls2 := [some (.ref a0), some (.int a1), some (.int a2), some (.int l3), some (.int l4), some (.int p2.1), some (.int x3)]) dX12_climbs_34 rfl rfl rfl ?_
      refine fx_iload dX12_climbs_36 rfl rfl ?_
      refine fx_iconst (x := -1) dX12_climbs_38 rfl (by decide) ?_
      refine fx_icmp_eq (t := 74) dX12_climbs_39 rfl rfl (fun hc5 => ?_) (fun hc5 => ?_)
      · rw [if_pos hc5] at h
        exact fX12_climbs_74_ok hd ha0 ih h
      · rw [if_neg hc5] at h
        refine fx_iload dX12_climbs_42 rfl rfl ?_
        refine fx_iload_n dX12_climbs_44 rfl rfl ?_
        refine fx_icmp_ne (t := 74) dX12_climbs_45 rfl rfl (fun hc6 => ?_) (fun hc6 => ?_)
        · rw [if_pos hc6] at h
          exact fX12_climbs_74_ok hd ha0 ih h
        · rw [if_neg hc6] at h
          refine fx_aload_n dX12_climbs_48 rfl rfl ?_
          refine gx_getr dX12_climbs_49 rfl fd_12_7 ha0.1 rfl rfl ?_
          refine fx_iload dX12_climbs_52 rfl rfl ?_
          refine fx_aload_n dX12_climbs_54 rfl rfl ?_
          refine fx_iload_n dX12_climbs_55 rfl rfl ?_
          refine fx_iload dX12_climbs_56 rfl rfl ?_
          obtain ⟨p7, ep7, h⟩ := xBind_el h
          refine gx_callv (as := [.int a1, .int x3]) (r := [.int p2.1, .ref (a0 + 1)]) rfl dX12_climbs_58 ca_12_337 rfl me_184 rfl rfl rfl rfl (ha0.1) rfl (fX12_stepsOff_ok (d := d) (by omega) ha0 ep7) rfl rfl ?_
          refine fx_if_eq (t := 68) dX12_climbs_61 rfl rfl (fun hc8 => ?_) (fun hc8 => ?_)
          · rw [if_pos hc8] at h
            refine fx_iload dX12_climbs_68 rfl rfl ?_
            exact fX12_climbs_70_ok (o5 := some (.int p2.1)) (o6 := some (.int x3)) hd ha0 ih ha0.2.1 rfl rfl h
          · rw [if_neg hc8] at h
            refine fx_iconst (x := -1) dX12_climbs_64 rfl (by decide) ?_
            refine fx_goto (t := 70) dX12_climbs_65 rfl rfl ?_
            exact fX12_climbs_70_ok (o5 := some (.int p2.1)) (o6 := some (.int x3)) hd ha0 ih ha0.2.1 rfl rfl h
def fX12_climbs_0 (a0 : Nat) (a1 : Int32) (a2 : Int32) (m : xMem) : Option xMem := (fX12_linkOf a0 a1 (3 : Int32) m).bind fun p1 => xLet (p1.1 - (1 : Int32)) fun x2 => fX12_climbs_12 a0 a1 a2 xFuel x2 x2 p1.2
set_option maxRecDepth 4000 in
theorem fX12_climbs_0_ok {a0 : Nat} {a1 : Int32} {a2 : Int32} {d : Nat} (hd : 3 ≤ d) (ha0 : isModel a0) {o3 : Option Value} {o4 : Option Value} {o5 : Option Value} {o6 : Option Value} {m : xMem} {r : xMem} (q3 : xNoD o3 = true) (q4 : xNoD o4 = true) (q5 : xNoD o5 = true) (q6 : xNoD o6 = true) (h : fX12_climbs_0 a0 a1 a2 m = some r) : xFx hh_182 cX12_climbs d 0 [some (.ref a0), some (.int a1), some (.int a2), o3, o4, o5, o6] [] (xLay m) 0 0 none (xLay r) := by
  unfold fX12_climbs_0 at h
  refine fx_aload_n dX12_climbs_0 rfl rfl ?_
  refine fx_iload_n dX12_climbs_1 rfl rfl ?_
  refine fx_iconst (x := 3) dX12_climbs_2 rfl (by decide) ?_
  obtain ⟨p1, ep1, h⟩ := xBind_el h
  refine gx_callv (as := [.int a1, .int (3 : Int32)]) (r := []) rfl dX12_climbs_3 ca_12_103 rfl me_34 rfl rfl rfl rfl (ha0.1) rfl (fX12_linkOf_ok (d := d) (by omega) ha0 ep1) rfl rfl ?_
  refine fx_iconst (x := 1) dX12_climbs_6 rfl (by decide) ?_
  obtain ⟨x2, hx2, h⟩ := xLet_el h
  refine fx_isub dX12_climbs_7 rfl hx2 ?_
  refine fx_istore_n (ls2 := [some (.ref a0), some (.int a1), some (.int a2), some (.int x2), o4, o5, o6]) dX12_climbs_8 rfl rfl rfl ?_
  refine fx_iload_n dX12_climbs_9 rfl rfl ?_
  refine fx_istore (ls2 := [some (.ref a0), some (.int a1), some (.int a2), some (.int x2), some (.int x2), o5, o6]) dX12_climbs_10 rfl rfl rfl ?_
  exact fX12_climbs_12_ok hd ha0 xFuel x2 x2 (o5) (o6) q5 q6 p1.2 r h
def fX12_climbs (a0 : Nat) (a1 : Int32) (a2 : Int32) (m : xMem) : Option xMem := fX12_climbs_0 a0 a1 a2  m
theorem fX12_climbs_ok {a0 : Nat} {a1 : Int32} {a2 : Int32} {m : xMem} {r : xMem} {d : Nat} (hd : 4 ≤ d) (ha0 : isModel a0) (h : fX12_climbs a0 a1 a2 m = some r) : xEx d 182 [.ref a0, .int a1, .int a2] (xLay m) none (xLay r) := by
  obtain ⟨d, rfl⟩ : ∃ q, d = q + 1 := ⟨d - 1, by omega⟩
  exact xEx_of me_182 rfl (fX12_climbs_0_ok (d := d) (o3 := none) (o4 := none) (o5 := none) (o6 := none) (by omega) ha0 rfl rfl rfl rfl h)
def fX12_moves_171 (a0 : Nat) (a1 : Int32) (a2 : Int32) (rec12 : Int32 → Int32 → xMem → Option (Int32 × xMem)) (l3 : Int32) (l4 : Int32) (m : xMem) : Option (Int32 × xMem) := xLet (l4 + (-1 : Int32)) fun x1 => rec12 l3 x1 m
set_option maxRecDepth 4000 in
theorem fX12_moves_171_ok {a0 : Nat} {a1 : Int32} {a2 : Int32} {rec12 : Int32 → Int32 → xMem → Option (Int32 × xMem)} {d : Nat} (hd : 3 ≤ d) (ha0 : isModel a0) (hrec12 : ∀ (l3 : Int32) (l4 : Int32) (o5 : Option Value) (o6 : Option Value) (q5 : xNoD o5 = true) (q6 : xNoD o6 = true) (m : xMem) (r : (Int32 × xMem)), rec12 l3 l4 m = some r → xFx hh_186 cX12_moves d 12 [some (.ref a0), some (.int a1), some (.int a2), some (.int l3), some (.int l4), o5, o6] [] (xLay m) 0 0 (some (.int r.1)) (xLay r.2)) {l3 : Int32} {l4 : Int32} {o5 : Option Value} {o6 : Option Value} {m : xMem} {r : (Int32 × xMem)} (q5 : xNoD o5 = true) (q6 : xNoD o6 = true) (h : fX12_moves_171 a0 a1 a2 rec12 l3 l4 m = some r) : xFx hh_186 cX12_moves d 171 [some (.ref a0), some (.int a1), some (.int a2), some (.int l3), some (.int l4), o5, o6] [] (xLay m) 0 0 (some (.int r.1)) (xLay r.2) := by
  unfold fX12_moves_171 at h
  obtain ⟨x1, hx1, h⟩ := xLet_el h
  refine fx_iinc (ls2 := [some (.ref a0), some (.int a1), some (.int a2), some (.int l3), some (.int x1), o5, o6]) dX12_moves_171 rfl rfl rfl hx1 rfl ?_
  refine fx_goto (t := 12) dX12_moves_174 rfl rfl ?_
  exact hrec12 l3 x1 (o5) (o6) q5 q6 m r h
def fX12_moves_130 (a0 : Nat) (a1 : Int32) (a2 : Int32) (rec12 : Int32 → Int32 → xMem → Option (Int32 × xMem)) (l3 : Int32) (l4 : Int32) (l5 : Int32) (l6 : Int32) (m : xMem) : Option (Int32 × xMem) := if l6 ≤ (9 : Int32) then fX12_moves_171 a0 a1 a2 rec12 l3 l4 m else xLet (l5 + (2 : Int32)) fun x2 => bif xIn x2 1610 then xLet (m.1 (a0 + 1) x2.toNatClampNeg) fun x3 => if ¬ x3 = (-1 : Int32) then fX12_moves_171 a0 a1 a2 rec12 l3 l4 m else xLet (l5 + (1 : Int32)) fun x6 => bif xIn x6 1610 then xLet (xPut m (a0 + 1) x6.toNatClampNeg (-1 : Int32)) fun m7 => xLet (l5 + (2 : Int32)) fun x9 => bif xIn x9 1610 then xLet (xPut m7 (a0 + 1) x9.toNatClampNeg l6) fun m10 => fX12_moves_171 a0 a1 a2 rec12 l3 l4 m10 else none else none else none
set_option maxRecDepth 4000 in
theorem fX12_moves_130_ok {a0 : Nat} {a1 : Int32} {a2 : Int32} {rec12 : Int32 → Int32 → xMem → Option (Int32 × xMem)} {d : Nat} (hd : 3 ≤ d) (ha0 : isModel a0) (hrec12 : ∀ (l3 : Int32) (l4 : Int32) (o5 : Option Value) (o6 : Option Value) (q5 : xNoD o5 = true) (q6 : xNoD o6 = true) (m : xMem) (r : (Int32 × xMem)), rec12 l3 l4 m = some r → xFx hh_186 cX12_moves d 12 [some (.ref a0), some (.int a1), some (.int a2), some (.int l3), some (.int l4), o5, o6] [] (xLay m) 0 0 (some (.int r.1)) (xLay r.2)) {l3 : Int32} {l4 : Int32} {l5 : Int32} {l6 : Int32} {m : xMem} {r : (Int32 × xMem)} (h : fX12_moves_130 a0 a1 a2 rec12 l3 l4 l5 l6 m = some r) : xFx hh_186 cX12_moves d 130 [some (.ref a0), some (.int a1), some (.int a2), some (.int l3), some (.int l4), some (.int l5), some (.int l6)] [] (xLay m) 0 0 (some (.int r.1)) (xLay r.2) := by
  unfold fX12_moves_130 at h
  refine fx_iload dX12_moves_130 rfl rfl ?_
  refine fx_bipush (x := 9) dX12_moves_132 rfl (by decide) ?_
  refine fx_icmp_le (t := 171) dX12_moves_134 rfl rfl (fun hc1 => ?_) (fun hc1 => ?_)
  · rw [if_pos hc1] at h
    exact fX12_moves_171_ok (o5 := some (.int l5)) (o6 := some (.int l6)) hd ha0 hrec12 rfl rfl h
  · rw [if_neg hc1] at h
    refine fx_aload_n dX12_moves_137 rfl rfl ?_
    refine gx_getr dX12_moves_138 rfl fd_12_7 ha0.1 rfl rfl ?_
    refine fx_iload dX12_moves_141 rfl rfl ?_
    refine fx_iconst (x := 2) dX12_moves_143 rfl (by decide) ?_
    obtain ⟨x2, hx2, h⟩ := xLet_el h
    refine fx_iadd dX12_moves_144 rfl hx2 ?_
    obtain ⟨hj4, h⟩ := xChk_el h
    obtain ⟨x3, hx3, h⟩ := xLet_el h
    refine gx_iaload dX12_moves_145 rfl ha0.2.1 hj4 hx3 ?_
    refine fx_iconst (x := -1) dX12_moves_146 rfl (by decide) ?_
    refine fx_icmp_ne (t := 171) dX12_moves_147 rfl rfl (fun hc5 => ?_) (fun hc5 => ?_)
    · rw [if_pos hc5] at h
      exact fX12_moves_171_ok (o5 := some (.int l5)) (o6 := some (.int l6)) hd ha0 hrec12 rfl rfl h
    · rw [if_neg hc5] at h
      refine fx_aload_n dX12_moves_150 rfl rfl ?_
      refine gx_getr dX12_moves_151 rfl fd_12_7 ha0.1 rfl rfl ?_
      refine fx_iload dX12_moves_154 rfl rfl ?_
      refine fx_iconst (x := 1) dX12_moves_156 rfl (by decide) ?_
      obtain ⟨x6, hx6, h⟩ := xLet_el h
      refine fx_iadd dX12_moves_157 rfl hx6 ?_
      refine fx_iconst (x := -1) dX12_moves_158 rfl (by decide) ?_
      obtain ⟨hj8, h⟩ := xChk_el h
      obtain ⟨m7, hm7, h⟩ := xLet_el h
      refine gx_iastore dX12_moves_159 rfl ha0.2.1 hj8 hm7 ?_
      refine fx_aload_n dX12_moves_160 rfl rfl ?_
      refine gx_getr dX12_moves_161 rfl fd_12_7 ha0.1 rfl rfl ?_
      refine fx_iload dX12_moves_164 rfl rfl ?_
      refine fx_iconst (x := 2) dX12_moves_166 rfl (by decide) ?_
      obtain ⟨x9, hx9, h⟩ := xLet_el h
      refine fx_iadd dX12_moves_167 rfl hx9 ?_
      refine fx_iload dX12_moves_168 rfl rfl ?_
      obtain ⟨hj11, h⟩ := xChk_el h
      obtain ⟨m10, hm10, h⟩ := xLet_el h
      refine gx_iastore dX12_moves_170 rfl ha0.2.1 hj11 hm10 ?_
      exact fX12_moves_171_ok (o5 := some (.int l5)) (o6 := some (.int l6)) hd ha0 hrec12 rfl rfl h
def fX12_moves_12 (a0 : Nat) (a1 : Int32) (a2 : Int32) : Nat → Int32 → Int32 → xMem → Option (Int32 × xMem)
  | 0, _, _, _ => none
  | fuel + 1, l3, l4, m => if l4 < (0 : Int32) then some ((1 : Int32), m) else (fX12_placeOf a0 a1 a2 l4 m).bind fun p2 => bif xIn p2.1 1610 then xLet (p2.2.1 (a0 + 1) p2.1.toNatClampNeg) fun x3 => if x3 = (-1 : Int32) then fX12_moves_171 a0 a1 a2 (fX12_moves_12 a0 a1 a2 fuel) l3 l4 p2.2 else if ¬ l4 = l3 then bif xIn p2.1 1610 then xLet (xPut p2.2 (a0 + 1) p2.1.toNatClampNeg (-1 : Int32)) fun m7 => xLet (p2.1 + (1 : Int32)) fun x9 => bif xIn x9 1610 then xLet (xPut m7 (a0 + 1) x9.toNatClampNeg x3) fun m10 => if x3 ≤ (9 : Int32) then fX12_moves_130 a0 a1 a2 (fX12_moves_12 a0 a1 a2 fuel) l3 l4 p2.1 x3 m10 else xLet (l4 + (1 : Int32)) fun x13 => if ¬ x13 = l3 then fX12_moves_130 a0 a1 a2 (fX12_moves_12 a0 a1 a2 fuel) l3 l4 p2.1 x3 m10 else (fX12_stepsOff a0 a1 x3 m10).bind fun p15 => if ¬ p15.1 = (0 : Int32) then xLet (p2.1 + (1 : Int32)) fun x17 => bif xIn x17 1610 then xLet (xPut p15.2 (a0 + 1) x17.toNatClampNeg (-1 : Int32)) fun m18 => fX12_moves_171 a0 a1 a2 (fX12_moves_12 a0 a1 a2 fuel) l3 l4 m18 else none else some ((0 : Int32), p15.2) else none else none else (fX12_stepsOff a0 a1 x3 p2.2).bind fun p20 => if ¬ p20.1 = (0 : Int32) then bif xIn p2.1 1610 then xLet (xPut p20.2 (a0 + 1) p2.1.toNatClampNeg (-1 : Int32)) fun m22 => fX12_moves_171 a0 a1 a2 (fX12_moves_12 a0 a1 a2 fuel) l3 l4 m22 else none else some ((0 : Int32), p20.2) else none
set_option maxRecDepth 4000 in
theorem fX12_moves_12_ok {a0 : Nat} {a1 : Int32} {a2 : Int32} {d : Nat} (hd : 3 ≤ d) (ha0 : isModel a0) : ∀ (fuel : Nat) (l3 : Int32) (l4 : Int32) (o5 : Option Value) (o6 : Option Value) (q5 : xNoD o5 = true) (q6 : xNoD o6 = true) (m : xMem) (r : (Int32 × xMem)), fX12_moves_12 a0 a1 a2 fuel l3 l4 m = some r → xFx hh_186 cX12_moves d 12 [some (.ref a0), some (.int a1), some (.int a2), some (.int l3), some (.int l4), o5, o6] [] (xLay m) 0 0 (some (.int r.1)) (xLay r.2) := by
  intro fuel
  induction fuel with
  | zero => intro l3 l4 o5 o6 q5 q6 m r  h; cases h
  | succ fuel ih =>
    intro l3 l4 o5 o6 q5 q6 m r  h
    unfold fX12_moves_12 at h
    refine fx_iload dX12_moves_12 rfl rfl ?_
    refine fx_if_lt (t := 177) dX12_moves_14 rfl rfl (fun hc1 => ?_) (fun hc1 => ?_)
    · rw [if_pos hc1] at h
      refine fx_iconst (x := 1) dX12_moves_177 rfl (by decide) ?_
      cases h
      exact fx_ireturn dX12_moves_178 rfl rfl
    · rw [if_neg hc1] at h
      refine fx_aload_n dX12_moves_17 rfl rfl ?_
      refine fx_iload_n dX12_moves_18 rfl rfl ?_
      refine fx_iload_n dX12_moves_19 rfl rfl ?_
      refine fx_iload dX12_moves_20 rfl rfl ?_
      obtain ⟨p2, ep2, h⟩ := xBind_el h
      refine gx_callv (as := [.int a1, .int a2, .int l4]) (r := []) rfl dX12_moves_22 ca_12_334 rfl me_183 rfl rfl rfl rfl (ha0.1) rfl (fX12_placeOf_ok (d := d) (by omega) ha0 ep2) rfl rfl ?_
      refine fx_istore (ls2 := [some (.ref a0), some (.int a1), some (.int a2), some (.int l3), some (.int l4), some (.int p2.1), o6]) dX12_moves_25 rfl rfl rfl ?_
      refine fx_aload_n dX12_moves_27 rfl rfl ?_
      refine gx_getr dX12_moves_28 rfl fd_12_7 ha0.1 rfl rfl ?_
      refine fx_iload dX12_moves_31 rfl rfl ?_
      obtain ⟨hj4, h⟩ := xChk_el h
      obtain ⟨x3, hx3, h⟩ := xLet_el h
      refine gx_iaload dX12_moves_33 rfl ha0.2.1 hj4 hx3 ?_
      refine fx_istore (ls2 := [some (.ref a0), some (.int a1), some (.int a2), some (.int l3), some (.int l4), some (.int p2.1), some (.int x3)]) dX12_moves_34 rfl rfl rfl ?_
      refine fx_iload dX12_moves_36 rfl rfl ?_
      refine fx_iconst (x := -1) dX12_moves_38 rfl (by decide) ?_
      refine fx_icmp_eq (t := 171) dX12_moves_39 rfl rfl (fun hc5 => ?_) (fun hc5 => ?_)
      · rw [if_pos hc5] at h
        exact fX12_moves_171_ok (o5 := some (.int p2.1)) (o6 := some (.int x3)) hd ha0 ih rfl rfl h
      · rw [if_neg hc5] at h
        refine fx_iload dX12_moves_42 rfl rfl ?_
        refine fx_iload_n dX12_moves_44 rfl rfl ?_
        refine fx_icmp_ne (t := 71) dX12_moves_45 rfl rfl (fun hc6 => ?_) (fun hc6 => ?_)
        · rw [if_pos hc6] at h
          refine fx_aload_n dX12_moves_71 rfl rfl ?_
          refine gx_getr dX12_moves_72 rfl fd_12_7 ha0.1 rfl rfl ?_
          refine fx_iload dX12_moves_75 rfl rfl ?_
          refine fx_iconst (x := -1) dX12_moves_77 rfl (by decide) ?_
          obtain ⟨hj8, h⟩ := xChk_el h
          obtain ⟨m7, hm7, h⟩ := xLet_el h
          refine gx_iastore dX12_moves_78 rfl ha0.2.1 hj8 hm7 ?_
          refine fx_aload_n dX12_moves_79 rfl rfl ?_
          refine gx_getr dX12_moves_80 rfl fd_12_7 ha0.1 rfl rfl ?_
          refine fx_iload dX12_moves_83 rfl rfl ?_
          refine fx_iconst (x := 1) dX12_moves_85 rfl (by decide) ?_
          obtain ⟨x9, hx9, h⟩ := xLet_el h
          refine fx_iadd dX12_moves_86 rfl hx9 ?_
          refine fx_iload dX12_moves_87 rfl rfl ?_
          obtain ⟨hj11, h⟩ := xChk_el h
          obtain ⟨m10, hm10, h⟩ := xLet_el h
          refine gx_iastore dX12_moves_89 rfl ha0.2.1 hj11 hm10 ?_
          refine fx_iload dX12_moves_90 rfl rfl ?_
          refine fx_bipush (x := 9) dX12_moves_92 rfl (by decide) ?_
          refine fx_icmp_le (t := 130) dX12_moves_94 rfl rfl (fun hc12 => ?_) (fun hc12 => ?_)
          · rw [if_pos hc12] at h
            exact fX12_moves_130_ok hd ha0 ih h
          · rw [if_neg hc12] at h
            refine fx_iload dX12_moves_97 rfl rfl ?_
            refine fx_iconst (x := 1) dX12_moves_99 rfl (by decide) ?_
            obtain ⟨x13, hx13, h⟩ := xLet_el h
            refine fx_iadd dX12_moves_100 rfl hx13 ?_
            refine fx_iload_n dX12_moves_101 rfl rfl ?_
            refine fx_icmp_ne (t := 130) dX12_moves_102 rfl rfl (fun hc14 => ?_) (fun hc14 => ?_)
            · rw [if_pos hc14] at h
              exact fX12_moves_130_ok hd ha0 ih h
            · rw [if_neg hc14] at h
              refine fx_aload_n dX12_moves_105 rfl rfl ?_
              refine fx_iload_n dX12_moves_106 rfl rfl ?_
              refine fx_iload dX12_moves_107 rfl rfl ?_
              obtain ⟨p15, ep15, h⟩ := xBind_el h
              refine gx_callv (as := [.int a1, .int x3]) (r := []) rfl dX12_moves_109 ca_12_337 rfl me_184 rfl rfl rfl rfl (ha0.1) rfl (fX12_stepsOff_ok (d := d) (by omega) ha0 ep15) rfl rfl ?_
              refine fx_if_ne (t := 117) dX12_moves_112 rfl rfl (fun hc16 => ?_) (fun hc16 => ?_)
              · rw [if_pos hc16] at h
                refine fx_aload_n dX12_moves_117 rfl rfl ?_
                refine gx_getr dX12_moves_118 rfl fd_12_7 ha0.1 rfl rfl ?_
                refine fx_iload dX12_moves_121 rfl rfl ?_
                refine fx_iconst (x := 1) dX12_moves_123 rfl (by decide) ?_
                obtain ⟨x17, hx17, h⟩ := xLet_el h
                refine fx_iadd dX12_moves_124 rfl hx17 ?_
                refine fx_iconst (x := -1) dX12_moves_125 rfl (by decide) ?_
                obtain ⟨hj19, h⟩ := xChk_el h
                obtain ⟨m18, hm18, h⟩ := xLet_el h
                refine gx_iastore dX12_moves_126 rfl ha0.2.1 hj19 hm18 ?_
                refine fx_goto (t := 171) dX12_moves_127 rfl rfl ?_
                exact fX12_moves_171_ok (o5 := some (.int p2.1)) (o6 := some (.int x3)) hd ha0 ih rfl rfl h
              · rw [if_neg hc16] at h
                refine fx_iconst (x := 0) dX12_moves_115 rfl (by decide) ?_
                cases h
                exact fx_ireturn dX12_moves_116 rfl rfl
        · rw [if_neg hc6] at h
          refine fx_aload_n dX12_moves_48 rfl rfl ?_
          refine fx_iload_n dX12_moves_49 rfl rfl ?_
          refine fx_iload dX12_moves_50 rfl rfl ?_
          obtain ⟨p20, ep20, h⟩ := xBind_el h
          refine gx_callv (as := [.int a1, .int x3]) (r := []) rfl dX12_moves_52 ca_12_337 rfl me_184 rfl rfl rfl rfl (ha0.1) rfl (fX12_stepsOff_ok (d := d) (by omega) ha0 ep20) rfl rfl ?_
          refine fx_if_ne (t := 60) dX12_moves_55 rfl rfl (fun hc21 => ?_) (fun hc21 => ?_)
          · rw [if_pos hc21] at h
            refine fx_aload_n dX12_moves_60 rfl rfl ?_
            refine gx_getr dX12_moves_61 rfl fd_12_7 ha0.1 rfl rfl ?_
            refine fx_iload dX12_moves_64 rfl rfl ?_
            refine fx_iconst (x := -1) dX12_moves_66 rfl (by decide) ?_
            obtain ⟨hj23, h⟩ := xChk_el h
            obtain ⟨m22, hm22, h⟩ := xLet_el h
            refine gx_iastore dX12_moves_67 rfl ha0.2.1 hj23 hm22 ?_
            refine fx_goto (t := 171) dX12_moves_68 rfl rfl ?_
            exact fX12_moves_171_ok (o5 := some (.int p2.1)) (o6 := some (.int x3)) hd ha0 ih rfl rfl h
          · rw [if_neg hc21] at h
            refine fx_iconst (x := 0) dX12_moves_58 rfl (by decide) ?_
            cases h
            exact fx_ireturn dX12_moves_59 rfl rfl
def fX12_moves_0 (a0 : Nat) (a1 : Int32) (a2 : Int32) (m : xMem) : Option (Int32 × xMem) := (fX12_linkOf a0 a1 (3 : Int32) m).bind fun p1 => xLet (p1.1 - (1 : Int32)) fun x2 => fX12_moves_12 a0 a1 a2 xFuel x2 x2 p1.2
set_option maxRecDepth 4000 in
theorem fX12_moves_0_ok {a0 : Nat} {a1 : Int32} {a2 : Int32} {d : Nat} (hd : 3 ≤ d) (ha0 : isModel a0) {o3 : Option Value} {o4 : Option Value} {o5 : Option Value} {o6 : Option Value} {m : xMem} {r : (Int32 × xMem)} (q3 : xNoD o3 = true) (q4 : xNoD o4 = true) (q5 : xNoD o5 = true) (q6 : xNoD o6 = true) (h : fX12_moves_0 a0 a1 a2 m = some r) : xFx hh_186 cX12_moves d 0 [some (.ref a0), some (.int a1), some (.int a2), o3, o4, o5, o6] [] (xLay m) 0 0 (some (.int r.1)) (xLay r.2) := by
  unfold fX12_moves_0 at h
  refine fx_aload_n dX12_moves_0 rfl rfl ?_
  refine fx_iload_n dX12_moves_1 rfl rfl ?_
  refine fx_iconst (x := 3) dX12_moves_2 rfl (by decide) ?_
  obtain ⟨p1, ep1, h⟩ := xBind_el h
  refine gx_callv (as := [.int a1, .int (3 : Int32)]) (r := []) rfl dX12_moves_3 ca_12_103 rfl me_34 rfl rfl rfl rfl (ha0.1) rfl (fX12_linkOf_ok (d := d) (by omega) ha0 ep1) rfl rfl ?_
  refine fx_iconst (x := 1) dX12_moves_6 rfl (by decide) ?_
  obtain ⟨x2, hx2, h⟩ := xLet_el h
  refine fx_isub dX12_moves_7 rfl hx2 ?_
  refine fx_istore_n (ls2 := [some (.ref a0), some (.int a1), some (.int a2), some (.int x2), o4, o5, o6]) dX12_moves_8 rfl rfl rfl ?_
  refine fx_iload_n dX12_moves_9 rfl rfl ?_
  refine fx_istore (ls2 := [some (.ref a0), some (.int a1), some (.int a2), some (.int x2), some (.int x2), o5, o6]) dX12_moves_10 rfl rfl rfl ?_
  exact fX12_moves_12_ok hd ha0 xFuel x2 x2 (o5) (o6) q5 q6 p1.2 r h
def fX12_moves (a0 : Nat) (a1 : Int32) (a2 : Int32) (m : xMem) : Option (Int32 × xMem) := fX12_moves_0 a0 a1 a2  m
theorem fX12_moves_ok {a0 : Nat} {a1 : Int32} {a2 : Int32} {m : xMem} {r : (Int32 × xMem)} {d : Nat} (hd : 4 ≤ d) (ha0 : isModel a0) (h : fX12_moves a0 a1 a2 m = some r) : xEx d 186 [.ref a0, .int a1, .int a2] (xLay m) (some (.int r.1)) (xLay r.2) := by
  obtain ⟨d, rfl⟩ : ∃ q, d = q + 1 := ⟨d - 1, by omega⟩
  exact xEx_of me_186 rfl (fX12_moves_0_ok (d := d) (o3 := none) (o4 := none) (o5 := none) (o6 := none) (by omega) ha0 rfl rfl rfl rfl h)
def fX12_trips_0 (a0 : Nat) (a1 : Int32) (m : xMem) : Option xMem := (fX12_tells a0 a1 (9 : Int32) (1 : Int32) m).bind fun p1 => bif xIn (12 : Int32) 1610 then xLet (p1.1 (a0 + 1) (12 : Int32).toNatClampNeg) fun x2 => xLet (x2 + (1 : Int32)) fun x4 => bif xIn (12 : Int32) 1610 then xLet (xPut p1 (a0 + 1) (12 : Int32).toNatClampNeg x4) fun m5 => some m5 else none else none
set_option maxRecDepth 4000 in
theorem fX12_trips_0_ok {a0 : Nat} {a1 : Int32} {d : Nat} (hd : 1 ≤ d) (ha0 : isModel a0) {m : xMem} {r : xMem} (h : fX12_trips_0 a0 a1 m = some r) : xFx hh_187 cX12_trips d 0 [some (.ref a0), some (.int a1)] [] (xLay m) 0 0 none (xLay r) := by
  unfold fX12_trips_0 at h
  refine fx_aload_n dX12_trips_0 rfl rfl ?_
  refine fx_iload_n dX12_trips_1 rfl rfl ?_
  refine fx_bipush (x := 9) dX12_trips_2 rfl (by decide) ?_
  refine fx_iconst (x := 1) dX12_trips_4 rfl (by decide) ?_
  obtain ⟨p1, ep1, h⟩ := xBind_el h
  refine gx_callv (as := [.int a1, .int (9 : Int32), .int (1 : Int32)]) (r := []) rfl dX12_trips_5 ca_12_110 rfl me_26 rfl rfl rfl rfl (ha0.1) rfl (fX12_tells_ok (d := d) (by omega) ha0 ep1) rfl rfl ?_
  refine fx_aload_n dX12_trips_8 rfl rfl ?_
  refine gx_getr dX12_trips_9 rfl fd_12_7 ha0.1 rfl rfl ?_
  refine fx_bipush (x := 12) dX12_trips_12 rfl (by decide) ?_
  refine fx_dup2 dX12_trips_14 rfl rfl ?_
  obtain ⟨hj3, h⟩ := xChk_el h
  obtain ⟨x2, hx2, h⟩ := xLet_el h
  refine gx_iaload dX12_trips_15 rfl ha0.2.1 hj3 hx2 ?_
  refine fx_iconst (x := 1) dX12_trips_16 rfl (by decide) ?_
  obtain ⟨x4, hx4, h⟩ := xLet_el h
  refine fx_iadd dX12_trips_17 rfl hx4 ?_
  obtain ⟨hj6, h⟩ := xChk_el h
  obtain ⟨m5, hm5, h⟩ := xLet_el h
  refine gx_iastore dX12_trips_18 rfl ha0.2.1 hj6 hm5 ?_
  cases h
  exact fx_return dX12_trips_19 rfl rfl
def fX12_trips (a0 : Nat) (a1 : Int32) (m : xMem) : Option xMem := fX12_trips_0 a0 a1  m
theorem fX12_trips_ok {a0 : Nat} {a1 : Int32} {m : xMem} {r : xMem} {d : Nat} (hd : 2 ≤ d) (ha0 : isModel a0) (h : fX12_trips a0 a1 m = some r) : xEx d 187 [.ref a0, .int a1] (xLay m) none (xLay r) := by
  obtain ⟨d, rfl⟩ : ∃ q, d = q + 1 := ⟨d - 1, by omega⟩
  exact xEx_of me_187 rfl (fX12_trips_0_ok (d := d) (by omega) ha0 h)
