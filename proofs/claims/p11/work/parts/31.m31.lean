theorem bdX9_copyMoving_0 : (decode cX9_copyMoving 0 = .ok (.aload_n 0, 1)) ∧ (decode cX9_copyMoving 1 = .ok (.aload_n 1, 1)) ∧ (decode cX9_copyMoving 2 = .ok (.getfield 107, 3)) ∧ (decode cX9_copyMoving 5 = .ok (.putfield 107, 3)) ∧ (decode cX9_copyMoving 8 = .ok (.aload_n 0, 1)) ∧ (decode cX9_copyMoving 9 = .ok (.aload_n 1, 1)) ∧ (decode cX9_copyMoving 10 = .ok (.getfield 57, 3)) ∧ (decode cX9_copyMoving 13 = .ok (.putfield 57, 3)) ∧ (decode cX9_copyMoving 16 = .ok (.aload_n 0, 1)) ∧ (decode cX9_copyMoving 17 = .ok (.aload_n 1, 1)) ∧ (decode cX9_copyMoving 18 = .ok (.getfield 60, 3)) ∧ (decode cX9_copyMoving 21 = .ok (.putfield 60, 3)) ∧ (decode cX9_copyMoving 24 = .ok (.aload_n 0, 1)) ∧ (decode cX9_copyMoving 25 = .ok (.aload_n 1, 1)) ∧ (decode cX9_copyMoving 26 = .ok (.getfield 110, 3)) ∧ (decode cX9_copyMoving 29 = .ok (.putfield 110, 3)) := by decide +kernel
theorem dX9_copyMoving_0 : decode cX9_copyMoving 0 = .ok (.aload_n 0, 1) := bdX9_copyMoving_0.1
theorem dX9_copyMoving_1 : decode cX9_copyMoving 1 = .ok (.aload_n 1, 1) := bdX9_copyMoving_0.2.1
theorem dX9_copyMoving_2 : decode cX9_copyMoving 2 = .ok (.getfield 107, 3) := bdX9_copyMoving_0.2.2.1
theorem dX9_copyMoving_5 : decode cX9_copyMoving 5 = .ok (.putfield 107, 3) := bdX9_copyMoving_0.2.2.2.1
theorem dX9_copyMoving_8 : decode cX9_copyMoving 8 = .ok (.aload_n 0, 1) := bdX9_copyMoving_0.2.2.2.2.1
theorem dX9_copyMoving_9 : decode cX9_copyMoving 9 = .ok (.aload_n 1, 1) := bdX9_copyMoving_0.2.2.2.2.2.1
theorem dX9_copyMoving_10 : decode cX9_copyMoving 10 = .ok (.getfield 57, 3) := bdX9_copyMoving_0.2.2.2.2.2.2.1
theorem dX9_copyMoving_13 : decode cX9_copyMoving 13 = .ok (.putfield 57, 3) := bdX9_copyMoving_0.2.2.2.2.2.2.2.1
theorem dX9_copyMoving_16 : decode cX9_copyMoving 16 = .ok (.aload_n 0, 1) := bdX9_copyMoving_0.2.2.2.2.2.2.2.2.1
theorem dX9_copyMoving_17 : decode cX9_copyMoving 17 = .ok (.aload_n 1, 1) := bdX9_copyMoving_0.2.2.2.2.2.2.2.2.2.1
theorem dX9_copyMoving_18 : decode cX9_copyMoving 18 = .ok (.getfield 60, 3) := bdX9_copyMoving_0.2.2.2.2.2.2.2.2.2.2.1
theorem dX9_copyMoving_21 : decode cX9_copyMoving 21 = .ok (.putfield 60, 3) := bdX9_copyMoving_0.2.2.2.2.2.2.2.2.2.2.2.1
theorem dX9_copyMoving_24 : decode cX9_copyMoving 24 = .ok (.aload_n 0, 1) := bdX9_copyMoving_0.2.2.2.2.2.2.2.2.2.2.2.2.1
theorem dX9_copyMoving_25 : decode cX9_copyMoving 25 = .ok (.aload_n 1, 1) := bdX9_copyMoving_0.2.2.2.2.2.2.2.2.2.2.2.2.2.1
theorem dX9_copyMoving_26 : decode cX9_copyMoving 26 = .ok (.getfield 110, 3) := bdX9_copyMoving_0.2.2.2.2.2.2.2.2.2.2.2.2.2.2.1
theorem dX9_copyMoving_29 : decode cX9_copyMoving 29 = .ok (.putfield 110, 3) := bdX9_copyMoving_0.2.2.2.2.2.2.2.2.2.2.2.2.2.2.2
theorem bdX9_copyMoving_32 : (decode cX9_copyMoving 32 = .ok (.aload_n 0, 1)) ∧ (decode cX9_copyMoving 33 = .ok (.aload_n 1, 1)) ∧ (decode cX9_copyMoving 34 = .ok (.getfield 83, 3)) ∧ (decode cX9_copyMoving 37 = .ok (.putfield 83, 3)) ∧ (decode cX9_copyMoving 40 = .ok (.aload_n 0, 1)) ∧ (decode cX9_copyMoving 41 = .ok (.aload_n 1, 1)) ∧ (decode cX9_copyMoving 42 = .ok (.getfield 113, 3)) ∧ (decode cX9_copyMoving 45 = .ok (.putfield 113, 3)) ∧ (decode cX9_copyMoving 48 = .ok (.aload_n 0, 1)) ∧ (decode cX9_copyMoving 49 = .ok (.aload_n 1, 1)) ∧ (decode cX9_copyMoving 50 = .ok (.getfield 116, 3)) ∧ (decode cX9_copyMoving 53 = .ok (.putfield 116, 3)) ∧ (decode cX9_copyMoving 56 = .ok (.aload_n 0, 1)) ∧ (decode cX9_copyMoving 57 = .ok (.aload_n 1, 1)) ∧ (decode cX9_copyMoving 58 = .ok (.getfield 119, 3)) ∧ (decode cX9_copyMoving 61 = .ok (.putfield 119, 3)) := by decide +kernel
theorem dX9_copyMoving_32 : decode cX9_copyMoving 32 = .ok (.aload_n 0, 1) := bdX9_copyMoving_32.1
theorem dX9_copyMoving_33 : decode cX9_copyMoving 33 = .ok (.aload_n 1, 1) := bdX9_copyMoving_32.2.1
theorem dX9_copyMoving_34 : decode cX9_copyMoving 34 = .ok (.getfield 83, 3) := bdX9_copyMoving_32.2.2.1
theorem dX9_copyMoving_37 : decode cX9_copyMoving 37 = .ok (.putfield 83, 3) := bdX9_copyMoving_32.2.2.2.1
theorem dX9_copyMoving_40 : decode cX9_copyMoving 40 = .ok (.aload_n 0, 1) := bdX9_copyMoving_32.2.2.2.2.1
theorem dX9_copyMoving_41 : decode cX9_copyMoving 41 = .ok (.aload_n 1, 1) := bdX9_copyMoving_32.2.2.2.2.2.1
theorem dX9_copyMoving_42 : decode cX9_copyMoving 42 = .ok (.getfield 113, 3) := bdX9_copyMoving_32.2.2.2.2.2.2.1
theorem dX9_copyMoving_45 : decode cX9_copyMoving 45 = .ok (.putfield 113, 3) := bdX9_copyMoving_32.2.2.2.2.2.2.2.1
theorem dX9_copyMoving_48 : decode cX9_copyMoving 48 = .ok (.aload_n 0, 1) := bdX9_copyMoving_32.2.2.2.2.2.2.2.2.1
theorem dX9_copyMoving_49 : decode cX9_copyMoving 49 = .ok (.aload_n 1, 1) := bdX9_copyMoving_32.2.2.2.2.2.2.2.2.2.1
theorem dX9_copyMoving_50 : decode cX9_copyMoving 50 = .ok (.getfield 116, 3) := bdX9_copyMoving_32.2.2.2.2.2.2.2.2.2.2.1
theorem dX9_copyMoving_53 : decode cX9_copyMoving 53 = .ok (.putfield 116, 3) := bdX9_copyMoving_32.2.2.2.2.2.2.2.2.2.2.2.1
theorem dX9_copyMoving_56 : decode cX9_copyMoving 56 = .ok (.aload_n 0, 1) := bdX9_copyMoving_32.2.2.2.2.2.2.2.2.2.2.2.2.1
theorem dX9_copyMoving_57 : decode cX9_copyMoving 57 = .ok (.aload_n 1, 1) := bdX9_copyMoving_32.2.2.2.2.2.2.2.2.2.2.2.2.2.1
theorem dX9_copyMoving_58 : decode cX9_copyMoving 58 = .ok (.getfield 119, 3) := bdX9_copyMoving_32.2.2.2.2.2.2.2.2.2.2.2.2.2.2.1
theorem dX9_copyMoving_61 : decode cX9_copyMoving 61 = .ok (.putfield 119, 3) := bdX9_copyMoving_32.2.2.2.2.2.2.2.2.2.2.2.2.2.2.2
theorem bdX9_copyMoving_64 : (decode cX9_copyMoving 64 = .ok (.iconst 0, 1)) ∧ (decode cX9_copyMoving 65 = .ok (.istore_n 2, 1)) ∧ (decode cX9_copyMoving 66 = .ok (.iload_n 2, 1)) ∧ (decode cX9_copyMoving 67 = .ok (.aload_n 0, 1)) ∧ (decode cX9_copyMoving 68 = .ok (.getfield 57, 3)) ∧ (decode cX9_copyMoving 71 = .ok (.if_icmp .ge 30, 3)) ∧ (decode cX9_copyMoving 74 = .ok (.iload_n 2, 1)) ∧ (decode cX9_copyMoving 75 = .ok (.bipush 6, 2)) ∧ (decode cX9_copyMoving 77 = .ok (.if_icmp .ge 24, 3)) ∧ (decode cX9_copyMoving 80 = .ok (.aload_n 0, 1)) ∧ (decode cX9_copyMoving 81 = .ok (.getfield 11, 3)) ∧ (decode cX9_copyMoving 84 = .ok (.iload_n 2, 1)) ∧ (decode cX9_copyMoving 85 = .ok (.aaload, 1)) ∧ (decode cX9_copyMoving 86 = .ok (.aload_n 1, 1)) ∧ (decode cX9_copyMoving 87 = .ok (.getfield 11, 3)) ∧ (decode cX9_copyMoving 90 = .ok (.iload_n 2, 1)) := by decide +kernel
theorem dX9_copyMoving_64 : decode cX9_copyMoving 64 = .ok (.iconst 0, 1) := bdX9_copyMoving_64.1
theorem dX9_copyMoving_65 : decode cX9_copyMoving 65 = .ok (.istore_n 2, 1) := bdX9_copyMoving_64.2.1
theorem dX9_copyMoving_66 : decode cX9_copyMoving 66 = .ok (.iload_n 2, 1) := bdX9_copyMoving_64.2.2.1
theorem dX9_copyMoving_67 : decode cX9_copyMoving 67 = .ok (.aload_n 0, 1) := bdX9_copyMoving_64.2.2.2.1
theorem dX9_copyMoving_68 : decode cX9_copyMoving 68 = .ok (.getfield 57, 3) := bdX9_copyMoving_64.2.2.2.2.1
theorem dX9_copyMoving_71 : decode cX9_copyMoving 71 = .ok (.if_icmp .ge 30, 3) := bdX9_copyMoving_64.2.2.2.2.2.1
theorem dX9_copyMoving_74 : decode cX9_copyMoving 74 = .ok (.iload_n 2, 1) := bdX9_copyMoving_64.2.2.2.2.2.2.1
theorem dX9_copyMoving_75 : decode cX9_copyMoving 75 = .ok (.bipush 6, 2) := bdX9_copyMoving_64.2.2.2.2.2.2.2.1
theorem dX9_copyMoving_77 : decode cX9_copyMoving 77 = .ok (.if_icmp .ge 24, 3) := bdX9_copyMoving_64.2.2.2.2.2.2.2.2.1
theorem dX9_copyMoving_80 : decode cX9_copyMoving 80 = .ok (.aload_n 0, 1) := bdX9_copyMoving_64.2.2.2.2.2.2.2.2.2.1
theorem dX9_copyMoving_81 : decode cX9_copyMoving 81 = .ok (.getfield 11, 3) := bdX9_copyMoving_64.2.2.2.2.2.2.2.2.2.2.1
theorem dX9_copyMoving_84 : decode cX9_copyMoving 84 = .ok (.iload_n 2, 1) := bdX9_copyMoving_64.2.2.2.2.2.2.2.2.2.2.2.1
theorem dX9_copyMoving_85 : decode cX9_copyMoving 85 = .ok (.aaload, 1) := bdX9_copyMoving_64.2.2.2.2.2.2.2.2.2.2.2.2.1
theorem dX9_copyMoving_86 : decode cX9_copyMoving 86 = .ok (.aload_n 1, 1) := bdX9_copyMoving_64.2.2.2.2.2.2.2.2.2.2.2.2.2.1
theorem dX9_copyMoving_87 : decode cX9_copyMoving 87 = .ok (.getfield 11, 3) := bdX9_copyMoving_64.2.2.2.2.2.2.2.2.2.2.2.2.2.2.1
theorem dX9_copyMoving_90 : decode cX9_copyMoving 90 = .ok (.iload_n 2, 1) := bdX9_copyMoving_64.2.2.2.2.2.2.2.2.2.2.2.2.2.2.2
theorem bdX9_copyMoving_91 : (decode cX9_copyMoving 91 = .ok (.aaload, 1)) ∧ (decode cX9_copyMoving 92 = .ok (.invokevirtual 122, 3)) ∧ (decode cX9_copyMoving 95 = .ok (.iinc 2 1, 3)) ∧ (decode cX9_copyMoving 98 = .ok (.goto (-32), 3)) ∧ (decode cX9_copyMoving 101 = .ok (.iconst 0, 1)) ∧ (decode cX9_copyMoving 102 = .ok (.istore_n 2, 1)) ∧ (decode cX9_copyMoving 103 = .ok (.iload_n 2, 1)) ∧ (decode cX9_copyMoving 104 = .ok (.aload_n 0, 1)) ∧ (decode cX9_copyMoving 105 = .ok (.getfield 60, 3)) ∧ (decode cX9_copyMoving 108 = .ok (.if_icmp .ge 30, 3)) ∧ (decode cX9_copyMoving 111 = .ok (.iload_n 2, 1)) ∧ (decode cX9_copyMoving 112 = .ok (.bipush 10, 2)) ∧ (decode cX9_copyMoving 114 = .ok (.if_icmp .ge 24, 3)) ∧ (decode cX9_copyMoving 117 = .ok (.aload_n 0, 1)) ∧ (decode cX9_copyMoving 118 = .ok (.getfield 19, 3)) ∧ (decode cX9_copyMoving 121 = .ok (.iload_n 2, 1)) := by decide +kernel
theorem dX9_copyMoving_91 : decode cX9_copyMoving 91 = .ok (.aaload, 1) := bdX9_copyMoving_91.1
theorem dX9_copyMoving_92 : decode cX9_copyMoving 92 = .ok (.invokevirtual 122, 3) := bdX9_copyMoving_91.2.1
theorem dX9_copyMoving_95 : decode cX9_copyMoving 95 = .ok (.iinc 2 1, 3) := bdX9_copyMoving_91.2.2.1
theorem dX9_copyMoving_98 : decode cX9_copyMoving 98 = .ok (.goto (-32), 3) := bdX9_copyMoving_91.2.2.2.1
theorem dX9_copyMoving_101 : decode cX9_copyMoving 101 = .ok (.iconst 0, 1) := bdX9_copyMoving_91.2.2.2.2.1
theorem dX9_copyMoving_102 : decode cX9_copyMoving 102 = .ok (.istore_n 2, 1) := bdX9_copyMoving_91.2.2.2.2.2.1
theorem dX9_copyMoving_103 : decode cX9_copyMoving 103 = .ok (.iload_n 2, 1) := bdX9_copyMoving_91.2.2.2.2.2.2.1
theorem dX9_copyMoving_104 : decode cX9_copyMoving 104 = .ok (.aload_n 0, 1) := bdX9_copyMoving_91.2.2.2.2.2.2.2.1
theorem dX9_copyMoving_105 : decode cX9_copyMoving 105 = .ok (.getfield 60, 3) := bdX9_copyMoving_91.2.2.2.2.2.2.2.2.1
theorem dX9_copyMoving_108 : decode cX9_copyMoving 108 = .ok (.if_icmp .ge 30, 3) := bdX9_copyMoving_91.2.2.2.2.2.2.2.2.2.1
theorem dX9_copyMoving_111 : decode cX9_copyMoving 111 = .ok (.iload_n 2, 1) := bdX9_copyMoving_91.2.2.2.2.2.2.2.2.2.2.1
theorem dX9_copyMoving_112 : decode cX9_copyMoving 112 = .ok (.bipush 10, 2) := bdX9_copyMoving_91.2.2.2.2.2.2.2.2.2.2.2.1
theorem dX9_copyMoving_114 : decode cX9_copyMoving 114 = .ok (.if_icmp .ge 24, 3) := bdX9_copyMoving_91.2.2.2.2.2.2.2.2.2.2.2.2.1
theorem dX9_copyMoving_117 : decode cX9_copyMoving 117 = .ok (.aload_n 0, 1) := bdX9_copyMoving_91.2.2.2.2.2.2.2.2.2.2.2.2.2.1
theorem dX9_copyMoving_118 : decode cX9_copyMoving 118 = .ok (.getfield 19, 3) := bdX9_copyMoving_91.2.2.2.2.2.2.2.2.2.2.2.2.2.2.1
theorem dX9_copyMoving_121 : decode cX9_copyMoving 121 = .ok (.iload_n 2, 1) := bdX9_copyMoving_91.2.2.2.2.2.2.2.2.2.2.2.2.2.2.2
theorem bdX9_copyMoving_122 : (decode cX9_copyMoving 122 = .ok (.aaload, 1)) ∧ (decode cX9_copyMoving 123 = .ok (.aload_n 1, 1)) ∧ (decode cX9_copyMoving 124 = .ok (.getfield 19, 3)) ∧ (decode cX9_copyMoving 127 = .ok (.iload_n 2, 1)) ∧ (decode cX9_copyMoving 128 = .ok (.aaload, 1)) ∧ (decode cX9_copyMoving 129 = .ok (.invokevirtual 125, 3)) ∧ (decode cX9_copyMoving 132 = .ok (.iinc 2 1, 3)) ∧ (decode cX9_copyMoving 135 = .ok (.goto (-32), 3)) ∧ (decode cX9_copyMoving 138 = .ok (.iconst 0, 1)) ∧ (decode cX9_copyMoving 139 = .ok (.istore_n 2, 1)) ∧ (decode cX9_copyMoving 140 = .ok (.iload_n 2, 1)) ∧ (decode cX9_copyMoving 141 = .ok (.aload_n 0, 1)) ∧ (decode cX9_copyMoving 142 = .ok (.getfield 110, 3)) ∧ (decode cX9_copyMoving 145 = .ok (.if_icmp .ge 30, 3)) ∧ (decode cX9_copyMoving 148 = .ok (.iload_n 2, 1)) ∧ (decode cX9_copyMoving 149 = .ok (.bipush 30, 2)) := by decide +kernel
theorem dX9_copyMoving_122 : decode cX9_copyMoving 122 = .ok (.aaload, 1) := bdX9_copyMoving_122.1
theorem dX9_copyMoving_123 : decode cX9_copyMoving 123 = .ok (.aload_n 1, 1) := bdX9_copyMoving_122.2.1
theorem dX9_copyMoving_124 : decode cX9_copyMoving 124 = .ok (.getfield 19, 3) := bdX9_copyMoving_122.2.2.1
theorem dX9_copyMoving_127 : decode cX9_copyMoving 127 = .ok (.iload_n 2, 1) := bdX9_copyMoving_122.2.2.2.1
theorem dX9_copyMoving_128 : decode cX9_copyMoving 128 = .ok (.aaload, 1) := bdX9_copyMoving_122.2.2.2.2.1
theorem dX9_copyMoving_129 : decode cX9_copyMoving 129 = .ok (.invokevirtual 125, 3) := bdX9_copyMoving_122.2.2.2.2.2.1
theorem dX9_copyMoving_132 : decode cX9_copyMoving 132 = .ok (.iinc 2 1, 3) := bdX9_copyMoving_122.2.2.2.2.2.2.1
theorem dX9_copyMoving_135 : decode cX9_copyMoving 135 = .ok (.goto (-32), 3) := bdX9_copyMoving_122.2.2.2.2.2.2.2.1
theorem dX9_copyMoving_138 : decode cX9_copyMoving 138 = .ok (.iconst 0, 1) := bdX9_copyMoving_122.2.2.2.2.2.2.2.2.1
theorem dX9_copyMoving_139 : decode cX9_copyMoving 139 = .ok (.istore_n 2, 1) := bdX9_copyMoving_122.2.2.2.2.2.2.2.2.2.1
theorem dX9_copyMoving_140 : decode cX9_copyMoving 140 = .ok (.iload_n 2, 1) := bdX9_copyMoving_122.2.2.2.2.2.2.2.2.2.2.1
theorem dX9_copyMoving_141 : decode cX9_copyMoving 141 = .ok (.aload_n 0, 1) := bdX9_copyMoving_122.2.2.2.2.2.2.2.2.2.2.2.1
theorem dX9_copyMoving_142 : decode cX9_copyMoving 142 = .ok (.getfield 110, 3) := bdX9_copyMoving_122.2.2.2.2.2.2.2.2.2.2.2.2.1
theorem dX9_copyMoving_145 : decode cX9_copyMoving 145 = .ok (.if_icmp .ge 30, 3) := bdX9_copyMoving_122.2.2.2.2.2.2.2.2.2.2.2.2.2.1
theorem dX9_copyMoving_148 : decode cX9_copyMoving 148 = .ok (.iload_n 2, 1) := bdX9_copyMoving_122.2.2.2.2.2.2.2.2.2.2.2.2.2.2.1
theorem dX9_copyMoving_149 : decode cX9_copyMoving 149 = .ok (.bipush 30, 2) := bdX9_copyMoving_122.2.2.2.2.2.2.2.2.2.2.2.2.2.2.2
theorem bdX9_copyMoving_151 : (decode cX9_copyMoving 151 = .ok (.if_icmp .ge 24, 3)) ∧ (decode cX9_copyMoving 154 = .ok (.aload_n 0, 1)) ∧ (decode cX9_copyMoving 155 = .ok (.getfield 25, 3)) ∧ (decode cX9_copyMoving 158 = .ok (.iload_n 2, 1)) ∧ (decode cX9_copyMoving 159 = .ok (.aaload, 1)) ∧ (decode cX9_copyMoving 160 = .ok (.aload_n 1, 1)) ∧ (decode cX9_copyMoving 161 = .ok (.getfield 25, 3)) ∧ (decode cX9_copyMoving 164 = .ok (.iload_n 2, 1)) ∧ (decode cX9_copyMoving 165 = .ok (.aaload, 1)) ∧ (decode cX9_copyMoving 166 = .ok (.invokevirtual 128, 3)) ∧ (decode cX9_copyMoving 169 = .ok (.iinc 2 1, 3)) ∧ (decode cX9_copyMoving 172 = .ok (.goto (-32), 3)) ∧ (decode cX9_copyMoving 175 = .ok (.return_, 1)) := by decide +kernel
theorem dX9_copyMoving_151 : decode cX9_copyMoving 151 = .ok (.if_icmp .ge 24, 3) := bdX9_copyMoving_151.1
theorem dX9_copyMoving_154 : decode cX9_copyMoving 154 = .ok (.aload_n 0, 1) := bdX9_copyMoving_151.2.1
theorem dX9_copyMoving_155 : decode cX9_copyMoving 155 = .ok (.getfield 25, 3) := bdX9_copyMoving_151.2.2.1
theorem dX9_copyMoving_158 : decode cX9_copyMoving 158 = .ok (.iload_n 2, 1) := bdX9_copyMoving_151.2.2.2.1
theorem dX9_copyMoving_159 : decode cX9_copyMoving 159 = .ok (.aaload, 1) := bdX9_copyMoving_151.2.2.2.2.1
theorem dX9_copyMoving_160 : decode cX9_copyMoving 160 = .ok (.aload_n 1, 1) := bdX9_copyMoving_151.2.2.2.2.2.1
theorem dX9_copyMoving_161 : decode cX9_copyMoving 161 = .ok (.getfield 25, 3) := bdX9_copyMoving_151.2.2.2.2.2.2.1
theorem dX9_copyMoving_164 : decode cX9_copyMoving 164 = .ok (.iload_n 2, 1) := bdX9_copyMoving_151.2.2.2.2.2.2.2.1
theorem dX9_copyMoving_165 : decode cX9_copyMoving 165 = .ok (.aaload, 1) := bdX9_copyMoving_151.2.2.2.2.2.2.2.2.1
theorem dX9_copyMoving_166 : decode cX9_copyMoving 166 = .ok (.invokevirtual 128, 3) := bdX9_copyMoving_151.2.2.2.2.2.2.2.2.2.1
theorem dX9_copyMoving_169 : decode cX9_copyMoving 169 = .ok (.iinc 2 1, 3) := bdX9_copyMoving_151.2.2.2.2.2.2.2.2.2.2.1
theorem dX9_copyMoving_172 : decode cX9_copyMoving 172 = .ok (.goto (-32), 3) := bdX9_copyMoving_151.2.2.2.2.2.2.2.2.2.2.2.1
theorem dX9_copyMoving_175 : decode cX9_copyMoving 175 = .ok (.return_, 1) := bdX9_copyMoving_151.2.2.2.2.2.2.2.2.2.2.2.2
theorem bdX11_beginTrial_0 : (decode cX11_beginTrial 0 = .ok (.aload_n 0, 1)) ∧ (decode cX11_beginTrial 1 = .ok (.getfield 19, 3)) ∧ (decode cX11_beginTrial 4 = .ok (.aload_n 0, 1)) ∧ (decode cX11_beginTrial 5 = .ok (.getfield 10, 3)) ∧ (decode cX11_beginTrial 8 = .ok (.invokevirtual 323, 3)) ∧ (decode cX11_beginTrial 11 = .ok (.aload_n 0, 1)) ∧ (decode cX11_beginTrial 12 = .ok (.getfield 25, 3)) ∧ (decode cX11_beginTrial 15 = .ok (.invokevirtual 166, 3)) ∧ (decode cX11_beginTrial 18 = .ok (.aload_n 0, 1)) ∧ (decode cX11_beginTrial 19 = .ok (.invokevirtual 162, 3)) ∧ (decode cX11_beginTrial 22 = .ok (.areturn, 1)) := by decide +kernel
theorem dX11_beginTrial_0 : decode cX11_beginTrial 0 = .ok (.aload_n 0, 1) := bdX11_beginTrial_0.1
theorem dX11_beginTrial_1 : decode cX11_beginTrial 1 = .ok (.getfield 19, 3) := bdX11_beginTrial_0.2.1
theorem dX11_beginTrial_4 : decode cX11_beginTrial 4 = .ok (.aload_n 0, 1) := bdX11_beginTrial_0.2.2.1
theorem dX11_beginTrial_5 : decode cX11_beginTrial 5 = .ok (.getfield 10, 3) := bdX11_beginTrial_0.2.2.2.1
theorem dX11_beginTrial_8 : decode cX11_beginTrial 8 = .ok (.invokevirtual 323, 3) := bdX11_beginTrial_0.2.2.2.2.1
theorem dX11_beginTrial_11 : decode cX11_beginTrial 11 = .ok (.aload_n 0, 1) := bdX11_beginTrial_0.2.2.2.2.2.1
theorem dX11_beginTrial_12 : decode cX11_beginTrial 12 = .ok (.getfield 25, 3) := bdX11_beginTrial_0.2.2.2.2.2.2.1
theorem dX11_beginTrial_15 : decode cX11_beginTrial 15 = .ok (.invokevirtual 166, 3) := bdX11_beginTrial_0.2.2.2.2.2.2.2.1
theorem dX11_beginTrial_18 : decode cX11_beginTrial 18 = .ok (.aload_n 0, 1) := bdX11_beginTrial_0.2.2.2.2.2.2.2.2.1
theorem dX11_beginTrial_19 : decode cX11_beginTrial 19 = .ok (.invokevirtual 162, 3) := bdX11_beginTrial_0.2.2.2.2.2.2.2.2.2.1
theorem dX11_beginTrial_22 : decode cX11_beginTrial 22 = .ok (.areturn, 1) := bdX11_beginTrial_0.2.2.2.2.2.2.2.2.2.2
theorem bdX11_waitedByWays_0 : (decode cX11_waitedByWays 0 = .ok (.aload_n 0, 1)) ∧ (decode cX11_waitedByWays 1 = .ok (.invokevirtual 246, 3)) ∧ (decode cX11_waitedByWays 4 = .ok (.astore 4, 2)) ∧ (decode cX11_waitedByWays 6 = .ok (.iconst 0, 1)) ∧ (decode cX11_waitedByWays 7 = .ok (.istore 5, 2)) ∧ (decode cX11_waitedByWays 9 = .ok (.iload 5, 2)) ∧ (decode cX11_waitedByWays 11 = .ok (.bipush 10, 2)) ∧ (decode cX11_waitedByWays 13 = .ok (.if_icmp .ge 47, 3)) ∧ (decode cX11_waitedByWays 16 = .ok (.iload_n 1, 1)) ∧ (decode cX11_waitedByWays 17 = .ok (.iload 5, 2)) ∧ (decode cX11_waitedByWays 19 = .ok (.ishr, 1)) ∧ (decode cX11_waitedByWays 20 = .ok (.iconst 1, 1)) ∧ (decode cX11_waitedByWays 21 = .ok (.iand, 1)) ∧ (decode cX11_waitedByWays 22 = .ok (.iconst 1, 1)) ∧ (decode cX11_waitedByWays 23 = .ok (.if_icmp .ne 31, 3)) ∧ (decode cX11_waitedByWays 26 = .ok (.aload_n 0, 1)) := by decide +kernel
theorem dX11_waitedByWays_0 : decode cX11_waitedByWays 0 = .ok (.aload_n 0, 1) := bdX11_waitedByWays_0.1
theorem dX11_waitedByWays_1 : decode cX11_waitedByWays 1 = .ok (.invokevirtual 246, 3) := bdX11_waitedByWays_0.2.1
theorem dX11_waitedByWays_4 : decode cX11_waitedByWays 4 = .ok (.astore 4, 2) := bdX11_waitedByWays_0.2.2.1
theorem dX11_waitedByWays_6 : decode cX11_waitedByWays 6 = .ok (.iconst 0, 1) := bdX11_waitedByWays_0.2.2.2.1
theorem dX11_waitedByWays_7 : decode cX11_waitedByWays 7 = .ok (.istore 5, 2) := bdX11_waitedByWays_0.2.2.2.2.1
theorem dX11_waitedByWays_9 : decode cX11_waitedByWays 9 = .ok (.iload 5, 2) := bdX11_waitedByWays_0.2.2.2.2.2.1
theorem dX11_waitedByWays_11 : decode cX11_waitedByWays 11 = .ok (.bipush 10, 2) := bdX11_waitedByWays_0.2.2.2.2.2.2.1
theorem dX11_waitedByWays_13 : decode cX11_waitedByWays 13 = .ok (.if_icmp .ge 47, 3) := bdX11_waitedByWays_0.2.2.2.2.2.2.2.1
theorem dX11_waitedByWays_16 : decode cX11_waitedByWays 16 = .ok (.iload_n 1, 1) := bdX11_waitedByWays_0.2.2.2.2.2.2.2.2.1
theorem dX11_waitedByWays_17 : decode cX11_waitedByWays 17 = .ok (.iload 5, 2) := bdX11_waitedByWays_0.2.2.2.2.2.2.2.2.2.1
theorem dX11_waitedByWays_19 : decode cX11_waitedByWays 19 = .ok (.ishr, 1) := bdX11_waitedByWays_0.2.2.2.2.2.2.2.2.2.2.1
theorem dX11_waitedByWays_20 : decode cX11_waitedByWays 20 = .ok (.iconst 1, 1) := bdX11_waitedByWays_0.2.2.2.2.2.2.2.2.2.2.2.1
theorem dX11_waitedByWays_21 : decode cX11_waitedByWays 21 = .ok (.iand, 1) := bdX11_waitedByWays_0.2.2.2.2.2.2.2.2.2.2.2.2.1
theorem dX11_waitedByWays_22 : decode cX11_waitedByWays 22 = .ok (.iconst 1, 1) := bdX11_waitedByWays_0.2.2.2.2.2.2.2.2.2.2.2.2.2.1
theorem dX11_waitedByWays_23 : decode cX11_waitedByWays 23 = .ok (.if_icmp .ne 31, 3) := bdX11_waitedByWays_0.2.2.2.2.2.2.2.2.2.2.2.2.2.2.1
theorem dX11_waitedByWays_26 : decode cX11_waitedByWays 26 = .ok (.aload_n 0, 1) := bdX11_waitedByWays_0.2.2.2.2.2.2.2.2.2.2.2.2.2.2.2
theorem bdX11_waitedByWays_27 : (decode cX11_waitedByWays 27 = .ok (.getfield 19, 3)) ∧ (decode cX11_waitedByWays 30 = .ok (.getfield 75, 3)) ∧ (decode cX11_waitedByWays 33 = .ok (.iload 5, 2)) ∧ (decode cX11_waitedByWays 35 = .ok (.aaload, 1)) ∧ (decode cX11_waitedByWays 36 = .ok (.iload_n 2, 1)) ∧ (decode cX11_waitedByWays 37 = .ok (.iload 5, 2)) ∧ (decode cX11_waitedByWays 39 = .ok (.ishr, 1)) ∧ (decode cX11_waitedByWays 40 = .ok (.iconst 1, 1)) ∧ (decode cX11_waitedByWays 41 = .ok (.iand, 1)) ∧ (decode cX11_waitedByWays 42 = .ok (.iconst 1, 1)) ∧ (decode cX11_waitedByWays 43 = .ok (.if_icmp .ne 7, 3)) ∧ (decode cX11_waitedByWays 46 = .ok (.iconst 1, 1)) ∧ (decode cX11_waitedByWays 47 = .ok (.goto 4, 3)) ∧ (decode cX11_waitedByWays 50 = .ok (.iconst 2, 1)) ∧ (decode cX11_waitedByWays 51 = .ok (.invokevirtual 87, 3)) ∧ (decode cX11_waitedByWays 54 = .ok (.iinc 5 1, 3)) := by decide +kernel
theorem dX11_waitedByWays_27 : decode cX11_waitedByWays 27 = .ok (.getfield 19, 3) := bdX11_waitedByWays_27.1
theorem dX11_waitedByWays_30 : decode cX11_waitedByWays 30 = .ok (.getfield 75, 3) := bdX11_waitedByWays_27.2.1
theorem dX11_waitedByWays_33 : decode cX11_waitedByWays 33 = .ok (.iload 5, 2) := bdX11_waitedByWays_27.2.2.1
theorem dX11_waitedByWays_35 : decode cX11_waitedByWays 35 = .ok (.aaload, 1) := bdX11_waitedByWays_27.2.2.2.1
theorem dX11_waitedByWays_36 : decode cX11_waitedByWays 36 = .ok (.iload_n 2, 1) := bdX11_waitedByWays_27.2.2.2.2.1
theorem dX11_waitedByWays_37 : decode cX11_waitedByWays 37 = .ok (.iload 5, 2) := bdX11_waitedByWays_27.2.2.2.2.2.1
theorem dX11_waitedByWays_39 : decode cX11_waitedByWays 39 = .ok (.ishr, 1) := bdX11_waitedByWays_27.2.2.2.2.2.2.1
theorem dX11_waitedByWays_40 : decode cX11_waitedByWays 40 = .ok (.iconst 1, 1) := bdX11_waitedByWays_27.2.2.2.2.2.2.2.1
theorem dX11_waitedByWays_41 : decode cX11_waitedByWays 41 = .ok (.iand, 1) := bdX11_waitedByWays_27.2.2.2.2.2.2.2.2.1
theorem dX11_waitedByWays_42 : decode cX11_waitedByWays 42 = .ok (.iconst 1, 1) := bdX11_waitedByWays_27.2.2.2.2.2.2.2.2.2.1
theorem dX11_waitedByWays_43 : decode cX11_waitedByWays 43 = .ok (.if_icmp .ne 7, 3) := bdX11_waitedByWays_27.2.2.2.2.2.2.2.2.2.2.1
theorem dX11_waitedByWays_46 : decode cX11_waitedByWays 46 = .ok (.iconst 1, 1) := bdX11_waitedByWays_27.2.2.2.2.2.2.2.2.2.2.2.1
theorem dX11_waitedByWays_47 : decode cX11_waitedByWays 47 = .ok (.goto 4, 3) := bdX11_waitedByWays_27.2.2.2.2.2.2.2.2.2.2.2.2.1
theorem dX11_waitedByWays_50 : decode cX11_waitedByWays 50 = .ok (.iconst 2, 1) := bdX11_waitedByWays_27.2.2.2.2.2.2.2.2.2.2.2.2.2.1
theorem dX11_waitedByWays_51 : decode cX11_waitedByWays 51 = .ok (.invokevirtual 87, 3) := bdX11_waitedByWays_27.2.2.2.2.2.2.2.2.2.2.2.2.2.2.1
theorem dX11_waitedByWays_54 : decode cX11_waitedByWays 54 = .ok (.iinc 5 1, 3) := bdX11_waitedByWays_27.2.2.2.2.2.2.2.2.2.2.2.2.2.2.2
theorem bdX11_waitedByWays_57 : (decode cX11_waitedByWays 57 = .ok (.goto (-48), 3)) ∧ (decode cX11_waitedByWays 60 = .ok (.iconst 0, 1)) ∧ (decode cX11_waitedByWays 61 = .ok (.istore 5, 2)) ∧ (decode cX11_waitedByWays 63 = .ok (.iload 5, 2)) ∧ (decode cX11_waitedByWays 65 = .ok (.iload_n 3, 1)) ∧ (decode cX11_waitedByWays 66 = .ok (.if_icmp .ge 22, 3)) ∧ (decode cX11_waitedByWays 69 = .ok (.aload_n 0, 1)) ∧ (decode cX11_waitedByWays 70 = .ok (.getfield 25, 3)) ∧ (decode cX11_waitedByWays 73 = .ok (.aload_n 0, 1)) ∧ (decode cX11_waitedByWays 74 = .ok (.getfield 19, 3)) ∧ (decode cX11_waitedByWays 77 = .ok (.aload 4, 2)) ∧ (decode cX11_waitedByWays 79 = .ok (.invokevirtual 169, 3)) ∧ (decode cX11_waitedByWays 82 = .ok (.iinc 5 1, 3)) ∧ (decode cX11_waitedByWays 85 = .ok (.goto (-22), 3)) ∧ (decode cX11_waitedByWays 88 = .ok (.aload_n 0, 1)) ∧ (decode cX11_waitedByWays 89 = .ok (.getfield 19, 3)) := by decide +kernel
theorem dX11_waitedByWays_57 : decode cX11_waitedByWays 57 = .ok (.goto (-48), 3) := bdX11_waitedByWays_57.1
theorem dX11_waitedByWays_60 : decode cX11_waitedByWays 60 = .ok (.iconst 0, 1) := bdX11_waitedByWays_57.2.1
theorem dX11_waitedByWays_61 : decode cX11_waitedByWays 61 = .ok (.istore 5, 2) := bdX11_waitedByWays_57.2.2.1
theorem dX11_waitedByWays_63 : decode cX11_waitedByWays 63 = .ok (.iload 5, 2) := bdX11_waitedByWays_57.2.2.2.1
theorem dX11_waitedByWays_65 : decode cX11_waitedByWays 65 = .ok (.iload_n 3, 1) := bdX11_waitedByWays_57.2.2.2.2.1
theorem dX11_waitedByWays_66 : decode cX11_waitedByWays 66 = .ok (.if_icmp .ge 22, 3) := bdX11_waitedByWays_57.2.2.2.2.2.1
theorem dX11_waitedByWays_69 : decode cX11_waitedByWays 69 = .ok (.aload_n 0, 1) := bdX11_waitedByWays_57.2.2.2.2.2.2.1
theorem dX11_waitedByWays_70 : decode cX11_waitedByWays 70 = .ok (.getfield 25, 3) := bdX11_waitedByWays_57.2.2.2.2.2.2.2.1
theorem dX11_waitedByWays_73 : decode cX11_waitedByWays 73 = .ok (.aload_n 0, 1) := bdX11_waitedByWays_57.2.2.2.2.2.2.2.2.1
theorem dX11_waitedByWays_74 : decode cX11_waitedByWays 74 = .ok (.getfield 19, 3) := bdX11_waitedByWays_57.2.2.2.2.2.2.2.2.2.1
theorem dX11_waitedByWays_77 : decode cX11_waitedByWays 77 = .ok (.aload 4, 2) := bdX11_waitedByWays_57.2.2.2.2.2.2.2.2.2.2.1
theorem dX11_waitedByWays_79 : decode cX11_waitedByWays 79 = .ok (.invokevirtual 169, 3) := bdX11_waitedByWays_57.2.2.2.2.2.2.2.2.2.2.2.1
theorem dX11_waitedByWays_82 : decode cX11_waitedByWays 82 = .ok (.iinc 5 1, 3) := bdX11_waitedByWays_57.2.2.2.2.2.2.2.2.2.2.2.2.1
theorem dX11_waitedByWays_85 : decode cX11_waitedByWays 85 = .ok (.goto (-22), 3) := bdX11_waitedByWays_57.2.2.2.2.2.2.2.2.2.2.2.2.2.1
theorem dX11_waitedByWays_88 : decode cX11_waitedByWays 88 = .ok (.aload_n 0, 1) := bdX11_waitedByWays_57.2.2.2.2.2.2.2.2.2.2.2.2.2.2.1
theorem dX11_waitedByWays_89 : decode cX11_waitedByWays 89 = .ok (.getfield 19, 3) := bdX11_waitedByWays_57.2.2.2.2.2.2.2.2.2.2.2.2.2.2.2
theorem bdX11_waitedByWays_92 : (decode cX11_waitedByWays 92 = .ok (.getfield 228, 3)) ∧ (decode cX11_waitedByWays 95 = .ok (.aload_n 0, 1)) ∧ (decode cX11_waitedByWays 96 = .ok (.getfield 10, 3)) ∧ (decode cX11_waitedByWays 99 = .ok (.getfield 228, 3)) ∧ (decode cX11_waitedByWays 102 = .ok (.isub, 1)) ∧ (decode cX11_waitedByWays 103 = .ok (.ireturn, 1)) := by decide +kernel
theorem dX11_waitedByWays_92 : decode cX11_waitedByWays 92 = .ok (.getfield 228, 3) := bdX11_waitedByWays_92.1
theorem dX11_waitedByWays_95 : decode cX11_waitedByWays 95 = .ok (.aload_n 0, 1) := bdX11_waitedByWays_92.2.1
theorem dX11_waitedByWays_96 : decode cX11_waitedByWays 96 = .ok (.getfield 10, 3) := bdX11_waitedByWays_92.2.2.1
theorem dX11_waitedByWays_99 : decode cX11_waitedByWays 99 = .ok (.getfield 228, 3) := bdX11_waitedByWays_92.2.2.2.1
theorem dX11_waitedByWays_102 : decode cX11_waitedByWays 102 = .ok (.isub, 1) := bdX11_waitedByWays_92.2.2.2.2.1
theorem dX11_waitedByWays_103 : decode cX11_waitedByWays 103 = .ok (.ireturn, 1) := bdX11_waitedByWays_92.2.2.2.2.2
theorem bdX11_ways_0 : (decode cX11_ways 0 = .ok (.iload_n 3, 1)) ∧ (decode cX11_ways 1 = .ok (.iconst 0, 1)) ∧ (decode cX11_ways 2 = .ok (.iconst 1, 1)) ∧ (decode cX11_ways 3 = .ok (.invokestatic 47, 3)) ∧ (decode cX11_ways 6 = .ok (.ifCond .eq 19, 3)) ∧ (decode cX11_ways 9 = .ok (.aload_n 0, 1)) ∧ (decode cX11_ways 10 = .ok (.iload_n 2, 1)) ∧ (decode cX11_ways 11 = .ok (.invokevirtual 159, 3)) ∧ (decode cX11_ways 14 = .ok (.ifCond .eq 11, 3)) ∧ (decode cX11_ways 17 = .ok (.aload_n 0, 1)) ∧ (decode cX11_ways 18 = .ok (.iload_n 1, 1)) ∧ (decode cX11_ways 19 = .ok (.invokevirtual 237, 3)) ∧ (decode cX11_ways 22 = .ok (.ifCond .ne 5, 3)) ∧ (decode cX11_ways 25 = .ok (.iconst (-1), 1)) ∧ (decode cX11_ways 26 = .ok (.ireturn, 1)) ∧ (decode cX11_ways 27 = .ok (.iconst 0, 1)) := by decide +kernel
theorem dX11_ways_0 : decode cX11_ways 0 = .ok (.iload_n 3, 1) := bdX11_ways_0.1
theorem dX11_ways_1 : decode cX11_ways 1 = .ok (.iconst 0, 1) := bdX11_ways_0.2.1
theorem dX11_ways_2 : decode cX11_ways 2 = .ok (.iconst 1, 1) := bdX11_ways_0.2.2.1
theorem dX11_ways_3 : decode cX11_ways 3 = .ok (.invokestatic 47, 3) := bdX11_ways_0.2.2.2.1
theorem dX11_ways_6 : decode cX11_ways 6 = .ok (.ifCond .eq 19, 3) := bdX11_ways_0.2.2.2.2.1
theorem dX11_ways_9 : decode cX11_ways 9 = .ok (.aload_n 0, 1) := bdX11_ways_0.2.2.2.2.2.1
theorem dX11_ways_10 : decode cX11_ways 10 = .ok (.iload_n 2, 1) := bdX11_ways_0.2.2.2.2.2.2.1
theorem dX11_ways_11 : decode cX11_ways 11 = .ok (.invokevirtual 159, 3) := bdX11_ways_0.2.2.2.2.2.2.2.1
theorem dX11_ways_14 : decode cX11_ways 14 = .ok (.ifCond .eq 11, 3) := bdX11_ways_0.2.2.2.2.2.2.2.2.1
theorem dX11_ways_17 : decode cX11_ways 17 = .ok (.aload_n 0, 1) := bdX11_ways_0.2.2.2.2.2.2.2.2.2.1
theorem dX11_ways_18 : decode cX11_ways 18 = .ok (.iload_n 1, 1) := bdX11_ways_0.2.2.2.2.2.2.2.2.2.2.1
theorem dX11_ways_19 : decode cX11_ways 19 = .ok (.invokevirtual 237, 3) := bdX11_ways_0.2.2.2.2.2.2.2.2.2.2.2.1
theorem dX11_ways_22 : decode cX11_ways 22 = .ok (.ifCond .ne 5, 3) := bdX11_ways_0.2.2.2.2.2.2.2.2.2.2.2.2.1
theorem dX11_ways_25 : decode cX11_ways 25 = .ok (.iconst (-1), 1) := bdX11_ways_0.2.2.2.2.2.2.2.2.2.2.2.2.2.1
theorem dX11_ways_26 : decode cX11_ways 26 = .ok (.ireturn, 1) := bdX11_ways_0.2.2.2.2.2.2.2.2.2.2.2.2.2.2.1
theorem dX11_ways_27 : decode cX11_ways 27 = .ok (.iconst 0, 1) := bdX11_ways_0.2.2.2.2.2.2.2.2.2.2.2.2.2.2.2
theorem bdX11_ways_28 : (decode cX11_ways 28 = .ok (.istore 4, 2)) ∧ (decode cX11_ways 30 = .ok (.aload_n 0, 1)) ∧ (decode cX11_ways 31 = .ok (.iload_n 1, 1)) ∧ (decode cX11_ways 32 = .ok (.iconst 0, 1)) ∧ (decode cX11_ways 33 = .ok (.iload_n 2, 1)) ∧ (decode cX11_ways 34 = .ok (.invokevirtual 240, 3)) ∧ (decode cX11_ways 37 = .ok (.istore 5, 2)) ∧ (decode cX11_ways 39 = .ok (.iconst 0, 1)) ∧ (decode cX11_ways 40 = .ok (.istore 6, 2)) ∧ (decode cX11_ways 42 = .ok (.iconst 1, 1)) ∧ (decode cX11_ways 43 = .ok (.istore 7, 2)) ∧ (decode cX11_ways 45 = .ok (.iload 7, 2)) ∧ (decode cX11_ways 47 = .ok (.bipush 32, 2)) ∧ (decode cX11_ways 49 = .ok (.if_icmp .ge 50, 3)) ∧ (decode cX11_ways 52 = .ok (.iload 6, 2)) ∧ (decode cX11_ways 54 = .ok (.iload_n 1, 1)) := by decide +kernel
theorem dX11_ways_28 : decode cX11_ways 28 = .ok (.istore 4, 2) := bdX11_ways_28.1
theorem dX11_ways_30 : decode cX11_ways 30 = .ok (.aload_n 0, 1) := bdX11_ways_28.2.1
theorem dX11_ways_31 : decode cX11_ways 31 = .ok (.iload_n 1, 1) := bdX11_ways_28.2.2.1
theorem dX11_ways_32 : decode cX11_ways 32 = .ok (.iconst 0, 1) := bdX11_ways_28.2.2.2.1
theorem dX11_ways_33 : decode cX11_ways 33 = .ok (.iload_n 2, 1) := bdX11_ways_28.2.2.2.2.1
theorem dX11_ways_34 : decode cX11_ways 34 = .ok (.invokevirtual 240, 3) := bdX11_ways_28.2.2.2.2.2.1
theorem dX11_ways_37 : decode cX11_ways 37 = .ok (.istore 5, 2) := bdX11_ways_28.2.2.2.2.2.2.1
theorem dX11_ways_39 : decode cX11_ways 39 = .ok (.iconst 0, 1) := bdX11_ways_28.2.2.2.2.2.2.2.1
theorem dX11_ways_40 : decode cX11_ways 40 = .ok (.istore 6, 2) := bdX11_ways_28.2.2.2.2.2.2.2.2.1
theorem dX11_ways_42 : decode cX11_ways 42 = .ok (.iconst 1, 1) := bdX11_ways_28.2.2.2.2.2.2.2.2.2.1
theorem dX11_ways_43 : decode cX11_ways 43 = .ok (.istore 7, 2) := bdX11_ways_28.2.2.2.2.2.2.2.2.2.2.1
theorem dX11_ways_45 : decode cX11_ways 45 = .ok (.iload 7, 2) := bdX11_ways_28.2.2.2.2.2.2.2.2.2.2.2.1
theorem dX11_ways_47 : decode cX11_ways 47 = .ok (.bipush 32, 2) := bdX11_ways_28.2.2.2.2.2.2.2.2.2.2.2.2.1
theorem dX11_ways_49 : decode cX11_ways 49 = .ok (.if_icmp .ge 50, 3) := bdX11_ways_28.2.2.2.2.2.2.2.2.2.2.2.2.2.1
theorem dX11_ways_52 : decode cX11_ways 52 = .ok (.iload 6, 2) := bdX11_ways_28.2.2.2.2.2.2.2.2.2.2.2.2.2.2.1
theorem dX11_ways_54 : decode cX11_ways 54 = .ok (.iload_n 1, 1) := bdX11_ways_28.2.2.2.2.2.2.2.2.2.2.2.2.2.2.2
theorem bdX11_ways_55 : (decode cX11_ways 55 = .ok (.isub, 1)) ∧ (decode cX11_ways 56 = .ok (.iload_n 1, 1)) ∧ (decode cX11_ways 57 = .ok (.iand, 1)) ∧ (decode cX11_ways 58 = .ok (.istore 6, 2)) ∧ (decode cX11_ways 60 = .ok (.iload 6, 2)) ∧ (decode cX11_ways 62 = .ok (.ifCond .ne 6, 3)) ∧ (decode cX11_ways 65 = .ok (.goto 34, 3)) ∧ (decode cX11_ways 68 = .ok (.aload_n 0, 1)) ∧ (decode cX11_ways 69 = .ok (.iload_n 1, 1)) ∧ (decode cX11_ways 70 = .ok (.iload 6, 2)) ∧ (decode cX11_ways 72 = .ok (.iload_n 2, 1)) ∧ (decode cX11_ways 73 = .ok (.invokevirtual 240, 3)) ∧ (decode cX11_ways 76 = .ok (.istore 8, 2)) ∧ (decode cX11_ways 78 = .ok (.iload 8, 2)) ∧ (decode cX11_ways 80 = .ok (.iload 5, 2)) ∧ (decode cX11_ways 82 = .ok (.if_icmp .ge 11, 3)) := by decide +kernel
theorem dX11_ways_55 : decode cX11_ways 55 = .ok (.isub, 1) := bdX11_ways_55.1
theorem dX11_ways_56 : decode cX11_ways 56 = .ok (.iload_n 1, 1) := bdX11_ways_55.2.1
theorem dX11_ways_57 : decode cX11_ways 57 = .ok (.iand, 1) := bdX11_ways_55.2.2.1
theorem dX11_ways_58 : decode cX11_ways 58 = .ok (.istore 6, 2) := bdX11_ways_55.2.2.2.1
theorem dX11_ways_60 : decode cX11_ways 60 = .ok (.iload 6, 2) := bdX11_ways_55.2.2.2.2.1
theorem dX11_ways_62 : decode cX11_ways 62 = .ok (.ifCond .ne 6, 3) := bdX11_ways_55.2.2.2.2.2.1
theorem dX11_ways_65 : decode cX11_ways 65 = .ok (.goto 34, 3) := bdX11_ways_55.2.2.2.2.2.2.1
theorem dX11_ways_68 : decode cX11_ways 68 = .ok (.aload_n 0, 1) := bdX11_ways_55.2.2.2.2.2.2.2.1
theorem dX11_ways_69 : decode cX11_ways 69 = .ok (.iload_n 1, 1) := bdX11_ways_55.2.2.2.2.2.2.2.2.1
theorem dX11_ways_70 : decode cX11_ways 70 = .ok (.iload 6, 2) := bdX11_ways_55.2.2.2.2.2.2.2.2.2.1
theorem dX11_ways_72 : decode cX11_ways 72 = .ok (.iload_n 2, 1) := bdX11_ways_55.2.2.2.2.2.2.2.2.2.2.1
theorem dX11_ways_73 : decode cX11_ways 73 = .ok (.invokevirtual 240, 3) := bdX11_ways_55.2.2.2.2.2.2.2.2.2.2.2.1
theorem dX11_ways_76 : decode cX11_ways 76 = .ok (.istore 8, 2) := bdX11_ways_55.2.2.2.2.2.2.2.2.2.2.2.2.1
theorem dX11_ways_78 : decode cX11_ways 78 = .ok (.iload 8, 2) := bdX11_ways_55.2.2.2.2.2.2.2.2.2.2.2.2.2.1
theorem dX11_ways_80 : decode cX11_ways 80 = .ok (.iload 5, 2) := bdX11_ways_55.2.2.2.2.2.2.2.2.2.2.2.2.2.2.1
theorem dX11_ways_82 : decode cX11_ways 82 = .ok (.if_icmp .ge 11, 3) := bdX11_ways_55.2.2.2.2.2.2.2.2.2.2.2.2.2.2.2
theorem bdX11_ways_85 : (decode cX11_ways 85 = .ok (.iload 6, 2)) ∧ (decode cX11_ways 87 = .ok (.istore 4, 2)) ∧ (decode cX11_ways 89 = .ok (.iload 8, 2)) ∧ (decode cX11_ways 91 = .ok (.istore 5, 2)) ∧ (decode cX11_ways 93 = .ok (.iinc 7 1, 3)) ∧ (decode cX11_ways 96 = .ok (.goto (-51), 3)) ∧ (decode cX11_ways 99 = .ok (.iload_n 3, 1)) ∧ (decode cX11_ways 100 = .ok (.ifCond .ne 8, 3)) ∧ (decode cX11_ways 103 = .ok (.iload 4, 2)) ∧ (decode cX11_ways 105 = .ok (.goto 5, 3)) ∧ (decode cX11_ways 108 = .ok (.iload 5, 2)) ∧ (decode cX11_ways 110 = .ok (.ireturn, 1)) := by decide +kernel
theorem dX11_ways_85 : decode cX11_ways 85 = .ok (.iload 6, 2) := bdX11_ways_85.1
theorem dX11_ways_87 : decode cX11_ways 87 = .ok (.istore 4, 2) := bdX11_ways_85.2.1
theorem dX11_ways_89 : decode cX11_ways 89 = .ok (.iload 8, 2) := bdX11_ways_85.2.2.1
theorem dX11_ways_91 : decode cX11_ways 91 = .ok (.istore 5, 2) := bdX11_ways_85.2.2.2.1
theorem dX11_ways_93 : decode cX11_ways 93 = .ok (.iinc 7 1, 3) := bdX11_ways_85.2.2.2.2.1
theorem dX11_ways_96 : decode cX11_ways 96 = .ok (.goto (-51), 3) := bdX11_ways_85.2.2.2.2.2.1
theorem dX11_ways_99 : decode cX11_ways 99 = .ok (.iload_n 3, 1) := bdX11_ways_85.2.2.2.2.2.2.1
theorem dX11_ways_100 : decode cX11_ways 100 = .ok (.ifCond .ne 8, 3) := bdX11_ways_85.2.2.2.2.2.2.2.1
theorem dX11_ways_103 : decode cX11_ways 103 = .ok (.iload 4, 2) := bdX11_ways_85.2.2.2.2.2.2.2.2.1
theorem dX11_ways_105 : decode cX11_ways 105 = .ok (.goto 5, 3) := bdX11_ways_85.2.2.2.2.2.2.2.2.2.1
theorem dX11_ways_108 : decode cX11_ways 108 = .ok (.iload 5, 2) := bdX11_ways_85.2.2.2.2.2.2.2.2.2.2.1
theorem dX11_ways_110 : decode cX11_ways 110 = .ok (.ireturn, 1) := bdX11_ways_85.2.2.2.2.2.2.2.2.2.2.2
theorem bdX12_areStairs_0 : (decode cX12_areStairs 0 = .ok (.iconst 0, 1)) ∧ (decode cX12_areStairs 1 = .ok (.istore_n 2, 1)) ∧ (decode cX12_areStairs 2 = .ok (.iload_n 1, 1)) ∧ (decode cX12_areStairs 3 = .ok (.ifCond .le 19, 3)) ∧ (decode cX12_areStairs 6 = .ok (.iload_n 1, 1)) ∧ (decode cX12_areStairs 7 = .ok (.iconst 1, 1)) ∧ (decode cX12_areStairs 8 = .ok (.aload_n 0, 1)) ∧ (decode cX12_areStairs 9 = .ok (.getfield 7, 3)) ∧ (decode cX12_areStairs 12 = .ok (.iconst 2, 1)) ∧ (decode cX12_areStairs 13 = .ok (.iaload, 1)) ∧ (decode cX12_areStairs 14 = .ok (.ishl, 1)) ∧ (decode cX12_areStairs 15 = .ok (.if_icmp .ge 7, 3)) ∧ (decode cX12_areStairs 18 = .ok (.iconst 1, 1)) ∧ (decode cX12_areStairs 19 = .ok (.goto 4, 3)) ∧ (decode cX12_areStairs 22 = .ok (.iconst 0, 1)) ∧ (decode cX12_areStairs 23 = .ok (.istore_n 3, 1)) := by decide +kernel
theorem dX12_areStairs_0 : decode cX12_areStairs 0 = .ok (.iconst 0, 1) := bdX12_areStairs_0.1
theorem dX12_areStairs_1 : decode cX12_areStairs 1 = .ok (.istore_n 2, 1) := bdX12_areStairs_0.2.1
theorem dX12_areStairs_2 : decode cX12_areStairs 2 = .ok (.iload_n 1, 1) := bdX12_areStairs_0.2.2.1
theorem dX12_areStairs_3 : decode cX12_areStairs 3 = .ok (.ifCond .le 19, 3) := bdX12_areStairs_0.2.2.2.1
theorem dX12_areStairs_6 : decode cX12_areStairs 6 = .ok (.iload_n 1, 1) := bdX12_areStairs_0.2.2.2.2.1
theorem dX12_areStairs_7 : decode cX12_areStairs 7 = .ok (.iconst 1, 1) := bdX12_areStairs_0.2.2.2.2.2.1
theorem dX12_areStairs_8 : decode cX12_areStairs 8 = .ok (.aload_n 0, 1) := bdX12_areStairs_0.2.2.2.2.2.2.1
theorem dX12_areStairs_9 : decode cX12_areStairs 9 = .ok (.getfield 7, 3) := bdX12_areStairs_0.2.2.2.2.2.2.2.1
theorem dX12_areStairs_12 : decode cX12_areStairs 12 = .ok (.iconst 2, 1) := bdX12_areStairs_0.2.2.2.2.2.2.2.2.1
theorem dX12_areStairs_13 : decode cX12_areStairs 13 = .ok (.iaload, 1) := bdX12_areStairs_0.2.2.2.2.2.2.2.2.2.1
theorem dX12_areStairs_14 : decode cX12_areStairs 14 = .ok (.ishl, 1) := bdX12_areStairs_0.2.2.2.2.2.2.2.2.2.2.1
theorem dX12_areStairs_15 : decode cX12_areStairs 15 = .ok (.if_icmp .ge 7, 3) := bdX12_areStairs_0.2.2.2.2.2.2.2.2.2.2.2.1
theorem dX12_areStairs_18 : decode cX12_areStairs 18 = .ok (.iconst 1, 1) := bdX12_areStairs_0.2.2.2.2.2.2.2.2.2.2.2.2.1
theorem dX12_areStairs_19 : decode cX12_areStairs 19 = .ok (.goto 4, 3) := bdX12_areStairs_0.2.2.2.2.2.2.2.2.2.2.2.2.2.1
theorem dX12_areStairs_22 : decode cX12_areStairs 22 = .ok (.iconst 0, 1) := bdX12_areStairs_0.2.2.2.2.2.2.2.2.2.2.2.2.2.2.1
theorem dX12_areStairs_23 : decode cX12_areStairs 23 = .ok (.istore_n 3, 1) := bdX12_areStairs_0.2.2.2.2.2.2.2.2.2.2.2.2.2.2.2
theorem bdX12_areStairs_24 : (decode cX12_areStairs 24 = .ok (.iconst 0, 1)) ∧ (decode cX12_areStairs 25 = .ok (.istore 4, 2)) ∧ (decode cX12_areStairs 27 = .ok (.iload 4, 2)) ∧ (decode cX12_areStairs 29 = .ok (.bipush 10, 2)) ∧ (decode cX12_areStairs 31 = .ok (.if_icmp .ge 33, 3)) ∧ (decode cX12_areStairs 34 = .ok (.iload_n 3, 1)) ∧ (decode cX12_areStairs 35 = .ok (.ifCond .eq 29, 3)) ∧ (decode cX12_areStairs 38 = .ok (.iload_n 1, 1)) ∧ (decode cX12_areStairs 39 = .ok (.iload 4, 2)) ∧ (decode cX12_areStairs 41 = .ok (.ishr, 1)) ∧ (decode cX12_areStairs 42 = .ok (.iconst 1, 1)) ∧ (decode cX12_areStairs 43 = .ok (.iand, 1)) ∧ (decode cX12_areStairs 44 = .ok (.iconst 1, 1)) ∧ (decode cX12_areStairs 45 = .ok (.if_icmp .ne 13, 3)) ∧ (decode cX12_areStairs 48 = .ok (.aload_n 0, 1)) ∧ (decode cX12_areStairs 49 = .ok (.iload 4, 2)) := by decide +kernel
theorem dX12_areStairs_24 : decode cX12_areStairs 24 = .ok (.iconst 0, 1) := bdX12_areStairs_24.1
theorem dX12_areStairs_25 : decode cX12_areStairs 25 = .ok (.istore 4, 2) := bdX12_areStairs_24.2.1
theorem dX12_areStairs_27 : decode cX12_areStairs 27 = .ok (.iload 4, 2) := bdX12_areStairs_24.2.2.1
theorem dX12_areStairs_29 : decode cX12_areStairs 29 = .ok (.bipush 10, 2) := bdX12_areStairs_24.2.2.2.1
theorem dX12_areStairs_31 : decode cX12_areStairs 31 = .ok (.if_icmp .ge 33, 3) := bdX12_areStairs_24.2.2.2.2.1
theorem dX12_areStairs_34 : decode cX12_areStairs 34 = .ok (.iload_n 3, 1) := bdX12_areStairs_24.2.2.2.2.2.1
theorem dX12_areStairs_35 : decode cX12_areStairs 35 = .ok (.ifCond .eq 29, 3) := bdX12_areStairs_24.2.2.2.2.2.2.1
theorem dX12_areStairs_38 : decode cX12_areStairs 38 = .ok (.iload_n 1, 1) := bdX12_areStairs_24.2.2.2.2.2.2.2.1
theorem dX12_areStairs_39 : decode cX12_areStairs 39 = .ok (.iload 4, 2) := bdX12_areStairs_24.2.2.2.2.2.2.2.2.1
theorem dX12_areStairs_41 : decode cX12_areStairs 41 = .ok (.ishr, 1) := bdX12_areStairs_24.2.2.2.2.2.2.2.2.2.1
theorem dX12_areStairs_42 : decode cX12_areStairs 42 = .ok (.iconst 1, 1) := bdX12_areStairs_24.2.2.2.2.2.2.2.2.2.2.1
theorem dX12_areStairs_43 : decode cX12_areStairs 43 = .ok (.iand, 1) := bdX12_areStairs_24.2.2.2.2.2.2.2.2.2.2.2.1
theorem dX12_areStairs_44 : decode cX12_areStairs 44 = .ok (.iconst 1, 1) := bdX12_areStairs_24.2.2.2.2.2.2.2.2.2.2.2.2.1
theorem dX12_areStairs_45 : decode cX12_areStairs 45 = .ok (.if_icmp .ne 13, 3) := bdX12_areStairs_24.2.2.2.2.2.2.2.2.2.2.2.2.2.1
theorem dX12_areStairs_48 : decode cX12_areStairs 48 = .ok (.aload_n 0, 1) := bdX12_areStairs_24.2.2.2.2.2.2.2.2.2.2.2.2.2.2.1
theorem dX12_areStairs_49 : decode cX12_areStairs 49 = .ok (.iload 4, 2) := bdX12_areStairs_24.2.2.2.2.2.2.2.2.2.2.2.2.2.2.2
theorem bdX12_areStairs_51 : (decode cX12_areStairs 51 = .ok (.invokevirtual 114, 3)) ∧ (decode cX12_areStairs 54 = .ok (.istore_n 3, 1)) ∧ (decode cX12_areStairs 55 = .ok (.iinc 2 1, 3)) ∧ (decode cX12_areStairs 58 = .ok (.iinc 4 1, 3)) ∧ (decode cX12_areStairs 61 = .ok (.goto (-34), 3)) ∧ (decode cX12_areStairs 64 = .ok (.iload_n 3, 1)) ∧ (decode cX12_areStairs 65 = .ok (.ifCond .eq 13, 3)) ∧ (decode cX12_areStairs 68 = .ok (.iload_n 2, 1)) ∧ (decode cX12_areStairs 69 = .ok (.bipush 6, 2)) ∧ (decode cX12_areStairs 71 = .ok (.if_icmp .ge 7, 3)) ∧ (decode cX12_areStairs 74 = .ok (.iconst 1, 1)) ∧ (decode cX12_areStairs 75 = .ok (.goto 4, 3)) ∧ (decode cX12_areStairs 78 = .ok (.iconst 0, 1)) ∧ (decode cX12_areStairs 79 = .ok (.ireturn, 1)) := by decide +kernel
theorem dX12_areStairs_51 : decode cX12_areStairs 51 = .ok (.invokevirtual 114, 3) := bdX12_areStairs_51.1
theorem dX12_areStairs_54 : decode cX12_areStairs 54 = .ok (.istore_n 3, 1) := bdX12_areStairs_51.2.1
theorem dX12_areStairs_55 : decode cX12_areStairs 55 = .ok (.iinc 2 1, 3) := bdX12_areStairs_51.2.2.1
theorem dX12_areStairs_58 : decode cX12_areStairs 58 = .ok (.iinc 4 1, 3) := bdX12_areStairs_51.2.2.2.1
theorem dX12_areStairs_61 : decode cX12_areStairs 61 = .ok (.goto (-34), 3) := bdX12_areStairs_51.2.2.2.2.1
theorem dX12_areStairs_64 : decode cX12_areStairs 64 = .ok (.iload_n 3, 1) := bdX12_areStairs_51.2.2.2.2.2.1
theorem dX12_areStairs_65 : decode cX12_areStairs 65 = .ok (.ifCond .eq 13, 3) := bdX12_areStairs_51.2.2.2.2.2.2.1
theorem dX12_areStairs_68 : decode cX12_areStairs 68 = .ok (.iload_n 2, 1) := bdX12_areStairs_51.2.2.2.2.2.2.2.1
theorem dX12_areStairs_69 : decode cX12_areStairs 69 = .ok (.bipush 6, 2) := bdX12_areStairs_51.2.2.2.2.2.2.2.2.1
theorem dX12_areStairs_71 : decode cX12_areStairs 71 = .ok (.if_icmp .ge 7, 3) := bdX12_areStairs_51.2.2.2.2.2.2.2.2.2.1
theorem dX12_areStairs_74 : decode cX12_areStairs 74 = .ok (.iconst 1, 1) := bdX12_areStairs_51.2.2.2.2.2.2.2.2.2.2.1
theorem dX12_areStairs_75 : decode cX12_areStairs 75 = .ok (.goto 4, 3) := bdX12_areStairs_51.2.2.2.2.2.2.2.2.2.2.2.1
theorem dX12_areStairs_78 : decode cX12_areStairs 78 = .ok (.iconst 0, 1) := bdX12_areStairs_51.2.2.2.2.2.2.2.2.2.2.2.2.1
theorem dX12_areStairs_79 : decode cX12_areStairs 79 = .ok (.ireturn, 1) := bdX12_areStairs_51.2.2.2.2.2.2.2.2.2.2.2.2.2
theorem bdX12_saves_0 : (decode cX12_saves 0 = .ok (.iconst 0, 1)) ∧ (decode cX12_saves 1 = .ok (.istore_n 1, 1)) ∧ (decode cX12_saves 2 = .ok (.iload_n 1, 1)) ∧ (decode cX12_saves 3 = .ok (.sipush 1610, 3)) ∧ (decode cX12_saves 6 = .ok (.if_icmp .ge 21, 3)) ∧ (decode cX12_saves 9 = .ok (.aload_n 0, 1)) ∧ (decode cX12_saves 10 = .ok (.getfield 16, 3)) ∧ (decode cX12_saves 13 = .ok (.iload_n 1, 1)) ∧ (decode cX12_saves 14 = .ok (.aload_n 0, 1)) ∧ (decode cX12_saves 15 = .ok (.getfield 7, 3)) ∧ (decode cX12_saves 18 = .ok (.iload_n 1, 1)) ∧ (decode cX12_saves 19 = .ok (.iaload, 1)) ∧ (decode cX12_saves 20 = .ok (.iastore, 1)) ∧ (decode cX12_saves 21 = .ok (.iinc 1 1, 3)) ∧ (decode cX12_saves 24 = .ok (.goto (-22), 3)) ∧ (decode cX12_saves 27 = .ok (.return_, 1)) := by decide +kernel
theorem dX12_saves_0 : decode cX12_saves 0 = .ok (.iconst 0, 1) := bdX12_saves_0.1
theorem dX12_saves_1 : decode cX12_saves 1 = .ok (.istore_n 1, 1) := bdX12_saves_0.2.1
theorem dX12_saves_2 : decode cX12_saves 2 = .ok (.iload_n 1, 1) := bdX12_saves_0.2.2.1
theorem dX12_saves_3 : decode cX12_saves 3 = .ok (.sipush 1610, 3) := bdX12_saves_0.2.2.2.1
theorem dX12_saves_6 : decode cX12_saves 6 = .ok (.if_icmp .ge 21, 3) := bdX12_saves_0.2.2.2.2.1
theorem dX12_saves_9 : decode cX12_saves 9 = .ok (.aload_n 0, 1) := bdX12_saves_0.2.2.2.2.2.1
theorem dX12_saves_10 : decode cX12_saves 10 = .ok (.getfield 16, 3) := bdX12_saves_0.2.2.2.2.2.2.1
theorem dX12_saves_13 : decode cX12_saves 13 = .ok (.iload_n 1, 1) := bdX12_saves_0.2.2.2.2.2.2.2.1
theorem dX12_saves_14 : decode cX12_saves 14 = .ok (.aload_n 0, 1) := bdX12_saves_0.2.2.2.2.2.2.2.2.1
theorem dX12_saves_15 : decode cX12_saves 15 = .ok (.getfield 7, 3) := bdX12_saves_0.2.2.2.2.2.2.2.2.2.1
theorem dX12_saves_18 : decode cX12_saves 18 = .ok (.iload_n 1, 1) := bdX12_saves_0.2.2.2.2.2.2.2.2.2.2.1
theorem dX12_saves_19 : decode cX12_saves 19 = .ok (.iaload, 1) := bdX12_saves_0.2.2.2.2.2.2.2.2.2.2.2.1
theorem dX12_saves_20 : decode cX12_saves 20 = .ok (.iastore, 1) := bdX12_saves_0.2.2.2.2.2.2.2.2.2.2.2.2.1
theorem dX12_saves_21 : decode cX12_saves 21 = .ok (.iinc 1 1, 3) := bdX12_saves_0.2.2.2.2.2.2.2.2.2.2.2.2.2.1
theorem dX12_saves_24 : decode cX12_saves 24 = .ok (.goto (-22), 3) := bdX12_saves_0.2.2.2.2.2.2.2.2.2.2.2.2.2.2.1
theorem dX12_saves_27 : decode cX12_saves 27 = .ok (.return_, 1) := bdX12_saves_0.2.2.2.2.2.2.2.2.2.2.2.2.2.2.2
theorem bdX12_runs_0 : (decode cX12_runs 0 = .ok (.iconst 0, 1)) ∧ (decode cX12_runs 1 = .ok (.istore_n 2, 1)) ∧ (decode cX12_runs 2 = .ok (.iload_n 2, 1)) ∧ (decode cX12_runs 3 = .ok (.iload_n 1, 1)) ∧ (decode cX12_runs 4 = .ok (.if_icmp .ge 13, 3)) ∧ (decode cX12_runs 7 = .ok (.aload_n 0, 1)) ∧ (decode cX12_runs 8 = .ok (.invokevirtual 380, 3)) ∧ (decode cX12_runs 11 = .ok (.iinc 2 1, 3)) ∧ (decode cX12_runs 14 = .ok (.goto (-12), 3)) ∧ (decode cX12_runs 17 = .ok (.return_, 1)) := by decide +kernel
theorem dX12_runs_0 : decode cX12_runs 0 = .ok (.iconst 0, 1) := bdX12_runs_0.1
theorem dX12_runs_1 : decode cX12_runs 1 = .ok (.istore_n 2, 1) := bdX12_runs_0.2.1
theorem dX12_runs_2 : decode cX12_runs 2 = .ok (.iload_n 2, 1) := bdX12_runs_0.2.2.1
theorem dX12_runs_3 : decode cX12_runs 3 = .ok (.iload_n 1, 1) := bdX12_runs_0.2.2.2.1
theorem dX12_runs_4 : decode cX12_runs 4 = .ok (.if_icmp .ge 13, 3) := bdX12_runs_0.2.2.2.2.1
theorem dX12_runs_7 : decode cX12_runs 7 = .ok (.aload_n 0, 1) := bdX12_runs_0.2.2.2.2.2.1
theorem dX12_runs_8 : decode cX12_runs 8 = .ok (.invokevirtual 380, 3) := bdX12_runs_0.2.2.2.2.2.2.1
theorem dX12_runs_11 : decode cX12_runs 11 = .ok (.iinc 2 1, 3) := bdX12_runs_0.2.2.2.2.2.2.2.1
theorem dX12_runs_14 : decode cX12_runs 14 = .ok (.goto (-12), 3) := bdX12_runs_0.2.2.2.2.2.2.2.2.1
theorem dX12_runs_17 : decode cX12_runs 17 = .ok (.return_, 1) := bdX12_runs_0.2.2.2.2.2.2.2.2.2
theorem bdX12_putsBack_0 : (decode cX12_putsBack 0 = .ok (.iconst 0, 1)) ∧ (decode cX12_putsBack 1 = .ok (.istore_n 1, 1)) ∧ (decode cX12_putsBack 2 = .ok (.iload_n 1, 1)) ∧ (decode cX12_putsBack 3 = .ok (.sipush 1610, 3)) ∧ (decode cX12_putsBack 6 = .ok (.if_icmp .ge 21, 3)) ∧ (decode cX12_putsBack 9 = .ok (.aload_n 0, 1)) ∧ (decode cX12_putsBack 10 = .ok (.getfield 7, 3)) ∧ (decode cX12_putsBack 13 = .ok (.iload_n 1, 1)) ∧ (decode cX12_putsBack 14 = .ok (.aload_n 0, 1)) ∧ (decode cX12_putsBack 15 = .ok (.getfield 16, 3)) ∧ (decode cX12_putsBack 18 = .ok (.iload_n 1, 1)) ∧ (decode cX12_putsBack 19 = .ok (.iaload, 1)) ∧ (decode cX12_putsBack 20 = .ok (.iastore, 1)) ∧ (decode cX12_putsBack 21 = .ok (.iinc 1 1, 3)) ∧ (decode cX12_putsBack 24 = .ok (.goto (-22), 3)) ∧ (decode cX12_putsBack 27 = .ok (.return_, 1)) := by decide +kernel
theorem dX12_putsBack_0 : decode cX12_putsBack 0 = .ok (.iconst 0, 1) := bdX12_putsBack_0.1
theorem dX12_putsBack_1 : decode cX12_putsBack 1 = .ok (.istore_n 1, 1) := bdX12_putsBack_0.2.1
theorem dX12_putsBack_2 : decode cX12_putsBack 2 = .ok (.iload_n 1, 1) := bdX12_putsBack_0.2.2.1
theorem dX12_putsBack_3 : decode cX12_putsBack 3 = .ok (.sipush 1610, 3) := bdX12_putsBack_0.2.2.2.1
theorem dX12_putsBack_6 : decode cX12_putsBack 6 = .ok (.if_icmp .ge 21, 3) := bdX12_putsBack_0.2.2.2.2.1
theorem dX12_putsBack_9 : decode cX12_putsBack 9 = .ok (.aload_n 0, 1) := bdX12_putsBack_0.2.2.2.2.2.1
theorem dX12_putsBack_10 : decode cX12_putsBack 10 = .ok (.getfield 7, 3) := bdX12_putsBack_0.2.2.2.2.2.2.1
theorem dX12_putsBack_13 : decode cX12_putsBack 13 = .ok (.iload_n 1, 1) := bdX12_putsBack_0.2.2.2.2.2.2.2.1
theorem dX12_putsBack_14 : decode cX12_putsBack 14 = .ok (.aload_n 0, 1) := bdX12_putsBack_0.2.2.2.2.2.2.2.2.1
theorem dX12_putsBack_15 : decode cX12_putsBack 15 = .ok (.getfield 16, 3) := bdX12_putsBack_0.2.2.2.2.2.2.2.2.2.1
theorem dX12_putsBack_18 : decode cX12_putsBack 18 = .ok (.iload_n 1, 1) := bdX12_putsBack_0.2.2.2.2.2.2.2.2.2.2.1
theorem dX12_putsBack_19 : decode cX12_putsBack 19 = .ok (.iaload, 1) := bdX12_putsBack_0.2.2.2.2.2.2.2.2.2.2.2.1
theorem dX12_putsBack_20 : decode cX12_putsBack 20 = .ok (.iastore, 1) := bdX12_putsBack_0.2.2.2.2.2.2.2.2.2.2.2.2.1
theorem dX12_putsBack_21 : decode cX12_putsBack 21 = .ok (.iinc 1 1, 3) := bdX12_putsBack_0.2.2.2.2.2.2.2.2.2.2.2.2.2.1
theorem dX12_putsBack_24 : decode cX12_putsBack 24 = .ok (.goto (-22), 3) := bdX12_putsBack_0.2.2.2.2.2.2.2.2.2.2.2.2.2.2.1
theorem dX12_putsBack_27 : decode cX12_putsBack 27 = .ok (.return_, 1) := bdX12_putsBack_0.2.2.2.2.2.2.2.2.2.2.2.2.2.2.2
theorem bdX12_ways_0 : (decode cX12_ways 0 = .ok (.aload_n 0, 1)) ∧ (decode cX12_ways 1 = .ok (.iload_n 1, 1)) ∧ (decode cX12_ways 2 = .ok (.invokevirtual 383, 3)) ∧ (decode cX12_ways 5 = .ok (.ifCond .eq 20, 3)) ∧ (decode cX12_ways 8 = .ok (.aload_n 0, 1)) ∧ (decode cX12_ways 9 = .ok (.iload_n 2, 1)) ∧ (decode cX12_ways 10 = .ok (.invokevirtual 377, 3)) ∧ (decode cX12_ways 13 = .ok (.ifCond .eq 12, 3)) ∧ (decode cX12_ways 16 = .ok (.iload_n 3, 1)) ∧ (decode cX12_ways 17 = .ok (.iconst 0, 1)) ∧ (decode cX12_ways 18 = .ok (.iconst 1, 1)) ∧ (decode cX12_ways 19 = .ok (.invokestatic 95, 3)) ∧ (decode cX12_ways 22 = .ok (.ifCond .ne 5, 3)) ∧ (decode cX12_ways 25 = .ok (.iconst (-1), 1)) ∧ (decode cX12_ways 26 = .ok (.ireturn, 1)) ∧ (decode cX12_ways 27 = .ok (.aload_n 0, 1)) := by decide +kernel
theorem dX12_ways_0 : decode cX12_ways 0 = .ok (.aload_n 0, 1) := bdX12_ways_0.1
theorem dX12_ways_1 : decode cX12_ways 1 = .ok (.iload_n 1, 1) := bdX12_ways_0.2.1
theorem dX12_ways_2 : decode cX12_ways 2 = .ok (.invokevirtual 383, 3) := bdX12_ways_0.2.2.1
theorem dX12_ways_5 : decode cX12_ways 5 = .ok (.ifCond .eq 20, 3) := bdX12_ways_0.2.2.2.1
theorem dX12_ways_8 : decode cX12_ways 8 = .ok (.aload_n 0, 1) := bdX12_ways_0.2.2.2.2.1
theorem dX12_ways_9 : decode cX12_ways 9 = .ok (.iload_n 2, 1) := bdX12_ways_0.2.2.2.2.2.1
theorem dX12_ways_10 : decode cX12_ways 10 = .ok (.invokevirtual 377, 3) := bdX12_ways_0.2.2.2.2.2.2.1
theorem dX12_ways_13 : decode cX12_ways 13 = .ok (.ifCond .eq 12, 3) := bdX12_ways_0.2.2.2.2.2.2.2.1
theorem dX12_ways_16 : decode cX12_ways 16 = .ok (.iload_n 3, 1) := bdX12_ways_0.2.2.2.2.2.2.2.2.1
theorem dX12_ways_17 : decode cX12_ways 17 = .ok (.iconst 0, 1) := bdX12_ways_0.2.2.2.2.2.2.2.2.2.1
theorem dX12_ways_18 : decode cX12_ways 18 = .ok (.iconst 1, 1) := bdX12_ways_0.2.2.2.2.2.2.2.2.2.2.1
theorem dX12_ways_19 : decode cX12_ways 19 = .ok (.invokestatic 95, 3) := bdX12_ways_0.2.2.2.2.2.2.2.2.2.2.2.1
theorem dX12_ways_22 : decode cX12_ways 22 = .ok (.ifCond .ne 5, 3) := bdX12_ways_0.2.2.2.2.2.2.2.2.2.2.2.2.1
theorem dX12_ways_25 : decode cX12_ways 25 = .ok (.iconst (-1), 1) := bdX12_ways_0.2.2.2.2.2.2.2.2.2.2.2.2.2.1
theorem dX12_ways_26 : decode cX12_ways 26 = .ok (.ireturn, 1) := bdX12_ways_0.2.2.2.2.2.2.2.2.2.2.2.2.2.2.1
theorem dX12_ways_27 : decode cX12_ways 27 = .ok (.aload_n 0, 1) := bdX12_ways_0.2.2.2.2.2.2.2.2.2.2.2.2.2.2.2
theorem bdX12_ways_28 : (decode cX12_ways 28 = .ok (.invokevirtual 386, 3)) ∧ (decode cX12_ways 31 = .ok (.iconst (-1), 1)) ∧ (decode cX12_ways 32 = .ok (.istore 4, 2)) ∧ (decode cX12_ways 34 = .ok (.iconst 0, 1)) ∧ (decode cX12_ways 35 = .ok (.istore 5, 2)) ∧ (decode cX12_ways 37 = .ok (.iconst 0, 1)) ∧ (decode cX12_ways 38 = .ok (.istore 6, 2)) ∧ (decode cX12_ways 40 = .ok (.iload 6, 2)) ∧ (decode cX12_ways 42 = .ok (.iload_n 1, 1)) ∧ (decode cX12_ways 43 = .ok (.if_icmp .gt 119, 3)) ∧ (decode cX12_ways 46 = .ok (.iload 6, 2)) ∧ (decode cX12_ways 48 = .ok (.iload_n 1, 1)) ∧ (decode cX12_ways 49 = .ok (.iconst (-1), 1)) ∧ (decode cX12_ways 50 = .ok (.ixor, 1)) ∧ (decode cX12_ways 51 = .ok (.iand, 1)) ∧ (decode cX12_ways 52 = .ok (.ifCond .ne 104, 3)) := by decide +kernel
theorem dX12_ways_28 : decode cX12_ways 28 = .ok (.invokevirtual 386, 3) := bdX12_ways_28.1
theorem dX12_ways_31 : decode cX12_ways 31 = .ok (.iconst (-1), 1) := bdX12_ways_28.2.1
theorem dX12_ways_32 : decode cX12_ways 32 = .ok (.istore 4, 2) := bdX12_ways_28.2.2.1
theorem dX12_ways_34 : decode cX12_ways 34 = .ok (.iconst 0, 1) := bdX12_ways_28.2.2.2.1
theorem dX12_ways_35 : decode cX12_ways 35 = .ok (.istore 5, 2) := bdX12_ways_28.2.2.2.2.1
theorem dX12_ways_37 : decode cX12_ways 37 = .ok (.iconst 0, 1) := bdX12_ways_28.2.2.2.2.2.1
theorem dX12_ways_38 : decode cX12_ways 38 = .ok (.istore 6, 2) := bdX12_ways_28.2.2.2.2.2.2.1
theorem dX12_ways_40 : decode cX12_ways 40 = .ok (.iload 6, 2) := bdX12_ways_28.2.2.2.2.2.2.2.1
theorem dX12_ways_42 : decode cX12_ways 42 = .ok (.iload_n 1, 1) := bdX12_ways_28.2.2.2.2.2.2.2.2.1
theorem dX12_ways_43 : decode cX12_ways 43 = .ok (.if_icmp .gt 119, 3) := bdX12_ways_28.2.2.2.2.2.2.2.2.2.1
theorem dX12_ways_46 : decode cX12_ways 46 = .ok (.iload 6, 2) := bdX12_ways_28.2.2.2.2.2.2.2.2.2.2.1
theorem dX12_ways_48 : decode cX12_ways 48 = .ok (.iload_n 1, 1) := bdX12_ways_28.2.2.2.2.2.2.2.2.2.2.2.1
theorem dX12_ways_49 : decode cX12_ways 49 = .ok (.iconst (-1), 1) := bdX12_ways_28.2.2.2.2.2.2.2.2.2.2.2.2.1
theorem dX12_ways_50 : decode cX12_ways 50 = .ok (.ixor, 1) := bdX12_ways_28.2.2.2.2.2.2.2.2.2.2.2.2.2.1
theorem dX12_ways_51 : decode cX12_ways 51 = .ok (.iand, 1) := bdX12_ways_28.2.2.2.2.2.2.2.2.2.2.2.2.2.2.1
theorem dX12_ways_52 : decode cX12_ways 52 = .ok (.ifCond .ne 104, 3) := bdX12_ways_28.2.2.2.2.2.2.2.2.2.2.2.2.2.2.2
theorem bdX12_ways_55 : (decode cX12_ways 55 = .ok (.iconst 0, 1)) ∧ (decode cX12_ways 56 = .ok (.istore 7, 2)) ∧ (decode cX12_ways 58 = .ok (.iload 7, 2)) ∧ (decode cX12_ways 60 = .ok (.aload_n 0, 1)) ∧ (decode cX12_ways 61 = .ok (.getfield 7, 3)) ∧ (decode cX12_ways 64 = .ok (.iconst 2, 1)) ∧ (decode cX12_ways 65 = .ok (.iaload, 1)) ∧ (decode cX12_ways 66 = .ok (.if_icmp .ge 43, 3)) ∧ (decode cX12_ways 69 = .ok (.iload_n 1, 1)) ∧ (decode cX12_ways 70 = .ok (.iload 7, 2)) ∧ (decode cX12_ways 72 = .ok (.ishr, 1)) ∧ (decode cX12_ways 73 = .ok (.iconst 1, 1)) ∧ (decode cX12_ways 74 = .ok (.iand, 1)) ∧ (decode cX12_ways 75 = .ok (.iconst 1, 1)) ∧ (decode cX12_ways 76 = .ok (.if_icmp .ne 27, 3)) ∧ (decode cX12_ways 79 = .ok (.aload_n 0, 1)) := by decide +kernel
theorem dX12_ways_55 : decode cX12_ways 55 = .ok (.iconst 0, 1) := bdX12_ways_55.1
theorem dX12_ways_56 : decode cX12_ways 56 = .ok (.istore 7, 2) := bdX12_ways_55.2.1
theorem dX12_ways_58 : decode cX12_ways 58 = .ok (.iload 7, 2) := bdX12_ways_55.2.2.1
theorem dX12_ways_60 : decode cX12_ways 60 = .ok (.aload_n 0, 1) := bdX12_ways_55.2.2.2.1
theorem dX12_ways_61 : decode cX12_ways 61 = .ok (.getfield 7, 3) := bdX12_ways_55.2.2.2.2.1
theorem dX12_ways_64 : decode cX12_ways 64 = .ok (.iconst 2, 1) := bdX12_ways_55.2.2.2.2.2.1
theorem dX12_ways_65 : decode cX12_ways 65 = .ok (.iaload, 1) := bdX12_ways_55.2.2.2.2.2.2.1
theorem dX12_ways_66 : decode cX12_ways 66 = .ok (.if_icmp .ge 43, 3) := bdX12_ways_55.2.2.2.2.2.2.2.1
theorem dX12_ways_69 : decode cX12_ways 69 = .ok (.iload_n 1, 1) := bdX12_ways_55.2.2.2.2.2.2.2.2.1
theorem dX12_ways_70 : decode cX12_ways 70 = .ok (.iload 7, 2) := bdX12_ways_55.2.2.2.2.2.2.2.2.2.1
theorem dX12_ways_72 : decode cX12_ways 72 = .ok (.ishr, 1) := bdX12_ways_55.2.2.2.2.2.2.2.2.2.2.1
theorem dX12_ways_73 : decode cX12_ways 73 = .ok (.iconst 1, 1) := bdX12_ways_55.2.2.2.2.2.2.2.2.2.2.2.1
theorem dX12_ways_74 : decode cX12_ways 74 = .ok (.iand, 1) := bdX12_ways_55.2.2.2.2.2.2.2.2.2.2.2.2.1
theorem dX12_ways_75 : decode cX12_ways 75 = .ok (.iconst 1, 1) := bdX12_ways_55.2.2.2.2.2.2.2.2.2.2.2.2.2.1
theorem dX12_ways_76 : decode cX12_ways 76 = .ok (.if_icmp .ne 27, 3) := bdX12_ways_55.2.2.2.2.2.2.2.2.2.2.2.2.2.2.1
theorem dX12_ways_79 : decode cX12_ways 79 = .ok (.aload_n 0, 1) := bdX12_ways_55.2.2.2.2.2.2.2.2.2.2.2.2.2.2.2
theorem bdX12_ways_80 : (decode cX12_ways 80 = .ok (.iload 7, 2)) ∧ (decode cX12_ways 82 = .ok (.iload 6, 2)) ∧ (decode cX12_ways 84 = .ok (.iload 7, 2)) ∧ (decode cX12_ways 86 = .ok (.ishr, 1)) ∧ (decode cX12_ways 87 = .ok (.iconst 1, 1)) ∧ (decode cX12_ways 88 = .ok (.iand, 1)) ∧ (decode cX12_ways 89 = .ok (.iconst 1, 1)) ∧ (decode cX12_ways 90 = .ok (.if_icmp .ne 7, 3)) ∧ (decode cX12_ways 93 = .ok (.iconst 1, 1)) ∧ (decode cX12_ways 94 = .ok (.goto 4, 3)) ∧ (decode cX12_ways 97 = .ok (.iconst 2, 1)) ∧ (decode cX12_ways 98 = .ok (.invokevirtual 389, 3)) ∧ (decode cX12_ways 101 = .ok (.istore 8, 2)) ∧ (decode cX12_ways 103 = .ok (.iinc 7 1, 3)) ∧ (decode cX12_ways 106 = .ok (.goto (-48), 3)) ∧ (decode cX12_ways 109 = .ok (.aload_n 0, 1)) := by decide +kernel
theorem dX12_ways_80 : decode cX12_ways 80 = .ok (.iload 7, 2) := bdX12_ways_80.1
theorem dX12_ways_82 : decode cX12_ways 82 = .ok (.iload 6, 2) := bdX12_ways_80.2.1
theorem dX12_ways_84 : decode cX12_ways 84 = .ok (.iload 7, 2) := bdX12_ways_80.2.2.1
theorem dX12_ways_86 : decode cX12_ways 86 = .ok (.ishr, 1) := bdX12_ways_80.2.2.2.1
theorem dX12_ways_87 : decode cX12_ways 87 = .ok (.iconst 1, 1) := bdX12_ways_80.2.2.2.2.1
theorem dX12_ways_88 : decode cX12_ways 88 = .ok (.iand, 1) := bdX12_ways_80.2.2.2.2.2.1
theorem dX12_ways_89 : decode cX12_ways 89 = .ok (.iconst 1, 1) := bdX12_ways_80.2.2.2.2.2.2.1
theorem dX12_ways_90 : decode cX12_ways 90 = .ok (.if_icmp .ne 7, 3) := bdX12_ways_80.2.2.2.2.2.2.2.1
theorem dX12_ways_93 : decode cX12_ways 93 = .ok (.iconst 1, 1) := bdX12_ways_80.2.2.2.2.2.2.2.2.1
theorem dX12_ways_94 : decode cX12_ways 94 = .ok (.goto 4, 3) := bdX12_ways_80.2.2.2.2.2.2.2.2.2.1
theorem dX12_ways_97 : decode cX12_ways 97 = .ok (.iconst 2, 1) := bdX12_ways_80.2.2.2.2.2.2.2.2.2.2.1
theorem dX12_ways_98 : decode cX12_ways 98 = .ok (.invokevirtual 389, 3) := bdX12_ways_80.2.2.2.2.2.2.2.2.2.2.2.1
theorem dX12_ways_101 : decode cX12_ways 101 = .ok (.istore 8, 2) := bdX12_ways_80.2.2.2.2.2.2.2.2.2.2.2.2.1
theorem dX12_ways_103 : decode cX12_ways 103 = .ok (.iinc 7 1, 3) := bdX12_ways_80.2.2.2.2.2.2.2.2.2.2.2.2.2.1
theorem dX12_ways_106 : decode cX12_ways 106 = .ok (.goto (-48), 3) := bdX12_ways_80.2.2.2.2.2.2.2.2.2.2.2.2.2.2.1
theorem dX12_ways_109 : decode cX12_ways 109 = .ok (.aload_n 0, 1) := bdX12_ways_80.2.2.2.2.2.2.2.2.2.2.2.2.2.2.2
theorem bdX12_ways_110 : (decode cX12_ways 110 = .ok (.iload_n 2, 1)) ∧ (decode cX12_ways 111 = .ok (.invokevirtual 392, 3)) ∧ (decode cX12_ways 114 = .ok (.aload_n 0, 1)) ∧ (decode cX12_ways 115 = .ok (.getfield 7, 3)) ∧ (decode cX12_ways 118 = .ok (.bipush 10, 2)) ∧ (decode cX12_ways 120 = .ok (.iaload, 1)) ∧ (decode cX12_ways 121 = .ok (.aload_n 0, 1)) ∧ (decode cX12_ways 122 = .ok (.getfield 16, 3)) ∧ (decode cX12_ways 125 = .ok (.bipush 10, 2)) ∧ (decode cX12_ways 127 = .ok (.iaload, 1)) ∧ (decode cX12_ways 128 = .ok (.isub, 1)) ∧ (decode cX12_ways 129 = .ok (.istore 7, 2)) ∧ (decode cX12_ways 131 = .ok (.aload_n 0, 1)) ∧ (decode cX12_ways 132 = .ok (.invokevirtual 395, 3)) ∧ (decode cX12_ways 135 = .ok (.iload 4, 2)) ∧ (decode cX12_ways 137 = .ok (.iconst (-1), 1)) := by decide +kernel
theorem dX12_ways_110 : decode cX12_ways 110 = .ok (.iload_n 2, 1) := bdX12_ways_110.1
theorem dX12_ways_111 : decode cX12_ways 111 = .ok (.invokevirtual 392, 3) := bdX12_ways_110.2.1
theorem dX12_ways_114 : decode cX12_ways 114 = .ok (.aload_n 0, 1) := bdX12_ways_110.2.2.1
theorem dX12_ways_115 : decode cX12_ways 115 = .ok (.getfield 7, 3) := bdX12_ways_110.2.2.2.1
theorem dX12_ways_118 : decode cX12_ways 118 = .ok (.bipush 10, 2) := bdX12_ways_110.2.2.2.2.1
theorem dX12_ways_120 : decode cX12_ways 120 = .ok (.iaload, 1) := bdX12_ways_110.2.2.2.2.2.1
theorem dX12_ways_121 : decode cX12_ways 121 = .ok (.aload_n 0, 1) := bdX12_ways_110.2.2.2.2.2.2.1
theorem dX12_ways_122 : decode cX12_ways 122 = .ok (.getfield 16, 3) := bdX12_ways_110.2.2.2.2.2.2.2.1
theorem dX12_ways_125 : decode cX12_ways 125 = .ok (.bipush 10, 2) := bdX12_ways_110.2.2.2.2.2.2.2.2.1
theorem dX12_ways_127 : decode cX12_ways 127 = .ok (.iaload, 1) := bdX12_ways_110.2.2.2.2.2.2.2.2.2.1
theorem dX12_ways_128 : decode cX12_ways 128 = .ok (.isub, 1) := bdX12_ways_110.2.2.2.2.2.2.2.2.2.2.1
theorem dX12_ways_129 : decode cX12_ways 129 = .ok (.istore 7, 2) := bdX12_ways_110.2.2.2.2.2.2.2.2.2.2.2.1
theorem dX12_ways_131 : decode cX12_ways 131 = .ok (.aload_n 0, 1) := bdX12_ways_110.2.2.2.2.2.2.2.2.2.2.2.2.1
theorem dX12_ways_132 : decode cX12_ways 132 = .ok (.invokevirtual 395, 3) := bdX12_ways_110.2.2.2.2.2.2.2.2.2.2.2.2.2.1
theorem dX12_ways_135 : decode cX12_ways 135 = .ok (.iload 4, 2) := bdX12_ways_110.2.2.2.2.2.2.2.2.2.2.2.2.2.2.1
theorem dX12_ways_137 : decode cX12_ways 137 = .ok (.iconst (-1), 1) := bdX12_ways_110.2.2.2.2.2.2.2.2.2.2.2.2.2.2.2
theorem bdX12_ways_138 : (decode cX12_ways 138 = .ok (.if_icmp .eq 10, 3)) ∧ (decode cX12_ways 141 = .ok (.iload 7, 2)) ∧ (decode cX12_ways 143 = .ok (.iload 5, 2)) ∧ (decode cX12_ways 145 = .ok (.if_icmp .ge 11, 3)) ∧ (decode cX12_ways 148 = .ok (.iload 6, 2)) ∧ (decode cX12_ways 150 = .ok (.istore 4, 2)) ∧ (decode cX12_ways 152 = .ok (.iload 7, 2)) ∧ (decode cX12_ways 154 = .ok (.istore 5, 2)) ∧ (decode cX12_ways 156 = .ok (.iinc 6 1, 3)) ∧ (decode cX12_ways 159 = .ok (.goto (-119), 3)) ∧ (decode cX12_ways 162 = .ok (.iload_n 3, 1)) ∧ (decode cX12_ways 163 = .ok (.ifCond .ne 8, 3)) ∧ (decode cX12_ways 166 = .ok (.iload 4, 2)) ∧ (decode cX12_ways 168 = .ok (.goto 5, 3)) ∧ (decode cX12_ways 171 = .ok (.iload 5, 2)) ∧ (decode cX12_ways 173 = .ok (.ireturn, 1)) := by decide +kernel
theorem dX12_ways_138 : decode cX12_ways 138 = .ok (.if_icmp .eq 10, 3) := bdX12_ways_138.1
theorem dX12_ways_141 : decode cX12_ways 141 = .ok (.iload 7, 2) := bdX12_ways_138.2.1
theorem dX12_ways_143 : decode cX12_ways 143 = .ok (.iload 5, 2) := bdX12_ways_138.2.2.1
theorem dX12_ways_145 : decode cX12_ways 145 = .ok (.if_icmp .ge 11, 3) := bdX12_ways_138.2.2.2.1
theorem dX12_ways_148 : decode cX12_ways 148 = .ok (.iload 6, 2) := bdX12_ways_138.2.2.2.2.1
theorem dX12_ways_150 : decode cX12_ways 150 = .ok (.istore 4, 2) := bdX12_ways_138.2.2.2.2.2.1
theorem dX12_ways_152 : decode cX12_ways 152 = .ok (.iload 7, 2) := bdX12_ways_138.2.2.2.2.2.2.1
theorem dX12_ways_154 : decode cX12_ways 154 = .ok (.istore 5, 2) := bdX12_ways_138.2.2.2.2.2.2.2.1
theorem dX12_ways_156 : decode cX12_ways 156 = .ok (.iinc 6 1, 3) := bdX12_ways_138.2.2.2.2.2.2.2.2.1
theorem dX12_ways_159 : decode cX12_ways 159 = .ok (.goto (-119), 3) := bdX12_ways_138.2.2.2.2.2.2.2.2.2.1
theorem dX12_ways_162 : decode cX12_ways 162 = .ok (.iload_n 3, 1) := bdX12_ways_138.2.2.2.2.2.2.2.2.2.2.1
theorem dX12_ways_163 : decode cX12_ways 163 = .ok (.ifCond .ne 8, 3) := bdX12_ways_138.2.2.2.2.2.2.2.2.2.2.2.1
theorem dX12_ways_166 : decode cX12_ways 166 = .ok (.iload 4, 2) := bdX12_ways_138.2.2.2.2.2.2.2.2.2.2.2.2.1
theorem dX12_ways_168 : decode cX12_ways 168 = .ok (.goto 5, 3) := bdX12_ways_138.2.2.2.2.2.2.2.2.2.2.2.2.2.1
theorem dX12_ways_171 : decode cX12_ways 171 = .ok (.iload 5, 2) := bdX12_ways_138.2.2.2.2.2.2.2.2.2.2.2.2.2.2.1
theorem dX12_ways_173 : decode cX12_ways 173 = .ok (.ireturn, 1) := bdX12_ways_138.2.2.2.2.2.2.2.2.2.2.2.2.2.2.2
theorem bdX9_anyHallOver_0 : (decode cX9_anyHallOver 0 = .ok (.iconst 0, 1)) ∧ (decode cX9_anyHallOver 1 = .ok (.istore_n 1, 1)) ∧ (decode cX9_anyHallOver 2 = .ok (.iload_n 1, 1)) ∧ (decode cX9_anyHallOver 3 = .ok (.aload_n 0, 1)) ∧ (decode cX9_anyHallOver 4 = .ok (.getfield 57, 3)) ∧ (decode cX9_anyHallOver 7 = .ok (.if_icmp .ge 32, 3)) ∧ (decode cX9_anyHallOver 10 = .ok (.iload_n 1, 1)) ∧ (decode cX9_anyHallOver 11 = .ok (.aload_n 0, 1)) ∧ (decode cX9_anyHallOver 12 = .ok (.getfield 11, 3)) ∧ (decode cX9_anyHallOver 15 = .ok (.arraylength, 1)) ∧ (decode cX9_anyHallOver 16 = .ok (.if_icmp .ge 23, 3)) ∧ (decode cX9_anyHallOver 19 = .ok (.aload_n 0, 1)) ∧ (decode cX9_anyHallOver 20 = .ok (.getfield 11, 3)) ∧ (decode cX9_anyHallOver 23 = .ok (.iload_n 1, 1)) ∧ (decode cX9_anyHallOver 24 = .ok (.aaload, 1)) ∧ (decode cX9_anyHallOver 25 = .ok (.invokevirtual 70, 3)) := by decide +kernel
theorem dX9_anyHallOver_0 : decode cX9_anyHallOver 0 = .ok (.iconst 0, 1) := bdX9_anyHallOver_0.1
theorem dX9_anyHallOver_1 : decode cX9_anyHallOver 1 = .ok (.istore_n 1, 1) := bdX9_anyHallOver_0.2.1
theorem dX9_anyHallOver_2 : decode cX9_anyHallOver 2 = .ok (.iload_n 1, 1) := bdX9_anyHallOver_0.2.2.1
theorem dX9_anyHallOver_3 : decode cX9_anyHallOver 3 = .ok (.aload_n 0, 1) := bdX9_anyHallOver_0.2.2.2.1
theorem dX9_anyHallOver_4 : decode cX9_anyHallOver 4 = .ok (.getfield 57, 3) := bdX9_anyHallOver_0.2.2.2.2.1
theorem dX9_anyHallOver_7 : decode cX9_anyHallOver 7 = .ok (.if_icmp .ge 32, 3) := bdX9_anyHallOver_0.2.2.2.2.2.1
theorem dX9_anyHallOver_10 : decode cX9_anyHallOver 10 = .ok (.iload_n 1, 1) := bdX9_anyHallOver_0.2.2.2.2.2.2.1
theorem dX9_anyHallOver_11 : decode cX9_anyHallOver 11 = .ok (.aload_n 0, 1) := bdX9_anyHallOver_0.2.2.2.2.2.2.2.1
theorem dX9_anyHallOver_12 : decode cX9_anyHallOver 12 = .ok (.getfield 11, 3) := bdX9_anyHallOver_0.2.2.2.2.2.2.2.2.1
theorem dX9_anyHallOver_15 : decode cX9_anyHallOver 15 = .ok (.arraylength, 1) := bdX9_anyHallOver_0.2.2.2.2.2.2.2.2.2.1
theorem dX9_anyHallOver_16 : decode cX9_anyHallOver 16 = .ok (.if_icmp .ge 23, 3) := bdX9_anyHallOver_0.2.2.2.2.2.2.2.2.2.2.1
theorem dX9_anyHallOver_19 : decode cX9_anyHallOver 19 = .ok (.aload_n 0, 1) := bdX9_anyHallOver_0.2.2.2.2.2.2.2.2.2.2.2.1
theorem dX9_anyHallOver_20 : decode cX9_anyHallOver 20 = .ok (.getfield 11, 3) := bdX9_anyHallOver_0.2.2.2.2.2.2.2.2.2.2.2.2.1
theorem dX9_anyHallOver_23 : decode cX9_anyHallOver 23 = .ok (.iload_n 1, 1) := bdX9_anyHallOver_0.2.2.2.2.2.2.2.2.2.2.2.2.2.1
theorem dX9_anyHallOver_24 : decode cX9_anyHallOver 24 = .ok (.aaload, 1) := bdX9_anyHallOver_0.2.2.2.2.2.2.2.2.2.2.2.2.2.2.1
theorem dX9_anyHallOver_25 : decode cX9_anyHallOver 25 = .ok (.invokevirtual 70, 3) := bdX9_anyHallOver_0.2.2.2.2.2.2.2.2.2.2.2.2.2.2.2
theorem bdX9_anyHallOver_28 : (decode cX9_anyHallOver 28 = .ok (.ifCond .eq 5, 3)) ∧ (decode cX9_anyHallOver 31 = .ok (.iconst 1, 1)) ∧ (decode cX9_anyHallOver 32 = .ok (.ireturn, 1)) ∧ (decode cX9_anyHallOver 33 = .ok (.iinc 1 1, 3)) ∧ (decode cX9_anyHallOver 36 = .ok (.goto (-34), 3)) ∧ (decode cX9_anyHallOver 39 = .ok (.iconst 0, 1)) ∧ (decode cX9_anyHallOver 40 = .ok (.ireturn, 1)) := by decide +kernel
theorem dX9_anyHallOver_28 : decode cX9_anyHallOver 28 = .ok (.ifCond .eq 5, 3) := bdX9_anyHallOver_28.1
theorem dX9_anyHallOver_31 : decode cX9_anyHallOver 31 = .ok (.iconst 1, 1) := bdX9_anyHallOver_28.2.1
theorem dX9_anyHallOver_32 : decode cX9_anyHallOver 32 = .ok (.ireturn, 1) := bdX9_anyHallOver_28.2.2.1
theorem dX9_anyHallOver_33 : decode cX9_anyHallOver 33 = .ok (.iinc 1 1, 3) := bdX9_anyHallOver_28.2.2.2.1
theorem dX9_anyHallOver_36 : decode cX9_anyHallOver 36 = .ok (.goto (-34), 3) := bdX9_anyHallOver_28.2.2.2.2.1
theorem dX9_anyHallOver_39 : decode cX9_anyHallOver 39 = .ok (.iconst 0, 1) := bdX9_anyHallOver_28.2.2.2.2.2.1
theorem dX9_anyHallOver_40 : decode cX9_anyHallOver 40 = .ok (.ireturn, 1) := bdX9_anyHallOver_28.2.2.2.2.2.2
def fX9_copyMoving_175 (a0 : Nat) (a1 : Nat) (m : xMem) : Option xMem := some m
set_option maxRecDepth 4000 in
theorem fX9_copyMoving_175_ok {a0 : Nat} {a1 : Nat} {d : Nat} (hd : 1 ≤ d) (ha0 : isStation a0) (ha1 : isStation a1) {o2 : Option Value} {m : xMem} {r : xMem} (q2 : xNoD o2 = true) (h : fX9_copyMoving_175 a0 a1 m = some r) : xFx hh_208 cX9_copyMoving d 175 [some (.ref a0), some (.ref a1), o2] [] (xLay m) 0 0 none (xLay r) := by
  unfold fX9_copyMoving_175 at h
  cases h
  exact fx_return dX9_copyMoving_175 rfl rfl
def fX9_copyMoving_140 (a0 : Nat) (a1 : Nat) : Nat → Int32 → xMem → Option xMem
  | 0, _, _ => none
  | fuel + 1, l2, m => xLet (m.1 a0 9) fun x1 => if x1 ≤ l2 then fX9_copyMoving_175 a0 a1 m else if (30 : Int32) ≤ l2 then fX9_copyMoving_175 a0 a1 m else bif xIn l2 30 then xLet (a0 + 53 + 1 * l2.toNatClampNeg) fun r5 => bif xIn l2 30 then xLet (a1 + 53 + 1 * l2.toNatClampNeg) fun r7 => (fX0_copy r5 r7 m).bind fun p8 => xLet (l2 + (1 : Int32)) fun x9 => fX9_copyMoving_140 a0 a1 fuel x9 p8 else none else none
set_option maxRecDepth 4000 in
theorem fX9_copyMoving_140_ok {a0 : Nat} {a1 : Nat} {d : Nat} (hd : 1 ≤ d) (ha0 : isStation a0) (ha1 : isStation a1) : ∀ (fuel : Nat) (l2 : Int32) (m : xMem) (r : xMem), fX9_copyMoving_140 a0 a1 fuel l2 m = some r → xFx hh_208 cX9_copyMoving d 140 [some (.ref a0), some (.ref a1), some (.int l2)] [] (xLay m) 0 0 none (xLay r) := by
  intro fuel
  induction fuel with
  | zero => intro l2  m r  h; cases h
  | succ fuel ih =>
    intro l2  m r  h
    unfold fX9_copyMoving_140 at h
    refine fx_iload_n dX9_copyMoving_140 rfl rfl ?_
    refine fx_aload_n dX9_copyMoving_141 rfl rfl ?_
    obtain ⟨x1, hx1, h⟩ := xLet_el h
    refine gx_get dX9_copyMoving_142 rfl fd_9_110 ha0.1 rfl rfl hx1 ?_
    refine fx_icmp_ge (t := 175) dX9_copyMoving_145 rfl rfl (fun hc2 => ?_) (fun hc2 => ?_)
    · rw [if_pos hc2] at h
      exact fX9_copyMoving_175_ok (o2 := some (.int l2)) hd ha0 ha1 rfl h
    · rw [if_neg hc2] at h
      refine fx_iload_n dX9_copyMoving_148 rfl rfl ?_
      refine fx_bipush (x := 30) dX9_copyMoving_149 rfl (by decide) ?_
      refine fx_icmp_ge (t := 175) dX9_copyMoving_151 rfl rfl (fun hc3 => ?_) (fun hc3 => ?_)
      · rw [if_pos hc3] at h
        exact fX9_copyMoving_175_ok (o2 := some (.int l2)) hd ha0 ha1 rfl h
      · rw [if_neg hc3] at h
        refine fx_aload_n dX9_copyMoving_154 rfl rfl ?_
        refine gx_getr dX9_copyMoving_155 rfl fd_9_25 ha0.1 rfl rfl ?_
        refine fx_iload_n dX9_copyMoving_158 rfl rfl ?_
        obtain ⟨hj4, h⟩ := xChk_el h
        obtain ⟨r5, hr5, h⟩ := xLet_el h
        refine gx_aaload (t := 6) dX9_copyMoving_159 rfl ha0.2.2.2.1 rfl hj4 ((xRef_at (sl_9_2 a0) hj4).trans (congrArg some hr5)) ?_
        have hpr5 : isBurst r5 := by rw [← hr5]; exact ha0.2.2.2.2.2.2.2.2.2 _ (xIn_lt hj4)
        refine fx_aload_n dX9_copyMoving_160 rfl rfl ?_
        refine gx_getr dX9_copyMoving_161 rfl fd_9_25 ha1.1 rfl rfl ?_
        refine fx_iload_n dX9_copyMoving_164 rfl rfl ?_
        obtain ⟨hj6, h⟩ := xChk_el h
        obtain ⟨r7, hr7, h⟩ := xLet_el h
        refine gx_aaload (t := 6) dX9_copyMoving_165 rfl ha1.2.2.2.1 rfl hj6 ((xRef_at (sl_9_2 a1) hj6).trans (congrArg some hr7)) ?_
        have hpr7 : isBurst r7 := by rw [← hr7]; exact ha1.2.2.2.2.2.2.2.2.2 _ (xIn_lt hj6)
        obtain ⟨p8, ep8, h⟩ := xBind_el h
        refine gx_callv (as := [.ref r7]) (r := []) rfl dX9_copyMoving_166 ca_9_128 rfl me_211 rfl rfl rfl rfl (hpr5) rfl (fX0_copy_ok (d := d) (by omega) hpr5 hpr7 ep8) rfl rfl ?_
        obtain ⟨x9, hx9, h⟩ := xLet_el h
        refine fx_iinc (ls2 := [some (.ref a0), some (.ref a1), some (.int x9)]) dX9_copyMoving_169 rfl rfl rfl hx9 rfl ?_
        refine fx_goto (t := 140) dX9_copyMoving_172 rfl rfl ?_
        exact ih x9 p8 r h
def fX9_copyMoving_138 (a0 : Nat) (a1 : Nat) (m : xMem) : Option xMem := fX9_copyMoving_140 a0 a1 xFuel (0 : Int32) m
set_option maxRecDepth 4000 in
theorem fX9_copyMoving_138_ok {a0 : Nat} {a1 : Nat} {d : Nat} (hd : 1 ≤ d) (ha0 : isStation a0) (ha1 : isStation a1) {o2 : Option Value} {m : xMem} {r : xMem} (q2 : xNoD o2 = true) (h : fX9_copyMoving_138 a0 a1 m = some r) : xFx hh_208 cX9_copyMoving d 138 [some (.ref a0), some (.ref a1), o2] [] (xLay m) 0 0 none (xLay r) := by
  unfold fX9_copyMoving_138 at h
  refine fx_iconst (x := 0) dX9_copyMoving_138 rfl (by decide) ?_
  refine fx_istore_n (ls2 := [some (.ref a0), some (.ref a1), some (.int (0 : Int32))]) dX9_copyMoving_139 rfl rfl rfl ?_
  exact fX9_copyMoving_140_ok hd ha0 ha1 xFuel (0 : Int32) m r h
def fX9_copyMoving_103 (a0 : Nat) (a1 : Nat) : Nat → Int32 → xMem → Option xMem
  | 0, _, _ => none
  | fuel + 1, l2, m => xLet (m.1 a0 8) fun x1 => if x1 ≤ l2 then fX9_copyMoving_138 a0 a1 m else if (10 : Int32) ≤ l2 then fX9_copyMoving_138 a0 a1 m else bif xIn l2 10 then xLet (a0 + 33 + 2 * l2.toNatClampNeg) fun r5 => bif xIn l2 10 then xLet (a1 + 33 + 2 * l2.toNatClampNeg) fun r7 => (fX3_copy r5 r7 m).bind fun p8 => xLet (l2 + (1 : Int32)) fun x9 => fX9_copyMoving_103 a0 a1 fuel x9 p8 else none else none
set_option maxRecDepth 4000 in
theorem fX9_copyMoving_103_ok {a0 : Nat} {a1 : Nat} {d : Nat} (hd : 1 ≤ d) (ha0 : isStation a0) (ha1 : isStation a1) : ∀ (fuel : Nat) (l2 : Int32) (m : xMem) (r : xMem), fX9_copyMoving_103 a0 a1 fuel l2 m = some r → xFx hh_208 cX9_copyMoving d 103 [some (.ref a0), some (.ref a1), some (.int l2)] [] (xLay m) 0 0 none (xLay r) := by
  intro fuel
  induction fuel with
  | zero => intro l2  m r  h; cases h
  | succ fuel ih =>
    intro l2  m r  h
    unfold fX9_copyMoving_103 at h
    refine fx_iload_n dX9_copyMoving_103 rfl rfl ?_
    refine fx_aload_n dX9_copyMoving_104 rfl rfl ?_
    obtain ⟨x1, hx1, h⟩ := xLet_el h
    refine gx_get dX9_copyMoving_105 rfl fd_9_60 ha0.1 rfl rfl hx1 ?_
    refine fx_icmp_ge (t := 138) dX9_copyMoving_108 rfl rfl (fun hc2 => ?_) (fun hc2 => ?_)
    · rw [if_pos hc2] at h
      exact fX9_copyMoving_138_ok (o2 := some (.int l2)) hd ha0 ha1 rfl h
    · rw [if_neg hc2] at h
      refine fx_iload_n dX9_copyMoving_111 rfl rfl ?_
      refine fx_bipush (x := 10) dX9_copyMoving_112 rfl (by decide) ?_
      refine fx_icmp_ge (t := 138) dX9_copyMoving_114 rfl rfl (fun hc3 => ?_) (fun hc3 => ?_)
      · rw [if_pos hc3] at h
        exact fX9_copyMoving_138_ok (o2 := some (.int l2)) hd ha0 ha1 rfl h
      · rw [if_neg hc3] at h
        refine fx_aload_n dX9_copyMoving_117 rfl rfl ?_
        refine gx_getr dX9_copyMoving_118 rfl fd_9_19 ha0.1 rfl rfl ?_
        refine fx_iload_n dX9_copyMoving_121 rfl rfl ?_
        obtain ⟨hj4, h⟩ := xChk_el h
        obtain ⟨r5, hr5, h⟩ := xLet_el h
        refine gx_aaload (t := 5) dX9_copyMoving_122 rfl ha0.2.2.1 rfl hj4 ((xRef_at (sl_9_1 a0) hj4).trans (congrArg some hr5)) ?_
        have hpr5 : isLink r5 := by rw [← hr5]; exact ha0.2.2.2.2.2.2.2.2.1 _ (xIn_lt hj4)
        refine fx_aload_n dX9_copyMoving_123 rfl rfl ?_
        refine gx_getr dX9_copyMoving_124 rfl fd_9_19 ha1.1 rfl rfl ?_
        refine fx_iload_n dX9_copyMoving_127 rfl rfl ?_
        obtain ⟨hj6, h⟩ := xChk_el h
        obtain ⟨r7, hr7, h⟩ := xLet_el h
        refine gx_aaload (t := 5) dX9_copyMoving_128 rfl ha1.2.2.1 rfl hj6 ((xRef_at (sl_9_1 a1) hj6).trans (congrArg some hr7)) ?_
        have hpr7 : isLink r7 := by rw [← hr7]; exact ha1.2.2.2.2.2.2.2.2.1 _ (xIn_lt hj6)
        obtain ⟨p8, ep8, h⟩ := xBind_el h
        refine gx_callv (as := [.ref r7]) (r := []) rfl dX9_copyMoving_129 ca_9_125 rfl me_210 rfl rfl rfl rfl (hpr5.1) rfl (fX3_copy_ok (d := d) (by omega) hpr5 hpr7 ep8) rfl rfl ?_
        obtain ⟨x9, hx9, h⟩ := xLet_el h
        refine fx_iinc (ls2 := [some (.ref a0), some (.ref a1), some (.int x9)]) dX9_copyMoving_132 rfl rfl rfl hx9 rfl ?_
        refine fx_goto (t := 103) dX9_copyMoving_135 rfl rfl ?_
        exact ih x9 p8 r h
def fX9_copyMoving_101 (a0 : Nat) (a1 : Nat) (m : xMem) : Option xMem := fX9_copyMoving_103 a0 a1 xFuel (0 : Int32) m
set_option maxRecDepth 4000 in
theorem fX9_copyMoving_101_ok {a0 : Nat} {a1 : Nat} {d : Nat} (hd : 1 ≤ d) (ha0 : isStation a0) (ha1 : isStation a1) {o2 : Option Value} {m : xMem} {r : xMem} (q2 : xNoD o2 = true) (h : fX9_copyMoving_101 a0 a1 m = some r) : xFx hh_208 cX9_copyMoving d 101 [some (.ref a0), some (.ref a1), o2] [] (xLay m) 0 0 none (xLay r) := by
  unfold fX9_copyMoving_101 at h
  refine fx_iconst (x := 0) dX9_copyMoving_101 rfl (by decide) ?_
  refine fx_istore_n (ls2 := [some (.ref a0), some (.ref a1), some (.int (0 : Int32))]) dX9_copyMoving_102 rfl rfl rfl ?_
  exact fX9_copyMoving_103_ok hd ha0 ha1 xFuel (0 : Int32) m r h
def fX9_copyMoving_66 (a0 : Nat) (a1 : Nat) : Nat → Int32 → xMem → Option xMem
  | 0, _, _ => none
  | fuel + 1, l2, m => xLet (m.1 a0 7) fun x1 => if x1 ≤ l2 then fX9_copyMoving_101 a0 a1 m else if (6 : Int32) ≤ l2 then fX9_copyMoving_101 a0 a1 m else bif xIn l2 6 then xLet (a0 + 15 + 3 * l2.toNatClampNeg) fun r5 => bif xIn l2 6 then xLet (a1 + 15 + 3 * l2.toNatClampNeg) fun r7 => (fX2_copy r5 r7 m).bind fun p8 => xLet (l2 + (1 : Int32)) fun x9 => fX9_copyMoving_66 a0 a1 fuel x9 p8 else none else none
set_option maxRecDepth 4000 in
theorem fX9_copyMoving_66_ok {a0 : Nat} {a1 : Nat} {d : Nat} (hd : 1 ≤ d) (ha0 : isStation a0) (ha1 : isStation a1) : ∀ (fuel : Nat) (l2 : Int32) (m : xMem) (r : xMem), fX9_copyMoving_66 a0 a1 fuel l2 m = some r → xFx hh_208 cX9_copyMoving d 66 [some (.ref a0), some (.ref a1), some (.int l2)] [] (xLay m) 0 0 none (xLay r) := by
  intro fuel
  induction fuel with
  | zero => intro l2  m r  h; cases h
  | succ fuel ih =>
    intro l2  m r  h
    unfold fX9_copyMoving_66 at h
    refine fx_iload_n dX9_copyMoving_66 rfl rfl ?_
    refine fx_aload_n dX9_copyMoving_67 rfl rfl ?_
    obtain ⟨x1, hx1, h⟩ := xLet_el h
    refine gx_get dX9_copyMoving_68 rfl fd_9_57 ha0.1 rfl rfl hx1 ?_
    refine fx_icmp_ge (t := 101) dX9_copyMoving_71 rfl rfl (fun hc2 => ?_) (fun hc2 => ?_)
    · rw [if_pos hc2] at h
      exact fX9_copyMoving_101_ok (o2 := some (.int l2)) hd ha0 ha1 rfl h
    · rw [if_neg hc2] at h
      refine fx_iload_n dX9_copyMoving_74 rfl rfl ?_
      refine fx_bipush (x := 6) dX9_copyMoving_75 rfl (by decide) ?_
      refine fx_icmp_ge (t := 101) dX9_copyMoving_77 rfl rfl (fun hc3 => ?_) (fun hc3 => ?_)
      · rw [if_pos hc3] at h
        exact fX9_copyMoving_101_ok (o2 := some (.int l2)) hd ha0 ha1 rfl h
      · rw [if_neg hc3] at h
        refine fx_aload_n dX9_copyMoving_80 rfl rfl ?_
        refine gx_getr dX9_copyMoving_81 rfl fd_9_11 ha0.1 rfl rfl ?_
        refine fx_iload_n dX9_copyMoving_84 rfl rfl ?_
        obtain ⟨hj4, h⟩ := xChk_el h
        obtain ⟨r5, hr5, h⟩ := xLet_el h
        refine gx_aaload (t := 4) dX9_copyMoving_85 rfl ha0.2.1 rfl hj4 ((xRef_at (sl_9_0 a0) hj4).trans (congrArg some hr5)) ?_
        have hpr5 : isHall r5 := by rw [← hr5]; exact ha0.2.2.2.2.2.2.2.1 _ (xIn_lt hj4)
        refine fx_aload_n dX9_copyMoving_86 rfl rfl ?_
        refine gx_getr dX9_copyMoving_87 rfl fd_9_11 ha1.1 rfl rfl ?_
        refine fx_iload_n dX9_copyMoving_90 rfl rfl ?_
        obtain ⟨hj6, h⟩ := xChk_el h
        obtain ⟨r7, hr7, h⟩ := xLet_el h
        refine gx_aaload (t := 4) dX9_copyMoving_91 rfl ha1.2.1 rfl hj6 ((xRef_at (sl_9_0 a1) hj6).trans (congrArg some hr7)) ?_
        have hpr7 : isHall r7 := by rw [← hr7]; exact ha1.2.2.2.2.2.2.2.1 _ (xIn_lt hj6)
        obtain ⟨p8, ep8, h⟩ := xBind_el h
        refine gx_callv (as := [.ref r7]) (r := []) rfl dX9_copyMoving_92 ca_9_122 rfl me_209 rfl rfl rfl rfl (hpr5.1) rfl (fX2_copy_ok (d := d) (by omega) hpr5 hpr7 ep8) rfl rfl ?_
        obtain ⟨x9, hx9, h⟩ := xLet_el h
        refine fx_iinc (ls2 := [some (.ref a0), some (.ref a1), some (.int x9)]) dX9_copyMoving_95 rfl rfl rfl hx9 rfl ?_
        refine fx_goto (t := 66) dX9_copyMoving_98 rfl rfl ?_
        exact ih x9 p8 r h
def fX9_copyMoving_0 (a0 : Nat) (a1 : Nat) (m : xMem) : Option xMem := xLet (m.1 a1 6) fun x1 => xLet (xPut m a0 6 x1) fun m2 => xLet (m2.1 a1 7) fun x3 => xLet (xPut m2 a0 7 x3) fun m4 => xLet (m4.1 a1 8) fun x5 => xLet (xPut m4 a0 8 x5) fun m6 => xLet (m6.1 a1 9) fun x7 => xLet (xPut m6 a0 9 x7) fun m8 => xLet (m8.1 a1 12) fun x9 => xLet (xPut m8 a0 12 x9) fun m10 => xLet (m10.1 a1 13) fun x11 => xLet (xPut m10 a0 13 x11) fun m12 => xLet (m12.1 a1 14) fun x13 => xLet (xPut m12 a0 14 x13) fun m14 => xLet (m14.1 a1 15) fun x15 => xLet (xPut m14 a0 15 x15) fun m16 => fX9_copyMoving_66 a0 a1 xFuel (0 : Int32) m16
set_option maxRecDepth 4000 in
theorem fX9_copyMoving_0_ok {a0 : Nat} {a1 : Nat} {d : Nat} (hd : 1 ≤ d) (ha0 : isStation a0) (ha1 : isStation a1) {o2 : Option Value} {m : xMem} {r : xMem} (q2 : xNoD o2 = true) (h : fX9_copyMoving_0 a0 a1 m = some r) : xFx hh_208 cX9_copyMoving d 0 [some (.ref a0), some (.ref a1), o2] [] (xLay m) 0 0 none (xLay r) := by
  unfold fX9_copyMoving_0 at h
  refine fx_aload_n dX9_copyMoving_0 rfl rfl ?_
  refine fx_aload_n dX9_copyMoving_1 rfl rfl ?_
  obtain ⟨x1, hx1, h⟩ := xLet_el h
  refine gx_get dX9_copyMoving_2 rfl fd_9_107 ha1.1 rfl rfl hx1 ?_
  obtain ⟨m2, hm2, h⟩ := xLet_el h
  refine gx_put dX9_copyMoving_5 rfl fd_9_107 ha0.1 rfl rfl rfl hm2 ?_
  refine fx_aload_n dX9_copyMoving_8 rfl rfl ?_
  refine fx_aload_n dX9_copyMoving_9 rfl rfl ?_
  obtain ⟨x3, hx3, h⟩ := xLet_el h
  refine gx_get dX9_copyMoving_10 rfl fd_9_57 ha1.1 rfl rfl hx3 ?_
  obtain ⟨m4, hm4, h⟩ := xLet_el h
  refine gx_put dX9_copyMoving_13 rfl fd_9_57 ha0.1 rfl rfl rfl hm4 ?_
  refine fx_aload_n dX9_copyMoving_16 rfl rfl ?_
  refine fx_aload_n dX9_copyMoving_17 rfl rfl ?_
  obtain ⟨x5, hx5, h⟩ := xLet_el h
  refine gx_get dX9_copyMoving_18 rfl fd_9_60 ha1.1 rfl rfl hx5 ?_
  obtain ⟨m6, hm6, h⟩ := xLet_el h
  refine gx_put dX9_copyMoving_21 rfl fd_9_60 ha0.1 rfl rfl rfl hm6 ?_
  refine fx_aload_n dX9_copyMoving_24 rfl rfl ?_
  refine fx_aload_n dX9_copyMoving_25 rfl rfl ?_
  obtain ⟨x7, hx7, h⟩ := xLet_el h
  refine gx_get dX9_copyMoving_26 rfl fd_9_110 ha1.1 rfl rfl hx7 ?_
  obtain ⟨m8, hm8, h⟩ := xLet_el h
  refine gx_put dX9_copyMoving_29 rfl fd_9_110 ha0.1 rfl rfl rfl hm8 ?_
  refine fx_aload_n dX9_copyMoving_32 rfl rfl ?_
  refine fx_aload_n dX9_copyMoving_33 rfl rfl ?_
  obtain ⟨x9, hx9, h⟩ := xLet_el h
  refine gx_get dX9_copyMoving_34 rfl fd_9_83 ha1.1 rfl rfl hx9 ?_
  obtain ⟨m10, hm10, h⟩ := xLet_el h
  refine gx_put dX9_copyMoving_37 rfl fd_9_83 ha0.1 rfl rfl rfl hm10 ?_
  refine fx_aload_n dX9_copyMoving_40 rfl rfl ?_
  refine fx_aload_n dX9_copyMoving_41 rfl rfl ?_
  obtain ⟨x11, hx11, h⟩ := xLet_el h
  refine gx_get dX9_copyMoving_42 rfl fd_9_113 ha1.1 rfl rfl hx11 ?_
  obtain ⟨m12, hm12, h⟩ := xLet_el h
  refine gx_put dX9_copyMoving_45 rfl fd_9_113 ha0.1 rfl rfl rfl hm12 ?_
  refine fx_aload_n dX9_copyMoving_48 rfl rfl ?_
  refine fx_aload_n dX9_copyMoving_49 rfl rfl ?_
  obtain ⟨x13, hx13, h⟩ := xLet_el h
  refine gx_get dX9_copyMoving_50 rfl fd_9_116 ha1.1 rfl rfl hx13 ?_
  obtain ⟨m14, hm14, h⟩ := xLet_el h
  refine gx_put dX9_copyMoving_53 rfl fd_9_116 ha0.1 rfl rfl rfl hm14 ?_
  refine fx_aload_n dX9_copyMoving_56 rfl rfl ?_
  refine fx_aload_n dX9_copyMoving_57 rfl rfl ?_
  obtain ⟨x15, hx15, h⟩ := xLet_el h
  refine gx_get dX9_copyMoving_58 rfl fd_9_119 ha1.1 rfl rfl hx15 ?_
  obtain ⟨m16, hm16, h⟩ := xLet_el h
  refine gx_put dX9_copyMoving_61 rfl fd_9_119 ha0.1 rfl rfl rfl hm16 ?_
  refine fx_iconst (x := 0) dX9_copyMoving_64 rfl (by decide) ?_
  refine fx_istore_n (ls2 := [some (.ref a0), some (.ref a1), some (.int (0 : Int32))]) dX9_copyMoving_65 rfl rfl rfl ?_
  exact fX9_copyMoving_66_ok hd ha0 ha1 xFuel (0 : Int32) m16 r h
def fX9_copyMoving (a0 : Nat) (a1 : Nat) (m : xMem) : Option xMem := fX9_copyMoving_0 a0 a1  m
theorem fX9_copyMoving_ok {a0 : Nat} {a1 : Nat} {m : xMem} {r : xMem} {d : Nat} (hd : 2 ≤ d) (ha0 : isStation a0) (ha1 : isStation a1) (h : fX9_copyMoving a0 a1 m = some r) : xEx d 208 [.ref a0, .ref a1] (xLay m) none (xLay r) := by
  obtain ⟨d, rfl⟩ : ∃ q, d = q + 1 := ⟨d - 1, by omega⟩
  exact xEx_of me_208 rfl (fX9_copyMoving_0_ok (d := d) (o2 := none) (by omega) ha0 ha1 rfl h)
def fX11_beginTrial_0 (a0 : Nat) (m : xMem) : Option (Nat × xMem) := (fX9_copyMoving (a0 + 167) (a0 + 1) m).bind fun p1 => (fX6_forgetRoutes (a0 + 250) p1).bind fun p2 => (fX11_law a0 p2).bind fun p3 => some (p3.1, p3.2)
set_option maxRecDepth 4000 in
theorem fX11_beginTrial_0_ok {a0 : Nat} {d : Nat} (hd : 2 ≤ d) (ha0 : isMS a0) {m : xMem} {r : (Nat × xMem)} (h : fX11_beginTrial_0 a0 m = some r) : xFx hh_207 cX11_beginTrial d 0 [some (.ref a0)] [] (xLay m) 0 0 (some (.ref r.1)) (xLay r.2) := by
  unfold fX11_beginTrial_0 at h
  refine fx_aload_n dX11_beginTrial_0 rfl rfl ?_
  refine gx_getr dX11_beginTrial_1 rfl fd_11_19 ha0.1 rfl rfl ?_
  refine fx_aload_n dX11_beginTrial_4 rfl rfl ?_
  refine gx_getr dX11_beginTrial_5 rfl fd_11_10 ha0.1 rfl rfl ?_
  obtain ⟨p1, ep1, h⟩ := xBind_el h
  refine gx_callv (as := [.ref (a0 + 1)]) (r := []) rfl dX11_beginTrial_8 ca_11_323 rfl me_208 rfl rfl rfl rfl (ha0.2.2.2.1.1) rfl (fX9_copyMoving_ok (d := d) (by omega) ha0.2.2.2.1 ha0.2.1 ep1) rfl rfl ?_
  refine fx_aload_n dX11_beginTrial_11 rfl rfl ?_
  refine gx_getr dX11_beginTrial_12 rfl fd_11_25 ha0.1 rfl rfl ?_
  obtain ⟨p2, ep2, h⟩ := xBind_el h
  refine gx_callv (as := []) (r := []) rfl dX11_beginTrial_15 ca_11_166 rfl me_118 rfl rfl rfl rfl (ha0.2.2.2.2.1.1) rfl (fX6_forgetRoutes_ok (d := d) (by omega) ha0.2.2.2.2.1 ep2) rfl rfl ?_
  refine fx_aload_n dX11_beginTrial_18 rfl rfl ?_
  obtain ⟨p3, ep3, h⟩ := xBind_el h
  refine gx_callv (as := []) (r := []) rfl dX11_beginTrial_19 ca_11_162 rfl me_117 rfl rfl rfl rfl (ha0.1) rfl (fX11_law_ok (d := d) (by omega) ha0 ep3) rfl rfl ?_
  have hqp3 : isText p3.1 := fX11_law_ref ha0 ep3
  cases h
  exact fx_areturn dX11_beginTrial_22 rfl rfl
def fX11_beginTrial (a0 : Nat) (m : xMem) : Option (Nat × xMem) := fX11_beginTrial_0 a0  m
theorem fX11_beginTrial_ok {a0 : Nat} {m : xMem} {r : (Nat × xMem)} {d : Nat} (hd : 3 ≤ d) (ha0 : isMS a0) (h : fX11_beginTrial a0 m = some r) : xEx d 207 [.ref a0] (xLay m) (some (.ref r.1)) (xLay r.2) := by
  obtain ⟨d, rfl⟩ : ∃ q, d = q + 1 := ⟨d - 1, by omega⟩
  exact xEx_of me_207 rfl (fX11_beginTrial_0_ok (d := d) (by omega) ha0 h)
theorem fX11_beginTrial_ref {a0 : Nat} {m : xMem} {p : Nat × xMem} (ha0 : isMS a0) (h : fX11_beginTrial a0 m = some p) : isText p.1 := by
  unfold fX11_beginTrial fX11_beginTrial_0 at h
  obtain ⟨p1, -, h⟩ := xBind_el h
  obtain ⟨p2, -, h⟩ := xBind_el h
  obtain ⟨p3, e3, h⟩ := xBind_el h
  cases h
  exact fX11_law_ref ha0 e3
def fX11_waitedByWays_54 (a0 : Nat) (a1 : Int32) (a2 : Int32) (a3 : Int32) (rec9 : Nat → Int32 → xMem → Option (Int32 × xMem)) (l4 : Nat) (l5 : Int32) (m : xMem) : Option (Int32 × xMem) := xLet (l5 + (1 : Int32)) fun x1 => rec9 l4 x1 m
set_option maxRecDepth 4000 in
theorem fX11_waitedByWays_54_ok {a0 : Nat} {a1 : Int32} {a2 : Int32} {a3 : Int32} {rec9 : Nat → Int32 → xMem → Option (Int32 × xMem)} {d : Nat} (hd : 6 ≤ d) (ha0 : isMS a0) (hrec9 : ∀ (l4 : Nat) (l5 : Int32) (m : xMem) (r : (Int32 × xMem)) (hl4 : isText l4), rec9 l4 l5 m = some r → xFx hh_206 cX11_waitedByWays d 9 [some (.ref a0), some (.int a1), some (.int a2), some (.int a3), some (.ref l4), some (.int l5)] [] (xLay m) 0 0 (some (.int r.1)) (xLay r.2)) {l4 : Nat} {l5 : Int32} {m : xMem} {r : (Int32 × xMem)} (hl4 : isText l4) (h : fX11_waitedByWays_54 a0 a1 a2 a3 rec9 l4 l5 m = some r) : xFx hh_206 cX11_waitedByWays d 54 [some (.ref a0), some (.int a1), some (.int a2), some (.int a3), some (.ref l4), some (.int l5)] [] (xLay m) 0 0 (some (.int r.1)) (xLay r.2) := by
  unfold fX11_waitedByWays_54 at h
  obtain ⟨x1, hx1, h⟩ := xLet_el h
  refine fx_iinc (ls2 := [some (.ref a0), some (.int a1), some (.int a2), some (.int a3), some (.ref l4), some (.int x1)]) dX11_waitedByWays_54 rfl rfl rfl hx1 rfl ?_
  refine fx_goto (t := 9) dX11_waitedByWays_57 rfl rfl ?_
  exact hrec9 l4 x1 m r hl4 h
def fX11_waitedByWays_51 (a0 : Nat) (a1 : Int32) (a2 : Int32) (a3 : Int32) (rec9 : Nat → Int32 → xMem → Option (Int32 × xMem)) (l4 : Nat) (l5 : Int32) (s0 : Nat) (s1 : Int32) (m : xMem) : Option (Int32 × xMem) := (fX3_turnTo s0 s1 m).bind fun p1 => fX11_waitedByWays_54 a0 a1 a2 a3 rec9 l4 l5 p1
set_option maxRecDepth 4000 in
theorem fX11_waitedByWays_51_ok {a0 : Nat} {a1 : Int32} {a2 : Int32} {a3 : Int32} {rec9 : Nat → Int32 → xMem → Option (Int32 × xMem)} {d : Nat} (hd : 6 ≤ d) (ha0 : isMS a0) (hrec9 : ∀ (l4 : Nat) (l5 : Int32) (m : xMem) (r : (Int32 × xMem)) (hl4 : isText l4), rec9 l4 l5 m = some r → xFx hh_206 cX11_waitedByWays d 9 [some (.ref a0), some (.int a1), some (.int a2), some (.int a3), some (.ref l4), some (.int l5)] [] (xLay m) 0 0 (some (.int r.1)) (xLay r.2)) {l4 : Nat} {l5 : Int32} {s0 : Nat} {s1 : Int32} {m : xMem} {r : (Int32 × xMem)} (hl4 : isText l4) (hs0 : isLink s0) (h : fX11_waitedByWays_51 a0 a1 a2 a3 rec9 l4 l5 s0 s1 m = some r) : xFx hh_206 cX11_waitedByWays d 51 [some (.ref a0), some (.int a1), some (.int a2), some (.int a3), some (.ref l4), some (.int l5)] [.int s1, .ref s0] (xLay m) 0 0 (some (.int r.1)) (xLay r.2) := by
  unfold fX11_waitedByWays_51 at h
  obtain ⟨p1, ep1, h⟩ := xBind_el h
  refine gx_callv (as := [.int s1]) (r := []) rfl dX11_waitedByWays_51 ca_11_87 rfl me_30 rfl rfl rfl rfl (hs0.1) rfl (fX3_turnTo_ok (d := d) (by omega) hs0 ep1) rfl rfl ?_
  exact fX11_waitedByWays_54_ok hd ha0 hrec9 hl4 h
def fX11_waitedByWays_63 (a0 : Nat) (a1 : Int32) (a2 : Int32) (a3 : Int32) : Nat → Nat → Int32 → xMem → Option (Int32 × xMem)
  | 0, _, _, _ => none
  | fuel + 1, l4, l5, m => if a3 ≤ l5 then xLet (m.1 (a0 + 167) 13) fun x2 => xLet (m.1 (a0 + 1) 13) fun x3 => xLet (x2 - x3) fun x4 => some (x4, m) else (fX6_passSecond (a0 + 250) (a0 + 167) l4 m).bind fun p5 => xLet (l5 + (1 : Int32)) fun x6 => fX11_waitedByWays_63 a0 a1 a2 a3 fuel l4 x6 p5
set_option maxRecDepth 4000 in
theorem fX11_waitedByWays_63_ok {a0 : Nat} {a1 : Int32} {a2 : Int32} {a3 : Int32} {d : Nat} (hd : 6 ≤ d) (ha0 : isMS a0) : ∀ (fuel : Nat) (l4 : Nat) (l5 : Int32) (m : xMem) (r : (Int32 × xMem)) (hl4 : isText l4), fX11_waitedByWays_63 a0 a1 a2 a3 fuel l4 l5 m = some r → xFx hh_206 cX11_waitedByWays d 63 [some (.ref a0), some (.int a1), some (.int a2), some (.int a3), some (.ref l4), some (.int l5)] [] (xLay m) 0 0 (some (.int r.1)) (xLay r.2) := by
  intro fuel
  induction fuel with
  | zero => intro l4 l5  m r hl4 h; cases h
  | succ fuel ih =>
    intro l4 l5  m r hl4 h
    unfold fX11_waitedByWays_63 at h
    refine fx_iload dX11_waitedByWays_63 rfl rfl ?_
    refine fx_iload_n dX11_waitedByWays_65 rfl rfl ?_
    refine fx_icmp_ge (t := 88) dX11_waitedByWays_66 rfl rfl (fun hc1 => ?_) (fun hc1 => ?_)
    · rw [if_pos hc1] at h
      refine fx_aload_n dX11_waitedByWays_88 rfl rfl ?_
      refine gx_getr dX11_waitedByWays_89 rfl fd_11_19 ha0.1 rfl rfl ?_
      obtain ⟨x2, hx2, h⟩ := xLet_el h
      refine gx_get dX11_waitedByWays_92 rfl fd_11_228 ha0.2.2.2.1.1 rfl rfl hx2 ?_
      refine fx_aload_n dX11_waitedByWays_95 rfl rfl ?_
      refine gx_getr dX11_waitedByWays_96 rfl fd_11_10 ha0.1 rfl rfl ?_
      obtain ⟨x3, hx3, h⟩ := xLet_el h
      refine gx_get dX11_waitedByWays_99 rfl fd_11_228 ha0.2.1.1 rfl rfl hx3 ?_
      obtain ⟨x4, hx4, h⟩ := xLet_el h
      refine fx_isub dX11_waitedByWays_102 rfl hx4 ?_
      cases h
      exact fx_ireturn dX11_waitedByWays_103 rfl rfl
    · rw [if_neg hc1] at h
      refine fx_aload_n dX11_waitedByWays_69 rfl rfl ?_
      refine gx_getr dX11_waitedByWays_70 rfl fd_11_25 ha0.1 rfl rfl ?_
      refine fx_aload_n dX11_waitedByWays_73 rfl rfl ?_
      refine gx_getr dX11_waitedByWays_74 rfl fd_11_19 ha0.1 rfl rfl ?_
      refine fx_aload dX11_waitedByWays_77 rfl rfl ?_
      obtain ⟨p5, ep5, h⟩ := xBind_el h
      refine gx_callv (as := [.ref (a0 + 167), .ref l4]) (r := []) rfl dX11_waitedByWays_79 ca_11_169 rfl me_120 rfl rfl rfl rfl (ha0.2.2.2.2.1.1) rfl (fX6_passSecond_ok (d := d) (by omega) ha0.2.2.2.2.1 ha0.2.2.2.1 hl4 ep5) rfl rfl ?_
      obtain ⟨x6, hx6, h⟩ := xLet_el h
      refine fx_iinc (ls2 := [some (.ref a0), some (.int a1), some (.int a2), some (.int a3), some (.ref l4), some (.int x6)]) dX11_waitedByWays_82 rfl rfl rfl hx6 rfl ?_
      refine fx_goto (t := 63) dX11_waitedByWays_85 rfl rfl ?_
      exact ih l4 x6 p5 r hl4 h
def fX11_waitedByWays_9 (a0 : Nat) (a1 : Int32) (a2 : Int32) (a3 : Int32) : Nat → Nat → Int32 → xMem → Option (Int32 × xMem)
  | 0, _, _, _ => none
  | fuel + 1, l4, l5, m => if (10 : Int32) ≤ l5 then fX11_waitedByWays_63 a0 a1 a2 a3 xFuel l4 (0 : Int32) m else xLet (a1 >>> (l5 &&& 31)) fun x2 => xLet (x2 &&& (1 : Int32)) fun x3 => if ¬ x3 = (1 : Int32) then fX11_waitedByWays_54 a0 a1 a2 a3 (fX11_waitedByWays_9 a0 a1 a2 a3 fuel) l4 l5 m else bif xIn l5 10 then xLet (a0 + 167 + 33 + 2 * l5.toNatClampNeg) fun r6 => xLet (a2 >>> (l5 &&& 31)) fun x7 => xLet (x7 &&& (1 : Int32)) fun x8 => if ¬ x8 = (1 : Int32) then fX11_waitedByWays_51 a0 a1 a2 a3 (fX11_waitedByWays_9 a0 a1 a2 a3 fuel) l4 l5 r6 (2 : Int32) m else fX11_waitedByWays_51 a0 a1 a2 a3 (fX11_waitedByWays_9 a0 a1 a2 a3 fuel) l4 l5 r6 (1 : Int32) m else none
set_option maxRecDepth 4000 in
theorem fX11_waitedByWays_9_ok {a0 : Nat} {a1 : Int32} {a2 : Int32} {a3 : Int32} {d : Nat} (hd : 6 ≤ d) (ha0 : isMS a0) : ∀ (fuel : Nat) (l4 : Nat) (l5 : Int32) (m : xMem) (r : (Int32 × xMem)) (hl4 : isText l4), fX11_waitedByWays_9 a0 a1 a2 a3 fuel l4 l5 m = some r → xFx hh_206 cX11_waitedByWays d 9 [some (.ref a0), some (.int a1), some (.int a2), some (.int a3), some (.ref l4), some (.int l5)] [] (xLay m) 0 0 (some (.int r.1)) (xLay r.2) := by
  intro fuel
  induction fuel with
  | zero => intro l4 l5  m r hl4 h; cases h
  | succ fuel ih =>
    intro l4 l5  m r hl4 h
    unfold fX11_waitedByWays_9 at h
    refine fx_iload dX11_waitedByWays_9 rfl rfl ?_
    refine fx_bipush (x := 10) dX11_waitedByWays_11 rfl (by decide) ?_
    refine fx_icmp_ge (t := 60) dX11_waitedByWays_13 rfl rfl (fun hc1 => ?_) (fun hc1 => ?_)
    · rw [if_pos hc1] at h
      refine fx_iconst (x := 0) dX11_waitedByWays_60 rfl (by decide) ?_
      refine fx_istore (ls2 := [some (.ref a0), some (.int a1), some (.int a2), some (.int a3), some (.ref l4), some (.int (0 : Int32))]) dX11_waitedByWays_61 rfl rfl rfl ?_
      exact fX11_waitedByWays_63_ok hd ha0 xFuel l4 (0 : Int32) m r hl4 h
    · rw [if_neg hc1] at h
      refine fx_iload_n dX11_waitedByWays_16 rfl rfl ?_
      refine fx_iload dX11_waitedByWays_17 rfl rfl ?_
      obtain ⟨x2, hx2, h⟩ := xLet_el h
      refine fx_ishr dX11_waitedByWays_19 rfl hx2 ?_
      refine fx_iconst (x := 1) dX11_waitedByWays_20 rfl (by decide) ?_
      obtain ⟨x3, hx3, h⟩ := xLet_el h
      refine fx_iand dX11_waitedByWays_21 rfl hx3 ?_
      refine fx_iconst (x := 1) dX11_waitedByWays_22 rfl (by decide) ?_
      refine fx_icmp_ne (t := 54) dX11_waitedByWays_23 rfl rfl (fun hc4 => ?_) (fun hc4 => ?_)
      · rw [if_pos hc4] at h
        exact fX11_waitedByWays_54_ok hd ha0 ih hl4 h
      · rw [if_neg hc4] at h
        refine fx_aload_n dX11_waitedByWays_26 rfl rfl ?_
        refine gx_getr dX11_waitedByWays_27 rfl fd_11_19 ha0.1 rfl rfl ?_
        refine gx_getr dX11_waitedByWays_30 rfl fd_11_75 ha0.2.2.2.1.1 rfl rfl ?_
        refine fx_iload dX11_waitedByWays_33 rfl rfl ?_
        obtain ⟨hj5, h⟩ := xChk_el h
        obtain ⟨r6, hr6, h⟩ := xLet_el h
        refine gx_aaload (t := 5) dX11_waitedByWays_35 rfl ha0.2.2.2.1.2.2.1 rfl hj5 ((xRef_at (sl_9_1 (a0 + 167)) hj5).trans (congrArg some hr6)) ?_
        have hpr6 : isLink r6 := by rw [← hr6]; exact ha0.2.2.2.1.2.2.2.2.2.2.2.2.1 _ (xIn_lt hj5)
        refine fx_iload_n dX11_waitedByWays_36 rfl rfl ?_
        refine fx_iload dX11_waitedByWays_37 rfl rfl ?_
        obtain ⟨x7, hx7, h⟩ := xLet_el h
        refine fx_ishr dX11_waitedByWays_39 rfl hx7 ?_
        refine fx_iconst (x := 1) dX11_waitedByWays_40 rfl (by decide) ?_
        obtain ⟨x8, hx8, h⟩ := xLet_el h
        refine fx_iand dX11_waitedByWays_41 rfl hx8 ?_
        refine fx_iconst (x := 1) dX11_waitedByWays_42 rfl (by decide) ?_
        refine fx_icmp_ne (t := 50) dX11_waitedByWays_43 rfl rfl (fun hc9 => ?_) (fun hc9 => ?_)
        · rw [if_pos hc9] at h
          refine fx_iconst (x := 2) dX11_waitedByWays_50 rfl (by decide) ?_
          exact fX11_waitedByWays_51_ok hd ha0 ih hl4 hpr6 h
        · rw [if_neg hc9] at h
          refine fx_iconst (x := 1) dX11_waitedByWays_46 rfl (by decide) ?_
          refine fx_goto (t := 51) dX11_waitedByWays_47 rfl rfl ?_
          exact fX11_waitedByWays_51_ok hd ha0 ih hl4 hpr6 h
def fX11_waitedByWays_0 (a0 : Nat) (a1 : Int32) (a2 : Int32) (a3 : Int32) (m : xMem) : Option (Int32 × xMem) := (fX11_beginTrial a0 m).bind fun p1 => fX11_waitedByWays_9 a0 a1 a2 a3 xFuel p1.1 (0 : Int32) p1.2
set_option maxRecDepth 4000 in
theorem fX11_waitedByWays_0_ok {a0 : Nat} {a1 : Int32} {a2 : Int32} {a3 : Int32} {d : Nat} (hd : 6 ≤ d) (ha0 : isMS a0) {o4 : Option Value} {o5 : Option Value} {m : xMem} {r : (Int32 × xMem)} (q4 : xNoD o4 = true) (q5 : xNoD o5 = true) (h : fX11_waitedByWays_0 a0 a1 a2 a3 m = some r) : xFx hh_206 cX11_waitedByWays d 0 [some (.ref a0), some (.int a1), some (.int a2), some (.int a3), o4, o5] [] (xLay m) 0 0 (some (.int r.1)) (xLay r.2) := by
  unfold fX11_waitedByWays_0 at h
  refine fx_aload_n dX11_waitedByWays_0 rfl rfl ?_
  obtain ⟨p1, ep1, h⟩ := xBind_el h
  refine gx_callv (as := []) (r := []) rfl dX11_waitedByWays_1 ca_11_246 rfl me_207 rfl rfl rfl rfl (ha0.1) rfl (fX11_beginTrial_ok (d := d) (by omega) ha0 ep1) rfl rfl ?_
  have hqp1 : isText p1.1 := fX11_beginTrial_ref ha0 ep1
  refine fx_astore (ls2 := [some (.ref a0), some (.int a1), some (.int a2), some (.int a3), some (.ref p1.1), o5]) dX11_waitedByWays_4 rfl rfl rfl ?_
  refine fx_iconst (x := 0) dX11_waitedByWays_6 rfl (by decide) ?_
  refine fx_istore (ls2 := [some (.ref a0), some (.int a1), some (.int a2), some (.int a3), some (.ref p1.1), some (.int (0 : Int32))]) dX11_waitedByWays_7 rfl rfl rfl ?_
  exact fX11_waitedByWays_9_ok hd ha0 xFuel p1.1 (0 : Int32) p1.2 r hqp1 h
def fX11_waitedByWays (a0 : Nat) (a1 : Int32) (a2 : Int32) (a3 : Int32) (m : xMem) : Option (Int32 × xMem) := fX11_waitedByWays_0 a0 a1 a2 a3  m
theorem fX11_waitedByWays_ok {a0 : Nat} {a1 : Int32} {a2 : Int32} {a3 : Int32} {m : xMem} {r : (Int32 × xMem)} {d : Nat} (hd : 7 ≤ d) (ha0 : isMS a0) (h : fX11_waitedByWays a0 a1 a2 a3 m = some r) : xEx d 206 [.ref a0, .int a1, .int a2, .int a3] (xLay m) (some (.int r.1)) (xLay r.2) := by
  obtain ⟨d, rfl⟩ : ∃ q, d = q + 1 := ⟨d - 1, by omega⟩
  exact xEx_of me_206 rfl (fX11_waitedByWays_0_ok (d := d) (o4 := none) (o5 := none) (by omega) ha0 rfl rfl h)
def fX11_ways_25 (a0 : Nat) (a1 : Int32) (a2 : Int32) (a3 : Int32) (m : xMem) : Option (Int32 × xMem) := some ((-1 : Int32), m)
set_option maxRecDepth 4000 in
theorem fX11_ways_25_ok {a0 : Nat} {a1 : Int32} {a2 : Int32} {a3 : Int32} {d : Nat} (hd : 7 ≤ d) (ha0 : isMS a0) {o4 : Option Value} {o5 : Option Value} {o6 : Option Value} {o7 : Option Value} {o8 : Option Value} {m : xMem} {r : (Int32 × xMem)} (q4 : xNoD o4 = true) (q5 : xNoD o5 = true) (q6 : xNoD o6 = true) (q7 : xNoD o7 = true) (q8 : xNoD o8 = true) (h : fX11_ways_25 a0 a1 a2 a3 m = some r) : xFx hh_203 cX11_ways d 25 [some (.ref a0), some (.int a1), some (.int a2), some (.int a3), o4, o5, o6, o7, o8] [] (xLay m) 0 0 (some (.int r.1)) (xLay r.2) := by
  unfold fX11_ways_25 at h
  refine fx_iconst (x := -1) dX11_ways_25 rfl (by decide) ?_
  cases h
  exact fx_ireturn dX11_ways_26 rfl rfl
def fX11_ways_110 (a0 : Nat) (a1 : Int32) (a2 : Int32) (a3 : Int32) (s0 : Int32) (m : xMem) : Option (Int32 × xMem) := some (s0, m)
set_option maxRecDepth 4000 in
theorem fX11_ways_110_ok {a0 : Nat} {a1 : Int32} {a2 : Int32} {a3 : Int32} {d : Nat} (hd : 7 ≤ d) (ha0 : isMS a0) {s0 : Int32} {o4 : Option Value} {o5 : Option Value} {o6 : Option Value} {o7 : Option Value} {o8 : Option Value} {m : xMem} {r : (Int32 × xMem)} (q4 : xNoD o4 = true) (q5 : xNoD o5 = true) (q6 : xNoD o6 = true) (q7 : xNoD o7 = true) (q8 : xNoD o8 = true) (h : fX11_ways_110 a0 a1 a2 a3 s0 m = some r) : xFx hh_203 cX11_ways d 110 [some (.ref a0), some (.int a1), some (.int a2), some (.int a3), o4, o5, o6, o7, o8] [.int s0] (xLay m) 0 0 (some (.int r.1)) (xLay r.2) := by
  unfold fX11_ways_110 at h
  cases h
  exact fx_ireturn dX11_ways_110 rfl rfl
def fX11_ways_99 (a0 : Nat) (a1 : Int32) (a2 : Int32) (a3 : Int32) (l4 : Int32) (l5 : Int32) (m : xMem) : Option (Int32 × xMem) := if ¬ a3 = (0 : Int32) then fX11_ways_110 a0 a1 a2 a3 l5 m else fX11_ways_110 a0 a1 a2 a3 l4 m
set_option maxRecDepth 4000 in
theorem fX11_ways_99_ok {a0 : Nat} {a1 : Int32} {a2 : Int32} {a3 : Int32} {d : Nat} (hd : 7 ≤ d) (ha0 : isMS a0) {l4 : Int32} {l5 : Int32} {o6 : Option Value} {o7 : Option Value} {o8 : Option Value} {m : xMem} {r : (Int32 × xMem)} (q6 : xNoD o6 = true) (q7 : xNoD o7 = true) (q8 : xNoD o8 = true) (h : fX11_ways_99 a0 a1 a2 a3 l4 l5 m = some r) : xFx hh_203 cX11_ways d 99 [some (.ref a0), some (.int a1), some (.int a2), some (.int a3), some (.int l4), some (.int l5), o6, o7, o8] [] (xLay m) 0 0 (some (.int r.1)) (xLay r.2) := by
  unfold fX11_ways_99 at h
  refine fx_iload_n dX11_ways_99 rfl rfl ?_
  refine fx_if_ne (t := 108) dX11_ways_100 rfl rfl (fun hc1 => ?_) (fun hc1 => ?_)
  · rw [if_pos hc1] at h
    refine fx_iload dX11_ways_108 rfl rfl ?_
    exact fX11_ways_110_ok (o4 := some (.int l4)) (o5 := some (.int l5)) (o6 := o6) (o7 := o7) (o8 := o8) hd ha0 rfl rfl q6 q7 q8 h
  · rw [if_neg hc1] at h
    refine fx_iload dX11_ways_103 rfl rfl ?_
    refine fx_goto (t := 110) dX11_ways_105 rfl rfl ?_
    exact fX11_ways_110_ok (o4 := some (.int l4)) (o5 := some (.int l5)) (o6 := o6) (o7 := o7) (o8 := o8) hd ha0 rfl rfl q6 q7 q8 h
def fX11_ways_93 (a0 : Nat) (a1 : Int32) (a2 : Int32) (a3 : Int32) (rec45 : Int32 → Int32 → Int32 → Int32 → xMem → Option (Int32 × xMem)) (l4 : Int32) (l5 : Int32) (l6 : Int32) (l7 : Int32) (m : xMem) : Option (Int32 × xMem) := xLet (l7 + (1 : Int32)) fun x1 => rec45 l4 l5 l6 x1 m
set_option maxRecDepth 4000 in
theorem fX11_ways_93_ok {a0 : Nat} {a1 : Int32} {a2 : Int32} {a3 : Int32} {rec45 : Int32 → Int32 → Int32 → Int32 → xMem → Option (Int32 × xMem)} {d : Nat} (hd : 7 ≤ d) (ha0 : isMS a0) (hrec45 : ∀ (l4 : Int32) (l5 : Int32) (l6 : Int32) (l7 : Int32) (o8 : Option Value) (q8 : xNoD o8 = true) (m : xMem) (r : (Int32 × xMem)), rec45 l4 l5 l6 l7 m = some r → xFx hh_203 cX11_ways d 45 [some (.ref a0), some (.int a1), some (.int a2), some (.int a3), some (.int l4), some (.int l5), some (.int l6), some (.int l7), o8] [] (xLay m) 0 0 (some (.int r.1)) (xLay r.2)) {l4 : Int32} {l5 : Int32} {l6 : Int32} {l7 : Int32} {o8 : Option Value} {m : xMem} {r : (Int32 × xMem)} (q8 : xNoD o8 = true) (h : fX11_ways_93 a0 a1 a2 a3 rec45 l4 l5 l6 l7 m = some r) : xFx hh_203 cX11_ways d 93 [some (.ref a0), some (.int a1), some (.int a2), some (.int a3), some (.int l4), some (.int l5), some (.int l6), some (.int l7), o8] [] (xLay m) 0 0 (some (.int r.1)) (xLay r.2) := by
  unfold fX11_ways_93 at h
  obtain ⟨x1, hx1, h⟩ := xLet_el h
  refine fx_iinc (ls2 := [some (.ref a0), some (.int a1), some (.int a2), some (.int a3), some (.int l4), some (.int l5), some (.int l6), some (.int x1), o8]) dX11_ways_93 rfl rfl rfl hx1 rfl ?_
  refine fx_goto (t := 45) dX11_ways_96 rfl rfl ?_
  exact hrec45 l4 l5 l6 x1 (o8) q8 m r h
def fX11_ways_45 (a0 : Nat) (a1 : Int32) (a2 : Int32) (a3 : Int32) : Nat → Int32 → Int32 → Int32 → Int32 → xMem → Option (Int32 × xMem)
  | 0, _, _, _, _, _ => none
  | fuel + 1, l4, l5, l6, l7, m => if (32 : Int32) ≤ l7 then fX11_ways_99 a0 a1 a2 a3 l4 l5 m else xLet (l6 - a1) fun x2 => xLet (x2 &&& a1) fun x3 => if ¬ x3 = (0 : Int32) then (fX11_waitedByWays a0 a1 x3 a2 m).bind fun p5 => if l5 ≤ p5.1 then fX11_ways_93 a0 a1 a2 a3 (fX11_ways_45 a0 a1 a2 a3 fuel) l4 l5 x3 l7 p5.2 else fX11_ways_93 a0 a1 a2 a3 (fX11_ways_45 a0 a1 a2 a3 fuel) x3 p5.1 x3 l7 p5.2 else fX11_ways_99 a0 a1 a2 a3 l4 l5 m
set_option maxRecDepth 4000 in
theorem fX11_ways_45_ok {a0 : Nat} {a1 : Int32} {a2 : Int32} {a3 : Int32} {d : Nat} (hd : 7 ≤ d) (ha0 : isMS a0) : ∀ (fuel : Nat) (l4 : Int32) (l5 : Int32) (l6 : Int32) (l7 : Int32) (o8 : Option Value) (q8 : xNoD o8 = true) (m : xMem) (r : (Int32 × xMem)), fX11_ways_45 a0 a1 a2 a3 fuel l4 l5 l6 l7 m = some r → xFx hh_203 cX11_ways d 45 [some (.ref a0), some (.int a1), some (.int a2), some (.int a3), some (.int l4), some (.int l5), some (.int l6), some (.int l7), o8] [] (xLay m) 0 0 (some (.int r.1)) (xLay r.2) := by
  intro fuel
  induction fuel with
  | zero => intro l4 l5 l6 l7 o8 q8 m r  h; cases h
  | succ fuel ih =>
    intro l4 l5 l6 l7 o8 q8 m r  h
    unfold fX11_ways_45 at h
    refine fx_iload dX11_ways_45 rfl rfl ?_
    refine fx_bipush (x := 32) dX11_ways_47 rfl (by decide) ?_
    refine fx_icmp_ge (t := 99) dX11_ways_49 rfl rfl (fun hc1 => ?_) (fun hc1 => ?_)
    · rw [if_pos hc1] at h
      exact fX11_ways_99_ok (o6 := some (.int l6)) (o7 := some (.int l7)) (o8 := o8) hd ha0 rfl rfl q8 h
    · rw [if_neg hc1] at h
      refine fx_iload dX11_ways_52 rfl rfl ?_
      refine fx_iload_n dX11_ways_54 rfl rfl ?_
      obtain ⟨x2, hx2, h⟩ := xLet_el h
      refine fx_isub dX11_ways_55 rfl hx2 ?_
      refine fx_iload_n dX11_ways_56 rfl rfl ?_
      obtain ⟨x3, hx3, h⟩ := xLet_el h
      refine fx_iand dX11_ways_57 rfl hx3 ?_
      refine fx_istore (ls2 := [some (.ref a0), some (.int a1), some (.int a2), some (.int a3), some (.int l4), some (.int l5), some (.int x3), some (.int l7), o8]) dX11_ways_58 rfl rfl rfl ?_
      refine fx_iload dX11_ways_60 rfl rfl ?_
      refine fx_if_ne (t := 68) dX11_ways_62 rfl rfl (fun hc4 => ?_) (fun hc4 => ?_)
      · rw [if_pos hc4] at h
        refine fx_aload_n dX11_ways_68 rfl rfl ?_
        refine fx_iload_n dX11_ways_69 rfl rfl ?_
        refine fx_iload dX11_ways_70 rfl rfl ?_
        refine fx_iload_n dX11_ways_72 rfl rfl ?_
        obtain ⟨p5, ep5, h⟩ := xBind_el h
        refine gx_callv (as := [.int a1, .int x3, .int a2]) (r := []) rfl dX11_ways_73 ca_11_240 rfl me_206 rfl rfl rfl rfl (ha0.1) rfl (fX11_waitedByWays_ok (d := d) (by omega) ha0 ep5) rfl rfl ?_
        refine fx_istore (ls2 := [some (.ref a0), some (.int a1), some (.int a2), some (.int a3), some (.int l4), some (.int l5), some (.int x3), some (.int l7), some (.int p5.1)]) dX11_ways_76 rfl rfl rfl ?_
        refine fx_iload dX11_ways_78 rfl rfl ?_
        refine fx_iload dX11_ways_80 rfl rfl ?_
        refine fx_icmp_ge (t := 93) dX11_ways_82 rfl rfl (fun hc6 => ?_) (fun hc6 => ?_)
        · rw [if_pos hc6] at h
          exact fX11_ways_93_ok (o8 := some (.int p5.1)) hd ha0 ih rfl h
        · rw [if_neg hc6] at h
          refine fx_iload dX11_ways_85 rfl rfl ?_
          refine fx_istore (ls2 := [some (.ref a0), some (.int a1), some (.int a2), some (.int a3), some (.int x3), some (.int l5), some (.int x3), some (.int l7), some (.int p5.1)]) dX11_ways_87 rfl rfl rfl ?_
          refine fx_iload dX11_ways_89 rfl rfl ?_
          refine fx_istore (ls2 := [some (.ref a0), some (.int a1), some (.int a2), some (.int a3), some (.int x3), some (.int p5.1), some (.int x3), some (.int l7), some (.int p5.1)]) dX11_ways_91 rfl rfl rfl ?_
          exact fX11_ways_93_ok (o8 := some (.int p5.1)) hd ha0 ih rfl h
      · rw [if_neg hc4] at h
        refine fx_goto (t := 99) dX11_ways_65 rfl rfl ?_
        exact fX11_ways_99_ok (o6 := some (.int x3)) (o7 := some (.int l7)) (o8 := o8) hd ha0 rfl rfl q8 h
def fX11_ways_0 (a0 : Nat) (a1 : Int32) (a2 : Int32) (a3 : Int32) (m : xMem) : Option (Int32 × xMem) := (fX11_within a3 (0 : Int32) (1 : Int32) m).bind fun p1 => if p1.1 = (0 : Int32) then fX11_ways_25 a0 a1 a2 a3 p1.2 else (fX11_mayRun a0 a2 p1.2).bind fun p3 => if p3.1 = (0 : Int32) then fX11_ways_25 a0 a1 a2 a3 p3.2 else (fX11_mayTurn a0 a1 p3.2).bind fun p5 => if ¬ p5.1 = (0 : Int32) then (fX11_waitedByWays a0 a1 (0 : Int32) a2 p5.2).bind fun p7 => fX11_ways_45 a0 a1 a2 a3 xFuel (0 : Int32) p7.1 (0 : Int32) (1 : Int32) p7.2 else fX11_ways_25 a0 a1 a2 a3 p5.2
set_option maxRecDepth 4000 in
theorem fX11_ways_0_ok {a0 : Nat} {a1 : Int32} {a2 : Int32} {a3 : Int32} {d : Nat} (hd : 7 ≤ d) (ha0 : isMS a0) {o4 : Option Value} {o5 : Option Value} {o6 : Option Value} {o7 : Option Value} {o8 : Option Value} {m : xMem} {r : (Int32 × xMem)} (q4 : xNoD o4 = true) (q5 : xNoD o5 = true) (q6 : xNoD o6 = true) (q7 : xNoD o7 = true) (q8 : xNoD o8 = true) (h : fX11_ways_0 a0 a1 a2 a3 m = some r) : xFx hh_203 cX11_ways d 0 [some (.ref a0), some (.int a1), some (.int a2), some (.int a3), o4, o5, o6, o7, o8] [] (xLay m) 0 0 (some (.int r.1)) (xLay r.2) := by
  unfold fX11_ways_0 at h
  refine fx_iload_n dX11_ways_0 rfl rfl ?_
  refine fx_iconst (x := 0) dX11_ways_1 rfl (by decide) ?_
  refine fx_iconst (x := 1) dX11_ways_2 rfl (by decide) ?_
  obtain ⟨p1, ep1, h⟩ := xBind_el h
  refine gx_calls (as := [.int a3, .int (0 : Int32), .int (1 : Int32)]) (r := []) rfl dX11_ways_3 ca_11_47 rfl me_14 rfl rfl rfl rfl (fX11_within_ok (d := d) (by omega) ep1) rfl rfl ?_
  refine fx_if_eq (t := 25) dX11_ways_6 rfl rfl (fun hc2 => ?_) (fun hc2 => ?_)
  · rw [if_pos hc2] at h
    exact fX11_ways_25_ok (o4 := o4) (o5 := o5) (o6 := o6) (o7 := o7) (o8 := o8) hd ha0 q4 q5 q6 q7 q8 h
  · rw [if_neg hc2] at h
    refine fx_aload_n dX11_ways_9 rfl rfl ?_
    refine fx_iload_n dX11_ways_10 rfl rfl ?_
    obtain ⟨p3, ep3, h⟩ := xBind_el h
    refine gx_callv (as := [.int a2]) (r := []) rfl dX11_ways_11 ca_11_159 rfl me_116 rfl rfl rfl rfl (ha0.1) rfl (fX11_mayRun_ok (d := d) (by omega) ha0 ep3) rfl rfl ?_
    refine fx_if_eq (t := 25) dX11_ways_14 rfl rfl (fun hc4 => ?_) (fun hc4 => ?_)
    · rw [if_pos hc4] at h
      exact fX11_ways_25_ok (o4 := o4) (o5 := o5) (o6 := o6) (o7 := o7) (o8 := o8) hd ha0 q4 q5 q6 q7 q8 h
    · rw [if_neg hc4] at h
      refine fx_aload_n dX11_ways_17 rfl rfl ?_
      refine fx_iload_n dX11_ways_18 rfl rfl ?_
      obtain ⟨p5, ep5, h⟩ := xBind_el h
      refine gx_callv (as := [.int a1]) (r := []) rfl dX11_ways_19 ca_11_237 rfl me_204 rfl rfl rfl rfl (ha0.1) rfl (fX11_mayTurn_ok (d := d) (by omega) ha0 ep5) rfl rfl ?_
      refine fx_if_ne (t := 27) dX11_ways_22 rfl rfl (fun hc6 => ?_) (fun hc6 => ?_)
      · rw [if_pos hc6] at h
        refine fx_iconst (x := 0) dX11_ways_27 rfl (by decide) ?_
        refine fx_istore (ls2 := [some (.ref a0), some (.int a1), some (.int a2), some (.int a3), some (.int (0 : Int32)), o5, o6, o7, o8]) dX11_ways_28 rfl rfl rfl ?_
        refine fx_aload_n dX11_ways_30 rfl rfl ?_
        refine fx_iload_n dX11_ways_31 rfl rfl ?_
        refine fx_iconst (x := 0) dX11_ways_32 rfl (by decide) ?_
        refine fx_iload_n dX11_ways_33 rfl rfl ?_
        obtain ⟨p7, ep7, h⟩ := xBind_el h
        refine gx_callv (as := [.int a1, .int (0 : Int32), .int a2]) (r := []) rfl dX11_ways_34 ca_11_240 rfl me_206 rfl rfl rfl rfl (ha0.1) rfl (fX11_waitedByWays_ok (d := d) (by omega) ha0 ep7) rfl rfl ?_
        refine fx_istore (ls2 := [some (.ref a0), some (.int a1), some (.int a2), some (.int a3), some (.int (0 : Int32)), some (.int p7.1), o6, o7, o8]) dX11_ways_37 rfl rfl rfl ?_
        refine fx_iconst (x := 0) dX11_ways_39 rfl (by decide) ?_
        refine fx_istore (ls2 := [some (.ref a0), some (.int a1), some (.int a2), some (.int a3), some (.int (0 : Int32)), some (.int p7.1), some (.int (0 : Int32)), o7, o8]) dX11_ways_40 rfl rfl rfl ?_
        refine fx_iconst (x := 1) dX11_ways_42 rfl (by decide) ?_
        refine fx_istore (ls2 := [some (.ref a0), some (.int a1), some (.int a2), some (.int a3), some (.int (0 : Int32)), some (.int p7.1), some (.int (0 : Int32)), some (.int (1 : Int32)), o8]) dX11_ways_43 rfl rfl rfl ?_
        exact fX11_ways_45_ok hd ha0 xFuel (0 : Int32) p7.1 (0 : Int32) (1 : Int32) (o8) q8 p7.2 r h
      · rw [if_neg hc6] at h
        exact fX11_ways_25_ok (o4 := o4) (o5 := o5) (o6 := o6) (o7 := o7) (o8 := o8) hd ha0 q4 q5 q6 q7 q8 h
def fX11_ways (a0 : Nat) (a1 : Int32) (a2 : Int32) (a3 : Int32) (m : xMem) : Option (Int32 × xMem) := fX11_ways_0 a0 a1 a2 a3  m
theorem fX11_ways_ok {a0 : Nat} {a1 : Int32} {a2 : Int32} {a3 : Int32} {m : xMem} {r : (Int32 × xMem)} {d : Nat} (hd : 8 ≤ d) (ha0 : isMS a0) (h : fX11_ways a0 a1 a2 a3 m = some r) : xEx d 203 [.ref a0, .int a1, .int a2, .int a3] (xLay m) (some (.int r.1)) (xLay r.2) := by
  obtain ⟨d, rfl⟩ : ∃ q, d = q + 1 := ⟨d - 1, by omega⟩
  exact xEx_of me_203 rfl (fX11_ways_0_ok (d := d) (o4 := none) (o5 := none) (o6 := none) (o7 := none) (o8 := none) (by omega) ha0 rfl rfl rfl rfl rfl h)
def fX12_areStairs_58 (a0 : Nat) (a1 : Int32) (rec27 : Int32 → Int32 → Int32 → xMem → Option (Int32 × xMem)) (l2 : Int32) (l3 : Int32) (l4 : Int32) (m : xMem) : Option (Int32 × xMem) := xLet (l4 + (1 : Int32)) fun x1 => rec27 l2 l3 x1 m
set_option maxRecDepth 4000 in
theorem fX12_areStairs_58_ok {a0 : Nat} {a1 : Int32} {rec27 : Int32 → Int32 → Int32 → xMem → Option (Int32 × xMem)} {d : Nat} (hd : 3 ≤ d) (ha0 : isModel a0) (hrec27 : ∀ (l2 : Int32) (l3 : Int32) (l4 : Int32) (m : xMem) (r : (Int32 × xMem)), rec27 l2 l3 l4 m = some r → xFx hh_213 cX12_areStairs d 27 [some (.ref a0), some (.int a1), some (.int l2), some (.int l3), some (.int l4)] [] (xLay m) 0 0 (some (.int r.1)) (xLay r.2)) {l2 : Int32} {l3 : Int32} {l4 : Int32} {m : xMem} {r : (Int32 × xMem)} (h : fX12_areStairs_58 a0 a1 rec27 l2 l3 l4 m = some r) : xFx hh_213 cX12_areStairs d 58 [some (.ref a0), some (.int a1), some (.int l2), some (.int l3), some (.int l4)] [] (xLay m) 0 0 (some (.int r.1)) (xLay r.2) := by
  unfold fX12_areStairs_58 at h
  obtain ⟨x1, hx1, h⟩ := xLet_el h
  refine fx_iinc (ls2 := [some (.ref a0), some (.int a1), some (.int l2), some (.int l3), some (.int x1)]) dX12_areStairs_58 rfl rfl rfl hx1 rfl ?_
  refine fx_goto (t := 27) dX12_areStairs_61 rfl rfl ?_
  exact hrec27 l2 l3 x1 m r h
def fX12_areStairs_79 (a0 : Nat) (a1 : Int32) (s0 : Int32) (m : xMem) : Option (Int32 × xMem) := bif (decide (s0 = 0) || decide (s0 = 1)) then some (s0, m) else none
set_option maxRecDepth 4000 in
theorem fX12_areStairs_79_ok {a0 : Nat} {a1 : Int32} {d : Nat} (hd : 3 ≤ d) (ha0 : isModel a0) {s0 : Int32} {o2 : Option Value} {o3 : Option Value} {o4 : Option Value} {m : xMem} {r : (Int32 × xMem)} (q2 : xNoD o2 = true) (q3 : xNoD o3 = true) (q4 : xNoD o4 = true) (h : fX12_areStairs_79 a0 a1 s0 m = some r) : xFx hh_213 cX12_areStairs d 79 [some (.ref a0), some (.int a1), o2, o3, o4] [.int s0] (xLay m) 0 0 (some (.int r.1)) (xLay r.2) := by
  unfold fX12_areStairs_79 at h
  obtain ⟨hb1, h⟩ := xChk_el h
  cases h
  exact fx_ireturn dX12_areStairs_79 rfl (by show ((decide _ || decide _) && _) = true; rw [hb1]; rfl)
def fX12_areStairs_78 (a0 : Nat) (a1 : Int32) (m : xMem) : Option (Int32 × xMem) := fX12_areStairs_79 a0 a1 (0 : Int32) m
set_option maxRecDepth 4000 in
theorem fX12_areStairs_78_ok {a0 : Nat} {a1 : Int32} {d : Nat} (hd : 3 ≤ d) (ha0 : isModel a0) {o2 : Option Value} {o3 : Option Value} {o4 : Option Value} {m : xMem} {r : (Int32 × xMem)} (q2 : xNoD o2 = true) (q3 : xNoD o3 = true) (q4 : xNoD o4 = true) (h : fX12_areStairs_78 a0 a1 m = some r) : xFx hh_213 cX12_areStairs d 78 [some (.ref a0), some (.int a1), o2, o3, o4] [] (xLay m) 0 0 (some (.int r.1)) (xLay r.2) := by
  unfold fX12_areStairs_78 at h
  refine fx_iconst (x := 0) dX12_areStairs_78 rfl (by decide) ?_
  exact fX12_areStairs_79_ok (o2 := o2) (o3 := o3) (o4 := o4) hd ha0 q2 q3 q4 h
def fX12_areStairs_64 (a0 : Nat) (a1 : Int32) (l2 : Int32) (l3 : Int32) (m : xMem) : Option (Int32 × xMem) := if l3 = (0 : Int32) then fX12_areStairs_78 a0 a1 m else if (6 : Int32) ≤ l2 then fX12_areStairs_78 a0 a1 m else fX12_areStairs_79 a0 a1 (1 : Int32) m
set_option maxRecDepth 4000 in
theorem fX12_areStairs_64_ok {a0 : Nat} {a1 : Int32} {d : Nat} (hd : 3 ≤ d) (ha0 : isModel a0) {l2 : Int32} {l3 : Int32} {o4 : Option Value} {m : xMem} {r : (Int32 × xMem)} (q4 : xNoD o4 = true) (h : fX12_areStairs_64 a0 a1 l2 l3 m = some r) : xFx hh_213 cX12_areStairs d 64 [some (.ref a0), some (.int a1), some (.int l2), some (.int l3), o4] [] (xLay m) 0 0 (some (.int r.1)) (xLay r.2) := by
  unfold fX12_areStairs_64 at h
  refine fx_iload_n dX12_areStairs_64 rfl rfl ?_
  refine fx_if_eq (t := 78) dX12_areStairs_65 rfl rfl (fun hc1 => ?_) (fun hc1 => ?_)
  · rw [if_pos hc1] at h
    exact fX12_areStairs_78_ok (o2 := some (.int l2)) (o3 := some (.int l3)) (o4 := o4) hd ha0 rfl rfl q4 h
  · rw [if_neg hc1] at h
    refine fx_iload_n dX12_areStairs_68 rfl rfl ?_
    refine fx_bipush (x := 6) dX12_areStairs_69 rfl (by decide) ?_
    refine fx_icmp_ge (t := 78) dX12_areStairs_71 rfl rfl (fun hc2 => ?_) (fun hc2 => ?_)
    · rw [if_pos hc2] at h
      exact fX12_areStairs_78_ok (o2 := some (.int l2)) (o3 := some (.int l3)) (o4 := o4) hd ha0 rfl rfl q4 h
    · rw [if_neg hc2] at h
      refine fx_iconst (x := 1) dX12_areStairs_74 rfl (by decide) ?_
      refine fx_goto (t := 79) dX12_areStairs_75 rfl rfl ?_
      exact fX12_areStairs_79_ok (o2 := some (.int l2)) (o3 := some (.int l3)) (o4 := o4) hd ha0 rfl rfl q4 h
def fX12_areStairs_27 (a0 : Nat) (a1 : Int32) : Nat → Int32 → Int32 → Int32 → xMem → Option (Int32 × xMem)
  | 0, _, _, _, _ => none
  | fuel + 1, l2, l3, l4, m => if (10 : Int32) ≤ l4 then fX12_areStairs_64 a0 a1 l2 l3 m else if l3 = (0 : Int32) then fX12_areStairs_64 a0 a1 l2 l3 m else xLet (a1 >>> (l4 &&& 31)) fun x3 => xLet (x3 &&& (1 : Int32)) fun x4 => if ¬ x4 = (1 : Int32) then fX12_areStairs_58 a0 a1 (fX12_areStairs_27 a0 a1 fuel) l2 l3 l4 m else (fX12_isStairs a0 l4 m).bind fun p6 => xLet (l2 + (1 : Int32)) fun x7 => fX12_areStairs_58 a0 a1 (fX12_areStairs_27 a0 a1 fuel) x7 p6.1 l4 p6.2
set_option maxRecDepth 4000 in
theorem fX12_areStairs_27_ok {a0 : Nat} {a1 : Int32} {d : Nat} (hd : 3 ≤ d) (ha0 : isModel a0) : ∀ (fuel : Nat) (l2 : Int32) (l3 : Int32) (l4 : Int32) (m : xMem) (r : (Int32 × xMem)), fX12_areStairs_27 a0 a1 fuel l2 l3 l4 m = some r → xFx hh_213 cX12_areStairs d 27 [some (.ref a0), some (.int a1), some (.int l2), some (.int l3), some (.int l4)] [] (xLay m) 0 0 (some (.int r.1)) (xLay r.2) := by
  intro fuel
  induction fuel with
  | zero => intro l2 l3 l4  m r  h; cases h
  | succ fuel ih =>
    intro l2 l3 l4  m r  h
    unfold fX12_areStairs_27 at h
    refine fx_iload dX12_areStairs_27 rfl rfl ?_
    refine fx_bipush (x := 10) dX12_areStairs_29 rfl (by decide) ?_
    refine fx_icmp_ge (t := 64) dX12_areStairs_31 rfl rfl (fun hc1 => ?_) (fun hc1 => ?_)
    · rw [if_pos hc1] at h
      exact fX12_areStairs_64_ok (o4 := some (.int l4)) hd ha0 rfl h
    · rw [if_neg hc1] at h
      refine fx_iload_n dX12_areStairs_34 rfl rfl ?_
      refine fx_if_eq (t := 64) dX12_areStairs_35 rfl rfl (fun hc2 => ?_) (fun hc2 => ?_)
      · rw [if_pos hc2] at h
        exact fX12_areStairs_64_ok (o4 := some (.int l4)) hd ha0 rfl h
      · rw [if_neg hc2] at h
        refine fx_iload_n dX12_areStairs_38 rfl rfl ?_
        refine fx_iload dX12_areStairs_39 rfl rfl ?_
        obtain ⟨x3, hx3, h⟩ := xLet_el h
        refine fx_ishr dX12_areStairs_41 rfl hx3 ?_
        refine fx_iconst (x := 1) dX12_areStairs_42 rfl (by decide) ?_
        obtain ⟨x4, hx4, h⟩ := xLet_el h
        refine fx_iand dX12_areStairs_43 rfl hx4 ?_
        refine fx_iconst (x := 1) dX12_areStairs_44 rfl (by decide) ?_
        refine fx_icmp_ne (t := 58) dX12_areStairs_45 rfl rfl (fun hc5 => ?_) (fun hc5 => ?_)
        · rw [if_pos hc5] at h
          exact fX12_areStairs_58_ok hd ha0 ih h
        · rw [if_neg hc5] at h
          refine fx_aload_n dX12_areStairs_48 rfl rfl ?_
          refine fx_iload dX12_areStairs_49 rfl rfl ?_
          obtain ⟨p6, ep6, h⟩ := xBind_el h
          refine gx_callv (as := [.int l4]) (r := []) rfl dX12_areStairs_51 ca_12_114 rfl me_32 rfl rfl rfl rfl (ha0.1) rfl (fX12_isStairs_ok (d := d) (by omega) ha0 ep6) rfl rfl ?_
          refine fx_istore_n (ls2 := [some (.ref a0), some (.int a1), some (.int l2), some (.int p6.1), some (.int l4)]) dX12_areStairs_54 rfl rfl rfl ?_
          obtain ⟨x7, hx7, h⟩ := xLet_el h
          refine fx_iinc (ls2 := [some (.ref a0), some (.int a1), some (.int x7), some (.int p6.1), some (.int l4)]) dX12_areStairs_55 rfl rfl rfl hx7 rfl ?_
          exact fX12_areStairs_58_ok hd ha0 ih h
def fX12_areStairs_23 (a0 : Nat) (a1 : Int32) (l2 : Int32) (s0 : Int32) (m : xMem) : Option (Int32 × xMem) := fX12_areStairs_27 a0 a1 xFuel l2 s0 (0 : Int32) m
set_option maxRecDepth 4000 in
theorem fX12_areStairs_23_ok {a0 : Nat} {a1 : Int32} {d : Nat} (hd : 3 ≤ d) (ha0 : isModel a0) {l2 : Int32} {s0 : Int32} {o3 : Option Value} {o4 : Option Value} {m : xMem} {r : (Int32 × xMem)} (q3 : xNoD o3 = true) (q4 : xNoD o4 = true) (h : fX12_areStairs_23 a0 a1 l2 s0 m = some r) : xFx hh_213 cX12_areStairs d 23 [some (.ref a0), some (.int a1), some (.int l2), o3, o4] [.int s0] (xLay m) 0 0 (some (.int r.1)) (xLay r.2) := by
  unfold fX12_areStairs_23 at h
  refine fx_istore_n (ls2 := [some (.ref a0), some (.int a1), some (.int l2), some (.int s0), o4]) dX12_areStairs_23 rfl rfl rfl ?_
  refine fx_iconst (x := 0) dX12_areStairs_24 rfl (by decide) ?_
  refine fx_istore (ls2 := [some (.ref a0), some (.int a1), some (.int l2), some (.int s0), some (.int (0 : Int32))]) dX12_areStairs_25 rfl rfl rfl ?_
  exact fX12_areStairs_27_ok hd ha0 xFuel l2 s0 (0 : Int32) m r h
def fX12_areStairs_22 (a0 : Nat) (a1 : Int32) (l2 : Int32) (m : xMem) : Option (Int32 × xMem) := fX12_areStairs_23 a0 a1 l2 (0 : Int32) m
set_option maxRecDepth 4000 in
theorem fX12_areStairs_22_ok {a0 : Nat} {a1 : Int32} {d : Nat} (hd : 3 ≤ d) (ha0 : isModel a0) {l2 : Int32} {o3 : Option Value} {o4 : Option Value} {m : xMem} {r : (Int32 × xMem)} (q3 : xNoD o3 = true) (q4 : xNoD o4 = true) (h : fX12_areStairs_22 a0 a1 l2 m = some r) : xFx hh_213 cX12_areStairs d 22 [some (.ref a0), some (.int a1), some (.int l2), o3, o4] [] (xLay m) 0 0 (some (.int r.1)) (xLay r.2) := by
  unfold fX12_areStairs_22 at h
  refine fx_iconst (x := 0) dX12_areStairs_22 rfl (by decide) ?_
  exact fX12_areStairs_23_ok (o3 := o3) (o4 := o4) hd ha0 q3 q4 h
def fX12_areStairs_0 (a0 : Nat) (a1 : Int32) (m : xMem) : Option (Int32 × xMem) := if a1 ≤ (0 : Int32) then fX12_areStairs_22 a0 a1 (0 : Int32) m else bif xIn (2 : Int32) 1610 then xLet (m.1 (a0 + 1) (2 : Int32).toNatClampNeg) fun x2 => xLet ((1 : Int32) <<< (x2 &&& 31)) fun x4 => if x4 ≤ a1 then fX12_areStairs_22 a0 a1 (0 : Int32) m else fX12_areStairs_23 a0 a1 (0 : Int32) (1 : Int32) m else none
set_option maxRecDepth 4000 in
theorem fX12_areStairs_0_ok {a0 : Nat} {a1 : Int32} {d : Nat} (hd : 3 ≤ d) (ha0 : isModel a0) {o2 : Option Value} {o3 : Option Value} {o4 : Option Value} {m : xMem} {r : (Int32 × xMem)} (q2 : xNoD o2 = true) (q3 : xNoD o3 = true) (q4 : xNoD o4 = true) (h : fX12_areStairs_0 a0 a1 m = some r) : xFx hh_213 cX12_areStairs d 0 [some (.ref a0), some (.int a1), o2, o3, o4] [] (xLay m) 0 0 (some (.int r.1)) (xLay r.2) := by
  unfold fX12_areStairs_0 at h
  refine fx_iconst (x := 0) dX12_areStairs_0 rfl (by decide) ?_
  refine fx_istore_n (ls2 := [some (.ref a0), some (.int a1), some (.int (0 : Int32)), o3, o4]) dX12_areStairs_1 rfl rfl rfl ?_
  refine fx_iload_n dX12_areStairs_2 rfl rfl ?_
  refine fx_if_le (t := 22) dX12_areStairs_3 rfl rfl (fun hc1 => ?_) (fun hc1 => ?_)
  · rw [if_pos hc1] at h
    exact fX12_areStairs_22_ok (o3 := o3) (o4 := o4) hd ha0 q3 q4 h
  · rw [if_neg hc1] at h
    refine fx_iload_n dX12_areStairs_6 rfl rfl ?_
    refine fx_iconst (x := 1) dX12_areStairs_7 rfl (by decide) ?_
    refine fx_aload_n dX12_areStairs_8 rfl rfl ?_
    refine gx_getr dX12_areStairs_9 rfl fd_12_7 ha0.1 rfl rfl ?_
    refine fx_iconst (x := 2) dX12_areStairs_12 rfl (by decide) ?_
    obtain ⟨hj3, h⟩ := xChk_el h
    obtain ⟨x2, hx2, h⟩ := xLet_el h
    refine gx_iaload dX12_areStairs_13 rfl ha0.2.1 hj3 hx2 ?_
    obtain ⟨x4, hx4, h⟩ := xLet_el h
    refine fx_ishl dX12_areStairs_14 rfl hx4 ?_
    refine fx_icmp_ge (t := 22) dX12_areStairs_15 rfl rfl (fun hc5 => ?_) (fun hc5 => ?_)
    · rw [if_pos hc5] at h
      exact fX12_areStairs_22_ok (o3 := o3) (o4 := o4) hd ha0 q3 q4 h
    · rw [if_neg hc5] at h
      refine fx_iconst (x := 1) dX12_areStairs_18 rfl (by decide) ?_
      refine fx_goto (t := 23) dX12_areStairs_19 rfl rfl ?_
      exact fX12_areStairs_23_ok (o3 := o3) (o4 := o4) hd ha0 q3 q4 h
def fX12_areStairs (a0 : Nat) (a1 : Int32) (m : xMem) : Option (Int32 × xMem) := fX12_areStairs_0 a0 a1  m
theorem fX12_areStairs_ok {a0 : Nat} {a1 : Int32} {m : xMem} {r : (Int32 × xMem)} {d : Nat} (hd : 4 ≤ d) (ha0 : isModel a0) (h : fX12_areStairs a0 a1 m = some r) : xEx d 213 [.ref a0, .int a1] (xLay m) (some (.int r.1)) (xLay r.2) := by
  obtain ⟨d, rfl⟩ : ∃ q, d = q + 1 := ⟨d - 1, by omega⟩
  exact xEx_of me_213 rfl (fX12_areStairs_0_ok (d := d) (o2 := none) (o3 := none) (o4 := none) (by omega) ha0 rfl rfl rfl h)
def fX12_saves_2 (a0 : Nat) : Nat → Int32 → xMem → Option xMem
  | 0, _, _ => none
  | fuel + 1, l1, m => if (1610 : Int32) ≤ l1 then some m else bif xIn l1 1610 then xLet (m.1 (a0 + 1) l1.toNatClampNeg) fun x2 => bif xIn l1 1610 then xLet (xPut m (a0 + 3) l1.toNatClampNeg x2) fun m4 => xLet (l1 + (1 : Int32)) fun x6 => fX12_saves_2 a0 fuel x6 m4 else none else none
set_option maxRecDepth 4000 in
theorem fX12_saves_2_ok {a0 : Nat} {d : Nat} (hd : 0 ≤ d) (ha0 : isModel a0) : ∀ (fuel : Nat) (l1 : Int32) (m : xMem) (r : xMem), fX12_saves_2 a0 fuel l1 m = some r → xFx hh_214 cX12_saves d 2 [some (.ref a0), some (.int l1)] [] (xLay m) 0 0 none (xLay r) := by
  intro fuel
  induction fuel with
  | zero => intro l1  m r  h; cases h
  | succ fuel ih =>
    intro l1  m r  h
    unfold fX12_saves_2 at h
    refine fx_iload_n dX12_saves_2 rfl rfl ?_
    refine fx_sipush (x := 1610) dX12_saves_3 rfl (by decide) ?_
    refine fx_icmp_ge (t := 27) dX12_saves_6 rfl rfl (fun hc1 => ?_) (fun hc1 => ?_)
    · rw [if_pos hc1] at h
      cases h
      exact fx_return dX12_saves_27 rfl rfl
    · rw [if_neg hc1] at h
      refine fx_aload_n dX12_saves_9 rfl rfl ?_
      refine gx_getr dX12_saves_10 rfl fd_12_16 ha0.1 rfl rfl ?_
      refine fx_iload_n dX12_saves_13 rfl rfl ?_
      refine fx_aload_n dX12_saves_14 rfl rfl ?_
      refine gx_getr dX12_saves_15 rfl fd_12_7 ha0.1 rfl rfl ?_
      refine fx_iload_n dX12_saves_18 rfl rfl ?_
      obtain ⟨hj3, h⟩ := xChk_el h
      obtain ⟨x2, hx2, h⟩ := xLet_el h
      refine gx_iaload dX12_saves_19 rfl ha0.2.1 hj3 hx2 ?_
      obtain ⟨hj5, h⟩ := xChk_el h
      obtain ⟨m4, hm4, h⟩ := xLet_el h
      refine gx_iastore dX12_saves_20 rfl ha0.2.2.2.1 hj5 hm4 ?_
      obtain ⟨x6, hx6, h⟩ := xLet_el h
      refine fx_iinc (ls2 := [some (.ref a0), some (.int x6)]) dX12_saves_21 rfl rfl rfl hx6 rfl ?_
      refine fx_goto (t := 2) dX12_saves_24 rfl rfl ?_
      exact ih x6 m4 r h
def fX12_saves_0 (a0 : Nat) (m : xMem) : Option xMem := fX12_saves_2 a0 xFuel (0 : Int32) m
set_option maxRecDepth 4000 in
theorem fX12_saves_0_ok {a0 : Nat} {d : Nat} (hd : 0 ≤ d) (ha0 : isModel a0) {o1 : Option Value} {m : xMem} {r : xMem} (q1 : xNoD o1 = true) (h : fX12_saves_0 a0 m = some r) : xFx hh_214 cX12_saves d 0 [some (.ref a0), o1] [] (xLay m) 0 0 none (xLay r) := by
  unfold fX12_saves_0 at h
  refine fx_iconst (x := 0) dX12_saves_0 rfl (by decide) ?_
  refine fx_istore_n (ls2 := [some (.ref a0), some (.int (0 : Int32))]) dX12_saves_1 rfl rfl rfl ?_
  exact fX12_saves_2_ok hd ha0 xFuel (0 : Int32) m r h
def fX12_saves (a0 : Nat) (m : xMem) : Option xMem := fX12_saves_0 a0  m
theorem fX12_saves_ok {a0 : Nat} {m : xMem} {r : xMem} {d : Nat} (hd : 1 ≤ d) (ha0 : isModel a0) (h : fX12_saves a0 m = some r) : xEx d 214 [.ref a0] (xLay m) none (xLay r) := by
  obtain ⟨d, rfl⟩ : ∃ q, d = q + 1 := ⟨d - 1, by omega⟩
  exact xEx_of me_214 rfl (fX12_saves_0_ok (d := d) (o1 := none) (by omega) ha0 rfl h)
def fX12_runs_2 (a0 : Nat) (a1 : Int32) : Nat → Int32 → xMem → Option xMem
  | 0, _, _ => none
  | fuel + 1, l2, m => if a1 ≤ l2 then some m else (fX12_second a0 m).bind fun p2 => xLet (l2 + (1 : Int32)) fun x3 => fX12_runs_2 a0 a1 fuel x3 p2
set_option maxRecDepth 4000 in
theorem fX12_runs_2_ok {a0 : Nat} {a1 : Int32} {d : Nat} (hd : 6 ≤ d) (ha0 : isModel a0) : ∀ (fuel : Nat) (l2 : Int32) (m : xMem) (r : xMem), fX12_runs_2 a0 a1 fuel l2 m = some r → xFx hh_215 cX12_runs d 2 [some (.ref a0), some (.int a1), some (.int l2)] [] (xLay m) 0 0 none (xLay r) := by
  intro fuel
  induction fuel with
  | zero => intro l2  m r  h; cases h
  | succ fuel ih =>
    intro l2  m r  h
    unfold fX12_runs_2 at h
    refine fx_iload_n dX12_runs_2 rfl rfl ?_
    refine fx_iload_n dX12_runs_3 rfl rfl ?_
    refine fx_icmp_ge (t := 17) dX12_runs_4 rfl rfl (fun hc1 => ?_) (fun hc1 => ?_)
    · rw [if_pos hc1] at h
      cases h
      exact fx_return dX12_runs_17 rfl rfl
    · rw [if_neg hc1] at h
      refine fx_aload_n dX12_runs_7 rfl rfl ?_
      obtain ⟨p2, ep2, h⟩ := xBind_el h
      refine gx_callv (as := []) (r := []) rfl dX12_runs_8 ca_12_380 rfl me_164 rfl rfl rfl rfl (ha0.1) rfl (fX12_second_ok (d := d) (by omega) ha0 ep2) rfl rfl ?_
      obtain ⟨x3, hx3, h⟩ := xLet_el h
      refine fx_iinc (ls2 := [some (.ref a0), some (.int a1), some (.int x3)]) dX12_runs_11 rfl rfl rfl hx3 rfl ?_
      refine fx_goto (t := 2) dX12_runs_14 rfl rfl ?_
      exact ih x3 p2 r h
def fX12_runs_0 (a0 : Nat) (a1 : Int32) (m : xMem) : Option xMem := fX12_runs_2 a0 a1 xFuel (0 : Int32) m
set_option maxRecDepth 4000 in
theorem fX12_runs_0_ok {a0 : Nat} {a1 : Int32} {d : Nat} (hd : 6 ≤ d) (ha0 : isModel a0) {o2 : Option Value} {m : xMem} {r : xMem} (q2 : xNoD o2 = true) (h : fX12_runs_0 a0 a1 m = some r) : xFx hh_215 cX12_runs d 0 [some (.ref a0), some (.int a1), o2] [] (xLay m) 0 0 none (xLay r) := by
  unfold fX12_runs_0 at h
  refine fx_iconst (x := 0) dX12_runs_0 rfl (by decide) ?_
  refine fx_istore_n (ls2 := [some (.ref a0), some (.int a1), some (.int (0 : Int32))]) dX12_runs_1 rfl rfl rfl ?_
  exact fX12_runs_2_ok hd ha0 xFuel (0 : Int32) m r h
def fX12_runs (a0 : Nat) (a1 : Int32) (m : xMem) : Option xMem := fX12_runs_0 a0 a1  m
theorem fX12_runs_ok {a0 : Nat} {a1 : Int32} {m : xMem} {r : xMem} {d : Nat} (hd : 7 ≤ d) (ha0 : isModel a0) (h : fX12_runs a0 a1 m = some r) : xEx d 215 [.ref a0, .int a1] (xLay m) none (xLay r) := by
  obtain ⟨d, rfl⟩ : ∃ q, d = q + 1 := ⟨d - 1, by omega⟩
  exact xEx_of me_215 rfl (fX12_runs_0_ok (d := d) (o2 := none) (by omega) ha0 rfl h)
def fX12_putsBack_2 (a0 : Nat) : Nat → Int32 → xMem → Option xMem
  | 0, _, _ => none
  | fuel + 1, l1, m => if (1610 : Int32) ≤ l1 then some m else bif xIn l1 1610 then xLet (m.1 (a0 + 3) l1.toNatClampNeg) fun x2 => bif xIn l1 1610 then xLet (xPut m (a0 + 1) l1.toNatClampNeg x2) fun m4 => xLet (l1 + (1 : Int32)) fun x6 => fX12_putsBack_2 a0 fuel x6 m4 else none else none
set_option maxRecDepth 4000 in
theorem fX12_putsBack_2_ok {a0 : Nat} {d : Nat} (hd : 0 ≤ d) (ha0 : isModel a0) : ∀ (fuel : Nat) (l1 : Int32) (m : xMem) (r : xMem), fX12_putsBack_2 a0 fuel l1 m = some r → xFx hh_216 cX12_putsBack d 2 [some (.ref a0), some (.int l1)] [] (xLay m) 0 0 none (xLay r) := by
  intro fuel
  induction fuel with
  | zero => intro l1  m r  h; cases h
  | succ fuel ih =>
    intro l1  m r  h
    unfold fX12_putsBack_2 at h
    refine fx_iload_n dX12_putsBack_2 rfl rfl ?_
    refine fx_sipush (x := 1610) dX12_putsBack_3 rfl (by decide) ?_
    refine fx_icmp_ge (t := 27) dX12_putsBack_6 rfl rfl (fun hc1 => ?_) (fun hc1 => ?_)
    · rw [if_pos hc1] at h
      cases h
      exact fx_return dX12_putsBack_27 rfl rfl
    · rw [if_neg hc1] at h
      refine fx_aload_n dX12_putsBack_9 rfl rfl ?_
      refine gx_getr dX12_putsBack_10 rfl fd_12_7 ha0.1 rfl rfl ?_
      refine fx_iload_n dX12_putsBack_13 rfl rfl ?_
      refine fx_aload_n dX12_putsBack_14 rfl rfl ?_
      refine gx_getr dX12_putsBack_15 rfl fd_12_16 ha0.1 rfl rfl ?_
      refine fx_iload_n dX12_putsBack_18 rfl rfl ?_
      obtain ⟨hj3, h⟩ := xChk_el h
      obtain ⟨x2, hx2, h⟩ := xLet_el h
      refine gx_iaload dX12_putsBack_19 rfl ha0.2.2.2.1 hj3 hx2 ?_
      obtain ⟨hj5, h⟩ := xChk_el h
      obtain ⟨m4, hm4, h⟩ := xLet_el h
      refine gx_iastore dX12_putsBack_20 rfl ha0.2.1 hj5 hm4 ?_
      obtain ⟨x6, hx6, h⟩ := xLet_el h
      refine fx_iinc (ls2 := [some (.ref a0), some (.int x6)]) dX12_putsBack_21 rfl rfl rfl hx6 rfl ?_
      refine fx_goto (t := 2) dX12_putsBack_24 rfl rfl ?_
      exact ih x6 m4 r h
def fX12_putsBack_0 (a0 : Nat) (m : xMem) : Option xMem := fX12_putsBack_2 a0 xFuel (0 : Int32) m
set_option maxRecDepth 4000 in
theorem fX12_putsBack_0_ok {a0 : Nat} {d : Nat} (hd : 0 ≤ d) (ha0 : isModel a0) {o1 : Option Value} {m : xMem} {r : xMem} (q1 : xNoD o1 = true) (h : fX12_putsBack_0 a0 m = some r) : xFx hh_216 cX12_putsBack d 0 [some (.ref a0), o1] [] (xLay m) 0 0 none (xLay r) := by
  unfold fX12_putsBack_0 at h
  refine fx_iconst (x := 0) dX12_putsBack_0 rfl (by decide) ?_
  refine fx_istore_n (ls2 := [some (.ref a0), some (.int (0 : Int32))]) dX12_putsBack_1 rfl rfl rfl ?_
  exact fX12_putsBack_2_ok hd ha0 xFuel (0 : Int32) m r h
def fX12_putsBack (a0 : Nat) (m : xMem) : Option xMem := fX12_putsBack_0 a0  m
theorem fX12_putsBack_ok {a0 : Nat} {m : xMem} {r : xMem} {d : Nat} (hd : 1 ≤ d) (ha0 : isModel a0) (h : fX12_putsBack a0 m = some r) : xEx d 216 [.ref a0] (xLay m) none (xLay r) := by
  obtain ⟨d, rfl⟩ : ∃ q, d = q + 1 := ⟨d - 1, by omega⟩
  exact xEx_of me_216 rfl (fX12_putsBack_0_ok (d := d) (o1 := none) (by omega) ha0 rfl h)
def fX12_ways_25 (a0 : Nat) (a1 : Int32) (a2 : Int32) (a3 : Int32) (m : xMem) : Option (Int32 × xMem) := some ((-1 : Int32), m)
set_option maxRecDepth 4000 in
theorem fX12_ways_25_ok {a0 : Nat} {a1 : Int32} {a2 : Int32} {a3 : Int32} {d : Nat} (hd : 7 ≤ d) (ha0 : isModel a0) {o4 : Option Value} {o5 : Option Value} {o6 : Option Value} {o7 : Option Value} {o8 : Option Value} {m : xMem} {r : (Int32 × xMem)} (q4 : xNoD o4 = true) (q5 : xNoD o5 = true) (q6 : xNoD o6 = true) (q7 : xNoD o7 = true) (q8 : xNoD o8 = true) (h : fX12_ways_25 a0 a1 a2 a3 m = some r) : xFx hh_212 cX12_ways d 25 [some (.ref a0), some (.int a1), some (.int a2), some (.int a3), o4, o5, o6, o7, o8] [] (xLay m) 0 0 (some (.int r.1)) (xLay r.2) := by
  unfold fX12_ways_25 at h
  refine fx_iconst (x := -1) dX12_ways_25 rfl (by decide) ?_
  cases h
  exact fx_ireturn dX12_ways_26 rfl rfl
def fX12_ways_103 (a0 : Nat) (a1 : Int32) (a2 : Int32) (a3 : Int32) (rec40 : Int32 → Int32 → Int32 → xMem → Option (Int32 × xMem)) (rec58 : Int32 → Int32 → Int32 → Int32 → xMem → Option (Int32 × xMem)) (l4 : Int32) (l5 : Int32) (l6 : Int32) (l7 : Int32) (m : xMem) : Option (Int32 × xMem) := xLet (l7 + (1 : Int32)) fun x1 => rec58 l4 l5 l6 x1 m
set_option maxRecDepth 4000 in
theorem fX12_ways_103_ok {a0 : Nat} {a1 : Int32} {a2 : Int32} {a3 : Int32} {rec40 : Int32 → Int32 → Int32 → xMem → Option (Int32 × xMem)} {rec58 : Int32 → Int32 → Int32 → Int32 → xMem → Option (Int32 × xMem)} {d : Nat} (hd : 7 ≤ d) (ha0 : isModel a0) (hrec40 : ∀ (l4 : Int32) (l5 : Int32) (l6 : Int32) (o7 : Option Value) (o8 : Option Value) (q7 : xNoD o7 = true) (q8 : xNoD o8 = true) (m : xMem) (r : (Int32 × xMem)), rec40 l4 l5 l6 m = some r → xFx hh_212 cX12_ways d 40 [some (.ref a0), some (.int a1), some (.int a2), some (.int a3), some (.int l4), some (.int l5), some (.int l6), o7, o8] [] (xLay m) 0 0 (some (.int r.1)) (xLay r.2)) (hrec58 : ∀ (l4 : Int32) (l5 : Int32) (l6 : Int32) (l7 : Int32) (o8 : Option Value) (q8 : xNoD o8 = true) (m : xMem) (r : (Int32 × xMem)), rec58 l4 l5 l6 l7 m = some r → xFx hh_212 cX12_ways d 58 [some (.ref a0), some (.int a1), some (.int a2), some (.int a3), some (.int l4), some (.int l5), some (.int l6), some (.int l7), o8] [] (xLay m) 0 0 (some (.int r.1)) (xLay r.2)) {l4 : Int32} {l5 : Int32} {l6 : Int32} {l7 : Int32} {o8 : Option Value} {m : xMem} {r : (Int32 × xMem)} (q8 : xNoD o8 = true) (h : fX12_ways_103 a0 a1 a2 a3 rec40 rec58 l4 l5 l6 l7 m = some r) : xFx hh_212 cX12_ways d 103 [some (.ref a0), some (.int a1), some (.int a2), some (.int a3), some (.int l4), some (.int l5), some (.int l6), some (.int l7), o8] [] (xLay m) 0 0 (some (.int r.1)) (xLay r.2) := by
  unfold fX12_ways_103 at h
  obtain ⟨x1, hx1, h⟩ := xLet_el h
  refine fx_iinc (ls2 := [some (.ref a0), some (.int a1), some (.int a2), some (.int a3), some (.int l4), some (.int l5), some (.int l6), some (.int x1), o8]) dX12_ways_103 rfl rfl rfl hx1 rfl ?_
  refine fx_goto (t := 58) dX12_ways_106 rfl rfl ?_
  exact hrec58 l4 l5 l6 x1 (o8) q8 m r h
def fX12_ways_98 (a0 : Nat) (a1 : Int32) (a2 : Int32) (a3 : Int32) (rec40 : Int32 → Int32 → Int32 → xMem → Option (Int32 × xMem)) (rec58 : Int32 → Int32 → Int32 → Int32 → xMem → Option (Int32 × xMem)) (l4 : Int32) (l5 : Int32) (l6 : Int32) (l7 : Int32) (s0 : Nat) (s1 : Int32) (s2 : Int32) (m : xMem) : Option (Int32 × xMem) := (fX12_turn s0 s1 s2 m).bind fun p1 => fX12_ways_103 a0 a1 a2 a3 rec40 rec58 l4 l5 l6 l7 p1.2
set_option maxRecDepth 4000 in
theorem fX12_ways_98_ok {a0 : Nat} {a1 : Int32} {a2 : Int32} {a3 : Int32} {rec40 : Int32 → Int32 → Int32 → xMem → Option (Int32 × xMem)} {rec58 : Int32 → Int32 → Int32 → Int32 → xMem → Option (Int32 × xMem)} {d : Nat} (hd : 7 ≤ d) (ha0 : isModel a0) (hrec40 : ∀ (l4 : Int32) (l5 : Int32) (l6 : Int32) (o7 : Option Value) (o8 : Option Value) (q7 : xNoD o7 = true) (q8 : xNoD o8 = true) (m : xMem) (r : (Int32 × xMem)), rec40 l4 l5 l6 m = some r → xFx hh_212 cX12_ways d 40 [some (.ref a0), some (.int a1), some (.int a2), some (.int a3), some (.int l4), some (.int l5), some (.int l6), o7, o8] [] (xLay m) 0 0 (some (.int r.1)) (xLay r.2)) (hrec58 : ∀ (l4 : Int32) (l5 : Int32) (l6 : Int32) (l7 : Int32) (o8 : Option Value) (q8 : xNoD o8 = true) (m : xMem) (r : (Int32 × xMem)), rec58 l4 l5 l6 l7 m = some r → xFx hh_212 cX12_ways d 58 [some (.ref a0), some (.int a1), some (.int a2), some (.int a3), some (.int l4), some (.int l5), some (.int l6), some (.int l7), o8] [] (xLay m) 0 0 (some (.int r.1)) (xLay r.2)) {l4 : Int32} {l5 : Int32} {l6 : Int32} {l7 : Int32} {s0 : Nat} {s1 : Int32} {s2 : Int32} {o8 : Option Value} {m : xMem} {r : (Int32 × xMem)} (hs0 : isModel s0) (q8 : xNoD o8 = true) (h : fX12_ways_98 a0 a1 a2 a3 rec40 rec58 l4 l5 l6 l7 s0 s1 s2 m = some r) : xFx hh_212 cX12_ways d 98 [some (.ref a0), some (.int a1), some (.int a2), some (.int a3), some (.int l4), some (.int l5), some (.int l6), some (.int l7), o8] [.int s2, .int s1, .ref s0] (xLay m) 0 0 (some (.int r.1)) (xLay r.2) := by
  unfold fX12_ways_98 at h
  obtain ⟨p1, ep1, h⟩ := xBind_el h
  refine gx_callv (as := [.int s1, .int s2]) (r := []) rfl dX12_ways_98 ca_12_389 rfl me_31 rfl rfl rfl rfl (hs0.1) rfl (fX12_turn_ok (d := d) (by omega) hs0 ep1) rfl rfl ?_
  refine fx_istore (ls2 := [some (.ref a0), some (.int a1), some (.int a2), some (.int a3), some (.int l4), some (.int l5), some (.int l6), some (.int l7), some (.int p1.1)]) dX12_ways_101 rfl rfl rfl ?_
  exact fX12_ways_103_ok (o8 := some (.int p1.1)) hd ha0 hrec40 hrec58 rfl h
def fX12_ways_156 (a0 : Nat) (a1 : Int32) (a2 : Int32) (a3 : Int32) (rec40 : Int32 → Int32 → Int32 → xMem → Option (Int32 × xMem)) (l4 : Int32) (l5 : Int32) (l6 : Int32) (m : xMem) : Option (Int32 × xMem) := xLet (l6 + (1 : Int32)) fun x1 => rec40 l4 l5 x1 m
set_option maxRecDepth 4000 in
theorem fX12_ways_156_ok {a0 : Nat} {a1 : Int32} {a2 : Int32} {a3 : Int32} {rec40 : Int32 → Int32 → Int32 → xMem → Option (Int32 × xMem)} {d : Nat} (hd : 7 ≤ d) (ha0 : isModel a0) (hrec40 : ∀ (l4 : Int32) (l5 : Int32) (l6 : Int32) (o7 : Option Value) (o8 : Option Value) (q7 : xNoD o7 = true) (q8 : xNoD o8 = true) (m : xMem) (r : (Int32 × xMem)), rec40 l4 l5 l6 m = some r → xFx hh_212 cX12_ways d 40 [some (.ref a0), some (.int a1), some (.int a2), some (.int a3), some (.int l4), some (.int l5), some (.int l6), o7, o8] [] (xLay m) 0 0 (some (.int r.1)) (xLay r.2)) {l4 : Int32} {l5 : Int32} {l6 : Int32} {o7 : Option Value} {o8 : Option Value} {m : xMem} {r : (Int32 × xMem)} (q7 : xNoD o7 = true) (q8 : xNoD o8 = true) (h : fX12_ways_156 a0 a1 a2 a3 rec40 l4 l5 l6 m = some r) : xFx hh_212 cX12_ways d 156 [some (.ref a0), some (.int a1), some (.int a2), some (.int a3), some (.int l4), some (.int l5), some (.int l6), o7, o8] [] (xLay m) 0 0 (some (.int r.1)) (xLay r.2) := by
  unfold fX12_ways_156 at h
  obtain ⟨x1, hx1, h⟩ := xLet_el h
  refine fx_iinc (ls2 := [some (.ref a0), some (.int a1), some (.int a2), some (.int a3), some (.int l4), some (.int l5), some (.int x1), o7, o8]) dX12_ways_156 rfl rfl rfl hx1 rfl ?_
  refine fx_goto (t := 40) dX12_ways_159 rfl rfl ?_
  exact hrec40 l4 l5 x1 (o7) (o8) q7 q8 m r h
def fX12_ways_148 (a0 : Nat) (a1 : Int32) (a2 : Int32) (a3 : Int32) (rec40 : Int32 → Int32 → Int32 → xMem → Option (Int32 × xMem)) (l6 : Int32) (l7 : Int32) (m : xMem) : Option (Int32 × xMem) := fX12_ways_156 a0 a1 a2 a3 rec40 l6 l7 l6 m
set_option maxRecDepth 4000 in
theorem fX12_ways_148_ok {a0 : Nat} {a1 : Int32} {a2 : Int32} {a3 : Int32} {rec40 : Int32 → Int32 → Int32 → xMem → Option (Int32 × xMem)} {d : Nat} (hd : 7 ≤ d) (ha0 : isModel a0) (hrec40 : ∀ (l4 : Int32) (l5 : Int32) (l6 : Int32) (o7 : Option Value) (o8 : Option Value) (q7 : xNoD o7 = true) (q8 : xNoD o8 = true) (m : xMem) (r : (Int32 × xMem)), rec40 l4 l5 l6 m = some r → xFx hh_212 cX12_ways d 40 [some (.ref a0), some (.int a1), some (.int a2), some (.int a3), some (.int l4), some (.int l5), some (.int l6), o7, o8] [] (xLay m) 0 0 (some (.int r.1)) (xLay r.2)) {l6 : Int32} {l7 : Int32} {o4 : Option Value} {o5 : Option Value} {o8 : Option Value} {m : xMem} {r : (Int32 × xMem)} (q4 : xNoD o4 = true) (q5 : xNoD o5 = true) (q8 : xNoD o8 = true) (h : fX12_ways_148 a0 a1 a2 a3 rec40 l6 l7 m = some r) : xFx hh_212 cX12_ways d 148 [some (.ref a0), some (.int a1), some (.int a2), some (.int a3), o4, o5, some (.int l6), some (.int l7), o8] [] (xLay m) 0 0 (some (.int r.1)) (xLay r.2) := by
  unfold fX12_ways_148 at h
  refine fx_iload dX12_ways_148 rfl rfl ?_
  refine fx_istore (ls2 := [some (.ref a0), some (.int a1), some (.int a2), some (.int a3), some (.int l6), o5, some (.int l6), some (.int l7), o8]) dX12_ways_150 rfl rfl rfl ?_
  refine fx_iload dX12_ways_152 rfl rfl ?_
  refine fx_istore (ls2 := [some (.ref a0), some (.int a1), some (.int a2), some (.int a3), some (.int l6), some (.int l7), some (.int l6), some (.int l7), o8]) dX12_ways_154 rfl rfl rfl ?_
  exact fX12_ways_156_ok (o7 := some (.int l7)) (o8 := o8) hd ha0 hrec40 rfl q8 h
def fX12_ways_58 (a0 : Nat) (a1 : Int32) (a2 : Int32) (a3 : Int32) (rec40 : Int32 → Int32 → Int32 → xMem → Option (Int32 × xMem)) : Nat → Int32 → Int32 → Int32 → Int32 → xMem → Option (Int32 × xMem)
  | 0, _, _, _, _, _ => none
  | fuel + 1, l4, l5, l6, l7, m => bif xIn (2 : Int32) 1610 then xLet (m.1 (a0 + 1) (2 : Int32).toNatClampNeg) fun x1 => if x1 ≤ l7 then (fX12_runs a0 a2 m).bind fun p4 => bif xIn (10 : Int32) 1610 then xLet (p4.1 (a0 + 1) (10 : Int32).toNatClampNeg) fun x5 => bif xIn (10 : Int32) 1610 then xLet (p4.1 (a0 + 3) (10 : Int32).toNatClampNeg) fun x7 => xLet (x5 - x7) fun x9 => (fX12_putsBack a0 p4).bind fun p10 => if l4 = (-1 : Int32) then fX12_ways_148 a0 a1 a2 a3 rec40 l6 x9 p10 else if l5 ≤ x9 then fX12_ways_156 a0 a1 a2 a3 rec40 l4 l5 l6 p10 else fX12_ways_148 a0 a1 a2 a3 rec40 l6 x9 p10 else none else none else xLet (a1 >>> (l7 &&& 31)) fun x13 => xLet (x13 &&& (1 : Int32)) fun x14 => if ¬ x14 = (1 : Int32) then fX12_ways_103 a0 a1 a2 a3 rec40 (fX12_ways_58 a0 a1 a2 a3 rec40 fuel) l4 l5 l6 l7 m else xLet (l6 >>> (l7 &&& 31)) fun x16 => xLet (x16 &&& (1 : Int32)) fun x17 => if ¬ x17 = (1 : Int32) then fX12_ways_98 a0 a1 a2 a3 rec40 (fX12_ways_58 a0 a1 a2 a3 rec40 fuel) l4 l5 l6 l7 a0 l7 (2 : Int32) m else fX12_ways_98 a0 a1 a2 a3 rec40 (fX12_ways_58 a0 a1 a2 a3 rec40 fuel) l4 l5 l6 l7 a0 l7 (1 : Int32) m else none
set_option maxRecDepth 4000 in
theorem fX12_ways_58_ok {a0 : Nat} {a1 : Int32} {a2 : Int32} {a3 : Int32} {rec40 : Int32 → Int32 → Int32 → xMem → Option (Int32 × xMem)} {d : Nat} (hd : 7 ≤ d) (ha0 : isModel a0) (hrec40 : ∀ (l4 : Int32) (l5 : Int32) (l6 : Int32) (o7 : Option Value) (o8 : Option Value) (q7 : xNoD o7 = true) (q8 : xNoD o8 = true) (m : xMem) (r : (Int32 × xMem)), rec40 l4 l5 l6 m = some r → xFx hh_212 cX12_ways d 40 [some (.ref a0), some (.int a1), some (.int a2), some (.int a3), some (.int l4), some (.int l5), some (.int l6), o7, o8] [] (xLay m) 0 0 (some (.int r.1)) (xLay r.2)) : ∀ (fuel : Nat) (l4 : Int32) (l5 : Int32) (l6 : Int32) (l7 : Int32) (o8 : Option Value) (q8 : xNoD o8 = true) (m : xMem) (r : (Int32 × xMem)), fX12_ways_58 a0 a1 a2 a3 rec40 fuel l4 l5 l6 l7 m = some r → xFx hh_212 cX12_ways d 58 [some (.ref a0), some (.int a1), some (.int a2), some (.int a3), some (.int l4), some (.int l5), some (.int l6), some (.int l7), o8] [] (xLay m) 0 0 (some (.int r.1)) (xLay r.2) := by
  intro fuel
  induction fuel with
  | zero => intro l4 l5 l6 l7 o8 q8 m r  h; cases h
  | succ fuel ih =>
    intro l4 l5 l6 l7 o8 q8 m r  h
    unfold fX12_ways_58 at h
    refine fx_iload dX12_ways_58 rfl rfl ?_
    refine fx_aload_n dX12_ways_60 rfl rfl ?_
    refine gx_getr dX12_ways_61 rfl fd_12_7 ha0.1 rfl rfl ?_
    refine fx_iconst (x := 2) dX12_ways_64 rfl (by decide) ?_
    obtain ⟨hj2, h⟩ := xChk_el h
    obtain ⟨x1, hx1, h⟩ := xLet_el h
    refine gx_iaload dX12_ways_65 rfl ha0.2.1 hj2 hx1 ?_
    refine fx_icmp_ge (t := 109) dX12_ways_66 rfl rfl (fun hc3 => ?_) (fun hc3 => ?_)
    · rw [if_pos hc3] at h
      refine fx_aload_n dX12_ways_109 rfl rfl ?_
      refine fx_iload_n dX12_ways_110 rfl rfl ?_
      obtain ⟨p4, ep4, h⟩ := xBind_el h
      refine gx_callv (as := [.int a2]) (r := []) rfl dX12_ways_111 ca_12_392 rfl me_215 rfl rfl rfl rfl (ha0.1) rfl (fX12_runs_ok (d := d) (by omega) ha0 ep4) rfl rfl ?_
      refine fx_aload_n dX12_ways_114 rfl rfl ?_
      refine gx_getr dX12_ways_115 rfl fd_12_7 ha0.1 rfl rfl ?_
      refine fx_bipush (x := 10) dX12_ways_118 rfl (by decide) ?_
      obtain ⟨hj6, h⟩ := xChk_el h
      obtain ⟨x5, hx5, h⟩ := xLet_el h
      refine gx_iaload dX12_ways_120 rfl ha0.2.1 hj6 hx5 ?_
      refine fx_aload_n dX12_ways_121 rfl rfl ?_
      refine gx_getr dX12_ways_122 rfl fd_12_16 ha0.1 rfl rfl ?_
      refine fx_bipush (x := 10) dX12_ways_125 rfl (by decide) ?_
      obtain ⟨hj8, h⟩ := xChk_el h
      obtain ⟨x7, hx7, h⟩ := xLet_el h
      refine gx_iaload dX12_ways_127 rfl ha0.2.2.2.1 hj8 hx7 ?_
      obtain ⟨x9, hx9, h⟩ := xLet_el h
      refine fx_isub dX12_ways_128 rfl hx9 ?_
      refine fx_istore (ls2 := [some (.ref a0), some (.int a1), some (.int a2), some (.int a3), some (.int l4), some (.int l5), some (.int l6), some (.int x9), o8]) dX12_ways_129 rfl rfl rfl ?_
      refine fx_aload_n dX12_ways_131 rfl rfl ?_
      obtain ⟨p10, ep10, h⟩ := xBind_el h
      refine gx_callv (as := []) (r := []) rfl dX12_ways_132 ca_12_395 rfl me_216 rfl rfl rfl rfl (ha0.1) rfl (fX12_putsBack_ok (d := d) (by omega) ha0 ep10) rfl rfl ?_
      refine fx_iload dX12_ways_135 rfl rfl ?_
      refine fx_iconst (x := -1) dX12_ways_137 rfl (by decide) ?_
      refine fx_icmp_eq (t := 148) dX12_ways_138 rfl rfl (fun hc11 => ?_) (fun hc11 => ?_)
      · rw [if_pos hc11] at h
        exact fX12_ways_148_ok (o4 := some (.int l4)) (o5 := some (.int l5)) (o8 := o8) hd ha0 hrec40 rfl rfl q8 h
      · rw [if_neg hc11] at h
        refine fx_iload dX12_ways_141 rfl rfl ?_
        refine fx_iload dX12_ways_143 rfl rfl ?_
        refine fx_icmp_ge (t := 156) dX12_ways_145 rfl rfl (fun hc12 => ?_) (fun hc12 => ?_)
        · rw [if_pos hc12] at h
          exact fX12_ways_156_ok (o7 := some (.int x9)) (o8 := o8) hd ha0 hrec40 rfl q8 h
        · rw [if_neg hc12] at h
          exact fX12_ways_148_ok (o4 := some (.int l4)) (o5 := some (.int l5)) (o8 := o8) hd ha0 hrec40 rfl rfl q8 h
    · rw [if_neg hc3] at h
      refine fx_iload_n dX12_ways_69 rfl rfl ?_
      refine fx_iload dX12_ways_70 rfl rfl ?_
      obtain ⟨x13, hx13, h⟩ := xLet_el h
      refine fx_ishr dX12_ways_72 rfl hx13 ?_
      refine fx_iconst (x := 1) dX12_ways_73 rfl (by decide) ?_
      obtain ⟨x14, hx14, h⟩ := xLet_el h
      refine fx_iand dX12_ways_74 rfl hx14 ?_
      refine fx_iconst (x := 1) dX12_ways_75 rfl (by decide) ?_
      refine fx_icmp_ne (t := 103) dX12_ways_76 rfl rfl (fun hc15 => ?_) (fun hc15 => ?_)
      · rw [if_pos hc15] at h
        exact fX12_ways_103_ok (o8 := o8) hd ha0 hrec40 ih q8 h
      · rw [if_neg hc15] at h
        refine fx_aload_n dX12_ways_79 rfl rfl ?_
        refine fx_iload dX12_ways_80 rfl rfl ?_
        refine fx_iload dX12_ways_82 rfl rfl ?_
        refine fx_iload dX12_ways_84 rfl rfl ?_
        obtain ⟨x16, hx16, h⟩ := xLet_el h
        refine fx_ishr dX12_ways_86 rfl hx16 ?_
        refine fx_iconst (x := 1) dX12_ways_87 rfl (by decide) ?_
        obtain ⟨x17, hx17, h⟩ := xLet_el h
        refine fx_iand dX12_ways_88 rfl hx17 ?_
        refine fx_iconst (x := 1) dX12_ways_89 rfl (by decide) ?_
        refine fx_icmp_ne (t := 97) dX12_ways_90 rfl rfl (fun hc18 => ?_) (fun hc18 => ?_)
        · rw [if_pos hc18] at h
          refine fx_iconst (x := 2) dX12_ways_97 rfl (by decide) ?_
          exact fX12_ways_98_ok (o8 := o8) hd ha0 hrec40 ih ha0 q8 h
        · rw [if_neg hc18] at h
          refine fx_iconst (x := 1) dX12_ways_93 rfl (by decide) ?_
          refine fx_goto (t := 98) dX12_ways_94 rfl rfl ?_
          exact fX12_ways_98_ok (o8 := o8) hd ha0 hrec40 ih ha0 q8 h
def fX12_ways_173 (a0 : Nat) (a1 : Int32) (a2 : Int32) (a3 : Int32) (s0 : Int32) (m : xMem) : Option (Int32 × xMem) := some (s0, m)
set_option maxRecDepth 4000 in
theorem fX12_ways_173_ok {a0 : Nat} {a1 : Int32} {a2 : Int32} {a3 : Int32} {d : Nat} (hd : 7 ≤ d) (ha0 : isModel a0) {s0 : Int32} {o4 : Option Value} {o5 : Option Value} {o6 : Option Value} {o7 : Option Value} {o8 : Option Value} {m : xMem} {r : (Int32 × xMem)} (q4 : xNoD o4 = true) (q5 : xNoD o5 = true) (q6 : xNoD o6 = true) (q7 : xNoD o7 = true) (q8 : xNoD o8 = true) (h : fX12_ways_173 a0 a1 a2 a3 s0 m = some r) : xFx hh_212 cX12_ways d 173 [some (.ref a0), some (.int a1), some (.int a2), some (.int a3), o4, o5, o6, o7, o8] [.int s0] (xLay m) 0 0 (some (.int r.1)) (xLay r.2) := by
  unfold fX12_ways_173 at h
  cases h
  exact fx_ireturn dX12_ways_173 rfl rfl
def fX12_ways_40 (a0 : Nat) (a1 : Int32) (a2 : Int32) (a3 : Int32) : Nat → Int32 → Int32 → Int32 → xMem → Option (Int32 × xMem)
  | 0, _, _, _, _ => none
  | fuel + 1, l4, l5, l6, m => if a1 < l6 then if ¬ a3 = (0 : Int32) then fX12_ways_173 a0 a1 a2 a3 l5 m else fX12_ways_173 a0 a1 a2 a3 l4 m else xLet (a1 ^^^ (-1 : Int32)) fun x3 => xLet (l6 &&& x3) fun x4 => if ¬ x4 = (0 : Int32) then fX12_ways_156 a0 a1 a2 a3 (fX12_ways_40 a0 a1 a2 a3 fuel) l4 l5 l6 m else fX12_ways_58 a0 a1 a2 a3 (fX12_ways_40 a0 a1 a2 a3 fuel) xFuel l4 l5 l6 (0 : Int32) m
set_option maxRecDepth 4000 in
theorem fX12_ways_40_ok {a0 : Nat} {a1 : Int32} {a2 : Int32} {a3 : Int32} {d : Nat} (hd : 7 ≤ d) (ha0 : isModel a0) : ∀ (fuel : Nat) (l4 : Int32) (l5 : Int32) (l6 : Int32) (o7 : Option Value) (o8 : Option Value) (q7 : xNoD o7 = true) (q8 : xNoD o8 = true) (m : xMem) (r : (Int32 × xMem)), fX12_ways_40 a0 a1 a2 a3 fuel l4 l5 l6 m = some r → xFx hh_212 cX12_ways d 40 [some (.ref a0), some (.int a1), some (.int a2), some (.int a3), some (.int l4), some (.int l5), some (.int l6), o7, o8] [] (xLay m) 0 0 (some (.int r.1)) (xLay r.2) := by
  intro fuel
  induction fuel with
  | zero => intro l4 l5 l6 o7 o8 q7 q8 m r  h; cases h
  | succ fuel ih =>
    intro l4 l5 l6 o7 o8 q7 q8 m r  h
    unfold fX12_ways_40 at h
    refine fx_iload dX12_ways_40 rfl rfl ?_
    refine fx_iload_n dX12_ways_42 rfl rfl ?_
    refine fx_icmp_gt (t := 162) dX12_ways_43 rfl rfl (fun hc1 => ?_) (fun hc1 => ?_)
    · rw [if_pos hc1] at h
      refine fx_iload_n dX12_ways_162 rfl rfl ?_
      refine fx_if_ne (t := 171) dX12_ways_163 rfl rfl (fun hc2 => ?_) (fun hc2 => ?_)
      · rw [if_pos hc2] at h
        refine fx_iload dX12_ways_171 rfl rfl ?_
        exact fX12_ways_173_ok (o4 := some (.int l4)) (o5 := some (.int l5)) (o6 := some (.int l6)) (o7 := o7) (o8 := o8) hd ha0 rfl rfl rfl q7 q8 h
      · rw [if_neg hc2] at h
        refine fx_iload dX12_ways_166 rfl rfl ?_
        refine fx_goto (t := 173) dX12_ways_168 rfl rfl ?_
        exact fX12_ways_173_ok (o4 := some (.int l4)) (o5 := some (.int l5)) (o6 := some (.int l6)) (o7 := o7) (o8 := o8) hd ha0 rfl rfl rfl q7 q8 h
    · rw [if_neg hc1] at h
      refine fx_iload dX12_ways_46 rfl rfl ?_
      refine fx_iload_n dX12_ways_48 rfl rfl ?_
      refine fx_iconst (x := -1) dX12_ways_49 rfl (by decide) ?_
      obtain ⟨x3, hx3, h⟩ := xLet_el h
      refine fx_ixor dX12_ways_50 rfl hx3 ?_
      obtain ⟨x4, hx4, h⟩ := xLet_el h
      refine fx_iand dX12_ways_51 rfl hx4 ?_
      refine fx_if_ne (t := 156) dX12_ways_52 rfl rfl (fun hc5 => ?_) (fun hc5 => ?_)
      · rw [if_pos hc5] at h
        exact fX12_ways_156_ok (o7 := o7) (o8 := o8) hd ha0 ih q7 q8 h
      · rw [if_neg hc5] at h
        refine fx_iconst (x := 0) dX12_ways_55 rfl (by decide) ?_
        refine fx_istore (ls2 := [some (.ref a0), some (.int a1), some (.int a2), some (.int a3), some (.int l4), some (.int l5), some (.int l6), some (.int (0 : Int32)), o8]) dX12_ways_56 rfl rfl rfl ?_
        exact fX12_ways_58_ok hd ha0 ih xFuel l4 l5 l6 (0 : Int32) (o8) q8 m r h
def fX12_ways_0 (a0 : Nat) (a1 : Int32) (a2 : Int32) (a3 : Int32) (m : xMem) : Option (Int32 × xMem) := (fX12_areStairs a0 a1 m).bind fun p1 => if p1.1 = (0 : Int32) then fX12_ways_25 a0 a1 a2 a3 p1.2 else (fX12_isRun a0 a2 p1.2).bind fun p3 => if p3.1 = (0 : Int32) then fX12_ways_25 a0 a1 a2 a3 p3.2 else (fX12_in a3 (0 : Int32) (1 : Int32) p3.2).bind fun p5 => if ¬ p5.1 = (0 : Int32) then (fX12_saves a0 p5.2).bind fun p7 => fX12_ways_40 a0 a1 a2 a3 xFuel (-1 : Int32) (0 : Int32) (0 : Int32) p7 else fX12_ways_25 a0 a1 a2 a3 p5.2
set_option maxRecDepth 4000 in
theorem fX12_ways_0_ok {a0 : Nat} {a1 : Int32} {a2 : Int32} {a3 : Int32} {d : Nat} (hd : 7 ≤ d) (ha0 : isModel a0) {o4 : Option Value} {o5 : Option Value} {o6 : Option Value} {o7 : Option Value} {o8 : Option Value} {m : xMem} {r : (Int32 × xMem)} (q4 : xNoD o4 = true) (q5 : xNoD o5 = true) (q6 : xNoD o6 = true) (q7 : xNoD o7 = true) (q8 : xNoD o8 = true) (h : fX12_ways_0 a0 a1 a2 a3 m = some r) : xFx hh_212 cX12_ways d 0 [some (.ref a0), some (.int a1), some (.int a2), some (.int a3), o4, o5, o6, o7, o8] [] (xLay m) 0 0 (some (.int r.1)) (xLay r.2) := by
  unfold fX12_ways_0 at h
  refine fx_aload_n dX12_ways_0 rfl rfl ?_
  refine fx_iload_n dX12_ways_1 rfl rfl ?_
  obtain ⟨p1, ep1, h⟩ := xBind_el h
  refine gx_callv (as := [.int a1]) (r := []) rfl dX12_ways_2 ca_12_383 rfl me_213 rfl rfl rfl rfl (ha0.1) rfl (fX12_areStairs_ok (d := d) (by omega) ha0 ep1) rfl rfl ?_
  refine fx_if_eq (t := 25) dX12_ways_5 rfl rfl (fun hc2 => ?_) (fun hc2 => ?_)
  · rw [if_pos hc2] at h
    exact fX12_ways_25_ok (o4 := o4) (o5 := o5) (o6 := o6) (o7 := o7) (o8 := o8) hd ha0 q4 q5 q6 q7 q8 h
  · rw [if_neg hc2] at h
    refine fx_aload_n dX12_ways_8 rfl rfl ?_
    refine fx_iload_n dX12_ways_9 rfl rfl ?_
    obtain ⟨p3, ep3, h⟩ := xBind_el h
    refine gx_callv (as := [.int a2]) (r := []) rfl dX12_ways_10 ca_12_377 rfl me_163 rfl rfl rfl rfl (ha0.1) rfl (fX12_isRun_ok (d := d) (by omega) ha0 ep3) rfl rfl ?_
    refine fx_if_eq (t := 25) dX12_ways_13 rfl rfl (fun hc4 => ?_) (fun hc4 => ?_)
    · rw [if_pos hc4] at h
      exact fX12_ways_25_ok (o4 := o4) (o5 := o5) (o6 := o6) (o7 := o7) (o8 := o8) hd ha0 q4 q5 q6 q7 q8 h
    · rw [if_neg hc4] at h
      refine fx_iload_n dX12_ways_16 rfl rfl ?_
      refine fx_iconst (x := 0) dX12_ways_17 rfl (by decide) ?_
      refine fx_iconst (x := 1) dX12_ways_18 rfl (by decide) ?_
      obtain ⟨p5, ep5, h⟩ := xBind_el h
      refine gx_calls (as := [.int a3, .int (0 : Int32), .int (1 : Int32)]) (r := []) rfl dX12_ways_19 ca_12_95 rfl me_18 rfl rfl rfl rfl (fX12_in_ok (d := d) (by omega) ep5) rfl rfl ?_
      refine fx_if_ne (t := 27) dX12_ways_22 rfl rfl (fun hc6 => ?_) (fun hc6 => ?_)
      · rw [if_pos hc6] at h
        refine fx_aload_n dX12_ways_27 rfl rfl ?_
        obtain ⟨p7, ep7, h⟩ := xBind_el h
        refine gx_callv (as := []) (r := []) rfl dX12_ways_28 ca_12_386 rfl me_214 rfl rfl rfl rfl (ha0.1) rfl (fX12_saves_ok (d := d) (by omega) ha0 ep7) rfl rfl ?_
        refine fx_iconst (x := -1) dX12_ways_31 rfl (by decide) ?_
        refine fx_istore (ls2 := [some (.ref a0), some (.int a1), some (.int a2), some (.int a3), some (.int (-1 : Int32)), o5, o6, o7, o8]) dX12_ways_32 rfl rfl rfl ?_
        refine fx_iconst (x := 0) dX12_ways_34 rfl (by decide) ?_
        refine fx_istore (ls2 := [some (.ref a0), some (.int a1), some (.int a2), some (.int a3), some (.int (-1 : Int32)), some (.int (0 : Int32)), o6, o7, o8]) dX12_ways_35 rfl rfl rfl ?_
        refine fx_iconst (x := 0) dX12_ways_37 rfl (by decide) ?_
        refine fx_istore (ls2 := [some (.ref a0), some (.int a1), some (.int a2), some (.int a3), some (.int (-1 : Int32)), some (.int (0 : Int32)), some (.int (0 : Int32)), o7, o8]) dX12_ways_38 rfl rfl rfl ?_
        exact fX12_ways_40_ok hd ha0 xFuel (-1 : Int32) (0 : Int32) (0 : Int32) (o7) (o8) q7 q8 p7 r h
      · rw [if_neg hc6] at h
        exact fX12_ways_25_ok (o4 := o4) (o5 := o5) (o6 := o6) (o7 := o7) (o8 := o8) hd ha0 q4 q5 q6 q7 q8 h
def fX12_ways (a0 : Nat) (a1 : Int32) (a2 : Int32) (a3 : Int32) (m : xMem) : Option (Int32 × xMem) := fX12_ways_0 a0 a1 a2 a3  m
theorem fX12_ways_ok {a0 : Nat} {a1 : Int32} {a2 : Int32} {a3 : Int32} {m : xMem} {r : (Int32 × xMem)} {d : Nat} (hd : 8 ≤ d) (ha0 : isModel a0) (h : fX12_ways a0 a1 a2 a3 m = some r) : xEx d 212 [.ref a0, .int a1, .int a2, .int a3] (xLay m) (some (.int r.1)) (xLay r.2) := by
  obtain ⟨d, rfl⟩ : ∃ q, d = q + 1 := ⟨d - 1, by omega⟩
  exact xEx_of me_212 rfl (fX12_ways_0_ok (d := d) (o4 := none) (o5 := none) (o6 := none) (o7 := none) (o8 := none) (by omega) ha0 rfl rfl rfl rfl rfl h)
def fX9_anyHallOver_39 (a0 : Nat) (m : xMem) : Option (Int32 × xMem) := some ((0 : Int32), m)
set_option maxRecDepth 4000 in
theorem fX9_anyHallOver_39_ok {a0 : Nat} {d : Nat} (hd : 1 ≤ d) (ha0 : isStation a0) {o1 : Option Value} {m : xMem} {r : (Int32 × xMem)} (q1 : xNoD o1 = true) (h : fX9_anyHallOver_39 a0 m = some r) : xFx hh_219 cX9_anyHallOver d 39 [some (.ref a0), o1] [] (xLay m) 0 0 (some (.int r.1)) (xLay r.2) := by
  unfold fX9_anyHallOver_39 at h
  refine fx_iconst (x := 0) dX9_anyHallOver_39 rfl (by decide) ?_
  cases h
  exact fx_ireturn dX9_anyHallOver_40 rfl rfl
def fX9_anyHallOver_2 (a0 : Nat) : Nat → Int32 → xMem → Option (Int32 × xMem)
  | 0, _, _ => none
  | fuel + 1, l1, m => xLet (m.1 a0 7) fun x1 => if x1 ≤ l1 then fX9_anyHallOver_39 a0 m else if (6 : Int32) ≤ l1 then fX9_anyHallOver_39 a0 m else bif xIn l1 6 then xLet (a0 + 15 + 3 * l1.toNatClampNeg) fun r5 => (fX2_isOver r5 m).bind fun p6 => if p6.1 = (0 : Int32) then xLet (l1 + (1 : Int32)) fun x8 => fX9_anyHallOver_2 a0 fuel x8 p6.2 else some ((1 : Int32), p6.2) else none
set_option maxRecDepth 4000 in
theorem fX9_anyHallOver_2_ok {a0 : Nat} {d : Nat} (hd : 1 ≤ d) (ha0 : isStation a0) : ∀ (fuel : Nat) (l1 : Int32) (m : xMem) (r : (Int32 × xMem)), fX9_anyHallOver_2 a0 fuel l1 m = some r → xFx hh_219 cX9_anyHallOver d 2 [some (.ref a0), some (.int l1)] [] (xLay m) 0 0 (some (.int r.1)) (xLay r.2) := by
  intro fuel
  induction fuel with
  | zero => intro l1  m r  h; cases h
  | succ fuel ih =>
    intro l1  m r  h
    unfold fX9_anyHallOver_2 at h
    refine fx_iload_n dX9_anyHallOver_2 rfl rfl ?_
    refine fx_aload_n dX9_anyHallOver_3 rfl rfl ?_
    obtain ⟨x1, hx1, h⟩ := xLet_el h
    refine gx_get dX9_anyHallOver_4 rfl fd_9_57 ha0.1 rfl rfl hx1 ?_
    refine fx_icmp_ge (t := 39) dX9_anyHallOver_7 rfl rfl (fun hc2 => ?_) (fun hc2 => ?_)
    · rw [if_pos hc2] at h
      exact fX9_anyHallOver_39_ok (o1 := some (.int l1)) hd ha0 rfl h
    · rw [if_neg hc2] at h
      refine fx_iload_n dX9_anyHallOver_10 rfl rfl ?_
      refine fx_aload_n dX9_anyHallOver_11 rfl rfl ?_
      refine gx_getr dX9_anyHallOver_12 rfl fd_9_11 ha0.1 rfl rfl ?_
      refine gx_alen (t := 4) (y := 6) dX9_anyHallOver_15 rfl ha0.2.1 rfl (by decide) ?_
      refine fx_icmp_ge (t := 39) dX9_anyHallOver_16 rfl rfl (fun hc3 => ?_) (fun hc3 => ?_)
      · rw [if_pos hc3] at h
        exact fX9_anyHallOver_39_ok (o1 := some (.int l1)) hd ha0 rfl h
      · rw [if_neg hc3] at h
        refine fx_aload_n dX9_anyHallOver_19 rfl rfl ?_
        refine gx_getr dX9_anyHallOver_20 rfl fd_9_11 ha0.1 rfl rfl ?_
        refine fx_iload_n dX9_anyHallOver_23 rfl rfl ?_
        obtain ⟨hj4, h⟩ := xChk_el h
        obtain ⟨r5, hr5, h⟩ := xLet_el h
        refine gx_aaload (t := 4) dX9_anyHallOver_24 rfl ha0.2.1 rfl hj4 ((xRef_at (sl_9_0 a0) hj4).trans (congrArg some hr5)) ?_
        have hpr5 : isHall r5 := by rw [← hr5]; exact ha0.2.2.2.2.2.2.2.1 _ (xIn_lt hj4)
        obtain ⟨p6, ep6, h⟩ := xBind_el h
        refine gx_callv (as := []) (r := []) rfl dX9_anyHallOver_25 ca_9_70 rfl me_161 rfl rfl rfl rfl (hpr5.1) rfl (fX2_isOver_ok (d := d) (by omega) hpr5 ep6) rfl rfl ?_
        refine fx_if_eq (t := 33) dX9_anyHallOver_28 rfl rfl (fun hc7 => ?_) (fun hc7 => ?_)
        · rw [if_pos hc7] at h
          obtain ⟨x8, hx8, h⟩ := xLet_el h
          refine fx_iinc (ls2 := [some (.ref a0), some (.int x8)]) dX9_anyHallOver_33 rfl rfl rfl hx8 rfl ?_
          refine fx_goto (t := 2) dX9_anyHallOver_36 rfl rfl ?_
          exact ih x8 p6.2 r h
        · rw [if_neg hc7] at h
          refine fx_iconst (x := 1) dX9_anyHallOver_31 rfl (by decide) ?_
          cases h
          exact fx_ireturn dX9_anyHallOver_32 rfl rfl
def fX9_anyHallOver_0 (a0 : Nat) (m : xMem) : Option (Int32 × xMem) := fX9_anyHallOver_2 a0 xFuel (0 : Int32) m
set_option maxRecDepth 4000 in
theorem fX9_anyHallOver_0_ok {a0 : Nat} {d : Nat} (hd : 1 ≤ d) (ha0 : isStation a0) {o1 : Option Value} {m : xMem} {r : (Int32 × xMem)} (q1 : xNoD o1 = true) (h : fX9_anyHallOver_0 a0 m = some r) : xFx hh_219 cX9_anyHallOver d 0 [some (.ref a0), o1] [] (xLay m) 0 0 (some (.int r.1)) (xLay r.2) := by
  unfold fX9_anyHallOver_0 at h
  refine fx_iconst (x := 0) dX9_anyHallOver_0 rfl (by decide) ?_
  refine fx_istore_n (ls2 := [some (.ref a0), some (.int (0 : Int32))]) dX9_anyHallOver_1 rfl rfl rfl ?_
  exact fX9_anyHallOver_2_ok hd ha0 xFuel (0 : Int32) m r h
def fX9_anyHallOver (a0 : Nat) (m : xMem) : Option (Int32 × xMem) := fX9_anyHallOver_0 a0  m
theorem fX9_anyHallOver_ok {a0 : Nat} {m : xMem} {r : (Int32 × xMem)} {d : Nat} (hd : 2 ≤ d) (ha0 : isStation a0) (h : fX9_anyHallOver a0 m = some r) : xEx d 219 [.ref a0] (xLay m) (some (.int r.1)) (xLay r.2) := by
  obtain ⟨d, rfl⟩ : ∃ q, d = q + 1 := ⟨d - 1, by omega⟩
  exact xEx_of me_219 rfl (fX9_anyHallOver_0_ok (d := d) (o1 := none) (by omega) ha0 rfl h)
