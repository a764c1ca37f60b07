theorem bdX6_moveLinks_0 : (decode cX6_moveLinks 0 = .ok (.iconst 0, 1)) ∧ (decode cX6_moveLinks 1 = .ok (.istore_n 3, 1)) ∧ (decode cX6_moveLinks 2 = .ok (.iload_n 3, 1)) ∧ (decode cX6_moveLinks 3 = .ok (.aload_n 1, 1)) ∧ (decode cX6_moveLinks 4 = .ok (.getfield 141, 3)) ∧ (decode cX6_moveLinks 7 = .ok (.if_icmp .ge 143, 3)) ∧ (decode cX6_moveLinks 10 = .ok (.iload_n 3, 1)) ∧ (decode cX6_moveLinks 11 = .ok (.aload_n 1, 1)) ∧ (decode cX6_moveLinks 12 = .ok (.getfield 144, 3)) ∧ (decode cX6_moveLinks 15 = .ok (.arraylength, 1)) ∧ (decode cX6_moveLinks 16 = .ok (.if_icmp .ge 134, 3)) ∧ (decode cX6_moveLinks 19 = .ok (.aload_n 1, 1)) ∧ (decode cX6_moveLinks 20 = .ok (.getfield 144, 3)) ∧ (decode cX6_moveLinks 23 = .ok (.iload_n 3, 1)) ∧ (decode cX6_moveLinks 24 = .ok (.aaload, 1)) ∧ (decode cX6_moveLinks 25 = .ok (.astore 4, 2)) := by decide +kernel
theorem dX6_moveLinks_0 : decode cX6_moveLinks 0 = .ok (.iconst 0, 1) := bdX6_moveLinks_0.1
theorem dX6_moveLinks_1 : decode cX6_moveLinks 1 = .ok (.istore_n 3, 1) := bdX6_moveLinks_0.2.1
theorem dX6_moveLinks_2 : decode cX6_moveLinks 2 = .ok (.iload_n 3, 1) := bdX6_moveLinks_0.2.2.1
theorem dX6_moveLinks_3 : decode cX6_moveLinks 3 = .ok (.aload_n 1, 1) := bdX6_moveLinks_0.2.2.2.1
theorem dX6_moveLinks_4 : decode cX6_moveLinks 4 = .ok (.getfield 141, 3) := bdX6_moveLinks_0.2.2.2.2.1
theorem dX6_moveLinks_7 : decode cX6_moveLinks 7 = .ok (.if_icmp .ge 143, 3) := bdX6_moveLinks_0.2.2.2.2.2.1
theorem dX6_moveLinks_10 : decode cX6_moveLinks 10 = .ok (.iload_n 3, 1) := bdX6_moveLinks_0.2.2.2.2.2.2.1
theorem dX6_moveLinks_11 : decode cX6_moveLinks 11 = .ok (.aload_n 1, 1) := bdX6_moveLinks_0.2.2.2.2.2.2.2.1
theorem dX6_moveLinks_12 : decode cX6_moveLinks 12 = .ok (.getfield 144, 3) := bdX6_moveLinks_0.2.2.2.2.2.2.2.2.1
theorem dX6_moveLinks_15 : decode cX6_moveLinks 15 = .ok (.arraylength, 1) := bdX6_moveLinks_0.2.2.2.2.2.2.2.2.2.1
theorem dX6_moveLinks_16 : decode cX6_moveLinks 16 = .ok (.if_icmp .ge 134, 3) := bdX6_moveLinks_0.2.2.2.2.2.2.2.2.2.2.1
theorem dX6_moveLinks_19 : decode cX6_moveLinks 19 = .ok (.aload_n 1, 1) := bdX6_moveLinks_0.2.2.2.2.2.2.2.2.2.2.2.1
theorem dX6_moveLinks_20 : decode cX6_moveLinks 20 = .ok (.getfield 144, 3) := bdX6_moveLinks_0.2.2.2.2.2.2.2.2.2.2.2.2.1
theorem dX6_moveLinks_23 : decode cX6_moveLinks 23 = .ok (.iload_n 3, 1) := bdX6_moveLinks_0.2.2.2.2.2.2.2.2.2.2.2.2.2.1
theorem dX6_moveLinks_24 : decode cX6_moveLinks 24 = .ok (.aaload, 1) := bdX6_moveLinks_0.2.2.2.2.2.2.2.2.2.2.2.2.2.2.1
theorem dX6_moveLinks_25 : decode cX6_moveLinks 25 = .ok (.astore 4, 2) := bdX6_moveLinks_0.2.2.2.2.2.2.2.2.2.2.2.2.2.2.2
theorem bdX6_moveLinks_27 : (decode cX6_moveLinks 27 = .ok (.aload 4, 2)) ∧ (decode cX6_moveLinks 29 = .ok (.getfield 157, 3)) ∧ (decode cX6_moveLinks 32 = .ok (.iconst 2, 1)) ∧ (decode cX6_moveLinks 33 = .ok (.if_icmp .ne 59, 3)) ∧ (decode cX6_moveLinks 36 = .ok (.aload 4, 2)) ∧ (decode cX6_moveLinks 38 = .ok (.getfield 158, 3)) ∧ (decode cX6_moveLinks 41 = .ok (.ifCond .le 103, 3)) ∧ (decode cX6_moveLinks 44 = .ok (.aload_n 1, 1)) ∧ (decode cX6_moveLinks 45 = .ok (.getfield 47, 3)) ∧ (decode cX6_moveLinks 48 = .ok (.aload 4, 2)) ∧ (decode cX6_moveLinks 50 = .ok (.getfield 158, 3)) ∧ (decode cX6_moveLinks 53 = .ok (.irem, 1)) ∧ (decode cX6_moveLinks 54 = .ok (.ifCond .ne 90, 3)) ∧ (decode cX6_moveLinks 57 = .ok (.aload_n 0, 1)) ∧ (decode cX6_moveLinks 58 = .ok (.aload_n 1, 1)) ∧ (decode cX6_moveLinks 59 = .ok (.iload_n 3, 1)) := by decide +kernel
theorem dX6_moveLinks_27 : decode cX6_moveLinks 27 = .ok (.aload 4, 2) := bdX6_moveLinks_27.1
theorem dX6_moveLinks_29 : decode cX6_moveLinks 29 = .ok (.getfield 157, 3) := bdX6_moveLinks_27.2.1
theorem dX6_moveLinks_32 : decode cX6_moveLinks 32 = .ok (.iconst 2, 1) := bdX6_moveLinks_27.2.2.1
theorem dX6_moveLinks_33 : decode cX6_moveLinks 33 = .ok (.if_icmp .ne 59, 3) := bdX6_moveLinks_27.2.2.2.1
theorem dX6_moveLinks_36 : decode cX6_moveLinks 36 = .ok (.aload 4, 2) := bdX6_moveLinks_27.2.2.2.2.1
theorem dX6_moveLinks_38 : decode cX6_moveLinks 38 = .ok (.getfield 158, 3) := bdX6_moveLinks_27.2.2.2.2.2.1
theorem dX6_moveLinks_41 : decode cX6_moveLinks 41 = .ok (.ifCond .le 103, 3) := bdX6_moveLinks_27.2.2.2.2.2.2.1
theorem dX6_moveLinks_44 : decode cX6_moveLinks 44 = .ok (.aload_n 1, 1) := bdX6_moveLinks_27.2.2.2.2.2.2.2.1
theorem dX6_moveLinks_45 : decode cX6_moveLinks 45 = .ok (.getfield 47, 3) := bdX6_moveLinks_27.2.2.2.2.2.2.2.2.1
theorem dX6_moveLinks_48 : decode cX6_moveLinks 48 = .ok (.aload 4, 2) := bdX6_moveLinks_27.2.2.2.2.2.2.2.2.2.1
theorem dX6_moveLinks_50 : decode cX6_moveLinks 50 = .ok (.getfield 158, 3) := bdX6_moveLinks_27.2.2.2.2.2.2.2.2.2.2.1
theorem dX6_moveLinks_53 : decode cX6_moveLinks 53 = .ok (.irem, 1) := bdX6_moveLinks_27.2.2.2.2.2.2.2.2.2.2.2.1
theorem dX6_moveLinks_54 : decode cX6_moveLinks 54 = .ok (.ifCond .ne 90, 3) := bdX6_moveLinks_27.2.2.2.2.2.2.2.2.2.2.2.2.1
theorem dX6_moveLinks_57 : decode cX6_moveLinks 57 = .ok (.aload_n 0, 1) := bdX6_moveLinks_27.2.2.2.2.2.2.2.2.2.2.2.2.2.1
theorem dX6_moveLinks_58 : decode cX6_moveLinks 58 = .ok (.aload_n 1, 1) := bdX6_moveLinks_27.2.2.2.2.2.2.2.2.2.2.2.2.2.2.1
theorem dX6_moveLinks_59 : decode cX6_moveLinks 59 = .ok (.iload_n 3, 1) := bdX6_moveLinks_27.2.2.2.2.2.2.2.2.2.2.2.2.2.2.2
theorem bdX6_moveLinks_60 : (decode cX6_moveLinks 60 = .ok (.aload 4, 2)) ∧ (decode cX6_moveLinks 62 = .ok (.getfield 161, 3)) ∧ (decode cX6_moveLinks 65 = .ok (.aload 4, 2)) ∧ (decode cX6_moveLinks 67 = .ok (.getfield 164, 3)) ∧ (decode cX6_moveLinks 70 = .ok (.invokevirtual 167, 3)) ∧ (decode cX6_moveLinks 73 = .ok (.aload_n 0, 1)) ∧ (decode cX6_moveLinks 74 = .ok (.aload_n 1, 1)) ∧ (decode cX6_moveLinks 75 = .ok (.iload_n 3, 1)) ∧ (decode cX6_moveLinks 76 = .ok (.aload 4, 2)) ∧ (decode cX6_moveLinks 78 = .ok (.getfield 164, 3)) ∧ (decode cX6_moveLinks 81 = .ok (.aload 4, 2)) ∧ (decode cX6_moveLinks 83 = .ok (.getfield 161, 3)) ∧ (decode cX6_moveLinks 86 = .ok (.invokevirtual 167, 3)) ∧ (decode cX6_moveLinks 89 = .ok (.goto 55, 3)) ∧ (decode cX6_moveLinks 92 = .ok (.aload_n 0, 1)) ∧ (decode cX6_moveLinks 93 = .ok (.aload_n 1, 1)) := by decide +kernel
theorem dX6_moveLinks_60 : decode cX6_moveLinks 60 = .ok (.aload 4, 2) := bdX6_moveLinks_60.1
theorem dX6_moveLinks_62 : decode cX6_moveLinks 62 = .ok (.getfield 161, 3) := bdX6_moveLinks_60.2.1
theorem dX6_moveLinks_65 : decode cX6_moveLinks 65 = .ok (.aload 4, 2) := bdX6_moveLinks_60.2.2.1
theorem dX6_moveLinks_67 : decode cX6_moveLinks 67 = .ok (.getfield 164, 3) := bdX6_moveLinks_60.2.2.2.1
theorem dX6_moveLinks_70 : decode cX6_moveLinks 70 = .ok (.invokevirtual 167, 3) := bdX6_moveLinks_60.2.2.2.2.1
theorem dX6_moveLinks_73 : decode cX6_moveLinks 73 = .ok (.aload_n 0, 1) := bdX6_moveLinks_60.2.2.2.2.2.1
theorem dX6_moveLinks_74 : decode cX6_moveLinks 74 = .ok (.aload_n 1, 1) := bdX6_moveLinks_60.2.2.2.2.2.2.1
theorem dX6_moveLinks_75 : decode cX6_moveLinks 75 = .ok (.iload_n 3, 1) := bdX6_moveLinks_60.2.2.2.2.2.2.2.1
theorem dX6_moveLinks_76 : decode cX6_moveLinks 76 = .ok (.aload 4, 2) := bdX6_moveLinks_60.2.2.2.2.2.2.2.2.1
theorem dX6_moveLinks_78 : decode cX6_moveLinks 78 = .ok (.getfield 164, 3) := bdX6_moveLinks_60.2.2.2.2.2.2.2.2.2.1
theorem dX6_moveLinks_81 : decode cX6_moveLinks 81 = .ok (.aload 4, 2) := bdX6_moveLinks_60.2.2.2.2.2.2.2.2.2.2.1
theorem dX6_moveLinks_83 : decode cX6_moveLinks 83 = .ok (.getfield 161, 3) := bdX6_moveLinks_60.2.2.2.2.2.2.2.2.2.2.2.1
theorem dX6_moveLinks_86 : decode cX6_moveLinks 86 = .ok (.invokevirtual 167, 3) := bdX6_moveLinks_60.2.2.2.2.2.2.2.2.2.2.2.2.1
theorem dX6_moveLinks_89 : decode cX6_moveLinks 89 = .ok (.goto 55, 3) := bdX6_moveLinks_60.2.2.2.2.2.2.2.2.2.2.2.2.2.1
theorem dX6_moveLinks_92 : decode cX6_moveLinks 92 = .ok (.aload_n 0, 1) := bdX6_moveLinks_60.2.2.2.2.2.2.2.2.2.2.2.2.2.2.1
theorem dX6_moveLinks_93 : decode cX6_moveLinks 93 = .ok (.aload_n 1, 1) := bdX6_moveLinks_60.2.2.2.2.2.2.2.2.2.2.2.2.2.2.2
theorem bdX6_moveLinks_94 : (decode cX6_moveLinks 94 = .ok (.aload_n 2, 1)) ∧ (decode cX6_moveLinks 95 = .ok (.aload 4, 2)) ∧ (decode cX6_moveLinks 97 = .ok (.invokevirtual 171, 3)) ∧ (decode cX6_moveLinks 100 = .ok (.istore 5, 2)) ∧ (decode cX6_moveLinks 102 = .ok (.aload 4, 2)) ∧ (decode cX6_moveLinks 104 = .ok (.getfield 157, 3)) ∧ (decode cX6_moveLinks 107 = .ok (.ifCond .ne 13, 3)) ∧ (decode cX6_moveLinks 110 = .ok (.aload_n 0, 1)) ∧ (decode cX6_moveLinks 111 = .ok (.aload_n 1, 1)) ∧ (decode cX6_moveLinks 112 = .ok (.aload 4, 2)) ∧ (decode cX6_moveLinks 114 = .ok (.invokevirtual 175, 3)) ∧ (decode cX6_moveLinks 117 = .ok (.goto 19, 3)) ∧ (decode cX6_moveLinks 120 = .ok (.aload_n 1, 1)) ∧ (decode cX6_moveLinks 121 = .ok (.getfield 47, 3)) ∧ (decode cX6_moveLinks 124 = .ok (.iconst 2, 1)) ∧ (decode cX6_moveLinks 125 = .ok (.irem, 1)) := by decide +kernel
theorem dX6_moveLinks_94 : decode cX6_moveLinks 94 = .ok (.aload_n 2, 1) := bdX6_moveLinks_94.1
theorem dX6_moveLinks_95 : decode cX6_moveLinks 95 = .ok (.aload 4, 2) := bdX6_moveLinks_94.2.1
theorem dX6_moveLinks_97 : decode cX6_moveLinks 97 = .ok (.invokevirtual 171, 3) := bdX6_moveLinks_94.2.2.1
theorem dX6_moveLinks_100 : decode cX6_moveLinks 100 = .ok (.istore 5, 2) := bdX6_moveLinks_94.2.2.2.1
theorem dX6_moveLinks_102 : decode cX6_moveLinks 102 = .ok (.aload 4, 2) := bdX6_moveLinks_94.2.2.2.2.1
theorem dX6_moveLinks_104 : decode cX6_moveLinks 104 = .ok (.getfield 157, 3) := bdX6_moveLinks_94.2.2.2.2.2.1
theorem dX6_moveLinks_107 : decode cX6_moveLinks 107 = .ok (.ifCond .ne 13, 3) := bdX6_moveLinks_94.2.2.2.2.2.2.1
theorem dX6_moveLinks_110 : decode cX6_moveLinks 110 = .ok (.aload_n 0, 1) := bdX6_moveLinks_94.2.2.2.2.2.2.2.1
theorem dX6_moveLinks_111 : decode cX6_moveLinks 111 = .ok (.aload_n 1, 1) := bdX6_moveLinks_94.2.2.2.2.2.2.2.2.1
theorem dX6_moveLinks_112 : decode cX6_moveLinks 112 = .ok (.aload 4, 2) := bdX6_moveLinks_94.2.2.2.2.2.2.2.2.2.1
theorem dX6_moveLinks_114 : decode cX6_moveLinks 114 = .ok (.invokevirtual 175, 3) := bdX6_moveLinks_94.2.2.2.2.2.2.2.2.2.2.1
theorem dX6_moveLinks_117 : decode cX6_moveLinks 117 = .ok (.goto 19, 3) := bdX6_moveLinks_94.2.2.2.2.2.2.2.2.2.2.2.1
theorem dX6_moveLinks_120 : decode cX6_moveLinks 120 = .ok (.aload_n 1, 1) := bdX6_moveLinks_94.2.2.2.2.2.2.2.2.2.2.2.2.1
theorem dX6_moveLinks_121 : decode cX6_moveLinks 121 = .ok (.getfield 47, 3) := bdX6_moveLinks_94.2.2.2.2.2.2.2.2.2.2.2.2.2.1
theorem dX6_moveLinks_124 : decode cX6_moveLinks 124 = .ok (.iconst 2, 1) := bdX6_moveLinks_94.2.2.2.2.2.2.2.2.2.2.2.2.2.2.1
theorem dX6_moveLinks_125 : decode cX6_moveLinks 125 = .ok (.irem, 1) := bdX6_moveLinks_94.2.2.2.2.2.2.2.2.2.2.2.2.2.2.2
theorem bdX6_moveLinks_126 : (decode cX6_moveLinks 126 = .ok (.ifCond .ne 10, 3)) ∧ (decode cX6_moveLinks 129 = .ok (.aload_n 0, 1)) ∧ (decode cX6_moveLinks 130 = .ok (.aload_n 1, 1)) ∧ (decode cX6_moveLinks 131 = .ok (.aload 4, 2)) ∧ (decode cX6_moveLinks 133 = .ok (.invokevirtual 179, 3)) ∧ (decode cX6_moveLinks 136 = .ok (.aload_n 0, 1)) ∧ (decode cX6_moveLinks 137 = .ok (.aload_n 1, 1)) ∧ (decode cX6_moveLinks 138 = .ok (.iload_n 3, 1)) ∧ (decode cX6_moveLinks 139 = .ok (.iload 5, 2)) ∧ (decode cX6_moveLinks 141 = .ok (.invokevirtual 182, 3)) ∧ (decode cX6_moveLinks 144 = .ok (.iinc 3 1, 3)) ∧ (decode cX6_moveLinks 147 = .ok (.goto (-145), 3)) ∧ (decode cX6_moveLinks 150 = .ok (.return_, 1)) := by decide +kernel
theorem dX6_moveLinks_126 : decode cX6_moveLinks 126 = .ok (.ifCond .ne 10, 3) := bdX6_moveLinks_126.1
theorem dX6_moveLinks_129 : decode cX6_moveLinks 129 = .ok (.aload_n 0, 1) := bdX6_moveLinks_126.2.1
theorem dX6_moveLinks_130 : decode cX6_moveLinks 130 = .ok (.aload_n 1, 1) := bdX6_moveLinks_126.2.2.1
theorem dX6_moveLinks_131 : decode cX6_moveLinks 131 = .ok (.aload 4, 2) := bdX6_moveLinks_126.2.2.2.1
theorem dX6_moveLinks_133 : decode cX6_moveLinks 133 = .ok (.invokevirtual 179, 3) := bdX6_moveLinks_126.2.2.2.2.1
theorem dX6_moveLinks_136 : decode cX6_moveLinks 136 = .ok (.aload_n 0, 1) := bdX6_moveLinks_126.2.2.2.2.2.1
theorem dX6_moveLinks_137 : decode cX6_moveLinks 137 = .ok (.aload_n 1, 1) := bdX6_moveLinks_126.2.2.2.2.2.2.1
theorem dX6_moveLinks_138 : decode cX6_moveLinks 138 = .ok (.iload_n 3, 1) := bdX6_moveLinks_126.2.2.2.2.2.2.2.1
theorem dX6_moveLinks_139 : decode cX6_moveLinks 139 = .ok (.iload 5, 2) := bdX6_moveLinks_126.2.2.2.2.2.2.2.2.1
theorem dX6_moveLinks_141 : decode cX6_moveLinks 141 = .ok (.invokevirtual 182, 3) := bdX6_moveLinks_126.2.2.2.2.2.2.2.2.2.1
theorem dX6_moveLinks_144 : decode cX6_moveLinks 144 = .ok (.iinc 3 1, 3) := bdX6_moveLinks_126.2.2.2.2.2.2.2.2.2.2.1
theorem dX6_moveLinks_147 : decode cX6_moveLinks 147 = .ok (.goto (-145), 3) := bdX6_moveLinks_126.2.2.2.2.2.2.2.2.2.2.2.1
theorem dX6_moveLinks_150 : decode cX6_moveLinks 150 = .ok (.return_, 1) := bdX6_moveLinks_126.2.2.2.2.2.2.2.2.2.2.2.2
theorem bdX0_isDue_0 : (decode cX0_isDue 0 = .ok (.aload_n 0, 1)) ∧ (decode cX0_isDue 1 = .ok (.getfield 13, 3)) ∧ (decode cX0_isDue 4 = .ok (.ifCond .le 31, 3)) ∧ (decode cX0_isDue 7 = .ok (.iload_n 1, 1)) ∧ (decode cX0_isDue 8 = .ok (.aload_n 0, 1)) ∧ (decode cX0_isDue 9 = .ok (.getfield 7, 3)) ∧ (decode cX0_isDue 12 = .ok (.if_icmp .le 23, 3)) ∧ (decode cX0_isDue 15 = .ok (.iload_n 1, 1)) ∧ (decode cX0_isDue 16 = .ok (.aload_n 0, 1)) ∧ (decode cX0_isDue 17 = .ok (.getfield 7, 3)) ∧ (decode cX0_isDue 20 = .ok (.isub, 1)) ∧ (decode cX0_isDue 21 = .ok (.aload_n 0, 1)) ∧ (decode cX0_isDue 22 = .ok (.getfield 13, 3)) ∧ (decode cX0_isDue 25 = .ok (.irem, 1)) ∧ (decode cX0_isDue 26 = .ok (.ifCond .ne 7, 3)) ∧ (decode cX0_isDue 29 = .ok (.iconst 1, 1)) := by decide +kernel
theorem dX0_isDue_0 : decode cX0_isDue 0 = .ok (.aload_n 0, 1) := bdX0_isDue_0.1
theorem dX0_isDue_1 : decode cX0_isDue 1 = .ok (.getfield 13, 3) := bdX0_isDue_0.2.1
theorem dX0_isDue_4 : decode cX0_isDue 4 = .ok (.ifCond .le 31, 3) := bdX0_isDue_0.2.2.1
theorem dX0_isDue_7 : decode cX0_isDue 7 = .ok (.iload_n 1, 1) := bdX0_isDue_0.2.2.2.1
theorem dX0_isDue_8 : decode cX0_isDue 8 = .ok (.aload_n 0, 1) := bdX0_isDue_0.2.2.2.2.1
theorem dX0_isDue_9 : decode cX0_isDue 9 = .ok (.getfield 7, 3) := bdX0_isDue_0.2.2.2.2.2.1
theorem dX0_isDue_12 : decode cX0_isDue 12 = .ok (.if_icmp .le 23, 3) := bdX0_isDue_0.2.2.2.2.2.2.1
theorem dX0_isDue_15 : decode cX0_isDue 15 = .ok (.iload_n 1, 1) := bdX0_isDue_0.2.2.2.2.2.2.2.1
theorem dX0_isDue_16 : decode cX0_isDue 16 = .ok (.aload_n 0, 1) := bdX0_isDue_0.2.2.2.2.2.2.2.2.1
theorem dX0_isDue_17 : decode cX0_isDue 17 = .ok (.getfield 7, 3) := bdX0_isDue_0.2.2.2.2.2.2.2.2.2.1
theorem dX0_isDue_20 : decode cX0_isDue 20 = .ok (.isub, 1) := bdX0_isDue_0.2.2.2.2.2.2.2.2.2.2.1
theorem dX0_isDue_21 : decode cX0_isDue 21 = .ok (.aload_n 0, 1) := bdX0_isDue_0.2.2.2.2.2.2.2.2.2.2.2.1
theorem dX0_isDue_22 : decode cX0_isDue 22 = .ok (.getfield 13, 3) := bdX0_isDue_0.2.2.2.2.2.2.2.2.2.2.2.2.1
theorem dX0_isDue_25 : decode cX0_isDue 25 = .ok (.irem, 1) := bdX0_isDue_0.2.2.2.2.2.2.2.2.2.2.2.2.2.1
theorem dX0_isDue_26 : decode cX0_isDue 26 = .ok (.ifCond .ne 7, 3) := bdX0_isDue_0.2.2.2.2.2.2.2.2.2.2.2.2.2.2.1
theorem dX0_isDue_29 : decode cX0_isDue 29 = .ok (.iconst 1, 1) := bdX0_isDue_0.2.2.2.2.2.2.2.2.2.2.2.2.2.2.2
theorem bdX0_isDue_30 : (decode cX0_isDue 30 = .ok (.goto 4, 3)) ∧ (decode cX0_isDue 33 = .ok (.iconst 0, 1)) ∧ (decode cX0_isDue 34 = .ok (.ireturn, 1)) ∧ (decode cX0_isDue 35 = .ok (.iload_n 1, 1)) ∧ (decode cX0_isDue 36 = .ok (.aload_n 0, 1)) ∧ (decode cX0_isDue 37 = .ok (.getfield 7, 3)) ∧ (decode cX0_isDue 40 = .ok (.if_icmp .ne 7, 3)) ∧ (decode cX0_isDue 43 = .ok (.iconst 1, 1)) ∧ (decode cX0_isDue 44 = .ok (.goto 4, 3)) ∧ (decode cX0_isDue 47 = .ok (.iconst 0, 1)) ∧ (decode cX0_isDue 48 = .ok (.ireturn, 1)) := by decide +kernel
theorem dX0_isDue_30 : decode cX0_isDue 30 = .ok (.goto 4, 3) := bdX0_isDue_30.1
theorem dX0_isDue_33 : decode cX0_isDue 33 = .ok (.iconst 0, 1) := bdX0_isDue_30.2.1
theorem dX0_isDue_34 : decode cX0_isDue 34 = .ok (.ireturn, 1) := bdX0_isDue_30.2.2.1
theorem dX0_isDue_35 : decode cX0_isDue 35 = .ok (.iload_n 1, 1) := bdX0_isDue_30.2.2.2.1
theorem dX0_isDue_36 : decode cX0_isDue 36 = .ok (.aload_n 0, 1) := bdX0_isDue_30.2.2.2.2.1
theorem dX0_isDue_37 : decode cX0_isDue 37 = .ok (.getfield 7, 3) := bdX0_isDue_30.2.2.2.2.2.1
theorem dX0_isDue_40 : decode cX0_isDue 40 = .ok (.if_icmp .ne 7, 3) := bdX0_isDue_30.2.2.2.2.2.2.1
theorem dX0_isDue_43 : decode cX0_isDue 43 = .ok (.iconst 1, 1) := bdX0_isDue_30.2.2.2.2.2.2.2.1
theorem dX0_isDue_44 : decode cX0_isDue 44 = .ok (.goto 4, 3) := bdX0_isDue_30.2.2.2.2.2.2.2.2.1
theorem dX0_isDue_47 : decode cX0_isDue 47 = .ok (.iconst 0, 1) := bdX0_isDue_30.2.2.2.2.2.2.2.2.2.1
theorem dX0_isDue_48 : decode cX0_isDue 48 = .ok (.ireturn, 1) := bdX0_isDue_30.2.2.2.2.2.2.2.2.2.2
theorem bdX6_comeInBursts_0 : (decode cX6_comeInBursts 0 = .ok (.iconst 0, 1)) ∧ (decode cX6_comeInBursts 1 = .ok (.istore_n 3, 1)) ∧ (decode cX6_comeInBursts 2 = .ok (.iload_n 3, 1)) ∧ (decode cX6_comeInBursts 3 = .ok (.aload_n 1, 1)) ∧ (decode cX6_comeInBursts 4 = .ok (.getfield 53, 3)) ∧ (decode cX6_comeInBursts 7 = .ok (.if_icmp .ge 148, 3)) ∧ (decode cX6_comeInBursts 10 = .ok (.iload_n 3, 1)) ∧ (decode cX6_comeInBursts 11 = .ok (.aload_n 1, 1)) ∧ (decode cX6_comeInBursts 12 = .ok (.getfield 56, 3)) ∧ (decode cX6_comeInBursts 15 = .ok (.arraylength, 1)) ∧ (decode cX6_comeInBursts 16 = .ok (.if_icmp .ge 139, 3)) ∧ (decode cX6_comeInBursts 19 = .ok (.aload_n 1, 1)) ∧ (decode cX6_comeInBursts 20 = .ok (.getfield 56, 3)) ∧ (decode cX6_comeInBursts 23 = .ok (.iload_n 3, 1)) ∧ (decode cX6_comeInBursts 24 = .ok (.aaload, 1)) ∧ (decode cX6_comeInBursts 25 = .ok (.astore 4, 2)) := by decide +kernel
theorem dX6_comeInBursts_0 : decode cX6_comeInBursts 0 = .ok (.iconst 0, 1) := bdX6_comeInBursts_0.1
theorem dX6_comeInBursts_1 : decode cX6_comeInBursts 1 = .ok (.istore_n 3, 1) := bdX6_comeInBursts_0.2.1
theorem dX6_comeInBursts_2 : decode cX6_comeInBursts 2 = .ok (.iload_n 3, 1) := bdX6_comeInBursts_0.2.2.1
theorem dX6_comeInBursts_3 : decode cX6_comeInBursts 3 = .ok (.aload_n 1, 1) := bdX6_comeInBursts_0.2.2.2.1
theorem dX6_comeInBursts_4 : decode cX6_comeInBursts 4 = .ok (.getfield 53, 3) := bdX6_comeInBursts_0.2.2.2.2.1
theorem dX6_comeInBursts_7 : decode cX6_comeInBursts 7 = .ok (.if_icmp .ge 148, 3) := bdX6_comeInBursts_0.2.2.2.2.2.1
theorem dX6_comeInBursts_10 : decode cX6_comeInBursts 10 = .ok (.iload_n 3, 1) := bdX6_comeInBursts_0.2.2.2.2.2.2.1
theorem dX6_comeInBursts_11 : decode cX6_comeInBursts 11 = .ok (.aload_n 1, 1) := bdX6_comeInBursts_0.2.2.2.2.2.2.2.1
theorem dX6_comeInBursts_12 : decode cX6_comeInBursts 12 = .ok (.getfield 56, 3) := bdX6_comeInBursts_0.2.2.2.2.2.2.2.2.1
theorem dX6_comeInBursts_15 : decode cX6_comeInBursts 15 = .ok (.arraylength, 1) := bdX6_comeInBursts_0.2.2.2.2.2.2.2.2.2.1
theorem dX6_comeInBursts_16 : decode cX6_comeInBursts 16 = .ok (.if_icmp .ge 139, 3) := bdX6_comeInBursts_0.2.2.2.2.2.2.2.2.2.2.1
theorem dX6_comeInBursts_19 : decode cX6_comeInBursts 19 = .ok (.aload_n 1, 1) := bdX6_comeInBursts_0.2.2.2.2.2.2.2.2.2.2.2.1
theorem dX6_comeInBursts_20 : decode cX6_comeInBursts 20 = .ok (.getfield 56, 3) := bdX6_comeInBursts_0.2.2.2.2.2.2.2.2.2.2.2.2.1
theorem dX6_comeInBursts_23 : decode cX6_comeInBursts 23 = .ok (.iload_n 3, 1) := bdX6_comeInBursts_0.2.2.2.2.2.2.2.2.2.2.2.2.2.1
theorem dX6_comeInBursts_24 : decode cX6_comeInBursts 24 = .ok (.aaload, 1) := bdX6_comeInBursts_0.2.2.2.2.2.2.2.2.2.2.2.2.2.2.1
theorem dX6_comeInBursts_25 : decode cX6_comeInBursts 25 = .ok (.astore 4, 2) := bdX6_comeInBursts_0.2.2.2.2.2.2.2.2.2.2.2.2.2.2.2
theorem bdX6_comeInBursts_27 : (decode cX6_comeInBursts 27 = .ok (.aload 4, 2)) ∧ (decode cX6_comeInBursts 29 = .ok (.aload_n 1, 1)) ∧ (decode cX6_comeInBursts 30 = .ok (.getfield 47, 3)) ∧ (decode cX6_comeInBursts 33 = .ok (.invokevirtual 60, 3)) ∧ (decode cX6_comeInBursts 36 = .ok (.ifCond .eq 113, 3)) ∧ (decode cX6_comeInBursts 39 = .ok (.aload_n 1, 1)) ∧ (decode cX6_comeInBursts 40 = .ok (.aload 4, 2)) ∧ (decode cX6_comeInBursts 42 = .ok (.getfield 66, 3)) ∧ (decode cX6_comeInBursts 45 = .ok (.invokevirtual 69, 3)) ∧ (decode cX6_comeInBursts 48 = .ok (.ifCond .ne 6, 3)) ∧ (decode cX6_comeInBursts 51 = .ok (.goto 98, 3)) ∧ (decode cX6_comeInBursts 54 = .ok (.aload 4, 2)) ∧ (decode cX6_comeInBursts 56 = .ok (.getfield 72, 3)) ∧ (decode cX6_comeInBursts 59 = .ok (.ifCond .ne 30, 3)) ∧ (decode cX6_comeInBursts 62 = .ok (.aload_n 1, 1)) ∧ (decode cX6_comeInBursts 63 = .ok (.aload 4, 2)) := by decide +kernel
theorem dX6_comeInBursts_27 : decode cX6_comeInBursts 27 = .ok (.aload 4, 2) := bdX6_comeInBursts_27.1
theorem dX6_comeInBursts_29 : decode cX6_comeInBursts 29 = .ok (.aload_n 1, 1) := bdX6_comeInBursts_27.2.1
theorem dX6_comeInBursts_30 : decode cX6_comeInBursts 30 = .ok (.getfield 47, 3) := bdX6_comeInBursts_27.2.2.1
theorem dX6_comeInBursts_33 : decode cX6_comeInBursts 33 = .ok (.invokevirtual 60, 3) := bdX6_comeInBursts_27.2.2.2.1
theorem dX6_comeInBursts_36 : decode cX6_comeInBursts 36 = .ok (.ifCond .eq 113, 3) := bdX6_comeInBursts_27.2.2.2.2.1
theorem dX6_comeInBursts_39 : decode cX6_comeInBursts 39 = .ok (.aload_n 1, 1) := bdX6_comeInBursts_27.2.2.2.2.2.1
theorem dX6_comeInBursts_40 : decode cX6_comeInBursts 40 = .ok (.aload 4, 2) := bdX6_comeInBursts_27.2.2.2.2.2.2.1
theorem dX6_comeInBursts_42 : decode cX6_comeInBursts 42 = .ok (.getfield 66, 3) := bdX6_comeInBursts_27.2.2.2.2.2.2.2.1
theorem dX6_comeInBursts_45 : decode cX6_comeInBursts 45 = .ok (.invokevirtual 69, 3) := bdX6_comeInBursts_27.2.2.2.2.2.2.2.2.1
theorem dX6_comeInBursts_48 : decode cX6_comeInBursts 48 = .ok (.ifCond .ne 6, 3) := bdX6_comeInBursts_27.2.2.2.2.2.2.2.2.2.1
theorem dX6_comeInBursts_51 : decode cX6_comeInBursts 51 = .ok (.goto 98, 3) := bdX6_comeInBursts_27.2.2.2.2.2.2.2.2.2.2.1
theorem dX6_comeInBursts_54 : decode cX6_comeInBursts 54 = .ok (.aload 4, 2) := bdX6_comeInBursts_27.2.2.2.2.2.2.2.2.2.2.2.1
theorem dX6_comeInBursts_56 : decode cX6_comeInBursts 56 = .ok (.getfield 72, 3) := bdX6_comeInBursts_27.2.2.2.2.2.2.2.2.2.2.2.2.1
theorem dX6_comeInBursts_59 : decode cX6_comeInBursts 59 = .ok (.ifCond .ne 30, 3) := bdX6_comeInBursts_27.2.2.2.2.2.2.2.2.2.2.2.2.2.1
theorem dX6_comeInBursts_62 : decode cX6_comeInBursts 62 = .ok (.aload_n 1, 1) := bdX6_comeInBursts_27.2.2.2.2.2.2.2.2.2.2.2.2.2.2.1
theorem dX6_comeInBursts_63 : decode cX6_comeInBursts 63 = .ok (.aload 4, 2) := bdX6_comeInBursts_27.2.2.2.2.2.2.2.2.2.2.2.2.2.2.2
theorem bdX6_comeInBursts_65 : (decode cX6_comeInBursts 65 = .ok (.getfield 66, 3)) ∧ (decode cX6_comeInBursts 68 = .ok (.aload 4, 2)) ∧ (decode cX6_comeInBursts 70 = .ok (.getfield 76, 3)) ∧ (decode cX6_comeInBursts 73 = .ok (.aload 4, 2)) ∧ (decode cX6_comeInBursts 75 = .ok (.getfield 79, 3)) ∧ (decode cX6_comeInBursts 78 = .ok (.aload 4, 2)) ∧ (decode cX6_comeInBursts 80 = .ok (.getfield 82, 3)) ∧ (decode cX6_comeInBursts 83 = .ok (.invokevirtual 85, 3)) ∧ (decode cX6_comeInBursts 86 = .ok (.goto 63, 3)) ∧ (decode cX6_comeInBursts 89 = .ok (.aload_n 0, 1)) ∧ (decode cX6_comeInBursts 90 = .ok (.aload_n 1, 1)) ∧ (decode cX6_comeInBursts 91 = .ok (.aload_n 2, 1)) ∧ (decode cX6_comeInBursts 92 = .ok (.iconst 2, 1)) ∧ (decode cX6_comeInBursts 93 = .ok (.aload 4, 2)) ∧ (decode cX6_comeInBursts 95 = .ok (.getfield 66, 3)) ∧ (decode cX6_comeInBursts 98 = .ok (.invokevirtual 89, 3)) := by decide +kernel
theorem dX6_comeInBursts_65 : decode cX6_comeInBursts 65 = .ok (.getfield 66, 3) := bdX6_comeInBursts_65.1
theorem dX6_comeInBursts_68 : decode cX6_comeInBursts 68 = .ok (.aload 4, 2) := bdX6_comeInBursts_65.2.1
theorem dX6_comeInBursts_70 : decode cX6_comeInBursts 70 = .ok (.getfield 76, 3) := bdX6_comeInBursts_65.2.2.1
theorem dX6_comeInBursts_73 : decode cX6_comeInBursts 73 = .ok (.aload 4, 2) := bdX6_comeInBursts_65.2.2.2.1
theorem dX6_comeInBursts_75 : decode cX6_comeInBursts 75 = .ok (.getfield 79, 3) := bdX6_comeInBursts_65.2.2.2.2.1
theorem dX6_comeInBursts_78 : decode cX6_comeInBursts 78 = .ok (.aload 4, 2) := bdX6_comeInBursts_65.2.2.2.2.2.1
theorem dX6_comeInBursts_80 : decode cX6_comeInBursts 80 = .ok (.getfield 82, 3) := bdX6_comeInBursts_65.2.2.2.2.2.2.1
theorem dX6_comeInBursts_83 : decode cX6_comeInBursts 83 = .ok (.invokevirtual 85, 3) := bdX6_comeInBursts_65.2.2.2.2.2.2.2.1
theorem dX6_comeInBursts_86 : decode cX6_comeInBursts 86 = .ok (.goto 63, 3) := bdX6_comeInBursts_65.2.2.2.2.2.2.2.2.1
theorem dX6_comeInBursts_89 : decode cX6_comeInBursts 89 = .ok (.aload_n 0, 1) := bdX6_comeInBursts_65.2.2.2.2.2.2.2.2.2.1
theorem dX6_comeInBursts_90 : decode cX6_comeInBursts 90 = .ok (.aload_n 1, 1) := bdX6_comeInBursts_65.2.2.2.2.2.2.2.2.2.2.1
theorem dX6_comeInBursts_91 : decode cX6_comeInBursts 91 = .ok (.aload_n 2, 1) := bdX6_comeInBursts_65.2.2.2.2.2.2.2.2.2.2.2.1
theorem dX6_comeInBursts_92 : decode cX6_comeInBursts 92 = .ok (.iconst 2, 1) := bdX6_comeInBursts_65.2.2.2.2.2.2.2.2.2.2.2.2.1
theorem dX6_comeInBursts_93 : decode cX6_comeInBursts 93 = .ok (.aload 4, 2) := bdX6_comeInBursts_65.2.2.2.2.2.2.2.2.2.2.2.2.2.1
theorem dX6_comeInBursts_95 : decode cX6_comeInBursts 95 = .ok (.getfield 66, 3) := bdX6_comeInBursts_65.2.2.2.2.2.2.2.2.2.2.2.2.2.2.1
theorem dX6_comeInBursts_98 : decode cX6_comeInBursts 98 = .ok (.invokevirtual 89, 3) := bdX6_comeInBursts_65.2.2.2.2.2.2.2.2.2.2.2.2.2.2.2
theorem bdX6_comeInBursts_101 : (decode cX6_comeInBursts 101 = .ok (.ifCond .eq 20, 3)) ∧ (decode cX6_comeInBursts 104 = .ok (.aload_n 1, 1)) ∧ (decode cX6_comeInBursts 105 = .ok (.dup, 1)) ∧ (decode cX6_comeInBursts 106 = .ok (.getfield 93, 3)) ∧ (decode cX6_comeInBursts 109 = .ok (.aload 4, 2)) ∧ (decode cX6_comeInBursts 111 = .ok (.getfield 82, 3)) ∧ (decode cX6_comeInBursts 114 = .ok (.iadd, 1)) ∧ (decode cX6_comeInBursts 115 = .ok (.putfield 93, 3)) ∧ (decode cX6_comeInBursts 118 = .ok (.goto 31, 3)) ∧ (decode cX6_comeInBursts 121 = .ok (.aload_n 1, 1)) ∧ (decode cX6_comeInBursts 122 = .ok (.getfield 96, 3)) ∧ (decode cX6_comeInBursts 125 = .ok (.aload 4, 2)) ∧ (decode cX6_comeInBursts 127 = .ok (.getfield 66, 3)) ∧ (decode cX6_comeInBursts 130 = .ok (.aaload, 1)) ∧ (decode cX6_comeInBursts 131 = .ok (.aload 4, 2)) ∧ (decode cX6_comeInBursts 133 = .ok (.getfield 76, 3)) := by decide +kernel
theorem dX6_comeInBursts_101 : decode cX6_comeInBursts 101 = .ok (.ifCond .eq 20, 3) := bdX6_comeInBursts_101.1
theorem dX6_comeInBursts_104 : decode cX6_comeInBursts 104 = .ok (.aload_n 1, 1) := bdX6_comeInBursts_101.2.1
theorem dX6_comeInBursts_105 : decode cX6_comeInBursts 105 = .ok (.dup, 1) := bdX6_comeInBursts_101.2.2.1
theorem dX6_comeInBursts_106 : decode cX6_comeInBursts 106 = .ok (.getfield 93, 3) := bdX6_comeInBursts_101.2.2.2.1
theorem dX6_comeInBursts_109 : decode cX6_comeInBursts 109 = .ok (.aload 4, 2) := bdX6_comeInBursts_101.2.2.2.2.1
theorem dX6_comeInBursts_111 : decode cX6_comeInBursts 111 = .ok (.getfield 82, 3) := bdX6_comeInBursts_101.2.2.2.2.2.1
theorem dX6_comeInBursts_114 : decode cX6_comeInBursts 114 = .ok (.iadd, 1) := bdX6_comeInBursts_101.2.2.2.2.2.2.1
theorem dX6_comeInBursts_115 : decode cX6_comeInBursts 115 = .ok (.putfield 93, 3) := bdX6_comeInBursts_101.2.2.2.2.2.2.2.1
theorem dX6_comeInBursts_118 : decode cX6_comeInBursts 118 = .ok (.goto 31, 3) := bdX6_comeInBursts_101.2.2.2.2.2.2.2.2.1
theorem dX6_comeInBursts_121 : decode cX6_comeInBursts 121 = .ok (.aload_n 1, 1) := bdX6_comeInBursts_101.2.2.2.2.2.2.2.2.2.1
theorem dX6_comeInBursts_122 : decode cX6_comeInBursts 122 = .ok (.getfield 96, 3) := bdX6_comeInBursts_101.2.2.2.2.2.2.2.2.2.2.1
theorem dX6_comeInBursts_125 : decode cX6_comeInBursts 125 = .ok (.aload 4, 2) := bdX6_comeInBursts_101.2.2.2.2.2.2.2.2.2.2.2.1
theorem dX6_comeInBursts_127 : decode cX6_comeInBursts 127 = .ok (.getfield 66, 3) := bdX6_comeInBursts_101.2.2.2.2.2.2.2.2.2.2.2.2.1
theorem dX6_comeInBursts_130 : decode cX6_comeInBursts 130 = .ok (.aaload, 1) := bdX6_comeInBursts_101.2.2.2.2.2.2.2.2.2.2.2.2.2.1
theorem dX6_comeInBursts_131 : decode cX6_comeInBursts 131 = .ok (.aload 4, 2) := bdX6_comeInBursts_101.2.2.2.2.2.2.2.2.2.2.2.2.2.2.1
theorem dX6_comeInBursts_133 : decode cX6_comeInBursts 133 = .ok (.getfield 76, 3) := bdX6_comeInBursts_101.2.2.2.2.2.2.2.2.2.2.2.2.2.2.2
theorem bdX6_comeInBursts_136 : (decode cX6_comeInBursts 136 = .ok (.aload 4, 2)) ∧ (decode cX6_comeInBursts 138 = .ok (.getfield 79, 3)) ∧ (decode cX6_comeInBursts 141 = .ok (.aload 4, 2)) ∧ (decode cX6_comeInBursts 143 = .ok (.getfield 82, 3)) ∧ (decode cX6_comeInBursts 146 = .ok (.invokevirtual 100, 3)) ∧ (decode cX6_comeInBursts 149 = .ok (.iinc 3 1, 3)) ∧ (decode cX6_comeInBursts 152 = .ok (.goto (-150), 3)) ∧ (decode cX6_comeInBursts 155 = .ok (.return_, 1)) := by decide +kernel
theorem dX6_comeInBursts_136 : decode cX6_comeInBursts 136 = .ok (.aload 4, 2) := bdX6_comeInBursts_136.1
theorem dX6_comeInBursts_138 : decode cX6_comeInBursts 138 = .ok (.getfield 79, 3) := bdX6_comeInBursts_136.2.1
theorem dX6_comeInBursts_141 : decode cX6_comeInBursts 141 = .ok (.aload 4, 2) := bdX6_comeInBursts_136.2.2.1
theorem dX6_comeInBursts_143 : decode cX6_comeInBursts 143 = .ok (.getfield 82, 3) := bdX6_comeInBursts_136.2.2.2.1
theorem dX6_comeInBursts_146 : decode cX6_comeInBursts 146 = .ok (.invokevirtual 100, 3) := bdX6_comeInBursts_136.2.2.2.2.1
theorem dX6_comeInBursts_149 : decode cX6_comeInBursts 149 = .ok (.iinc 3 1, 3) := bdX6_comeInBursts_136.2.2.2.2.2.1
theorem dX6_comeInBursts_152 : decode cX6_comeInBursts 152 = .ok (.goto (-150), 3) := bdX6_comeInBursts_136.2.2.2.2.2.2.1
theorem dX6_comeInBursts_155 : decode cX6_comeInBursts 155 = .ok (.return_, 1) := bdX6_comeInBursts_136.2.2.2.2.2.2.2
theorem bdX6_passSecond_0 : (decode cX6_passSecond 0 = .ok (.aload_n 0, 1)) ∧ (decode cX6_passSecond 1 = .ok (.aload_n 1, 1)) ∧ (decode cX6_passSecond 2 = .ok (.aload_n 2, 1)) ∧ (decode cX6_passSecond 3 = .ok (.invokevirtual 27, 3)) ∧ (decode cX6_passSecond 6 = .ok (.aload_n 0, 1)) ∧ (decode cX6_passSecond 7 = .ok (.aload_n 1, 1)) ∧ (decode cX6_passSecond 8 = .ok (.aload_n 2, 1)) ∧ (decode cX6_passSecond 9 = .ok (.invokevirtual 31, 3)) ∧ (decode cX6_passSecond 12 = .ok (.aload_n 0, 1)) ∧ (decode cX6_passSecond 13 = .ok (.aload_n 1, 1)) ∧ (decode cX6_passSecond 14 = .ok (.invokevirtual 34, 3)) ∧ (decode cX6_passSecond 17 = .ok (.aload_n 0, 1)) ∧ (decode cX6_passSecond 18 = .ok (.getfield 12, 3)) ∧ (decode cX6_passSecond 21 = .ok (.aload_n 1, 1)) ∧ (decode cX6_passSecond 22 = .ok (.invokevirtual 38, 3)) ∧ (decode cX6_passSecond 25 = .ok (.aload_n 0, 1)) := by decide +kernel
theorem dX6_passSecond_0 : decode cX6_passSecond 0 = .ok (.aload_n 0, 1) := bdX6_passSecond_0.1
theorem dX6_passSecond_1 : decode cX6_passSecond 1 = .ok (.aload_n 1, 1) := bdX6_passSecond_0.2.1
theorem dX6_passSecond_2 : decode cX6_passSecond 2 = .ok (.aload_n 2, 1) := bdX6_passSecond_0.2.2.1
theorem dX6_passSecond_3 : decode cX6_passSecond 3 = .ok (.invokevirtual 27, 3) := bdX6_passSecond_0.2.2.2.1
theorem dX6_passSecond_6 : decode cX6_passSecond 6 = .ok (.aload_n 0, 1) := bdX6_passSecond_0.2.2.2.2.1
theorem dX6_passSecond_7 : decode cX6_passSecond 7 = .ok (.aload_n 1, 1) := bdX6_passSecond_0.2.2.2.2.2.1
theorem dX6_passSecond_8 : decode cX6_passSecond 8 = .ok (.aload_n 2, 1) := bdX6_passSecond_0.2.2.2.2.2.2.1
theorem dX6_passSecond_9 : decode cX6_passSecond 9 = .ok (.invokevirtual 31, 3) := bdX6_passSecond_0.2.2.2.2.2.2.2.1
theorem dX6_passSecond_12 : decode cX6_passSecond 12 = .ok (.aload_n 0, 1) := bdX6_passSecond_0.2.2.2.2.2.2.2.2.1
theorem dX6_passSecond_13 : decode cX6_passSecond 13 = .ok (.aload_n 1, 1) := bdX6_passSecond_0.2.2.2.2.2.2.2.2.2.1
theorem dX6_passSecond_14 : decode cX6_passSecond 14 = .ok (.invokevirtual 34, 3) := bdX6_passSecond_0.2.2.2.2.2.2.2.2.2.2.1
theorem dX6_passSecond_17 : decode cX6_passSecond 17 = .ok (.aload_n 0, 1) := bdX6_passSecond_0.2.2.2.2.2.2.2.2.2.2.2.1
theorem dX6_passSecond_18 : decode cX6_passSecond 18 = .ok (.getfield 12, 3) := bdX6_passSecond_0.2.2.2.2.2.2.2.2.2.2.2.2.1
theorem dX6_passSecond_21 : decode cX6_passSecond 21 = .ok (.aload_n 1, 1) := bdX6_passSecond_0.2.2.2.2.2.2.2.2.2.2.2.2.2.1
theorem dX6_passSecond_22 : decode cX6_passSecond 22 = .ok (.invokevirtual 38, 3) := bdX6_passSecond_0.2.2.2.2.2.2.2.2.2.2.2.2.2.2.1
theorem dX6_passSecond_25 : decode cX6_passSecond 25 = .ok (.aload_n 0, 1) := bdX6_passSecond_0.2.2.2.2.2.2.2.2.2.2.2.2.2.2.2
theorem bdX6_passSecond_26 : (decode cX6_passSecond 26 = .ok (.aload_n 1, 1)) ∧ (decode cX6_passSecond 27 = .ok (.aload_n 2, 1)) ∧ (decode cX6_passSecond 28 = .ok (.invokevirtual 41, 3)) ∧ (decode cX6_passSecond 31 = .ok (.aload_n 0, 1)) ∧ (decode cX6_passSecond 32 = .ok (.aload_n 1, 1)) ∧ (decode cX6_passSecond 33 = .ok (.invokevirtual 44, 3)) ∧ (decode cX6_passSecond 36 = .ok (.aload_n 1, 1)) ∧ (decode cX6_passSecond 37 = .ok (.dup, 1)) ∧ (decode cX6_passSecond 38 = .ok (.getfield 47, 3)) ∧ (decode cX6_passSecond 41 = .ok (.iconst 1, 1)) ∧ (decode cX6_passSecond 42 = .ok (.iadd, 1)) ∧ (decode cX6_passSecond 43 = .ok (.putfield 47, 3)) ∧ (decode cX6_passSecond 46 = .ok (.return_, 1)) := by decide +kernel
theorem dX6_passSecond_26 : decode cX6_passSecond 26 = .ok (.aload_n 1, 1) := bdX6_passSecond_26.1
theorem dX6_passSecond_27 : decode cX6_passSecond 27 = .ok (.aload_n 2, 1) := bdX6_passSecond_26.2.1
theorem dX6_passSecond_28 : decode cX6_passSecond 28 = .ok (.invokevirtual 41, 3) := bdX6_passSecond_26.2.2.1
theorem dX6_passSecond_31 : decode cX6_passSecond 31 = .ok (.aload_n 0, 1) := bdX6_passSecond_26.2.2.2.1
theorem dX6_passSecond_32 : decode cX6_passSecond 32 = .ok (.aload_n 1, 1) := bdX6_passSecond_26.2.2.2.2.1
theorem dX6_passSecond_33 : decode cX6_passSecond 33 = .ok (.invokevirtual 44, 3) := bdX6_passSecond_26.2.2.2.2.2.1
theorem dX6_passSecond_36 : decode cX6_passSecond 36 = .ok (.aload_n 1, 1) := bdX6_passSecond_26.2.2.2.2.2.2.1
theorem dX6_passSecond_37 : decode cX6_passSecond 37 = .ok (.dup, 1) := bdX6_passSecond_26.2.2.2.2.2.2.2.1
theorem dX6_passSecond_38 : decode cX6_passSecond 38 = .ok (.getfield 47, 3) := bdX6_passSecond_26.2.2.2.2.2.2.2.2.1
theorem dX6_passSecond_41 : decode cX6_passSecond 41 = .ok (.iconst 1, 1) := bdX6_passSecond_26.2.2.2.2.2.2.2.2.2.1
theorem dX6_passSecond_42 : decode cX6_passSecond 42 = .ok (.iadd, 1) := bdX6_passSecond_26.2.2.2.2.2.2.2.2.2.2.1
theorem dX6_passSecond_43 : decode cX6_passSecond 43 = .ok (.putfield 47, 3) := bdX6_passSecond_26.2.2.2.2.2.2.2.2.2.2.2.1
theorem dX6_passSecond_46 : decode cX6_passSecond 46 = .ok (.return_, 1) := bdX6_passSecond_26.2.2.2.2.2.2.2.2.2.2.2.2
theorem bdX11_mayRun_0 : (decode cX11_mayRun 0 = .ok (.iload_n 1, 1)) ∧ (decode cX11_mayRun 1 = .ok (.iconst 1, 1)) ∧ (decode cX11_mayRun 2 = .ok (.sipush 300, 3)) ∧ (decode cX11_mayRun 5 = .ok (.invokestatic 47, 3)) ∧ (decode cX11_mayRun 8 = .ok (.ifCond .eq 21, 3)) ∧ (decode cX11_mayRun 11 = .ok (.aload_n 0, 1)) ∧ (decode cX11_mayRun 12 = .ok (.getfield 10, 3)) ∧ (decode cX11_mayRun 15 = .ok (.getfield 173, 3)) ∧ (decode cX11_mayRun 18 = .ok (.iload_n 1, 1)) ∧ (decode cX11_mayRun 19 = .ok (.iadd, 1)) ∧ (decode cX11_mayRun 20 = .ok (.ldc 103, 2)) ∧ (decode cX11_mayRun 22 = .ok (.if_icmp .gt 7, 3)) ∧ (decode cX11_mayRun 25 = .ok (.iconst 1, 1)) ∧ (decode cX11_mayRun 26 = .ok (.goto 4, 3)) ∧ (decode cX11_mayRun 29 = .ok (.iconst 0, 1)) ∧ (decode cX11_mayRun 30 = .ok (.ireturn, 1)) := by decide +kernel
theorem dX11_mayRun_0 : decode cX11_mayRun 0 = .ok (.iload_n 1, 1) := bdX11_mayRun_0.1
theorem dX11_mayRun_1 : decode cX11_mayRun 1 = .ok (.iconst 1, 1) := bdX11_mayRun_0.2.1
theorem dX11_mayRun_2 : decode cX11_mayRun 2 = .ok (.sipush 300, 3) := bdX11_mayRun_0.2.2.1
theorem dX11_mayRun_5 : decode cX11_mayRun 5 = .ok (.invokestatic 47, 3) := bdX11_mayRun_0.2.2.2.1
theorem dX11_mayRun_8 : decode cX11_mayRun 8 = .ok (.ifCond .eq 21, 3) := bdX11_mayRun_0.2.2.2.2.1
theorem dX11_mayRun_11 : decode cX11_mayRun 11 = .ok (.aload_n 0, 1) := bdX11_mayRun_0.2.2.2.2.2.1
theorem dX11_mayRun_12 : decode cX11_mayRun 12 = .ok (.getfield 10, 3) := bdX11_mayRun_0.2.2.2.2.2.2.1
theorem dX11_mayRun_15 : decode cX11_mayRun 15 = .ok (.getfield 173, 3) := bdX11_mayRun_0.2.2.2.2.2.2.2.1
theorem dX11_mayRun_18 : decode cX11_mayRun 18 = .ok (.iload_n 1, 1) := bdX11_mayRun_0.2.2.2.2.2.2.2.2.1
theorem dX11_mayRun_19 : decode cX11_mayRun 19 = .ok (.iadd, 1) := bdX11_mayRun_0.2.2.2.2.2.2.2.2.2.1
theorem dX11_mayRun_20 : decode cX11_mayRun 20 = .ok (.ldc 103, 2) := bdX11_mayRun_0.2.2.2.2.2.2.2.2.2.2.1
theorem dX11_mayRun_22 : decode cX11_mayRun 22 = .ok (.if_icmp .gt 7, 3) := bdX11_mayRun_0.2.2.2.2.2.2.2.2.2.2.2.1
theorem dX11_mayRun_25 : decode cX11_mayRun 25 = .ok (.iconst 1, 1) := bdX11_mayRun_0.2.2.2.2.2.2.2.2.2.2.2.2.1
theorem dX11_mayRun_26 : decode cX11_mayRun 26 = .ok (.goto 4, 3) := bdX11_mayRun_0.2.2.2.2.2.2.2.2.2.2.2.2.2.1
theorem dX11_mayRun_29 : decode cX11_mayRun 29 = .ok (.iconst 0, 1) := bdX11_mayRun_0.2.2.2.2.2.2.2.2.2.2.2.2.2.2.1
theorem dX11_mayRun_30 : decode cX11_mayRun 30 = .ok (.ireturn, 1) := bdX11_mayRun_0.2.2.2.2.2.2.2.2.2.2.2.2.2.2.2
theorem bdX11_law_0 : (decode cX11_law 0 = .ok (.aload_n 0, 1)) ∧ (decode cX11_law 1 = .ok (.getfield 10, 3)) ∧ (decode cX11_law 4 = .ok (.getfield 156, 3)) ∧ (decode cX11_law 7 = .ok (.iconst 0, 1)) ∧ (decode cX11_law 8 = .ok (.iconst 3, 1)) ∧ (decode cX11_law 9 = .ok (.invokestatic 47, 3)) ∧ (decode cX11_law 12 = .ok (.ifCond .eq 18, 3)) ∧ (decode cX11_law 15 = .ok (.aload_n 0, 1)) ∧ (decode cX11_law 16 = .ok (.getfield 43, 3)) ∧ (decode cX11_law 19 = .ok (.aload_n 0, 1)) ∧ (decode cX11_law 20 = .ok (.getfield 10, 3)) ∧ (decode cX11_law 23 = .ok (.getfield 156, 3)) ∧ (decode cX11_law 26 = .ok (.aaload, 1)) ∧ (decode cX11_law 27 = .ok (.goto 7, 3)) ∧ (decode cX11_law 30 = .ok (.aload_n 0, 1)) ∧ (decode cX11_law 31 = .ok (.getfield 39, 3)) := by decide +kernel
theorem dX11_law_0 : decode cX11_law 0 = .ok (.aload_n 0, 1) := bdX11_law_0.1
theorem dX11_law_1 : decode cX11_law 1 = .ok (.getfield 10, 3) := bdX11_law_0.2.1
theorem dX11_law_4 : decode cX11_law 4 = .ok (.getfield 156, 3) := bdX11_law_0.2.2.1
theorem dX11_law_7 : decode cX11_law 7 = .ok (.iconst 0, 1) := bdX11_law_0.2.2.2.1
theorem dX11_law_8 : decode cX11_law 8 = .ok (.iconst 3, 1) := bdX11_law_0.2.2.2.2.1
theorem dX11_law_9 : decode cX11_law 9 = .ok (.invokestatic 47, 3) := bdX11_law_0.2.2.2.2.2.1
theorem dX11_law_12 : decode cX11_law 12 = .ok (.ifCond .eq 18, 3) := bdX11_law_0.2.2.2.2.2.2.1
theorem dX11_law_15 : decode cX11_law 15 = .ok (.aload_n 0, 1) := bdX11_law_0.2.2.2.2.2.2.2.1
theorem dX11_law_16 : decode cX11_law 16 = .ok (.getfield 43, 3) := bdX11_law_0.2.2.2.2.2.2.2.2.1
theorem dX11_law_19 : decode cX11_law 19 = .ok (.aload_n 0, 1) := bdX11_law_0.2.2.2.2.2.2.2.2.2.1
theorem dX11_law_20 : decode cX11_law 20 = .ok (.getfield 10, 3) := bdX11_law_0.2.2.2.2.2.2.2.2.2.2.1
theorem dX11_law_23 : decode cX11_law 23 = .ok (.getfield 156, 3) := bdX11_law_0.2.2.2.2.2.2.2.2.2.2.2.1
theorem dX11_law_26 : decode cX11_law 26 = .ok (.aaload, 1) := bdX11_law_0.2.2.2.2.2.2.2.2.2.2.2.2.1
theorem dX11_law_27 : decode cX11_law 27 = .ok (.goto 7, 3) := bdX11_law_0.2.2.2.2.2.2.2.2.2.2.2.2.2.1
theorem dX11_law_30 : decode cX11_law 30 = .ok (.aload_n 0, 1) := bdX11_law_0.2.2.2.2.2.2.2.2.2.2.2.2.2.2.1
theorem dX11_law_31 : decode cX11_law 31 = .ok (.getfield 39, 3) := bdX11_law_0.2.2.2.2.2.2.2.2.2.2.2.2.2.2.2
theorem dX11_law_34 : decode cX11_law 34 = .ok (.areturn, 1) := by decide +kernel
theorem bdX8_forget_0 : (decode cX8_forget 0 = .ok (.aload_n 0, 1)) ∧ (decode cX8_forget 1 = .ok (.iconst (-1), 1)) ∧ (decode cX8_forget 2 = .ok (.putfield 18, 3)) ∧ (decode cX8_forget 5 = .ok (.return_, 1)) := by decide +kernel
theorem dX8_forget_0 : decode cX8_forget 0 = .ok (.aload_n 0, 1) := bdX8_forget_0.1
theorem dX8_forget_1 : decode cX8_forget 1 = .ok (.iconst (-1), 1) := bdX8_forget_0.2.1
theorem dX8_forget_2 : decode cX8_forget 2 = .ok (.putfield 18, 3) := bdX8_forget_0.2.2.1
theorem dX8_forget_5 : decode cX8_forget 5 = .ok (.return_, 1) := bdX8_forget_0.2.2.2
theorem bdX6_forgetRoutes_0 : (decode cX6_forgetRoutes 0 = .ok (.aload_n 0, 1)) ∧ (decode cX6_forgetRoutes 1 = .ok (.getfield 12, 3)) ∧ (decode cX6_forgetRoutes 4 = .ok (.invokevirtual 24, 3)) ∧ (decode cX6_forgetRoutes 7 = .ok (.return_, 1)) := by decide +kernel
theorem dX6_forgetRoutes_0 : decode cX6_forgetRoutes 0 = .ok (.aload_n 0, 1) := bdX6_forgetRoutes_0.1
theorem dX6_forgetRoutes_1 : decode cX6_forgetRoutes 1 = .ok (.getfield 12, 3) := bdX6_forgetRoutes_0.2.1
theorem dX6_forgetRoutes_4 : decode cX6_forgetRoutes 4 = .ok (.invokevirtual 24, 3) := bdX6_forgetRoutes_0.2.2.1
theorem dX6_forgetRoutes_7 : decode cX6_forgetRoutes 7 = .ok (.return_, 1) := bdX6_forgetRoutes_0.2.2.2
theorem bdX11_run_0 : (decode cX11_run 0 = .ok (.aload_n 0, 1)) ∧ (decode cX11_run 1 = .ok (.iload_n 1, 1)) ∧ (decode cX11_run 2 = .ok (.invokevirtual 159, 3)) ∧ (decode cX11_run 5 = .ok (.ifCond .ne 5, 3)) ∧ (decode cX11_run 8 = .ok (.iconst (-1), 1)) ∧ (decode cX11_run 9 = .ok (.ireturn, 1)) ∧ (decode cX11_run 10 = .ok (.aload_n 0, 1)) ∧ (decode cX11_run 11 = .ok (.invokevirtual 162, 3)) ∧ (decode cX11_run 14 = .ok (.astore_n 2, 1)) ∧ (decode cX11_run 15 = .ok (.aload_n 0, 1)) ∧ (decode cX11_run 16 = .ok (.getfield 25, 3)) ∧ (decode cX11_run 19 = .ok (.invokevirtual 166, 3)) ∧ (decode cX11_run 22 = .ok (.iconst 0, 1)) ∧ (decode cX11_run 23 = .ok (.istore_n 3, 1)) ∧ (decode cX11_run 24 = .ok (.iload_n 3, 1)) ∧ (decode cX11_run 25 = .ok (.iload_n 1, 1)) := by decide +kernel
theorem dX11_run_0 : decode cX11_run 0 = .ok (.aload_n 0, 1) := bdX11_run_0.1
theorem dX11_run_1 : decode cX11_run 1 = .ok (.iload_n 1, 1) := bdX11_run_0.2.1
theorem dX11_run_2 : decode cX11_run 2 = .ok (.invokevirtual 159, 3) := bdX11_run_0.2.2.1
theorem dX11_run_5 : decode cX11_run 5 = .ok (.ifCond .ne 5, 3) := bdX11_run_0.2.2.2.1
theorem dX11_run_8 : decode cX11_run 8 = .ok (.iconst (-1), 1) := bdX11_run_0.2.2.2.2.1
theorem dX11_run_9 : decode cX11_run 9 = .ok (.ireturn, 1) := bdX11_run_0.2.2.2.2.2.1
theorem dX11_run_10 : decode cX11_run 10 = .ok (.aload_n 0, 1) := bdX11_run_0.2.2.2.2.2.2.1
theorem dX11_run_11 : decode cX11_run 11 = .ok (.invokevirtual 162, 3) := bdX11_run_0.2.2.2.2.2.2.2.1
theorem dX11_run_14 : decode cX11_run 14 = .ok (.astore_n 2, 1) := bdX11_run_0.2.2.2.2.2.2.2.2.1
theorem dX11_run_15 : decode cX11_run 15 = .ok (.aload_n 0, 1) := bdX11_run_0.2.2.2.2.2.2.2.2.2.1
theorem dX11_run_16 : decode cX11_run 16 = .ok (.getfield 25, 3) := bdX11_run_0.2.2.2.2.2.2.2.2.2.2.1
theorem dX11_run_19 : decode cX11_run 19 = .ok (.invokevirtual 166, 3) := bdX11_run_0.2.2.2.2.2.2.2.2.2.2.2.1
theorem dX11_run_22 : decode cX11_run 22 = .ok (.iconst 0, 1) := bdX11_run_0.2.2.2.2.2.2.2.2.2.2.2.2.1
theorem dX11_run_23 : decode cX11_run 23 = .ok (.istore_n 3, 1) := bdX11_run_0.2.2.2.2.2.2.2.2.2.2.2.2.2.1
theorem dX11_run_24 : decode cX11_run 24 = .ok (.iload_n 3, 1) := bdX11_run_0.2.2.2.2.2.2.2.2.2.2.2.2.2.2.1
theorem dX11_run_25 : decode cX11_run 25 = .ok (.iload_n 1, 1) := bdX11_run_0.2.2.2.2.2.2.2.2.2.2.2.2.2.2.2
theorem bdX11_run_26 : (decode cX11_run 26 = .ok (.if_icmp .ge 21, 3)) ∧ (decode cX11_run 29 = .ok (.aload_n 0, 1)) ∧ (decode cX11_run 30 = .ok (.getfield 25, 3)) ∧ (decode cX11_run 33 = .ok (.aload_n 0, 1)) ∧ (decode cX11_run 34 = .ok (.getfield 10, 3)) ∧ (decode cX11_run 37 = .ok (.aload_n 2, 1)) ∧ (decode cX11_run 38 = .ok (.invokevirtual 169, 3)) ∧ (decode cX11_run 41 = .ok (.iinc 3 1, 3)) ∧ (decode cX11_run 44 = .ok (.goto (-20), 3)) ∧ (decode cX11_run 47 = .ok (.aload_n 0, 1)) ∧ (decode cX11_run 48 = .ok (.getfield 10, 3)) ∧ (decode cX11_run 51 = .ok (.getfield 173, 3)) ∧ (decode cX11_run 54 = .ok (.ireturn, 1)) := by decide +kernel
theorem dX11_run_26 : decode cX11_run 26 = .ok (.if_icmp .ge 21, 3) := bdX11_run_26.1
theorem dX11_run_29 : decode cX11_run 29 = .ok (.aload_n 0, 1) := bdX11_run_26.2.1
theorem dX11_run_30 : decode cX11_run 30 = .ok (.getfield 25, 3) := bdX11_run_26.2.2.1
theorem dX11_run_33 : decode cX11_run 33 = .ok (.aload_n 0, 1) := bdX11_run_26.2.2.2.1
theorem dX11_run_34 : decode cX11_run 34 = .ok (.getfield 10, 3) := bdX11_run_26.2.2.2.2.1
theorem dX11_run_37 : decode cX11_run 37 = .ok (.aload_n 2, 1) := bdX11_run_26.2.2.2.2.2.1
theorem dX11_run_38 : decode cX11_run 38 = .ok (.invokevirtual 169, 3) := bdX11_run_26.2.2.2.2.2.2.1
theorem dX11_run_41 : decode cX11_run 41 = .ok (.iinc 3 1, 3) := bdX11_run_26.2.2.2.2.2.2.2.1
theorem dX11_run_44 : decode cX11_run 44 = .ok (.goto (-20), 3) := bdX11_run_26.2.2.2.2.2.2.2.2.1
theorem dX11_run_47 : decode cX11_run 47 = .ok (.aload_n 0, 1) := bdX11_run_26.2.2.2.2.2.2.2.2.2.1
theorem dX11_run_48 : decode cX11_run 48 = .ok (.getfield 10, 3) := bdX11_run_26.2.2.2.2.2.2.2.2.2.2.1
theorem dX11_run_51 : decode cX11_run 51 = .ok (.getfield 173, 3) := bdX11_run_26.2.2.2.2.2.2.2.2.2.2.2.1
theorem dX11_run_54 : decode cX11_run 54 = .ok (.ireturn, 1) := bdX11_run_26.2.2.2.2.2.2.2.2.2.2.2.2
theorem bdX12_isRun_0 : (decode cX12_isRun 0 = .ok (.iload_n 1, 1)) ∧ (decode cX12_isRun 1 = .ok (.iconst 1, 1)) ∧ (decode cX12_isRun 2 = .ok (.sipush 300, 3)) ∧ (decode cX12_isRun 5 = .ok (.invokestatic 95, 3)) ∧ (decode cX12_isRun 8 = .ok (.ifCond .eq 20, 3)) ∧ (decode cX12_isRun 11 = .ok (.aload_n 0, 1)) ∧ (decode cX12_isRun 12 = .ok (.getfield 7, 3)) ∧ (decode cX12_isRun 15 = .ok (.iconst 0, 1)) ∧ (decode cX12_isRun 16 = .ok (.iaload, 1)) ∧ (decode cX12_isRun 17 = .ok (.iload_n 1, 1)) ∧ (decode cX12_isRun 18 = .ok (.iadd, 1)) ∧ (decode cX12_isRun 19 = .ok (.ldc 121, 2)) ∧ (decode cX12_isRun 21 = .ok (.if_icmp .gt 7, 3)) ∧ (decode cX12_isRun 24 = .ok (.iconst 1, 1)) ∧ (decode cX12_isRun 25 = .ok (.goto 4, 3)) ∧ (decode cX12_isRun 28 = .ok (.iconst 0, 1)) := by decide +kernel
theorem dX12_isRun_0 : decode cX12_isRun 0 = .ok (.iload_n 1, 1) := bdX12_isRun_0.1
theorem dX12_isRun_1 : decode cX12_isRun 1 = .ok (.iconst 1, 1) := bdX12_isRun_0.2.1
theorem dX12_isRun_2 : decode cX12_isRun 2 = .ok (.sipush 300, 3) := bdX12_isRun_0.2.2.1
theorem dX12_isRun_5 : decode cX12_isRun 5 = .ok (.invokestatic 95, 3) := bdX12_isRun_0.2.2.2.1
theorem dX12_isRun_8 : decode cX12_isRun 8 = .ok (.ifCond .eq 20, 3) := bdX12_isRun_0.2.2.2.2.1
theorem dX12_isRun_11 : decode cX12_isRun 11 = .ok (.aload_n 0, 1) := bdX12_isRun_0.2.2.2.2.2.1
theorem dX12_isRun_12 : decode cX12_isRun 12 = .ok (.getfield 7, 3) := bdX12_isRun_0.2.2.2.2.2.2.1
theorem dX12_isRun_15 : decode cX12_isRun 15 = .ok (.iconst 0, 1) := bdX12_isRun_0.2.2.2.2.2.2.2.1
theorem dX12_isRun_16 : decode cX12_isRun 16 = .ok (.iaload, 1) := bdX12_isRun_0.2.2.2.2.2.2.2.2.1
theorem dX12_isRun_17 : decode cX12_isRun 17 = .ok (.iload_n 1, 1) := bdX12_isRun_0.2.2.2.2.2.2.2.2.2.1
theorem dX12_isRun_18 : decode cX12_isRun 18 = .ok (.iadd, 1) := bdX12_isRun_0.2.2.2.2.2.2.2.2.2.2.1
theorem dX12_isRun_19 : decode cX12_isRun 19 = .ok (.ldc 121, 2) := bdX12_isRun_0.2.2.2.2.2.2.2.2.2.2.2.1
theorem dX12_isRun_21 : decode cX12_isRun 21 = .ok (.if_icmp .gt 7, 3) := bdX12_isRun_0.2.2.2.2.2.2.2.2.2.2.2.2.1
theorem dX12_isRun_24 : decode cX12_isRun 24 = .ok (.iconst 1, 1) := bdX12_isRun_0.2.2.2.2.2.2.2.2.2.2.2.2.2.1
theorem dX12_isRun_25 : decode cX12_isRun 25 = .ok (.goto 4, 3) := bdX12_isRun_0.2.2.2.2.2.2.2.2.2.2.2.2.2.2.1
theorem dX12_isRun_28 : decode cX12_isRun 28 = .ok (.iconst 0, 1) := bdX12_isRun_0.2.2.2.2.2.2.2.2.2.2.2.2.2.2.2
theorem dX12_isRun_29 : decode cX12_isRun 29 = .ok (.ireturn, 1) := by decide +kernel
theorem bdX12_countOf_0 : (decode cX12_countOf 0 = .ok (.iconst 0, 1)) ∧ (decode cX12_countOf 1 = .ok (.istore_n 3, 1)) ∧ (decode cX12_countOf 2 = .ok (.iconst 0, 1)) ∧ (decode cX12_countOf 3 = .ok (.istore 4, 2)) ∧ (decode cX12_countOf 5 = .ok (.iload 4, 2)) ∧ (decode cX12_countOf 7 = .ok (.bipush 12, 2)) ∧ (decode cX12_countOf 9 = .ok (.if_icmp .ge 26, 3)) ∧ (decode cX12_countOf 12 = .ok (.iload_n 3, 1)) ∧ (decode cX12_countOf 13 = .ok (.aload_n 0, 1)) ∧ (decode cX12_countOf 14 = .ok (.getfield 7, 3)) ∧ (decode cX12_countOf 17 = .ok (.iload_n 1, 1)) ∧ (decode cX12_countOf 18 = .ok (.bipush 12, 2)) ∧ (decode cX12_countOf 20 = .ok (.iload_n 2, 1)) ∧ (decode cX12_countOf 21 = .ok (.imul, 1)) ∧ (decode cX12_countOf 22 = .ok (.iadd, 1)) ∧ (decode cX12_countOf 23 = .ok (.iload 4, 2)) := by decide +kernel
theorem dX12_countOf_0 : decode cX12_countOf 0 = .ok (.iconst 0, 1) := bdX12_countOf_0.1
theorem dX12_countOf_1 : decode cX12_countOf 1 = .ok (.istore_n 3, 1) := bdX12_countOf_0.2.1
theorem dX12_countOf_2 : decode cX12_countOf 2 = .ok (.iconst 0, 1) := bdX12_countOf_0.2.2.1
theorem dX12_countOf_3 : decode cX12_countOf 3 = .ok (.istore 4, 2) := bdX12_countOf_0.2.2.2.1
theorem dX12_countOf_5 : decode cX12_countOf 5 = .ok (.iload 4, 2) := bdX12_countOf_0.2.2.2.2.1
theorem dX12_countOf_7 : decode cX12_countOf 7 = .ok (.bipush 12, 2) := bdX12_countOf_0.2.2.2.2.2.1
theorem dX12_countOf_9 : decode cX12_countOf 9 = .ok (.if_icmp .ge 26, 3) := bdX12_countOf_0.2.2.2.2.2.2.1
theorem dX12_countOf_12 : decode cX12_countOf 12 = .ok (.iload_n 3, 1) := bdX12_countOf_0.2.2.2.2.2.2.2.1
theorem dX12_countOf_13 : decode cX12_countOf 13 = .ok (.aload_n 0, 1) := bdX12_countOf_0.2.2.2.2.2.2.2.2.1
theorem dX12_countOf_14 : decode cX12_countOf 14 = .ok (.getfield 7, 3) := bdX12_countOf_0.2.2.2.2.2.2.2.2.2.1
theorem dX12_countOf_17 : decode cX12_countOf 17 = .ok (.iload_n 1, 1) := bdX12_countOf_0.2.2.2.2.2.2.2.2.2.2.1
theorem dX12_countOf_18 : decode cX12_countOf 18 = .ok (.bipush 12, 2) := bdX12_countOf_0.2.2.2.2.2.2.2.2.2.2.2.1
theorem dX12_countOf_20 : decode cX12_countOf 20 = .ok (.iload_n 2, 1) := bdX12_countOf_0.2.2.2.2.2.2.2.2.2.2.2.2.1
theorem dX12_countOf_21 : decode cX12_countOf 21 = .ok (.imul, 1) := bdX12_countOf_0.2.2.2.2.2.2.2.2.2.2.2.2.2.1
theorem dX12_countOf_22 : decode cX12_countOf 22 = .ok (.iadd, 1) := bdX12_countOf_0.2.2.2.2.2.2.2.2.2.2.2.2.2.2.1
theorem dX12_countOf_23 : decode cX12_countOf 23 = .ok (.iload 4, 2) := bdX12_countOf_0.2.2.2.2.2.2.2.2.2.2.2.2.2.2.2
theorem bdX12_countOf_25 : (decode cX12_countOf 25 = .ok (.iadd, 1)) ∧ (decode cX12_countOf 26 = .ok (.iaload, 1)) ∧ (decode cX12_countOf 27 = .ok (.iadd, 1)) ∧ (decode cX12_countOf 28 = .ok (.istore_n 3, 1)) ∧ (decode cX12_countOf 29 = .ok (.iinc 4 1, 3)) ∧ (decode cX12_countOf 32 = .ok (.goto (-27), 3)) ∧ (decode cX12_countOf 35 = .ok (.iload_n 3, 1)) ∧ (decode cX12_countOf 36 = .ok (.ireturn, 1)) := by decide +kernel
theorem dX12_countOf_25 : decode cX12_countOf 25 = .ok (.iadd, 1) := bdX12_countOf_25.1
theorem dX12_countOf_26 : decode cX12_countOf 26 = .ok (.iaload, 1) := bdX12_countOf_25.2.1
theorem dX12_countOf_27 : decode cX12_countOf 27 = .ok (.iadd, 1) := bdX12_countOf_25.2.2.1
theorem dX12_countOf_28 : decode cX12_countOf 28 = .ok (.istore_n 3, 1) := bdX12_countOf_25.2.2.2.1
theorem dX12_countOf_29 : decode cX12_countOf 29 = .ok (.iinc 4 1, 3) := bdX12_countOf_25.2.2.2.2.1
theorem dX12_countOf_32 : decode cX12_countOf 32 = .ok (.goto (-27), 3) := bdX12_countOf_25.2.2.2.2.2.1
theorem dX12_countOf_35 : decode cX12_countOf 35 = .ok (.iload_n 3, 1) := bdX12_countOf_25.2.2.2.2.2.2.1
theorem dX12_countOf_36 : decode cX12_countOf 36 = .ok (.ireturn, 1) := bdX12_countOf_25.2.2.2.2.2.2.2
theorem bdX12_inHall_0 : (decode cX12_inHall 0 = .ok (.aload_n 0, 1)) ∧ (decode cX12_inHall 1 = .ok (.bipush 50, 2)) ∧ (decode cX12_inHall 3 = .ok (.iload_n 1, 1)) ∧ (decode cX12_inHall 4 = .ok (.invokevirtual 289, 3)) ∧ (decode cX12_inHall 7 = .ok (.ireturn, 1)) := by decide +kernel
theorem dX12_inHall_0 : decode cX12_inHall 0 = .ok (.aload_n 0, 1) := bdX12_inHall_0.1
theorem dX12_inHall_1 : decode cX12_inHall 1 = .ok (.bipush 50, 2) := bdX12_inHall_0.2.1
theorem dX12_inHall_3 : decode cX12_inHall 3 = .ok (.iload_n 1, 1) := bdX12_inHall_0.2.2.1
theorem dX12_inHall_4 : decode cX12_inHall 4 = .ok (.invokevirtual 289, 3) := bdX12_inHall_0.2.2.2.1
theorem dX12_inHall_7 : decode cX12_inHall 7 = .ok (.ireturn, 1) := bdX12_inHall_0.2.2.2.2
theorem bdX12_hallOf_0 : (decode cX12_hallOf 0 = .ok (.aload_n 0, 1)) ∧ (decode cX12_hallOf 1 = .ok (.getfield 7, 3)) ∧ (decode cX12_hallOf 4 = .ok (.bipush 20, 2)) ∧ (decode cX12_hallOf 6 = .ok (.iconst 4, 1)) ∧ (decode cX12_hallOf 7 = .ok (.iload_n 1, 1)) ∧ (decode cX12_hallOf 8 = .ok (.imul, 1)) ∧ (decode cX12_hallOf 9 = .ok (.iadd, 1)) ∧ (decode cX12_hallOf 10 = .ok (.iload_n 2, 1)) ∧ (decode cX12_hallOf 11 = .ok (.iadd, 1)) ∧ (decode cX12_hallOf 12 = .ok (.iaload, 1)) ∧ (decode cX12_hallOf 13 = .ok (.ireturn, 1)) := by decide +kernel
theorem dX12_hallOf_0 : decode cX12_hallOf 0 = .ok (.aload_n 0, 1) := bdX12_hallOf_0.1
theorem dX12_hallOf_1 : decode cX12_hallOf 1 = .ok (.getfield 7, 3) := bdX12_hallOf_0.2.1
theorem dX12_hallOf_4 : decode cX12_hallOf 4 = .ok (.bipush 20, 2) := bdX12_hallOf_0.2.2.1
theorem dX12_hallOf_6 : decode cX12_hallOf 6 = .ok (.iconst 4, 1) := bdX12_hallOf_0.2.2.2.1
theorem dX12_hallOf_7 : decode cX12_hallOf 7 = .ok (.iload_n 1, 1) := bdX12_hallOf_0.2.2.2.2.1
theorem dX12_hallOf_8 : decode cX12_hallOf 8 = .ok (.imul, 1) := bdX12_hallOf_0.2.2.2.2.2.1
theorem dX12_hallOf_9 : decode cX12_hallOf 9 = .ok (.iadd, 1) := bdX12_hallOf_0.2.2.2.2.2.2.1
theorem dX12_hallOf_10 : decode cX12_hallOf 10 = .ok (.iload_n 2, 1) := bdX12_hallOf_0.2.2.2.2.2.2.2.1
theorem dX12_hallOf_11 : decode cX12_hallOf 11 = .ok (.iadd, 1) := bdX12_hallOf_0.2.2.2.2.2.2.2.2.1
theorem dX12_hallOf_12 : decode cX12_hallOf 12 = .ok (.iaload, 1) := bdX12_hallOf_0.2.2.2.2.2.2.2.2.2.1
theorem dX12_hallOf_13 : decode cX12_hallOf 13 = .ok (.ireturn, 1) := bdX12_hallOf_0.2.2.2.2.2.2.2.2.2.2
theorem bdX12_isOver_0 : (decode cX12_isOver 0 = .ok (.aload_n 0, 1)) ∧ (decode cX12_isOver 1 = .ok (.iload_n 1, 1)) ∧ (decode cX12_isOver 2 = .ok (.invokevirtual 292, 3)) ∧ (decode cX12_isOver 5 = .ok (.aload_n 0, 1)) ∧ (decode cX12_isOver 6 = .ok (.iload_n 1, 1)) ∧ (decode cX12_isOver 7 = .ok (.iconst 0, 1)) ∧ (decode cX12_isOver 8 = .ok (.invokevirtual 295, 3)) ∧ (decode cX12_isOver 11 = .ok (.if_icmp .le 7, 3)) ∧ (decode cX12_isOver 14 = .ok (.iconst 1, 1)) ∧ (decode cX12_isOver 15 = .ok (.goto 4, 3)) ∧ (decode cX12_isOver 18 = .ok (.iconst 0, 1)) ∧ (decode cX12_isOver 19 = .ok (.ireturn, 1)) := by decide +kernel
theorem dX12_isOver_0 : decode cX12_isOver 0 = .ok (.aload_n 0, 1) := bdX12_isOver_0.1
theorem dX12_isOver_1 : decode cX12_isOver 1 = .ok (.iload_n 1, 1) := bdX12_isOver_0.2.1
theorem dX12_isOver_2 : decode cX12_isOver 2 = .ok (.invokevirtual 292, 3) := bdX12_isOver_0.2.2.1
theorem dX12_isOver_5 : decode cX12_isOver 5 = .ok (.aload_n 0, 1) := bdX12_isOver_0.2.2.2.1
theorem dX12_isOver_6 : decode cX12_isOver 6 = .ok (.iload_n 1, 1) := bdX12_isOver_0.2.2.2.2.1
theorem dX12_isOver_7 : decode cX12_isOver 7 = .ok (.iconst 0, 1) := bdX12_isOver_0.2.2.2.2.2.1
theorem dX12_isOver_8 : decode cX12_isOver 8 = .ok (.invokevirtual 295, 3) := bdX12_isOver_0.2.2.2.2.2.2.1
theorem dX12_isOver_11 : decode cX12_isOver 11 = .ok (.if_icmp .le 7, 3) := bdX12_isOver_0.2.2.2.2.2.2.2.1
theorem dX12_isOver_14 : decode cX12_isOver 14 = .ok (.iconst 1, 1) := bdX12_isOver_0.2.2.2.2.2.2.2.2.1
theorem dX12_isOver_15 : decode cX12_isOver 15 = .ok (.goto 4, 3) := bdX12_isOver_0.2.2.2.2.2.2.2.2.2.1
theorem dX12_isOver_18 : decode cX12_isOver 18 = .ok (.iconst 0, 1) := bdX12_isOver_0.2.2.2.2.2.2.2.2.2.2.1
theorem dX12_isOver_19 : decode cX12_isOver 19 = .ok (.ireturn, 1) := bdX12_isOver_0.2.2.2.2.2.2.2.2.2.2.2
theorem bdX12_comes_0 : (decode cX12_comes 0 = .ok (.iload_n 1, 1)) ∧ (decode cX12_comes 1 = .ok (.iload_n 2, 1)) ∧ (decode cX12_comes 2 = .ok (.if_icmp .ne 18, 3)) ∧ (decode cX12_comes 5 = .ok (.aload_n 0, 1)) ∧ (decode cX12_comes 6 = .ok (.getfield 7, 3)) ∧ (decode cX12_comes 9 = .ok (.bipush 9, 2)) ∧ (decode cX12_comes 11 = .ok (.dup2, 1)) ∧ (decode cX12_comes 12 = .ok (.iaload, 1)) ∧ (decode cX12_comes 13 = .ok (.iload 4, 2)) ∧ (decode cX12_comes 15 = .ok (.iadd, 1)) ∧ (decode cX12_comes 16 = .ok (.iastore, 1)) ∧ (decode cX12_comes 17 = .ok (.goto 26, 3)) ∧ (decode cX12_comes 20 = .ok (.aload_n 0, 1)) ∧ (decode cX12_comes 21 = .ok (.getfield 7, 3)) ∧ (decode cX12_comes 24 = .ok (.bipush 50, 2)) ∧ (decode cX12_comes 26 = .ok (.bipush 12, 2)) := by decide +kernel
theorem dX12_comes_0 : decode cX12_comes 0 = .ok (.iload_n 1, 1) := bdX12_comes_0.1
theorem dX12_comes_1 : decode cX12_comes 1 = .ok (.iload_n 2, 1) := bdX12_comes_0.2.1
theorem dX12_comes_2 : decode cX12_comes 2 = .ok (.if_icmp .ne 18, 3) := bdX12_comes_0.2.2.1
theorem dX12_comes_5 : decode cX12_comes 5 = .ok (.aload_n 0, 1) := bdX12_comes_0.2.2.2.1
theorem dX12_comes_6 : decode cX12_comes 6 = .ok (.getfield 7, 3) := bdX12_comes_0.2.2.2.2.1
theorem dX12_comes_9 : decode cX12_comes 9 = .ok (.bipush 9, 2) := bdX12_comes_0.2.2.2.2.2.1
theorem dX12_comes_11 : decode cX12_comes 11 = .ok (.dup2, 1) := bdX12_comes_0.2.2.2.2.2.2.1
theorem dX12_comes_12 : decode cX12_comes 12 = .ok (.iaload, 1) := bdX12_comes_0.2.2.2.2.2.2.2.1
theorem dX12_comes_13 : decode cX12_comes 13 = .ok (.iload 4, 2) := bdX12_comes_0.2.2.2.2.2.2.2.2.1
theorem dX12_comes_15 : decode cX12_comes 15 = .ok (.iadd, 1) := bdX12_comes_0.2.2.2.2.2.2.2.2.2.1
theorem dX12_comes_16 : decode cX12_comes 16 = .ok (.iastore, 1) := bdX12_comes_0.2.2.2.2.2.2.2.2.2.2.1
theorem dX12_comes_17 : decode cX12_comes 17 = .ok (.goto 26, 3) := bdX12_comes_0.2.2.2.2.2.2.2.2.2.2.2.1
theorem dX12_comes_20 : decode cX12_comes 20 = .ok (.aload_n 0, 1) := bdX12_comes_0.2.2.2.2.2.2.2.2.2.2.2.2.1
theorem dX12_comes_21 : decode cX12_comes 21 = .ok (.getfield 7, 3) := bdX12_comes_0.2.2.2.2.2.2.2.2.2.2.2.2.2.1
theorem dX12_comes_24 : decode cX12_comes 24 = .ok (.bipush 50, 2) := bdX12_comes_0.2.2.2.2.2.2.2.2.2.2.2.2.2.2.1
theorem dX12_comes_26 : decode cX12_comes 26 = .ok (.bipush 12, 2) := bdX12_comes_0.2.2.2.2.2.2.2.2.2.2.2.2.2.2.2
theorem bdX12_comes_28 : (decode cX12_comes 28 = .ok (.iload_n 1, 1)) ∧ (decode cX12_comes 29 = .ok (.imul, 1)) ∧ (decode cX12_comes 30 = .ok (.iadd, 1)) ∧ (decode cX12_comes 31 = .ok (.iconst 2, 1)) ∧ (decode cX12_comes 32 = .ok (.iload_n 2, 1)) ∧ (decode cX12_comes 33 = .ok (.imul, 1)) ∧ (decode cX12_comes 34 = .ok (.iadd, 1)) ∧ (decode cX12_comes 35 = .ok (.iload_n 3, 1)) ∧ (decode cX12_comes 36 = .ok (.iadd, 1)) ∧ (decode cX12_comes 37 = .ok (.dup2, 1)) ∧ (decode cX12_comes 38 = .ok (.iaload, 1)) ∧ (decode cX12_comes 39 = .ok (.iload 4, 2)) ∧ (decode cX12_comes 41 = .ok (.iadd, 1)) ∧ (decode cX12_comes 42 = .ok (.iastore, 1)) ∧ (decode cX12_comes 43 = .ok (.return_, 1)) := by decide +kernel
theorem dX12_comes_28 : decode cX12_comes 28 = .ok (.iload_n 1, 1) := bdX12_comes_28.1
theorem dX12_comes_29 : decode cX12_comes 29 = .ok (.imul, 1) := bdX12_comes_28.2.1
theorem dX12_comes_30 : decode cX12_comes 30 = .ok (.iadd, 1) := bdX12_comes_28.2.2.1
theorem dX12_comes_31 : decode cX12_comes 31 = .ok (.iconst 2, 1) := bdX12_comes_28.2.2.2.1
theorem dX12_comes_32 : decode cX12_comes 32 = .ok (.iload_n 2, 1) := bdX12_comes_28.2.2.2.2.1
theorem dX12_comes_33 : decode cX12_comes 33 = .ok (.imul, 1) := bdX12_comes_28.2.2.2.2.2.1
theorem dX12_comes_34 : decode cX12_comes 34 = .ok (.iadd, 1) := bdX12_comes_28.2.2.2.2.2.2.1
theorem dX12_comes_35 : decode cX12_comes 35 = .ok (.iload_n 3, 1) := bdX12_comes_28.2.2.2.2.2.2.2.1
theorem dX12_comes_36 : decode cX12_comes 36 = .ok (.iadd, 1) := bdX12_comes_28.2.2.2.2.2.2.2.2.1
theorem dX12_comes_37 : decode cX12_comes 37 = .ok (.dup2, 1) := bdX12_comes_28.2.2.2.2.2.2.2.2.2.1
theorem dX12_comes_38 : decode cX12_comes 38 = .ok (.iaload, 1) := bdX12_comes_28.2.2.2.2.2.2.2.2.2.2.1
theorem dX12_comes_39 : decode cX12_comes 39 = .ok (.iload 4, 2) := bdX12_comes_28.2.2.2.2.2.2.2.2.2.2.2.1
theorem dX12_comes_41 : decode cX12_comes 41 = .ok (.iadd, 1) := bdX12_comes_28.2.2.2.2.2.2.2.2.2.2.2.2.1
theorem dX12_comes_42 : decode cX12_comes 42 = .ok (.iastore, 1) := bdX12_comes_28.2.2.2.2.2.2.2.2.2.2.2.2.2.1
theorem dX12_comes_43 : decode cX12_comes 43 = .ok (.return_, 1) := bdX12_comes_28.2.2.2.2.2.2.2.2.2.2.2.2.2.2
theorem bdX12_bound_0 : (decode cX12_bound 0 = .ok (.lload_n 0, 1)) ∧ (decode cX12_bound 1 = .ok (.ldc2_w 277, 3)) ∧ (decode cX12_bound 4 = .ok (.lcmp, 1)) ∧ (decode cX12_bound 5 = .ok (.ifCond .le 9, 3)) ∧ (decode cX12_bound 8 = .ok (.ldc2_w 277, 3)) ∧ (decode cX12_bound 11 = .ok (.goto 18, 3)) ∧ (decode cX12_bound 14 = .ok (.lload_n 0, 1)) ∧ (decode cX12_bound 15 = .ok (.ldc2_w 279, 3)) ∧ (decode cX12_bound 18 = .ok (.lcmp, 1)) ∧ (decode cX12_bound 19 = .ok (.ifCond .ge 9, 3)) ∧ (decode cX12_bound 22 = .ok (.ldc2_w 279, 3)) ∧ (decode cX12_bound 25 = .ok (.goto 4, 3)) ∧ (decode cX12_bound 28 = .ok (.lload_n 0, 1)) ∧ (decode cX12_bound 29 = .ok (.lreturn, 1)) := by decide +kernel
theorem dX12_bound_0 : decode cX12_bound 0 = .ok (.lload_n 0, 1) := bdX12_bound_0.1
theorem dX12_bound_1 : decode cX12_bound 1 = .ok (.ldc2_w 277, 3) := bdX12_bound_0.2.1
theorem dX12_bound_4 : decode cX12_bound 4 = .ok (.lcmp, 1) := bdX12_bound_0.2.2.1
theorem dX12_bound_5 : decode cX12_bound 5 = .ok (.ifCond .le 9, 3) := bdX12_bound_0.2.2.2.1
theorem dX12_bound_8 : decode cX12_bound 8 = .ok (.ldc2_w 277, 3) := bdX12_bound_0.2.2.2.2.1
theorem dX12_bound_11 : decode cX12_bound 11 = .ok (.goto 18, 3) := bdX12_bound_0.2.2.2.2.2.1
theorem dX12_bound_14 : decode cX12_bound 14 = .ok (.lload_n 0, 1) := bdX12_bound_0.2.2.2.2.2.2.1
theorem dX12_bound_15 : decode cX12_bound 15 = .ok (.ldc2_w 279, 3) := bdX12_bound_0.2.2.2.2.2.2.2.1
theorem dX12_bound_18 : decode cX12_bound 18 = .ok (.lcmp, 1) := bdX12_bound_0.2.2.2.2.2.2.2.2.1
theorem dX12_bound_19 : decode cX12_bound 19 = .ok (.ifCond .ge 9, 3) := bdX12_bound_0.2.2.2.2.2.2.2.2.2.1
theorem dX12_bound_22 : decode cX12_bound 22 = .ok (.ldc2_w 279, 3) := bdX12_bound_0.2.2.2.2.2.2.2.2.2.2.1
theorem dX12_bound_25 : decode cX12_bound 25 = .ok (.goto 4, 3) := bdX12_bound_0.2.2.2.2.2.2.2.2.2.2.2.1
theorem dX12_bound_28 : decode cX12_bound 28 = .ok (.lload_n 0, 1) := bdX12_bound_0.2.2.2.2.2.2.2.2.2.2.2.2.1
theorem dX12_bound_29 : decode cX12_bound 29 = .ok (.lreturn, 1) := bdX12_bound_0.2.2.2.2.2.2.2.2.2.2.2.2.2
theorem bdX12_worked_0 : (decode cX12_worked 0 = .ok (.iload_n 0, 1)) ∧ (decode cX12_worked 1 = .ok (.lookupswitch 210 #[(35, 170), (42, 113), (43, 99), (45, 106), (47, 120), (60, 134), (61, 158), (62, 146), (300, 182), (301, 194), (406, 206)], 99)) ∧ (decode cX12_worked 100 = .ok (.lload_n 1, 1)) ∧ (decode cX12_worked 101 = .ok (.lload_n 3, 1)) ∧ (decode cX12_worked 102 = .ok (.ladd, 1)) ∧ (decode cX12_worked 103 = .ok (.invokestatic 281, 3)) ∧ (decode cX12_worked 106 = .ok (.lreturn, 1)) ∧ (decode cX12_worked 107 = .ok (.lload_n 1, 1)) ∧ (decode cX12_worked 108 = .ok (.lload_n 3, 1)) ∧ (decode cX12_worked 109 = .ok (.lsub, 1)) ∧ (decode cX12_worked 110 = .ok (.invokestatic 281, 3)) ∧ (decode cX12_worked 113 = .ok (.lreturn, 1)) ∧ (decode cX12_worked 114 = .ok (.lload_n 1, 1)) ∧ (decode cX12_worked 115 = .ok (.lload_n 3, 1)) ∧ (decode cX12_worked 116 = .ok (.lmul, 1)) ∧ (decode cX12_worked 117 = .ok (.invokestatic 281, 3)) := by decide +kernel
theorem dX12_worked_0 : decode cX12_worked 0 = .ok (.iload_n 0, 1) := bdX12_worked_0.1
theorem dX12_worked_1 : decode cX12_worked 1 = .ok (.lookupswitch 210 #[(35, 170), (42, 113), (43, 99), (45, 106), (47, 120), (60, 134), (61, 158), (62, 146), (300, 182), (301, 194), (406, 206)], 99) := bdX12_worked_0.2.1
theorem dX12_worked_100 : decode cX12_worked 100 = .ok (.lload_n 1, 1) := bdX12_worked_0.2.2.1
theorem dX12_worked_101 : decode cX12_worked 101 = .ok (.lload_n 3, 1) := bdX12_worked_0.2.2.2.1
theorem dX12_worked_102 : decode cX12_worked 102 = .ok (.ladd, 1) := bdX12_worked_0.2.2.2.2.1
theorem dX12_worked_103 : decode cX12_worked 103 = .ok (.invokestatic 281, 3) := bdX12_worked_0.2.2.2.2.2.1
theorem dX12_worked_106 : decode cX12_worked 106 = .ok (.lreturn, 1) := bdX12_worked_0.2.2.2.2.2.2.1
theorem dX12_worked_107 : decode cX12_worked 107 = .ok (.lload_n 1, 1) := bdX12_worked_0.2.2.2.2.2.2.2.1
theorem dX12_worked_108 : decode cX12_worked 108 = .ok (.lload_n 3, 1) := bdX12_worked_0.2.2.2.2.2.2.2.2.1
theorem dX12_worked_109 : decode cX12_worked 109 = .ok (.lsub, 1) := bdX12_worked_0.2.2.2.2.2.2.2.2.2.1
theorem dX12_worked_110 : decode cX12_worked 110 = .ok (.invokestatic 281, 3) := bdX12_worked_0.2.2.2.2.2.2.2.2.2.2.1
theorem dX12_worked_113 : decode cX12_worked 113 = .ok (.lreturn, 1) := bdX12_worked_0.2.2.2.2.2.2.2.2.2.2.2.1
theorem dX12_worked_114 : decode cX12_worked 114 = .ok (.lload_n 1, 1) := bdX12_worked_0.2.2.2.2.2.2.2.2.2.2.2.2.1
theorem dX12_worked_115 : decode cX12_worked 115 = .ok (.lload_n 3, 1) := bdX12_worked_0.2.2.2.2.2.2.2.2.2.2.2.2.2.1
theorem dX12_worked_116 : decode cX12_worked 116 = .ok (.lmul, 1) := bdX12_worked_0.2.2.2.2.2.2.2.2.2.2.2.2.2.2.1
theorem dX12_worked_117 : decode cX12_worked 117 = .ok (.invokestatic 281, 3) := bdX12_worked_0.2.2.2.2.2.2.2.2.2.2.2.2.2.2.2
theorem bdX12_worked_120 : (decode cX12_worked 120 = .ok (.lreturn, 1)) ∧ (decode cX12_worked 121 = .ok (.lload_n 3, 1)) ∧ (decode cX12_worked 122 = .ok (.lconst 0, 1)) ∧ (decode cX12_worked 123 = .ok (.lcmp, 1)) ∧ (decode cX12_worked 124 = .ok (.ifCond .ne 7, 3)) ∧ (decode cX12_worked 127 = .ok (.lconst 0, 1)) ∧ (decode cX12_worked 128 = .ok (.goto 6, 3)) ∧ (decode cX12_worked 131 = .ok (.lload_n 1, 1)) ∧ (decode cX12_worked 132 = .ok (.lload_n 3, 1)) ∧ (decode cX12_worked 133 = .ok (.ldiv, 1)) ∧ (decode cX12_worked 134 = .ok (.lreturn, 1)) ∧ (decode cX12_worked 135 = .ok (.lload_n 1, 1)) ∧ (decode cX12_worked 136 = .ok (.lload_n 3, 1)) ∧ (decode cX12_worked 137 = .ok (.lcmp, 1)) ∧ (decode cX12_worked 138 = .ok (.ifCond .ge 7, 3)) ∧ (decode cX12_worked 141 = .ok (.lconst 1, 1)) := by decide +kernel
theorem dX12_worked_120 : decode cX12_worked 120 = .ok (.lreturn, 1) := bdX12_worked_120.1
theorem dX12_worked_121 : decode cX12_worked 121 = .ok (.lload_n 3, 1) := bdX12_worked_120.2.1
theorem dX12_worked_122 : decode cX12_worked 122 = .ok (.lconst 0, 1) := bdX12_worked_120.2.2.1
theorem dX12_worked_123 : decode cX12_worked 123 = .ok (.lcmp, 1) := bdX12_worked_120.2.2.2.1
theorem dX12_worked_124 : decode cX12_worked 124 = .ok (.ifCond .ne 7, 3) := bdX12_worked_120.2.2.2.2.1
theorem dX12_worked_127 : decode cX12_worked 127 = .ok (.lconst 0, 1) := bdX12_worked_120.2.2.2.2.2.1
theorem dX12_worked_128 : decode cX12_worked 128 = .ok (.goto 6, 3) := bdX12_worked_120.2.2.2.2.2.2.1
theorem dX12_worked_131 : decode cX12_worked 131 = .ok (.lload_n 1, 1) := bdX12_worked_120.2.2.2.2.2.2.2.1
theorem dX12_worked_132 : decode cX12_worked 132 = .ok (.lload_n 3, 1) := bdX12_worked_120.2.2.2.2.2.2.2.2.1
theorem dX12_worked_133 : decode cX12_worked 133 = .ok (.ldiv, 1) := bdX12_worked_120.2.2.2.2.2.2.2.2.2.1
theorem dX12_worked_134 : decode cX12_worked 134 = .ok (.lreturn, 1) := bdX12_worked_120.2.2.2.2.2.2.2.2.2.2.1
theorem dX12_worked_135 : decode cX12_worked 135 = .ok (.lload_n 1, 1) := bdX12_worked_120.2.2.2.2.2.2.2.2.2.2.2.1
theorem dX12_worked_136 : decode cX12_worked 136 = .ok (.lload_n 3, 1) := bdX12_worked_120.2.2.2.2.2.2.2.2.2.2.2.2.1
theorem dX12_worked_137 : decode cX12_worked 137 = .ok (.lcmp, 1) := bdX12_worked_120.2.2.2.2.2.2.2.2.2.2.2.2.2.1
theorem dX12_worked_138 : decode cX12_worked 138 = .ok (.ifCond .ge 7, 3) := bdX12_worked_120.2.2.2.2.2.2.2.2.2.2.2.2.2.2.1
theorem dX12_worked_141 : decode cX12_worked 141 = .ok (.lconst 1, 1) := bdX12_worked_120.2.2.2.2.2.2.2.2.2.2.2.2.2.2.2
theorem bdX12_worked_142 : (decode cX12_worked 142 = .ok (.goto 4, 3)) ∧ (decode cX12_worked 145 = .ok (.lconst 0, 1)) ∧ (decode cX12_worked 146 = .ok (.lreturn, 1)) ∧ (decode cX12_worked 147 = .ok (.lload_n 1, 1)) ∧ (decode cX12_worked 148 = .ok (.lload_n 3, 1)) ∧ (decode cX12_worked 149 = .ok (.lcmp, 1)) ∧ (decode cX12_worked 150 = .ok (.ifCond .le 7, 3)) ∧ (decode cX12_worked 153 = .ok (.lconst 1, 1)) ∧ (decode cX12_worked 154 = .ok (.goto 4, 3)) ∧ (decode cX12_worked 157 = .ok (.lconst 0, 1)) ∧ (decode cX12_worked 158 = .ok (.lreturn, 1)) ∧ (decode cX12_worked 159 = .ok (.lload_n 1, 1)) ∧ (decode cX12_worked 160 = .ok (.lload_n 3, 1)) ∧ (decode cX12_worked 161 = .ok (.lcmp, 1)) ∧ (decode cX12_worked 162 = .ok (.ifCond .ne 7, 3)) ∧ (decode cX12_worked 165 = .ok (.lconst 1, 1)) := by decide +kernel
theorem dX12_worked_142 : decode cX12_worked 142 = .ok (.goto 4, 3) := bdX12_worked_142.1
theorem dX12_worked_145 : decode cX12_worked 145 = .ok (.lconst 0, 1) := bdX12_worked_142.2.1
theorem dX12_worked_146 : decode cX12_worked 146 = .ok (.lreturn, 1) := bdX12_worked_142.2.2.1
theorem dX12_worked_147 : decode cX12_worked 147 = .ok (.lload_n 1, 1) := bdX12_worked_142.2.2.2.1
theorem dX12_worked_148 : decode cX12_worked 148 = .ok (.lload_n 3, 1) := bdX12_worked_142.2.2.2.2.1
theorem dX12_worked_149 : decode cX12_worked 149 = .ok (.lcmp, 1) := bdX12_worked_142.2.2.2.2.2.1
theorem dX12_worked_150 : decode cX12_worked 150 = .ok (.ifCond .le 7, 3) := bdX12_worked_142.2.2.2.2.2.2.1
theorem dX12_worked_153 : decode cX12_worked 153 = .ok (.lconst 1, 1) := bdX12_worked_142.2.2.2.2.2.2.2.1
theorem dX12_worked_154 : decode cX12_worked 154 = .ok (.goto 4, 3) := bdX12_worked_142.2.2.2.2.2.2.2.2.1
theorem dX12_worked_157 : decode cX12_worked 157 = .ok (.lconst 0, 1) := bdX12_worked_142.2.2.2.2.2.2.2.2.2.1
theorem dX12_worked_158 : decode cX12_worked 158 = .ok (.lreturn, 1) := bdX12_worked_142.2.2.2.2.2.2.2.2.2.2.1
theorem dX12_worked_159 : decode cX12_worked 159 = .ok (.lload_n 1, 1) := bdX12_worked_142.2.2.2.2.2.2.2.2.2.2.2.1
theorem dX12_worked_160 : decode cX12_worked 160 = .ok (.lload_n 3, 1) := bdX12_worked_142.2.2.2.2.2.2.2.2.2.2.2.2.1
theorem dX12_worked_161 : decode cX12_worked 161 = .ok (.lcmp, 1) := bdX12_worked_142.2.2.2.2.2.2.2.2.2.2.2.2.2.1
theorem dX12_worked_162 : decode cX12_worked 162 = .ok (.ifCond .ne 7, 3) := bdX12_worked_142.2.2.2.2.2.2.2.2.2.2.2.2.2.2.1
theorem dX12_worked_165 : decode cX12_worked 165 = .ok (.lconst 1, 1) := bdX12_worked_142.2.2.2.2.2.2.2.2.2.2.2.2.2.2.2
theorem bdX12_worked_166 : (decode cX12_worked 166 = .ok (.goto 4, 3)) ∧ (decode cX12_worked 169 = .ok (.lconst 0, 1)) ∧ (decode cX12_worked 170 = .ok (.lreturn, 1)) ∧ (decode cX12_worked 171 = .ok (.lload_n 1, 1)) ∧ (decode cX12_worked 172 = .ok (.lload_n 3, 1)) ∧ (decode cX12_worked 173 = .ok (.lcmp, 1)) ∧ (decode cX12_worked 174 = .ok (.ifCond .eq 7, 3)) ∧ (decode cX12_worked 177 = .ok (.lconst 1, 1)) ∧ (decode cX12_worked 178 = .ok (.goto 4, 3)) ∧ (decode cX12_worked 181 = .ok (.lconst 0, 1)) ∧ (decode cX12_worked 182 = .ok (.lreturn, 1)) ∧ (decode cX12_worked 183 = .ok (.lload_n 1, 1)) ∧ (decode cX12_worked 184 = .ok (.lload_n 3, 1)) ∧ (decode cX12_worked 185 = .ok (.lcmp, 1)) ∧ (decode cX12_worked 186 = .ok (.ifCond .gt 7, 3)) ∧ (decode cX12_worked 189 = .ok (.lconst 1, 1)) := by decide +kernel
theorem dX12_worked_166 : decode cX12_worked 166 = .ok (.goto 4, 3) := bdX12_worked_166.1
theorem dX12_worked_169 : decode cX12_worked 169 = .ok (.lconst 0, 1) := bdX12_worked_166.2.1
theorem dX12_worked_170 : decode cX12_worked 170 = .ok (.lreturn, 1) := bdX12_worked_166.2.2.1
theorem dX12_worked_171 : decode cX12_worked 171 = .ok (.lload_n 1, 1) := bdX12_worked_166.2.2.2.1
theorem dX12_worked_172 : decode cX12_worked 172 = .ok (.lload_n 3, 1) := bdX12_worked_166.2.2.2.2.1
theorem dX12_worked_173 : decode cX12_worked 173 = .ok (.lcmp, 1) := bdX12_worked_166.2.2.2.2.2.1
theorem dX12_worked_174 : decode cX12_worked 174 = .ok (.ifCond .eq 7, 3) := bdX12_worked_166.2.2.2.2.2.2.1
theorem dX12_worked_177 : decode cX12_worked 177 = .ok (.lconst 1, 1) := bdX12_worked_166.2.2.2.2.2.2.2.1
theorem dX12_worked_178 : decode cX12_worked 178 = .ok (.goto 4, 3) := bdX12_worked_166.2.2.2.2.2.2.2.2.1
theorem dX12_worked_181 : decode cX12_worked 181 = .ok (.lconst 0, 1) := bdX12_worked_166.2.2.2.2.2.2.2.2.2.1
theorem dX12_worked_182 : decode cX12_worked 182 = .ok (.lreturn, 1) := bdX12_worked_166.2.2.2.2.2.2.2.2.2.2.1
theorem dX12_worked_183 : decode cX12_worked 183 = .ok (.lload_n 1, 1) := bdX12_worked_166.2.2.2.2.2.2.2.2.2.2.2.1
theorem dX12_worked_184 : decode cX12_worked 184 = .ok (.lload_n 3, 1) := bdX12_worked_166.2.2.2.2.2.2.2.2.2.2.2.2.1
theorem dX12_worked_185 : decode cX12_worked 185 = .ok (.lcmp, 1) := bdX12_worked_166.2.2.2.2.2.2.2.2.2.2.2.2.2.1
theorem dX12_worked_186 : decode cX12_worked 186 = .ok (.ifCond .gt 7, 3) := bdX12_worked_166.2.2.2.2.2.2.2.2.2.2.2.2.2.2.1
theorem dX12_worked_189 : decode cX12_worked 189 = .ok (.lconst 1, 1) := bdX12_worked_166.2.2.2.2.2.2.2.2.2.2.2.2.2.2.2
theorem bdX12_worked_190 : (decode cX12_worked 190 = .ok (.goto 4, 3)) ∧ (decode cX12_worked 193 = .ok (.lconst 0, 1)) ∧ (decode cX12_worked 194 = .ok (.lreturn, 1)) ∧ (decode cX12_worked 195 = .ok (.lload_n 1, 1)) ∧ (decode cX12_worked 196 = .ok (.lload_n 3, 1)) ∧ (decode cX12_worked 197 = .ok (.lcmp, 1)) ∧ (decode cX12_worked 198 = .ok (.ifCond .lt 7, 3)) ∧ (decode cX12_worked 201 = .ok (.lconst 1, 1)) ∧ (decode cX12_worked 202 = .ok (.goto 4, 3)) ∧ (decode cX12_worked 205 = .ok (.lconst 0, 1)) ∧ (decode cX12_worked 206 = .ok (.lreturn, 1)) ∧ (decode cX12_worked 207 = .ok (.lload_n 1, 1)) ∧ (decode cX12_worked 208 = .ok (.lload_n 3, 1)) ∧ (decode cX12_worked 209 = .ok (.lmul, 1)) ∧ (decode cX12_worked 210 = .ok (.lreturn, 1)) ∧ (decode cX12_worked 211 = .ok (.lload_n 1, 1)) := by decide +kernel
theorem dX12_worked_190 : decode cX12_worked 190 = .ok (.goto 4, 3) := bdX12_worked_190.1
theorem dX12_worked_193 : decode cX12_worked 193 = .ok (.lconst 0, 1) := bdX12_worked_190.2.1
theorem dX12_worked_194 : decode cX12_worked 194 = .ok (.lreturn, 1) := bdX12_worked_190.2.2.1
theorem dX12_worked_195 : decode cX12_worked 195 = .ok (.lload_n 1, 1) := bdX12_worked_190.2.2.2.1
theorem dX12_worked_196 : decode cX12_worked 196 = .ok (.lload_n 3, 1) := bdX12_worked_190.2.2.2.2.1
theorem dX12_worked_197 : decode cX12_worked 197 = .ok (.lcmp, 1) := bdX12_worked_190.2.2.2.2.2.1
theorem dX12_worked_198 : decode cX12_worked 198 = .ok (.ifCond .lt 7, 3) := bdX12_worked_190.2.2.2.2.2.2.1
theorem dX12_worked_201 : decode cX12_worked 201 = .ok (.lconst 1, 1) := bdX12_worked_190.2.2.2.2.2.2.2.1
theorem dX12_worked_202 : decode cX12_worked 202 = .ok (.goto 4, 3) := bdX12_worked_190.2.2.2.2.2.2.2.2.1
theorem dX12_worked_205 : decode cX12_worked 205 = .ok (.lconst 0, 1) := bdX12_worked_190.2.2.2.2.2.2.2.2.2.1
theorem dX12_worked_206 : decode cX12_worked 206 = .ok (.lreturn, 1) := bdX12_worked_190.2.2.2.2.2.2.2.2.2.2.1
theorem dX12_worked_207 : decode cX12_worked 207 = .ok (.lload_n 1, 1) := bdX12_worked_190.2.2.2.2.2.2.2.2.2.2.2.1
theorem dX12_worked_208 : decode cX12_worked 208 = .ok (.lload_n 3, 1) := bdX12_worked_190.2.2.2.2.2.2.2.2.2.2.2.2.1
theorem dX12_worked_209 : decode cX12_worked 209 = .ok (.lmul, 1) := bdX12_worked_190.2.2.2.2.2.2.2.2.2.2.2.2.2.1
theorem dX12_worked_210 : decode cX12_worked 210 = .ok (.lreturn, 1) := bdX12_worked_190.2.2.2.2.2.2.2.2.2.2.2.2.2.2.1
theorem dX12_worked_211 : decode cX12_worked 211 = .ok (.lload_n 1, 1) := bdX12_worked_190.2.2.2.2.2.2.2.2.2.2.2.2.2.2.2
theorem bdX12_worked_212 : (decode cX12_worked 212 = .ok (.lload_n 3, 1)) ∧ (decode cX12_worked 213 = .ok (.ladd, 1)) ∧ (decode cX12_worked 214 = .ok (.lconst 0, 1)) ∧ (decode cX12_worked 215 = .ok (.lcmp, 1)) ∧ (decode cX12_worked 216 = .ok (.ifCond .le 7, 3)) ∧ (decode cX12_worked 219 = .ok (.lconst 1, 1)) ∧ (decode cX12_worked 220 = .ok (.goto 4, 3)) ∧ (decode cX12_worked 223 = .ok (.lconst 0, 1)) ∧ (decode cX12_worked 224 = .ok (.lreturn, 1)) := by decide +kernel
theorem dX12_worked_212 : decode cX12_worked 212 = .ok (.lload_n 3, 1) := bdX12_worked_212.1
theorem dX12_worked_213 : decode cX12_worked 213 = .ok (.ladd, 1) := bdX12_worked_212.2.1
theorem dX12_worked_214 : decode cX12_worked 214 = .ok (.lconst 0, 1) := bdX12_worked_212.2.2.1
theorem dX12_worked_215 : decode cX12_worked 215 = .ok (.lcmp, 1) := bdX12_worked_212.2.2.2.1
theorem dX12_worked_216 : decode cX12_worked 216 = .ok (.ifCond .le 7, 3) := bdX12_worked_212.2.2.2.2.1
theorem dX12_worked_219 : decode cX12_worked 219 = .ok (.lconst 1, 1) := bdX12_worked_212.2.2.2.2.2.1
theorem dX12_worked_220 : decode cX12_worked 220 = .ok (.goto 4, 3) := bdX12_worked_212.2.2.2.2.2.2.1
theorem dX12_worked_223 : decode cX12_worked 223 = .ok (.lconst 0, 1) := bdX12_worked_212.2.2.2.2.2.2.2.1
theorem dX12_worked_224 : decode cX12_worked 224 = .ok (.lreturn, 1) := bdX12_worked_212.2.2.2.2.2.2.2.2
def fX6_moveLinks_144 (a0 : Nat) (a1 : Nat) (a2 : Nat) (rec2 : Int32 → xMem → Option xMem) (l3 : Int32) (m : xMem) : Option xMem := xLet (l3 + (1 : Int32)) fun x1 => rec2 x1 m
set_option maxRecDepth 4000 in
theorem fX6_moveLinks_144_ok {a0 : Nat} {a1 : Nat} {a2 : Nat} {rec2 : Int32 → xMem → Option xMem} {d : Nat} (hd : 4 ≤ d) (ha0 : isMover a0) (ha1 : isStation a1) (ha2 : isText a2) (hrec2 : ∀ (l3 : Int32) (o4 : Option Value) (o5 : Option Value) (q4 : xNoD o4 = true) (q5 : xNoD o5 = true) (m : xMem) (r : xMem), rec2 l3 m = some r → xFx hh_142 cX6_moveLinks d 2 [some (.ref a0), some (.ref a1), some (.ref a2), some (.int l3), o4, o5] [] (xLay m) 0 0 none (xLay r)) {l3 : Int32} {o4 : Option Value} {o5 : Option Value} {m : xMem} {r : xMem} (q4 : xNoD o4 = true) (q5 : xNoD o5 = true) (h : fX6_moveLinks_144 a0 a1 a2 rec2 l3 m = some r) : xFx hh_142 cX6_moveLinks d 144 [some (.ref a0), some (.ref a1), some (.ref a2), some (.int l3), o4, o5] [] (xLay m) 0 0 none (xLay r) := by
  unfold fX6_moveLinks_144 at h
  obtain ⟨x1, hx1, h⟩ := xLet_el h
  refine fx_iinc (ls2 := [some (.ref a0), some (.ref a1), some (.ref a2), some (.int x1), o4, o5]) dX6_moveLinks_144 rfl rfl rfl hx1 rfl ?_
  refine fx_goto (t := 2) dX6_moveLinks_147 rfl rfl ?_
  exact hrec2 x1 (o4) (o5) q4 q5 m r h
def fX6_moveLinks_136 (a0 : Nat) (a1 : Nat) (a2 : Nat) (rec2 : Int32 → xMem → Option xMem) (l3 : Int32) (l5 : Int32) (m : xMem) : Option xMem := (fX6_takeUpToTwo a0 a1 l3 l5 m).bind fun p1 => fX6_moveLinks_144 a0 a1 a2 rec2 l3 p1
set_option maxRecDepth 4000 in
theorem fX6_moveLinks_136_ok {a0 : Nat} {a1 : Nat} {a2 : Nat} {rec2 : Int32 → xMem → Option xMem} {d : Nat} (hd : 4 ≤ d) (ha0 : isMover a0) (ha1 : isStation a1) (ha2 : isText a2) (hrec2 : ∀ (l3 : Int32) (o4 : Option Value) (o5 : Option Value) (q4 : xNoD o4 = true) (q5 : xNoD o5 = true) (m : xMem) (r : xMem), rec2 l3 m = some r → xFx hh_142 cX6_moveLinks d 2 [some (.ref a0), some (.ref a1), some (.ref a2), some (.int l3), o4, o5] [] (xLay m) 0 0 none (xLay r)) {l3 : Int32} {l5 : Int32} {o4 : Option Value} {m : xMem} {r : xMem} (q4 : xNoD o4 = true) (h : fX6_moveLinks_136 a0 a1 a2 rec2 l3 l5 m = some r) : xFx hh_142 cX6_moveLinks d 136 [some (.ref a0), some (.ref a1), some (.ref a2), some (.int l3), o4, some (.int l5)] [] (xLay m) 0 0 none (xLay r) := by
  unfold fX6_moveLinks_136 at h
  refine fx_aload_n dX6_moveLinks_136 rfl rfl ?_
  refine fx_aload_n dX6_moveLinks_137 rfl rfl ?_
  refine fx_iload_n dX6_moveLinks_138 rfl rfl ?_
  refine fx_iload dX6_moveLinks_139 rfl rfl ?_
  obtain ⟨p1, ep1, h⟩ := xBind_el h
  refine gx_callv (as := [.ref a1, .int l3, .int l5]) (r := []) rfl dX6_moveLinks_141 ca_6_182 rfl me_158 rfl rfl rfl rfl (ha0.1) rfl (fX6_takeUpToTwo_ok (d := d) (by omega) ha0 ha1 ep1) rfl rfl ?_
  exact fX6_moveLinks_144_ok (o4 := o4) (o5 := some (.int l5)) hd ha0 ha1 ha2 hrec2 q4 rfl h
def fX6_moveLinks_150 (a0 : Nat) (a1 : Nat) (a2 : Nat) (m : xMem) : Option xMem := some m
set_option maxRecDepth 4000 in
theorem fX6_moveLinks_150_ok {a0 : Nat} {a1 : Nat} {a2 : Nat} {d : Nat} (hd : 4 ≤ d) (ha0 : isMover a0) (ha1 : isStation a1) (ha2 : isText a2) {o3 : Option Value} {o4 : Option Value} {o5 : Option Value} {m : xMem} {r : xMem} (q3 : xNoD o3 = true) (q4 : xNoD o4 = true) (q5 : xNoD o5 = true) (h : fX6_moveLinks_150 a0 a1 a2 m = some r) : xFx hh_142 cX6_moveLinks d 150 [some (.ref a0), some (.ref a1), some (.ref a2), o3, o4, o5] [] (xLay m) 0 0 none (xLay r) := by
  unfold fX6_moveLinks_150 at h
  cases h
  exact fx_return dX6_moveLinks_150 rfl rfl
def fX6_moveLinks_2 (a0 : Nat) (a1 : Nat) (a2 : Nat) : Nat → Int32 → xMem → Option xMem
  | 0, _, _ => none
  | fuel + 1, l3, m => xLet (m.1 a1 8) fun x1 => if x1 ≤ l3 then fX6_moveLinks_150 a0 a1 a2 m else if (10 : Int32) ≤ l3 then fX6_moveLinks_150 a0 a1 a2 m else bif xIn l3 10 then xLet (a1 + 33 + 2 * l3.toNatClampNeg) fun r5 => xLet (m.1 r5 1) fun x6 => if ¬ x6 = (2 : Int32) then (fX6_walkOf a0 a1 a2 r5 m).bind fun p8 => xLet (p8.2.1 r5 1) fun x9 => if ¬ x9 = (0 : Int32) then xLet (p8.2.1 a1 6) fun x11 => xLet (xRem x11 (2 : Int32)) fun x12 => if ¬ x12 = (0 : Int32) then fX6_moveLinks_136 a0 a1 a2 (fX6_moveLinks_2 a0 a1 a2 fuel) l3 p8.1 p8.2 else (fX6_moveFixed a0 a1 r5 p8.2).bind fun p14 => fX6_moveLinks_136 a0 a1 a2 (fX6_moveLinks_2 a0 a1 a2 fuel) l3 p8.1 p14 else (fX6_moveStair a0 a1 r5 p8.2).bind fun p15 => fX6_moveLinks_136 a0 a1 a2 (fX6_moveLinks_2 a0 a1 a2 fuel) l3 p8.1 p15 else xLet (m.1 r5 5) fun x16 => if x16 ≤ (0 : Int32) then fX6_moveLinks_144 a0 a1 a2 (fX6_moveLinks_2 a0 a1 a2 fuel) l3 m else xLet (m.1 a1 6) fun x18 => xLet (m.1 r5 5) fun x19 => bif !decide (x19 = 0) then xLet (xRem x18 x19) fun x20 => if ¬ x20 = (0 : Int32) then fX6_moveLinks_144 a0 a1 a2 (fX6_moveLinks_2 a0 a1 a2 fuel) l3 m else xLet (m.1 r5 2) fun x23 => xLet (m.1 r5 3) fun x24 => (fX6_lift a0 a1 l3 x23 x24 m).bind fun p25 => xLet (p25.1 r5 3) fun x26 => xLet (p25.1 r5 2) fun x27 => (fX6_lift a0 a1 l3 x26 x27 p25).bind fun p28 => fX6_moveLinks_144 a0 a1 a2 (fX6_moveLinks_2 a0 a1 a2 fuel) l3 p28 else none else none
set_option maxRecDepth 4000 in
theorem fX6_moveLinks_2_ok {a0 : Nat} {a1 : Nat} {a2 : Nat} {d : Nat} (hd : 4 ≤ d) (ha0 : isMover a0) (ha1 : isStation a1) (ha2 : isText a2) : ∀ (fuel : Nat) (l3 : Int32) (o4 : Option Value) (o5 : Option Value) (q4 : xNoD o4 = true) (q5 : xNoD o5 = true) (m : xMem) (r : xMem), fX6_moveLinks_2 a0 a1 a2 fuel l3 m = some r → xFx hh_142 cX6_moveLinks d 2 [some (.ref a0), some (.ref a1), some (.ref a2), some (.int l3), o4, o5] [] (xLay m) 0 0 none (xLay r) := by
  intro fuel
  induction fuel with
  | zero => intro l3 o4 o5 q4 q5 m r  h; cases h
  | succ fuel ih =>
    intro l3 o4 o5 q4 q5 m r  h
    unfold fX6_moveLinks_2 at h
    refine fx_iload_n dX6_moveLinks_2 rfl rfl ?_
    refine fx_aload_n dX6_moveLinks_3 rfl rfl ?_
    obtain ⟨x1, hx1, h⟩ := xLet_el h
    refine gx_get dX6_moveLinks_4 rfl fd_6_141 ha1.1 rfl rfl hx1 ?_
    refine fx_icmp_ge (t := 150) dX6_moveLinks_7 rfl rfl (fun hc2 => ?_) (fun hc2 => ?_)
    · rw [if_pos hc2] at h
      exact fX6_moveLinks_150_ok (o3 := some (.int l3)) (o4 := o4) (o5 := o5) hd ha0 ha1 ha2 rfl q4 q5 h
    · rw [if_neg hc2] at h
      refine fx_iload_n dX6_moveLinks_10 rfl rfl ?_
      refine fx_aload_n dX6_moveLinks_11 rfl rfl ?_
      refine gx_getr dX6_moveLinks_12 rfl fd_6_144 ha1.1 rfl rfl ?_
      refine gx_alen (t := 5) (y := 10) dX6_moveLinks_15 rfl ha1.2.2.1 rfl (by decide) ?_
      refine fx_icmp_ge (t := 150) dX6_moveLinks_16 rfl rfl (fun hc3 => ?_) (fun hc3 => ?_)
      · rw [if_pos hc3] at h
        exact fX6_moveLinks_150_ok (o3 := some (.int l3)) (o4 := o4) (o5 := o5) hd ha0 ha1 ha2 rfl q4 q5 h
      · rw [if_neg hc3] at h
        refine fx_aload_n dX6_moveLinks_19 rfl rfl ?_
        refine gx_getr dX6_moveLinks_20 rfl fd_6_144 ha1.1 rfl rfl ?_
        refine fx_iload_n dX6_moveLinks_23 rfl rfl ?_
        obtain ⟨hj4, h⟩ := xChk_el h
        obtain ⟨r5, hr5, h⟩ := xLet_el h
        refine gx_aaload (t := 5) dX6_moveLinks_24 rfl ha1.2.2.1 rfl hj4 ((xRef_at (sl_9_1 a1) hj4).trans (congrArg some hr5)) ?_
        have hpr5 : isLink r5 := by rw [← hr5]; exact ha1.2.2.2.2.2.2.2.2.1 _ (xIn_lt hj4)
        refine fx_astore (ls2 := [some (.ref a0), some (.ref a1), some (.ref a2), some (.int l3), some (.ref r5), o5]) dX6_moveLinks_25 rfl rfl rfl ?_
        refine fx_aload dX6_moveLinks_27 rfl rfl ?_
        obtain ⟨x6, hx6, h⟩ := xLet_el h
        refine gx_get dX6_moveLinks_29 rfl fd_6_157 hpr5.1 rfl rfl hx6 ?_
        refine fx_iconst (x := 2) dX6_moveLinks_32 rfl (by decide) ?_
        refine fx_icmp_ne (t := 92) dX6_moveLinks_33 rfl rfl (fun hc7 => ?_) (fun hc7 => ?_)
        · rw [if_pos hc7] at h
          refine fx_aload_n dX6_moveLinks_92 rfl rfl ?_
          refine fx_aload_n dX6_moveLinks_93 rfl rfl ?_
          refine fx_aload_n dX6_moveLinks_94 rfl rfl ?_
          refine fx_aload dX6_moveLinks_95 rfl rfl ?_
          obtain ⟨p8, ep8, h⟩ := xBind_el h
          refine gx_callv (as := [.ref a1, .ref a2, .ref r5]) (r := []) rfl dX6_moveLinks_97 ca_6_171 rfl me_148 rfl rfl rfl rfl (ha0.1) rfl (fX6_walkOf_ok (d := d) (by omega) ha0 ha1 ha2 hpr5 ep8) rfl rfl ?_
          refine fx_istore (ls2 := [some (.ref a0), some (.ref a1), some (.ref a2), some (.int l3), some (.ref r5), some (.int p8.1)]) dX6_moveLinks_100 rfl rfl rfl ?_
          refine fx_aload dX6_moveLinks_102 rfl rfl ?_
          obtain ⟨x9, hx9, h⟩ := xLet_el h
          refine gx_get dX6_moveLinks_104 rfl fd_6_157 hpr5.1 rfl rfl hx9 ?_
          refine fx_if_ne (t := 120) dX6_moveLinks_107 rfl rfl (fun hc10 => ?_) (fun hc10 => ?_)
          · rw [if_pos hc10] at h
            refine fx_aload_n dX6_moveLinks_120 rfl rfl ?_
            obtain ⟨x11, hx11, h⟩ := xLet_el h
            refine gx_get dX6_moveLinks_121 rfl fd_6_47 ha1.1 rfl rfl hx11 ?_
            refine fx_iconst (x := 2) dX6_moveLinks_124 rfl (by decide) ?_
            obtain ⟨x12, hx12, h⟩ := xLet_el h
            refine fx_irem dX6_moveLinks_125 rfl (by decide) hx12 ?_
            refine fx_if_ne (t := 136) dX6_moveLinks_126 rfl rfl (fun hc13 => ?_) (fun hc13 => ?_)
            · rw [if_pos hc13] at h
              exact fX6_moveLinks_136_ok (o4 := some (.ref r5)) hd ha0 ha1 ha2 ih rfl h
            · rw [if_neg hc13] at h
              refine fx_aload_n dX6_moveLinks_129 rfl rfl ?_
              refine fx_aload_n dX6_moveLinks_130 rfl rfl ?_
              refine fx_aload dX6_moveLinks_131 rfl rfl ?_
              obtain ⟨p14, ep14, h⟩ := xBind_el h
              refine gx_callv (as := [.ref a1, .ref r5]) (r := []) rfl dX6_moveLinks_133 ca_6_179 rfl me_157 rfl rfl rfl rfl (ha0.1) rfl (fX6_moveFixed_ok (d := d) (by omega) ha0 ha1 hpr5 ep14) rfl rfl ?_
              exact fX6_moveLinks_136_ok (o4 := some (.ref r5)) hd ha0 ha1 ha2 ih rfl h
          · rw [if_neg hc10] at h
            refine fx_aload_n dX6_moveLinks_110 rfl rfl ?_
            refine fx_aload_n dX6_moveLinks_111 rfl rfl ?_
            refine fx_aload dX6_moveLinks_112 rfl rfl ?_
            obtain ⟨p15, ep15, h⟩ := xBind_el h
            refine gx_callv (as := [.ref a1, .ref r5]) (r := []) rfl dX6_moveLinks_114 ca_6_175 rfl me_150 rfl rfl rfl rfl (ha0.1) rfl (fX6_moveStair_ok (d := d) (by omega) ha0 ha1 hpr5 ep15) rfl rfl ?_
            refine fx_goto (t := 136) dX6_moveLinks_117 rfl rfl ?_
            exact fX6_moveLinks_136_ok (o4 := some (.ref r5)) hd ha0 ha1 ha2 ih rfl h
        · rw [if_neg hc7] at h
          refine fx_aload dX6_moveLinks_36 rfl rfl ?_
          obtain ⟨x16, hx16, h⟩ := xLet_el h
          refine gx_get dX6_moveLinks_38 rfl fd_6_158 hpr5.1 rfl rfl hx16 ?_
          refine fx_if_le (t := 144) dX6_moveLinks_41 rfl rfl (fun hc17 => ?_) (fun hc17 => ?_)
          · rw [if_pos hc17] at h
            exact fX6_moveLinks_144_ok (o4 := some (.ref r5)) (o5 := o5) hd ha0 ha1 ha2 ih rfl q5 h
          · rw [if_neg hc17] at h
            refine fx_aload_n dX6_moveLinks_44 rfl rfl ?_
            obtain ⟨x18, hx18, h⟩ := xLet_el h
            refine gx_get dX6_moveLinks_45 rfl fd_6_47 ha1.1 rfl rfl hx18 ?_
            refine fx_aload dX6_moveLinks_48 rfl rfl ?_
            obtain ⟨x19, hx19, h⟩ := xLet_el h
            refine gx_get dX6_moveLinks_50 rfl fd_6_158 hpr5.1 rfl rfl hx19 ?_
            obtain ⟨hz21, h⟩ := xChk_el h
            obtain ⟨x20, hx20, h⟩ := xLet_el h
            refine fx_irem dX6_moveLinks_53 rfl (by simpa using hz21) hx20 ?_
            refine fx_if_ne (t := 144) dX6_moveLinks_54 rfl rfl (fun hc22 => ?_) (fun hc22 => ?_)
            · rw [if_pos hc22] at h
              exact fX6_moveLinks_144_ok (o4 := some (.ref r5)) (o5 := o5) hd ha0 ha1 ha2 ih rfl q5 h
            · rw [if_neg hc22] at h
              refine fx_aload_n dX6_moveLinks_57 rfl rfl ?_
              refine fx_aload_n dX6_moveLinks_58 rfl rfl ?_
              refine fx_iload_n dX6_moveLinks_59 rfl rfl ?_
              refine fx_aload dX6_moveLinks_60 rfl rfl ?_
              obtain ⟨x23, hx23, h⟩ := xLet_el h
              refine gx_get dX6_moveLinks_62 rfl fd_6_161 hpr5.1 rfl rfl hx23 ?_
              refine fx_aload dX6_moveLinks_65 rfl rfl ?_
              obtain ⟨x24, hx24, h⟩ := xLet_el h
              refine gx_get dX6_moveLinks_67 rfl fd_6_164 hpr5.1 rfl rfl hx24 ?_
              obtain ⟨p25, ep25, h⟩ := xBind_el h
              refine gx_callv (as := [.ref a1, .int l3, .int x23, .int x24]) (r := []) rfl dX6_moveLinks_70 ca_6_167 rfl me_143 rfl rfl rfl rfl (ha0.1) rfl (fX6_lift_ok (d := d) (by omega) ha0 ha1 ep25) rfl rfl ?_
              refine fx_aload_n dX6_moveLinks_73 rfl rfl ?_
              refine fx_aload_n dX6_moveLinks_74 rfl rfl ?_
              refine fx_iload_n dX6_moveLinks_75 rfl rfl ?_
              refine fx_aload dX6_moveLinks_76 rfl rfl ?_
              obtain ⟨x26, hx26, h⟩ := xLet_el h
              refine gx_get dX6_moveLinks_78 rfl fd_6_164 hpr5.1 rfl rfl hx26 ?_
              refine fx_aload dX6_moveLinks_81 rfl rfl ?_
              obtain ⟨x27, hx27, h⟩ := xLet_el h
              refine gx_get dX6_moveLinks_83 rfl fd_6_161 hpr5.1 rfl rfl hx27 ?_
              obtain ⟨p28, ep28, h⟩ := xBind_el h
              refine gx_callv (as := [.ref a1, .int l3, .int x26, .int x27]) (r := []) rfl dX6_moveLinks_86 ca_6_167 rfl me_143 rfl rfl rfl rfl (ha0.1) rfl (fX6_lift_ok (d := d) (by omega) ha0 ha1 ep28) rfl rfl ?_
              refine fx_goto (t := 144) dX6_moveLinks_89 rfl rfl ?_
              exact fX6_moveLinks_144_ok (o4 := some (.ref r5)) (o5 := o5) hd ha0 ha1 ha2 ih rfl q5 h
def fX6_moveLinks_0 (a0 : Nat) (a1 : Nat) (a2 : Nat) (m : xMem) : Option xMem := fX6_moveLinks_2 a0 a1 a2 xFuel (0 : Int32) m
set_option maxRecDepth 4000 in
theorem fX6_moveLinks_0_ok {a0 : Nat} {a1 : Nat} {a2 : Nat} {d : Nat} (hd : 4 ≤ d) (ha0 : isMover a0) (ha1 : isStation a1) (ha2 : isText a2) {o3 : Option Value} {o4 : Option Value} {o5 : Option Value} {m : xMem} {r : xMem} (q3 : xNoD o3 = true) (q4 : xNoD o4 = true) (q5 : xNoD o5 = true) (h : fX6_moveLinks_0 a0 a1 a2 m = some r) : xFx hh_142 cX6_moveLinks d 0 [some (.ref a0), some (.ref a1), some (.ref a2), o3, o4, o5] [] (xLay m) 0 0 none (xLay r) := by
  unfold fX6_moveLinks_0 at h
  refine fx_iconst (x := 0) dX6_moveLinks_0 rfl (by decide) ?_
  refine fx_istore_n (ls2 := [some (.ref a0), some (.ref a1), some (.ref a2), some (.int (0 : Int32)), o4, o5]) dX6_moveLinks_1 rfl rfl rfl ?_
  exact fX6_moveLinks_2_ok hd ha0 ha1 ha2 xFuel (0 : Int32) (o4) (o5) q4 q5 m r h
def fX6_moveLinks (a0 : Nat) (a1 : Nat) (a2 : Nat) (m : xMem) : Option xMem := fX6_moveLinks_0 a0 a1 a2  m
theorem fX6_moveLinks_ok {a0 : Nat} {a1 : Nat} {a2 : Nat} {m : xMem} {r : xMem} {d : Nat} (hd : 5 ≤ d) (ha0 : isMover a0) (ha1 : isStation a1) (ha2 : isText a2) (h : fX6_moveLinks a0 a1 a2 m = some r) : xEx d 142 [.ref a0, .ref a1, .ref a2] (xLay m) none (xLay r) := by
  obtain ⟨d, rfl⟩ : ∃ q, d = q + 1 := ⟨d - 1, by omega⟩
  exact xEx_of me_142 rfl (fX6_moveLinks_0_ok (d := d) (o3 := none) (o4 := none) (o5 := none) (by omega) ha0 ha1 ha2 rfl rfl rfl h)
def fX0_isDue_34 (a0 : Nat) (a1 : Int32) (s0 : Int32) (m : xMem) : Option (Int32 × xMem) := bif (decide (s0 = 0) || decide (s0 = 1)) then some (s0, m) else none
set_option maxRecDepth 4000 in
theorem fX0_isDue_34_ok {a0 : Nat} {a1 : Int32} {d : Nat} (hd : 0 ≤ d) (ha0 : isBurst a0) {s0 : Int32} {m : xMem} {r : (Int32 × xMem)} (h : fX0_isDue_34 a0 a1 s0 m = some r) : xFx hh_122 cX0_isDue d 34 [some (.ref a0), some (.int a1)] [.int s0] (xLay m) 0 0 (some (.int r.1)) (xLay r.2) := by
  unfold fX0_isDue_34 at h
  obtain ⟨hb1, h⟩ := xChk_el h
  cases h
  exact fx_ireturn dX0_isDue_34 rfl (by show ((decide _ || decide _) && _) = true; rw [hb1]; rfl)
def fX0_isDue_48 (a0 : Nat) (a1 : Int32) (s0 : Int32) (m : xMem) : Option (Int32 × xMem) := bif (decide (s0 = 0) || decide (s0 = 1)) then some (s0, m) else none
set_option maxRecDepth 4000 in
theorem fX0_isDue_48_ok {a0 : Nat} {a1 : Int32} {d : Nat} (hd : 0 ≤ d) (ha0 : isBurst a0) {s0 : Int32} {m : xMem} {r : (Int32 × xMem)} (h : fX0_isDue_48 a0 a1 s0 m = some r) : xFx hh_122 cX0_isDue d 48 [some (.ref a0), some (.int a1)] [.int s0] (xLay m) 0 0 (some (.int r.1)) (xLay r.2) := by
  unfold fX0_isDue_48 at h
  obtain ⟨hb1, h⟩ := xChk_el h
  cases h
  exact fx_ireturn dX0_isDue_48 rfl (by show ((decide _ || decide _) && _) = true; rw [hb1]; rfl)
def fX0_isDue_35 (a0 : Nat) (a1 : Int32) (m : xMem) : Option (Int32 × xMem) := xLet (m.1 a0 0) fun x1 => if ¬ a1 = x1 then fX0_isDue_48 a0 a1 (0 : Int32) m else fX0_isDue_48 a0 a1 (1 : Int32) m
set_option maxRecDepth 4000 in
theorem fX0_isDue_35_ok {a0 : Nat} {a1 : Int32} {d : Nat} (hd : 0 ≤ d) (ha0 : isBurst a0) {m : xMem} {r : (Int32 × xMem)} (h : fX0_isDue_35 a0 a1 m = some r) : xFx hh_122 cX0_isDue d 35 [some (.ref a0), some (.int a1)] [] (xLay m) 0 0 (some (.int r.1)) (xLay r.2) := by
  unfold fX0_isDue_35 at h
  refine fx_iload_n dX0_isDue_35 rfl rfl ?_
  refine fx_aload_n dX0_isDue_36 rfl rfl ?_
  obtain ⟨x1, hx1, h⟩ := xLet_el h
  refine gx_get dX0_isDue_37 rfl fd_0_7 ha0 rfl rfl hx1 ?_
  refine fx_icmp_ne (t := 47) dX0_isDue_40 rfl rfl (fun hc2 => ?_) (fun hc2 => ?_)
  · rw [if_pos hc2] at h
    refine fx_iconst (x := 0) dX0_isDue_47 rfl (by decide) ?_
    exact fX0_isDue_48_ok hd ha0 h
  · rw [if_neg hc2] at h
    refine fx_iconst (x := 1) dX0_isDue_43 rfl (by decide) ?_
    refine fx_goto (t := 48) dX0_isDue_44 rfl rfl ?_
    exact fX0_isDue_48_ok hd ha0 h
def fX0_isDue_0 (a0 : Nat) (a1 : Int32) (m : xMem) : Option (Int32 × xMem) := xLet (m.1 a0 1) fun x1 => if x1 ≤ (0 : Int32) then fX0_isDue_35 a0 a1 m else xLet (m.1 a0 0) fun x3 => if a1 ≤ x3 then fX0_isDue_35 a0 a1 m else xLet (m.1 a0 0) fun x5 => xLet (a1 - x5) fun x6 => xLet (m.1 a0 1) fun x7 => bif !decide (x7 = 0) then xLet (xRem x6 x7) fun x8 => if ¬ x8 = (0 : Int32) then fX0_isDue_34 a0 a1 (0 : Int32) m else fX0_isDue_34 a0 a1 (1 : Int32) m else none
set_option maxRecDepth 4000 in
theorem fX0_isDue_0_ok {a0 : Nat} {a1 : Int32} {d : Nat} (hd : 0 ≤ d) (ha0 : isBurst a0) {m : xMem} {r : (Int32 × xMem)} (h : fX0_isDue_0 a0 a1 m = some r) : xFx hh_122 cX0_isDue d 0 [some (.ref a0), some (.int a1)] [] (xLay m) 0 0 (some (.int r.1)) (xLay r.2) := by
  unfold fX0_isDue_0 at h
  refine fx_aload_n dX0_isDue_0 rfl rfl ?_
  obtain ⟨x1, hx1, h⟩ := xLet_el h
  refine gx_get dX0_isDue_1 rfl fd_0_13 ha0 rfl rfl hx1 ?_
  refine fx_if_le (t := 35) dX0_isDue_4 rfl rfl (fun hc2 => ?_) (fun hc2 => ?_)
  · rw [if_pos hc2] at h
    exact fX0_isDue_35_ok hd ha0 h
  · rw [if_neg hc2] at h
    refine fx_iload_n dX0_isDue_7 rfl rfl ?_
    refine fx_aload_n dX0_isDue_8 rfl rfl ?_
    obtain ⟨x3, hx3, h⟩ := xLet_el h
    refine gx_get dX0_isDue_9 rfl fd_0_7 ha0 rfl rfl hx3 ?_
    refine fx_icmp_le (t := 35) dX0_isDue_12 rfl rfl (fun hc4 => ?_) (fun hc4 => ?_)
    · rw [if_pos hc4] at h
      exact fX0_isDue_35_ok hd ha0 h
    · rw [if_neg hc4] at h
      refine fx_iload_n dX0_isDue_15 rfl rfl ?_
      refine fx_aload_n dX0_isDue_16 rfl rfl ?_
      obtain ⟨x5, hx5, h⟩ := xLet_el h
      refine gx_get dX0_isDue_17 rfl fd_0_7 ha0 rfl rfl hx5 ?_
      obtain ⟨x6, hx6, h⟩ := xLet_el h
      refine fx_isub dX0_isDue_20 rfl hx6 ?_
      refine fx_aload_n dX0_isDue_21 rfl rfl ?_
      obtain ⟨x7, hx7, h⟩ := xLet_el h
      refine gx_get dX0_isDue_22 rfl fd_0_13 ha0 rfl rfl hx7 ?_
      obtain ⟨hz9, h⟩ := xChk_el h
      obtain ⟨x8, hx8, h⟩ := xLet_el h
      refine fx_irem dX0_isDue_25 rfl (by simpa using hz9) hx8 ?_
      refine fx_if_ne (t := 33) dX0_isDue_26 rfl rfl (fun hc10 => ?_) (fun hc10 => ?_)
      · rw [if_pos hc10] at h
        refine fx_iconst (x := 0) dX0_isDue_33 rfl (by decide) ?_
        exact fX0_isDue_34_ok hd ha0 h
      · rw [if_neg hc10] at h
        refine fx_iconst (x := 1) dX0_isDue_29 rfl (by decide) ?_
        refine fx_goto (t := 34) dX0_isDue_30 rfl rfl ?_
        exact fX0_isDue_34_ok hd ha0 h
def fX0_isDue (a0 : Nat) (a1 : Int32) (m : xMem) : Option (Int32 × xMem) := fX0_isDue_0 a0 a1  m
theorem fX0_isDue_ok {a0 : Nat} {a1 : Int32} {m : xMem} {r : (Int32 × xMem)} {d : Nat} (hd : 1 ≤ d) (ha0 : isBurst a0) (h : fX0_isDue a0 a1 m = some r) : xEx d 122 [.ref a0, .int a1] (xLay m) (some (.int r.1)) (xLay r.2) := by
  obtain ⟨d, rfl⟩ : ∃ q, d = q + 1 := ⟨d - 1, by omega⟩
  exact xEx_of me_122 rfl (fX0_isDue_0_ok (d := d) (by omega) ha0 h)
def fX6_comeInBursts_149 (a0 : Nat) (a1 : Nat) (a2 : Nat) (rec2 : Int32 → xMem → Option xMem) (l3 : Int32) (m : xMem) : Option xMem := xLet (l3 + (1 : Int32)) fun x1 => rec2 x1 m
set_option maxRecDepth 4000 in
theorem fX6_comeInBursts_149_ok {a0 : Nat} {a1 : Nat} {a2 : Nat} {rec2 : Int32 → xMem → Option xMem} {d : Nat} (hd : 4 ≤ d) (ha0 : isMover a0) (ha1 : isStation a1) (ha2 : isText a2) (hrec2 : ∀ (l3 : Int32) (o4 : Option Value) (q4 : xNoD o4 = true) (m : xMem) (r : xMem), rec2 l3 m = some r → xFx hh_121 cX6_comeInBursts d 2 [some (.ref a0), some (.ref a1), some (.ref a2), some (.int l3), o4] [] (xLay m) 0 0 none (xLay r)) {l3 : Int32} {o4 : Option Value} {m : xMem} {r : xMem} (q4 : xNoD o4 = true) (h : fX6_comeInBursts_149 a0 a1 a2 rec2 l3 m = some r) : xFx hh_121 cX6_comeInBursts d 149 [some (.ref a0), some (.ref a1), some (.ref a2), some (.int l3), o4] [] (xLay m) 0 0 none (xLay r) := by
  unfold fX6_comeInBursts_149 at h
  obtain ⟨x1, hx1, h⟩ := xLet_el h
  refine fx_iinc (ls2 := [some (.ref a0), some (.ref a1), some (.ref a2), some (.int x1), o4]) dX6_comeInBursts_149 rfl rfl rfl hx1 rfl ?_
  refine fx_goto (t := 2) dX6_comeInBursts_152 rfl rfl ?_
  exact hrec2 x1 (o4) q4 m r h
def fX6_comeInBursts_155 (a0 : Nat) (a1 : Nat) (a2 : Nat) (m : xMem) : Option xMem := some m
set_option maxRecDepth 4000 in
theorem fX6_comeInBursts_155_ok {a0 : Nat} {a1 : Nat} {a2 : Nat} {d : Nat} (hd : 4 ≤ d) (ha0 : isMover a0) (ha1 : isStation a1) (ha2 : isText a2) {o3 : Option Value} {o4 : Option Value} {m : xMem} {r : xMem} (q3 : xNoD o3 = true) (q4 : xNoD o4 = true) (h : fX6_comeInBursts_155 a0 a1 a2 m = some r) : xFx hh_121 cX6_comeInBursts d 155 [some (.ref a0), some (.ref a1), some (.ref a2), o3, o4] [] (xLay m) 0 0 none (xLay r) := by
  unfold fX6_comeInBursts_155 at h
  cases h
  exact fx_return dX6_comeInBursts_155 rfl rfl
def fX6_comeInBursts_2 (a0 : Nat) (a1 : Nat) (a2 : Nat) : Nat → Int32 → xMem → Option xMem
  | 0, _, _ => none
  | fuel + 1, l3, m => xLet (m.1 a1 9) fun x1 => if x1 ≤ l3 then fX6_comeInBursts_155 a0 a1 a2 m else if (30 : Int32) ≤ l3 then fX6_comeInBursts_155 a0 a1 a2 m else bif xIn l3 30 then xLet (a1 + 53 + 1 * l3.toNatClampNeg) fun r5 => xLet (m.1 a1 6) fun x6 => (fX0_isDue r5 x6 m).bind fun p7 => if p7.1 = (0 : Int32) then fX6_comeInBursts_149 a0 a1 a2 (fX6_comeInBursts_2 a0 a1 a2 fuel) l3 p7.2 else xLet (p7.2.1 r5 2) fun x9 => (fX9_hasHall a1 x9 p7.2).bind fun p10 => if ¬ p10.1 = (0 : Int32) then xLet (p10.2.1 r5 6) fun x12 => if ¬ x12 = (0 : Int32) then xLet (p10.2.1 r5 2) fun x14 => (fX6_isSo a0 a1 a2 (2 : Int32) x14 p10.2).bind fun p15 => if p15.1 = (0 : Int32) then xLet (p15.2.1 r5 2) fun x17 => bif xIn x17 6 then xLet (a1 + 15 + 3 * x17.toNatClampNeg) fun r19 => xLet (p15.2.1 r5 3) fun x20 => xLet (p15.2.1 r5 5) fun x21 => xLet (p15.2.1 r5 4) fun x22 => (fX2_changeOutside r19 x20 x21 x22 p15.2).bind fun p23 => fX6_comeInBursts_149 a0 a1 a2 (fX6_comeInBursts_2 a0 a1 a2 fuel) l3 p23 else none else xLet (p15.2.1 a1 14) fun x24 => xLet (p15.2.1 r5 4) fun x25 => xLet (x24 + x25) fun x26 => xLet (xPut p15.2 a1 14 x26) fun m27 => fX6_comeInBursts_149 a0 a1 a2 (fX6_comeInBursts_2 a0 a1 a2 fuel) l3 m27 else xLet (p10.2.1 r5 2) fun x28 => xLet (p10.2.1 r5 3) fun x29 => xLet (p10.2.1 r5 5) fun x30 => xLet (p10.2.1 r5 4) fun x31 => (fX9_comeTo a1 x28 x29 x30 x31 p10.2).bind fun p32 => fX6_comeInBursts_149 a0 a1 a2 (fX6_comeInBursts_2 a0 a1 a2 fuel) l3 p32 else fX6_comeInBursts_149 a0 a1 a2 (fX6_comeInBursts_2 a0 a1 a2 fuel) l3 p10.2 else none
set_option maxRecDepth 4000 in
theorem fX6_comeInBursts_2_ok {a0 : Nat} {a1 : Nat} {a2 : Nat} {d : Nat} (hd : 4 ≤ d) (ha0 : isMover a0) (ha1 : isStation a1) (ha2 : isText a2) : ∀ (fuel : Nat) (l3 : Int32) (o4 : Option Value) (q4 : xNoD o4 = true) (m : xMem) (r : xMem), fX6_comeInBursts_2 a0 a1 a2 fuel l3 m = some r → xFx hh_121 cX6_comeInBursts d 2 [some (.ref a0), some (.ref a1), some (.ref a2), some (.int l3), o4] [] (xLay m) 0 0 none (xLay r) := by
  intro fuel
  induction fuel with
  | zero => intro l3 o4 q4 m r  h; cases h
  | succ fuel ih =>
    intro l3 o4 q4 m r  h
    unfold fX6_comeInBursts_2 at h
    refine fx_iload_n dX6_comeInBursts_2 rfl rfl ?_
    refine fx_aload_n dX6_comeInBursts_3 rfl rfl ?_
    obtain ⟨x1, hx1, h⟩ := xLet_el h
    refine gx_get dX6_comeInBursts_4 rfl fd_6_53 ha1.1 rfl rfl hx1 ?_
    refine fx_icmp_ge (t := 155) dX6_comeInBursts_7 rfl rfl (fun hc2 => ?_) (fun hc2 => ?_)
    · rw [if_pos hc2] at h
      exact fX6_comeInBursts_155_ok (o3 := some (.int l3)) (o4 := o4) hd ha0 ha1 ha2 rfl q4 h
    · rw [if_neg hc2] at h
      refine fx_iload_n dX6_comeInBursts_10 rfl rfl ?_
      refine fx_aload_n dX6_comeInBursts_11 rfl rfl ?_
      refine gx_getr dX6_comeInBursts_12 rfl fd_6_56 ha1.1 rfl rfl ?_
      refine gx_alen (t := 6) (y := 30) dX6_comeInBursts_15 rfl ha1.2.2.2.1 rfl (by decide) ?_
      refine fx_icmp_ge (t := 155) dX6_comeInBursts_16 rfl rfl (fun hc3 => ?_) (fun hc3 => ?_)
      · rw [if_pos hc3] at h
        exact fX6_comeInBursts_155_ok (o3 := some (.int l3)) (o4 := o4) hd ha0 ha1 ha2 rfl q4 h
      · rw [if_neg hc3] at h
        refine fx_aload_n dX6_comeInBursts_19 rfl rfl ?_
        refine gx_getr dX6_comeInBursts_20 rfl fd_6_56 ha1.1 rfl rfl ?_
        refine fx_iload_n dX6_comeInBursts_23 rfl rfl ?_
        obtain ⟨hj4, h⟩ := xChk_el h
        obtain ⟨r5, hr5, h⟩ := xLet_el h
        refine gx_aaload (t := 6) dX6_comeInBursts_24 rfl ha1.2.2.2.1 rfl hj4 ((xRef_at (sl_9_2 a1) hj4).trans (congrArg some hr5)) ?_
        have hpr5 : isBurst r5 := by rw [← hr5]; exact ha1.2.2.2.2.2.2.2.2.2 _ (xIn_lt hj4)
        refine fx_astore (ls2 := [some (.ref a0), some (.ref a1), some (.ref a2), some (.int l3), some (.ref r5)]) dX6_comeInBursts_25 rfl rfl rfl ?_
        refine fx_aload dX6_comeInBursts_27 rfl rfl ?_
        refine fx_aload_n dX6_comeInBursts_29 rfl rfl ?_
        obtain ⟨x6, hx6, h⟩ := xLet_el h
        refine gx_get dX6_comeInBursts_30 rfl fd_6_47 ha1.1 rfl rfl hx6 ?_
        obtain ⟨p7, ep7, h⟩ := xBind_el h
        refine gx_callv (as := [.int x6]) (r := []) rfl dX6_comeInBursts_33 ca_6_60 rfl me_122 rfl rfl rfl rfl (hpr5) rfl (fX0_isDue_ok (d := d) (by omega) hpr5 ep7) rfl rfl ?_
        refine fx_if_eq (t := 149) dX6_comeInBursts_36 rfl rfl (fun hc8 => ?_) (fun hc8 => ?_)
        · rw [if_pos hc8] at h
          exact fX6_comeInBursts_149_ok (o4 := some (.ref r5)) hd ha0 ha1 ha2 ih rfl h
        · rw [if_neg hc8] at h
          refine fx_aload_n dX6_comeInBursts_39 rfl rfl ?_
          refine fx_aload dX6_comeInBursts_40 rfl rfl ?_
          obtain ⟨x9, hx9, h⟩ := xLet_el h
          refine gx_get dX6_comeInBursts_42 rfl fd_6_66 hpr5 rfl rfl hx9 ?_
          obtain ⟨p10, ep10, h⟩ := xBind_el h
          refine gx_callv (as := [.int x9]) (r := []) rfl dX6_comeInBursts_45 ca_6_69 rfl me_20 rfl rfl rfl rfl (ha1.1) rfl (fX9_hasHall_ok (d := d) (by omega) ha1 ep10) rfl rfl ?_
          refine fx_if_ne (t := 54) dX6_comeInBursts_48 rfl rfl (fun hc11 => ?_) (fun hc11 => ?_)
          · rw [if_pos hc11] at h
            refine fx_aload dX6_comeInBursts_54 rfl rfl ?_
            obtain ⟨x12, hx12, h⟩ := xLet_el h
            refine gx_get dX6_comeInBursts_56 rfl fd_6_72 hpr5 rfl rfl hx12 ?_
            refine fx_if_ne (t := 89) dX6_comeInBursts_59 rfl rfl (fun hc13 => ?_) (fun hc13 => ?_)
            · rw [if_pos hc13] at h
              refine fx_aload_n dX6_comeInBursts_89 rfl rfl ?_
              refine fx_aload_n dX6_comeInBursts_90 rfl rfl ?_
              refine fx_aload_n dX6_comeInBursts_91 rfl rfl ?_
              refine fx_iconst (x := 2) dX6_comeInBursts_92 rfl (by decide) ?_
              refine fx_aload dX6_comeInBursts_93 rfl rfl ?_
              obtain ⟨x14, hx14, h⟩ := xLet_el h
              refine gx_get dX6_comeInBursts_95 rfl fd_6_66 hpr5 rfl rfl hx14 ?_
              obtain ⟨p15, ep15, h⟩ := xBind_el h
              refine gx_callv (as := [.ref a1, .ref a2, .int (2 : Int32), .int x14]) (r := []) rfl dX6_comeInBursts_98 ca_6_89 rfl me_125 rfl rfl rfl rfl (ha0.1) rfl (fX6_isSo_ok (d := d) (by omega) ha0 ha1 ha2 ep15) rfl rfl ?_
              refine fx_if_eq (t := 121) dX6_comeInBursts_101 rfl rfl (fun hc16 => ?_) (fun hc16 => ?_)
              · rw [if_pos hc16] at h
                refine fx_aload_n dX6_comeInBursts_121 rfl rfl ?_
                refine gx_getr dX6_comeInBursts_122 rfl fd_6_96 ha1.1 rfl rfl ?_
                refine fx_aload dX6_comeInBursts_125 rfl rfl ?_
                obtain ⟨x17, hx17, h⟩ := xLet_el h
                refine gx_get dX6_comeInBursts_127 rfl fd_6_66 hpr5 rfl rfl hx17 ?_
                obtain ⟨hj18, h⟩ := xChk_el h
                obtain ⟨r19, hr19, h⟩ := xLet_el h
                refine gx_aaload (t := 4) dX6_comeInBursts_130 rfl ha1.2.1 rfl hj18 ((xRef_at (sl_9_0 a1) hj18).trans (congrArg some hr19)) ?_
                have hpr19 : isHall r19 := by rw [← hr19]; exact ha1.2.2.2.2.2.2.2.1 _ (xIn_lt hj18)
                refine fx_aload dX6_comeInBursts_131 rfl rfl ?_
                obtain ⟨x20, hx20, h⟩ := xLet_el h
                refine gx_get dX6_comeInBursts_133 rfl fd_6_76 hpr5 rfl rfl hx20 ?_
                refine fx_aload dX6_comeInBursts_136 rfl rfl ?_
                obtain ⟨x21, hx21, h⟩ := xLet_el h
                refine gx_get dX6_comeInBursts_138 rfl fd_6_79 hpr5 rfl rfl hx21 ?_
                refine fx_aload dX6_comeInBursts_141 rfl rfl ?_
                obtain ⟨x22, hx22, h⟩ := xLet_el h
                refine gx_get dX6_comeInBursts_143 rfl fd_6_82 hpr5 rfl rfl hx22 ?_
                obtain ⟨p23, ep23, h⟩ := xBind_el h
                refine gx_callv (as := [.int x20, .int x21, .int x22]) (r := []) rfl dX6_comeInBursts_146 ca_6_100 rfl me_129 rfl rfl rfl rfl (hpr19.1) rfl (fX2_changeOutside_ok (d := d) (by omega) hpr19 ep23) rfl rfl ?_
                exact fX6_comeInBursts_149_ok (o4 := some (.ref r5)) hd ha0 ha1 ha2 ih rfl h
              · rw [if_neg hc16] at h
                refine fx_aload_n dX6_comeInBursts_104 rfl rfl ?_
                refine fx_dup dX6_comeInBursts_105 rfl rfl ?_
                obtain ⟨x24, hx24, h⟩ := xLet_el h
                refine gx_get dX6_comeInBursts_106 rfl fd_6_93 ha1.1 rfl rfl hx24 ?_
                refine fx_aload dX6_comeInBursts_109 rfl rfl ?_
                obtain ⟨x25, hx25, h⟩ := xLet_el h
                refine gx_get dX6_comeInBursts_111 rfl fd_6_82 hpr5 rfl rfl hx25 ?_
                obtain ⟨x26, hx26, h⟩ := xLet_el h
                refine fx_iadd dX6_comeInBursts_114 rfl hx26 ?_
                obtain ⟨m27, hm27, h⟩ := xLet_el h
                refine gx_put dX6_comeInBursts_115 rfl fd_6_93 ha1.1 rfl rfl rfl hm27 ?_
                refine fx_goto (t := 149) dX6_comeInBursts_118 rfl rfl ?_
                exact fX6_comeInBursts_149_ok (o4 := some (.ref r5)) hd ha0 ha1 ha2 ih rfl h
            · rw [if_neg hc13] at h
              refine fx_aload_n dX6_comeInBursts_62 rfl rfl ?_
              refine fx_aload dX6_comeInBursts_63 rfl rfl ?_
              obtain ⟨x28, hx28, h⟩ := xLet_el h
              refine gx_get dX6_comeInBursts_65 rfl fd_6_66 hpr5 rfl rfl hx28 ?_
              refine fx_aload dX6_comeInBursts_68 rfl rfl ?_
              obtain ⟨x29, hx29, h⟩ := xLet_el h
              refine gx_get dX6_comeInBursts_70 rfl fd_6_76 hpr5 rfl rfl hx29 ?_
              refine fx_aload dX6_comeInBursts_73 rfl rfl ?_
              obtain ⟨x30, hx30, h⟩ := xLet_el h
              refine gx_get dX6_comeInBursts_75 rfl fd_6_79 hpr5 rfl rfl hx30 ?_
              refine fx_aload dX6_comeInBursts_78 rfl rfl ?_
              obtain ⟨x31, hx31, h⟩ := xLet_el h
              refine gx_get dX6_comeInBursts_80 rfl fd_6_82 hpr5 rfl rfl hx31 ?_
              obtain ⟨p32, ep32, h⟩ := xBind_el h
              refine gx_callv (as := [.int x28, .int x29, .int x30, .int x31]) (r := []) rfl dX6_comeInBursts_83 ca_6_85 rfl me_123 rfl rfl rfl rfl (ha1.1) rfl (fX9_comeTo_ok (d := d) (by omega) ha1 ep32) rfl rfl ?_
              refine fx_goto (t := 149) dX6_comeInBursts_86 rfl rfl ?_
              exact fX6_comeInBursts_149_ok (o4 := some (.ref r5)) hd ha0 ha1 ha2 ih rfl h
          · rw [if_neg hc11] at h
            refine fx_goto (t := 149) dX6_comeInBursts_51 rfl rfl ?_
            exact fX6_comeInBursts_149_ok (o4 := some (.ref r5)) hd ha0 ha1 ha2 ih rfl h
def fX6_comeInBursts_0 (a0 : Nat) (a1 : Nat) (a2 : Nat) (m : xMem) : Option xMem := fX6_comeInBursts_2 a0 a1 a2 xFuel (0 : Int32) m
set_option maxRecDepth 4000 in
theorem fX6_comeInBursts_0_ok {a0 : Nat} {a1 : Nat} {a2 : Nat} {d : Nat} (hd : 4 ≤ d) (ha0 : isMover a0) (ha1 : isStation a1) (ha2 : isText a2) {o3 : Option Value} {o4 : Option Value} {m : xMem} {r : xMem} (q3 : xNoD o3 = true) (q4 : xNoD o4 = true) (h : fX6_comeInBursts_0 a0 a1 a2 m = some r) : xFx hh_121 cX6_comeInBursts d 0 [some (.ref a0), some (.ref a1), some (.ref a2), o3, o4] [] (xLay m) 0 0 none (xLay r) := by
  unfold fX6_comeInBursts_0 at h
  refine fx_iconst (x := 0) dX6_comeInBursts_0 rfl (by decide) ?_
  refine fx_istore_n (ls2 := [some (.ref a0), some (.ref a1), some (.ref a2), some (.int (0 : Int32)), o4]) dX6_comeInBursts_1 rfl rfl rfl ?_
  exact fX6_comeInBursts_2_ok hd ha0 ha1 ha2 xFuel (0 : Int32) (o4) q4 m r h
def fX6_comeInBursts (a0 : Nat) (a1 : Nat) (a2 : Nat) (m : xMem) : Option xMem := fX6_comeInBursts_0 a0 a1 a2  m
theorem fX6_comeInBursts_ok {a0 : Nat} {a1 : Nat} {a2 : Nat} {m : xMem} {r : xMem} {d : Nat} (hd : 5 ≤ d) (ha0 : isMover a0) (ha1 : isStation a1) (ha2 : isText a2) (h : fX6_comeInBursts a0 a1 a2 m = some r) : xEx d 121 [.ref a0, .ref a1, .ref a2] (xLay m) none (xLay r) := by
  obtain ⟨d, rfl⟩ : ∃ q, d = q + 1 := ⟨d - 1, by omega⟩
  exact xEx_of me_121 rfl (fX6_comeInBursts_0_ok (d := d) (o3 := none) (o4 := none) (by omega) ha0 ha1 ha2 rfl rfl h)
def fX6_passSecond_0 (a0 : Nat) (a1 : Nat) (a2 : Nat) (m : xMem) : Option xMem := (fX6_comeInBursts a0 a1 a2 m).bind fun p1 => (fX6_openHalls a0 a1 a2 p1).bind fun p2 => (fX6_turnEmptyLinks a0 a1 p2).bind fun p3 => (fX8_find (a0 + 1) a1 p3).bind fun p4 => (fX6_moveLinks a0 a1 a2 p4).bind fun p5 => (fX6_countSecond a0 a1 p5).bind fun p6 => xLet (p6.1 a1 6) fun x7 => xLet (x7 + (1 : Int32)) fun x8 => xLet (xPut p6 a1 6 x8) fun m9 => some m9
set_option maxRecDepth 4000 in
theorem fX6_passSecond_0_ok {a0 : Nat} {a1 : Nat} {a2 : Nat} {d : Nat} (hd : 5 ≤ d) (ha0 : isMover a0) (ha1 : isStation a1) (ha2 : isText a2) {m : xMem} {r : xMem} (h : fX6_passSecond_0 a0 a1 a2 m = some r) : xFx hh_120 cX6_passSecond d 0 [some (.ref a0), some (.ref a1), some (.ref a2)] [] (xLay m) 0 0 none (xLay r) := by
  unfold fX6_passSecond_0 at h
  refine fx_aload_n dX6_passSecond_0 rfl rfl ?_
  refine fx_aload_n dX6_passSecond_1 rfl rfl ?_
  refine fx_aload_n dX6_passSecond_2 rfl rfl ?_
  obtain ⟨p1, ep1, h⟩ := xBind_el h
  refine gx_callv (as := [.ref a1, .ref a2]) (r := []) rfl dX6_passSecond_3 ca_6_27 rfl me_121 rfl rfl rfl rfl (ha0.1) rfl (fX6_comeInBursts_ok (d := d) (by omega) ha0 ha1 ha2 ep1) rfl rfl ?_
  refine fx_aload_n dX6_passSecond_6 rfl rfl ?_
  refine fx_aload_n dX6_passSecond_7 rfl rfl ?_
  refine fx_aload_n dX6_passSecond_8 rfl rfl ?_
  obtain ⟨p2, ep2, h⟩ := xBind_el h
  refine gx_callv (as := [.ref a1, .ref a2]) (r := []) rfl dX6_passSecond_9 ca_6_31 rfl me_130 rfl rfl rfl rfl (ha0.1) rfl (fX6_openHalls_ok (d := d) (by omega) ha0 ha1 ha2 ep2) rfl rfl ?_
  refine fx_aload_n dX6_passSecond_12 rfl rfl ?_
  refine fx_aload_n dX6_passSecond_13 rfl rfl ?_
  obtain ⟨p3, ep3, h⟩ := xBind_el h
  refine gx_callv (as := [.ref a1]) (r := []) rfl dX6_passSecond_14 ca_6_34 rfl me_132 rfl rfl rfl rfl (ha0.1) rfl (fX6_turnEmptyLinks_ok (d := d) (by omega) ha0 ha1 ep3) rfl rfl ?_
  refine fx_aload_n dX6_passSecond_17 rfl rfl ?_
  refine gx_getr dX6_passSecond_18 rfl fd_6_12 ha0.1 rfl rfl ?_
  refine fx_aload_n dX6_passSecond_21 rfl rfl ?_
  obtain ⟨p4, ep4, h⟩ := xBind_el h
  refine gx_callv (as := [.ref a1]) (r := []) rfl dX6_passSecond_22 ca_6_38 rfl me_133 rfl rfl rfl rfl (ha0.2.1.1) rfl (fX8_find_ok (d := d) (by omega) ha0.2.1 ha1 ep4) rfl rfl ?_
  refine fx_aload_n dX6_passSecond_25 rfl rfl ?_
  refine fx_aload_n dX6_passSecond_26 rfl rfl ?_
  refine fx_aload_n dX6_passSecond_27 rfl rfl ?_
  obtain ⟨p5, ep5, h⟩ := xBind_el h
  refine gx_callv (as := [.ref a1, .ref a2]) (r := []) rfl dX6_passSecond_28 ca_6_41 rfl me_142 rfl rfl rfl rfl (ha0.1) rfl (fX6_moveLinks_ok (d := d) (by omega) ha0 ha1 ha2 ep5) rfl rfl ?_
  refine fx_aload_n dX6_passSecond_31 rfl rfl ?_
  refine fx_aload_n dX6_passSecond_32 rfl rfl ?_
  obtain ⟨p6, ep6, h⟩ := xBind_el h
  refine gx_callv (as := [.ref a1]) (r := []) rfl dX6_passSecond_33 ca_6_44 rfl me_160 rfl rfl rfl rfl (ha0.1) rfl (fX6_countSecond_ok (d := d) (by omega) ha0 ha1 ep6) rfl rfl ?_
  refine fx_aload_n dX6_passSecond_36 rfl rfl ?_
  refine fx_dup dX6_passSecond_37 rfl rfl ?_
  obtain ⟨x7, hx7, h⟩ := xLet_el h
  refine gx_get dX6_passSecond_38 rfl fd_6_47 ha1.1 rfl rfl hx7 ?_
  refine fx_iconst (x := 1) dX6_passSecond_41 rfl (by decide) ?_
  obtain ⟨x8, hx8, h⟩ := xLet_el h
  refine fx_iadd dX6_passSecond_42 rfl hx8 ?_
  obtain ⟨m9, hm9, h⟩ := xLet_el h
  refine gx_put dX6_passSecond_43 rfl fd_6_47 ha1.1 rfl rfl rfl hm9 ?_
  cases h
  exact fx_return dX6_passSecond_46 rfl rfl
def fX6_passSecond (a0 : Nat) (a1 : Nat) (a2 : Nat) (m : xMem) : Option xMem := fX6_passSecond_0 a0 a1 a2  m
theorem fX6_passSecond_ok {a0 : Nat} {a1 : Nat} {a2 : Nat} {m : xMem} {r : xMem} {d : Nat} (hd : 6 ≤ d) (ha0 : isMover a0) (ha1 : isStation a1) (ha2 : isText a2) (h : fX6_passSecond a0 a1 a2 m = some r) : xEx d 120 [.ref a0, .ref a1, .ref a2] (xLay m) none (xLay r) := by
  obtain ⟨d, rfl⟩ : ∃ q, d = q + 1 := ⟨d - 1, by omega⟩
  exact xEx_of me_120 rfl (fX6_passSecond_0_ok (d := d) (by omega) ha0 ha1 ha2 h)
def fX11_mayRun_30 (a0 : Nat) (a1 : Int32) (s0 : Int32) (m : xMem) : Option (Int32 × xMem) := bif (decide (s0 = 0) || decide (s0 = 1)) then some (s0, m) else none
set_option maxRecDepth 4000 in
theorem fX11_mayRun_30_ok {a0 : Nat} {a1 : Int32} {d : Nat} (hd : 1 ≤ d) (ha0 : isMS a0) {s0 : Int32} {m : xMem} {r : (Int32 × xMem)} (h : fX11_mayRun_30 a0 a1 s0 m = some r) : xFx hh_116 cX11_mayRun d 30 [some (.ref a0), some (.int a1)] [.int s0] (xLay m) 0 0 (some (.int r.1)) (xLay r.2) := by
  unfold fX11_mayRun_30 at h
  obtain ⟨hb1, h⟩ := xChk_el h
  cases h
  exact fx_ireturn dX11_mayRun_30 rfl (by show ((decide _ || decide _) && _) = true; rw [hb1]; rfl)
def fX11_mayRun_29 (a0 : Nat) (a1 : Int32) (m : xMem) : Option (Int32 × xMem) := fX11_mayRun_30 a0 a1 (0 : Int32) m
set_option maxRecDepth 4000 in
theorem fX11_mayRun_29_ok {a0 : Nat} {a1 : Int32} {d : Nat} (hd : 1 ≤ d) (ha0 : isMS a0) {m : xMem} {r : (Int32 × xMem)} (h : fX11_mayRun_29 a0 a1 m = some r) : xFx hh_116 cX11_mayRun d 29 [some (.ref a0), some (.int a1)] [] (xLay m) 0 0 (some (.int r.1)) (xLay r.2) := by
  unfold fX11_mayRun_29 at h
  refine fx_iconst (x := 0) dX11_mayRun_29 rfl (by decide) ?_
  exact fX11_mayRun_30_ok hd ha0 h
def fX11_mayRun_0 (a0 : Nat) (a1 : Int32) (m : xMem) : Option (Int32 × xMem) := (fX11_within a1 (1 : Int32) (300 : Int32) m).bind fun p1 => if p1.1 = (0 : Int32) then fX11_mayRun_29 a0 a1 p1.2 else xLet (p1.2.1 (a0 + 1) 6) fun x3 => xLet (x3 + a1) fun x4 => if (99999 : Int32) < x4 then fX11_mayRun_29 a0 a1 p1.2 else fX11_mayRun_30 a0 a1 (1 : Int32) p1.2
set_option maxRecDepth 4000 in
theorem fX11_mayRun_0_ok {a0 : Nat} {a1 : Int32} {d : Nat} (hd : 1 ≤ d) (ha0 : isMS a0) {m : xMem} {r : (Int32 × xMem)} (h : fX11_mayRun_0 a0 a1 m = some r) : xFx hh_116 cX11_mayRun d 0 [some (.ref a0), some (.int a1)] [] (xLay m) 0 0 (some (.int r.1)) (xLay r.2) := by
  unfold fX11_mayRun_0 at h
  refine fx_iload_n dX11_mayRun_0 rfl rfl ?_
  refine fx_iconst (x := 1) dX11_mayRun_1 rfl (by decide) ?_
  refine fx_sipush (x := 300) dX11_mayRun_2 rfl (by decide) ?_
  obtain ⟨p1, ep1, h⟩ := xBind_el h
  refine gx_calls (as := [.int a1, .int (1 : Int32), .int (300 : Int32)]) (r := []) rfl dX11_mayRun_5 ca_11_47 rfl me_14 rfl rfl rfl rfl (fX11_within_ok (d := d) (by omega) ep1) rfl rfl ?_
  refine fx_if_eq (t := 29) dX11_mayRun_8 rfl rfl (fun hc2 => ?_) (fun hc2 => ?_)
  · rw [if_pos hc2] at h
    exact fX11_mayRun_29_ok hd ha0 h
  · rw [if_neg hc2] at h
    refine fx_aload_n dX11_mayRun_11 rfl rfl ?_
    refine gx_getr dX11_mayRun_12 rfl fd_11_10 ha0.1 rfl rfl ?_
    obtain ⟨x3, hx3, h⟩ := xLet_el h
    refine gx_get dX11_mayRun_15 rfl fd_11_173 ha0.2.1.1 rfl rfl hx3 ?_
    refine fx_iload_n dX11_mayRun_18 rfl rfl ?_
    obtain ⟨x4, hx4, h⟩ := xLet_el h
    refine fx_iadd dX11_mayRun_19 rfl hx4 ?_
    refine fx_ldc dX11_mayRun_20 rfl ck_11_103 ?_
    refine fx_icmp_gt (t := 29) dX11_mayRun_22 rfl rfl (fun hc5 => ?_) (fun hc5 => ?_)
    · rw [if_pos hc5] at h
      exact fX11_mayRun_29_ok hd ha0 h
    · rw [if_neg hc5] at h
      refine fx_iconst (x := 1) dX11_mayRun_25 rfl (by decide) ?_
      refine fx_goto (t := 30) dX11_mayRun_26 rfl rfl ?_
      exact fX11_mayRun_30_ok hd ha0 h
def fX11_mayRun (a0 : Nat) (a1 : Int32) (m : xMem) : Option (Int32 × xMem) := fX11_mayRun_0 a0 a1  m
theorem fX11_mayRun_ok {a0 : Nat} {a1 : Int32} {m : xMem} {r : (Int32 × xMem)} {d : Nat} (hd : 2 ≤ d) (ha0 : isMS a0) (h : fX11_mayRun a0 a1 m = some r) : xEx d 116 [.ref a0, .int a1] (xLay m) (some (.int r.1)) (xLay r.2) := by
  obtain ⟨d, rfl⟩ : ∃ q, d = q + 1 := ⟨d - 1, by omega⟩
  exact xEx_of me_116 rfl (fX11_mayRun_0_ok (d := d) (by omega) ha0 h)
def fX11_law_34 (a0 : Nat) (s0 : Nat) (m : xMem) : Option (Nat × xMem) := some (s0, m)
set_option maxRecDepth 4000 in
theorem fX11_law_34_ok {a0 : Nat} {d : Nat} (hd : 1 ≤ d) (ha0 : isMS a0) {s0 : Nat} {m : xMem} {r : (Nat × xMem)} (hs0 : isText s0) (h : fX11_law_34 a0 s0 m = some r) : xFx hh_117 cX11_law d 34 [some (.ref a0)] [.ref s0] (xLay m) 0 0 (some (.ref r.1)) (xLay r.2) := by
  unfold fX11_law_34 at h
  cases h
  exact fx_areturn dX11_law_34 rfl rfl
def fX11_law_0 (a0 : Nat) (m : xMem) : Option (Nat × xMem) := xLet (m.1 (a0 + 1) 11) fun x1 => (fX11_within x1 (0 : Int32) (3 : Int32) m).bind fun p2 => if p2.1 = (0 : Int32) then fX11_law_34 a0 (a0 + 260) p2.2 else xLet (p2.2.1 (a0 + 1) 11) fun x4 => bif xIn x4 4 then xLet (a0 + 267 + 6 * x4.toNatClampNeg) fun r6 => fX11_law_34 a0 r6 p2.2 else none
set_option maxRecDepth 4000 in
theorem fX11_law_0_ok {a0 : Nat} {d : Nat} (hd : 1 ≤ d) (ha0 : isMS a0) {m : xMem} {r : (Nat × xMem)} (h : fX11_law_0 a0 m = some r) : xFx hh_117 cX11_law d 0 [some (.ref a0)] [] (xLay m) 0 0 (some (.ref r.1)) (xLay r.2) := by
  unfold fX11_law_0 at h
  refine fx_aload_n dX11_law_0 rfl rfl ?_
  refine gx_getr dX11_law_1 rfl fd_11_10 ha0.1 rfl rfl ?_
  obtain ⟨x1, hx1, h⟩ := xLet_el h
  refine gx_get dX11_law_4 rfl fd_11_156 ha0.2.1.1 rfl rfl hx1 ?_
  refine fx_iconst (x := 0) dX11_law_7 rfl (by decide) ?_
  refine fx_iconst (x := 3) dX11_law_8 rfl (by decide) ?_
  obtain ⟨p2, ep2, h⟩ := xBind_el h
  refine gx_calls (as := [.int x1, .int (0 : Int32), .int (3 : Int32)]) (r := []) rfl dX11_law_9 ca_11_47 rfl me_14 rfl rfl rfl rfl (fX11_within_ok (d := d) (by omega) ep2) rfl rfl ?_
  refine fx_if_eq (t := 30) dX11_law_12 rfl rfl (fun hc3 => ?_) (fun hc3 => ?_)
  · rw [if_pos hc3] at h
    refine fx_aload_n dX11_law_30 rfl rfl ?_
    refine gx_getr dX11_law_31 rfl fd_11_39 ha0.1 rfl rfl ?_
    exact fX11_law_34_ok hd ha0 ha0.2.2.2.2.2.2.1 h
  · rw [if_neg hc3] at h
    refine fx_aload_n dX11_law_15 rfl rfl ?_
    refine gx_getr dX11_law_16 rfl fd_11_43 ha0.1 rfl rfl ?_
    refine fx_aload_n dX11_law_19 rfl rfl ?_
    refine gx_getr dX11_law_20 rfl fd_11_10 ha0.1 rfl rfl ?_
    obtain ⟨x4, hx4, h⟩ := xLet_el h
    refine gx_get dX11_law_23 rfl fd_11_156 ha0.2.1.1 rfl rfl hx4 ?_
    obtain ⟨hj5, h⟩ := xChk_el h
    obtain ⟨r6, hr6, h⟩ := xLet_el h
    refine gx_aaload (t := 7) dX11_law_26 rfl ha0.2.2.2.2.2.2.2.1 rfl hj5 ((xRef_at (sl_11_6 a0) hj5).trans (congrArg some hr6)) ?_
    have hpr6 : isText r6 := by rw [← hr6]; exact ha0.2.2.2.2.2.2.2.2 _ (xIn_lt hj5)
    refine fx_goto (t := 34) dX11_law_27 rfl rfl ?_
    exact fX11_law_34_ok hd ha0 hpr6 h
def fX11_law (a0 : Nat) (m : xMem) : Option (Nat × xMem) := fX11_law_0 a0  m
theorem fX11_law_ok {a0 : Nat} {m : xMem} {r : (Nat × xMem)} {d : Nat} (hd : 2 ≤ d) (ha0 : isMS a0) (h : fX11_law a0 m = some r) : xEx d 117 [.ref a0] (xLay m) (some (.ref r.1)) (xLay r.2) := by
  obtain ⟨d, rfl⟩ : ∃ q, d = q + 1 := ⟨d - 1, by omega⟩
  exact xEx_of me_117 rfl (fX11_law_0_ok (d := d) (by omega) ha0 h)
theorem fX11_law_ref {a0 : Nat} {m : xMem} {p : Nat × xMem} (ha0 : isMS a0) (h : fX11_law a0 m = some p) : isText p.1 := by
  unfold fX11_law fX11_law_0 fX11_law_34 at h
  obtain ⟨x1, -, h⟩ := xLet_el h
  obtain ⟨p2, -, h⟩ := xBind_el h
  by_cases hc : p2.1 = (0 : Int32)
  · rw [if_pos hc] at h
    cases h
    exact ha0.2.2.2.2.2.2.1
  · rw [if_neg hc] at h
    obtain ⟨x4, -, h⟩ := xLet_el h
    obtain ⟨hj, h⟩ := xChk_el h
    obtain ⟨r6, hr6, h⟩ := xLet_el h
    cases h
    show isText r6
    rw [← hr6]
    exact ha0.2.2.2.2.2.2.2.2 _ (xIn_lt hj)
def fX8_forget_0 (a0 : Nat) (m : xMem) : Option xMem := xLet (xPut m a0 2 (-1 : Int32)) fun m1 => some m1
set_option maxRecDepth 4000 in
theorem fX8_forget_0_ok {a0 : Nat} {d : Nat} (hd : 0 ≤ d) (ha0 : isRoutes a0) {m : xMem} {r : xMem} (h : fX8_forget_0 a0 m = some r) : xFx hh_119 cX8_forget d 0 [some (.ref a0)] [] (xLay m) 0 0 none (xLay r) := by
  unfold fX8_forget_0 at h
  refine fx_aload_n dX8_forget_0 rfl rfl ?_
  refine fx_iconst (x := -1) dX8_forget_1 rfl (by decide) ?_
  obtain ⟨m1, hm1, h⟩ := xLet_el h
  refine gx_put dX8_forget_2 rfl fd_8_18 ha0.1 rfl rfl rfl hm1 ?_
  cases h
  exact fx_return dX8_forget_5 rfl rfl
def fX8_forget (a0 : Nat) (m : xMem) : Option xMem := fX8_forget_0 a0  m
theorem fX8_forget_ok {a0 : Nat} {m : xMem} {r : xMem} {d : Nat} (hd : 1 ≤ d) (ha0 : isRoutes a0) (h : fX8_forget a0 m = some r) : xEx d 119 [.ref a0] (xLay m) none (xLay r) := by
  obtain ⟨d, rfl⟩ : ∃ q, d = q + 1 := ⟨d - 1, by omega⟩
  exact xEx_of me_119 rfl (fX8_forget_0_ok (d := d) (by omega) ha0 h)
def fX6_forgetRoutes_0 (a0 : Nat) (m : xMem) : Option xMem := (fX8_forget (a0 + 1) m).bind fun p1 => some p1
set_option maxRecDepth 4000 in
theorem fX6_forgetRoutes_0_ok {a0 : Nat} {d : Nat} (hd : 1 ≤ d) (ha0 : isMover a0) {m : xMem} {r : xMem} (h : fX6_forgetRoutes_0 a0 m = some r) : xFx hh_118 cX6_forgetRoutes d 0 [some (.ref a0)] [] (xLay m) 0 0 none (xLay r) := by
  unfold fX6_forgetRoutes_0 at h
  refine fx_aload_n dX6_forgetRoutes_0 rfl rfl ?_
  refine gx_getr dX6_forgetRoutes_1 rfl fd_6_12 ha0.1 rfl rfl ?_
  obtain ⟨p1, ep1, h⟩ := xBind_el h
  refine gx_callv (as := []) (r := []) rfl dX6_forgetRoutes_4 ca_6_24 rfl me_119 rfl rfl rfl rfl (ha0.2.1.1) rfl (fX8_forget_ok (d := d) (by omega) ha0.2.1 ep1) rfl rfl ?_
  cases h
  exact fx_return dX6_forgetRoutes_7 rfl rfl
def fX6_forgetRoutes (a0 : Nat) (m : xMem) : Option xMem := fX6_forgetRoutes_0 a0  m
theorem fX6_forgetRoutes_ok {a0 : Nat} {m : xMem} {r : xMem} {d : Nat} (hd : 2 ≤ d) (ha0 : isMover a0) (h : fX6_forgetRoutes a0 m = some r) : xEx d 118 [.ref a0] (xLay m) none (xLay r) := by
  obtain ⟨d, rfl⟩ : ∃ q, d = q + 1 := ⟨d - 1, by omega⟩
  exact xEx_of me_118 rfl (fX6_forgetRoutes_0_ok (d := d) (by omega) ha0 h)
def fX11_run_24 (a0 : Nat) (a1 : Int32) : Nat → Nat → Int32 → xMem → Option (Int32 × xMem)
  | 0, _, _, _ => none
  | fuel + 1, l2, l3, m => if a1 ≤ l3 then xLet (m.1 (a0 + 1) 6) fun x2 => some (x2, m) else (fX6_passSecond (a0 + 250) (a0 + 1) l2 m).bind fun p3 => xLet (l3 + (1 : Int32)) fun x4 => fX11_run_24 a0 a1 fuel l2 x4 p3
set_option maxRecDepth 4000 in
theorem fX11_run_24_ok {a0 : Nat} {a1 : Int32} {d : Nat} (hd : 6 ≤ d) (ha0 : isMS a0) : ∀ (fuel : Nat) (l2 : Nat) (l3 : Int32) (m : xMem) (r : (Int32 × xMem)) (hl2 : isText l2), fX11_run_24 a0 a1 fuel l2 l3 m = some r → xFx hh_115 cX11_run d 24 [some (.ref a0), some (.int a1), some (.ref l2), some (.int l3)] [] (xLay m) 0 0 (some (.int r.1)) (xLay r.2) := by
  intro fuel
  induction fuel with
  | zero => intro l2 l3  m r hl2 h; cases h
  | succ fuel ih =>
    intro l2 l3  m r hl2 h
    unfold fX11_run_24 at h
    refine fx_iload_n dX11_run_24 rfl rfl ?_
    refine fx_iload_n dX11_run_25 rfl rfl ?_
    refine fx_icmp_ge (t := 47) dX11_run_26 rfl rfl (fun hc1 => ?_) (fun hc1 => ?_)
    · rw [if_pos hc1] at h
      refine fx_aload_n dX11_run_47 rfl rfl ?_
      refine gx_getr dX11_run_48 rfl fd_11_10 ha0.1 rfl rfl ?_
      obtain ⟨x2, hx2, h⟩ := xLet_el h
      refine gx_get dX11_run_51 rfl fd_11_173 ha0.2.1.1 rfl rfl hx2 ?_
      cases h
      exact fx_ireturn dX11_run_54 rfl rfl
    · rw [if_neg hc1] at h
      refine fx_aload_n dX11_run_29 rfl rfl ?_
      refine gx_getr dX11_run_30 rfl fd_11_25 ha0.1 rfl rfl ?_
      refine fx_aload_n dX11_run_33 rfl rfl ?_
      refine gx_getr dX11_run_34 rfl fd_11_10 ha0.1 rfl rfl ?_
      refine fx_aload_n dX11_run_37 rfl rfl ?_
      obtain ⟨p3, ep3, h⟩ := xBind_el h
      refine gx_callv (as := [.ref (a0 + 1), .ref l2]) (r := []) rfl dX11_run_38 ca_11_169 rfl me_120 rfl rfl rfl rfl (ha0.2.2.2.2.1.1) rfl (fX6_passSecond_ok (d := d) (by omega) ha0.2.2.2.2.1 ha0.2.1 hl2 ep3) rfl rfl ?_
      obtain ⟨x4, hx4, h⟩ := xLet_el h
      refine fx_iinc (ls2 := [some (.ref a0), some (.int a1), some (.ref l2), some (.int x4)]) dX11_run_41 rfl rfl rfl hx4 rfl ?_
      refine fx_goto (t := 24) dX11_run_44 rfl rfl ?_
      exact ih l2 x4 p3 r hl2 h
def fX11_run_0 (a0 : Nat) (a1 : Int32) (m : xMem) : Option (Int32 × xMem) := (fX11_mayRun a0 a1 m).bind fun p1 => if ¬ p1.1 = (0 : Int32) then (fX11_law a0 p1.2).bind fun p3 => (fX6_forgetRoutes (a0 + 250) p3.2).bind fun p4 => fX11_run_24 a0 a1 xFuel p3.1 (0 : Int32) p4 else some ((-1 : Int32), p1.2)
set_option maxRecDepth 4000 in
theorem fX11_run_0_ok {a0 : Nat} {a1 : Int32} {d : Nat} (hd : 6 ≤ d) (ha0 : isMS a0) {o2 : Option Value} {o3 : Option Value} {m : xMem} {r : (Int32 × xMem)} (q2 : xNoD o2 = true) (q3 : xNoD o3 = true) (h : fX11_run_0 a0 a1 m = some r) : xFx hh_115 cX11_run d 0 [some (.ref a0), some (.int a1), o2, o3] [] (xLay m) 0 0 (some (.int r.1)) (xLay r.2) := by
  unfold fX11_run_0 at h
  refine fx_aload_n dX11_run_0 rfl rfl ?_
  refine fx_iload_n dX11_run_1 rfl rfl ?_
  obtain ⟨p1, ep1, h⟩ := xBind_el h
  refine gx_callv (as := [.int a1]) (r := []) rfl dX11_run_2 ca_11_159 rfl me_116 rfl rfl rfl rfl (ha0.1) rfl (fX11_mayRun_ok (d := d) (by omega) ha0 ep1) rfl rfl ?_
  refine fx_if_ne (t := 10) dX11_run_5 rfl rfl (fun hc2 => ?_) (fun hc2 => ?_)
  · rw [if_pos hc2] at h
    refine fx_aload_n dX11_run_10 rfl rfl ?_
    obtain ⟨p3, ep3, h⟩ := xBind_el h
    refine gx_callv (as := []) (r := []) rfl dX11_run_11 ca_11_162 rfl me_117 rfl rfl rfl rfl (ha0.1) rfl (fX11_law_ok (d := d) (by omega) ha0 ep3) rfl rfl ?_
    have hqp3 : isText p3.1 := fX11_law_ref ha0 ep3
    refine fx_astore_n (ls2 := [some (.ref a0), some (.int a1), some (.ref p3.1), o3]) dX11_run_14 rfl rfl rfl ?_
    refine fx_aload_n dX11_run_15 rfl rfl ?_
    refine gx_getr dX11_run_16 rfl fd_11_25 ha0.1 rfl rfl ?_
    obtain ⟨p4, ep4, h⟩ := xBind_el h
    refine gx_callv (as := []) (r := []) rfl dX11_run_19 ca_11_166 rfl me_118 rfl rfl rfl rfl (ha0.2.2.2.2.1.1) rfl (fX6_forgetRoutes_ok (d := d) (by omega) ha0.2.2.2.2.1 ep4) rfl rfl ?_
    refine fx_iconst (x := 0) dX11_run_22 rfl (by decide) ?_
    refine fx_istore_n (ls2 := [some (.ref a0), some (.int a1), some (.ref p3.1), some (.int (0 : Int32))]) dX11_run_23 rfl rfl rfl ?_
    exact fX11_run_24_ok hd ha0 xFuel p3.1 (0 : Int32) p4 r hqp3 h
  · rw [if_neg hc2] at h
    refine fx_iconst (x := -1) dX11_run_8 rfl (by decide) ?_
    cases h
    exact fx_ireturn dX11_run_9 rfl rfl
def fX11_run (a0 : Nat) (a1 : Int32) (m : xMem) : Option (Int32 × xMem) := fX11_run_0 a0 a1  m
theorem fX11_run_ok {a0 : Nat} {a1 : Int32} {m : xMem} {r : (Int32 × xMem)} {d : Nat} (hd : 7 ≤ d) (ha0 : isMS a0) (h : fX11_run a0 a1 m = some r) : xEx d 115 [.ref a0, .int a1] (xLay m) (some (.int r.1)) (xLay r.2) := by
  obtain ⟨d, rfl⟩ : ∃ q, d = q + 1 := ⟨d - 1, by omega⟩
  exact xEx_of me_115 rfl (fX11_run_0_ok (d := d) (o2 := none) (o3 := none) (by omega) ha0 rfl rfl h)
def fX12_isRun_29 (a0 : Nat) (a1 : Int32) (s0 : Int32) (m : xMem) : Option (Int32 × xMem) := bif (decide (s0 = 0) || decide (s0 = 1)) then some (s0, m) else none
set_option maxRecDepth 4000 in
theorem fX12_isRun_29_ok {a0 : Nat} {a1 : Int32} {d : Nat} (hd : 1 ≤ d) (ha0 : isModel a0) {s0 : Int32} {m : xMem} {r : (Int32 × xMem)} (h : fX12_isRun_29 a0 a1 s0 m = some r) : xFx hh_163 cX12_isRun d 29 [some (.ref a0), some (.int a1)] [.int s0] (xLay m) 0 0 (some (.int r.1)) (xLay r.2) := by
  unfold fX12_isRun_29 at h
  obtain ⟨hb1, h⟩ := xChk_el h
  cases h
  exact fx_ireturn dX12_isRun_29 rfl (by show ((decide _ || decide _) && _) = true; rw [hb1]; rfl)
def fX12_isRun_28 (a0 : Nat) (a1 : Int32) (m : xMem) : Option (Int32 × xMem) := fX12_isRun_29 a0 a1 (0 : Int32) m
set_option maxRecDepth 4000 in
theorem fX12_isRun_28_ok {a0 : Nat} {a1 : Int32} {d : Nat} (hd : 1 ≤ d) (ha0 : isModel a0) {m : xMem} {r : (Int32 × xMem)} (h : fX12_isRun_28 a0 a1 m = some r) : xFx hh_163 cX12_isRun d 28 [some (.ref a0), some (.int a1)] [] (xLay m) 0 0 (some (.int r.1)) (xLay r.2) := by
  unfold fX12_isRun_28 at h
  refine fx_iconst (x := 0) dX12_isRun_28 rfl (by decide) ?_
  exact fX12_isRun_29_ok hd ha0 h
def fX12_isRun_0 (a0 : Nat) (a1 : Int32) (m : xMem) : Option (Int32 × xMem) := (fX12_in a1 (1 : Int32) (300 : Int32) m).bind fun p1 => if p1.1 = (0 : Int32) then fX12_isRun_28 a0 a1 p1.2 else bif xIn (0 : Int32) 1610 then xLet (p1.2.1 (a0 + 1) (0 : Int32).toNatClampNeg) fun x3 => xLet (x3 + a1) fun x5 => if (99999 : Int32) < x5 then fX12_isRun_28 a0 a1 p1.2 else fX12_isRun_29 a0 a1 (1 : Int32) p1.2 else none
set_option maxRecDepth 4000 in
theorem fX12_isRun_0_ok {a0 : Nat} {a1 : Int32} {d : Nat} (hd : 1 ≤ d) (ha0 : isModel a0) {m : xMem} {r : (Int32 × xMem)} (h : fX12_isRun_0 a0 a1 m = some r) : xFx hh_163 cX12_isRun d 0 [some (.ref a0), some (.int a1)] [] (xLay m) 0 0 (some (.int r.1)) (xLay r.2) := by
  unfold fX12_isRun_0 at h
  refine fx_iload_n dX12_isRun_0 rfl rfl ?_
  refine fx_iconst (x := 1) dX12_isRun_1 rfl (by decide) ?_
  refine fx_sipush (x := 300) dX12_isRun_2 rfl (by decide) ?_
  obtain ⟨p1, ep1, h⟩ := xBind_el h
  refine gx_calls (as := [.int a1, .int (1 : Int32), .int (300 : Int32)]) (r := []) rfl dX12_isRun_5 ca_12_95 rfl me_18 rfl rfl rfl rfl (fX12_in_ok (d := d) (by omega) ep1) rfl rfl ?_
  refine fx_if_eq (t := 28) dX12_isRun_8 rfl rfl (fun hc2 => ?_) (fun hc2 => ?_)
  · rw [if_pos hc2] at h
    exact fX12_isRun_28_ok hd ha0 h
  · rw [if_neg hc2] at h
    refine fx_aload_n dX12_isRun_11 rfl rfl ?_
    refine gx_getr dX12_isRun_12 rfl fd_12_7 ha0.1 rfl rfl ?_
    refine fx_iconst (x := 0) dX12_isRun_15 rfl (by decide) ?_
    obtain ⟨hj4, h⟩ := xChk_el h
    obtain ⟨x3, hx3, h⟩ := xLet_el h
    refine gx_iaload dX12_isRun_16 rfl ha0.2.1 hj4 hx3 ?_
    refine fx_iload_n dX12_isRun_17 rfl rfl ?_
    obtain ⟨x5, hx5, h⟩ := xLet_el h
    refine fx_iadd dX12_isRun_18 rfl hx5 ?_
    refine fx_ldc dX12_isRun_19 rfl ck_12_121 ?_
    refine fx_icmp_gt (t := 28) dX12_isRun_21 rfl rfl (fun hc6 => ?_) (fun hc6 => ?_)
    · rw [if_pos hc6] at h
      exact fX12_isRun_28_ok hd ha0 h
    · rw [if_neg hc6] at h
      refine fx_iconst (x := 1) dX12_isRun_24 rfl (by decide) ?_
      refine fx_goto (t := 29) dX12_isRun_25 rfl rfl ?_
      exact fX12_isRun_29_ok hd ha0 h
def fX12_isRun (a0 : Nat) (a1 : Int32) (m : xMem) : Option (Int32 × xMem) := fX12_isRun_0 a0 a1  m
theorem fX12_isRun_ok {a0 : Nat} {a1 : Int32} {m : xMem} {r : (Int32 × xMem)} {d : Nat} (hd : 2 ≤ d) (ha0 : isModel a0) (h : fX12_isRun a0 a1 m = some r) : xEx d 163 [.ref a0, .int a1] (xLay m) (some (.int r.1)) (xLay r.2) := by
  obtain ⟨d, rfl⟩ : ∃ q, d = q + 1 := ⟨d - 1, by omega⟩
  exact xEx_of me_163 rfl (fX12_isRun_0_ok (d := d) (by omega) ha0 h)
def fX12_countOf_5 (a0 : Nat) (a1 : Int32) (a2 : Int32) : Nat → Int32 → Int32 → xMem → Option (Int32 × xMem)
  | 0, _, _, _ => none
  | fuel + 1, l3, l4, m => if (12 : Int32) ≤ l4 then some (l3, m) else xLet ((12 : Int32) * a2) fun x2 => xLet (a1 + x2) fun x3 => xLet (x3 + l4) fun x4 => bif xIn x4 1610 then xLet (m.1 (a0 + 1) x4.toNatClampNeg) fun x5 => xLet (l3 + x5) fun x7 => xLet (l4 + (1 : Int32)) fun x8 => fX12_countOf_5 a0 a1 a2 fuel x7 x8 m else none
set_option maxRecDepth 4000 in
theorem fX12_countOf_5_ok {a0 : Nat} {a1 : Int32} {a2 : Int32} {d : Nat} (hd : 0 ≤ d) (ha0 : isModel a0) : ∀ (fuel : Nat) (l3 : Int32) (l4 : Int32) (m : xMem) (r : (Int32 × xMem)), fX12_countOf_5 a0 a1 a2 fuel l3 l4 m = some r → xFx hh_169 cX12_countOf d 5 [some (.ref a0), some (.int a1), some (.int a2), some (.int l3), some (.int l4)] [] (xLay m) 0 0 (some (.int r.1)) (xLay r.2) := by
  intro fuel
  induction fuel with
  | zero => intro l3 l4  m r  h; cases h
  | succ fuel ih =>
    intro l3 l4  m r  h
    unfold fX12_countOf_5 at h
    refine fx_iload dX12_countOf_5 rfl rfl ?_
    refine fx_bipush (x := 12) dX12_countOf_7 rfl (by decide) ?_
    refine fx_icmp_ge (t := 35) dX12_countOf_9 rfl rfl (fun hc1 => ?_) (fun hc1 => ?_)
    · rw [if_pos hc1] at h
      refine fx_iload_n dX12_countOf_35 rfl rfl ?_
      cases h
      exact fx_ireturn dX12_countOf_36 rfl rfl
    · rw [if_neg hc1] at h
      refine fx_iload_n dX12_countOf_12 rfl rfl ?_
      refine fx_aload_n dX12_countOf_13 rfl rfl ?_
      refine gx_getr dX12_countOf_14 rfl fd_12_7 ha0.1 rfl rfl ?_
      refine fx_iload_n dX12_countOf_17 rfl rfl ?_
      refine fx_bipush (x := 12) dX12_countOf_18 rfl (by decide) ?_
      refine fx_iload_n dX12_countOf_20 rfl rfl ?_
      obtain ⟨x2, hx2, h⟩ := xLet_el h
      refine fx_imul dX12_countOf_21 rfl hx2 ?_
      obtain ⟨x3, hx3, h⟩ := xLet_el h
      refine fx_iadd dX12_countOf_22 rfl hx3 ?_
      refine fx_iload dX12_countOf_23 rfl rfl ?_
      obtain ⟨x4, hx4, h⟩ := xLet_el h
      refine fx_iadd dX12_countOf_25 rfl hx4 ?_
      obtain ⟨hj6, h⟩ := xChk_el h
      obtain ⟨x5, hx5, h⟩ := xLet_el h
      refine gx_iaload dX12_countOf_26 rfl ha0.2.1 hj6 hx5 ?_
      obtain ⟨x7, hx7, h⟩ := xLet_el h
      refine fx_iadd dX12_countOf_27 rfl hx7 ?_
      refine fx_istore_n (ls2 := [some (.ref a0), some (.int a1), some (.int a2), some (.int x7), some (.int l4)]) dX12_countOf_28 rfl rfl rfl ?_
      obtain ⟨x8, hx8, h⟩ := xLet_el h
      refine fx_iinc (ls2 := [some (.ref a0), some (.int a1), some (.int a2), some (.int x7), some (.int x8)]) dX12_countOf_29 rfl rfl rfl hx8 rfl ?_
      refine fx_goto (t := 5) dX12_countOf_32 rfl rfl ?_
      exact ih x7 x8 m r h
def fX12_countOf_0 (a0 : Nat) (a1 : Int32) (a2 : Int32) (m : xMem) : Option (Int32 × xMem) := fX12_countOf_5 a0 a1 a2 xFuel (0 : Int32) (0 : Int32) m
set_option maxRecDepth 4000 in
theorem fX12_countOf_0_ok {a0 : Nat} {a1 : Int32} {a2 : Int32} {d : Nat} (hd : 0 ≤ d) (ha0 : isModel a0) {o3 : Option Value} {o4 : Option Value} {m : xMem} {r : (Int32 × xMem)} (q3 : xNoD o3 = true) (q4 : xNoD o4 = true) (h : fX12_countOf_0 a0 a1 a2 m = some r) : xFx hh_169 cX12_countOf d 0 [some (.ref a0), some (.int a1), some (.int a2), o3, o4] [] (xLay m) 0 0 (some (.int r.1)) (xLay r.2) := by
  unfold fX12_countOf_0 at h
  refine fx_iconst (x := 0) dX12_countOf_0 rfl (by decide) ?_
  refine fx_istore_n (ls2 := [some (.ref a0), some (.int a1), some (.int a2), some (.int (0 : Int32)), o4]) dX12_countOf_1 rfl rfl rfl ?_
  refine fx_iconst (x := 0) dX12_countOf_2 rfl (by decide) ?_
  refine fx_istore (ls2 := [some (.ref a0), some (.int a1), some (.int a2), some (.int (0 : Int32)), some (.int (0 : Int32))]) dX12_countOf_3 rfl rfl rfl ?_
  exact fX12_countOf_5_ok hd ha0 xFuel (0 : Int32) (0 : Int32) m r h
def fX12_countOf (a0 : Nat) (a1 : Int32) (a2 : Int32) (m : xMem) : Option (Int32 × xMem) := fX12_countOf_0 a0 a1 a2  m
theorem fX12_countOf_ok {a0 : Nat} {a1 : Int32} {a2 : Int32} {m : xMem} {r : (Int32 × xMem)} {d : Nat} (hd : 1 ≤ d) (ha0 : isModel a0) (h : fX12_countOf a0 a1 a2 m = some r) : xEx d 169 [.ref a0, .int a1, .int a2] (xLay m) (some (.int r.1)) (xLay r.2) := by
  obtain ⟨d, rfl⟩ : ∃ q, d = q + 1 := ⟨d - 1, by omega⟩
  exact xEx_of me_169 rfl (fX12_countOf_0_ok (d := d) (o3 := none) (o4 := none) (by omega) ha0 rfl rfl h)
def fX12_inHall_0 (a0 : Nat) (a1 : Int32) (m : xMem) : Option (Int32 × xMem) := (fX12_countOf a0 (50 : Int32) a1 m).bind fun p1 => some (p1.1, p1.2)
set_option maxRecDepth 4000 in
theorem fX12_inHall_0_ok {a0 : Nat} {a1 : Int32} {d : Nat} (hd : 1 ≤ d) (ha0 : isModel a0) {m : xMem} {r : (Int32 × xMem)} (h : fX12_inHall_0 a0 a1 m = some r) : xFx hh_168 cX12_inHall d 0 [some (.ref a0), some (.int a1)] [] (xLay m) 0 0 (some (.int r.1)) (xLay r.2) := by
  unfold fX12_inHall_0 at h
  refine fx_aload_n dX12_inHall_0 rfl rfl ?_
  refine fx_bipush (x := 50) dX12_inHall_1 rfl (by decide) ?_
  refine fx_iload_n dX12_inHall_3 rfl rfl ?_
  obtain ⟨p1, ep1, h⟩ := xBind_el h
  refine gx_callv (as := [.int (50 : Int32), .int a1]) (r := []) rfl dX12_inHall_4 ca_12_289 rfl me_169 rfl rfl rfl rfl (ha0.1) rfl (fX12_countOf_ok (d := d) (by omega) ha0 ep1) rfl rfl ?_
  cases h
  exact fx_ireturn dX12_inHall_7 rfl rfl
def fX12_inHall (a0 : Nat) (a1 : Int32) (m : xMem) : Option (Int32 × xMem) := fX12_inHall_0 a0 a1  m
theorem fX12_inHall_ok {a0 : Nat} {a1 : Int32} {m : xMem} {r : (Int32 × xMem)} {d : Nat} (hd : 2 ≤ d) (ha0 : isModel a0) (h : fX12_inHall a0 a1 m = some r) : xEx d 168 [.ref a0, .int a1] (xLay m) (some (.int r.1)) (xLay r.2) := by
  obtain ⟨d, rfl⟩ : ∃ q, d = q + 1 := ⟨d - 1, by omega⟩
  exact xEx_of me_168 rfl (fX12_inHall_0_ok (d := d) (by omega) ha0 h)
def fX12_hallOf_0 (a0 : Nat) (a1 : Int32) (a2 : Int32) (m : xMem) : Option (Int32 × xMem) := xLet ((4 : Int32) * a1) fun x1 => xLet ((20 : Int32) + x1) fun x2 => xLet (x2 + a2) fun x3 => bif xIn x3 1610 then xLet (m.1 (a0 + 1) x3.toNatClampNeg) fun x4 => some (x4, m) else none
set_option maxRecDepth 4000 in
theorem fX12_hallOf_0_ok {a0 : Nat} {a1 : Int32} {a2 : Int32} {d : Nat} (hd : 0 ≤ d) (ha0 : isModel a0) {m : xMem} {r : (Int32 × xMem)} (h : fX12_hallOf_0 a0 a1 a2 m = some r) : xFx hh_170 cX12_hallOf d 0 [some (.ref a0), some (.int a1), some (.int a2)] [] (xLay m) 0 0 (some (.int r.1)) (xLay r.2) := by
  unfold fX12_hallOf_0 at h
  refine fx_aload_n dX12_hallOf_0 rfl rfl ?_
  refine gx_getr dX12_hallOf_1 rfl fd_12_7 ha0.1 rfl rfl ?_
  refine fx_bipush (x := 20) dX12_hallOf_4 rfl (by decide) ?_
  refine fx_iconst (x := 4) dX12_hallOf_6 rfl (by decide) ?_
  refine fx_iload_n dX12_hallOf_7 rfl rfl ?_
  obtain ⟨x1, hx1, h⟩ := xLet_el h
  refine fx_imul dX12_hallOf_8 rfl hx1 ?_
  obtain ⟨x2, hx2, h⟩ := xLet_el h
  refine fx_iadd dX12_hallOf_9 rfl hx2 ?_
  refine fx_iload_n dX12_hallOf_10 rfl rfl ?_
  obtain ⟨x3, hx3, h⟩ := xLet_el h
  refine fx_iadd dX12_hallOf_11 rfl hx3 ?_
  obtain ⟨hj5, h⟩ := xChk_el h
  obtain ⟨x4, hx4, h⟩ := xLet_el h
  refine gx_iaload dX12_hallOf_12 rfl ha0.2.1 hj5 hx4 ?_
  cases h
  exact fx_ireturn dX12_hallOf_13 rfl rfl
def fX12_hallOf (a0 : Nat) (a1 : Int32) (a2 : Int32) (m : xMem) : Option (Int32 × xMem) := fX12_hallOf_0 a0 a1 a2  m
theorem fX12_hallOf_ok {a0 : Nat} {a1 : Int32} {a2 : Int32} {m : xMem} {r : (Int32 × xMem)} {d : Nat} (hd : 1 ≤ d) (ha0 : isModel a0) (h : fX12_hallOf a0 a1 a2 m = some r) : xEx d 170 [.ref a0, .int a1, .int a2] (xLay m) (some (.int r.1)) (xLay r.2) := by
  obtain ⟨d, rfl⟩ : ∃ q, d = q + 1 := ⟨d - 1, by omega⟩
  exact xEx_of me_170 rfl (fX12_hallOf_0_ok (d := d) (by omega) ha0 h)
def fX12_isOver_19 (a0 : Nat) (a1 : Int32) (s0 : Int32) (m : xMem) : Option (Int32 × xMem) := bif (decide (s0 = 0) || decide (s0 = 1)) then some (s0, m) else none
set_option maxRecDepth 4000 in
theorem fX12_isOver_19_ok {a0 : Nat} {a1 : Int32} {d : Nat} (hd : 2 ≤ d) (ha0 : isModel a0) {s0 : Int32} {m : xMem} {r : (Int32 × xMem)} (h : fX12_isOver_19 a0 a1 s0 m = some r) : xFx hh_192 cX12_isOver d 19 [some (.ref a0), some (.int a1)] [.int s0] (xLay m) 0 0 (some (.int r.1)) (xLay r.2) := by
  unfold fX12_isOver_19 at h
  obtain ⟨hb1, h⟩ := xChk_el h
  cases h
  exact fx_ireturn dX12_isOver_19 rfl (by show ((decide _ || decide _) && _) = true; rw [hb1]; rfl)
def fX12_isOver_0 (a0 : Nat) (a1 : Int32) (m : xMem) : Option (Int32 × xMem) := (fX12_inHall a0 a1 m).bind fun p1 => (fX12_hallOf a0 a1 (0 : Int32) p1.2).bind fun p2 => if p1.1 ≤ p2.1 then fX12_isOver_19 a0 a1 (0 : Int32) p2.2 else fX12_isOver_19 a0 a1 (1 : Int32) p2.2
set_option maxRecDepth 4000 in
theorem fX12_isOver_0_ok {a0 : Nat} {a1 : Int32} {d : Nat} (hd : 2 ≤ d) (ha0 : isModel a0) {m : xMem} {r : (Int32 × xMem)} (h : fX12_isOver_0 a0 a1 m = some r) : xFx hh_192 cX12_isOver d 0 [some (.ref a0), some (.int a1)] [] (xLay m) 0 0 (some (.int r.1)) (xLay r.2) := by
  unfold fX12_isOver_0 at h
  refine fx_aload_n dX12_isOver_0 rfl rfl ?_
  refine fx_iload_n dX12_isOver_1 rfl rfl ?_
  obtain ⟨p1, ep1, h⟩ := xBind_el h
  refine gx_callv (as := [.int a1]) (r := []) rfl dX12_isOver_2 ca_12_292 rfl me_168 rfl rfl rfl rfl (ha0.1) rfl (fX12_inHall_ok (d := d) (by omega) ha0 ep1) rfl rfl ?_
  refine fx_aload_n dX12_isOver_5 rfl rfl ?_
  refine fx_iload_n dX12_isOver_6 rfl rfl ?_
  refine fx_iconst (x := 0) dX12_isOver_7 rfl (by decide) ?_
  obtain ⟨p2, ep2, h⟩ := xBind_el h
  refine gx_callv (as := [.int a1, .int (0 : Int32)]) (r := [.int p1.1]) rfl dX12_isOver_8 ca_12_295 rfl me_170 rfl rfl rfl rfl (ha0.1) rfl (fX12_hallOf_ok (d := d) (by omega) ha0 ep2) rfl rfl ?_
  refine fx_icmp_le (t := 18) dX12_isOver_11 rfl rfl (fun hc3 => ?_) (fun hc3 => ?_)
  · rw [if_pos hc3] at h
    refine fx_iconst (x := 0) dX12_isOver_18 rfl (by decide) ?_
    exact fX12_isOver_19_ok hd ha0 h
  · rw [if_neg hc3] at h
    refine fx_iconst (x := 1) dX12_isOver_14 rfl (by decide) ?_
    refine fx_goto (t := 19) dX12_isOver_15 rfl rfl ?_
    exact fX12_isOver_19_ok hd ha0 h
def fX12_isOver (a0 : Nat) (a1 : Int32) (m : xMem) : Option (Int32 × xMem) := fX12_isOver_0 a0 a1  m
theorem fX12_isOver_ok {a0 : Nat} {a1 : Int32} {m : xMem} {r : (Int32 × xMem)} {d : Nat} (hd : 3 ≤ d) (ha0 : isModel a0) (h : fX12_isOver a0 a1 m = some r) : xEx d 192 [.ref a0, .int a1] (xLay m) (some (.int r.1)) (xLay r.2) := by
  obtain ⟨d, rfl⟩ : ∃ q, d = q + 1 := ⟨d - 1, by omega⟩
  exact xEx_of me_192 rfl (fX12_isOver_0_ok (d := d) (by omega) ha0 h)
def fX12_comes_43 (a0 : Nat) (a1 : Int32) (a2 : Int32) (a3 : Int32) (a4 : Int32) (m : xMem) : Option xMem := some m
set_option maxRecDepth 4000 in
theorem fX12_comes_43_ok {a0 : Nat} {a1 : Int32} {a2 : Int32} {a3 : Int32} {a4 : Int32} {d : Nat} (hd : 0 ≤ d) (ha0 : isModel a0) {m : xMem} {r : xMem} (h : fX12_comes_43 a0 a1 a2 a3 a4 m = some r) : xFx hh_166 cX12_comes d 43 [some (.ref a0), some (.int a1), some (.int a2), some (.int a3), some (.int a4)] [] (xLay m) 0 0 none (xLay r) := by
  unfold fX12_comes_43 at h
  cases h
  exact fx_return dX12_comes_43 rfl rfl
def fX12_comes_0 (a0 : Nat) (a1 : Int32) (a2 : Int32) (a3 : Int32) (a4 : Int32) (m : xMem) : Option xMem := if ¬ a1 = a2 then xLet ((12 : Int32) * a1) fun x2 => xLet ((50 : Int32) + x2) fun x3 => xLet ((2 : Int32) * a2) fun x4 => xLet (x3 + x4) fun x5 => xLet (x5 + a3) fun x6 => bif xIn x6 1610 then xLet (m.1 (a0 + 1) x6.toNatClampNeg) fun x7 => xLet (x7 + a4) fun x9 => bif xIn x6 1610 then xLet (xPut m (a0 + 1) x6.toNatClampNeg x9) fun m10 => fX12_comes_43 a0 a1 a2 a3 a4 m10 else none else none else bif xIn (9 : Int32) 1610 then xLet (m.1 (a0 + 1) (9 : Int32).toNatClampNeg) fun x12 => xLet (x12 + a4) fun x14 => bif xIn (9 : Int32) 1610 then xLet (xPut m (a0 + 1) (9 : Int32).toNatClampNeg x14) fun m15 => fX12_comes_43 a0 a1 a2 a3 a4 m15 else none else none
set_option maxRecDepth 4000 in
theorem fX12_comes_0_ok {a0 : Nat} {a1 : Int32} {a2 : Int32} {a3 : Int32} {a4 : Int32} {d : Nat} (hd : 0 ≤ d) (ha0 : isModel a0) {m : xMem} {r : xMem} (h : fX12_comes_0 a0 a1 a2 a3 a4 m = some r) : xFx hh_166 cX12_comes d 0 [some (.ref a0), some (.int a1), some (.int a2), some (.int a3), some (.int a4)] [] (xLay m) 0 0 none (xLay r) := by
  unfold fX12_comes_0 at h
  refine fx_iload_n dX12_comes_0 rfl rfl ?_
  refine fx_iload_n dX12_comes_1 rfl rfl ?_
  refine fx_icmp_ne (t := 20) dX12_comes_2 rfl rfl (fun hc1 => ?_) (fun hc1 => ?_)
  · rw [if_pos hc1] at h
    refine fx_aload_n dX12_comes_20 rfl rfl ?_
    refine gx_getr dX12_comes_21 rfl fd_12_7 ha0.1 rfl rfl ?_
    refine fx_bipush (x := 50) dX12_comes_24 rfl (by decide) ?_
    refine fx_bipush (x := 12) dX12_comes_26 rfl (by decide) ?_
    refine fx_iload_n dX12_comes_28 rfl rfl ?_
    obtain ⟨x2, hx2, h⟩ := xLet_el h
    refine fx_imul dX12_comes_29 rfl hx2 ?_
    obtain ⟨x3, hx3, h⟩ := xLet_el h
    refine fx_iadd dX12_comes_30 rfl hx3 ?_
    refine fx_iconst (x := 2) dX12_comes_31 rfl (by decide) ?_
    refine fx_iload_n dX12_comes_32 rfl rfl ?_
    obtain ⟨x4, hx4, h⟩ := xLet_el h
    refine fx_imul dX12_comes_33 rfl hx4 ?_
    obtain ⟨x5, hx5, h⟩ := xLet_el h
    refine fx_iadd dX12_comes_34 rfl hx5 ?_
    refine fx_iload_n dX12_comes_35 rfl rfl ?_
    obtain ⟨x6, hx6, h⟩ := xLet_el h
    refine fx_iadd dX12_comes_36 rfl hx6 ?_
    refine fx_dup2 dX12_comes_37 rfl rfl ?_
    obtain ⟨hj8, h⟩ := xChk_el h
    obtain ⟨x7, hx7, h⟩ := xLet_el h
    refine gx_iaload dX12_comes_38 rfl ha0.2.1 hj8 hx7 ?_
    refine fx_iload dX12_comes_39 rfl rfl ?_
    obtain ⟨x9, hx9, h⟩ := xLet_el h
    refine fx_iadd dX12_comes_41 rfl hx9 ?_
    obtain ⟨hj11, h⟩ := xChk_el h
    obtain ⟨m10, hm10, h⟩ := xLet_el h
    refine gx_iastore dX12_comes_42 rfl ha0.2.1 hj11 hm10 ?_
    exact fX12_comes_43_ok hd ha0 h
  · rw [if_neg hc1] at h
    refine fx_aload_n dX12_comes_5 rfl rfl ?_
    refine gx_getr dX12_comes_6 rfl fd_12_7 ha0.1 rfl rfl ?_
    refine fx_bipush (x := 9) dX12_comes_9 rfl (by decide) ?_
    refine fx_dup2 dX12_comes_11 rfl rfl ?_
    obtain ⟨hj13, h⟩ := xChk_el h
    obtain ⟨x12, hx12, h⟩ := xLet_el h
    refine gx_iaload dX12_comes_12 rfl ha0.2.1 hj13 hx12 ?_
    refine fx_iload dX12_comes_13 rfl rfl ?_
    obtain ⟨x14, hx14, h⟩ := xLet_el h
    refine fx_iadd dX12_comes_15 rfl hx14 ?_
    obtain ⟨hj16, h⟩ := xChk_el h
    obtain ⟨m15, hm15, h⟩ := xLet_el h
    refine gx_iastore dX12_comes_16 rfl ha0.2.1 hj16 hm15 ?_
    refine fx_goto (t := 43) dX12_comes_17 rfl rfl ?_
    exact fX12_comes_43_ok hd ha0 h
def fX12_comes (a0 : Nat) (a1 : Int32) (a2 : Int32) (a3 : Int32) (a4 : Int32) (m : xMem) : Option xMem := fX12_comes_0 a0 a1 a2 a3 a4  m
theorem fX12_comes_ok {a0 : Nat} {a1 : Int32} {a2 : Int32} {a3 : Int32} {a4 : Int32} {m : xMem} {r : xMem} {d : Nat} (hd : 1 ≤ d) (ha0 : isModel a0) (h : fX12_comes a0 a1 a2 a3 a4 m = some r) : xEx d 166 [.ref a0, .int a1, .int a2, .int a3, .int a4] (xLay m) none (xLay r) := by
  obtain ⟨d, rfl⟩ : ∃ q, d = q + 1 := ⟨d - 1, by omega⟩
  exact xEx_of me_166 rfl (fX12_comes_0_ok (d := d) (by omega) ha0 h)
def fX12_bound_29 (a0 : Int64) (s0 : Int64) (m : xMem) : Option (Int64 × xMem) := some (s0, m)
set_option maxRecDepth 4000 in
theorem fX12_bound_29_ok {a0 : Int64} {d : Nat} (hd : 0 ≤ d)  {s0 : Int64} {m : xMem} {r : (Int64 × xMem)} (h : fX12_bound_29 a0 s0 m = some r) : xFx hh_173 cX12_bound d 29 [some (.long a0), none] [.long s0] (xLay m) 0 0 (some (.long r.1)) (xLay r.2) := by
  unfold fX12_bound_29 at h
  cases h
  exact fx_lreturn dX12_bound_29 rfl rfl
def fX12_bound_0 (a0 : Int64) (m : xMem) : Option (Int64 × xMem) := xLet (lg_cmp a0 (1000000 : Int64)) fun x1 => if x1 ≤ (0 : Int32) then xLet (lg_cmp a0 (-1000000 : Int64)) fun x3 => if (0 : Int32) ≤ x3 then fX12_bound_29 a0 a0 m else fX12_bound_29 a0 (-1000000 : Int64) m else fX12_bound_29 a0 (1000000 : Int64) m
set_option maxRecDepth 4000 in
theorem fX12_bound_0_ok {a0 : Int64} {d : Nat} (hd : 0 ≤ d)  {m : xMem} {r : (Int64 × xMem)} (h : fX12_bound_0 a0 m = some r) : xFx hh_173 cX12_bound d 0 [some (.long a0), none] [] (xLay m) 0 0 (some (.long r.1)) (xLay r.2) := by
  unfold fX12_bound_0 at h
  refine fx_lload_n dX12_bound_0 rfl rfl ?_
  refine fx_ldc2_w dX12_bound_1 rfl cl_12_277 ?_
  obtain ⟨x1, hx1, h⟩ := xLet_el h
  refine fx_lcmp dX12_bound_4 rfl hx1 ?_
  refine fx_if_le (t := 14) dX12_bound_5 rfl rfl (fun hc2 => ?_) (fun hc2 => ?_)
  · rw [if_pos hc2] at h
    refine fx_lload_n dX12_bound_14 rfl rfl ?_
    refine fx_ldc2_w dX12_bound_15 rfl cl_12_279 ?_
    obtain ⟨x3, hx3, h⟩ := xLet_el h
    refine fx_lcmp dX12_bound_18 rfl hx3 ?_
    refine fx_if_ge (t := 28) dX12_bound_19 rfl rfl (fun hc4 => ?_) (fun hc4 => ?_)
    · rw [if_pos hc4] at h
      refine fx_lload_n dX12_bound_28 rfl rfl ?_
      exact fX12_bound_29_ok hd h
    · rw [if_neg hc4] at h
      refine fx_ldc2_w dX12_bound_22 rfl cl_12_279 ?_
      refine fx_goto (t := 29) dX12_bound_25 rfl rfl ?_
      exact fX12_bound_29_ok hd h
  · rw [if_neg hc2] at h
    refine fx_ldc2_w dX12_bound_8 rfl cl_12_277 ?_
    refine fx_goto (t := 29) dX12_bound_11 rfl rfl ?_
    exact fX12_bound_29_ok hd h
def fX12_bound (a0 : Int64) (m : xMem) : Option (Int64 × xMem) := fX12_bound_0 a0  m
theorem fX12_bound_ok {a0 : Int64} {m : xMem} {r : (Int64 × xMem)} {d : Nat} (hd : 1 ≤ d)  (h : fX12_bound a0 m = some r) : xEx d 173 [.long a0] (xLay m) (some (.long r.1)) (xLay r.2) := by
  obtain ⟨d, rfl⟩ : ∃ q, d = q + 1 := ⟨d - 1, by omega⟩
  exact xEx_of me_173 rfl (fX12_bound_0_ok (d := d) (by omega) h)
def fX12_worked_224 (a0 : Int32) (a1 : Int64) (a3 : Int64) (s0 : Int64) (m : xMem) : Option (Int64 × xMem) := some (s0, m)
set_option maxRecDepth 4000 in
theorem fX12_worked_224_ok {a0 : Int32} {a1 : Int64} {a3 : Int64} {d : Nat} (hd : 1 ≤ d)  {s0 : Int64} {m : xMem} {r : (Int64 × xMem)} (h : fX12_worked_224 a0 a1 a3 s0 m = some r) : xFx hh_172 cX12_worked d 224 [some (.int a0), some (.long a1), none, some (.long a3), none] [.long s0] (xLay m) 0 0 (some (.long r.1)) (xLay r.2) := by
  unfold fX12_worked_224 at h
  cases h
  exact fx_lreturn dX12_worked_224 rfl rfl
def fX12_worked_182 (a0 : Int32) (a1 : Int64) (a3 : Int64) (s0 : Int64) (m : xMem) : Option (Int64 × xMem) := some (s0, m)
set_option maxRecDepth 4000 in
theorem fX12_worked_182_ok {a0 : Int32} {a1 : Int64} {a3 : Int64} {d : Nat} (hd : 1 ≤ d)  {s0 : Int64} {m : xMem} {r : (Int64 × xMem)} (h : fX12_worked_182 a0 a1 a3 s0 m = some r) : xFx hh_172 cX12_worked d 182 [some (.int a0), some (.long a1), none, some (.long a3), none] [.long s0] (xLay m) 0 0 (some (.long r.1)) (xLay r.2) := by
  unfold fX12_worked_182 at h
  cases h
  exact fx_lreturn dX12_worked_182 rfl rfl
def fX12_worked_134 (a0 : Int32) (a1 : Int64) (a3 : Int64) (s0 : Int64) (m : xMem) : Option (Int64 × xMem) := some (s0, m)
set_option maxRecDepth 4000 in
theorem fX12_worked_134_ok {a0 : Int32} {a1 : Int64} {a3 : Int64} {d : Nat} (hd : 1 ≤ d)  {s0 : Int64} {m : xMem} {r : (Int64 × xMem)} (h : fX12_worked_134 a0 a1 a3 s0 m = some r) : xFx hh_172 cX12_worked d 134 [some (.int a0), some (.long a1), none, some (.long a3), none] [.long s0] (xLay m) 0 0 (some (.long r.1)) (xLay r.2) := by
  unfold fX12_worked_134 at h
  cases h
  exact fx_lreturn dX12_worked_134 rfl rfl
def fX12_worked_146 (a0 : Int32) (a1 : Int64) (a3 : Int64) (s0 : Int64) (m : xMem) : Option (Int64 × xMem) := some (s0, m)
set_option maxRecDepth 4000 in
theorem fX12_worked_146_ok {a0 : Int32} {a1 : Int64} {a3 : Int64} {d : Nat} (hd : 1 ≤ d)  {s0 : Int64} {m : xMem} {r : (Int64 × xMem)} (h : fX12_worked_146 a0 a1 a3 s0 m = some r) : xFx hh_172 cX12_worked d 146 [some (.int a0), some (.long a1), none, some (.long a3), none] [.long s0] (xLay m) 0 0 (some (.long r.1)) (xLay r.2) := by
  unfold fX12_worked_146 at h
  cases h
  exact fx_lreturn dX12_worked_146 rfl rfl
def fX12_worked_170 (a0 : Int32) (a1 : Int64) (a3 : Int64) (s0 : Int64) (m : xMem) : Option (Int64 × xMem) := some (s0, m)
set_option maxRecDepth 4000 in
theorem fX12_worked_170_ok {a0 : Int32} {a1 : Int64} {a3 : Int64} {d : Nat} (hd : 1 ≤ d)  {s0 : Int64} {m : xMem} {r : (Int64 × xMem)} (h : fX12_worked_170 a0 a1 a3 s0 m = some r) : xFx hh_172 cX12_worked d 170 [some (.int a0), some (.long a1), none, some (.long a3), none] [.long s0] (xLay m) 0 0 (some (.long r.1)) (xLay r.2) := by
  unfold fX12_worked_170 at h
  cases h
  exact fx_lreturn dX12_worked_170 rfl rfl
def fX12_worked_158 (a0 : Int32) (a1 : Int64) (a3 : Int64) (s0 : Int64) (m : xMem) : Option (Int64 × xMem) := some (s0, m)
set_option maxRecDepth 4000 in
theorem fX12_worked_158_ok {a0 : Int32} {a1 : Int64} {a3 : Int64} {d : Nat} (hd : 1 ≤ d)  {s0 : Int64} {m : xMem} {r : (Int64 × xMem)} (h : fX12_worked_158 a0 a1 a3 s0 m = some r) : xFx hh_172 cX12_worked d 158 [some (.int a0), some (.long a1), none, some (.long a3), none] [.long s0] (xLay m) 0 0 (some (.long r.1)) (xLay r.2) := by
  unfold fX12_worked_158 at h
  cases h
  exact fx_lreturn dX12_worked_158 rfl rfl
def fX12_worked_194 (a0 : Int32) (a1 : Int64) (a3 : Int64) (s0 : Int64) (m : xMem) : Option (Int64 × xMem) := some (s0, m)
set_option maxRecDepth 4000 in
theorem fX12_worked_194_ok {a0 : Int32} {a1 : Int64} {a3 : Int64} {d : Nat} (hd : 1 ≤ d)  {s0 : Int64} {m : xMem} {r : (Int64 × xMem)} (h : fX12_worked_194 a0 a1 a3 s0 m = some r) : xFx hh_172 cX12_worked d 194 [some (.int a0), some (.long a1), none, some (.long a3), none] [.long s0] (xLay m) 0 0 (some (.long r.1)) (xLay r.2) := by
  unfold fX12_worked_194 at h
  cases h
  exact fx_lreturn dX12_worked_194 rfl rfl
def fX12_worked_206 (a0 : Int32) (a1 : Int64) (a3 : Int64) (s0 : Int64) (m : xMem) : Option (Int64 × xMem) := some (s0, m)
set_option maxRecDepth 4000 in
theorem fX12_worked_206_ok {a0 : Int32} {a1 : Int64} {a3 : Int64} {d : Nat} (hd : 1 ≤ d)  {s0 : Int64} {m : xMem} {r : (Int64 × xMem)} (h : fX12_worked_206 a0 a1 a3 s0 m = some r) : xFx hh_172 cX12_worked d 206 [some (.int a0), some (.long a1), none, some (.long a3), none] [.long s0] (xLay m) 0 0 (some (.long r.1)) (xLay r.2) := by
  unfold fX12_worked_206 at h
  cases h
  exact fx_lreturn dX12_worked_206 rfl rfl
def fX12_worked_0 (a0 : Int32) (a1 : Int64) (a3 : Int64) (m : xMem) : Option (Int64 × xMem) := if a0 = (35 : Int32) then xLet (lg_cmp a1 a3) fun x2 => if x2 = (0 : Int32) then fX12_worked_182 a0 a1 a3 (0 : Int64) m else fX12_worked_182 a0 a1 a3 (1 : Int64) m else if a0 = (42 : Int32) then xLet (a1 * a3) fun x5 => (fX12_bound x5 m).bind fun p6 => some (p6.1, p6.2) else if a0 = (43 : Int32) then xLet (a1 + a3) fun x8 => (fX12_bound x8 m).bind fun p9 => some (p9.1, p9.2) else if a0 = (45 : Int32) then xLet (a1 - a3) fun x11 => (fX12_bound x11 m).bind fun p12 => some (p12.1, p12.2) else if a0 = (47 : Int32) then xLet (lg_cmp a3 (0 : Int64)) fun x14 => if ¬ x14 = (0 : Int32) then bif !decide (a3 = 0) then xLet (a1 / a3) fun x16 => fX12_worked_134 a0 a1 a3 x16 m else none else fX12_worked_134 a0 a1 a3 (0 : Int64) m else if a0 = (60 : Int32) then xLet (lg_cmp a1 a3) fun x19 => if (0 : Int32) ≤ x19 then fX12_worked_146 a0 a1 a3 (0 : Int64) m else fX12_worked_146 a0 a1 a3 (1 : Int64) m else if a0 = (61 : Int32) then xLet (lg_cmp a1 a3) fun x22 => if ¬ x22 = (0 : Int32) then fX12_worked_170 a0 a1 a3 (0 : Int64) m else fX12_worked_170 a0 a1 a3 (1 : Int64) m else if a0 = (62 : Int32) then xLet (lg_cmp a1 a3) fun x25 => if x25 ≤ (0 : Int32) then fX12_worked_158 a0 a1 a3 (0 : Int64) m else fX12_worked_158 a0 a1 a3 (1 : Int64) m else if a0 = (300 : Int32) then xLet (lg_cmp a1 a3) fun x28 => if (0 : Int32) < x28 then fX12_worked_194 a0 a1 a3 (0 : Int64) m else fX12_worked_194 a0 a1 a3 (1 : Int64) m else if a0 = (301 : Int32) then xLet (lg_cmp a1 a3) fun x31 => if x31 < (0 : Int32) then fX12_worked_206 a0 a1 a3 (0 : Int64) m else fX12_worked_206 a0 a1 a3 (1 : Int64) m else if a0 = (406 : Int32) then xLet (a1 * a3) fun x34 => some (x34, m) else xLet (a1 + a3) fun x35 => xLet (lg_cmp x35 (0 : Int64)) fun x36 => if x36 ≤ (0 : Int32) then fX12_worked_224 a0 a1 a3 (0 : Int64) m else fX12_worked_224 a0 a1 a3 (1 : Int64) m
set_option maxRecDepth 4000 in
theorem fX12_worked_0_ok {a0 : Int32} {a1 : Int64} {a3 : Int64} {d : Nat} (hd : 1 ≤ d)  {m : xMem} {r : (Int64 × xMem)} (h : fX12_worked_0 a0 a1 a3 m = some r) : xFx hh_172 cX12_worked d 0 [some (.int a0), some (.long a1), none, some (.long a3), none] [] (xLay m) 0 0 (some (.long r.1)) (xLay r.2) := by
  unfold fX12_worked_0 at h
  refine fx_iload_n dX12_worked_0 rfl rfl ?_
  by_cases hc1 : a0 = (35 : Int32)
  · rw [if_pos hc1] at h
    refine fx_look (t := 171) dX12_worked_1 rfl (by decide) (by rw [hc1]; decide) ?_
    refine fx_lload_n dX12_worked_171 rfl rfl ?_
    refine fx_lload_n dX12_worked_172 rfl rfl ?_
    obtain ⟨x2, hx2, h⟩ := xLet_el h
    refine fx_lcmp dX12_worked_173 rfl hx2 ?_
    refine fx_if_eq (t := 181) dX12_worked_174 rfl rfl (fun hc3 => ?_) (fun hc3 => ?_)
    · rw [if_pos hc3] at h
      refine fx_lconst (x := 0) dX12_worked_181 rfl (by decide) ?_
      exact fX12_worked_182_ok hd h
    · rw [if_neg hc3] at h
      refine fx_lconst (x := 1) dX12_worked_177 rfl (by decide) ?_
      refine fx_goto (t := 182) dX12_worked_178 rfl rfl ?_
      exact fX12_worked_182_ok hd h
  · rw [if_neg hc1] at h
    by_cases hc4 : a0 = (42 : Int32)
    · rw [if_pos hc4] at h
      refine fx_look (t := 114) dX12_worked_1 rfl (by decide) (by rw [hc4]; decide) ?_
      refine fx_lload_n dX12_worked_114 rfl rfl ?_
      refine fx_lload_n dX12_worked_115 rfl rfl ?_
      obtain ⟨x5, hx5, h⟩ := xLet_el h
      refine fx_lmul dX12_worked_116 rfl hx5 ?_
      obtain ⟨p6, ep6, h⟩ := xBind_el h
      refine gx_calls (as := [.long x5]) (r := []) rfl dX12_worked_117 ca_12_281 rfl me_173 rfl rfl rfl rfl (fX12_bound_ok (d := d) (by omega) ep6) rfl rfl ?_
      cases h
      exact fx_lreturn dX12_worked_120 rfl rfl
    · rw [if_neg hc4] at h
      by_cases hc7 : a0 = (43 : Int32)
      · rw [if_pos hc7] at h
        refine fx_look (t := 100) dX12_worked_1 rfl (by decide) (by rw [hc7]; decide) ?_
        refine fx_lload_n dX12_worked_100 rfl rfl ?_
        refine fx_lload_n dX12_worked_101 rfl rfl ?_
        obtain ⟨x8, hx8, h⟩ := xLet_el h
        refine fx_ladd dX12_worked_102 rfl hx8 ?_
        obtain ⟨p9, ep9, h⟩ := xBind_el h
        refine gx_calls (as := [.long x8]) (r := []) rfl dX12_worked_103 ca_12_281 rfl me_173 rfl rfl rfl rfl (fX12_bound_ok (d := d) (by omega) ep9) rfl rfl ?_
        cases h
        exact fx_lreturn dX12_worked_106 rfl rfl
      · rw [if_neg hc7] at h
        by_cases hc10 : a0 = (45 : Int32)
        · rw [if_pos hc10] at h
          refine fx_look (t := 107) dX12_worked_1 rfl (by decide) (by rw [hc10]; decide) ?_
          refine fx_lload_n dX12_worked_107 rfl rfl ?_
          refine fx_lload_n dX12_worked_108 rfl rfl ?_
          obtain ⟨x11, hx11, h⟩ := xLet_el h
          refine fx_lsub dX12_worked_109 rfl hx11 ?_
          obtain ⟨p12, ep12, h⟩ := xBind_el h
          refine gx_calls (as := [.long x11]) (r := []) rfl dX12_worked_110 ca_12_281 rfl me_173 rfl rfl rfl rfl (fX12_bound_ok (d := d) (by omega) ep12) rfl rfl ?_
          cases h
          exact fx_lreturn dX12_worked_113 rfl rfl
        · rw [if_neg hc10] at h
          by_cases hc13 : a0 = (47 : Int32)
          · rw [if_pos hc13] at h
            refine fx_look (t := 121) dX12_worked_1 rfl (by decide) (by rw [hc13]; decide) ?_
            refine fx_lload_n dX12_worked_121 rfl rfl ?_
            refine fx_lconst (x := 0) dX12_worked_122 rfl (by decide) ?_
            obtain ⟨x14, hx14, h⟩ := xLet_el h
            refine fx_lcmp dX12_worked_123 rfl hx14 ?_
            refine fx_if_ne (t := 131) dX12_worked_124 rfl rfl (fun hc15 => ?_) (fun hc15 => ?_)
            · rw [if_pos hc15] at h
              refine fx_lload_n dX12_worked_131 rfl rfl ?_
              refine fx_lload_n dX12_worked_132 rfl rfl ?_
              obtain ⟨hz17, h⟩ := xChk_el h
              obtain ⟨x16, hx16, h⟩ := xLet_el h
              refine fx_ldiv dX12_worked_133 rfl (by simpa using hz17) hx16 ?_
              exact fX12_worked_134_ok hd h
            · rw [if_neg hc15] at h
              refine fx_lconst (x := 0) dX12_worked_127 rfl (by decide) ?_
              refine fx_goto (t := 134) dX12_worked_128 rfl rfl ?_
              exact fX12_worked_134_ok hd h
          · rw [if_neg hc13] at h
            by_cases hc18 : a0 = (60 : Int32)
            · rw [if_pos hc18] at h
              refine fx_look (t := 135) dX12_worked_1 rfl (by decide) (by rw [hc18]; decide) ?_
              refine fx_lload_n dX12_worked_135 rfl rfl ?_
              refine fx_lload_n dX12_worked_136 rfl rfl ?_
              obtain ⟨x19, hx19, h⟩ := xLet_el h
              refine fx_lcmp dX12_worked_137 rfl hx19 ?_
              refine fx_if_ge (t := 145) dX12_worked_138 rfl rfl (fun hc20 => ?_) (fun hc20 => ?_)
              · rw [if_pos hc20] at h
                refine fx_lconst (x := 0) dX12_worked_145 rfl (by decide) ?_
                exact fX12_worked_146_ok hd h
              · rw [if_neg hc20] at h
                refine fx_lconst (x := 1) dX12_worked_141 rfl (by decide) ?_
                refine fx_goto (t := 146) dX12_worked_142 rfl rfl ?_
                exact fX12_worked_146_ok hd h
            · rw [if_neg hc18] at h
              by_cases hc21 : a0 = (61 : Int32)
              · rw [if_pos hc21] at h
                refine fx_look (t := 159) dX12_worked_1 rfl (by decide) (by rw [hc21]; decide) ?_
                refine fx_lload_n dX12_worked_159 rfl rfl ?_
                refine fx_lload_n dX12_worked_160 rfl rfl ?_
                obtain ⟨x22, hx22, h⟩ := xLet_el h
                refine fx_lcmp dX12_worked_161 rfl hx22 ?_
                refine fx_if_ne (t := 169) dX12_worked_162 rfl rfl (fun hc23 => ?_) (fun hc23 => ?_)
                · rw [if_pos hc23] at h
                  refine fx_lconst (x := 0) dX12_worked_169 rfl (by decide) ?_
                  exact fX12_worked_170_ok hd h
                · rw [if_neg hc23] at h
                  refine fx_lconst (x := 1) dX12_worked_165 rfl (by decide) ?_
                  refine fx_goto (t := 170) dX12_worked_166 rfl rfl ?_
                  exact fX12_worked_170_ok hd h
              · rw [if_neg hc21] at h
                by_cases hc24 : a0 = (62 : Int32)
                · rw [if_pos hc24] at h
                  refine fx_look (t := 147) dX12_worked_1 rfl (by decide) (by rw [hc24]; decide) ?_
                  refine fx_lload_n dX12_worked_147 rfl rfl ?_
                  refine fx_lload_n dX12_worked_148 rfl rfl ?_
                  obtain ⟨x25, hx25, h⟩ := xLet_el h
                  refine fx_lcmp dX12_worked_149 rfl hx25 ?_
                  refine fx_if_le (t := 157) dX12_worked_150 rfl rfl (fun hc26 => ?_) (fun hc26 => ?_)
                  · rw [if_pos hc26] at h
                    refine fx_lconst (x := 0) dX12_worked_157 rfl (by decide) ?_
                    exact fX12_worked_158_ok hd h
                  · rw [if_neg hc26] at h
                    refine fx_lconst (x := 1) dX12_worked_153 rfl (by decide) ?_
                    refine fx_goto (t := 158) dX12_worked_154 rfl rfl ?_
                    exact fX12_worked_158_ok hd h
                · rw [if_neg hc24] at h
                  by_cases hc27 : a0 = (300 : Int32)
                  · rw [if_pos hc27] at h
                    refine fx_look (t := 183) dX12_worked_1 rfl (by decide) (by rw [hc27]; decide) ?_
                    refine fx_lload_n dX12_worked_183 rfl rfl ?_
                    refine fx_lload_n dX12_worked_184 rfl rfl ?_
                    obtain ⟨x28, hx28, h⟩ := xLet_el h
                    refine fx_lcmp dX12_worked_185 rfl hx28 ?_
                    refine fx_if_gt (t := 193) dX12_worked_186 rfl rfl (fun hc29 => ?_) (fun hc29 => ?_)
                    · rw [if_pos hc29] at h
                      refine fx_lconst (x := 0) dX12_worked_193 rfl (by decide) ?_
                      exact fX12_worked_194_ok hd h
                    · rw [if_neg hc29] at h
                      refine fx_lconst (x := 1) dX12_worked_189 rfl (by decide) ?_
                      refine fx_goto (t := 194) dX12_worked_190 rfl rfl ?_
                      exact fX12_worked_194_ok hd h
                  · rw [if_neg hc27] at h
                    by_cases hc30 : a0 = (301 : Int32)
                    · rw [if_pos hc30] at h
                      refine fx_look (t := 195) dX12_worked_1 rfl (by decide) (by rw [hc30]; decide) ?_
                      refine fx_lload_n dX12_worked_195 rfl rfl ?_
                      refine fx_lload_n dX12_worked_196 rfl rfl ?_
                      obtain ⟨x31, hx31, h⟩ := xLet_el h
                      refine fx_lcmp dX12_worked_197 rfl hx31 ?_
                      refine fx_if_lt (t := 205) dX12_worked_198 rfl rfl (fun hc32 => ?_) (fun hc32 => ?_)
                      · rw [if_pos hc32] at h
                        refine fx_lconst (x := 0) dX12_worked_205 rfl (by decide) ?_
                        exact fX12_worked_206_ok hd h
                      · rw [if_neg hc32] at h
                        refine fx_lconst (x := 1) dX12_worked_201 rfl (by decide) ?_
                        refine fx_goto (t := 206) dX12_worked_202 rfl rfl ?_
                        exact fX12_worked_206_ok hd h
                    · rw [if_neg hc30] at h
                      by_cases hc33 : a0 = (406 : Int32)
                      · rw [if_pos hc33] at h
                        refine fx_look (t := 207) dX12_worked_1 rfl (by decide) (by rw [hc33]; decide) ?_
                        refine fx_lload_n dX12_worked_207 rfl rfl ?_
                        refine fx_lload_n dX12_worked_208 rfl rfl ?_
                        obtain ⟨x34, hx34, h⟩ := xLet_el h
                        refine fx_lmul dX12_worked_209 rfl hx34 ?_
                        cases h
                        exact fx_lreturn dX12_worked_210 rfl rfl
                      · rw [if_neg hc33] at h
                        have e35 : a0.toInt ≠ 35 := fun q => hc1 (Int32.toInt_inj.mp (q.trans (by decide)))
                        have e42 : a0.toInt ≠ 42 := fun q => hc4 (Int32.toInt_inj.mp (q.trans (by decide)))
                        have e43 : a0.toInt ≠ 43 := fun q => hc7 (Int32.toInt_inj.mp (q.trans (by decide)))
                        have e45 : a0.toInt ≠ 45 := fun q => hc10 (Int32.toInt_inj.mp (q.trans (by decide)))
                        have e47 : a0.toInt ≠ 47 := fun q => hc13 (Int32.toInt_inj.mp (q.trans (by decide)))
                        have e60 : a0.toInt ≠ 60 := fun q => hc18 (Int32.toInt_inj.mp (q.trans (by decide)))
                        have e61 : a0.toInt ≠ 61 := fun q => hc21 (Int32.toInt_inj.mp (q.trans (by decide)))
                        have e62 : a0.toInt ≠ 62 := fun q => hc24 (Int32.toInt_inj.mp (q.trans (by decide)))
                        have e300 : a0.toInt ≠ 300 := fun q => hc27 (Int32.toInt_inj.mp (q.trans (by decide)))
                        have e301 : a0.toInt ≠ 301 := fun q => hc30 (Int32.toInt_inj.mp (q.trans (by decide)))
                        have e406 : a0.toInt ≠ 406 := fun q => hc33 (Int32.toInt_inj.mp (q.trans (by decide)))
                        refine fx_look (t := 211) dX12_worked_1 rfl (by decide) (by show ((1 : Nat) : Int) + Op.lookupswitch.offset [(35, 170), (42, 113), (43, 99), (45, 106), (47, 120), (60, 134), (61, 158), (62, 146), (300, 182), (301, 194), (406, 206)] 210 a0.toInt = _; rw [Op.lookupswitch.offset_cons, if_neg (fun q => e35 q.symm), Op.lookupswitch.offset_cons, if_neg (fun q => e42 q.symm), Op.lookupswitch.offset_cons, if_neg (fun q => e43 q.symm), Op.lookupswitch.offset_cons, if_neg (fun q => e45 q.symm), Op.lookupswitch.offset_cons, if_neg (fun q => e47 q.symm), Op.lookupswitch.offset_cons, if_neg (fun q => e60 q.symm), Op.lookupswitch.offset_cons, if_neg (fun q => e61 q.symm), Op.lookupswitch.offset_cons, if_neg (fun q => e62 q.symm), Op.lookupswitch.offset_cons, if_neg (fun q => e300 q.symm), Op.lookupswitch.offset_cons, if_neg (fun q => e301 q.symm), Op.lookupswitch.offset_cons, if_neg (fun q => e406 q.symm), Op.lookupswitch.offset_nil]; rfl) ?_
                        refine fx_lload_n dX12_worked_211 rfl rfl ?_
                        refine fx_lload_n dX12_worked_212 rfl rfl ?_
                        obtain ⟨x35, hx35, h⟩ := xLet_el h
                        refine fx_ladd dX12_worked_213 rfl hx35 ?_
                        refine fx_lconst (x := 0) dX12_worked_214 rfl (by decide) ?_
                        obtain ⟨x36, hx36, h⟩ := xLet_el h
                        refine fx_lcmp dX12_worked_215 rfl hx36 ?_
                        refine fx_if_le (t := 223) dX12_worked_216 rfl rfl (fun hc37 => ?_) (fun hc37 => ?_)
                        · rw [if_pos hc37] at h
                          refine fx_lconst (x := 0) dX12_worked_223 rfl (by decide) ?_
                          exact fX12_worked_224_ok hd h
                        · rw [if_neg hc37] at h
                          refine fx_lconst (x := 1) dX12_worked_219 rfl (by decide) ?_
                          refine fx_goto (t := 224) dX12_worked_220 rfl rfl ?_
                          exact fX12_worked_224_ok hd h
def fX12_worked (a0 : Int32) (a1 : Int64) (a3 : Int64) (m : xMem) : Option (Int64 × xMem) := fX12_worked_0 a0 a1 a3  m
theorem fX12_worked_ok {a0 : Int32} {a1 : Int64} {a3 : Int64} {m : xMem} {r : (Int64 × xMem)} {d : Nat} (hd : 2 ≤ d)  (h : fX12_worked a0 a1 a3 m = some r) : xEx d 172 [.int a0, .long a1, .long a3] (xLay m) (some (.long r.1)) (xLay r.2) := by
  obtain ⟨d, rfl⟩ : ∃ q, d = q + 1 := ⟨d - 1, by omega⟩
  exact xEx_of me_172 rfl (fX12_worked_0_ok (d := d) (by omega) h)
