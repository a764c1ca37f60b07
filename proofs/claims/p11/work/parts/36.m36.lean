theorem bdX4_steppedOn_0 : (decode cX4_steppedOn 0 = .ok (.iload_n 1, 1)) ∧ (decode cX4_steppedOn 1 = .ok (.iconst 1, 1)) ∧ (decode cX4_steppedOn 2 = .ok (.if_icmp .lt 11, 3)) ∧ (decode cX4_steppedOn 5 = .ok (.aload_n 0, 1)) ∧ (decode cX4_steppedOn 6 = .ok (.getfield 15, 3)) ∧ (decode cX4_steppedOn 9 = .ok (.iconst 1, 1)) ∧ (decode cX4_steppedOn 10 = .ok (.if_icmp .ge 5, 3)) ∧ (decode cX4_steppedOn 13 = .ok (.iconst (-1), 1)) ∧ (decode cX4_steppedOn 14 = .ok (.ireturn, 1)) ∧ (decode cX4_steppedOn 15 = .ok (.aload_n 0, 1)) ∧ (decode cX4_steppedOn 16 = .ok (.getfield 15, 3)) ∧ (decode cX4_steppedOn 19 = .ok (.iconst 1, 1)) ∧ (decode cX4_steppedOn 20 = .ok (.isub, 1)) ∧ (decode cX4_steppedOn 21 = .ok (.iload_n 1, 1)) ∧ (decode cX4_steppedOn 22 = .ok (.idiv, 1)) ∧ (decode cX4_steppedOn 23 = .ok (.istore_n 3, 1)) := by decide +kernel
theorem dX4_steppedOn_0 : decode cX4_steppedOn 0 = .ok (.iload_n 1, 1) := bdX4_steppedOn_0.1
theorem dX4_steppedOn_1 : decode cX4_steppedOn 1 = .ok (.iconst 1, 1) := bdX4_steppedOn_0.2.1
theorem dX4_steppedOn_2 : decode cX4_steppedOn 2 = .ok (.if_icmp .lt 11, 3) := bdX4_steppedOn_0.2.2.1
theorem dX4_steppedOn_5 : decode cX4_steppedOn 5 = .ok (.aload_n 0, 1) := bdX4_steppedOn_0.2.2.2.1
theorem dX4_steppedOn_6 : decode cX4_steppedOn 6 = .ok (.getfield 15, 3) := bdX4_steppedOn_0.2.2.2.2.1
theorem dX4_steppedOn_9 : decode cX4_steppedOn 9 = .ok (.iconst 1, 1) := bdX4_steppedOn_0.2.2.2.2.2.1
theorem dX4_steppedOn_10 : decode cX4_steppedOn 10 = .ok (.if_icmp .ge 5, 3) := bdX4_steppedOn_0.2.2.2.2.2.2.1
theorem dX4_steppedOn_13 : decode cX4_steppedOn 13 = .ok (.iconst (-1), 1) := bdX4_steppedOn_0.2.2.2.2.2.2.2.1
theorem dX4_steppedOn_14 : decode cX4_steppedOn 14 = .ok (.ireturn, 1) := bdX4_steppedOn_0.2.2.2.2.2.2.2.2.1
theorem dX4_steppedOn_15 : decode cX4_steppedOn 15 = .ok (.aload_n 0, 1) := bdX4_steppedOn_0.2.2.2.2.2.2.2.2.2.1
theorem dX4_steppedOn_16 : decode cX4_steppedOn 16 = .ok (.getfield 15, 3) := bdX4_steppedOn_0.2.2.2.2.2.2.2.2.2.2.1
theorem dX4_steppedOn_19 : decode cX4_steppedOn 19 = .ok (.iconst 1, 1) := bdX4_steppedOn_0.2.2.2.2.2.2.2.2.2.2.2.1
theorem dX4_steppedOn_20 : decode cX4_steppedOn 20 = .ok (.isub, 1) := bdX4_steppedOn_0.2.2.2.2.2.2.2.2.2.2.2.2.1
theorem dX4_steppedOn_21 : decode cX4_steppedOn 21 = .ok (.iload_n 1, 1) := bdX4_steppedOn_0.2.2.2.2.2.2.2.2.2.2.2.2.2.1
theorem dX4_steppedOn_22 : decode cX4_steppedOn 22 = .ok (.idiv, 1) := bdX4_steppedOn_0.2.2.2.2.2.2.2.2.2.2.2.2.2.2.1
theorem dX4_steppedOn_23 : decode cX4_steppedOn 23 = .ok (.istore_n 3, 1) := bdX4_steppedOn_0.2.2.2.2.2.2.2.2.2.2.2.2.2.2.2
theorem bdX4_steppedOn_24 : (decode cX4_steppedOn 24 = .ok (.aload_n 0, 1)) ∧ (decode cX4_steppedOn 25 = .ok (.getfield 11, 3)) ∧ (decode cX4_steppedOn 28 = .ok (.iconst 0, 1)) ∧ (decode cX4_steppedOn 29 = .ok (.iaload, 1)) ∧ (decode cX4_steppedOn 30 = .ok (.istore 4, 2)) ∧ (decode cX4_steppedOn 32 = .ok (.iconst 0, 1)) ∧ (decode cX4_steppedOn 33 = .ok (.istore 5, 2)) ∧ (decode cX4_steppedOn 35 = .ok (.iconst 0, 1)) ∧ (decode cX4_steppedOn 36 = .ok (.istore 6, 2)) ∧ (decode cX4_steppedOn 38 = .ok (.iconst 0, 1)) ∧ (decode cX4_steppedOn 39 = .ok (.istore 7, 2)) ∧ (decode cX4_steppedOn 41 = .ok (.iconst 1, 1)) ∧ (decode cX4_steppedOn 42 = .ok (.iload_n 1, 1)) ∧ (decode cX4_steppedOn 43 = .ok (.isub, 1)) ∧ (decode cX4_steppedOn 44 = .ok (.istore 8, 2)) ∧ (decode cX4_steppedOn 46 = .ok (.iload 8, 2)) := by decide +kernel
theorem dX4_steppedOn_24 : decode cX4_steppedOn 24 = .ok (.aload_n 0, 1) := bdX4_steppedOn_24.1
theorem dX4_steppedOn_25 : decode cX4_steppedOn 25 = .ok (.getfield 11, 3) := bdX4_steppedOn_24.2.1
theorem dX4_steppedOn_28 : decode cX4_steppedOn 28 = .ok (.iconst 0, 1) := bdX4_steppedOn_24.2.2.1
theorem dX4_steppedOn_29 : decode cX4_steppedOn 29 = .ok (.iaload, 1) := bdX4_steppedOn_24.2.2.2.1
theorem dX4_steppedOn_30 : decode cX4_steppedOn 30 = .ok (.istore 4, 2) := bdX4_steppedOn_24.2.2.2.2.1
theorem dX4_steppedOn_32 : decode cX4_steppedOn 32 = .ok (.iconst 0, 1) := bdX4_steppedOn_24.2.2.2.2.2.1
theorem dX4_steppedOn_33 : decode cX4_steppedOn 33 = .ok (.istore 5, 2) := bdX4_steppedOn_24.2.2.2.2.2.2.1
theorem dX4_steppedOn_35 : decode cX4_steppedOn 35 = .ok (.iconst 0, 1) := bdX4_steppedOn_24.2.2.2.2.2.2.2.1
theorem dX4_steppedOn_36 : decode cX4_steppedOn 36 = .ok (.istore 6, 2) := bdX4_steppedOn_24.2.2.2.2.2.2.2.2.1
theorem dX4_steppedOn_38 : decode cX4_steppedOn 38 = .ok (.iconst 0, 1) := bdX4_steppedOn_24.2.2.2.2.2.2.2.2.2.1
theorem dX4_steppedOn_39 : decode cX4_steppedOn 39 = .ok (.istore 7, 2) := bdX4_steppedOn_24.2.2.2.2.2.2.2.2.2.2.1
theorem dX4_steppedOn_41 : decode cX4_steppedOn 41 = .ok (.iconst 1, 1) := bdX4_steppedOn_24.2.2.2.2.2.2.2.2.2.2.2.1
theorem dX4_steppedOn_42 : decode cX4_steppedOn 42 = .ok (.iload_n 1, 1) := bdX4_steppedOn_24.2.2.2.2.2.2.2.2.2.2.2.2.1
theorem dX4_steppedOn_43 : decode cX4_steppedOn 43 = .ok (.isub, 1) := bdX4_steppedOn_24.2.2.2.2.2.2.2.2.2.2.2.2.2.1
theorem dX4_steppedOn_44 : decode cX4_steppedOn 44 = .ok (.istore 8, 2) := bdX4_steppedOn_24.2.2.2.2.2.2.2.2.2.2.2.2.2.2.1
theorem dX4_steppedOn_46 : decode cX4_steppedOn 46 = .ok (.iload 8, 2) := bdX4_steppedOn_24.2.2.2.2.2.2.2.2.2.2.2.2.2.2.2
theorem bdX4_steppedOn_48 : (decode cX4_steppedOn 48 = .ok (.ifCond .gt 167, 3)) ∧ (decode cX4_steppedOn 51 = .ok (.iconst 0, 1)) ∧ (decode cX4_steppedOn 52 = .ok (.istore 9, 2)) ∧ (decode cX4_steppedOn 54 = .ok (.iconst 0, 1)) ∧ (decode cX4_steppedOn 55 = .ok (.istore 10, 2)) ∧ (decode cX4_steppedOn 57 = .ok (.iconst 0, 1)) ∧ (decode cX4_steppedOn 58 = .ok (.istore 11, 2)) ∧ (decode cX4_steppedOn 60 = .ok (.iconst 0, 1)) ∧ (decode cX4_steppedOn 61 = .ok (.istore 12, 2)) ∧ (decode cX4_steppedOn 63 = .ok (.iload 8, 2)) ∧ (decode cX4_steppedOn 65 = .ok (.iload_n 1, 1)) ∧ (decode cX4_steppedOn 66 = .ok (.iadd, 1)) ∧ (decode cX4_steppedOn 67 = .ok (.istore 13, 2)) ∧ (decode cX4_steppedOn 69 = .ok (.iload 13, 2)) ∧ (decode cX4_steppedOn 71 = .ok (.aload_n 0, 1)) ∧ (decode cX4_steppedOn 72 = .ok (.getfield 15, 3)) := by decide +kernel
theorem dX4_steppedOn_48 : decode cX4_steppedOn 48 = .ok (.ifCond .gt 167, 3) := bdX4_steppedOn_48.1
theorem dX4_steppedOn_51 : decode cX4_steppedOn 51 = .ok (.iconst 0, 1) := bdX4_steppedOn_48.2.1
theorem dX4_steppedOn_52 : decode cX4_steppedOn 52 = .ok (.istore 9, 2) := bdX4_steppedOn_48.2.2.1
theorem dX4_steppedOn_54 : decode cX4_steppedOn 54 = .ok (.iconst 0, 1) := bdX4_steppedOn_48.2.2.2.1
theorem dX4_steppedOn_55 : decode cX4_steppedOn 55 = .ok (.istore 10, 2) := bdX4_steppedOn_48.2.2.2.2.1
theorem dX4_steppedOn_57 : decode cX4_steppedOn 57 = .ok (.iconst 0, 1) := bdX4_steppedOn_48.2.2.2.2.2.1
theorem dX4_steppedOn_58 : decode cX4_steppedOn 58 = .ok (.istore 11, 2) := bdX4_steppedOn_48.2.2.2.2.2.2.1
theorem dX4_steppedOn_60 : decode cX4_steppedOn 60 = .ok (.iconst 0, 1) := bdX4_steppedOn_48.2.2.2.2.2.2.2.1
theorem dX4_steppedOn_61 : decode cX4_steppedOn 61 = .ok (.istore 12, 2) := bdX4_steppedOn_48.2.2.2.2.2.2.2.2.1
theorem dX4_steppedOn_63 : decode cX4_steppedOn 63 = .ok (.iload 8, 2) := bdX4_steppedOn_48.2.2.2.2.2.2.2.2.2.1
theorem dX4_steppedOn_65 : decode cX4_steppedOn 65 = .ok (.iload_n 1, 1) := bdX4_steppedOn_48.2.2.2.2.2.2.2.2.2.2.1
theorem dX4_steppedOn_66 : decode cX4_steppedOn 66 = .ok (.iadd, 1) := bdX4_steppedOn_48.2.2.2.2.2.2.2.2.2.2.2.1
theorem dX4_steppedOn_67 : decode cX4_steppedOn 67 = .ok (.istore 13, 2) := bdX4_steppedOn_48.2.2.2.2.2.2.2.2.2.2.2.2.1
theorem dX4_steppedOn_69 : decode cX4_steppedOn 69 = .ok (.iload 13, 2) := bdX4_steppedOn_48.2.2.2.2.2.2.2.2.2.2.2.2.2.1
theorem dX4_steppedOn_71 : decode cX4_steppedOn 71 = .ok (.aload_n 0, 1) := bdX4_steppedOn_48.2.2.2.2.2.2.2.2.2.2.2.2.2.2.1
theorem dX4_steppedOn_72 : decode cX4_steppedOn 72 = .ok (.getfield 15, 3) := bdX4_steppedOn_48.2.2.2.2.2.2.2.2.2.2.2.2.2.2.2
theorem bdX4_steppedOn_75 : (decode cX4_steppedOn 75 = .ok (.if_icmp .ge 78, 3)) ∧ (decode cX4_steppedOn 78 = .ok (.iload 13, 2)) ∧ (decode cX4_steppedOn 80 = .ok (.bipush 60, 2)) ∧ (decode cX4_steppedOn 82 = .ok (.if_icmp .ge 71, 3)) ∧ (decode cX4_steppedOn 85 = .ok (.iload 9, 2)) ∧ (decode cX4_steppedOn 87 = .ok (.iload 13, 2)) ∧ (decode cX4_steppedOn 89 = .ok (.ifCond .le 23, 3)) ∧ (decode cX4_steppedOn 92 = .ok (.aload_n 0, 1)) ∧ (decode cX4_steppedOn 93 = .ok (.getfield 11, 3)) ∧ (decode cX4_steppedOn 96 = .ok (.iload 13, 2)) ∧ (decode cX4_steppedOn 98 = .ok (.iaload, 1)) ∧ (decode cX4_steppedOn 99 = .ok (.aload_n 0, 1)) ∧ (decode cX4_steppedOn 100 = .ok (.getfield 11, 3)) ∧ (decode cX4_steppedOn 103 = .ok (.iload 13, 2)) ∧ (decode cX4_steppedOn 105 = .ok (.iconst 1, 1)) ∧ (decode cX4_steppedOn 106 = .ok (.isub, 1)) := by decide +kernel
theorem dX4_steppedOn_75 : decode cX4_steppedOn 75 = .ok (.if_icmp .ge 78, 3) := bdX4_steppedOn_75.1
theorem dX4_steppedOn_78 : decode cX4_steppedOn 78 = .ok (.iload 13, 2) := bdX4_steppedOn_75.2.1
theorem dX4_steppedOn_80 : decode cX4_steppedOn 80 = .ok (.bipush 60, 2) := bdX4_steppedOn_75.2.2.1
theorem dX4_steppedOn_82 : decode cX4_steppedOn 82 = .ok (.if_icmp .ge 71, 3) := bdX4_steppedOn_75.2.2.2.1
theorem dX4_steppedOn_85 : decode cX4_steppedOn 85 = .ok (.iload 9, 2) := bdX4_steppedOn_75.2.2.2.2.1
theorem dX4_steppedOn_87 : decode cX4_steppedOn 87 = .ok (.iload 13, 2) := bdX4_steppedOn_75.2.2.2.2.2.1
theorem dX4_steppedOn_89 : decode cX4_steppedOn 89 = .ok (.ifCond .le 23, 3) := bdX4_steppedOn_75.2.2.2.2.2.2.1
theorem dX4_steppedOn_92 : decode cX4_steppedOn 92 = .ok (.aload_n 0, 1) := bdX4_steppedOn_75.2.2.2.2.2.2.2.1
theorem dX4_steppedOn_93 : decode cX4_steppedOn 93 = .ok (.getfield 11, 3) := bdX4_steppedOn_75.2.2.2.2.2.2.2.2.1
theorem dX4_steppedOn_96 : decode cX4_steppedOn 96 = .ok (.iload 13, 2) := bdX4_steppedOn_75.2.2.2.2.2.2.2.2.2.1
theorem dX4_steppedOn_98 : decode cX4_steppedOn 98 = .ok (.iaload, 1) := bdX4_steppedOn_75.2.2.2.2.2.2.2.2.2.2.1
theorem dX4_steppedOn_99 : decode cX4_steppedOn 99 = .ok (.aload_n 0, 1) := bdX4_steppedOn_75.2.2.2.2.2.2.2.2.2.2.2.1
theorem dX4_steppedOn_100 : decode cX4_steppedOn 100 = .ok (.getfield 11, 3) := bdX4_steppedOn_75.2.2.2.2.2.2.2.2.2.2.2.2.1
theorem dX4_steppedOn_103 : decode cX4_steppedOn 103 = .ok (.iload 13, 2) := bdX4_steppedOn_75.2.2.2.2.2.2.2.2.2.2.2.2.2.1
theorem dX4_steppedOn_105 : decode cX4_steppedOn 105 = .ok (.iconst 1, 1) := bdX4_steppedOn_75.2.2.2.2.2.2.2.2.2.2.2.2.2.2.1
theorem dX4_steppedOn_106 : decode cX4_steppedOn 106 = .ok (.isub, 1) := bdX4_steppedOn_75.2.2.2.2.2.2.2.2.2.2.2.2.2.2.2
theorem bdX4_steppedOn_107 : (decode cX4_steppedOn 107 = .ok (.iaload, 1)) ∧ (decode cX4_steppedOn 108 = .ok (.isub, 1)) ∧ (decode cX4_steppedOn 109 = .ok (.goto 4, 3)) ∧ (decode cX4_steppedOn 112 = .ok (.iconst 0, 1)) ∧ (decode cX4_steppedOn 113 = .ok (.iadd, 1)) ∧ (decode cX4_steppedOn 114 = .ok (.istore 9, 2)) ∧ (decode cX4_steppedOn 116 = .ok (.iload 10, 2)) ∧ (decode cX4_steppedOn 118 = .ok (.iload 9, 2)) ∧ (decode cX4_steppedOn 120 = .ok (.invokestatic 25, 3)) ∧ (decode cX4_steppedOn 123 = .ok (.istore 10, 2)) ∧ (decode cX4_steppedOn 125 = .ok (.iload 11, 2)) ∧ (decode cX4_steppedOn 127 = .ok (.iload 9, 2)) ∧ (decode cX4_steppedOn 129 = .ok (.invokestatic 31, 3)) ∧ (decode cX4_steppedOn 132 = .ok (.istore 11, 2)) ∧ (decode cX4_steppedOn 134 = .ok (.iload 7, 2)) ∧ (decode cX4_steppedOn 136 = .ok (.iload 9, 2)) := by decide +kernel
theorem dX4_steppedOn_107 : decode cX4_steppedOn 107 = .ok (.iaload, 1) := bdX4_steppedOn_107.1
theorem dX4_steppedOn_108 : decode cX4_steppedOn 108 = .ok (.isub, 1) := bdX4_steppedOn_107.2.1
theorem dX4_steppedOn_109 : decode cX4_steppedOn 109 = .ok (.goto 4, 3) := bdX4_steppedOn_107.2.2.1
theorem dX4_steppedOn_112 : decode cX4_steppedOn 112 = .ok (.iconst 0, 1) := bdX4_steppedOn_107.2.2.2.1
theorem dX4_steppedOn_113 : decode cX4_steppedOn 113 = .ok (.iadd, 1) := bdX4_steppedOn_107.2.2.2.2.1
theorem dX4_steppedOn_114 : decode cX4_steppedOn 114 = .ok (.istore 9, 2) := bdX4_steppedOn_107.2.2.2.2.2.1
theorem dX4_steppedOn_116 : decode cX4_steppedOn 116 = .ok (.iload 10, 2) := bdX4_steppedOn_107.2.2.2.2.2.2.1
theorem dX4_steppedOn_118 : decode cX4_steppedOn 118 = .ok (.iload 9, 2) := bdX4_steppedOn_107.2.2.2.2.2.2.2.1
theorem dX4_steppedOn_120 : decode cX4_steppedOn 120 = .ok (.invokestatic 25, 3) := bdX4_steppedOn_107.2.2.2.2.2.2.2.2.1
theorem dX4_steppedOn_123 : decode cX4_steppedOn 123 = .ok (.istore 10, 2) := bdX4_steppedOn_107.2.2.2.2.2.2.2.2.2.1
theorem dX4_steppedOn_125 : decode cX4_steppedOn 125 = .ok (.iload 11, 2) := bdX4_steppedOn_107.2.2.2.2.2.2.2.2.2.2.1
theorem dX4_steppedOn_127 : decode cX4_steppedOn 127 = .ok (.iload 9, 2) := bdX4_steppedOn_107.2.2.2.2.2.2.2.2.2.2.2.1
theorem dX4_steppedOn_129 : decode cX4_steppedOn 129 = .ok (.invokestatic 31, 3) := bdX4_steppedOn_107.2.2.2.2.2.2.2.2.2.2.2.2.1
theorem dX4_steppedOn_132 : decode cX4_steppedOn 132 = .ok (.istore 11, 2) := bdX4_steppedOn_107.2.2.2.2.2.2.2.2.2.2.2.2.2.1
theorem dX4_steppedOn_134 : decode cX4_steppedOn 134 = .ok (.iload 7, 2) := bdX4_steppedOn_107.2.2.2.2.2.2.2.2.2.2.2.2.2.2.1
theorem dX4_steppedOn_136 : decode cX4_steppedOn 136 = .ok (.iload 9, 2) := bdX4_steppedOn_107.2.2.2.2.2.2.2.2.2.2.2.2.2.2.2
theorem bdX4_steppedOn_138 : (decode cX4_steppedOn 138 = .ok (.iadd, 1)) ∧ (decode cX4_steppedOn 139 = .ok (.istore 7, 2)) ∧ (decode cX4_steppedOn 141 = .ok (.iinc 12 1, 3)) ∧ (decode cX4_steppedOn 144 = .ok (.iload 13, 2)) ∧ (decode cX4_steppedOn 146 = .ok (.iload_n 1, 1)) ∧ (decode cX4_steppedOn 147 = .ok (.iadd, 1)) ∧ (decode cX4_steppedOn 148 = .ok (.istore 13, 2)) ∧ (decode cX4_steppedOn 150 = .ok (.goto (-81), 3)) ∧ (decode cX4_steppedOn 153 = .ok (.iconst 2, 1)) ∧ (decode cX4_steppedOn 154 = .ok (.iload 11, 2)) ∧ (decode cX4_steppedOn 156 = .ok (.isub, 1)) ∧ (decode cX4_steppedOn 157 = .ok (.iload 10, 2)) ∧ (decode cX4_steppedOn 159 = .ok (.iadd, 1)) ∧ (decode cX4_steppedOn 160 = .ok (.istore 13, 2)) ∧ (decode cX4_steppedOn 162 = .ok (.iload 13, 2)) ∧ (decode cX4_steppedOn 164 = .ok (.ifCond .ge 5, 3)) := by decide +kernel
theorem dX4_steppedOn_138 : decode cX4_steppedOn 138 = .ok (.iadd, 1) := bdX4_steppedOn_138.1
theorem dX4_steppedOn_139 : decode cX4_steppedOn 139 = .ok (.istore 7, 2) := bdX4_steppedOn_138.2.1
theorem dX4_steppedOn_141 : decode cX4_steppedOn 141 = .ok (.iinc 12 1, 3) := bdX4_steppedOn_138.2.2.1
theorem dX4_steppedOn_144 : decode cX4_steppedOn 144 = .ok (.iload 13, 2) := bdX4_steppedOn_138.2.2.2.1
theorem dX4_steppedOn_146 : decode cX4_steppedOn 146 = .ok (.iload_n 1, 1) := bdX4_steppedOn_138.2.2.2.2.1
theorem dX4_steppedOn_147 : decode cX4_steppedOn 147 = .ok (.iadd, 1) := bdX4_steppedOn_138.2.2.2.2.2.1
theorem dX4_steppedOn_148 : decode cX4_steppedOn 148 = .ok (.istore 13, 2) := bdX4_steppedOn_138.2.2.2.2.2.2.1
theorem dX4_steppedOn_150 : decode cX4_steppedOn 150 = .ok (.goto (-81), 3) := bdX4_steppedOn_138.2.2.2.2.2.2.2.1
theorem dX4_steppedOn_153 : decode cX4_steppedOn 153 = .ok (.iconst 2, 1) := bdX4_steppedOn_138.2.2.2.2.2.2.2.2.1
theorem dX4_steppedOn_154 : decode cX4_steppedOn 154 = .ok (.iload 11, 2) := bdX4_steppedOn_138.2.2.2.2.2.2.2.2.2.1
theorem dX4_steppedOn_156 : decode cX4_steppedOn 156 = .ok (.isub, 1) := bdX4_steppedOn_138.2.2.2.2.2.2.2.2.2.2.1
theorem dX4_steppedOn_157 : decode cX4_steppedOn 157 = .ok (.iload 10, 2) := bdX4_steppedOn_138.2.2.2.2.2.2.2.2.2.2.2.1
theorem dX4_steppedOn_159 : decode cX4_steppedOn 159 = .ok (.iadd, 1) := bdX4_steppedOn_138.2.2.2.2.2.2.2.2.2.2.2.2.1
theorem dX4_steppedOn_160 : decode cX4_steppedOn 160 = .ok (.istore 13, 2) := bdX4_steppedOn_138.2.2.2.2.2.2.2.2.2.2.2.2.2.1
theorem dX4_steppedOn_162 : decode cX4_steppedOn 162 = .ok (.iload 13, 2) := bdX4_steppedOn_138.2.2.2.2.2.2.2.2.2.2.2.2.2.2.1
theorem dX4_steppedOn_164 : decode cX4_steppedOn 164 = .ok (.ifCond .ge 5, 3) := bdX4_steppedOn_138.2.2.2.2.2.2.2.2.2.2.2.2.2.2.2
theorem bdX4_steppedOn_167 : (decode cX4_steppedOn 167 = .ok (.iconst (-1), 1)) ∧ (decode cX4_steppedOn 168 = .ok (.ireturn, 1)) ∧ (decode cX4_steppedOn 169 = .ok (.iload 4, 2)) ∧ (decode cX4_steppedOn 171 = .ok (.iload 10, 2)) ∧ (decode cX4_steppedOn 173 = .ok (.iadd, 1)) ∧ (decode cX4_steppedOn 174 = .ok (.istore 4, 2)) ∧ (decode cX4_steppedOn 176 = .ok (.iload 7, 2)) ∧ (decode cX4_steppedOn 178 = .ok (.iload 10, 2)) ∧ (decode cX4_steppedOn 180 = .ok (.iload 12, 2)) ∧ (decode cX4_steppedOn 182 = .ok (.imul, 1)) ∧ (decode cX4_steppedOn 183 = .ok (.isub, 1)) ∧ (decode cX4_steppedOn 184 = .ok (.istore 7, 2)) ∧ (decode cX4_steppedOn 186 = .ok (.iload 12, 2)) ∧ (decode cX4_steppedOn 188 = .ok (.iload_n 3, 1)) ∧ (decode cX4_steppedOn 189 = .ok (.if_icmp .le 13, 3)) ∧ (decode cX4_steppedOn 192 = .ok (.iload 5, 2)) := by decide +kernel
theorem dX4_steppedOn_167 : decode cX4_steppedOn 167 = .ok (.iconst (-1), 1) := bdX4_steppedOn_167.1
theorem dX4_steppedOn_168 : decode cX4_steppedOn 168 = .ok (.ireturn, 1) := bdX4_steppedOn_167.2.1
theorem dX4_steppedOn_169 : decode cX4_steppedOn 169 = .ok (.iload 4, 2) := bdX4_steppedOn_167.2.2.1
theorem dX4_steppedOn_171 : decode cX4_steppedOn 171 = .ok (.iload 10, 2) := bdX4_steppedOn_167.2.2.2.1
theorem dX4_steppedOn_173 : decode cX4_steppedOn 173 = .ok (.iadd, 1) := bdX4_steppedOn_167.2.2.2.2.1
theorem dX4_steppedOn_174 : decode cX4_steppedOn 174 = .ok (.istore 4, 2) := bdX4_steppedOn_167.2.2.2.2.2.1
theorem dX4_steppedOn_176 : decode cX4_steppedOn 176 = .ok (.iload 7, 2) := bdX4_steppedOn_167.2.2.2.2.2.2.1
theorem dX4_steppedOn_178 : decode cX4_steppedOn 178 = .ok (.iload 10, 2) := bdX4_steppedOn_167.2.2.2.2.2.2.2.1
theorem dX4_steppedOn_180 : decode cX4_steppedOn 180 = .ok (.iload 12, 2) := bdX4_steppedOn_167.2.2.2.2.2.2.2.2.1
theorem dX4_steppedOn_182 : decode cX4_steppedOn 182 = .ok (.imul, 1) := bdX4_steppedOn_167.2.2.2.2.2.2.2.2.2.1
theorem dX4_steppedOn_183 : decode cX4_steppedOn 183 = .ok (.isub, 1) := bdX4_steppedOn_167.2.2.2.2.2.2.2.2.2.2.1
theorem dX4_steppedOn_184 : decode cX4_steppedOn 184 = .ok (.istore 7, 2) := bdX4_steppedOn_167.2.2.2.2.2.2.2.2.2.2.2.1
theorem dX4_steppedOn_186 : decode cX4_steppedOn 186 = .ok (.iload 12, 2) := bdX4_steppedOn_167.2.2.2.2.2.2.2.2.2.2.2.2.1
theorem dX4_steppedOn_188 : decode cX4_steppedOn 188 = .ok (.iload_n 3, 1) := bdX4_steppedOn_167.2.2.2.2.2.2.2.2.2.2.2.2.2.1
theorem dX4_steppedOn_189 : decode cX4_steppedOn 189 = .ok (.if_icmp .le 13, 3) := bdX4_steppedOn_167.2.2.2.2.2.2.2.2.2.2.2.2.2.2.1
theorem dX4_steppedOn_192 : decode cX4_steppedOn 192 = .ok (.iload 5, 2) := bdX4_steppedOn_167.2.2.2.2.2.2.2.2.2.2.2.2.2.2.2
theorem bdX4_steppedOn_194 : (decode cX4_steppedOn 194 = .ok (.iload 13, 2)) ∧ (decode cX4_steppedOn 196 = .ok (.iadd, 1)) ∧ (decode cX4_steppedOn 197 = .ok (.istore 5, 2)) ∧ (decode cX4_steppedOn 199 = .ok (.goto 10, 3)) ∧ (decode cX4_steppedOn 202 = .ok (.iload 6, 2)) ∧ (decode cX4_steppedOn 204 = .ok (.iload 13, 2)) ∧ (decode cX4_steppedOn 206 = .ok (.iadd, 1)) ∧ (decode cX4_steppedOn 207 = .ok (.istore 6, 2)) ∧ (decode cX4_steppedOn 209 = .ok (.iinc 8 1, 3)) ∧ (decode cX4_steppedOn 212 = .ok (.goto (-166), 3)) ∧ (decode cX4_steppedOn 215 = .ok (.iload 4, 2)) ∧ (decode cX4_steppedOn 217 = .ok (.ifCond .lt 13, 3)) ∧ (decode cX4_steppedOn 220 = .ok (.iload 4, 2)) ∧ (decode cX4_steppedOn 222 = .ok (.iload 5, 2)) ∧ (decode cX4_steppedOn 224 = .ok (.iload 6, 2)) ∧ (decode cX4_steppedOn 226 = .ok (.iadd, 1)) := by decide +kernel
theorem dX4_steppedOn_194 : decode cX4_steppedOn 194 = .ok (.iload 13, 2) := bdX4_steppedOn_194.1
theorem dX4_steppedOn_196 : decode cX4_steppedOn 196 = .ok (.iadd, 1) := bdX4_steppedOn_194.2.1
theorem dX4_steppedOn_197 : decode cX4_steppedOn 197 = .ok (.istore 5, 2) := bdX4_steppedOn_194.2.2.1
theorem dX4_steppedOn_199 : decode cX4_steppedOn 199 = .ok (.goto 10, 3) := bdX4_steppedOn_194.2.2.2.1
theorem dX4_steppedOn_202 : decode cX4_steppedOn 202 = .ok (.iload 6, 2) := bdX4_steppedOn_194.2.2.2.2.1
theorem dX4_steppedOn_204 : decode cX4_steppedOn 204 = .ok (.iload 13, 2) := bdX4_steppedOn_194.2.2.2.2.2.1
theorem dX4_steppedOn_206 : decode cX4_steppedOn 206 = .ok (.iadd, 1) := bdX4_steppedOn_194.2.2.2.2.2.2.1
theorem dX4_steppedOn_207 : decode cX4_steppedOn 207 = .ok (.istore 6, 2) := bdX4_steppedOn_194.2.2.2.2.2.2.2.1
theorem dX4_steppedOn_209 : decode cX4_steppedOn 209 = .ok (.iinc 8 1, 3) := bdX4_steppedOn_194.2.2.2.2.2.2.2.2.1
theorem dX4_steppedOn_212 : decode cX4_steppedOn 212 = .ok (.goto (-166), 3) := bdX4_steppedOn_194.2.2.2.2.2.2.2.2.2.1
theorem dX4_steppedOn_215 : decode cX4_steppedOn 215 = .ok (.iload 4, 2) := bdX4_steppedOn_194.2.2.2.2.2.2.2.2.2.2.1
theorem dX4_steppedOn_217 : decode cX4_steppedOn 217 = .ok (.ifCond .lt 13, 3) := bdX4_steppedOn_194.2.2.2.2.2.2.2.2.2.2.2.1
theorem dX4_steppedOn_220 : decode cX4_steppedOn 220 = .ok (.iload 4, 2) := bdX4_steppedOn_194.2.2.2.2.2.2.2.2.2.2.2.2.1
theorem dX4_steppedOn_222 : decode cX4_steppedOn 222 = .ok (.iload 5, 2) := bdX4_steppedOn_194.2.2.2.2.2.2.2.2.2.2.2.2.2.1
theorem dX4_steppedOn_224 : decode cX4_steppedOn 224 = .ok (.iload 6, 2) := bdX4_steppedOn_194.2.2.2.2.2.2.2.2.2.2.2.2.2.2.1
theorem dX4_steppedOn_226 : decode cX4_steppedOn 226 = .ok (.iadd, 1) := bdX4_steppedOn_194.2.2.2.2.2.2.2.2.2.2.2.2.2.2.2
theorem bdX4_steppedOn_227 : (decode cX4_steppedOn 227 = .ok (.if_icmp .le 5, 3)) ∧ (decode cX4_steppedOn 230 = .ok (.iconst (-1), 1)) ∧ (decode cX4_steppedOn 231 = .ok (.ireturn, 1)) ∧ (decode cX4_steppedOn 232 = .ok (.iload_n 2, 1)) ∧ (decode cX4_steppedOn 233 = .ok (.ifCond .eq 13, 3)) ∧ (decode cX4_steppedOn 236 = .ok (.iload 4, 2)) ∧ (decode cX4_steppedOn 238 = .ok (.iload 5, 2)) ∧ (decode cX4_steppedOn 240 = .ok (.invokestatic 25, 3)) ∧ (decode cX4_steppedOn 243 = .ok (.goto 12, 3)) ∧ (decode cX4_steppedOn 246 = .ok (.iconst 0, 1)) ∧ (decode cX4_steppedOn 247 = .ok (.iload 4, 2)) ∧ (decode cX4_steppedOn 249 = .ok (.iload 6, 2)) ∧ (decode cX4_steppedOn 251 = .ok (.isub, 1)) ∧ (decode cX4_steppedOn 252 = .ok (.invokestatic 31, 3)) ∧ (decode cX4_steppedOn 255 = .ok (.istore 8, 2)) ∧ (decode cX4_steppedOn 257 = .ok (.iload 7, 2)) := by decide +kernel
theorem dX4_steppedOn_227 : decode cX4_steppedOn 227 = .ok (.if_icmp .le 5, 3) := bdX4_steppedOn_227.1
theorem dX4_steppedOn_230 : decode cX4_steppedOn 230 = .ok (.iconst (-1), 1) := bdX4_steppedOn_227.2.1
theorem dX4_steppedOn_231 : decode cX4_steppedOn 231 = .ok (.ireturn, 1) := bdX4_steppedOn_227.2.2.1
theorem dX4_steppedOn_232 : decode cX4_steppedOn 232 = .ok (.iload_n 2, 1) := bdX4_steppedOn_227.2.2.2.1
theorem dX4_steppedOn_233 : decode cX4_steppedOn 233 = .ok (.ifCond .eq 13, 3) := bdX4_steppedOn_227.2.2.2.2.1
theorem dX4_steppedOn_236 : decode cX4_steppedOn 236 = .ok (.iload 4, 2) := bdX4_steppedOn_227.2.2.2.2.2.1
theorem dX4_steppedOn_238 : decode cX4_steppedOn 238 = .ok (.iload 5, 2) := bdX4_steppedOn_227.2.2.2.2.2.2.1
theorem dX4_steppedOn_240 : decode cX4_steppedOn 240 = .ok (.invokestatic 25, 3) := bdX4_steppedOn_227.2.2.2.2.2.2.2.1
theorem dX4_steppedOn_243 : decode cX4_steppedOn 243 = .ok (.goto 12, 3) := bdX4_steppedOn_227.2.2.2.2.2.2.2.2.1
theorem dX4_steppedOn_246 : decode cX4_steppedOn 246 = .ok (.iconst 0, 1) := bdX4_steppedOn_227.2.2.2.2.2.2.2.2.2.1
theorem dX4_steppedOn_247 : decode cX4_steppedOn 247 = .ok (.iload 4, 2) := bdX4_steppedOn_227.2.2.2.2.2.2.2.2.2.2.1
theorem dX4_steppedOn_249 : decode cX4_steppedOn 249 = .ok (.iload 6, 2) := bdX4_steppedOn_227.2.2.2.2.2.2.2.2.2.2.2.1
theorem dX4_steppedOn_251 : decode cX4_steppedOn 251 = .ok (.isub, 1) := bdX4_steppedOn_227.2.2.2.2.2.2.2.2.2.2.2.2.1
theorem dX4_steppedOn_252 : decode cX4_steppedOn 252 = .ok (.invokestatic 31, 3) := bdX4_steppedOn_227.2.2.2.2.2.2.2.2.2.2.2.2.2.1
theorem dX4_steppedOn_255 : decode cX4_steppedOn 255 = .ok (.istore 8, 2) := bdX4_steppedOn_227.2.2.2.2.2.2.2.2.2.2.2.2.2.2.1
theorem dX4_steppedOn_257 : decode cX4_steppedOn 257 = .ok (.iload 7, 2) := bdX4_steppedOn_227.2.2.2.2.2.2.2.2.2.2.2.2.2.2.2
theorem bdX4_steppedOn_259 : (decode cX4_steppedOn 259 = .ok (.iload 4, 2)) ∧ (decode cX4_steppedOn 261 = .ok (.iload_n 3, 1)) ∧ (decode cX4_steppedOn 262 = .ok (.imul, 1)) ∧ (decode cX4_steppedOn 263 = .ok (.iadd, 1)) ∧ (decode cX4_steppedOn 264 = .ok (.iload 8, 2)) ∧ (decode cX4_steppedOn 266 = .ok (.iadd, 1)) ∧ (decode cX4_steppedOn 267 = .ok (.ireturn, 1)) := by decide +kernel
theorem dX4_steppedOn_259 : decode cX4_steppedOn 259 = .ok (.iload 4, 2) := bdX4_steppedOn_259.1
theorem dX4_steppedOn_261 : decode cX4_steppedOn 261 = .ok (.iload_n 3, 1) := bdX4_steppedOn_259.2.1
theorem dX4_steppedOn_262 : decode cX4_steppedOn 262 = .ok (.imul, 1) := bdX4_steppedOn_259.2.2.1
theorem dX4_steppedOn_263 : decode cX4_steppedOn 263 = .ok (.iadd, 1) := bdX4_steppedOn_259.2.2.2.1
theorem dX4_steppedOn_264 : decode cX4_steppedOn 264 = .ok (.iload 8, 2) := bdX4_steppedOn_259.2.2.2.2.1
theorem dX4_steppedOn_266 : decode cX4_steppedOn 266 = .ok (.iadd, 1) := bdX4_steppedOn_259.2.2.2.2.2.1
theorem dX4_steppedOn_267 : decode cX4_steppedOn 267 = .ok (.ireturn, 1) := bdX4_steppedOn_259.2.2.2.2.2.2
theorem bdX11_taken_0 : (decode cX11_taken 0 = .ok (.iload_n 1, 1)) ∧ (decode cX11_taken 1 = .ok (.iconst 2, 1)) ∧ (decode cX11_taken 2 = .ok (.bipush 40, 2)) ∧ (decode cX11_taken 4 = .ok (.invokestatic 47, 3)) ∧ (decode cX11_taken 7 = .ok (.ifCond .eq 18, 3)) ∧ (decode cX11_taken 10 = .ok (.aload_n 0, 1)) ∧ (decode cX11_taken 11 = .ok (.getfield 10, 3)) ∧ (decode cX11_taken 14 = .ok (.getfield 301, 3)) ∧ (decode cX11_taken 17 = .ok (.iload_n 1, 1)) ∧ (decode cX11_taken 18 = .ok (.iload_n 2, 1)) ∧ (decode cX11_taken 19 = .ok (.invokevirtual 310, 3)) ∧ (decode cX11_taken 22 = .ok (.goto 4, 3)) ∧ (decode cX11_taken 25 = .ok (.iconst (-1), 1)) ∧ (decode cX11_taken 26 = .ok (.ireturn, 1)) := by decide +kernel
theorem dX11_taken_0 : decode cX11_taken 0 = .ok (.iload_n 1, 1) := bdX11_taken_0.1
theorem dX11_taken_1 : decode cX11_taken 1 = .ok (.iconst 2, 1) := bdX11_taken_0.2.1
theorem dX11_taken_2 : decode cX11_taken 2 = .ok (.bipush 40, 2) := bdX11_taken_0.2.2.1
theorem dX11_taken_4 : decode cX11_taken 4 = .ok (.invokestatic 47, 3) := bdX11_taken_0.2.2.2.1
theorem dX11_taken_7 : decode cX11_taken 7 = .ok (.ifCond .eq 18, 3) := bdX11_taken_0.2.2.2.2.1
theorem dX11_taken_10 : decode cX11_taken 10 = .ok (.aload_n 0, 1) := bdX11_taken_0.2.2.2.2.2.1
theorem dX11_taken_11 : decode cX11_taken 11 = .ok (.getfield 10, 3) := bdX11_taken_0.2.2.2.2.2.2.1
theorem dX11_taken_14 : decode cX11_taken 14 = .ok (.getfield 301, 3) := bdX11_taken_0.2.2.2.2.2.2.2.1
theorem dX11_taken_17 : decode cX11_taken 17 = .ok (.iload_n 1, 1) := bdX11_taken_0.2.2.2.2.2.2.2.2.1
theorem dX11_taken_18 : decode cX11_taken 18 = .ok (.iload_n 2, 1) := bdX11_taken_0.2.2.2.2.2.2.2.2.2.1
theorem dX11_taken_19 : decode cX11_taken 19 = .ok (.invokevirtual 310, 3) := bdX11_taken_0.2.2.2.2.2.2.2.2.2.2.1
theorem dX11_taken_22 : decode cX11_taken 22 = .ok (.goto 4, 3) := bdX11_taken_0.2.2.2.2.2.2.2.2.2.2.2.1
theorem dX11_taken_25 : decode cX11_taken 25 = .ok (.iconst (-1), 1) := bdX11_taken_0.2.2.2.2.2.2.2.2.2.2.2.2.1
theorem dX11_taken_26 : decode cX11_taken 26 = .ok (.ireturn, 1) := bdX11_taken_0.2.2.2.2.2.2.2.2.2.2.2.2.2
theorem bdX12_chain_0 : (decode cX12_chain 0 = .ok (.iload_n 3, 1)) ∧ (decode cX12_chain 1 = .ok (.istore 4, 2)) ∧ (decode cX12_chain 3 = .ok (.iconst 0, 1)) ∧ (decode cX12_chain 4 = .ok (.istore 5, 2)) ∧ (decode cX12_chain 6 = .ok (.iload_n 2, 1)) ∧ (decode cX12_chain 7 = .ok (.istore 6, 2)) ∧ (decode cX12_chain 9 = .ok (.iload 6, 2)) ∧ (decode cX12_chain 11 = .ok (.aload_n 0, 1)) ∧ (decode cX12_chain 12 = .ok (.getfield 7, 3)) ∧ (decode cX12_chain 15 = .ok (.bipush 8, 2)) ∧ (decode cX12_chain 17 = .ok (.iaload, 1)) ∧ (decode cX12_chain 18 = .ok (.if_icmp .ge 61, 3)) ∧ (decode cX12_chain 21 = .ok (.iload 4, 2)) ∧ (decode cX12_chain 23 = .ok (.aload_n 0, 1)) ∧ (decode cX12_chain 24 = .ok (.getfield 7, 3)) ∧ (decode cX12_chain 27 = .ok (.sipush 1550, 3)) := by decide +kernel
theorem dX12_chain_0 : decode cX12_chain 0 = .ok (.iload_n 3, 1) := bdX12_chain_0.1
theorem dX12_chain_1 : decode cX12_chain 1 = .ok (.istore 4, 2) := bdX12_chain_0.2.1
theorem dX12_chain_3 : decode cX12_chain 3 = .ok (.iconst 0, 1) := bdX12_chain_0.2.2.1
theorem dX12_chain_4 : decode cX12_chain 4 = .ok (.istore 5, 2) := bdX12_chain_0.2.2.2.1
theorem dX12_chain_6 : decode cX12_chain 6 = .ok (.iload_n 2, 1) := bdX12_chain_0.2.2.2.2.1
theorem dX12_chain_7 : decode cX12_chain 7 = .ok (.istore 6, 2) := bdX12_chain_0.2.2.2.2.2.1
theorem dX12_chain_9 : decode cX12_chain 9 = .ok (.iload 6, 2) := bdX12_chain_0.2.2.2.2.2.2.1
theorem dX12_chain_11 : decode cX12_chain 11 = .ok (.aload_n 0, 1) := bdX12_chain_0.2.2.2.2.2.2.2.1
theorem dX12_chain_12 : decode cX12_chain 12 = .ok (.getfield 7, 3) := bdX12_chain_0.2.2.2.2.2.2.2.2.1
theorem dX12_chain_15 : decode cX12_chain 15 = .ok (.bipush 8, 2) := bdX12_chain_0.2.2.2.2.2.2.2.2.2.1
theorem dX12_chain_17 : decode cX12_chain 17 = .ok (.iaload, 1) := bdX12_chain_0.2.2.2.2.2.2.2.2.2.2.1
theorem dX12_chain_18 : decode cX12_chain 18 = .ok (.if_icmp .ge 61, 3) := bdX12_chain_0.2.2.2.2.2.2.2.2.2.2.2.1
theorem dX12_chain_21 : decode cX12_chain 21 = .ok (.iload 4, 2) := bdX12_chain_0.2.2.2.2.2.2.2.2.2.2.2.2.1
theorem dX12_chain_23 : decode cX12_chain 23 = .ok (.aload_n 0, 1) := bdX12_chain_0.2.2.2.2.2.2.2.2.2.2.2.2.2.1
theorem dX12_chain_24 : decode cX12_chain 24 = .ok (.getfield 7, 3) := bdX12_chain_0.2.2.2.2.2.2.2.2.2.2.2.2.2.2.1
theorem dX12_chain_27 : decode cX12_chain 27 = .ok (.sipush 1550, 3) := bdX12_chain_0.2.2.2.2.2.2.2.2.2.2.2.2.2.2.2
theorem bdX12_chain_30 : (decode cX12_chain 30 = .ok (.iload 6, 2)) ∧ (decode cX12_chain 32 = .ok (.iadd, 1)) ∧ (decode cX12_chain 33 = .ok (.iaload, 1)) ∧ (decode cX12_chain 34 = .ok (.aload_n 0, 1)) ∧ (decode cX12_chain 35 = .ok (.getfield 7, 3)) ∧ (decode cX12_chain 38 = .ok (.sipush 1550, 3)) ∧ (decode cX12_chain 41 = .ok (.iload 6, 2)) ∧ (decode cX12_chain 43 = .ok (.iadd, 1)) ∧ (decode cX12_chain 44 = .ok (.iconst 1, 1)) ∧ (decode cX12_chain 45 = .ok (.isub, 1)) ∧ (decode cX12_chain 46 = .ok (.iaload, 1)) ∧ (decode cX12_chain 47 = .ok (.isub, 1)) ∧ (decode cX12_chain 48 = .ok (.iadd, 1)) ∧ (decode cX12_chain 49 = .ok (.istore 4, 2)) ∧ (decode cX12_chain 51 = .ok (.iload 4, 2)) ∧ (decode cX12_chain 53 = .ok (.iconst 0, 1)) := by decide +kernel
theorem dX12_chain_30 : decode cX12_chain 30 = .ok (.iload 6, 2) := bdX12_chain_30.1
theorem dX12_chain_32 : decode cX12_chain 32 = .ok (.iadd, 1) := bdX12_chain_30.2.1
theorem dX12_chain_33 : decode cX12_chain 33 = .ok (.iaload, 1) := bdX12_chain_30.2.2.1
theorem dX12_chain_34 : decode cX12_chain 34 = .ok (.aload_n 0, 1) := bdX12_chain_30.2.2.2.1
theorem dX12_chain_35 : decode cX12_chain 35 = .ok (.getfield 7, 3) := bdX12_chain_30.2.2.2.2.1
theorem dX12_chain_38 : decode cX12_chain 38 = .ok (.sipush 1550, 3) := bdX12_chain_30.2.2.2.2.2.1
theorem dX12_chain_41 : decode cX12_chain 41 = .ok (.iload 6, 2) := bdX12_chain_30.2.2.2.2.2.2.1
theorem dX12_chain_43 : decode cX12_chain 43 = .ok (.iadd, 1) := bdX12_chain_30.2.2.2.2.2.2.2.1
theorem dX12_chain_44 : decode cX12_chain 44 = .ok (.iconst 1, 1) := bdX12_chain_30.2.2.2.2.2.2.2.2.1
theorem dX12_chain_45 : decode cX12_chain 45 = .ok (.isub, 1) := bdX12_chain_30.2.2.2.2.2.2.2.2.2.1
theorem dX12_chain_46 : decode cX12_chain 46 = .ok (.iaload, 1) := bdX12_chain_30.2.2.2.2.2.2.2.2.2.2.1
theorem dX12_chain_47 : decode cX12_chain 47 = .ok (.isub, 1) := bdX12_chain_30.2.2.2.2.2.2.2.2.2.2.2.1
theorem dX12_chain_48 : decode cX12_chain 48 = .ok (.iadd, 1) := bdX12_chain_30.2.2.2.2.2.2.2.2.2.2.2.2.1
theorem dX12_chain_49 : decode cX12_chain 49 = .ok (.istore 4, 2) := bdX12_chain_30.2.2.2.2.2.2.2.2.2.2.2.2.2.1
theorem dX12_chain_51 : decode cX12_chain 51 = .ok (.iload 4, 2) := bdX12_chain_30.2.2.2.2.2.2.2.2.2.2.2.2.2.2.1
theorem dX12_chain_53 : decode cX12_chain 53 = .ok (.iconst 0, 1) := bdX12_chain_30.2.2.2.2.2.2.2.2.2.2.2.2.2.2.2
theorem bdX12_chain_54 : (decode cX12_chain 54 = .ok (.iconst 2, 1)) ∧ (decode cX12_chain 55 = .ok (.invokestatic 95, 3)) ∧ (decode cX12_chain 58 = .ok (.ifCond .ne 5, 3)) ∧ (decode cX12_chain 61 = .ok (.iconst (-1), 1)) ∧ (decode cX12_chain 62 = .ok (.ireturn, 1)) ∧ (decode cX12_chain 63 = .ok (.iload 5, 2)) ∧ (decode cX12_chain 65 = .ok (.iload 4, 2)) ∧ (decode cX12_chain 67 = .ok (.iadd, 1)) ∧ (decode cX12_chain 68 = .ok (.istore 5, 2)) ∧ (decode cX12_chain 70 = .ok (.iload 6, 2)) ∧ (decode cX12_chain 72 = .ok (.iload_n 1, 1)) ∧ (decode cX12_chain 73 = .ok (.iadd, 1)) ∧ (decode cX12_chain 74 = .ok (.istore 6, 2)) ∧ (decode cX12_chain 76 = .ok (.goto (-67), 3)) ∧ (decode cX12_chain 79 = .ok (.iload 5, 2)) ∧ (decode cX12_chain 81 = .ok (.ireturn, 1)) := by decide +kernel
theorem dX12_chain_54 : decode cX12_chain 54 = .ok (.iconst 2, 1) := bdX12_chain_54.1
theorem dX12_chain_55 : decode cX12_chain 55 = .ok (.invokestatic 95, 3) := bdX12_chain_54.2.1
theorem dX12_chain_58 : decode cX12_chain 58 = .ok (.ifCond .ne 5, 3) := bdX12_chain_54.2.2.1
theorem dX12_chain_61 : decode cX12_chain 61 = .ok (.iconst (-1), 1) := bdX12_chain_54.2.2.2.1
theorem dX12_chain_62 : decode cX12_chain 62 = .ok (.ireturn, 1) := bdX12_chain_54.2.2.2.2.1
theorem dX12_chain_63 : decode cX12_chain 63 = .ok (.iload 5, 2) := bdX12_chain_54.2.2.2.2.2.1
theorem dX12_chain_65 : decode cX12_chain 65 = .ok (.iload 4, 2) := bdX12_chain_54.2.2.2.2.2.2.1
theorem dX12_chain_67 : decode cX12_chain 67 = .ok (.iadd, 1) := bdX12_chain_54.2.2.2.2.2.2.2.1
theorem dX12_chain_68 : decode cX12_chain 68 = .ok (.istore 5, 2) := bdX12_chain_54.2.2.2.2.2.2.2.2.1
theorem dX12_chain_70 : decode cX12_chain 70 = .ok (.iload 6, 2) := bdX12_chain_54.2.2.2.2.2.2.2.2.2.1
theorem dX12_chain_72 : decode cX12_chain 72 = .ok (.iload_n 1, 1) := bdX12_chain_54.2.2.2.2.2.2.2.2.2.2.1
theorem dX12_chain_73 : decode cX12_chain 73 = .ok (.iadd, 1) := bdX12_chain_54.2.2.2.2.2.2.2.2.2.2.2.1
theorem dX12_chain_74 : decode cX12_chain 74 = .ok (.istore 6, 2) := bdX12_chain_54.2.2.2.2.2.2.2.2.2.2.2.2.1
theorem dX12_chain_76 : decode cX12_chain 76 = .ok (.goto (-67), 3) := bdX12_chain_54.2.2.2.2.2.2.2.2.2.2.2.2.2.1
theorem dX12_chain_79 : decode cX12_chain 79 = .ok (.iload 5, 2) := bdX12_chain_54.2.2.2.2.2.2.2.2.2.2.2.2.2.2.1
theorem dX12_chain_81 : decode cX12_chain 81 = .ok (.ireturn, 1) := bdX12_chain_54.2.2.2.2.2.2.2.2.2.2.2.2.2.2.2
theorem bdX12_taken_0 : (decode cX12_taken 0 = .ok (.iload_n 1, 1)) ∧ (decode cX12_taken 1 = .ok (.iconst 2, 1)) ∧ (decode cX12_taken 2 = .ok (.bipush 40, 2)) ∧ (decode cX12_taken 4 = .ok (.invokestatic 95, 3)) ∧ (decode cX12_taken 7 = .ok (.ifCond .eq 13, 3)) ∧ (decode cX12_taken 10 = .ok (.aload_n 0, 1)) ∧ (decode cX12_taken 11 = .ok (.getfield 7, 3)) ∧ (decode cX12_taken 14 = .ok (.bipush 8, 2)) ∧ (decode cX12_taken 16 = .ok (.iaload, 1)) ∧ (decode cX12_taken 17 = .ok (.ifCond .ne 5, 3)) ∧ (decode cX12_taken 20 = .ok (.iconst (-1), 1)) ∧ (decode cX12_taken 21 = .ok (.ireturn, 1)) ∧ (decode cX12_taken 22 = .ok (.iconst 0, 1)) ∧ (decode cX12_taken 23 = .ok (.istore_n 3, 1)) ∧ (decode cX12_taken 24 = .ok (.iload_n 3, 1)) ∧ (decode cX12_taken 25 = .ok (.bipush 81, 2)) := by decide +kernel
theorem dX12_taken_0 : decode cX12_taken 0 = .ok (.iload_n 1, 1) := bdX12_taken_0.1
theorem dX12_taken_1 : decode cX12_taken 1 = .ok (.iconst 2, 1) := bdX12_taken_0.2.1
theorem dX12_taken_2 : decode cX12_taken 2 = .ok (.bipush 40, 2) := bdX12_taken_0.2.2.1
theorem dX12_taken_4 : decode cX12_taken 4 = .ok (.invokestatic 95, 3) := bdX12_taken_0.2.2.2.1
theorem dX12_taken_7 : decode cX12_taken 7 = .ok (.ifCond .eq 13, 3) := bdX12_taken_0.2.2.2.2.1
theorem dX12_taken_10 : decode cX12_taken 10 = .ok (.aload_n 0, 1) := bdX12_taken_0.2.2.2.2.2.1
theorem dX12_taken_11 : decode cX12_taken 11 = .ok (.getfield 7, 3) := bdX12_taken_0.2.2.2.2.2.2.1
theorem dX12_taken_14 : decode cX12_taken 14 = .ok (.bipush 8, 2) := bdX12_taken_0.2.2.2.2.2.2.2.1
theorem dX12_taken_16 : decode cX12_taken 16 = .ok (.iaload, 1) := bdX12_taken_0.2.2.2.2.2.2.2.2.1
theorem dX12_taken_17 : decode cX12_taken 17 = .ok (.ifCond .ne 5, 3) := bdX12_taken_0.2.2.2.2.2.2.2.2.2.1
theorem dX12_taken_20 : decode cX12_taken 20 = .ok (.iconst (-1), 1) := bdX12_taken_0.2.2.2.2.2.2.2.2.2.2.1
theorem dX12_taken_21 : decode cX12_taken 21 = .ok (.ireturn, 1) := bdX12_taken_0.2.2.2.2.2.2.2.2.2.2.2.1
theorem dX12_taken_22 : decode cX12_taken 22 = .ok (.iconst 0, 1) := bdX12_taken_0.2.2.2.2.2.2.2.2.2.2.2.2.1
theorem dX12_taken_23 : decode cX12_taken 23 = .ok (.istore_n 3, 1) := bdX12_taken_0.2.2.2.2.2.2.2.2.2.2.2.2.2.1
theorem dX12_taken_24 : decode cX12_taken 24 = .ok (.iload_n 3, 1) := bdX12_taken_0.2.2.2.2.2.2.2.2.2.2.2.2.2.2.1
theorem dX12_taken_25 : decode cX12_taken 25 = .ok (.bipush 81, 2) := bdX12_taken_0.2.2.2.2.2.2.2.2.2.2.2.2.2.2.2
theorem bdX12_taken_27 : (decode cX12_taken 27 = .ok (.if_icmp .ge 24, 3)) ∧ (decode cX12_taken 30 = .ok (.aload_n 0, 1)) ∧ (decode cX12_taken 31 = .ok (.getfield 89, 3)) ∧ (decode cX12_taken 34 = .ok (.iload_n 3, 1)) ∧ (decode cX12_taken 35 = .ok (.iload_n 3, 1)) ∧ (decode cX12_taken 36 = .ok (.ifCond .ne 7, 3)) ∧ (decode cX12_taken 39 = .ok (.iconst 0, 1)) ∧ (decode cX12_taken 40 = .ok (.goto 4, 3)) ∧ (decode cX12_taken 43 = .ok (.iconst (-1), 1)) ∧ (decode cX12_taken 44 = .ok (.iastore, 1)) ∧ (decode cX12_taken 45 = .ok (.iinc 3 1, 3)) ∧ (decode cX12_taken 48 = .ok (.goto (-24), 3)) ∧ (decode cX12_taken 51 = .ok (.iconst 1, 1)) ∧ (decode cX12_taken 52 = .ok (.istore_n 3, 1)) ∧ (decode cX12_taken 53 = .ok (.iload_n 3, 1)) ∧ (decode cX12_taken 54 = .ok (.iload_n 1, 1)) := by decide +kernel
theorem dX12_taken_27 : decode cX12_taken 27 = .ok (.if_icmp .ge 24, 3) := bdX12_taken_27.1
theorem dX12_taken_30 : decode cX12_taken 30 = .ok (.aload_n 0, 1) := bdX12_taken_27.2.1
theorem dX12_taken_31 : decode cX12_taken 31 = .ok (.getfield 89, 3) := bdX12_taken_27.2.2.1
theorem dX12_taken_34 : decode cX12_taken 34 = .ok (.iload_n 3, 1) := bdX12_taken_27.2.2.2.1
theorem dX12_taken_35 : decode cX12_taken 35 = .ok (.iload_n 3, 1) := bdX12_taken_27.2.2.2.2.1
theorem dX12_taken_36 : decode cX12_taken 36 = .ok (.ifCond .ne 7, 3) := bdX12_taken_27.2.2.2.2.2.1
theorem dX12_taken_39 : decode cX12_taken 39 = .ok (.iconst 0, 1) := bdX12_taken_27.2.2.2.2.2.2.1
theorem dX12_taken_40 : decode cX12_taken 40 = .ok (.goto 4, 3) := bdX12_taken_27.2.2.2.2.2.2.2.1
theorem dX12_taken_43 : decode cX12_taken 43 = .ok (.iconst (-1), 1) := bdX12_taken_27.2.2.2.2.2.2.2.2.1
theorem dX12_taken_44 : decode cX12_taken 44 = .ok (.iastore, 1) := bdX12_taken_27.2.2.2.2.2.2.2.2.2.1
theorem dX12_taken_45 : decode cX12_taken 45 = .ok (.iinc 3 1, 3) := bdX12_taken_27.2.2.2.2.2.2.2.2.2.2.1
theorem dX12_taken_48 : decode cX12_taken 48 = .ok (.goto (-24), 3) := bdX12_taken_27.2.2.2.2.2.2.2.2.2.2.2.1
theorem dX12_taken_51 : decode cX12_taken 51 = .ok (.iconst 1, 1) := bdX12_taken_27.2.2.2.2.2.2.2.2.2.2.2.2.1
theorem dX12_taken_52 : decode cX12_taken 52 = .ok (.istore_n 3, 1) := bdX12_taken_27.2.2.2.2.2.2.2.2.2.2.2.2.2.1
theorem dX12_taken_53 : decode cX12_taken 53 = .ok (.iload_n 3, 1) := bdX12_taken_27.2.2.2.2.2.2.2.2.2.2.2.2.2.2.1
theorem dX12_taken_54 : decode cX12_taken 54 = .ok (.iload_n 1, 1) := bdX12_taken_27.2.2.2.2.2.2.2.2.2.2.2.2.2.2.2
theorem bdX12_taken_55 : (decode cX12_taken 55 = .ok (.if_icmp .gt 192, 3)) ∧ (decode cX12_taken 58 = .ok (.iconst 0, 1)) ∧ (decode cX12_taken 59 = .ok (.istore 4, 2)) ∧ (decode cX12_taken 61 = .ok (.iload 4, 2)) ∧ (decode cX12_taken 63 = .ok (.bipush 81, 2)) ∧ (decode cX12_taken 65 = .ok (.if_icmp .ge 17, 3)) ∧ (decode cX12_taken 68 = .ok (.aload_n 0, 1)) ∧ (decode cX12_taken 69 = .ok (.getfield 92, 3)) ∧ (decode cX12_taken 72 = .ok (.iload 4, 2)) ∧ (decode cX12_taken 74 = .ok (.iconst (-1), 1)) ∧ (decode cX12_taken 75 = .ok (.iastore, 1)) ∧ (decode cX12_taken 76 = .ok (.iinc 4 1, 3)) ∧ (decode cX12_taken 79 = .ok (.goto (-18), 3)) ∧ (decode cX12_taken 82 = .ok (.iconst 0, 1)) ∧ (decode cX12_taken 83 = .ok (.istore 4, 2)) ∧ (decode cX12_taken 85 = .ok (.iload 4, 2)) := by decide +kernel
theorem dX12_taken_55 : decode cX12_taken 55 = .ok (.if_icmp .gt 192, 3) := bdX12_taken_55.1
theorem dX12_taken_58 : decode cX12_taken 58 = .ok (.iconst 0, 1) := bdX12_taken_55.2.1
theorem dX12_taken_59 : decode cX12_taken 59 = .ok (.istore 4, 2) := bdX12_taken_55.2.2.1
theorem dX12_taken_61 : decode cX12_taken 61 = .ok (.iload 4, 2) := bdX12_taken_55.2.2.2.1
theorem dX12_taken_63 : decode cX12_taken 63 = .ok (.bipush 81, 2) := bdX12_taken_55.2.2.2.2.1
theorem dX12_taken_65 : decode cX12_taken 65 = .ok (.if_icmp .ge 17, 3) := bdX12_taken_55.2.2.2.2.2.1
theorem dX12_taken_68 : decode cX12_taken 68 = .ok (.aload_n 0, 1) := bdX12_taken_55.2.2.2.2.2.2.1
theorem dX12_taken_69 : decode cX12_taken 69 = .ok (.getfield 92, 3) := bdX12_taken_55.2.2.2.2.2.2.2.1
theorem dX12_taken_72 : decode cX12_taken 72 = .ok (.iload 4, 2) := bdX12_taken_55.2.2.2.2.2.2.2.2.1
theorem dX12_taken_74 : decode cX12_taken 74 = .ok (.iconst (-1), 1) := bdX12_taken_55.2.2.2.2.2.2.2.2.2.1
theorem dX12_taken_75 : decode cX12_taken 75 = .ok (.iastore, 1) := bdX12_taken_55.2.2.2.2.2.2.2.2.2.2.1
theorem dX12_taken_76 : decode cX12_taken 76 = .ok (.iinc 4 1, 3) := bdX12_taken_55.2.2.2.2.2.2.2.2.2.2.2.1
theorem dX12_taken_79 : decode cX12_taken 79 = .ok (.goto (-18), 3) := bdX12_taken_55.2.2.2.2.2.2.2.2.2.2.2.2.1
theorem dX12_taken_82 : decode cX12_taken 82 = .ok (.iconst 0, 1) := bdX12_taken_55.2.2.2.2.2.2.2.2.2.2.2.2.2.1
theorem dX12_taken_83 : decode cX12_taken 83 = .ok (.istore 4, 2) := bdX12_taken_55.2.2.2.2.2.2.2.2.2.2.2.2.2.2.1
theorem dX12_taken_85 : decode cX12_taken 85 = .ok (.iload 4, 2) := bdX12_taken_55.2.2.2.2.2.2.2.2.2.2.2.2.2.2.2
theorem bdX12_taken_87 : (decode cX12_taken 87 = .ok (.iconst 3, 1)) ∧ (decode cX12_taken 88 = .ok (.if_icmp .ge 123, 3)) ∧ (decode cX12_taken 91 = .ok (.aload_n 0, 1)) ∧ (decode cX12_taken 92 = .ok (.iload_n 1, 1)) ∧ (decode cX12_taken 93 = .ok (.iload_n 3, 1)) ∧ (decode cX12_taken 94 = .ok (.iload 4, 2)) ∧ (decode cX12_taken 96 = .ok (.invokevirtual 420, 3)) ∧ (decode cX12_taken 99 = .ok (.istore 5, 2)) ∧ (decode cX12_taken 101 = .ok (.iconst 0, 1)) ∧ (decode cX12_taken 102 = .ok (.istore 6, 2)) ∧ (decode cX12_taken 104 = .ok (.iload 6, 2)) ∧ (decode cX12_taken 106 = .ok (.iload 4, 2)) ∧ (decode cX12_taken 108 = .ok (.iadd, 1)) ∧ (decode cX12_taken 109 = .ok (.bipush 81, 2)) ∧ (decode cX12_taken 111 = .ok (.if_icmp .ge 94, 3)) ∧ (decode cX12_taken 114 = .ok (.iload 5, 2)) := by decide +kernel
theorem dX12_taken_87 : decode cX12_taken 87 = .ok (.iconst 3, 1) := bdX12_taken_87.1
theorem dX12_taken_88 : decode cX12_taken 88 = .ok (.if_icmp .ge 123, 3) := bdX12_taken_87.2.1
theorem dX12_taken_91 : decode cX12_taken 91 = .ok (.aload_n 0, 1) := bdX12_taken_87.2.2.1
theorem dX12_taken_92 : decode cX12_taken 92 = .ok (.iload_n 1, 1) := bdX12_taken_87.2.2.2.1
theorem dX12_taken_93 : decode cX12_taken 93 = .ok (.iload_n 3, 1) := bdX12_taken_87.2.2.2.2.1
theorem dX12_taken_94 : decode cX12_taken 94 = .ok (.iload 4, 2) := bdX12_taken_87.2.2.2.2.2.1
theorem dX12_taken_96 : decode cX12_taken 96 = .ok (.invokevirtual 420, 3) := bdX12_taken_87.2.2.2.2.2.2.1
theorem dX12_taken_99 : decode cX12_taken 99 = .ok (.istore 5, 2) := bdX12_taken_87.2.2.2.2.2.2.2.1
theorem dX12_taken_101 : decode cX12_taken 101 = .ok (.iconst 0, 1) := bdX12_taken_87.2.2.2.2.2.2.2.2.1
theorem dX12_taken_102 : decode cX12_taken 102 = .ok (.istore 6, 2) := bdX12_taken_87.2.2.2.2.2.2.2.2.2.1
theorem dX12_taken_104 : decode cX12_taken 104 = .ok (.iload 6, 2) := bdX12_taken_87.2.2.2.2.2.2.2.2.2.2.1
theorem dX12_taken_106 : decode cX12_taken 106 = .ok (.iload 4, 2) := bdX12_taken_87.2.2.2.2.2.2.2.2.2.2.2.1
theorem dX12_taken_108 : decode cX12_taken 108 = .ok (.iadd, 1) := bdX12_taken_87.2.2.2.2.2.2.2.2.2.2.2.2.1
theorem dX12_taken_109 : decode cX12_taken 109 = .ok (.bipush 81, 2) := bdX12_taken_87.2.2.2.2.2.2.2.2.2.2.2.2.2.1
theorem dX12_taken_111 : decode cX12_taken 111 = .ok (.if_icmp .ge 94, 3) := bdX12_taken_87.2.2.2.2.2.2.2.2.2.2.2.2.2.2.1
theorem dX12_taken_114 : decode cX12_taken 114 = .ok (.iload 5, 2) := bdX12_taken_87.2.2.2.2.2.2.2.2.2.2.2.2.2.2.2
theorem bdX12_taken_116 : (decode cX12_taken 116 = .ok (.iconst (-1), 1)) ∧ (decode cX12_taken 117 = .ok (.if_icmp .eq 88, 3)) ∧ (decode cX12_taken 120 = .ok (.aload_n 0, 1)) ∧ (decode cX12_taken 121 = .ok (.getfield 89, 3)) ∧ (decode cX12_taken 124 = .ok (.iload 6, 2)) ∧ (decode cX12_taken 126 = .ok (.iaload, 1)) ∧ (decode cX12_taken 127 = .ok (.iconst (-1), 1)) ∧ (decode cX12_taken 128 = .ok (.if_icmp .eq 71, 3)) ∧ (decode cX12_taken 131 = .ok (.aload_n 0, 1)) ∧ (decode cX12_taken 132 = .ok (.getfield 89, 3)) ∧ (decode cX12_taken 135 = .ok (.iload 6, 2)) ∧ (decode cX12_taken 137 = .ok (.iaload, 1)) ∧ (decode cX12_taken 138 = .ok (.iload 5, 2)) ∧ (decode cX12_taken 140 = .ok (.iadd, 1)) ∧ (decode cX12_taken 141 = .ok (.istore 7, 2)) ∧ (decode cX12_taken 143 = .ok (.aload_n 0, 1)) := by decide +kernel
theorem dX12_taken_116 : decode cX12_taken 116 = .ok (.iconst (-1), 1) := bdX12_taken_116.1
theorem dX12_taken_117 : decode cX12_taken 117 = .ok (.if_icmp .eq 88, 3) := bdX12_taken_116.2.1
theorem dX12_taken_120 : decode cX12_taken 120 = .ok (.aload_n 0, 1) := bdX12_taken_116.2.2.1
theorem dX12_taken_121 : decode cX12_taken 121 = .ok (.getfield 89, 3) := bdX12_taken_116.2.2.2.1
theorem dX12_taken_124 : decode cX12_taken 124 = .ok (.iload 6, 2) := bdX12_taken_116.2.2.2.2.1
theorem dX12_taken_126 : decode cX12_taken 126 = .ok (.iaload, 1) := bdX12_taken_116.2.2.2.2.2.1
theorem dX12_taken_127 : decode cX12_taken 127 = .ok (.iconst (-1), 1) := bdX12_taken_116.2.2.2.2.2.2.1
theorem dX12_taken_128 : decode cX12_taken 128 = .ok (.if_icmp .eq 71, 3) := bdX12_taken_116.2.2.2.2.2.2.2.1
theorem dX12_taken_131 : decode cX12_taken 131 = .ok (.aload_n 0, 1) := bdX12_taken_116.2.2.2.2.2.2.2.2.1
theorem dX12_taken_132 : decode cX12_taken 132 = .ok (.getfield 89, 3) := bdX12_taken_116.2.2.2.2.2.2.2.2.2.1
theorem dX12_taken_135 : decode cX12_taken 135 = .ok (.iload 6, 2) := bdX12_taken_116.2.2.2.2.2.2.2.2.2.2.1
theorem dX12_taken_137 : decode cX12_taken 137 = .ok (.iaload, 1) := bdX12_taken_116.2.2.2.2.2.2.2.2.2.2.2.1
theorem dX12_taken_138 : decode cX12_taken 138 = .ok (.iload 5, 2) := bdX12_taken_116.2.2.2.2.2.2.2.2.2.2.2.2.1
theorem dX12_taken_140 : decode cX12_taken 140 = .ok (.iadd, 1) := bdX12_taken_116.2.2.2.2.2.2.2.2.2.2.2.2.2.1
theorem dX12_taken_141 : decode cX12_taken 141 = .ok (.istore 7, 2) := bdX12_taken_116.2.2.2.2.2.2.2.2.2.2.2.2.2.2.1
theorem dX12_taken_143 : decode cX12_taken 143 = .ok (.aload_n 0, 1) := bdX12_taken_116.2.2.2.2.2.2.2.2.2.2.2.2.2.2.2
theorem bdX12_taken_144 : (decode cX12_taken 144 = .ok (.getfield 92, 3)) ∧ (decode cX12_taken 147 = .ok (.iload 6, 2)) ∧ (decode cX12_taken 149 = .ok (.iload 4, 2)) ∧ (decode cX12_taken 151 = .ok (.iadd, 1)) ∧ (decode cX12_taken 152 = .ok (.iaload, 1)) ∧ (decode cX12_taken 153 = .ok (.istore 8, 2)) ∧ (decode cX12_taken 155 = .ok (.aload_n 0, 1)) ∧ (decode cX12_taken 156 = .ok (.getfield 92, 3)) ∧ (decode cX12_taken 159 = .ok (.iload 6, 2)) ∧ (decode cX12_taken 161 = .ok (.iload 4, 2)) ∧ (decode cX12_taken 163 = .ok (.iadd, 1)) ∧ (decode cX12_taken 164 = .ok (.iload 8, 2)) ∧ (decode cX12_taken 166 = .ok (.iconst (-1), 1)) ∧ (decode cX12_taken 167 = .ok (.if_icmp .eq 24, 3)) ∧ (decode cX12_taken 170 = .ok (.iload_n 2, 1)) ∧ (decode cX12_taken 171 = .ok (.ifCond .eq 13, 3)) := by decide +kernel
theorem dX12_taken_144 : decode cX12_taken 144 = .ok (.getfield 92, 3) := bdX12_taken_144.1
theorem dX12_taken_147 : decode cX12_taken 147 = .ok (.iload 6, 2) := bdX12_taken_144.2.1
theorem dX12_taken_149 : decode cX12_taken 149 = .ok (.iload 4, 2) := bdX12_taken_144.2.2.1
theorem dX12_taken_151 : decode cX12_taken 151 = .ok (.iadd, 1) := bdX12_taken_144.2.2.2.1
theorem dX12_taken_152 : decode cX12_taken 152 = .ok (.iaload, 1) := bdX12_taken_144.2.2.2.2.1
theorem dX12_taken_153 : decode cX12_taken 153 = .ok (.istore 8, 2) := bdX12_taken_144.2.2.2.2.2.1
theorem dX12_taken_155 : decode cX12_taken 155 = .ok (.aload_n 0, 1) := bdX12_taken_144.2.2.2.2.2.2.1
theorem dX12_taken_156 : decode cX12_taken 156 = .ok (.getfield 92, 3) := bdX12_taken_144.2.2.2.2.2.2.2.1
theorem dX12_taken_159 : decode cX12_taken 159 = .ok (.iload 6, 2) := bdX12_taken_144.2.2.2.2.2.2.2.2.1
theorem dX12_taken_161 : decode cX12_taken 161 = .ok (.iload 4, 2) := bdX12_taken_144.2.2.2.2.2.2.2.2.2.1
theorem dX12_taken_163 : decode cX12_taken 163 = .ok (.iadd, 1) := bdX12_taken_144.2.2.2.2.2.2.2.2.2.2.1
theorem dX12_taken_164 : decode cX12_taken 164 = .ok (.iload 8, 2) := bdX12_taken_144.2.2.2.2.2.2.2.2.2.2.2.1
theorem dX12_taken_166 : decode cX12_taken 166 = .ok (.iconst (-1), 1) := bdX12_taken_144.2.2.2.2.2.2.2.2.2.2.2.2.1
theorem dX12_taken_167 : decode cX12_taken 167 = .ok (.if_icmp .eq 24, 3) := bdX12_taken_144.2.2.2.2.2.2.2.2.2.2.2.2.2.1
theorem dX12_taken_170 : decode cX12_taken 170 = .ok (.iload_n 2, 1) := bdX12_taken_144.2.2.2.2.2.2.2.2.2.2.2.2.2.2.1
theorem dX12_taken_171 : decode cX12_taken 171 = .ok (.ifCond .eq 13, 3) := bdX12_taken_144.2.2.2.2.2.2.2.2.2.2.2.2.2.2.2
theorem bdX12_taken_174 : (decode cX12_taken 174 = .ok (.iload 7, 2)) ∧ (decode cX12_taken 176 = .ok (.iload 8, 2)) ∧ (decode cX12_taken 178 = .ok (.if_icmp .le 18, 3)) ∧ (decode cX12_taken 181 = .ok (.goto 10, 3)) ∧ (decode cX12_taken 184 = .ok (.iload 7, 2)) ∧ (decode cX12_taken 186 = .ok (.iload 8, 2)) ∧ (decode cX12_taken 188 = .ok (.if_icmp .ge 8, 3)) ∧ (decode cX12_taken 191 = .ok (.iload 7, 2)) ∧ (decode cX12_taken 193 = .ok (.goto 5, 3)) ∧ (decode cX12_taken 196 = .ok (.iload 8, 2)) ∧ (decode cX12_taken 198 = .ok (.iastore, 1)) ∧ (decode cX12_taken 199 = .ok (.iinc 6 1, 3)) ∧ (decode cX12_taken 202 = .ok (.goto (-98), 3)) ∧ (decode cX12_taken 205 = .ok (.iinc 4 1, 3)) ∧ (decode cX12_taken 208 = .ok (.goto (-123), 3)) ∧ (decode cX12_taken 211 = .ok (.iconst 0, 1)) := by decide +kernel
theorem dX12_taken_174 : decode cX12_taken 174 = .ok (.iload 7, 2) := bdX12_taken_174.1
theorem dX12_taken_176 : decode cX12_taken 176 = .ok (.iload 8, 2) := bdX12_taken_174.2.1
theorem dX12_taken_178 : decode cX12_taken 178 = .ok (.if_icmp .le 18, 3) := bdX12_taken_174.2.2.1
theorem dX12_taken_181 : decode cX12_taken 181 = .ok (.goto 10, 3) := bdX12_taken_174.2.2.2.1
theorem dX12_taken_184 : decode cX12_taken 184 = .ok (.iload 7, 2) := bdX12_taken_174.2.2.2.2.1
theorem dX12_taken_186 : decode cX12_taken 186 = .ok (.iload 8, 2) := bdX12_taken_174.2.2.2.2.2.1
theorem dX12_taken_188 : decode cX12_taken 188 = .ok (.if_icmp .ge 8, 3) := bdX12_taken_174.2.2.2.2.2.2.1
theorem dX12_taken_191 : decode cX12_taken 191 = .ok (.iload 7, 2) := bdX12_taken_174.2.2.2.2.2.2.2.1
theorem dX12_taken_193 : decode cX12_taken 193 = .ok (.goto 5, 3) := bdX12_taken_174.2.2.2.2.2.2.2.2.1
theorem dX12_taken_196 : decode cX12_taken 196 = .ok (.iload 8, 2) := bdX12_taken_174.2.2.2.2.2.2.2.2.2.1
theorem dX12_taken_198 : decode cX12_taken 198 = .ok (.iastore, 1) := bdX12_taken_174.2.2.2.2.2.2.2.2.2.2.1
theorem dX12_taken_199 : decode cX12_taken 199 = .ok (.iinc 6 1, 3) := bdX12_taken_174.2.2.2.2.2.2.2.2.2.2.2.1
theorem dX12_taken_202 : decode cX12_taken 202 = .ok (.goto (-98), 3) := bdX12_taken_174.2.2.2.2.2.2.2.2.2.2.2.2.1
theorem dX12_taken_205 : decode cX12_taken 205 = .ok (.iinc 4 1, 3) := bdX12_taken_174.2.2.2.2.2.2.2.2.2.2.2.2.2.1
theorem dX12_taken_208 : decode cX12_taken 208 = .ok (.goto (-123), 3) := bdX12_taken_174.2.2.2.2.2.2.2.2.2.2.2.2.2.2.1
theorem dX12_taken_211 : decode cX12_taken 211 = .ok (.iconst 0, 1) := bdX12_taken_174.2.2.2.2.2.2.2.2.2.2.2.2.2.2.2
theorem bdX12_taken_212 : (decode cX12_taken 212 = .ok (.istore 4, 2)) ∧ (decode cX12_taken 214 = .ok (.iload 4, 2)) ∧ (decode cX12_taken 216 = .ok (.bipush 81, 2)) ∧ (decode cX12_taken 218 = .ok (.if_icmp .ge 23, 3)) ∧ (decode cX12_taken 221 = .ok (.aload_n 0, 1)) ∧ (decode cX12_taken 222 = .ok (.getfield 89, 3)) ∧ (decode cX12_taken 225 = .ok (.iload 4, 2)) ∧ (decode cX12_taken 227 = .ok (.aload_n 0, 1)) ∧ (decode cX12_taken 228 = .ok (.getfield 92, 3)) ∧ (decode cX12_taken 231 = .ok (.iload 4, 2)) ∧ (decode cX12_taken 233 = .ok (.iaload, 1)) ∧ (decode cX12_taken 234 = .ok (.iastore, 1)) ∧ (decode cX12_taken 235 = .ok (.iinc 4 1, 3)) ∧ (decode cX12_taken 238 = .ok (.goto (-24), 3)) ∧ (decode cX12_taken 241 = .ok (.iinc 3 1, 3)) ∧ (decode cX12_taken 244 = .ok (.goto (-191), 3)) := by decide +kernel
theorem dX12_taken_212 : decode cX12_taken 212 = .ok (.istore 4, 2) := bdX12_taken_212.1
theorem dX12_taken_214 : decode cX12_taken 214 = .ok (.iload 4, 2) := bdX12_taken_212.2.1
theorem dX12_taken_216 : decode cX12_taken 216 = .ok (.bipush 81, 2) := bdX12_taken_212.2.2.1
theorem dX12_taken_218 : decode cX12_taken 218 = .ok (.if_icmp .ge 23, 3) := bdX12_taken_212.2.2.2.1
theorem dX12_taken_221 : decode cX12_taken 221 = .ok (.aload_n 0, 1) := bdX12_taken_212.2.2.2.2.1
theorem dX12_taken_222 : decode cX12_taken 222 = .ok (.getfield 89, 3) := bdX12_taken_212.2.2.2.2.2.1
theorem dX12_taken_225 : decode cX12_taken 225 = .ok (.iload 4, 2) := bdX12_taken_212.2.2.2.2.2.2.1
theorem dX12_taken_227 : decode cX12_taken 227 = .ok (.aload_n 0, 1) := bdX12_taken_212.2.2.2.2.2.2.2.1
theorem dX12_taken_228 : decode cX12_taken 228 = .ok (.getfield 92, 3) := bdX12_taken_212.2.2.2.2.2.2.2.2.1
theorem dX12_taken_231 : decode cX12_taken 231 = .ok (.iload 4, 2) := bdX12_taken_212.2.2.2.2.2.2.2.2.2.1
theorem dX12_taken_233 : decode cX12_taken 233 = .ok (.iaload, 1) := bdX12_taken_212.2.2.2.2.2.2.2.2.2.2.1
theorem dX12_taken_234 : decode cX12_taken 234 = .ok (.iastore, 1) := bdX12_taken_212.2.2.2.2.2.2.2.2.2.2.2.1
theorem dX12_taken_235 : decode cX12_taken 235 = .ok (.iinc 4 1, 3) := bdX12_taken_212.2.2.2.2.2.2.2.2.2.2.2.2.1
theorem dX12_taken_238 : decode cX12_taken 238 = .ok (.goto (-24), 3) := bdX12_taken_212.2.2.2.2.2.2.2.2.2.2.2.2.2.1
theorem dX12_taken_241 : decode cX12_taken 241 = .ok (.iinc 3 1, 3) := bdX12_taken_212.2.2.2.2.2.2.2.2.2.2.2.2.2.2.1
theorem dX12_taken_244 : decode cX12_taken 244 = .ok (.goto (-191), 3) := bdX12_taken_212.2.2.2.2.2.2.2.2.2.2.2.2.2.2.2
theorem bdX12_taken_247 : (decode cX12_taken 247 = .ok (.aload_n 0, 1)) ∧ (decode cX12_taken 248 = .ok (.getfield 89, 3)) ∧ (decode cX12_taken 251 = .ok (.aload_n 0, 1)) ∧ (decode cX12_taken 252 = .ok (.getfield 7, 3)) ∧ (decode cX12_taken 255 = .ok (.sipush 1550, 3)) ∧ (decode cX12_taken 258 = .ok (.iaload, 1)) ∧ (decode cX12_taken 259 = .ok (.iaload, 1)) ∧ (decode cX12_taken 260 = .ok (.ireturn, 1)) := by decide +kernel
theorem dX12_taken_247 : decode cX12_taken 247 = .ok (.aload_n 0, 1) := bdX12_taken_247.1
theorem dX12_taken_248 : decode cX12_taken 248 = .ok (.getfield 89, 3) := bdX12_taken_247.2.1
theorem dX12_taken_251 : decode cX12_taken 251 = .ok (.aload_n 0, 1) := bdX12_taken_247.2.2.1
theorem dX12_taken_252 : decode cX12_taken 252 = .ok (.getfield 7, 3) := bdX12_taken_247.2.2.2.1
theorem dX12_taken_255 : decode cX12_taken 255 = .ok (.sipush 1550, 3) := bdX12_taken_247.2.2.2.2.1
theorem dX12_taken_258 : decode cX12_taken 258 = .ok (.iaload, 1) := bdX12_taken_247.2.2.2.2.2.1
theorem dX12_taken_259 : decode cX12_taken 259 = .ok (.iaload, 1) := bdX12_taken_247.2.2.2.2.2.2.1
theorem dX12_taken_260 : decode cX12_taken 260 = .ok (.ireturn, 1) := bdX12_taken_247.2.2.2.2.2.2.2
theorem bdX1_copy_0 : (decode cX1_copy 0 = .ok (.aload_n 0, 1)) ∧ (decode cX1_copy 1 = .ok (.aload_n 1, 1)) ∧ (decode cX1_copy 2 = .ok (.getfield 18, 3)) ∧ (decode cX1_copy 5 = .ok (.putfield 18, 3)) ∧ (decode cX1_copy 8 = .ok (.aload_n 1, 1)) ∧ (decode cX1_copy 9 = .ok (.getfield 11, 3)) ∧ (decode cX1_copy 12 = .ok (.iconst 0, 1)) ∧ (decode cX1_copy 13 = .ok (.aload_n 0, 1)) ∧ (decode cX1_copy 14 = .ok (.getfield 11, 3)) ∧ (decode cX1_copy 17 = .ok (.iconst 0, 1)) ∧ (decode cX1_copy 18 = .ok (.aload_n 0, 1)) ∧ (decode cX1_copy 19 = .ok (.getfield 11, 3)) ∧ (decode cX1_copy 22 = .ok (.arraylength, 1)) ∧ (decode cX1_copy 23 = .ok (.invokestatic 22, 3)) ∧ (decode cX1_copy 26 = .ok (.aload_n 1, 1)) ∧ (decode cX1_copy 27 = .ok (.getfield 15, 3)) := by decide +kernel
theorem dX1_copy_0 : decode cX1_copy 0 = .ok (.aload_n 0, 1) := bdX1_copy_0.1
theorem dX1_copy_1 : decode cX1_copy 1 = .ok (.aload_n 1, 1) := bdX1_copy_0.2.1
theorem dX1_copy_2 : decode cX1_copy 2 = .ok (.getfield 18, 3) := bdX1_copy_0.2.2.1
theorem dX1_copy_5 : decode cX1_copy 5 = .ok (.putfield 18, 3) := bdX1_copy_0.2.2.2.1
theorem dX1_copy_8 : decode cX1_copy 8 = .ok (.aload_n 1, 1) := bdX1_copy_0.2.2.2.2.1
theorem dX1_copy_9 : decode cX1_copy 9 = .ok (.getfield 11, 3) := bdX1_copy_0.2.2.2.2.2.1
theorem dX1_copy_12 : decode cX1_copy 12 = .ok (.iconst 0, 1) := bdX1_copy_0.2.2.2.2.2.2.1
theorem dX1_copy_13 : decode cX1_copy 13 = .ok (.aload_n 0, 1) := bdX1_copy_0.2.2.2.2.2.2.2.1
theorem dX1_copy_14 : decode cX1_copy 14 = .ok (.getfield 11, 3) := bdX1_copy_0.2.2.2.2.2.2.2.2.1
theorem dX1_copy_17 : decode cX1_copy 17 = .ok (.iconst 0, 1) := bdX1_copy_0.2.2.2.2.2.2.2.2.2.1
theorem dX1_copy_18 : decode cX1_copy 18 = .ok (.aload_n 0, 1) := bdX1_copy_0.2.2.2.2.2.2.2.2.2.2.1
theorem dX1_copy_19 : decode cX1_copy 19 = .ok (.getfield 11, 3) := bdX1_copy_0.2.2.2.2.2.2.2.2.2.2.2.1
theorem dX1_copy_22 : decode cX1_copy 22 = .ok (.arraylength, 1) := bdX1_copy_0.2.2.2.2.2.2.2.2.2.2.2.2.1
theorem dX1_copy_23 : decode cX1_copy 23 = .ok (.invokestatic 22, 3) := bdX1_copy_0.2.2.2.2.2.2.2.2.2.2.2.2.2.1
theorem dX1_copy_26 : decode cX1_copy 26 = .ok (.aload_n 1, 1) := bdX1_copy_0.2.2.2.2.2.2.2.2.2.2.2.2.2.2.1
theorem dX1_copy_27 : decode cX1_copy 27 = .ok (.getfield 15, 3) := bdX1_copy_0.2.2.2.2.2.2.2.2.2.2.2.2.2.2.2
theorem bdX1_copy_30 : (decode cX1_copy 30 = .ok (.iconst 0, 1)) ∧ (decode cX1_copy 31 = .ok (.aload_n 0, 1)) ∧ (decode cX1_copy 32 = .ok (.getfield 15, 3)) ∧ (decode cX1_copy 35 = .ok (.iconst 0, 1)) ∧ (decode cX1_copy 36 = .ok (.aload_n 0, 1)) ∧ (decode cX1_copy 37 = .ok (.getfield 15, 3)) ∧ (decode cX1_copy 40 = .ok (.arraylength, 1)) ∧ (decode cX1_copy 41 = .ok (.invokestatic 22, 3)) ∧ (decode cX1_copy 44 = .ok (.return_, 1)) := by decide +kernel
theorem dX1_copy_30 : decode cX1_copy 30 = .ok (.iconst 0, 1) := bdX1_copy_30.1
theorem dX1_copy_31 : decode cX1_copy 31 = .ok (.aload_n 0, 1) := bdX1_copy_30.2.1
theorem dX1_copy_32 : decode cX1_copy 32 = .ok (.getfield 15, 3) := bdX1_copy_30.2.2.1
theorem dX1_copy_35 : decode cX1_copy 35 = .ok (.iconst 0, 1) := bdX1_copy_30.2.2.2.1
theorem dX1_copy_36 : decode cX1_copy 36 = .ok (.aload_n 0, 1) := bdX1_copy_30.2.2.2.2.1
theorem dX1_copy_37 : decode cX1_copy 37 = .ok (.getfield 15, 3) := bdX1_copy_30.2.2.2.2.2.1
theorem dX1_copy_40 : decode cX1_copy 40 = .ok (.arraylength, 1) := bdX1_copy_30.2.2.2.2.2.2.1
theorem dX1_copy_41 : decode cX1_copy 41 = .ok (.invokestatic 22, 3) := bdX1_copy_30.2.2.2.2.2.2.2.1
theorem dX1_copy_44 : decode cX1_copy 44 = .ok (.return_, 1) := bdX1_copy_30.2.2.2.2.2.2.2.2
theorem bdX5_copy_0 : (decode cX5_copy 0 = .ok (.aload_n 0, 1)) ∧ (decode cX5_copy 1 = .ok (.aload_n 1, 1)) ∧ (decode cX5_copy 2 = .ok (.getfield 27, 3)) ∧ (decode cX5_copy 5 = .ok (.putfield 27, 3)) ∧ (decode cX5_copy 8 = .ok (.aload_n 1, 1)) ∧ (decode cX5_copy 9 = .ok (.getfield 11, 3)) ∧ (decode cX5_copy 12 = .ok (.iconst 0, 1)) ∧ (decode cX5_copy 13 = .ok (.aload_n 0, 1)) ∧ (decode cX5_copy 14 = .ok (.getfield 11, 3)) ∧ (decode cX5_copy 17 = .ok (.iconst 0, 1)) ∧ (decode cX5_copy 18 = .ok (.bipush 6, 2)) ∧ (decode cX5_copy 20 = .ok (.invokestatic 31, 3)) ∧ (decode cX5_copy 23 = .ok (.aload_n 1, 1)) ∧ (decode cX5_copy 24 = .ok (.getfield 15, 3)) ∧ (decode cX5_copy 27 = .ok (.iconst 0, 1)) ∧ (decode cX5_copy 28 = .ok (.aload_n 0, 1)) := by decide +kernel
theorem dX5_copy_0 : decode cX5_copy 0 = .ok (.aload_n 0, 1) := bdX5_copy_0.1
theorem dX5_copy_1 : decode cX5_copy 1 = .ok (.aload_n 1, 1) := bdX5_copy_0.2.1
theorem dX5_copy_2 : decode cX5_copy 2 = .ok (.getfield 27, 3) := bdX5_copy_0.2.2.1
theorem dX5_copy_5 : decode cX5_copy 5 = .ok (.putfield 27, 3) := bdX5_copy_0.2.2.2.1
theorem dX5_copy_8 : decode cX5_copy 8 = .ok (.aload_n 1, 1) := bdX5_copy_0.2.2.2.2.1
theorem dX5_copy_9 : decode cX5_copy 9 = .ok (.getfield 11, 3) := bdX5_copy_0.2.2.2.2.2.1
theorem dX5_copy_12 : decode cX5_copy 12 = .ok (.iconst 0, 1) := bdX5_copy_0.2.2.2.2.2.2.1
theorem dX5_copy_13 : decode cX5_copy 13 = .ok (.aload_n 0, 1) := bdX5_copy_0.2.2.2.2.2.2.2.1
theorem dX5_copy_14 : decode cX5_copy 14 = .ok (.getfield 11, 3) := bdX5_copy_0.2.2.2.2.2.2.2.2.1
theorem dX5_copy_17 : decode cX5_copy 17 = .ok (.iconst 0, 1) := bdX5_copy_0.2.2.2.2.2.2.2.2.2.1
theorem dX5_copy_18 : decode cX5_copy 18 = .ok (.bipush 6, 2) := bdX5_copy_0.2.2.2.2.2.2.2.2.2.2.1
theorem dX5_copy_20 : decode cX5_copy 20 = .ok (.invokestatic 31, 3) := bdX5_copy_0.2.2.2.2.2.2.2.2.2.2.2.1
theorem dX5_copy_23 : decode cX5_copy 23 = .ok (.aload_n 1, 1) := bdX5_copy_0.2.2.2.2.2.2.2.2.2.2.2.2.1
theorem dX5_copy_24 : decode cX5_copy 24 = .ok (.getfield 15, 3) := bdX5_copy_0.2.2.2.2.2.2.2.2.2.2.2.2.2.1
theorem dX5_copy_27 : decode cX5_copy 27 = .ok (.iconst 0, 1) := bdX5_copy_0.2.2.2.2.2.2.2.2.2.2.2.2.2.2.1
theorem dX5_copy_28 : decode cX5_copy 28 = .ok (.aload_n 0, 1) := bdX5_copy_0.2.2.2.2.2.2.2.2.2.2.2.2.2.2.2
theorem bdX5_copy_29 : (decode cX5_copy 29 = .ok (.getfield 15, 3)) ∧ (decode cX5_copy 32 = .ok (.iconst 0, 1)) ∧ (decode cX5_copy 33 = .ok (.bipush 6, 2)) ∧ (decode cX5_copy 35 = .ok (.invokestatic 31, 3)) ∧ (decode cX5_copy 38 = .ok (.aload_n 1, 1)) ∧ (decode cX5_copy 39 = .ok (.getfield 18, 3)) ∧ (decode cX5_copy 42 = .ok (.iconst 0, 1)) ∧ (decode cX5_copy 43 = .ok (.aload_n 0, 1)) ∧ (decode cX5_copy 44 = .ok (.getfield 18, 3)) ∧ (decode cX5_copy 47 = .ok (.iconst 0, 1)) ∧ (decode cX5_copy 48 = .ok (.bipush 6, 2)) ∧ (decode cX5_copy 50 = .ok (.invokestatic 31, 3)) ∧ (decode cX5_copy 53 = .ok (.aload_n 1, 1)) ∧ (decode cX5_copy 54 = .ok (.getfield 21, 3)) ∧ (decode cX5_copy 57 = .ok (.iconst 0, 1)) ∧ (decode cX5_copy 58 = .ok (.aload_n 0, 1)) := by decide +kernel
theorem dX5_copy_29 : decode cX5_copy 29 = .ok (.getfield 15, 3) := bdX5_copy_29.1
theorem dX5_copy_32 : decode cX5_copy 32 = .ok (.iconst 0, 1) := bdX5_copy_29.2.1
theorem dX5_copy_33 : decode cX5_copy 33 = .ok (.bipush 6, 2) := bdX5_copy_29.2.2.1
theorem dX5_copy_35 : decode cX5_copy 35 = .ok (.invokestatic 31, 3) := bdX5_copy_29.2.2.2.1
theorem dX5_copy_38 : decode cX5_copy 38 = .ok (.aload_n 1, 1) := bdX5_copy_29.2.2.2.2.1
theorem dX5_copy_39 : decode cX5_copy 39 = .ok (.getfield 18, 3) := bdX5_copy_29.2.2.2.2.2.1
theorem dX5_copy_42 : decode cX5_copy 42 = .ok (.iconst 0, 1) := bdX5_copy_29.2.2.2.2.2.2.1
theorem dX5_copy_43 : decode cX5_copy 43 = .ok (.aload_n 0, 1) := bdX5_copy_29.2.2.2.2.2.2.2.1
theorem dX5_copy_44 : decode cX5_copy 44 = .ok (.getfield 18, 3) := bdX5_copy_29.2.2.2.2.2.2.2.2.1
theorem dX5_copy_47 : decode cX5_copy 47 = .ok (.iconst 0, 1) := bdX5_copy_29.2.2.2.2.2.2.2.2.2.1
theorem dX5_copy_48 : decode cX5_copy 48 = .ok (.bipush 6, 2) := bdX5_copy_29.2.2.2.2.2.2.2.2.2.2.1
theorem dX5_copy_50 : decode cX5_copy 50 = .ok (.invokestatic 31, 3) := bdX5_copy_29.2.2.2.2.2.2.2.2.2.2.2.1
theorem dX5_copy_53 : decode cX5_copy 53 = .ok (.aload_n 1, 1) := bdX5_copy_29.2.2.2.2.2.2.2.2.2.2.2.2.1
theorem dX5_copy_54 : decode cX5_copy 54 = .ok (.getfield 21, 3) := bdX5_copy_29.2.2.2.2.2.2.2.2.2.2.2.2.2.1
theorem dX5_copy_57 : decode cX5_copy 57 = .ok (.iconst 0, 1) := bdX5_copy_29.2.2.2.2.2.2.2.2.2.2.2.2.2.2.1
theorem dX5_copy_58 : decode cX5_copy 58 = .ok (.aload_n 0, 1) := bdX5_copy_29.2.2.2.2.2.2.2.2.2.2.2.2.2.2.2
theorem bdX5_copy_59 : (decode cX5_copy 59 = .ok (.getfield 21, 3)) ∧ (decode cX5_copy 62 = .ok (.iconst 0, 1)) ∧ (decode cX5_copy 63 = .ok (.bipush 6, 2)) ∧ (decode cX5_copy 65 = .ok (.invokestatic 31, 3)) ∧ (decode cX5_copy 68 = .ok (.return_, 1)) := by decide +kernel
theorem dX5_copy_59 : decode cX5_copy 59 = .ok (.getfield 21, 3) := bdX5_copy_59.1
theorem dX5_copy_62 : decode cX5_copy 62 = .ok (.iconst 0, 1) := bdX5_copy_59.2.1
theorem dX5_copy_63 : decode cX5_copy 63 = .ok (.bipush 6, 2) := bdX5_copy_59.2.2.1
theorem dX5_copy_65 : decode cX5_copy 65 = .ok (.invokestatic 31, 3) := bdX5_copy_59.2.2.2.1
theorem dX5_copy_68 : decode cX5_copy 68 = .ok (.return_, 1) := bdX5_copy_59.2.2.2.2
theorem bdX4_copy_0 : (decode cX4_copy 0 = .ok (.aload_n 0, 1)) ∧ (decode cX4_copy 1 = .ok (.aload_n 1, 1)) ∧ (decode cX4_copy 2 = .ok (.getfield 15, 3)) ∧ (decode cX4_copy 5 = .ok (.putfield 15, 3)) ∧ (decode cX4_copy 8 = .ok (.aload_n 1, 1)) ∧ (decode cX4_copy 9 = .ok (.getfield 11, 3)) ∧ (decode cX4_copy 12 = .ok (.iconst 0, 1)) ∧ (decode cX4_copy 13 = .ok (.aload_n 0, 1)) ∧ (decode cX4_copy 14 = .ok (.getfield 11, 3)) ∧ (decode cX4_copy 17 = .ok (.iconst 0, 1)) ∧ (decode cX4_copy 18 = .ok (.bipush 60, 2)) ∧ (decode cX4_copy 20 = .ok (.invokestatic 19, 3)) ∧ (decode cX4_copy 23 = .ok (.return_, 1)) := by decide +kernel
theorem dX4_copy_0 : decode cX4_copy 0 = .ok (.aload_n 0, 1) := bdX4_copy_0.1
theorem dX4_copy_1 : decode cX4_copy 1 = .ok (.aload_n 1, 1) := bdX4_copy_0.2.1
theorem dX4_copy_2 : decode cX4_copy 2 = .ok (.getfield 15, 3) := bdX4_copy_0.2.2.1
theorem dX4_copy_5 : decode cX4_copy 5 = .ok (.putfield 15, 3) := bdX4_copy_0.2.2.2.1
theorem dX4_copy_8 : decode cX4_copy 8 = .ok (.aload_n 1, 1) := bdX4_copy_0.2.2.2.2.1
theorem dX4_copy_9 : decode cX4_copy 9 = .ok (.getfield 11, 3) := bdX4_copy_0.2.2.2.2.2.1
theorem dX4_copy_12 : decode cX4_copy 12 = .ok (.iconst 0, 1) := bdX4_copy_0.2.2.2.2.2.2.1
theorem dX4_copy_13 : decode cX4_copy 13 = .ok (.aload_n 0, 1) := bdX4_copy_0.2.2.2.2.2.2.2.1
theorem dX4_copy_14 : decode cX4_copy 14 = .ok (.getfield 11, 3) := bdX4_copy_0.2.2.2.2.2.2.2.2.1
theorem dX4_copy_17 : decode cX4_copy 17 = .ok (.iconst 0, 1) := bdX4_copy_0.2.2.2.2.2.2.2.2.2.1
theorem dX4_copy_18 : decode cX4_copy 18 = .ok (.bipush 60, 2) := bdX4_copy_0.2.2.2.2.2.2.2.2.2.2.1
theorem dX4_copy_20 : decode cX4_copy 20 = .ok (.invokestatic 19, 3) := bdX4_copy_0.2.2.2.2.2.2.2.2.2.2.2.1
theorem dX4_copy_23 : decode cX4_copy 23 = .ok (.return_, 1) := bdX4_copy_0.2.2.2.2.2.2.2.2.2.2.2.2
theorem bdX9_copyAll_0 : (decode cX9_copyAll 0 = .ok (.aload_n 0, 1)) ∧ (decode cX9_copyAll 1 = .ok (.aload_n 1, 1)) ∧ (decode cX9_copyAll 2 = .ok (.invokevirtual 90, 3)) ∧ (decode cX9_copyAll 5 = .ok (.aload_n 0, 1)) ∧ (decode cX9_copyAll 6 = .ok (.aload_n 1, 1)) ∧ (decode cX9_copyAll 7 = .ok (.getfield 94, 3)) ∧ (decode cX9_copyAll 10 = .ok (.putfield 94, 3)) ∧ (decode cX9_copyAll 13 = .ok (.aload_n 0, 1)) ∧ (decode cX9_copyAll 14 = .ok (.aload_n 1, 1)) ∧ (decode cX9_copyAll 15 = .ok (.getfield 50, 3)) ∧ (decode cX9_copyAll 18 = .ok (.putfield 50, 3)) ∧ (decode cX9_copyAll 21 = .ok (.aload_n 0, 1)) ∧ (decode cX9_copyAll 22 = .ok (.getfield 32, 3)) ∧ (decode cX9_copyAll 25 = .ok (.aload_n 1, 1)) ∧ (decode cX9_copyAll 26 = .ok (.getfield 32, 3)) ∧ (decode cX9_copyAll 29 = .ok (.invokevirtual 97, 3)) := by decide +kernel
theorem dX9_copyAll_0 : decode cX9_copyAll 0 = .ok (.aload_n 0, 1) := bdX9_copyAll_0.1
theorem dX9_copyAll_1 : decode cX9_copyAll 1 = .ok (.aload_n 1, 1) := bdX9_copyAll_0.2.1
theorem dX9_copyAll_2 : decode cX9_copyAll 2 = .ok (.invokevirtual 90, 3) := bdX9_copyAll_0.2.2.1
theorem dX9_copyAll_5 : decode cX9_copyAll 5 = .ok (.aload_n 0, 1) := bdX9_copyAll_0.2.2.2.1
theorem dX9_copyAll_6 : decode cX9_copyAll 6 = .ok (.aload_n 1, 1) := bdX9_copyAll_0.2.2.2.2.1
theorem dX9_copyAll_7 : decode cX9_copyAll 7 = .ok (.getfield 94, 3) := bdX9_copyAll_0.2.2.2.2.2.1
theorem dX9_copyAll_10 : decode cX9_copyAll 10 = .ok (.putfield 94, 3) := bdX9_copyAll_0.2.2.2.2.2.2.1
theorem dX9_copyAll_13 : decode cX9_copyAll 13 = .ok (.aload_n 0, 1) := bdX9_copyAll_0.2.2.2.2.2.2.2.1
theorem dX9_copyAll_14 : decode cX9_copyAll 14 = .ok (.aload_n 1, 1) := bdX9_copyAll_0.2.2.2.2.2.2.2.2.1
theorem dX9_copyAll_15 : decode cX9_copyAll 15 = .ok (.getfield 50, 3) := bdX9_copyAll_0.2.2.2.2.2.2.2.2.2.1
theorem dX9_copyAll_18 : decode cX9_copyAll 18 = .ok (.putfield 50, 3) := bdX9_copyAll_0.2.2.2.2.2.2.2.2.2.2.1
theorem dX9_copyAll_21 : decode cX9_copyAll 21 = .ok (.aload_n 0, 1) := bdX9_copyAll_0.2.2.2.2.2.2.2.2.2.2.2.1
theorem dX9_copyAll_22 : decode cX9_copyAll 22 = .ok (.getfield 32, 3) := bdX9_copyAll_0.2.2.2.2.2.2.2.2.2.2.2.2.1
theorem dX9_copyAll_25 : decode cX9_copyAll 25 = .ok (.aload_n 1, 1) := bdX9_copyAll_0.2.2.2.2.2.2.2.2.2.2.2.2.2.1
theorem dX9_copyAll_26 : decode cX9_copyAll 26 = .ok (.getfield 32, 3) := bdX9_copyAll_0.2.2.2.2.2.2.2.2.2.2.2.2.2.2.1
theorem dX9_copyAll_29 : decode cX9_copyAll 29 = .ok (.invokevirtual 97, 3) := bdX9_copyAll_0.2.2.2.2.2.2.2.2.2.2.2.2.2.2.2
theorem bdX9_copyAll_32 : (decode cX9_copyAll 32 = .ok (.aload_n 0, 1)) ∧ (decode cX9_copyAll 33 = .ok (.getfield 39, 3)) ∧ (decode cX9_copyAll 36 = .ok (.aload_n 1, 1)) ∧ (decode cX9_copyAll 37 = .ok (.getfield 39, 3)) ∧ (decode cX9_copyAll 40 = .ok (.invokevirtual 101, 3)) ∧ (decode cX9_copyAll 43 = .ok (.aload_n 0, 1)) ∧ (decode cX9_copyAll 44 = .ok (.getfield 46, 3)) ∧ (decode cX9_copyAll 47 = .ok (.aload_n 1, 1)) ∧ (decode cX9_copyAll 48 = .ok (.getfield 46, 3)) ∧ (decode cX9_copyAll 51 = .ok (.invokevirtual 104, 3)) ∧ (decode cX9_copyAll 54 = .ok (.return_, 1)) := by decide +kernel
theorem dX9_copyAll_32 : decode cX9_copyAll 32 = .ok (.aload_n 0, 1) := bdX9_copyAll_32.1
theorem dX9_copyAll_33 : decode cX9_copyAll 33 = .ok (.getfield 39, 3) := bdX9_copyAll_32.2.1
theorem dX9_copyAll_36 : decode cX9_copyAll 36 = .ok (.aload_n 1, 1) := bdX9_copyAll_32.2.2.1
theorem dX9_copyAll_37 : decode cX9_copyAll 37 = .ok (.getfield 39, 3) := bdX9_copyAll_32.2.2.2.1
theorem dX9_copyAll_40 : decode cX9_copyAll 40 = .ok (.invokevirtual 101, 3) := bdX9_copyAll_32.2.2.2.2.1
theorem dX9_copyAll_43 : decode cX9_copyAll 43 = .ok (.aload_n 0, 1) := bdX9_copyAll_32.2.2.2.2.2.1
theorem dX9_copyAll_44 : decode cX9_copyAll 44 = .ok (.getfield 46, 3) := bdX9_copyAll_32.2.2.2.2.2.2.1
theorem dX9_copyAll_47 : decode cX9_copyAll 47 = .ok (.aload_n 1, 1) := bdX9_copyAll_32.2.2.2.2.2.2.2.1
theorem dX9_copyAll_48 : decode cX9_copyAll 48 = .ok (.getfield 46, 3) := bdX9_copyAll_32.2.2.2.2.2.2.2.2.1
theorem dX9_copyAll_51 : decode cX9_copyAll 51 = .ok (.invokevirtual 104, 3) := bdX9_copyAll_32.2.2.2.2.2.2.2.2.2.1
theorem dX9_copyAll_54 : decode cX9_copyAll 54 = .ok (.return_, 1) := bdX9_copyAll_32.2.2.2.2.2.2.2.2.2.2
def fX4_steppedOn_13 (a0 : Nat) (a1 : Int32) (a2 : Int32) (m : xMem) : Option (Int32 × xMem) := some ((-1 : Int32), m)
set_option maxRecDepth 4000 in
theorem fX4_steppedOn_13_ok {a0 : Nat} {a1 : Int32} {a2 : Int32} {d : Nat} (hd : 0 ≤ d) (ha0 : isLoads a0) {o3 : Option Value} {o4 : Option Value} {o5 : Option Value} {o6 : Option Value} {o7 : Option Value} {o8 : Option Value} {o9 : Option Value} {o10 : Option Value} {o11 : Option Value} {o12 : Option Value} {o13 : Option Value} {m : xMem} {r : (Int32 × xMem)} (q3 : xNoD o3 = true) (q4 : xNoD o4 = true) (q5 : xNoD o5 = true) (q6 : xNoD o6 = true) (q7 : xNoD o7 = true) (q8 : xNoD o8 = true) (q9 : xNoD o9 = true) (q10 : xNoD o10 = true) (q11 : xNoD o11 = true) (q12 : xNoD o12 = true) (q13 : xNoD o13 = true) (h : fX4_steppedOn_13 a0 a1 a2 m = some r) : xFx hh_260 cX4_steppedOn d 13 [some (.ref a0), some (.int a1), some (.int a2), o3, o4, o5, o6, o7, o8, o9, o10, o11, o12, o13] [] (xLay m) 0 0 (some (.int r.1)) (xLay r.2) := by
  unfold fX4_steppedOn_13 at h
  refine fx_iconst (x := -1) dX4_steppedOn_13 rfl (by decide) ?_
  cases h
  exact fx_ireturn dX4_steppedOn_14 rfl rfl
def fX4_steppedOn_113 (a0 : Nat) (a1 : Int32) (a2 : Int32) (rec46 : Int32 → Int32 → Int32 → Int32 → Int32 → Int32 → xMem → Option (Int32 × xMem)) (rec69 : Int32 → Int32 → Int32 → Int32 → Int32 → Int32 → Int32 → Int32 → Int32 → Int32 → Int32 → xMem → Option (Int32 × xMem)) (l3 : Int32) (l4 : Int32) (l5 : Int32) (l6 : Int32) (l7 : Int32) (l8 : Int32) (l10 : Int32) (l11 : Int32) (l12 : Int32) (l13 : Int32) (s0 : Int32) (s1 : Int32) (m : xMem) : Option (Int32 × xMem) := xLet (s0 + s1) fun x1 => xLet (xMin l10 x1) fun x2 => xLet (xMax l11 x1) fun x3 => xLet (l7 + x1) fun x4 => xLet (l12 + (1 : Int32)) fun x5 => xLet (l13 + a1) fun x6 => rec69 l3 l4 l5 l6 x4 l8 x1 x2 x3 x5 x6 m
set_option maxRecDepth 4000 in
theorem fX4_steppedOn_113_ok {a0 : Nat} {a1 : Int32} {a2 : Int32} {rec46 : Int32 → Int32 → Int32 → Int32 → Int32 → Int32 → xMem → Option (Int32 × xMem)} {rec69 : Int32 → Int32 → Int32 → Int32 → Int32 → Int32 → Int32 → Int32 → Int32 → Int32 → Int32 → xMem → Option (Int32 × xMem)} {d : Nat} (hd : 0 ≤ d) (ha0 : isLoads a0) (hrec46 : ∀ (l3 : Int32) (l4 : Int32) (l5 : Int32) (l6 : Int32) (l7 : Int32) (l8 : Int32) (o9 : Option Value) (o10 : Option Value) (o11 : Option Value) (o12 : Option Value) (o13 : Option Value) (q9 : xNoD o9 = true) (q10 : xNoD o10 = true) (q11 : xNoD o11 = true) (q12 : xNoD o12 = true) (q13 : xNoD o13 = true) (m : xMem) (r : (Int32 × xMem)), rec46 l3 l4 l5 l6 l7 l8 m = some r → xFx hh_260 cX4_steppedOn d 46 [some (.ref a0), some (.int a1), some (.int a2), some (.int l3), some (.int l4), some (.int l5), some (.int l6), some (.int l7), some (.int l8), o9, o10, o11, o12, o13] [] (xLay m) 0 0 (some (.int r.1)) (xLay r.2)) (hrec69 : ∀ (l3 : Int32) (l4 : Int32) (l5 : Int32) (l6 : Int32) (l7 : Int32) (l8 : Int32) (l9 : Int32) (l10 : Int32) (l11 : Int32) (l12 : Int32) (l13 : Int32) (m : xMem) (r : (Int32 × xMem)), rec69 l3 l4 l5 l6 l7 l8 l9 l10 l11 l12 l13 m = some r → xFx hh_260 cX4_steppedOn d 69 [some (.ref a0), some (.int a1), some (.int a2), some (.int l3), some (.int l4), some (.int l5), some (.int l6), some (.int l7), some (.int l8), some (.int l9), some (.int l10), some (.int l11), some (.int l12), some (.int l13)] [] (xLay m) 0 0 (some (.int r.1)) (xLay r.2)) {l3 : Int32} {l4 : Int32} {l5 : Int32} {l6 : Int32} {l7 : Int32} {l8 : Int32} {l10 : Int32} {l11 : Int32} {l12 : Int32} {l13 : Int32} {s0 : Int32} {s1 : Int32} {o9 : Option Value} {m : xMem} {r : (Int32 × xMem)} (q9 : xNoD o9 = true) (h : fX4_steppedOn_113 a0 a1 a2 rec46 rec69 l3 l4 l5 l6 l7 l8 l10 l11 l12 l13 s0 s1 m = some r) : xFx hh_260 cX4_steppedOn d 113 [some (.ref a0), some (.int a1), some (.int a2), some (.int l3), some (.int l4), some (.int l5), some (.int l6), some (.int l7), some (.int l8), o9, some (.int l10), some (.int l11), some (.int l12), some (.int l13)] [.int s1, .int s0] (xLay m) 0 0 (some (.int r.1)) (xLay r.2) := by
  unfold fX4_steppedOn_113 at h
  obtain ⟨x1, hx1, h⟩ := xLet_el h
  refine fx_iadd dX4_steppedOn_113 rfl hx1 ?_
  refine fx_istore (ls2 := [some (.ref a0), some (.int a1), some (.int a2), some (.int l3), some (.int l4), some (.int l5), some (.int l6), some (.int l7), some (.int l8), some (.int x1), some (.int l10), some (.int l11), some (.int l12), some (.int l13)]) dX4_steppedOn_114 rfl rfl rfl ?_
  refine fx_iload dX4_steppedOn_116 rfl rfl ?_
  refine fx_iload dX4_steppedOn_118 rfl rfl ?_
  obtain ⟨x2, hx2, h⟩ := xLet_el h
  refine fx_imin dX4_steppedOn_120 rfl ca_4_25 rfl hx2 ?_
  refine fx_istore (ls2 := [some (.ref a0), some (.int a1), some (.int a2), some (.int l3), some (.int l4), some (.int l5), some (.int l6), some (.int l7), some (.int l8), some (.int x1), some (.int x2), some (.int l11), some (.int l12), some (.int l13)]) dX4_steppedOn_123 rfl rfl rfl ?_
  refine fx_iload dX4_steppedOn_125 rfl rfl ?_
  refine fx_iload dX4_steppedOn_127 rfl rfl ?_
  obtain ⟨x3, hx3, h⟩ := xLet_el h
  refine fx_imax dX4_steppedOn_129 rfl ca_4_31 rfl hx3 ?_
  refine fx_istore (ls2 := [some (.ref a0), some (.int a1), some (.int a2), some (.int l3), some (.int l4), some (.int l5), some (.int l6), some (.int l7), some (.int l8), some (.int x1), some (.int x2), some (.int x3), some (.int l12), some (.int l13)]) dX4_steppedOn_132 rfl rfl rfl ?_
  refine fx_iload dX4_steppedOn_134 rfl rfl ?_
  refine fx_iload dX4_steppedOn_136 rfl rfl ?_
  obtain ⟨x4, hx4, h⟩ := xLet_el h
  refine fx_iadd dX4_steppedOn_138 rfl hx4 ?_
  refine fx_istore (ls2 := [some (.ref a0), some (.int a1), some (.int a2), some (.int l3), some (.int l4), some (.int l5), some (.int l6), some (.int x4), some (.int l8), some (.int x1), some (.int x2), some (.int x3), some (.int l12), some (.int l13)]) dX4_steppedOn_139 rfl rfl rfl ?_
  obtain ⟨x5, hx5, h⟩ := xLet_el h
  refine fx_iinc (ls2 := [some (.ref a0), some (.int a1), some (.int a2), some (.int l3), some (.int l4), some (.int l5), some (.int l6), some (.int x4), some (.int l8), some (.int x1), some (.int x2), some (.int x3), some (.int x5), some (.int l13)]) dX4_steppedOn_141 rfl rfl rfl hx5 rfl ?_
  refine fx_iload dX4_steppedOn_144 rfl rfl ?_
  refine fx_iload_n dX4_steppedOn_146 rfl rfl ?_
  obtain ⟨x6, hx6, h⟩ := xLet_el h
  refine fx_iadd dX4_steppedOn_147 rfl hx6 ?_
  refine fx_istore (ls2 := [some (.ref a0), some (.int a1), some (.int a2), some (.int l3), some (.int l4), some (.int l5), some (.int l6), some (.int x4), some (.int l8), some (.int x1), some (.int x2), some (.int x3), some (.int x5), some (.int x6)]) dX4_steppedOn_148 rfl rfl rfl ?_
  refine fx_goto (t := 69) dX4_steppedOn_150 rfl rfl ?_
  exact hrec69 l3 l4 l5 l6 x4 l8 x1 x2 x3 x5 x6 m r h
def fX4_steppedOn_209 (a0 : Nat) (a1 : Int32) (a2 : Int32) (rec46 : Int32 → Int32 → Int32 → Int32 → Int32 → Int32 → xMem → Option (Int32 × xMem)) (l3 : Int32) (l4 : Int32) (l5 : Int32) (l6 : Int32) (l7 : Int32) (l8 : Int32) (m : xMem) : Option (Int32 × xMem) := xLet (l8 + (1 : Int32)) fun x1 => rec46 l3 l4 l5 l6 l7 x1 m
set_option maxRecDepth 4000 in
theorem fX4_steppedOn_209_ok {a0 : Nat} {a1 : Int32} {a2 : Int32} {rec46 : Int32 → Int32 → Int32 → Int32 → Int32 → Int32 → xMem → Option (Int32 × xMem)} {d : Nat} (hd : 0 ≤ d) (ha0 : isLoads a0) (hrec46 : ∀ (l3 : Int32) (l4 : Int32) (l5 : Int32) (l6 : Int32) (l7 : Int32) (l8 : Int32) (o9 : Option Value) (o10 : Option Value) (o11 : Option Value) (o12 : Option Value) (o13 : Option Value) (q9 : xNoD o9 = true) (q10 : xNoD o10 = true) (q11 : xNoD o11 = true) (q12 : xNoD o12 = true) (q13 : xNoD o13 = true) (m : xMem) (r : (Int32 × xMem)), rec46 l3 l4 l5 l6 l7 l8 m = some r → xFx hh_260 cX4_steppedOn d 46 [some (.ref a0), some (.int a1), some (.int a2), some (.int l3), some (.int l4), some (.int l5), some (.int l6), some (.int l7), some (.int l8), o9, o10, o11, o12, o13] [] (xLay m) 0 0 (some (.int r.1)) (xLay r.2)) {l3 : Int32} {l4 : Int32} {l5 : Int32} {l6 : Int32} {l7 : Int32} {l8 : Int32} {o9 : Option Value} {o10 : Option Value} {o11 : Option Value} {o12 : Option Value} {o13 : Option Value} {m : xMem} {r : (Int32 × xMem)} (q9 : xNoD o9 = true) (q10 : xNoD o10 = true) (q11 : xNoD o11 = true) (q12 : xNoD o12 = true) (q13 : xNoD o13 = true) (h : fX4_steppedOn_209 a0 a1 a2 rec46 l3 l4 l5 l6 l7 l8 m = some r) : xFx hh_260 cX4_steppedOn d 209 [some (.ref a0), some (.int a1), some (.int a2), some (.int l3), some (.int l4), some (.int l5), some (.int l6), some (.int l7), some (.int l8), o9, o10, o11, o12, o13] [] (xLay m) 0 0 (some (.int r.1)) (xLay r.2) := by
  unfold fX4_steppedOn_209 at h
  obtain ⟨x1, hx1, h⟩ := xLet_el h
  refine fx_iinc (ls2 := [some (.ref a0), some (.int a1), some (.int a2), some (.int l3), some (.int l4), some (.int l5), some (.int l6), some (.int l7), some (.int x1), o9, o10, o11, o12, o13]) dX4_steppedOn_209 rfl rfl rfl hx1 rfl ?_
  refine fx_goto (t := 46) dX4_steppedOn_212 rfl rfl ?_
  exact hrec46 l3 l4 l5 l6 l7 x1 (o9) (o10) (o11) (o12) (o13) q9 q10 q11 q12 q13 m r h
def fX4_steppedOn_153 (a0 : Nat) (a1 : Int32) (a2 : Int32) (rec46 : Int32 → Int32 → Int32 → Int32 → Int32 → Int32 → xMem → Option (Int32 × xMem)) (l3 : Int32) (l4 : Int32) (l5 : Int32) (l6 : Int32) (l7 : Int32) (l8 : Int32) (l10 : Int32) (l11 : Int32) (l12 : Int32) (m : xMem) : Option (Int32 × xMem) := xLet ((2 : Int32) - l11) fun x1 => xLet (x1 + l10) fun x2 => if (0 : Int32) ≤ x2 then xLet (l4 + l10) fun x4 => xLet (l10 * l12) fun x5 => xLet (l7 - x5) fun x6 => if l12 ≤ l3 then xLet (l6 + x2) fun x8 => fX4_steppedOn_209 a0 a1 a2 rec46 l3 x4 l5 x8 x6 l8 m else xLet (l5 + x2) fun x9 => fX4_steppedOn_209 a0 a1 a2 rec46 l3 x4 x9 l6 x6 l8 m else some ((-1 : Int32), m)
set_option maxRecDepth 4000 in
theorem fX4_steppedOn_153_ok {a0 : Nat} {a1 : Int32} {a2 : Int32} {rec46 : Int32 → Int32 → Int32 → Int32 → Int32 → Int32 → xMem → Option (Int32 × xMem)} {d : Nat} (hd : 0 ≤ d) (ha0 : isLoads a0) (hrec46 : ∀ (l3 : Int32) (l4 : Int32) (l5 : Int32) (l6 : Int32) (l7 : Int32) (l8 : Int32) (o9 : Option Value) (o10 : Option Value) (o11 : Option Value) (o12 : Option Value) (o13 : Option Value) (q9 : xNoD o9 = true) (q10 : xNoD o10 = true) (q11 : xNoD o11 = true) (q12 : xNoD o12 = true) (q13 : xNoD o13 = true) (m : xMem) (r : (Int32 × xMem)), rec46 l3 l4 l5 l6 l7 l8 m = some r → xFx hh_260 cX4_steppedOn d 46 [some (.ref a0), some (.int a1), some (.int a2), some (.int l3), some (.int l4), some (.int l5), some (.int l6), some (.int l7), some (.int l8), o9, o10, o11, o12, o13] [] (xLay m) 0 0 (some (.int r.1)) (xLay r.2)) {l3 : Int32} {l4 : Int32} {l5 : Int32} {l6 : Int32} {l7 : Int32} {l8 : Int32} {l10 : Int32} {l11 : Int32} {l12 : Int32} {o9 : Option Value} {o13 : Option Value} {m : xMem} {r : (Int32 × xMem)} (q9 : xNoD o9 = true) (q13 : xNoD o13 = true) (h : fX4_steppedOn_153 a0 a1 a2 rec46 l3 l4 l5 l6 l7 l8 l10 l11 l12 m = some r) : xFx hh_260 cX4_steppedOn d 153 [some (.ref a0), some (.int a1), some (.int a2), some (.int l3), some (.int l4), some (.int l5), some (.int l6), some (.int l7), some (.int l8), o9, some (.int l10), some (.int l11), some (.int l12), o13] [] (xLay m) 0 0 (some (.int r.1)) (xLay r.2) := by
  unfold fX4_steppedOn_153 at h
  refine fx_iconst (x := 2) dX4_steppedOn_153 rfl (by decide) ?_
  refine fx_iload dX4_steppedOn_154 rfl rfl ?_
  obtain ⟨x1, hx1, h⟩ := xLet_el h
  refine fx_isub dX4_steppedOn_156 rfl hx1 ?_
  refine fx_iload dX4_steppedOn_157 rfl rfl ?_
  obtain ⟨x2, hx2, h⟩ := xLet_el h
  refine fx_iadd dX4_steppedOn_159 rfl hx2 ?_
  refine fx_istore (ls2 := [some (.ref a0), some (.int a1), some (.int a2), some (.int l3), some (.int l4), some (.int l5), some (.int l6), some (.int l7), some (.int l8), o9, some (.int l10), some (.int l11), some (.int l12), some (.int x2)]) dX4_steppedOn_160 rfl rfl rfl ?_
  refine fx_iload dX4_steppedOn_162 rfl rfl ?_
  refine fx_if_ge (t := 169) dX4_steppedOn_164 rfl rfl (fun hc3 => ?_) (fun hc3 => ?_)
  · rw [if_pos hc3] at h
    refine fx_iload dX4_steppedOn_169 rfl rfl ?_
    refine fx_iload dX4_steppedOn_171 rfl rfl ?_
    obtain ⟨x4, hx4, h⟩ := xLet_el h
    refine fx_iadd dX4_steppedOn_173 rfl hx4 ?_
    refine fx_istore (ls2 := [some (.ref a0), some (.int a1), some (.int a2), some (.int l3), some (.int x4), some (.int l5), some (.int l6), some (.int l7), some (.int l8), o9, some (.int l10), some (.int l11), some (.int l12), some (.int x2)]) dX4_steppedOn_174 rfl rfl rfl ?_
    refine fx_iload dX4_steppedOn_176 rfl rfl ?_
    refine fx_iload dX4_steppedOn_178 rfl rfl ?_
    refine fx_iload dX4_steppedOn_180 rfl rfl ?_
    obtain ⟨x5, hx5, h⟩ := xLet_el h
    refine fx_imul dX4_steppedOn_182 rfl hx5 ?_
    obtain ⟨x6, hx6, h⟩ := xLet_el h
    refine fx_isub dX4_steppedOn_183 rfl hx6 ?_
    refine fx_istore (ls2 := [some (.ref a0), some (.int a1), some (.int a2), some (.int l3), some (.int x4), some (.int l5), some (.int l6), some (.int x6), some (.int l8), o9, some (.int l10), some (.int l11), some (.int l12), some (.int x2)]) dX4_steppedOn_184 rfl rfl rfl ?_
    refine fx_iload dX4_steppedOn_186 rfl rfl ?_
    refine fx_iload_n dX4_steppedOn_188 rfl rfl ?_
    refine fx_icmp_le (t := 202) dX4_steppedOn_189 rfl rfl (fun hc7 => ?_) (fun hc7 => ?_)
    · rw [if_pos hc7] at h
      refine fx_iload dX4_steppedOn_202 rfl rfl ?_
      refine fx_iload dX4_steppedOn_204 rfl rfl ?_
      obtain ⟨x8, hx8, h⟩ := xLet_el h
      refine fx_iadd dX4_steppedOn_206 rfl hx8 ?_
      refine fx_istore (ls2 := [some (.ref a0), some (.int a1), some (.int a2), some (.int l3), some (.int x4), some (.int l5), some (.int x8), some (.int x6), some (.int l8), o9, some (.int l10), some (.int l11), some (.int l12), some (.int x2)]) dX4_steppedOn_207 rfl rfl rfl ?_
      exact fX4_steppedOn_209_ok (o9 := o9) (o10 := some (.int l10)) (o11 := some (.int l11)) (o12 := some (.int l12)) (o13 := some (.int x2)) hd ha0 hrec46 q9 rfl rfl rfl rfl h
    · rw [if_neg hc7] at h
      refine fx_iload dX4_steppedOn_192 rfl rfl ?_
      refine fx_iload dX4_steppedOn_194 rfl rfl ?_
      obtain ⟨x9, hx9, h⟩ := xLet_el h
      refine fx_iadd dX4_steppedOn_196 rfl hx9 ?_
      refine fx_istore (ls2 := [some (.ref a0), some (.int a1), some (.int a2), some (.int l3), some (.int x4), some (.int x9), some (.int l6), some (.int x6), some (.int l8), o9, some (.int l10), some (.int l11), some (.int l12), some (.int x2)]) dX4_steppedOn_197 rfl rfl rfl ?_
      refine fx_goto (t := 209) dX4_steppedOn_199 rfl rfl ?_
      exact fX4_steppedOn_209_ok (o9 := o9) (o10 := some (.int l10)) (o11 := some (.int l11)) (o12 := some (.int l12)) (o13 := some (.int x2)) hd ha0 hrec46 q9 rfl rfl rfl rfl h
  · rw [if_neg hc3] at h
    refine fx_iconst (x := -1) dX4_steppedOn_167 rfl (by decide) ?_
    cases h
    exact fx_ireturn dX4_steppedOn_168 rfl rfl
def fX4_steppedOn_69 (a0 : Nat) (a1 : Int32) (a2 : Int32) (rec46 : Int32 → Int32 → Int32 → Int32 → Int32 → Int32 → xMem → Option (Int32 × xMem)) : Nat → Int32 → Int32 → Int32 → Int32 → Int32 → Int32 → Int32 → Int32 → Int32 → Int32 → Int32 → xMem → Option (Int32 × xMem)
  | 0, _, _, _, _, _, _, _, _, _, _, _, _ => none
  | fuel + 1, l3, l4, l5, l6, l7, l8, l9, l10, l11, l12, l13, m => xLet (m.1 a0 1) fun x1 => if x1 ≤ l13 then fX4_steppedOn_153 a0 a1 a2 rec46 l3 l4 l5 l6 l7 l8 l10 l11 l12 m else if (60 : Int32) ≤ l13 then fX4_steppedOn_153 a0 a1 a2 rec46 l3 l4 l5 l6 l7 l8 l10 l11 l12 m else if l13 ≤ (0 : Int32) then fX4_steppedOn_113 a0 a1 a2 rec46 (fX4_steppedOn_69 a0 a1 a2 rec46 fuel) l3 l4 l5 l6 l7 l8 l10 l11 l12 l13 l9 (0 : Int32) m else bif xIn l13 60 then xLet (m.1 (a0 + 1) l13.toNatClampNeg) fun x5 => xLet (l13 - (1 : Int32)) fun x7 => bif xIn x7 60 then xLet (m.1 (a0 + 1) x7.toNatClampNeg) fun x8 => xLet (x5 - x8) fun x10 => fX4_steppedOn_113 a0 a1 a2 rec46 (fX4_steppedOn_69 a0 a1 a2 rec46 fuel) l3 l4 l5 l6 l7 l8 l10 l11 l12 l13 l9 x10 m else none else none
set_option maxRecDepth 4000 in
theorem fX4_steppedOn_69_ok {a0 : Nat} {a1 : Int32} {a2 : Int32} {rec46 : Int32 → Int32 → Int32 → Int32 → Int32 → Int32 → xMem → Option (Int32 × xMem)} {d : Nat} (hd : 0 ≤ d) (ha0 : isLoads a0) (hrec46 : ∀ (l3 : Int32) (l4 : Int32) (l5 : Int32) (l6 : Int32) (l7 : Int32) (l8 : Int32) (o9 : Option Value) (o10 : Option Value) (o11 : Option Value) (o12 : Option Value) (o13 : Option Value) (q9 : xNoD o9 = true) (q10 : xNoD o10 = true) (q11 : xNoD o11 = true) (q12 : xNoD o12 = true) (q13 : xNoD o13 = true) (m : xMem) (r : (Int32 × xMem)), rec46 l3 l4 l5 l6 l7 l8 m = some r → xFx hh_260 cX4_steppedOn d 46 [some (.ref a0), some (.int a1), some (.int a2), some (.int l3), some (.int l4), some (.int l5), some (.int l6), some (.int l7), some (.int l8), o9, o10, o11, o12, o13] [] (xLay m) 0 0 (some (.int r.1)) (xLay r.2)) : ∀ (fuel : Nat) (l3 : Int32) (l4 : Int32) (l5 : Int32) (l6 : Int32) (l7 : Int32) (l8 : Int32) (l9 : Int32) (l10 : Int32) (l11 : Int32) (l12 : Int32) (l13 : Int32) (m : xMem) (r : (Int32 × xMem)), fX4_steppedOn_69 a0 a1 a2 rec46 fuel l3 l4 l5 l6 l7 l8 l9 l10 l11 l12 l13 m = some r → xFx hh_260 cX4_steppedOn d 69 [some (.ref a0), some (.int a1), some (.int a2), some (.int l3), some (.int l4), some (.int l5), some (.int l6), some (.int l7), some (.int l8), some (.int l9), some (.int l10), some (.int l11), some (.int l12), some (.int l13)] [] (xLay m) 0 0 (some (.int r.1)) (xLay r.2) := by
  intro fuel
  induction fuel with
  | zero => intro l3 l4 l5 l6 l7 l8 l9 l10 l11 l12 l13  m r  h; cases h
  | succ fuel ih =>
    intro l3 l4 l5 l6 l7 l8 l9 l10 l11 l12 l13  m r  h
    unfold fX4_steppedOn_69 at h
    refine fx_iload dX4_steppedOn_69 rfl rfl ?_
    refine fx_aload_n dX4_steppedOn_71 rfl rfl ?_
    obtain ⟨x1, hx1, h⟩ := xLet_el h
    refine gx_get dX4_steppedOn_72 rfl fd_4_15 ha0.1 rfl rfl hx1 ?_
    refine fx_icmp_ge (t := 153) dX4_steppedOn_75 rfl rfl (fun hc2 => ?_) (fun hc2 => ?_)
    · rw [if_pos hc2] at h
      exact fX4_steppedOn_153_ok (o9 := some (.int l9)) (o13 := some (.int l13)) hd ha0 hrec46 rfl rfl h
    · rw [if_neg hc2] at h
      refine fx_iload dX4_steppedOn_78 rfl rfl ?_
      refine fx_bipush (x := 60) dX4_steppedOn_80 rfl (by decide) ?_
      refine fx_icmp_ge (t := 153) dX4_steppedOn_82 rfl rfl (fun hc3 => ?_) (fun hc3 => ?_)
      · rw [if_pos hc3] at h
        exact fX4_steppedOn_153_ok (o9 := some (.int l9)) (o13 := some (.int l13)) hd ha0 hrec46 rfl rfl h
      · rw [if_neg hc3] at h
        refine fx_iload dX4_steppedOn_85 rfl rfl ?_
        refine fx_iload dX4_steppedOn_87 rfl rfl ?_
        refine fx_if_le (t := 112) dX4_steppedOn_89 rfl rfl (fun hc4 => ?_) (fun hc4 => ?_)
        · rw [if_pos hc4] at h
          refine fx_iconst (x := 0) dX4_steppedOn_112 rfl (by decide) ?_
          exact fX4_steppedOn_113_ok (o9 := some (.int l9)) hd ha0 hrec46 ih rfl h
        · rw [if_neg hc4] at h
          refine fx_aload_n dX4_steppedOn_92 rfl rfl ?_
          refine gx_getr dX4_steppedOn_93 rfl fd_4_11 ha0.1 rfl rfl ?_
          refine fx_iload dX4_steppedOn_96 rfl rfl ?_
          obtain ⟨hj6, h⟩ := xChk_el h
          obtain ⟨x5, hx5, h⟩ := xLet_el h
          refine gx_iaload dX4_steppedOn_98 rfl ha0.2 hj6 hx5 ?_
          refine fx_aload_n dX4_steppedOn_99 rfl rfl ?_
          refine gx_getr dX4_steppedOn_100 rfl fd_4_11 ha0.1 rfl rfl ?_
          refine fx_iload dX4_steppedOn_103 rfl rfl ?_
          refine fx_iconst (x := 1) dX4_steppedOn_105 rfl (by decide) ?_
          obtain ⟨x7, hx7, h⟩ := xLet_el h
          refine fx_isub dX4_steppedOn_106 rfl hx7 ?_
          obtain ⟨hj9, h⟩ := xChk_el h
          obtain ⟨x8, hx8, h⟩ := xLet_el h
          refine gx_iaload dX4_steppedOn_107 rfl ha0.2 hj9 hx8 ?_
          obtain ⟨x10, hx10, h⟩ := xLet_el h
          refine fx_isub dX4_steppedOn_108 rfl hx10 ?_
          refine fx_goto (t := 113) dX4_steppedOn_109 rfl rfl ?_
          exact fX4_steppedOn_113_ok (o9 := some (.int l9)) hd ha0 hrec46 ih rfl h
def fX4_steppedOn_230 (a0 : Nat) (a1 : Int32) (a2 : Int32) (m : xMem) : Option (Int32 × xMem) := some ((-1 : Int32), m)
set_option maxRecDepth 4000 in
theorem fX4_steppedOn_230_ok {a0 : Nat} {a1 : Int32} {a2 : Int32} {d : Nat} (hd : 0 ≤ d) (ha0 : isLoads a0) {o3 : Option Value} {o4 : Option Value} {o5 : Option Value} {o6 : Option Value} {o7 : Option Value} {o8 : Option Value} {o9 : Option Value} {o10 : Option Value} {o11 : Option Value} {o12 : Option Value} {o13 : Option Value} {m : xMem} {r : (Int32 × xMem)} (q3 : xNoD o3 = true) (q4 : xNoD o4 = true) (q5 : xNoD o5 = true) (q6 : xNoD o6 = true) (q7 : xNoD o7 = true) (q8 : xNoD o8 = true) (q9 : xNoD o9 = true) (q10 : xNoD o10 = true) (q11 : xNoD o11 = true) (q12 : xNoD o12 = true) (q13 : xNoD o13 = true) (h : fX4_steppedOn_230 a0 a1 a2 m = some r) : xFx hh_260 cX4_steppedOn d 230 [some (.ref a0), some (.int a1), some (.int a2), o3, o4, o5, o6, o7, o8, o9, o10, o11, o12, o13] [] (xLay m) 0 0 (some (.int r.1)) (xLay r.2) := by
  unfold fX4_steppedOn_230 at h
  refine fx_iconst (x := -1) dX4_steppedOn_230 rfl (by decide) ?_
  cases h
  exact fx_ireturn dX4_steppedOn_231 rfl rfl
def fX4_steppedOn_255 (a0 : Nat) (a1 : Int32) (a2 : Int32) (l3 : Int32) (l4 : Int32) (l7 : Int32) (s0 : Int32) (m : xMem) : Option (Int32 × xMem) := xLet (l4 * l3) fun x1 => xLet (l7 + x1) fun x2 => xLet (x2 + s0) fun x3 => some (x3, m)
set_option maxRecDepth 4000 in
theorem fX4_steppedOn_255_ok {a0 : Nat} {a1 : Int32} {a2 : Int32} {d : Nat} (hd : 0 ≤ d) (ha0 : isLoads a0) {l3 : Int32} {l4 : Int32} {l7 : Int32} {s0 : Int32} {o5 : Option Value} {o6 : Option Value} {o8 : Option Value} {o9 : Option Value} {o10 : Option Value} {o11 : Option Value} {o12 : Option Value} {o13 : Option Value} {m : xMem} {r : (Int32 × xMem)} (q5 : xNoD o5 = true) (q6 : xNoD o6 = true) (q8 : xNoD o8 = true) (q9 : xNoD o9 = true) (q10 : xNoD o10 = true) (q11 : xNoD o11 = true) (q12 : xNoD o12 = true) (q13 : xNoD o13 = true) (h : fX4_steppedOn_255 a0 a1 a2 l3 l4 l7 s0 m = some r) : xFx hh_260 cX4_steppedOn d 255 [some (.ref a0), some (.int a1), some (.int a2), some (.int l3), some (.int l4), o5, o6, some (.int l7), o8, o9, o10, o11, o12, o13] [.int s0] (xLay m) 0 0 (some (.int r.1)) (xLay r.2) := by
  unfold fX4_steppedOn_255 at h
  refine fx_istore (ls2 := [some (.ref a0), some (.int a1), some (.int a2), some (.int l3), some (.int l4), o5, o6, some (.int l7), some (.int s0), o9, o10, o11, o12, o13]) dX4_steppedOn_255 rfl rfl rfl ?_
  refine fx_iload dX4_steppedOn_257 rfl rfl ?_
  refine fx_iload dX4_steppedOn_259 rfl rfl ?_
  refine fx_iload_n dX4_steppedOn_261 rfl rfl ?_
  obtain ⟨x1, hx1, h⟩ := xLet_el h
  refine fx_imul dX4_steppedOn_262 rfl hx1 ?_
  obtain ⟨x2, hx2, h⟩ := xLet_el h
  refine fx_iadd dX4_steppedOn_263 rfl hx2 ?_
  refine fx_iload dX4_steppedOn_264 rfl rfl ?_
  obtain ⟨x3, hx3, h⟩ := xLet_el h
  refine fx_iadd dX4_steppedOn_266 rfl hx3 ?_
  cases h
  exact fx_ireturn dX4_steppedOn_267 rfl rfl
def fX4_steppedOn_46 (a0 : Nat) (a1 : Int32) (a2 : Int32) : Nat → Int32 → Int32 → Int32 → Int32 → Int32 → Int32 → xMem → Option (Int32 × xMem)
  | 0, _, _, _, _, _, _, _ => none
  | fuel + 1, l3, l4, l5, l6, l7, l8, m => if (0 : Int32) < l8 then if l4 < (0 : Int32) then fX4_steppedOn_230 a0 a1 a2 m else xLet (l5 + l6) fun x3 => if l4 ≤ x3 then if a2 = (0 : Int32) then xLet (l4 - l6) fun x6 => xLet (xMax (0 : Int32) x6) fun x7 => fX4_steppedOn_255 a0 a1 a2 l3 l4 l7 x7 m else xLet (xMin l4 l5) fun x8 => fX4_steppedOn_255 a0 a1 a2 l3 l4 l7 x8 m else fX4_steppedOn_230 a0 a1 a2 m else xLet (l8 + a1) fun x9 => fX4_steppedOn_69 a0 a1 a2 (fX4_steppedOn_46 a0 a1 a2 fuel) xFuel l3 l4 l5 l6 l7 l8 (0 : Int32) (0 : Int32) (0 : Int32) (0 : Int32) x9 m
set_option maxRecDepth 4000 in
theorem fX4_steppedOn_46_ok {a0 : Nat} {a1 : Int32} {a2 : Int32} {d : Nat} (hd : 0 ≤ d) (ha0 : isLoads a0) : ∀ (fuel : Nat) (l3 : Int32) (l4 : Int32) (l5 : Int32) (l6 : Int32) (l7 : Int32) (l8 : Int32) (o9 : Option Value) (o10 : Option Value) (o11 : Option Value) (o12 : Option Value) (o13 : Option Value) (q9 : xNoD o9 = true) (q10 : xNoD o10 = true) (q11 : xNoD o11 = true) (q12 : xNoD o12 = true) (q13 : xNoD o13 = true) (m : xMem) (r : (Int32 × xMem)), fX4_steppedOn_46 a0 a1 a2 fuel l3 l4 l5 l6 l7 l8 m = some r → xFx hh_260 cX4_steppedOn d 46 [some (.ref a0), some (.int a1), some (.int a2), some (.int l3), some (.int l4), some (.int l5), some (.int l6), some (.int l7), some (.int l8), o9, o10, o11, o12, o13] [] (xLay m) 0 0 (some (.int r.1)) (xLay r.2) := by
  intro fuel
  induction fuel with
  | zero => intro l3 l4 l5 l6 l7 l8 o9 o10 o11 o12 o13 q9 q10 q11 q12 q13 m r  h; cases h
  | succ fuel ih =>
    intro l3 l4 l5 l6 l7 l8 o9 o10 o11 o12 o13 q9 q10 q11 q12 q13 m r  h
    unfold fX4_steppedOn_46 at h
    refine fx_iload dX4_steppedOn_46 rfl rfl ?_
    refine fx_if_gt (t := 215) dX4_steppedOn_48 rfl rfl (fun hc1 => ?_) (fun hc1 => ?_)
    · rw [if_pos hc1] at h
      refine fx_iload dX4_steppedOn_215 rfl rfl ?_
      refine fx_if_lt (t := 230) dX4_steppedOn_217 rfl rfl (fun hc2 => ?_) (fun hc2 => ?_)
      · rw [if_pos hc2] at h
        exact fX4_steppedOn_230_ok (o3 := some (.int l3)) (o4 := some (.int l4)) (o5 := some (.int l5)) (o6 := some (.int l6)) (o7 := some (.int l7)) (o8 := some (.int l8)) (o9 := o9) (o10 := o10) (o11 := o11) (o12 := o12) (o13 := o13) hd ha0 rfl rfl rfl rfl rfl rfl q9 q10 q11 q12 q13 h
      · rw [if_neg hc2] at h
        refine fx_iload dX4_steppedOn_220 rfl rfl ?_
        refine fx_iload dX4_steppedOn_222 rfl rfl ?_
        refine fx_iload dX4_steppedOn_224 rfl rfl ?_
        obtain ⟨x3, hx3, h⟩ := xLet_el h
        refine fx_iadd dX4_steppedOn_226 rfl hx3 ?_
        refine fx_icmp_le (t := 232) dX4_steppedOn_227 rfl rfl (fun hc4 => ?_) (fun hc4 => ?_)
        · rw [if_pos hc4] at h
          refine fx_iload_n dX4_steppedOn_232 rfl rfl ?_
          refine fx_if_eq (t := 246) dX4_steppedOn_233 rfl rfl (fun hc5 => ?_) (fun hc5 => ?_)
          · rw [if_pos hc5] at h
            refine fx_iconst (x := 0) dX4_steppedOn_246 rfl (by decide) ?_
            refine fx_iload dX4_steppedOn_247 rfl rfl ?_
            refine fx_iload dX4_steppedOn_249 rfl rfl ?_
            obtain ⟨x6, hx6, h⟩ := xLet_el h
            refine fx_isub dX4_steppedOn_251 rfl hx6 ?_
            obtain ⟨x7, hx7, h⟩ := xLet_el h
            refine fx_imax dX4_steppedOn_252 rfl ca_4_31 rfl hx7 ?_
            exact fX4_steppedOn_255_ok (o5 := some (.int l5)) (o6 := some (.int l6)) (o8 := some (.int l8)) (o9 := o9) (o10 := o10) (o11 := o11) (o12 := o12) (o13 := o13) hd ha0 rfl rfl rfl q9 q10 q11 q12 q13 h
          · rw [if_neg hc5] at h
            refine fx_iload dX4_steppedOn_236 rfl rfl ?_
            refine fx_iload dX4_steppedOn_238 rfl rfl ?_
            obtain ⟨x8, hx8, h⟩ := xLet_el h
            refine fx_imin dX4_steppedOn_240 rfl ca_4_25 rfl hx8 ?_
            refine fx_goto (t := 255) dX4_steppedOn_243 rfl rfl ?_
            exact fX4_steppedOn_255_ok (o5 := some (.int l5)) (o6 := some (.int l6)) (o8 := some (.int l8)) (o9 := o9) (o10 := o10) (o11 := o11) (o12 := o12) (o13 := o13) hd ha0 rfl rfl rfl q9 q10 q11 q12 q13 h
        · rw [if_neg hc4] at h
          exact fX4_steppedOn_230_ok (o3 := some (.int l3)) (o4 := some (.int l4)) (o5 := some (.int l5)) (o6 := some (.int l6)) (o7 := some (.int l7)) (o8 := some (.int l8)) (o9 := o9) (o10 := o10) (o11 := o11) (o12 := o12) (o13 := o13) hd ha0 rfl rfl rfl rfl rfl rfl q9 q10 q11 q12 q13 h
    · rw [if_neg hc1] at h
      refine fx_iconst (x := 0) dX4_steppedOn_51 rfl (by decide) ?_
      refine fx_istore (ls2 := [some (.ref a0), some (.int a1), some (.int a2), some (.int l3), some (.int l4), some (.int l5), some (.int l6), some (.int l7), some (.int l8), some (.int (0 : Int32)), o10, o11, o12, o13]) dX4_steppedOn_52 rfl rfl rfl ?_
      refine fx_iconst (x := 0) dX4_steppedOn_54 rfl (by decide) ?_
      refine fx_istore (ls2 := [some (.ref a0), some (.int a1), some (.int a2), some (.int l3), some (.int l4), some (.int l5), some (.int l6), some (.int l7), some (.int l8), some (.int (0 : Int32)), some (.int (0 : Int32)), o11, o12, o13]) dX4_steppedOn_55 rfl rfl rfl ?_
      refine fx_iconst (x := 0) dX4_steppedOn_57 rfl (by decide) ?_
      refine fx_istore (ls2 := [some (.ref a0), some (.int a1), some (.int a2), some (.int l3), some (.int l4), some (.int l5), some (.int l6), some (.int l7), some (.int l8), some (.int (0 : Int32)), some (.int (0 : Int32)), some (.int (0 : Int32)), o12, o13]) dX4_steppedOn_58 rfl rfl rfl ?_
      refine fx_iconst (x := 0) dX4_steppedOn_60 rfl (by decide) ?_
      refine fx_istore (ls2 := [some (.ref a0), some (.int a1), some (.int a2), some (.int l3), some (.int l4), some (.int l5), some (.int l6), some (.int l7), some (.int l8), some (.int (0 : Int32)), some (.int (0 : Int32)), some (.int (0 : Int32)), some (.int (0 : Int32)), o13]) dX4_steppedOn_61 rfl rfl rfl ?_
      refine fx_iload dX4_steppedOn_63 rfl rfl ?_
      refine fx_iload_n dX4_steppedOn_65 rfl rfl ?_
      obtain ⟨x9, hx9, h⟩ := xLet_el h
      refine fx_iadd dX4_steppedOn_66 rfl hx9 ?_
      refine fx_istore (ls2 := [some (.ref a0), some (.int a1), some (.int a2), some (.int l3), some (.int l4), some (.int l5), some (.int l6), some (.int l7), some (.int l8), some (.int (0 : Int32)), some (.int (0 : Int32)), some (.int (0 : Int32)), some (.int (0 : Int32)), some (.int x9)]) dX4_steppedOn_67 rfl rfl rfl ?_
      exact fX4_steppedOn_69_ok hd ha0 ih xFuel l3 l4 l5 l6 l7 l8 (0 : Int32) (0 : Int32) (0 : Int32) (0 : Int32) x9 m r h
def fX4_steppedOn_0 (a0 : Nat) (a1 : Int32) (a2 : Int32) (m : xMem) : Option (Int32 × xMem) := if a1 < (1 : Int32) then fX4_steppedOn_13 a0 a1 a2 m else xLet (m.1 a0 1) fun x2 => if (1 : Int32) ≤ x2 then xLet (m.1 a0 1) fun x4 => xLet (x4 - (1 : Int32)) fun x5 => bif !decide (a1 = 0) then xLet (x5 / a1) fun x6 => bif xIn (0 : Int32) 60 then xLet (m.1 (a0 + 1) (0 : Int32).toNatClampNeg) fun x8 => xLet ((1 : Int32) - a1) fun x10 => fX4_steppedOn_46 a0 a1 a2 xFuel x6 x8 (0 : Int32) (0 : Int32) (0 : Int32) x10 m else none else none else fX4_steppedOn_13 a0 a1 a2 m
set_option maxRecDepth 4000 in
theorem fX4_steppedOn_0_ok {a0 : Nat} {a1 : Int32} {a2 : Int32} {d : Nat} (hd : 0 ≤ d) (ha0 : isLoads a0) {o3 : Option Value} {o4 : Option Value} {o5 : Option Value} {o6 : Option Value} {o7 : Option Value} {o8 : Option Value} {o9 : Option Value} {o10 : Option Value} {o11 : Option Value} {o12 : Option Value} {o13 : Option Value} {m : xMem} {r : (Int32 × xMem)} (q3 : xNoD o3 = true) (q4 : xNoD o4 = true) (q5 : xNoD o5 = true) (q6 : xNoD o6 = true) (q7 : xNoD o7 = true) (q8 : xNoD o8 = true) (q9 : xNoD o9 = true) (q10 : xNoD o10 = true) (q11 : xNoD o11 = true) (q12 : xNoD o12 = true) (q13 : xNoD o13 = true) (h : fX4_steppedOn_0 a0 a1 a2 m = some r) : xFx hh_260 cX4_steppedOn d 0 [some (.ref a0), some (.int a1), some (.int a2), o3, o4, o5, o6, o7, o8, o9, o10, o11, o12, o13] [] (xLay m) 0 0 (some (.int r.1)) (xLay r.2) := by
  unfold fX4_steppedOn_0 at h
  refine fx_iload_n dX4_steppedOn_0 rfl rfl ?_
  refine fx_iconst (x := 1) dX4_steppedOn_1 rfl (by decide) ?_
  refine fx_icmp_lt (t := 13) dX4_steppedOn_2 rfl rfl (fun hc1 => ?_) (fun hc1 => ?_)
  · rw [if_pos hc1] at h
    exact fX4_steppedOn_13_ok (o3 := o3) (o4 := o4) (o5 := o5) (o6 := o6) (o7 := o7) (o8 := o8) (o9 := o9) (o10 := o10) (o11 := o11) (o12 := o12) (o13 := o13) hd ha0 q3 q4 q5 q6 q7 q8 q9 q10 q11 q12 q13 h
  · rw [if_neg hc1] at h
    refine fx_aload_n dX4_steppedOn_5 rfl rfl ?_
    obtain ⟨x2, hx2, h⟩ := xLet_el h
    refine gx_get dX4_steppedOn_6 rfl fd_4_15 ha0.1 rfl rfl hx2 ?_
    refine fx_iconst (x := 1) dX4_steppedOn_9 rfl (by decide) ?_
    refine fx_icmp_ge (t := 15) dX4_steppedOn_10 rfl rfl (fun hc3 => ?_) (fun hc3 => ?_)
    · rw [if_pos hc3] at h
      refine fx_aload_n dX4_steppedOn_15 rfl rfl ?_
      obtain ⟨x4, hx4, h⟩ := xLet_el h
      refine gx_get dX4_steppedOn_16 rfl fd_4_15 ha0.1 rfl rfl hx4 ?_
      refine fx_iconst (x := 1) dX4_steppedOn_19 rfl (by decide) ?_
      obtain ⟨x5, hx5, h⟩ := xLet_el h
      refine fx_isub dX4_steppedOn_20 rfl hx5 ?_
      refine fx_iload_n dX4_steppedOn_21 rfl rfl ?_
      obtain ⟨hz7, h⟩ := xChk_el h
      obtain ⟨x6, hx6, h⟩ := xLet_el h
      refine fx_idiv dX4_steppedOn_22 rfl (by simpa using hz7) hx6 ?_
      refine fx_istore_n (ls2 := [some (.ref a0), some (.int a1), some (.int a2), some (.int x6), o4, o5, o6, o7, o8, o9, o10, o11, o12, o13]) dX4_steppedOn_23 rfl rfl rfl ?_
      refine fx_aload_n dX4_steppedOn_24 rfl rfl ?_
      refine gx_getr dX4_steppedOn_25 rfl fd_4_11 ha0.1 rfl rfl ?_
      refine fx_iconst (x := 0) dX4_steppedOn_28 rfl (by decide) ?_
      obtain ⟨hj9, h⟩ := xChk_el h
      obtain ⟨x8, hx8, h⟩ := xLet_el h
      refine gx_iaload dX4_steppedOn_29 rfl ha0.2 hj9 hx8 ?_
      refine fx_istore (ls2 := [some (.ref a0), some (.int a1), some (.int a2), some (.int x6), some (.int x8), o5, o6, o7, o8, o9, o10, o11, o12, o13]) dX4_steppedOn_30 rfl rfl rfl ?_
      refine fx_iconst (x := 0) dX4_steppedOn_32 rfl (by decide) ?_
      refine fx_istore (ls2 := [some (.ref a0), some (.int a1), some (.int a2), some (.int x6), some (.int x8), some (.int (0 : Int32)), o6, o7, o8, o9, o10, o11, o12, o13]) dX4_steppedOn_33 rfl rfl rfl ?_
      refine fx_iconst (x := 0) dX4_steppedOn_35 rfl (by decide) ?_
      refine fx_istore (ls2 := [some (.ref a0), some (.int a1), some (.int a2), some (.int x6), some (.int x8), some (.int (0 : Int32)), some (.int (0 : Int32)), o7, o8, o9, o10, o11, o12, o13]) dX4_steppedOn_36 rfl rfl rfl ?_
      refine fx_iconst (x := 0) dX4_steppedOn_38 rfl (by decide) ?_
      refine fx_istore (ls2 := [some (.ref a0), some (.int a1), some (.int a2), some (.int x6), some (.int x8), some (.int (0 : Int32)), some (.int (0 : Int32)), some (.int (0 : Int32)), o8, o9, o10, o11, o12, o13]) dX4_steppedOn_39 rfl rfl rfl ?_
      refine fx_iconst (x := 1) dX4_steppedOn_41 rfl (by decide) ?_
      refine fx_iload_n dX4_steppedOn_42 rfl rfl ?_
      obtain ⟨x10, hx10, h⟩ := xLet_el h
      refine fx_isub dX4_steppedOn_43 rfl hx10 ?_
      refine fx_istore (ls2 := [some (.ref a0), some (.int a1), some (.int a2), some (.int x6), some (.int x8), some (.int (0 : Int32)), some (.int (0 : Int32)), some (.int (0 : Int32)), some (.int x10), o9, o10, o11, o12, o13]) dX4_steppedOn_44 rfl rfl rfl ?_
      exact fX4_steppedOn_46_ok hd ha0 xFuel x6 x8 (0 : Int32) (0 : Int32) (0 : Int32) x10 (o9) (o10) (o11) (o12) (o13) q9 q10 q11 q12 q13 m r h
    · rw [if_neg hc3] at h
      exact fX4_steppedOn_13_ok (o3 := o3) (o4 := o4) (o5 := o5) (o6 := o6) (o7 := o7) (o8 := o8) (o9 := o9) (o10 := o10) (o11 := o11) (o12 := o12) (o13 := o13) hd ha0 q3 q4 q5 q6 q7 q8 q9 q10 q11 q12 q13 h
def fX4_steppedOn (a0 : Nat) (a1 : Int32) (a2 : Int32) (m : xMem) : Option (Int32 × xMem) := fX4_steppedOn_0 a0 a1 a2  m
theorem fX4_steppedOn_ok {a0 : Nat} {a1 : Int32} {a2 : Int32} {m : xMem} {r : (Int32 × xMem)} {d : Nat} (hd : 1 ≤ d) (ha0 : isLoads a0) (h : fX4_steppedOn a0 a1 a2 m = some r) : xEx d 260 [.ref a0, .int a1, .int a2] (xLay m) (some (.int r.1)) (xLay r.2) := by
  obtain ⟨d, rfl⟩ : ∃ q, d = q + 1 := ⟨d - 1, by omega⟩
  exact xEx_of me_260 rfl (fX4_steppedOn_0_ok (d := d) (o3 := none) (o4 := none) (o5 := none) (o6 := none) (o7 := none) (o8 := none) (o9 := none) (o10 := none) (o11 := none) (o12 := none) (o13 := none) (by omega) ha0 rfl rfl rfl rfl rfl rfl rfl rfl rfl rfl rfl h)
def fX11_taken_26 (a0 : Nat) (a1 : Int32) (a2 : Int32) (s0 : Int32) (m : xMem) : Option (Int32 × xMem) := some (s0, m)
set_option maxRecDepth 4000 in
theorem fX11_taken_26_ok {a0 : Nat} {a1 : Int32} {a2 : Int32} {d : Nat} (hd : 1 ≤ d) (ha0 : isMS a0) {s0 : Int32} {m : xMem} {r : (Int32 × xMem)} (h : fX11_taken_26 a0 a1 a2 s0 m = some r) : xFx hh_259 cX11_taken d 26 [some (.ref a0), some (.int a1), some (.int a2)] [.int s0] (xLay m) 0 0 (some (.int r.1)) (xLay r.2) := by
  unfold fX11_taken_26 at h
  cases h
  exact fx_ireturn dX11_taken_26 rfl rfl
def fX11_taken_0 (a0 : Nat) (a1 : Int32) (a2 : Int32) (m : xMem) : Option (Int32 × xMem) := (fX11_within a1 (2 : Int32) (40 : Int32) m).bind fun p1 => if p1.1 = (0 : Int32) then fX11_taken_26 a0 a1 a2 (-1 : Int32) p1.2 else (fX4_steppedOn (a0 + 1 + 13) a1 a2 p1.2).bind fun p3 => fX11_taken_26 a0 a1 a2 p3.1 p3.2
set_option maxRecDepth 4000 in
theorem fX11_taken_0_ok {a0 : Nat} {a1 : Int32} {a2 : Int32} {d : Nat} (hd : 1 ≤ d) (ha0 : isMS a0) {m : xMem} {r : (Int32 × xMem)} (h : fX11_taken_0 a0 a1 a2 m = some r) : xFx hh_259 cX11_taken d 0 [some (.ref a0), some (.int a1), some (.int a2)] [] (xLay m) 0 0 (some (.int r.1)) (xLay r.2) := by
  unfold fX11_taken_0 at h
  refine fx_iload_n dX11_taken_0 rfl rfl ?_
  refine fx_iconst (x := 2) dX11_taken_1 rfl (by decide) ?_
  refine fx_bipush (x := 40) dX11_taken_2 rfl (by decide) ?_
  obtain ⟨p1, ep1, h⟩ := xBind_el h
  refine gx_calls (as := [.int a1, .int (2 : Int32), .int (40 : Int32)]) (r := []) rfl dX11_taken_4 ca_11_47 rfl me_14 rfl rfl rfl rfl (fX11_within_ok (d := d) (by omega) ep1) rfl rfl ?_
  refine fx_if_eq (t := 25) dX11_taken_7 rfl rfl (fun hc2 => ?_) (fun hc2 => ?_)
  · rw [if_pos hc2] at h
    refine fx_iconst (x := -1) dX11_taken_25 rfl (by decide) ?_
    exact fX11_taken_26_ok hd ha0 h
  · rw [if_neg hc2] at h
    refine fx_aload_n dX11_taken_10 rfl rfl ?_
    refine gx_getr dX11_taken_11 rfl fd_11_10 ha0.1 rfl rfl ?_
    refine gx_getr dX11_taken_14 rfl fd_11_301 ha0.2.1.1 rfl rfl ?_
    refine fx_iload_n dX11_taken_17 rfl rfl ?_
    refine fx_iload_n dX11_taken_18 rfl rfl ?_
    obtain ⟨p3, ep3, h⟩ := xBind_el h
    refine gx_callv (as := [.int a1, .int a2]) (r := []) rfl dX11_taken_19 ca_11_310 rfl me_260 rfl rfl rfl rfl (ha0.2.1.2.2.2.2.2.2.1.1) rfl (fX4_steppedOn_ok (d := d) (by omega) ha0.2.1.2.2.2.2.2.2.1 ep3) rfl rfl ?_
    refine fx_goto (t := 26) dX11_taken_22 rfl rfl ?_
    exact fX11_taken_26_ok hd ha0 h
def fX11_taken (a0 : Nat) (a1 : Int32) (a2 : Int32) (m : xMem) : Option (Int32 × xMem) := fX11_taken_0 a0 a1 a2  m
theorem fX11_taken_ok {a0 : Nat} {a1 : Int32} {a2 : Int32} {m : xMem} {r : (Int32 × xMem)} {d : Nat} (hd : 2 ≤ d) (ha0 : isMS a0) (h : fX11_taken a0 a1 a2 m = some r) : xEx d 259 [.ref a0, .int a1, .int a2] (xLay m) (some (.int r.1)) (xLay r.2) := by
  obtain ⟨d, rfl⟩ : ∃ q, d = q + 1 := ⟨d - 1, by omega⟩
  exact xEx_of me_259 rfl (fX11_taken_0_ok (d := d) (by omega) ha0 h)
def fX12_chain_9 (a0 : Nat) (a1 : Int32) (a2 : Int32) (a3 : Int32) : Nat → Int32 → Int32 → Int32 → xMem → Option (Int32 × xMem)
  | 0, _, _, _, _ => none
  | fuel + 1, l4, l5, l6, m => bif xIn (8 : Int32) 1610 then xLet (m.1 (a0 + 1) (8 : Int32).toNatClampNeg) fun x1 => if x1 ≤ l6 then some (l5, m) else xLet ((1550 : Int32) + l6) fun x4 => bif xIn x4 1610 then xLet (m.1 (a0 + 1) x4.toNatClampNeg) fun x5 => xLet ((1550 : Int32) + l6) fun x7 => xLet (x7 - (1 : Int32)) fun x8 => bif xIn x8 1610 then xLet (m.1 (a0 + 1) x8.toNatClampNeg) fun x9 => xLet (x5 - x9) fun x11 => xLet (l4 + x11) fun x12 => (fX12_in x12 (0 : Int32) (2 : Int32) m).bind fun p13 => if ¬ p13.1 = (0 : Int32) then xLet (l5 + x12) fun x15 => xLet (l6 + a1) fun x16 => fX12_chain_9 a0 a1 a2 a3 fuel x12 x15 x16 p13.2 else some ((-1 : Int32), p13.2) else none else none else none
set_option maxRecDepth 4000 in
theorem fX12_chain_9_ok {a0 : Nat} {a1 : Int32} {a2 : Int32} {a3 : Int32} {d : Nat} (hd : 1 ≤ d) (ha0 : isModel a0) : ∀ (fuel : Nat) (l4 : Int32) (l5 : Int32) (l6 : Int32) (m : xMem) (r : (Int32 × xMem)), fX12_chain_9 a0 a1 a2 a3 fuel l4 l5 l6 m = some r → xFx hh_262 cX12_chain d 9 [some (.ref a0), some (.int a1), some (.int a2), some (.int a3), some (.int l4), some (.int l5), some (.int l6)] [] (xLay m) 0 0 (some (.int r.1)) (xLay r.2) := by
  intro fuel
  induction fuel with
  | zero => intro l4 l5 l6  m r  h; cases h
  | succ fuel ih =>
    intro l4 l5 l6  m r  h
    unfold fX12_chain_9 at h
    refine fx_iload dX12_chain_9 rfl rfl ?_
    refine fx_aload_n dX12_chain_11 rfl rfl ?_
    refine gx_getr dX12_chain_12 rfl fd_12_7 ha0.1 rfl rfl ?_
    refine fx_bipush (x := 8) dX12_chain_15 rfl (by decide) ?_
    obtain ⟨hj2, h⟩ := xChk_el h
    obtain ⟨x1, hx1, h⟩ := xLet_el h
    refine gx_iaload dX12_chain_17 rfl ha0.2.1 hj2 hx1 ?_
    refine fx_icmp_ge (t := 79) dX12_chain_18 rfl rfl (fun hc3 => ?_) (fun hc3 => ?_)
    · rw [if_pos hc3] at h
      refine fx_iload dX12_chain_79 rfl rfl ?_
      cases h
      exact fx_ireturn dX12_chain_81 rfl rfl
    · rw [if_neg hc3] at h
      refine fx_iload dX12_chain_21 rfl rfl ?_
      refine fx_aload_n dX12_chain_23 rfl rfl ?_
      refine gx_getr dX12_chain_24 rfl fd_12_7 ha0.1 rfl rfl ?_
      refine fx_sipush (x := 1550) dX12_chain_27 rfl (by decide) ?_
      refine fx_iload dX12_chain_30 rfl rfl ?_
      obtain ⟨x4, hx4, h⟩ := xLet_el h
      refine fx_iadd dX12_chain_32 rfl hx4 ?_
      obtain ⟨hj6, h⟩ := xChk_el h
      obtain ⟨x5, hx5, h⟩ := xLet_el h
      refine gx_iaload dX12_chain_33 rfl ha0.2.1 hj6 hx5 ?_
      refine fx_aload_n dX12_chain_34 rfl rfl ?_
      refine gx_getr dX12_chain_35 rfl fd_12_7 ha0.1 rfl rfl ?_
      refine fx_sipush (x := 1550) dX12_chain_38 rfl (by decide) ?_
      refine fx_iload dX12_chain_41 rfl rfl ?_
      obtain ⟨x7, hx7, h⟩ := xLet_el h
      refine fx_iadd dX12_chain_43 rfl hx7 ?_
      refine fx_iconst (x := 1) dX12_chain_44 rfl (by decide) ?_
      obtain ⟨x8, hx8, h⟩ := xLet_el h
      refine fx_isub dX12_chain_45 rfl hx8 ?_
      obtain ⟨hj10, h⟩ := xChk_el h
      obtain ⟨x9, hx9, h⟩ := xLet_el h
      refine gx_iaload dX12_chain_46 rfl ha0.2.1 hj10 hx9 ?_
      obtain ⟨x11, hx11, h⟩ := xLet_el h
      refine fx_isub dX12_chain_47 rfl hx11 ?_
      obtain ⟨x12, hx12, h⟩ := xLet_el h
      refine fx_iadd dX12_chain_48 rfl hx12 ?_
      refine fx_istore (ls2 := [some (.ref a0), some (.int a1), some (.int a2), some (.int a3), some (.int x12), some (.int l5), some (.int l6)]) dX12_chain_49 rfl rfl rfl ?_
      refine fx_iload dX12_chain_51 rfl rfl ?_
      refine fx_iconst (x := 0) dX12_chain_53 rfl (by decide) ?_
      refine fx_iconst (x := 2) dX12_chain_54 rfl (by decide) ?_
      obtain ⟨p13, ep13, h⟩ := xBind_el h
      refine gx_calls (as := [.int x12, .int (0 : Int32), .int (2 : Int32)]) (r := []) rfl dX12_chain_55 ca_12_95 rfl me_18 rfl rfl rfl rfl (fX12_in_ok (d := d) (by omega) ep13) rfl rfl ?_
      refine fx_if_ne (t := 63) dX12_chain_58 rfl rfl (fun hc14 => ?_) (fun hc14 => ?_)
      · rw [if_pos hc14] at h
        refine fx_iload dX12_chain_63 rfl rfl ?_
        refine fx_iload dX12_chain_65 rfl rfl ?_
        obtain ⟨x15, hx15, h⟩ := xLet_el h
        refine fx_iadd dX12_chain_67 rfl hx15 ?_
        refine fx_istore (ls2 := [some (.ref a0), some (.int a1), some (.int a2), some (.int a3), some (.int x12), some (.int x15), some (.int l6)]) dX12_chain_68 rfl rfl rfl ?_
        refine fx_iload dX12_chain_70 rfl rfl ?_
        refine fx_iload_n dX12_chain_72 rfl rfl ?_
        obtain ⟨x16, hx16, h⟩ := xLet_el h
        refine fx_iadd dX12_chain_73 rfl hx16 ?_
        refine fx_istore (ls2 := [some (.ref a0), some (.int a1), some (.int a2), some (.int a3), some (.int x12), some (.int x15), some (.int x16)]) dX12_chain_74 rfl rfl rfl ?_
        refine fx_goto (t := 9) dX12_chain_76 rfl rfl ?_
        exact ih x12 x15 x16 p13.2 r h
      · rw [if_neg hc14] at h
        refine fx_iconst (x := -1) dX12_chain_61 rfl (by decide) ?_
        cases h
        exact fx_ireturn dX12_chain_62 rfl rfl
def fX12_chain_0 (a0 : Nat) (a1 : Int32) (a2 : Int32) (a3 : Int32) (m : xMem) : Option (Int32 × xMem) := fX12_chain_9 a0 a1 a2 a3 xFuel a3 (0 : Int32) a2 m
set_option maxRecDepth 4000 in
theorem fX12_chain_0_ok {a0 : Nat} {a1 : Int32} {a2 : Int32} {a3 : Int32} {d : Nat} (hd : 1 ≤ d) (ha0 : isModel a0) {o4 : Option Value} {o5 : Option Value} {o6 : Option Value} {m : xMem} {r : (Int32 × xMem)} (q4 : xNoD o4 = true) (q5 : xNoD o5 = true) (q6 : xNoD o6 = true) (h : fX12_chain_0 a0 a1 a2 a3 m = some r) : xFx hh_262 cX12_chain d 0 [some (.ref a0), some (.int a1), some (.int a2), some (.int a3), o4, o5, o6] [] (xLay m) 0 0 (some (.int r.1)) (xLay r.2) := by
  unfold fX12_chain_0 at h
  refine fx_iload_n dX12_chain_0 rfl rfl ?_
  refine fx_istore (ls2 := [some (.ref a0), some (.int a1), some (.int a2), some (.int a3), some (.int a3), o5, o6]) dX12_chain_1 rfl rfl rfl ?_
  refine fx_iconst (x := 0) dX12_chain_3 rfl (by decide) ?_
  refine fx_istore (ls2 := [some (.ref a0), some (.int a1), some (.int a2), some (.int a3), some (.int a3), some (.int (0 : Int32)), o6]) dX12_chain_4 rfl rfl rfl ?_
  refine fx_iload_n dX12_chain_6 rfl rfl ?_
  refine fx_istore (ls2 := [some (.ref a0), some (.int a1), some (.int a2), some (.int a3), some (.int a3), some (.int (0 : Int32)), some (.int a2)]) dX12_chain_7 rfl rfl rfl ?_
  exact fX12_chain_9_ok hd ha0 xFuel a3 (0 : Int32) a2 m r h
def fX12_chain (a0 : Nat) (a1 : Int32) (a2 : Int32) (a3 : Int32) (m : xMem) : Option (Int32 × xMem) := fX12_chain_0 a0 a1 a2 a3  m
theorem fX12_chain_ok {a0 : Nat} {a1 : Int32} {a2 : Int32} {a3 : Int32} {m : xMem} {r : (Int32 × xMem)} {d : Nat} (hd : 2 ≤ d) (ha0 : isModel a0) (h : fX12_chain a0 a1 a2 a3 m = some r) : xEx d 262 [.ref a0, .int a1, .int a2, .int a3] (xLay m) (some (.int r.1)) (xLay r.2) := by
  obtain ⟨d, rfl⟩ : ∃ q, d = q + 1 := ⟨d - 1, by omega⟩
  exact xEx_of me_262 rfl (fX12_chain_0_ok (d := d) (o4 := none) (o5 := none) (o6 := none) (by omega) ha0 rfl rfl rfl h)
def fX12_taken_20 (a0 : Nat) (a1 : Int32) (a2 : Int32) (m : xMem) : Option (Int32 × xMem) := some ((-1 : Int32), m)
set_option maxRecDepth 4000 in
theorem fX12_taken_20_ok {a0 : Nat} {a1 : Int32} {a2 : Int32} {d : Nat} (hd : 2 ≤ d) (ha0 : isModel a0) {o3 : Option Value} {o4 : Option Value} {o5 : Option Value} {o6 : Option Value} {o7 : Option Value} {o8 : Option Value} {m : xMem} {r : (Int32 × xMem)} (q3 : xNoD o3 = true) (q4 : xNoD o4 = true) (q5 : xNoD o5 = true) (q6 : xNoD o6 = true) (q7 : xNoD o7 = true) (q8 : xNoD o8 = true) (h : fX12_taken_20 a0 a1 a2 m = some r) : xFx hh_261 cX12_taken d 20 [some (.ref a0), some (.int a1), some (.int a2), o3, o4, o5, o6, o7, o8] [] (xLay m) 0 0 (some (.int r.1)) (xLay r.2) := by
  unfold fX12_taken_20 at h
  refine fx_iconst (x := -1) dX12_taken_20 rfl (by decide) ?_
  cases h
  exact fx_ireturn dX12_taken_21 rfl rfl
def fX12_taken_44 (a0 : Nat) (a1 : Int32) (a2 : Int32) (rec24 : Int32 → xMem → Option (Int32 × xMem)) (l3 : Int32) (s0 : Nat) (s1 : Int32) (s2 : Int32) (m : xMem) : Option (Int32 × xMem) := bif xIn s1 81 then xLet (xPut m s0 s1.toNatClampNeg s2) fun m1 => xLet (l3 + (1 : Int32)) fun x3 => rec24 x3 m1 else none
set_option maxRecDepth 4000 in
theorem fX12_taken_44_ok {a0 : Nat} {a1 : Int32} {a2 : Int32} {rec24 : Int32 → xMem → Option (Int32 × xMem)} {d : Nat} (hd : 2 ≤ d) (ha0 : isModel a0) (hrec24 : ∀ (l3 : Int32) (o4 : Option Value) (o5 : Option Value) (o6 : Option Value) (o7 : Option Value) (o8 : Option Value) (q4 : xNoD o4 = true) (q5 : xNoD o5 = true) (q6 : xNoD o6 = true) (q7 : xNoD o7 = true) (q8 : xNoD o8 = true) (m : xMem) (r : (Int32 × xMem)), rec24 l3 m = some r → xFx hh_261 cX12_taken d 24 [some (.ref a0), some (.int a1), some (.int a2), some (.int l3), o4, o5, o6, o7, o8] [] (xLay m) 0 0 (some (.int r.1)) (xLay r.2)) {l3 : Int32} {s0 : Nat} {s1 : Int32} {s2 : Int32} {o4 : Option Value} {o5 : Option Value} {o6 : Option Value} {o7 : Option Value} {o8 : Option Value} {m : xMem} {r : (Int32 × xMem)} (hs0 : xTmL[s0]? = some (101, 81, [])) (q4 : xNoD o4 = true) (q5 : xNoD o5 = true) (q6 : xNoD o6 = true) (q7 : xNoD o7 = true) (q8 : xNoD o8 = true) (h : fX12_taken_44 a0 a1 a2 rec24 l3 s0 s1 s2 m = some r) : xFx hh_261 cX12_taken d 44 [some (.ref a0), some (.int a1), some (.int a2), some (.int l3), o4, o5, o6, o7, o8] [.int s2, .int s1, .ref s0] (xLay m) 0 0 (some (.int r.1)) (xLay r.2) := by
  unfold fX12_taken_44 at h
  obtain ⟨hj2, h⟩ := xChk_el h
  obtain ⟨m1, hm1, h⟩ := xLet_el h
  refine gx_iastore dX12_taken_44 rfl hs0 hj2 hm1 ?_
  obtain ⟨x3, hx3, h⟩ := xLet_el h
  refine fx_iinc (ls2 := [some (.ref a0), some (.int a1), some (.int a2), some (.int x3), o4, o5, o6, o7, o8]) dX12_taken_45 rfl rfl rfl hx3 rfl ?_
  refine fx_goto (t := 24) dX12_taken_48 rfl rfl ?_
  exact hrec24 x3 (o4) (o5) (o6) (o7) (o8) q4 q5 q6 q7 q8 m1 r h
def fX12_taken_199 (a0 : Nat) (a1 : Int32) (a2 : Int32) (rec53 : Int32 → xMem → Option (Int32 × xMem)) (rec85 : Int32 → Int32 → xMem → Option (Int32 × xMem)) (rec104 : Int32 → Int32 → Int32 → Int32 → xMem → Option (Int32 × xMem)) (l3 : Int32) (l4 : Int32) (l5 : Int32) (l6 : Int32) (m : xMem) : Option (Int32 × xMem) := xLet (l6 + (1 : Int32)) fun x1 => rec104 l3 l4 l5 x1 m
set_option maxRecDepth 4000 in
theorem fX12_taken_199_ok {a0 : Nat} {a1 : Int32} {a2 : Int32} {rec53 : Int32 → xMem → Option (Int32 × xMem)} {rec85 : Int32 → Int32 → xMem → Option (Int32 × xMem)} {rec104 : Int32 → Int32 → Int32 → Int32 → xMem → Option (Int32 × xMem)} {d : Nat} (hd : 2 ≤ d) (ha0 : isModel a0) (hrec53 : ∀ (l3 : Int32) (o4 : Option Value) (o5 : Option Value) (o6 : Option Value) (o7 : Option Value) (o8 : Option Value) (q4 : xNoD o4 = true) (q5 : xNoD o5 = true) (q6 : xNoD o6 = true) (q7 : xNoD o7 = true) (q8 : xNoD o8 = true) (m : xMem) (r : (Int32 × xMem)), rec53 l3 m = some r → xFx hh_261 cX12_taken d 53 [some (.ref a0), some (.int a1), some (.int a2), some (.int l3), o4, o5, o6, o7, o8] [] (xLay m) 0 0 (some (.int r.1)) (xLay r.2)) (hrec85 : ∀ (l3 : Int32) (l4 : Int32) (o5 : Option Value) (o6 : Option Value) (o7 : Option Value) (o8 : Option Value) (q5 : xNoD o5 = true) (q6 : xNoD o6 = true) (q7 : xNoD o7 = true) (q8 : xNoD o8 = true) (m : xMem) (r : (Int32 × xMem)), rec85 l3 l4 m = some r → xFx hh_261 cX12_taken d 85 [some (.ref a0), some (.int a1), some (.int a2), some (.int l3), some (.int l4), o5, o6, o7, o8] [] (xLay m) 0 0 (some (.int r.1)) (xLay r.2)) (hrec104 : ∀ (l3 : Int32) (l4 : Int32) (l5 : Int32) (l6 : Int32) (o7 : Option Value) (o8 : Option Value) (q7 : xNoD o7 = true) (q8 : xNoD o8 = true) (m : xMem) (r : (Int32 × xMem)), rec104 l3 l4 l5 l6 m = some r → xFx hh_261 cX12_taken d 104 [some (.ref a0), some (.int a1), some (.int a2), some (.int l3), some (.int l4), some (.int l5), some (.int l6), o7, o8] [] (xLay m) 0 0 (some (.int r.1)) (xLay r.2)) {l3 : Int32} {l4 : Int32} {l5 : Int32} {l6 : Int32} {o7 : Option Value} {o8 : Option Value} {m : xMem} {r : (Int32 × xMem)} (q7 : xNoD o7 = true) (q8 : xNoD o8 = true) (h : fX12_taken_199 a0 a1 a2 rec53 rec85 rec104 l3 l4 l5 l6 m = some r) : xFx hh_261 cX12_taken d 199 [some (.ref a0), some (.int a1), some (.int a2), some (.int l3), some (.int l4), some (.int l5), some (.int l6), o7, o8] [] (xLay m) 0 0 (some (.int r.1)) (xLay r.2) := by
  unfold fX12_taken_199 at h
  obtain ⟨x1, hx1, h⟩ := xLet_el h
  refine fx_iinc (ls2 := [some (.ref a0), some (.int a1), some (.int a2), some (.int l3), some (.int l4), some (.int l5), some (.int x1), o7, o8]) dX12_taken_199 rfl rfl rfl hx1 rfl ?_
  refine fx_goto (t := 104) dX12_taken_202 rfl rfl ?_
  exact hrec104 l3 l4 l5 x1 (o7) (o8) q7 q8 m r h
def fX12_taken_198 (a0 : Nat) (a1 : Int32) (a2 : Int32) (rec53 : Int32 → xMem → Option (Int32 × xMem)) (rec85 : Int32 → Int32 → xMem → Option (Int32 × xMem)) (rec104 : Int32 → Int32 → Int32 → Int32 → xMem → Option (Int32 × xMem)) (l3 : Int32) (l4 : Int32) (l5 : Int32) (l6 : Int32) (s0 : Nat) (s1 : Int32) (s2 : Int32) (m : xMem) : Option (Int32 × xMem) := bif xIn s1 81 then xLet (xPut m s0 s1.toNatClampNeg s2) fun m1 => fX12_taken_199 a0 a1 a2 rec53 rec85 rec104 l3 l4 l5 l6 m1 else none
set_option maxRecDepth 4000 in
theorem fX12_taken_198_ok {a0 : Nat} {a1 : Int32} {a2 : Int32} {rec53 : Int32 → xMem → Option (Int32 × xMem)} {rec85 : Int32 → Int32 → xMem → Option (Int32 × xMem)} {rec104 : Int32 → Int32 → Int32 → Int32 → xMem → Option (Int32 × xMem)} {d : Nat} (hd : 2 ≤ d) (ha0 : isModel a0) (hrec53 : ∀ (l3 : Int32) (o4 : Option Value) (o5 : Option Value) (o6 : Option Value) (o7 : Option Value) (o8 : Option Value) (q4 : xNoD o4 = true) (q5 : xNoD o5 = true) (q6 : xNoD o6 = true) (q7 : xNoD o7 = true) (q8 : xNoD o8 = true) (m : xMem) (r : (Int32 × xMem)), rec53 l3 m = some r → xFx hh_261 cX12_taken d 53 [some (.ref a0), some (.int a1), some (.int a2), some (.int l3), o4, o5, o6, o7, o8] [] (xLay m) 0 0 (some (.int r.1)) (xLay r.2)) (hrec85 : ∀ (l3 : Int32) (l4 : Int32) (o5 : Option Value) (o6 : Option Value) (o7 : Option Value) (o8 : Option Value) (q5 : xNoD o5 = true) (q6 : xNoD o6 = true) (q7 : xNoD o7 = true) (q8 : xNoD o8 = true) (m : xMem) (r : (Int32 × xMem)), rec85 l3 l4 m = some r → xFx hh_261 cX12_taken d 85 [some (.ref a0), some (.int a1), some (.int a2), some (.int l3), some (.int l4), o5, o6, o7, o8] [] (xLay m) 0 0 (some (.int r.1)) (xLay r.2)) (hrec104 : ∀ (l3 : Int32) (l4 : Int32) (l5 : Int32) (l6 : Int32) (o7 : Option Value) (o8 : Option Value) (q7 : xNoD o7 = true) (q8 : xNoD o8 = true) (m : xMem) (r : (Int32 × xMem)), rec104 l3 l4 l5 l6 m = some r → xFx hh_261 cX12_taken d 104 [some (.ref a0), some (.int a1), some (.int a2), some (.int l3), some (.int l4), some (.int l5), some (.int l6), o7, o8] [] (xLay m) 0 0 (some (.int r.1)) (xLay r.2)) {l3 : Int32} {l4 : Int32} {l5 : Int32} {l6 : Int32} {s0 : Nat} {s1 : Int32} {s2 : Int32} {o7 : Option Value} {o8 : Option Value} {m : xMem} {r : (Int32 × xMem)} (hs0 : xTmL[s0]? = some (101, 81, [])) (q7 : xNoD o7 = true) (q8 : xNoD o8 = true) (h : fX12_taken_198 a0 a1 a2 rec53 rec85 rec104 l3 l4 l5 l6 s0 s1 s2 m = some r) : xFx hh_261 cX12_taken d 198 [some (.ref a0), some (.int a1), some (.int a2), some (.int l3), some (.int l4), some (.int l5), some (.int l6), o7, o8] [.int s2, .int s1, .ref s0] (xLay m) 0 0 (some (.int r.1)) (xLay r.2) := by
  unfold fX12_taken_198 at h
  obtain ⟨hj2, h⟩ := xChk_el h
  obtain ⟨m1, hm1, h⟩ := xLet_el h
  refine gx_iastore dX12_taken_198 rfl hs0 hj2 hm1 ?_
  exact fX12_taken_199_ok (o7 := o7) (o8 := o8) hd ha0 hrec53 hrec85 hrec104 q7 q8 h
def fX12_taken_191 (a0 : Nat) (a1 : Int32) (a2 : Int32) (rec53 : Int32 → xMem → Option (Int32 × xMem)) (rec85 : Int32 → Int32 → xMem → Option (Int32 × xMem)) (rec104 : Int32 → Int32 → Int32 → Int32 → xMem → Option (Int32 × xMem)) (l3 : Int32) (l4 : Int32) (l5 : Int32) (l6 : Int32) (l7 : Int32) (s0 : Nat) (s1 : Int32) (m : xMem) : Option (Int32 × xMem) := fX12_taken_198 a0 a1 a2 rec53 rec85 rec104 l3 l4 l5 l6 s0 s1 l7 m
set_option maxRecDepth 4000 in
theorem fX12_taken_191_ok {a0 : Nat} {a1 : Int32} {a2 : Int32} {rec53 : Int32 → xMem → Option (Int32 × xMem)} {rec85 : Int32 → Int32 → xMem → Option (Int32 × xMem)} {rec104 : Int32 → Int32 → Int32 → Int32 → xMem → Option (Int32 × xMem)} {d : Nat} (hd : 2 ≤ d) (ha0 : isModel a0) (hrec53 : ∀ (l3 : Int32) (o4 : Option Value) (o5 : Option Value) (o6 : Option Value) (o7 : Option Value) (o8 : Option Value) (q4 : xNoD o4 = true) (q5 : xNoD o5 = true) (q6 : xNoD o6 = true) (q7 : xNoD o7 = true) (q8 : xNoD o8 = true) (m : xMem) (r : (Int32 × xMem)), rec53 l3 m = some r → xFx hh_261 cX12_taken d 53 [some (.ref a0), some (.int a1), some (.int a2), some (.int l3), o4, o5, o6, o7, o8] [] (xLay m) 0 0 (some (.int r.1)) (xLay r.2)) (hrec85 : ∀ (l3 : Int32) (l4 : Int32) (o5 : Option Value) (o6 : Option Value) (o7 : Option Value) (o8 : Option Value) (q5 : xNoD o5 = true) (q6 : xNoD o6 = true) (q7 : xNoD o7 = true) (q8 : xNoD o8 = true) (m : xMem) (r : (Int32 × xMem)), rec85 l3 l4 m = some r → xFx hh_261 cX12_taken d 85 [some (.ref a0), some (.int a1), some (.int a2), some (.int l3), some (.int l4), o5, o6, o7, o8] [] (xLay m) 0 0 (some (.int r.1)) (xLay r.2)) (hrec104 : ∀ (l3 : Int32) (l4 : Int32) (l5 : Int32) (l6 : Int32) (o7 : Option Value) (o8 : Option Value) (q7 : xNoD o7 = true) (q8 : xNoD o8 = true) (m : xMem) (r : (Int32 × xMem)), rec104 l3 l4 l5 l6 m = some r → xFx hh_261 cX12_taken d 104 [some (.ref a0), some (.int a1), some (.int a2), some (.int l3), some (.int l4), some (.int l5), some (.int l6), o7, o8] [] (xLay m) 0 0 (some (.int r.1)) (xLay r.2)) {l3 : Int32} {l4 : Int32} {l5 : Int32} {l6 : Int32} {l7 : Int32} {s0 : Nat} {s1 : Int32} {o8 : Option Value} {m : xMem} {r : (Int32 × xMem)} (hs0 : xTmL[s0]? = some (101, 81, [])) (q8 : xNoD o8 = true) (h : fX12_taken_191 a0 a1 a2 rec53 rec85 rec104 l3 l4 l5 l6 l7 s0 s1 m = some r) : xFx hh_261 cX12_taken d 191 [some (.ref a0), some (.int a1), some (.int a2), some (.int l3), some (.int l4), some (.int l5), some (.int l6), some (.int l7), o8] [.int s1, .ref s0] (xLay m) 0 0 (some (.int r.1)) (xLay r.2) := by
  unfold fX12_taken_191 at h
  refine fx_iload dX12_taken_191 rfl rfl ?_
  refine fx_goto (t := 198) dX12_taken_193 rfl rfl ?_
  exact fX12_taken_198_ok (o7 := some (.int l7)) (o8 := o8) hd ha0 hrec53 hrec85 hrec104 hs0 rfl q8 h
def fX12_taken_196 (a0 : Nat) (a1 : Int32) (a2 : Int32) (rec53 : Int32 → xMem → Option (Int32 × xMem)) (rec85 : Int32 → Int32 → xMem → Option (Int32 × xMem)) (rec104 : Int32 → Int32 → Int32 → Int32 → xMem → Option (Int32 × xMem)) (l3 : Int32) (l4 : Int32) (l5 : Int32) (l6 : Int32) (l8 : Int32) (s0 : Nat) (s1 : Int32) (m : xMem) : Option (Int32 × xMem) := fX12_taken_198 a0 a1 a2 rec53 rec85 rec104 l3 l4 l5 l6 s0 s1 l8 m
set_option maxRecDepth 4000 in
theorem fX12_taken_196_ok {a0 : Nat} {a1 : Int32} {a2 : Int32} {rec53 : Int32 → xMem → Option (Int32 × xMem)} {rec85 : Int32 → Int32 → xMem → Option (Int32 × xMem)} {rec104 : Int32 → Int32 → Int32 → Int32 → xMem → Option (Int32 × xMem)} {d : Nat} (hd : 2 ≤ d) (ha0 : isModel a0) (hrec53 : ∀ (l3 : Int32) (o4 : Option Value) (o5 : Option Value) (o6 : Option Value) (o7 : Option Value) (o8 : Option Value) (q4 : xNoD o4 = true) (q5 : xNoD o5 = true) (q6 : xNoD o6 = true) (q7 : xNoD o7 = true) (q8 : xNoD o8 = true) (m : xMem) (r : (Int32 × xMem)), rec53 l3 m = some r → xFx hh_261 cX12_taken d 53 [some (.ref a0), some (.int a1), some (.int a2), some (.int l3), o4, o5, o6, o7, o8] [] (xLay m) 0 0 (some (.int r.1)) (xLay r.2)) (hrec85 : ∀ (l3 : Int32) (l4 : Int32) (o5 : Option Value) (o6 : Option Value) (o7 : Option Value) (o8 : Option Value) (q5 : xNoD o5 = true) (q6 : xNoD o6 = true) (q7 : xNoD o7 = true) (q8 : xNoD o8 = true) (m : xMem) (r : (Int32 × xMem)), rec85 l3 l4 m = some r → xFx hh_261 cX12_taken d 85 [some (.ref a0), some (.int a1), some (.int a2), some (.int l3), some (.int l4), o5, o6, o7, o8] [] (xLay m) 0 0 (some (.int r.1)) (xLay r.2)) (hrec104 : ∀ (l3 : Int32) (l4 : Int32) (l5 : Int32) (l6 : Int32) (o7 : Option Value) (o8 : Option Value) (q7 : xNoD o7 = true) (q8 : xNoD o8 = true) (m : xMem) (r : (Int32 × xMem)), rec104 l3 l4 l5 l6 m = some r → xFx hh_261 cX12_taken d 104 [some (.ref a0), some (.int a1), some (.int a2), some (.int l3), some (.int l4), some (.int l5), some (.int l6), o7, o8] [] (xLay m) 0 0 (some (.int r.1)) (xLay r.2)) {l3 : Int32} {l4 : Int32} {l5 : Int32} {l6 : Int32} {l8 : Int32} {s0 : Nat} {s1 : Int32} {o7 : Option Value} {m : xMem} {r : (Int32 × xMem)} (hs0 : xTmL[s0]? = some (101, 81, [])) (q7 : xNoD o7 = true) (h : fX12_taken_196 a0 a1 a2 rec53 rec85 rec104 l3 l4 l5 l6 l8 s0 s1 m = some r) : xFx hh_261 cX12_taken d 196 [some (.ref a0), some (.int a1), some (.int a2), some (.int l3), some (.int l4), some (.int l5), some (.int l6), o7, some (.int l8)] [.int s1, .ref s0] (xLay m) 0 0 (some (.int r.1)) (xLay r.2) := by
  unfold fX12_taken_196 at h
  refine fx_iload dX12_taken_196 rfl rfl ?_
  exact fX12_taken_198_ok (o7 := o7) (o8 := some (.int l8)) hd ha0 hrec53 hrec85 hrec104 hs0 q7 rfl h
def fX12_taken_205 (a0 : Nat) (a1 : Int32) (a2 : Int32) (rec53 : Int32 → xMem → Option (Int32 × xMem)) (rec85 : Int32 → Int32 → xMem → Option (Int32 × xMem)) (l3 : Int32) (l4 : Int32) (m : xMem) : Option (Int32 × xMem) := xLet (l4 + (1 : Int32)) fun x1 => rec85 l3 x1 m
set_option maxRecDepth 4000 in
theorem fX12_taken_205_ok {a0 : Nat} {a1 : Int32} {a2 : Int32} {rec53 : Int32 → xMem → Option (Int32 × xMem)} {rec85 : Int32 → Int32 → xMem → Option (Int32 × xMem)} {d : Nat} (hd : 2 ≤ d) (ha0 : isModel a0) (hrec53 : ∀ (l3 : Int32) (o4 : Option Value) (o5 : Option Value) (o6 : Option Value) (o7 : Option Value) (o8 : Option Value) (q4 : xNoD o4 = true) (q5 : xNoD o5 = true) (q6 : xNoD o6 = true) (q7 : xNoD o7 = true) (q8 : xNoD o8 = true) (m : xMem) (r : (Int32 × xMem)), rec53 l3 m = some r → xFx hh_261 cX12_taken d 53 [some (.ref a0), some (.int a1), some (.int a2), some (.int l3), o4, o5, o6, o7, o8] [] (xLay m) 0 0 (some (.int r.1)) (xLay r.2)) (hrec85 : ∀ (l3 : Int32) (l4 : Int32) (o5 : Option Value) (o6 : Option Value) (o7 : Option Value) (o8 : Option Value) (q5 : xNoD o5 = true) (q6 : xNoD o6 = true) (q7 : xNoD o7 = true) (q8 : xNoD o8 = true) (m : xMem) (r : (Int32 × xMem)), rec85 l3 l4 m = some r → xFx hh_261 cX12_taken d 85 [some (.ref a0), some (.int a1), some (.int a2), some (.int l3), some (.int l4), o5, o6, o7, o8] [] (xLay m) 0 0 (some (.int r.1)) (xLay r.2)) {l3 : Int32} {l4 : Int32} {o5 : Option Value} {o6 : Option Value} {o7 : Option Value} {o8 : Option Value} {m : xMem} {r : (Int32 × xMem)} (q5 : xNoD o5 = true) (q6 : xNoD o6 = true) (q7 : xNoD o7 = true) (q8 : xNoD o8 = true) (h : fX12_taken_205 a0 a1 a2 rec53 rec85 l3 l4 m = some r) : xFx hh_261 cX12_taken d 205 [some (.ref a0), some (.int a1), some (.int a2), some (.int l3), some (.int l4), o5, o6, o7, o8] [] (xLay m) 0 0 (some (.int r.1)) (xLay r.2) := by
  unfold fX12_taken_205 at h
  obtain ⟨x1, hx1, h⟩ := xLet_el h
  refine fx_iinc (ls2 := [some (.ref a0), some (.int a1), some (.int a2), some (.int l3), some (.int x1), o5, o6, o7, o8]) dX12_taken_205 rfl rfl rfl hx1 rfl ?_
  refine fx_goto (t := 85) dX12_taken_208 rfl rfl ?_
  exact hrec85 l3 x1 (o5) (o6) (o7) (o8) q5 q6 q7 q8 m r h
def fX12_taken_104 (a0 : Nat) (a1 : Int32) (a2 : Int32) (rec53 : Int32 → xMem → Option (Int32 × xMem)) (rec85 : Int32 → Int32 → xMem → Option (Int32 × xMem)) : Nat → Int32 → Int32 → Int32 → Int32 → xMem → Option (Int32 × xMem)
  | 0, _, _, _, _, _ => none
  | fuel + 1, l3, l4, l5, l6, m => xLet (l6 + l4) fun x1 => if (81 : Int32) ≤ x1 then fX12_taken_205 a0 a1 a2 rec53 rec85 l3 l4 m else if l5 = (-1 : Int32) then fX12_taken_205 a0 a1 a2 rec53 rec85 l3 l4 m else bif xIn l6 81 then xLet (m.1 (a0 + 24) l6.toNatClampNeg) fun x4 => if x4 = (-1 : Int32) then fX12_taken_199 a0 a1 a2 rec53 rec85 (fX12_taken_104 a0 a1 a2 rec53 rec85 fuel) l3 l4 l5 l6 m else bif xIn l6 81 then xLet (m.1 (a0 + 24) l6.toNatClampNeg) fun x7 => xLet (x7 + l5) fun x9 => xLet (l6 + l4) fun x10 => bif xIn x10 81 then xLet (m.1 (a0 + 25) x10.toNatClampNeg) fun x11 => xLet (l6 + l4) fun x13 => if x11 = (-1 : Int32) then fX12_taken_191 a0 a1 a2 rec53 rec85 (fX12_taken_104 a0 a1 a2 rec53 rec85 fuel) l3 l4 l5 l6 x9 (a0 + 25) x13 m else if a2 = (0 : Int32) then if x11 ≤ x9 then fX12_taken_196 a0 a1 a2 rec53 rec85 (fX12_taken_104 a0 a1 a2 rec53 rec85 fuel) l3 l4 l5 l6 x11 (a0 + 25) x13 m else fX12_taken_191 a0 a1 a2 rec53 rec85 (fX12_taken_104 a0 a1 a2 rec53 rec85 fuel) l3 l4 l5 l6 x9 (a0 + 25) x13 m else if x9 ≤ x11 then fX12_taken_196 a0 a1 a2 rec53 rec85 (fX12_taken_104 a0 a1 a2 rec53 rec85 fuel) l3 l4 l5 l6 x11 (a0 + 25) x13 m else fX12_taken_191 a0 a1 a2 rec53 rec85 (fX12_taken_104 a0 a1 a2 rec53 rec85 fuel) l3 l4 l5 l6 x9 (a0 + 25) x13 m else none else none else none
set_option maxRecDepth 4000 in
theorem fX12_taken_104_ok {a0 : Nat} {a1 : Int32} {a2 : Int32} {rec53 : Int32 → xMem → Option (Int32 × xMem)} {rec85 : Int32 → Int32 → xMem → Option (Int32 × xMem)} {d : Nat} (hd : 2 ≤ d) (ha0 : isModel a0) (hrec53 : ∀ (l3 : Int32) (o4 : Option Value) (o5 : Option Value) (o6 : Option Value) (o7 : Option Value) (o8 : Option Value) (q4 : xNoD o4 = true) (q5 : xNoD o5 = true) (q6 : xNoD o6 = true) (q7 : xNoD o7 = true) (q8 : xNoD o8 = true) (m : xMem) (r : (Int32 × xMem)), rec53 l3 m = some r → xFx hh_261 cX12_taken d 53 [some (.ref a0), some (.int a1), some (.int a2), some (.int l3), o4, o5, o6, o7, o8] [] (xLay m) 0 0 (some (.int r.1)) (xLay r.2)) (hrec85 : ∀ (l3 : Int32) (l4 : Int32) (o5 : Option Value) (o6 : Option Value) (o7 : Option Value) (o8 : Option Value) (q5 : xNoD o5 = true) (q6 : xNoD o6 = true) (q7 : xNoD o7 = true) (q8 : xNoD o8 = true) (m : xMem) (r : (Int32 × xMem)), rec85 l3 l4 m = some r → xFx hh_261 cX12_taken d 85 [some (.ref a0), some (.int a1), some (.int a2), some (.int l3), some (.int l4), o5, o6, o7, o8] [] (xLay m) 0 0 (some (.int r.1)) (xLay r.2)) : ∀ (fuel : Nat) (l3 : Int32) (l4 : Int32) (l5 : Int32) (l6 : Int32) (o7 : Option Value) (o8 : Option Value) (q7 : xNoD o7 = true) (q8 : xNoD o8 = true) (m : xMem) (r : (Int32 × xMem)), fX12_taken_104 a0 a1 a2 rec53 rec85 fuel l3 l4 l5 l6 m = some r → xFx hh_261 cX12_taken d 104 [some (.ref a0), some (.int a1), some (.int a2), some (.int l3), some (.int l4), some (.int l5), some (.int l6), o7, o8] [] (xLay m) 0 0 (some (.int r.1)) (xLay r.2) := by
  intro fuel
  induction fuel with
  | zero => intro l3 l4 l5 l6 o7 o8 q7 q8 m r  h; cases h
  | succ fuel ih =>
    intro l3 l4 l5 l6 o7 o8 q7 q8 m r  h
    unfold fX12_taken_104 at h
    refine fx_iload dX12_taken_104 rfl rfl ?_
    refine fx_iload dX12_taken_106 rfl rfl ?_
    obtain ⟨x1, hx1, h⟩ := xLet_el h
    refine fx_iadd dX12_taken_108 rfl hx1 ?_
    refine fx_bipush (x := 81) dX12_taken_109 rfl (by decide) ?_
    refine fx_icmp_ge (t := 205) dX12_taken_111 rfl rfl (fun hc2 => ?_) (fun hc2 => ?_)
    · rw [if_pos hc2] at h
      exact fX12_taken_205_ok (o5 := some (.int l5)) (o6 := some (.int l6)) (o7 := o7) (o8 := o8) hd ha0 hrec53 hrec85 rfl rfl q7 q8 h
    · rw [if_neg hc2] at h
      refine fx_iload dX12_taken_114 rfl rfl ?_
      refine fx_iconst (x := -1) dX12_taken_116 rfl (by decide) ?_
      refine fx_icmp_eq (t := 205) dX12_taken_117 rfl rfl (fun hc3 => ?_) (fun hc3 => ?_)
      · rw [if_pos hc3] at h
        exact fX12_taken_205_ok (o5 := some (.int l5)) (o6 := some (.int l6)) (o7 := o7) (o8 := o8) hd ha0 hrec53 hrec85 rfl rfl q7 q8 h
      · rw [if_neg hc3] at h
        refine fx_aload_n dX12_taken_120 rfl rfl ?_
        refine gx_getr dX12_taken_121 rfl fd_12_89 ha0.1 rfl rfl ?_
        refine fx_iload dX12_taken_124 rfl rfl ?_
        obtain ⟨hj5, h⟩ := xChk_el h
        obtain ⟨x4, hx4, h⟩ := xLet_el h
        refine gx_iaload dX12_taken_126 rfl ha0.2.2.2.2.2.2.2.2.2.2.2.2.2.2.2.2.2.2.2.2.2.2.2.2.1 hj5 hx4 ?_
        refine fx_iconst (x := -1) dX12_taken_127 rfl (by decide) ?_
        refine fx_icmp_eq (t := 199) dX12_taken_128 rfl rfl (fun hc6 => ?_) (fun hc6 => ?_)
        · rw [if_pos hc6] at h
          exact fX12_taken_199_ok (o7 := o7) (o8 := o8) hd ha0 hrec53 hrec85 ih q7 q8 h
        · rw [if_neg hc6] at h
          refine fx_aload_n dX12_taken_131 rfl rfl ?_
          refine gx_getr dX12_taken_132 rfl fd_12_89 ha0.1 rfl rfl ?_
          refine fx_iload dX12_taken_135 rfl rfl ?_
          obtain ⟨hj8, h⟩ := xChk_el h
          obtain ⟨x7, hx7, h⟩ := xLet_el h
          refine gx_iaload dX12_taken_137 rfl ha0.2.2.2.2.2.2.2.2.2.2.2.2.2.2.2.2.2.2.2.2.2.2.2.2.1 hj8 hx7 ?_
          refine fx_iload dX12_taken_138 rfl rfl ?_
          obtain ⟨x9, hx9, h⟩ := xLet_el h
          refine fx_iadd dX12_taken_140 rfl hx9 ?_
          refine fx_istore (ls2 := [some (.ref a0), some (.int a1), some (.int a2), some (.int l3), some (.int l4), some (.int l5), some (.int l6), some (.int x9), o8]) dX12_taken_141 rfl rfl rfl ?_
          refine fx_aload_n dX12_taken_143 rfl rfl ?_
          refine gx_getr dX12_taken_144 rfl fd_12_92 ha0.1 rfl rfl ?_
          refine fx_iload dX12_taken_147 rfl rfl ?_
          refine fx_iload dX12_taken_149 rfl rfl ?_
          obtain ⟨x10, hx10, h⟩ := xLet_el h
          refine fx_iadd dX12_taken_151 rfl hx10 ?_
          obtain ⟨hj12, h⟩ := xChk_el h
          obtain ⟨x11, hx11, h⟩ := xLet_el h
          refine gx_iaload dX12_taken_152 rfl ha0.2.2.2.2.2.2.2.2.2.2.2.2.2.2.2.2.2.2.2.2.2.2.2.2.2 hj12 hx11 ?_
          refine fx_istore (ls2 := [some (.ref a0), some (.int a1), some (.int a2), some (.int l3), some (.int l4), some (.int l5), some (.int l6), some (.int x9), some (.int x11)]) dX12_taken_153 rfl rfl rfl ?_
          refine fx_aload_n dX12_taken_155 rfl rfl ?_
          refine gx_getr dX12_taken_156 rfl fd_12_92 ha0.1 rfl rfl ?_
          refine fx_iload dX12_taken_159 rfl rfl ?_
          refine fx_iload dX12_taken_161 rfl rfl ?_
          obtain ⟨x13, hx13, h⟩ := xLet_el h
          refine fx_iadd dX12_taken_163 rfl hx13 ?_
          refine fx_iload dX12_taken_164 rfl rfl ?_
          refine fx_iconst (x := -1) dX12_taken_166 rfl (by decide) ?_
          refine fx_icmp_eq (t := 191) dX12_taken_167 rfl rfl (fun hc14 => ?_) (fun hc14 => ?_)
          · rw [if_pos hc14] at h
            exact fX12_taken_191_ok (o8 := some (.int x11)) hd ha0 hrec53 hrec85 ih ha0.2.2.2.2.2.2.2.2.2.2.2.2.2.2.2.2.2.2.2.2.2.2.2.2.2 rfl h
          · rw [if_neg hc14] at h
            refine fx_iload_n dX12_taken_170 rfl rfl ?_
            refine fx_if_eq (t := 184) dX12_taken_171 rfl rfl (fun hc15 => ?_) (fun hc15 => ?_)
            · rw [if_pos hc15] at h
              refine fx_iload dX12_taken_184 rfl rfl ?_
              refine fx_iload dX12_taken_186 rfl rfl ?_
              refine fx_icmp_ge (t := 196) dX12_taken_188 rfl rfl (fun hc16 => ?_) (fun hc16 => ?_)
              · rw [if_pos hc16] at h
                exact fX12_taken_196_ok (o7 := some (.int x9)) hd ha0 hrec53 hrec85 ih ha0.2.2.2.2.2.2.2.2.2.2.2.2.2.2.2.2.2.2.2.2.2.2.2.2.2 rfl h
              · rw [if_neg hc16] at h
                exact fX12_taken_191_ok (o8 := some (.int x11)) hd ha0 hrec53 hrec85 ih ha0.2.2.2.2.2.2.2.2.2.2.2.2.2.2.2.2.2.2.2.2.2.2.2.2.2 rfl h
            · rw [if_neg hc15] at h
              refine fx_iload dX12_taken_174 rfl rfl ?_
              refine fx_iload dX12_taken_176 rfl rfl ?_
              refine fx_icmp_le (t := 196) dX12_taken_178 rfl rfl (fun hc17 => ?_) (fun hc17 => ?_)
              · rw [if_pos hc17] at h
                exact fX12_taken_196_ok (o7 := some (.int x9)) hd ha0 hrec53 hrec85 ih ha0.2.2.2.2.2.2.2.2.2.2.2.2.2.2.2.2.2.2.2.2.2.2.2.2.2 rfl h
              · rw [if_neg hc17] at h
                refine fx_goto (t := 191) dX12_taken_181 rfl rfl ?_
                exact fX12_taken_191_ok (o8 := some (.int x11)) hd ha0 hrec53 hrec85 ih ha0.2.2.2.2.2.2.2.2.2.2.2.2.2.2.2.2.2.2.2.2.2.2.2.2.2 rfl h
def fX12_taken_214 (a0 : Nat) (a1 : Int32) (a2 : Int32) (rec53 : Int32 → xMem → Option (Int32 × xMem)) : Nat → Int32 → Int32 → xMem → Option (Int32 × xMem)
  | 0, _, _, _ => none
  | fuel + 1, l3, l4, m => if (81 : Int32) ≤ l4 then xLet (l3 + (1 : Int32)) fun x2 => rec53 x2 m else bif xIn l4 81 then xLet (m.1 (a0 + 25) l4.toNatClampNeg) fun x3 => bif xIn l4 81 then xLet (xPut m (a0 + 24) l4.toNatClampNeg x3) fun m5 => xLet (l4 + (1 : Int32)) fun x7 => fX12_taken_214 a0 a1 a2 rec53 fuel l3 x7 m5 else none else none
set_option maxRecDepth 4000 in
theorem fX12_taken_214_ok {a0 : Nat} {a1 : Int32} {a2 : Int32} {rec53 : Int32 → xMem → Option (Int32 × xMem)} {d : Nat} (hd : 2 ≤ d) (ha0 : isModel a0) (hrec53 : ∀ (l3 : Int32) (o4 : Option Value) (o5 : Option Value) (o6 : Option Value) (o7 : Option Value) (o8 : Option Value) (q4 : xNoD o4 = true) (q5 : xNoD o5 = true) (q6 : xNoD o6 = true) (q7 : xNoD o7 = true) (q8 : xNoD o8 = true) (m : xMem) (r : (Int32 × xMem)), rec53 l3 m = some r → xFx hh_261 cX12_taken d 53 [some (.ref a0), some (.int a1), some (.int a2), some (.int l3), o4, o5, o6, o7, o8] [] (xLay m) 0 0 (some (.int r.1)) (xLay r.2)) : ∀ (fuel : Nat) (l3 : Int32) (l4 : Int32) (o5 : Option Value) (o6 : Option Value) (o7 : Option Value) (o8 : Option Value) (q5 : xNoD o5 = true) (q6 : xNoD o6 = true) (q7 : xNoD o7 = true) (q8 : xNoD o8 = true) (m : xMem) (r : (Int32 × xMem)), fX12_taken_214 a0 a1 a2 rec53 fuel l3 l4 m = some r → xFx hh_261 cX12_taken d 214 [some (.ref a0), some (.int a1), some (.int a2), some (.int l3), some (.int l4), o5, o6, o7, o8] [] (xLay m) 0 0 (some (.int r.1)) (xLay r.2) := by
  intro fuel
  induction fuel with
  | zero => intro l3 l4 o5 o6 o7 o8 q5 q6 q7 q8 m r  h; cases h
  | succ fuel ih =>
    intro l3 l4 o5 o6 o7 o8 q5 q6 q7 q8 m r  h
    unfold fX12_taken_214 at h
    refine fx_iload dX12_taken_214 rfl rfl ?_
    refine fx_bipush (x := 81) dX12_taken_216 rfl (by decide) ?_
    refine fx_icmp_ge (t := 241) dX12_taken_218 rfl rfl (fun hc1 => ?_) (fun hc1 => ?_)
    · rw [if_pos hc1] at h
      obtain ⟨x2, hx2, h⟩ := xLet_el h
      refine fx_iinc (ls2 := [some (.ref a0), some (.int a1), some (.int a2), some (.int x2), some (.int l4), o5, o6, o7, o8]) dX12_taken_241 rfl rfl rfl hx2 rfl ?_
      refine fx_goto (t := 53) dX12_taken_244 rfl rfl ?_
      exact hrec53 x2 (some (.int l4)) (o5) (o6) (o7) (o8) rfl q5 q6 q7 q8 m r h
    · rw [if_neg hc1] at h
      refine fx_aload_n dX12_taken_221 rfl rfl ?_
      refine gx_getr dX12_taken_222 rfl fd_12_89 ha0.1 rfl rfl ?_
      refine fx_iload dX12_taken_225 rfl rfl ?_
      refine fx_aload_n dX12_taken_227 rfl rfl ?_
      refine gx_getr dX12_taken_228 rfl fd_12_92 ha0.1 rfl rfl ?_
      refine fx_iload dX12_taken_231 rfl rfl ?_
      obtain ⟨hj4, h⟩ := xChk_el h
      obtain ⟨x3, hx3, h⟩ := xLet_el h
      refine gx_iaload dX12_taken_233 rfl ha0.2.2.2.2.2.2.2.2.2.2.2.2.2.2.2.2.2.2.2.2.2.2.2.2.2 hj4 hx3 ?_
      obtain ⟨hj6, h⟩ := xChk_el h
      obtain ⟨m5, hm5, h⟩ := xLet_el h
      refine gx_iastore dX12_taken_234 rfl ha0.2.2.2.2.2.2.2.2.2.2.2.2.2.2.2.2.2.2.2.2.2.2.2.2.1 hj6 hm5 ?_
      obtain ⟨x7, hx7, h⟩ := xLet_el h
      refine fx_iinc (ls2 := [some (.ref a0), some (.int a1), some (.int a2), some (.int l3), some (.int x7), o5, o6, o7, o8]) dX12_taken_235 rfl rfl rfl hx7 rfl ?_
      refine fx_goto (t := 214) dX12_taken_238 rfl rfl ?_
      exact ih l3 x7 (o5) (o6) (o7) (o8) q5 q6 q7 q8 m5 r h
def fX12_taken_85 (a0 : Nat) (a1 : Int32) (a2 : Int32) (rec53 : Int32 → xMem → Option (Int32 × xMem)) : Nat → Int32 → Int32 → xMem → Option (Int32 × xMem)
  | 0, _, _, _ => none
  | fuel + 1, l3, l4, m => if (3 : Int32) ≤ l4 then fX12_taken_214 a0 a1 a2 rec53 xFuel l3 (0 : Int32) m else (fX12_chain a0 a1 l3 l4 m).bind fun p2 => fX12_taken_104 a0 a1 a2 rec53 (fX12_taken_85 a0 a1 a2 rec53 fuel) xFuel l3 l4 p2.1 (0 : Int32) p2.2
set_option maxRecDepth 4000 in
theorem fX12_taken_85_ok {a0 : Nat} {a1 : Int32} {a2 : Int32} {rec53 : Int32 → xMem → Option (Int32 × xMem)} {d : Nat} (hd : 2 ≤ d) (ha0 : isModel a0) (hrec53 : ∀ (l3 : Int32) (o4 : Option Value) (o5 : Option Value) (o6 : Option Value) (o7 : Option Value) (o8 : Option Value) (q4 : xNoD o4 = true) (q5 : xNoD o5 = true) (q6 : xNoD o6 = true) (q7 : xNoD o7 = true) (q8 : xNoD o8 = true) (m : xMem) (r : (Int32 × xMem)), rec53 l3 m = some r → xFx hh_261 cX12_taken d 53 [some (.ref a0), some (.int a1), some (.int a2), some (.int l3), o4, o5, o6, o7, o8] [] (xLay m) 0 0 (some (.int r.1)) (xLay r.2)) : ∀ (fuel : Nat) (l3 : Int32) (l4 : Int32) (o5 : Option Value) (o6 : Option Value) (o7 : Option Value) (o8 : Option Value) (q5 : xNoD o5 = true) (q6 : xNoD o6 = true) (q7 : xNoD o7 = true) (q8 : xNoD o8 = true) (m : xMem) (r : (Int32 × xMem)), fX12_taken_85 a0 a1 a2 rec53 fuel l3 l4 m = some r → xFx hh_261 cX12_taken d 85 [some (.ref a0), some (.int a1), some (.int a2), some (.int l3), some (.int l4), o5, o6, o7, o8] [] (xLay m) 0 0 (some (.int r.1)) (xLay r.2) := by
  intro fuel
  induction fuel with
  | zero => intro l3 l4 o5 o6 o7 o8 q5 q6 q7 q8 m r  h; cases h
  | succ fuel ih =>
    intro l3 l4 o5 o6 o7 o8 q5 q6 q7 q8 m r  h
    unfold fX12_taken_85 at h
    refine fx_iload dX12_taken_85 rfl rfl ?_
    refine fx_iconst (x := 3) dX12_taken_87 rfl (by decide) ?_
    refine fx_icmp_ge (t := 211) dX12_taken_88 rfl rfl (fun hc1 => ?_) (fun hc1 => ?_)
    · rw [if_pos hc1] at h
      refine fx_iconst (x := 0) dX12_taken_211 rfl (by decide) ?_
      refine fx_istore (ls2 := [some (.ref a0), some (.int a1), some (.int a2), some (.int l3), some (.int (0 : Int32)), o5, o6, o7, o8]) dX12_taken_212 rfl rfl rfl ?_
      exact fX12_taken_214_ok hd ha0 hrec53 xFuel l3 (0 : Int32) (o5) (o6) (o7) (o8) q5 q6 q7 q8 m r h
    · rw [if_neg hc1] at h
      refine fx_aload_n dX12_taken_91 rfl rfl ?_
      refine fx_iload_n dX12_taken_92 rfl rfl ?_
      refine fx_iload_n dX12_taken_93 rfl rfl ?_
      refine fx_iload dX12_taken_94 rfl rfl ?_
      obtain ⟨p2, ep2, h⟩ := xBind_el h
      refine gx_callv (as := [.int a1, .int l3, .int l4]) (r := []) rfl dX12_taken_96 ca_12_420 rfl me_262 rfl rfl rfl rfl (ha0.1) rfl (fX12_chain_ok (d := d) (by omega) ha0 ep2) rfl rfl ?_
      refine fx_istore (ls2 := [some (.ref a0), some (.int a1), some (.int a2), some (.int l3), some (.int l4), some (.int p2.1), o6, o7, o8]) dX12_taken_99 rfl rfl rfl ?_
      refine fx_iconst (x := 0) dX12_taken_101 rfl (by decide) ?_
      refine fx_istore (ls2 := [some (.ref a0), some (.int a1), some (.int a2), some (.int l3), some (.int l4), some (.int p2.1), some (.int (0 : Int32)), o7, o8]) dX12_taken_102 rfl rfl rfl ?_
      exact fX12_taken_104_ok hd ha0 hrec53 ih xFuel l3 l4 p2.1 (0 : Int32) (o7) (o8) q7 q8 p2.2 r h
def fX12_taken_61 (a0 : Nat) (a1 : Int32) (a2 : Int32) (rec53 : Int32 → xMem → Option (Int32 × xMem)) : Nat → Int32 → Int32 → xMem → Option (Int32 × xMem)
  | 0, _, _, _ => none
  | fuel + 1, l3, l4, m => if (81 : Int32) ≤ l4 then fX12_taken_85 a0 a1 a2 rec53 xFuel l3 (0 : Int32) m else bif xIn l4 81 then xLet (xPut m (a0 + 25) l4.toNatClampNeg (-1 : Int32)) fun m2 => xLet (l4 + (1 : Int32)) fun x4 => fX12_taken_61 a0 a1 a2 rec53 fuel l3 x4 m2 else none
set_option maxRecDepth 4000 in
theorem fX12_taken_61_ok {a0 : Nat} {a1 : Int32} {a2 : Int32} {rec53 : Int32 → xMem → Option (Int32 × xMem)} {d : Nat} (hd : 2 ≤ d) (ha0 : isModel a0) (hrec53 : ∀ (l3 : Int32) (o4 : Option Value) (o5 : Option Value) (o6 : Option Value) (o7 : Option Value) (o8 : Option Value) (q4 : xNoD o4 = true) (q5 : xNoD o5 = true) (q6 : xNoD o6 = true) (q7 : xNoD o7 = true) (q8 : xNoD o8 = true) (m : xMem) (r : (Int32 × xMem)), rec53 l3 m = some r → xFx hh_261 cX12_taken d 53 [some (.ref a0), some (.int a1), some (.int a2), some (.int l3), o4, o5, o6, o7, o8] [] (xLay m) 0 0 (some (.int r.1)) (xLay r.2)) : ∀ (fuel : Nat) (l3 : Int32) (l4 : Int32) (o5 : Option Value) (o6 : Option Value) (o7 : Option Value) (o8 : Option Value) (q5 : xNoD o5 = true) (q6 : xNoD o6 = true) (q7 : xNoD o7 = true) (q8 : xNoD o8 = true) (m : xMem) (r : (Int32 × xMem)), fX12_taken_61 a0 a1 a2 rec53 fuel l3 l4 m = some r → xFx hh_261 cX12_taken d 61 [some (.ref a0), some (.int a1), some (.int a2), some (.int l3), some (.int l4), o5, o6, o7, o8] [] (xLay m) 0 0 (some (.int r.1)) (xLay r.2) := by
  intro fuel
  induction fuel with
  | zero => intro l3 l4 o5 o6 o7 o8 q5 q6 q7 q8 m r  h; cases h
  | succ fuel ih =>
    intro l3 l4 o5 o6 o7 o8 q5 q6 q7 q8 m r  h
    unfold fX12_taken_61 at h
    refine fx_iload dX12_taken_61 rfl rfl ?_
    refine fx_bipush (x := 81) dX12_taken_63 rfl (by decide) ?_
    refine fx_icmp_ge (t := 82) dX12_taken_65 rfl rfl (fun hc1 => ?_) (fun hc1 => ?_)
    · rw [if_pos hc1] at h
      refine fx_iconst (x := 0) dX12_taken_82 rfl (by decide) ?_
      refine fx_istore (ls2 := [some (.ref a0), some (.int a1), some (.int a2), some (.int l3), some (.int (0 : Int32)), o5, o6, o7, o8]) dX12_taken_83 rfl rfl rfl ?_
      exact fX12_taken_85_ok hd ha0 hrec53 xFuel l3 (0 : Int32) (o5) (o6) (o7) (o8) q5 q6 q7 q8 m r h
    · rw [if_neg hc1] at h
      refine fx_aload_n dX12_taken_68 rfl rfl ?_
      refine gx_getr dX12_taken_69 rfl fd_12_92 ha0.1 rfl rfl ?_
      refine fx_iload dX12_taken_72 rfl rfl ?_
      refine fx_iconst (x := -1) dX12_taken_74 rfl (by decide) ?_
      obtain ⟨hj3, h⟩ := xChk_el h
      obtain ⟨m2, hm2, h⟩ := xLet_el h
      refine gx_iastore dX12_taken_75 rfl ha0.2.2.2.2.2.2.2.2.2.2.2.2.2.2.2.2.2.2.2.2.2.2.2.2.2 hj3 hm2 ?_
      obtain ⟨x4, hx4, h⟩ := xLet_el h
      refine fx_iinc (ls2 := [some (.ref a0), some (.int a1), some (.int a2), some (.int l3), some (.int x4), o5, o6, o7, o8]) dX12_taken_76 rfl rfl rfl hx4 rfl ?_
      refine fx_goto (t := 61) dX12_taken_79 rfl rfl ?_
      exact ih l3 x4 (o5) (o6) (o7) (o8) q5 q6 q7 q8 m2 r h
def fX12_taken_53 (a0 : Nat) (a1 : Int32) (a2 : Int32) : Nat → Int32 → xMem → Option (Int32 × xMem)
  | 0, _, _ => none
  | fuel + 1, l3, m => if a1 < l3 then bif xIn (1550 : Int32) 1610 then xLet (m.1 (a0 + 1) (1550 : Int32).toNatClampNeg) fun x2 => bif xIn x2 81 then xLet (m.1 (a0 + 24) x2.toNatClampNeg) fun x4 => some (x4, m) else none else none else fX12_taken_61 a0 a1 a2 (fX12_taken_53 a0 a1 a2 fuel) xFuel l3 (0 : Int32) m
set_option maxRecDepth 4000 in
theorem fX12_taken_53_ok {a0 : Nat} {a1 : Int32} {a2 : Int32} {d : Nat} (hd : 2 ≤ d) (ha0 : isModel a0) : ∀ (fuel : Nat) (l3 : Int32) (o4 : Option Value) (o5 : Option Value) (o6 : Option Value) (o7 : Option Value) (o8 : Option Value) (q4 : xNoD o4 = true) (q5 : xNoD o5 = true) (q6 : xNoD o6 = true) (q7 : xNoD o7 = true) (q8 : xNoD o8 = true) (m : xMem) (r : (Int32 × xMem)), fX12_taken_53 a0 a1 a2 fuel l3 m = some r → xFx hh_261 cX12_taken d 53 [some (.ref a0), some (.int a1), some (.int a2), some (.int l3), o4, o5, o6, o7, o8] [] (xLay m) 0 0 (some (.int r.1)) (xLay r.2) := by
  intro fuel
  induction fuel with
  | zero => intro l3 o4 o5 o6 o7 o8 q4 q5 q6 q7 q8 m r  h; cases h
  | succ fuel ih =>
    intro l3 o4 o5 o6 o7 o8 q4 q5 q6 q7 q8 m r  h
    unfold fX12_taken_53 at h
    refine fx_iload_n dX12_taken_53 rfl rfl ?_
    refine fx_iload_n dX12_taken_54 rfl rfl ?_
    refine fx_icmp_gt (t := 247) dX12_taken_55 rfl rfl (fun hc1 => ?_) (fun hc1 => ?_)
    · rw [if_pos hc1] at h
      refine fx_aload_n dX12_taken_247 rfl rfl ?_
      refine gx_getr dX12_taken_248 rfl fd_12_89 ha0.1 rfl rfl ?_
      refine fx_aload_n dX12_taken_251 rfl rfl ?_
      refine gx_getr dX12_taken_252 rfl fd_12_7 ha0.1 rfl rfl ?_
      refine fx_sipush (x := 1550) dX12_taken_255 rfl (by decide) ?_
      obtain ⟨hj3, h⟩ := xChk_el h
      obtain ⟨x2, hx2, h⟩ := xLet_el h
      refine gx_iaload dX12_taken_258 rfl ha0.2.1 hj3 hx2 ?_
      obtain ⟨hj5, h⟩ := xChk_el h
      obtain ⟨x4, hx4, h⟩ := xLet_el h
      refine gx_iaload dX12_taken_259 rfl ha0.2.2.2.2.2.2.2.2.2.2.2.2.2.2.2.2.2.2.2.2.2.2.2.2.1 hj5 hx4 ?_
      cases h
      exact fx_ireturn dX12_taken_260 rfl rfl
    · rw [if_neg hc1] at h
      refine fx_iconst (x := 0) dX12_taken_58 rfl (by decide) ?_
      refine fx_istore (ls2 := [some (.ref a0), some (.int a1), some (.int a2), some (.int l3), some (.int (0 : Int32)), o5, o6, o7, o8]) dX12_taken_59 rfl rfl rfl ?_
      exact fX12_taken_61_ok hd ha0 ih xFuel l3 (0 : Int32) (o5) (o6) (o7) (o8) q5 q6 q7 q8 m r h
def fX12_taken_24 (a0 : Nat) (a1 : Int32) (a2 : Int32) : Nat → Int32 → xMem → Option (Int32 × xMem)
  | 0, _, _ => none
  | fuel + 1, l3, m => if (81 : Int32) ≤ l3 then fX12_taken_53 a0 a1 a2 xFuel (1 : Int32) m else if ¬ l3 = (0 : Int32) then fX12_taken_44 a0 a1 a2 (fX12_taken_24 a0 a1 a2 fuel) l3 (a0 + 24) l3 (-1 : Int32) m else fX12_taken_44 a0 a1 a2 (fX12_taken_24 a0 a1 a2 fuel) l3 (a0 + 24) l3 (0 : Int32) m
set_option maxRecDepth 4000 in
theorem fX12_taken_24_ok {a0 : Nat} {a1 : Int32} {a2 : Int32} {d : Nat} (hd : 2 ≤ d) (ha0 : isModel a0) : ∀ (fuel : Nat) (l3 : Int32) (o4 : Option Value) (o5 : Option Value) (o6 : Option Value) (o7 : Option Value) (o8 : Option Value) (q4 : xNoD o4 = true) (q5 : xNoD o5 = true) (q6 : xNoD o6 = true) (q7 : xNoD o7 = true) (q8 : xNoD o8 = true) (m : xMem) (r : (Int32 × xMem)), fX12_taken_24 a0 a1 a2 fuel l3 m = some r → xFx hh_261 cX12_taken d 24 [some (.ref a0), some (.int a1), some (.int a2), some (.int l3), o4, o5, o6, o7, o8] [] (xLay m) 0 0 (some (.int r.1)) (xLay r.2) := by
  intro fuel
  induction fuel with
  | zero => intro l3 o4 o5 o6 o7 o8 q4 q5 q6 q7 q8 m r  h; cases h
  | succ fuel ih =>
    intro l3 o4 o5 o6 o7 o8 q4 q5 q6 q7 q8 m r  h
    unfold fX12_taken_24 at h
    refine fx_iload_n dX12_taken_24 rfl rfl ?_
    refine fx_bipush (x := 81) dX12_taken_25 rfl (by decide) ?_
    refine fx_icmp_ge (t := 51) dX12_taken_27 rfl rfl (fun hc1 => ?_) (fun hc1 => ?_)
    · rw [if_pos hc1] at h
      refine fx_iconst (x := 1) dX12_taken_51 rfl (by decide) ?_
      refine fx_istore_n (ls2 := [some (.ref a0), some (.int a1), some (.int a2), some (.int (1 : Int32)), o4, o5, o6, o7, o8]) dX12_taken_52 rfl rfl rfl ?_
      exact fX12_taken_53_ok hd ha0 xFuel (1 : Int32) (o4) (o5) (o6) (o7) (o8) q4 q5 q6 q7 q8 m r h
    · rw [if_neg hc1] at h
      refine fx_aload_n dX12_taken_30 rfl rfl ?_
      refine gx_getr dX12_taken_31 rfl fd_12_89 ha0.1 rfl rfl ?_
      refine fx_iload_n dX12_taken_34 rfl rfl ?_
      refine fx_iload_n dX12_taken_35 rfl rfl ?_
      refine fx_if_ne (t := 43) dX12_taken_36 rfl rfl (fun hc2 => ?_) (fun hc2 => ?_)
      · rw [if_pos hc2] at h
        refine fx_iconst (x := -1) dX12_taken_43 rfl (by decide) ?_
        exact fX12_taken_44_ok (o4 := o4) (o5 := o5) (o6 := o6) (o7 := o7) (o8 := o8) hd ha0 ih ha0.2.2.2.2.2.2.2.2.2.2.2.2.2.2.2.2.2.2.2.2.2.2.2.2.1 q4 q5 q6 q7 q8 h
      · rw [if_neg hc2] at h
        refine fx_iconst (x := 0) dX12_taken_39 rfl (by decide) ?_
        refine fx_goto (t := 44) dX12_taken_40 rfl rfl ?_
        exact fX12_taken_44_ok (o4 := o4) (o5 := o5) (o6 := o6) (o7 := o7) (o8 := o8) hd ha0 ih ha0.2.2.2.2.2.2.2.2.2.2.2.2.2.2.2.2.2.2.2.2.2.2.2.2.1 q4 q5 q6 q7 q8 h
def fX12_taken_0 (a0 : Nat) (a1 : Int32) (a2 : Int32) (m : xMem) : Option (Int32 × xMem) := (fX12_in a1 (2 : Int32) (40 : Int32) m).bind fun p1 => if p1.1 = (0 : Int32) then fX12_taken_20 a0 a1 a2 p1.2 else bif xIn (8 : Int32) 1610 then xLet (p1.2.1 (a0 + 1) (8 : Int32).toNatClampNeg) fun x3 => if ¬ x3 = (0 : Int32) then fX12_taken_24 a0 a1 a2 xFuel (0 : Int32) p1.2 else fX12_taken_20 a0 a1 a2 p1.2 else none
set_option maxRecDepth 4000 in
theorem fX12_taken_0_ok {a0 : Nat} {a1 : Int32} {a2 : Int32} {d : Nat} (hd : 2 ≤ d) (ha0 : isModel a0) {o3 : Option Value} {o4 : Option Value} {o5 : Option Value} {o6 : Option Value} {o7 : Option Value} {o8 : Option Value} {m : xMem} {r : (Int32 × xMem)} (q3 : xNoD o3 = true) (q4 : xNoD o4 = true) (q5 : xNoD o5 = true) (q6 : xNoD o6 = true) (q7 : xNoD o7 = true) (q8 : xNoD o8 = true) (h : fX12_taken_0 a0 a1 a2 m = some r) : xFx hh_261 cX12_taken d 0 [some (.ref a0), some (.int a1), some (.int a2), o3, o4, o5, o6, o7, o8] [] (xLay m) 0 0 (some (.int r.1)) (xLay r.2) := by
  unfold fX12_taken_0 at h
  refine fx_iload_n dX12_taken_0 rfl rfl ?_
  refine fx_iconst (x := 2) dX12_taken_1 rfl (by decide) ?_
  refine fx_bipush (x := 40) dX12_taken_2 rfl (by decide) ?_
  obtain ⟨p1, ep1, h⟩ := xBind_el h
  refine gx_calls (as := [.int a1, .int (2 : Int32), .int (40 : Int32)]) (r := []) rfl dX12_taken_4 ca_12_95 rfl me_18 rfl rfl rfl rfl (fX12_in_ok (d := d) (by omega) ep1) rfl rfl ?_
  refine fx_if_eq (t := 20) dX12_taken_7 rfl rfl (fun hc2 => ?_) (fun hc2 => ?_)
  · rw [if_pos hc2] at h
    exact fX12_taken_20_ok (o3 := o3) (o4 := o4) (o5 := o5) (o6 := o6) (o7 := o7) (o8 := o8) hd ha0 q3 q4 q5 q6 q7 q8 h
  · rw [if_neg hc2] at h
    refine fx_aload_n dX12_taken_10 rfl rfl ?_
    refine gx_getr dX12_taken_11 rfl fd_12_7 ha0.1 rfl rfl ?_
    refine fx_bipush (x := 8) dX12_taken_14 rfl (by decide) ?_
    obtain ⟨hj4, h⟩ := xChk_el h
    obtain ⟨x3, hx3, h⟩ := xLet_el h
    refine gx_iaload dX12_taken_16 rfl ha0.2.1 hj4 hx3 ?_
    refine fx_if_ne (t := 22) dX12_taken_17 rfl rfl (fun hc5 => ?_) (fun hc5 => ?_)
    · rw [if_pos hc5] at h
      refine fx_iconst (x := 0) dX12_taken_22 rfl (by decide) ?_
      refine fx_istore_n (ls2 := [some (.ref a0), some (.int a1), some (.int a2), some (.int (0 : Int32)), o4, o5, o6, o7, o8]) dX12_taken_23 rfl rfl rfl ?_
      exact fX12_taken_24_ok hd ha0 xFuel (0 : Int32) (o4) (o5) (o6) (o7) (o8) q4 q5 q6 q7 q8 p1.2 r h
    · rw [if_neg hc5] at h
      exact fX12_taken_20_ok (o3 := o3) (o4 := o4) (o5 := o5) (o6 := o6) (o7 := o7) (o8 := o8) hd ha0 q3 q4 q5 q6 q7 q8 h
def fX12_taken (a0 : Nat) (a1 : Int32) (a2 : Int32) (m : xMem) : Option (Int32 × xMem) := fX12_taken_0 a0 a1 a2  m
theorem fX12_taken_ok {a0 : Nat} {a1 : Int32} {a2 : Int32} {m : xMem} {r : (Int32 × xMem)} {d : Nat} (hd : 3 ≤ d) (ha0 : isModel a0) (h : fX12_taken a0 a1 a2 m = some r) : xEx d 261 [.ref a0, .int a1, .int a2] (xLay m) (some (.int r.1)) (xLay r.2) := by
  obtain ⟨d, rfl⟩ : ∃ q, d = q + 1 := ⟨d - 1, by omega⟩
  exact xEx_of me_261 rfl (fX12_taken_0_ok (d := d) (o3 := none) (o4 := none) (o5 := none) (o6 := none) (o7 := none) (o8 := none) (by omega) ha0 rfl rfl rfl rfl rfl rfl h)
def fX1_copy_0 (a0 : Nat) (a1 : Nat) (m : xMem) : Option xMem := xLet (m.1 a1 2) fun x1 => xLet (xPut m a0 2 x1) fun m2 => xLet (xCpy m2 (a1 + 1) (a0 + 1) 0 0 12) fun m3 => xLet (xCpy m3 (a1 + 2) (a0 + 2) 0 0 12) fun m4 => some m4
set_option maxRecDepth 4000 in
theorem fX1_copy_0_ok {a0 : Nat} {a1 : Nat} {d : Nat} (hd : 0 ≤ d) (ha0 : isDays a0) (ha1 : isDays a1) {m : xMem} {r : xMem} (h : fX1_copy_0 a0 a1 m = some r) : xFx hh_265 cX1_copy d 0 [some (.ref a0), some (.ref a1)] [] (xLay m) 0 0 none (xLay r) := by
  unfold fX1_copy_0 at h
  refine fx_aload_n dX1_copy_0 rfl rfl ?_
  refine fx_aload_n dX1_copy_1 rfl rfl ?_
  obtain ⟨x1, hx1, h⟩ := xLet_el h
  refine gx_get dX1_copy_2 rfl fd_1_18 ha1.1 rfl rfl hx1 ?_
  obtain ⟨m2, hm2, h⟩ := xLet_el h
  refine gx_put dX1_copy_5 rfl fd_1_18 ha0.1 rfl rfl rfl hm2 ?_
  refine fx_aload_n dX1_copy_8 rfl rfl ?_
  refine gx_getr dX1_copy_9 rfl fd_1_11 ha1.1 rfl rfl ?_
  refine fx_iconst (x := 0) dX1_copy_12 rfl (by decide) ?_
  refine fx_aload_n dX1_copy_13 rfl rfl ?_
  refine gx_getr dX1_copy_14 rfl fd_1_11 ha0.1 rfl rfl ?_
  refine fx_iconst (x := 0) dX1_copy_17 rfl (by decide) ?_
  refine fx_aload_n dX1_copy_18 rfl rfl ?_
  refine gx_getr dX1_copy_19 rfl fd_1_11 ha0.1 rfl rfl ?_
  refine gx_alen (t := 1) (y := 12) dX1_copy_22 rfl ha0.2.1 rfl (by decide) ?_
  obtain ⟨m3, hm3, h⟩ := xLet_el h
  refine gx_copy dX1_copy_23 rfl ca_1_22 rfl ha1.2.1 ha0.2.1 (by decide) hm3 ?_
  refine fx_aload_n dX1_copy_26 rfl rfl ?_
  refine gx_getr dX1_copy_27 rfl fd_1_15 ha1.1 rfl rfl ?_
  refine fx_iconst (x := 0) dX1_copy_30 rfl (by decide) ?_
  refine fx_aload_n dX1_copy_31 rfl rfl ?_
  refine gx_getr dX1_copy_32 rfl fd_1_15 ha0.1 rfl rfl ?_
  refine fx_iconst (x := 0) dX1_copy_35 rfl (by decide) ?_
  refine fx_aload_n dX1_copy_36 rfl rfl ?_
  refine gx_getr dX1_copy_37 rfl fd_1_15 ha0.1 rfl rfl ?_
  refine gx_alen (t := 1) (y := 12) dX1_copy_40 rfl ha0.2.2 rfl (by decide) ?_
  obtain ⟨m4, hm4, h⟩ := xLet_el h
  refine gx_copy dX1_copy_41 rfl ca_1_22 rfl ha1.2.2 ha0.2.2 (by decide) hm4 ?_
  cases h
  exact fx_return dX1_copy_44 rfl rfl
def fX1_copy (a0 : Nat) (a1 : Nat) (m : xMem) : Option xMem := fX1_copy_0 a0 a1  m
theorem fX1_copy_ok {a0 : Nat} {a1 : Nat} {m : xMem} {r : xMem} {d : Nat} (hd : 1 ≤ d) (ha0 : isDays a0) (ha1 : isDays a1) (h : fX1_copy a0 a1 m = some r) : xEx d 265 [.ref a0, .ref a1] (xLay m) none (xLay r) := by
  obtain ⟨d, rfl⟩ : ∃ q, d = q + 1 := ⟨d - 1, by omega⟩
  exact xEx_of me_265 rfl (fX1_copy_0_ok (d := d) (by omega) ha0 ha1 h)
def fX5_copy_0 (a0 : Nat) (a1 : Nat) (m : xMem) : Option xMem := xLet (m.1 a1 5) fun x1 => xLet (xPut m a0 5 x1) fun m2 => xLet (xCpy m2 (a1 + 1) (a0 + 1) 0 0 6) fun m3 => xLet (xCpy m3 (a1 + 2) (a0 + 2) 0 0 6) fun m4 => xLet (xCpy m4 (a1 + 3) (a0 + 3) 0 0 6) fun m5 => xLet (xCpy m5 (a1 + 4) (a0 + 4) 0 0 6) fun m6 => some m6
set_option maxRecDepth 4000 in
theorem fX5_copy_0_ok {a0 : Nat} {a1 : Nat} {d : Nat} (hd : 0 ≤ d) (ha0 : isMends a0) (ha1 : isMends a1) {m : xMem} {r : xMem} (h : fX5_copy_0 a0 a1 m = some r) : xFx hh_266 cX5_copy d 0 [some (.ref a0), some (.ref a1)] [] (xLay m) 0 0 none (xLay r) := by
  unfold fX5_copy_0 at h
  refine fx_aload_n dX5_copy_0 rfl rfl ?_
  refine fx_aload_n dX5_copy_1 rfl rfl ?_
  obtain ⟨x1, hx1, h⟩ := xLet_el h
  refine gx_get dX5_copy_2 rfl fd_5_27 ha1.1 rfl rfl hx1 ?_
  obtain ⟨m2, hm2, h⟩ := xLet_el h
  refine gx_put dX5_copy_5 rfl fd_5_27 ha0.1 rfl rfl rfl hm2 ?_
  refine fx_aload_n dX5_copy_8 rfl rfl ?_
  refine gx_getr dX5_copy_9 rfl fd_5_11 ha1.1 rfl rfl ?_
  refine fx_iconst (x := 0) dX5_copy_12 rfl (by decide) ?_
  refine fx_aload_n dX5_copy_13 rfl rfl ?_
  refine gx_getr dX5_copy_14 rfl fd_5_11 ha0.1 rfl rfl ?_
  refine fx_iconst (x := 0) dX5_copy_17 rfl (by decide) ?_
  refine fx_bipush (x := 6) dX5_copy_18 rfl (by decide) ?_
  obtain ⟨m3, hm3, h⟩ := xLet_el h
  refine gx_copy dX5_copy_20 rfl ca_5_31 rfl ha1.2.1 ha0.2.1 (by decide) hm3 ?_
  refine fx_aload_n dX5_copy_23 rfl rfl ?_
  refine gx_getr dX5_copy_24 rfl fd_5_15 ha1.1 rfl rfl ?_
  refine fx_iconst (x := 0) dX5_copy_27 rfl (by decide) ?_
  refine fx_aload_n dX5_copy_28 rfl rfl ?_
  refine gx_getr dX5_copy_29 rfl fd_5_15 ha0.1 rfl rfl ?_
  refine fx_iconst (x := 0) dX5_copy_32 rfl (by decide) ?_
  refine fx_bipush (x := 6) dX5_copy_33 rfl (by decide) ?_
  obtain ⟨m4, hm4, h⟩ := xLet_el h
  refine gx_copy dX5_copy_35 rfl ca_5_31 rfl ha1.2.2.1 ha0.2.2.1 (by decide) hm4 ?_
  refine fx_aload_n dX5_copy_38 rfl rfl ?_
  refine gx_getr dX5_copy_39 rfl fd_5_18 ha1.1 rfl rfl ?_
  refine fx_iconst (x := 0) dX5_copy_42 rfl (by decide) ?_
  refine fx_aload_n dX5_copy_43 rfl rfl ?_
  refine gx_getr dX5_copy_44 rfl fd_5_18 ha0.1 rfl rfl ?_
  refine fx_iconst (x := 0) dX5_copy_47 rfl (by decide) ?_
  refine fx_bipush (x := 6) dX5_copy_48 rfl (by decide) ?_
  obtain ⟨m5, hm5, h⟩ := xLet_el h
  refine gx_copy dX5_copy_50 rfl ca_5_31 rfl ha1.2.2.2.1 ha0.2.2.2.1 (by decide) hm5 ?_
  refine fx_aload_n dX5_copy_53 rfl rfl ?_
  refine gx_getr dX5_copy_54 rfl fd_5_21 ha1.1 rfl rfl ?_
  refine fx_iconst (x := 0) dX5_copy_57 rfl (by decide) ?_
  refine fx_aload_n dX5_copy_58 rfl rfl ?_
  refine gx_getr dX5_copy_59 rfl fd_5_21 ha0.1 rfl rfl ?_
  refine fx_iconst (x := 0) dX5_copy_62 rfl (by decide) ?_
  refine fx_bipush (x := 6) dX5_copy_63 rfl (by decide) ?_
  obtain ⟨m6, hm6, h⟩ := xLet_el h
  refine gx_copy dX5_copy_65 rfl ca_5_31 rfl ha1.2.2.2.2.1 ha0.2.2.2.2.1 (by decide) hm6 ?_
  cases h
  exact fx_return dX5_copy_68 rfl rfl
def fX5_copy (a0 : Nat) (a1 : Nat) (m : xMem) : Option xMem := fX5_copy_0 a0 a1  m
theorem fX5_copy_ok {a0 : Nat} {a1 : Nat} {m : xMem} {r : xMem} {d : Nat} (hd : 1 ≤ d) (ha0 : isMends a0) (ha1 : isMends a1) (h : fX5_copy a0 a1 m = some r) : xEx d 266 [.ref a0, .ref a1] (xLay m) none (xLay r) := by
  obtain ⟨d, rfl⟩ : ∃ q, d = q + 1 := ⟨d - 1, by omega⟩
  exact xEx_of me_266 rfl (fX5_copy_0_ok (d := d) (by omega) ha0 ha1 h)
def fX4_copy_0 (a0 : Nat) (a1 : Nat) (m : xMem) : Option xMem := xLet (m.1 a1 1) fun x1 => xLet (xPut m a0 1 x1) fun m2 => xLet (xCpy m2 (a1 + 1) (a0 + 1) 0 0 60) fun m3 => some m3
set_option maxRecDepth 4000 in
theorem fX4_copy_0_ok {a0 : Nat} {a1 : Nat} {d : Nat} (hd : 0 ≤ d) (ha0 : isLoads a0) (ha1 : isLoads a1) {m : xMem} {r : xMem} (h : fX4_copy_0 a0 a1 m = some r) : xFx hh_267 cX4_copy d 0 [some (.ref a0), some (.ref a1)] [] (xLay m) 0 0 none (xLay r) := by
  unfold fX4_copy_0 at h
  refine fx_aload_n dX4_copy_0 rfl rfl ?_
  refine fx_aload_n dX4_copy_1 rfl rfl ?_
  obtain ⟨x1, hx1, h⟩ := xLet_el h
  refine gx_get dX4_copy_2 rfl fd_4_15 ha1.1 rfl rfl hx1 ?_
  obtain ⟨m2, hm2, h⟩ := xLet_el h
  refine gx_put dX4_copy_5 rfl fd_4_15 ha0.1 rfl rfl rfl hm2 ?_
  refine fx_aload_n dX4_copy_8 rfl rfl ?_
  refine gx_getr dX4_copy_9 rfl fd_4_11 ha1.1 rfl rfl ?_
  refine fx_iconst (x := 0) dX4_copy_12 rfl (by decide) ?_
  refine fx_aload_n dX4_copy_13 rfl rfl ?_
  refine gx_getr dX4_copy_14 rfl fd_4_11 ha0.1 rfl rfl ?_
  refine fx_iconst (x := 0) dX4_copy_17 rfl (by decide) ?_
  refine fx_bipush (x := 60) dX4_copy_18 rfl (by decide) ?_
  obtain ⟨m3, hm3, h⟩ := xLet_el h
  refine gx_copy dX4_copy_20 rfl ca_4_19 rfl ha1.2 ha0.2 (by decide) hm3 ?_
  cases h
  exact fx_return dX4_copy_23 rfl rfl
def fX4_copy (a0 : Nat) (a1 : Nat) (m : xMem) : Option xMem := fX4_copy_0 a0 a1  m
theorem fX4_copy_ok {a0 : Nat} {a1 : Nat} {m : xMem} {r : xMem} {d : Nat} (hd : 1 ≤ d) (ha0 : isLoads a0) (ha1 : isLoads a1) (h : fX4_copy a0 a1 m = some r) : xEx d 267 [.ref a0, .ref a1] (xLay m) none (xLay r) := by
  obtain ⟨d, rfl⟩ : ∃ q, d = q + 1 := ⟨d - 1, by omega⟩
  exact xEx_of me_267 rfl (fX4_copy_0_ok (d := d) (by omega) ha0 ha1 h)
def fX9_copyAll_0 (a0 : Nat) (a1 : Nat) (m : xMem) : Option xMem := (fX9_copyMoving a0 a1 m).bind fun p1 => xLet (p1.1 a1 10) fun x2 => xLet (xPut p1 a0 10 x2) fun m3 => xLet (m3.1 a1 11) fun x4 => xLet (xPut m3 a0 11 x4) fun m5 => (fX1_copy (a0 + 4) (a1 + 4) m5).bind fun p6 => (fX5_copy (a0 + 7) (a1 + 7) p6).bind fun p7 => (fX4_copy (a0 + 13) (a1 + 13) p7).bind fun p8 => some p8
set_option maxRecDepth 4000 in
theorem fX9_copyAll_0_ok {a0 : Nat} {a1 : Nat} {d : Nat} (hd : 2 ≤ d) (ha0 : isStation a0) (ha1 : isStation a1) {m : xMem} {r : xMem} (h : fX9_copyAll_0 a0 a1 m = some r) : xFx hh_264 cX9_copyAll d 0 [some (.ref a0), some (.ref a1)] [] (xLay m) 0 0 none (xLay r) := by
  unfold fX9_copyAll_0 at h
  refine fx_aload_n dX9_copyAll_0 rfl rfl ?_
  refine fx_aload_n dX9_copyAll_1 rfl rfl ?_
  obtain ⟨p1, ep1, h⟩ := xBind_el h
  refine gx_callv (as := [.ref a1]) (r := []) rfl dX9_copyAll_2 ca_9_90 rfl me_208 rfl rfl rfl rfl (ha0.1) rfl (fX9_copyMoving_ok (d := d) (by omega) ha0 ha1 ep1) rfl rfl ?_
  refine fx_aload_n dX9_copyAll_5 rfl rfl ?_
  refine fx_aload_n dX9_copyAll_6 rfl rfl ?_
  obtain ⟨x2, hx2, h⟩ := xLet_el h
  refine gx_get dX9_copyAll_7 rfl fd_9_94 ha1.1 rfl rfl hx2 ?_
  obtain ⟨m3, hm3, h⟩ := xLet_el h
  refine gx_put dX9_copyAll_10 rfl fd_9_94 ha0.1 rfl rfl rfl hm3 ?_
  refine fx_aload_n dX9_copyAll_13 rfl rfl ?_
  refine fx_aload_n dX9_copyAll_14 rfl rfl ?_
  obtain ⟨x4, hx4, h⟩ := xLet_el h
  refine gx_get dX9_copyAll_15 rfl fd_9_50 ha1.1 rfl rfl hx4 ?_
  obtain ⟨m5, hm5, h⟩ := xLet_el h
  refine gx_put dX9_copyAll_18 rfl fd_9_50 ha0.1 rfl rfl rfl hm5 ?_
  refine fx_aload_n dX9_copyAll_21 rfl rfl ?_
  refine gx_getr dX9_copyAll_22 rfl fd_9_32 ha0.1 rfl rfl ?_
  refine fx_aload_n dX9_copyAll_25 rfl rfl ?_
  refine gx_getr dX9_copyAll_26 rfl fd_9_32 ha1.1 rfl rfl ?_
  obtain ⟨p6, ep6, h⟩ := xBind_el h
  refine gx_callv (as := [.ref (a1 + 4)]) (r := []) rfl dX9_copyAll_29 ca_9_97 rfl me_265 rfl rfl rfl rfl (ha0.2.2.2.2.1.1) rfl (fX1_copy_ok (d := d) (by omega) ha0.2.2.2.2.1 ha1.2.2.2.2.1 ep6) rfl rfl ?_
  refine fx_aload_n dX9_copyAll_32 rfl rfl ?_
  refine gx_getr dX9_copyAll_33 rfl fd_9_39 ha0.1 rfl rfl ?_
  refine fx_aload_n dX9_copyAll_36 rfl rfl ?_
  refine gx_getr dX9_copyAll_37 rfl fd_9_39 ha1.1 rfl rfl ?_
  obtain ⟨p7, ep7, h⟩ := xBind_el h
  refine gx_callv (as := [.ref (a1 + 7)]) (r := []) rfl dX9_copyAll_40 ca_9_101 rfl me_266 rfl rfl rfl rfl (ha0.2.2.2.2.2.1.1) rfl (fX5_copy_ok (d := d) (by omega) ha0.2.2.2.2.2.1 ha1.2.2.2.2.2.1 ep7) rfl rfl ?_
  refine fx_aload_n dX9_copyAll_43 rfl rfl ?_
  refine gx_getr dX9_copyAll_44 rfl fd_9_46 ha0.1 rfl rfl ?_
  refine fx_aload_n dX9_copyAll_47 rfl rfl ?_
  refine gx_getr dX9_copyAll_48 rfl fd_9_46 ha1.1 rfl rfl ?_
  obtain ⟨p8, ep8, h⟩ := xBind_el h
  refine gx_callv (as := [.ref (a1 + 13)]) (r := []) rfl dX9_copyAll_51 ca_9_104 rfl me_267 rfl rfl rfl rfl (ha0.2.2.2.2.2.2.1.1) rfl (fX4_copy_ok (d := d) (by omega) ha0.2.2.2.2.2.2.1 ha1.2.2.2.2.2.2.1 ep8) rfl rfl ?_
  cases h
  exact fx_return dX9_copyAll_54 rfl rfl
def fX9_copyAll (a0 : Nat) (a1 : Nat) (m : xMem) : Option xMem := fX9_copyAll_0 a0 a1  m
theorem fX9_copyAll_ok {a0 : Nat} {a1 : Nat} {m : xMem} {r : xMem} {d : Nat} (hd : 3 ≤ d) (ha0 : isStation a0) (ha1 : isStation a1) (h : fX9_copyAll a0 a1 m = some r) : xEx d 264 [.ref a0, .ref a1] (xLay m) none (xLay r) := by
  obtain ⟨d, rfl⟩ : ∃ q, d = q + 1 := ⟨d - 1, by omega⟩
  exact xEx_of me_264 rfl (fX9_copyAll_0_ok (d := d) (by omega) ha0 ha1 h)
