theorem bdX8_lowestFirst_0 : (decode cX8_lowestFirst 0 = .ok (.aload_n 0, 1)) ∧ (decode cX8_lowestFirst 1 = .ok (.iload_n 3, 1)) ∧ (decode cX8_lowestFirst 2 = .ok (.iload 4, 2)) ∧ (decode cX8_lowestFirst 4 = .ok (.invokevirtual 69, 3)) ∧ (decode cX8_lowestFirst 7 = .ok (.istore 5, 2)) ∧ (decode cX8_lowestFirst 9 = .ok (.iload_n 3, 1)) ∧ (decode cX8_lowestFirst 10 = .ok (.iload 4, 2)) ∧ (decode cX8_lowestFirst 12 = .ok (.if_icmp .eq 10, 3)) ∧ (decode cX8_lowestFirst 15 = .ok (.iload 5, 2)) ∧ (decode cX8_lowestFirst 17 = .ok (.ldc 44, 2)) ∧ (decode cX8_lowestFirst 19 = .ok (.if_icmp .lt 5, 3)) ∧ (decode cX8_lowestFirst 22 = .ok (.iconst (-1), 1)) ∧ (decode cX8_lowestFirst 23 = .ok (.ireturn, 1)) ∧ (decode cX8_lowestFirst 24 = .ok (.iconst 0, 1)) ∧ (decode cX8_lowestFirst 25 = .ok (.istore 6, 2)) ∧ (decode cX8_lowestFirst 27 = .ok (.iload 6, 2)) := by decide +kernel
theorem dX8_lowestFirst_0 : decode cX8_lowestFirst 0 = .ok (.aload_n 0, 1) := bdX8_lowestFirst_0.1
theorem dX8_lowestFirst_1 : decode cX8_lowestFirst 1 = .ok (.iload_n 3, 1) := bdX8_lowestFirst_0.2.1
theorem dX8_lowestFirst_2 : decode cX8_lowestFirst 2 = .ok (.iload 4, 2) := bdX8_lowestFirst_0.2.2.1
theorem dX8_lowestFirst_4 : decode cX8_lowestFirst 4 = .ok (.invokevirtual 69, 3) := bdX8_lowestFirst_0.2.2.2.1
theorem dX8_lowestFirst_7 : decode cX8_lowestFirst 7 = .ok (.istore 5, 2) := bdX8_lowestFirst_0.2.2.2.2.1
theorem dX8_lowestFirst_9 : decode cX8_lowestFirst 9 = .ok (.iload_n 3, 1) := bdX8_lowestFirst_0.2.2.2.2.2.1
theorem dX8_lowestFirst_10 : decode cX8_lowestFirst 10 = .ok (.iload 4, 2) := bdX8_lowestFirst_0.2.2.2.2.2.2.1
theorem dX8_lowestFirst_12 : decode cX8_lowestFirst 12 = .ok (.if_icmp .eq 10, 3) := bdX8_lowestFirst_0.2.2.2.2.2.2.2.1
theorem dX8_lowestFirst_15 : decode cX8_lowestFirst 15 = .ok (.iload 5, 2) := bdX8_lowestFirst_0.2.2.2.2.2.2.2.2.1
theorem dX8_lowestFirst_17 : decode cX8_lowestFirst 17 = .ok (.ldc 44, 2) := bdX8_lowestFirst_0.2.2.2.2.2.2.2.2.2.1
theorem dX8_lowestFirst_19 : decode cX8_lowestFirst 19 = .ok (.if_icmp .lt 5, 3) := bdX8_lowestFirst_0.2.2.2.2.2.2.2.2.2.2.1
theorem dX8_lowestFirst_22 : decode cX8_lowestFirst 22 = .ok (.iconst (-1), 1) := bdX8_lowestFirst_0.2.2.2.2.2.2.2.2.2.2.2.1
theorem dX8_lowestFirst_23 : decode cX8_lowestFirst 23 = .ok (.ireturn, 1) := bdX8_lowestFirst_0.2.2.2.2.2.2.2.2.2.2.2.2.1
theorem dX8_lowestFirst_24 : decode cX8_lowestFirst 24 = .ok (.iconst 0, 1) := bdX8_lowestFirst_0.2.2.2.2.2.2.2.2.2.2.2.2.2.1
theorem dX8_lowestFirst_25 : decode cX8_lowestFirst 25 = .ok (.istore 6, 2) := bdX8_lowestFirst_0.2.2.2.2.2.2.2.2.2.2.2.2.2.2.1
theorem dX8_lowestFirst_27 : decode cX8_lowestFirst 27 = .ok (.iload 6, 2) := bdX8_lowestFirst_0.2.2.2.2.2.2.2.2.2.2.2.2.2.2.2
theorem bdX8_lowestFirst_29 : (decode cX8_lowestFirst 29 = .ok (.aload_n 1, 1)) ∧ (decode cX8_lowestFirst 30 = .ok (.getfield 22, 3)) ∧ (decode cX8_lowestFirst 33 = .ok (.if_icmp .ge 115, 3)) ∧ (decode cX8_lowestFirst 36 = .ok (.iload 6, 2)) ∧ (decode cX8_lowestFirst 38 = .ok (.bipush 10, 2)) ∧ (decode cX8_lowestFirst 40 = .ok (.if_icmp .ge 108, 3)) ∧ (decode cX8_lowestFirst 43 = .ok (.aload_n 1, 1)) ∧ (decode cX8_lowestFirst 44 = .ok (.getfield 27, 3)) ∧ (decode cX8_lowestFirst 47 = .ok (.iload 6, 2)) ∧ (decode cX8_lowestFirst 49 = .ok (.aaload, 1)) ∧ (decode cX8_lowestFirst 50 = .ok (.astore 7, 2)) ∧ (decode cX8_lowestFirst 52 = .ok (.aload 7, 2)) ∧ (decode cX8_lowestFirst 54 = .ok (.getfield 51, 3)) ∧ (decode cX8_lowestFirst 57 = .ok (.iload_n 3, 1)) ∧ (decode cX8_lowestFirst 58 = .ok (.if_icmp .eq 12, 3)) ∧ (decode cX8_lowestFirst 61 = .ok (.aload 7, 2)) := by decide +kernel
theorem dX8_lowestFirst_29 : decode cX8_lowestFirst 29 = .ok (.aload_n 1, 1) := bdX8_lowestFirst_29.1
theorem dX8_lowestFirst_30 : decode cX8_lowestFirst 30 = .ok (.getfield 22, 3) := bdX8_lowestFirst_29.2.1
theorem dX8_lowestFirst_33 : decode cX8_lowestFirst 33 = .ok (.if_icmp .ge 115, 3) := bdX8_lowestFirst_29.2.2.1
theorem dX8_lowestFirst_36 : decode cX8_lowestFirst 36 = .ok (.iload 6, 2) := bdX8_lowestFirst_29.2.2.2.1
theorem dX8_lowestFirst_38 : decode cX8_lowestFirst 38 = .ok (.bipush 10, 2) := bdX8_lowestFirst_29.2.2.2.2.1
theorem dX8_lowestFirst_40 : decode cX8_lowestFirst 40 = .ok (.if_icmp .ge 108, 3) := bdX8_lowestFirst_29.2.2.2.2.2.1
theorem dX8_lowestFirst_43 : decode cX8_lowestFirst 43 = .ok (.aload_n 1, 1) := bdX8_lowestFirst_29.2.2.2.2.2.2.1
theorem dX8_lowestFirst_44 : decode cX8_lowestFirst 44 = .ok (.getfield 27, 3) := bdX8_lowestFirst_29.2.2.2.2.2.2.2.1
theorem dX8_lowestFirst_47 : decode cX8_lowestFirst 47 = .ok (.iload 6, 2) := bdX8_lowestFirst_29.2.2.2.2.2.2.2.2.1
theorem dX8_lowestFirst_49 : decode cX8_lowestFirst 49 = .ok (.aaload, 1) := bdX8_lowestFirst_29.2.2.2.2.2.2.2.2.2.1
theorem dX8_lowestFirst_50 : decode cX8_lowestFirst 50 = .ok (.astore 7, 2) := bdX8_lowestFirst_29.2.2.2.2.2.2.2.2.2.2.1
theorem dX8_lowestFirst_52 : decode cX8_lowestFirst 52 = .ok (.aload 7, 2) := bdX8_lowestFirst_29.2.2.2.2.2.2.2.2.2.2.2.1
theorem dX8_lowestFirst_54 : decode cX8_lowestFirst 54 = .ok (.getfield 51, 3) := bdX8_lowestFirst_29.2.2.2.2.2.2.2.2.2.2.2.2.1
theorem dX8_lowestFirst_57 : decode cX8_lowestFirst 57 = .ok (.iload_n 3, 1) := bdX8_lowestFirst_29.2.2.2.2.2.2.2.2.2.2.2.2.2.1
theorem dX8_lowestFirst_58 : decode cX8_lowestFirst 58 = .ok (.if_icmp .eq 12, 3) := bdX8_lowestFirst_29.2.2.2.2.2.2.2.2.2.2.2.2.2.2.1
theorem dX8_lowestFirst_61 : decode cX8_lowestFirst 61 = .ok (.aload 7, 2) := bdX8_lowestFirst_29.2.2.2.2.2.2.2.2.2.2.2.2.2.2.2
theorem bdX8_lowestFirst_63 : (decode cX8_lowestFirst 63 = .ok (.getfield 58, 3)) ∧ (decode cX8_lowestFirst 66 = .ok (.iload_n 3, 1)) ∧ (decode cX8_lowestFirst 67 = .ok (.if_icmp .ne 75, 3)) ∧ (decode cX8_lowestFirst 70 = .ok (.aload_n 0, 1)) ∧ (decode cX8_lowestFirst 71 = .ok (.aload 7, 2)) ∧ (decode cX8_lowestFirst 73 = .ok (.iload_n 2, 1)) ∧ (decode cX8_lowestFirst 74 = .ok (.iload_n 3, 1)) ∧ (decode cX8_lowestFirst 75 = .ok (.invokevirtual 54, 3)) ∧ (decode cX8_lowestFirst 78 = .ok (.ifCond .eq 64, 3)) ∧ (decode cX8_lowestFirst 81 = .ok (.aload 7, 2)) ∧ (decode cX8_lowestFirst 83 = .ok (.getfield 51, 3)) ∧ (decode cX8_lowestFirst 86 = .ok (.iload_n 3, 1)) ∧ (decode cX8_lowestFirst 87 = .ok (.if_icmp .ne 11, 3)) ∧ (decode cX8_lowestFirst 90 = .ok (.aload 7, 2)) ∧ (decode cX8_lowestFirst 92 = .ok (.getfield 58, 3)) ∧ (decode cX8_lowestFirst 95 = .ok (.goto 8, 3)) := by decide +kernel
theorem dX8_lowestFirst_63 : decode cX8_lowestFirst 63 = .ok (.getfield 58, 3) := bdX8_lowestFirst_63.1
theorem dX8_lowestFirst_66 : decode cX8_lowestFirst 66 = .ok (.iload_n 3, 1) := bdX8_lowestFirst_63.2.1
theorem dX8_lowestFirst_67 : decode cX8_lowestFirst 67 = .ok (.if_icmp .ne 75, 3) := bdX8_lowestFirst_63.2.2.1
theorem dX8_lowestFirst_70 : decode cX8_lowestFirst 70 = .ok (.aload_n 0, 1) := bdX8_lowestFirst_63.2.2.2.1
theorem dX8_lowestFirst_71 : decode cX8_lowestFirst 71 = .ok (.aload 7, 2) := bdX8_lowestFirst_63.2.2.2.2.1
theorem dX8_lowestFirst_73 : decode cX8_lowestFirst 73 = .ok (.iload_n 2, 1) := bdX8_lowestFirst_63.2.2.2.2.2.1
theorem dX8_lowestFirst_74 : decode cX8_lowestFirst 74 = .ok (.iload_n 3, 1) := bdX8_lowestFirst_63.2.2.2.2.2.2.1
theorem dX8_lowestFirst_75 : decode cX8_lowestFirst 75 = .ok (.invokevirtual 54, 3) := bdX8_lowestFirst_63.2.2.2.2.2.2.2.1
theorem dX8_lowestFirst_78 : decode cX8_lowestFirst 78 = .ok (.ifCond .eq 64, 3) := bdX8_lowestFirst_63.2.2.2.2.2.2.2.2.1
theorem dX8_lowestFirst_81 : decode cX8_lowestFirst 81 = .ok (.aload 7, 2) := bdX8_lowestFirst_63.2.2.2.2.2.2.2.2.2.1
theorem dX8_lowestFirst_83 : decode cX8_lowestFirst 83 = .ok (.getfield 51, 3) := bdX8_lowestFirst_63.2.2.2.2.2.2.2.2.2.2.1
theorem dX8_lowestFirst_86 : decode cX8_lowestFirst 86 = .ok (.iload_n 3, 1) := bdX8_lowestFirst_63.2.2.2.2.2.2.2.2.2.2.2.1
theorem dX8_lowestFirst_87 : decode cX8_lowestFirst 87 = .ok (.if_icmp .ne 11, 3) := bdX8_lowestFirst_63.2.2.2.2.2.2.2.2.2.2.2.2.1
theorem dX8_lowestFirst_90 : decode cX8_lowestFirst 90 = .ok (.aload 7, 2) := bdX8_lowestFirst_63.2.2.2.2.2.2.2.2.2.2.2.2.2.1
theorem dX8_lowestFirst_92 : decode cX8_lowestFirst 92 = .ok (.getfield 58, 3) := bdX8_lowestFirst_63.2.2.2.2.2.2.2.2.2.2.2.2.2.2.1
theorem dX8_lowestFirst_95 : decode cX8_lowestFirst 95 = .ok (.goto 8, 3) := bdX8_lowestFirst_63.2.2.2.2.2.2.2.2.2.2.2.2.2.2.2
theorem bdX8_lowestFirst_98 : (decode cX8_lowestFirst 98 = .ok (.aload 7, 2)) ∧ (decode cX8_lowestFirst 100 = .ok (.getfield 51, 3)) ∧ (decode cX8_lowestFirst 103 = .ok (.istore 8, 2)) ∧ (decode cX8_lowestFirst 105 = .ok (.iload 8, 2)) ∧ (decode cX8_lowestFirst 107 = .ok (.iload 4, 2)) ∧ (decode cX8_lowestFirst 109 = .ok (.if_icmp .ne 7, 3)) ∧ (decode cX8_lowestFirst 112 = .ok (.iconst 0, 1)) ∧ (decode cX8_lowestFirst 113 = .ok (.goto 11, 3)) ∧ (decode cX8_lowestFirst 116 = .ok (.aload_n 0, 1)) ∧ (decode cX8_lowestFirst 117 = .ok (.iload 8, 2)) ∧ (decode cX8_lowestFirst 119 = .ok (.iload 4, 2)) ∧ (decode cX8_lowestFirst 121 = .ok (.invokevirtual 69, 3)) ∧ (decode cX8_lowestFirst 124 = .ok (.istore 9, 2)) ∧ (decode cX8_lowestFirst 126 = .ok (.aload 7, 2)) ∧ (decode cX8_lowestFirst 128 = .ok (.invokevirtual 61, 3)) ∧ (decode cX8_lowestFirst 131 = .ok (.iload 9, 2)) := by decide +kernel
theorem dX8_lowestFirst_98 : decode cX8_lowestFirst 98 = .ok (.aload 7, 2) := bdX8_lowestFirst_98.1
theorem dX8_lowestFirst_100 : decode cX8_lowestFirst 100 = .ok (.getfield 51, 3) := bdX8_lowestFirst_98.2.1
theorem dX8_lowestFirst_103 : decode cX8_lowestFirst 103 = .ok (.istore 8, 2) := bdX8_lowestFirst_98.2.2.1
theorem dX8_lowestFirst_105 : decode cX8_lowestFirst 105 = .ok (.iload 8, 2) := bdX8_lowestFirst_98.2.2.2.1
theorem dX8_lowestFirst_107 : decode cX8_lowestFirst 107 = .ok (.iload 4, 2) := bdX8_lowestFirst_98.2.2.2.2.1
theorem dX8_lowestFirst_109 : decode cX8_lowestFirst 109 = .ok (.if_icmp .ne 7, 3) := bdX8_lowestFirst_98.2.2.2.2.2.1
theorem dX8_lowestFirst_112 : decode cX8_lowestFirst 112 = .ok (.iconst 0, 1) := bdX8_lowestFirst_98.2.2.2.2.2.2.1
theorem dX8_lowestFirst_113 : decode cX8_lowestFirst 113 = .ok (.goto 11, 3) := bdX8_lowestFirst_98.2.2.2.2.2.2.2.1
theorem dX8_lowestFirst_116 : decode cX8_lowestFirst 116 = .ok (.aload_n 0, 1) := bdX8_lowestFirst_98.2.2.2.2.2.2.2.2.1
theorem dX8_lowestFirst_117 : decode cX8_lowestFirst 117 = .ok (.iload 8, 2) := bdX8_lowestFirst_98.2.2.2.2.2.2.2.2.2.1
theorem dX8_lowestFirst_119 : decode cX8_lowestFirst 119 = .ok (.iload 4, 2) := bdX8_lowestFirst_98.2.2.2.2.2.2.2.2.2.2.1
theorem dX8_lowestFirst_121 : decode cX8_lowestFirst 121 = .ok (.invokevirtual 69, 3) := bdX8_lowestFirst_98.2.2.2.2.2.2.2.2.2.2.2.1
theorem dX8_lowestFirst_124 : decode cX8_lowestFirst 124 = .ok (.istore 9, 2) := bdX8_lowestFirst_98.2.2.2.2.2.2.2.2.2.2.2.2.1
theorem dX8_lowestFirst_126 : decode cX8_lowestFirst 126 = .ok (.aload 7, 2) := bdX8_lowestFirst_98.2.2.2.2.2.2.2.2.2.2.2.2.2.1
theorem dX8_lowestFirst_128 : decode cX8_lowestFirst 128 = .ok (.invokevirtual 61, 3) := bdX8_lowestFirst_98.2.2.2.2.2.2.2.2.2.2.2.2.2.2.1
theorem dX8_lowestFirst_131 : decode cX8_lowestFirst 131 = .ok (.iload 9, 2) := bdX8_lowestFirst_98.2.2.2.2.2.2.2.2.2.2.2.2.2.2.2
theorem bdX8_lowestFirst_133 : (decode cX8_lowestFirst 133 = .ok (.iadd, 1)) ∧ (decode cX8_lowestFirst 134 = .ok (.iload 5, 2)) ∧ (decode cX8_lowestFirst 136 = .ok (.if_icmp .ne 6, 3)) ∧ (decode cX8_lowestFirst 139 = .ok (.iload 6, 2)) ∧ (decode cX8_lowestFirst 141 = .ok (.ireturn, 1)) ∧ (decode cX8_lowestFirst 142 = .ok (.iinc 6 1, 3)) ∧ (decode cX8_lowestFirst 145 = .ok (.goto (-118), 3)) ∧ (decode cX8_lowestFirst 148 = .ok (.iconst (-1), 1)) ∧ (decode cX8_lowestFirst 149 = .ok (.ireturn, 1)) := by decide +kernel
theorem dX8_lowestFirst_133 : decode cX8_lowestFirst 133 = .ok (.iadd, 1) := bdX8_lowestFirst_133.1
theorem dX8_lowestFirst_134 : decode cX8_lowestFirst 134 = .ok (.iload 5, 2) := bdX8_lowestFirst_133.2.1
theorem dX8_lowestFirst_136 : decode cX8_lowestFirst 136 = .ok (.if_icmp .ne 6, 3) := bdX8_lowestFirst_133.2.2.1
theorem dX8_lowestFirst_139 : decode cX8_lowestFirst 139 = .ok (.iload 6, 2) := bdX8_lowestFirst_133.2.2.2.1
theorem dX8_lowestFirst_141 : decode cX8_lowestFirst 141 = .ok (.ireturn, 1) := bdX8_lowestFirst_133.2.2.2.2.1
theorem dX8_lowestFirst_142 : decode cX8_lowestFirst 142 = .ok (.iinc 6 1, 3) := bdX8_lowestFirst_133.2.2.2.2.2.1
theorem dX8_lowestFirst_145 : decode cX8_lowestFirst 145 = .ok (.goto (-118), 3) := bdX8_lowestFirst_133.2.2.2.2.2.2.1
theorem dX8_lowestFirst_148 : decode cX8_lowestFirst 148 = .ok (.iconst (-1), 1) := bdX8_lowestFirst_133.2.2.2.2.2.2.2.1
theorem dX8_lowestFirst_149 : decode cX8_lowestFirst 149 = .ok (.ireturn, 1) := bdX8_lowestFirst_133.2.2.2.2.2.2.2.2
theorem bdX8_findFor_0 : (decode cX8_findFor 0 = .ok (.aload_n 0, 1)) ∧ (decode cX8_findFor 1 = .ok (.getfield 15, 3)) ∧ (decode cX8_findFor 4 = .ok (.ldc 44, 2)) ∧ (decode cX8_findFor 6 = .ok (.invokestatic 45, 3)) ∧ (decode cX8_findFor 9 = .ok (.iconst 0, 1)) ∧ (decode cX8_findFor 10 = .ok (.istore_n 3, 1)) ∧ (decode cX8_findFor 11 = .ok (.iload_n 3, 1)) ∧ (decode cX8_findFor 12 = .ok (.aload_n 1, 1)) ∧ (decode cX8_findFor 13 = .ok (.getfield 22, 3)) ∧ (decode cX8_findFor 16 = .ok (.if_icmp .ge 91, 3)) ∧ (decode cX8_findFor 19 = .ok (.iload_n 3, 1)) ∧ (decode cX8_findFor 20 = .ok (.bipush 10, 2)) ∧ (decode cX8_findFor 22 = .ok (.if_icmp .ge 85, 3)) ∧ (decode cX8_findFor 25 = .ok (.aload_n 1, 1)) ∧ (decode cX8_findFor 26 = .ok (.getfield 27, 3)) ∧ (decode cX8_findFor 29 = .ok (.iload_n 3, 1)) := by decide +kernel
theorem dX8_findFor_0 : decode cX8_findFor 0 = .ok (.aload_n 0, 1) := bdX8_findFor_0.1
theorem dX8_findFor_1 : decode cX8_findFor 1 = .ok (.getfield 15, 3) := bdX8_findFor_0.2.1
theorem dX8_findFor_4 : decode cX8_findFor 4 = .ok (.ldc 44, 2) := bdX8_findFor_0.2.2.1
theorem dX8_findFor_6 : decode cX8_findFor 6 = .ok (.invokestatic 45, 3) := bdX8_findFor_0.2.2.2.1
theorem dX8_findFor_9 : decode cX8_findFor 9 = .ok (.iconst 0, 1) := bdX8_findFor_0.2.2.2.2.1
theorem dX8_findFor_10 : decode cX8_findFor 10 = .ok (.istore_n 3, 1) := bdX8_findFor_0.2.2.2.2.2.1
theorem dX8_findFor_11 : decode cX8_findFor 11 = .ok (.iload_n 3, 1) := bdX8_findFor_0.2.2.2.2.2.2.1
theorem dX8_findFor_12 : decode cX8_findFor 12 = .ok (.aload_n 1, 1) := bdX8_findFor_0.2.2.2.2.2.2.2.1
theorem dX8_findFor_13 : decode cX8_findFor 13 = .ok (.getfield 22, 3) := bdX8_findFor_0.2.2.2.2.2.2.2.2.1
theorem dX8_findFor_16 : decode cX8_findFor 16 = .ok (.if_icmp .ge 91, 3) := bdX8_findFor_0.2.2.2.2.2.2.2.2.2.1
theorem dX8_findFor_19 : decode cX8_findFor 19 = .ok (.iload_n 3, 1) := bdX8_findFor_0.2.2.2.2.2.2.2.2.2.2.1
theorem dX8_findFor_20 : decode cX8_findFor 20 = .ok (.bipush 10, 2) := bdX8_findFor_0.2.2.2.2.2.2.2.2.2.2.2.1
theorem dX8_findFor_22 : decode cX8_findFor 22 = .ok (.if_icmp .ge 85, 3) := bdX8_findFor_0.2.2.2.2.2.2.2.2.2.2.2.2.1
theorem dX8_findFor_25 : decode cX8_findFor 25 = .ok (.aload_n 1, 1) := bdX8_findFor_0.2.2.2.2.2.2.2.2.2.2.2.2.2.1
theorem dX8_findFor_26 : decode cX8_findFor 26 = .ok (.getfield 27, 3) := bdX8_findFor_0.2.2.2.2.2.2.2.2.2.2.2.2.2.2.1
theorem dX8_findFor_29 : decode cX8_findFor 29 = .ok (.iload_n 3, 1) := bdX8_findFor_0.2.2.2.2.2.2.2.2.2.2.2.2.2.2.2
theorem bdX8_findFor_30 : (decode cX8_findFor 30 = .ok (.aaload, 1)) ∧ (decode cX8_findFor 31 = .ok (.astore 4, 2)) ∧ (decode cX8_findFor 33 = .ok (.aload_n 0, 1)) ∧ (decode cX8_findFor 34 = .ok (.aload 4, 2)) ∧ (decode cX8_findFor 36 = .ok (.iload_n 2, 1)) ∧ (decode cX8_findFor 37 = .ok (.aload 4, 2)) ∧ (decode cX8_findFor 39 = .ok (.getfield 51, 3)) ∧ (decode cX8_findFor 42 = .ok (.invokevirtual 54, 3)) ∧ (decode cX8_findFor 45 = .ok (.ifCond .eq 22, 3)) ∧ (decode cX8_findFor 48 = .ok (.aload_n 0, 1)) ∧ (decode cX8_findFor 49 = .ok (.aload 4, 2)) ∧ (decode cX8_findFor 51 = .ok (.getfield 51, 3)) ∧ (decode cX8_findFor 54 = .ok (.aload 4, 2)) ∧ (decode cX8_findFor 56 = .ok (.getfield 58, 3)) ∧ (decode cX8_findFor 59 = .ok (.aload 4, 2)) ∧ (decode cX8_findFor 61 = .ok (.invokevirtual 61, 3)) := by decide +kernel
theorem dX8_findFor_30 : decode cX8_findFor 30 = .ok (.aaload, 1) := bdX8_findFor_30.1
theorem dX8_findFor_31 : decode cX8_findFor 31 = .ok (.astore 4, 2) := bdX8_findFor_30.2.1
theorem dX8_findFor_33 : decode cX8_findFor 33 = .ok (.aload_n 0, 1) := bdX8_findFor_30.2.2.1
theorem dX8_findFor_34 : decode cX8_findFor 34 = .ok (.aload 4, 2) := bdX8_findFor_30.2.2.2.1
theorem dX8_findFor_36 : decode cX8_findFor 36 = .ok (.iload_n 2, 1) := bdX8_findFor_30.2.2.2.2.1
theorem dX8_findFor_37 : decode cX8_findFor 37 = .ok (.aload 4, 2) := bdX8_findFor_30.2.2.2.2.2.1
theorem dX8_findFor_39 : decode cX8_findFor 39 = .ok (.getfield 51, 3) := bdX8_findFor_30.2.2.2.2.2.2.1
theorem dX8_findFor_42 : decode cX8_findFor 42 = .ok (.invokevirtual 54, 3) := bdX8_findFor_30.2.2.2.2.2.2.2.1
theorem dX8_findFor_45 : decode cX8_findFor 45 = .ok (.ifCond .eq 22, 3) := bdX8_findFor_30.2.2.2.2.2.2.2.2.1
theorem dX8_findFor_48 : decode cX8_findFor 48 = .ok (.aload_n 0, 1) := bdX8_findFor_30.2.2.2.2.2.2.2.2.2.1
theorem dX8_findFor_49 : decode cX8_findFor 49 = .ok (.aload 4, 2) := bdX8_findFor_30.2.2.2.2.2.2.2.2.2.2.1
theorem dX8_findFor_51 : decode cX8_findFor 51 = .ok (.getfield 51, 3) := bdX8_findFor_30.2.2.2.2.2.2.2.2.2.2.2.1
theorem dX8_findFor_54 : decode cX8_findFor 54 = .ok (.aload 4, 2) := bdX8_findFor_30.2.2.2.2.2.2.2.2.2.2.2.2.1
theorem dX8_findFor_56 : decode cX8_findFor 56 = .ok (.getfield 58, 3) := bdX8_findFor_30.2.2.2.2.2.2.2.2.2.2.2.2.2.1
theorem dX8_findFor_59 : decode cX8_findFor 59 = .ok (.aload 4, 2) := bdX8_findFor_30.2.2.2.2.2.2.2.2.2.2.2.2.2.2.1
theorem dX8_findFor_61 : decode cX8_findFor 61 = .ok (.invokevirtual 61, 3) := bdX8_findFor_30.2.2.2.2.2.2.2.2.2.2.2.2.2.2.2
theorem bdX8_findFor_64 : (decode cX8_findFor 64 = .ok (.invokevirtual 65, 3)) ∧ (decode cX8_findFor 67 = .ok (.aload_n 0, 1)) ∧ (decode cX8_findFor 68 = .ok (.aload 4, 2)) ∧ (decode cX8_findFor 70 = .ok (.iload_n 2, 1)) ∧ (decode cX8_findFor 71 = .ok (.aload 4, 2)) ∧ (decode cX8_findFor 73 = .ok (.getfield 58, 3)) ∧ (decode cX8_findFor 76 = .ok (.invokevirtual 54, 3)) ∧ (decode cX8_findFor 79 = .ok (.ifCond .eq 22, 3)) ∧ (decode cX8_findFor 82 = .ok (.aload_n 0, 1)) ∧ (decode cX8_findFor 83 = .ok (.aload 4, 2)) ∧ (decode cX8_findFor 85 = .ok (.getfield 58, 3)) ∧ (decode cX8_findFor 88 = .ok (.aload 4, 2)) ∧ (decode cX8_findFor 90 = .ok (.getfield 51, 3)) ∧ (decode cX8_findFor 93 = .ok (.aload 4, 2)) ∧ (decode cX8_findFor 95 = .ok (.invokevirtual 61, 3)) ∧ (decode cX8_findFor 98 = .ok (.invokevirtual 65, 3)) := by decide +kernel
theorem dX8_findFor_64 : decode cX8_findFor 64 = .ok (.invokevirtual 65, 3) := bdX8_findFor_64.1
theorem dX8_findFor_67 : decode cX8_findFor 67 = .ok (.aload_n 0, 1) := bdX8_findFor_64.2.1
theorem dX8_findFor_68 : decode cX8_findFor 68 = .ok (.aload 4, 2) := bdX8_findFor_64.2.2.1
theorem dX8_findFor_70 : decode cX8_findFor 70 = .ok (.iload_n 2, 1) := bdX8_findFor_64.2.2.2.1
theorem dX8_findFor_71 : decode cX8_findFor 71 = .ok (.aload 4, 2) := bdX8_findFor_64.2.2.2.2.1
theorem dX8_findFor_73 : decode cX8_findFor 73 = .ok (.getfield 58, 3) := bdX8_findFor_64.2.2.2.2.2.1
theorem dX8_findFor_76 : decode cX8_findFor 76 = .ok (.invokevirtual 54, 3) := bdX8_findFor_64.2.2.2.2.2.2.1
theorem dX8_findFor_79 : decode cX8_findFor 79 = .ok (.ifCond .eq 22, 3) := bdX8_findFor_64.2.2.2.2.2.2.2.1
theorem dX8_findFor_82 : decode cX8_findFor 82 = .ok (.aload_n 0, 1) := bdX8_findFor_64.2.2.2.2.2.2.2.2.1
theorem dX8_findFor_83 : decode cX8_findFor 83 = .ok (.aload 4, 2) := bdX8_findFor_64.2.2.2.2.2.2.2.2.2.1
theorem dX8_findFor_85 : decode cX8_findFor 85 = .ok (.getfield 58, 3) := bdX8_findFor_64.2.2.2.2.2.2.2.2.2.2.1
theorem dX8_findFor_88 : decode cX8_findFor 88 = .ok (.aload 4, 2) := bdX8_findFor_64.2.2.2.2.2.2.2.2.2.2.2.1
theorem dX8_findFor_90 : decode cX8_findFor 90 = .ok (.getfield 51, 3) := bdX8_findFor_64.2.2.2.2.2.2.2.2.2.2.2.2.1
theorem dX8_findFor_93 : decode cX8_findFor 93 = .ok (.aload 4, 2) := bdX8_findFor_64.2.2.2.2.2.2.2.2.2.2.2.2.2.1
theorem dX8_findFor_95 : decode cX8_findFor 95 = .ok (.invokevirtual 61, 3) := bdX8_findFor_64.2.2.2.2.2.2.2.2.2.2.2.2.2.2.1
theorem dX8_findFor_98 : decode cX8_findFor 98 = .ok (.invokevirtual 65, 3) := bdX8_findFor_64.2.2.2.2.2.2.2.2.2.2.2.2.2.2.2
theorem bdX8_findFor_101 : (decode cX8_findFor 101 = .ok (.iinc 3 1, 3)) ∧ (decode cX8_findFor 104 = .ok (.goto (-93), 3)) ∧ (decode cX8_findFor 107 = .ok (.iconst 0, 1)) ∧ (decode cX8_findFor 108 = .ok (.istore_n 3, 1)) ∧ (decode cX8_findFor 109 = .ok (.iload_n 3, 1)) ∧ (decode cX8_findFor 110 = .ok (.bipush 6, 2)) ∧ (decode cX8_findFor 112 = .ok (.if_icmp .ge 64, 3)) ∧ (decode cX8_findFor 115 = .ok (.iconst 0, 1)) ∧ (decode cX8_findFor 116 = .ok (.istore 4, 2)) ∧ (decode cX8_findFor 118 = .ok (.iload 4, 2)) ∧ (decode cX8_findFor 120 = .ok (.bipush 6, 2)) ∧ (decode cX8_findFor 122 = .ok (.if_icmp .ge 48, 3)) ∧ (decode cX8_findFor 125 = .ok (.iconst 0, 1)) ∧ (decode cX8_findFor 126 = .ok (.istore 5, 2)) ∧ (decode cX8_findFor 128 = .ok (.iload 5, 2)) ∧ (decode cX8_findFor 130 = .ok (.bipush 6, 2)) := by decide +kernel
theorem dX8_findFor_101 : decode cX8_findFor 101 = .ok (.iinc 3 1, 3) := bdX8_findFor_101.1
theorem dX8_findFor_104 : decode cX8_findFor 104 = .ok (.goto (-93), 3) := bdX8_findFor_101.2.1
theorem dX8_findFor_107 : decode cX8_findFor 107 = .ok (.iconst 0, 1) := bdX8_findFor_101.2.2.1
theorem dX8_findFor_108 : decode cX8_findFor 108 = .ok (.istore_n 3, 1) := bdX8_findFor_101.2.2.2.1
theorem dX8_findFor_109 : decode cX8_findFor 109 = .ok (.iload_n 3, 1) := bdX8_findFor_101.2.2.2.2.1
theorem dX8_findFor_110 : decode cX8_findFor 110 = .ok (.bipush 6, 2) := bdX8_findFor_101.2.2.2.2.2.1
theorem dX8_findFor_112 : decode cX8_findFor 112 = .ok (.if_icmp .ge 64, 3) := bdX8_findFor_101.2.2.2.2.2.2.1
theorem dX8_findFor_115 : decode cX8_findFor 115 = .ok (.iconst 0, 1) := bdX8_findFor_101.2.2.2.2.2.2.2.1
theorem dX8_findFor_116 : decode cX8_findFor 116 = .ok (.istore 4, 2) := bdX8_findFor_101.2.2.2.2.2.2.2.2.1
theorem dX8_findFor_118 : decode cX8_findFor 118 = .ok (.iload 4, 2) := bdX8_findFor_101.2.2.2.2.2.2.2.2.2.1
theorem dX8_findFor_120 : decode cX8_findFor 120 = .ok (.bipush 6, 2) := bdX8_findFor_101.2.2.2.2.2.2.2.2.2.2.1
theorem dX8_findFor_122 : decode cX8_findFor 122 = .ok (.if_icmp .ge 48, 3) := bdX8_findFor_101.2.2.2.2.2.2.2.2.2.2.2.1
theorem dX8_findFor_125 : decode cX8_findFor 125 = .ok (.iconst 0, 1) := bdX8_findFor_101.2.2.2.2.2.2.2.2.2.2.2.2.1
theorem dX8_findFor_126 : decode cX8_findFor 126 = .ok (.istore 5, 2) := bdX8_findFor_101.2.2.2.2.2.2.2.2.2.2.2.2.2.1
theorem dX8_findFor_128 : decode cX8_findFor 128 = .ok (.iload 5, 2) := bdX8_findFor_101.2.2.2.2.2.2.2.2.2.2.2.2.2.2.1
theorem dX8_findFor_130 : decode cX8_findFor 130 = .ok (.bipush 6, 2) := bdX8_findFor_101.2.2.2.2.2.2.2.2.2.2.2.2.2.2.2
theorem bdX8_findFor_132 : (decode cX8_findFor 132 = .ok (.if_icmp .ge 32, 3)) ∧ (decode cX8_findFor 135 = .ok (.aload_n 0, 1)) ∧ (decode cX8_findFor 136 = .ok (.iload 4, 2)) ∧ (decode cX8_findFor 138 = .ok (.iload 5, 2)) ∧ (decode cX8_findFor 140 = .ok (.aload_n 0, 1)) ∧ (decode cX8_findFor 141 = .ok (.iload 4, 2)) ∧ (decode cX8_findFor 143 = .ok (.iload_n 3, 1)) ∧ (decode cX8_findFor 144 = .ok (.invokevirtual 69, 3)) ∧ (decode cX8_findFor 147 = .ok (.aload_n 0, 1)) ∧ (decode cX8_findFor 148 = .ok (.iload_n 3, 1)) ∧ (decode cX8_findFor 149 = .ok (.iload 5, 2)) ∧ (decode cX8_findFor 151 = .ok (.invokevirtual 69, 3)) ∧ (decode cX8_findFor 154 = .ok (.iadd, 1)) ∧ (decode cX8_findFor 155 = .ok (.invokevirtual 65, 3)) ∧ (decode cX8_findFor 158 = .ok (.iinc 5 1, 3)) ∧ (decode cX8_findFor 161 = .ok (.goto (-33), 3)) := by decide +kernel
theorem dX8_findFor_132 : decode cX8_findFor 132 = .ok (.if_icmp .ge 32, 3) := bdX8_findFor_132.1
theorem dX8_findFor_135 : decode cX8_findFor 135 = .ok (.aload_n 0, 1) := bdX8_findFor_132.2.1
theorem dX8_findFor_136 : decode cX8_findFor 136 = .ok (.iload 4, 2) := bdX8_findFor_132.2.2.1
theorem dX8_findFor_138 : decode cX8_findFor 138 = .ok (.iload 5, 2) := bdX8_findFor_132.2.2.2.1
theorem dX8_findFor_140 : decode cX8_findFor 140 = .ok (.aload_n 0, 1) := bdX8_findFor_132.2.2.2.2.1
theorem dX8_findFor_141 : decode cX8_findFor 141 = .ok (.iload 4, 2) := bdX8_findFor_132.2.2.2.2.2.1
theorem dX8_findFor_143 : decode cX8_findFor 143 = .ok (.iload_n 3, 1) := bdX8_findFor_132.2.2.2.2.2.2.1
theorem dX8_findFor_144 : decode cX8_findFor 144 = .ok (.invokevirtual 69, 3) := bdX8_findFor_132.2.2.2.2.2.2.2.1
theorem dX8_findFor_147 : decode cX8_findFor 147 = .ok (.aload_n 0, 1) := bdX8_findFor_132.2.2.2.2.2.2.2.2.1
theorem dX8_findFor_148 : decode cX8_findFor 148 = .ok (.iload_n 3, 1) := bdX8_findFor_132.2.2.2.2.2.2.2.2.2.1
theorem dX8_findFor_149 : decode cX8_findFor 149 = .ok (.iload 5, 2) := bdX8_findFor_132.2.2.2.2.2.2.2.2.2.2.1
theorem dX8_findFor_151 : decode cX8_findFor 151 = .ok (.invokevirtual 69, 3) := bdX8_findFor_132.2.2.2.2.2.2.2.2.2.2.2.1
theorem dX8_findFor_154 : decode cX8_findFor 154 = .ok (.iadd, 1) := bdX8_findFor_132.2.2.2.2.2.2.2.2.2.2.2.2.1
theorem dX8_findFor_155 : decode cX8_findFor 155 = .ok (.invokevirtual 65, 3) := bdX8_findFor_132.2.2.2.2.2.2.2.2.2.2.2.2.2.1
theorem dX8_findFor_158 : decode cX8_findFor 158 = .ok (.iinc 5 1, 3) := bdX8_findFor_132.2.2.2.2.2.2.2.2.2.2.2.2.2.2.1
theorem dX8_findFor_161 : decode cX8_findFor 161 = .ok (.goto (-33), 3) := bdX8_findFor_132.2.2.2.2.2.2.2.2.2.2.2.2.2.2.2
theorem bdX8_findFor_164 : (decode cX8_findFor 164 = .ok (.iinc 4 1, 3)) ∧ (decode cX8_findFor 167 = .ok (.goto (-49), 3)) ∧ (decode cX8_findFor 170 = .ok (.iinc 3 1, 3)) ∧ (decode cX8_findFor 173 = .ok (.goto (-64), 3)) ∧ (decode cX8_findFor 176 = .ok (.iconst 0, 1)) ∧ (decode cX8_findFor 177 = .ok (.istore_n 3, 1)) ∧ (decode cX8_findFor 178 = .ok (.iload_n 3, 1)) ∧ (decode cX8_findFor 179 = .ok (.bipush 6, 2)) ∧ (decode cX8_findFor 181 = .ok (.if_icmp .ge 51, 3)) ∧ (decode cX8_findFor 184 = .ok (.iconst 0, 1)) ∧ (decode cX8_findFor 185 = .ok (.istore 4, 2)) ∧ (decode cX8_findFor 187 = .ok (.iload 4, 2)) ∧ (decode cX8_findFor 189 = .ok (.bipush 6, 2)) ∧ (decode cX8_findFor 191 = .ok (.if_icmp .ge 35, 3)) ∧ (decode cX8_findFor 194 = .ok (.aload_n 0, 1)) ∧ (decode cX8_findFor 195 = .ok (.getfield 11, 3)) := by decide +kernel
theorem dX8_findFor_164 : decode cX8_findFor 164 = .ok (.iinc 4 1, 3) := bdX8_findFor_164.1
theorem dX8_findFor_167 : decode cX8_findFor 167 = .ok (.goto (-49), 3) := bdX8_findFor_164.2.1
theorem dX8_findFor_170 : decode cX8_findFor 170 = .ok (.iinc 3 1, 3) := bdX8_findFor_164.2.2.1
theorem dX8_findFor_173 : decode cX8_findFor 173 = .ok (.goto (-64), 3) := bdX8_findFor_164.2.2.2.1
theorem dX8_findFor_176 : decode cX8_findFor 176 = .ok (.iconst 0, 1) := bdX8_findFor_164.2.2.2.2.1
theorem dX8_findFor_177 : decode cX8_findFor 177 = .ok (.istore_n 3, 1) := bdX8_findFor_164.2.2.2.2.2.1
theorem dX8_findFor_178 : decode cX8_findFor 178 = .ok (.iload_n 3, 1) := bdX8_findFor_164.2.2.2.2.2.2.1
theorem dX8_findFor_179 : decode cX8_findFor 179 = .ok (.bipush 6, 2) := bdX8_findFor_164.2.2.2.2.2.2.2.1
theorem dX8_findFor_181 : decode cX8_findFor 181 = .ok (.if_icmp .ge 51, 3) := bdX8_findFor_164.2.2.2.2.2.2.2.2.1
theorem dX8_findFor_184 : decode cX8_findFor 184 = .ok (.iconst 0, 1) := bdX8_findFor_164.2.2.2.2.2.2.2.2.2.1
theorem dX8_findFor_185 : decode cX8_findFor 185 = .ok (.istore 4, 2) := bdX8_findFor_164.2.2.2.2.2.2.2.2.2.2.1
theorem dX8_findFor_187 : decode cX8_findFor 187 = .ok (.iload 4, 2) := bdX8_findFor_164.2.2.2.2.2.2.2.2.2.2.2.1
theorem dX8_findFor_189 : decode cX8_findFor 189 = .ok (.bipush 6, 2) := bdX8_findFor_164.2.2.2.2.2.2.2.2.2.2.2.2.1
theorem dX8_findFor_191 : decode cX8_findFor 191 = .ok (.if_icmp .ge 35, 3) := bdX8_findFor_164.2.2.2.2.2.2.2.2.2.2.2.2.2.1
theorem dX8_findFor_194 : decode cX8_findFor 194 = .ok (.aload_n 0, 1) := bdX8_findFor_164.2.2.2.2.2.2.2.2.2.2.2.2.2.2.1
theorem dX8_findFor_195 : decode cX8_findFor 195 = .ok (.getfield 11, 3) := bdX8_findFor_164.2.2.2.2.2.2.2.2.2.2.2.2.2.2.2
theorem bdX8_findFor_198 : (decode cX8_findFor 198 = .ok (.iload_n 2, 1)) ∧ (decode cX8_findFor 199 = .ok (.bipush 36, 2)) ∧ (decode cX8_findFor 201 = .ok (.imul, 1)) ∧ (decode cX8_findFor 202 = .ok (.iload_n 3, 1)) ∧ (decode cX8_findFor 203 = .ok (.bipush 6, 2)) ∧ (decode cX8_findFor 205 = .ok (.imul, 1)) ∧ (decode cX8_findFor 206 = .ok (.iadd, 1)) ∧ (decode cX8_findFor 207 = .ok (.iload 4, 2)) ∧ (decode cX8_findFor 209 = .ok (.iadd, 1)) ∧ (decode cX8_findFor 210 = .ok (.aload_n 0, 1)) ∧ (decode cX8_findFor 211 = .ok (.aload_n 1, 1)) ∧ (decode cX8_findFor 212 = .ok (.iload_n 2, 1)) ∧ (decode cX8_findFor 213 = .ok (.iload_n 3, 1)) ∧ (decode cX8_findFor 214 = .ok (.iload 4, 2)) ∧ (decode cX8_findFor 216 = .ok (.invokevirtual 73, 3)) ∧ (decode cX8_findFor 219 = .ok (.iastore, 1)) := by decide +kernel
theorem dX8_findFor_198 : decode cX8_findFor 198 = .ok (.iload_n 2, 1) := bdX8_findFor_198.1
theorem dX8_findFor_199 : decode cX8_findFor 199 = .ok (.bipush 36, 2) := bdX8_findFor_198.2.1
theorem dX8_findFor_201 : decode cX8_findFor 201 = .ok (.imul, 1) := bdX8_findFor_198.2.2.1
theorem dX8_findFor_202 : decode cX8_findFor 202 = .ok (.iload_n 3, 1) := bdX8_findFor_198.2.2.2.1
theorem dX8_findFor_203 : decode cX8_findFor 203 = .ok (.bipush 6, 2) := bdX8_findFor_198.2.2.2.2.1
theorem dX8_findFor_205 : decode cX8_findFor 205 = .ok (.imul, 1) := bdX8_findFor_198.2.2.2.2.2.1
theorem dX8_findFor_206 : decode cX8_findFor 206 = .ok (.iadd, 1) := bdX8_findFor_198.2.2.2.2.2.2.1
theorem dX8_findFor_207 : decode cX8_findFor 207 = .ok (.iload 4, 2) := bdX8_findFor_198.2.2.2.2.2.2.2.1
theorem dX8_findFor_209 : decode cX8_findFor 209 = .ok (.iadd, 1) := bdX8_findFor_198.2.2.2.2.2.2.2.2.1
theorem dX8_findFor_210 : decode cX8_findFor 210 = .ok (.aload_n 0, 1) := bdX8_findFor_198.2.2.2.2.2.2.2.2.2.1
theorem dX8_findFor_211 : decode cX8_findFor 211 = .ok (.aload_n 1, 1) := bdX8_findFor_198.2.2.2.2.2.2.2.2.2.2.1
theorem dX8_findFor_212 : decode cX8_findFor 212 = .ok (.iload_n 2, 1) := bdX8_findFor_198.2.2.2.2.2.2.2.2.2.2.2.1
theorem dX8_findFor_213 : decode cX8_findFor 213 = .ok (.iload_n 3, 1) := bdX8_findFor_198.2.2.2.2.2.2.2.2.2.2.2.2.1
theorem dX8_findFor_214 : decode cX8_findFor 214 = .ok (.iload 4, 2) := bdX8_findFor_198.2.2.2.2.2.2.2.2.2.2.2.2.2.1
theorem dX8_findFor_216 : decode cX8_findFor 216 = .ok (.invokevirtual 73, 3) := bdX8_findFor_198.2.2.2.2.2.2.2.2.2.2.2.2.2.2.1
theorem dX8_findFor_219 : decode cX8_findFor 219 = .ok (.iastore, 1) := bdX8_findFor_198.2.2.2.2.2.2.2.2.2.2.2.2.2.2.2
theorem bdX8_findFor_220 : (decode cX8_findFor 220 = .ok (.iinc 4 1, 3)) ∧ (decode cX8_findFor 223 = .ok (.goto (-36), 3)) ∧ (decode cX8_findFor 226 = .ok (.iinc 3 1, 3)) ∧ (decode cX8_findFor 229 = .ok (.goto (-51), 3)) ∧ (decode cX8_findFor 232 = .ok (.return_, 1)) := by decide +kernel
theorem dX8_findFor_220 : decode cX8_findFor 220 = .ok (.iinc 4 1, 3) := bdX8_findFor_220.1
theorem dX8_findFor_223 : decode cX8_findFor 223 = .ok (.goto (-36), 3) := bdX8_findFor_220.2.1
theorem dX8_findFor_226 : decode cX8_findFor 226 = .ok (.iinc 3 1, 3) := bdX8_findFor_220.2.2.1
theorem dX8_findFor_229 : decode cX8_findFor 229 = .ok (.goto (-51), 3) := bdX8_findFor_220.2.2.2.1
theorem dX8_findFor_232 : decode cX8_findFor 232 = .ok (.return_, 1) := bdX8_findFor_220.2.2.2.2
theorem bdX8_find_0 : (decode cX8_find 0 = .ok (.iconst 0, 1)) ∧ (decode cX8_find 1 = .ok (.istore_n 2, 1)) ∧ (decode cX8_find 2 = .ok (.iconst 0, 1)) ∧ (decode cX8_find 3 = .ok (.istore_n 3, 1)) ∧ (decode cX8_find 4 = .ok (.iload_n 3, 1)) ∧ (decode cX8_find 5 = .ok (.aload_n 1, 1)) ∧ (decode cX8_find 6 = .ok (.getfield 22, 3)) ∧ (decode cX8_find 9 = .ok (.if_icmp .ge 47, 3)) ∧ (decode cX8_find 12 = .ok (.iload_n 3, 1)) ∧ (decode cX8_find 13 = .ok (.bipush 10, 2)) ∧ (decode cX8_find 15 = .ok (.if_icmp .ge 41, 3)) ∧ (decode cX8_find 18 = .ok (.aload_n 1, 1)) ∧ (decode cX8_find 19 = .ok (.getfield 27, 3)) ∧ (decode cX8_find 22 = .ok (.iload_n 3, 1)) ∧ (decode cX8_find 23 = .ok (.aaload, 1)) ∧ (decode cX8_find 24 = .ok (.astore 4, 2)) := by decide +kernel
theorem dX8_find_0 : decode cX8_find 0 = .ok (.iconst 0, 1) := bdX8_find_0.1
theorem dX8_find_1 : decode cX8_find 1 = .ok (.istore_n 2, 1) := bdX8_find_0.2.1
theorem dX8_find_2 : decode cX8_find 2 = .ok (.iconst 0, 1) := bdX8_find_0.2.2.1
theorem dX8_find_3 : decode cX8_find 3 = .ok (.istore_n 3, 1) := bdX8_find_0.2.2.2.1
theorem dX8_find_4 : decode cX8_find 4 = .ok (.iload_n 3, 1) := bdX8_find_0.2.2.2.2.1
theorem dX8_find_5 : decode cX8_find 5 = .ok (.aload_n 1, 1) := bdX8_find_0.2.2.2.2.2.1
theorem dX8_find_6 : decode cX8_find 6 = .ok (.getfield 22, 3) := bdX8_find_0.2.2.2.2.2.2.1
theorem dX8_find_9 : decode cX8_find 9 = .ok (.if_icmp .ge 47, 3) := bdX8_find_0.2.2.2.2.2.2.2.1
theorem dX8_find_12 : decode cX8_find 12 = .ok (.iload_n 3, 1) := bdX8_find_0.2.2.2.2.2.2.2.2.1
theorem dX8_find_13 : decode cX8_find 13 = .ok (.bipush 10, 2) := bdX8_find_0.2.2.2.2.2.2.2.2.2.1
theorem dX8_find_15 : decode cX8_find 15 = .ok (.if_icmp .ge 41, 3) := bdX8_find_0.2.2.2.2.2.2.2.2.2.2.1
theorem dX8_find_18 : decode cX8_find 18 = .ok (.aload_n 1, 1) := bdX8_find_0.2.2.2.2.2.2.2.2.2.2.2.1
theorem dX8_find_19 : decode cX8_find 19 = .ok (.getfield 27, 3) := bdX8_find_0.2.2.2.2.2.2.2.2.2.2.2.2.1
theorem dX8_find_22 : decode cX8_find 22 = .ok (.iload_n 3, 1) := bdX8_find_0.2.2.2.2.2.2.2.2.2.2.2.2.2.1
theorem dX8_find_23 : decode cX8_find 23 = .ok (.aaload, 1) := bdX8_find_0.2.2.2.2.2.2.2.2.2.2.2.2.2.2.1
theorem dX8_find_24 : decode cX8_find 24 = .ok (.astore 4, 2) := bdX8_find_0.2.2.2.2.2.2.2.2.2.2.2.2.2.2.2
theorem bdX8_find_26 : (decode cX8_find 26 = .ok (.iload_n 2, 1)) ∧ (decode cX8_find 27 = .ok (.iconst 2, 1)) ∧ (decode cX8_find 28 = .ok (.ishl, 1)) ∧ (decode cX8_find 29 = .ok (.aload 4, 2)) ∧ (decode cX8_find 31 = .ok (.invokevirtual 31, 3)) ∧ (decode cX8_find 34 = .ok (.ifCond .eq 13, 3)) ∧ (decode cX8_find 37 = .ok (.aload 4, 2)) ∧ (decode cX8_find 39 = .ok (.getfield 37, 3)) ∧ (decode cX8_find 42 = .ok (.iconst 1, 1)) ∧ (decode cX8_find 43 = .ok (.iadd, 1)) ∧ (decode cX8_find 44 = .ok (.goto 4, 3)) ∧ (decode cX8_find 47 = .ok (.iconst 0, 1)) ∧ (decode cX8_find 48 = .ok (.ior, 1)) ∧ (decode cX8_find 49 = .ok (.istore_n 2, 1)) ∧ (decode cX8_find 50 = .ok (.iinc 3 1, 3)) ∧ (decode cX8_find 53 = .ok (.goto (-49), 3)) := by decide +kernel
theorem dX8_find_26 : decode cX8_find 26 = .ok (.iload_n 2, 1) := bdX8_find_26.1
theorem dX8_find_27 : decode cX8_find 27 = .ok (.iconst 2, 1) := bdX8_find_26.2.1
theorem dX8_find_28 : decode cX8_find 28 = .ok (.ishl, 1) := bdX8_find_26.2.2.1
theorem dX8_find_29 : decode cX8_find 29 = .ok (.aload 4, 2) := bdX8_find_26.2.2.2.1
theorem dX8_find_31 : decode cX8_find 31 = .ok (.invokevirtual 31, 3) := bdX8_find_26.2.2.2.2.1
theorem dX8_find_34 : decode cX8_find 34 = .ok (.ifCond .eq 13, 3) := bdX8_find_26.2.2.2.2.2.1
theorem dX8_find_37 : decode cX8_find 37 = .ok (.aload 4, 2) := bdX8_find_26.2.2.2.2.2.2.1
theorem dX8_find_39 : decode cX8_find 39 = .ok (.getfield 37, 3) := bdX8_find_26.2.2.2.2.2.2.2.1
theorem dX8_find_42 : decode cX8_find 42 = .ok (.iconst 1, 1) := bdX8_find_26.2.2.2.2.2.2.2.2.1
theorem dX8_find_43 : decode cX8_find 43 = .ok (.iadd, 1) := bdX8_find_26.2.2.2.2.2.2.2.2.2.1
theorem dX8_find_44 : decode cX8_find 44 = .ok (.goto 4, 3) := bdX8_find_26.2.2.2.2.2.2.2.2.2.2.1
theorem dX8_find_47 : decode cX8_find 47 = .ok (.iconst 0, 1) := bdX8_find_26.2.2.2.2.2.2.2.2.2.2.2.1
theorem dX8_find_48 : decode cX8_find 48 = .ok (.ior, 1) := bdX8_find_26.2.2.2.2.2.2.2.2.2.2.2.2.1
theorem dX8_find_49 : decode cX8_find 49 = .ok (.istore_n 2, 1) := bdX8_find_26.2.2.2.2.2.2.2.2.2.2.2.2.2.1
theorem dX8_find_50 : decode cX8_find 50 = .ok (.iinc 3 1, 3) := bdX8_find_26.2.2.2.2.2.2.2.2.2.2.2.2.2.2.1
theorem dX8_find_53 : decode cX8_find 53 = .ok (.goto (-49), 3) := bdX8_find_26.2.2.2.2.2.2.2.2.2.2.2.2.2.2.2
theorem bdX8_find_56 : (decode cX8_find 56 = .ok (.iload_n 2, 1)) ∧ (decode cX8_find 57 = .ok (.aload_n 0, 1)) ∧ (decode cX8_find 58 = .ok (.getfield 18, 3)) ∧ (decode cX8_find 61 = .ok (.if_icmp .ne 4, 3)) ∧ (decode cX8_find 64 = .ok (.return_, 1)) ∧ (decode cX8_find 65 = .ok (.aload_n 0, 1)) ∧ (decode cX8_find 66 = .ok (.iload_n 2, 1)) ∧ (decode cX8_find 67 = .ok (.putfield 18, 3)) ∧ (decode cX8_find 70 = .ok (.aload_n 0, 1)) ∧ (decode cX8_find 71 = .ok (.aload_n 1, 1)) ∧ (decode cX8_find 72 = .ok (.iconst 0, 1)) ∧ (decode cX8_find 73 = .ok (.invokevirtual 40, 3)) ∧ (decode cX8_find 76 = .ok (.aload_n 0, 1)) ∧ (decode cX8_find 77 = .ok (.aload_n 1, 1)) ∧ (decode cX8_find 78 = .ok (.iconst 1, 1)) ∧ (decode cX8_find 79 = .ok (.invokevirtual 40, 3)) := by decide +kernel
theorem dX8_find_56 : decode cX8_find 56 = .ok (.iload_n 2, 1) := bdX8_find_56.1
theorem dX8_find_57 : decode cX8_find 57 = .ok (.aload_n 0, 1) := bdX8_find_56.2.1
theorem dX8_find_58 : decode cX8_find 58 = .ok (.getfield 18, 3) := bdX8_find_56.2.2.1
theorem dX8_find_61 : decode cX8_find 61 = .ok (.if_icmp .ne 4, 3) := bdX8_find_56.2.2.2.1
theorem dX8_find_64 : decode cX8_find 64 = .ok (.return_, 1) := bdX8_find_56.2.2.2.2.1
theorem dX8_find_65 : decode cX8_find 65 = .ok (.aload_n 0, 1) := bdX8_find_56.2.2.2.2.2.1
theorem dX8_find_66 : decode cX8_find 66 = .ok (.iload_n 2, 1) := bdX8_find_56.2.2.2.2.2.2.1
theorem dX8_find_67 : decode cX8_find 67 = .ok (.putfield 18, 3) := bdX8_find_56.2.2.2.2.2.2.2.1
theorem dX8_find_70 : decode cX8_find 70 = .ok (.aload_n 0, 1) := bdX8_find_56.2.2.2.2.2.2.2.2.1
theorem dX8_find_71 : decode cX8_find 71 = .ok (.aload_n 1, 1) := bdX8_find_56.2.2.2.2.2.2.2.2.2.1
theorem dX8_find_72 : decode cX8_find 72 = .ok (.iconst 0, 1) := bdX8_find_56.2.2.2.2.2.2.2.2.2.2.1
theorem dX8_find_73 : decode cX8_find 73 = .ok (.invokevirtual 40, 3) := bdX8_find_56.2.2.2.2.2.2.2.2.2.2.2.1
theorem dX8_find_76 : decode cX8_find 76 = .ok (.aload_n 0, 1) := bdX8_find_56.2.2.2.2.2.2.2.2.2.2.2.2.1
theorem dX8_find_77 : decode cX8_find 77 = .ok (.aload_n 1, 1) := bdX8_find_56.2.2.2.2.2.2.2.2.2.2.2.2.2.1
theorem dX8_find_78 : decode cX8_find 78 = .ok (.iconst 1, 1) := bdX8_find_56.2.2.2.2.2.2.2.2.2.2.2.2.2.2.1
theorem dX8_find_79 : decode cX8_find 79 = .ok (.invokevirtual 40, 3) := bdX8_find_56.2.2.2.2.2.2.2.2.2.2.2.2.2.2.2
theorem dX8_find_82 : decode cX8_find 82 = .ok (.return_, 1) := by decide +kernel
theorem bdX2_waiting_0 : (decode cX2_waiting 0 = .ok (.iload_n 2, 1)) ∧ (decode cX2_waiting 1 = .ok (.bipush 6, 2)) ∧ (decode cX2_waiting 3 = .ok (.imul, 1)) ∧ (decode cX2_waiting 4 = .ok (.iload_n 1, 1)) ∧ (decode cX2_waiting 5 = .ok (.iadd, 1)) ∧ (decode cX2_waiting 6 = .ok (.istore_n 3, 1)) ∧ (decode cX2_waiting 7 = .ok (.iload_n 3, 1)) ∧ (decode cX2_waiting 8 = .ok (.ifCond .lt 21, 3)) ∧ (decode cX2_waiting 11 = .ok (.iload_n 3, 1)) ∧ (decode cX2_waiting 12 = .ok (.aload_n 0, 1)) ∧ (decode cX2_waiting 13 = .ok (.getfield 9, 3)) ∧ (decode cX2_waiting 16 = .ok (.arraylength, 1)) ∧ (decode cX2_waiting 17 = .ok (.if_icmp .ge 12, 3)) ∧ (decode cX2_waiting 20 = .ok (.aload_n 0, 1)) ∧ (decode cX2_waiting 21 = .ok (.getfield 9, 3)) ∧ (decode cX2_waiting 24 = .ok (.iload_n 3, 1)) := by decide +kernel
theorem dX2_waiting_0 : decode cX2_waiting 0 = .ok (.iload_n 2, 1) := bdX2_waiting_0.1
theorem dX2_waiting_1 : decode cX2_waiting 1 = .ok (.bipush 6, 2) := bdX2_waiting_0.2.1
theorem dX2_waiting_3 : decode cX2_waiting 3 = .ok (.imul, 1) := bdX2_waiting_0.2.2.1
theorem dX2_waiting_4 : decode cX2_waiting 4 = .ok (.iload_n 1, 1) := bdX2_waiting_0.2.2.2.1
theorem dX2_waiting_5 : decode cX2_waiting 5 = .ok (.iadd, 1) := bdX2_waiting_0.2.2.2.2.1
theorem dX2_waiting_6 : decode cX2_waiting 6 = .ok (.istore_n 3, 1) := bdX2_waiting_0.2.2.2.2.2.1
theorem dX2_waiting_7 : decode cX2_waiting 7 = .ok (.iload_n 3, 1) := bdX2_waiting_0.2.2.2.2.2.2.1
theorem dX2_waiting_8 : decode cX2_waiting 8 = .ok (.ifCond .lt 21, 3) := bdX2_waiting_0.2.2.2.2.2.2.2.1
theorem dX2_waiting_11 : decode cX2_waiting 11 = .ok (.iload_n 3, 1) := bdX2_waiting_0.2.2.2.2.2.2.2.2.1
theorem dX2_waiting_12 : decode cX2_waiting 12 = .ok (.aload_n 0, 1) := bdX2_waiting_0.2.2.2.2.2.2.2.2.2.1
theorem dX2_waiting_13 : decode cX2_waiting 13 = .ok (.getfield 9, 3) := bdX2_waiting_0.2.2.2.2.2.2.2.2.2.2.1
theorem dX2_waiting_16 : decode cX2_waiting 16 = .ok (.arraylength, 1) := bdX2_waiting_0.2.2.2.2.2.2.2.2.2.2.2.1
theorem dX2_waiting_17 : decode cX2_waiting 17 = .ok (.if_icmp .ge 12, 3) := bdX2_waiting_0.2.2.2.2.2.2.2.2.2.2.2.2.1
theorem dX2_waiting_20 : decode cX2_waiting 20 = .ok (.aload_n 0, 1) := bdX2_waiting_0.2.2.2.2.2.2.2.2.2.2.2.2.2.1
theorem dX2_waiting_21 : decode cX2_waiting 21 = .ok (.getfield 9, 3) := bdX2_waiting_0.2.2.2.2.2.2.2.2.2.2.2.2.2.2.1
theorem dX2_waiting_24 : decode cX2_waiting 24 = .ok (.iload_n 3, 1) := bdX2_waiting_0.2.2.2.2.2.2.2.2.2.2.2.2.2.2.2
theorem bdX2_waiting_25 : (decode cX2_waiting 25 = .ok (.iaload, 1)) ∧ (decode cX2_waiting 26 = .ok (.goto 4, 3)) ∧ (decode cX2_waiting 29 = .ok (.iconst 0, 1)) ∧ (decode cX2_waiting 30 = .ok (.ireturn, 1)) := by decide +kernel
theorem dX2_waiting_25 : decode cX2_waiting 25 = .ok (.iaload, 1) := bdX2_waiting_25.1
theorem dX2_waiting_26 : decode cX2_waiting 26 = .ok (.goto 4, 3) := bdX2_waiting_25.2.1
theorem dX2_waiting_29 : decode cX2_waiting 29 = .ok (.iconst 0, 1) := bdX2_waiting_25.2.2.1
theorem dX2_waiting_30 : decode cX2_waiting 30 = .ok (.ireturn, 1) := bdX2_waiting_25.2.2.2
theorem bdX8_firstLink_0 : (decode cX8_firstLink 0 = .ok (.iload_n 1, 1)) ∧ (decode cX8_firstLink 1 = .ok (.bipush 36, 2)) ∧ (decode cX8_firstLink 3 = .ok (.imul, 1)) ∧ (decode cX8_firstLink 4 = .ok (.iload_n 2, 1)) ∧ (decode cX8_firstLink 5 = .ok (.bipush 6, 2)) ∧ (decode cX8_firstLink 7 = .ok (.imul, 1)) ∧ (decode cX8_firstLink 8 = .ok (.iadd, 1)) ∧ (decode cX8_firstLink 9 = .ok (.iload_n 3, 1)) ∧ (decode cX8_firstLink 10 = .ok (.iadd, 1)) ∧ (decode cX8_firstLink 11 = .ok (.istore 4, 2)) ∧ (decode cX8_firstLink 13 = .ok (.iload 4, 2)) ∧ (decode cX8_firstLink 15 = .ok (.ifCond .lt 23, 3)) ∧ (decode cX8_firstLink 18 = .ok (.iload 4, 2)) ∧ (decode cX8_firstLink 20 = .ok (.aload_n 0, 1)) ∧ (decode cX8_firstLink 21 = .ok (.getfield 11, 3)) ∧ (decode cX8_firstLink 24 = .ok (.arraylength, 1)) := by decide +kernel
theorem dX8_firstLink_0 : decode cX8_firstLink 0 = .ok (.iload_n 1, 1) := bdX8_firstLink_0.1
theorem dX8_firstLink_1 : decode cX8_firstLink 1 = .ok (.bipush 36, 2) := bdX8_firstLink_0.2.1
theorem dX8_firstLink_3 : decode cX8_firstLink 3 = .ok (.imul, 1) := bdX8_firstLink_0.2.2.1
theorem dX8_firstLink_4 : decode cX8_firstLink 4 = .ok (.iload_n 2, 1) := bdX8_firstLink_0.2.2.2.1
theorem dX8_firstLink_5 : decode cX8_firstLink 5 = .ok (.bipush 6, 2) := bdX8_firstLink_0.2.2.2.2.1
theorem dX8_firstLink_7 : decode cX8_firstLink 7 = .ok (.imul, 1) := bdX8_firstLink_0.2.2.2.2.2.1
theorem dX8_firstLink_8 : decode cX8_firstLink 8 = .ok (.iadd, 1) := bdX8_firstLink_0.2.2.2.2.2.2.1
theorem dX8_firstLink_9 : decode cX8_firstLink 9 = .ok (.iload_n 3, 1) := bdX8_firstLink_0.2.2.2.2.2.2.2.1
theorem dX8_firstLink_10 : decode cX8_firstLink 10 = .ok (.iadd, 1) := bdX8_firstLink_0.2.2.2.2.2.2.2.2.1
theorem dX8_firstLink_11 : decode cX8_firstLink 11 = .ok (.istore 4, 2) := bdX8_firstLink_0.2.2.2.2.2.2.2.2.2.1
theorem dX8_firstLink_13 : decode cX8_firstLink 13 = .ok (.iload 4, 2) := bdX8_firstLink_0.2.2.2.2.2.2.2.2.2.2.1
theorem dX8_firstLink_15 : decode cX8_firstLink 15 = .ok (.ifCond .lt 23, 3) := bdX8_firstLink_0.2.2.2.2.2.2.2.2.2.2.2.1
theorem dX8_firstLink_18 : decode cX8_firstLink 18 = .ok (.iload 4, 2) := bdX8_firstLink_0.2.2.2.2.2.2.2.2.2.2.2.2.1
theorem dX8_firstLink_20 : decode cX8_firstLink 20 = .ok (.aload_n 0, 1) := bdX8_firstLink_0.2.2.2.2.2.2.2.2.2.2.2.2.2.1
theorem dX8_firstLink_21 : decode cX8_firstLink 21 = .ok (.getfield 11, 3) := bdX8_firstLink_0.2.2.2.2.2.2.2.2.2.2.2.2.2.2.1
theorem dX8_firstLink_24 : decode cX8_firstLink 24 = .ok (.arraylength, 1) := bdX8_firstLink_0.2.2.2.2.2.2.2.2.2.2.2.2.2.2.2
theorem bdX8_firstLink_25 : (decode cX8_firstLink 25 = .ok (.if_icmp .ge 13, 3)) ∧ (decode cX8_firstLink 28 = .ok (.aload_n 0, 1)) ∧ (decode cX8_firstLink 29 = .ok (.getfield 11, 3)) ∧ (decode cX8_firstLink 32 = .ok (.iload 4, 2)) ∧ (decode cX8_firstLink 34 = .ok (.iaload, 1)) ∧ (decode cX8_firstLink 35 = .ok (.goto 4, 3)) ∧ (decode cX8_firstLink 38 = .ok (.iconst (-1), 1)) ∧ (decode cX8_firstLink 39 = .ok (.ireturn, 1)) := by decide +kernel
theorem dX8_firstLink_25 : decode cX8_firstLink 25 = .ok (.if_icmp .ge 13, 3) := bdX8_firstLink_25.1
theorem dX8_firstLink_28 : decode cX8_firstLink 28 = .ok (.aload_n 0, 1) := bdX8_firstLink_25.2.1
theorem dX8_firstLink_29 : decode cX8_firstLink 29 = .ok (.getfield 11, 3) := bdX8_firstLink_25.2.2.1
theorem dX8_firstLink_32 : decode cX8_firstLink 32 = .ok (.iload 4, 2) := bdX8_firstLink_25.2.2.2.1
theorem dX8_firstLink_34 : decode cX8_firstLink 34 = .ok (.iaload, 1) := bdX8_firstLink_25.2.2.2.2.1
theorem dX8_firstLink_35 : decode cX8_firstLink 35 = .ok (.goto 4, 3) := bdX8_firstLink_25.2.2.2.2.2.1
theorem dX8_firstLink_38 : decode cX8_firstLink 38 = .ok (.iconst (-1), 1) := bdX8_firstLink_25.2.2.2.2.2.2.1
theorem dX8_firstLink_39 : decode cX8_firstLink 39 = .ok (.ireturn, 1) := bdX8_firstLink_25.2.2.2.2.2.2.2
theorem bdX6_goalOfMost_0 : (decode cX6_goalOfMost 0 = .ok (.aload_n 1, 1)) ∧ (decode cX6_goalOfMost 1 = .ok (.iload_n 3, 1)) ∧ (decode cX6_goalOfMost 2 = .ok (.invokevirtual 69, 3)) ∧ (decode cX6_goalOfMost 5 = .ok (.ifCond .eq 15, 3)) ∧ (decode cX6_goalOfMost 8 = .ok (.aload_n 1, 1)) ∧ (decode cX6_goalOfMost 9 = .ok (.getfield 96, 3)) ∧ (decode cX6_goalOfMost 12 = .ok (.iload_n 3, 1)) ∧ (decode cX6_goalOfMost 13 = .ok (.aaload, 1)) ∧ (decode cX6_goalOfMost 14 = .ok (.getfield 106, 3)) ∧ (decode cX6_goalOfMost 17 = .ok (.ifCond .ne 5, 3)) ∧ (decode cX6_goalOfMost 20 = .ok (.iconst (-1), 1)) ∧ (decode cX6_goalOfMost 21 = .ok (.ireturn, 1)) ∧ (decode cX6_goalOfMost 22 = .ok (.iconst (-1), 1)) ∧ (decode cX6_goalOfMost 23 = .ok (.istore 5, 2)) ∧ (decode cX6_goalOfMost 25 = .ok (.iconst 0, 1)) ∧ (decode cX6_goalOfMost 26 = .ok (.istore 6, 2)) := by decide +kernel
theorem dX6_goalOfMost_0 : decode cX6_goalOfMost 0 = .ok (.aload_n 1, 1) := bdX6_goalOfMost_0.1
theorem dX6_goalOfMost_1 : decode cX6_goalOfMost 1 = .ok (.iload_n 3, 1) := bdX6_goalOfMost_0.2.1
theorem dX6_goalOfMost_2 : decode cX6_goalOfMost 2 = .ok (.invokevirtual 69, 3) := bdX6_goalOfMost_0.2.2.1
theorem dX6_goalOfMost_5 : decode cX6_goalOfMost 5 = .ok (.ifCond .eq 15, 3) := bdX6_goalOfMost_0.2.2.2.1
theorem dX6_goalOfMost_8 : decode cX6_goalOfMost 8 = .ok (.aload_n 1, 1) := bdX6_goalOfMost_0.2.2.2.2.1
theorem dX6_goalOfMost_9 : decode cX6_goalOfMost 9 = .ok (.getfield 96, 3) := bdX6_goalOfMost_0.2.2.2.2.2.1
theorem dX6_goalOfMost_12 : decode cX6_goalOfMost 12 = .ok (.iload_n 3, 1) := bdX6_goalOfMost_0.2.2.2.2.2.2.1
theorem dX6_goalOfMost_13 : decode cX6_goalOfMost 13 = .ok (.aaload, 1) := bdX6_goalOfMost_0.2.2.2.2.2.2.2.1
theorem dX6_goalOfMost_14 : decode cX6_goalOfMost 14 = .ok (.getfield 106, 3) := bdX6_goalOfMost_0.2.2.2.2.2.2.2.2.1
theorem dX6_goalOfMost_17 : decode cX6_goalOfMost 17 = .ok (.ifCond .ne 5, 3) := bdX6_goalOfMost_0.2.2.2.2.2.2.2.2.2.1
theorem dX6_goalOfMost_20 : decode cX6_goalOfMost 20 = .ok (.iconst (-1), 1) := bdX6_goalOfMost_0.2.2.2.2.2.2.2.2.2.2.1
theorem dX6_goalOfMost_21 : decode cX6_goalOfMost 21 = .ok (.ireturn, 1) := bdX6_goalOfMost_0.2.2.2.2.2.2.2.2.2.2.2.1
theorem dX6_goalOfMost_22 : decode cX6_goalOfMost 22 = .ok (.iconst (-1), 1) := bdX6_goalOfMost_0.2.2.2.2.2.2.2.2.2.2.2.2.1
theorem dX6_goalOfMost_23 : decode cX6_goalOfMost 23 = .ok (.istore 5, 2) := bdX6_goalOfMost_0.2.2.2.2.2.2.2.2.2.2.2.2.2.1
theorem dX6_goalOfMost_25 : decode cX6_goalOfMost 25 = .ok (.iconst 0, 1) := bdX6_goalOfMost_0.2.2.2.2.2.2.2.2.2.2.2.2.2.2.1
theorem dX6_goalOfMost_26 : decode cX6_goalOfMost 26 = .ok (.istore 6, 2) := bdX6_goalOfMost_0.2.2.2.2.2.2.2.2.2.2.2.2.2.2.2
theorem bdX6_goalOfMost_28 : (decode cX6_goalOfMost 28 = .ok (.iconst 0, 1)) ∧ (decode cX6_goalOfMost 29 = .ok (.istore 7, 2)) ∧ (decode cX6_goalOfMost 31 = .ok (.iload 7, 2)) ∧ (decode cX6_goalOfMost 33 = .ok (.bipush 6, 2)) ∧ (decode cX6_goalOfMost 35 = .ok (.if_icmp .ge 55, 3)) ∧ (decode cX6_goalOfMost 38 = .ok (.aload_n 1, 1)) ∧ (decode cX6_goalOfMost 39 = .ok (.getfield 96, 3)) ∧ (decode cX6_goalOfMost 42 = .ok (.iload_n 3, 1)) ∧ (decode cX6_goalOfMost 43 = .ok (.aaload, 1)) ∧ (decode cX6_goalOfMost 44 = .ok (.iload 7, 2)) ∧ (decode cX6_goalOfMost 46 = .ok (.iload 4, 2)) ∧ (decode cX6_goalOfMost 48 = .ok (.invokevirtual 207, 3)) ∧ (decode cX6_goalOfMost 51 = .ok (.istore 8, 2)) ∧ (decode cX6_goalOfMost 53 = .ok (.iload 8, 2)) ∧ (decode cX6_goalOfMost 55 = .ok (.iload 6, 2)) ∧ (decode cX6_goalOfMost 57 = .ok (.if_icmp .le 27, 3)) := by decide +kernel
theorem dX6_goalOfMost_28 : decode cX6_goalOfMost 28 = .ok (.iconst 0, 1) := bdX6_goalOfMost_28.1
theorem dX6_goalOfMost_29 : decode cX6_goalOfMost 29 = .ok (.istore 7, 2) := bdX6_goalOfMost_28.2.1
theorem dX6_goalOfMost_31 : decode cX6_goalOfMost 31 = .ok (.iload 7, 2) := bdX6_goalOfMost_28.2.2.1
theorem dX6_goalOfMost_33 : decode cX6_goalOfMost 33 = .ok (.bipush 6, 2) := bdX6_goalOfMost_28.2.2.2.1
theorem dX6_goalOfMost_35 : decode cX6_goalOfMost 35 = .ok (.if_icmp .ge 55, 3) := bdX6_goalOfMost_28.2.2.2.2.1
theorem dX6_goalOfMost_38 : decode cX6_goalOfMost 38 = .ok (.aload_n 1, 1) := bdX6_goalOfMost_28.2.2.2.2.2.1
theorem dX6_goalOfMost_39 : decode cX6_goalOfMost 39 = .ok (.getfield 96, 3) := bdX6_goalOfMost_28.2.2.2.2.2.2.1
theorem dX6_goalOfMost_42 : decode cX6_goalOfMost 42 = .ok (.iload_n 3, 1) := bdX6_goalOfMost_28.2.2.2.2.2.2.2.1
theorem dX6_goalOfMost_43 : decode cX6_goalOfMost 43 = .ok (.aaload, 1) := bdX6_goalOfMost_28.2.2.2.2.2.2.2.2.1
theorem dX6_goalOfMost_44 : decode cX6_goalOfMost 44 = .ok (.iload 7, 2) := bdX6_goalOfMost_28.2.2.2.2.2.2.2.2.2.1
theorem dX6_goalOfMost_46 : decode cX6_goalOfMost 46 = .ok (.iload 4, 2) := bdX6_goalOfMost_28.2.2.2.2.2.2.2.2.2.2.1
theorem dX6_goalOfMost_48 : decode cX6_goalOfMost 48 = .ok (.invokevirtual 207, 3) := bdX6_goalOfMost_28.2.2.2.2.2.2.2.2.2.2.2.1
theorem dX6_goalOfMost_51 : decode cX6_goalOfMost 51 = .ok (.istore 8, 2) := bdX6_goalOfMost_28.2.2.2.2.2.2.2.2.2.2.2.2.1
theorem dX6_goalOfMost_53 : decode cX6_goalOfMost 53 = .ok (.iload 8, 2) := bdX6_goalOfMost_28.2.2.2.2.2.2.2.2.2.2.2.2.2.1
theorem dX6_goalOfMost_55 : decode cX6_goalOfMost 55 = .ok (.iload 6, 2) := bdX6_goalOfMost_28.2.2.2.2.2.2.2.2.2.2.2.2.2.2.1
theorem dX6_goalOfMost_57 : decode cX6_goalOfMost 57 = .ok (.if_icmp .le 27, 3) := bdX6_goalOfMost_28.2.2.2.2.2.2.2.2.2.2.2.2.2.2.2
theorem bdX6_goalOfMost_60 : (decode cX6_goalOfMost 60 = .ok (.aload_n 0, 1)) ∧ (decode cX6_goalOfMost 61 = .ok (.getfield 12, 3)) ∧ (decode cX6_goalOfMost 64 = .ok (.iload 4, 2)) ∧ (decode cX6_goalOfMost 66 = .ok (.iload_n 3, 1)) ∧ (decode cX6_goalOfMost 67 = .ok (.iload 7, 2)) ∧ (decode cX6_goalOfMost 69 = .ok (.invokevirtual 210, 3)) ∧ (decode cX6_goalOfMost 72 = .ok (.iload_n 2, 1)) ∧ (decode cX6_goalOfMost 73 = .ok (.if_icmp .ne 11, 3)) ∧ (decode cX6_goalOfMost 76 = .ok (.iload 7, 2)) ∧ (decode cX6_goalOfMost 78 = .ok (.istore 5, 2)) ∧ (decode cX6_goalOfMost 80 = .ok (.iload 8, 2)) ∧ (decode cX6_goalOfMost 82 = .ok (.istore 6, 2)) ∧ (decode cX6_goalOfMost 84 = .ok (.iinc 7 1, 3)) ∧ (decode cX6_goalOfMost 87 = .ok (.goto (-56), 3)) ∧ (decode cX6_goalOfMost 90 = .ok (.iload 5, 2)) ∧ (decode cX6_goalOfMost 92 = .ok (.ireturn, 1)) := by decide +kernel
theorem dX6_goalOfMost_60 : decode cX6_goalOfMost 60 = .ok (.aload_n 0, 1) := bdX6_goalOfMost_60.1
theorem dX6_goalOfMost_61 : decode cX6_goalOfMost 61 = .ok (.getfield 12, 3) := bdX6_goalOfMost_60.2.1
theorem dX6_goalOfMost_64 : decode cX6_goalOfMost 64 = .ok (.iload 4, 2) := bdX6_goalOfMost_60.2.2.1
theorem dX6_goalOfMost_66 : decode cX6_goalOfMost 66 = .ok (.iload_n 3, 1) := bdX6_goalOfMost_60.2.2.2.1
theorem dX6_goalOfMost_67 : decode cX6_goalOfMost 67 = .ok (.iload 7, 2) := bdX6_goalOfMost_60.2.2.2.2.1
theorem dX6_goalOfMost_69 : decode cX6_goalOfMost 69 = .ok (.invokevirtual 210, 3) := bdX6_goalOfMost_60.2.2.2.2.2.1
theorem dX6_goalOfMost_72 : decode cX6_goalOfMost 72 = .ok (.iload_n 2, 1) := bdX6_goalOfMost_60.2.2.2.2.2.2.1
theorem dX6_goalOfMost_73 : decode cX6_goalOfMost 73 = .ok (.if_icmp .ne 11, 3) := bdX6_goalOfMost_60.2.2.2.2.2.2.2.1
theorem dX6_goalOfMost_76 : decode cX6_goalOfMost 76 = .ok (.iload 7, 2) := bdX6_goalOfMost_60.2.2.2.2.2.2.2.2.1
theorem dX6_goalOfMost_78 : decode cX6_goalOfMost 78 = .ok (.istore 5, 2) := bdX6_goalOfMost_60.2.2.2.2.2.2.2.2.2.1
theorem dX6_goalOfMost_80 : decode cX6_goalOfMost 80 = .ok (.iload 8, 2) := bdX6_goalOfMost_60.2.2.2.2.2.2.2.2.2.2.1
theorem dX6_goalOfMost_82 : decode cX6_goalOfMost 82 = .ok (.istore 6, 2) := bdX6_goalOfMost_60.2.2.2.2.2.2.2.2.2.2.2.1
theorem dX6_goalOfMost_84 : decode cX6_goalOfMost 84 = .ok (.iinc 7 1, 3) := bdX6_goalOfMost_60.2.2.2.2.2.2.2.2.2.2.2.2.1
theorem dX6_goalOfMost_87 : decode cX6_goalOfMost 87 = .ok (.goto (-56), 3) := bdX6_goalOfMost_60.2.2.2.2.2.2.2.2.2.2.2.2.2.1
theorem dX6_goalOfMost_90 : decode cX6_goalOfMost 90 = .ok (.iload 5, 2) := bdX6_goalOfMost_60.2.2.2.2.2.2.2.2.2.2.2.2.2.2.1
theorem dX6_goalOfMost_92 : decode cX6_goalOfMost 92 = .ok (.ireturn, 1) := bdX6_goalOfMost_60.2.2.2.2.2.2.2.2.2.2.2.2.2.2.2
theorem bdX9_admits_0 : (decode cX9_admits 0 = .ok (.iload_n 1, 1)) ∧ (decode cX9_admits 1 = .ok (.iload_n 2, 1)) ∧ (decode cX9_admits 2 = .ok (.if_icmp .eq 32, 3)) ∧ (decode cX9_admits 5 = .ok (.aload_n 0, 1)) ∧ (decode cX9_admits 6 = .ok (.iload_n 1, 1)) ∧ (decode cX9_admits 7 = .ok (.invokevirtual 74, 3)) ∧ (decode cX9_admits 10 = .ok (.ifCond .eq 28, 3)) ∧ (decode cX9_admits 13 = .ok (.aload_n 0, 1)) ∧ (decode cX9_admits 14 = .ok (.getfield 11, 3)) ∧ (decode cX9_admits 17 = .ok (.iload_n 1, 1)) ∧ (decode cX9_admits 18 = .ok (.aaload, 1)) ∧ (decode cX9_admits 19 = .ok (.getfield 77, 3)) ∧ (decode cX9_admits 22 = .ok (.aload_n 0, 1)) ∧ (decode cX9_admits 23 = .ok (.getfield 11, 3)) ∧ (decode cX9_admits 26 = .ok (.iload_n 1, 1)) ∧ (decode cX9_admits 27 = .ok (.aaload, 1)) := by decide +kernel
theorem dX9_admits_0 : decode cX9_admits 0 = .ok (.iload_n 1, 1) := bdX9_admits_0.1
theorem dX9_admits_1 : decode cX9_admits 1 = .ok (.iload_n 2, 1) := bdX9_admits_0.2.1
theorem dX9_admits_2 : decode cX9_admits 2 = .ok (.if_icmp .eq 32, 3) := bdX9_admits_0.2.2.1
theorem dX9_admits_5 : decode cX9_admits 5 = .ok (.aload_n 0, 1) := bdX9_admits_0.2.2.2.1
theorem dX9_admits_6 : decode cX9_admits 6 = .ok (.iload_n 1, 1) := bdX9_admits_0.2.2.2.2.1
theorem dX9_admits_7 : decode cX9_admits 7 = .ok (.invokevirtual 74, 3) := bdX9_admits_0.2.2.2.2.2.1
theorem dX9_admits_10 : decode cX9_admits 10 = .ok (.ifCond .eq 28, 3) := bdX9_admits_0.2.2.2.2.2.2.1
theorem dX9_admits_13 : decode cX9_admits 13 = .ok (.aload_n 0, 1) := bdX9_admits_0.2.2.2.2.2.2.2.1
theorem dX9_admits_14 : decode cX9_admits 14 = .ok (.getfield 11, 3) := bdX9_admits_0.2.2.2.2.2.2.2.2.1
theorem dX9_admits_17 : decode cX9_admits 17 = .ok (.iload_n 1, 1) := bdX9_admits_0.2.2.2.2.2.2.2.2.2.1
theorem dX9_admits_18 : decode cX9_admits 18 = .ok (.aaload, 1) := bdX9_admits_0.2.2.2.2.2.2.2.2.2.2.1
theorem dX9_admits_19 : decode cX9_admits 19 = .ok (.getfield 77, 3) := bdX9_admits_0.2.2.2.2.2.2.2.2.2.2.2.1
theorem dX9_admits_22 : decode cX9_admits 22 = .ok (.aload_n 0, 1) := bdX9_admits_0.2.2.2.2.2.2.2.2.2.2.2.2.1
theorem dX9_admits_23 : decode cX9_admits 23 = .ok (.getfield 11, 3) := bdX9_admits_0.2.2.2.2.2.2.2.2.2.2.2.2.2.1
theorem dX9_admits_26 : decode cX9_admits 26 = .ok (.iload_n 1, 1) := bdX9_admits_0.2.2.2.2.2.2.2.2.2.2.2.2.2.2.1
theorem dX9_admits_27 : decode cX9_admits 27 = .ok (.aaload, 1) := bdX9_admits_0.2.2.2.2.2.2.2.2.2.2.2.2.2.2.2
theorem bdX9_admits_28 : (decode cX9_admits 28 = .ok (.getfield 80, 3)) ∧ (decode cX9_admits 31 = .ok (.if_icmp .ge 7, 3)) ∧ (decode cX9_admits 34 = .ok (.iconst 1, 1)) ∧ (decode cX9_admits 35 = .ok (.goto 4, 3)) ∧ (decode cX9_admits 38 = .ok (.iconst 0, 1)) ∧ (decode cX9_admits 39 = .ok (.ireturn, 1)) := by decide +kernel
theorem dX9_admits_28 : decode cX9_admits 28 = .ok (.getfield 80, 3) := bdX9_admits_28.1
theorem dX9_admits_31 : decode cX9_admits 31 = .ok (.if_icmp .ge 7, 3) := bdX9_admits_28.2.1
theorem dX9_admits_34 : decode cX9_admits 34 = .ok (.iconst 1, 1) := bdX9_admits_28.2.2.1
theorem dX9_admits_35 : decode cX9_admits 35 = .ok (.goto 4, 3) := bdX9_admits_28.2.2.2.1
theorem dX9_admits_38 : decode cX9_admits 38 = .ok (.iconst 0, 1) := bdX9_admits_28.2.2.2.2.1
theorem dX9_admits_39 : decode cX9_admits 39 = .ok (.ireturn, 1) := bdX9_admits_28.2.2.2.2.2
theorem bdX6_lift_0 : (decode cX6_lift 0 = .ok (.aload_n 1, 1)) ∧ (decode cX6_lift 1 = .ok (.iload_n 2, 1)) ∧ (decode cX6_lift 2 = .ok (.invokevirtual 186, 3)) ∧ (decode cX6_lift 5 = .ok (.ifCond .eq 11, 3)) ∧ (decode cX6_lift 8 = .ok (.aload_n 1, 1)) ∧ (decode cX6_lift 9 = .ok (.iload_n 3, 1)) ∧ (decode cX6_lift 10 = .ok (.invokevirtual 69, 3)) ∧ (decode cX6_lift 13 = .ok (.ifCond .ne 4, 3)) ∧ (decode cX6_lift 16 = .ok (.return_, 1)) ∧ (decode cX6_lift 17 = .ok (.aload_n 1, 1)) ∧ (decode cX6_lift 18 = .ok (.getfield 144, 3)) ∧ (decode cX6_lift 21 = .ok (.iload_n 2, 1)) ∧ (decode cX6_lift 22 = .ok (.aaload, 1)) ∧ (decode cX6_lift 23 = .ok (.astore 5, 2)) ∧ (decode cX6_lift 25 = .ok (.iconst 0, 1)) ∧ (decode cX6_lift 26 = .ok (.istore 6, 2)) := by decide +kernel
theorem dX6_lift_0 : decode cX6_lift 0 = .ok (.aload_n 1, 1) := bdX6_lift_0.1
theorem dX6_lift_1 : decode cX6_lift 1 = .ok (.iload_n 2, 1) := bdX6_lift_0.2.1
theorem dX6_lift_2 : decode cX6_lift 2 = .ok (.invokevirtual 186, 3) := bdX6_lift_0.2.2.1
theorem dX6_lift_5 : decode cX6_lift 5 = .ok (.ifCond .eq 11, 3) := bdX6_lift_0.2.2.2.1
theorem dX6_lift_8 : decode cX6_lift 8 = .ok (.aload_n 1, 1) := bdX6_lift_0.2.2.2.2.1
theorem dX6_lift_9 : decode cX6_lift 9 = .ok (.iload_n 3, 1) := bdX6_lift_0.2.2.2.2.2.1
theorem dX6_lift_10 : decode cX6_lift 10 = .ok (.invokevirtual 69, 3) := bdX6_lift_0.2.2.2.2.2.2.1
theorem dX6_lift_13 : decode cX6_lift 13 = .ok (.ifCond .ne 4, 3) := bdX6_lift_0.2.2.2.2.2.2.2.1
theorem dX6_lift_16 : decode cX6_lift 16 = .ok (.return_, 1) := bdX6_lift_0.2.2.2.2.2.2.2.2.1
theorem dX6_lift_17 : decode cX6_lift 17 = .ok (.aload_n 1, 1) := bdX6_lift_0.2.2.2.2.2.2.2.2.2.1
theorem dX6_lift_18 : decode cX6_lift 18 = .ok (.getfield 144, 3) := bdX6_lift_0.2.2.2.2.2.2.2.2.2.2.1
theorem dX6_lift_21 : decode cX6_lift 21 = .ok (.iload_n 2, 1) := bdX6_lift_0.2.2.2.2.2.2.2.2.2.2.2.1
theorem dX6_lift_22 : decode cX6_lift 22 = .ok (.aaload, 1) := bdX6_lift_0.2.2.2.2.2.2.2.2.2.2.2.2.1
theorem dX6_lift_23 : decode cX6_lift 23 = .ok (.astore 5, 2) := bdX6_lift_0.2.2.2.2.2.2.2.2.2.2.2.2.2.1
theorem dX6_lift_25 : decode cX6_lift 25 = .ok (.iconst 0, 1) := bdX6_lift_0.2.2.2.2.2.2.2.2.2.2.2.2.2.2.1
theorem dX6_lift_26 : decode cX6_lift 26 = .ok (.istore 6, 2) := bdX6_lift_0.2.2.2.2.2.2.2.2.2.2.2.2.2.2.2
theorem bdX6_lift_28 : (decode cX6_lift 28 = .ok (.iload 6, 2)) ∧ (decode cX6_lift 30 = .ok (.aload 5, 2)) ∧ (decode cX6_lift 32 = .ok (.getfield 189, 3)) ∧ (decode cX6_lift 35 = .ok (.if_icmp .ge 82, 3)) ∧ (decode cX6_lift 38 = .ok (.aload_n 0, 1)) ∧ (decode cX6_lift 39 = .ok (.aload_n 1, 1)) ∧ (decode cX6_lift 40 = .ok (.iload_n 2, 1)) ∧ (decode cX6_lift 41 = .ok (.iload_n 3, 1)) ∧ (decode cX6_lift 42 = .ok (.iconst 1, 1)) ∧ (decode cX6_lift 43 = .ok (.invokevirtual 190, 3)) ∧ (decode cX6_lift 46 = .ok (.istore 7, 2)) ∧ (decode cX6_lift 48 = .ok (.iload 7, 2)) ∧ (decode cX6_lift 50 = .ok (.iconst (-1), 1)) ∧ (decode cX6_lift 51 = .ok (.if_icmp .eq 14, 3)) ∧ (decode cX6_lift 54 = .ok (.aload_n 1, 1)) ∧ (decode cX6_lift 55 = .ok (.iload 4, 2)) := by decide +kernel
theorem dX6_lift_28 : decode cX6_lift 28 = .ok (.iload 6, 2) := bdX6_lift_28.1
theorem dX6_lift_30 : decode cX6_lift 30 = .ok (.aload 5, 2) := bdX6_lift_28.2.1
theorem dX6_lift_32 : decode cX6_lift 32 = .ok (.getfield 189, 3) := bdX6_lift_28.2.2.1
theorem dX6_lift_35 : decode cX6_lift 35 = .ok (.if_icmp .ge 82, 3) := bdX6_lift_28.2.2.2.1
theorem dX6_lift_38 : decode cX6_lift 38 = .ok (.aload_n 0, 1) := bdX6_lift_28.2.2.2.2.1
theorem dX6_lift_39 : decode cX6_lift 39 = .ok (.aload_n 1, 1) := bdX6_lift_28.2.2.2.2.2.1
theorem dX6_lift_40 : decode cX6_lift 40 = .ok (.iload_n 2, 1) := bdX6_lift_28.2.2.2.2.2.2.1
theorem dX6_lift_41 : decode cX6_lift 41 = .ok (.iload_n 3, 1) := bdX6_lift_28.2.2.2.2.2.2.2.1
theorem dX6_lift_42 : decode cX6_lift 42 = .ok (.iconst 1, 1) := bdX6_lift_28.2.2.2.2.2.2.2.2.1
theorem dX6_lift_43 : decode cX6_lift 43 = .ok (.invokevirtual 190, 3) := bdX6_lift_28.2.2.2.2.2.2.2.2.2.1
theorem dX6_lift_46 : decode cX6_lift 46 = .ok (.istore 7, 2) := bdX6_lift_28.2.2.2.2.2.2.2.2.2.2.1
theorem dX6_lift_48 : decode cX6_lift 48 = .ok (.iload 7, 2) := bdX6_lift_28.2.2.2.2.2.2.2.2.2.2.2.1
theorem dX6_lift_50 : decode cX6_lift 50 = .ok (.iconst (-1), 1) := bdX6_lift_28.2.2.2.2.2.2.2.2.2.2.2.2.1
theorem dX6_lift_51 : decode cX6_lift 51 = .ok (.if_icmp .eq 14, 3) := bdX6_lift_28.2.2.2.2.2.2.2.2.2.2.2.2.2.1
theorem dX6_lift_54 : decode cX6_lift 54 = .ok (.aload_n 1, 1) := bdX6_lift_28.2.2.2.2.2.2.2.2.2.2.2.2.2.2.1
theorem dX6_lift_55 : decode cX6_lift 55 = .ok (.iload 4, 2) := bdX6_lift_28.2.2.2.2.2.2.2.2.2.2.2.2.2.2.2
theorem bdX6_lift_57 : (decode cX6_lift 57 = .ok (.iload 7, 2)) ∧ (decode cX6_lift 59 = .ok (.invokevirtual 194, 3)) ∧ (decode cX6_lift 62 = .ok (.ifCond .ne 4, 3)) ∧ (decode cX6_lift 65 = .ok (.return_, 1)) ∧ (decode cX6_lift 66 = .ok (.aload_n 1, 1)) ∧ (decode cX6_lift 67 = .ok (.getfield 96, 3)) ∧ (decode cX6_lift 70 = .ok (.iload_n 3, 1)) ∧ (decode cX6_lift 71 = .ok (.aaload, 1)) ∧ (decode cX6_lift 72 = .ok (.iload 7, 2)) ∧ (decode cX6_lift 74 = .ok (.iconst 1, 1)) ∧ (decode cX6_lift 75 = .ok (.iconst (-1), 1)) ∧ (decode cX6_lift 76 = .ok (.invokevirtual 198, 3)) ∧ (decode cX6_lift 79 = .ok (.aload_n 1, 1)) ∧ (decode cX6_lift 80 = .ok (.iload 4, 2)) ∧ (decode cX6_lift 82 = .ok (.iload 7, 2)) ∧ (decode cX6_lift 84 = .ok (.iconst 1, 1)) := by decide +kernel
theorem dX6_lift_57 : decode cX6_lift 57 = .ok (.iload 7, 2) := bdX6_lift_57.1
theorem dX6_lift_59 : decode cX6_lift 59 = .ok (.invokevirtual 194, 3) := bdX6_lift_57.2.1
theorem dX6_lift_62 : decode cX6_lift 62 = .ok (.ifCond .ne 4, 3) := bdX6_lift_57.2.2.1
theorem dX6_lift_65 : decode cX6_lift 65 = .ok (.return_, 1) := bdX6_lift_57.2.2.2.1
theorem dX6_lift_66 : decode cX6_lift 66 = .ok (.aload_n 1, 1) := bdX6_lift_57.2.2.2.2.1
theorem dX6_lift_67 : decode cX6_lift 67 = .ok (.getfield 96, 3) := bdX6_lift_57.2.2.2.2.2.1
theorem dX6_lift_70 : decode cX6_lift 70 = .ok (.iload_n 3, 1) := bdX6_lift_57.2.2.2.2.2.2.1
theorem dX6_lift_71 : decode cX6_lift 71 = .ok (.aaload, 1) := bdX6_lift_57.2.2.2.2.2.2.2.1
theorem dX6_lift_72 : decode cX6_lift 72 = .ok (.iload 7, 2) := bdX6_lift_57.2.2.2.2.2.2.2.2.1
theorem dX6_lift_74 : decode cX6_lift 74 = .ok (.iconst 1, 1) := bdX6_lift_57.2.2.2.2.2.2.2.2.2.1
theorem dX6_lift_75 : decode cX6_lift 75 = .ok (.iconst (-1), 1) := bdX6_lift_57.2.2.2.2.2.2.2.2.2.2.1
theorem dX6_lift_76 : decode cX6_lift 76 = .ok (.invokevirtual 198, 3) := bdX6_lift_57.2.2.2.2.2.2.2.2.2.2.2.1
theorem dX6_lift_79 : decode cX6_lift 79 = .ok (.aload_n 1, 1) := bdX6_lift_57.2.2.2.2.2.2.2.2.2.2.2.2.1
theorem dX6_lift_80 : decode cX6_lift 80 = .ok (.iload 4, 2) := bdX6_lift_57.2.2.2.2.2.2.2.2.2.2.2.2.2.1
theorem dX6_lift_82 : decode cX6_lift 82 = .ok (.iload 7, 2) := bdX6_lift_57.2.2.2.2.2.2.2.2.2.2.2.2.2.2.1
theorem dX6_lift_84 : decode cX6_lift 84 = .ok (.iconst 1, 1) := bdX6_lift_57.2.2.2.2.2.2.2.2.2.2.2.2.2.2.2
theorem bdX6_lift_85 : (decode cX6_lift 85 = .ok (.iconst 1, 1)) ∧ (decode cX6_lift 86 = .ok (.invokevirtual 85, 3)) ∧ (decode cX6_lift 89 = .ok (.aload 5, 2)) ∧ (decode cX6_lift 91 = .ok (.dup, 1)) ∧ (decode cX6_lift 92 = .ok (.getfield 201, 3)) ∧ (decode cX6_lift 95 = .ok (.iconst 1, 1)) ∧ (decode cX6_lift 96 = .ok (.iadd, 1)) ∧ (decode cX6_lift 97 = .ok (.putfield 201, 3)) ∧ (decode cX6_lift 100 = .ok (.aload 5, 2)) ∧ (decode cX6_lift 102 = .ok (.dup, 1)) ∧ (decode cX6_lift 103 = .ok (.getfield 204, 3)) ∧ (decode cX6_lift 106 = .ok (.iconst 1, 1)) ∧ (decode cX6_lift 107 = .ok (.iadd, 1)) ∧ (decode cX6_lift 108 = .ok (.putfield 204, 3)) ∧ (decode cX6_lift 111 = .ok (.iinc 6 1, 3)) ∧ (decode cX6_lift 114 = .ok (.goto (-86), 3)) := by decide +kernel
theorem dX6_lift_85 : decode cX6_lift 85 = .ok (.iconst 1, 1) := bdX6_lift_85.1
theorem dX6_lift_86 : decode cX6_lift 86 = .ok (.invokevirtual 85, 3) := bdX6_lift_85.2.1
theorem dX6_lift_89 : decode cX6_lift 89 = .ok (.aload 5, 2) := bdX6_lift_85.2.2.1
theorem dX6_lift_91 : decode cX6_lift 91 = .ok (.dup, 1) := bdX6_lift_85.2.2.2.1
theorem dX6_lift_92 : decode cX6_lift 92 = .ok (.getfield 201, 3) := bdX6_lift_85.2.2.2.2.1
theorem dX6_lift_95 : decode cX6_lift 95 = .ok (.iconst 1, 1) := bdX6_lift_85.2.2.2.2.2.1
theorem dX6_lift_96 : decode cX6_lift 96 = .ok (.iadd, 1) := bdX6_lift_85.2.2.2.2.2.2.1
theorem dX6_lift_97 : decode cX6_lift 97 = .ok (.putfield 201, 3) := bdX6_lift_85.2.2.2.2.2.2.2.1
theorem dX6_lift_100 : decode cX6_lift 100 = .ok (.aload 5, 2) := bdX6_lift_85.2.2.2.2.2.2.2.2.1
theorem dX6_lift_102 : decode cX6_lift 102 = .ok (.dup, 1) := bdX6_lift_85.2.2.2.2.2.2.2.2.2.1
theorem dX6_lift_103 : decode cX6_lift 103 = .ok (.getfield 204, 3) := bdX6_lift_85.2.2.2.2.2.2.2.2.2.2.1
theorem dX6_lift_106 : decode cX6_lift 106 = .ok (.iconst 1, 1) := bdX6_lift_85.2.2.2.2.2.2.2.2.2.2.2.1
theorem dX6_lift_107 : decode cX6_lift 107 = .ok (.iadd, 1) := bdX6_lift_85.2.2.2.2.2.2.2.2.2.2.2.2.1
theorem dX6_lift_108 : decode cX6_lift 108 = .ok (.putfield 204, 3) := bdX6_lift_85.2.2.2.2.2.2.2.2.2.2.2.2.2.1
theorem dX6_lift_111 : decode cX6_lift 111 = .ok (.iinc 6 1, 3) := bdX6_lift_85.2.2.2.2.2.2.2.2.2.2.2.2.2.2.1
theorem dX6_lift_114 : decode cX6_lift 114 = .ok (.goto (-86), 3) := bdX6_lift_85.2.2.2.2.2.2.2.2.2.2.2.2.2.2.2
theorem dX6_lift_117 : decode cX6_lift 117 = .ok (.return_, 1) := by decide +kernel
theorem bdX10_walk_0 : (decode cX10_walk 0 = .ok (.iconst 0, 1)) ∧ (decode cX10_walk 1 = .ok (.istore_n 2, 1)) ∧ (decode cX10_walk 2 = .ok (.iconst 0, 1)) ∧ (decode cX10_walk 3 = .ok (.istore_n 3, 1)) ∧ (decode cX10_walk 4 = .ok (.iload_n 3, 1)) ∧ (decode cX10_walk 5 = .ok (.aload_n 0, 1)) ∧ (decode cX10_walk 6 = .ok (.getfield 31, 3)) ∧ (decode cX10_walk 9 = .ok (.if_icmp .ge 56, 3)) ∧ (decode cX10_walk 12 = .ok (.iload_n 3, 1)) ∧ (decode cX10_walk 13 = .ok (.aload_n 0, 1)) ∧ (decode cX10_walk 14 = .ok (.getfield 18, 3)) ∧ (decode cX10_walk 17 = .ok (.arraylength, 1)) ∧ (decode cX10_walk 18 = .ok (.if_icmp .ge 47, 3)) ∧ (decode cX10_walk 21 = .ok (.aload_n 0, 1)) ∧ (decode cX10_walk 22 = .ok (.getfield 18, 3)) ∧ (decode cX10_walk 25 = .ok (.iload_n 3, 1)) := by decide +kernel
theorem dX10_walk_0 : decode cX10_walk 0 = .ok (.iconst 0, 1) := bdX10_walk_0.1
theorem dX10_walk_1 : decode cX10_walk 1 = .ok (.istore_n 2, 1) := bdX10_walk_0.2.1
theorem dX10_walk_2 : decode cX10_walk 2 = .ok (.iconst 0, 1) := bdX10_walk_0.2.2.1
theorem dX10_walk_3 : decode cX10_walk 3 = .ok (.istore_n 3, 1) := bdX10_walk_0.2.2.2.1
theorem dX10_walk_4 : decode cX10_walk 4 = .ok (.iload_n 3, 1) := bdX10_walk_0.2.2.2.2.1
theorem dX10_walk_5 : decode cX10_walk 5 = .ok (.aload_n 0, 1) := bdX10_walk_0.2.2.2.2.2.1
theorem dX10_walk_6 : decode cX10_walk 6 = .ok (.getfield 31, 3) := bdX10_walk_0.2.2.2.2.2.2.1
theorem dX10_walk_9 : decode cX10_walk 9 = .ok (.if_icmp .ge 56, 3) := bdX10_walk_0.2.2.2.2.2.2.2.1
theorem dX10_walk_12 : decode cX10_walk 12 = .ok (.iload_n 3, 1) := bdX10_walk_0.2.2.2.2.2.2.2.2.1
theorem dX10_walk_13 : decode cX10_walk 13 = .ok (.aload_n 0, 1) := bdX10_walk_0.2.2.2.2.2.2.2.2.2.1
theorem dX10_walk_14 : decode cX10_walk 14 = .ok (.getfield 18, 3) := bdX10_walk_0.2.2.2.2.2.2.2.2.2.2.1
theorem dX10_walk_17 : decode cX10_walk 17 = .ok (.arraylength, 1) := bdX10_walk_0.2.2.2.2.2.2.2.2.2.2.2.1
theorem dX10_walk_18 : decode cX10_walk 18 = .ok (.if_icmp .ge 47, 3) := bdX10_walk_0.2.2.2.2.2.2.2.2.2.2.2.2.1
theorem dX10_walk_21 : decode cX10_walk 21 = .ok (.aload_n 0, 1) := bdX10_walk_0.2.2.2.2.2.2.2.2.2.2.2.2.2.1
theorem dX10_walk_22 : decode cX10_walk 22 = .ok (.getfield 18, 3) := bdX10_walk_0.2.2.2.2.2.2.2.2.2.2.2.2.2.2.1
theorem dX10_walk_25 : decode cX10_walk 25 = .ok (.iload_n 3, 1) := bdX10_walk_0.2.2.2.2.2.2.2.2.2.2.2.2.2.2.2
theorem bdX10_walk_26 : (decode cX10_walk 26 = .ok (.iaload, 1)) ∧ (decode cX10_walk 27 = .ok (.ifCond .ne 25, 3)) ∧ (decode cX10_walk 30 = .ok (.iconst 0, 1)) ∧ (decode cX10_walk 31 = .ok (.bipush 10, 2)) ∧ (decode cX10_walk 33 = .ok (.aload_n 0, 1)) ∧ (decode cX10_walk 34 = .ok (.iload_n 2, 1)) ∧ (decode cX10_walk 35 = .ok (.aload_n 0, 1)) ∧ (decode cX10_walk 36 = .ok (.getfield 21, 3)) ∧ (decode cX10_walk 39 = .ok (.iload_n 3, 1)) ∧ (decode cX10_walk 40 = .ok (.iaload, 1)) ∧ (decode cX10_walk 41 = .ok (.aload_n 1, 1)) ∧ (decode cX10_walk 42 = .ok (.invokevirtual 34, 3)) ∧ (decode cX10_walk 45 = .ok (.invokestatic 38, 3)) ∧ (decode cX10_walk 48 = .ok (.invokestatic 44, 3)) ∧ (decode cX10_walk 51 = .ok (.ireturn, 1)) ∧ (decode cX10_walk 52 = .ok (.aload_n 0, 1)) := by decide +kernel
theorem dX10_walk_26 : decode cX10_walk 26 = .ok (.iaload, 1) := bdX10_walk_26.1
theorem dX10_walk_27 : decode cX10_walk 27 = .ok (.ifCond .ne 25, 3) := bdX10_walk_26.2.1
theorem dX10_walk_30 : decode cX10_walk 30 = .ok (.iconst 0, 1) := bdX10_walk_26.2.2.1
theorem dX10_walk_31 : decode cX10_walk 31 = .ok (.bipush 10, 2) := bdX10_walk_26.2.2.2.1
theorem dX10_walk_33 : decode cX10_walk 33 = .ok (.aload_n 0, 1) := bdX10_walk_26.2.2.2.2.1
theorem dX10_walk_34 : decode cX10_walk 34 = .ok (.iload_n 2, 1) := bdX10_walk_26.2.2.2.2.2.1
theorem dX10_walk_35 : decode cX10_walk 35 = .ok (.aload_n 0, 1) := bdX10_walk_26.2.2.2.2.2.2.1
theorem dX10_walk_36 : decode cX10_walk 36 = .ok (.getfield 21, 3) := bdX10_walk_26.2.2.2.2.2.2.2.1
theorem dX10_walk_39 : decode cX10_walk 39 = .ok (.iload_n 3, 1) := bdX10_walk_26.2.2.2.2.2.2.2.2.1
theorem dX10_walk_40 : decode cX10_walk 40 = .ok (.iaload, 1) := bdX10_walk_26.2.2.2.2.2.2.2.2.2.1
theorem dX10_walk_41 : decode cX10_walk 41 = .ok (.aload_n 1, 1) := bdX10_walk_26.2.2.2.2.2.2.2.2.2.2.1
theorem dX10_walk_42 : decode cX10_walk 42 = .ok (.invokevirtual 34, 3) := bdX10_walk_26.2.2.2.2.2.2.2.2.2.2.2.1
theorem dX10_walk_45 : decode cX10_walk 45 = .ok (.invokestatic 38, 3) := bdX10_walk_26.2.2.2.2.2.2.2.2.2.2.2.2.1
theorem dX10_walk_48 : decode cX10_walk 48 = .ok (.invokestatic 44, 3) := bdX10_walk_26.2.2.2.2.2.2.2.2.2.2.2.2.2.1
theorem dX10_walk_51 : decode cX10_walk 51 = .ok (.ireturn, 1) := bdX10_walk_26.2.2.2.2.2.2.2.2.2.2.2.2.2.2.1
theorem dX10_walk_52 : decode cX10_walk 52 = .ok (.aload_n 0, 1) := bdX10_walk_26.2.2.2.2.2.2.2.2.2.2.2.2.2.2.2
theorem bdX10_walk_53 : (decode cX10_walk 53 = .ok (.getfield 21, 3)) ∧ (decode cX10_walk 56 = .ok (.iload_n 3, 1)) ∧ (decode cX10_walk 57 = .ok (.iaload, 1)) ∧ (decode cX10_walk 58 = .ok (.istore_n 2, 1)) ∧ (decode cX10_walk 59 = .ok (.iinc 3 1, 3)) ∧ (decode cX10_walk 62 = .ok (.goto (-58), 3)) ∧ (decode cX10_walk 65 = .ok (.iconst 4, 1)) ∧ (decode cX10_walk 66 = .ok (.ireturn, 1)) := by decide +kernel
theorem dX10_walk_53 : decode cX10_walk 53 = .ok (.getfield 21, 3) := bdX10_walk_53.1
theorem dX10_walk_56 : decode cX10_walk 56 = .ok (.iload_n 3, 1) := bdX10_walk_53.2.1
theorem dX10_walk_57 : decode cX10_walk 57 = .ok (.iaload, 1) := bdX10_walk_53.2.2.1
theorem dX10_walk_58 : decode cX10_walk 58 = .ok (.istore_n 2, 1) := bdX10_walk_53.2.2.2.1
theorem dX10_walk_59 : decode cX10_walk 59 = .ok (.iinc 3 1, 3) := bdX10_walk_53.2.2.2.2.1
theorem dX10_walk_62 : decode cX10_walk 62 = .ok (.goto (-58), 3) := bdX10_walk_53.2.2.2.2.2.1
theorem dX10_walk_65 : decode cX10_walk 65 = .ok (.iconst 4, 1) := bdX10_walk_53.2.2.2.2.2.2.1
theorem dX10_walk_66 : decode cX10_walk 66 = .ok (.ireturn, 1) := bdX10_walk_53.2.2.2.2.2.2.2
def fX8_lowestFirst_22 (a0 : Nat) (a1 : Nat) (a2 : Int32) (a3 : Int32) (a4 : Int32) (m : xMem) : Option (Int32 × xMem) := some ((-1 : Int32), m)
set_option maxRecDepth 4000 in
theorem fX8_lowestFirst_22_ok {a0 : Nat} {a1 : Nat} {a2 : Int32} {a3 : Int32} {a4 : Int32} {d : Nat} (hd : 2 ≤ d) (ha0 : isRoutes a0) (ha1 : isStation a1) {o5 : Option Value} {o6 : Option Value} {o7 : Option Value} {o8 : Option Value} {o9 : Option Value} {m : xMem} {r : (Int32 × xMem)} (q5 : xNoD o5 = true) (q6 : xNoD o6 = true) (q7 : xNoD o7 = true) (q8 : xNoD o8 = true) (q9 : xNoD o9 = true) (h : fX8_lowestFirst_22 a0 a1 a2 a3 a4 m = some r) : xFx hh_141 cX8_lowestFirst d 22 [some (.ref a0), some (.ref a1), some (.int a2), some (.int a3), some (.int a4), o5, o6, o7, o8, o9] [] (xLay m) 0 0 (some (.int r.1)) (xLay r.2) := by
  unfold fX8_lowestFirst_22 at h
  refine fx_iconst (x := -1) dX8_lowestFirst_22 rfl (by decide) ?_
  cases h
  exact fx_ireturn dX8_lowestFirst_23 rfl rfl
def fX8_lowestFirst_142 (a0 : Nat) (a1 : Nat) (a2 : Int32) (a3 : Int32) (a4 : Int32) (rec27 : Int32 → Int32 → xMem → Option (Int32 × xMem)) (l5 : Int32) (l6 : Int32) (m : xMem) : Option (Int32 × xMem) := xLet (l6 + (1 : Int32)) fun x1 => rec27 l5 x1 m
set_option maxRecDepth 4000 in
theorem fX8_lowestFirst_142_ok {a0 : Nat} {a1 : Nat} {a2 : Int32} {a3 : Int32} {a4 : Int32} {rec27 : Int32 → Int32 → xMem → Option (Int32 × xMem)} {d : Nat} (hd : 2 ≤ d) (ha0 : isRoutes a0) (ha1 : isStation a1) (hrec27 : ∀ (l5 : Int32) (l6 : Int32) (o7 : Option Value) (o8 : Option Value) (o9 : Option Value) (q7 : xNoD o7 = true) (q8 : xNoD o8 = true) (q9 : xNoD o9 = true) (m : xMem) (r : (Int32 × xMem)), rec27 l5 l6 m = some r → xFx hh_141 cX8_lowestFirst d 27 [some (.ref a0), some (.ref a1), some (.int a2), some (.int a3), some (.int a4), some (.int l5), some (.int l6), o7, o8, o9] [] (xLay m) 0 0 (some (.int r.1)) (xLay r.2)) {l5 : Int32} {l6 : Int32} {o7 : Option Value} {o8 : Option Value} {o9 : Option Value} {m : xMem} {r : (Int32 × xMem)} (q7 : xNoD o7 = true) (q8 : xNoD o8 = true) (q9 : xNoD o9 = true) (h : fX8_lowestFirst_142 a0 a1 a2 a3 a4 rec27 l5 l6 m = some r) : xFx hh_141 cX8_lowestFirst d 142 [some (.ref a0), some (.ref a1), some (.int a2), some (.int a3), some (.int a4), some (.int l5), some (.int l6), o7, o8, o9] [] (xLay m) 0 0 (some (.int r.1)) (xLay r.2) := by
  unfold fX8_lowestFirst_142 at h
  obtain ⟨x1, hx1, h⟩ := xLet_el h
  refine fx_iinc (ls2 := [some (.ref a0), some (.ref a1), some (.int a2), some (.int a3), some (.int a4), some (.int l5), some (.int x1), o7, o8, o9]) dX8_lowestFirst_142 rfl rfl rfl hx1 rfl ?_
  refine fx_goto (t := 27) dX8_lowestFirst_145 rfl rfl ?_
  exact hrec27 l5 x1 (o7) (o8) (o9) q7 q8 q9 m r h
def fX8_lowestFirst_124 (a0 : Nat) (a1 : Nat) (a2 : Int32) (a3 : Int32) (a4 : Int32) (rec27 : Int32 → Int32 → xMem → Option (Int32 × xMem)) (l5 : Int32) (l6 : Int32) (l7 : Nat) (s0 : Int32) (m : xMem) : Option (Int32 × xMem) := (fX3_seconds l7 m).bind fun p1 => xLet (p1.1 + s0) fun x2 => if ¬ x2 = l5 then fX8_lowestFirst_142 a0 a1 a2 a3 a4 rec27 l5 l6 p1.2 else some (l6, p1.2)
set_option maxRecDepth 4000 in
theorem fX8_lowestFirst_124_ok {a0 : Nat} {a1 : Nat} {a2 : Int32} {a3 : Int32} {a4 : Int32} {rec27 : Int32 → Int32 → xMem → Option (Int32 × xMem)} {d : Nat} (hd : 2 ≤ d) (ha0 : isRoutes a0) (ha1 : isStation a1) (hrec27 : ∀ (l5 : Int32) (l6 : Int32) (o7 : Option Value) (o8 : Option Value) (o9 : Option Value) (q7 : xNoD o7 = true) (q8 : xNoD o8 = true) (q9 : xNoD o9 = true) (m : xMem) (r : (Int32 × xMem)), rec27 l5 l6 m = some r → xFx hh_141 cX8_lowestFirst d 27 [some (.ref a0), some (.ref a1), some (.int a2), some (.int a3), some (.int a4), some (.int l5), some (.int l6), o7, o8, o9] [] (xLay m) 0 0 (some (.int r.1)) (xLay r.2)) {l5 : Int32} {l6 : Int32} {l7 : Nat} {s0 : Int32} {o8 : Option Value} {o9 : Option Value} {m : xMem} {r : (Int32 × xMem)} (hl7 : isLink l7) (q8 : xNoD o8 = true) (q9 : xNoD o9 = true) (h : fX8_lowestFirst_124 a0 a1 a2 a3 a4 rec27 l5 l6 l7 s0 m = some r) : xFx hh_141 cX8_lowestFirst d 124 [some (.ref a0), some (.ref a1), some (.int a2), some (.int a3), some (.int a4), some (.int l5), some (.int l6), some (.ref l7), o8, o9] [.int s0] (xLay m) 0 0 (some (.int r.1)) (xLay r.2) := by
  unfold fX8_lowestFirst_124 at h
  refine fx_istore (ls2 := [some (.ref a0), some (.ref a1), some (.int a2), some (.int a3), some (.int a4), some (.int l5), some (.int l6), some (.ref l7), o8, some (.int s0)]) dX8_lowestFirst_124 rfl (xGd (j := 8) rfl rfl q8 rfl) rfl ?_
  refine fx_aload dX8_lowestFirst_126 rfl rfl ?_
  obtain ⟨p1, ep1, h⟩ := xBind_el h
  refine gx_callv (as := []) (r := []) rfl dX8_lowestFirst_128 ca_8_61 rfl me_138 rfl rfl rfl rfl (hl7.1) rfl (fX3_seconds_ok (d := d) (by omega) hl7 ep1) rfl rfl ?_
  refine fx_iload dX8_lowestFirst_131 rfl rfl ?_
  obtain ⟨x2, hx2, h⟩ := xLet_el h
  refine fx_iadd dX8_lowestFirst_133 rfl hx2 ?_
  refine fx_iload dX8_lowestFirst_134 rfl rfl ?_
  refine fx_icmp_ne (t := 142) dX8_lowestFirst_136 rfl rfl (fun hc3 => ?_) (fun hc3 => ?_)
  · rw [if_pos hc3] at h
    exact fX8_lowestFirst_142_ok (o7 := some (.ref l7)) (o8 := o8) (o9 := some (.int s0)) hd ha0 ha1 hrec27 rfl q8 rfl h
  · rw [if_neg hc3] at h
    refine fx_iload dX8_lowestFirst_139 rfl rfl ?_
    cases h
    exact fx_ireturn dX8_lowestFirst_141 rfl rfl
def fX8_lowestFirst_103 (a0 : Nat) (a1 : Nat) (a2 : Int32) (a3 : Int32) (a4 : Int32) (rec27 : Int32 → Int32 → xMem → Option (Int32 × xMem)) (l5 : Int32) (l6 : Int32) (l7 : Nat) (s0 : Int32) (m : xMem) : Option (Int32 × xMem) := if ¬ s0 = a4 then (fX8_between a0 s0 a4 m).bind fun p2 => fX8_lowestFirst_124 a0 a1 a2 a3 a4 rec27 l5 l6 l7 p2.1 p2.2 else fX8_lowestFirst_124 a0 a1 a2 a3 a4 rec27 l5 l6 l7 (0 : Int32) m
set_option maxRecDepth 4000 in
theorem fX8_lowestFirst_103_ok {a0 : Nat} {a1 : Nat} {a2 : Int32} {a3 : Int32} {a4 : Int32} {rec27 : Int32 → Int32 → xMem → Option (Int32 × xMem)} {d : Nat} (hd : 2 ≤ d) (ha0 : isRoutes a0) (ha1 : isStation a1) (hrec27 : ∀ (l5 : Int32) (l6 : Int32) (o7 : Option Value) (o8 : Option Value) (o9 : Option Value) (q7 : xNoD o7 = true) (q8 : xNoD o8 = true) (q9 : xNoD o9 = true) (m : xMem) (r : (Int32 × xMem)), rec27 l5 l6 m = some r → xFx hh_141 cX8_lowestFirst d 27 [some (.ref a0), some (.ref a1), some (.int a2), some (.int a3), some (.int a4), some (.int l5), some (.int l6), o7, o8, o9] [] (xLay m) 0 0 (some (.int r.1)) (xLay r.2)) {l5 : Int32} {l6 : Int32} {l7 : Nat} {s0 : Int32} {o8 : Option Value} {o9 : Option Value} {m : xMem} {r : (Int32 × xMem)} (hl7 : isLink l7) (q8 : xNoD o8 = true) (q9 : xNoD o9 = true) (h : fX8_lowestFirst_103 a0 a1 a2 a3 a4 rec27 l5 l6 l7 s0 m = some r) : xFx hh_141 cX8_lowestFirst d 103 [some (.ref a0), some (.ref a1), some (.int a2), some (.int a3), some (.int a4), some (.int l5), some (.int l6), some (.ref l7), o8, o9] [.int s0] (xLay m) 0 0 (some (.int r.1)) (xLay r.2) := by
  unfold fX8_lowestFirst_103 at h
  refine fx_istore (ls2 := [some (.ref a0), some (.ref a1), some (.int a2), some (.int a3), some (.int a4), some (.int l5), some (.int l6), some (.ref l7), some (.int s0), o9]) dX8_lowestFirst_103 rfl rfl rfl ?_
  refine fx_iload dX8_lowestFirst_105 rfl rfl ?_
  refine fx_iload dX8_lowestFirst_107 rfl rfl ?_
  refine fx_icmp_ne (t := 116) dX8_lowestFirst_109 rfl rfl (fun hc1 => ?_) (fun hc1 => ?_)
  · rw [if_pos hc1] at h
    refine fx_aload_n dX8_lowestFirst_116 rfl rfl ?_
    refine fx_iload dX8_lowestFirst_117 rfl rfl ?_
    refine fx_iload dX8_lowestFirst_119 rfl rfl ?_
    obtain ⟨p2, ep2, h⟩ := xBind_el h
    refine gx_callv (as := [.int s0, .int a4]) (r := []) rfl dX8_lowestFirst_121 ca_8_69 rfl me_140 rfl rfl rfl rfl (ha0.1) rfl (fX8_between_ok (d := d) (by omega) ha0 ep2) rfl rfl ?_
    exact fX8_lowestFirst_124_ok (o8 := some (.int s0)) (o9 := o9) hd ha0 ha1 hrec27 hl7 rfl q9 h
  · rw [if_neg hc1] at h
    refine fx_iconst (x := 0) dX8_lowestFirst_112 rfl (by decide) ?_
    refine fx_goto (t := 124) dX8_lowestFirst_113 rfl rfl ?_
    exact fX8_lowestFirst_124_ok (o8 := some (.int s0)) (o9 := o9) hd ha0 ha1 hrec27 hl7 rfl q9 h
def fX8_lowestFirst_70 (a0 : Nat) (a1 : Nat) (a2 : Int32) (a3 : Int32) (a4 : Int32) (rec27 : Int32 → Int32 → xMem → Option (Int32 × xMem)) (l5 : Int32) (l6 : Int32) (l7 : Nat) (m : xMem) : Option (Int32 × xMem) := (fX8_leads a0 l7 a2 a3 m).bind fun p1 => if p1.1 = (0 : Int32) then fX8_lowestFirst_142 a0 a1 a2 a3 a4 rec27 l5 l6 p1.2 else xLet (p1.2.1 l7 2) fun x3 => if ¬ x3 = a3 then xLet (p1.2.1 l7 2) fun x5 => fX8_lowestFirst_103 a0 a1 a2 a3 a4 rec27 l5 l6 l7 x5 p1.2 else xLet (p1.2.1 l7 3) fun x6 => fX8_lowestFirst_103 a0 a1 a2 a3 a4 rec27 l5 l6 l7 x6 p1.2
set_option maxRecDepth 4000 in
theorem fX8_lowestFirst_70_ok {a0 : Nat} {a1 : Nat} {a2 : Int32} {a3 : Int32} {a4 : Int32} {rec27 : Int32 → Int32 → xMem → Option (Int32 × xMem)} {d : Nat} (hd : 2 ≤ d) (ha0 : isRoutes a0) (ha1 : isStation a1) (hrec27 : ∀ (l5 : Int32) (l6 : Int32) (o7 : Option Value) (o8 : Option Value) (o9 : Option Value) (q7 : xNoD o7 = true) (q8 : xNoD o8 = true) (q9 : xNoD o9 = true) (m : xMem) (r : (Int32 × xMem)), rec27 l5 l6 m = some r → xFx hh_141 cX8_lowestFirst d 27 [some (.ref a0), some (.ref a1), some (.int a2), some (.int a3), some (.int a4), some (.int l5), some (.int l6), o7, o8, o9] [] (xLay m) 0 0 (some (.int r.1)) (xLay r.2)) {l5 : Int32} {l6 : Int32} {l7 : Nat} {o8 : Option Value} {o9 : Option Value} {m : xMem} {r : (Int32 × xMem)} (hl7 : isLink l7) (q8 : xNoD o8 = true) (q9 : xNoD o9 = true) (h : fX8_lowestFirst_70 a0 a1 a2 a3 a4 rec27 l5 l6 l7 m = some r) : xFx hh_141 cX8_lowestFirst d 70 [some (.ref a0), some (.ref a1), some (.int a2), some (.int a3), some (.int a4), some (.int l5), some (.int l6), some (.ref l7), o8, o9] [] (xLay m) 0 0 (some (.int r.1)) (xLay r.2) := by
  unfold fX8_lowestFirst_70 at h
  refine fx_aload_n dX8_lowestFirst_70 rfl rfl ?_
  refine fx_aload dX8_lowestFirst_71 rfl rfl ?_
  refine fx_iload_n dX8_lowestFirst_73 rfl rfl ?_
  refine fx_iload_n dX8_lowestFirst_74 rfl rfl ?_
  obtain ⟨p1, ep1, h⟩ := xBind_el h
  refine gx_callv (as := [.ref l7, .int a2, .int a3]) (r := []) rfl dX8_lowestFirst_75 ca_8_54 rfl me_136 rfl rfl rfl rfl (ha0.1) rfl (fX8_leads_ok (d := d) (by omega) ha0 hl7 ep1) rfl rfl ?_
  refine fx_if_eq (t := 142) dX8_lowestFirst_78 rfl rfl (fun hc2 => ?_) (fun hc2 => ?_)
  · rw [if_pos hc2] at h
    exact fX8_lowestFirst_142_ok (o7 := some (.ref l7)) (o8 := o8) (o9 := o9) hd ha0 ha1 hrec27 rfl q8 q9 h
  · rw [if_neg hc2] at h
    refine fx_aload dX8_lowestFirst_81 rfl rfl ?_
    obtain ⟨x3, hx3, h⟩ := xLet_el h
    refine gx_get dX8_lowestFirst_83 rfl fd_8_51 hl7.1 rfl rfl hx3 ?_
    refine fx_iload_n dX8_lowestFirst_86 rfl rfl ?_
    refine fx_icmp_ne (t := 98) dX8_lowestFirst_87 rfl rfl (fun hc4 => ?_) (fun hc4 => ?_)
    · rw [if_pos hc4] at h
      refine fx_aload dX8_lowestFirst_98 rfl rfl ?_
      obtain ⟨x5, hx5, h⟩ := xLet_el h
      refine gx_get dX8_lowestFirst_100 rfl fd_8_51 hl7.1 rfl rfl hx5 ?_
      exact fX8_lowestFirst_103_ok (o8 := o8) (o9 := o9) hd ha0 ha1 hrec27 hl7 q8 q9 h
    · rw [if_neg hc4] at h
      refine fx_aload dX8_lowestFirst_90 rfl rfl ?_
      obtain ⟨x6, hx6, h⟩ := xLet_el h
      refine gx_get dX8_lowestFirst_92 rfl fd_8_58 hl7.1 rfl rfl hx6 ?_
      refine fx_goto (t := 103) dX8_lowestFirst_95 rfl rfl ?_
      exact fX8_lowestFirst_103_ok (o8 := o8) (o9 := o9) hd ha0 ha1 hrec27 hl7 q8 q9 h
def fX8_lowestFirst_148 (a0 : Nat) (a1 : Nat) (a2 : Int32) (a3 : Int32) (a4 : Int32) (m : xMem) : Option (Int32 × xMem) := some ((-1 : Int32), m)
set_option maxRecDepth 4000 in
theorem fX8_lowestFirst_148_ok {a0 : Nat} {a1 : Nat} {a2 : Int32} {a3 : Int32} {a4 : Int32} {d : Nat} (hd : 2 ≤ d) (ha0 : isRoutes a0) (ha1 : isStation a1) {o5 : Option Value} {o6 : Option Value} {o7 : Option Value} {o8 : Option Value} {o9 : Option Value} {m : xMem} {r : (Int32 × xMem)} (q5 : xNoD o5 = true) (q6 : xNoD o6 = true) (q7 : xNoD o7 = true) (q8 : xNoD o8 = true) (q9 : xNoD o9 = true) (h : fX8_lowestFirst_148 a0 a1 a2 a3 a4 m = some r) : xFx hh_141 cX8_lowestFirst d 148 [some (.ref a0), some (.ref a1), some (.int a2), some (.int a3), some (.int a4), o5, o6, o7, o8, o9] [] (xLay m) 0 0 (some (.int r.1)) (xLay r.2) := by
  unfold fX8_lowestFirst_148 at h
  refine fx_iconst (x := -1) dX8_lowestFirst_148 rfl (by decide) ?_
  cases h
  exact fx_ireturn dX8_lowestFirst_149 rfl rfl
def fX8_lowestFirst_27 (a0 : Nat) (a1 : Nat) (a2 : Int32) (a3 : Int32) (a4 : Int32) : Nat → Int32 → Int32 → xMem → Option (Int32 × xMem)
  | 0, _, _, _ => none
  | fuel + 1, l5, l6, m => xLet (m.1 a1 8) fun x1 => if x1 ≤ l6 then fX8_lowestFirst_148 a0 a1 a2 a3 a4 m else if (10 : Int32) ≤ l6 then fX8_lowestFirst_148 a0 a1 a2 a3 a4 m else bif xIn l6 10 then xLet (a1 + 33 + 2 * l6.toNatClampNeg) fun r5 => xLet (m.1 r5 2) fun x6 => if x6 = a3 then fX8_lowestFirst_70 a0 a1 a2 a3 a4 (fX8_lowestFirst_27 a0 a1 a2 a3 a4 fuel) l5 l6 r5 m else xLet (m.1 r5 3) fun x8 => if ¬ x8 = a3 then fX8_lowestFirst_142 a0 a1 a2 a3 a4 (fX8_lowestFirst_27 a0 a1 a2 a3 a4 fuel) l5 l6 m else fX8_lowestFirst_70 a0 a1 a2 a3 a4 (fX8_lowestFirst_27 a0 a1 a2 a3 a4 fuel) l5 l6 r5 m else none
set_option maxRecDepth 4000 in
theorem fX8_lowestFirst_27_ok {a0 : Nat} {a1 : Nat} {a2 : Int32} {a3 : Int32} {a4 : Int32} {d : Nat} (hd : 2 ≤ d) (ha0 : isRoutes a0) (ha1 : isStation a1) : ∀ (fuel : Nat) (l5 : Int32) (l6 : Int32) (o7 : Option Value) (o8 : Option Value) (o9 : Option Value) (q7 : xNoD o7 = true) (q8 : xNoD o8 = true) (q9 : xNoD o9 = true) (m : xMem) (r : (Int32 × xMem)), fX8_lowestFirst_27 a0 a1 a2 a3 a4 fuel l5 l6 m = some r → xFx hh_141 cX8_lowestFirst d 27 [some (.ref a0), some (.ref a1), some (.int a2), some (.int a3), some (.int a4), some (.int l5), some (.int l6), o7, o8, o9] [] (xLay m) 0 0 (some (.int r.1)) (xLay r.2) := by
  intro fuel
  induction fuel with
  | zero => intro l5 l6 o7 o8 o9 q7 q8 q9 m r  h; cases h
  | succ fuel ih =>
    intro l5 l6 o7 o8 o9 q7 q8 q9 m r  h
    unfold fX8_lowestFirst_27 at h
    refine fx_iload dX8_lowestFirst_27 rfl rfl ?_
    refine fx_aload_n dX8_lowestFirst_29 rfl rfl ?_
    obtain ⟨x1, hx1, h⟩ := xLet_el h
    refine gx_get dX8_lowestFirst_30 rfl fd_8_22 ha1.1 rfl rfl hx1 ?_
    refine fx_icmp_ge (t := 148) dX8_lowestFirst_33 rfl rfl (fun hc2 => ?_) (fun hc2 => ?_)
    · rw [if_pos hc2] at h
      exact fX8_lowestFirst_148_ok (o5 := some (.int l5)) (o6 := some (.int l6)) (o7 := o7) (o8 := o8) (o9 := o9) hd ha0 ha1 rfl rfl q7 q8 q9 h
    · rw [if_neg hc2] at h
      refine fx_iload dX8_lowestFirst_36 rfl rfl ?_
      refine fx_bipush (x := 10) dX8_lowestFirst_38 rfl (by decide) ?_
      refine fx_icmp_ge (t := 148) dX8_lowestFirst_40 rfl rfl (fun hc3 => ?_) (fun hc3 => ?_)
      · rw [if_pos hc3] at h
        exact fX8_lowestFirst_148_ok (o5 := some (.int l5)) (o6 := some (.int l6)) (o7 := o7) (o8 := o8) (o9 := o9) hd ha0 ha1 rfl rfl q7 q8 q9 h
      · rw [if_neg hc3] at h
        refine fx_aload_n dX8_lowestFirst_43 rfl rfl ?_
        refine gx_getr dX8_lowestFirst_44 rfl fd_8_27 ha1.1 rfl rfl ?_
        refine fx_iload dX8_lowestFirst_47 rfl rfl ?_
        obtain ⟨hj4, h⟩ := xChk_el h
        obtain ⟨r5, hr5, h⟩ := xLet_el h
        refine gx_aaload (t := 5) dX8_lowestFirst_49 rfl ha1.2.2.1 rfl hj4 ((xRef_at (sl_9_1 a1) hj4).trans (congrArg some hr5)) ?_
        have hpr5 : isLink r5 := by rw [← hr5]; exact ha1.2.2.2.2.2.2.2.2.1 _ (xIn_lt hj4)
        refine fx_astore (ls2 := [some (.ref a0), some (.ref a1), some (.int a2), some (.int a3), some (.int a4), some (.int l5), some (.int l6), some (.ref r5), o8, o9]) dX8_lowestFirst_50 rfl rfl rfl ?_
        refine fx_aload dX8_lowestFirst_52 rfl rfl ?_
        obtain ⟨x6, hx6, h⟩ := xLet_el h
        refine gx_get dX8_lowestFirst_54 rfl fd_8_51 hpr5.1 rfl rfl hx6 ?_
        refine fx_iload_n dX8_lowestFirst_57 rfl rfl ?_
        refine fx_icmp_eq (t := 70) dX8_lowestFirst_58 rfl rfl (fun hc7 => ?_) (fun hc7 => ?_)
        · rw [if_pos hc7] at h
          exact fX8_lowestFirst_70_ok (o8 := o8) (o9 := o9) hd ha0 ha1 ih hpr5 q8 q9 h
        · rw [if_neg hc7] at h
          refine fx_aload dX8_lowestFirst_61 rfl rfl ?_
          obtain ⟨x8, hx8, h⟩ := xLet_el h
          refine gx_get dX8_lowestFirst_63 rfl fd_8_58 hpr5.1 rfl rfl hx8 ?_
          refine fx_iload_n dX8_lowestFirst_66 rfl rfl ?_
          refine fx_icmp_ne (t := 142) dX8_lowestFirst_67 rfl rfl (fun hc9 => ?_) (fun hc9 => ?_)
          · rw [if_pos hc9] at h
            exact fX8_lowestFirst_142_ok (o7 := some (.ref r5)) (o8 := o8) (o9 := o9) hd ha0 ha1 ih rfl q8 q9 h
          · rw [if_neg hc9] at h
            exact fX8_lowestFirst_70_ok (o8 := o8) (o9 := o9) hd ha0 ha1 ih hpr5 q8 q9 h
def fX8_lowestFirst_0 (a0 : Nat) (a1 : Nat) (a2 : Int32) (a3 : Int32) (a4 : Int32) (m : xMem) : Option (Int32 × xMem) := (fX8_between a0 a3 a4 m).bind fun p1 => if a3 = a4 then fX8_lowestFirst_22 a0 a1 a2 a3 a4 p1.2 else if p1.1 < (1000000 : Int32) then fX8_lowestFirst_27 a0 a1 a2 a3 a4 xFuel p1.1 (0 : Int32) p1.2 else fX8_lowestFirst_22 a0 a1 a2 a3 a4 p1.2
set_option maxRecDepth 4000 in
theorem fX8_lowestFirst_0_ok {a0 : Nat} {a1 : Nat} {a2 : Int32} {a3 : Int32} {a4 : Int32} {d : Nat} (hd : 2 ≤ d) (ha0 : isRoutes a0) (ha1 : isStation a1) {o5 : Option Value} {o6 : Option Value} {o7 : Option Value} {o8 : Option Value} {o9 : Option Value} {m : xMem} {r : (Int32 × xMem)} (q5 : xNoD o5 = true) (q6 : xNoD o6 = true) (q7 : xNoD o7 = true) (q8 : xNoD o8 = true) (q9 : xNoD o9 = true) (h : fX8_lowestFirst_0 a0 a1 a2 a3 a4 m = some r) : xFx hh_141 cX8_lowestFirst d 0 [some (.ref a0), some (.ref a1), some (.int a2), some (.int a3), some (.int a4), o5, o6, o7, o8, o9] [] (xLay m) 0 0 (some (.int r.1)) (xLay r.2) := by
  unfold fX8_lowestFirst_0 at h
  refine fx_aload_n dX8_lowestFirst_0 rfl rfl ?_
  refine fx_iload_n dX8_lowestFirst_1 rfl rfl ?_
  refine fx_iload dX8_lowestFirst_2 rfl rfl ?_
  obtain ⟨p1, ep1, h⟩ := xBind_el h
  refine gx_callv (as := [.int a3, .int a4]) (r := []) rfl dX8_lowestFirst_4 ca_8_69 rfl me_140 rfl rfl rfl rfl (ha0.1) rfl (fX8_between_ok (d := d) (by omega) ha0 ep1) rfl rfl ?_
  refine fx_istore (ls2 := [some (.ref a0), some (.ref a1), some (.int a2), some (.int a3), some (.int a4), some (.int p1.1), o6, o7, o8, o9]) dX8_lowestFirst_7 rfl rfl rfl ?_
  refine fx_iload_n dX8_lowestFirst_9 rfl rfl ?_
  refine fx_iload dX8_lowestFirst_10 rfl rfl ?_
  refine fx_icmp_eq (t := 22) dX8_lowestFirst_12 rfl rfl (fun hc2 => ?_) (fun hc2 => ?_)
  · rw [if_pos hc2] at h
    exact fX8_lowestFirst_22_ok (o5 := some (.int p1.1)) (o6 := o6) (o7 := o7) (o8 := o8) (o9 := o9) hd ha0 ha1 rfl q6 q7 q8 q9 h
  · rw [if_neg hc2] at h
    refine fx_iload dX8_lowestFirst_15 rfl rfl ?_
    refine fx_ldc dX8_lowestFirst_17 rfl ck_8_44 ?_
    refine fx_icmp_lt (t := 24) dX8_lowestFirst_19 rfl rfl (fun hc3 => ?_) (fun hc3 => ?_)
    · rw [if_pos hc3] at h
      refine fx_iconst (x := 0) dX8_lowestFirst_24 rfl (by decide) ?_
      refine fx_istore (ls2 := [some (.ref a0), some (.ref a1), some (.int a2), some (.int a3), some (.int a4), some (.int p1.1), some (.int (0 : Int32)), o7, o8, o9]) dX8_lowestFirst_25 rfl rfl rfl ?_
      exact fX8_lowestFirst_27_ok hd ha0 ha1 xFuel p1.1 (0 : Int32) (o7) (o8) (o9) q7 q8 q9 p1.2 r h
    · rw [if_neg hc3] at h
      exact fX8_lowestFirst_22_ok (o5 := some (.int p1.1)) (o6 := o6) (o7 := o7) (o8 := o8) (o9 := o9) hd ha0 ha1 rfl q6 q7 q8 q9 h
def fX8_lowestFirst (a0 : Nat) (a1 : Nat) (a2 : Int32) (a3 : Int32) (a4 : Int32) (m : xMem) : Option (Int32 × xMem) := fX8_lowestFirst_0 a0 a1 a2 a3 a4  m
theorem fX8_lowestFirst_ok {a0 : Nat} {a1 : Nat} {a2 : Int32} {a3 : Int32} {a4 : Int32} {m : xMem} {r : (Int32 × xMem)} {d : Nat} (hd : 3 ≤ d) (ha0 : isRoutes a0) (ha1 : isStation a1) (h : fX8_lowestFirst a0 a1 a2 a3 a4 m = some r) : xEx d 141 [.ref a0, .ref a1, .int a2, .int a3, .int a4] (xLay m) (some (.int r.1)) (xLay r.2) := by
  obtain ⟨d, rfl⟩ : ∃ q, d = q + 1 := ⟨d - 1, by omega⟩
  exact xEx_of me_141 rfl (fX8_lowestFirst_0_ok (d := d) (o5 := none) (o6 := none) (o7 := none) (o8 := none) (o9 := none) (by omega) ha0 ha1 rfl rfl rfl rfl rfl h)
def fX8_findFor_101 (a0 : Nat) (a1 : Nat) (a2 : Int32) (rec11 : Int32 → xMem → Option xMem) (l3 : Int32) (m : xMem) : Option xMem := xLet (l3 + (1 : Int32)) fun x1 => rec11 x1 m
set_option maxRecDepth 4000 in
theorem fX8_findFor_101_ok {a0 : Nat} {a1 : Nat} {a2 : Int32} {rec11 : Int32 → xMem → Option xMem} {d : Nat} (hd : 3 ≤ d) (ha0 : isRoutes a0) (ha1 : isStation a1) (hrec11 : ∀ (l3 : Int32) (o4 : Option Value) (o5 : Option Value) (q4 : xNoD o4 = true) (q5 : xNoD o5 = true) (m : xMem) (r : xMem), rec11 l3 m = some r → xFx hh_135 cX8_findFor d 11 [some (.ref a0), some (.ref a1), some (.int a2), some (.int l3), o4, o5] [] (xLay m) 0 0 none (xLay r)) {l3 : Int32} {o4 : Option Value} {o5 : Option Value} {m : xMem} {r : xMem} (q4 : xNoD o4 = true) (q5 : xNoD o5 = true) (h : fX8_findFor_101 a0 a1 a2 rec11 l3 m = some r) : xFx hh_135 cX8_findFor d 101 [some (.ref a0), some (.ref a1), some (.int a2), some (.int l3), o4, o5] [] (xLay m) 0 0 none (xLay r) := by
  unfold fX8_findFor_101 at h
  obtain ⟨x1, hx1, h⟩ := xLet_el h
  refine fx_iinc (ls2 := [some (.ref a0), some (.ref a1), some (.int a2), some (.int x1), o4, o5]) dX8_findFor_101 rfl rfl rfl hx1 rfl ?_
  refine fx_goto (t := 11) dX8_findFor_104 rfl rfl ?_
  exact hrec11 x1 (o4) (o5) q4 q5 m r h
def fX8_findFor_67 (a0 : Nat) (a1 : Nat) (a2 : Int32) (rec11 : Int32 → xMem → Option xMem) (l3 : Int32) (l4 : Nat) (m : xMem) : Option xMem := xLet (m.1 l4 3) fun x1 => (fX8_leads a0 l4 a2 x1 m).bind fun p2 => if p2.1 = (0 : Int32) then fX8_findFor_101 a0 a1 a2 rec11 l3 p2.2 else xLet (p2.2.1 l4 3) fun x4 => xLet (p2.2.1 l4 2) fun x5 => (fX3_seconds l4 p2.2).bind fun p6 => (fX8_shorten a0 x4 x5 p6.1 p6.2).bind fun p7 => fX8_findFor_101 a0 a1 a2 rec11 l3 p7
set_option maxRecDepth 4000 in
theorem fX8_findFor_67_ok {a0 : Nat} {a1 : Nat} {a2 : Int32} {rec11 : Int32 → xMem → Option xMem} {d : Nat} (hd : 3 ≤ d) (ha0 : isRoutes a0) (ha1 : isStation a1) (hrec11 : ∀ (l3 : Int32) (o4 : Option Value) (o5 : Option Value) (q4 : xNoD o4 = true) (q5 : xNoD o5 = true) (m : xMem) (r : xMem), rec11 l3 m = some r → xFx hh_135 cX8_findFor d 11 [some (.ref a0), some (.ref a1), some (.int a2), some (.int l3), o4, o5] [] (xLay m) 0 0 none (xLay r)) {l3 : Int32} {l4 : Nat} {o5 : Option Value} {m : xMem} {r : xMem} (hl4 : isLink l4) (q5 : xNoD o5 = true) (h : fX8_findFor_67 a0 a1 a2 rec11 l3 l4 m = some r) : xFx hh_135 cX8_findFor d 67 [some (.ref a0), some (.ref a1), some (.int a2), some (.int l3), some (.ref l4), o5] [] (xLay m) 0 0 none (xLay r) := by
  unfold fX8_findFor_67 at h
  refine fx_aload_n dX8_findFor_67 rfl rfl ?_
  refine fx_aload dX8_findFor_68 rfl rfl ?_
  refine fx_iload_n dX8_findFor_70 rfl rfl ?_
  refine fx_aload dX8_findFor_71 rfl rfl ?_
  obtain ⟨x1, hx1, h⟩ := xLet_el h
  refine gx_get dX8_findFor_73 rfl fd_8_58 hl4.1 rfl rfl hx1 ?_
  obtain ⟨p2, ep2, h⟩ := xBind_el h
  refine gx_callv (as := [.ref l4, .int a2, .int x1]) (r := []) rfl dX8_findFor_76 ca_8_54 rfl me_136 rfl rfl rfl rfl (ha0.1) rfl (fX8_leads_ok (d := d) (by omega) ha0 hl4 ep2) rfl rfl ?_
  refine fx_if_eq (t := 101) dX8_findFor_79 rfl rfl (fun hc3 => ?_) (fun hc3 => ?_)
  · rw [if_pos hc3] at h
    exact fX8_findFor_101_ok (o4 := some (.ref l4)) (o5 := o5) hd ha0 ha1 hrec11 rfl q5 h
  · rw [if_neg hc3] at h
    refine fx_aload_n dX8_findFor_82 rfl rfl ?_
    refine fx_aload dX8_findFor_83 rfl rfl ?_
    obtain ⟨x4, hx4, h⟩ := xLet_el h
    refine gx_get dX8_findFor_85 rfl fd_8_58 hl4.1 rfl rfl hx4 ?_
    refine fx_aload dX8_findFor_88 rfl rfl ?_
    obtain ⟨x5, hx5, h⟩ := xLet_el h
    refine gx_get dX8_findFor_90 rfl fd_8_51 hl4.1 rfl rfl hx5 ?_
    refine fx_aload dX8_findFor_93 rfl rfl ?_
    obtain ⟨p6, ep6, h⟩ := xBind_el h
    refine gx_callv (as := []) (r := [.int x5, .int x4, .ref a0]) rfl dX8_findFor_95 ca_8_61 rfl me_138 rfl rfl rfl rfl (hl4.1) rfl (fX3_seconds_ok (d := d) (by omega) hl4 ep6) rfl rfl ?_
    obtain ⟨p7, ep7, h⟩ := xBind_el h
    refine gx_callv (as := [.int x4, .int x5, .int p6.1]) (r := []) rfl dX8_findFor_98 ca_8_65 rfl me_139 rfl rfl rfl rfl (ha0.1) rfl (fX8_shorten_ok (d := d) (by omega) ha0 ep7) rfl rfl ?_
    exact fX8_findFor_101_ok (o4 := some (.ref l4)) (o5 := o5) hd ha0 ha1 hrec11 rfl q5 h
def fX8_findFor_128 (a0 : Nat) (a1 : Nat) (a2 : Int32) (rec109 : Int32 → xMem → Option xMem) (rec118 : Int32 → Int32 → xMem → Option xMem) : Nat → Int32 → Int32 → Int32 → xMem → Option xMem
  | 0, _, _, _, _ => none
  | fuel + 1, l3, l4, l5, m => if (6 : Int32) ≤ l5 then xLet (l4 + (1 : Int32)) fun x2 => rec118 l3 x2 m else (fX8_between a0 l4 l3 m).bind fun p3 => (fX8_between a0 l3 l5 p3.2).bind fun p4 => xLet (p3.1 + p4.1) fun x5 => (fX8_shorten a0 l4 l5 x5 p4.2).bind fun p6 => xLet (l5 + (1 : Int32)) fun x7 => fX8_findFor_128 a0 a1 a2 rec109 rec118 fuel l3 l4 x7 p6
set_option maxRecDepth 4000 in
theorem fX8_findFor_128_ok {a0 : Nat} {a1 : Nat} {a2 : Int32} {rec109 : Int32 → xMem → Option xMem} {rec118 : Int32 → Int32 → xMem → Option xMem} {d : Nat} (hd : 3 ≤ d) (ha0 : isRoutes a0) (ha1 : isStation a1) (hrec109 : ∀ (l3 : Int32) (o4 : Option Value) (o5 : Option Value) (q4 : xNoD o4 = true) (q5 : xNoD o5 = true) (m : xMem) (r : xMem), rec109 l3 m = some r → xFx hh_135 cX8_findFor d 109 [some (.ref a0), some (.ref a1), some (.int a2), some (.int l3), o4, o5] [] (xLay m) 0 0 none (xLay r)) (hrec118 : ∀ (l3 : Int32) (l4 : Int32) (o5 : Option Value) (q5 : xNoD o5 = true) (m : xMem) (r : xMem), rec118 l3 l4 m = some r → xFx hh_135 cX8_findFor d 118 [some (.ref a0), some (.ref a1), some (.int a2), some (.int l3), some (.int l4), o5] [] (xLay m) 0 0 none (xLay r)) : ∀ (fuel : Nat) (l3 : Int32) (l4 : Int32) (l5 : Int32) (m : xMem) (r : xMem), fX8_findFor_128 a0 a1 a2 rec109 rec118 fuel l3 l4 l5 m = some r → xFx hh_135 cX8_findFor d 128 [some (.ref a0), some (.ref a1), some (.int a2), some (.int l3), some (.int l4), some (.int l5)] [] (xLay m) 0 0 none (xLay r) := by
  intro fuel
  induction fuel with
  | zero => intro l3 l4 l5  m r  h; cases h
  | succ fuel ih =>
    intro l3 l4 l5  m r  h
    unfold fX8_findFor_128 at h
    refine fx_iload dX8_findFor_128 rfl rfl ?_
    refine fx_bipush (x := 6) dX8_findFor_130 rfl (by decide) ?_
    refine fx_icmp_ge (t := 164) dX8_findFor_132 rfl rfl (fun hc1 => ?_) (fun hc1 => ?_)
    · rw [if_pos hc1] at h
      obtain ⟨x2, hx2, h⟩ := xLet_el h
      refine fx_iinc (ls2 := [some (.ref a0), some (.ref a1), some (.int a2), some (.int l3), some (.int x2), some (.int l5)]) dX8_findFor_164 rfl rfl rfl hx2 rfl ?_
      refine fx_goto (t := 118) dX8_findFor_167 rfl rfl ?_
      exact hrec118 l3 x2 (some (.int l5)) rfl m r h
    · rw [if_neg hc1] at h
      refine fx_aload_n dX8_findFor_135 rfl rfl ?_
      refine fx_iload dX8_findFor_136 rfl rfl ?_
      refine fx_iload dX8_findFor_138 rfl rfl ?_
      refine fx_aload_n dX8_findFor_140 rfl rfl ?_
      refine fx_iload dX8_findFor_141 rfl rfl ?_
      refine fx_iload_n dX8_findFor_143 rfl rfl ?_
      obtain ⟨p3, ep3, h⟩ := xBind_el h
      refine gx_callv (as := [.int l4, .int l3]) (r := [.int l5, .int l4, .ref a0]) rfl dX8_findFor_144 ca_8_69 rfl me_140 rfl rfl rfl rfl (ha0.1) rfl (fX8_between_ok (d := d) (by omega) ha0 ep3) rfl rfl ?_
      refine fx_aload_n dX8_findFor_147 rfl rfl ?_
      refine fx_iload_n dX8_findFor_148 rfl rfl ?_
      refine fx_iload dX8_findFor_149 rfl rfl ?_
      obtain ⟨p4, ep4, h⟩ := xBind_el h
      refine gx_callv (as := [.int l3, .int l5]) (r := [.int p3.1, .int l5, .int l4, .ref a0]) rfl dX8_findFor_151 ca_8_69 rfl me_140 rfl rfl rfl rfl (ha0.1) rfl (fX8_between_ok (d := d) (by omega) ha0 ep4) rfl rfl ?_
      obtain ⟨x5, hx5, h⟩ := xLet_el h
      refine fx_iadd dX8_findFor_154 rfl hx5 ?_
      obtain ⟨p6, ep6, h⟩ := xBind_el h
      refine gx_callv (as := [.int l4, .int l5, .int x5]) (r := []) rfl dX8_findFor_155 ca_8_65 rfl me_139 rfl rfl rfl rfl (ha0.1) rfl (fX8_shorten_ok (d := d) (by omega) ha0 ep6) rfl rfl ?_
      obtain ⟨x7, hx7, h⟩ := xLet_el h
      refine fx_iinc (ls2 := [some (.ref a0), some (.ref a1), some (.int a2), some (.int l3), some (.int l4), some (.int x7)]) dX8_findFor_158 rfl rfl rfl hx7 rfl ?_
      refine fx_goto (t := 128) dX8_findFor_161 rfl rfl ?_
      exact ih l3 l4 x7 p6 r h
def fX8_findFor_118 (a0 : Nat) (a1 : Nat) (a2 : Int32) (rec109 : Int32 → xMem → Option xMem) : Nat → Int32 → Int32 → xMem → Option xMem
  | 0, _, _, _ => none
  | fuel + 1, l3, l4, m => if (6 : Int32) ≤ l4 then xLet (l3 + (1 : Int32)) fun x2 => rec109 x2 m else fX8_findFor_128 a0 a1 a2 rec109 (fX8_findFor_118 a0 a1 a2 rec109 fuel) xFuel l3 l4 (0 : Int32) m
set_option maxRecDepth 4000 in
theorem fX8_findFor_118_ok {a0 : Nat} {a1 : Nat} {a2 : Int32} {rec109 : Int32 → xMem → Option xMem} {d : Nat} (hd : 3 ≤ d) (ha0 : isRoutes a0) (ha1 : isStation a1) (hrec109 : ∀ (l3 : Int32) (o4 : Option Value) (o5 : Option Value) (q4 : xNoD o4 = true) (q5 : xNoD o5 = true) (m : xMem) (r : xMem), rec109 l3 m = some r → xFx hh_135 cX8_findFor d 109 [some (.ref a0), some (.ref a1), some (.int a2), some (.int l3), o4, o5] [] (xLay m) 0 0 none (xLay r)) : ∀ (fuel : Nat) (l3 : Int32) (l4 : Int32) (o5 : Option Value) (q5 : xNoD o5 = true) (m : xMem) (r : xMem), fX8_findFor_118 a0 a1 a2 rec109 fuel l3 l4 m = some r → xFx hh_135 cX8_findFor d 118 [some (.ref a0), some (.ref a1), some (.int a2), some (.int l3), some (.int l4), o5] [] (xLay m) 0 0 none (xLay r) := by
  intro fuel
  induction fuel with
  | zero => intro l3 l4 o5 q5 m r  h; cases h
  | succ fuel ih =>
    intro l3 l4 o5 q5 m r  h
    unfold fX8_findFor_118 at h
    refine fx_iload dX8_findFor_118 rfl rfl ?_
    refine fx_bipush (x := 6) dX8_findFor_120 rfl (by decide) ?_
    refine fx_icmp_ge (t := 170) dX8_findFor_122 rfl rfl (fun hc1 => ?_) (fun hc1 => ?_)
    · rw [if_pos hc1] at h
      obtain ⟨x2, hx2, h⟩ := xLet_el h
      refine fx_iinc (ls2 := [some (.ref a0), some (.ref a1), some (.int a2), some (.int x2), some (.int l4), o5]) dX8_findFor_170 rfl rfl rfl hx2 rfl ?_
      refine fx_goto (t := 109) dX8_findFor_173 rfl rfl ?_
      exact hrec109 x2 (some (.int l4)) (o5) rfl q5 m r h
    · rw [if_neg hc1] at h
      refine fx_iconst (x := 0) dX8_findFor_125 rfl (by decide) ?_
      refine fx_istore (ls2 := [some (.ref a0), some (.ref a1), some (.int a2), some (.int l3), some (.int l4), some (.int (0 : Int32))]) dX8_findFor_126 rfl rfl rfl ?_
      exact fX8_findFor_128_ok hd ha0 ha1 hrec109 ih xFuel l3 l4 (0 : Int32) m r h
def fX8_findFor_187 (a0 : Nat) (a1 : Nat) (a2 : Int32) (rec178 : Int32 → xMem → Option xMem) : Nat → Int32 → Int32 → xMem → Option xMem
  | 0, _, _, _ => none
  | fuel + 1, l3, l4, m => if (6 : Int32) ≤ l4 then xLet (l3 + (1 : Int32)) fun x2 => rec178 x2 m else xLet (a2 * (36 : Int32)) fun x3 => xLet (l3 * (6 : Int32)) fun x4 => xLet (x3 + x4) fun x5 => xLet (x5 + l4) fun x6 => (fX8_lowestFirst a0 a1 a2 l3 l4 m).bind fun p7 => bif xIn x6 72 then xLet (xPut p7.2 (a0 + 1) x6.toNatClampNeg p7.1) fun m8 => xLet (l4 + (1 : Int32)) fun x10 => fX8_findFor_187 a0 a1 a2 rec178 fuel l3 x10 m8 else none
set_option maxRecDepth 4000 in
theorem fX8_findFor_187_ok {a0 : Nat} {a1 : Nat} {a2 : Int32} {rec178 : Int32 → xMem → Option xMem} {d : Nat} (hd : 3 ≤ d) (ha0 : isRoutes a0) (ha1 : isStation a1) (hrec178 : ∀ (l3 : Int32) (o4 : Option Value) (o5 : Option Value) (q4 : xNoD o4 = true) (q5 : xNoD o5 = true) (m : xMem) (r : xMem), rec178 l3 m = some r → xFx hh_135 cX8_findFor d 178 [some (.ref a0), some (.ref a1), some (.int a2), some (.int l3), o4, o5] [] (xLay m) 0 0 none (xLay r)) : ∀ (fuel : Nat) (l3 : Int32) (l4 : Int32) (o5 : Option Value) (q5 : xNoD o5 = true) (m : xMem) (r : xMem), fX8_findFor_187 a0 a1 a2 rec178 fuel l3 l4 m = some r → xFx hh_135 cX8_findFor d 187 [some (.ref a0), some (.ref a1), some (.int a2), some (.int l3), some (.int l4), o5] [] (xLay m) 0 0 none (xLay r) := by
  intro fuel
  induction fuel with
  | zero => intro l3 l4 o5 q5 m r  h; cases h
  | succ fuel ih =>
    intro l3 l4 o5 q5 m r  h
    unfold fX8_findFor_187 at h
    refine fx_iload dX8_findFor_187 rfl rfl ?_
    refine fx_bipush (x := 6) dX8_findFor_189 rfl (by decide) ?_
    refine fx_icmp_ge (t := 226) dX8_findFor_191 rfl rfl (fun hc1 => ?_) (fun hc1 => ?_)
    · rw [if_pos hc1] at h
      obtain ⟨x2, hx2, h⟩ := xLet_el h
      refine fx_iinc (ls2 := [some (.ref a0), some (.ref a1), some (.int a2), some (.int x2), some (.int l4), o5]) dX8_findFor_226 rfl rfl rfl hx2 rfl ?_
      refine fx_goto (t := 178) dX8_findFor_229 rfl rfl ?_
      exact hrec178 x2 (some (.int l4)) (o5) rfl q5 m r h
    · rw [if_neg hc1] at h
      refine fx_aload_n dX8_findFor_194 rfl rfl ?_
      refine gx_getr dX8_findFor_195 rfl fd_8_11 ha0.1 rfl rfl ?_
      refine fx_iload_n dX8_findFor_198 rfl rfl ?_
      refine fx_bipush (x := 36) dX8_findFor_199 rfl (by decide) ?_
      obtain ⟨x3, hx3, h⟩ := xLet_el h
      refine fx_imul dX8_findFor_201 rfl hx3 ?_
      refine fx_iload_n dX8_findFor_202 rfl rfl ?_
      refine fx_bipush (x := 6) dX8_findFor_203 rfl (by decide) ?_
      obtain ⟨x4, hx4, h⟩ := xLet_el h
      refine fx_imul dX8_findFor_205 rfl hx4 ?_
      obtain ⟨x5, hx5, h⟩ := xLet_el h
      refine fx_iadd dX8_findFor_206 rfl hx5 ?_
      refine fx_iload dX8_findFor_207 rfl rfl ?_
      obtain ⟨x6, hx6, h⟩ := xLet_el h
      refine fx_iadd dX8_findFor_209 rfl hx6 ?_
      refine fx_aload_n dX8_findFor_210 rfl rfl ?_
      refine fx_aload_n dX8_findFor_211 rfl rfl ?_
      refine fx_iload_n dX8_findFor_212 rfl rfl ?_
      refine fx_iload_n dX8_findFor_213 rfl rfl ?_
      refine fx_iload dX8_findFor_214 rfl rfl ?_
      obtain ⟨p7, ep7, h⟩ := xBind_el h
      refine gx_callv (as := [.ref a1, .int a2, .int l3, .int l4]) (r := [.int x6, .ref (a0 + 1)]) rfl dX8_findFor_216 ca_8_73 rfl me_141 rfl rfl rfl rfl (ha0.1) rfl (fX8_lowestFirst_ok (d := d) (by omega) ha0 ha1 ep7) rfl rfl ?_
      obtain ⟨hj9, h⟩ := xChk_el h
      obtain ⟨m8, hm8, h⟩ := xLet_el h
      refine gx_iastore dX8_findFor_219 rfl ha0.2.1 hj9 hm8 ?_
      obtain ⟨x10, hx10, h⟩ := xLet_el h
      refine fx_iinc (ls2 := [some (.ref a0), some (.ref a1), some (.int a2), some (.int l3), some (.int x10), o5]) dX8_findFor_220 rfl rfl rfl hx10 rfl ?_
      refine fx_goto (t := 187) dX8_findFor_223 rfl rfl ?_
      exact ih l3 x10 (o5) q5 m8 r h
def fX8_findFor_178 (a0 : Nat) (a1 : Nat) (a2 : Int32) : Nat → Int32 → xMem → Option xMem
  | 0, _, _ => none
  | fuel + 1, l3, m => if (6 : Int32) ≤ l3 then some m else fX8_findFor_187 a0 a1 a2 (fX8_findFor_178 a0 a1 a2 fuel) xFuel l3 (0 : Int32) m
set_option maxRecDepth 4000 in
theorem fX8_findFor_178_ok {a0 : Nat} {a1 : Nat} {a2 : Int32} {d : Nat} (hd : 3 ≤ d) (ha0 : isRoutes a0) (ha1 : isStation a1) : ∀ (fuel : Nat) (l3 : Int32) (o4 : Option Value) (o5 : Option Value) (q4 : xNoD o4 = true) (q5 : xNoD o5 = true) (m : xMem) (r : xMem), fX8_findFor_178 a0 a1 a2 fuel l3 m = some r → xFx hh_135 cX8_findFor d 178 [some (.ref a0), some (.ref a1), some (.int a2), some (.int l3), o4, o5] [] (xLay m) 0 0 none (xLay r) := by
  intro fuel
  induction fuel with
  | zero => intro l3 o4 o5 q4 q5 m r  h; cases h
  | succ fuel ih =>
    intro l3 o4 o5 q4 q5 m r  h
    unfold fX8_findFor_178 at h
    refine fx_iload_n dX8_findFor_178 rfl rfl ?_
    refine fx_bipush (x := 6) dX8_findFor_179 rfl (by decide) ?_
    refine fx_icmp_ge (t := 232) dX8_findFor_181 rfl rfl (fun hc1 => ?_) (fun hc1 => ?_)
    · rw [if_pos hc1] at h
      cases h
      exact fx_return dX8_findFor_232 rfl rfl
    · rw [if_neg hc1] at h
      refine fx_iconst (x := 0) dX8_findFor_184 rfl (by decide) ?_
      refine fx_istore (ls2 := [some (.ref a0), some (.ref a1), some (.int a2), some (.int l3), some (.int (0 : Int32)), o5]) dX8_findFor_185 rfl rfl rfl ?_
      exact fX8_findFor_187_ok hd ha0 ha1 ih xFuel l3 (0 : Int32) (o5) q5 m r h
def fX8_findFor_109 (a0 : Nat) (a1 : Nat) (a2 : Int32) : Nat → Int32 → xMem → Option xMem
  | 0, _, _ => none
  | fuel + 1, l3, m => if (6 : Int32) ≤ l3 then fX8_findFor_178 a0 a1 a2 xFuel (0 : Int32) m else fX8_findFor_118 a0 a1 a2 (fX8_findFor_109 a0 a1 a2 fuel) xFuel l3 (0 : Int32) m
set_option maxRecDepth 4000 in
theorem fX8_findFor_109_ok {a0 : Nat} {a1 : Nat} {a2 : Int32} {d : Nat} (hd : 3 ≤ d) (ha0 : isRoutes a0) (ha1 : isStation a1) : ∀ (fuel : Nat) (l3 : Int32) (o4 : Option Value) (o5 : Option Value) (q4 : xNoD o4 = true) (q5 : xNoD o5 = true) (m : xMem) (r : xMem), fX8_findFor_109 a0 a1 a2 fuel l3 m = some r → xFx hh_135 cX8_findFor d 109 [some (.ref a0), some (.ref a1), some (.int a2), some (.int l3), o4, o5] [] (xLay m) 0 0 none (xLay r) := by
  intro fuel
  induction fuel with
  | zero => intro l3 o4 o5 q4 q5 m r  h; cases h
  | succ fuel ih =>
    intro l3 o4 o5 q4 q5 m r  h
    unfold fX8_findFor_109 at h
    refine fx_iload_n dX8_findFor_109 rfl rfl ?_
    refine fx_bipush (x := 6) dX8_findFor_110 rfl (by decide) ?_
    refine fx_icmp_ge (t := 176) dX8_findFor_112 rfl rfl (fun hc1 => ?_) (fun hc1 => ?_)
    · rw [if_pos hc1] at h
      refine fx_iconst (x := 0) dX8_findFor_176 rfl (by decide) ?_
      refine fx_istore_n (ls2 := [some (.ref a0), some (.ref a1), some (.int a2), some (.int (0 : Int32)), o4, o5]) dX8_findFor_177 rfl rfl rfl ?_
      exact fX8_findFor_178_ok hd ha0 ha1 xFuel (0 : Int32) (o4) (o5) q4 q5 m r h
    · rw [if_neg hc1] at h
      refine fx_iconst (x := 0) dX8_findFor_115 rfl (by decide) ?_
      refine fx_istore (ls2 := [some (.ref a0), some (.ref a1), some (.int a2), some (.int l3), some (.int (0 : Int32)), o5]) dX8_findFor_116 rfl rfl rfl ?_
      exact fX8_findFor_118_ok hd ha0 ha1 ih xFuel l3 (0 : Int32) (o5) q5 m r h
def fX8_findFor_107 (a0 : Nat) (a1 : Nat) (a2 : Int32) (m : xMem) : Option xMem := fX8_findFor_109 a0 a1 a2 xFuel (0 : Int32) m
set_option maxRecDepth 4000 in
theorem fX8_findFor_107_ok {a0 : Nat} {a1 : Nat} {a2 : Int32} {d : Nat} (hd : 3 ≤ d) (ha0 : isRoutes a0) (ha1 : isStation a1) {o3 : Option Value} {o4 : Option Value} {o5 : Option Value} {m : xMem} {r : xMem} (q3 : xNoD o3 = true) (q4 : xNoD o4 = true) (q5 : xNoD o5 = true) (h : fX8_findFor_107 a0 a1 a2 m = some r) : xFx hh_135 cX8_findFor d 107 [some (.ref a0), some (.ref a1), some (.int a2), o3, o4, o5] [] (xLay m) 0 0 none (xLay r) := by
  unfold fX8_findFor_107 at h
  refine fx_iconst (x := 0) dX8_findFor_107 rfl (by decide) ?_
  refine fx_istore_n (ls2 := [some (.ref a0), some (.ref a1), some (.int a2), some (.int (0 : Int32)), o4, o5]) dX8_findFor_108 rfl rfl rfl ?_
  exact fX8_findFor_109_ok hd ha0 ha1 xFuel (0 : Int32) (o4) (o5) q4 q5 m r h
def fX8_findFor_11 (a0 : Nat) (a1 : Nat) (a2 : Int32) : Nat → Int32 → xMem → Option xMem
  | 0, _, _ => none
  | fuel + 1, l3, m => xLet (m.1 a1 8) fun x1 => if x1 ≤ l3 then fX8_findFor_107 a0 a1 a2 m else if (10 : Int32) ≤ l3 then fX8_findFor_107 a0 a1 a2 m else bif xIn l3 10 then xLet (a1 + 33 + 2 * l3.toNatClampNeg) fun r5 => xLet (m.1 r5 2) fun x6 => (fX8_leads a0 r5 a2 x6 m).bind fun p7 => if p7.1 = (0 : Int32) then fX8_findFor_67 a0 a1 a2 (fX8_findFor_11 a0 a1 a2 fuel) l3 r5 p7.2 else xLet (p7.2.1 r5 2) fun x9 => xLet (p7.2.1 r5 3) fun x10 => (fX3_seconds r5 p7.2).bind fun p11 => (fX8_shorten a0 x9 x10 p11.1 p11.2).bind fun p12 => fX8_findFor_67 a0 a1 a2 (fX8_findFor_11 a0 a1 a2 fuel) l3 r5 p12 else none
set_option maxRecDepth 4000 in
theorem fX8_findFor_11_ok {a0 : Nat} {a1 : Nat} {a2 : Int32} {d : Nat} (hd : 3 ≤ d) (ha0 : isRoutes a0) (ha1 : isStation a1) : ∀ (fuel : Nat) (l3 : Int32) (o4 : Option Value) (o5 : Option Value) (q4 : xNoD o4 = true) (q5 : xNoD o5 = true) (m : xMem) (r : xMem), fX8_findFor_11 a0 a1 a2 fuel l3 m = some r → xFx hh_135 cX8_findFor d 11 [some (.ref a0), some (.ref a1), some (.int a2), some (.int l3), o4, o5] [] (xLay m) 0 0 none (xLay r) := by
  intro fuel
  induction fuel with
  | zero => intro l3 o4 o5 q4 q5 m r  h; cases h
  | succ fuel ih =>
    intro l3 o4 o5 q4 q5 m r  h
    unfold fX8_findFor_11 at h
    refine fx_iload_n dX8_findFor_11 rfl rfl ?_
    refine fx_aload_n dX8_findFor_12 rfl rfl ?_
    obtain ⟨x1, hx1, h⟩ := xLet_el h
    refine gx_get dX8_findFor_13 rfl fd_8_22 ha1.1 rfl rfl hx1 ?_
    refine fx_icmp_ge (t := 107) dX8_findFor_16 rfl rfl (fun hc2 => ?_) (fun hc2 => ?_)
    · rw [if_pos hc2] at h
      exact fX8_findFor_107_ok (o3 := some (.int l3)) (o4 := o4) (o5 := o5) hd ha0 ha1 rfl q4 q5 h
    · rw [if_neg hc2] at h
      refine fx_iload_n dX8_findFor_19 rfl rfl ?_
      refine fx_bipush (x := 10) dX8_findFor_20 rfl (by decide) ?_
      refine fx_icmp_ge (t := 107) dX8_findFor_22 rfl rfl (fun hc3 => ?_) (fun hc3 => ?_)
      · rw [if_pos hc3] at h
        exact fX8_findFor_107_ok (o3 := some (.int l3)) (o4 := o4) (o5 := o5) hd ha0 ha1 rfl q4 q5 h
      · rw [if_neg hc3] at h
        refine fx_aload_n dX8_findFor_25 rfl rfl ?_
        refine gx_getr dX8_findFor_26 rfl fd_8_27 ha1.1 rfl rfl ?_
        refine fx_iload_n dX8_findFor_29 rfl rfl ?_
        obtain ⟨hj4, h⟩ := xChk_el h
        obtain ⟨r5, hr5, h⟩ := xLet_el h
        refine gx_aaload (t := 5) dX8_findFor_30 rfl ha1.2.2.1 rfl hj4 ((xRef_at (sl_9_1 a1) hj4).trans (congrArg some hr5)) ?_
        have hpr5 : isLink r5 := by rw [← hr5]; exact ha1.2.2.2.2.2.2.2.2.1 _ (xIn_lt hj4)
        refine fx_astore (ls2 := [some (.ref a0), some (.ref a1), some (.int a2), some (.int l3), some (.ref r5), o5]) dX8_findFor_31 rfl rfl rfl ?_
        refine fx_aload_n dX8_findFor_33 rfl rfl ?_
        refine fx_aload dX8_findFor_34 rfl rfl ?_
        refine fx_iload_n dX8_findFor_36 rfl rfl ?_
        refine fx_aload dX8_findFor_37 rfl rfl ?_
        obtain ⟨x6, hx6, h⟩ := xLet_el h
        refine gx_get dX8_findFor_39 rfl fd_8_51 hpr5.1 rfl rfl hx6 ?_
        obtain ⟨p7, ep7, h⟩ := xBind_el h
        refine gx_callv (as := [.ref r5, .int a2, .int x6]) (r := []) rfl dX8_findFor_42 ca_8_54 rfl me_136 rfl rfl rfl rfl (ha0.1) rfl (fX8_leads_ok (d := d) (by omega) ha0 hpr5 ep7) rfl rfl ?_
        refine fx_if_eq (t := 67) dX8_findFor_45 rfl rfl (fun hc8 => ?_) (fun hc8 => ?_)
        · rw [if_pos hc8] at h
          exact fX8_findFor_67_ok (o5 := o5) hd ha0 ha1 ih hpr5 q5 h
        · rw [if_neg hc8] at h
          refine fx_aload_n dX8_findFor_48 rfl rfl ?_
          refine fx_aload dX8_findFor_49 rfl rfl ?_
          obtain ⟨x9, hx9, h⟩ := xLet_el h
          refine gx_get dX8_findFor_51 rfl fd_8_51 hpr5.1 rfl rfl hx9 ?_
          refine fx_aload dX8_findFor_54 rfl rfl ?_
          obtain ⟨x10, hx10, h⟩ := xLet_el h
          refine gx_get dX8_findFor_56 rfl fd_8_58 hpr5.1 rfl rfl hx10 ?_
          refine fx_aload dX8_findFor_59 rfl rfl ?_
          obtain ⟨p11, ep11, h⟩ := xBind_el h
          refine gx_callv (as := []) (r := [.int x10, .int x9, .ref a0]) rfl dX8_findFor_61 ca_8_61 rfl me_138 rfl rfl rfl rfl (hpr5.1) rfl (fX3_seconds_ok (d := d) (by omega) hpr5 ep11) rfl rfl ?_
          obtain ⟨p12, ep12, h⟩ := xBind_el h
          refine gx_callv (as := [.int x9, .int x10, .int p11.1]) (r := []) rfl dX8_findFor_64 ca_8_65 rfl me_139 rfl rfl rfl rfl (ha0.1) rfl (fX8_shorten_ok (d := d) (by omega) ha0 ep12) rfl rfl ?_
          exact fX8_findFor_67_ok (o5 := o5) hd ha0 ha1 ih hpr5 q5 h
def fX8_findFor_0 (a0 : Nat) (a1 : Nat) (a2 : Int32) (m : xMem) : Option xMem := (fJ7_fill_53178 (a0 + 2) 36 (1000000 : Int32) m).bind fun p1 => fX8_findFor_11 a0 a1 a2 xFuel (0 : Int32) p1
set_option maxRecDepth 4000 in
theorem fX8_findFor_0_ok {a0 : Nat} {a1 : Nat} {a2 : Int32} {d : Nat} (hd : 3 ≤ d) (ha0 : isRoutes a0) (ha1 : isStation a1) {o3 : Option Value} {o4 : Option Value} {o5 : Option Value} {m : xMem} {r : xMem} (q3 : xNoD o3 = true) (q4 : xNoD o4 = true) (q5 : xNoD o5 = true) (h : fX8_findFor_0 a0 a1 a2 m = some r) : xFx hh_135 cX8_findFor d 0 [some (.ref a0), some (.ref a1), some (.int a2), o3, o4, o5] [] (xLay m) 0 0 none (xLay r) := by
  unfold fX8_findFor_0 at h
  refine fx_aload_n dX8_findFor_0 rfl rfl ?_
  refine gx_getr dX8_findFor_1 rfl fd_8_15 ha0.1 rfl rfl ?_
  refine fx_ldc dX8_findFor_4 rfl ck_8_44 ?_
  obtain ⟨p1, ep1, h⟩ := xBind_el h
  refine gx_calls (as := [.ref (a0 + 2), .int (1000000 : Int32)]) (r := []) rfl dX8_findFor_6 ca_8_45 rfl me_16 rfl rfl rfl rfl (fJ7_fill_53178_ok (d := d) (by omega) ha0.2.2 ep1) rfl rfl ?_
  refine fx_iconst (x := 0) dX8_findFor_9 rfl (by decide) ?_
  refine fx_istore_n (ls2 := [some (.ref a0), some (.ref a1), some (.int a2), some (.int (0 : Int32)), o4, o5]) dX8_findFor_10 rfl rfl rfl ?_
  exact fX8_findFor_11_ok hd ha0 ha1 xFuel (0 : Int32) (o4) (o5) q4 q5 p1 r h
def fX8_findFor (a0 : Nat) (a1 : Nat) (a2 : Int32) (m : xMem) : Option xMem := fX8_findFor_0 a0 a1 a2  m
theorem fX8_findFor_ok {a0 : Nat} {a1 : Nat} {a2 : Int32} {m : xMem} {r : xMem} {d : Nat} (hd : 4 ≤ d) (ha0 : isRoutes a0) (ha1 : isStation a1) (h : fX8_findFor a0 a1 a2 m = some r) : xEx d 135 [.ref a0, .ref a1, .int a2] (xLay m) none (xLay r) := by
  obtain ⟨d, rfl⟩ : ∃ q, d = q + 1 := ⟨d - 1, by omega⟩
  exact xEx_of me_135 rfl (fX8_findFor_0_ok (d := d) (o3 := none) (o4 := none) (o5 := none) (by omega) ha0 ha1 rfl rfl rfl h)
def fX8_find_48 (a0 : Nat) (a1 : Nat) (rec4 : Int32 → Int32 → xMem → Option xMem) (l3 : Int32) (s0 : Int32) (s1 : Int32) (m : xMem) : Option xMem := xLet (s0 ||| s1) fun x1 => xLet (l3 + (1 : Int32)) fun x2 => rec4 x1 x2 m
set_option maxRecDepth 4000 in
theorem fX8_find_48_ok {a0 : Nat} {a1 : Nat} {rec4 : Int32 → Int32 → xMem → Option xMem} {d : Nat} (hd : 4 ≤ d) (ha0 : isRoutes a0) (ha1 : isStation a1) (hrec4 : ∀ (l2 : Int32) (l3 : Int32) (o4 : Option Value) (q4 : xNoD o4 = true) (m : xMem) (r : xMem), rec4 l2 l3 m = some r → xFx hh_133 cX8_find d 4 [some (.ref a0), some (.ref a1), some (.int l2), some (.int l3), o4] [] (xLay m) 0 0 none (xLay r)) {l3 : Int32} {s0 : Int32} {s1 : Int32} {o2 : Option Value} {o4 : Option Value} {m : xMem} {r : xMem} (q2 : xNoD o2 = true) (q4 : xNoD o4 = true) (h : fX8_find_48 a0 a1 rec4 l3 s0 s1 m = some r) : xFx hh_133 cX8_find d 48 [some (.ref a0), some (.ref a1), o2, some (.int l3), o4] [.int s1, .int s0] (xLay m) 0 0 none (xLay r) := by
  unfold fX8_find_48 at h
  obtain ⟨x1, hx1, h⟩ := xLet_el h
  refine fx_ior dX8_find_48 rfl hx1 ?_
  refine fx_istore_n (ls2 := [some (.ref a0), some (.ref a1), some (.int x1), some (.int l3), o4]) dX8_find_49 rfl rfl rfl ?_
  obtain ⟨x2, hx2, h⟩ := xLet_el h
  refine fx_iinc (ls2 := [some (.ref a0), some (.ref a1), some (.int x1), some (.int x2), o4]) dX8_find_50 rfl rfl rfl hx2 rfl ?_
  refine fx_goto (t := 4) dX8_find_53 rfl rfl ?_
  exact hrec4 x1 x2 (o4) q4 m r h
def fX8_find_56 (a0 : Nat) (a1 : Nat) (l2 : Int32) (m : xMem) : Option xMem := xLet (m.1 a0 2) fun x1 => if ¬ l2 = x1 then xLet (xPut m a0 2 l2) fun m3 => (fX8_findFor a0 a1 (0 : Int32) m3).bind fun p4 => (fX8_findFor a0 a1 (1 : Int32) p4).bind fun p5 => some p5 else some m
set_option maxRecDepth 4000 in
theorem fX8_find_56_ok {a0 : Nat} {a1 : Nat} {d : Nat} (hd : 4 ≤ d) (ha0 : isRoutes a0) (ha1 : isStation a1) {l2 : Int32} {o3 : Option Value} {o4 : Option Value} {m : xMem} {r : xMem} (q3 : xNoD o3 = true) (q4 : xNoD o4 = true) (h : fX8_find_56 a0 a1 l2 m = some r) : xFx hh_133 cX8_find d 56 [some (.ref a0), some (.ref a1), some (.int l2), o3, o4] [] (xLay m) 0 0 none (xLay r) := by
  unfold fX8_find_56 at h
  refine fx_iload_n dX8_find_56 rfl rfl ?_
  refine fx_aload_n dX8_find_57 rfl rfl ?_
  obtain ⟨x1, hx1, h⟩ := xLet_el h
  refine gx_get dX8_find_58 rfl fd_8_18 ha0.1 rfl rfl hx1 ?_
  refine fx_icmp_ne (t := 65) dX8_find_61 rfl rfl (fun hc2 => ?_) (fun hc2 => ?_)
  · rw [if_pos hc2] at h
    refine fx_aload_n dX8_find_65 rfl rfl ?_
    refine fx_iload_n dX8_find_66 rfl rfl ?_
    obtain ⟨m3, hm3, h⟩ := xLet_el h
    refine gx_put dX8_find_67 rfl fd_8_18 ha0.1 rfl rfl rfl hm3 ?_
    refine fx_aload_n dX8_find_70 rfl rfl ?_
    refine fx_aload_n dX8_find_71 rfl rfl ?_
    refine fx_iconst (x := 0) dX8_find_72 rfl (by decide) ?_
    obtain ⟨p4, ep4, h⟩ := xBind_el h
    refine gx_callv (as := [.ref a1, .int (0 : Int32)]) (r := []) rfl dX8_find_73 ca_8_40 rfl me_135 rfl rfl rfl rfl (ha0.1) rfl (fX8_findFor_ok (d := d) (by omega) ha0 ha1 ep4) rfl rfl ?_
    refine fx_aload_n dX8_find_76 rfl rfl ?_
    refine fx_aload_n dX8_find_77 rfl rfl ?_
    refine fx_iconst (x := 1) dX8_find_78 rfl (by decide) ?_
    obtain ⟨p5, ep5, h⟩ := xBind_el h
    refine gx_callv (as := [.ref a1, .int (1 : Int32)]) (r := []) rfl dX8_find_79 ca_8_40 rfl me_135 rfl rfl rfl rfl (ha0.1) rfl (fX8_findFor_ok (d := d) (by omega) ha0 ha1 ep5) rfl rfl ?_
    cases h
    exact fx_return dX8_find_82 rfl rfl
  · rw [if_neg hc2] at h
    cases h
    exact fx_return dX8_find_64 rfl rfl
def fX8_find_4 (a0 : Nat) (a1 : Nat) : Nat → Int32 → Int32 → xMem → Option xMem
  | 0, _, _, _ => none
  | fuel + 1, l2, l3, m => xLet (m.1 a1 8) fun x1 => if x1 ≤ l3 then fX8_find_56 a0 a1 l2 m else if (10 : Int32) ≤ l3 then fX8_find_56 a0 a1 l2 m else bif xIn l3 10 then xLet (a1 + 33 + 2 * l3.toNatClampNeg) fun r5 => xLet (l2 <<< ((2 : Int32) &&& 31)) fun x6 => (fX3_takesNow r5 m).bind fun p7 => if p7.1 = (0 : Int32) then fX8_find_48 a0 a1 (fX8_find_4 a0 a1 fuel) l3 x6 (0 : Int32) p7.2 else xLet (p7.2.1 r5 6) fun x9 => xLet (x9 + (1 : Int32)) fun x10 => fX8_find_48 a0 a1 (fX8_find_4 a0 a1 fuel) l3 x6 x10 p7.2 else none
set_option maxRecDepth 4000 in
theorem fX8_find_4_ok {a0 : Nat} {a1 : Nat} {d : Nat} (hd : 4 ≤ d) (ha0 : isRoutes a0) (ha1 : isStation a1) : ∀ (fuel : Nat) (l2 : Int32) (l3 : Int32) (o4 : Option Value) (q4 : xNoD o4 = true) (m : xMem) (r : xMem), fX8_find_4 a0 a1 fuel l2 l3 m = some r → xFx hh_133 cX8_find d 4 [some (.ref a0), some (.ref a1), some (.int l2), some (.int l3), o4] [] (xLay m) 0 0 none (xLay r) := by
  intro fuel
  induction fuel with
  | zero => intro l2 l3 o4 q4 m r  h; cases h
  | succ fuel ih =>
    intro l2 l3 o4 q4 m r  h
    unfold fX8_find_4 at h
    refine fx_iload_n dX8_find_4 rfl rfl ?_
    refine fx_aload_n dX8_find_5 rfl rfl ?_
    obtain ⟨x1, hx1, h⟩ := xLet_el h
    refine gx_get dX8_find_6 rfl fd_8_22 ha1.1 rfl rfl hx1 ?_
    refine fx_icmp_ge (t := 56) dX8_find_9 rfl rfl (fun hc2 => ?_) (fun hc2 => ?_)
    · rw [if_pos hc2] at h
      exact fX8_find_56_ok (o3 := some (.int l3)) (o4 := o4) hd ha0 ha1 rfl q4 h
    · rw [if_neg hc2] at h
      refine fx_iload_n dX8_find_12 rfl rfl ?_
      refine fx_bipush (x := 10) dX8_find_13 rfl (by decide) ?_
      refine fx_icmp_ge (t := 56) dX8_find_15 rfl rfl (fun hc3 => ?_) (fun hc3 => ?_)
      · rw [if_pos hc3] at h
        exact fX8_find_56_ok (o3 := some (.int l3)) (o4 := o4) hd ha0 ha1 rfl q4 h
      · rw [if_neg hc3] at h
        refine fx_aload_n dX8_find_18 rfl rfl ?_
        refine gx_getr dX8_find_19 rfl fd_8_27 ha1.1 rfl rfl ?_
        refine fx_iload_n dX8_find_22 rfl rfl ?_
        obtain ⟨hj4, h⟩ := xChk_el h
        obtain ⟨r5, hr5, h⟩ := xLet_el h
        refine gx_aaload (t := 5) dX8_find_23 rfl ha1.2.2.1 rfl hj4 ((xRef_at (sl_9_1 a1) hj4).trans (congrArg some hr5)) ?_
        have hpr5 : isLink r5 := by rw [← hr5]; exact ha1.2.2.2.2.2.2.2.2.1 _ (xIn_lt hj4)
        refine fx_astore (ls2 := [some (.ref a0), some (.ref a1), some (.int l2), some (.int l3), some (.ref r5)]) dX8_find_24 rfl rfl rfl ?_
        refine fx_iload_n dX8_find_26 rfl rfl ?_
        refine fx_iconst (x := 2) dX8_find_27 rfl (by decide) ?_
        obtain ⟨x6, hx6, h⟩ := xLet_el h
        refine fx_ishl dX8_find_28 rfl hx6 ?_
        refine fx_aload dX8_find_29 rfl rfl ?_
        obtain ⟨p7, ep7, h⟩ := xBind_el h
        refine gx_callv (as := []) (r := [.int x6]) rfl dX8_find_31 ca_8_31 rfl me_134 rfl rfl rfl rfl (hpr5.1) rfl (fX3_takesNow_ok (d := d) (by omega) hpr5 ep7) rfl rfl ?_
        refine fx_if_eq (t := 47) dX8_find_34 rfl rfl (fun hc8 => ?_) (fun hc8 => ?_)
        · rw [if_pos hc8] at h
          refine fx_iconst (x := 0) dX8_find_47 rfl (by decide) ?_
          exact fX8_find_48_ok (o2 := some (.int l2)) (o4 := some (.ref r5)) hd ha0 ha1 ih rfl rfl h
        · rw [if_neg hc8] at h
          refine fx_aload dX8_find_37 rfl rfl ?_
          obtain ⟨x9, hx9, h⟩ := xLet_el h
          refine gx_get dX8_find_39 rfl fd_8_37 hpr5.1 rfl rfl hx9 ?_
          refine fx_iconst (x := 1) dX8_find_42 rfl (by decide) ?_
          obtain ⟨x10, hx10, h⟩ := xLet_el h
          refine fx_iadd dX8_find_43 rfl hx10 ?_
          refine fx_goto (t := 48) dX8_find_44 rfl rfl ?_
          exact fX8_find_48_ok (o2 := some (.int l2)) (o4 := some (.ref r5)) hd ha0 ha1 ih rfl rfl h
def fX8_find_0 (a0 : Nat) (a1 : Nat) (m : xMem) : Option xMem := fX8_find_4 a0 a1 xFuel (0 : Int32) (0 : Int32) m
set_option maxRecDepth 4000 in
theorem fX8_find_0_ok {a0 : Nat} {a1 : Nat} {d : Nat} (hd : 4 ≤ d) (ha0 : isRoutes a0) (ha1 : isStation a1) {o2 : Option Value} {o3 : Option Value} {o4 : Option Value} {m : xMem} {r : xMem} (q2 : xNoD o2 = true) (q3 : xNoD o3 = true) (q4 : xNoD o4 = true) (h : fX8_find_0 a0 a1 m = some r) : xFx hh_133 cX8_find d 0 [some (.ref a0), some (.ref a1), o2, o3, o4] [] (xLay m) 0 0 none (xLay r) := by
  unfold fX8_find_0 at h
  refine fx_iconst (x := 0) dX8_find_0 rfl (by decide) ?_
  refine fx_istore_n (ls2 := [some (.ref a0), some (.ref a1), some (.int (0 : Int32)), o3, o4]) dX8_find_1 rfl rfl rfl ?_
  refine fx_iconst (x := 0) dX8_find_2 rfl (by decide) ?_
  refine fx_istore_n (ls2 := [some (.ref a0), some (.ref a1), some (.int (0 : Int32)), some (.int (0 : Int32)), o4]) dX8_find_3 rfl rfl rfl ?_
  exact fX8_find_4_ok hd ha0 ha1 xFuel (0 : Int32) (0 : Int32) (o4) q4 m r h
def fX8_find (a0 : Nat) (a1 : Nat) (m : xMem) : Option xMem := fX8_find_0 a0 a1  m
theorem fX8_find_ok {a0 : Nat} {a1 : Nat} {m : xMem} {r : xMem} {d : Nat} (hd : 5 ≤ d) (ha0 : isRoutes a0) (ha1 : isStation a1) (h : fX8_find a0 a1 m = some r) : xEx d 133 [.ref a0, .ref a1] (xLay m) none (xLay r) := by
  obtain ⟨d, rfl⟩ : ∃ q, d = q + 1 := ⟨d - 1, by omega⟩
  exact xEx_of me_133 rfl (fX8_find_0_ok (d := d) (o2 := none) (o3 := none) (o4 := none) (by omega) ha0 ha1 rfl rfl rfl h)
def fX2_waiting_30 (a0 : Nat) (a1 : Int32) (a2 : Int32) (s0 : Int32) (m : xMem) : Option (Int32 × xMem) := some (s0, m)
set_option maxRecDepth 4000 in
theorem fX2_waiting_30_ok {a0 : Nat} {a1 : Int32} {a2 : Int32} {d : Nat} (hd : 0 ≤ d) (ha0 : isHall a0) {s0 : Int32} {o3 : Option Value} {m : xMem} {r : (Int32 × xMem)} (q3 : xNoD o3 = true) (h : fX2_waiting_30 a0 a1 a2 s0 m = some r) : xFx hh_145 cX2_waiting d 30 [some (.ref a0), some (.int a1), some (.int a2), o3] [.int s0] (xLay m) 0 0 (some (.int r.1)) (xLay r.2) := by
  unfold fX2_waiting_30 at h
  cases h
  exact fx_ireturn dX2_waiting_30 rfl rfl
def fX2_waiting_29 (a0 : Nat) (a1 : Int32) (a2 : Int32) (m : xMem) : Option (Int32 × xMem) := fX2_waiting_30 a0 a1 a2 (0 : Int32) m
set_option maxRecDepth 4000 in
theorem fX2_waiting_29_ok {a0 : Nat} {a1 : Int32} {a2 : Int32} {d : Nat} (hd : 0 ≤ d) (ha0 : isHall a0) {o3 : Option Value} {m : xMem} {r : (Int32 × xMem)} (q3 : xNoD o3 = true) (h : fX2_waiting_29 a0 a1 a2 m = some r) : xFx hh_145 cX2_waiting d 29 [some (.ref a0), some (.int a1), some (.int a2), o3] [] (xLay m) 0 0 (some (.int r.1)) (xLay r.2) := by
  unfold fX2_waiting_29 at h
  refine fx_iconst (x := 0) dX2_waiting_29 rfl (by decide) ?_
  exact fX2_waiting_30_ok (o3 := o3) hd ha0 q3 h
def fX2_waiting_0 (a0 : Nat) (a1 : Int32) (a2 : Int32) (m : xMem) : Option (Int32 × xMem) := xLet (a2 * (6 : Int32)) fun x1 => xLet (x1 + a1) fun x2 => if x2 < (0 : Int32) then fX2_waiting_29 a0 a1 a2 m else if (12 : Int32) ≤ x2 then fX2_waiting_29 a0 a1 a2 m else bif xIn x2 12 then xLet (m.1 (a0 + 1) x2.toNatClampNeg) fun x5 => fX2_waiting_30 a0 a1 a2 x5 m else none
set_option maxRecDepth 4000 in
theorem fX2_waiting_0_ok {a0 : Nat} {a1 : Int32} {a2 : Int32} {d : Nat} (hd : 0 ≤ d) (ha0 : isHall a0) {o3 : Option Value} {m : xMem} {r : (Int32 × xMem)} (q3 : xNoD o3 = true) (h : fX2_waiting_0 a0 a1 a2 m = some r) : xFx hh_145 cX2_waiting d 0 [some (.ref a0), some (.int a1), some (.int a2), o3] [] (xLay m) 0 0 (some (.int r.1)) (xLay r.2) := by
  unfold fX2_waiting_0 at h
  refine fx_iload_n dX2_waiting_0 rfl rfl ?_
  refine fx_bipush (x := 6) dX2_waiting_1 rfl (by decide) ?_
  obtain ⟨x1, hx1, h⟩ := xLet_el h
  refine fx_imul dX2_waiting_3 rfl hx1 ?_
  refine fx_iload_n dX2_waiting_4 rfl rfl ?_
  obtain ⟨x2, hx2, h⟩ := xLet_el h
  refine fx_iadd dX2_waiting_5 rfl hx2 ?_
  refine fx_istore_n (ls2 := [some (.ref a0), some (.int a1), some (.int a2), some (.int x2)]) dX2_waiting_6 rfl rfl rfl ?_
  refine fx_iload_n dX2_waiting_7 rfl rfl ?_
  refine fx_if_lt (t := 29) dX2_waiting_8 rfl rfl (fun hc3 => ?_) (fun hc3 => ?_)
  · rw [if_pos hc3] at h
    exact fX2_waiting_29_ok (o3 := some (.int x2)) hd ha0 rfl h
  · rw [if_neg hc3] at h
    refine fx_iload_n dX2_waiting_11 rfl rfl ?_
    refine fx_aload_n dX2_waiting_12 rfl rfl ?_
    refine gx_getr dX2_waiting_13 rfl fd_2_9 ha0.1 rfl rfl ?_
    refine gx_alen (t := 1) (y := 12) dX2_waiting_16 rfl ha0.2.1 rfl (by decide) ?_
    refine fx_icmp_ge (t := 29) dX2_waiting_17 rfl rfl (fun hc4 => ?_) (fun hc4 => ?_)
    · rw [if_pos hc4] at h
      exact fX2_waiting_29_ok (o3 := some (.int x2)) hd ha0 rfl h
    · rw [if_neg hc4] at h
      refine fx_aload_n dX2_waiting_20 rfl rfl ?_
      refine gx_getr dX2_waiting_21 rfl fd_2_9 ha0.1 rfl rfl ?_
      refine fx_iload_n dX2_waiting_24 rfl rfl ?_
      obtain ⟨hj6, h⟩ := xChk_el h
      obtain ⟨x5, hx5, h⟩ := xLet_el h
      refine gx_iaload dX2_waiting_25 rfl ha0.2.1 hj6 hx5 ?_
      refine fx_goto (t := 30) dX2_waiting_26 rfl rfl ?_
      exact fX2_waiting_30_ok (o3 := some (.int x2)) hd ha0 rfl h
def fX2_waiting (a0 : Nat) (a1 : Int32) (a2 : Int32) (m : xMem) : Option (Int32 × xMem) := fX2_waiting_0 a0 a1 a2  m
theorem fX2_waiting_ok {a0 : Nat} {a1 : Int32} {a2 : Int32} {m : xMem} {r : (Int32 × xMem)} {d : Nat} (hd : 1 ≤ d) (ha0 : isHall a0) (h : fX2_waiting a0 a1 a2 m = some r) : xEx d 145 [.ref a0, .int a1, .int a2] (xLay m) (some (.int r.1)) (xLay r.2) := by
  obtain ⟨d, rfl⟩ : ∃ q, d = q + 1 := ⟨d - 1, by omega⟩
  exact xEx_of me_145 rfl (fX2_waiting_0_ok (d := d) (o3 := none) (by omega) ha0 rfl h)
def fX8_firstLink_39 (a0 : Nat) (a1 : Int32) (a2 : Int32) (a3 : Int32) (s0 : Int32) (m : xMem) : Option (Int32 × xMem) := some (s0, m)
set_option maxRecDepth 4000 in
theorem fX8_firstLink_39_ok {a0 : Nat} {a1 : Int32} {a2 : Int32} {a3 : Int32} {d : Nat} (hd : 0 ≤ d) (ha0 : isRoutes a0) {s0 : Int32} {o4 : Option Value} {m : xMem} {r : (Int32 × xMem)} (q4 : xNoD o4 = true) (h : fX8_firstLink_39 a0 a1 a2 a3 s0 m = some r) : xFx hh_146 cX8_firstLink d 39 [some (.ref a0), some (.int a1), some (.int a2), some (.int a3), o4] [.int s0] (xLay m) 0 0 (some (.int r.1)) (xLay r.2) := by
  unfold fX8_firstLink_39 at h
  cases h
  exact fx_ireturn dX8_firstLink_39 rfl rfl
def fX8_firstLink_38 (a0 : Nat) (a1 : Int32) (a2 : Int32) (a3 : Int32) (m : xMem) : Option (Int32 × xMem) := fX8_firstLink_39 a0 a1 a2 a3 (-1 : Int32) m
set_option maxRecDepth 4000 in
theorem fX8_firstLink_38_ok {a0 : Nat} {a1 : Int32} {a2 : Int32} {a3 : Int32} {d : Nat} (hd : 0 ≤ d) (ha0 : isRoutes a0) {o4 : Option Value} {m : xMem} {r : (Int32 × xMem)} (q4 : xNoD o4 = true) (h : fX8_firstLink_38 a0 a1 a2 a3 m = some r) : xFx hh_146 cX8_firstLink d 38 [some (.ref a0), some (.int a1), some (.int a2), some (.int a3), o4] [] (xLay m) 0 0 (some (.int r.1)) (xLay r.2) := by
  unfold fX8_firstLink_38 at h
  refine fx_iconst (x := -1) dX8_firstLink_38 rfl (by decide) ?_
  exact fX8_firstLink_39_ok (o4 := o4) hd ha0 q4 h
def fX8_firstLink_0 (a0 : Nat) (a1 : Int32) (a2 : Int32) (a3 : Int32) (m : xMem) : Option (Int32 × xMem) := xLet (a1 * (36 : Int32)) fun x1 => xLet (a2 * (6 : Int32)) fun x2 => xLet (x1 + x2) fun x3 => xLet (x3 + a3) fun x4 => if x4 < (0 : Int32) then fX8_firstLink_38 a0 a1 a2 a3 m else if (72 : Int32) ≤ x4 then fX8_firstLink_38 a0 a1 a2 a3 m else bif xIn x4 72 then xLet (m.1 (a0 + 1) x4.toNatClampNeg) fun x7 => fX8_firstLink_39 a0 a1 a2 a3 x7 m else none
set_option maxRecDepth 4000 in
theorem fX8_firstLink_0_ok {a0 : Nat} {a1 : Int32} {a2 : Int32} {a3 : Int32} {d : Nat} (hd : 0 ≤ d) (ha0 : isRoutes a0) {o4 : Option Value} {m : xMem} {r : (Int32 × xMem)} (q4 : xNoD o4 = true) (h : fX8_firstLink_0 a0 a1 a2 a3 m = some r) : xFx hh_146 cX8_firstLink d 0 [some (.ref a0), some (.int a1), some (.int a2), some (.int a3), o4] [] (xLay m) 0 0 (some (.int r.1)) (xLay r.2) := by
  unfold fX8_firstLink_0 at h
  refine fx_iload_n dX8_firstLink_0 rfl rfl ?_
  refine fx_bipush (x := 36) dX8_firstLink_1 rfl (by decide) ?_
  obtain ⟨x1, hx1, h⟩ := xLet_el h
  refine fx_imul dX8_firstLink_3 rfl hx1 ?_
  refine fx_iload_n dX8_firstLink_4 rfl rfl ?_
  refine fx_bipush (x := 6) dX8_firstLink_5 rfl (by decide) ?_
  obtain ⟨x2, hx2, h⟩ := xLet_el h
  refine fx_imul dX8_firstLink_7 rfl hx2 ?_
  obtain ⟨x3, hx3, h⟩ := xLet_el h
  refine fx_iadd dX8_firstLink_8 rfl hx3 ?_
  refine fx_iload_n dX8_firstLink_9 rfl rfl ?_
  obtain ⟨x4, hx4, h⟩ := xLet_el h
  refine fx_iadd dX8_firstLink_10 rfl hx4 ?_
  refine fx_istore (ls2 := [some (.ref a0), some (.int a1), some (.int a2), some (.int a3), some (.int x4)]) dX8_firstLink_11 rfl rfl rfl ?_
  refine fx_iload dX8_firstLink_13 rfl rfl ?_
  refine fx_if_lt (t := 38) dX8_firstLink_15 rfl rfl (fun hc5 => ?_) (fun hc5 => ?_)
  · rw [if_pos hc5] at h
    exact fX8_firstLink_38_ok (o4 := some (.int x4)) hd ha0 rfl h
  · rw [if_neg hc5] at h
    refine fx_iload dX8_firstLink_18 rfl rfl ?_
    refine fx_aload_n dX8_firstLink_20 rfl rfl ?_
    refine gx_getr dX8_firstLink_21 rfl fd_8_11 ha0.1 rfl rfl ?_
    refine gx_alen (t := 1) (y := 72) dX8_firstLink_24 rfl ha0.2.1 rfl (by decide) ?_
    refine fx_icmp_ge (t := 38) dX8_firstLink_25 rfl rfl (fun hc6 => ?_) (fun hc6 => ?_)
    · rw [if_pos hc6] at h
      exact fX8_firstLink_38_ok (o4 := some (.int x4)) hd ha0 rfl h
    · rw [if_neg hc6] at h
      refine fx_aload_n dX8_firstLink_28 rfl rfl ?_
      refine gx_getr dX8_firstLink_29 rfl fd_8_11 ha0.1 rfl rfl ?_
      refine fx_iload dX8_firstLink_32 rfl rfl ?_
      obtain ⟨hj8, h⟩ := xChk_el h
      obtain ⟨x7, hx7, h⟩ := xLet_el h
      refine gx_iaload dX8_firstLink_34 rfl ha0.2.1 hj8 hx7 ?_
      refine fx_goto (t := 39) dX8_firstLink_35 rfl rfl ?_
      exact fX8_firstLink_39_ok (o4 := some (.int x4)) hd ha0 rfl h
def fX8_firstLink (a0 : Nat) (a1 : Int32) (a2 : Int32) (a3 : Int32) (m : xMem) : Option (Int32 × xMem) := fX8_firstLink_0 a0 a1 a2 a3  m
theorem fX8_firstLink_ok {a0 : Nat} {a1 : Int32} {a2 : Int32} {a3 : Int32} {m : xMem} {r : (Int32 × xMem)} {d : Nat} (hd : 1 ≤ d) (ha0 : isRoutes a0) (h : fX8_firstLink a0 a1 a2 a3 m = some r) : xEx d 146 [.ref a0, .int a1, .int a2, .int a3] (xLay m) (some (.int r.1)) (xLay r.2) := by
  obtain ⟨d, rfl⟩ : ∃ q, d = q + 1 := ⟨d - 1, by omega⟩
  exact xEx_of me_146 rfl (fX8_firstLink_0_ok (d := d) (o4 := none) (by omega) ha0 rfl h)
def fX6_goalOfMost_20 (a0 : Nat) (a1 : Nat) (a2 : Int32) (a3 : Int32) (a4 : Int32) (m : xMem) : Option (Int32 × xMem) := some ((-1 : Int32), m)
set_option maxRecDepth 4000 in
theorem fX6_goalOfMost_20_ok {a0 : Nat} {a1 : Nat} {a2 : Int32} {a3 : Int32} {a4 : Int32} {d : Nat} (hd : 1 ≤ d) (ha0 : isMover a0) (ha1 : isStation a1) {o5 : Option Value} {o6 : Option Value} {o7 : Option Value} {o8 : Option Value} {m : xMem} {r : (Int32 × xMem)} (q5 : xNoD o5 = true) (q6 : xNoD o6 = true) (q7 : xNoD o7 = true) (q8 : xNoD o8 = true) (h : fX6_goalOfMost_20 a0 a1 a2 a3 a4 m = some r) : xFx hh_144 cX6_goalOfMost d 20 [some (.ref a0), some (.ref a1), some (.int a2), some (.int a3), some (.int a4), o5, o6, o7, o8] [] (xLay m) 0 0 (some (.int r.1)) (xLay r.2) := by
  unfold fX6_goalOfMost_20 at h
  refine fx_iconst (x := -1) dX6_goalOfMost_20 rfl (by decide) ?_
  cases h
  exact fx_ireturn dX6_goalOfMost_21 rfl rfl
def fX6_goalOfMost_84 (a0 : Nat) (a1 : Nat) (a2 : Int32) (a3 : Int32) (a4 : Int32) (rec31 : Int32 → Int32 → Int32 → xMem → Option (Int32 × xMem)) (l5 : Int32) (l6 : Int32) (l7 : Int32) (m : xMem) : Option (Int32 × xMem) := xLet (l7 + (1 : Int32)) fun x1 => rec31 l5 l6 x1 m
set_option maxRecDepth 4000 in
theorem fX6_goalOfMost_84_ok {a0 : Nat} {a1 : Nat} {a2 : Int32} {a3 : Int32} {a4 : Int32} {rec31 : Int32 → Int32 → Int32 → xMem → Option (Int32 × xMem)} {d : Nat} (hd : 1 ≤ d) (ha0 : isMover a0) (ha1 : isStation a1) (hrec31 : ∀ (l5 : Int32) (l6 : Int32) (l7 : Int32) (o8 : Option Value) (q8 : xNoD o8 = true) (m : xMem) (r : (Int32 × xMem)), rec31 l5 l6 l7 m = some r → xFx hh_144 cX6_goalOfMost d 31 [some (.ref a0), some (.ref a1), some (.int a2), some (.int a3), some (.int a4), some (.int l5), some (.int l6), some (.int l7), o8] [] (xLay m) 0 0 (some (.int r.1)) (xLay r.2)) {l5 : Int32} {l6 : Int32} {l7 : Int32} {o8 : Option Value} {m : xMem} {r : (Int32 × xMem)} (q8 : xNoD o8 = true) (h : fX6_goalOfMost_84 a0 a1 a2 a3 a4 rec31 l5 l6 l7 m = some r) : xFx hh_144 cX6_goalOfMost d 84 [some (.ref a0), some (.ref a1), some (.int a2), some (.int a3), some (.int a4), some (.int l5), some (.int l6), some (.int l7), o8] [] (xLay m) 0 0 (some (.int r.1)) (xLay r.2) := by
  unfold fX6_goalOfMost_84 at h
  obtain ⟨x1, hx1, h⟩ := xLet_el h
  refine fx_iinc (ls2 := [some (.ref a0), some (.ref a1), some (.int a2), some (.int a3), some (.int a4), some (.int l5), some (.int l6), some (.int x1), o8]) dX6_goalOfMost_84 rfl rfl rfl hx1 rfl ?_
  refine fx_goto (t := 31) dX6_goalOfMost_87 rfl rfl ?_
  exact hrec31 l5 l6 x1 (o8) q8 m r h
def fX6_goalOfMost_31 (a0 : Nat) (a1 : Nat) (a2 : Int32) (a3 : Int32) (a4 : Int32) : Nat → Int32 → Int32 → Int32 → xMem → Option (Int32 × xMem)
  | 0, _, _, _, _ => none
  | fuel + 1, l5, l6, l7, m => if (6 : Int32) ≤ l7 then some (l5, m) else bif xIn a3 6 then xLet (a1 + 15 + 3 * a3.toNatClampNeg) fun r3 => (fX2_waiting r3 l7 a4 m).bind fun p4 => if p4.1 ≤ l6 then fX6_goalOfMost_84 a0 a1 a2 a3 a4 (fX6_goalOfMost_31 a0 a1 a2 a3 a4 fuel) l5 l6 l7 p4.2 else (fX8_firstLink (a0 + 1) a4 a3 l7 p4.2).bind fun p6 => if ¬ p6.1 = a2 then fX6_goalOfMost_84 a0 a1 a2 a3 a4 (fX6_goalOfMost_31 a0 a1 a2 a3 a4 fuel) l5 l6 l7 p6.2 else fX6_goalOfMost_84 a0 a1 a2 a3 a4 (fX6_goalOfMost_31 a0 a1 a2 a3 a4 fuel) l7 p4.1 l7 p6.2 else none
set_option maxRecDepth 4000 in
theorem fX6_goalOfMost_31_ok {a0 : Nat} {a1 : Nat} {a2 : Int32} {a3 : Int32} {a4 : Int32} {d : Nat} (hd : 1 ≤ d) (ha0 : isMover a0) (ha1 : isStation a1) : ∀ (fuel : Nat) (l5 : Int32) (l6 : Int32) (l7 : Int32) (o8 : Option Value) (q8 : xNoD o8 = true) (m : xMem) (r : (Int32 × xMem)), fX6_goalOfMost_31 a0 a1 a2 a3 a4 fuel l5 l6 l7 m = some r → xFx hh_144 cX6_goalOfMost d 31 [some (.ref a0), some (.ref a1), some (.int a2), some (.int a3), some (.int a4), some (.int l5), some (.int l6), some (.int l7), o8] [] (xLay m) 0 0 (some (.int r.1)) (xLay r.2) := by
  intro fuel
  induction fuel with
  | zero => intro l5 l6 l7 o8 q8 m r  h; cases h
  | succ fuel ih =>
    intro l5 l6 l7 o8 q8 m r  h
    unfold fX6_goalOfMost_31 at h
    refine fx_iload dX6_goalOfMost_31 rfl rfl ?_
    refine fx_bipush (x := 6) dX6_goalOfMost_33 rfl (by decide) ?_
    refine fx_icmp_ge (t := 90) dX6_goalOfMost_35 rfl rfl (fun hc1 => ?_) (fun hc1 => ?_)
    · rw [if_pos hc1] at h
      refine fx_iload dX6_goalOfMost_90 rfl rfl ?_
      cases h
      exact fx_ireturn dX6_goalOfMost_92 rfl rfl
    · rw [if_neg hc1] at h
      refine fx_aload_n dX6_goalOfMost_38 rfl rfl ?_
      refine gx_getr dX6_goalOfMost_39 rfl fd_6_96 ha1.1 rfl rfl ?_
      refine fx_iload_n dX6_goalOfMost_42 rfl rfl ?_
      obtain ⟨hj2, h⟩ := xChk_el h
      obtain ⟨r3, hr3, h⟩ := xLet_el h
      refine gx_aaload (t := 4) dX6_goalOfMost_43 rfl ha1.2.1 rfl hj2 ((xRef_at (sl_9_0 a1) hj2).trans (congrArg some hr3)) ?_
      have hpr3 : isHall r3 := by rw [← hr3]; exact ha1.2.2.2.2.2.2.2.1 _ (xIn_lt hj2)
      refine fx_iload dX6_goalOfMost_44 rfl rfl ?_
      refine fx_iload dX6_goalOfMost_46 rfl rfl ?_
      obtain ⟨p4, ep4, h⟩ := xBind_el h
      refine gx_callv (as := [.int l7, .int a4]) (r := []) rfl dX6_goalOfMost_48 ca_6_207 rfl me_145 rfl rfl rfl rfl (hpr3.1) rfl (fX2_waiting_ok (d := d) (by omega) hpr3 ep4) rfl rfl ?_
      refine fx_istore (ls2 := [some (.ref a0), some (.ref a1), some (.int a2), some (.int a3), some (.int a4), some (.int l5), some (.int l6), some (.int l7), some (.int p4.1)]) dX6_goalOfMost_51 rfl rfl rfl ?_
      refine fx_iload dX6_goalOfMost_53 rfl rfl ?_
      refine fx_iload dX6_goalOfMost_55 rfl rfl ?_
      refine fx_icmp_le (t := 84) dX6_goalOfMost_57 rfl rfl (fun hc5 => ?_) (fun hc5 => ?_)
      · rw [if_pos hc5] at h
        exact fX6_goalOfMost_84_ok (o8 := some (.int p4.1)) hd ha0 ha1 ih rfl h
      · rw [if_neg hc5] at h
        refine fx_aload_n dX6_goalOfMost_60 rfl rfl ?_
        refine gx_getr dX6_goalOfMost_61 rfl fd_6_12 ha0.1 rfl rfl ?_
        refine fx_iload dX6_goalOfMost_64 rfl rfl ?_
        refine fx_iload_n dX6_goalOfMost_66 rfl rfl ?_
        refine fx_iload dX6_goalOfMost_67 rfl rfl ?_
        obtain ⟨p6, ep6, h⟩ := xBind_el h
        refine gx_callv (as := [.int a4, .int a3, .int l7]) (r := []) rfl dX6_goalOfMost_69 ca_6_210 rfl me_146 rfl rfl rfl rfl (ha0.2.1.1) rfl (fX8_firstLink_ok (d := d) (by omega) ha0.2.1 ep6) rfl rfl ?_
        refine fx_iload_n dX6_goalOfMost_72 rfl rfl ?_
        refine fx_icmp_ne (t := 84) dX6_goalOfMost_73 rfl rfl (fun hc7 => ?_) (fun hc7 => ?_)
        · rw [if_pos hc7] at h
          exact fX6_goalOfMost_84_ok (o8 := some (.int p4.1)) hd ha0 ha1 ih rfl h
        · rw [if_neg hc7] at h
          refine fx_iload dX6_goalOfMost_76 rfl rfl ?_
          refine fx_istore (ls2 := [some (.ref a0), some (.ref a1), some (.int a2), some (.int a3), some (.int a4), some (.int l7), some (.int l6), some (.int l7), some (.int p4.1)]) dX6_goalOfMost_78 rfl rfl rfl ?_
          refine fx_iload dX6_goalOfMost_80 rfl rfl ?_
          refine fx_istore (ls2 := [some (.ref a0), some (.ref a1), some (.int a2), some (.int a3), some (.int a4), some (.int l7), some (.int p4.1), some (.int l7), some (.int p4.1)]) dX6_goalOfMost_82 rfl rfl rfl ?_
          exact fX6_goalOfMost_84_ok (o8 := some (.int p4.1)) hd ha0 ha1 ih rfl h
def fX6_goalOfMost_0 (a0 : Nat) (a1 : Nat) (a2 : Int32) (a3 : Int32) (a4 : Int32) (m : xMem) : Option (Int32 × xMem) := (fX9_hasHall a1 a3 m).bind fun p1 => if p1.1 = (0 : Int32) then fX6_goalOfMost_20 a0 a1 a2 a3 a4 p1.2 else bif xIn a3 6 then xLet (a1 + 15 + 3 * a3.toNatClampNeg) fun r4 => xLet (p1.2.1 r4 4) fun x5 => if ¬ x5 = (0 : Int32) then fX6_goalOfMost_31 a0 a1 a2 a3 a4 xFuel (-1 : Int32) (0 : Int32) (0 : Int32) p1.2 else fX6_goalOfMost_20 a0 a1 a2 a3 a4 p1.2 else none
set_option maxRecDepth 4000 in
theorem fX6_goalOfMost_0_ok {a0 : Nat} {a1 : Nat} {a2 : Int32} {a3 : Int32} {a4 : Int32} {d : Nat} (hd : 1 ≤ d) (ha0 : isMover a0) (ha1 : isStation a1) {o5 : Option Value} {o6 : Option Value} {o7 : Option Value} {o8 : Option Value} {m : xMem} {r : (Int32 × xMem)} (q5 : xNoD o5 = true) (q6 : xNoD o6 = true) (q7 : xNoD o7 = true) (q8 : xNoD o8 = true) (h : fX6_goalOfMost_0 a0 a1 a2 a3 a4 m = some r) : xFx hh_144 cX6_goalOfMost d 0 [some (.ref a0), some (.ref a1), some (.int a2), some (.int a3), some (.int a4), o5, o6, o7, o8] [] (xLay m) 0 0 (some (.int r.1)) (xLay r.2) := by
  unfold fX6_goalOfMost_0 at h
  refine fx_aload_n dX6_goalOfMost_0 rfl rfl ?_
  refine fx_iload_n dX6_goalOfMost_1 rfl rfl ?_
  obtain ⟨p1, ep1, h⟩ := xBind_el h
  refine gx_callv (as := [.int a3]) (r := []) rfl dX6_goalOfMost_2 ca_6_69 rfl me_20 rfl rfl rfl rfl (ha1.1) rfl (fX9_hasHall_ok (d := d) (by omega) ha1 ep1) rfl rfl ?_
  refine fx_if_eq (t := 20) dX6_goalOfMost_5 rfl rfl (fun hc2 => ?_) (fun hc2 => ?_)
  · rw [if_pos hc2] at h
    exact fX6_goalOfMost_20_ok (o5 := o5) (o6 := o6) (o7 := o7) (o8 := o8) hd ha0 ha1 q5 q6 q7 q8 h
  · rw [if_neg hc2] at h
    refine fx_aload_n dX6_goalOfMost_8 rfl rfl ?_
    refine gx_getr dX6_goalOfMost_9 rfl fd_6_96 ha1.1 rfl rfl ?_
    refine fx_iload_n dX6_goalOfMost_12 rfl rfl ?_
    obtain ⟨hj3, h⟩ := xChk_el h
    obtain ⟨r4, hr4, h⟩ := xLet_el h
    refine gx_aaload (t := 4) dX6_goalOfMost_13 rfl ha1.2.1 rfl hj3 ((xRef_at (sl_9_0 a1) hj3).trans (congrArg some hr4)) ?_
    have hpr4 : isHall r4 := by rw [← hr4]; exact ha1.2.2.2.2.2.2.2.1 _ (xIn_lt hj3)
    obtain ⟨x5, hx5, h⟩ := xLet_el h
    refine gx_get dX6_goalOfMost_14 rfl fd_6_106 hpr4.1 rfl rfl hx5 ?_
    refine fx_if_ne (t := 22) dX6_goalOfMost_17 rfl rfl (fun hc6 => ?_) (fun hc6 => ?_)
    · rw [if_pos hc6] at h
      refine fx_iconst (x := -1) dX6_goalOfMost_22 rfl (by decide) ?_
      refine fx_istore (ls2 := [some (.ref a0), some (.ref a1), some (.int a2), some (.int a3), some (.int a4), some (.int (-1 : Int32)), o6, o7, o8]) dX6_goalOfMost_23 rfl rfl rfl ?_
      refine fx_iconst (x := 0) dX6_goalOfMost_25 rfl (by decide) ?_
      refine fx_istore (ls2 := [some (.ref a0), some (.ref a1), some (.int a2), some (.int a3), some (.int a4), some (.int (-1 : Int32)), some (.int (0 : Int32)), o7, o8]) dX6_goalOfMost_26 rfl rfl rfl ?_
      refine fx_iconst (x := 0) dX6_goalOfMost_28 rfl (by decide) ?_
      refine fx_istore (ls2 := [some (.ref a0), some (.ref a1), some (.int a2), some (.int a3), some (.int a4), some (.int (-1 : Int32)), some (.int (0 : Int32)), some (.int (0 : Int32)), o8]) dX6_goalOfMost_29 rfl rfl rfl ?_
      exact fX6_goalOfMost_31_ok hd ha0 ha1 xFuel (-1 : Int32) (0 : Int32) (0 : Int32) (o8) q8 p1.2 r h
    · rw [if_neg hc6] at h
      exact fX6_goalOfMost_20_ok (o5 := o5) (o6 := o6) (o7 := o7) (o8 := o8) hd ha0 ha1 q5 q6 q7 q8 h
def fX6_goalOfMost (a0 : Nat) (a1 : Nat) (a2 : Int32) (a3 : Int32) (a4 : Int32) (m : xMem) : Option (Int32 × xMem) := fX6_goalOfMost_0 a0 a1 a2 a3 a4  m
theorem fX6_goalOfMost_ok {a0 : Nat} {a1 : Nat} {a2 : Int32} {a3 : Int32} {a4 : Int32} {m : xMem} {r : (Int32 × xMem)} {d : Nat} (hd : 2 ≤ d) (ha0 : isMover a0) (ha1 : isStation a1) (h : fX6_goalOfMost a0 a1 a2 a3 a4 m = some r) : xEx d 144 [.ref a0, .ref a1, .int a2, .int a3, .int a4] (xLay m) (some (.int r.1)) (xLay r.2) := by
  obtain ⟨d, rfl⟩ : ∃ q, d = q + 1 := ⟨d - 1, by omega⟩
  exact xEx_of me_144 rfl (fX6_goalOfMost_0_ok (d := d) (o5 := none) (o6 := none) (o7 := none) (o8 := none) (by omega) ha0 ha1 rfl rfl rfl rfl h)
def fX9_admits_39 (a0 : Nat) (a1 : Int32) (a2 : Int32) (s0 : Int32) (m : xMem) : Option (Int32 × xMem) := bif (decide (s0 = 0) || decide (s0 = 1)) then some (s0, m) else none
set_option maxRecDepth 4000 in
theorem fX9_admits_39_ok {a0 : Nat} {a1 : Int32} {a2 : Int32} {d : Nat} (hd : 1 ≤ d) (ha0 : isStation a0) {s0 : Int32} {m : xMem} {r : (Int32 × xMem)} (h : fX9_admits_39 a0 a1 a2 s0 m = some r) : xFx hh_147 cX9_admits d 39 [some (.ref a0), some (.int a1), some (.int a2)] [.int s0] (xLay m) 0 0 (some (.int r.1)) (xLay r.2) := by
  unfold fX9_admits_39 at h
  obtain ⟨hb1, h⟩ := xChk_el h
  cases h
  exact fx_ireturn dX9_admits_39 rfl (by show ((decide _ || decide _) && _) = true; rw [hb1]; rfl)
def fX9_admits_34 (a0 : Nat) (a1 : Int32) (a2 : Int32) (m : xMem) : Option (Int32 × xMem) := fX9_admits_39 a0 a1 a2 (1 : Int32) m
set_option maxRecDepth 4000 in
theorem fX9_admits_34_ok {a0 : Nat} {a1 : Int32} {a2 : Int32} {d : Nat} (hd : 1 ≤ d) (ha0 : isStation a0) {m : xMem} {r : (Int32 × xMem)} (h : fX9_admits_34 a0 a1 a2 m = some r) : xFx hh_147 cX9_admits d 34 [some (.ref a0), some (.int a1), some (.int a2)] [] (xLay m) 0 0 (some (.int r.1)) (xLay r.2) := by
  unfold fX9_admits_34 at h
  refine fx_iconst (x := 1) dX9_admits_34 rfl (by decide) ?_
  refine fx_goto (t := 39) dX9_admits_35 rfl rfl ?_
  exact fX9_admits_39_ok hd ha0 h
def fX9_admits_38 (a0 : Nat) (a1 : Int32) (a2 : Int32) (m : xMem) : Option (Int32 × xMem) := fX9_admits_39 a0 a1 a2 (0 : Int32) m
set_option maxRecDepth 4000 in
theorem fX9_admits_38_ok {a0 : Nat} {a1 : Int32} {a2 : Int32} {d : Nat} (hd : 1 ≤ d) (ha0 : isStation a0) {m : xMem} {r : (Int32 × xMem)} (h : fX9_admits_38 a0 a1 a2 m = some r) : xFx hh_147 cX9_admits d 38 [some (.ref a0), some (.int a1), some (.int a2)] [] (xLay m) 0 0 (some (.int r.1)) (xLay r.2) := by
  unfold fX9_admits_38 at h
  refine fx_iconst (x := 0) dX9_admits_38 rfl (by decide) ?_
  exact fX9_admits_39_ok hd ha0 h
def fX9_admits_0 (a0 : Nat) (a1 : Int32) (a2 : Int32) (m : xMem) : Option (Int32 × xMem) := if a1 = a2 then fX9_admits_34 a0 a1 a2 m else (fX9_hasHall a0 a1 m).bind fun p2 => if p2.1 = (0 : Int32) then fX9_admits_38 a0 a1 a2 p2.2 else bif xIn a1 6 then xLet (a0 + 15 + 3 * a1.toNatClampNeg) fun r5 => xLet (p2.2.1 r5 4) fun x6 => bif xIn a1 6 then xLet (a0 + 15 + 3 * a1.toNatClampNeg) fun r8 => xLet (p2.2.1 r8 2) fun x9 => if x9 ≤ x6 then fX9_admits_38 a0 a1 a2 p2.2 else fX9_admits_34 a0 a1 a2 p2.2 else none else none
set_option maxRecDepth 4000 in
theorem fX9_admits_0_ok {a0 : Nat} {a1 : Int32} {a2 : Int32} {d : Nat} (hd : 1 ≤ d) (ha0 : isStation a0) {m : xMem} {r : (Int32 × xMem)} (h : fX9_admits_0 a0 a1 a2 m = some r) : xFx hh_147 cX9_admits d 0 [some (.ref a0), some (.int a1), some (.int a2)] [] (xLay m) 0 0 (some (.int r.1)) (xLay r.2) := by
  unfold fX9_admits_0 at h
  refine fx_iload_n dX9_admits_0 rfl rfl ?_
  refine fx_iload_n dX9_admits_1 rfl rfl ?_
  refine fx_icmp_eq (t := 34) dX9_admits_2 rfl rfl (fun hc1 => ?_) (fun hc1 => ?_)
  · rw [if_pos hc1] at h
    exact fX9_admits_34_ok hd ha0 h
  · rw [if_neg hc1] at h
    refine fx_aload_n dX9_admits_5 rfl rfl ?_
    refine fx_iload_n dX9_admits_6 rfl rfl ?_
    obtain ⟨p2, ep2, h⟩ := xBind_el h
    refine gx_callv (as := [.int a1]) (r := []) rfl dX9_admits_7 ca_9_74 rfl me_20 rfl rfl rfl rfl (ha0.1) rfl (fX9_hasHall_ok (d := d) (by omega) ha0 ep2) rfl rfl ?_
    refine fx_if_eq (t := 38) dX9_admits_10 rfl rfl (fun hc3 => ?_) (fun hc3 => ?_)
    · rw [if_pos hc3] at h
      exact fX9_admits_38_ok hd ha0 h
    · rw [if_neg hc3] at h
      refine fx_aload_n dX9_admits_13 rfl rfl ?_
      refine gx_getr dX9_admits_14 rfl fd_9_11 ha0.1 rfl rfl ?_
      refine fx_iload_n dX9_admits_17 rfl rfl ?_
      obtain ⟨hj4, h⟩ := xChk_el h
      obtain ⟨r5, hr5, h⟩ := xLet_el h
      refine gx_aaload (t := 4) dX9_admits_18 rfl ha0.2.1 rfl hj4 ((xRef_at (sl_9_0 a0) hj4).trans (congrArg some hr5)) ?_
      have hpr5 : isHall r5 := by rw [← hr5]; exact ha0.2.2.2.2.2.2.2.1 _ (xIn_lt hj4)
      obtain ⟨x6, hx6, h⟩ := xLet_el h
      refine gx_get dX9_admits_19 rfl fd_9_77 hpr5.1 rfl rfl hx6 ?_
      refine fx_aload_n dX9_admits_22 rfl rfl ?_
      refine gx_getr dX9_admits_23 rfl fd_9_11 ha0.1 rfl rfl ?_
      refine fx_iload_n dX9_admits_26 rfl rfl ?_
      obtain ⟨hj7, h⟩ := xChk_el h
      obtain ⟨r8, hr8, h⟩ := xLet_el h
      refine gx_aaload (t := 4) dX9_admits_27 rfl ha0.2.1 rfl hj7 ((xRef_at (sl_9_0 a0) hj7).trans (congrArg some hr8)) ?_
      have hpr8 : isHall r8 := by rw [← hr8]; exact ha0.2.2.2.2.2.2.2.1 _ (xIn_lt hj7)
      obtain ⟨x9, hx9, h⟩ := xLet_el h
      refine gx_get dX9_admits_28 rfl fd_9_80 hpr8.1 rfl rfl hx9 ?_
      refine fx_icmp_ge (t := 38) dX9_admits_31 rfl rfl (fun hc10 => ?_) (fun hc10 => ?_)
      · rw [if_pos hc10] at h
        exact fX9_admits_38_ok hd ha0 h
      · rw [if_neg hc10] at h
        exact fX9_admits_34_ok hd ha0 h
def fX9_admits (a0 : Nat) (a1 : Int32) (a2 : Int32) (m : xMem) : Option (Int32 × xMem) := fX9_admits_0 a0 a1 a2  m
theorem fX9_admits_ok {a0 : Nat} {a1 : Int32} {a2 : Int32} {m : xMem} {r : (Int32 × xMem)} {d : Nat} (hd : 2 ≤ d) (ha0 : isStation a0) (h : fX9_admits a0 a1 a2 m = some r) : xEx d 147 [.ref a0, .int a1, .int a2] (xLay m) (some (.int r.1)) (xLay r.2) := by
  obtain ⟨d, rfl⟩ : ∃ q, d = q + 1 := ⟨d - 1, by omega⟩
  exact xEx_of me_147 rfl (fX9_admits_0_ok (d := d) (by omega) ha0 h)
def fX6_lift_16 (a0 : Nat) (a1 : Nat) (a2 : Int32) (a3 : Int32) (a4 : Int32) (m : xMem) : Option xMem := some m
set_option maxRecDepth 4000 in
theorem fX6_lift_16_ok {a0 : Nat} {a1 : Nat} {a2 : Int32} {a3 : Int32} {a4 : Int32} {d : Nat} (hd : 2 ≤ d) (ha0 : isMover a0) (ha1 : isStation a1) {o5 : Option Value} {o6 : Option Value} {o7 : Option Value} {m : xMem} {r : xMem} (q5 : xNoD o5 = true) (q6 : xNoD o6 = true) (q7 : xNoD o7 = true) (h : fX6_lift_16 a0 a1 a2 a3 a4 m = some r) : xFx hh_143 cX6_lift d 16 [some (.ref a0), some (.ref a1), some (.int a2), some (.int a3), some (.int a4), o5, o6, o7] [] (xLay m) 0 0 none (xLay r) := by
  unfold fX6_lift_16 at h
  cases h
  exact fx_return dX6_lift_16 rfl rfl
def fX6_lift_65 (a0 : Nat) (a1 : Nat) (a2 : Int32) (a3 : Int32) (a4 : Int32) (m : xMem) : Option xMem := some m
set_option maxRecDepth 4000 in
theorem fX6_lift_65_ok {a0 : Nat} {a1 : Nat} {a2 : Int32} {a3 : Int32} {a4 : Int32} {d : Nat} (hd : 2 ≤ d) (ha0 : isMover a0) (ha1 : isStation a1) {o5 : Option Value} {o6 : Option Value} {o7 : Option Value} {m : xMem} {r : xMem} (q5 : xNoD o5 = true) (q6 : xNoD o6 = true) (q7 : xNoD o7 = true) (h : fX6_lift_65 a0 a1 a2 a3 a4 m = some r) : xFx hh_143 cX6_lift d 65 [some (.ref a0), some (.ref a1), some (.int a2), some (.int a3), some (.int a4), o5, o6, o7] [] (xLay m) 0 0 none (xLay r) := by
  unfold fX6_lift_65 at h
  cases h
  exact fx_return dX6_lift_65 rfl rfl
def fX6_lift_28 (a0 : Nat) (a1 : Nat) (a2 : Int32) (a3 : Int32) (a4 : Int32) : Nat → Nat → Int32 → xMem → Option xMem
  | 0, _, _, _ => none
  | fuel + 1, l5, l6, m => xLet (m.1 l5 4) fun x1 => if x1 ≤ l6 then some m else (fX6_goalOfMost a0 a1 a2 a3 (1 : Int32) m).bind fun p3 => if p3.1 = (-1 : Int32) then fX6_lift_65 a0 a1 a2 a3 a4 p3.2 else (fX9_admits a1 a4 p3.1 p3.2).bind fun p5 => if ¬ p5.1 = (0 : Int32) then bif xIn a3 6 then xLet (a1 + 15 + 3 * a3.toNatClampNeg) fun r8 => (fX2_change r8 p3.1 (1 : Int32) (-1 : Int32) p5.2).bind fun p9 => (fX9_comeTo a1 a4 p3.1 (1 : Int32) (1 : Int32) p9).bind fun p10 => xLet (p10.1 l5 10) fun x11 => xLet (x11 + (1 : Int32)) fun x12 => xLet (xPut p10 l5 10 x12) fun m13 => xLet (m13.1 l5 11) fun x14 => xLet (x14 + (1 : Int32)) fun x15 => xLet (xPut m13 l5 11 x15) fun m16 => xLet (l6 + (1 : Int32)) fun x17 => fX6_lift_28 a0 a1 a2 a3 a4 fuel l5 x17 m16 else none else fX6_lift_65 a0 a1 a2 a3 a4 p5.2
set_option maxRecDepth 4000 in
theorem fX6_lift_28_ok {a0 : Nat} {a1 : Nat} {a2 : Int32} {a3 : Int32} {a4 : Int32} {d : Nat} (hd : 2 ≤ d) (ha0 : isMover a0) (ha1 : isStation a1) : ∀ (fuel : Nat) (l5 : Nat) (l6 : Int32) (o7 : Option Value) (q7 : xNoD o7 = true) (m : xMem) (r : xMem) (hl5 : isLink l5), fX6_lift_28 a0 a1 a2 a3 a4 fuel l5 l6 m = some r → xFx hh_143 cX6_lift d 28 [some (.ref a0), some (.ref a1), some (.int a2), some (.int a3), some (.int a4), some (.ref l5), some (.int l6), o7] [] (xLay m) 0 0 none (xLay r) := by
  intro fuel
  induction fuel with
  | zero => intro l5 l6 o7 q7 m r hl5 h; cases h
  | succ fuel ih =>
    intro l5 l6 o7 q7 m r hl5 h
    unfold fX6_lift_28 at h
    refine fx_iload dX6_lift_28 rfl rfl ?_
    refine fx_aload dX6_lift_30 rfl rfl ?_
    obtain ⟨x1, hx1, h⟩ := xLet_el h
    refine gx_get dX6_lift_32 rfl fd_6_189 hl5.1 rfl rfl hx1 ?_
    refine fx_icmp_ge (t := 117) dX6_lift_35 rfl rfl (fun hc2 => ?_) (fun hc2 => ?_)
    · rw [if_pos hc2] at h
      cases h
      exact fx_return dX6_lift_117 rfl rfl
    · rw [if_neg hc2] at h
      refine fx_aload_n dX6_lift_38 rfl rfl ?_
      refine fx_aload_n dX6_lift_39 rfl rfl ?_
      refine fx_iload_n dX6_lift_40 rfl rfl ?_
      refine fx_iload_n dX6_lift_41 rfl rfl ?_
      refine fx_iconst (x := 1) dX6_lift_42 rfl (by decide) ?_
      obtain ⟨p3, ep3, h⟩ := xBind_el h
      refine gx_callv (as := [.ref a1, .int a2, .int a3, .int (1 : Int32)]) (r := []) rfl dX6_lift_43 ca_6_190 rfl me_144 rfl rfl rfl rfl (ha0.1) rfl (fX6_goalOfMost_ok (d := d) (by omega) ha0 ha1 ep3) rfl rfl ?_
      refine fx_istore (ls2 := [some (.ref a0), some (.ref a1), some (.int a2), some (.int a3), some (.int a4), some (.ref l5), some (.int l6), some (.int p3.1)]) dX6_lift_46 rfl rfl rfl ?_
      refine fx_iload dX6_lift_48 rfl rfl ?_
      refine fx_iconst (x := -1) dX6_lift_50 rfl (by decide) ?_
      refine fx_icmp_eq (t := 65) dX6_lift_51 rfl rfl (fun hc4 => ?_) (fun hc4 => ?_)
      · rw [if_pos hc4] at h
        exact fX6_lift_65_ok (o5 := some (.ref l5)) (o6 := some (.int l6)) (o7 := some (.int p3.1)) hd ha0 ha1 rfl rfl rfl h
      · rw [if_neg hc4] at h
        refine fx_aload_n dX6_lift_54 rfl rfl ?_
        refine fx_iload dX6_lift_55 rfl rfl ?_
        refine fx_iload dX6_lift_57 rfl rfl ?_
        obtain ⟨p5, ep5, h⟩ := xBind_el h
        refine gx_callv (as := [.int a4, .int p3.1]) (r := []) rfl dX6_lift_59 ca_6_194 rfl me_147 rfl rfl rfl rfl (ha1.1) rfl (fX9_admits_ok (d := d) (by omega) ha1 ep5) rfl rfl ?_
        refine fx_if_ne (t := 66) dX6_lift_62 rfl rfl (fun hc6 => ?_) (fun hc6 => ?_)
        · rw [if_pos hc6] at h
          refine fx_aload_n dX6_lift_66 rfl rfl ?_
          refine gx_getr dX6_lift_67 rfl fd_6_96 ha1.1 rfl rfl ?_
          refine fx_iload_n dX6_lift_70 rfl rfl ?_
          obtain ⟨hj7, h⟩ := xChk_el h
          obtain ⟨r8, hr8, h⟩ := xLet_el h
          refine gx_aaload (t := 4) dX6_lift_71 rfl ha1.2.1 rfl hj7 ((xRef_at (sl_9_0 a1) hj7).trans (congrArg some hr8)) ?_
          have hpr8 : isHall r8 := by rw [← hr8]; exact ha1.2.2.2.2.2.2.2.1 _ (xIn_lt hj7)
          refine fx_iload dX6_lift_72 rfl rfl ?_
          refine fx_iconst (x := 1) dX6_lift_74 rfl (by decide) ?_
          refine fx_iconst (x := -1) dX6_lift_75 rfl (by decide) ?_
          obtain ⟨p9, ep9, h⟩ := xBind_el h
          refine gx_callv (as := [.int p3.1, .int (1 : Int32), .int (-1 : Int32)]) (r := []) rfl dX6_lift_76 ca_6_198 rfl me_124 rfl rfl rfl rfl (hpr8.1) rfl (fX2_change_ok (d := d) (by omega) hpr8 ep9) rfl rfl ?_
          refine fx_aload_n dX6_lift_79 rfl rfl ?_
          refine fx_iload dX6_lift_80 rfl rfl ?_
          refine fx_iload dX6_lift_82 rfl rfl ?_
          refine fx_iconst (x := 1) dX6_lift_84 rfl (by decide) ?_
          refine fx_iconst (x := 1) dX6_lift_85 rfl (by decide) ?_
          obtain ⟨p10, ep10, h⟩ := xBind_el h
          refine gx_callv (as := [.int a4, .int p3.1, .int (1 : Int32), .int (1 : Int32)]) (r := []) rfl dX6_lift_86 ca_6_85 rfl me_123 rfl rfl rfl rfl (ha1.1) rfl (fX9_comeTo_ok (d := d) (by omega) ha1 ep10) rfl rfl ?_
          refine fx_aload dX6_lift_89 rfl rfl ?_
          refine fx_dup dX6_lift_91 rfl rfl ?_
          obtain ⟨x11, hx11, h⟩ := xLet_el h
          refine gx_get dX6_lift_92 rfl fd_6_201 hl5.1 rfl rfl hx11 ?_
          refine fx_iconst (x := 1) dX6_lift_95 rfl (by decide) ?_
          obtain ⟨x12, hx12, h⟩ := xLet_el h
          refine fx_iadd dX6_lift_96 rfl hx12 ?_
          obtain ⟨m13, hm13, h⟩ := xLet_el h
          refine gx_put dX6_lift_97 rfl fd_6_201 hl5.1 rfl rfl rfl hm13 ?_
          refine fx_aload dX6_lift_100 rfl rfl ?_
          refine fx_dup dX6_lift_102 rfl rfl ?_
          obtain ⟨x14, hx14, h⟩ := xLet_el h
          refine gx_get dX6_lift_103 rfl fd_6_204 hl5.1 rfl rfl hx14 ?_
          refine fx_iconst (x := 1) dX6_lift_106 rfl (by decide) ?_
          obtain ⟨x15, hx15, h⟩ := xLet_el h
          refine fx_iadd dX6_lift_107 rfl hx15 ?_
          obtain ⟨m16, hm16, h⟩ := xLet_el h
          refine gx_put dX6_lift_108 rfl fd_6_204 hl5.1 rfl rfl rfl hm16 ?_
          obtain ⟨x17, hx17, h⟩ := xLet_el h
          refine fx_iinc (ls2 := [some (.ref a0), some (.ref a1), some (.int a2), some (.int a3), some (.int a4), some (.ref l5), some (.int x17), some (.int p3.1)]) dX6_lift_111 rfl rfl rfl hx17 rfl ?_
          refine fx_goto (t := 28) dX6_lift_114 rfl rfl ?_
          exact ih l5 x17 (some (.int p3.1)) rfl m16 r hl5 h
        · rw [if_neg hc6] at h
          exact fX6_lift_65_ok (o5 := some (.ref l5)) (o6 := some (.int l6)) (o7 := some (.int p3.1)) hd ha0 ha1 rfl rfl rfl h
def fX6_lift_0 (a0 : Nat) (a1 : Nat) (a2 : Int32) (a3 : Int32) (a4 : Int32) (m : xMem) : Option xMem := (fX9_hasLink a1 a2 m).bind fun p1 => if p1.1 = (0 : Int32) then fX6_lift_16 a0 a1 a2 a3 a4 p1.2 else (fX9_hasHall a1 a3 p1.2).bind fun p3 => if ¬ p3.1 = (0 : Int32) then bif xIn a2 10 then xLet (a1 + 33 + 2 * a2.toNatClampNeg) fun r6 => fX6_lift_28 a0 a1 a2 a3 a4 xFuel r6 (0 : Int32) p3.2 else none else fX6_lift_16 a0 a1 a2 a3 a4 p3.2
set_option maxRecDepth 4000 in
theorem fX6_lift_0_ok {a0 : Nat} {a1 : Nat} {a2 : Int32} {a3 : Int32} {a4 : Int32} {d : Nat} (hd : 2 ≤ d) (ha0 : isMover a0) (ha1 : isStation a1) {o5 : Option Value} {o6 : Option Value} {o7 : Option Value} {m : xMem} {r : xMem} (q5 : xNoD o5 = true) (q6 : xNoD o6 = true) (q7 : xNoD o7 = true) (h : fX6_lift_0 a0 a1 a2 a3 a4 m = some r) : xFx hh_143 cX6_lift d 0 [some (.ref a0), some (.ref a1), some (.int a2), some (.int a3), some (.int a4), o5, o6, o7] [] (xLay m) 0 0 none (xLay r) := by
  unfold fX6_lift_0 at h
  refine fx_aload_n dX6_lift_0 rfl rfl ?_
  refine fx_iload_n dX6_lift_1 rfl rfl ?_
  obtain ⟨p1, ep1, h⟩ := xBind_el h
  refine gx_callv (as := [.int a2]) (r := []) rfl dX6_lift_2 ca_6_186 rfl me_29 rfl rfl rfl rfl (ha1.1) rfl (fX9_hasLink_ok (d := d) (by omega) ha1 ep1) rfl rfl ?_
  refine fx_if_eq (t := 16) dX6_lift_5 rfl rfl (fun hc2 => ?_) (fun hc2 => ?_)
  · rw [if_pos hc2] at h
    exact fX6_lift_16_ok (o5 := o5) (o6 := o6) (o7 := o7) hd ha0 ha1 q5 q6 q7 h
  · rw [if_neg hc2] at h
    refine fx_aload_n dX6_lift_8 rfl rfl ?_
    refine fx_iload_n dX6_lift_9 rfl rfl ?_
    obtain ⟨p3, ep3, h⟩ := xBind_el h
    refine gx_callv (as := [.int a3]) (r := []) rfl dX6_lift_10 ca_6_69 rfl me_20 rfl rfl rfl rfl (ha1.1) rfl (fX9_hasHall_ok (d := d) (by omega) ha1 ep3) rfl rfl ?_
    refine fx_if_ne (t := 17) dX6_lift_13 rfl rfl (fun hc4 => ?_) (fun hc4 => ?_)
    · rw [if_pos hc4] at h
      refine fx_aload_n dX6_lift_17 rfl rfl ?_
      refine gx_getr dX6_lift_18 rfl fd_6_144 ha1.1 rfl rfl ?_
      refine fx_iload_n dX6_lift_21 rfl rfl ?_
      obtain ⟨hj5, h⟩ := xChk_el h
      obtain ⟨r6, hr6, h⟩ := xLet_el h
      refine gx_aaload (t := 5) dX6_lift_22 rfl ha1.2.2.1 rfl hj5 ((xRef_at (sl_9_1 a1) hj5).trans (congrArg some hr6)) ?_
      have hpr6 : isLink r6 := by rw [← hr6]; exact ha1.2.2.2.2.2.2.2.2.1 _ (xIn_lt hj5)
      refine fx_astore (ls2 := [some (.ref a0), some (.ref a1), some (.int a2), some (.int a3), some (.int a4), some (.ref r6), o6, o7]) dX6_lift_23 rfl rfl rfl ?_
      refine fx_iconst (x := 0) dX6_lift_25 rfl (by decide) ?_
      refine fx_istore (ls2 := [some (.ref a0), some (.ref a1), some (.int a2), some (.int a3), some (.int a4), some (.ref r6), some (.int (0 : Int32)), o7]) dX6_lift_26 rfl rfl rfl ?_
      exact fX6_lift_28_ok hd ha0 ha1 xFuel r6 (0 : Int32) (o7) q7 p3.2 r hpr6 h
    · rw [if_neg hc4] at h
      exact fX6_lift_16_ok (o5 := o5) (o6 := o6) (o7 := o7) hd ha0 ha1 q5 q6 q7 h
def fX6_lift (a0 : Nat) (a1 : Nat) (a2 : Int32) (a3 : Int32) (a4 : Int32) (m : xMem) : Option xMem := fX6_lift_0 a0 a1 a2 a3 a4  m
theorem fX6_lift_ok {a0 : Nat} {a1 : Nat} {a2 : Int32} {a3 : Int32} {a4 : Int32} {m : xMem} {r : xMem} {d : Nat} (hd : 3 ≤ d) (ha0 : isMover a0) (ha1 : isStation a1) (h : fX6_lift a0 a1 a2 a3 a4 m = some r) : xEx d 143 [.ref a0, .ref a1, .int a2, .int a3, .int a4] (xLay m) none (xLay r) := by
  obtain ⟨d, rfl⟩ : ∃ q, d = q + 1 := ⟨d - 1, by omega⟩
  exact xEx_of me_143 rfl (fX6_lift_0_ok (d := d) (o5 := none) (o6 := none) (o7 := none) (by omega) ha0 ha1 rfl rfl rfl h)
def fX10_walk_65 (a0 : Nat) (a1 : Nat) (m : xMem) : Option (Int32 × xMem) := some ((4 : Int32), m)
set_option maxRecDepth 4000 in
theorem fX10_walk_65_ok {a0 : Nat} {a1 : Nat} {d : Nat} (hd : 2 ≤ d) (ha0 : isText a0) (ha1 : isNames a1) {o2 : Option Value} {o3 : Option Value} {m : xMem} {r : (Int32 × xMem)} (q2 : xNoD o2 = true) (q3 : xNoD o3 = true) (h : fX10_walk_65 a0 a1 m = some r) : xFx hh_149 cX10_walk d 65 [some (.ref a0), some (.ref a1), o2, o3] [] (xLay m) 0 0 (some (.int r.1)) (xLay r.2) := by
  unfold fX10_walk_65 at h
  refine fx_iconst (x := 4) dX10_walk_65 rfl (by decide) ?_
  cases h
  exact fx_ireturn dX10_walk_66 rfl rfl
def fX10_walk_4 (a0 : Nat) (a1 : Nat) : Nat → Int32 → Int32 → xMem → Option (Int32 × xMem)
  | 0, _, _, _ => none
  | fuel + 1, l2, l3, m => xLet (m.1 a0 6) fun x1 => if x1 ≤ l3 then fX10_walk_65 a0 a1 m else if (10 : Int32) ≤ l3 then fX10_walk_65 a0 a1 m else bif xIn l3 10 then xLet (m.1 (a0 + 3) l3.toNatClampNeg) fun x4 => if ¬ x4 = (0 : Int32) then bif xIn l3 10 then xLet (m.1 (a0 + 4) l3.toNatClampNeg) fun x7 => xLet (l3 + (1 : Int32)) fun x9 => fX10_walk_4 a0 a1 fuel x7 x9 m else none else bif xIn l3 10 then xLet (m.1 (a0 + 4) l3.toNatClampNeg) fun x10 => (fX10_worth a0 l2 x10 a1 m).bind fun p12 => xLet (xMin (10 : Int32) p12.1) fun x13 => xLet (xMax (0 : Int32) x13) fun x14 => some (x14, p12.2) else none else none
set_option maxRecDepth 4000 in
theorem fX10_walk_4_ok {a0 : Nat} {a1 : Nat} {d : Nat} (hd : 2 ≤ d) (ha0 : isText a0) (ha1 : isNames a1) : ∀ (fuel : Nat) (l2 : Int32) (l3 : Int32) (m : xMem) (r : (Int32 × xMem)), fX10_walk_4 a0 a1 fuel l2 l3 m = some r → xFx hh_149 cX10_walk d 4 [some (.ref a0), some (.ref a1), some (.int l2), some (.int l3)] [] (xLay m) 0 0 (some (.int r.1)) (xLay r.2) := by
  intro fuel
  induction fuel with
  | zero => intro l2 l3  m r  h; cases h
  | succ fuel ih =>
    intro l2 l3  m r  h
    unfold fX10_walk_4 at h
    refine fx_iload_n dX10_walk_4 rfl rfl ?_
    refine fx_aload_n dX10_walk_5 rfl rfl ?_
    obtain ⟨x1, hx1, h⟩ := xLet_el h
    refine gx_get dX10_walk_6 rfl fd_10_31 ha0.1 rfl rfl hx1 ?_
    refine fx_icmp_ge (t := 65) dX10_walk_9 rfl rfl (fun hc2 => ?_) (fun hc2 => ?_)
    · rw [if_pos hc2] at h
      exact fX10_walk_65_ok (o2 := some (.int l2)) (o3 := some (.int l3)) hd ha0 ha1 rfl rfl h
    · rw [if_neg hc2] at h
      refine fx_iload_n dX10_walk_12 rfl rfl ?_
      refine fx_aload_n dX10_walk_13 rfl rfl ?_
      refine gx_getr dX10_walk_14 rfl fd_10_18 ha0.1 rfl rfl ?_
      refine gx_alen (t := 1) (y := 10) dX10_walk_17 rfl ha0.2.2.2.1 rfl (by decide) ?_
      refine fx_icmp_ge (t := 65) dX10_walk_18 rfl rfl (fun hc3 => ?_) (fun hc3 => ?_)
      · rw [if_pos hc3] at h
        exact fX10_walk_65_ok (o2 := some (.int l2)) (o3 := some (.int l3)) hd ha0 ha1 rfl rfl h
      · rw [if_neg hc3] at h
        refine fx_aload_n dX10_walk_21 rfl rfl ?_
        refine gx_getr dX10_walk_22 rfl fd_10_18 ha0.1 rfl rfl ?_
        refine fx_iload_n dX10_walk_25 rfl rfl ?_
        obtain ⟨hj5, h⟩ := xChk_el h
        obtain ⟨x4, hx4, h⟩ := xLet_el h
        refine gx_iaload dX10_walk_26 rfl ha0.2.2.2.1 hj5 hx4 ?_
        refine fx_if_ne (t := 52) dX10_walk_27 rfl rfl (fun hc6 => ?_) (fun hc6 => ?_)
        · rw [if_pos hc6] at h
          refine fx_aload_n dX10_walk_52 rfl rfl ?_
          refine gx_getr dX10_walk_53 rfl fd_10_21 ha0.1 rfl rfl ?_
          refine fx_iload_n dX10_walk_56 rfl rfl ?_
          obtain ⟨hj8, h⟩ := xChk_el h
          obtain ⟨x7, hx7, h⟩ := xLet_el h
          refine gx_iaload dX10_walk_57 rfl ha0.2.2.2.2.1 hj8 hx7 ?_
          refine fx_istore_n (ls2 := [some (.ref a0), some (.ref a1), some (.int x7), some (.int l3)]) dX10_walk_58 rfl rfl rfl ?_
          obtain ⟨x9, hx9, h⟩ := xLet_el h
          refine fx_iinc (ls2 := [some (.ref a0), some (.ref a1), some (.int x7), some (.int x9)]) dX10_walk_59 rfl rfl rfl hx9 rfl ?_
          refine fx_goto (t := 4) dX10_walk_62 rfl rfl ?_
          exact ih x7 x9 m r h
        · rw [if_neg hc6] at h
          refine fx_iconst (x := 0) dX10_walk_30 rfl (by decide) ?_
          refine fx_bipush (x := 10) dX10_walk_31 rfl (by decide) ?_
          refine fx_aload_n dX10_walk_33 rfl rfl ?_
          refine fx_iload_n dX10_walk_34 rfl rfl ?_
          refine fx_aload_n dX10_walk_35 rfl rfl ?_
          refine gx_getr dX10_walk_36 rfl fd_10_21 ha0.1 rfl rfl ?_
          refine fx_iload_n dX10_walk_39 rfl rfl ?_
          obtain ⟨hj11, h⟩ := xChk_el h
          obtain ⟨x10, hx10, h⟩ := xLet_el h
          refine gx_iaload dX10_walk_40 rfl ha0.2.2.2.2.1 hj11 hx10 ?_
          refine fx_aload_n dX10_walk_41 rfl rfl ?_
          obtain ⟨p12, ep12, h⟩ := xBind_el h
          refine gx_callv (as := [.int l2, .int x10, .ref a1]) (r := [.int (10 : Int32), .int (0 : Int32)]) rfl dX10_walk_42 ca_10_34 rfl me_127 rfl rfl rfl rfl (ha0.1) rfl (fX10_worth_ok (d := d) (by omega) ha0 ha1 ep12) rfl rfl ?_
          obtain ⟨x13, hx13, h⟩ := xLet_el h
          refine fx_imin dX10_walk_45 rfl ca_10_38 rfl hx13 ?_
          obtain ⟨x14, hx14, h⟩ := xLet_el h
          refine fx_imax dX10_walk_48 rfl ca_10_44 rfl hx14 ?_
          cases h
          exact fx_ireturn dX10_walk_51 rfl rfl
def fX10_walk_0 (a0 : Nat) (a1 : Nat) (m : xMem) : Option (Int32 × xMem) := fX10_walk_4 a0 a1 xFuel (0 : Int32) (0 : Int32) m
set_option maxRecDepth 4000 in
theorem fX10_walk_0_ok {a0 : Nat} {a1 : Nat} {d : Nat} (hd : 2 ≤ d) (ha0 : isText a0) (ha1 : isNames a1) {o2 : Option Value} {o3 : Option Value} {m : xMem} {r : (Int32 × xMem)} (q2 : xNoD o2 = true) (q3 : xNoD o3 = true) (h : fX10_walk_0 a0 a1 m = some r) : xFx hh_149 cX10_walk d 0 [some (.ref a0), some (.ref a1), o2, o3] [] (xLay m) 0 0 (some (.int r.1)) (xLay r.2) := by
  unfold fX10_walk_0 at h
  refine fx_iconst (x := 0) dX10_walk_0 rfl (by decide) ?_
  refine fx_istore_n (ls2 := [some (.ref a0), some (.ref a1), some (.int (0 : Int32)), o3]) dX10_walk_1 rfl rfl rfl ?_
  refine fx_iconst (x := 0) dX10_walk_2 rfl (by decide) ?_
  refine fx_istore_n (ls2 := [some (.ref a0), some (.ref a1), some (.int (0 : Int32)), some (.int (0 : Int32))]) dX10_walk_3 rfl rfl rfl ?_
  exact fX10_walk_4_ok hd ha0 ha1 xFuel (0 : Int32) (0 : Int32) m r h
def fX10_walk (a0 : Nat) (a1 : Nat) (m : xMem) : Option (Int32 × xMem) := fX10_walk_0 a0 a1  m
theorem fX10_walk_ok {a0 : Nat} {a1 : Nat} {m : xMem} {r : (Int32 × xMem)} {d : Nat} (hd : 3 ≤ d) (ha0 : isText a0) (ha1 : isNames a1) (h : fX10_walk a0 a1 m = some r) : xEx d 149 [.ref a0, .ref a1] (xLay m) (some (.int r.1)) (xLay r.2) := by
  obtain ⟨d, rfl⟩ : ∃ q, d = q + 1 := ⟨d - 1, by omega⟩
  exact xEx_of me_149 rfl (fX10_walk_0_ok (d := d) (o2 := none) (o3 := none) (by omega) ha0 ha1 rfl rfl h)
