theorem bdX12_saysOf_0 : (decode cX12_saysOf 0 = .ok (.iconst 0, 1)) ∧ (decode cX12_saysOf 1 = .ok (.istore_n 2, 1)) ∧ (decode cX12_saysOf 2 = .ok (.iload_n 1, 1)) ∧ (decode cX12_saysOf 3 = .ok (.istore_n 3, 1)) ∧ (decode cX12_saysOf 4 = .ok (.aload_n 0, 1)) ∧ (decode cX12_saysOf 5 = .ok (.getfield 39, 3)) ∧ (decode cX12_saysOf 8 = .ok (.iload_n 3, 1)) ∧ (decode cX12_saysOf 9 = .ok (.iaload, 1)) ∧ (decode cX12_saysOf 10 = .ok (.sipush 408, 3)) ∧ (decode cX12_saysOf 13 = .ok (.if_icmp .eq 162, 3)) ∧ (decode cX12_saysOf 16 = .ok (.aload_n 0, 1)) ∧ (decode cX12_saysOf 17 = .ok (.getfield 39, 3)) ∧ (decode cX12_saysOf 20 = .ok (.iload_n 3, 1)) ∧ (decode cX12_saysOf 21 = .ok (.iaload, 1)) ∧ (decode cX12_saysOf 22 = .ok (.istore 4, 2)) ∧ (decode cX12_saysOf 24 = .ok (.iload 4, 2)) := by decide +kernel
theorem dX12_saysOf_0 : decode cX12_saysOf 0 = .ok (.iconst 0, 1) := bdX12_saysOf_0.1
theorem dX12_saysOf_1 : decode cX12_saysOf 1 = .ok (.istore_n 2, 1) := bdX12_saysOf_0.2.1
theorem dX12_saysOf_2 : decode cX12_saysOf 2 = .ok (.iload_n 1, 1) := bdX12_saysOf_0.2.2.1
theorem dX12_saysOf_3 : decode cX12_saysOf 3 = .ok (.istore_n 3, 1) := bdX12_saysOf_0.2.2.2.1
theorem dX12_saysOf_4 : decode cX12_saysOf 4 = .ok (.aload_n 0, 1) := bdX12_saysOf_0.2.2.2.2.1
theorem dX12_saysOf_5 : decode cX12_saysOf 5 = .ok (.getfield 39, 3) := bdX12_saysOf_0.2.2.2.2.2.1
theorem dX12_saysOf_8 : decode cX12_saysOf 8 = .ok (.iload_n 3, 1) := bdX12_saysOf_0.2.2.2.2.2.2.1
theorem dX12_saysOf_9 : decode cX12_saysOf 9 = .ok (.iaload, 1) := bdX12_saysOf_0.2.2.2.2.2.2.2.1
theorem dX12_saysOf_10 : decode cX12_saysOf 10 = .ok (.sipush 408, 3) := bdX12_saysOf_0.2.2.2.2.2.2.2.2.1
theorem dX12_saysOf_13 : decode cX12_saysOf 13 = .ok (.if_icmp .eq 162, 3) := bdX12_saysOf_0.2.2.2.2.2.2.2.2.2.1
theorem dX12_saysOf_16 : decode cX12_saysOf 16 = .ok (.aload_n 0, 1) := bdX12_saysOf_0.2.2.2.2.2.2.2.2.2.2.1
theorem dX12_saysOf_17 : decode cX12_saysOf 17 = .ok (.getfield 39, 3) := bdX12_saysOf_0.2.2.2.2.2.2.2.2.2.2.2.1
theorem dX12_saysOf_20 : decode cX12_saysOf 20 = .ok (.iload_n 3, 1) := bdX12_saysOf_0.2.2.2.2.2.2.2.2.2.2.2.2.1
theorem dX12_saysOf_21 : decode cX12_saysOf 21 = .ok (.iaload, 1) := bdX12_saysOf_0.2.2.2.2.2.2.2.2.2.2.2.2.2.1
theorem dX12_saysOf_22 : decode cX12_saysOf 22 = .ok (.istore 4, 2) := bdX12_saysOf_0.2.2.2.2.2.2.2.2.2.2.2.2.2.2.1
theorem dX12_saysOf_24 : decode cX12_saysOf 24 = .ok (.iload 4, 2) := bdX12_saysOf_0.2.2.2.2.2.2.2.2.2.2.2.2.2.2.2
theorem bdX12_saysOf_26 : (decode cX12_saysOf 26 = .ok (.sipush 400, 3)) ∧ (decode cX12_saysOf 29 = .ok (.if_icmp .eq 11, 3)) ∧ (decode cX12_saysOf 32 = .ok (.iload 4, 2)) ∧ (decode cX12_saysOf 34 = .ok (.sipush 401, 3)) ∧ (decode cX12_saysOf 37 = .ok (.if_icmp .ne 45, 3)) ∧ (decode cX12_saysOf 40 = .ok (.aload_n 0, 1)) ∧ (decode cX12_saysOf 41 = .ok (.getfield 72, 3)) ∧ (decode cX12_saysOf 44 = .ok (.iload_n 2, 1)) ∧ (decode cX12_saysOf 45 = .ok (.iload 4, 2)) ∧ (decode cX12_saysOf 47 = .ok (.sipush 400, 3)) ∧ (decode cX12_saysOf 50 = .ok (.if_icmp .ne 13, 3)) ∧ (decode cX12_saysOf 53 = .ok (.aload_n 0, 1)) ∧ (decode cX12_saysOf 54 = .ok (.getfield 42, 3)) ∧ (decode cX12_saysOf 57 = .ok (.iload_n 3, 1)) ∧ (decode cX12_saysOf 58 = .ok (.iaload, 1)) ∧ (decode cX12_saysOf 59 = .ok (.i2l, 1)) := by decide +kernel
theorem dX12_saysOf_26 : decode cX12_saysOf 26 = .ok (.sipush 400, 3) := bdX12_saysOf_26.1
theorem dX12_saysOf_29 : decode cX12_saysOf 29 = .ok (.if_icmp .eq 11, 3) := bdX12_saysOf_26.2.1
theorem dX12_saysOf_32 : decode cX12_saysOf 32 = .ok (.iload 4, 2) := bdX12_saysOf_26.2.2.1
theorem dX12_saysOf_34 : decode cX12_saysOf 34 = .ok (.sipush 401, 3) := bdX12_saysOf_26.2.2.2.1
theorem dX12_saysOf_37 : decode cX12_saysOf 37 = .ok (.if_icmp .ne 45, 3) := bdX12_saysOf_26.2.2.2.2.1
theorem dX12_saysOf_40 : decode cX12_saysOf 40 = .ok (.aload_n 0, 1) := bdX12_saysOf_26.2.2.2.2.2.1
theorem dX12_saysOf_41 : decode cX12_saysOf 41 = .ok (.getfield 72, 3) := bdX12_saysOf_26.2.2.2.2.2.2.1
theorem dX12_saysOf_44 : decode cX12_saysOf 44 = .ok (.iload_n 2, 1) := bdX12_saysOf_26.2.2.2.2.2.2.2.1
theorem dX12_saysOf_45 : decode cX12_saysOf 45 = .ok (.iload 4, 2) := bdX12_saysOf_26.2.2.2.2.2.2.2.2.1
theorem dX12_saysOf_47 : decode cX12_saysOf 47 = .ok (.sipush 400, 3) := bdX12_saysOf_26.2.2.2.2.2.2.2.2.2.1
theorem dX12_saysOf_50 : decode cX12_saysOf 50 = .ok (.if_icmp .ne 13, 3) := bdX12_saysOf_26.2.2.2.2.2.2.2.2.2.2.1
theorem dX12_saysOf_53 : decode cX12_saysOf 53 = .ok (.aload_n 0, 1) := bdX12_saysOf_26.2.2.2.2.2.2.2.2.2.2.2.1
theorem dX12_saysOf_54 : decode cX12_saysOf 54 = .ok (.getfield 42, 3) := bdX12_saysOf_26.2.2.2.2.2.2.2.2.2.2.2.2.1
theorem dX12_saysOf_57 : decode cX12_saysOf 57 = .ok (.iload_n 3, 1) := bdX12_saysOf_26.2.2.2.2.2.2.2.2.2.2.2.2.2.1
theorem dX12_saysOf_58 : decode cX12_saysOf 58 = .ok (.iaload, 1) := bdX12_saysOf_26.2.2.2.2.2.2.2.2.2.2.2.2.2.2.1
theorem dX12_saysOf_59 : decode cX12_saysOf 59 = .ok (.i2l, 1) := bdX12_saysOf_26.2.2.2.2.2.2.2.2.2.2.2.2.2.2.2
theorem bdX12_saysOf_60 : (decode cX12_saysOf 60 = .ok (.goto 15, 3)) ∧ (decode cX12_saysOf 63 = .ok (.aload_n 0, 1)) ∧ (decode cX12_saysOf 64 = .ok (.getfield 69, 3)) ∧ (decode cX12_saysOf 67 = .ok (.aload_n 0, 1)) ∧ (decode cX12_saysOf 68 = .ok (.getfield 42, 3)) ∧ (decode cX12_saysOf 71 = .ok (.iload_n 3, 1)) ∧ (decode cX12_saysOf 72 = .ok (.iaload, 1)) ∧ (decode cX12_saysOf 73 = .ok (.iaload, 1)) ∧ (decode cX12_saysOf 74 = .ok (.i2l, 1)) ∧ (decode cX12_saysOf 75 = .ok (.lastore, 1)) ∧ (decode cX12_saysOf 76 = .ok (.iinc 2 1, 3)) ∧ (decode cX12_saysOf 79 = .ok (.goto 90, 3)) ∧ (decode cX12_saysOf 82 = .ok (.iload 4, 2)) ∧ (decode cX12_saysOf 84 = .ok (.sipush 402, 3)) ∧ (decode cX12_saysOf 87 = .ok (.if_icmp .ne 23, 3)) ∧ (decode cX12_saysOf 90 = .ok (.aload_n 0, 1)) := by decide +kernel
theorem dX12_saysOf_60 : decode cX12_saysOf 60 = .ok (.goto 15, 3) := bdX12_saysOf_60.1
theorem dX12_saysOf_63 : decode cX12_saysOf 63 = .ok (.aload_n 0, 1) := bdX12_saysOf_60.2.1
theorem dX12_saysOf_64 : decode cX12_saysOf 64 = .ok (.getfield 69, 3) := bdX12_saysOf_60.2.2.1
theorem dX12_saysOf_67 : decode cX12_saysOf 67 = .ok (.aload_n 0, 1) := bdX12_saysOf_60.2.2.2.1
theorem dX12_saysOf_68 : decode cX12_saysOf 68 = .ok (.getfield 42, 3) := bdX12_saysOf_60.2.2.2.2.1
theorem dX12_saysOf_71 : decode cX12_saysOf 71 = .ok (.iload_n 3, 1) := bdX12_saysOf_60.2.2.2.2.2.1
theorem dX12_saysOf_72 : decode cX12_saysOf 72 = .ok (.iaload, 1) := bdX12_saysOf_60.2.2.2.2.2.2.1
theorem dX12_saysOf_73 : decode cX12_saysOf 73 = .ok (.iaload, 1) := bdX12_saysOf_60.2.2.2.2.2.2.2.1
theorem dX12_saysOf_74 : decode cX12_saysOf 74 = .ok (.i2l, 1) := bdX12_saysOf_60.2.2.2.2.2.2.2.2.1
theorem dX12_saysOf_75 : decode cX12_saysOf 75 = .ok (.lastore, 1) := bdX12_saysOf_60.2.2.2.2.2.2.2.2.2.1
theorem dX12_saysOf_76 : decode cX12_saysOf 76 = .ok (.iinc 2 1, 3) := bdX12_saysOf_60.2.2.2.2.2.2.2.2.2.2.1
theorem dX12_saysOf_79 : decode cX12_saysOf 79 = .ok (.goto 90, 3) := bdX12_saysOf_60.2.2.2.2.2.2.2.2.2.2.2.1
theorem dX12_saysOf_82 : decode cX12_saysOf 82 = .ok (.iload 4, 2) := bdX12_saysOf_60.2.2.2.2.2.2.2.2.2.2.2.2.1
theorem dX12_saysOf_84 : decode cX12_saysOf 84 = .ok (.sipush 402, 3) := bdX12_saysOf_60.2.2.2.2.2.2.2.2.2.2.2.2.2.1
theorem dX12_saysOf_87 : decode cX12_saysOf 87 = .ok (.if_icmp .ne 23, 3) := bdX12_saysOf_60.2.2.2.2.2.2.2.2.2.2.2.2.2.2.1
theorem dX12_saysOf_90 : decode cX12_saysOf 90 = .ok (.aload_n 0, 1) := bdX12_saysOf_60.2.2.2.2.2.2.2.2.2.2.2.2.2.2.2
theorem bdX12_saysOf_91 : (decode cX12_saysOf 91 = .ok (.getfield 72, 3)) ∧ (decode cX12_saysOf 94 = .ok (.iload_n 2, 1)) ∧ (decode cX12_saysOf 95 = .ok (.iconst 1, 1)) ∧ (decode cX12_saysOf 96 = .ok (.isub, 1)) ∧ (decode cX12_saysOf 97 = .ok (.aload_n 0, 1)) ∧ (decode cX12_saysOf 98 = .ok (.getfield 72, 3)) ∧ (decode cX12_saysOf 101 = .ok (.iload_n 2, 1)) ∧ (decode cX12_saysOf 102 = .ok (.iconst 1, 1)) ∧ (decode cX12_saysOf 103 = .ok (.isub, 1)) ∧ (decode cX12_saysOf 104 = .ok (.laload, 1)) ∧ (decode cX12_saysOf 105 = .ok (.lneg, 1)) ∧ (decode cX12_saysOf 106 = .ok (.lastore, 1)) ∧ (decode cX12_saysOf 107 = .ok (.goto 62, 3)) ∧ (decode cX12_saysOf 110 = .ok (.iload 4, 2)) ∧ (decode cX12_saysOf 112 = .ok (.sipush 405, 3)) ∧ (decode cX12_saysOf 115 = .ok (.if_icmp .ne 24, 3)) := by decide +kernel
theorem dX12_saysOf_91 : decode cX12_saysOf 91 = .ok (.getfield 72, 3) := bdX12_saysOf_91.1
theorem dX12_saysOf_94 : decode cX12_saysOf 94 = .ok (.iload_n 2, 1) := bdX12_saysOf_91.2.1
theorem dX12_saysOf_95 : decode cX12_saysOf 95 = .ok (.iconst 1, 1) := bdX12_saysOf_91.2.2.1
theorem dX12_saysOf_96 : decode cX12_saysOf 96 = .ok (.isub, 1) := bdX12_saysOf_91.2.2.2.1
theorem dX12_saysOf_97 : decode cX12_saysOf 97 = .ok (.aload_n 0, 1) := bdX12_saysOf_91.2.2.2.2.1
theorem dX12_saysOf_98 : decode cX12_saysOf 98 = .ok (.getfield 72, 3) := bdX12_saysOf_91.2.2.2.2.2.1
theorem dX12_saysOf_101 : decode cX12_saysOf 101 = .ok (.iload_n 2, 1) := bdX12_saysOf_91.2.2.2.2.2.2.1
theorem dX12_saysOf_102 : decode cX12_saysOf 102 = .ok (.iconst 1, 1) := bdX12_saysOf_91.2.2.2.2.2.2.2.1
theorem dX12_saysOf_103 : decode cX12_saysOf 103 = .ok (.isub, 1) := bdX12_saysOf_91.2.2.2.2.2.2.2.2.1
theorem dX12_saysOf_104 : decode cX12_saysOf 104 = .ok (.laload, 1) := bdX12_saysOf_91.2.2.2.2.2.2.2.2.2.1
theorem dX12_saysOf_105 : decode cX12_saysOf 105 = .ok (.lneg, 1) := bdX12_saysOf_91.2.2.2.2.2.2.2.2.2.2.1
theorem dX12_saysOf_106 : decode cX12_saysOf 106 = .ok (.lastore, 1) := bdX12_saysOf_91.2.2.2.2.2.2.2.2.2.2.2.1
theorem dX12_saysOf_107 : decode cX12_saysOf 107 = .ok (.goto 62, 3) := bdX12_saysOf_91.2.2.2.2.2.2.2.2.2.2.2.2.1
theorem dX12_saysOf_110 : decode cX12_saysOf 110 = .ok (.iload 4, 2) := bdX12_saysOf_91.2.2.2.2.2.2.2.2.2.2.2.2.2.1
theorem dX12_saysOf_112 : decode cX12_saysOf 112 = .ok (.sipush 405, 3) := bdX12_saysOf_91.2.2.2.2.2.2.2.2.2.2.2.2.2.2.1
theorem dX12_saysOf_115 : decode cX12_saysOf 115 = .ok (.if_icmp .ne 24, 3) := bdX12_saysOf_91.2.2.2.2.2.2.2.2.2.2.2.2.2.2.2
theorem bdX12_saysOf_118 : (decode cX12_saysOf 118 = .ok (.aload_n 0, 1)) ∧ (decode cX12_saysOf 119 = .ok (.getfield 72, 3)) ∧ (decode cX12_saysOf 122 = .ok (.iload_n 2, 1)) ∧ (decode cX12_saysOf 123 = .ok (.iconst 1, 1)) ∧ (decode cX12_saysOf 124 = .ok (.isub, 1)) ∧ (decode cX12_saysOf 125 = .ok (.lconst 1, 1)) ∧ (decode cX12_saysOf 126 = .ok (.aload_n 0, 1)) ∧ (decode cX12_saysOf 127 = .ok (.getfield 72, 3)) ∧ (decode cX12_saysOf 130 = .ok (.iload_n 2, 1)) ∧ (decode cX12_saysOf 131 = .ok (.iconst 1, 1)) ∧ (decode cX12_saysOf 132 = .ok (.isub, 1)) ∧ (decode cX12_saysOf 133 = .ok (.laload, 1)) ∧ (decode cX12_saysOf 134 = .ok (.lsub, 1)) ∧ (decode cX12_saysOf 135 = .ok (.lastore, 1)) ∧ (decode cX12_saysOf 136 = .ok (.goto 33, 3)) ∧ (decode cX12_saysOf 139 = .ok (.iinc 2 (-1), 3)) := by decide +kernel
theorem dX12_saysOf_118 : decode cX12_saysOf 118 = .ok (.aload_n 0, 1) := bdX12_saysOf_118.1
theorem dX12_saysOf_119 : decode cX12_saysOf 119 = .ok (.getfield 72, 3) := bdX12_saysOf_118.2.1
theorem dX12_saysOf_122 : decode cX12_saysOf 122 = .ok (.iload_n 2, 1) := bdX12_saysOf_118.2.2.1
theorem dX12_saysOf_123 : decode cX12_saysOf 123 = .ok (.iconst 1, 1) := bdX12_saysOf_118.2.2.2.1
theorem dX12_saysOf_124 : decode cX12_saysOf 124 = .ok (.isub, 1) := bdX12_saysOf_118.2.2.2.2.1
theorem dX12_saysOf_125 : decode cX12_saysOf 125 = .ok (.lconst 1, 1) := bdX12_saysOf_118.2.2.2.2.2.1
theorem dX12_saysOf_126 : decode cX12_saysOf 126 = .ok (.aload_n 0, 1) := bdX12_saysOf_118.2.2.2.2.2.2.1
theorem dX12_saysOf_127 : decode cX12_saysOf 127 = .ok (.getfield 72, 3) := bdX12_saysOf_118.2.2.2.2.2.2.2.1
theorem dX12_saysOf_130 : decode cX12_saysOf 130 = .ok (.iload_n 2, 1) := bdX12_saysOf_118.2.2.2.2.2.2.2.2.1
theorem dX12_saysOf_131 : decode cX12_saysOf 131 = .ok (.iconst 1, 1) := bdX12_saysOf_118.2.2.2.2.2.2.2.2.2.1
theorem dX12_saysOf_132 : decode cX12_saysOf 132 = .ok (.isub, 1) := bdX12_saysOf_118.2.2.2.2.2.2.2.2.2.2.1
theorem dX12_saysOf_133 : decode cX12_saysOf 133 = .ok (.laload, 1) := bdX12_saysOf_118.2.2.2.2.2.2.2.2.2.2.2.1
theorem dX12_saysOf_134 : decode cX12_saysOf 134 = .ok (.lsub, 1) := bdX12_saysOf_118.2.2.2.2.2.2.2.2.2.2.2.2.1
theorem dX12_saysOf_135 : decode cX12_saysOf 135 = .ok (.lastore, 1) := bdX12_saysOf_118.2.2.2.2.2.2.2.2.2.2.2.2.2.1
theorem dX12_saysOf_136 : decode cX12_saysOf 136 = .ok (.goto 33, 3) := bdX12_saysOf_118.2.2.2.2.2.2.2.2.2.2.2.2.2.2.1
theorem dX12_saysOf_139 : decode cX12_saysOf 139 = .ok (.iinc 2 (-1), 3) := bdX12_saysOf_118.2.2.2.2.2.2.2.2.2.2.2.2.2.2.2
theorem bdX12_saysOf_142 : (decode cX12_saysOf 142 = .ok (.aload_n 0, 1)) ∧ (decode cX12_saysOf 143 = .ok (.getfield 72, 3)) ∧ (decode cX12_saysOf 146 = .ok (.iload_n 2, 1)) ∧ (decode cX12_saysOf 147 = .ok (.iconst 1, 1)) ∧ (decode cX12_saysOf 148 = .ok (.isub, 1)) ∧ (decode cX12_saysOf 149 = .ok (.iload 4, 2)) ∧ (decode cX12_saysOf 151 = .ok (.aload_n 0, 1)) ∧ (decode cX12_saysOf 152 = .ok (.getfield 72, 3)) ∧ (decode cX12_saysOf 155 = .ok (.iload_n 2, 1)) ∧ (decode cX12_saysOf 156 = .ok (.iconst 1, 1)) ∧ (decode cX12_saysOf 157 = .ok (.isub, 1)) ∧ (decode cX12_saysOf 158 = .ok (.laload, 1)) ∧ (decode cX12_saysOf 159 = .ok (.aload_n 0, 1)) ∧ (decode cX12_saysOf 160 = .ok (.getfield 72, 3)) ∧ (decode cX12_saysOf 163 = .ok (.iload_n 2, 1)) ∧ (decode cX12_saysOf 164 = .ok (.laload, 1)) := by decide +kernel
theorem dX12_saysOf_142 : decode cX12_saysOf 142 = .ok (.aload_n 0, 1) := bdX12_saysOf_142.1
theorem dX12_saysOf_143 : decode cX12_saysOf 143 = .ok (.getfield 72, 3) := bdX12_saysOf_142.2.1
theorem dX12_saysOf_146 : decode cX12_saysOf 146 = .ok (.iload_n 2, 1) := bdX12_saysOf_142.2.2.1
theorem dX12_saysOf_147 : decode cX12_saysOf 147 = .ok (.iconst 1, 1) := bdX12_saysOf_142.2.2.2.1
theorem dX12_saysOf_148 : decode cX12_saysOf 148 = .ok (.isub, 1) := bdX12_saysOf_142.2.2.2.2.1
theorem dX12_saysOf_149 : decode cX12_saysOf 149 = .ok (.iload 4, 2) := bdX12_saysOf_142.2.2.2.2.2.1
theorem dX12_saysOf_151 : decode cX12_saysOf 151 = .ok (.aload_n 0, 1) := bdX12_saysOf_142.2.2.2.2.2.2.1
theorem dX12_saysOf_152 : decode cX12_saysOf 152 = .ok (.getfield 72, 3) := bdX12_saysOf_142.2.2.2.2.2.2.2.1
theorem dX12_saysOf_155 : decode cX12_saysOf 155 = .ok (.iload_n 2, 1) := bdX12_saysOf_142.2.2.2.2.2.2.2.2.1
theorem dX12_saysOf_156 : decode cX12_saysOf 156 = .ok (.iconst 1, 1) := bdX12_saysOf_142.2.2.2.2.2.2.2.2.2.1
theorem dX12_saysOf_157 : decode cX12_saysOf 157 = .ok (.isub, 1) := bdX12_saysOf_142.2.2.2.2.2.2.2.2.2.2.1
theorem dX12_saysOf_158 : decode cX12_saysOf 158 = .ok (.laload, 1) := bdX12_saysOf_142.2.2.2.2.2.2.2.2.2.2.2.1
theorem dX12_saysOf_159 : decode cX12_saysOf 159 = .ok (.aload_n 0, 1) := bdX12_saysOf_142.2.2.2.2.2.2.2.2.2.2.2.2.1
theorem dX12_saysOf_160 : decode cX12_saysOf 160 = .ok (.getfield 72, 3) := bdX12_saysOf_142.2.2.2.2.2.2.2.2.2.2.2.2.2.1
theorem dX12_saysOf_163 : decode cX12_saysOf 163 = .ok (.iload_n 2, 1) := bdX12_saysOf_142.2.2.2.2.2.2.2.2.2.2.2.2.2.2.1
theorem dX12_saysOf_164 : decode cX12_saysOf 164 = .ok (.laload, 1) := bdX12_saysOf_142.2.2.2.2.2.2.2.2.2.2.2.2.2.2.2
theorem bdX12_saysOf_165 : (decode cX12_saysOf 165 = .ok (.invokestatic 285, 3)) ∧ (decode cX12_saysOf 168 = .ok (.lastore, 1)) ∧ (decode cX12_saysOf 169 = .ok (.iinc 3 1, 3)) ∧ (decode cX12_saysOf 172 = .ok (.goto (-168), 3)) ∧ (decode cX12_saysOf 175 = .ok (.aload_n 0, 1)) ∧ (decode cX12_saysOf 176 = .ok (.getfield 72, 3)) ∧ (decode cX12_saysOf 179 = .ok (.iconst 0, 1)) ∧ (decode cX12_saysOf 180 = .ok (.laload, 1)) ∧ (decode cX12_saysOf 181 = .ok (.lreturn, 1)) := by decide +kernel
theorem dX12_saysOf_165 : decode cX12_saysOf 165 = .ok (.invokestatic 285, 3) := bdX12_saysOf_165.1
theorem dX12_saysOf_168 : decode cX12_saysOf 168 = .ok (.lastore, 1) := bdX12_saysOf_165.2.1
theorem dX12_saysOf_169 : decode cX12_saysOf 169 = .ok (.iinc 3 1, 3) := bdX12_saysOf_165.2.2.1
theorem dX12_saysOf_172 : decode cX12_saysOf 172 = .ok (.goto (-168), 3) := bdX12_saysOf_165.2.2.2.1
theorem dX12_saysOf_175 : decode cX12_saysOf 175 = .ok (.aload_n 0, 1) := bdX12_saysOf_165.2.2.2.2.1
theorem dX12_saysOf_176 : decode cX12_saysOf 176 = .ok (.getfield 72, 3) := bdX12_saysOf_165.2.2.2.2.2.1
theorem dX12_saysOf_179 : decode cX12_saysOf 179 = .ok (.iconst 0, 1) := bdX12_saysOf_165.2.2.2.2.2.2.1
theorem dX12_saysOf_180 : decode cX12_saysOf 180 = .ok (.laload, 1) := bdX12_saysOf_165.2.2.2.2.2.2.2.1
theorem dX12_saysOf_181 : decode cX12_saysOf 181 = .ok (.lreturn, 1) := bdX12_saysOf_165.2.2.2.2.2.2.2.2
theorem bdX12_isSome_0 : (decode cX12_isSome 0 = .ok (.aload_n 0, 1)) ∧ (decode cX12_isSome 1 = .ok (.getfield 7, 3)) ∧ (decode cX12_isSome 4 = .ok (.iconst 5, 1)) ∧ (decode cX12_isSome 5 = .ok (.iaload, 1)) ∧ (decode cX12_isSome 6 = .ok (.istore_n 3, 1)) ∧ (decode cX12_isSome 7 = .ok (.iload_n 3, 1)) ∧ (decode cX12_isSome 8 = .ok (.iconst (-1), 1)) ∧ (decode cX12_isSome 9 = .ok (.if_icmp .ne 5, 3)) ∧ (decode cX12_isSome 12 = .ok (.iconst 0, 1)) ∧ (decode cX12_isSome 13 = .ok (.ireturn, 1)) ∧ (decode cX12_isSome 14 = .ok (.aload_n 0, 1)) ∧ (decode cX12_isSome 15 = .ok (.getfield 69, 3)) ∧ (decode cX12_isSome 18 = .ok (.iconst 0, 1)) ∧ (decode cX12_isSome 19 = .ok (.aload_n 0, 1)) ∧ (decode cX12_isSome 20 = .ok (.getfield 7, 3)) ∧ (decode cX12_isSome 23 = .ok (.iconst 0, 1)) := by decide +kernel
theorem dX12_isSome_0 : decode cX12_isSome 0 = .ok (.aload_n 0, 1) := bdX12_isSome_0.1
theorem dX12_isSome_1 : decode cX12_isSome 1 = .ok (.getfield 7, 3) := bdX12_isSome_0.2.1
theorem dX12_isSome_4 : decode cX12_isSome 4 = .ok (.iconst 5, 1) := bdX12_isSome_0.2.2.1
theorem dX12_isSome_5 : decode cX12_isSome 5 = .ok (.iaload, 1) := bdX12_isSome_0.2.2.2.1
theorem dX12_isSome_6 : decode cX12_isSome 6 = .ok (.istore_n 3, 1) := bdX12_isSome_0.2.2.2.2.1
theorem dX12_isSome_7 : decode cX12_isSome 7 = .ok (.iload_n 3, 1) := bdX12_isSome_0.2.2.2.2.2.1
theorem dX12_isSome_8 : decode cX12_isSome 8 = .ok (.iconst (-1), 1) := bdX12_isSome_0.2.2.2.2.2.2.1
theorem dX12_isSome_9 : decode cX12_isSome 9 = .ok (.if_icmp .ne 5, 3) := bdX12_isSome_0.2.2.2.2.2.2.2.1
theorem dX12_isSome_12 : decode cX12_isSome 12 = .ok (.iconst 0, 1) := bdX12_isSome_0.2.2.2.2.2.2.2.2.1
theorem dX12_isSome_13 : decode cX12_isSome 13 = .ok (.ireturn, 1) := bdX12_isSome_0.2.2.2.2.2.2.2.2.2.1
theorem dX12_isSome_14 : decode cX12_isSome 14 = .ok (.aload_n 0, 1) := bdX12_isSome_0.2.2.2.2.2.2.2.2.2.2.1
theorem dX12_isSome_15 : decode cX12_isSome 15 = .ok (.getfield 69, 3) := bdX12_isSome_0.2.2.2.2.2.2.2.2.2.2.2.1
theorem dX12_isSome_18 : decode cX12_isSome 18 = .ok (.iconst 0, 1) := bdX12_isSome_0.2.2.2.2.2.2.2.2.2.2.2.2.1
theorem dX12_isSome_19 : decode cX12_isSome 19 = .ok (.aload_n 0, 1) := bdX12_isSome_0.2.2.2.2.2.2.2.2.2.2.2.2.2.1
theorem dX12_isSome_20 : decode cX12_isSome 20 = .ok (.getfield 7, 3) := bdX12_isSome_0.2.2.2.2.2.2.2.2.2.2.2.2.2.2.1
theorem dX12_isSome_23 : decode cX12_isSome 23 = .ok (.iconst 0, 1) := bdX12_isSome_0.2.2.2.2.2.2.2.2.2.2.2.2.2.2.2
theorem bdX12_isSome_24 : (decode cX12_isSome 24 = .ok (.iaload, 1)) ∧ (decode cX12_isSome 25 = .ok (.iastore, 1)) ∧ (decode cX12_isSome 26 = .ok (.aload_n 0, 1)) ∧ (decode cX12_isSome 27 = .ok (.getfield 69, 3)) ∧ (decode cX12_isSome 30 = .ok (.iconst 1, 1)) ∧ (decode cX12_isSome 31 = .ok (.iload_n 2, 1)) ∧ (decode cX12_isSome 32 = .ok (.iastore, 1)) ∧ (decode cX12_isSome 33 = .ok (.aload_n 0, 1)) ∧ (decode cX12_isSome 34 = .ok (.getfield 69, 3)) ∧ (decode cX12_isSome 37 = .ok (.iconst 2, 1)) ∧ (decode cX12_isSome 38 = .ok (.aload_n 0, 1)) ∧ (decode cX12_isSome 39 = .ok (.iload_n 2, 1)) ∧ (decode cX12_isSome 40 = .ok (.invokevirtual 292, 3)) ∧ (decode cX12_isSome 43 = .ok (.iastore, 1)) ∧ (decode cX12_isSome 44 = .ok (.aload_n 0, 1)) ∧ (decode cX12_isSome 45 = .ok (.getfield 69, 3)) := by decide +kernel
theorem dX12_isSome_24 : decode cX12_isSome 24 = .ok (.iaload, 1) := bdX12_isSome_24.1
theorem dX12_isSome_25 : decode cX12_isSome 25 = .ok (.iastore, 1) := bdX12_isSome_24.2.1
theorem dX12_isSome_26 : decode cX12_isSome 26 = .ok (.aload_n 0, 1) := bdX12_isSome_24.2.2.1
theorem dX12_isSome_27 : decode cX12_isSome 27 = .ok (.getfield 69, 3) := bdX12_isSome_24.2.2.2.1
theorem dX12_isSome_30 : decode cX12_isSome 30 = .ok (.iconst 1, 1) := bdX12_isSome_24.2.2.2.2.1
theorem dX12_isSome_31 : decode cX12_isSome 31 = .ok (.iload_n 2, 1) := bdX12_isSome_24.2.2.2.2.2.1
theorem dX12_isSome_32 : decode cX12_isSome 32 = .ok (.iastore, 1) := bdX12_isSome_24.2.2.2.2.2.2.1
theorem dX12_isSome_33 : decode cX12_isSome 33 = .ok (.aload_n 0, 1) := bdX12_isSome_24.2.2.2.2.2.2.2.1
theorem dX12_isSome_34 : decode cX12_isSome 34 = .ok (.getfield 69, 3) := bdX12_isSome_24.2.2.2.2.2.2.2.2.1
theorem dX12_isSome_37 : decode cX12_isSome 37 = .ok (.iconst 2, 1) := bdX12_isSome_24.2.2.2.2.2.2.2.2.2.1
theorem dX12_isSome_38 : decode cX12_isSome 38 = .ok (.aload_n 0, 1) := bdX12_isSome_24.2.2.2.2.2.2.2.2.2.2.1
theorem dX12_isSome_39 : decode cX12_isSome 39 = .ok (.iload_n 2, 1) := bdX12_isSome_24.2.2.2.2.2.2.2.2.2.2.2.1
theorem dX12_isSome_40 : decode cX12_isSome 40 = .ok (.invokevirtual 292, 3) := bdX12_isSome_24.2.2.2.2.2.2.2.2.2.2.2.2.1
theorem dX12_isSome_43 : decode cX12_isSome 43 = .ok (.iastore, 1) := bdX12_isSome_24.2.2.2.2.2.2.2.2.2.2.2.2.2.1
theorem dX12_isSome_44 : decode cX12_isSome 44 = .ok (.aload_n 0, 1) := bdX12_isSome_24.2.2.2.2.2.2.2.2.2.2.2.2.2.2.1
theorem dX12_isSome_45 : decode cX12_isSome 45 = .ok (.getfield 69, 3) := bdX12_isSome_24.2.2.2.2.2.2.2.2.2.2.2.2.2.2.2
theorem bdX12_isSome_48 : (decode cX12_isSome 48 = .ok (.iconst 3, 1)) ∧ (decode cX12_isSome 49 = .ok (.aload_n 0, 1)) ∧ (decode cX12_isSome 50 = .ok (.iload_n 2, 1)) ∧ (decode cX12_isSome 51 = .ok (.iconst 0, 1)) ∧ (decode cX12_isSome 52 = .ok (.invokevirtual 295, 3)) ∧ (decode cX12_isSome 55 = .ok (.iastore, 1)) ∧ (decode cX12_isSome 56 = .ok (.aload_n 0, 1)) ∧ (decode cX12_isSome 57 = .ok (.getfield 69, 3)) ∧ (decode cX12_isSome 60 = .ok (.iconst 4, 1)) ∧ (decode cX12_isSome 61 = .ok (.aload_n 0, 1)) ∧ (decode cX12_isSome 62 = .ok (.sipush 130, 3)) ∧ (decode cX12_isSome 65 = .ok (.iload_n 2, 1)) ∧ (decode cX12_isSome 66 = .ok (.invokevirtual 289, 3)) ∧ (decode cX12_isSome 69 = .ok (.iastore, 1)) ∧ (decode cX12_isSome 70 = .ok (.iconst 0, 1)) ∧ (decode cX12_isSome 71 = .ok (.istore 4, 2)) := by decide +kernel
theorem dX12_isSome_48 : decode cX12_isSome 48 = .ok (.iconst 3, 1) := bdX12_isSome_48.1
theorem dX12_isSome_49 : decode cX12_isSome 49 = .ok (.aload_n 0, 1) := bdX12_isSome_48.2.1
theorem dX12_isSome_50 : decode cX12_isSome 50 = .ok (.iload_n 2, 1) := bdX12_isSome_48.2.2.1
theorem dX12_isSome_51 : decode cX12_isSome 51 = .ok (.iconst 0, 1) := bdX12_isSome_48.2.2.2.1
theorem dX12_isSome_52 : decode cX12_isSome 52 = .ok (.invokevirtual 295, 3) := bdX12_isSome_48.2.2.2.2.1
theorem dX12_isSome_55 : decode cX12_isSome 55 = .ok (.iastore, 1) := bdX12_isSome_48.2.2.2.2.2.1
theorem dX12_isSome_56 : decode cX12_isSome 56 = .ok (.aload_n 0, 1) := bdX12_isSome_48.2.2.2.2.2.2.1
theorem dX12_isSome_57 : decode cX12_isSome 57 = .ok (.getfield 69, 3) := bdX12_isSome_48.2.2.2.2.2.2.2.1
theorem dX12_isSome_60 : decode cX12_isSome 60 = .ok (.iconst 4, 1) := bdX12_isSome_48.2.2.2.2.2.2.2.2.1
theorem dX12_isSome_61 : decode cX12_isSome 61 = .ok (.aload_n 0, 1) := bdX12_isSome_48.2.2.2.2.2.2.2.2.2.1
theorem dX12_isSome_62 : decode cX12_isSome 62 = .ok (.sipush 130, 3) := bdX12_isSome_48.2.2.2.2.2.2.2.2.2.2.1
theorem dX12_isSome_65 : decode cX12_isSome 65 = .ok (.iload_n 2, 1) := bdX12_isSome_48.2.2.2.2.2.2.2.2.2.2.2.1
theorem dX12_isSome_66 : decode cX12_isSome 66 = .ok (.invokevirtual 289, 3) := bdX12_isSome_48.2.2.2.2.2.2.2.2.2.2.2.2.1
theorem dX12_isSome_69 : decode cX12_isSome 69 = .ok (.iastore, 1) := bdX12_isSome_48.2.2.2.2.2.2.2.2.2.2.2.2.2.1
theorem dX12_isSome_70 : decode cX12_isSome 70 = .ok (.iconst 0, 1) := bdX12_isSome_48.2.2.2.2.2.2.2.2.2.2.2.2.2.2.1
theorem dX12_isSome_71 : decode cX12_isSome 71 = .ok (.istore 4, 2) := bdX12_isSome_48.2.2.2.2.2.2.2.2.2.2.2.2.2.2.2
theorem bdX12_isSome_73 : (decode cX12_isSome 73 = .ok (.iconst 0, 1)) ∧ (decode cX12_isSome 74 = .ok (.istore 5, 2)) ∧ (decode cX12_isSome 76 = .ok (.iload 5, 2)) ∧ (decode cX12_isSome 78 = .ok (.aload_n 0, 1)) ∧ (decode cX12_isSome 79 = .ok (.getfield 30, 3)) ∧ (decode cX12_isSome 82 = .ok (.iload_n 3, 1)) ∧ (decode cX12_isSome 83 = .ok (.iaload, 1)) ∧ (decode cX12_isSome 84 = .ok (.if_icmp .ge 58, 3)) ∧ (decode cX12_isSome 87 = .ok (.iload 4, 2)) ∧ (decode cX12_isSome 89 = .ok (.ifCond .ne 40, 3)) ∧ (decode cX12_isSome 92 = .ok (.aload_n 0, 1)) ∧ (decode cX12_isSome 93 = .ok (.getfield 33, 3)) ∧ (decode cX12_isSome 96 = .ok (.bipush 10, 2)) ∧ (decode cX12_isSome 98 = .ok (.iload_n 3, 1)) ∧ (decode cX12_isSome 99 = .ok (.imul, 1)) ∧ (decode cX12_isSome 100 = .ok (.iload 5, 2)) := by decide +kernel
theorem dX12_isSome_73 : decode cX12_isSome 73 = .ok (.iconst 0, 1) := bdX12_isSome_73.1
theorem dX12_isSome_74 : decode cX12_isSome 74 = .ok (.istore 5, 2) := bdX12_isSome_73.2.1
theorem dX12_isSome_76 : decode cX12_isSome 76 = .ok (.iload 5, 2) := bdX12_isSome_73.2.2.1
theorem dX12_isSome_78 : decode cX12_isSome 78 = .ok (.aload_n 0, 1) := bdX12_isSome_73.2.2.2.1
theorem dX12_isSome_79 : decode cX12_isSome 79 = .ok (.getfield 30, 3) := bdX12_isSome_73.2.2.2.2.1
theorem dX12_isSome_82 : decode cX12_isSome 82 = .ok (.iload_n 3, 1) := bdX12_isSome_73.2.2.2.2.2.1
theorem dX12_isSome_83 : decode cX12_isSome 83 = .ok (.iaload, 1) := bdX12_isSome_73.2.2.2.2.2.2.1
theorem dX12_isSome_84 : decode cX12_isSome 84 = .ok (.if_icmp .ge 58, 3) := bdX12_isSome_73.2.2.2.2.2.2.2.1
theorem dX12_isSome_87 : decode cX12_isSome 87 = .ok (.iload 4, 2) := bdX12_isSome_73.2.2.2.2.2.2.2.2.1
theorem dX12_isSome_89 : decode cX12_isSome 89 = .ok (.ifCond .ne 40, 3) := bdX12_isSome_73.2.2.2.2.2.2.2.2.2.1
theorem dX12_isSome_92 : decode cX12_isSome 92 = .ok (.aload_n 0, 1) := bdX12_isSome_73.2.2.2.2.2.2.2.2.2.2.1
theorem dX12_isSome_93 : decode cX12_isSome 93 = .ok (.getfield 33, 3) := bdX12_isSome_73.2.2.2.2.2.2.2.2.2.2.2.1
theorem dX12_isSome_96 : decode cX12_isSome 96 = .ok (.bipush 10, 2) := bdX12_isSome_73.2.2.2.2.2.2.2.2.2.2.2.2.1
theorem dX12_isSome_98 : decode cX12_isSome 98 = .ok (.iload_n 3, 1) := bdX12_isSome_73.2.2.2.2.2.2.2.2.2.2.2.2.2.1
theorem dX12_isSome_99 : decode cX12_isSome 99 = .ok (.imul, 1) := bdX12_isSome_73.2.2.2.2.2.2.2.2.2.2.2.2.2.2.1
theorem dX12_isSome_100 : decode cX12_isSome 100 = .ok (.iload 5, 2) := bdX12_isSome_73.2.2.2.2.2.2.2.2.2.2.2.2.2.2.2
theorem bdX12_isSome_102 : (decode cX12_isSome 102 = .ok (.iadd, 1)) ∧ (decode cX12_isSome 103 = .ok (.iaload, 1)) ∧ (decode cX12_isSome 104 = .ok (.iload_n 1, 1)) ∧ (decode cX12_isSome 105 = .ok (.if_icmp .ne 28, 3)) ∧ (decode cX12_isSome 108 = .ok (.aload_n 0, 1)) ∧ (decode cX12_isSome 109 = .ok (.aload_n 0, 1)) ∧ (decode cX12_isSome 110 = .ok (.getfield 36, 3)) ∧ (decode cX12_isSome 113 = .ok (.bipush 10, 2)) ∧ (decode cX12_isSome 115 = .ok (.iload_n 3, 1)) ∧ (decode cX12_isSome 116 = .ok (.imul, 1)) ∧ (decode cX12_isSome 117 = .ok (.iload 5, 2)) ∧ (decode cX12_isSome 119 = .ok (.iadd, 1)) ∧ (decode cX12_isSome 120 = .ok (.iaload, 1)) ∧ (decode cX12_isSome 121 = .ok (.invokevirtual 298, 3)) ∧ (decode cX12_isSome 124 = .ok (.lconst 0, 1)) ∧ (decode cX12_isSome 125 = .ok (.lcmp, 1)) := by decide +kernel
theorem dX12_isSome_102 : decode cX12_isSome 102 = .ok (.iadd, 1) := bdX12_isSome_102.1
theorem dX12_isSome_103 : decode cX12_isSome 103 = .ok (.iaload, 1) := bdX12_isSome_102.2.1
theorem dX12_isSome_104 : decode cX12_isSome 104 = .ok (.iload_n 1, 1) := bdX12_isSome_102.2.2.1
theorem dX12_isSome_105 : decode cX12_isSome 105 = .ok (.if_icmp .ne 28, 3) := bdX12_isSome_102.2.2.2.1
theorem dX12_isSome_108 : decode cX12_isSome 108 = .ok (.aload_n 0, 1) := bdX12_isSome_102.2.2.2.2.1
theorem dX12_isSome_109 : decode cX12_isSome 109 = .ok (.aload_n 0, 1) := bdX12_isSome_102.2.2.2.2.2.1
theorem dX12_isSome_110 : decode cX12_isSome 110 = .ok (.getfield 36, 3) := bdX12_isSome_102.2.2.2.2.2.2.1
theorem dX12_isSome_113 : decode cX12_isSome 113 = .ok (.bipush 10, 2) := bdX12_isSome_102.2.2.2.2.2.2.2.1
theorem dX12_isSome_115 : decode cX12_isSome 115 = .ok (.iload_n 3, 1) := bdX12_isSome_102.2.2.2.2.2.2.2.2.1
theorem dX12_isSome_116 : decode cX12_isSome 116 = .ok (.imul, 1) := bdX12_isSome_102.2.2.2.2.2.2.2.2.2.1
theorem dX12_isSome_117 : decode cX12_isSome 117 = .ok (.iload 5, 2) := bdX12_isSome_102.2.2.2.2.2.2.2.2.2.2.1
theorem dX12_isSome_119 : decode cX12_isSome 119 = .ok (.iadd, 1) := bdX12_isSome_102.2.2.2.2.2.2.2.2.2.2.2.1
theorem dX12_isSome_120 : decode cX12_isSome 120 = .ok (.iaload, 1) := bdX12_isSome_102.2.2.2.2.2.2.2.2.2.2.2.2.1
theorem dX12_isSome_121 : decode cX12_isSome 121 = .ok (.invokevirtual 298, 3) := bdX12_isSome_102.2.2.2.2.2.2.2.2.2.2.2.2.2.1
theorem dX12_isSome_124 : decode cX12_isSome 124 = .ok (.lconst 0, 1) := bdX12_isSome_102.2.2.2.2.2.2.2.2.2.2.2.2.2.2.1
theorem dX12_isSome_125 : decode cX12_isSome 125 = .ok (.lcmp, 1) := bdX12_isSome_102.2.2.2.2.2.2.2.2.2.2.2.2.2.2.2
theorem bdX12_isSome_126 : (decode cX12_isSome 126 = .ok (.ifCond .le 7, 3)) ∧ (decode cX12_isSome 129 = .ok (.iconst 1, 1)) ∧ (decode cX12_isSome 130 = .ok (.goto 4, 3)) ∧ (decode cX12_isSome 133 = .ok (.iconst 0, 1)) ∧ (decode cX12_isSome 134 = .ok (.istore 4, 2)) ∧ (decode cX12_isSome 136 = .ok (.iinc 5 1, 3)) ∧ (decode cX12_isSome 139 = .ok (.goto (-63), 3)) ∧ (decode cX12_isSome 142 = .ok (.iload 4, 2)) ∧ (decode cX12_isSome 144 = .ok (.ireturn, 1)) := by decide +kernel
theorem dX12_isSome_126 : decode cX12_isSome 126 = .ok (.ifCond .le 7, 3) := bdX12_isSome_126.1
theorem dX12_isSome_129 : decode cX12_isSome 129 = .ok (.iconst 1, 1) := bdX12_isSome_126.2.1
theorem dX12_isSome_130 : decode cX12_isSome 130 = .ok (.goto 4, 3) := bdX12_isSome_126.2.2.1
theorem dX12_isSome_133 : decode cX12_isSome 133 = .ok (.iconst 0, 1) := bdX12_isSome_126.2.2.2.1
theorem dX12_isSome_134 : decode cX12_isSome 134 = .ok (.istore 4, 2) := bdX12_isSome_126.2.2.2.2.1
theorem dX12_isSome_136 : decode cX12_isSome 136 = .ok (.iinc 5 1, 3) := bdX12_isSome_126.2.2.2.2.2.1
theorem dX12_isSome_139 : decode cX12_isSome 139 = .ok (.goto (-63), 3) := bdX12_isSome_126.2.2.2.2.2.2.1
theorem dX12_isSome_142 : decode cX12_isSome 142 = .ok (.iload 4, 2) := bdX12_isSome_126.2.2.2.2.2.2.2.1
theorem dX12_isSome_144 : decode cX12_isSome 144 = .ok (.ireturn, 1) := bdX12_isSome_126.2.2.2.2.2.2.2.2
theorem bdX12_bursts_0 : (decode cX12_bursts 0 = .ok (.iconst 0, 1)) ∧ (decode cX12_bursts 1 = .ok (.istore_n 2, 1)) ∧ (decode cX12_bursts 2 = .ok (.iload_n 2, 1)) ∧ (decode cX12_bursts 3 = .ok (.aload_n 0, 1)) ∧ (decode cX12_bursts 4 = .ok (.getfield 7, 3)) ∧ (decode cX12_bursts 7 = .ok (.iconst 3, 1)) ∧ (decode cX12_bursts 8 = .ok (.iaload, 1)) ∧ (decode cX12_bursts 9 = .ok (.if_icmp .ge 194, 3)) ∧ (decode cX12_bursts 12 = .ok (.sipush 360, 3)) ∧ (decode cX12_bursts 15 = .ok (.bipush 7, 2)) ∧ (decode cX12_bursts 17 = .ok (.iload_n 2, 1)) ∧ (decode cX12_bursts 18 = .ok (.imul, 1)) ∧ (decode cX12_bursts 19 = .ok (.iadd, 1)) ∧ (decode cX12_bursts 20 = .ok (.istore_n 3, 1)) ∧ (decode cX12_bursts 21 = .ok (.iload_n 1, 1)) ∧ (decode cX12_bursts 22 = .ok (.aload_n 0, 1)) := by decide +kernel
theorem dX12_bursts_0 : decode cX12_bursts 0 = .ok (.iconst 0, 1) := bdX12_bursts_0.1
theorem dX12_bursts_1 : decode cX12_bursts 1 = .ok (.istore_n 2, 1) := bdX12_bursts_0.2.1
theorem dX12_bursts_2 : decode cX12_bursts 2 = .ok (.iload_n 2, 1) := bdX12_bursts_0.2.2.1
theorem dX12_bursts_3 : decode cX12_bursts 3 = .ok (.aload_n 0, 1) := bdX12_bursts_0.2.2.2.1
theorem dX12_bursts_4 : decode cX12_bursts 4 = .ok (.getfield 7, 3) := bdX12_bursts_0.2.2.2.2.1
theorem dX12_bursts_7 : decode cX12_bursts 7 = .ok (.iconst 3, 1) := bdX12_bursts_0.2.2.2.2.2.1
theorem dX12_bursts_8 : decode cX12_bursts 8 = .ok (.iaload, 1) := bdX12_bursts_0.2.2.2.2.2.2.1
theorem dX12_bursts_9 : decode cX12_bursts 9 = .ok (.if_icmp .ge 194, 3) := bdX12_bursts_0.2.2.2.2.2.2.2.1
theorem dX12_bursts_12 : decode cX12_bursts 12 = .ok (.sipush 360, 3) := bdX12_bursts_0.2.2.2.2.2.2.2.2.1
theorem dX12_bursts_15 : decode cX12_bursts 15 = .ok (.bipush 7, 2) := bdX12_bursts_0.2.2.2.2.2.2.2.2.2.1
theorem dX12_bursts_17 : decode cX12_bursts 17 = .ok (.iload_n 2, 1) := bdX12_bursts_0.2.2.2.2.2.2.2.2.2.2.1
theorem dX12_bursts_18 : decode cX12_bursts 18 = .ok (.imul, 1) := bdX12_bursts_0.2.2.2.2.2.2.2.2.2.2.2.1
theorem dX12_bursts_19 : decode cX12_bursts 19 = .ok (.iadd, 1) := bdX12_bursts_0.2.2.2.2.2.2.2.2.2.2.2.2.1
theorem dX12_bursts_20 : decode cX12_bursts 20 = .ok (.istore_n 3, 1) := bdX12_bursts_0.2.2.2.2.2.2.2.2.2.2.2.2.2.1
theorem dX12_bursts_21 : decode cX12_bursts 21 = .ok (.iload_n 1, 1) := bdX12_bursts_0.2.2.2.2.2.2.2.2.2.2.2.2.2.2.1
theorem dX12_bursts_22 : decode cX12_bursts 22 = .ok (.aload_n 0, 1) := bdX12_bursts_0.2.2.2.2.2.2.2.2.2.2.2.2.2.2.2
theorem bdX12_bursts_23 : (decode cX12_bursts 23 = .ok (.getfield 7, 3)) ∧ (decode cX12_bursts 26 = .ok (.iload_n 3, 1)) ∧ (decode cX12_bursts 27 = .ok (.iaload, 1)) ∧ (decode cX12_bursts 28 = .ok (.isub, 1)) ∧ (decode cX12_bursts 29 = .ok (.istore 4, 2)) ∧ (decode cX12_bursts 31 = .ok (.iload 4, 2)) ∧ (decode cX12_bursts 33 = .ok (.ifCond .eq 33, 3)) ∧ (decode cX12_bursts 36 = .ok (.iload 4, 2)) ∧ (decode cX12_bursts 38 = .ok (.ifCond .le 159, 3)) ∧ (decode cX12_bursts 41 = .ok (.aload_n 0, 1)) ∧ (decode cX12_bursts 42 = .ok (.getfield 7, 3)) ∧ (decode cX12_bursts 45 = .ok (.iload_n 3, 1)) ∧ (decode cX12_bursts 46 = .ok (.iconst 1, 1)) ∧ (decode cX12_bursts 47 = .ok (.iadd, 1)) ∧ (decode cX12_bursts 48 = .ok (.iaload, 1)) ∧ (decode cX12_bursts 49 = .ok (.ifCond .le 148, 3)) := by decide +kernel
theorem dX12_bursts_23 : decode cX12_bursts 23 = .ok (.getfield 7, 3) := bdX12_bursts_23.1
theorem dX12_bursts_26 : decode cX12_bursts 26 = .ok (.iload_n 3, 1) := bdX12_bursts_23.2.1
theorem dX12_bursts_27 : decode cX12_bursts 27 = .ok (.iaload, 1) := bdX12_bursts_23.2.2.1
theorem dX12_bursts_28 : decode cX12_bursts 28 = .ok (.isub, 1) := bdX12_bursts_23.2.2.2.1
theorem dX12_bursts_29 : decode cX12_bursts 29 = .ok (.istore 4, 2) := bdX12_bursts_23.2.2.2.2.1
theorem dX12_bursts_31 : decode cX12_bursts 31 = .ok (.iload 4, 2) := bdX12_bursts_23.2.2.2.2.2.1
theorem dX12_bursts_33 : decode cX12_bursts 33 = .ok (.ifCond .eq 33, 3) := bdX12_bursts_23.2.2.2.2.2.2.1
theorem dX12_bursts_36 : decode cX12_bursts 36 = .ok (.iload 4, 2) := bdX12_bursts_23.2.2.2.2.2.2.2.1
theorem dX12_bursts_38 : decode cX12_bursts 38 = .ok (.ifCond .le 159, 3) := bdX12_bursts_23.2.2.2.2.2.2.2.2.1
theorem dX12_bursts_41 : decode cX12_bursts 41 = .ok (.aload_n 0, 1) := bdX12_bursts_23.2.2.2.2.2.2.2.2.2.1
theorem dX12_bursts_42 : decode cX12_bursts 42 = .ok (.getfield 7, 3) := bdX12_bursts_23.2.2.2.2.2.2.2.2.2.2.1
theorem dX12_bursts_45 : decode cX12_bursts 45 = .ok (.iload_n 3, 1) := bdX12_bursts_23.2.2.2.2.2.2.2.2.2.2.2.1
theorem dX12_bursts_46 : decode cX12_bursts 46 = .ok (.iconst 1, 1) := bdX12_bursts_23.2.2.2.2.2.2.2.2.2.2.2.2.1
theorem dX12_bursts_47 : decode cX12_bursts 47 = .ok (.iadd, 1) := bdX12_bursts_23.2.2.2.2.2.2.2.2.2.2.2.2.2.1
theorem dX12_bursts_48 : decode cX12_bursts 48 = .ok (.iaload, 1) := bdX12_bursts_23.2.2.2.2.2.2.2.2.2.2.2.2.2.2.1
theorem dX12_bursts_49 : decode cX12_bursts 49 = .ok (.ifCond .le 148, 3) := bdX12_bursts_23.2.2.2.2.2.2.2.2.2.2.2.2.2.2.2
theorem bdX12_bursts_52 : (decode cX12_bursts 52 = .ok (.iload 4, 2)) ∧ (decode cX12_bursts 54 = .ok (.aload_n 0, 1)) ∧ (decode cX12_bursts 55 = .ok (.getfield 7, 3)) ∧ (decode cX12_bursts 58 = .ok (.iload_n 3, 1)) ∧ (decode cX12_bursts 59 = .ok (.iconst 1, 1)) ∧ (decode cX12_bursts 60 = .ok (.iadd, 1)) ∧ (decode cX12_bursts 61 = .ok (.iaload, 1)) ∧ (decode cX12_bursts 62 = .ok (.irem, 1)) ∧ (decode cX12_bursts 63 = .ok (.ifCond .ne 134, 3)) ∧ (decode cX12_bursts 66 = .ok (.aload_n 0, 1)) ∧ (decode cX12_bursts 67 = .ok (.getfield 7, 3)) ∧ (decode cX12_bursts 70 = .ok (.iload_n 3, 1)) ∧ (decode cX12_bursts 71 = .ok (.iconst 2, 1)) ∧ (decode cX12_bursts 72 = .ok (.iadd, 1)) ∧ (decode cX12_bursts 73 = .ok (.iaload, 1)) ∧ (decode cX12_bursts 74 = .ok (.istore 5, 2)) := by decide +kernel
theorem dX12_bursts_52 : decode cX12_bursts 52 = .ok (.iload 4, 2) := bdX12_bursts_52.1
theorem dX12_bursts_54 : decode cX12_bursts 54 = .ok (.aload_n 0, 1) := bdX12_bursts_52.2.1
theorem dX12_bursts_55 : decode cX12_bursts 55 = .ok (.getfield 7, 3) := bdX12_bursts_52.2.2.1
theorem dX12_bursts_58 : decode cX12_bursts 58 = .ok (.iload_n 3, 1) := bdX12_bursts_52.2.2.2.1
theorem dX12_bursts_59 : decode cX12_bursts 59 = .ok (.iconst 1, 1) := bdX12_bursts_52.2.2.2.2.1
theorem dX12_bursts_60 : decode cX12_bursts 60 = .ok (.iadd, 1) := bdX12_bursts_52.2.2.2.2.2.1
theorem dX12_bursts_61 : decode cX12_bursts 61 = .ok (.iaload, 1) := bdX12_bursts_52.2.2.2.2.2.2.1
theorem dX12_bursts_62 : decode cX12_bursts 62 = .ok (.irem, 1) := bdX12_bursts_52.2.2.2.2.2.2.2.1
theorem dX12_bursts_63 : decode cX12_bursts 63 = .ok (.ifCond .ne 134, 3) := bdX12_bursts_52.2.2.2.2.2.2.2.2.1
theorem dX12_bursts_66 : decode cX12_bursts 66 = .ok (.aload_n 0, 1) := bdX12_bursts_52.2.2.2.2.2.2.2.2.2.1
theorem dX12_bursts_67 : decode cX12_bursts 67 = .ok (.getfield 7, 3) := bdX12_bursts_52.2.2.2.2.2.2.2.2.2.2.1
theorem dX12_bursts_70 : decode cX12_bursts 70 = .ok (.iload_n 3, 1) := bdX12_bursts_52.2.2.2.2.2.2.2.2.2.2.2.1
theorem dX12_bursts_71 : decode cX12_bursts 71 = .ok (.iconst 2, 1) := bdX12_bursts_52.2.2.2.2.2.2.2.2.2.2.2.2.1
theorem dX12_bursts_72 : decode cX12_bursts 72 = .ok (.iadd, 1) := bdX12_bursts_52.2.2.2.2.2.2.2.2.2.2.2.2.2.1
theorem dX12_bursts_73 : decode cX12_bursts 73 = .ok (.iaload, 1) := bdX12_bursts_52.2.2.2.2.2.2.2.2.2.2.2.2.2.2.1
theorem dX12_bursts_74 : decode cX12_bursts 74 = .ok (.istore 5, 2) := bdX12_bursts_52.2.2.2.2.2.2.2.2.2.2.2.2.2.2.2
theorem bdX12_bursts_76 : (decode cX12_bursts 76 = .ok (.aload_n 0, 1)) ∧ (decode cX12_bursts 77 = .ok (.getfield 7, 3)) ∧ (decode cX12_bursts 80 = .ok (.iload_n 3, 1)) ∧ (decode cX12_bursts 81 = .ok (.bipush 6, 2)) ∧ (decode cX12_bursts 83 = .ok (.iadd, 1)) ∧ (decode cX12_bursts 84 = .ok (.iaload, 1)) ∧ (decode cX12_bursts 85 = .ok (.ifCond .ne 36, 3)) ∧ (decode cX12_bursts 88 = .ok (.aload_n 0, 1)) ∧ (decode cX12_bursts 89 = .ok (.iload 5, 2)) ∧ (decode cX12_bursts 91 = .ok (.aload_n 0, 1)) ∧ (decode cX12_bursts 92 = .ok (.getfield 7, 3)) ∧ (decode cX12_bursts 95 = .ok (.iload_n 3, 1)) ∧ (decode cX12_bursts 96 = .ok (.iconst 3, 1)) ∧ (decode cX12_bursts 97 = .ok (.iadd, 1)) ∧ (decode cX12_bursts 98 = .ok (.iaload, 1)) ∧ (decode cX12_bursts 99 = .ok (.aload_n 0, 1)) := by decide +kernel
theorem dX12_bursts_76 : decode cX12_bursts 76 = .ok (.aload_n 0, 1) := bdX12_bursts_76.1
theorem dX12_bursts_77 : decode cX12_bursts 77 = .ok (.getfield 7, 3) := bdX12_bursts_76.2.1
theorem dX12_bursts_80 : decode cX12_bursts 80 = .ok (.iload_n 3, 1) := bdX12_bursts_76.2.2.1
theorem dX12_bursts_81 : decode cX12_bursts 81 = .ok (.bipush 6, 2) := bdX12_bursts_76.2.2.2.1
theorem dX12_bursts_83 : decode cX12_bursts 83 = .ok (.iadd, 1) := bdX12_bursts_76.2.2.2.2.1
theorem dX12_bursts_84 : decode cX12_bursts 84 = .ok (.iaload, 1) := bdX12_bursts_76.2.2.2.2.2.1
theorem dX12_bursts_85 : decode cX12_bursts 85 = .ok (.ifCond .ne 36, 3) := bdX12_bursts_76.2.2.2.2.2.2.1
theorem dX12_bursts_88 : decode cX12_bursts 88 = .ok (.aload_n 0, 1) := bdX12_bursts_76.2.2.2.2.2.2.2.1
theorem dX12_bursts_89 : decode cX12_bursts 89 = .ok (.iload 5, 2) := bdX12_bursts_76.2.2.2.2.2.2.2.2.1
theorem dX12_bursts_91 : decode cX12_bursts 91 = .ok (.aload_n 0, 1) := bdX12_bursts_76.2.2.2.2.2.2.2.2.2.1
theorem dX12_bursts_92 : decode cX12_bursts 92 = .ok (.getfield 7, 3) := bdX12_bursts_76.2.2.2.2.2.2.2.2.2.2.1
theorem dX12_bursts_95 : decode cX12_bursts 95 = .ok (.iload_n 3, 1) := bdX12_bursts_76.2.2.2.2.2.2.2.2.2.2.2.1
theorem dX12_bursts_96 : decode cX12_bursts 96 = .ok (.iconst 3, 1) := bdX12_bursts_76.2.2.2.2.2.2.2.2.2.2.2.2.1
theorem dX12_bursts_97 : decode cX12_bursts 97 = .ok (.iadd, 1) := bdX12_bursts_76.2.2.2.2.2.2.2.2.2.2.2.2.2.1
theorem dX12_bursts_98 : decode cX12_bursts 98 = .ok (.iaload, 1) := bdX12_bursts_76.2.2.2.2.2.2.2.2.2.2.2.2.2.2.1
theorem dX12_bursts_99 : decode cX12_bursts 99 = .ok (.aload_n 0, 1) := bdX12_bursts_76.2.2.2.2.2.2.2.2.2.2.2.2.2.2.2
theorem bdX12_bursts_100 : (decode cX12_bursts 100 = .ok (.getfield 7, 3)) ∧ (decode cX12_bursts 103 = .ok (.iload_n 3, 1)) ∧ (decode cX12_bursts 104 = .ok (.iconst 5, 1)) ∧ (decode cX12_bursts 105 = .ok (.iadd, 1)) ∧ (decode cX12_bursts 106 = .ok (.iaload, 1)) ∧ (decode cX12_bursts 107 = .ok (.aload_n 0, 1)) ∧ (decode cX12_bursts 108 = .ok (.getfield 7, 3)) ∧ (decode cX12_bursts 111 = .ok (.iload_n 3, 1)) ∧ (decode cX12_bursts 112 = .ok (.iconst 4, 1)) ∧ (decode cX12_bursts 113 = .ok (.iadd, 1)) ∧ (decode cX12_bursts 114 = .ok (.iaload, 1)) ∧ (decode cX12_bursts 115 = .ok (.invokevirtual 309, 3)) ∧ (decode cX12_bursts 118 = .ok (.goto 79, 3)) ∧ (decode cX12_bursts 121 = .ok (.aload_n 0, 1)) ∧ (decode cX12_bursts 122 = .ok (.iconst 2, 1)) ∧ (decode cX12_bursts 123 = .ok (.iload 5, 2)) := by decide +kernel
theorem dX12_bursts_100 : decode cX12_bursts 100 = .ok (.getfield 7, 3) := bdX12_bursts_100.1
theorem dX12_bursts_103 : decode cX12_bursts 103 = .ok (.iload_n 3, 1) := bdX12_bursts_100.2.1
theorem dX12_bursts_104 : decode cX12_bursts 104 = .ok (.iconst 5, 1) := bdX12_bursts_100.2.2.1
theorem dX12_bursts_105 : decode cX12_bursts 105 = .ok (.iadd, 1) := bdX12_bursts_100.2.2.2.1
theorem dX12_bursts_106 : decode cX12_bursts 106 = .ok (.iaload, 1) := bdX12_bursts_100.2.2.2.2.1
theorem dX12_bursts_107 : decode cX12_bursts 107 = .ok (.aload_n 0, 1) := bdX12_bursts_100.2.2.2.2.2.1
theorem dX12_bursts_108 : decode cX12_bursts 108 = .ok (.getfield 7, 3) := bdX12_bursts_100.2.2.2.2.2.2.1
theorem dX12_bursts_111 : decode cX12_bursts 111 = .ok (.iload_n 3, 1) := bdX12_bursts_100.2.2.2.2.2.2.2.1
theorem dX12_bursts_112 : decode cX12_bursts 112 = .ok (.iconst 4, 1) := bdX12_bursts_100.2.2.2.2.2.2.2.2.1
theorem dX12_bursts_113 : decode cX12_bursts 113 = .ok (.iadd, 1) := bdX12_bursts_100.2.2.2.2.2.2.2.2.2.1
theorem dX12_bursts_114 : decode cX12_bursts 114 = .ok (.iaload, 1) := bdX12_bursts_100.2.2.2.2.2.2.2.2.2.2.1
theorem dX12_bursts_115 : decode cX12_bursts 115 = .ok (.invokevirtual 309, 3) := bdX12_bursts_100.2.2.2.2.2.2.2.2.2.2.2.1
theorem dX12_bursts_118 : decode cX12_bursts 118 = .ok (.goto 79, 3) := bdX12_bursts_100.2.2.2.2.2.2.2.2.2.2.2.2.1
theorem dX12_bursts_121 : decode cX12_bursts 121 = .ok (.aload_n 0, 1) := bdX12_bursts_100.2.2.2.2.2.2.2.2.2.2.2.2.2.1
theorem dX12_bursts_122 : decode cX12_bursts 122 = .ok (.iconst 2, 1) := bdX12_bursts_100.2.2.2.2.2.2.2.2.2.2.2.2.2.2.1
theorem dX12_bursts_123 : decode cX12_bursts 123 = .ok (.iload 5, 2) := bdX12_bursts_100.2.2.2.2.2.2.2.2.2.2.2.2.2.2.2
theorem bdX12_bursts_125 : (decode cX12_bursts 125 = .ok (.invokevirtual 313, 3)) ∧ (decode cX12_bursts 128 = .ok (.ifCond .eq 24, 3)) ∧ (decode cX12_bursts 131 = .ok (.aload_n 0, 1)) ∧ (decode cX12_bursts 132 = .ok (.getfield 7, 3)) ∧ (decode cX12_bursts 135 = .ok (.bipush 11, 2)) ∧ (decode cX12_bursts 137 = .ok (.dup2, 1)) ∧ (decode cX12_bursts 138 = .ok (.iaload, 1)) ∧ (decode cX12_bursts 139 = .ok (.aload_n 0, 1)) ∧ (decode cX12_bursts 140 = .ok (.getfield 7, 3)) ∧ (decode cX12_bursts 143 = .ok (.iload_n 3, 1)) ∧ (decode cX12_bursts 144 = .ok (.iconst 4, 1)) ∧ (decode cX12_bursts 145 = .ok (.iadd, 1)) ∧ (decode cX12_bursts 146 = .ok (.iaload, 1)) ∧ (decode cX12_bursts 147 = .ok (.iadd, 1)) ∧ (decode cX12_bursts 148 = .ok (.iastore, 1)) ∧ (decode cX12_bursts 149 = .ok (.goto 48, 3)) := by decide +kernel
theorem dX12_bursts_125 : decode cX12_bursts 125 = .ok (.invokevirtual 313, 3) := bdX12_bursts_125.1
theorem dX12_bursts_128 : decode cX12_bursts 128 = .ok (.ifCond .eq 24, 3) := bdX12_bursts_125.2.1
theorem dX12_bursts_131 : decode cX12_bursts 131 = .ok (.aload_n 0, 1) := bdX12_bursts_125.2.2.1
theorem dX12_bursts_132 : decode cX12_bursts 132 = .ok (.getfield 7, 3) := bdX12_bursts_125.2.2.2.1
theorem dX12_bursts_135 : decode cX12_bursts 135 = .ok (.bipush 11, 2) := bdX12_bursts_125.2.2.2.2.1
theorem dX12_bursts_137 : decode cX12_bursts 137 = .ok (.dup2, 1) := bdX12_bursts_125.2.2.2.2.2.1
theorem dX12_bursts_138 : decode cX12_bursts 138 = .ok (.iaload, 1) := bdX12_bursts_125.2.2.2.2.2.2.1
theorem dX12_bursts_139 : decode cX12_bursts 139 = .ok (.aload_n 0, 1) := bdX12_bursts_125.2.2.2.2.2.2.2.1
theorem dX12_bursts_140 : decode cX12_bursts 140 = .ok (.getfield 7, 3) := bdX12_bursts_125.2.2.2.2.2.2.2.2.1
theorem dX12_bursts_143 : decode cX12_bursts 143 = .ok (.iload_n 3, 1) := bdX12_bursts_125.2.2.2.2.2.2.2.2.2.1
theorem dX12_bursts_144 : decode cX12_bursts 144 = .ok (.iconst 4, 1) := bdX12_bursts_125.2.2.2.2.2.2.2.2.2.2.1
theorem dX12_bursts_145 : decode cX12_bursts 145 = .ok (.iadd, 1) := bdX12_bursts_125.2.2.2.2.2.2.2.2.2.2.2.1
theorem dX12_bursts_146 : decode cX12_bursts 146 = .ok (.iaload, 1) := bdX12_bursts_125.2.2.2.2.2.2.2.2.2.2.2.2.1
theorem dX12_bursts_147 : decode cX12_bursts 147 = .ok (.iadd, 1) := bdX12_bursts_125.2.2.2.2.2.2.2.2.2.2.2.2.2.1
theorem dX12_bursts_148 : decode cX12_bursts 148 = .ok (.iastore, 1) := bdX12_bursts_125.2.2.2.2.2.2.2.2.2.2.2.2.2.2.1
theorem dX12_bursts_149 : decode cX12_bursts 149 = .ok (.goto 48, 3) := bdX12_bursts_125.2.2.2.2.2.2.2.2.2.2.2.2.2.2.2
theorem bdX12_bursts_152 : (decode cX12_bursts 152 = .ok (.aload_n 0, 1)) ∧ (decode cX12_bursts 153 = .ok (.getfield 7, 3)) ∧ (decode cX12_bursts 156 = .ok (.sipush 130, 3)) ∧ (decode cX12_bursts 159 = .ok (.bipush 12, 2)) ∧ (decode cX12_bursts 161 = .ok (.iload 5, 2)) ∧ (decode cX12_bursts 163 = .ok (.imul, 1)) ∧ (decode cX12_bursts 164 = .ok (.iadd, 1)) ∧ (decode cX12_bursts 165 = .ok (.iconst 2, 1)) ∧ (decode cX12_bursts 166 = .ok (.aload_n 0, 1)) ∧ (decode cX12_bursts 167 = .ok (.getfield 7, 3)) ∧ (decode cX12_bursts 170 = .ok (.iload_n 3, 1)) ∧ (decode cX12_bursts 171 = .ok (.iconst 3, 1)) ∧ (decode cX12_bursts 172 = .ok (.iadd, 1)) ∧ (decode cX12_bursts 173 = .ok (.iaload, 1)) ∧ (decode cX12_bursts 174 = .ok (.imul, 1)) ∧ (decode cX12_bursts 175 = .ok (.iadd, 1)) := by decide +kernel
theorem dX12_bursts_152 : decode cX12_bursts 152 = .ok (.aload_n 0, 1) := bdX12_bursts_152.1
theorem dX12_bursts_153 : decode cX12_bursts 153 = .ok (.getfield 7, 3) := bdX12_bursts_152.2.1
theorem dX12_bursts_156 : decode cX12_bursts 156 = .ok (.sipush 130, 3) := bdX12_bursts_152.2.2.1
theorem dX12_bursts_159 : decode cX12_bursts 159 = .ok (.bipush 12, 2) := bdX12_bursts_152.2.2.2.1
theorem dX12_bursts_161 : decode cX12_bursts 161 = .ok (.iload 5, 2) := bdX12_bursts_152.2.2.2.2.1
theorem dX12_bursts_163 : decode cX12_bursts 163 = .ok (.imul, 1) := bdX12_bursts_152.2.2.2.2.2.1
theorem dX12_bursts_164 : decode cX12_bursts 164 = .ok (.iadd, 1) := bdX12_bursts_152.2.2.2.2.2.2.1
theorem dX12_bursts_165 : decode cX12_bursts 165 = .ok (.iconst 2, 1) := bdX12_bursts_152.2.2.2.2.2.2.2.1
theorem dX12_bursts_166 : decode cX12_bursts 166 = .ok (.aload_n 0, 1) := bdX12_bursts_152.2.2.2.2.2.2.2.2.1
theorem dX12_bursts_167 : decode cX12_bursts 167 = .ok (.getfield 7, 3) := bdX12_bursts_152.2.2.2.2.2.2.2.2.2.1
theorem dX12_bursts_170 : decode cX12_bursts 170 = .ok (.iload_n 3, 1) := bdX12_bursts_152.2.2.2.2.2.2.2.2.2.2.1
theorem dX12_bursts_171 : decode cX12_bursts 171 = .ok (.iconst 3, 1) := bdX12_bursts_152.2.2.2.2.2.2.2.2.2.2.2.1
theorem dX12_bursts_172 : decode cX12_bursts 172 = .ok (.iadd, 1) := bdX12_bursts_152.2.2.2.2.2.2.2.2.2.2.2.2.1
theorem dX12_bursts_173 : decode cX12_bursts 173 = .ok (.iaload, 1) := bdX12_bursts_152.2.2.2.2.2.2.2.2.2.2.2.2.2.1
theorem dX12_bursts_174 : decode cX12_bursts 174 = .ok (.imul, 1) := bdX12_bursts_152.2.2.2.2.2.2.2.2.2.2.2.2.2.2.1
theorem dX12_bursts_175 : decode cX12_bursts 175 = .ok (.iadd, 1) := bdX12_bursts_152.2.2.2.2.2.2.2.2.2.2.2.2.2.2.2
theorem bdX12_bursts_176 : (decode cX12_bursts 176 = .ok (.aload_n 0, 1)) ∧ (decode cX12_bursts 177 = .ok (.getfield 7, 3)) ∧ (decode cX12_bursts 180 = .ok (.iload_n 3, 1)) ∧ (decode cX12_bursts 181 = .ok (.iconst 5, 1)) ∧ (decode cX12_bursts 182 = .ok (.iadd, 1)) ∧ (decode cX12_bursts 183 = .ok (.iaload, 1)) ∧ (decode cX12_bursts 184 = .ok (.iadd, 1)) ∧ (decode cX12_bursts 185 = .ok (.dup2, 1)) ∧ (decode cX12_bursts 186 = .ok (.iaload, 1)) ∧ (decode cX12_bursts 187 = .ok (.aload_n 0, 1)) ∧ (decode cX12_bursts 188 = .ok (.getfield 7, 3)) ∧ (decode cX12_bursts 191 = .ok (.iload_n 3, 1)) ∧ (decode cX12_bursts 192 = .ok (.iconst 4, 1)) ∧ (decode cX12_bursts 193 = .ok (.iadd, 1)) ∧ (decode cX12_bursts 194 = .ok (.iaload, 1)) ∧ (decode cX12_bursts 195 = .ok (.iadd, 1)) := by decide +kernel
theorem dX12_bursts_176 : decode cX12_bursts 176 = .ok (.aload_n 0, 1) := bdX12_bursts_176.1
theorem dX12_bursts_177 : decode cX12_bursts 177 = .ok (.getfield 7, 3) := bdX12_bursts_176.2.1
theorem dX12_bursts_180 : decode cX12_bursts 180 = .ok (.iload_n 3, 1) := bdX12_bursts_176.2.2.1
theorem dX12_bursts_181 : decode cX12_bursts 181 = .ok (.iconst 5, 1) := bdX12_bursts_176.2.2.2.1
theorem dX12_bursts_182 : decode cX12_bursts 182 = .ok (.iadd, 1) := bdX12_bursts_176.2.2.2.2.1
theorem dX12_bursts_183 : decode cX12_bursts 183 = .ok (.iaload, 1) := bdX12_bursts_176.2.2.2.2.2.1
theorem dX12_bursts_184 : decode cX12_bursts 184 = .ok (.iadd, 1) := bdX12_bursts_176.2.2.2.2.2.2.1
theorem dX12_bursts_185 : decode cX12_bursts 185 = .ok (.dup2, 1) := bdX12_bursts_176.2.2.2.2.2.2.2.1
theorem dX12_bursts_186 : decode cX12_bursts 186 = .ok (.iaload, 1) := bdX12_bursts_176.2.2.2.2.2.2.2.2.1
theorem dX12_bursts_187 : decode cX12_bursts 187 = .ok (.aload_n 0, 1) := bdX12_bursts_176.2.2.2.2.2.2.2.2.2.1
theorem dX12_bursts_188 : decode cX12_bursts 188 = .ok (.getfield 7, 3) := bdX12_bursts_176.2.2.2.2.2.2.2.2.2.2.1
theorem dX12_bursts_191 : decode cX12_bursts 191 = .ok (.iload_n 3, 1) := bdX12_bursts_176.2.2.2.2.2.2.2.2.2.2.2.1
theorem dX12_bursts_192 : decode cX12_bursts 192 = .ok (.iconst 4, 1) := bdX12_bursts_176.2.2.2.2.2.2.2.2.2.2.2.2.1
theorem dX12_bursts_193 : decode cX12_bursts 193 = .ok (.iadd, 1) := bdX12_bursts_176.2.2.2.2.2.2.2.2.2.2.2.2.2.1
theorem dX12_bursts_194 : decode cX12_bursts 194 = .ok (.iaload, 1) := bdX12_bursts_176.2.2.2.2.2.2.2.2.2.2.2.2.2.2.1
theorem dX12_bursts_195 : decode cX12_bursts 195 = .ok (.iadd, 1) := bdX12_bursts_176.2.2.2.2.2.2.2.2.2.2.2.2.2.2.2
theorem bdX12_bursts_196 : (decode cX12_bursts 196 = .ok (.iastore, 1)) ∧ (decode cX12_bursts 197 = .ok (.iinc 2 1, 3)) ∧ (decode cX12_bursts 200 = .ok (.goto (-198), 3)) ∧ (decode cX12_bursts 203 = .ok (.return_, 1)) := by decide +kernel
theorem dX12_bursts_196 : decode cX12_bursts 196 = .ok (.iastore, 1) := bdX12_bursts_196.1
theorem dX12_bursts_197 : decode cX12_bursts 197 = .ok (.iinc 2 1, 3) := bdX12_bursts_196.2.1
theorem dX12_bursts_200 : decode cX12_bursts 200 = .ok (.goto (-198), 3) := bdX12_bursts_196.2.2.1
theorem dX12_bursts_203 : decode cX12_bursts 203 = .ok (.return_, 1) := bdX12_bursts_196.2.2.2
theorem bdX12_lets_0 : (decode cX12_lets 0 = .ok (.aload_n 0, 1)) ∧ (decode cX12_lets 1 = .ok (.getfield 76, 3)) ∧ (decode cX12_lets 4 = .ok (.iload_n 1, 1)) ∧ (decode cX12_lets 5 = .ok (.aload_n 0, 1)) ∧ (decode cX12_lets 6 = .ok (.iload_n 1, 1)) ∧ (decode cX12_lets 7 = .ok (.invokevirtual 292, 3)) ∧ (decode cX12_lets 10 = .ok (.aload_n 0, 1)) ∧ (decode cX12_lets 11 = .ok (.iload_n 1, 1)) ∧ (decode cX12_lets 12 = .ok (.iconst 1, 1)) ∧ (decode cX12_lets 13 = .ok (.invokevirtual 295, 3)) ∧ (decode cX12_lets 16 = .ok (.if_icmp .ge 12, 3)) ∧ (decode cX12_lets 19 = .ok (.aload_n 0, 1)) ∧ (decode cX12_lets 20 = .ok (.iconst 1, 1)) ∧ (decode cX12_lets 21 = .ok (.iload_n 1, 1)) ∧ (decode cX12_lets 22 = .ok (.invokevirtual 313, 3)) ∧ (decode cX12_lets 25 = .ok (.ifCond .eq 7, 3)) := by decide +kernel
theorem dX12_lets_0 : decode cX12_lets 0 = .ok (.aload_n 0, 1) := bdX12_lets_0.1
theorem dX12_lets_1 : decode cX12_lets 1 = .ok (.getfield 76, 3) := bdX12_lets_0.2.1
theorem dX12_lets_4 : decode cX12_lets 4 = .ok (.iload_n 1, 1) := bdX12_lets_0.2.2.1
theorem dX12_lets_5 : decode cX12_lets 5 = .ok (.aload_n 0, 1) := bdX12_lets_0.2.2.2.1
theorem dX12_lets_6 : decode cX12_lets 6 = .ok (.iload_n 1, 1) := bdX12_lets_0.2.2.2.2.1
theorem dX12_lets_7 : decode cX12_lets 7 = .ok (.invokevirtual 292, 3) := bdX12_lets_0.2.2.2.2.2.1
theorem dX12_lets_10 : decode cX12_lets 10 = .ok (.aload_n 0, 1) := bdX12_lets_0.2.2.2.2.2.2.1
theorem dX12_lets_11 : decode cX12_lets 11 = .ok (.iload_n 1, 1) := bdX12_lets_0.2.2.2.2.2.2.2.1
theorem dX12_lets_12 : decode cX12_lets 12 = .ok (.iconst 1, 1) := bdX12_lets_0.2.2.2.2.2.2.2.2.1
theorem dX12_lets_13 : decode cX12_lets 13 = .ok (.invokevirtual 295, 3) := bdX12_lets_0.2.2.2.2.2.2.2.2.2.1
theorem dX12_lets_16 : decode cX12_lets 16 = .ok (.if_icmp .ge 12, 3) := bdX12_lets_0.2.2.2.2.2.2.2.2.2.2.1
theorem dX12_lets_19 : decode cX12_lets 19 = .ok (.aload_n 0, 1) := bdX12_lets_0.2.2.2.2.2.2.2.2.2.2.2.1
theorem dX12_lets_20 : decode cX12_lets 20 = .ok (.iconst 1, 1) := bdX12_lets_0.2.2.2.2.2.2.2.2.2.2.2.2.1
theorem dX12_lets_21 : decode cX12_lets 21 = .ok (.iload_n 1, 1) := bdX12_lets_0.2.2.2.2.2.2.2.2.2.2.2.2.2.1
theorem dX12_lets_22 : decode cX12_lets 22 = .ok (.invokevirtual 313, 3) := bdX12_lets_0.2.2.2.2.2.2.2.2.2.2.2.2.2.2.1
theorem dX12_lets_25 : decode cX12_lets 25 = .ok (.ifCond .eq 7, 3) := bdX12_lets_0.2.2.2.2.2.2.2.2.2.2.2.2.2.2.2
theorem bdX12_lets_28 : (decode cX12_lets 28 = .ok (.iconst 1, 1)) ∧ (decode cX12_lets 29 = .ok (.goto 4, 3)) ∧ (decode cX12_lets 32 = .ok (.iconst 0, 1)) ∧ (decode cX12_lets 33 = .ok (.bastore, 1)) ∧ (decode cX12_lets 34 = .ok (.aload_n 0, 1)) ∧ (decode cX12_lets 35 = .ok (.getfield 76, 3)) ∧ (decode cX12_lets 38 = .ok (.iload_n 1, 1)) ∧ (decode cX12_lets 39 = .ok (.baload, 1)) ∧ (decode cX12_lets 40 = .ok (.ifCond .eq 4, 3)) ∧ (decode cX12_lets 43 = .ok (.return_, 1)) ∧ (decode cX12_lets 44 = .ok (.aload_n 0, 1)) ∧ (decode cX12_lets 45 = .ok (.iload_n 1, 1)) ∧ (decode cX12_lets 46 = .ok (.invokevirtual 292, 3)) ∧ (decode cX12_lets 49 = .ok (.istore_n 2, 1)) ∧ (decode cX12_lets 50 = .ok (.iconst 0, 1)) ∧ (decode cX12_lets 51 = .ok (.istore_n 3, 1)) := by decide +kernel
theorem dX12_lets_28 : decode cX12_lets 28 = .ok (.iconst 1, 1) := bdX12_lets_28.1
theorem dX12_lets_29 : decode cX12_lets 29 = .ok (.goto 4, 3) := bdX12_lets_28.2.1
theorem dX12_lets_32 : decode cX12_lets 32 = .ok (.iconst 0, 1) := bdX12_lets_28.2.2.1
theorem dX12_lets_33 : decode cX12_lets 33 = .ok (.bastore, 1) := bdX12_lets_28.2.2.2.1
theorem dX12_lets_34 : decode cX12_lets 34 = .ok (.aload_n 0, 1) := bdX12_lets_28.2.2.2.2.1
theorem dX12_lets_35 : decode cX12_lets 35 = .ok (.getfield 76, 3) := bdX12_lets_28.2.2.2.2.2.1
theorem dX12_lets_38 : decode cX12_lets 38 = .ok (.iload_n 1, 1) := bdX12_lets_28.2.2.2.2.2.2.1
theorem dX12_lets_39 : decode cX12_lets 39 = .ok (.baload, 1) := bdX12_lets_28.2.2.2.2.2.2.2.1
theorem dX12_lets_40 : decode cX12_lets 40 = .ok (.ifCond .eq 4, 3) := bdX12_lets_28.2.2.2.2.2.2.2.2.1
theorem dX12_lets_43 : decode cX12_lets 43 = .ok (.return_, 1) := bdX12_lets_28.2.2.2.2.2.2.2.2.2.1
theorem dX12_lets_44 : decode cX12_lets 44 = .ok (.aload_n 0, 1) := bdX12_lets_28.2.2.2.2.2.2.2.2.2.2.1
theorem dX12_lets_45 : decode cX12_lets 45 = .ok (.iload_n 1, 1) := bdX12_lets_28.2.2.2.2.2.2.2.2.2.2.2.1
theorem dX12_lets_46 : decode cX12_lets 46 = .ok (.invokevirtual 292, 3) := bdX12_lets_28.2.2.2.2.2.2.2.2.2.2.2.2.1
theorem dX12_lets_49 : decode cX12_lets 49 = .ok (.istore_n 2, 1) := bdX12_lets_28.2.2.2.2.2.2.2.2.2.2.2.2.2.1
theorem dX12_lets_50 : decode cX12_lets 50 = .ok (.iconst 0, 1) := bdX12_lets_28.2.2.2.2.2.2.2.2.2.2.2.2.2.2.1
theorem dX12_lets_51 : decode cX12_lets 51 = .ok (.istore_n 3, 1) := bdX12_lets_28.2.2.2.2.2.2.2.2.2.2.2.2.2.2.2
theorem bdX12_lets_52 : (decode cX12_lets 52 = .ok (.iload_n 3, 1)) ∧ (decode cX12_lets 53 = .ok (.bipush 12, 2)) ∧ (decode cX12_lets 55 = .ok (.if_icmp .ge 101, 3)) ∧ (decode cX12_lets 58 = .ok (.aload_n 0, 1)) ∧ (decode cX12_lets 59 = .ok (.getfield 7, 3)) ∧ (decode cX12_lets 62 = .ok (.sipush 130, 3)) ∧ (decode cX12_lets 65 = .ok (.bipush 12, 2)) ∧ (decode cX12_lets 67 = .ok (.iload_n 1, 1)) ∧ (decode cX12_lets 68 = .ok (.imul, 1)) ∧ (decode cX12_lets 69 = .ok (.iadd, 1)) ∧ (decode cX12_lets 70 = .ok (.iload_n 3, 1)) ∧ (decode cX12_lets 71 = .ok (.iadd, 1)) ∧ (decode cX12_lets 72 = .ok (.iaload, 1)) ∧ (decode cX12_lets 73 = .ok (.ifCond .le 77, 3)) ∧ (decode cX12_lets 76 = .ok (.iload_n 2, 1)) ∧ (decode cX12_lets 77 = .ok (.aload_n 0, 1)) := by decide +kernel
theorem dX12_lets_52 : decode cX12_lets 52 = .ok (.iload_n 3, 1) := bdX12_lets_52.1
theorem dX12_lets_53 : decode cX12_lets 53 = .ok (.bipush 12, 2) := bdX12_lets_52.2.1
theorem dX12_lets_55 : decode cX12_lets 55 = .ok (.if_icmp .ge 101, 3) := bdX12_lets_52.2.2.1
theorem dX12_lets_58 : decode cX12_lets 58 = .ok (.aload_n 0, 1) := bdX12_lets_52.2.2.2.1
theorem dX12_lets_59 : decode cX12_lets 59 = .ok (.getfield 7, 3) := bdX12_lets_52.2.2.2.2.1
theorem dX12_lets_62 : decode cX12_lets 62 = .ok (.sipush 130, 3) := bdX12_lets_52.2.2.2.2.2.1
theorem dX12_lets_65 : decode cX12_lets 65 = .ok (.bipush 12, 2) := bdX12_lets_52.2.2.2.2.2.2.1
theorem dX12_lets_67 : decode cX12_lets 67 = .ok (.iload_n 1, 1) := bdX12_lets_52.2.2.2.2.2.2.2.1
theorem dX12_lets_68 : decode cX12_lets 68 = .ok (.imul, 1) := bdX12_lets_52.2.2.2.2.2.2.2.2.1
theorem dX12_lets_69 : decode cX12_lets 69 = .ok (.iadd, 1) := bdX12_lets_52.2.2.2.2.2.2.2.2.2.1
theorem dX12_lets_70 : decode cX12_lets 70 = .ok (.iload_n 3, 1) := bdX12_lets_52.2.2.2.2.2.2.2.2.2.2.1
theorem dX12_lets_71 : decode cX12_lets 71 = .ok (.iadd, 1) := bdX12_lets_52.2.2.2.2.2.2.2.2.2.2.2.1
theorem dX12_lets_72 : decode cX12_lets 72 = .ok (.iaload, 1) := bdX12_lets_52.2.2.2.2.2.2.2.2.2.2.2.2.1
theorem dX12_lets_73 : decode cX12_lets 73 = .ok (.ifCond .le 77, 3) := bdX12_lets_52.2.2.2.2.2.2.2.2.2.2.2.2.2.1
theorem dX12_lets_76 : decode cX12_lets 76 = .ok (.iload_n 2, 1) := bdX12_lets_52.2.2.2.2.2.2.2.2.2.2.2.2.2.2.1
theorem dX12_lets_77 : decode cX12_lets 77 = .ok (.aload_n 0, 1) := bdX12_lets_52.2.2.2.2.2.2.2.2.2.2.2.2.2.2.2
theorem bdX12_lets_78 : (decode cX12_lets 78 = .ok (.iload_n 1, 1)) ∧ (decode cX12_lets 79 = .ok (.iconst 0, 1)) ∧ (decode cX12_lets 80 = .ok (.invokevirtual 295, 3)) ∧ (decode cX12_lets 83 = .ok (.if_icmp .ge 67, 3)) ∧ (decode cX12_lets 86 = .ok (.aload_n 0, 1)) ∧ (decode cX12_lets 87 = .ok (.getfield 7, 3)) ∧ (decode cX12_lets 90 = .ok (.sipush 130, 3)) ∧ (decode cX12_lets 93 = .ok (.bipush 12, 2)) ∧ (decode cX12_lets 95 = .ok (.iload_n 1, 1)) ∧ (decode cX12_lets 96 = .ok (.imul, 1)) ∧ (decode cX12_lets 97 = .ok (.iadd, 1)) ∧ (decode cX12_lets 98 = .ok (.iload_n 3, 1)) ∧ (decode cX12_lets 99 = .ok (.iadd, 1)) ∧ (decode cX12_lets 100 = .ok (.dup2, 1)) ∧ (decode cX12_lets 101 = .ok (.iaload, 1)) ∧ (decode cX12_lets 102 = .ok (.iconst 1, 1)) := by decide +kernel
theorem dX12_lets_78 : decode cX12_lets 78 = .ok (.iload_n 1, 1) := bdX12_lets_78.1
theorem dX12_lets_79 : decode cX12_lets 79 = .ok (.iconst 0, 1) := bdX12_lets_78.2.1
theorem dX12_lets_80 : decode cX12_lets 80 = .ok (.invokevirtual 295, 3) := bdX12_lets_78.2.2.1
theorem dX12_lets_83 : decode cX12_lets 83 = .ok (.if_icmp .ge 67, 3) := bdX12_lets_78.2.2.2.1
theorem dX12_lets_86 : decode cX12_lets 86 = .ok (.aload_n 0, 1) := bdX12_lets_78.2.2.2.2.1
theorem dX12_lets_87 : decode cX12_lets 87 = .ok (.getfield 7, 3) := bdX12_lets_78.2.2.2.2.2.1
theorem dX12_lets_90 : decode cX12_lets 90 = .ok (.sipush 130, 3) := bdX12_lets_78.2.2.2.2.2.2.1
theorem dX12_lets_93 : decode cX12_lets 93 = .ok (.bipush 12, 2) := bdX12_lets_78.2.2.2.2.2.2.2.1
theorem dX12_lets_95 : decode cX12_lets 95 = .ok (.iload_n 1, 1) := bdX12_lets_78.2.2.2.2.2.2.2.2.1
theorem dX12_lets_96 : decode cX12_lets 96 = .ok (.imul, 1) := bdX12_lets_78.2.2.2.2.2.2.2.2.2.1
theorem dX12_lets_97 : decode cX12_lets 97 = .ok (.iadd, 1) := bdX12_lets_78.2.2.2.2.2.2.2.2.2.2.1
theorem dX12_lets_98 : decode cX12_lets 98 = .ok (.iload_n 3, 1) := bdX12_lets_78.2.2.2.2.2.2.2.2.2.2.2.1
theorem dX12_lets_99 : decode cX12_lets 99 = .ok (.iadd, 1) := bdX12_lets_78.2.2.2.2.2.2.2.2.2.2.2.2.1
theorem dX12_lets_100 : decode cX12_lets 100 = .ok (.dup2, 1) := bdX12_lets_78.2.2.2.2.2.2.2.2.2.2.2.2.2.1
theorem dX12_lets_101 : decode cX12_lets 101 = .ok (.iaload, 1) := bdX12_lets_78.2.2.2.2.2.2.2.2.2.2.2.2.2.2.1
theorem dX12_lets_102 : decode cX12_lets 102 = .ok (.iconst 1, 1) := bdX12_lets_78.2.2.2.2.2.2.2.2.2.2.2.2.2.2.2
theorem bdX12_lets_103 : (decode cX12_lets 103 = .ok (.isub, 1)) ∧ (decode cX12_lets 104 = .ok (.iastore, 1)) ∧ (decode cX12_lets 105 = .ok (.iload_n 3, 1)) ∧ (decode cX12_lets 106 = .ok (.iconst 2, 1)) ∧ (decode cX12_lets 107 = .ok (.idiv, 1)) ∧ (decode cX12_lets 108 = .ok (.iload_n 1, 1)) ∧ (decode cX12_lets 109 = .ok (.if_icmp .ne 17, 3)) ∧ (decode cX12_lets 112 = .ok (.aload_n 0, 1)) ∧ (decode cX12_lets 113 = .ok (.getfield 7, 3)) ∧ (decode cX12_lets 116 = .ok (.bipush 9, 2)) ∧ (decode cX12_lets 118 = .ok (.dup2, 1)) ∧ (decode cX12_lets 119 = .ok (.iaload, 1)) ∧ (decode cX12_lets 120 = .ok (.iconst 1, 1)) ∧ (decode cX12_lets 121 = .ok (.iadd, 1)) ∧ (decode cX12_lets 122 = .ok (.iastore, 1)) ∧ (decode cX12_lets 123 = .ok (.goto (-65), 3)) := by decide +kernel
theorem dX12_lets_103 : decode cX12_lets 103 = .ok (.isub, 1) := bdX12_lets_103.1
theorem dX12_lets_104 : decode cX12_lets 104 = .ok (.iastore, 1) := bdX12_lets_103.2.1
theorem dX12_lets_105 : decode cX12_lets 105 = .ok (.iload_n 3, 1) := bdX12_lets_103.2.2.1
theorem dX12_lets_106 : decode cX12_lets 106 = .ok (.iconst 2, 1) := bdX12_lets_103.2.2.2.1
theorem dX12_lets_107 : decode cX12_lets 107 = .ok (.idiv, 1) := bdX12_lets_103.2.2.2.2.1
theorem dX12_lets_108 : decode cX12_lets 108 = .ok (.iload_n 1, 1) := bdX12_lets_103.2.2.2.2.2.1
theorem dX12_lets_109 : decode cX12_lets 109 = .ok (.if_icmp .ne 17, 3) := bdX12_lets_103.2.2.2.2.2.2.1
theorem dX12_lets_112 : decode cX12_lets 112 = .ok (.aload_n 0, 1) := bdX12_lets_103.2.2.2.2.2.2.2.1
theorem dX12_lets_113 : decode cX12_lets 113 = .ok (.getfield 7, 3) := bdX12_lets_103.2.2.2.2.2.2.2.2.1
theorem dX12_lets_116 : decode cX12_lets 116 = .ok (.bipush 9, 2) := bdX12_lets_103.2.2.2.2.2.2.2.2.2.1
theorem dX12_lets_118 : decode cX12_lets 118 = .ok (.dup2, 1) := bdX12_lets_103.2.2.2.2.2.2.2.2.2.2.1
theorem dX12_lets_119 : decode cX12_lets 119 = .ok (.iaload, 1) := bdX12_lets_103.2.2.2.2.2.2.2.2.2.2.2.1
theorem dX12_lets_120 : decode cX12_lets 120 = .ok (.iconst 1, 1) := bdX12_lets_103.2.2.2.2.2.2.2.2.2.2.2.2.1
theorem dX12_lets_121 : decode cX12_lets 121 = .ok (.iadd, 1) := bdX12_lets_103.2.2.2.2.2.2.2.2.2.2.2.2.2.1
theorem dX12_lets_122 : decode cX12_lets 122 = .ok (.iastore, 1) := bdX12_lets_103.2.2.2.2.2.2.2.2.2.2.2.2.2.2.1
theorem dX12_lets_123 : decode cX12_lets 123 = .ok (.goto (-65), 3) := bdX12_lets_103.2.2.2.2.2.2.2.2.2.2.2.2.2.2.2
theorem bdX12_lets_126 : (decode cX12_lets 126 = .ok (.aload_n 0, 1)) ∧ (decode cX12_lets 127 = .ok (.getfield 7, 3)) ∧ (decode cX12_lets 130 = .ok (.bipush 50, 2)) ∧ (decode cX12_lets 132 = .ok (.bipush 12, 2)) ∧ (decode cX12_lets 134 = .ok (.iload_n 1, 1)) ∧ (decode cX12_lets 135 = .ok (.imul, 1)) ∧ (decode cX12_lets 136 = .ok (.iadd, 1)) ∧ (decode cX12_lets 137 = .ok (.iload_n 3, 1)) ∧ (decode cX12_lets 138 = .ok (.iadd, 1)) ∧ (decode cX12_lets 139 = .ok (.dup2, 1)) ∧ (decode cX12_lets 140 = .ok (.iaload, 1)) ∧ (decode cX12_lets 141 = .ok (.iconst 1, 1)) ∧ (decode cX12_lets 142 = .ok (.iadd, 1)) ∧ (decode cX12_lets 143 = .ok (.iastore, 1)) ∧ (decode cX12_lets 144 = .ok (.iinc 2 1, 3)) ∧ (decode cX12_lets 147 = .ok (.goto (-89), 3)) := by decide +kernel
theorem dX12_lets_126 : decode cX12_lets 126 = .ok (.aload_n 0, 1) := bdX12_lets_126.1
theorem dX12_lets_127 : decode cX12_lets 127 = .ok (.getfield 7, 3) := bdX12_lets_126.2.1
theorem dX12_lets_130 : decode cX12_lets 130 = .ok (.bipush 50, 2) := bdX12_lets_126.2.2.1
theorem dX12_lets_132 : decode cX12_lets 132 = .ok (.bipush 12, 2) := bdX12_lets_126.2.2.2.1
theorem dX12_lets_134 : decode cX12_lets 134 = .ok (.iload_n 1, 1) := bdX12_lets_126.2.2.2.2.1
theorem dX12_lets_135 : decode cX12_lets 135 = .ok (.imul, 1) := bdX12_lets_126.2.2.2.2.2.1
theorem dX12_lets_136 : decode cX12_lets 136 = .ok (.iadd, 1) := bdX12_lets_126.2.2.2.2.2.2.1
theorem dX12_lets_137 : decode cX12_lets 137 = .ok (.iload_n 3, 1) := bdX12_lets_126.2.2.2.2.2.2.2.1
theorem dX12_lets_138 : decode cX12_lets 138 = .ok (.iadd, 1) := bdX12_lets_126.2.2.2.2.2.2.2.2.1
theorem dX12_lets_139 : decode cX12_lets 139 = .ok (.dup2, 1) := bdX12_lets_126.2.2.2.2.2.2.2.2.2.1
theorem dX12_lets_140 : decode cX12_lets 140 = .ok (.iaload, 1) := bdX12_lets_126.2.2.2.2.2.2.2.2.2.2.1
theorem dX12_lets_141 : decode cX12_lets 141 = .ok (.iconst 1, 1) := bdX12_lets_126.2.2.2.2.2.2.2.2.2.2.2.1
theorem dX12_lets_142 : decode cX12_lets 142 = .ok (.iadd, 1) := bdX12_lets_126.2.2.2.2.2.2.2.2.2.2.2.2.1
theorem dX12_lets_143 : decode cX12_lets 143 = .ok (.iastore, 1) := bdX12_lets_126.2.2.2.2.2.2.2.2.2.2.2.2.2.1
theorem dX12_lets_144 : decode cX12_lets 144 = .ok (.iinc 2 1, 3) := bdX12_lets_126.2.2.2.2.2.2.2.2.2.2.2.2.2.2.1
theorem dX12_lets_147 : decode cX12_lets 147 = .ok (.goto (-89), 3) := bdX12_lets_126.2.2.2.2.2.2.2.2.2.2.2.2.2.2.2
theorem bdX12_lets_150 : (decode cX12_lets 150 = .ok (.iinc 3 1, 3)) ∧ (decode cX12_lets 153 = .ok (.goto (-101), 3)) ∧ (decode cX12_lets 156 = .ok (.return_, 1)) := by decide +kernel
theorem dX12_lets_150 : decode cX12_lets 150 = .ok (.iinc 3 1, 3) := bdX12_lets_150.1
theorem dX12_lets_153 : decode cX12_lets 153 = .ok (.goto (-101), 3) := bdX12_lets_150.2.1
theorem dX12_lets_156 : decode cX12_lets 156 = .ok (.return_, 1) := bdX12_lets_150.2.2
theorem bdX12_footOf_0 : (decode cX12_footOf 0 = .ok (.aload_n 0, 1)) ∧ (decode cX12_footOf 1 = .ok (.iload_n 1, 1)) ∧ (decode cX12_footOf 2 = .ok (.aload_n 0, 1)) ∧ (decode cX12_footOf 3 = .ok (.iload_n 1, 1)) ∧ (decode cX12_footOf 4 = .ok (.iconst 5, 1)) ∧ (decode cX12_footOf 5 = .ok (.invokevirtual 103, 3)) ∧ (decode cX12_footOf 8 = .ok (.iconst 1, 1)) ∧ (decode cX12_footOf 9 = .ok (.if_icmp .ne 7, 3)) ∧ (decode cX12_footOf 12 = .ok (.iconst 1, 1)) ∧ (decode cX12_footOf 13 = .ok (.goto 4, 3)) ∧ (decode cX12_footOf 16 = .ok (.iconst 2, 1)) ∧ (decode cX12_footOf 17 = .ok (.invokevirtual 103, 3)) ∧ (decode cX12_footOf 20 = .ok (.ireturn, 1)) := by decide +kernel
theorem dX12_footOf_0 : decode cX12_footOf 0 = .ok (.aload_n 0, 1) := bdX12_footOf_0.1
theorem dX12_footOf_1 : decode cX12_footOf 1 = .ok (.iload_n 1, 1) := bdX12_footOf_0.2.1
theorem dX12_footOf_2 : decode cX12_footOf 2 = .ok (.aload_n 0, 1) := bdX12_footOf_0.2.2.1
theorem dX12_footOf_3 : decode cX12_footOf 3 = .ok (.iload_n 1, 1) := bdX12_footOf_0.2.2.2.1
theorem dX12_footOf_4 : decode cX12_footOf 4 = .ok (.iconst 5, 1) := bdX12_footOf_0.2.2.2.2.1
theorem dX12_footOf_5 : decode cX12_footOf 5 = .ok (.invokevirtual 103, 3) := bdX12_footOf_0.2.2.2.2.2.1
theorem dX12_footOf_8 : decode cX12_footOf 8 = .ok (.iconst 1, 1) := bdX12_footOf_0.2.2.2.2.2.2.1
theorem dX12_footOf_9 : decode cX12_footOf 9 = .ok (.if_icmp .ne 7, 3) := bdX12_footOf_0.2.2.2.2.2.2.2.1
theorem dX12_footOf_12 : decode cX12_footOf 12 = .ok (.iconst 1, 1) := bdX12_footOf_0.2.2.2.2.2.2.2.2.1
theorem dX12_footOf_13 : decode cX12_footOf 13 = .ok (.goto 4, 3) := bdX12_footOf_0.2.2.2.2.2.2.2.2.2.1
theorem dX12_footOf_16 : decode cX12_footOf 16 = .ok (.iconst 2, 1) := bdX12_footOf_0.2.2.2.2.2.2.2.2.2.2.1
theorem dX12_footOf_17 : decode cX12_footOf 17 = .ok (.invokevirtual 103, 3) := bdX12_footOf_0.2.2.2.2.2.2.2.2.2.2.2.1
theorem dX12_footOf_20 : decode cX12_footOf 20 = .ok (.ireturn, 1) := bdX12_footOf_0.2.2.2.2.2.2.2.2.2.2.2.2
theorem bdX12_costFrom_0 : (decode cX12_costFrom 0 = .ok (.iload_n 3, 1)) ∧ (decode cX12_costFrom 1 = .ok (.iconst 1, 1)) ∧ (decode cX12_costFrom 2 = .ok (.if_icmp .ne 44, 3)) ∧ (decode cX12_costFrom 5 = .ok (.aload_n 0, 1)) ∧ (decode cX12_costFrom 6 = .ok (.iload_n 1, 1)) ∧ (decode cX12_costFrom 7 = .ok (.iconst 0, 1)) ∧ (decode cX12_costFrom 8 = .ok (.invokevirtual 103, 3)) ∧ (decode cX12_costFrom 11 = .ok (.iconst 2, 1)) ∧ (decode cX12_costFrom 12 = .ok (.if_icmp .ne 32, 3)) ∧ (decode cX12_costFrom 15 = .ok (.aload_n 0, 1)) ∧ (decode cX12_costFrom 16 = .ok (.iload_n 1, 1)) ∧ (decode cX12_costFrom 17 = .ok (.iconst 1, 1)) ∧ (decode cX12_costFrom 18 = .ok (.invokevirtual 103, 3)) ∧ (decode cX12_costFrom 21 = .ok (.iload_n 2, 1)) ∧ (decode cX12_costFrom 22 = .ok (.if_icmp .eq 13, 3)) ∧ (decode cX12_costFrom 25 = .ok (.aload_n 0, 1)) := by decide +kernel
theorem dX12_costFrom_0 : decode cX12_costFrom 0 = .ok (.iload_n 3, 1) := bdX12_costFrom_0.1
theorem dX12_costFrom_1 : decode cX12_costFrom 1 = .ok (.iconst 1, 1) := bdX12_costFrom_0.2.1
theorem dX12_costFrom_2 : decode cX12_costFrom 2 = .ok (.if_icmp .ne 44, 3) := bdX12_costFrom_0.2.2.1
theorem dX12_costFrom_5 : decode cX12_costFrom 5 = .ok (.aload_n 0, 1) := bdX12_costFrom_0.2.2.2.1
theorem dX12_costFrom_6 : decode cX12_costFrom 6 = .ok (.iload_n 1, 1) := bdX12_costFrom_0.2.2.2.2.1
theorem dX12_costFrom_7 : decode cX12_costFrom 7 = .ok (.iconst 0, 1) := bdX12_costFrom_0.2.2.2.2.2.1
theorem dX12_costFrom_8 : decode cX12_costFrom 8 = .ok (.invokevirtual 103, 3) := bdX12_costFrom_0.2.2.2.2.2.2.1
theorem dX12_costFrom_11 : decode cX12_costFrom 11 = .ok (.iconst 2, 1) := bdX12_costFrom_0.2.2.2.2.2.2.2.1
theorem dX12_costFrom_12 : decode cX12_costFrom 12 = .ok (.if_icmp .ne 32, 3) := bdX12_costFrom_0.2.2.2.2.2.2.2.2.1
theorem dX12_costFrom_15 : decode cX12_costFrom 15 = .ok (.aload_n 0, 1) := bdX12_costFrom_0.2.2.2.2.2.2.2.2.2.1
theorem dX12_costFrom_16 : decode cX12_costFrom 16 = .ok (.iload_n 1, 1) := bdX12_costFrom_0.2.2.2.2.2.2.2.2.2.2.1
theorem dX12_costFrom_17 : decode cX12_costFrom 17 = .ok (.iconst 1, 1) := bdX12_costFrom_0.2.2.2.2.2.2.2.2.2.2.2.1
theorem dX12_costFrom_18 : decode cX12_costFrom 18 = .ok (.invokevirtual 103, 3) := bdX12_costFrom_0.2.2.2.2.2.2.2.2.2.2.2.2.1
theorem dX12_costFrom_21 : decode cX12_costFrom 21 = .ok (.iload_n 2, 1) := bdX12_costFrom_0.2.2.2.2.2.2.2.2.2.2.2.2.2.1
theorem dX12_costFrom_22 : decode cX12_costFrom 22 = .ok (.if_icmp .eq 13, 3) := bdX12_costFrom_0.2.2.2.2.2.2.2.2.2.2.2.2.2.2.1
theorem dX12_costFrom_25 : decode cX12_costFrom 25 = .ok (.aload_n 0, 1) := bdX12_costFrom_0.2.2.2.2.2.2.2.2.2.2.2.2.2.2.2
theorem bdX12_costFrom_26 : (decode cX12_costFrom 26 = .ok (.iload_n 1, 1)) ∧ (decode cX12_costFrom 27 = .ok (.iconst 2, 1)) ∧ (decode cX12_costFrom 28 = .ok (.invokevirtual 103, 3)) ∧ (decode cX12_costFrom 31 = .ok (.iload_n 2, 1)) ∧ (decode cX12_costFrom 32 = .ok (.if_icmp .ne 12, 3)) ∧ (decode cX12_costFrom 35 = .ok (.aload_n 0, 1)) ∧ (decode cX12_costFrom 36 = .ok (.iload_n 1, 1)) ∧ (decode cX12_costFrom 37 = .ok (.iconst 4, 1)) ∧ (decode cX12_costFrom 38 = .ok (.invokevirtual 103, 3)) ∧ (decode cX12_costFrom 41 = .ok (.goto 4, 3)) ∧ (decode cX12_costFrom 44 = .ok (.iconst (-1), 1)) ∧ (decode cX12_costFrom 45 = .ok (.ireturn, 1)) ∧ (decode cX12_costFrom 46 = .ok (.aload_n 0, 1)) ∧ (decode cX12_costFrom 47 = .ok (.iload_n 1, 1)) ∧ (decode cX12_costFrom 48 = .ok (.iconst 0, 1)) ∧ (decode cX12_costFrom 49 = .ok (.invokevirtual 103, 3)) := by decide +kernel
theorem dX12_costFrom_26 : decode cX12_costFrom 26 = .ok (.iload_n 1, 1) := bdX12_costFrom_26.1
theorem dX12_costFrom_27 : decode cX12_costFrom 27 = .ok (.iconst 2, 1) := bdX12_costFrom_26.2.1
theorem dX12_costFrom_28 : decode cX12_costFrom 28 = .ok (.invokevirtual 103, 3) := bdX12_costFrom_26.2.2.1
theorem dX12_costFrom_31 : decode cX12_costFrom 31 = .ok (.iload_n 2, 1) := bdX12_costFrom_26.2.2.2.1
theorem dX12_costFrom_32 : decode cX12_costFrom 32 = .ok (.if_icmp .ne 12, 3) := bdX12_costFrom_26.2.2.2.2.1
theorem dX12_costFrom_35 : decode cX12_costFrom 35 = .ok (.aload_n 0, 1) := bdX12_costFrom_26.2.2.2.2.2.1
theorem dX12_costFrom_36 : decode cX12_costFrom 36 = .ok (.iload_n 1, 1) := bdX12_costFrom_26.2.2.2.2.2.2.1
theorem dX12_costFrom_37 : decode cX12_costFrom 37 = .ok (.iconst 4, 1) := bdX12_costFrom_26.2.2.2.2.2.2.2.1
theorem dX12_costFrom_38 : decode cX12_costFrom 38 = .ok (.invokevirtual 103, 3) := bdX12_costFrom_26.2.2.2.2.2.2.2.2.1
theorem dX12_costFrom_41 : decode cX12_costFrom 41 = .ok (.goto 4, 3) := bdX12_costFrom_26.2.2.2.2.2.2.2.2.2.1
theorem dX12_costFrom_44 : decode cX12_costFrom 44 = .ok (.iconst (-1), 1) := bdX12_costFrom_26.2.2.2.2.2.2.2.2.2.2.1
theorem dX12_costFrom_45 : decode cX12_costFrom 45 = .ok (.ireturn, 1) := bdX12_costFrom_26.2.2.2.2.2.2.2.2.2.2.2.1
theorem dX12_costFrom_46 : decode cX12_costFrom 46 = .ok (.aload_n 0, 1) := bdX12_costFrom_26.2.2.2.2.2.2.2.2.2.2.2.2.1
theorem dX12_costFrom_47 : decode cX12_costFrom 47 = .ok (.iload_n 1, 1) := bdX12_costFrom_26.2.2.2.2.2.2.2.2.2.2.2.2.2.1
theorem dX12_costFrom_48 : decode cX12_costFrom 48 = .ok (.iconst 0, 1) := bdX12_costFrom_26.2.2.2.2.2.2.2.2.2.2.2.2.2.2.1
theorem dX12_costFrom_49 : decode cX12_costFrom 49 = .ok (.invokevirtual 103, 3) := bdX12_costFrom_26.2.2.2.2.2.2.2.2.2.2.2.2.2.2.2
theorem bdX12_costFrom_52 : (decode cX12_costFrom 52 = .ok (.iconst 2, 1)) ∧ (decode cX12_costFrom 53 = .ok (.if_icmp .ge 44, 3)) ∧ (decode cX12_costFrom 56 = .ok (.aload_n 0, 1)) ∧ (decode cX12_costFrom 57 = .ok (.iload_n 1, 1)) ∧ (decode cX12_costFrom 58 = .ok (.bipush 6, 2)) ∧ (decode cX12_costFrom 60 = .ok (.invokevirtual 103, 3)) ∧ (decode cX12_costFrom 63 = .ok (.iconst 1, 1)) ∧ (decode cX12_costFrom 64 = .ok (.if_icmp .ne 33, 3)) ∧ (decode cX12_costFrom 67 = .ok (.aload_n 0, 1)) ∧ (decode cX12_costFrom 68 = .ok (.iload_n 1, 1)) ∧ (decode cX12_costFrom 69 = .ok (.bipush 9, 2)) ∧ (decode cX12_costFrom 71 = .ok (.invokevirtual 103, 3)) ∧ (decode cX12_costFrom 74 = .ok (.ifCond .ne 23, 3)) ∧ (decode cX12_costFrom 77 = .ok (.aload_n 0, 1)) ∧ (decode cX12_costFrom 78 = .ok (.iload_n 1, 1)) ∧ (decode cX12_costFrom 79 = .ok (.bipush 7, 2)) := by decide +kernel
theorem dX12_costFrom_52 : decode cX12_costFrom 52 = .ok (.iconst 2, 1) := bdX12_costFrom_52.1
theorem dX12_costFrom_53 : decode cX12_costFrom 53 = .ok (.if_icmp .ge 44, 3) := bdX12_costFrom_52.2.1
theorem dX12_costFrom_56 : decode cX12_costFrom 56 = .ok (.aload_n 0, 1) := bdX12_costFrom_52.2.2.1
theorem dX12_costFrom_57 : decode cX12_costFrom 57 = .ok (.iload_n 1, 1) := bdX12_costFrom_52.2.2.2.1
theorem dX12_costFrom_58 : decode cX12_costFrom 58 = .ok (.bipush 6, 2) := bdX12_costFrom_52.2.2.2.2.1
theorem dX12_costFrom_60 : decode cX12_costFrom 60 = .ok (.invokevirtual 103, 3) := bdX12_costFrom_52.2.2.2.2.2.1
theorem dX12_costFrom_63 : decode cX12_costFrom 63 = .ok (.iconst 1, 1) := bdX12_costFrom_52.2.2.2.2.2.2.1
theorem dX12_costFrom_64 : decode cX12_costFrom 64 = .ok (.if_icmp .ne 33, 3) := bdX12_costFrom_52.2.2.2.2.2.2.2.1
theorem dX12_costFrom_67 : decode cX12_costFrom 67 = .ok (.aload_n 0, 1) := bdX12_costFrom_52.2.2.2.2.2.2.2.2.1
theorem dX12_costFrom_68 : decode cX12_costFrom 68 = .ok (.iload_n 1, 1) := bdX12_costFrom_52.2.2.2.2.2.2.2.2.2.1
theorem dX12_costFrom_69 : decode cX12_costFrom 69 = .ok (.bipush 9, 2) := bdX12_costFrom_52.2.2.2.2.2.2.2.2.2.2.1
theorem dX12_costFrom_71 : decode cX12_costFrom 71 = .ok (.invokevirtual 103, 3) := bdX12_costFrom_52.2.2.2.2.2.2.2.2.2.2.2.1
theorem dX12_costFrom_74 : decode cX12_costFrom 74 = .ok (.ifCond .ne 23, 3) := bdX12_costFrom_52.2.2.2.2.2.2.2.2.2.2.2.2.1
theorem dX12_costFrom_77 : decode cX12_costFrom 77 = .ok (.aload_n 0, 1) := bdX12_costFrom_52.2.2.2.2.2.2.2.2.2.2.2.2.2.1
theorem dX12_costFrom_78 : decode cX12_costFrom 78 = .ok (.iload_n 1, 1) := bdX12_costFrom_52.2.2.2.2.2.2.2.2.2.2.2.2.2.2.1
theorem dX12_costFrom_79 : decode cX12_costFrom 79 = .ok (.bipush 7, 2) := bdX12_costFrom_52.2.2.2.2.2.2.2.2.2.2.2.2.2.2.2
theorem bdX12_costFrom_81 : (decode cX12_costFrom 81 = .ok (.invokevirtual 103, 3)) ∧ (decode cX12_costFrom 84 = .ok (.aload_n 0, 1)) ∧ (decode cX12_costFrom 85 = .ok (.iload_n 1, 1)) ∧ (decode cX12_costFrom 86 = .ok (.iconst 5, 1)) ∧ (decode cX12_costFrom 87 = .ok (.invokevirtual 103, 3)) ∧ (decode cX12_costFrom 90 = .ok (.if_icmp .ne 7, 3)) ∧ (decode cX12_costFrom 93 = .ok (.iconst 1, 1)) ∧ (decode cX12_costFrom 94 = .ok (.goto 4, 3)) ∧ (decode cX12_costFrom 97 = .ok (.iconst 0, 1)) ∧ (decode cX12_costFrom 98 = .ok (.istore 4, 2)) ∧ (decode cX12_costFrom 100 = .ok (.iload 4, 2)) ∧ (decode cX12_costFrom 102 = .ok (.ifCond .eq 30, 3)) ∧ (decode cX12_costFrom 105 = .ok (.aload_n 0, 1)) ∧ (decode cX12_costFrom 106 = .ok (.iload_n 1, 1)) ∧ (decode cX12_costFrom 107 = .ok (.invokevirtual 304, 3)) ∧ (decode cX12_costFrom 110 = .ok (.iload_n 2, 1)) := by decide +kernel
theorem dX12_costFrom_81 : decode cX12_costFrom 81 = .ok (.invokevirtual 103, 3) := bdX12_costFrom_81.1
theorem dX12_costFrom_84 : decode cX12_costFrom 84 = .ok (.aload_n 0, 1) := bdX12_costFrom_81.2.1
theorem dX12_costFrom_85 : decode cX12_costFrom 85 = .ok (.iload_n 1, 1) := bdX12_costFrom_81.2.2.1
theorem dX12_costFrom_86 : decode cX12_costFrom 86 = .ok (.iconst 5, 1) := bdX12_costFrom_81.2.2.2.1
theorem dX12_costFrom_87 : decode cX12_costFrom 87 = .ok (.invokevirtual 103, 3) := bdX12_costFrom_81.2.2.2.2.1
theorem dX12_costFrom_90 : decode cX12_costFrom 90 = .ok (.if_icmp .ne 7, 3) := bdX12_costFrom_81.2.2.2.2.2.1
theorem dX12_costFrom_93 : decode cX12_costFrom 93 = .ok (.iconst 1, 1) := bdX12_costFrom_81.2.2.2.2.2.2.1
theorem dX12_costFrom_94 : decode cX12_costFrom 94 = .ok (.goto 4, 3) := bdX12_costFrom_81.2.2.2.2.2.2.2.1
theorem dX12_costFrom_97 : decode cX12_costFrom 97 = .ok (.iconst 0, 1) := bdX12_costFrom_81.2.2.2.2.2.2.2.2.1
theorem dX12_costFrom_98 : decode cX12_costFrom 98 = .ok (.istore 4, 2) := bdX12_costFrom_81.2.2.2.2.2.2.2.2.2.1
theorem dX12_costFrom_100 : decode cX12_costFrom 100 = .ok (.iload 4, 2) := bdX12_costFrom_81.2.2.2.2.2.2.2.2.2.2.1
theorem dX12_costFrom_102 : decode cX12_costFrom 102 = .ok (.ifCond .eq 30, 3) := bdX12_costFrom_81.2.2.2.2.2.2.2.2.2.2.2.1
theorem dX12_costFrom_105 : decode cX12_costFrom 105 = .ok (.aload_n 0, 1) := bdX12_costFrom_81.2.2.2.2.2.2.2.2.2.2.2.2.1
theorem dX12_costFrom_106 : decode cX12_costFrom 106 = .ok (.iload_n 1, 1) := bdX12_costFrom_81.2.2.2.2.2.2.2.2.2.2.2.2.2.1
theorem dX12_costFrom_107 : decode cX12_costFrom 107 = .ok (.invokevirtual 304, 3) := bdX12_costFrom_81.2.2.2.2.2.2.2.2.2.2.2.2.2.2.1
theorem dX12_costFrom_110 : decode cX12_costFrom 110 = .ok (.iload_n 2, 1) := bdX12_costFrom_81.2.2.2.2.2.2.2.2.2.2.2.2.2.2.2
theorem bdX12_costFrom_111 : (decode cX12_costFrom 111 = .ok (.if_icmp .ne 21, 3)) ∧ (decode cX12_costFrom 114 = .ok (.aload_n 0, 1)) ∧ (decode cX12_costFrom 115 = .ok (.iload_n 1, 1)) ∧ (decode cX12_costFrom 116 = .ok (.iconst 3, 1)) ∧ (decode cX12_costFrom 117 = .ok (.invokevirtual 103, 3)) ∧ (decode cX12_costFrom 120 = .ok (.iconst 1, 1)) ∧ (decode cX12_costFrom 121 = .ok (.aload_n 0, 1)) ∧ (decode cX12_costFrom 122 = .ok (.iload_n 1, 1)) ∧ (decode cX12_costFrom 123 = .ok (.iconst 0, 1)) ∧ (decode cX12_costFrom 124 = .ok (.invokevirtual 103, 3)) ∧ (decode cX12_costFrom 127 = .ok (.iadd, 1)) ∧ (decode cX12_costFrom 128 = .ok (.imul, 1)) ∧ (decode cX12_costFrom 129 = .ok (.goto 4, 3)) ∧ (decode cX12_costFrom 132 = .ok (.iconst (-1), 1)) ∧ (decode cX12_costFrom 133 = .ok (.ireturn, 1)) := by decide +kernel
theorem dX12_costFrom_111 : decode cX12_costFrom 111 = .ok (.if_icmp .ne 21, 3) := bdX12_costFrom_111.1
theorem dX12_costFrom_114 : decode cX12_costFrom 114 = .ok (.aload_n 0, 1) := bdX12_costFrom_111.2.1
theorem dX12_costFrom_115 : decode cX12_costFrom 115 = .ok (.iload_n 1, 1) := bdX12_costFrom_111.2.2.1
theorem dX12_costFrom_116 : decode cX12_costFrom 116 = .ok (.iconst 3, 1) := bdX12_costFrom_111.2.2.2.1
theorem dX12_costFrom_117 : decode cX12_costFrom 117 = .ok (.invokevirtual 103, 3) := bdX12_costFrom_111.2.2.2.2.1
theorem dX12_costFrom_120 : decode cX12_costFrom 120 = .ok (.iconst 1, 1) := bdX12_costFrom_111.2.2.2.2.2.1
theorem dX12_costFrom_121 : decode cX12_costFrom 121 = .ok (.aload_n 0, 1) := bdX12_costFrom_111.2.2.2.2.2.2.1
theorem dX12_costFrom_122 : decode cX12_costFrom 122 = .ok (.iload_n 1, 1) := bdX12_costFrom_111.2.2.2.2.2.2.2.1
theorem dX12_costFrom_123 : decode cX12_costFrom 123 = .ok (.iconst 0, 1) := bdX12_costFrom_111.2.2.2.2.2.2.2.2.1
theorem dX12_costFrom_124 : decode cX12_costFrom 124 = .ok (.invokevirtual 103, 3) := bdX12_costFrom_111.2.2.2.2.2.2.2.2.2.1
theorem dX12_costFrom_127 : decode cX12_costFrom 127 = .ok (.iadd, 1) := bdX12_costFrom_111.2.2.2.2.2.2.2.2.2.2.1
theorem dX12_costFrom_128 : decode cX12_costFrom 128 = .ok (.imul, 1) := bdX12_costFrom_111.2.2.2.2.2.2.2.2.2.2.2.1
theorem dX12_costFrom_129 : decode cX12_costFrom 129 = .ok (.goto 4, 3) := bdX12_costFrom_111.2.2.2.2.2.2.2.2.2.2.2.2.1
theorem dX12_costFrom_132 : decode cX12_costFrom 132 = .ok (.iconst (-1), 1) := bdX12_costFrom_111.2.2.2.2.2.2.2.2.2.2.2.2.2.1
theorem dX12_costFrom_133 : decode cX12_costFrom 133 = .ok (.ireturn, 1) := bdX12_costFrom_111.2.2.2.2.2.2.2.2.2.2.2.2.2.2
theorem bdX12_otherEnd_0 : (decode cX12_otherEnd 0 = .ok (.aload_n 0, 1)) ∧ (decode cX12_otherEnd 1 = .ok (.iload_n 1, 1)) ∧ (decode cX12_otherEnd 2 = .ok (.iconst 1, 1)) ∧ (decode cX12_otherEnd 3 = .ok (.invokevirtual 103, 3)) ∧ (decode cX12_otherEnd 6 = .ok (.iload_n 2, 1)) ∧ (decode cX12_otherEnd 7 = .ok (.if_icmp .ne 12, 3)) ∧ (decode cX12_otherEnd 10 = .ok (.aload_n 0, 1)) ∧ (decode cX12_otherEnd 11 = .ok (.iload_n 1, 1)) ∧ (decode cX12_otherEnd 12 = .ok (.iconst 2, 1)) ∧ (decode cX12_otherEnd 13 = .ok (.invokevirtual 103, 3)) ∧ (decode cX12_otherEnd 16 = .ok (.goto 9, 3)) ∧ (decode cX12_otherEnd 19 = .ok (.aload_n 0, 1)) ∧ (decode cX12_otherEnd 20 = .ok (.iload_n 1, 1)) ∧ (decode cX12_otherEnd 21 = .ok (.iconst 1, 1)) ∧ (decode cX12_otherEnd 22 = .ok (.invokevirtual 103, 3)) ∧ (decode cX12_otherEnd 25 = .ok (.ireturn, 1)) := by decide +kernel
theorem dX12_otherEnd_0 : decode cX12_otherEnd 0 = .ok (.aload_n 0, 1) := bdX12_otherEnd_0.1
theorem dX12_otherEnd_1 : decode cX12_otherEnd 1 = .ok (.iload_n 1, 1) := bdX12_otherEnd_0.2.1
theorem dX12_otherEnd_2 : decode cX12_otherEnd 2 = .ok (.iconst 1, 1) := bdX12_otherEnd_0.2.2.1
theorem dX12_otherEnd_3 : decode cX12_otherEnd 3 = .ok (.invokevirtual 103, 3) := bdX12_otherEnd_0.2.2.2.1
theorem dX12_otherEnd_6 : decode cX12_otherEnd 6 = .ok (.iload_n 2, 1) := bdX12_otherEnd_0.2.2.2.2.1
theorem dX12_otherEnd_7 : decode cX12_otherEnd 7 = .ok (.if_icmp .ne 12, 3) := bdX12_otherEnd_0.2.2.2.2.2.1
theorem dX12_otherEnd_10 : decode cX12_otherEnd 10 = .ok (.aload_n 0, 1) := bdX12_otherEnd_0.2.2.2.2.2.2.1
theorem dX12_otherEnd_11 : decode cX12_otherEnd 11 = .ok (.iload_n 1, 1) := bdX12_otherEnd_0.2.2.2.2.2.2.2.1
theorem dX12_otherEnd_12 : decode cX12_otherEnd 12 = .ok (.iconst 2, 1) := bdX12_otherEnd_0.2.2.2.2.2.2.2.2.1
theorem dX12_otherEnd_13 : decode cX12_otherEnd 13 = .ok (.invokevirtual 103, 3) := bdX12_otherEnd_0.2.2.2.2.2.2.2.2.2.1
theorem dX12_otherEnd_16 : decode cX12_otherEnd 16 = .ok (.goto 9, 3) := bdX12_otherEnd_0.2.2.2.2.2.2.2.2.2.2.1
theorem dX12_otherEnd_19 : decode cX12_otherEnd 19 = .ok (.aload_n 0, 1) := bdX12_otherEnd_0.2.2.2.2.2.2.2.2.2.2.2.1
theorem dX12_otherEnd_20 : decode cX12_otherEnd 20 = .ok (.iload_n 1, 1) := bdX12_otherEnd_0.2.2.2.2.2.2.2.2.2.2.2.2.1
theorem dX12_otherEnd_21 : decode cX12_otherEnd 21 = .ok (.iconst 1, 1) := bdX12_otherEnd_0.2.2.2.2.2.2.2.2.2.2.2.2.2.1
theorem dX12_otherEnd_22 : decode cX12_otherEnd 22 = .ok (.invokevirtual 103, 3) := bdX12_otherEnd_0.2.2.2.2.2.2.2.2.2.2.2.2.2.2.1
theorem dX12_otherEnd_25 : decode cX12_otherEnd 25 = .ok (.ireturn, 1) := bdX12_otherEnd_0.2.2.2.2.2.2.2.2.2.2.2.2.2.2.2
theorem gx_lastoreA {h : xH} {cc : ByteArray} {d q pc a n : Nat} {sl : List (Option Nat)} {ls : xL} {st : List Value} {m m2 : xMem} {c s : Nat} {v : Option Value} {M9 : xM} {j : Int32} {x : Int64} (hd : decode cc q = .ok (.lastore, 1)) (hp : pc = q) (hT : xTmL[a]? = some (102, n, sl)) (hj : xIn j n = true) (hv : xPutL m j.toNatClampNeg x = m2) (k : xFx h cc d (q + 1) ls st (xLay m2) c s v M9) : xFx h cc d pc ls (.long x :: .int j :: .ref a :: st) (xLay m) c s v M9 := by
  have ha : a = 310 := xLongOne a (by rw [← xTmL_len]; exact (List.getElem?_eq_some_iff.mp hT).1) _ hT rfl
  subst ha
  have e : xTmL[310]? = some (102, 200, []) := by decide +kernel
  have hn : n = 200 := congrArg (fun t => t.2.1) (Option.some.inj (hT.symm.trans e))
  subst hn
  exact gx_lastore hd hp hj hv k
def fX12_saysOf_169 (a0 : Nat) (a1 : Int32) (rec4 : Int32 → Int32 → xMem → Option (Int64 × xMem)) (l2 : Int32) (l3 : Int32) (m : xMem) : Option (Int64 × xMem) := xLet (l3 + (1 : Int32)) fun x1 => rec4 l2 x1 m
set_option maxRecDepth 4000 in
theorem fX12_saysOf_169_ok {a0 : Nat} {a1 : Int32} {rec4 : Int32 → Int32 → xMem → Option (Int64 × xMem)} {d : Nat} (hd : 2 ≤ d) (ha0 : isModel a0) (hrec4 : ∀ (l2 : Int32) (l3 : Int32) (o4 : Option Value) (q4 : xNoD o4 = true) (m : xMem) (r : (Int64 × xMem)), rec4 l2 l3 m = some r → xFx hh_171 cX12_saysOf d 4 [some (.ref a0), some (.int a1), some (.int l2), some (.int l3), o4] [] (xLay m) 0 0 (some (.long r.1)) (xLay r.2)) {l2 : Int32} {l3 : Int32} {o4 : Option Value} {m : xMem} {r : (Int64 × xMem)} (q4 : xNoD o4 = true) (h : fX12_saysOf_169 a0 a1 rec4 l2 l3 m = some r) : xFx hh_171 cX12_saysOf d 169 [some (.ref a0), some (.int a1), some (.int l2), some (.int l3), o4] [] (xLay m) 0 0 (some (.long r.1)) (xLay r.2) := by
  unfold fX12_saysOf_169 at h
  obtain ⟨x1, hx1, h⟩ := xLet_el h
  refine fx_iinc (ls2 := [some (.ref a0), some (.int a1), some (.int l2), some (.int x1), o4]) dX12_saysOf_169 rfl rfl rfl hx1 rfl ?_
  refine fx_goto (t := 4) dX12_saysOf_172 rfl rfl ?_
  exact hrec4 l2 x1 (o4) q4 m r h
def fX12_saysOf_75 (a0 : Nat) (a1 : Int32) (rec4 : Int32 → Int32 → xMem → Option (Int64 × xMem)) (l2 : Int32) (l3 : Int32) (s0 : Nat) (s1 : Int32) (s2 : Int64) (m : xMem) : Option (Int64 × xMem) := bif xIn s1 200 then xLet (xPutL m s1.toNatClampNeg s2) fun m1 => xLet (l2 + (1 : Int32)) fun x3 => fX12_saysOf_169 a0 a1 rec4 x3 l3 m1 else none
set_option maxRecDepth 4000 in
theorem fX12_saysOf_75_ok {a0 : Nat} {a1 : Int32} {rec4 : Int32 → Int32 → xMem → Option (Int64 × xMem)} {d : Nat} (hd : 2 ≤ d) (ha0 : isModel a0) (hrec4 : ∀ (l2 : Int32) (l3 : Int32) (o4 : Option Value) (q4 : xNoD o4 = true) (m : xMem) (r : (Int64 × xMem)), rec4 l2 l3 m = some r → xFx hh_171 cX12_saysOf d 4 [some (.ref a0), some (.int a1), some (.int l2), some (.int l3), o4] [] (xLay m) 0 0 (some (.long r.1)) (xLay r.2)) {l2 : Int32} {l3 : Int32} {s0 : Nat} {s1 : Int32} {s2 : Int64} {o4 : Option Value} {m : xMem} {r : (Int64 × xMem)} (hs0 : xTmL[s0]? = some (102, 200, [])) (q4 : xNoD o4 = true) (h : fX12_saysOf_75 a0 a1 rec4 l2 l3 s0 s1 s2 m = some r) : xFx hh_171 cX12_saysOf d 75 [some (.ref a0), some (.int a1), some (.int l2), some (.int l3), o4] [.long s2, .int s1, .ref s0] (xLay m) 0 0 (some (.long r.1)) (xLay r.2) := by
  unfold fX12_saysOf_75 at h
  obtain ⟨hj2, h⟩ := xChk_el h
  obtain ⟨m1, hm1, h⟩ := xLet_el h
  refine gx_lastoreA dX12_saysOf_75 rfl hs0 hj2 hm1 ?_
  obtain ⟨x3, hx3, h⟩ := xLet_el h
  refine fx_iinc (ls2 := [some (.ref a0), some (.int a1), some (.int x3), some (.int l3), o4]) dX12_saysOf_76 rfl rfl rfl hx3 rfl ?_
  refine fx_goto (t := 169) dX12_saysOf_79 rfl rfl ?_
  exact fX12_saysOf_169_ok (o4 := o4) hd ha0 hrec4 q4 h
def fX12_saysOf_40 (a0 : Nat) (a1 : Int32) (rec4 : Int32 → Int32 → xMem → Option (Int64 × xMem)) (l2 : Int32) (l3 : Int32) (l4 : Int32) (m : xMem) : Option (Int64 × xMem) := if ¬ l4 = (400 : Int32) then bif xIn l3 1600 then xLet (m.1 (a0 + 9) l3.toNatClampNeg) fun x2 => bif xIn x2 8 then xLet (m.1 (a0 + 18) x2.toNatClampNeg) fun x4 => xLet (x4.toInt64) fun x6 => fX12_saysOf_75 a0 a1 rec4 l2 l3 (a0 + 19) l2 x6 m else none else none else bif xIn l3 1600 then xLet (m.1 (a0 + 9) l3.toNatClampNeg) fun x7 => xLet (x7.toInt64) fun x9 => fX12_saysOf_75 a0 a1 rec4 l2 l3 (a0 + 19) l2 x9 m else none
set_option maxRecDepth 4000 in
theorem fX12_saysOf_40_ok {a0 : Nat} {a1 : Int32} {rec4 : Int32 → Int32 → xMem → Option (Int64 × xMem)} {d : Nat} (hd : 2 ≤ d) (ha0 : isModel a0) (hrec4 : ∀ (l2 : Int32) (l3 : Int32) (o4 : Option Value) (q4 : xNoD o4 = true) (m : xMem) (r : (Int64 × xMem)), rec4 l2 l3 m = some r → xFx hh_171 cX12_saysOf d 4 [some (.ref a0), some (.int a1), some (.int l2), some (.int l3), o4] [] (xLay m) 0 0 (some (.long r.1)) (xLay r.2)) {l2 : Int32} {l3 : Int32} {l4 : Int32} {m : xMem} {r : (Int64 × xMem)} (h : fX12_saysOf_40 a0 a1 rec4 l2 l3 l4 m = some r) : xFx hh_171 cX12_saysOf d 40 [some (.ref a0), some (.int a1), some (.int l2), some (.int l3), some (.int l4)] [] (xLay m) 0 0 (some (.long r.1)) (xLay r.2) := by
  unfold fX12_saysOf_40 at h
  refine fx_aload_n dX12_saysOf_40 rfl rfl ?_
  refine gx_getr dX12_saysOf_41 rfl fd_12_72 ha0.1 rfl rfl ?_
  refine fx_iload_n dX12_saysOf_44 rfl rfl ?_
  refine fx_iload dX12_saysOf_45 rfl rfl ?_
  refine fx_sipush (x := 400) dX12_saysOf_47 rfl (by decide) ?_
  refine fx_icmp_ne (t := 63) dX12_saysOf_50 rfl rfl (fun hc1 => ?_) (fun hc1 => ?_)
  · rw [if_pos hc1] at h
    refine fx_aload_n dX12_saysOf_63 rfl rfl ?_
    refine gx_getr dX12_saysOf_64 rfl fd_12_69 ha0.1 rfl rfl ?_
    refine fx_aload_n dX12_saysOf_67 rfl rfl ?_
    refine gx_getr dX12_saysOf_68 rfl fd_12_42 ha0.1 rfl rfl ?_
    refine fx_iload_n dX12_saysOf_71 rfl rfl ?_
    obtain ⟨hj3, h⟩ := xChk_el h
    obtain ⟨x2, hx2, h⟩ := xLet_el h
    refine gx_iaload dX12_saysOf_72 rfl ha0.2.2.2.2.2.2.2.2.2.1 hj3 hx2 ?_
    obtain ⟨hj5, h⟩ := xChk_el h
    obtain ⟨x4, hx4, h⟩ := xLet_el h
    refine gx_iaload dX12_saysOf_73 rfl ha0.2.2.2.2.2.2.2.2.2.2.2.2.2.2.2.2.2.2.1 hj5 hx4 ?_
    obtain ⟨x6, hx6, h⟩ := xLet_el h
    refine fx_i2l dX12_saysOf_74 rfl hx6 ?_
    exact fX12_saysOf_75_ok (o4 := some (.int l4)) hd ha0 hrec4 ha0.2.2.2.2.2.2.2.2.2.2.2.2.2.2.2.2.2.2.2.1 rfl h
  · rw [if_neg hc1] at h
    refine fx_aload_n dX12_saysOf_53 rfl rfl ?_
    refine gx_getr dX12_saysOf_54 rfl fd_12_42 ha0.1 rfl rfl ?_
    refine fx_iload_n dX12_saysOf_57 rfl rfl ?_
    obtain ⟨hj8, h⟩ := xChk_el h
    obtain ⟨x7, hx7, h⟩ := xLet_el h
    refine gx_iaload dX12_saysOf_58 rfl ha0.2.2.2.2.2.2.2.2.2.1 hj8 hx7 ?_
    obtain ⟨x9, hx9, h⟩ := xLet_el h
    refine fx_i2l dX12_saysOf_59 rfl hx9 ?_
    refine fx_goto (t := 75) dX12_saysOf_60 rfl rfl ?_
    exact fX12_saysOf_75_ok (o4 := some (.int l4)) hd ha0 hrec4 ha0.2.2.2.2.2.2.2.2.2.2.2.2.2.2.2.2.2.2.2.1 rfl h
def fX12_saysOf_4 (a0 : Nat) (a1 : Int32) : Nat → Int32 → Int32 → xMem → Option (Int64 × xMem)
  | 0, _, _, _ => none
  | fuel + 1, l2, l3, m => bif xIn l3 1600 then xLet (m.1 (a0 + 8) l3.toNatClampNeg) fun x1 => if x1 = (408 : Int32) then bif xIn (0 : Int32) 200 then xLet (m.2 (0 : Int32).toNatClampNeg) fun x4 => some (x4, m) else none else bif xIn l3 1600 then xLet (m.1 (a0 + 8) l3.toNatClampNeg) fun x6 => if x6 = (400 : Int32) then fX12_saysOf_40 a0 a1 (fX12_saysOf_4 a0 a1 fuel) l2 l3 x6 m else if ¬ x6 = (401 : Int32) then if ¬ x6 = (402 : Int32) then if ¬ x6 = (405 : Int32) then xLet (l2 + (-1 : Int32)) fun x12 => xLet (x12 - (1 : Int32)) fun x13 => xLet (x12 - (1 : Int32)) fun x14 => bif xIn x14 200 then xLet (m.2 x14.toNatClampNeg) fun x15 => bif xIn x12 200 then xLet (m.2 x12.toNatClampNeg) fun x17 => (fX12_worked x6 x15 x17 m).bind fun p19 => bif xIn x13 200 then xLet (xPutL p19.2 x13.toNatClampNeg p19.1) fun m20 => fX12_saysOf_169 a0 a1 (fX12_saysOf_4 a0 a1 fuel) x12 l3 m20 else none else none else none else xLet (l2 - (1 : Int32)) fun x22 => xLet (l2 - (1 : Int32)) fun x23 => bif xIn x23 200 then xLet (m.2 x23.toNatClampNeg) fun x24 => xLet ((1 : Int64) - x24) fun x26 => bif xIn x22 200 then xLet (xPutL m x22.toNatClampNeg x26) fun m27 => fX12_saysOf_169 a0 a1 (fX12_saysOf_4 a0 a1 fuel) l2 l3 m27 else none else none else xLet (l2 - (1 : Int32)) fun x29 => xLet (l2 - (1 : Int32)) fun x30 => bif xIn x30 200 then xLet (m.2 x30.toNatClampNeg) fun x31 => xLet (-x31) fun x33 => bif xIn x29 200 then xLet (xPutL m x29.toNatClampNeg x33) fun m34 => fX12_saysOf_169 a0 a1 (fX12_saysOf_4 a0 a1 fuel) l2 l3 m34 else none else none else fX12_saysOf_40 a0 a1 (fX12_saysOf_4 a0 a1 fuel) l2 l3 x6 m else none else none
set_option maxRecDepth 4000 in
theorem fX12_saysOf_4_ok {a0 : Nat} {a1 : Int32} {d : Nat} (hd : 2 ≤ d) (ha0 : isModel a0) : ∀ (fuel : Nat) (l2 : Int32) (l3 : Int32) (o4 : Option Value) (q4 : xNoD o4 = true) (m : xMem) (r : (Int64 × xMem)), fX12_saysOf_4 a0 a1 fuel l2 l3 m = some r → xFx hh_171 cX12_saysOf d 4 [some (.ref a0), some (.int a1), some (.int l2), some (.int l3), o4] [] (xLay m) 0 0 (some (.long r.1)) (xLay r.2) := by
  intro fuel
  induction fuel with
  | zero => intro l2 l3 o4 q4 m r  h; cases h
  | succ fuel ih =>
    intro l2 l3 o4 q4 m r  h
    unfold fX12_saysOf_4 at h
    refine fx_aload_n dX12_saysOf_4 rfl rfl ?_
    refine gx_getr dX12_saysOf_5 rfl fd_12_39 ha0.1 rfl rfl ?_
    refine fx_iload_n dX12_saysOf_8 rfl rfl ?_
    obtain ⟨hj2, h⟩ := xChk_el h
    obtain ⟨x1, hx1, h⟩ := xLet_el h
    refine gx_iaload dX12_saysOf_9 rfl ha0.2.2.2.2.2.2.2.2.1 hj2 hx1 ?_
    refine fx_sipush (x := 408) dX12_saysOf_10 rfl (by decide) ?_
    refine fx_icmp_eq (t := 175) dX12_saysOf_13 rfl rfl (fun hc3 => ?_) (fun hc3 => ?_)
    · rw [if_pos hc3] at h
      refine fx_aload_n dX12_saysOf_175 rfl rfl ?_
      refine gx_getr dX12_saysOf_176 rfl fd_12_72 ha0.1 rfl rfl ?_
      refine fx_iconst (x := 0) dX12_saysOf_179 rfl (by decide) ?_
      obtain ⟨hj5, h⟩ := xChk_el h
      obtain ⟨x4, hx4, h⟩ := xLet_el h
      refine gx_laload dX12_saysOf_180 rfl ha0.2.2.2.2.2.2.2.2.2.2.2.2.2.2.2.2.2.2.2.1 hj5 hx4 ?_
      cases h
      exact fx_lreturn dX12_saysOf_181 rfl rfl
    · rw [if_neg hc3] at h
      refine fx_aload_n dX12_saysOf_16 rfl rfl ?_
      refine gx_getr dX12_saysOf_17 rfl fd_12_39 ha0.1 rfl rfl ?_
      refine fx_iload_n dX12_saysOf_20 rfl rfl ?_
      obtain ⟨hj7, h⟩ := xChk_el h
      obtain ⟨x6, hx6, h⟩ := xLet_el h
      refine gx_iaload dX12_saysOf_21 rfl ha0.2.2.2.2.2.2.2.2.1 hj7 hx6 ?_
      refine fx_istore (ls2 := [some (.ref a0), some (.int a1), some (.int l2), some (.int l3), some (.int x6)]) dX12_saysOf_22 rfl rfl rfl ?_
      refine fx_iload dX12_saysOf_24 rfl rfl ?_
      refine fx_sipush (x := 400) dX12_saysOf_26 rfl (by decide) ?_
      refine fx_icmp_eq (t := 40) dX12_saysOf_29 rfl rfl (fun hc8 => ?_) (fun hc8 => ?_)
      · rw [if_pos hc8] at h
        exact fX12_saysOf_40_ok hd ha0 ih h
      · rw [if_neg hc8] at h
        refine fx_iload dX12_saysOf_32 rfl rfl ?_
        refine fx_sipush (x := 401) dX12_saysOf_34 rfl (by decide) ?_
        refine fx_icmp_ne (t := 82) dX12_saysOf_37 rfl rfl (fun hc9 => ?_) (fun hc9 => ?_)
        · rw [if_pos hc9] at h
          refine fx_iload dX12_saysOf_82 rfl rfl ?_
          refine fx_sipush (x := 402) dX12_saysOf_84 rfl (by decide) ?_
          refine fx_icmp_ne (t := 110) dX12_saysOf_87 rfl rfl (fun hc10 => ?_) (fun hc10 => ?_)
          · rw [if_pos hc10] at h
            refine fx_iload dX12_saysOf_110 rfl rfl ?_
            refine fx_sipush (x := 405) dX12_saysOf_112 rfl (by decide) ?_
            refine fx_icmp_ne (t := 139) dX12_saysOf_115 rfl rfl (fun hc11 => ?_) (fun hc11 => ?_)
            · rw [if_pos hc11] at h
              obtain ⟨x12, hx12, h⟩ := xLet_el h
              refine fx_iinc (ls2 := [some (.ref a0), some (.int a1), some (.int x12), some (.int l3), some (.int x6)]) dX12_saysOf_139 rfl rfl rfl hx12 rfl ?_
              refine fx_aload_n dX12_saysOf_142 rfl rfl ?_
              refine gx_getr dX12_saysOf_143 rfl fd_12_72 ha0.1 rfl rfl ?_
              refine fx_iload_n dX12_saysOf_146 rfl rfl ?_
              refine fx_iconst (x := 1) dX12_saysOf_147 rfl (by decide) ?_
              obtain ⟨x13, hx13, h⟩ := xLet_el h
              refine fx_isub dX12_saysOf_148 rfl hx13 ?_
              refine fx_iload dX12_saysOf_149 rfl rfl ?_
              refine fx_aload_n dX12_saysOf_151 rfl rfl ?_
              refine gx_getr dX12_saysOf_152 rfl fd_12_72 ha0.1 rfl rfl ?_
              refine fx_iload_n dX12_saysOf_155 rfl rfl ?_
              refine fx_iconst (x := 1) dX12_saysOf_156 rfl (by decide) ?_
              obtain ⟨x14, hx14, h⟩ := xLet_el h
              refine fx_isub dX12_saysOf_157 rfl hx14 ?_
              obtain ⟨hj16, h⟩ := xChk_el h
              obtain ⟨x15, hx15, h⟩ := xLet_el h
              refine gx_laload dX12_saysOf_158 rfl ha0.2.2.2.2.2.2.2.2.2.2.2.2.2.2.2.2.2.2.2.1 hj16 hx15 ?_
              refine fx_aload_n dX12_saysOf_159 rfl rfl ?_
              refine gx_getr dX12_saysOf_160 rfl fd_12_72 ha0.1 rfl rfl ?_
              refine fx_iload_n dX12_saysOf_163 rfl rfl ?_
              obtain ⟨hj18, h⟩ := xChk_el h
              obtain ⟨x17, hx17, h⟩ := xLet_el h
              refine gx_laload dX12_saysOf_164 rfl ha0.2.2.2.2.2.2.2.2.2.2.2.2.2.2.2.2.2.2.2.1 hj18 hx17 ?_
              obtain ⟨p19, ep19, h⟩ := xBind_el h
              refine gx_calls (as := [.int x6, .long x15, .long x17]) (r := [.int x13, .ref (a0 + 19)]) rfl dX12_saysOf_165 ca_12_285 rfl me_172 rfl rfl rfl rfl (fX12_worked_ok (d := d) (by omega) ep19) rfl rfl ?_
              obtain ⟨hj21, h⟩ := xChk_el h
              obtain ⟨m20, hm20, h⟩ := xLet_el h
              refine gx_lastoreA dX12_saysOf_168 rfl ha0.2.2.2.2.2.2.2.2.2.2.2.2.2.2.2.2.2.2.2.1 hj21 hm20 ?_
              exact fX12_saysOf_169_ok (o4 := some (.int x6)) hd ha0 ih rfl h
            · rw [if_neg hc11] at h
              refine fx_aload_n dX12_saysOf_118 rfl rfl ?_
              refine gx_getr dX12_saysOf_119 rfl fd_12_72 ha0.1 rfl rfl ?_
              refine fx_iload_n dX12_saysOf_122 rfl rfl ?_
              refine fx_iconst (x := 1) dX12_saysOf_123 rfl (by decide) ?_
              obtain ⟨x22, hx22, h⟩ := xLet_el h
              refine fx_isub dX12_saysOf_124 rfl hx22 ?_
              refine fx_lconst (x := 1) dX12_saysOf_125 rfl (by decide) ?_
              refine fx_aload_n dX12_saysOf_126 rfl rfl ?_
              refine gx_getr dX12_saysOf_127 rfl fd_12_72 ha0.1 rfl rfl ?_
              refine fx_iload_n dX12_saysOf_130 rfl rfl ?_
              refine fx_iconst (x := 1) dX12_saysOf_131 rfl (by decide) ?_
              obtain ⟨x23, hx23, h⟩ := xLet_el h
              refine fx_isub dX12_saysOf_132 rfl hx23 ?_
              obtain ⟨hj25, h⟩ := xChk_el h
              obtain ⟨x24, hx24, h⟩ := xLet_el h
              refine gx_laload dX12_saysOf_133 rfl ha0.2.2.2.2.2.2.2.2.2.2.2.2.2.2.2.2.2.2.2.1 hj25 hx24 ?_
              obtain ⟨x26, hx26, h⟩ := xLet_el h
              refine fx_lsub dX12_saysOf_134 rfl hx26 ?_
              obtain ⟨hj28, h⟩ := xChk_el h
              obtain ⟨m27, hm27, h⟩ := xLet_el h
              refine gx_lastoreA dX12_saysOf_135 rfl ha0.2.2.2.2.2.2.2.2.2.2.2.2.2.2.2.2.2.2.2.1 hj28 hm27 ?_
              refine fx_goto (t := 169) dX12_saysOf_136 rfl rfl ?_
              exact fX12_saysOf_169_ok (o4 := some (.int x6)) hd ha0 ih rfl h
          · rw [if_neg hc10] at h
            refine fx_aload_n dX12_saysOf_90 rfl rfl ?_
            refine gx_getr dX12_saysOf_91 rfl fd_12_72 ha0.1 rfl rfl ?_
            refine fx_iload_n dX12_saysOf_94 rfl rfl ?_
            refine fx_iconst (x := 1) dX12_saysOf_95 rfl (by decide) ?_
            obtain ⟨x29, hx29, h⟩ := xLet_el h
            refine fx_isub dX12_saysOf_96 rfl hx29 ?_
            refine fx_aload_n dX12_saysOf_97 rfl rfl ?_
            refine gx_getr dX12_saysOf_98 rfl fd_12_72 ha0.1 rfl rfl ?_
            refine fx_iload_n dX12_saysOf_101 rfl rfl ?_
            refine fx_iconst (x := 1) dX12_saysOf_102 rfl (by decide) ?_
            obtain ⟨x30, hx30, h⟩ := xLet_el h
            refine fx_isub dX12_saysOf_103 rfl hx30 ?_
            obtain ⟨hj32, h⟩ := xChk_el h
            obtain ⟨x31, hx31, h⟩ := xLet_el h
            refine gx_laload dX12_saysOf_104 rfl ha0.2.2.2.2.2.2.2.2.2.2.2.2.2.2.2.2.2.2.2.1 hj32 hx31 ?_
            obtain ⟨x33, hx33, h⟩ := xLet_el h
            refine fx_lneg dX12_saysOf_105 rfl hx33 ?_
            obtain ⟨hj35, h⟩ := xChk_el h
            obtain ⟨m34, hm34, h⟩ := xLet_el h
            refine gx_lastoreA dX12_saysOf_106 rfl ha0.2.2.2.2.2.2.2.2.2.2.2.2.2.2.2.2.2.2.2.1 hj35 hm34 ?_
            refine fx_goto (t := 169) dX12_saysOf_107 rfl rfl ?_
            exact fX12_saysOf_169_ok (o4 := some (.int x6)) hd ha0 ih rfl h
        · rw [if_neg hc9] at h
          exact fX12_saysOf_40_ok hd ha0 ih h
def fX12_saysOf_0 (a0 : Nat) (a1 : Int32) (m : xMem) : Option (Int64 × xMem) := fX12_saysOf_4 a0 a1 xFuel (0 : Int32) a1 m
set_option maxRecDepth 4000 in
theorem fX12_saysOf_0_ok {a0 : Nat} {a1 : Int32} {d : Nat} (hd : 2 ≤ d) (ha0 : isModel a0) {o2 : Option Value} {o3 : Option Value} {o4 : Option Value} {m : xMem} {r : (Int64 × xMem)} (q2 : xNoD o2 = true) (q3 : xNoD o3 = true) (q4 : xNoD o4 = true) (h : fX12_saysOf_0 a0 a1 m = some r) : xFx hh_171 cX12_saysOf d 0 [some (.ref a0), some (.int a1), o2, o3, o4] [] (xLay m) 0 0 (some (.long r.1)) (xLay r.2) := by
  unfold fX12_saysOf_0 at h
  refine fx_iconst (x := 0) dX12_saysOf_0 rfl (by decide) ?_
  refine fx_istore_n (ls2 := [some (.ref a0), some (.int a1), some (.int (0 : Int32)), o3, o4]) dX12_saysOf_1 rfl rfl rfl ?_
  refine fx_iload_n dX12_saysOf_2 rfl rfl ?_
  refine fx_istore_n (ls2 := [some (.ref a0), some (.int a1), some (.int (0 : Int32)), some (.int a1), o4]) dX12_saysOf_3 rfl rfl rfl ?_
  exact fX12_saysOf_4_ok hd ha0 xFuel (0 : Int32) a1 (o4) q4 m r h
def fX12_saysOf (a0 : Nat) (a1 : Int32) (m : xMem) : Option (Int64 × xMem) := fX12_saysOf_0 a0 a1  m
theorem fX12_saysOf_ok {a0 : Nat} {a1 : Int32} {m : xMem} {r : (Int64 × xMem)} {d : Nat} (hd : 3 ≤ d) (ha0 : isModel a0) (h : fX12_saysOf a0 a1 m = some r) : xEx d 171 [.ref a0, .int a1] (xLay m) (some (.long r.1)) (xLay r.2) := by
  obtain ⟨d, rfl⟩ : ∃ q, d = q + 1 := ⟨d - 1, by omega⟩
  exact xEx_of me_171 rfl (fX12_saysOf_0_ok (d := d) (o2 := none) (o3 := none) (o4 := none) (by omega) ha0 rfl rfl rfl h)
def fX12_isSome_134 (a0 : Nat) (a1 : Int32) (a2 : Int32) (rec76 : Int32 → Int32 → Int32 → xMem → Option (Int32 × xMem)) (l3 : Int32) (l5 : Int32) (s0 : Int32) (m : xMem) : Option (Int32 × xMem) := xLet (l5 + (1 : Int32)) fun x1 => rec76 l3 s0 x1 m
set_option maxRecDepth 4000 in
theorem fX12_isSome_134_ok {a0 : Nat} {a1 : Int32} {a2 : Int32} {rec76 : Int32 → Int32 → Int32 → xMem → Option (Int32 × xMem)} {d : Nat} (hd : 3 ≤ d) (ha0 : isModel a0) (hrec76 : ∀ (l3 : Int32) (l4 : Int32) (l5 : Int32) (m : xMem) (r : (Int32 × xMem)), rec76 l3 l4 l5 m = some r → xFx hh_167 cX12_isSome d 76 [some (.ref a0), some (.int a1), some (.int a2), some (.int l3), some (.int l4), some (.int l5)] [] (xLay m) 0 0 (some (.int r.1)) (xLay r.2)) {l3 : Int32} {l5 : Int32} {s0 : Int32} {o4 : Option Value} {m : xMem} {r : (Int32 × xMem)} (q4 : xNoD o4 = true) (h : fX12_isSome_134 a0 a1 a2 rec76 l3 l5 s0 m = some r) : xFx hh_167 cX12_isSome d 134 [some (.ref a0), some (.int a1), some (.int a2), some (.int l3), o4, some (.int l5)] [.int s0] (xLay m) 0 0 (some (.int r.1)) (xLay r.2) := by
  unfold fX12_isSome_134 at h
  refine fx_istore (ls2 := [some (.ref a0), some (.int a1), some (.int a2), some (.int l3), some (.int s0), some (.int l5)]) dX12_isSome_134 rfl rfl rfl ?_
  obtain ⟨x1, hx1, h⟩ := xLet_el h
  refine fx_iinc (ls2 := [some (.ref a0), some (.int a1), some (.int a2), some (.int l3), some (.int s0), some (.int x1)]) dX12_isSome_136 rfl rfl rfl hx1 rfl ?_
  refine fx_goto (t := 76) dX12_isSome_139 rfl rfl ?_
  exact hrec76 l3 s0 x1 m r h
def fX12_isSome_129 (a0 : Nat) (a1 : Int32) (a2 : Int32) (rec76 : Int32 → Int32 → Int32 → xMem → Option (Int32 × xMem)) (l3 : Int32) (l5 : Int32) (m : xMem) : Option (Int32 × xMem) := fX12_isSome_134 a0 a1 a2 rec76 l3 l5 (1 : Int32) m
set_option maxRecDepth 4000 in
theorem fX12_isSome_129_ok {a0 : Nat} {a1 : Int32} {a2 : Int32} {rec76 : Int32 → Int32 → Int32 → xMem → Option (Int32 × xMem)} {d : Nat} (hd : 3 ≤ d) (ha0 : isModel a0) (hrec76 : ∀ (l3 : Int32) (l4 : Int32) (l5 : Int32) (m : xMem) (r : (Int32 × xMem)), rec76 l3 l4 l5 m = some r → xFx hh_167 cX12_isSome d 76 [some (.ref a0), some (.int a1), some (.int a2), some (.int l3), some (.int l4), some (.int l5)] [] (xLay m) 0 0 (some (.int r.1)) (xLay r.2)) {l3 : Int32} {l5 : Int32} {o4 : Option Value} {m : xMem} {r : (Int32 × xMem)} (q4 : xNoD o4 = true) (h : fX12_isSome_129 a0 a1 a2 rec76 l3 l5 m = some r) : xFx hh_167 cX12_isSome d 129 [some (.ref a0), some (.int a1), some (.int a2), some (.int l3), o4, some (.int l5)] [] (xLay m) 0 0 (some (.int r.1)) (xLay r.2) := by
  unfold fX12_isSome_129 at h
  refine fx_iconst (x := 1) dX12_isSome_129 rfl (by decide) ?_
  refine fx_goto (t := 134) dX12_isSome_130 rfl rfl ?_
  exact fX12_isSome_134_ok (o4 := o4) hd ha0 hrec76 q4 h
def fX12_isSome_133 (a0 : Nat) (a1 : Int32) (a2 : Int32) (rec76 : Int32 → Int32 → Int32 → xMem → Option (Int32 × xMem)) (l3 : Int32) (l5 : Int32) (m : xMem) : Option (Int32 × xMem) := fX12_isSome_134 a0 a1 a2 rec76 l3 l5 (0 : Int32) m
set_option maxRecDepth 4000 in
theorem fX12_isSome_133_ok {a0 : Nat} {a1 : Int32} {a2 : Int32} {rec76 : Int32 → Int32 → Int32 → xMem → Option (Int32 × xMem)} {d : Nat} (hd : 3 ≤ d) (ha0 : isModel a0) (hrec76 : ∀ (l3 : Int32) (l4 : Int32) (l5 : Int32) (m : xMem) (r : (Int32 × xMem)), rec76 l3 l4 l5 m = some r → xFx hh_167 cX12_isSome d 76 [some (.ref a0), some (.int a1), some (.int a2), some (.int l3), some (.int l4), some (.int l5)] [] (xLay m) 0 0 (some (.int r.1)) (xLay r.2)) {l3 : Int32} {l5 : Int32} {o4 : Option Value} {m : xMem} {r : (Int32 × xMem)} (q4 : xNoD o4 = true) (h : fX12_isSome_133 a0 a1 a2 rec76 l3 l5 m = some r) : xFx hh_167 cX12_isSome d 133 [some (.ref a0), some (.int a1), some (.int a2), some (.int l3), o4, some (.int l5)] [] (xLay m) 0 0 (some (.int r.1)) (xLay r.2) := by
  unfold fX12_isSome_133 at h
  refine fx_iconst (x := 0) dX12_isSome_133 rfl (by decide) ?_
  exact fX12_isSome_134_ok (o4 := o4) hd ha0 hrec76 q4 h
def fX12_isSome_76 (a0 : Nat) (a1 : Int32) (a2 : Int32) : Nat → Int32 → Int32 → Int32 → xMem → Option (Int32 × xMem)
  | 0, _, _, _, _ => none
  | fuel + 1, l3, l4, l5, m => bif xIn l3 4 then xLet (m.1 (a0 + 5) l3.toNatClampNeg) fun x1 => if x1 ≤ l5 then bif (decide (l4 = 0) || decide (l4 = 1)) then some (l4, m) else none else if ¬ l4 = (0 : Int32) then fX12_isSome_129 a0 a1 a2 (fX12_isSome_76 a0 a1 a2 fuel) l3 l5 m else xLet ((10 : Int32) * l3) fun x6 => xLet (x6 + l5) fun x7 => bif xIn x7 40 then xLet (m.1 (a0 + 6) x7.toNatClampNeg) fun x8 => if ¬ x8 = a1 then fX12_isSome_133 a0 a1 a2 (fX12_isSome_76 a0 a1 a2 fuel) l3 l5 m else xLet ((10 : Int32) * l3) fun x11 => xLet (x11 + l5) fun x12 => bif xIn x12 40 then xLet (m.1 (a0 + 7) x12.toNatClampNeg) fun x13 => (fX12_saysOf a0 x13 m).bind fun p15 => xLet (lg_cmp p15.1 (0 : Int64)) fun x16 => if x16 ≤ (0 : Int32) then fX12_isSome_133 a0 a1 a2 (fX12_isSome_76 a0 a1 a2 fuel) l3 l5 p15.2 else fX12_isSome_129 a0 a1 a2 (fX12_isSome_76 a0 a1 a2 fuel) l3 l5 p15.2 else none else none else none
set_option maxRecDepth 4000 in
theorem fX12_isSome_76_ok {a0 : Nat} {a1 : Int32} {a2 : Int32} {d : Nat} (hd : 3 ≤ d) (ha0 : isModel a0) : ∀ (fuel : Nat) (l3 : Int32) (l4 : Int32) (l5 : Int32) (m : xMem) (r : (Int32 × xMem)), fX12_isSome_76 a0 a1 a2 fuel l3 l4 l5 m = some r → xFx hh_167 cX12_isSome d 76 [some (.ref a0), some (.int a1), some (.int a2), some (.int l3), some (.int l4), some (.int l5)] [] (xLay m) 0 0 (some (.int r.1)) (xLay r.2) := by
  intro fuel
  induction fuel with
  | zero => intro l3 l4 l5  m r  h; cases h
  | succ fuel ih =>
    intro l3 l4 l5  m r  h
    unfold fX12_isSome_76 at h
    refine fx_iload dX12_isSome_76 rfl rfl ?_
    refine fx_aload_n dX12_isSome_78 rfl rfl ?_
    refine gx_getr dX12_isSome_79 rfl fd_12_30 ha0.1 rfl rfl ?_
    refine fx_iload_n dX12_isSome_82 rfl rfl ?_
    obtain ⟨hj2, h⟩ := xChk_el h
    obtain ⟨x1, hx1, h⟩ := xLet_el h
    refine gx_iaload dX12_isSome_83 rfl ha0.2.2.2.2.2.1 hj2 hx1 ?_
    refine fx_icmp_ge (t := 142) dX12_isSome_84 rfl rfl (fun hc3 => ?_) (fun hc3 => ?_)
    · rw [if_pos hc3] at h
      refine fx_iload dX12_isSome_142 rfl rfl ?_
      obtain ⟨hb4, h⟩ := xChk_el h
      cases h
      exact fx_ireturn dX12_isSome_144 rfl (by show ((decide _ || decide _) && _) = true; rw [hb4]; rfl)
    · rw [if_neg hc3] at h
      refine fx_iload dX12_isSome_87 rfl rfl ?_
      refine fx_if_ne (t := 129) dX12_isSome_89 rfl rfl (fun hc5 => ?_) (fun hc5 => ?_)
      · rw [if_pos hc5] at h
        exact fX12_isSome_129_ok (o4 := some (.int l4)) hd ha0 ih rfl h
      · rw [if_neg hc5] at h
        refine fx_aload_n dX12_isSome_92 rfl rfl ?_
        refine gx_getr dX12_isSome_93 rfl fd_12_33 ha0.1 rfl rfl ?_
        refine fx_bipush (x := 10) dX12_isSome_96 rfl (by decide) ?_
        refine fx_iload_n dX12_isSome_98 rfl rfl ?_
        obtain ⟨x6, hx6, h⟩ := xLet_el h
        refine fx_imul dX12_isSome_99 rfl hx6 ?_
        refine fx_iload dX12_isSome_100 rfl rfl ?_
        obtain ⟨x7, hx7, h⟩ := xLet_el h
        refine fx_iadd dX12_isSome_102 rfl hx7 ?_
        obtain ⟨hj9, h⟩ := xChk_el h
        obtain ⟨x8, hx8, h⟩ := xLet_el h
        refine gx_iaload dX12_isSome_103 rfl ha0.2.2.2.2.2.2.1 hj9 hx8 ?_
        refine fx_iload_n dX12_isSome_104 rfl rfl ?_
        refine fx_icmp_ne (t := 133) dX12_isSome_105 rfl rfl (fun hc10 => ?_) (fun hc10 => ?_)
        · rw [if_pos hc10] at h
          exact fX12_isSome_133_ok (o4 := some (.int l4)) hd ha0 ih rfl h
        · rw [if_neg hc10] at h
          refine fx_aload_n dX12_isSome_108 rfl rfl ?_
          refine fx_aload_n dX12_isSome_109 rfl rfl ?_
          refine gx_getr dX12_isSome_110 rfl fd_12_36 ha0.1 rfl rfl ?_
          refine fx_bipush (x := 10) dX12_isSome_113 rfl (by decide) ?_
          refine fx_iload_n dX12_isSome_115 rfl rfl ?_
          obtain ⟨x11, hx11, h⟩ := xLet_el h
          refine fx_imul dX12_isSome_116 rfl hx11 ?_
          refine fx_iload dX12_isSome_117 rfl rfl ?_
          obtain ⟨x12, hx12, h⟩ := xLet_el h
          refine fx_iadd dX12_isSome_119 rfl hx12 ?_
          obtain ⟨hj14, h⟩ := xChk_el h
          obtain ⟨x13, hx13, h⟩ := xLet_el h
          refine gx_iaload dX12_isSome_120 rfl ha0.2.2.2.2.2.2.2.1 hj14 hx13 ?_
          obtain ⟨p15, ep15, h⟩ := xBind_el h
          refine gx_callv (as := [.int x13]) (r := []) rfl dX12_isSome_121 ca_12_298 rfl me_171 rfl rfl rfl rfl (ha0.1) rfl (fX12_saysOf_ok (d := d) (by omega) ha0 ep15) rfl rfl ?_
          refine fx_lconst (x := 0) dX12_isSome_124 rfl (by decide) ?_
          obtain ⟨x16, hx16, h⟩ := xLet_el h
          refine fx_lcmp dX12_isSome_125 rfl hx16 ?_
          refine fx_if_le (t := 133) dX12_isSome_126 rfl rfl (fun hc17 => ?_) (fun hc17 => ?_)
          · rw [if_pos hc17] at h
            exact fX12_isSome_133_ok (o4 := some (.int l4)) hd ha0 ih rfl h
          · rw [if_neg hc17] at h
            exact fX12_isSome_129_ok (o4 := some (.int l4)) hd ha0 ih rfl h
def fX12_isSome_0 (a0 : Nat) (a1 : Int32) (a2 : Int32) (m : xMem) : Option (Int32 × xMem) := bif xIn (5 : Int32) 1610 then xLet (m.1 (a0 + 1) (5 : Int32).toNatClampNeg) fun x1 => if ¬ x1 = (-1 : Int32) then bif xIn (0 : Int32) 1610 then xLet (m.1 (a0 + 1) (0 : Int32).toNatClampNeg) fun x4 => bif xIn (0 : Int32) 8 then xLet (xPut m (a0 + 18) (0 : Int32).toNatClampNeg x4) fun m6 => bif xIn (1 : Int32) 8 then xLet (xPut m6 (a0 + 18) (1 : Int32).toNatClampNeg a2) fun m8 => (fX12_inHall a0 a2 m8).bind fun p10 => bif xIn (2 : Int32) 8 then xLet (xPut p10.2 (a0 + 18) (2 : Int32).toNatClampNeg p10.1) fun m11 => (fX12_hallOf a0 a2 (0 : Int32) m11).bind fun p13 => bif xIn (3 : Int32) 8 then xLet (xPut p13.2 (a0 + 18) (3 : Int32).toNatClampNeg p13.1) fun m14 => (fX12_countOf a0 (130 : Int32) a2 m14).bind fun p16 => bif xIn (4 : Int32) 8 then xLet (xPut p16.2 (a0 + 18) (4 : Int32).toNatClampNeg p16.1) fun m17 => fX12_isSome_76 a0 a1 a2 xFuel x1 (0 : Int32) (0 : Int32) m17 else none else none else none else none else none else none else some ((0 : Int32), m) else none
set_option maxRecDepth 4000 in
theorem fX12_isSome_0_ok {a0 : Nat} {a1 : Int32} {a2 : Int32} {d : Nat} (hd : 3 ≤ d) (ha0 : isModel a0) {o3 : Option Value} {o4 : Option Value} {o5 : Option Value} {m : xMem} {r : (Int32 × xMem)} (q3 : xNoD o3 = true) (q4 : xNoD o4 = true) (q5 : xNoD o5 = true) (h : fX12_isSome_0 a0 a1 a2 m = some r) : xFx hh_167 cX12_isSome d 0 [some (.ref a0), some (.int a1), some (.int a2), o3, o4, o5] [] (xLay m) 0 0 (some (.int r.1)) (xLay r.2) := by
  unfold fX12_isSome_0 at h
  refine fx_aload_n dX12_isSome_0 rfl rfl ?_
  refine gx_getr dX12_isSome_1 rfl fd_12_7 ha0.1 rfl rfl ?_
  refine fx_iconst (x := 5) dX12_isSome_4 rfl (by decide) ?_
  obtain ⟨hj2, h⟩ := xChk_el h
  obtain ⟨x1, hx1, h⟩ := xLet_el h
  refine gx_iaload dX12_isSome_5 rfl ha0.2.1 hj2 hx1 ?_
  refine fx_istore_n (ls2 := [some (.ref a0), some (.int a1), some (.int a2), some (.int x1), o4, o5]) dX12_isSome_6 rfl rfl rfl ?_
  refine fx_iload_n dX12_isSome_7 rfl rfl ?_
  refine fx_iconst (x := -1) dX12_isSome_8 rfl (by decide) ?_
  refine fx_icmp_ne (t := 14) dX12_isSome_9 rfl rfl (fun hc3 => ?_) (fun hc3 => ?_)
  · rw [if_pos hc3] at h
    refine fx_aload_n dX12_isSome_14 rfl rfl ?_
    refine gx_getr dX12_isSome_15 rfl fd_12_69 ha0.1 rfl rfl ?_
    refine fx_iconst (x := 0) dX12_isSome_18 rfl (by decide) ?_
    refine fx_aload_n dX12_isSome_19 rfl rfl ?_
    refine gx_getr dX12_isSome_20 rfl fd_12_7 ha0.1 rfl rfl ?_
    refine fx_iconst (x := 0) dX12_isSome_23 rfl (by decide) ?_
    obtain ⟨hj5, h⟩ := xChk_el h
    obtain ⟨x4, hx4, h⟩ := xLet_el h
    refine gx_iaload dX12_isSome_24 rfl ha0.2.1 hj5 hx4 ?_
    obtain ⟨hj7, h⟩ := xChk_el h
    obtain ⟨m6, hm6, h⟩ := xLet_el h
    refine gx_iastore dX12_isSome_25 rfl ha0.2.2.2.2.2.2.2.2.2.2.2.2.2.2.2.2.2.2.1 hj7 hm6 ?_
    refine fx_aload_n dX12_isSome_26 rfl rfl ?_
    refine gx_getr dX12_isSome_27 rfl fd_12_69 ha0.1 rfl rfl ?_
    refine fx_iconst (x := 1) dX12_isSome_30 rfl (by decide) ?_
    refine fx_iload_n dX12_isSome_31 rfl rfl ?_
    obtain ⟨hj9, h⟩ := xChk_el h
    obtain ⟨m8, hm8, h⟩ := xLet_el h
    refine gx_iastore dX12_isSome_32 rfl ha0.2.2.2.2.2.2.2.2.2.2.2.2.2.2.2.2.2.2.1 hj9 hm8 ?_
    refine fx_aload_n dX12_isSome_33 rfl rfl ?_
    refine gx_getr dX12_isSome_34 rfl fd_12_69 ha0.1 rfl rfl ?_
    refine fx_iconst (x := 2) dX12_isSome_37 rfl (by decide) ?_
    refine fx_aload_n dX12_isSome_38 rfl rfl ?_
    refine fx_iload_n dX12_isSome_39 rfl rfl ?_
    obtain ⟨p10, ep10, h⟩ := xBind_el h
    refine gx_callv (as := [.int a2]) (r := [.int (2 : Int32), .ref (a0 + 18)]) rfl dX12_isSome_40 ca_12_292 rfl me_168 rfl rfl rfl rfl (ha0.1) rfl (fX12_inHall_ok (d := d) (by omega) ha0 ep10) rfl rfl ?_
    obtain ⟨hj12, h⟩ := xChk_el h
    obtain ⟨m11, hm11, h⟩ := xLet_el h
    refine gx_iastore dX12_isSome_43 rfl ha0.2.2.2.2.2.2.2.2.2.2.2.2.2.2.2.2.2.2.1 hj12 hm11 ?_
    refine fx_aload_n dX12_isSome_44 rfl rfl ?_
    refine gx_getr dX12_isSome_45 rfl fd_12_69 ha0.1 rfl rfl ?_
    refine fx_iconst (x := 3) dX12_isSome_48 rfl (by decide) ?_
    refine fx_aload_n dX12_isSome_49 rfl rfl ?_
    refine fx_iload_n dX12_isSome_50 rfl rfl ?_
    refine fx_iconst (x := 0) dX12_isSome_51 rfl (by decide) ?_
    obtain ⟨p13, ep13, h⟩ := xBind_el h
    refine gx_callv (as := [.int a2, .int (0 : Int32)]) (r := [.int (3 : Int32), .ref (a0 + 18)]) rfl dX12_isSome_52 ca_12_295 rfl me_170 rfl rfl rfl rfl (ha0.1) rfl (fX12_hallOf_ok (d := d) (by omega) ha0 ep13) rfl rfl ?_
    obtain ⟨hj15, h⟩ := xChk_el h
    obtain ⟨m14, hm14, h⟩ := xLet_el h
    refine gx_iastore dX12_isSome_55 rfl ha0.2.2.2.2.2.2.2.2.2.2.2.2.2.2.2.2.2.2.1 hj15 hm14 ?_
    refine fx_aload_n dX12_isSome_56 rfl rfl ?_
    refine gx_getr dX12_isSome_57 rfl fd_12_69 ha0.1 rfl rfl ?_
    refine fx_iconst (x := 4) dX12_isSome_60 rfl (by decide) ?_
    refine fx_aload_n dX12_isSome_61 rfl rfl ?_
    refine fx_sipush (x := 130) dX12_isSome_62 rfl (by decide) ?_
    refine fx_iload_n dX12_isSome_65 rfl rfl ?_
    obtain ⟨p16, ep16, h⟩ := xBind_el h
    refine gx_callv (as := [.int (130 : Int32), .int a2]) (r := [.int (4 : Int32), .ref (a0 + 18)]) rfl dX12_isSome_66 ca_12_289 rfl me_169 rfl rfl rfl rfl (ha0.1) rfl (fX12_countOf_ok (d := d) (by omega) ha0 ep16) rfl rfl ?_
    obtain ⟨hj18, h⟩ := xChk_el h
    obtain ⟨m17, hm17, h⟩ := xLet_el h
    refine gx_iastore dX12_isSome_69 rfl ha0.2.2.2.2.2.2.2.2.2.2.2.2.2.2.2.2.2.2.1 hj18 hm17 ?_
    refine fx_iconst (x := 0) dX12_isSome_70 rfl (by decide) ?_
    refine fx_istore (ls2 := [some (.ref a0), some (.int a1), some (.int a2), some (.int x1), some (.int (0 : Int32)), o5]) dX12_isSome_71 rfl rfl rfl ?_
    refine fx_iconst (x := 0) dX12_isSome_73 rfl (by decide) ?_
    refine fx_istore (ls2 := [some (.ref a0), some (.int a1), some (.int a2), some (.int x1), some (.int (0 : Int32)), some (.int (0 : Int32))]) dX12_isSome_74 rfl rfl rfl ?_
    exact fX12_isSome_76_ok hd ha0 xFuel x1 (0 : Int32) (0 : Int32) m17 r h
  · rw [if_neg hc3] at h
    refine fx_iconst (x := 0) dX12_isSome_12 rfl (by decide) ?_
    cases h
    exact fx_ireturn dX12_isSome_13 rfl rfl
def fX12_isSome (a0 : Nat) (a1 : Int32) (a2 : Int32) (m : xMem) : Option (Int32 × xMem) := fX12_isSome_0 a0 a1 a2  m
theorem fX12_isSome_ok {a0 : Nat} {a1 : Int32} {a2 : Int32} {m : xMem} {r : (Int32 × xMem)} {d : Nat} (hd : 4 ≤ d) (ha0 : isModel a0) (h : fX12_isSome a0 a1 a2 m = some r) : xEx d 167 [.ref a0, .int a1, .int a2] (xLay m) (some (.int r.1)) (xLay r.2) := by
  obtain ⟨d, rfl⟩ : ∃ q, d = q + 1 := ⟨d - 1, by omega⟩
  exact xEx_of me_167 rfl (fX12_isSome_0_ok (d := d) (o3 := none) (o4 := none) (o5 := none) (by omega) ha0 rfl rfl rfl h)
def fX12_bursts_197 (a0 : Nat) (a1 : Int32) (rec2 : Int32 → xMem → Option xMem) (l2 : Int32) (m : xMem) : Option xMem := xLet (l2 + (1 : Int32)) fun x1 => rec2 x1 m
set_option maxRecDepth 4000 in
theorem fX12_bursts_197_ok {a0 : Nat} {a1 : Int32} {rec2 : Int32 → xMem → Option xMem} {d : Nat} (hd : 4 ≤ d) (ha0 : isModel a0) (hrec2 : ∀ (l2 : Int32) (o3 : Option Value) (o4 : Option Value) (o5 : Option Value) (q3 : xNoD o3 = true) (q4 : xNoD o4 = true) (q5 : xNoD o5 = true) (m : xMem) (r : xMem), rec2 l2 m = some r → xFx hh_165 cX12_bursts d 2 [some (.ref a0), some (.int a1), some (.int l2), o3, o4, o5] [] (xLay m) 0 0 none (xLay r)) {l2 : Int32} {o3 : Option Value} {o4 : Option Value} {o5 : Option Value} {m : xMem} {r : xMem} (q3 : xNoD o3 = true) (q4 : xNoD o4 = true) (q5 : xNoD o5 = true) (h : fX12_bursts_197 a0 a1 rec2 l2 m = some r) : xFx hh_165 cX12_bursts d 197 [some (.ref a0), some (.int a1), some (.int l2), o3, o4, o5] [] (xLay m) 0 0 none (xLay r) := by
  unfold fX12_bursts_197 at h
  obtain ⟨x1, hx1, h⟩ := xLet_el h
  refine fx_iinc (ls2 := [some (.ref a0), some (.int a1), some (.int x1), o3, o4, o5]) dX12_bursts_197 rfl rfl rfl hx1 rfl ?_
  refine fx_goto (t := 2) dX12_bursts_200 rfl rfl ?_
  exact hrec2 x1 (o3) (o4) (o5) q3 q4 q5 m r h
def fX12_bursts_66 (a0 : Nat) (a1 : Int32) (rec2 : Int32 → xMem → Option xMem) (l2 : Int32) (l3 : Int32) (m : xMem) : Option xMem := xLet (l3 + (2 : Int32)) fun x1 => bif xIn x1 1610 then xLet (m.1 (a0 + 1) x1.toNatClampNeg) fun x2 => xLet (l3 + (6 : Int32)) fun x4 => bif xIn x4 1610 then xLet (m.1 (a0 + 1) x4.toNatClampNeg) fun x5 => if ¬ x5 = (0 : Int32) then (fX12_isSome a0 (2 : Int32) x2 m).bind fun p8 => if p8.1 = (0 : Int32) then xLet ((12 : Int32) * x2) fun x10 => xLet ((130 : Int32) + x10) fun x11 => xLet (l3 + (3 : Int32)) fun x12 => bif xIn x12 1610 then xLet (p8.2.1 (a0 + 1) x12.toNatClampNeg) fun x13 => xLet ((2 : Int32) * x13) fun x15 => xLet (x11 + x15) fun x16 => xLet (l3 + (5 : Int32)) fun x17 => bif xIn x17 1610 then xLet (p8.2.1 (a0 + 1) x17.toNatClampNeg) fun x18 => xLet (x16 + x18) fun x20 => bif xIn x20 1610 then xLet (p8.2.1 (a0 + 1) x20.toNatClampNeg) fun x21 => xLet (l3 + (4 : Int32)) fun x23 => bif xIn x23 1610 then xLet (p8.2.1 (a0 + 1) x23.toNatClampNeg) fun x24 => xLet (x21 + x24) fun x26 => bif xIn x20 1610 then xLet (xPut p8.2 (a0 + 1) x20.toNatClampNeg x26) fun m27 => fX12_bursts_197 a0 a1 rec2 l2 m27 else none else none else none else none else none else bif xIn (11 : Int32) 1610 then xLet (p8.2.1 (a0 + 1) (11 : Int32).toNatClampNeg) fun x29 => xLet (l3 + (4 : Int32)) fun x31 => bif xIn x31 1610 then xLet (p8.2.1 (a0 + 1) x31.toNatClampNeg) fun x32 => xLet (x29 + x32) fun x34 => bif xIn (11 : Int32) 1610 then xLet (xPut p8.2 (a0 + 1) (11 : Int32).toNatClampNeg x34) fun m35 => fX12_bursts_197 a0 a1 rec2 l2 m35 else none else none else none else xLet (l3 + (3 : Int32)) fun x37 => bif xIn x37 1610 then xLet (m.1 (a0 + 1) x37.toNatClampNeg) fun x38 => xLet (l3 + (5 : Int32)) fun x40 => bif xIn x40 1610 then xLet (m.1 (a0 + 1) x40.toNatClampNeg) fun x41 => xLet (l3 + (4 : Int32)) fun x43 => bif xIn x43 1610 then xLet (m.1 (a0 + 1) x43.toNatClampNeg) fun x44 => (fX12_comes a0 x2 x38 x41 x44 m).bind fun p46 => fX12_bursts_197 a0 a1 rec2 l2 p46 else none else none else none else none else none
set_option maxRecDepth 4000 in
theorem fX12_bursts_66_ok {a0 : Nat} {a1 : Int32} {rec2 : Int32 → xMem → Option xMem} {d : Nat} (hd : 4 ≤ d) (ha0 : isModel a0) (hrec2 : ∀ (l2 : Int32) (o3 : Option Value) (o4 : Option Value) (o5 : Option Value) (q3 : xNoD o3 = true) (q4 : xNoD o4 = true) (q5 : xNoD o5 = true) (m : xMem) (r : xMem), rec2 l2 m = some r → xFx hh_165 cX12_bursts d 2 [some (.ref a0), some (.int a1), some (.int l2), o3, o4, o5] [] (xLay m) 0 0 none (xLay r)) {l2 : Int32} {l3 : Int32} {o4 : Option Value} {o5 : Option Value} {m : xMem} {r : xMem} (q4 : xNoD o4 = true) (q5 : xNoD o5 = true) (h : fX12_bursts_66 a0 a1 rec2 l2 l3 m = some r) : xFx hh_165 cX12_bursts d 66 [some (.ref a0), some (.int a1), some (.int l2), some (.int l3), o4, o5] [] (xLay m) 0 0 none (xLay r) := by
  unfold fX12_bursts_66 at h
  refine fx_aload_n dX12_bursts_66 rfl rfl ?_
  refine gx_getr dX12_bursts_67 rfl fd_12_7 ha0.1 rfl rfl ?_
  refine fx_iload_n dX12_bursts_70 rfl rfl ?_
  refine fx_iconst (x := 2) dX12_bursts_71 rfl (by decide) ?_
  obtain ⟨x1, hx1, h⟩ := xLet_el h
  refine fx_iadd dX12_bursts_72 rfl hx1 ?_
  obtain ⟨hj3, h⟩ := xChk_el h
  obtain ⟨x2, hx2, h⟩ := xLet_el h
  refine gx_iaload dX12_bursts_73 rfl ha0.2.1 hj3 hx2 ?_
  refine fx_istore (ls2 := [some (.ref a0), some (.int a1), some (.int l2), some (.int l3), o4, some (.int x2)]) dX12_bursts_74 rfl (xGd (j := 4) rfl rfl q4 rfl) rfl ?_
  refine fx_aload_n dX12_bursts_76 rfl rfl ?_
  refine gx_getr dX12_bursts_77 rfl fd_12_7 ha0.1 rfl rfl ?_
  refine fx_iload_n dX12_bursts_80 rfl rfl ?_
  refine fx_bipush (x := 6) dX12_bursts_81 rfl (by decide) ?_
  obtain ⟨x4, hx4, h⟩ := xLet_el h
  refine fx_iadd dX12_bursts_83 rfl hx4 ?_
  obtain ⟨hj6, h⟩ := xChk_el h
  obtain ⟨x5, hx5, h⟩ := xLet_el h
  refine gx_iaload dX12_bursts_84 rfl ha0.2.1 hj6 hx5 ?_
  refine fx_if_ne (t := 121) dX12_bursts_85 rfl rfl (fun hc7 => ?_) (fun hc7 => ?_)
  · rw [if_pos hc7] at h
    refine fx_aload_n dX12_bursts_121 rfl rfl ?_
    refine fx_iconst (x := 2) dX12_bursts_122 rfl (by decide) ?_
    refine fx_iload dX12_bursts_123 rfl rfl ?_
    obtain ⟨p8, ep8, h⟩ := xBind_el h
    refine gx_callv (as := [.int (2 : Int32), .int x2]) (r := []) rfl dX12_bursts_125 ca_12_313 rfl me_167 rfl rfl rfl rfl (ha0.1) rfl (fX12_isSome_ok (d := d) (by omega) ha0 ep8) rfl rfl ?_
    refine fx_if_eq (t := 152) dX12_bursts_128 rfl rfl (fun hc9 => ?_) (fun hc9 => ?_)
    · rw [if_pos hc9] at h
      refine fx_aload_n dX12_bursts_152 rfl rfl ?_
      refine gx_getr dX12_bursts_153 rfl fd_12_7 ha0.1 rfl rfl ?_
      refine fx_sipush (x := 130) dX12_bursts_156 rfl (by decide) ?_
      refine fx_bipush (x := 12) dX12_bursts_159 rfl (by decide) ?_
      refine fx_iload dX12_bursts_161 rfl rfl ?_
      obtain ⟨x10, hx10, h⟩ := xLet_el h
      refine fx_imul dX12_bursts_163 rfl hx10 ?_
      obtain ⟨x11, hx11, h⟩ := xLet_el h
      refine fx_iadd dX12_bursts_164 rfl hx11 ?_
      refine fx_iconst (x := 2) dX12_bursts_165 rfl (by decide) ?_
      refine fx_aload_n dX12_bursts_166 rfl rfl ?_
      refine gx_getr dX12_bursts_167 rfl fd_12_7 ha0.1 rfl rfl ?_
      refine fx_iload_n dX12_bursts_170 rfl rfl ?_
      refine fx_iconst (x := 3) dX12_bursts_171 rfl (by decide) ?_
      obtain ⟨x12, hx12, h⟩ := xLet_el h
      refine fx_iadd dX12_bursts_172 rfl hx12 ?_
      obtain ⟨hj14, h⟩ := xChk_el h
      obtain ⟨x13, hx13, h⟩ := xLet_el h
      refine gx_iaload dX12_bursts_173 rfl ha0.2.1 hj14 hx13 ?_
      obtain ⟨x15, hx15, h⟩ := xLet_el h
      refine fx_imul dX12_bursts_174 rfl hx15 ?_
      obtain ⟨x16, hx16, h⟩ := xLet_el h
      refine fx_iadd dX12_bursts_175 rfl hx16 ?_
      refine fx_aload_n dX12_bursts_176 rfl rfl ?_
      refine gx_getr dX12_bursts_177 rfl fd_12_7 ha0.1 rfl rfl ?_
      refine fx_iload_n dX12_bursts_180 rfl rfl ?_
      refine fx_iconst (x := 5) dX12_bursts_181 rfl (by decide) ?_
      obtain ⟨x17, hx17, h⟩ := xLet_el h
      refine fx_iadd dX12_bursts_182 rfl hx17 ?_
      obtain ⟨hj19, h⟩ := xChk_el h
      obtain ⟨x18, hx18, h⟩ := xLet_el h
      refine gx_iaload dX12_bursts_183 rfl ha0.2.1 hj19 hx18 ?_
      obtain ⟨x20, hx20, h⟩ := xLet_el h
      refine fx_iadd dX12_bursts_184 rfl hx20 ?_
      refine fx_dup2 dX12_bursts_185 rfl rfl ?_
      obtain ⟨hj22, h⟩ := xChk_el h
      obtain ⟨x21, hx21, h⟩ := xLet_el h
      refine gx_iaload dX12_bursts_186 rfl ha0.2.1 hj22 hx21 ?_
      refine fx_aload_n dX12_bursts_187 rfl rfl ?_
      refine gx_getr dX12_bursts_188 rfl fd_12_7 ha0.1 rfl rfl ?_
      refine fx_iload_n dX12_bursts_191 rfl rfl ?_
      refine fx_iconst (x := 4) dX12_bursts_192 rfl (by decide) ?_
      obtain ⟨x23, hx23, h⟩ := xLet_el h
      refine fx_iadd dX12_bursts_193 rfl hx23 ?_
      obtain ⟨hj25, h⟩ := xChk_el h
      obtain ⟨x24, hx24, h⟩ := xLet_el h
      refine gx_iaload dX12_bursts_194 rfl ha0.2.1 hj25 hx24 ?_
      obtain ⟨x26, hx26, h⟩ := xLet_el h
      refine fx_iadd dX12_bursts_195 rfl hx26 ?_
      obtain ⟨hj28, h⟩ := xChk_el h
      obtain ⟨m27, hm27, h⟩ := xLet_el h
      refine gx_iastore dX12_bursts_196 rfl ha0.2.1 hj28 hm27 ?_
      exact fX12_bursts_197_ok (o3 := some (.int l3)) (o4 := o4) (o5 := some (.int x2)) hd ha0 hrec2 rfl q4 rfl h
    · rw [if_neg hc9] at h
      refine fx_aload_n dX12_bursts_131 rfl rfl ?_
      refine gx_getr dX12_bursts_132 rfl fd_12_7 ha0.1 rfl rfl ?_
      refine fx_bipush (x := 11) dX12_bursts_135 rfl (by decide) ?_
      refine fx_dup2 dX12_bursts_137 rfl rfl ?_
      obtain ⟨hj30, h⟩ := xChk_el h
      obtain ⟨x29, hx29, h⟩ := xLet_el h
      refine gx_iaload dX12_bursts_138 rfl ha0.2.1 hj30 hx29 ?_
      refine fx_aload_n dX12_bursts_139 rfl rfl ?_
      refine gx_getr dX12_bursts_140 rfl fd_12_7 ha0.1 rfl rfl ?_
      refine fx_iload_n dX12_bursts_143 rfl rfl ?_
      refine fx_iconst (x := 4) dX12_bursts_144 rfl (by decide) ?_
      obtain ⟨x31, hx31, h⟩ := xLet_el h
      refine fx_iadd dX12_bursts_145 rfl hx31 ?_
      obtain ⟨hj33, h⟩ := xChk_el h
      obtain ⟨x32, hx32, h⟩ := xLet_el h
      refine gx_iaload dX12_bursts_146 rfl ha0.2.1 hj33 hx32 ?_
      obtain ⟨x34, hx34, h⟩ := xLet_el h
      refine fx_iadd dX12_bursts_147 rfl hx34 ?_
      obtain ⟨hj36, h⟩ := xChk_el h
      obtain ⟨m35, hm35, h⟩ := xLet_el h
      refine gx_iastore dX12_bursts_148 rfl ha0.2.1 hj36 hm35 ?_
      refine fx_goto (t := 197) dX12_bursts_149 rfl rfl ?_
      exact fX12_bursts_197_ok (o3 := some (.int l3)) (o4 := o4) (o5 := some (.int x2)) hd ha0 hrec2 rfl q4 rfl h
  · rw [if_neg hc7] at h
    refine fx_aload_n dX12_bursts_88 rfl rfl ?_
    refine fx_iload dX12_bursts_89 rfl rfl ?_
    refine fx_aload_n dX12_bursts_91 rfl rfl ?_
    refine gx_getr dX12_bursts_92 rfl fd_12_7 ha0.1 rfl rfl ?_
    refine fx_iload_n dX12_bursts_95 rfl rfl ?_
    refine fx_iconst (x := 3) dX12_bursts_96 rfl (by decide) ?_
    obtain ⟨x37, hx37, h⟩ := xLet_el h
    refine fx_iadd dX12_bursts_97 rfl hx37 ?_
    obtain ⟨hj39, h⟩ := xChk_el h
    obtain ⟨x38, hx38, h⟩ := xLet_el h
    refine gx_iaload dX12_bursts_98 rfl ha0.2.1 hj39 hx38 ?_
    refine fx_aload_n dX12_bursts_99 rfl rfl ?_
    refine gx_getr dX12_bursts_100 rfl fd_12_7 ha0.1 rfl rfl ?_
    refine fx_iload_n dX12_bursts_103 rfl rfl ?_
    refine fx_iconst (x := 5) dX12_bursts_104 rfl (by decide) ?_
    obtain ⟨x40, hx40, h⟩ := xLet_el h
    refine fx_iadd dX12_bursts_105 rfl hx40 ?_
    obtain ⟨hj42, h⟩ := xChk_el h
    obtain ⟨x41, hx41, h⟩ := xLet_el h
    refine gx_iaload dX12_bursts_106 rfl ha0.2.1 hj42 hx41 ?_
    refine fx_aload_n dX12_bursts_107 rfl rfl ?_
    refine gx_getr dX12_bursts_108 rfl fd_12_7 ha0.1 rfl rfl ?_
    refine fx_iload_n dX12_bursts_111 rfl rfl ?_
    refine fx_iconst (x := 4) dX12_bursts_112 rfl (by decide) ?_
    obtain ⟨x43, hx43, h⟩ := xLet_el h
    refine fx_iadd dX12_bursts_113 rfl hx43 ?_
    obtain ⟨hj45, h⟩ := xChk_el h
    obtain ⟨x44, hx44, h⟩ := xLet_el h
    refine gx_iaload dX12_bursts_114 rfl ha0.2.1 hj45 hx44 ?_
    obtain ⟨p46, ep46, h⟩ := xBind_el h
    refine gx_callv (as := [.int x2, .int x38, .int x41, .int x44]) (r := []) rfl dX12_bursts_115 ca_12_309 rfl me_166 rfl rfl rfl rfl (ha0.1) rfl (fX12_comes_ok (d := d) (by omega) ha0 ep46) rfl rfl ?_
    refine fx_goto (t := 197) dX12_bursts_118 rfl rfl ?_
    exact fX12_bursts_197_ok (o3 := some (.int l3)) (o4 := o4) (o5 := some (.int x2)) hd ha0 hrec2 rfl q4 rfl h
def fX12_bursts_2 (a0 : Nat) (a1 : Int32) : Nat → Int32 → xMem → Option xMem
  | 0, _, _ => none
  | fuel + 1, l2, m => bif xIn (3 : Int32) 1610 then xLet (m.1 (a0 + 1) (3 : Int32).toNatClampNeg) fun x1 => if x1 ≤ l2 then some m else xLet ((7 : Int32) * l2) fun x4 => xLet ((360 : Int32) + x4) fun x5 => bif xIn x5 1610 then xLet (m.1 (a0 + 1) x5.toNatClampNeg) fun x6 => xLet (a1 - x6) fun x8 => if x8 = (0 : Int32) then fX12_bursts_66 a0 a1 (fX12_bursts_2 a0 a1 fuel) l2 x5 m else if x8 ≤ (0 : Int32) then fX12_bursts_197 a0 a1 (fX12_bursts_2 a0 a1 fuel) l2 m else xLet (x5 + (1 : Int32)) fun x11 => bif xIn x11 1610 then xLet (m.1 (a0 + 1) x11.toNatClampNeg) fun x12 => if x12 ≤ (0 : Int32) then fX12_bursts_197 a0 a1 (fX12_bursts_2 a0 a1 fuel) l2 m else xLet (x5 + (1 : Int32)) fun x15 => bif xIn x15 1610 then xLet (m.1 (a0 + 1) x15.toNatClampNeg) fun x16 => bif !decide (x16 = 0) then xLet (xRem x8 x16) fun x18 => if ¬ x18 = (0 : Int32) then fX12_bursts_197 a0 a1 (fX12_bursts_2 a0 a1 fuel) l2 m else fX12_bursts_66 a0 a1 (fX12_bursts_2 a0 a1 fuel) l2 x5 m else none else none else none else none else none
set_option maxRecDepth 4000 in
theorem fX12_bursts_2_ok {a0 : Nat} {a1 : Int32} {d : Nat} (hd : 4 ≤ d) (ha0 : isModel a0) : ∀ (fuel : Nat) (l2 : Int32) (o3 : Option Value) (o4 : Option Value) (o5 : Option Value) (q3 : xNoD o3 = true) (q4 : xNoD o4 = true) (q5 : xNoD o5 = true) (m : xMem) (r : xMem), fX12_bursts_2 a0 a1 fuel l2 m = some r → xFx hh_165 cX12_bursts d 2 [some (.ref a0), some (.int a1), some (.int l2), o3, o4, o5] [] (xLay m) 0 0 none (xLay r) := by
  intro fuel
  induction fuel with
  | zero => intro l2 o3 o4 o5 q3 q4 q5 m r  h; cases h
  | succ fuel ih =>
    intro l2 o3 o4 o5 q3 q4 q5 m r  h
    unfold fX12_bursts_2 at h
    refine fx_iload_n dX12_bursts_2 rfl rfl ?_
    refine fx_aload_n dX12_bursts_3 rfl rfl ?_
    refine gx_getr dX12_bursts_4 rfl fd_12_7 ha0.1 rfl rfl ?_
    refine fx_iconst (x := 3) dX12_bursts_7 rfl (by decide) ?_
    obtain ⟨hj2, h⟩ := xChk_el h
    obtain ⟨x1, hx1, h⟩ := xLet_el h
    refine gx_iaload dX12_bursts_8 rfl ha0.2.1 hj2 hx1 ?_
    refine fx_icmp_ge (t := 203) dX12_bursts_9 rfl rfl (fun hc3 => ?_) (fun hc3 => ?_)
    · rw [if_pos hc3] at h
      cases h
      exact fx_return dX12_bursts_203 rfl rfl
    · rw [if_neg hc3] at h
      refine fx_sipush (x := 360) dX12_bursts_12 rfl (by decide) ?_
      refine fx_bipush (x := 7) dX12_bursts_15 rfl (by decide) ?_
      refine fx_iload_n dX12_bursts_17 rfl rfl ?_
      obtain ⟨x4, hx4, h⟩ := xLet_el h
      refine fx_imul dX12_bursts_18 rfl hx4 ?_
      obtain ⟨x5, hx5, h⟩ := xLet_el h
      refine fx_iadd dX12_bursts_19 rfl hx5 ?_
      refine fx_istore_n (ls2 := [some (.ref a0), some (.int a1), some (.int l2), some (.int x5), o4, o5]) dX12_bursts_20 rfl rfl rfl ?_
      refine fx_iload_n dX12_bursts_21 rfl rfl ?_
      refine fx_aload_n dX12_bursts_22 rfl rfl ?_
      refine gx_getr dX12_bursts_23 rfl fd_12_7 ha0.1 rfl rfl ?_
      refine fx_iload_n dX12_bursts_26 rfl rfl ?_
      obtain ⟨hj7, h⟩ := xChk_el h
      obtain ⟨x6, hx6, h⟩ := xLet_el h
      refine gx_iaload dX12_bursts_27 rfl ha0.2.1 hj7 hx6 ?_
      obtain ⟨x8, hx8, h⟩ := xLet_el h
      refine fx_isub dX12_bursts_28 rfl hx8 ?_
      refine fx_istore (ls2 := [some (.ref a0), some (.int a1), some (.int l2), some (.int x5), some (.int x8), o5]) dX12_bursts_29 rfl rfl rfl ?_
      refine fx_iload dX12_bursts_31 rfl rfl ?_
      refine fx_if_eq (t := 66) dX12_bursts_33 rfl rfl (fun hc9 => ?_) (fun hc9 => ?_)
      · rw [if_pos hc9] at h
        exact fX12_bursts_66_ok (o4 := some (.int x8)) (o5 := o5) hd ha0 ih rfl q5 h
      · rw [if_neg hc9] at h
        refine fx_iload dX12_bursts_36 rfl rfl ?_
        refine fx_if_le (t := 197) dX12_bursts_38 rfl rfl (fun hc10 => ?_) (fun hc10 => ?_)
        · rw [if_pos hc10] at h
          exact fX12_bursts_197_ok (o3 := some (.int x5)) (o4 := some (.int x8)) (o5 := o5) hd ha0 ih rfl rfl q5 h
        · rw [if_neg hc10] at h
          refine fx_aload_n dX12_bursts_41 rfl rfl ?_
          refine gx_getr dX12_bursts_42 rfl fd_12_7 ha0.1 rfl rfl ?_
          refine fx_iload_n dX12_bursts_45 rfl rfl ?_
          refine fx_iconst (x := 1) dX12_bursts_46 rfl (by decide) ?_
          obtain ⟨x11, hx11, h⟩ := xLet_el h
          refine fx_iadd dX12_bursts_47 rfl hx11 ?_
          obtain ⟨hj13, h⟩ := xChk_el h
          obtain ⟨x12, hx12, h⟩ := xLet_el h
          refine gx_iaload dX12_bursts_48 rfl ha0.2.1 hj13 hx12 ?_
          refine fx_if_le (t := 197) dX12_bursts_49 rfl rfl (fun hc14 => ?_) (fun hc14 => ?_)
          · rw [if_pos hc14] at h
            exact fX12_bursts_197_ok (o3 := some (.int x5)) (o4 := some (.int x8)) (o5 := o5) hd ha0 ih rfl rfl q5 h
          · rw [if_neg hc14] at h
            refine fx_iload dX12_bursts_52 rfl rfl ?_
            refine fx_aload_n dX12_bursts_54 rfl rfl ?_
            refine gx_getr dX12_bursts_55 rfl fd_12_7 ha0.1 rfl rfl ?_
            refine fx_iload_n dX12_bursts_58 rfl rfl ?_
            refine fx_iconst (x := 1) dX12_bursts_59 rfl (by decide) ?_
            obtain ⟨x15, hx15, h⟩ := xLet_el h
            refine fx_iadd dX12_bursts_60 rfl hx15 ?_
            obtain ⟨hj17, h⟩ := xChk_el h
            obtain ⟨x16, hx16, h⟩ := xLet_el h
            refine gx_iaload dX12_bursts_61 rfl ha0.2.1 hj17 hx16 ?_
            obtain ⟨hz19, h⟩ := xChk_el h
            obtain ⟨x18, hx18, h⟩ := xLet_el h
            refine fx_irem dX12_bursts_62 rfl (by simpa using hz19) hx18 ?_
            refine fx_if_ne (t := 197) dX12_bursts_63 rfl rfl (fun hc20 => ?_) (fun hc20 => ?_)
            · rw [if_pos hc20] at h
              exact fX12_bursts_197_ok (o3 := some (.int x5)) (o4 := some (.int x8)) (o5 := o5) hd ha0 ih rfl rfl q5 h
            · rw [if_neg hc20] at h
              exact fX12_bursts_66_ok (o4 := some (.int x8)) (o5 := o5) hd ha0 ih rfl q5 h
def fX12_bursts_0 (a0 : Nat) (a1 : Int32) (m : xMem) : Option xMem := fX12_bursts_2 a0 a1 xFuel (0 : Int32) m
set_option maxRecDepth 4000 in
theorem fX12_bursts_0_ok {a0 : Nat} {a1 : Int32} {d : Nat} (hd : 4 ≤ d) (ha0 : isModel a0) {o2 : Option Value} {o3 : Option Value} {o4 : Option Value} {o5 : Option Value} {m : xMem} {r : xMem} (q2 : xNoD o2 = true) (q3 : xNoD o3 = true) (q4 : xNoD o4 = true) (q5 : xNoD o5 = true) (h : fX12_bursts_0 a0 a1 m = some r) : xFx hh_165 cX12_bursts d 0 [some (.ref a0), some (.int a1), o2, o3, o4, o5] [] (xLay m) 0 0 none (xLay r) := by
  unfold fX12_bursts_0 at h
  refine fx_iconst (x := 0) dX12_bursts_0 rfl (by decide) ?_
  refine fx_istore_n (ls2 := [some (.ref a0), some (.int a1), some (.int (0 : Int32)), o3, o4, o5]) dX12_bursts_1 rfl rfl rfl ?_
  exact fX12_bursts_2_ok hd ha0 xFuel (0 : Int32) (o3) (o4) (o5) q3 q4 q5 m r h
def fX12_bursts (a0 : Nat) (a1 : Int32) (m : xMem) : Option xMem := fX12_bursts_0 a0 a1  m
theorem fX12_bursts_ok {a0 : Nat} {a1 : Int32} {m : xMem} {r : xMem} {d : Nat} (hd : 5 ≤ d) (ha0 : isModel a0) (h : fX12_bursts a0 a1 m = some r) : xEx d 165 [.ref a0, .int a1] (xLay m) none (xLay r) := by
  obtain ⟨d, rfl⟩ : ∃ q, d = q + 1 := ⟨d - 1, by omega⟩
  exact xEx_of me_165 rfl (fX12_bursts_0_ok (d := d) (o2 := none) (o3 := none) (o4 := none) (o5 := none) (by omega) ha0 rfl rfl rfl rfl h)
def fX12_lets_150 (a0 : Nat) (a1 : Int32) (rec52 : Int32 → Int32 → xMem → Option xMem) (l2 : Int32) (l3 : Int32) (m : xMem) : Option xMem := xLet (l3 + (1 : Int32)) fun x1 => rec52 l2 x1 m
set_option maxRecDepth 4000 in
theorem fX12_lets_150_ok {a0 : Nat} {a1 : Int32} {rec52 : Int32 → Int32 → xMem → Option xMem} {d : Nat} (hd : 4 ≤ d) (ha0 : isModel a0) (hrec52 : ∀ (l2 : Int32) (l3 : Int32) (m : xMem) (r : xMem), rec52 l2 l3 m = some r → xFx hh_174 cX12_lets d 52 [some (.ref a0), some (.int a1), some (.int l2), some (.int l3)] [] (xLay m) 0 0 none (xLay r)) {l2 : Int32} {l3 : Int32} {m : xMem} {r : xMem} (h : fX12_lets_150 a0 a1 rec52 l2 l3 m = some r) : xFx hh_174 cX12_lets d 150 [some (.ref a0), some (.int a1), some (.int l2), some (.int l3)] [] (xLay m) 0 0 none (xLay r) := by
  unfold fX12_lets_150 at h
  obtain ⟨x1, hx1, h⟩ := xLet_el h
  refine fx_iinc (ls2 := [some (.ref a0), some (.int a1), some (.int l2), some (.int x1)]) dX12_lets_150 rfl rfl rfl hx1 rfl ?_
  refine fx_goto (t := 52) dX12_lets_153 rfl rfl ?_
  exact hrec52 l2 x1 m r h
def fX12_lets_58 (a0 : Nat) (a1 : Int32) (rec52 : Int32 → Int32 → xMem → Option xMem) : Nat → Int32 → Int32 → xMem → Option xMem
  | 0, _, _, _ => none
  | fuel + 1, l2, l3, m => xLet ((12 : Int32) * a1) fun x1 => xLet ((130 : Int32) + x1) fun x2 => xLet (x2 + l3) fun x3 => bif xIn x3 1610 then xLet (m.1 (a0 + 1) x3.toNatClampNeg) fun x4 => if x4 ≤ (0 : Int32) then fX12_lets_150 a0 a1 rec52 l2 l3 m else (fX12_hallOf a0 a1 (0 : Int32) m).bind fun p7 => if p7.1 ≤ l2 then fX12_lets_150 a0 a1 rec52 l2 l3 p7.2 else xLet ((12 : Int32) * a1) fun x9 => xLet ((130 : Int32) + x9) fun x10 => xLet (x10 + l3) fun x11 => bif xIn x11 1610 then xLet (p7.2.1 (a0 + 1) x11.toNatClampNeg) fun x12 => xLet (x12 - (1 : Int32)) fun x14 => bif xIn x11 1610 then xLet (xPut p7.2 (a0 + 1) x11.toNatClampNeg x14) fun m15 => xLet (l3 / (2 : Int32)) fun x17 => if ¬ x17 = a1 then xLet ((12 : Int32) * a1) fun x19 => xLet ((50 : Int32) + x19) fun x20 => xLet (x20 + l3) fun x21 => bif xIn x21 1610 then xLet (m15.1 (a0 + 1) x21.toNatClampNeg) fun x22 => xLet (x22 + (1 : Int32)) fun x24 => bif xIn x21 1610 then xLet (xPut m15 (a0 + 1) x21.toNatClampNeg x24) fun m25 => xLet (l2 + (1 : Int32)) fun x27 => fX12_lets_58 a0 a1 rec52 fuel x27 l3 m25 else none else none else bif xIn (9 : Int32) 1610 then xLet (m15.1 (a0 + 1) (9 : Int32).toNatClampNeg) fun x28 => xLet (x28 + (1 : Int32)) fun x30 => bif xIn (9 : Int32) 1610 then xLet (xPut m15 (a0 + 1) (9 : Int32).toNatClampNeg x30) fun m31 => fX12_lets_58 a0 a1 rec52 fuel l2 l3 m31 else none else none else none else none else none
set_option maxRecDepth 4000 in
theorem fX12_lets_58_ok {a0 : Nat} {a1 : Int32} {rec52 : Int32 → Int32 → xMem → Option xMem} {d : Nat} (hd : 4 ≤ d) (ha0 : isModel a0) (hrec52 : ∀ (l2 : Int32) (l3 : Int32) (m : xMem) (r : xMem), rec52 l2 l3 m = some r → xFx hh_174 cX12_lets d 52 [some (.ref a0), some (.int a1), some (.int l2), some (.int l3)] [] (xLay m) 0 0 none (xLay r)) : ∀ (fuel : Nat) (l2 : Int32) (l3 : Int32) (m : xMem) (r : xMem), fX12_lets_58 a0 a1 rec52 fuel l2 l3 m = some r → xFx hh_174 cX12_lets d 58 [some (.ref a0), some (.int a1), some (.int l2), some (.int l3)] [] (xLay m) 0 0 none (xLay r) := by
  intro fuel
  induction fuel with
  | zero => intro l2 l3  m r  h; cases h
  | succ fuel ih =>
    intro l2 l3  m r  h
    unfold fX12_lets_58 at h
    refine fx_aload_n dX12_lets_58 rfl rfl ?_
    refine gx_getr dX12_lets_59 rfl fd_12_7 ha0.1 rfl rfl ?_
    refine fx_sipush (x := 130) dX12_lets_62 rfl (by decide) ?_
    refine fx_bipush (x := 12) dX12_lets_65 rfl (by decide) ?_
    refine fx_iload_n dX12_lets_67 rfl rfl ?_
    obtain ⟨x1, hx1, h⟩ := xLet_el h
    refine fx_imul dX12_lets_68 rfl hx1 ?_
    obtain ⟨x2, hx2, h⟩ := xLet_el h
    refine fx_iadd dX12_lets_69 rfl hx2 ?_
    refine fx_iload_n dX12_lets_70 rfl rfl ?_
    obtain ⟨x3, hx3, h⟩ := xLet_el h
    refine fx_iadd dX12_lets_71 rfl hx3 ?_
    obtain ⟨hj5, h⟩ := xChk_el h
    obtain ⟨x4, hx4, h⟩ := xLet_el h
    refine gx_iaload dX12_lets_72 rfl ha0.2.1 hj5 hx4 ?_
    refine fx_if_le (t := 150) dX12_lets_73 rfl rfl (fun hc6 => ?_) (fun hc6 => ?_)
    · rw [if_pos hc6] at h
      exact fX12_lets_150_ok hd ha0 hrec52 h
    · rw [if_neg hc6] at h
      refine fx_iload_n dX12_lets_76 rfl rfl ?_
      refine fx_aload_n dX12_lets_77 rfl rfl ?_
      refine fx_iload_n dX12_lets_78 rfl rfl ?_
      refine fx_iconst (x := 0) dX12_lets_79 rfl (by decide) ?_
      obtain ⟨p7, ep7, h⟩ := xBind_el h
      refine gx_callv (as := [.int a1, .int (0 : Int32)]) (r := [.int l2]) rfl dX12_lets_80 ca_12_295 rfl me_170 rfl rfl rfl rfl (ha0.1) rfl (fX12_hallOf_ok (d := d) (by omega) ha0 ep7) rfl rfl ?_
      refine fx_icmp_ge (t := 150) dX12_lets_83 rfl rfl (fun hc8 => ?_) (fun hc8 => ?_)
      · rw [if_pos hc8] at h
        exact fX12_lets_150_ok hd ha0 hrec52 h
      · rw [if_neg hc8] at h
        refine fx_aload_n dX12_lets_86 rfl rfl ?_
        refine gx_getr dX12_lets_87 rfl fd_12_7 ha0.1 rfl rfl ?_
        refine fx_sipush (x := 130) dX12_lets_90 rfl (by decide) ?_
        refine fx_bipush (x := 12) dX12_lets_93 rfl (by decide) ?_
        refine fx_iload_n dX12_lets_95 rfl rfl ?_
        obtain ⟨x9, hx9, h⟩ := xLet_el h
        refine fx_imul dX12_lets_96 rfl hx9 ?_
        obtain ⟨x10, hx10, h⟩ := xLet_el h
        refine fx_iadd dX12_lets_97 rfl hx10 ?_
        refine fx_iload_n dX12_lets_98 rfl rfl ?_
        obtain ⟨x11, hx11, h⟩ := xLet_el h
        refine fx_iadd dX12_lets_99 rfl hx11 ?_
        refine fx_dup2 dX12_lets_100 rfl rfl ?_
        obtain ⟨hj13, h⟩ := xChk_el h
        obtain ⟨x12, hx12, h⟩ := xLet_el h
        refine gx_iaload dX12_lets_101 rfl ha0.2.1 hj13 hx12 ?_
        refine fx_iconst (x := 1) dX12_lets_102 rfl (by decide) ?_
        obtain ⟨x14, hx14, h⟩ := xLet_el h
        refine fx_isub dX12_lets_103 rfl hx14 ?_
        obtain ⟨hj16, h⟩ := xChk_el h
        obtain ⟨m15, hm15, h⟩ := xLet_el h
        refine gx_iastore dX12_lets_104 rfl ha0.2.1 hj16 hm15 ?_
        refine fx_iload_n dX12_lets_105 rfl rfl ?_
        refine fx_iconst (x := 2) dX12_lets_106 rfl (by decide) ?_
        obtain ⟨x17, hx17, h⟩ := xLet_el h
        refine fx_idiv dX12_lets_107 rfl (by decide) hx17 ?_
        refine fx_iload_n dX12_lets_108 rfl rfl ?_
        refine fx_icmp_ne (t := 126) dX12_lets_109 rfl rfl (fun hc18 => ?_) (fun hc18 => ?_)
        · rw [if_pos hc18] at h
          refine fx_aload_n dX12_lets_126 rfl rfl ?_
          refine gx_getr dX12_lets_127 rfl fd_12_7 ha0.1 rfl rfl ?_
          refine fx_bipush (x := 50) dX12_lets_130 rfl (by decide) ?_
          refine fx_bipush (x := 12) dX12_lets_132 rfl (by decide) ?_
          refine fx_iload_n dX12_lets_134 rfl rfl ?_
          obtain ⟨x19, hx19, h⟩ := xLet_el h
          refine fx_imul dX12_lets_135 rfl hx19 ?_
          obtain ⟨x20, hx20, h⟩ := xLet_el h
          refine fx_iadd dX12_lets_136 rfl hx20 ?_
          refine fx_iload_n dX12_lets_137 rfl rfl ?_
          obtain ⟨x21, hx21, h⟩ := xLet_el h
          refine fx_iadd dX12_lets_138 rfl hx21 ?_
          refine fx_dup2 dX12_lets_139 rfl rfl ?_
          obtain ⟨hj23, h⟩ := xChk_el h
          obtain ⟨x22, hx22, h⟩ := xLet_el h
          refine gx_iaload dX12_lets_140 rfl ha0.2.1 hj23 hx22 ?_
          refine fx_iconst (x := 1) dX12_lets_141 rfl (by decide) ?_
          obtain ⟨x24, hx24, h⟩ := xLet_el h
          refine fx_iadd dX12_lets_142 rfl hx24 ?_
          obtain ⟨hj26, h⟩ := xChk_el h
          obtain ⟨m25, hm25, h⟩ := xLet_el h
          refine gx_iastore dX12_lets_143 rfl ha0.2.1 hj26 hm25 ?_
          obtain ⟨x27, hx27, h⟩ := xLet_el h
          refine fx_iinc (ls2 := [some (.ref a0), some (.int a1), some (.int x27), some (.int l3)]) dX12_lets_144 rfl rfl rfl hx27 rfl ?_
          refine fx_goto (t := 58) dX12_lets_147 rfl rfl ?_
          exact ih x27 l3 m25 r h
        · rw [if_neg hc18] at h
          refine fx_aload_n dX12_lets_112 rfl rfl ?_
          refine gx_getr dX12_lets_113 rfl fd_12_7 ha0.1 rfl rfl ?_
          refine fx_bipush (x := 9) dX12_lets_116 rfl (by decide) ?_
          refine fx_dup2 dX12_lets_118 rfl rfl ?_
          obtain ⟨hj29, h⟩ := xChk_el h
          obtain ⟨x28, hx28, h⟩ := xLet_el h
          refine gx_iaload dX12_lets_119 rfl ha0.2.1 hj29 hx28 ?_
          refine fx_iconst (x := 1) dX12_lets_120 rfl (by decide) ?_
          obtain ⟨x30, hx30, h⟩ := xLet_el h
          refine fx_iadd dX12_lets_121 rfl hx30 ?_
          obtain ⟨hj32, h⟩ := xChk_el h
          obtain ⟨m31, hm31, h⟩ := xLet_el h
          refine gx_iastore dX12_lets_122 rfl ha0.2.1 hj32 hm31 ?_
          refine fx_goto (t := 58) dX12_lets_123 rfl rfl ?_
          exact ih l2 l3 m31 r h
def fX12_lets_52 (a0 : Nat) (a1 : Int32) : Nat → Int32 → Int32 → xMem → Option xMem
  | 0, _, _, _ => none
  | fuel + 1, l2, l3, m => if (12 : Int32) ≤ l3 then some m else fX12_lets_58 a0 a1 (fX12_lets_52 a0 a1 fuel) xFuel l2 l3 m
set_option maxRecDepth 4000 in
theorem fX12_lets_52_ok {a0 : Nat} {a1 : Int32} {d : Nat} (hd : 4 ≤ d) (ha0 : isModel a0) : ∀ (fuel : Nat) (l2 : Int32) (l3 : Int32) (m : xMem) (r : xMem), fX12_lets_52 a0 a1 fuel l2 l3 m = some r → xFx hh_174 cX12_lets d 52 [some (.ref a0), some (.int a1), some (.int l2), some (.int l3)] [] (xLay m) 0 0 none (xLay r) := by
  intro fuel
  induction fuel with
  | zero => intro l2 l3  m r  h; cases h
  | succ fuel ih =>
    intro l2 l3  m r  h
    unfold fX12_lets_52 at h
    refine fx_iload_n dX12_lets_52 rfl rfl ?_
    refine fx_bipush (x := 12) dX12_lets_53 rfl (by decide) ?_
    refine fx_icmp_ge (t := 156) dX12_lets_55 rfl rfl (fun hc1 => ?_) (fun hc1 => ?_)
    · rw [if_pos hc1] at h
      cases h
      exact fx_return dX12_lets_156 rfl rfl
    · rw [if_neg hc1] at h
      exact fX12_lets_58_ok hd ha0 ih xFuel l2 l3 m r h
def fX12_lets_33 (a0 : Nat) (a1 : Int32) (s0 : Nat) (s1 : Int32) (s2 : Int32) (m : xMem) : Option xMem := bif xIn s1 6 then xLet (vp_nar (xAty 3) s2) fun x3 => xLet (xPut m s0 s1.toNatClampNeg x3) fun m1 => bif xIn a1 6 then xLet (m1.1 (a0 + 20) a1.toNatClampNeg) fun x4 => if x4 = (0 : Int32) then (fX12_inHall a0 a1 m1).bind fun p7 => fX12_lets_52 a0 a1 xFuel p7.1 (0 : Int32) p7.2 else some m1 else none else none
set_option maxRecDepth 4000 in
theorem fX12_lets_33_ok {a0 : Nat} {a1 : Int32} {d : Nat} (hd : 4 ≤ d) (ha0 : isModel a0) {s0 : Nat} {s1 : Int32} {s2 : Int32} {o2 : Option Value} {o3 : Option Value} {m : xMem} {r : xMem} (hs0 : xTmL[s0]? = some (103, 6, [])) (q2 : xNoD o2 = true) (q3 : xNoD o3 = true) (h : fX12_lets_33 a0 a1 s0 s1 s2 m = some r) : xFx hh_174 cX12_lets d 33 [some (.ref a0), some (.int a1), o2, o3] [.int s2, .int s1, .ref s0] (xLay m) 0 0 none (xLay r) := by
  unfold fX12_lets_33 at h
  obtain ⟨hj2, h⟩ := xChk_el h
  obtain ⟨x3, hx3, h⟩ := xLet_el h
  skip
  obtain ⟨m1, hm1, h⟩ := xLet_el h
  refine gx_bastore (t := 3) dX12_lets_33 rfl hs0 rfl hj2 hx3 hm1 ?_
  refine fx_aload_n dX12_lets_34 rfl rfl ?_
  refine gx_getr dX12_lets_35 rfl fd_12_76 ha0.1 rfl rfl ?_
  refine fx_iload_n dX12_lets_38 rfl rfl ?_
  obtain ⟨hj5, h⟩ := xChk_el h
  obtain ⟨x4, hx4, h⟩ := xLet_el h
  refine gx_baload (t := 3) dX12_lets_39 rfl ha0.2.2.2.2.2.2.2.2.2.2.2.2.2.2.2.2.2.2.2.2.1 rfl hj5 hx4 ?_
  refine fx_if_eq (t := 44) dX12_lets_40 rfl rfl (fun hc6 => ?_) (fun hc6 => ?_)
  · rw [if_pos hc6] at h
    refine fx_aload_n dX12_lets_44 rfl rfl ?_
    refine fx_iload_n dX12_lets_45 rfl rfl ?_
    obtain ⟨p7, ep7, h⟩ := xBind_el h
    refine gx_callv (as := [.int a1]) (r := []) rfl dX12_lets_46 ca_12_292 rfl me_168 rfl rfl rfl rfl (ha0.1) rfl (fX12_inHall_ok (d := d) (by omega) ha0 ep7) rfl rfl ?_
    refine fx_istore_n (ls2 := [some (.ref a0), some (.int a1), some (.int p7.1), o3]) dX12_lets_49 rfl rfl rfl ?_
    refine fx_iconst (x := 0) dX12_lets_50 rfl (by decide) ?_
    refine fx_istore_n (ls2 := [some (.ref a0), some (.int a1), some (.int p7.1), some (.int (0 : Int32))]) dX12_lets_51 rfl rfl rfl ?_
    exact fX12_lets_52_ok hd ha0 xFuel p7.1 (0 : Int32) p7.2 r h
  · rw [if_neg hc6] at h
    cases h
    exact fx_return dX12_lets_43 rfl rfl
def fX12_lets_28 (a0 : Nat) (a1 : Int32) (s0 : Nat) (s1 : Int32) (m : xMem) : Option xMem := fX12_lets_33 a0 a1 s0 s1 (1 : Int32) m
set_option maxRecDepth 4000 in
theorem fX12_lets_28_ok {a0 : Nat} {a1 : Int32} {d : Nat} (hd : 4 ≤ d) (ha0 : isModel a0) {s0 : Nat} {s1 : Int32} {o2 : Option Value} {o3 : Option Value} {m : xMem} {r : xMem} (hs0 : xTmL[s0]? = some (103, 6, [])) (q2 : xNoD o2 = true) (q3 : xNoD o3 = true) (h : fX12_lets_28 a0 a1 s0 s1 m = some r) : xFx hh_174 cX12_lets d 28 [some (.ref a0), some (.int a1), o2, o3] [.int s1, .ref s0] (xLay m) 0 0 none (xLay r) := by
  unfold fX12_lets_28 at h
  refine fx_iconst (x := 1) dX12_lets_28 rfl (by decide) ?_
  refine fx_goto (t := 33) dX12_lets_29 rfl rfl ?_
  exact fX12_lets_33_ok (o2 := o2) (o3 := o3) hd ha0 hs0 q2 q3 h
def fX12_lets_0 (a0 : Nat) (a1 : Int32) (m : xMem) : Option xMem := (fX12_inHall a0 a1 m).bind fun p1 => (fX12_hallOf a0 a1 (1 : Int32) p1.2).bind fun p2 => if p2.1 ≤ p1.1 then fX12_lets_28 a0 a1 (a0 + 20) a1 p2.2 else (fX12_isSome a0 (1 : Int32) a1 p2.2).bind fun p4 => if p4.1 = (0 : Int32) then fX12_lets_33 a0 a1 (a0 + 20) a1 (0 : Int32) p4.2 else fX12_lets_28 a0 a1 (a0 + 20) a1 p4.2
set_option maxRecDepth 4000 in
theorem fX12_lets_0_ok {a0 : Nat} {a1 : Int32} {d : Nat} (hd : 4 ≤ d) (ha0 : isModel a0) {o2 : Option Value} {o3 : Option Value} {m : xMem} {r : xMem} (q2 : xNoD o2 = true) (q3 : xNoD o3 = true) (h : fX12_lets_0 a0 a1 m = some r) : xFx hh_174 cX12_lets d 0 [some (.ref a0), some (.int a1), o2, o3] [] (xLay m) 0 0 none (xLay r) := by
  unfold fX12_lets_0 at h
  refine fx_aload_n dX12_lets_0 rfl rfl ?_
  refine gx_getr dX12_lets_1 rfl fd_12_76 ha0.1 rfl rfl ?_
  refine fx_iload_n dX12_lets_4 rfl rfl ?_
  refine fx_aload_n dX12_lets_5 rfl rfl ?_
  refine fx_iload_n dX12_lets_6 rfl rfl ?_
  obtain ⟨p1, ep1, h⟩ := xBind_el h
  refine gx_callv (as := [.int a1]) (r := [.int a1, .ref (a0 + 20)]) rfl dX12_lets_7 ca_12_292 rfl me_168 rfl rfl rfl rfl (ha0.1) rfl (fX12_inHall_ok (d := d) (by omega) ha0 ep1) rfl rfl ?_
  refine fx_aload_n dX12_lets_10 rfl rfl ?_
  refine fx_iload_n dX12_lets_11 rfl rfl ?_
  refine fx_iconst (x := 1) dX12_lets_12 rfl (by decide) ?_
  obtain ⟨p2, ep2, h⟩ := xBind_el h
  refine gx_callv (as := [.int a1, .int (1 : Int32)]) (r := [.int p1.1, .int a1, .ref (a0 + 20)]) rfl dX12_lets_13 ca_12_295 rfl me_170 rfl rfl rfl rfl (ha0.1) rfl (fX12_hallOf_ok (d := d) (by omega) ha0 ep2) rfl rfl ?_
  refine fx_icmp_ge (t := 28) dX12_lets_16 rfl rfl (fun hc3 => ?_) (fun hc3 => ?_)
  · rw [if_pos hc3] at h
    exact fX12_lets_28_ok (o2 := o2) (o3 := o3) hd ha0 ha0.2.2.2.2.2.2.2.2.2.2.2.2.2.2.2.2.2.2.2.2.1 q2 q3 h
  · rw [if_neg hc3] at h
    refine fx_aload_n dX12_lets_19 rfl rfl ?_
    refine fx_iconst (x := 1) dX12_lets_20 rfl (by decide) ?_
    refine fx_iload_n dX12_lets_21 rfl rfl ?_
    obtain ⟨p4, ep4, h⟩ := xBind_el h
    refine gx_callv (as := [.int (1 : Int32), .int a1]) (r := [.int a1, .ref (a0 + 20)]) rfl dX12_lets_22 ca_12_313 rfl me_167 rfl rfl rfl rfl (ha0.1) rfl (fX12_isSome_ok (d := d) (by omega) ha0 ep4) rfl rfl ?_
    refine fx_if_eq (t := 32) dX12_lets_25 rfl rfl (fun hc5 => ?_) (fun hc5 => ?_)
    · rw [if_pos hc5] at h
      refine fx_iconst (x := 0) dX12_lets_32 rfl (by decide) ?_
      exact fX12_lets_33_ok (o2 := o2) (o3 := o3) hd ha0 ha0.2.2.2.2.2.2.2.2.2.2.2.2.2.2.2.2.2.2.2.2.1 q2 q3 h
    · rw [if_neg hc5] at h
      exact fX12_lets_28_ok (o2 := o2) (o3 := o3) hd ha0 ha0.2.2.2.2.2.2.2.2.2.2.2.2.2.2.2.2.2.2.2.2.1 q2 q3 h
def fX12_lets (a0 : Nat) (a1 : Int32) (m : xMem) : Option xMem := fX12_lets_0 a0 a1  m
theorem fX12_lets_ok {a0 : Nat} {a1 : Int32} {m : xMem} {r : xMem} {d : Nat} (hd : 5 ≤ d) (ha0 : isModel a0) (h : fX12_lets a0 a1 m = some r) : xEx d 174 [.ref a0, .int a1] (xLay m) none (xLay r) := by
  obtain ⟨d, rfl⟩ : ∃ q, d = q + 1 := ⟨d - 1, by omega⟩
  exact xEx_of me_174 rfl (fX12_lets_0_ok (d := d) (o2 := none) (o3 := none) (by omega) ha0 rfl rfl h)
def fX12_footOf_17 (a0 : Nat) (a1 : Int32) (s0 : Nat) (s1 : Int32) (s2 : Int32) (m : xMem) : Option (Int32 × xMem) := (fX12_linkOf s0 s1 s2 m).bind fun p1 => some (p1.1, p1.2)
set_option maxRecDepth 4000 in
theorem fX12_footOf_17_ok {a0 : Nat} {a1 : Int32} {d : Nat} (hd : 1 ≤ d) (ha0 : isModel a0) {s0 : Nat} {s1 : Int32} {s2 : Int32} {m : xMem} {r : (Int32 × xMem)} (hs0 : isModel s0) (h : fX12_footOf_17 a0 a1 s0 s1 s2 m = some r) : xFx hh_178 cX12_footOf d 17 [some (.ref a0), some (.int a1)] [.int s2, .int s1, .ref s0] (xLay m) 0 0 (some (.int r.1)) (xLay r.2) := by
  unfold fX12_footOf_17 at h
  obtain ⟨p1, ep1, h⟩ := xBind_el h
  refine gx_callv (as := [.int s1, .int s2]) (r := []) rfl dX12_footOf_17 ca_12_103 rfl me_34 rfl rfl rfl rfl (hs0.1) rfl (fX12_linkOf_ok (d := d) (by omega) hs0 ep1) rfl rfl ?_
  cases h
  exact fx_ireturn dX12_footOf_20 rfl rfl
def fX12_footOf_0 (a0 : Nat) (a1 : Int32) (m : xMem) : Option (Int32 × xMem) := (fX12_linkOf a0 a1 (5 : Int32) m).bind fun p1 => if ¬ p1.1 = (1 : Int32) then fX12_footOf_17 a0 a1 a0 a1 (2 : Int32) p1.2 else fX12_footOf_17 a0 a1 a0 a1 (1 : Int32) p1.2
set_option maxRecDepth 4000 in
theorem fX12_footOf_0_ok {a0 : Nat} {a1 : Int32} {d : Nat} (hd : 1 ≤ d) (ha0 : isModel a0) {m : xMem} {r : (Int32 × xMem)} (h : fX12_footOf_0 a0 a1 m = some r) : xFx hh_178 cX12_footOf d 0 [some (.ref a0), some (.int a1)] [] (xLay m) 0 0 (some (.int r.1)) (xLay r.2) := by
  unfold fX12_footOf_0 at h
  refine fx_aload_n dX12_footOf_0 rfl rfl ?_
  refine fx_iload_n dX12_footOf_1 rfl rfl ?_
  refine fx_aload_n dX12_footOf_2 rfl rfl ?_
  refine fx_iload_n dX12_footOf_3 rfl rfl ?_
  refine fx_iconst (x := 5) dX12_footOf_4 rfl (by decide) ?_
  obtain ⟨p1, ep1, h⟩ := xBind_el h
  refine gx_callv (as := [.int a1, .int (5 : Int32)]) (r := [.int a1, .ref a0]) rfl dX12_footOf_5 ca_12_103 rfl me_34 rfl rfl rfl rfl (ha0.1) rfl (fX12_linkOf_ok (d := d) (by omega) ha0 ep1) rfl rfl ?_
  refine fx_iconst (x := 1) dX12_footOf_8 rfl (by decide) ?_
  refine fx_icmp_ne (t := 16) dX12_footOf_9 rfl rfl (fun hc2 => ?_) (fun hc2 => ?_)
  · rw [if_pos hc2] at h
    refine fx_iconst (x := 2) dX12_footOf_16 rfl (by decide) ?_
    exact fX12_footOf_17_ok hd ha0 ha0 h
  · rw [if_neg hc2] at h
    refine fx_iconst (x := 1) dX12_footOf_12 rfl (by decide) ?_
    refine fx_goto (t := 17) dX12_footOf_13 rfl rfl ?_
    exact fX12_footOf_17_ok hd ha0 ha0 h
def fX12_footOf (a0 : Nat) (a1 : Int32) (m : xMem) : Option (Int32 × xMem) := fX12_footOf_0 a0 a1  m
theorem fX12_footOf_ok {a0 : Nat} {a1 : Int32} {m : xMem} {r : (Int32 × xMem)} {d : Nat} (hd : 2 ≤ d) (ha0 : isModel a0) (h : fX12_footOf a0 a1 m = some r) : xEx d 178 [.ref a0, .int a1] (xLay m) (some (.int r.1)) (xLay r.2) := by
  obtain ⟨d, rfl⟩ : ∃ q, d = q + 1 := ⟨d - 1, by omega⟩
  exact xEx_of me_178 rfl (fX12_footOf_0_ok (d := d) (by omega) ha0 h)
def fX12_costFrom_45 (a0 : Nat) (a1 : Int32) (a2 : Int32) (a3 : Int32) (s0 : Int32) (m : xMem) : Option (Int32 × xMem) := some (s0, m)
set_option maxRecDepth 4000 in
theorem fX12_costFrom_45_ok {a0 : Nat} {a1 : Int32} {a2 : Int32} {a3 : Int32} {d : Nat} (hd : 2 ≤ d) (ha0 : isModel a0) {s0 : Int32} {o4 : Option Value} {m : xMem} {r : (Int32 × xMem)} (q4 : xNoD o4 = true) (h : fX12_costFrom_45 a0 a1 a2 a3 s0 m = some r) : xFx hh_177 cX12_costFrom d 45 [some (.ref a0), some (.int a1), some (.int a2), some (.int a3), o4] [.int s0] (xLay m) 0 0 (some (.int r.1)) (xLay r.2) := by
  unfold fX12_costFrom_45 at h
  cases h
  exact fx_ireturn dX12_costFrom_45 rfl rfl
def fX12_costFrom_35 (a0 : Nat) (a1 : Int32) (a2 : Int32) (a3 : Int32) (m : xMem) : Option (Int32 × xMem) := (fX12_linkOf a0 a1 (4 : Int32) m).bind fun p1 => fX12_costFrom_45 a0 a1 a2 a3 p1.1 p1.2
set_option maxRecDepth 4000 in
theorem fX12_costFrom_35_ok {a0 : Nat} {a1 : Int32} {a2 : Int32} {a3 : Int32} {d : Nat} (hd : 2 ≤ d) (ha0 : isModel a0) {o4 : Option Value} {m : xMem} {r : (Int32 × xMem)} (q4 : xNoD o4 = true) (h : fX12_costFrom_35 a0 a1 a2 a3 m = some r) : xFx hh_177 cX12_costFrom d 35 [some (.ref a0), some (.int a1), some (.int a2), some (.int a3), o4] [] (xLay m) 0 0 (some (.int r.1)) (xLay r.2) := by
  unfold fX12_costFrom_35 at h
  refine fx_aload_n dX12_costFrom_35 rfl rfl ?_
  refine fx_iload_n dX12_costFrom_36 rfl rfl ?_
  refine fx_iconst (x := 4) dX12_costFrom_37 rfl (by decide) ?_
  obtain ⟨p1, ep1, h⟩ := xBind_el h
  refine gx_callv (as := [.int a1, .int (4 : Int32)]) (r := []) rfl dX12_costFrom_38 ca_12_103 rfl me_34 rfl rfl rfl rfl (ha0.1) rfl (fX12_linkOf_ok (d := d) (by omega) ha0 ep1) rfl rfl ?_
  refine fx_goto (t := 45) dX12_costFrom_41 rfl rfl ?_
  exact fX12_costFrom_45_ok (o4 := o4) hd ha0 q4 h
def fX12_costFrom_44 (a0 : Nat) (a1 : Int32) (a2 : Int32) (a3 : Int32) (m : xMem) : Option (Int32 × xMem) := fX12_costFrom_45 a0 a1 a2 a3 (-1 : Int32) m
set_option maxRecDepth 4000 in
theorem fX12_costFrom_44_ok {a0 : Nat} {a1 : Int32} {a2 : Int32} {a3 : Int32} {d : Nat} (hd : 2 ≤ d) (ha0 : isModel a0) {o4 : Option Value} {m : xMem} {r : (Int32 × xMem)} (q4 : xNoD o4 = true) (h : fX12_costFrom_44 a0 a1 a2 a3 m = some r) : xFx hh_177 cX12_costFrom d 44 [some (.ref a0), some (.int a1), some (.int a2), some (.int a3), o4] [] (xLay m) 0 0 (some (.int r.1)) (xLay r.2) := by
  unfold fX12_costFrom_44 at h
  refine fx_iconst (x := -1) dX12_costFrom_44 rfl (by decide) ?_
  exact fX12_costFrom_45_ok (o4 := o4) hd ha0 q4 h
def fX12_costFrom_133 (a0 : Nat) (a1 : Int32) (a2 : Int32) (a3 : Int32) (s0 : Int32) (m : xMem) : Option (Int32 × xMem) := some (s0, m)
set_option maxRecDepth 4000 in
theorem fX12_costFrom_133_ok {a0 : Nat} {a1 : Int32} {a2 : Int32} {a3 : Int32} {d : Nat} (hd : 2 ≤ d) (ha0 : isModel a0) {s0 : Int32} {o4 : Option Value} {m : xMem} {r : (Int32 × xMem)} (q4 : xNoD o4 = true) (h : fX12_costFrom_133 a0 a1 a2 a3 s0 m = some r) : xFx hh_177 cX12_costFrom d 133 [some (.ref a0), some (.int a1), some (.int a2), some (.int a3), o4] [.int s0] (xLay m) 0 0 (some (.int r.1)) (xLay r.2) := by
  unfold fX12_costFrom_133 at h
  cases h
  exact fx_ireturn dX12_costFrom_133 rfl rfl
def fX12_costFrom_132 (a0 : Nat) (a1 : Int32) (a2 : Int32) (a3 : Int32) (m : xMem) : Option (Int32 × xMem) := fX12_costFrom_133 a0 a1 a2 a3 (-1 : Int32) m
set_option maxRecDepth 4000 in
theorem fX12_costFrom_132_ok {a0 : Nat} {a1 : Int32} {a2 : Int32} {a3 : Int32} {d : Nat} (hd : 2 ≤ d) (ha0 : isModel a0) {o4 : Option Value} {m : xMem} {r : (Int32 × xMem)} (q4 : xNoD o4 = true) (h : fX12_costFrom_132 a0 a1 a2 a3 m = some r) : xFx hh_177 cX12_costFrom d 132 [some (.ref a0), some (.int a1), some (.int a2), some (.int a3), o4] [] (xLay m) 0 0 (some (.int r.1)) (xLay r.2) := by
  unfold fX12_costFrom_132 at h
  refine fx_iconst (x := -1) dX12_costFrom_132 rfl (by decide) ?_
  exact fX12_costFrom_133_ok (o4 := o4) hd ha0 q4 h
def fX12_costFrom_98 (a0 : Nat) (a1 : Int32) (a2 : Int32) (a3 : Int32) (s0 : Int32) (m : xMem) : Option (Int32 × xMem) := if s0 = (0 : Int32) then fX12_costFrom_132 a0 a1 a2 a3 m else (fX12_footOf a0 a1 m).bind fun p2 => if ¬ p2.1 = a2 then fX12_costFrom_132 a0 a1 a2 a3 p2.2 else (fX12_linkOf a0 a1 (3 : Int32) p2.2).bind fun p4 => (fX12_linkOf a0 a1 (0 : Int32) p4.2).bind fun p5 => xLet ((1 : Int32) + p5.1) fun x6 => xLet (p4.1 * x6) fun x7 => fX12_costFrom_133 a0 a1 a2 a3 x7 p5.2
set_option maxRecDepth 4000 in
theorem fX12_costFrom_98_ok {a0 : Nat} {a1 : Int32} {a2 : Int32} {a3 : Int32} {d : Nat} (hd : 2 ≤ d) (ha0 : isModel a0) {s0 : Int32} {o4 : Option Value} {m : xMem} {r : (Int32 × xMem)} (q4 : xNoD o4 = true) (h : fX12_costFrom_98 a0 a1 a2 a3 s0 m = some r) : xFx hh_177 cX12_costFrom d 98 [some (.ref a0), some (.int a1), some (.int a2), some (.int a3), o4] [.int s0] (xLay m) 0 0 (some (.int r.1)) (xLay r.2) := by
  unfold fX12_costFrom_98 at h
  refine fx_istore (ls2 := [some (.ref a0), some (.int a1), some (.int a2), some (.int a3), some (.int s0)]) dX12_costFrom_98 rfl rfl rfl ?_
  refine fx_iload dX12_costFrom_100 rfl rfl ?_
  refine fx_if_eq (t := 132) dX12_costFrom_102 rfl rfl (fun hc1 => ?_) (fun hc1 => ?_)
  · rw [if_pos hc1] at h
    exact fX12_costFrom_132_ok (o4 := some (.int s0)) hd ha0 rfl h
  · rw [if_neg hc1] at h
    refine fx_aload_n dX12_costFrom_105 rfl rfl ?_
    refine fx_iload_n dX12_costFrom_106 rfl rfl ?_
    obtain ⟨p2, ep2, h⟩ := xBind_el h
    refine gx_callv (as := [.int a1]) (r := []) rfl dX12_costFrom_107 ca_12_304 rfl me_178 rfl rfl rfl rfl (ha0.1) rfl (fX12_footOf_ok (d := d) (by omega) ha0 ep2) rfl rfl ?_
    refine fx_iload_n dX12_costFrom_110 rfl rfl ?_
    refine fx_icmp_ne (t := 132) dX12_costFrom_111 rfl rfl (fun hc3 => ?_) (fun hc3 => ?_)
    · rw [if_pos hc3] at h
      exact fX12_costFrom_132_ok (o4 := some (.int s0)) hd ha0 rfl h
    · rw [if_neg hc3] at h
      refine fx_aload_n dX12_costFrom_114 rfl rfl ?_
      refine fx_iload_n dX12_costFrom_115 rfl rfl ?_
      refine fx_iconst (x := 3) dX12_costFrom_116 rfl (by decide) ?_
      obtain ⟨p4, ep4, h⟩ := xBind_el h
      refine gx_callv (as := [.int a1, .int (3 : Int32)]) (r := []) rfl dX12_costFrom_117 ca_12_103 rfl me_34 rfl rfl rfl rfl (ha0.1) rfl (fX12_linkOf_ok (d := d) (by omega) ha0 ep4) rfl rfl ?_
      refine fx_iconst (x := 1) dX12_costFrom_120 rfl (by decide) ?_
      refine fx_aload_n dX12_costFrom_121 rfl rfl ?_
      refine fx_iload_n dX12_costFrom_122 rfl rfl ?_
      refine fx_iconst (x := 0) dX12_costFrom_123 rfl (by decide) ?_
      obtain ⟨p5, ep5, h⟩ := xBind_el h
      refine gx_callv (as := [.int a1, .int (0 : Int32)]) (r := [.int (1 : Int32), .int p4.1]) rfl dX12_costFrom_124 ca_12_103 rfl me_34 rfl rfl rfl rfl (ha0.1) rfl (fX12_linkOf_ok (d := d) (by omega) ha0 ep5) rfl rfl ?_
      obtain ⟨x6, hx6, h⟩ := xLet_el h
      refine fx_iadd dX12_costFrom_127 rfl hx6 ?_
      obtain ⟨x7, hx7, h⟩ := xLet_el h
      refine fx_imul dX12_costFrom_128 rfl hx7 ?_
      refine fx_goto (t := 133) dX12_costFrom_129 rfl rfl ?_
      exact fX12_costFrom_133_ok (o4 := some (.int s0)) hd ha0 rfl h
def fX12_costFrom_97 (a0 : Nat) (a1 : Int32) (a2 : Int32) (a3 : Int32) (m : xMem) : Option (Int32 × xMem) := fX12_costFrom_98 a0 a1 a2 a3 (0 : Int32) m
set_option maxRecDepth 4000 in
theorem fX12_costFrom_97_ok {a0 : Nat} {a1 : Int32} {a2 : Int32} {a3 : Int32} {d : Nat} (hd : 2 ≤ d) (ha0 : isModel a0) {o4 : Option Value} {m : xMem} {r : (Int32 × xMem)} (q4 : xNoD o4 = true) (h : fX12_costFrom_97 a0 a1 a2 a3 m = some r) : xFx hh_177 cX12_costFrom d 97 [some (.ref a0), some (.int a1), some (.int a2), some (.int a3), o4] [] (xLay m) 0 0 (some (.int r.1)) (xLay r.2) := by
  unfold fX12_costFrom_97 at h
  refine fx_iconst (x := 0) dX12_costFrom_97 rfl (by decide) ?_
  exact fX12_costFrom_98_ok (o4 := o4) hd ha0 q4 h
def fX12_costFrom_0 (a0 : Nat) (a1 : Int32) (a2 : Int32) (a3 : Int32) (m : xMem) : Option (Int32 × xMem) := if ¬ a3 = (1 : Int32) then (fX12_linkOf a0 a1 (0 : Int32) m).bind fun p2 => if (2 : Int32) ≤ p2.1 then fX12_costFrom_97 a0 a1 a2 a3 p2.2 else (fX12_linkOf a0 a1 (6 : Int32) p2.2).bind fun p4 => if ¬ p4.1 = (1 : Int32) then fX12_costFrom_97 a0 a1 a2 a3 p4.2 else (fX12_linkOf a0 a1 (9 : Int32) p4.2).bind fun p6 => if ¬ p6.1 = (0 : Int32) then fX12_costFrom_97 a0 a1 a2 a3 p6.2 else (fX12_linkOf a0 a1 (7 : Int32) p6.2).bind fun p8 => (fX12_linkOf a0 a1 (5 : Int32) p8.2).bind fun p9 => if ¬ p8.1 = p9.1 then fX12_costFrom_97 a0 a1 a2 a3 p9.2 else fX12_costFrom_98 a0 a1 a2 a3 (1 : Int32) p9.2 else (fX12_linkOf a0 a1 (0 : Int32) m).bind fun p11 => if ¬ p11.1 = (2 : Int32) then fX12_costFrom_44 a0 a1 a2 a3 p11.2 else (fX12_linkOf a0 a1 (1 : Int32) p11.2).bind fun p13 => if p13.1 = a2 then fX12_costFrom_35 a0 a1 a2 a3 p13.2 else (fX12_linkOf a0 a1 (2 : Int32) p13.2).bind fun p15 => if ¬ p15.1 = a2 then fX12_costFrom_44 a0 a1 a2 a3 p15.2 else fX12_costFrom_35 a0 a1 a2 a3 p15.2
set_option maxRecDepth 4000 in
theorem fX12_costFrom_0_ok {a0 : Nat} {a1 : Int32} {a2 : Int32} {a3 : Int32} {d : Nat} (hd : 2 ≤ d) (ha0 : isModel a0) {o4 : Option Value} {m : xMem} {r : (Int32 × xMem)} (q4 : xNoD o4 = true) (h : fX12_costFrom_0 a0 a1 a2 a3 m = some r) : xFx hh_177 cX12_costFrom d 0 [some (.ref a0), some (.int a1), some (.int a2), some (.int a3), o4] [] (xLay m) 0 0 (some (.int r.1)) (xLay r.2) := by
  unfold fX12_costFrom_0 at h
  refine fx_iload_n dX12_costFrom_0 rfl rfl ?_
  refine fx_iconst (x := 1) dX12_costFrom_1 rfl (by decide) ?_
  refine fx_icmp_ne (t := 46) dX12_costFrom_2 rfl rfl (fun hc1 => ?_) (fun hc1 => ?_)
  · rw [if_pos hc1] at h
    refine fx_aload_n dX12_costFrom_46 rfl rfl ?_
    refine fx_iload_n dX12_costFrom_47 rfl rfl ?_
    refine fx_iconst (x := 0) dX12_costFrom_48 rfl (by decide) ?_
    obtain ⟨p2, ep2, h⟩ := xBind_el h
    refine gx_callv (as := [.int a1, .int (0 : Int32)]) (r := []) rfl dX12_costFrom_49 ca_12_103 rfl me_34 rfl rfl rfl rfl (ha0.1) rfl (fX12_linkOf_ok (d := d) (by omega) ha0 ep2) rfl rfl ?_
    refine fx_iconst (x := 2) dX12_costFrom_52 rfl (by decide) ?_
    refine fx_icmp_ge (t := 97) dX12_costFrom_53 rfl rfl (fun hc3 => ?_) (fun hc3 => ?_)
    · rw [if_pos hc3] at h
      exact fX12_costFrom_97_ok (o4 := o4) hd ha0 q4 h
    · rw [if_neg hc3] at h
      refine fx_aload_n dX12_costFrom_56 rfl rfl ?_
      refine fx_iload_n dX12_costFrom_57 rfl rfl ?_
      refine fx_bipush (x := 6) dX12_costFrom_58 rfl (by decide) ?_
      obtain ⟨p4, ep4, h⟩ := xBind_el h
      refine gx_callv (as := [.int a1, .int (6 : Int32)]) (r := []) rfl dX12_costFrom_60 ca_12_103 rfl me_34 rfl rfl rfl rfl (ha0.1) rfl (fX12_linkOf_ok (d := d) (by omega) ha0 ep4) rfl rfl ?_
      refine fx_iconst (x := 1) dX12_costFrom_63 rfl (by decide) ?_
      refine fx_icmp_ne (t := 97) dX12_costFrom_64 rfl rfl (fun hc5 => ?_) (fun hc5 => ?_)
      · rw [if_pos hc5] at h
        exact fX12_costFrom_97_ok (o4 := o4) hd ha0 q4 h
      · rw [if_neg hc5] at h
        refine fx_aload_n dX12_costFrom_67 rfl rfl ?_
        refine fx_iload_n dX12_costFrom_68 rfl rfl ?_
        refine fx_bipush (x := 9) dX12_costFrom_69 rfl (by decide) ?_
        obtain ⟨p6, ep6, h⟩ := xBind_el h
        refine gx_callv (as := [.int a1, .int (9 : Int32)]) (r := []) rfl dX12_costFrom_71 ca_12_103 rfl me_34 rfl rfl rfl rfl (ha0.1) rfl (fX12_linkOf_ok (d := d) (by omega) ha0 ep6) rfl rfl ?_
        refine fx_if_ne (t := 97) dX12_costFrom_74 rfl rfl (fun hc7 => ?_) (fun hc7 => ?_)
        · rw [if_pos hc7] at h
          exact fX12_costFrom_97_ok (o4 := o4) hd ha0 q4 h
        · rw [if_neg hc7] at h
          refine fx_aload_n dX12_costFrom_77 rfl rfl ?_
          refine fx_iload_n dX12_costFrom_78 rfl rfl ?_
          refine fx_bipush (x := 7) dX12_costFrom_79 rfl (by decide) ?_
          obtain ⟨p8, ep8, h⟩ := xBind_el h
          refine gx_callv (as := [.int a1, .int (7 : Int32)]) (r := []) rfl dX12_costFrom_81 ca_12_103 rfl me_34 rfl rfl rfl rfl (ha0.1) rfl (fX12_linkOf_ok (d := d) (by omega) ha0 ep8) rfl rfl ?_
          refine fx_aload_n dX12_costFrom_84 rfl rfl ?_
          refine fx_iload_n dX12_costFrom_85 rfl rfl ?_
          refine fx_iconst (x := 5) dX12_costFrom_86 rfl (by decide) ?_
          obtain ⟨p9, ep9, h⟩ := xBind_el h
          refine gx_callv (as := [.int a1, .int (5 : Int32)]) (r := [.int p8.1]) rfl dX12_costFrom_87 ca_12_103 rfl me_34 rfl rfl rfl rfl (ha0.1) rfl (fX12_linkOf_ok (d := d) (by omega) ha0 ep9) rfl rfl ?_
          refine fx_icmp_ne (t := 97) dX12_costFrom_90 rfl rfl (fun hc10 => ?_) (fun hc10 => ?_)
          · rw [if_pos hc10] at h
            exact fX12_costFrom_97_ok (o4 := o4) hd ha0 q4 h
          · rw [if_neg hc10] at h
            refine fx_iconst (x := 1) dX12_costFrom_93 rfl (by decide) ?_
            refine fx_goto (t := 98) dX12_costFrom_94 rfl rfl ?_
            exact fX12_costFrom_98_ok (o4 := o4) hd ha0 q4 h
  · rw [if_neg hc1] at h
    refine fx_aload_n dX12_costFrom_5 rfl rfl ?_
    refine fx_iload_n dX12_costFrom_6 rfl rfl ?_
    refine fx_iconst (x := 0) dX12_costFrom_7 rfl (by decide) ?_
    obtain ⟨p11, ep11, h⟩ := xBind_el h
    refine gx_callv (as := [.int a1, .int (0 : Int32)]) (r := []) rfl dX12_costFrom_8 ca_12_103 rfl me_34 rfl rfl rfl rfl (ha0.1) rfl (fX12_linkOf_ok (d := d) (by omega) ha0 ep11) rfl rfl ?_
    refine fx_iconst (x := 2) dX12_costFrom_11 rfl (by decide) ?_
    refine fx_icmp_ne (t := 44) dX12_costFrom_12 rfl rfl (fun hc12 => ?_) (fun hc12 => ?_)
    · rw [if_pos hc12] at h
      exact fX12_costFrom_44_ok (o4 := o4) hd ha0 q4 h
    · rw [if_neg hc12] at h
      refine fx_aload_n dX12_costFrom_15 rfl rfl ?_
      refine fx_iload_n dX12_costFrom_16 rfl rfl ?_
      refine fx_iconst (x := 1) dX12_costFrom_17 rfl (by decide) ?_
      obtain ⟨p13, ep13, h⟩ := xBind_el h
      refine gx_callv (as := [.int a1, .int (1 : Int32)]) (r := []) rfl dX12_costFrom_18 ca_12_103 rfl me_34 rfl rfl rfl rfl (ha0.1) rfl (fX12_linkOf_ok (d := d) (by omega) ha0 ep13) rfl rfl ?_
      refine fx_iload_n dX12_costFrom_21 rfl rfl ?_
      refine fx_icmp_eq (t := 35) dX12_costFrom_22 rfl rfl (fun hc14 => ?_) (fun hc14 => ?_)
      · rw [if_pos hc14] at h
        exact fX12_costFrom_35_ok (o4 := o4) hd ha0 q4 h
      · rw [if_neg hc14] at h
        refine fx_aload_n dX12_costFrom_25 rfl rfl ?_
        refine fx_iload_n dX12_costFrom_26 rfl rfl ?_
        refine fx_iconst (x := 2) dX12_costFrom_27 rfl (by decide) ?_
        obtain ⟨p15, ep15, h⟩ := xBind_el h
        refine gx_callv (as := [.int a1, .int (2 : Int32)]) (r := []) rfl dX12_costFrom_28 ca_12_103 rfl me_34 rfl rfl rfl rfl (ha0.1) rfl (fX12_linkOf_ok (d := d) (by omega) ha0 ep15) rfl rfl ?_
        refine fx_iload_n dX12_costFrom_31 rfl rfl ?_
        refine fx_icmp_ne (t := 44) dX12_costFrom_32 rfl rfl (fun hc16 => ?_) (fun hc16 => ?_)
        · rw [if_pos hc16] at h
          exact fX12_costFrom_44_ok (o4 := o4) hd ha0 q4 h
        · rw [if_neg hc16] at h
          exact fX12_costFrom_35_ok (o4 := o4) hd ha0 q4 h
def fX12_costFrom (a0 : Nat) (a1 : Int32) (a2 : Int32) (a3 : Int32) (m : xMem) : Option (Int32 × xMem) := fX12_costFrom_0 a0 a1 a2 a3  m
theorem fX12_costFrom_ok {a0 : Nat} {a1 : Int32} {a2 : Int32} {a3 : Int32} {m : xMem} {r : (Int32 × xMem)} {d : Nat} (hd : 3 ≤ d) (ha0 : isModel a0) (h : fX12_costFrom a0 a1 a2 a3 m = some r) : xEx d 177 [.ref a0, .int a1, .int a2, .int a3] (xLay m) (some (.int r.1)) (xLay r.2) := by
  obtain ⟨d, rfl⟩ : ∃ q, d = q + 1 := ⟨d - 1, by omega⟩
  exact xEx_of me_177 rfl (fX12_costFrom_0_ok (d := d) (o4 := none) (by omega) ha0 rfl h)
def fX12_otherEnd_25 (a0 : Nat) (a1 : Int32) (a2 : Int32) (s0 : Int32) (m : xMem) : Option (Int32 × xMem) := some (s0, m)
set_option maxRecDepth 4000 in
theorem fX12_otherEnd_25_ok {a0 : Nat} {a1 : Int32} {a2 : Int32} {d : Nat} (hd : 1 ≤ d) (ha0 : isModel a0) {s0 : Int32} {m : xMem} {r : (Int32 × xMem)} (h : fX12_otherEnd_25 a0 a1 a2 s0 m = some r) : xFx hh_179 cX12_otherEnd d 25 [some (.ref a0), some (.int a1), some (.int a2)] [.int s0] (xLay m) 0 0 (some (.int r.1)) (xLay r.2) := by
  unfold fX12_otherEnd_25 at h
  cases h
  exact fx_ireturn dX12_otherEnd_25 rfl rfl
def fX12_otherEnd_0 (a0 : Nat) (a1 : Int32) (a2 : Int32) (m : xMem) : Option (Int32 × xMem) := (fX12_linkOf a0 a1 (1 : Int32) m).bind fun p1 => if ¬ p1.1 = a2 then (fX12_linkOf a0 a1 (1 : Int32) p1.2).bind fun p3 => fX12_otherEnd_25 a0 a1 a2 p3.1 p3.2 else (fX12_linkOf a0 a1 (2 : Int32) p1.2).bind fun p4 => fX12_otherEnd_25 a0 a1 a2 p4.1 p4.2
set_option maxRecDepth 4000 in
theorem fX12_otherEnd_0_ok {a0 : Nat} {a1 : Int32} {a2 : Int32} {d : Nat} (hd : 1 ≤ d) (ha0 : isModel a0) {m : xMem} {r : (Int32 × xMem)} (h : fX12_otherEnd_0 a0 a1 a2 m = some r) : xFx hh_179 cX12_otherEnd d 0 [some (.ref a0), some (.int a1), some (.int a2)] [] (xLay m) 0 0 (some (.int r.1)) (xLay r.2) := by
  unfold fX12_otherEnd_0 at h
  refine fx_aload_n dX12_otherEnd_0 rfl rfl ?_
  refine fx_iload_n dX12_otherEnd_1 rfl rfl ?_
  refine fx_iconst (x := 1) dX12_otherEnd_2 rfl (by decide) ?_
  obtain ⟨p1, ep1, h⟩ := xBind_el h
  refine gx_callv (as := [.int a1, .int (1 : Int32)]) (r := []) rfl dX12_otherEnd_3 ca_12_103 rfl me_34 rfl rfl rfl rfl (ha0.1) rfl (fX12_linkOf_ok (d := d) (by omega) ha0 ep1) rfl rfl ?_
  refine fx_iload_n dX12_otherEnd_6 rfl rfl ?_
  refine fx_icmp_ne (t := 19) dX12_otherEnd_7 rfl rfl (fun hc2 => ?_) (fun hc2 => ?_)
  · rw [if_pos hc2] at h
    refine fx_aload_n dX12_otherEnd_19 rfl rfl ?_
    refine fx_iload_n dX12_otherEnd_20 rfl rfl ?_
    refine fx_iconst (x := 1) dX12_otherEnd_21 rfl (by decide) ?_
    obtain ⟨p3, ep3, h⟩ := xBind_el h
    refine gx_callv (as := [.int a1, .int (1 : Int32)]) (r := []) rfl dX12_otherEnd_22 ca_12_103 rfl me_34 rfl rfl rfl rfl (ha0.1) rfl (fX12_linkOf_ok (d := d) (by omega) ha0 ep3) rfl rfl ?_
    exact fX12_otherEnd_25_ok hd ha0 h
  · rw [if_neg hc2] at h
    refine fx_aload_n dX12_otherEnd_10 rfl rfl ?_
    refine fx_iload_n dX12_otherEnd_11 rfl rfl ?_
    refine fx_iconst (x := 2) dX12_otherEnd_12 rfl (by decide) ?_
    obtain ⟨p4, ep4, h⟩ := xBind_el h
    refine gx_callv (as := [.int a1, .int (2 : Int32)]) (r := []) rfl dX12_otherEnd_13 ca_12_103 rfl me_34 rfl rfl rfl rfl (ha0.1) rfl (fX12_linkOf_ok (d := d) (by omega) ha0 ep4) rfl rfl ?_
    refine fx_goto (t := 25) dX12_otherEnd_16 rfl rfl ?_
    exact fX12_otherEnd_25_ok hd ha0 h
def fX12_otherEnd (a0 : Nat) (a1 : Int32) (a2 : Int32) (m : xMem) : Option (Int32 × xMem) := fX12_otherEnd_0 a0 a1 a2  m
theorem fX12_otherEnd_ok {a0 : Nat} {a1 : Int32} {a2 : Int32} {m : xMem} {r : (Int32 × xMem)} {d : Nat} (hd : 2 ≤ d) (ha0 : isModel a0) (h : fX12_otherEnd a0 a1 a2 m = some r) : xEx d 179 [.ref a0, .int a1, .int a2] (xLay m) (some (.int r.1)) (xLay r.2) := by
  obtain ⟨d, rfl⟩ : ∃ q, d = q + 1 := ⟨d - 1, by omega⟩
  exact xEx_of me_179 rfl (fX12_otherEnd_0_ok (d := d) (by omega) ha0 h)
