theorem dX12_carries_0 : decode cX12_carries 0 = .ok (.iconst 0, 1) := by decide +kernel
theorem dX12_carries_1 : decode cX12_carries 1 = .ok (.istore 5, 2) := by decide +kernel
theorem dX12_carries_3 : decode cX12_carries 3 = .ok (.iload 5, 2) := by decide +kernel
theorem dX12_carries_5 : decode cX12_carries 5 = .ok (.bipush 80, 2) := by decide +kernel
theorem dX12_carries_7 : decode cX12_carries 7 = .ok (.if_icmp .ge 17, 3) := by decide +kernel
theorem dX12_carries_10 : decode cX12_carries 10 = .ok (.aload_n 0, 1) := by decide +kernel
theorem dX12_carries_11 : decode cX12_carries 11 = .ok (.getfield 86, 3) := by decide +kernel
theorem dX12_carries_14 : decode cX12_carries 14 = .ok (.iload 5, 2) := by decide +kernel
theorem dX12_carries_16 : decode cX12_carries 16 = .ok (.iconst 0, 1) := by decide +kernel
theorem dX12_carries_17 : decode cX12_carries 17 = .ok (.iastore, 1) := by decide +kernel
theorem dX12_carries_18 : decode cX12_carries 18 = .ok (.iinc 5 1, 3) := by decide +kernel
theorem dX12_carries_21 : decode cX12_carries 21 = .ok (.goto (-18), 3) := by decide +kernel
theorem dX12_carries_24 : decode cX12_carries 24 = .ok (.iconst 0, 1) := by decide +kernel
theorem dX12_carries_25 : decode cX12_carries 25 = .ok (.istore 5, 2) := by decide +kernel
theorem dX12_carries_27 : decode cX12_carries 27 = .ok (.iconst 0, 1) := by decide +kernel
theorem dX12_carries_28 : decode cX12_carries 28 = .ok (.istore 6, 2) := by decide +kernel
theorem dX12_carries_30 : decode cX12_carries 30 = .ok (.iconst 0, 1) := by decide +kernel
theorem dX12_carries_31 : decode cX12_carries 31 = .ok (.istore 7, 2) := by decide +kernel
theorem dX12_carries_33 : decode cX12_carries 33 = .ok (.iload 7, 2) := by decide +kernel
theorem dX12_carries_35 : decode cX12_carries 35 = .ok (.iload 4, 2) := by decide +kernel
theorem dX12_carries_37 : decode cX12_carries 37 = .ok (.if_icmp .ge 161, 3) := by decide +kernel
theorem dX12_carries_40 : decode cX12_carries 40 = .ok (.iload 5, 2) := by decide +kernel
theorem dX12_carries_42 : decode cX12_carries 42 = .ok (.aload_n 0, 1) := by decide +kernel
theorem dX12_carries_43 : decode cX12_carries 43 = .ok (.iload_n 1, 1) := by decide +kernel
theorem dX12_carries_44 : decode cX12_carries 44 = .ok (.iconst 0, 1) := by decide +kernel
theorem dX12_carries_45 : decode cX12_carries 45 = .ok (.invokevirtual 402, 3) := by decide +kernel
theorem dX12_carries_48 : decode cX12_carries 48 = .ok (.aload_n 0, 1) := by decide +kernel
theorem dX12_carries_49 : decode cX12_carries 49 = .ok (.iload_n 1, 1) := by decide +kernel
theorem dX12_carries_50 : decode cX12_carries 50 = .ok (.iconst 1, 1) := by decide +kernel
theorem dX12_carries_51 : decode cX12_carries 51 = .ok (.invokevirtual 402, 3) := by decide +kernel
theorem dX12_carries_54 : decode cX12_carries 54 = .ok (.iadd, 1) := by decide +kernel
theorem dX12_carries_55 : decode cX12_carries 55 = .ok (.iadd, 1) := by decide +kernel
theorem dX12_carries_56 : decode cX12_carries 56 = .ok (.istore 5, 2) := by decide +kernel
theorem dX12_carries_58 : decode cX12_carries 58 = .ok (.iconst 1, 1) := by decide +kernel
theorem dX12_carries_59 : decode cX12_carries 59 = .ok (.istore 8, 2) := by decide +kernel
theorem dX12_carries_61 : decode cX12_carries 61 = .ok (.iconst 0, 1) := by decide +kernel
theorem dX12_carries_62 : decode cX12_carries 62 = .ok (.istore 9, 2) := by decide +kernel
theorem dX12_carries_64 : decode cX12_carries 64 = .ok (.iload 9, 2) := by decide +kernel
theorem dX12_carries_66 : decode cX12_carries 66 = .ok (.iconst 2, 1) := by decide +kernel
theorem dX12_carries_67 : decode cX12_carries 67 = .ok (.if_icmp .ge 125, 3) := by decide +kernel
theorem dX12_carries_70 : decode cX12_carries 70 = .ok (.iload 8, 2) := by decide +kernel
theorem dX12_carries_72 : decode cX12_carries 72 = .ok (.ifCond .eq 120, 3) := by decide +kernel
theorem dX12_carries_75 : decode cX12_carries 75 = .ok (.iload_n 3, 1) := by decide +kernel
theorem dX12_carries_76 : decode cX12_carries 76 = .ok (.ifCond .ne 26, 3) := by decide +kernel
theorem dX12_carries_79 : decode cX12_carries 79 = .ok (.iload_n 2, 1) := by decide +kernel
theorem dX12_carries_80 : decode cX12_carries 80 = .ok (.iload 6, 2) := by decide +kernel
theorem dX12_carries_82 : decode cX12_carries 82 = .ok (.iconst 1, 1) := by decide +kernel
theorem dX12_carries_83 : decode cX12_carries 83 = .ok (.iadd, 1) := by decide +kernel
theorem dX12_carries_84 : decode cX12_carries 84 = .ok (.imul, 1) := by decide +kernel
theorem dX12_carries_85 : decode cX12_carries 85 = .ok (.bipush 10, 2) := by decide +kernel
theorem dX12_carries_87 : decode cX12_carries 87 = .ok (.idiv, 1) := by decide +kernel
theorem dX12_carries_88 : decode cX12_carries 88 = .ok (.iload_n 2, 1) := by decide +kernel
theorem dX12_carries_89 : decode cX12_carries 89 = .ok (.iload 6, 2) := by decide +kernel
theorem dX12_carries_91 : decode cX12_carries 91 = .ok (.imul, 1) := by decide +kernel
theorem dX12_carries_92 : decode cX12_carries 92 = .ok (.bipush 10, 2) := by decide +kernel
theorem dX12_carries_94 : decode cX12_carries 94 = .ok (.idiv, 1) := by decide +kernel
theorem dX12_carries_95 : decode cX12_carries 95 = .ok (.if_icmp .le 7, 3) := by decide +kernel
theorem dX12_carries_98 : decode cX12_carries 98 = .ok (.iconst 1, 1) := by decide +kernel
theorem dX12_carries_99 : decode cX12_carries 99 = .ok (.goto 4, 3) := by decide +kernel
theorem dX12_carries_102 : decode cX12_carries 102 = .ok (.iconst 0, 1) := by decide +kernel
theorem dX12_carries_103 : decode cX12_carries 103 = .ok (.istore 10, 2) := by decide +kernel
theorem dX12_carries_105 : decode cX12_carries 105 = .ok (.iload_n 3, 1) := by decide +kernel
theorem dX12_carries_106 : decode cX12_carries 106 = .ok (.ifCond .ne 16, 3) := by decide +kernel
theorem dX12_carries_109 : decode cX12_carries 109 = .ok (.iload 10, 2) := by decide +kernel
theorem dX12_carries_111 : decode cX12_carries 111 = .ok (.ifCond .eq 7, 3) := by decide +kernel
theorem dX12_carries_114 : decode cX12_carries 114 = .ok (.iconst 1, 1) := by decide +kernel
theorem dX12_carries_115 : decode cX12_carries 115 = .ok (.goto 21, 3) := by decide +kernel
theorem dX12_carries_118 : decode cX12_carries 118 = .ok (.iconst 0, 1) := by decide +kernel
theorem dX12_carries_119 : decode cX12_carries 119 = .ok (.goto 17, 3) := by decide +kernel
theorem dX12_carries_122 : decode cX12_carries 122 = .ok (.aload_n 0, 1) := by decide +kernel
theorem dX12_carries_123 : decode cX12_carries 123 = .ok (.getfield 86, 3) := by decide +kernel
theorem dX12_carries_126 : decode cX12_carries 126 = .ok (.iconst 0, 1) := by decide +kernel
theorem dX12_carries_127 : decode cX12_carries 127 = .ok (.iaload, 1) := by decide +kernel
theorem dX12_carries_128 : decode cX12_carries 128 = .ok (.ifCond .le 7, 3) := by decide +kernel
theorem dX12_carries_131 : decode cX12_carries 131 = .ok (.iconst 1, 1) := by decide +kernel
theorem dX12_carries_132 : decode cX12_carries 132 = .ok (.goto 4, 3) := by decide +kernel
theorem dX12_carries_135 : decode cX12_carries 135 = .ok (.iconst 0, 1) := by decide +kernel
theorem dX12_carries_136 : decode cX12_carries 136 = .ok (.istore 11, 2) := by decide +kernel
theorem dX12_carries_138 : decode cX12_carries 138 = .ok (.aload_n 0, 1) := by decide +kernel
theorem dX12_carries_139 : decode cX12_carries 139 = .ok (.getfield 86, 3) := by decide +kernel
theorem dX12_carries_142 : decode cX12_carries 142 = .ok (.bipush 40, 2) := by decide +kernel
theorem dX12_carries_144 : decode cX12_carries 144 = .ok (.iload 11, 2) := by decide +kernel
theorem dX12_carries_146 : decode cX12_carries 146 = .ok (.imul, 1) := by decide +kernel
theorem dX12_carries_147 : decode cX12_carries 147 = .ok (.iaload, 1) := by decide +kernel
theorem dX12_carries_148 : decode cX12_carries 148 = .ok (.ifCond .ne 7, 3) := by decide +kernel
theorem dX12_carries_151 : decode cX12_carries 151 = .ok (.iconst 1, 1) := by decide +kernel
theorem dX12_carries_152 : decode cX12_carries 152 = .ok (.goto 4, 3) := by decide +kernel
theorem dX12_carries_155 : decode cX12_carries 155 = .ok (.iconst 0, 1) := by decide +kernel
theorem dX12_carries_156 : decode cX12_carries 156 = .ok (.istore 8, 2) := by decide +kernel
theorem dX12_carries_158 : decode cX12_carries 158 = .ok (.iload 8, 2) := by decide +kernel
theorem dX12_carries_160 : decode cX12_carries 160 = .ok (.ifCond .eq 26, 3) := by decide +kernel
theorem dX12_carries_163 : decode cX12_carries 163 = .ok (.aload_n 0, 1) := by decide +kernel
theorem dX12_carries_164 : decode cX12_carries 164 = .ok (.getfield 86, 3) := by decide +kernel
theorem dX12_carries_167 : decode cX12_carries 167 = .ok (.bipush 40, 2) := by decide +kernel
theorem dX12_carries_169 : decode cX12_carries 169 = .ok (.iload 11, 2) := by decide +kernel
theorem dX12_carries_171 : decode cX12_carries 171 = .ok (.imul, 1) := by decide +kernel
theorem dX12_carries_172 : decode cX12_carries 172 = .ok (.iload 10, 2) := by decide +kernel
theorem dX12_carries_174 : decode cX12_carries 174 = .ok (.ifCond .eq 7, 3) := by decide +kernel
theorem dX12_carries_177 : decode cX12_carries 177 = .ok (.iconst 2, 1) := by decide +kernel
theorem dX12_carries_178 : decode cX12_carries 178 = .ok (.goto 4, 3) := by decide +kernel
theorem dX12_carries_181 : decode cX12_carries 181 = .ok (.iconst 1, 1) := by decide +kernel
theorem dX12_carries_182 : decode cX12_carries 182 = .ok (.iastore, 1) := by decide +kernel
theorem dX12_carries_183 : decode cX12_carries 183 = .ok (.iinc 6 1, 3) := by decide +kernel
theorem dX12_carries_186 : decode cX12_carries 186 = .ok (.iinc 9 1, 3) := by decide +kernel
theorem dX12_carries_189 : decode cX12_carries 189 = .ok (.goto (-125), 3) := by decide +kernel
theorem dX12_carries_192 : decode cX12_carries 192 = .ok (.iinc 7 1, 3) := by decide +kernel
theorem dX12_carries_195 : decode cX12_carries 195 = .ok (.goto (-162), 3) := by decide +kernel
theorem dX12_carries_198 : decode cX12_carries 198 = .ok (.iload 5, 2) := by decide +kernel
theorem dX12_carries_200 : decode cX12_carries 200 = .ok (.ireturn, 1) := by decide +kernel
theorem dX12_alone_0 : decode cX12_alone 0 = .ok (.iload_n 1, 1) := by decide +kernel
theorem dX12_alone_1 : decode cX12_alone 1 = .ok (.iconst 2, 1) := by decide +kernel
theorem dX12_alone_2 : decode cX12_alone 2 = .ok (.bipush 40, 2) := by decide +kernel
theorem dX12_alone_4 : decode cX12_alone 4 = .ok (.invokestatic 95, 3) := by decide +kernel
theorem dX12_alone_7 : decode cX12_alone 7 = .ok (.ifCond .eq 46, 3) := by decide +kernel
theorem dX12_alone_10 : decode cX12_alone 10 = .ok (.iload_n 2, 1) := by decide +kernel
theorem dX12_alone_11 : decode cX12_alone 11 = .ok (.iconst 0, 1) := by decide +kernel
theorem dX12_alone_12 : decode cX12_alone 12 = .ok (.bipush 10, 2) := by decide +kernel
theorem dX12_alone_14 : decode cX12_alone 14 = .ok (.invokestatic 95, 3) := by decide +kernel
theorem dX12_alone_17 : decode cX12_alone 17 = .ok (.ifCond .eq 36, 3) := by decide +kernel
theorem dX12_alone_20 : decode cX12_alone 20 = .ok (.iload_n 3, 1) := by decide +kernel
theorem dX12_alone_21 : decode cX12_alone 21 = .ok (.iconst 0, 1) := by decide +kernel
theorem dX12_alone_22 : decode cX12_alone 22 = .ok (.iconst 1, 1) := by decide +kernel
theorem dX12_alone_23 : decode cX12_alone 23 = .ok (.invokestatic 95, 3) := by decide +kernel
theorem dX12_alone_26 : decode cX12_alone 26 = .ok (.ifCond .eq 27, 3) := by decide +kernel
theorem dX12_alone_29 : decode cX12_alone 29 = .ok (.iload 4, 2) := by decide +kernel
theorem dX12_alone_31 : decode cX12_alone 31 = .ok (.iconst 1, 1) := by decide +kernel
theorem dX12_alone_32 : decode cX12_alone 32 = .ok (.sipush 999, 3) := by decide +kernel
theorem dX12_alone_35 : decode cX12_alone 35 = .ok (.invokestatic 95, 3) := by decide +kernel
theorem dX12_alone_38 : decode cX12_alone 38 = .ok (.ifCond .eq 15, 3) := by decide +kernel
theorem dX12_alone_41 : decode cX12_alone 41 = .ok (.aload_n 0, 1) := by decide +kernel
theorem dX12_alone_42 : decode cX12_alone 42 = .ok (.iload_n 1, 1) := by decide +kernel
theorem dX12_alone_43 : decode cX12_alone 43 = .ok (.iload_n 2, 1) := by decide +kernel
theorem dX12_alone_44 : decode cX12_alone 44 = .ok (.iload_n 3, 1) := by decide +kernel
theorem dX12_alone_45 : decode cX12_alone 45 = .ok (.iload 4, 2) := by decide +kernel
theorem dX12_alone_47 : decode cX12_alone 47 = .ok (.invokevirtual 405, 3) := by decide +kernel
theorem dX12_alone_50 : decode cX12_alone 50 = .ok (.goto 4, 3) := by decide +kernel
theorem dX12_alone_53 : decode cX12_alone 53 = .ok (.iconst (-1), 1) := by decide +kernel
theorem dX12_alone_54 : decode cX12_alone 54 = .ok (.ireturn, 1) := by decide +kernel
theorem dX11_crossing_0 : decode cX11_crossing 0 = .ok (.iload_n 1, 1) := by decide +kernel
theorem dX11_crossing_1 : decode cX11_crossing 1 = .ok (.iload_n 2, 1) := by decide +kernel
theorem dX11_crossing_2 : decode cX11_crossing 2 = .ok (.invokestatic 261, 3) := by decide +kernel
theorem dX11_crossing_5 : decode cX11_crossing 5 = .ok (.ifCond .ne 5, 3) := by decide +kernel
theorem dX11_crossing_8 : decode cX11_crossing 8 = .ok (.iconst (-1), 1) := by decide +kernel
theorem dX11_crossing_9 : decode cX11_crossing 9 = .ok (.ireturn, 1) := by decide +kernel
theorem dX11_crossing_10 : decode cX11_crossing 10 = .ok (.aload_n 0, 1) := by decide +kernel
theorem dX11_crossing_11 : decode cX11_crossing 11 = .ok (.iload_n 1, 1) := by decide +kernel
theorem dX11_crossing_12 : decode cX11_crossing 12 = .ok (.iconst 0, 1) := by decide +kernel
theorem dX11_crossing_13 : decode cX11_crossing 13 = .ok (.iconst 1, 1) := by decide +kernel
theorem dX11_crossing_14 : decode cX11_crossing 14 = .ok (.iload_n 2, 1) := by decide +kernel
theorem dX11_crossing_15 : decode cX11_crossing 15 = .ok (.invokevirtual 265, 3) := by decide +kernel
theorem dX11_crossing_18 : decode cX11_crossing 18 = .ok (.istore_n 3, 1) := by decide +kernel
theorem dX11_crossing_19 : decode cX11_crossing 19 = .ok (.iconst 0, 1) := by decide +kernel
theorem dX11_crossing_20 : decode cX11_crossing 20 = .ok (.istore 4, 2) := by decide +kernel
theorem dX11_crossing_22 : decode cX11_crossing 22 = .ok (.iload 4, 2) := by decide +kernel
theorem dX11_crossing_24 : decode cX11_crossing 24 = .ok (.bipush 10, 2) := by decide +kernel
theorem dX11_crossing_26 : decode cX11_crossing 26 = .ok (.if_icmp .gt 25, 3) := by decide +kernel
theorem dX11_crossing_29 : decode cX11_crossing 29 = .ok (.aload_n 0, 1) := by decide +kernel
theorem dX11_crossing_30 : decode cX11_crossing 30 = .ok (.iload_n 1, 1) := by decide +kernel
theorem dX11_crossing_31 : decode cX11_crossing 31 = .ok (.iload 4, 2) := by decide +kernel
theorem dX11_crossing_33 : decode cX11_crossing 33 = .ok (.iconst 0, 1) := by decide +kernel
theorem dX11_crossing_34 : decode cX11_crossing 34 = .ok (.iload_n 2, 1) := by decide +kernel
theorem dX11_crossing_35 : decode cX11_crossing 35 = .ok (.invokevirtual 265, 3) := by decide +kernel
theorem dX11_crossing_38 : decode cX11_crossing 38 = .ok (.iload_n 3, 1) := by decide +kernel
theorem dX11_crossing_39 : decode cX11_crossing 39 = .ok (.if_icmp .lt 6, 3) := by decide +kernel
theorem dX11_crossing_42 : decode cX11_crossing 42 = .ok (.iload 4, 2) := by decide +kernel
theorem dX11_crossing_44 : decode cX11_crossing 44 = .ok (.ireturn, 1) := by decide +kernel
theorem dX11_crossing_45 : decode cX11_crossing 45 = .ok (.iinc 4 1, 3) := by decide +kernel
theorem dX11_crossing_48 : decode cX11_crossing 48 = .ok (.goto (-26), 3) := by decide +kernel
theorem dX11_crossing_51 : decode cX11_crossing 51 = .ok (.iconst (-1), 1) := by decide +kernel
theorem dX11_crossing_52 : decode cX11_crossing 52 = .ok (.ireturn, 1) := by decide +kernel
theorem dX12_crossing_0 : decode cX12_crossing 0 = .ok (.iload_n 1, 1) := by decide +kernel
theorem dX12_crossing_1 : decode cX12_crossing 1 = .ok (.iconst 2, 1) := by decide +kernel
theorem dX12_crossing_2 : decode cX12_crossing 2 = .ok (.bipush 40, 2) := by decide +kernel
theorem dX12_crossing_4 : decode cX12_crossing 4 = .ok (.invokestatic 95, 3) := by decide +kernel
theorem dX12_crossing_7 : decode cX12_crossing 7 = .ok (.ifCond .eq 14, 3) := by decide +kernel
theorem dX12_crossing_10 : decode cX12_crossing 10 = .ok (.iload_n 2, 1) := by decide +kernel
theorem dX12_crossing_11 : decode cX12_crossing 11 = .ok (.iconst 1, 1) := by decide +kernel
theorem dX12_crossing_12 : decode cX12_crossing 12 = .ok (.sipush 999, 3) := by decide +kernel
theorem dX12_crossing_15 : decode cX12_crossing 15 = .ok (.invokestatic 95, 3) := by decide +kernel
theorem dX12_crossing_18 : decode cX12_crossing 18 = .ok (.ifCond .ne 5, 3) := by decide +kernel
theorem dX12_crossing_21 : decode cX12_crossing 21 = .ok (.iconst (-1), 1) := by decide +kernel
theorem dX12_crossing_22 : decode cX12_crossing 22 = .ok (.ireturn, 1) := by decide +kernel
theorem dX12_crossing_23 : decode cX12_crossing 23 = .ok (.aload_n 0, 1) := by decide +kernel
theorem dX12_crossing_24 : decode cX12_crossing 24 = .ok (.iload_n 1, 1) := by decide +kernel
theorem dX12_crossing_25 : decode cX12_crossing 25 = .ok (.iconst 0, 1) := by decide +kernel
theorem dX12_crossing_26 : decode cX12_crossing 26 = .ok (.iconst 1, 1) := by decide +kernel
theorem dX12_crossing_27 : decode cX12_crossing 27 = .ok (.iload_n 2, 1) := by decide +kernel
theorem dX12_crossing_28 : decode cX12_crossing 28 = .ok (.invokevirtual 405, 3) := by decide +kernel
theorem dX12_crossing_31 : decode cX12_crossing 31 = .ok (.istore_n 3, 1) := by decide +kernel
theorem dX12_crossing_32 : decode cX12_crossing 32 = .ok (.iconst 0, 1) := by decide +kernel
theorem dX12_crossing_33 : decode cX12_crossing 33 = .ok (.istore 4, 2) := by decide +kernel
theorem dX12_crossing_35 : decode cX12_crossing 35 = .ok (.iload 4, 2) := by decide +kernel
theorem dX12_crossing_37 : decode cX12_crossing 37 = .ok (.bipush 11, 2) := by decide +kernel
theorem dX12_crossing_39 : decode cX12_crossing 39 = .ok (.if_icmp .ge 25, 3) := by decide +kernel
theorem dX12_crossing_42 : decode cX12_crossing 42 = .ok (.aload_n 0, 1) := by decide +kernel
theorem dX12_crossing_43 : decode cX12_crossing 43 = .ok (.iload_n 1, 1) := by decide +kernel
theorem dX12_crossing_44 : decode cX12_crossing 44 = .ok (.iload 4, 2) := by decide +kernel
theorem dX12_crossing_46 : decode cX12_crossing 46 = .ok (.iconst 0, 1) := by decide +kernel
theorem dX12_crossing_47 : decode cX12_crossing 47 = .ok (.iload_n 2, 1) := by decide +kernel
theorem dX12_crossing_48 : decode cX12_crossing 48 = .ok (.invokevirtual 405, 3) := by decide +kernel
theorem dX12_crossing_51 : decode cX12_crossing 51 = .ok (.iload_n 3, 1) := by decide +kernel
theorem dX12_crossing_52 : decode cX12_crossing 52 = .ok (.if_icmp .lt 6, 3) := by decide +kernel
theorem dX12_crossing_55 : decode cX12_crossing 55 = .ok (.iload 4, 2) := by decide +kernel
theorem dX12_crossing_57 : decode cX12_crossing 57 = .ok (.ireturn, 1) := by decide +kernel
theorem dX12_crossing_58 : decode cX12_crossing 58 = .ok (.iinc 4 1, 3) := by decide +kernel
theorem dX12_crossing_61 : decode cX12_crossing 61 = .ok (.goto (-26), 3) := by decide +kernel
theorem dX12_crossing_64 : decode cX12_crossing 64 = .ok (.iconst (-1), 1) := by decide +kernel
theorem dX12_crossing_65 : decode cX12_crossing 65 = .ok (.ireturn, 1) := by decide +kernel
theorem dX1_tell_0 : decode cX1_tell 0 = .ok (.iload_n 1, 1) := by decide +kernel
theorem dX1_tell_1 : decode cX1_tell 1 = .ok (.ifCond .eq 10, 3) := by decide +kernel
theorem dX1_tell_4 : decode cX1_tell 4 = .ok (.bipush 6, 2) := by decide +kernel
theorem dX1_tell_6 : decode cX1_tell 6 = .ok (.iload_n 2, 1) := by decide +kernel
theorem dX1_tell_7 : decode cX1_tell 7 = .ok (.iadd, 1) := by decide +kernel
theorem dX1_tell_8 : decode cX1_tell 8 = .ok (.goto 4, 3) := by decide +kernel
theorem dX1_tell_11 : decode cX1_tell 11 = .ok (.iload_n 2, 1) := by decide +kernel
theorem dX1_tell_12 : decode cX1_tell 12 = .ok (.istore 4, 2) := by decide +kernel
theorem dX1_tell_14 : decode cX1_tell 14 = .ok (.aload_n 0, 1) := by decide +kernel
theorem dX1_tell_15 : decode cX1_tell 15 = .ok (.getfield 18, 3) := by decide +kernel
theorem dX1_tell_18 : decode cX1_tell 18 = .ok (.bipush 40, 2) := by decide +kernel
theorem dX1_tell_20 : decode cX1_tell 20 = .ok (.if_icmp .ge 18, 3) := by decide +kernel
theorem dX1_tell_23 : decode cX1_tell 23 = .ok (.iload 4, 2) := by decide +kernel
theorem dX1_tell_25 : decode cX1_tell 25 = .ok (.ifCond .lt 13, 3) := by decide +kernel
theorem dX1_tell_28 : decode cX1_tell 28 = .ok (.iload 4, 2) := by decide +kernel
theorem dX1_tell_30 : decode cX1_tell 30 = .ok (.aload_n 0, 1) := by decide +kernel
theorem dX1_tell_31 : decode cX1_tell 31 = .ok (.getfield 11, 3) := by decide +kernel
theorem dX1_tell_34 : decode cX1_tell 34 = .ok (.arraylength, 1) := by decide +kernel
theorem dX1_tell_35 : decode cX1_tell 35 = .ok (.if_icmp .lt 5, 3) := by decide +kernel
theorem dX1_tell_38 : decode cX1_tell 38 = .ok (.iconst (-1), 1) := by decide +kernel
theorem dX1_tell_39 : decode cX1_tell 39 = .ok (.ireturn, 1) := by decide +kernel
theorem dX1_tell_40 : decode cX1_tell 40 = .ok (.aload_n 0, 1) := by decide +kernel
theorem dX1_tell_41 : decode cX1_tell 41 = .ok (.getfield 11, 3) := by decide +kernel
theorem dX1_tell_44 : decode cX1_tell 44 = .ok (.iload 4, 2) := by decide +kernel
theorem dX1_tell_46 : decode cX1_tell 46 = .ok (.dup2, 1) := by decide +kernel
theorem dX1_tell_47 : decode cX1_tell 47 = .ok (.iaload, 1) := by decide +kernel
theorem dX1_tell_48 : decode cX1_tell 48 = .ok (.iload_n 3, 1) := by decide +kernel
theorem dX1_tell_49 : decode cX1_tell 49 = .ok (.iadd, 1) := by decide +kernel
theorem dX1_tell_50 : decode cX1_tell 50 = .ok (.iastore, 1) := by decide +kernel
theorem dX1_tell_51 : decode cX1_tell 51 = .ok (.aload_n 0, 1) := by decide +kernel
theorem dX1_tell_52 : decode cX1_tell 52 = .ok (.getfield 15, 3) := by decide +kernel
theorem dX1_tell_55 : decode cX1_tell 55 = .ok (.iload 4, 2) := by decide +kernel
theorem dX1_tell_57 : decode cX1_tell 57 = .ok (.dup2, 1) := by decide +kernel
theorem dX1_tell_58 : decode cX1_tell 58 = .ok (.iaload, 1) := by decide +kernel
theorem dX1_tell_59 : decode cX1_tell 59 = .ok (.iconst 1, 1) := by decide +kernel
theorem dX1_tell_60 : decode cX1_tell 60 = .ok (.iadd, 1) := by decide +kernel
theorem dX1_tell_61 : decode cX1_tell 61 = .ok (.iastore, 1) := by decide +kernel
theorem dX1_tell_62 : decode cX1_tell 62 = .ok (.aload_n 0, 1) := by decide +kernel
theorem dX1_tell_63 : decode cX1_tell 63 = .ok (.dup, 1) := by decide +kernel
theorem dX1_tell_64 : decode cX1_tell 64 = .ok (.getfield 18, 3) := by decide +kernel
theorem dX1_tell_67 : decode cX1_tell 67 = .ok (.iconst 1, 1) := by decide +kernel
theorem dX1_tell_68 : decode cX1_tell 68 = .ok (.iadd, 1) := by decide +kernel
theorem dX1_tell_69 : decode cX1_tell 69 = .ok (.putfield 18, 3) := by decide +kernel
theorem dX1_tell_72 : decode cX1_tell 72 = .ok (.aload_n 0, 1) := by decide +kernel
theorem dX1_tell_73 : decode cX1_tell 73 = .ok (.getfield 18, 3) := by decide +kernel
theorem dX1_tell_76 : decode cX1_tell 76 = .ok (.ireturn, 1) := by decide +kernel
theorem dX11_day_0 : decode cX11_day 0 = .ok (.iload_n 2, 1) := by decide +kernel
theorem dX11_day_1 : decode cX11_day 1 = .ok (.iconst 0, 1) := by decide +kernel
theorem dX11_day_2 : decode cX11_day 2 = .ok (.iconst 5, 1) := by decide +kernel
theorem dX11_day_3 : decode cX11_day 3 = .ok (.invokestatic 47, 3) := by decide +kernel
theorem dX11_day_6 : decode cX11_day 6 = .ok (.ifCond .eq 14, 3) := by decide +kernel
theorem dX11_day_9 : decode cX11_day 9 = .ok (.iload_n 3, 1) := by decide +kernel
theorem dX11_day_10 : decode cX11_day 10 = .ok (.iconst 0, 1) := by decide +kernel
theorem dX11_day_11 : decode cX11_day 11 = .ok (.sipush 9999, 3) := by decide +kernel
theorem dX11_day_14 : decode cX11_day 14 = .ok (.invokestatic 47, 3) := by decide +kernel
theorem dX11_day_17 : decode cX11_day 17 = .ok (.ifCond .ne 5, 3) := by decide +kernel
theorem dX11_day_20 : decode cX11_day 20 = .ok (.iconst (-1), 1) := by decide +kernel
theorem dX11_day_21 : decode cX11_day 21 = .ok (.ireturn, 1) := by decide +kernel
theorem dX11_day_22 : decode cX11_day 22 = .ok (.aload_n 0, 1) := by decide +kernel
theorem dX11_day_23 : decode cX11_day 23 = .ok (.getfield 10, 3) := by decide +kernel
theorem dX11_day_26 : decode cX11_day 26 = .ok (.getfield 271, 3) := by decide +kernel
theorem dX11_day_29 : decode cX11_day 29 = .ok (.iload_n 1, 1) := by decide +kernel
theorem dX11_day_30 : decode cX11_day 30 = .ok (.iload_n 2, 1) := by decide +kernel
theorem dX11_day_31 : decode cX11_day 31 = .ok (.iload_n 3, 1) := by decide +kernel
theorem dX11_day_32 : decode cX11_day 32 = .ok (.invokevirtual 275, 3) := by decide +kernel
theorem dX11_day_35 : decode cX11_day 35 = .ok (.ireturn, 1) := by decide +kernel
theorem dX12_day_0 : decode cX12_day 0 = .ok (.iload_n 2, 1) := by decide +kernel
theorem dX12_day_1 : decode cX12_day 1 = .ok (.iconst 0, 1) := by decide +kernel
theorem dX12_day_2 : decode cX12_day 2 = .ok (.iconst 5, 1) := by decide +kernel
theorem dX12_day_3 : decode cX12_day 3 = .ok (.invokestatic 95, 3) := by decide +kernel
theorem dX12_day_6 : decode cX12_day 6 = .ok (.ifCond .eq 26, 3) := by decide +kernel
theorem dX12_day_9 : decode cX12_day 9 = .ok (.iload_n 3, 1) := by decide +kernel
theorem dX12_day_10 : decode cX12_day 10 = .ok (.iconst 0, 1) := by decide +kernel
theorem dX12_day_11 : decode cX12_day 11 = .ok (.sipush 9999, 3) := by decide +kernel
theorem dX12_day_14 : decode cX12_day 14 = .ok (.invokestatic 95, 3) := by decide +kernel
theorem dX12_day_17 : decode cX12_day 17 = .ok (.ifCond .eq 15, 3) := by decide +kernel
theorem dX12_day_20 : decode cX12_day 20 = .ok (.aload_n 0, 1) := by decide +kernel
theorem dX12_day_21 : decode cX12_day 21 = .ok (.getfield 7, 3) := by decide +kernel
theorem dX12_day_24 : decode cX12_day 24 = .ok (.bipush 6, 2) := by decide +kernel
theorem dX12_day_26 : decode cX12_day 26 = .ok (.iaload, 1) := by decide +kernel
theorem dX12_day_27 : decode cX12_day 27 = .ok (.bipush 40, 2) := by decide +kernel
theorem dX12_day_29 : decode cX12_day 29 = .ok (.if_icmp .ne 5, 3) := by decide +kernel
theorem dX12_day_32 : decode cX12_day 32 = .ok (.iconst (-1), 1) := by decide +kernel
theorem dX12_day_33 : decode cX12_day 33 = .ok (.ireturn, 1) := by decide +kernel
theorem dX12_day_34 : decode cX12_day 34 = .ok (.sipush 1390, 3) := by decide +kernel
theorem dX12_day_37 : decode cX12_day 37 = .ok (.iconst 3, 1) := by decide +kernel
theorem dX12_day_38 : decode cX12_day 38 = .ok (.aload_n 0, 1) := by decide +kernel
theorem dX12_day_39 : decode cX12_day 39 = .ok (.getfield 7, 3) := by decide +kernel
theorem dX12_day_42 : decode cX12_day 42 = .ok (.bipush 6, 2) := by decide +kernel
theorem dX12_day_44 : decode cX12_day 44 = .ok (.iaload, 1) := by decide +kernel
theorem dX12_day_45 : decode cX12_day 45 = .ok (.imul, 1) := by decide +kernel
theorem dX12_day_46 : decode cX12_day 46 = .ok (.iadd, 1) := by decide +kernel
theorem dX12_day_47 : decode cX12_day 47 = .ok (.istore 4, 2) := by decide +kernel
theorem dX12_day_49 : decode cX12_day 49 = .ok (.aload_n 0, 1) := by decide +kernel
theorem dX12_day_50 : decode cX12_day 50 = .ok (.getfield 7, 3) := by decide +kernel
theorem dX12_day_53 : decode cX12_day 53 = .ok (.iload 4, 2) := by decide +kernel
theorem dX12_day_55 : decode cX12_day 55 = .ok (.iload_n 1, 1) := by decide +kernel
theorem dX12_day_56 : decode cX12_day 56 = .ok (.ifCond .eq 7, 3) := by decide +kernel
theorem dX12_day_59 : decode cX12_day 59 = .ok (.iconst 1, 1) := by decide +kernel
theorem dX12_day_60 : decode cX12_day 60 = .ok (.goto 4, 3) := by decide +kernel
theorem dX12_day_63 : decode cX12_day 63 = .ok (.iconst 0, 1) := by decide +kernel
theorem dX12_day_64 : decode cX12_day 64 = .ok (.iastore, 1) := by decide +kernel
theorem dX12_day_65 : decode cX12_day 65 = .ok (.aload_n 0, 1) := by decide +kernel
theorem dX12_day_66 : decode cX12_day 66 = .ok (.getfield 7, 3) := by decide +kernel
theorem dX12_day_69 : decode cX12_day 69 = .ok (.iload 4, 2) := by decide +kernel
theorem dX12_day_71 : decode cX12_day 71 = .ok (.iconst 1, 1) := by decide +kernel
theorem dX12_day_72 : decode cX12_day 72 = .ok (.iadd, 1) := by decide +kernel
theorem dX12_day_73 : decode cX12_day 73 = .ok (.iload_n 2, 1) := by decide +kernel
theorem dX12_day_74 : decode cX12_day 74 = .ok (.iastore, 1) := by decide +kernel
theorem dX12_day_75 : decode cX12_day 75 = .ok (.aload_n 0, 1) := by decide +kernel
theorem dX12_day_76 : decode cX12_day 76 = .ok (.getfield 7, 3) := by decide +kernel
theorem dX12_day_79 : decode cX12_day 79 = .ok (.iload 4, 2) := by decide +kernel
theorem dX12_day_81 : decode cX12_day 81 = .ok (.iconst 2, 1) := by decide +kernel
theorem dX12_day_82 : decode cX12_day 82 = .ok (.iadd, 1) := by decide +kernel
theorem dX12_day_83 : decode cX12_day 83 = .ok (.iload_n 3, 1) := by decide +kernel
theorem dX12_day_84 : decode cX12_day 84 = .ok (.iastore, 1) := by decide +kernel
theorem dX12_day_85 : decode cX12_day 85 = .ok (.aload_n 0, 1) := by decide +kernel
theorem dX12_day_86 : decode cX12_day 86 = .ok (.getfield 7, 3) := by decide +kernel
theorem dX12_day_89 : decode cX12_day 89 = .ok (.bipush 6, 2) := by decide +kernel
theorem dX12_day_91 : decode cX12_day 91 = .ok (.dup2, 1) := by decide +kernel
theorem dX12_day_92 : decode cX12_day 92 = .ok (.iaload, 1) := by decide +kernel
theorem dX12_day_93 : decode cX12_day 93 = .ok (.iconst 1, 1) := by decide +kernel
theorem dX12_day_94 : decode cX12_day 94 = .ok (.iadd, 1) := by decide +kernel
theorem dX12_day_95 : decode cX12_day 95 = .ok (.iastore, 1) := by decide +kernel
theorem dX12_day_96 : decode cX12_day 96 = .ok (.aload_n 0, 1) := by decide +kernel
theorem dX12_day_97 : decode cX12_day 97 = .ok (.getfield 7, 3) := by decide +kernel
theorem dX12_day_100 : decode cX12_day 100 = .ok (.bipush 6, 2) := by decide +kernel
theorem dX12_day_102 : decode cX12_day 102 = .ok (.iaload, 1) := by decide +kernel
theorem dX12_day_103 : decode cX12_day 103 = .ok (.ireturn, 1) := by decide +kernel
theorem dX1_meanEffect_0 : decode cX1_meanEffect 0 = .ok (.lconst 0, 1) := by decide +kernel
theorem dX1_meanEffect_1 : decode cX1_meanEffect 1 = .ok (.lstore_n 1, 1) := by decide +kernel
theorem dX1_meanEffect_2 : decode cX1_meanEffect 2 = .ok (.iconst 0, 1) := by decide +kernel
theorem dX1_meanEffect_3 : decode cX1_meanEffect 3 = .ok (.istore_n 3, 1) := by decide +kernel
theorem dX1_meanEffect_4 : decode cX1_meanEffect 4 = .ok (.iconst 0, 1) := by decide +kernel
theorem dX1_meanEffect_5 : decode cX1_meanEffect 5 = .ok (.istore 4, 2) := by decide +kernel
theorem dX1_meanEffect_7 : decode cX1_meanEffect 7 = .ok (.iload 4, 2) := by decide +kernel
theorem dX1_meanEffect_9 : decode cX1_meanEffect 9 = .ok (.bipush 6, 2) := by decide +kernel
theorem dX1_meanEffect_11 : decode cX1_meanEffect 11 = .ok (.if_icmp .ge 96, 3) := by decide +kernel
theorem dX1_meanEffect_14 : decode cX1_meanEffect 14 = .ok (.aload_n 0, 1) := by decide +kernel
theorem dX1_meanEffect_15 : decode cX1_meanEffect 15 = .ok (.getfield 15, 3) := by decide +kernel
theorem dX1_meanEffect_18 : decode cX1_meanEffect 18 = .ok (.bipush 6, 2) := by decide +kernel
theorem dX1_meanEffect_20 : decode cX1_meanEffect 20 = .ok (.iload 4, 2) := by decide +kernel
theorem dX1_meanEffect_22 : decode cX1_meanEffect 22 = .ok (.iadd, 1) := by decide +kernel
theorem dX1_meanEffect_23 : decode cX1_meanEffect 23 = .ok (.iaload, 1) := by decide +kernel
theorem dX1_meanEffect_24 : decode cX1_meanEffect 24 = .ok (.istore 5, 2) := by decide +kernel
theorem dX1_meanEffect_26 : decode cX1_meanEffect 26 = .ok (.aload_n 0, 1) := by decide +kernel
theorem dX1_meanEffect_27 : decode cX1_meanEffect 27 = .ok (.getfield 15, 3) := by decide +kernel
theorem dX1_meanEffect_30 : decode cX1_meanEffect 30 = .ok (.iload 4, 2) := by decide +kernel
theorem dX1_meanEffect_32 : decode cX1_meanEffect 32 = .ok (.iaload, 1) := by decide +kernel
theorem dX1_meanEffect_33 : decode cX1_meanEffect 33 = .ok (.istore 6, 2) := by decide +kernel
theorem dX1_meanEffect_35 : decode cX1_meanEffect 35 = .ok (.iload 5, 2) := by decide +kernel
theorem dX1_meanEffect_37 : decode cX1_meanEffect 37 = .ok (.ifCond .le 64, 3) := by decide +kernel
theorem dX1_meanEffect_40 : decode cX1_meanEffect 40 = .ok (.iload 6, 2) := by decide +kernel
theorem dX1_meanEffect_42 : decode cX1_meanEffect 42 = .ok (.ifCond .le 59, 3) := by decide +kernel
theorem dX1_meanEffect_45 : decode cX1_meanEffect 45 = .ok (.aload_n 0, 1) := by decide +kernel
theorem dX1_meanEffect_46 : decode cX1_meanEffect 46 = .ok (.getfield 11, 3) := by decide +kernel
theorem dX1_meanEffect_49 : decode cX1_meanEffect 49 = .ok (.bipush 6, 2) := by decide +kernel
theorem dX1_meanEffect_51 : decode cX1_meanEffect 51 = .ok (.iload 4, 2) := by decide +kernel
theorem dX1_meanEffect_53 : decode cX1_meanEffect 53 = .ok (.iadd, 1) := by decide +kernel
theorem dX1_meanEffect_54 : decode cX1_meanEffect 54 = .ok (.iaload, 1) := by decide +kernel
theorem dX1_meanEffect_55 : decode cX1_meanEffect 55 = .ok (.i2l, 1) := by decide +kernel
theorem dX1_meanEffect_56 : decode cX1_meanEffect 56 = .ok (.ldc2_w 28, 3) := by decide +kernel
theorem dX1_meanEffect_59 : decode cX1_meanEffect 59 = .ok (.lmul, 1) := by decide +kernel
theorem dX1_meanEffect_60 : decode cX1_meanEffect 60 = .ok (.iload 5, 2) := by decide +kernel
theorem dX1_meanEffect_62 : decode cX1_meanEffect 62 = .ok (.i2l, 1) := by decide +kernel
theorem dX1_meanEffect_63 : decode cX1_meanEffect 63 = .ok (.ldiv, 1) := by decide +kernel
theorem dX1_meanEffect_64 : decode cX1_meanEffect 64 = .ok (.lstore 7, 2) := by decide +kernel
theorem dX1_meanEffect_66 : decode cX1_meanEffect 66 = .ok (.aload_n 0, 1) := by decide +kernel
theorem dX1_meanEffect_67 : decode cX1_meanEffect 67 = .ok (.getfield 11, 3) := by decide +kernel
theorem dX1_meanEffect_70 : decode cX1_meanEffect 70 = .ok (.iload 4, 2) := by decide +kernel
theorem dX1_meanEffect_72 : decode cX1_meanEffect 72 = .ok (.iaload, 1) := by decide +kernel
theorem dX1_meanEffect_73 : decode cX1_meanEffect 73 = .ok (.i2l, 1) := by decide +kernel
theorem dX1_meanEffect_74 : decode cX1_meanEffect 74 = .ok (.ldc2_w 28, 3) := by decide +kernel
theorem dX1_meanEffect_77 : decode cX1_meanEffect 77 = .ok (.lmul, 1) := by decide +kernel
theorem dX1_meanEffect_78 : decode cX1_meanEffect 78 = .ok (.iload 6, 2) := by decide +kernel
theorem dX1_meanEffect_80 : decode cX1_meanEffect 80 = .ok (.i2l, 1) := by decide +kernel
theorem dX1_meanEffect_81 : decode cX1_meanEffect 81 = .ok (.ldiv, 1) := by decide +kernel
theorem dX1_meanEffect_82 : decode cX1_meanEffect 82 = .ok (.lstore 9, 2) := by decide +kernel
theorem dX1_meanEffect_84 : decode cX1_meanEffect 84 = .ok (.lload_n 1, 1) := by decide +kernel
theorem dX1_meanEffect_85 : decode cX1_meanEffect 85 = .ok (.lload 7, 2) := by decide +kernel
theorem dX1_meanEffect_87 : decode cX1_meanEffect 87 = .ok (.lload 9, 2) := by decide +kernel
theorem dX1_meanEffect_89 : decode cX1_meanEffect 89 = .ok (.lsub, 1) := by decide +kernel
theorem dX1_meanEffect_90 : decode cX1_meanEffect 90 = .ok (.iload 5, 2) := by decide +kernel
theorem dX1_meanEffect_92 : decode cX1_meanEffect 92 = .ok (.i2l, 1) := by decide +kernel
theorem dX1_meanEffect_93 : decode cX1_meanEffect 93 = .ok (.lmul, 1) := by decide +kernel
theorem dX1_meanEffect_94 : decode cX1_meanEffect 94 = .ok (.ladd, 1) := by decide +kernel
theorem dX1_meanEffect_95 : decode cX1_meanEffect 95 = .ok (.lstore_n 1, 1) := by decide +kernel
theorem dX1_meanEffect_96 : decode cX1_meanEffect 96 = .ok (.iload_n 3, 1) := by decide +kernel
theorem dX1_meanEffect_97 : decode cX1_meanEffect 97 = .ok (.iload 5, 2) := by decide +kernel
theorem dX1_meanEffect_99 : decode cX1_meanEffect 99 = .ok (.iadd, 1) := by decide +kernel
theorem dX1_meanEffect_100 : decode cX1_meanEffect 100 = .ok (.istore_n 3, 1) := by decide +kernel
theorem dX1_meanEffect_101 : decode cX1_meanEffect 101 = .ok (.iinc 4 1, 3) := by decide +kernel
theorem dX1_meanEffect_104 : decode cX1_meanEffect 104 = .ok (.goto (-97), 3) := by decide +kernel
theorem dX1_meanEffect_107 : decode cX1_meanEffect 107 = .ok (.iload_n 3, 1) := by decide +kernel
theorem dX1_meanEffect_108 : decode cX1_meanEffect 108 = .ok (.ifCond .le 11, 3) := by decide +kernel
theorem dX1_meanEffect_111 : decode cX1_meanEffect 111 = .ok (.lload_n 1, 1) := by decide +kernel
theorem dX1_meanEffect_112 : decode cX1_meanEffect 112 = .ok (.iload_n 3, 1) := by decide +kernel
theorem dX1_meanEffect_113 : decode cX1_meanEffect 113 = .ok (.i2l, 1) := by decide +kernel
theorem dX1_meanEffect_114 : decode cX1_meanEffect 114 = .ok (.ldiv, 1) := by decide +kernel
theorem dX1_meanEffect_115 : decode cX1_meanEffect 115 = .ok (.l2i, 1) := by decide +kernel
theorem dX1_meanEffect_116 : decode cX1_meanEffect 116 = .ok (.goto 5, 3) := by decide +kernel
theorem dX1_meanEffect_119 : decode cX1_meanEffect 119 = .ok (.ldc 30, 2) := by decide +kernel
theorem dX1_meanEffect_121 : decode cX1_meanEffect 121 = .ok (.ireturn, 1) := by decide +kernel
theorem dX11_effect_0 : decode cX11_effect 0 = .ok (.aload_n 0, 1) := by decide +kernel
theorem dX11_effect_1 : decode cX11_effect 1 = .ok (.getfield 10, 3) := by decide +kernel
theorem dX11_effect_4 : decode cX11_effect 4 = .ok (.getfield 271, 3) := by decide +kernel
theorem dX11_effect_7 : decode cX11_effect 7 = .ok (.invokevirtual 279, 3) := by decide +kernel
theorem dX11_effect_10 : decode cX11_effect 10 = .ok (.ireturn, 1) := by decide +kernel
theorem dX12_daysOf_0 : decode cX12_daysOf 0 = .ok (.iconst 0, 1) := by decide +kernel
theorem dX12_daysOf_1 : decode cX12_daysOf 1 = .ok (.istore 4, 2) := by decide +kernel
theorem dX12_daysOf_3 : decode cX12_daysOf 3 = .ok (.iconst 0, 1) := by decide +kernel
theorem dX12_daysOf_4 : decode cX12_daysOf 4 = .ok (.istore 5, 2) := by decide +kernel
theorem dX12_daysOf_6 : decode cX12_daysOf 6 = .ok (.iload 5, 2) := by decide +kernel
theorem dX12_daysOf_8 : decode cX12_daysOf 8 = .ok (.aload_n 0, 1) := by decide +kernel
theorem dX12_daysOf_9 : decode cX12_daysOf 9 = .ok (.getfield 7, 3) := by decide +kernel
theorem dX12_daysOf_12 : decode cX12_daysOf 12 = .ok (.bipush 6, 2) := by decide +kernel
theorem dX12_daysOf_14 : decode cX12_daysOf 14 = .ok (.iaload, 1) := by decide +kernel
theorem dX12_daysOf_15 : decode cX12_daysOf 15 = .ok (.if_icmp .ge 65, 3) := by decide +kernel
theorem dX12_daysOf_18 : decode cX12_daysOf 18 = .ok (.sipush 1390, 3) := by decide +kernel
theorem dX12_daysOf_21 : decode cX12_daysOf 21 = .ok (.iconst 3, 1) := by decide +kernel
theorem dX12_daysOf_22 : decode cX12_daysOf 22 = .ok (.iload 5, 2) := by decide +kernel
theorem dX12_daysOf_24 : decode cX12_daysOf 24 = .ok (.imul, 1) := by decide +kernel
theorem dX12_daysOf_25 : decode cX12_daysOf 25 = .ok (.iadd, 1) := by decide +kernel
theorem dX12_daysOf_26 : decode cX12_daysOf 26 = .ok (.istore 6, 2) := by decide +kernel
theorem dX12_daysOf_28 : decode cX12_daysOf 28 = .ok (.aload_n 0, 1) := by decide +kernel
theorem dX12_daysOf_29 : decode cX12_daysOf 29 = .ok (.getfield 7, 3) := by decide +kernel
theorem dX12_daysOf_32 : decode cX12_daysOf 32 = .ok (.iload 6, 2) := by decide +kernel
theorem dX12_daysOf_34 : decode cX12_daysOf 34 = .ok (.iaload, 1) := by decide +kernel
theorem dX12_daysOf_35 : decode cX12_daysOf 35 = .ok (.iload_n 1, 1) := by decide +kernel
theorem dX12_daysOf_36 : decode cX12_daysOf 36 = .ok (.if_icmp .ne 38, 3) := by decide +kernel
theorem dX12_daysOf_39 : decode cX12_daysOf 39 = .ok (.aload_n 0, 1) := by decide +kernel
theorem dX12_daysOf_40 : decode cX12_daysOf 40 = .ok (.getfield 7, 3) := by decide +kernel
theorem dX12_daysOf_43 : decode cX12_daysOf 43 = .ok (.iload 6, 2) := by decide +kernel
theorem dX12_daysOf_45 : decode cX12_daysOf 45 = .ok (.iconst 1, 1) := by decide +kernel
theorem dX12_daysOf_46 : decode cX12_daysOf 46 = .ok (.iadd, 1) := by decide +kernel
theorem dX12_daysOf_47 : decode cX12_daysOf 47 = .ok (.iaload, 1) := by decide +kernel
theorem dX12_daysOf_48 : decode cX12_daysOf 48 = .ok (.iload_n 2, 1) := by decide +kernel
theorem dX12_daysOf_49 : decode cX12_daysOf 49 = .ok (.if_icmp .ne 25, 3) := by decide +kernel
theorem dX12_daysOf_52 : decode cX12_daysOf 52 = .ok (.iload 4, 2) := by decide +kernel
theorem dX12_daysOf_54 : decode cX12_daysOf 54 = .ok (.iload_n 3, 1) := by decide +kernel
theorem dX12_daysOf_55 : decode cX12_daysOf 55 = .ok (.ifCond .eq 15, 3) := by decide +kernel
theorem dX12_daysOf_58 : decode cX12_daysOf 58 = .ok (.aload_n 0, 1) := by decide +kernel
theorem dX12_daysOf_59 : decode cX12_daysOf 59 = .ok (.getfield 7, 3) := by decide +kernel
theorem dX12_daysOf_62 : decode cX12_daysOf 62 = .ok (.iload 6, 2) := by decide +kernel
theorem dX12_daysOf_64 : decode cX12_daysOf 64 = .ok (.iconst 2, 1) := by decide +kernel
theorem dX12_daysOf_65 : decode cX12_daysOf 65 = .ok (.iadd, 1) := by decide +kernel
theorem dX12_daysOf_66 : decode cX12_daysOf 66 = .ok (.iaload, 1) := by decide +kernel
theorem dX12_daysOf_67 : decode cX12_daysOf 67 = .ok (.goto 4, 3) := by decide +kernel
theorem dX12_daysOf_70 : decode cX12_daysOf 70 = .ok (.iconst 1, 1) := by decide +kernel
theorem dX12_daysOf_71 : decode cX12_daysOf 71 = .ok (.iadd, 1) := by decide +kernel
theorem dX12_daysOf_72 : decode cX12_daysOf 72 = .ok (.istore 4, 2) := by decide +kernel
theorem dX12_daysOf_74 : decode cX12_daysOf 74 = .ok (.iinc 5 1, 3) := by decide +kernel
theorem dX12_daysOf_77 : decode cX12_daysOf 77 = .ok (.goto (-71), 3) := by decide +kernel
theorem dX12_daysOf_80 : decode cX12_daysOf 80 = .ok (.iload 4, 2) := by decide +kernel
theorem dX12_daysOf_82 : decode cX12_daysOf 82 = .ok (.ireturn, 1) := by decide +kernel
def fX12_carries_186 (a0 : Nat) (a1 : Int32) (a2 : Int32) (a3 : Int32) (a4 : Int32) (rec33 : Int32 → Int32 → Int32 → xMem → Option (Int32 × xMem)) (rec64 : Int32 → Int32 → Int32 → Int32 → Int32 → xMem → Option (Int32 × xMem)) (l5 : Int32) (l6 : Int32) (l7 : Int32) (l8 : Int32) (l9 : Int32) (m : xMem) : Option (Int32 × xMem) := xLet (l9 + (1 : Int32)) fun x1 => rec64 l5 l6 l7 l8 x1 m
set_option maxRecDepth 4000 in
theorem fX12_carries_186_ok {a0 : Nat} {a1 : Int32} {a2 : Int32} {a3 : Int32} {a4 : Int32} {rec33 : Int32 → Int32 → Int32 → xMem → Option (Int32 × xMem)} {rec64 : Int32 → Int32 → Int32 → Int32 → Int32 → xMem → Option (Int32 × xMem)} {d : Nat} (hd : 1 ≤ d) (ha0 : isModel a0) (hrec33 : ∀ (l5 : Int32) (l6 : Int32) (l7 : Int32) (o8 : Option Value) (o9 : Option Value) (o10 : Option Value) (o11 : Option Value) (q8 : xNoD o8 = true) (q9 : xNoD o9 = true) (q10 : xNoD o10 = true) (q11 : xNoD o11 = true) (m : xMem) (r : (Int32 × xMem)), rec33 l5 l6 l7 m = some r → xFx hh_232 cX12_carries d 33 [some (.ref a0), some (.int a1), some (.int a2), some (.int a3), some (.int a4), some (.int l5), some (.int l6), some (.int l7), o8, o9, o10, o11] [] (xLay m) 0 0 (some (.int r.1)) (xLay r.2)) (hrec64 : ∀ (l5 : Int32) (l6 : Int32) (l7 : Int32) (l8 : Int32) (l9 : Int32) (o10 : Option Value) (o11 : Option Value) (q10 : xNoD o10 = true) (q11 : xNoD o11 = true) (m : xMem) (r : (Int32 × xMem)), rec64 l5 l6 l7 l8 l9 m = some r → xFx hh_232 cX12_carries d 64 [some (.ref a0), some (.int a1), some (.int a2), some (.int a3), some (.int a4), some (.int l5), some (.int l6), some (.int l7), some (.int l8), some (.int l9), o10, o11] [] (xLay m) 0 0 (some (.int r.1)) (xLay r.2)) {l5 : Int32} {l6 : Int32} {l7 : Int32} {l8 : Int32} {l9 : Int32} {o10 : Option Value} {o11 : Option Value} {m : xMem} {r : (Int32 × xMem)} (q10 : xNoD o10 = true) (q11 : xNoD o11 = true) (h : fX12_carries_186 a0 a1 a2 a3 a4 rec33 rec64 l5 l6 l7 l8 l9 m = some r) : xFx hh_232 cX12_carries d 186 [some (.ref a0), some (.int a1), some (.int a2), some (.int a3), some (.int a4), some (.int l5), some (.int l6), some (.int l7), some (.int l8), some (.int l9), o10, o11] [] (xLay m) 0 0 (some (.int r.1)) (xLay r.2) := by
  unfold fX12_carries_186 at h
  obtain ⟨x1, hx1, h⟩ := xLet_el h
  refine fx_iinc (ls2 := [some (.ref a0), some (.int a1), some (.int a2), some (.int a3), some (.int a4), some (.int l5), some (.int l6), some (.int l7), some (.int l8), some (.int x1), o10, o11]) dX12_carries_186 rfl rfl rfl hx1 rfl ?_
  refine fx_goto (t := 64) dX12_carries_189 rfl rfl ?_
  exact hrec64 l5 l6 l7 l8 x1 (o10) (o11) q10 q11 m r h
def fX12_carries_182 (a0 : Nat) (a1 : Int32) (a2 : Int32) (a3 : Int32) (a4 : Int32) (rec33 : Int32 → Int32 → Int32 → xMem → Option (Int32 × xMem)) (rec64 : Int32 → Int32 → Int32 → Int32 → Int32 → xMem → Option (Int32 × xMem)) (l5 : Int32) (l6 : Int32) (l7 : Int32) (l8 : Int32) (l9 : Int32) (s0 : Nat) (s1 : Int32) (s2 : Int32) (m : xMem) : Option (Int32 × xMem) := bif xIn s1 80 then xLet (xPut m s0 s1.toNatClampNeg s2) fun m1 => xLet (l6 + (1 : Int32)) fun x3 => fX12_carries_186 a0 a1 a2 a3 a4 rec33 rec64 l5 x3 l7 l8 l9 m1 else none
set_option maxRecDepth 4000 in
theorem fX12_carries_182_ok {a0 : Nat} {a1 : Int32} {a2 : Int32} {a3 : Int32} {a4 : Int32} {rec33 : Int32 → Int32 → Int32 → xMem → Option (Int32 × xMem)} {rec64 : Int32 → Int32 → Int32 → Int32 → Int32 → xMem → Option (Int32 × xMem)} {d : Nat} (hd : 1 ≤ d) (ha0 : isModel a0) (hrec33 : ∀ (l5 : Int32) (l6 : Int32) (l7 : Int32) (o8 : Option Value) (o9 : Option Value) (o10 : Option Value) (o11 : Option Value) (q8 : xNoD o8 = true) (q9 : xNoD o9 = true) (q10 : xNoD o10 = true) (q11 : xNoD o11 = true) (m : xMem) (r : (Int32 × xMem)), rec33 l5 l6 l7 m = some r → xFx hh_232 cX12_carries d 33 [some (.ref a0), some (.int a1), some (.int a2), some (.int a3), some (.int a4), some (.int l5), some (.int l6), some (.int l7), o8, o9, o10, o11] [] (xLay m) 0 0 (some (.int r.1)) (xLay r.2)) (hrec64 : ∀ (l5 : Int32) (l6 : Int32) (l7 : Int32) (l8 : Int32) (l9 : Int32) (o10 : Option Value) (o11 : Option Value) (q10 : xNoD o10 = true) (q11 : xNoD o11 = true) (m : xMem) (r : (Int32 × xMem)), rec64 l5 l6 l7 l8 l9 m = some r → xFx hh_232 cX12_carries d 64 [some (.ref a0), some (.int a1), some (.int a2), some (.int a3), some (.int a4), some (.int l5), some (.int l6), some (.int l7), some (.int l8), some (.int l9), o10, o11] [] (xLay m) 0 0 (some (.int r.1)) (xLay r.2)) {l5 : Int32} {l6 : Int32} {l7 : Int32} {l8 : Int32} {l9 : Int32} {s0 : Nat} {s1 : Int32} {s2 : Int32} {o10 : Option Value} {o11 : Option Value} {m : xMem} {r : (Int32 × xMem)} (hs0 : xTmL[s0]? = some (101, 80, [])) (q10 : xNoD o10 = true) (q11 : xNoD o11 = true) (h : fX12_carries_182 a0 a1 a2 a3 a4 rec33 rec64 l5 l6 l7 l8 l9 s0 s1 s2 m = some r) : xFx hh_232 cX12_carries d 182 [some (.ref a0), some (.int a1), some (.int a2), some (.int a3), some (.int a4), some (.int l5), some (.int l6), some (.int l7), some (.int l8), some (.int l9), o10, o11] [.int s2, .int s1, .ref s0] (xLay m) 0 0 (some (.int r.1)) (xLay r.2) := by
  unfold fX12_carries_182 at h
  obtain ⟨hj2, h⟩ := xChk_el h
  obtain ⟨m1, hm1, h⟩ := xLet_el h
  refine gx_iastore dX12_carries_182 rfl hs0 hj2 hm1 ?_
  obtain ⟨x3, hx3, h⟩ := xLet_el h
  refine fx_iinc (ls2 := [some (.ref a0), some (.int a1), some (.int a2), some (.int a3), some (.int a4), some (.int l5), some (.int x3), some (.int l7), some (.int l8), some (.int l9), o10, o11]) dX12_carries_183 rfl rfl rfl hx3 rfl ?_
  exact fX12_carries_186_ok (o10 := o10) (o11 := o11) hd ha0 hrec33 hrec64 q10 q11 h
def fX12_carries_156 (a0 : Nat) (a1 : Int32) (a2 : Int32) (a3 : Int32) (a4 : Int32) (rec33 : Int32 → Int32 → Int32 → xMem → Option (Int32 × xMem)) (rec64 : Int32 → Int32 → Int32 → Int32 → Int32 → xMem → Option (Int32 × xMem)) (l5 : Int32) (l6 : Int32) (l7 : Int32) (l9 : Int32) (l10 : Int32) (l11 : Int32) (s0 : Int32) (m : xMem) : Option (Int32 × xMem) := if s0 = (0 : Int32) then fX12_carries_186 a0 a1 a2 a3 a4 rec33 rec64 l5 l6 l7 s0 l9 m else xLet ((40 : Int32) * l11) fun x2 => if l10 = (0 : Int32) then fX12_carries_182 a0 a1 a2 a3 a4 rec33 rec64 l5 l6 l7 s0 l9 (a0 + 23) x2 (1 : Int32) m else fX12_carries_182 a0 a1 a2 a3 a4 rec33 rec64 l5 l6 l7 s0 l9 (a0 + 23) x2 (2 : Int32) m
set_option maxRecDepth 4000 in
theorem fX12_carries_156_ok {a0 : Nat} {a1 : Int32} {a2 : Int32} {a3 : Int32} {a4 : Int32} {rec33 : Int32 → Int32 → Int32 → xMem → Option (Int32 × xMem)} {rec64 : Int32 → Int32 → Int32 → Int32 → Int32 → xMem → Option (Int32 × xMem)} {d : Nat} (hd : 1 ≤ d) (ha0 : isModel a0) (hrec33 : ∀ (l5 : Int32) (l6 : Int32) (l7 : Int32) (o8 : Option Value) (o9 : Option Value) (o10 : Option Value) (o11 : Option Value) (q8 : xNoD o8 = true) (q9 : xNoD o9 = true) (q10 : xNoD o10 = true) (q11 : xNoD o11 = true) (m : xMem) (r : (Int32 × xMem)), rec33 l5 l6 l7 m = some r → xFx hh_232 cX12_carries d 33 [some (.ref a0), some (.int a1), some (.int a2), some (.int a3), some (.int a4), some (.int l5), some (.int l6), some (.int l7), o8, o9, o10, o11] [] (xLay m) 0 0 (some (.int r.1)) (xLay r.2)) (hrec64 : ∀ (l5 : Int32) (l6 : Int32) (l7 : Int32) (l8 : Int32) (l9 : Int32) (o10 : Option Value) (o11 : Option Value) (q10 : xNoD o10 = true) (q11 : xNoD o11 = true) (m : xMem) (r : (Int32 × xMem)), rec64 l5 l6 l7 l8 l9 m = some r → xFx hh_232 cX12_carries d 64 [some (.ref a0), some (.int a1), some (.int a2), some (.int a3), some (.int a4), some (.int l5), some (.int l6), some (.int l7), some (.int l8), some (.int l9), o10, o11] [] (xLay m) 0 0 (some (.int r.1)) (xLay r.2)) {l5 : Int32} {l6 : Int32} {l7 : Int32} {l9 : Int32} {l10 : Int32} {l11 : Int32} {s0 : Int32} {o8 : Option Value} {m : xMem} {r : (Int32 × xMem)} (q8 : xNoD o8 = true) (h : fX12_carries_156 a0 a1 a2 a3 a4 rec33 rec64 l5 l6 l7 l9 l10 l11 s0 m = some r) : xFx hh_232 cX12_carries d 156 [some (.ref a0), some (.int a1), some (.int a2), some (.int a3), some (.int a4), some (.int l5), some (.int l6), some (.int l7), o8, some (.int l9), some (.int l10), some (.int l11)] [.int s0] (xLay m) 0 0 (some (.int r.1)) (xLay r.2) := by
  unfold fX12_carries_156 at h
  refine fx_istore (ls2 := [some (.ref a0), some (.int a1), some (.int a2), some (.int a3), some (.int a4), some (.int l5), some (.int l6), some (.int l7), some (.int s0), some (.int l9), some (.int l10), some (.int l11)]) dX12_carries_156 rfl rfl rfl ?_
  refine fx_iload dX12_carries_158 rfl rfl ?_
  refine fx_if_eq (t := 186) dX12_carries_160 rfl rfl (fun hc1 => ?_) (fun hc1 => ?_)
  · rw [if_pos hc1] at h
    exact fX12_carries_186_ok (o10 := some (.int l10)) (o11 := some (.int l11)) hd ha0 hrec33 hrec64 rfl rfl h
  · rw [if_neg hc1] at h
    refine fx_aload_n dX12_carries_163 rfl rfl ?_
    refine gx_getr dX12_carries_164 rfl fd_12_86 ha0.1 rfl rfl ?_
    refine fx_bipush (x := 40) dX12_carries_167 rfl (by decide) ?_
    refine fx_iload dX12_carries_169 rfl rfl ?_
    obtain ⟨x2, hx2, h⟩ := xLet_el h
    refine fx_imul dX12_carries_171 rfl hx2 ?_
    refine fx_iload dX12_carries_172 rfl rfl ?_
    refine fx_if_eq (t := 181) dX12_carries_174 rfl rfl (fun hc3 => ?_) (fun hc3 => ?_)
    · rw [if_pos hc3] at h
      refine fx_iconst (x := 1) dX12_carries_181 rfl (by decide) ?_
      exact fX12_carries_182_ok (o10 := some (.int l10)) (o11 := some (.int l11)) hd ha0 hrec33 hrec64 ha0.2.2.2.2.2.2.2.2.2.2.2.2.2.2.2.2.2.2.2.2.2.2.2.1 rfl rfl h
    · rw [if_neg hc3] at h
      refine fx_iconst (x := 2) dX12_carries_177 rfl (by decide) ?_
      refine fx_goto (t := 182) dX12_carries_178 rfl rfl ?_
      exact fX12_carries_182_ok (o10 := some (.int l10)) (o11 := some (.int l11)) hd ha0 hrec33 hrec64 ha0.2.2.2.2.2.2.2.2.2.2.2.2.2.2.2.2.2.2.2.2.2.2.2.1 rfl rfl h
def fX12_carries_136 (a0 : Nat) (a1 : Int32) (a2 : Int32) (a3 : Int32) (a4 : Int32) (rec33 : Int32 → Int32 → Int32 → xMem → Option (Int32 × xMem)) (rec64 : Int32 → Int32 → Int32 → Int32 → Int32 → xMem → Option (Int32 × xMem)) (l5 : Int32) (l6 : Int32) (l7 : Int32) (l9 : Int32) (l10 : Int32) (s0 : Int32) (m : xMem) : Option (Int32 × xMem) := xLet ((40 : Int32) * s0) fun x1 => bif xIn x1 80 then xLet (m.1 (a0 + 23) x1.toNatClampNeg) fun x2 => if ¬ x2 = (0 : Int32) then fX12_carries_156 a0 a1 a2 a3 a4 rec33 rec64 l5 l6 l7 l9 l10 s0 (0 : Int32) m else fX12_carries_156 a0 a1 a2 a3 a4 rec33 rec64 l5 l6 l7 l9 l10 s0 (1 : Int32) m else none
set_option maxRecDepth 4000 in
theorem fX12_carries_136_ok {a0 : Nat} {a1 : Int32} {a2 : Int32} {a3 : Int32} {a4 : Int32} {rec33 : Int32 → Int32 → Int32 → xMem → Option (Int32 × xMem)} {rec64 : Int32 → Int32 → Int32 → Int32 → Int32 → xMem → Option (Int32 × xMem)} {d : Nat} (hd : 1 ≤ d) (ha0 : isModel a0) (hrec33 : ∀ (l5 : Int32) (l6 : Int32) (l7 : Int32) (o8 : Option Value) (o9 : Option Value) (o10 : Option Value) (o11 : Option Value) (q8 : xNoD o8 = true) (q9 : xNoD o9 = true) (q10 : xNoD o10 = true) (q11 : xNoD o11 = true) (m : xMem) (r : (Int32 × xMem)), rec33 l5 l6 l7 m = some r → xFx hh_232 cX12_carries d 33 [some (.ref a0), some (.int a1), some (.int a2), some (.int a3), some (.int a4), some (.int l5), some (.int l6), some (.int l7), o8, o9, o10, o11] [] (xLay m) 0 0 (some (.int r.1)) (xLay r.2)) (hrec64 : ∀ (l5 : Int32) (l6 : Int32) (l7 : Int32) (l8 : Int32) (l9 : Int32) (o10 : Option Value) (o11 : Option Value) (q10 : xNoD o10 = true) (q11 : xNoD o11 = true) (m : xMem) (r : (Int32 × xMem)), rec64 l5 l6 l7 l8 l9 m = some r → xFx hh_232 cX12_carries d 64 [some (.ref a0), some (.int a1), some (.int a2), some (.int a3), some (.int a4), some (.int l5), some (.int l6), some (.int l7), some (.int l8), some (.int l9), o10, o11] [] (xLay m) 0 0 (some (.int r.1)) (xLay r.2)) {l5 : Int32} {l6 : Int32} {l7 : Int32} {l9 : Int32} {l10 : Int32} {s0 : Int32} {o8 : Option Value} {o11 : Option Value} {m : xMem} {r : (Int32 × xMem)} (q8 : xNoD o8 = true) (q11 : xNoD o11 = true) (h : fX12_carries_136 a0 a1 a2 a3 a4 rec33 rec64 l5 l6 l7 l9 l10 s0 m = some r) : xFx hh_232 cX12_carries d 136 [some (.ref a0), some (.int a1), some (.int a2), some (.int a3), some (.int a4), some (.int l5), some (.int l6), some (.int l7), o8, some (.int l9), some (.int l10), o11] [.int s0] (xLay m) 0 0 (some (.int r.1)) (xLay r.2) := by
  unfold fX12_carries_136 at h
  refine fx_istore (ls2 := [some (.ref a0), some (.int a1), some (.int a2), some (.int a3), some (.int a4), some (.int l5), some (.int l6), some (.int l7), o8, some (.int l9), some (.int l10), some (.int s0)]) dX12_carries_136 rfl rfl rfl ?_
  refine fx_aload_n dX12_carries_138 rfl rfl ?_
  refine gx_getr dX12_carries_139 rfl fd_12_86 ha0.1 rfl rfl ?_
  refine fx_bipush (x := 40) dX12_carries_142 rfl (by decide) ?_
  refine fx_iload dX12_carries_144 rfl rfl ?_
  obtain ⟨x1, hx1, h⟩ := xLet_el h
  refine fx_imul dX12_carries_146 rfl hx1 ?_
  obtain ⟨hj3, h⟩ := xChk_el h
  obtain ⟨x2, hx2, h⟩ := xLet_el h
  refine gx_iaload dX12_carries_147 rfl ha0.2.2.2.2.2.2.2.2.2.2.2.2.2.2.2.2.2.2.2.2.2.2.2.1 hj3 hx2 ?_
  refine fx_if_ne (t := 155) dX12_carries_148 rfl rfl (fun hc4 => ?_) (fun hc4 => ?_)
  · rw [if_pos hc4] at h
    refine fx_iconst (x := 0) dX12_carries_155 rfl (by decide) ?_
    exact fX12_carries_156_ok (o8 := o8) hd ha0 hrec33 hrec64 q8 h
  · rw [if_neg hc4] at h
    refine fx_iconst (x := 1) dX12_carries_151 rfl (by decide) ?_
    refine fx_goto (t := 156) dX12_carries_152 rfl rfl ?_
    exact fX12_carries_156_ok (o8 := o8) hd ha0 hrec33 hrec64 q8 h
def fX12_carries_103 (a0 : Nat) (a1 : Int32) (a2 : Int32) (a3 : Int32) (a4 : Int32) (rec33 : Int32 → Int32 → Int32 → xMem → Option (Int32 × xMem)) (rec64 : Int32 → Int32 → Int32 → Int32 → Int32 → xMem → Option (Int32 × xMem)) (l5 : Int32) (l6 : Int32) (l7 : Int32) (l9 : Int32) (s0 : Int32) (m : xMem) : Option (Int32 × xMem) := if ¬ a3 = (0 : Int32) then bif xIn (0 : Int32) 80 then xLet (m.1 (a0 + 23) (0 : Int32).toNatClampNeg) fun x2 => if x2 ≤ (0 : Int32) then fX12_carries_136 a0 a1 a2 a3 a4 rec33 rec64 l5 l6 l7 l9 s0 (0 : Int32) m else fX12_carries_136 a0 a1 a2 a3 a4 rec33 rec64 l5 l6 l7 l9 s0 (1 : Int32) m else none else if s0 = (0 : Int32) then fX12_carries_136 a0 a1 a2 a3 a4 rec33 rec64 l5 l6 l7 l9 s0 (0 : Int32) m else fX12_carries_136 a0 a1 a2 a3 a4 rec33 rec64 l5 l6 l7 l9 s0 (1 : Int32) m
set_option maxRecDepth 4000 in
theorem fX12_carries_103_ok {a0 : Nat} {a1 : Int32} {a2 : Int32} {a3 : Int32} {a4 : Int32} {rec33 : Int32 → Int32 → Int32 → xMem → Option (Int32 × xMem)} {rec64 : Int32 → Int32 → Int32 → Int32 → Int32 → xMem → Option (Int32 × xMem)} {d : Nat} (hd : 1 ≤ d) (ha0 : isModel a0) (hrec33 : ∀ (l5 : Int32) (l6 : Int32) (l7 : Int32) (o8 : Option Value) (o9 : Option Value) (o10 : Option Value) (o11 : Option Value) (q8 : xNoD o8 = true) (q9 : xNoD o9 = true) (q10 : xNoD o10 = true) (q11 : xNoD o11 = true) (m : xMem) (r : (Int32 × xMem)), rec33 l5 l6 l7 m = some r → xFx hh_232 cX12_carries d 33 [some (.ref a0), some (.int a1), some (.int a2), some (.int a3), some (.int a4), some (.int l5), some (.int l6), some (.int l7), o8, o9, o10, o11] [] (xLay m) 0 0 (some (.int r.1)) (xLay r.2)) (hrec64 : ∀ (l5 : Int32) (l6 : Int32) (l7 : Int32) (l8 : Int32) (l9 : Int32) (o10 : Option Value) (o11 : Option Value) (q10 : xNoD o10 = true) (q11 : xNoD o11 = true) (m : xMem) (r : (Int32 × xMem)), rec64 l5 l6 l7 l8 l9 m = some r → xFx hh_232 cX12_carries d 64 [some (.ref a0), some (.int a1), some (.int a2), some (.int a3), some (.int a4), some (.int l5), some (.int l6), some (.int l7), some (.int l8), some (.int l9), o10, o11] [] (xLay m) 0 0 (some (.int r.1)) (xLay r.2)) {l5 : Int32} {l6 : Int32} {l7 : Int32} {l9 : Int32} {s0 : Int32} {o8 : Option Value} {o10 : Option Value} {o11 : Option Value} {m : xMem} {r : (Int32 × xMem)} (q8 : xNoD o8 = true) (q10 : xNoD o10 = true) (q11 : xNoD o11 = true) (h : fX12_carries_103 a0 a1 a2 a3 a4 rec33 rec64 l5 l6 l7 l9 s0 m = some r) : xFx hh_232 cX12_carries d 103 [some (.ref a0), some (.int a1), some (.int a2), some (.int a3), some (.int a4), some (.int l5), some (.int l6), some (.int l7), o8, some (.int l9), o10, o11] [.int s0] (xLay m) 0 0 (some (.int r.1)) (xLay r.2) := by
  unfold fX12_carries_103 at h
  refine fx_istore (ls2 := [some (.ref a0), some (.int a1), some (.int a2), some (.int a3), some (.int a4), some (.int l5), some (.int l6), some (.int l7), o8, some (.int l9), some (.int s0), o11]) dX12_carries_103 rfl rfl rfl ?_
  refine fx_iload_n dX12_carries_105 rfl rfl ?_
  refine fx_if_ne (t := 122) dX12_carries_106 rfl rfl (fun hc1 => ?_) (fun hc1 => ?_)
  · rw [if_pos hc1] at h
    refine fx_aload_n dX12_carries_122 rfl rfl ?_
    refine gx_getr dX12_carries_123 rfl fd_12_86 ha0.1 rfl rfl ?_
    refine fx_iconst (x := 0) dX12_carries_126 rfl (by decide) ?_
    obtain ⟨hj3, h⟩ := xChk_el h
    obtain ⟨x2, hx2, h⟩ := xLet_el h
    refine gx_iaload dX12_carries_127 rfl ha0.2.2.2.2.2.2.2.2.2.2.2.2.2.2.2.2.2.2.2.2.2.2.2.1 hj3 hx2 ?_
    refine fx_if_le (t := 135) dX12_carries_128 rfl rfl (fun hc4 => ?_) (fun hc4 => ?_)
    · rw [if_pos hc4] at h
      refine fx_iconst (x := 0) dX12_carries_135 rfl (by decide) ?_
      exact fX12_carries_136_ok (o8 := o8) (o11 := o11) hd ha0 hrec33 hrec64 q8 q11 h
    · rw [if_neg hc4] at h
      refine fx_iconst (x := 1) dX12_carries_131 rfl (by decide) ?_
      refine fx_goto (t := 136) dX12_carries_132 rfl rfl ?_
      exact fX12_carries_136_ok (o8 := o8) (o11 := o11) hd ha0 hrec33 hrec64 q8 q11 h
  · rw [if_neg hc1] at h
    refine fx_iload dX12_carries_109 rfl rfl ?_
    refine fx_if_eq (t := 118) dX12_carries_111 rfl rfl (fun hc5 => ?_) (fun hc5 => ?_)
    · rw [if_pos hc5] at h
      refine fx_iconst (x := 0) dX12_carries_118 rfl (by decide) ?_
      refine fx_goto (t := 136) dX12_carries_119 rfl rfl ?_
      exact fX12_carries_136_ok (o8 := o8) (o11 := o11) hd ha0 hrec33 hrec64 q8 q11 h
    · rw [if_neg hc5] at h
      refine fx_iconst (x := 1) dX12_carries_114 rfl (by decide) ?_
      refine fx_goto (t := 136) dX12_carries_115 rfl rfl ?_
      exact fX12_carries_136_ok (o8 := o8) (o11 := o11) hd ha0 hrec33 hrec64 q8 q11 h
def fX12_carries_102 (a0 : Nat) (a1 : Int32) (a2 : Int32) (a3 : Int32) (a4 : Int32) (rec33 : Int32 → Int32 → Int32 → xMem → Option (Int32 × xMem)) (rec64 : Int32 → Int32 → Int32 → Int32 → Int32 → xMem → Option (Int32 × xMem)) (l5 : Int32) (l6 : Int32) (l7 : Int32) (l9 : Int32) (m : xMem) : Option (Int32 × xMem) := fX12_carries_103 a0 a1 a2 a3 a4 rec33 rec64 l5 l6 l7 l9 (0 : Int32) m
set_option maxRecDepth 4000 in
theorem fX12_carries_102_ok {a0 : Nat} {a1 : Int32} {a2 : Int32} {a3 : Int32} {a4 : Int32} {rec33 : Int32 → Int32 → Int32 → xMem → Option (Int32 × xMem)} {rec64 : Int32 → Int32 → Int32 → Int32 → Int32 → xMem → Option (Int32 × xMem)} {d : Nat} (hd : 1 ≤ d) (ha0 : isModel a0) (hrec33 : ∀ (l5 : Int32) (l6 : Int32) (l7 : Int32) (o8 : Option Value) (o9 : Option Value) (o10 : Option Value) (o11 : Option Value) (q8 : xNoD o8 = true) (q9 : xNoD o9 = true) (q10 : xNoD o10 = true) (q11 : xNoD o11 = true) (m : xMem) (r : (Int32 × xMem)), rec33 l5 l6 l7 m = some r → xFx hh_232 cX12_carries d 33 [some (.ref a0), some (.int a1), some (.int a2), some (.int a3), some (.int a4), some (.int l5), some (.int l6), some (.int l7), o8, o9, o10, o11] [] (xLay m) 0 0 (some (.int r.1)) (xLay r.2)) (hrec64 : ∀ (l5 : Int32) (l6 : Int32) (l7 : Int32) (l8 : Int32) (l9 : Int32) (o10 : Option Value) (o11 : Option Value) (q10 : xNoD o10 = true) (q11 : xNoD o11 = true) (m : xMem) (r : (Int32 × xMem)), rec64 l5 l6 l7 l8 l9 m = some r → xFx hh_232 cX12_carries d 64 [some (.ref a0), some (.int a1), some (.int a2), some (.int a3), some (.int a4), some (.int l5), some (.int l6), some (.int l7), some (.int l8), some (.int l9), o10, o11] [] (xLay m) 0 0 (some (.int r.1)) (xLay r.2)) {l5 : Int32} {l6 : Int32} {l7 : Int32} {l9 : Int32} {o8 : Option Value} {o10 : Option Value} {o11 : Option Value} {m : xMem} {r : (Int32 × xMem)} (q8 : xNoD o8 = true) (q10 : xNoD o10 = true) (q11 : xNoD o11 = true) (h : fX12_carries_102 a0 a1 a2 a3 a4 rec33 rec64 l5 l6 l7 l9 m = some r) : xFx hh_232 cX12_carries d 102 [some (.ref a0), some (.int a1), some (.int a2), some (.int a3), some (.int a4), some (.int l5), some (.int l6), some (.int l7), o8, some (.int l9), o10, o11] [] (xLay m) 0 0 (some (.int r.1)) (xLay r.2) := by
  unfold fX12_carries_102 at h
  refine fx_iconst (x := 0) dX12_carries_102 rfl (by decide) ?_
  exact fX12_carries_103_ok (o8 := o8) (o10 := o10) (o11 := o11) hd ha0 hrec33 hrec64 q8 q10 q11 h
def fX12_carries_192 (a0 : Nat) (a1 : Int32) (a2 : Int32) (a3 : Int32) (a4 : Int32) (rec33 : Int32 → Int32 → Int32 → xMem → Option (Int32 × xMem)) (l5 : Int32) (l6 : Int32) (l7 : Int32) (m : xMem) : Option (Int32 × xMem) := xLet (l7 + (1 : Int32)) fun x1 => rec33 l5 l6 x1 m
set_option maxRecDepth 4000 in
theorem fX12_carries_192_ok {a0 : Nat} {a1 : Int32} {a2 : Int32} {a3 : Int32} {a4 : Int32} {rec33 : Int32 → Int32 → Int32 → xMem → Option (Int32 × xMem)} {d : Nat} (hd : 1 ≤ d) (ha0 : isModel a0) (hrec33 : ∀ (l5 : Int32) (l6 : Int32) (l7 : Int32) (o8 : Option Value) (o9 : Option Value) (o10 : Option Value) (o11 : Option Value) (q8 : xNoD o8 = true) (q9 : xNoD o9 = true) (q10 : xNoD o10 = true) (q11 : xNoD o11 = true) (m : xMem) (r : (Int32 × xMem)), rec33 l5 l6 l7 m = some r → xFx hh_232 cX12_carries d 33 [some (.ref a0), some (.int a1), some (.int a2), some (.int a3), some (.int a4), some (.int l5), some (.int l6), some (.int l7), o8, o9, o10, o11] [] (xLay m) 0 0 (some (.int r.1)) (xLay r.2)) {l5 : Int32} {l6 : Int32} {l7 : Int32} {o8 : Option Value} {o9 : Option Value} {o10 : Option Value} {o11 : Option Value} {m : xMem} {r : (Int32 × xMem)} (q8 : xNoD o8 = true) (q9 : xNoD o9 = true) (q10 : xNoD o10 = true) (q11 : xNoD o11 = true) (h : fX12_carries_192 a0 a1 a2 a3 a4 rec33 l5 l6 l7 m = some r) : xFx hh_232 cX12_carries d 192 [some (.ref a0), some (.int a1), some (.int a2), some (.int a3), some (.int a4), some (.int l5), some (.int l6), some (.int l7), o8, o9, o10, o11] [] (xLay m) 0 0 (some (.int r.1)) (xLay r.2) := by
  unfold fX12_carries_192 at h
  obtain ⟨x1, hx1, h⟩ := xLet_el h
  refine fx_iinc (ls2 := [some (.ref a0), some (.int a1), some (.int a2), some (.int a3), some (.int a4), some (.int l5), some (.int l6), some (.int x1), o8, o9, o10, o11]) dX12_carries_192 rfl rfl rfl hx1 rfl ?_
  refine fx_goto (t := 33) dX12_carries_195 rfl rfl ?_
  exact hrec33 l5 l6 x1 (o8) (o9) (o10) (o11) q8 q9 q10 q11 m r h
def fX12_carries_64 (a0 : Nat) (a1 : Int32) (a2 : Int32) (a3 : Int32) (a4 : Int32) (rec33 : Int32 → Int32 → Int32 → xMem → Option (Int32 × xMem)) : Nat → Int32 → Int32 → Int32 → Int32 → Int32 → xMem → Option (Int32 × xMem)
  | 0, _, _, _, _, _, _ => none
  | fuel + 1, l5, l6, l7, l8, l9, m => if (2 : Int32) ≤ l9 then fX12_carries_192 a0 a1 a2 a3 a4 rec33 l5 l6 l7 m else if l8 = (0 : Int32) then fX12_carries_192 a0 a1 a2 a3 a4 rec33 l5 l6 l7 m else if ¬ a3 = (0 : Int32) then fX12_carries_102 a0 a1 a2 a3 a4 rec33 (fX12_carries_64 a0 a1 a2 a3 a4 rec33 fuel) l5 l6 l7 l9 m else xLet (l6 + (1 : Int32)) fun x4 => xLet (a2 * x4) fun x5 => xLet (x5 / (10 : Int32)) fun x6 => xLet (a2 * l6) fun x7 => xLet (x7 / (10 : Int32)) fun x8 => if x6 ≤ x8 then fX12_carries_102 a0 a1 a2 a3 a4 rec33 (fX12_carries_64 a0 a1 a2 a3 a4 rec33 fuel) l5 l6 l7 l9 m else fX12_carries_103 a0 a1 a2 a3 a4 rec33 (fX12_carries_64 a0 a1 a2 a3 a4 rec33 fuel) l5 l6 l7 l9 (1 : Int32) m
set_option maxRecDepth 4000 in
theorem fX12_carries_64_ok {a0 : Nat} {a1 : Int32} {a2 : Int32} {a3 : Int32} {a4 : Int32} {rec33 : Int32 → Int32 → Int32 → xMem → Option (Int32 × xMem)} {d : Nat} (hd : 1 ≤ d) (ha0 : isModel a0) (hrec33 : ∀ (l5 : Int32) (l6 : Int32) (l7 : Int32) (o8 : Option Value) (o9 : Option Value) (o10 : Option Value) (o11 : Option Value) (q8 : xNoD o8 = true) (q9 : xNoD o9 = true) (q10 : xNoD o10 = true) (q11 : xNoD o11 = true) (m : xMem) (r : (Int32 × xMem)), rec33 l5 l6 l7 m = some r → xFx hh_232 cX12_carries d 33 [some (.ref a0), some (.int a1), some (.int a2), some (.int a3), some (.int a4), some (.int l5), some (.int l6), some (.int l7), o8, o9, o10, o11] [] (xLay m) 0 0 (some (.int r.1)) (xLay r.2)) : ∀ (fuel : Nat) (l5 : Int32) (l6 : Int32) (l7 : Int32) (l8 : Int32) (l9 : Int32) (o10 : Option Value) (o11 : Option Value) (q10 : xNoD o10 = true) (q11 : xNoD o11 = true) (m : xMem) (r : (Int32 × xMem)), fX12_carries_64 a0 a1 a2 a3 a4 rec33 fuel l5 l6 l7 l8 l9 m = some r → xFx hh_232 cX12_carries d 64 [some (.ref a0), some (.int a1), some (.int a2), some (.int a3), some (.int a4), some (.int l5), some (.int l6), some (.int l7), some (.int l8), some (.int l9), o10, o11] [] (xLay m) 0 0 (some (.int r.1)) (xLay r.2) := by
  intro fuel
  induction fuel with
  | zero => intro l5 l6 l7 l8 l9 o10 o11 q10 q11 m r  h; cases h
  | succ fuel ih =>
    intro l5 l6 l7 l8 l9 o10 o11 q10 q11 m r  h
    unfold fX12_carries_64 at h
    refine fx_iload dX12_carries_64 rfl rfl ?_
    refine fx_iconst (x := 2) dX12_carries_66 rfl (by decide) ?_
    refine fx_icmp_ge (t := 192) dX12_carries_67 rfl rfl (fun hc1 => ?_) (fun hc1 => ?_)
    · rw [if_pos hc1] at h
      exact fX12_carries_192_ok (o8 := some (.int l8)) (o9 := some (.int l9)) (o10 := o10) (o11 := o11) hd ha0 hrec33 rfl rfl q10 q11 h
    · rw [if_neg hc1] at h
      refine fx_iload dX12_carries_70 rfl rfl ?_
      refine fx_if_eq (t := 192) dX12_carries_72 rfl rfl (fun hc2 => ?_) (fun hc2 => ?_)
      · rw [if_pos hc2] at h
        exact fX12_carries_192_ok (o8 := some (.int l8)) (o9 := some (.int l9)) (o10 := o10) (o11 := o11) hd ha0 hrec33 rfl rfl q10 q11 h
      · rw [if_neg hc2] at h
        refine fx_iload_n dX12_carries_75 rfl rfl ?_
        refine fx_if_ne (t := 102) dX12_carries_76 rfl rfl (fun hc3 => ?_) (fun hc3 => ?_)
        · rw [if_pos hc3] at h
          exact fX12_carries_102_ok (o8 := some (.int l8)) (o10 := o10) (o11 := o11) hd ha0 hrec33 ih rfl q10 q11 h
        · rw [if_neg hc3] at h
          refine fx_iload_n dX12_carries_79 rfl rfl ?_
          refine fx_iload dX12_carries_80 rfl rfl ?_
          refine fx_iconst (x := 1) dX12_carries_82 rfl (by decide) ?_
          obtain ⟨x4, hx4, h⟩ := xLet_el h
          refine fx_iadd dX12_carries_83 rfl hx4 ?_
          obtain ⟨x5, hx5, h⟩ := xLet_el h
          refine fx_imul dX12_carries_84 rfl hx5 ?_
          refine fx_bipush (x := 10) dX12_carries_85 rfl (by decide) ?_
          obtain ⟨x6, hx6, h⟩ := xLet_el h
          refine fx_idiv dX12_carries_87 rfl (by decide) hx6 ?_
          refine fx_iload_n dX12_carries_88 rfl rfl ?_
          refine fx_iload dX12_carries_89 rfl rfl ?_
          obtain ⟨x7, hx7, h⟩ := xLet_el h
          refine fx_imul dX12_carries_91 rfl hx7 ?_
          refine fx_bipush (x := 10) dX12_carries_92 rfl (by decide) ?_
          obtain ⟨x8, hx8, h⟩ := xLet_el h
          refine fx_idiv dX12_carries_94 rfl (by decide) hx8 ?_
          refine fx_icmp_le (t := 102) dX12_carries_95 rfl rfl (fun hc9 => ?_) (fun hc9 => ?_)
          · rw [if_pos hc9] at h
            exact fX12_carries_102_ok (o8 := some (.int l8)) (o10 := o10) (o11 := o11) hd ha0 hrec33 ih rfl q10 q11 h
          · rw [if_neg hc9] at h
            refine fx_iconst (x := 1) dX12_carries_98 rfl (by decide) ?_
            refine fx_goto (t := 103) dX12_carries_99 rfl rfl ?_
            exact fX12_carries_103_ok (o8 := some (.int l8)) (o10 := o10) (o11 := o11) hd ha0 hrec33 ih rfl q10 q11 h
def fX12_carries_33 (a0 : Nat) (a1 : Int32) (a2 : Int32) (a3 : Int32) (a4 : Int32) : Nat → Int32 → Int32 → Int32 → xMem → Option (Int32 × xMem)
  | 0, _, _, _, _ => none
  | fuel + 1, l5, l6, l7, m => if a4 ≤ l7 then some (l5, m) else (fX12_loneMoves a0 a1 (0 : Int32) m).bind fun p2 => (fX12_loneMoves a0 a1 (1 : Int32) p2.2).bind fun p3 => xLet (p2.1 + p3.1) fun x4 => xLet (l5 + x4) fun x5 => fX12_carries_64 a0 a1 a2 a3 a4 (fX12_carries_33 a0 a1 a2 a3 a4 fuel) xFuel x5 l6 l7 (1 : Int32) (0 : Int32) p3.2
set_option maxRecDepth 4000 in
theorem fX12_carries_33_ok {a0 : Nat} {a1 : Int32} {a2 : Int32} {a3 : Int32} {a4 : Int32} {d : Nat} (hd : 1 ≤ d) (ha0 : isModel a0) : ∀ (fuel : Nat) (l5 : Int32) (l6 : Int32) (l7 : Int32) (o8 : Option Value) (o9 : Option Value) (o10 : Option Value) (o11 : Option Value) (q8 : xNoD o8 = true) (q9 : xNoD o9 = true) (q10 : xNoD o10 = true) (q11 : xNoD o11 = true) (m : xMem) (r : (Int32 × xMem)), fX12_carries_33 a0 a1 a2 a3 a4 fuel l5 l6 l7 m = some r → xFx hh_232 cX12_carries d 33 [some (.ref a0), some (.int a1), some (.int a2), some (.int a3), some (.int a4), some (.int l5), some (.int l6), some (.int l7), o8, o9, o10, o11] [] (xLay m) 0 0 (some (.int r.1)) (xLay r.2) := by
  intro fuel
  induction fuel with
  | zero => intro l5 l6 l7 o8 o9 o10 o11 q8 q9 q10 q11 m r  h; cases h
  | succ fuel ih =>
    intro l5 l6 l7 o8 o9 o10 o11 q8 q9 q10 q11 m r  h
    unfold fX12_carries_33 at h
    refine fx_iload dX12_carries_33 rfl rfl ?_
    refine fx_iload dX12_carries_35 rfl rfl ?_
    refine fx_icmp_ge (t := 198) dX12_carries_37 rfl rfl (fun hc1 => ?_) (fun hc1 => ?_)
    · rw [if_pos hc1] at h
      refine fx_iload dX12_carries_198 rfl rfl ?_
      cases h
      exact fx_ireturn dX12_carries_200 rfl rfl
    · rw [if_neg hc1] at h
      refine fx_iload dX12_carries_40 rfl rfl ?_
      refine fx_aload_n dX12_carries_42 rfl rfl ?_
      refine fx_iload_n dX12_carries_43 rfl rfl ?_
      refine fx_iconst (x := 0) dX12_carries_44 rfl (by decide) ?_
      obtain ⟨p2, ep2, h⟩ := xBind_el h
      refine gx_callv (as := [.int a1, .int (0 : Int32)]) (r := [.int l5]) rfl dX12_carries_45 ca_12_402 rfl me_233 rfl rfl rfl rfl (ha0.1) rfl (fX12_loneMoves_ok (d := d) (by omega) ha0 ep2) rfl rfl ?_
      refine fx_aload_n dX12_carries_48 rfl rfl ?_
      refine fx_iload_n dX12_carries_49 rfl rfl ?_
      refine fx_iconst (x := 1) dX12_carries_50 rfl (by decide) ?_
      obtain ⟨p3, ep3, h⟩ := xBind_el h
      refine gx_callv (as := [.int a1, .int (1 : Int32)]) (r := [.int p2.1, .int l5]) rfl dX12_carries_51 ca_12_402 rfl me_233 rfl rfl rfl rfl (ha0.1) rfl (fX12_loneMoves_ok (d := d) (by omega) ha0 ep3) rfl rfl ?_
      obtain ⟨x4, hx4, h⟩ := xLet_el h
      refine fx_iadd dX12_carries_54 rfl hx4 ?_
      obtain ⟨x5, hx5, h⟩ := xLet_el h
      refine fx_iadd dX12_carries_55 rfl hx5 ?_
      refine fx_istore (ls2 := [some (.ref a0), some (.int a1), some (.int a2), some (.int a3), some (.int a4), some (.int x5), some (.int l6), some (.int l7), o8, o9, o10, o11]) dX12_carries_56 rfl rfl rfl ?_
      refine fx_iconst (x := 1) dX12_carries_58 rfl (by decide) ?_
      refine fx_istore (ls2 := [some (.ref a0), some (.int a1), some (.int a2), some (.int a3), some (.int a4), some (.int x5), some (.int l6), some (.int l7), some (.int (1 : Int32)), o9, o10, o11]) dX12_carries_59 rfl rfl rfl ?_
      refine fx_iconst (x := 0) dX12_carries_61 rfl (by decide) ?_
      refine fx_istore (ls2 := [some (.ref a0), some (.int a1), some (.int a2), some (.int a3), some (.int a4), some (.int x5), some (.int l6), some (.int l7), some (.int (1 : Int32)), some (.int (0 : Int32)), o10, o11]) dX12_carries_62 rfl rfl rfl ?_
      exact fX12_carries_64_ok hd ha0 ih xFuel x5 l6 l7 (1 : Int32) (0 : Int32) (o10) (o11) q10 q11 p3.2 r h
def fX12_carries_3 (a0 : Nat) (a1 : Int32) (a2 : Int32) (a3 : Int32) (a4 : Int32) : Nat → Int32 → xMem → Option (Int32 × xMem)
  | 0, _, _ => none
  | fuel + 1, l5, m => if (80 : Int32) ≤ l5 then fX12_carries_33 a0 a1 a2 a3 a4 xFuel (0 : Int32) (0 : Int32) (0 : Int32) m else bif xIn l5 80 then xLet (xPut m (a0 + 23) l5.toNatClampNeg (0 : Int32)) fun m2 => xLet (l5 + (1 : Int32)) fun x4 => fX12_carries_3 a0 a1 a2 a3 a4 fuel x4 m2 else none
set_option maxRecDepth 4000 in
theorem fX12_carries_3_ok {a0 : Nat} {a1 : Int32} {a2 : Int32} {a3 : Int32} {a4 : Int32} {d : Nat} (hd : 1 ≤ d) (ha0 : isModel a0) : ∀ (fuel : Nat) (l5 : Int32) (o6 : Option Value) (o7 : Option Value) (o8 : Option Value) (o9 : Option Value) (o10 : Option Value) (o11 : Option Value) (q6 : xNoD o6 = true) (q7 : xNoD o7 = true) (q8 : xNoD o8 = true) (q9 : xNoD o9 = true) (q10 : xNoD o10 = true) (q11 : xNoD o11 = true) (m : xMem) (r : (Int32 × xMem)), fX12_carries_3 a0 a1 a2 a3 a4 fuel l5 m = some r → xFx hh_232 cX12_carries d 3 [some (.ref a0), some (.int a1), some (.int a2), some (.int a3), some (.int a4), some (.int l5), o6, o7, o8, o9, o10, o11] [] (xLay m) 0 0 (some (.int r.1)) (xLay r.2) := by
  intro fuel
  induction fuel with
  | zero => intro l5 o6 o7 o8 o9 o10 o11 q6 q7 q8 q9 q10 q11 m r  h; cases h
  | succ fuel ih =>
    intro l5 o6 o7 o8 o9 o10 o11 q6 q7 q8 q9 q10 q11 m r  h
    unfold fX12_carries_3 at h
    refine fx_iload dX12_carries_3 rfl rfl ?_
    refine fx_bipush (x := 80) dX12_carries_5 rfl (by decide) ?_
    refine fx_icmp_ge (t := 24) dX12_carries_7 rfl rfl (fun hc1 => ?_) (fun hc1 => ?_)
    · rw [if_pos hc1] at h
      refine fx_iconst (x := 0) dX12_carries_24 rfl (by decide) ?_
      refine fx_istore (ls2 := [some (.ref a0), some (.int a1), some (.int a2), some (.int a3), some (.int a4), some (.int (0 : Int32)), o6, o7, o8, o9, o10, o11]) dX12_carries_25 rfl rfl rfl ?_
      refine fx_iconst (x := 0) dX12_carries_27 rfl (by decide) ?_
      refine fx_istore (ls2 := [some (.ref a0), some (.int a1), some (.int a2), some (.int a3), some (.int a4), some (.int (0 : Int32)), some (.int (0 : Int32)), o7, o8, o9, o10, o11]) dX12_carries_28 rfl rfl rfl ?_
      refine fx_iconst (x := 0) dX12_carries_30 rfl (by decide) ?_
      refine fx_istore (ls2 := [some (.ref a0), some (.int a1), some (.int a2), some (.int a3), some (.int a4), some (.int (0 : Int32)), some (.int (0 : Int32)), some (.int (0 : Int32)), o8, o9, o10, o11]) dX12_carries_31 rfl rfl rfl ?_
      exact fX12_carries_33_ok hd ha0 xFuel (0 : Int32) (0 : Int32) (0 : Int32) (o8) (o9) (o10) (o11) q8 q9 q10 q11 m r h
    · rw [if_neg hc1] at h
      refine fx_aload_n dX12_carries_10 rfl rfl ?_
      refine gx_getr dX12_carries_11 rfl fd_12_86 ha0.1 rfl rfl ?_
      refine fx_iload dX12_carries_14 rfl rfl ?_
      refine fx_iconst (x := 0) dX12_carries_16 rfl (by decide) ?_
      obtain ⟨hj3, h⟩ := xChk_el h
      obtain ⟨m2, hm2, h⟩ := xLet_el h
      refine gx_iastore dX12_carries_17 rfl ha0.2.2.2.2.2.2.2.2.2.2.2.2.2.2.2.2.2.2.2.2.2.2.2.1 hj3 hm2 ?_
      obtain ⟨x4, hx4, h⟩ := xLet_el h
      refine fx_iinc (ls2 := [some (.ref a0), some (.int a1), some (.int a2), some (.int a3), some (.int a4), some (.int x4), o6, o7, o8, o9, o10, o11]) dX12_carries_18 rfl rfl rfl hx4 rfl ?_
      refine fx_goto (t := 3) dX12_carries_21 rfl rfl ?_
      exact ih x4 (o6) (o7) (o8) (o9) (o10) (o11) q6 q7 q8 q9 q10 q11 m2 r h
def fX12_carries_0 (a0 : Nat) (a1 : Int32) (a2 : Int32) (a3 : Int32) (a4 : Int32) (m : xMem) : Option (Int32 × xMem) := fX12_carries_3 a0 a1 a2 a3 a4 xFuel (0 : Int32) m
set_option maxRecDepth 4000 in
theorem fX12_carries_0_ok {a0 : Nat} {a1 : Int32} {a2 : Int32} {a3 : Int32} {a4 : Int32} {d : Nat} (hd : 1 ≤ d) (ha0 : isModel a0) {o5 : Option Value} {o6 : Option Value} {o7 : Option Value} {o8 : Option Value} {o9 : Option Value} {o10 : Option Value} {o11 : Option Value} {m : xMem} {r : (Int32 × xMem)} (q5 : xNoD o5 = true) (q6 : xNoD o6 = true) (q7 : xNoD o7 = true) (q8 : xNoD o8 = true) (q9 : xNoD o9 = true) (q10 : xNoD o10 = true) (q11 : xNoD o11 = true) (h : fX12_carries_0 a0 a1 a2 a3 a4 m = some r) : xFx hh_232 cX12_carries d 0 [some (.ref a0), some (.int a1), some (.int a2), some (.int a3), some (.int a4), o5, o6, o7, o8, o9, o10, o11] [] (xLay m) 0 0 (some (.int r.1)) (xLay r.2) := by
  unfold fX12_carries_0 at h
  refine fx_iconst (x := 0) dX12_carries_0 rfl (by decide) ?_
  refine fx_istore (ls2 := [some (.ref a0), some (.int a1), some (.int a2), some (.int a3), some (.int a4), some (.int (0 : Int32)), o6, o7, o8, o9, o10, o11]) dX12_carries_1 rfl rfl rfl ?_
  exact fX12_carries_3_ok hd ha0 xFuel (0 : Int32) (o6) (o7) (o8) (o9) (o10) (o11) q6 q7 q8 q9 q10 q11 m r h
def fX12_carries (a0 : Nat) (a1 : Int32) (a2 : Int32) (a3 : Int32) (a4 : Int32) (m : xMem) : Option (Int32 × xMem) := fX12_carries_0 a0 a1 a2 a3 a4  m
theorem fX12_carries_ok {a0 : Nat} {a1 : Int32} {a2 : Int32} {a3 : Int32} {a4 : Int32} {m : xMem} {r : (Int32 × xMem)} {d : Nat} (hd : 2 ≤ d) (ha0 : isModel a0) (h : fX12_carries a0 a1 a2 a3 a4 m = some r) : xEx d 232 [.ref a0, .int a1, .int a2, .int a3, .int a4] (xLay m) (some (.int r.1)) (xLay r.2) := by
  obtain ⟨d, rfl⟩ : ∃ q, d = q + 1 := ⟨d - 1, by omega⟩
  exact xEx_of me_232 rfl (fX12_carries_0_ok (d := d) (o5 := none) (o6 := none) (o7 := none) (o8 := none) (o9 := none) (o10 := none) (o11 := none) (by omega) ha0 rfl rfl rfl rfl rfl rfl rfl h)
def fX12_alone_54 (a0 : Nat) (a1 : Int32) (a2 : Int32) (a3 : Int32) (a4 : Int32) (s0 : Int32) (m : xMem) : Option (Int32 × xMem) := some (s0, m)
set_option maxRecDepth 4000 in
theorem fX12_alone_54_ok {a0 : Nat} {a1 : Int32} {a2 : Int32} {a3 : Int32} {a4 : Int32} {d : Nat} (hd : 2 ≤ d) (ha0 : isModel a0) {s0 : Int32} {m : xMem} {r : (Int32 × xMem)} (h : fX12_alone_54 a0 a1 a2 a3 a4 s0 m = some r) : xFx hh_231 cX12_alone d 54 [some (.ref a0), some (.int a1), some (.int a2), some (.int a3), some (.int a4)] [.int s0] (xLay m) 0 0 (some (.int r.1)) (xLay r.2) := by
  unfold fX12_alone_54 at h
  cases h
  exact fx_ireturn dX12_alone_54 rfl rfl
def fX12_alone_53 (a0 : Nat) (a1 : Int32) (a2 : Int32) (a3 : Int32) (a4 : Int32) (m : xMem) : Option (Int32 × xMem) := fX12_alone_54 a0 a1 a2 a3 a4 (-1 : Int32) m
set_option maxRecDepth 4000 in
theorem fX12_alone_53_ok {a0 : Nat} {a1 : Int32} {a2 : Int32} {a3 : Int32} {a4 : Int32} {d : Nat} (hd : 2 ≤ d) (ha0 : isModel a0) {m : xMem} {r : (Int32 × xMem)} (h : fX12_alone_53 a0 a1 a2 a3 a4 m = some r) : xFx hh_231 cX12_alone d 53 [some (.ref a0), some (.int a1), some (.int a2), some (.int a3), some (.int a4)] [] (xLay m) 0 0 (some (.int r.1)) (xLay r.2) := by
  unfold fX12_alone_53 at h
  refine fx_iconst (x := -1) dX12_alone_53 rfl (by decide) ?_
  exact fX12_alone_54_ok hd ha0 h
def fX12_alone_0 (a0 : Nat) (a1 : Int32) (a2 : Int32) (a3 : Int32) (a4 : Int32) (m : xMem) : Option (Int32 × xMem) := (fX12_in a1 (2 : Int32) (40 : Int32) m).bind fun p1 => if p1.1 = (0 : Int32) then fX12_alone_53 a0 a1 a2 a3 a4 p1.2 else (fX12_in a2 (0 : Int32) (10 : Int32) p1.2).bind fun p3 => if p3.1 = (0 : Int32) then fX12_alone_53 a0 a1 a2 a3 a4 p3.2 else (fX12_in a3 (0 : Int32) (1 : Int32) p3.2).bind fun p5 => if p5.1 = (0 : Int32) then fX12_alone_53 a0 a1 a2 a3 a4 p5.2 else (fX12_in a4 (1 : Int32) (999 : Int32) p5.2).bind fun p7 => if p7.1 = (0 : Int32) then fX12_alone_53 a0 a1 a2 a3 a4 p7.2 else (fX12_carries a0 a1 a2 a3 a4 p7.2).bind fun p9 => fX12_alone_54 a0 a1 a2 a3 a4 p9.1 p9.2
set_option maxRecDepth 4000 in
theorem fX12_alone_0_ok {a0 : Nat} {a1 : Int32} {a2 : Int32} {a3 : Int32} {a4 : Int32} {d : Nat} (hd : 2 ≤ d) (ha0 : isModel a0) {m : xMem} {r : (Int32 × xMem)} (h : fX12_alone_0 a0 a1 a2 a3 a4 m = some r) : xFx hh_231 cX12_alone d 0 [some (.ref a0), some (.int a1), some (.int a2), some (.int a3), some (.int a4)] [] (xLay m) 0 0 (some (.int r.1)) (xLay r.2) := by
  unfold fX12_alone_0 at h
  refine fx_iload_n dX12_alone_0 rfl rfl ?_
  refine fx_iconst (x := 2) dX12_alone_1 rfl (by decide) ?_
  refine fx_bipush (x := 40) dX12_alone_2 rfl (by decide) ?_
  obtain ⟨p1, ep1, h⟩ := xBind_el h
  refine gx_calls (as := [.int a1, .int (2 : Int32), .int (40 : Int32)]) (r := []) rfl dX12_alone_4 ca_12_95 rfl me_18 rfl rfl rfl rfl (fX12_in_ok (d := d) (by omega) ep1) rfl rfl ?_
  refine fx_if_eq (t := 53) dX12_alone_7 rfl rfl (fun hc2 => ?_) (fun hc2 => ?_)
  · rw [if_pos hc2] at h
    exact fX12_alone_53_ok hd ha0 h
  · rw [if_neg hc2] at h
    refine fx_iload_n dX12_alone_10 rfl rfl ?_
    refine fx_iconst (x := 0) dX12_alone_11 rfl (by decide) ?_
    refine fx_bipush (x := 10) dX12_alone_12 rfl (by decide) ?_
    obtain ⟨p3, ep3, h⟩ := xBind_el h
    refine gx_calls (as := [.int a2, .int (0 : Int32), .int (10 : Int32)]) (r := []) rfl dX12_alone_14 ca_12_95 rfl me_18 rfl rfl rfl rfl (fX12_in_ok (d := d) (by omega) ep3) rfl rfl ?_
    refine fx_if_eq (t := 53) dX12_alone_17 rfl rfl (fun hc4 => ?_) (fun hc4 => ?_)
    · rw [if_pos hc4] at h
      exact fX12_alone_53_ok hd ha0 h
    · rw [if_neg hc4] at h
      refine fx_iload_n dX12_alone_20 rfl rfl ?_
      refine fx_iconst (x := 0) dX12_alone_21 rfl (by decide) ?_
      refine fx_iconst (x := 1) dX12_alone_22 rfl (by decide) ?_
      obtain ⟨p5, ep5, h⟩ := xBind_el h
      refine gx_calls (as := [.int a3, .int (0 : Int32), .int (1 : Int32)]) (r := []) rfl dX12_alone_23 ca_12_95 rfl me_18 rfl rfl rfl rfl (fX12_in_ok (d := d) (by omega) ep5) rfl rfl ?_
      refine fx_if_eq (t := 53) dX12_alone_26 rfl rfl (fun hc6 => ?_) (fun hc6 => ?_)
      · rw [if_pos hc6] at h
        exact fX12_alone_53_ok hd ha0 h
      · rw [if_neg hc6] at h
        refine fx_iload dX12_alone_29 rfl rfl ?_
        refine fx_iconst (x := 1) dX12_alone_31 rfl (by decide) ?_
        refine fx_sipush (x := 999) dX12_alone_32 rfl (by decide) ?_
        obtain ⟨p7, ep7, h⟩ := xBind_el h
        refine gx_calls (as := [.int a4, .int (1 : Int32), .int (999 : Int32)]) (r := []) rfl dX12_alone_35 ca_12_95 rfl me_18 rfl rfl rfl rfl (fX12_in_ok (d := d) (by omega) ep7) rfl rfl ?_
        refine fx_if_eq (t := 53) dX12_alone_38 rfl rfl (fun hc8 => ?_) (fun hc8 => ?_)
        · rw [if_pos hc8] at h
          exact fX12_alone_53_ok hd ha0 h
        · rw [if_neg hc8] at h
          refine fx_aload_n dX12_alone_41 rfl rfl ?_
          refine fx_iload_n dX12_alone_42 rfl rfl ?_
          refine fx_iload_n dX12_alone_43 rfl rfl ?_
          refine fx_iload_n dX12_alone_44 rfl rfl ?_
          refine fx_iload dX12_alone_45 rfl rfl ?_
          obtain ⟨p9, ep9, h⟩ := xBind_el h
          refine gx_callv (as := [.int a1, .int a2, .int a3, .int a4]) (r := []) rfl dX12_alone_47 ca_12_405 rfl me_232 rfl rfl rfl rfl (ha0.1) rfl (fX12_carries_ok (d := d) (by omega) ha0 ep9) rfl rfl ?_
          refine fx_goto (t := 54) dX12_alone_50 rfl rfl ?_
          exact fX12_alone_54_ok hd ha0 h
def fX12_alone (a0 : Nat) (a1 : Int32) (a2 : Int32) (a3 : Int32) (a4 : Int32) (m : xMem) : Option (Int32 × xMem) := fX12_alone_0 a0 a1 a2 a3 a4  m
theorem fX12_alone_ok {a0 : Nat} {a1 : Int32} {a2 : Int32} {a3 : Int32} {a4 : Int32} {m : xMem} {r : (Int32 × xMem)} {d : Nat} (hd : 3 ≤ d) (ha0 : isModel a0) (h : fX12_alone a0 a1 a2 a3 a4 m = some r) : xEx d 231 [.ref a0, .int a1, .int a2, .int a3, .int a4] (xLay m) (some (.int r.1)) (xLay r.2) := by
  obtain ⟨d, rfl⟩ : ∃ q, d = q + 1 := ⟨d - 1, by omega⟩
  exact xEx_of me_231 rfl (fX12_alone_0_ok (d := d) (by omega) ha0 h)
def fX11_crossing_22 (a0 : Nat) (a1 : Int32) (a2 : Int32) : Nat → Int32 → Int32 → xMem → Option (Int32 × xMem)
  | 0, _, _, _ => none
  | fuel + 1, l3, l4, m => if (10 : Int32) < l4 then some ((-1 : Int32), m) else (fX11_carriedAlone a0 a1 l4 (0 : Int32) a2 m).bind fun p2 => if p2.1 < l3 then xLet (l4 + (1 : Int32)) fun x4 => fX11_crossing_22 a0 a1 a2 fuel l3 x4 p2.2 else some (l4, p2.2)
set_option maxRecDepth 4000 in
theorem fX11_crossing_22_ok {a0 : Nat} {a1 : Int32} {a2 : Int32} {d : Nat} (hd : 6 ≤ d) (ha0 : isMS a0) : ∀ (fuel : Nat) (l3 : Int32) (l4 : Int32) (m : xMem) (r : (Int32 × xMem)), fX11_crossing_22 a0 a1 a2 fuel l3 l4 m = some r → xFx hh_234 cX11_crossing d 22 [some (.ref a0), some (.int a1), some (.int a2), some (.int l3), some (.int l4)] [] (xLay m) 0 0 (some (.int r.1)) (xLay r.2) := by
  intro fuel
  induction fuel with
  | zero => intro l3 l4  m r  h; cases h
  | succ fuel ih =>
    intro l3 l4  m r  h
    unfold fX11_crossing_22 at h
    refine fx_iload dX11_crossing_22 rfl rfl ?_
    refine fx_bipush (x := 10) dX11_crossing_24 rfl (by decide) ?_
    refine fx_icmp_gt (t := 51) dX11_crossing_26 rfl rfl (fun hc1 => ?_) (fun hc1 => ?_)
    · rw [if_pos hc1] at h
      refine fx_iconst (x := -1) dX11_crossing_51 rfl (by decide) ?_
      cases h
      exact fx_ireturn dX11_crossing_52 rfl rfl
    · rw [if_neg hc1] at h
      refine fx_aload_n dX11_crossing_29 rfl rfl ?_
      refine fx_iload_n dX11_crossing_30 rfl rfl ?_
      refine fx_iload dX11_crossing_31 rfl rfl ?_
      refine fx_iconst (x := 0) dX11_crossing_33 rfl (by decide) ?_
      refine fx_iload_n dX11_crossing_34 rfl rfl ?_
      obtain ⟨p2, ep2, h⟩ := xBind_el h
      refine gx_callv (as := [.int a1, .int l4, .int (0 : Int32), .int a2]) (r := []) rfl dX11_crossing_35 ca_11_265 rfl me_229 rfl rfl rfl rfl (ha0.1) rfl (fX11_carriedAlone_ok (d := d) (by omega) ha0 ep2) rfl rfl ?_
      refine fx_iload_n dX11_crossing_38 rfl rfl ?_
      refine fx_icmp_lt (t := 45) dX11_crossing_39 rfl rfl (fun hc3 => ?_) (fun hc3 => ?_)
      · rw [if_pos hc3] at h
        obtain ⟨x4, hx4, h⟩ := xLet_el h
        refine fx_iinc (ls2 := [some (.ref a0), some (.int a1), some (.int a2), some (.int l3), some (.int x4)]) dX11_crossing_45 rfl rfl rfl hx4 rfl ?_
        refine fx_goto (t := 22) dX11_crossing_48 rfl rfl ?_
        exact ih l3 x4 p2.2 r h
      · rw [if_neg hc3] at h
        refine fx_iload dX11_crossing_42 rfl rfl ?_
        cases h
        exact fx_ireturn dX11_crossing_44 rfl rfl
def fX11_crossing_0 (a0 : Nat) (a1 : Int32) (a2 : Int32) (m : xMem) : Option (Int32 × xMem) := (fX11_mayStandAlone a1 a2 m).bind fun p1 => if ¬ p1.1 = (0 : Int32) then (fX11_carriedAlone a0 a1 (0 : Int32) (1 : Int32) a2 p1.2).bind fun p3 => fX11_crossing_22 a0 a1 a2 xFuel p3.1 (0 : Int32) p3.2 else some ((-1 : Int32), p1.2)
set_option maxRecDepth 4000 in
theorem fX11_crossing_0_ok {a0 : Nat} {a1 : Int32} {a2 : Int32} {d : Nat} (hd : 6 ≤ d) (ha0 : isMS a0) {o3 : Option Value} {o4 : Option Value} {m : xMem} {r : (Int32 × xMem)} (q3 : xNoD o3 = true) (q4 : xNoD o4 = true) (h : fX11_crossing_0 a0 a1 a2 m = some r) : xFx hh_234 cX11_crossing d 0 [some (.ref a0), some (.int a1), some (.int a2), o3, o4] [] (xLay m) 0 0 (some (.int r.1)) (xLay r.2) := by
  unfold fX11_crossing_0 at h
  refine fx_iload_n dX11_crossing_0 rfl rfl ?_
  refine fx_iload_n dX11_crossing_1 rfl rfl ?_
  obtain ⟨p1, ep1, h⟩ := xBind_el h
  refine gx_calls (as := [.int a1, .int a2]) (r := []) rfl dX11_crossing_2 ca_11_261 rfl me_228 rfl rfl rfl rfl (fX11_mayStandAlone_ok (d := d) (by omega) ep1) rfl rfl ?_
  refine fx_if_ne (t := 10) dX11_crossing_5 rfl rfl (fun hc2 => ?_) (fun hc2 => ?_)
  · rw [if_pos hc2] at h
    refine fx_aload_n dX11_crossing_10 rfl rfl ?_
    refine fx_iload_n dX11_crossing_11 rfl rfl ?_
    refine fx_iconst (x := 0) dX11_crossing_12 rfl (by decide) ?_
    refine fx_iconst (x := 1) dX11_crossing_13 rfl (by decide) ?_
    refine fx_iload_n dX11_crossing_14 rfl rfl ?_
    obtain ⟨p3, ep3, h⟩ := xBind_el h
    refine gx_callv (as := [.int a1, .int (0 : Int32), .int (1 : Int32), .int a2]) (r := []) rfl dX11_crossing_15 ca_11_265 rfl me_229 rfl rfl rfl rfl (ha0.1) rfl (fX11_carriedAlone_ok (d := d) (by omega) ha0 ep3) rfl rfl ?_
    refine fx_istore_n (ls2 := [some (.ref a0), some (.int a1), some (.int a2), some (.int p3.1), o4]) dX11_crossing_18 rfl rfl rfl ?_
    refine fx_iconst (x := 0) dX11_crossing_19 rfl (by decide) ?_
    refine fx_istore (ls2 := [some (.ref a0), some (.int a1), some (.int a2), some (.int p3.1), some (.int (0 : Int32))]) dX11_crossing_20 rfl rfl rfl ?_
    exact fX11_crossing_22_ok hd ha0 xFuel p3.1 (0 : Int32) p3.2 r h
  · rw [if_neg hc2] at h
    refine fx_iconst (x := -1) dX11_crossing_8 rfl (by decide) ?_
    cases h
    exact fx_ireturn dX11_crossing_9 rfl rfl
def fX11_crossing (a0 : Nat) (a1 : Int32) (a2 : Int32) (m : xMem) : Option (Int32 × xMem) := fX11_crossing_0 a0 a1 a2  m
theorem fX11_crossing_ok {a0 : Nat} {a1 : Int32} {a2 : Int32} {m : xMem} {r : (Int32 × xMem)} {d : Nat} (hd : 7 ≤ d) (ha0 : isMS a0) (h : fX11_crossing a0 a1 a2 m = some r) : xEx d 234 [.ref a0, .int a1, .int a2] (xLay m) (some (.int r.1)) (xLay r.2) := by
  obtain ⟨d, rfl⟩ : ∃ q, d = q + 1 := ⟨d - 1, by omega⟩
  exact xEx_of me_234 rfl (fX11_crossing_0_ok (d := d) (o3 := none) (o4 := none) (by omega) ha0 rfl rfl h)
def fX12_crossing_21 (a0 : Nat) (a1 : Int32) (a2 : Int32) (m : xMem) : Option (Int32 × xMem) := some ((-1 : Int32), m)
set_option maxRecDepth 4000 in
theorem fX12_crossing_21_ok {a0 : Nat} {a1 : Int32} {a2 : Int32} {d : Nat} (hd : 2 ≤ d) (ha0 : isModel a0) {o3 : Option Value} {o4 : Option Value} {m : xMem} {r : (Int32 × xMem)} (q3 : xNoD o3 = true) (q4 : xNoD o4 = true) (h : fX12_crossing_21 a0 a1 a2 m = some r) : xFx hh_235 cX12_crossing d 21 [some (.ref a0), some (.int a1), some (.int a2), o3, o4] [] (xLay m) 0 0 (some (.int r.1)) (xLay r.2) := by
  unfold fX12_crossing_21 at h
  refine fx_iconst (x := -1) dX12_crossing_21 rfl (by decide) ?_
  cases h
  exact fx_ireturn dX12_crossing_22 rfl rfl
def fX12_crossing_35 (a0 : Nat) (a1 : Int32) (a2 : Int32) : Nat → Int32 → Int32 → xMem → Option (Int32 × xMem)
  | 0, _, _, _ => none
  | fuel + 1, l3, l4, m => if (11 : Int32) ≤ l4 then some ((-1 : Int32), m) else (fX12_carries a0 a1 l4 (0 : Int32) a2 m).bind fun p2 => if p2.1 < l3 then xLet (l4 + (1 : Int32)) fun x4 => fX12_crossing_35 a0 a1 a2 fuel l3 x4 p2.2 else some (l4, p2.2)
set_option maxRecDepth 4000 in
theorem fX12_crossing_35_ok {a0 : Nat} {a1 : Int32} {a2 : Int32} {d : Nat} (hd : 2 ≤ d) (ha0 : isModel a0) : ∀ (fuel : Nat) (l3 : Int32) (l4 : Int32) (m : xMem) (r : (Int32 × xMem)), fX12_crossing_35 a0 a1 a2 fuel l3 l4 m = some r → xFx hh_235 cX12_crossing d 35 [some (.ref a0), some (.int a1), some (.int a2), some (.int l3), some (.int l4)] [] (xLay m) 0 0 (some (.int r.1)) (xLay r.2) := by
  intro fuel
  induction fuel with
  | zero => intro l3 l4  m r  h; cases h
  | succ fuel ih =>
    intro l3 l4  m r  h
    unfold fX12_crossing_35 at h
    refine fx_iload dX12_crossing_35 rfl rfl ?_
    refine fx_bipush (x := 11) dX12_crossing_37 rfl (by decide) ?_
    refine fx_icmp_ge (t := 64) dX12_crossing_39 rfl rfl (fun hc1 => ?_) (fun hc1 => ?_)
    · rw [if_pos hc1] at h
      refine fx_iconst (x := -1) dX12_crossing_64 rfl (by decide) ?_
      cases h
      exact fx_ireturn dX12_crossing_65 rfl rfl
    · rw [if_neg hc1] at h
      refine fx_aload_n dX12_crossing_42 rfl rfl ?_
      refine fx_iload_n dX12_crossing_43 rfl rfl ?_
      refine fx_iload dX12_crossing_44 rfl rfl ?_
      refine fx_iconst (x := 0) dX12_crossing_46 rfl (by decide) ?_
      refine fx_iload_n dX12_crossing_47 rfl rfl ?_
      obtain ⟨p2, ep2, h⟩ := xBind_el h
      refine gx_callv (as := [.int a1, .int l4, .int (0 : Int32), .int a2]) (r := []) rfl dX12_crossing_48 ca_12_405 rfl me_232 rfl rfl rfl rfl (ha0.1) rfl (fX12_carries_ok (d := d) (by omega) ha0 ep2) rfl rfl ?_
      refine fx_iload_n dX12_crossing_51 rfl rfl ?_
      refine fx_icmp_lt (t := 58) dX12_crossing_52 rfl rfl (fun hc3 => ?_) (fun hc3 => ?_)
      · rw [if_pos hc3] at h
        obtain ⟨x4, hx4, h⟩ := xLet_el h
        refine fx_iinc (ls2 := [some (.ref a0), some (.int a1), some (.int a2), some (.int l3), some (.int x4)]) dX12_crossing_58 rfl rfl rfl hx4 rfl ?_
        refine fx_goto (t := 35) dX12_crossing_61 rfl rfl ?_
        exact ih l3 x4 p2.2 r h
      · rw [if_neg hc3] at h
        refine fx_iload dX12_crossing_55 rfl rfl ?_
        cases h
        exact fx_ireturn dX12_crossing_57 rfl rfl
def fX12_crossing_0 (a0 : Nat) (a1 : Int32) (a2 : Int32) (m : xMem) : Option (Int32 × xMem) := (fX12_in a1 (2 : Int32) (40 : Int32) m).bind fun p1 => if p1.1 = (0 : Int32) then fX12_crossing_21 a0 a1 a2 p1.2 else (fX12_in a2 (1 : Int32) (999 : Int32) p1.2).bind fun p3 => if ¬ p3.1 = (0 : Int32) then (fX12_carries a0 a1 (0 : Int32) (1 : Int32) a2 p3.2).bind fun p5 => fX12_crossing_35 a0 a1 a2 xFuel p5.1 (0 : Int32) p5.2 else fX12_crossing_21 a0 a1 a2 p3.2
set_option maxRecDepth 4000 in
theorem fX12_crossing_0_ok {a0 : Nat} {a1 : Int32} {a2 : Int32} {d : Nat} (hd : 2 ≤ d) (ha0 : isModel a0) {o3 : Option Value} {o4 : Option Value} {m : xMem} {r : (Int32 × xMem)} (q3 : xNoD o3 = true) (q4 : xNoD o4 = true) (h : fX12_crossing_0 a0 a1 a2 m = some r) : xFx hh_235 cX12_crossing d 0 [some (.ref a0), some (.int a1), some (.int a2), o3, o4] [] (xLay m) 0 0 (some (.int r.1)) (xLay r.2) := by
  unfold fX12_crossing_0 at h
  refine fx_iload_n dX12_crossing_0 rfl rfl ?_
  refine fx_iconst (x := 2) dX12_crossing_1 rfl (by decide) ?_
  refine fx_bipush (x := 40) dX12_crossing_2 rfl (by decide) ?_
  obtain ⟨p1, ep1, h⟩ := xBind_el h
  refine gx_calls (as := [.int a1, .int (2 : Int32), .int (40 : Int32)]) (r := []) rfl dX12_crossing_4 ca_12_95 rfl me_18 rfl rfl rfl rfl (fX12_in_ok (d := d) (by omega) ep1) rfl rfl ?_
  refine fx_if_eq (t := 21) dX12_crossing_7 rfl rfl (fun hc2 => ?_) (fun hc2 => ?_)
  · rw [if_pos hc2] at h
    exact fX12_crossing_21_ok (o3 := o3) (o4 := o4) hd ha0 q3 q4 h
  · rw [if_neg hc2] at h
    refine fx_iload_n dX12_crossing_10 rfl rfl ?_
    refine fx_iconst (x := 1) dX12_crossing_11 rfl (by decide) ?_
    refine fx_sipush (x := 999) dX12_crossing_12 rfl (by decide) ?_
    obtain ⟨p3, ep3, h⟩ := xBind_el h
    refine gx_calls (as := [.int a2, .int (1 : Int32), .int (999 : Int32)]) (r := []) rfl dX12_crossing_15 ca_12_95 rfl me_18 rfl rfl rfl rfl (fX12_in_ok (d := d) (by omega) ep3) rfl rfl ?_
    refine fx_if_ne (t := 23) dX12_crossing_18 rfl rfl (fun hc4 => ?_) (fun hc4 => ?_)
    · rw [if_pos hc4] at h
      refine fx_aload_n dX12_crossing_23 rfl rfl ?_
      refine fx_iload_n dX12_crossing_24 rfl rfl ?_
      refine fx_iconst (x := 0) dX12_crossing_25 rfl (by decide) ?_
      refine fx_iconst (x := 1) dX12_crossing_26 rfl (by decide) ?_
      refine fx_iload_n dX12_crossing_27 rfl rfl ?_
      obtain ⟨p5, ep5, h⟩ := xBind_el h
      refine gx_callv (as := [.int a1, .int (0 : Int32), .int (1 : Int32), .int a2]) (r := []) rfl dX12_crossing_28 ca_12_405 rfl me_232 rfl rfl rfl rfl (ha0.1) rfl (fX12_carries_ok (d := d) (by omega) ha0 ep5) rfl rfl ?_
      refine fx_istore_n (ls2 := [some (.ref a0), some (.int a1), some (.int a2), some (.int p5.1), o4]) dX12_crossing_31 rfl rfl rfl ?_
      refine fx_iconst (x := 0) dX12_crossing_32 rfl (by decide) ?_
      refine fx_istore (ls2 := [some (.ref a0), some (.int a1), some (.int a2), some (.int p5.1), some (.int (0 : Int32))]) dX12_crossing_33 rfl rfl rfl ?_
      exact fX12_crossing_35_ok hd ha0 xFuel p5.1 (0 : Int32) p5.2 r h
    · rw [if_neg hc4] at h
      exact fX12_crossing_21_ok (o3 := o3) (o4 := o4) hd ha0 q3 q4 h
def fX12_crossing (a0 : Nat) (a1 : Int32) (a2 : Int32) (m : xMem) : Option (Int32 × xMem) := fX12_crossing_0 a0 a1 a2  m
theorem fX12_crossing_ok {a0 : Nat} {a1 : Int32} {a2 : Int32} {m : xMem} {r : (Int32 × xMem)} {d : Nat} (hd : 3 ≤ d) (ha0 : isModel a0) (h : fX12_crossing a0 a1 a2 m = some r) : xEx d 235 [.ref a0, .int a1, .int a2] (xLay m) (some (.int r.1)) (xLay r.2) := by
  obtain ⟨d, rfl⟩ : ∃ q, d = q + 1 := ⟨d - 1, by omega⟩
  exact xEx_of me_235 rfl (fX12_crossing_0_ok (d := d) (o3 := none) (o4 := none) (by omega) ha0 rfl rfl h)
def fX1_tell_38 (a0 : Nat) (a1 : Int32) (a2 : Int32) (a3 : Int32) (m : xMem) : Option (Int32 × xMem) := some ((-1 : Int32), m)
set_option maxRecDepth 4000 in
theorem fX1_tell_38_ok {a0 : Nat} {a1 : Int32} {a2 : Int32} {a3 : Int32} {d : Nat} (hd : 0 ≤ d) (ha0 : isDays a0) {o4 : Option Value} {m : xMem} {r : (Int32 × xMem)} (q4 : xNoD o4 = true) (h : fX1_tell_38 a0 a1 a2 a3 m = some r) : xFx hh_237 cX1_tell d 38 [some (.ref a0), some (.int a1), some (.int a2), some (.int a3), o4] [] (xLay m) 0 0 (some (.int r.1)) (xLay r.2) := by
  unfold fX1_tell_38 at h
  refine fx_iconst (x := -1) dX1_tell_38 rfl (by decide) ?_
  cases h
  exact fx_ireturn dX1_tell_39 rfl rfl
def fX1_tell_12 (a0 : Nat) (a1 : Int32) (a2 : Int32) (a3 : Int32) (s0 : Int32) (m : xMem) : Option (Int32 × xMem) := xLet (m.1 a0 2) fun x1 => if (40 : Int32) ≤ x1 then fX1_tell_38 a0 a1 a2 a3 m else if s0 < (0 : Int32) then fX1_tell_38 a0 a1 a2 a3 m else if s0 < (12 : Int32) then bif xIn s0 12 then xLet (m.1 (a0 + 1) s0.toNatClampNeg) fun x5 => xLet (x5 + a3) fun x7 => bif xIn s0 12 then xLet (xPut m (a0 + 1) s0.toNatClampNeg x7) fun m8 => bif xIn s0 12 then xLet (m8.1 (a0 + 2) s0.toNatClampNeg) fun x10 => xLet (x10 + (1 : Int32)) fun x12 => bif xIn s0 12 then xLet (xPut m8 (a0 + 2) s0.toNatClampNeg x12) fun m13 => xLet (m13.1 a0 2) fun x15 => xLet (x15 + (1 : Int32)) fun x16 => xLet (xPut m13 a0 2 x16) fun m17 => xLet (m17.1 a0 2) fun x18 => some (x18, m17) else none else none else none else none else fX1_tell_38 a0 a1 a2 a3 m
set_option maxRecDepth 4000 in
theorem fX1_tell_12_ok {a0 : Nat} {a1 : Int32} {a2 : Int32} {a3 : Int32} {d : Nat} (hd : 0 ≤ d) (ha0 : isDays a0) {s0 : Int32} {o4 : Option Value} {m : xMem} {r : (Int32 × xMem)} (q4 : xNoD o4 = true) (h : fX1_tell_12 a0 a1 a2 a3 s0 m = some r) : xFx hh_237 cX1_tell d 12 [some (.ref a0), some (.int a1), some (.int a2), some (.int a3), o4] [.int s0] (xLay m) 0 0 (some (.int r.1)) (xLay r.2) := by
  unfold fX1_tell_12 at h
  refine fx_istore (ls2 := [some (.ref a0), some (.int a1), some (.int a2), some (.int a3), some (.int s0)]) dX1_tell_12 rfl rfl rfl ?_
  refine fx_aload_n dX1_tell_14 rfl rfl ?_
  obtain ⟨x1, hx1, h⟩ := xLet_el h
  refine gx_get dX1_tell_15 rfl fd_1_18 ha0.1 rfl rfl hx1 ?_
  refine fx_bipush (x := 40) dX1_tell_18 rfl (by decide) ?_
  refine fx_icmp_ge (t := 38) dX1_tell_20 rfl rfl (fun hc2 => ?_) (fun hc2 => ?_)
  · rw [if_pos hc2] at h
    exact fX1_tell_38_ok (o4 := some (.int s0)) hd ha0 rfl h
  · rw [if_neg hc2] at h
    refine fx_iload dX1_tell_23 rfl rfl ?_
    refine fx_if_lt (t := 38) dX1_tell_25 rfl rfl (fun hc3 => ?_) (fun hc3 => ?_)
    · rw [if_pos hc3] at h
      exact fX1_tell_38_ok (o4 := some (.int s0)) hd ha0 rfl h
    · rw [if_neg hc3] at h
      refine fx_iload dX1_tell_28 rfl rfl ?_
      refine fx_aload_n dX1_tell_30 rfl rfl ?_
      refine gx_getr dX1_tell_31 rfl fd_1_11 ha0.1 rfl rfl ?_
      refine gx_alen (t := 1) (y := 12) dX1_tell_34 rfl ha0.2.1 rfl (by decide) ?_
      refine fx_icmp_lt (t := 40) dX1_tell_35 rfl rfl (fun hc4 => ?_) (fun hc4 => ?_)
      · rw [if_pos hc4] at h
        refine fx_aload_n dX1_tell_40 rfl rfl ?_
        refine gx_getr dX1_tell_41 rfl fd_1_11 ha0.1 rfl rfl ?_
        refine fx_iload dX1_tell_44 rfl rfl ?_
        refine fx_dup2 dX1_tell_46 rfl rfl ?_
        obtain ⟨hj6, h⟩ := xChk_el h
        obtain ⟨x5, hx5, h⟩ := xLet_el h
        refine gx_iaload dX1_tell_47 rfl ha0.2.1 hj6 hx5 ?_
        refine fx_iload_n dX1_tell_48 rfl rfl ?_
        obtain ⟨x7, hx7, h⟩ := xLet_el h
        refine fx_iadd dX1_tell_49 rfl hx7 ?_
        obtain ⟨hj9, h⟩ := xChk_el h
        obtain ⟨m8, hm8, h⟩ := xLet_el h
        refine gx_iastore dX1_tell_50 rfl ha0.2.1 hj9 hm8 ?_
        refine fx_aload_n dX1_tell_51 rfl rfl ?_
        refine gx_getr dX1_tell_52 rfl fd_1_15 ha0.1 rfl rfl ?_
        refine fx_iload dX1_tell_55 rfl rfl ?_
        refine fx_dup2 dX1_tell_57 rfl rfl ?_
        obtain ⟨hj11, h⟩ := xChk_el h
        obtain ⟨x10, hx10, h⟩ := xLet_el h
        refine gx_iaload dX1_tell_58 rfl ha0.2.2 hj11 hx10 ?_
        refine fx_iconst (x := 1) dX1_tell_59 rfl (by decide) ?_
        obtain ⟨x12, hx12, h⟩ := xLet_el h
        refine fx_iadd dX1_tell_60 rfl hx12 ?_
        obtain ⟨hj14, h⟩ := xChk_el h
        obtain ⟨m13, hm13, h⟩ := xLet_el h
        refine gx_iastore dX1_tell_61 rfl ha0.2.2 hj14 hm13 ?_
        refine fx_aload_n dX1_tell_62 rfl rfl ?_
        refine fx_dup dX1_tell_63 rfl rfl ?_
        obtain ⟨x15, hx15, h⟩ := xLet_el h
        refine gx_get dX1_tell_64 rfl fd_1_18 ha0.1 rfl rfl hx15 ?_
        refine fx_iconst (x := 1) dX1_tell_67 rfl (by decide) ?_
        obtain ⟨x16, hx16, h⟩ := xLet_el h
        refine fx_iadd dX1_tell_68 rfl hx16 ?_
        obtain ⟨m17, hm17, h⟩ := xLet_el h
        refine gx_put dX1_tell_69 rfl fd_1_18 ha0.1 rfl rfl rfl hm17 ?_
        refine fx_aload_n dX1_tell_72 rfl rfl ?_
        obtain ⟨x18, hx18, h⟩ := xLet_el h
        refine gx_get dX1_tell_73 rfl fd_1_18 ha0.1 rfl rfl hx18 ?_
        cases h
        exact fx_ireturn dX1_tell_76 rfl rfl
      · rw [if_neg hc4] at h
        exact fX1_tell_38_ok (o4 := some (.int s0)) hd ha0 rfl h
def fX1_tell_0 (a0 : Nat) (a1 : Int32) (a2 : Int32) (a3 : Int32) (m : xMem) : Option (Int32 × xMem) := if a1 = (0 : Int32) then fX1_tell_12 a0 a1 a2 a3 a2 m else xLet ((6 : Int32) + a2) fun x2 => fX1_tell_12 a0 a1 a2 a3 x2 m
set_option maxRecDepth 4000 in
theorem fX1_tell_0_ok {a0 : Nat} {a1 : Int32} {a2 : Int32} {a3 : Int32} {d : Nat} (hd : 0 ≤ d) (ha0 : isDays a0) {o4 : Option Value} {m : xMem} {r : (Int32 × xMem)} (q4 : xNoD o4 = true) (h : fX1_tell_0 a0 a1 a2 a3 m = some r) : xFx hh_237 cX1_tell d 0 [some (.ref a0), some (.int a1), some (.int a2), some (.int a3), o4] [] (xLay m) 0 0 (some (.int r.1)) (xLay r.2) := by
  unfold fX1_tell_0 at h
  refine fx_iload_n dX1_tell_0 rfl rfl ?_
  refine fx_if_eq (t := 11) dX1_tell_1 rfl rfl (fun hc1 => ?_) (fun hc1 => ?_)
  · rw [if_pos hc1] at h
    refine fx_iload_n dX1_tell_11 rfl rfl ?_
    exact fX1_tell_12_ok (o4 := o4) hd ha0 q4 h
  · rw [if_neg hc1] at h
    refine fx_bipush (x := 6) dX1_tell_4 rfl (by decide) ?_
    refine fx_iload_n dX1_tell_6 rfl rfl ?_
    obtain ⟨x2, hx2, h⟩ := xLet_el h
    refine fx_iadd dX1_tell_7 rfl hx2 ?_
    refine fx_goto (t := 12) dX1_tell_8 rfl rfl ?_
    exact fX1_tell_12_ok (o4 := o4) hd ha0 q4 h
def fX1_tell (a0 : Nat) (a1 : Int32) (a2 : Int32) (a3 : Int32) (m : xMem) : Option (Int32 × xMem) := fX1_tell_0 a0 a1 a2 a3  m
theorem fX1_tell_ok {a0 : Nat} {a1 : Int32} {a2 : Int32} {a3 : Int32} {m : xMem} {r : (Int32 × xMem)} {d : Nat} (hd : 1 ≤ d) (ha0 : isDays a0) (h : fX1_tell a0 a1 a2 a3 m = some r) : xEx d 237 [.ref a0, .int a1, .int a2, .int a3] (xLay m) (some (.int r.1)) (xLay r.2) := by
  obtain ⟨d, rfl⟩ : ∃ q, d = q + 1 := ⟨d - 1, by omega⟩
  exact xEx_of me_237 rfl (fX1_tell_0_ok (d := d) (o4 := none) (by omega) ha0 rfl h)
def fX11_day_20 (a0 : Nat) (a1 : Int32) (a2 : Int32) (a3 : Int32) (m : xMem) : Option (Int32 × xMem) := some ((-1 : Int32), m)
set_option maxRecDepth 4000 in
theorem fX11_day_20_ok {a0 : Nat} {a1 : Int32} {a2 : Int32} {a3 : Int32} {d : Nat} (hd : 1 ≤ d) (ha0 : isMS a0) {m : xMem} {r : (Int32 × xMem)} (h : fX11_day_20 a0 a1 a2 a3 m = some r) : xFx hh_236 cX11_day d 20 [some (.ref a0), some (.int a1), some (.int a2), some (.int a3)] [] (xLay m) 0 0 (some (.int r.1)) (xLay r.2) := by
  unfold fX11_day_20 at h
  refine fx_iconst (x := -1) dX11_day_20 rfl (by decide) ?_
  cases h
  exact fx_ireturn dX11_day_21 rfl rfl
def fX11_day_0 (a0 : Nat) (a1 : Int32) (a2 : Int32) (a3 : Int32) (m : xMem) : Option (Int32 × xMem) := (fX11_within a2 (0 : Int32) (5 : Int32) m).bind fun p1 => if p1.1 = (0 : Int32) then fX11_day_20 a0 a1 a2 a3 p1.2 else (fX11_within a3 (0 : Int32) (9999 : Int32) p1.2).bind fun p3 => if ¬ p3.1 = (0 : Int32) then (fX1_tell (a0 + 1 + 4) a1 a2 a3 p3.2).bind fun p5 => some (p5.1, p5.2) else fX11_day_20 a0 a1 a2 a3 p3.2
set_option maxRecDepth 4000 in
theorem fX11_day_0_ok {a0 : Nat} {a1 : Int32} {a2 : Int32} {a3 : Int32} {d : Nat} (hd : 1 ≤ d) (ha0 : isMS a0) {m : xMem} {r : (Int32 × xMem)} (h : fX11_day_0 a0 a1 a2 a3 m = some r) : xFx hh_236 cX11_day d 0 [some (.ref a0), some (.int a1), some (.int a2), some (.int a3)] [] (xLay m) 0 0 (some (.int r.1)) (xLay r.2) := by
  unfold fX11_day_0 at h
  refine fx_iload_n dX11_day_0 rfl rfl ?_
  refine fx_iconst (x := 0) dX11_day_1 rfl (by decide) ?_
  refine fx_iconst (x := 5) dX11_day_2 rfl (by decide) ?_
  obtain ⟨p1, ep1, h⟩ := xBind_el h
  refine gx_calls (as := [.int a2, .int (0 : Int32), .int (5 : Int32)]) (r := []) rfl dX11_day_3 ca_11_47 rfl me_14 rfl rfl rfl rfl (fX11_within_ok (d := d) (by omega) ep1) rfl rfl ?_
  refine fx_if_eq (t := 20) dX11_day_6 rfl rfl (fun hc2 => ?_) (fun hc2 => ?_)
  · rw [if_pos hc2] at h
    exact fX11_day_20_ok hd ha0 h
  · rw [if_neg hc2] at h
    refine fx_iload_n dX11_day_9 rfl rfl ?_
    refine fx_iconst (x := 0) dX11_day_10 rfl (by decide) ?_
    refine fx_sipush (x := 9999) dX11_day_11 rfl (by decide) ?_
    obtain ⟨p3, ep3, h⟩ := xBind_el h
    refine gx_calls (as := [.int a3, .int (0 : Int32), .int (9999 : Int32)]) (r := []) rfl dX11_day_14 ca_11_47 rfl me_14 rfl rfl rfl rfl (fX11_within_ok (d := d) (by omega) ep3) rfl rfl ?_
    refine fx_if_ne (t := 22) dX11_day_17 rfl rfl (fun hc4 => ?_) (fun hc4 => ?_)
    · rw [if_pos hc4] at h
      refine fx_aload_n dX11_day_22 rfl rfl ?_
      refine gx_getr dX11_day_23 rfl fd_11_10 ha0.1 rfl rfl ?_
      refine gx_getr dX11_day_26 rfl fd_11_271 ha0.2.1.1 rfl rfl ?_
      refine fx_iload_n dX11_day_29 rfl rfl ?_
      refine fx_iload_n dX11_day_30 rfl rfl ?_
      refine fx_iload_n dX11_day_31 rfl rfl ?_
      obtain ⟨p5, ep5, h⟩ := xBind_el h
      refine gx_callv (as := [.int a1, .int a2, .int a3]) (r := []) rfl dX11_day_32 ca_11_275 rfl me_237 rfl rfl rfl rfl (ha0.2.1.2.2.2.2.1.1) rfl (fX1_tell_ok (d := d) (by omega) ha0.2.1.2.2.2.2.1 ep5) rfl rfl ?_
      cases h
      exact fx_ireturn dX11_day_35 rfl rfl
    · rw [if_neg hc4] at h
      exact fX11_day_20_ok hd ha0 h
def fX11_day (a0 : Nat) (a1 : Int32) (a2 : Int32) (a3 : Int32) (m : xMem) : Option (Int32 × xMem) := fX11_day_0 a0 a1 a2 a3  m
theorem fX11_day_ok {a0 : Nat} {a1 : Int32} {a2 : Int32} {a3 : Int32} {m : xMem} {r : (Int32 × xMem)} {d : Nat} (hd : 2 ≤ d) (ha0 : isMS a0) (h : fX11_day a0 a1 a2 a3 m = some r) : xEx d 236 [.ref a0, .int a1, .int a2, .int a3] (xLay m) (some (.int r.1)) (xLay r.2) := by
  obtain ⟨d, rfl⟩ : ∃ q, d = q + 1 := ⟨d - 1, by omega⟩
  exact xEx_of me_236 rfl (fX11_day_0_ok (d := d) (by omega) ha0 h)
def fX12_day_32 (a0 : Nat) (a1 : Int32) (a2 : Int32) (a3 : Int32) (m : xMem) : Option (Int32 × xMem) := some ((-1 : Int32), m)
set_option maxRecDepth 4000 in
theorem fX12_day_32_ok {a0 : Nat} {a1 : Int32} {a2 : Int32} {a3 : Int32} {d : Nat} (hd : 1 ≤ d) (ha0 : isModel a0) {o4 : Option Value} {m : xMem} {r : (Int32 × xMem)} (q4 : xNoD o4 = true) (h : fX12_day_32 a0 a1 a2 a3 m = some r) : xFx hh_238 cX12_day d 32 [some (.ref a0), some (.int a1), some (.int a2), some (.int a3), o4] [] (xLay m) 0 0 (some (.int r.1)) (xLay r.2) := by
  unfold fX12_day_32 at h
  refine fx_iconst (x := -1) dX12_day_32 rfl (by decide) ?_
  cases h
  exact fx_ireturn dX12_day_33 rfl rfl
def fX12_day_64 (a0 : Nat) (a1 : Int32) (a2 : Int32) (a3 : Int32) (l4 : Int32) (s0 : Nat) (s1 : Int32) (s2 : Int32) (m : xMem) : Option (Int32 × xMem) := bif xIn s1 1610 then xLet (xPut m s0 s1.toNatClampNeg s2) fun m1 => xLet (l4 + (1 : Int32)) fun x3 => bif xIn x3 1610 then xLet (xPut m1 (a0 + 1) x3.toNatClampNeg a2) fun m4 => xLet (l4 + (2 : Int32)) fun x6 => bif xIn x6 1610 then xLet (xPut m4 (a0 + 1) x6.toNatClampNeg a3) fun m7 => bif xIn (6 : Int32) 1610 then xLet (m7.1 (a0 + 1) (6 : Int32).toNatClampNeg) fun x9 => xLet (x9 + (1 : Int32)) fun x11 => bif xIn (6 : Int32) 1610 then xLet (xPut m7 (a0 + 1) (6 : Int32).toNatClampNeg x11) fun m12 => bif xIn (6 : Int32) 1610 then xLet (m12.1 (a0 + 1) (6 : Int32).toNatClampNeg) fun x14 => some (x14, m12) else none else none else none else none else none else none
set_option maxRecDepth 4000 in
theorem fX12_day_64_ok {a0 : Nat} {a1 : Int32} {a2 : Int32} {a3 : Int32} {d : Nat} (hd : 1 ≤ d) (ha0 : isModel a0) {l4 : Int32} {s0 : Nat} {s1 : Int32} {s2 : Int32} {m : xMem} {r : (Int32 × xMem)} (hs0 : xTmL[s0]? = some (101, 1610, [])) (h : fX12_day_64 a0 a1 a2 a3 l4 s0 s1 s2 m = some r) : xFx hh_238 cX12_day d 64 [some (.ref a0), some (.int a1), some (.int a2), some (.int a3), some (.int l4)] [.int s2, .int s1, .ref s0] (xLay m) 0 0 (some (.int r.1)) (xLay r.2) := by
  unfold fX12_day_64 at h
  obtain ⟨hj2, h⟩ := xChk_el h
  obtain ⟨m1, hm1, h⟩ := xLet_el h
  refine gx_iastore dX12_day_64 rfl hs0 hj2 hm1 ?_
  refine fx_aload_n dX12_day_65 rfl rfl ?_
  refine gx_getr dX12_day_66 rfl fd_12_7 ha0.1 rfl rfl ?_
  refine fx_iload dX12_day_69 rfl rfl ?_
  refine fx_iconst (x := 1) dX12_day_71 rfl (by decide) ?_
  obtain ⟨x3, hx3, h⟩ := xLet_el h
  refine fx_iadd dX12_day_72 rfl hx3 ?_
  refine fx_iload_n dX12_day_73 rfl rfl ?_
  obtain ⟨hj5, h⟩ := xChk_el h
  obtain ⟨m4, hm4, h⟩ := xLet_el h
  refine gx_iastore dX12_day_74 rfl ha0.2.1 hj5 hm4 ?_
  refine fx_aload_n dX12_day_75 rfl rfl ?_
  refine gx_getr dX12_day_76 rfl fd_12_7 ha0.1 rfl rfl ?_
  refine fx_iload dX12_day_79 rfl rfl ?_
  refine fx_iconst (x := 2) dX12_day_81 rfl (by decide) ?_
  obtain ⟨x6, hx6, h⟩ := xLet_el h
  refine fx_iadd dX12_day_82 rfl hx6 ?_
  refine fx_iload_n dX12_day_83 rfl rfl ?_
  obtain ⟨hj8, h⟩ := xChk_el h
  obtain ⟨m7, hm7, h⟩ := xLet_el h
  refine gx_iastore dX12_day_84 rfl ha0.2.1 hj8 hm7 ?_
  refine fx_aload_n dX12_day_85 rfl rfl ?_
  refine gx_getr dX12_day_86 rfl fd_12_7 ha0.1 rfl rfl ?_
  refine fx_bipush (x := 6) dX12_day_89 rfl (by decide) ?_
  refine fx_dup2 dX12_day_91 rfl rfl ?_
  obtain ⟨hj10, h⟩ := xChk_el h
  obtain ⟨x9, hx9, h⟩ := xLet_el h
  refine gx_iaload dX12_day_92 rfl ha0.2.1 hj10 hx9 ?_
  refine fx_iconst (x := 1) dX12_day_93 rfl (by decide) ?_
  obtain ⟨x11, hx11, h⟩ := xLet_el h
  refine fx_iadd dX12_day_94 rfl hx11 ?_
  obtain ⟨hj13, h⟩ := xChk_el h
  obtain ⟨m12, hm12, h⟩ := xLet_el h
  refine gx_iastore dX12_day_95 rfl ha0.2.1 hj13 hm12 ?_
  refine fx_aload_n dX12_day_96 rfl rfl ?_
  refine gx_getr dX12_day_97 rfl fd_12_7 ha0.1 rfl rfl ?_
  refine fx_bipush (x := 6) dX12_day_100 rfl (by decide) ?_
  obtain ⟨hj15, h⟩ := xChk_el h
  obtain ⟨x14, hx14, h⟩ := xLet_el h
  refine gx_iaload dX12_day_102 rfl ha0.2.1 hj15 hx14 ?_
  cases h
  exact fx_ireturn dX12_day_103 rfl rfl
def fX12_day_0 (a0 : Nat) (a1 : Int32) (a2 : Int32) (a3 : Int32) (m : xMem) : Option (Int32 × xMem) := (fX12_in a2 (0 : Int32) (5 : Int32) m).bind fun p1 => if p1.1 = (0 : Int32) then fX12_day_32 a0 a1 a2 a3 p1.2 else (fX12_in a3 (0 : Int32) (9999 : Int32) p1.2).bind fun p3 => if p3.1 = (0 : Int32) then fX12_day_32 a0 a1 a2 a3 p3.2 else bif xIn (6 : Int32) 1610 then xLet (p3.2.1 (a0 + 1) (6 : Int32).toNatClampNeg) fun x5 => if ¬ x5 = (40 : Int32) then bif xIn (6 : Int32) 1610 then xLet (p3.2.1 (a0 + 1) (6 : Int32).toNatClampNeg) fun x8 => xLet ((3 : Int32) * x8) fun x10 => xLet ((1390 : Int32) + x10) fun x11 => if a1 = (0 : Int32) then fX12_day_64 a0 a1 a2 a3 x11 (a0 + 1) x11 (0 : Int32) p3.2 else fX12_day_64 a0 a1 a2 a3 x11 (a0 + 1) x11 (1 : Int32) p3.2 else none else fX12_day_32 a0 a1 a2 a3 p3.2 else none
set_option maxRecDepth 4000 in
theorem fX12_day_0_ok {a0 : Nat} {a1 : Int32} {a2 : Int32} {a3 : Int32} {d : Nat} (hd : 1 ≤ d) (ha0 : isModel a0) {o4 : Option Value} {m : xMem} {r : (Int32 × xMem)} (q4 : xNoD o4 = true) (h : fX12_day_0 a0 a1 a2 a3 m = some r) : xFx hh_238 cX12_day d 0 [some (.ref a0), some (.int a1), some (.int a2), some (.int a3), o4] [] (xLay m) 0 0 (some (.int r.1)) (xLay r.2) := by
  unfold fX12_day_0 at h
  refine fx_iload_n dX12_day_0 rfl rfl ?_
  refine fx_iconst (x := 0) dX12_day_1 rfl (by decide) ?_
  refine fx_iconst (x := 5) dX12_day_2 rfl (by decide) ?_
  obtain ⟨p1, ep1, h⟩ := xBind_el h
  refine gx_calls (as := [.int a2, .int (0 : Int32), .int (5 : Int32)]) (r := []) rfl dX12_day_3 ca_12_95 rfl me_18 rfl rfl rfl rfl (fX12_in_ok (d := d) (by omega) ep1) rfl rfl ?_
  refine fx_if_eq (t := 32) dX12_day_6 rfl rfl (fun hc2 => ?_) (fun hc2 => ?_)
  · rw [if_pos hc2] at h
    exact fX12_day_32_ok (o4 := o4) hd ha0 q4 h
  · rw [if_neg hc2] at h
    refine fx_iload_n dX12_day_9 rfl rfl ?_
    refine fx_iconst (x := 0) dX12_day_10 rfl (by decide) ?_
    refine fx_sipush (x := 9999) dX12_day_11 rfl (by decide) ?_
    obtain ⟨p3, ep3, h⟩ := xBind_el h
    refine gx_calls (as := [.int a3, .int (0 : Int32), .int (9999 : Int32)]) (r := []) rfl dX12_day_14 ca_12_95 rfl me_18 rfl rfl rfl rfl (fX12_in_ok (d := d) (by omega) ep3) rfl rfl ?_
    refine fx_if_eq (t := 32) dX12_day_17 rfl rfl (fun hc4 => ?_) (fun hc4 => ?_)
    · rw [if_pos hc4] at h
      exact fX12_day_32_ok (o4 := o4) hd ha0 q4 h
    · rw [if_neg hc4] at h
      refine fx_aload_n dX12_day_20 rfl rfl ?_
      refine gx_getr dX12_day_21 rfl fd_12_7 ha0.1 rfl rfl ?_
      refine fx_bipush (x := 6) dX12_day_24 rfl (by decide) ?_
      obtain ⟨hj6, h⟩ := xChk_el h
      obtain ⟨x5, hx5, h⟩ := xLet_el h
      refine gx_iaload dX12_day_26 rfl ha0.2.1 hj6 hx5 ?_
      refine fx_bipush (x := 40) dX12_day_27 rfl (by decide) ?_
      refine fx_icmp_ne (t := 34) dX12_day_29 rfl rfl (fun hc7 => ?_) (fun hc7 => ?_)
      · rw [if_pos hc7] at h
        refine fx_sipush (x := 1390) dX12_day_34 rfl (by decide) ?_
        refine fx_iconst (x := 3) dX12_day_37 rfl (by decide) ?_
        refine fx_aload_n dX12_day_38 rfl rfl ?_
        refine gx_getr dX12_day_39 rfl fd_12_7 ha0.1 rfl rfl ?_
        refine fx_bipush (x := 6) dX12_day_42 rfl (by decide) ?_
        obtain ⟨hj9, h⟩ := xChk_el h
        obtain ⟨x8, hx8, h⟩ := xLet_el h
        refine gx_iaload dX12_day_44 rfl ha0.2.1 hj9 hx8 ?_
        obtain ⟨x10, hx10, h⟩ := xLet_el h
        refine fx_imul dX12_day_45 rfl hx10 ?_
        obtain ⟨x11, hx11, h⟩ := xLet_el h
        refine fx_iadd dX12_day_46 rfl hx11 ?_
        refine fx_istore (ls2 := [some (.ref a0), some (.int a1), some (.int a2), some (.int a3), some (.int x11)]) dX12_day_47 rfl rfl rfl ?_
        refine fx_aload_n dX12_day_49 rfl rfl ?_
        refine gx_getr dX12_day_50 rfl fd_12_7 ha0.1 rfl rfl ?_
        refine fx_iload dX12_day_53 rfl rfl ?_
        refine fx_iload_n dX12_day_55 rfl rfl ?_
        refine fx_if_eq (t := 63) dX12_day_56 rfl rfl (fun hc12 => ?_) (fun hc12 => ?_)
        · rw [if_pos hc12] at h
          refine fx_iconst (x := 0) dX12_day_63 rfl (by decide) ?_
          exact fX12_day_64_ok hd ha0 ha0.2.1 h
        · rw [if_neg hc12] at h
          refine fx_iconst (x := 1) dX12_day_59 rfl (by decide) ?_
          refine fx_goto (t := 64) dX12_day_60 rfl rfl ?_
          exact fX12_day_64_ok hd ha0 ha0.2.1 h
      · rw [if_neg hc7] at h
        exact fX12_day_32_ok (o4 := o4) hd ha0 q4 h
def fX12_day (a0 : Nat) (a1 : Int32) (a2 : Int32) (a3 : Int32) (m : xMem) : Option (Int32 × xMem) := fX12_day_0 a0 a1 a2 a3  m
theorem fX12_day_ok {a0 : Nat} {a1 : Int32} {a2 : Int32} {a3 : Int32} {m : xMem} {r : (Int32 × xMem)} {d : Nat} (hd : 2 ≤ d) (ha0 : isModel a0) (h : fX12_day a0 a1 a2 a3 m = some r) : xEx d 238 [.ref a0, .int a1, .int a2, .int a3] (xLay m) (some (.int r.1)) (xLay r.2) := by
  obtain ⟨d, rfl⟩ : ∃ q, d = q + 1 := ⟨d - 1, by omega⟩
  exact xEx_of me_238 rfl (fX12_day_0_ok (d := d) (o4 := none) (by omega) ha0 rfl h)
def fX1_meanEffect_101 (a0 : Nat) (rec7 : Int64 → Int32 → Int32 → xMem → Option (Int32 × xMem)) (l1 : Int64) (l3 : Int32) (l4 : Int32) (m : xMem) : Option (Int32 × xMem) := xLet (l4 + (1 : Int32)) fun x1 => rec7 l1 l3 x1 m
set_option maxRecDepth 4000 in
theorem fX1_meanEffect_101_ok {a0 : Nat} {rec7 : Int64 → Int32 → Int32 → xMem → Option (Int32 × xMem)} {d : Nat} (hd : 0 ≤ d) (ha0 : isDays a0) (hrec7 : ∀ (l1 : Int64) (l3 : Int32) (l4 : Int32) (o5 : Option Value) (o6 : Option Value) (o7 : Option Value) (o8 : Option Value) (o9 : Option Value) (o10 : Option Value) (q5 : xNoD o5 = true) (q6 : xNoD o6 = true) (m : xMem) (r : (Int32 × xMem)), rec7 l1 l3 l4 m = some r → xFx hh_240 cX1_meanEffect d 7 [some (.ref a0), some (.long l1), none, some (.int l3), some (.int l4), o5, o6, o7, o8, o9, o10] [] (xLay m) 0 0 (some (.int r.1)) (xLay r.2)) {l1 : Int64} {l3 : Int32} {l4 : Int32} {o5 : Option Value} {o6 : Option Value} {o7 : Option Value} {o8 : Option Value} {o9 : Option Value} {o10 : Option Value} {m : xMem} {r : (Int32 × xMem)} (q5 : xNoD o5 = true) (q6 : xNoD o6 = true) (h : fX1_meanEffect_101 a0 rec7 l1 l3 l4 m = some r) : xFx hh_240 cX1_meanEffect d 101 [some (.ref a0), some (.long l1), none, some (.int l3), some (.int l4), o5, o6, o7, o8, o9, o10] [] (xLay m) 0 0 (some (.int r.1)) (xLay r.2) := by
  unfold fX1_meanEffect_101 at h
  obtain ⟨x1, hx1, h⟩ := xLet_el h
  refine fx_iinc (ls2 := [some (.ref a0), some (.long l1), none, some (.int l3), some (.int x1), o5, o6, o7, o8, o9, o10]) dX1_meanEffect_101 rfl rfl rfl hx1 rfl ?_
  refine fx_goto (t := 7) dX1_meanEffect_104 rfl rfl ?_
  exact hrec7 l1 l3 x1 (o5) (o6) (o7) (o8) (o9) (o10) q5 q6 m r h
def fX1_meanEffect_121 (a0 : Nat) (s0 : Int32) (m : xMem) : Option (Int32 × xMem) := some (s0, m)
set_option maxRecDepth 4000 in
theorem fX1_meanEffect_121_ok {a0 : Nat} {d : Nat} (hd : 0 ≤ d) (ha0 : isDays a0) {s0 : Int32} {o1 : Option Value} {o2 : Option Value} {o3 : Option Value} {o4 : Option Value} {o5 : Option Value} {o6 : Option Value} {o7 : Option Value} {o8 : Option Value} {o9 : Option Value} {o10 : Option Value} {m : xMem} {r : (Int32 × xMem)} (q3 : xNoD o3 = true) (q4 : xNoD o4 = true) (q5 : xNoD o5 = true) (q6 : xNoD o6 = true) (h : fX1_meanEffect_121 a0 s0 m = some r) : xFx hh_240 cX1_meanEffect d 121 [some (.ref a0), o1, o2, o3, o4, o5, o6, o7, o8, o9, o10] [.int s0] (xLay m) 0 0 (some (.int r.1)) (xLay r.2) := by
  unfold fX1_meanEffect_121 at h
  cases h
  exact fx_ireturn dX1_meanEffect_121 rfl rfl
def fX1_meanEffect_7 (a0 : Nat) : Nat → Int64 → Int32 → Int32 → xMem → Option (Int32 × xMem)
  | 0, _, _, _, _ => none
  | fuel + 1, l1, l3, l4, m => if (6 : Int32) ≤ l4 then if l3 ≤ (0 : Int32) then fX1_meanEffect_121 a0 (-1000000000 : Int32) m else xLet (l3.toInt64) fun x3 => bif !decide (x3 = 0) then xLet (l1 / x3) fun x4 => xLet (x4.toInt32) fun x6 => fX1_meanEffect_121 a0 x6 m else none else xLet ((6 : Int32) + l4) fun x7 => bif xIn x7 12 then xLet (m.1 (a0 + 2) x7.toNatClampNeg) fun x8 => bif xIn l4 12 then xLet (m.1 (a0 + 2) l4.toNatClampNeg) fun x10 => if x8 ≤ (0 : Int32) then fX1_meanEffect_101 a0 (fX1_meanEffect_7 a0 fuel) l1 l3 l4 m else if x10 ≤ (0 : Int32) then fX1_meanEffect_101 a0 (fX1_meanEffect_7 a0 fuel) l1 l3 l4 m else xLet ((6 : Int32) + l4) fun x14 => bif xIn x14 12 then xLet (m.1 (a0 + 1) x14.toNatClampNeg) fun x15 => xLet (x15.toInt64) fun x17 => xLet (x17 * (1000 : Int64)) fun x18 => xLet (x8.toInt64) fun x19 => bif !decide (x19 = 0) then xLet (x18 / x19) fun x20 => bif xIn l4 12 then xLet (m.1 (a0 + 1) l4.toNatClampNeg) fun x22 => xLet (x22.toInt64) fun x24 => xLet (x24 * (1000 : Int64)) fun x25 => xLet (x10.toInt64) fun x26 => bif !decide (x26 = 0) then xLet (x25 / x26) fun x27 => xLet (x20 - x27) fun x29 => xLet (x8.toInt64) fun x30 => xLet (x29 * x30) fun x31 => xLet (l1 + x31) fun x32 => xLet (l3 + x8) fun x33 => fX1_meanEffect_101 a0 (fX1_meanEffect_7 a0 fuel) x32 x33 l4 m else none else none else none else none else none else none
set_option maxRecDepth 4000 in
theorem fX1_meanEffect_7_ok {a0 : Nat} {d : Nat} (hd : 0 ≤ d) (ha0 : isDays a0) : ∀ (fuel : Nat) (l1 : Int64) (l3 : Int32) (l4 : Int32) (o5 : Option Value) (o6 : Option Value) (o7 : Option Value) (o8 : Option Value) (o9 : Option Value) (o10 : Option Value) (q5 : xNoD o5 = true) (q6 : xNoD o6 = true) (m : xMem) (r : (Int32 × xMem)), fX1_meanEffect_7 a0 fuel l1 l3 l4 m = some r → xFx hh_240 cX1_meanEffect d 7 [some (.ref a0), some (.long l1), none, some (.int l3), some (.int l4), o5, o6, o7, o8, o9, o10] [] (xLay m) 0 0 (some (.int r.1)) (xLay r.2) := by
  intro fuel
  induction fuel with
  | zero => intro l1 l3 l4 o5 o6 o7 o8 o9 o10 q5 q6 m r  h; cases h
  | succ fuel ih =>
    intro l1 l3 l4 o5 o6 o7 o8 o9 o10 q5 q6 m r  h
    unfold fX1_meanEffect_7 at h
    refine fx_iload dX1_meanEffect_7 rfl rfl ?_
    refine fx_bipush (x := 6) dX1_meanEffect_9 rfl (by decide) ?_
    refine fx_icmp_ge (t := 107) dX1_meanEffect_11 rfl rfl (fun hc1 => ?_) (fun hc1 => ?_)
    · rw [if_pos hc1] at h
      refine fx_iload_n dX1_meanEffect_107 rfl rfl ?_
      refine fx_if_le (t := 119) dX1_meanEffect_108 rfl rfl (fun hc2 => ?_) (fun hc2 => ?_)
      · rw [if_pos hc2] at h
        refine fx_ldc dX1_meanEffect_119 rfl ck_1_30 ?_
        exact fX1_meanEffect_121_ok (o1 := some (.long l1)) (o2 := none) (o3 := some (.int l3)) (o4 := some (.int l4)) (o5 := o5) (o6 := o6) (o7 := o7) (o8 := o8) (o9 := o9) (o10 := o10) hd ha0 rfl rfl q5 q6 h
      · rw [if_neg hc2] at h
        refine fx_lload_n dX1_meanEffect_111 rfl rfl ?_
        refine fx_iload_n dX1_meanEffect_112 rfl rfl ?_
        obtain ⟨x3, hx3, h⟩ := xLet_el h
        refine fx_i2l dX1_meanEffect_113 rfl hx3 ?_
        obtain ⟨hz5, h⟩ := xChk_el h
        obtain ⟨x4, hx4, h⟩ := xLet_el h
        refine fx_ldiv dX1_meanEffect_114 rfl (by simpa using hz5) hx4 ?_
        obtain ⟨x6, hx6, h⟩ := xLet_el h
        refine fx_l2i dX1_meanEffect_115 rfl hx6 ?_
        refine fx_goto (t := 121) dX1_meanEffect_116 rfl rfl ?_
        exact fX1_meanEffect_121_ok (o1 := some (.long l1)) (o2 := none) (o3 := some (.int l3)) (o4 := some (.int l4)) (o5 := o5) (o6 := o6) (o7 := o7) (o8 := o8) (o9 := o9) (o10 := o10) hd ha0 rfl rfl q5 q6 h
    · rw [if_neg hc1] at h
      refine fx_aload_n dX1_meanEffect_14 rfl rfl ?_
      refine gx_getr dX1_meanEffect_15 rfl fd_1_15 ha0.1 rfl rfl ?_
      refine fx_bipush (x := 6) dX1_meanEffect_18 rfl (by decide) ?_
      refine fx_iload dX1_meanEffect_20 rfl rfl ?_
      obtain ⟨x7, hx7, h⟩ := xLet_el h
      refine fx_iadd dX1_meanEffect_22 rfl hx7 ?_
      obtain ⟨hj9, h⟩ := xChk_el h
      obtain ⟨x8, hx8, h⟩ := xLet_el h
      refine gx_iaload dX1_meanEffect_23 rfl ha0.2.2 hj9 hx8 ?_
      refine fx_istore (ls2 := [some (.ref a0), some (.long l1), none, some (.int l3), some (.int l4), some (.int x8), o6, o7, o8, o9, o10]) dX1_meanEffect_24 rfl rfl rfl ?_
      refine fx_aload_n dX1_meanEffect_26 rfl rfl ?_
      refine gx_getr dX1_meanEffect_27 rfl fd_1_15 ha0.1 rfl rfl ?_
      refine fx_iload dX1_meanEffect_30 rfl rfl ?_
      obtain ⟨hj11, h⟩ := xChk_el h
      obtain ⟨x10, hx10, h⟩ := xLet_el h
      refine gx_iaload dX1_meanEffect_32 rfl ha0.2.2 hj11 hx10 ?_
      refine fx_istore (ls2 := [some (.ref a0), some (.long l1), none, some (.int l3), some (.int l4), some (.int x8), some (.int x10), o7, o8, o9, o10]) dX1_meanEffect_33 rfl rfl rfl ?_
      refine fx_iload dX1_meanEffect_35 rfl rfl ?_
      refine fx_if_le (t := 101) dX1_meanEffect_37 rfl rfl (fun hc12 => ?_) (fun hc12 => ?_)
      · rw [if_pos hc12] at h
        exact fX1_meanEffect_101_ok (o5 := some (.int x8)) (o6 := some (.int x10)) (o7 := o7) (o8 := o8) (o9 := o9) (o10 := o10) hd ha0 ih rfl rfl h
      · rw [if_neg hc12] at h
        refine fx_iload dX1_meanEffect_40 rfl rfl ?_
        refine fx_if_le (t := 101) dX1_meanEffect_42 rfl rfl (fun hc13 => ?_) (fun hc13 => ?_)
        · rw [if_pos hc13] at h
          exact fX1_meanEffect_101_ok (o5 := some (.int x8)) (o6 := some (.int x10)) (o7 := o7) (o8 := o8) (o9 := o9) (o10 := o10) hd ha0 ih rfl rfl h
        · rw [if_neg hc13] at h
          refine fx_aload_n dX1_meanEffect_45 rfl rfl ?_
          refine gx_getr dX1_meanEffect_46 rfl fd_1_11 ha0.1 rfl rfl ?_
          refine fx_bipush (x := 6) dX1_meanEffect_49 rfl (by decide) ?_
          refine fx_iload dX1_meanEffect_51 rfl rfl ?_
          obtain ⟨x14, hx14, h⟩ := xLet_el h
          refine fx_iadd dX1_meanEffect_53 rfl hx14 ?_
          obtain ⟨hj16, h⟩ := xChk_el h
          obtain ⟨x15, hx15, h⟩ := xLet_el h
          refine gx_iaload dX1_meanEffect_54 rfl ha0.2.1 hj16 hx15 ?_
          obtain ⟨x17, hx17, h⟩ := xLet_el h
          refine fx_i2l dX1_meanEffect_55 rfl hx17 ?_
          refine fx_ldc2_w dX1_meanEffect_56 rfl cl_1_28 ?_
          obtain ⟨x18, hx18, h⟩ := xLet_el h
          refine fx_lmul dX1_meanEffect_59 rfl hx18 ?_
          refine fx_iload dX1_meanEffect_60 rfl rfl ?_
          obtain ⟨x19, hx19, h⟩ := xLet_el h
          refine fx_i2l dX1_meanEffect_62 rfl hx19 ?_
          obtain ⟨hz21, h⟩ := xChk_el h
          obtain ⟨x20, hx20, h⟩ := xLet_el h
          refine fx_ldiv dX1_meanEffect_63 rfl (by simpa using hz21) hx20 ?_
          refine fx_lstore (ls2 := [some (.ref a0), some (.long l1), none, some (.int l3), some (.int l4), some (.int x8), some (.int x10), some (.long x20), none, o9, o10]) dX1_meanEffect_64 rfl rfl rfl ?_
          refine fx_aload_n dX1_meanEffect_66 rfl rfl ?_
          refine gx_getr dX1_meanEffect_67 rfl fd_1_11 ha0.1 rfl rfl ?_
          refine fx_iload dX1_meanEffect_70 rfl rfl ?_
          obtain ⟨hj23, h⟩ := xChk_el h
          obtain ⟨x22, hx22, h⟩ := xLet_el h
          refine gx_iaload dX1_meanEffect_72 rfl ha0.2.1 hj23 hx22 ?_
          obtain ⟨x24, hx24, h⟩ := xLet_el h
          refine fx_i2l dX1_meanEffect_73 rfl hx24 ?_
          refine fx_ldc2_w dX1_meanEffect_74 rfl cl_1_28 ?_
          obtain ⟨x25, hx25, h⟩ := xLet_el h
          refine fx_lmul dX1_meanEffect_77 rfl hx25 ?_
          refine fx_iload dX1_meanEffect_78 rfl rfl ?_
          obtain ⟨x26, hx26, h⟩ := xLet_el h
          refine fx_i2l dX1_meanEffect_80 rfl hx26 ?_
          obtain ⟨hz28, h⟩ := xChk_el h
          obtain ⟨x27, hx27, h⟩ := xLet_el h
          refine fx_ldiv dX1_meanEffect_81 rfl (by simpa using hz28) hx27 ?_
          refine fx_lstore (ls2 := [some (.ref a0), some (.long l1), none, some (.int l3), some (.int l4), some (.int x8), some (.int x10), some (.long x20), none, some (.long x27), none]) dX1_meanEffect_82 rfl rfl rfl ?_
          refine fx_lload_n dX1_meanEffect_84 rfl rfl ?_
          refine fx_lload dX1_meanEffect_85 rfl rfl ?_
          refine fx_lload dX1_meanEffect_87 rfl rfl ?_
          obtain ⟨x29, hx29, h⟩ := xLet_el h
          refine fx_lsub dX1_meanEffect_89 rfl hx29 ?_
          refine fx_iload dX1_meanEffect_90 rfl rfl ?_
          obtain ⟨x30, hx30, h⟩ := xLet_el h
          refine fx_i2l dX1_meanEffect_92 rfl hx30 ?_
          obtain ⟨x31, hx31, h⟩ := xLet_el h
          refine fx_lmul dX1_meanEffect_93 rfl hx31 ?_
          obtain ⟨x32, hx32, h⟩ := xLet_el h
          refine fx_ladd dX1_meanEffect_94 rfl hx32 ?_
          refine fx_lstore_n (ls2 := [some (.ref a0), some (.long x32), none, some (.int l3), some (.int l4), some (.int x8), some (.int x10), some (.long x20), none, some (.long x27), none]) dX1_meanEffect_95 rfl rfl rfl ?_
          refine fx_iload_n dX1_meanEffect_96 rfl rfl ?_
          refine fx_iload dX1_meanEffect_97 rfl rfl ?_
          obtain ⟨x33, hx33, h⟩ := xLet_el h
          refine fx_iadd dX1_meanEffect_99 rfl hx33 ?_
          refine fx_istore_n (ls2 := [some (.ref a0), some (.long x32), none, some (.int x33), some (.int l4), some (.int x8), some (.int x10), some (.long x20), none, some (.long x27), none]) dX1_meanEffect_100 rfl rfl rfl ?_
          exact fX1_meanEffect_101_ok (o5 := some (.int x8)) (o6 := some (.int x10)) (o7 := some (.long x20)) (o8 := none) (o9 := some (.long x27)) (o10 := none) hd ha0 ih rfl rfl h
def fX1_meanEffect_0 (a0 : Nat) (m : xMem) : Option (Int32 × xMem) := fX1_meanEffect_7 a0 xFuel (0 : Int64) (0 : Int32) (0 : Int32) m
set_option maxRecDepth 4000 in
theorem fX1_meanEffect_0_ok {a0 : Nat} {d : Nat} (hd : 0 ≤ d) (ha0 : isDays a0) {o1 : Option Value} {o2 : Option Value} {o3 : Option Value} {o4 : Option Value} {o5 : Option Value} {o6 : Option Value} {o7 : Option Value} {o8 : Option Value} {o9 : Option Value} {o10 : Option Value} {m : xMem} {r : (Int32 × xMem)} (q3 : xNoD o3 = true) (q4 : xNoD o4 = true) (q5 : xNoD o5 = true) (q6 : xNoD o6 = true) (h : fX1_meanEffect_0 a0 m = some r) : xFx hh_240 cX1_meanEffect d 0 [some (.ref a0), o1, o2, o3, o4, o5, o6, o7, o8, o9, o10] [] (xLay m) 0 0 (some (.int r.1)) (xLay r.2) := by
  unfold fX1_meanEffect_0 at h
  refine fx_lconst (x := 0) dX1_meanEffect_0 rfl (by decide) ?_
  refine fx_lstore_n (ls2 := [some (.ref a0), some (.long (0 : Int64)), none, o3, o4, o5, o6, o7, o8, o9, o10]) dX1_meanEffect_1 rfl rfl rfl ?_
  refine fx_iconst (x := 0) dX1_meanEffect_2 rfl (by decide) ?_
  refine fx_istore_n (ls2 := [some (.ref a0), some (.long (0 : Int64)), none, some (.int (0 : Int32)), o4, o5, o6, o7, o8, o9, o10]) dX1_meanEffect_3 rfl rfl rfl ?_
  refine fx_iconst (x := 0) dX1_meanEffect_4 rfl (by decide) ?_
  refine fx_istore (ls2 := [some (.ref a0), some (.long (0 : Int64)), none, some (.int (0 : Int32)), some (.int (0 : Int32)), o5, o6, o7, o8, o9, o10]) dX1_meanEffect_5 rfl rfl rfl ?_
  exact fX1_meanEffect_7_ok hd ha0 xFuel (0 : Int64) (0 : Int32) (0 : Int32) (o5) (o6) (o7) (o8) (o9) (o10) q5 q6 m r h
def fX1_meanEffect (a0 : Nat) (m : xMem) : Option (Int32 × xMem) := fX1_meanEffect_0 a0  m
theorem fX1_meanEffect_ok {a0 : Nat} {m : xMem} {r : (Int32 × xMem)} {d : Nat} (hd : 1 ≤ d) (ha0 : isDays a0) (h : fX1_meanEffect a0 m = some r) : xEx d 240 [.ref a0] (xLay m) (some (.int r.1)) (xLay r.2) := by
  obtain ⟨d, rfl⟩ : ∃ q, d = q + 1 := ⟨d - 1, by omega⟩
  exact xEx_of me_240 rfl (fX1_meanEffect_0_ok (d := d) (o1 := none) (o2 := none) (o3 := none) (o4 := none) (o5 := none) (o6 := none) (o7 := none) (o8 := none) (o9 := none) (o10 := none) (by omega) ha0 rfl rfl rfl rfl h)
def fX11_effect_0 (a0 : Nat) (m : xMem) : Option (Int32 × xMem) := (fX1_meanEffect (a0 + 1 + 4) m).bind fun p1 => some (p1.1, p1.2)
set_option maxRecDepth 4000 in
theorem fX11_effect_0_ok {a0 : Nat} {d : Nat} (hd : 1 ≤ d) (ha0 : isMS a0) {m : xMem} {r : (Int32 × xMem)} (h : fX11_effect_0 a0 m = some r) : xFx hh_239 cX11_effect d 0 [some (.ref a0)] [] (xLay m) 0 0 (some (.int r.1)) (xLay r.2) := by
  unfold fX11_effect_0 at h
  refine fx_aload_n dX11_effect_0 rfl rfl ?_
  refine gx_getr dX11_effect_1 rfl fd_11_10 ha0.1 rfl rfl ?_
  refine gx_getr dX11_effect_4 rfl fd_11_271 ha0.2.1.1 rfl rfl ?_
  obtain ⟨p1, ep1, h⟩ := xBind_el h
  refine gx_callv (as := []) (r := []) rfl dX11_effect_7 ca_11_279 rfl me_240 rfl rfl rfl rfl (ha0.2.1.2.2.2.2.1.1) rfl (fX1_meanEffect_ok (d := d) (by omega) ha0.2.1.2.2.2.2.1 ep1) rfl rfl ?_
  cases h
  exact fx_ireturn dX11_effect_10 rfl rfl
def fX11_effect (a0 : Nat) (m : xMem) : Option (Int32 × xMem) := fX11_effect_0 a0  m
theorem fX11_effect_ok {a0 : Nat} {m : xMem} {r : (Int32 × xMem)} {d : Nat} (hd : 2 ≤ d) (ha0 : isMS a0) (h : fX11_effect a0 m = some r) : xEx d 239 [.ref a0] (xLay m) (some (.int r.1)) (xLay r.2) := by
  obtain ⟨d, rfl⟩ : ∃ q, d = q + 1 := ⟨d - 1, by omega⟩
  exact xEx_of me_239 rfl (fX11_effect_0_ok (d := d) (by omega) ha0 h)
def fX12_daysOf_74 (a0 : Nat) (a1 : Int32) (a2 : Int32) (a3 : Int32) (rec6 : Int32 → Int32 → xMem → Option (Int32 × xMem)) (l4 : Int32) (l5 : Int32) (m : xMem) : Option (Int32 × xMem) := xLet (l5 + (1 : Int32)) fun x1 => rec6 l4 x1 m
set_option maxRecDepth 4000 in
theorem fX12_daysOf_74_ok {a0 : Nat} {a1 : Int32} {a2 : Int32} {a3 : Int32} {rec6 : Int32 → Int32 → xMem → Option (Int32 × xMem)} {d : Nat} (hd : 0 ≤ d) (ha0 : isModel a0) (hrec6 : ∀ (l4 : Int32) (l5 : Int32) (o6 : Option Value) (q6 : xNoD o6 = true) (m : xMem) (r : (Int32 × xMem)), rec6 l4 l5 m = some r → xFx hh_242 cX12_daysOf d 6 [some (.ref a0), some (.int a1), some (.int a2), some (.int a3), some (.int l4), some (.int l5), o6] [] (xLay m) 0 0 (some (.int r.1)) (xLay r.2)) {l4 : Int32} {l5 : Int32} {o6 : Option Value} {m : xMem} {r : (Int32 × xMem)} (q6 : xNoD o6 = true) (h : fX12_daysOf_74 a0 a1 a2 a3 rec6 l4 l5 m = some r) : xFx hh_242 cX12_daysOf d 74 [some (.ref a0), some (.int a1), some (.int a2), some (.int a3), some (.int l4), some (.int l5), o6] [] (xLay m) 0 0 (some (.int r.1)) (xLay r.2) := by
  unfold fX12_daysOf_74 at h
  obtain ⟨x1, hx1, h⟩ := xLet_el h
  refine fx_iinc (ls2 := [some (.ref a0), some (.int a1), some (.int a2), some (.int a3), some (.int l4), some (.int x1), o6]) dX12_daysOf_74 rfl rfl rfl hx1 rfl ?_
  refine fx_goto (t := 6) dX12_daysOf_77 rfl rfl ?_
  exact hrec6 l4 x1 (o6) q6 m r h
def fX12_daysOf_71 (a0 : Nat) (a1 : Int32) (a2 : Int32) (a3 : Int32) (rec6 : Int32 → Int32 → xMem → Option (Int32 × xMem)) (l5 : Int32) (s0 : Int32) (s1 : Int32) (m : xMem) : Option (Int32 × xMem) := xLet (s0 + s1) fun x1 => fX12_daysOf_74 a0 a1 a2 a3 rec6 x1 l5 m
set_option maxRecDepth 4000 in
theorem fX12_daysOf_71_ok {a0 : Nat} {a1 : Int32} {a2 : Int32} {a3 : Int32} {rec6 : Int32 → Int32 → xMem → Option (Int32 × xMem)} {d : Nat} (hd : 0 ≤ d) (ha0 : isModel a0) (hrec6 : ∀ (l4 : Int32) (l5 : Int32) (o6 : Option Value) (q6 : xNoD o6 = true) (m : xMem) (r : (Int32 × xMem)), rec6 l4 l5 m = some r → xFx hh_242 cX12_daysOf d 6 [some (.ref a0), some (.int a1), some (.int a2), some (.int a3), some (.int l4), some (.int l5), o6] [] (xLay m) 0 0 (some (.int r.1)) (xLay r.2)) {l5 : Int32} {s0 : Int32} {s1 : Int32} {o4 : Option Value} {o6 : Option Value} {m : xMem} {r : (Int32 × xMem)} (q4 : xNoD o4 = true) (q6 : xNoD o6 = true) (h : fX12_daysOf_71 a0 a1 a2 a3 rec6 l5 s0 s1 m = some r) : xFx hh_242 cX12_daysOf d 71 [some (.ref a0), some (.int a1), some (.int a2), some (.int a3), o4, some (.int l5), o6] [.int s1, .int s0] (xLay m) 0 0 (some (.int r.1)) (xLay r.2) := by
  unfold fX12_daysOf_71 at h
  obtain ⟨x1, hx1, h⟩ := xLet_el h
  refine fx_iadd dX12_daysOf_71 rfl hx1 ?_
  refine fx_istore (ls2 := [some (.ref a0), some (.int a1), some (.int a2), some (.int a3), some (.int x1), some (.int l5), o6]) dX12_daysOf_72 rfl rfl rfl ?_
  exact fX12_daysOf_74_ok (o6 := o6) hd ha0 hrec6 q6 h
def fX12_daysOf_6 (a0 : Nat) (a1 : Int32) (a2 : Int32) (a3 : Int32) : Nat → Int32 → Int32 → xMem → Option (Int32 × xMem)
  | 0, _, _, _ => none
  | fuel + 1, l4, l5, m => bif xIn (6 : Int32) 1610 then xLet (m.1 (a0 + 1) (6 : Int32).toNatClampNeg) fun x1 => if x1 ≤ l5 then some (l4, m) else xLet ((3 : Int32) * l5) fun x4 => xLet ((1390 : Int32) + x4) fun x5 => bif xIn x5 1610 then xLet (m.1 (a0 + 1) x5.toNatClampNeg) fun x6 => if ¬ x6 = a1 then fX12_daysOf_74 a0 a1 a2 a3 (fX12_daysOf_6 a0 a1 a2 a3 fuel) l4 l5 m else xLet (x5 + (1 : Int32)) fun x9 => bif xIn x9 1610 then xLet (m.1 (a0 + 1) x9.toNatClampNeg) fun x10 => if ¬ x10 = a2 then fX12_daysOf_74 a0 a1 a2 a3 (fX12_daysOf_6 a0 a1 a2 a3 fuel) l4 l5 m else if a3 = (0 : Int32) then fX12_daysOf_71 a0 a1 a2 a3 (fX12_daysOf_6 a0 a1 a2 a3 fuel) l5 l4 (1 : Int32) m else xLet (x5 + (2 : Int32)) fun x14 => bif xIn x14 1610 then xLet (m.1 (a0 + 1) x14.toNatClampNeg) fun x15 => fX12_daysOf_71 a0 a1 a2 a3 (fX12_daysOf_6 a0 a1 a2 a3 fuel) l5 l4 x15 m else none else none else none else none
set_option maxRecDepth 4000 in
theorem fX12_daysOf_6_ok {a0 : Nat} {a1 : Int32} {a2 : Int32} {a3 : Int32} {d : Nat} (hd : 0 ≤ d) (ha0 : isModel a0) : ∀ (fuel : Nat) (l4 : Int32) (l5 : Int32) (o6 : Option Value) (q6 : xNoD o6 = true) (m : xMem) (r : (Int32 × xMem)), fX12_daysOf_6 a0 a1 a2 a3 fuel l4 l5 m = some r → xFx hh_242 cX12_daysOf d 6 [some (.ref a0), some (.int a1), some (.int a2), some (.int a3), some (.int l4), some (.int l5), o6] [] (xLay m) 0 0 (some (.int r.1)) (xLay r.2) := by
  intro fuel
  induction fuel with
  | zero => intro l4 l5 o6 q6 m r  h; cases h
  | succ fuel ih =>
    intro l4 l5 o6 q6 m r  h
    unfold fX12_daysOf_6 at h
    refine fx_iload dX12_daysOf_6 rfl rfl ?_
    refine fx_aload_n dX12_daysOf_8 rfl rfl ?_
    refine gx_getr dX12_daysOf_9 rfl fd_12_7 ha0.1 rfl rfl ?_
    refine fx_bipush (x := 6) dX12_daysOf_12 rfl (by decide) ?_
    obtain ⟨hj2, h⟩ := xChk_el h
    obtain ⟨x1, hx1, h⟩ := xLet_el h
    refine gx_iaload dX12_daysOf_14 rfl ha0.2.1 hj2 hx1 ?_
    refine fx_icmp_ge (t := 80) dX12_daysOf_15 rfl rfl (fun hc3 => ?_) (fun hc3 => ?_)
    · rw [if_pos hc3] at h
      refine fx_iload dX12_daysOf_80 rfl rfl ?_
      cases h
      exact fx_ireturn dX12_daysOf_82 rfl rfl
    · rw [if_neg hc3] at h
      refine fx_sipush (x := 1390) dX12_daysOf_18 rfl (by decide) ?_
      refine fx_iconst (x := 3) dX12_daysOf_21 rfl (by decide) ?_
      refine fx_iload dX12_daysOf_22 rfl rfl ?_
      obtain ⟨x4, hx4, h⟩ := xLet_el h
      refine fx_imul dX12_daysOf_24 rfl hx4 ?_
      obtain ⟨x5, hx5, h⟩ := xLet_el h
      refine fx_iadd dX12_daysOf_25 rfl hx5 ?_
      refine fx_istore (ls2 := [some (.ref a0), some (.int a1), some (.int a2), some (.int a3), some (.int l4), some (.int l5), some (.int x5)]) dX12_daysOf_26 rfl rfl rfl ?_
      refine fx_aload_n dX12_daysOf_28 rfl rfl ?_
      refine gx_getr dX12_daysOf_29 rfl fd_12_7 ha0.1 rfl rfl ?_
      refine fx_iload dX12_daysOf_32 rfl rfl ?_
      obtain ⟨hj7, h⟩ := xChk_el h
      obtain ⟨x6, hx6, h⟩ := xLet_el h
      refine gx_iaload dX12_daysOf_34 rfl ha0.2.1 hj7 hx6 ?_
      refine fx_iload_n dX12_daysOf_35 rfl rfl ?_
      refine fx_icmp_ne (t := 74) dX12_daysOf_36 rfl rfl (fun hc8 => ?_) (fun hc8 => ?_)
      · rw [if_pos hc8] at h
        exact fX12_daysOf_74_ok (o6 := some (.int x5)) hd ha0 ih rfl h
      · rw [if_neg hc8] at h
        refine fx_aload_n dX12_daysOf_39 rfl rfl ?_
        refine gx_getr dX12_daysOf_40 rfl fd_12_7 ha0.1 rfl rfl ?_
        refine fx_iload dX12_daysOf_43 rfl rfl ?_
        refine fx_iconst (x := 1) dX12_daysOf_45 rfl (by decide) ?_
        obtain ⟨x9, hx9, h⟩ := xLet_el h
        refine fx_iadd dX12_daysOf_46 rfl hx9 ?_
        obtain ⟨hj11, h⟩ := xChk_el h
        obtain ⟨x10, hx10, h⟩ := xLet_el h
        refine gx_iaload dX12_daysOf_47 rfl ha0.2.1 hj11 hx10 ?_
        refine fx_iload_n dX12_daysOf_48 rfl rfl ?_
        refine fx_icmp_ne (t := 74) dX12_daysOf_49 rfl rfl (fun hc12 => ?_) (fun hc12 => ?_)
        · rw [if_pos hc12] at h
          exact fX12_daysOf_74_ok (o6 := some (.int x5)) hd ha0 ih rfl h
        · rw [if_neg hc12] at h
          refine fx_iload dX12_daysOf_52 rfl rfl ?_
          refine fx_iload_n dX12_daysOf_54 rfl rfl ?_
          refine fx_if_eq (t := 70) dX12_daysOf_55 rfl rfl (fun hc13 => ?_) (fun hc13 => ?_)
          · rw [if_pos hc13] at h
            refine fx_iconst (x := 1) dX12_daysOf_70 rfl (by decide) ?_
            exact fX12_daysOf_71_ok (o4 := some (.int l4)) (o6 := some (.int x5)) hd ha0 ih rfl rfl h
          · rw [if_neg hc13] at h
            refine fx_aload_n dX12_daysOf_58 rfl rfl ?_
            refine gx_getr dX12_daysOf_59 rfl fd_12_7 ha0.1 rfl rfl ?_
            refine fx_iload dX12_daysOf_62 rfl rfl ?_
            refine fx_iconst (x := 2) dX12_daysOf_64 rfl (by decide) ?_
            obtain ⟨x14, hx14, h⟩ := xLet_el h
            refine fx_iadd dX12_daysOf_65 rfl hx14 ?_
            obtain ⟨hj16, h⟩ := xChk_el h
            obtain ⟨x15, hx15, h⟩ := xLet_el h
            refine gx_iaload dX12_daysOf_66 rfl ha0.2.1 hj16 hx15 ?_
            refine fx_goto (t := 71) dX12_daysOf_67 rfl rfl ?_
            exact fX12_daysOf_71_ok (o4 := some (.int l4)) (o6 := some (.int x5)) hd ha0 ih rfl rfl h
def fX12_daysOf_0 (a0 : Nat) (a1 : Int32) (a2 : Int32) (a3 : Int32) (m : xMem) : Option (Int32 × xMem) := fX12_daysOf_6 a0 a1 a2 a3 xFuel (0 : Int32) (0 : Int32) m
set_option maxRecDepth 4000 in
theorem fX12_daysOf_0_ok {a0 : Nat} {a1 : Int32} {a2 : Int32} {a3 : Int32} {d : Nat} (hd : 0 ≤ d) (ha0 : isModel a0) {o4 : Option Value} {o5 : Option Value} {o6 : Option Value} {m : xMem} {r : (Int32 × xMem)} (q4 : xNoD o4 = true) (q5 : xNoD o5 = true) (q6 : xNoD o6 = true) (h : fX12_daysOf_0 a0 a1 a2 a3 m = some r) : xFx hh_242 cX12_daysOf d 0 [some (.ref a0), some (.int a1), some (.int a2), some (.int a3), o4, o5, o6] [] (xLay m) 0 0 (some (.int r.1)) (xLay r.2) := by
  unfold fX12_daysOf_0 at h
  refine fx_iconst (x := 0) dX12_daysOf_0 rfl (by decide) ?_
  refine fx_istore (ls2 := [some (.ref a0), some (.int a1), some (.int a2), some (.int a3), some (.int (0 : Int32)), o5, o6]) dX12_daysOf_1 rfl rfl rfl ?_
  refine fx_iconst (x := 0) dX12_daysOf_3 rfl (by decide) ?_
  refine fx_istore (ls2 := [some (.ref a0), some (.int a1), some (.int a2), some (.int a3), some (.int (0 : Int32)), some (.int (0 : Int32)), o6]) dX12_daysOf_4 rfl rfl rfl ?_
  exact fX12_daysOf_6_ok hd ha0 xFuel (0 : Int32) (0 : Int32) (o6) q6 m r h
def fX12_daysOf (a0 : Nat) (a1 : Int32) (a2 : Int32) (a3 : Int32) (m : xMem) : Option (Int32 × xMem) := fX12_daysOf_0 a0 a1 a2 a3  m
theorem fX12_daysOf_ok {a0 : Nat} {a1 : Int32} {a2 : Int32} {a3 : Int32} {m : xMem} {r : (Int32 × xMem)} {d : Nat} (hd : 1 ≤ d) (ha0 : isModel a0) (h : fX12_daysOf a0 a1 a2 a3 m = some r) : xEx d 242 [.ref a0, .int a1, .int a2, .int a3] (xLay m) (some (.int r.1)) (xLay r.2) := by
  obtain ⟨d, rfl⟩ : ∃ q, d = q + 1 := ⟨d - 1, by omega⟩
  exact xEx_of me_242 rfl (fX12_daysOf_0_ok (d := d) (o4 := none) (o5 := none) (o6 := none) (by omega) ha0 rfl rfl rfl h)
