theorem dX12_ways_0 : decode cX12_ways 0 = .ok (.aload_n 0, 1) := by decide +kernel
theorem dX12_ways_1 : decode cX12_ways 1 = .ok (.iload_n 1, 1) := by decide +kernel
theorem dX12_ways_2 : decode cX12_ways 2 = .ok (.invokevirtual 383, 3) := by decide +kernel
theorem dX12_ways_5 : decode cX12_ways 5 = .ok (.ifCond .eq 20, 3) := by decide +kernel
theorem dX12_ways_8 : decode cX12_ways 8 = .ok (.aload_n 0, 1) := by decide +kernel
theorem dX12_ways_9 : decode cX12_ways 9 = .ok (.iload_n 2, 1) := by decide +kernel
theorem dX12_ways_10 : decode cX12_ways 10 = .ok (.invokevirtual 377, 3) := by decide +kernel
theorem dX12_ways_13 : decode cX12_ways 13 = .ok (.ifCond .eq 12, 3) := by decide +kernel
theorem dX12_ways_16 : decode cX12_ways 16 = .ok (.iload_n 3, 1) := by decide +kernel
theorem dX12_ways_17 : decode cX12_ways 17 = .ok (.iconst 0, 1) := by decide +kernel
theorem dX12_ways_18 : decode cX12_ways 18 = .ok (.iconst 1, 1) := by decide +kernel
theorem dX12_ways_19 : decode cX12_ways 19 = .ok (.invokestatic 95, 3) := by decide +kernel
theorem dX12_ways_22 : decode cX12_ways 22 = .ok (.ifCond .ne 5, 3) := by decide +kernel
theorem dX12_ways_25 : decode cX12_ways 25 = .ok (.iconst (-1), 1) := by decide +kernel
theorem dX12_ways_26 : decode cX12_ways 26 = .ok (.ireturn, 1) := by decide +kernel
theorem dX12_ways_27 : decode cX12_ways 27 = .ok (.aload_n 0, 1) := by decide +kernel
theorem dX12_ways_28 : decode cX12_ways 28 = .ok (.invokevirtual 386, 3) := by decide +kernel
theorem dX12_ways_31 : decode cX12_ways 31 = .ok (.iconst (-1), 1) := by decide +kernel
theorem dX12_ways_32 : decode cX12_ways 32 = .ok (.istore 4, 2) := by decide +kernel
theorem dX12_ways_34 : decode cX12_ways 34 = .ok (.iconst 0, 1) := by decide +kernel
theorem dX12_ways_35 : decode cX12_ways 35 = .ok (.istore 5, 2) := by decide +kernel
theorem dX12_ways_37 : decode cX12_ways 37 = .ok (.iconst 0, 1) := by decide +kernel
theorem dX12_ways_38 : decode cX12_ways 38 = .ok (.istore 6, 2) := by decide +kernel
theorem dX12_ways_40 : decode cX12_ways 40 = .ok (.iload 6, 2) := by decide +kernel
theorem dX12_ways_42 : decode cX12_ways 42 = .ok (.iload_n 1, 1) := by decide +kernel
theorem dX12_ways_43 : decode cX12_ways 43 = .ok (.if_icmp .gt 119, 3) := by decide +kernel
theorem dX12_ways_46 : decode cX12_ways 46 = .ok (.iload 6, 2) := by decide +kernel
theorem dX12_ways_48 : decode cX12_ways 48 = .ok (.iload_n 1, 1) := by decide +kernel
theorem dX12_ways_49 : decode cX12_ways 49 = .ok (.iconst (-1), 1) := by decide +kernel
theorem dX12_ways_50 : decode cX12_ways 50 = .ok (.ixor, 1) := by decide +kernel
theorem dX12_ways_51 : decode cX12_ways 51 = .ok (.iand, 1) := by decide +kernel
theorem dX12_ways_52 : decode cX12_ways 52 = .ok (.ifCond .ne 104, 3) := by decide +kernel
theorem dX12_ways_55 : decode cX12_ways 55 = .ok (.iconst 0, 1) := by decide +kernel
theorem dX12_ways_56 : decode cX12_ways 56 = .ok (.istore 7, 2) := by decide +kernel
theorem dX12_ways_58 : decode cX12_ways 58 = .ok (.iload 7, 2) := by decide +kernel
theorem dX12_ways_60 : decode cX12_ways 60 = .ok (.aload_n 0, 1) := by decide +kernel
theorem dX12_ways_61 : decode cX12_ways 61 = .ok (.getfield 7, 3) := by decide +kernel
theorem dX12_ways_64 : decode cX12_ways 64 = .ok (.iconst 2, 1) := by decide +kernel
theorem dX12_ways_65 : decode cX12_ways 65 = .ok (.iaload, 1) := by decide +kernel
theorem dX12_ways_66 : decode cX12_ways 66 = .ok (.if_icmp .ge 43, 3) := by decide +kernel
theorem dX12_ways_69 : decode cX12_ways 69 = .ok (.iload_n 1, 1) := by decide +kernel
theorem dX12_ways_70 : decode cX12_ways 70 = .ok (.iload 7, 2) := by decide +kernel
theorem dX12_ways_72 : decode cX12_ways 72 = .ok (.ishr, 1) := by decide +kernel
theorem dX12_ways_73 : decode cX12_ways 73 = .ok (.iconst 1, 1) := by decide +kernel
theorem dX12_ways_74 : decode cX12_ways 74 = .ok (.iand, 1) := by decide +kernel
theorem dX12_ways_75 : decode cX12_ways 75 = .ok (.iconst 1, 1) := by decide +kernel
theorem dX12_ways_76 : decode cX12_ways 76 = .ok (.if_icmp .ne 27, 3) := by decide +kernel
theorem dX12_ways_79 : decode cX12_ways 79 = .ok (.aload_n 0, 1) := by decide +kernel
theorem dX12_ways_80 : decode cX12_ways 80 = .ok (.iload 7, 2) := by decide +kernel
theorem dX12_ways_82 : decode cX12_ways 82 = .ok (.iload 6, 2) := by decide +kernel
theorem dX12_ways_84 : decode cX12_ways 84 = .ok (.iload 7, 2) := by decide +kernel
theorem dX12_ways_86 : decode cX12_ways 86 = .ok (.ishr, 1) := by decide +kernel
theorem dX12_ways_87 : decode cX12_ways 87 = .ok (.iconst 1, 1) := by decide +kernel
theorem dX12_ways_88 : decode cX12_ways 88 = .ok (.iand, 1) := by decide +kernel
theorem dX12_ways_89 : decode cX12_ways 89 = .ok (.iconst 1, 1) := by decide +kernel
theorem dX12_ways_90 : decode cX12_ways 90 = .ok (.if_icmp .ne 7, 3) := by decide +kernel
theorem dX12_ways_93 : decode cX12_ways 93 = .ok (.iconst 1, 1) := by decide +kernel
theorem dX12_ways_94 : decode cX12_ways 94 = .ok (.goto 4, 3) := by decide +kernel
theorem dX12_ways_97 : decode cX12_ways 97 = .ok (.iconst 2, 1) := by decide +kernel
theorem dX12_ways_98 : decode cX12_ways 98 = .ok (.invokevirtual 389, 3) := by decide +kernel
theorem dX12_ways_101 : decode cX12_ways 101 = .ok (.istore 8, 2) := by decide +kernel
theorem dX12_ways_103 : decode cX12_ways 103 = .ok (.iinc 7 1, 3) := by decide +kernel
theorem dX12_ways_106 : decode cX12_ways 106 = .ok (.goto (-48), 3) := by decide +kernel
theorem dX12_ways_109 : decode cX12_ways 109 = .ok (.aload_n 0, 1) := by decide +kernel
theorem dX12_ways_110 : decode cX12_ways 110 = .ok (.iload_n 2, 1) := by decide +kernel
theorem dX12_ways_111 : decode cX12_ways 111 = .ok (.invokevirtual 392, 3) := by decide +kernel
theorem dX12_ways_114 : decode cX12_ways 114 = .ok (.aload_n 0, 1) := by decide +kernel
theorem dX12_ways_115 : decode cX12_ways 115 = .ok (.getfield 7, 3) := by decide +kernel
theorem dX12_ways_118 : decode cX12_ways 118 = .ok (.bipush 10, 2) := by decide +kernel
theorem dX12_ways_120 : decode cX12_ways 120 = .ok (.iaload, 1) := by decide +kernel
theorem dX12_ways_121 : decode cX12_ways 121 = .ok (.aload_n 0, 1) := by decide +kernel
theorem dX12_ways_122 : decode cX12_ways 122 = .ok (.getfield 16, 3) := by decide +kernel
theorem dX12_ways_125 : decode cX12_ways 125 = .ok (.bipush 10, 2) := by decide +kernel
theorem dX12_ways_127 : decode cX12_ways 127 = .ok (.iaload, 1) := by decide +kernel
theorem dX12_ways_128 : decode cX12_ways 128 = .ok (.isub, 1) := by decide +kernel
theorem dX12_ways_129 : decode cX12_ways 129 = .ok (.istore 7, 2) := by decide +kernel
theorem dX12_ways_131 : decode cX12_ways 131 = .ok (.aload_n 0, 1) := by decide +kernel
theorem dX12_ways_132 : decode cX12_ways 132 = .ok (.invokevirtual 395, 3) := by decide +kernel
theorem dX12_ways_135 : decode cX12_ways 135 = .ok (.iload 4, 2) := by decide +kernel
theorem dX12_ways_137 : decode cX12_ways 137 = .ok (.iconst (-1), 1) := by decide +kernel
theorem dX12_ways_138 : decode cX12_ways 138 = .ok (.if_icmp .eq 10, 3) := by decide +kernel
theorem dX12_ways_141 : decode cX12_ways 141 = .ok (.iload 7, 2) := by decide +kernel
theorem dX12_ways_143 : decode cX12_ways 143 = .ok (.iload 5, 2) := by decide +kernel
theorem dX12_ways_145 : decode cX12_ways 145 = .ok (.if_icmp .ge 11, 3) := by decide +kernel
theorem dX12_ways_148 : decode cX12_ways 148 = .ok (.iload 6, 2) := by decide +kernel
theorem dX12_ways_150 : decode cX12_ways 150 = .ok (.istore 4, 2) := by decide +kernel
theorem dX12_ways_152 : decode cX12_ways 152 = .ok (.iload 7, 2) := by decide +kernel
theorem dX12_ways_154 : decode cX12_ways 154 = .ok (.istore 5, 2) := by decide +kernel
theorem dX12_ways_156 : decode cX12_ways 156 = .ok (.iinc 6 1, 3) := by decide +kernel
theorem dX12_ways_159 : decode cX12_ways 159 = .ok (.goto (-119), 3) := by decide +kernel
theorem dX12_ways_162 : decode cX12_ways 162 = .ok (.iload_n 3, 1) := by decide +kernel
theorem dX12_ways_163 : decode cX12_ways 163 = .ok (.ifCond .ne 8, 3) := by decide +kernel
theorem dX12_ways_166 : decode cX12_ways 166 = .ok (.iload 4, 2) := by decide +kernel
theorem dX12_ways_168 : decode cX12_ways 168 = .ok (.goto 5, 3) := by decide +kernel
theorem dX12_ways_171 : decode cX12_ways 171 = .ok (.iload 5, 2) := by decide +kernel
theorem dX12_ways_173 : decode cX12_ways 173 = .ok (.ireturn, 1) := by decide +kernel
theorem dX9_anyHallOver_0 : decode cX9_anyHallOver 0 = .ok (.iconst 0, 1) := by decide +kernel
theorem dX9_anyHallOver_1 : decode cX9_anyHallOver 1 = .ok (.istore_n 1, 1) := by decide +kernel
theorem dX9_anyHallOver_2 : decode cX9_anyHallOver 2 = .ok (.iload_n 1, 1) := by decide +kernel
theorem dX9_anyHallOver_3 : decode cX9_anyHallOver 3 = .ok (.aload_n 0, 1) := by decide +kernel
theorem dX9_anyHallOver_4 : decode cX9_anyHallOver 4 = .ok (.getfield 57, 3) := by decide +kernel
theorem dX9_anyHallOver_7 : decode cX9_anyHallOver 7 = .ok (.if_icmp .ge 32, 3) := by decide +kernel
theorem dX9_anyHallOver_10 : decode cX9_anyHallOver 10 = .ok (.iload_n 1, 1) := by decide +kernel
theorem dX9_anyHallOver_11 : decode cX9_anyHallOver 11 = .ok (.aload_n 0, 1) := by decide +kernel
theorem dX9_anyHallOver_12 : decode cX9_anyHallOver 12 = .ok (.getfield 11, 3) := by decide +kernel
theorem dX9_anyHallOver_15 : decode cX9_anyHallOver 15 = .ok (.arraylength, 1) := by decide +kernel
theorem dX9_anyHallOver_16 : decode cX9_anyHallOver 16 = .ok (.if_icmp .ge 23, 3) := by decide +kernel
theorem dX9_anyHallOver_19 : decode cX9_anyHallOver 19 = .ok (.aload_n 0, 1) := by decide +kernel
theorem dX9_anyHallOver_20 : decode cX9_anyHallOver 20 = .ok (.getfield 11, 3) := by decide +kernel
theorem dX9_anyHallOver_23 : decode cX9_anyHallOver 23 = .ok (.iload_n 1, 1) := by decide +kernel
theorem dX9_anyHallOver_24 : decode cX9_anyHallOver 24 = .ok (.aaload, 1) := by decide +kernel
theorem dX9_anyHallOver_25 : decode cX9_anyHallOver 25 = .ok (.invokevirtual 70, 3) := by decide +kernel
theorem dX9_anyHallOver_28 : decode cX9_anyHallOver 28 = .ok (.ifCond .eq 5, 3) := by decide +kernel
theorem dX9_anyHallOver_31 : decode cX9_anyHallOver 31 = .ok (.iconst 1, 1) := by decide +kernel
theorem dX9_anyHallOver_32 : decode cX9_anyHallOver 32 = .ok (.ireturn, 1) := by decide +kernel
theorem dX9_anyHallOver_33 : decode cX9_anyHallOver 33 = .ok (.iinc 1 1, 3) := by decide +kernel
theorem dX9_anyHallOver_36 : decode cX9_anyHallOver 36 = .ok (.goto (-34), 3) := by decide +kernel
theorem dX9_anyHallOver_39 : decode cX9_anyHallOver 39 = .ok (.iconst 0, 1) := by decide +kernel
theorem dX9_anyHallOver_40 : decode cX9_anyHallOver 40 = .ok (.ireturn, 1) := by decide +kernel
theorem dX11_shutByBar_0 : decode cX11_shutByBar 0 = .ok (.iload_n 1, 1) := by decide +kernel
theorem dX11_shutByBar_1 : decode cX11_shutByBar 1 = .ok (.iconst 0, 1) := by decide +kernel
theorem dX11_shutByBar_2 : decode cX11_shutByBar 2 = .ok (.iconst 5, 1) := by decide +kernel
theorem dX11_shutByBar_3 : decode cX11_shutByBar 3 = .ok (.invokestatic 47, 3) := by decide +kernel
theorem dX11_shutByBar_6 : decode cX11_shutByBar 6 = .ok (.ifCond .ne 5, 3) := by decide +kernel
theorem dX11_shutByBar_9 : decode cX11_shutByBar 9 = .ok (.iconst (-1), 1) := by decide +kernel
theorem dX11_shutByBar_10 : decode cX11_shutByBar 10 = .ok (.ireturn, 1) := by decide +kernel
theorem dX11_shutByBar_11 : decode cX11_shutByBar 11 = .ok (.aload_n 0, 1) := by decide +kernel
theorem dX11_shutByBar_12 : decode cX11_shutByBar 12 = .ok (.invokevirtual 246, 3) := by decide +kernel
theorem dX11_shutByBar_15 : decode cX11_shutByBar 15 = .ok (.astore 4, 2) := by decide +kernel
theorem dX11_shutByBar_17 : decode cX11_shutByBar 17 = .ok (.aload_n 0, 1) := by decide +kernel
theorem dX11_shutByBar_18 : decode cX11_shutByBar 18 = .ok (.getfield 19, 3) := by decide +kernel
theorem dX11_shutByBar_21 : decode cX11_shutByBar 21 = .ok (.getfield 55, 3) := by decide +kernel
theorem dX11_shutByBar_24 : decode cX11_shutByBar 24 = .ok (.iload_n 1, 1) := by decide +kernel
theorem dX11_shutByBar_25 : decode cX11_shutByBar 25 = .ok (.aaload, 1) := by decide +kernel
theorem dX11_shutByBar_26 : decode cX11_shutByBar 26 = .ok (.iload_n 2, 1) := by decide +kernel
theorem dX11_shutByBar_27 : decode cX11_shutByBar 27 = .ok (.putfield 69, 3) := by decide +kernel
theorem dX11_shutByBar_30 : decode cX11_shutByBar 30 = .ok (.iconst 0, 1) := by decide +kernel
theorem dX11_shutByBar_31 : decode cX11_shutByBar 31 = .ok (.istore 5, 2) := by decide +kernel
theorem dX11_shutByBar_33 : decode cX11_shutByBar 33 = .ok (.iload 5, 2) := by decide +kernel
theorem dX11_shutByBar_35 : decode cX11_shutByBar 35 = .ok (.iload_n 3, 1) := by decide +kernel
theorem dX11_shutByBar_36 : decode cX11_shutByBar 36 = .ok (.if_icmp .ge 51, 3) := by decide +kernel
theorem dX11_shutByBar_39 : decode cX11_shutByBar 39 = .ok (.aload_n 0, 1) := by decide +kernel
theorem dX11_shutByBar_40 : decode cX11_shutByBar 40 = .ok (.getfield 25, 3) := by decide +kernel
theorem dX11_shutByBar_43 : decode cX11_shutByBar 43 = .ok (.aload_n 0, 1) := by decide +kernel
theorem dX11_shutByBar_44 : decode cX11_shutByBar 44 = .ok (.getfield 19, 3) := by decide +kernel
theorem dX11_shutByBar_47 : decode cX11_shutByBar 47 = .ok (.aload 4, 2) := by decide +kernel
theorem dX11_shutByBar_49 : decode cX11_shutByBar 49 = .ok (.invokevirtual 169, 3) := by decide +kernel
theorem dX11_shutByBar_52 : decode cX11_shutByBar 52 = .ok (.aload_n 0, 1) := by decide +kernel
theorem dX11_shutByBar_53 : decode cX11_shutByBar 53 = .ok (.getfield 19, 3) := by decide +kernel
theorem dX11_shutByBar_56 : decode cX11_shutByBar 56 = .ok (.getfield 234, 3) := by decide +kernel
theorem dX11_shutByBar_59 : decode cX11_shutByBar 59 = .ok (.aload_n 0, 1) := by decide +kernel
theorem dX11_shutByBar_60 : decode cX11_shutByBar 60 = .ok (.getfield 10, 3) := by decide +kernel
theorem dX11_shutByBar_63 : decode cX11_shutByBar 63 = .ok (.getfield 234, 3) := by decide +kernel
theorem dX11_shutByBar_66 : decode cX11_shutByBar 66 = .ok (.if_icmp .ne 13, 3) := by decide +kernel
theorem dX11_shutByBar_69 : decode cX11_shutByBar 69 = .ok (.aload_n 0, 1) := by decide +kernel
theorem dX11_shutByBar_70 : decode cX11_shutByBar 70 = .ok (.getfield 19, 3) := by decide +kernel
theorem dX11_shutByBar_73 : decode cX11_shutByBar 73 = .ok (.invokevirtual 326, 3) := by decide +kernel
theorem dX11_shutByBar_76 : decode cX11_shutByBar 76 = .ok (.ifCond .eq 5, 3) := by decide +kernel
theorem dX11_shutByBar_79 : decode cX11_shutByBar 79 = .ok (.iconst (-1), 1) := by decide +kernel
theorem dX11_shutByBar_80 : decode cX11_shutByBar 80 = .ok (.ireturn, 1) := by decide +kernel
theorem dX11_shutByBar_81 : decode cX11_shutByBar 81 = .ok (.iinc 5 1, 3) := by decide +kernel
theorem dX11_shutByBar_84 : decode cX11_shutByBar 84 = .ok (.goto (-51), 3) := by decide +kernel
theorem dX11_shutByBar_87 : decode cX11_shutByBar 87 = .ok (.aload_n 0, 1) := by decide +kernel
theorem dX11_shutByBar_88 : decode cX11_shutByBar 88 = .ok (.getfield 19, 3) := by decide +kernel
theorem dX11_shutByBar_91 : decode cX11_shutByBar 91 = .ok (.getfield 55, 3) := by decide +kernel
theorem dX11_shutByBar_94 : decode cX11_shutByBar 94 = .ok (.iload_n 1, 1) := by decide +kernel
theorem dX11_shutByBar_95 : decode cX11_shutByBar 95 = .ok (.aaload, 1) := by decide +kernel
theorem dX11_shutByBar_96 : decode cX11_shutByBar 96 = .ok (.getfield 184, 3) := by decide +kernel
theorem dX11_shutByBar_99 : decode cX11_shutByBar 99 = .ok (.aload_n 0, 1) := by decide +kernel
theorem dX11_shutByBar_100 : decode cX11_shutByBar 100 = .ok (.getfield 10, 3) := by decide +kernel
theorem dX11_shutByBar_103 : decode cX11_shutByBar 103 = .ok (.getfield 55, 3) := by decide +kernel
theorem dX11_shutByBar_106 : decode cX11_shutByBar 106 = .ok (.iload_n 1, 1) := by decide +kernel
theorem dX11_shutByBar_107 : decode cX11_shutByBar 107 = .ok (.aaload, 1) := by decide +kernel
theorem dX11_shutByBar_108 : decode cX11_shutByBar 108 = .ok (.getfield 184, 3) := by decide +kernel
theorem dX11_shutByBar_111 : decode cX11_shutByBar 111 = .ok (.isub, 1) := by decide +kernel
theorem dX11_shutByBar_112 : decode cX11_shutByBar 112 = .ok (.ireturn, 1) := by decide +kernel
theorem dX11_least_0 : decode cX11_least 0 = .ok (.iload_n 3, 1) := by decide +kernel
theorem dX11_least_1 : decode cX11_least 1 = .ok (.iconst 0, 1) := by decide +kernel
theorem dX11_least_2 : decode cX11_least 2 = .ok (.iconst 1, 1) := by decide +kernel
theorem dX11_least_3 : decode cX11_least 3 = .ok (.invokestatic 47, 3) := by decide +kernel
theorem dX11_least_6 : decode cX11_least 6 = .ok (.ifCond .eq 22, 3) := by decide +kernel
theorem dX11_least_9 : decode cX11_least 9 = .ok (.aload_n 0, 1) := by decide +kernel
theorem dX11_least_10 : decode cX11_least 10 = .ok (.iload_n 2, 1) := by decide +kernel
theorem dX11_least_11 : decode cX11_least 11 = .ok (.invokevirtual 159, 3) := by decide +kernel
theorem dX11_least_14 : decode cX11_least 14 = .ok (.ifCond .eq 14, 3) := by decide +kernel
theorem dX11_least_17 : decode cX11_least 17 = .ok (.aload_n 0, 1) := by decide +kernel
theorem dX11_least_18 : decode cX11_least 18 = .ok (.getfield 10, 3) := by decide +kernel
theorem dX11_least_21 : decode cX11_least 21 = .ok (.iload_n 1, 1) := by decide +kernel
theorem dX11_least_22 : decode cX11_least 22 = .ok (.invokevirtual 65, 3) := by decide +kernel
theorem dX11_least_25 : decode cX11_least 25 = .ok (.ifCond .ne 5, 3) := by decide +kernel
theorem dX11_least_28 : decode cX11_least 28 = .ok (.iconst (-1), 1) := by decide +kernel
theorem dX11_least_29 : decode cX11_least 29 = .ok (.ireturn, 1) := by decide +kernel
theorem dX11_least_30 : decode cX11_least 30 = .ok (.bipush 60, 2) := by decide +kernel
theorem dX11_least_32 : decode cX11_least 32 = .ok (.istore 4, 2) := by decide +kernel
theorem dX11_least_34 : decode cX11_least 34 = .ok (.iload 4, 2) := by decide +kernel
theorem dX11_least_36 : decode cX11_least 36 = .ok (.ifCond .lt 37, 3) := by decide +kernel
theorem dX11_least_39 : decode cX11_least 39 = .ok (.aload_n 0, 1) := by decide +kernel
theorem dX11_least_40 : decode cX11_least 40 = .ok (.iload_n 1, 1) := by decide +kernel
theorem dX11_least_41 : decode cX11_least 41 = .ok (.iload 4, 2) := by decide +kernel
theorem dX11_least_43 : decode cX11_least 43 = .ok (.iload_n 2, 1) := by decide +kernel
theorem dX11_least_44 : decode cX11_least 44 = .ok (.invokevirtual 243, 3) := by decide +kernel
theorem dX11_least_47 : decode cX11_least 47 = .ok (.istore 5, 2) := by decide +kernel
theorem dX11_least_49 : decode cX11_least 49 = .ok (.iload 5, 2) := by decide +kernel
theorem dX11_least_51 : decode cX11_least 51 = .ok (.iconst (-1), 1) := by decide +kernel
theorem dX11_least_52 : decode cX11_least 52 = .ok (.if_icmp .eq 15, 3) := by decide +kernel
theorem dX11_least_55 : decode cX11_least 55 = .ok (.iload_n 3, 1) := by decide +kernel
theorem dX11_least_56 : decode cX11_least 56 = .ok (.ifCond .ne 8, 3) := by decide +kernel
theorem dX11_least_59 : decode cX11_least 59 = .ok (.iload 4, 2) := by decide +kernel
theorem dX11_least_61 : decode cX11_least 61 = .ok (.goto 5, 3) := by decide +kernel
theorem dX11_least_64 : decode cX11_least 64 = .ok (.iload 5, 2) := by decide +kernel
theorem dX11_least_66 : decode cX11_least 66 = .ok (.ireturn, 1) := by decide +kernel
theorem dX11_least_67 : decode cX11_least 67 = .ok (.iinc 4 (-1), 3) := by decide +kernel
theorem dX11_least_70 : decode cX11_least 70 = .ok (.goto (-36), 3) := by decide +kernel
theorem dX11_least_73 : decode cX11_least 73 = .ok (.iconst (-1), 1) := by decide +kernel
theorem dX11_least_74 : decode cX11_least 74 = .ok (.ireturn, 1) := by decide +kernel
theorem dX12_least_0 : decode cX12_least 0 = .ok (.aload_n 0, 1) := by decide +kernel
theorem dX12_least_1 : decode cX12_least 1 = .ok (.iload_n 1, 1) := by decide +kernel
theorem dX12_least_2 : decode cX12_least 2 = .ok (.invokevirtual 107, 3) := by decide +kernel
theorem dX12_least_5 : decode cX12_least 5 = .ok (.ifCond .eq 20, 3) := by decide +kernel
theorem dX12_least_8 : decode cX12_least 8 = .ok (.aload_n 0, 1) := by decide +kernel
theorem dX12_least_9 : decode cX12_least 9 = .ok (.iload_n 2, 1) := by decide +kernel
theorem dX12_least_10 : decode cX12_least 10 = .ok (.invokevirtual 377, 3) := by decide +kernel
theorem dX12_least_13 : decode cX12_least 13 = .ok (.ifCond .eq 12, 3) := by decide +kernel
theorem dX12_least_16 : decode cX12_least 16 = .ok (.iload_n 3, 1) := by decide +kernel
theorem dX12_least_17 : decode cX12_least 17 = .ok (.iconst 0, 1) := by decide +kernel
theorem dX12_least_18 : decode cX12_least 18 = .ok (.iconst 1, 1) := by decide +kernel
theorem dX12_least_19 : decode cX12_least 19 = .ok (.invokestatic 95, 3) := by decide +kernel
theorem dX12_least_22 : decode cX12_least 22 = .ok (.ifCond .ne 5, 3) := by decide +kernel
theorem dX12_least_25 : decode cX12_least 25 = .ok (.iconst (-1), 1) := by decide +kernel
theorem dX12_least_26 : decode cX12_least 26 = .ok (.ireturn, 1) := by decide +kernel
theorem dX12_least_27 : decode cX12_least 27 = .ok (.aload_n 0, 1) := by decide +kernel
theorem dX12_least_28 : decode cX12_least 28 = .ok (.invokevirtual 386, 3) := by decide +kernel
theorem dX12_least_31 : decode cX12_least 31 = .ok (.bipush 60, 2) := by decide +kernel
theorem dX12_least_33 : decode cX12_least 33 = .ok (.istore 4, 2) := by decide +kernel
theorem dX12_least_35 : decode cX12_least 35 = .ok (.iload 4, 2) := by decide +kernel
theorem dX12_least_37 : decode cX12_least 37 = .ok (.ifCond .lt 159, 3) := by decide +kernel
theorem dX12_least_40 : decode cX12_least 40 = .ok (.aload_n 0, 1) := by decide +kernel
theorem dX12_least_41 : decode cX12_least 41 = .ok (.getfield 7, 3) := by decide +kernel
theorem dX12_least_44 : decode cX12_least 44 = .ok (.bipush 20, 2) := by decide +kernel
theorem dX12_least_46 : decode cX12_least 46 = .ok (.iconst 4, 1) := by decide +kernel
theorem dX12_least_47 : decode cX12_least 47 = .ok (.iload_n 1, 1) := by decide +kernel
theorem dX12_least_48 : decode cX12_least 48 = .ok (.imul, 1) := by decide +kernel
theorem dX12_least_49 : decode cX12_least 49 = .ok (.iadd, 1) := by decide +kernel
theorem dX12_least_50 : decode cX12_least 50 = .ok (.iconst 1, 1) := by decide +kernel
theorem dX12_least_51 : decode cX12_least 51 = .ok (.iadd, 1) := by decide +kernel
theorem dX12_least_52 : decode cX12_least 52 = .ok (.iload 4, 2) := by decide +kernel
theorem dX12_least_54 : decode cX12_least 54 = .ok (.iastore, 1) := by decide +kernel
theorem dX12_least_55 : decode cX12_least 55 = .ok (.iconst 1, 1) := by decide +kernel
theorem dX12_least_56 : decode cX12_least 56 = .ok (.istore 5, 2) := by decide +kernel
theorem dX12_least_58 : decode cX12_least 58 = .ok (.iconst 0, 1) := by decide +kernel
theorem dX12_least_59 : decode cX12_least 59 = .ok (.istore 6, 2) := by decide +kernel
theorem dX12_least_61 : decode cX12_least 61 = .ok (.iload 6, 2) := by decide +kernel
theorem dX12_least_63 : decode cX12_least 63 = .ok (.iload_n 2, 1) := by decide +kernel
theorem dX12_least_64 : decode cX12_least 64 = .ok (.if_icmp .ge 83, 3) := by decide +kernel
theorem dX12_least_67 : decode cX12_least 67 = .ok (.iload 5, 2) := by decide +kernel
theorem dX12_least_69 : decode cX12_least 69 = .ok (.ifCond .eq 78, 3) := by decide +kernel
theorem dX12_least_72 : decode cX12_least 72 = .ok (.aload_n 0, 1) := by decide +kernel
theorem dX12_least_73 : decode cX12_least 73 = .ok (.invokevirtual 380, 3) := by decide +kernel
theorem dX12_least_76 : decode cX12_least 76 = .ok (.aload_n 0, 1) := by decide +kernel
theorem dX12_least_77 : decode cX12_least 77 = .ok (.getfield 7, 3) := by decide +kernel
theorem dX12_least_80 : decode cX12_least 80 = .ok (.bipush 12, 2) := by decide +kernel
theorem dX12_least_82 : decode cX12_least 82 = .ok (.iaload, 1) := by decide +kernel
theorem dX12_least_83 : decode cX12_least 83 = .ok (.aload_n 0, 1) := by decide +kernel
theorem dX12_least_84 : decode cX12_least 84 = .ok (.getfield 16, 3) := by decide +kernel
theorem dX12_least_87 : decode cX12_least 87 = .ok (.bipush 12, 2) := by decide +kernel
theorem dX12_least_89 : decode cX12_least 89 = .ok (.iaload, 1) := by decide +kernel
theorem dX12_least_90 : decode cX12_least 90 = .ok (.if_icmp .ne 7, 3) := by decide +kernel
theorem dX12_least_93 : decode cX12_least 93 = .ok (.iconst 1, 1) := by decide +kernel
theorem dX12_least_94 : decode cX12_least 94 = .ok (.goto 4, 3) := by decide +kernel
theorem dX12_least_97 : decode cX12_least 97 = .ok (.iconst 0, 1) := by decide +kernel
theorem dX12_least_98 : decode cX12_least 98 = .ok (.istore 5, 2) := by decide +kernel
theorem dX12_least_100 : decode cX12_least 100 = .ok (.iconst 0, 1) := by decide +kernel
theorem dX12_least_101 : decode cX12_least 101 = .ok (.istore 7, 2) := by decide +kernel
theorem dX12_least_103 : decode cX12_least 103 = .ok (.iload 7, 2) := by decide +kernel
theorem dX12_least_105 : decode cX12_least 105 = .ok (.aload_n 0, 1) := by decide +kernel
theorem dX12_least_106 : decode cX12_least 106 = .ok (.getfield 7, 3) := by decide +kernel
theorem dX12_least_109 : decode cX12_least 109 = .ok (.iconst 1, 1) := by decide +kernel
theorem dX12_least_110 : decode cX12_least 110 = .ok (.iaload, 1) := by decide +kernel
theorem dX12_least_111 : decode cX12_least 111 = .ok (.if_icmp .ge 30, 3) := by decide +kernel
theorem dX12_least_114 : decode cX12_least 114 = .ok (.iload 5, 2) := by decide +kernel
theorem dX12_least_116 : decode cX12_least 116 = .ok (.ifCond .eq 16, 3) := by decide +kernel
theorem dX12_least_119 : decode cX12_least 119 = .ok (.aload_n 0, 1) := by decide +kernel
theorem dX12_least_120 : decode cX12_least 120 = .ok (.iload 7, 2) := by decide +kernel
theorem dX12_least_122 : decode cX12_least 122 = .ok (.invokevirtual 374, 3) := by decide +kernel
theorem dX12_least_125 : decode cX12_least 125 = .ok (.ifCond .ne 7, 3) := by decide +kernel
theorem dX12_least_128 : decode cX12_least 128 = .ok (.iconst 1, 1) := by decide +kernel
theorem dX12_least_129 : decode cX12_least 129 = .ok (.goto 4, 3) := by decide +kernel
theorem dX12_least_132 : decode cX12_least 132 = .ok (.iconst 0, 1) := by decide +kernel
theorem dX12_least_133 : decode cX12_least 133 = .ok (.istore 5, 2) := by decide +kernel
theorem dX12_least_135 : decode cX12_least 135 = .ok (.iinc 7 1, 3) := by decide +kernel
theorem dX12_least_138 : decode cX12_least 138 = .ok (.goto (-35), 3) := by decide +kernel
theorem dX12_least_141 : decode cX12_least 141 = .ok (.iinc 6 1, 3) := by decide +kernel
theorem dX12_least_144 : decode cX12_least 144 = .ok (.goto (-83), 3) := by decide +kernel
theorem dX12_least_147 : decode cX12_least 147 = .ok (.aload_n 0, 1) := by decide +kernel
theorem dX12_least_148 : decode cX12_least 148 = .ok (.iload_n 1, 1) := by decide +kernel
theorem dX12_least_149 : decode cX12_least 149 = .ok (.iconst 2, 1) := by decide +kernel
theorem dX12_least_150 : decode cX12_least 150 = .ok (.invokevirtual 295, 3) := by decide +kernel
theorem dX12_least_153 : decode cX12_least 153 = .ok (.aload_n 0, 1) := by decide +kernel
theorem dX12_least_154 : decode cX12_least 154 = .ok (.getfield 16, 3) := by decide +kernel
theorem dX12_least_157 : decode cX12_least 157 = .ok (.bipush 20, 2) := by decide +kernel
theorem dX12_least_159 : decode cX12_least 159 = .ok (.iconst 4, 1) := by decide +kernel
theorem dX12_least_160 : decode cX12_least 160 = .ok (.iload_n 1, 1) := by decide +kernel
theorem dX12_least_161 : decode cX12_least 161 = .ok (.imul, 1) := by decide +kernel
theorem dX12_least_162 : decode cX12_least 162 = .ok (.iadd, 1) := by decide +kernel
theorem dX12_least_163 : decode cX12_least 163 = .ok (.iconst 2, 1) := by decide +kernel
theorem dX12_least_164 : decode cX12_least 164 = .ok (.iadd, 1) := by decide +kernel
theorem dX12_least_165 : decode cX12_least 165 = .ok (.iaload, 1) := by decide +kernel
theorem dX12_least_166 : decode cX12_least 166 = .ok (.isub, 1) := by decide +kernel
theorem dX12_least_167 : decode cX12_least 167 = .ok (.istore 6, 2) := by decide +kernel
theorem dX12_least_169 : decode cX12_least 169 = .ok (.aload_n 0, 1) := by decide +kernel
theorem dX12_least_170 : decode cX12_least 170 = .ok (.invokevirtual 395, 3) := by decide +kernel
theorem dX12_least_173 : decode cX12_least 173 = .ok (.iload 5, 2) := by decide +kernel
theorem dX12_least_175 : decode cX12_least 175 = .ok (.ifCond .eq 15, 3) := by decide +kernel
theorem dX12_least_178 : decode cX12_least 178 = .ok (.iload_n 3, 1) := by decide +kernel
theorem dX12_least_179 : decode cX12_least 179 = .ok (.ifCond .ne 8, 3) := by decide +kernel
theorem dX12_least_182 : decode cX12_least 182 = .ok (.iload 4, 2) := by decide +kernel
theorem dX12_least_184 : decode cX12_least 184 = .ok (.goto 5, 3) := by decide +kernel
theorem dX12_least_187 : decode cX12_least 187 = .ok (.iload 6, 2) := by decide +kernel
theorem dX12_least_189 : decode cX12_least 189 = .ok (.ireturn, 1) := by decide +kernel
theorem dX12_least_190 : decode cX12_least 190 = .ok (.iinc 4 (-1), 3) := by decide +kernel
theorem dX12_least_193 : decode cX12_least 193 = .ok (.goto (-158), 3) := by decide +kernel
theorem dX12_least_196 : decode cX12_least 196 = .ok (.iconst (-1), 1) := by decide +kernel
theorem dX12_least_197 : decode cX12_least 197 = .ok (.ireturn, 1) := by decide +kernel
theorem dX11_felt_0 : decode cX11_felt 0 = .ok (.aload_n 0, 1) := by decide +kernel
theorem dX11_felt_1 : decode cX11_felt 1 = .ok (.iload_n 2, 1) := by decide +kernel
theorem dX11_felt_2 : decode cX11_felt 2 = .ok (.invokevirtual 159, 3) := by decide +kernel
theorem dX11_felt_5 : decode cX11_felt 5 = .ok (.ifCond .eq 14, 3) := by decide +kernel
theorem dX11_felt_8 : decode cX11_felt 8 = .ok (.aload_n 0, 1) := by decide +kernel
theorem dX11_felt_9 : decode cX11_felt 9 = .ok (.getfield 10, 3) := by decide +kernel
theorem dX11_felt_12 : decode cX11_felt 12 = .ok (.iload_n 1, 1) := by decide +kernel
theorem dX11_felt_13 : decode cX11_felt 13 = .ok (.invokevirtual 90, 3) := by decide +kernel
theorem dX11_felt_16 : decode cX11_felt 16 = .ok (.ifCond .ne 5, 3) := by decide +kernel
theorem dX11_felt_19 : decode cX11_felt 19 = .ok (.iconst (-1), 1) := by decide +kernel
theorem dX11_felt_20 : decode cX11_felt 20 = .ok (.ireturn, 1) := by decide +kernel
theorem dX11_felt_21 : decode cX11_felt 21 = .ok (.aload_n 0, 1) := by decide +kernel
theorem dX11_felt_22 : decode cX11_felt 22 = .ok (.invokevirtual 246, 3) := by decide +kernel
theorem dX11_felt_25 : decode cX11_felt 25 = .ok (.astore_n 3, 1) := by decide +kernel
theorem dX11_felt_26 : decode cX11_felt 26 = .ok (.aload_n 0, 1) := by decide +kernel
theorem dX11_felt_27 : decode cX11_felt 27 = .ok (.getfield 19, 3) := by decide +kernel
theorem dX11_felt_30 : decode cX11_felt 30 = .ok (.getfield 75, 3) := by decide +kernel
theorem dX11_felt_33 : decode cX11_felt 33 = .ok (.iload_n 1, 1) := by decide +kernel
theorem dX11_felt_34 : decode cX11_felt 34 = .ok (.aaload, 1) := by decide +kernel
theorem dX11_felt_35 : decode cX11_felt 35 = .ok (.invokevirtual 249, 3) := by decide +kernel
theorem dX11_felt_38 : decode cX11_felt 38 = .ok (.istore 4, 2) := by decide +kernel
theorem dX11_felt_40 : decode cX11_felt 40 = .ok (.aload_n 0, 1) := by decide +kernel
theorem dX11_felt_41 : decode cX11_felt 41 = .ok (.getfield 19, 3) := by decide +kernel
theorem dX11_felt_44 : decode cX11_felt 44 = .ok (.getfield 75, 3) := by decide +kernel
theorem dX11_felt_47 : decode cX11_felt 47 = .ok (.iload_n 1, 1) := by decide +kernel
theorem dX11_felt_48 : decode cX11_felt 48 = .ok (.aaload, 1) := by decide +kernel
theorem dX11_felt_49 : decode cX11_felt 49 = .ok (.iconst 0, 1) := by decide +kernel
theorem dX11_felt_50 : decode cX11_felt 50 = .ok (.invokevirtual 87, 3) := by decide +kernel
theorem dX11_felt_53 : decode cX11_felt 53 = .ok (.iconst 0, 1) := by decide +kernel
theorem dX11_felt_54 : decode cX11_felt 54 = .ok (.istore 5, 2) := by decide +kernel
theorem dX11_felt_56 : decode cX11_felt 56 = .ok (.iload 5, 2) := by decide +kernel
theorem dX11_felt_58 : decode cX11_felt 58 = .ok (.iload_n 2, 1) := by decide +kernel
theorem dX11_felt_59 : decode cX11_felt 59 = .ok (.if_icmp .ge 52, 3) := by decide +kernel
theorem dX11_felt_62 : decode cX11_felt 62 = .ok (.aload_n 0, 1) := by decide +kernel
theorem dX11_felt_63 : decode cX11_felt 63 = .ok (.getfield 25, 3) := by decide +kernel
theorem dX11_felt_66 : decode cX11_felt 66 = .ok (.aload_n 0, 1) := by decide +kernel
theorem dX11_felt_67 : decode cX11_felt 67 = .ok (.getfield 19, 3) := by decide +kernel
theorem dX11_felt_70 : decode cX11_felt 70 = .ok (.aload_n 3, 1) := by decide +kernel
theorem dX11_felt_71 : decode cX11_felt 71 = .ok (.invokevirtual 169, 3) := by decide +kernel
theorem dX11_felt_74 : decode cX11_felt 74 = .ok (.aload_n 0, 1) := by decide +kernel
theorem dX11_felt_75 : decode cX11_felt 75 = .ok (.getfield 19, 3) := by decide +kernel
theorem dX11_felt_78 : decode cX11_felt 78 = .ok (.iload 4, 2) := by decide +kernel
theorem dX11_felt_80 : decode cX11_felt 80 = .ok (.invokevirtual 65, 3) := by decide +kernel
theorem dX11_felt_83 : decode cX11_felt 83 = .ok (.ifCond .eq 22, 3) := by decide +kernel
theorem dX11_felt_86 : decode cX11_felt 86 = .ok (.aload_n 0, 1) := by decide +kernel
theorem dX11_felt_87 : decode cX11_felt 87 = .ok (.getfield 19, 3) := by decide +kernel
theorem dX11_felt_90 : decode cX11_felt 90 = .ok (.getfield 55, 3) := by decide +kernel
theorem dX11_felt_93 : decode cX11_felt 93 = .ok (.iload 4, 2) := by decide +kernel
theorem dX11_felt_95 : decode cX11_felt 95 = .ok (.aaload, 1) := by decide +kernel
theorem dX11_felt_96 : decode cX11_felt 96 = .ok (.invokevirtual 253, 3) := by decide +kernel
theorem dX11_felt_99 : decode cX11_felt 99 = .ok (.ifCond .eq 6, 3) := by decide +kernel
theorem dX11_felt_102 : decode cX11_felt 102 = .ok (.iload 5, 2) := by decide +kernel
theorem dX11_felt_104 : decode cX11_felt 104 = .ok (.ireturn, 1) := by decide +kernel
theorem dX11_felt_105 : decode cX11_felt 105 = .ok (.iinc 5 1, 3) := by decide +kernel
theorem dX11_felt_108 : decode cX11_felt 108 = .ok (.goto (-52), 3) := by decide +kernel
theorem dX11_felt_111 : decode cX11_felt 111 = .ok (.iconst (-1), 1) := by decide +kernel
theorem dX11_felt_112 : decode cX11_felt 112 = .ok (.ireturn, 1) := by decide +kernel
theorem dX12_isStair_0 : decode cX12_isStair 0 = .ok (.aload_n 0, 1) := by decide +kernel
theorem dX12_isStair_1 : decode cX12_isStair 1 = .ok (.iload_n 1, 1) := by decide +kernel
theorem dX12_isStair_2 : decode cX12_isStair 2 = .ok (.invokevirtual 99, 3) := by decide +kernel
theorem dX12_isStair_5 : decode cX12_isStair 5 = .ok (.ifCond .eq 16, 3) := by decide +kernel
theorem dX12_isStair_8 : decode cX12_isStair 8 = .ok (.aload_n 0, 1) := by decide +kernel
theorem dX12_isStair_9 : decode cX12_isStair 9 = .ok (.iload_n 1, 1) := by decide +kernel
theorem dX12_isStair_10 : decode cX12_isStair 10 = .ok (.iconst 0, 1) := by decide +kernel
theorem dX12_isStair_11 : decode cX12_isStair 11 = .ok (.invokevirtual 103, 3) := by decide +kernel
theorem dX12_isStair_14 : decode cX12_isStair 14 = .ok (.ifCond .ne 7, 3) := by decide +kernel
theorem dX12_isStair_17 : decode cX12_isStair 17 = .ok (.iconst 1, 1) := by decide +kernel
theorem dX12_isStair_18 : decode cX12_isStair 18 = .ok (.goto 4, 3) := by decide +kernel
theorem dX12_isStair_21 : decode cX12_isStair 21 = .ok (.iconst 0, 1) := by decide +kernel
theorem dX12_isStair_22 : decode cX12_isStair 22 = .ok (.ireturn, 1) := by decide +kernel
def fX12_ways_25 (a0 : Nat) (a1 : Int32) (a2 : Int32) (a3 : Int32) (m : xMem) : Option (Int32 × xMem) := some ((-1 : Int32), m)
set_option maxRecDepth 4000 in
theorem fX12_ways_25_ok {a0 : Nat} {a1 : Int32} {a2 : Int32} {a3 : Int32} {d : Nat} (hd : 7 ≤ d) (ha0 : isModel a0) {o4 : Option Value} {o5 : Option Value} {o6 : Option Value} {o7 : Option Value} {o8 : Option Value} {m : xMem} {r : (Int32 × xMem)} (q4 : xNoD o4 = true) (q5 : xNoD o5 = true) (q6 : xNoD o6 = true) (q7 : xNoD o7 = true) (q8 : xNoD o8 = true) (h : fX12_ways_25 a0 a1 a2 a3 m = some r) : xFx hh_212 cX12_ways d 25 [some (.ref a0), some (.int a1), some (.int a2), some (.int a3), o4, o5, o6, o7, o8] [] (xLay m) 0 0 (some (.int r.1)) (xLay r.2) := by
  unfold fX12_ways_25 at h
  refine fx_iconst (x := -1) dX12_ways_25 rfl (by decide) ?_
  cases h
  exact fx_ireturn dX12_ways_26 rfl rfl
def fX12_ways_103 (a0 : Nat) (a1 : Int32) (a2 : Int32) (a3 : Int32) (rec40 : Int32 → Int32 → Int32 → xMem → Option (Int32 × xMem)) (rec58 : Int32 → Int32 → Int32 → Int32 → xMem → Option (Int32 × xMem)) (l4 : Int32) (l5 : Int32) (l6 : Int32) (l7 : Int32) (m : xMem) : Option (Int32 × xMem) := xLet (l7 + (1 : Int32)) fun x1 => rec58 l4 l5 l6 x1 m
set_option maxRecDepth 4000 in
theorem fX12_ways_103_ok {a0 : Nat} {a1 : Int32} {a2 : Int32} {a3 : Int32} {rec40 : Int32 → Int32 → Int32 → xMem → Option (Int32 × xMem)} {rec58 : Int32 → Int32 → Int32 → Int32 → xMem → Option (Int32 × xMem)} {d : Nat} (hd : 7 ≤ d) (ha0 : isModel a0) (hrec40 : ∀ (l4 : Int32) (l5 : Int32) (l6 : Int32) (o7 : Option Value) (o8 : Option Value) (q7 : xNoD o7 = true) (q8 : xNoD o8 = true) (m : xMem) (r : (Int32 × xMem)), rec40 l4 l5 l6 m = some r → xFx hh_212 cX12_ways d 40 [some (.ref a0), some (.int a1), some (.int a2), some (.int a3), some (.int l4), some (.int l5), some (.int l6), o7, o8] [] (xLay m) 0 0 (some (.int r.1)) (xLay r.2)) (hrec58 : ∀ (l4 : Int32) (l5 : Int32) (l6 : Int32) (l7 : Int32) (o8 : Option Value) (q8 : xNoD o8 = true) (m : xMem) (r : (Int32 × xMem)), rec58 l4 l5 l6 l7 m = some r → xFx hh_212 cX12_ways d 58 [some (.ref a0), some (.int a1), some (.int a2), some (.int a3), some (.int l4), some (.int l5), some (.int l6), some (.int l7), o8] [] (xLay m) 0 0 (some (.int r.1)) (xLay r.2)) {l4 : Int32} {l5 : Int32} {l6 : Int32} {l7 : Int32} {o8 : Option Value} {m : xMem} {r : (Int32 × xMem)} (q8 : xNoD o8 = true) (h : fX12_ways_103 a0 a1 a2 a3 rec40 rec58 l4 l5 l6 l7 m = some r) : xFx hh_212 cX12_ways d 103 [some (.ref a0), some (.int a1), some (.int a2), some (.int a3), some (.int l4), some (.int l5), some (.int l6), some (.int l7), o8] [] (xLay m) 0 0 (some (.int r.1)) (xLay r.2) := by
  unfold fX12_ways_103 at h
  obtain ⟨x1, hx1, h⟩ := xLet_el h
  refine fx_iinc (ls2 := [some (.ref a0), some (.int a1), some (.int a2), some (.int a3), some (.int l4), some (.int l5), some (.int l6), some (.int x1), o8]) dX12_ways_103 rfl rfl rfl hx1 rfl ?_
  refine fx_goto (t := 58) dX12_ways_106 rfl rfl ?_
  exact hrec58 l4 l5 l6 x1 (o8) q8 m r h
def fX12_ways_98 (a0 : Nat) (a1 : Int32) (a2 : Int32) (a3 : Int32) (rec40 : Int32 → Int32 → Int32 → xMem → Option (Int32 × xMem)) (rec58 : Int32 → Int32 → Int32 → Int32 → xMem → Option (Int32 × xMem)) (l4 : Int32) (l5 : Int32) (l6 : Int32) (l7 : Int32) (s0 : Nat) (s1 : Int32) (s2 : Int32) (m : xMem) : Option (Int32 × xMem) := (fX12_turn s0 s1 s2 m).bind fun p1 => fX12_ways_103 a0 a1 a2 a3 rec40 rec58 l4 l5 l6 l7 p1.2
set_option maxRecDepth 4000 in
theorem fX12_ways_98_ok {a0 : Nat} {a1 : Int32} {a2 : Int32} {a3 : Int32} {rec40 : Int32 → Int32 → Int32 → xMem → Option (Int32 × xMem)} {rec58 : Int32 → Int32 → Int32 → Int32 → xMem → Option (Int32 × xMem)} {d : Nat} (hd : 7 ≤ d) (ha0 : isModel a0) (hrec40 : ∀ (l4 : Int32) (l5 : Int32) (l6 : Int32) (o7 : Option Value) (o8 : Option Value) (q7 : xNoD o7 = true) (q8 : xNoD o8 = true) (m : xMem) (r : (Int32 × xMem)), rec40 l4 l5 l6 m = some r → xFx hh_212 cX12_ways d 40 [some (.ref a0), some (.int a1), some (.int a2), some (.int a3), some (.int l4), some (.int l5), some (.int l6), o7, o8] [] (xLay m) 0 0 (some (.int r.1)) (xLay r.2)) (hrec58 : ∀ (l4 : Int32) (l5 : Int32) (l6 : Int32) (l7 : Int32) (o8 : Option Value) (q8 : xNoD o8 = true) (m : xMem) (r : (Int32 × xMem)), rec58 l4 l5 l6 l7 m = some r → xFx hh_212 cX12_ways d 58 [some (.ref a0), some (.int a1), some (.int a2), some (.int a3), some (.int l4), some (.int l5), some (.int l6), some (.int l7), o8] [] (xLay m) 0 0 (some (.int r.1)) (xLay r.2)) {l4 : Int32} {l5 : Int32} {l6 : Int32} {l7 : Int32} {s0 : Nat} {s1 : Int32} {s2 : Int32} {o8 : Option Value} {m : xMem} {r : (Int32 × xMem)} (hs0 : isModel s0) (q8 : xNoD o8 = true) (h : fX12_ways_98 a0 a1 a2 a3 rec40 rec58 l4 l5 l6 l7 s0 s1 s2 m = some r) : xFx hh_212 cX12_ways d 98 [some (.ref a0), some (.int a1), some (.int a2), some (.int a3), some (.int l4), some (.int l5), some (.int l6), some (.int l7), o8] [.int s2, .int s1, .ref s0] (xLay m) 0 0 (some (.int r.1)) (xLay r.2) := by
  unfold fX12_ways_98 at h
  obtain ⟨p1, ep1, h⟩ := xBind_el h
  refine gx_callv (as := [.int s1, .int s2]) (r := []) rfl dX12_ways_98 ca_12_389 rfl me_31 rfl rfl rfl rfl (hs0.1) rfl (fX12_turn_ok (d := d) (by omega) hs0 ep1) rfl rfl ?_
  refine fx_istore (ls2 := [some (.ref a0), some (.int a1), some (.int a2), some (.int a3), some (.int l4), some (.int l5), some (.int l6), some (.int l7), some (.int p1.1)]) dX12_ways_101 rfl rfl rfl ?_
  exact fX12_ways_103_ok (o8 := some (.int p1.1)) hd ha0 hrec40 hrec58 rfl h
def fX12_ways_156 (a0 : Nat) (a1 : Int32) (a2 : Int32) (a3 : Int32) (rec40 : Int32 → Int32 → Int32 → xMem → Option (Int32 × xMem)) (l4 : Int32) (l5 : Int32) (l6 : Int32) (m : xMem) : Option (Int32 × xMem) := xLet (l6 + (1 : Int32)) fun x1 => rec40 l4 l5 x1 m
set_option maxRecDepth 4000 in
theorem fX12_ways_156_ok {a0 : Nat} {a1 : Int32} {a2 : Int32} {a3 : Int32} {rec40 : Int32 → Int32 → Int32 → xMem → Option (Int32 × xMem)} {d : Nat} (hd : 7 ≤ d) (ha0 : isModel a0) (hrec40 : ∀ (l4 : Int32) (l5 : Int32) (l6 : Int32) (o7 : Option Value) (o8 : Option Value) (q7 : xNoD o7 = true) (q8 : xNoD o8 = true) (m : xMem) (r : (Int32 × xMem)), rec40 l4 l5 l6 m = some r → xFx hh_212 cX12_ways d 40 [some (.ref a0), some (.int a1), some (.int a2), some (.int a3), some (.int l4), some (.int l5), some (.int l6), o7, o8] [] (xLay m) 0 0 (some (.int r.1)) (xLay r.2)) {l4 : Int32} {l5 : Int32} {l6 : Int32} {o7 : Option Value} {o8 : Option Value} {m : xMem} {r : (Int32 × xMem)} (q7 : xNoD o7 = true) (q8 : xNoD o8 = true) (h : fX12_ways_156 a0 a1 a2 a3 rec40 l4 l5 l6 m = some r) : xFx hh_212 cX12_ways d 156 [some (.ref a0), some (.int a1), some (.int a2), some (.int a3), some (.int l4), some (.int l5), some (.int l6), o7, o8] [] (xLay m) 0 0 (some (.int r.1)) (xLay r.2) := by
  unfold fX12_ways_156 at h
  obtain ⟨x1, hx1, h⟩ := xLet_el h
  refine fx_iinc (ls2 := [some (.ref a0), some (.int a1), some (.int a2), some (.int a3), some (.int l4), some (.int l5), some (.int x1), o7, o8]) dX12_ways_156 rfl rfl rfl hx1 rfl ?_
  refine fx_goto (t := 40) dX12_ways_159 rfl rfl ?_
  exact hrec40 l4 l5 x1 (o7) (o8) q7 q8 m r h
def fX12_ways_148 (a0 : Nat) (a1 : Int32) (a2 : Int32) (a3 : Int32) (rec40 : Int32 → Int32 → Int32 → xMem → Option (Int32 × xMem)) (l6 : Int32) (l7 : Int32) (m : xMem) : Option (Int32 × xMem) := fX12_ways_156 a0 a1 a2 a3 rec40 l6 l7 l6 m
set_option maxRecDepth 4000 in
theorem fX12_ways_148_ok {a0 : Nat} {a1 : Int32} {a2 : Int32} {a3 : Int32} {rec40 : Int32 → Int32 → Int32 → xMem → Option (Int32 × xMem)} {d : Nat} (hd : 7 ≤ d) (ha0 : isModel a0) (hrec40 : ∀ (l4 : Int32) (l5 : Int32) (l6 : Int32) (o7 : Option Value) (o8 : Option Value) (q7 : xNoD o7 = true) (q8 : xNoD o8 = true) (m : xMem) (r : (Int32 × xMem)), rec40 l4 l5 l6 m = some r → xFx hh_212 cX12_ways d 40 [some (.ref a0), some (.int a1), some (.int a2), some (.int a3), some (.int l4), some (.int l5), some (.int l6), o7, o8] [] (xLay m) 0 0 (some (.int r.1)) (xLay r.2)) {l6 : Int32} {l7 : Int32} {o4 : Option Value} {o5 : Option Value} {o8 : Option Value} {m : xMem} {r : (Int32 × xMem)} (q4 : xNoD o4 = true) (q5 : xNoD o5 = true) (q8 : xNoD o8 = true) (h : fX12_ways_148 a0 a1 a2 a3 rec40 l6 l7 m = some r) : xFx hh_212 cX12_ways d 148 [some (.ref a0), some (.int a1), some (.int a2), some (.int a3), o4, o5, some (.int l6), some (.int l7), o8] [] (xLay m) 0 0 (some (.int r.1)) (xLay r.2) := by
  unfold fX12_ways_148 at h
  refine fx_iload dX12_ways_148 rfl rfl ?_
  refine fx_istore (ls2 := [some (.ref a0), some (.int a1), some (.int a2), some (.int a3), some (.int l6), o5, some (.int l6), some (.int l7), o8]) dX12_ways_150 rfl rfl rfl ?_
  refine fx_iload dX12_ways_152 rfl rfl ?_
  refine fx_istore (ls2 := [some (.ref a0), some (.int a1), some (.int a2), some (.int a3), some (.int l6), some (.int l7), some (.int l6), some (.int l7), o8]) dX12_ways_154 rfl rfl rfl ?_
  exact fX12_ways_156_ok (o7 := some (.int l7)) (o8 := o8) hd ha0 hrec40 rfl q8 h
def fX12_ways_58 (a0 : Nat) (a1 : Int32) (a2 : Int32) (a3 : Int32) (rec40 : Int32 → Int32 → Int32 → xMem → Option (Int32 × xMem)) : Nat → Int32 → Int32 → Int32 → Int32 → xMem → Option (Int32 × xMem)
  | 0, _, _, _, _, _ => none
  | fuel + 1, l4, l5, l6, l7, m => bif xIn (2 : Int32) 1610 then xLet (m.1 (a0 + 1) (2 : Int32).toNatClampNeg) fun x1 => if x1 ≤ l7 then (fX12_runs a0 a2 m).bind fun p4 => bif xIn (10 : Int32) 1610 then xLet (p4.1 (a0 + 1) (10 : Int32).toNatClampNeg) fun x5 => bif xIn (10 : Int32) 1610 then xLet (p4.1 (a0 + 3) (10 : Int32).toNatClampNeg) fun x7 => xLet (x5 - x7) fun x9 => (fX12_putsBack a0 p4).bind fun p10 => if l4 = (-1 : Int32) then fX12_ways_148 a0 a1 a2 a3 rec40 l6 x9 p10 else if l5 ≤ x9 then fX12_ways_156 a0 a1 a2 a3 rec40 l4 l5 l6 p10 else fX12_ways_148 a0 a1 a2 a3 rec40 l6 x9 p10 else none else none else xLet (a1 >>> (l7 &&& 31)) fun x13 => xLet (x13 &&& (1 : Int32)) fun x14 => if ¬ x14 = (1 : Int32) then fX12_ways_103 a0 a1 a2 a3 rec40 (fX12_ways_58 a0 a1 a2 a3 rec40 fuel) l4 l5 l6 l7 m else xLet (l6 >>> (l7 &&& 31)) fun x16 => xLet (x16 &&& (1 : Int32)) fun x17 => if ¬ x17 = (1 : Int32) then fX12_ways_98 a0 a1 a2 a3 rec40 (fX12_ways_58 a0 a1 a2 a3 rec40 fuel) l4 l5 l6 l7 a0 l7 (2 : Int32) m else fX12_ways_98 a0 a1 a2 a3 rec40 (fX12_ways_58 a0 a1 a2 a3 rec40 fuel) l4 l5 l6 l7 a0 l7 (1 : Int32) m else none
set_option maxRecDepth 4000 in
theorem fX12_ways_58_ok {a0 : Nat} {a1 : Int32} {a2 : Int32} {a3 : Int32} {rec40 : Int32 → Int32 → Int32 → xMem → Option (Int32 × xMem)} {d : Nat} (hd : 7 ≤ d) (ha0 : isModel a0) (hrec40 : ∀ (l4 : Int32) (l5 : Int32) (l6 : Int32) (o7 : Option Value) (o8 : Option Value) (q7 : xNoD o7 = true) (q8 : xNoD o8 = true) (m : xMem) (r : (Int32 × xMem)), rec40 l4 l5 l6 m = some r → xFx hh_212 cX12_ways d 40 [some (.ref a0), some (.int a1), some (.int a2), some (.int a3), some (.int l4), some (.int l5), some (.int l6), o7, o8] [] (xLay m) 0 0 (some (.int r.1)) (xLay r.2)) : ∀ (fuel : Nat) (l4 : Int32) (l5 : Int32) (l6 : Int32) (l7 : Int32) (o8 : Option Value) (q8 : xNoD o8 = true) (m : xMem) (r : (Int32 × xMem)), fX12_ways_58 a0 a1 a2 a3 rec40 fuel l4 l5 l6 l7 m = some r → xFx hh_212 cX12_ways d 58 [some (.ref a0), some (.int a1), some (.int a2), some (.int a3), some (.int l4), some (.int l5), some (.int l6), some (.int l7), o8] [] (xLay m) 0 0 (some (.int r.1)) (xLay r.2) := by
  intro fuel
  induction fuel with
  | zero => intro l4 l5 l6 l7 o8 q8 m r  h; cases h
  | succ fuel ih =>
    intro l4 l5 l6 l7 o8 q8 m r  h
    unfold fX12_ways_58 at h
    refine fx_iload dX12_ways_58 rfl rfl ?_
    refine fx_aload_n dX12_ways_60 rfl rfl ?_
    refine gx_getr dX12_ways_61 rfl fd_12_7 ha0.1 rfl rfl ?_
    refine fx_iconst (x := 2) dX12_ways_64 rfl (by decide) ?_
    obtain ⟨hj2, h⟩ := xChk_el h
    obtain ⟨x1, hx1, h⟩ := xLet_el h
    refine gx_iaload dX12_ways_65 rfl ha0.2.1 hj2 hx1 ?_
    refine fx_icmp_ge (t := 109) dX12_ways_66 rfl rfl (fun hc3 => ?_) (fun hc3 => ?_)
    · rw [if_pos hc3] at h
      refine fx_aload_n dX12_ways_109 rfl rfl ?_
      refine fx_iload_n dX12_ways_110 rfl rfl ?_
      obtain ⟨p4, ep4, h⟩ := xBind_el h
      refine gx_callv (as := [.int a2]) (r := []) rfl dX12_ways_111 ca_12_392 rfl me_215 rfl rfl rfl rfl (ha0.1) rfl (fX12_runs_ok (d := d) (by omega) ha0 ep4) rfl rfl ?_
      refine fx_aload_n dX12_ways_114 rfl rfl ?_
      refine gx_getr dX12_ways_115 rfl fd_12_7 ha0.1 rfl rfl ?_
      refine fx_bipush (x := 10) dX12_ways_118 rfl (by decide) ?_
      obtain ⟨hj6, h⟩ := xChk_el h
      obtain ⟨x5, hx5, h⟩ := xLet_el h
      refine gx_iaload dX12_ways_120 rfl ha0.2.1 hj6 hx5 ?_
      refine fx_aload_n dX12_ways_121 rfl rfl ?_
      refine gx_getr dX12_ways_122 rfl fd_12_16 ha0.1 rfl rfl ?_
      refine fx_bipush (x := 10) dX12_ways_125 rfl (by decide) ?_
      obtain ⟨hj8, h⟩ := xChk_el h
      obtain ⟨x7, hx7, h⟩ := xLet_el h
      refine gx_iaload dX12_ways_127 rfl ha0.2.2.2.1 hj8 hx7 ?_
      obtain ⟨x9, hx9, h⟩ := xLet_el h
      refine fx_isub dX12_ways_128 rfl hx9 ?_
      refine fx_istore (ls2 := [some (.ref a0), some (.int a1), some (.int a2), some (.int a3), some (.int l4), some (.int l5), some (.int l6), some (.int x9), o8]) dX12_ways_129 rfl rfl rfl ?_
      refine fx_aload_n dX12_ways_131 rfl rfl ?_
      obtain ⟨p10, ep10, h⟩ := xBind_el h
      refine gx_callv (as := []) (r := []) rfl dX12_ways_132 ca_12_395 rfl me_216 rfl rfl rfl rfl (ha0.1) rfl (fX12_putsBack_ok (d := d) (by omega) ha0 ep10) rfl rfl ?_
      refine fx_iload dX12_ways_135 rfl rfl ?_
      refine fx_iconst (x := -1) dX12_ways_137 rfl (by decide) ?_
      refine fx_icmp_eq (t := 148) dX12_ways_138 rfl rfl (fun hc11 => ?_) (fun hc11 => ?_)
      · rw [if_pos hc11] at h
        exact fX12_ways_148_ok (o4 := some (.int l4)) (o5 := some (.int l5)) (o8 := o8) hd ha0 hrec40 rfl rfl q8 h
      · rw [if_neg hc11] at h
        refine fx_iload dX12_ways_141 rfl rfl ?_
        refine fx_iload dX12_ways_143 rfl rfl ?_
        refine fx_icmp_ge (t := 156) dX12_ways_145 rfl rfl (fun hc12 => ?_) (fun hc12 => ?_)
        · rw [if_pos hc12] at h
          exact fX12_ways_156_ok (o7 := some (.int x9)) (o8 := o8) hd ha0 hrec40 rfl q8 h
        · rw [if_neg hc12] at h
          exact fX12_ways_148_ok (o4 := some (.int l4)) (o5 := some (.int l5)) (o8 := o8) hd ha0 hrec40 rfl rfl q8 h
    · rw [if_neg hc3] at h
      refine fx_iload_n dX12_ways_69 rfl rfl ?_
      refine fx_iload dX12_ways_70 rfl rfl ?_
      obtain ⟨x13, hx13, h⟩ := xLet_el h
      refine fx_ishr dX12_ways_72 rfl hx13 ?_
      refine fx_iconst (x := 1) dX12_ways_73 rfl (by decide) ?_
      obtain ⟨x14, hx14, h⟩ := xLet_el h
      refine fx_iand dX12_ways_74 rfl hx14 ?_
      refine fx_iconst (x := 1) dX12_ways_75 rfl (by decide) ?_
      refine fx_icmp_ne (t := 103) dX12_ways_76 rfl rfl (fun hc15 => ?_) (fun hc15 => ?_)
      · rw [if_pos hc15] at h
        exact fX12_ways_103_ok (o8 := o8) hd ha0 hrec40 ih q8 h
      · rw [if_neg hc15] at h
        refine fx_aload_n dX12_ways_79 rfl rfl ?_
        refine fx_iload dX12_ways_80 rfl rfl ?_
        refine fx_iload dX12_ways_82 rfl rfl ?_
        refine fx_iload dX12_ways_84 rfl rfl ?_
        obtain ⟨x16, hx16, h⟩ := xLet_el h
        refine fx_ishr dX12_ways_86 rfl hx16 ?_
        refine fx_iconst (x := 1) dX12_ways_87 rfl (by decide) ?_
        obtain ⟨x17, hx17, h⟩ := xLet_el h
        refine fx_iand dX12_ways_88 rfl hx17 ?_
        refine fx_iconst (x := 1) dX12_ways_89 rfl (by decide) ?_
        refine fx_icmp_ne (t := 97) dX12_ways_90 rfl rfl (fun hc18 => ?_) (fun hc18 => ?_)
        · rw [if_pos hc18] at h
          refine fx_iconst (x := 2) dX12_ways_97 rfl (by decide) ?_
          exact fX12_ways_98_ok (o8 := o8) hd ha0 hrec40 ih ha0 q8 h
        · rw [if_neg hc18] at h
          refine fx_iconst (x := 1) dX12_ways_93 rfl (by decide) ?_
          refine fx_goto (t := 98) dX12_ways_94 rfl rfl ?_
          exact fX12_ways_98_ok (o8 := o8) hd ha0 hrec40 ih ha0 q8 h
def fX12_ways_173 (a0 : Nat) (a1 : Int32) (a2 : Int32) (a3 : Int32) (s0 : Int32) (m : xMem) : Option (Int32 × xMem) := some (s0, m)
set_option maxRecDepth 4000 in
theorem fX12_ways_173_ok {a0 : Nat} {a1 : Int32} {a2 : Int32} {a3 : Int32} {d : Nat} (hd : 7 ≤ d) (ha0 : isModel a0) {s0 : Int32} {o4 : Option Value} {o5 : Option Value} {o6 : Option Value} {o7 : Option Value} {o8 : Option Value} {m : xMem} {r : (Int32 × xMem)} (q4 : xNoD o4 = true) (q5 : xNoD o5 = true) (q6 : xNoD o6 = true) (q7 : xNoD o7 = true) (q8 : xNoD o8 = true) (h : fX12_ways_173 a0 a1 a2 a3 s0 m = some r) : xFx hh_212 cX12_ways d 173 [some (.ref a0), some (.int a1), some (.int a2), some (.int a3), o4, o5, o6, o7, o8] [.int s0] (xLay m) 0 0 (some (.int r.1)) (xLay r.2) := by
  unfold fX12_ways_173 at h
  cases h
  exact fx_ireturn dX12_ways_173 rfl rfl
def fX12_ways_40 (a0 : Nat) (a1 : Int32) (a2 : Int32) (a3 : Int32) : Nat → Int32 → Int32 → Int32 → xMem → Option (Int32 × xMem)
  | 0, _, _, _, _ => none
  | fuel + 1, l4, l5, l6, m => if a1 < l6 then if ¬ a3 = (0 : Int32) then fX12_ways_173 a0 a1 a2 a3 l5 m else fX12_ways_173 a0 a1 a2 a3 l4 m else xLet (a1 ^^^ (-1 : Int32)) fun x3 => xLet (l6 &&& x3) fun x4 => if ¬ x4 = (0 : Int32) then fX12_ways_156 a0 a1 a2 a3 (fX12_ways_40 a0 a1 a2 a3 fuel) l4 l5 l6 m else fX12_ways_58 a0 a1 a2 a3 (fX12_ways_40 a0 a1 a2 a3 fuel) xFuel l4 l5 l6 (0 : Int32) m
set_option maxRecDepth 4000 in
theorem fX12_ways_40_ok {a0 : Nat} {a1 : Int32} {a2 : Int32} {a3 : Int32} {d : Nat} (hd : 7 ≤ d) (ha0 : isModel a0) : ∀ (fuel : Nat) (l4 : Int32) (l5 : Int32) (l6 : Int32) (o7 : Option Value) (o8 : Option Value) (q7 : xNoD o7 = true) (q8 : xNoD o8 = true) (m : xMem) (r : (Int32 × xMem)), fX12_ways_40 a0 a1 a2 a3 fuel l4 l5 l6 m = some r → xFx hh_212 cX12_ways d 40 [some (.ref a0), some (.int a1), some (.int a2), some (.int a3), some (.int l4), some (.int l5), some (.int l6), o7, o8] [] (xLay m) 0 0 (some (.int r.1)) (xLay r.2) := by
  intro fuel
  induction fuel with
  | zero => intro l4 l5 l6 o7 o8 q7 q8 m r  h; cases h
  | succ fuel ih =>
    intro l4 l5 l6 o7 o8 q7 q8 m r  h
    unfold fX12_ways_40 at h
    refine fx_iload dX12_ways_40 rfl rfl ?_
    refine fx_iload_n dX12_ways_42 rfl rfl ?_
    refine fx_icmp_gt (t := 162) dX12_ways_43 rfl rfl (fun hc1 => ?_) (fun hc1 => ?_)
    · rw [if_pos hc1] at h
      refine fx_iload_n dX12_ways_162 rfl rfl ?_
      refine fx_if_ne (t := 171) dX12_ways_163 rfl rfl (fun hc2 => ?_) (fun hc2 => ?_)
      · rw [if_pos hc2] at h
        refine fx_iload dX12_ways_171 rfl rfl ?_
        exact fX12_ways_173_ok (o4 := some (.int l4)) (o5 := some (.int l5)) (o6 := some (.int l6)) (o7 := o7) (o8 := o8) hd ha0 rfl rfl rfl q7 q8 h
      · rw [if_neg hc2] at h
        refine fx_iload dX12_ways_166 rfl rfl ?_
        refine fx_goto (t := 173) dX12_ways_168 rfl rfl ?_
        exact fX12_ways_173_ok (o4 := some (.int l4)) (o5 := some (.int l5)) (o6 := some (.int l6)) (o7 := o7) (o8 := o8) hd ha0 rfl rfl rfl q7 q8 h
    · rw [if_neg hc1] at h
      refine fx_iload dX12_ways_46 rfl rfl ?_
      refine fx_iload_n dX12_ways_48 rfl rfl ?_
      refine fx_iconst (x := -1) dX12_ways_49 rfl (by decide) ?_
      obtain ⟨x3, hx3, h⟩ := xLet_el h
      refine fx_ixor dX12_ways_50 rfl hx3 ?_
      obtain ⟨x4, hx4, h⟩ := xLet_el h
      refine fx_iand dX12_ways_51 rfl hx4 ?_
      refine fx_if_ne (t := 156) dX12_ways_52 rfl rfl (fun hc5 => ?_) (fun hc5 => ?_)
      · rw [if_pos hc5] at h
        exact fX12_ways_156_ok (o7 := o7) (o8 := o8) hd ha0 ih q7 q8 h
      · rw [if_neg hc5] at h
        refine fx_iconst (x := 0) dX12_ways_55 rfl (by decide) ?_
        refine fx_istore (ls2 := [some (.ref a0), some (.int a1), some (.int a2), some (.int a3), some (.int l4), some (.int l5), some (.int l6), some (.int (0 : Int32)), o8]) dX12_ways_56 rfl rfl rfl ?_
        exact fX12_ways_58_ok hd ha0 ih xFuel l4 l5 l6 (0 : Int32) (o8) q8 m r h
def fX12_ways_0 (a0 : Nat) (a1 : Int32) (a2 : Int32) (a3 : Int32) (m : xMem) : Option (Int32 × xMem) := (fX12_areStairs a0 a1 m).bind fun p1 => if p1.1 = (0 : Int32) then fX12_ways_25 a0 a1 a2 a3 p1.2 else (fX12_isRun a0 a2 p1.2).bind fun p3 => if p3.1 = (0 : Int32) then fX12_ways_25 a0 a1 a2 a3 p3.2 else (fX12_in a3 (0 : Int32) (1 : Int32) p3.2).bind fun p5 => if ¬ p5.1 = (0 : Int32) then (fX12_saves a0 p5.2).bind fun p7 => fX12_ways_40 a0 a1 a2 a3 xFuel (-1 : Int32) (0 : Int32) (0 : Int32) p7 else fX12_ways_25 a0 a1 a2 a3 p5.2
set_option maxRecDepth 4000 in
theorem fX12_ways_0_ok {a0 : Nat} {a1 : Int32} {a2 : Int32} {a3 : Int32} {d : Nat} (hd : 7 ≤ d) (ha0 : isModel a0) {o4 : Option Value} {o5 : Option Value} {o6 : Option Value} {o7 : Option Value} {o8 : Option Value} {m : xMem} {r : (Int32 × xMem)} (q4 : xNoD o4 = true) (q5 : xNoD o5 = true) (q6 : xNoD o6 = true) (q7 : xNoD o7 = true) (q8 : xNoD o8 = true) (h : fX12_ways_0 a0 a1 a2 a3 m = some r) : xFx hh_212 cX12_ways d 0 [some (.ref a0), some (.int a1), some (.int a2), some (.int a3), o4, o5, o6, o7, o8] [] (xLay m) 0 0 (some (.int r.1)) (xLay r.2) := by
  unfold fX12_ways_0 at h
  refine fx_aload_n dX12_ways_0 rfl rfl ?_
  refine fx_iload_n dX12_ways_1 rfl rfl ?_
  obtain ⟨p1, ep1, h⟩ := xBind_el h
  refine gx_callv (as := [.int a1]) (r := []) rfl dX12_ways_2 ca_12_383 rfl me_213 rfl rfl rfl rfl (ha0.1) rfl (fX12_areStairs_ok (d := d) (by omega) ha0 ep1) rfl rfl ?_
  refine fx_if_eq (t := 25) dX12_ways_5 rfl rfl (fun hc2 => ?_) (fun hc2 => ?_)
  · rw [if_pos hc2] at h
    exact fX12_ways_25_ok (o4 := o4) (o5 := o5) (o6 := o6) (o7 := o7) (o8 := o8) hd ha0 q4 q5 q6 q7 q8 h
  · rw [if_neg hc2] at h
    refine fx_aload_n dX12_ways_8 rfl rfl ?_
    refine fx_iload_n dX12_ways_9 rfl rfl ?_
    obtain ⟨p3, ep3, h⟩ := xBind_el h
    refine gx_callv (as := [.int a2]) (r := []) rfl dX12_ways_10 ca_12_377 rfl me_163 rfl rfl rfl rfl (ha0.1) rfl (fX12_isRun_ok (d := d) (by omega) ha0 ep3) rfl rfl ?_
    refine fx_if_eq (t := 25) dX12_ways_13 rfl rfl (fun hc4 => ?_) (fun hc4 => ?_)
    · rw [if_pos hc4] at h
      exact fX12_ways_25_ok (o4 := o4) (o5 := o5) (o6 := o6) (o7 := o7) (o8 := o8) hd ha0 q4 q5 q6 q7 q8 h
    · rw [if_neg hc4] at h
      refine fx_iload_n dX12_ways_16 rfl rfl ?_
      refine fx_iconst (x := 0) dX12_ways_17 rfl (by decide) ?_
      refine fx_iconst (x := 1) dX12_ways_18 rfl (by decide) ?_
      obtain ⟨p5, ep5, h⟩ := xBind_el h
      refine gx_calls (as := [.int a3, .int (0 : Int32), .int (1 : Int32)]) (r := []) rfl dX12_ways_19 ca_12_95 rfl me_18 rfl rfl rfl rfl (fX12_in_ok (d := d) (by omega) ep5) rfl rfl ?_
      refine fx_if_ne (t := 27) dX12_ways_22 rfl rfl (fun hc6 => ?_) (fun hc6 => ?_)
      · rw [if_pos hc6] at h
        refine fx_aload_n dX12_ways_27 rfl rfl ?_
        obtain ⟨p7, ep7, h⟩ := xBind_el h
        refine gx_callv (as := []) (r := []) rfl dX12_ways_28 ca_12_386 rfl me_214 rfl rfl rfl rfl (ha0.1) rfl (fX12_saves_ok (d := d) (by omega) ha0 ep7) rfl rfl ?_
        refine fx_iconst (x := -1) dX12_ways_31 rfl (by decide) ?_
        refine fx_istore (ls2 := [some (.ref a0), some (.int a1), some (.int a2), some (.int a3), some (.int (-1 : Int32)), o5, o6, o7, o8]) dX12_ways_32 rfl rfl rfl ?_
        refine fx_iconst (x := 0) dX12_ways_34 rfl (by decide) ?_
        refine fx_istore (ls2 := [some (.ref a0), some (.int a1), some (.int a2), some (.int a3), some (.int (-1 : Int32)), some (.int (0 : Int32)), o6, o7, o8]) dX12_ways_35 rfl rfl rfl ?_
        refine fx_iconst (x := 0) dX12_ways_37 rfl (by decide) ?_
        refine fx_istore (ls2 := [some (.ref a0), some (.int a1), some (.int a2), some (.int a3), some (.int (-1 : Int32)), some (.int (0 : Int32)), some (.int (0 : Int32)), o7, o8]) dX12_ways_38 rfl rfl rfl ?_
        exact fX12_ways_40_ok hd ha0 xFuel (-1 : Int32) (0 : Int32) (0 : Int32) (o7) (o8) q7 q8 p7 r h
      · rw [if_neg hc6] at h
        exact fX12_ways_25_ok (o4 := o4) (o5 := o5) (o6 := o6) (o7 := o7) (o8 := o8) hd ha0 q4 q5 q6 q7 q8 h
def fX12_ways (a0 : Nat) (a1 : Int32) (a2 : Int32) (a3 : Int32) (m : xMem) : Option (Int32 × xMem) := fX12_ways_0 a0 a1 a2 a3  m
theorem fX12_ways_ok {a0 : Nat} {a1 : Int32} {a2 : Int32} {a3 : Int32} {m : xMem} {r : (Int32 × xMem)} {d : Nat} (hd : 8 ≤ d) (ha0 : isModel a0) (h : fX12_ways a0 a1 a2 a3 m = some r) : xEx d 212 [.ref a0, .int a1, .int a2, .int a3] (xLay m) (some (.int r.1)) (xLay r.2) := by
  obtain ⟨d, rfl⟩ : ∃ q, d = q + 1 := ⟨d - 1, by omega⟩
  exact xEx_of me_212 rfl (fX12_ways_0_ok (d := d) (o4 := none) (o5 := none) (o6 := none) (o7 := none) (o8 := none) (by omega) ha0 rfl rfl rfl rfl rfl h)
def fX9_anyHallOver_39 (a0 : Nat) (m : xMem) : Option (Int32 × xMem) := some ((0 : Int32), m)
set_option maxRecDepth 4000 in
theorem fX9_anyHallOver_39_ok {a0 : Nat} {d : Nat} (hd : 1 ≤ d) (ha0 : isStation a0) {o1 : Option Value} {m : xMem} {r : (Int32 × xMem)} (q1 : xNoD o1 = true) (h : fX9_anyHallOver_39 a0 m = some r) : xFx hh_219 cX9_anyHallOver d 39 [some (.ref a0), o1] [] (xLay m) 0 0 (some (.int r.1)) (xLay r.2) := by
  unfold fX9_anyHallOver_39 at h
  refine fx_iconst (x := 0) dX9_anyHallOver_39 rfl (by decide) ?_
  cases h
  exact fx_ireturn dX9_anyHallOver_40 rfl rfl
def fX9_anyHallOver_2 (a0 : Nat) : Nat → Int32 → xMem → Option (Int32 × xMem)
  | 0, _, _ => none
  | fuel + 1, l1, m => xLet (m.1 a0 7) fun x1 => if x1 ≤ l1 then fX9_anyHallOver_39 a0 m else if (6 : Int32) ≤ l1 then fX9_anyHallOver_39 a0 m else bif xIn l1 6 then xLet (a0 + 15 + 3 * l1.toNatClampNeg) fun r5 => (fX2_isOver r5 m).bind fun p6 => if p6.1 = (0 : Int32) then xLet (l1 + (1 : Int32)) fun x8 => fX9_anyHallOver_2 a0 fuel x8 p6.2 else some ((1 : Int32), p6.2) else none
set_option maxRecDepth 4000 in
theorem fX9_anyHallOver_2_ok {a0 : Nat} {d : Nat} (hd : 1 ≤ d) (ha0 : isStation a0) : ∀ (fuel : Nat) (l1 : Int32) (m : xMem) (r : (Int32 × xMem)), fX9_anyHallOver_2 a0 fuel l1 m = some r → xFx hh_219 cX9_anyHallOver d 2 [some (.ref a0), some (.int l1)] [] (xLay m) 0 0 (some (.int r.1)) (xLay r.2) := by
  intro fuel
  induction fuel with
  | zero => intro l1  m r  h; cases h
  | succ fuel ih =>
    intro l1  m r  h
    unfold fX9_anyHallOver_2 at h
    refine fx_iload_n dX9_anyHallOver_2 rfl rfl ?_
    refine fx_aload_n dX9_anyHallOver_3 rfl rfl ?_
    obtain ⟨x1, hx1, h⟩ := xLet_el h
    refine gx_get dX9_anyHallOver_4 rfl fd_9_57 ha0.1 rfl rfl hx1 ?_
    refine fx_icmp_ge (t := 39) dX9_anyHallOver_7 rfl rfl (fun hc2 => ?_) (fun hc2 => ?_)
    · rw [if_pos hc2] at h
      exact fX9_anyHallOver_39_ok (o1 := some (.int l1)) hd ha0 rfl h
    · rw [if_neg hc2] at h
      refine fx_iload_n dX9_anyHallOver_10 rfl rfl ?_
      refine fx_aload_n dX9_anyHallOver_11 rfl rfl ?_
      refine gx_getr dX9_anyHallOver_12 rfl fd_9_11 ha0.1 rfl rfl ?_
      refine gx_alen (t := 4) (y := 6) dX9_anyHallOver_15 rfl ha0.2.1 rfl (by decide) ?_
      refine fx_icmp_ge (t := 39) dX9_anyHallOver_16 rfl rfl (fun hc3 => ?_) (fun hc3 => ?_)
      · rw [if_pos hc3] at h
        exact fX9_anyHallOver_39_ok (o1 := some (.int l1)) hd ha0 rfl h
      · rw [if_neg hc3] at h
        refine fx_aload_n dX9_anyHallOver_19 rfl rfl ?_
        refine gx_getr dX9_anyHallOver_20 rfl fd_9_11 ha0.1 rfl rfl ?_
        refine fx_iload_n dX9_anyHallOver_23 rfl rfl ?_
        obtain ⟨hj4, h⟩ := xChk_el h
        obtain ⟨r5, hr5, h⟩ := xLet_el h
        refine gx_aaload (t := 4) dX9_anyHallOver_24 rfl ha0.2.1 rfl hj4 ((xRef_at (sl_9_0 a0) hj4).trans (congrArg some hr5)) ?_
        have hpr5 : isHall r5 := by rw [← hr5]; exact ha0.2.2.2.2.2.2.2.1 _ (xIn_lt hj4)
        obtain ⟨p6, ep6, h⟩ := xBind_el h
        refine gx_callv (as := []) (r := []) rfl dX9_anyHallOver_25 ca_9_70 rfl me_161 rfl rfl rfl rfl (hpr5.1) rfl (fX2_isOver_ok (d := d) (by omega) hpr5 ep6) rfl rfl ?_
        refine fx_if_eq (t := 33) dX9_anyHallOver_28 rfl rfl (fun hc7 => ?_) (fun hc7 => ?_)
        · rw [if_pos hc7] at h
          obtain ⟨x8, hx8, h⟩ := xLet_el h
          refine fx_iinc (ls2 := [some (.ref a0), some (.int x8)]) dX9_anyHallOver_33 rfl rfl rfl hx8 rfl ?_
          refine fx_goto (t := 2) dX9_anyHallOver_36 rfl rfl ?_
          exact ih x8 p6.2 r h
        · rw [if_neg hc7] at h
          refine fx_iconst (x := 1) dX9_anyHallOver_31 rfl (by decide) ?_
          cases h
          exact fx_ireturn dX9_anyHallOver_32 rfl rfl
def fX9_anyHallOver_0 (a0 : Nat) (m : xMem) : Option (Int32 × xMem) := fX9_anyHallOver_2 a0 xFuel (0 : Int32) m
set_option maxRecDepth 4000 in
theorem fX9_anyHallOver_0_ok {a0 : Nat} {d : Nat} (hd : 1 ≤ d) (ha0 : isStation a0) {o1 : Option Value} {m : xMem} {r : (Int32 × xMem)} (q1 : xNoD o1 = true) (h : fX9_anyHallOver_0 a0 m = some r) : xFx hh_219 cX9_anyHallOver d 0 [some (.ref a0), o1] [] (xLay m) 0 0 (some (.int r.1)) (xLay r.2) := by
  unfold fX9_anyHallOver_0 at h
  refine fx_iconst (x := 0) dX9_anyHallOver_0 rfl (by decide) ?_
  refine fx_istore_n (ls2 := [some (.ref a0), some (.int (0 : Int32))]) dX9_anyHallOver_1 rfl rfl rfl ?_
  exact fX9_anyHallOver_2_ok hd ha0 xFuel (0 : Int32) m r h
def fX9_anyHallOver (a0 : Nat) (m : xMem) : Option (Int32 × xMem) := fX9_anyHallOver_0 a0  m
theorem fX9_anyHallOver_ok {a0 : Nat} {m : xMem} {r : (Int32 × xMem)} {d : Nat} (hd : 2 ≤ d) (ha0 : isStation a0) (h : fX9_anyHallOver a0 m = some r) : xEx d 219 [.ref a0] (xLay m) (some (.int r.1)) (xLay r.2) := by
  obtain ⟨d, rfl⟩ : ∃ q, d = q + 1 := ⟨d - 1, by omega⟩
  exact xEx_of me_219 rfl (fX9_anyHallOver_0_ok (d := d) (o1 := none) (by omega) ha0 rfl h)
def fX11_shutByBar_79 (a0 : Nat) (a1 : Int32) (a2 : Int32) (a3 : Int32) (m : xMem) : Option (Int32 × xMem) := some ((-1 : Int32), m)
set_option maxRecDepth 4000 in
theorem fX11_shutByBar_79_ok {a0 : Nat} {a1 : Int32} {a2 : Int32} {a3 : Int32} {d : Nat} (hd : 6 ≤ d) (ha0 : isMS a0) {o4 : Option Value} {o5 : Option Value} {m : xMem} {r : (Int32 × xMem)} (q4 : xNoD o4 = true) (q5 : xNoD o5 = true) (h : fX11_shutByBar_79 a0 a1 a2 a3 m = some r) : xFx hh_218 cX11_shutByBar d 79 [some (.ref a0), some (.int a1), some (.int a2), some (.int a3), o4, o5] [] (xLay m) 0 0 (some (.int r.1)) (xLay r.2) := by
  unfold fX11_shutByBar_79 at h
  refine fx_iconst (x := -1) dX11_shutByBar_79 rfl (by decide) ?_
  cases h
  exact fx_ireturn dX11_shutByBar_80 rfl rfl
def fX11_shutByBar_33 (a0 : Nat) (a1 : Int32) (a2 : Int32) (a3 : Int32) : Nat → Nat → Int32 → xMem → Option (Int32 × xMem)
  | 0, _, _, _ => none
  | fuel + 1, l4, l5, m => if a3 ≤ l5 then bif xIn a1 6 then xLet (a0 + 167 + 15 + 3 * a1.toNatClampNeg) fun r3 => xLet (m.1 r3 6) fun x4 => bif xIn a1 6 then xLet (a0 + 1 + 15 + 3 * a1.toNatClampNeg) fun r6 => xLet (m.1 r6 6) fun x7 => xLet (x4 - x7) fun x8 => some (x8, m) else none else none else (fX6_passSecond (a0 + 250) (a0 + 167) l4 m).bind fun p9 => xLet (p9.1 (a0 + 167) 15) fun x10 => xLet (p9.1 (a0 + 1) 15) fun x11 => if ¬ x10 = x11 then fX11_shutByBar_79 a0 a1 a2 a3 p9 else (fX9_anyHallOver (a0 + 167) p9).bind fun p13 => if p13.1 = (0 : Int32) then xLet (l5 + (1 : Int32)) fun x15 => fX11_shutByBar_33 a0 a1 a2 a3 fuel l4 x15 p13.2 else fX11_shutByBar_79 a0 a1 a2 a3 p13.2
set_option maxRecDepth 4000 in
theorem fX11_shutByBar_33_ok {a0 : Nat} {a1 : Int32} {a2 : Int32} {a3 : Int32} {d : Nat} (hd : 6 ≤ d) (ha0 : isMS a0) : ∀ (fuel : Nat) (l4 : Nat) (l5 : Int32) (m : xMem) (r : (Int32 × xMem)) (hl4 : isText l4), fX11_shutByBar_33 a0 a1 a2 a3 fuel l4 l5 m = some r → xFx hh_218 cX11_shutByBar d 33 [some (.ref a0), some (.int a1), some (.int a2), some (.int a3), some (.ref l4), some (.int l5)] [] (xLay m) 0 0 (some (.int r.1)) (xLay r.2) := by
  intro fuel
  induction fuel with
  | zero => intro l4 l5  m r hl4 h; cases h
  | succ fuel ih =>
    intro l4 l5  m r hl4 h
    unfold fX11_shutByBar_33 at h
    refine fx_iload dX11_shutByBar_33 rfl rfl ?_
    refine fx_iload_n dX11_shutByBar_35 rfl rfl ?_
    refine fx_icmp_ge (t := 87) dX11_shutByBar_36 rfl rfl (fun hc1 => ?_) (fun hc1 => ?_)
    · rw [if_pos hc1] at h
      refine fx_aload_n dX11_shutByBar_87 rfl rfl ?_
      refine gx_getr dX11_shutByBar_88 rfl fd_11_19 ha0.1 rfl rfl ?_
      refine gx_getr dX11_shutByBar_91 rfl fd_11_55 ha0.2.2.2.1.1 rfl rfl ?_
      refine fx_iload_n dX11_shutByBar_94 rfl rfl ?_
      obtain ⟨hj2, h⟩ := xChk_el h
      obtain ⟨r3, hr3, h⟩ := xLet_el h
      refine gx_aaload (t := 4) dX11_shutByBar_95 rfl ha0.2.2.2.1.2.1 rfl hj2 ((xRef_at (sl_9_0 (a0 + 167)) hj2).trans (congrArg some hr3)) ?_
      have hpr3 : isHall r3 := by rw [← hr3]; exact ha0.2.2.2.1.2.2.2.2.2.2.2.1 _ (xIn_lt hj2)
      obtain ⟨x4, hx4, h⟩ := xLet_el h
      refine gx_get dX11_shutByBar_96 rfl fd_11_184 hpr3.1 rfl rfl hx4 ?_
      refine fx_aload_n dX11_shutByBar_99 rfl rfl ?_
      refine gx_getr dX11_shutByBar_100 rfl fd_11_10 ha0.1 rfl rfl ?_
      refine gx_getr dX11_shutByBar_103 rfl fd_11_55 ha0.2.1.1 rfl rfl ?_
      refine fx_iload_n dX11_shutByBar_106 rfl rfl ?_
      obtain ⟨hj5, h⟩ := xChk_el h
      obtain ⟨r6, hr6, h⟩ := xLet_el h
      refine gx_aaload (t := 4) dX11_shutByBar_107 rfl ha0.2.1.2.1 rfl hj5 ((xRef_at (sl_9_0 (a0 + 1)) hj5).trans (congrArg some hr6)) ?_
      have hpr6 : isHall r6 := by rw [← hr6]; exact ha0.2.1.2.2.2.2.2.2.2.1 _ (xIn_lt hj5)
      obtain ⟨x7, hx7, h⟩ := xLet_el h
      refine gx_get dX11_shutByBar_108 rfl fd_11_184 hpr6.1 rfl rfl hx7 ?_
      obtain ⟨x8, hx8, h⟩ := xLet_el h
      refine fx_isub dX11_shutByBar_111 rfl hx8 ?_
      cases h
      exact fx_ireturn dX11_shutByBar_112 rfl rfl
    · rw [if_neg hc1] at h
      refine fx_aload_n dX11_shutByBar_39 rfl rfl ?_
      refine gx_getr dX11_shutByBar_40 rfl fd_11_25 ha0.1 rfl rfl ?_
      refine fx_aload_n dX11_shutByBar_43 rfl rfl ?_
      refine gx_getr dX11_shutByBar_44 rfl fd_11_19 ha0.1 rfl rfl ?_
      refine fx_aload dX11_shutByBar_47 rfl rfl ?_
      obtain ⟨p9, ep9, h⟩ := xBind_el h
      refine gx_callv (as := [.ref (a0 + 167), .ref l4]) (r := []) rfl dX11_shutByBar_49 ca_11_169 rfl me_120 rfl rfl rfl rfl (ha0.2.2.2.2.1.1) rfl (fX6_passSecond_ok (d := d) (by omega) ha0.2.2.2.2.1 ha0.2.2.2.1 hl4 ep9) rfl rfl ?_
      refine fx_aload_n dX11_shutByBar_52 rfl rfl ?_
      refine gx_getr dX11_shutByBar_53 rfl fd_11_19 ha0.1 rfl rfl ?_
      obtain ⟨x10, hx10, h⟩ := xLet_el h
      refine gx_get dX11_shutByBar_56 rfl fd_11_234 ha0.2.2.2.1.1 rfl rfl hx10 ?_
      refine fx_aload_n dX11_shutByBar_59 rfl rfl ?_
      refine gx_getr dX11_shutByBar_60 rfl fd_11_10 ha0.1 rfl rfl ?_
      obtain ⟨x11, hx11, h⟩ := xLet_el h
      refine gx_get dX11_shutByBar_63 rfl fd_11_234 ha0.2.1.1 rfl rfl hx11 ?_
      refine fx_icmp_ne (t := 79) dX11_shutByBar_66 rfl rfl (fun hc12 => ?_) (fun hc12 => ?_)
      · rw [if_pos hc12] at h
        exact fX11_shutByBar_79_ok (o4 := some (.ref l4)) (o5 := some (.int l5)) hd ha0 rfl rfl h
      · rw [if_neg hc12] at h
        refine fx_aload_n dX11_shutByBar_69 rfl rfl ?_
        refine gx_getr dX11_shutByBar_70 rfl fd_11_19 ha0.1 rfl rfl ?_
        obtain ⟨p13, ep13, h⟩ := xBind_el h
        refine gx_callv (as := []) (r := []) rfl dX11_shutByBar_73 ca_11_326 rfl me_219 rfl rfl rfl rfl (ha0.2.2.2.1.1) rfl (fX9_anyHallOver_ok (d := d) (by omega) ha0.2.2.2.1 ep13) rfl rfl ?_
        refine fx_if_eq (t := 81) dX11_shutByBar_76 rfl rfl (fun hc14 => ?_) (fun hc14 => ?_)
        · rw [if_pos hc14] at h
          obtain ⟨x15, hx15, h⟩ := xLet_el h
          refine fx_iinc (ls2 := [some (.ref a0), some (.int a1), some (.int a2), some (.int a3), some (.ref l4), some (.int x15)]) dX11_shutByBar_81 rfl rfl rfl hx15 rfl ?_
          refine fx_goto (t := 33) dX11_shutByBar_84 rfl rfl ?_
          exact ih l4 x15 p13.2 r hl4 h
        · rw [if_neg hc14] at h
          exact fX11_shutByBar_79_ok (o4 := some (.ref l4)) (o5 := some (.int l5)) hd ha0 rfl rfl h
def fX11_shutByBar_0 (a0 : Nat) (a1 : Int32) (a2 : Int32) (a3 : Int32) (m : xMem) : Option (Int32 × xMem) := (fX11_within a1 (0 : Int32) (5 : Int32) m).bind fun p1 => if ¬ p1.1 = (0 : Int32) then (fX11_beginTrial a0 p1.2).bind fun p3 => bif xIn a1 6 then xLet (a0 + 167 + 15 + 3 * a1.toNatClampNeg) fun r5 => xLet (xPut p3.2 r5 3 a2) fun m6 => fX11_shutByBar_33 a0 a1 a2 a3 xFuel p3.1 (0 : Int32) m6 else none else some ((-1 : Int32), p1.2)
set_option maxRecDepth 4000 in
theorem fX11_shutByBar_0_ok {a0 : Nat} {a1 : Int32} {a2 : Int32} {a3 : Int32} {d : Nat} (hd : 6 ≤ d) (ha0 : isMS a0) {o4 : Option Value} {o5 : Option Value} {m : xMem} {r : (Int32 × xMem)} (q4 : xNoD o4 = true) (q5 : xNoD o5 = true) (h : fX11_shutByBar_0 a0 a1 a2 a3 m = some r) : xFx hh_218 cX11_shutByBar d 0 [some (.ref a0), some (.int a1), some (.int a2), some (.int a3), o4, o5] [] (xLay m) 0 0 (some (.int r.1)) (xLay r.2) := by
  unfold fX11_shutByBar_0 at h
  refine fx_iload_n dX11_shutByBar_0 rfl rfl ?_
  refine fx_iconst (x := 0) dX11_shutByBar_1 rfl (by decide) ?_
  refine fx_iconst (x := 5) dX11_shutByBar_2 rfl (by decide) ?_
  obtain ⟨p1, ep1, h⟩ := xBind_el h
  refine gx_calls (as := [.int a1, .int (0 : Int32), .int (5 : Int32)]) (r := []) rfl dX11_shutByBar_3 ca_11_47 rfl me_14 rfl rfl rfl rfl (fX11_within_ok (d := d) (by omega) ep1) rfl rfl ?_
  refine fx_if_ne (t := 11) dX11_shutByBar_6 rfl rfl (fun hc2 => ?_) (fun hc2 => ?_)
  · rw [if_pos hc2] at h
    refine fx_aload_n dX11_shutByBar_11 rfl rfl ?_
    obtain ⟨p3, ep3, h⟩ := xBind_el h
    refine gx_callv (as := []) (r := []) rfl dX11_shutByBar_12 ca_11_246 rfl me_207 rfl rfl rfl rfl (ha0.1) rfl (fX11_beginTrial_ok (d := d) (by omega) ha0 ep3) rfl rfl ?_
    have hqp3 : isText p3.1 := fX11_beginTrial_ref ha0 ep3
    refine fx_astore (ls2 := [some (.ref a0), some (.int a1), some (.int a2), some (.int a3), some (.ref p3.1), o5]) dX11_shutByBar_15 rfl rfl rfl ?_
    refine fx_aload_n dX11_shutByBar_17 rfl rfl ?_
    refine gx_getr dX11_shutByBar_18 rfl fd_11_19 ha0.1 rfl rfl ?_
    refine gx_getr dX11_shutByBar_21 rfl fd_11_55 ha0.2.2.2.1.1 rfl rfl ?_
    refine fx_iload_n dX11_shutByBar_24 rfl rfl ?_
    obtain ⟨hj4, h⟩ := xChk_el h
    obtain ⟨r5, hr5, h⟩ := xLet_el h
    refine gx_aaload (t := 4) dX11_shutByBar_25 rfl ha0.2.2.2.1.2.1 rfl hj4 ((xRef_at (sl_9_0 (a0 + 167)) hj4).trans (congrArg some hr5)) ?_
    have hpr5 : isHall r5 := by rw [← hr5]; exact ha0.2.2.2.1.2.2.2.2.2.2.2.1 _ (xIn_lt hj4)
    refine fx_iload_n dX11_shutByBar_26 rfl rfl ?_
    obtain ⟨m6, hm6, h⟩ := xLet_el h
    refine gx_put dX11_shutByBar_27 rfl fd_11_69 hpr5.1 rfl rfl rfl hm6 ?_
    refine fx_iconst (x := 0) dX11_shutByBar_30 rfl (by decide) ?_
    refine fx_istore (ls2 := [some (.ref a0), some (.int a1), some (.int a2), some (.int a3), some (.ref p3.1), some (.int (0 : Int32))]) dX11_shutByBar_31 rfl rfl rfl ?_
    exact fX11_shutByBar_33_ok hd ha0 xFuel p3.1 (0 : Int32) m6 r hqp3 h
  · rw [if_neg hc2] at h
    refine fx_iconst (x := -1) dX11_shutByBar_9 rfl (by decide) ?_
    cases h
    exact fx_ireturn dX11_shutByBar_10 rfl rfl
def fX11_shutByBar (a0 : Nat) (a1 : Int32) (a2 : Int32) (a3 : Int32) (m : xMem) : Option (Int32 × xMem) := fX11_shutByBar_0 a0 a1 a2 a3  m
theorem fX11_shutByBar_ok {a0 : Nat} {a1 : Int32} {a2 : Int32} {a3 : Int32} {m : xMem} {r : (Int32 × xMem)} {d : Nat} (hd : 7 ≤ d) (ha0 : isMS a0) (h : fX11_shutByBar a0 a1 a2 a3 m = some r) : xEx d 218 [.ref a0, .int a1, .int a2, .int a3] (xLay m) (some (.int r.1)) (xLay r.2) := by
  obtain ⟨d, rfl⟩ : ∃ q, d = q + 1 := ⟨d - 1, by omega⟩
  exact xEx_of me_218 rfl (fX11_shutByBar_0_ok (d := d) (o4 := none) (o5 := none) (by omega) ha0 rfl rfl h)
def fX11_least_28 (a0 : Nat) (a1 : Int32) (a2 : Int32) (a3 : Int32) (m : xMem) : Option (Int32 × xMem) := some ((-1 : Int32), m)
set_option maxRecDepth 4000 in
theorem fX11_least_28_ok {a0 : Nat} {a1 : Int32} {a2 : Int32} {a3 : Int32} {d : Nat} (hd : 7 ≤ d) (ha0 : isMS a0) {o4 : Option Value} {o5 : Option Value} {m : xMem} {r : (Int32 × xMem)} (q4 : xNoD o4 = true) (q5 : xNoD o5 = true) (h : fX11_least_28 a0 a1 a2 a3 m = some r) : xFx hh_217 cX11_least d 28 [some (.ref a0), some (.int a1), some (.int a2), some (.int a3), o4, o5] [] (xLay m) 0 0 (some (.int r.1)) (xLay r.2) := by
  unfold fX11_least_28 at h
  refine fx_iconst (x := -1) dX11_least_28 rfl (by decide) ?_
  cases h
  exact fx_ireturn dX11_least_29 rfl rfl
def fX11_least_66 (a0 : Nat) (a1 : Int32) (a2 : Int32) (a3 : Int32) (s0 : Int32) (m : xMem) : Option (Int32 × xMem) := some (s0, m)
set_option maxRecDepth 4000 in
theorem fX11_least_66_ok {a0 : Nat} {a1 : Int32} {a2 : Int32} {a3 : Int32} {d : Nat} (hd : 7 ≤ d) (ha0 : isMS a0) {s0 : Int32} {o4 : Option Value} {o5 : Option Value} {m : xMem} {r : (Int32 × xMem)} (q4 : xNoD o4 = true) (q5 : xNoD o5 = true) (h : fX11_least_66 a0 a1 a2 a3 s0 m = some r) : xFx hh_217 cX11_least d 66 [some (.ref a0), some (.int a1), some (.int a2), some (.int a3), o4, o5] [.int s0] (xLay m) 0 0 (some (.int r.1)) (xLay r.2) := by
  unfold fX11_least_66 at h
  cases h
  exact fx_ireturn dX11_least_66 rfl rfl
def fX11_least_34 (a0 : Nat) (a1 : Int32) (a2 : Int32) (a3 : Int32) : Nat → Int32 → xMem → Option (Int32 × xMem)
  | 0, _, _ => none
  | fuel + 1, l4, m => if l4 < (0 : Int32) then some ((-1 : Int32), m) else (fX11_shutByBar a0 a1 l4 a2 m).bind fun p2 => if p2.1 = (-1 : Int32) then xLet (l4 + (-1 : Int32)) fun x4 => fX11_least_34 a0 a1 a2 a3 fuel x4 p2.2 else if ¬ a3 = (0 : Int32) then fX11_least_66 a0 a1 a2 a3 p2.1 p2.2 else fX11_least_66 a0 a1 a2 a3 l4 p2.2
set_option maxRecDepth 4000 in
theorem fX11_least_34_ok {a0 : Nat} {a1 : Int32} {a2 : Int32} {a3 : Int32} {d : Nat} (hd : 7 ≤ d) (ha0 : isMS a0) : ∀ (fuel : Nat) (l4 : Int32) (o5 : Option Value) (q5 : xNoD o5 = true) (m : xMem) (r : (Int32 × xMem)), fX11_least_34 a0 a1 a2 a3 fuel l4 m = some r → xFx hh_217 cX11_least d 34 [some (.ref a0), some (.int a1), some (.int a2), some (.int a3), some (.int l4), o5] [] (xLay m) 0 0 (some (.int r.1)) (xLay r.2) := by
  intro fuel
  induction fuel with
  | zero => intro l4 o5 q5 m r  h; cases h
  | succ fuel ih =>
    intro l4 o5 q5 m r  h
    unfold fX11_least_34 at h
    refine fx_iload dX11_least_34 rfl rfl ?_
    refine fx_if_lt (t := 73) dX11_least_36 rfl rfl (fun hc1 => ?_) (fun hc1 => ?_)
    · rw [if_pos hc1] at h
      refine fx_iconst (x := -1) dX11_least_73 rfl (by decide) ?_
      cases h
      exact fx_ireturn dX11_least_74 rfl rfl
    · rw [if_neg hc1] at h
      refine fx_aload_n dX11_least_39 rfl rfl ?_
      refine fx_iload_n dX11_least_40 rfl rfl ?_
      refine fx_iload dX11_least_41 rfl rfl ?_
      refine fx_iload_n dX11_least_43 rfl rfl ?_
      obtain ⟨p2, ep2, h⟩ := xBind_el h
      refine gx_callv (as := [.int a1, .int l4, .int a2]) (r := []) rfl dX11_least_44 ca_11_243 rfl me_218 rfl rfl rfl rfl (ha0.1) rfl (fX11_shutByBar_ok (d := d) (by omega) ha0 ep2) rfl rfl ?_
      refine fx_istore (ls2 := [some (.ref a0), some (.int a1), some (.int a2), some (.int a3), some (.int l4), some (.int p2.1)]) dX11_least_47 rfl rfl rfl ?_
      refine fx_iload dX11_least_49 rfl rfl ?_
      refine fx_iconst (x := -1) dX11_least_51 rfl (by decide) ?_
      refine fx_icmp_eq (t := 67) dX11_least_52 rfl rfl (fun hc3 => ?_) (fun hc3 => ?_)
      · rw [if_pos hc3] at h
        obtain ⟨x4, hx4, h⟩ := xLet_el h
        refine fx_iinc (ls2 := [some (.ref a0), some (.int a1), some (.int a2), some (.int a3), some (.int x4), some (.int p2.1)]) dX11_least_67 rfl rfl rfl hx4 rfl ?_
        refine fx_goto (t := 34) dX11_least_70 rfl rfl ?_
        exact ih x4 (some (.int p2.1)) rfl p2.2 r h
      · rw [if_neg hc3] at h
        refine fx_iload_n dX11_least_55 rfl rfl ?_
        refine fx_if_ne (t := 64) dX11_least_56 rfl rfl (fun hc5 => ?_) (fun hc5 => ?_)
        · rw [if_pos hc5] at h
          refine fx_iload dX11_least_64 rfl rfl ?_
          exact fX11_least_66_ok (o4 := some (.int l4)) (o5 := some (.int p2.1)) hd ha0 rfl rfl h
        · rw [if_neg hc5] at h
          refine fx_iload dX11_least_59 rfl rfl ?_
          refine fx_goto (t := 66) dX11_least_61 rfl rfl ?_
          exact fX11_least_66_ok (o4 := some (.int l4)) (o5 := some (.int p2.1)) hd ha0 rfl rfl h
def fX11_least_0 (a0 : Nat) (a1 : Int32) (a2 : Int32) (a3 : Int32) (m : xMem) : Option (Int32 × xMem) := (fX11_within a3 (0 : Int32) (1 : Int32) m).bind fun p1 => if p1.1 = (0 : Int32) then fX11_least_28 a0 a1 a2 a3 p1.2 else (fX11_mayRun a0 a2 p1.2).bind fun p3 => if p3.1 = (0 : Int32) then fX11_least_28 a0 a1 a2 a3 p3.2 else (fX9_hasHall (a0 + 1) a1 p3.2).bind fun p5 => if ¬ p5.1 = (0 : Int32) then fX11_least_34 a0 a1 a2 a3 xFuel (60 : Int32) p5.2 else fX11_least_28 a0 a1 a2 a3 p5.2
set_option maxRecDepth 4000 in
theorem fX11_least_0_ok {a0 : Nat} {a1 : Int32} {a2 : Int32} {a3 : Int32} {d : Nat} (hd : 7 ≤ d) (ha0 : isMS a0) {o4 : Option Value} {o5 : Option Value} {m : xMem} {r : (Int32 × xMem)} (q4 : xNoD o4 = true) (q5 : xNoD o5 = true) (h : fX11_least_0 a0 a1 a2 a3 m = some r) : xFx hh_217 cX11_least d 0 [some (.ref a0), some (.int a1), some (.int a2), some (.int a3), o4, o5] [] (xLay m) 0 0 (some (.int r.1)) (xLay r.2) := by
  unfold fX11_least_0 at h
  refine fx_iload_n dX11_least_0 rfl rfl ?_
  refine fx_iconst (x := 0) dX11_least_1 rfl (by decide) ?_
  refine fx_iconst (x := 1) dX11_least_2 rfl (by decide) ?_
  obtain ⟨p1, ep1, h⟩ := xBind_el h
  refine gx_calls (as := [.int a3, .int (0 : Int32), .int (1 : Int32)]) (r := []) rfl dX11_least_3 ca_11_47 rfl me_14 rfl rfl rfl rfl (fX11_within_ok (d := d) (by omega) ep1) rfl rfl ?_
  refine fx_if_eq (t := 28) dX11_least_6 rfl rfl (fun hc2 => ?_) (fun hc2 => ?_)
  · rw [if_pos hc2] at h
    exact fX11_least_28_ok (o4 := o4) (o5 := o5) hd ha0 q4 q5 h
  · rw [if_neg hc2] at h
    refine fx_aload_n dX11_least_9 rfl rfl ?_
    refine fx_iload_n dX11_least_10 rfl rfl ?_
    obtain ⟨p3, ep3, h⟩ := xBind_el h
    refine gx_callv (as := [.int a2]) (r := []) rfl dX11_least_11 ca_11_159 rfl me_116 rfl rfl rfl rfl (ha0.1) rfl (fX11_mayRun_ok (d := d) (by omega) ha0 ep3) rfl rfl ?_
    refine fx_if_eq (t := 28) dX11_least_14 rfl rfl (fun hc4 => ?_) (fun hc4 => ?_)
    · rw [if_pos hc4] at h
      exact fX11_least_28_ok (o4 := o4) (o5 := o5) hd ha0 q4 q5 h
    · rw [if_neg hc4] at h
      refine fx_aload_n dX11_least_17 rfl rfl ?_
      refine gx_getr dX11_least_18 rfl fd_11_10 ha0.1 rfl rfl ?_
      refine fx_iload_n dX11_least_21 rfl rfl ?_
      obtain ⟨p5, ep5, h⟩ := xBind_el h
      refine gx_callv (as := [.int a1]) (r := []) rfl dX11_least_22 ca_11_65 rfl me_20 rfl rfl rfl rfl (ha0.2.1.1) rfl (fX9_hasHall_ok (d := d) (by omega) ha0.2.1 ep5) rfl rfl ?_
      refine fx_if_ne (t := 30) dX11_least_25 rfl rfl (fun hc6 => ?_) (fun hc6 => ?_)
      · rw [if_pos hc6] at h
        refine fx_bipush (x := 60) dX11_least_30 rfl (by decide) ?_
        refine fx_istore (ls2 := [some (.ref a0), some (.int a1), some (.int a2), some (.int a3), some (.int (60 : Int32)), o5]) dX11_least_32 rfl rfl rfl ?_
        exact fX11_least_34_ok hd ha0 xFuel (60 : Int32) (o5) q5 p5.2 r h
      · rw [if_neg hc6] at h
        exact fX11_least_28_ok (o4 := o4) (o5 := o5) hd ha0 q4 q5 h
def fX11_least (a0 : Nat) (a1 : Int32) (a2 : Int32) (a3 : Int32) (m : xMem) : Option (Int32 × xMem) := fX11_least_0 a0 a1 a2 a3  m
theorem fX11_least_ok {a0 : Nat} {a1 : Int32} {a2 : Int32} {a3 : Int32} {m : xMem} {r : (Int32 × xMem)} {d : Nat} (hd : 8 ≤ d) (ha0 : isMS a0) (h : fX11_least a0 a1 a2 a3 m = some r) : xEx d 217 [.ref a0, .int a1, .int a2, .int a3] (xLay m) (some (.int r.1)) (xLay r.2) := by
  obtain ⟨d, rfl⟩ : ∃ q, d = q + 1 := ⟨d - 1, by omega⟩
  exact xEx_of me_217 rfl (fX11_least_0_ok (d := d) (o4 := none) (o5 := none) (by omega) ha0 rfl rfl h)
def fX12_least_25 (a0 : Nat) (a1 : Int32) (a2 : Int32) (a3 : Int32) (m : xMem) : Option (Int32 × xMem) := some ((-1 : Int32), m)
set_option maxRecDepth 4000 in
theorem fX12_least_25_ok {a0 : Nat} {a1 : Int32} {a2 : Int32} {a3 : Int32} {d : Nat} (hd : 6 ≤ d) (ha0 : isModel a0) {o4 : Option Value} {o5 : Option Value} {o6 : Option Value} {o7 : Option Value} {m : xMem} {r : (Int32 × xMem)} (q4 : xNoD o4 = true) (q5 : xNoD o5 = true) (q6 : xNoD o6 = true) (q7 : xNoD o7 = true) (h : fX12_least_25 a0 a1 a2 a3 m = some r) : xFx hh_220 cX12_least d 25 [some (.ref a0), some (.int a1), some (.int a2), some (.int a3), o4, o5, o6, o7] [] (xLay m) 0 0 (some (.int r.1)) (xLay r.2) := by
  unfold fX12_least_25 at h
  refine fx_iconst (x := -1) dX12_least_25 rfl (by decide) ?_
  cases h
  exact fx_ireturn dX12_least_26 rfl rfl
def fX12_least_133 (a0 : Nat) (a1 : Int32) (a2 : Int32) (a3 : Int32) (rec35 : Int32 → xMem → Option (Int32 × xMem)) (rec61 : Int32 → Int32 → Int32 → xMem → Option (Int32 × xMem)) (rec103 : Int32 → Int32 → Int32 → Int32 → xMem → Option (Int32 × xMem)) (l4 : Int32) (l6 : Int32) (l7 : Int32) (s0 : Int32) (m : xMem) : Option (Int32 × xMem) := xLet (l7 + (1 : Int32)) fun x1 => rec103 l4 s0 l6 x1 m
set_option maxRecDepth 4000 in
theorem fX12_least_133_ok {a0 : Nat} {a1 : Int32} {a2 : Int32} {a3 : Int32} {rec35 : Int32 → xMem → Option (Int32 × xMem)} {rec61 : Int32 → Int32 → Int32 → xMem → Option (Int32 × xMem)} {rec103 : Int32 → Int32 → Int32 → Int32 → xMem → Option (Int32 × xMem)} {d : Nat} (hd : 6 ≤ d) (ha0 : isModel a0) (hrec35 : ∀ (l4 : Int32) (o5 : Option Value) (o6 : Option Value) (o7 : Option Value) (q5 : xNoD o5 = true) (q6 : xNoD o6 = true) (q7 : xNoD o7 = true) (m : xMem) (r : (Int32 × xMem)), rec35 l4 m = some r → xFx hh_220 cX12_least d 35 [some (.ref a0), some (.int a1), some (.int a2), some (.int a3), some (.int l4), o5, o6, o7] [] (xLay m) 0 0 (some (.int r.1)) (xLay r.2)) (hrec61 : ∀ (l4 : Int32) (l5 : Int32) (l6 : Int32) (o7 : Option Value) (q7 : xNoD o7 = true) (m : xMem) (r : (Int32 × xMem)), rec61 l4 l5 l6 m = some r → xFx hh_220 cX12_least d 61 [some (.ref a0), some (.int a1), some (.int a2), some (.int a3), some (.int l4), some (.int l5), some (.int l6), o7] [] (xLay m) 0 0 (some (.int r.1)) (xLay r.2)) (hrec103 : ∀ (l4 : Int32) (l5 : Int32) (l6 : Int32) (l7 : Int32) (m : xMem) (r : (Int32 × xMem)), rec103 l4 l5 l6 l7 m = some r → xFx hh_220 cX12_least d 103 [some (.ref a0), some (.int a1), some (.int a2), some (.int a3), some (.int l4), some (.int l5), some (.int l6), some (.int l7)] [] (xLay m) 0 0 (some (.int r.1)) (xLay r.2)) {l4 : Int32} {l6 : Int32} {l7 : Int32} {s0 : Int32} {o5 : Option Value} {m : xMem} {r : (Int32 × xMem)} (q5 : xNoD o5 = true) (h : fX12_least_133 a0 a1 a2 a3 rec35 rec61 rec103 l4 l6 l7 s0 m = some r) : xFx hh_220 cX12_least d 133 [some (.ref a0), some (.int a1), some (.int a2), some (.int a3), some (.int l4), o5, some (.int l6), some (.int l7)] [.int s0] (xLay m) 0 0 (some (.int r.1)) (xLay r.2) := by
  unfold fX12_least_133 at h
  refine fx_istore (ls2 := [some (.ref a0), some (.int a1), some (.int a2), some (.int a3), some (.int l4), some (.int s0), some (.int l6), some (.int l7)]) dX12_least_133 rfl rfl rfl ?_
  obtain ⟨x1, hx1, h⟩ := xLet_el h
  refine fx_iinc (ls2 := [some (.ref a0), some (.int a1), some (.int a2), some (.int a3), some (.int l4), some (.int s0), some (.int l6), some (.int x1)]) dX12_least_135 rfl rfl rfl hx1 rfl ?_
  refine fx_goto (t := 103) dX12_least_138 rfl rfl ?_
  exact hrec103 l4 s0 l6 x1 m r h
def fX12_least_132 (a0 : Nat) (a1 : Int32) (a2 : Int32) (a3 : Int32) (rec35 : Int32 → xMem → Option (Int32 × xMem)) (rec61 : Int32 → Int32 → Int32 → xMem → Option (Int32 × xMem)) (rec103 : Int32 → Int32 → Int32 → Int32 → xMem → Option (Int32 × xMem)) (l4 : Int32) (l6 : Int32) (l7 : Int32) (m : xMem) : Option (Int32 × xMem) := fX12_least_133 a0 a1 a2 a3 rec35 rec61 rec103 l4 l6 l7 (0 : Int32) m
set_option maxRecDepth 4000 in
theorem fX12_least_132_ok {a0 : Nat} {a1 : Int32} {a2 : Int32} {a3 : Int32} {rec35 : Int32 → xMem → Option (Int32 × xMem)} {rec61 : Int32 → Int32 → Int32 → xMem → Option (Int32 × xMem)} {rec103 : Int32 → Int32 → Int32 → Int32 → xMem → Option (Int32 × xMem)} {d : Nat} (hd : 6 ≤ d) (ha0 : isModel a0) (hrec35 : ∀ (l4 : Int32) (o5 : Option Value) (o6 : Option Value) (o7 : Option Value) (q5 : xNoD o5 = true) (q6 : xNoD o6 = true) (q7 : xNoD o7 = true) (m : xMem) (r : (Int32 × xMem)), rec35 l4 m = some r → xFx hh_220 cX12_least d 35 [some (.ref a0), some (.int a1), some (.int a2), some (.int a3), some (.int l4), o5, o6, o7] [] (xLay m) 0 0 (some (.int r.1)) (xLay r.2)) (hrec61 : ∀ (l4 : Int32) (l5 : Int32) (l6 : Int32) (o7 : Option Value) (q7 : xNoD o7 = true) (m : xMem) (r : (Int32 × xMem)), rec61 l4 l5 l6 m = some r → xFx hh_220 cX12_least d 61 [some (.ref a0), some (.int a1), some (.int a2), some (.int a3), some (.int l4), some (.int l5), some (.int l6), o7] [] (xLay m) 0 0 (some (.int r.1)) (xLay r.2)) (hrec103 : ∀ (l4 : Int32) (l5 : Int32) (l6 : Int32) (l7 : Int32) (m : xMem) (r : (Int32 × xMem)), rec103 l4 l5 l6 l7 m = some r → xFx hh_220 cX12_least d 103 [some (.ref a0), some (.int a1), some (.int a2), some (.int a3), some (.int l4), some (.int l5), some (.int l6), some (.int l7)] [] (xLay m) 0 0 (some (.int r.1)) (xLay r.2)) {l4 : Int32} {l6 : Int32} {l7 : Int32} {o5 : Option Value} {m : xMem} {r : (Int32 × xMem)} (q5 : xNoD o5 = true) (h : fX12_least_132 a0 a1 a2 a3 rec35 rec61 rec103 l4 l6 l7 m = some r) : xFx hh_220 cX12_least d 132 [some (.ref a0), some (.int a1), some (.int a2), some (.int a3), some (.int l4), o5, some (.int l6), some (.int l7)] [] (xLay m) 0 0 (some (.int r.1)) (xLay r.2) := by
  unfold fX12_least_132 at h
  refine fx_iconst (x := 0) dX12_least_132 rfl (by decide) ?_
  exact fX12_least_133_ok (o5 := o5) hd ha0 hrec35 hrec61 hrec103 q5 h
def fX12_least_103 (a0 : Nat) (a1 : Int32) (a2 : Int32) (a3 : Int32) (rec35 : Int32 → xMem → Option (Int32 × xMem)) (rec61 : Int32 → Int32 → Int32 → xMem → Option (Int32 × xMem)) : Nat → Int32 → Int32 → Int32 → Int32 → xMem → Option (Int32 × xMem)
  | 0, _, _, _, _, _ => none
  | fuel + 1, l4, l5, l6, l7, m => bif xIn (1 : Int32) 1610 then xLet (m.1 (a0 + 1) (1 : Int32).toNatClampNeg) fun x1 => if x1 ≤ l7 then xLet (l6 + (1 : Int32)) fun x4 => rec61 l4 l5 x4 m else if l5 = (0 : Int32) then fX12_least_132 a0 a1 a2 a3 rec35 rec61 (fX12_least_103 a0 a1 a2 a3 rec35 rec61 fuel) l4 l6 l7 m else (fX12_isOver a0 l7 m).bind fun p6 => if ¬ p6.1 = (0 : Int32) then fX12_least_132 a0 a1 a2 a3 rec35 rec61 (fX12_least_103 a0 a1 a2 a3 rec35 rec61 fuel) l4 l6 l7 p6.2 else fX12_least_133 a0 a1 a2 a3 rec35 rec61 (fX12_least_103 a0 a1 a2 a3 rec35 rec61 fuel) l4 l6 l7 (1 : Int32) p6.2 else none
set_option maxRecDepth 4000 in
theorem fX12_least_103_ok {a0 : Nat} {a1 : Int32} {a2 : Int32} {a3 : Int32} {rec35 : Int32 → xMem → Option (Int32 × xMem)} {rec61 : Int32 → Int32 → Int32 → xMem → Option (Int32 × xMem)} {d : Nat} (hd : 6 ≤ d) (ha0 : isModel a0) (hrec35 : ∀ (l4 : Int32) (o5 : Option Value) (o6 : Option Value) (o7 : Option Value) (q5 : xNoD o5 = true) (q6 : xNoD o6 = true) (q7 : xNoD o7 = true) (m : xMem) (r : (Int32 × xMem)), rec35 l4 m = some r → xFx hh_220 cX12_least d 35 [some (.ref a0), some (.int a1), some (.int a2), some (.int a3), some (.int l4), o5, o6, o7] [] (xLay m) 0 0 (some (.int r.1)) (xLay r.2)) (hrec61 : ∀ (l4 : Int32) (l5 : Int32) (l6 : Int32) (o7 : Option Value) (q7 : xNoD o7 = true) (m : xMem) (r : (Int32 × xMem)), rec61 l4 l5 l6 m = some r → xFx hh_220 cX12_least d 61 [some (.ref a0), some (.int a1), some (.int a2), some (.int a3), some (.int l4), some (.int l5), some (.int l6), o7] [] (xLay m) 0 0 (some (.int r.1)) (xLay r.2)) : ∀ (fuel : Nat) (l4 : Int32) (l5 : Int32) (l6 : Int32) (l7 : Int32) (m : xMem) (r : (Int32 × xMem)), fX12_least_103 a0 a1 a2 a3 rec35 rec61 fuel l4 l5 l6 l7 m = some r → xFx hh_220 cX12_least d 103 [some (.ref a0), some (.int a1), some (.int a2), some (.int a3), some (.int l4), some (.int l5), some (.int l6), some (.int l7)] [] (xLay m) 0 0 (some (.int r.1)) (xLay r.2) := by
  intro fuel
  induction fuel with
  | zero => intro l4 l5 l6 l7  m r  h; cases h
  | succ fuel ih =>
    intro l4 l5 l6 l7  m r  h
    unfold fX12_least_103 at h
    refine fx_iload dX12_least_103 rfl rfl ?_
    refine fx_aload_n dX12_least_105 rfl rfl ?_
    refine gx_getr dX12_least_106 rfl fd_12_7 ha0.1 rfl rfl ?_
    refine fx_iconst (x := 1) dX12_least_109 rfl (by decide) ?_
    obtain ⟨hj2, h⟩ := xChk_el h
    obtain ⟨x1, hx1, h⟩ := xLet_el h
    refine gx_iaload dX12_least_110 rfl ha0.2.1 hj2 hx1 ?_
    refine fx_icmp_ge (t := 141) dX12_least_111 rfl rfl (fun hc3 => ?_) (fun hc3 => ?_)
    · rw [if_pos hc3] at h
      obtain ⟨x4, hx4, h⟩ := xLet_el h
      refine fx_iinc (ls2 := [some (.ref a0), some (.int a1), some (.int a2), some (.int a3), some (.int l4), some (.int l5), some (.int x4), some (.int l7)]) dX12_least_141 rfl rfl rfl hx4 rfl ?_
      refine fx_goto (t := 61) dX12_least_144 rfl rfl ?_
      exact hrec61 l4 l5 x4 (some (.int l7)) rfl m r h
    · rw [if_neg hc3] at h
      refine fx_iload dX12_least_114 rfl rfl ?_
      refine fx_if_eq (t := 132) dX12_least_116 rfl rfl (fun hc5 => ?_) (fun hc5 => ?_)
      · rw [if_pos hc5] at h
        exact fX12_least_132_ok (o5 := some (.int l5)) hd ha0 hrec35 hrec61 ih rfl h
      · rw [if_neg hc5] at h
        refine fx_aload_n dX12_least_119 rfl rfl ?_
        refine fx_iload dX12_least_120 rfl rfl ?_
        obtain ⟨p6, ep6, h⟩ := xBind_el h
        refine gx_callv (as := [.int l7]) (r := []) rfl dX12_least_122 ca_12_374 rfl me_192 rfl rfl rfl rfl (ha0.1) rfl (fX12_isOver_ok (d := d) (by omega) ha0 ep6) rfl rfl ?_
        refine fx_if_ne (t := 132) dX12_least_125 rfl rfl (fun hc7 => ?_) (fun hc7 => ?_)
        · rw [if_pos hc7] at h
          exact fX12_least_132_ok (o5 := some (.int l5)) hd ha0 hrec35 hrec61 ih rfl h
        · rw [if_neg hc7] at h
          refine fx_iconst (x := 1) dX12_least_128 rfl (by decide) ?_
          refine fx_goto (t := 133) dX12_least_129 rfl rfl ?_
          exact fX12_least_133_ok (o5 := some (.int l5)) hd ha0 hrec35 hrec61 ih rfl h
def fX12_least_98 (a0 : Nat) (a1 : Int32) (a2 : Int32) (a3 : Int32) (rec35 : Int32 → xMem → Option (Int32 × xMem)) (rec61 : Int32 → Int32 → Int32 → xMem → Option (Int32 × xMem)) (l4 : Int32) (l6 : Int32) (s0 : Int32) (m : xMem) : Option (Int32 × xMem) := fX12_least_103 a0 a1 a2 a3 rec35 rec61 xFuel l4 s0 l6 (0 : Int32) m
set_option maxRecDepth 4000 in
theorem fX12_least_98_ok {a0 : Nat} {a1 : Int32} {a2 : Int32} {a3 : Int32} {rec35 : Int32 → xMem → Option (Int32 × xMem)} {rec61 : Int32 → Int32 → Int32 → xMem → Option (Int32 × xMem)} {d : Nat} (hd : 6 ≤ d) (ha0 : isModel a0) (hrec35 : ∀ (l4 : Int32) (o5 : Option Value) (o6 : Option Value) (o7 : Option Value) (q5 : xNoD o5 = true) (q6 : xNoD o6 = true) (q7 : xNoD o7 = true) (m : xMem) (r : (Int32 × xMem)), rec35 l4 m = some r → xFx hh_220 cX12_least d 35 [some (.ref a0), some (.int a1), some (.int a2), some (.int a3), some (.int l4), o5, o6, o7] [] (xLay m) 0 0 (some (.int r.1)) (xLay r.2)) (hrec61 : ∀ (l4 : Int32) (l5 : Int32) (l6 : Int32) (o7 : Option Value) (q7 : xNoD o7 = true) (m : xMem) (r : (Int32 × xMem)), rec61 l4 l5 l6 m = some r → xFx hh_220 cX12_least d 61 [some (.ref a0), some (.int a1), some (.int a2), some (.int a3), some (.int l4), some (.int l5), some (.int l6), o7] [] (xLay m) 0 0 (some (.int r.1)) (xLay r.2)) {l4 : Int32} {l6 : Int32} {s0 : Int32} {o5 : Option Value} {o7 : Option Value} {m : xMem} {r : (Int32 × xMem)} (q5 : xNoD o5 = true) (q7 : xNoD o7 = true) (h : fX12_least_98 a0 a1 a2 a3 rec35 rec61 l4 l6 s0 m = some r) : xFx hh_220 cX12_least d 98 [some (.ref a0), some (.int a1), some (.int a2), some (.int a3), some (.int l4), o5, some (.int l6), o7] [.int s0] (xLay m) 0 0 (some (.int r.1)) (xLay r.2) := by
  unfold fX12_least_98 at h
  refine fx_istore (ls2 := [some (.ref a0), some (.int a1), some (.int a2), some (.int a3), some (.int l4), some (.int s0), some (.int l6), o7]) dX12_least_98 rfl rfl rfl ?_
  refine fx_iconst (x := 0) dX12_least_100 rfl (by decide) ?_
  refine fx_istore (ls2 := [some (.ref a0), some (.int a1), some (.int a2), some (.int a3), some (.int l4), some (.int s0), some (.int l6), some (.int (0 : Int32))]) dX12_least_101 rfl rfl rfl ?_
  exact fX12_least_103_ok hd ha0 hrec35 hrec61 xFuel l4 s0 l6 (0 : Int32) m r h
def fX12_least_189 (a0 : Nat) (a1 : Int32) (a2 : Int32) (a3 : Int32) (s0 : Int32) (m : xMem) : Option (Int32 × xMem) := some (s0, m)
set_option maxRecDepth 4000 in
theorem fX12_least_189_ok {a0 : Nat} {a1 : Int32} {a2 : Int32} {a3 : Int32} {d : Nat} (hd : 6 ≤ d) (ha0 : isModel a0) {s0 : Int32} {o4 : Option Value} {o5 : Option Value} {o6 : Option Value} {o7 : Option Value} {m : xMem} {r : (Int32 × xMem)} (q4 : xNoD o4 = true) (q5 : xNoD o5 = true) (q6 : xNoD o6 = true) (q7 : xNoD o7 = true) (h : fX12_least_189 a0 a1 a2 a3 s0 m = some r) : xFx hh_220 cX12_least d 189 [some (.ref a0), some (.int a1), some (.int a2), some (.int a3), o4, o5, o6, o7] [.int s0] (xLay m) 0 0 (some (.int r.1)) (xLay r.2) := by
  unfold fX12_least_189 at h
  cases h
  exact fx_ireturn dX12_least_189 rfl rfl
def fX12_least_147 (a0 : Nat) (a1 : Int32) (a2 : Int32) (a3 : Int32) (rec35 : Int32 → xMem → Option (Int32 × xMem)) (l4 : Int32) (l5 : Int32) (m : xMem) : Option (Int32 × xMem) := (fX12_hallOf a0 a1 (2 : Int32) m).bind fun p1 => xLet ((4 : Int32) * a1) fun x2 => xLet ((20 : Int32) + x2) fun x3 => xLet (x3 + (2 : Int32)) fun x4 => bif xIn x4 1610 then xLet (p1.2.1 (a0 + 3) x4.toNatClampNeg) fun x5 => xLet (p1.1 - x5) fun x7 => (fX12_putsBack a0 p1.2).bind fun p8 => if l5 = (0 : Int32) then xLet (l4 + (-1 : Int32)) fun x10 => rec35 x10 p8 else if ¬ a3 = (0 : Int32) then fX12_least_189 a0 a1 a2 a3 x7 p8 else fX12_least_189 a0 a1 a2 a3 l4 p8 else none
set_option maxRecDepth 4000 in
theorem fX12_least_147_ok {a0 : Nat} {a1 : Int32} {a2 : Int32} {a3 : Int32} {rec35 : Int32 → xMem → Option (Int32 × xMem)} {d : Nat} (hd : 6 ≤ d) (ha0 : isModel a0) (hrec35 : ∀ (l4 : Int32) (o5 : Option Value) (o6 : Option Value) (o7 : Option Value) (q5 : xNoD o5 = true) (q6 : xNoD o6 = true) (q7 : xNoD o7 = true) (m : xMem) (r : (Int32 × xMem)), rec35 l4 m = some r → xFx hh_220 cX12_least d 35 [some (.ref a0), some (.int a1), some (.int a2), some (.int a3), some (.int l4), o5, o6, o7] [] (xLay m) 0 0 (some (.int r.1)) (xLay r.2)) {l4 : Int32} {l5 : Int32} {o6 : Option Value} {o7 : Option Value} {m : xMem} {r : (Int32 × xMem)} (q6 : xNoD o6 = true) (q7 : xNoD o7 = true) (h : fX12_least_147 a0 a1 a2 a3 rec35 l4 l5 m = some r) : xFx hh_220 cX12_least d 147 [some (.ref a0), some (.int a1), some (.int a2), some (.int a3), some (.int l4), some (.int l5), o6, o7] [] (xLay m) 0 0 (some (.int r.1)) (xLay r.2) := by
  unfold fX12_least_147 at h
  refine fx_aload_n dX12_least_147 rfl rfl ?_
  refine fx_iload_n dX12_least_148 rfl rfl ?_
  refine fx_iconst (x := 2) dX12_least_149 rfl (by decide) ?_
  obtain ⟨p1, ep1, h⟩ := xBind_el h
  refine gx_callv (as := [.int a1, .int (2 : Int32)]) (r := []) rfl dX12_least_150 ca_12_295 rfl me_170 rfl rfl rfl rfl (ha0.1) rfl (fX12_hallOf_ok (d := d) (by omega) ha0 ep1) rfl rfl ?_
  refine fx_aload_n dX12_least_153 rfl rfl ?_
  refine gx_getr dX12_least_154 rfl fd_12_16 ha0.1 rfl rfl ?_
  refine fx_bipush (x := 20) dX12_least_157 rfl (by decide) ?_
  refine fx_iconst (x := 4) dX12_least_159 rfl (by decide) ?_
  refine fx_iload_n dX12_least_160 rfl rfl ?_
  obtain ⟨x2, hx2, h⟩ := xLet_el h
  refine fx_imul dX12_least_161 rfl hx2 ?_
  obtain ⟨x3, hx3, h⟩ := xLet_el h
  refine fx_iadd dX12_least_162 rfl hx3 ?_
  refine fx_iconst (x := 2) dX12_least_163 rfl (by decide) ?_
  obtain ⟨x4, hx4, h⟩ := xLet_el h
  refine fx_iadd dX12_least_164 rfl hx4 ?_
  obtain ⟨hj6, h⟩ := xChk_el h
  obtain ⟨x5, hx5, h⟩ := xLet_el h
  refine gx_iaload dX12_least_165 rfl ha0.2.2.2.1 hj6 hx5 ?_
  obtain ⟨x7, hx7, h⟩ := xLet_el h
  refine fx_isub dX12_least_166 rfl hx7 ?_
  refine fx_istore (ls2 := [some (.ref a0), some (.int a1), some (.int a2), some (.int a3), some (.int l4), some (.int l5), some (.int x7), o7]) dX12_least_167 rfl rfl rfl ?_
  refine fx_aload_n dX12_least_169 rfl rfl ?_
  obtain ⟨p8, ep8, h⟩ := xBind_el h
  refine gx_callv (as := []) (r := []) rfl dX12_least_170 ca_12_395 rfl me_216 rfl rfl rfl rfl (ha0.1) rfl (fX12_putsBack_ok (d := d) (by omega) ha0 ep8) rfl rfl ?_
  refine fx_iload dX12_least_173 rfl rfl ?_
  refine fx_if_eq (t := 190) dX12_least_175 rfl rfl (fun hc9 => ?_) (fun hc9 => ?_)
  · rw [if_pos hc9] at h
    obtain ⟨x10, hx10, h⟩ := xLet_el h
    refine fx_iinc (ls2 := [some (.ref a0), some (.int a1), some (.int a2), some (.int a3), some (.int x10), some (.int l5), some (.int x7), o7]) dX12_least_190 rfl rfl rfl hx10 rfl ?_
    refine fx_goto (t := 35) dX12_least_193 rfl rfl ?_
    exact hrec35 x10 (some (.int l5)) (some (.int x7)) (o7) rfl rfl q7 p8 r h
  · rw [if_neg hc9] at h
    refine fx_iload_n dX12_least_178 rfl rfl ?_
    refine fx_if_ne (t := 187) dX12_least_179 rfl rfl (fun hc11 => ?_) (fun hc11 => ?_)
    · rw [if_pos hc11] at h
      refine fx_iload dX12_least_187 rfl rfl ?_
      exact fX12_least_189_ok (o4 := some (.int l4)) (o5 := some (.int l5)) (o6 := some (.int x7)) (o7 := o7) hd ha0 rfl rfl rfl q7 h
    · rw [if_neg hc11] at h
      refine fx_iload dX12_least_182 rfl rfl ?_
      refine fx_goto (t := 189) dX12_least_184 rfl rfl ?_
      exact fX12_least_189_ok (o4 := some (.int l4)) (o5 := some (.int l5)) (o6 := some (.int x7)) (o7 := o7) hd ha0 rfl rfl rfl q7 h
def fX12_least_61 (a0 : Nat) (a1 : Int32) (a2 : Int32) (a3 : Int32) (rec35 : Int32 → xMem → Option (Int32 × xMem)) : Nat → Int32 → Int32 → Int32 → xMem → Option (Int32 × xMem)
  | 0, _, _, _, _ => none
  | fuel + 1, l4, l5, l6, m => if a2 ≤ l6 then fX12_least_147 a0 a1 a2 a3 rec35 l4 l5 m else if l5 = (0 : Int32) then fX12_least_147 a0 a1 a2 a3 rec35 l4 l5 m else (fX12_second a0 m).bind fun p3 => bif xIn (12 : Int32) 1610 then xLet (p3.1 (a0 + 1) (12 : Int32).toNatClampNeg) fun x4 => bif xIn (12 : Int32) 1610 then xLet (p3.1 (a0 + 3) (12 : Int32).toNatClampNeg) fun x6 => if ¬ x4 = x6 then fX12_least_98 a0 a1 a2 a3 rec35 (fX12_least_61 a0 a1 a2 a3 rec35 fuel) l4 l6 (0 : Int32) p3 else fX12_least_98 a0 a1 a2 a3 rec35 (fX12_least_61 a0 a1 a2 a3 rec35 fuel) l4 l6 (1 : Int32) p3 else none else none
set_option maxRecDepth 4000 in
theorem fX12_least_61_ok {a0 : Nat} {a1 : Int32} {a2 : Int32} {a3 : Int32} {rec35 : Int32 → xMem → Option (Int32 × xMem)} {d : Nat} (hd : 6 ≤ d) (ha0 : isModel a0) (hrec35 : ∀ (l4 : Int32) (o5 : Option Value) (o6 : Option Value) (o7 : Option Value) (q5 : xNoD o5 = true) (q6 : xNoD o6 = true) (q7 : xNoD o7 = true) (m : xMem) (r : (Int32 × xMem)), rec35 l4 m = some r → xFx hh_220 cX12_least d 35 [some (.ref a0), some (.int a1), some (.int a2), some (.int a3), some (.int l4), o5, o6, o7] [] (xLay m) 0 0 (some (.int r.1)) (xLay r.2)) : ∀ (fuel : Nat) (l4 : Int32) (l5 : Int32) (l6 : Int32) (o7 : Option Value) (q7 : xNoD o7 = true) (m : xMem) (r : (Int32 × xMem)), fX12_least_61 a0 a1 a2 a3 rec35 fuel l4 l5 l6 m = some r → xFx hh_220 cX12_least d 61 [some (.ref a0), some (.int a1), some (.int a2), some (.int a3), some (.int l4), some (.int l5), some (.int l6), o7] [] (xLay m) 0 0 (some (.int r.1)) (xLay r.2) := by
  intro fuel
  induction fuel with
  | zero => intro l4 l5 l6 o7 q7 m r  h; cases h
  | succ fuel ih =>
    intro l4 l5 l6 o7 q7 m r  h
    unfold fX12_least_61 at h
    refine fx_iload dX12_least_61 rfl rfl ?_
    refine fx_iload_n dX12_least_63 rfl rfl ?_
    refine fx_icmp_ge (t := 147) dX12_least_64 rfl rfl (fun hc1 => ?_) (fun hc1 => ?_)
    · rw [if_pos hc1] at h
      exact fX12_least_147_ok (o6 := some (.int l6)) (o7 := o7) hd ha0 hrec35 rfl q7 h
    · rw [if_neg hc1] at h
      refine fx_iload dX12_least_67 rfl rfl ?_
      refine fx_if_eq (t := 147) dX12_least_69 rfl rfl (fun hc2 => ?_) (fun hc2 => ?_)
      · rw [if_pos hc2] at h
        exact fX12_least_147_ok (o6 := some (.int l6)) (o7 := o7) hd ha0 hrec35 rfl q7 h
      · rw [if_neg hc2] at h
        refine fx_aload_n dX12_least_72 rfl rfl ?_
        obtain ⟨p3, ep3, h⟩ := xBind_el h
        refine gx_callv (as := []) (r := []) rfl dX12_least_73 ca_12_380 rfl me_164 rfl rfl rfl rfl (ha0.1) rfl (fX12_second_ok (d := d) (by omega) ha0 ep3) rfl rfl ?_
        refine fx_aload_n dX12_least_76 rfl rfl ?_
        refine gx_getr dX12_least_77 rfl fd_12_7 ha0.1 rfl rfl ?_
        refine fx_bipush (x := 12) dX12_least_80 rfl (by decide) ?_
        obtain ⟨hj5, h⟩ := xChk_el h
        obtain ⟨x4, hx4, h⟩ := xLet_el h
        refine gx_iaload dX12_least_82 rfl ha0.2.1 hj5 hx4 ?_
        refine fx_aload_n dX12_least_83 rfl rfl ?_
        refine gx_getr dX12_least_84 rfl fd_12_16 ha0.1 rfl rfl ?_
        refine fx_bipush (x := 12) dX12_least_87 rfl (by decide) ?_
        obtain ⟨hj7, h⟩ := xChk_el h
        obtain ⟨x6, hx6, h⟩ := xLet_el h
        refine gx_iaload dX12_least_89 rfl ha0.2.2.2.1 hj7 hx6 ?_
        refine fx_icmp_ne (t := 97) dX12_least_90 rfl rfl (fun hc8 => ?_) (fun hc8 => ?_)
        · rw [if_pos hc8] at h
          refine fx_iconst (x := 0) dX12_least_97 rfl (by decide) ?_
          exact fX12_least_98_ok (o5 := some (.int l5)) (o7 := o7) hd ha0 hrec35 ih rfl q7 h
        · rw [if_neg hc8] at h
          refine fx_iconst (x := 1) dX12_least_93 rfl (by decide) ?_
          refine fx_goto (t := 98) dX12_least_94 rfl rfl ?_
          exact fX12_least_98_ok (o5 := some (.int l5)) (o7 := o7) hd ha0 hrec35 ih rfl q7 h
def fX12_least_35 (a0 : Nat) (a1 : Int32) (a2 : Int32) (a3 : Int32) : Nat → Int32 → xMem → Option (Int32 × xMem)
  | 0, _, _ => none
  | fuel + 1, l4, m => if l4 < (0 : Int32) then some ((-1 : Int32), m) else xLet ((4 : Int32) * a1) fun x2 => xLet ((20 : Int32) + x2) fun x3 => xLet (x3 + (1 : Int32)) fun x4 => bif xIn x4 1610 then xLet (xPut m (a0 + 1) x4.toNatClampNeg l4) fun m5 => fX12_least_61 a0 a1 a2 a3 (fX12_least_35 a0 a1 a2 a3 fuel) xFuel l4 (1 : Int32) (0 : Int32) m5 else none
set_option maxRecDepth 4000 in
theorem fX12_least_35_ok {a0 : Nat} {a1 : Int32} {a2 : Int32} {a3 : Int32} {d : Nat} (hd : 6 ≤ d) (ha0 : isModel a0) : ∀ (fuel : Nat) (l4 : Int32) (o5 : Option Value) (o6 : Option Value) (o7 : Option Value) (q5 : xNoD o5 = true) (q6 : xNoD o6 = true) (q7 : xNoD o7 = true) (m : xMem) (r : (Int32 × xMem)), fX12_least_35 a0 a1 a2 a3 fuel l4 m = some r → xFx hh_220 cX12_least d 35 [some (.ref a0), some (.int a1), some (.int a2), some (.int a3), some (.int l4), o5, o6, o7] [] (xLay m) 0 0 (some (.int r.1)) (xLay r.2) := by
  intro fuel
  induction fuel with
  | zero => intro l4 o5 o6 o7 q5 q6 q7 m r  h; cases h
  | succ fuel ih =>
    intro l4 o5 o6 o7 q5 q6 q7 m r  h
    unfold fX12_least_35 at h
    refine fx_iload dX12_least_35 rfl rfl ?_
    refine fx_if_lt (t := 196) dX12_least_37 rfl rfl (fun hc1 => ?_) (fun hc1 => ?_)
    · rw [if_pos hc1] at h
      refine fx_iconst (x := -1) dX12_least_196 rfl (by decide) ?_
      cases h
      exact fx_ireturn dX12_least_197 rfl rfl
    · rw [if_neg hc1] at h
      refine fx_aload_n dX12_least_40 rfl rfl ?_
      refine gx_getr dX12_least_41 rfl fd_12_7 ha0.1 rfl rfl ?_
      refine fx_bipush (x := 20) dX12_least_44 rfl (by decide) ?_
      refine fx_iconst (x := 4) dX12_least_46 rfl (by decide) ?_
      refine fx_iload_n dX12_least_47 rfl rfl ?_
      obtain ⟨x2, hx2, h⟩ := xLet_el h
      refine fx_imul dX12_least_48 rfl hx2 ?_
      obtain ⟨x3, hx3, h⟩ := xLet_el h
      refine fx_iadd dX12_least_49 rfl hx3 ?_
      refine fx_iconst (x := 1) dX12_least_50 rfl (by decide) ?_
      obtain ⟨x4, hx4, h⟩ := xLet_el h
      refine fx_iadd dX12_least_51 rfl hx4 ?_
      refine fx_iload dX12_least_52 rfl rfl ?_
      obtain ⟨hj6, h⟩ := xChk_el h
      obtain ⟨m5, hm5, h⟩ := xLet_el h
      refine gx_iastore dX12_least_54 rfl ha0.2.1 hj6 hm5 ?_
      refine fx_iconst (x := 1) dX12_least_55 rfl (by decide) ?_
      refine fx_istore (ls2 := [some (.ref a0), some (.int a1), some (.int a2), some (.int a3), some (.int l4), some (.int (1 : Int32)), o6, o7]) dX12_least_56 rfl rfl rfl ?_
      refine fx_iconst (x := 0) dX12_least_58 rfl (by decide) ?_
      refine fx_istore (ls2 := [some (.ref a0), some (.int a1), some (.int a2), some (.int a3), some (.int l4), some (.int (1 : Int32)), some (.int (0 : Int32)), o7]) dX12_least_59 rfl rfl rfl ?_
      exact fX12_least_61_ok hd ha0 ih xFuel l4 (1 : Int32) (0 : Int32) (o7) q7 m5 r h
def fX12_least_0 (a0 : Nat) (a1 : Int32) (a2 : Int32) (a3 : Int32) (m : xMem) : Option (Int32 × xMem) := (fX12_isHall a0 a1 m).bind fun p1 => if p1.1 = (0 : Int32) then fX12_least_25 a0 a1 a2 a3 p1.2 else (fX12_isRun a0 a2 p1.2).bind fun p3 => if p3.1 = (0 : Int32) then fX12_least_25 a0 a1 a2 a3 p3.2 else (fX12_in a3 (0 : Int32) (1 : Int32) p3.2).bind fun p5 => if ¬ p5.1 = (0 : Int32) then (fX12_saves a0 p5.2).bind fun p7 => fX12_least_35 a0 a1 a2 a3 xFuel (60 : Int32) p7 else fX12_least_25 a0 a1 a2 a3 p5.2
set_option maxRecDepth 4000 in
theorem fX12_least_0_ok {a0 : Nat} {a1 : Int32} {a2 : Int32} {a3 : Int32} {d : Nat} (hd : 6 ≤ d) (ha0 : isModel a0) {o4 : Option Value} {o5 : Option Value} {o6 : Option Value} {o7 : Option Value} {m : xMem} {r : (Int32 × xMem)} (q4 : xNoD o4 = true) (q5 : xNoD o5 = true) (q6 : xNoD o6 = true) (q7 : xNoD o7 = true) (h : fX12_least_0 a0 a1 a2 a3 m = some r) : xFx hh_220 cX12_least d 0 [some (.ref a0), some (.int a1), some (.int a2), some (.int a3), o4, o5, o6, o7] [] (xLay m) 0 0 (some (.int r.1)) (xLay r.2) := by
  unfold fX12_least_0 at h
  refine fx_aload_n dX12_least_0 rfl rfl ?_
  refine fx_iload_n dX12_least_1 rfl rfl ?_
  obtain ⟨p1, ep1, h⟩ := xBind_el h
  refine gx_callv (as := [.int a1]) (r := []) rfl dX12_least_2 ca_12_107 rfl me_22 rfl rfl rfl rfl (ha0.1) rfl (fX12_isHall_ok (d := d) (by omega) ha0 ep1) rfl rfl ?_
  refine fx_if_eq (t := 25) dX12_least_5 rfl rfl (fun hc2 => ?_) (fun hc2 => ?_)
  · rw [if_pos hc2] at h
    exact fX12_least_25_ok (o4 := o4) (o5 := o5) (o6 := o6) (o7 := o7) hd ha0 q4 q5 q6 q7 h
  · rw [if_neg hc2] at h
    refine fx_aload_n dX12_least_8 rfl rfl ?_
    refine fx_iload_n dX12_least_9 rfl rfl ?_
    obtain ⟨p3, ep3, h⟩ := xBind_el h
    refine gx_callv (as := [.int a2]) (r := []) rfl dX12_least_10 ca_12_377 rfl me_163 rfl rfl rfl rfl (ha0.1) rfl (fX12_isRun_ok (d := d) (by omega) ha0 ep3) rfl rfl ?_
    refine fx_if_eq (t := 25) dX12_least_13 rfl rfl (fun hc4 => ?_) (fun hc4 => ?_)
    · rw [if_pos hc4] at h
      exact fX12_least_25_ok (o4 := o4) (o5 := o5) (o6 := o6) (o7 := o7) hd ha0 q4 q5 q6 q7 h
    · rw [if_neg hc4] at h
      refine fx_iload_n dX12_least_16 rfl rfl ?_
      refine fx_iconst (x := 0) dX12_least_17 rfl (by decide) ?_
      refine fx_iconst (x := 1) dX12_least_18 rfl (by decide) ?_
      obtain ⟨p5, ep5, h⟩ := xBind_el h
      refine gx_calls (as := [.int a3, .int (0 : Int32), .int (1 : Int32)]) (r := []) rfl dX12_least_19 ca_12_95 rfl me_18 rfl rfl rfl rfl (fX12_in_ok (d := d) (by omega) ep5) rfl rfl ?_
      refine fx_if_ne (t := 27) dX12_least_22 rfl rfl (fun hc6 => ?_) (fun hc6 => ?_)
      · rw [if_pos hc6] at h
        refine fx_aload_n dX12_least_27 rfl rfl ?_
        obtain ⟨p7, ep7, h⟩ := xBind_el h
        refine gx_callv (as := []) (r := []) rfl dX12_least_28 ca_12_386 rfl me_214 rfl rfl rfl rfl (ha0.1) rfl (fX12_saves_ok (d := d) (by omega) ha0 ep7) rfl rfl ?_
        refine fx_bipush (x := 60) dX12_least_31 rfl (by decide) ?_
        refine fx_istore (ls2 := [some (.ref a0), some (.int a1), some (.int a2), some (.int a3), some (.int (60 : Int32)), o5, o6, o7]) dX12_least_33 rfl rfl rfl ?_
        exact fX12_least_35_ok hd ha0 xFuel (60 : Int32) (o5) (o6) (o7) q5 q6 q7 p7 r h
      · rw [if_neg hc6] at h
        exact fX12_least_25_ok (o4 := o4) (o5 := o5) (o6 := o6) (o7 := o7) hd ha0 q4 q5 q6 q7 h
def fX12_least (a0 : Nat) (a1 : Int32) (a2 : Int32) (a3 : Int32) (m : xMem) : Option (Int32 × xMem) := fX12_least_0 a0 a1 a2 a3  m
theorem fX12_least_ok {a0 : Nat} {a1 : Int32} {a2 : Int32} {a3 : Int32} {m : xMem} {r : (Int32 × xMem)} {d : Nat} (hd : 7 ≤ d) (ha0 : isModel a0) (h : fX12_least a0 a1 a2 a3 m = some r) : xEx d 220 [.ref a0, .int a1, .int a2, .int a3] (xLay m) (some (.int r.1)) (xLay r.2) := by
  obtain ⟨d, rfl⟩ : ∃ q, d = q + 1 := ⟨d - 1, by omega⟩
  exact xEx_of me_220 rfl (fX12_least_0_ok (d := d) (o4 := none) (o5 := none) (o6 := none) (o7 := none) (by omega) ha0 rfl rfl rfl rfl h)
def fX11_felt_19 (a0 : Nat) (a1 : Int32) (a2 : Int32) (m : xMem) : Option (Int32 × xMem) := some ((-1 : Int32), m)
set_option maxRecDepth 4000 in
theorem fX11_felt_19_ok {a0 : Nat} {a1 : Int32} {a2 : Int32} {d : Nat} (hd : 6 ≤ d) (ha0 : isMS a0) {o3 : Option Value} {o4 : Option Value} {o5 : Option Value} {m : xMem} {r : (Int32 × xMem)} (q3 : xNoD o3 = true) (q4 : xNoD o4 = true) (q5 : xNoD o5 = true) (h : fX11_felt_19 a0 a1 a2 m = some r) : xFx hh_221 cX11_felt d 19 [some (.ref a0), some (.int a1), some (.int a2), o3, o4, o5] [] (xLay m) 0 0 (some (.int r.1)) (xLay r.2) := by
  unfold fX11_felt_19 at h
  refine fx_iconst (x := -1) dX11_felt_19 rfl (by decide) ?_
  cases h
  exact fx_ireturn dX11_felt_20 rfl rfl
def fX11_felt_105 (a0 : Nat) (a1 : Int32) (a2 : Int32) (rec56 : Nat → Int32 → Int32 → xMem → Option (Int32 × xMem)) (l3 : Nat) (l4 : Int32) (l5 : Int32) (m : xMem) : Option (Int32 × xMem) := xLet (l5 + (1 : Int32)) fun x1 => rec56 l3 l4 x1 m
set_option maxRecDepth 4000 in
theorem fX11_felt_105_ok {a0 : Nat} {a1 : Int32} {a2 : Int32} {rec56 : Nat → Int32 → Int32 → xMem → Option (Int32 × xMem)} {d : Nat} (hd : 6 ≤ d) (ha0 : isMS a0) (hrec56 : ∀ (l3 : Nat) (l4 : Int32) (l5 : Int32) (m : xMem) (r : (Int32 × xMem)) (hl3 : isText l3), rec56 l3 l4 l5 m = some r → xFx hh_221 cX11_felt d 56 [some (.ref a0), some (.int a1), some (.int a2), some (.ref l3), some (.int l4), some (.int l5)] [] (xLay m) 0 0 (some (.int r.1)) (xLay r.2)) {l3 : Nat} {l4 : Int32} {l5 : Int32} {m : xMem} {r : (Int32 × xMem)} (hl3 : isText l3) (h : fX11_felt_105 a0 a1 a2 rec56 l3 l4 l5 m = some r) : xFx hh_221 cX11_felt d 105 [some (.ref a0), some (.int a1), some (.int a2), some (.ref l3), some (.int l4), some (.int l5)] [] (xLay m) 0 0 (some (.int r.1)) (xLay r.2) := by
  unfold fX11_felt_105 at h
  obtain ⟨x1, hx1, h⟩ := xLet_el h
  refine fx_iinc (ls2 := [some (.ref a0), some (.int a1), some (.int a2), some (.ref l3), some (.int l4), some (.int x1)]) dX11_felt_105 rfl rfl rfl hx1 rfl ?_
  refine fx_goto (t := 56) dX11_felt_108 rfl rfl ?_
  exact hrec56 l3 l4 x1 m r hl3 h
def fX11_felt_56 (a0 : Nat) (a1 : Int32) (a2 : Int32) : Nat → Nat → Int32 → Int32 → xMem → Option (Int32 × xMem)
  | 0, _, _, _, _ => none
  | fuel + 1, l3, l4, l5, m => if a2 ≤ l5 then some ((-1 : Int32), m) else (fX6_passSecond (a0 + 250) (a0 + 167) l3 m).bind fun p2 => (fX9_hasHall (a0 + 167) l4 p2).bind fun p3 => if p3.1 = (0 : Int32) then fX11_felt_105 a0 a1 a2 (fX11_felt_56 a0 a1 a2 fuel) l3 l4 l5 p3.2 else bif xIn l4 6 then xLet (a0 + 167 + 15 + 3 * l4.toNatClampNeg) fun r6 => (fX2_isOver r6 p3.2).bind fun p7 => if p7.1 = (0 : Int32) then fX11_felt_105 a0 a1 a2 (fX11_felt_56 a0 a1 a2 fuel) l3 l4 l5 p7.2 else some (l5, p7.2) else none
set_option maxRecDepth 4000 in
theorem fX11_felt_56_ok {a0 : Nat} {a1 : Int32} {a2 : Int32} {d : Nat} (hd : 6 ≤ d) (ha0 : isMS a0) : ∀ (fuel : Nat) (l3 : Nat) (l4 : Int32) (l5 : Int32) (m : xMem) (r : (Int32 × xMem)) (hl3 : isText l3), fX11_felt_56 a0 a1 a2 fuel l3 l4 l5 m = some r → xFx hh_221 cX11_felt d 56 [some (.ref a0), some (.int a1), some (.int a2), some (.ref l3), some (.int l4), some (.int l5)] [] (xLay m) 0 0 (some (.int r.1)) (xLay r.2) := by
  intro fuel
  induction fuel with
  | zero => intro l3 l4 l5  m r hl3 h; cases h
  | succ fuel ih =>
    intro l3 l4 l5  m r hl3 h
    unfold fX11_felt_56 at h
    refine fx_iload dX11_felt_56 rfl rfl ?_
    refine fx_iload_n dX11_felt_58 rfl rfl ?_
    refine fx_icmp_ge (t := 111) dX11_felt_59 rfl rfl (fun hc1 => ?_) (fun hc1 => ?_)
    · rw [if_pos hc1] at h
      refine fx_iconst (x := -1) dX11_felt_111 rfl (by decide) ?_
      cases h
      exact fx_ireturn dX11_felt_112 rfl rfl
    · rw [if_neg hc1] at h
      refine fx_aload_n dX11_felt_62 rfl rfl ?_
      refine gx_getr dX11_felt_63 rfl fd_11_25 ha0.1 rfl rfl ?_
      refine fx_aload_n dX11_felt_66 rfl rfl ?_
      refine gx_getr dX11_felt_67 rfl fd_11_19 ha0.1 rfl rfl ?_
      refine fx_aload_n dX11_felt_70 rfl rfl ?_
      obtain ⟨p2, ep2, h⟩ := xBind_el h
      refine gx_callv (as := [.ref (a0 + 167), .ref l3]) (r := []) rfl dX11_felt_71 ca_11_169 rfl me_120 rfl rfl rfl rfl (ha0.2.2.2.2.1.1) rfl (fX6_passSecond_ok (d := d) (by omega) ha0.2.2.2.2.1 ha0.2.2.2.1 hl3 ep2) rfl rfl ?_
      refine fx_aload_n dX11_felt_74 rfl rfl ?_
      refine gx_getr dX11_felt_75 rfl fd_11_19 ha0.1 rfl rfl ?_
      refine fx_iload dX11_felt_78 rfl rfl ?_
      obtain ⟨p3, ep3, h⟩ := xBind_el h
      refine gx_callv (as := [.int l4]) (r := []) rfl dX11_felt_80 ca_11_65 rfl me_20 rfl rfl rfl rfl (ha0.2.2.2.1.1) rfl (fX9_hasHall_ok (d := d) (by omega) ha0.2.2.2.1 ep3) rfl rfl ?_
      refine fx_if_eq (t := 105) dX11_felt_83 rfl rfl (fun hc4 => ?_) (fun hc4 => ?_)
      · rw [if_pos hc4] at h
        exact fX11_felt_105_ok hd ha0 ih hl3 h
      · rw [if_neg hc4] at h
        refine fx_aload_n dX11_felt_86 rfl rfl ?_
        refine gx_getr dX11_felt_87 rfl fd_11_19 ha0.1 rfl rfl ?_
        refine gx_getr dX11_felt_90 rfl fd_11_55 ha0.2.2.2.1.1 rfl rfl ?_
        refine fx_iload dX11_felt_93 rfl rfl ?_
        obtain ⟨hj5, h⟩ := xChk_el h
        obtain ⟨r6, hr6, h⟩ := xLet_el h
        refine gx_aaload (t := 4) dX11_felt_95 rfl ha0.2.2.2.1.2.1 rfl hj5 ((xRef_at (sl_9_0 (a0 + 167)) hj5).trans (congrArg some hr6)) ?_
        have hpr6 : isHall r6 := by rw [← hr6]; exact ha0.2.2.2.1.2.2.2.2.2.2.2.1 _ (xIn_lt hj5)
        obtain ⟨p7, ep7, h⟩ := xBind_el h
        refine gx_callv (as := []) (r := []) rfl dX11_felt_96 ca_11_253 rfl me_161 rfl rfl rfl rfl (hpr6.1) rfl (fX2_isOver_ok (d := d) (by omega) hpr6 ep7) rfl rfl ?_
        refine fx_if_eq (t := 105) dX11_felt_99 rfl rfl (fun hc8 => ?_) (fun hc8 => ?_)
        · rw [if_pos hc8] at h
          exact fX11_felt_105_ok hd ha0 ih hl3 h
        · rw [if_neg hc8] at h
          refine fx_iload dX11_felt_102 rfl rfl ?_
          cases h
          exact fx_ireturn dX11_felt_104 rfl rfl
def fX11_felt_0 (a0 : Nat) (a1 : Int32) (a2 : Int32) (m : xMem) : Option (Int32 × xMem) := (fX11_mayRun a0 a2 m).bind fun p1 => if p1.1 = (0 : Int32) then fX11_felt_19 a0 a1 a2 p1.2 else (fX9_hasStair (a0 + 1) a1 p1.2).bind fun p3 => if ¬ p3.1 = (0 : Int32) then (fX11_beginTrial a0 p3.2).bind fun p5 => bif xIn a1 10 then xLet (a0 + 167 + 33 + 2 * a1.toNatClampNeg) fun r7 => (fX3_foot r7 p5.2).bind fun p8 => bif xIn a1 10 then xLet (a0 + 167 + 33 + 2 * a1.toNatClampNeg) fun r10 => (fX3_turnTo r10 (0 : Int32) p8.2).bind fun p11 => fX11_felt_56 a0 a1 a2 xFuel p5.1 p8.1 (0 : Int32) p11 else none else none else fX11_felt_19 a0 a1 a2 p3.2
set_option maxRecDepth 4000 in
theorem fX11_felt_0_ok {a0 : Nat} {a1 : Int32} {a2 : Int32} {d : Nat} (hd : 6 ≤ d) (ha0 : isMS a0) {o3 : Option Value} {o4 : Option Value} {o5 : Option Value} {m : xMem} {r : (Int32 × xMem)} (q3 : xNoD o3 = true) (q4 : xNoD o4 = true) (q5 : xNoD o5 = true) (h : fX11_felt_0 a0 a1 a2 m = some r) : xFx hh_221 cX11_felt d 0 [some (.ref a0), some (.int a1), some (.int a2), o3, o4, o5] [] (xLay m) 0 0 (some (.int r.1)) (xLay r.2) := by
  unfold fX11_felt_0 at h
  refine fx_aload_n dX11_felt_0 rfl rfl ?_
  refine fx_iload_n dX11_felt_1 rfl rfl ?_
  obtain ⟨p1, ep1, h⟩ := xBind_el h
  refine gx_callv (as := [.int a2]) (r := []) rfl dX11_felt_2 ca_11_159 rfl me_116 rfl rfl rfl rfl (ha0.1) rfl (fX11_mayRun_ok (d := d) (by omega) ha0 ep1) rfl rfl ?_
  refine fx_if_eq (t := 19) dX11_felt_5 rfl rfl (fun hc2 => ?_) (fun hc2 => ?_)
  · rw [if_pos hc2] at h
    exact fX11_felt_19_ok (o3 := o3) (o4 := o4) (o5 := o5) hd ha0 q3 q4 q5 h
  · rw [if_neg hc2] at h
    refine fx_aload_n dX11_felt_8 rfl rfl ?_
    refine gx_getr dX11_felt_9 rfl fd_11_10 ha0.1 rfl rfl ?_
    refine fx_iload_n dX11_felt_12 rfl rfl ?_
    obtain ⟨p3, ep3, h⟩ := xBind_el h
    refine gx_callv (as := [.int a1]) (r := []) rfl dX11_felt_13 ca_11_90 rfl me_37 rfl rfl rfl rfl (ha0.2.1.1) rfl (fX9_hasStair_ok (d := d) (by omega) ha0.2.1 ep3) rfl rfl ?_
    refine fx_if_ne (t := 21) dX11_felt_16 rfl rfl (fun hc4 => ?_) (fun hc4 => ?_)
    · rw [if_pos hc4] at h
      refine fx_aload_n dX11_felt_21 rfl rfl ?_
      obtain ⟨p5, ep5, h⟩ := xBind_el h
      refine gx_callv (as := []) (r := []) rfl dX11_felt_22 ca_11_246 rfl me_207 rfl rfl rfl rfl (ha0.1) rfl (fX11_beginTrial_ok (d := d) (by omega) ha0 ep5) rfl rfl ?_
      have hqp5 : isText p5.1 := fX11_beginTrial_ref ha0 ep5
      refine fx_astore_n (ls2 := [some (.ref a0), some (.int a1), some (.int a2), some (.ref p5.1), o4, o5]) dX11_felt_25 rfl rfl rfl ?_
      refine fx_aload_n dX11_felt_26 rfl rfl ?_
      refine gx_getr dX11_felt_27 rfl fd_11_19 ha0.1 rfl rfl ?_
      refine gx_getr dX11_felt_30 rfl fd_11_75 ha0.2.2.2.1.1 rfl rfl ?_
      refine fx_iload_n dX11_felt_33 rfl rfl ?_
      obtain ⟨hj6, h⟩ := xChk_el h
      obtain ⟨r7, hr7, h⟩ := xLet_el h
      refine gx_aaload (t := 5) dX11_felt_34 rfl ha0.2.2.2.1.2.2.1 rfl hj6 ((xRef_at (sl_9_1 (a0 + 167)) hj6).trans (congrArg some hr7)) ?_
      have hpr7 : isLink r7 := by rw [← hr7]; exact ha0.2.2.2.1.2.2.2.2.2.2.2.2.1 _ (xIn_lt hj6)
      obtain ⟨p8, ep8, h⟩ := xBind_el h
      refine gx_callv (as := []) (r := []) rfl dX11_felt_35 ca_11_249 rfl me_137 rfl rfl rfl rfl (hpr7.1) rfl (fX3_foot_ok (d := d) (by omega) hpr7 ep8) rfl rfl ?_
      refine fx_istore (ls2 := [some (.ref a0), some (.int a1), some (.int a2), some (.ref p5.1), some (.int p8.1), o5]) dX11_felt_38 rfl rfl rfl ?_
      refine fx_aload_n dX11_felt_40 rfl rfl ?_
      refine gx_getr dX11_felt_41 rfl fd_11_19 ha0.1 rfl rfl ?_
      refine gx_getr dX11_felt_44 rfl fd_11_75 ha0.2.2.2.1.1 rfl rfl ?_
      refine fx_iload_n dX11_felt_47 rfl rfl ?_
      obtain ⟨hj9, h⟩ := xChk_el h
      obtain ⟨r10, hr10, h⟩ := xLet_el h
      refine gx_aaload (t := 5) dX11_felt_48 rfl ha0.2.2.2.1.2.2.1 rfl hj9 ((xRef_at (sl_9_1 (a0 + 167)) hj9).trans (congrArg some hr10)) ?_
      have hpr10 : isLink r10 := by rw [← hr10]; exact ha0.2.2.2.1.2.2.2.2.2.2.2.2.1 _ (xIn_lt hj9)
      refine fx_iconst (x := 0) dX11_felt_49 rfl (by decide) ?_
      obtain ⟨p11, ep11, h⟩ := xBind_el h
      refine gx_callv (as := [.int (0 : Int32)]) (r := []) rfl dX11_felt_50 ca_11_87 rfl me_30 rfl rfl rfl rfl (hpr10.1) rfl (fX3_turnTo_ok (d := d) (by omega) hpr10 ep11) rfl rfl ?_
      refine fx_iconst (x := 0) dX11_felt_53 rfl (by decide) ?_
      refine fx_istore (ls2 := [some (.ref a0), some (.int a1), some (.int a2), some (.ref p5.1), some (.int p8.1), some (.int (0 : Int32))]) dX11_felt_54 rfl rfl rfl ?_
      exact fX11_felt_56_ok hd ha0 xFuel p5.1 p8.1 (0 : Int32) p11 r hqp5 h
    · rw [if_neg hc4] at h
      exact fX11_felt_19_ok (o3 := o3) (o4 := o4) (o5 := o5) hd ha0 q3 q4 q5 h
def fX11_felt (a0 : Nat) (a1 : Int32) (a2 : Int32) (m : xMem) : Option (Int32 × xMem) := fX11_felt_0 a0 a1 a2  m
theorem fX11_felt_ok {a0 : Nat} {a1 : Int32} {a2 : Int32} {m : xMem} {r : (Int32 × xMem)} {d : Nat} (hd : 7 ≤ d) (ha0 : isMS a0) (h : fX11_felt a0 a1 a2 m = some r) : xEx d 221 [.ref a0, .int a1, .int a2] (xLay m) (some (.int r.1)) (xLay r.2) := by
  obtain ⟨d, rfl⟩ : ∃ q, d = q + 1 := ⟨d - 1, by omega⟩
  exact xEx_of me_221 rfl (fX11_felt_0_ok (d := d) (o3 := none) (o4 := none) (o5 := none) (by omega) ha0 rfl rfl rfl h)
def fX12_isStair_22 (a0 : Nat) (a1 : Int32) (s0 : Int32) (m : xMem) : Option (Int32 × xMem) := bif (decide (s0 = 0) || decide (s0 = 1)) then some (s0, m) else none
set_option maxRecDepth 4000 in
theorem fX12_isStair_22_ok {a0 : Nat} {a1 : Int32} {d : Nat} (hd : 2 ≤ d) (ha0 : isModel a0) {s0 : Int32} {m : xMem} {r : (Int32 × xMem)} (h : fX12_isStair_22 a0 a1 s0 m = some r) : xFx hh_223 cX12_isStair d 22 [some (.ref a0), some (.int a1)] [.int s0] (xLay m) 0 0 (some (.int r.1)) (xLay r.2) := by
  unfold fX12_isStair_22 at h
  obtain ⟨hb1, h⟩ := xChk_el h
  cases h
  exact fx_ireturn dX12_isStair_22 rfl (by show ((decide _ || decide _) && _) = true; rw [hb1]; rfl)
def fX12_isStair_21 (a0 : Nat) (a1 : Int32) (m : xMem) : Option (Int32 × xMem) := fX12_isStair_22 a0 a1 (0 : Int32) m
set_option maxRecDepth 4000 in
theorem fX12_isStair_21_ok {a0 : Nat} {a1 : Int32} {d : Nat} (hd : 2 ≤ d) (ha0 : isModel a0) {m : xMem} {r : (Int32 × xMem)} (h : fX12_isStair_21 a0 a1 m = some r) : xFx hh_223 cX12_isStair d 21 [some (.ref a0), some (.int a1)] [] (xLay m) 0 0 (some (.int r.1)) (xLay r.2) := by
  unfold fX12_isStair_21 at h
  refine fx_iconst (x := 0) dX12_isStair_21 rfl (by decide) ?_
  exact fX12_isStair_22_ok hd ha0 h
def fX12_isStair_0 (a0 : Nat) (a1 : Int32) (m : xMem) : Option (Int32 × xMem) := (fX12_isLink a0 a1 m).bind fun p1 => if p1.1 = (0 : Int32) then fX12_isStair_21 a0 a1 p1.2 else (fX12_linkOf a0 a1 (0 : Int32) p1.2).bind fun p3 => if ¬ p3.1 = (0 : Int32) then fX12_isStair_21 a0 a1 p3.2 else fX12_isStair_22 a0 a1 (1 : Int32) p3.2
set_option maxRecDepth 4000 in
theorem fX12_isStair_0_ok {a0 : Nat} {a1 : Int32} {d : Nat} (hd : 2 ≤ d) (ha0 : isModel a0) {m : xMem} {r : (Int32 × xMem)} (h : fX12_isStair_0 a0 a1 m = some r) : xFx hh_223 cX12_isStair d 0 [some (.ref a0), some (.int a1)] [] (xLay m) 0 0 (some (.int r.1)) (xLay r.2) := by
  unfold fX12_isStair_0 at h
  refine fx_aload_n dX12_isStair_0 rfl rfl ?_
  refine fx_iload_n dX12_isStair_1 rfl rfl ?_
  obtain ⟨p1, ep1, h⟩ := xBind_el h
  refine gx_callv (as := [.int a1]) (r := []) rfl dX12_isStair_2 ca_12_99 rfl me_33 rfl rfl rfl rfl (ha0.1) rfl (fX12_isLink_ok (d := d) (by omega) ha0 ep1) rfl rfl ?_
  refine fx_if_eq (t := 21) dX12_isStair_5 rfl rfl (fun hc2 => ?_) (fun hc2 => ?_)
  · rw [if_pos hc2] at h
    exact fX12_isStair_21_ok hd ha0 h
  · rw [if_neg hc2] at h
    refine fx_aload_n dX12_isStair_8 rfl rfl ?_
    refine fx_iload_n dX12_isStair_9 rfl rfl ?_
    refine fx_iconst (x := 0) dX12_isStair_10 rfl (by decide) ?_
    obtain ⟨p3, ep3, h⟩ := xBind_el h
    refine gx_callv (as := [.int a1, .int (0 : Int32)]) (r := []) rfl dX12_isStair_11 ca_12_103 rfl me_34 rfl rfl rfl rfl (ha0.1) rfl (fX12_linkOf_ok (d := d) (by omega) ha0 ep3) rfl rfl ?_
    refine fx_if_ne (t := 21) dX12_isStair_14 rfl rfl (fun hc4 => ?_) (fun hc4 => ?_)
    · rw [if_pos hc4] at h
      exact fX12_isStair_21_ok hd ha0 h
    · rw [if_neg hc4] at h
      refine fx_iconst (x := 1) dX12_isStair_17 rfl (by decide) ?_
      refine fx_goto (t := 22) dX12_isStair_18 rfl rfl ?_
      exact fX12_isStair_22_ok hd ha0 h
def fX12_isStair (a0 : Nat) (a1 : Int32) (m : xMem) : Option (Int32 × xMem) := fX12_isStair_0 a0 a1  m
theorem fX12_isStair_ok {a0 : Nat} {a1 : Int32} {m : xMem} {r : (Int32 × xMem)} {d : Nat} (hd : 3 ≤ d) (ha0 : isModel a0) (h : fX12_isStair a0 a1 m = some r) : xEx d 223 [.ref a0, .int a1] (xLay m) (some (.int r.1)) (xLay r.2) := by
  obtain ⟨d, rfl⟩ : ∃ q, d = q + 1 := ⟨d - 1, by omega⟩
  exact xEx_of me_223 rfl (fX12_isStair_0_ok (d := d) (by omega) ha0 h)
