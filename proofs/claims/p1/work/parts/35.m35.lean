theorem dX12_countsBy_0 : decode cX12_countsBy 0 = .ok (.iconst 0, 1) := by decide +kernel
theorem dX12_countsBy_1 : decode cX12_countsBy 1 = .ok (.istore 4, 2) := by decide +kernel
theorem dX12_countsBy_3 : decode cX12_countsBy 3 = .ok (.iconst 0, 1) := by decide +kernel
theorem dX12_countsBy_4 : decode cX12_countsBy 4 = .ok (.istore 5, 2) := by decide +kernel
theorem dX12_countsBy_6 : decode cX12_countsBy 6 = .ok (.iconst 0, 1) := by decide +kernel
theorem dX12_countsBy_7 : decode cX12_countsBy 7 = .ok (.istore 6, 2) := by decide +kernel
theorem dX12_countsBy_9 : decode cX12_countsBy 9 = .ok (.iload_n 3, 1) := by decide +kernel
theorem dX12_countsBy_10 : decode cX12_countsBy 10 = .ok (.istore 7, 2) := by decide +kernel
theorem dX12_countsBy_12 : decode cX12_countsBy 12 = .ok (.iconst 0, 1) := by decide +kernel
theorem dX12_countsBy_13 : decode cX12_countsBy 13 = .ok (.istore 8, 2) := by decide +kernel
theorem dX12_countsBy_15 : decode cX12_countsBy 15 = .ok (.iload 8, 2) := by decide +kernel
theorem dX12_countsBy_17 : decode cX12_countsBy 17 = .ok (.iload_n 2, 1) := by decide +kernel
theorem dX12_countsBy_18 : decode cX12_countsBy 18 = .ok (.if_icmp .ge 78, 3) := by decide +kernel
theorem dX12_countsBy_21 : decode cX12_countsBy 21 = .ok (.iload 7, 2) := by decide +kernel
theorem dX12_countsBy_23 : decode cX12_countsBy 23 = .ok (.iload_n 2, 1) := by decide +kernel
theorem dX12_countsBy_24 : decode cX12_countsBy 24 = .ok (.idiv, 1) := by decide +kernel
theorem dX12_countsBy_25 : decode cX12_countsBy 25 = .ok (.istore 7, 2) := by decide +kernel
theorem dX12_countsBy_27 : decode cX12_countsBy 27 = .ok (.iload_n 1, 1) := by decide +kernel
theorem dX12_countsBy_28 : decode cX12_countsBy 28 = .ok (.iload 7, 2) := by decide +kernel
theorem dX12_countsBy_30 : decode cX12_countsBy 30 = .ok (.idiv, 1) := by decide +kernel
theorem dX12_countsBy_31 : decode cX12_countsBy 31 = .ok (.iload_n 2, 1) := by decide +kernel
theorem dX12_countsBy_32 : decode cX12_countsBy 32 = .ok (.irem, 1) := by decide +kernel
theorem dX12_countsBy_33 : decode cX12_countsBy 33 = .ok (.istore 9, 2) := by decide +kernel
theorem dX12_countsBy_35 : decode cX12_countsBy 35 = .ok (.iload 4, 2) := by decide +kernel
theorem dX12_countsBy_37 : decode cX12_countsBy 37 = .ok (.iload 9, 2) := by decide +kernel
theorem dX12_countsBy_39 : decode cX12_countsBy 39 = .ok (.ishr, 1) := by decide +kernel
theorem dX12_countsBy_40 : decode cX12_countsBy 40 = .ok (.iconst 1, 1) := by decide +kernel
theorem dX12_countsBy_41 : decode cX12_countsBy 41 = .ok (.iand, 1) := by decide +kernel
theorem dX12_countsBy_42 : decode cX12_countsBy 42 = .ok (.iconst 1, 1) := by decide +kernel
theorem dX12_countsBy_43 : decode cX12_countsBy 43 = .ok (.if_icmp .ne 5, 3) := by decide +kernel
theorem dX12_countsBy_46 : decode cX12_countsBy 46 = .ok (.iconst (-1), 1) := by decide +kernel
theorem dX12_countsBy_47 : decode cX12_countsBy 47 = .ok (.ireturn, 1) := by decide +kernel
theorem dX12_countsBy_48 : decode cX12_countsBy 48 = .ok (.iload 4, 2) := by decide +kernel
theorem dX12_countsBy_50 : decode cX12_countsBy 50 = .ok (.iconst 1, 1) := by decide +kernel
theorem dX12_countsBy_51 : decode cX12_countsBy 51 = .ok (.iload 9, 2) := by decide +kernel
theorem dX12_countsBy_53 : decode cX12_countsBy 53 = .ok (.ishl, 1) := by decide +kernel
theorem dX12_countsBy_54 : decode cX12_countsBy 54 = .ok (.ior, 1) := by decide +kernel
theorem dX12_countsBy_55 : decode cX12_countsBy 55 = .ok (.istore 4, 2) := by decide +kernel
theorem dX12_countsBy_57 : decode cX12_countsBy 57 = .ok (.iload 6, 2) := by decide +kernel
theorem dX12_countsBy_59 : decode cX12_countsBy 59 = .ok (.aload_n 0, 1) := by decide +kernel
theorem dX12_countsBy_60 : decode cX12_countsBy 60 = .ok (.iload 9, 2) := by decide +kernel
theorem dX12_countsBy_62 : decode cX12_countsBy 62 = .ok (.iload 5, 2) := by decide +kernel
theorem dX12_countsBy_64 : decode cX12_countsBy 64 = .ok (.invokevirtual 417, 3) := by decide +kernel
theorem dX12_countsBy_67 : decode cX12_countsBy 67 = .ok (.iadd, 1) := by decide +kernel
theorem dX12_countsBy_68 : decode cX12_countsBy 68 = .ok (.istore 6, 2) := by decide +kernel
theorem dX12_countsBy_70 : decode cX12_countsBy 70 = .ok (.iload 5, 2) := by decide +kernel
theorem dX12_countsBy_72 : decode cX12_countsBy 72 = .ok (.aload_n 0, 1) := by decide +kernel
theorem dX12_countsBy_73 : decode cX12_countsBy 73 = .ok (.getfield 7, 3) := by decide +kernel
theorem dX12_countsBy_76 : decode cX12_countsBy 76 = .ok (.sipush 1520, 3) := by decide +kernel
theorem dX12_countsBy_79 : decode cX12_countsBy 79 = .ok (.iconst 4, 1) := by decide +kernel
theorem dX12_countsBy_80 : decode cX12_countsBy 80 = .ok (.iload 9, 2) := by decide +kernel
theorem dX12_countsBy_82 : decode cX12_countsBy 82 = .ok (.imul, 1) := by decide +kernel
theorem dX12_countsBy_83 : decode cX12_countsBy 83 = .ok (.iadd, 1) := by decide +kernel
theorem dX12_countsBy_84 : decode cX12_countsBy 84 = .ok (.iconst 3, 1) := by decide +kernel
theorem dX12_countsBy_85 : decode cX12_countsBy 85 = .ok (.iadd, 1) := by decide +kernel
theorem dX12_countsBy_86 : decode cX12_countsBy 86 = .ok (.iaload, 1) := by decide +kernel
theorem dX12_countsBy_87 : decode cX12_countsBy 87 = .ok (.iadd, 1) := by decide +kernel
theorem dX12_countsBy_88 : decode cX12_countsBy 88 = .ok (.istore 5, 2) := by decide +kernel
theorem dX12_countsBy_90 : decode cX12_countsBy 90 = .ok (.iinc 8 1, 3) := by decide +kernel
theorem dX12_countsBy_93 : decode cX12_countsBy 93 = .ok (.goto (-78), 3) := by decide +kernel
theorem dX12_countsBy_96 : decode cX12_countsBy 96 = .ok (.iload 6, 2) := by decide +kernel
theorem dX12_countsBy_98 : decode cX12_countsBy 98 = .ok (.ireturn, 1) := by decide +kernel
theorem dX12_order_0 : decode cX12_order 0 = .ok (.aload_n 0, 1) := by decide +kernel
theorem dX12_order_1 : decode cX12_order 1 = .ok (.getfield 7, 3) := by decide +kernel
theorem dX12_order_4 : decode cX12_order 4 = .ok (.bipush 7, 2) := by decide +kernel
theorem dX12_order_6 : decode cX12_order 6 = .ok (.iaload, 1) := by decide +kernel
theorem dX12_order_7 : decode cX12_order 7 = .ok (.istore_n 2, 1) := by decide +kernel
theorem dX12_order_8 : decode cX12_order 8 = .ok (.iload_n 2, 1) := by decide +kernel
theorem dX12_order_9 : decode cX12_order 9 = .ok (.ifCond .eq 14, 3) := by decide +kernel
theorem dX12_order_12 : decode cX12_order 12 = .ok (.iload_n 1, 1) := by decide +kernel
theorem dX12_order_13 : decode cX12_order 13 = .ok (.iconst (-1), 1) := by decide +kernel
theorem dX12_order_14 : decode cX12_order 14 = .ok (.iload_n 2, 1) := by decide +kernel
theorem dX12_order_15 : decode cX12_order 15 = .ok (.iconst 1, 1) := by decide +kernel
theorem dX12_order_16 : decode cX12_order 16 = .ok (.isub, 1) := by decide +kernel
theorem dX12_order_17 : decode cX12_order 17 = .ok (.invokestatic 95, 3) := by decide +kernel
theorem dX12_order_20 : decode cX12_order 20 = .ok (.ifCond .ne 5, 3) := by decide +kernel
theorem dX12_order_23 : decode cX12_order 23 = .ok (.iconst (-1), 1) := by decide +kernel
theorem dX12_order_24 : decode cX12_order 24 = .ok (.ireturn, 1) := by decide +kernel
theorem dX12_order_25 : decode cX12_order 25 = .ok (.iconst 1, 1) := by decide +kernel
theorem dX12_order_26 : decode cX12_order 26 = .ok (.istore_n 3, 1) := by decide +kernel
theorem dX12_order_27 : decode cX12_order 27 = .ok (.iconst 0, 1) := by decide +kernel
theorem dX12_order_28 : decode cX12_order 28 = .ok (.istore 4, 2) := by decide +kernel
theorem dX12_order_30 : decode cX12_order 30 = .ok (.iload 4, 2) := by decide +kernel
theorem dX12_order_32 : decode cX12_order 32 = .ok (.iload_n 2, 1) := by decide +kernel
theorem dX12_order_33 : decode cX12_order 33 = .ok (.if_icmp .ge 13, 3) := by decide +kernel
theorem dX12_order_36 : decode cX12_order 36 = .ok (.iload_n 3, 1) := by decide +kernel
theorem dX12_order_37 : decode cX12_order 37 = .ok (.iload_n 2, 1) := by decide +kernel
theorem dX12_order_38 : decode cX12_order 38 = .ok (.imul, 1) := by decide +kernel
theorem dX12_order_39 : decode cX12_order 39 = .ok (.istore_n 3, 1) := by decide +kernel
theorem dX12_order_40 : decode cX12_order 40 = .ok (.iinc 4 1, 3) := by decide +kernel
theorem dX12_order_43 : decode cX12_order 43 = .ok (.goto (-13), 3) := by decide +kernel
theorem dX12_order_46 : decode cX12_order 46 = .ok (.iconst (-1), 1) := by decide +kernel
theorem dX12_order_47 : decode cX12_order 47 = .ok (.istore 4, 2) := by decide +kernel
theorem dX12_order_49 : decode cX12_order 49 = .ok (.iconst 0, 1) := by decide +kernel
theorem dX12_order_50 : decode cX12_order 50 = .ok (.istore 5, 2) := by decide +kernel
theorem dX12_order_52 : decode cX12_order 52 = .ok (.iconst 0, 1) := by decide +kernel
theorem dX12_order_53 : decode cX12_order 53 = .ok (.istore 6, 2) := by decide +kernel
theorem dX12_order_55 : decode cX12_order 55 = .ok (.iload 6, 2) := by decide +kernel
theorem dX12_order_57 : decode cX12_order 57 = .ok (.iload_n 3, 1) := by decide +kernel
theorem dX12_order_58 : decode cX12_order 58 = .ok (.if_icmp .ge 46, 3) := by decide +kernel
theorem dX12_order_61 : decode cX12_order 61 = .ok (.aload_n 0, 1) := by decide +kernel
theorem dX12_order_62 : decode cX12_order 62 = .ok (.iload 6, 2) := by decide +kernel
theorem dX12_order_64 : decode cX12_order 64 = .ok (.iload_n 2, 1) := by decide +kernel
theorem dX12_order_65 : decode cX12_order 65 = .ok (.iload_n 3, 1) := by decide +kernel
theorem dX12_order_66 : decode cX12_order 66 = .ok (.invokevirtual 414, 3) := by decide +kernel
theorem dX12_order_69 : decode cX12_order 69 = .ok (.istore 7, 2) := by decide +kernel
theorem dX12_order_71 : decode cX12_order 71 = .ok (.iload 7, 2) := by decide +kernel
theorem dX12_order_73 : decode cX12_order 73 = .ok (.iconst (-1), 1) := by decide +kernel
theorem dX12_order_74 : decode cX12_order 74 = .ok (.if_icmp .eq 24, 3) := by decide +kernel
theorem dX12_order_77 : decode cX12_order 77 = .ok (.iload 4, 2) := by decide +kernel
theorem dX12_order_79 : decode cX12_order 79 = .ok (.iconst (-1), 1) := by decide +kernel
theorem dX12_order_80 : decode cX12_order 80 = .ok (.if_icmp .eq 10, 3) := by decide +kernel
theorem dX12_order_83 : decode cX12_order 83 = .ok (.iload 7, 2) := by decide +kernel
theorem dX12_order_85 : decode cX12_order 85 = .ok (.iload 4, 2) := by decide +kernel
theorem dX12_order_87 : decode cX12_order 87 = .ok (.if_icmp .ge 11, 3) := by decide +kernel
theorem dX12_order_90 : decode cX12_order 90 = .ok (.iload 7, 2) := by decide +kernel
theorem dX12_order_92 : decode cX12_order 92 = .ok (.istore 4, 2) := by decide +kernel
theorem dX12_order_94 : decode cX12_order 94 = .ok (.iload 6, 2) := by decide +kernel
theorem dX12_order_96 : decode cX12_order 96 = .ok (.istore 5, 2) := by decide +kernel
theorem dX12_order_98 : decode cX12_order 98 = .ok (.iinc 6 1, 3) := by decide +kernel
theorem dX12_order_101 : decode cX12_order 101 = .ok (.goto (-46), 3) := by decide +kernel
theorem dX12_order_104 : decode cX12_order 104 = .ok (.iload_n 1, 1) := by decide +kernel
theorem dX12_order_105 : decode cX12_order 105 = .ok (.iconst (-1), 1) := by decide +kernel
theorem dX12_order_106 : decode cX12_order 106 = .ok (.if_icmp .ne 6, 3) := by decide +kernel
theorem dX12_order_109 : decode cX12_order 109 = .ok (.iload 4, 2) := by decide +kernel
theorem dX12_order_111 : decode cX12_order 111 = .ok (.ireturn, 1) := by decide +kernel
theorem dX12_order_112 : decode cX12_order 112 = .ok (.iload_n 2, 1) := by decide +kernel
theorem dX12_order_113 : decode cX12_order 113 = .ok (.iconst 1, 1) := by decide +kernel
theorem dX12_order_114 : decode cX12_order 114 = .ok (.isub, 1) := by decide +kernel
theorem dX12_order_115 : decode cX12_order 115 = .ok (.istore 6, 2) := by decide +kernel
theorem dX12_order_117 : decode cX12_order 117 = .ok (.iload 6, 2) := by decide +kernel
theorem dX12_order_119 : decode cX12_order 119 = .ok (.iload_n 1, 1) := by decide +kernel
theorem dX12_order_120 : decode cX12_order 120 = .ok (.if_icmp .le 15, 3) := by decide +kernel
theorem dX12_order_123 : decode cX12_order 123 = .ok (.iload 5, 2) := by decide +kernel
theorem dX12_order_125 : decode cX12_order 125 = .ok (.iload_n 2, 1) := by decide +kernel
theorem dX12_order_126 : decode cX12_order 126 = .ok (.idiv, 1) := by decide +kernel
theorem dX12_order_127 : decode cX12_order 127 = .ok (.istore 5, 2) := by decide +kernel
theorem dX12_order_129 : decode cX12_order 129 = .ok (.iinc 6 (-1), 3) := by decide +kernel
theorem dX12_order_132 : decode cX12_order 132 = .ok (.goto (-15), 3) := by decide +kernel
theorem dX12_order_135 : decode cX12_order 135 = .ok (.iload 5, 2) := by decide +kernel
theorem dX12_order_137 : decode cX12_order 137 = .ok (.iload_n 2, 1) := by decide +kernel
theorem dX12_order_138 : decode cX12_order 138 = .ok (.irem, 1) := by decide +kernel
theorem dX12_order_139 : decode cX12_order 139 = .ok (.ireturn, 1) := by decide +kernel
theorem dX4_tell_0 : decode cX4_tell 0 = .ok (.aload_n 0, 1) := by decide +kernel
theorem dX4_tell_1 : decode cX4_tell 1 = .ok (.getfield 15, 3) := by decide +kernel
theorem dX4_tell_4 : decode cX4_tell 4 = .ok (.ifCond .lt 12, 3) := by decide +kernel
theorem dX4_tell_7 : decode cX4_tell 7 = .ok (.aload_n 0, 1) := by decide +kernel
theorem dX4_tell_8 : decode cX4_tell 8 = .ok (.getfield 15, 3) := by decide +kernel
theorem dX4_tell_11 : decode cX4_tell 11 = .ok (.bipush 60, 2) := by decide +kernel
theorem dX4_tell_13 : decode cX4_tell 13 = .ok (.if_icmp .lt 5, 3) := by decide +kernel
theorem dX4_tell_16 : decode cX4_tell 16 = .ok (.iconst (-1), 1) := by decide +kernel
theorem dX4_tell_17 : decode cX4_tell 17 = .ok (.ireturn, 1) := by decide +kernel
theorem dX4_tell_18 : decode cX4_tell 18 = .ok (.aload_n 0, 1) := by decide +kernel
theorem dX4_tell_19 : decode cX4_tell 19 = .ok (.getfield 11, 3) := by decide +kernel
theorem dX4_tell_22 : decode cX4_tell 22 = .ok (.aload_n 0, 1) := by decide +kernel
theorem dX4_tell_23 : decode cX4_tell 23 = .ok (.getfield 15, 3) := by decide +kernel
theorem dX4_tell_26 : decode cX4_tell 26 = .ok (.iload_n 1, 1) := by decide +kernel
theorem dX4_tell_27 : decode cX4_tell 27 = .ok (.iastore, 1) := by decide +kernel
theorem dX4_tell_28 : decode cX4_tell 28 = .ok (.aload_n 0, 1) := by decide +kernel
theorem dX4_tell_29 : decode cX4_tell 29 = .ok (.dup, 1) := by decide +kernel
theorem dX4_tell_30 : decode cX4_tell 30 = .ok (.getfield 15, 3) := by decide +kernel
theorem dX4_tell_33 : decode cX4_tell 33 = .ok (.iconst 1, 1) := by decide +kernel
theorem dX4_tell_34 : decode cX4_tell 34 = .ok (.iadd, 1) := by decide +kernel
theorem dX4_tell_35 : decode cX4_tell 35 = .ok (.putfield 15, 3) := by decide +kernel
theorem dX4_tell_38 : decode cX4_tell 38 = .ok (.aload_n 0, 1) := by decide +kernel
theorem dX4_tell_39 : decode cX4_tell 39 = .ok (.getfield 15, 3) := by decide +kernel
theorem dX4_tell_42 : decode cX4_tell 42 = .ok (.ireturn, 1) := by decide +kernel
theorem dX11_load_0 : decode cX11_load 0 = .ok (.iload_n 1, 1) := by decide +kernel
theorem dX11_load_1 : decode cX11_load 1 = .ok (.iconst 0, 1) := by decide +kernel
theorem dX11_load_2 : decode cX11_load 2 = .ok (.bipush 80, 2) := by decide +kernel
theorem dX11_load_4 : decode cX11_load 4 = .ok (.invokestatic 47, 3) := by decide +kernel
theorem dX11_load_7 : decode cX11_load 7 = .ok (.ifCond .eq 17, 3) := by decide +kernel
theorem dX11_load_10 : decode cX11_load 10 = .ok (.aload_n 0, 1) := by decide +kernel
theorem dX11_load_11 : decode cX11_load 11 = .ok (.getfield 10, 3) := by decide +kernel
theorem dX11_load_14 : decode cX11_load 14 = .ok (.getfield 301, 3) := by decide +kernel
theorem dX11_load_17 : decode cX11_load 17 = .ok (.iload_n 1, 1) := by decide +kernel
theorem dX11_load_18 : decode cX11_load 18 = .ok (.invokevirtual 305, 3) := by decide +kernel
theorem dX11_load_21 : decode cX11_load 21 = .ok (.goto 4, 3) := by decide +kernel
theorem dX11_load_24 : decode cX11_load 24 = .ok (.iconst (-1), 1) := by decide +kernel
theorem dX11_load_25 : decode cX11_load 25 = .ok (.ireturn, 1) := by decide +kernel
theorem dX12_load_0 : decode cX12_load 0 = .ok (.iload_n 1, 1) := by decide +kernel
theorem dX12_load_1 : decode cX12_load 1 = .ok (.iconst 0, 1) := by decide +kernel
theorem dX12_load_2 : decode cX12_load 2 = .ok (.bipush 80, 2) := by decide +kernel
theorem dX12_load_4 : decode cX12_load 4 = .ok (.invokestatic 95, 3) := by decide +kernel
theorem dX12_load_7 : decode cX12_load 7 = .ok (.ifCond .eq 15, 3) := by decide +kernel
theorem dX12_load_10 : decode cX12_load 10 = .ok (.aload_n 0, 1) := by decide +kernel
theorem dX12_load_11 : decode cX12_load 11 = .ok (.getfield 7, 3) := by decide +kernel
theorem dX12_load_14 : decode cX12_load 14 = .ok (.bipush 8, 2) := by decide +kernel
theorem dX12_load_16 : decode cX12_load 16 = .ok (.iaload, 1) := by decide +kernel
theorem dX12_load_17 : decode cX12_load 17 = .ok (.bipush 60, 2) := by decide +kernel
theorem dX12_load_19 : decode cX12_load 19 = .ok (.if_icmp .ne 5, 3) := by decide +kernel
theorem dX12_load_22 : decode cX12_load 22 = .ok (.iconst (-1), 1) := by decide +kernel
theorem dX12_load_23 : decode cX12_load 23 = .ok (.ireturn, 1) := by decide +kernel
theorem dX12_load_24 : decode cX12_load 24 = .ok (.aload_n 0, 1) := by decide +kernel
theorem dX12_load_25 : decode cX12_load 25 = .ok (.getfield 7, 3) := by decide +kernel
theorem dX12_load_28 : decode cX12_load 28 = .ok (.sipush 1550, 3) := by decide +kernel
theorem dX12_load_31 : decode cX12_load 31 = .ok (.aload_n 0, 1) := by decide +kernel
theorem dX12_load_32 : decode cX12_load 32 = .ok (.getfield 7, 3) := by decide +kernel
theorem dX12_load_35 : decode cX12_load 35 = .ok (.bipush 8, 2) := by decide +kernel
theorem dX12_load_37 : decode cX12_load 37 = .ok (.iaload, 1) := by decide +kernel
theorem dX12_load_38 : decode cX12_load 38 = .ok (.iadd, 1) := by decide +kernel
theorem dX12_load_39 : decode cX12_load 39 = .ok (.iload_n 1, 1) := by decide +kernel
theorem dX12_load_40 : decode cX12_load 40 = .ok (.iastore, 1) := by decide +kernel
theorem dX12_load_41 : decode cX12_load 41 = .ok (.aload_n 0, 1) := by decide +kernel
theorem dX12_load_42 : decode cX12_load 42 = .ok (.getfield 7, 3) := by decide +kernel
theorem dX12_load_45 : decode cX12_load 45 = .ok (.bipush 8, 2) := by decide +kernel
theorem dX12_load_47 : decode cX12_load 47 = .ok (.dup2, 1) := by decide +kernel
theorem dX12_load_48 : decode cX12_load 48 = .ok (.iaload, 1) := by decide +kernel
theorem dX12_load_49 : decode cX12_load 49 = .ok (.iconst 1, 1) := by decide +kernel
theorem dX12_load_50 : decode cX12_load 50 = .ok (.iadd, 1) := by decide +kernel
theorem dX12_load_51 : decode cX12_load 51 = .ok (.iastore, 1) := by decide +kernel
theorem dX12_load_52 : decode cX12_load 52 = .ok (.aload_n 0, 1) := by decide +kernel
theorem dX12_load_53 : decode cX12_load 53 = .ok (.getfield 7, 3) := by decide +kernel
theorem dX12_load_56 : decode cX12_load 56 = .ok (.bipush 8, 2) := by decide +kernel
theorem dX12_load_58 : decode cX12_load 58 = .ok (.iaload, 1) := by decide +kernel
theorem dX12_load_59 : decode cX12_load 59 = .ok (.ireturn, 1) := by decide +kernel
theorem dX11_unload_0 : decode cX11_unload 0 = .ok (.aload_n 0, 1) := by decide +kernel
theorem dX11_unload_1 : decode cX11_unload 1 = .ok (.getfield 10, 3) := by decide +kernel
theorem dX11_unload_4 : decode cX11_unload 4 = .ok (.getfield 301, 3) := by decide +kernel
theorem dX11_unload_7 : decode cX11_unload 7 = .ok (.getfield 309, 3) := by decide +kernel
theorem dX11_unload_10 : decode cX11_unload 10 = .ok (.istore_n 1, 1) := by decide +kernel
theorem dX11_unload_11 : decode cX11_unload 11 = .ok (.aload_n 0, 1) := by decide +kernel
theorem dX11_unload_12 : decode cX11_unload 12 = .ok (.getfield 10, 3) := by decide +kernel
theorem dX11_unload_15 : decode cX11_unload 15 = .ok (.getfield 301, 3) := by decide +kernel
theorem dX11_unload_18 : decode cX11_unload 18 = .ok (.iconst 0, 1) := by decide +kernel
theorem dX11_unload_19 : decode cX11_unload 19 = .ok (.putfield 309, 3) := by decide +kernel
theorem dX11_unload_22 : decode cX11_unload 22 = .ok (.iload_n 1, 1) := by decide +kernel
theorem dX11_unload_23 : decode cX11_unload 23 = .ok (.ireturn, 1) := by decide +kernel
theorem dX12_unload_0 : decode cX12_unload 0 = .ok (.aload_n 0, 1) := by decide +kernel
theorem dX12_unload_1 : decode cX12_unload 1 = .ok (.getfield 7, 3) := by decide +kernel
theorem dX12_unload_4 : decode cX12_unload 4 = .ok (.bipush 8, 2) := by decide +kernel
theorem dX12_unload_6 : decode cX12_unload 6 = .ok (.iaload, 1) := by decide +kernel
theorem dX12_unload_7 : decode cX12_unload 7 = .ok (.istore_n 1, 1) := by decide +kernel
theorem dX12_unload_8 : decode cX12_unload 8 = .ok (.aload_n 0, 1) := by decide +kernel
theorem dX12_unload_9 : decode cX12_unload 9 = .ok (.getfield 7, 3) := by decide +kernel
theorem dX12_unload_12 : decode cX12_unload 12 = .ok (.bipush 8, 2) := by decide +kernel
theorem dX12_unload_14 : decode cX12_unload 14 = .ok (.iconst 0, 1) := by decide +kernel
theorem dX12_unload_15 : decode cX12_unload 15 = .ok (.iastore, 1) := by decide +kernel
theorem dX12_unload_16 : decode cX12_unload 16 = .ok (.iload_n 1, 1) := by decide +kernel
theorem dX12_unload_17 : decode cX12_unload 17 = .ok (.ireturn, 1) := by decide +kernel
theorem dX4_steppedOn_0 : decode cX4_steppedOn 0 = .ok (.iload_n 1, 1) := by decide +kernel
theorem dX4_steppedOn_1 : decode cX4_steppedOn 1 = .ok (.iconst 1, 1) := by decide +kernel
theorem dX4_steppedOn_2 : decode cX4_steppedOn 2 = .ok (.if_icmp .lt 11, 3) := by decide +kernel
theorem dX4_steppedOn_5 : decode cX4_steppedOn 5 = .ok (.aload_n 0, 1) := by decide +kernel
theorem dX4_steppedOn_6 : decode cX4_steppedOn 6 = .ok (.getfield 15, 3) := by decide +kernel
theorem dX4_steppedOn_9 : decode cX4_steppedOn 9 = .ok (.iconst 1, 1) := by decide +kernel
theorem dX4_steppedOn_10 : decode cX4_steppedOn 10 = .ok (.if_icmp .ge 5, 3) := by decide +kernel
theorem dX4_steppedOn_13 : decode cX4_steppedOn 13 = .ok (.iconst (-1), 1) := by decide +kernel
theorem dX4_steppedOn_14 : decode cX4_steppedOn 14 = .ok (.ireturn, 1) := by decide +kernel
theorem dX4_steppedOn_15 : decode cX4_steppedOn 15 = .ok (.aload_n 0, 1) := by decide +kernel
theorem dX4_steppedOn_16 : decode cX4_steppedOn 16 = .ok (.getfield 15, 3) := by decide +kernel
theorem dX4_steppedOn_19 : decode cX4_steppedOn 19 = .ok (.iconst 1, 1) := by decide +kernel
theorem dX4_steppedOn_20 : decode cX4_steppedOn 20 = .ok (.isub, 1) := by decide +kernel
theorem dX4_steppedOn_21 : decode cX4_steppedOn 21 = .ok (.iload_n 1, 1) := by decide +kernel
theorem dX4_steppedOn_22 : decode cX4_steppedOn 22 = .ok (.idiv, 1) := by decide +kernel
theorem dX4_steppedOn_23 : decode cX4_steppedOn 23 = .ok (.istore_n 3, 1) := by decide +kernel
theorem dX4_steppedOn_24 : decode cX4_steppedOn 24 = .ok (.aload_n 0, 1) := by decide +kernel
theorem dX4_steppedOn_25 : decode cX4_steppedOn 25 = .ok (.getfield 11, 3) := by decide +kernel
theorem dX4_steppedOn_28 : decode cX4_steppedOn 28 = .ok (.iconst 0, 1) := by decide +kernel
theorem dX4_steppedOn_29 : decode cX4_steppedOn 29 = .ok (.iaload, 1) := by decide +kernel
theorem dX4_steppedOn_30 : decode cX4_steppedOn 30 = .ok (.istore 4, 2) := by decide +kernel
theorem dX4_steppedOn_32 : decode cX4_steppedOn 32 = .ok (.iconst 0, 1) := by decide +kernel
theorem dX4_steppedOn_33 : decode cX4_steppedOn 33 = .ok (.istore 5, 2) := by decide +kernel
theorem dX4_steppedOn_35 : decode cX4_steppedOn 35 = .ok (.iconst 0, 1) := by decide +kernel
theorem dX4_steppedOn_36 : decode cX4_steppedOn 36 = .ok (.istore 6, 2) := by decide +kernel
theorem dX4_steppedOn_38 : decode cX4_steppedOn 38 = .ok (.iconst 0, 1) := by decide +kernel
theorem dX4_steppedOn_39 : decode cX4_steppedOn 39 = .ok (.istore 7, 2) := by decide +kernel
theorem dX4_steppedOn_41 : decode cX4_steppedOn 41 = .ok (.iconst 1, 1) := by decide +kernel
theorem dX4_steppedOn_42 : decode cX4_steppedOn 42 = .ok (.iload_n 1, 1) := by decide +kernel
theorem dX4_steppedOn_43 : decode cX4_steppedOn 43 = .ok (.isub, 1) := by decide +kernel
theorem dX4_steppedOn_44 : decode cX4_steppedOn 44 = .ok (.istore 8, 2) := by decide +kernel
theorem dX4_steppedOn_46 : decode cX4_steppedOn 46 = .ok (.iload 8, 2) := by decide +kernel
theorem dX4_steppedOn_48 : decode cX4_steppedOn 48 = .ok (.ifCond .gt 167, 3) := by decide +kernel
theorem dX4_steppedOn_51 : decode cX4_steppedOn 51 = .ok (.iconst 0, 1) := by decide +kernel
theorem dX4_steppedOn_52 : decode cX4_steppedOn 52 = .ok (.istore 9, 2) := by decide +kernel
theorem dX4_steppedOn_54 : decode cX4_steppedOn 54 = .ok (.iconst 0, 1) := by decide +kernel
theorem dX4_steppedOn_55 : decode cX4_steppedOn 55 = .ok (.istore 10, 2) := by decide +kernel
theorem dX4_steppedOn_57 : decode cX4_steppedOn 57 = .ok (.iconst 0, 1) := by decide +kernel
theorem dX4_steppedOn_58 : decode cX4_steppedOn 58 = .ok (.istore 11, 2) := by decide +kernel
theorem dX4_steppedOn_60 : decode cX4_steppedOn 60 = .ok (.iconst 0, 1) := by decide +kernel
theorem dX4_steppedOn_61 : decode cX4_steppedOn 61 = .ok (.istore 12, 2) := by decide +kernel
theorem dX4_steppedOn_63 : decode cX4_steppedOn 63 = .ok (.iload 8, 2) := by decide +kernel
theorem dX4_steppedOn_65 : decode cX4_steppedOn 65 = .ok (.iload_n 1, 1) := by decide +kernel
theorem dX4_steppedOn_66 : decode cX4_steppedOn 66 = .ok (.iadd, 1) := by decide +kernel
theorem dX4_steppedOn_67 : decode cX4_steppedOn 67 = .ok (.istore 13, 2) := by decide +kernel
theorem dX4_steppedOn_69 : decode cX4_steppedOn 69 = .ok (.iload 13, 2) := by decide +kernel
theorem dX4_steppedOn_71 : decode cX4_steppedOn 71 = .ok (.aload_n 0, 1) := by decide +kernel
theorem dX4_steppedOn_72 : decode cX4_steppedOn 72 = .ok (.getfield 15, 3) := by decide +kernel
theorem dX4_steppedOn_75 : decode cX4_steppedOn 75 = .ok (.if_icmp .ge 78, 3) := by decide +kernel
theorem dX4_steppedOn_78 : decode cX4_steppedOn 78 = .ok (.iload 13, 2) := by decide +kernel
theorem dX4_steppedOn_80 : decode cX4_steppedOn 80 = .ok (.bipush 60, 2) := by decide +kernel
theorem dX4_steppedOn_82 : decode cX4_steppedOn 82 = .ok (.if_icmp .ge 71, 3) := by decide +kernel
theorem dX4_steppedOn_85 : decode cX4_steppedOn 85 = .ok (.iload 9, 2) := by decide +kernel
theorem dX4_steppedOn_87 : decode cX4_steppedOn 87 = .ok (.iload 13, 2) := by decide +kernel
theorem dX4_steppedOn_89 : decode cX4_steppedOn 89 = .ok (.ifCond .le 23, 3) := by decide +kernel
theorem dX4_steppedOn_92 : decode cX4_steppedOn 92 = .ok (.aload_n 0, 1) := by decide +kernel
theorem dX4_steppedOn_93 : decode cX4_steppedOn 93 = .ok (.getfield 11, 3) := by decide +kernel
theorem dX4_steppedOn_96 : decode cX4_steppedOn 96 = .ok (.iload 13, 2) := by decide +kernel
theorem dX4_steppedOn_98 : decode cX4_steppedOn 98 = .ok (.iaload, 1) := by decide +kernel
theorem dX4_steppedOn_99 : decode cX4_steppedOn 99 = .ok (.aload_n 0, 1) := by decide +kernel
theorem dX4_steppedOn_100 : decode cX4_steppedOn 100 = .ok (.getfield 11, 3) := by decide +kernel
theorem dX4_steppedOn_103 : decode cX4_steppedOn 103 = .ok (.iload 13, 2) := by decide +kernel
theorem dX4_steppedOn_105 : decode cX4_steppedOn 105 = .ok (.iconst 1, 1) := by decide +kernel
theorem dX4_steppedOn_106 : decode cX4_steppedOn 106 = .ok (.isub, 1) := by decide +kernel
theorem dX4_steppedOn_107 : decode cX4_steppedOn 107 = .ok (.iaload, 1) := by decide +kernel
theorem dX4_steppedOn_108 : decode cX4_steppedOn 108 = .ok (.isub, 1) := by decide +kernel
theorem dX4_steppedOn_109 : decode cX4_steppedOn 109 = .ok (.goto 4, 3) := by decide +kernel
theorem dX4_steppedOn_112 : decode cX4_steppedOn 112 = .ok (.iconst 0, 1) := by decide +kernel
theorem dX4_steppedOn_113 : decode cX4_steppedOn 113 = .ok (.iadd, 1) := by decide +kernel
theorem dX4_steppedOn_114 : decode cX4_steppedOn 114 = .ok (.istore 9, 2) := by decide +kernel
theorem dX4_steppedOn_116 : decode cX4_steppedOn 116 = .ok (.iload 10, 2) := by decide +kernel
theorem dX4_steppedOn_118 : decode cX4_steppedOn 118 = .ok (.iload 9, 2) := by decide +kernel
theorem dX4_steppedOn_120 : decode cX4_steppedOn 120 = .ok (.invokestatic 25, 3) := by decide +kernel
theorem dX4_steppedOn_123 : decode cX4_steppedOn 123 = .ok (.istore 10, 2) := by decide +kernel
theorem dX4_steppedOn_125 : decode cX4_steppedOn 125 = .ok (.iload 11, 2) := by decide +kernel
theorem dX4_steppedOn_127 : decode cX4_steppedOn 127 = .ok (.iload 9, 2) := by decide +kernel
theorem dX4_steppedOn_129 : decode cX4_steppedOn 129 = .ok (.invokestatic 31, 3) := by decide +kernel
theorem dX4_steppedOn_132 : decode cX4_steppedOn 132 = .ok (.istore 11, 2) := by decide +kernel
theorem dX4_steppedOn_134 : decode cX4_steppedOn 134 = .ok (.iload 7, 2) := by decide +kernel
theorem dX4_steppedOn_136 : decode cX4_steppedOn 136 = .ok (.iload 9, 2) := by decide +kernel
theorem dX4_steppedOn_138 : decode cX4_steppedOn 138 = .ok (.iadd, 1) := by decide +kernel
theorem dX4_steppedOn_139 : decode cX4_steppedOn 139 = .ok (.istore 7, 2) := by decide +kernel
theorem dX4_steppedOn_141 : decode cX4_steppedOn 141 = .ok (.iinc 12 1, 3) := by decide +kernel
theorem dX4_steppedOn_144 : decode cX4_steppedOn 144 = .ok (.iload 13, 2) := by decide +kernel
theorem dX4_steppedOn_146 : decode cX4_steppedOn 146 = .ok (.iload_n 1, 1) := by decide +kernel
theorem dX4_steppedOn_147 : decode cX4_steppedOn 147 = .ok (.iadd, 1) := by decide +kernel
theorem dX4_steppedOn_148 : decode cX4_steppedOn 148 = .ok (.istore 13, 2) := by decide +kernel
theorem dX4_steppedOn_150 : decode cX4_steppedOn 150 = .ok (.goto (-81), 3) := by decide +kernel
theorem dX4_steppedOn_153 : decode cX4_steppedOn 153 = .ok (.iconst 2, 1) := by decide +kernel
theorem dX4_steppedOn_154 : decode cX4_steppedOn 154 = .ok (.iload 11, 2) := by decide +kernel
theorem dX4_steppedOn_156 : decode cX4_steppedOn 156 = .ok (.isub, 1) := by decide +kernel
theorem dX4_steppedOn_157 : decode cX4_steppedOn 157 = .ok (.iload 10, 2) := by decide +kernel
theorem dX4_steppedOn_159 : decode cX4_steppedOn 159 = .ok (.iadd, 1) := by decide +kernel
theorem dX4_steppedOn_160 : decode cX4_steppedOn 160 = .ok (.istore 13, 2) := by decide +kernel
theorem dX4_steppedOn_162 : decode cX4_steppedOn 162 = .ok (.iload 13, 2) := by decide +kernel
theorem dX4_steppedOn_164 : decode cX4_steppedOn 164 = .ok (.ifCond .ge 5, 3) := by decide +kernel
theorem dX4_steppedOn_167 : decode cX4_steppedOn 167 = .ok (.iconst (-1), 1) := by decide +kernel
theorem dX4_steppedOn_168 : decode cX4_steppedOn 168 = .ok (.ireturn, 1) := by decide +kernel
theorem dX4_steppedOn_169 : decode cX4_steppedOn 169 = .ok (.iload 4, 2) := by decide +kernel
theorem dX4_steppedOn_171 : decode cX4_steppedOn 171 = .ok (.iload 10, 2) := by decide +kernel
theorem dX4_steppedOn_173 : decode cX4_steppedOn 173 = .ok (.iadd, 1) := by decide +kernel
theorem dX4_steppedOn_174 : decode cX4_steppedOn 174 = .ok (.istore 4, 2) := by decide +kernel
theorem dX4_steppedOn_176 : decode cX4_steppedOn 176 = .ok (.iload 7, 2) := by decide +kernel
theorem dX4_steppedOn_178 : decode cX4_steppedOn 178 = .ok (.iload 10, 2) := by decide +kernel
theorem dX4_steppedOn_180 : decode cX4_steppedOn 180 = .ok (.iload 12, 2) := by decide +kernel
theorem dX4_steppedOn_182 : decode cX4_steppedOn 182 = .ok (.imul, 1) := by decide +kernel
theorem dX4_steppedOn_183 : decode cX4_steppedOn 183 = .ok (.isub, 1) := by decide +kernel
theorem dX4_steppedOn_184 : decode cX4_steppedOn 184 = .ok (.istore 7, 2) := by decide +kernel
theorem dX4_steppedOn_186 : decode cX4_steppedOn 186 = .ok (.iload 12, 2) := by decide +kernel
theorem dX4_steppedOn_188 : decode cX4_steppedOn 188 = .ok (.iload_n 3, 1) := by decide +kernel
theorem dX4_steppedOn_189 : decode cX4_steppedOn 189 = .ok (.if_icmp .le 13, 3) := by decide +kernel
theorem dX4_steppedOn_192 : decode cX4_steppedOn 192 = .ok (.iload 5, 2) := by decide +kernel
theorem dX4_steppedOn_194 : decode cX4_steppedOn 194 = .ok (.iload 13, 2) := by decide +kernel
theorem dX4_steppedOn_196 : decode cX4_steppedOn 196 = .ok (.iadd, 1) := by decide +kernel
theorem dX4_steppedOn_197 : decode cX4_steppedOn 197 = .ok (.istore 5, 2) := by decide +kernel
theorem dX4_steppedOn_199 : decode cX4_steppedOn 199 = .ok (.goto 10, 3) := by decide +kernel
theorem dX4_steppedOn_202 : decode cX4_steppedOn 202 = .ok (.iload 6, 2) := by decide +kernel
theorem dX4_steppedOn_204 : decode cX4_steppedOn 204 = .ok (.iload 13, 2) := by decide +kernel
theorem dX4_steppedOn_206 : decode cX4_steppedOn 206 = .ok (.iadd, 1) := by decide +kernel
theorem dX4_steppedOn_207 : decode cX4_steppedOn 207 = .ok (.istore 6, 2) := by decide +kernel
theorem dX4_steppedOn_209 : decode cX4_steppedOn 209 = .ok (.iinc 8 1, 3) := by decide +kernel
theorem dX4_steppedOn_212 : decode cX4_steppedOn 212 = .ok (.goto (-166), 3) := by decide +kernel
theorem dX4_steppedOn_215 : decode cX4_steppedOn 215 = .ok (.iload 4, 2) := by decide +kernel
theorem dX4_steppedOn_217 : decode cX4_steppedOn 217 = .ok (.ifCond .lt 13, 3) := by decide +kernel
theorem dX4_steppedOn_220 : decode cX4_steppedOn 220 = .ok (.iload 4, 2) := by decide +kernel
theorem dX4_steppedOn_222 : decode cX4_steppedOn 222 = .ok (.iload 5, 2) := by decide +kernel
theorem dX4_steppedOn_224 : decode cX4_steppedOn 224 = .ok (.iload 6, 2) := by decide +kernel
theorem dX4_steppedOn_226 : decode cX4_steppedOn 226 = .ok (.iadd, 1) := by decide +kernel
theorem dX4_steppedOn_227 : decode cX4_steppedOn 227 = .ok (.if_icmp .le 5, 3) := by decide +kernel
theorem dX4_steppedOn_230 : decode cX4_steppedOn 230 = .ok (.iconst (-1), 1) := by decide +kernel
theorem dX4_steppedOn_231 : decode cX4_steppedOn 231 = .ok (.ireturn, 1) := by decide +kernel
theorem dX4_steppedOn_232 : decode cX4_steppedOn 232 = .ok (.iload_n 2, 1) := by decide +kernel
theorem dX4_steppedOn_233 : decode cX4_steppedOn 233 = .ok (.ifCond .eq 13, 3) := by decide +kernel
theorem dX4_steppedOn_236 : decode cX4_steppedOn 236 = .ok (.iload 4, 2) := by decide +kernel
theorem dX4_steppedOn_238 : decode cX4_steppedOn 238 = .ok (.iload 5, 2) := by decide +kernel
theorem dX4_steppedOn_240 : decode cX4_steppedOn 240 = .ok (.invokestatic 25, 3) := by decide +kernel
theorem dX4_steppedOn_243 : decode cX4_steppedOn 243 = .ok (.goto 12, 3) := by decide +kernel
theorem dX4_steppedOn_246 : decode cX4_steppedOn 246 = .ok (.iconst 0, 1) := by decide +kernel
theorem dX4_steppedOn_247 : decode cX4_steppedOn 247 = .ok (.iload 4, 2) := by decide +kernel
theorem dX4_steppedOn_249 : decode cX4_steppedOn 249 = .ok (.iload 6, 2) := by decide +kernel
theorem dX4_steppedOn_251 : decode cX4_steppedOn 251 = .ok (.isub, 1) := by decide +kernel
theorem dX4_steppedOn_252 : decode cX4_steppedOn 252 = .ok (.invokestatic 31, 3) := by decide +kernel
theorem dX4_steppedOn_255 : decode cX4_steppedOn 255 = .ok (.istore 8, 2) := by decide +kernel
theorem dX4_steppedOn_257 : decode cX4_steppedOn 257 = .ok (.iload 7, 2) := by decide +kernel
theorem dX4_steppedOn_259 : decode cX4_steppedOn 259 = .ok (.iload 4, 2) := by decide +kernel
theorem dX4_steppedOn_261 : decode cX4_steppedOn 261 = .ok (.iload_n 3, 1) := by decide +kernel
theorem dX4_steppedOn_262 : decode cX4_steppedOn 262 = .ok (.imul, 1) := by decide +kernel
theorem dX4_steppedOn_263 : decode cX4_steppedOn 263 = .ok (.iadd, 1) := by decide +kernel
theorem dX4_steppedOn_264 : decode cX4_steppedOn 264 = .ok (.iload 8, 2) := by decide +kernel
theorem dX4_steppedOn_266 : decode cX4_steppedOn 266 = .ok (.iadd, 1) := by decide +kernel
theorem dX4_steppedOn_267 : decode cX4_steppedOn 267 = .ok (.ireturn, 1) := by decide +kernel
theorem dX11_taken_0 : decode cX11_taken 0 = .ok (.iload_n 1, 1) := by decide +kernel
theorem dX11_taken_1 : decode cX11_taken 1 = .ok (.iconst 2, 1) := by decide +kernel
theorem dX11_taken_2 : decode cX11_taken 2 = .ok (.bipush 40, 2) := by decide +kernel
theorem dX11_taken_4 : decode cX11_taken 4 = .ok (.invokestatic 47, 3) := by decide +kernel
theorem dX11_taken_7 : decode cX11_taken 7 = .ok (.ifCond .eq 18, 3) := by decide +kernel
theorem dX11_taken_10 : decode cX11_taken 10 = .ok (.aload_n 0, 1) := by decide +kernel
theorem dX11_taken_11 : decode cX11_taken 11 = .ok (.getfield 10, 3) := by decide +kernel
theorem dX11_taken_14 : decode cX11_taken 14 = .ok (.getfield 301, 3) := by decide +kernel
theorem dX11_taken_17 : decode cX11_taken 17 = .ok (.iload_n 1, 1) := by decide +kernel
theorem dX11_taken_18 : decode cX11_taken 18 = .ok (.iload_n 2, 1) := by decide +kernel
theorem dX11_taken_19 : decode cX11_taken 19 = .ok (.invokevirtual 310, 3) := by decide +kernel
theorem dX11_taken_22 : decode cX11_taken 22 = .ok (.goto 4, 3) := by decide +kernel
theorem dX11_taken_25 : decode cX11_taken 25 = .ok (.iconst (-1), 1) := by decide +kernel
theorem dX11_taken_26 : decode cX11_taken 26 = .ok (.ireturn, 1) := by decide +kernel
theorem dX12_chain_0 : decode cX12_chain 0 = .ok (.iload_n 3, 1) := by decide +kernel
theorem dX12_chain_1 : decode cX12_chain 1 = .ok (.istore 4, 2) := by decide +kernel
theorem dX12_chain_3 : decode cX12_chain 3 = .ok (.iconst 0, 1) := by decide +kernel
theorem dX12_chain_4 : decode cX12_chain 4 = .ok (.istore 5, 2) := by decide +kernel
theorem dX12_chain_6 : decode cX12_chain 6 = .ok (.iload_n 2, 1) := by decide +kernel
theorem dX12_chain_7 : decode cX12_chain 7 = .ok (.istore 6, 2) := by decide +kernel
theorem dX12_chain_9 : decode cX12_chain 9 = .ok (.iload 6, 2) := by decide +kernel
theorem dX12_chain_11 : decode cX12_chain 11 = .ok (.aload_n 0, 1) := by decide +kernel
theorem dX12_chain_12 : decode cX12_chain 12 = .ok (.getfield 7, 3) := by decide +kernel
theorem dX12_chain_15 : decode cX12_chain 15 = .ok (.bipush 8, 2) := by decide +kernel
theorem dX12_chain_17 : decode cX12_chain 17 = .ok (.iaload, 1) := by decide +kernel
theorem dX12_chain_18 : decode cX12_chain 18 = .ok (.if_icmp .ge 61, 3) := by decide +kernel
theorem dX12_chain_21 : decode cX12_chain 21 = .ok (.iload 4, 2) := by decide +kernel
theorem dX12_chain_23 : decode cX12_chain 23 = .ok (.aload_n 0, 1) := by decide +kernel
theorem dX12_chain_24 : decode cX12_chain 24 = .ok (.getfield 7, 3) := by decide +kernel
theorem dX12_chain_27 : decode cX12_chain 27 = .ok (.sipush 1550, 3) := by decide +kernel
theorem dX12_chain_30 : decode cX12_chain 30 = .ok (.iload 6, 2) := by decide +kernel
theorem dX12_chain_32 : decode cX12_chain 32 = .ok (.iadd, 1) := by decide +kernel
theorem dX12_chain_33 : decode cX12_chain 33 = .ok (.iaload, 1) := by decide +kernel
theorem dX12_chain_34 : decode cX12_chain 34 = .ok (.aload_n 0, 1) := by decide +kernel
theorem dX12_chain_35 : decode cX12_chain 35 = .ok (.getfield 7, 3) := by decide +kernel
theorem dX12_chain_38 : decode cX12_chain 38 = .ok (.sipush 1550, 3) := by decide +kernel
theorem dX12_chain_41 : decode cX12_chain 41 = .ok (.iload 6, 2) := by decide +kernel
theorem dX12_chain_43 : decode cX12_chain 43 = .ok (.iadd, 1) := by decide +kernel
theorem dX12_chain_44 : decode cX12_chain 44 = .ok (.iconst 1, 1) := by decide +kernel
theorem dX12_chain_45 : decode cX12_chain 45 = .ok (.isub, 1) := by decide +kernel
theorem dX12_chain_46 : decode cX12_chain 46 = .ok (.iaload, 1) := by decide +kernel
theorem dX12_chain_47 : decode cX12_chain 47 = .ok (.isub, 1) := by decide +kernel
theorem dX12_chain_48 : decode cX12_chain 48 = .ok (.iadd, 1) := by decide +kernel
theorem dX12_chain_49 : decode cX12_chain 49 = .ok (.istore 4, 2) := by decide +kernel
theorem dX12_chain_51 : decode cX12_chain 51 = .ok (.iload 4, 2) := by decide +kernel
theorem dX12_chain_53 : decode cX12_chain 53 = .ok (.iconst 0, 1) := by decide +kernel
theorem dX12_chain_54 : decode cX12_chain 54 = .ok (.iconst 2, 1) := by decide +kernel
theorem dX12_chain_55 : decode cX12_chain 55 = .ok (.invokestatic 95, 3) := by decide +kernel
theorem dX12_chain_58 : decode cX12_chain 58 = .ok (.ifCond .ne 5, 3) := by decide +kernel
theorem dX12_chain_61 : decode cX12_chain 61 = .ok (.iconst (-1), 1) := by decide +kernel
theorem dX12_chain_62 : decode cX12_chain 62 = .ok (.ireturn, 1) := by decide +kernel
theorem dX12_chain_63 : decode cX12_chain 63 = .ok (.iload 5, 2) := by decide +kernel
theorem dX12_chain_65 : decode cX12_chain 65 = .ok (.iload 4, 2) := by decide +kernel
theorem dX12_chain_67 : decode cX12_chain 67 = .ok (.iadd, 1) := by decide +kernel
theorem dX12_chain_68 : decode cX12_chain 68 = .ok (.istore 5, 2) := by decide +kernel
theorem dX12_chain_70 : decode cX12_chain 70 = .ok (.iload 6, 2) := by decide +kernel
theorem dX12_chain_72 : decode cX12_chain 72 = .ok (.iload_n 1, 1) := by decide +kernel
theorem dX12_chain_73 : decode cX12_chain 73 = .ok (.iadd, 1) := by decide +kernel
theorem dX12_chain_74 : decode cX12_chain 74 = .ok (.istore 6, 2) := by decide +kernel
theorem dX12_chain_76 : decode cX12_chain 76 = .ok (.goto (-67), 3) := by decide +kernel
theorem dX12_chain_79 : decode cX12_chain 79 = .ok (.iload 5, 2) := by decide +kernel
theorem dX12_chain_81 : decode cX12_chain 81 = .ok (.ireturn, 1) := by decide +kernel
def fX12_countsBy_15 (a0 : Nat) (a1 : Int32) (a2 : Int32) (a3 : Int32) : Nat → Int32 → Int32 → Int32 → Int32 → Int32 → xMem → Option (Int32 × xMem)
  | 0, _, _, _, _, _, _ => none
  | fuel + 1, l4, l5, l6, l7, l8, m => if a2 ≤ l8 then some (l6, m) else bif !decide (a2 = 0) then xLet (l7 / a2) fun x2 => bif !decide (x2 = 0) then xLet (a1 / x2) fun x4 => bif !decide (a2 = 0) then xLet (xRem x4 a2) fun x6 => xLet (l4 >>> (x6 &&& 31)) fun x8 => xLet (x8 &&& (1 : Int32)) fun x9 => if ¬ x9 = (1 : Int32) then xLet ((1 : Int32) <<< (x6 &&& 31)) fun x11 => xLet (l4 ||| x11) fun x12 => (fX12_aboveOf a0 x6 l5 m).bind fun p13 => xLet (l6 + p13.1) fun x14 => xLet ((4 : Int32) * x6) fun x15 => xLet ((1520 : Int32) + x15) fun x16 => xLet (x16 + (3 : Int32)) fun x17 => bif xIn x17 1610 then xLet (p13.2.1 (a0 + 1) x17.toNatClampNeg) fun x18 => xLet (l5 + x18) fun x20 => xLet (l8 + (1 : Int32)) fun x21 => fX12_countsBy_15 a0 a1 a2 a3 fuel x12 x20 x14 x2 x21 p13.2 else none else some ((-1 : Int32), m) else none else none else none
set_option maxRecDepth 4000 in
theorem fX12_countsBy_15_ok {a0 : Nat} {a1 : Int32} {a2 : Int32} {a3 : Int32} {d : Nat} (hd : 1 ≤ d) (ha0 : isModel a0) : ∀ (fuel : Nat) (l4 : Int32) (l5 : Int32) (l6 : Int32) (l7 : Int32) (l8 : Int32) (o9 : Option Value) (q9 : xNoD o9 = true) (m : xMem) (r : (Int32 × xMem)), fX12_countsBy_15 a0 a1 a2 a3 fuel l4 l5 l6 l7 l8 m = some r → xFx hh_252 cX12_countsBy d 15 [some (.ref a0), some (.int a1), some (.int a2), some (.int a3), some (.int l4), some (.int l5), some (.int l6), some (.int l7), some (.int l8), o9] [] (xLay m) 0 0 (some (.int r.1)) (xLay r.2) := by
  intro fuel
  induction fuel with
  | zero => intro l4 l5 l6 l7 l8 o9 q9 m r  h; cases h
  | succ fuel ih =>
    intro l4 l5 l6 l7 l8 o9 q9 m r  h
    unfold fX12_countsBy_15 at h
    refine fx_iload dX12_countsBy_15 rfl rfl ?_
    refine fx_iload_n dX12_countsBy_17 rfl rfl ?_
    refine fx_icmp_ge (t := 96) dX12_countsBy_18 rfl rfl (fun hc1 => ?_) (fun hc1 => ?_)
    · rw [if_pos hc1] at h
      refine fx_iload dX12_countsBy_96 rfl rfl ?_
      cases h
      exact fx_ireturn dX12_countsBy_98 rfl rfl
    · rw [if_neg hc1] at h
      refine fx_iload dX12_countsBy_21 rfl rfl ?_
      refine fx_iload_n dX12_countsBy_23 rfl rfl ?_
      obtain ⟨hz3, h⟩ := xChk_el h
      obtain ⟨x2, hx2, h⟩ := xLet_el h
      refine fx_idiv dX12_countsBy_24 rfl (by simpa using hz3) hx2 ?_
      refine fx_istore (ls2 := [some (.ref a0), some (.int a1), some (.int a2), some (.int a3), some (.int l4), some (.int l5), some (.int l6), some (.int x2), some (.int l8), o9]) dX12_countsBy_25 rfl rfl rfl ?_
      refine fx_iload_n dX12_countsBy_27 rfl rfl ?_
      refine fx_iload dX12_countsBy_28 rfl rfl ?_
      obtain ⟨hz5, h⟩ := xChk_el h
      obtain ⟨x4, hx4, h⟩ := xLet_el h
      refine fx_idiv dX12_countsBy_30 rfl (by simpa using hz5) hx4 ?_
      refine fx_iload_n dX12_countsBy_31 rfl rfl ?_
      obtain ⟨hz7, h⟩ := xChk_el h
      obtain ⟨x6, hx6, h⟩ := xLet_el h
      refine fx_irem dX12_countsBy_32 rfl (by simpa using hz7) hx6 ?_
      refine fx_istore (ls2 := [some (.ref a0), some (.int a1), some (.int a2), some (.int a3), some (.int l4), some (.int l5), some (.int l6), some (.int x2), some (.int l8), some (.int x6)]) dX12_countsBy_33 rfl rfl rfl ?_
      refine fx_iload dX12_countsBy_35 rfl rfl ?_
      refine fx_iload dX12_countsBy_37 rfl rfl ?_
      obtain ⟨x8, hx8, h⟩ := xLet_el h
      refine fx_ishr dX12_countsBy_39 rfl hx8 ?_
      refine fx_iconst (x := 1) dX12_countsBy_40 rfl (by decide) ?_
      obtain ⟨x9, hx9, h⟩ := xLet_el h
      refine fx_iand dX12_countsBy_41 rfl hx9 ?_
      refine fx_iconst (x := 1) dX12_countsBy_42 rfl (by decide) ?_
      refine fx_icmp_ne (t := 48) dX12_countsBy_43 rfl rfl (fun hc10 => ?_) (fun hc10 => ?_)
      · rw [if_pos hc10] at h
        refine fx_iload dX12_countsBy_48 rfl rfl ?_
        refine fx_iconst (x := 1) dX12_countsBy_50 rfl (by decide) ?_
        refine fx_iload dX12_countsBy_51 rfl rfl ?_
        obtain ⟨x11, hx11, h⟩ := xLet_el h
        refine fx_ishl dX12_countsBy_53 rfl hx11 ?_
        obtain ⟨x12, hx12, h⟩ := xLet_el h
        refine fx_ior dX12_countsBy_54 rfl hx12 ?_
        refine fx_istore (ls2 := [some (.ref a0), some (.int a1), some (.int a2), some (.int a3), some (.int x12), some (.int l5), some (.int l6), some (.int x2), some (.int l8), some (.int x6)]) dX12_countsBy_55 rfl rfl rfl ?_
        refine fx_iload dX12_countsBy_57 rfl rfl ?_
        refine fx_aload_n dX12_countsBy_59 rfl rfl ?_
        refine fx_iload dX12_countsBy_60 rfl rfl ?_
        refine fx_iload dX12_countsBy_62 rfl rfl ?_
        obtain ⟨p13, ep13, h⟩ := xBind_el h
        refine gx_callv (as := [.int x6, .int l5]) (r := [.int l6]) rfl dX12_countsBy_64 ca_12_417 rfl me_253 rfl rfl rfl rfl (ha0.1) rfl (fX12_aboveOf_ok (d := d) (by omega) ha0 ep13) rfl rfl ?_
        obtain ⟨x14, hx14, h⟩ := xLet_el h
        refine fx_iadd dX12_countsBy_67 rfl hx14 ?_
        refine fx_istore (ls2 := [some (.ref a0), some (.int a1), some (.int a2), some (.int a3), some (.int x12), some (.int l5), some (.int x14), some (.int x2), some (.int l8), some (.int x6)]) dX12_countsBy_68 rfl rfl rfl ?_
        refine fx_iload dX12_countsBy_70 rfl rfl ?_
        refine fx_aload_n dX12_countsBy_72 rfl rfl ?_
        refine gx_getr dX12_countsBy_73 rfl fd_12_7 ha0.1 rfl rfl ?_
        refine fx_sipush (x := 1520) dX12_countsBy_76 rfl (by decide) ?_
        refine fx_iconst (x := 4) dX12_countsBy_79 rfl (by decide) ?_
        refine fx_iload dX12_countsBy_80 rfl rfl ?_
        obtain ⟨x15, hx15, h⟩ := xLet_el h
        refine fx_imul dX12_countsBy_82 rfl hx15 ?_
        obtain ⟨x16, hx16, h⟩ := xLet_el h
        refine fx_iadd dX12_countsBy_83 rfl hx16 ?_
        refine fx_iconst (x := 3) dX12_countsBy_84 rfl (by decide) ?_
        obtain ⟨x17, hx17, h⟩ := xLet_el h
        refine fx_iadd dX12_countsBy_85 rfl hx17 ?_
        obtain ⟨hj19, h⟩ := xChk_el h
        obtain ⟨x18, hx18, h⟩ := xLet_el h
        refine gx_iaload dX12_countsBy_86 rfl ha0.2.1 hj19 hx18 ?_
        obtain ⟨x20, hx20, h⟩ := xLet_el h
        refine fx_iadd dX12_countsBy_87 rfl hx20 ?_
        refine fx_istore (ls2 := [some (.ref a0), some (.int a1), some (.int a2), some (.int a3), some (.int x12), some (.int x20), some (.int x14), some (.int x2), some (.int l8), some (.int x6)]) dX12_countsBy_88 rfl rfl rfl ?_
        obtain ⟨x21, hx21, h⟩ := xLet_el h
        refine fx_iinc (ls2 := [some (.ref a0), some (.int a1), some (.int a2), some (.int a3), some (.int x12), some (.int x20), some (.int x14), some (.int x2), some (.int x21), some (.int x6)]) dX12_countsBy_90 rfl rfl rfl hx21 rfl ?_
        refine fx_goto (t := 15) dX12_countsBy_93 rfl rfl ?_
        exact ih x12 x20 x14 x2 x21 (some (.int x6)) rfl p13.2 r h
      · rw [if_neg hc10] at h
        refine fx_iconst (x := -1) dX12_countsBy_46 rfl (by decide) ?_
        cases h
        exact fx_ireturn dX12_countsBy_47 rfl rfl
def fX12_countsBy_0 (a0 : Nat) (a1 : Int32) (a2 : Int32) (a3 : Int32) (m : xMem) : Option (Int32 × xMem) := fX12_countsBy_15 a0 a1 a2 a3 xFuel (0 : Int32) (0 : Int32) (0 : Int32) a3 (0 : Int32) m
set_option maxRecDepth 4000 in
theorem fX12_countsBy_0_ok {a0 : Nat} {a1 : Int32} {a2 : Int32} {a3 : Int32} {d : Nat} (hd : 1 ≤ d) (ha0 : isModel a0) {o4 : Option Value} {o5 : Option Value} {o6 : Option Value} {o7 : Option Value} {o8 : Option Value} {o9 : Option Value} {m : xMem} {r : (Int32 × xMem)} (q4 : xNoD o4 = true) (q5 : xNoD o5 = true) (q6 : xNoD o6 = true) (q7 : xNoD o7 = true) (q8 : xNoD o8 = true) (q9 : xNoD o9 = true) (h : fX12_countsBy_0 a0 a1 a2 a3 m = some r) : xFx hh_252 cX12_countsBy d 0 [some (.ref a0), some (.int a1), some (.int a2), some (.int a3), o4, o5, o6, o7, o8, o9] [] (xLay m) 0 0 (some (.int r.1)) (xLay r.2) := by
  unfold fX12_countsBy_0 at h
  refine fx_iconst (x := 0) dX12_countsBy_0 rfl (by decide) ?_
  refine fx_istore (ls2 := [some (.ref a0), some (.int a1), some (.int a2), some (.int a3), some (.int (0 : Int32)), o5, o6, o7, o8, o9]) dX12_countsBy_1 rfl rfl rfl ?_
  refine fx_iconst (x := 0) dX12_countsBy_3 rfl (by decide) ?_
  refine fx_istore (ls2 := [some (.ref a0), some (.int a1), some (.int a2), some (.int a3), some (.int (0 : Int32)), some (.int (0 : Int32)), o6, o7, o8, o9]) dX12_countsBy_4 rfl rfl rfl ?_
  refine fx_iconst (x := 0) dX12_countsBy_6 rfl (by decide) ?_
  refine fx_istore (ls2 := [some (.ref a0), some (.int a1), some (.int a2), some (.int a3), some (.int (0 : Int32)), some (.int (0 : Int32)), some (.int (0 : Int32)), o7, o8, o9]) dX12_countsBy_7 rfl rfl rfl ?_
  refine fx_iload_n dX12_countsBy_9 rfl rfl ?_
  refine fx_istore (ls2 := [some (.ref a0), some (.int a1), some (.int a2), some (.int a3), some (.int (0 : Int32)), some (.int (0 : Int32)), some (.int (0 : Int32)), some (.int a3), o8, o9]) dX12_countsBy_10 rfl rfl rfl ?_
  refine fx_iconst (x := 0) dX12_countsBy_12 rfl (by decide) ?_
  refine fx_istore (ls2 := [some (.ref a0), some (.int a1), some (.int a2), some (.int a3), some (.int (0 : Int32)), some (.int (0 : Int32)), some (.int (0 : Int32)), some (.int a3), some (.int (0 : Int32)), o9]) dX12_countsBy_13 rfl rfl rfl ?_
  exact fX12_countsBy_15_ok hd ha0 xFuel (0 : Int32) (0 : Int32) (0 : Int32) a3 (0 : Int32) (o9) q9 m r h
def fX12_countsBy (a0 : Nat) (a1 : Int32) (a2 : Int32) (a3 : Int32) (m : xMem) : Option (Int32 × xMem) := fX12_countsBy_0 a0 a1 a2 a3  m
theorem fX12_countsBy_ok {a0 : Nat} {a1 : Int32} {a2 : Int32} {a3 : Int32} {m : xMem} {r : (Int32 × xMem)} {d : Nat} (hd : 2 ≤ d) (ha0 : isModel a0) (h : fX12_countsBy a0 a1 a2 a3 m = some r) : xEx d 252 [.ref a0, .int a1, .int a2, .int a3] (xLay m) (some (.int r.1)) (xLay r.2) := by
  obtain ⟨d, rfl⟩ : ∃ q, d = q + 1 := ⟨d - 1, by omega⟩
  exact xEx_of me_252 rfl (fX12_countsBy_0_ok (d := d) (o4 := none) (o5 := none) (o6 := none) (o7 := none) (o8 := none) (o9 := none) (by omega) ha0 rfl rfl rfl rfl rfl rfl h)
def fX12_order_23 (a0 : Nat) (a1 : Int32) (m : xMem) : Option (Int32 × xMem) := some ((-1 : Int32), m)
set_option maxRecDepth 4000 in
theorem fX12_order_23_ok {a0 : Nat} {a1 : Int32} {d : Nat} (hd : 2 ≤ d) (ha0 : isModel a0) {o2 : Option Value} {o3 : Option Value} {o4 : Option Value} {o5 : Option Value} {o6 : Option Value} {o7 : Option Value} {m : xMem} {r : (Int32 × xMem)} (q2 : xNoD o2 = true) (q3 : xNoD o3 = true) (q4 : xNoD o4 = true) (q5 : xNoD o5 = true) (q6 : xNoD o6 = true) (q7 : xNoD o7 = true) (h : fX12_order_23 a0 a1 m = some r) : xFx hh_251 cX12_order d 23 [some (.ref a0), some (.int a1), o2, o3, o4, o5, o6, o7] [] (xLay m) 0 0 (some (.int r.1)) (xLay r.2) := by
  unfold fX12_order_23 at h
  refine fx_iconst (x := -1) dX12_order_23 rfl (by decide) ?_
  cases h
  exact fx_ireturn dX12_order_24 rfl rfl
def fX12_order_98 (a0 : Nat) (a1 : Int32) (rec55 : Int32 → Int32 → Int32 → Int32 → Int32 → xMem → Option (Int32 × xMem)) (l2 : Int32) (l3 : Int32) (l4 : Int32) (l5 : Int32) (l6 : Int32) (m : xMem) : Option (Int32 × xMem) := xLet (l6 + (1 : Int32)) fun x1 => rec55 l2 l3 l4 l5 x1 m
set_option maxRecDepth 4000 in
theorem fX12_order_98_ok {a0 : Nat} {a1 : Int32} {rec55 : Int32 → Int32 → Int32 → Int32 → Int32 → xMem → Option (Int32 × xMem)} {d : Nat} (hd : 2 ≤ d) (ha0 : isModel a0) (hrec55 : ∀ (l2 : Int32) (l3 : Int32) (l4 : Int32) (l5 : Int32) (l6 : Int32) (o7 : Option Value) (q7 : xNoD o7 = true) (m : xMem) (r : (Int32 × xMem)), rec55 l2 l3 l4 l5 l6 m = some r → xFx hh_251 cX12_order d 55 [some (.ref a0), some (.int a1), some (.int l2), some (.int l3), some (.int l4), some (.int l5), some (.int l6), o7] [] (xLay m) 0 0 (some (.int r.1)) (xLay r.2)) {l2 : Int32} {l3 : Int32} {l4 : Int32} {l5 : Int32} {l6 : Int32} {o7 : Option Value} {m : xMem} {r : (Int32 × xMem)} (q7 : xNoD o7 = true) (h : fX12_order_98 a0 a1 rec55 l2 l3 l4 l5 l6 m = some r) : xFx hh_251 cX12_order d 98 [some (.ref a0), some (.int a1), some (.int l2), some (.int l3), some (.int l4), some (.int l5), some (.int l6), o7] [] (xLay m) 0 0 (some (.int r.1)) (xLay r.2) := by
  unfold fX12_order_98 at h
  obtain ⟨x1, hx1, h⟩ := xLet_el h
  refine fx_iinc (ls2 := [some (.ref a0), some (.int a1), some (.int l2), some (.int l3), some (.int l4), some (.int l5), some (.int x1), o7]) dX12_order_98 rfl rfl rfl hx1 rfl ?_
  refine fx_goto (t := 55) dX12_order_101 rfl rfl ?_
  exact hrec55 l2 l3 l4 l5 x1 (o7) q7 m r h
def fX12_order_90 (a0 : Nat) (a1 : Int32) (rec55 : Int32 → Int32 → Int32 → Int32 → Int32 → xMem → Option (Int32 × xMem)) (l2 : Int32) (l3 : Int32) (l6 : Int32) (l7 : Int32) (m : xMem) : Option (Int32 × xMem) := fX12_order_98 a0 a1 rec55 l2 l3 l7 l6 l6 m
set_option maxRecDepth 4000 in
theorem fX12_order_90_ok {a0 : Nat} {a1 : Int32} {rec55 : Int32 → Int32 → Int32 → Int32 → Int32 → xMem → Option (Int32 × xMem)} {d : Nat} (hd : 2 ≤ d) (ha0 : isModel a0) (hrec55 : ∀ (l2 : Int32) (l3 : Int32) (l4 : Int32) (l5 : Int32) (l6 : Int32) (o7 : Option Value) (q7 : xNoD o7 = true) (m : xMem) (r : (Int32 × xMem)), rec55 l2 l3 l4 l5 l6 m = some r → xFx hh_251 cX12_order d 55 [some (.ref a0), some (.int a1), some (.int l2), some (.int l3), some (.int l4), some (.int l5), some (.int l6), o7] [] (xLay m) 0 0 (some (.int r.1)) (xLay r.2)) {l2 : Int32} {l3 : Int32} {l6 : Int32} {l7 : Int32} {o4 : Option Value} {o5 : Option Value} {m : xMem} {r : (Int32 × xMem)} (q4 : xNoD o4 = true) (q5 : xNoD o5 = true) (h : fX12_order_90 a0 a1 rec55 l2 l3 l6 l7 m = some r) : xFx hh_251 cX12_order d 90 [some (.ref a0), some (.int a1), some (.int l2), some (.int l3), o4, o5, some (.int l6), some (.int l7)] [] (xLay m) 0 0 (some (.int r.1)) (xLay r.2) := by
  unfold fX12_order_90 at h
  refine fx_iload dX12_order_90 rfl rfl ?_
  refine fx_istore (ls2 := [some (.ref a0), some (.int a1), some (.int l2), some (.int l3), some (.int l7), o5, some (.int l6), some (.int l7)]) dX12_order_92 rfl rfl rfl ?_
  refine fx_iload dX12_order_94 rfl rfl ?_
  refine fx_istore (ls2 := [some (.ref a0), some (.int a1), some (.int l2), some (.int l3), some (.int l7), some (.int l6), some (.int l6), some (.int l7)]) dX12_order_96 rfl rfl rfl ?_
  exact fX12_order_98_ok (o7 := some (.int l7)) hd ha0 hrec55 rfl h
def fX12_order_117 (a0 : Nat) (a1 : Int32) : Nat → Int32 → Int32 → Int32 → xMem → Option (Int32 × xMem)
  | 0, _, _, _, _ => none
  | fuel + 1, l2, l5, l6, m => if l6 ≤ a1 then bif !decide (l2 = 0) then xLet (xRem l5 l2) fun x2 => some (x2, m) else none else bif !decide (l2 = 0) then xLet (l5 / l2) fun x4 => xLet (l6 + (-1 : Int32)) fun x6 => fX12_order_117 a0 a1 fuel l2 x4 x6 m else none
set_option maxRecDepth 4000 in
theorem fX12_order_117_ok {a0 : Nat} {a1 : Int32} {d : Nat} (hd : 2 ≤ d) (ha0 : isModel a0) : ∀ (fuel : Nat) (l2 : Int32) (l5 : Int32) (l6 : Int32) (o3 : Option Value) (o4 : Option Value) (o7 : Option Value) (q3 : xNoD o3 = true) (q4 : xNoD o4 = true) (q7 : xNoD o7 = true) (m : xMem) (r : (Int32 × xMem)), fX12_order_117 a0 a1 fuel l2 l5 l6 m = some r → xFx hh_251 cX12_order d 117 [some (.ref a0), some (.int a1), some (.int l2), o3, o4, some (.int l5), some (.int l6), o7] [] (xLay m) 0 0 (some (.int r.1)) (xLay r.2) := by
  intro fuel
  induction fuel with
  | zero => intro l2 l5 l6 o3 o4 o7 q3 q4 q7 m r  h; cases h
  | succ fuel ih =>
    intro l2 l5 l6 o3 o4 o7 q3 q4 q7 m r  h
    unfold fX12_order_117 at h
    refine fx_iload dX12_order_117 rfl rfl ?_
    refine fx_iload_n dX12_order_119 rfl rfl ?_
    refine fx_icmp_le (t := 135) dX12_order_120 rfl rfl (fun hc1 => ?_) (fun hc1 => ?_)
    · rw [if_pos hc1] at h
      refine fx_iload dX12_order_135 rfl rfl ?_
      refine fx_iload_n dX12_order_137 rfl rfl ?_
      obtain ⟨hz3, h⟩ := xChk_el h
      obtain ⟨x2, hx2, h⟩ := xLet_el h
      refine fx_irem dX12_order_138 rfl (by simpa using hz3) hx2 ?_
      cases h
      exact fx_ireturn dX12_order_139 rfl rfl
    · rw [if_neg hc1] at h
      refine fx_iload dX12_order_123 rfl rfl ?_
      refine fx_iload_n dX12_order_125 rfl rfl ?_
      obtain ⟨hz5, h⟩ := xChk_el h
      obtain ⟨x4, hx4, h⟩ := xLet_el h
      refine fx_idiv dX12_order_126 rfl (by simpa using hz5) hx4 ?_
      refine fx_istore (ls2 := [some (.ref a0), some (.int a1), some (.int l2), o3, o4, some (.int x4), some (.int l6), o7]) dX12_order_127 rfl (xGd (j := 4) rfl rfl q4 rfl) rfl ?_
      obtain ⟨x6, hx6, h⟩ := xLet_el h
      refine fx_iinc (ls2 := [some (.ref a0), some (.int a1), some (.int l2), o3, o4, some (.int x4), some (.int x6), o7]) dX12_order_129 rfl rfl rfl hx6 rfl ?_
      refine fx_goto (t := 117) dX12_order_132 rfl rfl ?_
      exact ih l2 x4 x6 (o3) (o4) (o7) q3 q4 q7 m r h
def fX12_order_55 (a0 : Nat) (a1 : Int32) : Nat → Int32 → Int32 → Int32 → Int32 → Int32 → xMem → Option (Int32 × xMem)
  | 0, _, _, _, _, _, _ => none
  | fuel + 1, l2, l3, l4, l5, l6, m => if l3 ≤ l6 then if ¬ a1 = (-1 : Int32) then xLet (l2 - (1 : Int32)) fun x3 => fX12_order_117 a0 a1 xFuel l2 l5 x3 m else some (l4, m) else (fX12_countsBy a0 l6 l2 l3 m).bind fun p4 => if p4.1 = (-1 : Int32) then fX12_order_98 a0 a1 (fX12_order_55 a0 a1 fuel) l2 l3 l4 l5 l6 p4.2 else if l4 = (-1 : Int32) then fX12_order_90 a0 a1 (fX12_order_55 a0 a1 fuel) l2 l3 l6 p4.1 p4.2 else if l4 ≤ p4.1 then fX12_order_98 a0 a1 (fX12_order_55 a0 a1 fuel) l2 l3 l4 l5 l6 p4.2 else fX12_order_90 a0 a1 (fX12_order_55 a0 a1 fuel) l2 l3 l6 p4.1 p4.2
set_option maxRecDepth 4000 in
theorem fX12_order_55_ok {a0 : Nat} {a1 : Int32} {d : Nat} (hd : 2 ≤ d) (ha0 : isModel a0) : ∀ (fuel : Nat) (l2 : Int32) (l3 : Int32) (l4 : Int32) (l5 : Int32) (l6 : Int32) (o7 : Option Value) (q7 : xNoD o7 = true) (m : xMem) (r : (Int32 × xMem)), fX12_order_55 a0 a1 fuel l2 l3 l4 l5 l6 m = some r → xFx hh_251 cX12_order d 55 [some (.ref a0), some (.int a1), some (.int l2), some (.int l3), some (.int l4), some (.int l5), some (.int l6), o7] [] (xLay m) 0 0 (some (.int r.1)) (xLay r.2) := by
  intro fuel
  induction fuel with
  | zero => intro l2 l3 l4 l5 l6 o7 q7 m r  h; cases h
  | succ fuel ih =>
    intro l2 l3 l4 l5 l6 o7 q7 m r  h
    unfold fX12_order_55 at h
    refine fx_iload dX12_order_55 rfl rfl ?_
    refine fx_iload_n dX12_order_57 rfl rfl ?_
    refine fx_icmp_ge (t := 104) dX12_order_58 rfl rfl (fun hc1 => ?_) (fun hc1 => ?_)
    · rw [if_pos hc1] at h
      refine fx_iload_n dX12_order_104 rfl rfl ?_
      refine fx_iconst (x := -1) dX12_order_105 rfl (by decide) ?_
      refine fx_icmp_ne (t := 112) dX12_order_106 rfl rfl (fun hc2 => ?_) (fun hc2 => ?_)
      · rw [if_pos hc2] at h
        refine fx_iload_n dX12_order_112 rfl rfl ?_
        refine fx_iconst (x := 1) dX12_order_113 rfl (by decide) ?_
        obtain ⟨x3, hx3, h⟩ := xLet_el h
        refine fx_isub dX12_order_114 rfl hx3 ?_
        refine fx_istore (ls2 := [some (.ref a0), some (.int a1), some (.int l2), some (.int l3), some (.int l4), some (.int l5), some (.int x3), o7]) dX12_order_115 rfl rfl rfl ?_
        exact fX12_order_117_ok hd ha0 xFuel l2 l5 x3 (some (.int l3)) (some (.int l4)) (o7) rfl rfl q7 m r h
      · rw [if_neg hc2] at h
        refine fx_iload dX12_order_109 rfl rfl ?_
        cases h
        exact fx_ireturn dX12_order_111 rfl rfl
    · rw [if_neg hc1] at h
      refine fx_aload_n dX12_order_61 rfl rfl ?_
      refine fx_iload dX12_order_62 rfl rfl ?_
      refine fx_iload_n dX12_order_64 rfl rfl ?_
      refine fx_iload_n dX12_order_65 rfl rfl ?_
      obtain ⟨p4, ep4, h⟩ := xBind_el h
      refine gx_callv (as := [.int l6, .int l2, .int l3]) (r := []) rfl dX12_order_66 ca_12_414 rfl me_252 rfl rfl rfl rfl (ha0.1) rfl (fX12_countsBy_ok (d := d) (by omega) ha0 ep4) rfl rfl ?_
      refine fx_istore (ls2 := [some (.ref a0), some (.int a1), some (.int l2), some (.int l3), some (.int l4), some (.int l5), some (.int l6), some (.int p4.1)]) dX12_order_69 rfl rfl rfl ?_
      refine fx_iload dX12_order_71 rfl rfl ?_
      refine fx_iconst (x := -1) dX12_order_73 rfl (by decide) ?_
      refine fx_icmp_eq (t := 98) dX12_order_74 rfl rfl (fun hc5 => ?_) (fun hc5 => ?_)
      · rw [if_pos hc5] at h
        exact fX12_order_98_ok (o7 := some (.int p4.1)) hd ha0 ih rfl h
      · rw [if_neg hc5] at h
        refine fx_iload dX12_order_77 rfl rfl ?_
        refine fx_iconst (x := -1) dX12_order_79 rfl (by decide) ?_
        refine fx_icmp_eq (t := 90) dX12_order_80 rfl rfl (fun hc6 => ?_) (fun hc6 => ?_)
        · rw [if_pos hc6] at h
          exact fX12_order_90_ok (o4 := some (.int l4)) (o5 := some (.int l5)) hd ha0 ih rfl rfl h
        · rw [if_neg hc6] at h
          refine fx_iload dX12_order_83 rfl rfl ?_
          refine fx_iload dX12_order_85 rfl rfl ?_
          refine fx_icmp_ge (t := 98) dX12_order_87 rfl rfl (fun hc7 => ?_) (fun hc7 => ?_)
          · rw [if_pos hc7] at h
            exact fX12_order_98_ok (o7 := some (.int p4.1)) hd ha0 ih rfl h
          · rw [if_neg hc7] at h
            exact fX12_order_90_ok (o4 := some (.int l4)) (o5 := some (.int l5)) hd ha0 ih rfl rfl h
def fX12_order_30 (a0 : Nat) (a1 : Int32) : Nat → Int32 → Int32 → Int32 → xMem → Option (Int32 × xMem)
  | 0, _, _, _, _ => none
  | fuel + 1, l2, l3, l4, m => if l2 ≤ l4 then fX12_order_55 a0 a1 xFuel l2 l3 (-1 : Int32) (0 : Int32) (0 : Int32) m else xLet (l3 * l2) fun x2 => xLet (l4 + (1 : Int32)) fun x3 => fX12_order_30 a0 a1 fuel l2 x2 x3 m
set_option maxRecDepth 4000 in
theorem fX12_order_30_ok {a0 : Nat} {a1 : Int32} {d : Nat} (hd : 2 ≤ d) (ha0 : isModel a0) : ∀ (fuel : Nat) (l2 : Int32) (l3 : Int32) (l4 : Int32) (o5 : Option Value) (o6 : Option Value) (o7 : Option Value) (q5 : xNoD o5 = true) (q6 : xNoD o6 = true) (q7 : xNoD o7 = true) (m : xMem) (r : (Int32 × xMem)), fX12_order_30 a0 a1 fuel l2 l3 l4 m = some r → xFx hh_251 cX12_order d 30 [some (.ref a0), some (.int a1), some (.int l2), some (.int l3), some (.int l4), o5, o6, o7] [] (xLay m) 0 0 (some (.int r.1)) (xLay r.2) := by
  intro fuel
  induction fuel with
  | zero => intro l2 l3 l4 o5 o6 o7 q5 q6 q7 m r  h; cases h
  | succ fuel ih =>
    intro l2 l3 l4 o5 o6 o7 q5 q6 q7 m r  h
    unfold fX12_order_30 at h
    refine fx_iload dX12_order_30 rfl rfl ?_
    refine fx_iload_n dX12_order_32 rfl rfl ?_
    refine fx_icmp_ge (t := 46) dX12_order_33 rfl rfl (fun hc1 => ?_) (fun hc1 => ?_)
    · rw [if_pos hc1] at h
      refine fx_iconst (x := -1) dX12_order_46 rfl (by decide) ?_
      refine fx_istore (ls2 := [some (.ref a0), some (.int a1), some (.int l2), some (.int l3), some (.int (-1 : Int32)), o5, o6, o7]) dX12_order_47 rfl rfl rfl ?_
      refine fx_iconst (x := 0) dX12_order_49 rfl (by decide) ?_
      refine fx_istore (ls2 := [some (.ref a0), some (.int a1), some (.int l2), some (.int l3), some (.int (-1 : Int32)), some (.int (0 : Int32)), o6, o7]) dX12_order_50 rfl rfl rfl ?_
      refine fx_iconst (x := 0) dX12_order_52 rfl (by decide) ?_
      refine fx_istore (ls2 := [some (.ref a0), some (.int a1), some (.int l2), some (.int l3), some (.int (-1 : Int32)), some (.int (0 : Int32)), some (.int (0 : Int32)), o7]) dX12_order_53 rfl rfl rfl ?_
      exact fX12_order_55_ok hd ha0 xFuel l2 l3 (-1 : Int32) (0 : Int32) (0 : Int32) (o7) q7 m r h
    · rw [if_neg hc1] at h
      refine fx_iload_n dX12_order_36 rfl rfl ?_
      refine fx_iload_n dX12_order_37 rfl rfl ?_
      obtain ⟨x2, hx2, h⟩ := xLet_el h
      refine fx_imul dX12_order_38 rfl hx2 ?_
      refine fx_istore_n (ls2 := [some (.ref a0), some (.int a1), some (.int l2), some (.int x2), some (.int l4), o5, o6, o7]) dX12_order_39 rfl rfl rfl ?_
      obtain ⟨x3, hx3, h⟩ := xLet_el h
      refine fx_iinc (ls2 := [some (.ref a0), some (.int a1), some (.int l2), some (.int x2), some (.int x3), o5, o6, o7]) dX12_order_40 rfl rfl rfl hx3 rfl ?_
      refine fx_goto (t := 30) dX12_order_43 rfl rfl ?_
      exact ih l2 x2 x3 (o5) (o6) (o7) q5 q6 q7 m r h
def fX12_order_0 (a0 : Nat) (a1 : Int32) (m : xMem) : Option (Int32 × xMem) := bif xIn (7 : Int32) 1610 then xLet (m.1 (a0 + 1) (7 : Int32).toNatClampNeg) fun x1 => if x1 = (0 : Int32) then fX12_order_23 a0 a1 m else xLet (x1 - (1 : Int32)) fun x4 => (fX12_in a1 (-1 : Int32) x4 m).bind fun p5 => if ¬ p5.1 = (0 : Int32) then fX12_order_30 a0 a1 xFuel x1 (1 : Int32) (0 : Int32) p5.2 else fX12_order_23 a0 a1 p5.2 else none
set_option maxRecDepth 4000 in
theorem fX12_order_0_ok {a0 : Nat} {a1 : Int32} {d : Nat} (hd : 2 ≤ d) (ha0 : isModel a0) {o2 : Option Value} {o3 : Option Value} {o4 : Option Value} {o5 : Option Value} {o6 : Option Value} {o7 : Option Value} {m : xMem} {r : (Int32 × xMem)} (q2 : xNoD o2 = true) (q3 : xNoD o3 = true) (q4 : xNoD o4 = true) (q5 : xNoD o5 = true) (q6 : xNoD o6 = true) (q7 : xNoD o7 = true) (h : fX12_order_0 a0 a1 m = some r) : xFx hh_251 cX12_order d 0 [some (.ref a0), some (.int a1), o2, o3, o4, o5, o6, o7] [] (xLay m) 0 0 (some (.int r.1)) (xLay r.2) := by
  unfold fX12_order_0 at h
  refine fx_aload_n dX12_order_0 rfl rfl ?_
  refine gx_getr dX12_order_1 rfl fd_12_7 ha0.1 rfl rfl ?_
  refine fx_bipush (x := 7) dX12_order_4 rfl (by decide) ?_
  obtain ⟨hj2, h⟩ := xChk_el h
  obtain ⟨x1, hx1, h⟩ := xLet_el h
  refine gx_iaload dX12_order_6 rfl ha0.2.1 hj2 hx1 ?_
  refine fx_istore_n (ls2 := [some (.ref a0), some (.int a1), some (.int x1), o3, o4, o5, o6, o7]) dX12_order_7 rfl rfl rfl ?_
  refine fx_iload_n dX12_order_8 rfl rfl ?_
  refine fx_if_eq (t := 23) dX12_order_9 rfl rfl (fun hc3 => ?_) (fun hc3 => ?_)
  · rw [if_pos hc3] at h
    exact fX12_order_23_ok (o2 := some (.int x1)) (o3 := o3) (o4 := o4) (o5 := o5) (o6 := o6) (o7 := o7) hd ha0 rfl q3 q4 q5 q6 q7 h
  · rw [if_neg hc3] at h
    refine fx_iload_n dX12_order_12 rfl rfl ?_
    refine fx_iconst (x := -1) dX12_order_13 rfl (by decide) ?_
    refine fx_iload_n dX12_order_14 rfl rfl ?_
    refine fx_iconst (x := 1) dX12_order_15 rfl (by decide) ?_
    obtain ⟨x4, hx4, h⟩ := xLet_el h
    refine fx_isub dX12_order_16 rfl hx4 ?_
    obtain ⟨p5, ep5, h⟩ := xBind_el h
    refine gx_calls (as := [.int a1, .int (-1 : Int32), .int x4]) (r := []) rfl dX12_order_17 ca_12_95 rfl me_18 rfl rfl rfl rfl (fX12_in_ok (d := d) (by omega) ep5) rfl rfl ?_
    refine fx_if_ne (t := 25) dX12_order_20 rfl rfl (fun hc6 => ?_) (fun hc6 => ?_)
    · rw [if_pos hc6] at h
      refine fx_iconst (x := 1) dX12_order_25 rfl (by decide) ?_
      refine fx_istore_n (ls2 := [some (.ref a0), some (.int a1), some (.int x1), some (.int (1 : Int32)), o4, o5, o6, o7]) dX12_order_26 rfl rfl rfl ?_
      refine fx_iconst (x := 0) dX12_order_27 rfl (by decide) ?_
      refine fx_istore (ls2 := [some (.ref a0), some (.int a1), some (.int x1), some (.int (1 : Int32)), some (.int (0 : Int32)), o5, o6, o7]) dX12_order_28 rfl rfl rfl ?_
      exact fX12_order_30_ok hd ha0 xFuel x1 (1 : Int32) (0 : Int32) (o5) (o6) (o7) q5 q6 q7 p5.2 r h
    · rw [if_neg hc6] at h
      exact fX12_order_23_ok (o2 := some (.int x1)) (o3 := o3) (o4 := o4) (o5 := o5) (o6 := o6) (o7 := o7) hd ha0 rfl q3 q4 q5 q6 q7 h
def fX12_order (a0 : Nat) (a1 : Int32) (m : xMem) : Option (Int32 × xMem) := fX12_order_0 a0 a1  m
theorem fX12_order_ok {a0 : Nat} {a1 : Int32} {m : xMem} {r : (Int32 × xMem)} {d : Nat} (hd : 3 ≤ d) (ha0 : isModel a0) (h : fX12_order a0 a1 m = some r) : xEx d 251 [.ref a0, .int a1] (xLay m) (some (.int r.1)) (xLay r.2) := by
  obtain ⟨d, rfl⟩ : ∃ q, d = q + 1 := ⟨d - 1, by omega⟩
  exact xEx_of me_251 rfl (fX12_order_0_ok (d := d) (o2 := none) (o3 := none) (o4 := none) (o5 := none) (o6 := none) (o7 := none) (by omega) ha0 rfl rfl rfl rfl rfl rfl h)
def fX4_tell_16 (a0 : Nat) (a1 : Int32) (m : xMem) : Option (Int32 × xMem) := some ((-1 : Int32), m)
set_option maxRecDepth 4000 in
theorem fX4_tell_16_ok {a0 : Nat} {a1 : Int32} {d : Nat} (hd : 0 ≤ d) (ha0 : isLoads a0) {m : xMem} {r : (Int32 × xMem)} (h : fX4_tell_16 a0 a1 m = some r) : xFx hh_255 cX4_tell d 16 [some (.ref a0), some (.int a1)] [] (xLay m) 0 0 (some (.int r.1)) (xLay r.2) := by
  unfold fX4_tell_16 at h
  refine fx_iconst (x := -1) dX4_tell_16 rfl (by decide) ?_
  cases h
  exact fx_ireturn dX4_tell_17 rfl rfl
def fX4_tell_0 (a0 : Nat) (a1 : Int32) (m : xMem) : Option (Int32 × xMem) := xLet (m.1 a0 1) fun x1 => if x1 < (0 : Int32) then fX4_tell_16 a0 a1 m else xLet (m.1 a0 1) fun x3 => if x3 < (60 : Int32) then xLet (m.1 a0 1) fun x5 => bif xIn x5 60 then xLet (xPut m (a0 + 1) x5.toNatClampNeg a1) fun m6 => xLet (m6.1 a0 1) fun x8 => xLet (x8 + (1 : Int32)) fun x9 => xLet (xPut m6 a0 1 x9) fun m10 => xLet (m10.1 a0 1) fun x11 => some (x11, m10) else none else fX4_tell_16 a0 a1 m
set_option maxRecDepth 4000 in
theorem fX4_tell_0_ok {a0 : Nat} {a1 : Int32} {d : Nat} (hd : 0 ≤ d) (ha0 : isLoads a0) {m : xMem} {r : (Int32 × xMem)} (h : fX4_tell_0 a0 a1 m = some r) : xFx hh_255 cX4_tell d 0 [some (.ref a0), some (.int a1)] [] (xLay m) 0 0 (some (.int r.1)) (xLay r.2) := by
  unfold fX4_tell_0 at h
  refine fx_aload_n dX4_tell_0 rfl rfl ?_
  obtain ⟨x1, hx1, h⟩ := xLet_el h
  refine gx_get dX4_tell_1 rfl fd_4_15 ha0.1 rfl rfl hx1 ?_
  refine fx_if_lt (t := 16) dX4_tell_4 rfl rfl (fun hc2 => ?_) (fun hc2 => ?_)
  · rw [if_pos hc2] at h
    exact fX4_tell_16_ok hd ha0 h
  · rw [if_neg hc2] at h
    refine fx_aload_n dX4_tell_7 rfl rfl ?_
    obtain ⟨x3, hx3, h⟩ := xLet_el h
    refine gx_get dX4_tell_8 rfl fd_4_15 ha0.1 rfl rfl hx3 ?_
    refine fx_bipush (x := 60) dX4_tell_11 rfl (by decide) ?_
    refine fx_icmp_lt (t := 18) dX4_tell_13 rfl rfl (fun hc4 => ?_) (fun hc4 => ?_)
    · rw [if_pos hc4] at h
      refine fx_aload_n dX4_tell_18 rfl rfl ?_
      refine gx_getr dX4_tell_19 rfl fd_4_11 ha0.1 rfl rfl ?_
      refine fx_aload_n dX4_tell_22 rfl rfl ?_
      obtain ⟨x5, hx5, h⟩ := xLet_el h
      refine gx_get dX4_tell_23 rfl fd_4_15 ha0.1 rfl rfl hx5 ?_
      refine fx_iload_n dX4_tell_26 rfl rfl ?_
      obtain ⟨hj7, h⟩ := xChk_el h
      obtain ⟨m6, hm6, h⟩ := xLet_el h
      refine gx_iastore dX4_tell_27 rfl ha0.2 hj7 hm6 ?_
      refine fx_aload_n dX4_tell_28 rfl rfl ?_
      refine fx_dup dX4_tell_29 rfl rfl ?_
      obtain ⟨x8, hx8, h⟩ := xLet_el h
      refine gx_get dX4_tell_30 rfl fd_4_15 ha0.1 rfl rfl hx8 ?_
      refine fx_iconst (x := 1) dX4_tell_33 rfl (by decide) ?_
      obtain ⟨x9, hx9, h⟩ := xLet_el h
      refine fx_iadd dX4_tell_34 rfl hx9 ?_
      obtain ⟨m10, hm10, h⟩ := xLet_el h
      refine gx_put dX4_tell_35 rfl fd_4_15 ha0.1 rfl rfl rfl hm10 ?_
      refine fx_aload_n dX4_tell_38 rfl rfl ?_
      obtain ⟨x11, hx11, h⟩ := xLet_el h
      refine gx_get dX4_tell_39 rfl fd_4_15 ha0.1 rfl rfl hx11 ?_
      cases h
      exact fx_ireturn dX4_tell_42 rfl rfl
    · rw [if_neg hc4] at h
      exact fX4_tell_16_ok hd ha0 h
def fX4_tell (a0 : Nat) (a1 : Int32) (m : xMem) : Option (Int32 × xMem) := fX4_tell_0 a0 a1  m
theorem fX4_tell_ok {a0 : Nat} {a1 : Int32} {m : xMem} {r : (Int32 × xMem)} {d : Nat} (hd : 1 ≤ d) (ha0 : isLoads a0) (h : fX4_tell a0 a1 m = some r) : xEx d 255 [.ref a0, .int a1] (xLay m) (some (.int r.1)) (xLay r.2) := by
  obtain ⟨d, rfl⟩ : ∃ q, d = q + 1 := ⟨d - 1, by omega⟩
  exact xEx_of me_255 rfl (fX4_tell_0_ok (d := d) (by omega) ha0 h)
def fX11_load_25 (a0 : Nat) (a1 : Int32) (s0 : Int32) (m : xMem) : Option (Int32 × xMem) := some (s0, m)
set_option maxRecDepth 4000 in
theorem fX11_load_25_ok {a0 : Nat} {a1 : Int32} {d : Nat} (hd : 1 ≤ d) (ha0 : isMS a0) {s0 : Int32} {m : xMem} {r : (Int32 × xMem)} (h : fX11_load_25 a0 a1 s0 m = some r) : xFx hh_254 cX11_load d 25 [some (.ref a0), some (.int a1)] [.int s0] (xLay m) 0 0 (some (.int r.1)) (xLay r.2) := by
  unfold fX11_load_25 at h
  cases h
  exact fx_ireturn dX11_load_25 rfl rfl
def fX11_load_0 (a0 : Nat) (a1 : Int32) (m : xMem) : Option (Int32 × xMem) := (fX11_within a1 (0 : Int32) (80 : Int32) m).bind fun p1 => if p1.1 = (0 : Int32) then fX11_load_25 a0 a1 (-1 : Int32) p1.2 else (fX4_tell (a0 + 1 + 13) a1 p1.2).bind fun p3 => fX11_load_25 a0 a1 p3.1 p3.2
set_option maxRecDepth 4000 in
theorem fX11_load_0_ok {a0 : Nat} {a1 : Int32} {d : Nat} (hd : 1 ≤ d) (ha0 : isMS a0) {m : xMem} {r : (Int32 × xMem)} (h : fX11_load_0 a0 a1 m = some r) : xFx hh_254 cX11_load d 0 [some (.ref a0), some (.int a1)] [] (xLay m) 0 0 (some (.int r.1)) (xLay r.2) := by
  unfold fX11_load_0 at h
  refine fx_iload_n dX11_load_0 rfl rfl ?_
  refine fx_iconst (x := 0) dX11_load_1 rfl (by decide) ?_
  refine fx_bipush (x := 80) dX11_load_2 rfl (by decide) ?_
  obtain ⟨p1, ep1, h⟩ := xBind_el h
  refine gx_calls (as := [.int a1, .int (0 : Int32), .int (80 : Int32)]) (r := []) rfl dX11_load_4 ca_11_47 rfl me_14 rfl rfl rfl rfl (fX11_within_ok (d := d) (by omega) ep1) rfl rfl ?_
  refine fx_if_eq (t := 24) dX11_load_7 rfl rfl (fun hc2 => ?_) (fun hc2 => ?_)
  · rw [if_pos hc2] at h
    refine fx_iconst (x := -1) dX11_load_24 rfl (by decide) ?_
    exact fX11_load_25_ok hd ha0 h
  · rw [if_neg hc2] at h
    refine fx_aload_n dX11_load_10 rfl rfl ?_
    refine gx_getr dX11_load_11 rfl fd_11_10 ha0.1 rfl rfl ?_
    refine gx_getr dX11_load_14 rfl fd_11_301 ha0.2.1.1 rfl rfl ?_
    refine fx_iload_n dX11_load_17 rfl rfl ?_
    obtain ⟨p3, ep3, h⟩ := xBind_el h
    refine gx_callv (as := [.int a1]) (r := []) rfl dX11_load_18 ca_11_305 rfl me_255 rfl rfl rfl rfl (ha0.2.1.2.2.2.2.2.2.1.1) rfl (fX4_tell_ok (d := d) (by omega) ha0.2.1.2.2.2.2.2.2.1 ep3) rfl rfl ?_
    refine fx_goto (t := 25) dX11_load_21 rfl rfl ?_
    exact fX11_load_25_ok hd ha0 h
def fX11_load (a0 : Nat) (a1 : Int32) (m : xMem) : Option (Int32 × xMem) := fX11_load_0 a0 a1  m
theorem fX11_load_ok {a0 : Nat} {a1 : Int32} {m : xMem} {r : (Int32 × xMem)} {d : Nat} (hd : 2 ≤ d) (ha0 : isMS a0) (h : fX11_load a0 a1 m = some r) : xEx d 254 [.ref a0, .int a1] (xLay m) (some (.int r.1)) (xLay r.2) := by
  obtain ⟨d, rfl⟩ : ∃ q, d = q + 1 := ⟨d - 1, by omega⟩
  exact xEx_of me_254 rfl (fX11_load_0_ok (d := d) (by omega) ha0 h)
def fX12_load_22 (a0 : Nat) (a1 : Int32) (m : xMem) : Option (Int32 × xMem) := some ((-1 : Int32), m)
set_option maxRecDepth 4000 in
theorem fX12_load_22_ok {a0 : Nat} {a1 : Int32} {d : Nat} (hd : 1 ≤ d) (ha0 : isModel a0) {m : xMem} {r : (Int32 × xMem)} (h : fX12_load_22 a0 a1 m = some r) : xFx hh_256 cX12_load d 22 [some (.ref a0), some (.int a1)] [] (xLay m) 0 0 (some (.int r.1)) (xLay r.2) := by
  unfold fX12_load_22 at h
  refine fx_iconst (x := -1) dX12_load_22 rfl (by decide) ?_
  cases h
  exact fx_ireturn dX12_load_23 rfl rfl
def fX12_load_0 (a0 : Nat) (a1 : Int32) (m : xMem) : Option (Int32 × xMem) := (fX12_in a1 (0 : Int32) (80 : Int32) m).bind fun p1 => if p1.1 = (0 : Int32) then fX12_load_22 a0 a1 p1.2 else bif xIn (8 : Int32) 1610 then xLet (p1.2.1 (a0 + 1) (8 : Int32).toNatClampNeg) fun x3 => if ¬ x3 = (60 : Int32) then bif xIn (8 : Int32) 1610 then xLet (p1.2.1 (a0 + 1) (8 : Int32).toNatClampNeg) fun x6 => xLet ((1550 : Int32) + x6) fun x8 => bif xIn x8 1610 then xLet (xPut p1.2 (a0 + 1) x8.toNatClampNeg a1) fun m9 => bif xIn (8 : Int32) 1610 then xLet (m9.1 (a0 + 1) (8 : Int32).toNatClampNeg) fun x11 => xLet (x11 + (1 : Int32)) fun x13 => bif xIn (8 : Int32) 1610 then xLet (xPut m9 (a0 + 1) (8 : Int32).toNatClampNeg x13) fun m14 => bif xIn (8 : Int32) 1610 then xLet (m14.1 (a0 + 1) (8 : Int32).toNatClampNeg) fun x16 => some (x16, m14) else none else none else none else none else none else fX12_load_22 a0 a1 p1.2 else none
set_option maxRecDepth 4000 in
theorem fX12_load_0_ok {a0 : Nat} {a1 : Int32} {d : Nat} (hd : 1 ≤ d) (ha0 : isModel a0) {m : xMem} {r : (Int32 × xMem)} (h : fX12_load_0 a0 a1 m = some r) : xFx hh_256 cX12_load d 0 [some (.ref a0), some (.int a1)] [] (xLay m) 0 0 (some (.int r.1)) (xLay r.2) := by
  unfold fX12_load_0 at h
  refine fx_iload_n dX12_load_0 rfl rfl ?_
  refine fx_iconst (x := 0) dX12_load_1 rfl (by decide) ?_
  refine fx_bipush (x := 80) dX12_load_2 rfl (by decide) ?_
  obtain ⟨p1, ep1, h⟩ := xBind_el h
  refine gx_calls (as := [.int a1, .int (0 : Int32), .int (80 : Int32)]) (r := []) rfl dX12_load_4 ca_12_95 rfl me_18 rfl rfl rfl rfl (fX12_in_ok (d := d) (by omega) ep1) rfl rfl ?_
  refine fx_if_eq (t := 22) dX12_load_7 rfl rfl (fun hc2 => ?_) (fun hc2 => ?_)
  · rw [if_pos hc2] at h
    exact fX12_load_22_ok hd ha0 h
  · rw [if_neg hc2] at h
    refine fx_aload_n dX12_load_10 rfl rfl ?_
    refine gx_getr dX12_load_11 rfl fd_12_7 ha0.1 rfl rfl ?_
    refine fx_bipush (x := 8) dX12_load_14 rfl (by decide) ?_
    obtain ⟨hj4, h⟩ := xChk_el h
    obtain ⟨x3, hx3, h⟩ := xLet_el h
    refine gx_iaload dX12_load_16 rfl ha0.2.1 hj4 hx3 ?_
    refine fx_bipush (x := 60) dX12_load_17 rfl (by decide) ?_
    refine fx_icmp_ne (t := 24) dX12_load_19 rfl rfl (fun hc5 => ?_) (fun hc5 => ?_)
    · rw [if_pos hc5] at h
      refine fx_aload_n dX12_load_24 rfl rfl ?_
      refine gx_getr dX12_load_25 rfl fd_12_7 ha0.1 rfl rfl ?_
      refine fx_sipush (x := 1550) dX12_load_28 rfl (by decide) ?_
      refine fx_aload_n dX12_load_31 rfl rfl ?_
      refine gx_getr dX12_load_32 rfl fd_12_7 ha0.1 rfl rfl ?_
      refine fx_bipush (x := 8) dX12_load_35 rfl (by decide) ?_
      obtain ⟨hj7, h⟩ := xChk_el h
      obtain ⟨x6, hx6, h⟩ := xLet_el h
      refine gx_iaload dX12_load_37 rfl ha0.2.1 hj7 hx6 ?_
      obtain ⟨x8, hx8, h⟩ := xLet_el h
      refine fx_iadd dX12_load_38 rfl hx8 ?_
      refine fx_iload_n dX12_load_39 rfl rfl ?_
      obtain ⟨hj10, h⟩ := xChk_el h
      obtain ⟨m9, hm9, h⟩ := xLet_el h
      refine gx_iastore dX12_load_40 rfl ha0.2.1 hj10 hm9 ?_
      refine fx_aload_n dX12_load_41 rfl rfl ?_
      refine gx_getr dX12_load_42 rfl fd_12_7 ha0.1 rfl rfl ?_
      refine fx_bipush (x := 8) dX12_load_45 rfl (by decide) ?_
      refine fx_dup2 dX12_load_47 rfl rfl ?_
      obtain ⟨hj12, h⟩ := xChk_el h
      obtain ⟨x11, hx11, h⟩ := xLet_el h
      refine gx_iaload dX12_load_48 rfl ha0.2.1 hj12 hx11 ?_
      refine fx_iconst (x := 1) dX12_load_49 rfl (by decide) ?_
      obtain ⟨x13, hx13, h⟩ := xLet_el h
      refine fx_iadd dX12_load_50 rfl hx13 ?_
      obtain ⟨hj15, h⟩ := xChk_el h
      obtain ⟨m14, hm14, h⟩ := xLet_el h
      refine gx_iastore dX12_load_51 rfl ha0.2.1 hj15 hm14 ?_
      refine fx_aload_n dX12_load_52 rfl rfl ?_
      refine gx_getr dX12_load_53 rfl fd_12_7 ha0.1 rfl rfl ?_
      refine fx_bipush (x := 8) dX12_load_56 rfl (by decide) ?_
      obtain ⟨hj17, h⟩ := xChk_el h
      obtain ⟨x16, hx16, h⟩ := xLet_el h
      refine gx_iaload dX12_load_58 rfl ha0.2.1 hj17 hx16 ?_
      cases h
      exact fx_ireturn dX12_load_59 rfl rfl
    · rw [if_neg hc5] at h
      exact fX12_load_22_ok hd ha0 h
def fX12_load (a0 : Nat) (a1 : Int32) (m : xMem) : Option (Int32 × xMem) := fX12_load_0 a0 a1  m
theorem fX12_load_ok {a0 : Nat} {a1 : Int32} {m : xMem} {r : (Int32 × xMem)} {d : Nat} (hd : 2 ≤ d) (ha0 : isModel a0) (h : fX12_load a0 a1 m = some r) : xEx d 256 [.ref a0, .int a1] (xLay m) (some (.int r.1)) (xLay r.2) := by
  obtain ⟨d, rfl⟩ : ∃ q, d = q + 1 := ⟨d - 1, by omega⟩
  exact xEx_of me_256 rfl (fX12_load_0_ok (d := d) (by omega) ha0 h)
def fX11_unload_0 (a0 : Nat) (m : xMem) : Option (Int32 × xMem) := xLet (m.1 (a0 + 1 + 13) 1) fun x1 => xLet (xPut m (a0 + 1 + 13) 1 (0 : Int32)) fun m2 => some (x1, m2)
set_option maxRecDepth 4000 in
theorem fX11_unload_0_ok {a0 : Nat} {d : Nat} (hd : 0 ≤ d) (ha0 : isMS a0) {o1 : Option Value} {m : xMem} {r : (Int32 × xMem)} (q1 : xNoD o1 = true) (h : fX11_unload_0 a0 m = some r) : xFx hh_257 cX11_unload d 0 [some (.ref a0), o1] [] (xLay m) 0 0 (some (.int r.1)) (xLay r.2) := by
  unfold fX11_unload_0 at h
  refine fx_aload_n dX11_unload_0 rfl rfl ?_
  refine gx_getr dX11_unload_1 rfl fd_11_10 ha0.1 rfl rfl ?_
  refine gx_getr dX11_unload_4 rfl fd_11_301 ha0.2.1.1 rfl rfl ?_
  obtain ⟨x1, hx1, h⟩ := xLet_el h
  refine gx_get dX11_unload_7 rfl fd_11_309 ha0.2.1.2.2.2.2.2.2.1.1 rfl rfl hx1 ?_
  refine fx_istore_n (ls2 := [some (.ref a0), some (.int x1)]) dX11_unload_10 rfl rfl rfl ?_
  refine fx_aload_n dX11_unload_11 rfl rfl ?_
  refine gx_getr dX11_unload_12 rfl fd_11_10 ha0.1 rfl rfl ?_
  refine gx_getr dX11_unload_15 rfl fd_11_301 ha0.2.1.1 rfl rfl ?_
  refine fx_iconst (x := 0) dX11_unload_18 rfl (by decide) ?_
  obtain ⟨m2, hm2, h⟩ := xLet_el h
  refine gx_put dX11_unload_19 rfl fd_11_309 ha0.2.1.2.2.2.2.2.2.1.1 rfl rfl rfl hm2 ?_
  refine fx_iload_n dX11_unload_22 rfl rfl ?_
  cases h
  exact fx_ireturn dX11_unload_23 rfl rfl
def fX11_unload (a0 : Nat) (m : xMem) : Option (Int32 × xMem) := fX11_unload_0 a0  m
theorem fX11_unload_ok {a0 : Nat} {m : xMem} {r : (Int32 × xMem)} {d : Nat} (hd : 1 ≤ d) (ha0 : isMS a0) (h : fX11_unload a0 m = some r) : xEx d 257 [.ref a0] (xLay m) (some (.int r.1)) (xLay r.2) := by
  obtain ⟨d, rfl⟩ : ∃ q, d = q + 1 := ⟨d - 1, by omega⟩
  exact xEx_of me_257 rfl (fX11_unload_0_ok (d := d) (o1 := none) (by omega) ha0 rfl h)
def fX12_unload_0 (a0 : Nat) (m : xMem) : Option (Int32 × xMem) := bif xIn (8 : Int32) 1610 then xLet (m.1 (a0 + 1) (8 : Int32).toNatClampNeg) fun x1 => bif xIn (8 : Int32) 1610 then xLet (xPut m (a0 + 1) (8 : Int32).toNatClampNeg (0 : Int32)) fun m3 => some (x1, m3) else none else none
set_option maxRecDepth 4000 in
theorem fX12_unload_0_ok {a0 : Nat} {d : Nat} (hd : 0 ≤ d) (ha0 : isModel a0) {o1 : Option Value} {m : xMem} {r : (Int32 × xMem)} (q1 : xNoD o1 = true) (h : fX12_unload_0 a0 m = some r) : xFx hh_258 cX12_unload d 0 [some (.ref a0), o1] [] (xLay m) 0 0 (some (.int r.1)) (xLay r.2) := by
  unfold fX12_unload_0 at h
  refine fx_aload_n dX12_unload_0 rfl rfl ?_
  refine gx_getr dX12_unload_1 rfl fd_12_7 ha0.1 rfl rfl ?_
  refine fx_bipush (x := 8) dX12_unload_4 rfl (by decide) ?_
  obtain ⟨hj2, h⟩ := xChk_el h
  obtain ⟨x1, hx1, h⟩ := xLet_el h
  refine gx_iaload dX12_unload_6 rfl ha0.2.1 hj2 hx1 ?_
  refine fx_istore_n (ls2 := [some (.ref a0), some (.int x1)]) dX12_unload_7 rfl rfl rfl ?_
  refine fx_aload_n dX12_unload_8 rfl rfl ?_
  refine gx_getr dX12_unload_9 rfl fd_12_7 ha0.1 rfl rfl ?_
  refine fx_bipush (x := 8) dX12_unload_12 rfl (by decide) ?_
  refine fx_iconst (x := 0) dX12_unload_14 rfl (by decide) ?_
  obtain ⟨hj4, h⟩ := xChk_el h
  obtain ⟨m3, hm3, h⟩ := xLet_el h
  refine gx_iastore dX12_unload_15 rfl ha0.2.1 hj4 hm3 ?_
  refine fx_iload_n dX12_unload_16 rfl rfl ?_
  cases h
  exact fx_ireturn dX12_unload_17 rfl rfl
def fX12_unload (a0 : Nat) (m : xMem) : Option (Int32 × xMem) := fX12_unload_0 a0  m
theorem fX12_unload_ok {a0 : Nat} {m : xMem} {r : (Int32 × xMem)} {d : Nat} (hd : 1 ≤ d) (ha0 : isModel a0) (h : fX12_unload a0 m = some r) : xEx d 258 [.ref a0] (xLay m) (some (.int r.1)) (xLay r.2) := by
  obtain ⟨d, rfl⟩ : ∃ q, d = q + 1 := ⟨d - 1, by omega⟩
  exact xEx_of me_258 rfl (fX12_unload_0_ok (d := d) (o1 := none) (by omega) ha0 rfl h)
def fX4_steppedOn_13 (a0 : Nat) (a1 : Int32) (a2 : Int32) (m : xMem) : Option (Int32 × xMem) := some ((-1 : Int32), m)
set_option maxRecDepth 4000 in
theorem fX4_steppedOn_13_ok {a0 : Nat} {a1 : Int32} {a2 : Int32} {d : Nat} (hd : 0 ≤ d) (ha0 : isLoads a0) {o3 : Option Value} {o4 : Option Value} {o5 : Option Value} {o6 : Option Value} {o7 : Option Value} {o8 : Option Value} {o9 : Option Value} {o10 : Option Value} {o11 : Option Value} {o12 : Option Value} {o13 : Option Value} {m : xMem} {r : (Int32 × xMem)} (q3 : xNoD o3 = true) (q4 : xNoD o4 = true) (q5 : xNoD o5 = true) (q6 : xNoD o6 = true) (q7 : xNoD o7 = true) (q8 : xNoD o8 = true) (q9 : xNoD o9 = true) (q10 : xNoD o10 = true) (q11 : xNoD o11 = true) (q12 : xNoD o12 = true) (q13 : xNoD o13 = true) (h : fX4_steppedOn_13 a0 a1 a2 m = some r) : xFx hh_260 cX4_steppedOn d 13 [some (.ref a0), some (.int a1), some (.int a2), o3, o4, o5, o6, o7, o8, o9, o10, o11, o12, o13] [] (xLay m) 0 0 (some (.int r.1)) (xLay r.2) := by
  unfold fX4_steppedOn_13 at h
  refine fx_iconst (x := -1) dX4_steppedOn_13 rfl (by decide) ?_
  cases h
  exact fx_ireturn dX4_steppedOn_14 rfl rfl
def fX4_steppedOn_113 (a0 : Nat) (a1 : Int32) (a2 : Int32) (rec46 : Int32 → Int32 → Int32 → Int32 → Int32 → Int32 → xMem → Option (Int32 × xMem)) (rec69 : Int32 → Int32 → Int32 → Int32 → Int32 → Int32 → Int32 → Int32 → Int32 → Int32 → Int32 → xMem → Option (Int32 × xMem)) (l3 : Int32) (l4 : Int32) (l5 : Int32) (l6 : Int32) (l7 : Int32) (l8 : Int32) (l10 : Int32) (l11 : Int32) (l12 : Int32) (l13 : Int32) (s0 : Int32) (s1 : Int32) (m : xMem) : Option (Int32 × xMem) := xLet (s0 + s1) fun x1 => xLet (xMin l10 x1) fun x2 => xLet (xMax l11 x1) fun x3 => xLet (l7 + x1) fun x4 => xLet (l12 + (1 : Int32)) fun x5 => xLet (l13 + a1) fun x6 => rec69 l3 l4 l5 l6 x4 l8 x1 x2 x3 x5 x6 m
set_option maxRecDepth 4000 in
theorem fX4_steppedOn_113_ok {a0 : Nat} {a1 : Int32} {a2 : Int32} {rec46 : Int32 → Int32 → Int32 → Int32 → Int32 → Int32 → xMem → Option (Int32 × xMem)} {rec69 : Int32 → Int32 → Int32 → Int32 → Int32 → Int32 → Int32 → Int32 → Int32 → Int32 → Int32 → xMem → Option (Int32 × xMem)} {d : Nat} (hd : 0 ≤ d) (ha0 : isLoads a0) (hrec46 : ∀ (l3 : Int32) (l4 : Int32) (l5 : Int32) (l6 : Int32) (l7 : Int32) (l8 : Int32) (o9 : Option Value) (o10 : Option Value) (o11 : Option Value) (o12 : Option Value) (o13 : Option Value) (q9 : xNoD o9 = true) (q10 : xNoD o10 = true) (q11 : xNoD o11 = true) (q12 : xNoD o12 = true) (q13 : xNoD o13 = true) (m : xMem) (r : (Int32 × xMem)), rec46 l3 l4 l5 l6 l7 l8 m = some r → xFx hh_260 cX4_steppedOn d 46 [some (.ref a0), some (.int a1), some (.int a2), some (.int l3), some (.int l4), some (.int l5), some (.int l6), some (.int l7), some (.int l8), o9, o10, o11, o12, o13] [] (xLay m) 0 0 (some (.int r.1)) (xLay r.2)) (hrec69 : ∀ (l3 : Int32) (l4 : Int32) (l5 : Int32) (l6 : Int32) (l7 : Int32) (l8 : Int32) (l9 : Int32) (l10 : Int32) (l11 : Int32) (l12 : Int32) (l13 : Int32) (m : xMem) (r : (Int32 × xMem)), rec69 l3 l4 l5 l6 l7 l8 l9 l10 l11 l12 l13 m = some r → xFx hh_260 cX4_steppedOn d 69 [some (.ref a0), some (.int a1), some (.int a2), some (.int l3), some (.int l4), some (.int l5), some (.int l6), some (.int l7), some (.int l8), some (.int l9), some (.int l10), some (.int l11), some (.int l12), some (.int l13)] [] (xLay m) 0 0 (some (.int r.1)) (xLay r.2)) {l3 : Int32} {l4 : Int32} {l5 : Int32} {l6 : Int32} {l7 : Int32} {l8 : Int32} {l10 : Int32} {l11 : Int32} {l12 : Int32} {l13 : Int32} {s0 : Int32} {s1 : Int32} {o9 : Option Value} {m : xMem} {r : (Int32 × xMem)} (q9 : xNoD o9 = true) (h : fX4_steppedOn_113 a0 a1 a2 rec46 rec69 l3 l4 l5 l6 l7 l8 l10 l11 l12 l13 s0 s1 m = some r) : xFx hh_260 cX4_steppedOn d 113 [some (.ref a0), some (.int a1), some (.int a2), some (.int l3), some (.int l4), some (.int l5), some (.int l6), some (.int l7), some (.int l8), o9, some (.int l10), some (.int l11), some (.int l12), some (.int l13)] [.int s1, .int s0] (xLay m) 0 0 (some (.int r.1)) (xLay r.2) := by
  unfold fX4_steppedOn_113 at h
  obtain ⟨x1, hx1, h⟩ := xLet_el h
  refine fx_iadd dX4_steppedOn_113 rfl hx1 ?_
  refine fx_istore (ls2 := [some (.ref a0), some (.int a1), some (.int a2), some (.int l3), some (.int l4), some (.int l5), some (.int l6), some (.int l7), some (.int l8), some (.int x1), some (.int l10), some (.int l11), some (.int l12), some (.int l13)]) dX4_steppedOn_114 rfl rfl rfl ?_
  refine fx_iload dX4_steppedOn_116 rfl rfl ?_
  refine fx_iload dX4_steppedOn_118 rfl rfl ?_
  obtain ⟨x2, hx2, h⟩ := xLet_el h
  refine fx_imin dX4_steppedOn_120 rfl ca_4_25 rfl hx2 ?_
  refine fx_istore (ls2 := [some (.ref a0), some (.int a1), some (.int a2), some (.int l3), some (.int l4), some (.int l5), some (.int l6), some (.int l7), some (.int l8), some (.int x1), some (.int x2), some (.int l11), some (.int l12), some (.int l13)]) dX4_steppedOn_123 rfl rfl rfl ?_
  refine fx_iload dX4_steppedOn_125 rfl rfl ?_
  refine fx_iload dX4_steppedOn_127 rfl rfl ?_
  obtain ⟨x3, hx3, h⟩ := xLet_el h
  refine fx_imax dX4_steppedOn_129 rfl ca_4_31 rfl hx3 ?_
  refine fx_istore (ls2 := [some (.ref a0), some (.int a1), some (.int a2), some (.int l3), some (.int l4), some (.int l5), some (.int l6), some (.int l7), some (.int l8), some (.int x1), some (.int x2), some (.int x3), some (.int l12), some (.int l13)]) dX4_steppedOn_132 rfl rfl rfl ?_
  refine fx_iload dX4_steppedOn_134 rfl rfl ?_
  refine fx_iload dX4_steppedOn_136 rfl rfl ?_
  obtain ⟨x4, hx4, h⟩ := xLet_el h
  refine fx_iadd dX4_steppedOn_138 rfl hx4 ?_
  refine fx_istore (ls2 := [some (.ref a0), some (.int a1), some (.int a2), some (.int l3), some (.int l4), some (.int l5), some (.int l6), some (.int x4), some (.int l8), some (.int x1), some (.int x2), some (.int x3), some (.int l12), some (.int l13)]) dX4_steppedOn_139 rfl rfl rfl ?_
  obtain ⟨x5, hx5, h⟩ := xLet_el h
  refine fx_iinc (ls2 := [some (.ref a0), some (.int a1), some (.int a2), some (.int l3), some (.int l4), some (.int l5), some (.int l6), some (.int x4), some (.int l8), some (.int x1), some (.int x2), some (.int x3), some (.int x5), some (.int l13)]) dX4_steppedOn_141 rfl rfl rfl hx5 rfl ?_
  refine fx_iload dX4_steppedOn_144 rfl rfl ?_
  refine fx_iload_n dX4_steppedOn_146 rfl rfl ?_
  obtain ⟨x6, hx6, h⟩ := xLet_el h
  refine fx_iadd dX4_steppedOn_147 rfl hx6 ?_
  refine fx_istore (ls2 := [some (.ref a0), some (.int a1), some (.int a2), some (.int l3), some (.int l4), some (.int l5), some (.int l6), some (.int x4), some (.int l8), some (.int x1), some (.int x2), some (.int x3), some (.int x5), some (.int x6)]) dX4_steppedOn_148 rfl rfl rfl ?_
  refine fx_goto (t := 69) dX4_steppedOn_150 rfl rfl ?_
  exact hrec69 l3 l4 l5 l6 x4 l8 x1 x2 x3 x5 x6 m r h
def fX4_steppedOn_209 (a0 : Nat) (a1 : Int32) (a2 : Int32) (rec46 : Int32 → Int32 → Int32 → Int32 → Int32 → Int32 → xMem → Option (Int32 × xMem)) (l3 : Int32) (l4 : Int32) (l5 : Int32) (l6 : Int32) (l7 : Int32) (l8 : Int32) (m : xMem) : Option (Int32 × xMem) := xLet (l8 + (1 : Int32)) fun x1 => rec46 l3 l4 l5 l6 l7 x1 m
set_option maxRecDepth 4000 in
theorem fX4_steppedOn_209_ok {a0 : Nat} {a1 : Int32} {a2 : Int32} {rec46 : Int32 → Int32 → Int32 → Int32 → Int32 → Int32 → xMem → Option (Int32 × xMem)} {d : Nat} (hd : 0 ≤ d) (ha0 : isLoads a0) (hrec46 : ∀ (l3 : Int32) (l4 : Int32) (l5 : Int32) (l6 : Int32) (l7 : Int32) (l8 : Int32) (o9 : Option Value) (o10 : Option Value) (o11 : Option Value) (o12 : Option Value) (o13 : Option Value) (q9 : xNoD o9 = true) (q10 : xNoD o10 = true) (q11 : xNoD o11 = true) (q12 : xNoD o12 = true) (q13 : xNoD o13 = true) (m : xMem) (r : (Int32 × xMem)), rec46 l3 l4 l5 l6 l7 l8 m = some r → xFx hh_260 cX4_steppedOn d 46 [some (.ref a0), some (.int a1), some (.int a2), some (.int l3), some (.int l4), some (.int l5), some (.int l6), some (.int l7), some (.int l8), o9, o10, o11, o12, o13] [] (xLay m) 0 0 (some (.int r.1)) (xLay r.2)) {l3 : Int32} {l4 : Int32} {l5 : Int32} {l6 : Int32} {l7 : Int32} {l8 : Int32} {o9 : Option Value} {o10 : Option Value} {o11 : Option Value} {o12 : Option Value} {o13 : Option Value} {m : xMem} {r : (Int32 × xMem)} (q9 : xNoD o9 = true) (q10 : xNoD o10 = true) (q11 : xNoD o11 = true) (q12 : xNoD o12 = true) (q13 : xNoD o13 = true) (h : fX4_steppedOn_209 a0 a1 a2 rec46 l3 l4 l5 l6 l7 l8 m = some r) : xFx hh_260 cX4_steppedOn d 209 [some (.ref a0), some (.int a1), some (.int a2), some (.int l3), some (.int l4), some (.int l5), some (.int l6), some (.int l7), some (.int l8), o9, o10, o11, o12, o13] [] (xLay m) 0 0 (some (.int r.1)) (xLay r.2) := by
  unfold fX4_steppedOn_209 at h
  obtain ⟨x1, hx1, h⟩ := xLet_el h
  refine fx_iinc (ls2 := [some (.ref a0), some (.int a1), some (.int a2), some (.int l3), some (.int l4), some (.int l5), some (.int l6), some (.int l7), some (.int x1), o9, o10, o11, o12, o13]) dX4_steppedOn_209 rfl rfl rfl hx1 rfl ?_
  refine fx_goto (t := 46) dX4_steppedOn_212 rfl rfl ?_
  exact hrec46 l3 l4 l5 l6 l7 x1 (o9) (o10) (o11) (o12) (o13) q9 q10 q11 q12 q13 m r h
def fX4_steppedOn_153 (a0 : Nat) (a1 : Int32) (a2 : Int32) (rec46 : Int32 → Int32 → Int32 → Int32 → Int32 → Int32 → xMem → Option (Int32 × xMem)) (l3 : Int32) (l4 : Int32) (l5 : Int32) (l6 : Int32) (l7 : Int32) (l8 : Int32) (l10 : Int32) (l11 : Int32) (l12 : Int32) (m : xMem) : Option (Int32 × xMem) := xLet ((2 : Int32) - l11) fun x1 => xLet (x1 + l10) fun x2 => if (0 : Int32) ≤ x2 then xLet (l4 + l10) fun x4 => xLet (l10 * l12) fun x5 => xLet (l7 - x5) fun x6 => if l12 ≤ l3 then xLet (l6 + x2) fun x8 => fX4_steppedOn_209 a0 a1 a2 rec46 l3 x4 l5 x8 x6 l8 m else xLet (l5 + x2) fun x9 => fX4_steppedOn_209 a0 a1 a2 rec46 l3 x4 x9 l6 x6 l8 m else some ((-1 : Int32), m)
set_option maxRecDepth 4000 in
theorem fX4_steppedOn_153_ok {a0 : Nat} {a1 : Int32} {a2 : Int32} {rec46 : Int32 → Int32 → Int32 → Int32 → Int32 → Int32 → xMem → Option (Int32 × xMem)} {d : Nat} (hd : 0 ≤ d) (ha0 : isLoads a0) (hrec46 : ∀ (l3 : Int32) (l4 : Int32) (l5 : Int32) (l6 : Int32) (l7 : Int32) (l8 : Int32) (o9 : Option Value) (o10 : Option Value) (o11 : Option Value) (o12 : Option Value) (o13 : Option Value) (q9 : xNoD o9 = true) (q10 : xNoD o10 = true) (q11 : xNoD o11 = true) (q12 : xNoD o12 = true) (q13 : xNoD o13 = true) (m : xMem) (r : (Int32 × xMem)), rec46 l3 l4 l5 l6 l7 l8 m = some r → xFx hh_260 cX4_steppedOn d 46 [some (.ref a0), some (.int a1), some (.int a2), some (.int l3), some (.int l4), some (.int l5), some (.int l6), some (.int l7), some (.int l8), o9, o10, o11, o12, o13] [] (xLay m) 0 0 (some (.int r.1)) (xLay r.2)) {l3 : Int32} {l4 : Int32} {l5 : Int32} {l6 : Int32} {l7 : Int32} {l8 : Int32} {l10 : Int32} {l11 : Int32} {l12 : Int32} {o9 : Option Value} {o13 : Option Value} {m : xMem} {r : (Int32 × xMem)} (q9 : xNoD o9 = true) (q13 : xNoD o13 = true) (h : fX4_steppedOn_153 a0 a1 a2 rec46 l3 l4 l5 l6 l7 l8 l10 l11 l12 m = some r) : xFx hh_260 cX4_steppedOn d 153 [some (.ref a0), some (.int a1), some (.int a2), some (.int l3), some (.int l4), some (.int l5), some (.int l6), some (.int l7), some (.int l8), o9, some (.int l10), some (.int l11), some (.int l12), o13] [] (xLay m) 0 0 (some (.int r.1)) (xLay r.2) := by
  unfold fX4_steppedOn_153 at h
  refine fx_iconst (x := 2) dX4_steppedOn_153 rfl (by decide) ?_
  refine fx_iload dX4_steppedOn_154 rfl rfl ?_
  obtain ⟨x1, hx1, h⟩ := xLet_el h
  refine fx_isub dX4_steppedOn_156 rfl hx1 ?_
  refine fx_iload dX4_steppedOn_157 rfl rfl ?_
  obtain ⟨x2, hx2, h⟩ := xLet_el h
  refine fx_iadd dX4_steppedOn_159 rfl hx2 ?_
  refine fx_istore (ls2 := [some (.ref a0), some (.int a1), some (.int a2), some (.int l3), some (.int l4), some (.int l5), some (.int l6), some (.int l7), some (.int l8), o9, some (.int l10), some (.int l11), some (.int l12), some (.int x2)]) dX4_steppedOn_160 rfl rfl rfl ?_
  refine fx_iload dX4_steppedOn_162 rfl rfl ?_
  refine fx_if_ge (t := 169) dX4_steppedOn_164 rfl rfl (fun hc3 => ?_) (fun hc3 => ?_)
  · rw [if_pos hc3] at h
    refine fx_iload dX4_steppedOn_169 rfl rfl ?_
    refine fx_iload dX4_steppedOn_171 rfl rfl ?_
    obtain ⟨x4, hx4, h⟩ := xLet_el h
    refine fx_iadd dX4_steppedOn_173 rfl hx4 ?_
    refine fx_istore (ls2 := [some (.ref a0), some (.int a1), some (.int a2), some (.int l3), some (.int x4), some (.int l5), some (.int l6), some (.int l7), some (.int l8), o9, some (.int l10), some (.int l11), some (.int l12), some (.int x2)]) dX4_steppedOn_174 rfl rfl rfl ?_
    refine fx_iload dX4_steppedOn_176 rfl rfl ?_
    refine fx_iload dX4_steppedOn_178 rfl rfl ?_
    refine fx_iload dX4_steppedOn_180 rfl rfl ?_
    obtain ⟨x5, hx5, h⟩ := xLet_el h
    refine fx_imul dX4_steppedOn_182 rfl hx5 ?_
    obtain ⟨x6, hx6, h⟩ := xLet_el h
    refine fx_isub dX4_steppedOn_183 rfl hx6 ?_
    refine fx_istore (ls2 := [some (.ref a0), some (.int a1), some (.int a2), some (.int l3), some (.int x4), some (.int l5), some (.int l6), some (.int x6), some (.int l8), o9, some (.int l10), some (.int l11), some (.int l12), some (.int x2)]) dX4_steppedOn_184 rfl rfl rfl ?_
    refine fx_iload dX4_steppedOn_186 rfl rfl ?_
    refine fx_iload_n dX4_steppedOn_188 rfl rfl ?_
    refine fx_icmp_le (t := 202) dX4_steppedOn_189 rfl rfl (fun hc7 => ?_) (fun hc7 => ?_)
    · rw [if_pos hc7] at h
      refine fx_iload dX4_steppedOn_202 rfl rfl ?_
      refine fx_iload dX4_steppedOn_204 rfl rfl ?_
      obtain ⟨x8, hx8, h⟩ := xLet_el h
      refine fx_iadd dX4_steppedOn_206 rfl hx8 ?_
      refine fx_istore (ls2 := [some (.ref a0), some (.int a1), some (.int a2), some (.int l3), some (.int x4), some (.int l5), some (.int x8), some (.int x6), some (.int l8), o9, some (.int l10), some (.int l11), some (.int l12), some (.int x2)]) dX4_steppedOn_207 rfl rfl rfl ?_
      exact fX4_steppedOn_209_ok (o9 := o9) (o10 := some (.int l10)) (o11 := some (.int l11)) (o12 := some (.int l12)) (o13 := some (.int x2)) hd ha0 hrec46 q9 rfl rfl rfl rfl h
    · rw [if_neg hc7] at h
      refine fx_iload dX4_steppedOn_192 rfl rfl ?_
      refine fx_iload dX4_steppedOn_194 rfl rfl ?_
      obtain ⟨x9, hx9, h⟩ := xLet_el h
      refine fx_iadd dX4_steppedOn_196 rfl hx9 ?_
      refine fx_istore (ls2 := [some (.ref a0), some (.int a1), some (.int a2), some (.int l3), some (.int x4), some (.int x9), some (.int l6), some (.int x6), some (.int l8), o9, some (.int l10), some (.int l11), some (.int l12), some (.int x2)]) dX4_steppedOn_197 rfl rfl rfl ?_
      refine fx_goto (t := 209) dX4_steppedOn_199 rfl rfl ?_
      exact fX4_steppedOn_209_ok (o9 := o9) (o10 := some (.int l10)) (o11 := some (.int l11)) (o12 := some (.int l12)) (o13 := some (.int x2)) hd ha0 hrec46 q9 rfl rfl rfl rfl h
  · rw [if_neg hc3] at h
    refine fx_iconst (x := -1) dX4_steppedOn_167 rfl (by decide) ?_
    cases h
    exact fx_ireturn dX4_steppedOn_168 rfl rfl
def fX4_steppedOn_69 (a0 : Nat) (a1 : Int32) (a2 : Int32) (rec46 : Int32 → Int32 → Int32 → Int32 → Int32 → Int32 → xMem → Option (Int32 × xMem)) : Nat → Int32 → Int32 → Int32 → Int32 → Int32 → Int32 → Int32 → Int32 → Int32 → Int32 → Int32 → xMem → Option (Int32 × xMem)
  | 0, _, _, _, _, _, _, _, _, _, _, _, _ => none
  | fuel + 1, l3, l4, l5, l6, l7, l8, l9, l10, l11, l12, l13, m => xLet (m.1 a0 1) fun x1 => if x1 ≤ l13 then fX4_steppedOn_153 a0 a1 a2 rec46 l3 l4 l5 l6 l7 l8 l10 l11 l12 m else if (60 : Int32) ≤ l13 then fX4_steppedOn_153 a0 a1 a2 rec46 l3 l4 l5 l6 l7 l8 l10 l11 l12 m else if l13 ≤ (0 : Int32) then fX4_steppedOn_113 a0 a1 a2 rec46 (fX4_steppedOn_69 a0 a1 a2 rec46 fuel) l3 l4 l5 l6 l7 l8 l10 l11 l12 l13 l9 (0 : Int32) m else bif xIn l13 60 then xLet (m.1 (a0 + 1) l13.toNatClampNeg) fun x5 => xLet (l13 - (1 : Int32)) fun x7 => bif xIn x7 60 then xLet (m.1 (a0 + 1) x7.toNatClampNeg) fun x8 => xLet (x5 - x8) fun x10 => fX4_steppedOn_113 a0 a1 a2 rec46 (fX4_steppedOn_69 a0 a1 a2 rec46 fuel) l3 l4 l5 l6 l7 l8 l10 l11 l12 l13 l9 x10 m else none else none
set_option maxRecDepth 4000 in
theorem fX4_steppedOn_69_ok {a0 : Nat} {a1 : Int32} {a2 : Int32} {rec46 : Int32 → Int32 → Int32 → Int32 → Int32 → Int32 → xMem → Option (Int32 × xMem)} {d : Nat} (hd : 0 ≤ d) (ha0 : isLoads a0) (hrec46 : ∀ (l3 : Int32) (l4 : Int32) (l5 : Int32) (l6 : Int32) (l7 : Int32) (l8 : Int32) (o9 : Option Value) (o10 : Option Value) (o11 : Option Value) (o12 : Option Value) (o13 : Option Value) (q9 : xNoD o9 = true) (q10 : xNoD o10 = true) (q11 : xNoD o11 = true) (q12 : xNoD o12 = true) (q13 : xNoD o13 = true) (m : xMem) (r : (Int32 × xMem)), rec46 l3 l4 l5 l6 l7 l8 m = some r → xFx hh_260 cX4_steppedOn d 46 [some (.ref a0), some (.int a1), some (.int a2), some (.int l3), some (.int l4), some (.int l5), some (.int l6), some (.int l7), some (.int l8), o9, o10, o11, o12, o13] [] (xLay m) 0 0 (some (.int r.1)) (xLay r.2)) : ∀ (fuel : Nat) (l3 : Int32) (l4 : Int32) (l5 : Int32) (l6 : Int32) (l7 : Int32) (l8 : Int32) (l9 : Int32) (l10 : Int32) (l11 : Int32) (l12 : Int32) (l13 : Int32) (m : xMem) (r : (Int32 × xMem)), fX4_steppedOn_69 a0 a1 a2 rec46 fuel l3 l4 l5 l6 l7 l8 l9 l10 l11 l12 l13 m = some r → xFx hh_260 cX4_steppedOn d 69 [some (.ref a0), some (.int a1), some (.int a2), some (.int l3), some (.int l4), some (.int l5), some (.int l6), some (.int l7), some (.int l8), some (.int l9), some (.int l10), some (.int l11), some (.int l12), some (.int l13)] [] (xLay m) 0 0 (some (.int r.1)) (xLay r.2) := by
  intro fuel
  induction fuel with
  | zero => intro l3 l4 l5 l6 l7 l8 l9 l10 l11 l12 l13  m r  h; cases h
  | succ fuel ih =>
    intro l3 l4 l5 l6 l7 l8 l9 l10 l11 l12 l13  m r  h
    unfold fX4_steppedOn_69 at h
    refine fx_iload dX4_steppedOn_69 rfl rfl ?_
    refine fx_aload_n dX4_steppedOn_71 rfl rfl ?_
    obtain ⟨x1, hx1, h⟩ := xLet_el h
    refine gx_get dX4_steppedOn_72 rfl fd_4_15 ha0.1 rfl rfl hx1 ?_
    refine fx_icmp_ge (t := 153) dX4_steppedOn_75 rfl rfl (fun hc2 => ?_) (fun hc2 => ?_)
    · rw [if_pos hc2] at h
      exact fX4_steppedOn_153_ok (o9 := some (.int l9)) (o13 := some (.int l13)) hd ha0 hrec46 rfl rfl h
    · rw [if_neg hc2] at h
      refine fx_iload dX4_steppedOn_78 rfl rfl ?_
      refine fx_bipush (x := 60) dX4_steppedOn_80 rfl (by decide) ?_
      refine fx_icmp_ge (t := 153) dX4_steppedOn_82 rfl rfl (fun hc3 => ?_) (fun hc3 => ?_)
      · rw [if_pos hc3] at h
        exact fX4_steppedOn_153_ok (o9 := some (.int l9)) (o13 := some (.int l13)) hd ha0 hrec46 rfl rfl h
      · rw [if_neg hc3] at h
        refine fx_iload dX4_steppedOn_85 rfl rfl ?_
        refine fx_iload dX4_steppedOn_87 rfl rfl ?_
        refine fx_if_le (t := 112) dX4_steppedOn_89 rfl rfl (fun hc4 => ?_) (fun hc4 => ?_)
        · rw [if_pos hc4] at h
          refine fx_iconst (x := 0) dX4_steppedOn_112 rfl (by decide) ?_
          exact fX4_steppedOn_113_ok (o9 := some (.int l9)) hd ha0 hrec46 ih rfl h
        · rw [if_neg hc4] at h
          refine fx_aload_n dX4_steppedOn_92 rfl rfl ?_
          refine gx_getr dX4_steppedOn_93 rfl fd_4_11 ha0.1 rfl rfl ?_
          refine fx_iload dX4_steppedOn_96 rfl rfl ?_
          obtain ⟨hj6, h⟩ := xChk_el h
          obtain ⟨x5, hx5, h⟩ := xLet_el h
          refine gx_iaload dX4_steppedOn_98 rfl ha0.2 hj6 hx5 ?_
          refine fx_aload_n dX4_steppedOn_99 rfl rfl ?_
          refine gx_getr dX4_steppedOn_100 rfl fd_4_11 ha0.1 rfl rfl ?_
          refine fx_iload dX4_steppedOn_103 rfl rfl ?_
          refine fx_iconst (x := 1) dX4_steppedOn_105 rfl (by decide) ?_
          obtain ⟨x7, hx7, h⟩ := xLet_el h
          refine fx_isub dX4_steppedOn_106 rfl hx7 ?_
          obtain ⟨hj9, h⟩ := xChk_el h
          obtain ⟨x8, hx8, h⟩ := xLet_el h
          refine gx_iaload dX4_steppedOn_107 rfl ha0.2 hj9 hx8 ?_
          obtain ⟨x10, hx10, h⟩ := xLet_el h
          refine fx_isub dX4_steppedOn_108 rfl hx10 ?_
          refine fx_goto (t := 113) dX4_steppedOn_109 rfl rfl ?_
          exact fX4_steppedOn_113_ok (o9 := some (.int l9)) hd ha0 hrec46 ih rfl h
def fX4_steppedOn_230 (a0 : Nat) (a1 : Int32) (a2 : Int32) (m : xMem) : Option (Int32 × xMem) := some ((-1 : Int32), m)
set_option maxRecDepth 4000 in
theorem fX4_steppedOn_230_ok {a0 : Nat} {a1 : Int32} {a2 : Int32} {d : Nat} (hd : 0 ≤ d) (ha0 : isLoads a0) {o3 : Option Value} {o4 : Option Value} {o5 : Option Value} {o6 : Option Value} {o7 : Option Value} {o8 : Option Value} {o9 : Option Value} {o10 : Option Value} {o11 : Option Value} {o12 : Option Value} {o13 : Option Value} {m : xMem} {r : (Int32 × xMem)} (q3 : xNoD o3 = true) (q4 : xNoD o4 = true) (q5 : xNoD o5 = true) (q6 : xNoD o6 = true) (q7 : xNoD o7 = true) (q8 : xNoD o8 = true) (q9 : xNoD o9 = true) (q10 : xNoD o10 = true) (q11 : xNoD o11 = true) (q12 : xNoD o12 = true) (q13 : xNoD o13 = true) (h : fX4_steppedOn_230 a0 a1 a2 m = some r) : xFx hh_260 cX4_steppedOn d 230 [some (.ref a0), some (.int a1), some (.int a2), o3, o4, o5, o6, o7, o8, o9, o10, o11, o12, o13] [] (xLay m) 0 0 (some (.int r.1)) (xLay r.2) := by
  unfold fX4_steppedOn_230 at h
  refine fx_iconst (x := -1) dX4_steppedOn_230 rfl (by decide) ?_
  cases h
  exact fx_ireturn dX4_steppedOn_231 rfl rfl
def fX4_steppedOn_255 (a0 : Nat) (a1 : Int32) (a2 : Int32) (l3 : Int32) (l4 : Int32) (l7 : Int32) (s0 : Int32) (m : xMem) : Option (Int32 × xMem) := xLet (l4 * l3) fun x1 => xLet (l7 + x1) fun x2 => xLet (x2 + s0) fun x3 => some (x3, m)
set_option maxRecDepth 4000 in
theorem fX4_steppedOn_255_ok {a0 : Nat} {a1 : Int32} {a2 : Int32} {d : Nat} (hd : 0 ≤ d) (ha0 : isLoads a0) {l3 : Int32} {l4 : Int32} {l7 : Int32} {s0 : Int32} {o5 : Option Value} {o6 : Option Value} {o8 : Option Value} {o9 : Option Value} {o10 : Option Value} {o11 : Option Value} {o12 : Option Value} {o13 : Option Value} {m : xMem} {r : (Int32 × xMem)} (q5 : xNoD o5 = true) (q6 : xNoD o6 = true) (q8 : xNoD o8 = true) (q9 : xNoD o9 = true) (q10 : xNoD o10 = true) (q11 : xNoD o11 = true) (q12 : xNoD o12 = true) (q13 : xNoD o13 = true) (h : fX4_steppedOn_255 a0 a1 a2 l3 l4 l7 s0 m = some r) : xFx hh_260 cX4_steppedOn d 255 [some (.ref a0), some (.int a1), some (.int a2), some (.int l3), some (.int l4), o5, o6, some (.int l7), o8, o9, o10, o11, o12, o13] [.int s0] (xLay m) 0 0 (some (.int r.1)) (xLay r.2) := by
  unfold fX4_steppedOn_255 at h
  refine fx_istore (ls2 := [some (.ref a0), some (.int a1), some (.int a2), some (.int l3), some (.int l4), o5, o6, some (.int l7), some (.int s0), o9, o10, o11, o12, o13]) dX4_steppedOn_255 rfl rfl rfl ?_
  refine fx_iload dX4_steppedOn_257 rfl rfl ?_
  refine fx_iload dX4_steppedOn_259 rfl rfl ?_
  refine fx_iload_n dX4_steppedOn_261 rfl rfl ?_
  obtain ⟨x1, hx1, h⟩ := xLet_el h
  refine fx_imul dX4_steppedOn_262 rfl hx1 ?_
  obtain ⟨x2, hx2, h⟩ := xLet_el h
  refine fx_iadd dX4_steppedOn_263 rfl hx2 ?_
  refine fx_iload dX4_steppedOn_264 rfl rfl ?_
  obtain ⟨x3, hx3, h⟩ := xLet_el h
  refine fx_iadd dX4_steppedOn_266 rfl hx3 ?_
  cases h
  exact fx_ireturn dX4_steppedOn_267 rfl rfl
def fX4_steppedOn_46 (a0 : Nat) (a1 : Int32) (a2 : Int32) : Nat → Int32 → Int32 → Int32 → Int32 → Int32 → Int32 → xMem → Option (Int32 × xMem)
  | 0, _, _, _, _, _, _, _ => none
  | fuel + 1, l3, l4, l5, l6, l7, l8, m => if (0 : Int32) < l8 then if l4 < (0 : Int32) then fX4_steppedOn_230 a0 a1 a2 m else xLet (l5 + l6) fun x3 => if l4 ≤ x3 then if a2 = (0 : Int32) then xLet (l4 - l6) fun x6 => xLet (xMax (0 : Int32) x6) fun x7 => fX4_steppedOn_255 a0 a1 a2 l3 l4 l7 x7 m else xLet (xMin l4 l5) fun x8 => fX4_steppedOn_255 a0 a1 a2 l3 l4 l7 x8 m else fX4_steppedOn_230 a0 a1 a2 m else xLet (l8 + a1) fun x9 => fX4_steppedOn_69 a0 a1 a2 (fX4_steppedOn_46 a0 a1 a2 fuel) xFuel l3 l4 l5 l6 l7 l8 (0 : Int32) (0 : Int32) (0 : Int32) (0 : Int32) x9 m
set_option maxRecDepth 4000 in
theorem fX4_steppedOn_46_ok {a0 : Nat} {a1 : Int32} {a2 : Int32} {d : Nat} (hd : 0 ≤ d) (ha0 : isLoads a0) : ∀ (fuel : Nat) (l3 : Int32) (l4 : Int32) (l5 : Int32) (l6 : Int32) (l7 : Int32) (l8 : Int32) (o9 : Option Value) (o10 : Option Value) (o11 : Option Value) (o12 : Option Value) (o13 : Option Value) (q9 : xNoD o9 = true) (q10 : xNoD o10 = true) (q11 : xNoD o11 = true) (q12 : xNoD o12 = true) (q13 : xNoD o13 = true) (m : xMem) (r : (Int32 × xMem)), fX4_steppedOn_46 a0 a1 a2 fuel l3 l4 l5 l6 l7 l8 m = some r → xFx hh_260 cX4_steppedOn d 46 [some (.ref a0), some (.int a1), some (.int a2), some (.int l3), some (.int l4), some (.int l5), some (.int l6), some (.int l7), some (.int l8), o9, o10, o11, o12, o13] [] (xLay m) 0 0 (some (.int r.1)) (xLay r.2) := by
  intro fuel
  induction fuel with
  | zero => intro l3 l4 l5 l6 l7 l8 o9 o10 o11 o12 o13 q9 q10 q11 q12 q13 m r  h; cases h
  | succ fuel ih =>
    intro l3 l4 l5 l6 l7 l8 o9 o10 o11 o12 o13 q9 q10 q11 q12 q13 m r  h
    unfold fX4_steppedOn_46 at h
    refine fx_iload dX4_steppedOn_46 rfl rfl ?_
    refine fx_if_gt (t := 215) dX4_steppedOn_48 rfl rfl (fun hc1 => ?_) (fun hc1 => ?_)
    · rw [if_pos hc1] at h
      refine fx_iload dX4_steppedOn_215 rfl rfl ?_
      refine fx_if_lt (t := 230) dX4_steppedOn_217 rfl rfl (fun hc2 => ?_) (fun hc2 => ?_)
      · rw [if_pos hc2] at h
        exact fX4_steppedOn_230_ok (o3 := some (.int l3)) (o4 := some (.int l4)) (o5 := some (.int l5)) (o6 := some (.int l6)) (o7 := some (.int l7)) (o8 := some (.int l8)) (o9 := o9) (o10 := o10) (o11 := o11) (o12 := o12) (o13 := o13) hd ha0 rfl rfl rfl rfl rfl rfl q9 q10 q11 q12 q13 h
      · rw [if_neg hc2] at h
        refine fx_iload dX4_steppedOn_220 rfl rfl ?_
        refine fx_iload dX4_steppedOn_222 rfl rfl ?_
        refine fx_iload dX4_steppedOn_224 rfl rfl ?_
        obtain ⟨x3, hx3, h⟩ := xLet_el h
        refine fx_iadd dX4_steppedOn_226 rfl hx3 ?_
        refine fx_icmp_le (t := 232) dX4_steppedOn_227 rfl rfl (fun hc4 => ?_) (fun hc4 => ?_)
        · rw [if_pos hc4] at h
          refine fx_iload_n dX4_steppedOn_232 rfl rfl ?_
          refine fx_if_eq (t := 246) dX4_steppedOn_233 rfl rfl (fun hc5 => ?_) (fun hc5 => ?_)
          · rw [if_pos hc5] at h
            refine fx_iconst (x := 0) dX4_steppedOn_246 rfl (by decide) ?_
            refine fx_iload dX4_steppedOn_247 rfl rfl ?_
            refine fx_iload dX4_steppedOn_249 rfl rfl ?_
            obtain ⟨x6, hx6, h⟩ := xLet_el h
            refine fx_isub dX4_steppedOn_251 rfl hx6 ?_
            obtain ⟨x7, hx7, h⟩ := xLet_el h
            refine fx_imax dX4_steppedOn_252 rfl ca_4_31 rfl hx7 ?_
            exact fX4_steppedOn_255_ok (o5 := some (.int l5)) (o6 := some (.int l6)) (o8 := some (.int l8)) (o9 := o9) (o10 := o10) (o11 := o11) (o12 := o12) (o13 := o13) hd ha0 rfl rfl rfl q9 q10 q11 q12 q13 h
          · rw [if_neg hc5] at h
            refine fx_iload dX4_steppedOn_236 rfl rfl ?_
            refine fx_iload dX4_steppedOn_238 rfl rfl ?_
            obtain ⟨x8, hx8, h⟩ := xLet_el h
            refine fx_imin dX4_steppedOn_240 rfl ca_4_25 rfl hx8 ?_
            refine fx_goto (t := 255) dX4_steppedOn_243 rfl rfl ?_
            exact fX4_steppedOn_255_ok (o5 := some (.int l5)) (o6 := some (.int l6)) (o8 := some (.int l8)) (o9 := o9) (o10 := o10) (o11 := o11) (o12 := o12) (o13 := o13) hd ha0 rfl rfl rfl q9 q10 q11 q12 q13 h
        · rw [if_neg hc4] at h
          exact fX4_steppedOn_230_ok (o3 := some (.int l3)) (o4 := some (.int l4)) (o5 := some (.int l5)) (o6 := some (.int l6)) (o7 := some (.int l7)) (o8 := some (.int l8)) (o9 := o9) (o10 := o10) (o11 := o11) (o12 := o12) (o13 := o13) hd ha0 rfl rfl rfl rfl rfl rfl q9 q10 q11 q12 q13 h
    · rw [if_neg hc1] at h
      refine fx_iconst (x := 0) dX4_steppedOn_51 rfl (by decide) ?_
      refine fx_istore (ls2 := [some (.ref a0), some (.int a1), some (.int a2), some (.int l3), some (.int l4), some (.int l5), some (.int l6), some (.int l7), some (.int l8), some (.int (0 : Int32)), o10, o11, o12, o13]) dX4_steppedOn_52 rfl rfl rfl ?_
      refine fx_iconst (x := 0) dX4_steppedOn_54 rfl (by decide) ?_
      refine fx_istore (ls2 := [some (.ref a0), some (.int a1), some (.int a2), some (.int l3), some (.int l4), some (.int l5), some (.int l6), some (.int l7), some (.int l8), some (.int (0 : Int32)), some (.int (0 : Int32)), o11, o12, o13]) dX4_steppedOn_55 rfl rfl rfl ?_
      refine fx_iconst (x := 0) dX4_steppedOn_57 rfl (by decide) ?_
      refine fx_istore (ls2 := [some (.ref a0), some (.int a1), some (.int a2), some (.int l3), some (.int l4), some (.int l5), some (.int l6), some (.int l7), some (.int l8), some (.int (0 : Int32)), some (.int (0 : Int32)), some (.int (0 : Int32)), o12, o13]) dX4_steppedOn_58 rfl rfl rfl ?_
      refine fx_iconst (x := 0) dX4_steppedOn_60 rfl (by decide) ?_
      refine fx_istore (ls2 := [some (.ref a0), some (.int a1), some (.int a2), some (.int l3), some (.int l4), some (.int l5), some (.int l6), some (.int l7), some (.int l8), some (.int (0 : Int32)), some (.int (0 : Int32)), some (.int (0 : Int32)), some (.int (0 : Int32)), o13]) dX4_steppedOn_61 rfl rfl rfl ?_
      refine fx_iload dX4_steppedOn_63 rfl rfl ?_
      refine fx_iload_n dX4_steppedOn_65 rfl rfl ?_
      obtain ⟨x9, hx9, h⟩ := xLet_el h
      refine fx_iadd dX4_steppedOn_66 rfl hx9 ?_
      refine fx_istore (ls2 := [some (.ref a0), some (.int a1), some (.int a2), some (.int l3), some (.int l4), some (.int l5), some (.int l6), some (.int l7), some (.int l8), some (.int (0 : Int32)), some (.int (0 : Int32)), some (.int (0 : Int32)), some (.int (0 : Int32)), some (.int x9)]) dX4_steppedOn_67 rfl rfl rfl ?_
      exact fX4_steppedOn_69_ok hd ha0 ih xFuel l3 l4 l5 l6 l7 l8 (0 : Int32) (0 : Int32) (0 : Int32) (0 : Int32) x9 m r h
def fX4_steppedOn_0 (a0 : Nat) (a1 : Int32) (a2 : Int32) (m : xMem) : Option (Int32 × xMem) := if a1 < (1 : Int32) then fX4_steppedOn_13 a0 a1 a2 m else xLet (m.1 a0 1) fun x2 => if (1 : Int32) ≤ x2 then xLet (m.1 a0 1) fun x4 => xLet (x4 - (1 : Int32)) fun x5 => bif !decide (a1 = 0) then xLet (x5 / a1) fun x6 => bif xIn (0 : Int32) 60 then xLet (m.1 (a0 + 1) (0 : Int32).toNatClampNeg) fun x8 => xLet ((1 : Int32) - a1) fun x10 => fX4_steppedOn_46 a0 a1 a2 xFuel x6 x8 (0 : Int32) (0 : Int32) (0 : Int32) x10 m else none else none else fX4_steppedOn_13 a0 a1 a2 m
set_option maxRecDepth 4000 in
theorem fX4_steppedOn_0_ok {a0 : Nat} {a1 : Int32} {a2 : Int32} {d : Nat} (hd : 0 ≤ d) (ha0 : isLoads a0) {o3 : Option Value} {o4 : Option Value} {o5 : Option Value} {o6 : Option Value} {o7 : Option Value} {o8 : Option Value} {o9 : Option Value} {o10 : Option Value} {o11 : Option Value} {o12 : Option Value} {o13 : Option Value} {m : xMem} {r : (Int32 × xMem)} (q3 : xNoD o3 = true) (q4 : xNoD o4 = true) (q5 : xNoD o5 = true) (q6 : xNoD o6 = true) (q7 : xNoD o7 = true) (q8 : xNoD o8 = true) (q9 : xNoD o9 = true) (q10 : xNoD o10 = true) (q11 : xNoD o11 = true) (q12 : xNoD o12 = true) (q13 : xNoD o13 = true) (h : fX4_steppedOn_0 a0 a1 a2 m = some r) : xFx hh_260 cX4_steppedOn d 0 [some (.ref a0), some (.int a1), some (.int a2), o3, o4, o5, o6, o7, o8, o9, o10, o11, o12, o13] [] (xLay m) 0 0 (some (.int r.1)) (xLay r.2) := by
  unfold fX4_steppedOn_0 at h
  refine fx_iload_n dX4_steppedOn_0 rfl rfl ?_
  refine fx_iconst (x := 1) dX4_steppedOn_1 rfl (by decide) ?_
  refine fx_icmp_lt (t := 13) dX4_steppedOn_2 rfl rfl (fun hc1 => ?_) (fun hc1 => ?_)
  · rw [if_pos hc1] at h
    exact fX4_steppedOn_13_ok (o3 := o3) (o4 := o4) (o5 := o5) (o6 := o6) (o7 := o7) (o8 := o8) (o9 := o9) (o10 := o10) (o11 := o11) (o12 := o12) (o13 := o13) hd ha0 q3 q4 q5 q6 q7 q8 q9 q10 q11 q12 q13 h
  · rw [if_neg hc1] at h
    refine fx_aload_n dX4_steppedOn_5 rfl rfl ?_
    obtain ⟨x2, hx2, h⟩ := xLet_el h
    refine gx_get dX4_steppedOn_6 rfl fd_4_15 ha0.1 rfl rfl hx2 ?_
    refine fx_iconst (x := 1) dX4_steppedOn_9 rfl (by decide) ?_
    refine fx_icmp_ge (t := 15) dX4_steppedOn_10 rfl rfl (fun hc3 => ?_) (fun hc3 => ?_)
    · rw [if_pos hc3] at h
      refine fx_aload_n dX4_steppedOn_15 rfl rfl ?_
      obtain ⟨x4, hx4, h⟩ := xLet_el h
      refine gx_get dX4_steppedOn_16 rfl fd_4_15 ha0.1 rfl rfl hx4 ?_
      refine fx_iconst (x := 1) dX4_steppedOn_19 rfl (by decide) ?_
      obtain ⟨x5, hx5, h⟩ := xLet_el h
      refine fx_isub dX4_steppedOn_20 rfl hx5 ?_
      refine fx_iload_n dX4_steppedOn_21 rfl rfl ?_
      obtain ⟨hz7, h⟩ := xChk_el h
      obtain ⟨x6, hx6, h⟩ := xLet_el h
      refine fx_idiv dX4_steppedOn_22 rfl (by simpa using hz7) hx6 ?_
      refine fx_istore_n (ls2 := [some (.ref a0), some (.int a1), some (.int a2), some (.int x6), o4, o5, o6, o7, o8, o9, o10, o11, o12, o13]) dX4_steppedOn_23 rfl rfl rfl ?_
      refine fx_aload_n dX4_steppedOn_24 rfl rfl ?_
      refine gx_getr dX4_steppedOn_25 rfl fd_4_11 ha0.1 rfl rfl ?_
      refine fx_iconst (x := 0) dX4_steppedOn_28 rfl (by decide) ?_
      obtain ⟨hj9, h⟩ := xChk_el h
      obtain ⟨x8, hx8, h⟩ := xLet_el h
      refine gx_iaload dX4_steppedOn_29 rfl ha0.2 hj9 hx8 ?_
      refine fx_istore (ls2 := [some (.ref a0), some (.int a1), some (.int a2), some (.int x6), some (.int x8), o5, o6, o7, o8, o9, o10, o11, o12, o13]) dX4_steppedOn_30 rfl rfl rfl ?_
      refine fx_iconst (x := 0) dX4_steppedOn_32 rfl (by decide) ?_
      refine fx_istore (ls2 := [some (.ref a0), some (.int a1), some (.int a2), some (.int x6), some (.int x8), some (.int (0 : Int32)), o6, o7, o8, o9, o10, o11, o12, o13]) dX4_steppedOn_33 rfl rfl rfl ?_
      refine fx_iconst (x := 0) dX4_steppedOn_35 rfl (by decide) ?_
      refine fx_istore (ls2 := [some (.ref a0), some (.int a1), some (.int a2), some (.int x6), some (.int x8), some (.int (0 : Int32)), some (.int (0 : Int32)), o7, o8, o9, o10, o11, o12, o13]) dX4_steppedOn_36 rfl rfl rfl ?_
      refine fx_iconst (x := 0) dX4_steppedOn_38 rfl (by decide) ?_
      refine fx_istore (ls2 := [some (.ref a0), some (.int a1), some (.int a2), some (.int x6), some (.int x8), some (.int (0 : Int32)), some (.int (0 : Int32)), some (.int (0 : Int32)), o8, o9, o10, o11, o12, o13]) dX4_steppedOn_39 rfl rfl rfl ?_
      refine fx_iconst (x := 1) dX4_steppedOn_41 rfl (by decide) ?_
      refine fx_iload_n dX4_steppedOn_42 rfl rfl ?_
      obtain ⟨x10, hx10, h⟩ := xLet_el h
      refine fx_isub dX4_steppedOn_43 rfl hx10 ?_
      refine fx_istore (ls2 := [some (.ref a0), some (.int a1), some (.int a2), some (.int x6), some (.int x8), some (.int (0 : Int32)), some (.int (0 : Int32)), some (.int (0 : Int32)), some (.int x10), o9, o10, o11, o12, o13]) dX4_steppedOn_44 rfl rfl rfl ?_
      exact fX4_steppedOn_46_ok hd ha0 xFuel x6 x8 (0 : Int32) (0 : Int32) (0 : Int32) x10 (o9) (o10) (o11) (o12) (o13) q9 q10 q11 q12 q13 m r h
    · rw [if_neg hc3] at h
      exact fX4_steppedOn_13_ok (o3 := o3) (o4 := o4) (o5 := o5) (o6 := o6) (o7 := o7) (o8 := o8) (o9 := o9) (o10 := o10) (o11 := o11) (o12 := o12) (o13 := o13) hd ha0 q3 q4 q5 q6 q7 q8 q9 q10 q11 q12 q13 h
def fX4_steppedOn (a0 : Nat) (a1 : Int32) (a2 : Int32) (m : xMem) : Option (Int32 × xMem) := fX4_steppedOn_0 a0 a1 a2  m
theorem fX4_steppedOn_ok {a0 : Nat} {a1 : Int32} {a2 : Int32} {m : xMem} {r : (Int32 × xMem)} {d : Nat} (hd : 1 ≤ d) (ha0 : isLoads a0) (h : fX4_steppedOn a0 a1 a2 m = some r) : xEx d 260 [.ref a0, .int a1, .int a2] (xLay m) (some (.int r.1)) (xLay r.2) := by
  obtain ⟨d, rfl⟩ : ∃ q, d = q + 1 := ⟨d - 1, by omega⟩
  exact xEx_of me_260 rfl (fX4_steppedOn_0_ok (d := d) (o3 := none) (o4 := none) (o5 := none) (o6 := none) (o7 := none) (o8 := none) (o9 := none) (o10 := none) (o11 := none) (o12 := none) (o13 := none) (by omega) ha0 rfl rfl rfl rfl rfl rfl rfl rfl rfl rfl rfl h)
def fX11_taken_26 (a0 : Nat) (a1 : Int32) (a2 : Int32) (s0 : Int32) (m : xMem) : Option (Int32 × xMem) := some (s0, m)
set_option maxRecDepth 4000 in
theorem fX11_taken_26_ok {a0 : Nat} {a1 : Int32} {a2 : Int32} {d : Nat} (hd : 1 ≤ d) (ha0 : isMS a0) {s0 : Int32} {m : xMem} {r : (Int32 × xMem)} (h : fX11_taken_26 a0 a1 a2 s0 m = some r) : xFx hh_259 cX11_taken d 26 [some (.ref a0), some (.int a1), some (.int a2)] [.int s0] (xLay m) 0 0 (some (.int r.1)) (xLay r.2) := by
  unfold fX11_taken_26 at h
  cases h
  exact fx_ireturn dX11_taken_26 rfl rfl
def fX11_taken_0 (a0 : Nat) (a1 : Int32) (a2 : Int32) (m : xMem) : Option (Int32 × xMem) := (fX11_within a1 (2 : Int32) (40 : Int32) m).bind fun p1 => if p1.1 = (0 : Int32) then fX11_taken_26 a0 a1 a2 (-1 : Int32) p1.2 else (fX4_steppedOn (a0 + 1 + 13) a1 a2 p1.2).bind fun p3 => fX11_taken_26 a0 a1 a2 p3.1 p3.2
set_option maxRecDepth 4000 in
theorem fX11_taken_0_ok {a0 : Nat} {a1 : Int32} {a2 : Int32} {d : Nat} (hd : 1 ≤ d) (ha0 : isMS a0) {m : xMem} {r : (Int32 × xMem)} (h : fX11_taken_0 a0 a1 a2 m = some r) : xFx hh_259 cX11_taken d 0 [some (.ref a0), some (.int a1), some (.int a2)] [] (xLay m) 0 0 (some (.int r.1)) (xLay r.2) := by
  unfold fX11_taken_0 at h
  refine fx_iload_n dX11_taken_0 rfl rfl ?_
  refine fx_iconst (x := 2) dX11_taken_1 rfl (by decide) ?_
  refine fx_bipush (x := 40) dX11_taken_2 rfl (by decide) ?_
  obtain ⟨p1, ep1, h⟩ := xBind_el h
  refine gx_calls (as := [.int a1, .int (2 : Int32), .int (40 : Int32)]) (r := []) rfl dX11_taken_4 ca_11_47 rfl me_14 rfl rfl rfl rfl (fX11_within_ok (d := d) (by omega) ep1) rfl rfl ?_
  refine fx_if_eq (t := 25) dX11_taken_7 rfl rfl (fun hc2 => ?_) (fun hc2 => ?_)
  · rw [if_pos hc2] at h
    refine fx_iconst (x := -1) dX11_taken_25 rfl (by decide) ?_
    exact fX11_taken_26_ok hd ha0 h
  · rw [if_neg hc2] at h
    refine fx_aload_n dX11_taken_10 rfl rfl ?_
    refine gx_getr dX11_taken_11 rfl fd_11_10 ha0.1 rfl rfl ?_
    refine gx_getr dX11_taken_14 rfl fd_11_301 ha0.2.1.1 rfl rfl ?_
    refine fx_iload_n dX11_taken_17 rfl rfl ?_
    refine fx_iload_n dX11_taken_18 rfl rfl ?_
    obtain ⟨p3, ep3, h⟩ := xBind_el h
    refine gx_callv (as := [.int a1, .int a2]) (r := []) rfl dX11_taken_19 ca_11_310 rfl me_260 rfl rfl rfl rfl (ha0.2.1.2.2.2.2.2.2.1.1) rfl (fX4_steppedOn_ok (d := d) (by omega) ha0.2.1.2.2.2.2.2.2.1 ep3) rfl rfl ?_
    refine fx_goto (t := 26) dX11_taken_22 rfl rfl ?_
    exact fX11_taken_26_ok hd ha0 h
def fX11_taken (a0 : Nat) (a1 : Int32) (a2 : Int32) (m : xMem) : Option (Int32 × xMem) := fX11_taken_0 a0 a1 a2  m
theorem fX11_taken_ok {a0 : Nat} {a1 : Int32} {a2 : Int32} {m : xMem} {r : (Int32 × xMem)} {d : Nat} (hd : 2 ≤ d) (ha0 : isMS a0) (h : fX11_taken a0 a1 a2 m = some r) : xEx d 259 [.ref a0, .int a1, .int a2] (xLay m) (some (.int r.1)) (xLay r.2) := by
  obtain ⟨d, rfl⟩ : ∃ q, d = q + 1 := ⟨d - 1, by omega⟩
  exact xEx_of me_259 rfl (fX11_taken_0_ok (d := d) (by omega) ha0 h)
def fX12_chain_9 (a0 : Nat) (a1 : Int32) (a2 : Int32) (a3 : Int32) : Nat → Int32 → Int32 → Int32 → xMem → Option (Int32 × xMem)
  | 0, _, _, _, _ => none
  | fuel + 1, l4, l5, l6, m => bif xIn (8 : Int32) 1610 then xLet (m.1 (a0 + 1) (8 : Int32).toNatClampNeg) fun x1 => if x1 ≤ l6 then some (l5, m) else xLet ((1550 : Int32) + l6) fun x4 => bif xIn x4 1610 then xLet (m.1 (a0 + 1) x4.toNatClampNeg) fun x5 => xLet ((1550 : Int32) + l6) fun x7 => xLet (x7 - (1 : Int32)) fun x8 => bif xIn x8 1610 then xLet (m.1 (a0 + 1) x8.toNatClampNeg) fun x9 => xLet (x5 - x9) fun x11 => xLet (l4 + x11) fun x12 => (fX12_in x12 (0 : Int32) (2 : Int32) m).bind fun p13 => if ¬ p13.1 = (0 : Int32) then xLet (l5 + x12) fun x15 => xLet (l6 + a1) fun x16 => fX12_chain_9 a0 a1 a2 a3 fuel x12 x15 x16 p13.2 else some ((-1 : Int32), p13.2) else none else none else none
set_option maxRecDepth 4000 in
theorem fX12_chain_9_ok {a0 : Nat} {a1 : Int32} {a2 : Int32} {a3 : Int32} {d : Nat} (hd : 1 ≤ d) (ha0 : isModel a0) : ∀ (fuel : Nat) (l4 : Int32) (l5 : Int32) (l6 : Int32) (m : xMem) (r : (Int32 × xMem)), fX12_chain_9 a0 a1 a2 a3 fuel l4 l5 l6 m = some r → xFx hh_262 cX12_chain d 9 [some (.ref a0), some (.int a1), some (.int a2), some (.int a3), some (.int l4), some (.int l5), some (.int l6)] [] (xLay m) 0 0 (some (.int r.1)) (xLay r.2) := by
  intro fuel
  induction fuel with
  | zero => intro l4 l5 l6  m r  h; cases h
  | succ fuel ih =>
    intro l4 l5 l6  m r  h
    unfold fX12_chain_9 at h
    refine fx_iload dX12_chain_9 rfl rfl ?_
    refine fx_aload_n dX12_chain_11 rfl rfl ?_
    refine gx_getr dX12_chain_12 rfl fd_12_7 ha0.1 rfl rfl ?_
    refine fx_bipush (x := 8) dX12_chain_15 rfl (by decide) ?_
    obtain ⟨hj2, h⟩ := xChk_el h
    obtain ⟨x1, hx1, h⟩ := xLet_el h
    refine gx_iaload dX12_chain_17 rfl ha0.2.1 hj2 hx1 ?_
    refine fx_icmp_ge (t := 79) dX12_chain_18 rfl rfl (fun hc3 => ?_) (fun hc3 => ?_)
    · rw [if_pos hc3] at h
      refine fx_iload dX12_chain_79 rfl rfl ?_
      cases h
      exact fx_ireturn dX12_chain_81 rfl rfl
    · rw [if_neg hc3] at h
      refine fx_iload dX12_chain_21 rfl rfl ?_
      refine fx_aload_n dX12_chain_23 rfl rfl ?_
      refine gx_getr dX12_chain_24 rfl fd_12_7 ha0.1 rfl rfl ?_
      refine fx_sipush (x := 1550) dX12_chain_27 rfl (by decide) ?_
      refine fx_iload dX12_chain_30 rfl rfl ?_
      obtain ⟨x4, hx4, h⟩ := xLet_el h
      refine fx_iadd dX12_chain_32 rfl hx4 ?_
      obtain ⟨hj6, h⟩ := xChk_el h
      obtain ⟨x5, hx5, h⟩ := xLet_el h
      refine gx_iaload dX12_chain_33 rfl ha0.2.1 hj6 hx5 ?_
      refine fx_aload_n dX12_chain_34 rfl rfl ?_
      refine gx_getr dX12_chain_35 rfl fd_12_7 ha0.1 rfl rfl ?_
      refine fx_sipush (x := 1550) dX12_chain_38 rfl (by decide) ?_
      refine fx_iload dX12_chain_41 rfl rfl ?_
      obtain ⟨x7, hx7, h⟩ := xLet_el h
      refine fx_iadd dX12_chain_43 rfl hx7 ?_
      refine fx_iconst (x := 1) dX12_chain_44 rfl (by decide) ?_
      obtain ⟨x8, hx8, h⟩ := xLet_el h
      refine fx_isub dX12_chain_45 rfl hx8 ?_
      obtain ⟨hj10, h⟩ := xChk_el h
      obtain ⟨x9, hx9, h⟩ := xLet_el h
      refine gx_iaload dX12_chain_46 rfl ha0.2.1 hj10 hx9 ?_
      obtain ⟨x11, hx11, h⟩ := xLet_el h
      refine fx_isub dX12_chain_47 rfl hx11 ?_
      obtain ⟨x12, hx12, h⟩ := xLet_el h
      refine fx_iadd dX12_chain_48 rfl hx12 ?_
      refine fx_istore (ls2 := [some (.ref a0), some (.int a1), some (.int a2), some (.int a3), some (.int x12), some (.int l5), some (.int l6)]) dX12_chain_49 rfl rfl rfl ?_
      refine fx_iload dX12_chain_51 rfl rfl ?_
      refine fx_iconst (x := 0) dX12_chain_53 rfl (by decide) ?_
      refine fx_iconst (x := 2) dX12_chain_54 rfl (by decide) ?_
      obtain ⟨p13, ep13, h⟩ := xBind_el h
      refine gx_calls (as := [.int x12, .int (0 : Int32), .int (2 : Int32)]) (r := []) rfl dX12_chain_55 ca_12_95 rfl me_18 rfl rfl rfl rfl (fX12_in_ok (d := d) (by omega) ep13) rfl rfl ?_
      refine fx_if_ne (t := 63) dX12_chain_58 rfl rfl (fun hc14 => ?_) (fun hc14 => ?_)
      · rw [if_pos hc14] at h
        refine fx_iload dX12_chain_63 rfl rfl ?_
        refine fx_iload dX12_chain_65 rfl rfl ?_
        obtain ⟨x15, hx15, h⟩ := xLet_el h
        refine fx_iadd dX12_chain_67 rfl hx15 ?_
        refine fx_istore (ls2 := [some (.ref a0), some (.int a1), some (.int a2), some (.int a3), some (.int x12), some (.int x15), some (.int l6)]) dX12_chain_68 rfl rfl rfl ?_
        refine fx_iload dX12_chain_70 rfl rfl ?_
        refine fx_iload_n dX12_chain_72 rfl rfl ?_
        obtain ⟨x16, hx16, h⟩ := xLet_el h
        refine fx_iadd dX12_chain_73 rfl hx16 ?_
        refine fx_istore (ls2 := [some (.ref a0), some (.int a1), some (.int a2), some (.int a3), some (.int x12), some (.int x15), some (.int x16)]) dX12_chain_74 rfl rfl rfl ?_
        refine fx_goto (t := 9) dX12_chain_76 rfl rfl ?_
        exact ih x12 x15 x16 p13.2 r h
      · rw [if_neg hc14] at h
        refine fx_iconst (x := -1) dX12_chain_61 rfl (by decide) ?_
        cases h
        exact fx_ireturn dX12_chain_62 rfl rfl
def fX12_chain_0 (a0 : Nat) (a1 : Int32) (a2 : Int32) (a3 : Int32) (m : xMem) : Option (Int32 × xMem) := fX12_chain_9 a0 a1 a2 a3 xFuel a3 (0 : Int32) a2 m
set_option maxRecDepth 4000 in
theorem fX12_chain_0_ok {a0 : Nat} {a1 : Int32} {a2 : Int32} {a3 : Int32} {d : Nat} (hd : 1 ≤ d) (ha0 : isModel a0) {o4 : Option Value} {o5 : Option Value} {o6 : Option Value} {m : xMem} {r : (Int32 × xMem)} (q4 : xNoD o4 = true) (q5 : xNoD o5 = true) (q6 : xNoD o6 = true) (h : fX12_chain_0 a0 a1 a2 a3 m = some r) : xFx hh_262 cX12_chain d 0 [some (.ref a0), some (.int a1), some (.int a2), some (.int a3), o4, o5, o6] [] (xLay m) 0 0 (some (.int r.1)) (xLay r.2) := by
  unfold fX12_chain_0 at h
  refine fx_iload_n dX12_chain_0 rfl rfl ?_
  refine fx_istore (ls2 := [some (.ref a0), some (.int a1), some (.int a2), some (.int a3), some (.int a3), o5, o6]) dX12_chain_1 rfl rfl rfl ?_
  refine fx_iconst (x := 0) dX12_chain_3 rfl (by decide) ?_
  refine fx_istore (ls2 := [some (.ref a0), some (.int a1), some (.int a2), some (.int a3), some (.int a3), some (.int (0 : Int32)), o6]) dX12_chain_4 rfl rfl rfl ?_
  refine fx_iload_n dX12_chain_6 rfl rfl ?_
  refine fx_istore (ls2 := [some (.ref a0), some (.int a1), some (.int a2), some (.int a3), some (.int a3), some (.int (0 : Int32)), some (.int a2)]) dX12_chain_7 rfl rfl rfl ?_
  exact fX12_chain_9_ok hd ha0 xFuel a3 (0 : Int32) a2 m r h
def fX12_chain (a0 : Nat) (a1 : Int32) (a2 : Int32) (a3 : Int32) (m : xMem) : Option (Int32 × xMem) := fX12_chain_0 a0 a1 a2 a3  m
theorem fX12_chain_ok {a0 : Nat} {a1 : Int32} {a2 : Int32} {a3 : Int32} {m : xMem} {r : (Int32 × xMem)} {d : Nat} (hd : 2 ≤ d) (ha0 : isModel a0) (h : fX12_chain a0 a1 a2 a3 m = some r) : xEx d 262 [.ref a0, .int a1, .int a2, .int a3] (xLay m) (some (.int r.1)) (xLay r.2) := by
  obtain ⟨d, rfl⟩ : ∃ q, d = q + 1 := ⟨d - 1, by omega⟩
  exact xEx_of me_262 rfl (fX12_chain_0_ok (d := d) (o4 := none) (o5 := none) (o6 := none) (by omega) ha0 rfl rfl rfl h)
