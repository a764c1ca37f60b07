theorem dX12_effect_0 : decode cX12_effect 0 = .ok (.iconst 0, 1) := by decide +kernel
theorem dX12_effect_1 : decode cX12_effect 1 = .ok (.istore_n 1, 1) := by decide +kernel
theorem dX12_effect_2 : decode cX12_effect 2 = .ok (.iconst 0, 1) := by decide +kernel
theorem dX12_effect_3 : decode cX12_effect 3 = .ok (.istore_n 2, 1) := by decide +kernel
theorem dX12_effect_4 : decode cX12_effect 4 = .ok (.iconst 0, 1) := by decide +kernel
theorem dX12_effect_5 : decode cX12_effect 5 = .ok (.istore_n 3, 1) := by decide +kernel
theorem dX12_effect_6 : decode cX12_effect 6 = .ok (.iload_n 3, 1) := by decide +kernel
theorem dX12_effect_7 : decode cX12_effect 7 = .ok (.bipush 6, 2) := by decide +kernel
theorem dX12_effect_9 : decode cX12_effect 9 = .ok (.if_icmp .ge 77, 3) := by decide +kernel
theorem dX12_effect_12 : decode cX12_effect 12 = .ok (.aload_n 0, 1) := by decide +kernel
theorem dX12_effect_13 : decode cX12_effect 13 = .ok (.iconst 1, 1) := by decide +kernel
theorem dX12_effect_14 : decode cX12_effect 14 = .ok (.iload_n 3, 1) := by decide +kernel
theorem dX12_effect_15 : decode cX12_effect 15 = .ok (.iconst 0, 1) := by decide +kernel
theorem dX12_effect_16 : decode cX12_effect 16 = .ok (.invokevirtual 409, 3) := by decide +kernel
theorem dX12_effect_19 : decode cX12_effect 19 = .ok (.istore 4, 2) := by decide +kernel
theorem dX12_effect_21 : decode cX12_effect 21 = .ok (.aload_n 0, 1) := by decide +kernel
theorem dX12_effect_22 : decode cX12_effect 22 = .ok (.iconst 0, 1) := by decide +kernel
theorem dX12_effect_23 : decode cX12_effect 23 = .ok (.iload_n 3, 1) := by decide +kernel
theorem dX12_effect_24 : decode cX12_effect 24 = .ok (.iconst 0, 1) := by decide +kernel
theorem dX12_effect_25 : decode cX12_effect 25 = .ok (.invokevirtual 409, 3) := by decide +kernel
theorem dX12_effect_28 : decode cX12_effect 28 = .ok (.istore 5, 2) := by decide +kernel
theorem dX12_effect_30 : decode cX12_effect 30 = .ok (.iload 4, 2) := by decide +kernel
theorem dX12_effect_32 : decode cX12_effect 32 = .ok (.ifCond .le 48, 3) := by decide +kernel
theorem dX12_effect_35 : decode cX12_effect 35 = .ok (.iload 5, 2) := by decide +kernel
theorem dX12_effect_37 : decode cX12_effect 37 = .ok (.ifCond .le 43, 3) := by decide +kernel
theorem dX12_effect_40 : decode cX12_effect 40 = .ok (.iload_n 2, 1) := by decide +kernel
theorem dX12_effect_41 : decode cX12_effect 41 = .ok (.iload 4, 2) := by decide +kernel
theorem dX12_effect_43 : decode cX12_effect 43 = .ok (.sipush 1000, 3) := by decide +kernel
theorem dX12_effect_46 : decode cX12_effect 46 = .ok (.aload_n 0, 1) := by decide +kernel
theorem dX12_effect_47 : decode cX12_effect 47 = .ok (.iconst 1, 1) := by decide +kernel
theorem dX12_effect_48 : decode cX12_effect 48 = .ok (.iload_n 3, 1) := by decide +kernel
theorem dX12_effect_49 : decode cX12_effect 49 = .ok (.iconst 1, 1) := by decide +kernel
theorem dX12_effect_50 : decode cX12_effect 50 = .ok (.invokevirtual 409, 3) := by decide +kernel
theorem dX12_effect_53 : decode cX12_effect 53 = .ok (.imul, 1) := by decide +kernel
theorem dX12_effect_54 : decode cX12_effect 54 = .ok (.iload 4, 2) := by decide +kernel
theorem dX12_effect_56 : decode cX12_effect 56 = .ok (.idiv, 1) := by decide +kernel
theorem dX12_effect_57 : decode cX12_effect 57 = .ok (.sipush 1000, 3) := by decide +kernel
theorem dX12_effect_60 : decode cX12_effect 60 = .ok (.aload_n 0, 1) := by decide +kernel
theorem dX12_effect_61 : decode cX12_effect 61 = .ok (.iconst 0, 1) := by decide +kernel
theorem dX12_effect_62 : decode cX12_effect 62 = .ok (.iload_n 3, 1) := by decide +kernel
theorem dX12_effect_63 : decode cX12_effect 63 = .ok (.iconst 1, 1) := by decide +kernel
theorem dX12_effect_64 : decode cX12_effect 64 = .ok (.invokevirtual 409, 3) := by decide +kernel
theorem dX12_effect_67 : decode cX12_effect 67 = .ok (.imul, 1) := by decide +kernel
theorem dX12_effect_68 : decode cX12_effect 68 = .ok (.iload 5, 2) := by decide +kernel
theorem dX12_effect_70 : decode cX12_effect 70 = .ok (.idiv, 1) := by decide +kernel
theorem dX12_effect_71 : decode cX12_effect 71 = .ok (.isub, 1) := by decide +kernel
theorem dX12_effect_72 : decode cX12_effect 72 = .ok (.imul, 1) := by decide +kernel
theorem dX12_effect_73 : decode cX12_effect 73 = .ok (.iadd, 1) := by decide +kernel
theorem dX12_effect_74 : decode cX12_effect 74 = .ok (.istore_n 2, 1) := by decide +kernel
theorem dX12_effect_75 : decode cX12_effect 75 = .ok (.iload_n 1, 1) := by decide +kernel
theorem dX12_effect_76 : decode cX12_effect 76 = .ok (.iload 4, 2) := by decide +kernel
theorem dX12_effect_78 : decode cX12_effect 78 = .ok (.iadd, 1) := by decide +kernel
theorem dX12_effect_79 : decode cX12_effect 79 = .ok (.istore_n 1, 1) := by decide +kernel
theorem dX12_effect_80 : decode cX12_effect 80 = .ok (.iinc 3 1, 3) := by decide +kernel
theorem dX12_effect_83 : decode cX12_effect 83 = .ok (.goto (-77), 3) := by decide +kernel
theorem dX12_effect_86 : decode cX12_effect 86 = .ok (.iload_n 1, 1) := by decide +kernel
theorem dX12_effect_87 : decode cX12_effect 87 = .ok (.ifCond .ne 9, 3) := by decide +kernel
theorem dX12_effect_90 : decode cX12_effect 90 = .ok (.ldc_w 413, 3) := by decide +kernel
theorem dX12_effect_93 : decode cX12_effect 93 = .ok (.goto 6, 3) := by decide +kernel
theorem dX12_effect_96 : decode cX12_effect 96 = .ok (.iload_n 2, 1) := by decide +kernel
theorem dX12_effect_97 : decode cX12_effect 97 = .ok (.iload_n 1, 1) := by decide +kernel
theorem dX12_effect_98 : decode cX12_effect 98 = .ok (.idiv, 1) := by decide +kernel
theorem dX12_effect_99 : decode cX12_effect 99 = .ok (.ireturn, 1) := by decide +kernel
theorem dX5_tell_0 : decode cX5_tell 0 = .ok (.aload_n 0, 1) := by decide +kernel
theorem dX5_tell_1 : decode cX5_tell 1 = .ok (.getfield 27, 3) := by decide +kernel
theorem dX5_tell_4 : decode cX5_tell 4 = .ok (.ifCond .lt 12, 3) := by decide +kernel
theorem dX5_tell_7 : decode cX5_tell 7 = .ok (.aload_n 0, 1) := by decide +kernel
theorem dX5_tell_8 : decode cX5_tell 8 = .ok (.getfield 27, 3) := by decide +kernel
theorem dX5_tell_11 : decode cX5_tell 11 = .ok (.bipush 6, 2) := by decide +kernel
theorem dX5_tell_13 : decode cX5_tell 13 = .ok (.if_icmp .lt 5, 3) := by decide +kernel
theorem dX5_tell_16 : decode cX5_tell 16 = .ok (.iconst (-1), 1) := by decide +kernel
theorem dX5_tell_17 : decode cX5_tell 17 = .ok (.ireturn, 1) := by decide +kernel
theorem dX5_tell_18 : decode cX5_tell 18 = .ok (.aload_n 0, 1) := by decide +kernel
theorem dX5_tell_19 : decode cX5_tell 19 = .ok (.getfield 11, 3) := by decide +kernel
theorem dX5_tell_22 : decode cX5_tell 22 = .ok (.aload_n 0, 1) := by decide +kernel
theorem dX5_tell_23 : decode cX5_tell 23 = .ok (.getfield 27, 3) := by decide +kernel
theorem dX5_tell_26 : decode cX5_tell 26 = .ok (.iload_n 1, 1) := by decide +kernel
theorem dX5_tell_27 : decode cX5_tell 27 = .ok (.iastore, 1) := by decide +kernel
theorem dX5_tell_28 : decode cX5_tell 28 = .ok (.aload_n 0, 1) := by decide +kernel
theorem dX5_tell_29 : decode cX5_tell 29 = .ok (.getfield 15, 3) := by decide +kernel
theorem dX5_tell_32 : decode cX5_tell 32 = .ok (.aload_n 0, 1) := by decide +kernel
theorem dX5_tell_33 : decode cX5_tell 33 = .ok (.getfield 27, 3) := by decide +kernel
theorem dX5_tell_36 : decode cX5_tell 36 = .ok (.iload_n 2, 1) := by decide +kernel
theorem dX5_tell_37 : decode cX5_tell 37 = .ok (.iastore, 1) := by decide +kernel
theorem dX5_tell_38 : decode cX5_tell 38 = .ok (.aload_n 0, 1) := by decide +kernel
theorem dX5_tell_39 : decode cX5_tell 39 = .ok (.getfield 18, 3) := by decide +kernel
theorem dX5_tell_42 : decode cX5_tell 42 = .ok (.aload_n 0, 1) := by decide +kernel
theorem dX5_tell_43 : decode cX5_tell 43 = .ok (.getfield 27, 3) := by decide +kernel
theorem dX5_tell_46 : decode cX5_tell 46 = .ok (.iload_n 3, 1) := by decide +kernel
theorem dX5_tell_47 : decode cX5_tell 47 = .ok (.iastore, 1) := by decide +kernel
theorem dX5_tell_48 : decode cX5_tell 48 = .ok (.aload_n 0, 1) := by decide +kernel
theorem dX5_tell_49 : decode cX5_tell 49 = .ok (.getfield 21, 3) := by decide +kernel
theorem dX5_tell_52 : decode cX5_tell 52 = .ok (.aload_n 0, 1) := by decide +kernel
theorem dX5_tell_53 : decode cX5_tell 53 = .ok (.getfield 27, 3) := by decide +kernel
theorem dX5_tell_56 : decode cX5_tell 56 = .ok (.iload 4, 2) := by decide +kernel
theorem dX5_tell_58 : decode cX5_tell 58 = .ok (.iastore, 1) := by decide +kernel
theorem dX5_tell_59 : decode cX5_tell 59 = .ok (.aload_n 0, 1) := by decide +kernel
theorem dX5_tell_60 : decode cX5_tell 60 = .ok (.dup, 1) := by decide +kernel
theorem dX5_tell_61 : decode cX5_tell 61 = .ok (.getfield 27, 3) := by decide +kernel
theorem dX5_tell_64 : decode cX5_tell 64 = .ok (.iconst 1, 1) := by decide +kernel
theorem dX5_tell_65 : decode cX5_tell 65 = .ok (.iadd, 1) := by decide +kernel
theorem dX5_tell_66 : decode cX5_tell 66 = .ok (.putfield 27, 3) := by decide +kernel
theorem dX5_tell_69 : decode cX5_tell 69 = .ok (.aload_n 0, 1) := by decide +kernel
theorem dX5_tell_70 : decode cX5_tell 70 = .ok (.getfield 27, 3) := by decide +kernel
theorem dX5_tell_73 : decode cX5_tell 73 = .ok (.iconst 1, 1) := by decide +kernel
theorem dX5_tell_74 : decode cX5_tell 74 = .ok (.isub, 1) := by decide +kernel
theorem dX5_tell_75 : decode cX5_tell 75 = .ok (.ireturn, 1) := by decide +kernel
theorem dX11_mend_0 : decode cX11_mend 0 = .ok (.iload_n 1, 1) := by decide +kernel
theorem dX11_mend_1 : decode cX11_mend 1 = .ok (.iconst 0, 1) := by decide +kernel
theorem dX11_mend_2 : decode cX11_mend 2 = .ok (.sipush 999, 3) := by decide +kernel
theorem dX11_mend_5 : decode cX11_mend 5 = .ok (.invokestatic 47, 3) := by decide +kernel
theorem dX11_mend_8 : decode cX11_mend 8 = .ok (.ifCond .eq 28, 3) := by decide +kernel
theorem dX11_mend_11 : decode cX11_mend 11 = .ok (.iload_n 2, 1) := by decide +kernel
theorem dX11_mend_12 : decode cX11_mend 12 = .ok (.iconst 0, 1) := by decide +kernel
theorem dX11_mend_13 : decode cX11_mend 13 = .ok (.bipush 99, 2) := by decide +kernel
theorem dX11_mend_15 : decode cX11_mend 15 = .ok (.invokestatic 47, 3) := by decide +kernel
theorem dX11_mend_18 : decode cX11_mend 18 = .ok (.ifCond .eq 18, 3) := by decide +kernel
theorem dX11_mend_21 : decode cX11_mend 21 = .ok (.iload_n 3, 1) := by decide +kernel
theorem dX11_mend_22 : decode cX11_mend 22 = .ok (.iconst 0, 1) := by decide +kernel
theorem dX11_mend_23 : decode cX11_mend 23 = .ok (.sipush 999, 3) := by decide +kernel
theorem dX11_mend_26 : decode cX11_mend 26 = .ok (.invokestatic 47, 3) := by decide +kernel
theorem dX11_mend_29 : decode cX11_mend 29 = .ok (.ifCond .eq 7, 3) := by decide +kernel
theorem dX11_mend_32 : decode cX11_mend 32 = .ok (.iconst 1, 1) := by decide +kernel
theorem dX11_mend_33 : decode cX11_mend 33 = .ok (.goto 4, 3) := by decide +kernel
theorem dX11_mend_36 : decode cX11_mend 36 = .ok (.iconst 0, 1) := by decide +kernel
theorem dX11_mend_37 : decode cX11_mend 37 = .ok (.istore 5, 2) := by decide +kernel
theorem dX11_mend_39 : decode cX11_mend 39 = .ok (.iload 5, 2) := by decide +kernel
theorem dX11_mend_41 : decode cX11_mend 41 = .ok (.ifCond .eq 14, 3) := by decide +kernel
theorem dX11_mend_44 : decode cX11_mend 44 = .ok (.iload 4, 2) := by decide +kernel
theorem dX11_mend_46 : decode cX11_mend 46 = .ok (.iconst 1, 1) := by decide +kernel
theorem dX11_mend_47 : decode cX11_mend 47 = .ok (.bipush 9, 2) := by decide +kernel
theorem dX11_mend_49 : decode cX11_mend 49 = .ok (.invokestatic 47, 3) := by decide +kernel
theorem dX11_mend_52 : decode cX11_mend 52 = .ok (.ifCond .ne 5, 3) := by decide +kernel
theorem dX11_mend_55 : decode cX11_mend 55 = .ok (.iconst (-1), 1) := by decide +kernel
theorem dX11_mend_56 : decode cX11_mend 56 = .ok (.ireturn, 1) := by decide +kernel
theorem dX11_mend_57 : decode cX11_mend 57 = .ok (.aload_n 0, 1) := by decide +kernel
theorem dX11_mend_58 : decode cX11_mend 58 = .ok (.getfield 10, 3) := by decide +kernel
theorem dX11_mend_61 : decode cX11_mend 61 = .ok (.getfield 282, 3) := by decide +kernel
theorem dX11_mend_64 : decode cX11_mend 64 = .ok (.iload_n 1, 1) := by decide +kernel
theorem dX11_mend_65 : decode cX11_mend 65 = .ok (.iload_n 2, 1) := by decide +kernel
theorem dX11_mend_66 : decode cX11_mend 66 = .ok (.iload_n 3, 1) := by decide +kernel
theorem dX11_mend_67 : decode cX11_mend 67 = .ok (.iload 4, 2) := by decide +kernel
theorem dX11_mend_69 : decode cX11_mend 69 = .ok (.invokevirtual 286, 3) := by decide +kernel
theorem dX11_mend_72 : decode cX11_mend 72 = .ok (.ireturn, 1) := by decide +kernel
theorem dX12_mend_0 : decode cX12_mend 0 = .ok (.iload_n 1, 1) := by decide +kernel
theorem dX12_mend_1 : decode cX12_mend 1 = .ok (.iconst 0, 1) := by decide +kernel
theorem dX12_mend_2 : decode cX12_mend 2 = .ok (.sipush 999, 3) := by decide +kernel
theorem dX12_mend_5 : decode cX12_mend 5 = .ok (.invokestatic 95, 3) := by decide +kernel
theorem dX12_mend_8 : decode cX12_mend 8 = .ok (.ifCond .eq 47, 3) := by decide +kernel
theorem dX12_mend_11 : decode cX12_mend 11 = .ok (.iload_n 2, 1) := by decide +kernel
theorem dX12_mend_12 : decode cX12_mend 12 = .ok (.iconst 0, 1) := by decide +kernel
theorem dX12_mend_13 : decode cX12_mend 13 = .ok (.bipush 99, 2) := by decide +kernel
theorem dX12_mend_15 : decode cX12_mend 15 = .ok (.invokestatic 95, 3) := by decide +kernel
theorem dX12_mend_18 : decode cX12_mend 18 = .ok (.ifCond .eq 37, 3) := by decide +kernel
theorem dX12_mend_21 : decode cX12_mend 21 = .ok (.iload_n 3, 1) := by decide +kernel
theorem dX12_mend_22 : decode cX12_mend 22 = .ok (.iconst 0, 1) := by decide +kernel
theorem dX12_mend_23 : decode cX12_mend 23 = .ok (.sipush 999, 3) := by decide +kernel
theorem dX12_mend_26 : decode cX12_mend 26 = .ok (.invokestatic 95, 3) := by decide +kernel
theorem dX12_mend_29 : decode cX12_mend 29 = .ok (.ifCond .eq 26, 3) := by decide +kernel
theorem dX12_mend_32 : decode cX12_mend 32 = .ok (.iload 4, 2) := by decide +kernel
theorem dX12_mend_34 : decode cX12_mend 34 = .ok (.iconst 1, 1) := by decide +kernel
theorem dX12_mend_35 : decode cX12_mend 35 = .ok (.bipush 9, 2) := by decide +kernel
theorem dX12_mend_37 : decode cX12_mend 37 = .ok (.invokestatic 95, 3) := by decide +kernel
theorem dX12_mend_40 : decode cX12_mend 40 = .ok (.ifCond .eq 15, 3) := by decide +kernel
theorem dX12_mend_43 : decode cX12_mend 43 = .ok (.aload_n 0, 1) := by decide +kernel
theorem dX12_mend_44 : decode cX12_mend 44 = .ok (.getfield 7, 3) := by decide +kernel
theorem dX12_mend_47 : decode cX12_mend 47 = .ok (.bipush 7, 2) := by decide +kernel
theorem dX12_mend_49 : decode cX12_mend 49 = .ok (.iaload, 1) := by decide +kernel
theorem dX12_mend_50 : decode cX12_mend 50 = .ok (.bipush 6, 2) := by decide +kernel
theorem dX12_mend_52 : decode cX12_mend 52 = .ok (.if_icmp .ne 5, 3) := by decide +kernel
theorem dX12_mend_55 : decode cX12_mend 55 = .ok (.iconst (-1), 1) := by decide +kernel
theorem dX12_mend_56 : decode cX12_mend 56 = .ok (.ireturn, 1) := by decide +kernel
theorem dX12_mend_57 : decode cX12_mend 57 = .ok (.sipush 1520, 3) := by decide +kernel
theorem dX12_mend_60 : decode cX12_mend 60 = .ok (.iconst 4, 1) := by decide +kernel
theorem dX12_mend_61 : decode cX12_mend 61 = .ok (.aload_n 0, 1) := by decide +kernel
theorem dX12_mend_62 : decode cX12_mend 62 = .ok (.getfield 7, 3) := by decide +kernel
theorem dX12_mend_65 : decode cX12_mend 65 = .ok (.bipush 7, 2) := by decide +kernel
theorem dX12_mend_67 : decode cX12_mend 67 = .ok (.iaload, 1) := by decide +kernel
theorem dX12_mend_68 : decode cX12_mend 68 = .ok (.imul, 1) := by decide +kernel
theorem dX12_mend_69 : decode cX12_mend 69 = .ok (.iadd, 1) := by decide +kernel
theorem dX12_mend_70 : decode cX12_mend 70 = .ok (.istore 5, 2) := by decide +kernel
theorem dX12_mend_72 : decode cX12_mend 72 = .ok (.aload_n 0, 1) := by decide +kernel
theorem dX12_mend_73 : decode cX12_mend 73 = .ok (.getfield 7, 3) := by decide +kernel
theorem dX12_mend_76 : decode cX12_mend 76 = .ok (.iload 5, 2) := by decide +kernel
theorem dX12_mend_78 : decode cX12_mend 78 = .ok (.iload_n 1, 1) := by decide +kernel
theorem dX12_mend_79 : decode cX12_mend 79 = .ok (.iastore, 1) := by decide +kernel
theorem dX12_mend_80 : decode cX12_mend 80 = .ok (.aload_n 0, 1) := by decide +kernel
theorem dX12_mend_81 : decode cX12_mend 81 = .ok (.getfield 7, 3) := by decide +kernel
theorem dX12_mend_84 : decode cX12_mend 84 = .ok (.iload 5, 2) := by decide +kernel
theorem dX12_mend_86 : decode cX12_mend 86 = .ok (.iconst 1, 1) := by decide +kernel
theorem dX12_mend_87 : decode cX12_mend 87 = .ok (.iadd, 1) := by decide +kernel
theorem dX12_mend_88 : decode cX12_mend 88 = .ok (.iload_n 2, 1) := by decide +kernel
theorem dX12_mend_89 : decode cX12_mend 89 = .ok (.iastore, 1) := by decide +kernel
theorem dX12_mend_90 : decode cX12_mend 90 = .ok (.aload_n 0, 1) := by decide +kernel
theorem dX12_mend_91 : decode cX12_mend 91 = .ok (.getfield 7, 3) := by decide +kernel
theorem dX12_mend_94 : decode cX12_mend 94 = .ok (.iload 5, 2) := by decide +kernel
theorem dX12_mend_96 : decode cX12_mend 96 = .ok (.iconst 2, 1) := by decide +kernel
theorem dX12_mend_97 : decode cX12_mend 97 = .ok (.iadd, 1) := by decide +kernel
theorem dX12_mend_98 : decode cX12_mend 98 = .ok (.iload_n 3, 1) := by decide +kernel
theorem dX12_mend_99 : decode cX12_mend 99 = .ok (.iastore, 1) := by decide +kernel
theorem dX12_mend_100 : decode cX12_mend 100 = .ok (.aload_n 0, 1) := by decide +kernel
theorem dX12_mend_101 : decode cX12_mend 101 = .ok (.getfield 7, 3) := by decide +kernel
theorem dX12_mend_104 : decode cX12_mend 104 = .ok (.iload 5, 2) := by decide +kernel
theorem dX12_mend_106 : decode cX12_mend 106 = .ok (.iconst 3, 1) := by decide +kernel
theorem dX12_mend_107 : decode cX12_mend 107 = .ok (.iadd, 1) := by decide +kernel
theorem dX12_mend_108 : decode cX12_mend 108 = .ok (.iload 4, 2) := by decide +kernel
theorem dX12_mend_110 : decode cX12_mend 110 = .ok (.iastore, 1) := by decide +kernel
theorem dX12_mend_111 : decode cX12_mend 111 = .ok (.aload_n 0, 1) := by decide +kernel
theorem dX12_mend_112 : decode cX12_mend 112 = .ok (.getfield 7, 3) := by decide +kernel
theorem dX12_mend_115 : decode cX12_mend 115 = .ok (.bipush 7, 2) := by decide +kernel
theorem dX12_mend_117 : decode cX12_mend 117 = .ok (.dup2, 1) := by decide +kernel
theorem dX12_mend_118 : decode cX12_mend 118 = .ok (.iaload, 1) := by decide +kernel
theorem dX12_mend_119 : decode cX12_mend 119 = .ok (.iconst 1, 1) := by decide +kernel
theorem dX12_mend_120 : decode cX12_mend 120 = .ok (.iadd, 1) := by decide +kernel
theorem dX12_mend_121 : decode cX12_mend 121 = .ok (.iastore, 1) := by decide +kernel
theorem dX12_mend_122 : decode cX12_mend 122 = .ok (.aload_n 0, 1) := by decide +kernel
theorem dX12_mend_123 : decode cX12_mend 123 = .ok (.getfield 7, 3) := by decide +kernel
theorem dX12_mend_126 : decode cX12_mend 126 = .ok (.bipush 7, 2) := by decide +kernel
theorem dX12_mend_128 : decode cX12_mend 128 = .ok (.iaload, 1) := by decide +kernel
theorem dX12_mend_129 : decode cX12_mend 129 = .ok (.iconst 1, 1) := by decide +kernel
theorem dX12_mend_130 : decode cX12_mend 130 = .ok (.isub, 1) := by decide +kernel
theorem dX12_mend_131 : decode cX12_mend 131 = .ok (.ireturn, 1) := by decide +kernel
theorem dX5_countBy_0 : decode cX5_countBy 0 = .ok (.iload_n 1, 1) := by decide +kernel
theorem dX5_countBy_1 : decode cX5_countBy 1 = .ok (.iconst 1, 1) := by decide +kernel
theorem dX5_countBy_2 : decode cX5_countBy 2 = .ok (.iload_n 2, 1) := by decide +kernel
theorem dX5_countBy_3 : decode cX5_countBy 3 = .ok (.ishl, 1) := by decide +kernel
theorem dX5_countBy_4 : decode cX5_countBy 4 = .ok (.ior, 1) := by decide +kernel
theorem dX5_countBy_5 : decode cX5_countBy 5 = .ok (.istore_n 3, 1) := by decide +kernel
theorem dX5_countBy_6 : decode cX5_countBy 6 = .ok (.iload_n 2, 1) := by decide +kernel
theorem dX5_countBy_7 : decode cX5_countBy 7 = .ok (.ifCond .lt 22, 3) := by decide +kernel
theorem dX5_countBy_10 : decode cX5_countBy 10 = .ok (.iload_n 2, 1) := by decide +kernel
theorem dX5_countBy_11 : decode cX5_countBy 11 = .ok (.bipush 6, 2) := by decide +kernel
theorem dX5_countBy_13 : decode cX5_countBy 13 = .ok (.if_icmp .ge 16, 3) := by decide +kernel
theorem dX5_countBy_16 : decode cX5_countBy 16 = .ok (.iload_n 3, 1) := by decide +kernel
theorem dX5_countBy_17 : decode cX5_countBy 17 = .ok (.ifCond .lt 12, 3) := by decide +kernel
theorem dX5_countBy_20 : decode cX5_countBy 20 = .ok (.iload_n 3, 1) := by decide +kernel
theorem dX5_countBy_21 : decode cX5_countBy 21 = .ok (.aload_n 0, 1) := by decide +kernel
theorem dX5_countBy_22 : decode cX5_countBy 22 = .ok (.getfield 24, 3) := by decide +kernel
theorem dX5_countBy_25 : decode cX5_countBy 25 = .ok (.arraylength, 1) := by decide +kernel
theorem dX5_countBy_26 : decode cX5_countBy 26 = .ok (.if_icmp .lt 5, 3) := by decide +kernel
theorem dX5_countBy_29 : decode cX5_countBy 29 = .ok (.iconst 0, 1) := by decide +kernel
theorem dX5_countBy_30 : decode cX5_countBy 30 = .ok (.ireturn, 1) := by decide +kernel
theorem dX5_countBy_31 : decode cX5_countBy 31 = .ok (.iconst 0, 1) := by decide +kernel
theorem dX5_countBy_32 : decode cX5_countBy 32 = .ok (.istore 4, 2) := by decide +kernel
theorem dX5_countBy_34 : decode cX5_countBy 34 = .ok (.iconst 0, 1) := by decide +kernel
theorem dX5_countBy_35 : decode cX5_countBy 35 = .ok (.istore 5, 2) := by decide +kernel
theorem dX5_countBy_37 : decode cX5_countBy 37 = .ok (.iload 5, 2) := by decide +kernel
theorem dX5_countBy_39 : decode cX5_countBy 39 = .ok (.bipush 6, 2) := by decide +kernel
theorem dX5_countBy_41 : decode cX5_countBy 41 = .ok (.if_icmp .ge 35, 3) := by decide +kernel
theorem dX5_countBy_44 : decode cX5_countBy 44 = .ok (.iload 4, 2) := by decide +kernel
theorem dX5_countBy_46 : decode cX5_countBy 46 = .ok (.iload_n 1, 1) := by decide +kernel
theorem dX5_countBy_47 : decode cX5_countBy 47 = .ok (.iload 5, 2) := by decide +kernel
theorem dX5_countBy_49 : decode cX5_countBy 49 = .ok (.ishr, 1) := by decide +kernel
theorem dX5_countBy_50 : decode cX5_countBy 50 = .ok (.iconst 1, 1) := by decide +kernel
theorem dX5_countBy_51 : decode cX5_countBy 51 = .ok (.iand, 1) := by decide +kernel
theorem dX5_countBy_52 : decode cX5_countBy 52 = .ok (.iconst 1, 1) := by decide +kernel
theorem dX5_countBy_53 : decode cX5_countBy 53 = .ok (.if_icmp .ne 13, 3) := by decide +kernel
theorem dX5_countBy_56 : decode cX5_countBy 56 = .ok (.aload_n 0, 1) := by decide +kernel
theorem dX5_countBy_57 : decode cX5_countBy 57 = .ok (.getfield 21, 3) := by decide +kernel
theorem dX5_countBy_60 : decode cX5_countBy 60 = .ok (.iload 5, 2) := by decide +kernel
theorem dX5_countBy_62 : decode cX5_countBy 62 = .ok (.iaload, 1) := by decide +kernel
theorem dX5_countBy_63 : decode cX5_countBy 63 = .ok (.goto 4, 3) := by decide +kernel
theorem dX5_countBy_66 : decode cX5_countBy 66 = .ok (.iconst 0, 1) := by decide +kernel
theorem dX5_countBy_67 : decode cX5_countBy 67 = .ok (.iadd, 1) := by decide +kernel
theorem dX5_countBy_68 : decode cX5_countBy 68 = .ok (.istore 4, 2) := by decide +kernel
theorem dX5_countBy_70 : decode cX5_countBy 70 = .ok (.iinc 5 1, 3) := by decide +kernel
theorem dX5_countBy_73 : decode cX5_countBy 73 = .ok (.goto (-36), 3) := by decide +kernel
theorem dX5_countBy_76 : decode cX5_countBy 76 = .ok (.aload_n 0, 1) := by decide +kernel
theorem dX5_countBy_77 : decode cX5_countBy 77 = .ok (.getfield 24, 3) := by decide +kernel
theorem dX5_countBy_80 : decode cX5_countBy 80 = .ok (.iload_n 3, 1) := by decide +kernel
theorem dX5_countBy_81 : decode cX5_countBy 81 = .ok (.iaload, 1) := by decide +kernel
theorem dX5_countBy_82 : decode cX5_countBy 82 = .ok (.istore 5, 2) := by decide +kernel
theorem dX5_countBy_84 : decode cX5_countBy 84 = .ok (.iconst 0, 1) := by decide +kernel
theorem dX5_countBy_85 : decode cX5_countBy 85 = .ok (.istore 6, 2) := by decide +kernel
theorem dX5_countBy_87 : decode cX5_countBy 87 = .ok (.iload 6, 2) := by decide +kernel
theorem dX5_countBy_89 : decode cX5_countBy 89 = .ok (.aload_n 0, 1) := by decide +kernel
theorem dX5_countBy_90 : decode cX5_countBy 90 = .ok (.getfield 27, 3) := by decide +kernel
theorem dX5_countBy_93 : decode cX5_countBy 93 = .ok (.if_icmp .ge 80, 3) := by decide +kernel
theorem dX5_countBy_96 : decode cX5_countBy 96 = .ok (.iload 6, 2) := by decide +kernel
theorem dX5_countBy_98 : decode cX5_countBy 98 = .ok (.bipush 6, 2) := by decide +kernel
theorem dX5_countBy_100 : decode cX5_countBy 100 = .ok (.if_icmp .ge 73, 3) := by decide +kernel
theorem dX5_countBy_103 : decode cX5_countBy 103 = .ok (.iload 4, 2) := by decide +kernel
theorem dX5_countBy_105 : decode cX5_countBy 105 = .ok (.istore 7, 2) := by decide +kernel
theorem dX5_countBy_107 : decode cX5_countBy 107 = .ok (.iload 7, 2) := by decide +kernel
theorem dX5_countBy_109 : decode cX5_countBy 109 = .ok (.iload 4, 2) := by decide +kernel
theorem dX5_countBy_111 : decode cX5_countBy 111 = .ok (.aload_n 0, 1) := by decide +kernel
theorem dX5_countBy_112 : decode cX5_countBy 112 = .ok (.getfield 21, 3) := by decide +kernel
theorem dX5_countBy_115 : decode cX5_countBy 115 = .ok (.iload_n 2, 1) := by decide +kernel
theorem dX5_countBy_116 : decode cX5_countBy 116 = .ok (.iaload, 1) := by decide +kernel
theorem dX5_countBy_117 : decode cX5_countBy 117 = .ok (.iadd, 1) := by decide +kernel
theorem dX5_countBy_118 : decode cX5_countBy 118 = .ok (.if_icmp .ge 49, 3) := by decide +kernel
theorem dX5_countBy_121 : decode cX5_countBy 121 = .ok (.iload_n 3, 1) := by decide +kernel
theorem dX5_countBy_122 : decode cX5_countBy 122 = .ok (.iload 6, 2) := by decide +kernel
theorem dX5_countBy_124 : decode cX5_countBy 124 = .ok (.ishr, 1) := by decide +kernel
theorem dX5_countBy_125 : decode cX5_countBy 125 = .ok (.iconst 1, 1) := by decide +kernel
theorem dX5_countBy_126 : decode cX5_countBy 126 = .ok (.iand, 1) := by decide +kernel
theorem dX5_countBy_127 : decode cX5_countBy 127 = .ok (.ifCond .ne 34, 3) := by decide +kernel
theorem dX5_countBy_130 : decode cX5_countBy 130 = .ok (.aload_n 0, 1) := by decide +kernel
theorem dX5_countBy_131 : decode cX5_countBy 131 = .ok (.getfield 11, 3) := by decide +kernel
theorem dX5_countBy_134 : decode cX5_countBy 134 = .ok (.iload 6, 2) := by decide +kernel
theorem dX5_countBy_136 : decode cX5_countBy 136 = .ok (.iaload, 1) := by decide +kernel
theorem dX5_countBy_137 : decode cX5_countBy 137 = .ok (.aload_n 0, 1) := by decide +kernel
theorem dX5_countBy_138 : decode cX5_countBy 138 = .ok (.getfield 15, 3) := by decide +kernel
theorem dX5_countBy_141 : decode cX5_countBy 141 = .ok (.iload 6, 2) := by decide +kernel
theorem dX5_countBy_143 : decode cX5_countBy 143 = .ok (.iaload, 1) := by decide +kernel
theorem dX5_countBy_144 : decode cX5_countBy 144 = .ok (.iload 7, 2) := by decide +kernel
theorem dX5_countBy_146 : decode cX5_countBy 146 = .ok (.imul, 1) := by decide +kernel
theorem dX5_countBy_147 : decode cX5_countBy 147 = .ok (.iadd, 1) := by decide +kernel
theorem dX5_countBy_148 : decode cX5_countBy 148 = .ok (.aload_n 0, 1) := by decide +kernel
theorem dX5_countBy_149 : decode cX5_countBy 149 = .ok (.getfield 18, 3) := by decide +kernel
theorem dX5_countBy_152 : decode cX5_countBy 152 = .ok (.iload 6, 2) := by decide +kernel
theorem dX5_countBy_154 : decode cX5_countBy 154 = .ok (.iaload, 1) := by decide +kernel
theorem dX5_countBy_155 : decode cX5_countBy 155 = .ok (.if_icmp .le 6, 3) := by decide +kernel
theorem dX5_countBy_158 : decode cX5_countBy 158 = .ok (.iinc 5 1, 3) := by decide +kernel
theorem dX5_countBy_161 : decode cX5_countBy 161 = .ok (.iinc 7 1, 3) := by decide +kernel
theorem dX5_countBy_164 : decode cX5_countBy 164 = .ok (.goto (-57), 3) := by decide +kernel
theorem dX5_countBy_167 : decode cX5_countBy 167 = .ok (.iinc 6 1, 3) := by decide +kernel
theorem dX5_countBy_170 : decode cX5_countBy 170 = .ok (.goto (-83), 3) := by decide +kernel
theorem dX5_countBy_173 : decode cX5_countBy 173 = .ok (.iload 5, 2) := by decide +kernel
theorem dX5_countBy_175 : decode cX5_countBy 175 = .ok (.ireturn, 1) := by decide +kernel
theorem dX5_bestNext_0 : decode cX5_bestNext 0 = .ok (.iconst (-1), 1) := by decide +kernel
theorem dX5_bestNext_1 : decode cX5_bestNext 1 = .ok (.istore_n 2, 1) := by decide +kernel
theorem dX5_bestNext_2 : decode cX5_bestNext 2 = .ok (.iconst 0, 1) := by decide +kernel
theorem dX5_bestNext_3 : decode cX5_bestNext 3 = .ok (.istore_n 3, 1) := by decide +kernel
theorem dX5_bestNext_4 : decode cX5_bestNext 4 = .ok (.iconst 0, 1) := by decide +kernel
theorem dX5_bestNext_5 : decode cX5_bestNext 5 = .ok (.istore 4, 2) := by decide +kernel
theorem dX5_bestNext_7 : decode cX5_bestNext 7 = .ok (.iload 4, 2) := by decide +kernel
theorem dX5_bestNext_9 : decode cX5_bestNext 9 = .ok (.aload_n 0, 1) := by decide +kernel
theorem dX5_bestNext_10 : decode cX5_bestNext 10 = .ok (.getfield 27, 3) := by decide +kernel
theorem dX5_bestNext_13 : decode cX5_bestNext 13 = .ok (.if_icmp .ge 51, 3) := by decide +kernel
theorem dX5_bestNext_16 : decode cX5_bestNext 16 = .ok (.iload 4, 2) := by decide +kernel
theorem dX5_bestNext_18 : decode cX5_bestNext 18 = .ok (.bipush 6, 2) := by decide +kernel
theorem dX5_bestNext_20 : decode cX5_bestNext 20 = .ok (.if_icmp .ge 44, 3) := by decide +kernel
theorem dX5_bestNext_23 : decode cX5_bestNext 23 = .ok (.iload_n 1, 1) := by decide +kernel
theorem dX5_bestNext_24 : decode cX5_bestNext 24 = .ok (.iload 4, 2) := by decide +kernel
theorem dX5_bestNext_26 : decode cX5_bestNext 26 = .ok (.ishr, 1) := by decide +kernel
theorem dX5_bestNext_27 : decode cX5_bestNext 27 = .ok (.iconst 1, 1) := by decide +kernel
theorem dX5_bestNext_28 : decode cX5_bestNext 28 = .ok (.iand, 1) := by decide +kernel
theorem dX5_bestNext_29 : decode cX5_bestNext 29 = .ok (.ifCond .ne 29, 3) := by decide +kernel
theorem dX5_bestNext_32 : decode cX5_bestNext 32 = .ok (.aload_n 0, 1) := by decide +kernel
theorem dX5_bestNext_33 : decode cX5_bestNext 33 = .ok (.iload_n 1, 1) := by decide +kernel
theorem dX5_bestNext_34 : decode cX5_bestNext 34 = .ok (.iload 4, 2) := by decide +kernel
theorem dX5_bestNext_36 : decode cX5_bestNext 36 = .ok (.invokevirtual 47, 3) := by decide +kernel
theorem dX5_bestNext_39 : decode cX5_bestNext 39 = .ok (.istore 5, 2) := by decide +kernel
theorem dX5_bestNext_41 : decode cX5_bestNext 41 = .ok (.iload_n 2, 1) := by decide +kernel
theorem dX5_bestNext_42 : decode cX5_bestNext 42 = .ok (.iconst (-1), 1) := by decide +kernel
theorem dX5_bestNext_43 : decode cX5_bestNext 43 = .ok (.if_icmp .eq 9, 3) := by decide +kernel
theorem dX5_bestNext_46 : decode cX5_bestNext 46 = .ok (.iload 5, 2) := by decide +kernel
theorem dX5_bestNext_48 : decode cX5_bestNext 48 = .ok (.iload_n 3, 1) := by decide +kernel
theorem dX5_bestNext_49 : decode cX5_bestNext 49 = .ok (.if_icmp .ge 9, 3) := by decide +kernel
theorem dX5_bestNext_52 : decode cX5_bestNext 52 = .ok (.iload 4, 2) := by decide +kernel
theorem dX5_bestNext_54 : decode cX5_bestNext 54 = .ok (.istore_n 2, 1) := by decide +kernel
theorem dX5_bestNext_55 : decode cX5_bestNext 55 = .ok (.iload 5, 2) := by decide +kernel
theorem dX5_bestNext_57 : decode cX5_bestNext 57 = .ok (.istore_n 3, 1) := by decide +kernel
theorem dX5_bestNext_58 : decode cX5_bestNext 58 = .ok (.iinc 4 1, 3) := by decide +kernel
theorem dX5_bestNext_61 : decode cX5_bestNext 61 = .ok (.goto (-54), 3) := by decide +kernel
theorem dX5_bestNext_64 : decode cX5_bestNext 64 = .ok (.iload_n 2, 1) := by decide +kernel
theorem dX5_bestNext_65 : decode cX5_bestNext 65 = .ok (.ireturn, 1) := by decide +kernel
theorem dX5_inTurn_0 : decode cX5_inTurn 0 = .ok (.iconst 0, 1) := by decide +kernel
theorem dX5_inTurn_1 : decode cX5_inTurn 1 = .ok (.istore_n 2, 1) := by decide +kernel
theorem dX5_inTurn_2 : decode cX5_inTurn 2 = .ok (.iconst 0, 1) := by decide +kernel
theorem dX5_inTurn_3 : decode cX5_inTurn 3 = .ok (.istore_n 3, 1) := by decide +kernel
theorem dX5_inTurn_4 : decode cX5_inTurn 4 = .ok (.iload_n 3, 1) := by decide +kernel
theorem dX5_inTurn_5 : decode cX5_inTurn 5 = .ok (.iload_n 1, 1) := by decide +kernel
theorem dX5_inTurn_6 : decode cX5_inTurn 6 = .ok (.if_icmp .ge 35, 3) := by decide +kernel
theorem dX5_inTurn_9 : decode cX5_inTurn 9 = .ok (.iload_n 3, 1) := by decide +kernel
theorem dX5_inTurn_10 : decode cX5_inTurn 10 = .ok (.bipush 6, 2) := by decide +kernel
theorem dX5_inTurn_12 : decode cX5_inTurn 12 = .ok (.if_icmp .ge 29, 3) := by decide +kernel
theorem dX5_inTurn_15 : decode cX5_inTurn 15 = .ok (.aload_n 0, 1) := by decide +kernel
theorem dX5_inTurn_16 : decode cX5_inTurn 16 = .ok (.iload_n 2, 1) := by decide +kernel
theorem dX5_inTurn_17 : decode cX5_inTurn 17 = .ok (.invokevirtual 43, 3) := by decide +kernel
theorem dX5_inTurn_20 : decode cX5_inTurn 20 = .ok (.istore 4, 2) := by decide +kernel
theorem dX5_inTurn_22 : decode cX5_inTurn 22 = .ok (.iload 4, 2) := by decide +kernel
theorem dX5_inTurn_24 : decode cX5_inTurn 24 = .ok (.iconst (-1), 1) := by decide +kernel
theorem dX5_inTurn_25 : decode cX5_inTurn 25 = .ok (.if_icmp .eq 10, 3) := by decide +kernel
theorem dX5_inTurn_28 : decode cX5_inTurn 28 = .ok (.iload_n 2, 1) := by decide +kernel
theorem dX5_inTurn_29 : decode cX5_inTurn 29 = .ok (.iconst 1, 1) := by decide +kernel
theorem dX5_inTurn_30 : decode cX5_inTurn 30 = .ok (.iload 4, 2) := by decide +kernel
theorem dX5_inTurn_32 : decode cX5_inTurn 32 = .ok (.ishl, 1) := by decide +kernel
theorem dX5_inTurn_33 : decode cX5_inTurn 33 = .ok (.ior, 1) := by decide +kernel
theorem dX5_inTurn_34 : decode cX5_inTurn 34 = .ok (.istore_n 2, 1) := by decide +kernel
theorem dX5_inTurn_35 : decode cX5_inTurn 35 = .ok (.iinc 3 1, 3) := by decide +kernel
theorem dX5_inTurn_38 : decode cX5_inTurn 38 = .ok (.goto (-34), 3) := by decide +kernel
theorem dX5_inTurn_41 : decode cX5_inTurn 41 = .ok (.aload_n 0, 1) := by decide +kernel
theorem dX5_inTurn_42 : decode cX5_inTurn 42 = .ok (.iload_n 2, 1) := by decide +kernel
theorem dX5_inTurn_43 : decode cX5_inTurn 43 = .ok (.invokevirtual 43, 3) := by decide +kernel
theorem dX5_inTurn_46 : decode cX5_inTurn 46 = .ok (.ireturn, 1) := by decide +kernel
theorem dX5_weigh_0 : decode cX5_weigh 0 = .ok (.iconst 1, 1) := by decide +kernel
theorem dX5_weigh_1 : decode cX5_weigh 1 = .ok (.aload_n 0, 1) := by decide +kernel
theorem dX5_weigh_2 : decode cX5_weigh 2 = .ok (.getfield 27, 3) := by decide +kernel
theorem dX5_weigh_5 : decode cX5_weigh 5 = .ok (.ishl, 1) := by decide +kernel
theorem dX5_weigh_6 : decode cX5_weigh 6 = .ok (.iconst 1, 1) := by decide +kernel
theorem dX5_weigh_7 : decode cX5_weigh 7 = .ok (.isub, 1) := by decide +kernel
theorem dX5_weigh_8 : decode cX5_weigh 8 = .ok (.aload_n 0, 1) := by decide +kernel
theorem dX5_weigh_9 : decode cX5_weigh 9 = .ok (.getfield 24, 3) := by decide +kernel
theorem dX5_weigh_12 : decode cX5_weigh 12 = .ok (.arraylength, 1) := by decide +kernel
theorem dX5_weigh_13 : decode cX5_weigh 13 = .ok (.iconst 1, 1) := by decide +kernel
theorem dX5_weigh_14 : decode cX5_weigh 14 = .ok (.isub, 1) := by decide +kernel
theorem dX5_weigh_15 : decode cX5_weigh 15 = .ok (.invokestatic 37, 3) := by decide +kernel
theorem dX5_weigh_18 : decode cX5_weigh 18 = .ok (.istore_n 1, 1) := by decide +kernel
theorem dX5_weigh_19 : decode cX5_weigh 19 = .ok (.iload_n 1, 1) := by decide +kernel
theorem dX5_weigh_20 : decode cX5_weigh 20 = .ok (.istore_n 2, 1) := by decide +kernel
theorem dX5_weigh_21 : decode cX5_weigh 21 = .ok (.iload_n 2, 1) := by decide +kernel
theorem dX5_weigh_22 : decode cX5_weigh 22 = .ok (.ifCond .lt 36, 3) := by decide +kernel
theorem dX5_weigh_25 : decode cX5_weigh 25 = .ok (.aload_n 0, 1) := by decide +kernel
theorem dX5_weigh_26 : decode cX5_weigh 26 = .ok (.iload_n 2, 1) := by decide +kernel
theorem dX5_weigh_27 : decode cX5_weigh 27 = .ok (.invokevirtual 43, 3) := by decide +kernel
theorem dX5_weigh_30 : decode cX5_weigh 30 = .ok (.istore_n 3, 1) := by decide +kernel
theorem dX5_weigh_31 : decode cX5_weigh 31 = .ok (.aload_n 0, 1) := by decide +kernel
theorem dX5_weigh_32 : decode cX5_weigh 32 = .ok (.getfield 24, 3) := by decide +kernel
theorem dX5_weigh_35 : decode cX5_weigh 35 = .ok (.iload_n 2, 1) := by decide +kernel
theorem dX5_weigh_36 : decode cX5_weigh 36 = .ok (.iload_n 3, 1) := by decide +kernel
theorem dX5_weigh_37 : decode cX5_weigh 37 = .ok (.iconst (-1), 1) := by decide +kernel
theorem dX5_weigh_38 : decode cX5_weigh 38 = .ok (.if_icmp .ne 7, 3) := by decide +kernel
theorem dX5_weigh_41 : decode cX5_weigh 41 = .ok (.iconst 0, 1) := by decide +kernel
theorem dX5_weigh_42 : decode cX5_weigh 42 = .ok (.goto 9, 3) := by decide +kernel
theorem dX5_weigh_45 : decode cX5_weigh 45 = .ok (.aload_n 0, 1) := by decide +kernel
theorem dX5_weigh_46 : decode cX5_weigh 46 = .ok (.iload_n 2, 1) := by decide +kernel
theorem dX5_weigh_47 : decode cX5_weigh 47 = .ok (.iload_n 3, 1) := by decide +kernel
theorem dX5_weigh_48 : decode cX5_weigh 48 = .ok (.invokevirtual 47, 3) := by decide +kernel
theorem dX5_weigh_51 : decode cX5_weigh 51 = .ok (.iastore, 1) := by decide +kernel
theorem dX5_weigh_52 : decode cX5_weigh 52 = .ok (.iinc 2 (-1), 3) := by decide +kernel
theorem dX5_weigh_55 : decode cX5_weigh 55 = .ok (.goto (-34), 3) := by decide +kernel
theorem dX5_weigh_58 : decode cX5_weigh 58 = .ok (.return_, 1) := by decide +kernel
theorem dX11_order_0 : decode cX11_order 0 = .ok (.aload_n 0, 1) := by decide +kernel
theorem dX11_order_1 : decode cX11_order 1 = .ok (.getfield 10, 3) := by decide +kernel
theorem dX11_order_4 : decode cX11_order 4 = .ok (.getfield 282, 3) := by decide +kernel
theorem dX11_order_7 : decode cX11_order 7 = .ok (.getfield 290, 3) := by decide +kernel
theorem dX11_order_10 : decode cX11_order 10 = .ok (.ifCond .le 23, 3) := by decide +kernel
theorem dX11_order_13 : decode cX11_order 13 = .ok (.iload_n 1, 1) := by decide +kernel
theorem dX11_order_14 : decode cX11_order 14 = .ok (.iconst (-1), 1) := by decide +kernel
theorem dX11_order_15 : decode cX11_order 15 = .ok (.aload_n 0, 1) := by decide +kernel
theorem dX11_order_16 : decode cX11_order 16 = .ok (.getfield 10, 3) := by decide +kernel
theorem dX11_order_19 : decode cX11_order 19 = .ok (.getfield 282, 3) := by decide +kernel
theorem dX11_order_22 : decode cX11_order 22 = .ok (.getfield 290, 3) := by decide +kernel
theorem dX11_order_25 : decode cX11_order 25 = .ok (.iconst 1, 1) := by decide +kernel
theorem dX11_order_26 : decode cX11_order 26 = .ok (.isub, 1) := by decide +kernel
theorem dX11_order_27 : decode cX11_order 27 = .ok (.invokestatic 47, 3) := by decide +kernel
theorem dX11_order_30 : decode cX11_order 30 = .ok (.ifCond .ne 5, 3) := by decide +kernel
theorem dX11_order_33 : decode cX11_order 33 = .ok (.iconst (-1), 1) := by decide +kernel
theorem dX11_order_34 : decode cX11_order 34 = .ok (.ireturn, 1) := by decide +kernel
theorem dX11_order_35 : decode cX11_order 35 = .ok (.aload_n 0, 1) := by decide +kernel
theorem dX11_order_36 : decode cX11_order 36 = .ok (.getfield 10, 3) := by decide +kernel
theorem dX11_order_39 : decode cX11_order 39 = .ok (.getfield 282, 3) := by decide +kernel
theorem dX11_order_42 : decode cX11_order 42 = .ok (.invokevirtual 291, 3) := by decide +kernel
theorem dX11_order_45 : decode cX11_order 45 = .ok (.iload_n 1, 1) := by decide +kernel
theorem dX11_order_46 : decode cX11_order 46 = .ok (.iconst (-1), 1) := by decide +kernel
theorem dX11_order_47 : decode cX11_order 47 = .ok (.if_icmp .ne 18, 3) := by decide +kernel
theorem dX11_order_50 : decode cX11_order 50 = .ok (.aload_n 0, 1) := by decide +kernel
theorem dX11_order_51 : decode cX11_order 51 = .ok (.getfield 10, 3) := by decide +kernel
theorem dX11_order_54 : decode cX11_order 54 = .ok (.getfield 282, 3) := by decide +kernel
theorem dX11_order_57 : decode cX11_order 57 = .ok (.getfield 294, 3) := by decide +kernel
theorem dX11_order_60 : decode cX11_order 60 = .ok (.iconst 0, 1) := by decide +kernel
theorem dX11_order_61 : decode cX11_order 61 = .ok (.iaload, 1) := by decide +kernel
theorem dX11_order_62 : decode cX11_order 62 = .ok (.goto 14, 3) := by decide +kernel
theorem dX11_order_65 : decode cX11_order 65 = .ok (.aload_n 0, 1) := by decide +kernel
theorem dX11_order_66 : decode cX11_order 66 = .ok (.getfield 10, 3) := by decide +kernel
theorem dX11_order_69 : decode cX11_order 69 = .ok (.getfield 282, 3) := by decide +kernel
theorem dX11_order_72 : decode cX11_order 72 = .ok (.iload_n 1, 1) := by decide +kernel
theorem dX11_order_73 : decode cX11_order 73 = .ok (.invokevirtual 297, 3) := by decide +kernel
theorem dX11_order_76 : decode cX11_order 76 = .ok (.ireturn, 1) := by decide +kernel
theorem dX12_aboveOf_0 : decode cX12_aboveOf 0 = .ok (.sipush 1520, 3) := by decide +kernel
theorem dX12_aboveOf_3 : decode cX12_aboveOf 3 = .ok (.iconst 4, 1) := by decide +kernel
theorem dX12_aboveOf_4 : decode cX12_aboveOf 4 = .ok (.iload_n 1, 1) := by decide +kernel
theorem dX12_aboveOf_5 : decode cX12_aboveOf 5 = .ok (.imul, 1) := by decide +kernel
theorem dX12_aboveOf_6 : decode cX12_aboveOf 6 = .ok (.iadd, 1) := by decide +kernel
theorem dX12_aboveOf_7 : decode cX12_aboveOf 7 = .ok (.istore_n 3, 1) := by decide +kernel
theorem dX12_aboveOf_8 : decode cX12_aboveOf 8 = .ok (.iconst 0, 1) := by decide +kernel
theorem dX12_aboveOf_9 : decode cX12_aboveOf 9 = .ok (.istore 4, 2) := by decide +kernel
theorem dX12_aboveOf_11 : decode cX12_aboveOf 11 = .ok (.iconst 0, 1) := by decide +kernel
theorem dX12_aboveOf_12 : decode cX12_aboveOf 12 = .ok (.istore 5, 2) := by decide +kernel
theorem dX12_aboveOf_14 : decode cX12_aboveOf 14 = .ok (.iload 5, 2) := by decide +kernel
theorem dX12_aboveOf_16 : decode cX12_aboveOf 16 = .ok (.iload_n 2, 1) := by decide +kernel
theorem dX12_aboveOf_17 : decode cX12_aboveOf 17 = .ok (.if_icmp .ge 48, 3) := by decide +kernel
theorem dX12_aboveOf_20 : decode cX12_aboveOf 20 = .ok (.iload 4, 2) := by decide +kernel
theorem dX12_aboveOf_22 : decode cX12_aboveOf 22 = .ok (.aload_n 0, 1) := by decide +kernel
theorem dX12_aboveOf_23 : decode cX12_aboveOf 23 = .ok (.getfield 7, 3) := by decide +kernel
theorem dX12_aboveOf_26 : decode cX12_aboveOf 26 = .ok (.iload_n 3, 1) := by decide +kernel
theorem dX12_aboveOf_27 : decode cX12_aboveOf 27 = .ok (.iaload, 1) := by decide +kernel
theorem dX12_aboveOf_28 : decode cX12_aboveOf 28 = .ok (.aload_n 0, 1) := by decide +kernel
theorem dX12_aboveOf_29 : decode cX12_aboveOf 29 = .ok (.getfield 7, 3) := by decide +kernel
theorem dX12_aboveOf_32 : decode cX12_aboveOf 32 = .ok (.iload_n 3, 1) := by decide +kernel
theorem dX12_aboveOf_33 : decode cX12_aboveOf 33 = .ok (.iconst 1, 1) := by decide +kernel
theorem dX12_aboveOf_34 : decode cX12_aboveOf 34 = .ok (.iadd, 1) := by decide +kernel
theorem dX12_aboveOf_35 : decode cX12_aboveOf 35 = .ok (.iaload, 1) := by decide +kernel
theorem dX12_aboveOf_36 : decode cX12_aboveOf 36 = .ok (.iload 5, 2) := by decide +kernel
theorem dX12_aboveOf_38 : decode cX12_aboveOf 38 = .ok (.imul, 1) := by decide +kernel
theorem dX12_aboveOf_39 : decode cX12_aboveOf 39 = .ok (.iadd, 1) := by decide +kernel
theorem dX12_aboveOf_40 : decode cX12_aboveOf 40 = .ok (.aload_n 0, 1) := by decide +kernel
theorem dX12_aboveOf_41 : decode cX12_aboveOf 41 = .ok (.getfield 7, 3) := by decide +kernel
theorem dX12_aboveOf_44 : decode cX12_aboveOf 44 = .ok (.iload_n 3, 1) := by decide +kernel
theorem dX12_aboveOf_45 : decode cX12_aboveOf 45 = .ok (.iconst 2, 1) := by decide +kernel
theorem dX12_aboveOf_46 : decode cX12_aboveOf 46 = .ok (.iadd, 1) := by decide +kernel
theorem dX12_aboveOf_47 : decode cX12_aboveOf 47 = .ok (.iaload, 1) := by decide +kernel
theorem dX12_aboveOf_48 : decode cX12_aboveOf 48 = .ok (.if_icmp .le 7, 3) := by decide +kernel
theorem dX12_aboveOf_51 : decode cX12_aboveOf 51 = .ok (.iconst 1, 1) := by decide +kernel
theorem dX12_aboveOf_52 : decode cX12_aboveOf 52 = .ok (.goto 4, 3) := by decide +kernel
theorem dX12_aboveOf_55 : decode cX12_aboveOf 55 = .ok (.iconst 0, 1) := by decide +kernel
theorem dX12_aboveOf_56 : decode cX12_aboveOf 56 = .ok (.iadd, 1) := by decide +kernel
theorem dX12_aboveOf_57 : decode cX12_aboveOf 57 = .ok (.istore 4, 2) := by decide +kernel
theorem dX12_aboveOf_59 : decode cX12_aboveOf 59 = .ok (.iinc 5 1, 3) := by decide +kernel
theorem dX12_aboveOf_62 : decode cX12_aboveOf 62 = .ok (.goto (-48), 3) := by decide +kernel
theorem dX12_aboveOf_65 : decode cX12_aboveOf 65 = .ok (.iload 4, 2) := by decide +kernel
theorem dX12_aboveOf_67 : decode cX12_aboveOf 67 = .ok (.ireturn, 1) := by decide +kernel
def fX12_effect_80 (a0 : Nat) (rec6 : Int32 → Int32 → Int32 → xMem → Option (Int32 × xMem)) (l1 : Int32) (l2 : Int32) (l3 : Int32) (m : xMem) : Option (Int32 × xMem) := xLet (l3 + (1 : Int32)) fun x1 => rec6 l1 l2 x1 m
set_option maxRecDepth 4000 in
theorem fX12_effect_80_ok {a0 : Nat} {rec6 : Int32 → Int32 → Int32 → xMem → Option (Int32 × xMem)} {d : Nat} (hd : 1 ≤ d) (ha0 : isModel a0) (hrec6 : ∀ (l1 : Int32) (l2 : Int32) (l3 : Int32) (o4 : Option Value) (o5 : Option Value) (q4 : xNoD o4 = true) (q5 : xNoD o5 = true) (m : xMem) (r : (Int32 × xMem)), rec6 l1 l2 l3 m = some r → xFx hh_241 cX12_effect d 6 [some (.ref a0), some (.int l1), some (.int l2), some (.int l3), o4, o5] [] (xLay m) 0 0 (some (.int r.1)) (xLay r.2)) {l1 : Int32} {l2 : Int32} {l3 : Int32} {o4 : Option Value} {o5 : Option Value} {m : xMem} {r : (Int32 × xMem)} (q4 : xNoD o4 = true) (q5 : xNoD o5 = true) (h : fX12_effect_80 a0 rec6 l1 l2 l3 m = some r) : xFx hh_241 cX12_effect d 80 [some (.ref a0), some (.int l1), some (.int l2), some (.int l3), o4, o5] [] (xLay m) 0 0 (some (.int r.1)) (xLay r.2) := by
  unfold fX12_effect_80 at h
  obtain ⟨x1, hx1, h⟩ := xLet_el h
  refine fx_iinc (ls2 := [some (.ref a0), some (.int l1), some (.int l2), some (.int x1), o4, o5]) dX12_effect_80 rfl rfl rfl hx1 rfl ?_
  refine fx_goto (t := 6) dX12_effect_83 rfl rfl ?_
  exact hrec6 l1 l2 x1 (o4) (o5) q4 q5 m r h
def fX12_effect_99 (a0 : Nat) (s0 : Int32) (m : xMem) : Option (Int32 × xMem) := some (s0, m)
set_option maxRecDepth 4000 in
theorem fX12_effect_99_ok {a0 : Nat} {d : Nat} (hd : 1 ≤ d) (ha0 : isModel a0) {s0 : Int32} {o1 : Option Value} {o2 : Option Value} {o3 : Option Value} {o4 : Option Value} {o5 : Option Value} {m : xMem} {r : (Int32 × xMem)} (q1 : xNoD o1 = true) (q2 : xNoD o2 = true) (q3 : xNoD o3 = true) (q4 : xNoD o4 = true) (q5 : xNoD o5 = true) (h : fX12_effect_99 a0 s0 m = some r) : xFx hh_241 cX12_effect d 99 [some (.ref a0), o1, o2, o3, o4, o5] [.int s0] (xLay m) 0 0 (some (.int r.1)) (xLay r.2) := by
  unfold fX12_effect_99 at h
  cases h
  exact fx_ireturn dX12_effect_99 rfl rfl
def fX12_effect_6 (a0 : Nat) : Nat → Int32 → Int32 → Int32 → xMem → Option (Int32 × xMem)
  | 0, _, _, _, _ => none
  | fuel + 1, l1, l2, l3, m => if (6 : Int32) ≤ l3 then if ¬ l1 = (0 : Int32) then bif !decide (l1 = 0) then xLet (l2 / l1) fun x3 => fX12_effect_99 a0 x3 m else none else fX12_effect_99 a0 (-1000000000 : Int32) m else (fX12_daysOf a0 (1 : Int32) l3 (0 : Int32) m).bind fun p5 => (fX12_daysOf a0 (0 : Int32) l3 (0 : Int32) p5.2).bind fun p6 => if p5.1 ≤ (0 : Int32) then fX12_effect_80 a0 (fX12_effect_6 a0 fuel) l1 l2 l3 p6.2 else if p6.1 ≤ (0 : Int32) then fX12_effect_80 a0 (fX12_effect_6 a0 fuel) l1 l2 l3 p6.2 else (fX12_daysOf a0 (1 : Int32) l3 (1 : Int32) p6.2).bind fun p9 => xLet ((1000 : Int32) * p9.1) fun x10 => bif !decide (p5.1 = 0) then xLet (x10 / p5.1) fun x11 => (fX12_daysOf a0 (0 : Int32) l3 (1 : Int32) p9.2).bind fun p13 => xLet ((1000 : Int32) * p13.1) fun x14 => bif !decide (p6.1 = 0) then xLet (x14 / p6.1) fun x15 => xLet (x11 - x15) fun x17 => xLet (p5.1 * x17) fun x18 => xLet (l2 + x18) fun x19 => xLet (l1 + p5.1) fun x20 => fX12_effect_80 a0 (fX12_effect_6 a0 fuel) x20 x19 l3 p13.2 else none else none
set_option maxRecDepth 4000 in
theorem fX12_effect_6_ok {a0 : Nat} {d : Nat} (hd : 1 ≤ d) (ha0 : isModel a0) : ∀ (fuel : Nat) (l1 : Int32) (l2 : Int32) (l3 : Int32) (o4 : Option Value) (o5 : Option Value) (q4 : xNoD o4 = true) (q5 : xNoD o5 = true) (m : xMem) (r : (Int32 × xMem)), fX12_effect_6 a0 fuel l1 l2 l3 m = some r → xFx hh_241 cX12_effect d 6 [some (.ref a0), some (.int l1), some (.int l2), some (.int l3), o4, o5] [] (xLay m) 0 0 (some (.int r.1)) (xLay r.2) := by
  intro fuel
  induction fuel with
  | zero => intro l1 l2 l3 o4 o5 q4 q5 m r  h; cases h
  | succ fuel ih =>
    intro l1 l2 l3 o4 o5 q4 q5 m r  h
    unfold fX12_effect_6 at h
    refine fx_iload_n dX12_effect_6 rfl rfl ?_
    refine fx_bipush (x := 6) dX12_effect_7 rfl (by decide) ?_
    refine fx_icmp_ge (t := 86) dX12_effect_9 rfl rfl (fun hc1 => ?_) (fun hc1 => ?_)
    · rw [if_pos hc1] at h
      refine fx_iload_n dX12_effect_86 rfl rfl ?_
      refine fx_if_ne (t := 96) dX12_effect_87 rfl rfl (fun hc2 => ?_) (fun hc2 => ?_)
      · rw [if_pos hc2] at h
        refine fx_iload_n dX12_effect_96 rfl rfl ?_
        refine fx_iload_n dX12_effect_97 rfl rfl ?_
        obtain ⟨hz4, h⟩ := xChk_el h
        obtain ⟨x3, hx3, h⟩ := xLet_el h
        refine fx_idiv dX12_effect_98 rfl (by simpa using hz4) hx3 ?_
        exact fX12_effect_99_ok (o1 := some (.int l1)) (o2 := some (.int l2)) (o3 := some (.int l3)) (o4 := o4) (o5 := o5) hd ha0 rfl rfl rfl q4 q5 h
      · rw [if_neg hc2] at h
        refine fx_ldc_w dX12_effect_90 rfl ck_12_413 ?_
        refine fx_goto (t := 99) dX12_effect_93 rfl rfl ?_
        exact fX12_effect_99_ok (o1 := some (.int l1)) (o2 := some (.int l2)) (o3 := some (.int l3)) (o4 := o4) (o5 := o5) hd ha0 rfl rfl rfl q4 q5 h
    · rw [if_neg hc1] at h
      refine fx_aload_n dX12_effect_12 rfl rfl ?_
      refine fx_iconst (x := 1) dX12_effect_13 rfl (by decide) ?_
      refine fx_iload_n dX12_effect_14 rfl rfl ?_
      refine fx_iconst (x := 0) dX12_effect_15 rfl (by decide) ?_
      obtain ⟨p5, ep5, h⟩ := xBind_el h
      refine gx_callv (as := [.int (1 : Int32), .int l3, .int (0 : Int32)]) (r := []) rfl dX12_effect_16 ca_12_409 rfl me_242 rfl rfl rfl rfl (ha0.1) rfl (fX12_daysOf_ok (d := d) (by omega) ha0 ep5) rfl rfl ?_
      refine fx_istore (ls2 := [some (.ref a0), some (.int l1), some (.int l2), some (.int l3), some (.int p5.1), o5]) dX12_effect_19 rfl rfl rfl ?_
      refine fx_aload_n dX12_effect_21 rfl rfl ?_
      refine fx_iconst (x := 0) dX12_effect_22 rfl (by decide) ?_
      refine fx_iload_n dX12_effect_23 rfl rfl ?_
      refine fx_iconst (x := 0) dX12_effect_24 rfl (by decide) ?_
      obtain ⟨p6, ep6, h⟩ := xBind_el h
      refine gx_callv (as := [.int (0 : Int32), .int l3, .int (0 : Int32)]) (r := []) rfl dX12_effect_25 ca_12_409 rfl me_242 rfl rfl rfl rfl (ha0.1) rfl (fX12_daysOf_ok (d := d) (by omega) ha0 ep6) rfl rfl ?_
      refine fx_istore (ls2 := [some (.ref a0), some (.int l1), some (.int l2), some (.int l3), some (.int p5.1), some (.int p6.1)]) dX12_effect_28 rfl rfl rfl ?_
      refine fx_iload dX12_effect_30 rfl rfl ?_
      refine fx_if_le (t := 80) dX12_effect_32 rfl rfl (fun hc7 => ?_) (fun hc7 => ?_)
      · rw [if_pos hc7] at h
        exact fX12_effect_80_ok (o4 := some (.int p5.1)) (o5 := some (.int p6.1)) hd ha0 ih rfl rfl h
      · rw [if_neg hc7] at h
        refine fx_iload dX12_effect_35 rfl rfl ?_
        refine fx_if_le (t := 80) dX12_effect_37 rfl rfl (fun hc8 => ?_) (fun hc8 => ?_)
        · rw [if_pos hc8] at h
          exact fX12_effect_80_ok (o4 := some (.int p5.1)) (o5 := some (.int p6.1)) hd ha0 ih rfl rfl h
        · rw [if_neg hc8] at h
          refine fx_iload_n dX12_effect_40 rfl rfl ?_
          refine fx_iload dX12_effect_41 rfl rfl ?_
          refine fx_sipush (x := 1000) dX12_effect_43 rfl (by decide) ?_
          refine fx_aload_n dX12_effect_46 rfl rfl ?_
          refine fx_iconst (x := 1) dX12_effect_47 rfl (by decide) ?_
          refine fx_iload_n dX12_effect_48 rfl rfl ?_
          refine fx_iconst (x := 1) dX12_effect_49 rfl (by decide) ?_
          obtain ⟨p9, ep9, h⟩ := xBind_el h
          refine gx_callv (as := [.int (1 : Int32), .int l3, .int (1 : Int32)]) (r := [.int (1000 : Int32), .int p5.1, .int l2]) rfl dX12_effect_50 ca_12_409 rfl me_242 rfl rfl rfl rfl (ha0.1) rfl (fX12_daysOf_ok (d := d) (by omega) ha0 ep9) rfl rfl ?_
          obtain ⟨x10, hx10, h⟩ := xLet_el h
          refine fx_imul dX12_effect_53 rfl hx10 ?_
          refine fx_iload dX12_effect_54 rfl rfl ?_
          obtain ⟨hz12, h⟩ := xChk_el h
          obtain ⟨x11, hx11, h⟩ := xLet_el h
          refine fx_idiv dX12_effect_56 rfl (by simpa using hz12) hx11 ?_
          refine fx_sipush (x := 1000) dX12_effect_57 rfl (by decide) ?_
          refine fx_aload_n dX12_effect_60 rfl rfl ?_
          refine fx_iconst (x := 0) dX12_effect_61 rfl (by decide) ?_
          refine fx_iload_n dX12_effect_62 rfl rfl ?_
          refine fx_iconst (x := 1) dX12_effect_63 rfl (by decide) ?_
          obtain ⟨p13, ep13, h⟩ := xBind_el h
          refine gx_callv (as := [.int (0 : Int32), .int l3, .int (1 : Int32)]) (r := [.int (1000 : Int32), .int x11, .int p5.1, .int l2]) rfl dX12_effect_64 ca_12_409 rfl me_242 rfl rfl rfl rfl (ha0.1) rfl (fX12_daysOf_ok (d := d) (by omega) ha0 ep13) rfl rfl ?_
          obtain ⟨x14, hx14, h⟩ := xLet_el h
          refine fx_imul dX12_effect_67 rfl hx14 ?_
          refine fx_iload dX12_effect_68 rfl rfl ?_
          obtain ⟨hz16, h⟩ := xChk_el h
          obtain ⟨x15, hx15, h⟩ := xLet_el h
          refine fx_idiv dX12_effect_70 rfl (by simpa using hz16) hx15 ?_
          obtain ⟨x17, hx17, h⟩ := xLet_el h
          refine fx_isub dX12_effect_71 rfl hx17 ?_
          obtain ⟨x18, hx18, h⟩ := xLet_el h
          refine fx_imul dX12_effect_72 rfl hx18 ?_
          obtain ⟨x19, hx19, h⟩ := xLet_el h
          refine fx_iadd dX12_effect_73 rfl hx19 ?_
          refine fx_istore_n (ls2 := [some (.ref a0), some (.int l1), some (.int x19), some (.int l3), some (.int p5.1), some (.int p6.1)]) dX12_effect_74 rfl rfl rfl ?_
          refine fx_iload_n dX12_effect_75 rfl rfl ?_
          refine fx_iload dX12_effect_76 rfl rfl ?_
          obtain ⟨x20, hx20, h⟩ := xLet_el h
          refine fx_iadd dX12_effect_78 rfl hx20 ?_
          refine fx_istore_n (ls2 := [some (.ref a0), some (.int x20), some (.int x19), some (.int l3), some (.int p5.1), some (.int p6.1)]) dX12_effect_79 rfl rfl rfl ?_
          exact fX12_effect_80_ok (o4 := some (.int p5.1)) (o5 := some (.int p6.1)) hd ha0 ih rfl rfl h
def fX12_effect_0 (a0 : Nat) (m : xMem) : Option (Int32 × xMem) := fX12_effect_6 a0 xFuel (0 : Int32) (0 : Int32) (0 : Int32) m
set_option maxRecDepth 4000 in
theorem fX12_effect_0_ok {a0 : Nat} {d : Nat} (hd : 1 ≤ d) (ha0 : isModel a0) {o1 : Option Value} {o2 : Option Value} {o3 : Option Value} {o4 : Option Value} {o5 : Option Value} {m : xMem} {r : (Int32 × xMem)} (q1 : xNoD o1 = true) (q2 : xNoD o2 = true) (q3 : xNoD o3 = true) (q4 : xNoD o4 = true) (q5 : xNoD o5 = true) (h : fX12_effect_0 a0 m = some r) : xFx hh_241 cX12_effect d 0 [some (.ref a0), o1, o2, o3, o4, o5] [] (xLay m) 0 0 (some (.int r.1)) (xLay r.2) := by
  unfold fX12_effect_0 at h
  refine fx_iconst (x := 0) dX12_effect_0 rfl (by decide) ?_
  refine fx_istore_n (ls2 := [some (.ref a0), some (.int (0 : Int32)), o2, o3, o4, o5]) dX12_effect_1 rfl rfl rfl ?_
  refine fx_iconst (x := 0) dX12_effect_2 rfl (by decide) ?_
  refine fx_istore_n (ls2 := [some (.ref a0), some (.int (0 : Int32)), some (.int (0 : Int32)), o3, o4, o5]) dX12_effect_3 rfl rfl rfl ?_
  refine fx_iconst (x := 0) dX12_effect_4 rfl (by decide) ?_
  refine fx_istore_n (ls2 := [some (.ref a0), some (.int (0 : Int32)), some (.int (0 : Int32)), some (.int (0 : Int32)), o4, o5]) dX12_effect_5 rfl rfl rfl ?_
  exact fX12_effect_6_ok hd ha0 xFuel (0 : Int32) (0 : Int32) (0 : Int32) (o4) (o5) q4 q5 m r h
def fX12_effect (a0 : Nat) (m : xMem) : Option (Int32 × xMem) := fX12_effect_0 a0  m
theorem fX12_effect_ok {a0 : Nat} {m : xMem} {r : (Int32 × xMem)} {d : Nat} (hd : 2 ≤ d) (ha0 : isModel a0) (h : fX12_effect a0 m = some r) : xEx d 241 [.ref a0] (xLay m) (some (.int r.1)) (xLay r.2) := by
  obtain ⟨d, rfl⟩ : ∃ q, d = q + 1 := ⟨d - 1, by omega⟩
  exact xEx_of me_241 rfl (fX12_effect_0_ok (d := d) (o1 := none) (o2 := none) (o3 := none) (o4 := none) (o5 := none) (by omega) ha0 rfl rfl rfl rfl rfl h)
def fX5_tell_16 (a0 : Nat) (a1 : Int32) (a2 : Int32) (a3 : Int32) (a4 : Int32) (m : xMem) : Option (Int32 × xMem) := some ((-1 : Int32), m)
set_option maxRecDepth 4000 in
theorem fX5_tell_16_ok {a0 : Nat} {a1 : Int32} {a2 : Int32} {a3 : Int32} {a4 : Int32} {d : Nat} (hd : 0 ≤ d) (ha0 : isMends a0) {m : xMem} {r : (Int32 × xMem)} (h : fX5_tell_16 a0 a1 a2 a3 a4 m = some r) : xFx hh_244 cX5_tell d 16 [some (.ref a0), some (.int a1), some (.int a2), some (.int a3), some (.int a4)] [] (xLay m) 0 0 (some (.int r.1)) (xLay r.2) := by
  unfold fX5_tell_16 at h
  refine fx_iconst (x := -1) dX5_tell_16 rfl (by decide) ?_
  cases h
  exact fx_ireturn dX5_tell_17 rfl rfl
def fX5_tell_0 (a0 : Nat) (a1 : Int32) (a2 : Int32) (a3 : Int32) (a4 : Int32) (m : xMem) : Option (Int32 × xMem) := xLet (m.1 a0 5) fun x1 => if x1 < (0 : Int32) then fX5_tell_16 a0 a1 a2 a3 a4 m else xLet (m.1 a0 5) fun x3 => if x3 < (6 : Int32) then xLet (m.1 a0 5) fun x5 => bif xIn x5 6 then xLet (xPut m (a0 + 1) x5.toNatClampNeg a1) fun m6 => xLet (m6.1 a0 5) fun x8 => bif xIn x8 6 then xLet (xPut m6 (a0 + 2) x8.toNatClampNeg a2) fun m9 => xLet (m9.1 a0 5) fun x11 => bif xIn x11 6 then xLet (xPut m9 (a0 + 3) x11.toNatClampNeg a3) fun m12 => xLet (m12.1 a0 5) fun x14 => bif xIn x14 6 then xLet (xPut m12 (a0 + 4) x14.toNatClampNeg a4) fun m15 => xLet (m15.1 a0 5) fun x17 => xLet (x17 + (1 : Int32)) fun x18 => xLet (xPut m15 a0 5 x18) fun m19 => xLet (m19.1 a0 5) fun x20 => xLet (x20 - (1 : Int32)) fun x21 => some (x21, m19) else none else none else none else none else fX5_tell_16 a0 a1 a2 a3 a4 m
set_option maxRecDepth 4000 in
theorem fX5_tell_0_ok {a0 : Nat} {a1 : Int32} {a2 : Int32} {a3 : Int32} {a4 : Int32} {d : Nat} (hd : 0 ≤ d) (ha0 : isMends a0) {m : xMem} {r : (Int32 × xMem)} (h : fX5_tell_0 a0 a1 a2 a3 a4 m = some r) : xFx hh_244 cX5_tell d 0 [some (.ref a0), some (.int a1), some (.int a2), some (.int a3), some (.int a4)] [] (xLay m) 0 0 (some (.int r.1)) (xLay r.2) := by
  unfold fX5_tell_0 at h
  refine fx_aload_n dX5_tell_0 rfl rfl ?_
  obtain ⟨x1, hx1, h⟩ := xLet_el h
  refine gx_get dX5_tell_1 rfl fd_5_27 ha0.1 rfl rfl hx1 ?_
  refine fx_if_lt (t := 16) dX5_tell_4 rfl rfl (fun hc2 => ?_) (fun hc2 => ?_)
  · rw [if_pos hc2] at h
    exact fX5_tell_16_ok hd ha0 h
  · rw [if_neg hc2] at h
    refine fx_aload_n dX5_tell_7 rfl rfl ?_
    obtain ⟨x3, hx3, h⟩ := xLet_el h
    refine gx_get dX5_tell_8 rfl fd_5_27 ha0.1 rfl rfl hx3 ?_
    refine fx_bipush (x := 6) dX5_tell_11 rfl (by decide) ?_
    refine fx_icmp_lt (t := 18) dX5_tell_13 rfl rfl (fun hc4 => ?_) (fun hc4 => ?_)
    · rw [if_pos hc4] at h
      refine fx_aload_n dX5_tell_18 rfl rfl ?_
      refine gx_getr dX5_tell_19 rfl fd_5_11 ha0.1 rfl rfl ?_
      refine fx_aload_n dX5_tell_22 rfl rfl ?_
      obtain ⟨x5, hx5, h⟩ := xLet_el h
      refine gx_get dX5_tell_23 rfl fd_5_27 ha0.1 rfl rfl hx5 ?_
      refine fx_iload_n dX5_tell_26 rfl rfl ?_
      obtain ⟨hj7, h⟩ := xChk_el h
      obtain ⟨m6, hm6, h⟩ := xLet_el h
      refine gx_iastore dX5_tell_27 rfl ha0.2.1 hj7 hm6 ?_
      refine fx_aload_n dX5_tell_28 rfl rfl ?_
      refine gx_getr dX5_tell_29 rfl fd_5_15 ha0.1 rfl rfl ?_
      refine fx_aload_n dX5_tell_32 rfl rfl ?_
      obtain ⟨x8, hx8, h⟩ := xLet_el h
      refine gx_get dX5_tell_33 rfl fd_5_27 ha0.1 rfl rfl hx8 ?_
      refine fx_iload_n dX5_tell_36 rfl rfl ?_
      obtain ⟨hj10, h⟩ := xChk_el h
      obtain ⟨m9, hm9, h⟩ := xLet_el h
      refine gx_iastore dX5_tell_37 rfl ha0.2.2.1 hj10 hm9 ?_
      refine fx_aload_n dX5_tell_38 rfl rfl ?_
      refine gx_getr dX5_tell_39 rfl fd_5_18 ha0.1 rfl rfl ?_
      refine fx_aload_n dX5_tell_42 rfl rfl ?_
      obtain ⟨x11, hx11, h⟩ := xLet_el h
      refine gx_get dX5_tell_43 rfl fd_5_27 ha0.1 rfl rfl hx11 ?_
      refine fx_iload_n dX5_tell_46 rfl rfl ?_
      obtain ⟨hj13, h⟩ := xChk_el h
      obtain ⟨m12, hm12, h⟩ := xLet_el h
      refine gx_iastore dX5_tell_47 rfl ha0.2.2.2.1 hj13 hm12 ?_
      refine fx_aload_n dX5_tell_48 rfl rfl ?_
      refine gx_getr dX5_tell_49 rfl fd_5_21 ha0.1 rfl rfl ?_
      refine fx_aload_n dX5_tell_52 rfl rfl ?_
      obtain ⟨x14, hx14, h⟩ := xLet_el h
      refine gx_get dX5_tell_53 rfl fd_5_27 ha0.1 rfl rfl hx14 ?_
      refine fx_iload dX5_tell_56 rfl rfl ?_
      obtain ⟨hj16, h⟩ := xChk_el h
      obtain ⟨m15, hm15, h⟩ := xLet_el h
      refine gx_iastore dX5_tell_58 rfl ha0.2.2.2.2.1 hj16 hm15 ?_
      refine fx_aload_n dX5_tell_59 rfl rfl ?_
      refine fx_dup dX5_tell_60 rfl rfl ?_
      obtain ⟨x17, hx17, h⟩ := xLet_el h
      refine gx_get dX5_tell_61 rfl fd_5_27 ha0.1 rfl rfl hx17 ?_
      refine fx_iconst (x := 1) dX5_tell_64 rfl (by decide) ?_
      obtain ⟨x18, hx18, h⟩ := xLet_el h
      refine fx_iadd dX5_tell_65 rfl hx18 ?_
      obtain ⟨m19, hm19, h⟩ := xLet_el h
      refine gx_put dX5_tell_66 rfl fd_5_27 ha0.1 rfl rfl rfl hm19 ?_
      refine fx_aload_n dX5_tell_69 rfl rfl ?_
      obtain ⟨x20, hx20, h⟩ := xLet_el h
      refine gx_get dX5_tell_70 rfl fd_5_27 ha0.1 rfl rfl hx20 ?_
      refine fx_iconst (x := 1) dX5_tell_73 rfl (by decide) ?_
      obtain ⟨x21, hx21, h⟩ := xLet_el h
      refine fx_isub dX5_tell_74 rfl hx21 ?_
      cases h
      exact fx_ireturn dX5_tell_75 rfl rfl
    · rw [if_neg hc4] at h
      exact fX5_tell_16_ok hd ha0 h
def fX5_tell (a0 : Nat) (a1 : Int32) (a2 : Int32) (a3 : Int32) (a4 : Int32) (m : xMem) : Option (Int32 × xMem) := fX5_tell_0 a0 a1 a2 a3 a4  m
theorem fX5_tell_ok {a0 : Nat} {a1 : Int32} {a2 : Int32} {a3 : Int32} {a4 : Int32} {m : xMem} {r : (Int32 × xMem)} {d : Nat} (hd : 1 ≤ d) (ha0 : isMends a0) (h : fX5_tell a0 a1 a2 a3 a4 m = some r) : xEx d 244 [.ref a0, .int a1, .int a2, .int a3, .int a4] (xLay m) (some (.int r.1)) (xLay r.2) := by
  obtain ⟨d, rfl⟩ : ∃ q, d = q + 1 := ⟨d - 1, by omega⟩
  exact xEx_of me_244 rfl (fX5_tell_0_ok (d := d) (by omega) ha0 h)
def fX11_mend_55 (a0 : Nat) (a1 : Int32) (a2 : Int32) (a3 : Int32) (a4 : Int32) (m : xMem) : Option (Int32 × xMem) := some ((-1 : Int32), m)
set_option maxRecDepth 4000 in
theorem fX11_mend_55_ok {a0 : Nat} {a1 : Int32} {a2 : Int32} {a3 : Int32} {a4 : Int32} {d : Nat} (hd : 1 ≤ d) (ha0 : isMS a0) {o5 : Option Value} {m : xMem} {r : (Int32 × xMem)} (q5 : xNoD o5 = true) (h : fX11_mend_55 a0 a1 a2 a3 a4 m = some r) : xFx hh_243 cX11_mend d 55 [some (.ref a0), some (.int a1), some (.int a2), some (.int a3), some (.int a4), o5] [] (xLay m) 0 0 (some (.int r.1)) (xLay r.2) := by
  unfold fX11_mend_55 at h
  refine fx_iconst (x := -1) dX11_mend_55 rfl (by decide) ?_
  cases h
  exact fx_ireturn dX11_mend_56 rfl rfl
def fX11_mend_37 (a0 : Nat) (a1 : Int32) (a2 : Int32) (a3 : Int32) (a4 : Int32) (s0 : Int32) (m : xMem) : Option (Int32 × xMem) := if s0 = (0 : Int32) then fX11_mend_55 a0 a1 a2 a3 a4 m else (fX11_within a4 (1 : Int32) (9 : Int32) m).bind fun p2 => if ¬ p2.1 = (0 : Int32) then (fX5_tell (a0 + 1 + 7) a1 a2 a3 a4 p2.2).bind fun p4 => some (p4.1, p4.2) else fX11_mend_55 a0 a1 a2 a3 a4 p2.2
set_option maxRecDepth 4000 in
theorem fX11_mend_37_ok {a0 : Nat} {a1 : Int32} {a2 : Int32} {a3 : Int32} {a4 : Int32} {d : Nat} (hd : 1 ≤ d) (ha0 : isMS a0) {s0 : Int32} {o5 : Option Value} {m : xMem} {r : (Int32 × xMem)} (q5 : xNoD o5 = true) (h : fX11_mend_37 a0 a1 a2 a3 a4 s0 m = some r) : xFx hh_243 cX11_mend d 37 [some (.ref a0), some (.int a1), some (.int a2), some (.int a3), some (.int a4), o5] [.int s0] (xLay m) 0 0 (some (.int r.1)) (xLay r.2) := by
  unfold fX11_mend_37 at h
  refine fx_istore (ls2 := [some (.ref a0), some (.int a1), some (.int a2), some (.int a3), some (.int a4), some (.int s0)]) dX11_mend_37 rfl rfl rfl ?_
  refine fx_iload dX11_mend_39 rfl rfl ?_
  refine fx_if_eq (t := 55) dX11_mend_41 rfl rfl (fun hc1 => ?_) (fun hc1 => ?_)
  · rw [if_pos hc1] at h
    exact fX11_mend_55_ok (o5 := some (.int s0)) hd ha0 rfl h
  · rw [if_neg hc1] at h
    refine fx_iload dX11_mend_44 rfl rfl ?_
    refine fx_iconst (x := 1) dX11_mend_46 rfl (by decide) ?_
    refine fx_bipush (x := 9) dX11_mend_47 rfl (by decide) ?_
    obtain ⟨p2, ep2, h⟩ := xBind_el h
    refine gx_calls (as := [.int a4, .int (1 : Int32), .int (9 : Int32)]) (r := []) rfl dX11_mend_49 ca_11_47 rfl me_14 rfl rfl rfl rfl (fX11_within_ok (d := d) (by omega) ep2) rfl rfl ?_
    refine fx_if_ne (t := 57) dX11_mend_52 rfl rfl (fun hc3 => ?_) (fun hc3 => ?_)
    · rw [if_pos hc3] at h
      refine fx_aload_n dX11_mend_57 rfl rfl ?_
      refine gx_getr dX11_mend_58 rfl fd_11_10 ha0.1 rfl rfl ?_
      refine gx_getr dX11_mend_61 rfl fd_11_282 ha0.2.1.1 rfl rfl ?_
      refine fx_iload_n dX11_mend_64 rfl rfl ?_
      refine fx_iload_n dX11_mend_65 rfl rfl ?_
      refine fx_iload_n dX11_mend_66 rfl rfl ?_
      refine fx_iload dX11_mend_67 rfl rfl ?_
      obtain ⟨p4, ep4, h⟩ := xBind_el h
      refine gx_callv (as := [.int a1, .int a2, .int a3, .int a4]) (r := []) rfl dX11_mend_69 ca_11_286 rfl me_244 rfl rfl rfl rfl (ha0.2.1.2.2.2.2.2.1.1) rfl (fX5_tell_ok (d := d) (by omega) ha0.2.1.2.2.2.2.2.1 ep4) rfl rfl ?_
      cases h
      exact fx_ireturn dX11_mend_72 rfl rfl
    · rw [if_neg hc3] at h
      exact fX11_mend_55_ok (o5 := some (.int s0)) hd ha0 rfl h
def fX11_mend_36 (a0 : Nat) (a1 : Int32) (a2 : Int32) (a3 : Int32) (a4 : Int32) (m : xMem) : Option (Int32 × xMem) := fX11_mend_37 a0 a1 a2 a3 a4 (0 : Int32) m
set_option maxRecDepth 4000 in
theorem fX11_mend_36_ok {a0 : Nat} {a1 : Int32} {a2 : Int32} {a3 : Int32} {a4 : Int32} {d : Nat} (hd : 1 ≤ d) (ha0 : isMS a0) {o5 : Option Value} {m : xMem} {r : (Int32 × xMem)} (q5 : xNoD o5 = true) (h : fX11_mend_36 a0 a1 a2 a3 a4 m = some r) : xFx hh_243 cX11_mend d 36 [some (.ref a0), some (.int a1), some (.int a2), some (.int a3), some (.int a4), o5] [] (xLay m) 0 0 (some (.int r.1)) (xLay r.2) := by
  unfold fX11_mend_36 at h
  refine fx_iconst (x := 0) dX11_mend_36 rfl (by decide) ?_
  exact fX11_mend_37_ok (o5 := o5) hd ha0 q5 h
def fX11_mend_0 (a0 : Nat) (a1 : Int32) (a2 : Int32) (a3 : Int32) (a4 : Int32) (m : xMem) : Option (Int32 × xMem) := (fX11_within a1 (0 : Int32) (999 : Int32) m).bind fun p1 => if p1.1 = (0 : Int32) then fX11_mend_36 a0 a1 a2 a3 a4 p1.2 else (fX11_within a2 (0 : Int32) (99 : Int32) p1.2).bind fun p3 => if p3.1 = (0 : Int32) then fX11_mend_36 a0 a1 a2 a3 a4 p3.2 else (fX11_within a3 (0 : Int32) (999 : Int32) p3.2).bind fun p5 => if p5.1 = (0 : Int32) then fX11_mend_36 a0 a1 a2 a3 a4 p5.2 else fX11_mend_37 a0 a1 a2 a3 a4 (1 : Int32) p5.2
set_option maxRecDepth 4000 in
theorem fX11_mend_0_ok {a0 : Nat} {a1 : Int32} {a2 : Int32} {a3 : Int32} {a4 : Int32} {d : Nat} (hd : 1 ≤ d) (ha0 : isMS a0) {o5 : Option Value} {m : xMem} {r : (Int32 × xMem)} (q5 : xNoD o5 = true) (h : fX11_mend_0 a0 a1 a2 a3 a4 m = some r) : xFx hh_243 cX11_mend d 0 [some (.ref a0), some (.int a1), some (.int a2), some (.int a3), some (.int a4), o5] [] (xLay m) 0 0 (some (.int r.1)) (xLay r.2) := by
  unfold fX11_mend_0 at h
  refine fx_iload_n dX11_mend_0 rfl rfl ?_
  refine fx_iconst (x := 0) dX11_mend_1 rfl (by decide) ?_
  refine fx_sipush (x := 999) dX11_mend_2 rfl (by decide) ?_
  obtain ⟨p1, ep1, h⟩ := xBind_el h
  refine gx_calls (as := [.int a1, .int (0 : Int32), .int (999 : Int32)]) (r := []) rfl dX11_mend_5 ca_11_47 rfl me_14 rfl rfl rfl rfl (fX11_within_ok (d := d) (by omega) ep1) rfl rfl ?_
  refine fx_if_eq (t := 36) dX11_mend_8 rfl rfl (fun hc2 => ?_) (fun hc2 => ?_)
  · rw [if_pos hc2] at h
    exact fX11_mend_36_ok (o5 := o5) hd ha0 q5 h
  · rw [if_neg hc2] at h
    refine fx_iload_n dX11_mend_11 rfl rfl ?_
    refine fx_iconst (x := 0) dX11_mend_12 rfl (by decide) ?_
    refine fx_bipush (x := 99) dX11_mend_13 rfl (by decide) ?_
    obtain ⟨p3, ep3, h⟩ := xBind_el h
    refine gx_calls (as := [.int a2, .int (0 : Int32), .int (99 : Int32)]) (r := []) rfl dX11_mend_15 ca_11_47 rfl me_14 rfl rfl rfl rfl (fX11_within_ok (d := d) (by omega) ep3) rfl rfl ?_
    refine fx_if_eq (t := 36) dX11_mend_18 rfl rfl (fun hc4 => ?_) (fun hc4 => ?_)
    · rw [if_pos hc4] at h
      exact fX11_mend_36_ok (o5 := o5) hd ha0 q5 h
    · rw [if_neg hc4] at h
      refine fx_iload_n dX11_mend_21 rfl rfl ?_
      refine fx_iconst (x := 0) dX11_mend_22 rfl (by decide) ?_
      refine fx_sipush (x := 999) dX11_mend_23 rfl (by decide) ?_
      obtain ⟨p5, ep5, h⟩ := xBind_el h
      refine gx_calls (as := [.int a3, .int (0 : Int32), .int (999 : Int32)]) (r := []) rfl dX11_mend_26 ca_11_47 rfl me_14 rfl rfl rfl rfl (fX11_within_ok (d := d) (by omega) ep5) rfl rfl ?_
      refine fx_if_eq (t := 36) dX11_mend_29 rfl rfl (fun hc6 => ?_) (fun hc6 => ?_)
      · rw [if_pos hc6] at h
        exact fX11_mend_36_ok (o5 := o5) hd ha0 q5 h
      · rw [if_neg hc6] at h
        refine fx_iconst (x := 1) dX11_mend_32 rfl (by decide) ?_
        refine fx_goto (t := 37) dX11_mend_33 rfl rfl ?_
        exact fX11_mend_37_ok (o5 := o5) hd ha0 q5 h
def fX11_mend (a0 : Nat) (a1 : Int32) (a2 : Int32) (a3 : Int32) (a4 : Int32) (m : xMem) : Option (Int32 × xMem) := fX11_mend_0 a0 a1 a2 a3 a4  m
theorem fX11_mend_ok {a0 : Nat} {a1 : Int32} {a2 : Int32} {a3 : Int32} {a4 : Int32} {m : xMem} {r : (Int32 × xMem)} {d : Nat} (hd : 2 ≤ d) (ha0 : isMS a0) (h : fX11_mend a0 a1 a2 a3 a4 m = some r) : xEx d 243 [.ref a0, .int a1, .int a2, .int a3, .int a4] (xLay m) (some (.int r.1)) (xLay r.2) := by
  obtain ⟨d, rfl⟩ : ∃ q, d = q + 1 := ⟨d - 1, by omega⟩
  exact xEx_of me_243 rfl (fX11_mend_0_ok (d := d) (o5 := none) (by omega) ha0 rfl h)
def fX12_mend_55 (a0 : Nat) (a1 : Int32) (a2 : Int32) (a3 : Int32) (a4 : Int32) (m : xMem) : Option (Int32 × xMem) := some ((-1 : Int32), m)
set_option maxRecDepth 4000 in
theorem fX12_mend_55_ok {a0 : Nat} {a1 : Int32} {a2 : Int32} {a3 : Int32} {a4 : Int32} {d : Nat} (hd : 1 ≤ d) (ha0 : isModel a0) {o5 : Option Value} {m : xMem} {r : (Int32 × xMem)} (q5 : xNoD o5 = true) (h : fX12_mend_55 a0 a1 a2 a3 a4 m = some r) : xFx hh_245 cX12_mend d 55 [some (.ref a0), some (.int a1), some (.int a2), some (.int a3), some (.int a4), o5] [] (xLay m) 0 0 (some (.int r.1)) (xLay r.2) := by
  unfold fX12_mend_55 at h
  refine fx_iconst (x := -1) dX12_mend_55 rfl (by decide) ?_
  cases h
  exact fx_ireturn dX12_mend_56 rfl rfl
def fX12_mend_0 (a0 : Nat) (a1 : Int32) (a2 : Int32) (a3 : Int32) (a4 : Int32) (m : xMem) : Option (Int32 × xMem) := (fX12_in a1 (0 : Int32) (999 : Int32) m).bind fun p1 => if p1.1 = (0 : Int32) then fX12_mend_55 a0 a1 a2 a3 a4 p1.2 else (fX12_in a2 (0 : Int32) (99 : Int32) p1.2).bind fun p3 => if p3.1 = (0 : Int32) then fX12_mend_55 a0 a1 a2 a3 a4 p3.2 else (fX12_in a3 (0 : Int32) (999 : Int32) p3.2).bind fun p5 => if p5.1 = (0 : Int32) then fX12_mend_55 a0 a1 a2 a3 a4 p5.2 else (fX12_in a4 (1 : Int32) (9 : Int32) p5.2).bind fun p7 => if p7.1 = (0 : Int32) then fX12_mend_55 a0 a1 a2 a3 a4 p7.2 else bif xIn (7 : Int32) 1610 then xLet (p7.2.1 (a0 + 1) (7 : Int32).toNatClampNeg) fun x9 => if ¬ x9 = (6 : Int32) then bif xIn (7 : Int32) 1610 then xLet (p7.2.1 (a0 + 1) (7 : Int32).toNatClampNeg) fun x12 => xLet ((4 : Int32) * x12) fun x14 => xLet ((1520 : Int32) + x14) fun x15 => bif xIn x15 1610 then xLet (xPut p7.2 (a0 + 1) x15.toNatClampNeg a1) fun m16 => xLet (x15 + (1 : Int32)) fun x18 => bif xIn x18 1610 then xLet (xPut m16 (a0 + 1) x18.toNatClampNeg a2) fun m19 => xLet (x15 + (2 : Int32)) fun x21 => bif xIn x21 1610 then xLet (xPut m19 (a0 + 1) x21.toNatClampNeg a3) fun m22 => xLet (x15 + (3 : Int32)) fun x24 => bif xIn x24 1610 then xLet (xPut m22 (a0 + 1) x24.toNatClampNeg a4) fun m25 => bif xIn (7 : Int32) 1610 then xLet (m25.1 (a0 + 1) (7 : Int32).toNatClampNeg) fun x27 => xLet (x27 + (1 : Int32)) fun x29 => bif xIn (7 : Int32) 1610 then xLet (xPut m25 (a0 + 1) (7 : Int32).toNatClampNeg x29) fun m30 => bif xIn (7 : Int32) 1610 then xLet (m30.1 (a0 + 1) (7 : Int32).toNatClampNeg) fun x32 => xLet (x32 - (1 : Int32)) fun x34 => some (x34, m30) else none else none else none else none else none else none else none else none else fX12_mend_55 a0 a1 a2 a3 a4 p7.2 else none
set_option maxRecDepth 4000 in
theorem fX12_mend_0_ok {a0 : Nat} {a1 : Int32} {a2 : Int32} {a3 : Int32} {a4 : Int32} {d : Nat} (hd : 1 ≤ d) (ha0 : isModel a0) {o5 : Option Value} {m : xMem} {r : (Int32 × xMem)} (q5 : xNoD o5 = true) (h : fX12_mend_0 a0 a1 a2 a3 a4 m = some r) : xFx hh_245 cX12_mend d 0 [some (.ref a0), some (.int a1), some (.int a2), some (.int a3), some (.int a4), o5] [] (xLay m) 0 0 (some (.int r.1)) (xLay r.2) := by
  unfold fX12_mend_0 at h
  refine fx_iload_n dX12_mend_0 rfl rfl ?_
  refine fx_iconst (x := 0) dX12_mend_1 rfl (by decide) ?_
  refine fx_sipush (x := 999) dX12_mend_2 rfl (by decide) ?_
  obtain ⟨p1, ep1, h⟩ := xBind_el h
  refine gx_calls (as := [.int a1, .int (0 : Int32), .int (999 : Int32)]) (r := []) rfl dX12_mend_5 ca_12_95 rfl me_18 rfl rfl rfl rfl (fX12_in_ok (d := d) (by omega) ep1) rfl rfl ?_
  refine fx_if_eq (t := 55) dX12_mend_8 rfl rfl (fun hc2 => ?_) (fun hc2 => ?_)
  · rw [if_pos hc2] at h
    exact fX12_mend_55_ok (o5 := o5) hd ha0 q5 h
  · rw [if_neg hc2] at h
    refine fx_iload_n dX12_mend_11 rfl rfl ?_
    refine fx_iconst (x := 0) dX12_mend_12 rfl (by decide) ?_
    refine fx_bipush (x := 99) dX12_mend_13 rfl (by decide) ?_
    obtain ⟨p3, ep3, h⟩ := xBind_el h
    refine gx_calls (as := [.int a2, .int (0 : Int32), .int (99 : Int32)]) (r := []) rfl dX12_mend_15 ca_12_95 rfl me_18 rfl rfl rfl rfl (fX12_in_ok (d := d) (by omega) ep3) rfl rfl ?_
    refine fx_if_eq (t := 55) dX12_mend_18 rfl rfl (fun hc4 => ?_) (fun hc4 => ?_)
    · rw [if_pos hc4] at h
      exact fX12_mend_55_ok (o5 := o5) hd ha0 q5 h
    · rw [if_neg hc4] at h
      refine fx_iload_n dX12_mend_21 rfl rfl ?_
      refine fx_iconst (x := 0) dX12_mend_22 rfl (by decide) ?_
      refine fx_sipush (x := 999) dX12_mend_23 rfl (by decide) ?_
      obtain ⟨p5, ep5, h⟩ := xBind_el h
      refine gx_calls (as := [.int a3, .int (0 : Int32), .int (999 : Int32)]) (r := []) rfl dX12_mend_26 ca_12_95 rfl me_18 rfl rfl rfl rfl (fX12_in_ok (d := d) (by omega) ep5) rfl rfl ?_
      refine fx_if_eq (t := 55) dX12_mend_29 rfl rfl (fun hc6 => ?_) (fun hc6 => ?_)
      · rw [if_pos hc6] at h
        exact fX12_mend_55_ok (o5 := o5) hd ha0 q5 h
      · rw [if_neg hc6] at h
        refine fx_iload dX12_mend_32 rfl rfl ?_
        refine fx_iconst (x := 1) dX12_mend_34 rfl (by decide) ?_
        refine fx_bipush (x := 9) dX12_mend_35 rfl (by decide) ?_
        obtain ⟨p7, ep7, h⟩ := xBind_el h
        refine gx_calls (as := [.int a4, .int (1 : Int32), .int (9 : Int32)]) (r := []) rfl dX12_mend_37 ca_12_95 rfl me_18 rfl rfl rfl rfl (fX12_in_ok (d := d) (by omega) ep7) rfl rfl ?_
        refine fx_if_eq (t := 55) dX12_mend_40 rfl rfl (fun hc8 => ?_) (fun hc8 => ?_)
        · rw [if_pos hc8] at h
          exact fX12_mend_55_ok (o5 := o5) hd ha0 q5 h
        · rw [if_neg hc8] at h
          refine fx_aload_n dX12_mend_43 rfl rfl ?_
          refine gx_getr dX12_mend_44 rfl fd_12_7 ha0.1 rfl rfl ?_
          refine fx_bipush (x := 7) dX12_mend_47 rfl (by decide) ?_
          obtain ⟨hj10, h⟩ := xChk_el h
          obtain ⟨x9, hx9, h⟩ := xLet_el h
          refine gx_iaload dX12_mend_49 rfl ha0.2.1 hj10 hx9 ?_
          refine fx_bipush (x := 6) dX12_mend_50 rfl (by decide) ?_
          refine fx_icmp_ne (t := 57) dX12_mend_52 rfl rfl (fun hc11 => ?_) (fun hc11 => ?_)
          · rw [if_pos hc11] at h
            refine fx_sipush (x := 1520) dX12_mend_57 rfl (by decide) ?_
            refine fx_iconst (x := 4) dX12_mend_60 rfl (by decide) ?_
            refine fx_aload_n dX12_mend_61 rfl rfl ?_
            refine gx_getr dX12_mend_62 rfl fd_12_7 ha0.1 rfl rfl ?_
            refine fx_bipush (x := 7) dX12_mend_65 rfl (by decide) ?_
            obtain ⟨hj13, h⟩ := xChk_el h
            obtain ⟨x12, hx12, h⟩ := xLet_el h
            refine gx_iaload dX12_mend_67 rfl ha0.2.1 hj13 hx12 ?_
            obtain ⟨x14, hx14, h⟩ := xLet_el h
            refine fx_imul dX12_mend_68 rfl hx14 ?_
            obtain ⟨x15, hx15, h⟩ := xLet_el h
            refine fx_iadd dX12_mend_69 rfl hx15 ?_
            refine fx_istore (ls2 := [some (.ref a0), some (.int a1), some (.int a2), some (.int a3), some (.int a4), some (.int x15)]) dX12_mend_70 rfl rfl rfl ?_
            refine fx_aload_n dX12_mend_72 rfl rfl ?_
            refine gx_getr dX12_mend_73 rfl fd_12_7 ha0.1 rfl rfl ?_
            refine fx_iload dX12_mend_76 rfl rfl ?_
            refine fx_iload_n dX12_mend_78 rfl rfl ?_
            obtain ⟨hj17, h⟩ := xChk_el h
            obtain ⟨m16, hm16, h⟩ := xLet_el h
            refine gx_iastore dX12_mend_79 rfl ha0.2.1 hj17 hm16 ?_
            refine fx_aload_n dX12_mend_80 rfl rfl ?_
            refine gx_getr dX12_mend_81 rfl fd_12_7 ha0.1 rfl rfl ?_
            refine fx_iload dX12_mend_84 rfl rfl ?_
            refine fx_iconst (x := 1) dX12_mend_86 rfl (by decide) ?_
            obtain ⟨x18, hx18, h⟩ := xLet_el h
            refine fx_iadd dX12_mend_87 rfl hx18 ?_
            refine fx_iload_n dX12_mend_88 rfl rfl ?_
            obtain ⟨hj20, h⟩ := xChk_el h
            obtain ⟨m19, hm19, h⟩ := xLet_el h
            refine gx_iastore dX12_mend_89 rfl ha0.2.1 hj20 hm19 ?_
            refine fx_aload_n dX12_mend_90 rfl rfl ?_
            refine gx_getr dX12_mend_91 rfl fd_12_7 ha0.1 rfl rfl ?_
            refine fx_iload dX12_mend_94 rfl rfl ?_
            refine fx_iconst (x := 2) dX12_mend_96 rfl (by decide) ?_
            obtain ⟨x21, hx21, h⟩ := xLet_el h
            refine fx_iadd dX12_mend_97 rfl hx21 ?_
            refine fx_iload_n dX12_mend_98 rfl rfl ?_
            obtain ⟨hj23, h⟩ := xChk_el h
            obtain ⟨m22, hm22, h⟩ := xLet_el h
            refine gx_iastore dX12_mend_99 rfl ha0.2.1 hj23 hm22 ?_
            refine fx_aload_n dX12_mend_100 rfl rfl ?_
            refine gx_getr dX12_mend_101 rfl fd_12_7 ha0.1 rfl rfl ?_
            refine fx_iload dX12_mend_104 rfl rfl ?_
            refine fx_iconst (x := 3) dX12_mend_106 rfl (by decide) ?_
            obtain ⟨x24, hx24, h⟩ := xLet_el h
            refine fx_iadd dX12_mend_107 rfl hx24 ?_
            refine fx_iload dX12_mend_108 rfl rfl ?_
            obtain ⟨hj26, h⟩ := xChk_el h
            obtain ⟨m25, hm25, h⟩ := xLet_el h
            refine gx_iastore dX12_mend_110 rfl ha0.2.1 hj26 hm25 ?_
            refine fx_aload_n dX12_mend_111 rfl rfl ?_
            refine gx_getr dX12_mend_112 rfl fd_12_7 ha0.1 rfl rfl ?_
            refine fx_bipush (x := 7) dX12_mend_115 rfl (by decide) ?_
            refine fx_dup2 dX12_mend_117 rfl rfl ?_
            obtain ⟨hj28, h⟩ := xChk_el h
            obtain ⟨x27, hx27, h⟩ := xLet_el h
            refine gx_iaload dX12_mend_118 rfl ha0.2.1 hj28 hx27 ?_
            refine fx_iconst (x := 1) dX12_mend_119 rfl (by decide) ?_
            obtain ⟨x29, hx29, h⟩ := xLet_el h
            refine fx_iadd dX12_mend_120 rfl hx29 ?_
            obtain ⟨hj31, h⟩ := xChk_el h
            obtain ⟨m30, hm30, h⟩ := xLet_el h
            refine gx_iastore dX12_mend_121 rfl ha0.2.1 hj31 hm30 ?_
            refine fx_aload_n dX12_mend_122 rfl rfl ?_
            refine gx_getr dX12_mend_123 rfl fd_12_7 ha0.1 rfl rfl ?_
            refine fx_bipush (x := 7) dX12_mend_126 rfl (by decide) ?_
            obtain ⟨hj33, h⟩ := xChk_el h
            obtain ⟨x32, hx32, h⟩ := xLet_el h
            refine gx_iaload dX12_mend_128 rfl ha0.2.1 hj33 hx32 ?_
            refine fx_iconst (x := 1) dX12_mend_129 rfl (by decide) ?_
            obtain ⟨x34, hx34, h⟩ := xLet_el h
            refine fx_isub dX12_mend_130 rfl hx34 ?_
            cases h
            exact fx_ireturn dX12_mend_131 rfl rfl
          · rw [if_neg hc11] at h
            exact fX12_mend_55_ok (o5 := o5) hd ha0 q5 h
def fX12_mend (a0 : Nat) (a1 : Int32) (a2 : Int32) (a3 : Int32) (a4 : Int32) (m : xMem) : Option (Int32 × xMem) := fX12_mend_0 a0 a1 a2 a3 a4  m
theorem fX12_mend_ok {a0 : Nat} {a1 : Int32} {a2 : Int32} {a3 : Int32} {a4 : Int32} {m : xMem} {r : (Int32 × xMem)} {d : Nat} (hd : 2 ≤ d) (ha0 : isModel a0) (h : fX12_mend a0 a1 a2 a3 a4 m = some r) : xEx d 245 [.ref a0, .int a1, .int a2, .int a3, .int a4] (xLay m) (some (.int r.1)) (xLay r.2) := by
  obtain ⟨d, rfl⟩ : ∃ q, d = q + 1 := ⟨d - 1, by omega⟩
  exact xEx_of me_245 rfl (fX12_mend_0_ok (d := d) (o5 := none) (by omega) ha0 rfl h)
def fX5_countBy_29 (a0 : Nat) (a1 : Int32) (a2 : Int32) (m : xMem) : Option (Int32 × xMem) := some ((0 : Int32), m)
set_option maxRecDepth 4000 in
theorem fX5_countBy_29_ok {a0 : Nat} {a1 : Int32} {a2 : Int32} {d : Nat} (hd : 0 ≤ d) (ha0 : isMends a0) {o3 : Option Value} {o4 : Option Value} {o5 : Option Value} {o6 : Option Value} {o7 : Option Value} {m : xMem} {r : (Int32 × xMem)} (q3 : xNoD o3 = true) (q4 : xNoD o4 = true) (q5 : xNoD o5 = true) (q6 : xNoD o6 = true) (q7 : xNoD o7 = true) (h : fX5_countBy_29 a0 a1 a2 m = some r) : xFx hh_249 cX5_countBy d 29 [some (.ref a0), some (.int a1), some (.int a2), o3, o4, o5, o6, o7] [] (xLay m) 0 0 (some (.int r.1)) (xLay r.2) := by
  unfold fX5_countBy_29 at h
  refine fx_iconst (x := 0) dX5_countBy_29 rfl (by decide) ?_
  cases h
  exact fx_ireturn dX5_countBy_30 rfl rfl
def fX5_countBy_67 (a0 : Nat) (a1 : Int32) (a2 : Int32) (rec37 : Int32 → Int32 → Int32 → xMem → Option (Int32 × xMem)) (l3 : Int32) (l5 : Int32) (s0 : Int32) (s1 : Int32) (m : xMem) : Option (Int32 × xMem) := xLet (s0 + s1) fun x1 => xLet (l5 + (1 : Int32)) fun x2 => rec37 l3 x1 x2 m
set_option maxRecDepth 4000 in
theorem fX5_countBy_67_ok {a0 : Nat} {a1 : Int32} {a2 : Int32} {rec37 : Int32 → Int32 → Int32 → xMem → Option (Int32 × xMem)} {d : Nat} (hd : 0 ≤ d) (ha0 : isMends a0) (hrec37 : ∀ (l3 : Int32) (l4 : Int32) (l5 : Int32) (o6 : Option Value) (o7 : Option Value) (q6 : xNoD o6 = true) (q7 : xNoD o7 = true) (m : xMem) (r : (Int32 × xMem)), rec37 l3 l4 l5 m = some r → xFx hh_249 cX5_countBy d 37 [some (.ref a0), some (.int a1), some (.int a2), some (.int l3), some (.int l4), some (.int l5), o6, o7] [] (xLay m) 0 0 (some (.int r.1)) (xLay r.2)) {l3 : Int32} {l5 : Int32} {s0 : Int32} {s1 : Int32} {o4 : Option Value} {o6 : Option Value} {o7 : Option Value} {m : xMem} {r : (Int32 × xMem)} (q4 : xNoD o4 = true) (q6 : xNoD o6 = true) (q7 : xNoD o7 = true) (h : fX5_countBy_67 a0 a1 a2 rec37 l3 l5 s0 s1 m = some r) : xFx hh_249 cX5_countBy d 67 [some (.ref a0), some (.int a1), some (.int a2), some (.int l3), o4, some (.int l5), o6, o7] [.int s1, .int s0] (xLay m) 0 0 (some (.int r.1)) (xLay r.2) := by
  unfold fX5_countBy_67 at h
  obtain ⟨x1, hx1, h⟩ := xLet_el h
  refine fx_iadd dX5_countBy_67 rfl hx1 ?_
  refine fx_istore (ls2 := [some (.ref a0), some (.int a1), some (.int a2), some (.int l3), some (.int x1), some (.int l5), o6, o7]) dX5_countBy_68 rfl rfl rfl ?_
  obtain ⟨x2, hx2, h⟩ := xLet_el h
  refine fx_iinc (ls2 := [some (.ref a0), some (.int a1), some (.int a2), some (.int l3), some (.int x1), some (.int x2), o6, o7]) dX5_countBy_70 rfl rfl rfl hx2 rfl ?_
  refine fx_goto (t := 37) dX5_countBy_73 rfl rfl ?_
  exact hrec37 l3 x1 x2 (o6) (o7) q6 q7 m r h
def fX5_countBy_161 (a0 : Nat) (a1 : Int32) (a2 : Int32) (rec87 : Int32 → Int32 → Int32 → Int32 → xMem → Option (Int32 × xMem)) (rec107 : Int32 → Int32 → Int32 → Int32 → Int32 → xMem → Option (Int32 × xMem)) (l3 : Int32) (l4 : Int32) (l5 : Int32) (l6 : Int32) (l7 : Int32) (m : xMem) : Option (Int32 × xMem) := xLet (l7 + (1 : Int32)) fun x1 => rec107 l3 l4 l5 l6 x1 m
set_option maxRecDepth 4000 in
theorem fX5_countBy_161_ok {a0 : Nat} {a1 : Int32} {a2 : Int32} {rec87 : Int32 → Int32 → Int32 → Int32 → xMem → Option (Int32 × xMem)} {rec107 : Int32 → Int32 → Int32 → Int32 → Int32 → xMem → Option (Int32 × xMem)} {d : Nat} (hd : 0 ≤ d) (ha0 : isMends a0) (hrec87 : ∀ (l3 : Int32) (l4 : Int32) (l5 : Int32) (l6 : Int32) (o7 : Option Value) (q7 : xNoD o7 = true) (m : xMem) (r : (Int32 × xMem)), rec87 l3 l4 l5 l6 m = some r → xFx hh_249 cX5_countBy d 87 [some (.ref a0), some (.int a1), some (.int a2), some (.int l3), some (.int l4), some (.int l5), some (.int l6), o7] [] (xLay m) 0 0 (some (.int r.1)) (xLay r.2)) (hrec107 : ∀ (l3 : Int32) (l4 : Int32) (l5 : Int32) (l6 : Int32) (l7 : Int32) (m : xMem) (r : (Int32 × xMem)), rec107 l3 l4 l5 l6 l7 m = some r → xFx hh_249 cX5_countBy d 107 [some (.ref a0), some (.int a1), some (.int a2), some (.int l3), some (.int l4), some (.int l5), some (.int l6), some (.int l7)] [] (xLay m) 0 0 (some (.int r.1)) (xLay r.2)) {l3 : Int32} {l4 : Int32} {l5 : Int32} {l6 : Int32} {l7 : Int32} {m : xMem} {r : (Int32 × xMem)} (h : fX5_countBy_161 a0 a1 a2 rec87 rec107 l3 l4 l5 l6 l7 m = some r) : xFx hh_249 cX5_countBy d 161 [some (.ref a0), some (.int a1), some (.int a2), some (.int l3), some (.int l4), some (.int l5), some (.int l6), some (.int l7)] [] (xLay m) 0 0 (some (.int r.1)) (xLay r.2) := by
  unfold fX5_countBy_161 at h
  obtain ⟨x1, hx1, h⟩ := xLet_el h
  refine fx_iinc (ls2 := [some (.ref a0), some (.int a1), some (.int a2), some (.int l3), some (.int l4), some (.int l5), some (.int l6), some (.int x1)]) dX5_countBy_161 rfl rfl rfl hx1 rfl ?_
  refine fx_goto (t := 107) dX5_countBy_164 rfl rfl ?_
  exact hrec107 l3 l4 l5 l6 x1 m r h
def fX5_countBy_107 (a0 : Nat) (a1 : Int32) (a2 : Int32) (rec87 : Int32 → Int32 → Int32 → Int32 → xMem → Option (Int32 × xMem)) : Nat → Int32 → Int32 → Int32 → Int32 → Int32 → xMem → Option (Int32 × xMem)
  | 0, _, _, _, _, _, _ => none
  | fuel + 1, l3, l4, l5, l6, l7, m => bif xIn a2 6 then xLet (m.1 (a0 + 4) a2.toNatClampNeg) fun x1 => xLet (l4 + x1) fun x3 => if x3 ≤ l7 then xLet (l6 + (1 : Int32)) fun x5 => rec87 l3 l4 l5 x5 m else xLet (l3 >>> (l6 &&& 31)) fun x6 => xLet (x6 &&& (1 : Int32)) fun x7 => if ¬ x7 = (0 : Int32) then fX5_countBy_161 a0 a1 a2 rec87 (fX5_countBy_107 a0 a1 a2 rec87 fuel) l3 l4 l5 l6 l7 m else bif xIn l6 6 then xLet (m.1 (a0 + 1) l6.toNatClampNeg) fun x9 => bif xIn l6 6 then xLet (m.1 (a0 + 2) l6.toNatClampNeg) fun x11 => xLet (x11 * l7) fun x13 => xLet (x9 + x13) fun x14 => bif xIn l6 6 then xLet (m.1 (a0 + 3) l6.toNatClampNeg) fun x15 => if x14 ≤ x15 then fX5_countBy_161 a0 a1 a2 rec87 (fX5_countBy_107 a0 a1 a2 rec87 fuel) l3 l4 l5 l6 l7 m else xLet (l5 + (1 : Int32)) fun x18 => fX5_countBy_161 a0 a1 a2 rec87 (fX5_countBy_107 a0 a1 a2 rec87 fuel) l3 l4 x18 l6 l7 m else none else none else none else none
set_option maxRecDepth 4000 in
theorem fX5_countBy_107_ok {a0 : Nat} {a1 : Int32} {a2 : Int32} {rec87 : Int32 → Int32 → Int32 → Int32 → xMem → Option (Int32 × xMem)} {d : Nat} (hd : 0 ≤ d) (ha0 : isMends a0) (hrec87 : ∀ (l3 : Int32) (l4 : Int32) (l5 : Int32) (l6 : Int32) (o7 : Option Value) (q7 : xNoD o7 = true) (m : xMem) (r : (Int32 × xMem)), rec87 l3 l4 l5 l6 m = some r → xFx hh_249 cX5_countBy d 87 [some (.ref a0), some (.int a1), some (.int a2), some (.int l3), some (.int l4), some (.int l5), some (.int l6), o7] [] (xLay m) 0 0 (some (.int r.1)) (xLay r.2)) : ∀ (fuel : Nat) (l3 : Int32) (l4 : Int32) (l5 : Int32) (l6 : Int32) (l7 : Int32) (m : xMem) (r : (Int32 × xMem)), fX5_countBy_107 a0 a1 a2 rec87 fuel l3 l4 l5 l6 l7 m = some r → xFx hh_249 cX5_countBy d 107 [some (.ref a0), some (.int a1), some (.int a2), some (.int l3), some (.int l4), some (.int l5), some (.int l6), some (.int l7)] [] (xLay m) 0 0 (some (.int r.1)) (xLay r.2) := by
  intro fuel
  induction fuel with
  | zero => intro l3 l4 l5 l6 l7  m r  h; cases h
  | succ fuel ih =>
    intro l3 l4 l5 l6 l7  m r  h
    unfold fX5_countBy_107 at h
    refine fx_iload dX5_countBy_107 rfl rfl ?_
    refine fx_iload dX5_countBy_109 rfl rfl ?_
    refine fx_aload_n dX5_countBy_111 rfl rfl ?_
    refine gx_getr dX5_countBy_112 rfl fd_5_21 ha0.1 rfl rfl ?_
    refine fx_iload_n dX5_countBy_115 rfl rfl ?_
    obtain ⟨hj2, h⟩ := xChk_el h
    obtain ⟨x1, hx1, h⟩ := xLet_el h
    refine gx_iaload dX5_countBy_116 rfl ha0.2.2.2.2.1 hj2 hx1 ?_
    obtain ⟨x3, hx3, h⟩ := xLet_el h
    refine fx_iadd dX5_countBy_117 rfl hx3 ?_
    refine fx_icmp_ge (t := 167) dX5_countBy_118 rfl rfl (fun hc4 => ?_) (fun hc4 => ?_)
    · rw [if_pos hc4] at h
      obtain ⟨x5, hx5, h⟩ := xLet_el h
      refine fx_iinc (ls2 := [some (.ref a0), some (.int a1), some (.int a2), some (.int l3), some (.int l4), some (.int l5), some (.int x5), some (.int l7)]) dX5_countBy_167 rfl rfl rfl hx5 rfl ?_
      refine fx_goto (t := 87) dX5_countBy_170 rfl rfl ?_
      exact hrec87 l3 l4 l5 x5 (some (.int l7)) rfl m r h
    · rw [if_neg hc4] at h
      refine fx_iload_n dX5_countBy_121 rfl rfl ?_
      refine fx_iload dX5_countBy_122 rfl rfl ?_
      obtain ⟨x6, hx6, h⟩ := xLet_el h
      refine fx_ishr dX5_countBy_124 rfl hx6 ?_
      refine fx_iconst (x := 1) dX5_countBy_125 rfl (by decide) ?_
      obtain ⟨x7, hx7, h⟩ := xLet_el h
      refine fx_iand dX5_countBy_126 rfl hx7 ?_
      refine fx_if_ne (t := 161) dX5_countBy_127 rfl rfl (fun hc8 => ?_) (fun hc8 => ?_)
      · rw [if_pos hc8] at h
        exact fX5_countBy_161_ok hd ha0 hrec87 ih h
      · rw [if_neg hc8] at h
        refine fx_aload_n dX5_countBy_130 rfl rfl ?_
        refine gx_getr dX5_countBy_131 rfl fd_5_11 ha0.1 rfl rfl ?_
        refine fx_iload dX5_countBy_134 rfl rfl ?_
        obtain ⟨hj10, h⟩ := xChk_el h
        obtain ⟨x9, hx9, h⟩ := xLet_el h
        refine gx_iaload dX5_countBy_136 rfl ha0.2.1 hj10 hx9 ?_
        refine fx_aload_n dX5_countBy_137 rfl rfl ?_
        refine gx_getr dX5_countBy_138 rfl fd_5_15 ha0.1 rfl rfl ?_
        refine fx_iload dX5_countBy_141 rfl rfl ?_
        obtain ⟨hj12, h⟩ := xChk_el h
        obtain ⟨x11, hx11, h⟩ := xLet_el h
        refine gx_iaload dX5_countBy_143 rfl ha0.2.2.1 hj12 hx11 ?_
        refine fx_iload dX5_countBy_144 rfl rfl ?_
        obtain ⟨x13, hx13, h⟩ := xLet_el h
        refine fx_imul dX5_countBy_146 rfl hx13 ?_
        obtain ⟨x14, hx14, h⟩ := xLet_el h
        refine fx_iadd dX5_countBy_147 rfl hx14 ?_
        refine fx_aload_n dX5_countBy_148 rfl rfl ?_
        refine gx_getr dX5_countBy_149 rfl fd_5_18 ha0.1 rfl rfl ?_
        refine fx_iload dX5_countBy_152 rfl rfl ?_
        obtain ⟨hj16, h⟩ := xChk_el h
        obtain ⟨x15, hx15, h⟩ := xLet_el h
        refine gx_iaload dX5_countBy_154 rfl ha0.2.2.2.1 hj16 hx15 ?_
        refine fx_icmp_le (t := 161) dX5_countBy_155 rfl rfl (fun hc17 => ?_) (fun hc17 => ?_)
        · rw [if_pos hc17] at h
          exact fX5_countBy_161_ok hd ha0 hrec87 ih h
        · rw [if_neg hc17] at h
          obtain ⟨x18, hx18, h⟩ := xLet_el h
          refine fx_iinc (ls2 := [some (.ref a0), some (.int a1), some (.int a2), some (.int l3), some (.int l4), some (.int x18), some (.int l6), some (.int l7)]) dX5_countBy_158 rfl rfl rfl hx18 rfl ?_
          exact fX5_countBy_161_ok hd ha0 hrec87 ih h
def fX5_countBy_173 (a0 : Nat) (a1 : Int32) (a2 : Int32) (l5 : Int32) (m : xMem) : Option (Int32 × xMem) := some (l5, m)
set_option maxRecDepth 4000 in
theorem fX5_countBy_173_ok {a0 : Nat} {a1 : Int32} {a2 : Int32} {d : Nat} (hd : 0 ≤ d) (ha0 : isMends a0) {l5 : Int32} {o3 : Option Value} {o4 : Option Value} {o6 : Option Value} {o7 : Option Value} {m : xMem} {r : (Int32 × xMem)} (q3 : xNoD o3 = true) (q4 : xNoD o4 = true) (q6 : xNoD o6 = true) (q7 : xNoD o7 = true) (h : fX5_countBy_173 a0 a1 a2 l5 m = some r) : xFx hh_249 cX5_countBy d 173 [some (.ref a0), some (.int a1), some (.int a2), o3, o4, some (.int l5), o6, o7] [] (xLay m) 0 0 (some (.int r.1)) (xLay r.2) := by
  unfold fX5_countBy_173 at h
  refine fx_iload dX5_countBy_173 rfl rfl ?_
  cases h
  exact fx_ireturn dX5_countBy_175 rfl rfl
def fX5_countBy_87 (a0 : Nat) (a1 : Int32) (a2 : Int32) : Nat → Int32 → Int32 → Int32 → Int32 → xMem → Option (Int32 × xMem)
  | 0, _, _, _, _, _ => none
  | fuel + 1, l3, l4, l5, l6, m => xLet (m.1 a0 5) fun x1 => if x1 ≤ l6 then fX5_countBy_173 a0 a1 a2 l5 m else if (6 : Int32) ≤ l6 then fX5_countBy_173 a0 a1 a2 l5 m else fX5_countBy_107 a0 a1 a2 (fX5_countBy_87 a0 a1 a2 fuel) xFuel l3 l4 l5 l6 l4 m
set_option maxRecDepth 4000 in
theorem fX5_countBy_87_ok {a0 : Nat} {a1 : Int32} {a2 : Int32} {d : Nat} (hd : 0 ≤ d) (ha0 : isMends a0) : ∀ (fuel : Nat) (l3 : Int32) (l4 : Int32) (l5 : Int32) (l6 : Int32) (o7 : Option Value) (q7 : xNoD o7 = true) (m : xMem) (r : (Int32 × xMem)), fX5_countBy_87 a0 a1 a2 fuel l3 l4 l5 l6 m = some r → xFx hh_249 cX5_countBy d 87 [some (.ref a0), some (.int a1), some (.int a2), some (.int l3), some (.int l4), some (.int l5), some (.int l6), o7] [] (xLay m) 0 0 (some (.int r.1)) (xLay r.2) := by
  intro fuel
  induction fuel with
  | zero => intro l3 l4 l5 l6 o7 q7 m r  h; cases h
  | succ fuel ih =>
    intro l3 l4 l5 l6 o7 q7 m r  h
    unfold fX5_countBy_87 at h
    refine fx_iload dX5_countBy_87 rfl rfl ?_
    refine fx_aload_n dX5_countBy_89 rfl rfl ?_
    obtain ⟨x1, hx1, h⟩ := xLet_el h
    refine gx_get dX5_countBy_90 rfl fd_5_27 ha0.1 rfl rfl hx1 ?_
    refine fx_icmp_ge (t := 173) dX5_countBy_93 rfl rfl (fun hc2 => ?_) (fun hc2 => ?_)
    · rw [if_pos hc2] at h
      exact fX5_countBy_173_ok (o3 := some (.int l3)) (o4 := some (.int l4)) (o6 := some (.int l6)) (o7 := o7) hd ha0 rfl rfl rfl q7 h
    · rw [if_neg hc2] at h
      refine fx_iload dX5_countBy_96 rfl rfl ?_
      refine fx_bipush (x := 6) dX5_countBy_98 rfl (by decide) ?_
      refine fx_icmp_ge (t := 173) dX5_countBy_100 rfl rfl (fun hc3 => ?_) (fun hc3 => ?_)
      · rw [if_pos hc3] at h
        exact fX5_countBy_173_ok (o3 := some (.int l3)) (o4 := some (.int l4)) (o6 := some (.int l6)) (o7 := o7) hd ha0 rfl rfl rfl q7 h
      · rw [if_neg hc3] at h
        refine fx_iload dX5_countBy_103 rfl rfl ?_
        refine fx_istore (ls2 := [some (.ref a0), some (.int a1), some (.int a2), some (.int l3), some (.int l4), some (.int l5), some (.int l6), some (.int l4)]) dX5_countBy_105 rfl rfl rfl ?_
        exact fX5_countBy_107_ok hd ha0 ih xFuel l3 l4 l5 l6 l4 m r h
def fX5_countBy_37 (a0 : Nat) (a1 : Int32) (a2 : Int32) : Nat → Int32 → Int32 → Int32 → xMem → Option (Int32 × xMem)
  | 0, _, _, _, _ => none
  | fuel + 1, l3, l4, l5, m => if (6 : Int32) ≤ l5 then bif xIn l3 64 then xLet (m.1 (a0 + 5) l3.toNatClampNeg) fun x2 => fX5_countBy_87 a0 a1 a2 xFuel l3 l4 x2 (0 : Int32) m else none else xLet (a1 >>> (l5 &&& 31)) fun x4 => xLet (x4 &&& (1 : Int32)) fun x5 => if ¬ x5 = (1 : Int32) then fX5_countBy_67 a0 a1 a2 (fX5_countBy_37 a0 a1 a2 fuel) l3 l5 l4 (0 : Int32) m else bif xIn l5 6 then xLet (m.1 (a0 + 4) l5.toNatClampNeg) fun x7 => fX5_countBy_67 a0 a1 a2 (fX5_countBy_37 a0 a1 a2 fuel) l3 l5 l4 x7 m else none
set_option maxRecDepth 4000 in
theorem fX5_countBy_37_ok {a0 : Nat} {a1 : Int32} {a2 : Int32} {d : Nat} (hd : 0 ≤ d) (ha0 : isMends a0) : ∀ (fuel : Nat) (l3 : Int32) (l4 : Int32) (l5 : Int32) (o6 : Option Value) (o7 : Option Value) (q6 : xNoD o6 = true) (q7 : xNoD o7 = true) (m : xMem) (r : (Int32 × xMem)), fX5_countBy_37 a0 a1 a2 fuel l3 l4 l5 m = some r → xFx hh_249 cX5_countBy d 37 [some (.ref a0), some (.int a1), some (.int a2), some (.int l3), some (.int l4), some (.int l5), o6, o7] [] (xLay m) 0 0 (some (.int r.1)) (xLay r.2) := by
  intro fuel
  induction fuel with
  | zero => intro l3 l4 l5 o6 o7 q6 q7 m r  h; cases h
  | succ fuel ih =>
    intro l3 l4 l5 o6 o7 q6 q7 m r  h
    unfold fX5_countBy_37 at h
    refine fx_iload dX5_countBy_37 rfl rfl ?_
    refine fx_bipush (x := 6) dX5_countBy_39 rfl (by decide) ?_
    refine fx_icmp_ge (t := 76) dX5_countBy_41 rfl rfl (fun hc1 => ?_) (fun hc1 => ?_)
    · rw [if_pos hc1] at h
      refine fx_aload_n dX5_countBy_76 rfl rfl ?_
      refine gx_getr dX5_countBy_77 rfl fd_5_24 ha0.1 rfl rfl ?_
      refine fx_iload_n dX5_countBy_80 rfl rfl ?_
      obtain ⟨hj3, h⟩ := xChk_el h
      obtain ⟨x2, hx2, h⟩ := xLet_el h
      refine gx_iaload dX5_countBy_81 rfl ha0.2.2.2.2.2 hj3 hx2 ?_
      refine fx_istore (ls2 := [some (.ref a0), some (.int a1), some (.int a2), some (.int l3), some (.int l4), some (.int x2), o6, o7]) dX5_countBy_82 rfl rfl rfl ?_
      refine fx_iconst (x := 0) dX5_countBy_84 rfl (by decide) ?_
      refine fx_istore (ls2 := [some (.ref a0), some (.int a1), some (.int a2), some (.int l3), some (.int l4), some (.int x2), some (.int (0 : Int32)), o7]) dX5_countBy_85 rfl rfl rfl ?_
      exact fX5_countBy_87_ok hd ha0 xFuel l3 l4 x2 (0 : Int32) (o7) q7 m r h
    · rw [if_neg hc1] at h
      refine fx_iload dX5_countBy_44 rfl rfl ?_
      refine fx_iload_n dX5_countBy_46 rfl rfl ?_
      refine fx_iload dX5_countBy_47 rfl rfl ?_
      obtain ⟨x4, hx4, h⟩ := xLet_el h
      refine fx_ishr dX5_countBy_49 rfl hx4 ?_
      refine fx_iconst (x := 1) dX5_countBy_50 rfl (by decide) ?_
      obtain ⟨x5, hx5, h⟩ := xLet_el h
      refine fx_iand dX5_countBy_51 rfl hx5 ?_
      refine fx_iconst (x := 1) dX5_countBy_52 rfl (by decide) ?_
      refine fx_icmp_ne (t := 66) dX5_countBy_53 rfl rfl (fun hc6 => ?_) (fun hc6 => ?_)
      · rw [if_pos hc6] at h
        refine fx_iconst (x := 0) dX5_countBy_66 rfl (by decide) ?_
        exact fX5_countBy_67_ok (o4 := some (.int l4)) (o6 := o6) (o7 := o7) hd ha0 ih rfl q6 q7 h
      · rw [if_neg hc6] at h
        refine fx_aload_n dX5_countBy_56 rfl rfl ?_
        refine gx_getr dX5_countBy_57 rfl fd_5_21 ha0.1 rfl rfl ?_
        refine fx_iload dX5_countBy_60 rfl rfl ?_
        obtain ⟨hj8, h⟩ := xChk_el h
        obtain ⟨x7, hx7, h⟩ := xLet_el h
        refine gx_iaload dX5_countBy_62 rfl ha0.2.2.2.2.1 hj8 hx7 ?_
        refine fx_goto (t := 67) dX5_countBy_63 rfl rfl ?_
        exact fX5_countBy_67_ok (o4 := some (.int l4)) (o6 := o6) (o7 := o7) hd ha0 ih rfl q6 q7 h
def fX5_countBy_0 (a0 : Nat) (a1 : Int32) (a2 : Int32) (m : xMem) : Option (Int32 × xMem) := xLet ((1 : Int32) <<< (a2 &&& 31)) fun x1 => xLet (a1 ||| x1) fun x2 => if a2 < (0 : Int32) then fX5_countBy_29 a0 a1 a2 m else if (6 : Int32) ≤ a2 then fX5_countBy_29 a0 a1 a2 m else if x2 < (0 : Int32) then fX5_countBy_29 a0 a1 a2 m else if x2 < (64 : Int32) then fX5_countBy_37 a0 a1 a2 xFuel x2 (0 : Int32) (0 : Int32) m else fX5_countBy_29 a0 a1 a2 m
set_option maxRecDepth 4000 in
theorem fX5_countBy_0_ok {a0 : Nat} {a1 : Int32} {a2 : Int32} {d : Nat} (hd : 0 ≤ d) (ha0 : isMends a0) {o3 : Option Value} {o4 : Option Value} {o5 : Option Value} {o6 : Option Value} {o7 : Option Value} {m : xMem} {r : (Int32 × xMem)} (q3 : xNoD o3 = true) (q4 : xNoD o4 = true) (q5 : xNoD o5 = true) (q6 : xNoD o6 = true) (q7 : xNoD o7 = true) (h : fX5_countBy_0 a0 a1 a2 m = some r) : xFx hh_249 cX5_countBy d 0 [some (.ref a0), some (.int a1), some (.int a2), o3, o4, o5, o6, o7] [] (xLay m) 0 0 (some (.int r.1)) (xLay r.2) := by
  unfold fX5_countBy_0 at h
  refine fx_iload_n dX5_countBy_0 rfl rfl ?_
  refine fx_iconst (x := 1) dX5_countBy_1 rfl (by decide) ?_
  refine fx_iload_n dX5_countBy_2 rfl rfl ?_
  obtain ⟨x1, hx1, h⟩ := xLet_el h
  refine fx_ishl dX5_countBy_3 rfl hx1 ?_
  obtain ⟨x2, hx2, h⟩ := xLet_el h
  refine fx_ior dX5_countBy_4 rfl hx2 ?_
  refine fx_istore_n (ls2 := [some (.ref a0), some (.int a1), some (.int a2), some (.int x2), o4, o5, o6, o7]) dX5_countBy_5 rfl rfl rfl ?_
  refine fx_iload_n dX5_countBy_6 rfl rfl ?_
  refine fx_if_lt (t := 29) dX5_countBy_7 rfl rfl (fun hc3 => ?_) (fun hc3 => ?_)
  · rw [if_pos hc3] at h
    exact fX5_countBy_29_ok (o3 := some (.int x2)) (o4 := o4) (o5 := o5) (o6 := o6) (o7 := o7) hd ha0 rfl q4 q5 q6 q7 h
  · rw [if_neg hc3] at h
    refine fx_iload_n dX5_countBy_10 rfl rfl ?_
    refine fx_bipush (x := 6) dX5_countBy_11 rfl (by decide) ?_
    refine fx_icmp_ge (t := 29) dX5_countBy_13 rfl rfl (fun hc4 => ?_) (fun hc4 => ?_)
    · rw [if_pos hc4] at h
      exact fX5_countBy_29_ok (o3 := some (.int x2)) (o4 := o4) (o5 := o5) (o6 := o6) (o7 := o7) hd ha0 rfl q4 q5 q6 q7 h
    · rw [if_neg hc4] at h
      refine fx_iload_n dX5_countBy_16 rfl rfl ?_
      refine fx_if_lt (t := 29) dX5_countBy_17 rfl rfl (fun hc5 => ?_) (fun hc5 => ?_)
      · rw [if_pos hc5] at h
        exact fX5_countBy_29_ok (o3 := some (.int x2)) (o4 := o4) (o5 := o5) (o6 := o6) (o7 := o7) hd ha0 rfl q4 q5 q6 q7 h
      · rw [if_neg hc5] at h
        refine fx_iload_n dX5_countBy_20 rfl rfl ?_
        refine fx_aload_n dX5_countBy_21 rfl rfl ?_
        refine gx_getr dX5_countBy_22 rfl fd_5_24 ha0.1 rfl rfl ?_
        refine gx_alen (t := 1) (y := 64) dX5_countBy_25 rfl ha0.2.2.2.2.2 rfl (by decide) ?_
        refine fx_icmp_lt (t := 31) dX5_countBy_26 rfl rfl (fun hc6 => ?_) (fun hc6 => ?_)
        · rw [if_pos hc6] at h
          refine fx_iconst (x := 0) dX5_countBy_31 rfl (by decide) ?_
          refine fx_istore (ls2 := [some (.ref a0), some (.int a1), some (.int a2), some (.int x2), some (.int (0 : Int32)), o5, o6, o7]) dX5_countBy_32 rfl rfl rfl ?_
          refine fx_iconst (x := 0) dX5_countBy_34 rfl (by decide) ?_
          refine fx_istore (ls2 := [some (.ref a0), some (.int a1), some (.int a2), some (.int x2), some (.int (0 : Int32)), some (.int (0 : Int32)), o6, o7]) dX5_countBy_35 rfl rfl rfl ?_
          exact fX5_countBy_37_ok hd ha0 xFuel x2 (0 : Int32) (0 : Int32) (o6) (o7) q6 q7 m r h
        · rw [if_neg hc6] at h
          exact fX5_countBy_29_ok (o3 := some (.int x2)) (o4 := o4) (o5 := o5) (o6 := o6) (o7 := o7) hd ha0 rfl q4 q5 q6 q7 h
def fX5_countBy (a0 : Nat) (a1 : Int32) (a2 : Int32) (m : xMem) : Option (Int32 × xMem) := fX5_countBy_0 a0 a1 a2  m
theorem fX5_countBy_ok {a0 : Nat} {a1 : Int32} {a2 : Int32} {m : xMem} {r : (Int32 × xMem)} {d : Nat} (hd : 1 ≤ d) (ha0 : isMends a0) (h : fX5_countBy a0 a1 a2 m = some r) : xEx d 249 [.ref a0, .int a1, .int a2] (xLay m) (some (.int r.1)) (xLay r.2) := by
  obtain ⟨d, rfl⟩ : ∃ q, d = q + 1 := ⟨d - 1, by omega⟩
  exact xEx_of me_249 rfl (fX5_countBy_0_ok (d := d) (o3 := none) (o4 := none) (o5 := none) (o6 := none) (o7 := none) (by omega) ha0 rfl rfl rfl rfl rfl h)
def fX5_bestNext_58 (a0 : Nat) (a1 : Int32) (rec7 : Int32 → Int32 → Int32 → xMem → Option (Int32 × xMem)) (l2 : Int32) (l3 : Int32) (l4 : Int32) (m : xMem) : Option (Int32 × xMem) := xLet (l4 + (1 : Int32)) fun x1 => rec7 l2 l3 x1 m
set_option maxRecDepth 4000 in
theorem fX5_bestNext_58_ok {a0 : Nat} {a1 : Int32} {rec7 : Int32 → Int32 → Int32 → xMem → Option (Int32 × xMem)} {d : Nat} (hd : 1 ≤ d) (ha0 : isMends a0) (hrec7 : ∀ (l2 : Int32) (l3 : Int32) (l4 : Int32) (o5 : Option Value) (q5 : xNoD o5 = true) (m : xMem) (r : (Int32 × xMem)), rec7 l2 l3 l4 m = some r → xFx hh_248 cX5_bestNext d 7 [some (.ref a0), some (.int a1), some (.int l2), some (.int l3), some (.int l4), o5] [] (xLay m) 0 0 (some (.int r.1)) (xLay r.2)) {l2 : Int32} {l3 : Int32} {l4 : Int32} {o5 : Option Value} {m : xMem} {r : (Int32 × xMem)} (q5 : xNoD o5 = true) (h : fX5_bestNext_58 a0 a1 rec7 l2 l3 l4 m = some r) : xFx hh_248 cX5_bestNext d 58 [some (.ref a0), some (.int a1), some (.int l2), some (.int l3), some (.int l4), o5] [] (xLay m) 0 0 (some (.int r.1)) (xLay r.2) := by
  unfold fX5_bestNext_58 at h
  obtain ⟨x1, hx1, h⟩ := xLet_el h
  refine fx_iinc (ls2 := [some (.ref a0), some (.int a1), some (.int l2), some (.int l3), some (.int x1), o5]) dX5_bestNext_58 rfl rfl rfl hx1 rfl ?_
  refine fx_goto (t := 7) dX5_bestNext_61 rfl rfl ?_
  exact hrec7 l2 l3 x1 (o5) q5 m r h
def fX5_bestNext_52 (a0 : Nat) (a1 : Int32) (rec7 : Int32 → Int32 → Int32 → xMem → Option (Int32 × xMem)) (l4 : Int32) (l5 : Int32) (m : xMem) : Option (Int32 × xMem) := fX5_bestNext_58 a0 a1 rec7 l4 l5 l4 m
set_option maxRecDepth 4000 in
theorem fX5_bestNext_52_ok {a0 : Nat} {a1 : Int32} {rec7 : Int32 → Int32 → Int32 → xMem → Option (Int32 × xMem)} {d : Nat} (hd : 1 ≤ d) (ha0 : isMends a0) (hrec7 : ∀ (l2 : Int32) (l3 : Int32) (l4 : Int32) (o5 : Option Value) (q5 : xNoD o5 = true) (m : xMem) (r : (Int32 × xMem)), rec7 l2 l3 l4 m = some r → xFx hh_248 cX5_bestNext d 7 [some (.ref a0), some (.int a1), some (.int l2), some (.int l3), some (.int l4), o5] [] (xLay m) 0 0 (some (.int r.1)) (xLay r.2)) {l4 : Int32} {l5 : Int32} {o2 : Option Value} {o3 : Option Value} {m : xMem} {r : (Int32 × xMem)} (q2 : xNoD o2 = true) (q3 : xNoD o3 = true) (h : fX5_bestNext_52 a0 a1 rec7 l4 l5 m = some r) : xFx hh_248 cX5_bestNext d 52 [some (.ref a0), some (.int a1), o2, o3, some (.int l4), some (.int l5)] [] (xLay m) 0 0 (some (.int r.1)) (xLay r.2) := by
  unfold fX5_bestNext_52 at h
  refine fx_iload dX5_bestNext_52 rfl rfl ?_
  refine fx_istore_n (ls2 := [some (.ref a0), some (.int a1), some (.int l4), o3, some (.int l4), some (.int l5)]) dX5_bestNext_54 rfl rfl rfl ?_
  refine fx_iload dX5_bestNext_55 rfl rfl ?_
  refine fx_istore_n (ls2 := [some (.ref a0), some (.int a1), some (.int l4), some (.int l5), some (.int l4), some (.int l5)]) dX5_bestNext_57 rfl rfl rfl ?_
  exact fX5_bestNext_58_ok (o5 := some (.int l5)) hd ha0 hrec7 rfl h
def fX5_bestNext_64 (a0 : Nat) (a1 : Int32) (l2 : Int32) (m : xMem) : Option (Int32 × xMem) := some (l2, m)
set_option maxRecDepth 4000 in
theorem fX5_bestNext_64_ok {a0 : Nat} {a1 : Int32} {d : Nat} (hd : 1 ≤ d) (ha0 : isMends a0) {l2 : Int32} {o3 : Option Value} {o4 : Option Value} {o5 : Option Value} {m : xMem} {r : (Int32 × xMem)} (q3 : xNoD o3 = true) (q4 : xNoD o4 = true) (q5 : xNoD o5 = true) (h : fX5_bestNext_64 a0 a1 l2 m = some r) : xFx hh_248 cX5_bestNext d 64 [some (.ref a0), some (.int a1), some (.int l2), o3, o4, o5] [] (xLay m) 0 0 (some (.int r.1)) (xLay r.2) := by
  unfold fX5_bestNext_64 at h
  refine fx_iload_n dX5_bestNext_64 rfl rfl ?_
  cases h
  exact fx_ireturn dX5_bestNext_65 rfl rfl
def fX5_bestNext_7 (a0 : Nat) (a1 : Int32) : Nat → Int32 → Int32 → Int32 → xMem → Option (Int32 × xMem)
  | 0, _, _, _, _ => none
  | fuel + 1, l2, l3, l4, m => xLet (m.1 a0 5) fun x1 => if x1 ≤ l4 then fX5_bestNext_64 a0 a1 l2 m else if (6 : Int32) ≤ l4 then fX5_bestNext_64 a0 a1 l2 m else xLet (a1 >>> (l4 &&& 31)) fun x4 => xLet (x4 &&& (1 : Int32)) fun x5 => if ¬ x5 = (0 : Int32) then fX5_bestNext_58 a0 a1 (fX5_bestNext_7 a0 a1 fuel) l2 l3 l4 m else (fX5_countBy a0 a1 l4 m).bind fun p7 => if l2 = (-1 : Int32) then fX5_bestNext_52 a0 a1 (fX5_bestNext_7 a0 a1 fuel) l4 p7.1 p7.2 else if l3 ≤ p7.1 then fX5_bestNext_58 a0 a1 (fX5_bestNext_7 a0 a1 fuel) l2 l3 l4 p7.2 else fX5_bestNext_52 a0 a1 (fX5_bestNext_7 a0 a1 fuel) l4 p7.1 p7.2
set_option maxRecDepth 4000 in
theorem fX5_bestNext_7_ok {a0 : Nat} {a1 : Int32} {d : Nat} (hd : 1 ≤ d) (ha0 : isMends a0) : ∀ (fuel : Nat) (l2 : Int32) (l3 : Int32) (l4 : Int32) (o5 : Option Value) (q5 : xNoD o5 = true) (m : xMem) (r : (Int32 × xMem)), fX5_bestNext_7 a0 a1 fuel l2 l3 l4 m = some r → xFx hh_248 cX5_bestNext d 7 [some (.ref a0), some (.int a1), some (.int l2), some (.int l3), some (.int l4), o5] [] (xLay m) 0 0 (some (.int r.1)) (xLay r.2) := by
  intro fuel
  induction fuel with
  | zero => intro l2 l3 l4 o5 q5 m r  h; cases h
  | succ fuel ih =>
    intro l2 l3 l4 o5 q5 m r  h
    unfold fX5_bestNext_7 at h
    refine fx_iload dX5_bestNext_7 rfl rfl ?_
    refine fx_aload_n dX5_bestNext_9 rfl rfl ?_
    obtain ⟨x1, hx1, h⟩ := xLet_el h
    refine gx_get dX5_bestNext_10 rfl fd_5_27 ha0.1 rfl rfl hx1 ?_
    refine fx_icmp_ge (t := 64) dX5_bestNext_13 rfl rfl (fun hc2 => ?_) (fun hc2 => ?_)
    · rw [if_pos hc2] at h
      exact fX5_bestNext_64_ok (o3 := some (.int l3)) (o4 := some (.int l4)) (o5 := o5) hd ha0 rfl rfl q5 h
    · rw [if_neg hc2] at h
      refine fx_iload dX5_bestNext_16 rfl rfl ?_
      refine fx_bipush (x := 6) dX5_bestNext_18 rfl (by decide) ?_
      refine fx_icmp_ge (t := 64) dX5_bestNext_20 rfl rfl (fun hc3 => ?_) (fun hc3 => ?_)
      · rw [if_pos hc3] at h
        exact fX5_bestNext_64_ok (o3 := some (.int l3)) (o4 := some (.int l4)) (o5 := o5) hd ha0 rfl rfl q5 h
      · rw [if_neg hc3] at h
        refine fx_iload_n dX5_bestNext_23 rfl rfl ?_
        refine fx_iload dX5_bestNext_24 rfl rfl ?_
        obtain ⟨x4, hx4, h⟩ := xLet_el h
        refine fx_ishr dX5_bestNext_26 rfl hx4 ?_
        refine fx_iconst (x := 1) dX5_bestNext_27 rfl (by decide) ?_
        obtain ⟨x5, hx5, h⟩ := xLet_el h
        refine fx_iand dX5_bestNext_28 rfl hx5 ?_
        refine fx_if_ne (t := 58) dX5_bestNext_29 rfl rfl (fun hc6 => ?_) (fun hc6 => ?_)
        · rw [if_pos hc6] at h
          exact fX5_bestNext_58_ok (o5 := o5) hd ha0 ih q5 h
        · rw [if_neg hc6] at h
          refine fx_aload_n dX5_bestNext_32 rfl rfl ?_
          refine fx_iload_n dX5_bestNext_33 rfl rfl ?_
          refine fx_iload dX5_bestNext_34 rfl rfl ?_
          obtain ⟨p7, ep7, h⟩ := xBind_el h
          refine gx_callv (as := [.int a1, .int l4]) (r := []) rfl dX5_bestNext_36 ca_5_47 rfl me_249 rfl rfl rfl rfl (ha0.1) rfl (fX5_countBy_ok (d := d) (by omega) ha0 ep7) rfl rfl ?_
          refine fx_istore (ls2 := [some (.ref a0), some (.int a1), some (.int l2), some (.int l3), some (.int l4), some (.int p7.1)]) dX5_bestNext_39 rfl rfl rfl ?_
          refine fx_iload_n dX5_bestNext_41 rfl rfl ?_
          refine fx_iconst (x := -1) dX5_bestNext_42 rfl (by decide) ?_
          refine fx_icmp_eq (t := 52) dX5_bestNext_43 rfl rfl (fun hc8 => ?_) (fun hc8 => ?_)
          · rw [if_pos hc8] at h
            exact fX5_bestNext_52_ok (o2 := some (.int l2)) (o3 := some (.int l3)) hd ha0 ih rfl rfl h
          · rw [if_neg hc8] at h
            refine fx_iload dX5_bestNext_46 rfl rfl ?_
            refine fx_iload_n dX5_bestNext_48 rfl rfl ?_
            refine fx_icmp_ge (t := 58) dX5_bestNext_49 rfl rfl (fun hc9 => ?_) (fun hc9 => ?_)
            · rw [if_pos hc9] at h
              exact fX5_bestNext_58_ok (o5 := some (.int p7.1)) hd ha0 ih rfl h
            · rw [if_neg hc9] at h
              exact fX5_bestNext_52_ok (o2 := some (.int l2)) (o3 := some (.int l3)) hd ha0 ih rfl rfl h
def fX5_bestNext_0 (a0 : Nat) (a1 : Int32) (m : xMem) : Option (Int32 × xMem) := fX5_bestNext_7 a0 a1 xFuel (-1 : Int32) (0 : Int32) (0 : Int32) m
set_option maxRecDepth 4000 in
theorem fX5_bestNext_0_ok {a0 : Nat} {a1 : Int32} {d : Nat} (hd : 1 ≤ d) (ha0 : isMends a0) {o2 : Option Value} {o3 : Option Value} {o4 : Option Value} {o5 : Option Value} {m : xMem} {r : (Int32 × xMem)} (q2 : xNoD o2 = true) (q3 : xNoD o3 = true) (q4 : xNoD o4 = true) (q5 : xNoD o5 = true) (h : fX5_bestNext_0 a0 a1 m = some r) : xFx hh_248 cX5_bestNext d 0 [some (.ref a0), some (.int a1), o2, o3, o4, o5] [] (xLay m) 0 0 (some (.int r.1)) (xLay r.2) := by
  unfold fX5_bestNext_0 at h
  refine fx_iconst (x := -1) dX5_bestNext_0 rfl (by decide) ?_
  refine fx_istore_n (ls2 := [some (.ref a0), some (.int a1), some (.int (-1 : Int32)), o3, o4, o5]) dX5_bestNext_1 rfl rfl rfl ?_
  refine fx_iconst (x := 0) dX5_bestNext_2 rfl (by decide) ?_
  refine fx_istore_n (ls2 := [some (.ref a0), some (.int a1), some (.int (-1 : Int32)), some (.int (0 : Int32)), o4, o5]) dX5_bestNext_3 rfl rfl rfl ?_
  refine fx_iconst (x := 0) dX5_bestNext_4 rfl (by decide) ?_
  refine fx_istore (ls2 := [some (.ref a0), some (.int a1), some (.int (-1 : Int32)), some (.int (0 : Int32)), some (.int (0 : Int32)), o5]) dX5_bestNext_5 rfl rfl rfl ?_
  exact fX5_bestNext_7_ok hd ha0 xFuel (-1 : Int32) (0 : Int32) (0 : Int32) (o5) q5 m r h
def fX5_bestNext (a0 : Nat) (a1 : Int32) (m : xMem) : Option (Int32 × xMem) := fX5_bestNext_0 a0 a1  m
theorem fX5_bestNext_ok {a0 : Nat} {a1 : Int32} {m : xMem} {r : (Int32 × xMem)} {d : Nat} (hd : 2 ≤ d) (ha0 : isMends a0) (h : fX5_bestNext a0 a1 m = some r) : xEx d 248 [.ref a0, .int a1] (xLay m) (some (.int r.1)) (xLay r.2) := by
  obtain ⟨d, rfl⟩ : ∃ q, d = q + 1 := ⟨d - 1, by omega⟩
  exact xEx_of me_248 rfl (fX5_bestNext_0_ok (d := d) (o2 := none) (o3 := none) (o4 := none) (o5 := none) (by omega) ha0 rfl rfl rfl rfl h)
def fX5_inTurn_35 (a0 : Nat) (a1 : Int32) (rec4 : Int32 → Int32 → xMem → Option (Int32 × xMem)) (l2 : Int32) (l3 : Int32) (m : xMem) : Option (Int32 × xMem) := xLet (l3 + (1 : Int32)) fun x1 => rec4 l2 x1 m
set_option maxRecDepth 4000 in
theorem fX5_inTurn_35_ok {a0 : Nat} {a1 : Int32} {rec4 : Int32 → Int32 → xMem → Option (Int32 × xMem)} {d : Nat} (hd : 2 ≤ d) (ha0 : isMends a0) (hrec4 : ∀ (l2 : Int32) (l3 : Int32) (o4 : Option Value) (q4 : xNoD o4 = true) (m : xMem) (r : (Int32 × xMem)), rec4 l2 l3 m = some r → xFx hh_250 cX5_inTurn d 4 [some (.ref a0), some (.int a1), some (.int l2), some (.int l3), o4] [] (xLay m) 0 0 (some (.int r.1)) (xLay r.2)) {l2 : Int32} {l3 : Int32} {o4 : Option Value} {m : xMem} {r : (Int32 × xMem)} (q4 : xNoD o4 = true) (h : fX5_inTurn_35 a0 a1 rec4 l2 l3 m = some r) : xFx hh_250 cX5_inTurn d 35 [some (.ref a0), some (.int a1), some (.int l2), some (.int l3), o4] [] (xLay m) 0 0 (some (.int r.1)) (xLay r.2) := by
  unfold fX5_inTurn_35 at h
  obtain ⟨x1, hx1, h⟩ := xLet_el h
  refine fx_iinc (ls2 := [some (.ref a0), some (.int a1), some (.int l2), some (.int x1), o4]) dX5_inTurn_35 rfl rfl rfl hx1 rfl ?_
  refine fx_goto (t := 4) dX5_inTurn_38 rfl rfl ?_
  exact hrec4 l2 x1 (o4) q4 m r h
def fX5_inTurn_41 (a0 : Nat) (a1 : Int32) (l2 : Int32) (m : xMem) : Option (Int32 × xMem) := (fX5_bestNext a0 l2 m).bind fun p1 => some (p1.1, p1.2)
set_option maxRecDepth 4000 in
theorem fX5_inTurn_41_ok {a0 : Nat} {a1 : Int32} {d : Nat} (hd : 2 ≤ d) (ha0 : isMends a0) {l2 : Int32} {o3 : Option Value} {o4 : Option Value} {m : xMem} {r : (Int32 × xMem)} (q3 : xNoD o3 = true) (q4 : xNoD o4 = true) (h : fX5_inTurn_41 a0 a1 l2 m = some r) : xFx hh_250 cX5_inTurn d 41 [some (.ref a0), some (.int a1), some (.int l2), o3, o4] [] (xLay m) 0 0 (some (.int r.1)) (xLay r.2) := by
  unfold fX5_inTurn_41 at h
  refine fx_aload_n dX5_inTurn_41 rfl rfl ?_
  refine fx_iload_n dX5_inTurn_42 rfl rfl ?_
  obtain ⟨p1, ep1, h⟩ := xBind_el h
  refine gx_callv (as := [.int l2]) (r := []) rfl dX5_inTurn_43 ca_5_43 rfl me_248 rfl rfl rfl rfl (ha0.1) rfl (fX5_bestNext_ok (d := d) (by omega) ha0 ep1) rfl rfl ?_
  cases h
  exact fx_ireturn dX5_inTurn_46 rfl rfl
def fX5_inTurn_4 (a0 : Nat) (a1 : Int32) : Nat → Int32 → Int32 → xMem → Option (Int32 × xMem)
  | 0, _, _, _ => none
  | fuel + 1, l2, l3, m => if a1 ≤ l3 then fX5_inTurn_41 a0 a1 l2 m else if (6 : Int32) ≤ l3 then fX5_inTurn_41 a0 a1 l2 m else (fX5_bestNext a0 l2 m).bind fun p3 => if p3.1 = (-1 : Int32) then fX5_inTurn_35 a0 a1 (fX5_inTurn_4 a0 a1 fuel) l2 l3 p3.2 else xLet ((1 : Int32) <<< (p3.1 &&& 31)) fun x5 => xLet (l2 ||| x5) fun x6 => fX5_inTurn_35 a0 a1 (fX5_inTurn_4 a0 a1 fuel) x6 l3 p3.2
set_option maxRecDepth 4000 in
theorem fX5_inTurn_4_ok {a0 : Nat} {a1 : Int32} {d : Nat} (hd : 2 ≤ d) (ha0 : isMends a0) : ∀ (fuel : Nat) (l2 : Int32) (l3 : Int32) (o4 : Option Value) (q4 : xNoD o4 = true) (m : xMem) (r : (Int32 × xMem)), fX5_inTurn_4 a0 a1 fuel l2 l3 m = some r → xFx hh_250 cX5_inTurn d 4 [some (.ref a0), some (.int a1), some (.int l2), some (.int l3), o4] [] (xLay m) 0 0 (some (.int r.1)) (xLay r.2) := by
  intro fuel
  induction fuel with
  | zero => intro l2 l3 o4 q4 m r  h; cases h
  | succ fuel ih =>
    intro l2 l3 o4 q4 m r  h
    unfold fX5_inTurn_4 at h
    refine fx_iload_n dX5_inTurn_4 rfl rfl ?_
    refine fx_iload_n dX5_inTurn_5 rfl rfl ?_
    refine fx_icmp_ge (t := 41) dX5_inTurn_6 rfl rfl (fun hc1 => ?_) (fun hc1 => ?_)
    · rw [if_pos hc1] at h
      exact fX5_inTurn_41_ok (o3 := some (.int l3)) (o4 := o4) hd ha0 rfl q4 h
    · rw [if_neg hc1] at h
      refine fx_iload_n dX5_inTurn_9 rfl rfl ?_
      refine fx_bipush (x := 6) dX5_inTurn_10 rfl (by decide) ?_
      refine fx_icmp_ge (t := 41) dX5_inTurn_12 rfl rfl (fun hc2 => ?_) (fun hc2 => ?_)
      · rw [if_pos hc2] at h
        exact fX5_inTurn_41_ok (o3 := some (.int l3)) (o4 := o4) hd ha0 rfl q4 h
      · rw [if_neg hc2] at h
        refine fx_aload_n dX5_inTurn_15 rfl rfl ?_
        refine fx_iload_n dX5_inTurn_16 rfl rfl ?_
        obtain ⟨p3, ep3, h⟩ := xBind_el h
        refine gx_callv (as := [.int l2]) (r := []) rfl dX5_inTurn_17 ca_5_43 rfl me_248 rfl rfl rfl rfl (ha0.1) rfl (fX5_bestNext_ok (d := d) (by omega) ha0 ep3) rfl rfl ?_
        refine fx_istore (ls2 := [some (.ref a0), some (.int a1), some (.int l2), some (.int l3), some (.int p3.1)]) dX5_inTurn_20 rfl rfl rfl ?_
        refine fx_iload dX5_inTurn_22 rfl rfl ?_
        refine fx_iconst (x := -1) dX5_inTurn_24 rfl (by decide) ?_
        refine fx_icmp_eq (t := 35) dX5_inTurn_25 rfl rfl (fun hc4 => ?_) (fun hc4 => ?_)
        · rw [if_pos hc4] at h
          exact fX5_inTurn_35_ok (o4 := some (.int p3.1)) hd ha0 ih rfl h
        · rw [if_neg hc4] at h
          refine fx_iload_n dX5_inTurn_28 rfl rfl ?_
          refine fx_iconst (x := 1) dX5_inTurn_29 rfl (by decide) ?_
          refine fx_iload dX5_inTurn_30 rfl rfl ?_
          obtain ⟨x5, hx5, h⟩ := xLet_el h
          refine fx_ishl dX5_inTurn_32 rfl hx5 ?_
          obtain ⟨x6, hx6, h⟩ := xLet_el h
          refine fx_ior dX5_inTurn_33 rfl hx6 ?_
          refine fx_istore_n (ls2 := [some (.ref a0), some (.int a1), some (.int x6), some (.int l3), some (.int p3.1)]) dX5_inTurn_34 rfl rfl rfl ?_
          exact fX5_inTurn_35_ok (o4 := some (.int p3.1)) hd ha0 ih rfl h
def fX5_inTurn_0 (a0 : Nat) (a1 : Int32) (m : xMem) : Option (Int32 × xMem) := fX5_inTurn_4 a0 a1 xFuel (0 : Int32) (0 : Int32) m
set_option maxRecDepth 4000 in
theorem fX5_inTurn_0_ok {a0 : Nat} {a1 : Int32} {d : Nat} (hd : 2 ≤ d) (ha0 : isMends a0) {o2 : Option Value} {o3 : Option Value} {o4 : Option Value} {m : xMem} {r : (Int32 × xMem)} (q2 : xNoD o2 = true) (q3 : xNoD o3 = true) (q4 : xNoD o4 = true) (h : fX5_inTurn_0 a0 a1 m = some r) : xFx hh_250 cX5_inTurn d 0 [some (.ref a0), some (.int a1), o2, o3, o4] [] (xLay m) 0 0 (some (.int r.1)) (xLay r.2) := by
  unfold fX5_inTurn_0 at h
  refine fx_iconst (x := 0) dX5_inTurn_0 rfl (by decide) ?_
  refine fx_istore_n (ls2 := [some (.ref a0), some (.int a1), some (.int (0 : Int32)), o3, o4]) dX5_inTurn_1 rfl rfl rfl ?_
  refine fx_iconst (x := 0) dX5_inTurn_2 rfl (by decide) ?_
  refine fx_istore_n (ls2 := [some (.ref a0), some (.int a1), some (.int (0 : Int32)), some (.int (0 : Int32)), o4]) dX5_inTurn_3 rfl rfl rfl ?_
  exact fX5_inTurn_4_ok hd ha0 xFuel (0 : Int32) (0 : Int32) (o4) q4 m r h
def fX5_inTurn (a0 : Nat) (a1 : Int32) (m : xMem) : Option (Int32 × xMem) := fX5_inTurn_0 a0 a1  m
theorem fX5_inTurn_ok {a0 : Nat} {a1 : Int32} {m : xMem} {r : (Int32 × xMem)} {d : Nat} (hd : 3 ≤ d) (ha0 : isMends a0) (h : fX5_inTurn a0 a1 m = some r) : xEx d 250 [.ref a0, .int a1] (xLay m) (some (.int r.1)) (xLay r.2) := by
  obtain ⟨d, rfl⟩ : ∃ q, d = q + 1 := ⟨d - 1, by omega⟩
  exact xEx_of me_250 rfl (fX5_inTurn_0_ok (d := d) (o2 := none) (o3 := none) (o4 := none) (by omega) ha0 rfl rfl rfl h)
def fX5_weigh_51 (a0 : Nat) (rec21 : Int32 → xMem → Option xMem) (l2 : Int32) (s0 : Nat) (s1 : Int32) (s2 : Int32) (m : xMem) : Option xMem := bif xIn s1 64 then xLet (xPut m s0 s1.toNatClampNeg s2) fun m1 => xLet (l2 + (-1 : Int32)) fun x3 => rec21 x3 m1 else none
set_option maxRecDepth 4000 in
theorem fX5_weigh_51_ok {a0 : Nat} {rec21 : Int32 → xMem → Option xMem} {d : Nat} (hd : 2 ≤ d) (ha0 : isMends a0) (hrec21 : ∀ (l2 : Int32) (o1 : Option Value) (o3 : Option Value) (q1 : xNoD o1 = true) (q3 : xNoD o3 = true) (m : xMem) (r : xMem), rec21 l2 m = some r → xFx hh_247 cX5_weigh d 21 [some (.ref a0), o1, some (.int l2), o3] [] (xLay m) 0 0 none (xLay r)) {l2 : Int32} {s0 : Nat} {s1 : Int32} {s2 : Int32} {o1 : Option Value} {o3 : Option Value} {m : xMem} {r : xMem} (hs0 : xTmL[s0]? = some (101, 64, [])) (q1 : xNoD o1 = true) (q3 : xNoD o3 = true) (h : fX5_weigh_51 a0 rec21 l2 s0 s1 s2 m = some r) : xFx hh_247 cX5_weigh d 51 [some (.ref a0), o1, some (.int l2), o3] [.int s2, .int s1, .ref s0] (xLay m) 0 0 none (xLay r) := by
  unfold fX5_weigh_51 at h
  obtain ⟨hj2, h⟩ := xChk_el h
  obtain ⟨m1, hm1, h⟩ := xLet_el h
  refine gx_iastore dX5_weigh_51 rfl hs0 hj2 hm1 ?_
  obtain ⟨x3, hx3, h⟩ := xLet_el h
  refine fx_iinc (ls2 := [some (.ref a0), o1, some (.int x3), o3]) dX5_weigh_52 rfl rfl (xGd (j := 1) rfl rfl q1 rfl) hx3 rfl ?_
  refine fx_goto (t := 21) dX5_weigh_55 rfl rfl ?_
  exact hrec21 x3 (o1) (o3) q1 q3 m1 r h
def fX5_weigh_21 (a0 : Nat) : Nat → Int32 → xMem → Option xMem
  | 0, _, _ => none
  | fuel + 1, l2, m => if l2 < (0 : Int32) then some m else (fX5_bestNext a0 l2 m).bind fun p2 => if ¬ p2.1 = (-1 : Int32) then (fX5_countBy a0 l2 p2.1 p2.2).bind fun p4 => fX5_weigh_51 a0 (fX5_weigh_21 a0 fuel) l2 (a0 + 5) l2 p4.1 p4.2 else fX5_weigh_51 a0 (fX5_weigh_21 a0 fuel) l2 (a0 + 5) l2 (0 : Int32) p2.2
set_option maxRecDepth 4000 in
theorem fX5_weigh_21_ok {a0 : Nat} {d : Nat} (hd : 2 ≤ d) (ha0 : isMends a0) : ∀ (fuel : Nat) (l2 : Int32) (o1 : Option Value) (o3 : Option Value) (q1 : xNoD o1 = true) (q3 : xNoD o3 = true) (m : xMem) (r : xMem), fX5_weigh_21 a0 fuel l2 m = some r → xFx hh_247 cX5_weigh d 21 [some (.ref a0), o1, some (.int l2), o3] [] (xLay m) 0 0 none (xLay r) := by
  intro fuel
  induction fuel with
  | zero => intro l2 o1 o3 q1 q3 m r  h; cases h
  | succ fuel ih =>
    intro l2 o1 o3 q1 q3 m r  h
    unfold fX5_weigh_21 at h
    refine fx_iload_n dX5_weigh_21 rfl rfl ?_
    refine fx_if_lt (t := 58) dX5_weigh_22 rfl rfl (fun hc1 => ?_) (fun hc1 => ?_)
    · rw [if_pos hc1] at h
      cases h
      exact fx_return dX5_weigh_58 rfl rfl
    · rw [if_neg hc1] at h
      refine fx_aload_n dX5_weigh_25 rfl rfl ?_
      refine fx_iload_n dX5_weigh_26 rfl rfl ?_
      obtain ⟨p2, ep2, h⟩ := xBind_el h
      refine gx_callv (as := [.int l2]) (r := []) rfl dX5_weigh_27 ca_5_43 rfl me_248 rfl rfl rfl rfl (ha0.1) rfl (fX5_bestNext_ok (d := d) (by omega) ha0 ep2) rfl rfl ?_
      refine fx_istore_n (ls2 := [some (.ref a0), o1, some (.int l2), some (.int p2.1)]) dX5_weigh_30 rfl rfl rfl ?_
      refine fx_aload_n dX5_weigh_31 rfl rfl ?_
      refine gx_getr dX5_weigh_32 rfl fd_5_24 ha0.1 rfl rfl ?_
      refine fx_iload_n dX5_weigh_35 rfl rfl ?_
      refine fx_iload_n dX5_weigh_36 rfl rfl ?_
      refine fx_iconst (x := -1) dX5_weigh_37 rfl (by decide) ?_
      refine fx_icmp_ne (t := 45) dX5_weigh_38 rfl rfl (fun hc3 => ?_) (fun hc3 => ?_)
      · rw [if_pos hc3] at h
        refine fx_aload_n dX5_weigh_45 rfl rfl ?_
        refine fx_iload_n dX5_weigh_46 rfl rfl ?_
        refine fx_iload_n dX5_weigh_47 rfl rfl ?_
        obtain ⟨p4, ep4, h⟩ := xBind_el h
        refine gx_callv (as := [.int l2, .int p2.1]) (r := [.int l2, .ref (a0 + 5)]) rfl dX5_weigh_48 ca_5_47 rfl me_249 rfl rfl rfl rfl (ha0.1) rfl (fX5_countBy_ok (d := d) (by omega) ha0 ep4) rfl rfl ?_
        exact fX5_weigh_51_ok (o1 := o1) (o3 := some (.int p2.1)) hd ha0 ih ha0.2.2.2.2.2 q1 rfl h
      · rw [if_neg hc3] at h
        refine fx_iconst (x := 0) dX5_weigh_41 rfl (by decide) ?_
        refine fx_goto (t := 51) dX5_weigh_42 rfl rfl ?_
        exact fX5_weigh_51_ok (o1 := o1) (o3 := some (.int p2.1)) hd ha0 ih ha0.2.2.2.2.2 q1 rfl h
def fX5_weigh_0 (a0 : Nat) (m : xMem) : Option xMem := xLet (m.1 a0 5) fun x1 => xLet ((1 : Int32) <<< (x1 &&& 31)) fun x2 => xLet (x2 - (1 : Int32)) fun x3 => xLet ((64 : Int32) - (1 : Int32)) fun x4 => xLet (xMin x3 x4) fun x5 => fX5_weigh_21 a0 xFuel x5 m
set_option maxRecDepth 4000 in
theorem fX5_weigh_0_ok {a0 : Nat} {d : Nat} (hd : 2 ≤ d) (ha0 : isMends a0) {o1 : Option Value} {o2 : Option Value} {o3 : Option Value} {m : xMem} {r : xMem} (q1 : xNoD o1 = true) (q2 : xNoD o2 = true) (q3 : xNoD o3 = true) (h : fX5_weigh_0 a0 m = some r) : xFx hh_247 cX5_weigh d 0 [some (.ref a0), o1, o2, o3] [] (xLay m) 0 0 none (xLay r) := by
  unfold fX5_weigh_0 at h
  refine fx_iconst (x := 1) dX5_weigh_0 rfl (by decide) ?_
  refine fx_aload_n dX5_weigh_1 rfl rfl ?_
  obtain ⟨x1, hx1, h⟩ := xLet_el h
  refine gx_get dX5_weigh_2 rfl fd_5_27 ha0.1 rfl rfl hx1 ?_
  obtain ⟨x2, hx2, h⟩ := xLet_el h
  refine fx_ishl dX5_weigh_5 rfl hx2 ?_
  refine fx_iconst (x := 1) dX5_weigh_6 rfl (by decide) ?_
  obtain ⟨x3, hx3, h⟩ := xLet_el h
  refine fx_isub dX5_weigh_7 rfl hx3 ?_
  refine fx_aload_n dX5_weigh_8 rfl rfl ?_
  refine gx_getr dX5_weigh_9 rfl fd_5_24 ha0.1 rfl rfl ?_
  refine gx_alen (t := 1) (y := 64) dX5_weigh_12 rfl ha0.2.2.2.2.2 rfl (by decide) ?_
  refine fx_iconst (x := 1) dX5_weigh_13 rfl (by decide) ?_
  obtain ⟨x4, hx4, h⟩ := xLet_el h
  refine fx_isub dX5_weigh_14 rfl hx4 ?_
  obtain ⟨x5, hx5, h⟩ := xLet_el h
  refine fx_imin dX5_weigh_15 rfl ca_5_37 rfl hx5 ?_
  refine fx_istore_n (ls2 := [some (.ref a0), some (.int x5), o2, o3]) dX5_weigh_18 rfl rfl rfl ?_
  refine fx_iload_n dX5_weigh_19 rfl rfl ?_
  refine fx_istore_n (ls2 := [some (.ref a0), some (.int x5), some (.int x5), o3]) dX5_weigh_20 rfl rfl rfl ?_
  exact fX5_weigh_21_ok hd ha0 xFuel x5 (some (.int x5)) (o3) rfl q3 m r h
def fX5_weigh (a0 : Nat) (m : xMem) : Option xMem := fX5_weigh_0 a0  m
theorem fX5_weigh_ok {a0 : Nat} {m : xMem} {r : xMem} {d : Nat} (hd : 3 ≤ d) (ha0 : isMends a0) (h : fX5_weigh a0 m = some r) : xEx d 247 [.ref a0] (xLay m) none (xLay r) := by
  obtain ⟨d, rfl⟩ : ∃ q, d = q + 1 := ⟨d - 1, by omega⟩
  exact xEx_of me_247 rfl (fX5_weigh_0_ok (d := d) (o1 := none) (o2 := none) (o3 := none) (by omega) ha0 rfl rfl rfl h)
def fX11_order_33 (a0 : Nat) (a1 : Int32) (m : xMem) : Option (Int32 × xMem) := some ((-1 : Int32), m)
set_option maxRecDepth 4000 in
theorem fX11_order_33_ok {a0 : Nat} {a1 : Int32} {d : Nat} (hd : 3 ≤ d) (ha0 : isMS a0) {m : xMem} {r : (Int32 × xMem)} (h : fX11_order_33 a0 a1 m = some r) : xFx hh_246 cX11_order d 33 [some (.ref a0), some (.int a1)] [] (xLay m) 0 0 (some (.int r.1)) (xLay r.2) := by
  unfold fX11_order_33 at h
  refine fx_iconst (x := -1) dX11_order_33 rfl (by decide) ?_
  cases h
  exact fx_ireturn dX11_order_34 rfl rfl
def fX11_order_76 (a0 : Nat) (a1 : Int32) (s0 : Int32) (m : xMem) : Option (Int32 × xMem) := some (s0, m)
set_option maxRecDepth 4000 in
theorem fX11_order_76_ok {a0 : Nat} {a1 : Int32} {d : Nat} (hd : 3 ≤ d) (ha0 : isMS a0) {s0 : Int32} {m : xMem} {r : (Int32 × xMem)} (h : fX11_order_76 a0 a1 s0 m = some r) : xFx hh_246 cX11_order d 76 [some (.ref a0), some (.int a1)] [.int s0] (xLay m) 0 0 (some (.int r.1)) (xLay r.2) := by
  unfold fX11_order_76 at h
  cases h
  exact fx_ireturn dX11_order_76 rfl rfl
def fX11_order_0 (a0 : Nat) (a1 : Int32) (m : xMem) : Option (Int32 × xMem) := xLet (m.1 (a0 + 1 + 7) 5) fun x1 => if x1 ≤ (0 : Int32) then fX11_order_33 a0 a1 m else xLet (m.1 (a0 + 1 + 7) 5) fun x3 => xLet (x3 - (1 : Int32)) fun x4 => (fX11_within a1 (-1 : Int32) x4 m).bind fun p5 => if ¬ p5.1 = (0 : Int32) then (fX5_weigh (a0 + 1 + 7) p5.2).bind fun p7 => if ¬ a1 = (-1 : Int32) then (fX5_inTurn (a0 + 1 + 7) a1 p7).bind fun p9 => fX11_order_76 a0 a1 p9.1 p9.2 else bif xIn (0 : Int32) 64 then xLet (p7.1 (a0 + 1 + 7 + 5) (0 : Int32).toNatClampNeg) fun x10 => fX11_order_76 a0 a1 x10 p7 else none else fX11_order_33 a0 a1 p5.2
set_option maxRecDepth 4000 in
theorem fX11_order_0_ok {a0 : Nat} {a1 : Int32} {d : Nat} (hd : 3 ≤ d) (ha0 : isMS a0) {m : xMem} {r : (Int32 × xMem)} (h : fX11_order_0 a0 a1 m = some r) : xFx hh_246 cX11_order d 0 [some (.ref a0), some (.int a1)] [] (xLay m) 0 0 (some (.int r.1)) (xLay r.2) := by
  unfold fX11_order_0 at h
  refine fx_aload_n dX11_order_0 rfl rfl ?_
  refine gx_getr dX11_order_1 rfl fd_11_10 ha0.1 rfl rfl ?_
  refine gx_getr dX11_order_4 rfl fd_11_282 ha0.2.1.1 rfl rfl ?_
  obtain ⟨x1, hx1, h⟩ := xLet_el h
  refine gx_get dX11_order_7 rfl fd_11_290 ha0.2.1.2.2.2.2.2.1.1 rfl rfl hx1 ?_
  refine fx_if_le (t := 33) dX11_order_10 rfl rfl (fun hc2 => ?_) (fun hc2 => ?_)
  · rw [if_pos hc2] at h
    exact fX11_order_33_ok hd ha0 h
  · rw [if_neg hc2] at h
    refine fx_iload_n dX11_order_13 rfl rfl ?_
    refine fx_iconst (x := -1) dX11_order_14 rfl (by decide) ?_
    refine fx_aload_n dX11_order_15 rfl rfl ?_
    refine gx_getr dX11_order_16 rfl fd_11_10 ha0.1 rfl rfl ?_
    refine gx_getr dX11_order_19 rfl fd_11_282 ha0.2.1.1 rfl rfl ?_
    obtain ⟨x3, hx3, h⟩ := xLet_el h
    refine gx_get dX11_order_22 rfl fd_11_290 ha0.2.1.2.2.2.2.2.1.1 rfl rfl hx3 ?_
    refine fx_iconst (x := 1) dX11_order_25 rfl (by decide) ?_
    obtain ⟨x4, hx4, h⟩ := xLet_el h
    refine fx_isub dX11_order_26 rfl hx4 ?_
    obtain ⟨p5, ep5, h⟩ := xBind_el h
    refine gx_calls (as := [.int a1, .int (-1 : Int32), .int x4]) (r := []) rfl dX11_order_27 ca_11_47 rfl me_14 rfl rfl rfl rfl (fX11_within_ok (d := d) (by omega) ep5) rfl rfl ?_
    refine fx_if_ne (t := 35) dX11_order_30 rfl rfl (fun hc6 => ?_) (fun hc6 => ?_)
    · rw [if_pos hc6] at h
      refine fx_aload_n dX11_order_35 rfl rfl ?_
      refine gx_getr dX11_order_36 rfl fd_11_10 ha0.1 rfl rfl ?_
      refine gx_getr dX11_order_39 rfl fd_11_282 ha0.2.1.1 rfl rfl ?_
      obtain ⟨p7, ep7, h⟩ := xBind_el h
      refine gx_callv (as := []) (r := []) rfl dX11_order_42 ca_11_291 rfl me_247 rfl rfl rfl rfl (ha0.2.1.2.2.2.2.2.1.1) rfl (fX5_weigh_ok (d := d) (by omega) ha0.2.1.2.2.2.2.2.1 ep7) rfl rfl ?_
      refine fx_iload_n dX11_order_45 rfl rfl ?_
      refine fx_iconst (x := -1) dX11_order_46 rfl (by decide) ?_
      refine fx_icmp_ne (t := 65) dX11_order_47 rfl rfl (fun hc8 => ?_) (fun hc8 => ?_)
      · rw [if_pos hc8] at h
        refine fx_aload_n dX11_order_65 rfl rfl ?_
        refine gx_getr dX11_order_66 rfl fd_11_10 ha0.1 rfl rfl ?_
        refine gx_getr dX11_order_69 rfl fd_11_282 ha0.2.1.1 rfl rfl ?_
        refine fx_iload_n dX11_order_72 rfl rfl ?_
        obtain ⟨p9, ep9, h⟩ := xBind_el h
        refine gx_callv (as := [.int a1]) (r := []) rfl dX11_order_73 ca_11_297 rfl me_250 rfl rfl rfl rfl (ha0.2.1.2.2.2.2.2.1.1) rfl (fX5_inTurn_ok (d := d) (by omega) ha0.2.1.2.2.2.2.2.1 ep9) rfl rfl ?_
        exact fX11_order_76_ok hd ha0 h
      · rw [if_neg hc8] at h
        refine fx_aload_n dX11_order_50 rfl rfl ?_
        refine gx_getr dX11_order_51 rfl fd_11_10 ha0.1 rfl rfl ?_
        refine gx_getr dX11_order_54 rfl fd_11_282 ha0.2.1.1 rfl rfl ?_
        refine gx_getr dX11_order_57 rfl fd_11_294 ha0.2.1.2.2.2.2.2.1.1 rfl rfl ?_
        refine fx_iconst (x := 0) dX11_order_60 rfl (by decide) ?_
        obtain ⟨hj11, h⟩ := xChk_el h
        obtain ⟨x10, hx10, h⟩ := xLet_el h
        refine gx_iaload dX11_order_61 rfl ha0.2.1.2.2.2.2.2.1.2.2.2.2.2 hj11 hx10 ?_
        refine fx_goto (t := 76) dX11_order_62 rfl rfl ?_
        exact fX11_order_76_ok hd ha0 h
    · rw [if_neg hc6] at h
      exact fX11_order_33_ok hd ha0 h
def fX11_order (a0 : Nat) (a1 : Int32) (m : xMem) : Option (Int32 × xMem) := fX11_order_0 a0 a1  m
theorem fX11_order_ok {a0 : Nat} {a1 : Int32} {m : xMem} {r : (Int32 × xMem)} {d : Nat} (hd : 4 ≤ d) (ha0 : isMS a0) (h : fX11_order a0 a1 m = some r) : xEx d 246 [.ref a0, .int a1] (xLay m) (some (.int r.1)) (xLay r.2) := by
  obtain ⟨d, rfl⟩ : ∃ q, d = q + 1 := ⟨d - 1, by omega⟩
  exact xEx_of me_246 rfl (fX11_order_0_ok (d := d) (by omega) ha0 h)
def fX12_aboveOf_56 (a0 : Nat) (a1 : Int32) (a2 : Int32) (rec14 : Int32 → Int32 → Int32 → xMem → Option (Int32 × xMem)) (l3 : Int32) (l5 : Int32) (s0 : Int32) (s1 : Int32) (m : xMem) : Option (Int32 × xMem) := xLet (s0 + s1) fun x1 => xLet (l5 + (1 : Int32)) fun x2 => rec14 l3 x1 x2 m
set_option maxRecDepth 4000 in
theorem fX12_aboveOf_56_ok {a0 : Nat} {a1 : Int32} {a2 : Int32} {rec14 : Int32 → Int32 → Int32 → xMem → Option (Int32 × xMem)} {d : Nat} (hd : 0 ≤ d) (ha0 : isModel a0) (hrec14 : ∀ (l3 : Int32) (l4 : Int32) (l5 : Int32) (m : xMem) (r : (Int32 × xMem)), rec14 l3 l4 l5 m = some r → xFx hh_253 cX12_aboveOf d 14 [some (.ref a0), some (.int a1), some (.int a2), some (.int l3), some (.int l4), some (.int l5)] [] (xLay m) 0 0 (some (.int r.1)) (xLay r.2)) {l3 : Int32} {l5 : Int32} {s0 : Int32} {s1 : Int32} {o4 : Option Value} {m : xMem} {r : (Int32 × xMem)} (q4 : xNoD o4 = true) (h : fX12_aboveOf_56 a0 a1 a2 rec14 l3 l5 s0 s1 m = some r) : xFx hh_253 cX12_aboveOf d 56 [some (.ref a0), some (.int a1), some (.int a2), some (.int l3), o4, some (.int l5)] [.int s1, .int s0] (xLay m) 0 0 (some (.int r.1)) (xLay r.2) := by
  unfold fX12_aboveOf_56 at h
  obtain ⟨x1, hx1, h⟩ := xLet_el h
  refine fx_iadd dX12_aboveOf_56 rfl hx1 ?_
  refine fx_istore (ls2 := [some (.ref a0), some (.int a1), some (.int a2), some (.int l3), some (.int x1), some (.int l5)]) dX12_aboveOf_57 rfl rfl rfl ?_
  obtain ⟨x2, hx2, h⟩ := xLet_el h
  refine fx_iinc (ls2 := [some (.ref a0), some (.int a1), some (.int a2), some (.int l3), some (.int x1), some (.int x2)]) dX12_aboveOf_59 rfl rfl rfl hx2 rfl ?_
  refine fx_goto (t := 14) dX12_aboveOf_62 rfl rfl ?_
  exact hrec14 l3 x1 x2 m r h
def fX12_aboveOf_14 (a0 : Nat) (a1 : Int32) (a2 : Int32) : Nat → Int32 → Int32 → Int32 → xMem → Option (Int32 × xMem)
  | 0, _, _, _, _ => none
  | fuel + 1, l3, l4, l5, m => if a2 ≤ l5 then some (l4, m) else bif xIn l3 1610 then xLet (m.1 (a0 + 1) l3.toNatClampNeg) fun x2 => xLet (l3 + (1 : Int32)) fun x4 => bif xIn x4 1610 then xLet (m.1 (a0 + 1) x4.toNatClampNeg) fun x5 => xLet (x5 * l5) fun x7 => xLet (x2 + x7) fun x8 => xLet (l3 + (2 : Int32)) fun x9 => bif xIn x9 1610 then xLet (m.1 (a0 + 1) x9.toNatClampNeg) fun x10 => if x8 ≤ x10 then fX12_aboveOf_56 a0 a1 a2 (fX12_aboveOf_14 a0 a1 a2 fuel) l3 l5 l4 (0 : Int32) m else fX12_aboveOf_56 a0 a1 a2 (fX12_aboveOf_14 a0 a1 a2 fuel) l3 l5 l4 (1 : Int32) m else none else none else none
set_option maxRecDepth 4000 in
theorem fX12_aboveOf_14_ok {a0 : Nat} {a1 : Int32} {a2 : Int32} {d : Nat} (hd : 0 ≤ d) (ha0 : isModel a0) : ∀ (fuel : Nat) (l3 : Int32) (l4 : Int32) (l5 : Int32) (m : xMem) (r : (Int32 × xMem)), fX12_aboveOf_14 a0 a1 a2 fuel l3 l4 l5 m = some r → xFx hh_253 cX12_aboveOf d 14 [some (.ref a0), some (.int a1), some (.int a2), some (.int l3), some (.int l4), some (.int l5)] [] (xLay m) 0 0 (some (.int r.1)) (xLay r.2) := by
  intro fuel
  induction fuel with
  | zero => intro l3 l4 l5  m r  h; cases h
  | succ fuel ih =>
    intro l3 l4 l5  m r  h
    unfold fX12_aboveOf_14 at h
    refine fx_iload dX12_aboveOf_14 rfl rfl ?_
    refine fx_iload_n dX12_aboveOf_16 rfl rfl ?_
    refine fx_icmp_ge (t := 65) dX12_aboveOf_17 rfl rfl (fun hc1 => ?_) (fun hc1 => ?_)
    · rw [if_pos hc1] at h
      refine fx_iload dX12_aboveOf_65 rfl rfl ?_
      cases h
      exact fx_ireturn dX12_aboveOf_67 rfl rfl
    · rw [if_neg hc1] at h
      refine fx_iload dX12_aboveOf_20 rfl rfl ?_
      refine fx_aload_n dX12_aboveOf_22 rfl rfl ?_
      refine gx_getr dX12_aboveOf_23 rfl fd_12_7 ha0.1 rfl rfl ?_
      refine fx_iload_n dX12_aboveOf_26 rfl rfl ?_
      obtain ⟨hj3, h⟩ := xChk_el h
      obtain ⟨x2, hx2, h⟩ := xLet_el h
      refine gx_iaload dX12_aboveOf_27 rfl ha0.2.1 hj3 hx2 ?_
      refine fx_aload_n dX12_aboveOf_28 rfl rfl ?_
      refine gx_getr dX12_aboveOf_29 rfl fd_12_7 ha0.1 rfl rfl ?_
      refine fx_iload_n dX12_aboveOf_32 rfl rfl ?_
      refine fx_iconst (x := 1) dX12_aboveOf_33 rfl (by decide) ?_
      obtain ⟨x4, hx4, h⟩ := xLet_el h
      refine fx_iadd dX12_aboveOf_34 rfl hx4 ?_
      obtain ⟨hj6, h⟩ := xChk_el h
      obtain ⟨x5, hx5, h⟩ := xLet_el h
      refine gx_iaload dX12_aboveOf_35 rfl ha0.2.1 hj6 hx5 ?_
      refine fx_iload dX12_aboveOf_36 rfl rfl ?_
      obtain ⟨x7, hx7, h⟩ := xLet_el h
      refine fx_imul dX12_aboveOf_38 rfl hx7 ?_
      obtain ⟨x8, hx8, h⟩ := xLet_el h
      refine fx_iadd dX12_aboveOf_39 rfl hx8 ?_
      refine fx_aload_n dX12_aboveOf_40 rfl rfl ?_
      refine gx_getr dX12_aboveOf_41 rfl fd_12_7 ha0.1 rfl rfl ?_
      refine fx_iload_n dX12_aboveOf_44 rfl rfl ?_
      refine fx_iconst (x := 2) dX12_aboveOf_45 rfl (by decide) ?_
      obtain ⟨x9, hx9, h⟩ := xLet_el h
      refine fx_iadd dX12_aboveOf_46 rfl hx9 ?_
      obtain ⟨hj11, h⟩ := xChk_el h
      obtain ⟨x10, hx10, h⟩ := xLet_el h
      refine gx_iaload dX12_aboveOf_47 rfl ha0.2.1 hj11 hx10 ?_
      refine fx_icmp_le (t := 55) dX12_aboveOf_48 rfl rfl (fun hc12 => ?_) (fun hc12 => ?_)
      · rw [if_pos hc12] at h
        refine fx_iconst (x := 0) dX12_aboveOf_55 rfl (by decide) ?_
        exact fX12_aboveOf_56_ok (o4 := some (.int l4)) hd ha0 ih rfl h
      · rw [if_neg hc12] at h
        refine fx_iconst (x := 1) dX12_aboveOf_51 rfl (by decide) ?_
        refine fx_goto (t := 56) dX12_aboveOf_52 rfl rfl ?_
        exact fX12_aboveOf_56_ok (o4 := some (.int l4)) hd ha0 ih rfl h
def fX12_aboveOf_0 (a0 : Nat) (a1 : Int32) (a2 : Int32) (m : xMem) : Option (Int32 × xMem) := xLet ((4 : Int32) * a1) fun x1 => xLet ((1520 : Int32) + x1) fun x2 => fX12_aboveOf_14 a0 a1 a2 xFuel x2 (0 : Int32) (0 : Int32) m
set_option maxRecDepth 4000 in
theorem fX12_aboveOf_0_ok {a0 : Nat} {a1 : Int32} {a2 : Int32} {d : Nat} (hd : 0 ≤ d) (ha0 : isModel a0) {o3 : Option Value} {o4 : Option Value} {o5 : Option Value} {m : xMem} {r : (Int32 × xMem)} (q3 : xNoD o3 = true) (q4 : xNoD o4 = true) (q5 : xNoD o5 = true) (h : fX12_aboveOf_0 a0 a1 a2 m = some r) : xFx hh_253 cX12_aboveOf d 0 [some (.ref a0), some (.int a1), some (.int a2), o3, o4, o5] [] (xLay m) 0 0 (some (.int r.1)) (xLay r.2) := by
  unfold fX12_aboveOf_0 at h
  refine fx_sipush (x := 1520) dX12_aboveOf_0 rfl (by decide) ?_
  refine fx_iconst (x := 4) dX12_aboveOf_3 rfl (by decide) ?_
  refine fx_iload_n dX12_aboveOf_4 rfl rfl ?_
  obtain ⟨x1, hx1, h⟩ := xLet_el h
  refine fx_imul dX12_aboveOf_5 rfl hx1 ?_
  obtain ⟨x2, hx2, h⟩ := xLet_el h
  refine fx_iadd dX12_aboveOf_6 rfl hx2 ?_
  refine fx_istore_n (ls2 := [some (.ref a0), some (.int a1), some (.int a2), some (.int x2), o4, o5]) dX12_aboveOf_7 rfl rfl rfl ?_
  refine fx_iconst (x := 0) dX12_aboveOf_8 rfl (by decide) ?_
  refine fx_istore (ls2 := [some (.ref a0), some (.int a1), some (.int a2), some (.int x2), some (.int (0 : Int32)), o5]) dX12_aboveOf_9 rfl rfl rfl ?_
  refine fx_iconst (x := 0) dX12_aboveOf_11 rfl (by decide) ?_
  refine fx_istore (ls2 := [some (.ref a0), some (.int a1), some (.int a2), some (.int x2), some (.int (0 : Int32)), some (.int (0 : Int32))]) dX12_aboveOf_12 rfl rfl rfl ?_
  exact fX12_aboveOf_14_ok hd ha0 xFuel x2 (0 : Int32) (0 : Int32) m r h
def fX12_aboveOf (a0 : Nat) (a1 : Int32) (a2 : Int32) (m : xMem) : Option (Int32 × xMem) := fX12_aboveOf_0 a0 a1 a2  m
theorem fX12_aboveOf_ok {a0 : Nat} {a1 : Int32} {a2 : Int32} {m : xMem} {r : (Int32 × xMem)} {d : Nat} (hd : 1 ≤ d) (ha0 : isModel a0) (h : fX12_aboveOf a0 a1 a2 m = some r) : xEx d 253 [.ref a0, .int a1, .int a2] (xLay m) (some (.int r.1)) (xLay r.2) := by
  obtain ⟨d, rfl⟩ : ∃ q, d = q + 1 := ⟨d - 1, by omega⟩
  exact xEx_of me_253 rfl (fX12_aboveOf_0_ok (d := d) (o3 := none) (o4 := none) (o5 := none) (by omega) ha0 rfl rfl rfl h)
