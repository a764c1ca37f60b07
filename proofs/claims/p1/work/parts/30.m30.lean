theorem dX11_all_0 : decode cX11_all 0 = .ok (.iload_n 1, 1) := by decide +kernel
theorem dX11_all_1 : decode cX11_all 1 = .ok (.tableswitch 63 0 3 #[31, 39, 47, 55], 31) := by decide +kernel
theorem dX11_all_32 : decode cX11_all 32 = .ok (.aload_n 0, 1) := by decide +kernel
theorem dX11_all_33 : decode cX11_all 33 = .ok (.getfield 10, 3) := by decide +kernel
theorem dX11_all_36 : decode cX11_all 36 = .ok (.getfield 225, 3) := by decide +kernel
theorem dX11_all_39 : decode cX11_all 39 = .ok (.ireturn, 1) := by decide +kernel
theorem dX11_all_40 : decode cX11_all 40 = .ok (.aload_n 0, 1) := by decide +kernel
theorem dX11_all_41 : decode cX11_all 41 = .ok (.getfield 10, 3) := by decide +kernel
theorem dX11_all_44 : decode cX11_all 44 = .ok (.getfield 228, 3) := by decide +kernel
theorem dX11_all_47 : decode cX11_all 47 = .ok (.ireturn, 1) := by decide +kernel
theorem dX11_all_48 : decode cX11_all 48 = .ok (.aload_n 0, 1) := by decide +kernel
theorem dX11_all_49 : decode cX11_all 49 = .ok (.getfield 10, 3) := by decide +kernel
theorem dX11_all_52 : decode cX11_all 52 = .ok (.getfield 231, 3) := by decide +kernel
theorem dX11_all_55 : decode cX11_all 55 = .ok (.ireturn, 1) := by decide +kernel
theorem dX11_all_56 : decode cX11_all 56 = .ok (.aload_n 0, 1) := by decide +kernel
theorem dX11_all_57 : decode cX11_all 57 = .ok (.getfield 10, 3) := by decide +kernel
theorem dX11_all_60 : decode cX11_all 60 = .ok (.getfield 234, 3) := by decide +kernel
theorem dX11_all_63 : decode cX11_all 63 = .ok (.ireturn, 1) := by decide +kernel
theorem dX11_all_64 : decode cX11_all 64 = .ok (.iconst (-1), 1) := by decide +kernel
theorem dX11_all_65 : decode cX11_all 65 = .ok (.ireturn, 1) := by decide +kernel
theorem dX12_all_0 : decode cX12_all 0 = .ok (.iload_n 1, 1) := by decide +kernel
theorem dX12_all_1 : decode cX12_all 1 = .ok (.iconst 0, 1) := by decide +kernel
theorem dX12_all_2 : decode cX12_all 2 = .ok (.iconst 3, 1) := by decide +kernel
theorem dX12_all_3 : decode cX12_all 3 = .ok (.invokestatic 95, 3) := by decide +kernel
theorem dX12_all_6 : decode cX12_all 6 = .ok (.ifCond .eq 15, 3) := by decide +kernel
theorem dX12_all_9 : decode cX12_all 9 = .ok (.aload_n 0, 1) := by decide +kernel
theorem dX12_all_10 : decode cX12_all 10 = .ok (.getfield 7, 3) := by decide +kernel
theorem dX12_all_13 : decode cX12_all 13 = .ok (.bipush 9, 2) := by decide +kernel
theorem dX12_all_15 : decode cX12_all 15 = .ok (.iload_n 1, 1) := by decide +kernel
theorem dX12_all_16 : decode cX12_all 16 = .ok (.iadd, 1) := by decide +kernel
theorem dX12_all_17 : decode cX12_all 17 = .ok (.iaload, 1) := by decide +kernel
theorem dX12_all_18 : decode cX12_all 18 = .ok (.goto 4, 3) := by decide +kernel
theorem dX12_all_21 : decode cX12_all 21 = .ok (.iconst (-1), 1) := by decide +kernel
theorem dX12_all_22 : decode cX12_all 22 = .ok (.ireturn, 1) := by decide +kernel
theorem dJ6_bitCount_0f7a4_0 : decode cJ6_bitCount_0f7a4 0 = .ok (.iload_n 0, 1) := by decide +kernel
theorem dJ6_bitCount_0f7a4_1 : decode cJ6_bitCount_0f7a4 1 = .ok (.iload_n 0, 1) := by decide +kernel
theorem dJ6_bitCount_0f7a4_2 : decode cJ6_bitCount_0f7a4 2 = .ok (.iconst 1, 1) := by decide +kernel
theorem dJ6_bitCount_0f7a4_3 : decode cJ6_bitCount_0f7a4 3 = .ok (.iushr, 1) := by decide +kernel
theorem dJ6_bitCount_0f7a4_4 : decode cJ6_bitCount_0f7a4 4 = .ok (.ldc_w 265, 3) := by decide +kernel
theorem dJ6_bitCount_0f7a4_7 : decode cJ6_bitCount_0f7a4 7 = .ok (.iand, 1) := by decide +kernel
theorem dJ6_bitCount_0f7a4_8 : decode cJ6_bitCount_0f7a4 8 = .ok (.isub, 1) := by decide +kernel
theorem dJ6_bitCount_0f7a4_9 : decode cJ6_bitCount_0f7a4 9 = .ok (.istore_n 0, 1) := by decide +kernel
theorem dJ6_bitCount_0f7a4_10 : decode cJ6_bitCount_0f7a4 10 = .ok (.iload_n 0, 1) := by decide +kernel
theorem dJ6_bitCount_0f7a4_11 : decode cJ6_bitCount_0f7a4 11 = .ok (.ldc_w 266, 3) := by decide +kernel
theorem dJ6_bitCount_0f7a4_14 : decode cJ6_bitCount_0f7a4 14 = .ok (.iand, 1) := by decide +kernel
theorem dJ6_bitCount_0f7a4_15 : decode cJ6_bitCount_0f7a4 15 = .ok (.iload_n 0, 1) := by decide +kernel
theorem dJ6_bitCount_0f7a4_16 : decode cJ6_bitCount_0f7a4 16 = .ok (.iconst 2, 1) := by decide +kernel
theorem dJ6_bitCount_0f7a4_17 : decode cJ6_bitCount_0f7a4 17 = .ok (.iushr, 1) := by decide +kernel
theorem dJ6_bitCount_0f7a4_18 : decode cJ6_bitCount_0f7a4 18 = .ok (.ldc_w 266, 3) := by decide +kernel
theorem dJ6_bitCount_0f7a4_21 : decode cJ6_bitCount_0f7a4 21 = .ok (.iand, 1) := by decide +kernel
theorem dJ6_bitCount_0f7a4_22 : decode cJ6_bitCount_0f7a4 22 = .ok (.iadd, 1) := by decide +kernel
theorem dJ6_bitCount_0f7a4_23 : decode cJ6_bitCount_0f7a4 23 = .ok (.istore_n 0, 1) := by decide +kernel
theorem dJ6_bitCount_0f7a4_24 : decode cJ6_bitCount_0f7a4 24 = .ok (.iload_n 0, 1) := by decide +kernel
theorem dJ6_bitCount_0f7a4_25 : decode cJ6_bitCount_0f7a4 25 = .ok (.iload_n 0, 1) := by decide +kernel
theorem dJ6_bitCount_0f7a4_26 : decode cJ6_bitCount_0f7a4 26 = .ok (.iconst 4, 1) := by decide +kernel
theorem dJ6_bitCount_0f7a4_27 : decode cJ6_bitCount_0f7a4 27 = .ok (.iushr, 1) := by decide +kernel
theorem dJ6_bitCount_0f7a4_28 : decode cJ6_bitCount_0f7a4 28 = .ok (.iadd, 1) := by decide +kernel
theorem dJ6_bitCount_0f7a4_29 : decode cJ6_bitCount_0f7a4 29 = .ok (.ldc_w 267, 3) := by decide +kernel
theorem dJ6_bitCount_0f7a4_32 : decode cJ6_bitCount_0f7a4 32 = .ok (.iand, 1) := by decide +kernel
theorem dJ6_bitCount_0f7a4_33 : decode cJ6_bitCount_0f7a4 33 = .ok (.istore_n 0, 1) := by decide +kernel
theorem dJ6_bitCount_0f7a4_34 : decode cJ6_bitCount_0f7a4 34 = .ok (.iload_n 0, 1) := by decide +kernel
theorem dJ6_bitCount_0f7a4_35 : decode cJ6_bitCount_0f7a4 35 = .ok (.iload_n 0, 1) := by decide +kernel
theorem dJ6_bitCount_0f7a4_36 : decode cJ6_bitCount_0f7a4 36 = .ok (.bipush 8, 2) := by decide +kernel
theorem dJ6_bitCount_0f7a4_38 : decode cJ6_bitCount_0f7a4 38 = .ok (.iushr, 1) := by decide +kernel
theorem dJ6_bitCount_0f7a4_39 : decode cJ6_bitCount_0f7a4 39 = .ok (.iadd, 1) := by decide +kernel
theorem dJ6_bitCount_0f7a4_40 : decode cJ6_bitCount_0f7a4 40 = .ok (.istore_n 0, 1) := by decide +kernel
theorem dJ6_bitCount_0f7a4_41 : decode cJ6_bitCount_0f7a4 41 = .ok (.iload_n 0, 1) := by decide +kernel
theorem dJ6_bitCount_0f7a4_42 : decode cJ6_bitCount_0f7a4 42 = .ok (.iload_n 0, 1) := by decide +kernel
theorem dJ6_bitCount_0f7a4_43 : decode cJ6_bitCount_0f7a4 43 = .ok (.bipush 16, 2) := by decide +kernel
theorem dJ6_bitCount_0f7a4_45 : decode cJ6_bitCount_0f7a4 45 = .ok (.iushr, 1) := by decide +kernel
theorem dJ6_bitCount_0f7a4_46 : decode cJ6_bitCount_0f7a4 46 = .ok (.iadd, 1) := by decide +kernel
theorem dJ6_bitCount_0f7a4_47 : decode cJ6_bitCount_0f7a4 47 = .ok (.istore_n 0, 1) := by decide +kernel
theorem dJ6_bitCount_0f7a4_48 : decode cJ6_bitCount_0f7a4 48 = .ok (.iload_n 0, 1) := by decide +kernel
theorem dJ6_bitCount_0f7a4_49 : decode cJ6_bitCount_0f7a4 49 = .ok (.bipush 63, 2) := by decide +kernel
theorem dJ6_bitCount_0f7a4_51 : decode cJ6_bitCount_0f7a4 51 = .ok (.iand, 1) := by decide +kernel
theorem dJ6_bitCount_0f7a4_52 : decode cJ6_bitCount_0f7a4 52 = .ok (.ireturn, 1) := by decide +kernel
theorem dX11_mayTurn_0 : decode cX11_mayTurn 0 = .ok (.iload_n 1, 1) := by decide +kernel
theorem dX11_mayTurn_1 : decode cX11_mayTurn 1 = .ok (.invokestatic 318, 3) := by decide +kernel
theorem dX11_mayTurn_4 : decode cX11_mayTurn 4 = .ok (.istore_n 2, 1) := by decide +kernel
theorem dX11_mayTurn_5 : decode cX11_mayTurn 5 = .ok (.iload_n 2, 1) := by decide +kernel
theorem dX11_mayTurn_6 : decode cX11_mayTurn 6 = .ok (.iconst 1, 1) := by decide +kernel
theorem dX11_mayTurn_7 : decode cX11_mayTurn 7 = .ok (.if_icmp .lt 15, 3) := by decide +kernel
theorem dX11_mayTurn_10 : decode cX11_mayTurn 10 = .ok (.iload_n 2, 1) := by decide +kernel
theorem dX11_mayTurn_11 : decode cX11_mayTurn 11 = .ok (.iconst 5, 1) := by decide +kernel
theorem dX11_mayTurn_12 : decode cX11_mayTurn 12 = .ok (.if_icmp .gt 10, 3) := by decide +kernel
theorem dX11_mayTurn_15 : decode cX11_mayTurn 15 = .ok (.iload_n 1, 1) := by decide +kernel
theorem dX11_mayTurn_16 : decode cX11_mayTurn 16 = .ok (.bipush 10, 2) := by decide +kernel
theorem dX11_mayTurn_18 : decode cX11_mayTurn 18 = .ok (.ishr, 1) := by decide +kernel
theorem dX11_mayTurn_19 : decode cX11_mayTurn 19 = .ok (.ifCond .eq 5, 3) := by decide +kernel
theorem dX11_mayTurn_22 : decode cX11_mayTurn 22 = .ok (.iconst 0, 1) := by decide +kernel
theorem dX11_mayTurn_23 : decode cX11_mayTurn 23 = .ok (.ireturn, 1) := by decide +kernel
theorem dX11_mayTurn_24 : decode cX11_mayTurn 24 = .ok (.iconst 0, 1) := by decide +kernel
theorem dX11_mayTurn_25 : decode cX11_mayTurn 25 = .ok (.istore_n 3, 1) := by decide +kernel
theorem dX11_mayTurn_26 : decode cX11_mayTurn 26 = .ok (.iload_n 3, 1) := by decide +kernel
theorem dX11_mayTurn_27 : decode cX11_mayTurn 27 = .ok (.bipush 10, 2) := by decide +kernel
theorem dX11_mayTurn_29 : decode cX11_mayTurn 29 = .ok (.if_icmp .ge 31, 3) := by decide +kernel
theorem dX11_mayTurn_32 : decode cX11_mayTurn 32 = .ok (.iload_n 1, 1) := by decide +kernel
theorem dX11_mayTurn_33 : decode cX11_mayTurn 33 = .ok (.iload_n 3, 1) := by decide +kernel
theorem dX11_mayTurn_34 : decode cX11_mayTurn 34 = .ok (.ishr, 1) := by decide +kernel
theorem dX11_mayTurn_35 : decode cX11_mayTurn 35 = .ok (.iconst 1, 1) := by decide +kernel
theorem dX11_mayTurn_36 : decode cX11_mayTurn 36 = .ok (.iand, 1) := by decide +kernel
theorem dX11_mayTurn_37 : decode cX11_mayTurn 37 = .ok (.iconst 1, 1) := by decide +kernel
theorem dX11_mayTurn_38 : decode cX11_mayTurn 38 = .ok (.if_icmp .ne 16, 3) := by decide +kernel
theorem dX11_mayTurn_41 : decode cX11_mayTurn 41 = .ok (.aload_n 0, 1) := by decide +kernel
theorem dX11_mayTurn_42 : decode cX11_mayTurn 42 = .ok (.getfield 10, 3) := by decide +kernel
theorem dX11_mayTurn_45 : decode cX11_mayTurn 45 = .ok (.iload_n 3, 1) := by decide +kernel
theorem dX11_mayTurn_46 : decode cX11_mayTurn 46 = .ok (.invokevirtual 84, 3) := by decide +kernel
theorem dX11_mayTurn_49 : decode cX11_mayTurn 49 = .ok (.ifCond .ne 5, 3) := by decide +kernel
theorem dX11_mayTurn_52 : decode cX11_mayTurn 52 = .ok (.iconst 0, 1) := by decide +kernel
theorem dX11_mayTurn_53 : decode cX11_mayTurn 53 = .ok (.ireturn, 1) := by decide +kernel
theorem dX11_mayTurn_54 : decode cX11_mayTurn 54 = .ok (.iinc 3 1, 3) := by decide +kernel
theorem dX11_mayTurn_57 : decode cX11_mayTurn 57 = .ok (.goto (-31), 3) := by decide +kernel
theorem dX11_mayTurn_60 : decode cX11_mayTurn 60 = .ok (.iconst 1, 1) := by decide +kernel
theorem dX11_mayTurn_61 : decode cX11_mayTurn 61 = .ok (.ireturn, 1) := by decide +kernel
theorem dX2_copy_0 : decode cX2_copy 0 = .ok (.aload_n 0, 1) := by decide +kernel
theorem dX2_copy_1 : decode cX2_copy 1 = .ok (.aload_n 1, 1) := by decide +kernel
theorem dX2_copy_2 : decode cX2_copy 2 = .ok (.getfield 18, 3) := by decide +kernel
theorem dX2_copy_5 : decode cX2_copy 5 = .ok (.putfield 18, 3) := by decide +kernel
theorem dX2_copy_8 : decode cX2_copy 8 = .ok (.aload_n 0, 1) := by decide +kernel
theorem dX2_copy_9 : decode cX2_copy 9 = .ok (.aload_n 1, 1) := by decide +kernel
theorem dX2_copy_10 : decode cX2_copy 10 = .ok (.getfield 22, 3) := by decide +kernel
theorem dX2_copy_13 : decode cX2_copy 13 = .ok (.putfield 22, 3) := by decide +kernel
theorem dX2_copy_16 : decode cX2_copy 16 = .ok (.aload_n 0, 1) := by decide +kernel
theorem dX2_copy_17 : decode cX2_copy 17 = .ok (.aload_n 1, 1) := by decide +kernel
theorem dX2_copy_18 : decode cX2_copy 18 = .ok (.getfield 25, 3) := by decide +kernel
theorem dX2_copy_21 : decode cX2_copy 21 = .ok (.putfield 25, 3) := by decide +kernel
theorem dX2_copy_24 : decode cX2_copy 24 = .ok (.aload_n 0, 1) := by decide +kernel
theorem dX2_copy_25 : decode cX2_copy 25 = .ok (.aload_n 1, 1) := by decide +kernel
theorem dX2_copy_26 : decode cX2_copy 26 = .ok (.getfield 28, 3) := by decide +kernel
theorem dX2_copy_29 : decode cX2_copy 29 = .ok (.putfield 28, 3) := by decide +kernel
theorem dX2_copy_32 : decode cX2_copy 32 = .ok (.aload_n 0, 1) := by decide +kernel
theorem dX2_copy_33 : decode cX2_copy 33 = .ok (.aload_n 1, 1) := by decide +kernel
theorem dX2_copy_34 : decode cX2_copy 34 = .ok (.getfield 31, 3) := by decide +kernel
theorem dX2_copy_37 : decode cX2_copy 37 = .ok (.putfield 31, 3) := by decide +kernel
theorem dX2_copy_40 : decode cX2_copy 40 = .ok (.aload_n 0, 1) := by decide +kernel
theorem dX2_copy_41 : decode cX2_copy 41 = .ok (.aload_n 1, 1) := by decide +kernel
theorem dX2_copy_42 : decode cX2_copy 42 = .ok (.getfield 34, 3) := by decide +kernel
theorem dX2_copy_45 : decode cX2_copy 45 = .ok (.putfield 34, 3) := by decide +kernel
theorem dX2_copy_48 : decode cX2_copy 48 = .ok (.aload_n 0, 1) := by decide +kernel
theorem dX2_copy_49 : decode cX2_copy 49 = .ok (.aload_n 1, 1) := by decide +kernel
theorem dX2_copy_50 : decode cX2_copy 50 = .ok (.getfield 37, 3) := by decide +kernel
theorem dX2_copy_53 : decode cX2_copy 53 = .ok (.putfield 37, 3) := by decide +kernel
theorem dX2_copy_56 : decode cX2_copy 56 = .ok (.aload_n 1, 1) := by decide +kernel
theorem dX2_copy_57 : decode cX2_copy 57 = .ok (.getfield 9, 3) := by decide +kernel
theorem dX2_copy_60 : decode cX2_copy 60 = .ok (.iconst 0, 1) := by decide +kernel
theorem dX2_copy_61 : decode cX2_copy 61 = .ok (.aload_n 0, 1) := by decide +kernel
theorem dX2_copy_62 : decode cX2_copy 62 = .ok (.getfield 9, 3) := by decide +kernel
theorem dX2_copy_65 : decode cX2_copy 65 = .ok (.iconst 0, 1) := by decide +kernel
theorem dX2_copy_66 : decode cX2_copy 66 = .ok (.aload_n 0, 1) := by decide +kernel
theorem dX2_copy_67 : decode cX2_copy 67 = .ok (.getfield 9, 3) := by decide +kernel
theorem dX2_copy_70 : decode cX2_copy 70 = .ok (.arraylength, 1) := by decide +kernel
theorem dX2_copy_71 : decode cX2_copy 71 = .ok (.invokestatic 47, 3) := by decide +kernel
theorem dX2_copy_74 : decode cX2_copy 74 = .ok (.aload_n 1, 1) := by decide +kernel
theorem dX2_copy_75 : decode cX2_copy 75 = .ok (.getfield 15, 3) := by decide +kernel
theorem dX2_copy_78 : decode cX2_copy 78 = .ok (.iconst 0, 1) := by decide +kernel
theorem dX2_copy_79 : decode cX2_copy 79 = .ok (.aload_n 0, 1) := by decide +kernel
theorem dX2_copy_80 : decode cX2_copy 80 = .ok (.getfield 15, 3) := by decide +kernel
theorem dX2_copy_83 : decode cX2_copy 83 = .ok (.iconst 0, 1) := by decide +kernel
theorem dX2_copy_84 : decode cX2_copy 84 = .ok (.aload_n 0, 1) := by decide +kernel
theorem dX2_copy_85 : decode cX2_copy 85 = .ok (.getfield 15, 3) := by decide +kernel
theorem dX2_copy_88 : decode cX2_copy 88 = .ok (.arraylength, 1) := by decide +kernel
theorem dX2_copy_89 : decode cX2_copy 89 = .ok (.invokestatic 47, 3) := by decide +kernel
theorem dX2_copy_92 : decode cX2_copy 92 = .ok (.return_, 1) := by decide +kernel
theorem dX3_copy_0 : decode cX3_copy 0 = .ok (.aload_n 0, 1) := by decide +kernel
theorem dX3_copy_1 : decode cX3_copy 1 = .ok (.aload_n 1, 1) := by decide +kernel
theorem dX3_copy_2 : decode cX3_copy 2 = .ok (.getfield 15, 3) := by decide +kernel
theorem dX3_copy_5 : decode cX3_copy 5 = .ok (.putfield 15, 3) := by decide +kernel
theorem dX3_copy_8 : decode cX3_copy 8 = .ok (.aload_n 0, 1) := by decide +kernel
theorem dX3_copy_9 : decode cX3_copy 9 = .ok (.aload_n 1, 1) := by decide +kernel
theorem dX3_copy_10 : decode cX3_copy 10 = .ok (.getfield 19, 3) := by decide +kernel
theorem dX3_copy_13 : decode cX3_copy 13 = .ok (.putfield 19, 3) := by decide +kernel
theorem dX3_copy_16 : decode cX3_copy 16 = .ok (.aload_n 0, 1) := by decide +kernel
theorem dX3_copy_17 : decode cX3_copy 17 = .ok (.aload_n 1, 1) := by decide +kernel
theorem dX3_copy_18 : decode cX3_copy 18 = .ok (.getfield 22, 3) := by decide +kernel
theorem dX3_copy_21 : decode cX3_copy 21 = .ok (.putfield 22, 3) := by decide +kernel
theorem dX3_copy_24 : decode cX3_copy 24 = .ok (.aload_n 0, 1) := by decide +kernel
theorem dX3_copy_25 : decode cX3_copy 25 = .ok (.aload_n 1, 1) := by decide +kernel
theorem dX3_copy_26 : decode cX3_copy 26 = .ok (.getfield 25, 3) := by decide +kernel
theorem dX3_copy_29 : decode cX3_copy 29 = .ok (.putfield 25, 3) := by decide +kernel
theorem dX3_copy_32 : decode cX3_copy 32 = .ok (.aload_n 0, 1) := by decide +kernel
theorem dX3_copy_33 : decode cX3_copy 33 = .ok (.aload_n 1, 1) := by decide +kernel
theorem dX3_copy_34 : decode cX3_copy 34 = .ok (.getfield 28, 3) := by decide +kernel
theorem dX3_copy_37 : decode cX3_copy 37 = .ok (.putfield 28, 3) := by decide +kernel
theorem dX3_copy_40 : decode cX3_copy 40 = .ok (.aload_n 0, 1) := by decide +kernel
theorem dX3_copy_41 : decode cX3_copy 41 = .ok (.aload_n 1, 1) := by decide +kernel
theorem dX3_copy_42 : decode cX3_copy 42 = .ok (.getfield 31, 3) := by decide +kernel
theorem dX3_copy_45 : decode cX3_copy 45 = .ok (.putfield 31, 3) := by decide +kernel
theorem dX3_copy_48 : decode cX3_copy 48 = .ok (.aload_n 0, 1) := by decide +kernel
theorem dX3_copy_49 : decode cX3_copy 49 = .ok (.aload_n 1, 1) := by decide +kernel
theorem dX3_copy_50 : decode cX3_copy 50 = .ok (.getfield 34, 3) := by decide +kernel
theorem dX3_copy_53 : decode cX3_copy 53 = .ok (.putfield 34, 3) := by decide +kernel
theorem dX3_copy_56 : decode cX3_copy 56 = .ok (.aload_n 0, 1) := by decide +kernel
theorem dX3_copy_57 : decode cX3_copy 57 = .ok (.aload_n 1, 1) := by decide +kernel
theorem dX3_copy_58 : decode cX3_copy 58 = .ok (.getfield 37, 3) := by decide +kernel
theorem dX3_copy_61 : decode cX3_copy 61 = .ok (.putfield 37, 3) := by decide +kernel
theorem dX3_copy_64 : decode cX3_copy 64 = .ok (.aload_n 0, 1) := by decide +kernel
theorem dX3_copy_65 : decode cX3_copy 65 = .ok (.aload_n 1, 1) := by decide +kernel
theorem dX3_copy_66 : decode cX3_copy 66 = .ok (.getfield 40, 3) := by decide +kernel
theorem dX3_copy_69 : decode cX3_copy 69 = .ok (.putfield 40, 3) := by decide +kernel
theorem dX3_copy_72 : decode cX3_copy 72 = .ok (.aload_n 0, 1) := by decide +kernel
theorem dX3_copy_73 : decode cX3_copy 73 = .ok (.aload_n 1, 1) := by decide +kernel
theorem dX3_copy_74 : decode cX3_copy 74 = .ok (.getfield 43, 3) := by decide +kernel
theorem dX3_copy_77 : decode cX3_copy 77 = .ok (.putfield 43, 3) := by decide +kernel
theorem dX3_copy_80 : decode cX3_copy 80 = .ok (.aload_n 0, 1) := by decide +kernel
theorem dX3_copy_81 : decode cX3_copy 81 = .ok (.aload_n 1, 1) := by decide +kernel
theorem dX3_copy_82 : decode cX3_copy 82 = .ok (.getfield 46, 3) := by decide +kernel
theorem dX3_copy_85 : decode cX3_copy 85 = .ok (.putfield 46, 3) := by decide +kernel
theorem dX3_copy_88 : decode cX3_copy 88 = .ok (.aload_n 0, 1) := by decide +kernel
theorem dX3_copy_89 : decode cX3_copy 89 = .ok (.aload_n 1, 1) := by decide +kernel
theorem dX3_copy_90 : decode cX3_copy 90 = .ok (.getfield 49, 3) := by decide +kernel
theorem dX3_copy_93 : decode cX3_copy 93 = .ok (.putfield 49, 3) := by decide +kernel
theorem dX3_copy_96 : decode cX3_copy 96 = .ok (.aload_n 0, 1) := by decide +kernel
theorem dX3_copy_97 : decode cX3_copy 97 = .ok (.aload_n 1, 1) := by decide +kernel
theorem dX3_copy_98 : decode cX3_copy 98 = .ok (.getfield 53, 3) := by decide +kernel
theorem dX3_copy_101 : decode cX3_copy 101 = .ok (.putfield 53, 3) := by decide +kernel
theorem dX3_copy_104 : decode cX3_copy 104 = .ok (.aload_n 1, 1) := by decide +kernel
theorem dX3_copy_105 : decode cX3_copy 105 = .ok (.getfield 9, 3) := by decide +kernel
theorem dX3_copy_108 : decode cX3_copy 108 = .ok (.iconst 0, 1) := by decide +kernel
theorem dX3_copy_109 : decode cX3_copy 109 = .ok (.aload_n 0, 1) := by decide +kernel
theorem dX3_copy_110 : decode cX3_copy 110 = .ok (.getfield 9, 3) := by decide +kernel
theorem dX3_copy_113 : decode cX3_copy 113 = .ok (.iconst 0, 1) := by decide +kernel
theorem dX3_copy_114 : decode cX3_copy 114 = .ok (.aload_n 0, 1) := by decide +kernel
theorem dX3_copy_115 : decode cX3_copy 115 = .ok (.getfield 9, 3) := by decide +kernel
theorem dX3_copy_118 : decode cX3_copy 118 = .ok (.arraylength, 1) := by decide +kernel
theorem dX3_copy_119 : decode cX3_copy 119 = .ok (.invokestatic 62, 3) := by decide +kernel
theorem dX3_copy_122 : decode cX3_copy 122 = .ok (.return_, 1) := by decide +kernel
theorem dX0_copy_0 : decode cX0_copy 0 = .ok (.aload_n 0, 1) := by decide +kernel
theorem dX0_copy_1 : decode cX0_copy 1 = .ok (.aload_n 1, 1) := by decide +kernel
theorem dX0_copy_2 : decode cX0_copy 2 = .ok (.getfield 7, 3) := by decide +kernel
theorem dX0_copy_5 : decode cX0_copy 5 = .ok (.putfield 7, 3) := by decide +kernel
theorem dX0_copy_8 : decode cX0_copy 8 = .ok (.aload_n 0, 1) := by decide +kernel
theorem dX0_copy_9 : decode cX0_copy 9 = .ok (.aload_n 1, 1) := by decide +kernel
theorem dX0_copy_10 : decode cX0_copy 10 = .ok (.getfield 13, 3) := by decide +kernel
theorem dX0_copy_13 : decode cX0_copy 13 = .ok (.putfield 13, 3) := by decide +kernel
theorem dX0_copy_16 : decode cX0_copy 16 = .ok (.aload_n 0, 1) := by decide +kernel
theorem dX0_copy_17 : decode cX0_copy 17 = .ok (.aload_n 1, 1) := by decide +kernel
theorem dX0_copy_18 : decode cX0_copy 18 = .ok (.getfield 16, 3) := by decide +kernel
theorem dX0_copy_21 : decode cX0_copy 21 = .ok (.putfield 16, 3) := by decide +kernel
theorem dX0_copy_24 : decode cX0_copy 24 = .ok (.aload_n 0, 1) := by decide +kernel
theorem dX0_copy_25 : decode cX0_copy 25 = .ok (.aload_n 1, 1) := by decide +kernel
theorem dX0_copy_26 : decode cX0_copy 26 = .ok (.getfield 19, 3) := by decide +kernel
theorem dX0_copy_29 : decode cX0_copy 29 = .ok (.putfield 19, 3) := by decide +kernel
theorem dX0_copy_32 : decode cX0_copy 32 = .ok (.aload_n 0, 1) := by decide +kernel
theorem dX0_copy_33 : decode cX0_copy 33 = .ok (.aload_n 1, 1) := by decide +kernel
theorem dX0_copy_34 : decode cX0_copy 34 = .ok (.getfield 22, 3) := by decide +kernel
theorem dX0_copy_37 : decode cX0_copy 37 = .ok (.putfield 22, 3) := by decide +kernel
theorem dX0_copy_40 : decode cX0_copy 40 = .ok (.aload_n 0, 1) := by decide +kernel
theorem dX0_copy_41 : decode cX0_copy 41 = .ok (.aload_n 1, 1) := by decide +kernel
theorem dX0_copy_42 : decode cX0_copy 42 = .ok (.getfield 25, 3) := by decide +kernel
theorem dX0_copy_45 : decode cX0_copy 45 = .ok (.putfield 25, 3) := by decide +kernel
theorem dX0_copy_48 : decode cX0_copy 48 = .ok (.aload_n 0, 1) := by decide +kernel
theorem dX0_copy_49 : decode cX0_copy 49 = .ok (.aload_n 1, 1) := by decide +kernel
theorem dX0_copy_50 : decode cX0_copy 50 = .ok (.getfield 28, 3) := by decide +kernel
theorem dX0_copy_53 : decode cX0_copy 53 = .ok (.putfield 28, 3) := by decide +kernel
theorem dX0_copy_56 : decode cX0_copy 56 = .ok (.return_, 1) := by decide +kernel
theorem dX9_copyMoving_0 : decode cX9_copyMoving 0 = .ok (.aload_n 0, 1) := by decide +kernel
theorem dX9_copyMoving_1 : decode cX9_copyMoving 1 = .ok (.aload_n 1, 1) := by decide +kernel
theorem dX9_copyMoving_2 : decode cX9_copyMoving 2 = .ok (.getfield 107, 3) := by decide +kernel
theorem dX9_copyMoving_5 : decode cX9_copyMoving 5 = .ok (.putfield 107, 3) := by decide +kernel
theorem dX9_copyMoving_8 : decode cX9_copyMoving 8 = .ok (.aload_n 0, 1) := by decide +kernel
theorem dX9_copyMoving_9 : decode cX9_copyMoving 9 = .ok (.aload_n 1, 1) := by decide +kernel
theorem dX9_copyMoving_10 : decode cX9_copyMoving 10 = .ok (.getfield 57, 3) := by decide +kernel
theorem dX9_copyMoving_13 : decode cX9_copyMoving 13 = .ok (.putfield 57, 3) := by decide +kernel
theorem dX9_copyMoving_16 : decode cX9_copyMoving 16 = .ok (.aload_n 0, 1) := by decide +kernel
theorem dX9_copyMoving_17 : decode cX9_copyMoving 17 = .ok (.aload_n 1, 1) := by decide +kernel
theorem dX9_copyMoving_18 : decode cX9_copyMoving 18 = .ok (.getfield 60, 3) := by decide +kernel
theorem dX9_copyMoving_21 : decode cX9_copyMoving 21 = .ok (.putfield 60, 3) := by decide +kernel
theorem dX9_copyMoving_24 : decode cX9_copyMoving 24 = .ok (.aload_n 0, 1) := by decide +kernel
theorem dX9_copyMoving_25 : decode cX9_copyMoving 25 = .ok (.aload_n 1, 1) := by decide +kernel
theorem dX9_copyMoving_26 : decode cX9_copyMoving 26 = .ok (.getfield 110, 3) := by decide +kernel
theorem dX9_copyMoving_29 : decode cX9_copyMoving 29 = .ok (.putfield 110, 3) := by decide +kernel
theorem dX9_copyMoving_32 : decode cX9_copyMoving 32 = .ok (.aload_n 0, 1) := by decide +kernel
theorem dX9_copyMoving_33 : decode cX9_copyMoving 33 = .ok (.aload_n 1, 1) := by decide +kernel
theorem dX9_copyMoving_34 : decode cX9_copyMoving 34 = .ok (.getfield 83, 3) := by decide +kernel
theorem dX9_copyMoving_37 : decode cX9_copyMoving 37 = .ok (.putfield 83, 3) := by decide +kernel
theorem dX9_copyMoving_40 : decode cX9_copyMoving 40 = .ok (.aload_n 0, 1) := by decide +kernel
theorem dX9_copyMoving_41 : decode cX9_copyMoving 41 = .ok (.aload_n 1, 1) := by decide +kernel
theorem dX9_copyMoving_42 : decode cX9_copyMoving 42 = .ok (.getfield 113, 3) := by decide +kernel
theorem dX9_copyMoving_45 : decode cX9_copyMoving 45 = .ok (.putfield 113, 3) := by decide +kernel
theorem dX9_copyMoving_48 : decode cX9_copyMoving 48 = .ok (.aload_n 0, 1) := by decide +kernel
theorem dX9_copyMoving_49 : decode cX9_copyMoving 49 = .ok (.aload_n 1, 1) := by decide +kernel
theorem dX9_copyMoving_50 : decode cX9_copyMoving 50 = .ok (.getfield 116, 3) := by decide +kernel
theorem dX9_copyMoving_53 : decode cX9_copyMoving 53 = .ok (.putfield 116, 3) := by decide +kernel
theorem dX9_copyMoving_56 : decode cX9_copyMoving 56 = .ok (.aload_n 0, 1) := by decide +kernel
theorem dX9_copyMoving_57 : decode cX9_copyMoving 57 = .ok (.aload_n 1, 1) := by decide +kernel
theorem dX9_copyMoving_58 : decode cX9_copyMoving 58 = .ok (.getfield 119, 3) := by decide +kernel
theorem dX9_copyMoving_61 : decode cX9_copyMoving 61 = .ok (.putfield 119, 3) := by decide +kernel
theorem dX9_copyMoving_64 : decode cX9_copyMoving 64 = .ok (.iconst 0, 1) := by decide +kernel
theorem dX9_copyMoving_65 : decode cX9_copyMoving 65 = .ok (.istore_n 2, 1) := by decide +kernel
theorem dX9_copyMoving_66 : decode cX9_copyMoving 66 = .ok (.iload_n 2, 1) := by decide +kernel
theorem dX9_copyMoving_67 : decode cX9_copyMoving 67 = .ok (.aload_n 0, 1) := by decide +kernel
theorem dX9_copyMoving_68 : decode cX9_copyMoving 68 = .ok (.getfield 57, 3) := by decide +kernel
theorem dX9_copyMoving_71 : decode cX9_copyMoving 71 = .ok (.if_icmp .ge 30, 3) := by decide +kernel
theorem dX9_copyMoving_74 : decode cX9_copyMoving 74 = .ok (.iload_n 2, 1) := by decide +kernel
theorem dX9_copyMoving_75 : decode cX9_copyMoving 75 = .ok (.bipush 6, 2) := by decide +kernel
theorem dX9_copyMoving_77 : decode cX9_copyMoving 77 = .ok (.if_icmp .ge 24, 3) := by decide +kernel
theorem dX9_copyMoving_80 : decode cX9_copyMoving 80 = .ok (.aload_n 0, 1) := by decide +kernel
theorem dX9_copyMoving_81 : decode cX9_copyMoving 81 = .ok (.getfield 11, 3) := by decide +kernel
theorem dX9_copyMoving_84 : decode cX9_copyMoving 84 = .ok (.iload_n 2, 1) := by decide +kernel
theorem dX9_copyMoving_85 : decode cX9_copyMoving 85 = .ok (.aaload, 1) := by decide +kernel
theorem dX9_copyMoving_86 : decode cX9_copyMoving 86 = .ok (.aload_n 1, 1) := by decide +kernel
theorem dX9_copyMoving_87 : decode cX9_copyMoving 87 = .ok (.getfield 11, 3) := by decide +kernel
theorem dX9_copyMoving_90 : decode cX9_copyMoving 90 = .ok (.iload_n 2, 1) := by decide +kernel
theorem dX9_copyMoving_91 : decode cX9_copyMoving 91 = .ok (.aaload, 1) := by decide +kernel
theorem dX9_copyMoving_92 : decode cX9_copyMoving 92 = .ok (.invokevirtual 122, 3) := by decide +kernel
theorem dX9_copyMoving_95 : decode cX9_copyMoving 95 = .ok (.iinc 2 1, 3) := by decide +kernel
theorem dX9_copyMoving_98 : decode cX9_copyMoving 98 = .ok (.goto (-32), 3) := by decide +kernel
theorem dX9_copyMoving_101 : decode cX9_copyMoving 101 = .ok (.iconst 0, 1) := by decide +kernel
theorem dX9_copyMoving_102 : decode cX9_copyMoving 102 = .ok (.istore_n 2, 1) := by decide +kernel
theorem dX9_copyMoving_103 : decode cX9_copyMoving 103 = .ok (.iload_n 2, 1) := by decide +kernel
theorem dX9_copyMoving_104 : decode cX9_copyMoving 104 = .ok (.aload_n 0, 1) := by decide +kernel
theorem dX9_copyMoving_105 : decode cX9_copyMoving 105 = .ok (.getfield 60, 3) := by decide +kernel
theorem dX9_copyMoving_108 : decode cX9_copyMoving 108 = .ok (.if_icmp .ge 30, 3) := by decide +kernel
theorem dX9_copyMoving_111 : decode cX9_copyMoving 111 = .ok (.iload_n 2, 1) := by decide +kernel
theorem dX9_copyMoving_112 : decode cX9_copyMoving 112 = .ok (.bipush 10, 2) := by decide +kernel
theorem dX9_copyMoving_114 : decode cX9_copyMoving 114 = .ok (.if_icmp .ge 24, 3) := by decide +kernel
theorem dX9_copyMoving_117 : decode cX9_copyMoving 117 = .ok (.aload_n 0, 1) := by decide +kernel
theorem dX9_copyMoving_118 : decode cX9_copyMoving 118 = .ok (.getfield 19, 3) := by decide +kernel
theorem dX9_copyMoving_121 : decode cX9_copyMoving 121 = .ok (.iload_n 2, 1) := by decide +kernel
theorem dX9_copyMoving_122 : decode cX9_copyMoving 122 = .ok (.aaload, 1) := by decide +kernel
theorem dX9_copyMoving_123 : decode cX9_copyMoving 123 = .ok (.aload_n 1, 1) := by decide +kernel
theorem dX9_copyMoving_124 : decode cX9_copyMoving 124 = .ok (.getfield 19, 3) := by decide +kernel
theorem dX9_copyMoving_127 : decode cX9_copyMoving 127 = .ok (.iload_n 2, 1) := by decide +kernel
theorem dX9_copyMoving_128 : decode cX9_copyMoving 128 = .ok (.aaload, 1) := by decide +kernel
theorem dX9_copyMoving_129 : decode cX9_copyMoving 129 = .ok (.invokevirtual 125, 3) := by decide +kernel
theorem dX9_copyMoving_132 : decode cX9_copyMoving 132 = .ok (.iinc 2 1, 3) := by decide +kernel
theorem dX9_copyMoving_135 : decode cX9_copyMoving 135 = .ok (.goto (-32), 3) := by decide +kernel
theorem dX9_copyMoving_138 : decode cX9_copyMoving 138 = .ok (.iconst 0, 1) := by decide +kernel
theorem dX9_copyMoving_139 : decode cX9_copyMoving 139 = .ok (.istore_n 2, 1) := by decide +kernel
theorem dX9_copyMoving_140 : decode cX9_copyMoving 140 = .ok (.iload_n 2, 1) := by decide +kernel
theorem dX9_copyMoving_141 : decode cX9_copyMoving 141 = .ok (.aload_n 0, 1) := by decide +kernel
theorem dX9_copyMoving_142 : decode cX9_copyMoving 142 = .ok (.getfield 110, 3) := by decide +kernel
theorem dX9_copyMoving_145 : decode cX9_copyMoving 145 = .ok (.if_icmp .ge 30, 3) := by decide +kernel
theorem dX9_copyMoving_148 : decode cX9_copyMoving 148 = .ok (.iload_n 2, 1) := by decide +kernel
theorem dX9_copyMoving_149 : decode cX9_copyMoving 149 = .ok (.bipush 30, 2) := by decide +kernel
theorem dX9_copyMoving_151 : decode cX9_copyMoving 151 = .ok (.if_icmp .ge 24, 3) := by decide +kernel
theorem dX9_copyMoving_154 : decode cX9_copyMoving 154 = .ok (.aload_n 0, 1) := by decide +kernel
theorem dX9_copyMoving_155 : decode cX9_copyMoving 155 = .ok (.getfield 25, 3) := by decide +kernel
theorem dX9_copyMoving_158 : decode cX9_copyMoving 158 = .ok (.iload_n 2, 1) := by decide +kernel
theorem dX9_copyMoving_159 : decode cX9_copyMoving 159 = .ok (.aaload, 1) := by decide +kernel
theorem dX9_copyMoving_160 : decode cX9_copyMoving 160 = .ok (.aload_n 1, 1) := by decide +kernel
theorem dX9_copyMoving_161 : decode cX9_copyMoving 161 = .ok (.getfield 25, 3) := by decide +kernel
theorem dX9_copyMoving_164 : decode cX9_copyMoving 164 = .ok (.iload_n 2, 1) := by decide +kernel
theorem dX9_copyMoving_165 : decode cX9_copyMoving 165 = .ok (.aaload, 1) := by decide +kernel
theorem dX9_copyMoving_166 : decode cX9_copyMoving 166 = .ok (.invokevirtual 128, 3) := by decide +kernel
theorem dX9_copyMoving_169 : decode cX9_copyMoving 169 = .ok (.iinc 2 1, 3) := by decide +kernel
theorem dX9_copyMoving_172 : decode cX9_copyMoving 172 = .ok (.goto (-32), 3) := by decide +kernel
theorem dX9_copyMoving_175 : decode cX9_copyMoving 175 = .ok (.return_, 1) := by decide +kernel
theorem dX11_beginTrial_0 : decode cX11_beginTrial 0 = .ok (.aload_n 0, 1) := by decide +kernel
theorem dX11_beginTrial_1 : decode cX11_beginTrial 1 = .ok (.getfield 19, 3) := by decide +kernel
theorem dX11_beginTrial_4 : decode cX11_beginTrial 4 = .ok (.aload_n 0, 1) := by decide +kernel
theorem dX11_beginTrial_5 : decode cX11_beginTrial 5 = .ok (.getfield 10, 3) := by decide +kernel
theorem dX11_beginTrial_8 : decode cX11_beginTrial 8 = .ok (.invokevirtual 323, 3) := by decide +kernel
theorem dX11_beginTrial_11 : decode cX11_beginTrial 11 = .ok (.aload_n 0, 1) := by decide +kernel
theorem dX11_beginTrial_12 : decode cX11_beginTrial 12 = .ok (.getfield 25, 3) := by decide +kernel
theorem dX11_beginTrial_15 : decode cX11_beginTrial 15 = .ok (.invokevirtual 166, 3) := by decide +kernel
theorem dX11_beginTrial_18 : decode cX11_beginTrial 18 = .ok (.aload_n 0, 1) := by decide +kernel
theorem dX11_beginTrial_19 : decode cX11_beginTrial 19 = .ok (.invokevirtual 162, 3) := by decide +kernel
theorem dX11_beginTrial_22 : decode cX11_beginTrial 22 = .ok (.areturn, 1) := by decide +kernel
theorem dX11_waitedByWays_0 : decode cX11_waitedByWays 0 = .ok (.aload_n 0, 1) := by decide +kernel
theorem dX11_waitedByWays_1 : decode cX11_waitedByWays 1 = .ok (.invokevirtual 246, 3) := by decide +kernel
theorem dX11_waitedByWays_4 : decode cX11_waitedByWays 4 = .ok (.astore 4, 2) := by decide +kernel
theorem dX11_waitedByWays_6 : decode cX11_waitedByWays 6 = .ok (.iconst 0, 1) := by decide +kernel
theorem dX11_waitedByWays_7 : decode cX11_waitedByWays 7 = .ok (.istore 5, 2) := by decide +kernel
theorem dX11_waitedByWays_9 : decode cX11_waitedByWays 9 = .ok (.iload 5, 2) := by decide +kernel
theorem dX11_waitedByWays_11 : decode cX11_waitedByWays 11 = .ok (.bipush 10, 2) := by decide +kernel
theorem dX11_waitedByWays_13 : decode cX11_waitedByWays 13 = .ok (.if_icmp .ge 47, 3) := by decide +kernel
theorem dX11_waitedByWays_16 : decode cX11_waitedByWays 16 = .ok (.iload_n 1, 1) := by decide +kernel
theorem dX11_waitedByWays_17 : decode cX11_waitedByWays 17 = .ok (.iload 5, 2) := by decide +kernel
theorem dX11_waitedByWays_19 : decode cX11_waitedByWays 19 = .ok (.ishr, 1) := by decide +kernel
theorem dX11_waitedByWays_20 : decode cX11_waitedByWays 20 = .ok (.iconst 1, 1) := by decide +kernel
theorem dX11_waitedByWays_21 : decode cX11_waitedByWays 21 = .ok (.iand, 1) := by decide +kernel
theorem dX11_waitedByWays_22 : decode cX11_waitedByWays 22 = .ok (.iconst 1, 1) := by decide +kernel
theorem dX11_waitedByWays_23 : decode cX11_waitedByWays 23 = .ok (.if_icmp .ne 31, 3) := by decide +kernel
theorem dX11_waitedByWays_26 : decode cX11_waitedByWays 26 = .ok (.aload_n 0, 1) := by decide +kernel
theorem dX11_waitedByWays_27 : decode cX11_waitedByWays 27 = .ok (.getfield 19, 3) := by decide +kernel
theorem dX11_waitedByWays_30 : decode cX11_waitedByWays 30 = .ok (.getfield 75, 3) := by decide +kernel
theorem dX11_waitedByWays_33 : decode cX11_waitedByWays 33 = .ok (.iload 5, 2) := by decide +kernel
theorem dX11_waitedByWays_35 : decode cX11_waitedByWays 35 = .ok (.aaload, 1) := by decide +kernel
theorem dX11_waitedByWays_36 : decode cX11_waitedByWays 36 = .ok (.iload_n 2, 1) := by decide +kernel
theorem dX11_waitedByWays_37 : decode cX11_waitedByWays 37 = .ok (.iload 5, 2) := by decide +kernel
theorem dX11_waitedByWays_39 : decode cX11_waitedByWays 39 = .ok (.ishr, 1) := by decide +kernel
theorem dX11_waitedByWays_40 : decode cX11_waitedByWays 40 = .ok (.iconst 1, 1) := by decide +kernel
theorem dX11_waitedByWays_41 : decode cX11_waitedByWays 41 = .ok (.iand, 1) := by decide +kernel
theorem dX11_waitedByWays_42 : decode cX11_waitedByWays 42 = .ok (.iconst 1, 1) := by decide +kernel
theorem dX11_waitedByWays_43 : decode cX11_waitedByWays 43 = .ok (.if_icmp .ne 7, 3) := by decide +kernel
theorem dX11_waitedByWays_46 : decode cX11_waitedByWays 46 = .ok (.iconst 1, 1) := by decide +kernel
theorem dX11_waitedByWays_47 : decode cX11_waitedByWays 47 = .ok (.goto 4, 3) := by decide +kernel
theorem dX11_waitedByWays_50 : decode cX11_waitedByWays 50 = .ok (.iconst 2, 1) := by decide +kernel
theorem dX11_waitedByWays_51 : decode cX11_waitedByWays 51 = .ok (.invokevirtual 87, 3) := by decide +kernel
theorem dX11_waitedByWays_54 : decode cX11_waitedByWays 54 = .ok (.iinc 5 1, 3) := by decide +kernel
theorem dX11_waitedByWays_57 : decode cX11_waitedByWays 57 = .ok (.goto (-48), 3) := by decide +kernel
theorem dX11_waitedByWays_60 : decode cX11_waitedByWays 60 = .ok (.iconst 0, 1) := by decide +kernel
theorem dX11_waitedByWays_61 : decode cX11_waitedByWays 61 = .ok (.istore 5, 2) := by decide +kernel
theorem dX11_waitedByWays_63 : decode cX11_waitedByWays 63 = .ok (.iload 5, 2) := by decide +kernel
theorem dX11_waitedByWays_65 : decode cX11_waitedByWays 65 = .ok (.iload_n 3, 1) := by decide +kernel
theorem dX11_waitedByWays_66 : decode cX11_waitedByWays 66 = .ok (.if_icmp .ge 22, 3) := by decide +kernel
theorem dX11_waitedByWays_69 : decode cX11_waitedByWays 69 = .ok (.aload_n 0, 1) := by decide +kernel
theorem dX11_waitedByWays_70 : decode cX11_waitedByWays 70 = .ok (.getfield 25, 3) := by decide +kernel
theorem dX11_waitedByWays_73 : decode cX11_waitedByWays 73 = .ok (.aload_n 0, 1) := by decide +kernel
theorem dX11_waitedByWays_74 : decode cX11_waitedByWays 74 = .ok (.getfield 19, 3) := by decide +kernel
theorem dX11_waitedByWays_77 : decode cX11_waitedByWays 77 = .ok (.aload 4, 2) := by decide +kernel
theorem dX11_waitedByWays_79 : decode cX11_waitedByWays 79 = .ok (.invokevirtual 169, 3) := by decide +kernel
theorem dX11_waitedByWays_82 : decode cX11_waitedByWays 82 = .ok (.iinc 5 1, 3) := by decide +kernel
theorem dX11_waitedByWays_85 : decode cX11_waitedByWays 85 = .ok (.goto (-22), 3) := by decide +kernel
theorem dX11_waitedByWays_88 : decode cX11_waitedByWays 88 = .ok (.aload_n 0, 1) := by decide +kernel
theorem dX11_waitedByWays_89 : decode cX11_waitedByWays 89 = .ok (.getfield 19, 3) := by decide +kernel
theorem dX11_waitedByWays_92 : decode cX11_waitedByWays 92 = .ok (.getfield 228, 3) := by decide +kernel
theorem dX11_waitedByWays_95 : decode cX11_waitedByWays 95 = .ok (.aload_n 0, 1) := by decide +kernel
theorem dX11_waitedByWays_96 : decode cX11_waitedByWays 96 = .ok (.getfield 10, 3) := by decide +kernel
theorem dX11_waitedByWays_99 : decode cX11_waitedByWays 99 = .ok (.getfield 228, 3) := by decide +kernel
theorem dX11_waitedByWays_102 : decode cX11_waitedByWays 102 = .ok (.isub, 1) := by decide +kernel
theorem dX11_waitedByWays_103 : decode cX11_waitedByWays 103 = .ok (.ireturn, 1) := by decide +kernel
theorem dX11_ways_0 : decode cX11_ways 0 = .ok (.iload_n 3, 1) := by decide +kernel
theorem dX11_ways_1 : decode cX11_ways 1 = .ok (.iconst 0, 1) := by decide +kernel
theorem dX11_ways_2 : decode cX11_ways 2 = .ok (.iconst 1, 1) := by decide +kernel
theorem dX11_ways_3 : decode cX11_ways 3 = .ok (.invokestatic 47, 3) := by decide +kernel
theorem dX11_ways_6 : decode cX11_ways 6 = .ok (.ifCond .eq 19, 3) := by decide +kernel
theorem dX11_ways_9 : decode cX11_ways 9 = .ok (.aload_n 0, 1) := by decide +kernel
theorem dX11_ways_10 : decode cX11_ways 10 = .ok (.iload_n 2, 1) := by decide +kernel
theorem dX11_ways_11 : decode cX11_ways 11 = .ok (.invokevirtual 159, 3) := by decide +kernel
theorem dX11_ways_14 : decode cX11_ways 14 = .ok (.ifCond .eq 11, 3) := by decide +kernel
theorem dX11_ways_17 : decode cX11_ways 17 = .ok (.aload_n 0, 1) := by decide +kernel
theorem dX11_ways_18 : decode cX11_ways 18 = .ok (.iload_n 1, 1) := by decide +kernel
theorem dX11_ways_19 : decode cX11_ways 19 = .ok (.invokevirtual 237, 3) := by decide +kernel
theorem dX11_ways_22 : decode cX11_ways 22 = .ok (.ifCond .ne 5, 3) := by decide +kernel
theorem dX11_ways_25 : decode cX11_ways 25 = .ok (.iconst (-1), 1) := by decide +kernel
theorem dX11_ways_26 : decode cX11_ways 26 = .ok (.ireturn, 1) := by decide +kernel
theorem dX11_ways_27 : decode cX11_ways 27 = .ok (.iconst 0, 1) := by decide +kernel
theorem dX11_ways_28 : decode cX11_ways 28 = .ok (.istore 4, 2) := by decide +kernel
theorem dX11_ways_30 : decode cX11_ways 30 = .ok (.aload_n 0, 1) := by decide +kernel
theorem dX11_ways_31 : decode cX11_ways 31 = .ok (.iload_n 1, 1) := by decide +kernel
theorem dX11_ways_32 : decode cX11_ways 32 = .ok (.iconst 0, 1) := by decide +kernel
theorem dX11_ways_33 : decode cX11_ways 33 = .ok (.iload_n 2, 1) := by decide +kernel
theorem dX11_ways_34 : decode cX11_ways 34 = .ok (.invokevirtual 240, 3) := by decide +kernel
theorem dX11_ways_37 : decode cX11_ways 37 = .ok (.istore 5, 2) := by decide +kernel
theorem dX11_ways_39 : decode cX11_ways 39 = .ok (.iconst 0, 1) := by decide +kernel
theorem dX11_ways_40 : decode cX11_ways 40 = .ok (.istore 6, 2) := by decide +kernel
theorem dX11_ways_42 : decode cX11_ways 42 = .ok (.iconst 1, 1) := by decide +kernel
theorem dX11_ways_43 : decode cX11_ways 43 = .ok (.istore 7, 2) := by decide +kernel
theorem dX11_ways_45 : decode cX11_ways 45 = .ok (.iload 7, 2) := by decide +kernel
theorem dX11_ways_47 : decode cX11_ways 47 = .ok (.bipush 32, 2) := by decide +kernel
theorem dX11_ways_49 : decode cX11_ways 49 = .ok (.if_icmp .ge 50, 3) := by decide +kernel
theorem dX11_ways_52 : decode cX11_ways 52 = .ok (.iload 6, 2) := by decide +kernel
theorem dX11_ways_54 : decode cX11_ways 54 = .ok (.iload_n 1, 1) := by decide +kernel
theorem dX11_ways_55 : decode cX11_ways 55 = .ok (.isub, 1) := by decide +kernel
theorem dX11_ways_56 : decode cX11_ways 56 = .ok (.iload_n 1, 1) := by decide +kernel
theorem dX11_ways_57 : decode cX11_ways 57 = .ok (.iand, 1) := by decide +kernel
theorem dX11_ways_58 : decode cX11_ways 58 = .ok (.istore 6, 2) := by decide +kernel
theorem dX11_ways_60 : decode cX11_ways 60 = .ok (.iload 6, 2) := by decide +kernel
theorem dX11_ways_62 : decode cX11_ways 62 = .ok (.ifCond .ne 6, 3) := by decide +kernel
theorem dX11_ways_65 : decode cX11_ways 65 = .ok (.goto 34, 3) := by decide +kernel
theorem dX11_ways_68 : decode cX11_ways 68 = .ok (.aload_n 0, 1) := by decide +kernel
theorem dX11_ways_69 : decode cX11_ways 69 = .ok (.iload_n 1, 1) := by decide +kernel
theorem dX11_ways_70 : decode cX11_ways 70 = .ok (.iload 6, 2) := by decide +kernel
theorem dX11_ways_72 : decode cX11_ways 72 = .ok (.iload_n 2, 1) := by decide +kernel
theorem dX11_ways_73 : decode cX11_ways 73 = .ok (.invokevirtual 240, 3) := by decide +kernel
theorem dX11_ways_76 : decode cX11_ways 76 = .ok (.istore 8, 2) := by decide +kernel
theorem dX11_ways_78 : decode cX11_ways 78 = .ok (.iload 8, 2) := by decide +kernel
theorem dX11_ways_80 : decode cX11_ways 80 = .ok (.iload 5, 2) := by decide +kernel
theorem dX11_ways_82 : decode cX11_ways 82 = .ok (.if_icmp .ge 11, 3) := by decide +kernel
theorem dX11_ways_85 : decode cX11_ways 85 = .ok (.iload 6, 2) := by decide +kernel
theorem dX11_ways_87 : decode cX11_ways 87 = .ok (.istore 4, 2) := by decide +kernel
theorem dX11_ways_89 : decode cX11_ways 89 = .ok (.iload 8, 2) := by decide +kernel
theorem dX11_ways_91 : decode cX11_ways 91 = .ok (.istore 5, 2) := by decide +kernel
theorem dX11_ways_93 : decode cX11_ways 93 = .ok (.iinc 7 1, 3) := by decide +kernel
theorem dX11_ways_96 : decode cX11_ways 96 = .ok (.goto (-51), 3) := by decide +kernel
theorem dX11_ways_99 : decode cX11_ways 99 = .ok (.iload_n 3, 1) := by decide +kernel
theorem dX11_ways_100 : decode cX11_ways 100 = .ok (.ifCond .ne 8, 3) := by decide +kernel
theorem dX11_ways_103 : decode cX11_ways 103 = .ok (.iload 4, 2) := by decide +kernel
theorem dX11_ways_105 : decode cX11_ways 105 = .ok (.goto 5, 3) := by decide +kernel
theorem dX11_ways_108 : decode cX11_ways 108 = .ok (.iload 5, 2) := by decide +kernel
theorem dX11_ways_110 : decode cX11_ways 110 = .ok (.ireturn, 1) := by decide +kernel
theorem dX12_areStairs_0 : decode cX12_areStairs 0 = .ok (.iconst 0, 1) := by decide +kernel
theorem dX12_areStairs_1 : decode cX12_areStairs 1 = .ok (.istore_n 2, 1) := by decide +kernel
theorem dX12_areStairs_2 : decode cX12_areStairs 2 = .ok (.iload_n 1, 1) := by decide +kernel
theorem dX12_areStairs_3 : decode cX12_areStairs 3 = .ok (.ifCond .le 19, 3) := by decide +kernel
theorem dX12_areStairs_6 : decode cX12_areStairs 6 = .ok (.iload_n 1, 1) := by decide +kernel
theorem dX12_areStairs_7 : decode cX12_areStairs 7 = .ok (.iconst 1, 1) := by decide +kernel
theorem dX12_areStairs_8 : decode cX12_areStairs 8 = .ok (.aload_n 0, 1) := by decide +kernel
theorem dX12_areStairs_9 : decode cX12_areStairs 9 = .ok (.getfield 7, 3) := by decide +kernel
theorem dX12_areStairs_12 : decode cX12_areStairs 12 = .ok (.iconst 2, 1) := by decide +kernel
theorem dX12_areStairs_13 : decode cX12_areStairs 13 = .ok (.iaload, 1) := by decide +kernel
theorem dX12_areStairs_14 : decode cX12_areStairs 14 = .ok (.ishl, 1) := by decide +kernel
theorem dX12_areStairs_15 : decode cX12_areStairs 15 = .ok (.if_icmp .ge 7, 3) := by decide +kernel
theorem dX12_areStairs_18 : decode cX12_areStairs 18 = .ok (.iconst 1, 1) := by decide +kernel
theorem dX12_areStairs_19 : decode cX12_areStairs 19 = .ok (.goto 4, 3) := by decide +kernel
theorem dX12_areStairs_22 : decode cX12_areStairs 22 = .ok (.iconst 0, 1) := by decide +kernel
theorem dX12_areStairs_23 : decode cX12_areStairs 23 = .ok (.istore_n 3, 1) := by decide +kernel
theorem dX12_areStairs_24 : decode cX12_areStairs 24 = .ok (.iconst 0, 1) := by decide +kernel
theorem dX12_areStairs_25 : decode cX12_areStairs 25 = .ok (.istore 4, 2) := by decide +kernel
theorem dX12_areStairs_27 : decode cX12_areStairs 27 = .ok (.iload 4, 2) := by decide +kernel
theorem dX12_areStairs_29 : decode cX12_areStairs 29 = .ok (.bipush 10, 2) := by decide +kernel
theorem dX12_areStairs_31 : decode cX12_areStairs 31 = .ok (.if_icmp .ge 33, 3) := by decide +kernel
theorem dX12_areStairs_34 : decode cX12_areStairs 34 = .ok (.iload_n 3, 1) := by decide +kernel
theorem dX12_areStairs_35 : decode cX12_areStairs 35 = .ok (.ifCond .eq 29, 3) := by decide +kernel
theorem dX12_areStairs_38 : decode cX12_areStairs 38 = .ok (.iload_n 1, 1) := by decide +kernel
theorem dX12_areStairs_39 : decode cX12_areStairs 39 = .ok (.iload 4, 2) := by decide +kernel
theorem dX12_areStairs_41 : decode cX12_areStairs 41 = .ok (.ishr, 1) := by decide +kernel
theorem dX12_areStairs_42 : decode cX12_areStairs 42 = .ok (.iconst 1, 1) := by decide +kernel
theorem dX12_areStairs_43 : decode cX12_areStairs 43 = .ok (.iand, 1) := by decide +kernel
theorem dX12_areStairs_44 : decode cX12_areStairs 44 = .ok (.iconst 1, 1) := by decide +kernel
theorem dX12_areStairs_45 : decode cX12_areStairs 45 = .ok (.if_icmp .ne 13, 3) := by decide +kernel
theorem dX12_areStairs_48 : decode cX12_areStairs 48 = .ok (.aload_n 0, 1) := by decide +kernel
theorem dX12_areStairs_49 : decode cX12_areStairs 49 = .ok (.iload 4, 2) := by decide +kernel
theorem dX12_areStairs_51 : decode cX12_areStairs 51 = .ok (.invokevirtual 114, 3) := by decide +kernel
theorem dX12_areStairs_54 : decode cX12_areStairs 54 = .ok (.istore_n 3, 1) := by decide +kernel
theorem dX12_areStairs_55 : decode cX12_areStairs 55 = .ok (.iinc 2 1, 3) := by decide +kernel
theorem dX12_areStairs_58 : decode cX12_areStairs 58 = .ok (.iinc 4 1, 3) := by decide +kernel
theorem dX12_areStairs_61 : decode cX12_areStairs 61 = .ok (.goto (-34), 3) := by decide +kernel
theorem dX12_areStairs_64 : decode cX12_areStairs 64 = .ok (.iload_n 3, 1) := by decide +kernel
theorem dX12_areStairs_65 : decode cX12_areStairs 65 = .ok (.ifCond .eq 13, 3) := by decide +kernel
theorem dX12_areStairs_68 : decode cX12_areStairs 68 = .ok (.iload_n 2, 1) := by decide +kernel
theorem dX12_areStairs_69 : decode cX12_areStairs 69 = .ok (.bipush 6, 2) := by decide +kernel
theorem dX12_areStairs_71 : decode cX12_areStairs 71 = .ok (.if_icmp .ge 7, 3) := by decide +kernel
theorem dX12_areStairs_74 : decode cX12_areStairs 74 = .ok (.iconst 1, 1) := by decide +kernel
theorem dX12_areStairs_75 : decode cX12_areStairs 75 = .ok (.goto 4, 3) := by decide +kernel
theorem dX12_areStairs_78 : decode cX12_areStairs 78 = .ok (.iconst 0, 1) := by decide +kernel
theorem dX12_areStairs_79 : decode cX12_areStairs 79 = .ok (.ireturn, 1) := by decide +kernel
theorem dX12_saves_0 : decode cX12_saves 0 = .ok (.iconst 0, 1) := by decide +kernel
theorem dX12_saves_1 : decode cX12_saves 1 = .ok (.istore_n 1, 1) := by decide +kernel
theorem dX12_saves_2 : decode cX12_saves 2 = .ok (.iload_n 1, 1) := by decide +kernel
theorem dX12_saves_3 : decode cX12_saves 3 = .ok (.sipush 1610, 3) := by decide +kernel
theorem dX12_saves_6 : decode cX12_saves 6 = .ok (.if_icmp .ge 21, 3) := by decide +kernel
theorem dX12_saves_9 : decode cX12_saves 9 = .ok (.aload_n 0, 1) := by decide +kernel
theorem dX12_saves_10 : decode cX12_saves 10 = .ok (.getfield 16, 3) := by decide +kernel
theorem dX12_saves_13 : decode cX12_saves 13 = .ok (.iload_n 1, 1) := by decide +kernel
theorem dX12_saves_14 : decode cX12_saves 14 = .ok (.aload_n 0, 1) := by decide +kernel
theorem dX12_saves_15 : decode cX12_saves 15 = .ok (.getfield 7, 3) := by decide +kernel
theorem dX12_saves_18 : decode cX12_saves 18 = .ok (.iload_n 1, 1) := by decide +kernel
theorem dX12_saves_19 : decode cX12_saves 19 = .ok (.iaload, 1) := by decide +kernel
theorem dX12_saves_20 : decode cX12_saves 20 = .ok (.iastore, 1) := by decide +kernel
theorem dX12_saves_21 : decode cX12_saves 21 = .ok (.iinc 1 1, 3) := by decide +kernel
theorem dX12_saves_24 : decode cX12_saves 24 = .ok (.goto (-22), 3) := by decide +kernel
theorem dX12_saves_27 : decode cX12_saves 27 = .ok (.return_, 1) := by decide +kernel
theorem dX12_runs_0 : decode cX12_runs 0 = .ok (.iconst 0, 1) := by decide +kernel
theorem dX12_runs_1 : decode cX12_runs 1 = .ok (.istore_n 2, 1) := by decide +kernel
theorem dX12_runs_2 : decode cX12_runs 2 = .ok (.iload_n 2, 1) := by decide +kernel
theorem dX12_runs_3 : decode cX12_runs 3 = .ok (.iload_n 1, 1) := by decide +kernel
theorem dX12_runs_4 : decode cX12_runs 4 = .ok (.if_icmp .ge 13, 3) := by decide +kernel
theorem dX12_runs_7 : decode cX12_runs 7 = .ok (.aload_n 0, 1) := by decide +kernel
theorem dX12_runs_8 : decode cX12_runs 8 = .ok (.invokevirtual 380, 3) := by decide +kernel
theorem dX12_runs_11 : decode cX12_runs 11 = .ok (.iinc 2 1, 3) := by decide +kernel
theorem dX12_runs_14 : decode cX12_runs 14 = .ok (.goto (-12), 3) := by decide +kernel
theorem dX12_runs_17 : decode cX12_runs 17 = .ok (.return_, 1) := by decide +kernel
theorem dX12_putsBack_0 : decode cX12_putsBack 0 = .ok (.iconst 0, 1) := by decide +kernel
theorem dX12_putsBack_1 : decode cX12_putsBack 1 = .ok (.istore_n 1, 1) := by decide +kernel
theorem dX12_putsBack_2 : decode cX12_putsBack 2 = .ok (.iload_n 1, 1) := by decide +kernel
theorem dX12_putsBack_3 : decode cX12_putsBack 3 = .ok (.sipush 1610, 3) := by decide +kernel
theorem dX12_putsBack_6 : decode cX12_putsBack 6 = .ok (.if_icmp .ge 21, 3) := by decide +kernel
theorem dX12_putsBack_9 : decode cX12_putsBack 9 = .ok (.aload_n 0, 1) := by decide +kernel
theorem dX12_putsBack_10 : decode cX12_putsBack 10 = .ok (.getfield 7, 3) := by decide +kernel
theorem dX12_putsBack_13 : decode cX12_putsBack 13 = .ok (.iload_n 1, 1) := by decide +kernel
theorem dX12_putsBack_14 : decode cX12_putsBack 14 = .ok (.aload_n 0, 1) := by decide +kernel
theorem dX12_putsBack_15 : decode cX12_putsBack 15 = .ok (.getfield 16, 3) := by decide +kernel
theorem dX12_putsBack_18 : decode cX12_putsBack 18 = .ok (.iload_n 1, 1) := by decide +kernel
theorem dX12_putsBack_19 : decode cX12_putsBack 19 = .ok (.iaload, 1) := by decide +kernel
theorem dX12_putsBack_20 : decode cX12_putsBack 20 = .ok (.iastore, 1) := by decide +kernel
theorem dX12_putsBack_21 : decode cX12_putsBack 21 = .ok (.iinc 1 1, 3) := by decide +kernel
theorem dX12_putsBack_24 : decode cX12_putsBack 24 = .ok (.goto (-22), 3) := by decide +kernel
theorem dX12_putsBack_27 : decode cX12_putsBack 27 = .ok (.return_, 1) := by decide +kernel
def fX11_all_0 (a0 : Nat) (a1 : Int32) (m : xMem) : Option (Int32 × xMem) := if a1 = (0 : Int32) then xLet (m.1 (a0 + 1) 12) fun x2 => some (x2, m) else if a1 = (1 : Int32) then xLet (m.1 (a0 + 1) 13) fun x4 => some (x4, m) else if a1 = (2 : Int32) then xLet (m.1 (a0 + 1) 14) fun x6 => some (x6, m) else if a1 = (3 : Int32) then xLet (m.1 (a0 + 1) 15) fun x8 => some (x8, m) else some ((-1 : Int32), m)
set_option maxRecDepth 4000 in
theorem fX11_all_0_ok {a0 : Nat} {a1 : Int32} {d : Nat} (hd : 0 ≤ d) (ha0 : isMS a0) {m : xMem} {r : (Int32 × xMem)} (h : fX11_all_0 a0 a1 m = some r) : xFx hh_201 cX11_all d 0 [some (.ref a0), some (.int a1)] [] (xLay m) 0 0 (some (.int r.1)) (xLay r.2) := by
  unfold fX11_all_0 at h
  refine fx_iload_n dX11_all_0 rfl rfl ?_
  by_cases hc1 : a1 = (0 : Int32)
  · rw [if_pos hc1] at h
    refine fx_tabIn (t := 32) dX11_all_1 rfl (by rw [hc1]; decide) (by rw [hc1]; decide) (by rw [hc1]; rfl) rfl ?_
    refine fx_aload_n dX11_all_32 rfl rfl ?_
    refine gx_getr dX11_all_33 rfl fd_11_10 ha0.1 rfl rfl ?_
    obtain ⟨x2, hx2, h⟩ := xLet_el h
    refine gx_get dX11_all_36 rfl fd_11_225 ha0.2.1.1 rfl rfl hx2 ?_
    cases h
    exact fx_ireturn dX11_all_39 rfl rfl
  · rw [if_neg hc1] at h
    by_cases hc3 : a1 = (1 : Int32)
    · rw [if_pos hc3] at h
      refine fx_tabIn (t := 40) dX11_all_1 rfl (by rw [hc3]; decide) (by rw [hc3]; decide) (by rw [hc3]; rfl) rfl ?_
      refine fx_aload_n dX11_all_40 rfl rfl ?_
      refine gx_getr dX11_all_41 rfl fd_11_10 ha0.1 rfl rfl ?_
      obtain ⟨x4, hx4, h⟩ := xLet_el h
      refine gx_get dX11_all_44 rfl fd_11_228 ha0.2.1.1 rfl rfl hx4 ?_
      cases h
      exact fx_ireturn dX11_all_47 rfl rfl
    · rw [if_neg hc3] at h
      by_cases hc5 : a1 = (2 : Int32)
      · rw [if_pos hc5] at h
        refine fx_tabIn (t := 48) dX11_all_1 rfl (by rw [hc5]; decide) (by rw [hc5]; decide) (by rw [hc5]; rfl) rfl ?_
        refine fx_aload_n dX11_all_48 rfl rfl ?_
        refine gx_getr dX11_all_49 rfl fd_11_10 ha0.1 rfl rfl ?_
        obtain ⟨x6, hx6, h⟩ := xLet_el h
        refine gx_get dX11_all_52 rfl fd_11_231 ha0.2.1.1 rfl rfl hx6 ?_
        cases h
        exact fx_ireturn dX11_all_55 rfl rfl
      · rw [if_neg hc5] at h
        by_cases hc7 : a1 = (3 : Int32)
        · rw [if_pos hc7] at h
          refine fx_tabIn (t := 56) dX11_all_1 rfl (by rw [hc7]; decide) (by rw [hc7]; decide) (by rw [hc7]; rfl) rfl ?_
          refine fx_aload_n dX11_all_56 rfl rfl ?_
          refine gx_getr dX11_all_57 rfl fd_11_10 ha0.1 rfl rfl ?_
          obtain ⟨x8, hx8, h⟩ := xLet_el h
          refine gx_get dX11_all_60 rfl fd_11_234 ha0.2.1.1 rfl rfl hx8 ?_
          cases h
          exact fx_ireturn dX11_all_63 rfl rfl
        · rw [if_neg hc7] at h
          have e0 : a1.toInt ≠ 0 := fun q => hc1 (Int32.toInt_inj.mp (q.trans (by decide)))
          have e1 : a1.toInt ≠ 1 := fun q => hc3 (Int32.toInt_inj.mp (q.trans (by decide)))
          have e2 : a1.toInt ≠ 2 := fun q => hc5 (Int32.toInt_inj.mp (q.trans (by decide)))
          have e3 : a1.toInt ≠ 3 := fun q => hc7 (Int32.toInt_inj.mp (q.trans (by decide)))
          refine fx_tabOut (t := 64) dX11_all_1 rfl (by omega) rfl ?_
          refine fx_iconst (x := -1) dX11_all_64 rfl (by decide) ?_
          cases h
          exact fx_ireturn dX11_all_65 rfl rfl
def fX11_all (a0 : Nat) (a1 : Int32) (m : xMem) : Option (Int32 × xMem) := fX11_all_0 a0 a1  m
theorem fX11_all_ok {a0 : Nat} {a1 : Int32} {m : xMem} {r : (Int32 × xMem)} {d : Nat} (hd : 1 ≤ d) (ha0 : isMS a0) (h : fX11_all a0 a1 m = some r) : xEx d 201 [.ref a0, .int a1] (xLay m) (some (.int r.1)) (xLay r.2) := by
  obtain ⟨d, rfl⟩ : ∃ q, d = q + 1 := ⟨d - 1, by omega⟩
  exact xEx_of me_201 rfl (fX11_all_0_ok (d := d) (by omega) ha0 h)
def fX12_all_22 (a0 : Nat) (a1 : Int32) (s0 : Int32) (m : xMem) : Option (Int32 × xMem) := some (s0, m)
set_option maxRecDepth 4000 in
theorem fX12_all_22_ok {a0 : Nat} {a1 : Int32} {d : Nat} (hd : 1 ≤ d) (ha0 : isModel a0) {s0 : Int32} {m : xMem} {r : (Int32 × xMem)} (h : fX12_all_22 a0 a1 s0 m = some r) : xFx hh_202 cX12_all d 22 [some (.ref a0), some (.int a1)] [.int s0] (xLay m) 0 0 (some (.int r.1)) (xLay r.2) := by
  unfold fX12_all_22 at h
  cases h
  exact fx_ireturn dX12_all_22 rfl rfl
def fX12_all_0 (a0 : Nat) (a1 : Int32) (m : xMem) : Option (Int32 × xMem) := (fX12_in a1 (0 : Int32) (3 : Int32) m).bind fun p1 => if p1.1 = (0 : Int32) then fX12_all_22 a0 a1 (-1 : Int32) p1.2 else xLet ((9 : Int32) + a1) fun x3 => bif xIn x3 1610 then xLet (p1.2.1 (a0 + 1) x3.toNatClampNeg) fun x4 => fX12_all_22 a0 a1 x4 p1.2 else none
set_option maxRecDepth 4000 in
theorem fX12_all_0_ok {a0 : Nat} {a1 : Int32} {d : Nat} (hd : 1 ≤ d) (ha0 : isModel a0) {m : xMem} {r : (Int32 × xMem)} (h : fX12_all_0 a0 a1 m = some r) : xFx hh_202 cX12_all d 0 [some (.ref a0), some (.int a1)] [] (xLay m) 0 0 (some (.int r.1)) (xLay r.2) := by
  unfold fX12_all_0 at h
  refine fx_iload_n dX12_all_0 rfl rfl ?_
  refine fx_iconst (x := 0) dX12_all_1 rfl (by decide) ?_
  refine fx_iconst (x := 3) dX12_all_2 rfl (by decide) ?_
  obtain ⟨p1, ep1, h⟩ := xBind_el h
  refine gx_calls (as := [.int a1, .int (0 : Int32), .int (3 : Int32)]) (r := []) rfl dX12_all_3 ca_12_95 rfl me_18 rfl rfl rfl rfl (fX12_in_ok (d := d) (by omega) ep1) rfl rfl ?_
  refine fx_if_eq (t := 21) dX12_all_6 rfl rfl (fun hc2 => ?_) (fun hc2 => ?_)
  · rw [if_pos hc2] at h
    refine fx_iconst (x := -1) dX12_all_21 rfl (by decide) ?_
    exact fX12_all_22_ok hd ha0 h
  · rw [if_neg hc2] at h
    refine fx_aload_n dX12_all_9 rfl rfl ?_
    refine gx_getr dX12_all_10 rfl fd_12_7 ha0.1 rfl rfl ?_
    refine fx_bipush (x := 9) dX12_all_13 rfl (by decide) ?_
    refine fx_iload_n dX12_all_15 rfl rfl ?_
    obtain ⟨x3, hx3, h⟩ := xLet_el h
    refine fx_iadd dX12_all_16 rfl hx3 ?_
    obtain ⟨hj5, h⟩ := xChk_el h
    obtain ⟨x4, hx4, h⟩ := xLet_el h
    refine gx_iaload dX12_all_17 rfl ha0.2.1 hj5 hx4 ?_
    refine fx_goto (t := 22) dX12_all_18 rfl rfl ?_
    exact fX12_all_22_ok hd ha0 h
def fX12_all (a0 : Nat) (a1 : Int32) (m : xMem) : Option (Int32 × xMem) := fX12_all_0 a0 a1  m
theorem fX12_all_ok {a0 : Nat} {a1 : Int32} {m : xMem} {r : (Int32 × xMem)} {d : Nat} (hd : 2 ≤ d) (ha0 : isModel a0) (h : fX12_all a0 a1 m = some r) : xEx d 202 [.ref a0, .int a1] (xLay m) (some (.int r.1)) (xLay r.2) := by
  obtain ⟨d, rfl⟩ : ∃ q, d = q + 1 := ⟨d - 1, by omega⟩
  exact xEx_of me_202 rfl (fX12_all_0_ok (d := d) (by omega) ha0 h)
def fJ6_bitCount_0f7a4_0  (l0 : Int32) (m : xMem) : Option (Int32 × xMem) := xLet ((l0.toUInt32 >>> ((1 : Int32).toUInt32 &&& Int32.toUInt32 31)).toInt32) fun x1 => xLet (x1 &&& (1431655765 : Int32)) fun x2 => xLet (l0 - x2) fun x3 => xLet (x3 &&& (858993459 : Int32)) fun x4 => xLet ((x3.toUInt32 >>> ((2 : Int32).toUInt32 &&& Int32.toUInt32 31)).toInt32) fun x5 => xLet (x5 &&& (858993459 : Int32)) fun x6 => xLet (x4 + x6) fun x7 => xLet ((x7.toUInt32 >>> ((4 : Int32).toUInt32 &&& Int32.toUInt32 31)).toInt32) fun x8 => xLet (x7 + x8) fun x9 => xLet (x9 &&& (252645135 : Int32)) fun x10 => xLet ((x10.toUInt32 >>> ((8 : Int32).toUInt32 &&& Int32.toUInt32 31)).toInt32) fun x11 => xLet (x10 + x11) fun x12 => xLet ((x12.toUInt32 >>> ((16 : Int32).toUInt32 &&& Int32.toUInt32 31)).toInt32) fun x13 => xLet (x12 + x13) fun x14 => xLet (x14 &&& (63 : Int32)) fun x15 => some (x15, m)
set_option maxRecDepth 4000 in
theorem fJ6_bitCount_0f7a4_0_ok  {d : Nat} (hd : 0 ≤ d)  {l0 : Int32} {m : xMem} {r : (Int32 × xMem)} (h : fJ6_bitCount_0f7a4_0  l0 m = some r) : xFx hh_205 cJ6_bitCount_0f7a4 d 0 [some (.int l0)] [] (xLay m) 0 0 (some (.int r.1)) (xLay r.2) := by
  unfold fJ6_bitCount_0f7a4_0 at h
  refine fx_iload_n dJ6_bitCount_0f7a4_0 rfl rfl ?_
  refine fx_iload_n dJ6_bitCount_0f7a4_1 rfl rfl ?_
  refine fx_iconst (x := 1) dJ6_bitCount_0f7a4_2 rfl (by decide) ?_
  obtain ⟨x1, hx1, h⟩ := xLet_el h
  refine fx_iushr dJ6_bitCount_0f7a4_3 rfl hx1 ?_
  refine fx_ldc_w dJ6_bitCount_0f7a4_4 rfl ck_26_265 ?_
  obtain ⟨x2, hx2, h⟩ := xLet_el h
  refine fx_iand dJ6_bitCount_0f7a4_7 rfl hx2 ?_
  obtain ⟨x3, hx3, h⟩ := xLet_el h
  refine fx_isub dJ6_bitCount_0f7a4_8 rfl hx3 ?_
  refine fx_istore_n (ls2 := [some (.int x3)]) dJ6_bitCount_0f7a4_9 rfl rfl rfl ?_
  refine fx_iload_n dJ6_bitCount_0f7a4_10 rfl rfl ?_
  refine fx_ldc_w dJ6_bitCount_0f7a4_11 rfl ck_26_266 ?_
  obtain ⟨x4, hx4, h⟩ := xLet_el h
  refine fx_iand dJ6_bitCount_0f7a4_14 rfl hx4 ?_
  refine fx_iload_n dJ6_bitCount_0f7a4_15 rfl rfl ?_
  refine fx_iconst (x := 2) dJ6_bitCount_0f7a4_16 rfl (by decide) ?_
  obtain ⟨x5, hx5, h⟩ := xLet_el h
  refine fx_iushr dJ6_bitCount_0f7a4_17 rfl hx5 ?_
  refine fx_ldc_w dJ6_bitCount_0f7a4_18 rfl ck_26_266 ?_
  obtain ⟨x6, hx6, h⟩ := xLet_el h
  refine fx_iand dJ6_bitCount_0f7a4_21 rfl hx6 ?_
  obtain ⟨x7, hx7, h⟩ := xLet_el h
  refine fx_iadd dJ6_bitCount_0f7a4_22 rfl hx7 ?_
  refine fx_istore_n (ls2 := [some (.int x7)]) dJ6_bitCount_0f7a4_23 rfl rfl rfl ?_
  refine fx_iload_n dJ6_bitCount_0f7a4_24 rfl rfl ?_
  refine fx_iload_n dJ6_bitCount_0f7a4_25 rfl rfl ?_
  refine fx_iconst (x := 4) dJ6_bitCount_0f7a4_26 rfl (by decide) ?_
  obtain ⟨x8, hx8, h⟩ := xLet_el h
  refine fx_iushr dJ6_bitCount_0f7a4_27 rfl hx8 ?_
  obtain ⟨x9, hx9, h⟩ := xLet_el h
  refine fx_iadd dJ6_bitCount_0f7a4_28 rfl hx9 ?_
  refine fx_ldc_w dJ6_bitCount_0f7a4_29 rfl ck_26_267 ?_
  obtain ⟨x10, hx10, h⟩ := xLet_el h
  refine fx_iand dJ6_bitCount_0f7a4_32 rfl hx10 ?_
  refine fx_istore_n (ls2 := [some (.int x10)]) dJ6_bitCount_0f7a4_33 rfl rfl rfl ?_
  refine fx_iload_n dJ6_bitCount_0f7a4_34 rfl rfl ?_
  refine fx_iload_n dJ6_bitCount_0f7a4_35 rfl rfl ?_
  refine fx_bipush (x := 8) dJ6_bitCount_0f7a4_36 rfl (by decide) ?_
  obtain ⟨x11, hx11, h⟩ := xLet_el h
  refine fx_iushr dJ6_bitCount_0f7a4_38 rfl hx11 ?_
  obtain ⟨x12, hx12, h⟩ := xLet_el h
  refine fx_iadd dJ6_bitCount_0f7a4_39 rfl hx12 ?_
  refine fx_istore_n (ls2 := [some (.int x12)]) dJ6_bitCount_0f7a4_40 rfl rfl rfl ?_
  refine fx_iload_n dJ6_bitCount_0f7a4_41 rfl rfl ?_
  refine fx_iload_n dJ6_bitCount_0f7a4_42 rfl rfl ?_
  refine fx_bipush (x := 16) dJ6_bitCount_0f7a4_43 rfl (by decide) ?_
  obtain ⟨x13, hx13, h⟩ := xLet_el h
  refine fx_iushr dJ6_bitCount_0f7a4_45 rfl hx13 ?_
  obtain ⟨x14, hx14, h⟩ := xLet_el h
  refine fx_iadd dJ6_bitCount_0f7a4_46 rfl hx14 ?_
  refine fx_istore_n (ls2 := [some (.int x14)]) dJ6_bitCount_0f7a4_47 rfl rfl rfl ?_
  refine fx_iload_n dJ6_bitCount_0f7a4_48 rfl rfl ?_
  refine fx_bipush (x := 63) dJ6_bitCount_0f7a4_49 rfl (by decide) ?_
  obtain ⟨x15, hx15, h⟩ := xLet_el h
  refine fx_iand dJ6_bitCount_0f7a4_51 rfl hx15 ?_
  cases h
  exact fx_ireturn dJ6_bitCount_0f7a4_52 rfl rfl
def fJ6_bitCount_0f7a4 (a0 : Int32) (m : xMem) : Option (Int32 × xMem) := fJ6_bitCount_0f7a4_0  a0 m
theorem fJ6_bitCount_0f7a4_ok {a0 : Int32} {m : xMem} {r : (Int32 × xMem)} {d : Nat} (hd : 1 ≤ d)  (h : fJ6_bitCount_0f7a4 a0 m = some r) : xEx d 205 [.int a0] (xLay m) (some (.int r.1)) (xLay r.2) := by
  obtain ⟨d, rfl⟩ : ∃ q, d = q + 1 := ⟨d - 1, by omega⟩
  exact xEx_of me_205 rfl (fJ6_bitCount_0f7a4_0_ok (d := d) (by omega) h)
def fX11_mayTurn_22 (a0 : Nat) (a1 : Int32) (m : xMem) : Option (Int32 × xMem) := some ((0 : Int32), m)
set_option maxRecDepth 4000 in
theorem fX11_mayTurn_22_ok {a0 : Nat} {a1 : Int32} {d : Nat} (hd : 2 ≤ d) (ha0 : isMS a0) {o2 : Option Value} {o3 : Option Value} {m : xMem} {r : (Int32 × xMem)} (q2 : xNoD o2 = true) (q3 : xNoD o3 = true) (h : fX11_mayTurn_22 a0 a1 m = some r) : xFx hh_204 cX11_mayTurn d 22 [some (.ref a0), some (.int a1), o2, o3] [] (xLay m) 0 0 (some (.int r.1)) (xLay r.2) := by
  unfold fX11_mayTurn_22 at h
  refine fx_iconst (x := 0) dX11_mayTurn_22 rfl (by decide) ?_
  cases h
  exact fx_ireturn dX11_mayTurn_23 rfl rfl
def fX11_mayTurn_54 (a0 : Nat) (a1 : Int32) (rec26 : Int32 → xMem → Option (Int32 × xMem)) (l3 : Int32) (m : xMem) : Option (Int32 × xMem) := xLet (l3 + (1 : Int32)) fun x1 => rec26 x1 m
set_option maxRecDepth 4000 in
theorem fX11_mayTurn_54_ok {a0 : Nat} {a1 : Int32} {rec26 : Int32 → xMem → Option (Int32 × xMem)} {d : Nat} (hd : 2 ≤ d) (ha0 : isMS a0) (hrec26 : ∀ (l3 : Int32) (o2 : Option Value) (q2 : xNoD o2 = true) (m : xMem) (r : (Int32 × xMem)), rec26 l3 m = some r → xFx hh_204 cX11_mayTurn d 26 [some (.ref a0), some (.int a1), o2, some (.int l3)] [] (xLay m) 0 0 (some (.int r.1)) (xLay r.2)) {l3 : Int32} {o2 : Option Value} {m : xMem} {r : (Int32 × xMem)} (q2 : xNoD o2 = true) (h : fX11_mayTurn_54 a0 a1 rec26 l3 m = some r) : xFx hh_204 cX11_mayTurn d 54 [some (.ref a0), some (.int a1), o2, some (.int l3)] [] (xLay m) 0 0 (some (.int r.1)) (xLay r.2) := by
  unfold fX11_mayTurn_54 at h
  obtain ⟨x1, hx1, h⟩ := xLet_el h
  refine fx_iinc (ls2 := [some (.ref a0), some (.int a1), o2, some (.int x1)]) dX11_mayTurn_54 rfl rfl (xGd (j := 2) rfl rfl q2 rfl) hx1 rfl ?_
  refine fx_goto (t := 26) dX11_mayTurn_57 rfl rfl ?_
  exact hrec26 x1 (o2) q2 m r h
def fX11_mayTurn_26 (a0 : Nat) (a1 : Int32) : Nat → Int32 → xMem → Option (Int32 × xMem)
  | 0, _, _ => none
  | fuel + 1, l3, m => if (10 : Int32) ≤ l3 then some ((1 : Int32), m) else xLet (a1 >>> (l3 &&& 31)) fun x2 => xLet (x2 &&& (1 : Int32)) fun x3 => if ¬ x3 = (1 : Int32) then fX11_mayTurn_54 a0 a1 (fX11_mayTurn_26 a0 a1 fuel) l3 m else (fX9_hasStepped (a0 + 1) l3 m).bind fun p5 => if ¬ p5.1 = (0 : Int32) then fX11_mayTurn_54 a0 a1 (fX11_mayTurn_26 a0 a1 fuel) l3 p5.2 else some ((0 : Int32), p5.2)
set_option maxRecDepth 4000 in
theorem fX11_mayTurn_26_ok {a0 : Nat} {a1 : Int32} {d : Nat} (hd : 2 ≤ d) (ha0 : isMS a0) : ∀ (fuel : Nat) (l3 : Int32) (o2 : Option Value) (q2 : xNoD o2 = true) (m : xMem) (r : (Int32 × xMem)), fX11_mayTurn_26 a0 a1 fuel l3 m = some r → xFx hh_204 cX11_mayTurn d 26 [some (.ref a0), some (.int a1), o2, some (.int l3)] [] (xLay m) 0 0 (some (.int r.1)) (xLay r.2) := by
  intro fuel
  induction fuel with
  | zero => intro l3 o2 q2 m r  h; cases h
  | succ fuel ih =>
    intro l3 o2 q2 m r  h
    unfold fX11_mayTurn_26 at h
    refine fx_iload_n dX11_mayTurn_26 rfl rfl ?_
    refine fx_bipush (x := 10) dX11_mayTurn_27 rfl (by decide) ?_
    refine fx_icmp_ge (t := 60) dX11_mayTurn_29 rfl rfl (fun hc1 => ?_) (fun hc1 => ?_)
    · rw [if_pos hc1] at h
      refine fx_iconst (x := 1) dX11_mayTurn_60 rfl (by decide) ?_
      cases h
      exact fx_ireturn dX11_mayTurn_61 rfl rfl
    · rw [if_neg hc1] at h
      refine fx_iload_n dX11_mayTurn_32 rfl rfl ?_
      refine fx_iload_n dX11_mayTurn_33 rfl rfl ?_
      obtain ⟨x2, hx2, h⟩ := xLet_el h
      refine fx_ishr dX11_mayTurn_34 rfl hx2 ?_
      refine fx_iconst (x := 1) dX11_mayTurn_35 rfl (by decide) ?_
      obtain ⟨x3, hx3, h⟩ := xLet_el h
      refine fx_iand dX11_mayTurn_36 rfl hx3 ?_
      refine fx_iconst (x := 1) dX11_mayTurn_37 rfl (by decide) ?_
      refine fx_icmp_ne (t := 54) dX11_mayTurn_38 rfl rfl (fun hc4 => ?_) (fun hc4 => ?_)
      · rw [if_pos hc4] at h
        exact fX11_mayTurn_54_ok (o2 := o2) hd ha0 ih q2 h
      · rw [if_neg hc4] at h
        refine fx_aload_n dX11_mayTurn_41 rfl rfl ?_
        refine gx_getr dX11_mayTurn_42 rfl fd_11_10 ha0.1 rfl rfl ?_
        refine fx_iload_n dX11_mayTurn_45 rfl rfl ?_
        obtain ⟨p5, ep5, h⟩ := xBind_el h
        refine gx_callv (as := [.int l3]) (r := []) rfl dX11_mayTurn_46 ca_11_84 rfl me_28 rfl rfl rfl rfl (ha0.2.1.1) rfl (fX9_hasStepped_ok (d := d) (by omega) ha0.2.1 ep5) rfl rfl ?_
        refine fx_if_ne (t := 54) dX11_mayTurn_49 rfl rfl (fun hc6 => ?_) (fun hc6 => ?_)
        · rw [if_pos hc6] at h
          exact fX11_mayTurn_54_ok (o2 := o2) hd ha0 ih q2 h
        · rw [if_neg hc6] at h
          refine fx_iconst (x := 0) dX11_mayTurn_52 rfl (by decide) ?_
          cases h
          exact fx_ireturn dX11_mayTurn_53 rfl rfl
def fX11_mayTurn_0 (a0 : Nat) (a1 : Int32) (m : xMem) : Option (Int32 × xMem) := (fJ6_bitCount_0f7a4 a1 m).bind fun p1 => if p1.1 < (1 : Int32) then fX11_mayTurn_22 a0 a1 p1.2 else if (5 : Int32) < p1.1 then fX11_mayTurn_22 a0 a1 p1.2 else xLet (a1 >>> ((10 : Int32) &&& 31)) fun x4 => if x4 = (0 : Int32) then fX11_mayTurn_26 a0 a1 xFuel (0 : Int32) p1.2 else fX11_mayTurn_22 a0 a1 p1.2
set_option maxRecDepth 4000 in
theorem fX11_mayTurn_0_ok {a0 : Nat} {a1 : Int32} {d : Nat} (hd : 2 ≤ d) (ha0 : isMS a0) {o2 : Option Value} {o3 : Option Value} {m : xMem} {r : (Int32 × xMem)} (q2 : xNoD o2 = true) (q3 : xNoD o3 = true) (h : fX11_mayTurn_0 a0 a1 m = some r) : xFx hh_204 cX11_mayTurn d 0 [some (.ref a0), some (.int a1), o2, o3] [] (xLay m) 0 0 (some (.int r.1)) (xLay r.2) := by
  unfold fX11_mayTurn_0 at h
  refine fx_iload_n dX11_mayTurn_0 rfl rfl ?_
  obtain ⟨p1, ep1, h⟩ := xBind_el h
  refine gx_calls (as := [.int a1]) (r := []) rfl dX11_mayTurn_1 ca_11_318 rfl me_205 rfl rfl rfl rfl (fJ6_bitCount_0f7a4_ok (d := d) (by omega) ep1) rfl rfl ?_
  refine fx_istore_n (ls2 := [some (.ref a0), some (.int a1), some (.int p1.1), o3]) dX11_mayTurn_4 rfl rfl rfl ?_
  refine fx_iload_n dX11_mayTurn_5 rfl rfl ?_
  refine fx_iconst (x := 1) dX11_mayTurn_6 rfl (by decide) ?_
  refine fx_icmp_lt (t := 22) dX11_mayTurn_7 rfl rfl (fun hc2 => ?_) (fun hc2 => ?_)
  · rw [if_pos hc2] at h
    exact fX11_mayTurn_22_ok (o2 := some (.int p1.1)) (o3 := o3) hd ha0 rfl q3 h
  · rw [if_neg hc2] at h
    refine fx_iload_n dX11_mayTurn_10 rfl rfl ?_
    refine fx_iconst (x := 5) dX11_mayTurn_11 rfl (by decide) ?_
    refine fx_icmp_gt (t := 22) dX11_mayTurn_12 rfl rfl (fun hc3 => ?_) (fun hc3 => ?_)
    · rw [if_pos hc3] at h
      exact fX11_mayTurn_22_ok (o2 := some (.int p1.1)) (o3 := o3) hd ha0 rfl q3 h
    · rw [if_neg hc3] at h
      refine fx_iload_n dX11_mayTurn_15 rfl rfl ?_
      refine fx_bipush (x := 10) dX11_mayTurn_16 rfl (by decide) ?_
      obtain ⟨x4, hx4, h⟩ := xLet_el h
      refine fx_ishr dX11_mayTurn_18 rfl hx4 ?_
      refine fx_if_eq (t := 24) dX11_mayTurn_19 rfl rfl (fun hc5 => ?_) (fun hc5 => ?_)
      · rw [if_pos hc5] at h
        refine fx_iconst (x := 0) dX11_mayTurn_24 rfl (by decide) ?_
        refine fx_istore_n (ls2 := [some (.ref a0), some (.int a1), some (.int p1.1), some (.int (0 : Int32))]) dX11_mayTurn_25 rfl rfl rfl ?_
        exact fX11_mayTurn_26_ok hd ha0 xFuel (0 : Int32) (some (.int p1.1)) rfl p1.2 r h
      · rw [if_neg hc5] at h
        exact fX11_mayTurn_22_ok (o2 := some (.int p1.1)) (o3 := o3) hd ha0 rfl q3 h
def fX11_mayTurn (a0 : Nat) (a1 : Int32) (m : xMem) : Option (Int32 × xMem) := fX11_mayTurn_0 a0 a1  m
theorem fX11_mayTurn_ok {a0 : Nat} {a1 : Int32} {m : xMem} {r : (Int32 × xMem)} {d : Nat} (hd : 3 ≤ d) (ha0 : isMS a0) (h : fX11_mayTurn a0 a1 m = some r) : xEx d 204 [.ref a0, .int a1] (xLay m) (some (.int r.1)) (xLay r.2) := by
  obtain ⟨d, rfl⟩ : ∃ q, d = q + 1 := ⟨d - 1, by omega⟩
  exact xEx_of me_204 rfl (fX11_mayTurn_0_ok (d := d) (o2 := none) (o3 := none) (by omega) ha0 rfl rfl h)
def fX2_copy_0 (a0 : Nat) (a1 : Nat) (m : xMem) : Option xMem := xLet (m.1 a1 2) fun x1 => xLet (xPut m a0 2 x1) fun m2 => xLet (m2.1 a1 3) fun x3 => xLet (xPut m2 a0 3 x3) fun m4 => xLet (m4.1 a1 4) fun x5 => xLet (xPut m4 a0 4 x5) fun m6 => xLet (m6.1 a1 5) fun x7 => xLet (xPut m6 a0 5 x7) fun m8 => xLet (m8.1 a1 6) fun x9 => xLet (xPut m8 a0 6 x9) fun m10 => xLet (m10.1 a1 7) fun x11 => xLet (xPut m10 a0 7 x11) fun m12 => xLet (m12.1 a1 8) fun x13 => bif (decide (x13 = 0) || decide (x13 = 1)) then xLet (xPut m12 a0 8 x13) fun m14 => xLet (xCpy m14 (a1 + 1) (a0 + 1) 0 0 12) fun m16 => xLet (xCpy m16 (a1 + 2) (a0 + 2) 0 0 12) fun m17 => some m17 else none
set_option maxRecDepth 4000 in
theorem fX2_copy_0_ok {a0 : Nat} {a1 : Nat} {d : Nat} (hd : 0 ≤ d) (ha0 : isHall a0) (ha1 : isHall a1) {m : xMem} {r : xMem} (h : fX2_copy_0 a0 a1 m = some r) : xFx hh_209 cX2_copy d 0 [some (.ref a0), some (.ref a1)] [] (xLay m) 0 0 none (xLay r) := by
  unfold fX2_copy_0 at h
  refine fx_aload_n dX2_copy_0 rfl rfl ?_
  refine fx_aload_n dX2_copy_1 rfl rfl ?_
  obtain ⟨x1, hx1, h⟩ := xLet_el h
  refine gx_get dX2_copy_2 rfl fd_2_18 ha1.1 rfl rfl hx1 ?_
  obtain ⟨m2, hm2, h⟩ := xLet_el h
  refine gx_put dX2_copy_5 rfl fd_2_18 ha0.1 rfl rfl rfl hm2 ?_
  refine fx_aload_n dX2_copy_8 rfl rfl ?_
  refine fx_aload_n dX2_copy_9 rfl rfl ?_
  obtain ⟨x3, hx3, h⟩ := xLet_el h
  refine gx_get dX2_copy_10 rfl fd_2_22 ha1.1 rfl rfl hx3 ?_
  obtain ⟨m4, hm4, h⟩ := xLet_el h
  refine gx_put dX2_copy_13 rfl fd_2_22 ha0.1 rfl rfl rfl hm4 ?_
  refine fx_aload_n dX2_copy_16 rfl rfl ?_
  refine fx_aload_n dX2_copy_17 rfl rfl ?_
  obtain ⟨x5, hx5, h⟩ := xLet_el h
  refine gx_get dX2_copy_18 rfl fd_2_25 ha1.1 rfl rfl hx5 ?_
  obtain ⟨m6, hm6, h⟩ := xLet_el h
  refine gx_put dX2_copy_21 rfl fd_2_25 ha0.1 rfl rfl rfl hm6 ?_
  refine fx_aload_n dX2_copy_24 rfl rfl ?_
  refine fx_aload_n dX2_copy_25 rfl rfl ?_
  obtain ⟨x7, hx7, h⟩ := xLet_el h
  refine gx_get dX2_copy_26 rfl fd_2_28 ha1.1 rfl rfl hx7 ?_
  obtain ⟨m8, hm8, h⟩ := xLet_el h
  refine gx_put dX2_copy_29 rfl fd_2_28 ha0.1 rfl rfl rfl hm8 ?_
  refine fx_aload_n dX2_copy_32 rfl rfl ?_
  refine fx_aload_n dX2_copy_33 rfl rfl ?_
  obtain ⟨x9, hx9, h⟩ := xLet_el h
  refine gx_get dX2_copy_34 rfl fd_2_31 ha1.1 rfl rfl hx9 ?_
  obtain ⟨m10, hm10, h⟩ := xLet_el h
  refine gx_put dX2_copy_37 rfl fd_2_31 ha0.1 rfl rfl rfl hm10 ?_
  refine fx_aload_n dX2_copy_40 rfl rfl ?_
  refine fx_aload_n dX2_copy_41 rfl rfl ?_
  obtain ⟨x11, hx11, h⟩ := xLet_el h
  refine gx_get dX2_copy_42 rfl fd_2_34 ha1.1 rfl rfl hx11 ?_
  obtain ⟨m12, hm12, h⟩ := xLet_el h
  refine gx_put dX2_copy_45 rfl fd_2_34 ha0.1 rfl rfl rfl hm12 ?_
  refine fx_aload_n dX2_copy_48 rfl rfl ?_
  refine fx_aload_n dX2_copy_49 rfl rfl ?_
  obtain ⟨x13, hx13, h⟩ := xLet_el h
  refine gx_get dX2_copy_50 rfl fd_2_37 ha1.1 rfl rfl hx13 ?_
  obtain ⟨hb15, h⟩ := xChk_el h
  obtain ⟨m14, hm14, h⟩ := xLet_el h
  refine gx_put dX2_copy_53 rfl fd_2_37 ha0.1 rfl rfl (by show ((decide _ || decide _) && _) = true; rw [hb15]; rfl) hm14 ?_
  refine fx_aload_n dX2_copy_56 rfl rfl ?_
  refine gx_getr dX2_copy_57 rfl fd_2_9 ha1.1 rfl rfl ?_
  refine fx_iconst (x := 0) dX2_copy_60 rfl (by decide) ?_
  refine fx_aload_n dX2_copy_61 rfl rfl ?_
  refine gx_getr dX2_copy_62 rfl fd_2_9 ha0.1 rfl rfl ?_
  refine fx_iconst (x := 0) dX2_copy_65 rfl (by decide) ?_
  refine fx_aload_n dX2_copy_66 rfl rfl ?_
  refine gx_getr dX2_copy_67 rfl fd_2_9 ha0.1 rfl rfl ?_
  refine gx_alen (t := 1) (y := 12) dX2_copy_70 rfl ha0.2.1 rfl (by decide) ?_
  obtain ⟨m16, hm16, h⟩ := xLet_el h
  refine gx_copy dX2_copy_71 rfl ca_2_47 rfl ha1.2.1 ha0.2.1 (by decide) hm16 ?_
  refine fx_aload_n dX2_copy_74 rfl rfl ?_
  refine gx_getr dX2_copy_75 rfl fd_2_15 ha1.1 rfl rfl ?_
  refine fx_iconst (x := 0) dX2_copy_78 rfl (by decide) ?_
  refine fx_aload_n dX2_copy_79 rfl rfl ?_
  refine gx_getr dX2_copy_80 rfl fd_2_15 ha0.1 rfl rfl ?_
  refine fx_iconst (x := 0) dX2_copy_83 rfl (by decide) ?_
  refine fx_aload_n dX2_copy_84 rfl rfl ?_
  refine gx_getr dX2_copy_85 rfl fd_2_15 ha0.1 rfl rfl ?_
  refine gx_alen (t := 1) (y := 12) dX2_copy_88 rfl ha0.2.2 rfl (by decide) ?_
  obtain ⟨m17, hm17, h⟩ := xLet_el h
  refine gx_copy dX2_copy_89 rfl ca_2_47 rfl ha1.2.2 ha0.2.2 (by decide) hm17 ?_
  cases h
  exact fx_return dX2_copy_92 rfl rfl
def fX2_copy (a0 : Nat) (a1 : Nat) (m : xMem) : Option xMem := fX2_copy_0 a0 a1  m
theorem fX2_copy_ok {a0 : Nat} {a1 : Nat} {m : xMem} {r : xMem} {d : Nat} (hd : 1 ≤ d) (ha0 : isHall a0) (ha1 : isHall a1) (h : fX2_copy a0 a1 m = some r) : xEx d 209 [.ref a0, .ref a1] (xLay m) none (xLay r) := by
  obtain ⟨d, rfl⟩ : ∃ q, d = q + 1 := ⟨d - 1, by omega⟩
  exact xEx_of me_209 rfl (fX2_copy_0_ok (d := d) (by omega) ha0 ha1 h)
def fX3_copy_0 (a0 : Nat) (a1 : Nat) (m : xMem) : Option xMem := xLet (m.1 a1 1) fun x1 => xLet (xPut m a0 1 x1) fun m2 => xLet (m2.1 a1 2) fun x3 => xLet (xPut m2 a0 2 x3) fun m4 => xLet (m4.1 a1 3) fun x5 => xLet (xPut m4 a0 3 x5) fun m6 => xLet (m6.1 a1 4) fun x7 => xLet (xPut m6 a0 4 x7) fun m8 => xLet (m8.1 a1 5) fun x9 => xLet (xPut m8 a0 5 x9) fun m10 => xLet (m10.1 a1 6) fun x11 => xLet (xPut m10 a0 6 x11) fun m12 => xLet (m12.1 a1 7) fun x13 => xLet (xPut m12 a0 7 x13) fun m14 => xLet (m14.1 a1 8) fun x15 => xLet (xPut m14 a0 8 x15) fun m16 => xLet (m16.1 a1 9) fun x17 => xLet (xPut m16 a0 9 x17) fun m18 => xLet (m18.1 a1 10) fun x19 => xLet (xPut m18 a0 10 x19) fun m20 => xLet (m20.1 a1 11) fun x21 => xLet (xPut m20 a0 11 x21) fun m22 => xLet (m22.1 a1 12) fun x23 => bif (decide (x23 = 0) || decide (x23 = 1)) then xLet (xPut m22 a0 12 x23) fun m24 => xLet (m24.1 a1 13) fun x26 => bif (decide (x26 = 0) || decide (x26 = 1)) then xLet (xPut m24 a0 13 x26) fun m27 => xLet (xCpy m27 (a1 + 1) (a0 + 1) 0 0 80) fun m29 => some m29 else none else none
set_option maxRecDepth 4000 in
theorem fX3_copy_0_ok {a0 : Nat} {a1 : Nat} {d : Nat} (hd : 0 ≤ d) (ha0 : isLink a0) (ha1 : isLink a1) {m : xMem} {r : xMem} (h : fX3_copy_0 a0 a1 m = some r) : xFx hh_210 cX3_copy d 0 [some (.ref a0), some (.ref a1)] [] (xLay m) 0 0 none (xLay r) := by
  unfold fX3_copy_0 at h
  refine fx_aload_n dX3_copy_0 rfl rfl ?_
  refine fx_aload_n dX3_copy_1 rfl rfl ?_
  obtain ⟨x1, hx1, h⟩ := xLet_el h
  refine gx_get dX3_copy_2 rfl fd_3_15 ha1.1 rfl rfl hx1 ?_
  obtain ⟨m2, hm2, h⟩ := xLet_el h
  refine gx_put dX3_copy_5 rfl fd_3_15 ha0.1 rfl rfl rfl hm2 ?_
  refine fx_aload_n dX3_copy_8 rfl rfl ?_
  refine fx_aload_n dX3_copy_9 rfl rfl ?_
  obtain ⟨x3, hx3, h⟩ := xLet_el h
  refine gx_get dX3_copy_10 rfl fd_3_19 ha1.1 rfl rfl hx3 ?_
  obtain ⟨m4, hm4, h⟩ := xLet_el h
  refine gx_put dX3_copy_13 rfl fd_3_19 ha0.1 rfl rfl rfl hm4 ?_
  refine fx_aload_n dX3_copy_16 rfl rfl ?_
  refine fx_aload_n dX3_copy_17 rfl rfl ?_
  obtain ⟨x5, hx5, h⟩ := xLet_el h
  refine gx_get dX3_copy_18 rfl fd_3_22 ha1.1 rfl rfl hx5 ?_
  obtain ⟨m6, hm6, h⟩ := xLet_el h
  refine gx_put dX3_copy_21 rfl fd_3_22 ha0.1 rfl rfl rfl hm6 ?_
  refine fx_aload_n dX3_copy_24 rfl rfl ?_
  refine fx_aload_n dX3_copy_25 rfl rfl ?_
  obtain ⟨x7, hx7, h⟩ := xLet_el h
  refine gx_get dX3_copy_26 rfl fd_3_25 ha1.1 rfl rfl hx7 ?_
  obtain ⟨m8, hm8, h⟩ := xLet_el h
  refine gx_put dX3_copy_29 rfl fd_3_25 ha0.1 rfl rfl rfl hm8 ?_
  refine fx_aload_n dX3_copy_32 rfl rfl ?_
  refine fx_aload_n dX3_copy_33 rfl rfl ?_
  obtain ⟨x9, hx9, h⟩ := xLet_el h
  refine gx_get dX3_copy_34 rfl fd_3_28 ha1.1 rfl rfl hx9 ?_
  obtain ⟨m10, hm10, h⟩ := xLet_el h
  refine gx_put dX3_copy_37 rfl fd_3_28 ha0.1 rfl rfl rfl hm10 ?_
  refine fx_aload_n dX3_copy_40 rfl rfl ?_
  refine fx_aload_n dX3_copy_41 rfl rfl ?_
  obtain ⟨x11, hx11, h⟩ := xLet_el h
  refine gx_get dX3_copy_42 rfl fd_3_31 ha1.1 rfl rfl hx11 ?_
  obtain ⟨m12, hm12, h⟩ := xLet_el h
  refine gx_put dX3_copy_45 rfl fd_3_31 ha0.1 rfl rfl rfl hm12 ?_
  refine fx_aload_n dX3_copy_48 rfl rfl ?_
  refine fx_aload_n dX3_copy_49 rfl rfl ?_
  obtain ⟨x13, hx13, h⟩ := xLet_el h
  refine gx_get dX3_copy_50 rfl fd_3_34 ha1.1 rfl rfl hx13 ?_
  obtain ⟨m14, hm14, h⟩ := xLet_el h
  refine gx_put dX3_copy_53 rfl fd_3_34 ha0.1 rfl rfl rfl hm14 ?_
  refine fx_aload_n dX3_copy_56 rfl rfl ?_
  refine fx_aload_n dX3_copy_57 rfl rfl ?_
  obtain ⟨x15, hx15, h⟩ := xLet_el h
  refine gx_get dX3_copy_58 rfl fd_3_37 ha1.1 rfl rfl hx15 ?_
  obtain ⟨m16, hm16, h⟩ := xLet_el h
  refine gx_put dX3_copy_61 rfl fd_3_37 ha0.1 rfl rfl rfl hm16 ?_
  refine fx_aload_n dX3_copy_64 rfl rfl ?_
  refine fx_aload_n dX3_copy_65 rfl rfl ?_
  obtain ⟨x17, hx17, h⟩ := xLet_el h
  refine gx_get dX3_copy_66 rfl fd_3_40 ha1.1 rfl rfl hx17 ?_
  obtain ⟨m18, hm18, h⟩ := xLet_el h
  refine gx_put dX3_copy_69 rfl fd_3_40 ha0.1 rfl rfl rfl hm18 ?_
  refine fx_aload_n dX3_copy_72 rfl rfl ?_
  refine fx_aload_n dX3_copy_73 rfl rfl ?_
  obtain ⟨x19, hx19, h⟩ := xLet_el h
  refine gx_get dX3_copy_74 rfl fd_3_43 ha1.1 rfl rfl hx19 ?_
  obtain ⟨m20, hm20, h⟩ := xLet_el h
  refine gx_put dX3_copy_77 rfl fd_3_43 ha0.1 rfl rfl rfl hm20 ?_
  refine fx_aload_n dX3_copy_80 rfl rfl ?_
  refine fx_aload_n dX3_copy_81 rfl rfl ?_
  obtain ⟨x21, hx21, h⟩ := xLet_el h
  refine gx_get dX3_copy_82 rfl fd_3_46 ha1.1 rfl rfl hx21 ?_
  obtain ⟨m22, hm22, h⟩ := xLet_el h
  refine gx_put dX3_copy_85 rfl fd_3_46 ha0.1 rfl rfl rfl hm22 ?_
  refine fx_aload_n dX3_copy_88 rfl rfl ?_
  refine fx_aload_n dX3_copy_89 rfl rfl ?_
  obtain ⟨x23, hx23, h⟩ := xLet_el h
  refine gx_get dX3_copy_90 rfl fd_3_49 ha1.1 rfl rfl hx23 ?_
  obtain ⟨hb25, h⟩ := xChk_el h
  obtain ⟨m24, hm24, h⟩ := xLet_el h
  refine gx_put dX3_copy_93 rfl fd_3_49 ha0.1 rfl rfl (by show ((decide _ || decide _) && _) = true; rw [hb25]; rfl) hm24 ?_
  refine fx_aload_n dX3_copy_96 rfl rfl ?_
  refine fx_aload_n dX3_copy_97 rfl rfl ?_
  obtain ⟨x26, hx26, h⟩ := xLet_el h
  refine gx_get dX3_copy_98 rfl fd_3_53 ha1.1 rfl rfl hx26 ?_
  obtain ⟨hb28, h⟩ := xChk_el h
  obtain ⟨m27, hm27, h⟩ := xLet_el h
  refine gx_put dX3_copy_101 rfl fd_3_53 ha0.1 rfl rfl (by show ((decide _ || decide _) && _) = true; rw [hb28]; rfl) hm27 ?_
  refine fx_aload_n dX3_copy_104 rfl rfl ?_
  refine gx_getr dX3_copy_105 rfl fd_3_9 ha1.1 rfl rfl ?_
  refine fx_iconst (x := 0) dX3_copy_108 rfl (by decide) ?_
  refine fx_aload_n dX3_copy_109 rfl rfl ?_
  refine gx_getr dX3_copy_110 rfl fd_3_9 ha0.1 rfl rfl ?_
  refine fx_iconst (x := 0) dX3_copy_113 rfl (by decide) ?_
  refine fx_aload_n dX3_copy_114 rfl rfl ?_
  refine gx_getr dX3_copy_115 rfl fd_3_9 ha0.1 rfl rfl ?_
  refine gx_alen (t := 1) (y := 80) dX3_copy_118 rfl ha0.2 rfl (by decide) ?_
  obtain ⟨m29, hm29, h⟩ := xLet_el h
  refine gx_copy dX3_copy_119 rfl ca_3_62 rfl ha1.2 ha0.2 (by decide) hm29 ?_
  cases h
  exact fx_return dX3_copy_122 rfl rfl
def fX3_copy (a0 : Nat) (a1 : Nat) (m : xMem) : Option xMem := fX3_copy_0 a0 a1  m
theorem fX3_copy_ok {a0 : Nat} {a1 : Nat} {m : xMem} {r : xMem} {d : Nat} (hd : 1 ≤ d) (ha0 : isLink a0) (ha1 : isLink a1) (h : fX3_copy a0 a1 m = some r) : xEx d 210 [.ref a0, .ref a1] (xLay m) none (xLay r) := by
  obtain ⟨d, rfl⟩ : ∃ q, d = q + 1 := ⟨d - 1, by omega⟩
  exact xEx_of me_210 rfl (fX3_copy_0_ok (d := d) (by omega) ha0 ha1 h)
def fX0_copy_0 (a0 : Nat) (a1 : Nat) (m : xMem) : Option xMem := xLet (m.1 a1 0) fun x1 => xLet (xPut m a0 0 x1) fun m2 => xLet (m2.1 a1 1) fun x3 => xLet (xPut m2 a0 1 x3) fun m4 => xLet (m4.1 a1 2) fun x5 => xLet (xPut m4 a0 2 x5) fun m6 => xLet (m6.1 a1 3) fun x7 => xLet (xPut m6 a0 3 x7) fun m8 => xLet (m8.1 a1 4) fun x9 => xLet (xPut m8 a0 4 x9) fun m10 => xLet (m10.1 a1 5) fun x11 => xLet (xPut m10 a0 5 x11) fun m12 => xLet (m12.1 a1 6) fun x13 => bif (decide (x13 = 0) || decide (x13 = 1)) then xLet (xPut m12 a0 6 x13) fun m14 => some m14 else none
set_option maxRecDepth 4000 in
theorem fX0_copy_0_ok {a0 : Nat} {a1 : Nat} {d : Nat} (hd : 0 ≤ d) (ha0 : isBurst a0) (ha1 : isBurst a1) {m : xMem} {r : xMem} (h : fX0_copy_0 a0 a1 m = some r) : xFx hh_211 cX0_copy d 0 [some (.ref a0), some (.ref a1)] [] (xLay m) 0 0 none (xLay r) := by
  unfold fX0_copy_0 at h
  refine fx_aload_n dX0_copy_0 rfl rfl ?_
  refine fx_aload_n dX0_copy_1 rfl rfl ?_
  obtain ⟨x1, hx1, h⟩ := xLet_el h
  refine gx_get dX0_copy_2 rfl fd_0_7 ha1 rfl rfl hx1 ?_
  obtain ⟨m2, hm2, h⟩ := xLet_el h
  refine gx_put dX0_copy_5 rfl fd_0_7 ha0 rfl rfl rfl hm2 ?_
  refine fx_aload_n dX0_copy_8 rfl rfl ?_
  refine fx_aload_n dX0_copy_9 rfl rfl ?_
  obtain ⟨x3, hx3, h⟩ := xLet_el h
  refine gx_get dX0_copy_10 rfl fd_0_13 ha1 rfl rfl hx3 ?_
  obtain ⟨m4, hm4, h⟩ := xLet_el h
  refine gx_put dX0_copy_13 rfl fd_0_13 ha0 rfl rfl rfl hm4 ?_
  refine fx_aload_n dX0_copy_16 rfl rfl ?_
  refine fx_aload_n dX0_copy_17 rfl rfl ?_
  obtain ⟨x5, hx5, h⟩ := xLet_el h
  refine gx_get dX0_copy_18 rfl fd_0_16 ha1 rfl rfl hx5 ?_
  obtain ⟨m6, hm6, h⟩ := xLet_el h
  refine gx_put dX0_copy_21 rfl fd_0_16 ha0 rfl rfl rfl hm6 ?_
  refine fx_aload_n dX0_copy_24 rfl rfl ?_
  refine fx_aload_n dX0_copy_25 rfl rfl ?_
  obtain ⟨x7, hx7, h⟩ := xLet_el h
  refine gx_get dX0_copy_26 rfl fd_0_19 ha1 rfl rfl hx7 ?_
  obtain ⟨m8, hm8, h⟩ := xLet_el h
  refine gx_put dX0_copy_29 rfl fd_0_19 ha0 rfl rfl rfl hm8 ?_
  refine fx_aload_n dX0_copy_32 rfl rfl ?_
  refine fx_aload_n dX0_copy_33 rfl rfl ?_
  obtain ⟨x9, hx9, h⟩ := xLet_el h
  refine gx_get dX0_copy_34 rfl fd_0_22 ha1 rfl rfl hx9 ?_
  obtain ⟨m10, hm10, h⟩ := xLet_el h
  refine gx_put dX0_copy_37 rfl fd_0_22 ha0 rfl rfl rfl hm10 ?_
  refine fx_aload_n dX0_copy_40 rfl rfl ?_
  refine fx_aload_n dX0_copy_41 rfl rfl ?_
  obtain ⟨x11, hx11, h⟩ := xLet_el h
  refine gx_get dX0_copy_42 rfl fd_0_25 ha1 rfl rfl hx11 ?_
  obtain ⟨m12, hm12, h⟩ := xLet_el h
  refine gx_put dX0_copy_45 rfl fd_0_25 ha0 rfl rfl rfl hm12 ?_
  refine fx_aload_n dX0_copy_48 rfl rfl ?_
  refine fx_aload_n dX0_copy_49 rfl rfl ?_
  obtain ⟨x13, hx13, h⟩ := xLet_el h
  refine gx_get dX0_copy_50 rfl fd_0_28 ha1 rfl rfl hx13 ?_
  obtain ⟨hb15, h⟩ := xChk_el h
  obtain ⟨m14, hm14, h⟩ := xLet_el h
  refine gx_put dX0_copy_53 rfl fd_0_28 ha0 rfl rfl (by show ((decide _ || decide _) && _) = true; rw [hb15]; rfl) hm14 ?_
  cases h
  exact fx_return dX0_copy_56 rfl rfl
def fX0_copy (a0 : Nat) (a1 : Nat) (m : xMem) : Option xMem := fX0_copy_0 a0 a1  m
theorem fX0_copy_ok {a0 : Nat} {a1 : Nat} {m : xMem} {r : xMem} {d : Nat} (hd : 1 ≤ d) (ha0 : isBurst a0) (ha1 : isBurst a1) (h : fX0_copy a0 a1 m = some r) : xEx d 211 [.ref a0, .ref a1] (xLay m) none (xLay r) := by
  obtain ⟨d, rfl⟩ : ∃ q, d = q + 1 := ⟨d - 1, by omega⟩
  exact xEx_of me_211 rfl (fX0_copy_0_ok (d := d) (by omega) ha0 ha1 h)
def fX9_copyMoving_175 (a0 : Nat) (a1 : Nat) (m : xMem) : Option xMem := some m
set_option maxRecDepth 4000 in
theorem fX9_copyMoving_175_ok {a0 : Nat} {a1 : Nat} {d : Nat} (hd : 1 ≤ d) (ha0 : isStation a0) (ha1 : isStation a1) {o2 : Option Value} {m : xMem} {r : xMem} (q2 : xNoD o2 = true) (h : fX9_copyMoving_175 a0 a1 m = some r) : xFx hh_208 cX9_copyMoving d 175 [some (.ref a0), some (.ref a1), o2] [] (xLay m) 0 0 none (xLay r) := by
  unfold fX9_copyMoving_175 at h
  cases h
  exact fx_return dX9_copyMoving_175 rfl rfl
def fX9_copyMoving_140 (a0 : Nat) (a1 : Nat) : Nat → Int32 → xMem → Option xMem
  | 0, _, _ => none
  | fuel + 1, l2, m => xLet (m.1 a0 9) fun x1 => if x1 ≤ l2 then fX9_copyMoving_175 a0 a1 m else if (30 : Int32) ≤ l2 then fX9_copyMoving_175 a0 a1 m else bif xIn l2 30 then xLet (a0 + 53 + 1 * l2.toNatClampNeg) fun r5 => bif xIn l2 30 then xLet (a1 + 53 + 1 * l2.toNatClampNeg) fun r7 => (fX0_copy r5 r7 m).bind fun p8 => xLet (l2 + (1 : Int32)) fun x9 => fX9_copyMoving_140 a0 a1 fuel x9 p8 else none else none
set_option maxRecDepth 4000 in
theorem fX9_copyMoving_140_ok {a0 : Nat} {a1 : Nat} {d : Nat} (hd : 1 ≤ d) (ha0 : isStation a0) (ha1 : isStation a1) : ∀ (fuel : Nat) (l2 : Int32) (m : xMem) (r : xMem), fX9_copyMoving_140 a0 a1 fuel l2 m = some r → xFx hh_208 cX9_copyMoving d 140 [some (.ref a0), some (.ref a1), some (.int l2)] [] (xLay m) 0 0 none (xLay r) := by
  intro fuel
  induction fuel with
  | zero => intro l2  m r  h; cases h
  | succ fuel ih =>
    intro l2  m r  h
    unfold fX9_copyMoving_140 at h
    refine fx_iload_n dX9_copyMoving_140 rfl rfl ?_
    refine fx_aload_n dX9_copyMoving_141 rfl rfl ?_
    obtain ⟨x1, hx1, h⟩ := xLet_el h
    refine gx_get dX9_copyMoving_142 rfl fd_9_110 ha0.1 rfl rfl hx1 ?_
    refine fx_icmp_ge (t := 175) dX9_copyMoving_145 rfl rfl (fun hc2 => ?_) (fun hc2 => ?_)
    · rw [if_pos hc2] at h
      exact fX9_copyMoving_175_ok (o2 := some (.int l2)) hd ha0 ha1 rfl h
    · rw [if_neg hc2] at h
      refine fx_iload_n dX9_copyMoving_148 rfl rfl ?_
      refine fx_bipush (x := 30) dX9_copyMoving_149 rfl (by decide) ?_
      refine fx_icmp_ge (t := 175) dX9_copyMoving_151 rfl rfl (fun hc3 => ?_) (fun hc3 => ?_)
      · rw [if_pos hc3] at h
        exact fX9_copyMoving_175_ok (o2 := some (.int l2)) hd ha0 ha1 rfl h
      · rw [if_neg hc3] at h
        refine fx_aload_n dX9_copyMoving_154 rfl rfl ?_
        refine gx_getr dX9_copyMoving_155 rfl fd_9_25 ha0.1 rfl rfl ?_
        refine fx_iload_n dX9_copyMoving_158 rfl rfl ?_
        obtain ⟨hj4, h⟩ := xChk_el h
        obtain ⟨r5, hr5, h⟩ := xLet_el h
        refine gx_aaload (t := 6) dX9_copyMoving_159 rfl ha0.2.2.2.1 rfl hj4 ((xRef_at (sl_9_2 a0) hj4).trans (congrArg some hr5)) ?_
        have hpr5 : isBurst r5 := by rw [← hr5]; exact ha0.2.2.2.2.2.2.2.2.2 _ (xIn_lt hj4)
        refine fx_aload_n dX9_copyMoving_160 rfl rfl ?_
        refine gx_getr dX9_copyMoving_161 rfl fd_9_25 ha1.1 rfl rfl ?_
        refine fx_iload_n dX9_copyMoving_164 rfl rfl ?_
        obtain ⟨hj6, h⟩ := xChk_el h
        obtain ⟨r7, hr7, h⟩ := xLet_el h
        refine gx_aaload (t := 6) dX9_copyMoving_165 rfl ha1.2.2.2.1 rfl hj6 ((xRef_at (sl_9_2 a1) hj6).trans (congrArg some hr7)) ?_
        have hpr7 : isBurst r7 := by rw [← hr7]; exact ha1.2.2.2.2.2.2.2.2.2 _ (xIn_lt hj6)
        obtain ⟨p8, ep8, h⟩ := xBind_el h
        refine gx_callv (as := [.ref r7]) (r := []) rfl dX9_copyMoving_166 ca_9_128 rfl me_211 rfl rfl rfl rfl (hpr5) rfl (fX0_copy_ok (d := d) (by omega) hpr5 hpr7 ep8) rfl rfl ?_
        obtain ⟨x9, hx9, h⟩ := xLet_el h
        refine fx_iinc (ls2 := [some (.ref a0), some (.ref a1), some (.int x9)]) dX9_copyMoving_169 rfl rfl rfl hx9 rfl ?_
        refine fx_goto (t := 140) dX9_copyMoving_172 rfl rfl ?_
        exact ih x9 p8 r h
def fX9_copyMoving_138 (a0 : Nat) (a1 : Nat) (m : xMem) : Option xMem := fX9_copyMoving_140 a0 a1 xFuel (0 : Int32) m
set_option maxRecDepth 4000 in
theorem fX9_copyMoving_138_ok {a0 : Nat} {a1 : Nat} {d : Nat} (hd : 1 ≤ d) (ha0 : isStation a0) (ha1 : isStation a1) {o2 : Option Value} {m : xMem} {r : xMem} (q2 : xNoD o2 = true) (h : fX9_copyMoving_138 a0 a1 m = some r) : xFx hh_208 cX9_copyMoving d 138 [some (.ref a0), some (.ref a1), o2] [] (xLay m) 0 0 none (xLay r) := by
  unfold fX9_copyMoving_138 at h
  refine fx_iconst (x := 0) dX9_copyMoving_138 rfl (by decide) ?_
  refine fx_istore_n (ls2 := [some (.ref a0), some (.ref a1), some (.int (0 : Int32))]) dX9_copyMoving_139 rfl rfl rfl ?_
  exact fX9_copyMoving_140_ok hd ha0 ha1 xFuel (0 : Int32) m r h
def fX9_copyMoving_103 (a0 : Nat) (a1 : Nat) : Nat → Int32 → xMem → Option xMem
  | 0, _, _ => none
  | fuel + 1, l2, m => xLet (m.1 a0 8) fun x1 => if x1 ≤ l2 then fX9_copyMoving_138 a0 a1 m else if (10 : Int32) ≤ l2 then fX9_copyMoving_138 a0 a1 m else bif xIn l2 10 then xLet (a0 + 33 + 2 * l2.toNatClampNeg) fun r5 => bif xIn l2 10 then xLet (a1 + 33 + 2 * l2.toNatClampNeg) fun r7 => (fX3_copy r5 r7 m).bind fun p8 => xLet (l2 + (1 : Int32)) fun x9 => fX9_copyMoving_103 a0 a1 fuel x9 p8 else none else none
set_option maxRecDepth 4000 in
theorem fX9_copyMoving_103_ok {a0 : Nat} {a1 : Nat} {d : Nat} (hd : 1 ≤ d) (ha0 : isStation a0) (ha1 : isStation a1) : ∀ (fuel : Nat) (l2 : Int32) (m : xMem) (r : xMem), fX9_copyMoving_103 a0 a1 fuel l2 m = some r → xFx hh_208 cX9_copyMoving d 103 [some (.ref a0), some (.ref a1), some (.int l2)] [] (xLay m) 0 0 none (xLay r) := by
  intro fuel
  induction fuel with
  | zero => intro l2  m r  h; cases h
  | succ fuel ih =>
    intro l2  m r  h
    unfold fX9_copyMoving_103 at h
    refine fx_iload_n dX9_copyMoving_103 rfl rfl ?_
    refine fx_aload_n dX9_copyMoving_104 rfl rfl ?_
    obtain ⟨x1, hx1, h⟩ := xLet_el h
    refine gx_get dX9_copyMoving_105 rfl fd_9_60 ha0.1 rfl rfl hx1 ?_
    refine fx_icmp_ge (t := 138) dX9_copyMoving_108 rfl rfl (fun hc2 => ?_) (fun hc2 => ?_)
    · rw [if_pos hc2] at h
      exact fX9_copyMoving_138_ok (o2 := some (.int l2)) hd ha0 ha1 rfl h
    · rw [if_neg hc2] at h
      refine fx_iload_n dX9_copyMoving_111 rfl rfl ?_
      refine fx_bipush (x := 10) dX9_copyMoving_112 rfl (by decide) ?_
      refine fx_icmp_ge (t := 138) dX9_copyMoving_114 rfl rfl (fun hc3 => ?_) (fun hc3 => ?_)
      · rw [if_pos hc3] at h
        exact fX9_copyMoving_138_ok (o2 := some (.int l2)) hd ha0 ha1 rfl h
      · rw [if_neg hc3] at h
        refine fx_aload_n dX9_copyMoving_117 rfl rfl ?_
        refine gx_getr dX9_copyMoving_118 rfl fd_9_19 ha0.1 rfl rfl ?_
        refine fx_iload_n dX9_copyMoving_121 rfl rfl ?_
        obtain ⟨hj4, h⟩ := xChk_el h
        obtain ⟨r5, hr5, h⟩ := xLet_el h
        refine gx_aaload (t := 5) dX9_copyMoving_122 rfl ha0.2.2.1 rfl hj4 ((xRef_at (sl_9_1 a0) hj4).trans (congrArg some hr5)) ?_
        have hpr5 : isLink r5 := by rw [← hr5]; exact ha0.2.2.2.2.2.2.2.2.1 _ (xIn_lt hj4)
        refine fx_aload_n dX9_copyMoving_123 rfl rfl ?_
        refine gx_getr dX9_copyMoving_124 rfl fd_9_19 ha1.1 rfl rfl ?_
        refine fx_iload_n dX9_copyMoving_127 rfl rfl ?_
        obtain ⟨hj6, h⟩ := xChk_el h
        obtain ⟨r7, hr7, h⟩ := xLet_el h
        refine gx_aaload (t := 5) dX9_copyMoving_128 rfl ha1.2.2.1 rfl hj6 ((xRef_at (sl_9_1 a1) hj6).trans (congrArg some hr7)) ?_
        have hpr7 : isLink r7 := by rw [← hr7]; exact ha1.2.2.2.2.2.2.2.2.1 _ (xIn_lt hj6)
        obtain ⟨p8, ep8, h⟩ := xBind_el h
        refine gx_callv (as := [.ref r7]) (r := []) rfl dX9_copyMoving_129 ca_9_125 rfl me_210 rfl rfl rfl rfl (hpr5.1) rfl (fX3_copy_ok (d := d) (by omega) hpr5 hpr7 ep8) rfl rfl ?_
        obtain ⟨x9, hx9, h⟩ := xLet_el h
        refine fx_iinc (ls2 := [some (.ref a0), some (.ref a1), some (.int x9)]) dX9_copyMoving_132 rfl rfl rfl hx9 rfl ?_
        refine fx_goto (t := 103) dX9_copyMoving_135 rfl rfl ?_
        exact ih x9 p8 r h
def fX9_copyMoving_101 (a0 : Nat) (a1 : Nat) (m : xMem) : Option xMem := fX9_copyMoving_103 a0 a1 xFuel (0 : Int32) m
set_option maxRecDepth 4000 in
theorem fX9_copyMoving_101_ok {a0 : Nat} {a1 : Nat} {d : Nat} (hd : 1 ≤ d) (ha0 : isStation a0) (ha1 : isStation a1) {o2 : Option Value} {m : xMem} {r : xMem} (q2 : xNoD o2 = true) (h : fX9_copyMoving_101 a0 a1 m = some r) : xFx hh_208 cX9_copyMoving d 101 [some (.ref a0), some (.ref a1), o2] [] (xLay m) 0 0 none (xLay r) := by
  unfold fX9_copyMoving_101 at h
  refine fx_iconst (x := 0) dX9_copyMoving_101 rfl (by decide) ?_
  refine fx_istore_n (ls2 := [some (.ref a0), some (.ref a1), some (.int (0 : Int32))]) dX9_copyMoving_102 rfl rfl rfl ?_
  exact fX9_copyMoving_103_ok hd ha0 ha1 xFuel (0 : Int32) m r h
def fX9_copyMoving_66 (a0 : Nat) (a1 : Nat) : Nat → Int32 → xMem → Option xMem
  | 0, _, _ => none
  | fuel + 1, l2, m => xLet (m.1 a0 7) fun x1 => if x1 ≤ l2 then fX9_copyMoving_101 a0 a1 m else if (6 : Int32) ≤ l2 then fX9_copyMoving_101 a0 a1 m else bif xIn l2 6 then xLet (a0 + 15 + 3 * l2.toNatClampNeg) fun r5 => bif xIn l2 6 then xLet (a1 + 15 + 3 * l2.toNatClampNeg) fun r7 => (fX2_copy r5 r7 m).bind fun p8 => xLet (l2 + (1 : Int32)) fun x9 => fX9_copyMoving_66 a0 a1 fuel x9 p8 else none else none
set_option maxRecDepth 4000 in
theorem fX9_copyMoving_66_ok {a0 : Nat} {a1 : Nat} {d : Nat} (hd : 1 ≤ d) (ha0 : isStation a0) (ha1 : isStation a1) : ∀ (fuel : Nat) (l2 : Int32) (m : xMem) (r : xMem), fX9_copyMoving_66 a0 a1 fuel l2 m = some r → xFx hh_208 cX9_copyMoving d 66 [some (.ref a0), some (.ref a1), some (.int l2)] [] (xLay m) 0 0 none (xLay r) := by
  intro fuel
  induction fuel with
  | zero => intro l2  m r  h; cases h
  | succ fuel ih =>
    intro l2  m r  h
    unfold fX9_copyMoving_66 at h
    refine fx_iload_n dX9_copyMoving_66 rfl rfl ?_
    refine fx_aload_n dX9_copyMoving_67 rfl rfl ?_
    obtain ⟨x1, hx1, h⟩ := xLet_el h
    refine gx_get dX9_copyMoving_68 rfl fd_9_57 ha0.1 rfl rfl hx1 ?_
    refine fx_icmp_ge (t := 101) dX9_copyMoving_71 rfl rfl (fun hc2 => ?_) (fun hc2 => ?_)
    · rw [if_pos hc2] at h
      exact fX9_copyMoving_101_ok (o2 := some (.int l2)) hd ha0 ha1 rfl h
    · rw [if_neg hc2] at h
      refine fx_iload_n dX9_copyMoving_74 rfl rfl ?_
      refine fx_bipush (x := 6) dX9_copyMoving_75 rfl (by decide) ?_
      refine fx_icmp_ge (t := 101) dX9_copyMoving_77 rfl rfl (fun hc3 => ?_) (fun hc3 => ?_)
      · rw [if_pos hc3] at h
        exact fX9_copyMoving_101_ok (o2 := some (.int l2)) hd ha0 ha1 rfl h
      · rw [if_neg hc3] at h
        refine fx_aload_n dX9_copyMoving_80 rfl rfl ?_
        refine gx_getr dX9_copyMoving_81 rfl fd_9_11 ha0.1 rfl rfl ?_
        refine fx_iload_n dX9_copyMoving_84 rfl rfl ?_
        obtain ⟨hj4, h⟩ := xChk_el h
        obtain ⟨r5, hr5, h⟩ := xLet_el h
        refine gx_aaload (t := 4) dX9_copyMoving_85 rfl ha0.2.1 rfl hj4 ((xRef_at (sl_9_0 a0) hj4).trans (congrArg some hr5)) ?_
        have hpr5 : isHall r5 := by rw [← hr5]; exact ha0.2.2.2.2.2.2.2.1 _ (xIn_lt hj4)
        refine fx_aload_n dX9_copyMoving_86 rfl rfl ?_
        refine gx_getr dX9_copyMoving_87 rfl fd_9_11 ha1.1 rfl rfl ?_
        refine fx_iload_n dX9_copyMoving_90 rfl rfl ?_
        obtain ⟨hj6, h⟩ := xChk_el h
        obtain ⟨r7, hr7, h⟩ := xLet_el h
        refine gx_aaload (t := 4) dX9_copyMoving_91 rfl ha1.2.1 rfl hj6 ((xRef_at (sl_9_0 a1) hj6).trans (congrArg some hr7)) ?_
        have hpr7 : isHall r7 := by rw [← hr7]; exact ha1.2.2.2.2.2.2.2.1 _ (xIn_lt hj6)
        obtain ⟨p8, ep8, h⟩ := xBind_el h
        refine gx_callv (as := [.ref r7]) (r := []) rfl dX9_copyMoving_92 ca_9_122 rfl me_209 rfl rfl rfl rfl (hpr5.1) rfl (fX2_copy_ok (d := d) (by omega) hpr5 hpr7 ep8) rfl rfl ?_
        obtain ⟨x9, hx9, h⟩ := xLet_el h
        refine fx_iinc (ls2 := [some (.ref a0), some (.ref a1), some (.int x9)]) dX9_copyMoving_95 rfl rfl rfl hx9 rfl ?_
        refine fx_goto (t := 66) dX9_copyMoving_98 rfl rfl ?_
        exact ih x9 p8 r h
def fX9_copyMoving_0 (a0 : Nat) (a1 : Nat) (m : xMem) : Option xMem := xLet (m.1 a1 6) fun x1 => xLet (xPut m a0 6 x1) fun m2 => xLet (m2.1 a1 7) fun x3 => xLet (xPut m2 a0 7 x3) fun m4 => xLet (m4.1 a1 8) fun x5 => xLet (xPut m4 a0 8 x5) fun m6 => xLet (m6.1 a1 9) fun x7 => xLet (xPut m6 a0 9 x7) fun m8 => xLet (m8.1 a1 12) fun x9 => xLet (xPut m8 a0 12 x9) fun m10 => xLet (m10.1 a1 13) fun x11 => xLet (xPut m10 a0 13 x11) fun m12 => xLet (m12.1 a1 14) fun x13 => xLet (xPut m12 a0 14 x13) fun m14 => xLet (m14.1 a1 15) fun x15 => xLet (xPut m14 a0 15 x15) fun m16 => fX9_copyMoving_66 a0 a1 xFuel (0 : Int32) m16
set_option maxRecDepth 4000 in
theorem fX9_copyMoving_0_ok {a0 : Nat} {a1 : Nat} {d : Nat} (hd : 1 ≤ d) (ha0 : isStation a0) (ha1 : isStation a1) {o2 : Option Value} {m : xMem} {r : xMem} (q2 : xNoD o2 = true) (h : fX9_copyMoving_0 a0 a1 m = some r) : xFx hh_208 cX9_copyMoving d 0 [some (.ref a0), some (.ref a1), o2] [] (xLay m) 0 0 none (xLay r) := by
  unfold fX9_copyMoving_0 at h
  refine fx_aload_n dX9_copyMoving_0 rfl rfl ?_
  refine fx_aload_n dX9_copyMoving_1 rfl rfl ?_
  obtain ⟨x1, hx1, h⟩ := xLet_el h
  refine gx_get dX9_copyMoving_2 rfl fd_9_107 ha1.1 rfl rfl hx1 ?_
  obtain ⟨m2, hm2, h⟩ := xLet_el h
  refine gx_put dX9_copyMoving_5 rfl fd_9_107 ha0.1 rfl rfl rfl hm2 ?_
  refine fx_aload_n dX9_copyMoving_8 rfl rfl ?_
  refine fx_aload_n dX9_copyMoving_9 rfl rfl ?_
  obtain ⟨x3, hx3, h⟩ := xLet_el h
  refine gx_get dX9_copyMoving_10 rfl fd_9_57 ha1.1 rfl rfl hx3 ?_
  obtain ⟨m4, hm4, h⟩ := xLet_el h
  refine gx_put dX9_copyMoving_13 rfl fd_9_57 ha0.1 rfl rfl rfl hm4 ?_
  refine fx_aload_n dX9_copyMoving_16 rfl rfl ?_
  refine fx_aload_n dX9_copyMoving_17 rfl rfl ?_
  obtain ⟨x5, hx5, h⟩ := xLet_el h
  refine gx_get dX9_copyMoving_18 rfl fd_9_60 ha1.1 rfl rfl hx5 ?_
  obtain ⟨m6, hm6, h⟩ := xLet_el h
  refine gx_put dX9_copyMoving_21 rfl fd_9_60 ha0.1 rfl rfl rfl hm6 ?_
  refine fx_aload_n dX9_copyMoving_24 rfl rfl ?_
  refine fx_aload_n dX9_copyMoving_25 rfl rfl ?_
  obtain ⟨x7, hx7, h⟩ := xLet_el h
  refine gx_get dX9_copyMoving_26 rfl fd_9_110 ha1.1 rfl rfl hx7 ?_
  obtain ⟨m8, hm8, h⟩ := xLet_el h
  refine gx_put dX9_copyMoving_29 rfl fd_9_110 ha0.1 rfl rfl rfl hm8 ?_
  refine fx_aload_n dX9_copyMoving_32 rfl rfl ?_
  refine fx_aload_n dX9_copyMoving_33 rfl rfl ?_
  obtain ⟨x9, hx9, h⟩ := xLet_el h
  refine gx_get dX9_copyMoving_34 rfl fd_9_83 ha1.1 rfl rfl hx9 ?_
  obtain ⟨m10, hm10, h⟩ := xLet_el h
  refine gx_put dX9_copyMoving_37 rfl fd_9_83 ha0.1 rfl rfl rfl hm10 ?_
  refine fx_aload_n dX9_copyMoving_40 rfl rfl ?_
  refine fx_aload_n dX9_copyMoving_41 rfl rfl ?_
  obtain ⟨x11, hx11, h⟩ := xLet_el h
  refine gx_get dX9_copyMoving_42 rfl fd_9_113 ha1.1 rfl rfl hx11 ?_
  obtain ⟨m12, hm12, h⟩ := xLet_el h
  refine gx_put dX9_copyMoving_45 rfl fd_9_113 ha0.1 rfl rfl rfl hm12 ?_
  refine fx_aload_n dX9_copyMoving_48 rfl rfl ?_
  refine fx_aload_n dX9_copyMoving_49 rfl rfl ?_
  obtain ⟨x13, hx13, h⟩ := xLet_el h
  refine gx_get dX9_copyMoving_50 rfl fd_9_116 ha1.1 rfl rfl hx13 ?_
  obtain ⟨m14, hm14, h⟩ := xLet_el h
  refine gx_put dX9_copyMoving_53 rfl fd_9_116 ha0.1 rfl rfl rfl hm14 ?_
  refine fx_aload_n dX9_copyMoving_56 rfl rfl ?_
  refine fx_aload_n dX9_copyMoving_57 rfl rfl ?_
  obtain ⟨x15, hx15, h⟩ := xLet_el h
  refine gx_get dX9_copyMoving_58 rfl fd_9_119 ha1.1 rfl rfl hx15 ?_
  obtain ⟨m16, hm16, h⟩ := xLet_el h
  refine gx_put dX9_copyMoving_61 rfl fd_9_119 ha0.1 rfl rfl rfl hm16 ?_
  refine fx_iconst (x := 0) dX9_copyMoving_64 rfl (by decide) ?_
  refine fx_istore_n (ls2 := [some (.ref a0), some (.ref a1), some (.int (0 : Int32))]) dX9_copyMoving_65 rfl rfl rfl ?_
  exact fX9_copyMoving_66_ok hd ha0 ha1 xFuel (0 : Int32) m16 r h
def fX9_copyMoving (a0 : Nat) (a1 : Nat) (m : xMem) : Option xMem := fX9_copyMoving_0 a0 a1  m
theorem fX9_copyMoving_ok {a0 : Nat} {a1 : Nat} {m : xMem} {r : xMem} {d : Nat} (hd : 2 ≤ d) (ha0 : isStation a0) (ha1 : isStation a1) (h : fX9_copyMoving a0 a1 m = some r) : xEx d 208 [.ref a0, .ref a1] (xLay m) none (xLay r) := by
  obtain ⟨d, rfl⟩ : ∃ q, d = q + 1 := ⟨d - 1, by omega⟩
  exact xEx_of me_208 rfl (fX9_copyMoving_0_ok (d := d) (o2 := none) (by omega) ha0 ha1 rfl h)
def fX11_beginTrial_0 (a0 : Nat) (m : xMem) : Option (Nat × xMem) := (fX9_copyMoving (a0 + 167) (a0 + 1) m).bind fun p1 => (fX6_forgetRoutes (a0 + 250) p1).bind fun p2 => (fX11_law a0 p2).bind fun p3 => some (p3.1, p3.2)
set_option maxRecDepth 4000 in
theorem fX11_beginTrial_0_ok {a0 : Nat} {d : Nat} (hd : 2 ≤ d) (ha0 : isMS a0) {m : xMem} {r : (Nat × xMem)} (h : fX11_beginTrial_0 a0 m = some r) : xFx hh_207 cX11_beginTrial d 0 [some (.ref a0)] [] (xLay m) 0 0 (some (.ref r.1)) (xLay r.2) := by
  unfold fX11_beginTrial_0 at h
  refine fx_aload_n dX11_beginTrial_0 rfl rfl ?_
  refine gx_getr dX11_beginTrial_1 rfl fd_11_19 ha0.1 rfl rfl ?_
  refine fx_aload_n dX11_beginTrial_4 rfl rfl ?_
  refine gx_getr dX11_beginTrial_5 rfl fd_11_10 ha0.1 rfl rfl ?_
  obtain ⟨p1, ep1, h⟩ := xBind_el h
  refine gx_callv (as := [.ref (a0 + 1)]) (r := []) rfl dX11_beginTrial_8 ca_11_323 rfl me_208 rfl rfl rfl rfl (ha0.2.2.2.1.1) rfl (fX9_copyMoving_ok (d := d) (by omega) ha0.2.2.2.1 ha0.2.1 ep1) rfl rfl ?_
  refine fx_aload_n dX11_beginTrial_11 rfl rfl ?_
  refine gx_getr dX11_beginTrial_12 rfl fd_11_25 ha0.1 rfl rfl ?_
  obtain ⟨p2, ep2, h⟩ := xBind_el h
  refine gx_callv (as := []) (r := []) rfl dX11_beginTrial_15 ca_11_166 rfl me_118 rfl rfl rfl rfl (ha0.2.2.2.2.1.1) rfl (fX6_forgetRoutes_ok (d := d) (by omega) ha0.2.2.2.2.1 ep2) rfl rfl ?_
  refine fx_aload_n dX11_beginTrial_18 rfl rfl ?_
  obtain ⟨p3, ep3, h⟩ := xBind_el h
  refine gx_callv (as := []) (r := []) rfl dX11_beginTrial_19 ca_11_162 rfl me_117 rfl rfl rfl rfl (ha0.1) rfl (fX11_law_ok (d := d) (by omega) ha0 ep3) rfl rfl ?_
  have hqp3 : isText p3.1 := fX11_law_ref ha0 ep3
  cases h
  exact fx_areturn dX11_beginTrial_22 rfl rfl
def fX11_beginTrial (a0 : Nat) (m : xMem) : Option (Nat × xMem) := fX11_beginTrial_0 a0  m
theorem fX11_beginTrial_ok {a0 : Nat} {m : xMem} {r : (Nat × xMem)} {d : Nat} (hd : 3 ≤ d) (ha0 : isMS a0) (h : fX11_beginTrial a0 m = some r) : xEx d 207 [.ref a0] (xLay m) (some (.ref r.1)) (xLay r.2) := by
  obtain ⟨d, rfl⟩ : ∃ q, d = q + 1 := ⟨d - 1, by omega⟩
  exact xEx_of me_207 rfl (fX11_beginTrial_0_ok (d := d) (by omega) ha0 h)
theorem fX11_beginTrial_ref {a0 : Nat} {m : xMem} {p : Nat × xMem} (ha0 : isMS a0) (h : fX11_beginTrial a0 m = some p) : isText p.1 := by
  unfold fX11_beginTrial fX11_beginTrial_0 at h
  obtain ⟨p1, -, h⟩ := xBind_el h
  obtain ⟨p2, -, h⟩ := xBind_el h
  obtain ⟨p3, e3, h⟩ := xBind_el h
  cases h
  exact fX11_law_ref ha0 e3
def fX11_waitedByWays_54 (a0 : Nat) (a1 : Int32) (a2 : Int32) (a3 : Int32) (rec9 : Nat → Int32 → xMem → Option (Int32 × xMem)) (l4 : Nat) (l5 : Int32) (m : xMem) : Option (Int32 × xMem) := xLet (l5 + (1 : Int32)) fun x1 => rec9 l4 x1 m
set_option maxRecDepth 4000 in
theorem fX11_waitedByWays_54_ok {a0 : Nat} {a1 : Int32} {a2 : Int32} {a3 : Int32} {rec9 : Nat → Int32 → xMem → Option (Int32 × xMem)} {d : Nat} (hd : 6 ≤ d) (ha0 : isMS a0) (hrec9 : ∀ (l4 : Nat) (l5 : Int32) (m : xMem) (r : (Int32 × xMem)) (hl4 : isText l4), rec9 l4 l5 m = some r → xFx hh_206 cX11_waitedByWays d 9 [some (.ref a0), some (.int a1), some (.int a2), some (.int a3), some (.ref l4), some (.int l5)] [] (xLay m) 0 0 (some (.int r.1)) (xLay r.2)) {l4 : Nat} {l5 : Int32} {m : xMem} {r : (Int32 × xMem)} (hl4 : isText l4) (h : fX11_waitedByWays_54 a0 a1 a2 a3 rec9 l4 l5 m = some r) : xFx hh_206 cX11_waitedByWays d 54 [some (.ref a0), some (.int a1), some (.int a2), some (.int a3), some (.ref l4), some (.int l5)] [] (xLay m) 0 0 (some (.int r.1)) (xLay r.2) := by
  unfold fX11_waitedByWays_54 at h
  obtain ⟨x1, hx1, h⟩ := xLet_el h
  refine fx_iinc (ls2 := [some (.ref a0), some (.int a1), some (.int a2), some (.int a3), some (.ref l4), some (.int x1)]) dX11_waitedByWays_54 rfl rfl rfl hx1 rfl ?_
  refine fx_goto (t := 9) dX11_waitedByWays_57 rfl rfl ?_
  exact hrec9 l4 x1 m r hl4 h
def fX11_waitedByWays_51 (a0 : Nat) (a1 : Int32) (a2 : Int32) (a3 : Int32) (rec9 : Nat → Int32 → xMem → Option (Int32 × xMem)) (l4 : Nat) (l5 : Int32) (s0 : Nat) (s1 : Int32) (m : xMem) : Option (Int32 × xMem) := (fX3_turnTo s0 s1 m).bind fun p1 => fX11_waitedByWays_54 a0 a1 a2 a3 rec9 l4 l5 p1
set_option maxRecDepth 4000 in
theorem fX11_waitedByWays_51_ok {a0 : Nat} {a1 : Int32} {a2 : Int32} {a3 : Int32} {rec9 : Nat → Int32 → xMem → Option (Int32 × xMem)} {d : Nat} (hd : 6 ≤ d) (ha0 : isMS a0) (hrec9 : ∀ (l4 : Nat) (l5 : Int32) (m : xMem) (r : (Int32 × xMem)) (hl4 : isText l4), rec9 l4 l5 m = some r → xFx hh_206 cX11_waitedByWays d 9 [some (.ref a0), some (.int a1), some (.int a2), some (.int a3), some (.ref l4), some (.int l5)] [] (xLay m) 0 0 (some (.int r.1)) (xLay r.2)) {l4 : Nat} {l5 : Int32} {s0 : Nat} {s1 : Int32} {m : xMem} {r : (Int32 × xMem)} (hl4 : isText l4) (hs0 : isLink s0) (h : fX11_waitedByWays_51 a0 a1 a2 a3 rec9 l4 l5 s0 s1 m = some r) : xFx hh_206 cX11_waitedByWays d 51 [some (.ref a0), some (.int a1), some (.int a2), some (.int a3), some (.ref l4), some (.int l5)] [.int s1, .ref s0] (xLay m) 0 0 (some (.int r.1)) (xLay r.2) := by
  unfold fX11_waitedByWays_51 at h
  obtain ⟨p1, ep1, h⟩ := xBind_el h
  refine gx_callv (as := [.int s1]) (r := []) rfl dX11_waitedByWays_51 ca_11_87 rfl me_30 rfl rfl rfl rfl (hs0.1) rfl (fX3_turnTo_ok (d := d) (by omega) hs0 ep1) rfl rfl ?_
  exact fX11_waitedByWays_54_ok hd ha0 hrec9 hl4 h
def fX11_waitedByWays_63 (a0 : Nat) (a1 : Int32) (a2 : Int32) (a3 : Int32) : Nat → Nat → Int32 → xMem → Option (Int32 × xMem)
  | 0, _, _, _ => none
  | fuel + 1, l4, l5, m => if a3 ≤ l5 then xLet (m.1 (a0 + 167) 13) fun x2 => xLet (m.1 (a0 + 1) 13) fun x3 => xLet (x2 - x3) fun x4 => some (x4, m) else (fX6_passSecond (a0 + 250) (a0 + 167) l4 m).bind fun p5 => xLet (l5 + (1 : Int32)) fun x6 => fX11_waitedByWays_63 a0 a1 a2 a3 fuel l4 x6 p5
set_option maxRecDepth 4000 in
theorem fX11_waitedByWays_63_ok {a0 : Nat} {a1 : Int32} {a2 : Int32} {a3 : Int32} {d : Nat} (hd : 6 ≤ d) (ha0 : isMS a0) : ∀ (fuel : Nat) (l4 : Nat) (l5 : Int32) (m : xMem) (r : (Int32 × xMem)) (hl4 : isText l4), fX11_waitedByWays_63 a0 a1 a2 a3 fuel l4 l5 m = some r → xFx hh_206 cX11_waitedByWays d 63 [some (.ref a0), some (.int a1), some (.int a2), some (.int a3), some (.ref l4), some (.int l5)] [] (xLay m) 0 0 (some (.int r.1)) (xLay r.2) := by
  intro fuel
  induction fuel with
  | zero => intro l4 l5  m r hl4 h; cases h
  | succ fuel ih =>
    intro l4 l5  m r hl4 h
    unfold fX11_waitedByWays_63 at h
    refine fx_iload dX11_waitedByWays_63 rfl rfl ?_
    refine fx_iload_n dX11_waitedByWays_65 rfl rfl ?_
    refine fx_icmp_ge (t := 88) dX11_waitedByWays_66 rfl rfl (fun hc1 => ?_) (fun hc1 => ?_)
    · rw [if_pos hc1] at h
      refine fx_aload_n dX11_waitedByWays_88 rfl rfl ?_
      refine gx_getr dX11_waitedByWays_89 rfl fd_11_19 ha0.1 rfl rfl ?_
      obtain ⟨x2, hx2, h⟩ := xLet_el h
      refine gx_get dX11_waitedByWays_92 rfl fd_11_228 ha0.2.2.2.1.1 rfl rfl hx2 ?_
      refine fx_aload_n dX11_waitedByWays_95 rfl rfl ?_
      refine gx_getr dX11_waitedByWays_96 rfl fd_11_10 ha0.1 rfl rfl ?_
      obtain ⟨x3, hx3, h⟩ := xLet_el h
      refine gx_get dX11_waitedByWays_99 rfl fd_11_228 ha0.2.1.1 rfl rfl hx3 ?_
      obtain ⟨x4, hx4, h⟩ := xLet_el h
      refine fx_isub dX11_waitedByWays_102 rfl hx4 ?_
      cases h
      exact fx_ireturn dX11_waitedByWays_103 rfl rfl
    · rw [if_neg hc1] at h
      refine fx_aload_n dX11_waitedByWays_69 rfl rfl ?_
      refine gx_getr dX11_waitedByWays_70 rfl fd_11_25 ha0.1 rfl rfl ?_
      refine fx_aload_n dX11_waitedByWays_73 rfl rfl ?_
      refine gx_getr dX11_waitedByWays_74 rfl fd_11_19 ha0.1 rfl rfl ?_
      refine fx_aload dX11_waitedByWays_77 rfl rfl ?_
      obtain ⟨p5, ep5, h⟩ := xBind_el h
      refine gx_callv (as := [.ref (a0 + 167), .ref l4]) (r := []) rfl dX11_waitedByWays_79 ca_11_169 rfl me_120 rfl rfl rfl rfl (ha0.2.2.2.2.1.1) rfl (fX6_passSecond_ok (d := d) (by omega) ha0.2.2.2.2.1 ha0.2.2.2.1 hl4 ep5) rfl rfl ?_
      obtain ⟨x6, hx6, h⟩ := xLet_el h
      refine fx_iinc (ls2 := [some (.ref a0), some (.int a1), some (.int a2), some (.int a3), some (.ref l4), some (.int x6)]) dX11_waitedByWays_82 rfl rfl rfl hx6 rfl ?_
      refine fx_goto (t := 63) dX11_waitedByWays_85 rfl rfl ?_
      exact ih l4 x6 p5 r hl4 h
def fX11_waitedByWays_9 (a0 : Nat) (a1 : Int32) (a2 : Int32) (a3 : Int32) : Nat → Nat → Int32 → xMem → Option (Int32 × xMem)
  | 0, _, _, _ => none
  | fuel + 1, l4, l5, m => if (10 : Int32) ≤ l5 then fX11_waitedByWays_63 a0 a1 a2 a3 xFuel l4 (0 : Int32) m else xLet (a1 >>> (l5 &&& 31)) fun x2 => xLet (x2 &&& (1 : Int32)) fun x3 => if ¬ x3 = (1 : Int32) then fX11_waitedByWays_54 a0 a1 a2 a3 (fX11_waitedByWays_9 a0 a1 a2 a3 fuel) l4 l5 m else bif xIn l5 10 then xLet (a0 + 167 + 33 + 2 * l5.toNatClampNeg) fun r6 => xLet (a2 >>> (l5 &&& 31)) fun x7 => xLet (x7 &&& (1 : Int32)) fun x8 => if ¬ x8 = (1 : Int32) then fX11_waitedByWays_51 a0 a1 a2 a3 (fX11_waitedByWays_9 a0 a1 a2 a3 fuel) l4 l5 r6 (2 : Int32) m else fX11_waitedByWays_51 a0 a1 a2 a3 (fX11_waitedByWays_9 a0 a1 a2 a3 fuel) l4 l5 r6 (1 : Int32) m else none
set_option maxRecDepth 4000 in
theorem fX11_waitedByWays_9_ok {a0 : Nat} {a1 : Int32} {a2 : Int32} {a3 : Int32} {d : Nat} (hd : 6 ≤ d) (ha0 : isMS a0) : ∀ (fuel : Nat) (l4 : Nat) (l5 : Int32) (m : xMem) (r : (Int32 × xMem)) (hl4 : isText l4), fX11_waitedByWays_9 a0 a1 a2 a3 fuel l4 l5 m = some r → xFx hh_206 cX11_waitedByWays d 9 [some (.ref a0), some (.int a1), some (.int a2), some (.int a3), some (.ref l4), some (.int l5)] [] (xLay m) 0 0 (some (.int r.1)) (xLay r.2) := by
  intro fuel
  induction fuel with
  | zero => intro l4 l5  m r hl4 h; cases h
  | succ fuel ih =>
    intro l4 l5  m r hl4 h
    unfold fX11_waitedByWays_9 at h
    refine fx_iload dX11_waitedByWays_9 rfl rfl ?_
    refine fx_bipush (x := 10) dX11_waitedByWays_11 rfl (by decide) ?_
    refine fx_icmp_ge (t := 60) dX11_waitedByWays_13 rfl rfl (fun hc1 => ?_) (fun hc1 => ?_)
    · rw [if_pos hc1] at h
      refine fx_iconst (x := 0) dX11_waitedByWays_60 rfl (by decide) ?_
      refine fx_istore (ls2 := [some (.ref a0), some (.int a1), some (.int a2), some (.int a3), some (.ref l4), some (.int (0 : Int32))]) dX11_waitedByWays_61 rfl rfl rfl ?_
      exact fX11_waitedByWays_63_ok hd ha0 xFuel l4 (0 : Int32) m r hl4 h
    · rw [if_neg hc1] at h
      refine fx_iload_n dX11_waitedByWays_16 rfl rfl ?_
      refine fx_iload dX11_waitedByWays_17 rfl rfl ?_
      obtain ⟨x2, hx2, h⟩ := xLet_el h
      refine fx_ishr dX11_waitedByWays_19 rfl hx2 ?_
      refine fx_iconst (x := 1) dX11_waitedByWays_20 rfl (by decide) ?_
      obtain ⟨x3, hx3, h⟩ := xLet_el h
      refine fx_iand dX11_waitedByWays_21 rfl hx3 ?_
      refine fx_iconst (x := 1) dX11_waitedByWays_22 rfl (by decide) ?_
      refine fx_icmp_ne (t := 54) dX11_waitedByWays_23 rfl rfl (fun hc4 => ?_) (fun hc4 => ?_)
      · rw [if_pos hc4] at h
        exact fX11_waitedByWays_54_ok hd ha0 ih hl4 h
      · rw [if_neg hc4] at h
        refine fx_aload_n dX11_waitedByWays_26 rfl rfl ?_
        refine gx_getr dX11_waitedByWays_27 rfl fd_11_19 ha0.1 rfl rfl ?_
        refine gx_getr dX11_waitedByWays_30 rfl fd_11_75 ha0.2.2.2.1.1 rfl rfl ?_
        refine fx_iload dX11_waitedByWays_33 rfl rfl ?_
        obtain ⟨hj5, h⟩ := xChk_el h
        obtain ⟨r6, hr6, h⟩ := xLet_el h
        refine gx_aaload (t := 5) dX11_waitedByWays_35 rfl ha0.2.2.2.1.2.2.1 rfl hj5 ((xRef_at (sl_9_1 (a0 + 167)) hj5).trans (congrArg some hr6)) ?_
        have hpr6 : isLink r6 := by rw [← hr6]; exact ha0.2.2.2.1.2.2.2.2.2.2.2.2.1 _ (xIn_lt hj5)
        refine fx_iload_n dX11_waitedByWays_36 rfl rfl ?_
        refine fx_iload dX11_waitedByWays_37 rfl rfl ?_
        obtain ⟨x7, hx7, h⟩ := xLet_el h
        refine fx_ishr dX11_waitedByWays_39 rfl hx7 ?_
        refine fx_iconst (x := 1) dX11_waitedByWays_40 rfl (by decide) ?_
        obtain ⟨x8, hx8, h⟩ := xLet_el h
        refine fx_iand dX11_waitedByWays_41 rfl hx8 ?_
        refine fx_iconst (x := 1) dX11_waitedByWays_42 rfl (by decide) ?_
        refine fx_icmp_ne (t := 50) dX11_waitedByWays_43 rfl rfl (fun hc9 => ?_) (fun hc9 => ?_)
        · rw [if_pos hc9] at h
          refine fx_iconst (x := 2) dX11_waitedByWays_50 rfl (by decide) ?_
          exact fX11_waitedByWays_51_ok hd ha0 ih hl4 hpr6 h
        · rw [if_neg hc9] at h
          refine fx_iconst (x := 1) dX11_waitedByWays_46 rfl (by decide) ?_
          refine fx_goto (t := 51) dX11_waitedByWays_47 rfl rfl ?_
          exact fX11_waitedByWays_51_ok hd ha0 ih hl4 hpr6 h
def fX11_waitedByWays_0 (a0 : Nat) (a1 : Int32) (a2 : Int32) (a3 : Int32) (m : xMem) : Option (Int32 × xMem) := (fX11_beginTrial a0 m).bind fun p1 => fX11_waitedByWays_9 a0 a1 a2 a3 xFuel p1.1 (0 : Int32) p1.2
set_option maxRecDepth 4000 in
theorem fX11_waitedByWays_0_ok {a0 : Nat} {a1 : Int32} {a2 : Int32} {a3 : Int32} {d : Nat} (hd : 6 ≤ d) (ha0 : isMS a0) {o4 : Option Value} {o5 : Option Value} {m : xMem} {r : (Int32 × xMem)} (q4 : xNoD o4 = true) (q5 : xNoD o5 = true) (h : fX11_waitedByWays_0 a0 a1 a2 a3 m = some r) : xFx hh_206 cX11_waitedByWays d 0 [some (.ref a0), some (.int a1), some (.int a2), some (.int a3), o4, o5] [] (xLay m) 0 0 (some (.int r.1)) (xLay r.2) := by
  unfold fX11_waitedByWays_0 at h
  refine fx_aload_n dX11_waitedByWays_0 rfl rfl ?_
  obtain ⟨p1, ep1, h⟩ := xBind_el h
  refine gx_callv (as := []) (r := []) rfl dX11_waitedByWays_1 ca_11_246 rfl me_207 rfl rfl rfl rfl (ha0.1) rfl (fX11_beginTrial_ok (d := d) (by omega) ha0 ep1) rfl rfl ?_
  have hqp1 : isText p1.1 := fX11_beginTrial_ref ha0 ep1
  refine fx_astore (ls2 := [some (.ref a0), some (.int a1), some (.int a2), some (.int a3), some (.ref p1.1), o5]) dX11_waitedByWays_4 rfl rfl rfl ?_
  refine fx_iconst (x := 0) dX11_waitedByWays_6 rfl (by decide) ?_
  refine fx_istore (ls2 := [some (.ref a0), some (.int a1), some (.int a2), some (.int a3), some (.ref p1.1), some (.int (0 : Int32))]) dX11_waitedByWays_7 rfl rfl rfl ?_
  exact fX11_waitedByWays_9_ok hd ha0 xFuel p1.1 (0 : Int32) p1.2 r hqp1 h
def fX11_waitedByWays (a0 : Nat) (a1 : Int32) (a2 : Int32) (a3 : Int32) (m : xMem) : Option (Int32 × xMem) := fX11_waitedByWays_0 a0 a1 a2 a3  m
theorem fX11_waitedByWays_ok {a0 : Nat} {a1 : Int32} {a2 : Int32} {a3 : Int32} {m : xMem} {r : (Int32 × xMem)} {d : Nat} (hd : 7 ≤ d) (ha0 : isMS a0) (h : fX11_waitedByWays a0 a1 a2 a3 m = some r) : xEx d 206 [.ref a0, .int a1, .int a2, .int a3] (xLay m) (some (.int r.1)) (xLay r.2) := by
  obtain ⟨d, rfl⟩ : ∃ q, d = q + 1 := ⟨d - 1, by omega⟩
  exact xEx_of me_206 rfl (fX11_waitedByWays_0_ok (d := d) (o4 := none) (o5 := none) (by omega) ha0 rfl rfl h)
def fX11_ways_25 (a0 : Nat) (a1 : Int32) (a2 : Int32) (a3 : Int32) (m : xMem) : Option (Int32 × xMem) := some ((-1 : Int32), m)
set_option maxRecDepth 4000 in
theorem fX11_ways_25_ok {a0 : Nat} {a1 : Int32} {a2 : Int32} {a3 : Int32} {d : Nat} (hd : 7 ≤ d) (ha0 : isMS a0) {o4 : Option Value} {o5 : Option Value} {o6 : Option Value} {o7 : Option Value} {o8 : Option Value} {m : xMem} {r : (Int32 × xMem)} (q4 : xNoD o4 = true) (q5 : xNoD o5 = true) (q6 : xNoD o6 = true) (q7 : xNoD o7 = true) (q8 : xNoD o8 = true) (h : fX11_ways_25 a0 a1 a2 a3 m = some r) : xFx hh_203 cX11_ways d 25 [some (.ref a0), some (.int a1), some (.int a2), some (.int a3), o4, o5, o6, o7, o8] [] (xLay m) 0 0 (some (.int r.1)) (xLay r.2) := by
  unfold fX11_ways_25 at h
  refine fx_iconst (x := -1) dX11_ways_25 rfl (by decide) ?_
  cases h
  exact fx_ireturn dX11_ways_26 rfl rfl
def fX11_ways_110 (a0 : Nat) (a1 : Int32) (a2 : Int32) (a3 : Int32) (s0 : Int32) (m : xMem) : Option (Int32 × xMem) := some (s0, m)
set_option maxRecDepth 4000 in
theorem fX11_ways_110_ok {a0 : Nat} {a1 : Int32} {a2 : Int32} {a3 : Int32} {d : Nat} (hd : 7 ≤ d) (ha0 : isMS a0) {s0 : Int32} {o4 : Option Value} {o5 : Option Value} {o6 : Option Value} {o7 : Option Value} {o8 : Option Value} {m : xMem} {r : (Int32 × xMem)} (q4 : xNoD o4 = true) (q5 : xNoD o5 = true) (q6 : xNoD o6 = true) (q7 : xNoD o7 = true) (q8 : xNoD o8 = true) (h : fX11_ways_110 a0 a1 a2 a3 s0 m = some r) : xFx hh_203 cX11_ways d 110 [some (.ref a0), some (.int a1), some (.int a2), some (.int a3), o4, o5, o6, o7, o8] [.int s0] (xLay m) 0 0 (some (.int r.1)) (xLay r.2) := by
  unfold fX11_ways_110 at h
  cases h
  exact fx_ireturn dX11_ways_110 rfl rfl
def fX11_ways_99 (a0 : Nat) (a1 : Int32) (a2 : Int32) (a3 : Int32) (l4 : Int32) (l5 : Int32) (m : xMem) : Option (Int32 × xMem) := if ¬ a3 = (0 : Int32) then fX11_ways_110 a0 a1 a2 a3 l5 m else fX11_ways_110 a0 a1 a2 a3 l4 m
set_option maxRecDepth 4000 in
theorem fX11_ways_99_ok {a0 : Nat} {a1 : Int32} {a2 : Int32} {a3 : Int32} {d : Nat} (hd : 7 ≤ d) (ha0 : isMS a0) {l4 : Int32} {l5 : Int32} {o6 : Option Value} {o7 : Option Value} {o8 : Option Value} {m : xMem} {r : (Int32 × xMem)} (q6 : xNoD o6 = true) (q7 : xNoD o7 = true) (q8 : xNoD o8 = true) (h : fX11_ways_99 a0 a1 a2 a3 l4 l5 m = some r) : xFx hh_203 cX11_ways d 99 [some (.ref a0), some (.int a1), some (.int a2), some (.int a3), some (.int l4), some (.int l5), o6, o7, o8] [] (xLay m) 0 0 (some (.int r.1)) (xLay r.2) := by
  unfold fX11_ways_99 at h
  refine fx_iload_n dX11_ways_99 rfl rfl ?_
  refine fx_if_ne (t := 108) dX11_ways_100 rfl rfl (fun hc1 => ?_) (fun hc1 => ?_)
  · rw [if_pos hc1] at h
    refine fx_iload dX11_ways_108 rfl rfl ?_
    exact fX11_ways_110_ok (o4 := some (.int l4)) (o5 := some (.int l5)) (o6 := o6) (o7 := o7) (o8 := o8) hd ha0 rfl rfl q6 q7 q8 h
  · rw [if_neg hc1] at h
    refine fx_iload dX11_ways_103 rfl rfl ?_
    refine fx_goto (t := 110) dX11_ways_105 rfl rfl ?_
    exact fX11_ways_110_ok (o4 := some (.int l4)) (o5 := some (.int l5)) (o6 := o6) (o7 := o7) (o8 := o8) hd ha0 rfl rfl q6 q7 q8 h
def fX11_ways_93 (a0 : Nat) (a1 : Int32) (a2 : Int32) (a3 : Int32) (rec45 : Int32 → Int32 → Int32 → Int32 → xMem → Option (Int32 × xMem)) (l4 : Int32) (l5 : Int32) (l6 : Int32) (l7 : Int32) (m : xMem) : Option (Int32 × xMem) := xLet (l7 + (1 : Int32)) fun x1 => rec45 l4 l5 l6 x1 m
set_option maxRecDepth 4000 in
theorem fX11_ways_93_ok {a0 : Nat} {a1 : Int32} {a2 : Int32} {a3 : Int32} {rec45 : Int32 → Int32 → Int32 → Int32 → xMem → Option (Int32 × xMem)} {d : Nat} (hd : 7 ≤ d) (ha0 : isMS a0) (hrec45 : ∀ (l4 : Int32) (l5 : Int32) (l6 : Int32) (l7 : Int32) (o8 : Option Value) (q8 : xNoD o8 = true) (m : xMem) (r : (Int32 × xMem)), rec45 l4 l5 l6 l7 m = some r → xFx hh_203 cX11_ways d 45 [some (.ref a0), some (.int a1), some (.int a2), some (.int a3), some (.int l4), some (.int l5), some (.int l6), some (.int l7), o8] [] (xLay m) 0 0 (some (.int r.1)) (xLay r.2)) {l4 : Int32} {l5 : Int32} {l6 : Int32} {l7 : Int32} {o8 : Option Value} {m : xMem} {r : (Int32 × xMem)} (q8 : xNoD o8 = true) (h : fX11_ways_93 a0 a1 a2 a3 rec45 l4 l5 l6 l7 m = some r) : xFx hh_203 cX11_ways d 93 [some (.ref a0), some (.int a1), some (.int a2), some (.int a3), some (.int l4), some (.int l5), some (.int l6), some (.int l7), o8] [] (xLay m) 0 0 (some (.int r.1)) (xLay r.2) := by
  unfold fX11_ways_93 at h
  obtain ⟨x1, hx1, h⟩ := xLet_el h
  refine fx_iinc (ls2 := [some (.ref a0), some (.int a1), some (.int a2), some (.int a3), some (.int l4), some (.int l5), some (.int l6), some (.int x1), o8]) dX11_ways_93 rfl rfl rfl hx1 rfl ?_
  refine fx_goto (t := 45) dX11_ways_96 rfl rfl ?_
  exact hrec45 l4 l5 l6 x1 (o8) q8 m r h
def fX11_ways_45 (a0 : Nat) (a1 : Int32) (a2 : Int32) (a3 : Int32) : Nat → Int32 → Int32 → Int32 → Int32 → xMem → Option (Int32 × xMem)
  | 0, _, _, _, _, _ => none
  | fuel + 1, l4, l5, l6, l7, m => if (32 : Int32) ≤ l7 then fX11_ways_99 a0 a1 a2 a3 l4 l5 m else xLet (l6 - a1) fun x2 => xLet (x2 &&& a1) fun x3 => if ¬ x3 = (0 : Int32) then (fX11_waitedByWays a0 a1 x3 a2 m).bind fun p5 => if l5 ≤ p5.1 then fX11_ways_93 a0 a1 a2 a3 (fX11_ways_45 a0 a1 a2 a3 fuel) l4 l5 x3 l7 p5.2 else fX11_ways_93 a0 a1 a2 a3 (fX11_ways_45 a0 a1 a2 a3 fuel) x3 p5.1 x3 l7 p5.2 else fX11_ways_99 a0 a1 a2 a3 l4 l5 m
set_option maxRecDepth 4000 in
theorem fX11_ways_45_ok {a0 : Nat} {a1 : Int32} {a2 : Int32} {a3 : Int32} {d : Nat} (hd : 7 ≤ d) (ha0 : isMS a0) : ∀ (fuel : Nat) (l4 : Int32) (l5 : Int32) (l6 : Int32) (l7 : Int32) (o8 : Option Value) (q8 : xNoD o8 = true) (m : xMem) (r : (Int32 × xMem)), fX11_ways_45 a0 a1 a2 a3 fuel l4 l5 l6 l7 m = some r → xFx hh_203 cX11_ways d 45 [some (.ref a0), some (.int a1), some (.int a2), some (.int a3), some (.int l4), some (.int l5), some (.int l6), some (.int l7), o8] [] (xLay m) 0 0 (some (.int r.1)) (xLay r.2) := by
  intro fuel
  induction fuel with
  | zero => intro l4 l5 l6 l7 o8 q8 m r  h; cases h
  | succ fuel ih =>
    intro l4 l5 l6 l7 o8 q8 m r  h
    unfold fX11_ways_45 at h
    refine fx_iload dX11_ways_45 rfl rfl ?_
    refine fx_bipush (x := 32) dX11_ways_47 rfl (by decide) ?_
    refine fx_icmp_ge (t := 99) dX11_ways_49 rfl rfl (fun hc1 => ?_) (fun hc1 => ?_)
    · rw [if_pos hc1] at h
      exact fX11_ways_99_ok (o6 := some (.int l6)) (o7 := some (.int l7)) (o8 := o8) hd ha0 rfl rfl q8 h
    · rw [if_neg hc1] at h
      refine fx_iload dX11_ways_52 rfl rfl ?_
      refine fx_iload_n dX11_ways_54 rfl rfl ?_
      obtain ⟨x2, hx2, h⟩ := xLet_el h
      refine fx_isub dX11_ways_55 rfl hx2 ?_
      refine fx_iload_n dX11_ways_56 rfl rfl ?_
      obtain ⟨x3, hx3, h⟩ := xLet_el h
      refine fx_iand dX11_ways_57 rfl hx3 ?_
      refine fx_istore (ls2 := [some (.ref a0), some (.int a1), some (.int a2), some (.int a3), some (.int l4), some (.int l5), some (.int x3), some (.int l7), o8]) dX11_ways_58 rfl rfl rfl ?_
      refine fx_iload dX11_ways_60 rfl rfl ?_
      refine fx_if_ne (t := 68) dX11_ways_62 rfl rfl (fun hc4 => ?_) (fun hc4 => ?_)
      · rw [if_pos hc4] at h
        refine fx_aload_n dX11_ways_68 rfl rfl ?_
        refine fx_iload_n dX11_ways_69 rfl rfl ?_
        refine fx_iload dX11_ways_70 rfl rfl ?_
        refine fx_iload_n dX11_ways_72 rfl rfl ?_
        obtain ⟨p5, ep5, h⟩ := xBind_el h
        refine gx_callv (as := [.int a1, .int x3, .int a2]) (r := []) rfl dX11_ways_73 ca_11_240 rfl me_206 rfl rfl rfl rfl (ha0.1) rfl (fX11_waitedByWays_ok (d := d) (by omega) ha0 ep5) rfl rfl ?_
        refine fx_istore (ls2 := [some (.ref a0), some (.int a1), some (.int a2), some (.int a3), some (.int l4), some (.int l5), some (.int x3), some (.int l7), some (.int p5.1)]) dX11_ways_76 rfl rfl rfl ?_
        refine fx_iload dX11_ways_78 rfl rfl ?_
        refine fx_iload dX11_ways_80 rfl rfl ?_
        refine fx_icmp_ge (t := 93) dX11_ways_82 rfl rfl (fun hc6 => ?_) (fun hc6 => ?_)
        · rw [if_pos hc6] at h
          exact fX11_ways_93_ok (o8 := some (.int p5.1)) hd ha0 ih rfl h
        · rw [if_neg hc6] at h
          refine fx_iload dX11_ways_85 rfl rfl ?_
          refine fx_istore (ls2 := [some (.ref a0), some (.int a1), some (.int a2), some (.int a3), some (.int x3), some (.int l5), some (.int x3), some (.int l7), some (.int p5.1)]) dX11_ways_87 rfl rfl rfl ?_
          refine fx_iload dX11_ways_89 rfl rfl ?_
          refine fx_istore (ls2 := [some (.ref a0), some (.int a1), some (.int a2), some (.int a3), some (.int x3), some (.int p5.1), some (.int x3), some (.int l7), some (.int p5.1)]) dX11_ways_91 rfl rfl rfl ?_
          exact fX11_ways_93_ok (o8 := some (.int p5.1)) hd ha0 ih rfl h
      · rw [if_neg hc4] at h
        refine fx_goto (t := 99) dX11_ways_65 rfl rfl ?_
        exact fX11_ways_99_ok (o6 := some (.int x3)) (o7 := some (.int l7)) (o8 := o8) hd ha0 rfl rfl q8 h
def fX11_ways_0 (a0 : Nat) (a1 : Int32) (a2 : Int32) (a3 : Int32) (m : xMem) : Option (Int32 × xMem) := (fX11_within a3 (0 : Int32) (1 : Int32) m).bind fun p1 => if p1.1 = (0 : Int32) then fX11_ways_25 a0 a1 a2 a3 p1.2 else (fX11_mayRun a0 a2 p1.2).bind fun p3 => if p3.1 = (0 : Int32) then fX11_ways_25 a0 a1 a2 a3 p3.2 else (fX11_mayTurn a0 a1 p3.2).bind fun p5 => if ¬ p5.1 = (0 : Int32) then (fX11_waitedByWays a0 a1 (0 : Int32) a2 p5.2).bind fun p7 => fX11_ways_45 a0 a1 a2 a3 xFuel (0 : Int32) p7.1 (0 : Int32) (1 : Int32) p7.2 else fX11_ways_25 a0 a1 a2 a3 p5.2
set_option maxRecDepth 4000 in
theorem fX11_ways_0_ok {a0 : Nat} {a1 : Int32} {a2 : Int32} {a3 : Int32} {d : Nat} (hd : 7 ≤ d) (ha0 : isMS a0) {o4 : Option Value} {o5 : Option Value} {o6 : Option Value} {o7 : Option Value} {o8 : Option Value} {m : xMem} {r : (Int32 × xMem)} (q4 : xNoD o4 = true) (q5 : xNoD o5 = true) (q6 : xNoD o6 = true) (q7 : xNoD o7 = true) (q8 : xNoD o8 = true) (h : fX11_ways_0 a0 a1 a2 a3 m = some r) : xFx hh_203 cX11_ways d 0 [some (.ref a0), some (.int a1), some (.int a2), some (.int a3), o4, o5, o6, o7, o8] [] (xLay m) 0 0 (some (.int r.1)) (xLay r.2) := by
  unfold fX11_ways_0 at h
  refine fx_iload_n dX11_ways_0 rfl rfl ?_
  refine fx_iconst (x := 0) dX11_ways_1 rfl (by decide) ?_
  refine fx_iconst (x := 1) dX11_ways_2 rfl (by decide) ?_
  obtain ⟨p1, ep1, h⟩ := xBind_el h
  refine gx_calls (as := [.int a3, .int (0 : Int32), .int (1 : Int32)]) (r := []) rfl dX11_ways_3 ca_11_47 rfl me_14 rfl rfl rfl rfl (fX11_within_ok (d := d) (by omega) ep1) rfl rfl ?_
  refine fx_if_eq (t := 25) dX11_ways_6 rfl rfl (fun hc2 => ?_) (fun hc2 => ?_)
  · rw [if_pos hc2] at h
    exact fX11_ways_25_ok (o4 := o4) (o5 := o5) (o6 := o6) (o7 := o7) (o8 := o8) hd ha0 q4 q5 q6 q7 q8 h
  · rw [if_neg hc2] at h
    refine fx_aload_n dX11_ways_9 rfl rfl ?_
    refine fx_iload_n dX11_ways_10 rfl rfl ?_
    obtain ⟨p3, ep3, h⟩ := xBind_el h
    refine gx_callv (as := [.int a2]) (r := []) rfl dX11_ways_11 ca_11_159 rfl me_116 rfl rfl rfl rfl (ha0.1) rfl (fX11_mayRun_ok (d := d) (by omega) ha0 ep3) rfl rfl ?_
    refine fx_if_eq (t := 25) dX11_ways_14 rfl rfl (fun hc4 => ?_) (fun hc4 => ?_)
    · rw [if_pos hc4] at h
      exact fX11_ways_25_ok (o4 := o4) (o5 := o5) (o6 := o6) (o7 := o7) (o8 := o8) hd ha0 q4 q5 q6 q7 q8 h
    · rw [if_neg hc4] at h
      refine fx_aload_n dX11_ways_17 rfl rfl ?_
      refine fx_iload_n dX11_ways_18 rfl rfl ?_
      obtain ⟨p5, ep5, h⟩ := xBind_el h
      refine gx_callv (as := [.int a1]) (r := []) rfl dX11_ways_19 ca_11_237 rfl me_204 rfl rfl rfl rfl (ha0.1) rfl (fX11_mayTurn_ok (d := d) (by omega) ha0 ep5) rfl rfl ?_
      refine fx_if_ne (t := 27) dX11_ways_22 rfl rfl (fun hc6 => ?_) (fun hc6 => ?_)
      · rw [if_pos hc6] at h
        refine fx_iconst (x := 0) dX11_ways_27 rfl (by decide) ?_
        refine fx_istore (ls2 := [some (.ref a0), some (.int a1), some (.int a2), some (.int a3), some (.int (0 : Int32)), o5, o6, o7, o8]) dX11_ways_28 rfl rfl rfl ?_
        refine fx_aload_n dX11_ways_30 rfl rfl ?_
        refine fx_iload_n dX11_ways_31 rfl rfl ?_
        refine fx_iconst (x := 0) dX11_ways_32 rfl (by decide) ?_
        refine fx_iload_n dX11_ways_33 rfl rfl ?_
        obtain ⟨p7, ep7, h⟩ := xBind_el h
        refine gx_callv (as := [.int a1, .int (0 : Int32), .int a2]) (r := []) rfl dX11_ways_34 ca_11_240 rfl me_206 rfl rfl rfl rfl (ha0.1) rfl (fX11_waitedByWays_ok (d := d) (by omega) ha0 ep7) rfl rfl ?_
        refine fx_istore (ls2 := [some (.ref a0), some (.int a1), some (.int a2), some (.int a3), some (.int (0 : Int32)), some (.int p7.1), o6, o7, o8]) dX11_ways_37 rfl rfl rfl ?_
        refine fx_iconst (x := 0) dX11_ways_39 rfl (by decide) ?_
        refine fx_istore (ls2 := [some (.ref a0), some (.int a1), some (.int a2), some (.int a3), some (.int (0 : Int32)), some (.int p7.1), some (.int (0 : Int32)), o7, o8]) dX11_ways_40 rfl rfl rfl ?_
        refine fx_iconst (x := 1) dX11_ways_42 rfl (by decide) ?_
        refine fx_istore (ls2 := [some (.ref a0), some (.int a1), some (.int a2), some (.int a3), some (.int (0 : Int32)), some (.int p7.1), some (.int (0 : Int32)), some (.int (1 : Int32)), o8]) dX11_ways_43 rfl rfl rfl ?_
        exact fX11_ways_45_ok hd ha0 xFuel (0 : Int32) p7.1 (0 : Int32) (1 : Int32) (o8) q8 p7.2 r h
      · rw [if_neg hc6] at h
        exact fX11_ways_25_ok (o4 := o4) (o5 := o5) (o6 := o6) (o7 := o7) (o8 := o8) hd ha0 q4 q5 q6 q7 q8 h
def fX11_ways (a0 : Nat) (a1 : Int32) (a2 : Int32) (a3 : Int32) (m : xMem) : Option (Int32 × xMem) := fX11_ways_0 a0 a1 a2 a3  m
theorem fX11_ways_ok {a0 : Nat} {a1 : Int32} {a2 : Int32} {a3 : Int32} {m : xMem} {r : (Int32 × xMem)} {d : Nat} (hd : 8 ≤ d) (ha0 : isMS a0) (h : fX11_ways a0 a1 a2 a3 m = some r) : xEx d 203 [.ref a0, .int a1, .int a2, .int a3] (xLay m) (some (.int r.1)) (xLay r.2) := by
  obtain ⟨d, rfl⟩ : ∃ q, d = q + 1 := ⟨d - 1, by omega⟩
  exact xEx_of me_203 rfl (fX11_ways_0_ok (d := d) (o4 := none) (o5 := none) (o6 := none) (o7 := none) (o8 := none) (by omega) ha0 rfl rfl rfl rfl rfl h)
def fX12_areStairs_58 (a0 : Nat) (a1 : Int32) (rec27 : Int32 → Int32 → Int32 → xMem → Option (Int32 × xMem)) (l2 : Int32) (l3 : Int32) (l4 : Int32) (m : xMem) : Option (Int32 × xMem) := xLet (l4 + (1 : Int32)) fun x1 => rec27 l2 l3 x1 m
set_option maxRecDepth 4000 in
theorem fX12_areStairs_58_ok {a0 : Nat} {a1 : Int32} {rec27 : Int32 → Int32 → Int32 → xMem → Option (Int32 × xMem)} {d : Nat} (hd : 3 ≤ d) (ha0 : isModel a0) (hrec27 : ∀ (l2 : Int32) (l3 : Int32) (l4 : Int32) (m : xMem) (r : (Int32 × xMem)), rec27 l2 l3 l4 m = some r → xFx hh_213 cX12_areStairs d 27 [some (.ref a0), some (.int a1), some (.int l2), some (.int l3), some (.int l4)] [] (xLay m) 0 0 (some (.int r.1)) (xLay r.2)) {l2 : Int32} {l3 : Int32} {l4 : Int32} {m : xMem} {r : (Int32 × xMem)} (h : fX12_areStairs_58 a0 a1 rec27 l2 l3 l4 m = some r) : xFx hh_213 cX12_areStairs d 58 [some (.ref a0), some (.int a1), some (.int l2), some (.int l3), some (.int l4)] [] (xLay m) 0 0 (some (.int r.1)) (xLay r.2) := by
  unfold fX12_areStairs_58 at h
  obtain ⟨x1, hx1, h⟩ := xLet_el h
  refine fx_iinc (ls2 := [some (.ref a0), some (.int a1), some (.int l2), some (.int l3), some (.int x1)]) dX12_areStairs_58 rfl rfl rfl hx1 rfl ?_
  refine fx_goto (t := 27) dX12_areStairs_61 rfl rfl ?_
  exact hrec27 l2 l3 x1 m r h
def fX12_areStairs_79 (a0 : Nat) (a1 : Int32) (s0 : Int32) (m : xMem) : Option (Int32 × xMem) := bif (decide (s0 = 0) || decide (s0 = 1)) then some (s0, m) else none
set_option maxRecDepth 4000 in
theorem fX12_areStairs_79_ok {a0 : Nat} {a1 : Int32} {d : Nat} (hd : 3 ≤ d) (ha0 : isModel a0) {s0 : Int32} {o2 : Option Value} {o3 : Option Value} {o4 : Option Value} {m : xMem} {r : (Int32 × xMem)} (q2 : xNoD o2 = true) (q3 : xNoD o3 = true) (q4 : xNoD o4 = true) (h : fX12_areStairs_79 a0 a1 s0 m = some r) : xFx hh_213 cX12_areStairs d 79 [some (.ref a0), some (.int a1), o2, o3, o4] [.int s0] (xLay m) 0 0 (some (.int r.1)) (xLay r.2) := by
  unfold fX12_areStairs_79 at h
  obtain ⟨hb1, h⟩ := xChk_el h
  cases h
  exact fx_ireturn dX12_areStairs_79 rfl (by show ((decide _ || decide _) && _) = true; rw [hb1]; rfl)
def fX12_areStairs_78 (a0 : Nat) (a1 : Int32) (m : xMem) : Option (Int32 × xMem) := fX12_areStairs_79 a0 a1 (0 : Int32) m
set_option maxRecDepth 4000 in
theorem fX12_areStairs_78_ok {a0 : Nat} {a1 : Int32} {d : Nat} (hd : 3 ≤ d) (ha0 : isModel a0) {o2 : Option Value} {o3 : Option Value} {o4 : Option Value} {m : xMem} {r : (Int32 × xMem)} (q2 : xNoD o2 = true) (q3 : xNoD o3 = true) (q4 : xNoD o4 = true) (h : fX12_areStairs_78 a0 a1 m = some r) : xFx hh_213 cX12_areStairs d 78 [some (.ref a0), some (.int a1), o2, o3, o4] [] (xLay m) 0 0 (some (.int r.1)) (xLay r.2) := by
  unfold fX12_areStairs_78 at h
  refine fx_iconst (x := 0) dX12_areStairs_78 rfl (by decide) ?_
  exact fX12_areStairs_79_ok (o2 := o2) (o3 := o3) (o4 := o4) hd ha0 q2 q3 q4 h
def fX12_areStairs_64 (a0 : Nat) (a1 : Int32) (l2 : Int32) (l3 : Int32) (m : xMem) : Option (Int32 × xMem) := if l3 = (0 : Int32) then fX12_areStairs_78 a0 a1 m else if (6 : Int32) ≤ l2 then fX12_areStairs_78 a0 a1 m else fX12_areStairs_79 a0 a1 (1 : Int32) m
set_option maxRecDepth 4000 in
theorem fX12_areStairs_64_ok {a0 : Nat} {a1 : Int32} {d : Nat} (hd : 3 ≤ d) (ha0 : isModel a0) {l2 : Int32} {l3 : Int32} {o4 : Option Value} {m : xMem} {r : (Int32 × xMem)} (q4 : xNoD o4 = true) (h : fX12_areStairs_64 a0 a1 l2 l3 m = some r) : xFx hh_213 cX12_areStairs d 64 [some (.ref a0), some (.int a1), some (.int l2), some (.int l3), o4] [] (xLay m) 0 0 (some (.int r.1)) (xLay r.2) := by
  unfold fX12_areStairs_64 at h
  refine fx_iload_n dX12_areStairs_64 rfl rfl ?_
  refine fx_if_eq (t := 78) dX12_areStairs_65 rfl rfl (fun hc1 => ?_) (fun hc1 => ?_)
  · rw [if_pos hc1] at h
    exact fX12_areStairs_78_ok (o2 := some (.int l2)) (o3 := some (.int l3)) (o4 := o4) hd ha0 rfl rfl q4 h
  · rw [if_neg hc1] at h
    refine fx_iload_n dX12_areStairs_68 rfl rfl ?_
    refine fx_bipush (x := 6) dX12_areStairs_69 rfl (by decide) ?_
    refine fx_icmp_ge (t := 78) dX12_areStairs_71 rfl rfl (fun hc2 => ?_) (fun hc2 => ?_)
    · rw [if_pos hc2] at h
      exact fX12_areStairs_78_ok (o2 := some (.int l2)) (o3 := some (.int l3)) (o4 := o4) hd ha0 rfl rfl q4 h
    · rw [if_neg hc2] at h
      refine fx_iconst (x := 1) dX12_areStairs_74 rfl (by decide) ?_
      refine fx_goto (t := 79) dX12_areStairs_75 rfl rfl ?_
      exact fX12_areStairs_79_ok (o2 := some (.int l2)) (o3 := some (.int l3)) (o4 := o4) hd ha0 rfl rfl q4 h
def fX12_areStairs_27 (a0 : Nat) (a1 : Int32) : Nat → Int32 → Int32 → Int32 → xMem → Option (Int32 × xMem)
  | 0, _, _, _, _ => none
  | fuel + 1, l2, l3, l4, m => if (10 : Int32) ≤ l4 then fX12_areStairs_64 a0 a1 l2 l3 m else if l3 = (0 : Int32) then fX12_areStairs_64 a0 a1 l2 l3 m else xLet (a1 >>> (l4 &&& 31)) fun x3 => xLet (x3 &&& (1 : Int32)) fun x4 => if ¬ x4 = (1 : Int32) then fX12_areStairs_58 a0 a1 (fX12_areStairs_27 a0 a1 fuel) l2 l3 l4 m else (fX12_isStairs a0 l4 m).bind fun p6 => xLet (l2 + (1 : Int32)) fun x7 => fX12_areStairs_58 a0 a1 (fX12_areStairs_27 a0 a1 fuel) x7 p6.1 l4 p6.2
set_option maxRecDepth 4000 in
theorem fX12_areStairs_27_ok {a0 : Nat} {a1 : Int32} {d : Nat} (hd : 3 ≤ d) (ha0 : isModel a0) : ∀ (fuel : Nat) (l2 : Int32) (l3 : Int32) (l4 : Int32) (m : xMem) (r : (Int32 × xMem)), fX12_areStairs_27 a0 a1 fuel l2 l3 l4 m = some r → xFx hh_213 cX12_areStairs d 27 [some (.ref a0), some (.int a1), some (.int l2), some (.int l3), some (.int l4)] [] (xLay m) 0 0 (some (.int r.1)) (xLay r.2) := by
  intro fuel
  induction fuel with
  | zero => intro l2 l3 l4  m r  h; cases h
  | succ fuel ih =>
    intro l2 l3 l4  m r  h
    unfold fX12_areStairs_27 at h
    refine fx_iload dX12_areStairs_27 rfl rfl ?_
    refine fx_bipush (x := 10) dX12_areStairs_29 rfl (by decide) ?_
    refine fx_icmp_ge (t := 64) dX12_areStairs_31 rfl rfl (fun hc1 => ?_) (fun hc1 => ?_)
    · rw [if_pos hc1] at h
      exact fX12_areStairs_64_ok (o4 := some (.int l4)) hd ha0 rfl h
    · rw [if_neg hc1] at h
      refine fx_iload_n dX12_areStairs_34 rfl rfl ?_
      refine fx_if_eq (t := 64) dX12_areStairs_35 rfl rfl (fun hc2 => ?_) (fun hc2 => ?_)
      · rw [if_pos hc2] at h
        exact fX12_areStairs_64_ok (o4 := some (.int l4)) hd ha0 rfl h
      · rw [if_neg hc2] at h
        refine fx_iload_n dX12_areStairs_38 rfl rfl ?_
        refine fx_iload dX12_areStairs_39 rfl rfl ?_
        obtain ⟨x3, hx3, h⟩ := xLet_el h
        refine fx_ishr dX12_areStairs_41 rfl hx3 ?_
        refine fx_iconst (x := 1) dX12_areStairs_42 rfl (by decide) ?_
        obtain ⟨x4, hx4, h⟩ := xLet_el h
        refine fx_iand dX12_areStairs_43 rfl hx4 ?_
        refine fx_iconst (x := 1) dX12_areStairs_44 rfl (by decide) ?_
        refine fx_icmp_ne (t := 58) dX12_areStairs_45 rfl rfl (fun hc5 => ?_) (fun hc5 => ?_)
        · rw [if_pos hc5] at h
          exact fX12_areStairs_58_ok hd ha0 ih h
        · rw [if_neg hc5] at h
          refine fx_aload_n dX12_areStairs_48 rfl rfl ?_
          refine fx_iload dX12_areStairs_49 rfl rfl ?_
          obtain ⟨p6, ep6, h⟩ := xBind_el h
          refine gx_callv (as := [.int l4]) (r := []) rfl dX12_areStairs_51 ca_12_114 rfl me_32 rfl rfl rfl rfl (ha0.1) rfl (fX12_isStairs_ok (d := d) (by omega) ha0 ep6) rfl rfl ?_
          refine fx_istore_n (ls2 := [some (.ref a0), some (.int a1), some (.int l2), some (.int p6.1), some (.int l4)]) dX12_areStairs_54 rfl rfl rfl ?_
          obtain ⟨x7, hx7, h⟩ := xLet_el h
          refine fx_iinc (ls2 := [some (.ref a0), some (.int a1), some (.int x7), some (.int p6.1), some (.int l4)]) dX12_areStairs_55 rfl rfl rfl hx7 rfl ?_
          exact fX12_areStairs_58_ok hd ha0 ih h
def fX12_areStairs_23 (a0 : Nat) (a1 : Int32) (l2 : Int32) (s0 : Int32) (m : xMem) : Option (Int32 × xMem) := fX12_areStairs_27 a0 a1 xFuel l2 s0 (0 : Int32) m
set_option maxRecDepth 4000 in
theorem fX12_areStairs_23_ok {a0 : Nat} {a1 : Int32} {d : Nat} (hd : 3 ≤ d) (ha0 : isModel a0) {l2 : Int32} {s0 : Int32} {o3 : Option Value} {o4 : Option Value} {m : xMem} {r : (Int32 × xMem)} (q3 : xNoD o3 = true) (q4 : xNoD o4 = true) (h : fX12_areStairs_23 a0 a1 l2 s0 m = some r) : xFx hh_213 cX12_areStairs d 23 [some (.ref a0), some (.int a1), some (.int l2), o3, o4] [.int s0] (xLay m) 0 0 (some (.int r.1)) (xLay r.2) := by
  unfold fX12_areStairs_23 at h
  refine fx_istore_n (ls2 := [some (.ref a0), some (.int a1), some (.int l2), some (.int s0), o4]) dX12_areStairs_23 rfl rfl rfl ?_
  refine fx_iconst (x := 0) dX12_areStairs_24 rfl (by decide) ?_
  refine fx_istore (ls2 := [some (.ref a0), some (.int a1), some (.int l2), some (.int s0), some (.int (0 : Int32))]) dX12_areStairs_25 rfl rfl rfl ?_
  exact fX12_areStairs_27_ok hd ha0 xFuel l2 s0 (0 : Int32) m r h
def fX12_areStairs_22 (a0 : Nat) (a1 : Int32) (l2 : Int32) (m : xMem) : Option (Int32 × xMem) := fX12_areStairs_23 a0 a1 l2 (0 : Int32) m
set_option maxRecDepth 4000 in
theorem fX12_areStairs_22_ok {a0 : Nat} {a1 : Int32} {d : Nat} (hd : 3 ≤ d) (ha0 : isModel a0) {l2 : Int32} {o3 : Option Value} {o4 : Option Value} {m : xMem} {r : (Int32 × xMem)} (q3 : xNoD o3 = true) (q4 : xNoD o4 = true) (h : fX12_areStairs_22 a0 a1 l2 m = some r) : xFx hh_213 cX12_areStairs d 22 [some (.ref a0), some (.int a1), some (.int l2), o3, o4] [] (xLay m) 0 0 (some (.int r.1)) (xLay r.2) := by
  unfold fX12_areStairs_22 at h
  refine fx_iconst (x := 0) dX12_areStairs_22 rfl (by decide) ?_
  exact fX12_areStairs_23_ok (o3 := o3) (o4 := o4) hd ha0 q3 q4 h
def fX12_areStairs_0 (a0 : Nat) (a1 : Int32) (m : xMem) : Option (Int32 × xMem) := if a1 ≤ (0 : Int32) then fX12_areStairs_22 a0 a1 (0 : Int32) m else bif xIn (2 : Int32) 1610 then xLet (m.1 (a0 + 1) (2 : Int32).toNatClampNeg) fun x2 => xLet ((1 : Int32) <<< (x2 &&& 31)) fun x4 => if x4 ≤ a1 then fX12_areStairs_22 a0 a1 (0 : Int32) m else fX12_areStairs_23 a0 a1 (0 : Int32) (1 : Int32) m else none
set_option maxRecDepth 4000 in
theorem fX12_areStairs_0_ok {a0 : Nat} {a1 : Int32} {d : Nat} (hd : 3 ≤ d) (ha0 : isModel a0) {o2 : Option Value} {o3 : Option Value} {o4 : Option Value} {m : xMem} {r : (Int32 × xMem)} (q2 : xNoD o2 = true) (q3 : xNoD o3 = true) (q4 : xNoD o4 = true) (h : fX12_areStairs_0 a0 a1 m = some r) : xFx hh_213 cX12_areStairs d 0 [some (.ref a0), some (.int a1), o2, o3, o4] [] (xLay m) 0 0 (some (.int r.1)) (xLay r.2) := by
  unfold fX12_areStairs_0 at h
  refine fx_iconst (x := 0) dX12_areStairs_0 rfl (by decide) ?_
  refine fx_istore_n (ls2 := [some (.ref a0), some (.int a1), some (.int (0 : Int32)), o3, o4]) dX12_areStairs_1 rfl rfl rfl ?_
  refine fx_iload_n dX12_areStairs_2 rfl rfl ?_
  refine fx_if_le (t := 22) dX12_areStairs_3 rfl rfl (fun hc1 => ?_) (fun hc1 => ?_)
  · rw [if_pos hc1] at h
    exact fX12_areStairs_22_ok (o3 := o3) (o4 := o4) hd ha0 q3 q4 h
  · rw [if_neg hc1] at h
    refine fx_iload_n dX12_areStairs_6 rfl rfl ?_
    refine fx_iconst (x := 1) dX12_areStairs_7 rfl (by decide) ?_
    refine fx_aload_n dX12_areStairs_8 rfl rfl ?_
    refine gx_getr dX12_areStairs_9 rfl fd_12_7 ha0.1 rfl rfl ?_
    refine fx_iconst (x := 2) dX12_areStairs_12 rfl (by decide) ?_
    obtain ⟨hj3, h⟩ := xChk_el h
    obtain ⟨x2, hx2, h⟩ := xLet_el h
    refine gx_iaload dX12_areStairs_13 rfl ha0.2.1 hj3 hx2 ?_
    obtain ⟨x4, hx4, h⟩ := xLet_el h
    refine fx_ishl dX12_areStairs_14 rfl hx4 ?_
    refine fx_icmp_ge (t := 22) dX12_areStairs_15 rfl rfl (fun hc5 => ?_) (fun hc5 => ?_)
    · rw [if_pos hc5] at h
      exact fX12_areStairs_22_ok (o3 := o3) (o4 := o4) hd ha0 q3 q4 h
    · rw [if_neg hc5] at h
      refine fx_iconst (x := 1) dX12_areStairs_18 rfl (by decide) ?_
      refine fx_goto (t := 23) dX12_areStairs_19 rfl rfl ?_
      exact fX12_areStairs_23_ok (o3 := o3) (o4 := o4) hd ha0 q3 q4 h
def fX12_areStairs (a0 : Nat) (a1 : Int32) (m : xMem) : Option (Int32 × xMem) := fX12_areStairs_0 a0 a1  m
theorem fX12_areStairs_ok {a0 : Nat} {a1 : Int32} {m : xMem} {r : (Int32 × xMem)} {d : Nat} (hd : 4 ≤ d) (ha0 : isModel a0) (h : fX12_areStairs a0 a1 m = some r) : xEx d 213 [.ref a0, .int a1] (xLay m) (some (.int r.1)) (xLay r.2) := by
  obtain ⟨d, rfl⟩ : ∃ q, d = q + 1 := ⟨d - 1, by omega⟩
  exact xEx_of me_213 rfl (fX12_areStairs_0_ok (d := d) (o2 := none) (o3 := none) (o4 := none) (by omega) ha0 rfl rfl rfl h)
def fX12_saves_2 (a0 : Nat) : Nat → Int32 → xMem → Option xMem
  | 0, _, _ => none
  | fuel + 1, l1, m => if (1610 : Int32) ≤ l1 then some m else bif xIn l1 1610 then xLet (m.1 (a0 + 1) l1.toNatClampNeg) fun x2 => bif xIn l1 1610 then xLet (xPut m (a0 + 3) l1.toNatClampNeg x2) fun m4 => xLet (l1 + (1 : Int32)) fun x6 => fX12_saves_2 a0 fuel x6 m4 else none else none
set_option maxRecDepth 4000 in
theorem fX12_saves_2_ok {a0 : Nat} {d : Nat} (hd : 0 ≤ d) (ha0 : isModel a0) : ∀ (fuel : Nat) (l1 : Int32) (m : xMem) (r : xMem), fX12_saves_2 a0 fuel l1 m = some r → xFx hh_214 cX12_saves d 2 [some (.ref a0), some (.int l1)] [] (xLay m) 0 0 none (xLay r) := by
  intro fuel
  induction fuel with
  | zero => intro l1  m r  h; cases h
  | succ fuel ih =>
    intro l1  m r  h
    unfold fX12_saves_2 at h
    refine fx_iload_n dX12_saves_2 rfl rfl ?_
    refine fx_sipush (x := 1610) dX12_saves_3 rfl (by decide) ?_
    refine fx_icmp_ge (t := 27) dX12_saves_6 rfl rfl (fun hc1 => ?_) (fun hc1 => ?_)
    · rw [if_pos hc1] at h
      cases h
      exact fx_return dX12_saves_27 rfl rfl
    · rw [if_neg hc1] at h
      refine fx_aload_n dX12_saves_9 rfl rfl ?_
      refine gx_getr dX12_saves_10 rfl fd_12_16 ha0.1 rfl rfl ?_
      refine fx_iload_n dX12_saves_13 rfl rfl ?_
      refine fx_aload_n dX12_saves_14 rfl rfl ?_
      refine gx_getr dX12_saves_15 rfl fd_12_7 ha0.1 rfl rfl ?_
      refine fx_iload_n dX12_saves_18 rfl rfl ?_
      obtain ⟨hj3, h⟩ := xChk_el h
      obtain ⟨x2, hx2, h⟩ := xLet_el h
      refine gx_iaload dX12_saves_19 rfl ha0.2.1 hj3 hx2 ?_
      obtain ⟨hj5, h⟩ := xChk_el h
      obtain ⟨m4, hm4, h⟩ := xLet_el h
      refine gx_iastore dX12_saves_20 rfl ha0.2.2.2.1 hj5 hm4 ?_
      obtain ⟨x6, hx6, h⟩ := xLet_el h
      refine fx_iinc (ls2 := [some (.ref a0), some (.int x6)]) dX12_saves_21 rfl rfl rfl hx6 rfl ?_
      refine fx_goto (t := 2) dX12_saves_24 rfl rfl ?_
      exact ih x6 m4 r h
def fX12_saves_0 (a0 : Nat) (m : xMem) : Option xMem := fX12_saves_2 a0 xFuel (0 : Int32) m
set_option maxRecDepth 4000 in
theorem fX12_saves_0_ok {a0 : Nat} {d : Nat} (hd : 0 ≤ d) (ha0 : isModel a0) {o1 : Option Value} {m : xMem} {r : xMem} (q1 : xNoD o1 = true) (h : fX12_saves_0 a0 m = some r) : xFx hh_214 cX12_saves d 0 [some (.ref a0), o1] [] (xLay m) 0 0 none (xLay r) := by
  unfold fX12_saves_0 at h
  refine fx_iconst (x := 0) dX12_saves_0 rfl (by decide) ?_
  refine fx_istore_n (ls2 := [some (.ref a0), some (.int (0 : Int32))]) dX12_saves_1 rfl rfl rfl ?_
  exact fX12_saves_2_ok hd ha0 xFuel (0 : Int32) m r h
def fX12_saves (a0 : Nat) (m : xMem) : Option xMem := fX12_saves_0 a0  m
theorem fX12_saves_ok {a0 : Nat} {m : xMem} {r : xMem} {d : Nat} (hd : 1 ≤ d) (ha0 : isModel a0) (h : fX12_saves a0 m = some r) : xEx d 214 [.ref a0] (xLay m) none (xLay r) := by
  obtain ⟨d, rfl⟩ : ∃ q, d = q + 1 := ⟨d - 1, by omega⟩
  exact xEx_of me_214 rfl (fX12_saves_0_ok (d := d) (o1 := none) (by omega) ha0 rfl h)
def fX12_runs_2 (a0 : Nat) (a1 : Int32) : Nat → Int32 → xMem → Option xMem
  | 0, _, _ => none
  | fuel + 1, l2, m => if a1 ≤ l2 then some m else (fX12_second a0 m).bind fun p2 => xLet (l2 + (1 : Int32)) fun x3 => fX12_runs_2 a0 a1 fuel x3 p2
set_option maxRecDepth 4000 in
theorem fX12_runs_2_ok {a0 : Nat} {a1 : Int32} {d : Nat} (hd : 6 ≤ d) (ha0 : isModel a0) : ∀ (fuel : Nat) (l2 : Int32) (m : xMem) (r : xMem), fX12_runs_2 a0 a1 fuel l2 m = some r → xFx hh_215 cX12_runs d 2 [some (.ref a0), some (.int a1), some (.int l2)] [] (xLay m) 0 0 none (xLay r) := by
  intro fuel
  induction fuel with
  | zero => intro l2  m r  h; cases h
  | succ fuel ih =>
    intro l2  m r  h
    unfold fX12_runs_2 at h
    refine fx_iload_n dX12_runs_2 rfl rfl ?_
    refine fx_iload_n dX12_runs_3 rfl rfl ?_
    refine fx_icmp_ge (t := 17) dX12_runs_4 rfl rfl (fun hc1 => ?_) (fun hc1 => ?_)
    · rw [if_pos hc1] at h
      cases h
      exact fx_return dX12_runs_17 rfl rfl
    · rw [if_neg hc1] at h
      refine fx_aload_n dX12_runs_7 rfl rfl ?_
      obtain ⟨p2, ep2, h⟩ := xBind_el h
      refine gx_callv (as := []) (r := []) rfl dX12_runs_8 ca_12_380 rfl me_164 rfl rfl rfl rfl (ha0.1) rfl (fX12_second_ok (d := d) (by omega) ha0 ep2) rfl rfl ?_
      obtain ⟨x3, hx3, h⟩ := xLet_el h
      refine fx_iinc (ls2 := [some (.ref a0), some (.int a1), some (.int x3)]) dX12_runs_11 rfl rfl rfl hx3 rfl ?_
      refine fx_goto (t := 2) dX12_runs_14 rfl rfl ?_
      exact ih x3 p2 r h
def fX12_runs_0 (a0 : Nat) (a1 : Int32) (m : xMem) : Option xMem := fX12_runs_2 a0 a1 xFuel (0 : Int32) m
set_option maxRecDepth 4000 in
theorem fX12_runs_0_ok {a0 : Nat} {a1 : Int32} {d : Nat} (hd : 6 ≤ d) (ha0 : isModel a0) {o2 : Option Value} {m : xMem} {r : xMem} (q2 : xNoD o2 = true) (h : fX12_runs_0 a0 a1 m = some r) : xFx hh_215 cX12_runs d 0 [some (.ref a0), some (.int a1), o2] [] (xLay m) 0 0 none (xLay r) := by
  unfold fX12_runs_0 at h
  refine fx_iconst (x := 0) dX12_runs_0 rfl (by decide) ?_
  refine fx_istore_n (ls2 := [some (.ref a0), some (.int a1), some (.int (0 : Int32))]) dX12_runs_1 rfl rfl rfl ?_
  exact fX12_runs_2_ok hd ha0 xFuel (0 : Int32) m r h
def fX12_runs (a0 : Nat) (a1 : Int32) (m : xMem) : Option xMem := fX12_runs_0 a0 a1  m
theorem fX12_runs_ok {a0 : Nat} {a1 : Int32} {m : xMem} {r : xMem} {d : Nat} (hd : 7 ≤ d) (ha0 : isModel a0) (h : fX12_runs a0 a1 m = some r) : xEx d 215 [.ref a0, .int a1] (xLay m) none (xLay r) := by
  obtain ⟨d, rfl⟩ : ∃ q, d = q + 1 := ⟨d - 1, by omega⟩
  exact xEx_of me_215 rfl (fX12_runs_0_ok (d := d) (o2 := none) (by omega) ha0 rfl h)
def fX12_putsBack_2 (a0 : Nat) : Nat → Int32 → xMem → Option xMem
  | 0, _, _ => none
  | fuel + 1, l1, m => if (1610 : Int32) ≤ l1 then some m else bif xIn l1 1610 then xLet (m.1 (a0 + 3) l1.toNatClampNeg) fun x2 => bif xIn l1 1610 then xLet (xPut m (a0 + 1) l1.toNatClampNeg x2) fun m4 => xLet (l1 + (1 : Int32)) fun x6 => fX12_putsBack_2 a0 fuel x6 m4 else none else none
set_option maxRecDepth 4000 in
theorem fX12_putsBack_2_ok {a0 : Nat} {d : Nat} (hd : 0 ≤ d) (ha0 : isModel a0) : ∀ (fuel : Nat) (l1 : Int32) (m : xMem) (r : xMem), fX12_putsBack_2 a0 fuel l1 m = some r → xFx hh_216 cX12_putsBack d 2 [some (.ref a0), some (.int l1)] [] (xLay m) 0 0 none (xLay r) := by
  intro fuel
  induction fuel with
  | zero => intro l1  m r  h; cases h
  | succ fuel ih =>
    intro l1  m r  h
    unfold fX12_putsBack_2 at h
    refine fx_iload_n dX12_putsBack_2 rfl rfl ?_
    refine fx_sipush (x := 1610) dX12_putsBack_3 rfl (by decide) ?_
    refine fx_icmp_ge (t := 27) dX12_putsBack_6 rfl rfl (fun hc1 => ?_) (fun hc1 => ?_)
    · rw [if_pos hc1] at h
      cases h
      exact fx_return dX12_putsBack_27 rfl rfl
    · rw [if_neg hc1] at h
      refine fx_aload_n dX12_putsBack_9 rfl rfl ?_
      refine gx_getr dX12_putsBack_10 rfl fd_12_7 ha0.1 rfl rfl ?_
      refine fx_iload_n dX12_putsBack_13 rfl rfl ?_
      refine fx_aload_n dX12_putsBack_14 rfl rfl ?_
      refine gx_getr dX12_putsBack_15 rfl fd_12_16 ha0.1 rfl rfl ?_
      refine fx_iload_n dX12_putsBack_18 rfl rfl ?_
      obtain ⟨hj3, h⟩ := xChk_el h
      obtain ⟨x2, hx2, h⟩ := xLet_el h
      refine gx_iaload dX12_putsBack_19 rfl ha0.2.2.2.1 hj3 hx2 ?_
      obtain ⟨hj5, h⟩ := xChk_el h
      obtain ⟨m4, hm4, h⟩ := xLet_el h
      refine gx_iastore dX12_putsBack_20 rfl ha0.2.1 hj5 hm4 ?_
      obtain ⟨x6, hx6, h⟩ := xLet_el h
      refine fx_iinc (ls2 := [some (.ref a0), some (.int x6)]) dX12_putsBack_21 rfl rfl rfl hx6 rfl ?_
      refine fx_goto (t := 2) dX12_putsBack_24 rfl rfl ?_
      exact ih x6 m4 r h
def fX12_putsBack_0 (a0 : Nat) (m : xMem) : Option xMem := fX12_putsBack_2 a0 xFuel (0 : Int32) m
set_option maxRecDepth 4000 in
theorem fX12_putsBack_0_ok {a0 : Nat} {d : Nat} (hd : 0 ≤ d) (ha0 : isModel a0) {o1 : Option Value} {m : xMem} {r : xMem} (q1 : xNoD o1 = true) (h : fX12_putsBack_0 a0 m = some r) : xFx hh_216 cX12_putsBack d 0 [some (.ref a0), o1] [] (xLay m) 0 0 none (xLay r) := by
  unfold fX12_putsBack_0 at h
  refine fx_iconst (x := 0) dX12_putsBack_0 rfl (by decide) ?_
  refine fx_istore_n (ls2 := [some (.ref a0), some (.int (0 : Int32))]) dX12_putsBack_1 rfl rfl rfl ?_
  exact fX12_putsBack_2_ok hd ha0 xFuel (0 : Int32) m r h
def fX12_putsBack (a0 : Nat) (m : xMem) : Option xMem := fX12_putsBack_0 a0  m
theorem fX12_putsBack_ok {a0 : Nat} {m : xMem} {r : xMem} {d : Nat} (hd : 1 ≤ d) (ha0 : isModel a0) (h : fX12_putsBack a0 m = some r) : xEx d 216 [.ref a0] (xLay m) none (xLay r) := by
  obtain ⟨d, rfl⟩ : ∃ q, d = q + 1 := ⟨d - 1, by omega⟩
  exact xEx_of me_216 rfl (fX12_putsBack_0_ok (d := d) (o1 := none) (by omega) ha0 rfl h)
