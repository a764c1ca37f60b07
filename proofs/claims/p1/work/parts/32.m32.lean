theorem dX12_felt_0 : decode cX12_felt 0 = .ok (.aload_n 0, 1) := by decide +kernel
theorem dX12_felt_1 : decode cX12_felt 1 = .ok (.iload_n 1, 1) := by decide +kernel
theorem dX12_felt_2 : decode cX12_felt 2 = .ok (.invokevirtual 398, 3) := by decide +kernel
theorem dX12_felt_5 : decode cX12_felt 5 = .ok (.ifCond .eq 11, 3) := by decide +kernel
theorem dX12_felt_8 : decode cX12_felt 8 = .ok (.aload_n 0, 1) := by decide +kernel
theorem dX12_felt_9 : decode cX12_felt 9 = .ok (.iload_n 2, 1) := by decide +kernel
theorem dX12_felt_10 : decode cX12_felt 10 = .ok (.invokevirtual 377, 3) := by decide +kernel
theorem dX12_felt_13 : decode cX12_felt 13 = .ok (.ifCond .ne 5, 3) := by decide +kernel
theorem dX12_felt_16 : decode cX12_felt 16 = .ok (.iconst (-1), 1) := by decide +kernel
theorem dX12_felt_17 : decode cX12_felt 17 = .ok (.ireturn, 1) := by decide +kernel
theorem dX12_felt_18 : decode cX12_felt 18 = .ok (.aload_n 0, 1) := by decide +kernel
theorem dX12_felt_19 : decode cX12_felt 19 = .ok (.invokevirtual 386, 3) := by decide +kernel
theorem dX12_felt_22 : decode cX12_felt 22 = .ok (.aload_n 0, 1) := by decide +kernel
theorem dX12_felt_23 : decode cX12_felt 23 = .ok (.iload_n 1, 1) := by decide +kernel
theorem dX12_felt_24 : decode cX12_felt 24 = .ok (.invokevirtual 304, 3) := by decide +kernel
theorem dX12_felt_27 : decode cX12_felt 27 = .ok (.istore_n 3, 1) := by decide +kernel
theorem dX12_felt_28 : decode cX12_felt 28 = .ok (.aload_n 0, 1) := by decide +kernel
theorem dX12_felt_29 : decode cX12_felt 29 = .ok (.iload_n 1, 1) := by decide +kernel
theorem dX12_felt_30 : decode cX12_felt 30 = .ok (.iconst 0, 1) := by decide +kernel
theorem dX12_felt_31 : decode cX12_felt 31 = .ok (.invokevirtual 389, 3) := by decide +kernel
theorem dX12_felt_34 : decode cX12_felt 34 = .ok (.istore 4, 2) := by decide +kernel
theorem dX12_felt_36 : decode cX12_felt 36 = .ok (.iconst (-1), 1) := by decide +kernel
theorem dX12_felt_37 : decode cX12_felt 37 = .ok (.istore 5, 2) := by decide +kernel
theorem dX12_felt_39 : decode cX12_felt 39 = .ok (.iconst 0, 1) := by decide +kernel
theorem dX12_felt_40 : decode cX12_felt 40 = .ok (.istore 6, 2) := by decide +kernel
theorem dX12_felt_42 : decode cX12_felt 42 = .ok (.iload 6, 2) := by decide +kernel
theorem dX12_felt_44 : decode cX12_felt 44 = .ok (.iload_n 2, 1) := by decide +kernel
theorem dX12_felt_45 : decode cX12_felt 45 = .ok (.if_icmp .ge 35, 3) := by decide +kernel
theorem dX12_felt_48 : decode cX12_felt 48 = .ok (.iload 5, 2) := by decide +kernel
theorem dX12_felt_50 : decode cX12_felt 50 = .ok (.iconst (-1), 1) := by decide +kernel
theorem dX12_felt_51 : decode cX12_felt 51 = .ok (.if_icmp .ne 29, 3) := by decide +kernel
theorem dX12_felt_54 : decode cX12_felt 54 = .ok (.aload_n 0, 1) := by decide +kernel
theorem dX12_felt_55 : decode cX12_felt 55 = .ok (.invokevirtual 380, 3) := by decide +kernel
theorem dX12_felt_58 : decode cX12_felt 58 = .ok (.aload_n 0, 1) := by decide +kernel
theorem dX12_felt_59 : decode cX12_felt 59 = .ok (.iload_n 3, 1) := by decide +kernel
theorem dX12_felt_60 : decode cX12_felt 60 = .ok (.invokevirtual 374, 3) := by decide +kernel
theorem dX12_felt_63 : decode cX12_felt 63 = .ok (.ifCond .eq 8, 3) := by decide +kernel
theorem dX12_felt_66 : decode cX12_felt 66 = .ok (.iload 6, 2) := by decide +kernel
theorem dX12_felt_68 : decode cX12_felt 68 = .ok (.goto 4, 3) := by decide +kernel
theorem dX12_felt_71 : decode cX12_felt 71 = .ok (.iconst (-1), 1) := by decide +kernel
theorem dX12_felt_72 : decode cX12_felt 72 = .ok (.istore 5, 2) := by decide +kernel
theorem dX12_felt_74 : decode cX12_felt 74 = .ok (.iinc 6 1, 3) := by decide +kernel
theorem dX12_felt_77 : decode cX12_felt 77 = .ok (.goto (-35), 3) := by decide +kernel
theorem dX12_felt_80 : decode cX12_felt 80 = .ok (.aload_n 0, 1) := by decide +kernel
theorem dX12_felt_81 : decode cX12_felt 81 = .ok (.invokevirtual 395, 3) := by decide +kernel
theorem dX12_felt_84 : decode cX12_felt 84 = .ok (.iload 5, 2) := by decide +kernel
theorem dX12_felt_86 : decode cX12_felt 86 = .ok (.ireturn, 1) := by decide +kernel
theorem dX11_offByMode_0 : decode cX11_offByMode 0 = .ok (.iload_n 1, 1) := by decide +kernel
theorem dX11_offByMode_1 : decode cX11_offByMode 1 = .ok (.iconst 0, 1) := by decide +kernel
theorem dX11_offByMode_2 : decode cX11_offByMode 2 = .ok (.bipush 9, 2) := by decide +kernel
theorem dX11_offByMode_4 : decode cX11_offByMode 4 = .ok (.invokestatic 47, 3) := by decide +kernel
theorem dX11_offByMode_7 : decode cX11_offByMode 7 = .ok (.ifCond .ne 5, 3) := by decide +kernel
theorem dX11_offByMode_10 : decode cX11_offByMode 10 = .ok (.iconst 0, 1) := by decide +kernel
theorem dX11_offByMode_11 : decode cX11_offByMode 11 = .ok (.ireturn, 1) := by decide +kernel
theorem dX11_offByMode_12 : decode cX11_offByMode 12 = .ok (.aload_n 0, 1) := by decide +kernel
theorem dX11_offByMode_13 : decode cX11_offByMode 13 = .ok (.invokevirtual 246, 3) := by decide +kernel
theorem dX11_offByMode_16 : decode cX11_offByMode 16 = .ok (.astore 4, 2) := by decide +kernel
theorem dX11_offByMode_18 : decode cX11_offByMode 18 = .ok (.aload_n 0, 1) := by decide +kernel
theorem dX11_offByMode_19 : decode cX11_offByMode 19 = .ok (.getfield 19, 3) := by decide +kernel
theorem dX11_offByMode_22 : decode cX11_offByMode 22 = .ok (.getfield 75, 3) := by decide +kernel
theorem dX11_offByMode_25 : decode cX11_offByMode 25 = .ok (.iload_n 1, 1) := by decide +kernel
theorem dX11_offByMode_26 : decode cX11_offByMode 26 = .ok (.aaload, 1) := by decide +kernel
theorem dX11_offByMode_27 : decode cX11_offByMode 27 = .ok (.iload_n 2, 1) := by decide +kernel
theorem dX11_offByMode_28 : decode cX11_offByMode 28 = .ok (.putfield 93, 3) := by decide +kernel
theorem dX11_offByMode_31 : decode cX11_offByMode 31 = .ok (.iconst 0, 1) := by decide +kernel
theorem dX11_offByMode_32 : decode cX11_offByMode 32 = .ok (.istore 5, 2) := by decide +kernel
theorem dX11_offByMode_34 : decode cX11_offByMode 34 = .ok (.iload 5, 2) := by decide +kernel
theorem dX11_offByMode_36 : decode cX11_offByMode 36 = .ok (.iload_n 3, 1) := by decide +kernel
theorem dX11_offByMode_37 : decode cX11_offByMode 37 = .ok (.if_icmp .ge 22, 3) := by decide +kernel
theorem dX11_offByMode_40 : decode cX11_offByMode 40 = .ok (.aload_n 0, 1) := by decide +kernel
theorem dX11_offByMode_41 : decode cX11_offByMode 41 = .ok (.getfield 25, 3) := by decide +kernel
theorem dX11_offByMode_44 : decode cX11_offByMode 44 = .ok (.aload_n 0, 1) := by decide +kernel
theorem dX11_offByMode_45 : decode cX11_offByMode 45 = .ok (.getfield 19, 3) := by decide +kernel
theorem dX11_offByMode_48 : decode cX11_offByMode 48 = .ok (.aload 4, 2) := by decide +kernel
theorem dX11_offByMode_50 : decode cX11_offByMode 50 = .ok (.invokevirtual 169, 3) := by decide +kernel
theorem dX11_offByMode_53 : decode cX11_offByMode 53 = .ok (.iinc 5 1, 3) := by decide +kernel
theorem dX11_offByMode_56 : decode cX11_offByMode 56 = .ok (.goto (-22), 3) := by decide +kernel
theorem dX11_offByMode_59 : decode cX11_offByMode 59 = .ok (.aload_n 0, 1) := by decide +kernel
theorem dX11_offByMode_60 : decode cX11_offByMode 60 = .ok (.getfield 19, 3) := by decide +kernel
theorem dX11_offByMode_63 : decode cX11_offByMode 63 = .ok (.getfield 75, 3) := by decide +kernel
theorem dX11_offByMode_66 : decode cX11_offByMode 66 = .ok (.iload_n 1, 1) := by decide +kernel
theorem dX11_offByMode_67 : decode cX11_offByMode 67 = .ok (.aaload, 1) := by decide +kernel
theorem dX11_offByMode_68 : decode cX11_offByMode 68 = .ok (.getfield 203, 3) := by decide +kernel
theorem dX11_offByMode_71 : decode cX11_offByMode 71 = .ok (.aload_n 0, 1) := by decide +kernel
theorem dX11_offByMode_72 : decode cX11_offByMode 72 = .ok (.getfield 10, 3) := by decide +kernel
theorem dX11_offByMode_75 : decode cX11_offByMode 75 = .ok (.getfield 75, 3) := by decide +kernel
theorem dX11_offByMode_78 : decode cX11_offByMode 78 = .ok (.iload_n 1, 1) := by decide +kernel
theorem dX11_offByMode_79 : decode cX11_offByMode 79 = .ok (.aaload, 1) := by decide +kernel
theorem dX11_offByMode_80 : decode cX11_offByMode 80 = .ok (.getfield 203, 3) := by decide +kernel
theorem dX11_offByMode_83 : decode cX11_offByMode 83 = .ok (.isub, 1) := by decide +kernel
theorem dX11_offByMode_84 : decode cX11_offByMode 84 = .ok (.ireturn, 1) := by decide +kernel
theorem dX11_standing_0 : decode cX11_standing 0 = .ok (.aload_n 0, 1) := by decide +kernel
theorem dX11_standing_1 : decode cX11_standing 1 = .ok (.iload_n 2, 1) := by decide +kernel
theorem dX11_standing_2 : decode cX11_standing 2 = .ok (.invokevirtual 159, 3) := by decide +kernel
theorem dX11_standing_5 : decode cX11_standing 5 = .ok (.ifCond .eq 14, 3) := by decide +kernel
theorem dX11_standing_8 : decode cX11_standing 8 = .ok (.aload_n 0, 1) := by decide +kernel
theorem dX11_standing_9 : decode cX11_standing 9 = .ok (.getfield 10, 3) := by decide +kernel
theorem dX11_standing_12 : decode cX11_standing 12 = .ok (.iload_n 1, 1) := by decide +kernel
theorem dX11_standing_13 : decode cX11_standing 13 = .ok (.invokevirtual 90, 3) := by decide +kernel
theorem dX11_standing_16 : decode cX11_standing 16 = .ok (.ifCond .ne 7, 3) := by decide +kernel
theorem dX11_standing_19 : decode cX11_standing 19 = .ok (.ldc_w 257, 3) := by decide +kernel
theorem dX11_standing_22 : decode cX11_standing 22 = .ok (.ireturn, 1) := by decide +kernel
theorem dX11_standing_23 : decode cX11_standing 23 = .ok (.aload_n 0, 1) := by decide +kernel
theorem dX11_standing_24 : decode cX11_standing 24 = .ok (.iload_n 1, 1) := by decide +kernel
theorem dX11_standing_25 : decode cX11_standing 25 = .ok (.iconst 1, 1) := by decide +kernel
theorem dX11_standing_26 : decode cX11_standing 26 = .ok (.iload_n 2, 1) := by decide +kernel
theorem dX11_standing_27 : decode cX11_standing 27 = .ok (.invokevirtual 258, 3) := by decide +kernel
theorem dX11_standing_30 : decode cX11_standing 30 = .ok (.aload_n 0, 1) := by decide +kernel
theorem dX11_standing_31 : decode cX11_standing 31 = .ok (.iload_n 1, 1) := by decide +kernel
theorem dX11_standing_32 : decode cX11_standing 32 = .ok (.iconst 0, 1) := by decide +kernel
theorem dX11_standing_33 : decode cX11_standing 33 = .ok (.iload_n 2, 1) := by decide +kernel
theorem dX11_standing_34 : decode cX11_standing 34 = .ok (.invokevirtual 258, 3) := by decide +kernel
theorem dX11_standing_37 : decode cX11_standing 37 = .ok (.isub, 1) := by decide +kernel
theorem dX11_standing_38 : decode cX11_standing 38 = .ok (.ireturn, 1) := by decide +kernel
theorem dX12_standing_0 : decode cX12_standing 0 = .ok (.aload_n 0, 1) := by decide +kernel
theorem dX12_standing_1 : decode cX12_standing 1 = .ok (.iload_n 1, 1) := by decide +kernel
theorem dX12_standing_2 : decode cX12_standing 2 = .ok (.invokevirtual 398, 3) := by decide +kernel
theorem dX12_standing_5 : decode cX12_standing 5 = .ok (.ifCond .eq 11, 3) := by decide +kernel
theorem dX12_standing_8 : decode cX12_standing 8 = .ok (.aload_n 0, 1) := by decide +kernel
theorem dX12_standing_9 : decode cX12_standing 9 = .ok (.iload_n 2, 1) := by decide +kernel
theorem dX12_standing_10 : decode cX12_standing 10 = .ok (.invokevirtual 377, 3) := by decide +kernel
theorem dX12_standing_13 : decode cX12_standing 13 = .ok (.ifCond .ne 7, 3) := by decide +kernel
theorem dX12_standing_16 : decode cX12_standing 16 = .ok (.ldc_w 401, 3) := by decide +kernel
theorem dX12_standing_19 : decode cX12_standing 19 = .ok (.ireturn, 1) := by decide +kernel
theorem dX12_standing_20 : decode cX12_standing 20 = .ok (.aload_n 0, 1) := by decide +kernel
theorem dX12_standing_21 : decode cX12_standing 21 = .ok (.invokevirtual 386, 3) := by decide +kernel
theorem dX12_standing_24 : decode cX12_standing 24 = .ok (.iconst 0, 1) := by decide +kernel
theorem dX12_standing_25 : decode cX12_standing 25 = .ok (.istore_n 3, 1) := by decide +kernel
theorem dX12_standing_26 : decode cX12_standing 26 = .ok (.iconst 0, 1) := by decide +kernel
theorem dX12_standing_27 : decode cX12_standing 27 = .ok (.istore 4, 2) := by decide +kernel
theorem dX12_standing_29 : decode cX12_standing 29 = .ok (.iload 4, 2) := by decide +kernel
theorem dX12_standing_31 : decode cX12_standing 31 = .ok (.iconst 2, 1) := by decide +kernel
theorem dX12_standing_32 : decode cX12_standing 32 = .ok (.if_icmp .ge 54, 3) := by decide +kernel
theorem dX12_standing_35 : decode cX12_standing 35 = .ok (.aload_n 0, 1) := by decide +kernel
theorem dX12_standing_36 : decode cX12_standing 36 = .ok (.iload_n 1, 1) := by decide +kernel
theorem dX12_standing_37 : decode cX12_standing 37 = .ok (.bipush 8, 2) := by decide +kernel
theorem dX12_standing_39 : decode cX12_standing 39 = .ok (.iload 4, 2) := by decide +kernel
theorem dX12_standing_41 : decode cX12_standing 41 = .ok (.invokevirtual 110, 3) := by decide +kernel
theorem dX12_standing_44 : decode cX12_standing 44 = .ok (.aload_n 0, 1) := by decide +kernel
theorem dX12_standing_45 : decode cX12_standing 45 = .ok (.iload_n 2, 1) := by decide +kernel
theorem dX12_standing_46 : decode cX12_standing 46 = .ok (.invokevirtual 392, 3) := by decide +kernel
theorem dX12_standing_49 : decode cX12_standing 49 = .ok (.iload_n 3, 1) := by decide +kernel
theorem dX12_standing_50 : decode cX12_standing 50 = .ok (.iload 4, 2) := by decide +kernel
theorem dX12_standing_52 : decode cX12_standing 52 = .ok (.iconst 1, 1) := by decide +kernel
theorem dX12_standing_53 : decode cX12_standing 53 = .ok (.if_icmp .ne 13, 3) := by decide +kernel
theorem dX12_standing_56 : decode cX12_standing 56 = .ok (.aload_n 0, 1) := by decide +kernel
theorem dX12_standing_57 : decode cX12_standing 57 = .ok (.iload_n 1, 1) := by decide +kernel
theorem dX12_standing_58 : decode cX12_standing 58 = .ok (.bipush 11, 2) := by decide +kernel
theorem dX12_standing_60 : decode cX12_standing 60 = .ok (.invokevirtual 103, 3) := by decide +kernel
theorem dX12_standing_63 : decode cX12_standing 63 = .ok (.goto 11, 3) := by decide +kernel
theorem dX12_standing_66 : decode cX12_standing 66 = .ok (.aload_n 0, 1) := by decide +kernel
theorem dX12_standing_67 : decode cX12_standing 67 = .ok (.iload_n 1, 1) := by decide +kernel
theorem dX12_standing_68 : decode cX12_standing 68 = .ok (.bipush 11, 2) := by decide +kernel
theorem dX12_standing_70 : decode cX12_standing 70 = .ok (.invokevirtual 103, 3) := by decide +kernel
theorem dX12_standing_73 : decode cX12_standing 73 = .ok (.ineg, 1) := by decide +kernel
theorem dX12_standing_74 : decode cX12_standing 74 = .ok (.iadd, 1) := by decide +kernel
theorem dX12_standing_75 : decode cX12_standing 75 = .ok (.istore_n 3, 1) := by decide +kernel
theorem dX12_standing_76 : decode cX12_standing 76 = .ok (.aload_n 0, 1) := by decide +kernel
theorem dX12_standing_77 : decode cX12_standing 77 = .ok (.invokevirtual 395, 3) := by decide +kernel
theorem dX12_standing_80 : decode cX12_standing 80 = .ok (.iinc 4 1, 3) := by decide +kernel
theorem dX12_standing_83 : decode cX12_standing 83 = .ok (.goto (-54), 3) := by decide +kernel
theorem dX12_standing_86 : decode cX12_standing 86 = .ok (.iload_n 3, 1) := by decide +kernel
theorem dX12_standing_87 : decode cX12_standing 87 = .ok (.ireturn, 1) := by decide +kernel
theorem dX11_mayStandAlone_0 : decode cX11_mayStandAlone 0 = .ok (.iload_n 0, 1) := by decide +kernel
theorem dX11_mayStandAlone_1 : decode cX11_mayStandAlone 1 = .ok (.iconst 2, 1) := by decide +kernel
theorem dX11_mayStandAlone_2 : decode cX11_mayStandAlone 2 = .ok (.bipush 40, 2) := by decide +kernel
theorem dX11_mayStandAlone_4 : decode cX11_mayStandAlone 4 = .ok (.invokestatic 47, 3) := by decide +kernel
theorem dX11_mayStandAlone_7 : decode cX11_mayStandAlone 7 = .ok (.ifCond .eq 18, 3) := by decide +kernel
theorem dX11_mayStandAlone_10 : decode cX11_mayStandAlone 10 = .ok (.iload_n 1, 1) := by decide +kernel
theorem dX11_mayStandAlone_11 : decode cX11_mayStandAlone 11 = .ok (.iconst 1, 1) := by decide +kernel
theorem dX11_mayStandAlone_12 : decode cX11_mayStandAlone 12 = .ok (.sipush 999, 3) := by decide +kernel
theorem dX11_mayStandAlone_15 : decode cX11_mayStandAlone 15 = .ok (.invokestatic 47, 3) := by decide +kernel
theorem dX11_mayStandAlone_18 : decode cX11_mayStandAlone 18 = .ok (.ifCond .eq 7, 3) := by decide +kernel
theorem dX11_mayStandAlone_21 : decode cX11_mayStandAlone 21 = .ok (.iconst 1, 1) := by decide +kernel
theorem dX11_mayStandAlone_22 : decode cX11_mayStandAlone 22 = .ok (.goto 4, 3) := by decide +kernel
theorem dX11_mayStandAlone_25 : decode cX11_mayStandAlone 25 = .ok (.iconst 0, 1) := by decide +kernel
theorem dX11_mayStandAlone_26 : decode cX11_mayStandAlone 26 = .ok (.ireturn, 1) := by decide +kernel
theorem dX9_buildAlone_0 : decode cX9_buildAlone 0 = .ok (.aload_n 0, 1) := by decide +kernel
theorem dX9_buildAlone_1 : decode cX9_buildAlone 1 = .ok (.iconst 2, 1) := by decide +kernel
theorem dX9_buildAlone_2 : decode cX9_buildAlone 2 = .ok (.putfield 57, 3) := by decide +kernel
theorem dX9_buildAlone_5 : decode cX9_buildAlone 5 = .ok (.aload_n 0, 1) := by decide +kernel
theorem dX9_buildAlone_6 : decode cX9_buildAlone 6 = .ok (.iconst 1, 1) := by decide +kernel
theorem dX9_buildAlone_7 : decode cX9_buildAlone 7 = .ok (.putfield 60, 3) := by decide +kernel
theorem dX9_buildAlone_10 : decode cX9_buildAlone 10 = .ok (.aload_n 0, 1) := by decide +kernel
theorem dX9_buildAlone_11 : decode cX9_buildAlone 11 = .ok (.iconst 0, 1) := by decide +kernel
theorem dX9_buildAlone_12 : decode cX9_buildAlone 12 = .ok (.putfield 110, 3) := by decide +kernel
theorem dX9_buildAlone_15 : decode cX9_buildAlone 15 = .ok (.aload_n 0, 1) := by decide +kernel
theorem dX9_buildAlone_16 : decode cX9_buildAlone 16 = .ok (.getfield 11, 3) := by decide +kernel
theorem dX9_buildAlone_19 : decode cX9_buildAlone 19 = .ok (.iconst 0, 1) := by decide +kernel
theorem dX9_buildAlone_20 : decode cX9_buildAlone 20 = .ok (.aaload, 1) := by decide +kernel
theorem dX9_buildAlone_21 : decode cX9_buildAlone 21 = .ok (.iconst 1, 1) := by decide +kernel
theorem dX9_buildAlone_22 : decode cX9_buildAlone 22 = .ok (.invokevirtual 131, 3) := by decide +kernel
theorem dX9_buildAlone_25 : decode cX9_buildAlone 25 = .ok (.aload_n 0, 1) := by decide +kernel
theorem dX9_buildAlone_26 : decode cX9_buildAlone 26 = .ok (.getfield 11, 3) := by decide +kernel
theorem dX9_buildAlone_29 : decode cX9_buildAlone 29 = .ok (.iconst 1, 1) := by decide +kernel
theorem dX9_buildAlone_30 : decode cX9_buildAlone 30 = .ok (.aaload, 1) := by decide +kernel
theorem dX9_buildAlone_31 : decode cX9_buildAlone 31 = .ok (.iconst 1, 1) := by decide +kernel
theorem dX9_buildAlone_32 : decode cX9_buildAlone 32 = .ok (.invokevirtual 131, 3) := by decide +kernel
theorem dX9_buildAlone_35 : decode cX9_buildAlone 35 = .ok (.aload_n 0, 1) := by decide +kernel
theorem dX9_buildAlone_36 : decode cX9_buildAlone 36 = .ok (.getfield 19, 3) := by decide +kernel
theorem dX9_buildAlone_39 : decode cX9_buildAlone 39 = .ok (.iconst 0, 1) := by decide +kernel
theorem dX9_buildAlone_40 : decode cX9_buildAlone 40 = .ok (.aaload, 1) := by decide +kernel
theorem dX9_buildAlone_41 : decode cX9_buildAlone 41 = .ok (.iconst 0, 1) := by decide +kernel
theorem dX9_buildAlone_42 : decode cX9_buildAlone 42 = .ok (.iconst 0, 1) := by decide +kernel
theorem dX9_buildAlone_43 : decode cX9_buildAlone 43 = .ok (.iconst 1, 1) := by decide +kernel
theorem dX9_buildAlone_44 : decode cX9_buildAlone 44 = .ok (.iload_n 1, 1) := by decide +kernel
theorem dX9_buildAlone_45 : decode cX9_buildAlone 45 = .ok (.iconst 0, 1) := by decide +kernel
theorem dX9_buildAlone_46 : decode cX9_buildAlone 46 = .ok (.invokevirtual 135, 3) := by decide +kernel
theorem dX9_buildAlone_49 : decode cX9_buildAlone 49 = .ok (.aload_n 0, 1) := by decide +kernel
theorem dX9_buildAlone_50 : decode cX9_buildAlone 50 = .ok (.getfield 19, 3) := by decide +kernel
theorem dX9_buildAlone_53 : decode cX9_buildAlone 53 = .ok (.iconst 0, 1) := by decide +kernel
theorem dX9_buildAlone_54 : decode cX9_buildAlone 54 = .ok (.aaload, 1) := by decide +kernel
theorem dX9_buildAlone_55 : decode cX9_buildAlone 55 = .ok (.iload_n 2, 1) := by decide +kernel
theorem dX9_buildAlone_56 : decode cX9_buildAlone 56 = .ok (.putfield 138, 3) := by decide +kernel
theorem dX9_buildAlone_59 : decode cX9_buildAlone 59 = .ok (.aload_n 0, 1) := by decide +kernel
theorem dX9_buildAlone_60 : decode cX9_buildAlone 60 = .ok (.iconst 0, 1) := by decide +kernel
theorem dX9_buildAlone_61 : decode cX9_buildAlone 61 = .ok (.iconst 1, 1) := by decide +kernel
theorem dX9_buildAlone_62 : decode cX9_buildAlone 62 = .ok (.iconst 0, 1) := by decide +kernel
theorem dX9_buildAlone_63 : decode cX9_buildAlone 63 = .ok (.iload_n 3, 1) := by decide +kernel
theorem dX9_buildAlone_64 : decode cX9_buildAlone 64 = .ok (.invokevirtual 141, 3) := by decide +kernel
theorem dX9_buildAlone_67 : decode cX9_buildAlone 67 = .ok (.return_, 1) := by decide +kernel
theorem dX11_carriedAlone_0 : decode cX11_carriedAlone 0 = .ok (.aload_n 0, 1) := by decide +kernel
theorem dX11_carriedAlone_1 : decode cX11_carriedAlone 1 = .ok (.getfield 19, 3) := by decide +kernel
theorem dX11_carriedAlone_4 : decode cX11_carriedAlone 4 = .ok (.iload_n 1, 1) := by decide +kernel
theorem dX11_carriedAlone_5 : decode cX11_carriedAlone 5 = .ok (.iload_n 3, 1) := by decide +kernel
theorem dX11_carriedAlone_6 : decode cX11_carriedAlone 6 = .ok (.iconst 2, 1) := by decide +kernel
theorem dX11_carriedAlone_7 : decode cX11_carriedAlone 7 = .ok (.iload 4, 2) := by decide +kernel
theorem dX11_carriedAlone_9 : decode cX11_carriedAlone 9 = .ok (.imul, 1) := by decide +kernel
theorem dX11_carriedAlone_10 : decode cX11_carriedAlone 10 = .ok (.invokevirtual 329, 3) := by decide +kernel
theorem dX11_carriedAlone_13 : decode cX11_carriedAlone 13 = .ok (.aload_n 0, 1) := by decide +kernel
theorem dX11_carriedAlone_14 : decode cX11_carriedAlone 14 = .ok (.getfield 25, 3) := by decide +kernel
theorem dX11_carriedAlone_17 : decode cX11_carriedAlone 17 = .ok (.invokevirtual 166, 3) := by decide +kernel
theorem dX11_carriedAlone_20 : decode cX11_carriedAlone 20 = .ok (.aload_n 0, 1) := by decide +kernel
theorem dX11_carriedAlone_21 : decode cX11_carriedAlone 21 = .ok (.getfield 25, 3) := by decide +kernel
theorem dX11_carriedAlone_24 : decode cX11_carriedAlone 24 = .ok (.getfield 211, 3) := by decide +kernel
theorem dX11_carriedAlone_27 : decode cX11_carriedAlone 27 = .ok (.aload_n 0, 1) := by decide +kernel
theorem dX11_carriedAlone_28 : decode cX11_carriedAlone 28 = .ok (.getfield 19, 3) := by decide +kernel
theorem dX11_carriedAlone_31 : decode cX11_carriedAlone 31 = .ok (.invokevirtual 215, 3) := by decide +kernel
theorem dX11_carriedAlone_34 : decode cX11_carriedAlone 34 = .ok (.aload_n 0, 1) := by decide +kernel
theorem dX11_carriedAlone_35 : decode cX11_carriedAlone 35 = .ok (.getfield 19, 3) := by decide +kernel
theorem dX11_carriedAlone_38 : decode cX11_carriedAlone 38 = .ok (.getfield 75, 3) := by decide +kernel
theorem dX11_carriedAlone_41 : decode cX11_carriedAlone 41 = .ok (.iconst 0, 1) := by decide +kernel
theorem dX11_carriedAlone_42 : decode cX11_carriedAlone 42 = .ok (.aaload, 1) := by decide +kernel
theorem dX11_carriedAlone_43 : decode cX11_carriedAlone 43 = .ok (.astore 5, 2) := by decide +kernel
theorem dX11_carriedAlone_45 : decode cX11_carriedAlone 45 = .ok (.iconst 0, 1) := by decide +kernel
theorem dX11_carriedAlone_46 : decode cX11_carriedAlone 46 = .ok (.istore 6, 2) := by decide +kernel
theorem dX11_carriedAlone_48 : decode cX11_carriedAlone 48 = .ok (.iload 6, 2) := by decide +kernel
theorem dX11_carriedAlone_50 : decode cX11_carriedAlone 50 = .ok (.iload 4, 2) := by decide +kernel
theorem dX11_carriedAlone_52 : decode cX11_carriedAlone 52 = .ok (.if_icmp .ge 35, 3) := by decide +kernel
theorem dX11_carriedAlone_55 : decode cX11_carriedAlone 55 = .ok (.aload_n 0, 1) := by decide +kernel
theorem dX11_carriedAlone_56 : decode cX11_carriedAlone 56 = .ok (.getfield 25, 3) := by decide +kernel
theorem dX11_carriedAlone_59 : decode cX11_carriedAlone 59 = .ok (.aload_n 0, 1) := by decide +kernel
theorem dX11_carriedAlone_60 : decode cX11_carriedAlone 60 = .ok (.getfield 19, 3) := by decide +kernel
theorem dX11_carriedAlone_63 : decode cX11_carriedAlone 63 = .ok (.aload 5, 2) := by decide +kernel
theorem dX11_carriedAlone_65 : decode cX11_carriedAlone 65 = .ok (.invokevirtual 333, 3) := by decide +kernel
theorem dX11_carriedAlone_68 : decode cX11_carriedAlone 68 = .ok (.aload_n 0, 1) := by decide +kernel
theorem dX11_carriedAlone_69 : decode cX11_carriedAlone 69 = .ok (.getfield 25, 3) := by decide +kernel
theorem dX11_carriedAlone_72 : decode cX11_carriedAlone 72 = .ok (.aload_n 0, 1) := by decide +kernel
theorem dX11_carriedAlone_73 : decode cX11_carriedAlone 73 = .ok (.getfield 19, 3) := by decide +kernel
theorem dX11_carriedAlone_76 : decode cX11_carriedAlone 76 = .ok (.iconst 0, 1) := by decide +kernel
theorem dX11_carriedAlone_77 : decode cX11_carriedAlone 77 = .ok (.iload_n 2, 1) := by decide +kernel
theorem dX11_carriedAlone_78 : decode cX11_carriedAlone 78 = .ok (.invokevirtual 337, 3) := by decide +kernel
theorem dX11_carriedAlone_81 : decode cX11_carriedAlone 81 = .ok (.iinc 6 1, 3) := by decide +kernel
theorem dX11_carriedAlone_84 : decode cX11_carriedAlone 84 = .ok (.goto (-36), 3) := by decide +kernel
theorem dX11_carriedAlone_87 : decode cX11_carriedAlone 87 = .ok (.aload 5, 2) := by decide +kernel
theorem dX11_carriedAlone_89 : decode cX11_carriedAlone 89 = .ok (.getfield 203, 3) := by decide +kernel
theorem dX11_carriedAlone_92 : decode cX11_carriedAlone 92 = .ok (.ireturn, 1) := by decide +kernel
theorem dX11_alone_0 : decode cX11_alone 0 = .ok (.iload_n 2, 1) := by decide +kernel
theorem dX11_alone_1 : decode cX11_alone 1 = .ok (.iconst 0, 1) := by decide +kernel
theorem dX11_alone_2 : decode cX11_alone 2 = .ok (.bipush 10, 2) := by decide +kernel
theorem dX11_alone_4 : decode cX11_alone 4 = .ok (.invokestatic 47, 3) := by decide +kernel
theorem dX11_alone_7 : decode cX11_alone 7 = .ok (.ifCond .eq 21, 3) := by decide +kernel
theorem dX11_alone_10 : decode cX11_alone 10 = .ok (.iload_n 3, 1) := by decide +kernel
theorem dX11_alone_11 : decode cX11_alone 11 = .ok (.iconst 0, 1) := by decide +kernel
theorem dX11_alone_12 : decode cX11_alone 12 = .ok (.iconst 1, 1) := by decide +kernel
theorem dX11_alone_13 : decode cX11_alone 13 = .ok (.invokestatic 47, 3) := by decide +kernel
theorem dX11_alone_16 : decode cX11_alone 16 = .ok (.ifCond .eq 12, 3) := by decide +kernel
theorem dX11_alone_19 : decode cX11_alone 19 = .ok (.iload_n 1, 1) := by decide +kernel
theorem dX11_alone_20 : decode cX11_alone 20 = .ok (.iload 4, 2) := by decide +kernel
theorem dX11_alone_22 : decode cX11_alone 22 = .ok (.invokestatic 261, 3) := by decide +kernel
theorem dX11_alone_25 : decode cX11_alone 25 = .ok (.ifCond .ne 5, 3) := by decide +kernel
theorem dX11_alone_28 : decode cX11_alone 28 = .ok (.iconst (-1), 1) := by decide +kernel
theorem dX11_alone_29 : decode cX11_alone 29 = .ok (.ireturn, 1) := by decide +kernel
theorem dX11_alone_30 : decode cX11_alone 30 = .ok (.aload_n 0, 1) := by decide +kernel
theorem dX11_alone_31 : decode cX11_alone 31 = .ok (.iload_n 1, 1) := by decide +kernel
theorem dX11_alone_32 : decode cX11_alone 32 = .ok (.iload_n 2, 1) := by decide +kernel
theorem dX11_alone_33 : decode cX11_alone 33 = .ok (.iload_n 3, 1) := by decide +kernel
theorem dX11_alone_34 : decode cX11_alone 34 = .ok (.iload 4, 2) := by decide +kernel
theorem dX11_alone_36 : decode cX11_alone 36 = .ok (.invokevirtual 265, 3) := by decide +kernel
theorem dX11_alone_39 : decode cX11_alone 39 = .ok (.ireturn, 1) := by decide +kernel
theorem dX12_loneMoves_0 : decode cX12_loneMoves 0 = .ok (.iconst 0, 1) := by decide +kernel
theorem dX12_loneMoves_1 : decode cX12_loneMoves 1 = .ok (.istore_n 3, 1) := by decide +kernel
theorem dX12_loneMoves_2 : decode cX12_loneMoves 2 = .ok (.iload_n 1, 1) := by decide +kernel
theorem dX12_loneMoves_3 : decode cX12_loneMoves 3 = .ok (.iconst 1, 1) := by decide +kernel
theorem dX12_loneMoves_4 : decode cX12_loneMoves 4 = .ok (.isub, 1) := by decide +kernel
theorem dX12_loneMoves_5 : decode cX12_loneMoves 5 = .ok (.istore 4, 2) := by decide +kernel
theorem dX12_loneMoves_7 : decode cX12_loneMoves 7 = .ok (.iload 4, 2) := by decide +kernel
theorem dX12_loneMoves_9 : decode cX12_loneMoves 9 = .ok (.ifCond .lt 98, 3) := by decide +kernel
theorem dX12_loneMoves_12 : decode cX12_loneMoves 12 = .ok (.bipush 40, 2) := by decide +kernel
theorem dX12_loneMoves_14 : decode cX12_loneMoves 14 = .ok (.iload_n 2, 1) := by decide +kernel
theorem dX12_loneMoves_15 : decode cX12_loneMoves 15 = .ok (.imul, 1) := by decide +kernel
theorem dX12_loneMoves_16 : decode cX12_loneMoves 16 = .ok (.iload 4, 2) := by decide +kernel
theorem dX12_loneMoves_18 : decode cX12_loneMoves 18 = .ok (.iadd, 1) := by decide +kernel
theorem dX12_loneMoves_19 : decode cX12_loneMoves 19 = .ok (.istore 5, 2) := by decide +kernel
theorem dX12_loneMoves_21 : decode cX12_loneMoves 21 = .ok (.aload_n 0, 1) := by decide +kernel
theorem dX12_loneMoves_22 : decode cX12_loneMoves 22 = .ok (.getfield 86, 3) := by decide +kernel
theorem dX12_loneMoves_25 : decode cX12_loneMoves 25 = .ok (.iload 5, 2) := by decide +kernel
theorem dX12_loneMoves_27 : decode cX12_loneMoves 27 = .ok (.iaload, 1) := by decide +kernel
theorem dX12_loneMoves_28 : decode cX12_loneMoves 28 = .ok (.istore 6, 2) := by decide +kernel
theorem dX12_loneMoves_30 : decode cX12_loneMoves 30 = .ok (.aload_n 0, 1) := by decide +kernel
theorem dX12_loneMoves_31 : decode cX12_loneMoves 31 = .ok (.getfield 86, 3) := by decide +kernel
theorem dX12_loneMoves_34 : decode cX12_loneMoves 34 = .ok (.iload 5, 2) := by decide +kernel
theorem dX12_loneMoves_36 : decode cX12_loneMoves 36 = .ok (.iconst 0, 1) := by decide +kernel
theorem dX12_loneMoves_37 : decode cX12_loneMoves 37 = .ok (.iastore, 1) := by decide +kernel
theorem dX12_loneMoves_38 : decode cX12_loneMoves 38 = .ok (.iload 6, 2) := by decide +kernel
theorem dX12_loneMoves_40 : decode cX12_loneMoves 40 = .ok (.ifCond .le 18, 3) := by decide +kernel
theorem dX12_loneMoves_43 : decode cX12_loneMoves 43 = .ok (.iload 4, 2) := by decide +kernel
theorem dX12_loneMoves_45 : decode cX12_loneMoves 45 = .ok (.iload 6, 2) := by decide +kernel
theorem dX12_loneMoves_47 : decode cX12_loneMoves 47 = .ok (.iadd, 1) := by decide +kernel
theorem dX12_loneMoves_48 : decode cX12_loneMoves 48 = .ok (.iload_n 1, 1) := by decide +kernel
theorem dX12_loneMoves_49 : decode cX12_loneMoves 49 = .ok (.if_icmp .lt 9, 3) := by decide +kernel
theorem dX12_loneMoves_52 : decode cX12_loneMoves 52 = .ok (.iinc 3 1, 3) := by decide +kernel
theorem dX12_loneMoves_55 : decode cX12_loneMoves 55 = .ok (.goto 46, 3) := by decide +kernel
theorem dX12_loneMoves_58 : decode cX12_loneMoves 58 = .ok (.iload 6, 2) := by decide +kernel
theorem dX12_loneMoves_60 : decode cX12_loneMoves 60 = .ok (.ifCond .le 41, 3) := by decide +kernel
theorem dX12_loneMoves_63 : decode cX12_loneMoves 63 = .ok (.iload 6, 2) := by decide +kernel
theorem dX12_loneMoves_65 : decode cX12_loneMoves 65 = .ok (.iconst 2, 1) := by decide +kernel
theorem dX12_loneMoves_66 : decode cX12_loneMoves 66 = .ok (.if_icmp .ne 19, 3) := by decide +kernel
theorem dX12_loneMoves_69 : decode cX12_loneMoves 69 = .ok (.aload_n 0, 1) := by decide +kernel
theorem dX12_loneMoves_70 : decode cX12_loneMoves 70 = .ok (.getfield 86, 3) := by decide +kernel
theorem dX12_loneMoves_73 : decode cX12_loneMoves 73 = .ok (.iload 5, 2) := by decide +kernel
theorem dX12_loneMoves_75 : decode cX12_loneMoves 75 = .ok (.iconst 2, 1) := by decide +kernel
theorem dX12_loneMoves_76 : decode cX12_loneMoves 76 = .ok (.iadd, 1) := by decide +kernel
theorem dX12_loneMoves_77 : decode cX12_loneMoves 77 = .ok (.iaload, 1) := by decide +kernel
theorem dX12_loneMoves_78 : decode cX12_loneMoves 78 = .ok (.ifCond .le 7, 3) := by decide +kernel
theorem dX12_loneMoves_81 : decode cX12_loneMoves 81 = .ok (.iconst 1, 1) := by decide +kernel
theorem dX12_loneMoves_82 : decode cX12_loneMoves 82 = .ok (.goto 5, 3) := by decide +kernel
theorem dX12_loneMoves_85 : decode cX12_loneMoves 85 = .ok (.iload 6, 2) := by decide +kernel
theorem dX12_loneMoves_87 : decode cX12_loneMoves 87 = .ok (.istore 7, 2) := by decide +kernel
theorem dX12_loneMoves_89 : decode cX12_loneMoves 89 = .ok (.aload_n 0, 1) := by decide +kernel
theorem dX12_loneMoves_90 : decode cX12_loneMoves 90 = .ok (.getfield 86, 3) := by decide +kernel
theorem dX12_loneMoves_93 : decode cX12_loneMoves 93 = .ok (.iload 5, 2) := by decide +kernel
theorem dX12_loneMoves_95 : decode cX12_loneMoves 95 = .ok (.iload 7, 2) := by decide +kernel
theorem dX12_loneMoves_97 : decode cX12_loneMoves 97 = .ok (.iadd, 1) := by decide +kernel
theorem dX12_loneMoves_98 : decode cX12_loneMoves 98 = .ok (.iload 6, 2) := by decide +kernel
theorem dX12_loneMoves_100 : decode cX12_loneMoves 100 = .ok (.iastore, 1) := by decide +kernel
theorem dX12_loneMoves_101 : decode cX12_loneMoves 101 = .ok (.iinc 4 (-1), 3) := by decide +kernel
theorem dX12_loneMoves_104 : decode cX12_loneMoves 104 = .ok (.goto (-97), 3) := by decide +kernel
theorem dX12_loneMoves_107 : decode cX12_loneMoves 107 = .ok (.iload_n 3, 1) := by decide +kernel
theorem dX12_loneMoves_108 : decode cX12_loneMoves 108 = .ok (.ireturn, 1) := by decide +kernel
def fX12_felt_16 (a0 : Nat) (a1 : Int32) (a2 : Int32) (m : xMem) : Option (Int32 × xMem) := some ((-1 : Int32), m)
set_option maxRecDepth 4000 in
theorem fX12_felt_16_ok {a0 : Nat} {a1 : Int32} {a2 : Int32} {d : Nat} (hd : 6 ≤ d) (ha0 : isModel a0) {o3 : Option Value} {o4 : Option Value} {o5 : Option Value} {o6 : Option Value} {m : xMem} {r : (Int32 × xMem)} (q3 : xNoD o3 = true) (q4 : xNoD o4 = true) (q5 : xNoD o5 = true) (q6 : xNoD o6 = true) (h : fX12_felt_16 a0 a1 a2 m = some r) : xFx hh_222 cX12_felt d 16 [some (.ref a0), some (.int a1), some (.int a2), o3, o4, o5, o6] [] (xLay m) 0 0 (some (.int r.1)) (xLay r.2) := by
  unfold fX12_felt_16 at h
  refine fx_iconst (x := -1) dX12_felt_16 rfl (by decide) ?_
  cases h
  exact fx_ireturn dX12_felt_17 rfl rfl
def fX12_felt_72 (a0 : Nat) (a1 : Int32) (a2 : Int32) (rec42 : Int32 → Int32 → Int32 → xMem → Option (Int32 × xMem)) (l3 : Int32) (l6 : Int32) (s0 : Int32) (m : xMem) : Option (Int32 × xMem) := xLet (l6 + (1 : Int32)) fun x1 => rec42 l3 s0 x1 m
set_option maxRecDepth 4000 in
theorem fX12_felt_72_ok {a0 : Nat} {a1 : Int32} {a2 : Int32} {rec42 : Int32 → Int32 → Int32 → xMem → Option (Int32 × xMem)} {d : Nat} (hd : 6 ≤ d) (ha0 : isModel a0) (hrec42 : ∀ (l3 : Int32) (l5 : Int32) (l6 : Int32) (o4 : Option Value) (q4 : xNoD o4 = true) (m : xMem) (r : (Int32 × xMem)), rec42 l3 l5 l6 m = some r → xFx hh_222 cX12_felt d 42 [some (.ref a0), some (.int a1), some (.int a2), some (.int l3), o4, some (.int l5), some (.int l6)] [] (xLay m) 0 0 (some (.int r.1)) (xLay r.2)) {l3 : Int32} {l6 : Int32} {s0 : Int32} {o4 : Option Value} {o5 : Option Value} {m : xMem} {r : (Int32 × xMem)} (q4 : xNoD o4 = true) (q5 : xNoD o5 = true) (h : fX12_felt_72 a0 a1 a2 rec42 l3 l6 s0 m = some r) : xFx hh_222 cX12_felt d 72 [some (.ref a0), some (.int a1), some (.int a2), some (.int l3), o4, o5, some (.int l6)] [.int s0] (xLay m) 0 0 (some (.int r.1)) (xLay r.2) := by
  unfold fX12_felt_72 at h
  refine fx_istore (ls2 := [some (.ref a0), some (.int a1), some (.int a2), some (.int l3), o4, some (.int s0), some (.int l6)]) dX12_felt_72 rfl (xGd (j := 4) rfl rfl q4 rfl) rfl ?_
  obtain ⟨x1, hx1, h⟩ := xLet_el h
  refine fx_iinc (ls2 := [some (.ref a0), some (.int a1), some (.int a2), some (.int l3), o4, some (.int s0), some (.int x1)]) dX12_felt_74 rfl rfl rfl hx1 rfl ?_
  refine fx_goto (t := 42) dX12_felt_77 rfl rfl ?_
  exact hrec42 l3 s0 x1 (o4) q4 m r h
def fX12_felt_80 (a0 : Nat) (a1 : Int32) (a2 : Int32) (l5 : Int32) (m : xMem) : Option (Int32 × xMem) := (fX12_putsBack a0 m).bind fun p1 => some (l5, p1)
set_option maxRecDepth 4000 in
theorem fX12_felt_80_ok {a0 : Nat} {a1 : Int32} {a2 : Int32} {d : Nat} (hd : 6 ≤ d) (ha0 : isModel a0) {l5 : Int32} {o3 : Option Value} {o4 : Option Value} {o6 : Option Value} {m : xMem} {r : (Int32 × xMem)} (q3 : xNoD o3 = true) (q4 : xNoD o4 = true) (q6 : xNoD o6 = true) (h : fX12_felt_80 a0 a1 a2 l5 m = some r) : xFx hh_222 cX12_felt d 80 [some (.ref a0), some (.int a1), some (.int a2), o3, o4, some (.int l5), o6] [] (xLay m) 0 0 (some (.int r.1)) (xLay r.2) := by
  unfold fX12_felt_80 at h
  refine fx_aload_n dX12_felt_80 rfl rfl ?_
  obtain ⟨p1, ep1, h⟩ := xBind_el h
  refine gx_callv (as := []) (r := []) rfl dX12_felt_81 ca_12_395 rfl me_216 rfl rfl rfl rfl (ha0.1) rfl (fX12_putsBack_ok (d := d) (by omega) ha0 ep1) rfl rfl ?_
  refine fx_iload dX12_felt_84 rfl rfl ?_
  cases h
  exact fx_ireturn dX12_felt_86 rfl rfl
def fX12_felt_42 (a0 : Nat) (a1 : Int32) (a2 : Int32) : Nat → Int32 → Int32 → Int32 → xMem → Option (Int32 × xMem)
  | 0, _, _, _, _ => none
  | fuel + 1, l3, l5, l6, m => if a2 ≤ l6 then fX12_felt_80 a0 a1 a2 l5 m else if ¬ l5 = (-1 : Int32) then fX12_felt_80 a0 a1 a2 l5 m else (fX12_second a0 m).bind fun p3 => (fX12_isOver a0 l3 p3).bind fun p4 => if p4.1 = (0 : Int32) then fX12_felt_72 a0 a1 a2 (fX12_felt_42 a0 a1 a2 fuel) l3 l6 (-1 : Int32) p4.2 else fX12_felt_72 a0 a1 a2 (fX12_felt_42 a0 a1 a2 fuel) l3 l6 l6 p4.2
set_option maxRecDepth 4000 in
theorem fX12_felt_42_ok {a0 : Nat} {a1 : Int32} {a2 : Int32} {d : Nat} (hd : 6 ≤ d) (ha0 : isModel a0) : ∀ (fuel : Nat) (l3 : Int32) (l5 : Int32) (l6 : Int32) (o4 : Option Value) (q4 : xNoD o4 = true) (m : xMem) (r : (Int32 × xMem)), fX12_felt_42 a0 a1 a2 fuel l3 l5 l6 m = some r → xFx hh_222 cX12_felt d 42 [some (.ref a0), some (.int a1), some (.int a2), some (.int l3), o4, some (.int l5), some (.int l6)] [] (xLay m) 0 0 (some (.int r.1)) (xLay r.2) := by
  intro fuel
  induction fuel with
  | zero => intro l3 l5 l6 o4 q4 m r  h; cases h
  | succ fuel ih =>
    intro l3 l5 l6 o4 q4 m r  h
    unfold fX12_felt_42 at h
    refine fx_iload dX12_felt_42 rfl rfl ?_
    refine fx_iload_n dX12_felt_44 rfl rfl ?_
    refine fx_icmp_ge (t := 80) dX12_felt_45 rfl rfl (fun hc1 => ?_) (fun hc1 => ?_)
    · rw [if_pos hc1] at h
      exact fX12_felt_80_ok (o3 := some (.int l3)) (o4 := o4) (o6 := some (.int l6)) hd ha0 rfl q4 rfl h
    · rw [if_neg hc1] at h
      refine fx_iload dX12_felt_48 rfl rfl ?_
      refine fx_iconst (x := -1) dX12_felt_50 rfl (by decide) ?_
      refine fx_icmp_ne (t := 80) dX12_felt_51 rfl rfl (fun hc2 => ?_) (fun hc2 => ?_)
      · rw [if_pos hc2] at h
        exact fX12_felt_80_ok (o3 := some (.int l3)) (o4 := o4) (o6 := some (.int l6)) hd ha0 rfl q4 rfl h
      · rw [if_neg hc2] at h
        refine fx_aload_n dX12_felt_54 rfl rfl ?_
        obtain ⟨p3, ep3, h⟩ := xBind_el h
        refine gx_callv (as := []) (r := []) rfl dX12_felt_55 ca_12_380 rfl me_164 rfl rfl rfl rfl (ha0.1) rfl (fX12_second_ok (d := d) (by omega) ha0 ep3) rfl rfl ?_
        refine fx_aload_n dX12_felt_58 rfl rfl ?_
        refine fx_iload_n dX12_felt_59 rfl rfl ?_
        obtain ⟨p4, ep4, h⟩ := xBind_el h
        refine gx_callv (as := [.int l3]) (r := []) rfl dX12_felt_60 ca_12_374 rfl me_192 rfl rfl rfl rfl (ha0.1) rfl (fX12_isOver_ok (d := d) (by omega) ha0 ep4) rfl rfl ?_
        refine fx_if_eq (t := 71) dX12_felt_63 rfl rfl (fun hc5 => ?_) (fun hc5 => ?_)
        · rw [if_pos hc5] at h
          refine fx_iconst (x := -1) dX12_felt_71 rfl (by decide) ?_
          exact fX12_felt_72_ok (o4 := o4) (o5 := some (.int l5)) hd ha0 ih q4 rfl h
        · rw [if_neg hc5] at h
          refine fx_iload dX12_felt_66 rfl rfl ?_
          refine fx_goto (t := 72) dX12_felt_68 rfl rfl ?_
          exact fX12_felt_72_ok (o4 := o4) (o5 := some (.int l5)) hd ha0 ih q4 rfl h
def fX12_felt_0 (a0 : Nat) (a1 : Int32) (a2 : Int32) (m : xMem) : Option (Int32 × xMem) := (fX12_isStair a0 a1 m).bind fun p1 => if p1.1 = (0 : Int32) then fX12_felt_16 a0 a1 a2 p1.2 else (fX12_isRun a0 a2 p1.2).bind fun p3 => if ¬ p3.1 = (0 : Int32) then (fX12_saves a0 p3.2).bind fun p5 => (fX12_footOf a0 a1 p5).bind fun p6 => (fX12_turn a0 a1 (0 : Int32) p6.2).bind fun p7 => fX12_felt_42 a0 a1 a2 xFuel p6.1 (-1 : Int32) (0 : Int32) p7.2 else fX12_felt_16 a0 a1 a2 p3.2
set_option maxRecDepth 4000 in
theorem fX12_felt_0_ok {a0 : Nat} {a1 : Int32} {a2 : Int32} {d : Nat} (hd : 6 ≤ d) (ha0 : isModel a0) {o3 : Option Value} {o4 : Option Value} {o5 : Option Value} {o6 : Option Value} {m : xMem} {r : (Int32 × xMem)} (q3 : xNoD o3 = true) (q4 : xNoD o4 = true) (q5 : xNoD o5 = true) (q6 : xNoD o6 = true) (h : fX12_felt_0 a0 a1 a2 m = some r) : xFx hh_222 cX12_felt d 0 [some (.ref a0), some (.int a1), some (.int a2), o3, o4, o5, o6] [] (xLay m) 0 0 (some (.int r.1)) (xLay r.2) := by
  unfold fX12_felt_0 at h
  refine fx_aload_n dX12_felt_0 rfl rfl ?_
  refine fx_iload_n dX12_felt_1 rfl rfl ?_
  obtain ⟨p1, ep1, h⟩ := xBind_el h
  refine gx_callv (as := [.int a1]) (r := []) rfl dX12_felt_2 ca_12_398 rfl me_223 rfl rfl rfl rfl (ha0.1) rfl (fX12_isStair_ok (d := d) (by omega) ha0 ep1) rfl rfl ?_
  refine fx_if_eq (t := 16) dX12_felt_5 rfl rfl (fun hc2 => ?_) (fun hc2 => ?_)
  · rw [if_pos hc2] at h
    exact fX12_felt_16_ok (o3 := o3) (o4 := o4) (o5 := o5) (o6 := o6) hd ha0 q3 q4 q5 q6 h
  · rw [if_neg hc2] at h
    refine fx_aload_n dX12_felt_8 rfl rfl ?_
    refine fx_iload_n dX12_felt_9 rfl rfl ?_
    obtain ⟨p3, ep3, h⟩ := xBind_el h
    refine gx_callv (as := [.int a2]) (r := []) rfl dX12_felt_10 ca_12_377 rfl me_163 rfl rfl rfl rfl (ha0.1) rfl (fX12_isRun_ok (d := d) (by omega) ha0 ep3) rfl rfl ?_
    refine fx_if_ne (t := 18) dX12_felt_13 rfl rfl (fun hc4 => ?_) (fun hc4 => ?_)
    · rw [if_pos hc4] at h
      refine fx_aload_n dX12_felt_18 rfl rfl ?_
      obtain ⟨p5, ep5, h⟩ := xBind_el h
      refine gx_callv (as := []) (r := []) rfl dX12_felt_19 ca_12_386 rfl me_214 rfl rfl rfl rfl (ha0.1) rfl (fX12_saves_ok (d := d) (by omega) ha0 ep5) rfl rfl ?_
      refine fx_aload_n dX12_felt_22 rfl rfl ?_
      refine fx_iload_n dX12_felt_23 rfl rfl ?_
      obtain ⟨p6, ep6, h⟩ := xBind_el h
      refine gx_callv (as := [.int a1]) (r := []) rfl dX12_felt_24 ca_12_304 rfl me_178 rfl rfl rfl rfl (ha0.1) rfl (fX12_footOf_ok (d := d) (by omega) ha0 ep6) rfl rfl ?_
      refine fx_istore_n (ls2 := [some (.ref a0), some (.int a1), some (.int a2), some (.int p6.1), o4, o5, o6]) dX12_felt_27 rfl rfl rfl ?_
      refine fx_aload_n dX12_felt_28 rfl rfl ?_
      refine fx_iload_n dX12_felt_29 rfl rfl ?_
      refine fx_iconst (x := 0) dX12_felt_30 rfl (by decide) ?_
      obtain ⟨p7, ep7, h⟩ := xBind_el h
      refine gx_callv (as := [.int a1, .int (0 : Int32)]) (r := []) rfl dX12_felt_31 ca_12_389 rfl me_31 rfl rfl rfl rfl (ha0.1) rfl (fX12_turn_ok (d := d) (by omega) ha0 ep7) rfl rfl ?_
      refine fx_istore (ls2 := [some (.ref a0), some (.int a1), some (.int a2), some (.int p6.1), some (.int p7.1), o5, o6]) dX12_felt_34 rfl rfl rfl ?_
      refine fx_iconst (x := -1) dX12_felt_36 rfl (by decide) ?_
      refine fx_istore (ls2 := [some (.ref a0), some (.int a1), some (.int a2), some (.int p6.1), some (.int p7.1), some (.int (-1 : Int32)), o6]) dX12_felt_37 rfl rfl rfl ?_
      refine fx_iconst (x := 0) dX12_felt_39 rfl (by decide) ?_
      refine fx_istore (ls2 := [some (.ref a0), some (.int a1), some (.int a2), some (.int p6.1), some (.int p7.1), some (.int (-1 : Int32)), some (.int (0 : Int32))]) dX12_felt_40 rfl rfl rfl ?_
      exact fX12_felt_42_ok hd ha0 xFuel p6.1 (-1 : Int32) (0 : Int32) (some (.int p7.1)) rfl p7.2 r h
    · rw [if_neg hc4] at h
      exact fX12_felt_16_ok (o3 := o3) (o4 := o4) (o5 := o5) (o6 := o6) hd ha0 q3 q4 q5 q6 h
def fX12_felt (a0 : Nat) (a1 : Int32) (a2 : Int32) (m : xMem) : Option (Int32 × xMem) := fX12_felt_0 a0 a1 a2  m
theorem fX12_felt_ok {a0 : Nat} {a1 : Int32} {a2 : Int32} {m : xMem} {r : (Int32 × xMem)} {d : Nat} (hd : 7 ≤ d) (ha0 : isModel a0) (h : fX12_felt a0 a1 a2 m = some r) : xEx d 222 [.ref a0, .int a1, .int a2] (xLay m) (some (.int r.1)) (xLay r.2) := by
  obtain ⟨d, rfl⟩ : ∃ q, d = q + 1 := ⟨d - 1, by omega⟩
  exact xEx_of me_222 rfl (fX12_felt_0_ok (d := d) (o3 := none) (o4 := none) (o5 := none) (o6 := none) (by omega) ha0 rfl rfl rfl rfl h)
def fX11_offByMode_34 (a0 : Nat) (a1 : Int32) (a2 : Int32) (a3 : Int32) : Nat → Nat → Int32 → xMem → Option (Int32 × xMem)
  | 0, _, _, _ => none
  | fuel + 1, l4, l5, m => if a3 ≤ l5 then bif xIn a1 10 then xLet (a0 + 167 + 33 + 2 * a1.toNatClampNeg) fun r3 => xLet (m.1 r3 11) fun x4 => bif xIn a1 10 then xLet (a0 + 1 + 33 + 2 * a1.toNatClampNeg) fun r6 => xLet (m.1 r6 11) fun x7 => xLet (x4 - x7) fun x8 => some (x8, m) else none else none else (fX6_passSecond (a0 + 250) (a0 + 167) l4 m).bind fun p9 => xLet (l5 + (1 : Int32)) fun x10 => fX11_offByMode_34 a0 a1 a2 a3 fuel l4 x10 p9
set_option maxRecDepth 4000 in
theorem fX11_offByMode_34_ok {a0 : Nat} {a1 : Int32} {a2 : Int32} {a3 : Int32} {d : Nat} (hd : 6 ≤ d) (ha0 : isMS a0) : ∀ (fuel : Nat) (l4 : Nat) (l5 : Int32) (m : xMem) (r : (Int32 × xMem)) (hl4 : isText l4), fX11_offByMode_34 a0 a1 a2 a3 fuel l4 l5 m = some r → xFx hh_225 cX11_offByMode d 34 [some (.ref a0), some (.int a1), some (.int a2), some (.int a3), some (.ref l4), some (.int l5)] [] (xLay m) 0 0 (some (.int r.1)) (xLay r.2) := by
  intro fuel
  induction fuel with
  | zero => intro l4 l5  m r hl4 h; cases h
  | succ fuel ih =>
    intro l4 l5  m r hl4 h
    unfold fX11_offByMode_34 at h
    refine fx_iload dX11_offByMode_34 rfl rfl ?_
    refine fx_iload_n dX11_offByMode_36 rfl rfl ?_
    refine fx_icmp_ge (t := 59) dX11_offByMode_37 rfl rfl (fun hc1 => ?_) (fun hc1 => ?_)
    · rw [if_pos hc1] at h
      refine fx_aload_n dX11_offByMode_59 rfl rfl ?_
      refine gx_getr dX11_offByMode_60 rfl fd_11_19 ha0.1 rfl rfl ?_
      refine gx_getr dX11_offByMode_63 rfl fd_11_75 ha0.2.2.2.1.1 rfl rfl ?_
      refine fx_iload_n dX11_offByMode_66 rfl rfl ?_
      obtain ⟨hj2, h⟩ := xChk_el h
      obtain ⟨r3, hr3, h⟩ := xLet_el h
      refine gx_aaload (t := 5) dX11_offByMode_67 rfl ha0.2.2.2.1.2.2.1 rfl hj2 ((xRef_at (sl_9_1 (a0 + 167)) hj2).trans (congrArg some hr3)) ?_
      have hpr3 : isLink r3 := by rw [← hr3]; exact ha0.2.2.2.1.2.2.2.2.2.2.2.2.1 _ (xIn_lt hj2)
      obtain ⟨x4, hx4, h⟩ := xLet_el h
      refine gx_get dX11_offByMode_68 rfl fd_11_203 hpr3.1 rfl rfl hx4 ?_
      refine fx_aload_n dX11_offByMode_71 rfl rfl ?_
      refine gx_getr dX11_offByMode_72 rfl fd_11_10 ha0.1 rfl rfl ?_
      refine gx_getr dX11_offByMode_75 rfl fd_11_75 ha0.2.1.1 rfl rfl ?_
      refine fx_iload_n dX11_offByMode_78 rfl rfl ?_
      obtain ⟨hj5, h⟩ := xChk_el h
      obtain ⟨r6, hr6, h⟩ := xLet_el h
      refine gx_aaload (t := 5) dX11_offByMode_79 rfl ha0.2.1.2.2.1 rfl hj5 ((xRef_at (sl_9_1 (a0 + 1)) hj5).trans (congrArg some hr6)) ?_
      have hpr6 : isLink r6 := by rw [← hr6]; exact ha0.2.1.2.2.2.2.2.2.2.2.1 _ (xIn_lt hj5)
      obtain ⟨x7, hx7, h⟩ := xLet_el h
      refine gx_get dX11_offByMode_80 rfl fd_11_203 hpr6.1 rfl rfl hx7 ?_
      obtain ⟨x8, hx8, h⟩ := xLet_el h
      refine fx_isub dX11_offByMode_83 rfl hx8 ?_
      cases h
      exact fx_ireturn dX11_offByMode_84 rfl rfl
    · rw [if_neg hc1] at h
      refine fx_aload_n dX11_offByMode_40 rfl rfl ?_
      refine gx_getr dX11_offByMode_41 rfl fd_11_25 ha0.1 rfl rfl ?_
      refine fx_aload_n dX11_offByMode_44 rfl rfl ?_
      refine gx_getr dX11_offByMode_45 rfl fd_11_19 ha0.1 rfl rfl ?_
      refine fx_aload dX11_offByMode_48 rfl rfl ?_
      obtain ⟨p9, ep9, h⟩ := xBind_el h
      refine gx_callv (as := [.ref (a0 + 167), .ref l4]) (r := []) rfl dX11_offByMode_50 ca_11_169 rfl me_120 rfl rfl rfl rfl (ha0.2.2.2.2.1.1) rfl (fX6_passSecond_ok (d := d) (by omega) ha0.2.2.2.2.1 ha0.2.2.2.1 hl4 ep9) rfl rfl ?_
      obtain ⟨x10, hx10, h⟩ := xLet_el h
      refine fx_iinc (ls2 := [some (.ref a0), some (.int a1), some (.int a2), some (.int a3), some (.ref l4), some (.int x10)]) dX11_offByMode_53 rfl rfl rfl hx10 rfl ?_
      refine fx_goto (t := 34) dX11_offByMode_56 rfl rfl ?_
      exact ih l4 x10 p9 r hl4 h
def fX11_offByMode_0 (a0 : Nat) (a1 : Int32) (a2 : Int32) (a3 : Int32) (m : xMem) : Option (Int32 × xMem) := (fX11_within a1 (0 : Int32) (9 : Int32) m).bind fun p1 => if ¬ p1.1 = (0 : Int32) then (fX11_beginTrial a0 p1.2).bind fun p3 => bif xIn a1 10 then xLet (a0 + 167 + 33 + 2 * a1.toNatClampNeg) fun r5 => xLet (xPut p3.2 r5 8 a2) fun m6 => fX11_offByMode_34 a0 a1 a2 a3 xFuel p3.1 (0 : Int32) m6 else none else some ((0 : Int32), p1.2)
set_option maxRecDepth 4000 in
theorem fX11_offByMode_0_ok {a0 : Nat} {a1 : Int32} {a2 : Int32} {a3 : Int32} {d : Nat} (hd : 6 ≤ d) (ha0 : isMS a0) {o4 : Option Value} {o5 : Option Value} {m : xMem} {r : (Int32 × xMem)} (q4 : xNoD o4 = true) (q5 : xNoD o5 = true) (h : fX11_offByMode_0 a0 a1 a2 a3 m = some r) : xFx hh_225 cX11_offByMode d 0 [some (.ref a0), some (.int a1), some (.int a2), some (.int a3), o4, o5] [] (xLay m) 0 0 (some (.int r.1)) (xLay r.2) := by
  unfold fX11_offByMode_0 at h
  refine fx_iload_n dX11_offByMode_0 rfl rfl ?_
  refine fx_iconst (x := 0) dX11_offByMode_1 rfl (by decide) ?_
  refine fx_bipush (x := 9) dX11_offByMode_2 rfl (by decide) ?_
  obtain ⟨p1, ep1, h⟩ := xBind_el h
  refine gx_calls (as := [.int a1, .int (0 : Int32), .int (9 : Int32)]) (r := []) rfl dX11_offByMode_4 ca_11_47 rfl me_14 rfl rfl rfl rfl (fX11_within_ok (d := d) (by omega) ep1) rfl rfl ?_
  refine fx_if_ne (t := 12) dX11_offByMode_7 rfl rfl (fun hc2 => ?_) (fun hc2 => ?_)
  · rw [if_pos hc2] at h
    refine fx_aload_n dX11_offByMode_12 rfl rfl ?_
    obtain ⟨p3, ep3, h⟩ := xBind_el h
    refine gx_callv (as := []) (r := []) rfl dX11_offByMode_13 ca_11_246 rfl me_207 rfl rfl rfl rfl (ha0.1) rfl (fX11_beginTrial_ok (d := d) (by omega) ha0 ep3) rfl rfl ?_
    have hqp3 : isText p3.1 := fX11_beginTrial_ref ha0 ep3
    refine fx_astore (ls2 := [some (.ref a0), some (.int a1), some (.int a2), some (.int a3), some (.ref p3.1), o5]) dX11_offByMode_16 rfl rfl rfl ?_
    refine fx_aload_n dX11_offByMode_18 rfl rfl ?_
    refine gx_getr dX11_offByMode_19 rfl fd_11_19 ha0.1 rfl rfl ?_
    refine gx_getr dX11_offByMode_22 rfl fd_11_75 ha0.2.2.2.1.1 rfl rfl ?_
    refine fx_iload_n dX11_offByMode_25 rfl rfl ?_
    obtain ⟨hj4, h⟩ := xChk_el h
    obtain ⟨r5, hr5, h⟩ := xLet_el h
    refine gx_aaload (t := 5) dX11_offByMode_26 rfl ha0.2.2.2.1.2.2.1 rfl hj4 ((xRef_at (sl_9_1 (a0 + 167)) hj4).trans (congrArg some hr5)) ?_
    have hpr5 : isLink r5 := by rw [← hr5]; exact ha0.2.2.2.1.2.2.2.2.2.2.2.2.1 _ (xIn_lt hj4)
    refine fx_iload_n dX11_offByMode_27 rfl rfl ?_
    obtain ⟨m6, hm6, h⟩ := xLet_el h
    refine gx_put dX11_offByMode_28 rfl fd_11_93 hpr5.1 rfl rfl rfl hm6 ?_
    refine fx_iconst (x := 0) dX11_offByMode_31 rfl (by decide) ?_
    refine fx_istore (ls2 := [some (.ref a0), some (.int a1), some (.int a2), some (.int a3), some (.ref p3.1), some (.int (0 : Int32))]) dX11_offByMode_32 rfl rfl rfl ?_
    exact fX11_offByMode_34_ok hd ha0 xFuel p3.1 (0 : Int32) m6 r hqp3 h
  · rw [if_neg hc2] at h
    refine fx_iconst (x := 0) dX11_offByMode_10 rfl (by decide) ?_
    cases h
    exact fx_ireturn dX11_offByMode_11 rfl rfl
def fX11_offByMode (a0 : Nat) (a1 : Int32) (a2 : Int32) (a3 : Int32) (m : xMem) : Option (Int32 × xMem) := fX11_offByMode_0 a0 a1 a2 a3  m
theorem fX11_offByMode_ok {a0 : Nat} {a1 : Int32} {a2 : Int32} {a3 : Int32} {m : xMem} {r : (Int32 × xMem)} {d : Nat} (hd : 7 ≤ d) (ha0 : isMS a0) (h : fX11_offByMode a0 a1 a2 a3 m = some r) : xEx d 225 [.ref a0, .int a1, .int a2, .int a3] (xLay m) (some (.int r.1)) (xLay r.2) := by
  obtain ⟨d, rfl⟩ : ∃ q, d = q + 1 := ⟨d - 1, by omega⟩
  exact xEx_of me_225 rfl (fX11_offByMode_0_ok (d := d) (o4 := none) (o5 := none) (by omega) ha0 rfl rfl h)
def fX11_standing_19 (a0 : Nat) (a1 : Int32) (a2 : Int32) (m : xMem) : Option (Int32 × xMem) := some ((-1000000 : Int32), m)
set_option maxRecDepth 4000 in
theorem fX11_standing_19_ok {a0 : Nat} {a1 : Int32} {a2 : Int32} {d : Nat} (hd : 7 ≤ d) (ha0 : isMS a0) {m : xMem} {r : (Int32 × xMem)} (h : fX11_standing_19 a0 a1 a2 m = some r) : xFx hh_224 cX11_standing d 19 [some (.ref a0), some (.int a1), some (.int a2)] [] (xLay m) 0 0 (some (.int r.1)) (xLay r.2) := by
  unfold fX11_standing_19 at h
  refine fx_ldc_w dX11_standing_19 rfl ck_11_257 ?_
  cases h
  exact fx_ireturn dX11_standing_22 rfl rfl
def fX11_standing_0 (a0 : Nat) (a1 : Int32) (a2 : Int32) (m : xMem) : Option (Int32 × xMem) := (fX11_mayRun a0 a2 m).bind fun p1 => if p1.1 = (0 : Int32) then fX11_standing_19 a0 a1 a2 p1.2 else (fX9_hasStair (a0 + 1) a1 p1.2).bind fun p3 => if ¬ p3.1 = (0 : Int32) then (fX11_offByMode a0 a1 (1 : Int32) a2 p3.2).bind fun p5 => (fX11_offByMode a0 a1 (0 : Int32) a2 p5.2).bind fun p6 => xLet (p5.1 - p6.1) fun x7 => some (x7, p6.2) else fX11_standing_19 a0 a1 a2 p3.2
set_option maxRecDepth 4000 in
theorem fX11_standing_0_ok {a0 : Nat} {a1 : Int32} {a2 : Int32} {d : Nat} (hd : 7 ≤ d) (ha0 : isMS a0) {m : xMem} {r : (Int32 × xMem)} (h : fX11_standing_0 a0 a1 a2 m = some r) : xFx hh_224 cX11_standing d 0 [some (.ref a0), some (.int a1), some (.int a2)] [] (xLay m) 0 0 (some (.int r.1)) (xLay r.2) := by
  unfold fX11_standing_0 at h
  refine fx_aload_n dX11_standing_0 rfl rfl ?_
  refine fx_iload_n dX11_standing_1 rfl rfl ?_
  obtain ⟨p1, ep1, h⟩ := xBind_el h
  refine gx_callv (as := [.int a2]) (r := []) rfl dX11_standing_2 ca_11_159 rfl me_116 rfl rfl rfl rfl (ha0.1) rfl (fX11_mayRun_ok (d := d) (by omega) ha0 ep1) rfl rfl ?_
  refine fx_if_eq (t := 19) dX11_standing_5 rfl rfl (fun hc2 => ?_) (fun hc2 => ?_)
  · rw [if_pos hc2] at h
    exact fX11_standing_19_ok hd ha0 h
  · rw [if_neg hc2] at h
    refine fx_aload_n dX11_standing_8 rfl rfl ?_
    refine gx_getr dX11_standing_9 rfl fd_11_10 ha0.1 rfl rfl ?_
    refine fx_iload_n dX11_standing_12 rfl rfl ?_
    obtain ⟨p3, ep3, h⟩ := xBind_el h
    refine gx_callv (as := [.int a1]) (r := []) rfl dX11_standing_13 ca_11_90 rfl me_37 rfl rfl rfl rfl (ha0.2.1.1) rfl (fX9_hasStair_ok (d := d) (by omega) ha0.2.1 ep3) rfl rfl ?_
    refine fx_if_ne (t := 23) dX11_standing_16 rfl rfl (fun hc4 => ?_) (fun hc4 => ?_)
    · rw [if_pos hc4] at h
      refine fx_aload_n dX11_standing_23 rfl rfl ?_
      refine fx_iload_n dX11_standing_24 rfl rfl ?_
      refine fx_iconst (x := 1) dX11_standing_25 rfl (by decide) ?_
      refine fx_iload_n dX11_standing_26 rfl rfl ?_
      obtain ⟨p5, ep5, h⟩ := xBind_el h
      refine gx_callv (as := [.int a1, .int (1 : Int32), .int a2]) (r := []) rfl dX11_standing_27 ca_11_258 rfl me_225 rfl rfl rfl rfl (ha0.1) rfl (fX11_offByMode_ok (d := d) (by omega) ha0 ep5) rfl rfl ?_
      refine fx_aload_n dX11_standing_30 rfl rfl ?_
      refine fx_iload_n dX11_standing_31 rfl rfl ?_
      refine fx_iconst (x := 0) dX11_standing_32 rfl (by decide) ?_
      refine fx_iload_n dX11_standing_33 rfl rfl ?_
      obtain ⟨p6, ep6, h⟩ := xBind_el h
      refine gx_callv (as := [.int a1, .int (0 : Int32), .int a2]) (r := [.int p5.1]) rfl dX11_standing_34 ca_11_258 rfl me_225 rfl rfl rfl rfl (ha0.1) rfl (fX11_offByMode_ok (d := d) (by omega) ha0 ep6) rfl rfl ?_
      obtain ⟨x7, hx7, h⟩ := xLet_el h
      refine fx_isub dX11_standing_37 rfl hx7 ?_
      cases h
      exact fx_ireturn dX11_standing_38 rfl rfl
    · rw [if_neg hc4] at h
      exact fX11_standing_19_ok hd ha0 h
def fX11_standing (a0 : Nat) (a1 : Int32) (a2 : Int32) (m : xMem) : Option (Int32 × xMem) := fX11_standing_0 a0 a1 a2  m
theorem fX11_standing_ok {a0 : Nat} {a1 : Int32} {a2 : Int32} {m : xMem} {r : (Int32 × xMem)} {d : Nat} (hd : 8 ≤ d) (ha0 : isMS a0) (h : fX11_standing a0 a1 a2 m = some r) : xEx d 224 [.ref a0, .int a1, .int a2] (xLay m) (some (.int r.1)) (xLay r.2) := by
  obtain ⟨d, rfl⟩ : ∃ q, d = q + 1 := ⟨d - 1, by omega⟩
  exact xEx_of me_224 rfl (fX11_standing_0_ok (d := d) (by omega) ha0 h)
def fX12_standing_16 (a0 : Nat) (a1 : Int32) (a2 : Int32) (m : xMem) : Option (Int32 × xMem) := some ((-1000000 : Int32), m)
set_option maxRecDepth 4000 in
theorem fX12_standing_16_ok {a0 : Nat} {a1 : Int32} {a2 : Int32} {d : Nat} (hd : 7 ≤ d) (ha0 : isModel a0) {o3 : Option Value} {o4 : Option Value} {m : xMem} {r : (Int32 × xMem)} (q3 : xNoD o3 = true) (q4 : xNoD o4 = true) (h : fX12_standing_16 a0 a1 a2 m = some r) : xFx hh_226 cX12_standing d 16 [some (.ref a0), some (.int a1), some (.int a2), o3, o4] [] (xLay m) 0 0 (some (.int r.1)) (xLay r.2) := by
  unfold fX12_standing_16 at h
  refine fx_ldc_w dX12_standing_16 rfl ck_12_401 ?_
  cases h
  exact fx_ireturn dX12_standing_19 rfl rfl
def fX12_standing_74 (a0 : Nat) (a1 : Int32) (a2 : Int32) (rec29 : Int32 → Int32 → xMem → Option (Int32 × xMem)) (l4 : Int32) (s0 : Int32) (s1 : Int32) (m : xMem) : Option (Int32 × xMem) := xLet (s0 + s1) fun x1 => (fX12_putsBack a0 m).bind fun p2 => xLet (l4 + (1 : Int32)) fun x3 => rec29 x1 x3 p2
set_option maxRecDepth 4000 in
theorem fX12_standing_74_ok {a0 : Nat} {a1 : Int32} {a2 : Int32} {rec29 : Int32 → Int32 → xMem → Option (Int32 × xMem)} {d : Nat} (hd : 7 ≤ d) (ha0 : isModel a0) (hrec29 : ∀ (l3 : Int32) (l4 : Int32) (m : xMem) (r : (Int32 × xMem)), rec29 l3 l4 m = some r → xFx hh_226 cX12_standing d 29 [some (.ref a0), some (.int a1), some (.int a2), some (.int l3), some (.int l4)] [] (xLay m) 0 0 (some (.int r.1)) (xLay r.2)) {l4 : Int32} {s0 : Int32} {s1 : Int32} {o3 : Option Value} {m : xMem} {r : (Int32 × xMem)} (q3 : xNoD o3 = true) (h : fX12_standing_74 a0 a1 a2 rec29 l4 s0 s1 m = some r) : xFx hh_226 cX12_standing d 74 [some (.ref a0), some (.int a1), some (.int a2), o3, some (.int l4)] [.int s1, .int s0] (xLay m) 0 0 (some (.int r.1)) (xLay r.2) := by
  unfold fX12_standing_74 at h
  obtain ⟨x1, hx1, h⟩ := xLet_el h
  refine fx_iadd dX12_standing_74 rfl hx1 ?_
  refine fx_istore_n (ls2 := [some (.ref a0), some (.int a1), some (.int a2), some (.int x1), some (.int l4)]) dX12_standing_75 rfl rfl rfl ?_
  refine fx_aload_n dX12_standing_76 rfl rfl ?_
  obtain ⟨p2, ep2, h⟩ := xBind_el h
  refine gx_callv (as := []) (r := []) rfl dX12_standing_77 ca_12_395 rfl me_216 rfl rfl rfl rfl (ha0.1) rfl (fX12_putsBack_ok (d := d) (by omega) ha0 ep2) rfl rfl ?_
  obtain ⟨x3, hx3, h⟩ := xLet_el h
  refine fx_iinc (ls2 := [some (.ref a0), some (.int a1), some (.int a2), some (.int x1), some (.int x3)]) dX12_standing_80 rfl rfl rfl hx3 rfl ?_
  refine fx_goto (t := 29) dX12_standing_83 rfl rfl ?_
  exact hrec29 x1 x3 p2 r h
def fX12_standing_29 (a0 : Nat) (a1 : Int32) (a2 : Int32) : Nat → Int32 → Int32 → xMem → Option (Int32 × xMem)
  | 0, _, _, _ => none
  | fuel + 1, l3, l4, m => if (2 : Int32) ≤ l4 then some (l3, m) else (fX12_tells a0 a1 (8 : Int32) l4 m).bind fun p2 => (fX12_runs a0 a2 p2).bind fun p3 => if ¬ l4 = (1 : Int32) then (fX12_linkOf a0 a1 (11 : Int32) p3).bind fun p5 => xLet (-p5.1) fun x6 => fX12_standing_74 a0 a1 a2 (fX12_standing_29 a0 a1 a2 fuel) l4 l3 x6 p5.2 else (fX12_linkOf a0 a1 (11 : Int32) p3).bind fun p7 => fX12_standing_74 a0 a1 a2 (fX12_standing_29 a0 a1 a2 fuel) l4 l3 p7.1 p7.2
set_option maxRecDepth 4000 in
theorem fX12_standing_29_ok {a0 : Nat} {a1 : Int32} {a2 : Int32} {d : Nat} (hd : 7 ≤ d) (ha0 : isModel a0) : ∀ (fuel : Nat) (l3 : Int32) (l4 : Int32) (m : xMem) (r : (Int32 × xMem)), fX12_standing_29 a0 a1 a2 fuel l3 l4 m = some r → xFx hh_226 cX12_standing d 29 [some (.ref a0), some (.int a1), some (.int a2), some (.int l3), some (.int l4)] [] (xLay m) 0 0 (some (.int r.1)) (xLay r.2) := by
  intro fuel
  induction fuel with
  | zero => intro l3 l4  m r  h; cases h
  | succ fuel ih =>
    intro l3 l4  m r  h
    unfold fX12_standing_29 at h
    refine fx_iload dX12_standing_29 rfl rfl ?_
    refine fx_iconst (x := 2) dX12_standing_31 rfl (by decide) ?_
    refine fx_icmp_ge (t := 86) dX12_standing_32 rfl rfl (fun hc1 => ?_) (fun hc1 => ?_)
    · rw [if_pos hc1] at h
      refine fx_iload_n dX12_standing_86 rfl rfl ?_
      cases h
      exact fx_ireturn dX12_standing_87 rfl rfl
    · rw [if_neg hc1] at h
      refine fx_aload_n dX12_standing_35 rfl rfl ?_
      refine fx_iload_n dX12_standing_36 rfl rfl ?_
      refine fx_bipush (x := 8) dX12_standing_37 rfl (by decide) ?_
      refine fx_iload dX12_standing_39 rfl rfl ?_
      obtain ⟨p2, ep2, h⟩ := xBind_el h
      refine gx_callv (as := [.int a1, .int (8 : Int32), .int l4]) (r := []) rfl dX12_standing_41 ca_12_110 rfl me_26 rfl rfl rfl rfl (ha0.1) rfl (fX12_tells_ok (d := d) (by omega) ha0 ep2) rfl rfl ?_
      refine fx_aload_n dX12_standing_44 rfl rfl ?_
      refine fx_iload_n dX12_standing_45 rfl rfl ?_
      obtain ⟨p3, ep3, h⟩ := xBind_el h
      refine gx_callv (as := [.int a2]) (r := []) rfl dX12_standing_46 ca_12_392 rfl me_215 rfl rfl rfl rfl (ha0.1) rfl (fX12_runs_ok (d := d) (by omega) ha0 ep3) rfl rfl ?_
      refine fx_iload_n dX12_standing_49 rfl rfl ?_
      refine fx_iload dX12_standing_50 rfl rfl ?_
      refine fx_iconst (x := 1) dX12_standing_52 rfl (by decide) ?_
      refine fx_icmp_ne (t := 66) dX12_standing_53 rfl rfl (fun hc4 => ?_) (fun hc4 => ?_)
      · rw [if_pos hc4] at h
        refine fx_aload_n dX12_standing_66 rfl rfl ?_
        refine fx_iload_n dX12_standing_67 rfl rfl ?_
        refine fx_bipush (x := 11) dX12_standing_68 rfl (by decide) ?_
        obtain ⟨p5, ep5, h⟩ := xBind_el h
        refine gx_callv (as := [.int a1, .int (11 : Int32)]) (r := [.int l3]) rfl dX12_standing_70 ca_12_103 rfl me_34 rfl rfl rfl rfl (ha0.1) rfl (fX12_linkOf_ok (d := d) (by omega) ha0 ep5) rfl rfl ?_
        obtain ⟨x6, hx6, h⟩ := xLet_el h
        refine fx_ineg dX12_standing_73 rfl hx6 ?_
        exact fX12_standing_74_ok (o3 := some (.int l3)) hd ha0 ih rfl h
      · rw [if_neg hc4] at h
        refine fx_aload_n dX12_standing_56 rfl rfl ?_
        refine fx_iload_n dX12_standing_57 rfl rfl ?_
        refine fx_bipush (x := 11) dX12_standing_58 rfl (by decide) ?_
        obtain ⟨p7, ep7, h⟩ := xBind_el h
        refine gx_callv (as := [.int a1, .int (11 : Int32)]) (r := [.int l3]) rfl dX12_standing_60 ca_12_103 rfl me_34 rfl rfl rfl rfl (ha0.1) rfl (fX12_linkOf_ok (d := d) (by omega) ha0 ep7) rfl rfl ?_
        refine fx_goto (t := 74) dX12_standing_63 rfl rfl ?_
        exact fX12_standing_74_ok (o3 := some (.int l3)) hd ha0 ih rfl h
def fX12_standing_0 (a0 : Nat) (a1 : Int32) (a2 : Int32) (m : xMem) : Option (Int32 × xMem) := (fX12_isStair a0 a1 m).bind fun p1 => if p1.1 = (0 : Int32) then fX12_standing_16 a0 a1 a2 p1.2 else (fX12_isRun a0 a2 p1.2).bind fun p3 => if ¬ p3.1 = (0 : Int32) then (fX12_saves a0 p3.2).bind fun p5 => fX12_standing_29 a0 a1 a2 xFuel (0 : Int32) (0 : Int32) p5 else fX12_standing_16 a0 a1 a2 p3.2
set_option maxRecDepth 4000 in
theorem fX12_standing_0_ok {a0 : Nat} {a1 : Int32} {a2 : Int32} {d : Nat} (hd : 7 ≤ d) (ha0 : isModel a0) {o3 : Option Value} {o4 : Option Value} {m : xMem} {r : (Int32 × xMem)} (q3 : xNoD o3 = true) (q4 : xNoD o4 = true) (h : fX12_standing_0 a0 a1 a2 m = some r) : xFx hh_226 cX12_standing d 0 [some (.ref a0), some (.int a1), some (.int a2), o3, o4] [] (xLay m) 0 0 (some (.int r.1)) (xLay r.2) := by
  unfold fX12_standing_0 at h
  refine fx_aload_n dX12_standing_0 rfl rfl ?_
  refine fx_iload_n dX12_standing_1 rfl rfl ?_
  obtain ⟨p1, ep1, h⟩ := xBind_el h
  refine gx_callv (as := [.int a1]) (r := []) rfl dX12_standing_2 ca_12_398 rfl me_223 rfl rfl rfl rfl (ha0.1) rfl (fX12_isStair_ok (d := d) (by omega) ha0 ep1) rfl rfl ?_
  refine fx_if_eq (t := 16) dX12_standing_5 rfl rfl (fun hc2 => ?_) (fun hc2 => ?_)
  · rw [if_pos hc2] at h
    exact fX12_standing_16_ok (o3 := o3) (o4 := o4) hd ha0 q3 q4 h
  · rw [if_neg hc2] at h
    refine fx_aload_n dX12_standing_8 rfl rfl ?_
    refine fx_iload_n dX12_standing_9 rfl rfl ?_
    obtain ⟨p3, ep3, h⟩ := xBind_el h
    refine gx_callv (as := [.int a2]) (r := []) rfl dX12_standing_10 ca_12_377 rfl me_163 rfl rfl rfl rfl (ha0.1) rfl (fX12_isRun_ok (d := d) (by omega) ha0 ep3) rfl rfl ?_
    refine fx_if_ne (t := 20) dX12_standing_13 rfl rfl (fun hc4 => ?_) (fun hc4 => ?_)
    · rw [if_pos hc4] at h
      refine fx_aload_n dX12_standing_20 rfl rfl ?_
      obtain ⟨p5, ep5, h⟩ := xBind_el h
      refine gx_callv (as := []) (r := []) rfl dX12_standing_21 ca_12_386 rfl me_214 rfl rfl rfl rfl (ha0.1) rfl (fX12_saves_ok (d := d) (by omega) ha0 ep5) rfl rfl ?_
      refine fx_iconst (x := 0) dX12_standing_24 rfl (by decide) ?_
      refine fx_istore_n (ls2 := [some (.ref a0), some (.int a1), some (.int a2), some (.int (0 : Int32)), o4]) dX12_standing_25 rfl rfl rfl ?_
      refine fx_iconst (x := 0) dX12_standing_26 rfl (by decide) ?_
      refine fx_istore (ls2 := [some (.ref a0), some (.int a1), some (.int a2), some (.int (0 : Int32)), some (.int (0 : Int32))]) dX12_standing_27 rfl rfl rfl ?_
      exact fX12_standing_29_ok hd ha0 xFuel (0 : Int32) (0 : Int32) p5 r h
    · rw [if_neg hc4] at h
      exact fX12_standing_16_ok (o3 := o3) (o4 := o4) hd ha0 q3 q4 h
def fX12_standing (a0 : Nat) (a1 : Int32) (a2 : Int32) (m : xMem) : Option (Int32 × xMem) := fX12_standing_0 a0 a1 a2  m
theorem fX12_standing_ok {a0 : Nat} {a1 : Int32} {a2 : Int32} {m : xMem} {r : (Int32 × xMem)} {d : Nat} (hd : 8 ≤ d) (ha0 : isModel a0) (h : fX12_standing a0 a1 a2 m = some r) : xEx d 226 [.ref a0, .int a1, .int a2] (xLay m) (some (.int r.1)) (xLay r.2) := by
  obtain ⟨d, rfl⟩ : ∃ q, d = q + 1 := ⟨d - 1, by omega⟩
  exact xEx_of me_226 rfl (fX12_standing_0_ok (d := d) (o3 := none) (o4 := none) (by omega) ha0 rfl rfl h)
def fX11_mayStandAlone_26 (a0 : Int32) (a1 : Int32) (s0 : Int32) (m : xMem) : Option (Int32 × xMem) := bif (decide (s0 = 0) || decide (s0 = 1)) then some (s0, m) else none
set_option maxRecDepth 4000 in
theorem fX11_mayStandAlone_26_ok {a0 : Int32} {a1 : Int32} {d : Nat} (hd : 1 ≤ d)  {s0 : Int32} {m : xMem} {r : (Int32 × xMem)} (h : fX11_mayStandAlone_26 a0 a1 s0 m = some r) : xFx hh_228 cX11_mayStandAlone d 26 [some (.int a0), some (.int a1)] [.int s0] (xLay m) 0 0 (some (.int r.1)) (xLay r.2) := by
  unfold fX11_mayStandAlone_26 at h
  obtain ⟨hb1, h⟩ := xChk_el h
  cases h
  exact fx_ireturn dX11_mayStandAlone_26 rfl (by show ((decide _ || decide _) && _) = true; rw [hb1]; rfl)
def fX11_mayStandAlone_25 (a0 : Int32) (a1 : Int32) (m : xMem) : Option (Int32 × xMem) := fX11_mayStandAlone_26 a0 a1 (0 : Int32) m
set_option maxRecDepth 4000 in
theorem fX11_mayStandAlone_25_ok {a0 : Int32} {a1 : Int32} {d : Nat} (hd : 1 ≤ d)  {m : xMem} {r : (Int32 × xMem)} (h : fX11_mayStandAlone_25 a0 a1 m = some r) : xFx hh_228 cX11_mayStandAlone d 25 [some (.int a0), some (.int a1)] [] (xLay m) 0 0 (some (.int r.1)) (xLay r.2) := by
  unfold fX11_mayStandAlone_25 at h
  refine fx_iconst (x := 0) dX11_mayStandAlone_25 rfl (by decide) ?_
  exact fX11_mayStandAlone_26_ok hd h
def fX11_mayStandAlone_0 (a0 : Int32) (a1 : Int32) (m : xMem) : Option (Int32 × xMem) := (fX11_within a0 (2 : Int32) (40 : Int32) m).bind fun p1 => if p1.1 = (0 : Int32) then fX11_mayStandAlone_25 a0 a1 p1.2 else (fX11_within a1 (1 : Int32) (999 : Int32) p1.2).bind fun p3 => if p3.1 = (0 : Int32) then fX11_mayStandAlone_25 a0 a1 p3.2 else fX11_mayStandAlone_26 a0 a1 (1 : Int32) p3.2
set_option maxRecDepth 4000 in
theorem fX11_mayStandAlone_0_ok {a0 : Int32} {a1 : Int32} {d : Nat} (hd : 1 ≤ d)  {m : xMem} {r : (Int32 × xMem)} (h : fX11_mayStandAlone_0 a0 a1 m = some r) : xFx hh_228 cX11_mayStandAlone d 0 [some (.int a0), some (.int a1)] [] (xLay m) 0 0 (some (.int r.1)) (xLay r.2) := by
  unfold fX11_mayStandAlone_0 at h
  refine fx_iload_n dX11_mayStandAlone_0 rfl rfl ?_
  refine fx_iconst (x := 2) dX11_mayStandAlone_1 rfl (by decide) ?_
  refine fx_bipush (x := 40) dX11_mayStandAlone_2 rfl (by decide) ?_
  obtain ⟨p1, ep1, h⟩ := xBind_el h
  refine gx_calls (as := [.int a0, .int (2 : Int32), .int (40 : Int32)]) (r := []) rfl dX11_mayStandAlone_4 ca_11_47 rfl me_14 rfl rfl rfl rfl (fX11_within_ok (d := d) (by omega) ep1) rfl rfl ?_
  refine fx_if_eq (t := 25) dX11_mayStandAlone_7 rfl rfl (fun hc2 => ?_) (fun hc2 => ?_)
  · rw [if_pos hc2] at h
    exact fX11_mayStandAlone_25_ok hd h
  · rw [if_neg hc2] at h
    refine fx_iload_n dX11_mayStandAlone_10 rfl rfl ?_
    refine fx_iconst (x := 1) dX11_mayStandAlone_11 rfl (by decide) ?_
    refine fx_sipush (x := 999) dX11_mayStandAlone_12 rfl (by decide) ?_
    obtain ⟨p3, ep3, h⟩ := xBind_el h
    refine gx_calls (as := [.int a1, .int (1 : Int32), .int (999 : Int32)]) (r := []) rfl dX11_mayStandAlone_15 ca_11_47 rfl me_14 rfl rfl rfl rfl (fX11_within_ok (d := d) (by omega) ep3) rfl rfl ?_
    refine fx_if_eq (t := 25) dX11_mayStandAlone_18 rfl rfl (fun hc4 => ?_) (fun hc4 => ?_)
    · rw [if_pos hc4] at h
      exact fX11_mayStandAlone_25_ok hd h
    · rw [if_neg hc4] at h
      refine fx_iconst (x := 1) dX11_mayStandAlone_21 rfl (by decide) ?_
      refine fx_goto (t := 26) dX11_mayStandAlone_22 rfl rfl ?_
      exact fX11_mayStandAlone_26_ok hd h
def fX11_mayStandAlone (a0 : Int32) (a1 : Int32) (m : xMem) : Option (Int32 × xMem) := fX11_mayStandAlone_0 a0 a1  m
theorem fX11_mayStandAlone_ok {a0 : Int32} {a1 : Int32} {m : xMem} {r : (Int32 × xMem)} {d : Nat} (hd : 2 ≤ d)  (h : fX11_mayStandAlone a0 a1 m = some r) : xEx d 228 [.int a0, .int a1] (xLay m) (some (.int r.1)) (xLay r.2) := by
  obtain ⟨d, rfl⟩ : ∃ q, d = q + 1 := ⟨d - 1, by omega⟩
  exact xEx_of me_228 rfl (fX11_mayStandAlone_0_ok (d := d) (by omega) h)
def fX9_buildAlone_0 (a0 : Nat) (a1 : Int32) (a2 : Int32) (a3 : Int32) (m : xMem) : Option xMem := xLet (xPut m a0 7 (2 : Int32)) fun m1 => xLet (xPut m1 a0 8 (1 : Int32)) fun m2 => xLet (xPut m2 a0 9 (0 : Int32)) fun m3 => bif xIn (0 : Int32) 6 then xLet (a0 + 15 + 3 * (0 : Int32).toNatClampNeg) fun r5 => (fX2_build r5 (1 : Int32) m3).bind fun p6 => bif xIn (1 : Int32) 6 then xLet (a0 + 15 + 3 * (1 : Int32).toNatClampNeg) fun r8 => (fX2_build r8 (1 : Int32) p6).bind fun p9 => bif xIn (0 : Int32) 10 then xLet (a0 + 33 + 2 * (0 : Int32).toNatClampNeg) fun r11 => (fX3_build r11 (0 : Int32) (0 : Int32) (1 : Int32) a1 (0 : Int32) p9).bind fun p12 => bif xIn (0 : Int32) 10 then xLet (a0 + 33 + 2 * (0 : Int32).toNatClampNeg) fun r14 => xLet (xPut p12 r14 8 a2) fun m15 => (fX9_comeTo a0 (0 : Int32) (1 : Int32) (0 : Int32) a3 m15).bind fun p16 => some p16 else none else none else none else none
set_option maxRecDepth 4000 in
theorem fX9_buildAlone_0_ok {a0 : Nat} {a1 : Int32} {a2 : Int32} {a3 : Int32} {d : Nat} (hd : 2 ≤ d) (ha0 : isStation a0) {m : xMem} {r : xMem} (h : fX9_buildAlone_0 a0 a1 a2 a3 m = some r) : xFx hh_230 cX9_buildAlone d 0 [some (.ref a0), some (.int a1), some (.int a2), some (.int a3)] [] (xLay m) 0 0 none (xLay r) := by
  unfold fX9_buildAlone_0 at h
  refine fx_aload_n dX9_buildAlone_0 rfl rfl ?_
  refine fx_iconst (x := 2) dX9_buildAlone_1 rfl (by decide) ?_
  obtain ⟨m1, hm1, h⟩ := xLet_el h
  refine gx_put dX9_buildAlone_2 rfl fd_9_57 ha0.1 rfl rfl rfl hm1 ?_
  refine fx_aload_n dX9_buildAlone_5 rfl rfl ?_
  refine fx_iconst (x := 1) dX9_buildAlone_6 rfl (by decide) ?_
  obtain ⟨m2, hm2, h⟩ := xLet_el h
  refine gx_put dX9_buildAlone_7 rfl fd_9_60 ha0.1 rfl rfl rfl hm2 ?_
  refine fx_aload_n dX9_buildAlone_10 rfl rfl ?_
  refine fx_iconst (x := 0) dX9_buildAlone_11 rfl (by decide) ?_
  obtain ⟨m3, hm3, h⟩ := xLet_el h
  refine gx_put dX9_buildAlone_12 rfl fd_9_110 ha0.1 rfl rfl rfl hm3 ?_
  refine fx_aload_n dX9_buildAlone_15 rfl rfl ?_
  refine gx_getr dX9_buildAlone_16 rfl fd_9_11 ha0.1 rfl rfl ?_
  refine fx_iconst (x := 0) dX9_buildAlone_19 rfl (by decide) ?_
  obtain ⟨hj4, h⟩ := xChk_el h
  obtain ⟨r5, hr5, h⟩ := xLet_el h
  refine gx_aaload (t := 4) dX9_buildAlone_20 rfl ha0.2.1 rfl hj4 ((xRef_at (sl_9_0 a0) hj4).trans (congrArg some hr5)) ?_
  have hpr5 : isHall r5 := by rw [← hr5]; exact ha0.2.2.2.2.2.2.2.1 _ (xIn_lt hj4)
  refine fx_iconst (x := 1) dX9_buildAlone_21 rfl (by decide) ?_
  obtain ⟨p6, ep6, h⟩ := xBind_el h
  refine gx_callv (as := [.int (1 : Int32)]) (r := []) rfl dX9_buildAlone_22 ca_9_131 rfl me_15 rfl rfl rfl rfl (hpr5.1) rfl (fX2_build_ok (d := d) (by omega) hpr5 ep6) rfl rfl ?_
  refine fx_aload_n dX9_buildAlone_25 rfl rfl ?_
  refine gx_getr dX9_buildAlone_26 rfl fd_9_11 ha0.1 rfl rfl ?_
  refine fx_iconst (x := 1) dX9_buildAlone_29 rfl (by decide) ?_
  obtain ⟨hj7, h⟩ := xChk_el h
  obtain ⟨r8, hr8, h⟩ := xLet_el h
  refine gx_aaload (t := 4) dX9_buildAlone_30 rfl ha0.2.1 rfl hj7 ((xRef_at (sl_9_0 a0) hj7).trans (congrArg some hr8)) ?_
  have hpr8 : isHall r8 := by rw [← hr8]; exact ha0.2.2.2.2.2.2.2.1 _ (xIn_lt hj7)
  refine fx_iconst (x := 1) dX9_buildAlone_31 rfl (by decide) ?_
  obtain ⟨p9, ep9, h⟩ := xBind_el h
  refine gx_callv (as := [.int (1 : Int32)]) (r := []) rfl dX9_buildAlone_32 ca_9_131 rfl me_15 rfl rfl rfl rfl (hpr8.1) rfl (fX2_build_ok (d := d) (by omega) hpr8 ep9) rfl rfl ?_
  refine fx_aload_n dX9_buildAlone_35 rfl rfl ?_
  refine gx_getr dX9_buildAlone_36 rfl fd_9_19 ha0.1 rfl rfl ?_
  refine fx_iconst (x := 0) dX9_buildAlone_39 rfl (by decide) ?_
  obtain ⟨hj10, h⟩ := xChk_el h
  obtain ⟨r11, hr11, h⟩ := xLet_el h
  refine gx_aaload (t := 5) dX9_buildAlone_40 rfl ha0.2.2.1 rfl hj10 ((xRef_at (sl_9_1 a0) hj10).trans (congrArg some hr11)) ?_
  have hpr11 : isLink r11 := by rw [← hr11]; exact ha0.2.2.2.2.2.2.2.2.1 _ (xIn_lt hj10)
  refine fx_iconst (x := 0) dX9_buildAlone_41 rfl (by decide) ?_
  refine fx_iconst (x := 0) dX9_buildAlone_42 rfl (by decide) ?_
  refine fx_iconst (x := 1) dX9_buildAlone_43 rfl (by decide) ?_
  refine fx_iload_n dX9_buildAlone_44 rfl rfl ?_
  refine fx_iconst (x := 0) dX9_buildAlone_45 rfl (by decide) ?_
  obtain ⟨p12, ep12, h⟩ := xBind_el h
  refine gx_callv (as := [.int (0 : Int32), .int (0 : Int32), .int (1 : Int32), .int a1, .int (0 : Int32)]) (r := []) rfl dX9_buildAlone_46 ca_9_135 rfl me_24 rfl rfl rfl rfl (hpr11.1) rfl (fX3_build_ok (d := d) (by omega) hpr11 ep12) rfl rfl ?_
  refine fx_aload_n dX9_buildAlone_49 rfl rfl ?_
  refine gx_getr dX9_buildAlone_50 rfl fd_9_19 ha0.1 rfl rfl ?_
  refine fx_iconst (x := 0) dX9_buildAlone_53 rfl (by decide) ?_
  obtain ⟨hj13, h⟩ := xChk_el h
  obtain ⟨r14, hr14, h⟩ := xLet_el h
  refine gx_aaload (t := 5) dX9_buildAlone_54 rfl ha0.2.2.1 rfl hj13 ((xRef_at (sl_9_1 a0) hj13).trans (congrArg some hr14)) ?_
  have hpr14 : isLink r14 := by rw [← hr14]; exact ha0.2.2.2.2.2.2.2.2.1 _ (xIn_lt hj13)
  refine fx_iload_n dX9_buildAlone_55 rfl rfl ?_
  obtain ⟨m15, hm15, h⟩ := xLet_el h
  refine gx_put dX9_buildAlone_56 rfl fd_9_138 hpr14.1 rfl rfl rfl hm15 ?_
  refine fx_aload_n dX9_buildAlone_59 rfl rfl ?_
  refine fx_iconst (x := 0) dX9_buildAlone_60 rfl (by decide) ?_
  refine fx_iconst (x := 1) dX9_buildAlone_61 rfl (by decide) ?_
  refine fx_iconst (x := 0) dX9_buildAlone_62 rfl (by decide) ?_
  refine fx_iload_n dX9_buildAlone_63 rfl rfl ?_
  obtain ⟨p16, ep16, h⟩ := xBind_el h
  refine gx_callv (as := [.int (0 : Int32), .int (1 : Int32), .int (0 : Int32), .int a3]) (r := []) rfl dX9_buildAlone_64 ca_9_141 rfl me_123 rfl rfl rfl rfl (ha0.1) rfl (fX9_comeTo_ok (d := d) (by omega) ha0 ep16) rfl rfl ?_
  cases h
  exact fx_return dX9_buildAlone_67 rfl rfl
def fX9_buildAlone (a0 : Nat) (a1 : Int32) (a2 : Int32) (a3 : Int32) (m : xMem) : Option xMem := fX9_buildAlone_0 a0 a1 a2 a3  m
theorem fX9_buildAlone_ok {a0 : Nat} {a1 : Int32} {a2 : Int32} {a3 : Int32} {m : xMem} {r : xMem} {d : Nat} (hd : 3 ≤ d) (ha0 : isStation a0) (h : fX9_buildAlone a0 a1 a2 a3 m = some r) : xEx d 230 [.ref a0, .int a1, .int a2, .int a3] (xLay m) none (xLay r) := by
  obtain ⟨d, rfl⟩ : ∃ q, d = q + 1 := ⟨d - 1, by omega⟩
  exact xEx_of me_230 rfl (fX9_buildAlone_0_ok (d := d) (by omega) ha0 h)
def fX11_carriedAlone_48 (a0 : Nat) (a1 : Int32) (a2 : Int32) (a3 : Int32) (a4 : Int32) : Nat → Nat → Int32 → xMem → Option (Int32 × xMem)
  | 0, _, _, _ => none
  | fuel + 1, l5, l6, m => if a4 ≤ l6 then xLet (m.1 l5 11) fun x2 => some (x2, m) else (fX6_moveStair (a0 + 250) (a0 + 167) l5 m).bind fun p3 => (fX6_takeUpToTwo (a0 + 250) (a0 + 167) (0 : Int32) a2 p3).bind fun p4 => xLet (l6 + (1 : Int32)) fun x5 => fX11_carriedAlone_48 a0 a1 a2 a3 a4 fuel l5 x5 p4
set_option maxRecDepth 4000 in
theorem fX11_carriedAlone_48_ok {a0 : Nat} {a1 : Int32} {a2 : Int32} {a3 : Int32} {a4 : Int32} {d : Nat} (hd : 5 ≤ d) (ha0 : isMS a0) : ∀ (fuel : Nat) (l5 : Nat) (l6 : Int32) (m : xMem) (r : (Int32 × xMem)) (hl5 : isLink l5), fX11_carriedAlone_48 a0 a1 a2 a3 a4 fuel l5 l6 m = some r → xFx hh_229 cX11_carriedAlone d 48 [some (.ref a0), some (.int a1), some (.int a2), some (.int a3), some (.int a4), some (.ref l5), some (.int l6)] [] (xLay m) 0 0 (some (.int r.1)) (xLay r.2) := by
  intro fuel
  induction fuel with
  | zero => intro l5 l6  m r hl5 h; cases h
  | succ fuel ih =>
    intro l5 l6  m r hl5 h
    unfold fX11_carriedAlone_48 at h
    refine fx_iload dX11_carriedAlone_48 rfl rfl ?_
    refine fx_iload dX11_carriedAlone_50 rfl rfl ?_
    refine fx_icmp_ge (t := 87) dX11_carriedAlone_52 rfl rfl (fun hc1 => ?_) (fun hc1 => ?_)
    · rw [if_pos hc1] at h
      refine fx_aload dX11_carriedAlone_87 rfl rfl ?_
      obtain ⟨x2, hx2, h⟩ := xLet_el h
      refine gx_get dX11_carriedAlone_89 rfl fd_11_203 hl5.1 rfl rfl hx2 ?_
      cases h
      exact fx_ireturn dX11_carriedAlone_92 rfl rfl
    · rw [if_neg hc1] at h
      refine fx_aload_n dX11_carriedAlone_55 rfl rfl ?_
      refine gx_getr dX11_carriedAlone_56 rfl fd_11_25 ha0.1 rfl rfl ?_
      refine fx_aload_n dX11_carriedAlone_59 rfl rfl ?_
      refine gx_getr dX11_carriedAlone_60 rfl fd_11_19 ha0.1 rfl rfl ?_
      refine fx_aload dX11_carriedAlone_63 rfl rfl ?_
      obtain ⟨p3, ep3, h⟩ := xBind_el h
      refine gx_callv (as := [.ref (a0 + 167), .ref l5]) (r := []) rfl dX11_carriedAlone_65 ca_11_333 rfl me_150 rfl rfl rfl rfl (ha0.2.2.2.2.1.1) rfl (fX6_moveStair_ok (d := d) (by omega) ha0.2.2.2.2.1 ha0.2.2.2.1 hl5 ep3) rfl rfl ?_
      refine fx_aload_n dX11_carriedAlone_68 rfl rfl ?_
      refine gx_getr dX11_carriedAlone_69 rfl fd_11_25 ha0.1 rfl rfl ?_
      refine fx_aload_n dX11_carriedAlone_72 rfl rfl ?_
      refine gx_getr dX11_carriedAlone_73 rfl fd_11_19 ha0.1 rfl rfl ?_
      refine fx_iconst (x := 0) dX11_carriedAlone_76 rfl (by decide) ?_
      refine fx_iload_n dX11_carriedAlone_77 rfl rfl ?_
      obtain ⟨p4, ep4, h⟩ := xBind_el h
      refine gx_callv (as := [.ref (a0 + 167), .int (0 : Int32), .int a2]) (r := []) rfl dX11_carriedAlone_78 ca_11_337 rfl me_158 rfl rfl rfl rfl (ha0.2.2.2.2.1.1) rfl (fX6_takeUpToTwo_ok (d := d) (by omega) ha0.2.2.2.2.1 ha0.2.2.2.1 ep4) rfl rfl ?_
      obtain ⟨x5, hx5, h⟩ := xLet_el h
      refine fx_iinc (ls2 := [some (.ref a0), some (.int a1), some (.int a2), some (.int a3), some (.int a4), some (.ref l5), some (.int x5)]) dX11_carriedAlone_81 rfl rfl rfl hx5 rfl ?_
      refine fx_goto (t := 48) dX11_carriedAlone_84 rfl rfl ?_
      exact ih l5 x5 p4 r hl5 h
def fX11_carriedAlone_0 (a0 : Nat) (a1 : Int32) (a2 : Int32) (a3 : Int32) (a4 : Int32) (m : xMem) : Option (Int32 × xMem) := xLet ((2 : Int32) * a4) fun x1 => (fX9_buildAlone (a0 + 167) a1 a3 x1 m).bind fun p2 => (fX6_forgetRoutes (a0 + 250) p2).bind fun p3 => (fX8_find (a0 + 250 + 1) (a0 + 167) p3).bind fun p4 => bif xIn (0 : Int32) 10 then xLet (a0 + 167 + 33 + 2 * (0 : Int32).toNatClampNeg) fun r6 => fX11_carriedAlone_48 a0 a1 a2 a3 a4 xFuel r6 (0 : Int32) p4 else none
set_option maxRecDepth 4000 in
theorem fX11_carriedAlone_0_ok {a0 : Nat} {a1 : Int32} {a2 : Int32} {a3 : Int32} {a4 : Int32} {d : Nat} (hd : 5 ≤ d) (ha0 : isMS a0) {o5 : Option Value} {o6 : Option Value} {m : xMem} {r : (Int32 × xMem)} (q5 : xNoD o5 = true) (q6 : xNoD o6 = true) (h : fX11_carriedAlone_0 a0 a1 a2 a3 a4 m = some r) : xFx hh_229 cX11_carriedAlone d 0 [some (.ref a0), some (.int a1), some (.int a2), some (.int a3), some (.int a4), o5, o6] [] (xLay m) 0 0 (some (.int r.1)) (xLay r.2) := by
  unfold fX11_carriedAlone_0 at h
  refine fx_aload_n dX11_carriedAlone_0 rfl rfl ?_
  refine gx_getr dX11_carriedAlone_1 rfl fd_11_19 ha0.1 rfl rfl ?_
  refine fx_iload_n dX11_carriedAlone_4 rfl rfl ?_
  refine fx_iload_n dX11_carriedAlone_5 rfl rfl ?_
  refine fx_iconst (x := 2) dX11_carriedAlone_6 rfl (by decide) ?_
  refine fx_iload dX11_carriedAlone_7 rfl rfl ?_
  obtain ⟨x1, hx1, h⟩ := xLet_el h
  refine fx_imul dX11_carriedAlone_9 rfl hx1 ?_
  obtain ⟨p2, ep2, h⟩ := xBind_el h
  refine gx_callv (as := [.int a1, .int a3, .int x1]) (r := []) rfl dX11_carriedAlone_10 ca_11_329 rfl me_230 rfl rfl rfl rfl (ha0.2.2.2.1.1) rfl (fX9_buildAlone_ok (d := d) (by omega) ha0.2.2.2.1 ep2) rfl rfl ?_
  refine fx_aload_n dX11_carriedAlone_13 rfl rfl ?_
  refine gx_getr dX11_carriedAlone_14 rfl fd_11_25 ha0.1 rfl rfl ?_
  obtain ⟨p3, ep3, h⟩ := xBind_el h
  refine gx_callv (as := []) (r := []) rfl dX11_carriedAlone_17 ca_11_166 rfl me_118 rfl rfl rfl rfl (ha0.2.2.2.2.1.1) rfl (fX6_forgetRoutes_ok (d := d) (by omega) ha0.2.2.2.2.1 ep3) rfl rfl ?_
  refine fx_aload_n dX11_carriedAlone_20 rfl rfl ?_
  refine gx_getr dX11_carriedAlone_21 rfl fd_11_25 ha0.1 rfl rfl ?_
  refine gx_getr dX11_carriedAlone_24 rfl fd_11_211 ha0.2.2.2.2.1.1 rfl rfl ?_
  refine fx_aload_n dX11_carriedAlone_27 rfl rfl ?_
  refine gx_getr dX11_carriedAlone_28 rfl fd_11_19 ha0.1 rfl rfl ?_
  obtain ⟨p4, ep4, h⟩ := xBind_el h
  refine gx_callv (as := [.ref (a0 + 167)]) (r := []) rfl dX11_carriedAlone_31 ca_11_215 rfl me_133 rfl rfl rfl rfl (ha0.2.2.2.2.1.2.1.1) rfl (fX8_find_ok (d := d) (by omega) ha0.2.2.2.2.1.2.1 ha0.2.2.2.1 ep4) rfl rfl ?_
  refine fx_aload_n dX11_carriedAlone_34 rfl rfl ?_
  refine gx_getr dX11_carriedAlone_35 rfl fd_11_19 ha0.1 rfl rfl ?_
  refine gx_getr dX11_carriedAlone_38 rfl fd_11_75 ha0.2.2.2.1.1 rfl rfl ?_
  refine fx_iconst (x := 0) dX11_carriedAlone_41 rfl (by decide) ?_
  obtain ⟨hj5, h⟩ := xChk_el h
  obtain ⟨r6, hr6, h⟩ := xLet_el h
  refine gx_aaload (t := 5) dX11_carriedAlone_42 rfl ha0.2.2.2.1.2.2.1 rfl hj5 ((xRef_at (sl_9_1 (a0 + 167)) hj5).trans (congrArg some hr6)) ?_
  have hpr6 : isLink r6 := by rw [← hr6]; exact ha0.2.2.2.1.2.2.2.2.2.2.2.2.1 _ (xIn_lt hj5)
  refine fx_astore (ls2 := [some (.ref a0), some (.int a1), some (.int a2), some (.int a3), some (.int a4), some (.ref r6), o6]) dX11_carriedAlone_43 rfl rfl rfl ?_
  refine fx_iconst (x := 0) dX11_carriedAlone_45 rfl (by decide) ?_
  refine fx_istore (ls2 := [some (.ref a0), some (.int a1), some (.int a2), some (.int a3), some (.int a4), some (.ref r6), some (.int (0 : Int32))]) dX11_carriedAlone_46 rfl rfl rfl ?_
  exact fX11_carriedAlone_48_ok hd ha0 xFuel r6 (0 : Int32) p4 r hpr6 h
def fX11_carriedAlone (a0 : Nat) (a1 : Int32) (a2 : Int32) (a3 : Int32) (a4 : Int32) (m : xMem) : Option (Int32 × xMem) := fX11_carriedAlone_0 a0 a1 a2 a3 a4  m
theorem fX11_carriedAlone_ok {a0 : Nat} {a1 : Int32} {a2 : Int32} {a3 : Int32} {a4 : Int32} {m : xMem} {r : (Int32 × xMem)} {d : Nat} (hd : 6 ≤ d) (ha0 : isMS a0) (h : fX11_carriedAlone a0 a1 a2 a3 a4 m = some r) : xEx d 229 [.ref a0, .int a1, .int a2, .int a3, .int a4] (xLay m) (some (.int r.1)) (xLay r.2) := by
  obtain ⟨d, rfl⟩ : ∃ q, d = q + 1 := ⟨d - 1, by omega⟩
  exact xEx_of me_229 rfl (fX11_carriedAlone_0_ok (d := d) (o5 := none) (o6 := none) (by omega) ha0 rfl rfl h)
def fX11_alone_28 (a0 : Nat) (a1 : Int32) (a2 : Int32) (a3 : Int32) (a4 : Int32) (m : xMem) : Option (Int32 × xMem) := some ((-1 : Int32), m)
set_option maxRecDepth 4000 in
theorem fX11_alone_28_ok {a0 : Nat} {a1 : Int32} {a2 : Int32} {a3 : Int32} {a4 : Int32} {d : Nat} (hd : 6 ≤ d) (ha0 : isMS a0) {m : xMem} {r : (Int32 × xMem)} (h : fX11_alone_28 a0 a1 a2 a3 a4 m = some r) : xFx hh_227 cX11_alone d 28 [some (.ref a0), some (.int a1), some (.int a2), some (.int a3), some (.int a4)] [] (xLay m) 0 0 (some (.int r.1)) (xLay r.2) := by
  unfold fX11_alone_28 at h
  refine fx_iconst (x := -1) dX11_alone_28 rfl (by decide) ?_
  cases h
  exact fx_ireturn dX11_alone_29 rfl rfl
def fX11_alone_0 (a0 : Nat) (a1 : Int32) (a2 : Int32) (a3 : Int32) (a4 : Int32) (m : xMem) : Option (Int32 × xMem) := (fX11_within a2 (0 : Int32) (10 : Int32) m).bind fun p1 => if p1.1 = (0 : Int32) then fX11_alone_28 a0 a1 a2 a3 a4 p1.2 else (fX11_within a3 (0 : Int32) (1 : Int32) p1.2).bind fun p3 => if p3.1 = (0 : Int32) then fX11_alone_28 a0 a1 a2 a3 a4 p3.2 else (fX11_mayStandAlone a1 a4 p3.2).bind fun p5 => if ¬ p5.1 = (0 : Int32) then (fX11_carriedAlone a0 a1 a2 a3 a4 p5.2).bind fun p7 => some (p7.1, p7.2) else fX11_alone_28 a0 a1 a2 a3 a4 p5.2
set_option maxRecDepth 4000 in
theorem fX11_alone_0_ok {a0 : Nat} {a1 : Int32} {a2 : Int32} {a3 : Int32} {a4 : Int32} {d : Nat} (hd : 6 ≤ d) (ha0 : isMS a0) {m : xMem} {r : (Int32 × xMem)} (h : fX11_alone_0 a0 a1 a2 a3 a4 m = some r) : xFx hh_227 cX11_alone d 0 [some (.ref a0), some (.int a1), some (.int a2), some (.int a3), some (.int a4)] [] (xLay m) 0 0 (some (.int r.1)) (xLay r.2) := by
  unfold fX11_alone_0 at h
  refine fx_iload_n dX11_alone_0 rfl rfl ?_
  refine fx_iconst (x := 0) dX11_alone_1 rfl (by decide) ?_
  refine fx_bipush (x := 10) dX11_alone_2 rfl (by decide) ?_
  obtain ⟨p1, ep1, h⟩ := xBind_el h
  refine gx_calls (as := [.int a2, .int (0 : Int32), .int (10 : Int32)]) (r := []) rfl dX11_alone_4 ca_11_47 rfl me_14 rfl rfl rfl rfl (fX11_within_ok (d := d) (by omega) ep1) rfl rfl ?_
  refine fx_if_eq (t := 28) dX11_alone_7 rfl rfl (fun hc2 => ?_) (fun hc2 => ?_)
  · rw [if_pos hc2] at h
    exact fX11_alone_28_ok hd ha0 h
  · rw [if_neg hc2] at h
    refine fx_iload_n dX11_alone_10 rfl rfl ?_
    refine fx_iconst (x := 0) dX11_alone_11 rfl (by decide) ?_
    refine fx_iconst (x := 1) dX11_alone_12 rfl (by decide) ?_
    obtain ⟨p3, ep3, h⟩ := xBind_el h
    refine gx_calls (as := [.int a3, .int (0 : Int32), .int (1 : Int32)]) (r := []) rfl dX11_alone_13 ca_11_47 rfl me_14 rfl rfl rfl rfl (fX11_within_ok (d := d) (by omega) ep3) rfl rfl ?_
    refine fx_if_eq (t := 28) dX11_alone_16 rfl rfl (fun hc4 => ?_) (fun hc4 => ?_)
    · rw [if_pos hc4] at h
      exact fX11_alone_28_ok hd ha0 h
    · rw [if_neg hc4] at h
      refine fx_iload_n dX11_alone_19 rfl rfl ?_
      refine fx_iload dX11_alone_20 rfl rfl ?_
      obtain ⟨p5, ep5, h⟩ := xBind_el h
      refine gx_calls (as := [.int a1, .int a4]) (r := []) rfl dX11_alone_22 ca_11_261 rfl me_228 rfl rfl rfl rfl (fX11_mayStandAlone_ok (d := d) (by omega) ep5) rfl rfl ?_
      refine fx_if_ne (t := 30) dX11_alone_25 rfl rfl (fun hc6 => ?_) (fun hc6 => ?_)
      · rw [if_pos hc6] at h
        refine fx_aload_n dX11_alone_30 rfl rfl ?_
        refine fx_iload_n dX11_alone_31 rfl rfl ?_
        refine fx_iload_n dX11_alone_32 rfl rfl ?_
        refine fx_iload_n dX11_alone_33 rfl rfl ?_
        refine fx_iload dX11_alone_34 rfl rfl ?_
        obtain ⟨p7, ep7, h⟩ := xBind_el h
        refine gx_callv (as := [.int a1, .int a2, .int a3, .int a4]) (r := []) rfl dX11_alone_36 ca_11_265 rfl me_229 rfl rfl rfl rfl (ha0.1) rfl (fX11_carriedAlone_ok (d := d) (by omega) ha0 ep7) rfl rfl ?_
        cases h
        exact fx_ireturn dX11_alone_39 rfl rfl
      · rw [if_neg hc6] at h
        exact fX11_alone_28_ok hd ha0 h
def fX11_alone (a0 : Nat) (a1 : Int32) (a2 : Int32) (a3 : Int32) (a4 : Int32) (m : xMem) : Option (Int32 × xMem) := fX11_alone_0 a0 a1 a2 a3 a4  m
theorem fX11_alone_ok {a0 : Nat} {a1 : Int32} {a2 : Int32} {a3 : Int32} {a4 : Int32} {m : xMem} {r : (Int32 × xMem)} {d : Nat} (hd : 7 ≤ d) (ha0 : isMS a0) (h : fX11_alone a0 a1 a2 a3 a4 m = some r) : xEx d 227 [.ref a0, .int a1, .int a2, .int a3, .int a4] (xLay m) (some (.int r.1)) (xLay r.2) := by
  obtain ⟨d, rfl⟩ : ∃ q, d = q + 1 := ⟨d - 1, by omega⟩
  exact xEx_of me_227 rfl (fX11_alone_0_ok (d := d) (by omega) ha0 h)
def fX12_loneMoves_101 (a0 : Nat) (a1 : Int32) (a2 : Int32) (rec7 : Int32 → Int32 → xMem → Option (Int32 × xMem)) (l3 : Int32) (l4 : Int32) (m : xMem) : Option (Int32 × xMem) := xLet (l4 + (-1 : Int32)) fun x1 => rec7 l3 x1 m
set_option maxRecDepth 4000 in
theorem fX12_loneMoves_101_ok {a0 : Nat} {a1 : Int32} {a2 : Int32} {rec7 : Int32 → Int32 → xMem → Option (Int32 × xMem)} {d : Nat} (hd : 0 ≤ d) (ha0 : isModel a0) (hrec7 : ∀ (l3 : Int32) (l4 : Int32) (o5 : Option Value) (o6 : Option Value) (o7 : Option Value) (q5 : xNoD o5 = true) (q6 : xNoD o6 = true) (q7 : xNoD o7 = true) (m : xMem) (r : (Int32 × xMem)), rec7 l3 l4 m = some r → xFx hh_233 cX12_loneMoves d 7 [some (.ref a0), some (.int a1), some (.int a2), some (.int l3), some (.int l4), o5, o6, o7] [] (xLay m) 0 0 (some (.int r.1)) (xLay r.2)) {l3 : Int32} {l4 : Int32} {o5 : Option Value} {o6 : Option Value} {o7 : Option Value} {m : xMem} {r : (Int32 × xMem)} (q5 : xNoD o5 = true) (q6 : xNoD o6 = true) (q7 : xNoD o7 = true) (h : fX12_loneMoves_101 a0 a1 a2 rec7 l3 l4 m = some r) : xFx hh_233 cX12_loneMoves d 101 [some (.ref a0), some (.int a1), some (.int a2), some (.int l3), some (.int l4), o5, o6, o7] [] (xLay m) 0 0 (some (.int r.1)) (xLay r.2) := by
  unfold fX12_loneMoves_101 at h
  obtain ⟨x1, hx1, h⟩ := xLet_el h
  refine fx_iinc (ls2 := [some (.ref a0), some (.int a1), some (.int a2), some (.int l3), some (.int x1), o5, o6, o7]) dX12_loneMoves_101 rfl rfl rfl hx1 rfl ?_
  refine fx_goto (t := 7) dX12_loneMoves_104 rfl rfl ?_
  exact hrec7 l3 x1 (o5) (o6) (o7) q5 q6 q7 m r h
def fX12_loneMoves_87 (a0 : Nat) (a1 : Int32) (a2 : Int32) (rec7 : Int32 → Int32 → xMem → Option (Int32 × xMem)) (l3 : Int32) (l4 : Int32) (l5 : Int32) (l6 : Int32) (s0 : Int32) (m : xMem) : Option (Int32 × xMem) := xLet (l5 + s0) fun x1 => bif xIn x1 80 then xLet (xPut m (a0 + 23) x1.toNatClampNeg l6) fun m2 => fX12_loneMoves_101 a0 a1 a2 rec7 l3 l4 m2 else none
set_option maxRecDepth 4000 in
theorem fX12_loneMoves_87_ok {a0 : Nat} {a1 : Int32} {a2 : Int32} {rec7 : Int32 → Int32 → xMem → Option (Int32 × xMem)} {d : Nat} (hd : 0 ≤ d) (ha0 : isModel a0) (hrec7 : ∀ (l3 : Int32) (l4 : Int32) (o5 : Option Value) (o6 : Option Value) (o7 : Option Value) (q5 : xNoD o5 = true) (q6 : xNoD o6 = true) (q7 : xNoD o7 = true) (m : xMem) (r : (Int32 × xMem)), rec7 l3 l4 m = some r → xFx hh_233 cX12_loneMoves d 7 [some (.ref a0), some (.int a1), some (.int a2), some (.int l3), some (.int l4), o5, o6, o7] [] (xLay m) 0 0 (some (.int r.1)) (xLay r.2)) {l3 : Int32} {l4 : Int32} {l5 : Int32} {l6 : Int32} {s0 : Int32} {o7 : Option Value} {m : xMem} {r : (Int32 × xMem)} (q7 : xNoD o7 = true) (h : fX12_loneMoves_87 a0 a1 a2 rec7 l3 l4 l5 l6 s0 m = some r) : xFx hh_233 cX12_loneMoves d 87 [some (.ref a0), some (.int a1), some (.int a2), some (.int l3), some (.int l4), some (.int l5), some (.int l6), o7] [.int s0] (xLay m) 0 0 (some (.int r.1)) (xLay r.2) := by
  unfold fX12_loneMoves_87 at h
  refine fx_istore (ls2 := [some (.ref a0), some (.int a1), some (.int a2), some (.int l3), some (.int l4), some (.int l5), some (.int l6), some (.int s0)]) dX12_loneMoves_87 rfl rfl rfl ?_
  refine fx_aload_n dX12_loneMoves_89 rfl rfl ?_
  refine gx_getr dX12_loneMoves_90 rfl fd_12_86 ha0.1 rfl rfl ?_
  refine fx_iload dX12_loneMoves_93 rfl rfl ?_
  refine fx_iload dX12_loneMoves_95 rfl rfl ?_
  obtain ⟨x1, hx1, h⟩ := xLet_el h
  refine fx_iadd dX12_loneMoves_97 rfl hx1 ?_
  refine fx_iload dX12_loneMoves_98 rfl rfl ?_
  obtain ⟨hj3, h⟩ := xChk_el h
  obtain ⟨m2, hm2, h⟩ := xLet_el h
  refine gx_iastore dX12_loneMoves_100 rfl ha0.2.2.2.2.2.2.2.2.2.2.2.2.2.2.2.2.2.2.2.2.2.2.2.1 hj3 hm2 ?_
  exact fX12_loneMoves_101_ok (o5 := some (.int l5)) (o6 := some (.int l6)) (o7 := some (.int s0)) hd ha0 hrec7 rfl rfl rfl h
def fX12_loneMoves_85 (a0 : Nat) (a1 : Int32) (a2 : Int32) (rec7 : Int32 → Int32 → xMem → Option (Int32 × xMem)) (l3 : Int32) (l4 : Int32) (l5 : Int32) (l6 : Int32) (m : xMem) : Option (Int32 × xMem) := fX12_loneMoves_87 a0 a1 a2 rec7 l3 l4 l5 l6 l6 m
set_option maxRecDepth 4000 in
theorem fX12_loneMoves_85_ok {a0 : Nat} {a1 : Int32} {a2 : Int32} {rec7 : Int32 → Int32 → xMem → Option (Int32 × xMem)} {d : Nat} (hd : 0 ≤ d) (ha0 : isModel a0) (hrec7 : ∀ (l3 : Int32) (l4 : Int32) (o5 : Option Value) (o6 : Option Value) (o7 : Option Value) (q5 : xNoD o5 = true) (q6 : xNoD o6 = true) (q7 : xNoD o7 = true) (m : xMem) (r : (Int32 × xMem)), rec7 l3 l4 m = some r → xFx hh_233 cX12_loneMoves d 7 [some (.ref a0), some (.int a1), some (.int a2), some (.int l3), some (.int l4), o5, o6, o7] [] (xLay m) 0 0 (some (.int r.1)) (xLay r.2)) {l3 : Int32} {l4 : Int32} {l5 : Int32} {l6 : Int32} {o7 : Option Value} {m : xMem} {r : (Int32 × xMem)} (q7 : xNoD o7 = true) (h : fX12_loneMoves_85 a0 a1 a2 rec7 l3 l4 l5 l6 m = some r) : xFx hh_233 cX12_loneMoves d 85 [some (.ref a0), some (.int a1), some (.int a2), some (.int l3), some (.int l4), some (.int l5), some (.int l6), o7] [] (xLay m) 0 0 (some (.int r.1)) (xLay r.2) := by
  unfold fX12_loneMoves_85 at h
  refine fx_iload dX12_loneMoves_85 rfl rfl ?_
  exact fX12_loneMoves_87_ok (o7 := o7) hd ha0 hrec7 q7 h
def fX12_loneMoves_58 (a0 : Nat) (a1 : Int32) (a2 : Int32) (rec7 : Int32 → Int32 → xMem → Option (Int32 × xMem)) (l3 : Int32) (l4 : Int32) (l5 : Int32) (l6 : Int32) (m : xMem) : Option (Int32 × xMem) := if l6 ≤ (0 : Int32) then fX12_loneMoves_101 a0 a1 a2 rec7 l3 l4 m else if ¬ l6 = (2 : Int32) then fX12_loneMoves_85 a0 a1 a2 rec7 l3 l4 l5 l6 m else xLet (l5 + (2 : Int32)) fun x3 => bif xIn x3 80 then xLet (m.1 (a0 + 23) x3.toNatClampNeg) fun x4 => if x4 ≤ (0 : Int32) then fX12_loneMoves_85 a0 a1 a2 rec7 l3 l4 l5 l6 m else fX12_loneMoves_87 a0 a1 a2 rec7 l3 l4 l5 l6 (1 : Int32) m else none
set_option maxRecDepth 4000 in
theorem fX12_loneMoves_58_ok {a0 : Nat} {a1 : Int32} {a2 : Int32} {rec7 : Int32 → Int32 → xMem → Option (Int32 × xMem)} {d : Nat} (hd : 0 ≤ d) (ha0 : isModel a0) (hrec7 : ∀ (l3 : Int32) (l4 : Int32) (o5 : Option Value) (o6 : Option Value) (o7 : Option Value) (q5 : xNoD o5 = true) (q6 : xNoD o6 = true) (q7 : xNoD o7 = true) (m : xMem) (r : (Int32 × xMem)), rec7 l3 l4 m = some r → xFx hh_233 cX12_loneMoves d 7 [some (.ref a0), some (.int a1), some (.int a2), some (.int l3), some (.int l4), o5, o6, o7] [] (xLay m) 0 0 (some (.int r.1)) (xLay r.2)) {l3 : Int32} {l4 : Int32} {l5 : Int32} {l6 : Int32} {o7 : Option Value} {m : xMem} {r : (Int32 × xMem)} (q7 : xNoD o7 = true) (h : fX12_loneMoves_58 a0 a1 a2 rec7 l3 l4 l5 l6 m = some r) : xFx hh_233 cX12_loneMoves d 58 [some (.ref a0), some (.int a1), some (.int a2), some (.int l3), some (.int l4), some (.int l5), some (.int l6), o7] [] (xLay m) 0 0 (some (.int r.1)) (xLay r.2) := by
  unfold fX12_loneMoves_58 at h
  refine fx_iload dX12_loneMoves_58 rfl rfl ?_
  refine fx_if_le (t := 101) dX12_loneMoves_60 rfl rfl (fun hc1 => ?_) (fun hc1 => ?_)
  · rw [if_pos hc1] at h
    exact fX12_loneMoves_101_ok (o5 := some (.int l5)) (o6 := some (.int l6)) (o7 := o7) hd ha0 hrec7 rfl rfl q7 h
  · rw [if_neg hc1] at h
    refine fx_iload dX12_loneMoves_63 rfl rfl ?_
    refine fx_iconst (x := 2) dX12_loneMoves_65 rfl (by decide) ?_
    refine fx_icmp_ne (t := 85) dX12_loneMoves_66 rfl rfl (fun hc2 => ?_) (fun hc2 => ?_)
    · rw [if_pos hc2] at h
      exact fX12_loneMoves_85_ok (o7 := o7) hd ha0 hrec7 q7 h
    · rw [if_neg hc2] at h
      refine fx_aload_n dX12_loneMoves_69 rfl rfl ?_
      refine gx_getr dX12_loneMoves_70 rfl fd_12_86 ha0.1 rfl rfl ?_
      refine fx_iload dX12_loneMoves_73 rfl rfl ?_
      refine fx_iconst (x := 2) dX12_loneMoves_75 rfl (by decide) ?_
      obtain ⟨x3, hx3, h⟩ := xLet_el h
      refine fx_iadd dX12_loneMoves_76 rfl hx3 ?_
      obtain ⟨hj5, h⟩ := xChk_el h
      obtain ⟨x4, hx4, h⟩ := xLet_el h
      refine gx_iaload dX12_loneMoves_77 rfl ha0.2.2.2.2.2.2.2.2.2.2.2.2.2.2.2.2.2.2.2.2.2.2.2.1 hj5 hx4 ?_
      refine fx_if_le (t := 85) dX12_loneMoves_78 rfl rfl (fun hc6 => ?_) (fun hc6 => ?_)
      · rw [if_pos hc6] at h
        exact fX12_loneMoves_85_ok (o7 := o7) hd ha0 hrec7 q7 h
      · rw [if_neg hc6] at h
        refine fx_iconst (x := 1) dX12_loneMoves_81 rfl (by decide) ?_
        refine fx_goto (t := 87) dX12_loneMoves_82 rfl rfl ?_
        exact fX12_loneMoves_87_ok (o7 := o7) hd ha0 hrec7 q7 h
def fX12_loneMoves_7 (a0 : Nat) (a1 : Int32) (a2 : Int32) : Nat → Int32 → Int32 → xMem → Option (Int32 × xMem)
  | 0, _, _, _ => none
  | fuel + 1, l3, l4, m => if l4 < (0 : Int32) then some (l3, m) else xLet ((40 : Int32) * a2) fun x2 => xLet (x2 + l4) fun x3 => bif xIn x3 80 then xLet (m.1 (a0 + 23) x3.toNatClampNeg) fun x4 => bif xIn x3 80 then xLet (xPut m (a0 + 23) x3.toNatClampNeg (0 : Int32)) fun m6 => if x4 ≤ (0 : Int32) then fX12_loneMoves_58 a0 a1 a2 (fX12_loneMoves_7 a0 a1 a2 fuel) l3 l4 x3 x4 m6 else xLet (l4 + x4) fun x9 => if x9 < a1 then fX12_loneMoves_58 a0 a1 a2 (fX12_loneMoves_7 a0 a1 a2 fuel) l3 l4 x3 x4 m6 else xLet (l3 + (1 : Int32)) fun x11 => fX12_loneMoves_101 a0 a1 a2 (fX12_loneMoves_7 a0 a1 a2 fuel) x11 l4 m6 else none else none
set_option maxRecDepth 4000 in
theorem fX12_loneMoves_7_ok {a0 : Nat} {a1 : Int32} {a2 : Int32} {d : Nat} (hd : 0 ≤ d) (ha0 : isModel a0) : ∀ (fuel : Nat) (l3 : Int32) (l4 : Int32) (o5 : Option Value) (o6 : Option Value) (o7 : Option Value) (q5 : xNoD o5 = true) (q6 : xNoD o6 = true) (q7 : xNoD o7 = true) (m : xMem) (r : (Int32 × xMem)), fX12_loneMoves_7 a0 a1 a2 fuel l3 l4 m = some r → xFx hh_233 cX12_loneMoves d 7 [some (.ref a0), some (.int a1), some (.int a2), some (.int l3), some (.int l4), o5, o6, o7] [] (xLay m) 0 0 (some (.int r.1)) (xLay r.2) := by
  intro fuel
  induction fuel with
  | zero => intro l3 l4 o5 o6 o7 q5 q6 q7 m r  h; cases h
  | succ fuel ih =>
    intro l3 l4 o5 o6 o7 q5 q6 q7 m r  h
    unfold fX12_loneMoves_7 at h
    refine fx_iload dX12_loneMoves_7 rfl rfl ?_
    refine fx_if_lt (t := 107) dX12_loneMoves_9 rfl rfl (fun hc1 => ?_) (fun hc1 => ?_)
    · rw [if_pos hc1] at h
      refine fx_iload_n dX12_loneMoves_107 rfl rfl ?_
      cases h
      exact fx_ireturn dX12_loneMoves_108 rfl rfl
    · rw [if_neg hc1] at h
      refine fx_bipush (x := 40) dX12_loneMoves_12 rfl (by decide) ?_
      refine fx_iload_n dX12_loneMoves_14 rfl rfl ?_
      obtain ⟨x2, hx2, h⟩ := xLet_el h
      refine fx_imul dX12_loneMoves_15 rfl hx2 ?_
      refine fx_iload dX12_loneMoves_16 rfl rfl ?_
      obtain ⟨x3, hx3, h⟩ := xLet_el h
      refine fx_iadd dX12_loneMoves_18 rfl hx3 ?_
      refine fx_istore (ls2 := [some (.ref a0), some (.int a1), some (.int a2), some (.int l3), some (.int l4), some (.int x3), o6, o7]) dX12_loneMoves_19 rfl rfl rfl ?_
      refine fx_aload_n dX12_loneMoves_21 rfl rfl ?_
      refine gx_getr dX12_loneMoves_22 rfl fd_12_86 ha0.1 rfl rfl ?_
      refine fx_iload dX12_loneMoves_25 rfl rfl ?_
      obtain ⟨hj5, h⟩ := xChk_el h
      obtain ⟨x4, hx4, h⟩ := xLet_el h
      refine gx_iaload dX12_loneMoves_27 rfl ha0.2.2.2.2.2.2.2.2.2.2.2.2.2.2.2.2.2.2.2.2.2.2.2.1 hj5 hx4 ?_
      refine fx_istore (ls2 := [some (.ref a0), some (.int a1), some (.int a2), some (.int l3), some (.int l4), some (.int x3), some (.int x4), o7]) dX12_loneMoves_28 rfl rfl rfl ?_
      refine fx_aload_n dX12_loneMoves_30 rfl rfl ?_
      refine gx_getr dX12_loneMoves_31 rfl fd_12_86 ha0.1 rfl rfl ?_
      refine fx_iload dX12_loneMoves_34 rfl rfl ?_
      refine fx_iconst (x := 0) dX12_loneMoves_36 rfl (by decide) ?_
      obtain ⟨hj7, h⟩ := xChk_el h
      obtain ⟨m6, hm6, h⟩ := xLet_el h
      refine gx_iastore dX12_loneMoves_37 rfl ha0.2.2.2.2.2.2.2.2.2.2.2.2.2.2.2.2.2.2.2.2.2.2.2.1 hj7 hm6 ?_
      refine fx_iload dX12_loneMoves_38 rfl rfl ?_
      refine fx_if_le (t := 58) dX12_loneMoves_40 rfl rfl (fun hc8 => ?_) (fun hc8 => ?_)
      · rw [if_pos hc8] at h
        exact fX12_loneMoves_58_ok (o7 := o7) hd ha0 ih q7 h
      · rw [if_neg hc8] at h
        refine fx_iload dX12_loneMoves_43 rfl rfl ?_
        refine fx_iload dX12_loneMoves_45 rfl rfl ?_
        obtain ⟨x9, hx9, h⟩ := xLet_el h
        refine fx_iadd dX12_loneMoves_47 rfl hx9 ?_
        refine fx_iload_n dX12_loneMoves_48 rfl rfl ?_
        refine fx_icmp_lt (t := 58) dX12_loneMoves_49 rfl rfl (fun hc10 => ?_) (fun hc10 => ?_)
        · rw [if_pos hc10] at h
          exact fX12_loneMoves_58_ok (o7 := o7) hd ha0 ih q7 h
        · rw [if_neg hc10] at h
          obtain ⟨x11, hx11, h⟩ := xLet_el h
          refine fx_iinc (ls2 := [some (.ref a0), some (.int a1), some (.int a2), some (.int x11), some (.int l4), some (.int x3), some (.int x4), o7]) dX12_loneMoves_52 rfl rfl rfl hx11 rfl ?_
          refine fx_goto (t := 101) dX12_loneMoves_55 rfl rfl ?_
          exact fX12_loneMoves_101_ok (o5 := some (.int x3)) (o6 := some (.int x4)) (o7 := o7) hd ha0 ih rfl rfl q7 h
def fX12_loneMoves_0 (a0 : Nat) (a1 : Int32) (a2 : Int32) (m : xMem) : Option (Int32 × xMem) := xLet (a1 - (1 : Int32)) fun x1 => fX12_loneMoves_7 a0 a1 a2 xFuel (0 : Int32) x1 m
set_option maxRecDepth 4000 in
theorem fX12_loneMoves_0_ok {a0 : Nat} {a1 : Int32} {a2 : Int32} {d : Nat} (hd : 0 ≤ d) (ha0 : isModel a0) {o3 : Option Value} {o4 : Option Value} {o5 : Option Value} {o6 : Option Value} {o7 : Option Value} {m : xMem} {r : (Int32 × xMem)} (q3 : xNoD o3 = true) (q4 : xNoD o4 = true) (q5 : xNoD o5 = true) (q6 : xNoD o6 = true) (q7 : xNoD o7 = true) (h : fX12_loneMoves_0 a0 a1 a2 m = some r) : xFx hh_233 cX12_loneMoves d 0 [some (.ref a0), some (.int a1), some (.int a2), o3, o4, o5, o6, o7] [] (xLay m) 0 0 (some (.int r.1)) (xLay r.2) := by
  unfold fX12_loneMoves_0 at h
  refine fx_iconst (x := 0) dX12_loneMoves_0 rfl (by decide) ?_
  refine fx_istore_n (ls2 := [some (.ref a0), some (.int a1), some (.int a2), some (.int (0 : Int32)), o4, o5, o6, o7]) dX12_loneMoves_1 rfl rfl rfl ?_
  refine fx_iload_n dX12_loneMoves_2 rfl rfl ?_
  refine fx_iconst (x := 1) dX12_loneMoves_3 rfl (by decide) ?_
  obtain ⟨x1, hx1, h⟩ := xLet_el h
  refine fx_isub dX12_loneMoves_4 rfl hx1 ?_
  refine fx_istore (ls2 := [some (.ref a0), some (.int a1), some (.int a2), some (.int (0 : Int32)), some (.int x1), o5, o6, o7]) dX12_loneMoves_5 rfl rfl rfl ?_
  exact fX12_loneMoves_7_ok hd ha0 xFuel (0 : Int32) x1 (o5) (o6) (o7) q5 q6 q7 m r h
def fX12_loneMoves (a0 : Nat) (a1 : Int32) (a2 : Int32) (m : xMem) : Option (Int32 × xMem) := fX12_loneMoves_0 a0 a1 a2  m
theorem fX12_loneMoves_ok {a0 : Nat} {a1 : Int32} {a2 : Int32} {m : xMem} {r : (Int32 × xMem)} {d : Nat} (hd : 1 ≤ d) (ha0 : isModel a0) (h : fX12_loneMoves a0 a1 a2 m = some r) : xEx d 233 [.ref a0, .int a1, .int a2] (xLay m) (some (.int r.1)) (xLay r.2) := by
  obtain ⟨d, rfl⟩ : ∃ q, d = q + 1 := ⟨d - 1, by omega⟩
  exact xEx_of me_233 rfl (fX12_loneMoves_0_ok (d := d) (o3 := none) (o4 := none) (o5 := none) (o6 := none) (o7 := none) (by omega) ha0 rfl rfl rfl rfl rfl h)
