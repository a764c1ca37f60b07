theorem dX8_find_0 : decode cX8_find 0 = .ok (.iconst 0, 1) := by decide +kernel
theorem dX8_find_1 : decode cX8_find 1 = .ok (.istore_n 2, 1) := by decide +kernel
theorem dX8_find_2 : decode cX8_find 2 = .ok (.iconst 0, 1) := by decide +kernel
theorem dX8_find_3 : decode cX8_find 3 = .ok (.istore_n 3, 1) := by decide +kernel
theorem dX8_find_4 : decode cX8_find 4 = .ok (.iload_n 3, 1) := by decide +kernel
theorem dX8_find_5 : decode cX8_find 5 = .ok (.aload_n 1, 1) := by decide +kernel
theorem dX8_find_6 : decode cX8_find 6 = .ok (.getfield 22, 3) := by decide +kernel
theorem dX8_find_9 : decode cX8_find 9 = .ok (.if_icmp .ge 47, 3) := by decide +kernel
theorem dX8_find_12 : decode cX8_find 12 = .ok (.iload_n 3, 1) := by decide +kernel
theorem dX8_find_13 : decode cX8_find 13 = .ok (.bipush 10, 2) := by decide +kernel
theorem dX8_find_15 : decode cX8_find 15 = .ok (.if_icmp .ge 41, 3) := by decide +kernel
theorem dX8_find_18 : decode cX8_find 18 = .ok (.aload_n 1, 1) := by decide +kernel
theorem dX8_find_19 : decode cX8_find 19 = .ok (.getfield 27, 3) := by decide +kernel
theorem dX8_find_22 : decode cX8_find 22 = .ok (.iload_n 3, 1) := by decide +kernel
theorem dX8_find_23 : decode cX8_find 23 = .ok (.aaload, 1) := by decide +kernel
theorem dX8_find_24 : decode cX8_find 24 = .ok (.astore 4, 2) := by decide +kernel
theorem dX8_find_26 : decode cX8_find 26 = .ok (.iload_n 2, 1) := by decide +kernel
theorem dX8_find_27 : decode cX8_find 27 = .ok (.iconst 2, 1) := by decide +kernel
theorem dX8_find_28 : decode cX8_find 28 = .ok (.ishl, 1) := by decide +kernel
theorem dX8_find_29 : decode cX8_find 29 = .ok (.aload 4, 2) := by decide +kernel
theorem dX8_find_31 : decode cX8_find 31 = .ok (.invokevirtual 31, 3) := by decide +kernel
theorem dX8_find_34 : decode cX8_find 34 = .ok (.ifCond .eq 13, 3) := by decide +kernel
theorem dX8_find_37 : decode cX8_find 37 = .ok (.aload 4, 2) := by decide +kernel
theorem dX8_find_39 : decode cX8_find 39 = .ok (.getfield 37, 3) := by decide +kernel
theorem dX8_find_42 : decode cX8_find 42 = .ok (.iconst 1, 1) := by decide +kernel
theorem dX8_find_43 : decode cX8_find 43 = .ok (.iadd, 1) := by decide +kernel
theorem dX8_find_44 : decode cX8_find 44 = .ok (.goto 4, 3) := by decide +kernel
theorem dX8_find_47 : decode cX8_find 47 = .ok (.iconst 0, 1) := by decide +kernel
theorem dX8_find_48 : decode cX8_find 48 = .ok (.ior, 1) := by decide +kernel
theorem dX8_find_49 : decode cX8_find 49 = .ok (.istore_n 2, 1) := by decide +kernel
theorem dX8_find_50 : decode cX8_find 50 = .ok (.iinc 3 1, 3) := by decide +kernel
theorem dX8_find_53 : decode cX8_find 53 = .ok (.goto (-49), 3) := by decide +kernel
theorem dX8_find_56 : decode cX8_find 56 = .ok (.iload_n 2, 1) := by decide +kernel
theorem dX8_find_57 : decode cX8_find 57 = .ok (.aload_n 0, 1) := by decide +kernel
theorem dX8_find_58 : decode cX8_find 58 = .ok (.getfield 18, 3) := by decide +kernel
theorem dX8_find_61 : decode cX8_find 61 = .ok (.if_icmp .ne 4, 3) := by decide +kernel
theorem dX8_find_64 : decode cX8_find 64 = .ok (.return_, 1) := by decide +kernel
theorem dX8_find_65 : decode cX8_find 65 = .ok (.aload_n 0, 1) := by decide +kernel
theorem dX8_find_66 : decode cX8_find 66 = .ok (.iload_n 2, 1) := by decide +kernel
theorem dX8_find_67 : decode cX8_find 67 = .ok (.putfield 18, 3) := by decide +kernel
theorem dX8_find_70 : decode cX8_find 70 = .ok (.aload_n 0, 1) := by decide +kernel
theorem dX8_find_71 : decode cX8_find 71 = .ok (.aload_n 1, 1) := by decide +kernel
theorem dX8_find_72 : decode cX8_find 72 = .ok (.iconst 0, 1) := by decide +kernel
theorem dX8_find_73 : decode cX8_find 73 = .ok (.invokevirtual 40, 3) := by decide +kernel
theorem dX8_find_76 : decode cX8_find 76 = .ok (.aload_n 0, 1) := by decide +kernel
theorem dX8_find_77 : decode cX8_find 77 = .ok (.aload_n 1, 1) := by decide +kernel
theorem dX8_find_78 : decode cX8_find 78 = .ok (.iconst 1, 1) := by decide +kernel
theorem dX8_find_79 : decode cX8_find 79 = .ok (.invokevirtual 40, 3) := by decide +kernel
theorem dX8_find_82 : decode cX8_find 82 = .ok (.return_, 1) := by decide +kernel
theorem dX2_waiting_0 : decode cX2_waiting 0 = .ok (.iload_n 2, 1) := by decide +kernel
theorem dX2_waiting_1 : decode cX2_waiting 1 = .ok (.bipush 6, 2) := by decide +kernel
theorem dX2_waiting_3 : decode cX2_waiting 3 = .ok (.imul, 1) := by decide +kernel
theorem dX2_waiting_4 : decode cX2_waiting 4 = .ok (.iload_n 1, 1) := by decide +kernel
theorem dX2_waiting_5 : decode cX2_waiting 5 = .ok (.iadd, 1) := by decide +kernel
theorem dX2_waiting_6 : decode cX2_waiting 6 = .ok (.istore_n 3, 1) := by decide +kernel
theorem dX2_waiting_7 : decode cX2_waiting 7 = .ok (.iload_n 3, 1) := by decide +kernel
theorem dX2_waiting_8 : decode cX2_waiting 8 = .ok (.ifCond .lt 21, 3) := by decide +kernel
theorem dX2_waiting_11 : decode cX2_waiting 11 = .ok (.iload_n 3, 1) := by decide +kernel
theorem dX2_waiting_12 : decode cX2_waiting 12 = .ok (.aload_n 0, 1) := by decide +kernel
theorem dX2_waiting_13 : decode cX2_waiting 13 = .ok (.getfield 9, 3) := by decide +kernel
theorem dX2_waiting_16 : decode cX2_waiting 16 = .ok (.arraylength, 1) := by decide +kernel
theorem dX2_waiting_17 : decode cX2_waiting 17 = .ok (.if_icmp .ge 12, 3) := by decide +kernel
theorem dX2_waiting_20 : decode cX2_waiting 20 = .ok (.aload_n 0, 1) := by decide +kernel
theorem dX2_waiting_21 : decode cX2_waiting 21 = .ok (.getfield 9, 3) := by decide +kernel
theorem dX2_waiting_24 : decode cX2_waiting 24 = .ok (.iload_n 3, 1) := by decide +kernel
theorem dX2_waiting_25 : decode cX2_waiting 25 = .ok (.iaload, 1) := by decide +kernel
theorem dX2_waiting_26 : decode cX2_waiting 26 = .ok (.goto 4, 3) := by decide +kernel
theorem dX2_waiting_29 : decode cX2_waiting 29 = .ok (.iconst 0, 1) := by decide +kernel
theorem dX2_waiting_30 : decode cX2_waiting 30 = .ok (.ireturn, 1) := by decide +kernel
theorem dX8_firstLink_0 : decode cX8_firstLink 0 = .ok (.iload_n 1, 1) := by decide +kernel
theorem dX8_firstLink_1 : decode cX8_firstLink 1 = .ok (.bipush 36, 2) := by decide +kernel
theorem dX8_firstLink_3 : decode cX8_firstLink 3 = .ok (.imul, 1) := by decide +kernel
theorem dX8_firstLink_4 : decode cX8_firstLink 4 = .ok (.iload_n 2, 1) := by decide +kernel
theorem dX8_firstLink_5 : decode cX8_firstLink 5 = .ok (.bipush 6, 2) := by decide +kernel
theorem dX8_firstLink_7 : decode cX8_firstLink 7 = .ok (.imul, 1) := by decide +kernel
theorem dX8_firstLink_8 : decode cX8_firstLink 8 = .ok (.iadd, 1) := by decide +kernel
theorem dX8_firstLink_9 : decode cX8_firstLink 9 = .ok (.iload_n 3, 1) := by decide +kernel
theorem dX8_firstLink_10 : decode cX8_firstLink 10 = .ok (.iadd, 1) := by decide +kernel
theorem dX8_firstLink_11 : decode cX8_firstLink 11 = .ok (.istore 4, 2) := by decide +kernel
theorem dX8_firstLink_13 : decode cX8_firstLink 13 = .ok (.iload 4, 2) := by decide +kernel
theorem dX8_firstLink_15 : decode cX8_firstLink 15 = .ok (.ifCond .lt 23, 3) := by decide +kernel
theorem dX8_firstLink_18 : decode cX8_firstLink 18 = .ok (.iload 4, 2) := by decide +kernel
theorem dX8_firstLink_20 : decode cX8_firstLink 20 = .ok (.aload_n 0, 1) := by decide +kernel
theorem dX8_firstLink_21 : decode cX8_firstLink 21 = .ok (.getfield 11, 3) := by decide +kernel
theorem dX8_firstLink_24 : decode cX8_firstLink 24 = .ok (.arraylength, 1) := by decide +kernel
theorem dX8_firstLink_25 : decode cX8_firstLink 25 = .ok (.if_icmp .ge 13, 3) := by decide +kernel
theorem dX8_firstLink_28 : decode cX8_firstLink 28 = .ok (.aload_n 0, 1) := by decide +kernel
theorem dX8_firstLink_29 : decode cX8_firstLink 29 = .ok (.getfield 11, 3) := by decide +kernel
theorem dX8_firstLink_32 : decode cX8_firstLink 32 = .ok (.iload 4, 2) := by decide +kernel
theorem dX8_firstLink_34 : decode cX8_firstLink 34 = .ok (.iaload, 1) := by decide +kernel
theorem dX8_firstLink_35 : decode cX8_firstLink 35 = .ok (.goto 4, 3) := by decide +kernel
theorem dX8_firstLink_38 : decode cX8_firstLink 38 = .ok (.iconst (-1), 1) := by decide +kernel
theorem dX8_firstLink_39 : decode cX8_firstLink 39 = .ok (.ireturn, 1) := by decide +kernel
theorem dX6_goalOfMost_0 : decode cX6_goalOfMost 0 = .ok (.aload_n 1, 1) := by decide +kernel
theorem dX6_goalOfMost_1 : decode cX6_goalOfMost 1 = .ok (.iload_n 3, 1) := by decide +kernel
theorem dX6_goalOfMost_2 : decode cX6_goalOfMost 2 = .ok (.invokevirtual 69, 3) := by decide +kernel
theorem dX6_goalOfMost_5 : decode cX6_goalOfMost 5 = .ok (.ifCond .eq 15, 3) := by decide +kernel
theorem dX6_goalOfMost_8 : decode cX6_goalOfMost 8 = .ok (.aload_n 1, 1) := by decide +kernel
theorem dX6_goalOfMost_9 : decode cX6_goalOfMost 9 = .ok (.getfield 96, 3) := by decide +kernel
theorem dX6_goalOfMost_12 : decode cX6_goalOfMost 12 = .ok (.iload_n 3, 1) := by decide +kernel
theorem dX6_goalOfMost_13 : decode cX6_goalOfMost 13 = .ok (.aaload, 1) := by decide +kernel
theorem dX6_goalOfMost_14 : decode cX6_goalOfMost 14 = .ok (.getfield 106, 3) := by decide +kernel
theorem dX6_goalOfMost_17 : decode cX6_goalOfMost 17 = .ok (.ifCond .ne 5, 3) := by decide +kernel
theorem dX6_goalOfMost_20 : decode cX6_goalOfMost 20 = .ok (.iconst (-1), 1) := by decide +kernel
theorem dX6_goalOfMost_21 : decode cX6_goalOfMost 21 = .ok (.ireturn, 1) := by decide +kernel
theorem dX6_goalOfMost_22 : decode cX6_goalOfMost 22 = .ok (.iconst (-1), 1) := by decide +kernel
theorem dX6_goalOfMost_23 : decode cX6_goalOfMost 23 = .ok (.istore 5, 2) := by decide +kernel
theorem dX6_goalOfMost_25 : decode cX6_goalOfMost 25 = .ok (.iconst 0, 1) := by decide +kernel
theorem dX6_goalOfMost_26 : decode cX6_goalOfMost 26 = .ok (.istore 6, 2) := by decide +kernel
theorem dX6_goalOfMost_28 : decode cX6_goalOfMost 28 = .ok (.iconst 0, 1) := by decide +kernel
theorem dX6_goalOfMost_29 : decode cX6_goalOfMost 29 = .ok (.istore 7, 2) := by decide +kernel
theorem dX6_goalOfMost_31 : decode cX6_goalOfMost 31 = .ok (.iload 7, 2) := by decide +kernel
theorem dX6_goalOfMost_33 : decode cX6_goalOfMost 33 = .ok (.bipush 6, 2) := by decide +kernel
theorem dX6_goalOfMost_35 : decode cX6_goalOfMost 35 = .ok (.if_icmp .ge 55, 3) := by decide +kernel
theorem dX6_goalOfMost_38 : decode cX6_goalOfMost 38 = .ok (.aload_n 1, 1) := by decide +kernel
theorem dX6_goalOfMost_39 : decode cX6_goalOfMost 39 = .ok (.getfield 96, 3) := by decide +kernel
theorem dX6_goalOfMost_42 : decode cX6_goalOfMost 42 = .ok (.iload_n 3, 1) := by decide +kernel
theorem dX6_goalOfMost_43 : decode cX6_goalOfMost 43 = .ok (.aaload, 1) := by decide +kernel
theorem dX6_goalOfMost_44 : decode cX6_goalOfMost 44 = .ok (.iload 7, 2) := by decide +kernel
theorem dX6_goalOfMost_46 : decode cX6_goalOfMost 46 = .ok (.iload 4, 2) := by decide +kernel
theorem dX6_goalOfMost_48 : decode cX6_goalOfMost 48 = .ok (.invokevirtual 207, 3) := by decide +kernel
theorem dX6_goalOfMost_51 : decode cX6_goalOfMost 51 = .ok (.istore 8, 2) := by decide +kernel
theorem dX6_goalOfMost_53 : decode cX6_goalOfMost 53 = .ok (.iload 8, 2) := by decide +kernel
theorem dX6_goalOfMost_55 : decode cX6_goalOfMost 55 = .ok (.iload 6, 2) := by decide +kernel
theorem dX6_goalOfMost_57 : decode cX6_goalOfMost 57 = .ok (.if_icmp .le 27, 3) := by decide +kernel
theorem dX6_goalOfMost_60 : decode cX6_goalOfMost 60 = .ok (.aload_n 0, 1) := by decide +kernel
theorem dX6_goalOfMost_61 : decode cX6_goalOfMost 61 = .ok (.getfield 12, 3) := by decide +kernel
theorem dX6_goalOfMost_64 : decode cX6_goalOfMost 64 = .ok (.iload 4, 2) := by decide +kernel
theorem dX6_goalOfMost_66 : decode cX6_goalOfMost 66 = .ok (.iload_n 3, 1) := by decide +kernel
theorem dX6_goalOfMost_67 : decode cX6_goalOfMost 67 = .ok (.iload 7, 2) := by decide +kernel
theorem dX6_goalOfMost_69 : decode cX6_goalOfMost 69 = .ok (.invokevirtual 210, 3) := by decide +kernel
theorem dX6_goalOfMost_72 : decode cX6_goalOfMost 72 = .ok (.iload_n 2, 1) := by decide +kernel
theorem dX6_goalOfMost_73 : decode cX6_goalOfMost 73 = .ok (.if_icmp .ne 11, 3) := by decide +kernel
theorem dX6_goalOfMost_76 : decode cX6_goalOfMost 76 = .ok (.iload 7, 2) := by decide +kernel
theorem dX6_goalOfMost_78 : decode cX6_goalOfMost 78 = .ok (.istore 5, 2) := by decide +kernel
theorem dX6_goalOfMost_80 : decode cX6_goalOfMost 80 = .ok (.iload 8, 2) := by decide +kernel
theorem dX6_goalOfMost_82 : decode cX6_goalOfMost 82 = .ok (.istore 6, 2) := by decide +kernel
theorem dX6_goalOfMost_84 : decode cX6_goalOfMost 84 = .ok (.iinc 7 1, 3) := by decide +kernel
theorem dX6_goalOfMost_87 : decode cX6_goalOfMost 87 = .ok (.goto (-56), 3) := by decide +kernel
theorem dX6_goalOfMost_90 : decode cX6_goalOfMost 90 = .ok (.iload 5, 2) := by decide +kernel
theorem dX6_goalOfMost_92 : decode cX6_goalOfMost 92 = .ok (.ireturn, 1) := by decide +kernel
theorem dX9_admits_0 : decode cX9_admits 0 = .ok (.iload_n 1, 1) := by decide +kernel
theorem dX9_admits_1 : decode cX9_admits 1 = .ok (.iload_n 2, 1) := by decide +kernel
theorem dX9_admits_2 : decode cX9_admits 2 = .ok (.if_icmp .eq 32, 3) := by decide +kernel
theorem dX9_admits_5 : decode cX9_admits 5 = .ok (.aload_n 0, 1) := by decide +kernel
theorem dX9_admits_6 : decode cX9_admits 6 = .ok (.iload_n 1, 1) := by decide +kernel
theorem dX9_admits_7 : decode cX9_admits 7 = .ok (.invokevirtual 74, 3) := by decide +kernel
theorem dX9_admits_10 : decode cX9_admits 10 = .ok (.ifCond .eq 28, 3) := by decide +kernel
theorem dX9_admits_13 : decode cX9_admits 13 = .ok (.aload_n 0, 1) := by decide +kernel
theorem dX9_admits_14 : decode cX9_admits 14 = .ok (.getfield 11, 3) := by decide +kernel
theorem dX9_admits_17 : decode cX9_admits 17 = .ok (.iload_n 1, 1) := by decide +kernel
theorem dX9_admits_18 : decode cX9_admits 18 = .ok (.aaload, 1) := by decide +kernel
theorem dX9_admits_19 : decode cX9_admits 19 = .ok (.getfield 77, 3) := by decide +kernel
theorem dX9_admits_22 : decode cX9_admits 22 = .ok (.aload_n 0, 1) := by decide +kernel
theorem dX9_admits_23 : decode cX9_admits 23 = .ok (.getfield 11, 3) := by decide +kernel
theorem dX9_admits_26 : decode cX9_admits 26 = .ok (.iload_n 1, 1) := by decide +kernel
theorem dX9_admits_27 : decode cX9_admits 27 = .ok (.aaload, 1) := by decide +kernel
theorem dX9_admits_28 : decode cX9_admits 28 = .ok (.getfield 80, 3) := by decide +kernel
theorem dX9_admits_31 : decode cX9_admits 31 = .ok (.if_icmp .ge 7, 3) := by decide +kernel
theorem dX9_admits_34 : decode cX9_admits 34 = .ok (.iconst 1, 1) := by decide +kernel
theorem dX9_admits_35 : decode cX9_admits 35 = .ok (.goto 4, 3) := by decide +kernel
theorem dX9_admits_38 : decode cX9_admits 38 = .ok (.iconst 0, 1) := by decide +kernel
theorem dX9_admits_39 : decode cX9_admits 39 = .ok (.ireturn, 1) := by decide +kernel
theorem dX6_lift_0 : decode cX6_lift 0 = .ok (.aload_n 1, 1) := by decide +kernel
theorem dX6_lift_1 : decode cX6_lift 1 = .ok (.iload_n 2, 1) := by decide +kernel
theorem dX6_lift_2 : decode cX6_lift 2 = .ok (.invokevirtual 186, 3) := by decide +kernel
theorem dX6_lift_5 : decode cX6_lift 5 = .ok (.ifCond .eq 11, 3) := by decide +kernel
theorem dX6_lift_8 : decode cX6_lift 8 = .ok (.aload_n 1, 1) := by decide +kernel
theorem dX6_lift_9 : decode cX6_lift 9 = .ok (.iload_n 3, 1) := by decide +kernel
theorem dX6_lift_10 : decode cX6_lift 10 = .ok (.invokevirtual 69, 3) := by decide +kernel
theorem dX6_lift_13 : decode cX6_lift 13 = .ok (.ifCond .ne 4, 3) := by decide +kernel
theorem dX6_lift_16 : decode cX6_lift 16 = .ok (.return_, 1) := by decide +kernel
theorem dX6_lift_17 : decode cX6_lift 17 = .ok (.aload_n 1, 1) := by decide +kernel
theorem dX6_lift_18 : decode cX6_lift 18 = .ok (.getfield 144, 3) := by decide +kernel
theorem dX6_lift_21 : decode cX6_lift 21 = .ok (.iload_n 2, 1) := by decide +kernel
theorem dX6_lift_22 : decode cX6_lift 22 = .ok (.aaload, 1) := by decide +kernel
theorem dX6_lift_23 : decode cX6_lift 23 = .ok (.astore 5, 2) := by decide +kernel
theorem dX6_lift_25 : decode cX6_lift 25 = .ok (.iconst 0, 1) := by decide +kernel
theorem dX6_lift_26 : decode cX6_lift 26 = .ok (.istore 6, 2) := by decide +kernel
theorem dX6_lift_28 : decode cX6_lift 28 = .ok (.iload 6, 2) := by decide +kernel
theorem dX6_lift_30 : decode cX6_lift 30 = .ok (.aload 5, 2) := by decide +kernel
theorem dX6_lift_32 : decode cX6_lift 32 = .ok (.getfield 189, 3) := by decide +kernel
theorem dX6_lift_35 : decode cX6_lift 35 = .ok (.if_icmp .ge 82, 3) := by decide +kernel
theorem dX6_lift_38 : decode cX6_lift 38 = .ok (.aload_n 0, 1) := by decide +kernel
theorem dX6_lift_39 : decode cX6_lift 39 = .ok (.aload_n 1, 1) := by decide +kernel
theorem dX6_lift_40 : decode cX6_lift 40 = .ok (.iload_n 2, 1) := by decide +kernel
theorem dX6_lift_41 : decode cX6_lift 41 = .ok (.iload_n 3, 1) := by decide +kernel
theorem dX6_lift_42 : decode cX6_lift 42 = .ok (.iconst 1, 1) := by decide +kernel
theorem dX6_lift_43 : decode cX6_lift 43 = .ok (.invokevirtual 190, 3) := by decide +kernel
theorem dX6_lift_46 : decode cX6_lift 46 = .ok (.istore 7, 2) := by decide +kernel
theorem dX6_lift_48 : decode cX6_lift 48 = .ok (.iload 7, 2) := by decide +kernel
theorem dX6_lift_50 : decode cX6_lift 50 = .ok (.iconst (-1), 1) := by decide +kernel
theorem dX6_lift_51 : decode cX6_lift 51 = .ok (.if_icmp .eq 14, 3) := by decide +kernel
theorem dX6_lift_54 : decode cX6_lift 54 = .ok (.aload_n 1, 1) := by decide +kernel
theorem dX6_lift_55 : decode cX6_lift 55 = .ok (.iload 4, 2) := by decide +kernel
theorem dX6_lift_57 : decode cX6_lift 57 = .ok (.iload 7, 2) := by decide +kernel
theorem dX6_lift_59 : decode cX6_lift 59 = .ok (.invokevirtual 194, 3) := by decide +kernel
theorem dX6_lift_62 : decode cX6_lift 62 = .ok (.ifCond .ne 4, 3) := by decide +kernel
theorem dX6_lift_65 : decode cX6_lift 65 = .ok (.return_, 1) := by decide +kernel
theorem dX6_lift_66 : decode cX6_lift 66 = .ok (.aload_n 1, 1) := by decide +kernel
theorem dX6_lift_67 : decode cX6_lift 67 = .ok (.getfield 96, 3) := by decide +kernel
theorem dX6_lift_70 : decode cX6_lift 70 = .ok (.iload_n 3, 1) := by decide +kernel
theorem dX6_lift_71 : decode cX6_lift 71 = .ok (.aaload, 1) := by decide +kernel
theorem dX6_lift_72 : decode cX6_lift 72 = .ok (.iload 7, 2) := by decide +kernel
theorem dX6_lift_74 : decode cX6_lift 74 = .ok (.iconst 1, 1) := by decide +kernel
theorem dX6_lift_75 : decode cX6_lift 75 = .ok (.iconst (-1), 1) := by decide +kernel
theorem dX6_lift_76 : decode cX6_lift 76 = .ok (.invokevirtual 198, 3) := by decide +kernel
theorem dX6_lift_79 : decode cX6_lift 79 = .ok (.aload_n 1, 1) := by decide +kernel
theorem dX6_lift_80 : decode cX6_lift 80 = .ok (.iload 4, 2) := by decide +kernel
theorem dX6_lift_82 : decode cX6_lift 82 = .ok (.iload 7, 2) := by decide +kernel
theorem dX6_lift_84 : decode cX6_lift 84 = .ok (.iconst 1, 1) := by decide +kernel
theorem dX6_lift_85 : decode cX6_lift 85 = .ok (.iconst 1, 1) := by decide +kernel
theorem dX6_lift_86 : decode cX6_lift 86 = .ok (.invokevirtual 85, 3) := by decide +kernel
theorem dX6_lift_89 : decode cX6_lift 89 = .ok (.aload 5, 2) := by decide +kernel
theorem dX6_lift_91 : decode cX6_lift 91 = .ok (.dup, 1) := by decide +kernel
theorem dX6_lift_92 : decode cX6_lift 92 = .ok (.getfield 201, 3) := by decide +kernel
theorem dX6_lift_95 : decode cX6_lift 95 = .ok (.iconst 1, 1) := by decide +kernel
theorem dX6_lift_96 : decode cX6_lift 96 = .ok (.iadd, 1) := by decide +kernel
theorem dX6_lift_97 : decode cX6_lift 97 = .ok (.putfield 201, 3) := by decide +kernel
theorem dX6_lift_100 : decode cX6_lift 100 = .ok (.aload 5, 2) := by decide +kernel
theorem dX6_lift_102 : decode cX6_lift 102 = .ok (.dup, 1) := by decide +kernel
theorem dX6_lift_103 : decode cX6_lift 103 = .ok (.getfield 204, 3) := by decide +kernel
theorem dX6_lift_106 : decode cX6_lift 106 = .ok (.iconst 1, 1) := by decide +kernel
theorem dX6_lift_107 : decode cX6_lift 107 = .ok (.iadd, 1) := by decide +kernel
theorem dX6_lift_108 : decode cX6_lift 108 = .ok (.putfield 204, 3) := by decide +kernel
theorem dX6_lift_111 : decode cX6_lift 111 = .ok (.iinc 6 1, 3) := by decide +kernel
theorem dX6_lift_114 : decode cX6_lift 114 = .ok (.goto (-86), 3) := by decide +kernel
theorem dX6_lift_117 : decode cX6_lift 117 = .ok (.return_, 1) := by decide +kernel
theorem dX10_walk_0 : decode cX10_walk 0 = .ok (.iconst 0, 1) := by decide +kernel
theorem dX10_walk_1 : decode cX10_walk 1 = .ok (.istore_n 2, 1) := by decide +kernel
theorem dX10_walk_2 : decode cX10_walk 2 = .ok (.iconst 0, 1) := by decide +kernel
theorem dX10_walk_3 : decode cX10_walk 3 = .ok (.istore_n 3, 1) := by decide +kernel
theorem dX10_walk_4 : decode cX10_walk 4 = .ok (.iload_n 3, 1) := by decide +kernel
theorem dX10_walk_5 : decode cX10_walk 5 = .ok (.aload_n 0, 1) := by decide +kernel
theorem dX10_walk_6 : decode cX10_walk 6 = .ok (.getfield 31, 3) := by decide +kernel
theorem dX10_walk_9 : decode cX10_walk 9 = .ok (.if_icmp .ge 56, 3) := by decide +kernel
theorem dX10_walk_12 : decode cX10_walk 12 = .ok (.iload_n 3, 1) := by decide +kernel
theorem dX10_walk_13 : decode cX10_walk 13 = .ok (.aload_n 0, 1) := by decide +kernel
theorem dX10_walk_14 : decode cX10_walk 14 = .ok (.getfield 18, 3) := by decide +kernel
theorem dX10_walk_17 : decode cX10_walk 17 = .ok (.arraylength, 1) := by decide +kernel
theorem dX10_walk_18 : decode cX10_walk 18 = .ok (.if_icmp .ge 47, 3) := by decide +kernel
theorem dX10_walk_21 : decode cX10_walk 21 = .ok (.aload_n 0, 1) := by decide +kernel
theorem dX10_walk_22 : decode cX10_walk 22 = .ok (.getfield 18, 3) := by decide +kernel
theorem dX10_walk_25 : decode cX10_walk 25 = .ok (.iload_n 3, 1) := by decide +kernel
theorem dX10_walk_26 : decode cX10_walk 26 = .ok (.iaload, 1) := by decide +kernel
theorem dX10_walk_27 : decode cX10_walk 27 = .ok (.ifCond .ne 25, 3) := by decide +kernel
theorem dX10_walk_30 : decode cX10_walk 30 = .ok (.iconst 0, 1) := by decide +kernel
theorem dX10_walk_31 : decode cX10_walk 31 = .ok (.bipush 10, 2) := by decide +kernel
theorem dX10_walk_33 : decode cX10_walk 33 = .ok (.aload_n 0, 1) := by decide +kernel
theorem dX10_walk_34 : decode cX10_walk 34 = .ok (.iload_n 2, 1) := by decide +kernel
theorem dX10_walk_35 : decode cX10_walk 35 = .ok (.aload_n 0, 1) := by decide +kernel
theorem dX10_walk_36 : decode cX10_walk 36 = .ok (.getfield 21, 3) := by decide +kernel
theorem dX10_walk_39 : decode cX10_walk 39 = .ok (.iload_n 3, 1) := by decide +kernel
theorem dX10_walk_40 : decode cX10_walk 40 = .ok (.iaload, 1) := by decide +kernel
theorem dX10_walk_41 : decode cX10_walk 41 = .ok (.aload_n 1, 1) := by decide +kernel
theorem dX10_walk_42 : decode cX10_walk 42 = .ok (.invokevirtual 34, 3) := by decide +kernel
theorem dX10_walk_45 : decode cX10_walk 45 = .ok (.invokestatic 38, 3) := by decide +kernel
theorem dX10_walk_48 : decode cX10_walk 48 = .ok (.invokestatic 44, 3) := by decide +kernel
theorem dX10_walk_51 : decode cX10_walk 51 = .ok (.ireturn, 1) := by decide +kernel
theorem dX10_walk_52 : decode cX10_walk 52 = .ok (.aload_n 0, 1) := by decide +kernel
theorem dX10_walk_53 : decode cX10_walk 53 = .ok (.getfield 21, 3) := by decide +kernel
theorem dX10_walk_56 : decode cX10_walk 56 = .ok (.iload_n 3, 1) := by decide +kernel
theorem dX10_walk_57 : decode cX10_walk 57 = .ok (.iaload, 1) := by decide +kernel
theorem dX10_walk_58 : decode cX10_walk 58 = .ok (.istore_n 2, 1) := by decide +kernel
theorem dX10_walk_59 : decode cX10_walk 59 = .ok (.iinc 3 1, 3) := by decide +kernel
theorem dX10_walk_62 : decode cX10_walk 62 = .ok (.goto (-58), 3) := by decide +kernel
theorem dX10_walk_65 : decode cX10_walk 65 = .ok (.iconst 4, 1) := by decide +kernel
theorem dX10_walk_66 : decode cX10_walk 66 = .ok (.ireturn, 1) := by decide +kernel
theorem dX6_walkOf_0 : decode cX6_walkOf 0 = .ok (.aload_n 3, 1) := by decide +kernel
theorem dX6_walkOf_1 : decode cX6_walkOf 1 = .ok (.getfield 157, 3) := by decide +kernel
theorem dX6_walkOf_4 : decode cX6_walkOf 4 = .ok (.ifCond .ne 21, 3) := by decide +kernel
theorem dX6_walkOf_7 : decode cX6_walkOf 7 = .ok (.aload_n 3, 1) := by decide +kernel
theorem dX6_walkOf_8 : decode cX6_walkOf 8 = .ok (.getfield 214, 3) := by decide +kernel
theorem dX6_walkOf_11 : decode cX6_walkOf 11 = .ok (.ifCond .ne 14, 3) := by decide +kernel
theorem dX6_walkOf_14 : decode cX6_walkOf 14 = .ok (.aload_n 1, 1) := by decide +kernel
theorem dX6_walkOf_15 : decode cX6_walkOf 15 = .ok (.aload_n 3, 1) := by decide +kernel
theorem dX6_walkOf_16 : decode cX6_walkOf 16 = .ok (.invokevirtual 217, 3) := by decide +kernel
theorem dX6_walkOf_19 : decode cX6_walkOf 19 = .ok (.invokevirtual 69, 3) := by decide +kernel
theorem dX6_walkOf_22 : decode cX6_walkOf 22 = .ok (.ifCond .ne 5, 3) := by decide +kernel
theorem dX6_walkOf_25 : decode cX6_walkOf 25 = .ok (.iconst 0, 1) := by decide +kernel
theorem dX6_walkOf_26 : decode cX6_walkOf 26 = .ok (.ireturn, 1) := by decide +kernel
theorem dX6_walkOf_27 : decode cX6_walkOf 27 = .ok (.aload_n 0, 1) := by decide +kernel
theorem dX6_walkOf_28 : decode cX6_walkOf 28 = .ok (.getfield 20, 3) := by decide +kernel
theorem dX6_walkOf_31 : decode cX6_walkOf 31 = .ok (.iconst 0, 1) := by decide +kernel
theorem dX6_walkOf_32 : decode cX6_walkOf 32 = .ok (.aload_n 1, 1) := by decide +kernel
theorem dX6_walkOf_33 : decode cX6_walkOf 33 = .ok (.getfield 47, 3) := by decide +kernel
theorem dX6_walkOf_36 : decode cX6_walkOf 36 = .ok (.iastore, 1) := by decide +kernel
theorem dX6_walkOf_37 : decode cX6_walkOf 37 = .ok (.aload_n 0, 1) := by decide +kernel
theorem dX6_walkOf_38 : decode cX6_walkOf 38 = .ok (.getfield 20, 3) := by decide +kernel
theorem dX6_walkOf_41 : decode cX6_walkOf 41 = .ok (.iconst 5, 1) := by decide +kernel
theorem dX6_walkOf_42 : decode cX6_walkOf 42 = .ok (.aload_n 3, 1) := by decide +kernel
theorem dX6_walkOf_43 : decode cX6_walkOf 43 = .ok (.getfield 189, 3) := by decide +kernel
theorem dX6_walkOf_46 : decode cX6_walkOf 46 = .ok (.iastore, 1) := by decide +kernel
theorem dX6_walkOf_47 : decode cX6_walkOf 47 = .ok (.aload_n 0, 1) := by decide +kernel
theorem dX6_walkOf_48 : decode cX6_walkOf 48 = .ok (.getfield 20, 3) := by decide +kernel
theorem dX6_walkOf_51 : decode cX6_walkOf 51 = .ok (.bipush 6, 2) := by decide +kernel
theorem dX6_walkOf_53 : decode cX6_walkOf 53 = .ok (.aload_n 3, 1) := by decide +kernel
theorem dX6_walkOf_54 : decode cX6_walkOf 54 = .ok (.getfield 148, 3) := by decide +kernel
theorem dX6_walkOf_57 : decode cX6_walkOf 57 = .ok (.iastore, 1) := by decide +kernel
theorem dX6_walkOf_58 : decode cX6_walkOf 58 = .ok (.aload_n 0, 1) := by decide +kernel
theorem dX6_walkOf_59 : decode cX6_walkOf 59 = .ok (.getfield 20, 3) := by decide +kernel
theorem dX6_walkOf_62 : decode cX6_walkOf 62 = .ok (.bipush 7, 2) := by decide +kernel
theorem dX6_walkOf_64 : decode cX6_walkOf 64 = .ok (.aload_n 1, 1) := by decide +kernel
theorem dX6_walkOf_65 : decode cX6_walkOf 65 = .ok (.getfield 96, 3) := by decide +kernel
theorem dX6_walkOf_68 : decode cX6_walkOf 68 = .ok (.aload_n 3, 1) := by decide +kernel
theorem dX6_walkOf_69 : decode cX6_walkOf 69 = .ok (.invokevirtual 217, 3) := by decide +kernel
theorem dX6_walkOf_72 : decode cX6_walkOf 72 = .ok (.aaload, 1) := by decide +kernel
theorem dX6_walkOf_73 : decode cX6_walkOf 73 = .ok (.getfield 106, 3) := by decide +kernel
theorem dX6_walkOf_76 : decode cX6_walkOf 76 = .ok (.iastore, 1) := by decide +kernel
theorem dX6_walkOf_77 : decode cX6_walkOf 77 = .ok (.aload_n 2, 1) := by decide +kernel
theorem dX6_walkOf_78 : decode cX6_walkOf 78 = .ok (.aload_n 0, 1) := by decide +kernel
theorem dX6_walkOf_79 : decode cX6_walkOf 79 = .ok (.getfield 20, 3) := by decide +kernel
theorem dX6_walkOf_82 : decode cX6_walkOf 82 = .ok (.invokevirtual 221, 3) := by decide +kernel
theorem dX6_walkOf_85 : decode cX6_walkOf 85 = .ok (.ireturn, 1) := by decide +kernel
theorem dX3_who_0 : decode cX3_who 0 = .ok (.iload_n 1, 1) := by decide +kernel
theorem dX3_who_1 : decode cX3_who 1 = .ok (.bipush 40, 2) := by decide +kernel
theorem dX3_who_3 : decode cX3_who 3 = .ok (.imul, 1) := by decide +kernel
theorem dX3_who_4 : decode cX3_who 4 = .ok (.iload_n 2, 1) := by decide +kernel
theorem dX3_who_5 : decode cX3_who 5 = .ok (.iadd, 1) := by decide +kernel
theorem dX3_who_6 : decode cX3_who 6 = .ok (.istore_n 3, 1) := by decide +kernel
theorem dX3_who_7 : decode cX3_who 7 = .ok (.iload_n 3, 1) := by decide +kernel
theorem dX3_who_8 : decode cX3_who 8 = .ok (.ifCond .lt 21, 3) := by decide +kernel
theorem dX3_who_11 : decode cX3_who 11 = .ok (.iload_n 3, 1) := by decide +kernel
theorem dX3_who_12 : decode cX3_who 12 = .ok (.aload_n 0, 1) := by decide +kernel
theorem dX3_who_13 : decode cX3_who 13 = .ok (.getfield 9, 3) := by decide +kernel
theorem dX3_who_16 : decode cX3_who 16 = .ok (.arraylength, 1) := by decide +kernel
theorem dX3_who_17 : decode cX3_who 17 = .ok (.if_icmp .ge 12, 3) := by decide +kernel
theorem dX3_who_20 : decode cX3_who 20 = .ok (.aload_n 0, 1) := by decide +kernel
theorem dX3_who_21 : decode cX3_who 21 = .ok (.getfield 9, 3) := by decide +kernel
theorem dX3_who_24 : decode cX3_who 24 = .ok (.iload_n 3, 1) := by decide +kernel
theorem dX3_who_25 : decode cX3_who 25 = .ok (.iaload, 1) := by decide +kernel
theorem dX3_who_26 : decode cX3_who 26 = .ok (.goto 4, 3) := by decide +kernel
theorem dX3_who_29 : decode cX3_who 29 = .ok (.iconst (-1), 1) := by decide +kernel
theorem dX3_who_30 : decode cX3_who 30 = .ok (.ireturn, 1) := by decide +kernel
theorem dX3_put_0 : decode cX3_put 0 = .ok (.iload_n 1, 1) := by decide +kernel
theorem dX3_put_1 : decode cX3_put 1 = .ok (.bipush 40, 2) := by decide +kernel
theorem dX3_put_3 : decode cX3_put 3 = .ok (.imul, 1) := by decide +kernel
theorem dX3_put_4 : decode cX3_put 4 = .ok (.iload_n 2, 1) := by decide +kernel
theorem dX3_put_5 : decode cX3_put 5 = .ok (.iadd, 1) := by decide +kernel
theorem dX3_put_6 : decode cX3_put 6 = .ok (.istore 4, 2) := by decide +kernel
theorem dX3_put_8 : decode cX3_put 8 = .ok (.iload 4, 2) := by decide +kernel
theorem dX3_put_10 : decode cX3_put 10 = .ok (.ifCond .lt 21, 3) := by decide +kernel
theorem dX3_put_13 : decode cX3_put 13 = .ok (.iload 4, 2) := by decide +kernel
theorem dX3_put_15 : decode cX3_put 15 = .ok (.aload_n 0, 1) := by decide +kernel
theorem dX3_put_16 : decode cX3_put 16 = .ok (.getfield 9, 3) := by decide +kernel
theorem dX3_put_19 : decode cX3_put 19 = .ok (.arraylength, 1) := by decide +kernel
theorem dX3_put_20 : decode cX3_put 20 = .ok (.if_icmp .ge 11, 3) := by decide +kernel
theorem dX3_put_23 : decode cX3_put 23 = .ok (.aload_n 0, 1) := by decide +kernel
theorem dX3_put_24 : decode cX3_put 24 = .ok (.getfield 9, 3) := by decide +kernel
theorem dX3_put_27 : decode cX3_put 27 = .ok (.iload 4, 2) := by decide +kernel
theorem dX3_put_29 : decode cX3_put 29 = .ok (.iload_n 3, 1) := by decide +kernel
theorem dX3_put_30 : decode cX3_put 30 = .ok (.iastore, 1) := by decide +kernel
theorem dX3_put_31 : decode cX3_put 31 = .ok (.return_, 1) := by decide +kernel
theorem dX3_head_0 : decode cX3_head 0 = .ok (.aload_n 0, 1) := by decide +kernel
theorem dX3_head_1 : decode cX3_head 1 = .ok (.getfield 31, 3) := by decide +kernel
theorem dX3_head_4 : decode cX3_head 4 = .ok (.iconst 2, 1) := by decide +kernel
theorem dX3_head_5 : decode cX3_head 5 = .ok (.if_icmp .ne 10, 3) := by decide +kernel
theorem dX3_head_8 : decode cX3_head 8 = .ok (.aload_n 0, 1) := by decide +kernel
theorem dX3_head_9 : decode cX3_head 9 = .ok (.getfield 19, 3) := by decide +kernel
theorem dX3_head_12 : decode cX3_head 12 = .ok (.goto 7, 3) := by decide +kernel
theorem dX3_head_15 : decode cX3_head 15 = .ok (.aload_n 0, 1) := by decide +kernel
theorem dX3_head_16 : decode cX3_head 16 = .ok (.getfield 22, 3) := by decide +kernel
theorem dX3_head_19 : decode cX3_head 19 = .ok (.ireturn, 1) := by decide +kernel
theorem dX6_stepOff_0 : decode cX6_stepOff 0 = .ok (.aload_n 2, 1) := by decide +kernel
theorem dX6_stepOff_1 : decode cX6_stepOff 1 = .ok (.getfield 189, 3) := by decide +kernel
theorem dX6_stepOff_4 : decode cX6_stepOff 4 = .ok (.iconst 1, 1) := by decide +kernel
theorem dX6_stepOff_5 : decode cX6_stepOff 5 = .ok (.isub, 1) := by decide +kernel
theorem dX6_stepOff_6 : decode cX6_stepOff 6 = .ok (.istore 4, 2) := by decide +kernel
theorem dX6_stepOff_8 : decode cX6_stepOff 8 = .ok (.aload_n 2, 1) := by decide +kernel
theorem dX6_stepOff_9 : decode cX6_stepOff 9 = .ok (.iload_n 3, 1) := by decide +kernel
theorem dX6_stepOff_10 : decode cX6_stepOff 10 = .ok (.iload 4, 2) := by decide +kernel
theorem dX6_stepOff_12 : decode cX6_stepOff 12 = .ok (.invokevirtual 241, 3) := by decide +kernel
theorem dX6_stepOff_15 : decode cX6_stepOff 15 = .ok (.istore 5, 2) := by decide +kernel
theorem dX6_stepOff_17 : decode cX6_stepOff 17 = .ok (.iload 5, 2) := by decide +kernel
theorem dX6_stepOff_19 : decode cX6_stepOff 19 = .ok (.iconst (-1), 1) := by decide +kernel
theorem dX6_stepOff_20 : decode cX6_stepOff 20 = .ok (.if_icmp .ne 5, 3) := by decide +kernel
theorem dX6_stepOff_23 : decode cX6_stepOff 23 = .ok (.iconst 1, 1) := by decide +kernel
theorem dX6_stepOff_24 : decode cX6_stepOff 24 = .ok (.ireturn, 1) := by decide +kernel
theorem dX6_stepOff_25 : decode cX6_stepOff 25 = .ok (.iload 5, 2) := by decide +kernel
theorem dX6_stepOff_27 : decode cX6_stepOff 27 = .ok (.bipush 10, 2) := by decide +kernel
theorem dX6_stepOff_29 : decode cX6_stepOff 29 = .ok (.irem, 1) := by decide +kernel
theorem dX6_stepOff_30 : decode cX6_stepOff 30 = .ok (.istore 6, 2) := by decide +kernel
theorem dX6_stepOff_32 : decode cX6_stepOff 32 = .ok (.aload_n 1, 1) := by decide +kernel
theorem dX6_stepOff_33 : decode cX6_stepOff 33 = .ok (.aload_n 2, 1) := by decide +kernel
theorem dX6_stepOff_34 : decode cX6_stepOff 34 = .ok (.invokevirtual 244, 3) := by decide +kernel
theorem dX6_stepOff_37 : decode cX6_stepOff 37 = .ok (.iload 6, 2) := by decide +kernel
theorem dX6_stepOff_39 : decode cX6_stepOff 39 = .ok (.invokevirtual 194, 3) := by decide +kernel
theorem dX6_stepOff_42 : decode cX6_stepOff 42 = .ok (.ifCond .ne 5, 3) := by decide +kernel
theorem dX6_stepOff_45 : decode cX6_stepOff 45 = .ok (.iconst 0, 1) := by decide +kernel
theorem dX6_stepOff_46 : decode cX6_stepOff 46 = .ok (.ireturn, 1) := by decide +kernel
theorem dX6_stepOff_47 : decode cX6_stepOff 47 = .ok (.aload_n 2, 1) := by decide +kernel
theorem dX6_stepOff_48 : decode cX6_stepOff 48 = .ok (.iload_n 3, 1) := by decide +kernel
theorem dX6_stepOff_49 : decode cX6_stepOff 49 = .ok (.iload 4, 2) := by decide +kernel
theorem dX6_stepOff_51 : decode cX6_stepOff 51 = .ok (.iconst (-1), 1) := by decide +kernel
theorem dX6_stepOff_52 : decode cX6_stepOff 52 = .ok (.invokevirtual 247, 3) := by decide +kernel
theorem dX6_stepOff_55 : decode cX6_stepOff 55 = .ok (.aload_n 2, 1) := by decide +kernel
theorem dX6_stepOff_56 : decode cX6_stepOff 56 = .ok (.dup, 1) := by decide +kernel
theorem dX6_stepOff_57 : decode cX6_stepOff 57 = .ok (.getfield 148, 3) := by decide +kernel
theorem dX6_stepOff_60 : decode cX6_stepOff 60 = .ok (.iconst 1, 1) := by decide +kernel
theorem dX6_stepOff_61 : decode cX6_stepOff 61 = .ok (.isub, 1) := by decide +kernel
theorem dX6_stepOff_62 : decode cX6_stepOff 62 = .ok (.putfield 148, 3) := by decide +kernel
theorem dX6_stepOff_65 : decode cX6_stepOff 65 = .ok (.aload_n 2, 1) := by decide +kernel
theorem dX6_stepOff_66 : decode cX6_stepOff 66 = .ok (.dup, 1) := by decide +kernel
theorem dX6_stepOff_67 : decode cX6_stepOff 67 = .ok (.getfield 204, 3) := by decide +kernel
theorem dX6_stepOff_70 : decode cX6_stepOff 70 = .ok (.iconst 1, 1) := by decide +kernel
theorem dX6_stepOff_71 : decode cX6_stepOff 71 = .ok (.iadd, 1) := by decide +kernel
theorem dX6_stepOff_72 : decode cX6_stepOff 72 = .ok (.putfield 204, 3) := by decide +kernel
theorem dX6_stepOff_75 : decode cX6_stepOff 75 = .ok (.aload_n 1, 1) := by decide +kernel
theorem dX6_stepOff_76 : decode cX6_stepOff 76 = .ok (.aload_n 2, 1) := by decide +kernel
theorem dX6_stepOff_77 : decode cX6_stepOff 77 = .ok (.invokevirtual 244, 3) := by decide +kernel
theorem dX6_stepOff_80 : decode cX6_stepOff 80 = .ok (.iload 6, 2) := by decide +kernel
theorem dX6_stepOff_82 : decode cX6_stepOff 82 = .ok (.iconst 0, 1) := by decide +kernel
theorem dX6_stepOff_83 : decode cX6_stepOff 83 = .ok (.iconst 1, 1) := by decide +kernel
theorem dX6_stepOff_84 : decode cX6_stepOff 84 = .ok (.invokevirtual 85, 3) := by decide +kernel
theorem dX6_stepOff_87 : decode cX6_stepOff 87 = .ok (.iconst 1, 1) := by decide +kernel
theorem dX6_stepOff_88 : decode cX6_stepOff 88 = .ok (.ireturn, 1) := by decide +kernel
theorem dX3_move_0 : decode cX3_move 0 = .ok (.aload_n 0, 1) := by decide +kernel
theorem dX3_move_1 : decode cX3_move 1 = .ok (.iload_n 1, 1) := by decide +kernel
theorem dX3_move_2 : decode cX3_move 2 = .ok (.iload_n 2, 1) := by decide +kernel
theorem dX3_move_3 : decode cX3_move 3 = .ok (.iconst 1, 1) := by decide +kernel
theorem dX3_move_4 : decode cX3_move 4 = .ok (.iadd, 1) := by decide +kernel
theorem dX3_move_5 : decode cX3_move 5 = .ok (.aload_n 0, 1) := by decide +kernel
theorem dX3_move_6 : decode cX3_move 6 = .ok (.iload_n 1, 1) := by decide +kernel
theorem dX3_move_7 : decode cX3_move 7 = .ok (.iload_n 2, 1) := by decide +kernel
theorem dX3_move_8 : decode cX3_move 8 = .ok (.invokevirtual 68, 3) := by decide +kernel
theorem dX3_move_11 : decode cX3_move 11 = .ok (.invokevirtual 72, 3) := by decide +kernel
theorem dX3_move_14 : decode cX3_move 14 = .ok (.aload_n 0, 1) := by decide +kernel
theorem dX3_move_15 : decode cX3_move 15 = .ok (.iload_n 1, 1) := by decide +kernel
theorem dX3_move_16 : decode cX3_move 16 = .ok (.iload_n 2, 1) := by decide +kernel
theorem dX3_move_17 : decode cX3_move 17 = .ok (.iconst (-1), 1) := by decide +kernel
theorem dX3_move_18 : decode cX3_move 18 = .ok (.invokevirtual 72, 3) := by decide +kernel
theorem dX3_move_21 : decode cX3_move 21 = .ok (.return_, 1) := by decide +kernel
theorem dX3_goesOn_0 : decode cX3_goesOn 0 = .ok (.aload_n 0, 1) := by decide +kernel
theorem dX3_goesOn_1 : decode cX3_goesOn 1 = .ok (.iload_n 1, 1) := by decide +kernel
theorem dX3_goesOn_2 : decode cX3_goesOn 2 = .ok (.iload_n 2, 1) := by decide +kernel
theorem dX3_goesOn_3 : decode cX3_goesOn 3 = .ok (.invokevirtual 68, 3) := by decide +kernel
theorem dX3_goesOn_6 : decode cX3_goesOn 6 = .ok (.istore_n 3, 1) := by decide +kernel
theorem dX3_goesOn_7 : decode cX3_goesOn 7 = .ok (.iload_n 3, 1) := by decide +kernel
theorem dX3_goesOn_8 : decode cX3_goesOn 8 = .ok (.iconst (-1), 1) := by decide +kernel
theorem dX3_goesOn_9 : decode cX3_goesOn 9 = .ok (.if_icmp .eq 13, 3) := by decide +kernel
theorem dX3_goesOn_12 : decode cX3_goesOn 12 = .ok (.iload_n 2, 1) := by decide +kernel
theorem dX3_goesOn_13 : decode cX3_goesOn 13 = .ok (.aload_n 0, 1) := by decide +kernel
theorem dX3_goesOn_14 : decode cX3_goesOn 14 = .ok (.getfield 25, 3) := by decide +kernel
theorem dX3_goesOn_17 : decode cX3_goesOn 17 = .ok (.iconst 1, 1) := by decide +kernel
theorem dX3_goesOn_18 : decode cX3_goesOn 18 = .ok (.isub, 1) := by decide +kernel
theorem dX3_goesOn_19 : decode cX3_goesOn 19 = .ok (.if_icmp .lt 14, 3) := by decide +kernel
theorem dX3_goesOn_22 : decode cX3_goesOn 22 = .ok (.iload_n 3, 1) := by decide +kernel
theorem dX3_goesOn_23 : decode cX3_goesOn 23 = .ok (.iconst (-1), 1) := by decide +kernel
theorem dX3_goesOn_24 : decode cX3_goesOn 24 = .ok (.if_icmp .eq 7, 3) := by decide +kernel
theorem dX3_goesOn_27 : decode cX3_goesOn 27 = .ok (.iconst 1, 1) := by decide +kernel
theorem dX3_goesOn_28 : decode cX3_goesOn 28 = .ok (.goto 4, 3) := by decide +kernel
theorem dX3_goesOn_31 : decode cX3_goesOn 31 = .ok (.iconst 0, 1) := by decide +kernel
theorem dX3_goesOn_32 : decode cX3_goesOn 32 = .ok (.ireturn, 1) := by decide +kernel
theorem dX3_goesOn_33 : decode cX3_goesOn 33 = .ok (.aload_n 0, 1) := by decide +kernel
theorem dX3_goesOn_34 : decode cX3_goesOn 34 = .ok (.iload_n 1, 1) := by decide +kernel
theorem dX3_goesOn_35 : decode cX3_goesOn 35 = .ok (.iload_n 2, 1) := by decide +kernel
theorem dX3_goesOn_36 : decode cX3_goesOn 36 = .ok (.invokevirtual 76, 3) := by decide +kernel
theorem dX3_goesOn_39 : decode cX3_goesOn 39 = .ok (.iload_n 3, 1) := by decide +kernel
theorem dX3_goesOn_40 : decode cX3_goesOn 40 = .ok (.bipush 10, 2) := by decide +kernel
theorem dX3_goesOn_42 : decode cX3_goesOn 42 = .ok (.if_icmp .ge 5, 3) := by decide +kernel
theorem dX3_goesOn_45 : decode cX3_goesOn 45 = .ok (.iconst 0, 1) := by decide +kernel
theorem dX3_goesOn_46 : decode cX3_goesOn 46 = .ok (.ireturn, 1) := by decide +kernel
theorem dX3_goesOn_47 : decode cX3_goesOn 47 = .ok (.iload_n 2, 1) := by decide +kernel
theorem dX3_goesOn_48 : decode cX3_goesOn 48 = .ok (.iconst 2, 1) := by decide +kernel
theorem dX3_goesOn_49 : decode cX3_goesOn 49 = .ok (.iadd, 1) := by decide +kernel
theorem dX3_goesOn_50 : decode cX3_goesOn 50 = .ok (.aload_n 0, 1) := by decide +kernel
theorem dX3_goesOn_51 : decode cX3_goesOn 51 = .ok (.getfield 25, 3) := by decide +kernel
theorem dX3_goesOn_54 : decode cX3_goesOn 54 = .ok (.if_icmp .ge 23, 3) := by decide +kernel
theorem dX3_goesOn_57 : decode cX3_goesOn 57 = .ok (.aload_n 0, 1) := by decide +kernel
theorem dX3_goesOn_58 : decode cX3_goesOn 58 = .ok (.iload_n 1, 1) := by decide +kernel
theorem dX3_goesOn_59 : decode cX3_goesOn 59 = .ok (.iload_n 2, 1) := by decide +kernel
theorem dX3_goesOn_60 : decode cX3_goesOn 60 = .ok (.iconst 2, 1) := by decide +kernel
theorem dX3_goesOn_61 : decode cX3_goesOn 61 = .ok (.iadd, 1) := by decide +kernel
theorem dX3_goesOn_62 : decode cX3_goesOn 62 = .ok (.invokevirtual 68, 3) := by decide +kernel
theorem dX3_goesOn_65 : decode cX3_goesOn 65 = .ok (.iconst (-1), 1) := by decide +kernel
theorem dX3_goesOn_66 : decode cX3_goesOn 66 = .ok (.if_icmp .ne 11, 3) := by decide +kernel
theorem dX3_goesOn_69 : decode cX3_goesOn 69 = .ok (.aload_n 0, 1) := by decide +kernel
theorem dX3_goesOn_70 : decode cX3_goesOn 70 = .ok (.iload_n 1, 1) := by decide +kernel
theorem dX3_goesOn_71 : decode cX3_goesOn 71 = .ok (.iload_n 2, 1) := by decide +kernel
theorem dX3_goesOn_72 : decode cX3_goesOn 72 = .ok (.iconst 1, 1) := by decide +kernel
theorem dX3_goesOn_73 : decode cX3_goesOn 73 = .ok (.iadd, 1) := by decide +kernel
theorem dX3_goesOn_74 : decode cX3_goesOn 74 = .ok (.invokevirtual 76, 3) := by decide +kernel
theorem dX3_goesOn_77 : decode cX3_goesOn 77 = .ok (.iload_n 2, 1) := by decide +kernel
theorem dX3_goesOn_78 : decode cX3_goesOn 78 = .ok (.iconst 2, 1) := by decide +kernel
theorem dX3_goesOn_79 : decode cX3_goesOn 79 = .ok (.iadd, 1) := by decide +kernel
theorem dX3_goesOn_80 : decode cX3_goesOn 80 = .ok (.aload_n 0, 1) := by decide +kernel
theorem dX3_goesOn_81 : decode cX3_goesOn 81 = .ok (.getfield 25, 3) := by decide +kernel
theorem dX3_goesOn_84 : decode cX3_goesOn 84 = .ok (.if_icmp .lt 7, 3) := by decide +kernel
theorem dX3_goesOn_87 : decode cX3_goesOn 87 = .ok (.iconst 1, 1) := by decide +kernel
theorem dX3_goesOn_88 : decode cX3_goesOn 88 = .ok (.goto 4, 3) := by decide +kernel
theorem dX3_goesOn_91 : decode cX3_goesOn 91 = .ok (.iconst 0, 1) := by decide +kernel
theorem dX3_goesOn_92 : decode cX3_goesOn 92 = .ok (.ireturn, 1) := by decide +kernel
theorem dX6_moveStair_0 : decode cX6_moveStair 0 = .ok (.aload_n 2, 1) := by decide +kernel
theorem dX6_moveStair_1 : decode cX6_moveStair 1 = .ok (.getfield 225, 3) := by decide +kernel
theorem dX6_moveStair_4 : decode cX6_moveStair 4 = .ok (.ifCond .eq 17, 3) := by decide +kernel
theorem dX6_moveStair_7 : decode cX6_moveStair 7 = .ok (.aload_n 2, 1) := by decide +kernel
theorem dX6_moveStair_8 : decode cX6_moveStair 8 = .ok (.getfield 228, 3) := by decide +kernel
theorem dX6_moveStair_11 : decode cX6_moveStair 11 = .ok (.ifCond .ne 10, 3) := by decide +kernel
theorem dX6_moveStair_14 : decode cX6_moveStair 14 = .ok (.aload_n 2, 1) := by decide +kernel
theorem dX6_moveStair_15 : decode cX6_moveStair 15 = .ok (.getfield 148, 3) := by decide +kernel
theorem dX6_moveStair_18 : decode cX6_moveStair 18 = .ok (.ifCond .ne 4, 3) := by decide +kernel
theorem dX6_moveStair_21 : decode cX6_moveStair 21 = .ok (.return_, 1) := by decide +kernel
theorem dX6_moveStair_22 : decode cX6_moveStair 22 = .ok (.iconst 0, 1) := by decide +kernel
theorem dX6_moveStair_23 : decode cX6_moveStair 23 = .ok (.istore_n 3, 1) := by decide +kernel
theorem dX6_moveStair_24 : decode cX6_moveStair 24 = .ok (.iload_n 3, 1) := by decide +kernel
theorem dX6_moveStair_25 : decode cX6_moveStair 25 = .ok (.iconst 2, 1) := by decide +kernel
theorem dX6_moveStair_26 : decode cX6_moveStair 26 = .ok (.if_icmp .ge 64, 3) := by decide +kernel
theorem dX6_moveStair_29 : decode cX6_moveStair 29 = .ok (.aload_n 2, 1) := by decide +kernel
theorem dX6_moveStair_30 : decode cX6_moveStair 30 = .ok (.getfield 189, 3) := by decide +kernel
theorem dX6_moveStair_33 : decode cX6_moveStair 33 = .ok (.iconst 1, 1) := by decide +kernel
theorem dX6_moveStair_34 : decode cX6_moveStair 34 = .ok (.isub, 1) := by decide +kernel
theorem dX6_moveStair_35 : decode cX6_moveStair 35 = .ok (.istore 4, 2) := by decide +kernel
theorem dX6_moveStair_37 : decode cX6_moveStair 37 = .ok (.iload 4, 2) := by decide +kernel
theorem dX6_moveStair_39 : decode cX6_moveStair 39 = .ok (.ifCond .lt 45, 3) := by decide +kernel
theorem dX6_moveStair_42 : decode cX6_moveStair 42 = .ok (.aload_n 2, 1) := by decide +kernel
theorem dX6_moveStair_43 : decode cX6_moveStair 43 = .ok (.iload_n 3, 1) := by decide +kernel
theorem dX6_moveStair_44 : decode cX6_moveStair 44 = .ok (.iload 4, 2) := by decide +kernel
theorem dX6_moveStair_46 : decode cX6_moveStair 46 = .ok (.invokevirtual 231, 3) := by decide +kernel
theorem dX6_moveStair_49 : decode cX6_moveStair 49 = .ok (.ifCond .eq 29, 3) := by decide +kernel
theorem dX6_moveStair_52 : decode cX6_moveStair 52 = .ok (.aload_n 0, 1) := by decide +kernel
theorem dX6_moveStair_53 : decode cX6_moveStair 53 = .ok (.aload_n 1, 1) := by decide +kernel
theorem dX6_moveStair_54 : decode cX6_moveStair 54 = .ok (.aload_n 2, 1) := by decide +kernel
theorem dX6_moveStair_55 : decode cX6_moveStair 55 = .ok (.iload_n 3, 1) := by decide +kernel
theorem dX6_moveStair_56 : decode cX6_moveStair 56 = .ok (.invokevirtual 234, 3) := by decide +kernel
theorem dX6_moveStair_59 : decode cX6_moveStair 59 = .ok (.ifCond .ne 19, 3) := by decide +kernel
theorem dX6_moveStair_62 : decode cX6_moveStair 62 = .ok (.aload_n 2, 1) := by decide +kernel
theorem dX6_moveStair_63 : decode cX6_moveStair 63 = .ok (.iconst 1, 1) := by decide +kernel
theorem dX6_moveStair_64 : decode cX6_moveStair 64 = .ok (.putfield 228, 3) := by decide +kernel
theorem dX6_moveStair_67 : decode cX6_moveStair 67 = .ok (.aload_n 1, 1) := by decide +kernel
theorem dX6_moveStair_68 : decode cX6_moveStair 68 = .ok (.dup, 1) := by decide +kernel
theorem dX6_moveStair_69 : decode cX6_moveStair 69 = .ok (.getfield 238, 3) := by decide +kernel
theorem dX6_moveStair_72 : decode cX6_moveStair 72 = .ok (.iconst 1, 1) := by decide +kernel
theorem dX6_moveStair_73 : decode cX6_moveStair 73 = .ok (.iadd, 1) := by decide +kernel
theorem dX6_moveStair_74 : decode cX6_moveStair 74 = .ok (.putfield 238, 3) := by decide +kernel
theorem dX6_moveStair_77 : decode cX6_moveStair 77 = .ok (.return_, 1) := by decide +kernel
theorem dX6_moveStair_78 : decode cX6_moveStair 78 = .ok (.iinc 4 (-1), 3) := by decide +kernel
theorem dX6_moveStair_81 : decode cX6_moveStair 81 = .ok (.goto (-44), 3) := by decide +kernel
theorem dX6_moveStair_84 : decode cX6_moveStair 84 = .ok (.iinc 3 1, 3) := by decide +kernel
theorem dX6_moveStair_87 : decode cX6_moveStair 87 = .ok (.goto (-63), 3) := by decide +kernel
theorem dX6_moveStair_90 : decode cX6_moveStair 90 = .ok (.return_, 1) := by decide +kernel
def fX8_find_48 (a0 : Nat) (a1 : Nat) (rec4 : Int32 → Int32 → xMem → Option xMem) (l3 : Int32) (s0 : Int32) (s1 : Int32) (m : xMem) : Option xMem := xLet (s0 ||| s1) fun x1 => xLet (l3 + (1 : Int32)) fun x2 => rec4 x1 x2 m
set_option maxRecDepth 4000 in
theorem fX8_find_48_ok {a0 : Nat} {a1 : Nat} {rec4 : Int32 → Int32 → xMem → Option xMem} {d : Nat} (hd : 4 ≤ d) (ha0 : isRoutes a0) (ha1 : isStation a1) (hrec4 : ∀ (l2 : Int32) (l3 : Int32) (o4 : Option Value) (q4 : xNoD o4 = true) (m : xMem) (r : xMem), rec4 l2 l3 m = some r → xFx hh_133 cX8_find d 4 [some (.ref a0), some (.ref a1), some (.int l2), some (.int l3), o4] [] (xLay m) 0 0 none (xLay r)) {l3 : Int32} {s0 : Int32} {s1 : Int32} {o2 : Option Value} {o4 : Option Value} {m : xMem} {r : xMem} (q2 : xNoD o2 = true) (q4 : xNoD o4 = true) (h : fX8_find_48 a0 a1 rec4 l3 s0 s1 m = some r) : xFx hh_133 cX8_find d 48 [some (.ref a0), some (.ref a1), o2, some (.int l3), o4] [.int s1, .int s0] (xLay m) 0 0 none (xLay r) := by
  unfold fX8_find_48 at h
  obtain ⟨x1, hx1, h⟩ := xLet_el h
  refine fx_ior dX8_find_48 rfl hx1 ?_
  refine fx_istore_n (ls2 := [some (.ref a0), some (.ref a1), some (.int x1), some (.int l3), o4]) dX8_find_49 rfl rfl rfl ?_
  obtain ⟨x2, hx2, h⟩ := xLet_el h
  refine fx_iinc (ls2 := [some (.ref a0), some (.ref a1), some (.int x1), some (.int x2), o4]) dX8_find_50 rfl rfl rfl hx2 rfl ?_
  refine fx_goto (t := 4) dX8_find_53 rfl rfl ?_
  exact hrec4 x1 x2 (o4) q4 m r h
def fX8_find_56 (a0 : Nat) (a1 : Nat) (l2 : Int32) (m : xMem) : Option xMem := xLet (m.1 a0 2) fun x1 => if ¬ l2 = x1 then xLet (xPut m a0 2 l2) fun m3 => (fX8_findFor a0 a1 (0 : Int32) m3).bind fun p4 => (fX8_findFor a0 a1 (1 : Int32) p4).bind fun p5 => some p5 else some m
set_option maxRecDepth 4000 in
theorem fX8_find_56_ok {a0 : Nat} {a1 : Nat} {d : Nat} (hd : 4 ≤ d) (ha0 : isRoutes a0) (ha1 : isStation a1) {l2 : Int32} {o3 : Option Value} {o4 : Option Value} {m : xMem} {r : xMem} (q3 : xNoD o3 = true) (q4 : xNoD o4 = true) (h : fX8_find_56 a0 a1 l2 m = some r) : xFx hh_133 cX8_find d 56 [some (.ref a0), some (.ref a1), some (.int l2), o3, o4] [] (xLay m) 0 0 none (xLay r) := by
  unfold fX8_find_56 at h
  refine fx_iload_n dX8_find_56 rfl rfl ?_
  refine fx_aload_n dX8_find_57 rfl rfl ?_
  obtain ⟨x1, hx1, h⟩ := xLet_el h
  refine gx_get dX8_find_58 rfl fd_8_18 ha0.1 rfl rfl hx1 ?_
  refine fx_icmp_ne (t := 65) dX8_find_61 rfl rfl (fun hc2 => ?_) (fun hc2 => ?_)
  · rw [if_pos hc2] at h
    refine fx_aload_n dX8_find_65 rfl rfl ?_
    refine fx_iload_n dX8_find_66 rfl rfl ?_
    obtain ⟨m3, hm3, h⟩ := xLet_el h
    refine gx_put dX8_find_67 rfl fd_8_18 ha0.1 rfl rfl rfl hm3 ?_
    refine fx_aload_n dX8_find_70 rfl rfl ?_
    refine fx_aload_n dX8_find_71 rfl rfl ?_
    refine fx_iconst (x := 0) dX8_find_72 rfl (by decide) ?_
    obtain ⟨p4, ep4, h⟩ := xBind_el h
    refine gx_callv (as := [.ref a1, .int (0 : Int32)]) (r := []) rfl dX8_find_73 ca_8_40 rfl me_135 rfl rfl rfl rfl (ha0.1) rfl (fX8_findFor_ok (d := d) (by omega) ha0 ha1 ep4) rfl rfl ?_
    refine fx_aload_n dX8_find_76 rfl rfl ?_
    refine fx_aload_n dX8_find_77 rfl rfl ?_
    refine fx_iconst (x := 1) dX8_find_78 rfl (by decide) ?_
    obtain ⟨p5, ep5, h⟩ := xBind_el h
    refine gx_callv (as := [.ref a1, .int (1 : Int32)]) (r := []) rfl dX8_find_79 ca_8_40 rfl me_135 rfl rfl rfl rfl (ha0.1) rfl (fX8_findFor_ok (d := d) (by omega) ha0 ha1 ep5) rfl rfl ?_
    cases h
    exact fx_return dX8_find_82 rfl rfl
  · rw [if_neg hc2] at h
    cases h
    exact fx_return dX8_find_64 rfl rfl
def fX8_find_4 (a0 : Nat) (a1 : Nat) : Nat → Int32 → Int32 → xMem → Option xMem
  | 0, _, _, _ => none
  | fuel + 1, l2, l3, m => xLet (m.1 a1 8) fun x1 => if x1 ≤ l3 then fX8_find_56 a0 a1 l2 m else if (10 : Int32) ≤ l3 then fX8_find_56 a0 a1 l2 m else bif xIn l3 10 then xLet (a1 + 33 + 2 * l3.toNatClampNeg) fun r5 => xLet (l2 <<< ((2 : Int32) &&& 31)) fun x6 => (fX3_takesNow r5 m).bind fun p7 => if p7.1 = (0 : Int32) then fX8_find_48 a0 a1 (fX8_find_4 a0 a1 fuel) l3 x6 (0 : Int32) p7.2 else xLet (p7.2.1 r5 6) fun x9 => xLet (x9 + (1 : Int32)) fun x10 => fX8_find_48 a0 a1 (fX8_find_4 a0 a1 fuel) l3 x6 x10 p7.2 else none
set_option maxRecDepth 4000 in
theorem fX8_find_4_ok {a0 : Nat} {a1 : Nat} {d : Nat} (hd : 4 ≤ d) (ha0 : isRoutes a0) (ha1 : isStation a1) : ∀ (fuel : Nat) (l2 : Int32) (l3 : Int32) (o4 : Option Value) (q4 : xNoD o4 = true) (m : xMem) (r : xMem), fX8_find_4 a0 a1 fuel l2 l3 m = some r → xFx hh_133 cX8_find d 4 [some (.ref a0), some (.ref a1), some (.int l2), some (.int l3), o4] [] (xLay m) 0 0 none (xLay r) := by
  intro fuel
  induction fuel with
  | zero => intro l2 l3 o4 q4 m r  h; cases h
  | succ fuel ih =>
    intro l2 l3 o4 q4 m r  h
    unfold fX8_find_4 at h
    refine fx_iload_n dX8_find_4 rfl rfl ?_
    refine fx_aload_n dX8_find_5 rfl rfl ?_
    obtain ⟨x1, hx1, h⟩ := xLet_el h
    refine gx_get dX8_find_6 rfl fd_8_22 ha1.1 rfl rfl hx1 ?_
    refine fx_icmp_ge (t := 56) dX8_find_9 rfl rfl (fun hc2 => ?_) (fun hc2 => ?_)
    · rw [if_pos hc2] at h
      exact fX8_find_56_ok (o3 := some (.int l3)) (o4 := o4) hd ha0 ha1 rfl q4 h
    · rw [if_neg hc2] at h
      refine fx_iload_n dX8_find_12 rfl rfl ?_
      refine fx_bipush (x := 10) dX8_find_13 rfl (by decide) ?_
      refine fx_icmp_ge (t := 56) dX8_find_15 rfl rfl (fun hc3 => ?_) (fun hc3 => ?_)
      · rw [if_pos hc3] at h
        exact fX8_find_56_ok (o3 := some (.int l3)) (o4 := o4) hd ha0 ha1 rfl q4 h
      · rw [if_neg hc3] at h
        refine fx_aload_n dX8_find_18 rfl rfl ?_
        refine gx_getr dX8_find_19 rfl fd_8_27 ha1.1 rfl rfl ?_
        refine fx_iload_n dX8_find_22 rfl rfl ?_
        obtain ⟨hj4, h⟩ := xChk_el h
        obtain ⟨r5, hr5, h⟩ := xLet_el h
        refine gx_aaload (t := 5) dX8_find_23 rfl ha1.2.2.1 rfl hj4 ((xRef_at (sl_9_1 a1) hj4).trans (congrArg some hr5)) ?_
        have hpr5 : isLink r5 := by rw [← hr5]; exact ha1.2.2.2.2.2.2.2.2.1 _ (xIn_lt hj4)
        refine fx_astore (ls2 := [some (.ref a0), some (.ref a1), some (.int l2), some (.int l3), some (.ref r5)]) dX8_find_24 rfl rfl rfl ?_
        refine fx_iload_n dX8_find_26 rfl rfl ?_
        refine fx_iconst (x := 2) dX8_find_27 rfl (by decide) ?_
        obtain ⟨x6, hx6, h⟩ := xLet_el h
        refine fx_ishl dX8_find_28 rfl hx6 ?_
        refine fx_aload dX8_find_29 rfl rfl ?_
        obtain ⟨p7, ep7, h⟩ := xBind_el h
        refine gx_callv (as := []) (r := [.int x6]) rfl dX8_find_31 ca_8_31 rfl me_134 rfl rfl rfl rfl (hpr5.1) rfl (fX3_takesNow_ok (d := d) (by omega) hpr5 ep7) rfl rfl ?_
        refine fx_if_eq (t := 47) dX8_find_34 rfl rfl (fun hc8 => ?_) (fun hc8 => ?_)
        · rw [if_pos hc8] at h
          refine fx_iconst (x := 0) dX8_find_47 rfl (by decide) ?_
          exact fX8_find_48_ok (o2 := some (.int l2)) (o4 := some (.ref r5)) hd ha0 ha1 ih rfl rfl h
        · rw [if_neg hc8] at h
          refine fx_aload dX8_find_37 rfl rfl ?_
          obtain ⟨x9, hx9, h⟩ := xLet_el h
          refine gx_get dX8_find_39 rfl fd_8_37 hpr5.1 rfl rfl hx9 ?_
          refine fx_iconst (x := 1) dX8_find_42 rfl (by decide) ?_
          obtain ⟨x10, hx10, h⟩ := xLet_el h
          refine fx_iadd dX8_find_43 rfl hx10 ?_
          refine fx_goto (t := 48) dX8_find_44 rfl rfl ?_
          exact fX8_find_48_ok (o2 := some (.int l2)) (o4 := some (.ref r5)) hd ha0 ha1 ih rfl rfl h
def fX8_find_0 (a0 : Nat) (a1 : Nat) (m : xMem) : Option xMem := fX8_find_4 a0 a1 xFuel (0 : Int32) (0 : Int32) m
set_option maxRecDepth 4000 in
theorem fX8_find_0_ok {a0 : Nat} {a1 : Nat} {d : Nat} (hd : 4 ≤ d) (ha0 : isRoutes a0) (ha1 : isStation a1) {o2 : Option Value} {o3 : Option Value} {o4 : Option Value} {m : xMem} {r : xMem} (q2 : xNoD o2 = true) (q3 : xNoD o3 = true) (q4 : xNoD o4 = true) (h : fX8_find_0 a0 a1 m = some r) : xFx hh_133 cX8_find d 0 [some (.ref a0), some (.ref a1), o2, o3, o4] [] (xLay m) 0 0 none (xLay r) := by
  unfold fX8_find_0 at h
  refine fx_iconst (x := 0) dX8_find_0 rfl (by decide) ?_
  refine fx_istore_n (ls2 := [some (.ref a0), some (.ref a1), some (.int (0 : Int32)), o3, o4]) dX8_find_1 rfl rfl rfl ?_
  refine fx_iconst (x := 0) dX8_find_2 rfl (by decide) ?_
  refine fx_istore_n (ls2 := [some (.ref a0), some (.ref a1), some (.int (0 : Int32)), some (.int (0 : Int32)), o4]) dX8_find_3 rfl rfl rfl ?_
  exact fX8_find_4_ok hd ha0 ha1 xFuel (0 : Int32) (0 : Int32) (o4) q4 m r h
def fX8_find (a0 : Nat) (a1 : Nat) (m : xMem) : Option xMem := fX8_find_0 a0 a1  m
theorem fX8_find_ok {a0 : Nat} {a1 : Nat} {m : xMem} {r : xMem} {d : Nat} (hd : 5 ≤ d) (ha0 : isRoutes a0) (ha1 : isStation a1) (h : fX8_find a0 a1 m = some r) : xEx d 133 [.ref a0, .ref a1] (xLay m) none (xLay r) := by
  obtain ⟨d, rfl⟩ : ∃ q, d = q + 1 := ⟨d - 1, by omega⟩
  exact xEx_of me_133 rfl (fX8_find_0_ok (d := d) (o2 := none) (o3 := none) (o4 := none) (by omega) ha0 ha1 rfl rfl rfl h)
def fX2_waiting_30 (a0 : Nat) (a1 : Int32) (a2 : Int32) (s0 : Int32) (m : xMem) : Option (Int32 × xMem) := some (s0, m)
set_option maxRecDepth 4000 in
theorem fX2_waiting_30_ok {a0 : Nat} {a1 : Int32} {a2 : Int32} {d : Nat} (hd : 0 ≤ d) (ha0 : isHall a0) {s0 : Int32} {o3 : Option Value} {m : xMem} {r : (Int32 × xMem)} (q3 : xNoD o3 = true) (h : fX2_waiting_30 a0 a1 a2 s0 m = some r) : xFx hh_145 cX2_waiting d 30 [some (.ref a0), some (.int a1), some (.int a2), o3] [.int s0] (xLay m) 0 0 (some (.int r.1)) (xLay r.2) := by
  unfold fX2_waiting_30 at h
  cases h
  exact fx_ireturn dX2_waiting_30 rfl rfl
def fX2_waiting_29 (a0 : Nat) (a1 : Int32) (a2 : Int32) (m : xMem) : Option (Int32 × xMem) := fX2_waiting_30 a0 a1 a2 (0 : Int32) m
set_option maxRecDepth 4000 in
theorem fX2_waiting_29_ok {a0 : Nat} {a1 : Int32} {a2 : Int32} {d : Nat} (hd : 0 ≤ d) (ha0 : isHall a0) {o3 : Option Value} {m : xMem} {r : (Int32 × xMem)} (q3 : xNoD o3 = true) (h : fX2_waiting_29 a0 a1 a2 m = some r) : xFx hh_145 cX2_waiting d 29 [some (.ref a0), some (.int a1), some (.int a2), o3] [] (xLay m) 0 0 (some (.int r.1)) (xLay r.2) := by
  unfold fX2_waiting_29 at h
  refine fx_iconst (x := 0) dX2_waiting_29 rfl (by decide) ?_
  exact fX2_waiting_30_ok (o3 := o3) hd ha0 q3 h
def fX2_waiting_0 (a0 : Nat) (a1 : Int32) (a2 : Int32) (m : xMem) : Option (Int32 × xMem) := xLet (a2 * (6 : Int32)) fun x1 => xLet (x1 + a1) fun x2 => if x2 < (0 : Int32) then fX2_waiting_29 a0 a1 a2 m else if (12 : Int32) ≤ x2 then fX2_waiting_29 a0 a1 a2 m else bif xIn x2 12 then xLet (m.1 (a0 + 1) x2.toNatClampNeg) fun x5 => fX2_waiting_30 a0 a1 a2 x5 m else none
set_option maxRecDepth 4000 in
theorem fX2_waiting_0_ok {a0 : Nat} {a1 : Int32} {a2 : Int32} {d : Nat} (hd : 0 ≤ d) (ha0 : isHall a0) {o3 : Option Value} {m : xMem} {r : (Int32 × xMem)} (q3 : xNoD o3 = true) (h : fX2_waiting_0 a0 a1 a2 m = some r) : xFx hh_145 cX2_waiting d 0 [some (.ref a0), some (.int a1), some (.int a2), o3] [] (xLay m) 0 0 (some (.int r.1)) (xLay r.2) := by
  unfold fX2_waiting_0 at h
  refine fx_iload_n dX2_waiting_0 rfl rfl ?_
  refine fx_bipush (x := 6) dX2_waiting_1 rfl (by decide) ?_
  obtain ⟨x1, hx1, h⟩ := xLet_el h
  refine fx_imul dX2_waiting_3 rfl hx1 ?_
  refine fx_iload_n dX2_waiting_4 rfl rfl ?_
  obtain ⟨x2, hx2, h⟩ := xLet_el h
  refine fx_iadd dX2_waiting_5 rfl hx2 ?_
  refine fx_istore_n (ls2 := [some (.ref a0), some (.int a1), some (.int a2), some (.int x2)]) dX2_waiting_6 rfl rfl rfl ?_
  refine fx_iload_n dX2_waiting_7 rfl rfl ?_
  refine fx_if_lt (t := 29) dX2_waiting_8 rfl rfl (fun hc3 => ?_) (fun hc3 => ?_)
  · rw [if_pos hc3] at h
    exact fX2_waiting_29_ok (o3 := some (.int x2)) hd ha0 rfl h
  · rw [if_neg hc3] at h
    refine fx_iload_n dX2_waiting_11 rfl rfl ?_
    refine fx_aload_n dX2_waiting_12 rfl rfl ?_
    refine gx_getr dX2_waiting_13 rfl fd_2_9 ha0.1 rfl rfl ?_
    refine gx_alen (t := 1) (y := 12) dX2_waiting_16 rfl ha0.2.1 rfl (by decide) ?_
    refine fx_icmp_ge (t := 29) dX2_waiting_17 rfl rfl (fun hc4 => ?_) (fun hc4 => ?_)
    · rw [if_pos hc4] at h
      exact fX2_waiting_29_ok (o3 := some (.int x2)) hd ha0 rfl h
    · rw [if_neg hc4] at h
      refine fx_aload_n dX2_waiting_20 rfl rfl ?_
      refine gx_getr dX2_waiting_21 rfl fd_2_9 ha0.1 rfl rfl ?_
      refine fx_iload_n dX2_waiting_24 rfl rfl ?_
      obtain ⟨hj6, h⟩ := xChk_el h
      obtain ⟨x5, hx5, h⟩ := xLet_el h
      refine gx_iaload dX2_waiting_25 rfl ha0.2.1 hj6 hx5 ?_
      refine fx_goto (t := 30) dX2_waiting_26 rfl rfl ?_
      exact fX2_waiting_30_ok (o3 := some (.int x2)) hd ha0 rfl h
def fX2_waiting (a0 : Nat) (a1 : Int32) (a2 : Int32) (m : xMem) : Option (Int32 × xMem) := fX2_waiting_0 a0 a1 a2  m
theorem fX2_waiting_ok {a0 : Nat} {a1 : Int32} {a2 : Int32} {m : xMem} {r : (Int32 × xMem)} {d : Nat} (hd : 1 ≤ d) (ha0 : isHall a0) (h : fX2_waiting a0 a1 a2 m = some r) : xEx d 145 [.ref a0, .int a1, .int a2] (xLay m) (some (.int r.1)) (xLay r.2) := by
  obtain ⟨d, rfl⟩ : ∃ q, d = q + 1 := ⟨d - 1, by omega⟩
  exact xEx_of me_145 rfl (fX2_waiting_0_ok (d := d) (o3 := none) (by omega) ha0 rfl h)
def fX8_firstLink_39 (a0 : Nat) (a1 : Int32) (a2 : Int32) (a3 : Int32) (s0 : Int32) (m : xMem) : Option (Int32 × xMem) := some (s0, m)
set_option maxRecDepth 4000 in
theorem fX8_firstLink_39_ok {a0 : Nat} {a1 : Int32} {a2 : Int32} {a3 : Int32} {d : Nat} (hd : 0 ≤ d) (ha0 : isRoutes a0) {s0 : Int32} {o4 : Option Value} {m : xMem} {r : (Int32 × xMem)} (q4 : xNoD o4 = true) (h : fX8_firstLink_39 a0 a1 a2 a3 s0 m = some r) : xFx hh_146 cX8_firstLink d 39 [some (.ref a0), some (.int a1), some (.int a2), some (.int a3), o4] [.int s0] (xLay m) 0 0 (some (.int r.1)) (xLay r.2) := by
  unfold fX8_firstLink_39 at h
  cases h
  exact fx_ireturn dX8_firstLink_39 rfl rfl
def fX8_firstLink_38 (a0 : Nat) (a1 : Int32) (a2 : Int32) (a3 : Int32) (m : xMem) : Option (Int32 × xMem) := fX8_firstLink_39 a0 a1 a2 a3 (-1 : Int32) m
set_option maxRecDepth 4000 in
theorem fX8_firstLink_38_ok {a0 : Nat} {a1 : Int32} {a2 : Int32} {a3 : Int32} {d : Nat} (hd : 0 ≤ d) (ha0 : isRoutes a0) {o4 : Option Value} {m : xMem} {r : (Int32 × xMem)} (q4 : xNoD o4 = true) (h : fX8_firstLink_38 a0 a1 a2 a3 m = some r) : xFx hh_146 cX8_firstLink d 38 [some (.ref a0), some (.int a1), some (.int a2), some (.int a3), o4] [] (xLay m) 0 0 (some (.int r.1)) (xLay r.2) := by
  unfold fX8_firstLink_38 at h
  refine fx_iconst (x := -1) dX8_firstLink_38 rfl (by decide) ?_
  exact fX8_firstLink_39_ok (o4 := o4) hd ha0 q4 h
def fX8_firstLink_0 (a0 : Nat) (a1 : Int32) (a2 : Int32) (a3 : Int32) (m : xMem) : Option (Int32 × xMem) := xLet (a1 * (36 : Int32)) fun x1 => xLet (a2 * (6 : Int32)) fun x2 => xLet (x1 + x2) fun x3 => xLet (x3 + a3) fun x4 => if x4 < (0 : Int32) then fX8_firstLink_38 a0 a1 a2 a3 m else if (72 : Int32) ≤ x4 then fX8_firstLink_38 a0 a1 a2 a3 m else bif xIn x4 72 then xLet (m.1 (a0 + 1) x4.toNatClampNeg) fun x7 => fX8_firstLink_39 a0 a1 a2 a3 x7 m else none
set_option maxRecDepth 4000 in
theorem fX8_firstLink_0_ok {a0 : Nat} {a1 : Int32} {a2 : Int32} {a3 : Int32} {d : Nat} (hd : 0 ≤ d) (ha0 : isRoutes a0) {o4 : Option Value} {m : xMem} {r : (Int32 × xMem)} (q4 : xNoD o4 = true) (h : fX8_firstLink_0 a0 a1 a2 a3 m = some r) : xFx hh_146 cX8_firstLink d 0 [some (.ref a0), some (.int a1), some (.int a2), some (.int a3), o4] [] (xLay m) 0 0 (some (.int r.1)) (xLay r.2) := by
  unfold fX8_firstLink_0 at h
  refine fx_iload_n dX8_firstLink_0 rfl rfl ?_
  refine fx_bipush (x := 36) dX8_firstLink_1 rfl (by decide) ?_
  obtain ⟨x1, hx1, h⟩ := xLet_el h
  refine fx_imul dX8_firstLink_3 rfl hx1 ?_
  refine fx_iload_n dX8_firstLink_4 rfl rfl ?_
  refine fx_bipush (x := 6) dX8_firstLink_5 rfl (by decide) ?_
  obtain ⟨x2, hx2, h⟩ := xLet_el h
  refine fx_imul dX8_firstLink_7 rfl hx2 ?_
  obtain ⟨x3, hx3, h⟩ := xLet_el h
  refine fx_iadd dX8_firstLink_8 rfl hx3 ?_
  refine fx_iload_n dX8_firstLink_9 rfl rfl ?_
  obtain ⟨x4, hx4, h⟩ := xLet_el h
  refine fx_iadd dX8_firstLink_10 rfl hx4 ?_
  refine fx_istore (ls2 := [some (.ref a0), some (.int a1), some (.int a2), some (.int a3), some (.int x4)]) dX8_firstLink_11 rfl rfl rfl ?_
  refine fx_iload dX8_firstLink_13 rfl rfl ?_
  refine fx_if_lt (t := 38) dX8_firstLink_15 rfl rfl (fun hc5 => ?_) (fun hc5 => ?_)
  · rw [if_pos hc5] at h
    exact fX8_firstLink_38_ok (o4 := some (.int x4)) hd ha0 rfl h
  · rw [if_neg hc5] at h
    refine fx_iload dX8_firstLink_18 rfl rfl ?_
    refine fx_aload_n dX8_firstLink_20 rfl rfl ?_
    refine gx_getr dX8_firstLink_21 rfl fd_8_11 ha0.1 rfl rfl ?_
    refine gx_alen (t := 1) (y := 72) dX8_firstLink_24 rfl ha0.2.1 rfl (by decide) ?_
    refine fx_icmp_ge (t := 38) dX8_firstLink_25 rfl rfl (fun hc6 => ?_) (fun hc6 => ?_)
    · rw [if_pos hc6] at h
      exact fX8_firstLink_38_ok (o4 := some (.int x4)) hd ha0 rfl h
    · rw [if_neg hc6] at h
      refine fx_aload_n dX8_firstLink_28 rfl rfl ?_
      refine gx_getr dX8_firstLink_29 rfl fd_8_11 ha0.1 rfl rfl ?_
      refine fx_iload dX8_firstLink_32 rfl rfl ?_
      obtain ⟨hj8, h⟩ := xChk_el h
      obtain ⟨x7, hx7, h⟩ := xLet_el h
      refine gx_iaload dX8_firstLink_34 rfl ha0.2.1 hj8 hx7 ?_
      refine fx_goto (t := 39) dX8_firstLink_35 rfl rfl ?_
      exact fX8_firstLink_39_ok (o4 := some (.int x4)) hd ha0 rfl h
def fX8_firstLink (a0 : Nat) (a1 : Int32) (a2 : Int32) (a3 : Int32) (m : xMem) : Option (Int32 × xMem) := fX8_firstLink_0 a0 a1 a2 a3  m
theorem fX8_firstLink_ok {a0 : Nat} {a1 : Int32} {a2 : Int32} {a3 : Int32} {m : xMem} {r : (Int32 × xMem)} {d : Nat} (hd : 1 ≤ d) (ha0 : isRoutes a0) (h : fX8_firstLink a0 a1 a2 a3 m = some r) : xEx d 146 [.ref a0, .int a1, .int a2, .int a3] (xLay m) (some (.int r.1)) (xLay r.2) := by
  obtain ⟨d, rfl⟩ : ∃ q, d = q + 1 := ⟨d - 1, by omega⟩
  exact xEx_of me_146 rfl (fX8_firstLink_0_ok (d := d) (o4 := none) (by omega) ha0 rfl h)
def fX6_goalOfMost_20 (a0 : Nat) (a1 : Nat) (a2 : Int32) (a3 : Int32) (a4 : Int32) (m : xMem) : Option (Int32 × xMem) := some ((-1 : Int32), m)
set_option maxRecDepth 4000 in
theorem fX6_goalOfMost_20_ok {a0 : Nat} {a1 : Nat} {a2 : Int32} {a3 : Int32} {a4 : Int32} {d : Nat} (hd : 1 ≤ d) (ha0 : isMover a0) (ha1 : isStation a1) {o5 : Option Value} {o6 : Option Value} {o7 : Option Value} {o8 : Option Value} {m : xMem} {r : (Int32 × xMem)} (q5 : xNoD o5 = true) (q6 : xNoD o6 = true) (q7 : xNoD o7 = true) (q8 : xNoD o8 = true) (h : fX6_goalOfMost_20 a0 a1 a2 a3 a4 m = some r) : xFx hh_144 cX6_goalOfMost d 20 [some (.ref a0), some (.ref a1), some (.int a2), some (.int a3), some (.int a4), o5, o6, o7, o8] [] (xLay m) 0 0 (some (.int r.1)) (xLay r.2) := by
  unfold fX6_goalOfMost_20 at h
  refine fx_iconst (x := -1) dX6_goalOfMost_20 rfl (by decide) ?_
  cases h
  exact fx_ireturn dX6_goalOfMost_21 rfl rfl
def fX6_goalOfMost_84 (a0 : Nat) (a1 : Nat) (a2 : Int32) (a3 : Int32) (a4 : Int32) (rec31 : Int32 → Int32 → Int32 → xMem → Option (Int32 × xMem)) (l5 : Int32) (l6 : Int32) (l7 : Int32) (m : xMem) : Option (Int32 × xMem) := xLet (l7 + (1 : Int32)) fun x1 => rec31 l5 l6 x1 m
set_option maxRecDepth 4000 in
theorem fX6_goalOfMost_84_ok {a0 : Nat} {a1 : Nat} {a2 : Int32} {a3 : Int32} {a4 : Int32} {rec31 : Int32 → Int32 → Int32 → xMem → Option (Int32 × xMem)} {d : Nat} (hd : 1 ≤ d) (ha0 : isMover a0) (ha1 : isStation a1) (hrec31 : ∀ (l5 : Int32) (l6 : Int32) (l7 : Int32) (o8 : Option Value) (q8 : xNoD o8 = true) (m : xMem) (r : (Int32 × xMem)), rec31 l5 l6 l7 m = some r → xFx hh_144 cX6_goalOfMost d 31 [some (.ref a0), some (.ref a1), some (.int a2), some (.int a3), some (.int a4), some (.int l5), some (.int l6), some (.int l7), o8] [] (xLay m) 0 0 (some (.int r.1)) (xLay r.2)) {l5 : Int32} {l6 : Int32} {l7 : Int32} {o8 : Option Value} {m : xMem} {r : (Int32 × xMem)} (q8 : xNoD o8 = true) (h : fX6_goalOfMost_84 a0 a1 a2 a3 a4 rec31 l5 l6 l7 m = some r) : xFx hh_144 cX6_goalOfMost d 84 [some (.ref a0), some (.ref a1), some (.int a2), some (.int a3), some (.int a4), some (.int l5), some (.int l6), some (.int l7), o8] [] (xLay m) 0 0 (some (.int r.1)) (xLay r.2) := by
  unfold fX6_goalOfMost_84 at h
  obtain ⟨x1, hx1, h⟩ := xLet_el h
  refine fx_iinc (ls2 := [some (.ref a0), some (.ref a1), some (.int a2), some (.int a3), some (.int a4), some (.int l5), some (.int l6), some (.int x1), o8]) dX6_goalOfMost_84 rfl rfl rfl hx1 rfl ?_
  refine fx_goto (t := 31) dX6_goalOfMost_87 rfl rfl ?_
  exact hrec31 l5 l6 x1 (o8) q8 m r h
def fX6_goalOfMost_31 (a0 : Nat) (a1 : Nat) (a2 : Int32) (a3 : Int32) (a4 : Int32) : Nat → Int32 → Int32 → Int32 → xMem → Option (Int32 × xMem)
  | 0, _, _, _, _ => none
  | fuel + 1, l5, l6, l7, m => if (6 : Int32) ≤ l7 then some (l5, m) else bif xIn a3 6 then xLet (a1 + 15 + 3 * a3.toNatClampNeg) fun r3 => (fX2_waiting r3 l7 a4 m).bind fun p4 => if p4.1 ≤ l6 then fX6_goalOfMost_84 a0 a1 a2 a3 a4 (fX6_goalOfMost_31 a0 a1 a2 a3 a4 fuel) l5 l6 l7 p4.2 else (fX8_firstLink (a0 + 1) a4 a3 l7 p4.2).bind fun p6 => if ¬ p6.1 = a2 then fX6_goalOfMost_84 a0 a1 a2 a3 a4 (fX6_goalOfMost_31 a0 a1 a2 a3 a4 fuel) l5 l6 l7 p6.2 else fX6_goalOfMost_84 a0 a1 a2 a3 a4 (fX6_goalOfMost_31 a0 a1 a2 a3 a4 fuel) l7 p4.1 l7 p6.2 else none
set_option maxRecDepth 4000 in
theorem fX6_goalOfMost_31_ok {a0 : Nat} {a1 : Nat} {a2 : Int32} {a3 : Int32} {a4 : Int32} {d : Nat} (hd : 1 ≤ d) (ha0 : isMover a0) (ha1 : isStation a1) : ∀ (fuel : Nat) (l5 : Int32) (l6 : Int32) (l7 : Int32) (o8 : Option Value) (q8 : xNoD o8 = true) (m : xMem) (r : (Int32 × xMem)), fX6_goalOfMost_31 a0 a1 a2 a3 a4 fuel l5 l6 l7 m = some r → xFx hh_144 cX6_goalOfMost d 31 [some (.ref a0), some (.ref a1), some (.int a2), some (.int a3), some (.int a4), some (.int l5), some (.int l6), some (.int l7), o8] [] (xLay m) 0 0 (some (.int r.1)) (xLay r.2) := by
  intro fuel
  induction fuel with
  | zero => intro l5 l6 l7 o8 q8 m r  h; cases h
  | succ fuel ih =>
    intro l5 l6 l7 o8 q8 m r  h
    unfold fX6_goalOfMost_31 at h
    refine fx_iload dX6_goalOfMost_31 rfl rfl ?_
    refine fx_bipush (x := 6) dX6_goalOfMost_33 rfl (by decide) ?_
    refine fx_icmp_ge (t := 90) dX6_goalOfMost_35 rfl rfl (fun hc1 => ?_) (fun hc1 => ?_)
    · rw [if_pos hc1] at h
      refine fx_iload dX6_goalOfMost_90 rfl rfl ?_
      cases h
      exact fx_ireturn dX6_goalOfMost_92 rfl rfl
    · rw [if_neg hc1] at h
      refine fx_aload_n dX6_goalOfMost_38 rfl rfl ?_
      refine gx_getr dX6_goalOfMost_39 rfl fd_6_96 ha1.1 rfl rfl ?_
      refine fx_iload_n dX6_goalOfMost_42 rfl rfl ?_
      obtain ⟨hj2, h⟩ := xChk_el h
      obtain ⟨r3, hr3, h⟩ := xLet_el h
      refine gx_aaload (t := 4) dX6_goalOfMost_43 rfl ha1.2.1 rfl hj2 ((xRef_at (sl_9_0 a1) hj2).trans (congrArg some hr3)) ?_
      have hpr3 : isHall r3 := by rw [← hr3]; exact ha1.2.2.2.2.2.2.2.1 _ (xIn_lt hj2)
      refine fx_iload dX6_goalOfMost_44 rfl rfl ?_
      refine fx_iload dX6_goalOfMost_46 rfl rfl ?_
      obtain ⟨p4, ep4, h⟩ := xBind_el h
      refine gx_callv (as := [.int l7, .int a4]) (r := []) rfl dX6_goalOfMost_48 ca_6_207 rfl me_145 rfl rfl rfl rfl (hpr3.1) rfl (fX2_waiting_ok (d := d) (by omega) hpr3 ep4) rfl rfl ?_
      refine fx_istore (ls2 := [some (.ref a0), some (.ref a1), some (.int a2), some (.int a3), some (.int a4), some (.int l5), some (.int l6), some (.int l7), some (.int p4.1)]) dX6_goalOfMost_51 rfl rfl rfl ?_
      refine fx_iload dX6_goalOfMost_53 rfl rfl ?_
      refine fx_iload dX6_goalOfMost_55 rfl rfl ?_
      refine fx_icmp_le (t := 84) dX6_goalOfMost_57 rfl rfl (fun hc5 => ?_) (fun hc5 => ?_)
      · rw [if_pos hc5] at h
        exact fX6_goalOfMost_84_ok (o8 := some (.int p4.1)) hd ha0 ha1 ih rfl h
      · rw [if_neg hc5] at h
        refine fx_aload_n dX6_goalOfMost_60 rfl rfl ?_
        refine gx_getr dX6_goalOfMost_61 rfl fd_6_12 ha0.1 rfl rfl ?_
        refine fx_iload dX6_goalOfMost_64 rfl rfl ?_
        refine fx_iload_n dX6_goalOfMost_66 rfl rfl ?_
        refine fx_iload dX6_goalOfMost_67 rfl rfl ?_
        obtain ⟨p6, ep6, h⟩ := xBind_el h
        refine gx_callv (as := [.int a4, .int a3, .int l7]) (r := []) rfl dX6_goalOfMost_69 ca_6_210 rfl me_146 rfl rfl rfl rfl (ha0.2.1.1) rfl (fX8_firstLink_ok (d := d) (by omega) ha0.2.1 ep6) rfl rfl ?_
        refine fx_iload_n dX6_goalOfMost_72 rfl rfl ?_
        refine fx_icmp_ne (t := 84) dX6_goalOfMost_73 rfl rfl (fun hc7 => ?_) (fun hc7 => ?_)
        · rw [if_pos hc7] at h
          exact fX6_goalOfMost_84_ok (o8 := some (.int p4.1)) hd ha0 ha1 ih rfl h
        · rw [if_neg hc7] at h
          refine fx_iload dX6_goalOfMost_76 rfl rfl ?_
          refine fx_istore (ls2 := [some (.ref a0), some (.ref a1), some (.int a2), some (.int a3), some (.int a4), some (.int l7), some (.int l6), some (.int l7), some (.int p4.1)]) dX6_goalOfMost_78 rfl rfl rfl ?_
          refine fx_iload dX6_goalOfMost_80 rfl rfl ?_
          refine fx_istore (ls2 := [some (.ref a0), some (.ref a1), some (.int a2), some (.int a3), some (.int a4), some (.int l7), some (.int p4.1), some (.int l7), some (.int p4.1)]) dX6_goalOfMost_82 rfl rfl rfl ?_
          exact fX6_goalOfMost_84_ok (o8 := some (.int p4.1)) hd ha0 ha1 ih rfl h
def fX6_goalOfMost_0 (a0 : Nat) (a1 : Nat) (a2 : Int32) (a3 : Int32) (a4 : Int32) (m : xMem) : Option (Int32 × xMem) := (fX9_hasHall a1 a3 m).bind fun p1 => if p1.1 = (0 : Int32) then fX6_goalOfMost_20 a0 a1 a2 a3 a4 p1.2 else bif xIn a3 6 then xLet (a1 + 15 + 3 * a3.toNatClampNeg) fun r4 => xLet (p1.2.1 r4 4) fun x5 => if ¬ x5 = (0 : Int32) then fX6_goalOfMost_31 a0 a1 a2 a3 a4 xFuel (-1 : Int32) (0 : Int32) (0 : Int32) p1.2 else fX6_goalOfMost_20 a0 a1 a2 a3 a4 p1.2 else none
set_option maxRecDepth 4000 in
theorem fX6_goalOfMost_0_ok {a0 : Nat} {a1 : Nat} {a2 : Int32} {a3 : Int32} {a4 : Int32} {d : Nat} (hd : 1 ≤ d) (ha0 : isMover a0) (ha1 : isStation a1) {o5 : Option Value} {o6 : Option Value} {o7 : Option Value} {o8 : Option Value} {m : xMem} {r : (Int32 × xMem)} (q5 : xNoD o5 = true) (q6 : xNoD o6 = true) (q7 : xNoD o7 = true) (q8 : xNoD o8 = true) (h : fX6_goalOfMost_0 a0 a1 a2 a3 a4 m = some r) : xFx hh_144 cX6_goalOfMost d 0 [some (.ref a0), some (.ref a1), some (.int a2), some (.int a3), some (.int a4), o5, o6, o7, o8] [] (xLay m) 0 0 (some (.int r.1)) (xLay r.2) := by
  unfold fX6_goalOfMost_0 at h
  refine fx_aload_n dX6_goalOfMost_0 rfl rfl ?_
  refine fx_iload_n dX6_goalOfMost_1 rfl rfl ?_
  obtain ⟨p1, ep1, h⟩ := xBind_el h
  refine gx_callv (as := [.int a3]) (r := []) rfl dX6_goalOfMost_2 ca_6_69 rfl me_20 rfl rfl rfl rfl (ha1.1) rfl (fX9_hasHall_ok (d := d) (by omega) ha1 ep1) rfl rfl ?_
  refine fx_if_eq (t := 20) dX6_goalOfMost_5 rfl rfl (fun hc2 => ?_) (fun hc2 => ?_)
  · rw [if_pos hc2] at h
    exact fX6_goalOfMost_20_ok (o5 := o5) (o6 := o6) (o7 := o7) (o8 := o8) hd ha0 ha1 q5 q6 q7 q8 h
  · rw [if_neg hc2] at h
    refine fx_aload_n dX6_goalOfMost_8 rfl rfl ?_
    refine gx_getr dX6_goalOfMost_9 rfl fd_6_96 ha1.1 rfl rfl ?_
    refine fx_iload_n dX6_goalOfMost_12 rfl rfl ?_
    obtain ⟨hj3, h⟩ := xChk_el h
    obtain ⟨r4, hr4, h⟩ := xLet_el h
    refine gx_aaload (t := 4) dX6_goalOfMost_13 rfl ha1.2.1 rfl hj3 ((xRef_at (sl_9_0 a1) hj3).trans (congrArg some hr4)) ?_
    have hpr4 : isHall r4 := by rw [← hr4]; exact ha1.2.2.2.2.2.2.2.1 _ (xIn_lt hj3)
    obtain ⟨x5, hx5, h⟩ := xLet_el h
    refine gx_get dX6_goalOfMost_14 rfl fd_6_106 hpr4.1 rfl rfl hx5 ?_
    refine fx_if_ne (t := 22) dX6_goalOfMost_17 rfl rfl (fun hc6 => ?_) (fun hc6 => ?_)
    · rw [if_pos hc6] at h
      refine fx_iconst (x := -1) dX6_goalOfMost_22 rfl (by decide) ?_
      refine fx_istore (ls2 := [some (.ref a0), some (.ref a1), some (.int a2), some (.int a3), some (.int a4), some (.int (-1 : Int32)), o6, o7, o8]) dX6_goalOfMost_23 rfl rfl rfl ?_
      refine fx_iconst (x := 0) dX6_goalOfMost_25 rfl (by decide) ?_
      refine fx_istore (ls2 := [some (.ref a0), some (.ref a1), some (.int a2), some (.int a3), some (.int a4), some (.int (-1 : Int32)), some (.int (0 : Int32)), o7, o8]) dX6_goalOfMost_26 rfl rfl rfl ?_
      refine fx_iconst (x := 0) dX6_goalOfMost_28 rfl (by decide) ?_
      refine fx_istore (ls2 := [some (.ref a0), some (.ref a1), some (.int a2), some (.int a3), some (.int a4), some (.int (-1 : Int32)), some (.int (0 : Int32)), some (.int (0 : Int32)), o8]) dX6_goalOfMost_29 rfl rfl rfl ?_
      exact fX6_goalOfMost_31_ok hd ha0 ha1 xFuel (-1 : Int32) (0 : Int32) (0 : Int32) (o8) q8 p1.2 r h
    · rw [if_neg hc6] at h
      exact fX6_goalOfMost_20_ok (o5 := o5) (o6 := o6) (o7 := o7) (o8 := o8) hd ha0 ha1 q5 q6 q7 q8 h
def fX6_goalOfMost (a0 : Nat) (a1 : Nat) (a2 : Int32) (a3 : Int32) (a4 : Int32) (m : xMem) : Option (Int32 × xMem) := fX6_goalOfMost_0 a0 a1 a2 a3 a4  m
theorem fX6_goalOfMost_ok {a0 : Nat} {a1 : Nat} {a2 : Int32} {a3 : Int32} {a4 : Int32} {m : xMem} {r : (Int32 × xMem)} {d : Nat} (hd : 2 ≤ d) (ha0 : isMover a0) (ha1 : isStation a1) (h : fX6_goalOfMost a0 a1 a2 a3 a4 m = some r) : xEx d 144 [.ref a0, .ref a1, .int a2, .int a3, .int a4] (xLay m) (some (.int r.1)) (xLay r.2) := by
  obtain ⟨d, rfl⟩ : ∃ q, d = q + 1 := ⟨d - 1, by omega⟩
  exact xEx_of me_144 rfl (fX6_goalOfMost_0_ok (d := d) (o5 := none) (o6 := none) (o7 := none) (o8 := none) (by omega) ha0 ha1 rfl rfl rfl rfl h)
def fX9_admits_39 (a0 : Nat) (a1 : Int32) (a2 : Int32) (s0 : Int32) (m : xMem) : Option (Int32 × xMem) := bif (decide (s0 = 0) || decide (s0 = 1)) then some (s0, m) else none
set_option maxRecDepth 4000 in
theorem fX9_admits_39_ok {a0 : Nat} {a1 : Int32} {a2 : Int32} {d : Nat} (hd : 1 ≤ d) (ha0 : isStation a0) {s0 : Int32} {m : xMem} {r : (Int32 × xMem)} (h : fX9_admits_39 a0 a1 a2 s0 m = some r) : xFx hh_147 cX9_admits d 39 [some (.ref a0), some (.int a1), some (.int a2)] [.int s0] (xLay m) 0 0 (some (.int r.1)) (xLay r.2) := by
  unfold fX9_admits_39 at h
  obtain ⟨hb1, h⟩ := xChk_el h
  cases h
  exact fx_ireturn dX9_admits_39 rfl (by show ((decide _ || decide _) && _) = true; rw [hb1]; rfl)
def fX9_admits_34 (a0 : Nat) (a1 : Int32) (a2 : Int32) (m : xMem) : Option (Int32 × xMem) := fX9_admits_39 a0 a1 a2 (1 : Int32) m
set_option maxRecDepth 4000 in
theorem fX9_admits_34_ok {a0 : Nat} {a1 : Int32} {a2 : Int32} {d : Nat} (hd : 1 ≤ d) (ha0 : isStation a0) {m : xMem} {r : (Int32 × xMem)} (h : fX9_admits_34 a0 a1 a2 m = some r) : xFx hh_147 cX9_admits d 34 [some (.ref a0), some (.int a1), some (.int a2)] [] (xLay m) 0 0 (some (.int r.1)) (xLay r.2) := by
  unfold fX9_admits_34 at h
  refine fx_iconst (x := 1) dX9_admits_34 rfl (by decide) ?_
  refine fx_goto (t := 39) dX9_admits_35 rfl rfl ?_
  exact fX9_admits_39_ok hd ha0 h
def fX9_admits_38 (a0 : Nat) (a1 : Int32) (a2 : Int32) (m : xMem) : Option (Int32 × xMem) := fX9_admits_39 a0 a1 a2 (0 : Int32) m
set_option maxRecDepth 4000 in
theorem fX9_admits_38_ok {a0 : Nat} {a1 : Int32} {a2 : Int32} {d : Nat} (hd : 1 ≤ d) (ha0 : isStation a0) {m : xMem} {r : (Int32 × xMem)} (h : fX9_admits_38 a0 a1 a2 m = some r) : xFx hh_147 cX9_admits d 38 [some (.ref a0), some (.int a1), some (.int a2)] [] (xLay m) 0 0 (some (.int r.1)) (xLay r.2) := by
  unfold fX9_admits_38 at h
  refine fx_iconst (x := 0) dX9_admits_38 rfl (by decide) ?_
  exact fX9_admits_39_ok hd ha0 h
def fX9_admits_0 (a0 : Nat) (a1 : Int32) (a2 : Int32) (m : xMem) : Option (Int32 × xMem) := if a1 = a2 then fX9_admits_34 a0 a1 a2 m else (fX9_hasHall a0 a1 m).bind fun p2 => if p2.1 = (0 : Int32) then fX9_admits_38 a0 a1 a2 p2.2 else bif xIn a1 6 then xLet (a0 + 15 + 3 * a1.toNatClampNeg) fun r5 => xLet (p2.2.1 r5 4) fun x6 => bif xIn a1 6 then xLet (a0 + 15 + 3 * a1.toNatClampNeg) fun r8 => xLet (p2.2.1 r8 2) fun x9 => if x9 ≤ x6 then fX9_admits_38 a0 a1 a2 p2.2 else fX9_admits_34 a0 a1 a2 p2.2 else none else none
set_option maxRecDepth 4000 in
theorem fX9_admits_0_ok {a0 : Nat} {a1 : Int32} {a2 : Int32} {d : Nat} (hd : 1 ≤ d) (ha0 : isStation a0) {m : xMem} {r : (Int32 × xMem)} (h : fX9_admits_0 a0 a1 a2 m = some r) : xFx hh_147 cX9_admits d 0 [some (.ref a0), some (.int a1), some (.int a2)] [] (xLay m) 0 0 (some (.int r.1)) (xLay r.2) := by
  unfold fX9_admits_0 at h
  refine fx_iload_n dX9_admits_0 rfl rfl ?_
  refine fx_iload_n dX9_admits_1 rfl rfl ?_
  refine fx_icmp_eq (t := 34) dX9_admits_2 rfl rfl (fun hc1 => ?_) (fun hc1 => ?_)
  · rw [if_pos hc1] at h
    exact fX9_admits_34_ok hd ha0 h
  · rw [if_neg hc1] at h
    refine fx_aload_n dX9_admits_5 rfl rfl ?_
    refine fx_iload_n dX9_admits_6 rfl rfl ?_
    obtain ⟨p2, ep2, h⟩ := xBind_el h
    refine gx_callv (as := [.int a1]) (r := []) rfl dX9_admits_7 ca_9_74 rfl me_20 rfl rfl rfl rfl (ha0.1) rfl (fX9_hasHall_ok (d := d) (by omega) ha0 ep2) rfl rfl ?_
    refine fx_if_eq (t := 38) dX9_admits_10 rfl rfl (fun hc3 => ?_) (fun hc3 => ?_)
    · rw [if_pos hc3] at h
      exact fX9_admits_38_ok hd ha0 h
    · rw [if_neg hc3] at h
      refine fx_aload_n dX9_admits_13 rfl rfl ?_
      refine gx_getr dX9_admits_14 rfl fd_9_11 ha0.1 rfl rfl ?_
      refine fx_iload_n dX9_admits_17 rfl rfl ?_
      obtain ⟨hj4, h⟩ := xChk_el h
      obtain ⟨r5, hr5, h⟩ := xLet_el h
      refine gx_aaload (t := 4) dX9_admits_18 rfl ha0.2.1 rfl hj4 ((xRef_at (sl_9_0 a0) hj4).trans (congrArg some hr5)) ?_
      have hpr5 : isHall r5 := by rw [← hr5]; exact ha0.2.2.2.2.2.2.2.1 _ (xIn_lt hj4)
      obtain ⟨x6, hx6, h⟩ := xLet_el h
      refine gx_get dX9_admits_19 rfl fd_9_77 hpr5.1 rfl rfl hx6 ?_
      refine fx_aload_n dX9_admits_22 rfl rfl ?_
      refine gx_getr dX9_admits_23 rfl fd_9_11 ha0.1 rfl rfl ?_
      refine fx_iload_n dX9_admits_26 rfl rfl ?_
      obtain ⟨hj7, h⟩ := xChk_el h
      obtain ⟨r8, hr8, h⟩ := xLet_el h
      refine gx_aaload (t := 4) dX9_admits_27 rfl ha0.2.1 rfl hj7 ((xRef_at (sl_9_0 a0) hj7).trans (congrArg some hr8)) ?_
      have hpr8 : isHall r8 := by rw [← hr8]; exact ha0.2.2.2.2.2.2.2.1 _ (xIn_lt hj7)
      obtain ⟨x9, hx9, h⟩ := xLet_el h
      refine gx_get dX9_admits_28 rfl fd_9_80 hpr8.1 rfl rfl hx9 ?_
      refine fx_icmp_ge (t := 38) dX9_admits_31 rfl rfl (fun hc10 => ?_) (fun hc10 => ?_)
      · rw [if_pos hc10] at h
        exact fX9_admits_38_ok hd ha0 h
      · rw [if_neg hc10] at h
        exact fX9_admits_34_ok hd ha0 h
def fX9_admits (a0 : Nat) (a1 : Int32) (a2 : Int32) (m : xMem) : Option (Int32 × xMem) := fX9_admits_0 a0 a1 a2  m
theorem fX9_admits_ok {a0 : Nat} {a1 : Int32} {a2 : Int32} {m : xMem} {r : (Int32 × xMem)} {d : Nat} (hd : 2 ≤ d) (ha0 : isStation a0) (h : fX9_admits a0 a1 a2 m = some r) : xEx d 147 [.ref a0, .int a1, .int a2] (xLay m) (some (.int r.1)) (xLay r.2) := by
  obtain ⟨d, rfl⟩ : ∃ q, d = q + 1 := ⟨d - 1, by omega⟩
  exact xEx_of me_147 rfl (fX9_admits_0_ok (d := d) (by omega) ha0 h)
def fX6_lift_16 (a0 : Nat) (a1 : Nat) (a2 : Int32) (a3 : Int32) (a4 : Int32) (m : xMem) : Option xMem := some m
set_option maxRecDepth 4000 in
theorem fX6_lift_16_ok {a0 : Nat} {a1 : Nat} {a2 : Int32} {a3 : Int32} {a4 : Int32} {d : Nat} (hd : 2 ≤ d) (ha0 : isMover a0) (ha1 : isStation a1) {o5 : Option Value} {o6 : Option Value} {o7 : Option Value} {m : xMem} {r : xMem} (q5 : xNoD o5 = true) (q6 : xNoD o6 = true) (q7 : xNoD o7 = true) (h : fX6_lift_16 a0 a1 a2 a3 a4 m = some r) : xFx hh_143 cX6_lift d 16 [some (.ref a0), some (.ref a1), some (.int a2), some (.int a3), some (.int a4), o5, o6, o7] [] (xLay m) 0 0 none (xLay r) := by
  unfold fX6_lift_16 at h
  cases h
  exact fx_return dX6_lift_16 rfl rfl
def fX6_lift_65 (a0 : Nat) (a1 : Nat) (a2 : Int32) (a3 : Int32) (a4 : Int32) (m : xMem) : Option xMem := some m
set_option maxRecDepth 4000 in
theorem fX6_lift_65_ok {a0 : Nat} {a1 : Nat} {a2 : Int32} {a3 : Int32} {a4 : Int32} {d : Nat} (hd : 2 ≤ d) (ha0 : isMover a0) (ha1 : isStation a1) {o5 : Option Value} {o6 : Option Value} {o7 : Option Value} {m : xMem} {r : xMem} (q5 : xNoD o5 = true) (q6 : xNoD o6 = true) (q7 : xNoD o7 = true) (h : fX6_lift_65 a0 a1 a2 a3 a4 m = some r) : xFx hh_143 cX6_lift d 65 [some (.ref a0), some (.ref a1), some (.int a2), some (.int a3), some (.int a4), o5, o6, o7] [] (xLay m) 0 0 none (xLay r) := by
  unfold fX6_lift_65 at h
  cases h
  exact fx_return dX6_lift_65 rfl rfl
def fX6_lift_28 (a0 : Nat) (a1 : Nat) (a2 : Int32) (a3 : Int32) (a4 : Int32) : Nat → Nat → Int32 → xMem → Option xMem
  | 0, _, _, _ => none
  | fuel + 1, l5, l6, m => xLet (m.1 l5 4) fun x1 => if x1 ≤ l6 then some m else (fX6_goalOfMost a0 a1 a2 a3 (1 : Int32) m).bind fun p3 => if p3.1 = (-1 : Int32) then fX6_lift_65 a0 a1 a2 a3 a4 p3.2 else (fX9_admits a1 a4 p3.1 p3.2).bind fun p5 => if ¬ p5.1 = (0 : Int32) then bif xIn a3 6 then xLet (a1 + 15 + 3 * a3.toNatClampNeg) fun r8 => (fX2_change r8 p3.1 (1 : Int32) (-1 : Int32) p5.2).bind fun p9 => (fX9_comeTo a1 a4 p3.1 (1 : Int32) (1 : Int32) p9).bind fun p10 => xLet (p10.1 l5 10) fun x11 => xLet (x11 + (1 : Int32)) fun x12 => xLet (xPut p10 l5 10 x12) fun m13 => xLet (m13.1 l5 11) fun x14 => xLet (x14 + (1 : Int32)) fun x15 => xLet (xPut m13 l5 11 x15) fun m16 => xLet (l6 + (1 : Int32)) fun x17 => fX6_lift_28 a0 a1 a2 a3 a4 fuel l5 x17 m16 else none else fX6_lift_65 a0 a1 a2 a3 a4 p5.2
set_option maxRecDepth 4000 in
theorem fX6_lift_28_ok {a0 : Nat} {a1 : Nat} {a2 : Int32} {a3 : Int32} {a4 : Int32} {d : Nat} (hd : 2 ≤ d) (ha0 : isMover a0) (ha1 : isStation a1) : ∀ (fuel : Nat) (l5 : Nat) (l6 : Int32) (o7 : Option Value) (q7 : xNoD o7 = true) (m : xMem) (r : xMem) (hl5 : isLink l5), fX6_lift_28 a0 a1 a2 a3 a4 fuel l5 l6 m = some r → xFx hh_143 cX6_lift d 28 [some (.ref a0), some (.ref a1), some (.int a2), some (.int a3), some (.int a4), some (.ref l5), some (.int l6), o7] [] (xLay m) 0 0 none (xLay r) := by
  intro fuel
  induction fuel with
  | zero => intro l5 l6 o7 q7 m r hl5 h; cases h
  | succ fuel ih =>
    intro l5 l6 o7 q7 m r hl5 h
    unfold fX6_lift_28 at h
    refine fx_iload dX6_lift_28 rfl rfl ?_
    refine fx_aload dX6_lift_30 rfl rfl ?_
    obtain ⟨x1, hx1, h⟩ := xLet_el h
    refine gx_get dX6_lift_32 rfl fd_6_189 hl5.1 rfl rfl hx1 ?_
    refine fx_icmp_ge (t := 117) dX6_lift_35 rfl rfl (fun hc2 => ?_) (fun hc2 => ?_)
    · rw [if_pos hc2] at h
      cases h
      exact fx_return dX6_lift_117 rfl rfl
    · rw [if_neg hc2] at h
      refine fx_aload_n dX6_lift_38 rfl rfl ?_
      refine fx_aload_n dX6_lift_39 rfl rfl ?_
      refine fx_iload_n dX6_lift_40 rfl rfl ?_
      refine fx_iload_n dX6_lift_41 rfl rfl ?_
      refine fx_iconst (x := 1) dX6_lift_42 rfl (by decide) ?_
      obtain ⟨p3, ep3, h⟩ := xBind_el h
      refine gx_callv (as := [.ref a1, .int a2, .int a3, .int (1 : Int32)]) (r := []) rfl dX6_lift_43 ca_6_190 rfl me_144 rfl rfl rfl rfl (ha0.1) rfl (fX6_goalOfMost_ok (d := d) (by omega) ha0 ha1 ep3) rfl rfl ?_
      refine fx_istore (ls2 := [some (.ref a0), some (.ref a1), some (.int a2), some (.int a3), some (.int a4), some (.ref l5), some (.int l6), some (.int p3.1)]) dX6_lift_46 rfl rfl rfl ?_
      refine fx_iload dX6_lift_48 rfl rfl ?_
      refine fx_iconst (x := -1) dX6_lift_50 rfl (by decide) ?_
      refine fx_icmp_eq (t := 65) dX6_lift_51 rfl rfl (fun hc4 => ?_) (fun hc4 => ?_)
      · rw [if_pos hc4] at h
        exact fX6_lift_65_ok (o5 := some (.ref l5)) (o6 := some (.int l6)) (o7 := some (.int p3.1)) hd ha0 ha1 rfl rfl rfl h
      · rw [if_neg hc4] at h
        refine fx_aload_n dX6_lift_54 rfl rfl ?_
        refine fx_iload dX6_lift_55 rfl rfl ?_
        refine fx_iload dX6_lift_57 rfl rfl ?_
        obtain ⟨p5, ep5, h⟩ := xBind_el h
        refine gx_callv (as := [.int a4, .int p3.1]) (r := []) rfl dX6_lift_59 ca_6_194 rfl me_147 rfl rfl rfl rfl (ha1.1) rfl (fX9_admits_ok (d := d) (by omega) ha1 ep5) rfl rfl ?_
        refine fx_if_ne (t := 66) dX6_lift_62 rfl rfl (fun hc6 => ?_) (fun hc6 => ?_)
        · rw [if_pos hc6] at h
          refine fx_aload_n dX6_lift_66 rfl rfl ?_
          refine gx_getr dX6_lift_67 rfl fd_6_96 ha1.1 rfl rfl ?_
          refine fx_iload_n dX6_lift_70 rfl rfl ?_
          obtain ⟨hj7, h⟩ := xChk_el h
          obtain ⟨r8, hr8, h⟩ := xLet_el h
          refine gx_aaload (t := 4) dX6_lift_71 rfl ha1.2.1 rfl hj7 ((xRef_at (sl_9_0 a1) hj7).trans (congrArg some hr8)) ?_
          have hpr8 : isHall r8 := by rw [← hr8]; exact ha1.2.2.2.2.2.2.2.1 _ (xIn_lt hj7)
          refine fx_iload dX6_lift_72 rfl rfl ?_
          refine fx_iconst (x := 1) dX6_lift_74 rfl (by decide) ?_
          refine fx_iconst (x := -1) dX6_lift_75 rfl (by decide) ?_
          obtain ⟨p9, ep9, h⟩ := xBind_el h
          refine gx_callv (as := [.int p3.1, .int (1 : Int32), .int (-1 : Int32)]) (r := []) rfl dX6_lift_76 ca_6_198 rfl me_124 rfl rfl rfl rfl (hpr8.1) rfl (fX2_change_ok (d := d) (by omega) hpr8 ep9) rfl rfl ?_
          refine fx_aload_n dX6_lift_79 rfl rfl ?_
          refine fx_iload dX6_lift_80 rfl rfl ?_
          refine fx_iload dX6_lift_82 rfl rfl ?_
          refine fx_iconst (x := 1) dX6_lift_84 rfl (by decide) ?_
          refine fx_iconst (x := 1) dX6_lift_85 rfl (by decide) ?_
          obtain ⟨p10, ep10, h⟩ := xBind_el h
          refine gx_callv (as := [.int a4, .int p3.1, .int (1 : Int32), .int (1 : Int32)]) (r := []) rfl dX6_lift_86 ca_6_85 rfl me_123 rfl rfl rfl rfl (ha1.1) rfl (fX9_comeTo_ok (d := d) (by omega) ha1 ep10) rfl rfl ?_
          refine fx_aload dX6_lift_89 rfl rfl ?_
          refine fx_dup dX6_lift_91 rfl rfl ?_
          obtain ⟨x11, hx11, h⟩ := xLet_el h
          refine gx_get dX6_lift_92 rfl fd_6_201 hl5.1 rfl rfl hx11 ?_
          refine fx_iconst (x := 1) dX6_lift_95 rfl (by decide) ?_
          obtain ⟨x12, hx12, h⟩ := xLet_el h
          refine fx_iadd dX6_lift_96 rfl hx12 ?_
          obtain ⟨m13, hm13, h⟩ := xLet_el h
          refine gx_put dX6_lift_97 rfl fd_6_201 hl5.1 rfl rfl rfl hm13 ?_
          refine fx_aload dX6_lift_100 rfl rfl ?_
          refine fx_dup dX6_lift_102 rfl rfl ?_
          obtain ⟨x14, hx14, h⟩ := xLet_el h
          refine gx_get dX6_lift_103 rfl fd_6_204 hl5.1 rfl rfl hx14 ?_
          refine fx_iconst (x := 1) dX6_lift_106 rfl (by decide) ?_
          obtain ⟨x15, hx15, h⟩ := xLet_el h
          refine fx_iadd dX6_lift_107 rfl hx15 ?_
          obtain ⟨m16, hm16, h⟩ := xLet_el h
          refine gx_put dX6_lift_108 rfl fd_6_204 hl5.1 rfl rfl rfl hm16 ?_
          obtain ⟨x17, hx17, h⟩ := xLet_el h
          refine fx_iinc (ls2 := [some (.ref a0), some (.ref a1), some (.int a2), some (.int a3), some (.int a4), some (.ref l5), some (.int x17), some (.int p3.1)]) dX6_lift_111 rfl rfl rfl hx17 rfl ?_
          refine fx_goto (t := 28) dX6_lift_114 rfl rfl ?_
          exact ih l5 x17 (some (.int p3.1)) rfl m16 r hl5 h
        · rw [if_neg hc6] at h
          exact fX6_lift_65_ok (o5 := some (.ref l5)) (o6 := some (.int l6)) (o7 := some (.int p3.1)) hd ha0 ha1 rfl rfl rfl h
def fX6_lift_0 (a0 : Nat) (a1 : Nat) (a2 : Int32) (a3 : Int32) (a4 : Int32) (m : xMem) : Option xMem := (fX9_hasLink a1 a2 m).bind fun p1 => if p1.1 = (0 : Int32) then fX6_lift_16 a0 a1 a2 a3 a4 p1.2 else (fX9_hasHall a1 a3 p1.2).bind fun p3 => if ¬ p3.1 = (0 : Int32) then bif xIn a2 10 then xLet (a1 + 33 + 2 * a2.toNatClampNeg) fun r6 => fX6_lift_28 a0 a1 a2 a3 a4 xFuel r6 (0 : Int32) p3.2 else none else fX6_lift_16 a0 a1 a2 a3 a4 p3.2
set_option maxRecDepth 4000 in
theorem fX6_lift_0_ok {a0 : Nat} {a1 : Nat} {a2 : Int32} {a3 : Int32} {a4 : Int32} {d : Nat} (hd : 2 ≤ d) (ha0 : isMover a0) (ha1 : isStation a1) {o5 : Option Value} {o6 : Option Value} {o7 : Option Value} {m : xMem} {r : xMem} (q5 : xNoD o5 = true) (q6 : xNoD o6 = true) (q7 : xNoD o7 = true) (h : fX6_lift_0 a0 a1 a2 a3 a4 m = some r) : xFx hh_143 cX6_lift d 0 [some (.ref a0), some (.ref a1), some (.int a2), some (.int a3), some (.int a4), o5, o6, o7] [] (xLay m) 0 0 none (xLay r) := by
  unfold fX6_lift_0 at h
  refine fx_aload_n dX6_lift_0 rfl rfl ?_
  refine fx_iload_n dX6_lift_1 rfl rfl ?_
  obtain ⟨p1, ep1, h⟩ := xBind_el h
  refine gx_callv (as := [.int a2]) (r := []) rfl dX6_lift_2 ca_6_186 rfl me_29 rfl rfl rfl rfl (ha1.1) rfl (fX9_hasLink_ok (d := d) (by omega) ha1 ep1) rfl rfl ?_
  refine fx_if_eq (t := 16) dX6_lift_5 rfl rfl (fun hc2 => ?_) (fun hc2 => ?_)
  · rw [if_pos hc2] at h
    exact fX6_lift_16_ok (o5 := o5) (o6 := o6) (o7 := o7) hd ha0 ha1 q5 q6 q7 h
  · rw [if_neg hc2] at h
    refine fx_aload_n dX6_lift_8 rfl rfl ?_
    refine fx_iload_n dX6_lift_9 rfl rfl ?_
    obtain ⟨p3, ep3, h⟩ := xBind_el h
    refine gx_callv (as := [.int a3]) (r := []) rfl dX6_lift_10 ca_6_69 rfl me_20 rfl rfl rfl rfl (ha1.1) rfl (fX9_hasHall_ok (d := d) (by omega) ha1 ep3) rfl rfl ?_
    refine fx_if_ne (t := 17) dX6_lift_13 rfl rfl (fun hc4 => ?_) (fun hc4 => ?_)
    · rw [if_pos hc4] at h
      refine fx_aload_n dX6_lift_17 rfl rfl ?_
      refine gx_getr dX6_lift_18 rfl fd_6_144 ha1.1 rfl rfl ?_
      refine fx_iload_n dX6_lift_21 rfl rfl ?_
      obtain ⟨hj5, h⟩ := xChk_el h
      obtain ⟨r6, hr6, h⟩ := xLet_el h
      refine gx_aaload (t := 5) dX6_lift_22 rfl ha1.2.2.1 rfl hj5 ((xRef_at (sl_9_1 a1) hj5).trans (congrArg some hr6)) ?_
      have hpr6 : isLink r6 := by rw [← hr6]; exact ha1.2.2.2.2.2.2.2.2.1 _ (xIn_lt hj5)
      refine fx_astore (ls2 := [some (.ref a0), some (.ref a1), some (.int a2), some (.int a3), some (.int a4), some (.ref r6), o6, o7]) dX6_lift_23 rfl rfl rfl ?_
      refine fx_iconst (x := 0) dX6_lift_25 rfl (by decide) ?_
      refine fx_istore (ls2 := [some (.ref a0), some (.ref a1), some (.int a2), some (.int a3), some (.int a4), some (.ref r6), some (.int (0 : Int32)), o7]) dX6_lift_26 rfl rfl rfl ?_
      exact fX6_lift_28_ok hd ha0 ha1 xFuel r6 (0 : Int32) (o7) q7 p3.2 r hpr6 h
    · rw [if_neg hc4] at h
      exact fX6_lift_16_ok (o5 := o5) (o6 := o6) (o7 := o7) hd ha0 ha1 q5 q6 q7 h
def fX6_lift (a0 : Nat) (a1 : Nat) (a2 : Int32) (a3 : Int32) (a4 : Int32) (m : xMem) : Option xMem := fX6_lift_0 a0 a1 a2 a3 a4  m
theorem fX6_lift_ok {a0 : Nat} {a1 : Nat} {a2 : Int32} {a3 : Int32} {a4 : Int32} {m : xMem} {r : xMem} {d : Nat} (hd : 3 ≤ d) (ha0 : isMover a0) (ha1 : isStation a1) (h : fX6_lift a0 a1 a2 a3 a4 m = some r) : xEx d 143 [.ref a0, .ref a1, .int a2, .int a3, .int a4] (xLay m) none (xLay r) := by
  obtain ⟨d, rfl⟩ : ∃ q, d = q + 1 := ⟨d - 1, by omega⟩
  exact xEx_of me_143 rfl (fX6_lift_0_ok (d := d) (o5 := none) (o6 := none) (o7 := none) (by omega) ha0 ha1 rfl rfl rfl h)
def fX10_walk_65 (a0 : Nat) (a1 : Nat) (m : xMem) : Option (Int32 × xMem) := some ((4 : Int32), m)
set_option maxRecDepth 4000 in
theorem fX10_walk_65_ok {a0 : Nat} {a1 : Nat} {d : Nat} (hd : 2 ≤ d) (ha0 : isText a0) (ha1 : isNames a1) {o2 : Option Value} {o3 : Option Value} {m : xMem} {r : (Int32 × xMem)} (q2 : xNoD o2 = true) (q3 : xNoD o3 = true) (h : fX10_walk_65 a0 a1 m = some r) : xFx hh_149 cX10_walk d 65 [some (.ref a0), some (.ref a1), o2, o3] [] (xLay m) 0 0 (some (.int r.1)) (xLay r.2) := by
  unfold fX10_walk_65 at h
  refine fx_iconst (x := 4) dX10_walk_65 rfl (by decide) ?_
  cases h
  exact fx_ireturn dX10_walk_66 rfl rfl
def fX10_walk_4 (a0 : Nat) (a1 : Nat) : Nat → Int32 → Int32 → xMem → Option (Int32 × xMem)
  | 0, _, _, _ => none
  | fuel + 1, l2, l3, m => xLet (m.1 a0 6) fun x1 => if x1 ≤ l3 then fX10_walk_65 a0 a1 m else if (10 : Int32) ≤ l3 then fX10_walk_65 a0 a1 m else bif xIn l3 10 then xLet (m.1 (a0 + 3) l3.toNatClampNeg) fun x4 => if ¬ x4 = (0 : Int32) then bif xIn l3 10 then xLet (m.1 (a0 + 4) l3.toNatClampNeg) fun x7 => xLet (l3 + (1 : Int32)) fun x9 => fX10_walk_4 a0 a1 fuel x7 x9 m else none else bif xIn l3 10 then xLet (m.1 (a0 + 4) l3.toNatClampNeg) fun x10 => (fX10_worth a0 l2 x10 a1 m).bind fun p12 => xLet (xMin (10 : Int32) p12.1) fun x13 => xLet (xMax (0 : Int32) x13) fun x14 => some (x14, p12.2) else none else none
set_option maxRecDepth 4000 in
theorem fX10_walk_4_ok {a0 : Nat} {a1 : Nat} {d : Nat} (hd : 2 ≤ d) (ha0 : isText a0) (ha1 : isNames a1) : ∀ (fuel : Nat) (l2 : Int32) (l3 : Int32) (m : xMem) (r : (Int32 × xMem)), fX10_walk_4 a0 a1 fuel l2 l3 m = some r → xFx hh_149 cX10_walk d 4 [some (.ref a0), some (.ref a1), some (.int l2), some (.int l3)] [] (xLay m) 0 0 (some (.int r.1)) (xLay r.2) := by
  intro fuel
  induction fuel with
  | zero => intro l2 l3  m r  h; cases h
  | succ fuel ih =>
    intro l2 l3  m r  h
    unfold fX10_walk_4 at h
    refine fx_iload_n dX10_walk_4 rfl rfl ?_
    refine fx_aload_n dX10_walk_5 rfl rfl ?_
    obtain ⟨x1, hx1, h⟩ := xLet_el h
    refine gx_get dX10_walk_6 rfl fd_10_31 ha0.1 rfl rfl hx1 ?_
    refine fx_icmp_ge (t := 65) dX10_walk_9 rfl rfl (fun hc2 => ?_) (fun hc2 => ?_)
    · rw [if_pos hc2] at h
      exact fX10_walk_65_ok (o2 := some (.int l2)) (o3 := some (.int l3)) hd ha0 ha1 rfl rfl h
    · rw [if_neg hc2] at h
      refine fx_iload_n dX10_walk_12 rfl rfl ?_
      refine fx_aload_n dX10_walk_13 rfl rfl ?_
      refine gx_getr dX10_walk_14 rfl fd_10_18 ha0.1 rfl rfl ?_
      refine gx_alen (t := 1) (y := 10) dX10_walk_17 rfl ha0.2.2.2.1 rfl (by decide) ?_
      refine fx_icmp_ge (t := 65) dX10_walk_18 rfl rfl (fun hc3 => ?_) (fun hc3 => ?_)
      · rw [if_pos hc3] at h
        exact fX10_walk_65_ok (o2 := some (.int l2)) (o3 := some (.int l3)) hd ha0 ha1 rfl rfl h
      · rw [if_neg hc3] at h
        refine fx_aload_n dX10_walk_21 rfl rfl ?_
        refine gx_getr dX10_walk_22 rfl fd_10_18 ha0.1 rfl rfl ?_
        refine fx_iload_n dX10_walk_25 rfl rfl ?_
        obtain ⟨hj5, h⟩ := xChk_el h
        obtain ⟨x4, hx4, h⟩ := xLet_el h
        refine gx_iaload dX10_walk_26 rfl ha0.2.2.2.1 hj5 hx4 ?_
        refine fx_if_ne (t := 52) dX10_walk_27 rfl rfl (fun hc6 => ?_) (fun hc6 => ?_)
        · rw [if_pos hc6] at h
          refine fx_aload_n dX10_walk_52 rfl rfl ?_
          refine gx_getr dX10_walk_53 rfl fd_10_21 ha0.1 rfl rfl ?_
          refine fx_iload_n dX10_walk_56 rfl rfl ?_
          obtain ⟨hj8, h⟩ := xChk_el h
          obtain ⟨x7, hx7, h⟩ := xLet_el h
          refine gx_iaload dX10_walk_57 rfl ha0.2.2.2.2.1 hj8 hx7 ?_
          refine fx_istore_n (ls2 := [some (.ref a0), some (.ref a1), some (.int x7), some (.int l3)]) dX10_walk_58 rfl rfl rfl ?_
          obtain ⟨x9, hx9, h⟩ := xLet_el h
          refine fx_iinc (ls2 := [some (.ref a0), some (.ref a1), some (.int x7), some (.int x9)]) dX10_walk_59 rfl rfl rfl hx9 rfl ?_
          refine fx_goto (t := 4) dX10_walk_62 rfl rfl ?_
          exact ih x7 x9 m r h
        · rw [if_neg hc6] at h
          refine fx_iconst (x := 0) dX10_walk_30 rfl (by decide) ?_
          refine fx_bipush (x := 10) dX10_walk_31 rfl (by decide) ?_
          refine fx_aload_n dX10_walk_33 rfl rfl ?_
          refine fx_iload_n dX10_walk_34 rfl rfl ?_
          refine fx_aload_n dX10_walk_35 rfl rfl ?_
          refine gx_getr dX10_walk_36 rfl fd_10_21 ha0.1 rfl rfl ?_
          refine fx_iload_n dX10_walk_39 rfl rfl ?_
          obtain ⟨hj11, h⟩ := xChk_el h
          obtain ⟨x10, hx10, h⟩ := xLet_el h
          refine gx_iaload dX10_walk_40 rfl ha0.2.2.2.2.1 hj11 hx10 ?_
          refine fx_aload_n dX10_walk_41 rfl rfl ?_
          obtain ⟨p12, ep12, h⟩ := xBind_el h
          refine gx_callv (as := [.int l2, .int x10, .ref a1]) (r := [.int (10 : Int32), .int (0 : Int32)]) rfl dX10_walk_42 ca_10_34 rfl me_127 rfl rfl rfl rfl (ha0.1) rfl (fX10_worth_ok (d := d) (by omega) ha0 ha1 ep12) rfl rfl ?_
          obtain ⟨x13, hx13, h⟩ := xLet_el h
          refine fx_imin dX10_walk_45 rfl ca_10_38 rfl hx13 ?_
          obtain ⟨x14, hx14, h⟩ := xLet_el h
          refine fx_imax dX10_walk_48 rfl ca_10_44 rfl hx14 ?_
          cases h
          exact fx_ireturn dX10_walk_51 rfl rfl
def fX10_walk_0 (a0 : Nat) (a1 : Nat) (m : xMem) : Option (Int32 × xMem) := fX10_walk_4 a0 a1 xFuel (0 : Int32) (0 : Int32) m
set_option maxRecDepth 4000 in
theorem fX10_walk_0_ok {a0 : Nat} {a1 : Nat} {d : Nat} (hd : 2 ≤ d) (ha0 : isText a0) (ha1 : isNames a1) {o2 : Option Value} {o3 : Option Value} {m : xMem} {r : (Int32 × xMem)} (q2 : xNoD o2 = true) (q3 : xNoD o3 = true) (h : fX10_walk_0 a0 a1 m = some r) : xFx hh_149 cX10_walk d 0 [some (.ref a0), some (.ref a1), o2, o3] [] (xLay m) 0 0 (some (.int r.1)) (xLay r.2) := by
  unfold fX10_walk_0 at h
  refine fx_iconst (x := 0) dX10_walk_0 rfl (by decide) ?_
  refine fx_istore_n (ls2 := [some (.ref a0), some (.ref a1), some (.int (0 : Int32)), o3]) dX10_walk_1 rfl rfl rfl ?_
  refine fx_iconst (x := 0) dX10_walk_2 rfl (by decide) ?_
  refine fx_istore_n (ls2 := [some (.ref a0), some (.ref a1), some (.int (0 : Int32)), some (.int (0 : Int32))]) dX10_walk_3 rfl rfl rfl ?_
  exact fX10_walk_4_ok hd ha0 ha1 xFuel (0 : Int32) (0 : Int32) m r h
def fX10_walk (a0 : Nat) (a1 : Nat) (m : xMem) : Option (Int32 × xMem) := fX10_walk_0 a0 a1  m
theorem fX10_walk_ok {a0 : Nat} {a1 : Nat} {m : xMem} {r : (Int32 × xMem)} {d : Nat} (hd : 3 ≤ d) (ha0 : isText a0) (ha1 : isNames a1) (h : fX10_walk a0 a1 m = some r) : xEx d 149 [.ref a0, .ref a1] (xLay m) (some (.int r.1)) (xLay r.2) := by
  obtain ⟨d, rfl⟩ : ∃ q, d = q + 1 := ⟨d - 1, by omega⟩
  exact xEx_of me_149 rfl (fX10_walk_0_ok (d := d) (o2 := none) (o3 := none) (by omega) ha0 ha1 rfl rfl h)
def fX6_walkOf_25 (a0 : Nat) (a1 : Nat) (a2 : Nat) (a3 : Nat) (m : xMem) : Option (Int32 × xMem) := some ((0 : Int32), m)
set_option maxRecDepth 4000 in
theorem fX6_walkOf_25_ok {a0 : Nat} {a1 : Nat} {a2 : Nat} {a3 : Nat} {d : Nat} (hd : 3 ≤ d) (ha0 : isMover a0) (ha1 : isStation a1) (ha2 : isText a2) (ha3 : isLink a3) {m : xMem} {r : (Int32 × xMem)} (h : fX6_walkOf_25 a0 a1 a2 a3 m = some r) : xFx hh_148 cX6_walkOf d 25 [some (.ref a0), some (.ref a1), some (.ref a2), some (.ref a3)] [] (xLay m) 0 0 (some (.int r.1)) (xLay r.2) := by
  unfold fX6_walkOf_25 at h
  refine fx_iconst (x := 0) dX6_walkOf_25 rfl (by decide) ?_
  cases h
  exact fx_ireturn dX6_walkOf_26 rfl rfl
def fX6_walkOf_0 (a0 : Nat) (a1 : Nat) (a2 : Nat) (a3 : Nat) (m : xMem) : Option (Int32 × xMem) := xLet (m.1 a3 1) fun x1 => if ¬ x1 = (0 : Int32) then fX6_walkOf_25 a0 a1 a2 a3 m else xLet (m.1 a3 8) fun x3 => if ¬ x3 = (0 : Int32) then fX6_walkOf_25 a0 a1 a2 a3 m else (fX3_foot a3 m).bind fun p5 => (fX9_hasHall a1 p5.1 p5.2).bind fun p6 => if ¬ p6.1 = (0 : Int32) then xLet (p6.2.1 a1 6) fun x8 => bif xIn (0 : Int32) 8 then xLet (xPut p6.2 (a0 + 4) (0 : Int32).toNatClampNeg x8) fun m9 => xLet (m9.1 a3 4) fun x11 => bif xIn (5 : Int32) 8 then xLet (xPut m9 (a0 + 4) (5 : Int32).toNatClampNeg x11) fun m12 => xLet (m12.1 a3 9) fun x14 => bif xIn (6 : Int32) 8 then xLet (xPut m12 (a0 + 4) (6 : Int32).toNatClampNeg x14) fun m15 => (fX3_foot a3 m15).bind fun p17 => bif xIn p17.1 6 then xLet (a1 + 15 + 3 * p17.1.toNatClampNeg) fun r19 => xLet (p17.2.1 r19 4) fun x20 => bif xIn (7 : Int32) 8 then xLet (xPut p17.2 (a0 + 4) (7 : Int32).toNatClampNeg x20) fun m21 => (fX10_walk a2 (a0 + 4) m21).bind fun p23 => some (p23.1, p23.2) else none else none else none else none else none else fX6_walkOf_25 a0 a1 a2 a3 p6.2
set_option maxRecDepth 4000 in
theorem fX6_walkOf_0_ok {a0 : Nat} {a1 : Nat} {a2 : Nat} {a3 : Nat} {d : Nat} (hd : 3 ≤ d) (ha0 : isMover a0) (ha1 : isStation a1) (ha2 : isText a2) (ha3 : isLink a3) {m : xMem} {r : (Int32 × xMem)} (h : fX6_walkOf_0 a0 a1 a2 a3 m = some r) : xFx hh_148 cX6_walkOf d 0 [some (.ref a0), some (.ref a1), some (.ref a2), some (.ref a3)] [] (xLay m) 0 0 (some (.int r.1)) (xLay r.2) := by
  unfold fX6_walkOf_0 at h
  refine fx_aload_n dX6_walkOf_0 rfl rfl ?_
  obtain ⟨x1, hx1, h⟩ := xLet_el h
  refine gx_get dX6_walkOf_1 rfl fd_6_157 ha3.1 rfl rfl hx1 ?_
  refine fx_if_ne (t := 25) dX6_walkOf_4 rfl rfl (fun hc2 => ?_) (fun hc2 => ?_)
  · rw [if_pos hc2] at h
    exact fX6_walkOf_25_ok hd ha0 ha1 ha2 ha3 h
  · rw [if_neg hc2] at h
    refine fx_aload_n dX6_walkOf_7 rfl rfl ?_
    obtain ⟨x3, hx3, h⟩ := xLet_el h
    refine gx_get dX6_walkOf_8 rfl fd_6_214 ha3.1 rfl rfl hx3 ?_
    refine fx_if_ne (t := 25) dX6_walkOf_11 rfl rfl (fun hc4 => ?_) (fun hc4 => ?_)
    · rw [if_pos hc4] at h
      exact fX6_walkOf_25_ok hd ha0 ha1 ha2 ha3 h
    · rw [if_neg hc4] at h
      refine fx_aload_n dX6_walkOf_14 rfl rfl ?_
      refine fx_aload_n dX6_walkOf_15 rfl rfl ?_
      obtain ⟨p5, ep5, h⟩ := xBind_el h
      refine gx_callv (as := []) (r := [.ref a1]) rfl dX6_walkOf_16 ca_6_217 rfl me_137 rfl rfl rfl rfl (ha3.1) rfl (fX3_foot_ok (d := d) (by omega) ha3 ep5) rfl rfl ?_
      obtain ⟨p6, ep6, h⟩ := xBind_el h
      refine gx_callv (as := [.int p5.1]) (r := []) rfl dX6_walkOf_19 ca_6_69 rfl me_20 rfl rfl rfl rfl (ha1.1) rfl (fX9_hasHall_ok (d := d) (by omega) ha1 ep6) rfl rfl ?_
      refine fx_if_ne (t := 27) dX6_walkOf_22 rfl rfl (fun hc7 => ?_) (fun hc7 => ?_)
      · rw [if_pos hc7] at h
        refine fx_aload_n dX6_walkOf_27 rfl rfl ?_
        refine gx_getr dX6_walkOf_28 rfl fd_6_20 ha0.1 rfl rfl ?_
        refine fx_iconst (x := 0) dX6_walkOf_31 rfl (by decide) ?_
        refine fx_aload_n dX6_walkOf_32 rfl rfl ?_
        obtain ⟨x8, hx8, h⟩ := xLet_el h
        refine gx_get dX6_walkOf_33 rfl fd_6_47 ha1.1 rfl rfl hx8 ?_
        obtain ⟨hj10, h⟩ := xChk_el h
        obtain ⟨m9, hm9, h⟩ := xLet_el h
        refine gx_iastore dX6_walkOf_36 rfl ha0.2.2 hj10 hm9 ?_
        refine fx_aload_n dX6_walkOf_37 rfl rfl ?_
        refine gx_getr dX6_walkOf_38 rfl fd_6_20 ha0.1 rfl rfl ?_
        refine fx_iconst (x := 5) dX6_walkOf_41 rfl (by decide) ?_
        refine fx_aload_n dX6_walkOf_42 rfl rfl ?_
        obtain ⟨x11, hx11, h⟩ := xLet_el h
        refine gx_get dX6_walkOf_43 rfl fd_6_189 ha3.1 rfl rfl hx11 ?_
        obtain ⟨hj13, h⟩ := xChk_el h
        obtain ⟨m12, hm12, h⟩ := xLet_el h
        refine gx_iastore dX6_walkOf_46 rfl ha0.2.2 hj13 hm12 ?_
        refine fx_aload_n dX6_walkOf_47 rfl rfl ?_
        refine gx_getr dX6_walkOf_48 rfl fd_6_20 ha0.1 rfl rfl ?_
        refine fx_bipush (x := 6) dX6_walkOf_51 rfl (by decide) ?_
        refine fx_aload_n dX6_walkOf_53 rfl rfl ?_
        obtain ⟨x14, hx14, h⟩ := xLet_el h
        refine gx_get dX6_walkOf_54 rfl fd_6_148 ha3.1 rfl rfl hx14 ?_
        obtain ⟨hj16, h⟩ := xChk_el h
        obtain ⟨m15, hm15, h⟩ := xLet_el h
        refine gx_iastore dX6_walkOf_57 rfl ha0.2.2 hj16 hm15 ?_
        refine fx_aload_n dX6_walkOf_58 rfl rfl ?_
        refine gx_getr dX6_walkOf_59 rfl fd_6_20 ha0.1 rfl rfl ?_
        refine fx_bipush (x := 7) dX6_walkOf_62 rfl (by decide) ?_
        refine fx_aload_n dX6_walkOf_64 rfl rfl ?_
        refine gx_getr dX6_walkOf_65 rfl fd_6_96 ha1.1 rfl rfl ?_
        refine fx_aload_n dX6_walkOf_68 rfl rfl ?_
        obtain ⟨p17, ep17, h⟩ := xBind_el h
        refine gx_callv (as := []) (r := [.ref (a1 + 1), .int (7 : Int32), .ref (a0 + 4)]) rfl dX6_walkOf_69 ca_6_217 rfl me_137 rfl rfl rfl rfl (ha3.1) rfl (fX3_foot_ok (d := d) (by omega) ha3 ep17) rfl rfl ?_
        obtain ⟨hj18, h⟩ := xChk_el h
        obtain ⟨r19, hr19, h⟩ := xLet_el h
        refine gx_aaload (t := 4) dX6_walkOf_72 rfl ha1.2.1 rfl hj18 ((xRef_at (sl_9_0 a1) hj18).trans (congrArg some hr19)) ?_
        have hpr19 : isHall r19 := by rw [← hr19]; exact ha1.2.2.2.2.2.2.2.1 _ (xIn_lt hj18)
        obtain ⟨x20, hx20, h⟩ := xLet_el h
        refine gx_get dX6_walkOf_73 rfl fd_6_106 hpr19.1 rfl rfl hx20 ?_
        obtain ⟨hj22, h⟩ := xChk_el h
        obtain ⟨m21, hm21, h⟩ := xLet_el h
        refine gx_iastore dX6_walkOf_76 rfl ha0.2.2 hj22 hm21 ?_
        refine fx_aload_n dX6_walkOf_77 rfl rfl ?_
        refine fx_aload_n dX6_walkOf_78 rfl rfl ?_
        refine gx_getr dX6_walkOf_79 rfl fd_6_20 ha0.1 rfl rfl ?_
        obtain ⟨p23, ep23, h⟩ := xBind_el h
        refine gx_callv (as := [.ref (a0 + 4)]) (r := []) rfl dX6_walkOf_82 ca_6_221 rfl me_149 rfl rfl rfl rfl (ha2.1) rfl (fX10_walk_ok (d := d) (by omega) ha2 ha0.2.2 ep23) rfl rfl ?_
        cases h
        exact fx_ireturn dX6_walkOf_85 rfl rfl
      · rw [if_neg hc7] at h
        exact fX6_walkOf_25_ok hd ha0 ha1 ha2 ha3 h
def fX6_walkOf (a0 : Nat) (a1 : Nat) (a2 : Nat) (a3 : Nat) (m : xMem) : Option (Int32 × xMem) := fX6_walkOf_0 a0 a1 a2 a3  m
theorem fX6_walkOf_ok {a0 : Nat} {a1 : Nat} {a2 : Nat} {a3 : Nat} {m : xMem} {r : (Int32 × xMem)} {d : Nat} (hd : 4 ≤ d) (ha0 : isMover a0) (ha1 : isStation a1) (ha2 : isText a2) (ha3 : isLink a3) (h : fX6_walkOf a0 a1 a2 a3 m = some r) : xEx d 148 [.ref a0, .ref a1, .ref a2, .ref a3] (xLay m) (some (.int r.1)) (xLay r.2) := by
  obtain ⟨d, rfl⟩ : ∃ q, d = q + 1 := ⟨d - 1, by omega⟩
  exact xEx_of me_148 rfl (fX6_walkOf_0_ok (d := d) (by omega) ha0 ha1 ha2 ha3 h)
def fX3_who_30 (a0 : Nat) (a1 : Int32) (a2 : Int32) (s0 : Int32) (m : xMem) : Option (Int32 × xMem) := some (s0, m)
set_option maxRecDepth 4000 in
theorem fX3_who_30_ok {a0 : Nat} {a1 : Int32} {a2 : Int32} {d : Nat} (hd : 0 ≤ d) (ha0 : isLink a0) {s0 : Int32} {o3 : Option Value} {m : xMem} {r : (Int32 × xMem)} (q3 : xNoD o3 = true) (h : fX3_who_30 a0 a1 a2 s0 m = some r) : xFx hh_152 cX3_who d 30 [some (.ref a0), some (.int a1), some (.int a2), o3] [.int s0] (xLay m) 0 0 (some (.int r.1)) (xLay r.2) := by
  unfold fX3_who_30 at h
  cases h
  exact fx_ireturn dX3_who_30 rfl rfl
def fX3_who_29 (a0 : Nat) (a1 : Int32) (a2 : Int32) (m : xMem) : Option (Int32 × xMem) := fX3_who_30 a0 a1 a2 (-1 : Int32) m
set_option maxRecDepth 4000 in
theorem fX3_who_29_ok {a0 : Nat} {a1 : Int32} {a2 : Int32} {d : Nat} (hd : 0 ≤ d) (ha0 : isLink a0) {o3 : Option Value} {m : xMem} {r : (Int32 × xMem)} (q3 : xNoD o3 = true) (h : fX3_who_29 a0 a1 a2 m = some r) : xFx hh_152 cX3_who d 29 [some (.ref a0), some (.int a1), some (.int a2), o3] [] (xLay m) 0 0 (some (.int r.1)) (xLay r.2) := by
  unfold fX3_who_29 at h
  refine fx_iconst (x := -1) dX3_who_29 rfl (by decide) ?_
  exact fX3_who_30_ok (o3 := o3) hd ha0 q3 h
def fX3_who_0 (a0 : Nat) (a1 : Int32) (a2 : Int32) (m : xMem) : Option (Int32 × xMem) := xLet (a1 * (40 : Int32)) fun x1 => xLet (x1 + a2) fun x2 => if x2 < (0 : Int32) then fX3_who_29 a0 a1 a2 m else if (80 : Int32) ≤ x2 then fX3_who_29 a0 a1 a2 m else bif xIn x2 80 then xLet (m.1 (a0 + 1) x2.toNatClampNeg) fun x5 => fX3_who_30 a0 a1 a2 x5 m else none
set_option maxRecDepth 4000 in
theorem fX3_who_0_ok {a0 : Nat} {a1 : Int32} {a2 : Int32} {d : Nat} (hd : 0 ≤ d) (ha0 : isLink a0) {o3 : Option Value} {m : xMem} {r : (Int32 × xMem)} (q3 : xNoD o3 = true) (h : fX3_who_0 a0 a1 a2 m = some r) : xFx hh_152 cX3_who d 0 [some (.ref a0), some (.int a1), some (.int a2), o3] [] (xLay m) 0 0 (some (.int r.1)) (xLay r.2) := by
  unfold fX3_who_0 at h
  refine fx_iload_n dX3_who_0 rfl rfl ?_
  refine fx_bipush (x := 40) dX3_who_1 rfl (by decide) ?_
  obtain ⟨x1, hx1, h⟩ := xLet_el h
  refine fx_imul dX3_who_3 rfl hx1 ?_
  refine fx_iload_n dX3_who_4 rfl rfl ?_
  obtain ⟨x2, hx2, h⟩ := xLet_el h
  refine fx_iadd dX3_who_5 rfl hx2 ?_
  refine fx_istore_n (ls2 := [some (.ref a0), some (.int a1), some (.int a2), some (.int x2)]) dX3_who_6 rfl rfl rfl ?_
  refine fx_iload_n dX3_who_7 rfl rfl ?_
  refine fx_if_lt (t := 29) dX3_who_8 rfl rfl (fun hc3 => ?_) (fun hc3 => ?_)
  · rw [if_pos hc3] at h
    exact fX3_who_29_ok (o3 := some (.int x2)) hd ha0 rfl h
  · rw [if_neg hc3] at h
    refine fx_iload_n dX3_who_11 rfl rfl ?_
    refine fx_aload_n dX3_who_12 rfl rfl ?_
    refine gx_getr dX3_who_13 rfl fd_3_9 ha0.1 rfl rfl ?_
    refine gx_alen (t := 1) (y := 80) dX3_who_16 rfl ha0.2 rfl (by decide) ?_
    refine fx_icmp_ge (t := 29) dX3_who_17 rfl rfl (fun hc4 => ?_) (fun hc4 => ?_)
    · rw [if_pos hc4] at h
      exact fX3_who_29_ok (o3 := some (.int x2)) hd ha0 rfl h
    · rw [if_neg hc4] at h
      refine fx_aload_n dX3_who_20 rfl rfl ?_
      refine gx_getr dX3_who_21 rfl fd_3_9 ha0.1 rfl rfl ?_
      refine fx_iload_n dX3_who_24 rfl rfl ?_
      obtain ⟨hj6, h⟩ := xChk_el h
      obtain ⟨x5, hx5, h⟩ := xLet_el h
      refine gx_iaload dX3_who_25 rfl ha0.2 hj6 hx5 ?_
      refine fx_goto (t := 30) dX3_who_26 rfl rfl ?_
      exact fX3_who_30_ok (o3 := some (.int x2)) hd ha0 rfl h
def fX3_who (a0 : Nat) (a1 : Int32) (a2 : Int32) (m : xMem) : Option (Int32 × xMem) := fX3_who_0 a0 a1 a2  m
theorem fX3_who_ok {a0 : Nat} {a1 : Int32} {a2 : Int32} {m : xMem} {r : (Int32 × xMem)} {d : Nat} (hd : 1 ≤ d) (ha0 : isLink a0) (h : fX3_who a0 a1 a2 m = some r) : xEx d 152 [.ref a0, .int a1, .int a2] (xLay m) (some (.int r.1)) (xLay r.2) := by
  obtain ⟨d, rfl⟩ : ∃ q, d = q + 1 := ⟨d - 1, by omega⟩
  exact xEx_of me_152 rfl (fX3_who_0_ok (d := d) (o3 := none) (by omega) ha0 rfl h)
def fX3_put_31 (a0 : Nat) (a1 : Int32) (a2 : Int32) (a3 : Int32) (m : xMem) : Option xMem := some m
set_option maxRecDepth 4000 in
theorem fX3_put_31_ok {a0 : Nat} {a1 : Int32} {a2 : Int32} {a3 : Int32} {d : Nat} (hd : 0 ≤ d) (ha0 : isLink a0) {o4 : Option Value} {m : xMem} {r : xMem} (q4 : xNoD o4 = true) (h : fX3_put_31 a0 a1 a2 a3 m = some r) : xFx hh_154 cX3_put d 31 [some (.ref a0), some (.int a1), some (.int a2), some (.int a3), o4] [] (xLay m) 0 0 none (xLay r) := by
  unfold fX3_put_31 at h
  cases h
  exact fx_return dX3_put_31 rfl rfl
def fX3_put_0 (a0 : Nat) (a1 : Int32) (a2 : Int32) (a3 : Int32) (m : xMem) : Option xMem := xLet (a1 * (40 : Int32)) fun x1 => xLet (x1 + a2) fun x2 => if x2 < (0 : Int32) then fX3_put_31 a0 a1 a2 a3 m else if (80 : Int32) ≤ x2 then fX3_put_31 a0 a1 a2 a3 m else bif xIn x2 80 then xLet (xPut m (a0 + 1) x2.toNatClampNeg a3) fun m5 => fX3_put_31 a0 a1 a2 a3 m5 else none
set_option maxRecDepth 4000 in
theorem fX3_put_0_ok {a0 : Nat} {a1 : Int32} {a2 : Int32} {a3 : Int32} {d : Nat} (hd : 0 ≤ d) (ha0 : isLink a0) {o4 : Option Value} {m : xMem} {r : xMem} (q4 : xNoD o4 = true) (h : fX3_put_0 a0 a1 a2 a3 m = some r) : xFx hh_154 cX3_put d 0 [some (.ref a0), some (.int a1), some (.int a2), some (.int a3), o4] [] (xLay m) 0 0 none (xLay r) := by
  unfold fX3_put_0 at h
  refine fx_iload_n dX3_put_0 rfl rfl ?_
  refine fx_bipush (x := 40) dX3_put_1 rfl (by decide) ?_
  obtain ⟨x1, hx1, h⟩ := xLet_el h
  refine fx_imul dX3_put_3 rfl hx1 ?_
  refine fx_iload_n dX3_put_4 rfl rfl ?_
  obtain ⟨x2, hx2, h⟩ := xLet_el h
  refine fx_iadd dX3_put_5 rfl hx2 ?_
  refine fx_istore (ls2 := [some (.ref a0), some (.int a1), some (.int a2), some (.int a3), some (.int x2)]) dX3_put_6 rfl rfl rfl ?_
  refine fx_iload dX3_put_8 rfl rfl ?_
  refine fx_if_lt (t := 31) dX3_put_10 rfl rfl (fun hc3 => ?_) (fun hc3 => ?_)
  · rw [if_pos hc3] at h
    exact fX3_put_31_ok (o4 := some (.int x2)) hd ha0 rfl h
  · rw [if_neg hc3] at h
    refine fx_iload dX3_put_13 rfl rfl ?_
    refine fx_aload_n dX3_put_15 rfl rfl ?_
    refine gx_getr dX3_put_16 rfl fd_3_9 ha0.1 rfl rfl ?_
    refine gx_alen (t := 1) (y := 80) dX3_put_19 rfl ha0.2 rfl (by decide) ?_
    refine fx_icmp_ge (t := 31) dX3_put_20 rfl rfl (fun hc4 => ?_) (fun hc4 => ?_)
    · rw [if_pos hc4] at h
      exact fX3_put_31_ok (o4 := some (.int x2)) hd ha0 rfl h
    · rw [if_neg hc4] at h
      refine fx_aload_n dX3_put_23 rfl rfl ?_
      refine gx_getr dX3_put_24 rfl fd_3_9 ha0.1 rfl rfl ?_
      refine fx_iload dX3_put_27 rfl rfl ?_
      refine fx_iload_n dX3_put_29 rfl rfl ?_
      obtain ⟨hj6, h⟩ := xChk_el h
      obtain ⟨m5, hm5, h⟩ := xLet_el h
      refine gx_iastore dX3_put_30 rfl ha0.2 hj6 hm5 ?_
      exact fX3_put_31_ok (o4 := some (.int x2)) hd ha0 rfl h
def fX3_put (a0 : Nat) (a1 : Int32) (a2 : Int32) (a3 : Int32) (m : xMem) : Option xMem := fX3_put_0 a0 a1 a2 a3  m
theorem fX3_put_ok {a0 : Nat} {a1 : Int32} {a2 : Int32} {a3 : Int32} {m : xMem} {r : xMem} {d : Nat} (hd : 1 ≤ d) (ha0 : isLink a0) (h : fX3_put a0 a1 a2 a3 m = some r) : xEx d 154 [.ref a0, .int a1, .int a2, .int a3] (xLay m) none (xLay r) := by
  obtain ⟨d, rfl⟩ : ∃ q, d = q + 1 := ⟨d - 1, by omega⟩
  exact xEx_of me_154 rfl (fX3_put_0_ok (d := d) (o4 := none) (by omega) ha0 rfl h)
def fX3_head_19 (a0 : Nat) (s0 : Int32) (m : xMem) : Option (Int32 × xMem) := some (s0, m)
set_option maxRecDepth 4000 in
theorem fX3_head_19_ok {a0 : Nat} {d : Nat} (hd : 0 ≤ d) (ha0 : isLink a0) {s0 : Int32} {m : xMem} {r : (Int32 × xMem)} (h : fX3_head_19 a0 s0 m = some r) : xFx hh_156 cX3_head d 19 [some (.ref a0)] [.int s0] (xLay m) 0 0 (some (.int r.1)) (xLay r.2) := by
  unfold fX3_head_19 at h
  cases h
  exact fx_ireturn dX3_head_19 rfl rfl
def fX3_head_0 (a0 : Nat) (m : xMem) : Option (Int32 × xMem) := xLet (m.1 a0 6) fun x1 => if ¬ x1 = (2 : Int32) then xLet (m.1 a0 3) fun x3 => fX3_head_19 a0 x3 m else xLet (m.1 a0 2) fun x4 => fX3_head_19 a0 x4 m
set_option maxRecDepth 4000 in
theorem fX3_head_0_ok {a0 : Nat} {d : Nat} (hd : 0 ≤ d) (ha0 : isLink a0) {m : xMem} {r : (Int32 × xMem)} (h : fX3_head_0 a0 m = some r) : xFx hh_156 cX3_head d 0 [some (.ref a0)] [] (xLay m) 0 0 (some (.int r.1)) (xLay r.2) := by
  unfold fX3_head_0 at h
  refine fx_aload_n dX3_head_0 rfl rfl ?_
  obtain ⟨x1, hx1, h⟩ := xLet_el h
  refine gx_get dX3_head_1 rfl fd_3_31 ha0.1 rfl rfl hx1 ?_
  refine fx_iconst (x := 2) dX3_head_4 rfl (by decide) ?_
  refine fx_icmp_ne (t := 15) dX3_head_5 rfl rfl (fun hc2 => ?_) (fun hc2 => ?_)
  · rw [if_pos hc2] at h
    refine fx_aload_n dX3_head_15 rfl rfl ?_
    obtain ⟨x3, hx3, h⟩ := xLet_el h
    refine gx_get dX3_head_16 rfl fd_3_22 ha0.1 rfl rfl hx3 ?_
    exact fX3_head_19_ok hd ha0 h
  · rw [if_neg hc2] at h
    refine fx_aload_n dX3_head_8 rfl rfl ?_
    obtain ⟨x4, hx4, h⟩ := xLet_el h
    refine gx_get dX3_head_9 rfl fd_3_19 ha0.1 rfl rfl hx4 ?_
    refine fx_goto (t := 19) dX3_head_12 rfl rfl ?_
    exact fX3_head_19_ok hd ha0 h
def fX3_head (a0 : Nat) (m : xMem) : Option (Int32 × xMem) := fX3_head_0 a0  m
theorem fX3_head_ok {a0 : Nat} {m : xMem} {r : (Int32 × xMem)} {d : Nat} (hd : 1 ≤ d) (ha0 : isLink a0) (h : fX3_head a0 m = some r) : xEx d 156 [.ref a0] (xLay m) (some (.int r.1)) (xLay r.2) := by
  obtain ⟨d, rfl⟩ : ∃ q, d = q + 1 := ⟨d - 1, by omega⟩
  exact xEx_of me_156 rfl (fX3_head_0_ok (d := d) (by omega) ha0 h)
def fX6_stepOff_0 (a0 : Nat) (a1 : Nat) (a2 : Nat) (a3 : Int32) (m : xMem) : Option (Int32 × xMem) := xLet (m.1 a2 4) fun x1 => xLet (x1 - (1 : Int32)) fun x2 => (fX3_who a2 a3 x2 m).bind fun p3 => if ¬ p3.1 = (-1 : Int32) then xLet (xRem p3.1 (10 : Int32)) fun x5 => (fX3_head a2 p3.2).bind fun p6 => (fX9_admits a1 p6.1 x5 p6.2).bind fun p7 => if ¬ p7.1 = (0 : Int32) then (fX3_put a2 a3 x2 (-1 : Int32) p7.2).bind fun p9 => xLet (p9.1 a2 9) fun x10 => xLet (x10 - (1 : Int32)) fun x11 => xLet (xPut p9 a2 9 x11) fun m12 => xLet (m12.1 a2 11) fun x13 => xLet (x13 + (1 : Int32)) fun x14 => xLet (xPut m12 a2 11 x14) fun m15 => (fX3_head a2 m15).bind fun p16 => (fX9_comeTo a1 p16.1 x5 (0 : Int32) (1 : Int32) p16.2).bind fun p17 => some ((1 : Int32), p17) else some ((0 : Int32), p7.2) else some ((1 : Int32), p3.2)
set_option maxRecDepth 4000 in
theorem fX6_stepOff_0_ok {a0 : Nat} {a1 : Nat} {a2 : Nat} {a3 : Int32} {d : Nat} (hd : 2 ≤ d) (ha0 : isMover a0) (ha1 : isStation a1) (ha2 : isLink a2) {o4 : Option Value} {o5 : Option Value} {o6 : Option Value} {m : xMem} {r : (Int32 × xMem)} (q4 : xNoD o4 = true) (q5 : xNoD o5 = true) (q6 : xNoD o6 = true) (h : fX6_stepOff_0 a0 a1 a2 a3 m = some r) : xFx hh_155 cX6_stepOff d 0 [some (.ref a0), some (.ref a1), some (.ref a2), some (.int a3), o4, o5, o6] [] (xLay m) 0 0 (some (.int r.1)) (xLay r.2) := by
  unfold fX6_stepOff_0 at h
  refine fx_aload_n dX6_stepOff_0 rfl rfl ?_
  obtain ⟨x1, hx1, h⟩ := xLet_el h
  refine gx_get dX6_stepOff_1 rfl fd_6_189 ha2.1 rfl rfl hx1 ?_
  refine fx_iconst (x := 1) dX6_stepOff_4 rfl (by decide) ?_
  obtain ⟨x2, hx2, h⟩ := xLet_el h
  refine fx_isub dX6_stepOff_5 rfl hx2 ?_
  refine fx_istore (ls2 := [some (.ref a0), some (.ref a1), some (.ref a2), some (.int a3), some (.int x2), o5, o6]) dX6_stepOff_6 rfl rfl rfl ?_
  refine fx_aload_n dX6_stepOff_8 rfl rfl ?_
  refine fx_iload_n dX6_stepOff_9 rfl rfl ?_
  refine fx_iload dX6_stepOff_10 rfl rfl ?_
  obtain ⟨p3, ep3, h⟩ := xBind_el h
  refine gx_callv (as := [.int a3, .int x2]) (r := []) rfl dX6_stepOff_12 ca_6_241 rfl me_152 rfl rfl rfl rfl (ha2.1) rfl (fX3_who_ok (d := d) (by omega) ha2 ep3) rfl rfl ?_
  refine fx_istore (ls2 := [some (.ref a0), some (.ref a1), some (.ref a2), some (.int a3), some (.int x2), some (.int p3.1), o6]) dX6_stepOff_15 rfl rfl rfl ?_
  refine fx_iload dX6_stepOff_17 rfl rfl ?_
  refine fx_iconst (x := -1) dX6_stepOff_19 rfl (by decide) ?_
  refine fx_icmp_ne (t := 25) dX6_stepOff_20 rfl rfl (fun hc4 => ?_) (fun hc4 => ?_)
  · rw [if_pos hc4] at h
    refine fx_iload dX6_stepOff_25 rfl rfl ?_
    refine fx_bipush (x := 10) dX6_stepOff_27 rfl (by decide) ?_
    obtain ⟨x5, hx5, h⟩ := xLet_el h
    refine fx_irem dX6_stepOff_29 rfl (by decide) hx5 ?_
    refine fx_istore (ls2 := [some (.ref a0), some (.ref a1), some (.ref a2), some (.int a3), some (.int x2), some (.int p3.1), some (.int x5)]) dX6_stepOff_30 rfl rfl rfl ?_
    refine fx_aload_n dX6_stepOff_32 rfl rfl ?_
    refine fx_aload_n dX6_stepOff_33 rfl rfl ?_
    obtain ⟨p6, ep6, h⟩ := xBind_el h
    refine gx_callv (as := []) (r := [.ref a1]) rfl dX6_stepOff_34 ca_6_244 rfl me_156 rfl rfl rfl rfl (ha2.1) rfl (fX3_head_ok (d := d) (by omega) ha2 ep6) rfl rfl ?_
    refine fx_iload dX6_stepOff_37 rfl rfl ?_
    obtain ⟨p7, ep7, h⟩ := xBind_el h
    refine gx_callv (as := [.int p6.1, .int x5]) (r := []) rfl dX6_stepOff_39 ca_6_194 rfl me_147 rfl rfl rfl rfl (ha1.1) rfl (fX9_admits_ok (d := d) (by omega) ha1 ep7) rfl rfl ?_
    refine fx_if_ne (t := 47) dX6_stepOff_42 rfl rfl (fun hc8 => ?_) (fun hc8 => ?_)
    · rw [if_pos hc8] at h
      refine fx_aload_n dX6_stepOff_47 rfl rfl ?_
      refine fx_iload_n dX6_stepOff_48 rfl rfl ?_
      refine fx_iload dX6_stepOff_49 rfl rfl ?_
      refine fx_iconst (x := -1) dX6_stepOff_51 rfl (by decide) ?_
      obtain ⟨p9, ep9, h⟩ := xBind_el h
      refine gx_callv (as := [.int a3, .int x2, .int (-1 : Int32)]) (r := []) rfl dX6_stepOff_52 ca_6_247 rfl me_154 rfl rfl rfl rfl (ha2.1) rfl (fX3_put_ok (d := d) (by omega) ha2 ep9) rfl rfl ?_
      refine fx_aload_n dX6_stepOff_55 rfl rfl ?_
      refine fx_dup dX6_stepOff_56 rfl rfl ?_
      obtain ⟨x10, hx10, h⟩ := xLet_el h
      refine gx_get dX6_stepOff_57 rfl fd_6_148 ha2.1 rfl rfl hx10 ?_
      refine fx_iconst (x := 1) dX6_stepOff_60 rfl (by decide) ?_
      obtain ⟨x11, hx11, h⟩ := xLet_el h
      refine fx_isub dX6_stepOff_61 rfl hx11 ?_
      obtain ⟨m12, hm12, h⟩ := xLet_el h
      refine gx_put dX6_stepOff_62 rfl fd_6_148 ha2.1 rfl rfl rfl hm12 ?_
      refine fx_aload_n dX6_stepOff_65 rfl rfl ?_
      refine fx_dup dX6_stepOff_66 rfl rfl ?_
      obtain ⟨x13, hx13, h⟩ := xLet_el h
      refine gx_get dX6_stepOff_67 rfl fd_6_204 ha2.1 rfl rfl hx13 ?_
      refine fx_iconst (x := 1) dX6_stepOff_70 rfl (by decide) ?_
      obtain ⟨x14, hx14, h⟩ := xLet_el h
      refine fx_iadd dX6_stepOff_71 rfl hx14 ?_
      obtain ⟨m15, hm15, h⟩ := xLet_el h
      refine gx_put dX6_stepOff_72 rfl fd_6_204 ha2.1 rfl rfl rfl hm15 ?_
      refine fx_aload_n dX6_stepOff_75 rfl rfl ?_
      refine fx_aload_n dX6_stepOff_76 rfl rfl ?_
      obtain ⟨p16, ep16, h⟩ := xBind_el h
      refine gx_callv (as := []) (r := [.ref a1]) rfl dX6_stepOff_77 ca_6_244 rfl me_156 rfl rfl rfl rfl (ha2.1) rfl (fX3_head_ok (d := d) (by omega) ha2 ep16) rfl rfl ?_
      refine fx_iload dX6_stepOff_80 rfl rfl ?_
      refine fx_iconst (x := 0) dX6_stepOff_82 rfl (by decide) ?_
      refine fx_iconst (x := 1) dX6_stepOff_83 rfl (by decide) ?_
      obtain ⟨p17, ep17, h⟩ := xBind_el h
      refine gx_callv (as := [.int p16.1, .int x5, .int (0 : Int32), .int (1 : Int32)]) (r := []) rfl dX6_stepOff_84 ca_6_85 rfl me_123 rfl rfl rfl rfl (ha1.1) rfl (fX9_comeTo_ok (d := d) (by omega) ha1 ep17) rfl rfl ?_
      refine fx_iconst (x := 1) dX6_stepOff_87 rfl (by decide) ?_
      cases h
      exact fx_ireturn dX6_stepOff_88 rfl rfl
    · rw [if_neg hc8] at h
      refine fx_iconst (x := 0) dX6_stepOff_45 rfl (by decide) ?_
      cases h
      exact fx_ireturn dX6_stepOff_46 rfl rfl
  · rw [if_neg hc4] at h
    refine fx_iconst (x := 1) dX6_stepOff_23 rfl (by decide) ?_
    cases h
    exact fx_ireturn dX6_stepOff_24 rfl rfl
def fX6_stepOff (a0 : Nat) (a1 : Nat) (a2 : Nat) (a3 : Int32) (m : xMem) : Option (Int32 × xMem) := fX6_stepOff_0 a0 a1 a2 a3  m
theorem fX6_stepOff_ok {a0 : Nat} {a1 : Nat} {a2 : Nat} {a3 : Int32} {m : xMem} {r : (Int32 × xMem)} {d : Nat} (hd : 3 ≤ d) (ha0 : isMover a0) (ha1 : isStation a1) (ha2 : isLink a2) (h : fX6_stepOff a0 a1 a2 a3 m = some r) : xEx d 155 [.ref a0, .ref a1, .ref a2, .int a3] (xLay m) (some (.int r.1)) (xLay r.2) := by
  obtain ⟨d, rfl⟩ : ∃ q, d = q + 1 := ⟨d - 1, by omega⟩
  exact xEx_of me_155 rfl (fX6_stepOff_0_ok (d := d) (o4 := none) (o5 := none) (o6 := none) (by omega) ha0 ha1 ha2 rfl rfl rfl h)
def fX3_move_0 (a0 : Nat) (a1 : Int32) (a2 : Int32) (m : xMem) : Option xMem := xLet (a2 + (1 : Int32)) fun x1 => (fX3_who a0 a1 a2 m).bind fun p2 => (fX3_put a0 a1 x1 p2.1 p2.2).bind fun p3 => (fX3_put a0 a1 a2 (-1 : Int32) p3).bind fun p4 => some p4
set_option maxRecDepth 4000 in
theorem fX3_move_0_ok {a0 : Nat} {a1 : Int32} {a2 : Int32} {d : Nat} (hd : 1 ≤ d) (ha0 : isLink a0) {m : xMem} {r : xMem} (h : fX3_move_0 a0 a1 a2 m = some r) : xFx hh_153 cX3_move d 0 [some (.ref a0), some (.int a1), some (.int a2)] [] (xLay m) 0 0 none (xLay r) := by
  unfold fX3_move_0 at h
  refine fx_aload_n dX3_move_0 rfl rfl ?_
  refine fx_iload_n dX3_move_1 rfl rfl ?_
  refine fx_iload_n dX3_move_2 rfl rfl ?_
  refine fx_iconst (x := 1) dX3_move_3 rfl (by decide) ?_
  obtain ⟨x1, hx1, h⟩ := xLet_el h
  refine fx_iadd dX3_move_4 rfl hx1 ?_
  refine fx_aload_n dX3_move_5 rfl rfl ?_
  refine fx_iload_n dX3_move_6 rfl rfl ?_
  refine fx_iload_n dX3_move_7 rfl rfl ?_
  obtain ⟨p2, ep2, h⟩ := xBind_el h
  refine gx_callv (as := [.int a1, .int a2]) (r := [.int x1, .int a1, .ref a0]) rfl dX3_move_8 ca_3_68 rfl me_152 rfl rfl rfl rfl (ha0.1) rfl (fX3_who_ok (d := d) (by omega) ha0 ep2) rfl rfl ?_
  obtain ⟨p3, ep3, h⟩ := xBind_el h
  refine gx_callv (as := [.int a1, .int x1, .int p2.1]) (r := []) rfl dX3_move_11 ca_3_72 rfl me_154 rfl rfl rfl rfl (ha0.1) rfl (fX3_put_ok (d := d) (by omega) ha0 ep3) rfl rfl ?_
  refine fx_aload_n dX3_move_14 rfl rfl ?_
  refine fx_iload_n dX3_move_15 rfl rfl ?_
  refine fx_iload_n dX3_move_16 rfl rfl ?_
  refine fx_iconst (x := -1) dX3_move_17 rfl (by decide) ?_
  obtain ⟨p4, ep4, h⟩ := xBind_el h
  refine gx_callv (as := [.int a1, .int a2, .int (-1 : Int32)]) (r := []) rfl dX3_move_18 ca_3_72 rfl me_154 rfl rfl rfl rfl (ha0.1) rfl (fX3_put_ok (d := d) (by omega) ha0 ep4) rfl rfl ?_
  cases h
  exact fx_return dX3_move_21 rfl rfl
def fX3_move (a0 : Nat) (a1 : Int32) (a2 : Int32) (m : xMem) : Option xMem := fX3_move_0 a0 a1 a2  m
theorem fX3_move_ok {a0 : Nat} {a1 : Int32} {a2 : Int32} {m : xMem} {r : xMem} {d : Nat} (hd : 2 ≤ d) (ha0 : isLink a0) (h : fX3_move a0 a1 a2 m = some r) : xEx d 153 [.ref a0, .int a1, .int a2] (xLay m) none (xLay r) := by
  obtain ⟨d, rfl⟩ : ∃ q, d = q + 1 := ⟨d - 1, by omega⟩
  exact xEx_of me_153 rfl (fX3_move_0_ok (d := d) (by omega) ha0 h)
def fX3_goesOn_32 (a0 : Nat) (a1 : Int32) (a2 : Int32) (s0 : Int32) (m : xMem) : Option (Int32 × xMem) := bif (decide (s0 = 0) || decide (s0 = 1)) then some (s0, m) else none
set_option maxRecDepth 4000 in
theorem fX3_goesOn_32_ok {a0 : Nat} {a1 : Int32} {a2 : Int32} {d : Nat} (hd : 2 ≤ d) (ha0 : isLink a0) {s0 : Int32} {o3 : Option Value} {m : xMem} {r : (Int32 × xMem)} (q3 : xNoD o3 = true) (h : fX3_goesOn_32 a0 a1 a2 s0 m = some r) : xFx hh_151 cX3_goesOn d 32 [some (.ref a0), some (.int a1), some (.int a2), o3] [.int s0] (xLay m) 0 0 (some (.int r.1)) (xLay r.2) := by
  unfold fX3_goesOn_32 at h
  obtain ⟨hb1, h⟩ := xChk_el h
  cases h
  exact fx_ireturn dX3_goesOn_32 rfl (by show ((decide _ || decide _) && _) = true; rw [hb1]; rfl)
def fX3_goesOn_22 (a0 : Nat) (a1 : Int32) (a2 : Int32) (l3 : Int32) (m : xMem) : Option (Int32 × xMem) := if l3 = (-1 : Int32) then fX3_goesOn_32 a0 a1 a2 (0 : Int32) m else fX3_goesOn_32 a0 a1 a2 (1 : Int32) m
set_option maxRecDepth 4000 in
theorem fX3_goesOn_22_ok {a0 : Nat} {a1 : Int32} {a2 : Int32} {d : Nat} (hd : 2 ≤ d) (ha0 : isLink a0) {l3 : Int32} {m : xMem} {r : (Int32 × xMem)} (h : fX3_goesOn_22 a0 a1 a2 l3 m = some r) : xFx hh_151 cX3_goesOn d 22 [some (.ref a0), some (.int a1), some (.int a2), some (.int l3)] [] (xLay m) 0 0 (some (.int r.1)) (xLay r.2) := by
  unfold fX3_goesOn_22 at h
  refine fx_iload_n dX3_goesOn_22 rfl rfl ?_
  refine fx_iconst (x := -1) dX3_goesOn_23 rfl (by decide) ?_
  refine fx_icmp_eq (t := 31) dX3_goesOn_24 rfl rfl (fun hc1 => ?_) (fun hc1 => ?_)
  · rw [if_pos hc1] at h
    refine fx_iconst (x := 0) dX3_goesOn_31 rfl (by decide) ?_
    exact fX3_goesOn_32_ok (o3 := some (.int l3)) hd ha0 rfl h
  · rw [if_neg hc1] at h
    refine fx_iconst (x := 1) dX3_goesOn_27 rfl (by decide) ?_
    refine fx_goto (t := 32) dX3_goesOn_28 rfl rfl ?_
    exact fX3_goesOn_32_ok (o3 := some (.int l3)) hd ha0 rfl h
def fX3_goesOn_92 (a0 : Nat) (a1 : Int32) (a2 : Int32) (s0 : Int32) (m : xMem) : Option (Int32 × xMem) := bif (decide (s0 = 0) || decide (s0 = 1)) then some (s0, m) else none
set_option maxRecDepth 4000 in
theorem fX3_goesOn_92_ok {a0 : Nat} {a1 : Int32} {a2 : Int32} {d : Nat} (hd : 2 ≤ d) (ha0 : isLink a0) {s0 : Int32} {o3 : Option Value} {m : xMem} {r : (Int32 × xMem)} (q3 : xNoD o3 = true) (h : fX3_goesOn_92 a0 a1 a2 s0 m = some r) : xFx hh_151 cX3_goesOn d 92 [some (.ref a0), some (.int a1), some (.int a2), o3] [.int s0] (xLay m) 0 0 (some (.int r.1)) (xLay r.2) := by
  unfold fX3_goesOn_92 at h
  obtain ⟨hb1, h⟩ := xChk_el h
  cases h
  exact fx_ireturn dX3_goesOn_92 rfl (by show ((decide _ || decide _) && _) = true; rw [hb1]; rfl)
def fX3_goesOn_77 (a0 : Nat) (a1 : Int32) (a2 : Int32) (m : xMem) : Option (Int32 × xMem) := xLet (a2 + (2 : Int32)) fun x1 => xLet (m.1 a0 4) fun x2 => if x1 < x2 then fX3_goesOn_92 a0 a1 a2 (0 : Int32) m else fX3_goesOn_92 a0 a1 a2 (1 : Int32) m
set_option maxRecDepth 4000 in
theorem fX3_goesOn_77_ok {a0 : Nat} {a1 : Int32} {a2 : Int32} {d : Nat} (hd : 2 ≤ d) (ha0 : isLink a0) {o3 : Option Value} {m : xMem} {r : (Int32 × xMem)} (q3 : xNoD o3 = true) (h : fX3_goesOn_77 a0 a1 a2 m = some r) : xFx hh_151 cX3_goesOn d 77 [some (.ref a0), some (.int a1), some (.int a2), o3] [] (xLay m) 0 0 (some (.int r.1)) (xLay r.2) := by
  unfold fX3_goesOn_77 at h
  refine fx_iload_n dX3_goesOn_77 rfl rfl ?_
  refine fx_iconst (x := 2) dX3_goesOn_78 rfl (by decide) ?_
  obtain ⟨x1, hx1, h⟩ := xLet_el h
  refine fx_iadd dX3_goesOn_79 rfl hx1 ?_
  refine fx_aload_n dX3_goesOn_80 rfl rfl ?_
  obtain ⟨x2, hx2, h⟩ := xLet_el h
  refine gx_get dX3_goesOn_81 rfl fd_3_25 ha0.1 rfl rfl hx2 ?_
  refine fx_icmp_lt (t := 91) dX3_goesOn_84 rfl rfl (fun hc3 => ?_) (fun hc3 => ?_)
  · rw [if_pos hc3] at h
    refine fx_iconst (x := 0) dX3_goesOn_91 rfl (by decide) ?_
    exact fX3_goesOn_92_ok (o3 := o3) hd ha0 q3 h
  · rw [if_neg hc3] at h
    refine fx_iconst (x := 1) dX3_goesOn_87 rfl (by decide) ?_
    refine fx_goto (t := 92) dX3_goesOn_88 rfl rfl ?_
    exact fX3_goesOn_92_ok (o3 := o3) hd ha0 q3 h
def fX3_goesOn_0 (a0 : Nat) (a1 : Int32) (a2 : Int32) (m : xMem) : Option (Int32 × xMem) := (fX3_who a0 a1 a2 m).bind fun p1 => if p1.1 = (-1 : Int32) then fX3_goesOn_22 a0 a1 a2 p1.1 p1.2 else xLet (p1.2.1 a0 4) fun x3 => xLet (x3 - (1 : Int32)) fun x4 => if a2 < x4 then (fX3_move a0 a1 a2 p1.2).bind fun p6 => if (10 : Int32) ≤ p1.1 then xLet (a2 + (2 : Int32)) fun x8 => xLet (p6.1 a0 4) fun x9 => if x9 ≤ x8 then fX3_goesOn_77 a0 a1 a2 p6 else xLet (a2 + (2 : Int32)) fun x11 => (fX3_who a0 a1 x11 p6).bind fun p12 => if ¬ p12.1 = (-1 : Int32) then fX3_goesOn_77 a0 a1 a2 p12.2 else xLet (a2 + (1 : Int32)) fun x14 => (fX3_move a0 a1 x14 p12.2).bind fun p15 => fX3_goesOn_77 a0 a1 a2 p15 else some ((0 : Int32), p6) else fX3_goesOn_22 a0 a1 a2 p1.1 p1.2
set_option maxRecDepth 4000 in
theorem fX3_goesOn_0_ok {a0 : Nat} {a1 : Int32} {a2 : Int32} {d : Nat} (hd : 2 ≤ d) (ha0 : isLink a0) {o3 : Option Value} {m : xMem} {r : (Int32 × xMem)} (q3 : xNoD o3 = true) (h : fX3_goesOn_0 a0 a1 a2 m = some r) : xFx hh_151 cX3_goesOn d 0 [some (.ref a0), some (.int a1), some (.int a2), o3] [] (xLay m) 0 0 (some (.int r.1)) (xLay r.2) := by
  unfold fX3_goesOn_0 at h
  refine fx_aload_n dX3_goesOn_0 rfl rfl ?_
  refine fx_iload_n dX3_goesOn_1 rfl rfl ?_
  refine fx_iload_n dX3_goesOn_2 rfl rfl ?_
  obtain ⟨p1, ep1, h⟩ := xBind_el h
  refine gx_callv (as := [.int a1, .int a2]) (r := []) rfl dX3_goesOn_3 ca_3_68 rfl me_152 rfl rfl rfl rfl (ha0.1) rfl (fX3_who_ok (d := d) (by omega) ha0 ep1) rfl rfl ?_
  refine fx_istore_n (ls2 := [some (.ref a0), some (.int a1), some (.int a2), some (.int p1.1)]) dX3_goesOn_6 rfl rfl rfl ?_
  refine fx_iload_n dX3_goesOn_7 rfl rfl ?_
  refine fx_iconst (x := -1) dX3_goesOn_8 rfl (by decide) ?_
  refine fx_icmp_eq (t := 22) dX3_goesOn_9 rfl rfl (fun hc2 => ?_) (fun hc2 => ?_)
  · rw [if_pos hc2] at h
    exact fX3_goesOn_22_ok hd ha0 h
  · rw [if_neg hc2] at h
    refine fx_iload_n dX3_goesOn_12 rfl rfl ?_
    refine fx_aload_n dX3_goesOn_13 rfl rfl ?_
    obtain ⟨x3, hx3, h⟩ := xLet_el h
    refine gx_get dX3_goesOn_14 rfl fd_3_25 ha0.1 rfl rfl hx3 ?_
    refine fx_iconst (x := 1) dX3_goesOn_17 rfl (by decide) ?_
    obtain ⟨x4, hx4, h⟩ := xLet_el h
    refine fx_isub dX3_goesOn_18 rfl hx4 ?_
    refine fx_icmp_lt (t := 33) dX3_goesOn_19 rfl rfl (fun hc5 => ?_) (fun hc5 => ?_)
    · rw [if_pos hc5] at h
      refine fx_aload_n dX3_goesOn_33 rfl rfl ?_
      refine fx_iload_n dX3_goesOn_34 rfl rfl ?_
      refine fx_iload_n dX3_goesOn_35 rfl rfl ?_
      obtain ⟨p6, ep6, h⟩ := xBind_el h
      refine gx_callv (as := [.int a1, .int a2]) (r := []) rfl dX3_goesOn_36 ca_3_76 rfl me_153 rfl rfl rfl rfl (ha0.1) rfl (fX3_move_ok (d := d) (by omega) ha0 ep6) rfl rfl ?_
      refine fx_iload_n dX3_goesOn_39 rfl rfl ?_
      refine fx_bipush (x := 10) dX3_goesOn_40 rfl (by decide) ?_
      refine fx_icmp_ge (t := 47) dX3_goesOn_42 rfl rfl (fun hc7 => ?_) (fun hc7 => ?_)
      · rw [if_pos hc7] at h
        refine fx_iload_n dX3_goesOn_47 rfl rfl ?_
        refine fx_iconst (x := 2) dX3_goesOn_48 rfl (by decide) ?_
        obtain ⟨x8, hx8, h⟩ := xLet_el h
        refine fx_iadd dX3_goesOn_49 rfl hx8 ?_
        refine fx_aload_n dX3_goesOn_50 rfl rfl ?_
        obtain ⟨x9, hx9, h⟩ := xLet_el h
        refine gx_get dX3_goesOn_51 rfl fd_3_25 ha0.1 rfl rfl hx9 ?_
        refine fx_icmp_ge (t := 77) dX3_goesOn_54 rfl rfl (fun hc10 => ?_) (fun hc10 => ?_)
        · rw [if_pos hc10] at h
          exact fX3_goesOn_77_ok (o3 := some (.int p1.1)) hd ha0 rfl h
        · rw [if_neg hc10] at h
          refine fx_aload_n dX3_goesOn_57 rfl rfl ?_
          refine fx_iload_n dX3_goesOn_58 rfl rfl ?_
          refine fx_iload_n dX3_goesOn_59 rfl rfl ?_
          refine fx_iconst (x := 2) dX3_goesOn_60 rfl (by decide) ?_
          obtain ⟨x11, hx11, h⟩ := xLet_el h
          refine fx_iadd dX3_goesOn_61 rfl hx11 ?_
          obtain ⟨p12, ep12, h⟩ := xBind_el h
          refine gx_callv (as := [.int a1, .int x11]) (r := []) rfl dX3_goesOn_62 ca_3_68 rfl me_152 rfl rfl rfl rfl (ha0.1) rfl (fX3_who_ok (d := d) (by omega) ha0 ep12) rfl rfl ?_
          refine fx_iconst (x := -1) dX3_goesOn_65 rfl (by decide) ?_
          refine fx_icmp_ne (t := 77) dX3_goesOn_66 rfl rfl (fun hc13 => ?_) (fun hc13 => ?_)
          · rw [if_pos hc13] at h
            exact fX3_goesOn_77_ok (o3 := some (.int p1.1)) hd ha0 rfl h
          · rw [if_neg hc13] at h
            refine fx_aload_n dX3_goesOn_69 rfl rfl ?_
            refine fx_iload_n dX3_goesOn_70 rfl rfl ?_
            refine fx_iload_n dX3_goesOn_71 rfl rfl ?_
            refine fx_iconst (x := 1) dX3_goesOn_72 rfl (by decide) ?_
            obtain ⟨x14, hx14, h⟩ := xLet_el h
            refine fx_iadd dX3_goesOn_73 rfl hx14 ?_
            obtain ⟨p15, ep15, h⟩ := xBind_el h
            refine gx_callv (as := [.int a1, .int x14]) (r := []) rfl dX3_goesOn_74 ca_3_76 rfl me_153 rfl rfl rfl rfl (ha0.1) rfl (fX3_move_ok (d := d) (by omega) ha0 ep15) rfl rfl ?_
            exact fX3_goesOn_77_ok (o3 := some (.int p1.1)) hd ha0 rfl h
      · rw [if_neg hc7] at h
        refine fx_iconst (x := 0) dX3_goesOn_45 rfl (by decide) ?_
        cases h
        exact fx_ireturn dX3_goesOn_46 rfl rfl
    · rw [if_neg hc5] at h
      exact fX3_goesOn_22_ok hd ha0 h
def fX3_goesOn (a0 : Nat) (a1 : Int32) (a2 : Int32) (m : xMem) : Option (Int32 × xMem) := fX3_goesOn_0 a0 a1 a2  m
theorem fX3_goesOn_ok {a0 : Nat} {a1 : Int32} {a2 : Int32} {m : xMem} {r : (Int32 × xMem)} {d : Nat} (hd : 3 ≤ d) (ha0 : isLink a0) (h : fX3_goesOn a0 a1 a2 m = some r) : xEx d 151 [.ref a0, .int a1, .int a2] (xLay m) (some (.int r.1)) (xLay r.2) := by
  obtain ⟨d, rfl⟩ : ∃ q, d = q + 1 := ⟨d - 1, by omega⟩
  exact xEx_of me_151 rfl (fX3_goesOn_0_ok (d := d) (o3 := none) (by omega) ha0 rfl h)
def fX6_moveStair_21 (a0 : Nat) (a1 : Nat) (a2 : Nat) (m : xMem) : Option xMem := some m
set_option maxRecDepth 4000 in
theorem fX6_moveStair_21_ok {a0 : Nat} {a1 : Nat} {a2 : Nat} {d : Nat} (hd : 3 ≤ d) (ha0 : isMover a0) (ha1 : isStation a1) (ha2 : isLink a2) {o3 : Option Value} {o4 : Option Value} {m : xMem} {r : xMem} (q3 : xNoD o3 = true) (q4 : xNoD o4 = true) (h : fX6_moveStair_21 a0 a1 a2 m = some r) : xFx hh_150 cX6_moveStair d 21 [some (.ref a0), some (.ref a1), some (.ref a2), o3, o4] [] (xLay m) 0 0 none (xLay r) := by
  unfold fX6_moveStair_21 at h
  cases h
  exact fx_return dX6_moveStair_21 rfl rfl
def fX6_moveStair_78 (a0 : Nat) (a1 : Nat) (a2 : Nat) (rec24 : Int32 → xMem → Option xMem) (rec37 : Int32 → Int32 → xMem → Option xMem) (l3 : Int32) (l4 : Int32) (m : xMem) : Option xMem := xLet (l4 + (-1 : Int32)) fun x1 => rec37 l3 x1 m
set_option maxRecDepth 4000 in
theorem fX6_moveStair_78_ok {a0 : Nat} {a1 : Nat} {a2 : Nat} {rec24 : Int32 → xMem → Option xMem} {rec37 : Int32 → Int32 → xMem → Option xMem} {d : Nat} (hd : 3 ≤ d) (ha0 : isMover a0) (ha1 : isStation a1) (ha2 : isLink a2) (hrec24 : ∀ (l3 : Int32) (o4 : Option Value) (q4 : xNoD o4 = true) (m : xMem) (r : xMem), rec24 l3 m = some r → xFx hh_150 cX6_moveStair d 24 [some (.ref a0), some (.ref a1), some (.ref a2), some (.int l3), o4] [] (xLay m) 0 0 none (xLay r)) (hrec37 : ∀ (l3 : Int32) (l4 : Int32) (m : xMem) (r : xMem), rec37 l3 l4 m = some r → xFx hh_150 cX6_moveStair d 37 [some (.ref a0), some (.ref a1), some (.ref a2), some (.int l3), some (.int l4)] [] (xLay m) 0 0 none (xLay r)) {l3 : Int32} {l4 : Int32} {m : xMem} {r : xMem} (h : fX6_moveStair_78 a0 a1 a2 rec24 rec37 l3 l4 m = some r) : xFx hh_150 cX6_moveStair d 78 [some (.ref a0), some (.ref a1), some (.ref a2), some (.int l3), some (.int l4)] [] (xLay m) 0 0 none (xLay r) := by
  unfold fX6_moveStair_78 at h
  obtain ⟨x1, hx1, h⟩ := xLet_el h
  refine fx_iinc (ls2 := [some (.ref a0), some (.ref a1), some (.ref a2), some (.int l3), some (.int x1)]) dX6_moveStair_78 rfl rfl rfl hx1 rfl ?_
  refine fx_goto (t := 37) dX6_moveStair_81 rfl rfl ?_
  exact hrec37 l3 x1 m r h
def fX6_moveStair_37 (a0 : Nat) (a1 : Nat) (a2 : Nat) (rec24 : Int32 → xMem → Option xMem) : Nat → Int32 → Int32 → xMem → Option xMem
  | 0, _, _, _ => none
  | fuel + 1, l3, l4, m => if l4 < (0 : Int32) then xLet (l3 + (1 : Int32)) fun x2 => rec24 x2 m else (fX3_goesOn a2 l3 l4 m).bind fun p3 => if p3.1 = (0 : Int32) then fX6_moveStair_78 a0 a1 a2 rec24 (fX6_moveStair_37 a0 a1 a2 rec24 fuel) l3 l4 p3.2 else (fX6_stepOff a0 a1 a2 l3 p3.2).bind fun p5 => if ¬ p5.1 = (0 : Int32) then fX6_moveStair_78 a0 a1 a2 rec24 (fX6_moveStair_37 a0 a1 a2 rec24 fuel) l3 l4 p5.2 else xLet (xPut p5.2 a2 13 (1 : Int32)) fun m7 => xLet (m7.1 a1 15) fun x8 => xLet (x8 + (1 : Int32)) fun x9 => xLet (xPut m7 a1 15 x9) fun m10 => some m10
set_option maxRecDepth 4000 in
theorem fX6_moveStair_37_ok {a0 : Nat} {a1 : Nat} {a2 : Nat} {rec24 : Int32 → xMem → Option xMem} {d : Nat} (hd : 3 ≤ d) (ha0 : isMover a0) (ha1 : isStation a1) (ha2 : isLink a2) (hrec24 : ∀ (l3 : Int32) (o4 : Option Value) (q4 : xNoD o4 = true) (m : xMem) (r : xMem), rec24 l3 m = some r → xFx hh_150 cX6_moveStair d 24 [some (.ref a0), some (.ref a1), some (.ref a2), some (.int l3), o4] [] (xLay m) 0 0 none (xLay r)) : ∀ (fuel : Nat) (l3 : Int32) (l4 : Int32) (m : xMem) (r : xMem), fX6_moveStair_37 a0 a1 a2 rec24 fuel l3 l4 m = some r → xFx hh_150 cX6_moveStair d 37 [some (.ref a0), some (.ref a1), some (.ref a2), some (.int l3), some (.int l4)] [] (xLay m) 0 0 none (xLay r) := by
  intro fuel
  induction fuel with
  | zero => intro l3 l4  m r  h; cases h
  | succ fuel ih =>
    intro l3 l4  m r  h
    unfold fX6_moveStair_37 at h
    refine fx_iload dX6_moveStair_37 rfl rfl ?_
    refine fx_if_lt (t := 84) dX6_moveStair_39 rfl rfl (fun hc1 => ?_) (fun hc1 => ?_)
    · rw [if_pos hc1] at h
      obtain ⟨x2, hx2, h⟩ := xLet_el h
      refine fx_iinc (ls2 := [some (.ref a0), some (.ref a1), some (.ref a2), some (.int x2), some (.int l4)]) dX6_moveStair_84 rfl rfl rfl hx2 rfl ?_
      refine fx_goto (t := 24) dX6_moveStair_87 rfl rfl ?_
      exact hrec24 x2 (some (.int l4)) rfl m r h
    · rw [if_neg hc1] at h
      refine fx_aload_n dX6_moveStair_42 rfl rfl ?_
      refine fx_iload_n dX6_moveStair_43 rfl rfl ?_
      refine fx_iload dX6_moveStair_44 rfl rfl ?_
      obtain ⟨p3, ep3, h⟩ := xBind_el h
      refine gx_callv (as := [.int l3, .int l4]) (r := []) rfl dX6_moveStair_46 ca_6_231 rfl me_151 rfl rfl rfl rfl (ha2.1) rfl (fX3_goesOn_ok (d := d) (by omega) ha2 ep3) rfl rfl ?_
      refine fx_if_eq (t := 78) dX6_moveStair_49 rfl rfl (fun hc4 => ?_) (fun hc4 => ?_)
      · rw [if_pos hc4] at h
        exact fX6_moveStair_78_ok hd ha0 ha1 ha2 hrec24 ih h
      · rw [if_neg hc4] at h
        refine fx_aload_n dX6_moveStair_52 rfl rfl ?_
        refine fx_aload_n dX6_moveStair_53 rfl rfl ?_
        refine fx_aload_n dX6_moveStair_54 rfl rfl ?_
        refine fx_iload_n dX6_moveStair_55 rfl rfl ?_
        obtain ⟨p5, ep5, h⟩ := xBind_el h
        refine gx_callv (as := [.ref a1, .ref a2, .int l3]) (r := []) rfl dX6_moveStair_56 ca_6_234 rfl me_155 rfl rfl rfl rfl (ha0.1) rfl (fX6_stepOff_ok (d := d) (by omega) ha0 ha1 ha2 ep5) rfl rfl ?_
        refine fx_if_ne (t := 78) dX6_moveStair_59 rfl rfl (fun hc6 => ?_) (fun hc6 => ?_)
        · rw [if_pos hc6] at h
          exact fX6_moveStair_78_ok hd ha0 ha1 ha2 hrec24 ih h
        · rw [if_neg hc6] at h
          refine fx_aload_n dX6_moveStair_62 rfl rfl ?_
          refine fx_iconst (x := 1) dX6_moveStair_63 rfl (by decide) ?_
          obtain ⟨m7, hm7, h⟩ := xLet_el h
          refine gx_put dX6_moveStair_64 rfl fd_6_228 ha2.1 rfl rfl rfl hm7 ?_
          refine fx_aload_n dX6_moveStair_67 rfl rfl ?_
          refine fx_dup dX6_moveStair_68 rfl rfl ?_
          obtain ⟨x8, hx8, h⟩ := xLet_el h
          refine gx_get dX6_moveStair_69 rfl fd_6_238 ha1.1 rfl rfl hx8 ?_
          refine fx_iconst (x := 1) dX6_moveStair_72 rfl (by decide) ?_
          obtain ⟨x9, hx9, h⟩ := xLet_el h
          refine fx_iadd dX6_moveStair_73 rfl hx9 ?_
          obtain ⟨m10, hm10, h⟩ := xLet_el h
          refine gx_put dX6_moveStair_74 rfl fd_6_238 ha1.1 rfl rfl rfl hm10 ?_
          cases h
          exact fx_return dX6_moveStair_77 rfl rfl
def fX6_moveStair_24 (a0 : Nat) (a1 : Nat) (a2 : Nat) : Nat → Int32 → xMem → Option xMem
  | 0, _, _ => none
  | fuel + 1, l3, m => if (2 : Int32) ≤ l3 then some m else xLet (m.1 a2 4) fun x2 => xLet (x2 - (1 : Int32)) fun x3 => fX6_moveStair_37 a0 a1 a2 (fX6_moveStair_24 a0 a1 a2 fuel) xFuel l3 x3 m
set_option maxRecDepth 4000 in
theorem fX6_moveStair_24_ok {a0 : Nat} {a1 : Nat} {a2 : Nat} {d : Nat} (hd : 3 ≤ d) (ha0 : isMover a0) (ha1 : isStation a1) (ha2 : isLink a2) : ∀ (fuel : Nat) (l3 : Int32) (o4 : Option Value) (q4 : xNoD o4 = true) (m : xMem) (r : xMem), fX6_moveStair_24 a0 a1 a2 fuel l3 m = some r → xFx hh_150 cX6_moveStair d 24 [some (.ref a0), some (.ref a1), some (.ref a2), some (.int l3), o4] [] (xLay m) 0 0 none (xLay r) := by
  intro fuel
  induction fuel with
  | zero => intro l3 o4 q4 m r  h; cases h
  | succ fuel ih =>
    intro l3 o4 q4 m r  h
    unfold fX6_moveStair_24 at h
    refine fx_iload_n dX6_moveStair_24 rfl rfl ?_
    refine fx_iconst (x := 2) dX6_moveStair_25 rfl (by decide) ?_
    refine fx_icmp_ge (t := 90) dX6_moveStair_26 rfl rfl (fun hc1 => ?_) (fun hc1 => ?_)
    · rw [if_pos hc1] at h
      cases h
      exact fx_return dX6_moveStair_90 rfl rfl
    · rw [if_neg hc1] at h
      refine fx_aload_n dX6_moveStair_29 rfl rfl ?_
      obtain ⟨x2, hx2, h⟩ := xLet_el h
      refine gx_get dX6_moveStair_30 rfl fd_6_189 ha2.1 rfl rfl hx2 ?_
      refine fx_iconst (x := 1) dX6_moveStair_33 rfl (by decide) ?_
      obtain ⟨x3, hx3, h⟩ := xLet_el h
      refine fx_isub dX6_moveStair_34 rfl hx3 ?_
      refine fx_istore (ls2 := [some (.ref a0), some (.ref a1), some (.ref a2), some (.int l3), some (.int x3)]) dX6_moveStair_35 rfl rfl rfl ?_
      exact fX6_moveStair_37_ok hd ha0 ha1 ha2 ih xFuel l3 x3 m r h
def fX6_moveStair_0 (a0 : Nat) (a1 : Nat) (a2 : Nat) (m : xMem) : Option xMem := xLet (m.1 a2 12) fun x1 => if x1 = (0 : Int32) then fX6_moveStair_21 a0 a1 a2 m else xLet (m.1 a2 13) fun x3 => if ¬ x3 = (0 : Int32) then fX6_moveStair_21 a0 a1 a2 m else xLet (m.1 a2 9) fun x5 => if ¬ x5 = (0 : Int32) then fX6_moveStair_24 a0 a1 a2 xFuel (0 : Int32) m else fX6_moveStair_21 a0 a1 a2 m
set_option maxRecDepth 4000 in
theorem fX6_moveStair_0_ok {a0 : Nat} {a1 : Nat} {a2 : Nat} {d : Nat} (hd : 3 ≤ d) (ha0 : isMover a0) (ha1 : isStation a1) (ha2 : isLink a2) {o3 : Option Value} {o4 : Option Value} {m : xMem} {r : xMem} (q3 : xNoD o3 = true) (q4 : xNoD o4 = true) (h : fX6_moveStair_0 a0 a1 a2 m = some r) : xFx hh_150 cX6_moveStair d 0 [some (.ref a0), some (.ref a1), some (.ref a2), o3, o4] [] (xLay m) 0 0 none (xLay r) := by
  unfold fX6_moveStair_0 at h
  refine fx_aload_n dX6_moveStair_0 rfl rfl ?_
  obtain ⟨x1, hx1, h⟩ := xLet_el h
  refine gx_get dX6_moveStair_1 rfl fd_6_225 ha2.1 rfl rfl hx1 ?_
  refine fx_if_eq (t := 21) dX6_moveStair_4 rfl rfl (fun hc2 => ?_) (fun hc2 => ?_)
  · rw [if_pos hc2] at h
    exact fX6_moveStair_21_ok (o3 := o3) (o4 := o4) hd ha0 ha1 ha2 q3 q4 h
  · rw [if_neg hc2] at h
    refine fx_aload_n dX6_moveStair_7 rfl rfl ?_
    obtain ⟨x3, hx3, h⟩ := xLet_el h
    refine gx_get dX6_moveStair_8 rfl fd_6_228 ha2.1 rfl rfl hx3 ?_
    refine fx_if_ne (t := 21) dX6_moveStair_11 rfl rfl (fun hc4 => ?_) (fun hc4 => ?_)
    · rw [if_pos hc4] at h
      exact fX6_moveStair_21_ok (o3 := o3) (o4 := o4) hd ha0 ha1 ha2 q3 q4 h
    · rw [if_neg hc4] at h
      refine fx_aload_n dX6_moveStair_14 rfl rfl ?_
      obtain ⟨x5, hx5, h⟩ := xLet_el h
      refine gx_get dX6_moveStair_15 rfl fd_6_148 ha2.1 rfl rfl hx5 ?_
      refine fx_if_ne (t := 22) dX6_moveStair_18 rfl rfl (fun hc6 => ?_) (fun hc6 => ?_)
      · rw [if_pos hc6] at h
        refine fx_iconst (x := 0) dX6_moveStair_22 rfl (by decide) ?_
        refine fx_istore_n (ls2 := [some (.ref a0), some (.ref a1), some (.ref a2), some (.int (0 : Int32)), o4]) dX6_moveStair_23 rfl rfl rfl ?_
        exact fX6_moveStair_24_ok hd ha0 ha1 ha2 xFuel (0 : Int32) (o4) q4 m r h
      · rw [if_neg hc6] at h
        exact fX6_moveStair_21_ok (o3 := o3) (o4 := o4) hd ha0 ha1 ha2 q3 q4 h
def fX6_moveStair (a0 : Nat) (a1 : Nat) (a2 : Nat) (m : xMem) : Option xMem := fX6_moveStair_0 a0 a1 a2  m
theorem fX6_moveStair_ok {a0 : Nat} {a1 : Nat} {a2 : Nat} {m : xMem} {r : xMem} {d : Nat} (hd : 4 ≤ d) (ha0 : isMover a0) (ha1 : isStation a1) (ha2 : isLink a2) (h : fX6_moveStair a0 a1 a2 m = some r) : xEx d 150 [.ref a0, .ref a1, .ref a2] (xLay m) none (xLay r) := by
  obtain ⟨d, rfl⟩ : ∃ q, d = q + 1 := ⟨d - 1, by omega⟩
  exact xEx_of me_150 rfl (fX6_moveStair_0_ok (d := d) (o3 := none) (o4 := none) (by omega) ha0 ha1 ha2 rfl rfl h)
