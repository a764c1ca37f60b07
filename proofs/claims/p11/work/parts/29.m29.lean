theorem bdX12_mostOf_0 : (decode cX12_mostOf 0 = .ok (.iconst (-1), 1)) ∧ (decode cX12_mostOf 1 = .ok (.istore 4, 2)) ∧ (decode cX12_mostOf 3 = .ok (.iconst 0, 1)) ∧ (decode cX12_mostOf 4 = .ok (.istore 5, 2)) ∧ (decode cX12_mostOf 6 = .ok (.iconst 0, 1)) ∧ (decode cX12_mostOf 7 = .ok (.istore 6, 2)) ∧ (decode cX12_mostOf 9 = .ok (.iload 6, 2)) ∧ (decode cX12_mostOf 11 = .ok (.aload_n 0, 1)) ∧ (decode cX12_mostOf 12 = .ok (.getfield 7, 3)) ∧ (decode cX12_mostOf 15 = .ok (.iconst 1, 1)) ∧ (decode cX12_mostOf 16 = .ok (.iaload, 1)) ∧ (decode cX12_mostOf 17 = .ok (.if_icmp .ge 66, 3)) ∧ (decode cX12_mostOf 20 = .ok (.aload_n 0, 1)) ∧ (decode cX12_mostOf 21 = .ok (.getfield 7, 3)) ∧ (decode cX12_mostOf 24 = .ok (.bipush 50, 2)) ∧ (decode cX12_mostOf 26 = .ok (.bipush 12, 2)) := by decide +kernel
theorem dX12_mostOf_0 : decode cX12_mostOf 0 = .ok (.iconst (-1), 1) := bdX12_mostOf_0.1
theorem dX12_mostOf_1 : decode cX12_mostOf 1 = .ok (.istore 4, 2) := bdX12_mostOf_0.2.1
theorem dX12_mostOf_3 : decode cX12_mostOf 3 = .ok (.iconst 0, 1) := bdX12_mostOf_0.2.2.1
theorem dX12_mostOf_4 : decode cX12_mostOf 4 = .ok (.istore 5, 2) := bdX12_mostOf_0.2.2.2.1
theorem dX12_mostOf_6 : decode cX12_mostOf 6 = .ok (.iconst 0, 1) := bdX12_mostOf_0.2.2.2.2.1
theorem dX12_mostOf_7 : decode cX12_mostOf 7 = .ok (.istore 6, 2) := bdX12_mostOf_0.2.2.2.2.2.1
theorem dX12_mostOf_9 : decode cX12_mostOf 9 = .ok (.iload 6, 2) := bdX12_mostOf_0.2.2.2.2.2.2.1
theorem dX12_mostOf_11 : decode cX12_mostOf 11 = .ok (.aload_n 0, 1) := bdX12_mostOf_0.2.2.2.2.2.2.2.1
theorem dX12_mostOf_12 : decode cX12_mostOf 12 = .ok (.getfield 7, 3) := bdX12_mostOf_0.2.2.2.2.2.2.2.2.1
theorem dX12_mostOf_15 : decode cX12_mostOf 15 = .ok (.iconst 1, 1) := bdX12_mostOf_0.2.2.2.2.2.2.2.2.2.1
theorem dX12_mostOf_16 : decode cX12_mostOf 16 = .ok (.iaload, 1) := bdX12_mostOf_0.2.2.2.2.2.2.2.2.2.2.1
theorem dX12_mostOf_17 : decode cX12_mostOf 17 = .ok (.if_icmp .ge 66, 3) := bdX12_mostOf_0.2.2.2.2.2.2.2.2.2.2.2.1
theorem dX12_mostOf_20 : decode cX12_mostOf 20 = .ok (.aload_n 0, 1) := bdX12_mostOf_0.2.2.2.2.2.2.2.2.2.2.2.2.1
theorem dX12_mostOf_21 : decode cX12_mostOf 21 = .ok (.getfield 7, 3) := bdX12_mostOf_0.2.2.2.2.2.2.2.2.2.2.2.2.2.1
theorem dX12_mostOf_24 : decode cX12_mostOf 24 = .ok (.bipush 50, 2) := bdX12_mostOf_0.2.2.2.2.2.2.2.2.2.2.2.2.2.2.1
theorem dX12_mostOf_26 : decode cX12_mostOf 26 = .ok (.bipush 12, 2) := bdX12_mostOf_0.2.2.2.2.2.2.2.2.2.2.2.2.2.2.2
theorem bdX12_mostOf_28 : (decode cX12_mostOf 28 = .ok (.iload_n 2, 1)) ∧ (decode cX12_mostOf 29 = .ok (.imul, 1)) ∧ (decode cX12_mostOf 30 = .ok (.iadd, 1)) ∧ (decode cX12_mostOf 31 = .ok (.iconst 2, 1)) ∧ (decode cX12_mostOf 32 = .ok (.iload 6, 2)) ∧ (decode cX12_mostOf 34 = .ok (.imul, 1)) ∧ (decode cX12_mostOf 35 = .ok (.iadd, 1)) ∧ (decode cX12_mostOf 36 = .ok (.iload_n 3, 1)) ∧ (decode cX12_mostOf 37 = .ok (.iadd, 1)) ∧ (decode cX12_mostOf 38 = .ok (.iaload, 1)) ∧ (decode cX12_mostOf 39 = .ok (.istore 7, 2)) ∧ (decode cX12_mostOf 41 = .ok (.aload_n 0, 1)) ∧ (decode cX12_mostOf 42 = .ok (.getfield 80, 3)) ∧ (decode cX12_mostOf 45 = .ok (.bipush 36, 2)) ∧ (decode cX12_mostOf 47 = .ok (.iload_n 3, 1)) ∧ (decode cX12_mostOf 48 = .ok (.imul, 1)) := by decide +kernel
theorem dX12_mostOf_28 : decode cX12_mostOf 28 = .ok (.iload_n 2, 1) := bdX12_mostOf_28.1
theorem dX12_mostOf_29 : decode cX12_mostOf 29 = .ok (.imul, 1) := bdX12_mostOf_28.2.1
theorem dX12_mostOf_30 : decode cX12_mostOf 30 = .ok (.iadd, 1) := bdX12_mostOf_28.2.2.1
theorem dX12_mostOf_31 : decode cX12_mostOf 31 = .ok (.iconst 2, 1) := bdX12_mostOf_28.2.2.2.1
theorem dX12_mostOf_32 : decode cX12_mostOf 32 = .ok (.iload 6, 2) := bdX12_mostOf_28.2.2.2.2.1
theorem dX12_mostOf_34 : decode cX12_mostOf 34 = .ok (.imul, 1) := bdX12_mostOf_28.2.2.2.2.2.1
theorem dX12_mostOf_35 : decode cX12_mostOf 35 = .ok (.iadd, 1) := bdX12_mostOf_28.2.2.2.2.2.2.1
theorem dX12_mostOf_36 : decode cX12_mostOf 36 = .ok (.iload_n 3, 1) := bdX12_mostOf_28.2.2.2.2.2.2.2.1
theorem dX12_mostOf_37 : decode cX12_mostOf 37 = .ok (.iadd, 1) := bdX12_mostOf_28.2.2.2.2.2.2.2.2.1
theorem dX12_mostOf_38 : decode cX12_mostOf 38 = .ok (.iaload, 1) := bdX12_mostOf_28.2.2.2.2.2.2.2.2.2.1
theorem dX12_mostOf_39 : decode cX12_mostOf 39 = .ok (.istore 7, 2) := bdX12_mostOf_28.2.2.2.2.2.2.2.2.2.2.1
theorem dX12_mostOf_41 : decode cX12_mostOf 41 = .ok (.aload_n 0, 1) := bdX12_mostOf_28.2.2.2.2.2.2.2.2.2.2.2.1
theorem dX12_mostOf_42 : decode cX12_mostOf 42 = .ok (.getfield 80, 3) := bdX12_mostOf_28.2.2.2.2.2.2.2.2.2.2.2.2.1
theorem dX12_mostOf_45 : decode cX12_mostOf 45 = .ok (.bipush 36, 2) := bdX12_mostOf_28.2.2.2.2.2.2.2.2.2.2.2.2.2.1
theorem dX12_mostOf_47 : decode cX12_mostOf 47 = .ok (.iload_n 3, 1) := bdX12_mostOf_28.2.2.2.2.2.2.2.2.2.2.2.2.2.2.1
theorem dX12_mostOf_48 : decode cX12_mostOf 48 = .ok (.imul, 1) := bdX12_mostOf_28.2.2.2.2.2.2.2.2.2.2.2.2.2.2.2
theorem bdX12_mostOf_49 : (decode cX12_mostOf 49 = .ok (.bipush 6, 2)) ∧ (decode cX12_mostOf 51 = .ok (.iload 6, 2)) ∧ (decode cX12_mostOf 53 = .ok (.imul, 1)) ∧ (decode cX12_mostOf 54 = .ok (.iadd, 1)) ∧ (decode cX12_mostOf 55 = .ok (.iload_n 2, 1)) ∧ (decode cX12_mostOf 56 = .ok (.iadd, 1)) ∧ (decode cX12_mostOf 57 = .ok (.iaload, 1)) ∧ (decode cX12_mostOf 58 = .ok (.iload_n 1, 1)) ∧ (decode cX12_mostOf 59 = .ok (.if_icmp .ne 18, 3)) ∧ (decode cX12_mostOf 62 = .ok (.iload 7, 2)) ∧ (decode cX12_mostOf 64 = .ok (.iload 5, 2)) ∧ (decode cX12_mostOf 66 = .ok (.if_icmp .le 11, 3)) ∧ (decode cX12_mostOf 69 = .ok (.iload 7, 2)) ∧ (decode cX12_mostOf 71 = .ok (.istore 5, 2)) ∧ (decode cX12_mostOf 73 = .ok (.iload 6, 2)) ∧ (decode cX12_mostOf 75 = .ok (.istore 4, 2)) := by decide +kernel
theorem dX12_mostOf_49 : decode cX12_mostOf 49 = .ok (.bipush 6, 2) := bdX12_mostOf_49.1
theorem dX12_mostOf_51 : decode cX12_mostOf 51 = .ok (.iload 6, 2) := bdX12_mostOf_49.2.1
theorem dX12_mostOf_53 : decode cX12_mostOf 53 = .ok (.imul, 1) := bdX12_mostOf_49.2.2.1
theorem dX12_mostOf_54 : decode cX12_mostOf 54 = .ok (.iadd, 1) := bdX12_mostOf_49.2.2.2.1
theorem dX12_mostOf_55 : decode cX12_mostOf 55 = .ok (.iload_n 2, 1) := bdX12_mostOf_49.2.2.2.2.1
theorem dX12_mostOf_56 : decode cX12_mostOf 56 = .ok (.iadd, 1) := bdX12_mostOf_49.2.2.2.2.2.1
theorem dX12_mostOf_57 : decode cX12_mostOf 57 = .ok (.iaload, 1) := bdX12_mostOf_49.2.2.2.2.2.2.1
theorem dX12_mostOf_58 : decode cX12_mostOf 58 = .ok (.iload_n 1, 1) := bdX12_mostOf_49.2.2.2.2.2.2.2.1
theorem dX12_mostOf_59 : decode cX12_mostOf 59 = .ok (.if_icmp .ne 18, 3) := bdX12_mostOf_49.2.2.2.2.2.2.2.2.1
theorem dX12_mostOf_62 : decode cX12_mostOf 62 = .ok (.iload 7, 2) := bdX12_mostOf_49.2.2.2.2.2.2.2.2.2.1
theorem dX12_mostOf_64 : decode cX12_mostOf 64 = .ok (.iload 5, 2) := bdX12_mostOf_49.2.2.2.2.2.2.2.2.2.2.1
theorem dX12_mostOf_66 : decode cX12_mostOf 66 = .ok (.if_icmp .le 11, 3) := bdX12_mostOf_49.2.2.2.2.2.2.2.2.2.2.2.1
theorem dX12_mostOf_69 : decode cX12_mostOf 69 = .ok (.iload 7, 2) := bdX12_mostOf_49.2.2.2.2.2.2.2.2.2.2.2.2.1
theorem dX12_mostOf_71 : decode cX12_mostOf 71 = .ok (.istore 5, 2) := bdX12_mostOf_49.2.2.2.2.2.2.2.2.2.2.2.2.2.1
theorem dX12_mostOf_73 : decode cX12_mostOf 73 = .ok (.iload 6, 2) := bdX12_mostOf_49.2.2.2.2.2.2.2.2.2.2.2.2.2.2.1
theorem dX12_mostOf_75 : decode cX12_mostOf 75 = .ok (.istore 4, 2) := bdX12_mostOf_49.2.2.2.2.2.2.2.2.2.2.2.2.2.2.2
theorem bdX12_mostOf_77 : (decode cX12_mostOf 77 = .ok (.iinc 6 1, 3)) ∧ (decode cX12_mostOf 80 = .ok (.goto (-71), 3)) ∧ (decode cX12_mostOf 83 = .ok (.iload 4, 2)) ∧ (decode cX12_mostOf 85 = .ok (.ireturn, 1)) := by decide +kernel
theorem dX12_mostOf_77 : decode cX12_mostOf 77 = .ok (.iinc 6 1, 3) := bdX12_mostOf_77.1
theorem dX12_mostOf_80 : decode cX12_mostOf 80 = .ok (.goto (-71), 3) := bdX12_mostOf_77.2.1
theorem dX12_mostOf_83 : decode cX12_mostOf 83 = .ok (.iload 4, 2) := bdX12_mostOf_77.2.2.1
theorem dX12_mostOf_85 : decode cX12_mostOf 85 = .ok (.ireturn, 1) := bdX12_mostOf_77.2.2.2
theorem bdX12_sideFor_0 : (decode cX12_sideFor 0 = .ok (.aload_n 0, 1)) ∧ (decode cX12_sideFor 1 = .ok (.iload_n 1, 1)) ∧ (decode cX12_sideFor 2 = .ok (.iconst 0, 1)) ∧ (decode cX12_sideFor 3 = .ok (.invokevirtual 103, 3)) ∧ (decode cX12_sideFor 6 = .ok (.ifCond .ne 45, 3)) ∧ (decode cX12_sideFor 9 = .ok (.aload_n 0, 1)) ∧ (decode cX12_sideFor 10 = .ok (.iload_n 1, 1)) ∧ (decode cX12_sideFor 11 = .ok (.bipush 8, 2)) ∧ (decode cX12_sideFor 13 = .ok (.invokevirtual 103, 3)) ∧ (decode cX12_sideFor 16 = .ok (.ifCond .ne 35, 3)) ∧ (decode cX12_sideFor 19 = .ok (.iload_n 2, 1)) ∧ (decode cX12_sideFor 20 = .ok (.ifCond .eq 7, 3)) ∧ (decode cX12_sideFor 23 = .ok (.iconst 1, 1)) ∧ (decode cX12_sideFor 24 = .ok (.goto 4, 3)) ∧ (decode cX12_sideFor 27 = .ok (.iconst 0, 1)) ∧ (decode cX12_sideFor 28 = .ok (.istore_n 3, 1)) := by decide +kernel
theorem dX12_sideFor_0 : decode cX12_sideFor 0 = .ok (.aload_n 0, 1) := bdX12_sideFor_0.1
theorem dX12_sideFor_1 : decode cX12_sideFor 1 = .ok (.iload_n 1, 1) := bdX12_sideFor_0.2.1
theorem dX12_sideFor_2 : decode cX12_sideFor 2 = .ok (.iconst 0, 1) := bdX12_sideFor_0.2.2.1
theorem dX12_sideFor_3 : decode cX12_sideFor 3 = .ok (.invokevirtual 103, 3) := bdX12_sideFor_0.2.2.2.1
theorem dX12_sideFor_6 : decode cX12_sideFor 6 = .ok (.ifCond .ne 45, 3) := bdX12_sideFor_0.2.2.2.2.1
theorem dX12_sideFor_9 : decode cX12_sideFor 9 = .ok (.aload_n 0, 1) := bdX12_sideFor_0.2.2.2.2.2.1
theorem dX12_sideFor_10 : decode cX12_sideFor 10 = .ok (.iload_n 1, 1) := bdX12_sideFor_0.2.2.2.2.2.2.1
theorem dX12_sideFor_11 : decode cX12_sideFor 11 = .ok (.bipush 8, 2) := bdX12_sideFor_0.2.2.2.2.2.2.2.1
theorem dX12_sideFor_13 : decode cX12_sideFor 13 = .ok (.invokevirtual 103, 3) := bdX12_sideFor_0.2.2.2.2.2.2.2.2.1
theorem dX12_sideFor_16 : decode cX12_sideFor 16 = .ok (.ifCond .ne 35, 3) := bdX12_sideFor_0.2.2.2.2.2.2.2.2.2.1
theorem dX12_sideFor_19 : decode cX12_sideFor 19 = .ok (.iload_n 2, 1) := bdX12_sideFor_0.2.2.2.2.2.2.2.2.2.2.1
theorem dX12_sideFor_20 : decode cX12_sideFor 20 = .ok (.ifCond .eq 7, 3) := bdX12_sideFor_0.2.2.2.2.2.2.2.2.2.2.2.1
theorem dX12_sideFor_23 : decode cX12_sideFor 23 = .ok (.iconst 1, 1) := bdX12_sideFor_0.2.2.2.2.2.2.2.2.2.2.2.2.1
theorem dX12_sideFor_24 : decode cX12_sideFor 24 = .ok (.goto 4, 3) := bdX12_sideFor_0.2.2.2.2.2.2.2.2.2.2.2.2.2.1
theorem dX12_sideFor_27 : decode cX12_sideFor 27 = .ok (.iconst 0, 1) := bdX12_sideFor_0.2.2.2.2.2.2.2.2.2.2.2.2.2.2.1
theorem dX12_sideFor_28 : decode cX12_sideFor 28 = .ok (.istore_n 3, 1) := bdX12_sideFor_0.2.2.2.2.2.2.2.2.2.2.2.2.2.2.2
theorem bdX12_sideFor_29 : (decode cX12_sideFor 29 = .ok (.aload_n 0, 1)) ∧ (decode cX12_sideFor 30 = .ok (.getfield 7, 3)) ∧ (decode cX12_sideFor 33 = .ok (.aload_n 0, 1)) ∧ (decode cX12_sideFor 34 = .ok (.iload_n 1, 1)) ∧ (decode cX12_sideFor 35 = .ok (.iload_n 3, 1)) ∧ (decode cX12_sideFor 36 = .ok (.iconst 0, 1)) ∧ (decode cX12_sideFor 37 = .ok (.invokevirtual 334, 3)) ∧ (decode cX12_sideFor 40 = .ok (.iaload, 1)) ∧ (decode cX12_sideFor 41 = .ok (.iconst (-1), 1)) ∧ (decode cX12_sideFor 42 = .ok (.if_icmp .ne 7, 3)) ∧ (decode cX12_sideFor 45 = .ok (.iload_n 3, 1)) ∧ (decode cX12_sideFor 46 = .ok (.goto 4, 3)) ∧ (decode cX12_sideFor 49 = .ok (.iconst (-1), 1)) ∧ (decode cX12_sideFor 50 = .ok (.ireturn, 1)) ∧ (decode cX12_sideFor 51 = .ok (.aload_n 0, 1)) ∧ (decode cX12_sideFor 52 = .ok (.getfield 7, 3)) := by decide +kernel
theorem dX12_sideFor_29 : decode cX12_sideFor 29 = .ok (.aload_n 0, 1) := bdX12_sideFor_29.1
theorem dX12_sideFor_30 : decode cX12_sideFor 30 = .ok (.getfield 7, 3) := bdX12_sideFor_29.2.1
theorem dX12_sideFor_33 : decode cX12_sideFor 33 = .ok (.aload_n 0, 1) := bdX12_sideFor_29.2.2.1
theorem dX12_sideFor_34 : decode cX12_sideFor 34 = .ok (.iload_n 1, 1) := bdX12_sideFor_29.2.2.2.1
theorem dX12_sideFor_35 : decode cX12_sideFor 35 = .ok (.iload_n 3, 1) := bdX12_sideFor_29.2.2.2.2.1
theorem dX12_sideFor_36 : decode cX12_sideFor 36 = .ok (.iconst 0, 1) := bdX12_sideFor_29.2.2.2.2.2.1
theorem dX12_sideFor_37 : decode cX12_sideFor 37 = .ok (.invokevirtual 334, 3) := bdX12_sideFor_29.2.2.2.2.2.2.1
theorem dX12_sideFor_40 : decode cX12_sideFor 40 = .ok (.iaload, 1) := bdX12_sideFor_29.2.2.2.2.2.2.2.1
theorem dX12_sideFor_41 : decode cX12_sideFor 41 = .ok (.iconst (-1), 1) := bdX12_sideFor_29.2.2.2.2.2.2.2.2.1
theorem dX12_sideFor_42 : decode cX12_sideFor 42 = .ok (.if_icmp .ne 7, 3) := bdX12_sideFor_29.2.2.2.2.2.2.2.2.2.1
theorem dX12_sideFor_45 : decode cX12_sideFor 45 = .ok (.iload_n 3, 1) := bdX12_sideFor_29.2.2.2.2.2.2.2.2.2.2.1
theorem dX12_sideFor_46 : decode cX12_sideFor 46 = .ok (.goto 4, 3) := bdX12_sideFor_29.2.2.2.2.2.2.2.2.2.2.2.1
theorem dX12_sideFor_49 : decode cX12_sideFor 49 = .ok (.iconst (-1), 1) := bdX12_sideFor_29.2.2.2.2.2.2.2.2.2.2.2.2.1
theorem dX12_sideFor_50 : decode cX12_sideFor 50 = .ok (.ireturn, 1) := bdX12_sideFor_29.2.2.2.2.2.2.2.2.2.2.2.2.2.1
theorem dX12_sideFor_51 : decode cX12_sideFor 51 = .ok (.aload_n 0, 1) := bdX12_sideFor_29.2.2.2.2.2.2.2.2.2.2.2.2.2.2.1
theorem dX12_sideFor_52 : decode cX12_sideFor 52 = .ok (.getfield 7, 3) := bdX12_sideFor_29.2.2.2.2.2.2.2.2.2.2.2.2.2.2.2
theorem bdX12_sideFor_55 : (decode cX12_sideFor 55 = .ok (.aload_n 0, 1)) ∧ (decode cX12_sideFor 56 = .ok (.iload_n 1, 1)) ∧ (decode cX12_sideFor 57 = .ok (.iconst 0, 1)) ∧ (decode cX12_sideFor 58 = .ok (.iconst 0, 1)) ∧ (decode cX12_sideFor 59 = .ok (.invokevirtual 334, 3)) ∧ (decode cX12_sideFor 62 = .ok (.iaload, 1)) ∧ (decode cX12_sideFor 63 = .ok (.iconst (-1), 1)) ∧ (decode cX12_sideFor 64 = .ok (.if_icmp .ne 7, 3)) ∧ (decode cX12_sideFor 67 = .ok (.iconst 0, 1)) ∧ (decode cX12_sideFor 68 = .ok (.goto 24, 3)) ∧ (decode cX12_sideFor 71 = .ok (.aload_n 0, 1)) ∧ (decode cX12_sideFor 72 = .ok (.getfield 7, 3)) ∧ (decode cX12_sideFor 75 = .ok (.aload_n 0, 1)) ∧ (decode cX12_sideFor 76 = .ok (.iload_n 1, 1)) ∧ (decode cX12_sideFor 77 = .ok (.iconst 1, 1)) ∧ (decode cX12_sideFor 78 = .ok (.iconst 0, 1)) := by decide +kernel
theorem dX12_sideFor_55 : decode cX12_sideFor 55 = .ok (.aload_n 0, 1) := bdX12_sideFor_55.1
theorem dX12_sideFor_56 : decode cX12_sideFor 56 = .ok (.iload_n 1, 1) := bdX12_sideFor_55.2.1
theorem dX12_sideFor_57 : decode cX12_sideFor 57 = .ok (.iconst 0, 1) := bdX12_sideFor_55.2.2.1
theorem dX12_sideFor_58 : decode cX12_sideFor 58 = .ok (.iconst 0, 1) := bdX12_sideFor_55.2.2.2.1
theorem dX12_sideFor_59 : decode cX12_sideFor 59 = .ok (.invokevirtual 334, 3) := bdX12_sideFor_55.2.2.2.2.1
theorem dX12_sideFor_62 : decode cX12_sideFor 62 = .ok (.iaload, 1) := bdX12_sideFor_55.2.2.2.2.2.1
theorem dX12_sideFor_63 : decode cX12_sideFor 63 = .ok (.iconst (-1), 1) := bdX12_sideFor_55.2.2.2.2.2.2.1
theorem dX12_sideFor_64 : decode cX12_sideFor 64 = .ok (.if_icmp .ne 7, 3) := bdX12_sideFor_55.2.2.2.2.2.2.2.1
theorem dX12_sideFor_67 : decode cX12_sideFor 67 = .ok (.iconst 0, 1) := bdX12_sideFor_55.2.2.2.2.2.2.2.2.1
theorem dX12_sideFor_68 : decode cX12_sideFor 68 = .ok (.goto 24, 3) := bdX12_sideFor_55.2.2.2.2.2.2.2.2.2.1
theorem dX12_sideFor_71 : decode cX12_sideFor 71 = .ok (.aload_n 0, 1) := bdX12_sideFor_55.2.2.2.2.2.2.2.2.2.2.1
theorem dX12_sideFor_72 : decode cX12_sideFor 72 = .ok (.getfield 7, 3) := bdX12_sideFor_55.2.2.2.2.2.2.2.2.2.2.2.1
theorem dX12_sideFor_75 : decode cX12_sideFor 75 = .ok (.aload_n 0, 1) := bdX12_sideFor_55.2.2.2.2.2.2.2.2.2.2.2.2.1
theorem dX12_sideFor_76 : decode cX12_sideFor 76 = .ok (.iload_n 1, 1) := bdX12_sideFor_55.2.2.2.2.2.2.2.2.2.2.2.2.2.1
theorem dX12_sideFor_77 : decode cX12_sideFor 77 = .ok (.iconst 1, 1) := bdX12_sideFor_55.2.2.2.2.2.2.2.2.2.2.2.2.2.2.1
theorem dX12_sideFor_78 : decode cX12_sideFor 78 = .ok (.iconst 0, 1) := bdX12_sideFor_55.2.2.2.2.2.2.2.2.2.2.2.2.2.2.2
theorem bdX12_sideFor_79 : (decode cX12_sideFor 79 = .ok (.invokevirtual 334, 3)) ∧ (decode cX12_sideFor 82 = .ok (.iaload, 1)) ∧ (decode cX12_sideFor 83 = .ok (.iconst (-1), 1)) ∧ (decode cX12_sideFor 84 = .ok (.if_icmp .ne 7, 3)) ∧ (decode cX12_sideFor 87 = .ok (.iconst 1, 1)) ∧ (decode cX12_sideFor 88 = .ok (.goto 4, 3)) ∧ (decode cX12_sideFor 91 = .ok (.iconst (-1), 1)) ∧ (decode cX12_sideFor 92 = .ok (.ireturn, 1)) := by decide +kernel
theorem dX12_sideFor_79 : decode cX12_sideFor 79 = .ok (.invokevirtual 334, 3) := bdX12_sideFor_79.1
theorem dX12_sideFor_82 : decode cX12_sideFor 82 = .ok (.iaload, 1) := bdX12_sideFor_79.2.1
theorem dX12_sideFor_83 : decode cX12_sideFor 83 = .ok (.iconst (-1), 1) := bdX12_sideFor_79.2.2.1
theorem dX12_sideFor_84 : decode cX12_sideFor 84 = .ok (.if_icmp .ne 7, 3) := bdX12_sideFor_79.2.2.2.1
theorem dX12_sideFor_87 : decode cX12_sideFor 87 = .ok (.iconst 1, 1) := bdX12_sideFor_79.2.2.2.2.1
theorem dX12_sideFor_88 : decode cX12_sideFor 88 = .ok (.goto 4, 3) := bdX12_sideFor_79.2.2.2.2.2.1
theorem dX12_sideFor_91 : decode cX12_sideFor 91 = .ok (.iconst (-1), 1) := bdX12_sideFor_79.2.2.2.2.2.2.1
theorem dX12_sideFor_92 : decode cX12_sideFor 92 = .ok (.ireturn, 1) := bdX12_sideFor_79.2.2.2.2.2.2.2
theorem bdX12_takes_0 : (decode cX12_takes 0 = .ok (.aload_n 0, 1)) ∧ (decode cX12_takes 1 = .ok (.iload_n 1, 1)) ∧ (decode cX12_takes 2 = .ok (.invokevirtual 304, 3)) ∧ (decode cX12_takes 5 = .ok (.istore_n 3, 1)) ∧ (decode cX12_takes 6 = .ok (.iconst 0, 1)) ∧ (decode cX12_takes 7 = .ok (.istore 4, 2)) ∧ (decode cX12_takes 9 = .ok (.iload 4, 2)) ∧ (decode cX12_takes 11 = .ok (.iconst 2, 1)) ∧ (decode cX12_takes 12 = .ok (.if_icmp .ge 158, 3)) ∧ (decode cX12_takes 15 = .ok (.aload_n 0, 1)) ∧ (decode cX12_takes 16 = .ok (.iload_n 1, 1)) ∧ (decode cX12_takes 17 = .ok (.iload_n 3, 1)) ∧ (decode cX12_takes 18 = .ok (.iconst 0, 1)) ∧ (decode cX12_takes 19 = .ok (.invokevirtual 328, 3)) ∧ (decode cX12_takes 22 = .ok (.istore 5, 2)) ∧ (decode cX12_takes 24 = .ok (.aload_n 0, 1)) := by decide +kernel
theorem dX12_takes_0 : decode cX12_takes 0 = .ok (.aload_n 0, 1) := bdX12_takes_0.1
theorem dX12_takes_1 : decode cX12_takes 1 = .ok (.iload_n 1, 1) := bdX12_takes_0.2.1
theorem dX12_takes_2 : decode cX12_takes 2 = .ok (.invokevirtual 304, 3) := bdX12_takes_0.2.2.1
theorem dX12_takes_5 : decode cX12_takes 5 = .ok (.istore_n 3, 1) := bdX12_takes_0.2.2.2.1
theorem dX12_takes_6 : decode cX12_takes 6 = .ok (.iconst 0, 1) := bdX12_takes_0.2.2.2.2.1
theorem dX12_takes_7 : decode cX12_takes 7 = .ok (.istore 4, 2) := bdX12_takes_0.2.2.2.2.2.1
theorem dX12_takes_9 : decode cX12_takes 9 = .ok (.iload 4, 2) := bdX12_takes_0.2.2.2.2.2.2.1
theorem dX12_takes_11 : decode cX12_takes 11 = .ok (.iconst 2, 1) := bdX12_takes_0.2.2.2.2.2.2.2.1
theorem dX12_takes_12 : decode cX12_takes 12 = .ok (.if_icmp .ge 158, 3) := bdX12_takes_0.2.2.2.2.2.2.2.2.1
theorem dX12_takes_15 : decode cX12_takes 15 = .ok (.aload_n 0, 1) := bdX12_takes_0.2.2.2.2.2.2.2.2.2.1
theorem dX12_takes_16 : decode cX12_takes 16 = .ok (.iload_n 1, 1) := bdX12_takes_0.2.2.2.2.2.2.2.2.2.2.1
theorem dX12_takes_17 : decode cX12_takes 17 = .ok (.iload_n 3, 1) := bdX12_takes_0.2.2.2.2.2.2.2.2.2.2.2.1
theorem dX12_takes_18 : decode cX12_takes 18 = .ok (.iconst 0, 1) := bdX12_takes_0.2.2.2.2.2.2.2.2.2.2.2.2.1
theorem dX12_takes_19 : decode cX12_takes 19 = .ok (.invokevirtual 328, 3) := bdX12_takes_0.2.2.2.2.2.2.2.2.2.2.2.2.2.1
theorem dX12_takes_22 : decode cX12_takes 22 = .ok (.istore 5, 2) := bdX12_takes_0.2.2.2.2.2.2.2.2.2.2.2.2.2.2.1
theorem dX12_takes_24 : decode cX12_takes 24 = .ok (.aload_n 0, 1) := bdX12_takes_0.2.2.2.2.2.2.2.2.2.2.2.2.2.2.2
theorem bdX12_takes_25 : (decode cX12_takes 25 = .ok (.iload_n 1, 1)) ∧ (decode cX12_takes 26 = .ok (.bipush 10, 2)) ∧ (decode cX12_takes 28 = .ok (.invokevirtual 103, 3)) ∧ (decode cX12_takes 31 = .ok (.istore 6, 2)) ∧ (decode cX12_takes 33 = .ok (.aload_n 0, 1)) ∧ (decode cX12_takes 34 = .ok (.iload_n 1, 1)) ∧ (decode cX12_takes 35 = .ok (.iconst 0, 1)) ∧ (decode cX12_takes 36 = .ok (.invokevirtual 103, 3)) ∧ (decode cX12_takes 39 = .ok (.ifCond .ne 36, 3)) ∧ (decode cX12_takes 42 = .ok (.aload_n 0, 1)) ∧ (decode cX12_takes 43 = .ok (.iload_n 1, 1)) ∧ (decode cX12_takes 44 = .ok (.bipush 8, 2)) ∧ (decode cX12_takes 46 = .ok (.invokevirtual 103, 3)) ∧ (decode cX12_takes 49 = .ok (.ifCond .ne 26, 3)) ∧ (decode cX12_takes 52 = .ok (.iload_n 2, 1)) ∧ (decode cX12_takes 53 = .ok (.iload 6, 2)) := by decide +kernel
theorem dX12_takes_25 : decode cX12_takes 25 = .ok (.iload_n 1, 1) := bdX12_takes_25.1
theorem dX12_takes_26 : decode cX12_takes 26 = .ok (.bipush 10, 2) := bdX12_takes_25.2.1
theorem dX12_takes_28 : decode cX12_takes 28 = .ok (.invokevirtual 103, 3) := bdX12_takes_25.2.2.1
theorem dX12_takes_31 : decode cX12_takes 31 = .ok (.istore 6, 2) := bdX12_takes_25.2.2.2.1
theorem dX12_takes_33 : decode cX12_takes 33 = .ok (.aload_n 0, 1) := bdX12_takes_25.2.2.2.2.1
theorem dX12_takes_34 : decode cX12_takes 34 = .ok (.iload_n 1, 1) := bdX12_takes_25.2.2.2.2.2.1
theorem dX12_takes_35 : decode cX12_takes 35 = .ok (.iconst 0, 1) := bdX12_takes_25.2.2.2.2.2.2.1
theorem dX12_takes_36 : decode cX12_takes 36 = .ok (.invokevirtual 103, 3) := bdX12_takes_25.2.2.2.2.2.2.2.1
theorem dX12_takes_39 : decode cX12_takes 39 = .ok (.ifCond .ne 36, 3) := bdX12_takes_25.2.2.2.2.2.2.2.2.1
theorem dX12_takes_42 : decode cX12_takes 42 = .ok (.aload_n 0, 1) := bdX12_takes_25.2.2.2.2.2.2.2.2.2.1
theorem dX12_takes_43 : decode cX12_takes 43 = .ok (.iload_n 1, 1) := bdX12_takes_25.2.2.2.2.2.2.2.2.2.2.1
theorem dX12_takes_44 : decode cX12_takes 44 = .ok (.bipush 8, 2) := bdX12_takes_25.2.2.2.2.2.2.2.2.2.2.2.1
theorem dX12_takes_46 : decode cX12_takes 46 = .ok (.invokevirtual 103, 3) := bdX12_takes_25.2.2.2.2.2.2.2.2.2.2.2.2.1
theorem dX12_takes_49 : decode cX12_takes 49 = .ok (.ifCond .ne 26, 3) := bdX12_takes_25.2.2.2.2.2.2.2.2.2.2.2.2.2.1
theorem dX12_takes_52 : decode cX12_takes 52 = .ok (.iload_n 2, 1) := bdX12_takes_25.2.2.2.2.2.2.2.2.2.2.2.2.2.2.1
theorem dX12_takes_53 : decode cX12_takes 53 = .ok (.iload 6, 2) := bdX12_takes_25.2.2.2.2.2.2.2.2.2.2.2.2.2.2.2
theorem bdX12_takes_55 : (decode cX12_takes 55 = .ok (.iconst 1, 1)) ∧ (decode cX12_takes 56 = .ok (.iadd, 1)) ∧ (decode cX12_takes 57 = .ok (.imul, 1)) ∧ (decode cX12_takes 58 = .ok (.bipush 10, 2)) ∧ (decode cX12_takes 60 = .ok (.idiv, 1)) ∧ (decode cX12_takes 61 = .ok (.iload_n 2, 1)) ∧ (decode cX12_takes 62 = .ok (.iload 6, 2)) ∧ (decode cX12_takes 64 = .ok (.imul, 1)) ∧ (decode cX12_takes 65 = .ok (.bipush 10, 2)) ∧ (decode cX12_takes 67 = .ok (.idiv, 1)) ∧ (decode cX12_takes 68 = .ok (.if_icmp .le 7, 3)) ∧ (decode cX12_takes 71 = .ok (.iconst 1, 1)) ∧ (decode cX12_takes 72 = .ok (.goto 4, 3)) ∧ (decode cX12_takes 75 = .ok (.iconst 0, 1)) ∧ (decode cX12_takes 76 = .ok (.istore 7, 2)) ∧ (decode cX12_takes 78 = .ok (.iload 5, 2)) := by decide +kernel
theorem dX12_takes_55 : decode cX12_takes 55 = .ok (.iconst 1, 1) := bdX12_takes_55.1
theorem dX12_takes_56 : decode cX12_takes 56 = .ok (.iadd, 1) := bdX12_takes_55.2.1
theorem dX12_takes_57 : decode cX12_takes 57 = .ok (.imul, 1) := bdX12_takes_55.2.2.1
theorem dX12_takes_58 : decode cX12_takes 58 = .ok (.bipush 10, 2) := bdX12_takes_55.2.2.2.1
theorem dX12_takes_60 : decode cX12_takes 60 = .ok (.idiv, 1) := bdX12_takes_55.2.2.2.2.1
theorem dX12_takes_61 : decode cX12_takes 61 = .ok (.iload_n 2, 1) := bdX12_takes_55.2.2.2.2.2.1
theorem dX12_takes_62 : decode cX12_takes 62 = .ok (.iload 6, 2) := bdX12_takes_55.2.2.2.2.2.2.1
theorem dX12_takes_64 : decode cX12_takes 64 = .ok (.imul, 1) := bdX12_takes_55.2.2.2.2.2.2.2.1
theorem dX12_takes_65 : decode cX12_takes 65 = .ok (.bipush 10, 2) := bdX12_takes_55.2.2.2.2.2.2.2.2.1
theorem dX12_takes_67 : decode cX12_takes 67 = .ok (.idiv, 1) := bdX12_takes_55.2.2.2.2.2.2.2.2.2.1
theorem dX12_takes_68 : decode cX12_takes 68 = .ok (.if_icmp .le 7, 3) := bdX12_takes_55.2.2.2.2.2.2.2.2.2.2.1
theorem dX12_takes_71 : decode cX12_takes 71 = .ok (.iconst 1, 1) := bdX12_takes_55.2.2.2.2.2.2.2.2.2.2.2.1
theorem dX12_takes_72 : decode cX12_takes 72 = .ok (.goto 4, 3) := bdX12_takes_55.2.2.2.2.2.2.2.2.2.2.2.2.1
theorem dX12_takes_75 : decode cX12_takes 75 = .ok (.iconst 0, 1) := bdX12_takes_55.2.2.2.2.2.2.2.2.2.2.2.2.2.1
theorem dX12_takes_76 : decode cX12_takes 76 = .ok (.istore 7, 2) := bdX12_takes_55.2.2.2.2.2.2.2.2.2.2.2.2.2.2.1
theorem dX12_takes_78 : decode cX12_takes 78 = .ok (.iload 5, 2) := bdX12_takes_55.2.2.2.2.2.2.2.2.2.2.2.2.2.2.2
theorem bdX12_takes_80 : (decode cX12_takes 80 = .ok (.iconst (-1), 1)) ∧ (decode cX12_takes 81 = .ok (.if_icmp .ne 7, 3)) ∧ (decode cX12_takes 84 = .ok (.iconst (-1), 1)) ∧ (decode cX12_takes 85 = .ok (.goto 10, 3)) ∧ (decode cX12_takes 88 = .ok (.aload_n 0, 1)) ∧ (decode cX12_takes 89 = .ok (.iload_n 1, 1)) ∧ (decode cX12_takes 90 = .ok (.iload 7, 2)) ∧ (decode cX12_takes 92 = .ok (.invokevirtual 340, 3)) ∧ (decode cX12_takes 95 = .ok (.istore 8, 2)) ∧ (decode cX12_takes 97 = .ok (.iload 8, 2)) ∧ (decode cX12_takes 99 = .ok (.iconst (-1), 1)) ∧ (decode cX12_takes 100 = .ok (.if_icmp .ne 4, 3)) ∧ (decode cX12_takes 103 = .ok (.return_, 1)) ∧ (decode cX12_takes 104 = .ok (.aload_n 0, 1)) ∧ (decode cX12_takes 105 = .ok (.getfield 7, 3)) ∧ (decode cX12_takes 108 = .ok (.aload_n 0, 1)) := by decide +kernel
theorem dX12_takes_80 : decode cX12_takes 80 = .ok (.iconst (-1), 1) := bdX12_takes_80.1
theorem dX12_takes_81 : decode cX12_takes 81 = .ok (.if_icmp .ne 7, 3) := bdX12_takes_80.2.1
theorem dX12_takes_84 : decode cX12_takes 84 = .ok (.iconst (-1), 1) := bdX12_takes_80.2.2.1
theorem dX12_takes_85 : decode cX12_takes 85 = .ok (.goto 10, 3) := bdX12_takes_80.2.2.2.1
theorem dX12_takes_88 : decode cX12_takes 88 = .ok (.aload_n 0, 1) := bdX12_takes_80.2.2.2.2.1
theorem dX12_takes_89 : decode cX12_takes 89 = .ok (.iload_n 1, 1) := bdX12_takes_80.2.2.2.2.2.1
theorem dX12_takes_90 : decode cX12_takes 90 = .ok (.iload 7, 2) := bdX12_takes_80.2.2.2.2.2.2.1
theorem dX12_takes_92 : decode cX12_takes 92 = .ok (.invokevirtual 340, 3) := bdX12_takes_80.2.2.2.2.2.2.2.1
theorem dX12_takes_95 : decode cX12_takes 95 = .ok (.istore 8, 2) := bdX12_takes_80.2.2.2.2.2.2.2.2.1
theorem dX12_takes_97 : decode cX12_takes 97 = .ok (.iload 8, 2) := bdX12_takes_80.2.2.2.2.2.2.2.2.2.1
theorem dX12_takes_99 : decode cX12_takes 99 = .ok (.iconst (-1), 1) := bdX12_takes_80.2.2.2.2.2.2.2.2.2.2.1
theorem dX12_takes_100 : decode cX12_takes 100 = .ok (.if_icmp .ne 4, 3) := bdX12_takes_80.2.2.2.2.2.2.2.2.2.2.2.1
theorem dX12_takes_103 : decode cX12_takes 103 = .ok (.return_, 1) := bdX12_takes_80.2.2.2.2.2.2.2.2.2.2.2.2.1
theorem dX12_takes_104 : decode cX12_takes 104 = .ok (.aload_n 0, 1) := bdX12_takes_80.2.2.2.2.2.2.2.2.2.2.2.2.2.1
theorem dX12_takes_105 : decode cX12_takes 105 = .ok (.getfield 7, 3) := bdX12_takes_80.2.2.2.2.2.2.2.2.2.2.2.2.2.2.1
theorem dX12_takes_108 : decode cX12_takes 108 = .ok (.aload_n 0, 1) := bdX12_takes_80.2.2.2.2.2.2.2.2.2.2.2.2.2.2.2
theorem bdX12_takes_109 : (decode cX12_takes 109 = .ok (.iload_n 1, 1)) ∧ (decode cX12_takes 110 = .ok (.iload 8, 2)) ∧ (decode cX12_takes 112 = .ok (.iconst 0, 1)) ∧ (decode cX12_takes 113 = .ok (.invokevirtual 334, 3)) ∧ (decode cX12_takes 116 = .ok (.iload 7, 2)) ∧ (decode cX12_takes 118 = .ok (.ifCond .eq 11, 3)) ∧ (decode cX12_takes 121 = .ok (.iload 5, 2)) ∧ (decode cX12_takes 123 = .ok (.bipush 10, 2)) ∧ (decode cX12_takes 125 = .ok (.iadd, 1)) ∧ (decode cX12_takes 126 = .ok (.goto 5, 3)) ∧ (decode cX12_takes 129 = .ok (.iload 5, 2)) ∧ (decode cX12_takes 131 = .ok (.iastore, 1)) ∧ (decode cX12_takes 132 = .ok (.aload_n 0, 1)) ∧ (decode cX12_takes 133 = .ok (.getfield 7, 3)) ∧ (decode cX12_takes 136 = .ok (.bipush 50, 2)) ∧ (decode cX12_takes 138 = .ok (.bipush 12, 2)) := by decide +kernel
theorem dX12_takes_109 : decode cX12_takes 109 = .ok (.iload_n 1, 1) := bdX12_takes_109.1
theorem dX12_takes_110 : decode cX12_takes 110 = .ok (.iload 8, 2) := bdX12_takes_109.2.1
theorem dX12_takes_112 : decode cX12_takes 112 = .ok (.iconst 0, 1) := bdX12_takes_109.2.2.1
theorem dX12_takes_113 : decode cX12_takes 113 = .ok (.invokevirtual 334, 3) := bdX12_takes_109.2.2.2.1
theorem dX12_takes_116 : decode cX12_takes 116 = .ok (.iload 7, 2) := bdX12_takes_109.2.2.2.2.1
theorem dX12_takes_118 : decode cX12_takes 118 = .ok (.ifCond .eq 11, 3) := bdX12_takes_109.2.2.2.2.2.1
theorem dX12_takes_121 : decode cX12_takes 121 = .ok (.iload 5, 2) := bdX12_takes_109.2.2.2.2.2.2.1
theorem dX12_takes_123 : decode cX12_takes 123 = .ok (.bipush 10, 2) := bdX12_takes_109.2.2.2.2.2.2.2.1
theorem dX12_takes_125 : decode cX12_takes 125 = .ok (.iadd, 1) := bdX12_takes_109.2.2.2.2.2.2.2.2.1
theorem dX12_takes_126 : decode cX12_takes 126 = .ok (.goto 5, 3) := bdX12_takes_109.2.2.2.2.2.2.2.2.2.1
theorem dX12_takes_129 : decode cX12_takes 129 = .ok (.iload 5, 2) := bdX12_takes_109.2.2.2.2.2.2.2.2.2.2.1
theorem dX12_takes_131 : decode cX12_takes 131 = .ok (.iastore, 1) := bdX12_takes_109.2.2.2.2.2.2.2.2.2.2.2.1
theorem dX12_takes_132 : decode cX12_takes 132 = .ok (.aload_n 0, 1) := bdX12_takes_109.2.2.2.2.2.2.2.2.2.2.2.2.1
theorem dX12_takes_133 : decode cX12_takes 133 = .ok (.getfield 7, 3) := bdX12_takes_109.2.2.2.2.2.2.2.2.2.2.2.2.2.1
theorem dX12_takes_136 : decode cX12_takes 136 = .ok (.bipush 50, 2) := bdX12_takes_109.2.2.2.2.2.2.2.2.2.2.2.2.2.2.1
theorem dX12_takes_138 : decode cX12_takes 138 = .ok (.bipush 12, 2) := bdX12_takes_109.2.2.2.2.2.2.2.2.2.2.2.2.2.2.2
theorem bdX12_takes_140 : (decode cX12_takes 140 = .ok (.iload_n 3, 1)) ∧ (decode cX12_takes 141 = .ok (.imul, 1)) ∧ (decode cX12_takes 142 = .ok (.iadd, 1)) ∧ (decode cX12_takes 143 = .ok (.iconst 2, 1)) ∧ (decode cX12_takes 144 = .ok (.iload 5, 2)) ∧ (decode cX12_takes 146 = .ok (.imul, 1)) ∧ (decode cX12_takes 147 = .ok (.iadd, 1)) ∧ (decode cX12_takes 148 = .ok (.dup2, 1)) ∧ (decode cX12_takes 149 = .ok (.iaload, 1)) ∧ (decode cX12_takes 150 = .ok (.iconst 1, 1)) ∧ (decode cX12_takes 151 = .ok (.isub, 1)) ∧ (decode cX12_takes 152 = .ok (.iastore, 1)) ∧ (decode cX12_takes 153 = .ok (.aload_n 0, 1)) ∧ (decode cX12_takes 154 = .ok (.iload_n 1, 1)) ∧ (decode cX12_takes 155 = .ok (.bipush 10, 2)) ∧ (decode cX12_takes 157 = .ok (.iload 6, 2)) := by decide +kernel
theorem dX12_takes_140 : decode cX12_takes 140 = .ok (.iload_n 3, 1) := bdX12_takes_140.1
theorem dX12_takes_141 : decode cX12_takes 141 = .ok (.imul, 1) := bdX12_takes_140.2.1
theorem dX12_takes_142 : decode cX12_takes 142 = .ok (.iadd, 1) := bdX12_takes_140.2.2.1
theorem dX12_takes_143 : decode cX12_takes 143 = .ok (.iconst 2, 1) := bdX12_takes_140.2.2.2.1
theorem dX12_takes_144 : decode cX12_takes 144 = .ok (.iload 5, 2) := bdX12_takes_140.2.2.2.2.1
theorem dX12_takes_146 : decode cX12_takes 146 = .ok (.imul, 1) := bdX12_takes_140.2.2.2.2.2.1
theorem dX12_takes_147 : decode cX12_takes 147 = .ok (.iadd, 1) := bdX12_takes_140.2.2.2.2.2.2.1
theorem dX12_takes_148 : decode cX12_takes 148 = .ok (.dup2, 1) := bdX12_takes_140.2.2.2.2.2.2.2.1
theorem dX12_takes_149 : decode cX12_takes 149 = .ok (.iaload, 1) := bdX12_takes_140.2.2.2.2.2.2.2.2.1
theorem dX12_takes_150 : decode cX12_takes 150 = .ok (.iconst 1, 1) := bdX12_takes_140.2.2.2.2.2.2.2.2.2.1
theorem dX12_takes_151 : decode cX12_takes 151 = .ok (.isub, 1) := bdX12_takes_140.2.2.2.2.2.2.2.2.2.2.1
theorem dX12_takes_152 : decode cX12_takes 152 = .ok (.iastore, 1) := bdX12_takes_140.2.2.2.2.2.2.2.2.2.2.2.1
theorem dX12_takes_153 : decode cX12_takes 153 = .ok (.aload_n 0, 1) := bdX12_takes_140.2.2.2.2.2.2.2.2.2.2.2.2.1
theorem dX12_takes_154 : decode cX12_takes 154 = .ok (.iload_n 1, 1) := bdX12_takes_140.2.2.2.2.2.2.2.2.2.2.2.2.2.1
theorem dX12_takes_155 : decode cX12_takes 155 = .ok (.bipush 10, 2) := bdX12_takes_140.2.2.2.2.2.2.2.2.2.2.2.2.2.2.1
theorem dX12_takes_157 : decode cX12_takes 157 = .ok (.iload 6, 2) := bdX12_takes_140.2.2.2.2.2.2.2.2.2.2.2.2.2.2.2
theorem bdX12_takes_159 : (decode cX12_takes 159 = .ok (.iconst 1, 1)) ∧ (decode cX12_takes 160 = .ok (.iadd, 1)) ∧ (decode cX12_takes 161 = .ok (.invokevirtual 110, 3)) ∧ (decode cX12_takes 164 = .ok (.iinc 4 1, 3)) ∧ (decode cX12_takes 167 = .ok (.goto (-158), 3)) ∧ (decode cX12_takes 170 = .ok (.return_, 1)) := by decide +kernel
theorem dX12_takes_159 : decode cX12_takes 159 = .ok (.iconst 1, 1) := bdX12_takes_159.1
theorem dX12_takes_160 : decode cX12_takes 160 = .ok (.iadd, 1) := bdX12_takes_159.2.1
theorem dX12_takes_161 : decode cX12_takes 161 = .ok (.invokevirtual 110, 3) := bdX12_takes_159.2.2.1
theorem dX12_takes_164 : decode cX12_takes 164 = .ok (.iinc 4 1, 3) := bdX12_takes_159.2.2.2.1
theorem dX12_takes_167 : decode cX12_takes 167 = .ok (.goto (-158), 3) := bdX12_takes_159.2.2.2.2.1
theorem dX12_takes_170 : decode cX12_takes 170 = .ok (.return_, 1) := bdX12_takes_159.2.2.2.2.2
theorem bdX12_stairs_0 : (decode cX12_stairs 0 = .ok (.aload_n 0, 1)) ∧ (decode cX12_stairs 1 = .ok (.iload_n 1, 1)) ∧ (decode cX12_stairs 2 = .ok (.bipush 6, 2)) ∧ (decode cX12_stairs 4 = .ok (.invokevirtual 103, 3)) ∧ (decode cX12_stairs 7 = .ok (.ifCond .eq 14, 3)) ∧ (decode cX12_stairs 10 = .ok (.aload_n 0, 1)) ∧ (decode cX12_stairs 11 = .ok (.iload_n 1, 1)) ∧ (decode cX12_stairs 12 = .ok (.bipush 9, 2)) ∧ (decode cX12_stairs 14 = .ok (.invokevirtual 103, 3)) ∧ (decode cX12_stairs 17 = .ok (.iconst 1, 1)) ∧ (decode cX12_stairs 18 = .ok (.if_icmp .ne 4, 3)) ∧ (decode cX12_stairs 21 = .ok (.return_, 1)) ∧ (decode cX12_stairs 22 = .ok (.aload_n 0, 1)) ∧ (decode cX12_stairs 23 = .ok (.iload_n 1, 1)) ∧ (decode cX12_stairs 24 = .ok (.invokevirtual 344, 3)) ∧ (decode cX12_stairs 27 = .ok (.istore_n 3, 1)) := by decide +kernel
theorem dX12_stairs_0 : decode cX12_stairs 0 = .ok (.aload_n 0, 1) := bdX12_stairs_0.1
theorem dX12_stairs_1 : decode cX12_stairs 1 = .ok (.iload_n 1, 1) := bdX12_stairs_0.2.1
theorem dX12_stairs_2 : decode cX12_stairs 2 = .ok (.bipush 6, 2) := bdX12_stairs_0.2.2.1
theorem dX12_stairs_4 : decode cX12_stairs 4 = .ok (.invokevirtual 103, 3) := bdX12_stairs_0.2.2.2.1
theorem dX12_stairs_7 : decode cX12_stairs 7 = .ok (.ifCond .eq 14, 3) := bdX12_stairs_0.2.2.2.2.1
theorem dX12_stairs_10 : decode cX12_stairs 10 = .ok (.aload_n 0, 1) := bdX12_stairs_0.2.2.2.2.2.1
theorem dX12_stairs_11 : decode cX12_stairs 11 = .ok (.iload_n 1, 1) := bdX12_stairs_0.2.2.2.2.2.2.1
theorem dX12_stairs_12 : decode cX12_stairs 12 = .ok (.bipush 9, 2) := bdX12_stairs_0.2.2.2.2.2.2.2.1
theorem dX12_stairs_14 : decode cX12_stairs 14 = .ok (.invokevirtual 103, 3) := bdX12_stairs_0.2.2.2.2.2.2.2.2.1
theorem dX12_stairs_17 : decode cX12_stairs 17 = .ok (.iconst 1, 1) := bdX12_stairs_0.2.2.2.2.2.2.2.2.2.1
theorem dX12_stairs_18 : decode cX12_stairs 18 = .ok (.if_icmp .ne 4, 3) := bdX12_stairs_0.2.2.2.2.2.2.2.2.2.2.1
theorem dX12_stairs_21 : decode cX12_stairs 21 = .ok (.return_, 1) := bdX12_stairs_0.2.2.2.2.2.2.2.2.2.2.2.1
theorem dX12_stairs_22 : decode cX12_stairs 22 = .ok (.aload_n 0, 1) := bdX12_stairs_0.2.2.2.2.2.2.2.2.2.2.2.2.1
theorem dX12_stairs_23 : decode cX12_stairs 23 = .ok (.iload_n 1, 1) := bdX12_stairs_0.2.2.2.2.2.2.2.2.2.2.2.2.2.1
theorem dX12_stairs_24 : decode cX12_stairs 24 = .ok (.invokevirtual 344, 3) := bdX12_stairs_0.2.2.2.2.2.2.2.2.2.2.2.2.2.2.1
theorem dX12_stairs_27 : decode cX12_stairs 27 = .ok (.istore_n 3, 1) := bdX12_stairs_0.2.2.2.2.2.2.2.2.2.2.2.2.2.2.2
theorem bdX12_stairs_28 : (decode cX12_stairs 28 = .ok (.aload_n 0, 1)) ∧ (decode cX12_stairs 29 = .ok (.iload_n 1, 1)) ∧ (decode cX12_stairs 30 = .ok (.iconst 0, 1)) ∧ (decode cX12_stairs 31 = .ok (.invokevirtual 103, 3)) ∧ (decode cX12_stairs 34 = .ok (.iconst 1, 1)) ∧ (decode cX12_stairs 35 = .ok (.if_icmp .ne 34, 3)) ∧ (decode cX12_stairs 38 = .ok (.iconst 0, 1)) ∧ (decode cX12_stairs 39 = .ok (.istore 4, 2)) ∧ (decode cX12_stairs 41 = .ok (.iload 4, 2)) ∧ (decode cX12_stairs 43 = .ok (.iconst 2, 1)) ∧ (decode cX12_stairs 44 = .ok (.if_icmp .ge 22, 3)) ∧ (decode cX12_stairs 47 = .ok (.iload_n 2, 1)) ∧ (decode cX12_stairs 48 = .ok (.iconst 2, 1)) ∧ (decode cX12_stairs 49 = .ok (.irem, 1)) ∧ (decode cX12_stairs 50 = .ok (.ifCond .ne 16, 3)) ∧ (decode cX12_stairs 53 = .ok (.aload_n 0, 1)) := by decide +kernel
theorem dX12_stairs_28 : decode cX12_stairs 28 = .ok (.aload_n 0, 1) := bdX12_stairs_28.1
theorem dX12_stairs_29 : decode cX12_stairs 29 = .ok (.iload_n 1, 1) := bdX12_stairs_28.2.1
theorem dX12_stairs_30 : decode cX12_stairs 30 = .ok (.iconst 0, 1) := bdX12_stairs_28.2.2.1
theorem dX12_stairs_31 : decode cX12_stairs 31 = .ok (.invokevirtual 103, 3) := bdX12_stairs_28.2.2.2.1
theorem dX12_stairs_34 : decode cX12_stairs 34 = .ok (.iconst 1, 1) := bdX12_stairs_28.2.2.2.2.1
theorem dX12_stairs_35 : decode cX12_stairs 35 = .ok (.if_icmp .ne 34, 3) := bdX12_stairs_28.2.2.2.2.2.1
theorem dX12_stairs_38 : decode cX12_stairs 38 = .ok (.iconst 0, 1) := bdX12_stairs_28.2.2.2.2.2.2.1
theorem dX12_stairs_39 : decode cX12_stairs 39 = .ok (.istore 4, 2) := bdX12_stairs_28.2.2.2.2.2.2.2.1
theorem dX12_stairs_41 : decode cX12_stairs 41 = .ok (.iload 4, 2) := bdX12_stairs_28.2.2.2.2.2.2.2.2.1
theorem dX12_stairs_43 : decode cX12_stairs 43 = .ok (.iconst 2, 1) := bdX12_stairs_28.2.2.2.2.2.2.2.2.2.1
theorem dX12_stairs_44 : decode cX12_stairs 44 = .ok (.if_icmp .ge 22, 3) := bdX12_stairs_28.2.2.2.2.2.2.2.2.2.2.1
theorem dX12_stairs_47 : decode cX12_stairs 47 = .ok (.iload_n 2, 1) := bdX12_stairs_28.2.2.2.2.2.2.2.2.2.2.2.1
theorem dX12_stairs_48 : decode cX12_stairs 48 = .ok (.iconst 2, 1) := bdX12_stairs_28.2.2.2.2.2.2.2.2.2.2.2.2.1
theorem dX12_stairs_49 : decode cX12_stairs 49 = .ok (.irem, 1) := bdX12_stairs_28.2.2.2.2.2.2.2.2.2.2.2.2.2.1
theorem dX12_stairs_50 : decode cX12_stairs 50 = .ok (.ifCond .ne 16, 3) := bdX12_stairs_28.2.2.2.2.2.2.2.2.2.2.2.2.2.2.1
theorem dX12_stairs_53 : decode cX12_stairs 53 = .ok (.aload_n 0, 1) := bdX12_stairs_28.2.2.2.2.2.2.2.2.2.2.2.2.2.2.2
theorem bdX12_stairs_54 : (decode cX12_stairs 54 = .ok (.iload_n 1, 1)) ∧ (decode cX12_stairs 55 = .ok (.iload 4, 2)) ∧ (decode cX12_stairs 57 = .ok (.invokevirtual 347, 3)) ∧ (decode cX12_stairs 60 = .ok (.iinc 4 1, 3)) ∧ (decode cX12_stairs 63 = .ok (.goto (-22), 3)) ∧ (decode cX12_stairs 66 = .ok (.goto 27, 3)) ∧ (decode cX12_stairs 69 = .ok (.aload_n 0, 1)) ∧ (decode cX12_stairs 70 = .ok (.iload_n 1, 1)) ∧ (decode cX12_stairs 71 = .ok (.iconst 0, 1)) ∧ (decode cX12_stairs 72 = .ok (.invokevirtual 350, 3)) ∧ (decode cX12_stairs 75 = .ok (.ifCond .eq 12, 3)) ∧ (decode cX12_stairs 78 = .ok (.aload_n 0, 1)) ∧ (decode cX12_stairs 79 = .ok (.iload_n 1, 1)) ∧ (decode cX12_stairs 80 = .ok (.iconst 1, 1)) ∧ (decode cX12_stairs 81 = .ok (.invokevirtual 350, 3)) ∧ (decode cX12_stairs 84 = .ok (.ifCond .ne 9, 3)) := by decide +kernel
theorem dX12_stairs_54 : decode cX12_stairs 54 = .ok (.iload_n 1, 1) := bdX12_stairs_54.1
theorem dX12_stairs_55 : decode cX12_stairs 55 = .ok (.iload 4, 2) := bdX12_stairs_54.2.1
theorem dX12_stairs_57 : decode cX12_stairs 57 = .ok (.invokevirtual 347, 3) := bdX12_stairs_54.2.2.1
theorem dX12_stairs_60 : decode cX12_stairs 60 = .ok (.iinc 4 1, 3) := bdX12_stairs_54.2.2.2.1
theorem dX12_stairs_63 : decode cX12_stairs 63 = .ok (.goto (-22), 3) := bdX12_stairs_54.2.2.2.2.1
theorem dX12_stairs_66 : decode cX12_stairs 66 = .ok (.goto 27, 3) := bdX12_stairs_54.2.2.2.2.2.1
theorem dX12_stairs_69 : decode cX12_stairs 69 = .ok (.aload_n 0, 1) := bdX12_stairs_54.2.2.2.2.2.2.1
theorem dX12_stairs_70 : decode cX12_stairs 70 = .ok (.iload_n 1, 1) := bdX12_stairs_54.2.2.2.2.2.2.2.1
theorem dX12_stairs_71 : decode cX12_stairs 71 = .ok (.iconst 0, 1) := bdX12_stairs_54.2.2.2.2.2.2.2.2.1
theorem dX12_stairs_72 : decode cX12_stairs 72 = .ok (.invokevirtual 350, 3) := bdX12_stairs_54.2.2.2.2.2.2.2.2.2.1
theorem dX12_stairs_75 : decode cX12_stairs 75 = .ok (.ifCond .eq 12, 3) := bdX12_stairs_54.2.2.2.2.2.2.2.2.2.2.1
theorem dX12_stairs_78 : decode cX12_stairs 78 = .ok (.aload_n 0, 1) := bdX12_stairs_54.2.2.2.2.2.2.2.2.2.2.2.1
theorem dX12_stairs_79 : decode cX12_stairs 79 = .ok (.iload_n 1, 1) := bdX12_stairs_54.2.2.2.2.2.2.2.2.2.2.2.2.1
theorem dX12_stairs_80 : decode cX12_stairs 80 = .ok (.iconst 1, 1) := bdX12_stairs_54.2.2.2.2.2.2.2.2.2.2.2.2.2.1
theorem dX12_stairs_81 : decode cX12_stairs 81 = .ok (.invokevirtual 350, 3) := bdX12_stairs_54.2.2.2.2.2.2.2.2.2.2.2.2.2.2.1
theorem dX12_stairs_84 : decode cX12_stairs 84 = .ok (.ifCond .ne 9, 3) := bdX12_stairs_54.2.2.2.2.2.2.2.2.2.2.2.2.2.2.2
theorem bdX12_stairs_87 : (decode cX12_stairs 87 = .ok (.aload_n 0, 1)) ∧ (decode cX12_stairs 88 = .ok (.iload_n 1, 1)) ∧ (decode cX12_stairs 89 = .ok (.invokevirtual 353, 3)) ∧ (decode cX12_stairs 92 = .ok (.return_, 1)) ∧ (decode cX12_stairs 93 = .ok (.aload_n 0, 1)) ∧ (decode cX12_stairs 94 = .ok (.iload_n 1, 1)) ∧ (decode cX12_stairs 95 = .ok (.bipush 7, 2)) ∧ (decode cX12_stairs 97 = .ok (.invokevirtual 103, 3)) ∧ (decode cX12_stairs 100 = .ok (.aload_n 0, 1)) ∧ (decode cX12_stairs 101 = .ok (.iload_n 1, 1)) ∧ (decode cX12_stairs 102 = .ok (.iconst 5, 1)) ∧ (decode cX12_stairs 103 = .ok (.invokevirtual 103, 3)) ∧ (decode cX12_stairs 106 = .ok (.if_icmp .ne 9, 3)) ∧ (decode cX12_stairs 109 = .ok (.aload_n 0, 1)) ∧ (decode cX12_stairs 110 = .ok (.iload_n 1, 1)) ∧ (decode cX12_stairs 111 = .ok (.iload_n 3, 1)) := by decide +kernel
theorem dX12_stairs_87 : decode cX12_stairs 87 = .ok (.aload_n 0, 1) := bdX12_stairs_87.1
theorem dX12_stairs_88 : decode cX12_stairs 88 = .ok (.iload_n 1, 1) := bdX12_stairs_87.2.1
theorem dX12_stairs_89 : decode cX12_stairs 89 = .ok (.invokevirtual 353, 3) := bdX12_stairs_87.2.2.1
theorem dX12_stairs_92 : decode cX12_stairs 92 = .ok (.return_, 1) := bdX12_stairs_87.2.2.2.1
theorem dX12_stairs_93 : decode cX12_stairs 93 = .ok (.aload_n 0, 1) := bdX12_stairs_87.2.2.2.2.1
theorem dX12_stairs_94 : decode cX12_stairs 94 = .ok (.iload_n 1, 1) := bdX12_stairs_87.2.2.2.2.2.1
theorem dX12_stairs_95 : decode cX12_stairs 95 = .ok (.bipush 7, 2) := bdX12_stairs_87.2.2.2.2.2.2.1
theorem dX12_stairs_97 : decode cX12_stairs 97 = .ok (.invokevirtual 103, 3) := bdX12_stairs_87.2.2.2.2.2.2.2.1
theorem dX12_stairs_100 : decode cX12_stairs 100 = .ok (.aload_n 0, 1) := bdX12_stairs_87.2.2.2.2.2.2.2.2.1
theorem dX12_stairs_101 : decode cX12_stairs 101 = .ok (.iload_n 1, 1) := bdX12_stairs_87.2.2.2.2.2.2.2.2.2.1
theorem dX12_stairs_102 : decode cX12_stairs 102 = .ok (.iconst 5, 1) := bdX12_stairs_87.2.2.2.2.2.2.2.2.2.2.1
theorem dX12_stairs_103 : decode cX12_stairs 103 = .ok (.invokevirtual 103, 3) := bdX12_stairs_87.2.2.2.2.2.2.2.2.2.2.2.1
theorem dX12_stairs_106 : decode cX12_stairs 106 = .ok (.if_icmp .ne 9, 3) := bdX12_stairs_87.2.2.2.2.2.2.2.2.2.2.2.2.1
theorem dX12_stairs_109 : decode cX12_stairs 109 = .ok (.aload_n 0, 1) := bdX12_stairs_87.2.2.2.2.2.2.2.2.2.2.2.2.2.1
theorem dX12_stairs_110 : decode cX12_stairs 110 = .ok (.iload_n 1, 1) := bdX12_stairs_87.2.2.2.2.2.2.2.2.2.2.2.2.2.2.1
theorem dX12_stairs_111 : decode cX12_stairs 111 = .ok (.iload_n 3, 1) := bdX12_stairs_87.2.2.2.2.2.2.2.2.2.2.2.2.2.2.2
theorem dX12_stairs_112 : decode cX12_stairs 112 = .ok (.invokevirtual 356, 3) := by decide +kernel
theorem dX12_stairs_115 : decode cX12_stairs 115 = .ok (.return_, 1) := by decide +kernel
theorem bdX12_lifts_0 : (decode cX12_lifts 0 = .ok (.iconst 0, 1)) ∧ (decode cX12_lifts 1 = .ok (.istore 4, 2)) ∧ (decode cX12_lifts 3 = .ok (.iload 4, 2)) ∧ (decode cX12_lifts 5 = .ok (.aload_n 0, 1)) ∧ (decode cX12_lifts 6 = .ok (.iload_n 1, 1)) ∧ (decode cX12_lifts 7 = .ok (.iconst 3, 1)) ∧ (decode cX12_lifts 8 = .ok (.invokevirtual 103, 3)) ∧ (decode cX12_lifts 11 = .ok (.if_icmp .ge 109, 3)) ∧ (decode cX12_lifts 14 = .ok (.aload_n 0, 1)) ∧ (decode cX12_lifts 15 = .ok (.iload_n 1, 1)) ∧ (decode cX12_lifts 16 = .ok (.iload_n 2, 1)) ∧ (decode cX12_lifts 17 = .ok (.iconst 1, 1)) ∧ (decode cX12_lifts 18 = .ok (.invokevirtual 328, 3)) ∧ (decode cX12_lifts 21 = .ok (.istore 5, 2)) ∧ (decode cX12_lifts 23 = .ok (.iload 5, 2)) ∧ (decode cX12_lifts 25 = .ok (.iconst (-1), 1)) := by decide +kernel
theorem dX12_lifts_0 : decode cX12_lifts 0 = .ok (.iconst 0, 1) := bdX12_lifts_0.1
theorem dX12_lifts_1 : decode cX12_lifts 1 = .ok (.istore 4, 2) := bdX12_lifts_0.2.1
theorem dX12_lifts_3 : decode cX12_lifts 3 = .ok (.iload 4, 2) := bdX12_lifts_0.2.2.1
theorem dX12_lifts_5 : decode cX12_lifts 5 = .ok (.aload_n 0, 1) := bdX12_lifts_0.2.2.2.1
theorem dX12_lifts_6 : decode cX12_lifts 6 = .ok (.iload_n 1, 1) := bdX12_lifts_0.2.2.2.2.1
theorem dX12_lifts_7 : decode cX12_lifts 7 = .ok (.iconst 3, 1) := bdX12_lifts_0.2.2.2.2.2.1
theorem dX12_lifts_8 : decode cX12_lifts 8 = .ok (.invokevirtual 103, 3) := bdX12_lifts_0.2.2.2.2.2.2.1
theorem dX12_lifts_11 : decode cX12_lifts 11 = .ok (.if_icmp .ge 109, 3) := bdX12_lifts_0.2.2.2.2.2.2.2.1
theorem dX12_lifts_14 : decode cX12_lifts 14 = .ok (.aload_n 0, 1) := bdX12_lifts_0.2.2.2.2.2.2.2.2.1
theorem dX12_lifts_15 : decode cX12_lifts 15 = .ok (.iload_n 1, 1) := bdX12_lifts_0.2.2.2.2.2.2.2.2.2.1
theorem dX12_lifts_16 : decode cX12_lifts 16 = .ok (.iload_n 2, 1) := bdX12_lifts_0.2.2.2.2.2.2.2.2.2.2.1
theorem dX12_lifts_17 : decode cX12_lifts 17 = .ok (.iconst 1, 1) := bdX12_lifts_0.2.2.2.2.2.2.2.2.2.2.2.1
theorem dX12_lifts_18 : decode cX12_lifts 18 = .ok (.invokevirtual 328, 3) := bdX12_lifts_0.2.2.2.2.2.2.2.2.2.2.2.2.1
theorem dX12_lifts_21 : decode cX12_lifts 21 = .ok (.istore 5, 2) := bdX12_lifts_0.2.2.2.2.2.2.2.2.2.2.2.2.2.1
theorem dX12_lifts_23 : decode cX12_lifts 23 = .ok (.iload 5, 2) := bdX12_lifts_0.2.2.2.2.2.2.2.2.2.2.2.2.2.2.1
theorem dX12_lifts_25 : decode cX12_lifts 25 = .ok (.iconst (-1), 1) := bdX12_lifts_0.2.2.2.2.2.2.2.2.2.2.2.2.2.2.2
theorem bdX12_lifts_26 : (decode cX12_lifts 26 = .ok (.if_icmp .eq 23, 3)) ∧ (decode cX12_lifts 29 = .ok (.iload 5, 2)) ∧ (decode cX12_lifts 31 = .ok (.iload_n 3, 1)) ∧ (decode cX12_lifts 32 = .ok (.if_icmp .eq 18, 3)) ∧ (decode cX12_lifts 35 = .ok (.aload_n 0, 1)) ∧ (decode cX12_lifts 36 = .ok (.iload_n 3, 1)) ∧ (decode cX12_lifts 37 = .ok (.invokevirtual 292, 3)) ∧ (decode cX12_lifts 40 = .ok (.aload_n 0, 1)) ∧ (decode cX12_lifts 41 = .ok (.iload_n 3, 1)) ∧ (decode cX12_lifts 42 = .ok (.iconst 0, 1)) ∧ (decode cX12_lifts 43 = .ok (.invokevirtual 295, 3)) ∧ (decode cX12_lifts 46 = .ok (.if_icmp .lt 4, 3)) ∧ (decode cX12_lifts 49 = .ok (.return_, 1)) ∧ (decode cX12_lifts 50 = .ok (.aload_n 0, 1)) ∧ (decode cX12_lifts 51 = .ok (.getfield 7, 3)) ∧ (decode cX12_lifts 54 = .ok (.bipush 50, 2)) := by decide +kernel
theorem dX12_lifts_26 : decode cX12_lifts 26 = .ok (.if_icmp .eq 23, 3) := bdX12_lifts_26.1
theorem dX12_lifts_29 : decode cX12_lifts 29 = .ok (.iload 5, 2) := bdX12_lifts_26.2.1
theorem dX12_lifts_31 : decode cX12_lifts 31 = .ok (.iload_n 3, 1) := bdX12_lifts_26.2.2.1
theorem dX12_lifts_32 : decode cX12_lifts 32 = .ok (.if_icmp .eq 18, 3) := bdX12_lifts_26.2.2.2.1
theorem dX12_lifts_35 : decode cX12_lifts 35 = .ok (.aload_n 0, 1) := bdX12_lifts_26.2.2.2.2.1
theorem dX12_lifts_36 : decode cX12_lifts 36 = .ok (.iload_n 3, 1) := bdX12_lifts_26.2.2.2.2.2.1
theorem dX12_lifts_37 : decode cX12_lifts 37 = .ok (.invokevirtual 292, 3) := bdX12_lifts_26.2.2.2.2.2.2.1
theorem dX12_lifts_40 : decode cX12_lifts 40 = .ok (.aload_n 0, 1) := bdX12_lifts_26.2.2.2.2.2.2.2.1
theorem dX12_lifts_41 : decode cX12_lifts 41 = .ok (.iload_n 3, 1) := bdX12_lifts_26.2.2.2.2.2.2.2.2.1
theorem dX12_lifts_42 : decode cX12_lifts 42 = .ok (.iconst 0, 1) := bdX12_lifts_26.2.2.2.2.2.2.2.2.2.1
theorem dX12_lifts_43 : decode cX12_lifts 43 = .ok (.invokevirtual 295, 3) := bdX12_lifts_26.2.2.2.2.2.2.2.2.2.2.1
theorem dX12_lifts_46 : decode cX12_lifts 46 = .ok (.if_icmp .lt 4, 3) := bdX12_lifts_26.2.2.2.2.2.2.2.2.2.2.2.1
theorem dX12_lifts_49 : decode cX12_lifts 49 = .ok (.return_, 1) := bdX12_lifts_26.2.2.2.2.2.2.2.2.2.2.2.2.1
theorem dX12_lifts_50 : decode cX12_lifts 50 = .ok (.aload_n 0, 1) := bdX12_lifts_26.2.2.2.2.2.2.2.2.2.2.2.2.2.1
theorem dX12_lifts_51 : decode cX12_lifts 51 = .ok (.getfield 7, 3) := bdX12_lifts_26.2.2.2.2.2.2.2.2.2.2.2.2.2.2.1
theorem dX12_lifts_54 : decode cX12_lifts 54 = .ok (.bipush 50, 2) := bdX12_lifts_26.2.2.2.2.2.2.2.2.2.2.2.2.2.2.2
theorem bdX12_lifts_56 : (decode cX12_lifts 56 = .ok (.bipush 12, 2)) ∧ (decode cX12_lifts 58 = .ok (.iload_n 2, 1)) ∧ (decode cX12_lifts 59 = .ok (.imul, 1)) ∧ (decode cX12_lifts 60 = .ok (.iadd, 1)) ∧ (decode cX12_lifts 61 = .ok (.iconst 2, 1)) ∧ (decode cX12_lifts 62 = .ok (.iload 5, 2)) ∧ (decode cX12_lifts 64 = .ok (.imul, 1)) ∧ (decode cX12_lifts 65 = .ok (.iadd, 1)) ∧ (decode cX12_lifts 66 = .ok (.iconst 1, 1)) ∧ (decode cX12_lifts 67 = .ok (.iadd, 1)) ∧ (decode cX12_lifts 68 = .ok (.dup2, 1)) ∧ (decode cX12_lifts 69 = .ok (.iaload, 1)) ∧ (decode cX12_lifts 70 = .ok (.iconst 1, 1)) ∧ (decode cX12_lifts 71 = .ok (.isub, 1)) ∧ (decode cX12_lifts 72 = .ok (.iastore, 1)) ∧ (decode cX12_lifts 73 = .ok (.aload_n 0, 1)) := by decide +kernel
theorem dX12_lifts_56 : decode cX12_lifts 56 = .ok (.bipush 12, 2) := bdX12_lifts_56.1
theorem dX12_lifts_58 : decode cX12_lifts 58 = .ok (.iload_n 2, 1) := bdX12_lifts_56.2.1
theorem dX12_lifts_59 : decode cX12_lifts 59 = .ok (.imul, 1) := bdX12_lifts_56.2.2.1
theorem dX12_lifts_60 : decode cX12_lifts 60 = .ok (.iadd, 1) := bdX12_lifts_56.2.2.2.1
theorem dX12_lifts_61 : decode cX12_lifts 61 = .ok (.iconst 2, 1) := bdX12_lifts_56.2.2.2.2.1
theorem dX12_lifts_62 : decode cX12_lifts 62 = .ok (.iload 5, 2) := bdX12_lifts_56.2.2.2.2.2.1
theorem dX12_lifts_64 : decode cX12_lifts 64 = .ok (.imul, 1) := bdX12_lifts_56.2.2.2.2.2.2.1
theorem dX12_lifts_65 : decode cX12_lifts 65 = .ok (.iadd, 1) := bdX12_lifts_56.2.2.2.2.2.2.2.1
theorem dX12_lifts_66 : decode cX12_lifts 66 = .ok (.iconst 1, 1) := bdX12_lifts_56.2.2.2.2.2.2.2.2.1
theorem dX12_lifts_67 : decode cX12_lifts 67 = .ok (.iadd, 1) := bdX12_lifts_56.2.2.2.2.2.2.2.2.2.1
theorem dX12_lifts_68 : decode cX12_lifts 68 = .ok (.dup2, 1) := bdX12_lifts_56.2.2.2.2.2.2.2.2.2.2.1
theorem dX12_lifts_69 : decode cX12_lifts 69 = .ok (.iaload, 1) := bdX12_lifts_56.2.2.2.2.2.2.2.2.2.2.2.1
theorem dX12_lifts_70 : decode cX12_lifts 70 = .ok (.iconst 1, 1) := bdX12_lifts_56.2.2.2.2.2.2.2.2.2.2.2.2.1
theorem dX12_lifts_71 : decode cX12_lifts 71 = .ok (.isub, 1) := bdX12_lifts_56.2.2.2.2.2.2.2.2.2.2.2.2.2.1
theorem dX12_lifts_72 : decode cX12_lifts 72 = .ok (.iastore, 1) := bdX12_lifts_56.2.2.2.2.2.2.2.2.2.2.2.2.2.2.1
theorem dX12_lifts_73 : decode cX12_lifts 73 = .ok (.aload_n 0, 1) := bdX12_lifts_56.2.2.2.2.2.2.2.2.2.2.2.2.2.2.2
theorem bdX12_lifts_74 : (decode cX12_lifts 74 = .ok (.iload_n 3, 1)) ∧ (decode cX12_lifts 75 = .ok (.iload 5, 2)) ∧ (decode cX12_lifts 77 = .ok (.iconst 1, 1)) ∧ (decode cX12_lifts 78 = .ok (.iconst 1, 1)) ∧ (decode cX12_lifts 79 = .ok (.invokevirtual 309, 3)) ∧ (decode cX12_lifts 82 = .ok (.aload_n 0, 1)) ∧ (decode cX12_lifts 83 = .ok (.iload_n 1, 1)) ∧ (decode cX12_lifts 84 = .ok (.bipush 10, 2)) ∧ (decode cX12_lifts 86 = .ok (.aload_n 0, 1)) ∧ (decode cX12_lifts 87 = .ok (.iload_n 1, 1)) ∧ (decode cX12_lifts 88 = .ok (.bipush 10, 2)) ∧ (decode cX12_lifts 90 = .ok (.invokevirtual 103, 3)) ∧ (decode cX12_lifts 93 = .ok (.iconst 1, 1)) ∧ (decode cX12_lifts 94 = .ok (.iadd, 1)) ∧ (decode cX12_lifts 95 = .ok (.invokevirtual 110, 3)) ∧ (decode cX12_lifts 98 = .ok (.aload_n 0, 1)) := by decide +kernel
theorem dX12_lifts_74 : decode cX12_lifts 74 = .ok (.iload_n 3, 1) := bdX12_lifts_74.1
theorem dX12_lifts_75 : decode cX12_lifts 75 = .ok (.iload 5, 2) := bdX12_lifts_74.2.1
theorem dX12_lifts_77 : decode cX12_lifts 77 = .ok (.iconst 1, 1) := bdX12_lifts_74.2.2.1
theorem dX12_lifts_78 : decode cX12_lifts 78 = .ok (.iconst 1, 1) := bdX12_lifts_74.2.2.2.1
theorem dX12_lifts_79 : decode cX12_lifts 79 = .ok (.invokevirtual 309, 3) := bdX12_lifts_74.2.2.2.2.1
theorem dX12_lifts_82 : decode cX12_lifts 82 = .ok (.aload_n 0, 1) := bdX12_lifts_74.2.2.2.2.2.1
theorem dX12_lifts_83 : decode cX12_lifts 83 = .ok (.iload_n 1, 1) := bdX12_lifts_74.2.2.2.2.2.2.1
theorem dX12_lifts_84 : decode cX12_lifts 84 = .ok (.bipush 10, 2) := bdX12_lifts_74.2.2.2.2.2.2.2.1
theorem dX12_lifts_86 : decode cX12_lifts 86 = .ok (.aload_n 0, 1) := bdX12_lifts_74.2.2.2.2.2.2.2.2.1
theorem dX12_lifts_87 : decode cX12_lifts 87 = .ok (.iload_n 1, 1) := bdX12_lifts_74.2.2.2.2.2.2.2.2.2.1
theorem dX12_lifts_88 : decode cX12_lifts 88 = .ok (.bipush 10, 2) := bdX12_lifts_74.2.2.2.2.2.2.2.2.2.2.1
theorem dX12_lifts_90 : decode cX12_lifts 90 = .ok (.invokevirtual 103, 3) := bdX12_lifts_74.2.2.2.2.2.2.2.2.2.2.2.1
theorem dX12_lifts_93 : decode cX12_lifts 93 = .ok (.iconst 1, 1) := bdX12_lifts_74.2.2.2.2.2.2.2.2.2.2.2.2.1
theorem dX12_lifts_94 : decode cX12_lifts 94 = .ok (.iadd, 1) := bdX12_lifts_74.2.2.2.2.2.2.2.2.2.2.2.2.2.1
theorem dX12_lifts_95 : decode cX12_lifts 95 = .ok (.invokevirtual 110, 3) := bdX12_lifts_74.2.2.2.2.2.2.2.2.2.2.2.2.2.2.1
theorem dX12_lifts_98 : decode cX12_lifts 98 = .ok (.aload_n 0, 1) := bdX12_lifts_74.2.2.2.2.2.2.2.2.2.2.2.2.2.2.2
theorem bdX12_lifts_99 : (decode cX12_lifts 99 = .ok (.iload_n 1, 1)) ∧ (decode cX12_lifts 100 = .ok (.bipush 11, 2)) ∧ (decode cX12_lifts 102 = .ok (.aload_n 0, 1)) ∧ (decode cX12_lifts 103 = .ok (.iload_n 1, 1)) ∧ (decode cX12_lifts 104 = .ok (.bipush 11, 2)) ∧ (decode cX12_lifts 106 = .ok (.invokevirtual 103, 3)) ∧ (decode cX12_lifts 109 = .ok (.iconst 1, 1)) ∧ (decode cX12_lifts 110 = .ok (.iadd, 1)) ∧ (decode cX12_lifts 111 = .ok (.invokevirtual 110, 3)) ∧ (decode cX12_lifts 114 = .ok (.iinc 4 1, 3)) ∧ (decode cX12_lifts 117 = .ok (.goto (-114), 3)) ∧ (decode cX12_lifts 120 = .ok (.return_, 1)) := by decide +kernel
theorem dX12_lifts_99 : decode cX12_lifts 99 = .ok (.iload_n 1, 1) := bdX12_lifts_99.1
theorem dX12_lifts_100 : decode cX12_lifts 100 = .ok (.bipush 11, 2) := bdX12_lifts_99.2.1
theorem dX12_lifts_102 : decode cX12_lifts 102 = .ok (.aload_n 0, 1) := bdX12_lifts_99.2.2.1
theorem dX12_lifts_103 : decode cX12_lifts 103 = .ok (.iload_n 1, 1) := bdX12_lifts_99.2.2.2.1
theorem dX12_lifts_104 : decode cX12_lifts 104 = .ok (.bipush 11, 2) := bdX12_lifts_99.2.2.2.2.1
theorem dX12_lifts_106 : decode cX12_lifts 106 = .ok (.invokevirtual 103, 3) := bdX12_lifts_99.2.2.2.2.2.1
theorem dX12_lifts_109 : decode cX12_lifts 109 = .ok (.iconst 1, 1) := bdX12_lifts_99.2.2.2.2.2.2.1
theorem dX12_lifts_110 : decode cX12_lifts 110 = .ok (.iadd, 1) := bdX12_lifts_99.2.2.2.2.2.2.2.1
theorem dX12_lifts_111 : decode cX12_lifts 111 = .ok (.invokevirtual 110, 3) := bdX12_lifts_99.2.2.2.2.2.2.2.2.1
theorem dX12_lifts_114 : decode cX12_lifts 114 = .ok (.iinc 4 1, 3) := bdX12_lifts_99.2.2.2.2.2.2.2.2.2.1
theorem dX12_lifts_117 : decode cX12_lifts 117 = .ok (.goto (-114), 3) := bdX12_lifts_99.2.2.2.2.2.2.2.2.2.2.1
theorem dX12_lifts_120 : decode cX12_lifts 120 = .ok (.return_, 1) := bdX12_lifts_99.2.2.2.2.2.2.2.2.2.2.2
theorem bdX12_second_0 : (decode cX12_second 0 = .ok (.aload_n 0, 1)) ∧ (decode cX12_second 1 = .ok (.getfield 7, 3)) ∧ (decode cX12_second 4 = .ok (.iconst 0, 1)) ∧ (decode cX12_second 5 = .ok (.iaload, 1)) ∧ (decode cX12_second 6 = .ok (.istore_n 1, 1)) ∧ (decode cX12_second 7 = .ok (.aload_n 0, 1)) ∧ (decode cX12_second 8 = .ok (.iload_n 1, 1)) ∧ (decode cX12_second 9 = .ok (.invokevirtual 359, 3)) ∧ (decode cX12_second 12 = .ok (.iconst 0, 1)) ∧ (decode cX12_second 13 = .ok (.istore_n 2, 1)) ∧ (decode cX12_second 14 = .ok (.iload_n 2, 1)) ∧ (decode cX12_second 15 = .ok (.aload_n 0, 1)) ∧ (decode cX12_second 16 = .ok (.getfield 7, 3)) ∧ (decode cX12_second 19 = .ok (.iconst 1, 1)) ∧ (decode cX12_second 20 = .ok (.iaload, 1)) ∧ (decode cX12_second 21 = .ok (.if_icmp .ge 14, 3)) := by decide +kernel
theorem dX12_second_0 : decode cX12_second 0 = .ok (.aload_n 0, 1) := bdX12_second_0.1
theorem dX12_second_1 : decode cX12_second 1 = .ok (.getfield 7, 3) := bdX12_second_0.2.1
theorem dX12_second_4 : decode cX12_second 4 = .ok (.iconst 0, 1) := bdX12_second_0.2.2.1
theorem dX12_second_5 : decode cX12_second 5 = .ok (.iaload, 1) := bdX12_second_0.2.2.2.1
theorem dX12_second_6 : decode cX12_second 6 = .ok (.istore_n 1, 1) := bdX12_second_0.2.2.2.2.1
theorem dX12_second_7 : decode cX12_second 7 = .ok (.aload_n 0, 1) := bdX12_second_0.2.2.2.2.2.1
theorem dX12_second_8 : decode cX12_second 8 = .ok (.iload_n 1, 1) := bdX12_second_0.2.2.2.2.2.2.1
theorem dX12_second_9 : decode cX12_second 9 = .ok (.invokevirtual 359, 3) := bdX12_second_0.2.2.2.2.2.2.2.1
theorem dX12_second_12 : decode cX12_second 12 = .ok (.iconst 0, 1) := bdX12_second_0.2.2.2.2.2.2.2.2.1
theorem dX12_second_13 : decode cX12_second 13 = .ok (.istore_n 2, 1) := bdX12_second_0.2.2.2.2.2.2.2.2.2.1
theorem dX12_second_14 : decode cX12_second 14 = .ok (.iload_n 2, 1) := bdX12_second_0.2.2.2.2.2.2.2.2.2.2.1
theorem dX12_second_15 : decode cX12_second 15 = .ok (.aload_n 0, 1) := bdX12_second_0.2.2.2.2.2.2.2.2.2.2.2.1
theorem dX12_second_16 : decode cX12_second 16 = .ok (.getfield 7, 3) := bdX12_second_0.2.2.2.2.2.2.2.2.2.2.2.2.1
theorem dX12_second_19 : decode cX12_second 19 = .ok (.iconst 1, 1) := bdX12_second_0.2.2.2.2.2.2.2.2.2.2.2.2.2.1
theorem dX12_second_20 : decode cX12_second 20 = .ok (.iaload, 1) := bdX12_second_0.2.2.2.2.2.2.2.2.2.2.2.2.2.2.1
theorem dX12_second_21 : decode cX12_second 21 = .ok (.if_icmp .ge 14, 3) := bdX12_second_0.2.2.2.2.2.2.2.2.2.2.2.2.2.2.2
theorem bdX12_second_24 : (decode cX12_second 24 = .ok (.aload_n 0, 1)) ∧ (decode cX12_second 25 = .ok (.iload_n 2, 1)) ∧ (decode cX12_second 26 = .ok (.invokevirtual 362, 3)) ∧ (decode cX12_second 29 = .ok (.iinc 2 1, 3)) ∧ (decode cX12_second 32 = .ok (.goto (-18), 3)) ∧ (decode cX12_second 35 = .ok (.iconst 0, 1)) ∧ (decode cX12_second 36 = .ok (.istore_n 2, 1)) ∧ (decode cX12_second 37 = .ok (.iload_n 2, 1)) ∧ (decode cX12_second 38 = .ok (.aload_n 0, 1)) ∧ (decode cX12_second 39 = .ok (.getfield 7, 3)) ∧ (decode cX12_second 42 = .ok (.iconst 2, 1)) ∧ (decode cX12_second 43 = .ok (.iaload, 1)) ∧ (decode cX12_second 44 = .ok (.if_icmp .ge 40, 3)) ∧ (decode cX12_second 47 = .ok (.aload_n 0, 1)) ∧ (decode cX12_second 48 = .ok (.iload_n 2, 1)) ∧ (decode cX12_second 49 = .ok (.iconst 0, 1)) := by decide +kernel
theorem dX12_second_24 : decode cX12_second 24 = .ok (.aload_n 0, 1) := bdX12_second_24.1
theorem dX12_second_25 : decode cX12_second 25 = .ok (.iload_n 2, 1) := bdX12_second_24.2.1
theorem dX12_second_26 : decode cX12_second 26 = .ok (.invokevirtual 362, 3) := bdX12_second_24.2.2.1
theorem dX12_second_29 : decode cX12_second 29 = .ok (.iinc 2 1, 3) := bdX12_second_24.2.2.2.1
theorem dX12_second_32 : decode cX12_second 32 = .ok (.goto (-18), 3) := bdX12_second_24.2.2.2.2.1
theorem dX12_second_35 : decode cX12_second 35 = .ok (.iconst 0, 1) := bdX12_second_24.2.2.2.2.2.1
theorem dX12_second_36 : decode cX12_second 36 = .ok (.istore_n 2, 1) := bdX12_second_24.2.2.2.2.2.2.1
theorem dX12_second_37 : decode cX12_second 37 = .ok (.iload_n 2, 1) := bdX12_second_24.2.2.2.2.2.2.2.1
theorem dX12_second_38 : decode cX12_second 38 = .ok (.aload_n 0, 1) := bdX12_second_24.2.2.2.2.2.2.2.2.1
theorem dX12_second_39 : decode cX12_second 39 = .ok (.getfield 7, 3) := bdX12_second_24.2.2.2.2.2.2.2.2.2.1
theorem dX12_second_42 : decode cX12_second 42 = .ok (.iconst 2, 1) := bdX12_second_24.2.2.2.2.2.2.2.2.2.2.1
theorem dX12_second_43 : decode cX12_second 43 = .ok (.iaload, 1) := bdX12_second_24.2.2.2.2.2.2.2.2.2.2.2.1
theorem dX12_second_44 : decode cX12_second 44 = .ok (.if_icmp .ge 40, 3) := bdX12_second_24.2.2.2.2.2.2.2.2.2.2.2.2.1
theorem dX12_second_47 : decode cX12_second 47 = .ok (.aload_n 0, 1) := bdX12_second_24.2.2.2.2.2.2.2.2.2.2.2.2.2.1
theorem dX12_second_48 : decode cX12_second 48 = .ok (.iload_n 2, 1) := bdX12_second_24.2.2.2.2.2.2.2.2.2.2.2.2.2.2.1
theorem dX12_second_49 : decode cX12_second 49 = .ok (.iconst 0, 1) := bdX12_second_24.2.2.2.2.2.2.2.2.2.2.2.2.2.2.2
theorem bdX12_second_50 : (decode cX12_second 50 = .ok (.invokevirtual 103, 3)) ∧ (decode cX12_second 53 = .ok (.iconst 2, 1)) ∧ (decode cX12_second 54 = .ok (.if_icmp .ge 24, 3)) ∧ (decode cX12_second 57 = .ok (.aload_n 0, 1)) ∧ (decode cX12_second 58 = .ok (.iload_n 2, 1)) ∧ (decode cX12_second 59 = .ok (.invokevirtual 117, 3)) ∧ (decode cX12_second 62 = .ok (.ifCond .ne 16, 3)) ∧ (decode cX12_second 65 = .ok (.aload_n 0, 1)) ∧ (decode cX12_second 66 = .ok (.iload_n 2, 1)) ∧ (decode cX12_second 67 = .ok (.iconst 5, 1)) ∧ (decode cX12_second 68 = .ok (.aload_n 0, 1)) ∧ (decode cX12_second 69 = .ok (.iload_n 2, 1)) ∧ (decode cX12_second 70 = .ok (.bipush 7, 2)) ∧ (decode cX12_second 72 = .ok (.invokevirtual 103, 3)) ∧ (decode cX12_second 75 = .ok (.invokevirtual 110, 3)) ∧ (decode cX12_second 78 = .ok (.iinc 2 1, 3)) := by decide +kernel
theorem dX12_second_50 : decode cX12_second 50 = .ok (.invokevirtual 103, 3) := bdX12_second_50.1
theorem dX12_second_53 : decode cX12_second 53 = .ok (.iconst 2, 1) := bdX12_second_50.2.1
theorem dX12_second_54 : decode cX12_second 54 = .ok (.if_icmp .ge 24, 3) := bdX12_second_50.2.2.1
theorem dX12_second_57 : decode cX12_second 57 = .ok (.aload_n 0, 1) := bdX12_second_50.2.2.2.1
theorem dX12_second_58 : decode cX12_second 58 = .ok (.iload_n 2, 1) := bdX12_second_50.2.2.2.2.1
theorem dX12_second_59 : decode cX12_second 59 = .ok (.invokevirtual 117, 3) := bdX12_second_50.2.2.2.2.2.1
theorem dX12_second_62 : decode cX12_second 62 = .ok (.ifCond .ne 16, 3) := bdX12_second_50.2.2.2.2.2.2.1
theorem dX12_second_65 : decode cX12_second 65 = .ok (.aload_n 0, 1) := bdX12_second_50.2.2.2.2.2.2.2.1
theorem dX12_second_66 : decode cX12_second 66 = .ok (.iload_n 2, 1) := bdX12_second_50.2.2.2.2.2.2.2.2.1
theorem dX12_second_67 : decode cX12_second 67 = .ok (.iconst 5, 1) := bdX12_second_50.2.2.2.2.2.2.2.2.2.1
theorem dX12_second_68 : decode cX12_second 68 = .ok (.aload_n 0, 1) := bdX12_second_50.2.2.2.2.2.2.2.2.2.2.1
theorem dX12_second_69 : decode cX12_second 69 = .ok (.iload_n 2, 1) := bdX12_second_50.2.2.2.2.2.2.2.2.2.2.2.1
theorem dX12_second_70 : decode cX12_second 70 = .ok (.bipush 7, 2) := bdX12_second_50.2.2.2.2.2.2.2.2.2.2.2.2.1
theorem dX12_second_72 : decode cX12_second 72 = .ok (.invokevirtual 103, 3) := bdX12_second_50.2.2.2.2.2.2.2.2.2.2.2.2.2.1
theorem dX12_second_75 : decode cX12_second 75 = .ok (.invokevirtual 110, 3) := bdX12_second_50.2.2.2.2.2.2.2.2.2.2.2.2.2.2.1
theorem dX12_second_78 : decode cX12_second 78 = .ok (.iinc 2 1, 3) := bdX12_second_50.2.2.2.2.2.2.2.2.2.2.2.2.2.2.2
theorem bdX12_second_81 : (decode cX12_second 81 = .ok (.goto (-44), 3)) ∧ (decode cX12_second 84 = .ok (.aload_n 0, 1)) ∧ (decode cX12_second 85 = .ok (.invokevirtual 365, 3)) ∧ (decode cX12_second 88 = .ok (.iconst 0, 1)) ∧ (decode cX12_second 89 = .ok (.istore_n 2, 1)) ∧ (decode cX12_second 90 = .ok (.iload_n 2, 1)) ∧ (decode cX12_second 91 = .ok (.aload_n 0, 1)) ∧ (decode cX12_second 92 = .ok (.getfield 7, 3)) ∧ (decode cX12_second 95 = .ok (.iconst 2, 1)) ∧ (decode cX12_second 96 = .ok (.iaload, 1)) ∧ (decode cX12_second 97 = .ok (.if_icmp .ge 73, 3)) ∧ (decode cX12_second 100 = .ok (.aload_n 0, 1)) ∧ (decode cX12_second 101 = .ok (.iload_n 2, 1)) ∧ (decode cX12_second 102 = .ok (.iconst 0, 1)) ∧ (decode cX12_second 103 = .ok (.invokevirtual 103, 3)) ∧ (decode cX12_second 106 = .ok (.iconst 2, 1)) := by decide +kernel
theorem dX12_second_81 : decode cX12_second 81 = .ok (.goto (-44), 3) := bdX12_second_81.1
theorem dX12_second_84 : decode cX12_second 84 = .ok (.aload_n 0, 1) := bdX12_second_81.2.1
theorem dX12_second_85 : decode cX12_second 85 = .ok (.invokevirtual 365, 3) := bdX12_second_81.2.2.1
theorem dX12_second_88 : decode cX12_second 88 = .ok (.iconst 0, 1) := bdX12_second_81.2.2.2.1
theorem dX12_second_89 : decode cX12_second 89 = .ok (.istore_n 2, 1) := bdX12_second_81.2.2.2.2.1
theorem dX12_second_90 : decode cX12_second 90 = .ok (.iload_n 2, 1) := bdX12_second_81.2.2.2.2.2.1
theorem dX12_second_91 : decode cX12_second 91 = .ok (.aload_n 0, 1) := bdX12_second_81.2.2.2.2.2.2.1
theorem dX12_second_92 : decode cX12_second 92 = .ok (.getfield 7, 3) := bdX12_second_81.2.2.2.2.2.2.2.1
theorem dX12_second_95 : decode cX12_second 95 = .ok (.iconst 2, 1) := bdX12_second_81.2.2.2.2.2.2.2.2.1
theorem dX12_second_96 : decode cX12_second 96 = .ok (.iaload, 1) := bdX12_second_81.2.2.2.2.2.2.2.2.2.1
theorem dX12_second_97 : decode cX12_second 97 = .ok (.if_icmp .ge 73, 3) := bdX12_second_81.2.2.2.2.2.2.2.2.2.2.1
theorem dX12_second_100 : decode cX12_second 100 = .ok (.aload_n 0, 1) := bdX12_second_81.2.2.2.2.2.2.2.2.2.2.2.1
theorem dX12_second_101 : decode cX12_second 101 = .ok (.iload_n 2, 1) := bdX12_second_81.2.2.2.2.2.2.2.2.2.2.2.2.1
theorem dX12_second_102 : decode cX12_second 102 = .ok (.iconst 0, 1) := bdX12_second_81.2.2.2.2.2.2.2.2.2.2.2.2.2.1
theorem dX12_second_103 : decode cX12_second 103 = .ok (.invokevirtual 103, 3) := bdX12_second_81.2.2.2.2.2.2.2.2.2.2.2.2.2.2.1
theorem dX12_second_106 : decode cX12_second 106 = .ok (.iconst 2, 1) := bdX12_second_81.2.2.2.2.2.2.2.2.2.2.2.2.2.2.2
theorem bdX12_second_107 : (decode cX12_second 107 = .ok (.if_icmp .ge 12, 3)) ∧ (decode cX12_second 110 = .ok (.aload_n 0, 1)) ∧ (decode cX12_second 111 = .ok (.iload_n 2, 1)) ∧ (decode cX12_second 112 = .ok (.iload_n 1, 1)) ∧ (decode cX12_second 113 = .ok (.invokevirtual 368, 3)) ∧ (decode cX12_second 116 = .ok (.goto 48, 3)) ∧ (decode cX12_second 119 = .ok (.iload_n 1, 1)) ∧ (decode cX12_second 120 = .ok (.aload_n 0, 1)) ∧ (decode cX12_second 121 = .ok (.iload_n 2, 1)) ∧ (decode cX12_second 122 = .ok (.iconst 4, 1)) ∧ (decode cX12_second 123 = .ok (.invokevirtual 103, 3)) ∧ (decode cX12_second 126 = .ok (.irem, 1)) ∧ (decode cX12_second 127 = .ok (.ifCond .ne 37, 3)) ∧ (decode cX12_second 130 = .ok (.aload_n 0, 1)) ∧ (decode cX12_second 131 = .ok (.iload_n 2, 1)) ∧ (decode cX12_second 132 = .ok (.aload_n 0, 1)) := by decide +kernel
theorem dX12_second_107 : decode cX12_second 107 = .ok (.if_icmp .ge 12, 3) := bdX12_second_107.1
theorem dX12_second_110 : decode cX12_second 110 = .ok (.aload_n 0, 1) := bdX12_second_107.2.1
theorem dX12_second_111 : decode cX12_second 111 = .ok (.iload_n 2, 1) := bdX12_second_107.2.2.1
theorem dX12_second_112 : decode cX12_second 112 = .ok (.iload_n 1, 1) := bdX12_second_107.2.2.2.1
theorem dX12_second_113 : decode cX12_second 113 = .ok (.invokevirtual 368, 3) := bdX12_second_107.2.2.2.2.1
theorem dX12_second_116 : decode cX12_second 116 = .ok (.goto 48, 3) := bdX12_second_107.2.2.2.2.2.1
theorem dX12_second_119 : decode cX12_second 119 = .ok (.iload_n 1, 1) := bdX12_second_107.2.2.2.2.2.2.1
theorem dX12_second_120 : decode cX12_second 120 = .ok (.aload_n 0, 1) := bdX12_second_107.2.2.2.2.2.2.2.1
theorem dX12_second_121 : decode cX12_second 121 = .ok (.iload_n 2, 1) := bdX12_second_107.2.2.2.2.2.2.2.2.1
theorem dX12_second_122 : decode cX12_second 122 = .ok (.iconst 4, 1) := bdX12_second_107.2.2.2.2.2.2.2.2.2.1
theorem dX12_second_123 : decode cX12_second 123 = .ok (.invokevirtual 103, 3) := bdX12_second_107.2.2.2.2.2.2.2.2.2.2.1
theorem dX12_second_126 : decode cX12_second 126 = .ok (.irem, 1) := bdX12_second_107.2.2.2.2.2.2.2.2.2.2.2.1
theorem dX12_second_127 : decode cX12_second 127 = .ok (.ifCond .ne 37, 3) := bdX12_second_107.2.2.2.2.2.2.2.2.2.2.2.2.1
theorem dX12_second_130 : decode cX12_second 130 = .ok (.aload_n 0, 1) := bdX12_second_107.2.2.2.2.2.2.2.2.2.2.2.2.2.1
theorem dX12_second_131 : decode cX12_second 131 = .ok (.iload_n 2, 1) := bdX12_second_107.2.2.2.2.2.2.2.2.2.2.2.2.2.2.1
theorem dX12_second_132 : decode cX12_second 132 = .ok (.aload_n 0, 1) := bdX12_second_107.2.2.2.2.2.2.2.2.2.2.2.2.2.2.2
theorem bdX12_second_133 : (decode cX12_second 133 = .ok (.iload_n 2, 1)) ∧ (decode cX12_second 134 = .ok (.iconst 1, 1)) ∧ (decode cX12_second 135 = .ok (.invokevirtual 103, 3)) ∧ (decode cX12_second 138 = .ok (.aload_n 0, 1)) ∧ (decode cX12_second 139 = .ok (.iload_n 2, 1)) ∧ (decode cX12_second 140 = .ok (.iconst 2, 1)) ∧ (decode cX12_second 141 = .ok (.invokevirtual 103, 3)) ∧ (decode cX12_second 144 = .ok (.invokevirtual 371, 3)) ∧ (decode cX12_second 147 = .ok (.aload_n 0, 1)) ∧ (decode cX12_second 148 = .ok (.iload_n 2, 1)) ∧ (decode cX12_second 149 = .ok (.aload_n 0, 1)) ∧ (decode cX12_second 150 = .ok (.iload_n 2, 1)) ∧ (decode cX12_second 151 = .ok (.iconst 2, 1)) ∧ (decode cX12_second 152 = .ok (.invokevirtual 103, 3)) ∧ (decode cX12_second 155 = .ok (.aload_n 0, 1)) ∧ (decode cX12_second 156 = .ok (.iload_n 2, 1)) := by decide +kernel
theorem dX12_second_133 : decode cX12_second 133 = .ok (.iload_n 2, 1) := bdX12_second_133.1
theorem dX12_second_134 : decode cX12_second 134 = .ok (.iconst 1, 1) := bdX12_second_133.2.1
theorem dX12_second_135 : decode cX12_second 135 = .ok (.invokevirtual 103, 3) := bdX12_second_133.2.2.1
theorem dX12_second_138 : decode cX12_second 138 = .ok (.aload_n 0, 1) := bdX12_second_133.2.2.2.1
theorem dX12_second_139 : decode cX12_second 139 = .ok (.iload_n 2, 1) := bdX12_second_133.2.2.2.2.1
theorem dX12_second_140 : decode cX12_second 140 = .ok (.iconst 2, 1) := bdX12_second_133.2.2.2.2.2.1
theorem dX12_second_141 : decode cX12_second 141 = .ok (.invokevirtual 103, 3) := bdX12_second_133.2.2.2.2.2.2.1
theorem dX12_second_144 : decode cX12_second 144 = .ok (.invokevirtual 371, 3) := bdX12_second_133.2.2.2.2.2.2.2.1
theorem dX12_second_147 : decode cX12_second 147 = .ok (.aload_n 0, 1) := bdX12_second_133.2.2.2.2.2.2.2.2.1
theorem dX12_second_148 : decode cX12_second 148 = .ok (.iload_n 2, 1) := bdX12_second_133.2.2.2.2.2.2.2.2.2.1
theorem dX12_second_149 : decode cX12_second 149 = .ok (.aload_n 0, 1) := bdX12_second_133.2.2.2.2.2.2.2.2.2.2.1
theorem dX12_second_150 : decode cX12_second 150 = .ok (.iload_n 2, 1) := bdX12_second_133.2.2.2.2.2.2.2.2.2.2.2.1
theorem dX12_second_151 : decode cX12_second 151 = .ok (.iconst 2, 1) := bdX12_second_133.2.2.2.2.2.2.2.2.2.2.2.2.1
theorem dX12_second_152 : decode cX12_second 152 = .ok (.invokevirtual 103, 3) := bdX12_second_133.2.2.2.2.2.2.2.2.2.2.2.2.2.1
theorem dX12_second_155 : decode cX12_second 155 = .ok (.aload_n 0, 1) := bdX12_second_133.2.2.2.2.2.2.2.2.2.2.2.2.2.2.1
theorem dX12_second_156 : decode cX12_second 156 = .ok (.iload_n 2, 1) := bdX12_second_133.2.2.2.2.2.2.2.2.2.2.2.2.2.2.2
theorem bdX12_second_157 : (decode cX12_second 157 = .ok (.iconst 1, 1)) ∧ (decode cX12_second 158 = .ok (.invokevirtual 103, 3)) ∧ (decode cX12_second 161 = .ok (.invokevirtual 371, 3)) ∧ (decode cX12_second 164 = .ok (.iinc 2 1, 3)) ∧ (decode cX12_second 167 = .ok (.goto (-77), 3)) ∧ (decode cX12_second 170 = .ok (.iconst 0, 1)) ∧ (decode cX12_second 171 = .ok (.istore_n 2, 1)) ∧ (decode cX12_second 172 = .ok (.iload_n 2, 1)) ∧ (decode cX12_second 173 = .ok (.aload_n 0, 1)) ∧ (decode cX12_second 174 = .ok (.getfield 7, 3)) ∧ (decode cX12_second 177 = .ok (.iconst 1, 1)) ∧ (decode cX12_second 178 = .ok (.iaload, 1)) ∧ (decode cX12_second 179 = .ok (.if_icmp .ge 115, 3)) ∧ (decode cX12_second 182 = .ok (.aload_n 0, 1)) ∧ (decode cX12_second 183 = .ok (.getfield 7, 3)) ∧ (decode cX12_second 186 = .ok (.bipush 10, 2)) := by decide +kernel
theorem dX12_second_157 : decode cX12_second 157 = .ok (.iconst 1, 1) := bdX12_second_157.1
theorem dX12_second_158 : decode cX12_second 158 = .ok (.invokevirtual 103, 3) := bdX12_second_157.2.1
theorem dX12_second_161 : decode cX12_second 161 = .ok (.invokevirtual 371, 3) := bdX12_second_157.2.2.1
theorem dX12_second_164 : decode cX12_second 164 = .ok (.iinc 2 1, 3) := bdX12_second_157.2.2.2.1
theorem dX12_second_167 : decode cX12_second 167 = .ok (.goto (-77), 3) := bdX12_second_157.2.2.2.2.1
theorem dX12_second_170 : decode cX12_second 170 = .ok (.iconst 0, 1) := bdX12_second_157.2.2.2.2.2.1
theorem dX12_second_171 : decode cX12_second 171 = .ok (.istore_n 2, 1) := bdX12_second_157.2.2.2.2.2.2.1
theorem dX12_second_172 : decode cX12_second 172 = .ok (.iload_n 2, 1) := bdX12_second_157.2.2.2.2.2.2.2.1
theorem dX12_second_173 : decode cX12_second 173 = .ok (.aload_n 0, 1) := bdX12_second_157.2.2.2.2.2.2.2.2.1
theorem dX12_second_174 : decode cX12_second 174 = .ok (.getfield 7, 3) := bdX12_second_157.2.2.2.2.2.2.2.2.2.1
theorem dX12_second_177 : decode cX12_second 177 = .ok (.iconst 1, 1) := bdX12_second_157.2.2.2.2.2.2.2.2.2.2.1
theorem dX12_second_178 : decode cX12_second 178 = .ok (.iaload, 1) := bdX12_second_157.2.2.2.2.2.2.2.2.2.2.2.1
theorem dX12_second_179 : decode cX12_second 179 = .ok (.if_icmp .ge 115, 3) := bdX12_second_157.2.2.2.2.2.2.2.2.2.2.2.2.1
theorem dX12_second_182 : decode cX12_second 182 = .ok (.aload_n 0, 1) := bdX12_second_157.2.2.2.2.2.2.2.2.2.2.2.2.2.1
theorem dX12_second_183 : decode cX12_second 183 = .ok (.getfield 7, 3) := bdX12_second_157.2.2.2.2.2.2.2.2.2.2.2.2.2.2.1
theorem dX12_second_186 : decode cX12_second 186 = .ok (.bipush 10, 2) := bdX12_second_157.2.2.2.2.2.2.2.2.2.2.2.2.2.2.2
theorem bdX12_second_188 : (decode cX12_second 188 = .ok (.iaload, 1)) ∧ (decode cX12_second 189 = .ok (.aload_n 0, 1)) ∧ (decode cX12_second 190 = .ok (.iload_n 2, 1)) ∧ (decode cX12_second 191 = .ok (.invokevirtual 292, 3)) ∧ (decode cX12_second 194 = .ok (.iadd, 1)) ∧ (decode cX12_second 195 = .ok (.aload_n 0, 1)) ∧ (decode cX12_second 196 = .ok (.sipush 130, 3)) ∧ (decode cX12_second 199 = .ok (.iload_n 2, 1)) ∧ (decode cX12_second 200 = .ok (.invokevirtual 289, 3)) ∧ (decode cX12_second 203 = .ok (.iadd, 1)) ∧ (decode cX12_second 204 = .ok (.istore_n 3, 1)) ∧ (decode cX12_second 205 = .ok (.aload_n 0, 1)) ∧ (decode cX12_second 206 = .ok (.getfield 7, 3)) ∧ (decode cX12_second 209 = .ok (.bipush 10, 2)) ∧ (decode cX12_second 211 = .ok (.iload_n 3, 1)) ∧ (decode cX12_second 212 = .ok (.ldc_w 317, 3)) := by decide +kernel
theorem dX12_second_188 : decode cX12_second 188 = .ok (.iaload, 1) := bdX12_second_188.1
theorem dX12_second_189 : decode cX12_second 189 = .ok (.aload_n 0, 1) := bdX12_second_188.2.1
theorem dX12_second_190 : decode cX12_second 190 = .ok (.iload_n 2, 1) := bdX12_second_188.2.2.1
theorem dX12_second_191 : decode cX12_second 191 = .ok (.invokevirtual 292, 3) := bdX12_second_188.2.2.2.1
theorem dX12_second_194 : decode cX12_second 194 = .ok (.iadd, 1) := bdX12_second_188.2.2.2.2.1
theorem dX12_second_195 : decode cX12_second 195 = .ok (.aload_n 0, 1) := bdX12_second_188.2.2.2.2.2.1
theorem dX12_second_196 : decode cX12_second 196 = .ok (.sipush 130, 3) := bdX12_second_188.2.2.2.2.2.2.1
theorem dX12_second_199 : decode cX12_second 199 = .ok (.iload_n 2, 1) := bdX12_second_188.2.2.2.2.2.2.2.1
theorem dX12_second_200 : decode cX12_second 200 = .ok (.invokevirtual 289, 3) := bdX12_second_188.2.2.2.2.2.2.2.2.1
theorem dX12_second_203 : decode cX12_second 203 = .ok (.iadd, 1) := bdX12_second_188.2.2.2.2.2.2.2.2.2.1
theorem dX12_second_204 : decode cX12_second 204 = .ok (.istore_n 3, 1) := bdX12_second_188.2.2.2.2.2.2.2.2.2.2.1
theorem dX12_second_205 : decode cX12_second 205 = .ok (.aload_n 0, 1) := bdX12_second_188.2.2.2.2.2.2.2.2.2.2.2.1
theorem dX12_second_206 : decode cX12_second 206 = .ok (.getfield 7, 3) := bdX12_second_188.2.2.2.2.2.2.2.2.2.2.2.2.1
theorem dX12_second_209 : decode cX12_second 209 = .ok (.bipush 10, 2) := bdX12_second_188.2.2.2.2.2.2.2.2.2.2.2.2.2.1
theorem dX12_second_211 : decode cX12_second 211 = .ok (.iload_n 3, 1) := bdX12_second_188.2.2.2.2.2.2.2.2.2.2.2.2.2.2.1
theorem dX12_second_212 : decode cX12_second 212 = .ok (.ldc_w 317, 3) := bdX12_second_188.2.2.2.2.2.2.2.2.2.2.2.2.2.2.2
theorem bdX12_second_215 : (decode cX12_second 215 = .ok (.if_icmp .le 9, 3)) ∧ (decode cX12_second 218 = .ok (.ldc_w 317, 3)) ∧ (decode cX12_second 221 = .ok (.goto 4, 3)) ∧ (decode cX12_second 224 = .ok (.iload_n 3, 1)) ∧ (decode cX12_second 225 = .ok (.iastore, 1)) ∧ (decode cX12_second 226 = .ok (.aload_n 0, 1)) ∧ (decode cX12_second 227 = .ok (.getfield 7, 3)) ∧ (decode cX12_second 230 = .ok (.bipush 20, 2)) ∧ (decode cX12_second 232 = .ok (.iconst 4, 1)) ∧ (decode cX12_second 233 = .ok (.iload_n 2, 1)) ∧ (decode cX12_second 234 = .ok (.imul, 1)) ∧ (decode cX12_second 235 = .ok (.iadd, 1)) ∧ (decode cX12_second 236 = .ok (.iconst 2, 1)) ∧ (decode cX12_second 237 = .ok (.iadd, 1)) ∧ (decode cX12_second 238 = .ok (.dup2, 1)) ∧ (decode cX12_second 239 = .ok (.iaload, 1)) := by decide +kernel
theorem dX12_second_215 : decode cX12_second 215 = .ok (.if_icmp .le 9, 3) := bdX12_second_215.1
theorem dX12_second_218 : decode cX12_second 218 = .ok (.ldc_w 317, 3) := bdX12_second_215.2.1
theorem dX12_second_221 : decode cX12_second 221 = .ok (.goto 4, 3) := bdX12_second_215.2.2.1
theorem dX12_second_224 : decode cX12_second 224 = .ok (.iload_n 3, 1) := bdX12_second_215.2.2.2.1
theorem dX12_second_225 : decode cX12_second 225 = .ok (.iastore, 1) := bdX12_second_215.2.2.2.2.1
theorem dX12_second_226 : decode cX12_second 226 = .ok (.aload_n 0, 1) := bdX12_second_215.2.2.2.2.2.1
theorem dX12_second_227 : decode cX12_second 227 = .ok (.getfield 7, 3) := bdX12_second_215.2.2.2.2.2.2.1
theorem dX12_second_230 : decode cX12_second 230 = .ok (.bipush 20, 2) := bdX12_second_215.2.2.2.2.2.2.2.1
theorem dX12_second_232 : decode cX12_second 232 = .ok (.iconst 4, 1) := bdX12_second_215.2.2.2.2.2.2.2.2.1
theorem dX12_second_233 : decode cX12_second 233 = .ok (.iload_n 2, 1) := bdX12_second_215.2.2.2.2.2.2.2.2.2.1
theorem dX12_second_234 : decode cX12_second 234 = .ok (.imul, 1) := bdX12_second_215.2.2.2.2.2.2.2.2.2.2.1
theorem dX12_second_235 : decode cX12_second 235 = .ok (.iadd, 1) := bdX12_second_215.2.2.2.2.2.2.2.2.2.2.2.1
theorem dX12_second_236 : decode cX12_second 236 = .ok (.iconst 2, 1) := bdX12_second_215.2.2.2.2.2.2.2.2.2.2.2.2.1
theorem dX12_second_237 : decode cX12_second 237 = .ok (.iadd, 1) := bdX12_second_215.2.2.2.2.2.2.2.2.2.2.2.2.2.1
theorem dX12_second_238 : decode cX12_second 238 = .ok (.dup2, 1) := bdX12_second_215.2.2.2.2.2.2.2.2.2.2.2.2.2.2.1
theorem dX12_second_239 : decode cX12_second 239 = .ok (.iaload, 1) := bdX12_second_215.2.2.2.2.2.2.2.2.2.2.2.2.2.2.2
theorem bdX12_second_240 : (decode cX12_second 240 = .ok (.aload_n 0, 1)) ∧ (decode cX12_second 241 = .ok (.getfield 76, 3)) ∧ (decode cX12_second 244 = .ok (.iload_n 2, 1)) ∧ (decode cX12_second 245 = .ok (.baload, 1)) ∧ (decode cX12_second 246 = .ok (.ifCond .eq 7, 3)) ∧ (decode cX12_second 249 = .ok (.iconst 1, 1)) ∧ (decode cX12_second 250 = .ok (.goto 4, 3)) ∧ (decode cX12_second 253 = .ok (.iconst 0, 1)) ∧ (decode cX12_second 254 = .ok (.iadd, 1)) ∧ (decode cX12_second 255 = .ok (.iastore, 1)) ∧ (decode cX12_second 256 = .ok (.aload_n 0, 1)) ∧ (decode cX12_second 257 = .ok (.iload_n 2, 1)) ∧ (decode cX12_second 258 = .ok (.invokevirtual 374, 3)) ∧ (decode cX12_second 261 = .ok (.ifCond .eq 27, 3)) ∧ (decode cX12_second 264 = .ok (.aload_n 0, 1)) ∧ (decode cX12_second 265 = .ok (.iload_n 2, 1)) := by decide +kernel
theorem dX12_second_240 : decode cX12_second 240 = .ok (.aload_n 0, 1) := bdX12_second_240.1
theorem dX12_second_241 : decode cX12_second 241 = .ok (.getfield 76, 3) := bdX12_second_240.2.1
theorem dX12_second_244 : decode cX12_second 244 = .ok (.iload_n 2, 1) := bdX12_second_240.2.2.1
theorem dX12_second_245 : decode cX12_second 245 = .ok (.baload, 1) := bdX12_second_240.2.2.2.1
theorem dX12_second_246 : decode cX12_second 246 = .ok (.ifCond .eq 7, 3) := bdX12_second_240.2.2.2.2.1
theorem dX12_second_249 : decode cX12_second 249 = .ok (.iconst 1, 1) := bdX12_second_240.2.2.2.2.2.1
theorem dX12_second_250 : decode cX12_second 250 = .ok (.goto 4, 3) := bdX12_second_240.2.2.2.2.2.2.1
theorem dX12_second_253 : decode cX12_second 253 = .ok (.iconst 0, 1) := bdX12_second_240.2.2.2.2.2.2.2.1
theorem dX12_second_254 : decode cX12_second 254 = .ok (.iadd, 1) := bdX12_second_240.2.2.2.2.2.2.2.2.1
theorem dX12_second_255 : decode cX12_second 255 = .ok (.iastore, 1) := bdX12_second_240.2.2.2.2.2.2.2.2.2.1
theorem dX12_second_256 : decode cX12_second 256 = .ok (.aload_n 0, 1) := bdX12_second_240.2.2.2.2.2.2.2.2.2.2.1
theorem dX12_second_257 : decode cX12_second 257 = .ok (.iload_n 2, 1) := bdX12_second_240.2.2.2.2.2.2.2.2.2.2.2.1
theorem dX12_second_258 : decode cX12_second 258 = .ok (.invokevirtual 374, 3) := bdX12_second_240.2.2.2.2.2.2.2.2.2.2.2.2.1
theorem dX12_second_261 : decode cX12_second 261 = .ok (.ifCond .eq 27, 3) := bdX12_second_240.2.2.2.2.2.2.2.2.2.2.2.2.2.1
theorem dX12_second_264 : decode cX12_second 264 = .ok (.aload_n 0, 1) := bdX12_second_240.2.2.2.2.2.2.2.2.2.2.2.2.2.2.1
theorem dX12_second_265 : decode cX12_second 265 = .ok (.iload_n 2, 1) := bdX12_second_240.2.2.2.2.2.2.2.2.2.2.2.2.2.2.2
theorem bdX12_second_266 : (decode cX12_second 266 = .ok (.iconst 3, 1)) ∧ (decode cX12_second 267 = .ok (.invokevirtual 295, 3)) ∧ (decode cX12_second 270 = .ok (.iconst (-1), 1)) ∧ (decode cX12_second 271 = .ok (.if_icmp .ne 17, 3)) ∧ (decode cX12_second 274 = .ok (.aload_n 0, 1)) ∧ (decode cX12_second 275 = .ok (.getfield 7, 3)) ∧ (decode cX12_second 278 = .ok (.bipush 20, 2)) ∧ (decode cX12_second 280 = .ok (.iconst 4, 1)) ∧ (decode cX12_second 281 = .ok (.iload_n 2, 1)) ∧ (decode cX12_second 282 = .ok (.imul, 1)) ∧ (decode cX12_second 283 = .ok (.iadd, 1)) ∧ (decode cX12_second 284 = .ok (.iconst 3, 1)) ∧ (decode cX12_second 285 = .ok (.iadd, 1)) ∧ (decode cX12_second 286 = .ok (.iload_n 1, 1)) ∧ (decode cX12_second 287 = .ok (.iastore, 1)) ∧ (decode cX12_second 288 = .ok (.iinc 2 1, 3)) := by decide +kernel
theorem dX12_second_266 : decode cX12_second 266 = .ok (.iconst 3, 1) := bdX12_second_266.1
theorem dX12_second_267 : decode cX12_second 267 = .ok (.invokevirtual 295, 3) := bdX12_second_266.2.1
theorem dX12_second_270 : decode cX12_second 270 = .ok (.iconst (-1), 1) := bdX12_second_266.2.2.1
theorem dX12_second_271 : decode cX12_second 271 = .ok (.if_icmp .ne 17, 3) := bdX12_second_266.2.2.2.1
theorem dX12_second_274 : decode cX12_second 274 = .ok (.aload_n 0, 1) := bdX12_second_266.2.2.2.2.1
theorem dX12_second_275 : decode cX12_second 275 = .ok (.getfield 7, 3) := bdX12_second_266.2.2.2.2.2.1
theorem dX12_second_278 : decode cX12_second 278 = .ok (.bipush 20, 2) := bdX12_second_266.2.2.2.2.2.2.1
theorem dX12_second_280 : decode cX12_second 280 = .ok (.iconst 4, 1) := bdX12_second_266.2.2.2.2.2.2.2.1
theorem dX12_second_281 : decode cX12_second 281 = .ok (.iload_n 2, 1) := bdX12_second_266.2.2.2.2.2.2.2.2.1
theorem dX12_second_282 : decode cX12_second 282 = .ok (.imul, 1) := bdX12_second_266.2.2.2.2.2.2.2.2.2.1
theorem dX12_second_283 : decode cX12_second 283 = .ok (.iadd, 1) := bdX12_second_266.2.2.2.2.2.2.2.2.2.2.1
theorem dX12_second_284 : decode cX12_second 284 = .ok (.iconst 3, 1) := bdX12_second_266.2.2.2.2.2.2.2.2.2.2.2.1
theorem dX12_second_285 : decode cX12_second 285 = .ok (.iadd, 1) := bdX12_second_266.2.2.2.2.2.2.2.2.2.2.2.2.1
theorem dX12_second_286 : decode cX12_second 286 = .ok (.iload_n 1, 1) := bdX12_second_266.2.2.2.2.2.2.2.2.2.2.2.2.2.1
theorem dX12_second_287 : decode cX12_second 287 = .ok (.iastore, 1) := bdX12_second_266.2.2.2.2.2.2.2.2.2.2.2.2.2.2.1
theorem dX12_second_288 : decode cX12_second 288 = .ok (.iinc 2 1, 3) := bdX12_second_266.2.2.2.2.2.2.2.2.2.2.2.2.2.2.2
theorem bdX12_second_291 : (decode cX12_second 291 = .ok (.goto (-119), 3)) ∧ (decode cX12_second 294 = .ok (.aload_n 0, 1)) ∧ (decode cX12_second 295 = .ok (.getfield 7, 3)) ∧ (decode cX12_second 298 = .ok (.iconst 0, 1)) ∧ (decode cX12_second 299 = .ok (.dup2, 1)) ∧ (decode cX12_second 300 = .ok (.iaload, 1)) ∧ (decode cX12_second 301 = .ok (.iconst 1, 1)) ∧ (decode cX12_second 302 = .ok (.iadd, 1)) ∧ (decode cX12_second 303 = .ok (.iastore, 1)) ∧ (decode cX12_second 304 = .ok (.return_, 1)) := by decide +kernel
theorem dX12_second_291 : decode cX12_second 291 = .ok (.goto (-119), 3) := bdX12_second_291.1
theorem dX12_second_294 : decode cX12_second 294 = .ok (.aload_n 0, 1) := bdX12_second_291.2.1
theorem dX12_second_295 : decode cX12_second 295 = .ok (.getfield 7, 3) := bdX12_second_291.2.2.1
theorem dX12_second_298 : decode cX12_second 298 = .ok (.iconst 0, 1) := bdX12_second_291.2.2.2.1
theorem dX12_second_299 : decode cX12_second 299 = .ok (.dup2, 1) := bdX12_second_291.2.2.2.2.1
theorem dX12_second_300 : decode cX12_second 300 = .ok (.iaload, 1) := bdX12_second_291.2.2.2.2.2.1
theorem dX12_second_301 : decode cX12_second 301 = .ok (.iconst 1, 1) := bdX12_second_291.2.2.2.2.2.2.1
theorem dX12_second_302 : decode cX12_second 302 = .ok (.iadd, 1) := bdX12_second_291.2.2.2.2.2.2.2.1
theorem dX12_second_303 : decode cX12_second 303 = .ok (.iastore, 1) := bdX12_second_291.2.2.2.2.2.2.2.2.1
theorem dX12_second_304 : decode cX12_second 304 = .ok (.return_, 1) := bdX12_second_291.2.2.2.2.2.2.2.2.2
theorem bdX12_run_0 : (decode cX12_run 0 = .ok (.aload_n 0, 1)) ∧ (decode cX12_run 1 = .ok (.iload_n 1, 1)) ∧ (decode cX12_run 2 = .ok (.invokevirtual 377, 3)) ∧ (decode cX12_run 5 = .ok (.ifCond .ne 5, 3)) ∧ (decode cX12_run 8 = .ok (.iconst (-1), 1)) ∧ (decode cX12_run 9 = .ok (.ireturn, 1)) ∧ (decode cX12_run 10 = .ok (.iconst 0, 1)) ∧ (decode cX12_run 11 = .ok (.istore_n 2, 1)) ∧ (decode cX12_run 12 = .ok (.iload_n 2, 1)) ∧ (decode cX12_run 13 = .ok (.iload_n 1, 1)) ∧ (decode cX12_run 14 = .ok (.if_icmp .ge 13, 3)) ∧ (decode cX12_run 17 = .ok (.aload_n 0, 1)) ∧ (decode cX12_run 18 = .ok (.invokevirtual 380, 3)) ∧ (decode cX12_run 21 = .ok (.iinc 2 1, 3)) ∧ (decode cX12_run 24 = .ok (.goto (-12), 3)) ∧ (decode cX12_run 27 = .ok (.aload_n 0, 1)) := by decide +kernel
theorem dX12_run_0 : decode cX12_run 0 = .ok (.aload_n 0, 1) := bdX12_run_0.1
theorem dX12_run_1 : decode cX12_run 1 = .ok (.iload_n 1, 1) := bdX12_run_0.2.1
theorem dX12_run_2 : decode cX12_run 2 = .ok (.invokevirtual 377, 3) := bdX12_run_0.2.2.1
theorem dX12_run_5 : decode cX12_run 5 = .ok (.ifCond .ne 5, 3) := bdX12_run_0.2.2.2.1
theorem dX12_run_8 : decode cX12_run 8 = .ok (.iconst (-1), 1) := bdX12_run_0.2.2.2.2.1
theorem dX12_run_9 : decode cX12_run 9 = .ok (.ireturn, 1) := bdX12_run_0.2.2.2.2.2.1
theorem dX12_run_10 : decode cX12_run 10 = .ok (.iconst 0, 1) := bdX12_run_0.2.2.2.2.2.2.1
theorem dX12_run_11 : decode cX12_run 11 = .ok (.istore_n 2, 1) := bdX12_run_0.2.2.2.2.2.2.2.1
theorem dX12_run_12 : decode cX12_run 12 = .ok (.iload_n 2, 1) := bdX12_run_0.2.2.2.2.2.2.2.2.1
theorem dX12_run_13 : decode cX12_run 13 = .ok (.iload_n 1, 1) := bdX12_run_0.2.2.2.2.2.2.2.2.2.1
theorem dX12_run_14 : decode cX12_run 14 = .ok (.if_icmp .ge 13, 3) := bdX12_run_0.2.2.2.2.2.2.2.2.2.2.1
theorem dX12_run_17 : decode cX12_run 17 = .ok (.aload_n 0, 1) := bdX12_run_0.2.2.2.2.2.2.2.2.2.2.2.1
theorem dX12_run_18 : decode cX12_run 18 = .ok (.invokevirtual 380, 3) := bdX12_run_0.2.2.2.2.2.2.2.2.2.2.2.2.1
theorem dX12_run_21 : decode cX12_run 21 = .ok (.iinc 2 1, 3) := bdX12_run_0.2.2.2.2.2.2.2.2.2.2.2.2.2.1
theorem dX12_run_24 : decode cX12_run 24 = .ok (.goto (-12), 3) := bdX12_run_0.2.2.2.2.2.2.2.2.2.2.2.2.2.2.1
theorem dX12_run_27 : decode cX12_run 27 = .ok (.aload_n 0, 1) := bdX12_run_0.2.2.2.2.2.2.2.2.2.2.2.2.2.2.2
theorem bdX12_run_28 : (decode cX12_run 28 = .ok (.getfield 7, 3)) ∧ (decode cX12_run 31 = .ok (.iconst 0, 1)) ∧ (decode cX12_run 32 = .ok (.iaload, 1)) ∧ (decode cX12_run 33 = .ok (.ireturn, 1)) := by decide +kernel
theorem dX12_run_28 : decode cX12_run 28 = .ok (.getfield 7, 3) := bdX12_run_28.1
theorem dX12_run_31 : decode cX12_run 31 = .ok (.iconst 0, 1) := bdX12_run_28.2.1
theorem dX12_run_32 : decode cX12_run 32 = .ok (.iaload, 1) := bdX12_run_28.2.2.1
theorem dX12_run_33 : decode cX12_run 33 = .ok (.ireturn, 1) := bdX12_run_28.2.2.2
def fX12_mostOf_77 (a0 : Nat) (a1 : Int32) (a2 : Int32) (a3 : Int32) (rec9 : Int32 → Int32 → Int32 → xMem → Option (Int32 × xMem)) (l4 : Int32) (l5 : Int32) (l6 : Int32) (m : xMem) : Option (Int32 × xMem) := xLet (l6 + (1 : Int32)) fun x1 => rec9 l4 l5 x1 m
set_option maxRecDepth 4000 in
theorem fX12_mostOf_77_ok {a0 : Nat} {a1 : Int32} {a2 : Int32} {a3 : Int32} {rec9 : Int32 → Int32 → Int32 → xMem → Option (Int32 × xMem)} {d : Nat} (hd : 0 ≤ d) (ha0 : isModel a0) (hrec9 : ∀ (l4 : Int32) (l5 : Int32) (l6 : Int32) (o7 : Option Value) (q7 : xNoD o7 = true) (m : xMem) (r : (Int32 × xMem)), rec9 l4 l5 l6 m = some r → xFx hh_189 cX12_mostOf d 9 [some (.ref a0), some (.int a1), some (.int a2), some (.int a3), some (.int l4), some (.int l5), some (.int l6), o7] [] (xLay m) 0 0 (some (.int r.1)) (xLay r.2)) {l4 : Int32} {l5 : Int32} {l6 : Int32} {o7 : Option Value} {m : xMem} {r : (Int32 × xMem)} (q7 : xNoD o7 = true) (h : fX12_mostOf_77 a0 a1 a2 a3 rec9 l4 l5 l6 m = some r) : xFx hh_189 cX12_mostOf d 77 [some (.ref a0), some (.int a1), some (.int a2), some (.int a3), some (.int l4), some (.int l5), some (.int l6), o7] [] (xLay m) 0 0 (some (.int r.1)) (xLay r.2) := by
  unfold fX12_mostOf_77 at h
  obtain ⟨x1, hx1, h⟩ := xLet_el h
  refine fx_iinc (ls2 := [some (.ref a0), some (.int a1), some (.int a2), some (.int a3), some (.int l4), some (.int l5), some (.int x1), o7]) dX12_mostOf_77 rfl rfl rfl hx1 rfl ?_
  refine fx_goto (t := 9) dX12_mostOf_80 rfl rfl ?_
  exact hrec9 l4 l5 x1 (o7) q7 m r h
def fX12_mostOf_9 (a0 : Nat) (a1 : Int32) (a2 : Int32) (a3 : Int32) : Nat → Int32 → Int32 → Int32 → xMem → Option (Int32 × xMem)
  | 0, _, _, _, _ => none
  | fuel + 1, l4, l5, l6, m => bif xIn (1 : Int32) 1610 then xLet (m.1 (a0 + 1) (1 : Int32).toNatClampNeg) fun x1 => if x1 ≤ l6 then some (l4, m) else xLet ((12 : Int32) * a2) fun x4 => xLet ((50 : Int32) + x4) fun x5 => xLet ((2 : Int32) * l6) fun x6 => xLet (x5 + x6) fun x7 => xLet (x7 + a3) fun x8 => bif xIn x8 1610 then xLet (m.1 (a0 + 1) x8.toNatClampNeg) fun x9 => xLet ((36 : Int32) * a3) fun x11 => xLet ((6 : Int32) * l6) fun x12 => xLet (x11 + x12) fun x13 => xLet (x13 + a2) fun x14 => bif xIn x14 72 then xLet (m.1 (a0 + 21) x14.toNatClampNeg) fun x15 => if ¬ x15 = a1 then fX12_mostOf_77 a0 a1 a2 a3 (fX12_mostOf_9 a0 a1 a2 a3 fuel) l4 l5 l6 m else if x9 ≤ l5 then fX12_mostOf_77 a0 a1 a2 a3 (fX12_mostOf_9 a0 a1 a2 a3 fuel) l4 l5 l6 m else fX12_mostOf_77 a0 a1 a2 a3 (fX12_mostOf_9 a0 a1 a2 a3 fuel) l6 x9 l6 m else none else none else none
set_option maxRecDepth 4000 in
theorem fX12_mostOf_9_ok {a0 : Nat} {a1 : Int32} {a2 : Int32} {a3 : Int32} {d : Nat} (hd : 0 ≤ d) (ha0 : isModel a0) : ∀ (fuel : Nat) (l4 : Int32) (l5 : Int32) (l6 : Int32) (o7 : Option Value) (q7 : xNoD o7 = true) (m : xMem) (r : (Int32 × xMem)), fX12_mostOf_9 a0 a1 a2 a3 fuel l4 l5 l6 m = some r → xFx hh_189 cX12_mostOf d 9 [some (.ref a0), some (.int a1), some (.int a2), some (.int a3), some (.int l4), some (.int l5), some (.int l6), o7] [] (xLay m) 0 0 (some (.int r.1)) (xLay r.2) := by
  intro fuel
  induction fuel with
  | zero => intro l4 l5 l6 o7 q7 m r  h; cases h
  | succ fuel ih =>
    intro l4 l5 l6 o7 q7 m r  h
    unfold fX12_mostOf_9 at h
    refine fx_iload dX12_mostOf_9 rfl rfl ?_
    refine fx_aload_n dX12_mostOf_11 rfl rfl ?_
    refine gx_getr dX12_mostOf_12 rfl fd_12_7 ha0.1 rfl rfl ?_
    refine fx_iconst (x := 1) dX12_mostOf_15 rfl (by decide) ?_
    obtain ⟨hj2, h⟩ := xChk_el h
    obtain ⟨x1, hx1, h⟩ := xLet_el h
    refine gx_iaload dX12_mostOf_16 rfl ha0.2.1 hj2 hx1 ?_
    refine fx_icmp_ge (t := 83) dX12_mostOf_17 rfl rfl (fun hc3 => ?_) (fun hc3 => ?_)
    · rw [if_pos hc3] at h
      refine fx_iload dX12_mostOf_83 rfl rfl ?_
      cases h
      exact fx_ireturn dX12_mostOf_85 rfl rfl
    · rw [if_neg hc3] at h
      refine fx_aload_n dX12_mostOf_20 rfl rfl ?_
      refine gx_getr dX12_mostOf_21 rfl fd_12_7 ha0.1 rfl rfl ?_
      refine fx_bipush (x := 50) dX12_mostOf_24 rfl (by decide) ?_
      refine fx_bipush (x := 12) dX12_mostOf_26 rfl (by decide) ?_
      refine fx_iload_n dX12_mostOf_28 rfl rfl ?_
      obtain ⟨x4, hx4, h⟩ := xLet_el h
      refine fx_imul dX12_mostOf_29 rfl hx4 ?_
      obtain ⟨x5, hx5, h⟩ := xLet_el h
      refine fx_iadd dX12_mostOf_30 rfl hx5 ?_
      refine fx_iconst (x := 2) dX12_mostOf_31 rfl (by decide) ?_
      refine fx_iload dX12_mostOf_32 rfl rfl ?_
      obtain ⟨x6, hx6, h⟩ := xLet_el h
      refine fx_imul dX12_mostOf_34 rfl hx6 ?_
      obtain ⟨x7, hx7, h⟩ := xLet_el h
      refine fx_iadd dX12_mostOf_35 rfl hx7 ?_
      refine fx_iload_n dX12_mostOf_36 rfl rfl ?_
      obtain ⟨x8, hx8, h⟩ := xLet_el h
      refine fx_iadd dX12_mostOf_37 rfl hx8 ?_
      obtain ⟨hj10, h⟩ := xChk_el h
      obtain ⟨x9, hx9, h⟩ := xLet_el h
      refine gx_iaload dX12_mostOf_38 rfl ha0.2.1 hj10 hx9 ?_
      refine fx_istore (ls2 := [some (.ref a0), some (.int a1), some (.int a2), some (.int a3), some (.int l4), some (.int l5), some (.int l6), some (.int x9)]) dX12_mostOf_39 rfl rfl rfl ?_
      refine fx_aload_n dX12_mostOf_41 rfl rfl ?_
      refine gx_getr dX12_mostOf_42 rfl fd_12_80 ha0.1 rfl rfl ?_
      refine fx_bipush (x := 36) dX12_mostOf_45 rfl (by decide) ?_
      refine fx_iload_n dX12_mostOf_47 rfl rfl ?_
      obtain ⟨x11, hx11, h⟩ := xLet_el h
      refine fx_imul dX12_mostOf_48 rfl hx11 ?_
      refine fx_bipush (x := 6) dX12_mostOf_49 rfl (by decide) ?_
      refine fx_iload dX12_mostOf_51 rfl rfl ?_
      obtain ⟨x12, hx12, h⟩ := xLet_el h
      refine fx_imul dX12_mostOf_53 rfl hx12 ?_
      obtain ⟨x13, hx13, h⟩ := xLet_el h
      refine fx_iadd dX12_mostOf_54 rfl hx13 ?_
      refine fx_iload_n dX12_mostOf_55 rfl rfl ?_
      obtain ⟨x14, hx14, h⟩ := xLet_el h
      refine fx_iadd dX12_mostOf_56 rfl hx14 ?_
      obtain ⟨hj16, h⟩ := xChk_el h
      obtain ⟨x15, hx15, h⟩ := xLet_el h
      refine gx_iaload dX12_mostOf_57 rfl ha0.2.2.2.2.2.2.2.2.2.2.2.2.2.2.2.2.2.2.2.2.2.1 hj16 hx15 ?_
      refine fx_iload_n dX12_mostOf_58 rfl rfl ?_
      refine fx_icmp_ne (t := 77) dX12_mostOf_59 rfl rfl (fun hc17 => ?_) (fun hc17 => ?_)
      · rw [if_pos hc17] at h
        exact fX12_mostOf_77_ok (o7 := some (.int x9)) hd ha0 ih rfl h
      · rw [if_neg hc17] at h
        refine fx_iload dX12_mostOf_62 rfl rfl ?_
        refine fx_iload dX12_mostOf_64 rfl rfl ?_
        refine fx_icmp_le (t := 77) dX12_mostOf_66 rfl rfl (fun hc18 => ?_) (fun hc18 => ?_)
        · rw [if_pos hc18] at h
          exact fX12_mostOf_77_ok (o7 := some (.int x9)) hd ha0 ih rfl h
        · rw [if_neg hc18] at h
          refine fx_iload dX12_mostOf_69 rfl rfl ?_
          refine fx_istore (ls2 := [some (.ref a0), some (.int a1), some (.int a2), some (.int a3), some (.int l4), some (.int x9), some (.int l6), some (.int x9)]) dX12_mostOf_71 rfl rfl rfl ?_
          refine fx_iload dX12_mostOf_73 rfl rfl ?_
          refine fx_istore (ls2 := [some (.ref a0), some (.int a1), some (.int a2), some (.int a3), some (.int l6), some (.int x9), some (.int l6), some (.int x9)]) dX12_mostOf_75 rfl rfl rfl ?_
          exact fX12_mostOf_77_ok (o7 := some (.int x9)) hd ha0 ih rfl h
def fX12_mostOf_0 (a0 : Nat) (a1 : Int32) (a2 : Int32) (a3 : Int32) (m : xMem) : Option (Int32 × xMem) := fX12_mostOf_9 a0 a1 a2 a3 xFuel (-1 : Int32) (0 : Int32) (0 : Int32) m
set_option maxRecDepth 4000 in
theorem fX12_mostOf_0_ok {a0 : Nat} {a1 : Int32} {a2 : Int32} {a3 : Int32} {d : Nat} (hd : 0 ≤ d) (ha0 : isModel a0) {o4 : Option Value} {o5 : Option Value} {o6 : Option Value} {o7 : Option Value} {m : xMem} {r : (Int32 × xMem)} (q4 : xNoD o4 = true) (q5 : xNoD o5 = true) (q6 : xNoD o6 = true) (q7 : xNoD o7 = true) (h : fX12_mostOf_0 a0 a1 a2 a3 m = some r) : xFx hh_189 cX12_mostOf d 0 [some (.ref a0), some (.int a1), some (.int a2), some (.int a3), o4, o5, o6, o7] [] (xLay m) 0 0 (some (.int r.1)) (xLay r.2) := by
  unfold fX12_mostOf_0 at h
  refine fx_iconst (x := -1) dX12_mostOf_0 rfl (by decide) ?_
  refine fx_istore (ls2 := [some (.ref a0), some (.int a1), some (.int a2), some (.int a3), some (.int (-1 : Int32)), o5, o6, o7]) dX12_mostOf_1 rfl rfl rfl ?_
  refine fx_iconst (x := 0) dX12_mostOf_3 rfl (by decide) ?_
  refine fx_istore (ls2 := [some (.ref a0), some (.int a1), some (.int a2), some (.int a3), some (.int (-1 : Int32)), some (.int (0 : Int32)), o6, o7]) dX12_mostOf_4 rfl rfl rfl ?_
  refine fx_iconst (x := 0) dX12_mostOf_6 rfl (by decide) ?_
  refine fx_istore (ls2 := [some (.ref a0), some (.int a1), some (.int a2), some (.int a3), some (.int (-1 : Int32)), some (.int (0 : Int32)), some (.int (0 : Int32)), o7]) dX12_mostOf_7 rfl rfl rfl ?_
  exact fX12_mostOf_9_ok hd ha0 xFuel (-1 : Int32) (0 : Int32) (0 : Int32) (o7) q7 m r h
def fX12_mostOf (a0 : Nat) (a1 : Int32) (a2 : Int32) (a3 : Int32) (m : xMem) : Option (Int32 × xMem) := fX12_mostOf_0 a0 a1 a2 a3  m
theorem fX12_mostOf_ok {a0 : Nat} {a1 : Int32} {a2 : Int32} {a3 : Int32} {m : xMem} {r : (Int32 × xMem)} {d : Nat} (hd : 1 ≤ d) (ha0 : isModel a0) (h : fX12_mostOf a0 a1 a2 a3 m = some r) : xEx d 189 [.ref a0, .int a1, .int a2, .int a3] (xLay m) (some (.int r.1)) (xLay r.2) := by
  obtain ⟨d, rfl⟩ : ∃ q, d = q + 1 := ⟨d - 1, by omega⟩
  exact xEx_of me_189 rfl (fX12_mostOf_0_ok (d := d) (o4 := none) (o5 := none) (o6 := none) (o7 := none) (by omega) ha0 rfl rfl rfl rfl h)
def fX12_sideFor_50 (a0 : Nat) (a1 : Int32) (a2 : Int32) (s0 : Int32) (m : xMem) : Option (Int32 × xMem) := some (s0, m)
set_option maxRecDepth 4000 in
theorem fX12_sideFor_50_ok {a0 : Nat} {a1 : Int32} {a2 : Int32} {d : Nat} (hd : 1 ≤ d) (ha0 : isModel a0) {s0 : Int32} {o3 : Option Value} {m : xMem} {r : (Int32 × xMem)} (q3 : xNoD o3 = true) (h : fX12_sideFor_50 a0 a1 a2 s0 m = some r) : xFx hh_190 cX12_sideFor d 50 [some (.ref a0), some (.int a1), some (.int a2), o3] [.int s0] (xLay m) 0 0 (some (.int r.1)) (xLay r.2) := by
  unfold fX12_sideFor_50 at h
  cases h
  exact fx_ireturn dX12_sideFor_50 rfl rfl
def fX12_sideFor_28 (a0 : Nat) (a1 : Int32) (a2 : Int32) (s0 : Int32) (m : xMem) : Option (Int32 × xMem) := (fX12_placeOf a0 a1 s0 (0 : Int32) m).bind fun p1 => bif xIn p1.1 1610 then xLet (p1.2.1 (a0 + 1) p1.1.toNatClampNeg) fun x2 => if ¬ x2 = (-1 : Int32) then fX12_sideFor_50 a0 a1 a2 (-1 : Int32) p1.2 else fX12_sideFor_50 a0 a1 a2 s0 p1.2 else none
set_option maxRecDepth 4000 in
theorem fX12_sideFor_28_ok {a0 : Nat} {a1 : Int32} {a2 : Int32} {d : Nat} (hd : 1 ≤ d) (ha0 : isModel a0) {s0 : Int32} {o3 : Option Value} {m : xMem} {r : (Int32 × xMem)} (q3 : xNoD o3 = true) (h : fX12_sideFor_28 a0 a1 a2 s0 m = some r) : xFx hh_190 cX12_sideFor d 28 [some (.ref a0), some (.int a1), some (.int a2), o3] [.int s0] (xLay m) 0 0 (some (.int r.1)) (xLay r.2) := by
  unfold fX12_sideFor_28 at h
  refine fx_istore_n (ls2 := [some (.ref a0), some (.int a1), some (.int a2), some (.int s0)]) dX12_sideFor_28 rfl rfl rfl ?_
  refine fx_aload_n dX12_sideFor_29 rfl rfl ?_
  refine gx_getr dX12_sideFor_30 rfl fd_12_7 ha0.1 rfl rfl ?_
  refine fx_aload_n dX12_sideFor_33 rfl rfl ?_
  refine fx_iload_n dX12_sideFor_34 rfl rfl ?_
  refine fx_iload_n dX12_sideFor_35 rfl rfl ?_
  refine fx_iconst (x := 0) dX12_sideFor_36 rfl (by decide) ?_
  obtain ⟨p1, ep1, h⟩ := xBind_el h
  refine gx_callv (as := [.int a1, .int s0, .int (0 : Int32)]) (r := [.ref (a0 + 1)]) rfl dX12_sideFor_37 ca_12_334 rfl me_183 rfl rfl rfl rfl (ha0.1) rfl (fX12_placeOf_ok (d := d) (by omega) ha0 ep1) rfl rfl ?_
  obtain ⟨hj3, h⟩ := xChk_el h
  obtain ⟨x2, hx2, h⟩ := xLet_el h
  refine gx_iaload dX12_sideFor_40 rfl ha0.2.1 hj3 hx2 ?_
  refine fx_iconst (x := -1) dX12_sideFor_41 rfl (by decide) ?_
  refine fx_icmp_ne (t := 49) dX12_sideFor_42 rfl rfl (fun hc4 => ?_) (fun hc4 => ?_)
  · rw [if_pos hc4] at h
    refine fx_iconst (x := -1) dX12_sideFor_49 rfl (by decide) ?_
    exact fX12_sideFor_50_ok (o3 := some (.int s0)) hd ha0 rfl h
  · rw [if_neg hc4] at h
    refine fx_iload_n dX12_sideFor_45 rfl rfl ?_
    refine fx_goto (t := 50) dX12_sideFor_46 rfl rfl ?_
    exact fX12_sideFor_50_ok (o3 := some (.int s0)) hd ha0 rfl h
def fX12_sideFor_92 (a0 : Nat) (a1 : Int32) (a2 : Int32) (s0 : Int32) (m : xMem) : Option (Int32 × xMem) := some (s0, m)
set_option maxRecDepth 4000 in
theorem fX12_sideFor_92_ok {a0 : Nat} {a1 : Int32} {a2 : Int32} {d : Nat} (hd : 1 ≤ d) (ha0 : isModel a0) {s0 : Int32} {o3 : Option Value} {m : xMem} {r : (Int32 × xMem)} (q3 : xNoD o3 = true) (h : fX12_sideFor_92 a0 a1 a2 s0 m = some r) : xFx hh_190 cX12_sideFor d 92 [some (.ref a0), some (.int a1), some (.int a2), o3] [.int s0] (xLay m) 0 0 (some (.int r.1)) (xLay r.2) := by
  unfold fX12_sideFor_92 at h
  cases h
  exact fx_ireturn dX12_sideFor_92 rfl rfl
def fX12_sideFor_51 (a0 : Nat) (a1 : Int32) (a2 : Int32) (m : xMem) : Option (Int32 × xMem) := (fX12_placeOf a0 a1 (0 : Int32) (0 : Int32) m).bind fun p1 => bif xIn p1.1 1610 then xLet (p1.2.1 (a0 + 1) p1.1.toNatClampNeg) fun x2 => if ¬ x2 = (-1 : Int32) then (fX12_placeOf a0 a1 (1 : Int32) (0 : Int32) p1.2).bind fun p5 => bif xIn p5.1 1610 then xLet (p5.2.1 (a0 + 1) p5.1.toNatClampNeg) fun x6 => if ¬ x6 = (-1 : Int32) then fX12_sideFor_92 a0 a1 a2 (-1 : Int32) p5.2 else fX12_sideFor_92 a0 a1 a2 (1 : Int32) p5.2 else none else fX12_sideFor_92 a0 a1 a2 (0 : Int32) p1.2 else none
set_option maxRecDepth 4000 in
theorem fX12_sideFor_51_ok {a0 : Nat} {a1 : Int32} {a2 : Int32} {d : Nat} (hd : 1 ≤ d) (ha0 : isModel a0) {o3 : Option Value} {m : xMem} {r : (Int32 × xMem)} (q3 : xNoD o3 = true) (h : fX12_sideFor_51 a0 a1 a2 m = some r) : xFx hh_190 cX12_sideFor d 51 [some (.ref a0), some (.int a1), some (.int a2), o3] [] (xLay m) 0 0 (some (.int r.1)) (xLay r.2) := by
  unfold fX12_sideFor_51 at h
  refine fx_aload_n dX12_sideFor_51 rfl rfl ?_
  refine gx_getr dX12_sideFor_52 rfl fd_12_7 ha0.1 rfl rfl ?_
  refine fx_aload_n dX12_sideFor_55 rfl rfl ?_
  refine fx_iload_n dX12_sideFor_56 rfl rfl ?_
  refine fx_iconst (x := 0) dX12_sideFor_57 rfl (by decide) ?_
  refine fx_iconst (x := 0) dX12_sideFor_58 rfl (by decide) ?_
  obtain ⟨p1, ep1, h⟩ := xBind_el h
  refine gx_callv (as := [.int a1, .int (0 : Int32), .int (0 : Int32)]) (r := [.ref (a0 + 1)]) rfl dX12_sideFor_59 ca_12_334 rfl me_183 rfl rfl rfl rfl (ha0.1) rfl (fX12_placeOf_ok (d := d) (by omega) ha0 ep1) rfl rfl ?_
  obtain ⟨hj3, h⟩ := xChk_el h
  obtain ⟨x2, hx2, h⟩ := xLet_el h
  refine gx_iaload dX12_sideFor_62 rfl ha0.2.1 hj3 hx2 ?_
  refine fx_iconst (x := -1) dX12_sideFor_63 rfl (by decide) ?_
  refine fx_icmp_ne (t := 71) dX12_sideFor_64 rfl rfl (fun hc4 => ?_) (fun hc4 => ?_)
  · rw [if_pos hc4] at h
    refine fx_aload_n dX12_sideFor_71 rfl rfl ?_
    refine gx_getr dX12_sideFor_72 rfl fd_12_7 ha0.1 rfl rfl ?_
    refine fx_aload_n dX12_sideFor_75 rfl rfl ?_
    refine fx_iload_n dX12_sideFor_76 rfl rfl ?_
    refine fx_iconst (x := 1) dX12_sideFor_77 rfl (by decide) ?_
    refine fx_iconst (x := 0) dX12_sideFor_78 rfl (by decide) ?_
    obtain ⟨p5, ep5, h⟩ := xBind_el h
    refine gx_callv (as := [.int a1, .int (1 : Int32), .int (0 : Int32)]) (r := [.ref (a0 + 1)]) rfl dX12_sideFor_79 ca_12_334 rfl me_183 rfl rfl rfl rfl (ha0.1) rfl (fX12_placeOf_ok (d := d) (by omega) ha0 ep5) rfl rfl ?_
    obtain ⟨hj7, h⟩ := xChk_el h
    obtain ⟨x6, hx6, h⟩ := xLet_el h
    refine gx_iaload dX12_sideFor_82 rfl ha0.2.1 hj7 hx6 ?_
    refine fx_iconst (x := -1) dX12_sideFor_83 rfl (by decide) ?_
    refine fx_icmp_ne (t := 91) dX12_sideFor_84 rfl rfl (fun hc8 => ?_) (fun hc8 => ?_)
    · rw [if_pos hc8] at h
      refine fx_iconst (x := -1) dX12_sideFor_91 rfl (by decide) ?_
      exact fX12_sideFor_92_ok (o3 := o3) hd ha0 q3 h
    · rw [if_neg hc8] at h
      refine fx_iconst (x := 1) dX12_sideFor_87 rfl (by decide) ?_
      refine fx_goto (t := 92) dX12_sideFor_88 rfl rfl ?_
      exact fX12_sideFor_92_ok (o3 := o3) hd ha0 q3 h
  · rw [if_neg hc4] at h
    refine fx_iconst (x := 0) dX12_sideFor_67 rfl (by decide) ?_
    refine fx_goto (t := 92) dX12_sideFor_68 rfl rfl ?_
    exact fX12_sideFor_92_ok (o3 := o3) hd ha0 q3 h
def fX12_sideFor_0 (a0 : Nat) (a1 : Int32) (a2 : Int32) (m : xMem) : Option (Int32 × xMem) := (fX12_linkOf a0 a1 (0 : Int32) m).bind fun p1 => if ¬ p1.1 = (0 : Int32) then fX12_sideFor_51 a0 a1 a2 p1.2 else (fX12_linkOf a0 a1 (8 : Int32) p1.2).bind fun p3 => if ¬ p3.1 = (0 : Int32) then fX12_sideFor_51 a0 a1 a2 p3.2 else if a2 = (0 : Int32) then fX12_sideFor_28 a0 a1 a2 (0 : Int32) p3.2 else fX12_sideFor_28 a0 a1 a2 (1 : Int32) p3.2
set_option maxRecDepth 4000 in
theorem fX12_sideFor_0_ok {a0 : Nat} {a1 : Int32} {a2 : Int32} {d : Nat} (hd : 1 ≤ d) (ha0 : isModel a0) {o3 : Option Value} {m : xMem} {r : (Int32 × xMem)} (q3 : xNoD o3 = true) (h : fX12_sideFor_0 a0 a1 a2 m = some r) : xFx hh_190 cX12_sideFor d 0 [some (.ref a0), some (.int a1), some (.int a2), o3] [] (xLay m) 0 0 (some (.int r.1)) (xLay r.2) := by
  unfold fX12_sideFor_0 at h
  refine fx_aload_n dX12_sideFor_0 rfl rfl ?_
  refine fx_iload_n dX12_sideFor_1 rfl rfl ?_
  refine fx_iconst (x := 0) dX12_sideFor_2 rfl (by decide) ?_
  obtain ⟨p1, ep1, h⟩ := xBind_el h
  refine gx_callv (as := [.int a1, .int (0 : Int32)]) (r := []) rfl dX12_sideFor_3 ca_12_103 rfl me_34 rfl rfl rfl rfl (ha0.1) rfl (fX12_linkOf_ok (d := d) (by omega) ha0 ep1) rfl rfl ?_
  refine fx_if_ne (t := 51) dX12_sideFor_6 rfl rfl (fun hc2 => ?_) (fun hc2 => ?_)
  · rw [if_pos hc2] at h
    exact fX12_sideFor_51_ok (o3 := o3) hd ha0 q3 h
  · rw [if_neg hc2] at h
    refine fx_aload_n dX12_sideFor_9 rfl rfl ?_
    refine fx_iload_n dX12_sideFor_10 rfl rfl ?_
    refine fx_bipush (x := 8) dX12_sideFor_11 rfl (by decide) ?_
    obtain ⟨p3, ep3, h⟩ := xBind_el h
    refine gx_callv (as := [.int a1, .int (8 : Int32)]) (r := []) rfl dX12_sideFor_13 ca_12_103 rfl me_34 rfl rfl rfl rfl (ha0.1) rfl (fX12_linkOf_ok (d := d) (by omega) ha0 ep3) rfl rfl ?_
    refine fx_if_ne (t := 51) dX12_sideFor_16 rfl rfl (fun hc4 => ?_) (fun hc4 => ?_)
    · rw [if_pos hc4] at h
      exact fX12_sideFor_51_ok (o3 := o3) hd ha0 q3 h
    · rw [if_neg hc4] at h
      refine fx_iload_n dX12_sideFor_19 rfl rfl ?_
      refine fx_if_eq (t := 27) dX12_sideFor_20 rfl rfl (fun hc5 => ?_) (fun hc5 => ?_)
      · rw [if_pos hc5] at h
        refine fx_iconst (x := 0) dX12_sideFor_27 rfl (by decide) ?_
        exact fX12_sideFor_28_ok (o3 := o3) hd ha0 q3 h
      · rw [if_neg hc5] at h
        refine fx_iconst (x := 1) dX12_sideFor_23 rfl (by decide) ?_
        refine fx_goto (t := 28) dX12_sideFor_24 rfl rfl ?_
        exact fX12_sideFor_28_ok (o3 := o3) hd ha0 q3 h
def fX12_sideFor (a0 : Nat) (a1 : Int32) (a2 : Int32) (m : xMem) : Option (Int32 × xMem) := fX12_sideFor_0 a0 a1 a2  m
theorem fX12_sideFor_ok {a0 : Nat} {a1 : Int32} {a2 : Int32} {m : xMem} {r : (Int32 × xMem)} {d : Nat} (hd : 2 ≤ d) (ha0 : isModel a0) (h : fX12_sideFor a0 a1 a2 m = some r) : xEx d 190 [.ref a0, .int a1, .int a2] (xLay m) (some (.int r.1)) (xLay r.2) := by
  obtain ⟨d, rfl⟩ : ∃ q, d = q + 1 := ⟨d - 1, by omega⟩
  exact xEx_of me_190 rfl (fX12_sideFor_0_ok (d := d) (o3 := none) (by omega) ha0 rfl h)
def fX12_takes_131 (a0 : Nat) (a1 : Int32) (a2 : Int32) (rec9 : Int32 → Int32 → xMem → Option xMem) (l3 : Int32) (l4 : Int32) (l5 : Int32) (l6 : Int32) (s0 : Nat) (s1 : Int32) (s2 : Int32) (m : xMem) : Option xMem := bif xIn s1 1610 then xLet (xPut m s0 s1.toNatClampNeg s2) fun m1 => xLet ((12 : Int32) * l3) fun x3 => xLet ((50 : Int32) + x3) fun x4 => xLet ((2 : Int32) * l5) fun x5 => xLet (x4 + x5) fun x6 => bif xIn x6 1610 then xLet (m1.1 (a0 + 1) x6.toNatClampNeg) fun x7 => xLet (x7 - (1 : Int32)) fun x9 => bif xIn x6 1610 then xLet (xPut m1 (a0 + 1) x6.toNatClampNeg x9) fun m10 => xLet (l6 + (1 : Int32)) fun x12 => (fX12_tells a0 a1 (10 : Int32) x12 m10).bind fun p13 => xLet (l4 + (1 : Int32)) fun x14 => rec9 l3 x14 p13 else none else none else none
set_option maxRecDepth 4000 in
theorem fX12_takes_131_ok {a0 : Nat} {a1 : Int32} {a2 : Int32} {rec9 : Int32 → Int32 → xMem → Option xMem} {d : Nat} (hd : 2 ≤ d) (ha0 : isModel a0) (hrec9 : ∀ (l3 : Int32) (l4 : Int32) (o5 : Option Value) (o6 : Option Value) (o7 : Option Value) (o8 : Option Value) (q5 : xNoD o5 = true) (q6 : xNoD o6 = true) (q7 : xNoD o7 = true) (q8 : xNoD o8 = true) (m : xMem) (r : xMem), rec9 l3 l4 m = some r → xFx hh_188 cX12_takes d 9 [some (.ref a0), some (.int a1), some (.int a2), some (.int l3), some (.int l4), o5, o6, o7, o8] [] (xLay m) 0 0 none (xLay r)) {l3 : Int32} {l4 : Int32} {l5 : Int32} {l6 : Int32} {s0 : Nat} {s1 : Int32} {s2 : Int32} {o7 : Option Value} {o8 : Option Value} {m : xMem} {r : xMem} (hs0 : xTmL[s0]? = some (101, 1610, [])) (q7 : xNoD o7 = true) (q8 : xNoD o8 = true) (h : fX12_takes_131 a0 a1 a2 rec9 l3 l4 l5 l6 s0 s1 s2 m = some r) : xFx hh_188 cX12_takes d 131 [some (.ref a0), some (.int a1), some (.int a2), some (.int l3), some (.int l4), some (.int l5), some (.int l6), o7, o8] [.int s2, .int s1, .ref s0] (xLay m) 0 0 none (xLay r) := by
  unfold fX12_takes_131 at h
  obtain ⟨hj2, h⟩ := xChk_el h
  obtain ⟨m1, hm1, h⟩ := xLet_el h
  refine gx_iastore dX12_takes_131 rfl hs0 hj2 hm1 ?_
  refine fx_aload_n dX12_takes_132 rfl rfl ?_
  refine gx_getr dX12_takes_133 rfl fd_12_7 ha0.1 rfl rfl ?_
  refine fx_bipush (x := 50) dX12_takes_136 rfl (by decide) ?_
  refine fx_bipush (x := 12) dX12_takes_138 rfl (by decide) ?_
  refine fx_iload_n dX12_takes_140 rfl rfl ?_
  obtain ⟨x3, hx3, h⟩ := xLet_el h
  refine fx_imul dX12_takes_141 rfl hx3 ?_
  obtain ⟨x4, hx4, h⟩ := xLet_el h
  refine fx_iadd dX12_takes_142 rfl hx4 ?_
  refine fx_iconst (x := 2) dX12_takes_143 rfl (by decide) ?_
  refine fx_iload dX12_takes_144 rfl rfl ?_
  obtain ⟨x5, hx5, h⟩ := xLet_el h
  refine fx_imul dX12_takes_146 rfl hx5 ?_
  obtain ⟨x6, hx6, h⟩ := xLet_el h
  refine fx_iadd dX12_takes_147 rfl hx6 ?_
  refine fx_dup2 dX12_takes_148 rfl rfl ?_
  obtain ⟨hj8, h⟩ := xChk_el h
  obtain ⟨x7, hx7, h⟩ := xLet_el h
  refine gx_iaload dX12_takes_149 rfl ha0.2.1 hj8 hx7 ?_
  refine fx_iconst (x := 1) dX12_takes_150 rfl (by decide) ?_
  obtain ⟨x9, hx9, h⟩ := xLet_el h
  refine fx_isub dX12_takes_151 rfl hx9 ?_
  obtain ⟨hj11, h⟩ := xChk_el h
  obtain ⟨m10, hm10, h⟩ := xLet_el h
  refine gx_iastore dX12_takes_152 rfl ha0.2.1 hj11 hm10 ?_
  refine fx_aload_n dX12_takes_153 rfl rfl ?_
  refine fx_iload_n dX12_takes_154 rfl rfl ?_
  refine fx_bipush (x := 10) dX12_takes_155 rfl (by decide) ?_
  refine fx_iload dX12_takes_157 rfl rfl ?_
  refine fx_iconst (x := 1) dX12_takes_159 rfl (by decide) ?_
  obtain ⟨x12, hx12, h⟩ := xLet_el h
  refine fx_iadd dX12_takes_160 rfl hx12 ?_
  obtain ⟨p13, ep13, h⟩ := xBind_el h
  refine gx_callv (as := [.int a1, .int (10 : Int32), .int x12]) (r := []) rfl dX12_takes_161 ca_12_110 rfl me_26 rfl rfl rfl rfl (ha0.1) rfl (fX12_tells_ok (d := d) (by omega) ha0 ep13) rfl rfl ?_
  obtain ⟨x14, hx14, h⟩ := xLet_el h
  refine fx_iinc (ls2 := [some (.ref a0), some (.int a1), some (.int a2), some (.int l3), some (.int x14), some (.int l5), some (.int l6), o7, o8]) dX12_takes_164 rfl rfl rfl hx14 rfl ?_
  refine fx_goto (t := 9) dX12_takes_167 rfl rfl ?_
  exact hrec9 l3 x14 (some (.int l5)) (some (.int l6)) (o7) (o8) rfl rfl q7 q8 p13 r h
def fX12_takes_95 (a0 : Nat) (a1 : Int32) (a2 : Int32) (rec9 : Int32 → Int32 → xMem → Option xMem) (l3 : Int32) (l4 : Int32) (l5 : Int32) (l6 : Int32) (l7 : Int32) (s0 : Int32) (m : xMem) : Option xMem := if ¬ s0 = (-1 : Int32) then (fX12_placeOf a0 a1 s0 (0 : Int32) m).bind fun p2 => if l7 = (0 : Int32) then fX12_takes_131 a0 a1 a2 rec9 l3 l4 l5 l6 (a0 + 1) p2.1 l5 p2.2 else xLet (l5 + (10 : Int32)) fun x4 => fX12_takes_131 a0 a1 a2 rec9 l3 l4 l5 l6 (a0 + 1) p2.1 x4 p2.2 else some m
set_option maxRecDepth 4000 in
theorem fX12_takes_95_ok {a0 : Nat} {a1 : Int32} {a2 : Int32} {rec9 : Int32 → Int32 → xMem → Option xMem} {d : Nat} (hd : 2 ≤ d) (ha0 : isModel a0) (hrec9 : ∀ (l3 : Int32) (l4 : Int32) (o5 : Option Value) (o6 : Option Value) (o7 : Option Value) (o8 : Option Value) (q5 : xNoD o5 = true) (q6 : xNoD o6 = true) (q7 : xNoD o7 = true) (q8 : xNoD o8 = true) (m : xMem) (r : xMem), rec9 l3 l4 m = some r → xFx hh_188 cX12_takes d 9 [some (.ref a0), some (.int a1), some (.int a2), some (.int l3), some (.int l4), o5, o6, o7, o8] [] (xLay m) 0 0 none (xLay r)) {l3 : Int32} {l4 : Int32} {l5 : Int32} {l6 : Int32} {l7 : Int32} {s0 : Int32} {o8 : Option Value} {m : xMem} {r : xMem} (q8 : xNoD o8 = true) (h : fX12_takes_95 a0 a1 a2 rec9 l3 l4 l5 l6 l7 s0 m = some r) : xFx hh_188 cX12_takes d 95 [some (.ref a0), some (.int a1), some (.int a2), some (.int l3), some (.int l4), some (.int l5), some (.int l6), some (.int l7), o8] [.int s0] (xLay m) 0 0 none (xLay r) := by
  unfold fX12_takes_95 at h
  refine fx_istore (ls2 := [some (.ref a0), some (.int a1), some (.int a2), some (.int l3), some (.int l4), some (.int l5), some (.int l6), some (.int l7), some (.int s0)]) dX12_takes_95 rfl rfl rfl ?_
  refine fx_iload dX12_takes_97 rfl rfl ?_
  refine fx_iconst (x := -1) dX12_takes_99 rfl (by decide) ?_
  refine fx_icmp_ne (t := 104) dX12_takes_100 rfl rfl (fun hc1 => ?_) (fun hc1 => ?_)
  · rw [if_pos hc1] at h
    refine fx_aload_n dX12_takes_104 rfl rfl ?_
    refine gx_getr dX12_takes_105 rfl fd_12_7 ha0.1 rfl rfl ?_
    refine fx_aload_n dX12_takes_108 rfl rfl ?_
    refine fx_iload_n dX12_takes_109 rfl rfl ?_
    refine fx_iload dX12_takes_110 rfl rfl ?_
    refine fx_iconst (x := 0) dX12_takes_112 rfl (by decide) ?_
    obtain ⟨p2, ep2, h⟩ := xBind_el h
    refine gx_callv (as := [.int a1, .int s0, .int (0 : Int32)]) (r := [.ref (a0 + 1)]) rfl dX12_takes_113 ca_12_334 rfl me_183 rfl rfl rfl rfl (ha0.1) rfl (fX12_placeOf_ok (d := d) (by omega) ha0 ep2) rfl rfl ?_
    refine fx_iload dX12_takes_116 rfl rfl ?_
    refine fx_if_eq (t := 129) dX12_takes_118 rfl rfl (fun hc3 => ?_) (fun hc3 => ?_)
    · rw [if_pos hc3] at h
      refine fx_iload dX12_takes_129 rfl rfl ?_
      exact fX12_takes_131_ok (o7 := some (.int l7)) (o8 := some (.int s0)) hd ha0 hrec9 ha0.2.1 rfl rfl h
    · rw [if_neg hc3] at h
      refine fx_iload dX12_takes_121 rfl rfl ?_
      refine fx_bipush (x := 10) dX12_takes_123 rfl (by decide) ?_
      obtain ⟨x4, hx4, h⟩ := xLet_el h
      refine fx_iadd dX12_takes_125 rfl hx4 ?_
      refine fx_goto (t := 131) dX12_takes_126 rfl rfl ?_
      exact fX12_takes_131_ok (o7 := some (.int l7)) (o8 := some (.int s0)) hd ha0 hrec9 ha0.2.1 rfl rfl h
  · rw [if_neg hc1] at h
    cases h
    exact fx_return dX12_takes_103 rfl rfl
def fX12_takes_76 (a0 : Nat) (a1 : Int32) (a2 : Int32) (rec9 : Int32 → Int32 → xMem → Option xMem) (l3 : Int32) (l4 : Int32) (l5 : Int32) (l6 : Int32) (s0 : Int32) (m : xMem) : Option xMem := if ¬ l5 = (-1 : Int32) then (fX12_sideFor a0 a1 s0 m).bind fun p2 => fX12_takes_95 a0 a1 a2 rec9 l3 l4 l5 l6 s0 p2.1 p2.2 else fX12_takes_95 a0 a1 a2 rec9 l3 l4 l5 l6 s0 (-1 : Int32) m
set_option maxRecDepth 4000 in
theorem fX12_takes_76_ok {a0 : Nat} {a1 : Int32} {a2 : Int32} {rec9 : Int32 → Int32 → xMem → Option xMem} {d : Nat} (hd : 2 ≤ d) (ha0 : isModel a0) (hrec9 : ∀ (l3 : Int32) (l4 : Int32) (o5 : Option Value) (o6 : Option Value) (o7 : Option Value) (o8 : Option Value) (q5 : xNoD o5 = true) (q6 : xNoD o6 = true) (q7 : xNoD o7 = true) (q8 : xNoD o8 = true) (m : xMem) (r : xMem), rec9 l3 l4 m = some r → xFx hh_188 cX12_takes d 9 [some (.ref a0), some (.int a1), some (.int a2), some (.int l3), some (.int l4), o5, o6, o7, o8] [] (xLay m) 0 0 none (xLay r)) {l3 : Int32} {l4 : Int32} {l5 : Int32} {l6 : Int32} {s0 : Int32} {o7 : Option Value} {o8 : Option Value} {m : xMem} {r : xMem} (q7 : xNoD o7 = true) (q8 : xNoD o8 = true) (h : fX12_takes_76 a0 a1 a2 rec9 l3 l4 l5 l6 s0 m = some r) : xFx hh_188 cX12_takes d 76 [some (.ref a0), some (.int a1), some (.int a2), some (.int l3), some (.int l4), some (.int l5), some (.int l6), o7, o8] [.int s0] (xLay m) 0 0 none (xLay r) := by
  unfold fX12_takes_76 at h
  refine fx_istore (ls2 := [some (.ref a0), some (.int a1), some (.int a2), some (.int l3), some (.int l4), some (.int l5), some (.int l6), some (.int s0), o8]) dX12_takes_76 rfl rfl rfl ?_
  refine fx_iload dX12_takes_78 rfl rfl ?_
  refine fx_iconst (x := -1) dX12_takes_80 rfl (by decide) ?_
  refine fx_icmp_ne (t := 88) dX12_takes_81 rfl rfl (fun hc1 => ?_) (fun hc1 => ?_)
  · rw [if_pos hc1] at h
    refine fx_aload_n dX12_takes_88 rfl rfl ?_
    refine fx_iload_n dX12_takes_89 rfl rfl ?_
    refine fx_iload dX12_takes_90 rfl rfl ?_
    obtain ⟨p2, ep2, h⟩ := xBind_el h
    refine gx_callv (as := [.int a1, .int s0]) (r := []) rfl dX12_takes_92 ca_12_340 rfl me_190 rfl rfl rfl rfl (ha0.1) rfl (fX12_sideFor_ok (d := d) (by omega) ha0 ep2) rfl rfl ?_
    exact fX12_takes_95_ok (o8 := o8) hd ha0 hrec9 q8 h
  · rw [if_neg hc1] at h
    refine fx_iconst (x := -1) dX12_takes_84 rfl (by decide) ?_
    refine fx_goto (t := 95) dX12_takes_85 rfl rfl ?_
    exact fX12_takes_95_ok (o8 := o8) hd ha0 hrec9 q8 h
def fX12_takes_75 (a0 : Nat) (a1 : Int32) (a2 : Int32) (rec9 : Int32 → Int32 → xMem → Option xMem) (l3 : Int32) (l4 : Int32) (l5 : Int32) (l6 : Int32) (m : xMem) : Option xMem := fX12_takes_76 a0 a1 a2 rec9 l3 l4 l5 l6 (0 : Int32) m
set_option maxRecDepth 4000 in
theorem fX12_takes_75_ok {a0 : Nat} {a1 : Int32} {a2 : Int32} {rec9 : Int32 → Int32 → xMem → Option xMem} {d : Nat} (hd : 2 ≤ d) (ha0 : isModel a0) (hrec9 : ∀ (l3 : Int32) (l4 : Int32) (o5 : Option Value) (o6 : Option Value) (o7 : Option Value) (o8 : Option Value) (q5 : xNoD o5 = true) (q6 : xNoD o6 = true) (q7 : xNoD o7 = true) (q8 : xNoD o8 = true) (m : xMem) (r : xMem), rec9 l3 l4 m = some r → xFx hh_188 cX12_takes d 9 [some (.ref a0), some (.int a1), some (.int a2), some (.int l3), some (.int l4), o5, o6, o7, o8] [] (xLay m) 0 0 none (xLay r)) {l3 : Int32} {l4 : Int32} {l5 : Int32} {l6 : Int32} {o7 : Option Value} {o8 : Option Value} {m : xMem} {r : xMem} (q7 : xNoD o7 = true) (q8 : xNoD o8 = true) (h : fX12_takes_75 a0 a1 a2 rec9 l3 l4 l5 l6 m = some r) : xFx hh_188 cX12_takes d 75 [some (.ref a0), some (.int a1), some (.int a2), some (.int l3), some (.int l4), some (.int l5), some (.int l6), o7, o8] [] (xLay m) 0 0 none (xLay r) := by
  unfold fX12_takes_75 at h
  refine fx_iconst (x := 0) dX12_takes_75 rfl (by decide) ?_
  exact fX12_takes_76_ok (o7 := o7) (o8 := o8) hd ha0 hrec9 q7 q8 h
def fX12_takes_9 (a0 : Nat) (a1 : Int32) (a2 : Int32) : Nat → Int32 → Int32 → xMem → Option xMem
  | 0, _, _, _ => none
  | fuel + 1, l3, l4, m => if (2 : Int32) ≤ l4 then some m else (fX12_mostOf a0 a1 l3 (0 : Int32) m).bind fun p2 => (fX12_linkOf a0 a1 (10 : Int32) p2.2).bind fun p3 => (fX12_linkOf a0 a1 (0 : Int32) p3.2).bind fun p4 => if ¬ p4.1 = (0 : Int32) then fX12_takes_75 a0 a1 a2 (fX12_takes_9 a0 a1 a2 fuel) l3 l4 p2.1 p3.1 p4.2 else (fX12_linkOf a0 a1 (8 : Int32) p4.2).bind fun p6 => if ¬ p6.1 = (0 : Int32) then fX12_takes_75 a0 a1 a2 (fX12_takes_9 a0 a1 a2 fuel) l3 l4 p2.1 p3.1 p6.2 else xLet (p3.1 + (1 : Int32)) fun x8 => xLet (a2 * x8) fun x9 => xLet (x9 / (10 : Int32)) fun x10 => xLet (a2 * p3.1) fun x11 => xLet (x11 / (10 : Int32)) fun x12 => if x10 ≤ x12 then fX12_takes_75 a0 a1 a2 (fX12_takes_9 a0 a1 a2 fuel) l3 l4 p2.1 p3.1 p6.2 else fX12_takes_76 a0 a1 a2 (fX12_takes_9 a0 a1 a2 fuel) l3 l4 p2.1 p3.1 (1 : Int32) p6.2
set_option maxRecDepth 4000 in
theorem fX12_takes_9_ok {a0 : Nat} {a1 : Int32} {a2 : Int32} {d : Nat} (hd : 2 ≤ d) (ha0 : isModel a0) : ∀ (fuel : Nat) (l3 : Int32) (l4 : Int32) (o5 : Option Value) (o6 : Option Value) (o7 : Option Value) (o8 : Option Value) (q5 : xNoD o5 = true) (q6 : xNoD o6 = true) (q7 : xNoD o7 = true) (q8 : xNoD o8 = true) (m : xMem) (r : xMem), fX12_takes_9 a0 a1 a2 fuel l3 l4 m = some r → xFx hh_188 cX12_takes d 9 [some (.ref a0), some (.int a1), some (.int a2), some (.int l3), some (.int l4), o5, o6, o7, o8] [] (xLay m) 0 0 none (xLay r) := by
  intro fuel
  induction fuel with
  | zero => intro l3 l4 o5 o6 o7 o8 q5 q6 q7 q8 m r  h; cases h
  | succ fuel ih =>
    intro l3 l4 o5 o6 o7 o8 q5 q6 q7 q8 m r  h
    unfold fX12_takes_9 at h
    refine fx_iload dX12_takes_9 rfl rfl ?_
    refine fx_iconst (x := 2) dX12_takes_11 rfl (by decide) ?_
    refine fx_icmp_ge (t := 170) dX12_takes_12 rfl rfl (fun hc1 => ?_) (fun hc1 => ?_)
    · rw [if_pos hc1] at h
      cases h
      exact fx_return dX12_takes_170 rfl rfl
    · rw [if_neg hc1] at h
      refine fx_aload_n dX12_takes_15 rfl rfl ?_
      refine fx_iload_n dX12_takes_16 rfl rfl ?_
      refine fx_iload_n dX12_takes_17 rfl rfl ?_
      refine fx_iconst (x := 0) dX12_takes_18 rfl (by decide) ?_
      obtain ⟨p2, ep2, h⟩ := xBind_el h
      refine gx_callv (as := [.int a1, .int l3, .int (0 : Int32)]) (r := []) rfl dX12_takes_19 ca_12_328 rfl me_189 rfl rfl rfl rfl (ha0.1) rfl (fX12_mostOf_ok (d := d) (by omega) ha0 ep2) rfl rfl ?_
      refine fx_istore (ls2 := [some (.ref a0), some (.int a1), some (.int a2), some (.int l3), some (.int l4), some (.int p2.1), o6, o7, o8]) dX12_takes_22 rfl rfl rfl ?_
      refine fx_aload_n dX12_takes_24 rfl rfl ?_
      refine fx_iload_n dX12_takes_25 rfl rfl ?_
      refine fx_bipush (x := 10) dX12_takes_26 rfl (by decide) ?_
      obtain ⟨p3, ep3, h⟩ := xBind_el h
      refine gx_callv (as := [.int a1, .int (10 : Int32)]) (r := []) rfl dX12_takes_28 ca_12_103 rfl me_34 rfl rfl rfl rfl (ha0.1) rfl (fX12_linkOf_ok (d := d) (by omega) ha0 ep3) rfl rfl ?_
      refine fx_istore (ls2 := [some (.ref a0), some (.int a1), some (.int a2), some (.int l3), some (.int l4), some (.int p2.1), some (.int p3.1), o7, o8]) dX12_takes_31 rfl rfl rfl ?_
      refine fx_aload_n dX12_takes_33 rfl rfl ?_
      refine fx_iload_n dX12_takes_34 rfl rfl ?_
      refine fx_iconst (x := 0) dX12_takes_35 rfl (by decide) ?_
      obtain ⟨p4, ep4, h⟩ := xBind_el h
      refine gx_callv (as := [.int a1, .int (0 : Int32)]) (r := []) rfl dX12_takes_36 ca_12_103 rfl me_34 rfl rfl rfl rfl (ha0.1) rfl (fX12_linkOf_ok (d := d) (by omega) ha0 ep4) rfl rfl ?_
      refine fx_if_ne (t := 75) dX12_takes_39 rfl rfl (fun hc5 => ?_) (fun hc5 => ?_)
      · rw [if_pos hc5] at h
        exact fX12_takes_75_ok (o7 := o7) (o8 := o8) hd ha0 ih q7 q8 h
      · rw [if_neg hc5] at h
        refine fx_aload_n dX12_takes_42 rfl rfl ?_
        refine fx_iload_n dX12_takes_43 rfl rfl ?_
        refine fx_bipush (x := 8) dX12_takes_44 rfl (by decide) ?_
        obtain ⟨p6, ep6, h⟩ := xBind_el h
        refine gx_callv (as := [.int a1, .int (8 : Int32)]) (r := []) rfl dX12_takes_46 ca_12_103 rfl me_34 rfl rfl rfl rfl (ha0.1) rfl (fX12_linkOf_ok (d := d) (by omega) ha0 ep6) rfl rfl ?_
        refine fx_if_ne (t := 75) dX12_takes_49 rfl rfl (fun hc7 => ?_) (fun hc7 => ?_)
        · rw [if_pos hc7] at h
          exact fX12_takes_75_ok (o7 := o7) (o8 := o8) hd ha0 ih q7 q8 h
        · rw [if_neg hc7] at h
          refine fx_iload_n dX12_takes_52 rfl rfl ?_
          refine fx_iload dX12_takes_53 rfl rfl ?_
          refine fx_iconst (x := 1) dX12_takes_55 rfl (by decide) ?_
          obtain ⟨x8, hx8, h⟩ := xLet_el h
          refine fx_iadd dX12_takes_56 rfl hx8 ?_
          obtain ⟨x9, hx9, h⟩ := xLet_el h
          refine fx_imul dX12_takes_57 rfl hx9 ?_
          refine fx_bipush (x := 10) dX12_takes_58 rfl (by decide) ?_
          obtain ⟨x10, hx10, h⟩ := xLet_el h
          refine fx_idiv dX12_takes_60 rfl (by decide) hx10 ?_
          refine fx_iload_n dX12_takes_61 rfl rfl ?_
          refine fx_iload dX12_takes_62 rfl rfl ?_
          obtain ⟨x11, hx11, h⟩ := xLet_el h
          refine fx_imul dX12_takes_64 rfl hx11 ?_
          refine fx_bipush (x := 10) dX12_takes_65 rfl (by decide) ?_
          obtain ⟨x12, hx12, h⟩ := xLet_el h
          refine fx_idiv dX12_takes_67 rfl (by decide) hx12 ?_
          refine fx_icmp_le (t := 75) dX12_takes_68 rfl rfl (fun hc13 => ?_) (fun hc13 => ?_)
          · rw [if_pos hc13] at h
            exact fX12_takes_75_ok (o7 := o7) (o8 := o8) hd ha0 ih q7 q8 h
          · rw [if_neg hc13] at h
            refine fx_iconst (x := 1) dX12_takes_71 rfl (by decide) ?_
            refine fx_goto (t := 76) dX12_takes_72 rfl rfl ?_
            exact fX12_takes_76_ok (o7 := o7) (o8 := o8) hd ha0 ih q7 q8 h
def fX12_takes_0 (a0 : Nat) (a1 : Int32) (a2 : Int32) (m : xMem) : Option xMem := (fX12_footOf a0 a1 m).bind fun p1 => fX12_takes_9 a0 a1 a2 xFuel p1.1 (0 : Int32) p1.2
set_option maxRecDepth 4000 in
theorem fX12_takes_0_ok {a0 : Nat} {a1 : Int32} {a2 : Int32} {d : Nat} (hd : 2 ≤ d) (ha0 : isModel a0) {o3 : Option Value} {o4 : Option Value} {o5 : Option Value} {o6 : Option Value} {o7 : Option Value} {o8 : Option Value} {m : xMem} {r : xMem} (q3 : xNoD o3 = true) (q4 : xNoD o4 = true) (q5 : xNoD o5 = true) (q6 : xNoD o6 = true) (q7 : xNoD o7 = true) (q8 : xNoD o8 = true) (h : fX12_takes_0 a0 a1 a2 m = some r) : xFx hh_188 cX12_takes d 0 [some (.ref a0), some (.int a1), some (.int a2), o3, o4, o5, o6, o7, o8] [] (xLay m) 0 0 none (xLay r) := by
  unfold fX12_takes_0 at h
  refine fx_aload_n dX12_takes_0 rfl rfl ?_
  refine fx_iload_n dX12_takes_1 rfl rfl ?_
  obtain ⟨p1, ep1, h⟩ := xBind_el h
  refine gx_callv (as := [.int a1]) (r := []) rfl dX12_takes_2 ca_12_304 rfl me_178 rfl rfl rfl rfl (ha0.1) rfl (fX12_footOf_ok (d := d) (by omega) ha0 ep1) rfl rfl ?_
  refine fx_istore_n (ls2 := [some (.ref a0), some (.int a1), some (.int a2), some (.int p1.1), o4, o5, o6, o7, o8]) dX12_takes_5 rfl rfl rfl ?_
  refine fx_iconst (x := 0) dX12_takes_6 rfl (by decide) ?_
  refine fx_istore (ls2 := [some (.ref a0), some (.int a1), some (.int a2), some (.int p1.1), some (.int (0 : Int32)), o5, o6, o7, o8]) dX12_takes_7 rfl rfl rfl ?_
  exact fX12_takes_9_ok hd ha0 xFuel p1.1 (0 : Int32) (o5) (o6) (o7) (o8) q5 q6 q7 q8 p1.2 r h
def fX12_takes (a0 : Nat) (a1 : Int32) (a2 : Int32) (m : xMem) : Option xMem := fX12_takes_0 a0 a1 a2  m
theorem fX12_takes_ok {a0 : Nat} {a1 : Int32} {a2 : Int32} {m : xMem} {r : xMem} {d : Nat} (hd : 3 ≤ d) (ha0 : isModel a0) (h : fX12_takes a0 a1 a2 m = some r) : xEx d 188 [.ref a0, .int a1, .int a2] (xLay m) none (xLay r) := by
  obtain ⟨d, rfl⟩ : ∃ q, d = q + 1 := ⟨d - 1, by omega⟩
  exact xEx_of me_188 rfl (fX12_takes_0_ok (d := d) (o3 := none) (o4 := none) (o5 := none) (o6 := none) (o7 := none) (o8 := none) (by omega) ha0 rfl rfl rfl rfl rfl rfl h)
def fX12_stairs_21 (a0 : Nat) (a1 : Int32) (a2 : Int32) (m : xMem) : Option xMem := some m
set_option maxRecDepth 4000 in
theorem fX12_stairs_21_ok {a0 : Nat} {a1 : Int32} {a2 : Int32} {d : Nat} (hd : 4 ≤ d) (ha0 : isModel a0) {o3 : Option Value} {o4 : Option Value} {m : xMem} {r : xMem} (q3 : xNoD o3 = true) (q4 : xNoD o4 = true) (h : fX12_stairs_21 a0 a1 a2 m = some r) : xFx hh_180 cX12_stairs d 21 [some (.ref a0), some (.int a1), some (.int a2), o3, o4] [] (xLay m) 0 0 none (xLay r) := by
  unfold fX12_stairs_21 at h
  cases h
  exact fx_return dX12_stairs_21 rfl rfl
def fX12_stairs_115 (a0 : Nat) (a1 : Int32) (a2 : Int32) (m : xMem) : Option xMem := some m
set_option maxRecDepth 4000 in
theorem fX12_stairs_115_ok {a0 : Nat} {a1 : Int32} {a2 : Int32} {d : Nat} (hd : 4 ≤ d) (ha0 : isModel a0) {o3 : Option Value} {o4 : Option Value} {m : xMem} {r : xMem} (q3 : xNoD o3 = true) (q4 : xNoD o4 = true) (h : fX12_stairs_115 a0 a1 a2 m = some r) : xFx hh_180 cX12_stairs d 115 [some (.ref a0), some (.int a1), some (.int a2), o3, o4] [] (xLay m) 0 0 none (xLay r) := by
  unfold fX12_stairs_115 at h
  cases h
  exact fx_return dX12_stairs_115 rfl rfl
def fX12_stairs_93 (a0 : Nat) (a1 : Int32) (a2 : Int32) (l3 : Int32) (m : xMem) : Option xMem := (fX12_linkOf a0 a1 (7 : Int32) m).bind fun p1 => (fX12_linkOf a0 a1 (5 : Int32) p1.2).bind fun p2 => if ¬ p1.1 = p2.1 then fX12_stairs_115 a0 a1 a2 p2.2 else (fX12_takes a0 a1 l3 p2.2).bind fun p4 => fX12_stairs_115 a0 a1 a2 p4
set_option maxRecDepth 4000 in
theorem fX12_stairs_93_ok {a0 : Nat} {a1 : Int32} {a2 : Int32} {d : Nat} (hd : 4 ≤ d) (ha0 : isModel a0) {l3 : Int32} {o4 : Option Value} {m : xMem} {r : xMem} (q4 : xNoD o4 = true) (h : fX12_stairs_93 a0 a1 a2 l3 m = some r) : xFx hh_180 cX12_stairs d 93 [some (.ref a0), some (.int a1), some (.int a2), some (.int l3), o4] [] (xLay m) 0 0 none (xLay r) := by
  unfold fX12_stairs_93 at h
  refine fx_aload_n dX12_stairs_93 rfl rfl ?_
  refine fx_iload_n dX12_stairs_94 rfl rfl ?_
  refine fx_bipush (x := 7) dX12_stairs_95 rfl (by decide) ?_
  obtain ⟨p1, ep1, h⟩ := xBind_el h
  refine gx_callv (as := [.int a1, .int (7 : Int32)]) (r := []) rfl dX12_stairs_97 ca_12_103 rfl me_34 rfl rfl rfl rfl (ha0.1) rfl (fX12_linkOf_ok (d := d) (by omega) ha0 ep1) rfl rfl ?_
  refine fx_aload_n dX12_stairs_100 rfl rfl ?_
  refine fx_iload_n dX12_stairs_101 rfl rfl ?_
  refine fx_iconst (x := 5) dX12_stairs_102 rfl (by decide) ?_
  obtain ⟨p2, ep2, h⟩ := xBind_el h
  refine gx_callv (as := [.int a1, .int (5 : Int32)]) (r := [.int p1.1]) rfl dX12_stairs_103 ca_12_103 rfl me_34 rfl rfl rfl rfl (ha0.1) rfl (fX12_linkOf_ok (d := d) (by omega) ha0 ep2) rfl rfl ?_
  refine fx_icmp_ne (t := 115) dX12_stairs_106 rfl rfl (fun hc3 => ?_) (fun hc3 => ?_)
  · rw [if_pos hc3] at h
    exact fX12_stairs_115_ok (o3 := some (.int l3)) (o4 := o4) hd ha0 rfl q4 h
  · rw [if_neg hc3] at h
    refine fx_aload_n dX12_stairs_109 rfl rfl ?_
    refine fx_iload_n dX12_stairs_110 rfl rfl ?_
    refine fx_iload_n dX12_stairs_111 rfl rfl ?_
    obtain ⟨p4, ep4, h⟩ := xBind_el h
    refine gx_callv (as := [.int a1, .int l3]) (r := []) rfl dX12_stairs_112 ca_12_356 rfl me_188 rfl rfl rfl rfl (ha0.1) rfl (fX12_takes_ok (d := d) (by omega) ha0 ep4) rfl rfl ?_
    exact fX12_stairs_115_ok (o3 := some (.int l3)) (o4 := o4) hd ha0 rfl q4 h
def fX12_stairs_66 (a0 : Nat) (a1 : Int32) (a2 : Int32) (l3 : Int32) (m : xMem) : Option xMem := fX12_stairs_93 a0 a1 a2 l3 m
set_option maxRecDepth 4000 in
theorem fX12_stairs_66_ok {a0 : Nat} {a1 : Int32} {a2 : Int32} {d : Nat} (hd : 4 ≤ d) (ha0 : isModel a0) {l3 : Int32} {o4 : Option Value} {m : xMem} {r : xMem} (q4 : xNoD o4 = true) (h : fX12_stairs_66 a0 a1 a2 l3 m = some r) : xFx hh_180 cX12_stairs d 66 [some (.ref a0), some (.int a1), some (.int a2), some (.int l3), o4] [] (xLay m) 0 0 none (xLay r) := by
  unfold fX12_stairs_66 at h
  refine fx_goto (t := 93) dX12_stairs_66 rfl rfl ?_
  exact fX12_stairs_93_ok (o4 := o4) hd ha0 q4 h
def fX12_stairs_41 (a0 : Nat) (a1 : Int32) (a2 : Int32) : Nat → Int32 → Int32 → xMem → Option xMem
  | 0, _, _, _ => none
  | fuel + 1, l3, l4, m => if (2 : Int32) ≤ l4 then fX12_stairs_66 a0 a1 a2 l3 m else xLet (xRem a2 (2 : Int32)) fun x2 => if ¬ x2 = (0 : Int32) then fX12_stairs_66 a0 a1 a2 l3 m else (fX12_climbs a0 a1 l4 m).bind fun p4 => xLet (l4 + (1 : Int32)) fun x5 => fX12_stairs_41 a0 a1 a2 fuel l3 x5 p4
set_option maxRecDepth 4000 in
theorem fX12_stairs_41_ok {a0 : Nat} {a1 : Int32} {a2 : Int32} {d : Nat} (hd : 4 ≤ d) (ha0 : isModel a0) : ∀ (fuel : Nat) (l3 : Int32) (l4 : Int32) (m : xMem) (r : xMem), fX12_stairs_41 a0 a1 a2 fuel l3 l4 m = some r → xFx hh_180 cX12_stairs d 41 [some (.ref a0), some (.int a1), some (.int a2), some (.int l3), some (.int l4)] [] (xLay m) 0 0 none (xLay r) := by
  intro fuel
  induction fuel with
  | zero => intro l3 l4  m r  h; cases h
  | succ fuel ih =>
    intro l3 l4  m r  h
    unfold fX12_stairs_41 at h
    refine fx_iload dX12_stairs_41 rfl rfl ?_
    refine fx_iconst (x := 2) dX12_stairs_43 rfl (by decide) ?_
    refine fx_icmp_ge (t := 66) dX12_stairs_44 rfl rfl (fun hc1 => ?_) (fun hc1 => ?_)
    · rw [if_pos hc1] at h
      exact fX12_stairs_66_ok (o4 := some (.int l4)) hd ha0 rfl h
    · rw [if_neg hc1] at h
      refine fx_iload_n dX12_stairs_47 rfl rfl ?_
      refine fx_iconst (x := 2) dX12_stairs_48 rfl (by decide) ?_
      obtain ⟨x2, hx2, h⟩ := xLet_el h
      refine fx_irem dX12_stairs_49 rfl (by decide) hx2 ?_
      refine fx_if_ne (t := 66) dX12_stairs_50 rfl rfl (fun hc3 => ?_) (fun hc3 => ?_)
      · rw [if_pos hc3] at h
        exact fX12_stairs_66_ok (o4 := some (.int l4)) hd ha0 rfl h
      · rw [if_neg hc3] at h
        refine fx_aload_n dX12_stairs_53 rfl rfl ?_
        refine fx_iload_n dX12_stairs_54 rfl rfl ?_
        refine fx_iload dX12_stairs_55 rfl rfl ?_
        obtain ⟨p4, ep4, h⟩ := xBind_el h
        refine gx_callv (as := [.int a1, .int l4]) (r := []) rfl dX12_stairs_57 ca_12_347 rfl me_182 rfl rfl rfl rfl (ha0.1) rfl (fX12_climbs_ok (d := d) (by omega) ha0 ep4) rfl rfl ?_
        obtain ⟨x5, hx5, h⟩ := xLet_el h
        refine fx_iinc (ls2 := [some (.ref a0), some (.int a1), some (.int a2), some (.int l3), some (.int x5)]) dX12_stairs_60 rfl rfl rfl hx5 rfl ?_
        refine fx_goto (t := 41) dX12_stairs_63 rfl rfl ?_
        exact ih l3 x5 p4 r h
def fX12_stairs_87 (a0 : Nat) (a1 : Int32) (a2 : Int32) (m : xMem) : Option xMem := (fX12_trips a0 a1 m).bind fun p1 => some p1
set_option maxRecDepth 4000 in
theorem fX12_stairs_87_ok {a0 : Nat} {a1 : Int32} {a2 : Int32} {d : Nat} (hd : 4 ≤ d) (ha0 : isModel a0) {o3 : Option Value} {o4 : Option Value} {m : xMem} {r : xMem} (q3 : xNoD o3 = true) (q4 : xNoD o4 = true) (h : fX12_stairs_87 a0 a1 a2 m = some r) : xFx hh_180 cX12_stairs d 87 [some (.ref a0), some (.int a1), some (.int a2), o3, o4] [] (xLay m) 0 0 none (xLay r) := by
  unfold fX12_stairs_87 at h
  refine fx_aload_n dX12_stairs_87 rfl rfl ?_
  refine fx_iload_n dX12_stairs_88 rfl rfl ?_
  obtain ⟨p1, ep1, h⟩ := xBind_el h
  refine gx_callv (as := [.int a1]) (r := []) rfl dX12_stairs_89 ca_12_353 rfl me_187 rfl rfl rfl rfl (ha0.1) rfl (fX12_trips_ok (d := d) (by omega) ha0 ep1) rfl rfl ?_
  cases h
  exact fx_return dX12_stairs_92 rfl rfl
def fX12_stairs_0 (a0 : Nat) (a1 : Int32) (a2 : Int32) (m : xMem) : Option xMem := (fX12_linkOf a0 a1 (6 : Int32) m).bind fun p1 => if p1.1 = (0 : Int32) then fX12_stairs_21 a0 a1 a2 p1.2 else (fX12_linkOf a0 a1 (9 : Int32) p1.2).bind fun p3 => if ¬ p3.1 = (1 : Int32) then (fX12_walkOf a0 a1 p3.2).bind fun p5 => (fX12_linkOf a0 a1 (0 : Int32) p5.2).bind fun p6 => if ¬ p6.1 = (1 : Int32) then (fX12_moves a0 a1 (0 : Int32) p6.2).bind fun p8 => if p8.1 = (0 : Int32) then fX12_stairs_87 a0 a1 a2 p8.2 else (fX12_moves a0 a1 (1 : Int32) p8.2).bind fun p10 => if ¬ p10.1 = (0 : Int32) then fX12_stairs_93 a0 a1 a2 p5.1 p10.2 else fX12_stairs_87 a0 a1 a2 p10.2 else fX12_stairs_41 a0 a1 a2 xFuel p5.1 (0 : Int32) p6.2 else fX12_stairs_21 a0 a1 a2 p3.2
set_option maxRecDepth 4000 in
theorem fX12_stairs_0_ok {a0 : Nat} {a1 : Int32} {a2 : Int32} {d : Nat} (hd : 4 ≤ d) (ha0 : isModel a0) {o3 : Option Value} {o4 : Option Value} {m : xMem} {r : xMem} (q3 : xNoD o3 = true) (q4 : xNoD o4 = true) (h : fX12_stairs_0 a0 a1 a2 m = some r) : xFx hh_180 cX12_stairs d 0 [some (.ref a0), some (.int a1), some (.int a2), o3, o4] [] (xLay m) 0 0 none (xLay r) := by
  unfold fX12_stairs_0 at h
  refine fx_aload_n dX12_stairs_0 rfl rfl ?_
  refine fx_iload_n dX12_stairs_1 rfl rfl ?_
  refine fx_bipush (x := 6) dX12_stairs_2 rfl (by decide) ?_
  obtain ⟨p1, ep1, h⟩ := xBind_el h
  refine gx_callv (as := [.int a1, .int (6 : Int32)]) (r := []) rfl dX12_stairs_4 ca_12_103 rfl me_34 rfl rfl rfl rfl (ha0.1) rfl (fX12_linkOf_ok (d := d) (by omega) ha0 ep1) rfl rfl ?_
  refine fx_if_eq (t := 21) dX12_stairs_7 rfl rfl (fun hc2 => ?_) (fun hc2 => ?_)
  · rw [if_pos hc2] at h
    exact fX12_stairs_21_ok (o3 := o3) (o4 := o4) hd ha0 q3 q4 h
  · rw [if_neg hc2] at h
    refine fx_aload_n dX12_stairs_10 rfl rfl ?_
    refine fx_iload_n dX12_stairs_11 rfl rfl ?_
    refine fx_bipush (x := 9) dX12_stairs_12 rfl (by decide) ?_
    obtain ⟨p3, ep3, h⟩ := xBind_el h
    refine gx_callv (as := [.int a1, .int (9 : Int32)]) (r := []) rfl dX12_stairs_14 ca_12_103 rfl me_34 rfl rfl rfl rfl (ha0.1) rfl (fX12_linkOf_ok (d := d) (by omega) ha0 ep3) rfl rfl ?_
    refine fx_iconst (x := 1) dX12_stairs_17 rfl (by decide) ?_
    refine fx_icmp_ne (t := 22) dX12_stairs_18 rfl rfl (fun hc4 => ?_) (fun hc4 => ?_)
    · rw [if_pos hc4] at h
      refine fx_aload_n dX12_stairs_22 rfl rfl ?_
      refine fx_iload_n dX12_stairs_23 rfl rfl ?_
      obtain ⟨p5, ep5, h⟩ := xBind_el h
      refine gx_callv (as := [.int a1]) (r := []) rfl dX12_stairs_24 ca_12_344 rfl me_181 rfl rfl rfl rfl (ha0.1) rfl (fX12_walkOf_ok (d := d) (by omega) ha0 ep5) rfl rfl ?_
      refine fx_istore_n (ls2 := [some (.ref a0), some (.int a1), some (.int a2), some (.int p5.1), o4]) dX12_stairs_27 rfl rfl rfl ?_
      refine fx_aload_n dX12_stairs_28 rfl rfl ?_
      refine fx_iload_n dX12_stairs_29 rfl rfl ?_
      refine fx_iconst (x := 0) dX12_stairs_30 rfl (by decide) ?_
      obtain ⟨p6, ep6, h⟩ := xBind_el h
      refine gx_callv (as := [.int a1, .int (0 : Int32)]) (r := []) rfl dX12_stairs_31 ca_12_103 rfl me_34 rfl rfl rfl rfl (ha0.1) rfl (fX12_linkOf_ok (d := d) (by omega) ha0 ep6) rfl rfl ?_
      refine fx_iconst (x := 1) dX12_stairs_34 rfl (by decide) ?_
      refine fx_icmp_ne (t := 69) dX12_stairs_35 rfl rfl (fun hc7 => ?_) (fun hc7 => ?_)
      · rw [if_pos hc7] at h
        refine fx_aload_n dX12_stairs_69 rfl rfl ?_
        refine fx_iload_n dX12_stairs_70 rfl rfl ?_
        refine fx_iconst (x := 0) dX12_stairs_71 rfl (by decide) ?_
        obtain ⟨p8, ep8, h⟩ := xBind_el h
        refine gx_callv (as := [.int a1, .int (0 : Int32)]) (r := []) rfl dX12_stairs_72 ca_12_350 rfl me_186 rfl rfl rfl rfl (ha0.1) rfl (fX12_moves_ok (d := d) (by omega) ha0 ep8) rfl rfl ?_
        refine fx_if_eq (t := 87) dX12_stairs_75 rfl rfl (fun hc9 => ?_) (fun hc9 => ?_)
        · rw [if_pos hc9] at h
          exact fX12_stairs_87_ok (o3 := some (.int p5.1)) (o4 := o4) hd ha0 rfl q4 h
        · rw [if_neg hc9] at h
          refine fx_aload_n dX12_stairs_78 rfl rfl ?_
          refine fx_iload_n dX12_stairs_79 rfl rfl ?_
          refine fx_iconst (x := 1) dX12_stairs_80 rfl (by decide) ?_
          obtain ⟨p10, ep10, h⟩ := xBind_el h
          refine gx_callv (as := [.int a1, .int (1 : Int32)]) (r := []) rfl dX12_stairs_81 ca_12_350 rfl me_186 rfl rfl rfl rfl (ha0.1) rfl (fX12_moves_ok (d := d) (by omega) ha0 ep10) rfl rfl ?_
          refine fx_if_ne (t := 93) dX12_stairs_84 rfl rfl (fun hc11 => ?_) (fun hc11 => ?_)
          · rw [if_pos hc11] at h
            exact fX12_stairs_93_ok (o4 := o4) hd ha0 q4 h
          · rw [if_neg hc11] at h
            exact fX12_stairs_87_ok (o3 := some (.int p5.1)) (o4 := o4) hd ha0 rfl q4 h
      · rw [if_neg hc7] at h
        refine fx_iconst (x := 0) dX12_stairs_38 rfl (by decide) ?_
        refine fx_istore (ls2 := [some (.ref a0), some (.int a1), some (.int a2), some (.int p5.1), some (.int (0 : Int32))]) dX12_stairs_39 rfl rfl rfl ?_
        exact fX12_stairs_41_ok hd ha0 xFuel p5.1 (0 : Int32) p6.2 r h
    · rw [if_neg hc4] at h
      exact fX12_stairs_21_ok (o3 := o3) (o4 := o4) hd ha0 q3 q4 h
def fX12_stairs (a0 : Nat) (a1 : Int32) (a2 : Int32) (m : xMem) : Option xMem := fX12_stairs_0 a0 a1 a2  m
theorem fX12_stairs_ok {a0 : Nat} {a1 : Int32} {a2 : Int32} {m : xMem} {r : xMem} {d : Nat} (hd : 5 ≤ d) (ha0 : isModel a0) (h : fX12_stairs a0 a1 a2 m = some r) : xEx d 180 [.ref a0, .int a1, .int a2] (xLay m) none (xLay r) := by
  obtain ⟨d, rfl⟩ : ∃ q, d = q + 1 := ⟨d - 1, by omega⟩
  exact xEx_of me_180 rfl (fX12_stairs_0_ok (d := d) (o3 := none) (o4 := none) (by omega) ha0 rfl rfl h)
def fX12_lifts_49 (a0 : Nat) (a1 : Int32) (a2 : Int32) (a3 : Int32) (m : xMem) : Option xMem := some m
set_option maxRecDepth 4000 in
theorem fX12_lifts_49_ok {a0 : Nat} {a1 : Int32} {a2 : Int32} {a3 : Int32} {d : Nat} (hd : 2 ≤ d) (ha0 : isModel a0) {o4 : Option Value} {o5 : Option Value} {m : xMem} {r : xMem} (q4 : xNoD o4 = true) (q5 : xNoD o5 = true) (h : fX12_lifts_49 a0 a1 a2 a3 m = some r) : xFx hh_191 cX12_lifts d 49 [some (.ref a0), some (.int a1), some (.int a2), some (.int a3), o4, o5] [] (xLay m) 0 0 none (xLay r) := by
  unfold fX12_lifts_49 at h
  cases h
  exact fx_return dX12_lifts_49 rfl rfl
def fX12_lifts_50 (a0 : Nat) (a1 : Int32) (a2 : Int32) (a3 : Int32) (rec3 : Int32 → xMem → Option xMem) (l4 : Int32) (l5 : Int32) (m : xMem) : Option xMem := xLet ((12 : Int32) * a2) fun x1 => xLet ((50 : Int32) + x1) fun x2 => xLet ((2 : Int32) * l5) fun x3 => xLet (x2 + x3) fun x4 => xLet (x4 + (1 : Int32)) fun x5 => bif xIn x5 1610 then xLet (m.1 (a0 + 1) x5.toNatClampNeg) fun x6 => xLet (x6 - (1 : Int32)) fun x8 => bif xIn x5 1610 then xLet (xPut m (a0 + 1) x5.toNatClampNeg x8) fun m9 => (fX12_comes a0 a3 l5 (1 : Int32) (1 : Int32) m9).bind fun p11 => (fX12_linkOf a0 a1 (10 : Int32) p11).bind fun p12 => xLet (p12.1 + (1 : Int32)) fun x13 => (fX12_tells a0 a1 (10 : Int32) x13 p12.2).bind fun p14 => (fX12_linkOf a0 a1 (11 : Int32) p14).bind fun p15 => xLet (p15.1 + (1 : Int32)) fun x16 => (fX12_tells a0 a1 (11 : Int32) x16 p15.2).bind fun p17 => xLet (l4 + (1 : Int32)) fun x18 => rec3 x18 p17 else none else none
set_option maxRecDepth 4000 in
theorem fX12_lifts_50_ok {a0 : Nat} {a1 : Int32} {a2 : Int32} {a3 : Int32} {rec3 : Int32 → xMem → Option xMem} {d : Nat} (hd : 2 ≤ d) (ha0 : isModel a0) (hrec3 : ∀ (l4 : Int32) (o5 : Option Value) (q5 : xNoD o5 = true) (m : xMem) (r : xMem), rec3 l4 m = some r → xFx hh_191 cX12_lifts d 3 [some (.ref a0), some (.int a1), some (.int a2), some (.int a3), some (.int l4), o5] [] (xLay m) 0 0 none (xLay r)) {l4 : Int32} {l5 : Int32} {m : xMem} {r : xMem} (h : fX12_lifts_50 a0 a1 a2 a3 rec3 l4 l5 m = some r) : xFx hh_191 cX12_lifts d 50 [some (.ref a0), some (.int a1), some (.int a2), some (.int a3), some (.int l4), some (.int l5)] [] (xLay m) 0 0 none (xLay r) := by
  unfold fX12_lifts_50 at h
  refine fx_aload_n dX12_lifts_50 rfl rfl ?_
  refine gx_getr dX12_lifts_51 rfl fd_12_7 ha0.1 rfl rfl ?_
  refine fx_bipush (x := 50) dX12_lifts_54 rfl (by decide) ?_
  refine fx_bipush (x := 12) dX12_lifts_56 rfl (by decide) ?_
  refine fx_iload_n dX12_lifts_58 rfl rfl ?_
  obtain ⟨x1, hx1, h⟩ := xLet_el h
  refine fx_imul dX12_lifts_59 rfl hx1 ?_
  obtain ⟨x2, hx2, h⟩ := xLet_el h
  refine fx_iadd dX12_lifts_60 rfl hx2 ?_
  refine fx_iconst (x := 2) dX12_lifts_61 rfl (by decide) ?_
  refine fx_iload dX12_lifts_62 rfl rfl ?_
  obtain ⟨x3, hx3, h⟩ := xLet_el h
  refine fx_imul dX12_lifts_64 rfl hx3 ?_
  obtain ⟨x4, hx4, h⟩ := xLet_el h
  refine fx_iadd dX12_lifts_65 rfl hx4 ?_
  refine fx_iconst (x := 1) dX12_lifts_66 rfl (by decide) ?_
  obtain ⟨x5, hx5, h⟩ := xLet_el h
  refine fx_iadd dX12_lifts_67 rfl hx5 ?_
  refine fx_dup2 dX12_lifts_68 rfl rfl ?_
  obtain ⟨hj7, h⟩ := xChk_el h
  obtain ⟨x6, hx6, h⟩ := xLet_el h
  refine gx_iaload dX12_lifts_69 rfl ha0.2.1 hj7 hx6 ?_
  refine fx_iconst (x := 1) dX12_lifts_70 rfl (by decide) ?_
  obtain ⟨x8, hx8, h⟩ := xLet_el h
  refine fx_isub dX12_lifts_71 rfl hx8 ?_
  obtain ⟨hj10, h⟩ := xChk_el h
  obtain ⟨m9, hm9, h⟩ := xLet_el h
  refine gx_iastore dX12_lifts_72 rfl ha0.2.1 hj10 hm9 ?_
  refine fx_aload_n dX12_lifts_73 rfl rfl ?_
  refine fx_iload_n dX12_lifts_74 rfl rfl ?_
  refine fx_iload dX12_lifts_75 rfl rfl ?_
  refine fx_iconst (x := 1) dX12_lifts_77 rfl (by decide) ?_
  refine fx_iconst (x := 1) dX12_lifts_78 rfl (by decide) ?_
  obtain ⟨p11, ep11, h⟩ := xBind_el h
  refine gx_callv (as := [.int a3, .int l5, .int (1 : Int32), .int (1 : Int32)]) (r := []) rfl dX12_lifts_79 ca_12_309 rfl me_166 rfl rfl rfl rfl (ha0.1) rfl (fX12_comes_ok (d := d) (by omega) ha0 ep11) rfl rfl ?_
  refine fx_aload_n dX12_lifts_82 rfl rfl ?_
  refine fx_iload_n dX12_lifts_83 rfl rfl ?_
  refine fx_bipush (x := 10) dX12_lifts_84 rfl (by decide) ?_
  refine fx_aload_n dX12_lifts_86 rfl rfl ?_
  refine fx_iload_n dX12_lifts_87 rfl rfl ?_
  refine fx_bipush (x := 10) dX12_lifts_88 rfl (by decide) ?_
  obtain ⟨p12, ep12, h⟩ := xBind_el h
  refine gx_callv (as := [.int a1, .int (10 : Int32)]) (r := [.int (10 : Int32), .int a1, .ref a0]) rfl dX12_lifts_90 ca_12_103 rfl me_34 rfl rfl rfl rfl (ha0.1) rfl (fX12_linkOf_ok (d := d) (by omega) ha0 ep12) rfl rfl ?_
  refine fx_iconst (x := 1) dX12_lifts_93 rfl (by decide) ?_
  obtain ⟨x13, hx13, h⟩ := xLet_el h
  refine fx_iadd dX12_lifts_94 rfl hx13 ?_
  obtain ⟨p14, ep14, h⟩ := xBind_el h
  refine gx_callv (as := [.int a1, .int (10 : Int32), .int x13]) (r := []) rfl dX12_lifts_95 ca_12_110 rfl me_26 rfl rfl rfl rfl (ha0.1) rfl (fX12_tells_ok (d := d) (by omega) ha0 ep14) rfl rfl ?_
  refine fx_aload_n dX12_lifts_98 rfl rfl ?_
  refine fx_iload_n dX12_lifts_99 rfl rfl ?_
  refine fx_bipush (x := 11) dX12_lifts_100 rfl (by decide) ?_
  refine fx_aload_n dX12_lifts_102 rfl rfl ?_
  refine fx_iload_n dX12_lifts_103 rfl rfl ?_
  refine fx_bipush (x := 11) dX12_lifts_104 rfl (by decide) ?_
  obtain ⟨p15, ep15, h⟩ := xBind_el h
  refine gx_callv (as := [.int a1, .int (11 : Int32)]) (r := [.int (11 : Int32), .int a1, .ref a0]) rfl dX12_lifts_106 ca_12_103 rfl me_34 rfl rfl rfl rfl (ha0.1) rfl (fX12_linkOf_ok (d := d) (by omega) ha0 ep15) rfl rfl ?_
  refine fx_iconst (x := 1) dX12_lifts_109 rfl (by decide) ?_
  obtain ⟨x16, hx16, h⟩ := xLet_el h
  refine fx_iadd dX12_lifts_110 rfl hx16 ?_
  obtain ⟨p17, ep17, h⟩ := xBind_el h
  refine gx_callv (as := [.int a1, .int (11 : Int32), .int x16]) (r := []) rfl dX12_lifts_111 ca_12_110 rfl me_26 rfl rfl rfl rfl (ha0.1) rfl (fX12_tells_ok (d := d) (by omega) ha0 ep17) rfl rfl ?_
  obtain ⟨x18, hx18, h⟩ := xLet_el h
  refine fx_iinc (ls2 := [some (.ref a0), some (.int a1), some (.int a2), some (.int a3), some (.int x18), some (.int l5)]) dX12_lifts_114 rfl rfl rfl hx18 rfl ?_
  refine fx_goto (t := 3) dX12_lifts_117 rfl rfl ?_
  exact hrec3 x18 (some (.int l5)) rfl p17 r h
def fX12_lifts_3 (a0 : Nat) (a1 : Int32) (a2 : Int32) (a3 : Int32) : Nat → Int32 → xMem → Option xMem
  | 0, _, _ => none
  | fuel + 1, l4, m => (fX12_linkOf a0 a1 (3 : Int32) m).bind fun p1 => if p1.1 ≤ l4 then some p1.2 else (fX12_mostOf a0 a1 a2 (1 : Int32) p1.2).bind fun p3 => if p3.1 = (-1 : Int32) then fX12_lifts_49 a0 a1 a2 a3 p3.2 else if p3.1 = a3 then fX12_lifts_50 a0 a1 a2 a3 (fX12_lifts_3 a0 a1 a2 a3 fuel) l4 p3.1 p3.2 else (fX12_inHall a0 a3 p3.2).bind fun p6 => (fX12_hallOf a0 a3 (0 : Int32) p6.2).bind fun p7 => if p6.1 < p7.1 then fX12_lifts_50 a0 a1 a2 a3 (fX12_lifts_3 a0 a1 a2 a3 fuel) l4 p3.1 p7.2 else fX12_lifts_49 a0 a1 a2 a3 p7.2
set_option maxRecDepth 4000 in
theorem fX12_lifts_3_ok {a0 : Nat} {a1 : Int32} {a2 : Int32} {a3 : Int32} {d : Nat} (hd : 2 ≤ d) (ha0 : isModel a0) : ∀ (fuel : Nat) (l4 : Int32) (o5 : Option Value) (q5 : xNoD o5 = true) (m : xMem) (r : xMem), fX12_lifts_3 a0 a1 a2 a3 fuel l4 m = some r → xFx hh_191 cX12_lifts d 3 [some (.ref a0), some (.int a1), some (.int a2), some (.int a3), some (.int l4), o5] [] (xLay m) 0 0 none (xLay r) := by
  intro fuel
  induction fuel with
  | zero => intro l4 o5 q5 m r  h; cases h
  | succ fuel ih =>
    intro l4 o5 q5 m r  h
    unfold fX12_lifts_3 at h
    refine fx_iload dX12_lifts_3 rfl rfl ?_
    refine fx_aload_n dX12_lifts_5 rfl rfl ?_
    refine fx_iload_n dX12_lifts_6 rfl rfl ?_
    refine fx_iconst (x := 3) dX12_lifts_7 rfl (by decide) ?_
    obtain ⟨p1, ep1, h⟩ := xBind_el h
    refine gx_callv (as := [.int a1, .int (3 : Int32)]) (r := [.int l4]) rfl dX12_lifts_8 ca_12_103 rfl me_34 rfl rfl rfl rfl (ha0.1) rfl (fX12_linkOf_ok (d := d) (by omega) ha0 ep1) rfl rfl ?_
    refine fx_icmp_ge (t := 120) dX12_lifts_11 rfl rfl (fun hc2 => ?_) (fun hc2 => ?_)
    · rw [if_pos hc2] at h
      cases h
      exact fx_return dX12_lifts_120 rfl rfl
    · rw [if_neg hc2] at h
      refine fx_aload_n dX12_lifts_14 rfl rfl ?_
      refine fx_iload_n dX12_lifts_15 rfl rfl ?_
      refine fx_iload_n dX12_lifts_16 rfl rfl ?_
      refine fx_iconst (x := 1) dX12_lifts_17 rfl (by decide) ?_
      obtain ⟨p3, ep3, h⟩ := xBind_el h
      refine gx_callv (as := [.int a1, .int a2, .int (1 : Int32)]) (r := []) rfl dX12_lifts_18 ca_12_328 rfl me_189 rfl rfl rfl rfl (ha0.1) rfl (fX12_mostOf_ok (d := d) (by omega) ha0 ep3) rfl rfl ?_
      refine fx_istore (ls2 := [some (.ref a0), some (.int a1), some (.int a2), some (.int a3), some (.int l4), some (.int p3.1)]) dX12_lifts_21 rfl rfl rfl ?_
      refine fx_iload dX12_lifts_23 rfl rfl ?_
      refine fx_iconst (x := -1) dX12_lifts_25 rfl (by decide) ?_
      refine fx_icmp_eq (t := 49) dX12_lifts_26 rfl rfl (fun hc4 => ?_) (fun hc4 => ?_)
      · rw [if_pos hc4] at h
        exact fX12_lifts_49_ok (o4 := some (.int l4)) (o5 := some (.int p3.1)) hd ha0 rfl rfl h
      · rw [if_neg hc4] at h
        refine fx_iload dX12_lifts_29 rfl rfl ?_
        refine fx_iload_n dX12_lifts_31 rfl rfl ?_
        refine fx_icmp_eq (t := 50) dX12_lifts_32 rfl rfl (fun hc5 => ?_) (fun hc5 => ?_)
        · rw [if_pos hc5] at h
          exact fX12_lifts_50_ok hd ha0 ih h
        · rw [if_neg hc5] at h
          refine fx_aload_n dX12_lifts_35 rfl rfl ?_
          refine fx_iload_n dX12_lifts_36 rfl rfl ?_
          obtain ⟨p6, ep6, h⟩ := xBind_el h
          refine gx_callv (as := [.int a3]) (r := []) rfl dX12_lifts_37 ca_12_292 rfl me_168 rfl rfl rfl rfl (ha0.1) rfl (fX12_inHall_ok (d := d) (by omega) ha0 ep6) rfl rfl ?_
          refine fx_aload_n dX12_lifts_40 rfl rfl ?_
          refine fx_iload_n dX12_lifts_41 rfl rfl ?_
          refine fx_iconst (x := 0) dX12_lifts_42 rfl (by decide) ?_
          obtain ⟨p7, ep7, h⟩ := xBind_el h
          refine gx_callv (as := [.int a3, .int (0 : Int32)]) (r := [.int p6.1]) rfl dX12_lifts_43 ca_12_295 rfl me_170 rfl rfl rfl rfl (ha0.1) rfl (fX12_hallOf_ok (d := d) (by omega) ha0 ep7) rfl rfl ?_
          refine fx_icmp_lt (t := 50) dX12_lifts_46 rfl rfl (fun hc8 => ?_) (fun hc8 => ?_)
          · rw [if_pos hc8] at h
            exact fX12_lifts_50_ok hd ha0 ih h
          · rw [if_neg hc8] at h
            exact fX12_lifts_49_ok (o4 := some (.int l4)) (o5 := some (.int p3.1)) hd ha0 rfl rfl h
def fX12_lifts_0 (a0 : Nat) (a1 : Int32) (a2 : Int32) (a3 : Int32) (m : xMem) : Option xMem := fX12_lifts_3 a0 a1 a2 a3 xFuel (0 : Int32) m
set_option maxRecDepth 4000 in
theorem fX12_lifts_0_ok {a0 : Nat} {a1 : Int32} {a2 : Int32} {a3 : Int32} {d : Nat} (hd : 2 ≤ d) (ha0 : isModel a0) {o4 : Option Value} {o5 : Option Value} {m : xMem} {r : xMem} (q4 : xNoD o4 = true) (q5 : xNoD o5 = true) (h : fX12_lifts_0 a0 a1 a2 a3 m = some r) : xFx hh_191 cX12_lifts d 0 [some (.ref a0), some (.int a1), some (.int a2), some (.int a3), o4, o5] [] (xLay m) 0 0 none (xLay r) := by
  unfold fX12_lifts_0 at h
  refine fx_iconst (x := 0) dX12_lifts_0 rfl (by decide) ?_
  refine fx_istore (ls2 := [some (.ref a0), some (.int a1), some (.int a2), some (.int a3), some (.int (0 : Int32)), o5]) dX12_lifts_1 rfl rfl rfl ?_
  exact fX12_lifts_3_ok hd ha0 xFuel (0 : Int32) (o5) q5 m r h
def fX12_lifts (a0 : Nat) (a1 : Int32) (a2 : Int32) (a3 : Int32) (m : xMem) : Option xMem := fX12_lifts_0 a0 a1 a2 a3  m
theorem fX12_lifts_ok {a0 : Nat} {a1 : Int32} {a2 : Int32} {a3 : Int32} {m : xMem} {r : xMem} {d : Nat} (hd : 3 ≤ d) (ha0 : isModel a0) (h : fX12_lifts a0 a1 a2 a3 m = some r) : xEx d 191 [.ref a0, .int a1, .int a2, .int a3] (xLay m) none (xLay r) := by
  obtain ⟨d, rfl⟩ : ∃ q, d = q + 1 := ⟨d - 1, by omega⟩
  exact xEx_of me_191 rfl (fX12_lifts_0_ok (d := d) (o4 := none) (o5 := none) (by omega) ha0 rfl rfl h)
def fX12_second_78 (a0 : Nat) (rec37 : Int32 → Int32 → xMem → Option xMem) (l1 : Int32) (l2 : Int32) (m : xMem) : Option xMem := xLet (l2 + (1 : Int32)) fun x1 => rec37 l1 x1 m
set_option maxRecDepth 4000 in
theorem fX12_second_78_ok {a0 : Nat} {rec37 : Int32 → Int32 → xMem → Option xMem} {d : Nat} (hd : 5 ≤ d) (ha0 : isModel a0) (hrec37 : ∀ (l1 : Int32) (l2 : Int32) (o3 : Option Value) (q3 : xNoD o3 = true) (m : xMem) (r : xMem), rec37 l1 l2 m = some r → xFx hh_164 cX12_second d 37 [some (.ref a0), some (.int l1), some (.int l2), o3] [] (xLay m) 0 0 none (xLay r)) {l1 : Int32} {l2 : Int32} {o3 : Option Value} {m : xMem} {r : xMem} (q3 : xNoD o3 = true) (h : fX12_second_78 a0 rec37 l1 l2 m = some r) : xFx hh_164 cX12_second d 78 [some (.ref a0), some (.int l1), some (.int l2), o3] [] (xLay m) 0 0 none (xLay r) := by
  unfold fX12_second_78 at h
  obtain ⟨x1, hx1, h⟩ := xLet_el h
  refine fx_iinc (ls2 := [some (.ref a0), some (.int l1), some (.int x1), o3]) dX12_second_78 rfl rfl rfl hx1 rfl ?_
  refine fx_goto (t := 37) dX12_second_81 rfl rfl ?_
  exact hrec37 l1 x1 (o3) q3 m r h
def fX12_second_164 (a0 : Nat) (rec90 : Int32 → Int32 → xMem → Option xMem) (l1 : Int32) (l2 : Int32) (m : xMem) : Option xMem := xLet (l2 + (1 : Int32)) fun x1 => rec90 l1 x1 m
set_option maxRecDepth 4000 in
theorem fX12_second_164_ok {a0 : Nat} {rec90 : Int32 → Int32 → xMem → Option xMem} {d : Nat} (hd : 5 ≤ d) (ha0 : isModel a0) (hrec90 : ∀ (l1 : Int32) (l2 : Int32) (o3 : Option Value) (q3 : xNoD o3 = true) (m : xMem) (r : xMem), rec90 l1 l2 m = some r → xFx hh_164 cX12_second d 90 [some (.ref a0), some (.int l1), some (.int l2), o3] [] (xLay m) 0 0 none (xLay r)) {l1 : Int32} {l2 : Int32} {o3 : Option Value} {m : xMem} {r : xMem} (q3 : xNoD o3 = true) (h : fX12_second_164 a0 rec90 l1 l2 m = some r) : xFx hh_164 cX12_second d 164 [some (.ref a0), some (.int l1), some (.int l2), o3] [] (xLay m) 0 0 none (xLay r) := by
  unfold fX12_second_164 at h
  obtain ⟨x1, hx1, h⟩ := xLet_el h
  refine fx_iinc (ls2 := [some (.ref a0), some (.int l1), some (.int x1), o3]) dX12_second_164 rfl rfl rfl hx1 rfl ?_
  refine fx_goto (t := 90) dX12_second_167 rfl rfl ?_
  exact hrec90 l1 x1 (o3) q3 m r h
def fX12_second_288 (a0 : Nat) (rec172 : Int32 → Int32 → xMem → Option xMem) (l1 : Int32) (l2 : Int32) (m : xMem) : Option xMem := xLet (l2 + (1 : Int32)) fun x1 => rec172 l1 x1 m
set_option maxRecDepth 4000 in
theorem fX12_second_288_ok {a0 : Nat} {rec172 : Int32 → Int32 → xMem → Option xMem} {d : Nat} (hd : 5 ≤ d) (ha0 : isModel a0) (hrec172 : ∀ (l1 : Int32) (l2 : Int32) (o3 : Option Value) (q3 : xNoD o3 = true) (m : xMem) (r : xMem), rec172 l1 l2 m = some r → xFx hh_164 cX12_second d 172 [some (.ref a0), some (.int l1), some (.int l2), o3] [] (xLay m) 0 0 none (xLay r)) {l1 : Int32} {l2 : Int32} {o3 : Option Value} {m : xMem} {r : xMem} (q3 : xNoD o3 = true) (h : fX12_second_288 a0 rec172 l1 l2 m = some r) : xFx hh_164 cX12_second d 288 [some (.ref a0), some (.int l1), some (.int l2), o3] [] (xLay m) 0 0 none (xLay r) := by
  unfold fX12_second_288 at h
  obtain ⟨x1, hx1, h⟩ := xLet_el h
  refine fx_iinc (ls2 := [some (.ref a0), some (.int l1), some (.int x1), o3]) dX12_second_288 rfl rfl rfl hx1 rfl ?_
  refine fx_goto (t := 172) dX12_second_291 rfl rfl ?_
  exact hrec172 l1 x1 (o3) q3 m r h
def fX12_second_254 (a0 : Nat) (rec172 : Int32 → Int32 → xMem → Option xMem) (l1 : Int32) (l2 : Int32) (s0 : Nat) (s1 : Int32) (s2 : Int32) (s3 : Int32) (m : xMem) : Option xMem := xLet (s2 + s3) fun x1 => bif xIn s1 1610 then xLet (xPut m s0 s1.toNatClampNeg x1) fun m2 => (fX12_isOver a0 l2 m2).bind fun p4 => if p4.1 = (0 : Int32) then fX12_second_288 a0 rec172 l1 l2 p4.2 else (fX12_hallOf a0 l2 (3 : Int32) p4.2).bind fun p6 => if ¬ p6.1 = (-1 : Int32) then fX12_second_288 a0 rec172 l1 l2 p6.2 else xLet ((4 : Int32) * l2) fun x8 => xLet ((20 : Int32) + x8) fun x9 => xLet (x9 + (3 : Int32)) fun x10 => bif xIn x10 1610 then xLet (xPut p6.2 (a0 + 1) x10.toNatClampNeg l1) fun m11 => fX12_second_288 a0 rec172 l1 l2 m11 else none else none
set_option maxRecDepth 4000 in
theorem fX12_second_254_ok {a0 : Nat} {rec172 : Int32 → Int32 → xMem → Option xMem} {d : Nat} (hd : 5 ≤ d) (ha0 : isModel a0) (hrec172 : ∀ (l1 : Int32) (l2 : Int32) (o3 : Option Value) (q3 : xNoD o3 = true) (m : xMem) (r : xMem), rec172 l1 l2 m = some r → xFx hh_164 cX12_second d 172 [some (.ref a0), some (.int l1), some (.int l2), o3] [] (xLay m) 0 0 none (xLay r)) {l1 : Int32} {l2 : Int32} {s0 : Nat} {s1 : Int32} {s2 : Int32} {s3 : Int32} {o3 : Option Value} {m : xMem} {r : xMem} (hs0 : xTmL[s0]? = some (101, 1610, [])) (q3 : xNoD o3 = true) (h : fX12_second_254 a0 rec172 l1 l2 s0 s1 s2 s3 m = some r) : xFx hh_164 cX12_second d 254 [some (.ref a0), some (.int l1), some (.int l2), o3] [.int s3, .int s2, .int s1, .ref s0] (xLay m) 0 0 none (xLay r) := by
  unfold fX12_second_254 at h
  obtain ⟨x1, hx1, h⟩ := xLet_el h
  refine fx_iadd dX12_second_254 rfl hx1 ?_
  obtain ⟨hj3, h⟩ := xChk_el h
  obtain ⟨m2, hm2, h⟩ := xLet_el h
  refine gx_iastore dX12_second_255 rfl hs0 hj3 hm2 ?_
  refine fx_aload_n dX12_second_256 rfl rfl ?_
  refine fx_iload_n dX12_second_257 rfl rfl ?_
  obtain ⟨p4, ep4, h⟩ := xBind_el h
  refine gx_callv (as := [.int l2]) (r := []) rfl dX12_second_258 ca_12_374 rfl me_192 rfl rfl rfl rfl (ha0.1) rfl (fX12_isOver_ok (d := d) (by omega) ha0 ep4) rfl rfl ?_
  refine fx_if_eq (t := 288) dX12_second_261 rfl rfl (fun hc5 => ?_) (fun hc5 => ?_)
  · rw [if_pos hc5] at h
    exact fX12_second_288_ok (o3 := o3) hd ha0 hrec172 q3 h
  · rw [if_neg hc5] at h
    refine fx_aload_n dX12_second_264 rfl rfl ?_
    refine fx_iload_n dX12_second_265 rfl rfl ?_
    refine fx_iconst (x := 3) dX12_second_266 rfl (by decide) ?_
    obtain ⟨p6, ep6, h⟩ := xBind_el h
    refine gx_callv (as := [.int l2, .int (3 : Int32)]) (r := []) rfl dX12_second_267 ca_12_295 rfl me_170 rfl rfl rfl rfl (ha0.1) rfl (fX12_hallOf_ok (d := d) (by omega) ha0 ep6) rfl rfl ?_
    refine fx_iconst (x := -1) dX12_second_270 rfl (by decide) ?_
    refine fx_icmp_ne (t := 288) dX12_second_271 rfl rfl (fun hc7 => ?_) (fun hc7 => ?_)
    · rw [if_pos hc7] at h
      exact fX12_second_288_ok (o3 := o3) hd ha0 hrec172 q3 h
    · rw [if_neg hc7] at h
      refine fx_aload_n dX12_second_274 rfl rfl ?_
      refine gx_getr dX12_second_275 rfl fd_12_7 ha0.1 rfl rfl ?_
      refine fx_bipush (x := 20) dX12_second_278 rfl (by decide) ?_
      refine fx_iconst (x := 4) dX12_second_280 rfl (by decide) ?_
      refine fx_iload_n dX12_second_281 rfl rfl ?_
      obtain ⟨x8, hx8, h⟩ := xLet_el h
      refine fx_imul dX12_second_282 rfl hx8 ?_
      obtain ⟨x9, hx9, h⟩ := xLet_el h
      refine fx_iadd dX12_second_283 rfl hx9 ?_
      refine fx_iconst (x := 3) dX12_second_284 rfl (by decide) ?_
      obtain ⟨x10, hx10, h⟩ := xLet_el h
      refine fx_iadd dX12_second_285 rfl hx10 ?_
      refine fx_iload_n dX12_second_286 rfl rfl ?_
      obtain ⟨hj12, h⟩ := xChk_el h
      obtain ⟨m11, hm11, h⟩ := xLet_el h
      refine gx_iastore dX12_second_287 rfl ha0.2.1 hj12 hm11 ?_
      exact fX12_second_288_ok (o3 := o3) hd ha0 hrec172 q3 h
def fX12_second_225 (a0 : Nat) (rec172 : Int32 → Int32 → xMem → Option xMem) (l1 : Int32) (l2 : Int32) (s0 : Nat) (s1 : Int32) (s2 : Int32) (m : xMem) : Option xMem := bif xIn s1 1610 then xLet (xPut m s0 s1.toNatClampNeg s2) fun m1 => xLet ((4 : Int32) * l2) fun x3 => xLet ((20 : Int32) + x3) fun x4 => xLet (x4 + (2 : Int32)) fun x5 => bif xIn x5 1610 then xLet (m1.1 (a0 + 1) x5.toNatClampNeg) fun x6 => bif xIn l2 6 then xLet (m1.1 (a0 + 20) l2.toNatClampNeg) fun x8 => if x8 = (0 : Int32) then fX12_second_254 a0 rec172 l1 l2 (a0 + 1) x5 x6 (0 : Int32) m1 else fX12_second_254 a0 rec172 l1 l2 (a0 + 1) x5 x6 (1 : Int32) m1 else none else none else none
set_option maxRecDepth 4000 in
theorem fX12_second_225_ok {a0 : Nat} {rec172 : Int32 → Int32 → xMem → Option xMem} {d : Nat} (hd : 5 ≤ d) (ha0 : isModel a0) (hrec172 : ∀ (l1 : Int32) (l2 : Int32) (o3 : Option Value) (q3 : xNoD o3 = true) (m : xMem) (r : xMem), rec172 l1 l2 m = some r → xFx hh_164 cX12_second d 172 [some (.ref a0), some (.int l1), some (.int l2), o3] [] (xLay m) 0 0 none (xLay r)) {l1 : Int32} {l2 : Int32} {s0 : Nat} {s1 : Int32} {s2 : Int32} {o3 : Option Value} {m : xMem} {r : xMem} (hs0 : xTmL[s0]? = some (101, 1610, [])) (q3 : xNoD o3 = true) (h : fX12_second_225 a0 rec172 l1 l2 s0 s1 s2 m = some r) : xFx hh_164 cX12_second d 225 [some (.ref a0), some (.int l1), some (.int l2), o3] [.int s2, .int s1, .ref s0] (xLay m) 0 0 none (xLay r) := by
  unfold fX12_second_225 at h
  obtain ⟨hj2, h⟩ := xChk_el h
  obtain ⟨m1, hm1, h⟩ := xLet_el h
  refine gx_iastore dX12_second_225 rfl hs0 hj2 hm1 ?_
  refine fx_aload_n dX12_second_226 rfl rfl ?_
  refine gx_getr dX12_second_227 rfl fd_12_7 ha0.1 rfl rfl ?_
  refine fx_bipush (x := 20) dX12_second_230 rfl (by decide) ?_
  refine fx_iconst (x := 4) dX12_second_232 rfl (by decide) ?_
  refine fx_iload_n dX12_second_233 rfl rfl ?_
  obtain ⟨x3, hx3, h⟩ := xLet_el h
  refine fx_imul dX12_second_234 rfl hx3 ?_
  obtain ⟨x4, hx4, h⟩ := xLet_el h
  refine fx_iadd dX12_second_235 rfl hx4 ?_
  refine fx_iconst (x := 2) dX12_second_236 rfl (by decide) ?_
  obtain ⟨x5, hx5, h⟩ := xLet_el h
  refine fx_iadd dX12_second_237 rfl hx5 ?_
  refine fx_dup2 dX12_second_238 rfl rfl ?_
  obtain ⟨hj7, h⟩ := xChk_el h
  obtain ⟨x6, hx6, h⟩ := xLet_el h
  refine gx_iaload dX12_second_239 rfl ha0.2.1 hj7 hx6 ?_
  refine fx_aload_n dX12_second_240 rfl rfl ?_
  refine gx_getr dX12_second_241 rfl fd_12_76 ha0.1 rfl rfl ?_
  refine fx_iload_n dX12_second_244 rfl rfl ?_
  obtain ⟨hj9, h⟩ := xChk_el h
  obtain ⟨x8, hx8, h⟩ := xLet_el h
  refine gx_baload (t := 3) dX12_second_245 rfl ha0.2.2.2.2.2.2.2.2.2.2.2.2.2.2.2.2.2.2.2.2.1 rfl hj9 hx8 ?_
  refine fx_if_eq (t := 253) dX12_second_246 rfl rfl (fun hc10 => ?_) (fun hc10 => ?_)
  · rw [if_pos hc10] at h
    refine fx_iconst (x := 0) dX12_second_253 rfl (by decide) ?_
    exact fX12_second_254_ok (o3 := o3) hd ha0 hrec172 ha0.2.1 q3 h
  · rw [if_neg hc10] at h
    refine fx_iconst (x := 1) dX12_second_249 rfl (by decide) ?_
    refine fx_goto (t := 254) dX12_second_250 rfl rfl ?_
    exact fX12_second_254_ok (o3 := o3) hd ha0 hrec172 ha0.2.1 q3 h
def fX12_second_172 (a0 : Nat) : Nat → Int32 → Int32 → xMem → Option xMem
  | 0, _, _, _ => none
  | fuel + 1, l1, l2, m => bif xIn (1 : Int32) 1610 then xLet (m.1 (a0 + 1) (1 : Int32).toNatClampNeg) fun x1 => if x1 ≤ l2 then bif xIn (0 : Int32) 1610 then xLet (m.1 (a0 + 1) (0 : Int32).toNatClampNeg) fun x4 => xLet (x4 + (1 : Int32)) fun x6 => bif xIn (0 : Int32) 1610 then xLet (xPut m (a0 + 1) (0 : Int32).toNatClampNeg x6) fun m7 => some m7 else none else none else bif xIn (10 : Int32) 1610 then xLet (m.1 (a0 + 1) (10 : Int32).toNatClampNeg) fun x9 => (fX12_inHall a0 l2 m).bind fun p11 => xLet (x9 + p11.1) fun x12 => (fX12_countOf a0 (130 : Int32) l2 p11.2).bind fun p13 => xLet (x12 + p13.1) fun x14 => if x14 ≤ (1000000000 : Int32) then fX12_second_225 a0 (fX12_second_172 a0 fuel) l1 l2 (a0 + 1) (10 : Int32) x14 p13.2 else fX12_second_225 a0 (fX12_second_172 a0 fuel) l1 l2 (a0 + 1) (10 : Int32) (1000000000 : Int32) p13.2 else none else none
set_option maxRecDepth 4000 in
theorem fX12_second_172_ok {a0 : Nat} {d : Nat} (hd : 5 ≤ d) (ha0 : isModel a0) : ∀ (fuel : Nat) (l1 : Int32) (l2 : Int32) (o3 : Option Value) (q3 : xNoD o3 = true) (m : xMem) (r : xMem), fX12_second_172 a0 fuel l1 l2 m = some r → xFx hh_164 cX12_second d 172 [some (.ref a0), some (.int l1), some (.int l2), o3] [] (xLay m) 0 0 none (xLay r) := by
  intro fuel
  induction fuel with
  | zero => intro l1 l2 o3 q3 m r  h; cases h
  | succ fuel ih =>
    intro l1 l2 o3 q3 m r  h
    unfold fX12_second_172 at h
    refine fx_iload_n dX12_second_172 rfl rfl ?_
    refine fx_aload_n dX12_second_173 rfl rfl ?_
    refine gx_getr dX12_second_174 rfl fd_12_7 ha0.1 rfl rfl ?_
    refine fx_iconst (x := 1) dX12_second_177 rfl (by decide) ?_
    obtain ⟨hj2, h⟩ := xChk_el h
    obtain ⟨x1, hx1, h⟩ := xLet_el h
    refine gx_iaload dX12_second_178 rfl ha0.2.1 hj2 hx1 ?_
    refine fx_icmp_ge (t := 294) dX12_second_179 rfl rfl (fun hc3 => ?_) (fun hc3 => ?_)
    · rw [if_pos hc3] at h
      refine fx_aload_n dX12_second_294 rfl rfl ?_
      refine gx_getr dX12_second_295 rfl fd_12_7 ha0.1 rfl rfl ?_
      refine fx_iconst (x := 0) dX12_second_298 rfl (by decide) ?_
      refine fx_dup2 dX12_second_299 rfl rfl ?_
      obtain ⟨hj5, h⟩ := xChk_el h
      obtain ⟨x4, hx4, h⟩ := xLet_el h
      refine gx_iaload dX12_second_300 rfl ha0.2.1 hj5 hx4 ?_
      refine fx_iconst (x := 1) dX12_second_301 rfl (by decide) ?_
      obtain ⟨x6, hx6, h⟩ := xLet_el h
      refine fx_iadd dX12_second_302 rfl hx6 ?_
      obtain ⟨hj8, h⟩ := xChk_el h
      obtain ⟨m7, hm7, h⟩ := xLet_el h
      refine gx_iastore dX12_second_303 rfl ha0.2.1 hj8 hm7 ?_
      cases h
      exact fx_return dX12_second_304 rfl rfl
    · rw [if_neg hc3] at h
      refine fx_aload_n dX12_second_182 rfl rfl ?_
      refine gx_getr dX12_second_183 rfl fd_12_7 ha0.1 rfl rfl ?_
      refine fx_bipush (x := 10) dX12_second_186 rfl (by decide) ?_
      obtain ⟨hj10, h⟩ := xChk_el h
      obtain ⟨x9, hx9, h⟩ := xLet_el h
      refine gx_iaload dX12_second_188 rfl ha0.2.1 hj10 hx9 ?_
      refine fx_aload_n dX12_second_189 rfl rfl ?_
      refine fx_iload_n dX12_second_190 rfl rfl ?_
      obtain ⟨p11, ep11, h⟩ := xBind_el h
      refine gx_callv (as := [.int l2]) (r := [.int x9]) rfl dX12_second_191 ca_12_292 rfl me_168 rfl rfl rfl rfl (ha0.1) rfl (fX12_inHall_ok (d := d) (by omega) ha0 ep11) rfl rfl ?_
      obtain ⟨x12, hx12, h⟩ := xLet_el h
      refine fx_iadd dX12_second_194 rfl hx12 ?_
      refine fx_aload_n dX12_second_195 rfl rfl ?_
      refine fx_sipush (x := 130) dX12_second_196 rfl (by decide) ?_
      refine fx_iload_n dX12_second_199 rfl rfl ?_
      obtain ⟨p13, ep13, h⟩ := xBind_el h
      refine gx_callv (as := [.int (130 : Int32), .int l2]) (r := [.int x12]) rfl dX12_second_200 ca_12_289 rfl me_169 rfl rfl rfl rfl (ha0.1) rfl (fX12_countOf_ok (d := d) (by omega) ha0 ep13) rfl rfl ?_
      obtain ⟨x14, hx14, h⟩ := xLet_el h
      refine fx_iadd dX12_second_203 rfl hx14 ?_
      refine fx_istore_n (ls2 := [some (.ref a0), some (.int l1), some (.int l2), some (.int x14)]) dX12_second_204 rfl rfl rfl ?_
      refine fx_aload_n dX12_second_205 rfl rfl ?_
      refine gx_getr dX12_second_206 rfl fd_12_7 ha0.1 rfl rfl ?_
      refine fx_bipush (x := 10) dX12_second_209 rfl (by decide) ?_
      refine fx_iload_n dX12_second_211 rfl rfl ?_
      refine fx_ldc_w dX12_second_212 rfl ck_12_317 ?_
      refine fx_icmp_le (t := 224) dX12_second_215 rfl rfl (fun hc15 => ?_) (fun hc15 => ?_)
      · rw [if_pos hc15] at h
        refine fx_iload_n dX12_second_224 rfl rfl ?_
        exact fX12_second_225_ok (o3 := some (.int x14)) hd ha0 ih ha0.2.1 rfl h
      · rw [if_neg hc15] at h
        refine fx_ldc_w dX12_second_218 rfl ck_12_317 ?_
        refine fx_goto (t := 225) dX12_second_221 rfl rfl ?_
        exact fX12_second_225_ok (o3 := some (.int x14)) hd ha0 ih ha0.2.1 rfl h
def fX12_second_90 (a0 : Nat) : Nat → Int32 → Int32 → xMem → Option xMem
  | 0, _, _, _ => none
  | fuel + 1, l1, l2, m => bif xIn (2 : Int32) 1610 then xLet (m.1 (a0 + 1) (2 : Int32).toNatClampNeg) fun x1 => if x1 ≤ l2 then fX12_second_172 a0 xFuel l1 (0 : Int32) m else (fX12_linkOf a0 l2 (0 : Int32) m).bind fun p4 => if (2 : Int32) ≤ p4.1 then (fX12_linkOf a0 l2 (4 : Int32) p4.2).bind fun p6 => bif !decide (p6.1 = 0) then xLet (xRem l1 p6.1) fun x7 => if ¬ x7 = (0 : Int32) then fX12_second_164 a0 (fX12_second_90 a0 fuel) l1 l2 p6.2 else (fX12_linkOf a0 l2 (1 : Int32) p6.2).bind fun p10 => (fX12_linkOf a0 l2 (2 : Int32) p10.2).bind fun p11 => (fX12_lifts a0 l2 p10.1 p11.1 p11.2).bind fun p12 => (fX12_linkOf a0 l2 (2 : Int32) p12).bind fun p13 => (fX12_linkOf a0 l2 (1 : Int32) p13.2).bind fun p14 => (fX12_lifts a0 l2 p13.1 p14.1 p14.2).bind fun p15 => fX12_second_164 a0 (fX12_second_90 a0 fuel) l1 l2 p15 else none else (fX12_stairs a0 l2 l1 p4.2).bind fun p16 => fX12_second_164 a0 (fX12_second_90 a0 fuel) l1 l2 p16 else none
set_option maxRecDepth 4000 in
theorem fX12_second_90_ok {a0 : Nat} {d : Nat} (hd : 5 ≤ d) (ha0 : isModel a0) : ∀ (fuel : Nat) (l1 : Int32) (l2 : Int32) (o3 : Option Value) (q3 : xNoD o3 = true) (m : xMem) (r : xMem), fX12_second_90 a0 fuel l1 l2 m = some r → xFx hh_164 cX12_second d 90 [some (.ref a0), some (.int l1), some (.int l2), o3] [] (xLay m) 0 0 none (xLay r) := by
  intro fuel
  induction fuel with
  | zero => intro l1 l2 o3 q3 m r  h; cases h
  | succ fuel ih =>
    intro l1 l2 o3 q3 m r  h
    unfold fX12_second_90 at h
    refine fx_iload_n dX12_second_90 rfl rfl ?_
    refine fx_aload_n dX12_second_91 rfl rfl ?_
    refine gx_getr dX12_second_92 rfl fd_12_7 ha0.1 rfl rfl ?_
    refine fx_iconst (x := 2) dX12_second_95 rfl (by decide) ?_
    obtain ⟨hj2, h⟩ := xChk_el h
    obtain ⟨x1, hx1, h⟩ := xLet_el h
    refine gx_iaload dX12_second_96 rfl ha0.2.1 hj2 hx1 ?_
    refine fx_icmp_ge (t := 170) dX12_second_97 rfl rfl (fun hc3 => ?_) (fun hc3 => ?_)
    · rw [if_pos hc3] at h
      refine fx_iconst (x := 0) dX12_second_170 rfl (by decide) ?_
      refine fx_istore_n (ls2 := [some (.ref a0), some (.int l1), some (.int (0 : Int32)), o3]) dX12_second_171 rfl rfl rfl ?_
      exact fX12_second_172_ok hd ha0 xFuel l1 (0 : Int32) (o3) q3 m r h
    · rw [if_neg hc3] at h
      refine fx_aload_n dX12_second_100 rfl rfl ?_
      refine fx_iload_n dX12_second_101 rfl rfl ?_
      refine fx_iconst (x := 0) dX12_second_102 rfl (by decide) ?_
      obtain ⟨p4, ep4, h⟩ := xBind_el h
      refine gx_callv (as := [.int l2, .int (0 : Int32)]) (r := []) rfl dX12_second_103 ca_12_103 rfl me_34 rfl rfl rfl rfl (ha0.1) rfl (fX12_linkOf_ok (d := d) (by omega) ha0 ep4) rfl rfl ?_
      refine fx_iconst (x := 2) dX12_second_106 rfl (by decide) ?_
      refine fx_icmp_ge (t := 119) dX12_second_107 rfl rfl (fun hc5 => ?_) (fun hc5 => ?_)
      · rw [if_pos hc5] at h
        refine fx_iload_n dX12_second_119 rfl rfl ?_
        refine fx_aload_n dX12_second_120 rfl rfl ?_
        refine fx_iload_n dX12_second_121 rfl rfl ?_
        refine fx_iconst (x := 4) dX12_second_122 rfl (by decide) ?_
        obtain ⟨p6, ep6, h⟩ := xBind_el h
        refine gx_callv (as := [.int l2, .int (4 : Int32)]) (r := [.int l1]) rfl dX12_second_123 ca_12_103 rfl me_34 rfl rfl rfl rfl (ha0.1) rfl (fX12_linkOf_ok (d := d) (by omega) ha0 ep6) rfl rfl ?_
        obtain ⟨hz8, h⟩ := xChk_el h
        obtain ⟨x7, hx7, h⟩ := xLet_el h
        refine fx_irem dX12_second_126 rfl (by simpa using hz8) hx7 ?_
        refine fx_if_ne (t := 164) dX12_second_127 rfl rfl (fun hc9 => ?_) (fun hc9 => ?_)
        · rw [if_pos hc9] at h
          exact fX12_second_164_ok (o3 := o3) hd ha0 ih q3 h
        · rw [if_neg hc9] at h
          refine fx_aload_n dX12_second_130 rfl rfl ?_
          refine fx_iload_n dX12_second_131 rfl rfl ?_
          refine fx_aload_n dX12_second_132 rfl rfl ?_
          refine fx_iload_n dX12_second_133 rfl rfl ?_
          refine fx_iconst (x := 1) dX12_second_134 rfl (by decide) ?_
          obtain ⟨p10, ep10, h⟩ := xBind_el h
          refine gx_callv (as := [.int l2, .int (1 : Int32)]) (r := [.int l2, .ref a0]) rfl dX12_second_135 ca_12_103 rfl me_34 rfl rfl rfl rfl (ha0.1) rfl (fX12_linkOf_ok (d := d) (by omega) ha0 ep10) rfl rfl ?_
          refine fx_aload_n dX12_second_138 rfl rfl ?_
          refine fx_iload_n dX12_second_139 rfl rfl ?_
          refine fx_iconst (x := 2) dX12_second_140 rfl (by decide) ?_
          obtain ⟨p11, ep11, h⟩ := xBind_el h
          refine gx_callv (as := [.int l2, .int (2 : Int32)]) (r := [.int p10.1, .int l2, .ref a0]) rfl dX12_second_141 ca_12_103 rfl me_34 rfl rfl rfl rfl (ha0.1) rfl (fX12_linkOf_ok (d := d) (by omega) ha0 ep11) rfl rfl ?_
          obtain ⟨p12, ep12, h⟩ := xBind_el h
          refine gx_callv (as := [.int l2, .int p10.1, .int p11.1]) (r := []) rfl dX12_second_144 ca_12_371 rfl me_191 rfl rfl rfl rfl (ha0.1) rfl (fX12_lifts_ok (d := d) (by omega) ha0 ep12) rfl rfl ?_
          refine fx_aload_n dX12_second_147 rfl rfl ?_
          refine fx_iload_n dX12_second_148 rfl rfl ?_
          refine fx_aload_n dX12_second_149 rfl rfl ?_
          refine fx_iload_n dX12_second_150 rfl rfl ?_
          refine fx_iconst (x := 2) dX12_second_151 rfl (by decide) ?_
          obtain ⟨p13, ep13, h⟩ := xBind_el h
          refine gx_callv (as := [.int l2, .int (2 : Int32)]) (r := [.int l2, .ref a0]) rfl dX12_second_152 ca_12_103 rfl me_34 rfl rfl rfl rfl (ha0.1) rfl (fX12_linkOf_ok (d := d) (by omega) ha0 ep13) rfl rfl ?_
          refine fx_aload_n dX12_second_155 rfl rfl ?_
          refine fx_iload_n dX12_second_156 rfl rfl ?_
          refine fx_iconst (x := 1) dX12_second_157 rfl (by decide) ?_
          obtain ⟨p14, ep14, h⟩ := xBind_el h
          refine gx_callv (as := [.int l2, .int (1 : Int32)]) (r := [.int p13.1, .int l2, .ref a0]) rfl dX12_second_158 ca_12_103 rfl me_34 rfl rfl rfl rfl (ha0.1) rfl (fX12_linkOf_ok (d := d) (by omega) ha0 ep14) rfl rfl ?_
          obtain ⟨p15, ep15, h⟩ := xBind_el h
          refine gx_callv (as := [.int l2, .int p13.1, .int p14.1]) (r := []) rfl dX12_second_161 ca_12_371 rfl me_191 rfl rfl rfl rfl (ha0.1) rfl (fX12_lifts_ok (d := d) (by omega) ha0 ep15) rfl rfl ?_
          exact fX12_second_164_ok (o3 := o3) hd ha0 ih q3 h
      · rw [if_neg hc5] at h
        refine fx_aload_n dX12_second_110 rfl rfl ?_
        refine fx_iload_n dX12_second_111 rfl rfl ?_
        refine fx_iload_n dX12_second_112 rfl rfl ?_
        obtain ⟨p16, ep16, h⟩ := xBind_el h
        refine gx_callv (as := [.int l2, .int l1]) (r := []) rfl dX12_second_113 ca_12_368 rfl me_180 rfl rfl rfl rfl (ha0.1) rfl (fX12_stairs_ok (d := d) (by omega) ha0 ep16) rfl rfl ?_
        refine fx_goto (t := 164) dX12_second_116 rfl rfl ?_
        exact fX12_second_164_ok (o3 := o3) hd ha0 ih q3 h
def fX12_second_37 (a0 : Nat) : Nat → Int32 → Int32 → xMem → Option xMem
  | 0, _, _, _ => none
  | fuel + 1, l1, l2, m => bif xIn (2 : Int32) 1610 then xLet (m.1 (a0 + 1) (2 : Int32).toNatClampNeg) fun x1 => if x1 ≤ l2 then (fX12_allRoutes a0 m).bind fun p4 => fX12_second_90 a0 xFuel l1 (0 : Int32) p4 else (fX12_linkOf a0 l2 (0 : Int32) m).bind fun p5 => if (2 : Int32) ≤ p5.1 then fX12_second_78 a0 (fX12_second_37 a0 fuel) l1 l2 p5.2 else (fX12_loadOf a0 l2 p5.2).bind fun p7 => if ¬ p7.1 = (0 : Int32) then fX12_second_78 a0 (fX12_second_37 a0 fuel) l1 l2 p7.2 else (fX12_linkOf a0 l2 (7 : Int32) p7.2).bind fun p9 => (fX12_tells a0 l2 (5 : Int32) p9.1 p9.2).bind fun p10 => fX12_second_78 a0 (fX12_second_37 a0 fuel) l1 l2 p10 else none
set_option maxRecDepth 4000 in
theorem fX12_second_37_ok {a0 : Nat} {d : Nat} (hd : 5 ≤ d) (ha0 : isModel a0) : ∀ (fuel : Nat) (l1 : Int32) (l2 : Int32) (o3 : Option Value) (q3 : xNoD o3 = true) (m : xMem) (r : xMem), fX12_second_37 a0 fuel l1 l2 m = some r → xFx hh_164 cX12_second d 37 [some (.ref a0), some (.int l1), some (.int l2), o3] [] (xLay m) 0 0 none (xLay r) := by
  intro fuel
  induction fuel with
  | zero => intro l1 l2 o3 q3 m r  h; cases h
  | succ fuel ih =>
    intro l1 l2 o3 q3 m r  h
    unfold fX12_second_37 at h
    refine fx_iload_n dX12_second_37 rfl rfl ?_
    refine fx_aload_n dX12_second_38 rfl rfl ?_
    refine gx_getr dX12_second_39 rfl fd_12_7 ha0.1 rfl rfl ?_
    refine fx_iconst (x := 2) dX12_second_42 rfl (by decide) ?_
    obtain ⟨hj2, h⟩ := xChk_el h
    obtain ⟨x1, hx1, h⟩ := xLet_el h
    refine gx_iaload dX12_second_43 rfl ha0.2.1 hj2 hx1 ?_
    refine fx_icmp_ge (t := 84) dX12_second_44 rfl rfl (fun hc3 => ?_) (fun hc3 => ?_)
    · rw [if_pos hc3] at h
      refine fx_aload_n dX12_second_84 rfl rfl ?_
      obtain ⟨p4, ep4, h⟩ := xBind_el h
      refine gx_callv (as := []) (r := []) rfl dX12_second_85 ca_12_365 rfl me_175 rfl rfl rfl rfl (ha0.1) rfl (fX12_allRoutes_ok (d := d) (by omega) ha0 ep4) rfl rfl ?_
      refine fx_iconst (x := 0) dX12_second_88 rfl (by decide) ?_
      refine fx_istore_n (ls2 := [some (.ref a0), some (.int l1), some (.int (0 : Int32)), o3]) dX12_second_89 rfl rfl rfl ?_
      exact fX12_second_90_ok hd ha0 xFuel l1 (0 : Int32) (o3) q3 p4 r h
    · rw [if_neg hc3] at h
      refine fx_aload_n dX12_second_47 rfl rfl ?_
      refine fx_iload_n dX12_second_48 rfl rfl ?_
      refine fx_iconst (x := 0) dX12_second_49 rfl (by decide) ?_
      obtain ⟨p5, ep5, h⟩ := xBind_el h
      refine gx_callv (as := [.int l2, .int (0 : Int32)]) (r := []) rfl dX12_second_50 ca_12_103 rfl me_34 rfl rfl rfl rfl (ha0.1) rfl (fX12_linkOf_ok (d := d) (by omega) ha0 ep5) rfl rfl ?_
      refine fx_iconst (x := 2) dX12_second_53 rfl (by decide) ?_
      refine fx_icmp_ge (t := 78) dX12_second_54 rfl rfl (fun hc6 => ?_) (fun hc6 => ?_)
      · rw [if_pos hc6] at h
        exact fX12_second_78_ok (o3 := o3) hd ha0 ih q3 h
      · rw [if_neg hc6] at h
        refine fx_aload_n dX12_second_57 rfl rfl ?_
        refine fx_iload_n dX12_second_58 rfl rfl ?_
        obtain ⟨p7, ep7, h⟩ := xBind_el h
        refine gx_callv (as := [.int l2]) (r := []) rfl dX12_second_59 ca_12_117 rfl me_35 rfl rfl rfl rfl (ha0.1) rfl (fX12_loadOf_ok (d := d) (by omega) ha0 ep7) rfl rfl ?_
        refine fx_if_ne (t := 78) dX12_second_62 rfl rfl (fun hc8 => ?_) (fun hc8 => ?_)
        · rw [if_pos hc8] at h
          exact fX12_second_78_ok (o3 := o3) hd ha0 ih q3 h
        · rw [if_neg hc8] at h
          refine fx_aload_n dX12_second_65 rfl rfl ?_
          refine fx_iload_n dX12_second_66 rfl rfl ?_
          refine fx_iconst (x := 5) dX12_second_67 rfl (by decide) ?_
          refine fx_aload_n dX12_second_68 rfl rfl ?_
          refine fx_iload_n dX12_second_69 rfl rfl ?_
          refine fx_bipush (x := 7) dX12_second_70 rfl (by decide) ?_
          obtain ⟨p9, ep9, h⟩ := xBind_el h
          refine gx_callv (as := [.int l2, .int (7 : Int32)]) (r := [.int (5 : Int32), .int l2, .ref a0]) rfl dX12_second_72 ca_12_103 rfl me_34 rfl rfl rfl rfl (ha0.1) rfl (fX12_linkOf_ok (d := d) (by omega) ha0 ep9) rfl rfl ?_
          obtain ⟨p10, ep10, h⟩ := xBind_el h
          refine gx_callv (as := [.int l2, .int (5 : Int32), .int p9.1]) (r := []) rfl dX12_second_75 ca_12_110 rfl me_26 rfl rfl rfl rfl (ha0.1) rfl (fX12_tells_ok (d := d) (by omega) ha0 ep10) rfl rfl ?_
          exact fX12_second_78_ok (o3 := o3) hd ha0 ih q3 h
def fX12_second_14 (a0 : Nat) : Nat → Int32 → Int32 → xMem → Option xMem
  | 0, _, _, _ => none
  | fuel + 1, l1, l2, m => bif xIn (1 : Int32) 1610 then xLet (m.1 (a0 + 1) (1 : Int32).toNatClampNeg) fun x1 => if x1 ≤ l2 then fX12_second_37 a0 xFuel l1 (0 : Int32) m else (fX12_lets a0 l2 m).bind fun p4 => xLet (l2 + (1 : Int32)) fun x5 => fX12_second_14 a0 fuel l1 x5 p4 else none
set_option maxRecDepth 4000 in
theorem fX12_second_14_ok {a0 : Nat} {d : Nat} (hd : 5 ≤ d) (ha0 : isModel a0) : ∀ (fuel : Nat) (l1 : Int32) (l2 : Int32) (o3 : Option Value) (q3 : xNoD o3 = true) (m : xMem) (r : xMem), fX12_second_14 a0 fuel l1 l2 m = some r → xFx hh_164 cX12_second d 14 [some (.ref a0), some (.int l1), some (.int l2), o3] [] (xLay m) 0 0 none (xLay r) := by
  intro fuel
  induction fuel with
  | zero => intro l1 l2 o3 q3 m r  h; cases h
  | succ fuel ih =>
    intro l1 l2 o3 q3 m r  h
    unfold fX12_second_14 at h
    refine fx_iload_n dX12_second_14 rfl rfl ?_
    refine fx_aload_n dX12_second_15 rfl rfl ?_
    refine gx_getr dX12_second_16 rfl fd_12_7 ha0.1 rfl rfl ?_
    refine fx_iconst (x := 1) dX12_second_19 rfl (by decide) ?_
    obtain ⟨hj2, h⟩ := xChk_el h
    obtain ⟨x1, hx1, h⟩ := xLet_el h
    refine gx_iaload dX12_second_20 rfl ha0.2.1 hj2 hx1 ?_
    refine fx_icmp_ge (t := 35) dX12_second_21 rfl rfl (fun hc3 => ?_) (fun hc3 => ?_)
    · rw [if_pos hc3] at h
      refine fx_iconst (x := 0) dX12_second_35 rfl (by decide) ?_
      refine fx_istore_n (ls2 := [some (.ref a0), some (.int l1), some (.int (0 : Int32)), o3]) dX12_second_36 rfl rfl rfl ?_
      exact fX12_second_37_ok hd ha0 xFuel l1 (0 : Int32) (o3) q3 m r h
    · rw [if_neg hc3] at h
      refine fx_aload_n dX12_second_24 rfl rfl ?_
      refine fx_iload_n dX12_second_25 rfl rfl ?_
      obtain ⟨p4, ep4, h⟩ := xBind_el h
      refine gx_callv (as := [.int l2]) (r := []) rfl dX12_second_26 ca_12_362 rfl me_174 rfl rfl rfl rfl (ha0.1) rfl (fX12_lets_ok (d := d) (by omega) ha0 ep4) rfl rfl ?_
      obtain ⟨x5, hx5, h⟩ := xLet_el h
      refine fx_iinc (ls2 := [some (.ref a0), some (.int l1), some (.int x5), o3]) dX12_second_29 rfl rfl rfl hx5 rfl ?_
      refine fx_goto (t := 14) dX12_second_32 rfl rfl ?_
      exact ih l1 x5 (o3) q3 p4 r h
def fX12_second_0 (a0 : Nat) (m : xMem) : Option xMem := bif xIn (0 : Int32) 1610 then xLet (m.1 (a0 + 1) (0 : Int32).toNatClampNeg) fun x1 => (fX12_bursts a0 x1 m).bind fun p3 => fX12_second_14 a0 xFuel x1 (0 : Int32) p3 else none
set_option maxRecDepth 4000 in
theorem fX12_second_0_ok {a0 : Nat} {d : Nat} (hd : 5 ≤ d) (ha0 : isModel a0) {o1 : Option Value} {o2 : Option Value} {o3 : Option Value} {m : xMem} {r : xMem} (q1 : xNoD o1 = true) (q2 : xNoD o2 = true) (q3 : xNoD o3 = true) (h : fX12_second_0 a0 m = some r) : xFx hh_164 cX12_second d 0 [some (.ref a0), o1, o2, o3] [] (xLay m) 0 0 none (xLay r) := by
  unfold fX12_second_0 at h
  refine fx_aload_n dX12_second_0 rfl rfl ?_
  refine gx_getr dX12_second_1 rfl fd_12_7 ha0.1 rfl rfl ?_
  refine fx_iconst (x := 0) dX12_second_4 rfl (by decide) ?_
  obtain ⟨hj2, h⟩ := xChk_el h
  obtain ⟨x1, hx1, h⟩ := xLet_el h
  refine gx_iaload dX12_second_5 rfl ha0.2.1 hj2 hx1 ?_
  refine fx_istore_n (ls2 := [some (.ref a0), some (.int x1), o2, o3]) dX12_second_6 rfl rfl rfl ?_
  refine fx_aload_n dX12_second_7 rfl rfl ?_
  refine fx_iload_n dX12_second_8 rfl rfl ?_
  obtain ⟨p3, ep3, h⟩ := xBind_el h
  refine gx_callv (as := [.int x1]) (r := []) rfl dX12_second_9 ca_12_359 rfl me_165 rfl rfl rfl rfl (ha0.1) rfl (fX12_bursts_ok (d := d) (by omega) ha0 ep3) rfl rfl ?_
  refine fx_iconst (x := 0) dX12_second_12 rfl (by decide) ?_
  refine fx_istore_n (ls2 := [some (.ref a0), some (.int x1), some (.int (0 : Int32)), o3]) dX12_second_13 rfl rfl rfl ?_
  exact fX12_second_14_ok hd ha0 xFuel x1 (0 : Int32) (o3) q3 p3 r h
def fX12_second (a0 : Nat) (m : xMem) : Option xMem := fX12_second_0 a0  m
theorem fX12_second_ok {a0 : Nat} {m : xMem} {r : xMem} {d : Nat} (hd : 6 ≤ d) (ha0 : isModel a0) (h : fX12_second a0 m = some r) : xEx d 164 [.ref a0] (xLay m) none (xLay r) := by
  obtain ⟨d, rfl⟩ : ∃ q, d = q + 1 := ⟨d - 1, by omega⟩
  exact xEx_of me_164 rfl (fX12_second_0_ok (d := d) (o1 := none) (o2 := none) (o3 := none) (by omega) ha0 rfl rfl rfl h)
def fX12_run_12 (a0 : Nat) (a1 : Int32) : Nat → Int32 → xMem → Option (Int32 × xMem)
  | 0, _, _ => none
  | fuel + 1, l2, m => if a1 ≤ l2 then bif xIn (0 : Int32) 1610 then xLet (m.1 (a0 + 1) (0 : Int32).toNatClampNeg) fun x2 => some (x2, m) else none else (fX12_second a0 m).bind fun p4 => xLet (l2 + (1 : Int32)) fun x5 => fX12_run_12 a0 a1 fuel x5 p4
set_option maxRecDepth 4000 in
theorem fX12_run_12_ok {a0 : Nat} {a1 : Int32} {d : Nat} (hd : 6 ≤ d) (ha0 : isModel a0) : ∀ (fuel : Nat) (l2 : Int32) (m : xMem) (r : (Int32 × xMem)), fX12_run_12 a0 a1 fuel l2 m = some r → xFx hh_162 cX12_run d 12 [some (.ref a0), some (.int a1), some (.int l2)] [] (xLay m) 0 0 (some (.int r.1)) (xLay r.2) := by
  intro fuel
  induction fuel with
  | zero => intro l2  m r  h; cases h
  | succ fuel ih =>
    intro l2  m r  h
    unfold fX12_run_12 at h
    refine fx_iload_n dX12_run_12 rfl rfl ?_
    refine fx_iload_n dX12_run_13 rfl rfl ?_
    refine fx_icmp_ge (t := 27) dX12_run_14 rfl rfl (fun hc1 => ?_) (fun hc1 => ?_)
    · rw [if_pos hc1] at h
      refine fx_aload_n dX12_run_27 rfl rfl ?_
      refine gx_getr dX12_run_28 rfl fd_12_7 ha0.1 rfl rfl ?_
      refine fx_iconst (x := 0) dX12_run_31 rfl (by decide) ?_
      obtain ⟨hj3, h⟩ := xChk_el h
      obtain ⟨x2, hx2, h⟩ := xLet_el h
      refine gx_iaload dX12_run_32 rfl ha0.2.1 hj3 hx2 ?_
      cases h
      exact fx_ireturn dX12_run_33 rfl rfl
    · rw [if_neg hc1] at h
      refine fx_aload_n dX12_run_17 rfl rfl ?_
      obtain ⟨p4, ep4, h⟩ := xBind_el h
      refine gx_callv (as := []) (r := []) rfl dX12_run_18 ca_12_380 rfl me_164 rfl rfl rfl rfl (ha0.1) rfl (fX12_second_ok (d := d) (by omega) ha0 ep4) rfl rfl ?_
      obtain ⟨x5, hx5, h⟩ := xLet_el h
      refine fx_iinc (ls2 := [some (.ref a0), some (.int a1), some (.int x5)]) dX12_run_21 rfl rfl rfl hx5 rfl ?_
      refine fx_goto (t := 12) dX12_run_24 rfl rfl ?_
      exact ih x5 p4 r h
def fX12_run_0 (a0 : Nat) (a1 : Int32) (m : xMem) : Option (Int32 × xMem) := (fX12_isRun a0 a1 m).bind fun p1 => if ¬ p1.1 = (0 : Int32) then fX12_run_12 a0 a1 xFuel (0 : Int32) p1.2 else some ((-1 : Int32), p1.2)
set_option maxRecDepth 4000 in
theorem fX12_run_0_ok {a0 : Nat} {a1 : Int32} {d : Nat} (hd : 6 ≤ d) (ha0 : isModel a0) {o2 : Option Value} {m : xMem} {r : (Int32 × xMem)} (q2 : xNoD o2 = true) (h : fX12_run_0 a0 a1 m = some r) : xFx hh_162 cX12_run d 0 [some (.ref a0), some (.int a1), o2] [] (xLay m) 0 0 (some (.int r.1)) (xLay r.2) := by
  unfold fX12_run_0 at h
  refine fx_aload_n dX12_run_0 rfl rfl ?_
  refine fx_iload_n dX12_run_1 rfl rfl ?_
  obtain ⟨p1, ep1, h⟩ := xBind_el h
  refine gx_callv (as := [.int a1]) (r := []) rfl dX12_run_2 ca_12_377 rfl me_163 rfl rfl rfl rfl (ha0.1) rfl (fX12_isRun_ok (d := d) (by omega) ha0 ep1) rfl rfl ?_
  refine fx_if_ne (t := 10) dX12_run_5 rfl rfl (fun hc2 => ?_) (fun hc2 => ?_)
  · rw [if_pos hc2] at h
    refine fx_iconst (x := 0) dX12_run_10 rfl (by decide) ?_
    refine fx_istore_n (ls2 := [some (.ref a0), some (.int a1), some (.int (0 : Int32))]) dX12_run_11 rfl rfl rfl ?_
    exact fX12_run_12_ok hd ha0 xFuel (0 : Int32) p1.2 r h
  · rw [if_neg hc2] at h
    refine fx_iconst (x := -1) dX12_run_8 rfl (by decide) ?_
    cases h
    exact fx_ireturn dX12_run_9 rfl rfl
def fX12_run (a0 : Nat) (a1 : Int32) (m : xMem) : Option (Int32 × xMem) := fX12_run_0 a0 a1  m
theorem fX12_run_ok {a0 : Nat} {a1 : Int32} {m : xMem} {r : (Int32 × xMem)} {d : Nat} (hd : 7 ≤ d) (ha0 : isModel a0) (h : fX12_run a0 a1 m = some r) : xEx d 162 [.ref a0, .int a1] (xLay m) (some (.int r.1)) (xLay r.2) := by
  obtain ⟨d, rfl⟩ : ∃ q, d = q + 1 := ⟨d - 1, by omega⟩
  exact xEx_of me_162 rfl (fX12_run_0_ok (d := d) (o2 := none) (by omega) ha0 rfl h)
