theorem bdX12_day_0 : (decode cX12_day 0 = .ok (.iload_n 2, 1)) ∧ (decode cX12_day 1 = .ok (.iconst 0, 1)) ∧ (decode cX12_day 2 = .ok (.iconst 5, 1)) ∧ (decode cX12_day 3 = .ok (.invokestatic 95, 3)) ∧ (decode cX12_day 6 = .ok (.ifCond .eq 26, 3)) ∧ (decode cX12_day 9 = .ok (.iload_n 3, 1)) ∧ (decode cX12_day 10 = .ok (.iconst 0, 1)) ∧ (decode cX12_day 11 = .ok (.sipush 9999, 3)) ∧ (decode cX12_day 14 = .ok (.invokestatic 95, 3)) ∧ (decode cX12_day 17 = .ok (.ifCond .eq 15, 3)) ∧ (decode cX12_day 20 = .ok (.aload_n 0, 1)) ∧ (decode cX12_day 21 = .ok (.getfield 7, 3)) ∧ (decode cX12_day 24 = .ok (.bipush 6, 2)) ∧ (decode cX12_day 26 = .ok (.iaload, 1)) ∧ (decode cX12_day 27 = .ok (.bipush 40, 2)) ∧ (decode cX12_day 29 = .ok (.if_icmp .ne 5, 3)) := by decide +kernel
theorem dX12_day_0 : decode cX12_day 0 = .ok (.iload_n 2, 1) := bdX12_day_0.1
theorem dX12_day_1 : decode cX12_day 1 = .ok (.iconst 0, 1) := bdX12_day_0.2.1
theorem dX12_day_2 : decode cX12_day 2 = .ok (.iconst 5, 1) := bdX12_day_0.2.2.1
theorem dX12_day_3 : decode cX12_day 3 = .ok (.invokestatic 95, 3) := bdX12_day_0.2.2.2.1
theorem dX12_day_6 : decode cX12_day 6 = .ok (.ifCond .eq 26, 3) := bdX12_day_0.2.2.2.2.1
theorem dX12_day_9 : decode cX12_day 9 = .ok (.iload_n 3, 1) := bdX12_day_0.2.2.2.2.2.1
theorem dX12_day_10 : decode cX12_day 10 = .ok (.iconst 0, 1) := bdX12_day_0.2.2.2.2.2.2.1
theorem dX12_day_11 : decode cX12_day 11 = .ok (.sipush 9999, 3) := bdX12_day_0.2.2.2.2.2.2.2.1
theorem dX12_day_14 : decode cX12_day 14 = .ok (.invokestatic 95, 3) := bdX12_day_0.2.2.2.2.2.2.2.2.1
theorem dX12_day_17 : decode cX12_day 17 = .ok (.ifCond .eq 15, 3) := bdX12_day_0.2.2.2.2.2.2.2.2.2.1
theorem dX12_day_20 : decode cX12_day 20 = .ok (.aload_n 0, 1) := bdX12_day_0.2.2.2.2.2.2.2.2.2.2.1
theorem dX12_day_21 : decode cX12_day 21 = .ok (.getfield 7, 3) := bdX12_day_0.2.2.2.2.2.2.2.2.2.2.2.1
theorem dX12_day_24 : decode cX12_day 24 = .ok (.bipush 6, 2) := bdX12_day_0.2.2.2.2.2.2.2.2.2.2.2.2.1
theorem dX12_day_26 : decode cX12_day 26 = .ok (.iaload, 1) := bdX12_day_0.2.2.2.2.2.2.2.2.2.2.2.2.2.1
theorem dX12_day_27 : decode cX12_day 27 = .ok (.bipush 40, 2) := bdX12_day_0.2.2.2.2.2.2.2.2.2.2.2.2.2.2.1
theorem dX12_day_29 : decode cX12_day 29 = .ok (.if_icmp .ne 5, 3) := bdX12_day_0.2.2.2.2.2.2.2.2.2.2.2.2.2.2.2
theorem bdX12_day_32 : (decode cX12_day 32 = .ok (.iconst (-1), 1)) ∧ (decode cX12_day 33 = .ok (.ireturn, 1)) ∧ (decode cX12_day 34 = .ok (.sipush 1390, 3)) ∧ (decode cX12_day 37 = .ok (.iconst 3, 1)) ∧ (decode cX12_day 38 = .ok (.aload_n 0, 1)) ∧ (decode cX12_day 39 = .ok (.getfield 7, 3)) ∧ (decode cX12_day 42 = .ok (.bipush 6, 2)) ∧ (decode cX12_day 44 = .ok (.iaload, 1)) ∧ (decode cX12_day 45 = .ok (.imul, 1)) ∧ (decode cX12_day 46 = .ok (.iadd, 1)) ∧ (decode cX12_day 47 = .ok (.istore 4, 2)) ∧ (decode cX12_day 49 = .ok (.aload_n 0, 1)) ∧ (decode cX12_day 50 = .ok (.getfield 7, 3)) ∧ (decode cX12_day 53 = .ok (.iload 4, 2)) ∧ (decode cX12_day 55 = .ok (.iload_n 1, 1)) ∧ (decode cX12_day 56 = .ok (.ifCond .eq 7, 3)) := by decide +kernel
theorem dX12_day_32 : decode cX12_day 32 = .ok (.iconst (-1), 1) := bdX12_day_32.1
theorem dX12_day_33 : decode cX12_day 33 = .ok (.ireturn, 1) := bdX12_day_32.2.1
theorem dX12_day_34 : decode cX12_day 34 = .ok (.sipush 1390, 3) := bdX12_day_32.2.2.1
theorem dX12_day_37 : decode cX12_day 37 = .ok (.iconst 3, 1) := bdX12_day_32.2.2.2.1
theorem dX12_day_38 : decode cX12_day 38 = .ok (.aload_n 0, 1) := bdX12_day_32.2.2.2.2.1
theorem dX12_day_39 : decode cX12_day 39 = .ok (.getfield 7, 3) := bdX12_day_32.2.2.2.2.2.1
theorem dX12_day_42 : decode cX12_day 42 = .ok (.bipush 6, 2) := bdX12_day_32.2.2.2.2.2.2.1
theorem dX12_day_44 : decode cX12_day 44 = .ok (.iaload, 1) := bdX12_day_32.2.2.2.2.2.2.2.1
theorem dX12_day_45 : decode cX12_day 45 = .ok (.imul, 1) := bdX12_day_32.2.2.2.2.2.2.2.2.1
theorem dX12_day_46 : decode cX12_day 46 = .ok (.iadd, 1) := bdX12_day_32.2.2.2.2.2.2.2.2.2.1
theorem dX12_day_47 : decode cX12_day 47 = .ok (.istore 4, 2) := bdX12_day_32.2.2.2.2.2.2.2.2.2.2.1
theorem dX12_day_49 : decode cX12_day 49 = .ok (.aload_n 0, 1) := bdX12_day_32.2.2.2.2.2.2.2.2.2.2.2.1
theorem dX12_day_50 : decode cX12_day 50 = .ok (.getfield 7, 3) := bdX12_day_32.2.2.2.2.2.2.2.2.2.2.2.2.1
theorem dX12_day_53 : decode cX12_day 53 = .ok (.iload 4, 2) := bdX12_day_32.2.2.2.2.2.2.2.2.2.2.2.2.2.1
theorem dX12_day_55 : decode cX12_day 55 = .ok (.iload_n 1, 1) := bdX12_day_32.2.2.2.2.2.2.2.2.2.2.2.2.2.2.1
theorem dX12_day_56 : decode cX12_day 56 = .ok (.ifCond .eq 7, 3) := bdX12_day_32.2.2.2.2.2.2.2.2.2.2.2.2.2.2.2
theorem bdX12_day_59 : (decode cX12_day 59 = .ok (.iconst 1, 1)) ∧ (decode cX12_day 60 = .ok (.goto 4, 3)) ∧ (decode cX12_day 63 = .ok (.iconst 0, 1)) ∧ (decode cX12_day 64 = .ok (.iastore, 1)) ∧ (decode cX12_day 65 = .ok (.aload_n 0, 1)) ∧ (decode cX12_day 66 = .ok (.getfield 7, 3)) ∧ (decode cX12_day 69 = .ok (.iload 4, 2)) ∧ (decode cX12_day 71 = .ok (.iconst 1, 1)) ∧ (decode cX12_day 72 = .ok (.iadd, 1)) ∧ (decode cX12_day 73 = .ok (.iload_n 2, 1)) ∧ (decode cX12_day 74 = .ok (.iastore, 1)) ∧ (decode cX12_day 75 = .ok (.aload_n 0, 1)) ∧ (decode cX12_day 76 = .ok (.getfield 7, 3)) ∧ (decode cX12_day 79 = .ok (.iload 4, 2)) ∧ (decode cX12_day 81 = .ok (.iconst 2, 1)) ∧ (decode cX12_day 82 = .ok (.iadd, 1)) := by decide +kernel
theorem dX12_day_59 : decode cX12_day 59 = .ok (.iconst 1, 1) := bdX12_day_59.1
theorem dX12_day_60 : decode cX12_day 60 = .ok (.goto 4, 3) := bdX12_day_59.2.1
theorem dX12_day_63 : decode cX12_day 63 = .ok (.iconst 0, 1) := bdX12_day_59.2.2.1
theorem dX12_day_64 : decode cX12_day 64 = .ok (.iastore, 1) := bdX12_day_59.2.2.2.1
theorem dX12_day_65 : decode cX12_day 65 = .ok (.aload_n 0, 1) := bdX12_day_59.2.2.2.2.1
theorem dX12_day_66 : decode cX12_day 66 = .ok (.getfield 7, 3) := bdX12_day_59.2.2.2.2.2.1
theorem dX12_day_69 : decode cX12_day 69 = .ok (.iload 4, 2) := bdX12_day_59.2.2.2.2.2.2.1
theorem dX12_day_71 : decode cX12_day 71 = .ok (.iconst 1, 1) := bdX12_day_59.2.2.2.2.2.2.2.1
theorem dX12_day_72 : decode cX12_day 72 = .ok (.iadd, 1) := bdX12_day_59.2.2.2.2.2.2.2.2.1
theorem dX12_day_73 : decode cX12_day 73 = .ok (.iload_n 2, 1) := bdX12_day_59.2.2.2.2.2.2.2.2.2.1
theorem dX12_day_74 : decode cX12_day 74 = .ok (.iastore, 1) := bdX12_day_59.2.2.2.2.2.2.2.2.2.2.1
theorem dX12_day_75 : decode cX12_day 75 = .ok (.aload_n 0, 1) := bdX12_day_59.2.2.2.2.2.2.2.2.2.2.2.1
theorem dX12_day_76 : decode cX12_day 76 = .ok (.getfield 7, 3) := bdX12_day_59.2.2.2.2.2.2.2.2.2.2.2.2.1
theorem dX12_day_79 : decode cX12_day 79 = .ok (.iload 4, 2) := bdX12_day_59.2.2.2.2.2.2.2.2.2.2.2.2.2.1
theorem dX12_day_81 : decode cX12_day 81 = .ok (.iconst 2, 1) := bdX12_day_59.2.2.2.2.2.2.2.2.2.2.2.2.2.2.1
theorem dX12_day_82 : decode cX12_day 82 = .ok (.iadd, 1) := bdX12_day_59.2.2.2.2.2.2.2.2.2.2.2.2.2.2.2
theorem bdX12_day_83 : (decode cX12_day 83 = .ok (.iload_n 3, 1)) ∧ (decode cX12_day 84 = .ok (.iastore, 1)) ∧ (decode cX12_day 85 = .ok (.aload_n 0, 1)) ∧ (decode cX12_day 86 = .ok (.getfield 7, 3)) ∧ (decode cX12_day 89 = .ok (.bipush 6, 2)) ∧ (decode cX12_day 91 = .ok (.dup2, 1)) ∧ (decode cX12_day 92 = .ok (.iaload, 1)) ∧ (decode cX12_day 93 = .ok (.iconst 1, 1)) ∧ (decode cX12_day 94 = .ok (.iadd, 1)) ∧ (decode cX12_day 95 = .ok (.iastore, 1)) ∧ (decode cX12_day 96 = .ok (.aload_n 0, 1)) ∧ (decode cX12_day 97 = .ok (.getfield 7, 3)) ∧ (decode cX12_day 100 = .ok (.bipush 6, 2)) ∧ (decode cX12_day 102 = .ok (.iaload, 1)) ∧ (decode cX12_day 103 = .ok (.ireturn, 1)) := by decide +kernel
theorem dX12_day_83 : decode cX12_day 83 = .ok (.iload_n 3, 1) := bdX12_day_83.1
theorem dX12_day_84 : decode cX12_day 84 = .ok (.iastore, 1) := bdX12_day_83.2.1
theorem dX12_day_85 : decode cX12_day 85 = .ok (.aload_n 0, 1) := bdX12_day_83.2.2.1
theorem dX12_day_86 : decode cX12_day 86 = .ok (.getfield 7, 3) := bdX12_day_83.2.2.2.1
theorem dX12_day_89 : decode cX12_day 89 = .ok (.bipush 6, 2) := bdX12_day_83.2.2.2.2.1
theorem dX12_day_91 : decode cX12_day 91 = .ok (.dup2, 1) := bdX12_day_83.2.2.2.2.2.1
theorem dX12_day_92 : decode cX12_day 92 = .ok (.iaload, 1) := bdX12_day_83.2.2.2.2.2.2.1
theorem dX12_day_93 : decode cX12_day 93 = .ok (.iconst 1, 1) := bdX12_day_83.2.2.2.2.2.2.2.1
theorem dX12_day_94 : decode cX12_day 94 = .ok (.iadd, 1) := bdX12_day_83.2.2.2.2.2.2.2.2.1
theorem dX12_day_95 : decode cX12_day 95 = .ok (.iastore, 1) := bdX12_day_83.2.2.2.2.2.2.2.2.2.1
theorem dX12_day_96 : decode cX12_day 96 = .ok (.aload_n 0, 1) := bdX12_day_83.2.2.2.2.2.2.2.2.2.2.1
theorem dX12_day_97 : decode cX12_day 97 = .ok (.getfield 7, 3) := bdX12_day_83.2.2.2.2.2.2.2.2.2.2.2.1
theorem dX12_day_100 : decode cX12_day 100 = .ok (.bipush 6, 2) := bdX12_day_83.2.2.2.2.2.2.2.2.2.2.2.2.1
theorem dX12_day_102 : decode cX12_day 102 = .ok (.iaload, 1) := bdX12_day_83.2.2.2.2.2.2.2.2.2.2.2.2.2.1
theorem dX12_day_103 : decode cX12_day 103 = .ok (.ireturn, 1) := bdX12_day_83.2.2.2.2.2.2.2.2.2.2.2.2.2.2
theorem bdX1_meanEffect_0 : (decode cX1_meanEffect 0 = .ok (.lconst 0, 1)) ∧ (decode cX1_meanEffect 1 = .ok (.lstore_n 1, 1)) ∧ (decode cX1_meanEffect 2 = .ok (.iconst 0, 1)) ∧ (decode cX1_meanEffect 3 = .ok (.istore_n 3, 1)) ∧ (decode cX1_meanEffect 4 = .ok (.iconst 0, 1)) ∧ (decode cX1_meanEffect 5 = .ok (.istore 4, 2)) ∧ (decode cX1_meanEffect 7 = .ok (.iload 4, 2)) ∧ (decode cX1_meanEffect 9 = .ok (.bipush 6, 2)) ∧ (decode cX1_meanEffect 11 = .ok (.if_icmp .ge 96, 3)) ∧ (decode cX1_meanEffect 14 = .ok (.aload_n 0, 1)) ∧ (decode cX1_meanEffect 15 = .ok (.getfield 15, 3)) ∧ (decode cX1_meanEffect 18 = .ok (.bipush 6, 2)) ∧ (decode cX1_meanEffect 20 = .ok (.iload 4, 2)) ∧ (decode cX1_meanEffect 22 = .ok (.iadd, 1)) ∧ (decode cX1_meanEffect 23 = .ok (.iaload, 1)) ∧ (decode cX1_meanEffect 24 = .ok (.istore 5, 2)) := by decide +kernel
theorem dX1_meanEffect_0 : decode cX1_meanEffect 0 = .ok (.lconst 0, 1) := bdX1_meanEffect_0.1
theorem dX1_meanEffect_1 : decode cX1_meanEffect 1 = .ok (.lstore_n 1, 1) := bdX1_meanEffect_0.2.1
theorem dX1_meanEffect_2 : decode cX1_meanEffect 2 = .ok (.iconst 0, 1) := bdX1_meanEffect_0.2.2.1
theorem dX1_meanEffect_3 : decode cX1_meanEffect 3 = .ok (.istore_n 3, 1) := bdX1_meanEffect_0.2.2.2.1
theorem dX1_meanEffect_4 : decode cX1_meanEffect 4 = .ok (.iconst 0, 1) := bdX1_meanEffect_0.2.2.2.2.1
theorem dX1_meanEffect_5 : decode cX1_meanEffect 5 = .ok (.istore 4, 2) := bdX1_meanEffect_0.2.2.2.2.2.1
theorem dX1_meanEffect_7 : decode cX1_meanEffect 7 = .ok (.iload 4, 2) := bdX1_meanEffect_0.2.2.2.2.2.2.1
theorem dX1_meanEffect_9 : decode cX1_meanEffect 9 = .ok (.bipush 6, 2) := bdX1_meanEffect_0.2.2.2.2.2.2.2.1
theorem dX1_meanEffect_11 : decode cX1_meanEffect 11 = .ok (.if_icmp .ge 96, 3) := bdX1_meanEffect_0.2.2.2.2.2.2.2.2.1
theorem dX1_meanEffect_14 : decode cX1_meanEffect 14 = .ok (.aload_n 0, 1) := bdX1_meanEffect_0.2.2.2.2.2.2.2.2.2.1
theorem dX1_meanEffect_15 : decode cX1_meanEffect 15 = .ok (.getfield 15, 3) := bdX1_meanEffect_0.2.2.2.2.2.2.2.2.2.2.1
theorem dX1_meanEffect_18 : decode cX1_meanEffect 18 = .ok (.bipush 6, 2) := bdX1_meanEffect_0.2.2.2.2.2.2.2.2.2.2.2.1
theorem dX1_meanEffect_20 : decode cX1_meanEffect 20 = .ok (.iload 4, 2) := bdX1_meanEffect_0.2.2.2.2.2.2.2.2.2.2.2.2.1
theorem dX1_meanEffect_22 : decode cX1_meanEffect 22 = .ok (.iadd, 1) := bdX1_meanEffect_0.2.2.2.2.2.2.2.2.2.2.2.2.2.1
theorem dX1_meanEffect_23 : decode cX1_meanEffect 23 = .ok (.iaload, 1) := bdX1_meanEffect_0.2.2.2.2.2.2.2.2.2.2.2.2.2.2.1
theorem dX1_meanEffect_24 : decode cX1_meanEffect 24 = .ok (.istore 5, 2) := bdX1_meanEffect_0.2.2.2.2.2.2.2.2.2.2.2.2.2.2.2
theorem bdX1_meanEffect_26 : (decode cX1_meanEffect 26 = .ok (.aload_n 0, 1)) ∧ (decode cX1_meanEffect 27 = .ok (.getfield 15, 3)) ∧ (decode cX1_meanEffect 30 = .ok (.iload 4, 2)) ∧ (decode cX1_meanEffect 32 = .ok (.iaload, 1)) ∧ (decode cX1_meanEffect 33 = .ok (.istore 6, 2)) ∧ (decode cX1_meanEffect 35 = .ok (.iload 5, 2)) ∧ (decode cX1_meanEffect 37 = .ok (.ifCond .le 64, 3)) ∧ (decode cX1_meanEffect 40 = .ok (.iload 6, 2)) ∧ (decode cX1_meanEffect 42 = .ok (.ifCond .le 59, 3)) ∧ (decode cX1_meanEffect 45 = .ok (.aload_n 0, 1)) ∧ (decode cX1_meanEffect 46 = .ok (.getfield 11, 3)) ∧ (decode cX1_meanEffect 49 = .ok (.bipush 6, 2)) ∧ (decode cX1_meanEffect 51 = .ok (.iload 4, 2)) ∧ (decode cX1_meanEffect 53 = .ok (.iadd, 1)) ∧ (decode cX1_meanEffect 54 = .ok (.iaload, 1)) ∧ (decode cX1_meanEffect 55 = .ok (.i2l, 1)) := by decide +kernel
theorem dX1_meanEffect_26 : decode cX1_meanEffect 26 = .ok (.aload_n 0, 1) := bdX1_meanEffect_26.1
theorem dX1_meanEffect_27 : decode cX1_meanEffect 27 = .ok (.getfield 15, 3) := bdX1_meanEffect_26.2.1
theorem dX1_meanEffect_30 : decode cX1_meanEffect 30 = .ok (.iload 4, 2) := bdX1_meanEffect_26.2.2.1
theorem dX1_meanEffect_32 : decode cX1_meanEffect 32 = .ok (.iaload, 1) := bdX1_meanEffect_26.2.2.2.1
theorem dX1_meanEffect_33 : decode cX1_meanEffect 33 = .ok (.istore 6, 2) := bdX1_meanEffect_26.2.2.2.2.1
theorem dX1_meanEffect_35 : decode cX1_meanEffect 35 = .ok (.iload 5, 2) := bdX1_meanEffect_26.2.2.2.2.2.1
theorem dX1_meanEffect_37 : decode cX1_meanEffect 37 = .ok (.ifCond .le 64, 3) := bdX1_meanEffect_26.2.2.2.2.2.2.1
theorem dX1_meanEffect_40 : decode cX1_meanEffect 40 = .ok (.iload 6, 2) := bdX1_meanEffect_26.2.2.2.2.2.2.2.1
theorem dX1_meanEffect_42 : decode cX1_meanEffect 42 = .ok (.ifCond .le 59, 3) := bdX1_meanEffect_26.2.2.2.2.2.2.2.2.1
theorem dX1_meanEffect_45 : decode cX1_meanEffect 45 = .ok (.aload_n 0, 1) := bdX1_meanEffect_26.2.2.2.2.2.2.2.2.2.1
theorem dX1_meanEffect_46 : decode cX1_meanEffect 46 = .ok (.getfield 11, 3) := bdX1_meanEffect_26.2.2.2.2.2.2.2.2.2.2.1
theorem dX1_meanEffect_49 : decode cX1_meanEffect 49 = .ok (.bipush 6, 2) := bdX1_meanEffect_26.2.2.2.2.2.2.2.2.2.2.2.1
theorem dX1_meanEffect_51 : decode cX1_meanEffect 51 = .ok (.iload 4, 2) := bdX1_meanEffect_26.2.2.2.2.2.2.2.2.2.2.2.2.1
theorem dX1_meanEffect_53 : decode cX1_meanEffect 53 = .ok (.iadd, 1) := bdX1_meanEffect_26.2.2.2.2.2.2.2.2.2.2.2.2.2.1
theorem dX1_meanEffect_54 : decode cX1_meanEffect 54 = .ok (.iaload, 1) := bdX1_meanEffect_26.2.2.2.2.2.2.2.2.2.2.2.2.2.2.1
theorem dX1_meanEffect_55 : decode cX1_meanEffect 55 = .ok (.i2l, 1) := bdX1_meanEffect_26.2.2.2.2.2.2.2.2.2.2.2.2.2.2.2
theorem bdX1_meanEffect_56 : (decode cX1_meanEffect 56 = .ok (.ldc2_w 28, 3)) ∧ (decode cX1_meanEffect 59 = .ok (.lmul, 1)) ∧ (decode cX1_meanEffect 60 = .ok (.iload 5, 2)) ∧ (decode cX1_meanEffect 62 = .ok (.i2l, 1)) ∧ (decode cX1_meanEffect 63 = .ok (.ldiv, 1)) ∧ (decode cX1_meanEffect 64 = .ok (.lstore 7, 2)) ∧ (decode cX1_meanEffect 66 = .ok (.aload_n 0, 1)) ∧ (decode cX1_meanEffect 67 = .ok (.getfield 11, 3)) ∧ (decode cX1_meanEffect 70 = .ok (.iload 4, 2)) ∧ (decode cX1_meanEffect 72 = .ok (.iaload, 1)) ∧ (decode cX1_meanEffect 73 = .ok (.i2l, 1)) ∧ (decode cX1_meanEffect 74 = .ok (.ldc2_w 28, 3)) ∧ (decode cX1_meanEffect 77 = .ok (.lmul, 1)) ∧ (decode cX1_meanEffect 78 = .ok (.iload 6, 2)) ∧ (decode cX1_meanEffect 80 = .ok (.i2l, 1)) ∧ (decode cX1_meanEffect 81 = .ok (.ldiv, 1)) := by decide +kernel
theorem dX1_meanEffect_56 : decode cX1_meanEffect 56 = .ok (.ldc2_w 28, 3) := bdX1_meanEffect_56.1
theorem dX1_meanEffect_59 : decode cX1_meanEffect 59 = .ok (.lmul, 1) := bdX1_meanEffect_56.2.1
theorem dX1_meanEffect_60 : decode cX1_meanEffect 60 = .ok (.iload 5, 2) := bdX1_meanEffect_56.2.2.1
theorem dX1_meanEffect_62 : decode cX1_meanEffect 62 = .ok (.i2l, 1) := bdX1_meanEffect_56.2.2.2.1
theorem dX1_meanEffect_63 : decode cX1_meanEffect 63 = .ok (.ldiv, 1) := bdX1_meanEffect_56.2.2.2.2.1
theorem dX1_meanEffect_64 : decode cX1_meanEffect 64 = .ok (.lstore 7, 2) := bdX1_meanEffect_56.2.2.2.2.2.1
theorem dX1_meanEffect_66 : decode cX1_meanEffect 66 = .ok (.aload_n 0, 1) := bdX1_meanEffect_56.2.2.2.2.2.2.1
theorem dX1_meanEffect_67 : decode cX1_meanEffect 67 = .ok (.getfield 11, 3) := bdX1_meanEffect_56.2.2.2.2.2.2.2.1
theorem dX1_meanEffect_70 : decode cX1_meanEffect 70 = .ok (.iload 4, 2) := bdX1_meanEffect_56.2.2.2.2.2.2.2.2.1
theorem dX1_meanEffect_72 : decode cX1_meanEffect 72 = .ok (.iaload, 1) := bdX1_meanEffect_56.2.2.2.2.2.2.2.2.2.1
theorem dX1_meanEffect_73 : decode cX1_meanEffect 73 = .ok (.i2l, 1) := bdX1_meanEffect_56.2.2.2.2.2.2.2.2.2.2.1
theorem dX1_meanEffect_74 : decode cX1_meanEffect 74 = .ok (.ldc2_w 28, 3) := bdX1_meanEffect_56.2.2.2.2.2.2.2.2.2.2.2.1
theorem dX1_meanEffect_77 : decode cX1_meanEffect 77 = .ok (.lmul, 1) := bdX1_meanEffect_56.2.2.2.2.2.2.2.2.2.2.2.2.1
theorem dX1_meanEffect_78 : decode cX1_meanEffect 78 = .ok (.iload 6, 2) := bdX1_meanEffect_56.2.2.2.2.2.2.2.2.2.2.2.2.2.1
theorem dX1_meanEffect_80 : decode cX1_meanEffect 80 = .ok (.i2l, 1) := bdX1_meanEffect_56.2.2.2.2.2.2.2.2.2.2.2.2.2.2.1
theorem dX1_meanEffect_81 : decode cX1_meanEffect 81 = .ok (.ldiv, 1) := bdX1_meanEffect_56.2.2.2.2.2.2.2.2.2.2.2.2.2.2.2
theorem bdX1_meanEffect_82 : (decode cX1_meanEffect 82 = .ok (.lstore 9, 2)) ∧ (decode cX1_meanEffect 84 = .ok (.lload_n 1, 1)) ∧ (decode cX1_meanEffect 85 = .ok (.lload 7, 2)) ∧ (decode cX1_meanEffect 87 = .ok (.lload 9, 2)) ∧ (decode cX1_meanEffect 89 = .ok (.lsub, 1)) ∧ (decode cX1_meanEffect 90 = .ok (.iload 5, 2)) ∧ (decode cX1_meanEffect 92 = .ok (.i2l, 1)) ∧ (decode cX1_meanEffect 93 = .ok (.lmul, 1)) ∧ (decode cX1_meanEffect 94 = .ok (.ladd, 1)) ∧ (decode cX1_meanEffect 95 = .ok (.lstore_n 1, 1)) ∧ (decode cX1_meanEffect 96 = .ok (.iload_n 3, 1)) ∧ (decode cX1_meanEffect 97 = .ok (.iload 5, 2)) ∧ (decode cX1_meanEffect 99 = .ok (.iadd, 1)) ∧ (decode cX1_meanEffect 100 = .ok (.istore_n 3, 1)) ∧ (decode cX1_meanEffect 101 = .ok (.iinc 4 1, 3)) ∧ (decode cX1_meanEffect 104 = .ok (.goto (-97), 3)) := by decide +kernel
theorem dX1_meanEffect_82 : decode cX1_meanEffect 82 = .ok (.lstore 9, 2) := bdX1_meanEffect_82.1
theorem dX1_meanEffect_84 : decode cX1_meanEffect 84 = .ok (.lload_n 1, 1) := bdX1_meanEffect_82.2.1
theorem dX1_meanEffect_85 : decode cX1_meanEffect 85 = .ok (.lload 7, 2) := bdX1_meanEffect_82.2.2.1
theorem dX1_meanEffect_87 : decode cX1_meanEffect 87 = .ok (.lload 9, 2) := bdX1_meanEffect_82.2.2.2.1
theorem dX1_meanEffect_89 : decode cX1_meanEffect 89 = .ok (.lsub, 1) := bdX1_meanEffect_82.2.2.2.2.1
theorem dX1_meanEffect_90 : decode cX1_meanEffect 90 = .ok (.iload 5, 2) := bdX1_meanEffect_82.2.2.2.2.2.1
theorem dX1_meanEffect_92 : decode cX1_meanEffect 92 = .ok (.i2l, 1) := bdX1_meanEffect_82.2.2.2.2.2.2.1
theorem dX1_meanEffect_93 : decode cX1_meanEffect 93 = .ok (.lmul, 1) := bdX1_meanEffect_82.2.2.2.2.2.2.2.1
theorem dX1_meanEffect_94 : decode cX1_meanEffect 94 = .ok (.ladd, 1) := bdX1_meanEffect_82.2.2.2.2.2.2.2.2.1
theorem dX1_meanEffect_95 : decode cX1_meanEffect 95 = .ok (.lstore_n 1, 1) := bdX1_meanEffect_82.2.2.2.2.2.2.2.2.2.1
theorem dX1_meanEffect_96 : decode cX1_meanEffect 96 = .ok (.iload_n 3, 1) := bdX1_meanEffect_82.2.2.2.2.2.2.2.2.2.2.1
theorem dX1_meanEffect_97 : decode cX1_meanEffect 97 = .ok (.iload 5, 2) := bdX1_meanEffect_82.2.2.2.2.2.2.2.2.2.2.2.1
theorem dX1_meanEffect_99 : decode cX1_meanEffect 99 = .ok (.iadd, 1) := bdX1_meanEffect_82.2.2.2.2.2.2.2.2.2.2.2.2.1
theorem dX1_meanEffect_100 : decode cX1_meanEffect 100 = .ok (.istore_n 3, 1) := bdX1_meanEffect_82.2.2.2.2.2.2.2.2.2.2.2.2.2.1
theorem dX1_meanEffect_101 : decode cX1_meanEffect 101 = .ok (.iinc 4 1, 3) := bdX1_meanEffect_82.2.2.2.2.2.2.2.2.2.2.2.2.2.2.1
theorem dX1_meanEffect_104 : decode cX1_meanEffect 104 = .ok (.goto (-97), 3) := bdX1_meanEffect_82.2.2.2.2.2.2.2.2.2.2.2.2.2.2.2
theorem bdX1_meanEffect_107 : (decode cX1_meanEffect 107 = .ok (.iload_n 3, 1)) ∧ (decode cX1_meanEffect 108 = .ok (.ifCond .le 11, 3)) ∧ (decode cX1_meanEffect 111 = .ok (.lload_n 1, 1)) ∧ (decode cX1_meanEffect 112 = .ok (.iload_n 3, 1)) ∧ (decode cX1_meanEffect 113 = .ok (.i2l, 1)) ∧ (decode cX1_meanEffect 114 = .ok (.ldiv, 1)) ∧ (decode cX1_meanEffect 115 = .ok (.l2i, 1)) ∧ (decode cX1_meanEffect 116 = .ok (.goto 5, 3)) ∧ (decode cX1_meanEffect 119 = .ok (.ldc 30, 2)) ∧ (decode cX1_meanEffect 121 = .ok (.ireturn, 1)) := by decide +kernel
theorem dX1_meanEffect_107 : decode cX1_meanEffect 107 = .ok (.iload_n 3, 1) := bdX1_meanEffect_107.1
theorem dX1_meanEffect_108 : decode cX1_meanEffect 108 = .ok (.ifCond .le 11, 3) := bdX1_meanEffect_107.2.1
theorem dX1_meanEffect_111 : decode cX1_meanEffect 111 = .ok (.lload_n 1, 1) := bdX1_meanEffect_107.2.2.1
theorem dX1_meanEffect_112 : decode cX1_meanEffect 112 = .ok (.iload_n 3, 1) := bdX1_meanEffect_107.2.2.2.1
theorem dX1_meanEffect_113 : decode cX1_meanEffect 113 = .ok (.i2l, 1) := bdX1_meanEffect_107.2.2.2.2.1
theorem dX1_meanEffect_114 : decode cX1_meanEffect 114 = .ok (.ldiv, 1) := bdX1_meanEffect_107.2.2.2.2.2.1
theorem dX1_meanEffect_115 : decode cX1_meanEffect 115 = .ok (.l2i, 1) := bdX1_meanEffect_107.2.2.2.2.2.2.1
theorem dX1_meanEffect_116 : decode cX1_meanEffect 116 = .ok (.goto 5, 3) := bdX1_meanEffect_107.2.2.2.2.2.2.2.1
theorem dX1_meanEffect_119 : decode cX1_meanEffect 119 = .ok (.ldc 30, 2) := bdX1_meanEffect_107.2.2.2.2.2.2.2.2.1
theorem dX1_meanEffect_121 : decode cX1_meanEffect 121 = .ok (.ireturn, 1) := bdX1_meanEffect_107.2.2.2.2.2.2.2.2.2
theorem bdX11_effect_0 : (decode cX11_effect 0 = .ok (.aload_n 0, 1)) ∧ (decode cX11_effect 1 = .ok (.getfield 10, 3)) ∧ (decode cX11_effect 4 = .ok (.getfield 271, 3)) ∧ (decode cX11_effect 7 = .ok (.invokevirtual 279, 3)) ∧ (decode cX11_effect 10 = .ok (.ireturn, 1)) := by decide +kernel
theorem dX11_effect_0 : decode cX11_effect 0 = .ok (.aload_n 0, 1) := bdX11_effect_0.1
theorem dX11_effect_1 : decode cX11_effect 1 = .ok (.getfield 10, 3) := bdX11_effect_0.2.1
theorem dX11_effect_4 : decode cX11_effect 4 = .ok (.getfield 271, 3) := bdX11_effect_0.2.2.1
theorem dX11_effect_7 : decode cX11_effect 7 = .ok (.invokevirtual 279, 3) := bdX11_effect_0.2.2.2.1
theorem dX11_effect_10 : decode cX11_effect 10 = .ok (.ireturn, 1) := bdX11_effect_0.2.2.2.2
theorem bdX12_daysOf_0 : (decode cX12_daysOf 0 = .ok (.iconst 0, 1)) ∧ (decode cX12_daysOf 1 = .ok (.istore 4, 2)) ∧ (decode cX12_daysOf 3 = .ok (.iconst 0, 1)) ∧ (decode cX12_daysOf 4 = .ok (.istore 5, 2)) ∧ (decode cX12_daysOf 6 = .ok (.iload 5, 2)) ∧ (decode cX12_daysOf 8 = .ok (.aload_n 0, 1)) ∧ (decode cX12_daysOf 9 = .ok (.getfield 7, 3)) ∧ (decode cX12_daysOf 12 = .ok (.bipush 6, 2)) ∧ (decode cX12_daysOf 14 = .ok (.iaload, 1)) ∧ (decode cX12_daysOf 15 = .ok (.if_icmp .ge 65, 3)) ∧ (decode cX12_daysOf 18 = .ok (.sipush 1390, 3)) ∧ (decode cX12_daysOf 21 = .ok (.iconst 3, 1)) ∧ (decode cX12_daysOf 22 = .ok (.iload 5, 2)) ∧ (decode cX12_daysOf 24 = .ok (.imul, 1)) ∧ (decode cX12_daysOf 25 = .ok (.iadd, 1)) ∧ (decode cX12_daysOf 26 = .ok (.istore 6, 2)) := by decide +kernel
theorem dX12_daysOf_0 : decode cX12_daysOf 0 = .ok (.iconst 0, 1) := bdX12_daysOf_0.1
theorem dX12_daysOf_1 : decode cX12_daysOf 1 = .ok (.istore 4, 2) := bdX12_daysOf_0.2.1
theorem dX12_daysOf_3 : decode cX12_daysOf 3 = .ok (.iconst 0, 1) := bdX12_daysOf_0.2.2.1
theorem dX12_daysOf_4 : decode cX12_daysOf 4 = .ok (.istore 5, 2) := bdX12_daysOf_0.2.2.2.1
theorem dX12_daysOf_6 : decode cX12_daysOf 6 = .ok (.iload 5, 2) := bdX12_daysOf_0.2.2.2.2.1
theorem dX12_daysOf_8 : decode cX12_daysOf 8 = .ok (.aload_n 0, 1) := bdX12_daysOf_0.2.2.2.2.2.1
theorem dX12_daysOf_9 : decode cX12_daysOf 9 = .ok (.getfield 7, 3) := bdX12_daysOf_0.2.2.2.2.2.2.1
theorem dX12_daysOf_12 : decode cX12_daysOf 12 = .ok (.bipush 6, 2) := bdX12_daysOf_0.2.2.2.2.2.2.2.1
theorem dX12_daysOf_14 : decode cX12_daysOf 14 = .ok (.iaload, 1) := bdX12_daysOf_0.2.2.2.2.2.2.2.2.1
theorem dX12_daysOf_15 : decode cX12_daysOf 15 = .ok (.if_icmp .ge 65, 3) := bdX12_daysOf_0.2.2.2.2.2.2.2.2.2.1
theorem dX12_daysOf_18 : decode cX12_daysOf 18 = .ok (.sipush 1390, 3) := bdX12_daysOf_0.2.2.2.2.2.2.2.2.2.2.1
theorem dX12_daysOf_21 : decode cX12_daysOf 21 = .ok (.iconst 3, 1) := bdX12_daysOf_0.2.2.2.2.2.2.2.2.2.2.2.1
theorem dX12_daysOf_22 : decode cX12_daysOf 22 = .ok (.iload 5, 2) := bdX12_daysOf_0.2.2.2.2.2.2.2.2.2.2.2.2.1
theorem dX12_daysOf_24 : decode cX12_daysOf 24 = .ok (.imul, 1) := bdX12_daysOf_0.2.2.2.2.2.2.2.2.2.2.2.2.2.1
theorem dX12_daysOf_25 : decode cX12_daysOf 25 = .ok (.iadd, 1) := bdX12_daysOf_0.2.2.2.2.2.2.2.2.2.2.2.2.2.2.1
theorem dX12_daysOf_26 : decode cX12_daysOf 26 = .ok (.istore 6, 2) := bdX12_daysOf_0.2.2.2.2.2.2.2.2.2.2.2.2.2.2.2
theorem bdX12_daysOf_28 : (decode cX12_daysOf 28 = .ok (.aload_n 0, 1)) ∧ (decode cX12_daysOf 29 = .ok (.getfield 7, 3)) ∧ (decode cX12_daysOf 32 = .ok (.iload 6, 2)) ∧ (decode cX12_daysOf 34 = .ok (.iaload, 1)) ∧ (decode cX12_daysOf 35 = .ok (.iload_n 1, 1)) ∧ (decode cX12_daysOf 36 = .ok (.if_icmp .ne 38, 3)) ∧ (decode cX12_daysOf 39 = .ok (.aload_n 0, 1)) ∧ (decode cX12_daysOf 40 = .ok (.getfield 7, 3)) ∧ (decode cX12_daysOf 43 = .ok (.iload 6, 2)) ∧ (decode cX12_daysOf 45 = .ok (.iconst 1, 1)) ∧ (decode cX12_daysOf 46 = .ok (.iadd, 1)) ∧ (decode cX12_daysOf 47 = .ok (.iaload, 1)) ∧ (decode cX12_daysOf 48 = .ok (.iload_n 2, 1)) ∧ (decode cX12_daysOf 49 = .ok (.if_icmp .ne 25, 3)) ∧ (decode cX12_daysOf 52 = .ok (.iload 4, 2)) ∧ (decode cX12_daysOf 54 = .ok (.iload_n 3, 1)) := by decide +kernel
theorem dX12_daysOf_28 : decode cX12_daysOf 28 = .ok (.aload_n 0, 1) := bdX12_daysOf_28.1
theorem dX12_daysOf_29 : decode cX12_daysOf 29 = .ok (.getfield 7, 3) := bdX12_daysOf_28.2.1
theorem dX12_daysOf_32 : decode cX12_daysOf 32 = .ok (.iload 6, 2) := bdX12_daysOf_28.2.2.1
theorem dX12_daysOf_34 : decode cX12_daysOf 34 = .ok (.iaload, 1) := bdX12_daysOf_28.2.2.2.1
theorem dX12_daysOf_35 : decode cX12_daysOf 35 = .ok (.iload_n 1, 1) := bdX12_daysOf_28.2.2.2.2.1
theorem dX12_daysOf_36 : decode cX12_daysOf 36 = .ok (.if_icmp .ne 38, 3) := bdX12_daysOf_28.2.2.2.2.2.1
theorem dX12_daysOf_39 : decode cX12_daysOf 39 = .ok (.aload_n 0, 1) := bdX12_daysOf_28.2.2.2.2.2.2.1
theorem dX12_daysOf_40 : decode cX12_daysOf 40 = .ok (.getfield 7, 3) := bdX12_daysOf_28.2.2.2.2.2.2.2.1
theorem dX12_daysOf_43 : decode cX12_daysOf 43 = .ok (.iload 6, 2) := bdX12_daysOf_28.2.2.2.2.2.2.2.2.1
theorem dX12_daysOf_45 : decode cX12_daysOf 45 = .ok (.iconst 1, 1) := bdX12_daysOf_28.2.2.2.2.2.2.2.2.2.1
theorem dX12_daysOf_46 : decode cX12_daysOf 46 = .ok (.iadd, 1) := bdX12_daysOf_28.2.2.2.2.2.2.2.2.2.2.1
theorem dX12_daysOf_47 : decode cX12_daysOf 47 = .ok (.iaload, 1) := bdX12_daysOf_28.2.2.2.2.2.2.2.2.2.2.2.1
theorem dX12_daysOf_48 : decode cX12_daysOf 48 = .ok (.iload_n 2, 1) := bdX12_daysOf_28.2.2.2.2.2.2.2.2.2.2.2.2.1
theorem dX12_daysOf_49 : decode cX12_daysOf 49 = .ok (.if_icmp .ne 25, 3) := bdX12_daysOf_28.2.2.2.2.2.2.2.2.2.2.2.2.2.1
theorem dX12_daysOf_52 : decode cX12_daysOf 52 = .ok (.iload 4, 2) := bdX12_daysOf_28.2.2.2.2.2.2.2.2.2.2.2.2.2.2.1
theorem dX12_daysOf_54 : decode cX12_daysOf 54 = .ok (.iload_n 3, 1) := bdX12_daysOf_28.2.2.2.2.2.2.2.2.2.2.2.2.2.2.2
theorem bdX12_daysOf_55 : (decode cX12_daysOf 55 = .ok (.ifCond .eq 15, 3)) ∧ (decode cX12_daysOf 58 = .ok (.aload_n 0, 1)) ∧ (decode cX12_daysOf 59 = .ok (.getfield 7, 3)) ∧ (decode cX12_daysOf 62 = .ok (.iload 6, 2)) ∧ (decode cX12_daysOf 64 = .ok (.iconst 2, 1)) ∧ (decode cX12_daysOf 65 = .ok (.iadd, 1)) ∧ (decode cX12_daysOf 66 = .ok (.iaload, 1)) ∧ (decode cX12_daysOf 67 = .ok (.goto 4, 3)) ∧ (decode cX12_daysOf 70 = .ok (.iconst 1, 1)) ∧ (decode cX12_daysOf 71 = .ok (.iadd, 1)) ∧ (decode cX12_daysOf 72 = .ok (.istore 4, 2)) ∧ (decode cX12_daysOf 74 = .ok (.iinc 5 1, 3)) ∧ (decode cX12_daysOf 77 = .ok (.goto (-71), 3)) ∧ (decode cX12_daysOf 80 = .ok (.iload 4, 2)) ∧ (decode cX12_daysOf 82 = .ok (.ireturn, 1)) := by decide +kernel
theorem dX12_daysOf_55 : decode cX12_daysOf 55 = .ok (.ifCond .eq 15, 3) := bdX12_daysOf_55.1
theorem dX12_daysOf_58 : decode cX12_daysOf 58 = .ok (.aload_n 0, 1) := bdX12_daysOf_55.2.1
theorem dX12_daysOf_59 : decode cX12_daysOf 59 = .ok (.getfield 7, 3) := bdX12_daysOf_55.2.2.1
theorem dX12_daysOf_62 : decode cX12_daysOf 62 = .ok (.iload 6, 2) := bdX12_daysOf_55.2.2.2.1
theorem dX12_daysOf_64 : decode cX12_daysOf 64 = .ok (.iconst 2, 1) := bdX12_daysOf_55.2.2.2.2.1
theorem dX12_daysOf_65 : decode cX12_daysOf 65 = .ok (.iadd, 1) := bdX12_daysOf_55.2.2.2.2.2.1
theorem dX12_daysOf_66 : decode cX12_daysOf 66 = .ok (.iaload, 1) := bdX12_daysOf_55.2.2.2.2.2.2.1
theorem dX12_daysOf_67 : decode cX12_daysOf 67 = .ok (.goto 4, 3) := bdX12_daysOf_55.2.2.2.2.2.2.2.1
theorem dX12_daysOf_70 : decode cX12_daysOf 70 = .ok (.iconst 1, 1) := bdX12_daysOf_55.2.2.2.2.2.2.2.2.1
theorem dX12_daysOf_71 : decode cX12_daysOf 71 = .ok (.iadd, 1) := bdX12_daysOf_55.2.2.2.2.2.2.2.2.2.1
theorem dX12_daysOf_72 : decode cX12_daysOf 72 = .ok (.istore 4, 2) := bdX12_daysOf_55.2.2.2.2.2.2.2.2.2.2.1
theorem dX12_daysOf_74 : decode cX12_daysOf 74 = .ok (.iinc 5 1, 3) := bdX12_daysOf_55.2.2.2.2.2.2.2.2.2.2.2.1
theorem dX12_daysOf_77 : decode cX12_daysOf 77 = .ok (.goto (-71), 3) := bdX12_daysOf_55.2.2.2.2.2.2.2.2.2.2.2.2.1
theorem dX12_daysOf_80 : decode cX12_daysOf 80 = .ok (.iload 4, 2) := bdX12_daysOf_55.2.2.2.2.2.2.2.2.2.2.2.2.2.1
theorem dX12_daysOf_82 : decode cX12_daysOf 82 = .ok (.ireturn, 1) := bdX12_daysOf_55.2.2.2.2.2.2.2.2.2.2.2.2.2.2
theorem bdX12_effect_0 : (decode cX12_effect 0 = .ok (.iconst 0, 1)) ∧ (decode cX12_effect 1 = .ok (.istore_n 1, 1)) ∧ (decode cX12_effect 2 = .ok (.iconst 0, 1)) ∧ (decode cX12_effect 3 = .ok (.istore_n 2, 1)) ∧ (decode cX12_effect 4 = .ok (.iconst 0, 1)) ∧ (decode cX12_effect 5 = .ok (.istore_n 3, 1)) ∧ (decode cX12_effect 6 = .ok (.iload_n 3, 1)) ∧ (decode cX12_effect 7 = .ok (.bipush 6, 2)) ∧ (decode cX12_effect 9 = .ok (.if_icmp .ge 77, 3)) ∧ (decode cX12_effect 12 = .ok (.aload_n 0, 1)) ∧ (decode cX12_effect 13 = .ok (.iconst 1, 1)) ∧ (decode cX12_effect 14 = .ok (.iload_n 3, 1)) ∧ (decode cX12_effect 15 = .ok (.iconst 0, 1)) ∧ (decode cX12_effect 16 = .ok (.invokevirtual 409, 3)) ∧ (decode cX12_effect 19 = .ok (.istore 4, 2)) ∧ (decode cX12_effect 21 = .ok (.aload_n 0, 1)) := by decide +kernel
theorem dX12_effect_0 : decode cX12_effect 0 = .ok (.iconst 0, 1) := bdX12_effect_0.1
theorem dX12_effect_1 : decode cX12_effect 1 = .ok (.istore_n 1, 1) := bdX12_effect_0.2.1
theorem dX12_effect_2 : decode cX12_effect 2 = .ok (.iconst 0, 1) := bdX12_effect_0.2.2.1
theorem dX12_effect_3 : decode cX12_effect 3 = .ok (.istore_n 2, 1) := bdX12_effect_0.2.2.2.1
theorem dX12_effect_4 : decode cX12_effect 4 = .ok (.iconst 0, 1) := bdX12_effect_0.2.2.2.2.1
theorem dX12_effect_5 : decode cX12_effect 5 = .ok (.istore_n 3, 1) := bdX12_effect_0.2.2.2.2.2.1
theorem dX12_effect_6 : decode cX12_effect 6 = .ok (.iload_n 3, 1) := bdX12_effect_0.2.2.2.2.2.2.1
theorem dX12_effect_7 : decode cX12_effect 7 = .ok (.bipush 6, 2) := bdX12_effect_0.2.2.2.2.2.2.2.1
theorem dX12_effect_9 : decode cX12_effect 9 = .ok (.if_icmp .ge 77, 3) := bdX12_effect_0.2.2.2.2.2.2.2.2.1
theorem dX12_effect_12 : decode cX12_effect 12 = .ok (.aload_n 0, 1) := bdX12_effect_0.2.2.2.2.2.2.2.2.2.1
theorem dX12_effect_13 : decode cX12_effect 13 = .ok (.iconst 1, 1) := bdX12_effect_0.2.2.2.2.2.2.2.2.2.2.1
theorem dX12_effect_14 : decode cX12_effect 14 = .ok (.iload_n 3, 1) := bdX12_effect_0.2.2.2.2.2.2.2.2.2.2.2.1
theorem dX12_effect_15 : decode cX12_effect 15 = .ok (.iconst 0, 1) := bdX12_effect_0.2.2.2.2.2.2.2.2.2.2.2.2.1
theorem dX12_effect_16 : decode cX12_effect 16 = .ok (.invokevirtual 409, 3) := bdX12_effect_0.2.2.2.2.2.2.2.2.2.2.2.2.2.1
theorem dX12_effect_19 : decode cX12_effect 19 = .ok (.istore 4, 2) := bdX12_effect_0.2.2.2.2.2.2.2.2.2.2.2.2.2.2.1
theorem dX12_effect_21 : decode cX12_effect 21 = .ok (.aload_n 0, 1) := bdX12_effect_0.2.2.2.2.2.2.2.2.2.2.2.2.2.2.2
theorem bdX12_effect_22 : (decode cX12_effect 22 = .ok (.iconst 0, 1)) ∧ (decode cX12_effect 23 = .ok (.iload_n 3, 1)) ∧ (decode cX12_effect 24 = .ok (.iconst 0, 1)) ∧ (decode cX12_effect 25 = .ok (.invokevirtual 409, 3)) ∧ (decode cX12_effect 28 = .ok (.istore 5, 2)) ∧ (decode cX12_effect 30 = .ok (.iload 4, 2)) ∧ (decode cX12_effect 32 = .ok (.ifCond .le 48, 3)) ∧ (decode cX12_effect 35 = .ok (.iload 5, 2)) ∧ (decode cX12_effect 37 = .ok (.ifCond .le 43, 3)) ∧ (decode cX12_effect 40 = .ok (.iload_n 2, 1)) ∧ (decode cX12_effect 41 = .ok (.iload 4, 2)) ∧ (decode cX12_effect 43 = .ok (.sipush 1000, 3)) ∧ (decode cX12_effect 46 = .ok (.aload_n 0, 1)) ∧ (decode cX12_effect 47 = .ok (.iconst 1, 1)) ∧ (decode cX12_effect 48 = .ok (.iload_n 3, 1)) ∧ (decode cX12_effect 49 = .ok (.iconst 1, 1)) := by decide +kernel
theorem dX12_effect_22 : decode cX12_effect 22 = .ok (.iconst 0, 1) := bdX12_effect_22.1
theorem dX12_effect_23 : decode cX12_effect 23 = .ok (.iload_n 3, 1) := bdX12_effect_22.2.1
theorem dX12_effect_24 : decode cX12_effect 24 = .ok (.iconst 0, 1) := bdX12_effect_22.2.2.1
theorem dX12_effect_25 : decode cX12_effect 25 = .ok (.invokevirtual 409, 3) := bdX12_effect_22.2.2.2.1
theorem dX12_effect_28 : decode cX12_effect 28 = .ok (.istore 5, 2) := bdX12_effect_22.2.2.2.2.1
theorem dX12_effect_30 : decode cX12_effect 30 = .ok (.iload 4, 2) := bdX12_effect_22.2.2.2.2.2.1
theorem dX12_effect_32 : decode cX12_effect 32 = .ok (.ifCond .le 48, 3) := bdX12_effect_22.2.2.2.2.2.2.1
theorem dX12_effect_35 : decode cX12_effect 35 = .ok (.iload 5, 2) := bdX12_effect_22.2.2.2.2.2.2.2.1
theorem dX12_effect_37 : decode cX12_effect 37 = .ok (.ifCond .le 43, 3) := bdX12_effect_22.2.2.2.2.2.2.2.2.1
theorem dX12_effect_40 : decode cX12_effect 40 = .ok (.iload_n 2, 1) := bdX12_effect_22.2.2.2.2.2.2.2.2.2.1
theorem dX12_effect_41 : decode cX12_effect 41 = .ok (.iload 4, 2) := bdX12_effect_22.2.2.2.2.2.2.2.2.2.2.1
theorem dX12_effect_43 : decode cX12_effect 43 = .ok (.sipush 1000, 3) := bdX12_effect_22.2.2.2.2.2.2.2.2.2.2.2.1
theorem dX12_effect_46 : decode cX12_effect 46 = .ok (.aload_n 0, 1) := bdX12_effect_22.2.2.2.2.2.2.2.2.2.2.2.2.1
theorem dX12_effect_47 : decode cX12_effect 47 = .ok (.iconst 1, 1) := bdX12_effect_22.2.2.2.2.2.2.2.2.2.2.2.2.2.1
theorem dX12_effect_48 : decode cX12_effect 48 = .ok (.iload_n 3, 1) := bdX12_effect_22.2.2.2.2.2.2.2.2.2.2.2.2.2.2.1
theorem dX12_effect_49 : decode cX12_effect 49 = .ok (.iconst 1, 1) := bdX12_effect_22.2.2.2.2.2.2.2.2.2.2.2.2.2.2.2
theorem bdX12_effect_50 : (decode cX12_effect 50 = .ok (.invokevirtual 409, 3)) ∧ (decode cX12_effect 53 = .ok (.imul, 1)) ∧ (decode cX12_effect 54 = .ok (.iload 4, 2)) ∧ (decode cX12_effect 56 = .ok (.idiv, 1)) ∧ (decode cX12_effect 57 = .ok (.sipush 1000, 3)) ∧ (decode cX12_effect 60 = .ok (.aload_n 0, 1)) ∧ (decode cX12_effect 61 = .ok (.iconst 0, 1)) ∧ (decode cX12_effect 62 = .ok (.iload_n 3, 1)) ∧ (decode cX12_effect 63 = .ok (.iconst 1, 1)) ∧ (decode cX12_effect 64 = .ok (.invokevirtual 409, 3)) ∧ (decode cX12_effect 67 = .ok (.imul, 1)) ∧ (decode cX12_effect 68 = .ok (.iload 5, 2)) ∧ (decode cX12_effect 70 = .ok (.idiv, 1)) ∧ (decode cX12_effect 71 = .ok (.isub, 1)) ∧ (decode cX12_effect 72 = .ok (.imul, 1)) ∧ (decode cX12_effect 73 = .ok (.iadd, 1)) := by decide +kernel
theorem dX12_effect_50 : decode cX12_effect 50 = .ok (.invokevirtual 409, 3) := bdX12_effect_50.1
theorem dX12_effect_53 : decode cX12_effect 53 = .ok (.imul, 1) := bdX12_effect_50.2.1
theorem dX12_effect_54 : decode cX12_effect 54 = .ok (.iload 4, 2) := bdX12_effect_50.2.2.1
theorem dX12_effect_56 : decode cX12_effect 56 = .ok (.idiv, 1) := bdX12_effect_50.2.2.2.1
theorem dX12_effect_57 : decode cX12_effect 57 = .ok (.sipush 1000, 3) := bdX12_effect_50.2.2.2.2.1
theorem dX12_effect_60 : decode cX12_effect 60 = .ok (.aload_n 0, 1) := bdX12_effect_50.2.2.2.2.2.1
theorem dX12_effect_61 : decode cX12_effect 61 = .ok (.iconst 0, 1) := bdX12_effect_50.2.2.2.2.2.2.1
theorem dX12_effect_62 : decode cX12_effect 62 = .ok (.iload_n 3, 1) := bdX12_effect_50.2.2.2.2.2.2.2.1
theorem dX12_effect_63 : decode cX12_effect 63 = .ok (.iconst 1, 1) := bdX12_effect_50.2.2.2.2.2.2.2.2.1
theorem dX12_effect_64 : decode cX12_effect 64 = .ok (.invokevirtual 409, 3) := bdX12_effect_50.2.2.2.2.2.2.2.2.2.1
theorem dX12_effect_67 : decode cX12_effect 67 = .ok (.imul, 1) := bdX12_effect_50.2.2.2.2.2.2.2.2.2.2.1
theorem dX12_effect_68 : decode cX12_effect 68 = .ok (.iload 5, 2) := bdX12_effect_50.2.2.2.2.2.2.2.2.2.2.2.1
theorem dX12_effect_70 : decode cX12_effect 70 = .ok (.idiv, 1) := bdX12_effect_50.2.2.2.2.2.2.2.2.2.2.2.2.1
theorem dX12_effect_71 : decode cX12_effect 71 = .ok (.isub, 1) := bdX12_effect_50.2.2.2.2.2.2.2.2.2.2.2.2.2.1
theorem dX12_effect_72 : decode cX12_effect 72 = .ok (.imul, 1) := bdX12_effect_50.2.2.2.2.2.2.2.2.2.2.2.2.2.2.1
theorem dX12_effect_73 : decode cX12_effect 73 = .ok (.iadd, 1) := bdX12_effect_50.2.2.2.2.2.2.2.2.2.2.2.2.2.2.2
theorem bdX12_effect_74 : (decode cX12_effect 74 = .ok (.istore_n 2, 1)) ∧ (decode cX12_effect 75 = .ok (.iload_n 1, 1)) ∧ (decode cX12_effect 76 = .ok (.iload 4, 2)) ∧ (decode cX12_effect 78 = .ok (.iadd, 1)) ∧ (decode cX12_effect 79 = .ok (.istore_n 1, 1)) ∧ (decode cX12_effect 80 = .ok (.iinc 3 1, 3)) ∧ (decode cX12_effect 83 = .ok (.goto (-77), 3)) ∧ (decode cX12_effect 86 = .ok (.iload_n 1, 1)) ∧ (decode cX12_effect 87 = .ok (.ifCond .ne 9, 3)) ∧ (decode cX12_effect 90 = .ok (.ldc_w 413, 3)) ∧ (decode cX12_effect 93 = .ok (.goto 6, 3)) ∧ (decode cX12_effect 96 = .ok (.iload_n 2, 1)) ∧ (decode cX12_effect 97 = .ok (.iload_n 1, 1)) ∧ (decode cX12_effect 98 = .ok (.idiv, 1)) ∧ (decode cX12_effect 99 = .ok (.ireturn, 1)) := by decide +kernel
theorem dX12_effect_74 : decode cX12_effect 74 = .ok (.istore_n 2, 1) := bdX12_effect_74.1
theorem dX12_effect_75 : decode cX12_effect 75 = .ok (.iload_n 1, 1) := bdX12_effect_74.2.1
theorem dX12_effect_76 : decode cX12_effect 76 = .ok (.iload 4, 2) := bdX12_effect_74.2.2.1
theorem dX12_effect_78 : decode cX12_effect 78 = .ok (.iadd, 1) := bdX12_effect_74.2.2.2.1
theorem dX12_effect_79 : decode cX12_effect 79 = .ok (.istore_n 1, 1) := bdX12_effect_74.2.2.2.2.1
theorem dX12_effect_80 : decode cX12_effect 80 = .ok (.iinc 3 1, 3) := bdX12_effect_74.2.2.2.2.2.1
theorem dX12_effect_83 : decode cX12_effect 83 = .ok (.goto (-77), 3) := bdX12_effect_74.2.2.2.2.2.2.1
theorem dX12_effect_86 : decode cX12_effect 86 = .ok (.iload_n 1, 1) := bdX12_effect_74.2.2.2.2.2.2.2.1
theorem dX12_effect_87 : decode cX12_effect 87 = .ok (.ifCond .ne 9, 3) := bdX12_effect_74.2.2.2.2.2.2.2.2.1
theorem dX12_effect_90 : decode cX12_effect 90 = .ok (.ldc_w 413, 3) := bdX12_effect_74.2.2.2.2.2.2.2.2.2.1
theorem dX12_effect_93 : decode cX12_effect 93 = .ok (.goto 6, 3) := bdX12_effect_74.2.2.2.2.2.2.2.2.2.2.1
theorem dX12_effect_96 : decode cX12_effect 96 = .ok (.iload_n 2, 1) := bdX12_effect_74.2.2.2.2.2.2.2.2.2.2.2.1
theorem dX12_effect_97 : decode cX12_effect 97 = .ok (.iload_n 1, 1) := bdX12_effect_74.2.2.2.2.2.2.2.2.2.2.2.2.1
theorem dX12_effect_98 : decode cX12_effect 98 = .ok (.idiv, 1) := bdX12_effect_74.2.2.2.2.2.2.2.2.2.2.2.2.2.1
theorem dX12_effect_99 : decode cX12_effect 99 = .ok (.ireturn, 1) := bdX12_effect_74.2.2.2.2.2.2.2.2.2.2.2.2.2.2
theorem bdX5_tell_0 : (decode cX5_tell 0 = .ok (.aload_n 0, 1)) ∧ (decode cX5_tell 1 = .ok (.getfield 27, 3)) ∧ (decode cX5_tell 4 = .ok (.ifCond .lt 12, 3)) ∧ (decode cX5_tell 7 = .ok (.aload_n 0, 1)) ∧ (decode cX5_tell 8 = .ok (.getfield 27, 3)) ∧ (decode cX5_tell 11 = .ok (.bipush 6, 2)) ∧ (decode cX5_tell 13 = .ok (.if_icmp .lt 5, 3)) ∧ (decode cX5_tell 16 = .ok (.iconst (-1), 1)) ∧ (decode cX5_tell 17 = .ok (.ireturn, 1)) ∧ (decode cX5_tell 18 = .ok (.aload_n 0, 1)) ∧ (decode cX5_tell 19 = .ok (.getfield 11, 3)) ∧ (decode cX5_tell 22 = .ok (.aload_n 0, 1)) ∧ (decode cX5_tell 23 = .ok (.getfield 27, 3)) ∧ (decode cX5_tell 26 = .ok (.iload_n 1, 1)) ∧ (decode cX5_tell 27 = .ok (.iastore, 1)) ∧ (decode cX5_tell 28 = .ok (.aload_n 0, 1)) := by decide +kernel
theorem dX5_tell_0 : decode cX5_tell 0 = .ok (.aload_n 0, 1) := bdX5_tell_0.1
theorem dX5_tell_1 : decode cX5_tell 1 = .ok (.getfield 27, 3) := bdX5_tell_0.2.1
theorem dX5_tell_4 : decode cX5_tell 4 = .ok (.ifCond .lt 12, 3) := bdX5_tell_0.2.2.1
theorem dX5_tell_7 : decode cX5_tell 7 = .ok (.aload_n 0, 1) := bdX5_tell_0.2.2.2.1
theorem dX5_tell_8 : decode cX5_tell 8 = .ok (.getfield 27, 3) := bdX5_tell_0.2.2.2.2.1
theorem dX5_tell_11 : decode cX5_tell 11 = .ok (.bipush 6, 2) := bdX5_tell_0.2.2.2.2.2.1
theorem dX5_tell_13 : decode cX5_tell 13 = .ok (.if_icmp .lt 5, 3) := bdX5_tell_0.2.2.2.2.2.2.1
theorem dX5_tell_16 : decode cX5_tell 16 = .ok (.iconst (-1), 1) := bdX5_tell_0.2.2.2.2.2.2.2.1
theorem dX5_tell_17 : decode cX5_tell 17 = .ok (.ireturn, 1) := bdX5_tell_0.2.2.2.2.2.2.2.2.1
theorem dX5_tell_18 : decode cX5_tell 18 = .ok (.aload_n 0, 1) := bdX5_tell_0.2.2.2.2.2.2.2.2.2.1
theorem dX5_tell_19 : decode cX5_tell 19 = .ok (.getfield 11, 3) := bdX5_tell_0.2.2.2.2.2.2.2.2.2.2.1
theorem dX5_tell_22 : decode cX5_tell 22 = .ok (.aload_n 0, 1) := bdX5_tell_0.2.2.2.2.2.2.2.2.2.2.2.1
theorem dX5_tell_23 : decode cX5_tell 23 = .ok (.getfield 27, 3) := bdX5_tell_0.2.2.2.2.2.2.2.2.2.2.2.2.1
theorem dX5_tell_26 : decode cX5_tell 26 = .ok (.iload_n 1, 1) := bdX5_tell_0.2.2.2.2.2.2.2.2.2.2.2.2.2.1
theorem dX5_tell_27 : decode cX5_tell 27 = .ok (.iastore, 1) := bdX5_tell_0.2.2.2.2.2.2.2.2.2.2.2.2.2.2.1
theorem dX5_tell_28 : decode cX5_tell 28 = .ok (.aload_n 0, 1) := bdX5_tell_0.2.2.2.2.2.2.2.2.2.2.2.2.2.2.2
theorem bdX5_tell_29 : (decode cX5_tell 29 = .ok (.getfield 15, 3)) ∧ (decode cX5_tell 32 = .ok (.aload_n 0, 1)) ∧ (decode cX5_tell 33 = .ok (.getfield 27, 3)) ∧ (decode cX5_tell 36 = .ok (.iload_n 2, 1)) ∧ (decode cX5_tell 37 = .ok (.iastore, 1)) ∧ (decode cX5_tell 38 = .ok (.aload_n 0, 1)) ∧ (decode cX5_tell 39 = .ok (.getfield 18, 3)) ∧ (decode cX5_tell 42 = .ok (.aload_n 0, 1)) ∧ (decode cX5_tell 43 = .ok (.getfield 27, 3)) ∧ (decode cX5_tell 46 = .ok (.iload_n 3, 1)) ∧ (decode cX5_tell 47 = .ok (.iastore, 1)) ∧ (decode cX5_tell 48 = .ok (.aload_n 0, 1)) ∧ (decode cX5_tell 49 = .ok (.getfield 21, 3)) ∧ (decode cX5_tell 52 = .ok (.aload_n 0, 1)) ∧ (decode cX5_tell 53 = .ok (.getfield 27, 3)) ∧ (decode cX5_tell 56 = .ok (.iload 4, 2)) := by decide +kernel
theorem dX5_tell_29 : decode cX5_tell 29 = .ok (.getfield 15, 3) := bdX5_tell_29.1
theorem dX5_tell_32 : decode cX5_tell 32 = .ok (.aload_n 0, 1) := bdX5_tell_29.2.1
theorem dX5_tell_33 : decode cX5_tell 33 = .ok (.getfield 27, 3) := bdX5_tell_29.2.2.1
theorem dX5_tell_36 : decode cX5_tell 36 = .ok (.iload_n 2, 1) := bdX5_tell_29.2.2.2.1
theorem dX5_tell_37 : decode cX5_tell 37 = .ok (.iastore, 1) := bdX5_tell_29.2.2.2.2.1
theorem dX5_tell_38 : decode cX5_tell 38 = .ok (.aload_n 0, 1) := bdX5_tell_29.2.2.2.2.2.1
theorem dX5_tell_39 : decode cX5_tell 39 = .ok (.getfield 18, 3) := bdX5_tell_29.2.2.2.2.2.2.1
theorem dX5_tell_42 : decode cX5_tell 42 = .ok (.aload_n 0, 1) := bdX5_tell_29.2.2.2.2.2.2.2.1
theorem dX5_tell_43 : decode cX5_tell 43 = .ok (.getfield 27, 3) := bdX5_tell_29.2.2.2.2.2.2.2.2.1
theorem dX5_tell_46 : decode cX5_tell 46 = .ok (.iload_n 3, 1) := bdX5_tell_29.2.2.2.2.2.2.2.2.2.1
theorem dX5_tell_47 : decode cX5_tell 47 = .ok (.iastore, 1) := bdX5_tell_29.2.2.2.2.2.2.2.2.2.2.1
theorem dX5_tell_48 : decode cX5_tell 48 = .ok (.aload_n 0, 1) := bdX5_tell_29.2.2.2.2.2.2.2.2.2.2.2.1
theorem dX5_tell_49 : decode cX5_tell 49 = .ok (.getfield 21, 3) := bdX5_tell_29.2.2.2.2.2.2.2.2.2.2.2.2.1
theorem dX5_tell_52 : decode cX5_tell 52 = .ok (.aload_n 0, 1) := bdX5_tell_29.2.2.2.2.2.2.2.2.2.2.2.2.2.1
theorem dX5_tell_53 : decode cX5_tell 53 = .ok (.getfield 27, 3) := bdX5_tell_29.2.2.2.2.2.2.2.2.2.2.2.2.2.2.1
theorem dX5_tell_56 : decode cX5_tell 56 = .ok (.iload 4, 2) := bdX5_tell_29.2.2.2.2.2.2.2.2.2.2.2.2.2.2.2
theorem bdX5_tell_58 : (decode cX5_tell 58 = .ok (.iastore, 1)) ∧ (decode cX5_tell 59 = .ok (.aload_n 0, 1)) ∧ (decode cX5_tell 60 = .ok (.dup, 1)) ∧ (decode cX5_tell 61 = .ok (.getfield 27, 3)) ∧ (decode cX5_tell 64 = .ok (.iconst 1, 1)) ∧ (decode cX5_tell 65 = .ok (.iadd, 1)) ∧ (decode cX5_tell 66 = .ok (.putfield 27, 3)) ∧ (decode cX5_tell 69 = .ok (.aload_n 0, 1)) ∧ (decode cX5_tell 70 = .ok (.getfield 27, 3)) ∧ (decode cX5_tell 73 = .ok (.iconst 1, 1)) ∧ (decode cX5_tell 74 = .ok (.isub, 1)) ∧ (decode cX5_tell 75 = .ok (.ireturn, 1)) := by decide +kernel
theorem dX5_tell_58 : decode cX5_tell 58 = .ok (.iastore, 1) := bdX5_tell_58.1
theorem dX5_tell_59 : decode cX5_tell 59 = .ok (.aload_n 0, 1) := bdX5_tell_58.2.1
theorem dX5_tell_60 : decode cX5_tell 60 = .ok (.dup, 1) := bdX5_tell_58.2.2.1
theorem dX5_tell_61 : decode cX5_tell 61 = .ok (.getfield 27, 3) := bdX5_tell_58.2.2.2.1
theorem dX5_tell_64 : decode cX5_tell 64 = .ok (.iconst 1, 1) := bdX5_tell_58.2.2.2.2.1
theorem dX5_tell_65 : decode cX5_tell 65 = .ok (.iadd, 1) := bdX5_tell_58.2.2.2.2.2.1
theorem dX5_tell_66 : decode cX5_tell 66 = .ok (.putfield 27, 3) := bdX5_tell_58.2.2.2.2.2.2.1
theorem dX5_tell_69 : decode cX5_tell 69 = .ok (.aload_n 0, 1) := bdX5_tell_58.2.2.2.2.2.2.2.1
theorem dX5_tell_70 : decode cX5_tell 70 = .ok (.getfield 27, 3) := bdX5_tell_58.2.2.2.2.2.2.2.2.1
theorem dX5_tell_73 : decode cX5_tell 73 = .ok (.iconst 1, 1) := bdX5_tell_58.2.2.2.2.2.2.2.2.2.1
theorem dX5_tell_74 : decode cX5_tell 74 = .ok (.isub, 1) := bdX5_tell_58.2.2.2.2.2.2.2.2.2.2.1
theorem dX5_tell_75 : decode cX5_tell 75 = .ok (.ireturn, 1) := bdX5_tell_58.2.2.2.2.2.2.2.2.2.2.2
theorem bdX11_mend_0 : (decode cX11_mend 0 = .ok (.iload_n 1, 1)) ∧ (decode cX11_mend 1 = .ok (.iconst 0, 1)) ∧ (decode cX11_mend 2 = .ok (.sipush 999, 3)) ∧ (decode cX11_mend 5 = .ok (.invokestatic 47, 3)) ∧ (decode cX11_mend 8 = .ok (.ifCond .eq 28, 3)) ∧ (decode cX11_mend 11 = .ok (.iload_n 2, 1)) ∧ (decode cX11_mend 12 = .ok (.iconst 0, 1)) ∧ (decode cX11_mend 13 = .ok (.bipush 99, 2)) ∧ (decode cX11_mend 15 = .ok (.invokestatic 47, 3)) ∧ (decode cX11_mend 18 = .ok (.ifCond .eq 18, 3)) ∧ (decode cX11_mend 21 = .ok (.iload_n 3, 1)) ∧ (decode cX11_mend 22 = .ok (.iconst 0, 1)) ∧ (decode cX11_mend 23 = .ok (.sipush 999, 3)) ∧ (decode cX11_mend 26 = .ok (.invokestatic 47, 3)) ∧ (decode cX11_mend 29 = .ok (.ifCond .eq 7, 3)) ∧ (decode cX11_mend 32 = .ok (.iconst 1, 1)) := by decide +kernel
theorem dX11_mend_0 : decode cX11_mend 0 = .ok (.iload_n 1, 1) := bdX11_mend_0.1
theorem dX11_mend_1 : decode cX11_mend 1 = .ok (.iconst 0, 1) := bdX11_mend_0.2.1
theorem dX11_mend_2 : decode cX11_mend 2 = .ok (.sipush 999, 3) := bdX11_mend_0.2.2.1
theorem dX11_mend_5 : decode cX11_mend 5 = .ok (.invokestatic 47, 3) := bdX11_mend_0.2.2.2.1
theorem dX11_mend_8 : decode cX11_mend 8 = .ok (.ifCond .eq 28, 3) := bdX11_mend_0.2.2.2.2.1
theorem dX11_mend_11 : decode cX11_mend 11 = .ok (.iload_n 2, 1) := bdX11_mend_0.2.2.2.2.2.1
theorem dX11_mend_12 : decode cX11_mend 12 = .ok (.iconst 0, 1) := bdX11_mend_0.2.2.2.2.2.2.1
theorem dX11_mend_13 : decode cX11_mend 13 = .ok (.bipush 99, 2) := bdX11_mend_0.2.2.2.2.2.2.2.1
theorem dX11_mend_15 : decode cX11_mend 15 = .ok (.invokestatic 47, 3) := bdX11_mend_0.2.2.2.2.2.2.2.2.1
theorem dX11_mend_18 : decode cX11_mend 18 = .ok (.ifCond .eq 18, 3) := bdX11_mend_0.2.2.2.2.2.2.2.2.2.1
theorem dX11_mend_21 : decode cX11_mend 21 = .ok (.iload_n 3, 1) := bdX11_mend_0.2.2.2.2.2.2.2.2.2.2.1
theorem dX11_mend_22 : decode cX11_mend 22 = .ok (.iconst 0, 1) := bdX11_mend_0.2.2.2.2.2.2.2.2.2.2.2.1
theorem dX11_mend_23 : decode cX11_mend 23 = .ok (.sipush 999, 3) := bdX11_mend_0.2.2.2.2.2.2.2.2.2.2.2.2.1
theorem dX11_mend_26 : decode cX11_mend 26 = .ok (.invokestatic 47, 3) := bdX11_mend_0.2.2.2.2.2.2.2.2.2.2.2.2.2.1
theorem dX11_mend_29 : decode cX11_mend 29 = .ok (.ifCond .eq 7, 3) := bdX11_mend_0.2.2.2.2.2.2.2.2.2.2.2.2.2.2.1
theorem dX11_mend_32 : decode cX11_mend 32 = .ok (.iconst 1, 1) := bdX11_mend_0.2.2.2.2.2.2.2.2.2.2.2.2.2.2.2
theorem bdX11_mend_33 : (decode cX11_mend 33 = .ok (.goto 4, 3)) ∧ (decode cX11_mend 36 = .ok (.iconst 0, 1)) ∧ (decode cX11_mend 37 = .ok (.istore 5, 2)) ∧ (decode cX11_mend 39 = .ok (.iload 5, 2)) ∧ (decode cX11_mend 41 = .ok (.ifCond .eq 14, 3)) ∧ (decode cX11_mend 44 = .ok (.iload 4, 2)) ∧ (decode cX11_mend 46 = .ok (.iconst 1, 1)) ∧ (decode cX11_mend 47 = .ok (.bipush 9, 2)) ∧ (decode cX11_mend 49 = .ok (.invokestatic 47, 3)) ∧ (decode cX11_mend 52 = .ok (.ifCond .ne 5, 3)) ∧ (decode cX11_mend 55 = .ok (.iconst (-1), 1)) ∧ (decode cX11_mend 56 = .ok (.ireturn, 1)) ∧ (decode cX11_mend 57 = .ok (.aload_n 0, 1)) ∧ (decode cX11_mend 58 = .ok (.getfield 10, 3)) ∧ (decode cX11_mend 61 = .ok (.getfield 282, 3)) ∧ (decode cX11_mend 64 = .ok (.iload_n 1, 1)) := by decide +kernel
theorem dX11_mend_33 : decode cX11_mend 33 = .ok (.goto 4, 3) := bdX11_mend_33.1
theorem dX11_mend_36 : decode cX11_mend 36 = .ok (.iconst 0, 1) := bdX11_mend_33.2.1
theorem dX11_mend_37 : decode cX11_mend 37 = .ok (.istore 5, 2) := bdX11_mend_33.2.2.1
theorem dX11_mend_39 : decode cX11_mend 39 = .ok (.iload 5, 2) := bdX11_mend_33.2.2.2.1
theorem dX11_mend_41 : decode cX11_mend 41 = .ok (.ifCond .eq 14, 3) := bdX11_mend_33.2.2.2.2.1
theorem dX11_mend_44 : decode cX11_mend 44 = .ok (.iload 4, 2) := bdX11_mend_33.2.2.2.2.2.1
theorem dX11_mend_46 : decode cX11_mend 46 = .ok (.iconst 1, 1) := bdX11_mend_33.2.2.2.2.2.2.1
theorem dX11_mend_47 : decode cX11_mend 47 = .ok (.bipush 9, 2) := bdX11_mend_33.2.2.2.2.2.2.2.1
theorem dX11_mend_49 : decode cX11_mend 49 = .ok (.invokestatic 47, 3) := bdX11_mend_33.2.2.2.2.2.2.2.2.1
theorem dX11_mend_52 : decode cX11_mend 52 = .ok (.ifCond .ne 5, 3) := bdX11_mend_33.2.2.2.2.2.2.2.2.2.1
theorem dX11_mend_55 : decode cX11_mend 55 = .ok (.iconst (-1), 1) := bdX11_mend_33.2.2.2.2.2.2.2.2.2.2.1
theorem dX11_mend_56 : decode cX11_mend 56 = .ok (.ireturn, 1) := bdX11_mend_33.2.2.2.2.2.2.2.2.2.2.2.1
theorem dX11_mend_57 : decode cX11_mend 57 = .ok (.aload_n 0, 1) := bdX11_mend_33.2.2.2.2.2.2.2.2.2.2.2.2.1
theorem dX11_mend_58 : decode cX11_mend 58 = .ok (.getfield 10, 3) := bdX11_mend_33.2.2.2.2.2.2.2.2.2.2.2.2.2.1
theorem dX11_mend_61 : decode cX11_mend 61 = .ok (.getfield 282, 3) := bdX11_mend_33.2.2.2.2.2.2.2.2.2.2.2.2.2.2.1
theorem dX11_mend_64 : decode cX11_mend 64 = .ok (.iload_n 1, 1) := bdX11_mend_33.2.2.2.2.2.2.2.2.2.2.2.2.2.2.2
theorem bdX11_mend_65 : (decode cX11_mend 65 = .ok (.iload_n 2, 1)) ∧ (decode cX11_mend 66 = .ok (.iload_n 3, 1)) ∧ (decode cX11_mend 67 = .ok (.iload 4, 2)) ∧ (decode cX11_mend 69 = .ok (.invokevirtual 286, 3)) ∧ (decode cX11_mend 72 = .ok (.ireturn, 1)) := by decide +kernel
theorem dX11_mend_65 : decode cX11_mend 65 = .ok (.iload_n 2, 1) := bdX11_mend_65.1
theorem dX11_mend_66 : decode cX11_mend 66 = .ok (.iload_n 3, 1) := bdX11_mend_65.2.1
theorem dX11_mend_67 : decode cX11_mend 67 = .ok (.iload 4, 2) := bdX11_mend_65.2.2.1
theorem dX11_mend_69 : decode cX11_mend 69 = .ok (.invokevirtual 286, 3) := bdX11_mend_65.2.2.2.1
theorem dX11_mend_72 : decode cX11_mend 72 = .ok (.ireturn, 1) := bdX11_mend_65.2.2.2.2
theorem bdX12_mend_0 : (decode cX12_mend 0 = .ok (.iload_n 1, 1)) ∧ (decode cX12_mend 1 = .ok (.iconst 0, 1)) ∧ (decode cX12_mend 2 = .ok (.sipush 999, 3)) ∧ (decode cX12_mend 5 = .ok (.invokestatic 95, 3)) ∧ (decode cX12_mend 8 = .ok (.ifCond .eq 47, 3)) ∧ (decode cX12_mend 11 = .ok (.iload_n 2, 1)) ∧ (decode cX12_mend 12 = .ok (.iconst 0, 1)) ∧ (decode cX12_mend 13 = .ok (.bipush 99, 2)) ∧ (decode cX12_mend 15 = .ok (.invokestatic 95, 3)) ∧ (decode cX12_mend 18 = .ok (.ifCond .eq 37, 3)) ∧ (decode cX12_mend 21 = .ok (.iload_n 3, 1)) ∧ (decode cX12_mend 22 = .ok (.iconst 0, 1)) ∧ (decode cX12_mend 23 = .ok (.sipush 999, 3)) ∧ (decode cX12_mend 26 = .ok (.invokestatic 95, 3)) ∧ (decode cX12_mend 29 = .ok (.ifCond .eq 26, 3)) ∧ (decode cX12_mend 32 = .ok (.iload 4, 2)) := by decide +kernel
theorem dX12_mend_0 : decode cX12_mend 0 = .ok (.iload_n 1, 1) := bdX12_mend_0.1
theorem dX12_mend_1 : decode cX12_mend 1 = .ok (.iconst 0, 1) := bdX12_mend_0.2.1
theorem dX12_mend_2 : decode cX12_mend 2 = .ok (.sipush 999, 3) := bdX12_mend_0.2.2.1
theorem dX12_mend_5 : decode cX12_mend 5 = .ok (.invokestatic 95, 3) := bdX12_mend_0.2.2.2.1
theorem dX12_mend_8 : decode cX12_mend 8 = .ok (.ifCond .eq 47, 3) := bdX12_mend_0.2.2.2.2.1
theorem dX12_mend_11 : decode cX12_mend 11 = .ok (.iload_n 2, 1) := bdX12_mend_0.2.2.2.2.2.1
theorem dX12_mend_12 : decode cX12_mend 12 = .ok (.iconst 0, 1) := bdX12_mend_0.2.2.2.2.2.2.1
theorem dX12_mend_13 : decode cX12_mend 13 = .ok (.bipush 99, 2) := bdX12_mend_0.2.2.2.2.2.2.2.1
theorem dX12_mend_15 : decode cX12_mend 15 = .ok (.invokestatic 95, 3) := bdX12_mend_0.2.2.2.2.2.2.2.2.1
theorem dX12_mend_18 : decode cX12_mend 18 = .ok (.ifCond .eq 37, 3) := bdX12_mend_0.2.2.2.2.2.2.2.2.2.1
theorem dX12_mend_21 : decode cX12_mend 21 = .ok (.iload_n 3, 1) := bdX12_mend_0.2.2.2.2.2.2.2.2.2.2.1
theorem dX12_mend_22 : decode cX12_mend 22 = .ok (.iconst 0, 1) := bdX12_mend_0.2.2.2.2.2.2.2.2.2.2.2.1
theorem dX12_mend_23 : decode cX12_mend 23 = .ok (.sipush 999, 3) := bdX12_mend_0.2.2.2.2.2.2.2.2.2.2.2.2.1
theorem dX12_mend_26 : decode cX12_mend 26 = .ok (.invokestatic 95, 3) := bdX12_mend_0.2.2.2.2.2.2.2.2.2.2.2.2.2.1
theorem dX12_mend_29 : decode cX12_mend 29 = .ok (.ifCond .eq 26, 3) := bdX12_mend_0.2.2.2.2.2.2.2.2.2.2.2.2.2.2.1
theorem dX12_mend_32 : decode cX12_mend 32 = .ok (.iload 4, 2) := bdX12_mend_0.2.2.2.2.2.2.2.2.2.2.2.2.2.2.2
theorem bdX12_mend_34 : (decode cX12_mend 34 = .ok (.iconst 1, 1)) ∧ (decode cX12_mend 35 = .ok (.bipush 9, 2)) ∧ (decode cX12_mend 37 = .ok (.invokestatic 95, 3)) ∧ (decode cX12_mend 40 = .ok (.ifCond .eq 15, 3)) ∧ (decode cX12_mend 43 = .ok (.aload_n 0, 1)) ∧ (decode cX12_mend 44 = .ok (.getfield 7, 3)) ∧ (decode cX12_mend 47 = .ok (.bipush 7, 2)) ∧ (decode cX12_mend 49 = .ok (.iaload, 1)) ∧ (decode cX12_mend 50 = .ok (.bipush 6, 2)) ∧ (decode cX12_mend 52 = .ok (.if_icmp .ne 5, 3)) ∧ (decode cX12_mend 55 = .ok (.iconst (-1), 1)) ∧ (decode cX12_mend 56 = .ok (.ireturn, 1)) ∧ (decode cX12_mend 57 = .ok (.sipush 1520, 3)) ∧ (decode cX12_mend 60 = .ok (.iconst 4, 1)) ∧ (decode cX12_mend 61 = .ok (.aload_n 0, 1)) ∧ (decode cX12_mend 62 = .ok (.getfield 7, 3)) := by decide +kernel
theorem dX12_mend_34 : decode cX12_mend 34 = .ok (.iconst 1, 1) := bdX12_mend_34.1
theorem dX12_mend_35 : decode cX12_mend 35 = .ok (.bipush 9, 2) := bdX12_mend_34.2.1
theorem dX12_mend_37 : decode cX12_mend 37 = .ok (.invokestatic 95, 3) := bdX12_mend_34.2.2.1
theorem dX12_mend_40 : decode cX12_mend 40 = .ok (.ifCond .eq 15, 3) := bdX12_mend_34.2.2.2.1
theorem dX12_mend_43 : decode cX12_mend 43 = .ok (.aload_n 0, 1) := bdX12_mend_34.2.2.2.2.1
theorem dX12_mend_44 : decode cX12_mend 44 = .ok (.getfield 7, 3) := bdX12_mend_34.2.2.2.2.2.1
theorem dX12_mend_47 : decode cX12_mend 47 = .ok (.bipush 7, 2) := bdX12_mend_34.2.2.2.2.2.2.1
theorem dX12_mend_49 : decode cX12_mend 49 = .ok (.iaload, 1) := bdX12_mend_34.2.2.2.2.2.2.2.1
theorem dX12_mend_50 : decode cX12_mend 50 = .ok (.bipush 6, 2) := bdX12_mend_34.2.2.2.2.2.2.2.2.1
theorem dX12_mend_52 : decode cX12_mend 52 = .ok (.if_icmp .ne 5, 3) := bdX12_mend_34.2.2.2.2.2.2.2.2.2.1
theorem dX12_mend_55 : decode cX12_mend 55 = .ok (.iconst (-1), 1) := bdX12_mend_34.2.2.2.2.2.2.2.2.2.2.1
theorem dX12_mend_56 : decode cX12_mend 56 = .ok (.ireturn, 1) := bdX12_mend_34.2.2.2.2.2.2.2.2.2.2.2.1
theorem dX12_mend_57 : decode cX12_mend 57 = .ok (.sipush 1520, 3) := bdX12_mend_34.2.2.2.2.2.2.2.2.2.2.2.2.1
theorem dX12_mend_60 : decode cX12_mend 60 = .ok (.iconst 4, 1) := bdX12_mend_34.2.2.2.2.2.2.2.2.2.2.2.2.2.1
theorem dX12_mend_61 : decode cX12_mend 61 = .ok (.aload_n 0, 1) := bdX12_mend_34.2.2.2.2.2.2.2.2.2.2.2.2.2.2.1
theorem dX12_mend_62 : decode cX12_mend 62 = .ok (.getfield 7, 3) := bdX12_mend_34.2.2.2.2.2.2.2.2.2.2.2.2.2.2.2
theorem bdX12_mend_65 : (decode cX12_mend 65 = .ok (.bipush 7, 2)) ∧ (decode cX12_mend 67 = .ok (.iaload, 1)) ∧ (decode cX12_mend 68 = .ok (.imul, 1)) ∧ (decode cX12_mend 69 = .ok (.iadd, 1)) ∧ (decode cX12_mend 70 = .ok (.istore 5, 2)) ∧ (decode cX12_mend 72 = .ok (.aload_n 0, 1)) ∧ (decode cX12_mend 73 = .ok (.getfield 7, 3)) ∧ (decode cX12_mend 76 = .ok (.iload 5, 2)) ∧ (decode cX12_mend 78 = .ok (.iload_n 1, 1)) ∧ (decode cX12_mend 79 = .ok (.iastore, 1)) ∧ (decode cX12_mend 80 = .ok (.aload_n 0, 1)) ∧ (decode cX12_mend 81 = .ok (.getfield 7, 3)) ∧ (decode cX12_mend 84 = .ok (.iload 5, 2)) ∧ (decode cX12_mend 86 = .ok (.iconst 1, 1)) ∧ (decode cX12_mend 87 = .ok (.iadd, 1)) ∧ (decode cX12_mend 88 = .ok (.iload_n 2, 1)) := by decide +kernel
theorem dX12_mend_65 : decode cX12_mend 65 = .ok (.bipush 7, 2) := bdX12_mend_65.1
theorem dX12_mend_67 : decode cX12_mend 67 = .ok (.iaload, 1) := bdX12_mend_65.2.1
theorem dX12_mend_68 : decode cX12_mend 68 = .ok (.imul, 1) := bdX12_mend_65.2.2.1
theorem dX12_mend_69 : decode cX12_mend 69 = .ok (.iadd, 1) := bdX12_mend_65.2.2.2.1
theorem dX12_mend_70 : decode cX12_mend 70 = .ok (.istore 5, 2) := bdX12_mend_65.2.2.2.2.1
theorem dX12_mend_72 : decode cX12_mend 72 = .ok (.aload_n 0, 1) := bdX12_mend_65.2.2.2.2.2.1
theorem dX12_mend_73 : decode cX12_mend 73 = .ok (.getfield 7, 3) := bdX12_mend_65.2.2.2.2.2.2.1
theorem dX12_mend_76 : decode cX12_mend 76 = .ok (.iload 5, 2) := bdX12_mend_65.2.2.2.2.2.2.2.1
theorem dX12_mend_78 : decode cX12_mend 78 = .ok (.iload_n 1, 1) := bdX12_mend_65.2.2.2.2.2.2.2.2.1
theorem dX12_mend_79 : decode cX12_mend 79 = .ok (.iastore, 1) := bdX12_mend_65.2.2.2.2.2.2.2.2.2.1
theorem dX12_mend_80 : decode cX12_mend 80 = .ok (.aload_n 0, 1) := bdX12_mend_65.2.2.2.2.2.2.2.2.2.2.1
theorem dX12_mend_81 : decode cX12_mend 81 = .ok (.getfield 7, 3) := bdX12_mend_65.2.2.2.2.2.2.2.2.2.2.2.1
theorem dX12_mend_84 : decode cX12_mend 84 = .ok (.iload 5, 2) := bdX12_mend_65.2.2.2.2.2.2.2.2.2.2.2.2.1
theorem dX12_mend_86 : decode cX12_mend 86 = .ok (.iconst 1, 1) := bdX12_mend_65.2.2.2.2.2.2.2.2.2.2.2.2.2.1
theorem dX12_mend_87 : decode cX12_mend 87 = .ok (.iadd, 1) := bdX12_mend_65.2.2.2.2.2.2.2.2.2.2.2.2.2.2.1
theorem dX12_mend_88 : decode cX12_mend 88 = .ok (.iload_n 2, 1) := bdX12_mend_65.2.2.2.2.2.2.2.2.2.2.2.2.2.2.2
theorem bdX12_mend_89 : (decode cX12_mend 89 = .ok (.iastore, 1)) ∧ (decode cX12_mend 90 = .ok (.aload_n 0, 1)) ∧ (decode cX12_mend 91 = .ok (.getfield 7, 3)) ∧ (decode cX12_mend 94 = .ok (.iload 5, 2)) ∧ (decode cX12_mend 96 = .ok (.iconst 2, 1)) ∧ (decode cX12_mend 97 = .ok (.iadd, 1)) ∧ (decode cX12_mend 98 = .ok (.iload_n 3, 1)) ∧ (decode cX12_mend 99 = .ok (.iastore, 1)) ∧ (decode cX12_mend 100 = .ok (.aload_n 0, 1)) ∧ (decode cX12_mend 101 = .ok (.getfield 7, 3)) ∧ (decode cX12_mend 104 = .ok (.iload 5, 2)) ∧ (decode cX12_mend 106 = .ok (.iconst 3, 1)) ∧ (decode cX12_mend 107 = .ok (.iadd, 1)) ∧ (decode cX12_mend 108 = .ok (.iload 4, 2)) ∧ (decode cX12_mend 110 = .ok (.iastore, 1)) ∧ (decode cX12_mend 111 = .ok (.aload_n 0, 1)) := by decide +kernel
theorem dX12_mend_89 : decode cX12_mend 89 = .ok (.iastore, 1) := bdX12_mend_89.1
theorem dX12_mend_90 : decode cX12_mend 90 = .ok (.aload_n 0, 1) := bdX12_mend_89.2.1
theorem dX12_mend_91 : decode cX12_mend 91 = .ok (.getfield 7, 3) := bdX12_mend_89.2.2.1
theorem dX12_mend_94 : decode cX12_mend 94 = .ok (.iload 5, 2) := bdX12_mend_89.2.2.2.1
theorem dX12_mend_96 : decode cX12_mend 96 = .ok (.iconst 2, 1) := bdX12_mend_89.2.2.2.2.1
theorem dX12_mend_97 : decode cX12_mend 97 = .ok (.iadd, 1) := bdX12_mend_89.2.2.2.2.2.1
theorem dX12_mend_98 : decode cX12_mend 98 = .ok (.iload_n 3, 1) := bdX12_mend_89.2.2.2.2.2.2.1
theorem dX12_mend_99 : decode cX12_mend 99 = .ok (.iastore, 1) := bdX12_mend_89.2.2.2.2.2.2.2.1
theorem dX12_mend_100 : decode cX12_mend 100 = .ok (.aload_n 0, 1) := bdX12_mend_89.2.2.2.2.2.2.2.2.1
theorem dX12_mend_101 : decode cX12_mend 101 = .ok (.getfield 7, 3) := bdX12_mend_89.2.2.2.2.2.2.2.2.2.1
theorem dX12_mend_104 : decode cX12_mend 104 = .ok (.iload 5, 2) := bdX12_mend_89.2.2.2.2.2.2.2.2.2.2.1
theorem dX12_mend_106 : decode cX12_mend 106 = .ok (.iconst 3, 1) := bdX12_mend_89.2.2.2.2.2.2.2.2.2.2.2.1
theorem dX12_mend_107 : decode cX12_mend 107 = .ok (.iadd, 1) := bdX12_mend_89.2.2.2.2.2.2.2.2.2.2.2.2.1
theorem dX12_mend_108 : decode cX12_mend 108 = .ok (.iload 4, 2) := bdX12_mend_89.2.2.2.2.2.2.2.2.2.2.2.2.2.1
theorem dX12_mend_110 : decode cX12_mend 110 = .ok (.iastore, 1) := bdX12_mend_89.2.2.2.2.2.2.2.2.2.2.2.2.2.2.1
theorem dX12_mend_111 : decode cX12_mend 111 = .ok (.aload_n 0, 1) := bdX12_mend_89.2.2.2.2.2.2.2.2.2.2.2.2.2.2.2
theorem bdX12_mend_112 : (decode cX12_mend 112 = .ok (.getfield 7, 3)) ∧ (decode cX12_mend 115 = .ok (.bipush 7, 2)) ∧ (decode cX12_mend 117 = .ok (.dup2, 1)) ∧ (decode cX12_mend 118 = .ok (.iaload, 1)) ∧ (decode cX12_mend 119 = .ok (.iconst 1, 1)) ∧ (decode cX12_mend 120 = .ok (.iadd, 1)) ∧ (decode cX12_mend 121 = .ok (.iastore, 1)) ∧ (decode cX12_mend 122 = .ok (.aload_n 0, 1)) ∧ (decode cX12_mend 123 = .ok (.getfield 7, 3)) ∧ (decode cX12_mend 126 = .ok (.bipush 7, 2)) ∧ (decode cX12_mend 128 = .ok (.iaload, 1)) ∧ (decode cX12_mend 129 = .ok (.iconst 1, 1)) ∧ (decode cX12_mend 130 = .ok (.isub, 1)) ∧ (decode cX12_mend 131 = .ok (.ireturn, 1)) := by decide +kernel
theorem dX12_mend_112 : decode cX12_mend 112 = .ok (.getfield 7, 3) := bdX12_mend_112.1
theorem dX12_mend_115 : decode cX12_mend 115 = .ok (.bipush 7, 2) := bdX12_mend_112.2.1
theorem dX12_mend_117 : decode cX12_mend 117 = .ok (.dup2, 1) := bdX12_mend_112.2.2.1
theorem dX12_mend_118 : decode cX12_mend 118 = .ok (.iaload, 1) := bdX12_mend_112.2.2.2.1
theorem dX12_mend_119 : decode cX12_mend 119 = .ok (.iconst 1, 1) := bdX12_mend_112.2.2.2.2.1
theorem dX12_mend_120 : decode cX12_mend 120 = .ok (.iadd, 1) := bdX12_mend_112.2.2.2.2.2.1
theorem dX12_mend_121 : decode cX12_mend 121 = .ok (.iastore, 1) := bdX12_mend_112.2.2.2.2.2.2.1
theorem dX12_mend_122 : decode cX12_mend 122 = .ok (.aload_n 0, 1) := bdX12_mend_112.2.2.2.2.2.2.2.1
theorem dX12_mend_123 : decode cX12_mend 123 = .ok (.getfield 7, 3) := bdX12_mend_112.2.2.2.2.2.2.2.2.1
theorem dX12_mend_126 : decode cX12_mend 126 = .ok (.bipush 7, 2) := bdX12_mend_112.2.2.2.2.2.2.2.2.2.1
theorem dX12_mend_128 : decode cX12_mend 128 = .ok (.iaload, 1) := bdX12_mend_112.2.2.2.2.2.2.2.2.2.2.1
theorem dX12_mend_129 : decode cX12_mend 129 = .ok (.iconst 1, 1) := bdX12_mend_112.2.2.2.2.2.2.2.2.2.2.2.1
theorem dX12_mend_130 : decode cX12_mend 130 = .ok (.isub, 1) := bdX12_mend_112.2.2.2.2.2.2.2.2.2.2.2.2.1
theorem dX12_mend_131 : decode cX12_mend 131 = .ok (.ireturn, 1) := bdX12_mend_112.2.2.2.2.2.2.2.2.2.2.2.2.2
theorem bdX5_countBy_0 : (decode cX5_countBy 0 = .ok (.iload_n 1, 1)) ∧ (decode cX5_countBy 1 = .ok (.iconst 1, 1)) ∧ (decode cX5_countBy 2 = .ok (.iload_n 2, 1)) ∧ (decode cX5_countBy 3 = .ok (.ishl, 1)) ∧ (decode cX5_countBy 4 = .ok (.ior, 1)) ∧ (decode cX5_countBy 5 = .ok (.istore_n 3, 1)) ∧ (decode cX5_countBy 6 = .ok (.iload_n 2, 1)) ∧ (decode cX5_countBy 7 = .ok (.ifCond .lt 22, 3)) ∧ (decode cX5_countBy 10 = .ok (.iload_n 2, 1)) ∧ (decode cX5_countBy 11 = .ok (.bipush 6, 2)) ∧ (decode cX5_countBy 13 = .ok (.if_icmp .ge 16, 3)) ∧ (decode cX5_countBy 16 = .ok (.iload_n 3, 1)) ∧ (decode cX5_countBy 17 = .ok (.ifCond .lt 12, 3)) ∧ (decode cX5_countBy 20 = .ok (.iload_n 3, 1)) ∧ (decode cX5_countBy 21 = .ok (.aload_n 0, 1)) ∧ (decode cX5_countBy 22 = .ok (.getfield 24, 3)) := by decide +kernel
theorem dX5_countBy_0 : decode cX5_countBy 0 = .ok (.iload_n 1, 1) := bdX5_countBy_0.1
theorem dX5_countBy_1 : decode cX5_countBy 1 = .ok (.iconst 1, 1) := bdX5_countBy_0.2.1
theorem dX5_countBy_2 : decode cX5_countBy 2 = .ok (.iload_n 2, 1) := bdX5_countBy_0.2.2.1
theorem dX5_countBy_3 : decode cX5_countBy 3 = .ok (.ishl, 1) := bdX5_countBy_0.2.2.2.1
theorem dX5_countBy_4 : decode cX5_countBy 4 = .ok (.ior, 1) := bdX5_countBy_0.2.2.2.2.1
theorem dX5_countBy_5 : decode cX5_countBy 5 = .ok (.istore_n 3, 1) := bdX5_countBy_0.2.2.2.2.2.1
theorem dX5_countBy_6 : decode cX5_countBy 6 = .ok (.iload_n 2, 1) := bdX5_countBy_0.2.2.2.2.2.2.1
theorem dX5_countBy_7 : decode cX5_countBy 7 = .ok (.ifCond .lt 22, 3) := bdX5_countBy_0.2.2.2.2.2.2.2.1
theorem dX5_countBy_10 : decode cX5_countBy 10 = .ok (.iload_n 2, 1) := bdX5_countBy_0.2.2.2.2.2.2.2.2.1
theorem dX5_countBy_11 : decode cX5_countBy 11 = .ok (.bipush 6, 2) := bdX5_countBy_0.2.2.2.2.2.2.2.2.2.1
theorem dX5_countBy_13 : decode cX5_countBy 13 = .ok (.if_icmp .ge 16, 3) := bdX5_countBy_0.2.2.2.2.2.2.2.2.2.2.1
theorem dX5_countBy_16 : decode cX5_countBy 16 = .ok (.iload_n 3, 1) := bdX5_countBy_0.2.2.2.2.2.2.2.2.2.2.2.1
theorem dX5_countBy_17 : decode cX5_countBy 17 = .ok (.ifCond .lt 12, 3) := bdX5_countBy_0.2.2.2.2.2.2.2.2.2.2.2.2.1
theorem dX5_countBy_20 : decode cX5_countBy 20 = .ok (.iload_n 3, 1) := bdX5_countBy_0.2.2.2.2.2.2.2.2.2.2.2.2.2.1
theorem dX5_countBy_21 : decode cX5_countBy 21 = .ok (.aload_n 0, 1) := bdX5_countBy_0.2.2.2.2.2.2.2.2.2.2.2.2.2.2.1
theorem dX5_countBy_22 : decode cX5_countBy 22 = .ok (.getfield 24, 3) := bdX5_countBy_0.2.2.2.2.2.2.2.2.2.2.2.2.2.2.2
theorem bdX5_countBy_25 : (decode cX5_countBy 25 = .ok (.arraylength, 1)) ∧ (decode cX5_countBy 26 = .ok (.if_icmp .lt 5, 3)) ∧ (decode cX5_countBy 29 = .ok (.iconst 0, 1)) ∧ (decode cX5_countBy 30 = .ok (.ireturn, 1)) ∧ (decode cX5_countBy 31 = .ok (.iconst 0, 1)) ∧ (decode cX5_countBy 32 = .ok (.istore 4, 2)) ∧ (decode cX5_countBy 34 = .ok (.iconst 0, 1)) ∧ (decode cX5_countBy 35 = .ok (.istore 5, 2)) ∧ (decode cX5_countBy 37 = .ok (.iload 5, 2)) ∧ (decode cX5_countBy 39 = .ok (.bipush 6, 2)) ∧ (decode cX5_countBy 41 = .ok (.if_icmp .ge 35, 3)) ∧ (decode cX5_countBy 44 = .ok (.iload 4, 2)) ∧ (decode cX5_countBy 46 = .ok (.iload_n 1, 1)) ∧ (decode cX5_countBy 47 = .ok (.iload 5, 2)) ∧ (decode cX5_countBy 49 = .ok (.ishr, 1)) ∧ (decode cX5_countBy 50 = .ok (.iconst 1, 1)) := by decide +kernel
theorem dX5_countBy_25 : decode cX5_countBy 25 = .ok (.arraylength, 1) := bdX5_countBy_25.1
theorem dX5_countBy_26 : decode cX5_countBy 26 = .ok (.if_icmp .lt 5, 3) := bdX5_countBy_25.2.1
theorem dX5_countBy_29 : decode cX5_countBy 29 = .ok (.iconst 0, 1) := bdX5_countBy_25.2.2.1
theorem dX5_countBy_30 : decode cX5_countBy 30 = .ok (.ireturn, 1) := bdX5_countBy_25.2.2.2.1
theorem dX5_countBy_31 : decode cX5_countBy 31 = .ok (.iconst 0, 1) := bdX5_countBy_25.2.2.2.2.1
theorem dX5_countBy_32 : decode cX5_countBy 32 = .ok (.istore 4, 2) := bdX5_countBy_25.2.2.2.2.2.1
theorem dX5_countBy_34 : decode cX5_countBy 34 = .ok (.iconst 0, 1) := bdX5_countBy_25.2.2.2.2.2.2.1
theorem dX5_countBy_35 : decode cX5_countBy 35 = .ok (.istore 5, 2) := bdX5_countBy_25.2.2.2.2.2.2.2.1
theorem dX5_countBy_37 : decode cX5_countBy 37 = .ok (.iload 5, 2) := bdX5_countBy_25.2.2.2.2.2.2.2.2.1
theorem dX5_countBy_39 : decode cX5_countBy 39 = .ok (.bipush 6, 2) := bdX5_countBy_25.2.2.2.2.2.2.2.2.2.1
theorem dX5_countBy_41 : decode cX5_countBy 41 = .ok (.if_icmp .ge 35, 3) := bdX5_countBy_25.2.2.2.2.2.2.2.2.2.2.1
theorem dX5_countBy_44 : decode cX5_countBy 44 = .ok (.iload 4, 2) := bdX5_countBy_25.2.2.2.2.2.2.2.2.2.2.2.1
theorem dX5_countBy_46 : decode cX5_countBy 46 = .ok (.iload_n 1, 1) := bdX5_countBy_25.2.2.2.2.2.2.2.2.2.2.2.2.1
theorem dX5_countBy_47 : decode cX5_countBy 47 = .ok (.iload 5, 2) := bdX5_countBy_25.2.2.2.2.2.2.2.2.2.2.2.2.2.1
theorem dX5_countBy_49 : decode cX5_countBy 49 = .ok (.ishr, 1) := bdX5_countBy_25.2.2.2.2.2.2.2.2.2.2.2.2.2.2.1
theorem dX5_countBy_50 : decode cX5_countBy 50 = .ok (.iconst 1, 1) := bdX5_countBy_25.2.2.2.2.2.2.2.2.2.2.2.2.2.2.2
theorem bdX5_countBy_51 : (decode cX5_countBy 51 = .ok (.iand, 1)) ∧ (decode cX5_countBy 52 = .ok (.iconst 1, 1)) ∧ (decode cX5_countBy 53 = .ok (.if_icmp .ne 13, 3)) ∧ (decode cX5_countBy 56 = .ok (.aload_n 0, 1)) ∧ (decode cX5_countBy 57 = .ok (.getfield 21, 3)) ∧ (decode cX5_countBy 60 = .ok (.iload 5, 2)) ∧ (decode cX5_countBy 62 = .ok (.iaload, 1)) ∧ (decode cX5_countBy 63 = .ok (.goto 4, 3)) ∧ (decode cX5_countBy 66 = .ok (.iconst 0, 1)) ∧ (decode cX5_countBy 67 = .ok (.iadd, 1)) ∧ (decode cX5_countBy 68 = .ok (.istore 4, 2)) ∧ (decode cX5_countBy 70 = .ok (.iinc 5 1, 3)) ∧ (decode cX5_countBy 73 = .ok (.goto (-36), 3)) ∧ (decode cX5_countBy 76 = .ok (.aload_n 0, 1)) ∧ (decode cX5_countBy 77 = .ok (.getfield 24, 3)) ∧ (decode cX5_countBy 80 = .ok (.iload_n 3, 1)) := by decide +kernel
theorem dX5_countBy_51 : decode cX5_countBy 51 = .ok (.iand, 1) := bdX5_countBy_51.1
theorem dX5_countBy_52 : decode cX5_countBy 52 = .ok (.iconst 1, 1) := bdX5_countBy_51.2.1
theorem dX5_countBy_53 : decode cX5_countBy 53 = .ok (.if_icmp .ne 13, 3) := bdX5_countBy_51.2.2.1
theorem dX5_countBy_56 : decode cX5_countBy 56 = .ok (.aload_n 0, 1) := bdX5_countBy_51.2.2.2.1
theorem dX5_countBy_57 : decode cX5_countBy 57 = .ok (.getfield 21, 3) := bdX5_countBy_51.2.2.2.2.1
theorem dX5_countBy_60 : decode cX5_countBy 60 = .ok (.iload 5, 2) := bdX5_countBy_51.2.2.2.2.2.1
theorem dX5_countBy_62 : decode cX5_countBy 62 = .ok (.iaload, 1) := bdX5_countBy_51.2.2.2.2.2.2.1
theorem dX5_countBy_63 : decode cX5_countBy 63 = .ok (.goto 4, 3) := bdX5_countBy_51.2.2.2.2.2.2.2.1
theorem dX5_countBy_66 : decode cX5_countBy 66 = .ok (.iconst 0, 1) := bdX5_countBy_51.2.2.2.2.2.2.2.2.1
theorem dX5_countBy_67 : decode cX5_countBy 67 = .ok (.iadd, 1) := bdX5_countBy_51.2.2.2.2.2.2.2.2.2.1
theorem dX5_countBy_68 : decode cX5_countBy 68 = .ok (.istore 4, 2) := bdX5_countBy_51.2.2.2.2.2.2.2.2.2.2.1
theorem dX5_countBy_70 : decode cX5_countBy 70 = .ok (.iinc 5 1, 3) := bdX5_countBy_51.2.2.2.2.2.2.2.2.2.2.2.1
theorem dX5_countBy_73 : decode cX5_countBy 73 = .ok (.goto (-36), 3) := bdX5_countBy_51.2.2.2.2.2.2.2.2.2.2.2.2.1
theorem dX5_countBy_76 : decode cX5_countBy 76 = .ok (.aload_n 0, 1) := bdX5_countBy_51.2.2.2.2.2.2.2.2.2.2.2.2.2.1
theorem dX5_countBy_77 : decode cX5_countBy 77 = .ok (.getfield 24, 3) := bdX5_countBy_51.2.2.2.2.2.2.2.2.2.2.2.2.2.2.1
theorem dX5_countBy_80 : decode cX5_countBy 80 = .ok (.iload_n 3, 1) := bdX5_countBy_51.2.2.2.2.2.2.2.2.2.2.2.2.2.2.2
theorem bdX5_countBy_81 : (decode cX5_countBy 81 = .ok (.iaload, 1)) ∧ (decode cX5_countBy 82 = .ok (.istore 5, 2)) ∧ (decode cX5_countBy 84 = .ok (.iconst 0, 1)) ∧ (decode cX5_countBy 85 = .ok (.istore 6, 2)) ∧ (decode cX5_countBy 87 = .ok (.iload 6, 2)) ∧ (decode cX5_countBy 89 = .ok (.aload_n 0, 1)) ∧ (decode cX5_countBy 90 = .ok (.getfield 27, 3)) ∧ (decode cX5_countBy 93 = .ok (.if_icmp .ge 80, 3)) ∧ (decode cX5_countBy 96 = .ok (.iload 6, 2)) ∧ (decode cX5_countBy 98 = .ok (.bipush 6, 2)) ∧ (decode cX5_countBy 100 = .ok (.if_icmp .ge 73, 3)) ∧ (decode cX5_countBy 103 = .ok (.iload 4, 2)) ∧ (decode cX5_countBy 105 = .ok (.istore 7, 2)) ∧ (decode cX5_countBy 107 = .ok (.iload 7, 2)) ∧ (decode cX5_countBy 109 = .ok (.iload 4, 2)) ∧ (decode cX5_countBy 111 = .ok (.aload_n 0, 1)) := by decide +kernel
theorem dX5_countBy_81 : decode cX5_countBy 81 = .ok (.iaload, 1) := bdX5_countBy_81.1
theorem dX5_countBy_82 : decode cX5_countBy 82 = .ok (.istore 5, 2) := bdX5_countBy_81.2.1
theorem dX5_countBy_84 : decode cX5_countBy 84 = .ok (.iconst 0, 1) := bdX5_countBy_81.2.2.1
theorem dX5_countBy_85 : decode cX5_countBy 85 = .ok (.istore 6, 2) := bdX5_countBy_81.2.2.2.1
theorem dX5_countBy_87 : decode cX5_countBy 87 = .ok (.iload 6, 2) := bdX5_countBy_81.2.2.2.2.1
theorem dX5_countBy_89 : decode cX5_countBy 89 = .ok (.aload_n 0, 1) := bdX5_countBy_81.2.2.2.2.2.1
theorem dX5_countBy_90 : decode cX5_countBy 90 = .ok (.getfield 27, 3) := bdX5_countBy_81.2.2.2.2.2.2.1
theorem dX5_countBy_93 : decode cX5_countBy 93 = .ok (.if_icmp .ge 80, 3) := bdX5_countBy_81.2.2.2.2.2.2.2.1
theorem dX5_countBy_96 : decode cX5_countBy 96 = .ok (.iload 6, 2) := bdX5_countBy_81.2.2.2.2.2.2.2.2.1
theorem dX5_countBy_98 : decode cX5_countBy 98 = .ok (.bipush 6, 2) := bdX5_countBy_81.2.2.2.2.2.2.2.2.2.1
theorem dX5_countBy_100 : decode cX5_countBy 100 = .ok (.if_icmp .ge 73, 3) := bdX5_countBy_81.2.2.2.2.2.2.2.2.2.2.1
theorem dX5_countBy_103 : decode cX5_countBy 103 = .ok (.iload 4, 2) := bdX5_countBy_81.2.2.2.2.2.2.2.2.2.2.2.1
theorem dX5_countBy_105 : decode cX5_countBy 105 = .ok (.istore 7, 2) := bdX5_countBy_81.2.2.2.2.2.2.2.2.2.2.2.2.1
theorem dX5_countBy_107 : decode cX5_countBy 107 = .ok (.iload 7, 2) := bdX5_countBy_81.2.2.2.2.2.2.2.2.2.2.2.2.2.1
theorem dX5_countBy_109 : decode cX5_countBy 109 = .ok (.iload 4, 2) := bdX5_countBy_81.2.2.2.2.2.2.2.2.2.2.2.2.2.2.1
theorem dX5_countBy_111 : decode cX5_countBy 111 = .ok (.aload_n 0, 1) := bdX5_countBy_81.2.2.2.2.2.2.2.2.2.2.2.2.2.2.2
theorem bdX5_countBy_112 : (decode cX5_countBy 112 = .ok (.getfield 21, 3)) ∧ (decode cX5_countBy 115 = .ok (.iload_n 2, 1)) ∧ (decode cX5_countBy 116 = .ok (.iaload, 1)) ∧ (decode cX5_countBy 117 = .ok (.iadd, 1)) ∧ (decode cX5_countBy 118 = .ok (.if_icmp .ge 49, 3)) ∧ (decode cX5_countBy 121 = .ok (.iload_n 3, 1)) ∧ (decode cX5_countBy 122 = .ok (.iload 6, 2)) ∧ (decode cX5_countBy 124 = .ok (.ishr, 1)) ∧ (decode cX5_countBy 125 = .ok (.iconst 1, 1)) ∧ (decode cX5_countBy 126 = .ok (.iand, 1)) ∧ (decode cX5_countBy 127 = .ok (.ifCond .ne 34, 3)) ∧ (decode cX5_countBy 130 = .ok (.aload_n 0, 1)) ∧ (decode cX5_countBy 131 = .ok (.getfield 11, 3)) ∧ (decode cX5_countBy 134 = .ok (.iload 6, 2)) ∧ (decode cX5_countBy 136 = .ok (.iaload, 1)) ∧ (decode cX5_countBy 137 = .ok (.aload_n 0, 1)) := by decide +kernel
theorem dX5_countBy_112 : decode cX5_countBy 112 = .ok (.getfield 21, 3) := bdX5_countBy_112.1
theorem dX5_countBy_115 : decode cX5_countBy 115 = .ok (.iload_n 2, 1) := bdX5_countBy_112.2.1
theorem dX5_countBy_116 : decode cX5_countBy 116 = .ok (.iaload, 1) := bdX5_countBy_112.2.2.1
theorem dX5_countBy_117 : decode cX5_countBy 117 = .ok (.iadd, 1) := bdX5_countBy_112.2.2.2.1
theorem dX5_countBy_118 : decode cX5_countBy 118 = .ok (.if_icmp .ge 49, 3) := bdX5_countBy_112.2.2.2.2.1
theorem dX5_countBy_121 : decode cX5_countBy 121 = .ok (.iload_n 3, 1) := bdX5_countBy_112.2.2.2.2.2.1
theorem dX5_countBy_122 : decode cX5_countBy 122 = .ok (.iload 6, 2) := bdX5_countBy_112.2.2.2.2.2.2.1
theorem dX5_countBy_124 : decode cX5_countBy 124 = .ok (.ishr, 1) := bdX5_countBy_112.2.2.2.2.2.2.2.1
theorem dX5_countBy_125 : decode cX5_countBy 125 = .ok (.iconst 1, 1) := bdX5_countBy_112.2.2.2.2.2.2.2.2.1
theorem dX5_countBy_126 : decode cX5_countBy 126 = .ok (.iand, 1) := bdX5_countBy_112.2.2.2.2.2.2.2.2.2.1
theorem dX5_countBy_127 : decode cX5_countBy 127 = .ok (.ifCond .ne 34, 3) := bdX5_countBy_112.2.2.2.2.2.2.2.2.2.2.1
theorem dX5_countBy_130 : decode cX5_countBy 130 = .ok (.aload_n 0, 1) := bdX5_countBy_112.2.2.2.2.2.2.2.2.2.2.2.1
theorem dX5_countBy_131 : decode cX5_countBy 131 = .ok (.getfield 11, 3) := bdX5_countBy_112.2.2.2.2.2.2.2.2.2.2.2.2.1
theorem dX5_countBy_134 : decode cX5_countBy 134 = .ok (.iload 6, 2) := bdX5_countBy_112.2.2.2.2.2.2.2.2.2.2.2.2.2.1
theorem dX5_countBy_136 : decode cX5_countBy 136 = .ok (.iaload, 1) := bdX5_countBy_112.2.2.2.2.2.2.2.2.2.2.2.2.2.2.1
theorem dX5_countBy_137 : decode cX5_countBy 137 = .ok (.aload_n 0, 1) := bdX5_countBy_112.2.2.2.2.2.2.2.2.2.2.2.2.2.2.2
theorem bdX5_countBy_138 : (decode cX5_countBy 138 = .ok (.getfield 15, 3)) ∧ (decode cX5_countBy 141 = .ok (.iload 6, 2)) ∧ (decode cX5_countBy 143 = .ok (.iaload, 1)) ∧ (decode cX5_countBy 144 = .ok (.iload 7, 2)) ∧ (decode cX5_countBy 146 = .ok (.imul, 1)) ∧ (decode cX5_countBy 147 = .ok (.iadd, 1)) ∧ (decode cX5_countBy 148 = .ok (.aload_n 0, 1)) ∧ (decode cX5_countBy 149 = .ok (.getfield 18, 3)) ∧ (decode cX5_countBy 152 = .ok (.iload 6, 2)) ∧ (decode cX5_countBy 154 = .ok (.iaload, 1)) ∧ (decode cX5_countBy 155 = .ok (.if_icmp .le 6, 3)) ∧ (decode cX5_countBy 158 = .ok (.iinc 5 1, 3)) ∧ (decode cX5_countBy 161 = .ok (.iinc 7 1, 3)) ∧ (decode cX5_countBy 164 = .ok (.goto (-57), 3)) ∧ (decode cX5_countBy 167 = .ok (.iinc 6 1, 3)) ∧ (decode cX5_countBy 170 = .ok (.goto (-83), 3)) := by decide +kernel
theorem dX5_countBy_138 : decode cX5_countBy 138 = .ok (.getfield 15, 3) := bdX5_countBy_138.1
theorem dX5_countBy_141 : decode cX5_countBy 141 = .ok (.iload 6, 2) := bdX5_countBy_138.2.1
theorem dX5_countBy_143 : decode cX5_countBy 143 = .ok (.iaload, 1) := bdX5_countBy_138.2.2.1
theorem dX5_countBy_144 : decode cX5_countBy 144 = .ok (.iload 7, 2) := bdX5_countBy_138.2.2.2.1
theorem dX5_countBy_146 : decode cX5_countBy 146 = .ok (.imul, 1) := bdX5_countBy_138.2.2.2.2.1
theorem dX5_countBy_147 : decode cX5_countBy 147 = .ok (.iadd, 1) := bdX5_countBy_138.2.2.2.2.2.1
theorem dX5_countBy_148 : decode cX5_countBy 148 = .ok (.aload_n 0, 1) := bdX5_countBy_138.2.2.2.2.2.2.1
theorem dX5_countBy_149 : decode cX5_countBy 149 = .ok (.getfield 18, 3) := bdX5_countBy_138.2.2.2.2.2.2.2.1
theorem dX5_countBy_152 : decode cX5_countBy 152 = .ok (.iload 6, 2) := bdX5_countBy_138.2.2.2.2.2.2.2.2.1
theorem dX5_countBy_154 : decode cX5_countBy 154 = .ok (.iaload, 1) := bdX5_countBy_138.2.2.2.2.2.2.2.2.2.1
theorem dX5_countBy_155 : decode cX5_countBy 155 = .ok (.if_icmp .le 6, 3) := bdX5_countBy_138.2.2.2.2.2.2.2.2.2.2.1
theorem dX5_countBy_158 : decode cX5_countBy 158 = .ok (.iinc 5 1, 3) := bdX5_countBy_138.2.2.2.2.2.2.2.2.2.2.2.1
theorem dX5_countBy_161 : decode cX5_countBy 161 = .ok (.iinc 7 1, 3) := bdX5_countBy_138.2.2.2.2.2.2.2.2.2.2.2.2.1
theorem dX5_countBy_164 : decode cX5_countBy 164 = .ok (.goto (-57), 3) := bdX5_countBy_138.2.2.2.2.2.2.2.2.2.2.2.2.2.1
theorem dX5_countBy_167 : decode cX5_countBy 167 = .ok (.iinc 6 1, 3) := bdX5_countBy_138.2.2.2.2.2.2.2.2.2.2.2.2.2.2.1
theorem dX5_countBy_170 : decode cX5_countBy 170 = .ok (.goto (-83), 3) := bdX5_countBy_138.2.2.2.2.2.2.2.2.2.2.2.2.2.2.2
theorem dX5_countBy_173 : decode cX5_countBy 173 = .ok (.iload 5, 2) := by decide +kernel
theorem dX5_countBy_175 : decode cX5_countBy 175 = .ok (.ireturn, 1) := by decide +kernel
def fX12_day_32 (a0 : Nat) (a1 : Int32) (a2 : Int32) (a3 : Int32) (m : xMem) : Option (Int32 × xMem) := some ((-1 : Int32), m)
set_option maxRecDepth 4000 in
theorem fX12_day_32_ok {a0 : Nat} {a1 : Int32} {a2 : Int32} {a3 : Int32} {d : Nat} (hd : 1 ≤ d) (ha0 : isModel a0) {o4 : Option Value} {m : xMem} {r : (Int32 × xMem)} (q4 : xNoD o4 = true) (h : fX12_day_32 a0 a1 a2 a3 m = some r) : xFx hh_238 cX12_day d 32 [some (.ref a0), some (.int a1), some (.int a2), some (.int a3), o4] [] (xLay m) 0 0 (some (.int r.1)) (xLay r.2) := by
  unfold fX12_day_32 at h
  refine fx_iconst (x := -1) dX12_day_32 rfl (by decide) ?_
  cases h
  exact fx_ireturn dX12_day_33 rfl rfl
def fX12_day_64 (a0 : Nat) (a1 : Int32) (a2 : Int32) (a3 : Int32) (l4 : Int32) (s0 : Nat) (s1 : Int32) (s2 : Int32) (m : xMem) : Option (Int32 × xMem) := bif xIn s1 1610 then xLet (xPut m s0 s1.toNatClampNeg s2) fun m1 => xLet (l4 + (1 : Int32)) fun x3 => bif xIn x3 1610 then xLet (xPut m1 (a0 + 1) x3.toNatClampNeg a2) fun m4 => xLet (l4 + (2 : Int32)) fun x6 => bif xIn x6 1610 then xLet (xPut m4 (a0 + 1) x6.toNatClampNeg a3) fun m7 => bif xIn (6 : Int32) 1610 then xLet (m7.1 (a0 + 1) (6 : Int32).toNatClampNeg) fun x9 => xLet (x9 + (1 : Int32)) fun x11 => bif xIn (6 : Int32) 1610 then xLet (xPut m7 (a0 + 1) (6 : Int32).toNatClampNeg x11) fun m12 => bif xIn (6 : Int32) 1610 then xLet (m12.1 (a0 + 1) (6 : Int32).toNatClampNeg) fun x14 => some (x14, m12) else none else none else none else none else none else none
set_option maxRecDepth 4000 in
theorem fX12_day_64_ok {a0 : Nat} {a1 : Int32} {a2 : Int32} {a3 : Int32} {d : Nat} (hd : 1 ≤ d) (ha0 : isModel a0) {l4 : Int32} {s0 : Nat} {s1 : Int32} {s2 : Int32} {m : xMem} {r : (Int32 × xMem)} (hs0 : xTmL[s0]? = some (101, 1610, [])) (h : fX12_day_64 a0 a1 a2 a3 l4 s0 s1 s2 m = some r) : xFx hh_238 cX12_day d 64 [some (.ref a0), some (.int a1), some (.int a2), some (.int a3), some (.int l4)] [.int s2, .int s1, .ref s0] (xLay m) 0 0 (some (.int r.1)) (xLay r.2) := by
  unfold fX12_day_64 at h
  obtain ⟨hj2, h⟩ := xChk_el h
  obtain ⟨m1, hm1, h⟩ := xLet_el h
  refine gx_iastore dX12_day_64 rfl hs0 hj2 hm1 ?_
  refine fx_aload_n dX12_day_65 rfl rfl ?_
  refine gx_getr dX12_day_66 rfl fd_12_7 ha0.1 rfl rfl ?_
  refine fx_iload dX12_day_69 rfl rfl ?_
  refine fx_iconst (x := 1) dX12_day_71 rfl (by decide) ?_
  obtain ⟨x3, hx3, h⟩ := xLet_el h
  refine fx_iadd dX12_day_72 rfl hx3 ?_
  refine fx_iload_n dX12_day_73 rfl rfl ?_
  obtain ⟨hj5, h⟩ := xChk_el h
  obtain ⟨m4, hm4, h⟩ := xLet_el h
  refine gx_iastore dX12_day_74 rfl ha0.2.1 hj5 hm4 ?_
  refine fx_aload_n dX12_day_75 rfl rfl ?_
  refine gx_getr dX12_day_76 rfl fd_12_7 ha0.1 rfl rfl ?_
  refine fx_iload dX12_day_79 rfl rfl ?_
  refine fx_iconst (x := 2) dX12_day_81 rfl (by decide) ?_
  obtain ⟨x6, hx6, h⟩ := xLet_el h
  refine fx_iadd dX12_day_82 rfl hx6 ?_
  refine fx_iload_n dX12_day_83 rfl rfl ?_
  obtain ⟨hj8, h⟩ := xChk_el h
  obtain ⟨m7, hm7, h⟩ := xLet_el h
  refine gx_iastore dX12_day_84 rfl ha0.2.1 hj8 hm7 ?_
  refine fx_aload_n dX12_day_85 rfl rfl ?_
  refine gx_getr dX12_day_86 rfl fd_12_7 ha0.1 rfl rfl ?_
  refine fx_bipush (x := 6) dX12_day_89 rfl (by decide) ?_
  refine fx_dup2 dX12_day_91 rfl rfl ?_
  obtain ⟨hj10, h⟩ := xChk_el h
  obtain ⟨x9, hx9, h⟩ := xLet_el h
  refine gx_iaload dX12_day_92 rfl ha0.2.1 hj10 hx9 ?_
  refine fx_iconst (x := 1) dX12_day_93 rfl (by decide) ?_
  obtain ⟨x11, hx11, h⟩ := xLet_el h
  refine fx_iadd dX12_day_94 rfl hx11 ?_
  obtain ⟨hj13, h⟩ := xChk_el h
  obtain ⟨m12, hm12, h⟩ := xLet_el h
  refine gx_iastore dX12_day_95 rfl ha0.2.1 hj13 hm12 ?_
  refine fx_aload_n dX12_day_96 rfl rfl ?_
  refine gx_getr dX12_day_97 rfl fd_12_7 ha0.1 rfl rfl ?_
  refine fx_bipush (x := 6) dX12_day_100 rfl (by decide) ?_
  obtain ⟨hj15, h⟩ := xChk_el h
  obtain ⟨x14, hx14, h⟩ := xLet_el h
  refine gx_iaload dX12_day_102 rfl ha0.2.1 hj15 hx14 ?_
  cases h
  exact fx_ireturn dX12_day_103 rfl rfl
def fX12_day_0 (a0 : Nat) (a1 : Int32) (a2 : Int32) (a3 : Int32) (m : xMem) : Option (Int32 × xMem) := (fX12_in a2 (0 : Int32) (5 : Int32) m).bind fun p1 => if p1.1 = (0 : Int32) then fX12_day_32 a0 a1 a2 a3 p1.2 else (fX12_in a3 (0 : Int32) (9999 : Int32) p1.2).bind fun p3 => if p3.1 = (0 : Int32) then fX12_day_32 a0 a1 a2 a3 p3.2 else bif xIn (6 : Int32) 1610 then xLet (p3.2.1 (a0 + 1) (6 : Int32).toNatClampNeg) fun x5 => if ¬ x5 = (40 : Int32) then bif xIn (6 : Int32) 1610 then xLet (p3.2.1 (a0 + 1) (6 : Int32).toNatClampNeg) fun x8 => xLet ((3 : Int32) * x8) fun x10 => xLet ((1390 : Int32) + x10) fun x11 => if a1 = (0 : Int32) then fX12_day_64 a0 a1 a2 a3 x11 (a0 + 1) x11 (0 : Int32) p3.2 else fX12_day_64 a0 a1 a2 a3 x11 (a0 + 1) x11 (1 : Int32) p3.2 else none else fX12_day_32 a0 a1 a2 a3 p3.2 else none
set_option maxRecDepth 4000 in
theorem fX12_day_0_ok {a0 : Nat} {a1 : Int32} {a2 : Int32} {a3 : Int32} {d : Nat} (hd : 1 ≤ d) (ha0 : isModel a0) {o4 : Option Value} {m : xMem} {r : (Int32 × xMem)} (q4 : xNoD o4 = true) (h : fX12_day_0 a0 a1 a2 a3 m = some r) : xFx hh_238 cX12_day d 0 [some (.ref a0), some (.int a1), some (.int a2), some (.int a3), o4] [] (xLay m) 0 0 (some (.int r.1)) (xLay r.2) := by
  unfold fX12_day_0 at h
  refine fx_iload_n dX12_day_0 rfl rfl ?_
  refine fx_iconst (x := 0) dX12_day_1 rfl (by decide) ?_
  refine fx_iconst (x := 5) dX12_day_2 rfl (by decide) ?_
  obtain ⟨p1, ep1, h⟩ := xBind_el h
  refine gx_calls (as := [.int a2, .int (0 : Int32), .int (5 : Int32)]) (r := []) rfl dX12_day_3 ca_12_95 rfl me_18 rfl rfl rfl rfl (fX12_in_ok (d := d) (by omega) ep1) rfl rfl ?_
  refine fx_if_eq (t := 32) dX12_day_6 rfl rfl (fun hc2 => ?_) (fun hc2 => ?_)
  · rw [if_pos hc2] at h
    exact fX12_day_32_ok (o4 := o4) hd ha0 q4 h
  · rw [if_neg hc2] at h
    refine fx_iload_n dX12_day_9 rfl rfl ?_
    refine fx_iconst (x := 0) dX12_day_10 rfl (by decide) ?_
    refine fx_sipush (x := 9999) dX12_day_11 rfl (by decide) ?_
    obtain ⟨p3, ep3, h⟩ := xBind_el h
    refine gx_calls (as := [.int a3, .int (0 : Int32), .int (9999 : Int32)]) (r := []) rfl dX12_day_14 ca_12_95 rfl me_18 rfl rfl rfl rfl (fX12_in_ok (d := d) (by omega) ep3) rfl rfl ?_
    refine fx_if_eq (t := 32) dX12_day_17 rfl rfl (fun hc4 => ?_) (fun hc4 => ?_)
    · rw [if_pos hc4] at h
      exact fX12_day_32_ok (o4 := o4) hd ha0 q4 h
    · rw [if_neg hc4] at h
      refine fx_aload_n dX12_day_20 rfl rfl ?_
      refine gx_getr dX12_day_21 rfl fd_12_7 ha0.1 rfl rfl ?_
      refine fx_bipush (x := 6) dX12_day_24 rfl (by decide) ?_
      obtain ⟨hj6, h⟩ := xChk_el h
      obtain ⟨x5, hx5, h⟩ := xLet_el h
      refine gx_iaload dX12_day_26 rfl ha0.2.1 hj6 hx5 ?_
      refine fx_bipush (x := 40) dX12_day_27 rfl (by decide) ?_
      refine fx_icmp_ne (t := 34) dX12_day_29 rfl rfl (fun hc7 => ?_) (fun hc7 => ?_)
      · rw [if_pos hc7] at h
        refine fx_sipush (x := 1390) dX12_day_34 rfl (by decide) ?_
        refine fx_iconst (x := 3) dX12_day_37 rfl (by decide) ?_
        refine fx_aload_n dX12_day_38 rfl rfl ?_
        refine gx_getr dX12_day_39 rfl fd_12_7 ha0.1 rfl rfl ?_
        refine fx_bipush (x := 6) dX12_day_42 rfl (by decide) ?_
        obtain ⟨hj9, h⟩ := xChk_el h
        obtain ⟨x8, hx8, h⟩ := xLet_el h
        refine gx_iaload dX12_day_44 rfl ha0.2.1 hj9 hx8 ?_
        obtain ⟨x10, hx10, h⟩ := xLet_el h
        refine fx_imul dX12_day_45 rfl hx10 ?_
        obtain ⟨x11, hx11, h⟩ := xLet_el h
        refine fx_iadd dX12_day_46 rfl hx11 ?_
        refine fx_istore (ls2 := [some (.ref a0), some (.int a1), some (.int a2), some (.int a3), some (.int x11)]) dX12_day_47 rfl rfl rfl ?_
        refine fx_aload_n dX12_day_49 rfl rfl ?_
        refine gx_getr dX12_day_50 rfl fd_12_7 ha0.1 rfl rfl ?_
        refine fx_iload dX12_day_53 rfl rfl ?_
        refine fx_iload_n dX12_day_55 rfl rfl ?_
        refine fx_if_eq (t := 63) dX12_day_56 rfl rfl (fun hc12 => ?_) (fun hc12 => ?_)
        · rw [if_pos hc12] at h
          refine fx_iconst (x := 0) dX12_day_63 rfl (by decide) ?_
          exact fX12_day_64_ok hd ha0 ha0.2.1 h
        · rw [if_neg hc12] at h
          refine fx_iconst (x := 1) dX12_day_59 rfl (by decide) ?_
          refine fx_goto (t := 64) dX12_day_60 rfl rfl ?_
          exact fX12_day_64_ok hd ha0 ha0.2.1 h
      · rw [if_neg hc7] at h
        exact fX12_day_32_ok (o4 := o4) hd ha0 q4 h
def fX12_day (a0 : Nat) (a1 : Int32) (a2 : Int32) (a3 : Int32) (m : xMem) : Option (Int32 × xMem) := fX12_day_0 a0 a1 a2 a3  m
theorem fX12_day_ok {a0 : Nat} {a1 : Int32} {a2 : Int32} {a3 : Int32} {m : xMem} {r : (Int32 × xMem)} {d : Nat} (hd : 2 ≤ d) (ha0 : isModel a0) (h : fX12_day a0 a1 a2 a3 m = some r) : xEx d 238 [.ref a0, .int a1, .int a2, .int a3] (xLay m) (some (.int r.1)) (xLay r.2) := by
  obtain ⟨d, rfl⟩ : ∃ q, d = q + 1 := ⟨d - 1, by omega⟩
  exact xEx_of me_238 rfl (fX12_day_0_ok (d := d) (o4 := none) (by omega) ha0 rfl h)
def fX1_meanEffect_101 (a0 : Nat) (rec7 : Int64 → Int32 → Int32 → xMem → Option (Int32 × xMem)) (l1 : Int64) (l3 : Int32) (l4 : Int32) (m : xMem) : Option (Int32 × xMem) := xLet (l4 + (1 : Int32)) fun x1 => rec7 l1 l3 x1 m
set_option maxRecDepth 4000 in
theorem fX1_meanEffect_101_ok {a0 : Nat} {rec7 : Int64 → Int32 → Int32 → xMem → Option (Int32 × xMem)} {d : Nat} (hd : 0 ≤ d) (ha0 : isDays a0) (hrec7 : ∀ (l1 : Int64) (l3 : Int32) (l4 : Int32) (o5 : Option Value) (o6 : Option Value) (o7 : Option Value) (o8 : Option Value) (o9 : Option Value) (o10 : Option Value) (q5 : xNoD o5 = true) (q6 : xNoD o6 = true) (m : xMem) (r : (Int32 × xMem)), rec7 l1 l3 l4 m = some r → xFx hh_240 cX1_meanEffect d 7 [some (.ref a0), some (.long l1), none, some (.int l3), some (.int l4), o5, o6, o7, o8, o9, o10] [] (xLay m) 0 0 (some (.int r.1)) (xLay r.2)) {l1 : Int64} {l3 : Int32} {l4 : Int32} {o5 : Option Value} {o6 : Option Value} {o7 : Option Value} {o8 : Option Value} {o9 : Option Value} {o10 : Option Value} {m : xMem} {r : (Int32 × xMem)} (q5 : xNoD o5 = true) (q6 : xNoD o6 = true) (h : fX1_meanEffect_101 a0 rec7 l1 l3 l4 m = some r) : xFx hh_240 cX1_meanEffect d 101 [some (.ref a0), some (.long l1), none, some (.int l3), some (.int l4), o5, o6, o7, o8, o9, o10] [] (xLay m) 0 0 (some (.int r.1)) (xLay r.2) := by
  unfold fX1_meanEffect_101 at h
  obtain ⟨x1, hx1, h⟩ := xLet_el h
  refine fx_iinc (ls2 := [some (.ref a0), some (.long l1), none, some (.int l3), some (.int x1), o5, o6, o7, o8, o9, o10]) dX1_meanEffect_101 rfl rfl rfl hx1 rfl ?_
  refine fx_goto (t := 7) dX1_meanEffect_104 rfl rfl ?_
  exact hrec7 l1 l3 x1 (o5) (o6) (o7) (o8) (o9) (o10) q5 q6 m r h
def fX1_meanEffect_121 (a0 : Nat) (s0 : Int32) (m : xMem) : Option (Int32 × xMem) := some (s0, m)
set_option maxRecDepth 4000 in
theorem fX1_meanEffect_121_ok {a0 : Nat} {d : Nat} (hd : 0 ≤ d) (ha0 : isDays a0) {s0 : Int32} {o1 : Option Value} {o2 : Option Value} {o3 : Option Value} {o4 : Option Value} {o5 : Option Value} {o6 : Option Value} {o7 : Option Value} {o8 : Option Value} {o9 : Option Value} {o10 : Option Value} {m : xMem} {r : (Int32 × xMem)} (q3 : xNoD o3 = true) (q4 : xNoD o4 = true) (q5 : xNoD o5 = true) (q6 : xNoD o6 = true) (h : fX1_meanEffect_121 a0 s0 m = some r) : xFx hh_240 cX1_meanEffect d 121 [some (.ref a0), o1, o2, o3, o4, o5, o6, o7, o8, o9, o10] [.int s0] (xLay m) 0 0 (some (.int r.1)) (xLay r.2) := by
  unfold fX1_meanEffect_121 at h
  cases h
  exact fx_ireturn dX1_meanEffect_121 rfl rfl
def fX1_meanEffect_7 (a0 : Nat) : Nat → Int64 → Int32 → Int32 → xMem → Option (Int32 × xMem)
  | 0, _, _, _, _ => none
  | fuel + 1, l1, l3, l4, m => if (6 : Int32) ≤ l4 then if l3 ≤ (0 : Int32) then fX1_meanEffect_121 a0 (-1000000000 : Int32) m else xLet (l3.toInt64) fun x3 => bif !decide (x3 = 0) then xLet (l1 / x3) fun x4 => xLet (x4.toInt32) fun x6 => fX1_meanEffect_121 a0 x6 m else none else xLet ((6 : Int32) + l4) fun x7 => bif xIn x7 12 then xLet (m.1 (a0 + 2) x7.toNatClampNeg) fun x8 => bif xIn l4 12 then xLet (m.1 (a0 + 2) l4.toNatClampNeg) fun x10 => if x8 ≤ (0 : Int32) then fX1_meanEffect_101 a0 (fX1_meanEffect_7 a0 fuel) l1 l3 l4 m else if x10 ≤ (0 : Int32) then fX1_meanEffect_101 a0 (fX1_meanEffect_7 a0 fuel) l1 l3 l4 m else xLet ((6 : Int32) + l4) fun x14 => bif xIn x14 12 then xLet (m.1 (a0 + 1) x14.toNatClampNeg) fun x15 => xLet (x15.toInt64) fun x17 => xLet (x17 * (1000 : Int64)) fun x18 => xLet (x8.toInt64) fun x19 => bif !decide (x19 = 0) then xLet (x18 / x19) fun x20 => bif xIn l4 12 then xLet (m.1 (a0 + 1) l4.toNatClampNeg) fun x22 => xLet (x22.toInt64) fun x24 => xLet (x24 * (1000 : Int64)) fun x25 => xLet (x10.toInt64) fun x26 => bif !decide (x26 = 0) then xLet (x25 / x26) fun x27 => xLet (x20 - x27) fun x29 => xLet (x8.toInt64) fun x30 => xLet (x29 * x30) fun x31 => xLet (l1 + x31) fun x32 => xLet (l3 + x8) fun x33 => fX1_meanEffect_101 a0 (fX1_meanEffect_7 a0 fuel) x32 x33 l4 m else none else none else none else none else none else none
set_option maxRecDepth 4000 in
theorem fX1_meanEffect_7_ok {a0 : Nat} {d : Nat} (hd : 0 ≤ d) (ha0 : isDays a0) : ∀ (fuel : Nat) (l1 : Int64) (l3 : Int32) (l4 : Int32) (o5 : Option Value) (o6 : Option Value) (o7 : Option Value) (o8 : Option Value) (o9 : Option Value) (o10 : Option Value) (q5 : xNoD o5 = true) (q6 : xNoD o6 = true) (m : xMem) (r : (Int32 × xMem)), fX1_meanEffect_7 a0 fuel l1 l3 l4 m = some r → xFx hh_240 cX1_meanEffect d 7 [some (.ref a0), some (.long l1), none, some (.int l3), some (.int l4), o5, o6, o7, o8, o9, o10] [] (xLay m) 0 0 (some (.int r.1)) (xLay r.2) := by
  intro fuel
  induction fuel with
  | zero => intro l1 l3 l4 o5 o6 o7 o8 o9 o10 q5 q6 m r  h; cases h
  | succ fuel ih =>
    intro l1 l3 l4 o5 o6 o7 o8 o9 o10 q5 q6 m r  h
    unfold fX1_meanEffect_7 at h
    refine fx_iload dX1_meanEffect_7 rfl rfl ?_
    refine fx_bipush (x := 6) dX1_meanEffect_9 rfl (by decide) ?_
    refine fx_icmp_ge (t := 107) dX1_meanEffect_11 rfl rfl (fun hc1 => ?_) (fun hc1 => ?_)
    · rw [if_pos hc1] at h
      refine fx_iload_n dX1_meanEffect_107 rfl rfl ?_
      refine fx_if_le (t := 119) dX1_meanEffect_108 rfl rfl (fun hc2 => ?_) (fun hc2 => ?_)
      · rw [if_pos hc2] at h
        refine fx_ldc dX1_meanEffect_119 rfl ck_1_30 ?_
        exact fX1_meanEffect_121_ok (o1 := some (.long l1)) (o2 := none) (o3 := some (.int l3)) (o4 := some (.int l4)) (o5 := o5) (o6 := o6) (o7 := o7) (o8 := o8) (o9 := o9) (o10 := o10) hd ha0 rfl rfl q5 q6 h
      · rw [if_neg hc2] at h
        refine fx_lload_n dX1_meanEffect_111 rfl rfl ?_
        refine fx_iload_n dX1_meanEffect_112 rfl rfl ?_
        obtain ⟨x3, hx3, h⟩ := xLet_el h
        refine fx_i2l dX1_meanEffect_113 rfl hx3 ?_
        obtain ⟨hz5, h⟩ := xChk_el h
        obtain ⟨x4, hx4, h⟩ := xLet_el h
        refine fx_ldiv dX1_meanEffect_114 rfl (by simpa using hz5) hx4 ?_
        obtain ⟨x6, hx6, h⟩ := xLet_el h
        refine fx_l2i dX1_meanEffect_115 rfl hx6 ?_
        refine fx_goto (t := 121) dX1_meanEffect_116 rfl rfl ?_
        exact fX1_meanEffect_121_ok (o1 := some (.long l1)) (o2 := none) (o3 := some (.int l3)) (o4 := some (.int l4)) (o5 := o5) (o6 := o6) (o7 := o7) (o8 := o8) (o9 := o9) (o10 := o10) hd ha0 rfl rfl q5 q6 h
    · rw [if_neg hc1] at h
      refine fx_aload_n dX1_meanEffect_14 rfl rfl ?_
      refine gx_getr dX1_meanEffect_15 rfl fd_1_15 ha0.1 rfl rfl ?_
      refine fx_bipush (x := 6) dX1_meanEffect_18 rfl (by decide) ?_
      refine fx_iload dX1_meanEffect_20 rfl rfl ?_
      obtain ⟨x7, hx7, h⟩ := xLet_el h
      refine fx_iadd dX1_meanEffect_22 rfl hx7 ?_
      obtain ⟨hj9, h⟩ := xChk_el h
      obtain ⟨x8, hx8, h⟩ := xLet_el h
      refine gx_iaload dX1_meanEffect_23 rfl ha0.2.2 hj9 hx8 ?_
      refine fx_istore (ls2 := [some (.ref a0), some (.long l1), none, some (.int l3), some (.int l4), some (.int x8), o6, o7, o8, o9, o10]) dX1_meanEffect_24 rfl rfl rfl ?_
      refine fx_aload_n dX1_meanEffect_26 rfl rfl ?_
      refine gx_getr dX1_meanEffect_27 rfl fd_1_15 ha0.1 rfl rfl ?_
      refine fx_iload dX1_meanEffect_30 rfl rfl ?_
      obtain ⟨hj11, h⟩ := xChk_el h
      obtain ⟨x10, hx10, h⟩ := xLet_el h
      refine gx_iaload dX1_meanEffect_32 rfl ha0.2.2 hj11 hx10 ?_
      refine fx_istore (ls2 := [some (.ref a0), some (.long l1), none, some (.int l3), some (.int l4), some (.int x8), some (.int x10), o7, o8, o9, o10]) dX1_meanEffect_33 rfl rfl rfl ?_
      refine fx_iload dX1_meanEffect_35 rfl rfl ?_
      refine fx_if_le (t := 101) dX1_meanEffect_37 rfl rfl (fun hc12 => ?_) (fun hc12 => ?_)
      · rw [if_pos hc12] at h
        exact fX1_meanEffect_101_ok (o5 := some (.int x8)) (o6 := some (.int x10)) (o7 := o7) (o8 := o8) (o9 := o9) (o10 := o10) hd ha0 ih rfl rfl h
      · rw [if_neg hc12] at h
        refine fx_iload dX1_meanEffect_40 rfl rfl ?_
        refine fx_if_le (t := 101) dX1_meanEffect_42 rfl rfl (fun hc13 => ?_) (fun hc13 => ?_)
        · rw [if_pos hc13] at h
          exact fX1_meanEffect_101_ok (o5 := some (.int x8)) (o6 := some (.int x10)) (o7 := o7) (o8 := o8) (o9 := o9) (o10 := o10) hd ha0 ih rfl rfl h
        · rw [if_neg hc13] at h
          refine fx_aload_n dX1_meanEffect_45 rfl rfl ?_
          refine gx_getr dX1_meanEffect_46 rfl fd_1_11 ha0.1 rfl rfl ?_
          refine fx_bipush (x := 6) dX1_meanEffect_49 rfl (by decide) ?_
          refine fx_iload dX1_meanEffect_51 rfl rfl ?_
          obtain ⟨x14, hx14, h⟩ := xLet_el h
          refine fx_iadd dX1_meanEffect_53 rfl hx14 ?_
          obtain ⟨hj16, h⟩ := xChk_el h
          obtain ⟨x15, hx15, h⟩ := xLet_el h
          refine gx_iaload dX1_meanEffect_54 rfl ha0.2.1 hj16 hx15 ?_
          obtain ⟨x17, hx17, h⟩ := xLet_el h
          refine fx_i2l dX1_meanEffect_55 rfl hx17 ?_
          refine fx_ldc2_w dX1_meanEffect_56 rfl cl_1_28 ?_
          obtain ⟨x18, hx18, h⟩ := xLet_el h
          refine fx_lmul dX1_meanEffect_59 rfl hx18 ?_
          refine fx_iload dX1_meanEffect_60 rfl rfl ?_
          obtain ⟨x19, hx19, h⟩ := xLet_el h
          refine fx_i2l dX1_meanEffect_62 rfl hx19 ?_
          obtain ⟨hz21, h⟩ := xChk_el h
          obtain ⟨x20, hx20, h⟩ := xLet_el h
          refine fx_ldiv dX1_meanEffect_63 rfl (by simpa using hz21) hx20 ?_
          refine fx_lstore (ls2 := [some (.ref a0), some (.long l1), none, some (.int l3), some (.int l4), some (.int x8), some (.int x10), some (.long x20), none, o9, o10]) dX1_meanEffect_64 rfl rfl rfl ?_
          refine fx_aload_n dX1_meanEffect_66 rfl rfl ?_
          refine gx_getr dX1_meanEffect_67 rfl fd_1_11 ha0.1 rfl rfl ?_
          refine fx_iload dX1_meanEffect_70 rfl rfl ?_
          obtain ⟨hj23, h⟩ := xChk_el h
          obtain ⟨x22, hx22, h⟩ := xLet_el h
          refine gx_iaload dX1_meanEffect_72 rfl ha0.2.1 hj23 hx22 ?_
          obtain ⟨x24, hx24, h⟩ := xLet_el h
          refine fx_i2l dX1_meanEffect_73 rfl hx24 ?_
          refine fx_ldc2_w dX1_meanEffect_74 rfl cl_1_28 ?_
          obtain ⟨x25, hx25, h⟩ := xLet_el h
          refine fx_lmul dX1_meanEffect_77 rfl hx25 ?_
          refine fx_iload dX1_meanEffect_78 rfl rfl ?_
          obtain ⟨x26, hx26, h⟩ := xLet_el h
          refine fx_i2l dX1_meanEffect_80 rfl hx26 ?_
          obtain ⟨hz28, h⟩ := xChk_el h
          obtain ⟨x27, hx27, h⟩ := xLet_el h
          refine fx_ldiv dX1_meanEffect_81 rfl (by simpa using hz28) hx27 ?_
          refine fx_lstore (ls2 := [some (.ref a0), some (.long l1), none, some (.int l3), some (.int l4), some (.int x8), some (.int x10), some (.long x20), none, some (.long x27), none]) dX1_meanEffect_82 rfl rfl rfl ?_
          refine fx_lload_n dX1_meanEffect_84 rfl rfl ?_
          refine fx_lload dX1_meanEffect_85 rfl rfl ?_
          refine fx_lload dX1_meanEffect_87 rfl rfl ?_
          obtain ⟨x29, hx29, h⟩ := xLet_el h
          refine fx_lsub dX1_meanEffect_89 rfl hx29 ?_
          refine fx_iload dX1_meanEffect_90 rfl rfl ?_
          obtain ⟨x30, hx30, h⟩ := xLet_el h
          refine fx_i2l dX1_meanEffect_92 rfl hx30 ?_
          obtain ⟨x31, hx31, h⟩ := xLet_el h
          refine fx_lmul dX1_meanEffect_93 rfl hx31 ?_
          obtain ⟨x32, hx32, h⟩ := xLet_el h
          refine fx_ladd dX1_meanEffect_94 rfl hx32 ?_
          refine fx_lstore_n (ls2 := [some (.ref a0), some (.long x32), none, some (.int l3), some (.int l4), some (.int x8), some (.int x10), some (.long x20), none, some (.long x27), none]) dX1_meanEffect_95 rfl rfl rfl ?_
          refine fx_iload_n dX1_meanEffect_96 rfl rfl ?_
          refine fx_iload dX1_meanEffect_97 rfl rfl ?_
          obtain ⟨x33, hx33, h⟩ := xLet_el h
          refine fx_iadd dX1_meanEffect_99 rfl hx33 ?_
          refine fx_istore_n (ls2 := [some (.ref a0), some (.long x32), none, some (.int x33), some (.int l4), some (.int x8), some (.int x10), some (.long x20), none, some (.long x27), none]) dX1_meanEffect_100 rfl rfl rfl ?_
          exact fX1_meanEffect_101_ok (o5 := some (.int x8)) (o6 := some (.int x10)) (o7 := some (.long x20)) (o8 := none) (o9 := some (.long x27)) (o10 := none) hd ha0 ih rfl rfl h
def fX1_meanEffect_0 (a0 : Nat) (m : xMem) : Option (Int32 × xMem) := fX1_meanEffect_7 a0 xFuel (0 : Int64) (0 : Int32) (0 : Int32) m
set_option maxRecDepth 4000 in
theorem fX1_meanEffect_0_ok {a0 : Nat} {d : Nat} (hd : 0 ≤ d) (ha0 : isDays a0) {o1 : Option Value} {o2 : Option Value} {o3 : Option Value} {o4 : Option Value} {o5 : Option Value} {o6 : Option Value} {o7 : Option Value} {o8 : Option Value} {o9 : Option Value} {o10 : Option Value} {m : xMem} {r : (Int32 × xMem)} (q3 : xNoD o3 = true) (q4 : xNoD o4 = true) (q5 : xNoD o5 = true) (q6 : xNoD o6 = true) (h : fX1_meanEffect_0 a0 m = some r) : xFx hh_240 cX1_meanEffect d 0 [some (.ref a0), o1, o2, o3, o4, o5, o6, o7, o8, o9, o10] [] (xLay m) 0 0 (some (.int r.1)) (xLay r.2) := by
  unfold fX1_meanEffect_0 at h
  refine fx_lconst (x := 0) dX1_meanEffect_0 rfl (by decide) ?_
  refine fx_lstore_n (ls2 := [some (.ref a0), some (.long (0 : Int64)), none, o3, o4, o5, o6, o7, o8, o9, o10]) dX1_meanEffect_1 rfl rfl rfl ?_
  refine fx_iconst (x := 0) dX1_meanEffect_2 rfl (by decide) ?_
  refine fx_istore_n (ls2 := [some (.ref a0), some (.long (0 : Int64)), none, some (.int (0 : Int32)), o4, o5, o6, o7, o8, o9, o10]) dX1_meanEffect_3 rfl rfl rfl ?_
  refine fx_iconst (x := 0) dX1_meanEffect_4 rfl (by decide) ?_
  refine fx_istore (ls2 := [some (.ref a0), some (.long (0 : Int64)), none, some (.int (0 : Int32)), some (.int (0 : Int32)), o5, o6, o7, o8, o9, o10]) dX1_meanEffect_5 rfl rfl rfl ?_
  exact fX1_meanEffect_7_ok hd ha0 xFuel (0 : Int64) (0 : Int32) (0 : Int32) (o5) (o6) (o7) (o8) (o9) (o10) q5 q6 m r h
def fX1_meanEffect (a0 : Nat) (m : xMem) : Option (Int32 × xMem) := fX1_meanEffect_0 a0  m
theorem fX1_meanEffect_ok {a0 : Nat} {m : xMem} {r : (Int32 × xMem)} {d : Nat} (hd : 1 ≤ d) (ha0 : isDays a0) (h : fX1_meanEffect a0 m = some r) : xEx d 240 [.ref a0] (xLay m) (some (.int r.1)) (xLay r.2) := by
  obtain ⟨d, rfl⟩ : ∃ q, d = q + 1 := ⟨d - 1, by omega⟩
  exact xEx_of me_240 rfl (fX1_meanEffect_0_ok (d := d) (o1 := none) (o2 := none) (o3 := none) (o4 := none) (o5 := none) (o6 := none) (o7 := none) (o8 := none) (o9 := none) (o10 := none) (by omega) ha0 rfl rfl rfl rfl h)
def fX11_effect_0 (a0 : Nat) (m : xMem) : Option (Int32 × xMem) := (fX1_meanEffect (a0 + 1 + 4) m).bind fun p1 => some (p1.1, p1.2)
set_option maxRecDepth 4000 in
theorem fX11_effect_0_ok {a0 : Nat} {d : Nat} (hd : 1 ≤ d) (ha0 : isMS a0) {m : xMem} {r : (Int32 × xMem)} (h : fX11_effect_0 a0 m = some r) : xFx hh_239 cX11_effect d 0 [some (.ref a0)] [] (xLay m) 0 0 (some (.int r.1)) (xLay r.2) := by
  unfold fX11_effect_0 at h
  refine fx_aload_n dX11_effect_0 rfl rfl ?_
  refine gx_getr dX11_effect_1 rfl fd_11_10 ha0.1 rfl rfl ?_
  refine gx_getr dX11_effect_4 rfl fd_11_271 ha0.2.1.1 rfl rfl ?_
  obtain ⟨p1, ep1, h⟩ := xBind_el h
  refine gx_callv (as := []) (r := []) rfl dX11_effect_7 ca_11_279 rfl me_240 rfl rfl rfl rfl (ha0.2.1.2.2.2.2.1.1) rfl (fX1_meanEffect_ok (d := d) (by omega) ha0.2.1.2.2.2.2.1 ep1) rfl rfl ?_
  cases h
  exact fx_ireturn dX11_effect_10 rfl rfl
def fX11_effect (a0 : Nat) (m : xMem) : Option (Int32 × xMem) := fX11_effect_0 a0  m
theorem fX11_effect_ok {a0 : Nat} {m : xMem} {r : (Int32 × xMem)} {d : Nat} (hd : 2 ≤ d) (ha0 : isMS a0) (h : fX11_effect a0 m = some r) : xEx d 239 [.ref a0] (xLay m) (some (.int r.1)) (xLay r.2) := by
  obtain ⟨d, rfl⟩ : ∃ q, d = q + 1 := ⟨d - 1, by omega⟩
  exact xEx_of me_239 rfl (fX11_effect_0_ok (d := d) (by omega) ha0 h)
def fX12_daysOf_74 (a0 : Nat) (a1 : Int32) (a2 : Int32) (a3 : Int32) (rec6 : Int32 → Int32 → xMem → Option (Int32 × xMem)) (l4 : Int32) (l5 : Int32) (m : xMem) : Option (Int32 × xMem) := xLet (l5 + (1 : Int32)) fun x1 => rec6 l4 x1 m
set_option maxRecDepth 4000 in
theorem fX12_daysOf_74_ok {a0 : Nat} {a1 : Int32} {a2 : Int32} {a3 : Int32} {rec6 : Int32 → Int32 → xMem → Option (Int32 × xMem)} {d : Nat} (hd : 0 ≤ d) (ha0 : isModel a0) (hrec6 : ∀ (l4 : Int32) (l5 : Int32) (o6 : Option Value) (q6 : xNoD o6 = true) (m : xMem) (r : (Int32 × xMem)), rec6 l4 l5 m = some r → xFx hh_242 cX12_daysOf d 6 [some (.ref a0), some (.int a1), some (.int a2), some (.int a3), some (.int l4), some (.int l5), o6] [] (xLay m) 0 0 (some (.int r.1)) (xLay r.2)) {l4 : Int32} {l5 : Int32} {o6 : Option Value} {m : xMem} {r : (Int32 × xMem)} (q6 : xNoD o6 = true) (h : fX12_daysOf_74 a0 a1 a2 a3 rec6 l4 l5 m = some r) : xFx hh_242 cX12_daysOf d 74 [some (.ref a0), some (.int a1), some (.int a2), some (.int a3), some (.int l4), some (.int l5), o6] [] (xLay m) 0 0 (some (.int r.1)) (xLay r.2) := by
  unfold fX12_daysOf_74 at h
  obtain ⟨x1, hx1, h⟩ := xLet_el h
  refine fx_iinc (ls2 := [some (.ref a0), some (.int a1), some (.int a2), some (.int a3), some (.int l4), some (.int x1), o6]) dX12_daysOf_74 rfl rfl rfl hx1 rfl ?_
  refine fx_goto (t := 6) dX12_daysOf_77 rfl rfl ?_
  exact hrec6 l4 x1 (o6) q6 m r h
def fX12_daysOf_71 (a0 : Nat) (a1 : Int32) (a2 : Int32) (a3 : Int32) (rec6 : Int32 → Int32 → xMem → Option (Int32 × xMem)) (l5 : Int32) (s0 : Int32) (s1 : Int32) (m : xMem) : Option (Int32 × xMem) := xLet (s0 + s1) fun x1 => fX12_daysOf_74 a0 a1 a2 a3 rec6 x1 l5 m
set_option maxRecDepth 4000 in
theorem fX12_daysOf_71_ok {a0 : Nat} {a1 : Int32} {a2 : Int32} {a3 : Int32} {rec6 : Int32 → Int32 → xMem → Option (Int32 × xMem)} {d : Nat} (hd : 0 ≤ d) (ha0 : isModel a0) (hrec6 : ∀ (l4 : Int32) (l5 : Int32) (o6 : Option Value) (q6 : xNoD o6 = true) (m : xMem) (r : (Int32 × xMem)), rec6 l4 l5 m = some r → xFx hh_242 cX12_daysOf d 6 [some (.ref a0), some (.int a1), some (.int a2), some (.int a3), some (.int l4), some (.int l5), o6] [] (xLay m) 0 0 (some (.int r.1)) (xLay r.2)) {l5 : Int32} {s0 : Int32} {s1 : Int32} {o4 : Option Value} {o6 : Option Value} {m : xMem} {r : (Int32 × xMem)} (q4 : xNoD o4 = true) (q6 : xNoD o6 = true) (h : fX12_daysOf_71 a0 a1 a2 a3 rec6 l5 s0 s1 m = some r) : xFx hh_242 cX12_daysOf d 71 [some (.ref a0), some (.int a1), some (.int a2), some (.int a3), o4, some (.int l5), o6] [.int s1, .int s0] (xLay m) 0 0 (some (.int r.1)) (xLay r.2) := by
  unfold fX12_daysOf_71 at h
  obtain ⟨x1, hx1, h⟩ := xLet_el h
  refine fx_iadd dX12_daysOf_71 rfl hx1 ?_
  refine fx_istore (ls2 := [some (.ref a0), some (.int a1), some (.int a2), some (.int a3), some (.int x1), some (.int l5), o6]) dX12_daysOf_72 rfl rfl rfl ?_
  exact fX12_daysOf_74_ok (o6 := o6) hd ha0 hrec6 q6 h
def fX12_daysOf_6 (a0 : Nat) (a1 : Int32) (a2 : Int32) (a3 : Int32) : Nat → Int32 → Int32 → xMem → Option (Int32 × xMem)
  | 0, _, _, _ => none
  | fuel + 1, l4, l5, m => bif xIn (6 : Int32) 1610 then xLet (m.1 (a0 + 1) (6 : Int32).toNatClampNeg) fun x1 => if x1 ≤ l5 then some (l4, m) else xLet ((3 : Int32) * l5) fun x4 => xLet ((1390 : Int32) + x4) fun x5 => bif xIn x5 1610 then xLet (m.1 (a0 + 1) x5.toNatClampNeg) fun x6 => if ¬ x6 = a1 then fX12_daysOf_74 a0 a1 a2 a3 (fX12_daysOf_6 a0 a1 a2 a3 fuel) l4 l5 m else xLet (x5 + (1 : Int32)) fun x9 => bif xIn x9 1610 then xLet (m.1 (a0 + 1) x9.toNatClampNeg) fun x10 => if ¬ x10 = a2 then fX12_daysOf_74 a0 a1 a2 a3 (fX12_daysOf_6 a0 a1 a2 a3 fuel) l4 l5 m else if a3 = (0 : Int32) then fX12_daysOf_71 a0 a1 a2 a3 (fX12_daysOf_6 a0 a1 a2 a3 fuel) l5 l4 (1 : Int32) m else xLet (x5 + (2 : Int32)) fun x14 => bif xIn x14 1610 then xLet (m.1 (a0 + 1) x14.toNatClampNeg) fun x15 => fX12_daysOf_71 a0 a1 a2 a3 (fX12_daysOf_6 a0 a1 a2 a3 fuel) l5 l4 x15 m else none else none else none else none
set_option maxRecDepth 4000 in
theorem fX12_daysOf_6_ok {a0 : Nat} {a1 : Int32} {a2 : Int32} {a3 : Int32} {d : Nat} (hd : 0 ≤ d) (ha0 : isModel a0) : ∀ (fuel : Nat) (l4 : Int32) (l5 : Int32) (o6 : Option Value) (q6 : xNoD o6 = true) (m : xMem) (r : (Int32 × xMem)), fX12_daysOf_6 a0 a1 a2 a3 fuel l4 l5 m = some r → xFx hh_242 cX12_daysOf d 6 [some (.ref a0), some (.int a1), some (.int a2), some (.int a3), some (.int l4), some (.int l5), o6] [] (xLay m) 0 0 (some (.int r.1)) (xLay r.2) := by
  intro fuel
  induction fuel with
  | zero => intro l4 l5 o6 q6 m r  h; cases h
  | succ fuel ih =>
    intro l4 l5 o6 q6 m r  h
    unfold fX12_daysOf_6 at h
    refine fx_iload dX12_daysOf_6 rfl rfl ?_
    refine fx_aload_n dX12_daysOf_8 rfl rfl ?_
    refine gx_getr dX12_daysOf_9 rfl fd_12_7 ha0.1 rfl rfl ?_
    refine fx_bipush (x := 6) dX12_daysOf_12 rfl (by decide) ?_
    obtain ⟨hj2, h⟩ := xChk_el h
    obtain ⟨x1, hx1, h⟩ := xLet_el h
    refine gx_iaload dX12_daysOf_14 rfl ha0.2.1 hj2 hx1 ?_
    refine fx_icmp_ge (t := 80) dX12_daysOf_15 rfl rfl (fun hc3 => ?_) (fun hc3 => ?_)
    · rw [if_pos hc3] at h
      refine fx_iload dX12_daysOf_80 rfl rfl ?_
      cases h
      exact fx_ireturn dX12_daysOf_82 rfl rfl
    · rw [if_neg hc3] at h
      refine fx_sipush (x := 1390) dX12_daysOf_18 rfl (by decide) ?_
      refine fx_iconst (x := 3) dX12_daysOf_21 rfl (by decide) ?_
      refine fx_iload dX12_daysOf_22 rfl rfl ?_
      obtain ⟨x4, hx4, h⟩ := xLet_el h
      refine fx_imul dX12_daysOf_24 rfl hx4 ?_
      obtain ⟨x5, hx5, h⟩ := xLet_el h
      refine fx_iadd dX12_daysOf_25 rfl hx5 ?_
      refine fx_istore (ls2 := [some (.ref a0), some (.int a1), some (.int a2), some (.int a3), some (.int l4), some (.int l5), some (.int x5)]) dX12_daysOf_26 rfl rfl rfl ?_
      refine fx_aload_n dX12_daysOf_28 rfl rfl ?_
      refine gx_getr dX12_daysOf_29 rfl fd_12_7 ha0.1 rfl rfl ?_
      refine fx_iload dX12_daysOf_32 rfl rfl ?_
      obtain ⟨hj7, h⟩ := xChk_el h
      obtain ⟨x6, hx6, h⟩ := xLet_el h
      refine gx_iaload dX12_daysOf_34 rfl ha0.2.1 hj7 hx6 ?_
      refine fx_iload_n dX12_daysOf_35 rfl rfl ?_
      refine fx_icmp_ne (t := 74) dX12_daysOf_36 rfl rfl (fun hc8 => ?_) (fun hc8 => ?_)
      · rw [if_pos hc8] at h
        exact fX12_daysOf_74_ok (o6 := some (.int x5)) hd ha0 ih rfl h
      · rw [if_neg hc8] at h
        refine fx_aload_n dX12_daysOf_39 rfl rfl ?_
        refine gx_getr dX12_daysOf_40 rfl fd_12_7 ha0.1 rfl rfl ?_
        refine fx_iload dX12_daysOf_43 rfl rfl ?_
        refine fx_iconst (x := 1) dX12_daysOf_45 rfl (by decide) ?_
        obtain ⟨x9, hx9, h⟩ := xLet_el h
        refine fx_iadd dX12_daysOf_46 rfl hx9 ?_
        obtain ⟨hj11, h⟩ := xChk_el h
        obtain ⟨x10, hx10, h⟩ := xLet_el h
        refine gx_iaload dX12_daysOf_47 rfl ha0.2.1 hj11 hx10 ?_
        refine fx_iload_n dX12_daysOf_48 rfl rfl ?_
        refine fx_icmp_ne (t := 74) dX12_daysOf_49 rfl rfl (fun hc12 => ?_) (fun hc12 => ?_)
        · rw [if_pos hc12] at h
          exact fX12_daysOf_74_ok (o6 := some (.int x5)) hd ha0 ih rfl h
        · rw [if_neg hc12] at h
          refine fx_iload dX12_daysOf_52 rfl rfl ?_
          refine fx_iload_n dX12_daysOf_54 rfl rfl ?_
          refine fx_if_eq (t := 70) dX12_daysOf_55 rfl rfl (fun hc13 => ?_) (fun hc13 => ?_)
          · rw [if_pos hc13] at h
            refine fx_iconst (x := 1) dX12_daysOf_70 rfl (by decide) ?_
            exact fX12_daysOf_71_ok (o4 := some (.int l4)) (o6 := some (.int x5)) hd ha0 ih rfl rfl h
          · rw [if_neg hc13] at h
            refine fx_aload_n dX12_daysOf_58 rfl rfl ?_
            refine gx_getr dX12_daysOf_59 rfl fd_12_7 ha0.1 rfl rfl ?_
            refine fx_iload dX12_daysOf_62 rfl rfl ?_
            refine fx_iconst (x := 2) dX12_daysOf_64 rfl (by decide) ?_
            obtain ⟨x14, hx14, h⟩ := xLet_el h
            refine fx_iadd dX12_daysOf_65 rfl hx14 ?_
            obtain ⟨hj16, h⟩ := xChk_el h
            obtain ⟨x15, hx15, h⟩ := xLet_el h
            refine gx_iaload dX12_daysOf_66 rfl ha0.2.1 hj16 hx15 ?_
            refine fx_goto (t := 71) dX12_daysOf_67 rfl rfl ?_
            exact fX12_daysOf_71_ok (o4 := some (.int l4)) (o6 := some (.int x5)) hd ha0 ih rfl rfl h
def fX12_daysOf_0 (a0 : Nat) (a1 : Int32) (a2 : Int32) (a3 : Int32) (m : xMem) : Option (Int32 × xMem) := fX12_daysOf_6 a0 a1 a2 a3 xFuel (0 : Int32) (0 : Int32) m
set_option maxRecDepth 4000 in
theorem fX12_daysOf_0_ok {a0 : Nat} {a1 : Int32} {a2 : Int32} {a3 : Int32} {d : Nat} (hd : 0 ≤ d) (ha0 : isModel a0) {o4 : Option Value} {o5 : Option Value} {o6 : Option Value} {m : xMem} {r : (Int32 × xMem)} (q4 : xNoD o4 = true) (q5 : xNoD o5 = true) (q6 : xNoD o6 = true) (h : fX12_daysOf_0 a0 a1 a2 a3 m = some r) : xFx hh_242 cX12_daysOf d 0 [some (.ref a0), some (.int a1), some (.int a2), some (.int a3), o4, o5, o6] [] (xLay m) 0 0 (some (.int r.1)) (xLay r.2) := by
  unfold fX12_daysOf_0 at h
  refine fx_iconst (x := 0) dX12_daysOf_0 rfl (by decide) ?_
  refine fx_istore (ls2 := [some (.ref a0), some (.int a1), some (.int a2), some (.int a3), some (.int (0 : Int32)), o5, o6]) dX12_daysOf_1 rfl rfl rfl ?_
  refine fx_iconst (x := 0) dX12_daysOf_3 rfl (by decide) ?_
  refine fx_istore (ls2 := [some (.ref a0), some (.int a1), some (.int a2), some (.int a3), some (.int (0 : Int32)), some (.int (0 : Int32)), o6]) dX12_daysOf_4 rfl rfl rfl ?_
  exact fX12_daysOf_6_ok hd ha0 xFuel (0 : Int32) (0 : Int32) (o6) q6 m r h
def fX12_daysOf (a0 : Nat) (a1 : Int32) (a2 : Int32) (a3 : Int32) (m : xMem) : Option (Int32 × xMem) := fX12_daysOf_0 a0 a1 a2 a3  m
theorem fX12_daysOf_ok {a0 : Nat} {a1 : Int32} {a2 : Int32} {a3 : Int32} {m : xMem} {r : (Int32 × xMem)} {d : Nat} (hd : 1 ≤ d) (ha0 : isModel a0) (h : fX12_daysOf a0 a1 a2 a3 m = some r) : xEx d 242 [.ref a0, .int a1, .int a2, .int a3] (xLay m) (some (.int r.1)) (xLay r.2) := by
  obtain ⟨d, rfl⟩ : ∃ q, d = q + 1 := ⟨d - 1, by omega⟩
  exact xEx_of me_242 rfl (fX12_daysOf_0_ok (d := d) (o4 := none) (o5 := none) (o6 := none) (by omega) ha0 rfl rfl rfl h)
def fX12_effect_80 (a0 : Nat) (rec6 : Int32 → Int32 → Int32 → xMem → Option (Int32 × xMem)) (l1 : Int32) (l2 : Int32) (l3 : Int32) (m : xMem) : Option (Int32 × xMem) := xLet (l3 + (1 : Int32)) fun x1 => rec6 l1 l2 x1 m
set_option maxRecDepth 4000 in
theorem fX12_effect_80_ok {a0 : Nat} {rec6 : Int32 → Int32 → Int32 → xMem → Option (Int32 × xMem)} {d : Nat} (hd : 1 ≤ d) (ha0 : isModel a0) (hrec6 : ∀ (l1 : Int32) (l2 : Int32) (l3 : Int32) (o4 : Option Value) (o5 : Option Value) (q4 : xNoD o4 = true) (q5 : xNoD o5 = true) (m : xMem) (r : (Int32 × xMem)), rec6 l1 l2 l3 m = some r → xFx hh_241 cX12_effect d 6 [some (.ref a0), some (.int l1), some (.int l2), some (.int l3), o4, o5] [] (xLay m) 0 0 (some (.int r.1)) (xLay r.2)) {l1 : Int32} {l2 : Int32} {l3 : Int32} {o4 : Option Value} {o5 : Option Value} {m : xMem} {r : (Int32 × xMem)} (q4 : xNoD o4 = true) (q5 : xNoD o5 = true) (h : fX12_effect_80 a0 rec6 l1 l2 l3 m = some r) : xFx hh_241 cX12_effect d 80 [some (.ref a0), some (.int l1), some (.int l2), some (.int l3), o4, o5] [] (xLay m) 0 0 (some (.int r.1)) (xLay r.2) := by
  unfold fX12_effect_80 at h
  obtain ⟨x1, hx1, h⟩ := xLet_el h
  refine fx_iinc (ls2 := [some (.ref a0), some (.int l1), some (.int l2), some (.int x1), o4, o5]) dX12_effect_80 rfl rfl rfl hx1 rfl ?_
  refine fx_goto (t := 6) dX12_effect_83 rfl rfl ?_
  exact hrec6 l1 l2 x1 (o4) (o5) q4 q5 m r h
def fX12_effect_99 (a0 : Nat) (s0 : Int32) (m : xMem) : Option (Int32 × xMem) := some (s0, m)
set_option maxRecDepth 4000 in
theorem fX12_effect_99_ok {a0 : Nat} {d : Nat} (hd : 1 ≤ d) (ha0 : isModel a0) {s0 : Int32} {o1 : Option Value} {o2 : Option Value} {o3 : Option Value} {o4 : Option Value} {o5 : Option Value} {m : xMem} {r : (Int32 × xMem)} (q1 : xNoD o1 = true) (q2 : xNoD o2 = true) (q3 : xNoD o3 = true) (q4 : xNoD o4 = true) (q5 : xNoD o5 = true) (h : fX12_effect_99 a0 s0 m = some r) : xFx hh_241 cX12_effect d 99 [some (.ref a0), o1, o2, o3, o4, o5] [.int s0] (xLay m) 0 0 (some (.int r.1)) (xLay r.2) := by
  unfold fX12_effect_99 at h
  cases h
  exact fx_ireturn dX12_effect_99 rfl rfl
def fX12_effect_6 (a0 : Nat) : Nat → Int32 → Int32 → Int32 → xMem → Option (Int32 × xMem)
  | 0, _, _, _, _ => none
  | fuel + 1, l1, l2, l3, m => if (6 : Int32) ≤ l3 then if ¬ l1 = (0 : Int32) then bif !decide (l1 = 0) then xLet (l2 / l1) fun x3 => fX12_effect_99 a0 x3 m else none else fX12_effect_99 a0 (-1000000000 : Int32) m else (fX12_daysOf a0 (1 : Int32) l3 (0 : Int32) m).bind fun p5 => (fX12_daysOf a0 (0 : Int32) l3 (0 : Int32) p5.2).bind fun p6 => if p5.1 ≤ (0 : Int32) then fX12_effect_80 a0 (fX12_effect_6 a0 fuel) l1 l2 l3 p6.2 else if p6.1 ≤ (0 : Int32) then fX12_effect_80 a0 (fX12_effect_6 a0 fuel) l1 l2 l3 p6.2 else (fX12_daysOf a0 (1 : Int32) l3 (1 : Int32) p6.2).bind fun p9 => xLet ((1000 : Int32) * p9.1) fun x10 => bif !decide (p5.1 = 0) then xLet (x10 / p5.1) fun x11 => (fX12_daysOf a0 (0 : Int32) l3 (1 : Int32) p9.2).bind fun p13 => xLet ((1000 : Int32) * p13.1) fun x14 => bif !decide (p6.1 = 0) then xLet (x14 / p6.1) fun x15 => xLet (x11 - x15) fun x17 => xLet (p5.1 * x17) fun x18 => xLet (l2 + x18) fun x19 => xLet (l1 + p5.1) fun x20 => fX12_effect_80 a0 (fX12_effect_6 a0 fuel) x20 x19 l3 p13.2 else none else none
set_option maxRecDepth 4000 in
theorem fX12_effect_6_ok {a0 : Nat} {d : Nat} (hd : 1 ≤ d) (ha0 : isModel a0) : ∀ (fuel : Nat) (l1 : Int32) (l2 : Int32) (l3 : Int32) (o4 : Option Value) (o5 : Option Value) (q4 : xNoD o4 = true) (q5 : xNoD o5 = true) (m : xMem) (r : (Int32 × xMem)), fX12_effect_6 a0 fuel l1 l2 l3 m = some r → xFx hh_241 cX12_effect d 6 [some (.ref a0), some (.int l1), some (.int l2), some (.int l3), o4, o5] [] (xLay m) 0 0 (some (.int r.1)) (xLay r.2) := by
  intro fuel
  induction fuel with
  | zero => intro l1 l2 l3 o4 o5 q4 q5 m r  h; cases h
  | succ fuel ih =>
    intro l1 l2 l3 o4 o5 q4 q5 m r  h
    unfold fX12_effect_6 at h
    refine fx_iload_n dX12_effect_6 rfl rfl ?_
    refine fx_bipush (x := 6) dX12_effect_7 rfl (by decide) ?_
    refine fx_icmp_ge (t := 86) dX12_effect_9 rfl rfl (fun hc1 => ?_) (fun hc1 => ?_)
    · rw [if_pos hc1] at h
      refine fx_iload_n dX12_effect_86 rfl rfl ?_
      refine fx_if_ne (t := 96) dX12_effect_87 rfl rfl (fun hc2 => ?_) (fun hc2 => ?_)
      · rw [if_pos hc2] at h
        refine fx_iload_n dX12_effect_96 rfl rfl ?_
        refine fx_iload_n dX12_effect_97 rfl rfl ?_
        obtain ⟨hz4, h⟩ := xChk_el h
        obtain ⟨x3, hx3, h⟩ := xLet_el h
        refine fx_idiv dX12_effect_98 rfl (by simpa using hz4) hx3 ?_
        exact fX12_effect_99_ok (o1 := some (.int l1)) (o2 := some (.int l2)) (o3 := some (.int l3)) (o4 := o4) (o5 := o5) hd ha0 rfl rfl rfl q4 q5 h
      · rw [if_neg hc2] at h
        refine fx_ldc_w dX12_effect_90 rfl ck_12_413 ?_
        refine fx_goto (t := 99) dX12_effect_93 rfl rfl ?_
        exact fX12_effect_99_ok (o1 := some (.int l1)) (o2 := some (.int l2)) (o3 := some (.int l3)) (o4 := o4) (o5 := o5) hd ha0 rfl rfl rfl q4 q5 h
    · rw [if_neg hc1] at h
      refine fx_aload_n dX12_effect_12 rfl rfl ?_
      refine fx_iconst (x := 1) dX12_effect_13 rfl (by decide) ?_
      refine fx_iload_n dX12_effect_14 rfl rfl ?_
      refine fx_iconst (x := 0) dX12_effect_15 rfl (by decide) ?_
      obtain ⟨p5, ep5, h⟩ := xBind_el h
      refine gx_callv (as := [.int (1 : Int32), .int l3, .int (0 : Int32)]) (r := []) rfl dX12_effect_16 ca_12_409 rfl me_242 rfl rfl rfl rfl (ha0.1) rfl (fX12_daysOf_ok (d := d) (by omega) ha0 ep5) rfl rfl ?_
      refine fx_istore (ls2 := [some (.ref a0), some (.int l1), some (.int l2), some (.int l3), some (.int p5.1), o5]) dX12_effect_19 rfl rfl rfl ?_
      refine fx_aload_n dX12_effect_21 rfl rfl ?_
      refine fx_iconst (x := 0) dX12_effect_22 rfl (by decide) ?_
      refine fx_iload_n dX12_effect_23 rfl rfl ?_
      refine fx_iconst (x := 0) dX12_effect_24 rfl (by decide) ?_
      obtain ⟨p6, ep6, h⟩ := xBind_el h
      refine gx_callv (as := [.int (0 : Int32), .int l3, .int (0 : Int32)]) (r := []) rfl dX12_effect_25 ca_12_409 rfl me_242 rfl rfl rfl rfl (ha0.1) rfl (fX12_daysOf_ok (d := d) (by omega) ha0 ep6) rfl rfl ?_
      refine fx_istore (ls2 := [some (.ref a0), some (.int l1), some (.int l2), some (.int l3), some (.int p5.1), some (.int p6.1)]) dX12_effect_28 rfl rfl rfl ?_
      refine fx_iload dX12_effect_30 rfl rfl ?_
      refine fx_if_le (t := 80) dX12_effect_32 rfl rfl (fun hc7 => ?_) (fun hc7 => ?_)
      · rw [if_pos hc7] at h
        exact fX12_effect_80_ok (o4 := some (.int p5.1)) (o5 := some (.int p6.1)) hd ha0 ih rfl rfl h
      · rw [if_neg hc7] at h
        refine fx_iload dX12_effect_35 rfl rfl ?_
        refine fx_if_le (t := 80) dX12_effect_37 rfl rfl (fun hc8 => ?_) (fun hc8 => ?_)
        · rw [if_pos hc8] at h
          exact fX12_effect_80_ok (o4 := some (.int p5.1)) (o5 := some (.int p6.1)) hd ha0 ih rfl rfl h
        · rw [if_neg hc8] at h
          refine fx_iload_n dX12_effect_40 rfl rfl ?_
          refine fx_iload dX12_effect_41 rfl rfl ?_
          refine fx_sipush (x := 1000) dX12_effect_43 rfl (by decide) ?_
          refine fx_aload_n dX12_effect_46 rfl rfl ?_
          refine fx_iconst (x := 1) dX12_effect_47 rfl (by decide) ?_
          refine fx_iload_n dX12_effect_48 rfl rfl ?_
          refine fx_iconst (x := 1) dX12_effect_49 rfl (by decide) ?_
          obtain ⟨p9, ep9, h⟩ := xBind_el h
          refine gx_callv (as := [.int (1 : Int32), .int l3, .int (1 : Int32)]) (r := [.int (1000 : Int32), .int p5.1, .int l2]) rfl dX12_effect_50 ca_12_409 rfl me_242 rfl rfl rfl rfl (ha0.1) rfl (fX12_daysOf_ok (d := d) (by omega) ha0 ep9) rfl rfl ?_
          obtain ⟨x10, hx10, h⟩ := xLet_el h
          refine fx_imul dX12_effect_53 rfl hx10 ?_
          refine fx_iload dX12_effect_54 rfl rfl ?_
          obtain ⟨hz12, h⟩ := xChk_el h
          obtain ⟨x11, hx11, h⟩ := xLet_el h
          refine fx_idiv dX12_effect_56 rfl (by simpa using hz12) hx11 ?_
          refine fx_sipush (x := 1000) dX12_effect_57 rfl (by decide) ?_
          refine fx_aload_n dX12_effect_60 rfl rfl ?_
          refine fx_iconst (x := 0) dX12_effect_61 rfl (by decide) ?_
          refine fx_iload_n dX12_effect_62 rfl rfl ?_
          refine fx_iconst (x := 1) dX12_effect_63 rfl (by decide) ?_
          obtain ⟨p13, ep13, h⟩ := xBind_el h
          refine gx_callv (as := [.int (0 : Int32), .int l3, .int (1 : Int32)]) (r := [.int (1000 : Int32), .int x11, .int p5.1, .int l2]) rfl dX12_effect_64 ca_12_409 rfl me_242 rfl rfl rfl rfl (ha0.1) rfl (fX12_daysOf_ok (d := d) (by omega) ha0 ep13) rfl rfl ?_
          obtain ⟨x14, hx14, h⟩ := xLet_el h
          refine fx_imul dX12_effect_67 rfl hx14 ?_
          refine fx_iload dX12_effect_68 rfl rfl ?_
          obtain ⟨hz16, h⟩ := xChk_el h
          obtain ⟨x15, hx15, h⟩ := xLet_el h
          refine fx_idiv dX12_effect_70 rfl (by simpa using hz16) hx15 ?_
          obtain ⟨x17, hx17, h⟩ := xLet_el h
          refine fx_isub dX12_effect_71 rfl hx17 ?_
          obtain ⟨x18, hx18, h⟩ := xLet_el h
          refine fx_imul dX12_effect_72 rfl hx18 ?_
          obtain ⟨x19, hx19, h⟩ := xLet_el h
          refine fx_iadd dX12_effect_73 rfl hx19 ?_
          refine fx_istore_n (ls2 := [some (.ref a0), some (.int l1), some (.int x19), some (.int l3), some (.int p5.1), some (.int p6.1)]) dX12_effect_74 rfl rfl rfl ?_
          refine fx_iload_n dX12_effect_75 rfl rfl ?_
          refine fx_iload dX12_effect_76 rfl rfl ?_
          obtain ⟨x20, hx20, h⟩ := xLet_el h
          refine fx_iadd dX12_effect_78 rfl hx20 ?_
          refine fx_istore_n (ls2 := [some (.ref a0), some (.int x20), some (.int x19), some (.int l3), some (.int p5.1), some (.int p6.1)]) dX12_effect_79 rfl rfl rfl ?_
          exact fX12_effect_80_ok (o4 := some (.int p5.1)) (o5 := some (.int p6.1)) hd ha0 ih rfl rfl h
def fX12_effect_0 (a0 : Nat) (m : xMem) : Option (Int32 × xMem) := fX12_effect_6 a0 xFuel (0 : Int32) (0 : Int32) (0 : Int32) m
set_option maxRecDepth 4000 in
theorem fX12_effect_0_ok {a0 : Nat} {d : Nat} (hd : 1 ≤ d) (ha0 : isModel a0) {o1 : Option Value} {o2 : Option Value} {o3 : Option Value} {o4 : Option Value} {o5 : Option Value} {m : xMem} {r : (Int32 × xMem)} (q1 : xNoD o1 = true) (q2 : xNoD o2 = true) (q3 : xNoD o3 = true) (q4 : xNoD o4 = true) (q5 : xNoD o5 = true) (h : fX12_effect_0 a0 m = some r) : xFx hh_241 cX12_effect d 0 [some (.ref a0), o1, o2, o3, o4, o5] [] (xLay m) 0 0 (some (.int r.1)) (xLay r.2) := by
  unfold fX12_effect_0 at h
  refine fx_iconst (x := 0) dX12_effect_0 rfl (by decide) ?_
  refine fx_istore_n (ls2 := [some (.ref a0), some (.int (0 : Int32)), o2, o3, o4, o5]) dX12_effect_1 rfl rfl rfl ?_
  refine fx_iconst (x := 0) dX12_effect_2 rfl (by decide) ?_
  refine fx_istore_n (ls2 := [some (.ref a0), some (.int (0 : Int32)), some (.int (0 : Int32)), o3, o4, o5]) dX12_effect_3 rfl rfl rfl ?_
  refine fx_iconst (x := 0) dX12_effect_4 rfl (by decide) ?_
  refine fx_istore_n (ls2 := [some (.ref a0), some (.int (0 : Int32)), some (.int (0 : Int32)), some (.int (0 : Int32)), o4, o5]) dX12_effect_5 rfl rfl rfl ?_
  exact fX12_effect_6_ok hd ha0 xFuel (0 : Int32) (0 : Int32) (0 : Int32) (o4) (o5) q4 q5 m r h
def fX12_effect (a0 : Nat) (m : xMem) : Option (Int32 × xMem) := fX12_effect_0 a0  m
theorem fX12_effect_ok {a0 : Nat} {m : xMem} {r : (Int32 × xMem)} {d : Nat} (hd : 2 ≤ d) (ha0 : isModel a0) (h : fX12_effect a0 m = some r) : xEx d 241 [.ref a0] (xLay m) (some (.int r.1)) (xLay r.2) := by
  obtain ⟨d, rfl⟩ : ∃ q, d = q + 1 := ⟨d - 1, by omega⟩
  exact xEx_of me_241 rfl (fX12_effect_0_ok (d := d) (o1 := none) (o2 := none) (o3 := none) (o4 := none) (o5 := none) (by omega) ha0 rfl rfl rfl rfl rfl h)
def fX5_tell_16 (a0 : Nat) (a1 : Int32) (a2 : Int32) (a3 : Int32) (a4 : Int32) (m : xMem) : Option (Int32 × xMem) := some ((-1 : Int32), m)
set_option maxRecDepth 4000 in
theorem fX5_tell_16_ok {a0 : Nat} {a1 : Int32} {a2 : Int32} {a3 : Int32} {a4 : Int32} {d : Nat} (hd : 0 ≤ d) (ha0 : isMends a0) {m : xMem} {r : (Int32 × xMem)} (h : fX5_tell_16 a0 a1 a2 a3 a4 m = some r) : xFx hh_244 cX5_tell d 16 [some (.ref a0), some (.int a1), some (.int a2), some (.int a3), some (.int a4)] [] (xLay m) 0 0 (some (.int r.1)) (xLay r.2) := by
  unfold fX5_tell_16 at h
  refine fx_iconst (x := -1) dX5_tell_16 rfl (by decide) ?_
  cases h
  exact fx_ireturn dX5_tell_17 rfl rfl
def fX5_tell_0 (a0 : Nat) (a1 : Int32) (a2 : Int32) (a3 : Int32) (a4 : Int32) (m : xMem) : Option (Int32 × xMem) := xLet (m.1 a0 5) fun x1 => if x1 < (0 : Int32) then fX5_tell_16 a0 a1 a2 a3 a4 m else xLet (m.1 a0 5) fun x3 => if x3 < (6 : Int32) then xLet (m.1 a0 5) fun x5 => bif xIn x5 6 then xLet (xPut m (a0 + 1) x5.toNatClampNeg a1) fun m6 => xLet (m6.1 a0 5) fun x8 => bif xIn x8 6 then xLet (xPut m6 (a0 + 2) x8.toNatClampNeg a2) fun m9 => xLet (m9.1 a0 5) fun x11 => bif xIn x11 6 then xLet (xPut m9 (a0 + 3) x11.toNatClampNeg a3) fun m12 => xLet (m12.1 a0 5) fun x14 => bif xIn x14 6 then xLet (xPut m12 (a0 + 4) x14.toNatClampNeg a4) fun m15 => xLet (m15.1 a0 5) fun x17 => xLet (x17 + (1 : Int32)) fun x18 => xLet (xPut m15 a0 5 x18) fun m19 => xLet (m19.1 a0 5) fun x20 => xLet (x20 - (1 : Int32)) fun x21 => some (x21, m19) else none else none else none else none else fX5_tell_16 a0 a1 a2 a3 a4 m
set_option maxRecDepth 4000 in
theorem fX5_tell_0_ok {a0 : Nat} {a1 : Int32} {a2 : Int32} {a3 : Int32} {a4 : Int32} {d : Nat} (hd : 0 ≤ d) (ha0 : isMends a0) {m : xMem} {r : (Int32 × xMem)} (h : fX5_tell_0 a0 a1 a2 a3 a4 m = some r) : xFx hh_244 cX5_tell d 0 [some (.ref a0), some (.int a1), some (.int a2), some (.int a3), some (.int a4)] [] (xLay m) 0 0 (some (.int r.1)) (xLay r.2) := by
  unfold fX5_tell_0 at h
  refine fx_aload_n dX5_tell_0 rfl rfl ?_
  obtain ⟨x1, hx1, h⟩ := xLet_el h
  refine gx_get dX5_tell_1 rfl fd_5_27 ha0.1 rfl rfl hx1 ?_
  refine fx_if_lt (t := 16) dX5_tell_4 rfl rfl (fun hc2 => ?_) (fun hc2 => ?_)
  · rw [if_pos hc2] at h
    exact fX5_tell_16_ok hd ha0 h
  · rw [if_neg hc2] at h
    refine fx_aload_n dX5_tell_7 rfl rfl ?_
    obtain ⟨x3, hx3, h⟩ := xLet_el h
    refine gx_get dX5_tell_8 rfl fd_5_27 ha0.1 rfl rfl hx3 ?_
    refine fx_bipush (x := 6) dX5_tell_11 rfl (by decide) ?_
    refine fx_icmp_lt (t := 18) dX5_tell_13 rfl rfl (fun hc4 => ?_) (fun hc4 => ?_)
    · rw [if_pos hc4] at h
      refine fx_aload_n dX5_tell_18 rfl rfl ?_
      refine gx_getr dX5_tell_19 rfl fd_5_11 ha0.1 rfl rfl ?_
      refine fx_aload_n dX5_tell_22 rfl rfl ?_
      obtain ⟨x5, hx5, h⟩ := xLet_el h
      refine gx_get dX5_tell_23 rfl fd_5_27 ha0.1 rfl rfl hx5 ?_
      refine fx_iload_n dX5_tell_26 rfl rfl ?_
      obtain ⟨hj7, h⟩ := xChk_el h
      obtain ⟨m6, hm6, h⟩ := xLet_el h
      refine gx_iastore dX5_tell_27 rfl ha0.2.1 hj7 hm6 ?_
      refine fx_aload_n dX5_tell_28 rfl rfl ?_
      refine gx_getr dX5_tell_29 rfl fd_5_15 ha0.1 rfl rfl ?_
      refine fx_aload_n dX5_tell_32 rfl rfl ?_
      obtain ⟨x8, hx8, h⟩ := xLet_el h
      refine gx_get dX5_tell_33 rfl fd_5_27 ha0.1 rfl rfl hx8 ?_
      refine fx_iload_n dX5_tell_36 rfl rfl ?_
      obtain ⟨hj10, h⟩ := xChk_el h
      obtain ⟨m9, hm9, h⟩ := xLet_el h
      refine gx_iastore dX5_tell_37 rfl ha0.2.2.1 hj10 hm9 ?_
      refine fx_aload_n dX5_tell_38 rfl rfl ?_
      refine gx_getr dX5_tell_39 rfl fd_5_18 ha0.1 rfl rfl ?_
      refine fx_aload_n dX5_tell_42 rfl rfl ?_
      obtain ⟨x11, hx11, h⟩ := xLet_el h
      refine gx_get dX5_tell_43 rfl fd_5_27 ha0.1 rfl rfl hx11 ?_
      refine fx_iload_n dX5_tell_46 rfl rfl ?_
      obtain ⟨hj13, h⟩ := xChk_el h
      obtain ⟨m12, hm12, h⟩ := xLet_el h
      refine gx_iastore dX5_tell_47 rfl ha0.2.2.2.1 hj13 hm12 ?_
      refine fx_aload_n dX5_tell_48 rfl rfl ?_
      refine gx_getr dX5_tell_49 rfl fd_5_21 ha0.1 rfl rfl ?_
      refine fx_aload_n dX5_tell_52 rfl rfl ?_
      obtain ⟨x14, hx14, h⟩ := xLet_el h
      refine gx_get dX5_tell_53 rfl fd_5_27 ha0.1 rfl rfl hx14 ?_
      refine fx_iload dX5_tell_56 rfl rfl ?_
      obtain ⟨hj16, h⟩ := xChk_el h
      obtain ⟨m15, hm15, h⟩ := xLet_el h
      refine gx_iastore dX5_tell_58 rfl ha0.2.2.2.2.1 hj16 hm15 ?_
      refine fx_aload_n dX5_tell_59 rfl rfl ?_
      refine fx_dup dX5_tell_60 rfl rfl ?_
      obtain ⟨x17, hx17, h⟩ := xLet_el h
      refine gx_get dX5_tell_61 rfl fd_5_27 ha0.1 rfl rfl hx17 ?_
      refine fx_iconst (x := 1) dX5_tell_64 rfl (by decide) ?_
      obtain ⟨x18, hx18, h⟩ := xLet_el h
      refine fx_iadd dX5_tell_65 rfl hx18 ?_
      obtain ⟨m19, hm19, h⟩ := xLet_el h
      refine gx_put dX5_tell_66 rfl fd_5_27 ha0.1 rfl rfl rfl hm19 ?_
      refine fx_aload_n dX5_tell_69 rfl rfl ?_
      obtain ⟨x20, hx20, h⟩ := xLet_el h
      refine gx_get dX5_tell_70 rfl fd_5_27 ha0.1 rfl rfl hx20 ?_
      refine fx_iconst (x := 1) dX5_tell_73 rfl (by decide) ?_
      obtain ⟨x21, hx21, h⟩ := xLet_el h
      refine fx_isub dX5_tell_74 rfl hx21 ?_
      cases h
      exact fx_ireturn dX5_tell_75 rfl rfl
    · rw [if_neg hc4] at h
      exact fX5_tell_16_ok hd ha0 h
def fX5_tell (a0 : Nat) (a1 : Int32) (a2 : Int32) (a3 : Int32) (a4 : Int32) (m : xMem) : Option (Int32 × xMem) := fX5_tell_0 a0 a1 a2 a3 a4  m
theorem fX5_tell_ok {a0 : Nat} {a1 : Int32} {a2 : Int32} {a3 : Int32} {a4 : Int32} {m : xMem} {r : (Int32 × xMem)} {d : Nat} (hd : 1 ≤ d) (ha0 : isMends a0) (h : fX5_tell a0 a1 a2 a3 a4 m = some r) : xEx d 244 [.ref a0, .int a1, .int a2, .int a3, .int a4] (xLay m) (some (.int r.1)) (xLay r.2) := by
  obtain ⟨d, rfl⟩ : ∃ q, d = q + 1 := ⟨d - 1, by omega⟩
  exact xEx_of me_244 rfl (fX5_tell_0_ok (d := d) (by omega) ha0 h)
def fX11_mend_55 (a0 : Nat) (a1 : Int32) (a2 : Int32) (a3 : Int32) (a4 : Int32) (m : xMem) : Option (Int32 × xMem) := some ((-1 : Int32), m)
set_option maxRecDepth 4000 in
theorem fX11_mend_55_ok {a0 : Nat} {a1 : Int32} {a2 : Int32} {a3 : Int32} {a4 : Int32} {d : Nat} (hd : 1 ≤ d) (ha0 : isMS a0) {o5 : Option Value} {m : xMem} {r : (Int32 × xMem)} (q5 : xNoD o5 = true) (h : fX11_mend_55 a0 a1 a2 a3 a4 m = some r) : xFx hh_243 cX11_mend d 55 [some (.ref a0), some (.int a1), some (.int a2), some (.int a3), some (.int a4), o5] [] (xLay m) 0 0 (some (.int r.1)) (xLay r.2) := by
  unfold fX11_mend_55 at h
  refine fx_iconst (x := -1) dX11_mend_55 rfl (by decide) ?_
  cases h
  exact fx_ireturn dX11_mend_56 rfl rfl
def fX11_mend_37 (a0 : Nat) (a1 : Int32) (a2 : Int32) (a3 : Int32) (a4 : Int32) (s0 : Int32) (m : xMem) : Option (Int32 × xMem) := if s0 = (0 : Int32) then fX11_mend_55 a0 a1 a2 a3 a4 m else (fX11_within a4 (1 : Int32) (9 : Int32) m).bind fun p2 => if ¬ p2.1 = (0 : Int32) then (fX5_tell (a0 + 1 + 7) a1 a2 a3 a4 p2.2).bind fun p4 => some (p4.1, p4.2) else fX11_mend_55 a0 a1 a2 a3 a4 p2.2
set_option maxRecDepth 4000 in
theorem fX11_mend_37_ok {a0 : Nat} {a1 : Int32} {a2 : Int32} {a3 : Int32} {a4 : Int32} {d : Nat} (hd : 1 ≤ d) (ha0 : isMS a0) {s0 : Int32} {o5 : Option Value} {m : xMem} {r : (Int32 × xMem)} (q5 : xNoD o5 = true) (h : fX11_mend_37 a0 a1 a2 a3 a4 s0 m = some r) : xFx hh_243 cX11_mend d 37 [some (.ref a0), some (.int a1), some (.int a2), some (.int a3), some (.int a4), o5] [.int s0] (xLay m) 0 0 (some (.int r.1)) (xLay r.2) := by
  unfold fX11_mend_37 at h
  refine fx_istore (ls2 := [some (.ref a0), some (.int a1), some (.int a2), some (.int a3), some (.int a4), some (.int s0)]) dX11_mend_37 rfl rfl rfl ?_
  refine fx_iload dX11_mend_39 rfl rfl ?_
  refine fx_if_eq (t := 55) dX11_mend_41 rfl rfl (fun hc1 => ?_) (fun hc1 => ?_)
  · rw [if_pos hc1] at h
    exact fX11_mend_55_ok (o5 := some (.int s0)) hd ha0 rfl h
  · rw [if_neg hc1] at h
    refine fx_iload dX11_mend_44 rfl rfl ?_
    refine fx_iconst (x := 1) dX11_mend_46 rfl (by decide) ?_
    refine fx_bipush (x := 9) dX11_mend_47 rfl (by decide) ?_
    obtain ⟨p2, ep2, h⟩ := xBind_el h
    refine gx_calls (as := [.int a4, .int (1 : Int32), .int (9 : Int32)]) (r := []) rfl dX11_mend_49 ca_11_47 rfl me_14 rfl rfl rfl rfl (fX11_within_ok (d := d) (by omega) ep2) rfl rfl ?_
    refine fx_if_ne (t := 57) dX11_mend_52 rfl rfl (fun hc3 => ?_) (fun hc3 => ?_)
    · rw [if_pos hc3] at h
      refine fx_aload_n dX11_mend_57 rfl rfl ?_
      refine gx_getr dX11_mend_58 rfl fd_11_10 ha0.1 rfl rfl ?_
      refine gx_getr dX11_mend_61 rfl fd_11_282 ha0.2.1.1 rfl rfl ?_
      refine fx_iload_n dX11_mend_64 rfl rfl ?_
      refine fx_iload_n dX11_mend_65 rfl rfl ?_
      refine fx_iload_n dX11_mend_66 rfl rfl ?_
      refine fx_iload dX11_mend_67 rfl rfl ?_
      obtain ⟨p4, ep4, h⟩ := xBind_el h
      refine gx_callv (as := [.int a1, .int a2, .int a3, .int a4]) (r := []) rfl dX11_mend_69 ca_11_286 rfl me_244 rfl rfl rfl rfl (ha0.2.1.2.2.2.2.2.1.1) rfl (fX5_tell_ok (d := d) (by omega) ha0.2.1.2.2.2.2.2.1 ep4) rfl rfl ?_
      cases h
      exact fx_ireturn dX11_mend_72 rfl rfl
    · rw [if_neg hc3] at h
      exact fX11_mend_55_ok (o5 := some (.int s0)) hd ha0 rfl h
def fX11_mend_36 (a0 : Nat) (a1 : Int32) (a2 : Int32) (a3 : Int32) (a4 : Int32) (m : xMem) : Option (Int32 × xMem) := fX11_mend_37 a0 a1 a2 a3 a4 (0 : Int32) m
set_option maxRecDepth 4000 in
theorem fX11_mend_36_ok {a0 : Nat} {a1 : Int32} {a2 : Int32} {a3 : Int32} {a4 : Int32} {d : Nat} (hd : 1 ≤ d) (ha0 : isMS a0) {o5 : Option Value} {m : xMem} {r : (Int32 × xMem)} (q5 : xNoD o5 = true) (h : fX11_mend_36 a0 a1 a2 a3 a4 m = some r) : xFx hh_243 cX11_mend d 36 [some (.ref a0), some (.int a1), some (.int a2), some (.int a3), some (.int a4), o5] [] (xLay m) 0 0 (some (.int r.1)) (xLay r.2) := by
  unfold fX11_mend_36 at h
  refine fx_iconst (x := 0) dX11_mend_36 rfl (by decide) ?_
  exact fX11_mend_37_ok (o5 := o5) hd ha0 q5 h
def fX11_mend_0 (a0 : Nat) (a1 : Int32) (a2 : Int32) (a3 : Int32) (a4 : Int32) (m : xMem) : Option (Int32 × xMem) := (fX11_within a1 (0 : Int32) (999 : Int32) m).bind fun p1 => if p1.1 = (0 : Int32) then fX11_mend_36 a0 a1 a2 a3 a4 p1.2 else (fX11_within a2 (0 : Int32) (99 : Int32) p1.2).bind fun p3 => if p3.1 = (0 : Int32) then fX11_mend_36 a0 a1 a2 a3 a4 p3.2 else (fX11_within a3 (0 : Int32) (999 : Int32) p3.2).bind fun p5 => if p5.1 = (0 : Int32) then fX11_mend_36 a0 a1 a2 a3 a4 p5.2 else fX11_mend_37 a0 a1 a2 a3 a4 (1 : Int32) p5.2
set_option maxRecDepth 4000 in
theorem fX11_mend_0_ok {a0 : Nat} {a1 : Int32} {a2 : Int32} {a3 : Int32} {a4 : Int32} {d : Nat} (hd : 1 ≤ d) (ha0 : isMS a0) {o5 : Option Value} {m : xMem} {r : (Int32 × xMem)} (q5 : xNoD o5 = true) (h : fX11_mend_0 a0 a1 a2 a3 a4 m = some r) : xFx hh_243 cX11_mend d 0 [some (.ref a0), some (.int a1), some (.int a2), some (.int a3), some (.int a4), o5] [] (xLay m) 0 0 (some (.int r.1)) (xLay r.2) := by
  unfold fX11_mend_0 at h
  refine fx_iload_n dX11_mend_0 rfl rfl ?_
  refine fx_iconst (x := 0) dX11_mend_1 rfl (by decide) ?_
  refine fx_sipush (x := 999) dX11_mend_2 rfl (by decide) ?_
  obtain ⟨p1, ep1, h⟩ := xBind_el h
  refine gx_calls (as := [.int a1, .int (0 : Int32), .int (999 : Int32)]) (r := []) rfl dX11_mend_5 ca_11_47 rfl me_14 rfl rfl rfl rfl (fX11_within_ok (d := d) (by omega) ep1) rfl rfl ?_
  refine fx_if_eq (t := 36) dX11_mend_8 rfl rfl (fun hc2 => ?_) (fun hc2 => ?_)
  · rw [if_pos hc2] at h
    exact fX11_mend_36_ok (o5 := o5) hd ha0 q5 h
  · rw [if_neg hc2] at h
    refine fx_iload_n dX11_mend_11 rfl rfl ?_
    refine fx_iconst (x := 0) dX11_mend_12 rfl (by decide) ?_
    refine fx_bipush (x := 99) dX11_mend_13 rfl (by decide) ?_
    obtain ⟨p3, ep3, h⟩ := xBind_el h
    refine gx_calls (as := [.int a2, .int (0 : Int32), .int (99 : Int32)]) (r := []) rfl dX11_mend_15 ca_11_47 rfl me_14 rfl rfl rfl rfl (fX11_within_ok (d := d) (by omega) ep3) rfl rfl ?_
    refine fx_if_eq (t := 36) dX11_mend_18 rfl rfl (fun hc4 => ?_) (fun hc4 => ?_)
    · rw [if_pos hc4] at h
      exact fX11_mend_36_ok (o5 := o5) hd ha0 q5 h
    · rw [if_neg hc4] at h
      refine fx_iload_n dX11_mend_21 rfl rfl ?_
      refine fx_iconst (x := 0) dX11_mend_22 rfl (by decide) ?_
      refine fx_sipush (x := 999) dX11_mend_23 rfl (by decide) ?_
      obtain ⟨p5, ep5, h⟩ := xBind_el h
      refine gx_calls (as := [.int a3, .int (0 : Int32), .int (999 : Int32)]) (r := []) rfl dX11_mend_26 ca_11_47 rfl me_14 rfl rfl rfl rfl (fX11_within_ok (d := d) (by omega) ep5) rfl rfl ?_
      refine fx_if_eq (t := 36) dX11_mend_29 rfl rfl (fun hc6 => ?_) (fun hc6 => ?_)
      · rw [if_pos hc6] at h
        exact fX11_mend_36_ok (o5 := o5) hd ha0 q5 h
      · rw [if_neg hc6] at h
        refine fx_iconst (x := 1) dX11_mend_32 rfl (by decide) ?_
        refine fx_goto (t := 37) dX11_mend_33 rfl rfl ?_
        exact fX11_mend_37_ok (o5 := o5) hd ha0 q5 h
def fX11_mend (a0 : Nat) (a1 : Int32) (a2 : Int32) (a3 : Int32) (a4 : Int32) (m : xMem) : Option (Int32 × xMem) := fX11_mend_0 a0 a1 a2 a3 a4  m
theorem fX11_mend_ok {a0 : Nat} {a1 : Int32} {a2 : Int32} {a3 : Int32} {a4 : Int32} {m : xMem} {r : (Int32 × xMem)} {d : Nat} (hd : 2 ≤ d) (ha0 : isMS a0) (h : fX11_mend a0 a1 a2 a3 a4 m = some r) : xEx d 243 [.ref a0, .int a1, .int a2, .int a3, .int a4] (xLay m) (some (.int r.1)) (xLay r.2) := by
  obtain ⟨d, rfl⟩ : ∃ q, d = q + 1 := ⟨d - 1, by omega⟩
  exact xEx_of me_243 rfl (fX11_mend_0_ok (d := d) (o5 := none) (by omega) ha0 rfl h)
def fX12_mend_55 (a0 : Nat) (a1 : Int32) (a2 : Int32) (a3 : Int32) (a4 : Int32) (m : xMem) : Option (Int32 × xMem) := some ((-1 : Int32), m)
set_option maxRecDepth 4000 in
theorem fX12_mend_55_ok {a0 : Nat} {a1 : Int32} {a2 : Int32} {a3 : Int32} {a4 : Int32} {d : Nat} (hd : 1 ≤ d) (ha0 : isModel a0) {o5 : Option Value} {m : xMem} {r : (Int32 × xMem)} (q5 : xNoD o5 = true) (h : fX12_mend_55 a0 a1 a2 a3 a4 m = some r) : xFx hh_245 cX12_mend d 55 [some (.ref a0), some (.int a1), some (.int a2), some (.int a3), some (.int a4), o5] [] (xLay m) 0 0 (some (.int r.1)) (xLay r.2) := by
  unfold fX12_mend_55 at h
  refine fx_iconst (x := -1) dX12_mend_55 rfl (by decide) ?_
  cases h
  exact fx_ireturn dX12_mend_56 rfl rfl
def fX12_mend_0 (a0 : Nat) (a1 : Int32) (a2 : Int32) (a3 : Int32) (a4 : Int32) (m : xMem) : Option (Int32 × xMem) := (fX12_in a1 (0 : Int32) (999 : Int32) m).bind fun p1 => if p1.1 = (0 : Int32) then fX12_mend_55 a0 a1 a2 a3 a4 p1.2 else (fX12_in a2 (0 : Int32) (99 : Int32) p1.2).bind fun p3 => if p3.1 = (0 : Int32) then fX12_mend_55 a0 a1 a2 a3 a4 p3.2 else (fX12_in a3 (0 : Int32) (999 : Int32) p3.2).bind fun p5 => if p5.1 = (0 : Int32) then fX12_mend_55 a0 a1 a2 a3 a4 p5.2 else (fX12_in a4 (1 : Int32) (9 : Int32) p5.2).bind fun p7 => if p7.1 = (0 : Int32) then fX12_mend_55 a0 a1 a2 a3 a4 p7.2 else bif xIn (7 : Int32) 1610 then xLet (p7.2.1 (a0 + 1) (7 : Int32).toNatClampNeg) fun x9 => if ¬ x9 = (6 : Int32) then bif xIn (7 : Int32) 1610 then xLet (p7.2.1 (a0 + 1) (7 : Int32).toNatClampNeg) fun x12 => xLet ((4 : Int32) * x12) fun x14 => xLet ((1520 : Int32) + x14) fun x15 => bif xIn x15 1610 then xLet (xPut p7.2 (a0 + 1) x15.toNatClampNeg a1) fun m16 => xLet (x15 + (1 : Int32)) fun x18 => bif xIn x18 1610 then xLet (xPut m16 (a0 + 1) x18.toNatClampNeg a2) fun m19 => xLet (x15 + (2 : Int32)) fun x21 => bif xIn x21 1610 then xLet (xPut m19 (a0 + 1) x21.toNatClampNeg a3) fun m22 => xLet (x15 + (3 : Int32)) fun x24 => bif xIn x24 1610 then xLet (xPut m22 (a0 + 1) x24.toNatClampNeg a4) fun m25 => bif xIn (7 : Int32) 1610 then xLet (m25.1 (a0 + 1) (7 : Int32).toNatClampNeg) fun x27 => xLet (x27 + (1 : Int32)) fun x29 => bif xIn (7 : Int32) 1610 then xLet (xPut m25 (a0 + 1) (7 : Int32).toNatClampNeg x29) fun m30 => bif xIn (7 : Int32) 1610 then xLet (m30.1 (a0 + 1) (7 : Int32).toNatClampNeg) fun x32 => xLet (x32 - (1 : Int32)) fun x34 => some (x34, m30) else none else none else none else none else none else none else none else none else fX12_mend_55 a0 a1 a2 a3 a4 p7.2 else none
set_option maxRecDepth 4000 in
theorem fX12_mend_0_ok {a0 : Nat} {a1 : Int32} {a2 : Int32} {a3 : Int32} {a4 : Int32} {d : Nat} (hd : 1 ≤ d) (ha0 : isModel a0) {o5 : Option Value} {m : xMem} {r : (Int32 × xMem)} (q5 : xNoD o5 = true) (h : fX12_mend_0 a0 a1 a2 a3 a4 m = some r) : xFx hh_245 cX12_mend d 0 [some (.ref a0), some (.int a1), some (.int a2), some (.int a3), some (.int a4), o5] [] (xLay m) 0 0 (some (.int r.1)) (xLay r.2) := by
  unfold fX12_mend_0 at h
  refine fx_iload_n dX12_mend_0 rfl rfl ?_
  refine fx_iconst (x := 0) dX12_mend_1 rfl (by decide) ?_
  refine fx_sipush (x := 999) dX12_mend_2 rfl (by decide) ?_
  obtain ⟨p1, ep1, h⟩ := xBind_el h
  refine gx_calls (as := [.int a1, .int (0 : Int32), .int (999 : Int32)]) (r := []) rfl dX12_mend_5 ca_12_95 rfl me_18 rfl rfl rfl rfl (fX12_in_ok (d := d) (by omega) ep1) rfl rfl ?_
  refine fx_if_eq (t := 55) dX12_mend_8 rfl rfl (fun hc2 => ?_) (fun hc2 => ?_)
  · rw [if_pos hc2] at h
    exact fX12_mend_55_ok (o5 := o5) hd ha0 q5 h
  · rw [if_neg hc2] at h
    refine fx_iload_n dX12_mend_11 rfl rfl ?_
    refine fx_iconst (x := 0) dX12_mend_12 rfl (by decide) ?_
    refine fx_bipush (x := 99) dX12_mend_13 rfl (by decide) ?_
    obtain ⟨p3, ep3, h⟩ := xBind_el h
    refine gx_calls (as := [.int a2, .int (0 : Int32), .int (99 : Int32)]) (r := []) rfl dX12_mend_15 ca_12_95 rfl me_18 rfl rfl rfl rfl (fX12_in_ok (d := d) (by omega) ep3) rfl rfl ?_
    refine fx_if_eq (t := 55) dX12_mend_18 rfl rfl (fun hc4 => ?_) (fun hc4 => ?_)
    · rw [if_pos hc4] at h
      exact fX12_mend_55_ok (o5 := o5) hd ha0 q5 h
    · rw [if_neg hc4] at h
      refine fx_iload_n dX12_mend_21 rfl rfl ?_
      refine fx_iconst (x := 0) dX12_mend_22 rfl (by decide) ?_
      refine fx_sipush (x := 999) dX12_mend_23 rfl (by decide) ?_
      obtain ⟨p5, ep5, h⟩ := xBind_el h
      refine gx_calls (as := [.int a3, .int (0 : Int32), .int (999 : Int32)]) (r := []) rfl dX12_mend_26 ca_12_95 rfl me_18 rfl rfl rfl rfl (fX12_in_ok (d := d) (by omega) ep5) rfl rfl ?_
      refine fx_if_eq (t := 55) dX12_mend_29 rfl rfl (fun hc6 => ?_) (fun hc6 => ?_)
      · rw [if_pos hc6] at h
        exact fX12_mend_55_ok (o5 := o5) hd ha0 q5 h
      · rw [if_neg hc6] at h
        refine fx_iload dX12_mend_32 rfl rfl ?_
        refine fx_iconst (x := 1) dX12_mend_34 rfl (by decide) ?_
        refine fx_bipush (x := 9) dX12_mend_35 rfl (by decide) ?_
        obtain ⟨p7, ep7, h⟩ := xBind_el h
        refine gx_calls (as := [.int a4, .int (1 : Int32), .int (9 : Int32)]) (r := []) rfl dX12_mend_37 ca_12_95 rfl me_18 rfl rfl rfl rfl (fX12_in_ok (d := d) (by omega) ep7) rfl rfl ?_
        refine fx_if_eq (t := 55) dX12_mend_40 rfl rfl (fun hc8 => ?_) (fun hc8 => ?_)
        · rw [if_pos hc8] at h
          exact fX12_mend_55_ok (o5 := o5) hd ha0 q5 h
        · rw [if_neg hc8] at h
          refine fx_aload_n dX12_mend_43 rfl rfl ?_
          refine gx_getr dX12_mend_44 rfl fd_12_7 ha0.1 rfl rfl ?_
          refine fx_bipush (x := 7) dX12_mend_47 rfl (by decide) ?_
          obtain ⟨hj10, h⟩ := xChk_el h
          obtain ⟨x9, hx9, h⟩ := xLet_el h
          refine gx_iaload dX12_mend_49 rfl ha0.2.1 hj10 hx9 ?_
          refine fx_bipush (x := 6) dX12_mend_50 rfl (by decide) ?_
          refine fx_icmp_ne (t := 57) dX12_mend_52 rfl rfl (fun hc11 => ?_) (fun hc11 => ?_)
          · rw [if_pos hc11] at h
            refine fx_sipush (x := 1520) dX12_mend_57 rfl (by decide) ?_
            refine fx_iconst (x := 4) dX12_mend_60 rfl (by decide) ?_
            refine fx_aload_n dX12_mend_61 rfl rfl ?_
            refine gx_getr dX12_mend_62 rfl fd_12_7 ha0.1 rfl rfl ?_
            refine fx_bipush (x := 7) dX12_mend_65 rfl (by decide) ?_
            obtain ⟨hj13, h⟩ := xChk_el h
            obtain ⟨x12, hx12, h⟩ := xLet_el h
            refine gx_iaload dX12_mend_67 rfl ha0.2.1 hj13 hx12 ?_
            obtain ⟨x14, hx14, h⟩ := xLet_el h
            refine fx_imul dX12_mend_68 rfl hx14 ?_
            obtain ⟨x15, hx15, h⟩ := xLet_el h
            refine fx_iadd dX12_mend_69 rfl hx15 ?_
            refine fx_istore (ls2 := [some (.ref a0), some (.int a1), some (.int a2), some (.int a3), some (.int a4), some (.int x15)]) dX12_mend_70 rfl rfl rfl ?_
            refine fx_aload_n dX12_mend_72 rfl rfl ?_
            refine gx_getr dX12_mend_73 rfl fd_12_7 ha0.1 rfl rfl ?_
            refine fx_iload dX12_mend_76 rfl rfl ?_
            refine fx_iload_n dX12_mend_78 rfl rfl ?_
            obtain ⟨hj17, h⟩ := xChk_el h
            obtain ⟨m16, hm16, h⟩ := xLet_el h
            refine gx_iastore dX12_mend_79 rfl ha0.2.1 hj17 hm16 ?_
            refine fx_aload_n dX12_mend_80 rfl rfl ?_
            refine gx_getr dX12_mend_81 rfl fd_12_7 ha0.1 rfl rfl ?_
            refine fx_iload dX12_mend_84 rfl rfl ?_
            refine fx_iconst (x := 1) dX12_mend_86 rfl (by decide) ?_
            obtain ⟨x18, hx18, h⟩ := xLet_el h
            refine fx_iadd dX12_mend_87 rfl hx18 ?_
            refine fx_iload_n dX12_mend_88 rfl rfl ?_
            obtain ⟨hj20, h⟩ := xChk_el h
            obtain ⟨m19, hm19, h⟩ := xLet_el h
            refine gx_iastore dX12_mend_89 rfl ha0.2.1 hj20 hm19 ?_
            refine fx_aload_n dX12_mend_90 rfl rfl ?_
            refine gx_getr dX12_mend_91 rfl fd_12_7 ha0.1 rfl rfl ?_
            refine fx_iload dX12_mend_94 rfl rfl ?_
            refine fx_iconst (x := 2) dX12_mend_96 rfl (by decide) ?_
            obtain ⟨x21, hx21, h⟩ := xLet_el h
            refine fx_iadd dX12_mend_97 rfl hx21 ?_
            refine fx_iload_n dX12_mend_98 rfl rfl ?_
            obtain ⟨hj23, h⟩ := xChk_el h
            obtain ⟨m22, hm22, h⟩ := xLet_el h
            refine gx_iastore dX12_mend_99 rfl ha0.2.1 hj23 hm22 ?_
            refine fx_aload_n dX12_mend_100 rfl rfl ?_
            refine gx_getr dX12_mend_101 rfl fd_12_7 ha0.1 rfl rfl ?_
            refine fx_iload dX12_mend_104 rfl rfl ?_
            refine fx_iconst (x := 3) dX12_mend_106 rfl (by decide) ?_
            obtain ⟨x24, hx24, h⟩ := xLet_el h
            refine fx_iadd dX12_mend_107 rfl hx24 ?_
            refine fx_iload dX12_mend_108 rfl rfl ?_
            obtain ⟨hj26, h⟩ := xChk_el h
            obtain ⟨m25, hm25, h⟩ := xLet_el h
            refine gx_iastore dX12_mend_110 rfl ha0.2.1 hj26 hm25 ?_
            refine fx_aload_n dX12_mend_111 rfl rfl ?_
            refine gx_getr dX12_mend_112 rfl fd_12_7 ha0.1 rfl rfl ?_
            refine fx_bipush (x := 7) dX12_mend_115 rfl (by decide) ?_
            refine fx_dup2 dX12_mend_117 rfl rfl ?_
            obtain ⟨hj28, h⟩ := xChk_el h
            obtain ⟨x27, hx27, h⟩ := xLet_el h
            refine gx_iaload dX12_mend_118 rfl ha0.2.1 hj28 hx27 ?_
            refine fx_iconst (x := 1) dX12_mend_119 rfl (by decide) ?_
            obtain ⟨x29, hx29, h⟩ := xLet_el h
            refine fx_iadd dX12_mend_120 rfl hx29 ?_
            obtain ⟨hj31, h⟩ := xChk_el h
            obtain ⟨m30, hm30, h⟩ := xLet_el h
            refine gx_iastore dX12_mend_121 rfl ha0.2.1 hj31 hm30 ?_
            refine fx_aload_n dX12_mend_122 rfl rfl ?_
            refine gx_getr dX12_mend_123 rfl fd_12_7 ha0.1 rfl rfl ?_
            refine fx_bipush (x := 7) dX12_mend_126 rfl (by decide) ?_
            obtain ⟨hj33, h⟩ := xChk_el h
            obtain ⟨x32, hx32, h⟩ := xLet_el h
            refine gx_iaload dX12_mend_128 rfl ha0.2.1 hj33 hx32 ?_
            refine fx_iconst (x := 1) dX12_mend_129 rfl (by decide) ?_
            obtain ⟨x34, hx34, h⟩ := xLet_el h
            refine fx_isub dX12_mend_130 rfl hx34 ?_
            cases h
            exact fx_ireturn dX12_mend_131 rfl rfl
          · rw [if_neg hc11] at h
            exact fX12_mend_55_ok (o5 := o5) hd ha0 q5 h
def fX12_mend (a0 : Nat) (a1 : Int32) (a2 : Int32) (a3 : Int32) (a4 : Int32) (m : xMem) : Option (Int32 × xMem) := fX12_mend_0 a0 a1 a2 a3 a4  m
theorem fX12_mend_ok {a0 : Nat} {a1 : Int32} {a2 : Int32} {a3 : Int32} {a4 : Int32} {m : xMem} {r : (Int32 × xMem)} {d : Nat} (hd : 2 ≤ d) (ha0 : isModel a0) (h : fX12_mend a0 a1 a2 a3 a4 m = some r) : xEx d 245 [.ref a0, .int a1, .int a2, .int a3, .int a4] (xLay m) (some (.int r.1)) (xLay r.2) := by
  obtain ⟨d, rfl⟩ : ∃ q, d = q + 1 := ⟨d - 1, by omega⟩
  exact xEx_of me_245 rfl (fX12_mend_0_ok (d := d) (o5 := none) (by omega) ha0 rfl h)
def fX5_countBy_29 (a0 : Nat) (a1 : Int32) (a2 : Int32) (m : xMem) : Option (Int32 × xMem) := some ((0 : Int32), m)
set_option maxRecDepth 4000 in
theorem fX5_countBy_29_ok {a0 : Nat} {a1 : Int32} {a2 : Int32} {d : Nat} (hd : 0 ≤ d) (ha0 : isMends a0) {o3 : Option Value} {o4 : Option Value} {o5 : Option Value} {o6 : Option Value} {o7 : Option Value} {m : xMem} {r : (Int32 × xMem)} (q3 : xNoD o3 = true) (q4 : xNoD o4 = true) (q5 : xNoD o5 = true) (q6 : xNoD o6 = true) (q7 : xNoD o7 = true) (h : fX5_countBy_29 a0 a1 a2 m = some r) : xFx hh_249 cX5_countBy d 29 [some (.ref a0), some (.int a1), some (.int a2), o3, o4, o5, o6, o7] [] (xLay m) 0 0 (some (.int r.1)) (xLay r.2) := by
  unfold fX5_countBy_29 at h
  refine fx_iconst (x := 0) dX5_countBy_29 rfl (by decide) ?_
  cases h
  exact fx_ireturn dX5_countBy_30 rfl rfl
def fX5_countBy_67 (a0 : Nat) (a1 : Int32) (a2 : Int32) (rec37 : Int32 → Int32 → Int32 → xMem → Option (Int32 × xMem)) (l3 : Int32) (l5 : Int32) (s0 : Int32) (s1 : Int32) (m : xMem) : Option (Int32 × xMem) := xLet (s0 + s1) fun x1 => xLet (l5 + (1 : Int32)) fun x2 => rec37 l3 x1 x2 m
set_option maxRecDepth 4000 in
theorem fX5_countBy_67_ok {a0 : Nat} {a1 : Int32} {a2 : Int32} {rec37 : Int32 → Int32 → Int32 → xMem → Option (Int32 × xMem)} {d : Nat} (hd : 0 ≤ d) (ha0 : isMends a0) (hrec37 : ∀ (l3 : Int32) (l4 : Int32) (l5 : Int32) (o6 : Option Value) (o7 : Option Value) (q6 : xNoD o6 = true) (q7 : xNoD o7 = true) (m : xMem) (r : (Int32 × xMem)), rec37 l3 l4 l5 m = some r → xFx hh_249 cX5_countBy d 37 [some (.ref a0), some (.int a1), some (.int a2), some (.int l3), some (.int l4), some (.int l5), o6, o7] [] (xLay m) 0 0 (some (.int r.1)) (xLay r.2)) {l3 : Int32} {l5 : Int32} {s0 : Int32} {s1 : Int32} {o4 : Option Value} {o6 : Option Value} {o7 : Option Value} {m : xMem} {r : (Int32 × xMem)} (q4 : xNoD o4 = true) (q6 : xNoD o6 = true) (q7 : xNoD o7 = true) (h : fX5_countBy_67 a0 a1 a2 rec37 l3 l5 s0 s1 m = some r) : xFx hh_249 cX5_countBy d 67 [some (.ref a0), some (.int a1), some (.int a2), some (.int l3), o4, some (.int l5), o6, o7] [.int s1, .int s0] (xLay m) 0 0 (some (.int r.1)) (xLay r.2) := by
  unfold fX5_countBy_67 at h
  obtain ⟨x1, hx1, h⟩ := xLet_el h
  refine fx_iadd dX5_countBy_67 rfl hx1 ?_
  refine fx_istore (ls2 := [some (.ref a0), some (.int a1), some (.int a2), some (.int l3), some (.int x1), some (.int l5), o6, o7]) dX5_countBy_68 rfl rfl rfl ?_
  obtain ⟨x2, hx2, h⟩ := xLet_el h
  refine fx_iinc (ls2 := [some (.ref a0), some (.int a1), some (.int a2), some (.int l3), some (.int x1), some (.int x2), o6, o7]) dX5_countBy_70 rfl rfl rfl hx2 rfl ?_
  refine fx_goto (t := 37) dX5_countBy_73 rfl rfl ?_
  exact hrec37 l3 x1 x2 (o6) (o7) q6 q7 m r h
def fX5_countBy_161 (a0 : Nat) (a1 : Int32) (a2 : Int32) (rec87 : Int32 → Int32 → Int32 → Int32 → xMem → Option (Int32 × xMem)) (rec107 : Int32 → Int32 → Int32 → Int32 → Int32 → xMem → Option (Int32 × xMem)) (l3 : Int32) (l4 : Int32) (l5 : Int32) (l6 : Int32) (l7 : Int32) (m : xMem) : Option (Int32 × xMem) := xLet (l7 + (1 : Int32)) fun x1 => rec107 l3 l4 l5 l6 x1 m
set_option maxRecDepth 4000 in
theorem fX5_countBy_161_ok {a0 : Nat} {a1 : Int32} {a2 : Int32} {rec87 : Int32 → Int32 → Int32 → Int32 → xMem → Option (Int32 × xMem)} {rec107 : Int32 → Int32 → Int32 → Int32 → Int32 → xMem → Option (Int32 × xMem)} {d : Nat} (hd : 0 ≤ d) (ha0 : isMends a0) (hrec87 : ∀ (l3 : Int32) (l4 : Int32) (l5 : Int32) (l6 : Int32) (o7 : Option Value) (q7 : xNoD o7 = true) (m : xMem) (r : (Int32 × xMem)), rec87 l3 l4 l5 l6 m = some r → xFx hh_249 cX5_countBy d 87 [some (.ref a0), some (.int a1), some (.int a2), some (.int l3), some (.int l4), some (.int l5), some (.int l6), o7] [] (xLay m) 0 0 (some (.int r.1)) (xLay r.2)) (hrec107 : ∀ (l3 : Int32) (l4 : Int32) (l5 : Int32) (l6 : Int32) (l7 : Int32) (m : xMem) (r : (Int32 × xMem)), rec107 l3 l4 l5 l6 l7 m = some r → xFx hh_249 cX5_countBy d 107 [some (.ref a0), some (.int a1), some (.int a2), some (.int l3), some (.int l4), some (.int l5), some (.int l6), some (.int l7)] [] (xLay m) 0 0 (some (.int r.1)) (xLay r.2)) {l3 : Int32} {l4 : Int32} {l5 : Int32} {l6 : Int32} {l7 : Int32} {m : xMem} {r : (Int32 × xMem)} (h : fX5_countBy_161 a0 a1 a2 rec87 rec107 l3 l4 l5 l6 l7 m = some r) : xFx hh_249 cX5_countBy d 161 [some (.ref a0), some (.int a1), some (.int a2), some (.int l3), some (.int l4), some (.int l5), some (.int l6), some (.int l7)] [] (xLay m) 0 0 (some (.int r.1)) (xLay r.2) := by
  unfold fX5_countBy_161 at h
  obtain ⟨x1, hx1, h⟩ := xLet_el h
  refine fx_iinc (ls2 := [some (.ref a0), some (.int a1), some (.int a2), some (.int l3), some (.int l4), some (.int l5), some (.int l6), some (.int x1)]) dX5_countBy_161 rfl rfl rfl hx1 rfl ?_
  refine fx_goto (t := 107) dX5_countBy_164 rfl rfl ?_
  exact hrec107 l3 l4 l5 l6 x1 m r h
def fX5_countBy_107 (a0 : Nat) (a1 : Int32) (a2 : Int32) (rec87 : Int32 → Int32 → Int32 → Int32 → xMem → Option (Int32 × xMem)) : Nat → Int32 → Int32 → Int32 → Int32 → Int32 → xMem → Option (Int32 × xMem)
  | 0, _, _, _, _, _, _ => none
  | fuel + 1, l3, l4, l5, l6, l7, m => bif xIn a2 6 then xLet (m.1 (a0 + 4) a2.toNatClampNeg) fun x1 => xLet (l4 + x1) fun x3 => if x3 ≤ l7 then xLet (l6 + (1 : Int32)) fun x5 => rec87 l3 l4 l5 x5 m else xLet (l3 >>> (l6 &&& 31)) fun x6 => xLet (x6 &&& (1 : Int32)) fun x7 => if ¬ x7 = (0 : Int32) then fX5_countBy_161 a0 a1 a2 rec87 (fX5_countBy_107 a0 a1 a2 rec87 fuel) l3 l4 l5 l6 l7 m else bif xIn l6 6 then xLet (m.1 (a0 + 1) l6.toNatClampNeg) fun x9 => bif xIn l6 6 then xLet (m.1 (a0 + 2) l6.toNatClampNeg) fun x11 => xLet (x11 * l7) fun x13 => xLet (x9 + x13) fun x14 => bif xIn l6 6 then xLet (m.1 (a0 + 3) l6.toNatClampNeg) fun x15 => if x14 ≤ x15 then fX5_countBy_161 a0 a1 a2 rec87 (fX5_countBy_107 a0 a1 a2 rec87 fuel) l3 l4 l5 l6 l7 m else xLet (l5 + (1 : Int32)) fun x18 => fX5_countBy_161 a0 a1 a2 rec87 (fX5_countBy_107 a0 a1 a2 rec87 fuel) l3 l4 x18 l6 l7 m else none else none else none else none
set_option maxRecDepth 4000 in
theorem fX5_countBy_107_ok {a0 : Nat} {a1 : Int32} {a2 : Int32} {rec87 : Int32 → Int32 → Int32 → Int32 → xMem → Option (Int32 × xMem)} {d : Nat} (hd : 0 ≤ d) (ha0 : isMends a0) (hrec87 : ∀ (l3 : Int32) (l4 : Int32) (l5 : Int32) (l6 : Int32) (o7 : Option Value) (q7 : xNoD o7 = true) (m : xMem) (r : (Int32 × xMem)), rec87 l3 l4 l5 l6 m = some r → xFx hh_249 cX5_countBy d 87 [some (.ref a0), some (.int a1), some (.int a2), some (.int l3), some (.int l4), some (.int l5), some (.int l6), o7] [] (xLay m) 0 0 (some (.int r.1)) (xLay r.2)) : ∀ (fuel : Nat) (l3 : Int32) (l4 : Int32) (l5 : Int32) (l6 : Int32) (l7 : Int32) (m : xMem) (r : (Int32 × xMem)), fX5_countBy_107 a0 a1 a2 rec87 fuel l3 l4 l5 l6 l7 m = some r → xFx hh_249 cX5_countBy d 107 [some (.ref a0), some (.int a1), some (.int a2), some (.int l3), some (.int l4), some (.int l5), some (.int l6), some (.int l7)] [] (xLay m) 0 0 (some (.int r.1)) (xLay r.2) := by
  intro fuel
  induction fuel with
  | zero => intro l3 l4 l5 l6 l7  m r  h; cases h
  | succ fuel ih =>
    intro l3 l4 l5 l6 l7  m r  h
    unfold fX5_countBy_107 at h
    refine fx_iload dX5_countBy_107 rfl rfl ?_
    refine fx_iload dX5_countBy_109 rfl rfl ?_
    refine fx_aload_n dX5_countBy_111 rfl rfl ?_
    refine gx_getr dX5_countBy_112 rfl fd_5_21 ha0.1 rfl rfl ?_
    refine fx_iload_n dX5_countBy_115 rfl rfl ?_
    obtain ⟨hj2, h⟩ := xChk_el h
    obtain ⟨x1, hx1, h⟩ := xLet_el h
    refine gx_iaload dX5_countBy_116 rfl ha0.2.2.2.2.1 hj2 hx1 ?_
    obtain ⟨x3, hx3, h⟩ := xLet_el h
    refine fx_iadd dX5_countBy_117 rfl hx3 ?_
    refine fx_icmp_ge (t := 167) dX5_countBy_118 rfl rfl (fun hc4 => ?_) (fun hc4 => ?_)
    · rw [if_pos hc4] at h
      obtain ⟨x5, hx5, h⟩ := xLet_el h
      refine fx_iinc (ls2 := [some (.ref a0), some (.int a1), some (.int a2), some (.int l3), some (.int l4), some (.int l5), some (.int x5), some (.int l7)]) dX5_countBy_167 rfl rfl rfl hx5 rfl ?_
      refine fx_goto (t := 87) dX5_countBy_170 rfl rfl ?_
      exact hrec87 l3 l4 l5 x5 (some (.int l7)) rfl m r h
    · rw [if_neg hc4] at h
      refine fx_iload_n dX5_countBy_121 rfl rfl ?_
      refine fx_iload dX5_countBy_122 rfl rfl ?_
      obtain ⟨x6, hx6, h⟩ := xLet_el h
      refine fx_ishr dX5_countBy_124 rfl hx6 ?_
      refine fx_iconst (x := 1) dX5_countBy_125 rfl (by decide) ?_
      obtain ⟨x7, hx7, h⟩ := xLet_el h
      refine fx_iand dX5_countBy_126 rfl hx7 ?_
      refine fx_if_ne (t := 161) dX5_countBy_127 rfl rfl (fun hc8 => ?_) (fun hc8 => ?_)
      · rw [if_pos hc8] at h
        exact fX5_countBy_161_ok hd ha0 hrec87 ih h
      · rw [if_neg hc8] at h
        refine fx_aload_n dX5_countBy_130 rfl rfl ?_
        refine gx_getr dX5_countBy_131 rfl fd_5_11 ha0.1 rfl rfl ?_
        refine fx_iload dX5_countBy_134 rfl rfl ?_
        obtain ⟨hj10, h⟩ := xChk_el h
        obtain ⟨x9, hx9, h⟩ := xLet_el h
        refine gx_iaload dX5_countBy_136 rfl ha0.2.1 hj10 hx9 ?_
        refine fx_aload_n dX5_countBy_137 rfl rfl ?_
        refine gx_getr dX5_countBy_138 rfl fd_5_15 ha0.1 rfl rfl ?_
        refine fx_iload dX5_countBy_141 rfl rfl ?_
        obtain ⟨hj12, h⟩ := xChk_el h
        obtain ⟨x11, hx11, h⟩ := xLet_el h
        refine gx_iaload dX5_countBy_143 rfl ha0.2.2.1 hj12 hx11 ?_
        refine fx_iload dX5_countBy_144 rfl rfl ?_
        obtain ⟨x13, hx13, h⟩ := xLet_el h
        refine fx_imul dX5_countBy_146 rfl hx13 ?_
        obtain ⟨x14, hx14, h⟩ := xLet_el h
        refine fx_iadd dX5_countBy_147 rfl hx14 ?_
        refine fx_aload_n dX5_countBy_148 rfl rfl ?_
        refine gx_getr dX5_countBy_149 rfl fd_5_18 ha0.1 rfl rfl ?_
        refine fx_iload dX5_countBy_152 rfl rfl ?_
        obtain ⟨hj16, h⟩ := xChk_el h
        obtain ⟨x15, hx15, h⟩ := xLet_el h
        refine gx_iaload dX5_countBy_154 rfl ha0.2.2.2.1 hj16 hx15 ?_
        refine fx_icmp_le (t := 161) dX5_countBy_155 rfl rfl (fun hc17 => ?_) (fun hc17 => ?_)
        · rw [if_pos hc17] at h
          exact fX5_countBy_161_ok hd ha0 hrec87 ih h
        · rw [if_neg hc17] at h
          obtain ⟨x18, hx18, h⟩ := xLet_el h
          refine fx_iinc (ls2 := [some (.ref a0), some (.int a1), some (.int a2), some (.int l3), some (.int l4), some (.int x18), some (.int l6), some (.int l7)]) dX5_countBy_158 rfl rfl rfl hx18 rfl ?_
          exact fX5_countBy_161_ok hd ha0 hrec87 ih h
def fX5_countBy_173 (a0 : Nat) (a1 : Int32) (a2 : Int32) (l5 : Int32) (m : xMem) : Option (Int32 × xMem) := some (l5, m)
set_option maxRecDepth 4000 in
theorem fX5_countBy_173_ok {a0 : Nat} {a1 : Int32} {a2 : Int32} {d : Nat} (hd : 0 ≤ d) (ha0 : isMends a0) {l5 : Int32} {o3 : Option Value} {o4 : Option Value} {o6 : Option Value} {o7 : Option Value} {m : xMem} {r : (Int32 × xMem)} (q3 : xNoD o3 = true) (q4 : xNoD o4 = true) (q6 : xNoD o6 = true) (q7 : xNoD o7 = true) (h : fX5_countBy_173 a0 a1 a2 l5 m = some r) : xFx hh_249 cX5_countBy d 173 [some (.ref a0), some (.int a1), some (.int a2), o3, o4, some (.int l5), o6, o7] [] (xLay m) 0 0 (some (.int r.1)) (xLay r.2) := by
  unfold fX5_countBy_173 at h
  refine fx_iload dX5_countBy_173 rfl rfl ?_
  cases h
  exact fx_ireturn dX5_countBy_175 rfl rfl
def fX5_countBy_87 (a0 : Nat) (a1 : Int32) (a2 : Int32) : Nat → Int32 → Int32 → Int32 → Int32 → xMem → Option (Int32 × xMem)
  | 0, _, _, _, _, _ => none
  | fuel + 1, l3, l4, l5, l6, m => xLet (m.1 a0 5) fun x1 => if x1 ≤ l6 then fX5_countBy_173 a0 a1 a2 l5 m else if (6 : Int32) ≤ l6 then fX5_countBy_173 a0 a1 a2 l5 m else fX5_countBy_107 a0 a1 a2 (fX5_countBy_87 a0 a1 a2 fuel) xFuel l3 l4 l5 l6 l4 m
set_option maxRecDepth 4000 in
theorem fX5_countBy_87_ok {a0 : Nat} {a1 : Int32} {a2 : Int32} {d : Nat} (hd : 0 ≤ d) (ha0 : isMends a0) : ∀ (fuel : Nat) (l3 : Int32) (l4 : Int32) (l5 : Int32) (l6 : Int32) (o7 : Option Value) (q7 : xNoD o7 = true) (m : xMem) (r : (Int32 × xMem)), fX5_countBy_87 a0 a1 a2 fuel l3 l4 l5 l6 m = some r → xFx hh_249 cX5_countBy d 87 [some (.ref a0), some (.int a1), some (.int a2), some (.int l3), some (.int l4), some (.int l5), some (.int l6), o7] [] (xLay m) 0 0 (some (.int r.1)) (xLay r.2) := by
  intro fuel
  induction fuel with
  | zero => intro l3 l4 l5 l6 o7 q7 m r  h; cases h
  | succ fuel ih =>
    intro l3 l4 l5 l6 o7 q7 m r  h
    unfold fX5_countBy_87 at h
    refine fx_iload dX5_countBy_87 rfl rfl ?_
    refine fx_aload_n dX5_countBy_89 rfl rfl ?_
    obtain ⟨x1, hx1, h⟩ := xLet_el h
    refine gx_get dX5_countBy_90 rfl fd_5_27 ha0.1 rfl rfl hx1 ?_
    refine fx_icmp_ge (t := 173) dX5_countBy_93 rfl rfl (fun hc2 => ?_) (fun hc2 => ?_)
    · rw [if_pos hc2] at h
      exact fX5_countBy_173_ok (o3 := some (.int l3)) (o4 := some (.int l4)) (o6 := some (.int l6)) (o7 := o7) hd ha0 rfl rfl rfl q7 h
    · rw [if_neg hc2] at h
      refine fx_iload dX5_countBy_96 rfl rfl ?_
      refine fx_bipush (x := 6) dX5_countBy_98 rfl (by decide) ?_
      refine fx_icmp_ge (t := 173) dX5_countBy_100 rfl rfl (fun hc3 => ?_) (fun hc3 => ?_)
      · rw [if_pos hc3] at h
        exact fX5_countBy_173_ok (o3 := some (.int l3)) (o4 := some (.int l4)) (o6 := some (.int l6)) (o7 := o7) hd ha0 rfl rfl rfl q7 h
      · rw [if_neg hc3] at h
        refine fx_iload dX5_countBy_103 rfl rfl ?_
        refine fx_istore (ls2 := [some (.ref a0), some (.int a1), some (.int a2), some (.int l3), some (.int l4), some (.int l5), some (.int l6), some (.int l4)]) dX5_countBy_105 rfl rfl rfl ?_
        exact fX5_countBy_107_ok hd ha0 ih xFuel l3 l4 l5 l6 l4 m r h
def fX5_countBy_37 (a0 : Nat) (a1 : Int32) (a2 : Int32) : Nat → Int32 → Int32 → Int32 → xMem → Option (Int32 × xMem)
  | 0, _, _, _, _ => none
  | fuel + 1, l3, l4, l5, m => if (6 : Int32) ≤ l5 then bif xIn l3 64 then xLet (m.1 (a0 + 5) l3.toNatClampNeg) fun x2 => fX5_countBy_87 a0 a1 a2 xFuel l3 l4 x2 (0 : Int32) m else none else xLet (a1 >>> (l5 &&& 31)) fun x4 => xLet (x4 &&& (1 : Int32)) fun x5 => if ¬ x5 = (1 : Int32) then fX5_countBy_67 a0 a1 a2 (fX5_countBy_37 a0 a1 a2 fuel) l3 l5 l4 (0 : Int32) m else bif xIn l5 6 then xLet (m.1 (a0 + 4) l5.toNatClampNeg) fun x7 => fX5_countBy_67 a0 a1 a2 (fX5_countBy_37 a0 a1 a2 fuel) l3 l5 l4 x7 m else none
set_option maxRecDepth 4000 in
theorem fX5_countBy_37_ok {a0 : Nat} {a1 : Int32} {a2 : Int32} {d : Nat} (hd : 0 ≤ d) (ha0 : isMends a0) : ∀ (fuel : Nat) (l3 : Int32) (l4 : Int32) (l5 : Int32) (o6 : Option Value) (o7 : Option Value) (q6 : xNoD o6 = true) (q7 : xNoD o7 = true) (m : xMem) (r : (Int32 × xMem)), fX5_countBy_37 a0 a1 a2 fuel l3 l4 l5 m = some r → xFx hh_249 cX5_countBy d 37 [some (.ref a0), some (.int a1), some (.int a2), some (.int l3), some (.int l4), some (.int l5), o6, o7] [] (xLay m) 0 0 (some (.int r.1)) (xLay r.2) := by
  intro fuel
  induction fuel with
  | zero => intro l3 l4 l5 o6 o7 q6 q7 m r  h; cases h
  | succ fuel ih =>
    intro l3 l4 l5 o6 o7 q6 q7 m r  h
    unfold fX5_countBy_37 at h
    refine fx_iload dX5_countBy_37 rfl rfl ?_
    refine fx_bipush (x := 6) dX5_countBy_39 rfl (by decide) ?_
    refine fx_icmp_ge (t := 76) dX5_countBy_41 rfl rfl (fun hc1 => ?_) (fun hc1 => ?_)
    · rw [if_pos hc1] at h
      refine fx_aload_n dX5_countBy_76 rfl rfl ?_
      refine gx_getr dX5_countBy_77 rfl fd_5_24 ha0.1 rfl rfl ?_
      refine fx_iload_n dX5_countBy_80 rfl rfl ?_
      obtain ⟨hj3, h⟩ := xChk_el h
      obtain ⟨x2, hx2, h⟩ := xLet_el h
      refine gx_iaload dX5_countBy_81 rfl ha0.2.2.2.2.2 hj3 hx2 ?_
      refine fx_istore (ls2 := [some (.ref a0), some (.int a1), some (.int a2), some (.int l3), some (.int l4), some (.int x2), o6, o7]) dX5_countBy_82 rfl rfl rfl ?_
      refine fx_iconst (x := 0) dX5_countBy_84 rfl (by decide) ?_
      refine fx_istore (ls2 := [some (.ref a0), some (.int a1), some (.int a2), some (.int l3), some (.int l4), some (.int x2), some (.int (0 : Int32)), o7]) dX5_countBy_85 rfl rfl rfl ?_
      exact fX5_countBy_87_ok hd ha0 xFuel l3 l4 x2 (0 : Int32) (o7) q7 m r h
    · rw [if_neg hc1] at h
      refine fx_iload dX5_countBy_44 rfl rfl ?_
      refine fx_iload_n dX5_countBy_46 rfl rfl ?_
      refine fx_iload dX5_countBy_47 rfl rfl ?_
      obtain ⟨x4, hx4, h⟩ := xLet_el h
      refine fx_ishr dX5_countBy_49 rfl hx4 ?_
      refine fx_iconst (x := 1) dX5_countBy_50 rfl (by decide) ?_
      obtain ⟨x5, hx5, h⟩ := xLet_el h
      refine fx_iand dX5_countBy_51 rfl hx5 ?_
      refine fx_iconst (x := 1) dX5_countBy_52 rfl (by decide) ?_
      refine fx_icmp_ne (t := 66) dX5_countBy_53 rfl rfl (fun hc6 => ?_) (fun hc6 => ?_)
      · rw [if_pos hc6] at h
        refine fx_iconst (x := 0) dX5_countBy_66 rfl (by decide) ?_
        exact fX5_countBy_67_ok (o4 := some (.int l4)) (o6 := o6) (o7 := o7) hd ha0 ih rfl q6 q7 h
      · rw [if_neg hc6] at h
        refine fx_aload_n dX5_countBy_56 rfl rfl ?_
        refine gx_getr dX5_countBy_57 rfl fd_5_21 ha0.1 rfl rfl ?_
        refine fx_iload dX5_countBy_60 rfl rfl ?_
        obtain ⟨hj8, h⟩ := xChk_el h
        obtain ⟨x7, hx7, h⟩ := xLet_el h
        refine gx_iaload dX5_countBy_62 rfl ha0.2.2.2.2.1 hj8 hx7 ?_
        refine fx_goto (t := 67) dX5_countBy_63 rfl rfl ?_
        exact fX5_countBy_67_ok (o4 := some (.int l4)) (o6 := o6) (o7 := o7) hd ha0 ih rfl q6 q7 h
def fX5_countBy_0 (a0 : Nat) (a1 : Int32) (a2 : Int32) (m : xMem) : Option (Int32 × xMem) := xLet ((1 : Int32) <<< (a2 &&& 31)) fun x1 => xLet (a1 ||| x1) fun x2 => if a2 < (0 : Int32) then fX5_countBy_29 a0 a1 a2 m else if (6 : Int32) ≤ a2 then fX5_countBy_29 a0 a1 a2 m else if x2 < (0 : Int32) then fX5_countBy_29 a0 a1 a2 m else if x2 < (64 : Int32) then fX5_countBy_37 a0 a1 a2 xFuel x2 (0 : Int32) (0 : Int32) m else fX5_countBy_29 a0 a1 a2 m
set_option maxRecDepth 4000 in
theorem fX5_countBy_0_ok {a0 : Nat} {a1 : Int32} {a2 : Int32} {d : Nat} (hd : 0 ≤ d) (ha0 : isMends a0) {o3 : Option Value} {o4 : Option Value} {o5 : Option Value} {o6 : Option Value} {o7 : Option Value} {m : xMem} {r : (Int32 × xMem)} (q3 : xNoD o3 = true) (q4 : xNoD o4 = true) (q5 : xNoD o5 = true) (q6 : xNoD o6 = true) (q7 : xNoD o7 = true) (h : fX5_countBy_0 a0 a1 a2 m = some r) : xFx hh_249 cX5_countBy d 0 [some (.ref a0), some (.int a1), some (.int a2), o3, o4, o5, o6, o7] [] (xLay m) 0 0 (some (.int r.1)) (xLay r.2) := by
  unfold fX5_countBy_0 at h
  refine fx_iload_n dX5_countBy_0 rfl rfl ?_
  refine fx_iconst (x := 1) dX5_countBy_1 rfl (by decide) ?_
  refine fx_iload_n dX5_countBy_2 rfl rfl ?_
  obtain ⟨x1, hx1, h⟩ := xLet_el h
  refine fx_ishl dX5_countBy_3 rfl hx1 ?_
  obtain ⟨x2, hx2, h⟩ := xLet_el h
  refine fx_ior dX5_countBy_4 rfl hx2 ?_
  refine fx_istore_n (ls2 := [some (.ref a0), some (.int a1), some (.int a2), some (.int x2), o4, o5, o6, o7]) dX5_countBy_5 rfl rfl rfl ?_
  refine fx_iload_n dX5_countBy_6 rfl rfl ?_
  refine fx_if_lt (t := 29) dX5_countBy_7 rfl rfl (fun hc3 => ?_) (fun hc3 => ?_)
  · rw [if_pos hc3] at h
    exact fX5_countBy_29_ok (o3 := some (.int x2)) (o4 := o4) (o5 := o5) (o6 := o6) (o7 := o7) hd ha0 rfl q4 q5 q6 q7 h
  · rw [if_neg hc3] at h
    refine fx_iload_n dX5_countBy_10 rfl rfl ?_
    refine fx_bipush (x := 6) dX5_countBy_11 rfl (by decide) ?_
    refine fx_icmp_ge (t := 29) dX5_countBy_13 rfl rfl (fun hc4 => ?_) (fun hc4 => ?_)
    · rw [if_pos hc4] at h
      exact fX5_countBy_29_ok (o3 := some (.int x2)) (o4 := o4) (o5 := o5) (o6 := o6) (o7 := o7) hd ha0 rfl q4 q5 q6 q7 h
    · rw [if_neg hc4] at h
      refine fx_iload_n dX5_countBy_16 rfl rfl ?_
      refine fx_if_lt (t := 29) dX5_countBy_17 rfl rfl (fun hc5 => ?_) (fun hc5 => ?_)
      · rw [if_pos hc5] at h
        exact fX5_countBy_29_ok (o3 := some (.int x2)) (o4 := o4) (o5 := o5) (o6 := o6) (o7 := o7) hd ha0 rfl q4 q5 q6 q7 h
      · rw [if_neg hc5] at h
        refine fx_iload_n dX5_countBy_20 rfl rfl ?_
        refine fx_aload_n dX5_countBy_21 rfl rfl ?_
        refine gx_getr dX5_countBy_22 rfl fd_5_24 ha0.1 rfl rfl ?_
        refine gx_alen (t := 1) (y := 64) dX5_countBy_25 rfl ha0.2.2.2.2.2 rfl (by decide) ?_
        refine fx_icmp_lt (t := 31) dX5_countBy_26 rfl rfl (fun hc6 => ?_) (fun hc6 => ?_)
        · rw [if_pos hc6] at h
          refine fx_iconst (x := 0) dX5_countBy_31 rfl (by decide) ?_
          refine fx_istore (ls2 := [some (.ref a0), some (.int a1), some (.int a2), some (.int x2), some (.int (0 : Int32)), o5, o6, o7]) dX5_countBy_32 rfl rfl rfl ?_
          refine fx_iconst (x := 0) dX5_countBy_34 rfl (by decide) ?_
          refine fx_istore (ls2 := [some (.ref a0), some (.int a1), some (.int a2), some (.int x2), some (.int (0 : Int32)), some (.int (0 : Int32)), o6, o7]) dX5_countBy_35 rfl rfl rfl ?_
          exact fX5_countBy_37_ok hd ha0 xFuel x2 (0 : Int32) (0 : Int32) (o6) (o7) q6 q7 m r h
        · rw [if_neg hc6] at h
          exact fX5_countBy_29_ok (o3 := some (.int x2)) (o4 := o4) (o5 := o5) (o6 := o6) (o7 := o7) hd ha0 rfl q4 q5 q6 q7 h
def fX5_countBy (a0 : Nat) (a1 : Int32) (a2 : Int32) (m : xMem) : Option (Int32 × xMem) := fX5_countBy_0 a0 a1 a2  m
theorem fX5_countBy_ok {a0 : Nat} {a1 : Int32} {a2 : Int32} {m : xMem} {r : (Int32 × xMem)} {d : Nat} (hd : 1 ≤ d) (ha0 : isMends a0) (h : fX5_countBy a0 a1 a2 m = some r) : xEx d 249 [.ref a0, .int a1, .int a2] (xLay m) (some (.int r.1)) (xLay r.2) := by
  obtain ⟨d, rfl⟩ : ∃ q, d = q + 1 := ⟨d - 1, by omega⟩
  exact xEx_of me_249 rfl (fX5_countBy_0_ok (d := d) (o3 := none) (o4 := none) (o5 := none) (o6 := none) (o7 := none) (by omega) ha0 rfl rfl rfl rfl rfl h)
