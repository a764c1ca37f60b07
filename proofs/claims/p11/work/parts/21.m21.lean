theorem bdX12_clauseIsOver_0 : (decode cX12_clauseIsOver 0 = .ok (.aload_n 0, 1)) ∧ (decode cX12_clauseIsOver 1 = .ok (.iconst 1, 1)) ∧ (decode cX12_clauseIsOver 2 = .ok (.invokevirtual 215, 3)) ∧ (decode cX12_clauseIsOver 5 = .ok (.aload_n 0, 1)) ∧ (decode cX12_clauseIsOver 6 = .ok (.iconst 0, 1)) ∧ (decode cX12_clauseIsOver 7 = .ok (.putfield 190, 3)) ∧ (decode cX12_clauseIsOver 10 = .ok (.aload_n 0, 1)) ∧ (decode cX12_clauseIsOver 11 = .ok (.sipush 408, 3)) ∧ (decode cX12_clauseIsOver 14 = .ok (.iconst 0, 1)) ∧ (decode cX12_clauseIsOver 15 = .ok (.invokevirtual 211, 3)) ∧ (decode cX12_clauseIsOver 18 = .ok (.aload_n 0, 1)) ∧ (decode cX12_clauseIsOver 19 = .ok (.dup, 1)) ∧ (decode cX12_clauseIsOver 20 = .ok (.getfield 252, 3)) ∧ (decode cX12_clauseIsOver 23 = .ok (.iconst 1, 1)) ∧ (decode cX12_clauseIsOver 24 = .ok (.iadd, 1)) ∧ (decode cX12_clauseIsOver 25 = .ok (.putfield 252, 3)) := by decide +kernel
theorem dX12_clauseIsOver_0 : decode cX12_clauseIsOver 0 = .ok (.aload_n 0, 1) := bdX12_clauseIsOver_0.1
theorem dX12_clauseIsOver_1 : decode cX12_clauseIsOver 1 = .ok (.iconst 1, 1) := bdX12_clauseIsOver_0.2.1
theorem dX12_clauseIsOver_2 : decode cX12_clauseIsOver 2 = .ok (.invokevirtual 215, 3) := bdX12_clauseIsOver_0.2.2.1
theorem dX12_clauseIsOver_5 : decode cX12_clauseIsOver 5 = .ok (.aload_n 0, 1) := bdX12_clauseIsOver_0.2.2.2.1
theorem dX12_clauseIsOver_6 : decode cX12_clauseIsOver 6 = .ok (.iconst 0, 1) := bdX12_clauseIsOver_0.2.2.2.2.1
theorem dX12_clauseIsOver_7 : decode cX12_clauseIsOver 7 = .ok (.putfield 190, 3) := bdX12_clauseIsOver_0.2.2.2.2.2.1
theorem dX12_clauseIsOver_10 : decode cX12_clauseIsOver 10 = .ok (.aload_n 0, 1) := bdX12_clauseIsOver_0.2.2.2.2.2.2.1
theorem dX12_clauseIsOver_11 : decode cX12_clauseIsOver 11 = .ok (.sipush 408, 3) := bdX12_clauseIsOver_0.2.2.2.2.2.2.2.1
theorem dX12_clauseIsOver_14 : decode cX12_clauseIsOver 14 = .ok (.iconst 0, 1) := bdX12_clauseIsOver_0.2.2.2.2.2.2.2.2.1
theorem dX12_clauseIsOver_15 : decode cX12_clauseIsOver 15 = .ok (.invokevirtual 211, 3) := bdX12_clauseIsOver_0.2.2.2.2.2.2.2.2.2.1
theorem dX12_clauseIsOver_18 : decode cX12_clauseIsOver 18 = .ok (.aload_n 0, 1) := bdX12_clauseIsOver_0.2.2.2.2.2.2.2.2.2.2.1
theorem dX12_clauseIsOver_19 : decode cX12_clauseIsOver 19 = .ok (.dup, 1) := bdX12_clauseIsOver_0.2.2.2.2.2.2.2.2.2.2.2.1
theorem dX12_clauseIsOver_20 : decode cX12_clauseIsOver 20 = .ok (.getfield 252, 3) := bdX12_clauseIsOver_0.2.2.2.2.2.2.2.2.2.2.2.2.1
theorem dX12_clauseIsOver_23 : decode cX12_clauseIsOver 23 = .ok (.iconst 1, 1) := bdX12_clauseIsOver_0.2.2.2.2.2.2.2.2.2.2.2.2.2.1
theorem dX12_clauseIsOver_24 : decode cX12_clauseIsOver 24 = .ok (.iadd, 1) := bdX12_clauseIsOver_0.2.2.2.2.2.2.2.2.2.2.2.2.2.2.1
theorem dX12_clauseIsOver_25 : decode cX12_clauseIsOver 25 = .ok (.putfield 252, 3) := bdX12_clauseIsOver_0.2.2.2.2.2.2.2.2.2.2.2.2.2.2.2
theorem bdX12_clauseIsOver_28 : (decode cX12_clauseIsOver 28 = .ok (.aload_n 0, 1)) ∧ (decode cX12_clauseIsOver 29 = .ok (.invokevirtual 202, 3)) ∧ (decode cX12_clauseIsOver 32 = .ok (.aload_n 0, 1)) ∧ (decode cX12_clauseIsOver 33 = .ok (.iconst 4, 1)) ∧ (decode cX12_clauseIsOver 34 = .ok (.putfield 224, 3)) ∧ (decode cX12_clauseIsOver 37 = .ok (.return_, 1)) := by decide +kernel
theorem dX12_clauseIsOver_28 : decode cX12_clauseIsOver 28 = .ok (.aload_n 0, 1) := bdX12_clauseIsOver_28.1
theorem dX12_clauseIsOver_29 : decode cX12_clauseIsOver 29 = .ok (.invokevirtual 202, 3) := bdX12_clauseIsOver_28.2.1
theorem dX12_clauseIsOver_32 : decode cX12_clauseIsOver 32 = .ok (.aload_n 0, 1) := bdX12_clauseIsOver_28.2.2.1
theorem dX12_clauseIsOver_33 : decode cX12_clauseIsOver 33 = .ok (.iconst 4, 1) := bdX12_clauseIsOver_28.2.2.2.1
theorem dX12_clauseIsOver_34 : decode cX12_clauseIsOver 34 = .ok (.putfield 224, 3) := bdX12_clauseIsOver_28.2.2.2.2.1
theorem dX12_clauseIsOver_37 : decode cX12_clauseIsOver 37 = .ok (.return_, 1) := bdX12_clauseIsOver_28.2.2.2.2.2
theorem bdX12_errs_0 : (decode cX12_errs 0 = .ok (.aload_n 0, 1)) ∧ (decode cX12_errs 1 = .ok (.getfield 181, 3)) ∧ (decode cX12_errs 4 = .ok (.ifCond .ne 16, 3)) ∧ (decode cX12_errs 7 = .ok (.aload_n 0, 1)) ∧ (decode cX12_errs 8 = .ok (.iload_n 1, 1)) ∧ (decode cX12_errs 9 = .ok (.putfield 181, 3)) ∧ (decode cX12_errs 12 = .ok (.aload_n 0, 1)) ∧ (decode cX12_errs 13 = .ok (.aload_n 0, 1)) ∧ (decode cX12_errs 14 = .ok (.getfield 163, 3)) ∧ (decode cX12_errs 17 = .ok (.putfield 184, 3)) ∧ (decode cX12_errs 20 = .ok (.return_, 1)) := by decide +kernel
theorem dX12_errs_0 : decode cX12_errs 0 = .ok (.aload_n 0, 1) := bdX12_errs_0.1
theorem dX12_errs_1 : decode cX12_errs 1 = .ok (.getfield 181, 3) := bdX12_errs_0.2.1
theorem dX12_errs_4 : decode cX12_errs 4 = .ok (.ifCond .ne 16, 3) := bdX12_errs_0.2.2.1
theorem dX12_errs_7 : decode cX12_errs 7 = .ok (.aload_n 0, 1) := bdX12_errs_0.2.2.2.1
theorem dX12_errs_8 : decode cX12_errs 8 = .ok (.iload_n 1, 1) := bdX12_errs_0.2.2.2.2.1
theorem dX12_errs_9 : decode cX12_errs 9 = .ok (.putfield 181, 3) := bdX12_errs_0.2.2.2.2.2.1
theorem dX12_errs_12 : decode cX12_errs 12 = .ok (.aload_n 0, 1) := bdX12_errs_0.2.2.2.2.2.2.1
theorem dX12_errs_13 : decode cX12_errs 13 = .ok (.aload_n 0, 1) := bdX12_errs_0.2.2.2.2.2.2.2.1
theorem dX12_errs_14 : decode cX12_errs 14 = .ok (.getfield 163, 3) := bdX12_errs_0.2.2.2.2.2.2.2.2.1
theorem dX12_errs_17 : decode cX12_errs 17 = .ok (.putfield 184, 3) := bdX12_errs_0.2.2.2.2.2.2.2.2.2.1
theorem dX12_errs_20 : decode cX12_errs 20 = .ok (.return_, 1) := bdX12_errs_0.2.2.2.2.2.2.2.2.2.2
theorem bdX12_goesOn_0 : (decode cX12_goesOn 0 = .ok (.aload_n 0, 1)) ∧ (decode cX12_goesOn 1 = .ok (.invokevirtual 236, 3)) ∧ (decode cX12_goesOn 4 = .ok (.istore_n 1, 1)) ∧ (decode cX12_goesOn 5 = .ok (.aload_n 0, 1)) ∧ (decode cX12_goesOn 6 = .ok (.getfield 166, 3)) ∧ (decode cX12_goesOn 9 = .ok (.iconst 3, 1)) ∧ (decode cX12_goesOn 10 = .ok (.if_icmp .ne 55, 3)) ∧ (decode cX12_goesOn 13 = .ok (.aload_n 0, 1)) ∧ (decode cX12_goesOn 14 = .ok (.getfield 178, 3)) ∧ (decode cX12_goesOn 17 = .ok (.bipush 43, 2)) ∧ (decode cX12_goesOn 19 = .ok (.if_icmp .eq 30, 3)) ∧ (decode cX12_goesOn 22 = .ok (.aload_n 0, 1)) ∧ (decode cX12_goesOn 23 = .ok (.getfield 178, 3)) ∧ (decode cX12_goesOn 26 = .ok (.bipush 45, 2)) ∧ (decode cX12_goesOn 28 = .ok (.if_icmp .eq 21, 3)) ∧ (decode cX12_goesOn 31 = .ok (.aload_n 0, 1)) := by decide +kernel
theorem dX12_goesOn_0 : decode cX12_goesOn 0 = .ok (.aload_n 0, 1) := bdX12_goesOn_0.1
theorem dX12_goesOn_1 : decode cX12_goesOn 1 = .ok (.invokevirtual 236, 3) := bdX12_goesOn_0.2.1
theorem dX12_goesOn_4 : decode cX12_goesOn 4 = .ok (.istore_n 1, 1) := bdX12_goesOn_0.2.2.1
theorem dX12_goesOn_5 : decode cX12_goesOn 5 = .ok (.aload_n 0, 1) := bdX12_goesOn_0.2.2.2.1
theorem dX12_goesOn_6 : decode cX12_goesOn 6 = .ok (.getfield 166, 3) := bdX12_goesOn_0.2.2.2.2.1
theorem dX12_goesOn_9 : decode cX12_goesOn 9 = .ok (.iconst 3, 1) := bdX12_goesOn_0.2.2.2.2.2.1
theorem dX12_goesOn_10 : decode cX12_goesOn 10 = .ok (.if_icmp .ne 55, 3) := bdX12_goesOn_0.2.2.2.2.2.2.1
theorem dX12_goesOn_13 : decode cX12_goesOn 13 = .ok (.aload_n 0, 1) := bdX12_goesOn_0.2.2.2.2.2.2.2.1
theorem dX12_goesOn_14 : decode cX12_goesOn 14 = .ok (.getfield 178, 3) := bdX12_goesOn_0.2.2.2.2.2.2.2.2.1
theorem dX12_goesOn_17 : decode cX12_goesOn 17 = .ok (.bipush 43, 2) := bdX12_goesOn_0.2.2.2.2.2.2.2.2.2.1
theorem dX12_goesOn_19 : decode cX12_goesOn 19 = .ok (.if_icmp .eq 30, 3) := bdX12_goesOn_0.2.2.2.2.2.2.2.2.2.2.1
theorem dX12_goesOn_22 : decode cX12_goesOn 22 = .ok (.aload_n 0, 1) := bdX12_goesOn_0.2.2.2.2.2.2.2.2.2.2.2.1
theorem dX12_goesOn_23 : decode cX12_goesOn 23 = .ok (.getfield 178, 3) := bdX12_goesOn_0.2.2.2.2.2.2.2.2.2.2.2.2.1
theorem dX12_goesOn_26 : decode cX12_goesOn 26 = .ok (.bipush 45, 2) := bdX12_goesOn_0.2.2.2.2.2.2.2.2.2.2.2.2.2.1
theorem dX12_goesOn_28 : decode cX12_goesOn 28 = .ok (.if_icmp .eq 21, 3) := bdX12_goesOn_0.2.2.2.2.2.2.2.2.2.2.2.2.2.2.1
theorem dX12_goesOn_31 : decode cX12_goesOn 31 = .ok (.aload_n 0, 1) := bdX12_goesOn_0.2.2.2.2.2.2.2.2.2.2.2.2.2.2.2
theorem bdX12_goesOn_32 : (decode cX12_goesOn 32 = .ok (.getfield 178, 3)) ∧ (decode cX12_goesOn 35 = .ok (.bipush 42, 2)) ∧ (decode cX12_goesOn 37 = .ok (.if_icmp .eq 12, 3)) ∧ (decode cX12_goesOn 40 = .ok (.aload_n 0, 1)) ∧ (decode cX12_goesOn 41 = .ok (.getfield 178, 3)) ∧ (decode cX12_goesOn 44 = .ok (.bipush 47, 2)) ∧ (decode cX12_goesOn 46 = .ok (.if_icmp .ne 19, 3)) ∧ (decode cX12_goesOn 49 = .ok (.aload_n 0, 1)) ∧ (decode cX12_goesOn 50 = .ok (.aload_n 0, 1)) ∧ (decode cX12_goesOn 51 = .ok (.getfield 178, 3)) ∧ (decode cX12_goesOn 54 = .ok (.invokevirtual 240, 3)) ∧ (decode cX12_goesOn 57 = .ok (.aload_n 0, 1)) ∧ (decode cX12_goesOn 58 = .ok (.iconst 1, 1)) ∧ (decode cX12_goesOn 59 = .ok (.putfield 224, 3)) ∧ (decode cX12_goesOn 62 = .ok (.goto 188, 3)) ∧ (decode cX12_goesOn 65 = .ok (.iload_n 1, 1)) := by decide +kernel
theorem dX12_goesOn_32 : decode cX12_goesOn 32 = .ok (.getfield 178, 3) := bdX12_goesOn_32.1
theorem dX12_goesOn_35 : decode cX12_goesOn 35 = .ok (.bipush 42, 2) := bdX12_goesOn_32.2.1
theorem dX12_goesOn_37 : decode cX12_goesOn 37 = .ok (.if_icmp .eq 12, 3) := bdX12_goesOn_32.2.2.1
theorem dX12_goesOn_40 : decode cX12_goesOn 40 = .ok (.aload_n 0, 1) := bdX12_goesOn_32.2.2.2.1
theorem dX12_goesOn_41 : decode cX12_goesOn 41 = .ok (.getfield 178, 3) := bdX12_goesOn_32.2.2.2.2.1
theorem dX12_goesOn_44 : decode cX12_goesOn 44 = .ok (.bipush 47, 2) := bdX12_goesOn_32.2.2.2.2.2.1
theorem dX12_goesOn_46 : decode cX12_goesOn 46 = .ok (.if_icmp .ne 19, 3) := bdX12_goesOn_32.2.2.2.2.2.2.1
theorem dX12_goesOn_49 : decode cX12_goesOn 49 = .ok (.aload_n 0, 1) := bdX12_goesOn_32.2.2.2.2.2.2.2.1
theorem dX12_goesOn_50 : decode cX12_goesOn 50 = .ok (.aload_n 0, 1) := bdX12_goesOn_32.2.2.2.2.2.2.2.2.1
theorem dX12_goesOn_51 : decode cX12_goesOn 51 = .ok (.getfield 178, 3) := bdX12_goesOn_32.2.2.2.2.2.2.2.2.2.1
theorem dX12_goesOn_54 : decode cX12_goesOn 54 = .ok (.invokevirtual 240, 3) := bdX12_goesOn_32.2.2.2.2.2.2.2.2.2.2.1
theorem dX12_goesOn_57 : decode cX12_goesOn 57 = .ok (.aload_n 0, 1) := bdX12_goesOn_32.2.2.2.2.2.2.2.2.2.2.2.1
theorem dX12_goesOn_58 : decode cX12_goesOn 58 = .ok (.iconst 1, 1) := bdX12_goesOn_32.2.2.2.2.2.2.2.2.2.2.2.2.1
theorem dX12_goesOn_59 : decode cX12_goesOn 59 = .ok (.putfield 224, 3) := bdX12_goesOn_32.2.2.2.2.2.2.2.2.2.2.2.2.2.1
theorem dX12_goesOn_62 : decode cX12_goesOn 62 = .ok (.goto 188, 3) := bdX12_goesOn_32.2.2.2.2.2.2.2.2.2.2.2.2.2.2.1
theorem dX12_goesOn_65 : decode cX12_goesOn 65 = .ok (.iload_n 1, 1) := bdX12_goesOn_32.2.2.2.2.2.2.2.2.2.2.2.2.2.2.2
theorem bdX12_goesOn_66 : (decode cX12_goesOn 66 = .ok (.bipush 6, 2)) ∧ (decode cX12_goesOn 68 = .ok (.if_icmp .ne 48, 3)) ∧ (decode cX12_goesOn 71 = .ok (.aload_n 0, 1)) ∧ (decode cX12_goesOn 72 = .ok (.bipush 41, 2)) ∧ (decode cX12_goesOn 74 = .ok (.invokevirtual 233, 3)) ∧ (decode cX12_goesOn 77 = .ok (.ifCond .eq 39, 3)) ∧ (decode cX12_goesOn 80 = .ok (.aload_n 0, 1)) ∧ (decode cX12_goesOn 81 = .ok (.iconst 3, 1)) ∧ (decode cX12_goesOn 82 = .ok (.invokevirtual 215, 3)) ∧ (decode cX12_goesOn 85 = .ok (.aload_n 0, 1)) ∧ (decode cX12_goesOn 86 = .ok (.dup, 1)) ∧ (decode cX12_goesOn 87 = .ok (.getfield 190, 3)) ∧ (decode cX12_goesOn 90 = .ok (.iconst 1, 1)) ∧ (decode cX12_goesOn 91 = .ok (.isub, 1)) ∧ (decode cX12_goesOn 92 = .ok (.putfield 190, 3)) ∧ (decode cX12_goesOn 95 = .ok (.aload_n 0, 1)) := by decide +kernel
theorem dX12_goesOn_66 : decode cX12_goesOn 66 = .ok (.bipush 6, 2) := bdX12_goesOn_66.1
theorem dX12_goesOn_68 : decode cX12_goesOn 68 = .ok (.if_icmp .ne 48, 3) := bdX12_goesOn_66.2.1
theorem dX12_goesOn_71 : decode cX12_goesOn 71 = .ok (.aload_n 0, 1) := bdX12_goesOn_66.2.2.1
theorem dX12_goesOn_72 : decode cX12_goesOn 72 = .ok (.bipush 41, 2) := bdX12_goesOn_66.2.2.2.1
theorem dX12_goesOn_74 : decode cX12_goesOn 74 = .ok (.invokevirtual 233, 3) := bdX12_goesOn_66.2.2.2.2.1
theorem dX12_goesOn_77 : decode cX12_goesOn 77 = .ok (.ifCond .eq 39, 3) := bdX12_goesOn_66.2.2.2.2.2.1
theorem dX12_goesOn_80 : decode cX12_goesOn 80 = .ok (.aload_n 0, 1) := bdX12_goesOn_66.2.2.2.2.2.2.1
theorem dX12_goesOn_81 : decode cX12_goesOn 81 = .ok (.iconst 3, 1) := bdX12_goesOn_66.2.2.2.2.2.2.2.1
theorem dX12_goesOn_82 : decode cX12_goesOn 82 = .ok (.invokevirtual 215, 3) := bdX12_goesOn_66.2.2.2.2.2.2.2.2.1
theorem dX12_goesOn_85 : decode cX12_goesOn 85 = .ok (.aload_n 0, 1) := bdX12_goesOn_66.2.2.2.2.2.2.2.2.2.1
theorem dX12_goesOn_86 : decode cX12_goesOn 86 = .ok (.dup, 1) := bdX12_goesOn_66.2.2.2.2.2.2.2.2.2.2.1
theorem dX12_goesOn_87 : decode cX12_goesOn 87 = .ok (.getfield 190, 3) := bdX12_goesOn_66.2.2.2.2.2.2.2.2.2.2.2.1
theorem dX12_goesOn_90 : decode cX12_goesOn 90 = .ok (.iconst 1, 1) := bdX12_goesOn_66.2.2.2.2.2.2.2.2.2.2.2.2.1
theorem dX12_goesOn_91 : decode cX12_goesOn 91 = .ok (.isub, 1) := bdX12_goesOn_66.2.2.2.2.2.2.2.2.2.2.2.2.2.1
theorem dX12_goesOn_92 : decode cX12_goesOn 92 = .ok (.putfield 190, 3) := bdX12_goesOn_66.2.2.2.2.2.2.2.2.2.2.2.2.2.2.1
theorem dX12_goesOn_95 : decode cX12_goesOn 95 = .ok (.aload_n 0, 1) := bdX12_goesOn_66.2.2.2.2.2.2.2.2.2.2.2.2.2.2.2
theorem bdX12_goesOn_96 : (decode cX12_goesOn 96 = .ok (.dup, 1)) ∧ (decode cX12_goesOn 97 = .ok (.getfield 193, 3)) ∧ (decode cX12_goesOn 100 = .ok (.iconst 1, 1)) ∧ (decode cX12_goesOn 101 = .ok (.isub, 1)) ∧ (decode cX12_goesOn 102 = .ok (.putfield 193, 3)) ∧ (decode cX12_goesOn 105 = .ok (.aload_n 0, 1)) ∧ (decode cX12_goesOn 106 = .ok (.invokevirtual 202, 3)) ∧ (decode cX12_goesOn 109 = .ok (.aload_n 0, 1)) ∧ (decode cX12_goesOn 110 = .ok (.invokevirtual 227, 3)) ∧ (decode cX12_goesOn 113 = .ok (.goto 137, 3)) ∧ (decode cX12_goesOn 116 = .ok (.iload_n 1, 1)) ∧ (decode cX12_goesOn 117 = .ok (.iconst 4, 1)) ∧ (decode cX12_goesOn 118 = .ok (.if_icmp .ne 63, 3)) ∧ (decode cX12_goesOn 121 = .ok (.aload_n 0, 1)) ∧ (decode cX12_goesOn 122 = .ok (.getfield 166, 3)) ∧ (decode cX12_goesOn 125 = .ok (.iconst 3, 1)) := by decide +kernel
theorem dX12_goesOn_96 : decode cX12_goesOn 96 = .ok (.dup, 1) := bdX12_goesOn_96.1
theorem dX12_goesOn_97 : decode cX12_goesOn 97 = .ok (.getfield 193, 3) := bdX12_goesOn_96.2.1
theorem dX12_goesOn_100 : decode cX12_goesOn 100 = .ok (.iconst 1, 1) := bdX12_goesOn_96.2.2.1
theorem dX12_goesOn_101 : decode cX12_goesOn 101 = .ok (.isub, 1) := bdX12_goesOn_96.2.2.2.1
theorem dX12_goesOn_102 : decode cX12_goesOn 102 = .ok (.putfield 193, 3) := bdX12_goesOn_96.2.2.2.2.1
theorem dX12_goesOn_105 : decode cX12_goesOn 105 = .ok (.aload_n 0, 1) := bdX12_goesOn_96.2.2.2.2.2.1
theorem dX12_goesOn_106 : decode cX12_goesOn 106 = .ok (.invokevirtual 202, 3) := bdX12_goesOn_96.2.2.2.2.2.2.1
theorem dX12_goesOn_109 : decode cX12_goesOn 109 = .ok (.aload_n 0, 1) := bdX12_goesOn_96.2.2.2.2.2.2.2.1
theorem dX12_goesOn_110 : decode cX12_goesOn 110 = .ok (.invokevirtual 227, 3) := bdX12_goesOn_96.2.2.2.2.2.2.2.2.1
theorem dX12_goesOn_113 : decode cX12_goesOn 113 = .ok (.goto 137, 3) := bdX12_goesOn_96.2.2.2.2.2.2.2.2.2.1
theorem dX12_goesOn_116 : decode cX12_goesOn 116 = .ok (.iload_n 1, 1) := bdX12_goesOn_96.2.2.2.2.2.2.2.2.2.2.1
theorem dX12_goesOn_117 : decode cX12_goesOn 117 = .ok (.iconst 4, 1) := bdX12_goesOn_96.2.2.2.2.2.2.2.2.2.2.2.1
theorem dX12_goesOn_118 : decode cX12_goesOn 118 = .ok (.if_icmp .ne 63, 3) := bdX12_goesOn_96.2.2.2.2.2.2.2.2.2.2.2.2.1
theorem dX12_goesOn_121 : decode cX12_goesOn 121 = .ok (.aload_n 0, 1) := bdX12_goesOn_96.2.2.2.2.2.2.2.2.2.2.2.2.2.1
theorem dX12_goesOn_122 : decode cX12_goesOn 122 = .ok (.getfield 166, 3) := bdX12_goesOn_96.2.2.2.2.2.2.2.2.2.2.2.2.2.2.1
theorem dX12_goesOn_125 : decode cX12_goesOn 125 = .ok (.iconst 3, 1) := bdX12_goesOn_96.2.2.2.2.2.2.2.2.2.2.2.2.2.2.2
theorem bdX12_goesOn_126 : (decode cX12_goesOn 126 = .ok (.if_icmp .ne 55, 3)) ∧ (decode cX12_goesOn 129 = .ok (.aload_n 0, 1)) ∧ (decode cX12_goesOn 130 = .ok (.getfield 178, 3)) ∧ (decode cX12_goesOn 133 = .ok (.invokestatic 243, 3)) ∧ (decode cX12_goesOn 136 = .ok (.ifCond .eq 45, 3)) ∧ (decode cX12_goesOn 139 = .ok (.aload_n 0, 1)) ∧ (decode cX12_goesOn 140 = .ok (.iconst 3, 1)) ∧ (decode cX12_goesOn 141 = .ok (.invokevirtual 215, 3)) ∧ (decode cX12_goesOn 144 = .ok (.aload_n 0, 1)) ∧ (decode cX12_goesOn 145 = .ok (.getfield 48, 3)) ∧ (decode cX12_goesOn 148 = .ok (.aload_n 0, 1)) ∧ (decode cX12_goesOn 149 = .ok (.getfield 190, 3)) ∧ (decode cX12_goesOn 152 = .ok (.aload_n 0, 1)) ∧ (decode cX12_goesOn 153 = .ok (.getfield 178, 3)) ∧ (decode cX12_goesOn 156 = .ok (.iastore, 1)) ∧ (decode cX12_goesOn 157 = .ok (.aload_n 0, 1)) := by decide +kernel
theorem dX12_goesOn_126 : decode cX12_goesOn 126 = .ok (.if_icmp .ne 55, 3) := bdX12_goesOn_126.1
theorem dX12_goesOn_129 : decode cX12_goesOn 129 = .ok (.aload_n 0, 1) := bdX12_goesOn_126.2.1
theorem dX12_goesOn_130 : decode cX12_goesOn 130 = .ok (.getfield 178, 3) := bdX12_goesOn_126.2.2.1
theorem dX12_goesOn_133 : decode cX12_goesOn 133 = .ok (.invokestatic 243, 3) := bdX12_goesOn_126.2.2.2.1
theorem dX12_goesOn_136 : decode cX12_goesOn 136 = .ok (.ifCond .eq 45, 3) := bdX12_goesOn_126.2.2.2.2.1
theorem dX12_goesOn_139 : decode cX12_goesOn 139 = .ok (.aload_n 0, 1) := bdX12_goesOn_126.2.2.2.2.2.1
theorem dX12_goesOn_140 : decode cX12_goesOn 140 = .ok (.iconst 3, 1) := bdX12_goesOn_126.2.2.2.2.2.2.1
theorem dX12_goesOn_141 : decode cX12_goesOn 141 = .ok (.invokevirtual 215, 3) := bdX12_goesOn_126.2.2.2.2.2.2.2.1
theorem dX12_goesOn_144 : decode cX12_goesOn 144 = .ok (.aload_n 0, 1) := bdX12_goesOn_126.2.2.2.2.2.2.2.2.1
theorem dX12_goesOn_145 : decode cX12_goesOn 145 = .ok (.getfield 48, 3) := bdX12_goesOn_126.2.2.2.2.2.2.2.2.2.1
theorem dX12_goesOn_148 : decode cX12_goesOn 148 = .ok (.aload_n 0, 1) := bdX12_goesOn_126.2.2.2.2.2.2.2.2.2.2.1
theorem dX12_goesOn_149 : decode cX12_goesOn 149 = .ok (.getfield 190, 3) := bdX12_goesOn_126.2.2.2.2.2.2.2.2.2.2.2.1
theorem dX12_goesOn_152 : decode cX12_goesOn 152 = .ok (.aload_n 0, 1) := bdX12_goesOn_126.2.2.2.2.2.2.2.2.2.2.2.2.1
theorem dX12_goesOn_153 : decode cX12_goesOn 153 = .ok (.getfield 178, 3) := bdX12_goesOn_126.2.2.2.2.2.2.2.2.2.2.2.2.2.1
theorem dX12_goesOn_156 : decode cX12_goesOn 156 = .ok (.iastore, 1) := bdX12_goesOn_126.2.2.2.2.2.2.2.2.2.2.2.2.2.2.1
theorem dX12_goesOn_157 : decode cX12_goesOn 157 = .ok (.aload_n 0, 1) := bdX12_goesOn_126.2.2.2.2.2.2.2.2.2.2.2.2.2.2.2
theorem bdX12_goesOn_158 : (decode cX12_goesOn 158 = .ok (.getfield 45, 3)) ∧ (decode cX12_goesOn 161 = .ok (.aload_n 0, 1)) ∧ (decode cX12_goesOn 162 = .ok (.getfield 190, 3)) ∧ (decode cX12_goesOn 165 = .ok (.iconst 1, 1)) ∧ (decode cX12_goesOn 166 = .ok (.isub, 1)) ∧ (decode cX12_goesOn 167 = .ok (.iconst 5, 1)) ∧ (decode cX12_goesOn 168 = .ok (.iastore, 1)) ∧ (decode cX12_goesOn 169 = .ok (.aload_n 0, 1)) ∧ (decode cX12_goesOn 170 = .ok (.invokevirtual 202, 3)) ∧ (decode cX12_goesOn 173 = .ok (.aload_n 0, 1)) ∧ (decode cX12_goesOn 174 = .ok (.iconst 1, 1)) ∧ (decode cX12_goesOn 175 = .ok (.putfield 224, 3)) ∧ (decode cX12_goesOn 178 = .ok (.goto 72, 3)) ∧ (decode cX12_goesOn 181 = .ok (.iload_n 1, 1)) ∧ (decode cX12_goesOn 182 = .ok (.iconst 5, 1)) ∧ (decode cX12_goesOn 183 = .ok (.if_icmp .ne 41, 3)) := by decide +kernel
theorem dX12_goesOn_158 : decode cX12_goesOn 158 = .ok (.getfield 45, 3) := bdX12_goesOn_158.1
theorem dX12_goesOn_161 : decode cX12_goesOn 161 = .ok (.aload_n 0, 1) := bdX12_goesOn_158.2.1
theorem dX12_goesOn_162 : decode cX12_goesOn 162 = .ok (.getfield 190, 3) := bdX12_goesOn_158.2.2.1
theorem dX12_goesOn_165 : decode cX12_goesOn 165 = .ok (.iconst 1, 1) := bdX12_goesOn_158.2.2.2.1
theorem dX12_goesOn_166 : decode cX12_goesOn 166 = .ok (.isub, 1) := bdX12_goesOn_158.2.2.2.2.1
theorem dX12_goesOn_167 : decode cX12_goesOn 167 = .ok (.iconst 5, 1) := bdX12_goesOn_158.2.2.2.2.2.1
theorem dX12_goesOn_168 : decode cX12_goesOn 168 = .ok (.iastore, 1) := bdX12_goesOn_158.2.2.2.2.2.2.1
theorem dX12_goesOn_169 : decode cX12_goesOn 169 = .ok (.aload_n 0, 1) := bdX12_goesOn_158.2.2.2.2.2.2.2.1
theorem dX12_goesOn_170 : decode cX12_goesOn 170 = .ok (.invokevirtual 202, 3) := bdX12_goesOn_158.2.2.2.2.2.2.2.2.1
theorem dX12_goesOn_173 : decode cX12_goesOn 173 = .ok (.aload_n 0, 1) := bdX12_goesOn_158.2.2.2.2.2.2.2.2.2.1
theorem dX12_goesOn_174 : decode cX12_goesOn 174 = .ok (.iconst 1, 1) := bdX12_goesOn_158.2.2.2.2.2.2.2.2.2.2.1
theorem dX12_goesOn_175 : decode cX12_goesOn 175 = .ok (.putfield 224, 3) := bdX12_goesOn_158.2.2.2.2.2.2.2.2.2.2.2.1
theorem dX12_goesOn_178 : decode cX12_goesOn 178 = .ok (.goto 72, 3) := bdX12_goesOn_158.2.2.2.2.2.2.2.2.2.2.2.2.1
theorem dX12_goesOn_181 : decode cX12_goesOn 181 = .ok (.iload_n 1, 1) := bdX12_goesOn_158.2.2.2.2.2.2.2.2.2.2.2.2.2.1
theorem dX12_goesOn_182 : decode cX12_goesOn 182 = .ok (.iconst 5, 1) := bdX12_goesOn_158.2.2.2.2.2.2.2.2.2.2.2.2.2.2.1
theorem dX12_goesOn_183 : decode cX12_goesOn 183 = .ok (.if_icmp .ne 41, 3) := bdX12_goesOn_158.2.2.2.2.2.2.2.2.2.2.2.2.2.2.2
theorem bdX12_goesOn_186 : (decode cX12_goesOn 186 = .ok (.aload_n 0, 1)) ∧ (decode cX12_goesOn 187 = .ok (.iconst 3, 1)) ∧ (decode cX12_goesOn 188 = .ok (.invokevirtual 215, 3)) ∧ (decode cX12_goesOn 191 = .ok (.aload_n 0, 1)) ∧ (decode cX12_goesOn 192 = .ok (.getfield 48, 3)) ∧ (decode cX12_goesOn 195 = .ok (.aload_n 0, 1)) ∧ (decode cX12_goesOn 196 = .ok (.getfield 190, 3)) ∧ (decode cX12_goesOn 199 = .ok (.iaload, 1)) ∧ (decode cX12_goesOn 200 = .ok (.istore_n 2, 1)) ∧ (decode cX12_goesOn 201 = .ok (.aload_n 0, 1)) ∧ (decode cX12_goesOn 202 = .ok (.dup, 1)) ∧ (decode cX12_goesOn 203 = .ok (.getfield 190, 3)) ∧ (decode cX12_goesOn 206 = .ok (.iconst 1, 1)) ∧ (decode cX12_goesOn 207 = .ok (.isub, 1)) ∧ (decode cX12_goesOn 208 = .ok (.putfield 190, 3)) ∧ (decode cX12_goesOn 211 = .ok (.aload_n 0, 1)) := by decide +kernel
theorem dX12_goesOn_186 : decode cX12_goesOn 186 = .ok (.aload_n 0, 1) := bdX12_goesOn_186.1
theorem dX12_goesOn_187 : decode cX12_goesOn 187 = .ok (.iconst 3, 1) := bdX12_goesOn_186.2.1
theorem dX12_goesOn_188 : decode cX12_goesOn 188 = .ok (.invokevirtual 215, 3) := bdX12_goesOn_186.2.2.1
theorem dX12_goesOn_191 : decode cX12_goesOn 191 = .ok (.aload_n 0, 1) := bdX12_goesOn_186.2.2.2.1
theorem dX12_goesOn_192 : decode cX12_goesOn 192 = .ok (.getfield 48, 3) := bdX12_goesOn_186.2.2.2.2.1
theorem dX12_goesOn_195 : decode cX12_goesOn 195 = .ok (.aload_n 0, 1) := bdX12_goesOn_186.2.2.2.2.2.1
theorem dX12_goesOn_196 : decode cX12_goesOn 196 = .ok (.getfield 190, 3) := bdX12_goesOn_186.2.2.2.2.2.2.1
theorem dX12_goesOn_199 : decode cX12_goesOn 199 = .ok (.iaload, 1) := bdX12_goesOn_186.2.2.2.2.2.2.2.1
theorem dX12_goesOn_200 : decode cX12_goesOn 200 = .ok (.istore_n 2, 1) := bdX12_goesOn_186.2.2.2.2.2.2.2.2.1
theorem dX12_goesOn_201 : decode cX12_goesOn 201 = .ok (.aload_n 0, 1) := bdX12_goesOn_186.2.2.2.2.2.2.2.2.2.1
theorem dX12_goesOn_202 : decode cX12_goesOn 202 = .ok (.dup, 1) := bdX12_goesOn_186.2.2.2.2.2.2.2.2.2.2.1
theorem dX12_goesOn_203 : decode cX12_goesOn 203 = .ok (.getfield 190, 3) := bdX12_goesOn_186.2.2.2.2.2.2.2.2.2.2.2.1
theorem dX12_goesOn_206 : decode cX12_goesOn 206 = .ok (.iconst 1, 1) := bdX12_goesOn_186.2.2.2.2.2.2.2.2.2.2.2.2.1
theorem dX12_goesOn_207 : decode cX12_goesOn 207 = .ok (.isub, 1) := bdX12_goesOn_186.2.2.2.2.2.2.2.2.2.2.2.2.2.1
theorem dX12_goesOn_208 : decode cX12_goesOn 208 = .ok (.putfield 190, 3) := bdX12_goesOn_186.2.2.2.2.2.2.2.2.2.2.2.2.2.2.1
theorem dX12_goesOn_211 : decode cX12_goesOn 211 = .ok (.aload_n 0, 1) := bdX12_goesOn_186.2.2.2.2.2.2.2.2.2.2.2.2.2.2.2
theorem bdX12_goesOn_212 : (decode cX12_goesOn 212 = .ok (.iload_n 2, 1)) ∧ (decode cX12_goesOn 213 = .ok (.iconst 0, 1)) ∧ (decode cX12_goesOn 214 = .ok (.invokevirtual 211, 3)) ∧ (decode cX12_goesOn 217 = .ok (.aload_n 0, 1)) ∧ (decode cX12_goesOn 218 = .ok (.invokevirtual 246, 3)) ∧ (decode cX12_goesOn 221 = .ok (.goto 29, 3)) ∧ (decode cX12_goesOn 224 = .ok (.iload_n 1, 1)) ∧ (decode cX12_goesOn 225 = .ok (.iconst 1, 1)) ∧ (decode cX12_goesOn 226 = .ok (.if_icmp .ne 19, 3)) ∧ (decode cX12_goesOn 229 = .ok (.aload_n 0, 1)) ∧ (decode cX12_goesOn 230 = .ok (.bipush 59, 2)) ∧ (decode cX12_goesOn 232 = .ok (.invokevirtual 233, 3)) ∧ (decode cX12_goesOn 235 = .ok (.ifCond .eq 10, 3)) ∧ (decode cX12_goesOn 238 = .ok (.aload_n 0, 1)) ∧ (decode cX12_goesOn 239 = .ok (.invokevirtual 249, 3)) ∧ (decode cX12_goesOn 242 = .ok (.goto 8, 3)) := by decide +kernel
theorem dX12_goesOn_212 : decode cX12_goesOn 212 = .ok (.iload_n 2, 1) := bdX12_goesOn_212.1
theorem dX12_goesOn_213 : decode cX12_goesOn 213 = .ok (.iconst 0, 1) := bdX12_goesOn_212.2.1
theorem dX12_goesOn_214 : decode cX12_goesOn 214 = .ok (.invokevirtual 211, 3) := bdX12_goesOn_212.2.2.1
theorem dX12_goesOn_217 : decode cX12_goesOn 217 = .ok (.aload_n 0, 1) := bdX12_goesOn_212.2.2.2.1
theorem dX12_goesOn_218 : decode cX12_goesOn 218 = .ok (.invokevirtual 246, 3) := bdX12_goesOn_212.2.2.2.2.1
theorem dX12_goesOn_221 : decode cX12_goesOn 221 = .ok (.goto 29, 3) := bdX12_goesOn_212.2.2.2.2.2.1
theorem dX12_goesOn_224 : decode cX12_goesOn 224 = .ok (.iload_n 1, 1) := bdX12_goesOn_212.2.2.2.2.2.2.1
theorem dX12_goesOn_225 : decode cX12_goesOn 225 = .ok (.iconst 1, 1) := bdX12_goesOn_212.2.2.2.2.2.2.2.1
theorem dX12_goesOn_226 : decode cX12_goesOn 226 = .ok (.if_icmp .ne 19, 3) := bdX12_goesOn_212.2.2.2.2.2.2.2.2.1
theorem dX12_goesOn_229 : decode cX12_goesOn 229 = .ok (.aload_n 0, 1) := bdX12_goesOn_212.2.2.2.2.2.2.2.2.2.1
theorem dX12_goesOn_230 : decode cX12_goesOn 230 = .ok (.bipush 59, 2) := bdX12_goesOn_212.2.2.2.2.2.2.2.2.2.2.1
theorem dX12_goesOn_232 : decode cX12_goesOn 232 = .ok (.invokevirtual 233, 3) := bdX12_goesOn_212.2.2.2.2.2.2.2.2.2.2.2.1
theorem dX12_goesOn_235 : decode cX12_goesOn 235 = .ok (.ifCond .eq 10, 3) := bdX12_goesOn_212.2.2.2.2.2.2.2.2.2.2.2.2.1
theorem dX12_goesOn_238 : decode cX12_goesOn 238 = .ok (.aload_n 0, 1) := bdX12_goesOn_212.2.2.2.2.2.2.2.2.2.2.2.2.2.1
theorem dX12_goesOn_239 : decode cX12_goesOn 239 = .ok (.invokevirtual 249, 3) := bdX12_goesOn_212.2.2.2.2.2.2.2.2.2.2.2.2.2.2.1
theorem dX12_goesOn_242 : decode cX12_goesOn 242 = .ok (.goto 8, 3) := bdX12_goesOn_212.2.2.2.2.2.2.2.2.2.2.2.2.2.2.2
theorem bdX12_goesOn_245 : (decode cX12_goesOn 245 = .ok (.aload_n 0, 1)) ∧ (decode cX12_goesOn 246 = .ok (.iconst 1, 1)) ∧ (decode cX12_goesOn 247 = .ok (.invokevirtual 196, 3)) ∧ (decode cX12_goesOn 250 = .ok (.return_, 1)) := by decide +kernel
theorem dX12_goesOn_245 : decode cX12_goesOn 245 = .ok (.aload_n 0, 1) := bdX12_goesOn_245.1
theorem dX12_goesOn_246 : decode cX12_goesOn 246 = .ok (.iconst 1, 1) := bdX12_goesOn_245.2.1
theorem dX12_goesOn_247 : decode cX12_goesOn 247 = .ok (.invokevirtual 196, 3) := bdX12_goesOn_245.2.2.1
theorem dX12_goesOn_250 : decode cX12_goesOn 250 = .ok (.return_, 1) := bdX12_goesOn_245.2.2.2
theorem bdX12_isWord_0 : (decode cX12_isWord 0 = .ok (.aload_n 0, 1)) ∧ (decode cX12_isWord 1 = .ok (.getfield 166, 3)) ∧ (decode cX12_isWord 4 = .ok (.iconst 1, 1)) ∧ (decode cX12_isWord 5 = .ok (.if_icmp .ne 15, 3)) ∧ (decode cX12_isWord 8 = .ok (.aload_n 0, 1)) ∧ (decode cX12_isWord 9 = .ok (.getfield 178, 3)) ∧ (decode cX12_isWord 12 = .ok (.iload_n 1, 1)) ∧ (decode cX12_isWord 13 = .ok (.if_icmp .ne 7, 3)) ∧ (decode cX12_isWord 16 = .ok (.iconst 1, 1)) ∧ (decode cX12_isWord 17 = .ok (.goto 4, 3)) ∧ (decode cX12_isWord 20 = .ok (.iconst 0, 1)) ∧ (decode cX12_isWord 21 = .ok (.ireturn, 1)) := by decide +kernel
theorem dX12_isWord_0 : decode cX12_isWord 0 = .ok (.aload_n 0, 1) := bdX12_isWord_0.1
theorem dX12_isWord_1 : decode cX12_isWord 1 = .ok (.getfield 166, 3) := bdX12_isWord_0.2.1
theorem dX12_isWord_4 : decode cX12_isWord 4 = .ok (.iconst 1, 1) := bdX12_isWord_0.2.2.1
theorem dX12_isWord_5 : decode cX12_isWord 5 = .ok (.if_icmp .ne 15, 3) := bdX12_isWord_0.2.2.2.1
theorem dX12_isWord_8 : decode cX12_isWord 8 = .ok (.aload_n 0, 1) := bdX12_isWord_0.2.2.2.2.1
theorem dX12_isWord_9 : decode cX12_isWord 9 = .ok (.getfield 178, 3) := bdX12_isWord_0.2.2.2.2.2.1
theorem dX12_isWord_12 : decode cX12_isWord 12 = .ok (.iload_n 1, 1) := bdX12_isWord_0.2.2.2.2.2.2.1
theorem dX12_isWord_13 : decode cX12_isWord 13 = .ok (.if_icmp .ne 7, 3) := bdX12_isWord_0.2.2.2.2.2.2.2.1
theorem dX12_isWord_16 : decode cX12_isWord 16 = .ok (.iconst 1, 1) := bdX12_isWord_0.2.2.2.2.2.2.2.2.1
theorem dX12_isWord_17 : decode cX12_isWord 17 = .ok (.goto 4, 3) := bdX12_isWord_0.2.2.2.2.2.2.2.2.2.1
theorem dX12_isWord_20 : decode cX12_isWord 20 = .ok (.iconst 0, 1) := bdX12_isWord_0.2.2.2.2.2.2.2.2.2.2.1
theorem dX12_isWord_21 : decode cX12_isWord 21 = .ok (.ireturn, 1) := bdX12_isWord_0.2.2.2.2.2.2.2.2.2.2.2
theorem bdX12_asksOn_0 : (decode cX12_asksOn 0 = .ok (.aload_n 0, 1)) ∧ (decode cX12_asksOn 1 = .ok (.iconst 3, 1)) ∧ (decode cX12_asksOn 2 = .ok (.invokevirtual 218, 3)) ∧ (decode cX12_asksOn 5 = .ok (.ifCond .ne 11, 3)) ∧ (decode cX12_asksOn 8 = .ok (.aload_n 0, 1)) ∧ (decode cX12_asksOn 9 = .ok (.iconst 4, 1)) ∧ (decode cX12_asksOn 10 = .ok (.invokevirtual 218, 3)) ∧ (decode cX12_asksOn 13 = .ok (.ifCond .eq 32, 3)) ∧ (decode cX12_asksOn 16 = .ok (.aload_n 0, 1)) ∧ (decode cX12_asksOn 17 = .ok (.aload_n 0, 1)) ∧ (decode cX12_asksOn 18 = .ok (.iconst 3, 1)) ∧ (decode cX12_asksOn 19 = .ok (.invokevirtual 218, 3)) ∧ (decode cX12_asksOn 22 = .ok (.ifCond .eq 9, 3)) ∧ (decode cX12_asksOn 25 = .ok (.sipush 407, 3)) ∧ (decode cX12_asksOn 28 = .ok (.goto 6, 3)) ∧ (decode cX12_asksOn 31 = .ok (.sipush 406, 3)) := by decide +kernel
theorem dX12_asksOn_0 : decode cX12_asksOn 0 = .ok (.aload_n 0, 1) := bdX12_asksOn_0.1
theorem dX12_asksOn_1 : decode cX12_asksOn 1 = .ok (.iconst 3, 1) := bdX12_asksOn_0.2.1
theorem dX12_asksOn_2 : decode cX12_asksOn 2 = .ok (.invokevirtual 218, 3) := bdX12_asksOn_0.2.2.1
theorem dX12_asksOn_5 : decode cX12_asksOn 5 = .ok (.ifCond .ne 11, 3) := bdX12_asksOn_0.2.2.2.1
theorem dX12_asksOn_8 : decode cX12_asksOn 8 = .ok (.aload_n 0, 1) := bdX12_asksOn_0.2.2.2.2.1
theorem dX12_asksOn_9 : decode cX12_asksOn 9 = .ok (.iconst 4, 1) := bdX12_asksOn_0.2.2.2.2.2.1
theorem dX12_asksOn_10 : decode cX12_asksOn 10 = .ok (.invokevirtual 218, 3) := bdX12_asksOn_0.2.2.2.2.2.2.1
theorem dX12_asksOn_13 : decode cX12_asksOn 13 = .ok (.ifCond .eq 32, 3) := bdX12_asksOn_0.2.2.2.2.2.2.2.1
theorem dX12_asksOn_16 : decode cX12_asksOn 16 = .ok (.aload_n 0, 1) := bdX12_asksOn_0.2.2.2.2.2.2.2.2.1
theorem dX12_asksOn_17 : decode cX12_asksOn 17 = .ok (.aload_n 0, 1) := bdX12_asksOn_0.2.2.2.2.2.2.2.2.2.1
theorem dX12_asksOn_18 : decode cX12_asksOn 18 = .ok (.iconst 3, 1) := bdX12_asksOn_0.2.2.2.2.2.2.2.2.2.2.1
theorem dX12_asksOn_19 : decode cX12_asksOn 19 = .ok (.invokevirtual 218, 3) := bdX12_asksOn_0.2.2.2.2.2.2.2.2.2.2.2.1
theorem dX12_asksOn_22 : decode cX12_asksOn 22 = .ok (.ifCond .eq 9, 3) := bdX12_asksOn_0.2.2.2.2.2.2.2.2.2.2.2.2.1
theorem dX12_asksOn_25 : decode cX12_asksOn 25 = .ok (.sipush 407, 3) := bdX12_asksOn_0.2.2.2.2.2.2.2.2.2.2.2.2.2.1
theorem dX12_asksOn_28 : decode cX12_asksOn 28 = .ok (.goto 6, 3) := bdX12_asksOn_0.2.2.2.2.2.2.2.2.2.2.2.2.2.2.1
theorem dX12_asksOn_31 : decode cX12_asksOn 31 = .ok (.sipush 406, 3) := bdX12_asksOn_0.2.2.2.2.2.2.2.2.2.2.2.2.2.2.2
theorem bdX12_asksOn_34 : (decode cX12_asksOn 34 = .ok (.invokevirtual 240, 3)) ∧ (decode cX12_asksOn 37 = .ok (.aload_n 0, 1)) ∧ (decode cX12_asksOn 38 = .ok (.iconst 0, 1)) ∧ (decode cX12_asksOn 39 = .ok (.putfield 224, 3)) ∧ (decode cX12_asksOn 42 = .ok (.goto 32, 3)) ∧ (decode cX12_asksOn 45 = .ok (.aload_n 0, 1)) ∧ (decode cX12_asksOn 46 = .ok (.invokevirtual 236, 3)) ∧ (decode cX12_asksOn 49 = .ok (.iconst 2, 1)) ∧ (decode cX12_asksOn 50 = .ok (.if_icmp .ne 19, 3)) ∧ (decode cX12_asksOn 53 = .ok (.aload_n 0, 1)) ∧ (decode cX12_asksOn 54 = .ok (.bipush 59, 2)) ∧ (decode cX12_asksOn 56 = .ok (.invokevirtual 233, 3)) ∧ (decode cX12_asksOn 59 = .ok (.ifCond .eq 10, 3)) ∧ (decode cX12_asksOn 62 = .ok (.aload_n 0, 1)) ∧ (decode cX12_asksOn 63 = .ok (.invokevirtual 249, 3)) ∧ (decode cX12_asksOn 66 = .ok (.goto 8, 3)) := by decide +kernel
theorem dX12_asksOn_34 : decode cX12_asksOn 34 = .ok (.invokevirtual 240, 3) := bdX12_asksOn_34.1
theorem dX12_asksOn_37 : decode cX12_asksOn 37 = .ok (.aload_n 0, 1) := bdX12_asksOn_34.2.1
theorem dX12_asksOn_38 : decode cX12_asksOn 38 = .ok (.iconst 0, 1) := bdX12_asksOn_34.2.2.1
theorem dX12_asksOn_39 : decode cX12_asksOn 39 = .ok (.putfield 224, 3) := bdX12_asksOn_34.2.2.2.1
theorem dX12_asksOn_42 : decode cX12_asksOn 42 = .ok (.goto 32, 3) := bdX12_asksOn_34.2.2.2.2.1
theorem dX12_asksOn_45 : decode cX12_asksOn 45 = .ok (.aload_n 0, 1) := bdX12_asksOn_34.2.2.2.2.2.1
theorem dX12_asksOn_46 : decode cX12_asksOn 46 = .ok (.invokevirtual 236, 3) := bdX12_asksOn_34.2.2.2.2.2.2.1
theorem dX12_asksOn_49 : decode cX12_asksOn 49 = .ok (.iconst 2, 1) := bdX12_asksOn_34.2.2.2.2.2.2.2.1
theorem dX12_asksOn_50 : decode cX12_asksOn 50 = .ok (.if_icmp .ne 19, 3) := bdX12_asksOn_34.2.2.2.2.2.2.2.2.1
theorem dX12_asksOn_53 : decode cX12_asksOn 53 = .ok (.aload_n 0, 1) := bdX12_asksOn_34.2.2.2.2.2.2.2.2.2.1
theorem dX12_asksOn_54 : decode cX12_asksOn 54 = .ok (.bipush 59, 2) := bdX12_asksOn_34.2.2.2.2.2.2.2.2.2.2.1
theorem dX12_asksOn_56 : decode cX12_asksOn 56 = .ok (.invokevirtual 233, 3) := bdX12_asksOn_34.2.2.2.2.2.2.2.2.2.2.2.1
theorem dX12_asksOn_59 : decode cX12_asksOn 59 = .ok (.ifCond .eq 10, 3) := bdX12_asksOn_34.2.2.2.2.2.2.2.2.2.2.2.2.1
theorem dX12_asksOn_62 : decode cX12_asksOn 62 = .ok (.aload_n 0, 1) := bdX12_asksOn_34.2.2.2.2.2.2.2.2.2.2.2.2.2.1
theorem dX12_asksOn_63 : decode cX12_asksOn 63 = .ok (.invokevirtual 249, 3) := bdX12_asksOn_34.2.2.2.2.2.2.2.2.2.2.2.2.2.2.1
theorem dX12_asksOn_66 : decode cX12_asksOn 66 = .ok (.goto 8, 3) := bdX12_asksOn_34.2.2.2.2.2.2.2.2.2.2.2.2.2.2.2
theorem bdX12_asksOn_69 : (decode cX12_asksOn 69 = .ok (.aload_n 0, 1)) ∧ (decode cX12_asksOn 70 = .ok (.iconst 1, 1)) ∧ (decode cX12_asksOn 71 = .ok (.invokevirtual 196, 3)) ∧ (decode cX12_asksOn 74 = .ok (.return_, 1)) := by decide +kernel
theorem dX12_asksOn_69 : decode cX12_asksOn 69 = .ok (.aload_n 0, 1) := bdX12_asksOn_69.1
theorem dX12_asksOn_70 : decode cX12_asksOn 70 = .ok (.iconst 1, 1) := bdX12_asksOn_69.2.1
theorem dX12_asksOn_71 : decode cX12_asksOn 71 = .ok (.invokevirtual 196, 3) := bdX12_asksOn_69.2.2.1
theorem dX12_asksOn_74 : decode cX12_asksOn 74 = .ok (.return_, 1) := bdX12_asksOn_69.2.2.2
theorem bdX12_wasWalk_0 : (decode cX12_wasWalk 0 = .ok (.iconst 0, 1)) ∧ (decode cX12_wasWalk 1 = .ok (.istore_n 1, 1)) ∧ (decode cX12_wasWalk 2 = .ok (.iconst 0, 1)) ∧ (decode cX12_wasWalk 3 = .ok (.istore_n 2, 1)) ∧ (decode cX12_wasWalk 4 = .ok (.iload_n 2, 1)) ∧ (decode cX12_wasWalk 5 = .ok (.aload_n 0, 1)) ∧ (decode cX12_wasWalk 6 = .ok (.getfield 252, 3)) ∧ (decode cX12_wasWalk 9 = .ok (.if_icmp .ge 28, 3)) ∧ (decode cX12_wasWalk 12 = .ok (.iload_n 1, 1)) ∧ (decode cX12_wasWalk 13 = .ok (.ifCond .ne 12, 3)) ∧ (decode cX12_wasWalk 16 = .ok (.aload_n 0, 1)) ∧ (decode cX12_wasWalk 17 = .ok (.getfield 57, 3)) ∧ (decode cX12_wasWalk 20 = .ok (.iload_n 2, 1)) ∧ (decode cX12_wasWalk 21 = .ok (.iaload, 1)) ∧ (decode cX12_wasWalk 22 = .ok (.ifCond .ne 7, 3)) ∧ (decode cX12_wasWalk 25 = .ok (.iconst 1, 1)) := by decide +kernel
theorem dX12_wasWalk_0 : decode cX12_wasWalk 0 = .ok (.iconst 0, 1) := bdX12_wasWalk_0.1
theorem dX12_wasWalk_1 : decode cX12_wasWalk 1 = .ok (.istore_n 1, 1) := bdX12_wasWalk_0.2.1
theorem dX12_wasWalk_2 : decode cX12_wasWalk 2 = .ok (.iconst 0, 1) := bdX12_wasWalk_0.2.2.1
theorem dX12_wasWalk_3 : decode cX12_wasWalk 3 = .ok (.istore_n 2, 1) := bdX12_wasWalk_0.2.2.2.1
theorem dX12_wasWalk_4 : decode cX12_wasWalk 4 = .ok (.iload_n 2, 1) := bdX12_wasWalk_0.2.2.2.2.1
theorem dX12_wasWalk_5 : decode cX12_wasWalk 5 = .ok (.aload_n 0, 1) := bdX12_wasWalk_0.2.2.2.2.2.1
theorem dX12_wasWalk_6 : decode cX12_wasWalk 6 = .ok (.getfield 252, 3) := bdX12_wasWalk_0.2.2.2.2.2.2.1
theorem dX12_wasWalk_9 : decode cX12_wasWalk 9 = .ok (.if_icmp .ge 28, 3) := bdX12_wasWalk_0.2.2.2.2.2.2.2.1
theorem dX12_wasWalk_12 : decode cX12_wasWalk 12 = .ok (.iload_n 1, 1) := bdX12_wasWalk_0.2.2.2.2.2.2.2.2.1
theorem dX12_wasWalk_13 : decode cX12_wasWalk 13 = .ok (.ifCond .ne 12, 3) := bdX12_wasWalk_0.2.2.2.2.2.2.2.2.2.1
theorem dX12_wasWalk_16 : decode cX12_wasWalk 16 = .ok (.aload_n 0, 1) := bdX12_wasWalk_0.2.2.2.2.2.2.2.2.2.2.1
theorem dX12_wasWalk_17 : decode cX12_wasWalk 17 = .ok (.getfield 57, 3) := bdX12_wasWalk_0.2.2.2.2.2.2.2.2.2.2.2.1
theorem dX12_wasWalk_20 : decode cX12_wasWalk 20 = .ok (.iload_n 2, 1) := bdX12_wasWalk_0.2.2.2.2.2.2.2.2.2.2.2.2.1
theorem dX12_wasWalk_21 : decode cX12_wasWalk 21 = .ok (.iaload, 1) := bdX12_wasWalk_0.2.2.2.2.2.2.2.2.2.2.2.2.2.1
theorem dX12_wasWalk_22 : decode cX12_wasWalk 22 = .ok (.ifCond .ne 7, 3) := bdX12_wasWalk_0.2.2.2.2.2.2.2.2.2.2.2.2.2.2.1
theorem dX12_wasWalk_25 : decode cX12_wasWalk 25 = .ok (.iconst 1, 1) := bdX12_wasWalk_0.2.2.2.2.2.2.2.2.2.2.2.2.2.2.2
theorem bdX12_wasWalk_26 : (decode cX12_wasWalk 26 = .ok (.goto 4, 3)) ∧ (decode cX12_wasWalk 29 = .ok (.iconst 0, 1)) ∧ (decode cX12_wasWalk 30 = .ok (.istore_n 1, 1)) ∧ (decode cX12_wasWalk 31 = .ok (.iinc 2 1, 3)) ∧ (decode cX12_wasWalk 34 = .ok (.goto (-30), 3)) ∧ (decode cX12_wasWalk 37 = .ok (.iload_n 1, 1)) ∧ (decode cX12_wasWalk 38 = .ok (.ireturn, 1)) := by decide +kernel
theorem dX12_wasWalk_26 : decode cX12_wasWalk 26 = .ok (.goto 4, 3) := bdX12_wasWalk_26.1
theorem dX12_wasWalk_29 : decode cX12_wasWalk 29 = .ok (.iconst 0, 1) := bdX12_wasWalk_26.2.1
theorem dX12_wasWalk_30 : decode cX12_wasWalk 30 = .ok (.istore_n 1, 1) := bdX12_wasWalk_26.2.2.1
theorem dX12_wasWalk_31 : decode cX12_wasWalk 31 = .ok (.iinc 2 1, 3) := bdX12_wasWalk_26.2.2.2.1
theorem dX12_wasWalk_34 : decode cX12_wasWalk 34 = .ok (.goto (-30), 3) := bdX12_wasWalk_26.2.2.2.2.1
theorem dX12_wasWalk_37 : decode cX12_wasWalk 37 = .ok (.iload_n 1, 1) := bdX12_wasWalk_26.2.2.2.2.2.1
theorem dX12_wasWalk_38 : decode cX12_wasWalk 38 = .ok (.ireturn, 1) := bdX12_wasWalk_26.2.2.2.2.2.2
theorem bdX12_opensFrame_0 : (decode cX12_opensFrame 0 = .ok (.aload_n 0, 1)) ∧ (decode cX12_opensFrame 1 = .ok (.getfield 45, 3)) ∧ (decode cX12_opensFrame 4 = .ok (.aload_n 0, 1)) ∧ (decode cX12_opensFrame 5 = .ok (.getfield 190, 3)) ∧ (decode cX12_opensFrame 8 = .ok (.iload_n 1, 1)) ∧ (decode cX12_opensFrame 9 = .ok (.iastore, 1)) ∧ (decode cX12_opensFrame 10 = .ok (.aload_n 0, 1)) ∧ (decode cX12_opensFrame 11 = .ok (.dup, 1)) ∧ (decode cX12_opensFrame 12 = .ok (.getfield 190, 3)) ∧ (decode cX12_opensFrame 15 = .ok (.iconst 1, 1)) ∧ (decode cX12_opensFrame 16 = .ok (.iadd, 1)) ∧ (decode cX12_opensFrame 17 = .ok (.putfield 190, 3)) ∧ (decode cX12_opensFrame 20 = .ok (.return_, 1)) := by decide +kernel
theorem dX12_opensFrame_0 : decode cX12_opensFrame 0 = .ok (.aload_n 0, 1) := bdX12_opensFrame_0.1
theorem dX12_opensFrame_1 : decode cX12_opensFrame 1 = .ok (.getfield 45, 3) := bdX12_opensFrame_0.2.1
theorem dX12_opensFrame_4 : decode cX12_opensFrame 4 = .ok (.aload_n 0, 1) := bdX12_opensFrame_0.2.2.1
theorem dX12_opensFrame_5 : decode cX12_opensFrame 5 = .ok (.getfield 190, 3) := bdX12_opensFrame_0.2.2.2.1
theorem dX12_opensFrame_8 : decode cX12_opensFrame 8 = .ok (.iload_n 1, 1) := bdX12_opensFrame_0.2.2.2.2.1
theorem dX12_opensFrame_9 : decode cX12_opensFrame 9 = .ok (.iastore, 1) := bdX12_opensFrame_0.2.2.2.2.2.1
theorem dX12_opensFrame_10 : decode cX12_opensFrame 10 = .ok (.aload_n 0, 1) := bdX12_opensFrame_0.2.2.2.2.2.2.1
theorem dX12_opensFrame_11 : decode cX12_opensFrame 11 = .ok (.dup, 1) := bdX12_opensFrame_0.2.2.2.2.2.2.2.1
theorem dX12_opensFrame_12 : decode cX12_opensFrame 12 = .ok (.getfield 190, 3) := bdX12_opensFrame_0.2.2.2.2.2.2.2.2.1
theorem dX12_opensFrame_15 : decode cX12_opensFrame 15 = .ok (.iconst 1, 1) := bdX12_opensFrame_0.2.2.2.2.2.2.2.2.2.1
theorem dX12_opensFrame_16 : decode cX12_opensFrame 16 = .ok (.iadd, 1) := bdX12_opensFrame_0.2.2.2.2.2.2.2.2.2.2.1
theorem dX12_opensFrame_17 : decode cX12_opensFrame 17 = .ok (.putfield 190, 3) := bdX12_opensFrame_0.2.2.2.2.2.2.2.2.2.2.2.1
theorem dX12_opensFrame_20 : decode cX12_opensFrame 20 = .ok (.return_, 1) := bdX12_opensFrame_0.2.2.2.2.2.2.2.2.2.2.2.2
theorem bdX12_clause_0 : (decode cX12_clause 0 = .ok (.aload_n 0, 1)) ∧ (decode cX12_clause 1 = .ok (.getfield 166, 3)) ∧ (decode cX12_clause 4 = .ok (.iconst 1, 1)) ∧ (decode cX12_clause 5 = .ok (.if_icmp .ne 11, 3)) ∧ (decode cX12_clause 8 = .ok (.aload_n 0, 1)) ∧ (decode cX12_clause 9 = .ok (.getfield 178, 3)) ∧ (decode cX12_clause 12 = .ok (.iconst 2, 1)) ∧ (decode cX12_clause 13 = .ok (.if_icmp .le 9, 3)) ∧ (decode cX12_clause 16 = .ok (.aload_n 0, 1)) ∧ (decode cX12_clause 17 = .ok (.iconst 1, 1)) ∧ (decode cX12_clause 18 = .ok (.invokevirtual 196, 3)) ∧ (decode cX12_clause 21 = .ok (.return_, 1)) ∧ (decode cX12_clause 22 = .ok (.aload_n 0, 1)) ∧ (decode cX12_clause 23 = .ok (.aload_n 0, 1)) ∧ (decode cX12_clause 24 = .ok (.getfield 178, 3)) ∧ (decode cX12_clause 27 = .ok (.putfield 230, 3)) := by decide +kernel
theorem dX12_clause_0 : decode cX12_clause 0 = .ok (.aload_n 0, 1) := bdX12_clause_0.1
theorem dX12_clause_1 : decode cX12_clause 1 = .ok (.getfield 166, 3) := bdX12_clause_0.2.1
theorem dX12_clause_4 : decode cX12_clause 4 = .ok (.iconst 1, 1) := bdX12_clause_0.2.2.1
theorem dX12_clause_5 : decode cX12_clause 5 = .ok (.if_icmp .ne 11, 3) := bdX12_clause_0.2.2.2.1
theorem dX12_clause_8 : decode cX12_clause 8 = .ok (.aload_n 0, 1) := bdX12_clause_0.2.2.2.2.1
theorem dX12_clause_9 : decode cX12_clause 9 = .ok (.getfield 178, 3) := bdX12_clause_0.2.2.2.2.2.1
theorem dX12_clause_12 : decode cX12_clause 12 = .ok (.iconst 2, 1) := bdX12_clause_0.2.2.2.2.2.2.1
theorem dX12_clause_13 : decode cX12_clause 13 = .ok (.if_icmp .le 9, 3) := bdX12_clause_0.2.2.2.2.2.2.2.1
theorem dX12_clause_16 : decode cX12_clause 16 = .ok (.aload_n 0, 1) := bdX12_clause_0.2.2.2.2.2.2.2.2.1
theorem dX12_clause_17 : decode cX12_clause 17 = .ok (.iconst 1, 1) := bdX12_clause_0.2.2.2.2.2.2.2.2.2.1
theorem dX12_clause_18 : decode cX12_clause 18 = .ok (.invokevirtual 196, 3) := bdX12_clause_0.2.2.2.2.2.2.2.2.2.2.1
theorem dX12_clause_21 : decode cX12_clause 21 = .ok (.return_, 1) := bdX12_clause_0.2.2.2.2.2.2.2.2.2.2.2.1
theorem dX12_clause_22 : decode cX12_clause 22 = .ok (.aload_n 0, 1) := bdX12_clause_0.2.2.2.2.2.2.2.2.2.2.2.2.1
theorem dX12_clause_23 : decode cX12_clause 23 = .ok (.aload_n 0, 1) := bdX12_clause_0.2.2.2.2.2.2.2.2.2.2.2.2.2.1
theorem dX12_clause_24 : decode cX12_clause 24 = .ok (.getfield 178, 3) := bdX12_clause_0.2.2.2.2.2.2.2.2.2.2.2.2.2.2.1
theorem dX12_clause_27 : decode cX12_clause 27 = .ok (.putfield 230, 3) := bdX12_clause_0.2.2.2.2.2.2.2.2.2.2.2.2.2.2.2
theorem bdX12_clause_30 : (decode cX12_clause 30 = .ok (.aload_n 0, 1)) ∧ (decode cX12_clause 31 = .ok (.getfield 230, 3)) ∧ (decode cX12_clause 34 = .ok (.ifCond .ne 18, 3)) ∧ (decode cX12_clause 37 = .ok (.aload_n 0, 1)) ∧ (decode cX12_clause 38 = .ok (.invokevirtual 255, 3)) ∧ (decode cX12_clause 41 = .ok (.ifCond .eq 11, 3)) ∧ (decode cX12_clause 44 = .ok (.aload_n 0, 1)) ∧ (decode cX12_clause 45 = .ok (.iconst 4, 1)) ∧ (decode cX12_clause 46 = .ok (.invokevirtual 196, 3)) ∧ (decode cX12_clause 49 = .ok (.goto 18, 3)) ∧ (decode cX12_clause 52 = .ok (.aload_n 0, 1)) ∧ (decode cX12_clause 53 = .ok (.getfield 252, 3)) ∧ (decode cX12_clause 56 = .ok (.bipush 10, 2)) ∧ (decode cX12_clause 58 = .ok (.if_icmp .ne 9, 3)) ∧ (decode cX12_clause 61 = .ok (.aload_n 0, 1)) ∧ (decode cX12_clause 62 = .ok (.bipush 6, 2)) := by decide +kernel
theorem dX12_clause_30 : decode cX12_clause 30 = .ok (.aload_n 0, 1) := bdX12_clause_30.1
theorem dX12_clause_31 : decode cX12_clause 31 = .ok (.getfield 230, 3) := bdX12_clause_30.2.1
theorem dX12_clause_34 : decode cX12_clause 34 = .ok (.ifCond .ne 18, 3) := bdX12_clause_30.2.2.1
theorem dX12_clause_37 : decode cX12_clause 37 = .ok (.aload_n 0, 1) := bdX12_clause_30.2.2.2.1
theorem dX12_clause_38 : decode cX12_clause 38 = .ok (.invokevirtual 255, 3) := bdX12_clause_30.2.2.2.2.1
theorem dX12_clause_41 : decode cX12_clause 41 = .ok (.ifCond .eq 11, 3) := bdX12_clause_30.2.2.2.2.2.1
theorem dX12_clause_44 : decode cX12_clause 44 = .ok (.aload_n 0, 1) := bdX12_clause_30.2.2.2.2.2.2.1
theorem dX12_clause_45 : decode cX12_clause 45 = .ok (.iconst 4, 1) := bdX12_clause_30.2.2.2.2.2.2.2.1
theorem dX12_clause_46 : decode cX12_clause 46 = .ok (.invokevirtual 196, 3) := bdX12_clause_30.2.2.2.2.2.2.2.2.1
theorem dX12_clause_49 : decode cX12_clause 49 = .ok (.goto 18, 3) := bdX12_clause_30.2.2.2.2.2.2.2.2.2.1
theorem dX12_clause_52 : decode cX12_clause 52 = .ok (.aload_n 0, 1) := bdX12_clause_30.2.2.2.2.2.2.2.2.2.2.1
theorem dX12_clause_53 : decode cX12_clause 53 = .ok (.getfield 252, 3) := bdX12_clause_30.2.2.2.2.2.2.2.2.2.2.2.1
theorem dX12_clause_56 : decode cX12_clause 56 = .ok (.bipush 10, 2) := bdX12_clause_30.2.2.2.2.2.2.2.2.2.2.2.2.1
theorem dX12_clause_58 : decode cX12_clause 58 = .ok (.if_icmp .ne 9, 3) := bdX12_clause_30.2.2.2.2.2.2.2.2.2.2.2.2.2.1
theorem dX12_clause_61 : decode cX12_clause 61 = .ok (.aload_n 0, 1) := bdX12_clause_30.2.2.2.2.2.2.2.2.2.2.2.2.2.2.1
theorem dX12_clause_62 : decode cX12_clause 62 = .ok (.bipush 6, 2) := bdX12_clause_30.2.2.2.2.2.2.2.2.2.2.2.2.2.2.2
theorem bdX12_clause_64 : (decode cX12_clause 64 = .ok (.invokevirtual 196, 3)) ∧ (decode cX12_clause 67 = .ok (.aload_n 0, 1)) ∧ (decode cX12_clause 68 = .ok (.getfield 181, 3)) ∧ (decode cX12_clause 71 = .ok (.ifCond .le 4, 3)) ∧ (decode cX12_clause 74 = .ok (.return_, 1)) ∧ (decode cX12_clause 75 = .ok (.aload_n 0, 1)) ∧ (decode cX12_clause 76 = .ok (.getfield 57, 3)) ∧ (decode cX12_clause 79 = .ok (.aload_n 0, 1)) ∧ (decode cX12_clause 80 = .ok (.getfield 252, 3)) ∧ (decode cX12_clause 83 = .ok (.aload_n 0, 1)) ∧ (decode cX12_clause 84 = .ok (.getfield 230, 3)) ∧ (decode cX12_clause 87 = .ok (.iastore, 1)) ∧ (decode cX12_clause 88 = .ok (.aload_n 0, 1)) ∧ (decode cX12_clause 89 = .ok (.getfield 60, 3)) ∧ (decode cX12_clause 92 = .ok (.aload_n 0, 1)) ∧ (decode cX12_clause 93 = .ok (.getfield 252, 3)) := by decide +kernel
theorem dX12_clause_64 : decode cX12_clause 64 = .ok (.invokevirtual 196, 3) := bdX12_clause_64.1
theorem dX12_clause_67 : decode cX12_clause 67 = .ok (.aload_n 0, 1) := bdX12_clause_64.2.1
theorem dX12_clause_68 : decode cX12_clause 68 = .ok (.getfield 181, 3) := bdX12_clause_64.2.2.1
theorem dX12_clause_71 : decode cX12_clause 71 = .ok (.ifCond .le 4, 3) := bdX12_clause_64.2.2.2.1
theorem dX12_clause_74 : decode cX12_clause 74 = .ok (.return_, 1) := bdX12_clause_64.2.2.2.2.1
theorem dX12_clause_75 : decode cX12_clause 75 = .ok (.aload_n 0, 1) := bdX12_clause_64.2.2.2.2.2.1
theorem dX12_clause_76 : decode cX12_clause 76 = .ok (.getfield 57, 3) := bdX12_clause_64.2.2.2.2.2.2.1
theorem dX12_clause_79 : decode cX12_clause 79 = .ok (.aload_n 0, 1) := bdX12_clause_64.2.2.2.2.2.2.2.1
theorem dX12_clause_80 : decode cX12_clause 80 = .ok (.getfield 252, 3) := bdX12_clause_64.2.2.2.2.2.2.2.2.1
theorem dX12_clause_83 : decode cX12_clause 83 = .ok (.aload_n 0, 1) := bdX12_clause_64.2.2.2.2.2.2.2.2.2.1
theorem dX12_clause_84 : decode cX12_clause 84 = .ok (.getfield 230, 3) := bdX12_clause_64.2.2.2.2.2.2.2.2.2.2.1
theorem dX12_clause_87 : decode cX12_clause 87 = .ok (.iastore, 1) := bdX12_clause_64.2.2.2.2.2.2.2.2.2.2.2.1
theorem dX12_clause_88 : decode cX12_clause 88 = .ok (.aload_n 0, 1) := bdX12_clause_64.2.2.2.2.2.2.2.2.2.2.2.2.1
theorem dX12_clause_89 : decode cX12_clause 89 = .ok (.getfield 60, 3) := bdX12_clause_64.2.2.2.2.2.2.2.2.2.2.2.2.2.1
theorem dX12_clause_92 : decode cX12_clause 92 = .ok (.aload_n 0, 1) := bdX12_clause_64.2.2.2.2.2.2.2.2.2.2.2.2.2.2.1
theorem dX12_clause_93 : decode cX12_clause 93 = .ok (.getfield 252, 3) := bdX12_clause_64.2.2.2.2.2.2.2.2.2.2.2.2.2.2.2
theorem bdX12_clause_96 : (decode cX12_clause 96 = .ok (.aload_n 0, 1)) ∧ (decode cX12_clause 97 = .ok (.getfield 187, 3)) ∧ (decode cX12_clause 100 = .ok (.iastore, 1)) ∧ (decode cX12_clause 101 = .ok (.aload_n 0, 1)) ∧ (decode cX12_clause 102 = .ok (.invokevirtual 202, 3)) ∧ (decode cX12_clause 105 = .ok (.aload_n 0, 1)) ∧ (decode cX12_clause 106 = .ok (.aload_n 0, 1)) ∧ (decode cX12_clause 107 = .ok (.getfield 230, 3)) ∧ (decode cX12_clause 110 = .ok (.ifCond .ne 7, 3)) ∧ (decode cX12_clause 113 = .ok (.iconst 1, 1)) ∧ (decode cX12_clause 114 = .ok (.goto 4, 3)) ∧ (decode cX12_clause 117 = .ok (.iconst 2, 1)) ∧ (decode cX12_clause 118 = .ok (.invokevirtual 199, 3)) ∧ (decode cX12_clause 121 = .ok (.aload_n 0, 1)) ∧ (decode cX12_clause 122 = .ok (.aload_n 0, 1)) ∧ (decode cX12_clause 123 = .ok (.getfield 230, 3)) := by decide +kernel
theorem dX12_clause_96 : decode cX12_clause 96 = .ok (.aload_n 0, 1) := bdX12_clause_96.1
theorem dX12_clause_97 : decode cX12_clause 97 = .ok (.getfield 187, 3) := bdX12_clause_96.2.1
theorem dX12_clause_100 : decode cX12_clause 100 = .ok (.iastore, 1) := bdX12_clause_96.2.2.1
theorem dX12_clause_101 : decode cX12_clause 101 = .ok (.aload_n 0, 1) := bdX12_clause_96.2.2.2.1
theorem dX12_clause_102 : decode cX12_clause 102 = .ok (.invokevirtual 202, 3) := bdX12_clause_96.2.2.2.2.1
theorem dX12_clause_105 : decode cX12_clause 105 = .ok (.aload_n 0, 1) := bdX12_clause_96.2.2.2.2.2.1
theorem dX12_clause_106 : decode cX12_clause 106 = .ok (.aload_n 0, 1) := bdX12_clause_96.2.2.2.2.2.2.1
theorem dX12_clause_107 : decode cX12_clause 107 = .ok (.getfield 230, 3) := bdX12_clause_96.2.2.2.2.2.2.2.1
theorem dX12_clause_110 : decode cX12_clause 110 = .ok (.ifCond .ne 7, 3) := bdX12_clause_96.2.2.2.2.2.2.2.2.1
theorem dX12_clause_113 : decode cX12_clause 113 = .ok (.iconst 1, 1) := bdX12_clause_96.2.2.2.2.2.2.2.2.2.1
theorem dX12_clause_114 : decode cX12_clause 114 = .ok (.goto 4, 3) := bdX12_clause_96.2.2.2.2.2.2.2.2.2.2.1
theorem dX12_clause_117 : decode cX12_clause 117 = .ok (.iconst 2, 1) := bdX12_clause_96.2.2.2.2.2.2.2.2.2.2.2.1
theorem dX12_clause_118 : decode cX12_clause 118 = .ok (.invokevirtual 199, 3) := bdX12_clause_96.2.2.2.2.2.2.2.2.2.2.2.2.1
theorem dX12_clause_121 : decode cX12_clause 121 = .ok (.aload_n 0, 1) := bdX12_clause_96.2.2.2.2.2.2.2.2.2.2.2.2.2.1
theorem dX12_clause_122 : decode cX12_clause 122 = .ok (.aload_n 0, 1) := bdX12_clause_96.2.2.2.2.2.2.2.2.2.2.2.2.2.2.1
theorem dX12_clause_123 : decode cX12_clause 123 = .ok (.getfield 230, 3) := bdX12_clause_96.2.2.2.2.2.2.2.2.2.2.2.2.2.2.2
theorem bdX12_clause_126 : (decode cX12_clause 126 = .ok (.ifCond .ne 7, 3)) ∧ (decode cX12_clause 129 = .ok (.iconst 1, 1)) ∧ (decode cX12_clause 130 = .ok (.goto 4, 3)) ∧ (decode cX12_clause 133 = .ok (.iconst 0, 1)) ∧ (decode cX12_clause 134 = .ok (.putfield 224, 3)) ∧ (decode cX12_clause 137 = .ok (.return_, 1)) := by decide +kernel
theorem dX12_clause_126 : decode cX12_clause 126 = .ok (.ifCond .ne 7, 3) := bdX12_clause_126.1
theorem dX12_clause_129 : decode cX12_clause 129 = .ok (.iconst 1, 1) := bdX12_clause_126.2.1
theorem dX12_clause_130 : decode cX12_clause 130 = .ok (.goto 4, 3) := bdX12_clause_126.2.2.1
theorem dX12_clause_133 : decode cX12_clause 133 = .ok (.iconst 0, 1) := bdX12_clause_126.2.2.2.1
theorem dX12_clause_134 : decode cX12_clause 134 = .ok (.putfield 224, 3) := bdX12_clause_126.2.2.2.2.1
theorem dX12_clause_137 : decode cX12_clause 137 = .ok (.return_, 1) := bdX12_clause_126.2.2.2.2.2
theorem bdX12_keepsText_0 : (decode cX12_keepsText 0 = .ok (.aload_n 0, 1)) ∧ (decode cX12_keepsText 1 = .ok (.getfield 30, 3)) ∧ (decode cX12_keepsText 4 = .ok (.iload_n 1, 1)) ∧ (decode cX12_keepsText 5 = .ok (.aload_n 0, 1)) ∧ (decode cX12_keepsText 6 = .ok (.getfield 252, 3)) ∧ (decode cX12_keepsText 9 = .ok (.iastore, 1)) ∧ (decode cX12_keepsText 10 = .ok (.iconst 0, 1)) ∧ (decode cX12_keepsText 11 = .ok (.istore_n 2, 1)) ∧ (decode cX12_keepsText 12 = .ok (.iload_n 2, 1)) ∧ (decode cX12_keepsText 13 = .ok (.aload_n 0, 1)) ∧ (decode cX12_keepsText 14 = .ok (.getfield 252, 3)) ∧ (decode cX12_keepsText 17 = .ok (.if_icmp .ge 49, 3)) ∧ (decode cX12_keepsText 20 = .ok (.aload_n 0, 1)) ∧ (decode cX12_keepsText 21 = .ok (.getfield 33, 3)) ∧ (decode cX12_keepsText 24 = .ok (.bipush 10, 2)) ∧ (decode cX12_keepsText 26 = .ok (.iload_n 1, 1)) := by decide +kernel
theorem dX12_keepsText_0 : decode cX12_keepsText 0 = .ok (.aload_n 0, 1) := bdX12_keepsText_0.1
theorem dX12_keepsText_1 : decode cX12_keepsText 1 = .ok (.getfield 30, 3) := bdX12_keepsText_0.2.1
theorem dX12_keepsText_4 : decode cX12_keepsText 4 = .ok (.iload_n 1, 1) := bdX12_keepsText_0.2.2.1
theorem dX12_keepsText_5 : decode cX12_keepsText 5 = .ok (.aload_n 0, 1) := bdX12_keepsText_0.2.2.2.1
theorem dX12_keepsText_6 : decode cX12_keepsText 6 = .ok (.getfield 252, 3) := bdX12_keepsText_0.2.2.2.2.1
theorem dX12_keepsText_9 : decode cX12_keepsText 9 = .ok (.iastore, 1) := bdX12_keepsText_0.2.2.2.2.2.1
theorem dX12_keepsText_10 : decode cX12_keepsText 10 = .ok (.iconst 0, 1) := bdX12_keepsText_0.2.2.2.2.2.2.1
theorem dX12_keepsText_11 : decode cX12_keepsText 11 = .ok (.istore_n 2, 1) := bdX12_keepsText_0.2.2.2.2.2.2.2.1
theorem dX12_keepsText_12 : decode cX12_keepsText 12 = .ok (.iload_n 2, 1) := bdX12_keepsText_0.2.2.2.2.2.2.2.2.1
theorem dX12_keepsText_13 : decode cX12_keepsText 13 = .ok (.aload_n 0, 1) := bdX12_keepsText_0.2.2.2.2.2.2.2.2.2.1
theorem dX12_keepsText_14 : decode cX12_keepsText 14 = .ok (.getfield 252, 3) := bdX12_keepsText_0.2.2.2.2.2.2.2.2.2.2.1
theorem dX12_keepsText_17 : decode cX12_keepsText 17 = .ok (.if_icmp .ge 49, 3) := bdX12_keepsText_0.2.2.2.2.2.2.2.2.2.2.2.1
theorem dX12_keepsText_20 : decode cX12_keepsText 20 = .ok (.aload_n 0, 1) := bdX12_keepsText_0.2.2.2.2.2.2.2.2.2.2.2.2.1
theorem dX12_keepsText_21 : decode cX12_keepsText 21 = .ok (.getfield 33, 3) := bdX12_keepsText_0.2.2.2.2.2.2.2.2.2.2.2.2.2.1
theorem dX12_keepsText_24 : decode cX12_keepsText 24 = .ok (.bipush 10, 2) := bdX12_keepsText_0.2.2.2.2.2.2.2.2.2.2.2.2.2.2.1
theorem dX12_keepsText_26 : decode cX12_keepsText 26 = .ok (.iload_n 1, 1) := bdX12_keepsText_0.2.2.2.2.2.2.2.2.2.2.2.2.2.2.2
theorem bdX12_keepsText_27 : (decode cX12_keepsText 27 = .ok (.imul, 1)) ∧ (decode cX12_keepsText 28 = .ok (.iload_n 2, 1)) ∧ (decode cX12_keepsText 29 = .ok (.iadd, 1)) ∧ (decode cX12_keepsText 30 = .ok (.aload_n 0, 1)) ∧ (decode cX12_keepsText 31 = .ok (.getfield 57, 3)) ∧ (decode cX12_keepsText 34 = .ok (.iload_n 2, 1)) ∧ (decode cX12_keepsText 35 = .ok (.iaload, 1)) ∧ (decode cX12_keepsText 36 = .ok (.iastore, 1)) ∧ (decode cX12_keepsText 37 = .ok (.aload_n 0, 1)) ∧ (decode cX12_keepsText 38 = .ok (.getfield 36, 3)) ∧ (decode cX12_keepsText 41 = .ok (.bipush 10, 2)) ∧ (decode cX12_keepsText 43 = .ok (.iload_n 1, 1)) ∧ (decode cX12_keepsText 44 = .ok (.imul, 1)) ∧ (decode cX12_keepsText 45 = .ok (.iload_n 2, 1)) ∧ (decode cX12_keepsText 46 = .ok (.iadd, 1)) ∧ (decode cX12_keepsText 47 = .ok (.sipush 400, 3)) := by decide +kernel
theorem dX12_keepsText_27 : decode cX12_keepsText 27 = .ok (.imul, 1) := bdX12_keepsText_27.1
theorem dX12_keepsText_28 : decode cX12_keepsText 28 = .ok (.iload_n 2, 1) := bdX12_keepsText_27.2.1
theorem dX12_keepsText_29 : decode cX12_keepsText 29 = .ok (.iadd, 1) := bdX12_keepsText_27.2.2.1
theorem dX12_keepsText_30 : decode cX12_keepsText 30 = .ok (.aload_n 0, 1) := bdX12_keepsText_27.2.2.2.1
theorem dX12_keepsText_31 : decode cX12_keepsText 31 = .ok (.getfield 57, 3) := bdX12_keepsText_27.2.2.2.2.1
theorem dX12_keepsText_34 : decode cX12_keepsText 34 = .ok (.iload_n 2, 1) := bdX12_keepsText_27.2.2.2.2.2.1
theorem dX12_keepsText_35 : decode cX12_keepsText 35 = .ok (.iaload, 1) := bdX12_keepsText_27.2.2.2.2.2.2.1
theorem dX12_keepsText_36 : decode cX12_keepsText 36 = .ok (.iastore, 1) := bdX12_keepsText_27.2.2.2.2.2.2.2.1
theorem dX12_keepsText_37 : decode cX12_keepsText 37 = .ok (.aload_n 0, 1) := bdX12_keepsText_27.2.2.2.2.2.2.2.2.1
theorem dX12_keepsText_38 : decode cX12_keepsText 38 = .ok (.getfield 36, 3) := bdX12_keepsText_27.2.2.2.2.2.2.2.2.2.1
theorem dX12_keepsText_41 : decode cX12_keepsText 41 = .ok (.bipush 10, 2) := bdX12_keepsText_27.2.2.2.2.2.2.2.2.2.2.1
theorem dX12_keepsText_43 : decode cX12_keepsText 43 = .ok (.iload_n 1, 1) := bdX12_keepsText_27.2.2.2.2.2.2.2.2.2.2.2.1
theorem dX12_keepsText_44 : decode cX12_keepsText 44 = .ok (.imul, 1) := bdX12_keepsText_27.2.2.2.2.2.2.2.2.2.2.2.2.1
theorem dX12_keepsText_45 : decode cX12_keepsText 45 = .ok (.iload_n 2, 1) := bdX12_keepsText_27.2.2.2.2.2.2.2.2.2.2.2.2.2.1
theorem dX12_keepsText_46 : decode cX12_keepsText 46 = .ok (.iadd, 1) := bdX12_keepsText_27.2.2.2.2.2.2.2.2.2.2.2.2.2.2.1
theorem dX12_keepsText_47 : decode cX12_keepsText 47 = .ok (.sipush 400, 3) := bdX12_keepsText_27.2.2.2.2.2.2.2.2.2.2.2.2.2.2.2
theorem bdX12_keepsText_50 : (decode cX12_keepsText 50 = .ok (.iload_n 1, 1)) ∧ (decode cX12_keepsText 51 = .ok (.imul, 1)) ∧ (decode cX12_keepsText 52 = .ok (.aload_n 0, 1)) ∧ (decode cX12_keepsText 53 = .ok (.getfield 60, 3)) ∧ (decode cX12_keepsText 56 = .ok (.iload_n 2, 1)) ∧ (decode cX12_keepsText 57 = .ok (.iaload, 1)) ∧ (decode cX12_keepsText 58 = .ok (.iadd, 1)) ∧ (decode cX12_keepsText 59 = .ok (.iastore, 1)) ∧ (decode cX12_keepsText 60 = .ok (.iinc 2 1, 3)) ∧ (decode cX12_keepsText 63 = .ok (.goto (-51), 3)) ∧ (decode cX12_keepsText 66 = .ok (.iconst 0, 1)) ∧ (decode cX12_keepsText 67 = .ok (.istore_n 2, 1)) ∧ (decode cX12_keepsText 68 = .ok (.iload_n 2, 1)) ∧ (decode cX12_keepsText 69 = .ok (.aload_n 0, 1)) ∧ (decode cX12_keepsText 70 = .ok (.getfield 187, 3)) ∧ (decode cX12_keepsText 73 = .ok (.if_icmp .ge 45, 3)) := by decide +kernel
theorem dX12_keepsText_50 : decode cX12_keepsText 50 = .ok (.iload_n 1, 1) := bdX12_keepsText_50.1
theorem dX12_keepsText_51 : decode cX12_keepsText 51 = .ok (.imul, 1) := bdX12_keepsText_50.2.1
theorem dX12_keepsText_52 : decode cX12_keepsText 52 = .ok (.aload_n 0, 1) := bdX12_keepsText_50.2.2.1
theorem dX12_keepsText_53 : decode cX12_keepsText 53 = .ok (.getfield 60, 3) := bdX12_keepsText_50.2.2.2.1
theorem dX12_keepsText_56 : decode cX12_keepsText 56 = .ok (.iload_n 2, 1) := bdX12_keepsText_50.2.2.2.2.1
theorem dX12_keepsText_57 : decode cX12_keepsText 57 = .ok (.iaload, 1) := bdX12_keepsText_50.2.2.2.2.2.1
theorem dX12_keepsText_58 : decode cX12_keepsText 58 = .ok (.iadd, 1) := bdX12_keepsText_50.2.2.2.2.2.2.1
theorem dX12_keepsText_59 : decode cX12_keepsText 59 = .ok (.iastore, 1) := bdX12_keepsText_50.2.2.2.2.2.2.2.1
theorem dX12_keepsText_60 : decode cX12_keepsText 60 = .ok (.iinc 2 1, 3) := bdX12_keepsText_50.2.2.2.2.2.2.2.2.1
theorem dX12_keepsText_63 : decode cX12_keepsText 63 = .ok (.goto (-51), 3) := bdX12_keepsText_50.2.2.2.2.2.2.2.2.2.1
theorem dX12_keepsText_66 : decode cX12_keepsText 66 = .ok (.iconst 0, 1) := bdX12_keepsText_50.2.2.2.2.2.2.2.2.2.2.1
theorem dX12_keepsText_67 : decode cX12_keepsText 67 = .ok (.istore_n 2, 1) := bdX12_keepsText_50.2.2.2.2.2.2.2.2.2.2.2.1
theorem dX12_keepsText_68 : decode cX12_keepsText 68 = .ok (.iload_n 2, 1) := bdX12_keepsText_50.2.2.2.2.2.2.2.2.2.2.2.2.1
theorem dX12_keepsText_69 : decode cX12_keepsText 69 = .ok (.aload_n 0, 1) := bdX12_keepsText_50.2.2.2.2.2.2.2.2.2.2.2.2.2.1
theorem dX12_keepsText_70 : decode cX12_keepsText 70 = .ok (.getfield 187, 3) := bdX12_keepsText_50.2.2.2.2.2.2.2.2.2.2.2.2.2.2.1
theorem dX12_keepsText_73 : decode cX12_keepsText 73 = .ok (.if_icmp .ge 45, 3) := bdX12_keepsText_50.2.2.2.2.2.2.2.2.2.2.2.2.2.2.2
theorem bdX12_keepsText_76 : (decode cX12_keepsText 76 = .ok (.aload_n 0, 1)) ∧ (decode cX12_keepsText 77 = .ok (.getfield 39, 3)) ∧ (decode cX12_keepsText 80 = .ok (.sipush 400, 3)) ∧ (decode cX12_keepsText 83 = .ok (.iload_n 1, 1)) ∧ (decode cX12_keepsText 84 = .ok (.imul, 1)) ∧ (decode cX12_keepsText 85 = .ok (.iload_n 2, 1)) ∧ (decode cX12_keepsText 86 = .ok (.iadd, 1)) ∧ (decode cX12_keepsText 87 = .ok (.aload_n 0, 1)) ∧ (decode cX12_keepsText 88 = .ok (.getfield 63, 3)) ∧ (decode cX12_keepsText 91 = .ok (.iload_n 2, 1)) ∧ (decode cX12_keepsText 92 = .ok (.iaload, 1)) ∧ (decode cX12_keepsText 93 = .ok (.iastore, 1)) ∧ (decode cX12_keepsText 94 = .ok (.aload_n 0, 1)) ∧ (decode cX12_keepsText 95 = .ok (.getfield 42, 3)) ∧ (decode cX12_keepsText 98 = .ok (.sipush 400, 3)) ∧ (decode cX12_keepsText 101 = .ok (.iload_n 1, 1)) := by decide +kernel
theorem dX12_keepsText_76 : decode cX12_keepsText 76 = .ok (.aload_n 0, 1) := bdX12_keepsText_76.1
theorem dX12_keepsText_77 : decode cX12_keepsText 77 = .ok (.getfield 39, 3) := bdX12_keepsText_76.2.1
theorem dX12_keepsText_80 : decode cX12_keepsText 80 = .ok (.sipush 400, 3) := bdX12_keepsText_76.2.2.1
theorem dX12_keepsText_83 : decode cX12_keepsText 83 = .ok (.iload_n 1, 1) := bdX12_keepsText_76.2.2.2.1
theorem dX12_keepsText_84 : decode cX12_keepsText 84 = .ok (.imul, 1) := bdX12_keepsText_76.2.2.2.2.1
theorem dX12_keepsText_85 : decode cX12_keepsText 85 = .ok (.iload_n 2, 1) := bdX12_keepsText_76.2.2.2.2.2.1
theorem dX12_keepsText_86 : decode cX12_keepsText 86 = .ok (.iadd, 1) := bdX12_keepsText_76.2.2.2.2.2.2.1
theorem dX12_keepsText_87 : decode cX12_keepsText 87 = .ok (.aload_n 0, 1) := bdX12_keepsText_76.2.2.2.2.2.2.2.1
theorem dX12_keepsText_88 : decode cX12_keepsText 88 = .ok (.getfield 63, 3) := bdX12_keepsText_76.2.2.2.2.2.2.2.2.1
theorem dX12_keepsText_91 : decode cX12_keepsText 91 = .ok (.iload_n 2, 1) := bdX12_keepsText_76.2.2.2.2.2.2.2.2.2.1
theorem dX12_keepsText_92 : decode cX12_keepsText 92 = .ok (.iaload, 1) := bdX12_keepsText_76.2.2.2.2.2.2.2.2.2.2.1
theorem dX12_keepsText_93 : decode cX12_keepsText 93 = .ok (.iastore, 1) := bdX12_keepsText_76.2.2.2.2.2.2.2.2.2.2.2.1
theorem dX12_keepsText_94 : decode cX12_keepsText 94 = .ok (.aload_n 0, 1) := bdX12_keepsText_76.2.2.2.2.2.2.2.2.2.2.2.2.1
theorem dX12_keepsText_95 : decode cX12_keepsText 95 = .ok (.getfield 42, 3) := bdX12_keepsText_76.2.2.2.2.2.2.2.2.2.2.2.2.2.1
theorem dX12_keepsText_98 : decode cX12_keepsText 98 = .ok (.sipush 400, 3) := bdX12_keepsText_76.2.2.2.2.2.2.2.2.2.2.2.2.2.2.1
theorem dX12_keepsText_101 : decode cX12_keepsText 101 = .ok (.iload_n 1, 1) := bdX12_keepsText_76.2.2.2.2.2.2.2.2.2.2.2.2.2.2.2
theorem bdX12_keepsText_102 : (decode cX12_keepsText 102 = .ok (.imul, 1)) ∧ (decode cX12_keepsText 103 = .ok (.iload_n 2, 1)) ∧ (decode cX12_keepsText 104 = .ok (.iadd, 1)) ∧ (decode cX12_keepsText 105 = .ok (.aload_n 0, 1)) ∧ (decode cX12_keepsText 106 = .ok (.getfield 66, 3)) ∧ (decode cX12_keepsText 109 = .ok (.iload_n 2, 1)) ∧ (decode cX12_keepsText 110 = .ok (.iaload, 1)) ∧ (decode cX12_keepsText 111 = .ok (.iastore, 1)) ∧ (decode cX12_keepsText 112 = .ok (.iinc 2 1, 3)) ∧ (decode cX12_keepsText 115 = .ok (.goto (-47), 3)) ∧ (decode cX12_keepsText 118 = .ok (.return_, 1)) := by decide +kernel
theorem dX12_keepsText_102 : decode cX12_keepsText 102 = .ok (.imul, 1) := bdX12_keepsText_102.1
theorem dX12_keepsText_103 : decode cX12_keepsText 103 = .ok (.iload_n 2, 1) := bdX12_keepsText_102.2.1
theorem dX12_keepsText_104 : decode cX12_keepsText 104 = .ok (.iadd, 1) := bdX12_keepsText_102.2.2.1
theorem dX12_keepsText_105 : decode cX12_keepsText 105 = .ok (.aload_n 0, 1) := bdX12_keepsText_102.2.2.2.1
theorem dX12_keepsText_106 : decode cX12_keepsText 106 = .ok (.getfield 66, 3) := bdX12_keepsText_102.2.2.2.2.1
theorem dX12_keepsText_109 : decode cX12_keepsText 109 = .ok (.iload_n 2, 1) := bdX12_keepsText_102.2.2.2.2.2.1
theorem dX12_keepsText_110 : decode cX12_keepsText 110 = .ok (.iaload, 1) := bdX12_keepsText_102.2.2.2.2.2.2.1
theorem dX12_keepsText_111 : decode cX12_keepsText 111 = .ok (.iastore, 1) := bdX12_keepsText_102.2.2.2.2.2.2.2.1
theorem dX12_keepsText_112 : decode cX12_keepsText 112 = .ok (.iinc 2 1, 3) := bdX12_keepsText_102.2.2.2.2.2.2.2.2.1
theorem dX12_keepsText_115 : decode cX12_keepsText 115 = .ok (.goto (-47), 3) := bdX12_keepsText_102.2.2.2.2.2.2.2.2.2.1
theorem dX12_keepsText_118 : decode cX12_keepsText 118 = .ok (.return_, 1) := bdX12_keepsText_102.2.2.2.2.2.2.2.2.2.2
theorem bdX12_opensSign_0 : (decode cX12_opensSign 0 = .ok (.aload_n 0, 1)) ∧ (decode cX12_opensSign 1 = .ok (.getfield 193, 3)) ∧ (decode cX12_opensSign 4 = .ok (.bipush 8, 2)) ∧ (decode cX12_opensSign 6 = .ok (.if_icmp .ne 10, 3)) ∧ (decode cX12_opensSign 9 = .ok (.aload_n 0, 1)) ∧ (decode cX12_opensSign 10 = .ok (.iconst 3, 1)) ∧ (decode cX12_opensSign 11 = .ok (.invokevirtual 196, 3)) ∧ (decode cX12_opensSign 14 = .ok (.iconst 0, 1)) ∧ (decode cX12_opensSign 15 = .ok (.ireturn, 1)) ∧ (decode cX12_opensSign 16 = .ok (.aload_n 0, 1)) ∧ (decode cX12_opensSign 17 = .ok (.dup, 1)) ∧ (decode cX12_opensSign 18 = .ok (.getfield 193, 3)) ∧ (decode cX12_opensSign 21 = .ok (.iconst 1, 1)) ∧ (decode cX12_opensSign 22 = .ok (.iadd, 1)) ∧ (decode cX12_opensSign 23 = .ok (.putfield 193, 3)) ∧ (decode cX12_opensSign 26 = .ok (.aload_n 0, 1)) := by decide +kernel
theorem dX12_opensSign_0 : decode cX12_opensSign 0 = .ok (.aload_n 0, 1) := bdX12_opensSign_0.1
theorem dX12_opensSign_1 : decode cX12_opensSign 1 = .ok (.getfield 193, 3) := bdX12_opensSign_0.2.1
theorem dX12_opensSign_4 : decode cX12_opensSign 4 = .ok (.bipush 8, 2) := bdX12_opensSign_0.2.2.1
theorem dX12_opensSign_6 : decode cX12_opensSign 6 = .ok (.if_icmp .ne 10, 3) := bdX12_opensSign_0.2.2.2.1
theorem dX12_opensSign_9 : decode cX12_opensSign 9 = .ok (.aload_n 0, 1) := bdX12_opensSign_0.2.2.2.2.1
theorem dX12_opensSign_10 : decode cX12_opensSign 10 = .ok (.iconst 3, 1) := bdX12_opensSign_0.2.2.2.2.2.1
theorem dX12_opensSign_11 : decode cX12_opensSign 11 = .ok (.invokevirtual 196, 3) := bdX12_opensSign_0.2.2.2.2.2.2.1
theorem dX12_opensSign_14 : decode cX12_opensSign 14 = .ok (.iconst 0, 1) := bdX12_opensSign_0.2.2.2.2.2.2.2.1
theorem dX12_opensSign_15 : decode cX12_opensSign 15 = .ok (.ireturn, 1) := bdX12_opensSign_0.2.2.2.2.2.2.2.2.1
theorem dX12_opensSign_16 : decode cX12_opensSign 16 = .ok (.aload_n 0, 1) := bdX12_opensSign_0.2.2.2.2.2.2.2.2.2.1
theorem dX12_opensSign_17 : decode cX12_opensSign 17 = .ok (.dup, 1) := bdX12_opensSign_0.2.2.2.2.2.2.2.2.2.2.1
theorem dX12_opensSign_18 : decode cX12_opensSign 18 = .ok (.getfield 193, 3) := bdX12_opensSign_0.2.2.2.2.2.2.2.2.2.2.2.1
theorem dX12_opensSign_21 : decode cX12_opensSign 21 = .ok (.iconst 1, 1) := bdX12_opensSign_0.2.2.2.2.2.2.2.2.2.2.2.2.1
theorem dX12_opensSign_22 : decode cX12_opensSign 22 = .ok (.iadd, 1) := bdX12_opensSign_0.2.2.2.2.2.2.2.2.2.2.2.2.2.1
theorem dX12_opensSign_23 : decode cX12_opensSign 23 = .ok (.putfield 193, 3) := bdX12_opensSign_0.2.2.2.2.2.2.2.2.2.2.2.2.2.2.1
theorem dX12_opensSign_26 : decode cX12_opensSign 26 = .ok (.aload_n 0, 1) := bdX12_opensSign_0.2.2.2.2.2.2.2.2.2.2.2.2.2.2.2
theorem bdX12_opensSign_27 : (decode cX12_opensSign 27 = .ok (.iload_n 1, 1)) ∧ (decode cX12_opensSign 28 = .ok (.invokevirtual 199, 3)) ∧ (decode cX12_opensSign 31 = .ok (.aload_n 0, 1)) ∧ (decode cX12_opensSign 32 = .ok (.invokevirtual 202, 3)) ∧ (decode cX12_opensSign 35 = .ok (.iconst 1, 1)) ∧ (decode cX12_opensSign 36 = .ok (.ireturn, 1)) := by decide +kernel
theorem dX12_opensSign_27 : decode cX12_opensSign 27 = .ok (.iload_n 1, 1) := bdX12_opensSign_27.1
theorem dX12_opensSign_28 : decode cX12_opensSign 28 = .ok (.invokevirtual 199, 3) := bdX12_opensSign_27.2.1
theorem dX12_opensSign_31 : decode cX12_opensSign 31 = .ok (.aload_n 0, 1) := bdX12_opensSign_27.2.2.1
theorem dX12_opensSign_32 : decode cX12_opensSign 32 = .ok (.invokevirtual 202, 3) := bdX12_opensSign_27.2.2.2.1
theorem dX12_opensSign_35 : decode cX12_opensSign 35 = .ok (.iconst 1, 1) := bdX12_opensSign_27.2.2.2.2.1
theorem dX12_opensSign_36 : decode cX12_opensSign 36 = .ok (.ireturn, 1) := bdX12_opensSign_27.2.2.2.2.2
theorem bdX12_asks_0 : (decode cX12_asks 0 = .ok (.aload_n 0, 1)) ∧ (decode cX12_asks 1 = .ok (.iconst 5, 1)) ∧ (decode cX12_asks 2 = .ok (.invokevirtual 218, 3)) ∧ (decode cX12_asks 5 = .ok (.ifCond .eq 12, 3)) ∧ (decode cX12_asks 8 = .ok (.aload_n 0, 1)) ∧ (decode cX12_asks 9 = .ok (.iconst 3, 1)) ∧ (decode cX12_asks 10 = .ok (.invokevirtual 221, 3)) ∧ (decode cX12_asks 13 = .ok (.istore_n 1, 1)) ∧ (decode cX12_asks 14 = .ok (.goto 13, 3)) ∧ (decode cX12_asks 17 = .ok (.aload_n 0, 1)) ∧ (decode cX12_asks 18 = .ok (.iconst 4, 1)) ∧ (decode cX12_asks 19 = .ok (.invokevirtual 199, 3)) ∧ (decode cX12_asks 22 = .ok (.aload_n 0, 1)) ∧ (decode cX12_asks 23 = .ok (.iconst 1, 1)) ∧ (decode cX12_asks 24 = .ok (.putfield 224, 3)) ∧ (decode cX12_asks 27 = .ok (.return_, 1)) := by decide +kernel
theorem dX12_asks_0 : decode cX12_asks 0 = .ok (.aload_n 0, 1) := bdX12_asks_0.1
theorem dX12_asks_1 : decode cX12_asks 1 = .ok (.iconst 5, 1) := bdX12_asks_0.2.1
theorem dX12_asks_2 : decode cX12_asks 2 = .ok (.invokevirtual 218, 3) := bdX12_asks_0.2.2.1
theorem dX12_asks_5 : decode cX12_asks 5 = .ok (.ifCond .eq 12, 3) := bdX12_asks_0.2.2.2.1
theorem dX12_asks_8 : decode cX12_asks 8 = .ok (.aload_n 0, 1) := bdX12_asks_0.2.2.2.2.1
theorem dX12_asks_9 : decode cX12_asks 9 = .ok (.iconst 3, 1) := bdX12_asks_0.2.2.2.2.2.1
theorem dX12_asks_10 : decode cX12_asks 10 = .ok (.invokevirtual 221, 3) := bdX12_asks_0.2.2.2.2.2.2.1
theorem dX12_asks_13 : decode cX12_asks 13 = .ok (.istore_n 1, 1) := bdX12_asks_0.2.2.2.2.2.2.2.1
theorem dX12_asks_14 : decode cX12_asks 14 = .ok (.goto 13, 3) := bdX12_asks_0.2.2.2.2.2.2.2.2.1
theorem dX12_asks_17 : decode cX12_asks 17 = .ok (.aload_n 0, 1) := bdX12_asks_0.2.2.2.2.2.2.2.2.2.1
theorem dX12_asks_18 : decode cX12_asks 18 = .ok (.iconst 4, 1) := bdX12_asks_0.2.2.2.2.2.2.2.2.2.2.1
theorem dX12_asks_19 : decode cX12_asks 19 = .ok (.invokevirtual 199, 3) := bdX12_asks_0.2.2.2.2.2.2.2.2.2.2.2.1
theorem dX12_asks_22 : decode cX12_asks 22 = .ok (.aload_n 0, 1) := bdX12_asks_0.2.2.2.2.2.2.2.2.2.2.2.2.1
theorem dX12_asks_23 : decode cX12_asks 23 = .ok (.iconst 1, 1) := bdX12_asks_0.2.2.2.2.2.2.2.2.2.2.2.2.2.1
theorem dX12_asks_24 : decode cX12_asks 24 = .ok (.putfield 224, 3) := bdX12_asks_0.2.2.2.2.2.2.2.2.2.2.2.2.2.2.1
theorem dX12_asks_27 : decode cX12_asks 27 = .ok (.return_, 1) := bdX12_asks_0.2.2.2.2.2.2.2.2.2.2.2.2.2.2.2
theorem bdX12_begins_0 : (decode cX12_begins 0 = .ok (.aload_n 0, 1)) ∧ (decode cX12_begins 1 = .ok (.getfield 166, 3)) ∧ (decode cX12_begins 4 = .ok (.iconst 2, 1)) ∧ (decode cX12_begins 5 = .ok (.if_icmp .ne 41, 3)) ∧ (decode cX12_begins 8 = .ok (.aload_n 0, 1)) ∧ (decode cX12_begins 9 = .ok (.getfield 178, 3)) ∧ (decode cX12_begins 12 = .ok (.sipush 9999, 3)) ∧ (decode cX12_begins 15 = .ok (.if_icmp .le 9, 3)) ∧ (decode cX12_begins 18 = .ok (.aload_n 0, 1)) ∧ (decode cX12_begins 19 = .ok (.iconst 2, 1)) ∧ (decode cX12_begins 20 = .ok (.invokevirtual 196, 3)) ∧ (decode cX12_begins 23 = .ok (.return_, 1)) ∧ (decode cX12_begins 24 = .ok (.aload_n 0, 1)) ∧ (decode cX12_begins 25 = .ok (.sipush 400, 3)) ∧ (decode cX12_begins 28 = .ok (.aload_n 0, 1)) ∧ (decode cX12_begins 29 = .ok (.getfield 178, 3)) := by decide +kernel
theorem dX12_begins_0 : decode cX12_begins 0 = .ok (.aload_n 0, 1) := bdX12_begins_0.1
theorem dX12_begins_1 : decode cX12_begins 1 = .ok (.getfield 166, 3) := bdX12_begins_0.2.1
theorem dX12_begins_4 : decode cX12_begins 4 = .ok (.iconst 2, 1) := bdX12_begins_0.2.2.1
theorem dX12_begins_5 : decode cX12_begins 5 = .ok (.if_icmp .ne 41, 3) := bdX12_begins_0.2.2.2.1
theorem dX12_begins_8 : decode cX12_begins 8 = .ok (.aload_n 0, 1) := bdX12_begins_0.2.2.2.2.1
theorem dX12_begins_9 : decode cX12_begins 9 = .ok (.getfield 178, 3) := bdX12_begins_0.2.2.2.2.2.1
theorem dX12_begins_12 : decode cX12_begins 12 = .ok (.sipush 9999, 3) := bdX12_begins_0.2.2.2.2.2.2.1
theorem dX12_begins_15 : decode cX12_begins 15 = .ok (.if_icmp .le 9, 3) := bdX12_begins_0.2.2.2.2.2.2.2.1
theorem dX12_begins_18 : decode cX12_begins 18 = .ok (.aload_n 0, 1) := bdX12_begins_0.2.2.2.2.2.2.2.2.1
theorem dX12_begins_19 : decode cX12_begins 19 = .ok (.iconst 2, 1) := bdX12_begins_0.2.2.2.2.2.2.2.2.2.1
theorem dX12_begins_20 : decode cX12_begins 20 = .ok (.invokevirtual 196, 3) := bdX12_begins_0.2.2.2.2.2.2.2.2.2.2.1
theorem dX12_begins_23 : decode cX12_begins 23 = .ok (.return_, 1) := bdX12_begins_0.2.2.2.2.2.2.2.2.2.2.2.1
theorem dX12_begins_24 : decode cX12_begins 24 = .ok (.aload_n 0, 1) := bdX12_begins_0.2.2.2.2.2.2.2.2.2.2.2.2.1
theorem dX12_begins_25 : decode cX12_begins 25 = .ok (.sipush 400, 3) := bdX12_begins_0.2.2.2.2.2.2.2.2.2.2.2.2.2.1
theorem dX12_begins_28 : decode cX12_begins 28 = .ok (.aload_n 0, 1) := bdX12_begins_0.2.2.2.2.2.2.2.2.2.2.2.2.2.2.1
theorem dX12_begins_29 : decode cX12_begins 29 = .ok (.getfield 178, 3) := bdX12_begins_0.2.2.2.2.2.2.2.2.2.2.2.2.2.2.2
theorem bdX12_begins_32 : (decode cX12_begins 32 = .ok (.invokevirtual 211, 3)) ∧ (decode cX12_begins 35 = .ok (.aload_n 0, 1)) ∧ (decode cX12_begins 36 = .ok (.invokevirtual 202, 3)) ∧ (decode cX12_begins 39 = .ok (.aload_n 0, 1)) ∧ (decode cX12_begins 40 = .ok (.invokevirtual 227, 3)) ∧ (decode cX12_begins 43 = .ok (.goto 132, 3)) ∧ (decode cX12_begins 46 = .ok (.aload_n 0, 1)) ∧ (decode cX12_begins 47 = .ok (.getfield 166, 3)) ∧ (decode cX12_begins 50 = .ok (.iconst 1, 1)) ∧ (decode cX12_begins 51 = .ok (.if_icmp .ne 81, 3)) ∧ (decode cX12_begins 54 = .ok (.aload_n 0, 1)) ∧ (decode cX12_begins 55 = .ok (.getfield 178, 3)) ∧ (decode cX12_begins 58 = .ok (.iconst 5, 1)) ∧ (decode cX12_begins 59 = .ok (.if_icmp .le 73, 3)) ∧ (decode cX12_begins 62 = .ok (.aload_n 0, 1)) ∧ (decode cX12_begins 63 = .ok (.getfield 178, 3)) := by decide +kernel
theorem dX12_begins_32 : decode cX12_begins 32 = .ok (.invokevirtual 211, 3) := bdX12_begins_32.1
theorem dX12_begins_35 : decode cX12_begins 35 = .ok (.aload_n 0, 1) := bdX12_begins_32.2.1
theorem dX12_begins_36 : decode cX12_begins 36 = .ok (.invokevirtual 202, 3) := bdX12_begins_32.2.2.1
theorem dX12_begins_39 : decode cX12_begins 39 = .ok (.aload_n 0, 1) := bdX12_begins_32.2.2.2.1
theorem dX12_begins_40 : decode cX12_begins 40 = .ok (.invokevirtual 227, 3) := bdX12_begins_32.2.2.2.2.1
theorem dX12_begins_43 : decode cX12_begins 43 = .ok (.goto 132, 3) := bdX12_begins_32.2.2.2.2.2.1
theorem dX12_begins_46 : decode cX12_begins 46 = .ok (.aload_n 0, 1) := bdX12_begins_32.2.2.2.2.2.2.1
theorem dX12_begins_47 : decode cX12_begins 47 = .ok (.getfield 166, 3) := bdX12_begins_32.2.2.2.2.2.2.2.1
theorem dX12_begins_50 : decode cX12_begins 50 = .ok (.iconst 1, 1) := bdX12_begins_32.2.2.2.2.2.2.2.2.1
theorem dX12_begins_51 : decode cX12_begins 51 = .ok (.if_icmp .ne 81, 3) := bdX12_begins_32.2.2.2.2.2.2.2.2.2.1
theorem dX12_begins_54 : decode cX12_begins 54 = .ok (.aload_n 0, 1) := bdX12_begins_32.2.2.2.2.2.2.2.2.2.2.1
theorem dX12_begins_55 : decode cX12_begins 55 = .ok (.getfield 178, 3) := bdX12_begins_32.2.2.2.2.2.2.2.2.2.2.2.1
theorem dX12_begins_58 : decode cX12_begins 58 = .ok (.iconst 5, 1) := bdX12_begins_32.2.2.2.2.2.2.2.2.2.2.2.2.1
theorem dX12_begins_59 : decode cX12_begins 59 = .ok (.if_icmp .le 73, 3) := bdX12_begins_32.2.2.2.2.2.2.2.2.2.2.2.2.2.1
theorem dX12_begins_62 : decode cX12_begins 62 = .ok (.aload_n 0, 1) := bdX12_begins_32.2.2.2.2.2.2.2.2.2.2.2.2.2.2.1
theorem dX12_begins_63 : decode cX12_begins 63 = .ok (.getfield 178, 3) := bdX12_begins_32.2.2.2.2.2.2.2.2.2.2.2.2.2.2.2
theorem bdX12_begins_66 : (decode cX12_begins 66 = .ok (.bipush 6, 2)) ∧ (decode cX12_begins 68 = .ok (.if_icmp .le 38, 3)) ∧ (decode cX12_begins 71 = .ok (.aload_n 0, 1)) ∧ (decode cX12_begins 72 = .ok (.getfield 178, 3)) ∧ (decode cX12_begins 75 = .ok (.bipush 11, 2)) ∧ (decode cX12_begins 77 = .ok (.if_icmp .ge 7, 3)) ∧ (decode cX12_begins 80 = .ok (.iconst 1, 1)) ∧ (decode cX12_begins 81 = .ok (.goto 4, 3)) ∧ (decode cX12_begins 84 = .ok (.iconst 0, 1)) ∧ (decode cX12_begins 85 = .ok (.aload_n 0, 1)) ∧ (decode cX12_begins 86 = .ok (.getfield 230, 3)) ∧ (decode cX12_begins 89 = .ok (.ifCond .ne 7, 3)) ∧ (decode cX12_begins 92 = .ok (.iconst 1, 1)) ∧ (decode cX12_begins 93 = .ok (.goto 4, 3)) ∧ (decode cX12_begins 96 = .ok (.iconst 0, 1)) ∧ (decode cX12_begins 97 = .ok (.if_icmp .ne 9, 3)) := by decide +kernel
theorem dX12_begins_66 : decode cX12_begins 66 = .ok (.bipush 6, 2) := bdX12_begins_66.1
theorem dX12_begins_68 : decode cX12_begins 68 = .ok (.if_icmp .le 38, 3) := bdX12_begins_66.2.1
theorem dX12_begins_71 : decode cX12_begins 71 = .ok (.aload_n 0, 1) := bdX12_begins_66.2.2.1
theorem dX12_begins_72 : decode cX12_begins 72 = .ok (.getfield 178, 3) := bdX12_begins_66.2.2.2.1
theorem dX12_begins_75 : decode cX12_begins 75 = .ok (.bipush 11, 2) := bdX12_begins_66.2.2.2.2.1
theorem dX12_begins_77 : decode cX12_begins 77 = .ok (.if_icmp .ge 7, 3) := bdX12_begins_66.2.2.2.2.2.1
theorem dX12_begins_80 : decode cX12_begins 80 = .ok (.iconst 1, 1) := bdX12_begins_66.2.2.2.2.2.2.1
theorem dX12_begins_81 : decode cX12_begins 81 = .ok (.goto 4, 3) := bdX12_begins_66.2.2.2.2.2.2.2.1
theorem dX12_begins_84 : decode cX12_begins 84 = .ok (.iconst 0, 1) := bdX12_begins_66.2.2.2.2.2.2.2.2.1
theorem dX12_begins_85 : decode cX12_begins 85 = .ok (.aload_n 0, 1) := bdX12_begins_66.2.2.2.2.2.2.2.2.2.1
theorem dX12_begins_86 : decode cX12_begins 86 = .ok (.getfield 230, 3) := bdX12_begins_66.2.2.2.2.2.2.2.2.2.2.1
theorem dX12_begins_89 : decode cX12_begins 89 = .ok (.ifCond .ne 7, 3) := bdX12_begins_66.2.2.2.2.2.2.2.2.2.2.2.1
theorem dX12_begins_92 : decode cX12_begins 92 = .ok (.iconst 1, 1) := bdX12_begins_66.2.2.2.2.2.2.2.2.2.2.2.2.1
theorem dX12_begins_93 : decode cX12_begins 93 = .ok (.goto 4, 3) := bdX12_begins_66.2.2.2.2.2.2.2.2.2.2.2.2.2.1
theorem dX12_begins_96 : decode cX12_begins 96 = .ok (.iconst 0, 1) := bdX12_begins_66.2.2.2.2.2.2.2.2.2.2.2.2.2.2.1
theorem dX12_begins_97 : decode cX12_begins 97 = .ok (.if_icmp .ne 9, 3) := bdX12_begins_66.2.2.2.2.2.2.2.2.2.2.2.2.2.2.2
theorem bdX12_begins_100 : (decode cX12_begins 100 = .ok (.aload_n 0, 1)) ∧ (decode cX12_begins 101 = .ok (.iconst 5, 1)) ∧ (decode cX12_begins 102 = .ok (.invokevirtual 196, 3)) ∧ (decode cX12_begins 105 = .ok (.return_, 1)) ∧ (decode cX12_begins 106 = .ok (.aload_n 0, 1)) ∧ (decode cX12_begins 107 = .ok (.sipush 401, 3)) ∧ (decode cX12_begins 110 = .ok (.aload_n 0, 1)) ∧ (decode cX12_begins 111 = .ok (.getfield 178, 3)) ∧ (decode cX12_begins 114 = .ok (.iconst 5, 1)) ∧ (decode cX12_begins 115 = .ok (.isub, 1)) ∧ (decode cX12_begins 116 = .ok (.iconst 1, 1)) ∧ (decode cX12_begins 117 = .ok (.isub, 1)) ∧ (decode cX12_begins 118 = .ok (.invokevirtual 211, 3)) ∧ (decode cX12_begins 121 = .ok (.aload_n 0, 1)) ∧ (decode cX12_begins 122 = .ok (.invokevirtual 202, 3)) ∧ (decode cX12_begins 125 = .ok (.aload_n 0, 1)) := by decide +kernel
theorem dX12_begins_100 : decode cX12_begins 100 = .ok (.aload_n 0, 1) := bdX12_begins_100.1
theorem dX12_begins_101 : decode cX12_begins 101 = .ok (.iconst 5, 1) := bdX12_begins_100.2.1
theorem dX12_begins_102 : decode cX12_begins 102 = .ok (.invokevirtual 196, 3) := bdX12_begins_100.2.2.1
theorem dX12_begins_105 : decode cX12_begins 105 = .ok (.return_, 1) := bdX12_begins_100.2.2.2.1
theorem dX12_begins_106 : decode cX12_begins 106 = .ok (.aload_n 0, 1) := bdX12_begins_100.2.2.2.2.1
theorem dX12_begins_107 : decode cX12_begins 107 = .ok (.sipush 401, 3) := bdX12_begins_100.2.2.2.2.2.1
theorem dX12_begins_110 : decode cX12_begins 110 = .ok (.aload_n 0, 1) := bdX12_begins_100.2.2.2.2.2.2.1
theorem dX12_begins_111 : decode cX12_begins 111 = .ok (.getfield 178, 3) := bdX12_begins_100.2.2.2.2.2.2.2.1
theorem dX12_begins_114 : decode cX12_begins 114 = .ok (.iconst 5, 1) := bdX12_begins_100.2.2.2.2.2.2.2.2.1
theorem dX12_begins_115 : decode cX12_begins 115 = .ok (.isub, 1) := bdX12_begins_100.2.2.2.2.2.2.2.2.2.1
theorem dX12_begins_116 : decode cX12_begins 116 = .ok (.iconst 1, 1) := bdX12_begins_100.2.2.2.2.2.2.2.2.2.2.1
theorem dX12_begins_117 : decode cX12_begins 117 = .ok (.isub, 1) := bdX12_begins_100.2.2.2.2.2.2.2.2.2.2.2.1
theorem dX12_begins_118 : decode cX12_begins 118 = .ok (.invokevirtual 211, 3) := bdX12_begins_100.2.2.2.2.2.2.2.2.2.2.2.2.1
theorem dX12_begins_121 : decode cX12_begins 121 = .ok (.aload_n 0, 1) := bdX12_begins_100.2.2.2.2.2.2.2.2.2.2.2.2.2.1
theorem dX12_begins_122 : decode cX12_begins 122 = .ok (.invokevirtual 202, 3) := bdX12_begins_100.2.2.2.2.2.2.2.2.2.2.2.2.2.2.1
theorem dX12_begins_125 : decode cX12_begins 125 = .ok (.aload_n 0, 1) := bdX12_begins_100.2.2.2.2.2.2.2.2.2.2.2.2.2.2.2
theorem bdX12_begins_126 : (decode cX12_begins 126 = .ok (.invokevirtual 227, 3)) ∧ (decode cX12_begins 129 = .ok (.goto 46, 3)) ∧ (decode cX12_begins 132 = .ok (.aload_n 0, 1)) ∧ (decode cX12_begins 133 = .ok (.bipush 40, 2)) ∧ (decode cX12_begins 135 = .ok (.invokevirtual 233, 3)) ∧ (decode cX12_begins 138 = .ok (.ifCond .eq 13, 3)) ∧ (decode cX12_begins 141 = .ok (.aload_n 0, 1)) ∧ (decode cX12_begins 142 = .ok (.bipush 6, 2)) ∧ (decode cX12_begins 144 = .ok (.invokevirtual 221, 3)) ∧ (decode cX12_begins 147 = .ok (.istore_n 1, 1)) ∧ (decode cX12_begins 148 = .ok (.goto 27, 3)) ∧ (decode cX12_begins 151 = .ok (.aload_n 0, 1)) ∧ (decode cX12_begins 152 = .ok (.bipush 45, 2)) ∧ (decode cX12_begins 154 = .ok (.invokevirtual 233, 3)) ∧ (decode cX12_begins 157 = .ok (.ifCond .eq 13, 3)) ∧ (decode cX12_begins 160 = .ok (.aload_n 0, 1)) := by decide +kernel
theorem dX12_begins_126 : decode cX12_begins 126 = .ok (.invokevirtual 227, 3) := bdX12_begins_126.1
theorem dX12_begins_129 : decode cX12_begins 129 = .ok (.goto 46, 3) := bdX12_begins_126.2.1
theorem dX12_begins_132 : decode cX12_begins 132 = .ok (.aload_n 0, 1) := bdX12_begins_126.2.2.1
theorem dX12_begins_133 : decode cX12_begins 133 = .ok (.bipush 40, 2) := bdX12_begins_126.2.2.2.1
theorem dX12_begins_135 : decode cX12_begins 135 = .ok (.invokevirtual 233, 3) := bdX12_begins_126.2.2.2.2.1
theorem dX12_begins_138 : decode cX12_begins 138 = .ok (.ifCond .eq 13, 3) := bdX12_begins_126.2.2.2.2.2.1
theorem dX12_begins_141 : decode cX12_begins 141 = .ok (.aload_n 0, 1) := bdX12_begins_126.2.2.2.2.2.2.1
theorem dX12_begins_142 : decode cX12_begins 142 = .ok (.bipush 6, 2) := bdX12_begins_126.2.2.2.2.2.2.2.1
theorem dX12_begins_144 : decode cX12_begins 144 = .ok (.invokevirtual 221, 3) := bdX12_begins_126.2.2.2.2.2.2.2.2.1
theorem dX12_begins_147 : decode cX12_begins 147 = .ok (.istore_n 1, 1) := bdX12_begins_126.2.2.2.2.2.2.2.2.2.1
theorem dX12_begins_148 : decode cX12_begins 148 = .ok (.goto 27, 3) := bdX12_begins_126.2.2.2.2.2.2.2.2.2.2.1
theorem dX12_begins_151 : decode cX12_begins 151 = .ok (.aload_n 0, 1) := bdX12_begins_126.2.2.2.2.2.2.2.2.2.2.2.1
theorem dX12_begins_152 : decode cX12_begins 152 = .ok (.bipush 45, 2) := bdX12_begins_126.2.2.2.2.2.2.2.2.2.2.2.2.1
theorem dX12_begins_154 : decode cX12_begins 154 = .ok (.invokevirtual 233, 3) := bdX12_begins_126.2.2.2.2.2.2.2.2.2.2.2.2.2.1
theorem dX12_begins_157 : decode cX12_begins 157 = .ok (.ifCond .eq 13, 3) := bdX12_begins_126.2.2.2.2.2.2.2.2.2.2.2.2.2.2.1
theorem dX12_begins_160 : decode cX12_begins 160 = .ok (.aload_n 0, 1) := bdX12_begins_126.2.2.2.2.2.2.2.2.2.2.2.2.2.2.2
theorem bdX12_begins_161 : (decode cX12_begins 161 = .ok (.bipush 7, 2)) ∧ (decode cX12_begins 163 = .ok (.invokevirtual 221, 3)) ∧ (decode cX12_begins 166 = .ok (.istore_n 1, 1)) ∧ (decode cX12_begins 167 = .ok (.goto 8, 3)) ∧ (decode cX12_begins 170 = .ok (.aload_n 0, 1)) ∧ (decode cX12_begins 171 = .ok (.iconst 1, 1)) ∧ (decode cX12_begins 172 = .ok (.invokevirtual 196, 3)) ∧ (decode cX12_begins 175 = .ok (.return_, 1)) := by decide +kernel
theorem dX12_begins_161 : decode cX12_begins 161 = .ok (.bipush 7, 2) := bdX12_begins_161.1
theorem dX12_begins_163 : decode cX12_begins 163 = .ok (.invokevirtual 221, 3) := bdX12_begins_161.2.1
theorem dX12_begins_166 : decode cX12_begins 166 = .ok (.istore_n 1, 1) := bdX12_begins_161.2.2.1
theorem dX12_begins_167 : decode cX12_begins 167 = .ok (.goto 8, 3) := bdX12_begins_161.2.2.2.1
theorem dX12_begins_170 : decode cX12_begins 170 = .ok (.aload_n 0, 1) := bdX12_begins_161.2.2.2.2.1
theorem dX12_begins_171 : decode cX12_begins 171 = .ok (.iconst 1, 1) := bdX12_begins_161.2.2.2.2.2.1
theorem dX12_begins_172 : decode cX12_begins 172 = .ok (.invokevirtual 196, 3) := bdX12_begins_161.2.2.2.2.2.2.1
theorem dX12_begins_175 : decode cX12_begins 175 = .ok (.return_, 1) := bdX12_begins_161.2.2.2.2.2.2.2
theorem bdX12_text_0 : (decode cX12_text 0 = .ok (.aload_n 0, 1)) ∧ (decode cX12_text 1 = .ok (.getfield 7, 3)) ∧ (decode cX12_text 4 = .ok (.iconst 4, 1)) ∧ (decode cX12_text 5 = .ok (.iaload, 1)) ∧ (decode cX12_text 6 = .ok (.iconst 4, 1)) ∧ (decode cX12_text 7 = .ok (.if_icmp .ne 5, 3)) ∧ (decode cX12_text 10 = .ok (.iconst (-1), 1)) ∧ (decode cX12_text 11 = .ok (.ireturn, 1)) ∧ (decode cX12_text 12 = .ok (.aload_n 0, 1)) ∧ (decode cX12_text 13 = .ok (.aload_n 0, 1)) ∧ (decode cX12_text 14 = .ok (.getfield 122, 3)) ∧ (decode cX12_text 17 = .ok (.putfield 160, 3)) ∧ (decode cX12_text 20 = .ok (.aload_n 0, 1)) ∧ (decode cX12_text 21 = .ok (.iconst 0, 1)) ∧ (decode cX12_text 22 = .ok (.putfield 122, 3)) ∧ (decode cX12_text 25 = .ok (.aload_n 0, 1)) := by decide +kernel
theorem dX12_text_0 : decode cX12_text 0 = .ok (.aload_n 0, 1) := bdX12_text_0.1
theorem dX12_text_1 : decode cX12_text 1 = .ok (.getfield 7, 3) := bdX12_text_0.2.1
theorem dX12_text_4 : decode cX12_text 4 = .ok (.iconst 4, 1) := bdX12_text_0.2.2.1
theorem dX12_text_5 : decode cX12_text 5 = .ok (.iaload, 1) := bdX12_text_0.2.2.2.1
theorem dX12_text_6 : decode cX12_text 6 = .ok (.iconst 4, 1) := bdX12_text_0.2.2.2.2.1
theorem dX12_text_7 : decode cX12_text 7 = .ok (.if_icmp .ne 5, 3) := bdX12_text_0.2.2.2.2.2.1
theorem dX12_text_10 : decode cX12_text 10 = .ok (.iconst (-1), 1) := bdX12_text_0.2.2.2.2.2.2.1
theorem dX12_text_11 : decode cX12_text 11 = .ok (.ireturn, 1) := bdX12_text_0.2.2.2.2.2.2.2.1
theorem dX12_text_12 : decode cX12_text 12 = .ok (.aload_n 0, 1) := bdX12_text_0.2.2.2.2.2.2.2.2.1
theorem dX12_text_13 : decode cX12_text 13 = .ok (.aload_n 0, 1) := bdX12_text_0.2.2.2.2.2.2.2.2.2.1
theorem dX12_text_14 : decode cX12_text 14 = .ok (.getfield 122, 3) := bdX12_text_0.2.2.2.2.2.2.2.2.2.2.1
theorem dX12_text_17 : decode cX12_text 17 = .ok (.putfield 160, 3) := bdX12_text_0.2.2.2.2.2.2.2.2.2.2.2.1
theorem dX12_text_20 : decode cX12_text 20 = .ok (.aload_n 0, 1) := bdX12_text_0.2.2.2.2.2.2.2.2.2.2.2.2.1
theorem dX12_text_21 : decode cX12_text 21 = .ok (.iconst 0, 1) := bdX12_text_0.2.2.2.2.2.2.2.2.2.2.2.2.2.1
theorem dX12_text_22 : decode cX12_text 22 = .ok (.putfield 122, 3) := bdX12_text_0.2.2.2.2.2.2.2.2.2.2.2.2.2.2.1
theorem dX12_text_25 : decode cX12_text 25 = .ok (.aload_n 0, 1) := bdX12_text_0.2.2.2.2.2.2.2.2.2.2.2.2.2.2.2
theorem bdX12_text_26 : (decode cX12_text 26 = .ok (.iconst 0, 1)) ∧ (decode cX12_text 27 = .ok (.putfield 157, 3)) ∧ (decode cX12_text 30 = .ok (.aload_n 0, 1)) ∧ (decode cX12_text 31 = .ok (.iconst 0, 1)) ∧ (decode cX12_text 32 = .ok (.putfield 181, 3)) ∧ (decode cX12_text 35 = .ok (.aload_n 0, 1)) ∧ (decode cX12_text 36 = .ok (.iconst (-1), 1)) ∧ (decode cX12_text 37 = .ok (.putfield 184, 3)) ∧ (decode cX12_text 40 = .ok (.aload_n 0, 1)) ∧ (decode cX12_text 41 = .ok (.iconst 0, 1)) ∧ (decode cX12_text 42 = .ok (.putfield 193, 3)) ∧ (decode cX12_text 45 = .ok (.aload_n 0, 1)) ∧ (decode cX12_text 46 = .ok (.iconst 0, 1)) ∧ (decode cX12_text 47 = .ok (.putfield 190, 3)) ∧ (decode cX12_text 50 = .ok (.aload_n 0, 1)) ∧ (decode cX12_text 51 = .ok (.iconst 0, 1)) := by decide +kernel
theorem dX12_text_26 : decode cX12_text 26 = .ok (.iconst 0, 1) := bdX12_text_26.1
theorem dX12_text_27 : decode cX12_text 27 = .ok (.putfield 157, 3) := bdX12_text_26.2.1
theorem dX12_text_30 : decode cX12_text 30 = .ok (.aload_n 0, 1) := bdX12_text_26.2.2.1
theorem dX12_text_31 : decode cX12_text 31 = .ok (.iconst 0, 1) := bdX12_text_26.2.2.2.1
theorem dX12_text_32 : decode cX12_text 32 = .ok (.putfield 181, 3) := bdX12_text_26.2.2.2.2.1
theorem dX12_text_35 : decode cX12_text 35 = .ok (.aload_n 0, 1) := bdX12_text_26.2.2.2.2.2.1
theorem dX12_text_36 : decode cX12_text 36 = .ok (.iconst (-1), 1) := bdX12_text_26.2.2.2.2.2.2.1
theorem dX12_text_37 : decode cX12_text 37 = .ok (.putfield 184, 3) := bdX12_text_26.2.2.2.2.2.2.2.1
theorem dX12_text_40 : decode cX12_text 40 = .ok (.aload_n 0, 1) := bdX12_text_26.2.2.2.2.2.2.2.2.1
theorem dX12_text_41 : decode cX12_text 41 = .ok (.iconst 0, 1) := bdX12_text_26.2.2.2.2.2.2.2.2.2.1
theorem dX12_text_42 : decode cX12_text 42 = .ok (.putfield 193, 3) := bdX12_text_26.2.2.2.2.2.2.2.2.2.2.1
theorem dX12_text_45 : decode cX12_text 45 = .ok (.aload_n 0, 1) := bdX12_text_26.2.2.2.2.2.2.2.2.2.2.2.1
theorem dX12_text_46 : decode cX12_text 46 = .ok (.iconst 0, 1) := bdX12_text_26.2.2.2.2.2.2.2.2.2.2.2.2.1
theorem dX12_text_47 : decode cX12_text 47 = .ok (.putfield 190, 3) := bdX12_text_26.2.2.2.2.2.2.2.2.2.2.2.2.2.1
theorem dX12_text_50 : decode cX12_text 50 = .ok (.aload_n 0, 1) := bdX12_text_26.2.2.2.2.2.2.2.2.2.2.2.2.2.2.1
theorem dX12_text_51 : decode cX12_text 51 = .ok (.iconst 0, 1) := bdX12_text_26.2.2.2.2.2.2.2.2.2.2.2.2.2.2.2
theorem bdX12_text_52 : (decode cX12_text 52 = .ok (.putfield 205, 3)) ∧ (decode cX12_text 55 = .ok (.aload_n 0, 1)) ∧ (decode cX12_text 56 = .ok (.iconst 4, 1)) ∧ (decode cX12_text 57 = .ok (.putfield 224, 3)) ∧ (decode cX12_text 60 = .ok (.aload_n 0, 1)) ∧ (decode cX12_text 61 = .ok (.iconst 0, 1)) ∧ (decode cX12_text 62 = .ok (.putfield 252, 3)) ∧ (decode cX12_text 65 = .ok (.aload_n 0, 1)) ∧ (decode cX12_text 66 = .ok (.iconst 0, 1)) ∧ (decode cX12_text 67 = .ok (.putfield 187, 3)) ∧ (decode cX12_text 70 = .ok (.aload_n 0, 1)) ∧ (decode cX12_text 71 = .ok (.invokevirtual 202, 3)) ∧ (decode cX12_text 74 = .ok (.aload_n 0, 1)) ∧ (decode cX12_text 75 = .ok (.getfield 181, 3)) ∧ (decode cX12_text 78 = .ok (.ifCond .ne 89, 3)) ∧ (decode cX12_text 81 = .ok (.aload_n 0, 1)) := by decide +kernel
theorem dX12_text_52 : decode cX12_text 52 = .ok (.putfield 205, 3) := bdX12_text_52.1
theorem dX12_text_55 : decode cX12_text 55 = .ok (.aload_n 0, 1) := bdX12_text_52.2.1
theorem dX12_text_56 : decode cX12_text 56 = .ok (.iconst 4, 1) := bdX12_text_52.2.2.1
theorem dX12_text_57 : decode cX12_text 57 = .ok (.putfield 224, 3) := bdX12_text_52.2.2.2.1
theorem dX12_text_60 : decode cX12_text 60 = .ok (.aload_n 0, 1) := bdX12_text_52.2.2.2.2.1
theorem dX12_text_61 : decode cX12_text 61 = .ok (.iconst 0, 1) := bdX12_text_52.2.2.2.2.2.1
theorem dX12_text_62 : decode cX12_text 62 = .ok (.putfield 252, 3) := bdX12_text_52.2.2.2.2.2.2.1
theorem dX12_text_65 : decode cX12_text 65 = .ok (.aload_n 0, 1) := bdX12_text_52.2.2.2.2.2.2.2.1
theorem dX12_text_66 : decode cX12_text 66 = .ok (.iconst 0, 1) := bdX12_text_52.2.2.2.2.2.2.2.2.1
theorem dX12_text_67 : decode cX12_text 67 = .ok (.putfield 187, 3) := bdX12_text_52.2.2.2.2.2.2.2.2.2.1
theorem dX12_text_70 : decode cX12_text 70 = .ok (.aload_n 0, 1) := bdX12_text_52.2.2.2.2.2.2.2.2.2.2.1
theorem dX12_text_71 : decode cX12_text 71 = .ok (.invokevirtual 202, 3) := bdX12_text_52.2.2.2.2.2.2.2.2.2.2.2.1
theorem dX12_text_74 : decode cX12_text 74 = .ok (.aload_n 0, 1) := bdX12_text_52.2.2.2.2.2.2.2.2.2.2.2.2.1
theorem dX12_text_75 : decode cX12_text 75 = .ok (.getfield 181, 3) := bdX12_text_52.2.2.2.2.2.2.2.2.2.2.2.2.2.1
theorem dX12_text_78 : decode cX12_text 78 = .ok (.ifCond .ne 89, 3) := bdX12_text_52.2.2.2.2.2.2.2.2.2.2.2.2.2.2.1
theorem dX12_text_81 : decode cX12_text 81 = .ok (.aload_n 0, 1) := bdX12_text_52.2.2.2.2.2.2.2.2.2.2.2.2.2.2.2
theorem bdX12_text_82 : (decode cX12_text 82 = .ok (.getfield 224, 3)) ∧ (decode cX12_text 85 = .ok (.iconst 4, 1)) ∧ (decode cX12_text 86 = .ok (.if_icmp .ne 10, 3)) ∧ (decode cX12_text 89 = .ok (.aload_n 0, 1)) ∧ (decode cX12_text 90 = .ok (.getfield 166, 3)) ∧ (decode cX12_text 93 = .ok (.ifCond .eq 74, 3)) ∧ (decode cX12_text 96 = .ok (.aload_n 0, 1)) ∧ (decode cX12_text 97 = .ok (.getfield 224, 3)) ∧ (decode cX12_text 100 = .ok (.tableswitch 60 0 3 #[32, 39, 46, 53], 32)) ∧ (decode cX12_text 132 = .ok (.aload_n 0, 1)) ∧ (decode cX12_text 133 = .ok (.invokevirtual 259, 3)) ∧ (decode cX12_text 136 = .ok (.goto (-62), 3)) ∧ (decode cX12_text 139 = .ok (.aload_n 0, 1)) ∧ (decode cX12_text 140 = .ok (.invokevirtual 262, 3)) ∧ (decode cX12_text 143 = .ok (.goto (-69), 3)) ∧ (decode cX12_text 146 = .ok (.aload_n 0, 1)) := by decide +kernel
theorem dX12_text_82 : decode cX12_text 82 = .ok (.getfield 224, 3) := bdX12_text_82.1
theorem dX12_text_85 : decode cX12_text 85 = .ok (.iconst 4, 1) := bdX12_text_82.2.1
theorem dX12_text_86 : decode cX12_text 86 = .ok (.if_icmp .ne 10, 3) := bdX12_text_82.2.2.1
theorem dX12_text_89 : decode cX12_text 89 = .ok (.aload_n 0, 1) := bdX12_text_82.2.2.2.1
theorem dX12_text_90 : decode cX12_text 90 = .ok (.getfield 166, 3) := bdX12_text_82.2.2.2.2.1
theorem dX12_text_93 : decode cX12_text 93 = .ok (.ifCond .eq 74, 3) := bdX12_text_82.2.2.2.2.2.1
theorem dX12_text_96 : decode cX12_text 96 = .ok (.aload_n 0, 1) := bdX12_text_82.2.2.2.2.2.2.1
theorem dX12_text_97 : decode cX12_text 97 = .ok (.getfield 224, 3) := bdX12_text_82.2.2.2.2.2.2.2.1
theorem dX12_text_100 : decode cX12_text 100 = .ok (.tableswitch 60 0 3 #[32, 39, 46, 53], 32) := bdX12_text_82.2.2.2.2.2.2.2.2.1
theorem dX12_text_132 : decode cX12_text 132 = .ok (.aload_n 0, 1) := bdX12_text_82.2.2.2.2.2.2.2.2.2.1
theorem dX12_text_133 : decode cX12_text 133 = .ok (.invokevirtual 259, 3) := bdX12_text_82.2.2.2.2.2.2.2.2.2.2.1
theorem dX12_text_136 : decode cX12_text 136 = .ok (.goto (-62), 3) := bdX12_text_82.2.2.2.2.2.2.2.2.2.2.2.1
theorem dX12_text_139 : decode cX12_text 139 = .ok (.aload_n 0, 1) := bdX12_text_82.2.2.2.2.2.2.2.2.2.2.2.2.1
theorem dX12_text_140 : decode cX12_text 140 = .ok (.invokevirtual 262, 3) := bdX12_text_82.2.2.2.2.2.2.2.2.2.2.2.2.2.1
theorem dX12_text_143 : decode cX12_text 143 = .ok (.goto (-69), 3) := bdX12_text_82.2.2.2.2.2.2.2.2.2.2.2.2.2.2.1
theorem dX12_text_146 : decode cX12_text 146 = .ok (.aload_n 0, 1) := bdX12_text_82.2.2.2.2.2.2.2.2.2.2.2.2.2.2.2
theorem bdX12_text_147 : (decode cX12_text 147 = .ok (.invokevirtual 265, 3)) ∧ (decode cX12_text 150 = .ok (.goto (-76), 3)) ∧ (decode cX12_text 153 = .ok (.aload_n 0, 1)) ∧ (decode cX12_text 154 = .ok (.invokevirtual 268, 3)) ∧ (decode cX12_text 157 = .ok (.goto (-83), 3)) ∧ (decode cX12_text 160 = .ok (.aload_n 0, 1)) ∧ (decode cX12_text 161 = .ok (.invokevirtual 271, 3)) ∧ (decode cX12_text 164 = .ok (.goto (-90), 3)) ∧ (decode cX12_text 167 = .ok (.aload_n 0, 1)) ∧ (decode cX12_text 168 = .ok (.aload_n 0, 1)) ∧ (decode cX12_text 169 = .ok (.getfield 181, 3)) ∧ (decode cX12_text 172 = .ok (.putfield 23, 3)) ∧ (decode cX12_text 175 = .ok (.aload_n 0, 1)) ∧ (decode cX12_text 176 = .ok (.aload_n 0, 1)) ∧ (decode cX12_text 177 = .ok (.getfield 184, 3)) ∧ (decode cX12_text 180 = .ok (.putfield 27, 3)) := by decide +kernel
theorem dX12_text_147 : decode cX12_text 147 = .ok (.invokevirtual 265, 3) := bdX12_text_147.1
theorem dX12_text_150 : decode cX12_text 150 = .ok (.goto (-76), 3) := bdX12_text_147.2.1
theorem dX12_text_153 : decode cX12_text 153 = .ok (.aload_n 0, 1) := bdX12_text_147.2.2.1
theorem dX12_text_154 : decode cX12_text 154 = .ok (.invokevirtual 268, 3) := bdX12_text_147.2.2.2.1
theorem dX12_text_157 : decode cX12_text 157 = .ok (.goto (-83), 3) := bdX12_text_147.2.2.2.2.1
theorem dX12_text_160 : decode cX12_text 160 = .ok (.aload_n 0, 1) := bdX12_text_147.2.2.2.2.2.1
theorem dX12_text_161 : decode cX12_text 161 = .ok (.invokevirtual 271, 3) := bdX12_text_147.2.2.2.2.2.2.1
theorem dX12_text_164 : decode cX12_text 164 = .ok (.goto (-90), 3) := bdX12_text_147.2.2.2.2.2.2.2.1
theorem dX12_text_167 : decode cX12_text 167 = .ok (.aload_n 0, 1) := bdX12_text_147.2.2.2.2.2.2.2.2.1
theorem dX12_text_168 : decode cX12_text 168 = .ok (.aload_n 0, 1) := bdX12_text_147.2.2.2.2.2.2.2.2.2.1
theorem dX12_text_169 : decode cX12_text 169 = .ok (.getfield 181, 3) := bdX12_text_147.2.2.2.2.2.2.2.2.2.2.1
theorem dX12_text_172 : decode cX12_text 172 = .ok (.putfield 23, 3) := bdX12_text_147.2.2.2.2.2.2.2.2.2.2.2.1
theorem dX12_text_175 : decode cX12_text 175 = .ok (.aload_n 0, 1) := bdX12_text_147.2.2.2.2.2.2.2.2.2.2.2.2.1
theorem dX12_text_176 : decode cX12_text 176 = .ok (.aload_n 0, 1) := bdX12_text_147.2.2.2.2.2.2.2.2.2.2.2.2.2.1
theorem dX12_text_177 : decode cX12_text 177 = .ok (.getfield 184, 3) := bdX12_text_147.2.2.2.2.2.2.2.2.2.2.2.2.2.2.1
theorem dX12_text_180 : decode cX12_text 180 = .ok (.putfield 27, 3) := bdX12_text_147.2.2.2.2.2.2.2.2.2.2.2.2.2.2.2
theorem bdX12_text_183 : (decode cX12_text 183 = .ok (.aload_n 0, 1)) ∧ (decode cX12_text 184 = .ok (.getfield 181, 3)) ∧ (decode cX12_text 187 = .ok (.ifCond .le 5, 3)) ∧ (decode cX12_text 190 = .ok (.iconst (-1), 1)) ∧ (decode cX12_text 191 = .ok (.ireturn, 1)) ∧ (decode cX12_text 192 = .ok (.aload_n 0, 1)) ∧ (decode cX12_text 193 = .ok (.aload_n 0, 1)) ∧ (decode cX12_text 194 = .ok (.getfield 7, 3)) ∧ (decode cX12_text 197 = .ok (.iconst 4, 1)) ∧ (decode cX12_text 198 = .ok (.iaload, 1)) ∧ (decode cX12_text 199 = .ok (.invokevirtual 274, 3)) ∧ (decode cX12_text 202 = .ok (.aload_n 0, 1)) ∧ (decode cX12_text 203 = .ok (.getfield 7, 3)) ∧ (decode cX12_text 206 = .ok (.iconst 4, 1)) ∧ (decode cX12_text 207 = .ok (.dup2, 1)) ∧ (decode cX12_text 208 = .ok (.iaload, 1)) := by decide +kernel
theorem dX12_text_183 : decode cX12_text 183 = .ok (.aload_n 0, 1) := bdX12_text_183.1
theorem dX12_text_184 : decode cX12_text 184 = .ok (.getfield 181, 3) := bdX12_text_183.2.1
theorem dX12_text_187 : decode cX12_text 187 = .ok (.ifCond .le 5, 3) := bdX12_text_183.2.2.1
theorem dX12_text_190 : decode cX12_text 190 = .ok (.iconst (-1), 1) := bdX12_text_183.2.2.2.1
theorem dX12_text_191 : decode cX12_text 191 = .ok (.ireturn, 1) := bdX12_text_183.2.2.2.2.1
theorem dX12_text_192 : decode cX12_text 192 = .ok (.aload_n 0, 1) := bdX12_text_183.2.2.2.2.2.1
theorem dX12_text_193 : decode cX12_text 193 = .ok (.aload_n 0, 1) := bdX12_text_183.2.2.2.2.2.2.1
theorem dX12_text_194 : decode cX12_text 194 = .ok (.getfield 7, 3) := bdX12_text_183.2.2.2.2.2.2.2.1
theorem dX12_text_197 : decode cX12_text 197 = .ok (.iconst 4, 1) := bdX12_text_183.2.2.2.2.2.2.2.2.1
theorem dX12_text_198 : decode cX12_text 198 = .ok (.iaload, 1) := bdX12_text_183.2.2.2.2.2.2.2.2.2.1
theorem dX12_text_199 : decode cX12_text 199 = .ok (.invokevirtual 274, 3) := bdX12_text_183.2.2.2.2.2.2.2.2.2.2.1
theorem dX12_text_202 : decode cX12_text 202 = .ok (.aload_n 0, 1) := bdX12_text_183.2.2.2.2.2.2.2.2.2.2.2.1
theorem dX12_text_203 : decode cX12_text 203 = .ok (.getfield 7, 3) := bdX12_text_183.2.2.2.2.2.2.2.2.2.2.2.2.1
theorem dX12_text_206 : decode cX12_text 206 = .ok (.iconst 4, 1) := bdX12_text_183.2.2.2.2.2.2.2.2.2.2.2.2.2.1
theorem dX12_text_207 : decode cX12_text 207 = .ok (.dup2, 1) := bdX12_text_183.2.2.2.2.2.2.2.2.2.2.2.2.2.2.1
theorem dX12_text_208 : decode cX12_text 208 = .ok (.iaload, 1) := bdX12_text_183.2.2.2.2.2.2.2.2.2.2.2.2.2.2.2
theorem bdX12_text_209 : (decode cX12_text 209 = .ok (.iconst 1, 1)) ∧ (decode cX12_text 210 = .ok (.iadd, 1)) ∧ (decode cX12_text 211 = .ok (.iastore, 1)) ∧ (decode cX12_text 212 = .ok (.aload_n 0, 1)) ∧ (decode cX12_text 213 = .ok (.getfield 7, 3)) ∧ (decode cX12_text 216 = .ok (.iconst 4, 1)) ∧ (decode cX12_text 217 = .ok (.iaload, 1)) ∧ (decode cX12_text 218 = .ok (.iconst 1, 1)) ∧ (decode cX12_text 219 = .ok (.isub, 1)) ∧ (decode cX12_text 220 = .ok (.ireturn, 1)) := by decide +kernel
theorem dX12_text_209 : decode cX12_text 209 = .ok (.iconst 1, 1) := bdX12_text_209.1
theorem dX12_text_210 : decode cX12_text 210 = .ok (.iadd, 1) := bdX12_text_209.2.1
theorem dX12_text_211 : decode cX12_text 211 = .ok (.iastore, 1) := bdX12_text_209.2.2.1
theorem dX12_text_212 : decode cX12_text 212 = .ok (.aload_n 0, 1) := bdX12_text_209.2.2.2.1
theorem dX12_text_213 : decode cX12_text 213 = .ok (.getfield 7, 3) := bdX12_text_209.2.2.2.2.1
theorem dX12_text_216 : decode cX12_text 216 = .ok (.iconst 4, 1) := bdX12_text_209.2.2.2.2.2.1
theorem dX12_text_217 : decode cX12_text 217 = .ok (.iaload, 1) := bdX12_text_209.2.2.2.2.2.2.1
theorem dX12_text_218 : decode cX12_text 218 = .ok (.iconst 1, 1) := bdX12_text_209.2.2.2.2.2.2.2.1
theorem dX12_text_219 : decode cX12_text 219 = .ok (.isub, 1) := bdX12_text_209.2.2.2.2.2.2.2.2.1
theorem dX12_text_220 : decode cX12_text 220 = .ok (.ireturn, 1) := bdX12_text_209.2.2.2.2.2.2.2.2.2
def fX12_clauseIsOver_0 (a0 : Nat) (m : xMem) : Option xMem := (fX12_works a0 (1 : Int32) m).bind fun p1 => xLet (xPut p1 a0 20 (0 : Int32)) fun m2 => (fX12_emits a0 (408 : Int32) (0 : Int32) m2).bind fun p3 => xLet (p3.1 a0 27) fun x4 => xLet (x4 + (1 : Int32)) fun x5 => xLet (xPut p3 a0 27 x5) fun m6 => (fX12_next a0 m6).bind fun p7 => xLet (xPut p7 a0 26 (4 : Int32)) fun m8 => some m8
set_option maxRecDepth 4000 in
theorem fX12_clauseIsOver_0_ok {a0 : Nat} {d : Nat} (hd : 3 ≤ d) (ha0 : isModel a0) {m : xMem} {r : xMem} (h : fX12_clauseIsOver_0 a0 m = some r) : xFx hh_106 cX12_clauseIsOver d 0 [some (.ref a0)] [] (xLay m) 0 0 none (xLay r) := by
  unfold fX12_clauseIsOver_0 at h
  refine fx_aload_n dX12_clauseIsOver_0 rfl rfl ?_
  refine fx_iconst (x := 1) dX12_clauseIsOver_1 rfl (by decide) ?_
  obtain ⟨p1, ep1, h⟩ := xBind_el h
  refine gx_callv (as := [.int (1 : Int32)]) (r := []) rfl dX12_clauseIsOver_2 ca_12_215 rfl me_103 rfl rfl rfl rfl (ha0.1) rfl (fX12_works_ok (d := d) (by omega) ha0 ep1) rfl rfl ?_
  refine fx_aload_n dX12_clauseIsOver_5 rfl rfl ?_
  refine fx_iconst (x := 0) dX12_clauseIsOver_6 rfl (by decide) ?_
  obtain ⟨m2, hm2, h⟩ := xLet_el h
  refine gx_put dX12_clauseIsOver_7 rfl fd_12_190 ha0.1 rfl rfl rfl hm2 ?_
  refine fx_aload_n dX12_clauseIsOver_10 rfl rfl ?_
  refine fx_sipush (x := 408) dX12_clauseIsOver_11 rfl (by decide) ?_
  refine fx_iconst (x := 0) dX12_clauseIsOver_14 rfl (by decide) ?_
  obtain ⟨p3, ep3, h⟩ := xBind_el h
  refine gx_callv (as := [.int (408 : Int32), .int (0 : Int32)]) (r := []) rfl dX12_clauseIsOver_15 ca_12_211 rfl me_96 rfl rfl rfl rfl (ha0.1) rfl (fX12_emits_ok (d := d) (by omega) ha0 ep3) rfl rfl ?_
  refine fx_aload_n dX12_clauseIsOver_18 rfl rfl ?_
  refine fx_dup dX12_clauseIsOver_19 rfl rfl ?_
  obtain ⟨x4, hx4, h⟩ := xLet_el h
  refine gx_get dX12_clauseIsOver_20 rfl fd_12_252 ha0.1 rfl rfl hx4 ?_
  refine fx_iconst (x := 1) dX12_clauseIsOver_23 rfl (by decide) ?_
  obtain ⟨x5, hx5, h⟩ := xLet_el h
  refine fx_iadd dX12_clauseIsOver_24 rfl hx5 ?_
  obtain ⟨m6, hm6, h⟩ := xLet_el h
  refine gx_put dX12_clauseIsOver_25 rfl fd_12_252 ha0.1 rfl rfl rfl hm6 ?_
  refine fx_aload_n dX12_clauseIsOver_28 rfl rfl ?_
  obtain ⟨p7, ep7, h⟩ := xBind_el h
  refine gx_callv (as := []) (r := []) rfl dX12_clauseIsOver_29 ca_12_202 rfl me_87 rfl rfl rfl rfl (ha0.1) rfl (fX12_next_ok (d := d) (by omega) ha0 ep7) rfl rfl ?_
  refine fx_aload_n dX12_clauseIsOver_32 rfl rfl ?_
  refine fx_iconst (x := 4) dX12_clauseIsOver_33 rfl (by decide) ?_
  obtain ⟨m8, hm8, h⟩ := xLet_el h
  refine gx_put dX12_clauseIsOver_34 rfl fd_12_224 ha0.1 rfl rfl rfl hm8 ?_
  cases h
  exact fx_return dX12_clauseIsOver_37 rfl rfl
def fX12_clauseIsOver (a0 : Nat) (m : xMem) : Option xMem := fX12_clauseIsOver_0 a0  m
theorem fX12_clauseIsOver_ok {a0 : Nat} {m : xMem} {r : xMem} {d : Nat} (hd : 4 ≤ d) (ha0 : isModel a0) (h : fX12_clauseIsOver a0 m = some r) : xEx d 106 [.ref a0] (xLay m) none (xLay r) := by
  obtain ⟨d, rfl⟩ : ∃ q, d = q + 1 := ⟨d - 1, by omega⟩
  exact xEx_of me_106 rfl (fX12_clauseIsOver_0_ok (d := d) (by omega) ha0 h)
def fX12_errs_20 (a0 : Nat) (a1 : Int32) (m : xMem) : Option xMem := some m
set_option maxRecDepth 4000 in
theorem fX12_errs_20_ok {a0 : Nat} {a1 : Int32} {d : Nat} (hd : 0 ≤ d) (ha0 : isModel a0) {m : xMem} {r : xMem} (h : fX12_errs_20 a0 a1 m = some r) : xFx hh_93 cX12_errs d 20 [some (.ref a0), some (.int a1)] [] (xLay m) 0 0 none (xLay r) := by
  unfold fX12_errs_20 at h
  cases h
  exact fx_return dX12_errs_20 rfl rfl
def fX12_errs_0 (a0 : Nat) (a1 : Int32) (m : xMem) : Option xMem := xLet (m.1 a0 17) fun x1 => if ¬ x1 = (0 : Int32) then fX12_errs_20 a0 a1 m else xLet (xPut m a0 17 a1) fun m3 => xLet (m3.1 a0 14) fun x4 => xLet (xPut m3 a0 18 x4) fun m5 => fX12_errs_20 a0 a1 m5
set_option maxRecDepth 4000 in
theorem fX12_errs_0_ok {a0 : Nat} {a1 : Int32} {d : Nat} (hd : 0 ≤ d) (ha0 : isModel a0) {m : xMem} {r : xMem} (h : fX12_errs_0 a0 a1 m = some r) : xFx hh_93 cX12_errs d 0 [some (.ref a0), some (.int a1)] [] (xLay m) 0 0 none (xLay r) := by
  unfold fX12_errs_0 at h
  refine fx_aload_n dX12_errs_0 rfl rfl ?_
  obtain ⟨x1, hx1, h⟩ := xLet_el h
  refine gx_get dX12_errs_1 rfl fd_12_181 ha0.1 rfl rfl hx1 ?_
  refine fx_if_ne (t := 20) dX12_errs_4 rfl rfl (fun hc2 => ?_) (fun hc2 => ?_)
  · rw [if_pos hc2] at h
    exact fX12_errs_20_ok hd ha0 h
  · rw [if_neg hc2] at h
    refine fx_aload_n dX12_errs_7 rfl rfl ?_
    refine fx_iload_n dX12_errs_8 rfl rfl ?_
    obtain ⟨m3, hm3, h⟩ := xLet_el h
    refine gx_put dX12_errs_9 rfl fd_12_181 ha0.1 rfl rfl rfl hm3 ?_
    refine fx_aload_n dX12_errs_12 rfl rfl ?_
    refine fx_aload_n dX12_errs_13 rfl rfl ?_
    obtain ⟨x4, hx4, h⟩ := xLet_el h
    refine gx_get dX12_errs_14 rfl fd_12_163 ha0.1 rfl rfl hx4 ?_
    obtain ⟨m5, hm5, h⟩ := xLet_el h
    refine gx_put dX12_errs_17 rfl fd_12_184 ha0.1 rfl rfl rfl hm5 ?_
    exact fX12_errs_20_ok hd ha0 h
def fX12_errs (a0 : Nat) (a1 : Int32) (m : xMem) : Option xMem := fX12_errs_0 a0 a1  m
theorem fX12_errs_ok {a0 : Nat} {a1 : Int32} {m : xMem} {r : xMem} {d : Nat} (hd : 1 ≤ d) (ha0 : isModel a0) (h : fX12_errs a0 a1 m = some r) : xEx d 93 [.ref a0, .int a1] (xLay m) none (xLay r) := by
  obtain ⟨d, rfl⟩ : ∃ q, d = q + 1 := ⟨d - 1, by omega⟩
  exact xEx_of me_93 rfl (fX12_errs_0_ok (d := d) (by omega) ha0 h)
def fX12_goesOn_250 (a0 : Nat) (m : xMem) : Option xMem := some m
set_option maxRecDepth 4000 in
theorem fX12_goesOn_250_ok {a0 : Nat} {d : Nat} (hd : 4 ≤ d) (ha0 : isModel a0) {o1 : Option Value} {o2 : Option Value} {m : xMem} {r : xMem} (q1 : xNoD o1 = true) (q2 : xNoD o2 = true) (h : fX12_goesOn_250 a0 m = some r) : xFx hh_100 cX12_goesOn d 250 [some (.ref a0), o1, o2] [] (xLay m) 0 0 none (xLay r) := by
  unfold fX12_goesOn_250 at h
  cases h
  exact fx_return dX12_goesOn_250 rfl rfl
def fX12_goesOn_49 (a0 : Nat) (m : xMem) : Option xMem := xLet (m.1 a0 16) fun x1 => (fX12_waitsFor a0 x1 m).bind fun p2 => xLet (xPut p2 a0 26 (1 : Int32)) fun m3 => fX12_goesOn_250 a0 m3
set_option maxRecDepth 4000 in
theorem fX12_goesOn_49_ok {a0 : Nat} {d : Nat} (hd : 4 ≤ d) (ha0 : isModel a0) {o1 : Option Value} {o2 : Option Value} {m : xMem} {r : xMem} (q1 : xNoD o1 = true) (q2 : xNoD o2 = true) (h : fX12_goesOn_49 a0 m = some r) : xFx hh_100 cX12_goesOn d 49 [some (.ref a0), o1, o2] [] (xLay m) 0 0 none (xLay r) := by
  unfold fX12_goesOn_49 at h
  refine fx_aload_n dX12_goesOn_49 rfl rfl ?_
  refine fx_aload_n dX12_goesOn_50 rfl rfl ?_
  obtain ⟨x1, hx1, h⟩ := xLet_el h
  refine gx_get dX12_goesOn_51 rfl fd_12_178 ha0.1 rfl rfl hx1 ?_
  obtain ⟨p2, ep2, h⟩ := xBind_el h
  refine gx_callv (as := [.int x1]) (r := []) rfl dX12_goesOn_54 ca_12_240 rfl me_101 rfl rfl rfl rfl (ha0.1) rfl (fX12_waitsFor_ok (d := d) (by omega) ha0 ep2) rfl rfl ?_
  refine fx_aload_n dX12_goesOn_57 rfl rfl ?_
  refine fx_iconst (x := 1) dX12_goesOn_58 rfl (by decide) ?_
  obtain ⟨m3, hm3, h⟩ := xLet_el h
  refine gx_put dX12_goesOn_59 rfl fd_12_224 ha0.1 rfl rfl rfl hm3 ?_
  refine fx_goto (t := 250) dX12_goesOn_62 rfl rfl ?_
  exact fX12_goesOn_250_ok (o1 := o1) (o2 := o2) hd ha0 q1 q2 h
def fX12_goesOn_245 (a0 : Nat) (m : xMem) : Option xMem := (fX12_errs a0 (1 : Int32) m).bind fun p1 => fX12_goesOn_250 a0 p1
set_option maxRecDepth 4000 in
theorem fX12_goesOn_245_ok {a0 : Nat} {d : Nat} (hd : 4 ≤ d) (ha0 : isModel a0) {o1 : Option Value} {o2 : Option Value} {m : xMem} {r : xMem} (q1 : xNoD o1 = true) (q2 : xNoD o2 = true) (h : fX12_goesOn_245 a0 m = some r) : xFx hh_100 cX12_goesOn d 245 [some (.ref a0), o1, o2] [] (xLay m) 0 0 none (xLay r) := by
  unfold fX12_goesOn_245 at h
  refine fx_aload_n dX12_goesOn_245 rfl rfl ?_
  refine fx_iconst (x := 1) dX12_goesOn_246 rfl (by decide) ?_
  obtain ⟨p1, ep1, h⟩ := xBind_el h
  refine gx_callv (as := [.int (1 : Int32)]) (r := []) rfl dX12_goesOn_247 ca_12_196 rfl me_93 rfl rfl rfl rfl (ha0.1) rfl (fX12_errs_ok (d := d) (by omega) ha0 ep1) rfl rfl ?_
  exact fX12_goesOn_250_ok (o1 := o1) (o2 := o2) hd ha0 q1 q2 h
def fX12_goesOn_181 (a0 : Nat) (l1 : Int32) (m : xMem) : Option xMem := if ¬ l1 = (5 : Int32) then if ¬ l1 = (1 : Int32) then fX12_goesOn_245 a0 m else (fX12_isSign a0 (59 : Int32) m).bind fun p3 => if p3.1 = (0 : Int32) then fX12_goesOn_245 a0 p3.2 else (fX12_clauseIsOver a0 p3.2).bind fun p5 => fX12_goesOn_250 a0 p5 else (fX12_works a0 (3 : Int32) m).bind fun p6 => xLet (p6.1 a0 20) fun x7 => bif xIn x7 41 then xLet (p6.1 (a0 + 11) x7.toNatClampNeg) fun x8 => xLet (p6.1 a0 20) fun x10 => xLet (x10 - (1 : Int32)) fun x11 => xLet (xPut p6 a0 20 x11) fun m12 => (fX12_emits a0 x8 (0 : Int32) m12).bind fun p13 => (fX12_askIsOver a0 p13).bind fun p14 => fX12_goesOn_250 a0 p14 else none
set_option maxRecDepth 4000 in
theorem fX12_goesOn_181_ok {a0 : Nat} {d : Nat} (hd : 4 ≤ d) (ha0 : isModel a0) {l1 : Int32} {o2 : Option Value} {m : xMem} {r : xMem} (q2 : xNoD o2 = true) (h : fX12_goesOn_181 a0 l1 m = some r) : xFx hh_100 cX12_goesOn d 181 [some (.ref a0), some (.int l1), o2] [] (xLay m) 0 0 none (xLay r) := by
  unfold fX12_goesOn_181 at h
  refine fx_iload_n dX12_goesOn_181 rfl rfl ?_
  refine fx_iconst (x := 5) dX12_goesOn_182 rfl (by decide) ?_
  refine fx_icmp_ne (t := 224) dX12_goesOn_183 rfl rfl (fun hc1 => ?_) (fun hc1 => ?_)
  · rw [if_pos hc1] at h
    refine fx_iload_n dX12_goesOn_224 rfl rfl ?_
    refine fx_iconst (x := 1) dX12_goesOn_225 rfl (by decide) ?_
    refine fx_icmp_ne (t := 245) dX12_goesOn_226 rfl rfl (fun hc2 => ?_) (fun hc2 => ?_)
    · rw [if_pos hc2] at h
      exact fX12_goesOn_245_ok (o1 := some (.int l1)) (o2 := o2) hd ha0 rfl q2 h
    · rw [if_neg hc2] at h
      refine fx_aload_n dX12_goesOn_229 rfl rfl ?_
      refine fx_bipush (x := 59) dX12_goesOn_230 rfl (by decide) ?_
      obtain ⟨p3, ep3, h⟩ := xBind_el h
      refine gx_callv (as := [.int (59 : Int32)]) (r := []) rfl dX12_goesOn_232 ca_12_233 rfl me_99 rfl rfl rfl rfl (ha0.1) rfl (fX12_isSign_ok (d := d) (by omega) ha0 ep3) rfl rfl ?_
      refine fx_if_eq (t := 245) dX12_goesOn_235 rfl rfl (fun hc4 => ?_) (fun hc4 => ?_)
      · rw [if_pos hc4] at h
        exact fX12_goesOn_245_ok (o1 := some (.int l1)) (o2 := o2) hd ha0 rfl q2 h
      · rw [if_neg hc4] at h
        refine fx_aload_n dX12_goesOn_238 rfl rfl ?_
        obtain ⟨p5, ep5, h⟩ := xBind_el h
        refine gx_callv (as := []) (r := []) rfl dX12_goesOn_239 ca_12_249 rfl me_106 rfl rfl rfl rfl (ha0.1) rfl (fX12_clauseIsOver_ok (d := d) (by omega) ha0 ep5) rfl rfl ?_
        refine fx_goto (t := 250) dX12_goesOn_242 rfl rfl ?_
        exact fX12_goesOn_250_ok (o1 := some (.int l1)) (o2 := o2) hd ha0 rfl q2 h
  · rw [if_neg hc1] at h
    refine fx_aload_n dX12_goesOn_186 rfl rfl ?_
    refine fx_iconst (x := 3) dX12_goesOn_187 rfl (by decide) ?_
    obtain ⟨p6, ep6, h⟩ := xBind_el h
    refine gx_callv (as := [.int (3 : Int32)]) (r := []) rfl dX12_goesOn_188 ca_12_215 rfl me_103 rfl rfl rfl rfl (ha0.1) rfl (fX12_works_ok (d := d) (by omega) ha0 ep6) rfl rfl ?_
    refine fx_aload_n dX12_goesOn_191 rfl rfl ?_
    refine gx_getr dX12_goesOn_192 rfl fd_12_48 ha0.1 rfl rfl ?_
    refine fx_aload_n dX12_goesOn_195 rfl rfl ?_
    obtain ⟨x7, hx7, h⟩ := xLet_el h
    refine gx_get dX12_goesOn_196 rfl fd_12_190 ha0.1 rfl rfl hx7 ?_
    obtain ⟨hj9, h⟩ := xChk_el h
    obtain ⟨x8, hx8, h⟩ := xLet_el h
    refine gx_iaload dX12_goesOn_199 rfl ha0.2.2.2.2.2.2.2.2.2.2.2.1 hj9 hx8 ?_
    refine fx_istore_n (ls2 := [some (.ref a0), some (.int l1), some (.int x8)]) dX12_goesOn_200 rfl rfl rfl ?_
    refine fx_aload_n dX12_goesOn_201 rfl rfl ?_
    refine fx_dup dX12_goesOn_202 rfl rfl ?_
    obtain ⟨x10, hx10, h⟩ := xLet_el h
    refine gx_get dX12_goesOn_203 rfl fd_12_190 ha0.1 rfl rfl hx10 ?_
    refine fx_iconst (x := 1) dX12_goesOn_206 rfl (by decide) ?_
    obtain ⟨x11, hx11, h⟩ := xLet_el h
    refine fx_isub dX12_goesOn_207 rfl hx11 ?_
    obtain ⟨m12, hm12, h⟩ := xLet_el h
    refine gx_put dX12_goesOn_208 rfl fd_12_190 ha0.1 rfl rfl rfl hm12 ?_
    refine fx_aload_n dX12_goesOn_211 rfl rfl ?_
    refine fx_iload_n dX12_goesOn_212 rfl rfl ?_
    refine fx_iconst (x := 0) dX12_goesOn_213 rfl (by decide) ?_
    obtain ⟨p13, ep13, h⟩ := xBind_el h
    refine gx_callv (as := [.int x8, .int (0 : Int32)]) (r := []) rfl dX12_goesOn_214 ca_12_211 rfl me_96 rfl rfl rfl rfl (ha0.1) rfl (fX12_emits_ok (d := d) (by omega) ha0 ep13) rfl rfl ?_
    refine fx_aload_n dX12_goesOn_217 rfl rfl ?_
    obtain ⟨p14, ep14, h⟩ := xBind_el h
    refine gx_callv (as := []) (r := []) rfl dX12_goesOn_218 ca_12_246 rfl me_105 rfl rfl rfl rfl (ha0.1) rfl (fX12_askIsOver_ok (d := d) (by omega) ha0 ep14) rfl rfl ?_
    refine fx_goto (t := 250) dX12_goesOn_221 rfl rfl ?_
    exact fX12_goesOn_250_ok (o1 := some (.int l1)) (o2 := some (.int x8)) hd ha0 rfl rfl h
def fX12_goesOn_116 (a0 : Nat) (l1 : Int32) (m : xMem) : Option xMem := if ¬ l1 = (4 : Int32) then fX12_goesOn_181 a0 l1 m else xLet (m.1 a0 15) fun x2 => if ¬ x2 = (3 : Int32) then fX12_goesOn_181 a0 l1 m else xLet (m.1 a0 16) fun x4 => (fX12_isAsking x4 m).bind fun p5 => if p5.1 = (0 : Int32) then fX12_goesOn_181 a0 l1 p5.2 else (fX12_works a0 (3 : Int32) p5.2).bind fun p7 => xLet (p7.1 a0 20) fun x8 => xLet (p7.1 a0 16) fun x9 => bif xIn x8 41 then xLet (xPut p7 (a0 + 11) x8.toNatClampNeg x9) fun m10 => xLet (m10.1 a0 20) fun x12 => xLet (x12 - (1 : Int32)) fun x13 => bif xIn x13 40 then xLet (xPut m10 (a0 + 10) x13.toNatClampNeg (5 : Int32)) fun m14 => (fX12_next a0 m14).bind fun p16 => xLet (xPut p16 a0 26 (1 : Int32)) fun m17 => fX12_goesOn_250 a0 m17 else none else none
set_option maxRecDepth 4000 in
theorem fX12_goesOn_116_ok {a0 : Nat} {d : Nat} (hd : 4 ≤ d) (ha0 : isModel a0) {l1 : Int32} {o2 : Option Value} {m : xMem} {r : xMem} (q2 : xNoD o2 = true) (h : fX12_goesOn_116 a0 l1 m = some r) : xFx hh_100 cX12_goesOn d 116 [some (.ref a0), some (.int l1), o2] [] (xLay m) 0 0 none (xLay r) := by
  unfold fX12_goesOn_116 at h
  refine fx_iload_n dX12_goesOn_116 rfl rfl ?_
  refine fx_iconst (x := 4) dX12_goesOn_117 rfl (by decide) ?_
  refine fx_icmp_ne (t := 181) dX12_goesOn_118 rfl rfl (fun hc1 => ?_) (fun hc1 => ?_)
  · rw [if_pos hc1] at h
    exact fX12_goesOn_181_ok (o2 := o2) hd ha0 q2 h
  · rw [if_neg hc1] at h
    refine fx_aload_n dX12_goesOn_121 rfl rfl ?_
    obtain ⟨x2, hx2, h⟩ := xLet_el h
    refine gx_get dX12_goesOn_122 rfl fd_12_166 ha0.1 rfl rfl hx2 ?_
    refine fx_iconst (x := 3) dX12_goesOn_125 rfl (by decide) ?_
    refine fx_icmp_ne (t := 181) dX12_goesOn_126 rfl rfl (fun hc3 => ?_) (fun hc3 => ?_)
    · rw [if_pos hc3] at h
      exact fX12_goesOn_181_ok (o2 := o2) hd ha0 q2 h
    · rw [if_neg hc3] at h
      refine fx_aload_n dX12_goesOn_129 rfl rfl ?_
      obtain ⟨x4, hx4, h⟩ := xLet_el h
      refine gx_get dX12_goesOn_130 rfl fd_12_178 ha0.1 rfl rfl hx4 ?_
      obtain ⟨p5, ep5, h⟩ := xBind_el h
      refine gx_calls (as := [.int x4]) (r := []) rfl dX12_goesOn_133 ca_12_243 rfl me_104 rfl rfl rfl rfl (fX12_isAsking_ok (d := d) (by omega) ep5) rfl rfl ?_
      refine fx_if_eq (t := 181) dX12_goesOn_136 rfl rfl (fun hc6 => ?_) (fun hc6 => ?_)
      · rw [if_pos hc6] at h
        exact fX12_goesOn_181_ok (o2 := o2) hd ha0 q2 h
      · rw [if_neg hc6] at h
        refine fx_aload_n dX12_goesOn_139 rfl rfl ?_
        refine fx_iconst (x := 3) dX12_goesOn_140 rfl (by decide) ?_
        obtain ⟨p7, ep7, h⟩ := xBind_el h
        refine gx_callv (as := [.int (3 : Int32)]) (r := []) rfl dX12_goesOn_141 ca_12_215 rfl me_103 rfl rfl rfl rfl (ha0.1) rfl (fX12_works_ok (d := d) (by omega) ha0 ep7) rfl rfl ?_
        refine fx_aload_n dX12_goesOn_144 rfl rfl ?_
        refine gx_getr dX12_goesOn_145 rfl fd_12_48 ha0.1 rfl rfl ?_
        refine fx_aload_n dX12_goesOn_148 rfl rfl ?_
        obtain ⟨x8, hx8, h⟩ := xLet_el h
        refine gx_get dX12_goesOn_149 rfl fd_12_190 ha0.1 rfl rfl hx8 ?_
        refine fx_aload_n dX12_goesOn_152 rfl rfl ?_
        obtain ⟨x9, hx9, h⟩ := xLet_el h
        refine gx_get dX12_goesOn_153 rfl fd_12_178 ha0.1 rfl rfl hx9 ?_
        obtain ⟨hj11, h⟩ := xChk_el h
        obtain ⟨m10, hm10, h⟩ := xLet_el h
        refine gx_iastore dX12_goesOn_156 rfl ha0.2.2.2.2.2.2.2.2.2.2.2.1 hj11 hm10 ?_
        refine fx_aload_n dX12_goesOn_157 rfl rfl ?_
        refine gx_getr dX12_goesOn_158 rfl fd_12_45 ha0.1 rfl rfl ?_
        refine fx_aload_n dX12_goesOn_161 rfl rfl ?_
        obtain ⟨x12, hx12, h⟩ := xLet_el h
        refine gx_get dX12_goesOn_162 rfl fd_12_190 ha0.1 rfl rfl hx12 ?_
        refine fx_iconst (x := 1) dX12_goesOn_165 rfl (by decide) ?_
        obtain ⟨x13, hx13, h⟩ := xLet_el h
        refine fx_isub dX12_goesOn_166 rfl hx13 ?_
        refine fx_iconst (x := 5) dX12_goesOn_167 rfl (by decide) ?_
        obtain ⟨hj15, h⟩ := xChk_el h
        obtain ⟨m14, hm14, h⟩ := xLet_el h
        refine gx_iastore dX12_goesOn_168 rfl ha0.2.2.2.2.2.2.2.2.2.2.1 hj15 hm14 ?_
        refine fx_aload_n dX12_goesOn_169 rfl rfl ?_
        obtain ⟨p16, ep16, h⟩ := xBind_el h
        refine gx_callv (as := []) (r := []) rfl dX12_goesOn_170 ca_12_202 rfl me_87 rfl rfl rfl rfl (ha0.1) rfl (fX12_next_ok (d := d) (by omega) ha0 ep16) rfl rfl ?_
        refine fx_aload_n dX12_goesOn_173 rfl rfl ?_
        refine fx_iconst (x := 1) dX12_goesOn_174 rfl (by decide) ?_
        obtain ⟨m17, hm17, h⟩ := xLet_el h
        refine gx_put dX12_goesOn_175 rfl fd_12_224 ha0.1 rfl rfl rfl hm17 ?_
        refine fx_goto (t := 250) dX12_goesOn_178 rfl rfl ?_
        exact fX12_goesOn_250_ok (o1 := some (.int l1)) (o2 := o2) hd ha0 rfl q2 h
def fX12_goesOn_65 (a0 : Nat) (l1 : Int32) (m : xMem) : Option xMem := if ¬ l1 = (6 : Int32) then fX12_goesOn_116 a0 l1 m else (fX12_isSign a0 (41 : Int32) m).bind fun p2 => if p2.1 = (0 : Int32) then fX12_goesOn_116 a0 l1 p2.2 else (fX12_works a0 (3 : Int32) p2.2).bind fun p4 => xLet (p4.1 a0 20) fun x5 => xLet (x5 - (1 : Int32)) fun x6 => xLet (xPut p4 a0 20 x6) fun m7 => xLet (m7.1 a0 19) fun x8 => xLet (x8 - (1 : Int32)) fun x9 => xLet (xPut m7 a0 19 x9) fun m10 => (fX12_next a0 m10).bind fun p11 => (fX12_oneIsOver a0 p11).bind fun p12 => fX12_goesOn_250 a0 p12
set_option maxRecDepth 4000 in
theorem fX12_goesOn_65_ok {a0 : Nat} {d : Nat} (hd : 4 ≤ d) (ha0 : isModel a0) {l1 : Int32} {o2 : Option Value} {m : xMem} {r : xMem} (q2 : xNoD o2 = true) (h : fX12_goesOn_65 a0 l1 m = some r) : xFx hh_100 cX12_goesOn d 65 [some (.ref a0), some (.int l1), o2] [] (xLay m) 0 0 none (xLay r) := by
  unfold fX12_goesOn_65 at h
  refine fx_iload_n dX12_goesOn_65 rfl rfl ?_
  refine fx_bipush (x := 6) dX12_goesOn_66 rfl (by decide) ?_
  refine fx_icmp_ne (t := 116) dX12_goesOn_68 rfl rfl (fun hc1 => ?_) (fun hc1 => ?_)
  · rw [if_pos hc1] at h
    exact fX12_goesOn_116_ok (o2 := o2) hd ha0 q2 h
  · rw [if_neg hc1] at h
    refine fx_aload_n dX12_goesOn_71 rfl rfl ?_
    refine fx_bipush (x := 41) dX12_goesOn_72 rfl (by decide) ?_
    obtain ⟨p2, ep2, h⟩ := xBind_el h
    refine gx_callv (as := [.int (41 : Int32)]) (r := []) rfl dX12_goesOn_74 ca_12_233 rfl me_99 rfl rfl rfl rfl (ha0.1) rfl (fX12_isSign_ok (d := d) (by omega) ha0 ep2) rfl rfl ?_
    refine fx_if_eq (t := 116) dX12_goesOn_77 rfl rfl (fun hc3 => ?_) (fun hc3 => ?_)
    · rw [if_pos hc3] at h
      exact fX12_goesOn_116_ok (o2 := o2) hd ha0 q2 h
    · rw [if_neg hc3] at h
      refine fx_aload_n dX12_goesOn_80 rfl rfl ?_
      refine fx_iconst (x := 3) dX12_goesOn_81 rfl (by decide) ?_
      obtain ⟨p4, ep4, h⟩ := xBind_el h
      refine gx_callv (as := [.int (3 : Int32)]) (r := []) rfl dX12_goesOn_82 ca_12_215 rfl me_103 rfl rfl rfl rfl (ha0.1) rfl (fX12_works_ok (d := d) (by omega) ha0 ep4) rfl rfl ?_
      refine fx_aload_n dX12_goesOn_85 rfl rfl ?_
      refine fx_dup dX12_goesOn_86 rfl rfl ?_
      obtain ⟨x5, hx5, h⟩ := xLet_el h
      refine gx_get dX12_goesOn_87 rfl fd_12_190 ha0.1 rfl rfl hx5 ?_
      refine fx_iconst (x := 1) dX12_goesOn_90 rfl (by decide) ?_
      obtain ⟨x6, hx6, h⟩ := xLet_el h
      refine fx_isub dX12_goesOn_91 rfl hx6 ?_
      obtain ⟨m7, hm7, h⟩ := xLet_el h
      refine gx_put dX12_goesOn_92 rfl fd_12_190 ha0.1 rfl rfl rfl hm7 ?_
      refine fx_aload_n dX12_goesOn_95 rfl rfl ?_
      refine fx_dup dX12_goesOn_96 rfl rfl ?_
      obtain ⟨x8, hx8, h⟩ := xLet_el h
      refine gx_get dX12_goesOn_97 rfl fd_12_193 ha0.1 rfl rfl hx8 ?_
      refine fx_iconst (x := 1) dX12_goesOn_100 rfl (by decide) ?_
      obtain ⟨x9, hx9, h⟩ := xLet_el h
      refine fx_isub dX12_goesOn_101 rfl hx9 ?_
      obtain ⟨m10, hm10, h⟩ := xLet_el h
      refine gx_put dX12_goesOn_102 rfl fd_12_193 ha0.1 rfl rfl rfl hm10 ?_
      refine fx_aload_n dX12_goesOn_105 rfl rfl ?_
      obtain ⟨p11, ep11, h⟩ := xBind_el h
      refine gx_callv (as := []) (r := []) rfl dX12_goesOn_106 ca_12_202 rfl me_87 rfl rfl rfl rfl (ha0.1) rfl (fX12_next_ok (d := d) (by omega) ha0 ep11) rfl rfl ?_
      refine fx_aload_n dX12_goesOn_109 rfl rfl ?_
      obtain ⟨p12, ep12, h⟩ := xBind_el h
      refine gx_callv (as := []) (r := []) rfl dX12_goesOn_110 ca_12_227 rfl me_97 rfl rfl rfl rfl (ha0.1) rfl (fX12_oneIsOver_ok (d := d) (by omega) ha0 ep12) rfl rfl ?_
      refine fx_goto (t := 250) dX12_goesOn_113 rfl rfl ?_
      exact fX12_goesOn_250_ok (o1 := some (.int l1)) (o2 := o2) hd ha0 rfl q2 h
def fX12_goesOn_0 (a0 : Nat) (m : xMem) : Option xMem := (fX12_top a0 m).bind fun p1 => xLet (p1.2.1 a0 15) fun x2 => if ¬ x2 = (3 : Int32) then fX12_goesOn_65 a0 p1.1 p1.2 else xLet (p1.2.1 a0 16) fun x4 => if x4 = (43 : Int32) then fX12_goesOn_49 a0 p1.2 else xLet (p1.2.1 a0 16) fun x6 => if x6 = (45 : Int32) then fX12_goesOn_49 a0 p1.2 else xLet (p1.2.1 a0 16) fun x8 => if x8 = (42 : Int32) then fX12_goesOn_49 a0 p1.2 else xLet (p1.2.1 a0 16) fun x10 => if ¬ x10 = (47 : Int32) then fX12_goesOn_65 a0 p1.1 p1.2 else fX12_goesOn_49 a0 p1.2
set_option maxRecDepth 4000 in
theorem fX12_goesOn_0_ok {a0 : Nat} {d : Nat} (hd : 4 ≤ d) (ha0 : isModel a0) {o1 : Option Value} {o2 : Option Value} {m : xMem} {r : xMem} (q1 : xNoD o1 = true) (q2 : xNoD o2 = true) (h : fX12_goesOn_0 a0 m = some r) : xFx hh_100 cX12_goesOn d 0 [some (.ref a0), o1, o2] [] (xLay m) 0 0 none (xLay r) := by
  unfold fX12_goesOn_0 at h
  refine fx_aload_n dX12_goesOn_0 rfl rfl ?_
  obtain ⟨p1, ep1, h⟩ := xBind_el h
  refine gx_callv (as := []) (r := []) rfl dX12_goesOn_1 ca_12_236 rfl me_98 rfl rfl rfl rfl (ha0.1) rfl (fX12_top_ok (d := d) (by omega) ha0 ep1) rfl rfl ?_
  refine fx_istore_n (ls2 := [some (.ref a0), some (.int p1.1), o2]) dX12_goesOn_4 rfl rfl rfl ?_
  refine fx_aload_n dX12_goesOn_5 rfl rfl ?_
  obtain ⟨x2, hx2, h⟩ := xLet_el h
  refine gx_get dX12_goesOn_6 rfl fd_12_166 ha0.1 rfl rfl hx2 ?_
  refine fx_iconst (x := 3) dX12_goesOn_9 rfl (by decide) ?_
  refine fx_icmp_ne (t := 65) dX12_goesOn_10 rfl rfl (fun hc3 => ?_) (fun hc3 => ?_)
  · rw [if_pos hc3] at h
    exact fX12_goesOn_65_ok (o2 := o2) hd ha0 q2 h
  · rw [if_neg hc3] at h
    refine fx_aload_n dX12_goesOn_13 rfl rfl ?_
    obtain ⟨x4, hx4, h⟩ := xLet_el h
    refine gx_get dX12_goesOn_14 rfl fd_12_178 ha0.1 rfl rfl hx4 ?_
    refine fx_bipush (x := 43) dX12_goesOn_17 rfl (by decide) ?_
    refine fx_icmp_eq (t := 49) dX12_goesOn_19 rfl rfl (fun hc5 => ?_) (fun hc5 => ?_)
    · rw [if_pos hc5] at h
      exact fX12_goesOn_49_ok (o1 := some (.int p1.1)) (o2 := o2) hd ha0 rfl q2 h
    · rw [if_neg hc5] at h
      refine fx_aload_n dX12_goesOn_22 rfl rfl ?_
      obtain ⟨x6, hx6, h⟩ := xLet_el h
      refine gx_get dX12_goesOn_23 rfl fd_12_178 ha0.1 rfl rfl hx6 ?_
      refine fx_bipush (x := 45) dX12_goesOn_26 rfl (by decide) ?_
      refine fx_icmp_eq (t := 49) dX12_goesOn_28 rfl rfl (fun hc7 => ?_) (fun hc7 => ?_)
      · rw [if_pos hc7] at h
        exact fX12_goesOn_49_ok (o1 := some (.int p1.1)) (o2 := o2) hd ha0 rfl q2 h
      · rw [if_neg hc7] at h
        refine fx_aload_n dX12_goesOn_31 rfl rfl ?_
        obtain ⟨x8, hx8, h⟩ := xLet_el h
        refine gx_get dX12_goesOn_32 rfl fd_12_178 ha0.1 rfl rfl hx8 ?_
        refine fx_bipush (x := 42) dX12_goesOn_35 rfl (by decide) ?_
        refine fx_icmp_eq (t := 49) dX12_goesOn_37 rfl rfl (fun hc9 => ?_) (fun hc9 => ?_)
        · rw [if_pos hc9] at h
          exact fX12_goesOn_49_ok (o1 := some (.int p1.1)) (o2 := o2) hd ha0 rfl q2 h
        · rw [if_neg hc9] at h
          refine fx_aload_n dX12_goesOn_40 rfl rfl ?_
          obtain ⟨x10, hx10, h⟩ := xLet_el h
          refine gx_get dX12_goesOn_41 rfl fd_12_178 ha0.1 rfl rfl hx10 ?_
          refine fx_bipush (x := 47) dX12_goesOn_44 rfl (by decide) ?_
          refine fx_icmp_ne (t := 65) dX12_goesOn_46 rfl rfl (fun hc11 => ?_) (fun hc11 => ?_)
          · rw [if_pos hc11] at h
            exact fX12_goesOn_65_ok (o2 := o2) hd ha0 q2 h
          · rw [if_neg hc11] at h
            exact fX12_goesOn_49_ok (o1 := some (.int p1.1)) (o2 := o2) hd ha0 rfl q2 h
def fX12_goesOn (a0 : Nat) (m : xMem) : Option xMem := fX12_goesOn_0 a0  m
theorem fX12_goesOn_ok {a0 : Nat} {m : xMem} {r : xMem} {d : Nat} (hd : 5 ≤ d) (ha0 : isModel a0) (h : fX12_goesOn a0 m = some r) : xEx d 100 [.ref a0] (xLay m) none (xLay r) := by
  obtain ⟨d, rfl⟩ : ∃ q, d = q + 1 := ⟨d - 1, by omega⟩
  exact xEx_of me_100 rfl (fX12_goesOn_0_ok (d := d) (o1 := none) (o2 := none) (by omega) ha0 rfl rfl h)
def fX12_isWord_21 (a0 : Nat) (a1 : Int32) (s0 : Int32) (m : xMem) : Option (Int32 × xMem) := bif (decide (s0 = 0) || decide (s0 = 1)) then some (s0, m) else none
set_option maxRecDepth 4000 in
theorem fX12_isWord_21_ok {a0 : Nat} {a1 : Int32} {d : Nat} (hd : 0 ≤ d) (ha0 : isModel a0) {s0 : Int32} {m : xMem} {r : (Int32 × xMem)} (h : fX12_isWord_21 a0 a1 s0 m = some r) : xFx hh_91 cX12_isWord d 21 [some (.ref a0), some (.int a1)] [.int s0] (xLay m) 0 0 (some (.int r.1)) (xLay r.2) := by
  unfold fX12_isWord_21 at h
  obtain ⟨hb1, h⟩ := xChk_el h
  cases h
  exact fx_ireturn dX12_isWord_21 rfl (by show ((decide _ || decide _) && _) = true; rw [hb1]; rfl)
def fX12_isWord_20 (a0 : Nat) (a1 : Int32) (m : xMem) : Option (Int32 × xMem) := fX12_isWord_21 a0 a1 (0 : Int32) m
set_option maxRecDepth 4000 in
theorem fX12_isWord_20_ok {a0 : Nat} {a1 : Int32} {d : Nat} (hd : 0 ≤ d) (ha0 : isModel a0) {m : xMem} {r : (Int32 × xMem)} (h : fX12_isWord_20 a0 a1 m = some r) : xFx hh_91 cX12_isWord d 20 [some (.ref a0), some (.int a1)] [] (xLay m) 0 0 (some (.int r.1)) (xLay r.2) := by
  unfold fX12_isWord_20 at h
  refine fx_iconst (x := 0) dX12_isWord_20 rfl (by decide) ?_
  exact fX12_isWord_21_ok hd ha0 h
def fX12_isWord_0 (a0 : Nat) (a1 : Int32) (m : xMem) : Option (Int32 × xMem) := xLet (m.1 a0 15) fun x1 => if ¬ x1 = (1 : Int32) then fX12_isWord_20 a0 a1 m else xLet (m.1 a0 16) fun x3 => if ¬ x3 = a1 then fX12_isWord_20 a0 a1 m else fX12_isWord_21 a0 a1 (1 : Int32) m
set_option maxRecDepth 4000 in
theorem fX12_isWord_0_ok {a0 : Nat} {a1 : Int32} {d : Nat} (hd : 0 ≤ d) (ha0 : isModel a0) {m : xMem} {r : (Int32 × xMem)} (h : fX12_isWord_0 a0 a1 m = some r) : xFx hh_91 cX12_isWord d 0 [some (.ref a0), some (.int a1)] [] (xLay m) 0 0 (some (.int r.1)) (xLay r.2) := by
  unfold fX12_isWord_0 at h
  refine fx_aload_n dX12_isWord_0 rfl rfl ?_
  obtain ⟨x1, hx1, h⟩ := xLet_el h
  refine gx_get dX12_isWord_1 rfl fd_12_166 ha0.1 rfl rfl hx1 ?_
  refine fx_iconst (x := 1) dX12_isWord_4 rfl (by decide) ?_
  refine fx_icmp_ne (t := 20) dX12_isWord_5 rfl rfl (fun hc2 => ?_) (fun hc2 => ?_)
  · rw [if_pos hc2] at h
    exact fX12_isWord_20_ok hd ha0 h
  · rw [if_neg hc2] at h
    refine fx_aload_n dX12_isWord_8 rfl rfl ?_
    obtain ⟨x3, hx3, h⟩ := xLet_el h
    refine gx_get dX12_isWord_9 rfl fd_12_178 ha0.1 rfl rfl hx3 ?_
    refine fx_iload_n dX12_isWord_12 rfl rfl ?_
    refine fx_icmp_ne (t := 20) dX12_isWord_13 rfl rfl (fun hc4 => ?_) (fun hc4 => ?_)
    · rw [if_pos hc4] at h
      exact fX12_isWord_20_ok hd ha0 h
    · rw [if_neg hc4] at h
      refine fx_iconst (x := 1) dX12_isWord_16 rfl (by decide) ?_
      refine fx_goto (t := 21) dX12_isWord_17 rfl rfl ?_
      exact fX12_isWord_21_ok hd ha0 h
def fX12_isWord (a0 : Nat) (a1 : Int32) (m : xMem) : Option (Int32 × xMem) := fX12_isWord_0 a0 a1  m
theorem fX12_isWord_ok {a0 : Nat} {a1 : Int32} {m : xMem} {r : (Int32 × xMem)} {d : Nat} (hd : 1 ≤ d) (ha0 : isModel a0) (h : fX12_isWord a0 a1 m = some r) : xEx d 91 [.ref a0, .int a1] (xLay m) (some (.int r.1)) (xLay r.2) := by
  obtain ⟨d, rfl⟩ : ∃ q, d = q + 1 := ⟨d - 1, by omega⟩
  exact xEx_of me_91 rfl (fX12_isWord_0_ok (d := d) (by omega) ha0 h)
def fX12_asksOn_74 (a0 : Nat) (m : xMem) : Option xMem := some m
set_option maxRecDepth 4000 in
theorem fX12_asksOn_74_ok {a0 : Nat} {d : Nat} (hd : 4 ≤ d) (ha0 : isModel a0) {m : xMem} {r : xMem} (h : fX12_asksOn_74 a0 m = some r) : xFx hh_107 cX12_asksOn d 74 [some (.ref a0)] [] (xLay m) 0 0 none (xLay r) := by
  unfold fX12_asksOn_74 at h
  cases h
  exact fx_return dX12_asksOn_74 rfl rfl
def fX12_asksOn_34 (a0 : Nat) (s0 : Nat) (s1 : Int32) (m : xMem) : Option xMem := (fX12_waitsFor s0 s1 m).bind fun p1 => xLet (xPut p1 a0 26 (0 : Int32)) fun m2 => fX12_asksOn_74 a0 m2
set_option maxRecDepth 4000 in
theorem fX12_asksOn_34_ok {a0 : Nat} {d : Nat} (hd : 4 ≤ d) (ha0 : isModel a0) {s0 : Nat} {s1 : Int32} {m : xMem} {r : xMem} (hs0 : isModel s0) (h : fX12_asksOn_34 a0 s0 s1 m = some r) : xFx hh_107 cX12_asksOn d 34 [some (.ref a0)] [.int s1, .ref s0] (xLay m) 0 0 none (xLay r) := by
  unfold fX12_asksOn_34 at h
  obtain ⟨p1, ep1, h⟩ := xBind_el h
  refine gx_callv (as := [.int s1]) (r := []) rfl dX12_asksOn_34 ca_12_240 rfl me_101 rfl rfl rfl rfl (hs0.1) rfl (fX12_waitsFor_ok (d := d) (by omega) hs0 ep1) rfl rfl ?_
  refine fx_aload_n dX12_asksOn_37 rfl rfl ?_
  refine fx_iconst (x := 0) dX12_asksOn_38 rfl (by decide) ?_
  obtain ⟨m2, hm2, h⟩ := xLet_el h
  refine gx_put dX12_asksOn_39 rfl fd_12_224 ha0.1 rfl rfl rfl hm2 ?_
  refine fx_goto (t := 74) dX12_asksOn_42 rfl rfl ?_
  exact fX12_asksOn_74_ok hd ha0 h
def fX12_asksOn_16 (a0 : Nat) (m : xMem) : Option xMem := (fX12_isWord a0 (3 : Int32) m).bind fun p1 => if p1.1 = (0 : Int32) then fX12_asksOn_34 a0 a0 (406 : Int32) p1.2 else fX12_asksOn_34 a0 a0 (407 : Int32) p1.2
set_option maxRecDepth 4000 in
theorem fX12_asksOn_16_ok {a0 : Nat} {d : Nat} (hd : 4 ≤ d) (ha0 : isModel a0) {m : xMem} {r : xMem} (h : fX12_asksOn_16 a0 m = some r) : xFx hh_107 cX12_asksOn d 16 [some (.ref a0)] [] (xLay m) 0 0 none (xLay r) := by
  unfold fX12_asksOn_16 at h
  refine fx_aload_n dX12_asksOn_16 rfl rfl ?_
  refine fx_aload_n dX12_asksOn_17 rfl rfl ?_
  refine fx_iconst (x := 3) dX12_asksOn_18 rfl (by decide) ?_
  obtain ⟨p1, ep1, h⟩ := xBind_el h
  refine gx_callv (as := [.int (3 : Int32)]) (r := [.ref a0]) rfl dX12_asksOn_19 ca_12_218 rfl me_91 rfl rfl rfl rfl (ha0.1) rfl (fX12_isWord_ok (d := d) (by omega) ha0 ep1) rfl rfl ?_
  refine fx_if_eq (t := 31) dX12_asksOn_22 rfl rfl (fun hc2 => ?_) (fun hc2 => ?_)
  · rw [if_pos hc2] at h
    refine fx_sipush (x := 406) dX12_asksOn_31 rfl (by decide) ?_
    exact fX12_asksOn_34_ok hd ha0 ha0 h
  · rw [if_neg hc2] at h
    refine fx_sipush (x := 407) dX12_asksOn_25 rfl (by decide) ?_
    refine fx_goto (t := 34) dX12_asksOn_28 rfl rfl ?_
    exact fX12_asksOn_34_ok hd ha0 ha0 h
def fX12_asksOn_69 (a0 : Nat) (m : xMem) : Option xMem := (fX12_errs a0 (1 : Int32) m).bind fun p1 => fX12_asksOn_74 a0 p1
set_option maxRecDepth 4000 in
theorem fX12_asksOn_69_ok {a0 : Nat} {d : Nat} (hd : 4 ≤ d) (ha0 : isModel a0) {m : xMem} {r : xMem} (h : fX12_asksOn_69 a0 m = some r) : xFx hh_107 cX12_asksOn d 69 [some (.ref a0)] [] (xLay m) 0 0 none (xLay r) := by
  unfold fX12_asksOn_69 at h
  refine fx_aload_n dX12_asksOn_69 rfl rfl ?_
  refine fx_iconst (x := 1) dX12_asksOn_70 rfl (by decide) ?_
  obtain ⟨p1, ep1, h⟩ := xBind_el h
  refine gx_callv (as := [.int (1 : Int32)]) (r := []) rfl dX12_asksOn_71 ca_12_196 rfl me_93 rfl rfl rfl rfl (ha0.1) rfl (fX12_errs_ok (d := d) (by omega) ha0 ep1) rfl rfl ?_
  exact fX12_asksOn_74_ok hd ha0 h
def fX12_asksOn_0 (a0 : Nat) (m : xMem) : Option xMem := (fX12_isWord a0 (3 : Int32) m).bind fun p1 => if ¬ p1.1 = (0 : Int32) then fX12_asksOn_16 a0 p1.2 else (fX12_isWord a0 (4 : Int32) p1.2).bind fun p3 => if p3.1 = (0 : Int32) then (fX12_top a0 p3.2).bind fun p5 => if ¬ p5.1 = (2 : Int32) then fX12_asksOn_69 a0 p5.2 else (fX12_isSign a0 (59 : Int32) p5.2).bind fun p7 => if p7.1 = (0 : Int32) then fX12_asksOn_69 a0 p7.2 else (fX12_clauseIsOver a0 p7.2).bind fun p9 => fX12_asksOn_74 a0 p9 else fX12_asksOn_16 a0 p3.2
set_option maxRecDepth 4000 in
theorem fX12_asksOn_0_ok {a0 : Nat} {d : Nat} (hd : 4 ≤ d) (ha0 : isModel a0) {m : xMem} {r : xMem} (h : fX12_asksOn_0 a0 m = some r) : xFx hh_107 cX12_asksOn d 0 [some (.ref a0)] [] (xLay m) 0 0 none (xLay r) := by
  unfold fX12_asksOn_0 at h
  refine fx_aload_n dX12_asksOn_0 rfl rfl ?_
  refine fx_iconst (x := 3) dX12_asksOn_1 rfl (by decide) ?_
  obtain ⟨p1, ep1, h⟩ := xBind_el h
  refine gx_callv (as := [.int (3 : Int32)]) (r := []) rfl dX12_asksOn_2 ca_12_218 rfl me_91 rfl rfl rfl rfl (ha0.1) rfl (fX12_isWord_ok (d := d) (by omega) ha0 ep1) rfl rfl ?_
  refine fx_if_ne (t := 16) dX12_asksOn_5 rfl rfl (fun hc2 => ?_) (fun hc2 => ?_)
  · rw [if_pos hc2] at h
    exact fX12_asksOn_16_ok hd ha0 h
  · rw [if_neg hc2] at h
    refine fx_aload_n dX12_asksOn_8 rfl rfl ?_
    refine fx_iconst (x := 4) dX12_asksOn_9 rfl (by decide) ?_
    obtain ⟨p3, ep3, h⟩ := xBind_el h
    refine gx_callv (as := [.int (4 : Int32)]) (r := []) rfl dX12_asksOn_10 ca_12_218 rfl me_91 rfl rfl rfl rfl (ha0.1) rfl (fX12_isWord_ok (d := d) (by omega) ha0 ep3) rfl rfl ?_
    refine fx_if_eq (t := 45) dX12_asksOn_13 rfl rfl (fun hc4 => ?_) (fun hc4 => ?_)
    · rw [if_pos hc4] at h
      refine fx_aload_n dX12_asksOn_45 rfl rfl ?_
      obtain ⟨p5, ep5, h⟩ := xBind_el h
      refine gx_callv (as := []) (r := []) rfl dX12_asksOn_46 ca_12_236 rfl me_98 rfl rfl rfl rfl (ha0.1) rfl (fX12_top_ok (d := d) (by omega) ha0 ep5) rfl rfl ?_
      refine fx_iconst (x := 2) dX12_asksOn_49 rfl (by decide) ?_
      refine fx_icmp_ne (t := 69) dX12_asksOn_50 rfl rfl (fun hc6 => ?_) (fun hc6 => ?_)
      · rw [if_pos hc6] at h
        exact fX12_asksOn_69_ok hd ha0 h
      · rw [if_neg hc6] at h
        refine fx_aload_n dX12_asksOn_53 rfl rfl ?_
        refine fx_bipush (x := 59) dX12_asksOn_54 rfl (by decide) ?_
        obtain ⟨p7, ep7, h⟩ := xBind_el h
        refine gx_callv (as := [.int (59 : Int32)]) (r := []) rfl dX12_asksOn_56 ca_12_233 rfl me_99 rfl rfl rfl rfl (ha0.1) rfl (fX12_isSign_ok (d := d) (by omega) ha0 ep7) rfl rfl ?_
        refine fx_if_eq (t := 69) dX12_asksOn_59 rfl rfl (fun hc8 => ?_) (fun hc8 => ?_)
        · rw [if_pos hc8] at h
          exact fX12_asksOn_69_ok hd ha0 h
        · rw [if_neg hc8] at h
          refine fx_aload_n dX12_asksOn_62 rfl rfl ?_
          obtain ⟨p9, ep9, h⟩ := xBind_el h
          refine gx_callv (as := []) (r := []) rfl dX12_asksOn_63 ca_12_249 rfl me_106 rfl rfl rfl rfl (ha0.1) rfl (fX12_clauseIsOver_ok (d := d) (by omega) ha0 ep9) rfl rfl ?_
          refine fx_goto (t := 74) dX12_asksOn_66 rfl rfl ?_
          exact fX12_asksOn_74_ok hd ha0 h
    · rw [if_neg hc4] at h
      exact fX12_asksOn_16_ok hd ha0 h
def fX12_asksOn (a0 : Nat) (m : xMem) : Option xMem := fX12_asksOn_0 a0  m
theorem fX12_asksOn_ok {a0 : Nat} {m : xMem} {r : xMem} {d : Nat} (hd : 5 ≤ d) (ha0 : isModel a0) (h : fX12_asksOn a0 m = some r) : xEx d 107 [.ref a0] (xLay m) none (xLay r) := by
  obtain ⟨d, rfl⟩ : ∃ q, d = q + 1 := ⟨d - 1, by omega⟩
  exact xEx_of me_107 rfl (fX12_asksOn_0_ok (d := d) (by omega) ha0 h)
def fX12_wasWalk_30 (a0 : Nat) (rec4 : Int32 → Int32 → xMem → Option (Int32 × xMem)) (l2 : Int32) (s0 : Int32) (m : xMem) : Option (Int32 × xMem) := xLet (l2 + (1 : Int32)) fun x1 => rec4 s0 x1 m
set_option maxRecDepth 4000 in
theorem fX12_wasWalk_30_ok {a0 : Nat} {rec4 : Int32 → Int32 → xMem → Option (Int32 × xMem)} {d : Nat} (hd : 0 ≤ d) (ha0 : isModel a0) (hrec4 : ∀ (l1 : Int32) (l2 : Int32) (m : xMem) (r : (Int32 × xMem)), rec4 l1 l2 m = some r → xFx hh_109 cX12_wasWalk d 4 [some (.ref a0), some (.int l1), some (.int l2)] [] (xLay m) 0 0 (some (.int r.1)) (xLay r.2)) {l2 : Int32} {s0 : Int32} {o1 : Option Value} {m : xMem} {r : (Int32 × xMem)} (q1 : xNoD o1 = true) (h : fX12_wasWalk_30 a0 rec4 l2 s0 m = some r) : xFx hh_109 cX12_wasWalk d 30 [some (.ref a0), o1, some (.int l2)] [.int s0] (xLay m) 0 0 (some (.int r.1)) (xLay r.2) := by
  unfold fX12_wasWalk_30 at h
  refine fx_istore_n (ls2 := [some (.ref a0), some (.int s0), some (.int l2)]) dX12_wasWalk_30 rfl rfl rfl ?_
  obtain ⟨x1, hx1, h⟩ := xLet_el h
  refine fx_iinc (ls2 := [some (.ref a0), some (.int s0), some (.int x1)]) dX12_wasWalk_31 rfl rfl rfl hx1 rfl ?_
  refine fx_goto (t := 4) dX12_wasWalk_34 rfl rfl ?_
  exact hrec4 s0 x1 m r h
def fX12_wasWalk_25 (a0 : Nat) (rec4 : Int32 → Int32 → xMem → Option (Int32 × xMem)) (l2 : Int32) (m : xMem) : Option (Int32 × xMem) := fX12_wasWalk_30 a0 rec4 l2 (1 : Int32) m
set_option maxRecDepth 4000 in
theorem fX12_wasWalk_25_ok {a0 : Nat} {rec4 : Int32 → Int32 → xMem → Option (Int32 × xMem)} {d : Nat} (hd : 0 ≤ d) (ha0 : isModel a0) (hrec4 : ∀ (l1 : Int32) (l2 : Int32) (m : xMem) (r : (Int32 × xMem)), rec4 l1 l2 m = some r → xFx hh_109 cX12_wasWalk d 4 [some (.ref a0), some (.int l1), some (.int l2)] [] (xLay m) 0 0 (some (.int r.1)) (xLay r.2)) {l2 : Int32} {o1 : Option Value} {m : xMem} {r : (Int32 × xMem)} (q1 : xNoD o1 = true) (h : fX12_wasWalk_25 a0 rec4 l2 m = some r) : xFx hh_109 cX12_wasWalk d 25 [some (.ref a0), o1, some (.int l2)] [] (xLay m) 0 0 (some (.int r.1)) (xLay r.2) := by
  unfold fX12_wasWalk_25 at h
  refine fx_iconst (x := 1) dX12_wasWalk_25 rfl (by decide) ?_
  refine fx_goto (t := 30) dX12_wasWalk_26 rfl rfl ?_
  exact fX12_wasWalk_30_ok (o1 := o1) hd ha0 hrec4 q1 h
def fX12_wasWalk_4 (a0 : Nat) : Nat → Int32 → Int32 → xMem → Option (Int32 × xMem)
  | 0, _, _, _ => none
  | fuel + 1, l1, l2, m => xLet (m.1 a0 27) fun x1 => if x1 ≤ l2 then bif (decide (l1 = 0) || decide (l1 = 1)) then some (l1, m) else none else if ¬ l1 = (0 : Int32) then fX12_wasWalk_25 a0 (fX12_wasWalk_4 a0 fuel) l2 m else bif xIn l2 10 then xLet (m.1 (a0 + 14) l2.toNatClampNeg) fun x5 => if ¬ x5 = (0 : Int32) then fX12_wasWalk_30 a0 (fX12_wasWalk_4 a0 fuel) l2 (0 : Int32) m else fX12_wasWalk_25 a0 (fX12_wasWalk_4 a0 fuel) l2 m else none
set_option maxRecDepth 4000 in
theorem fX12_wasWalk_4_ok {a0 : Nat} {d : Nat} (hd : 0 ≤ d) (ha0 : isModel a0) : ∀ (fuel : Nat) (l1 : Int32) (l2 : Int32) (m : xMem) (r : (Int32 × xMem)), fX12_wasWalk_4 a0 fuel l1 l2 m = some r → xFx hh_109 cX12_wasWalk d 4 [some (.ref a0), some (.int l1), some (.int l2)] [] (xLay m) 0 0 (some (.int r.1)) (xLay r.2) := by
  intro fuel
  induction fuel with
  | zero => intro l1 l2  m r  h; cases h
  | succ fuel ih =>
    intro l1 l2  m r  h
    unfold fX12_wasWalk_4 at h
    refine fx_iload_n dX12_wasWalk_4 rfl rfl ?_
    refine fx_aload_n dX12_wasWalk_5 rfl rfl ?_
    obtain ⟨x1, hx1, h⟩ := xLet_el h
    refine gx_get dX12_wasWalk_6 rfl fd_12_252 ha0.1 rfl rfl hx1 ?_
    refine fx_icmp_ge (t := 37) dX12_wasWalk_9 rfl rfl (fun hc2 => ?_) (fun hc2 => ?_)
    · rw [if_pos hc2] at h
      refine fx_iload_n dX12_wasWalk_37 rfl rfl ?_
      obtain ⟨hb3, h⟩ := xChk_el h
      cases h
      exact fx_ireturn dX12_wasWalk_38 rfl (by show ((decide _ || decide _) && _) = true; rw [hb3]; rfl)
    · rw [if_neg hc2] at h
      refine fx_iload_n dX12_wasWalk_12 rfl rfl ?_
      refine fx_if_ne (t := 25) dX12_wasWalk_13 rfl rfl (fun hc4 => ?_) (fun hc4 => ?_)
      · rw [if_pos hc4] at h
        exact fX12_wasWalk_25_ok (o1 := some (.int l1)) hd ha0 ih rfl h
      · rw [if_neg hc4] at h
        refine fx_aload_n dX12_wasWalk_16 rfl rfl ?_
        refine gx_getr dX12_wasWalk_17 rfl fd_12_57 ha0.1 rfl rfl ?_
        refine fx_iload_n dX12_wasWalk_20 rfl rfl ?_
        obtain ⟨hj6, h⟩ := xChk_el h
        obtain ⟨x5, hx5, h⟩ := xLet_el h
        refine gx_iaload dX12_wasWalk_21 rfl ha0.2.2.2.2.2.2.2.2.2.2.2.2.2.2.1 hj6 hx5 ?_
        refine fx_if_ne (t := 29) dX12_wasWalk_22 rfl rfl (fun hc7 => ?_) (fun hc7 => ?_)
        · rw [if_pos hc7] at h
          refine fx_iconst (x := 0) dX12_wasWalk_29 rfl (by decide) ?_
          exact fX12_wasWalk_30_ok (o1 := some (.int l1)) hd ha0 ih rfl h
        · rw [if_neg hc7] at h
          exact fX12_wasWalk_25_ok (o1 := some (.int l1)) hd ha0 ih rfl h
def fX12_wasWalk_0 (a0 : Nat) (m : xMem) : Option (Int32 × xMem) := fX12_wasWalk_4 a0 xFuel (0 : Int32) (0 : Int32) m
set_option maxRecDepth 4000 in
theorem fX12_wasWalk_0_ok {a0 : Nat} {d : Nat} (hd : 0 ≤ d) (ha0 : isModel a0) {o1 : Option Value} {o2 : Option Value} {m : xMem} {r : (Int32 × xMem)} (q1 : xNoD o1 = true) (q2 : xNoD o2 = true) (h : fX12_wasWalk_0 a0 m = some r) : xFx hh_109 cX12_wasWalk d 0 [some (.ref a0), o1, o2] [] (xLay m) 0 0 (some (.int r.1)) (xLay r.2) := by
  unfold fX12_wasWalk_0 at h
  refine fx_iconst (x := 0) dX12_wasWalk_0 rfl (by decide) ?_
  refine fx_istore_n (ls2 := [some (.ref a0), some (.int (0 : Int32)), o2]) dX12_wasWalk_1 rfl rfl rfl ?_
  refine fx_iconst (x := 0) dX12_wasWalk_2 rfl (by decide) ?_
  refine fx_istore_n (ls2 := [some (.ref a0), some (.int (0 : Int32)), some (.int (0 : Int32))]) dX12_wasWalk_3 rfl rfl rfl ?_
  exact fX12_wasWalk_4_ok hd ha0 xFuel (0 : Int32) (0 : Int32) m r h
def fX12_wasWalk (a0 : Nat) (m : xMem) : Option (Int32 × xMem) := fX12_wasWalk_0 a0  m
theorem fX12_wasWalk_ok {a0 : Nat} {m : xMem} {r : (Int32 × xMem)} {d : Nat} (hd : 1 ≤ d) (ha0 : isModel a0) (h : fX12_wasWalk a0 m = some r) : xEx d 109 [.ref a0] (xLay m) (some (.int r.1)) (xLay r.2) := by
  obtain ⟨d, rfl⟩ : ∃ q, d = q + 1 := ⟨d - 1, by omega⟩
  exact xEx_of me_109 rfl (fX12_wasWalk_0_ok (d := d) (o1 := none) (o2 := none) (by omega) ha0 rfl rfl h)
def fX12_opensFrame_0 (a0 : Nat) (a1 : Int32) (m : xMem) : Option xMem := xLet (m.1 a0 20) fun x1 => bif xIn x1 40 then xLet (xPut m (a0 + 10) x1.toNatClampNeg a1) fun m2 => xLet (m2.1 a0 20) fun x4 => xLet (x4 + (1 : Int32)) fun x5 => xLet (xPut m2 a0 20 x5) fun m6 => some m6 else none
set_option maxRecDepth 4000 in
theorem fX12_opensFrame_0_ok {a0 : Nat} {a1 : Int32} {d : Nat} (hd : 0 ≤ d) (ha0 : isModel a0) {m : xMem} {r : xMem} (h : fX12_opensFrame_0 a0 a1 m = some r) : xFx hh_94 cX12_opensFrame d 0 [some (.ref a0), some (.int a1)] [] (xLay m) 0 0 none (xLay r) := by
  unfold fX12_opensFrame_0 at h
  refine fx_aload_n dX12_opensFrame_0 rfl rfl ?_
  refine gx_getr dX12_opensFrame_1 rfl fd_12_45 ha0.1 rfl rfl ?_
  refine fx_aload_n dX12_opensFrame_4 rfl rfl ?_
  obtain ⟨x1, hx1, h⟩ := xLet_el h
  refine gx_get dX12_opensFrame_5 rfl fd_12_190 ha0.1 rfl rfl hx1 ?_
  refine fx_iload_n dX12_opensFrame_8 rfl rfl ?_
  obtain ⟨hj3, h⟩ := xChk_el h
  obtain ⟨m2, hm2, h⟩ := xLet_el h
  refine gx_iastore dX12_opensFrame_9 rfl ha0.2.2.2.2.2.2.2.2.2.2.1 hj3 hm2 ?_
  refine fx_aload_n dX12_opensFrame_10 rfl rfl ?_
  refine fx_dup dX12_opensFrame_11 rfl rfl ?_
  obtain ⟨x4, hx4, h⟩ := xLet_el h
  refine gx_get dX12_opensFrame_12 rfl fd_12_190 ha0.1 rfl rfl hx4 ?_
  refine fx_iconst (x := 1) dX12_opensFrame_15 rfl (by decide) ?_
  obtain ⟨x5, hx5, h⟩ := xLet_el h
  refine fx_iadd dX12_opensFrame_16 rfl hx5 ?_
  obtain ⟨m6, hm6, h⟩ := xLet_el h
  refine gx_put dX12_opensFrame_17 rfl fd_12_190 ha0.1 rfl rfl rfl hm6 ?_
  cases h
  exact fx_return dX12_opensFrame_20 rfl rfl
def fX12_opensFrame (a0 : Nat) (a1 : Int32) (m : xMem) : Option xMem := fX12_opensFrame_0 a0 a1  m
theorem fX12_opensFrame_ok {a0 : Nat} {a1 : Int32} {m : xMem} {r : xMem} {d : Nat} (hd : 1 ≤ d) (ha0 : isModel a0) (h : fX12_opensFrame a0 a1 m = some r) : xEx d 94 [.ref a0, .int a1] (xLay m) none (xLay r) := by
  obtain ⟨d, rfl⟩ : ∃ q, d = q + 1 := ⟨d - 1, by omega⟩
  exact xEx_of me_94 rfl (fX12_opensFrame_0_ok (d := d) (by omega) ha0 h)
def fX12_clause_16 (a0 : Nat) (m : xMem) : Option xMem := (fX12_errs a0 (1 : Int32) m).bind fun p1 => some p1
set_option maxRecDepth 4000 in
theorem fX12_clause_16_ok {a0 : Nat} {d : Nat} (hd : 3 ≤ d) (ha0 : isModel a0) {m : xMem} {r : xMem} (h : fX12_clause_16 a0 m = some r) : xFx hh_108 cX12_clause d 16 [some (.ref a0)] [] (xLay m) 0 0 none (xLay r) := by
  unfold fX12_clause_16 at h
  refine fx_aload_n dX12_clause_16 rfl rfl ?_
  refine fx_iconst (x := 1) dX12_clause_17 rfl (by decide) ?_
  obtain ⟨p1, ep1, h⟩ := xBind_el h
  refine gx_callv (as := [.int (1 : Int32)]) (r := []) rfl dX12_clause_18 ca_12_196 rfl me_93 rfl rfl rfl rfl (ha0.1) rfl (fX12_errs_ok (d := d) (by omega) ha0 ep1) rfl rfl ?_
  cases h
  exact fx_return dX12_clause_21 rfl rfl
def fX12_clause_134 (a0 : Nat) (s0 : Nat) (s1 : Int32) (m : xMem) : Option xMem := xLet (xPut m s0 26 s1) fun m1 => some m1
set_option maxRecDepth 4000 in
theorem fX12_clause_134_ok {a0 : Nat} {d : Nat} (hd : 3 ≤ d) (ha0 : isModel a0) {s0 : Nat} {s1 : Int32} {m : xMem} {r : xMem} (hs0 : isModel s0) (h : fX12_clause_134 a0 s0 s1 m = some r) : xFx hh_108 cX12_clause d 134 [some (.ref a0)] [.int s1, .ref s0] (xLay m) 0 0 none (xLay r) := by
  unfold fX12_clause_134 at h
  obtain ⟨m1, hm1, h⟩ := xLet_el h
  refine gx_put dX12_clause_134 rfl fd_12_224 hs0.1 rfl rfl rfl hm1 ?_
  cases h
  exact fx_return dX12_clause_137 rfl rfl
def fX12_clause_118 (a0 : Nat) (s0 : Nat) (s1 : Int32) (m : xMem) : Option xMem := (fX12_opensFrame s0 s1 m).bind fun p1 => xLet (p1.1 a0 28) fun x2 => if ¬ x2 = (0 : Int32) then fX12_clause_134 a0 a0 (0 : Int32) p1 else fX12_clause_134 a0 a0 (1 : Int32) p1
set_option maxRecDepth 4000 in
theorem fX12_clause_118_ok {a0 : Nat} {d : Nat} (hd : 3 ≤ d) (ha0 : isModel a0) {s0 : Nat} {s1 : Int32} {m : xMem} {r : xMem} (hs0 : isModel s0) (h : fX12_clause_118 a0 s0 s1 m = some r) : xFx hh_108 cX12_clause d 118 [some (.ref a0)] [.int s1, .ref s0] (xLay m) 0 0 none (xLay r) := by
  unfold fX12_clause_118 at h
  obtain ⟨p1, ep1, h⟩ := xBind_el h
  refine gx_callv (as := [.int s1]) (r := []) rfl dX12_clause_118 ca_12_199 rfl me_94 rfl rfl rfl rfl (hs0.1) rfl (fX12_opensFrame_ok (d := d) (by omega) hs0 ep1) rfl rfl ?_
  refine fx_aload_n dX12_clause_121 rfl rfl ?_
  refine fx_aload_n dX12_clause_122 rfl rfl ?_
  obtain ⟨x2, hx2, h⟩ := xLet_el h
  refine gx_get dX12_clause_123 rfl fd_12_230 ha0.1 rfl rfl hx2 ?_
  refine fx_if_ne (t := 133) dX12_clause_126 rfl rfl (fun hc3 => ?_) (fun hc3 => ?_)
  · rw [if_pos hc3] at h
    refine fx_iconst (x := 0) dX12_clause_133 rfl (by decide) ?_
    exact fX12_clause_134_ok hd ha0 ha0 h
  · rw [if_neg hc3] at h
    refine fx_iconst (x := 1) dX12_clause_129 rfl (by decide) ?_
    refine fx_goto (t := 134) dX12_clause_130 rfl rfl ?_
    exact fX12_clause_134_ok hd ha0 ha0 h
def fX12_clause_67 (a0 : Nat) (m : xMem) : Option xMem := xLet (m.1 a0 17) fun x1 => if x1 ≤ (0 : Int32) then xLet (m.1 a0 27) fun x3 => xLet (m.1 a0 28) fun x4 => bif xIn x3 10 then xLet (xPut m (a0 + 14) x3.toNatClampNeg x4) fun m5 => xLet (m5.1 a0 27) fun x7 => xLet (m5.1 a0 31) fun x8 => bif xIn x7 10 then xLet (xPut m5 (a0 + 15) x7.toNatClampNeg x8) fun m9 => (fX12_next a0 m9).bind fun p11 => xLet (p11.1 a0 28) fun x12 => if ¬ x12 = (0 : Int32) then fX12_clause_118 a0 a0 (2 : Int32) p11 else fX12_clause_118 a0 a0 (1 : Int32) p11 else none else none else some m
set_option maxRecDepth 4000 in
theorem fX12_clause_67_ok {a0 : Nat} {d : Nat} (hd : 3 ≤ d) (ha0 : isModel a0) {m : xMem} {r : xMem} (h : fX12_clause_67 a0 m = some r) : xFx hh_108 cX12_clause d 67 [some (.ref a0)] [] (xLay m) 0 0 none (xLay r) := by
  unfold fX12_clause_67 at h
  refine fx_aload_n dX12_clause_67 rfl rfl ?_
  obtain ⟨x1, hx1, h⟩ := xLet_el h
  refine gx_get dX12_clause_68 rfl fd_12_181 ha0.1 rfl rfl hx1 ?_
  refine fx_if_le (t := 75) dX12_clause_71 rfl rfl (fun hc2 => ?_) (fun hc2 => ?_)
  · rw [if_pos hc2] at h
    refine fx_aload_n dX12_clause_75 rfl rfl ?_
    refine gx_getr dX12_clause_76 rfl fd_12_57 ha0.1 rfl rfl ?_
    refine fx_aload_n dX12_clause_79 rfl rfl ?_
    obtain ⟨x3, hx3, h⟩ := xLet_el h
    refine gx_get dX12_clause_80 rfl fd_12_252 ha0.1 rfl rfl hx3 ?_
    refine fx_aload_n dX12_clause_83 rfl rfl ?_
    obtain ⟨x4, hx4, h⟩ := xLet_el h
    refine gx_get dX12_clause_84 rfl fd_12_230 ha0.1 rfl rfl hx4 ?_
    obtain ⟨hj6, h⟩ := xChk_el h
    obtain ⟨m5, hm5, h⟩ := xLet_el h
    refine gx_iastore dX12_clause_87 rfl ha0.2.2.2.2.2.2.2.2.2.2.2.2.2.2.1 hj6 hm5 ?_
    refine fx_aload_n dX12_clause_88 rfl rfl ?_
    refine gx_getr dX12_clause_89 rfl fd_12_60 ha0.1 rfl rfl ?_
    refine fx_aload_n dX12_clause_92 rfl rfl ?_
    obtain ⟨x7, hx7, h⟩ := xLet_el h
    refine gx_get dX12_clause_93 rfl fd_12_252 ha0.1 rfl rfl hx7 ?_
    refine fx_aload_n dX12_clause_96 rfl rfl ?_
    obtain ⟨x8, hx8, h⟩ := xLet_el h
    refine gx_get dX12_clause_97 rfl fd_12_187 ha0.1 rfl rfl hx8 ?_
    obtain ⟨hj10, h⟩ := xChk_el h
    obtain ⟨m9, hm9, h⟩ := xLet_el h
    refine gx_iastore dX12_clause_100 rfl ha0.2.2.2.2.2.2.2.2.2.2.2.2.2.2.2.1 hj10 hm9 ?_
    refine fx_aload_n dX12_clause_101 rfl rfl ?_
    obtain ⟨p11, ep11, h⟩ := xBind_el h
    refine gx_callv (as := []) (r := []) rfl dX12_clause_102 ca_12_202 rfl me_87 rfl rfl rfl rfl (ha0.1) rfl (fX12_next_ok (d := d) (by omega) ha0 ep11) rfl rfl ?_
    refine fx_aload_n dX12_clause_105 rfl rfl ?_
    refine fx_aload_n dX12_clause_106 rfl rfl ?_
    obtain ⟨x12, hx12, h⟩ := xLet_el h
    refine gx_get dX12_clause_107 rfl fd_12_230 ha0.1 rfl rfl hx12 ?_
    refine fx_if_ne (t := 117) dX12_clause_110 rfl rfl (fun hc13 => ?_) (fun hc13 => ?_)
    · rw [if_pos hc13] at h
      refine fx_iconst (x := 2) dX12_clause_117 rfl (by decide) ?_
      exact fX12_clause_118_ok hd ha0 ha0 h
    · rw [if_neg hc13] at h
      refine fx_iconst (x := 1) dX12_clause_113 rfl (by decide) ?_
      refine fx_goto (t := 118) dX12_clause_114 rfl rfl ?_
      exact fX12_clause_118_ok hd ha0 ha0 h
  · rw [if_neg hc2] at h
    cases h
    exact fx_return dX12_clause_74 rfl rfl
def fX12_clause_52 (a0 : Nat) (m : xMem) : Option xMem := xLet (m.1 a0 27) fun x1 => if ¬ x1 = (10 : Int32) then fX12_clause_67 a0 m else (fX12_errs a0 (6 : Int32) m).bind fun p3 => fX12_clause_67 a0 p3
set_option maxRecDepth 4000 in
theorem fX12_clause_52_ok {a0 : Nat} {d : Nat} (hd : 3 ≤ d) (ha0 : isModel a0) {m : xMem} {r : xMem} (h : fX12_clause_52 a0 m = some r) : xFx hh_108 cX12_clause d 52 [some (.ref a0)] [] (xLay m) 0 0 none (xLay r) := by
  unfold fX12_clause_52 at h
  refine fx_aload_n dX12_clause_52 rfl rfl ?_
  obtain ⟨x1, hx1, h⟩ := xLet_el h
  refine gx_get dX12_clause_53 rfl fd_12_252 ha0.1 rfl rfl hx1 ?_
  refine fx_bipush (x := 10) dX12_clause_56 rfl (by decide) ?_
  refine fx_icmp_ne (t := 67) dX12_clause_58 rfl rfl (fun hc2 => ?_) (fun hc2 => ?_)
  · rw [if_pos hc2] at h
    exact fX12_clause_67_ok hd ha0 h
  · rw [if_neg hc2] at h
    refine fx_aload_n dX12_clause_61 rfl rfl ?_
    refine fx_bipush (x := 6) dX12_clause_62 rfl (by decide) ?_
    obtain ⟨p3, ep3, h⟩ := xBind_el h
    refine gx_callv (as := [.int (6 : Int32)]) (r := []) rfl dX12_clause_64 ca_12_196 rfl me_93 rfl rfl rfl rfl (ha0.1) rfl (fX12_errs_ok (d := d) (by omega) ha0 ep3) rfl rfl ?_
    exact fX12_clause_67_ok hd ha0 h
def fX12_clause_0 (a0 : Nat) (m : xMem) : Option xMem := xLet (m.1 a0 15) fun x1 => if ¬ x1 = (1 : Int32) then fX12_clause_16 a0 m else xLet (m.1 a0 16) fun x3 => if x3 ≤ (2 : Int32) then xLet (m.1 a0 16) fun x5 => xLet (xPut m a0 28 x5) fun m6 => xLet (m6.1 a0 28) fun x7 => if ¬ x7 = (0 : Int32) then fX12_clause_52 a0 m6 else (fX12_wasWalk a0 m6).bind fun p9 => if p9.1 = (0 : Int32) then fX12_clause_52 a0 p9.2 else (fX12_errs a0 (4 : Int32) p9.2).bind fun p11 => fX12_clause_67 a0 p11 else fX12_clause_16 a0 m
set_option maxRecDepth 4000 in
theorem fX12_clause_0_ok {a0 : Nat} {d : Nat} (hd : 3 ≤ d) (ha0 : isModel a0) {m : xMem} {r : xMem} (h : fX12_clause_0 a0 m = some r) : xFx hh_108 cX12_clause d 0 [some (.ref a0)] [] (xLay m) 0 0 none (xLay r) := by
  unfold fX12_clause_0 at h
  refine fx_aload_n dX12_clause_0 rfl rfl ?_
  obtain ⟨x1, hx1, h⟩ := xLet_el h
  refine gx_get dX12_clause_1 rfl fd_12_166 ha0.1 rfl rfl hx1 ?_
  refine fx_iconst (x := 1) dX12_clause_4 rfl (by decide) ?_
  refine fx_icmp_ne (t := 16) dX12_clause_5 rfl rfl (fun hc2 => ?_) (fun hc2 => ?_)
  · rw [if_pos hc2] at h
    exact fX12_clause_16_ok hd ha0 h
  · rw [if_neg hc2] at h
    refine fx_aload_n dX12_clause_8 rfl rfl ?_
    obtain ⟨x3, hx3, h⟩ := xLet_el h
    refine gx_get dX12_clause_9 rfl fd_12_178 ha0.1 rfl rfl hx3 ?_
    refine fx_iconst (x := 2) dX12_clause_12 rfl (by decide) ?_
    refine fx_icmp_le (t := 22) dX12_clause_13 rfl rfl (fun hc4 => ?_) (fun hc4 => ?_)
    · rw [if_pos hc4] at h
      refine fx_aload_n dX12_clause_22 rfl rfl ?_
      refine fx_aload_n dX12_clause_23 rfl rfl ?_
      obtain ⟨x5, hx5, h⟩ := xLet_el h
      refine gx_get dX12_clause_24 rfl fd_12_178 ha0.1 rfl rfl hx5 ?_
      obtain ⟨m6, hm6, h⟩ := xLet_el h
      refine gx_put dX12_clause_27 rfl fd_12_230 ha0.1 rfl rfl rfl hm6 ?_
      refine fx_aload_n dX12_clause_30 rfl rfl ?_
      obtain ⟨x7, hx7, h⟩ := xLet_el h
      refine gx_get dX12_clause_31 rfl fd_12_230 ha0.1 rfl rfl hx7 ?_
      refine fx_if_ne (t := 52) dX12_clause_34 rfl rfl (fun hc8 => ?_) (fun hc8 => ?_)
      · rw [if_pos hc8] at h
        exact fX12_clause_52_ok hd ha0 h
      · rw [if_neg hc8] at h
        refine fx_aload_n dX12_clause_37 rfl rfl ?_
        obtain ⟨p9, ep9, h⟩ := xBind_el h
        refine gx_callv (as := []) (r := []) rfl dX12_clause_38 ca_12_255 rfl me_109 rfl rfl rfl rfl (ha0.1) rfl (fX12_wasWalk_ok (d := d) (by omega) ha0 ep9) rfl rfl ?_
        refine fx_if_eq (t := 52) dX12_clause_41 rfl rfl (fun hc10 => ?_) (fun hc10 => ?_)
        · rw [if_pos hc10] at h
          exact fX12_clause_52_ok hd ha0 h
        · rw [if_neg hc10] at h
          refine fx_aload_n dX12_clause_44 rfl rfl ?_
          refine fx_iconst (x := 4) dX12_clause_45 rfl (by decide) ?_
          obtain ⟨p11, ep11, h⟩ := xBind_el h
          refine gx_callv (as := [.int (4 : Int32)]) (r := []) rfl dX12_clause_46 ca_12_196 rfl me_93 rfl rfl rfl rfl (ha0.1) rfl (fX12_errs_ok (d := d) (by omega) ha0 ep11) rfl rfl ?_
          refine fx_goto (t := 67) dX12_clause_49 rfl rfl ?_
          exact fX12_clause_67_ok hd ha0 h
    · rw [if_neg hc4] at h
      exact fX12_clause_16_ok hd ha0 h
def fX12_clause (a0 : Nat) (m : xMem) : Option xMem := fX12_clause_0 a0  m
theorem fX12_clause_ok {a0 : Nat} {m : xMem} {r : xMem} {d : Nat} (hd : 4 ≤ d) (ha0 : isModel a0) (h : fX12_clause a0 m = some r) : xEx d 108 [.ref a0] (xLay m) none (xLay r) := by
  obtain ⟨d, rfl⟩ : ∃ q, d = q + 1 := ⟨d - 1, by omega⟩
  exact xEx_of me_108 rfl (fX12_clause_0_ok (d := d) (by omega) ha0 h)
def fX12_keepsText_68 (a0 : Nat) (a1 : Int32) : Nat → Int32 → xMem → Option xMem
  | 0, _, _ => none
  | fuel + 1, l2, m => xLet (m.1 a0 31) fun x1 => if x1 ≤ l2 then some m else xLet ((400 : Int32) * a1) fun x3 => xLet (x3 + l2) fun x4 => bif xIn l2 400 then xLet (m.1 (a0 + 16) l2.toNatClampNeg) fun x5 => bif xIn x4 1600 then xLet (xPut m (a0 + 8) x4.toNatClampNeg x5) fun m7 => xLet ((400 : Int32) * a1) fun x9 => xLet (x9 + l2) fun x10 => bif xIn l2 400 then xLet (m7.1 (a0 + 17) l2.toNatClampNeg) fun x11 => bif xIn x10 1600 then xLet (xPut m7 (a0 + 9) x10.toNatClampNeg x11) fun m13 => xLet (l2 + (1 : Int32)) fun x15 => fX12_keepsText_68 a0 a1 fuel x15 m13 else none else none else none else none
set_option maxRecDepth 4000 in
theorem fX12_keepsText_68_ok {a0 : Nat} {a1 : Int32} {d : Nat} (hd : 0 ≤ d) (ha0 : isModel a0) : ∀ (fuel : Nat) (l2 : Int32) (m : xMem) (r : xMem), fX12_keepsText_68 a0 a1 fuel l2 m = some r → xFx hh_110 cX12_keepsText d 68 [some (.ref a0), some (.int a1), some (.int l2)] [] (xLay m) 0 0 none (xLay r) := by
  intro fuel
  induction fuel with
  | zero => intro l2  m r  h; cases h
  | succ fuel ih =>
    intro l2  m r  h
    unfold fX12_keepsText_68 at h
    refine fx_iload_n dX12_keepsText_68 rfl rfl ?_
    refine fx_aload_n dX12_keepsText_69 rfl rfl ?_
    obtain ⟨x1, hx1, h⟩ := xLet_el h
    refine gx_get dX12_keepsText_70 rfl fd_12_187 ha0.1 rfl rfl hx1 ?_
    refine fx_icmp_ge (t := 118) dX12_keepsText_73 rfl rfl (fun hc2 => ?_) (fun hc2 => ?_)
    · rw [if_pos hc2] at h
      cases h
      exact fx_return dX12_keepsText_118 rfl rfl
    · rw [if_neg hc2] at h
      refine fx_aload_n dX12_keepsText_76 rfl rfl ?_
      refine gx_getr dX12_keepsText_77 rfl fd_12_39 ha0.1 rfl rfl ?_
      refine fx_sipush (x := 400) dX12_keepsText_80 rfl (by decide) ?_
      refine fx_iload_n dX12_keepsText_83 rfl rfl ?_
      obtain ⟨x3, hx3, h⟩ := xLet_el h
      refine fx_imul dX12_keepsText_84 rfl hx3 ?_
      refine fx_iload_n dX12_keepsText_85 rfl rfl ?_
      obtain ⟨x4, hx4, h⟩ := xLet_el h
      refine fx_iadd dX12_keepsText_86 rfl hx4 ?_
      refine fx_aload_n dX12_keepsText_87 rfl rfl ?_
      refine gx_getr dX12_keepsText_88 rfl fd_12_63 ha0.1 rfl rfl ?_
      refine fx_iload_n dX12_keepsText_91 rfl rfl ?_
      obtain ⟨hj6, h⟩ := xChk_el h
      obtain ⟨x5, hx5, h⟩ := xLet_el h
      refine gx_iaload dX12_keepsText_92 rfl ha0.2.2.2.2.2.2.2.2.2.2.2.2.2.2.2.2.1 hj6 hx5 ?_
      obtain ⟨hj8, h⟩ := xChk_el h
      obtain ⟨m7, hm7, h⟩ := xLet_el h
      refine gx_iastore dX12_keepsText_93 rfl ha0.2.2.2.2.2.2.2.2.1 hj8 hm7 ?_
      refine fx_aload_n dX12_keepsText_94 rfl rfl ?_
      refine gx_getr dX12_keepsText_95 rfl fd_12_42 ha0.1 rfl rfl ?_
      refine fx_sipush (x := 400) dX12_keepsText_98 rfl (by decide) ?_
      refine fx_iload_n dX12_keepsText_101 rfl rfl ?_
      obtain ⟨x9, hx9, h⟩ := xLet_el h
      refine fx_imul dX12_keepsText_102 rfl hx9 ?_
      refine fx_iload_n dX12_keepsText_103 rfl rfl ?_
      obtain ⟨x10, hx10, h⟩ := xLet_el h
      refine fx_iadd dX12_keepsText_104 rfl hx10 ?_
      refine fx_aload_n dX12_keepsText_105 rfl rfl ?_
      refine gx_getr dX12_keepsText_106 rfl fd_12_66 ha0.1 rfl rfl ?_
      refine fx_iload_n dX12_keepsText_109 rfl rfl ?_
      obtain ⟨hj12, h⟩ := xChk_el h
      obtain ⟨x11, hx11, h⟩ := xLet_el h
      refine gx_iaload dX12_keepsText_110 rfl ha0.2.2.2.2.2.2.2.2.2.2.2.2.2.2.2.2.2.1 hj12 hx11 ?_
      obtain ⟨hj14, h⟩ := xChk_el h
      obtain ⟨m13, hm13, h⟩ := xLet_el h
      refine gx_iastore dX12_keepsText_111 rfl ha0.2.2.2.2.2.2.2.2.2.1 hj14 hm13 ?_
      obtain ⟨x15, hx15, h⟩ := xLet_el h
      refine fx_iinc (ls2 := [some (.ref a0), some (.int a1), some (.int x15)]) dX12_keepsText_112 rfl rfl rfl hx15 rfl ?_
      refine fx_goto (t := 68) dX12_keepsText_115 rfl rfl ?_
      exact ih x15 m13 r h
def fX12_keepsText_12 (a0 : Nat) (a1 : Int32) : Nat → Int32 → xMem → Option xMem
  | 0, _, _ => none
  | fuel + 1, l2, m => xLet (m.1 a0 27) fun x1 => if x1 ≤ l2 then fX12_keepsText_68 a0 a1 xFuel (0 : Int32) m else xLet ((10 : Int32) * a1) fun x3 => xLet (x3 + l2) fun x4 => bif xIn l2 10 then xLet (m.1 (a0 + 14) l2.toNatClampNeg) fun x5 => bif xIn x4 40 then xLet (xPut m (a0 + 6) x4.toNatClampNeg x5) fun m7 => xLet ((10 : Int32) * a1) fun x9 => xLet (x9 + l2) fun x10 => xLet ((400 : Int32) * a1) fun x11 => bif xIn l2 10 then xLet (m7.1 (a0 + 15) l2.toNatClampNeg) fun x12 => xLet (x11 + x12) fun x14 => bif xIn x10 40 then xLet (xPut m7 (a0 + 7) x10.toNatClampNeg x14) fun m15 => xLet (l2 + (1 : Int32)) fun x17 => fX12_keepsText_12 a0 a1 fuel x17 m15 else none else none else none else none
set_option maxRecDepth 4000 in
theorem fX12_keepsText_12_ok {a0 : Nat} {a1 : Int32} {d : Nat} (hd : 0 ≤ d) (ha0 : isModel a0) : ∀ (fuel : Nat) (l2 : Int32) (m : xMem) (r : xMem), fX12_keepsText_12 a0 a1 fuel l2 m = some r → xFx hh_110 cX12_keepsText d 12 [some (.ref a0), some (.int a1), some (.int l2)] [] (xLay m) 0 0 none (xLay r) := by
  intro fuel
  induction fuel with
  | zero => intro l2  m r  h; cases h
  | succ fuel ih =>
    intro l2  m r  h
    unfold fX12_keepsText_12 at h
    refine fx_iload_n dX12_keepsText_12 rfl rfl ?_
    refine fx_aload_n dX12_keepsText_13 rfl rfl ?_
    obtain ⟨x1, hx1, h⟩ := xLet_el h
    refine gx_get dX12_keepsText_14 rfl fd_12_252 ha0.1 rfl rfl hx1 ?_
    refine fx_icmp_ge (t := 66) dX12_keepsText_17 rfl rfl (fun hc2 => ?_) (fun hc2 => ?_)
    · rw [if_pos hc2] at h
      refine fx_iconst (x := 0) dX12_keepsText_66 rfl (by decide) ?_
      refine fx_istore_n (ls2 := [some (.ref a0), some (.int a1), some (.int (0 : Int32))]) dX12_keepsText_67 rfl rfl rfl ?_
      exact fX12_keepsText_68_ok hd ha0 xFuel (0 : Int32) m r h
    · rw [if_neg hc2] at h
      refine fx_aload_n dX12_keepsText_20 rfl rfl ?_
      refine gx_getr dX12_keepsText_21 rfl fd_12_33 ha0.1 rfl rfl ?_
      refine fx_bipush (x := 10) dX12_keepsText_24 rfl (by decide) ?_
      refine fx_iload_n dX12_keepsText_26 rfl rfl ?_
      obtain ⟨x3, hx3, h⟩ := xLet_el h
      refine fx_imul dX12_keepsText_27 rfl hx3 ?_
      refine fx_iload_n dX12_keepsText_28 rfl rfl ?_
      obtain ⟨x4, hx4, h⟩ := xLet_el h
      refine fx_iadd dX12_keepsText_29 rfl hx4 ?_
      refine fx_aload_n dX12_keepsText_30 rfl rfl ?_
      refine gx_getr dX12_keepsText_31 rfl fd_12_57 ha0.1 rfl rfl ?_
      refine fx_iload_n dX12_keepsText_34 rfl rfl ?_
      obtain ⟨hj6, h⟩ := xChk_el h
      obtain ⟨x5, hx5, h⟩ := xLet_el h
      refine gx_iaload dX12_keepsText_35 rfl ha0.2.2.2.2.2.2.2.2.2.2.2.2.2.2.1 hj6 hx5 ?_
      obtain ⟨hj8, h⟩ := xChk_el h
      obtain ⟨m7, hm7, h⟩ := xLet_el h
      refine gx_iastore dX12_keepsText_36 rfl ha0.2.2.2.2.2.2.1 hj8 hm7 ?_
      refine fx_aload_n dX12_keepsText_37 rfl rfl ?_
      refine gx_getr dX12_keepsText_38 rfl fd_12_36 ha0.1 rfl rfl ?_
      refine fx_bipush (x := 10) dX12_keepsText_41 rfl (by decide) ?_
      refine fx_iload_n dX12_keepsText_43 rfl rfl ?_
      obtain ⟨x9, hx9, h⟩ := xLet_el h
      refine fx_imul dX12_keepsText_44 rfl hx9 ?_
      refine fx_iload_n dX12_keepsText_45 rfl rfl ?_
      obtain ⟨x10, hx10, h⟩ := xLet_el h
      refine fx_iadd dX12_keepsText_46 rfl hx10 ?_
      refine fx_sipush (x := 400) dX12_keepsText_47 rfl (by decide) ?_
      refine fx_iload_n dX12_keepsText_50 rfl rfl ?_
      obtain ⟨x11, hx11, h⟩ := xLet_el h
      refine fx_imul dX12_keepsText_51 rfl hx11 ?_
      refine fx_aload_n dX12_keepsText_52 rfl rfl ?_
      refine gx_getr dX12_keepsText_53 rfl fd_12_60 ha0.1 rfl rfl ?_
      refine fx_iload_n dX12_keepsText_56 rfl rfl ?_
      obtain ⟨hj13, h⟩ := xChk_el h
      obtain ⟨x12, hx12, h⟩ := xLet_el h
      refine gx_iaload dX12_keepsText_57 rfl ha0.2.2.2.2.2.2.2.2.2.2.2.2.2.2.2.1 hj13 hx12 ?_
      obtain ⟨x14, hx14, h⟩ := xLet_el h
      refine fx_iadd dX12_keepsText_58 rfl hx14 ?_
      obtain ⟨hj16, h⟩ := xChk_el h
      obtain ⟨m15, hm15, h⟩ := xLet_el h
      refine gx_iastore dX12_keepsText_59 rfl ha0.2.2.2.2.2.2.2.1 hj16 hm15 ?_
      obtain ⟨x17, hx17, h⟩ := xLet_el h
      refine fx_iinc (ls2 := [some (.ref a0), some (.int a1), some (.int x17)]) dX12_keepsText_60 rfl rfl rfl hx17 rfl ?_
      refine fx_goto (t := 12) dX12_keepsText_63 rfl rfl ?_
      exact ih x17 m15 r h
def fX12_keepsText_0 (a0 : Nat) (a1 : Int32) (m : xMem) : Option xMem := xLet (m.1 a0 27) fun x1 => bif xIn a1 4 then xLet (xPut m (a0 + 5) a1.toNatClampNeg x1) fun m2 => fX12_keepsText_12 a0 a1 xFuel (0 : Int32) m2 else none
set_option maxRecDepth 4000 in
theorem fX12_keepsText_0_ok {a0 : Nat} {a1 : Int32} {d : Nat} (hd : 0 ≤ d) (ha0 : isModel a0) {o2 : Option Value} {m : xMem} {r : xMem} (q2 : xNoD o2 = true) (h : fX12_keepsText_0 a0 a1 m = some r) : xFx hh_110 cX12_keepsText d 0 [some (.ref a0), some (.int a1), o2] [] (xLay m) 0 0 none (xLay r) := by
  unfold fX12_keepsText_0 at h
  refine fx_aload_n dX12_keepsText_0 rfl rfl ?_
  refine gx_getr dX12_keepsText_1 rfl fd_12_30 ha0.1 rfl rfl ?_
  refine fx_iload_n dX12_keepsText_4 rfl rfl ?_
  refine fx_aload_n dX12_keepsText_5 rfl rfl ?_
  obtain ⟨x1, hx1, h⟩ := xLet_el h
  refine gx_get dX12_keepsText_6 rfl fd_12_252 ha0.1 rfl rfl hx1 ?_
  obtain ⟨hj3, h⟩ := xChk_el h
  obtain ⟨m2, hm2, h⟩ := xLet_el h
  refine gx_iastore dX12_keepsText_9 rfl ha0.2.2.2.2.2.1 hj3 hm2 ?_
  refine fx_iconst (x := 0) dX12_keepsText_10 rfl (by decide) ?_
  refine fx_istore_n (ls2 := [some (.ref a0), some (.int a1), some (.int (0 : Int32))]) dX12_keepsText_11 rfl rfl rfl ?_
  exact fX12_keepsText_12_ok hd ha0 xFuel (0 : Int32) m2 r h
def fX12_keepsText (a0 : Nat) (a1 : Int32) (m : xMem) : Option xMem := fX12_keepsText_0 a0 a1  m
theorem fX12_keepsText_ok {a0 : Nat} {a1 : Int32} {m : xMem} {r : xMem} {d : Nat} (hd : 1 ≤ d) (ha0 : isModel a0) (h : fX12_keepsText a0 a1 m = some r) : xEx d 110 [.ref a0, .int a1] (xLay m) none (xLay r) := by
  obtain ⟨d, rfl⟩ : ∃ q, d = q + 1 := ⟨d - 1, by omega⟩
  exact xEx_of me_110 rfl (fX12_keepsText_0_ok (d := d) (o2 := none) (by omega) ha0 rfl h)
def fX12_opensSign_0 (a0 : Nat) (a1 : Int32) (m : xMem) : Option (Int32 × xMem) := xLet (m.1 a0 19) fun x1 => if ¬ x1 = (8 : Int32) then xLet (m.1 a0 19) fun x3 => xLet (x3 + (1 : Int32)) fun x4 => xLet (xPut m a0 19 x4) fun m5 => (fX12_opensFrame a0 a1 m5).bind fun p6 => (fX12_next a0 p6).bind fun p7 => some ((1 : Int32), p7) else (fX12_errs a0 (3 : Int32) m).bind fun p8 => some ((0 : Int32), p8)
set_option maxRecDepth 4000 in
theorem fX12_opensSign_0_ok {a0 : Nat} {a1 : Int32} {d : Nat} (hd : 3 ≤ d) (ha0 : isModel a0) {m : xMem} {r : (Int32 × xMem)} (h : fX12_opensSign_0 a0 a1 m = some r) : xFx hh_92 cX12_opensSign d 0 [some (.ref a0), some (.int a1)] [] (xLay m) 0 0 (some (.int r.1)) (xLay r.2) := by
  unfold fX12_opensSign_0 at h
  refine fx_aload_n dX12_opensSign_0 rfl rfl ?_
  obtain ⟨x1, hx1, h⟩ := xLet_el h
  refine gx_get dX12_opensSign_1 rfl fd_12_193 ha0.1 rfl rfl hx1 ?_
  refine fx_bipush (x := 8) dX12_opensSign_4 rfl (by decide) ?_
  refine fx_icmp_ne (t := 16) dX12_opensSign_6 rfl rfl (fun hc2 => ?_) (fun hc2 => ?_)
  · rw [if_pos hc2] at h
    refine fx_aload_n dX12_opensSign_16 rfl rfl ?_
    refine fx_dup dX12_opensSign_17 rfl rfl ?_
    obtain ⟨x3, hx3, h⟩ := xLet_el h
    refine gx_get dX12_opensSign_18 rfl fd_12_193 ha0.1 rfl rfl hx3 ?_
    refine fx_iconst (x := 1) dX12_opensSign_21 rfl (by decide) ?_
    obtain ⟨x4, hx4, h⟩ := xLet_el h
    refine fx_iadd dX12_opensSign_22 rfl hx4 ?_
    obtain ⟨m5, hm5, h⟩ := xLet_el h
    refine gx_put dX12_opensSign_23 rfl fd_12_193 ha0.1 rfl rfl rfl hm5 ?_
    refine fx_aload_n dX12_opensSign_26 rfl rfl ?_
    refine fx_iload_n dX12_opensSign_27 rfl rfl ?_
    obtain ⟨p6, ep6, h⟩ := xBind_el h
    refine gx_callv (as := [.int a1]) (r := []) rfl dX12_opensSign_28 ca_12_199 rfl me_94 rfl rfl rfl rfl (ha0.1) rfl (fX12_opensFrame_ok (d := d) (by omega) ha0 ep6) rfl rfl ?_
    refine fx_aload_n dX12_opensSign_31 rfl rfl ?_
    obtain ⟨p7, ep7, h⟩ := xBind_el h
    refine gx_callv (as := []) (r := []) rfl dX12_opensSign_32 ca_12_202 rfl me_87 rfl rfl rfl rfl (ha0.1) rfl (fX12_next_ok (d := d) (by omega) ha0 ep7) rfl rfl ?_
    refine fx_iconst (x := 1) dX12_opensSign_35 rfl (by decide) ?_
    cases h
    exact fx_ireturn dX12_opensSign_36 rfl rfl
  · rw [if_neg hc2] at h
    refine fx_aload_n dX12_opensSign_9 rfl rfl ?_
    refine fx_iconst (x := 3) dX12_opensSign_10 rfl (by decide) ?_
    obtain ⟨p8, ep8, h⟩ := xBind_el h
    refine gx_callv (as := [.int (3 : Int32)]) (r := []) rfl dX12_opensSign_11 ca_12_196 rfl me_93 rfl rfl rfl rfl (ha0.1) rfl (fX12_errs_ok (d := d) (by omega) ha0 ep8) rfl rfl ?_
    refine fx_iconst (x := 0) dX12_opensSign_14 rfl (by decide) ?_
    cases h
    exact fx_ireturn dX12_opensSign_15 rfl rfl
def fX12_opensSign (a0 : Nat) (a1 : Int32) (m : xMem) : Option (Int32 × xMem) := fX12_opensSign_0 a0 a1  m
theorem fX12_opensSign_ok {a0 : Nat} {a1 : Int32} {m : xMem} {r : (Int32 × xMem)} {d : Nat} (hd : 4 ≤ d) (ha0 : isModel a0) (h : fX12_opensSign a0 a1 m = some r) : xEx d 92 [.ref a0, .int a1] (xLay m) (some (.int r.1)) (xLay r.2) := by
  obtain ⟨d, rfl⟩ : ∃ q, d = q + 1 := ⟨d - 1, by omega⟩
  exact xEx_of me_92 rfl (fX12_opensSign_0_ok (d := d) (by omega) ha0 h)
def fX12_asks_27 (a0 : Nat) (m : xMem) : Option xMem := some m
set_option maxRecDepth 4000 in
theorem fX12_asks_27_ok {a0 : Nat} {d : Nat} (hd : 4 ≤ d) (ha0 : isModel a0) {o1 : Option Value} {m : xMem} {r : xMem} (q1 : xNoD o1 = true) (h : fX12_asks_27 a0 m = some r) : xFx hh_90 cX12_asks d 27 [some (.ref a0), o1] [] (xLay m) 0 0 none (xLay r) := by
  unfold fX12_asks_27 at h
  cases h
  exact fx_return dX12_asks_27 rfl rfl
def fX12_asks_0 (a0 : Nat) (m : xMem) : Option xMem := (fX12_isWord a0 (5 : Int32) m).bind fun p1 => if p1.1 = (0 : Int32) then (fX12_opensFrame a0 (4 : Int32) p1.2).bind fun p3 => xLet (xPut p3 a0 26 (1 : Int32)) fun m4 => fX12_asks_27 a0 m4 else (fX12_opensSign a0 (3 : Int32) p1.2).bind fun p5 => fX12_asks_27 a0 p5.2
set_option maxRecDepth 4000 in
theorem fX12_asks_0_ok {a0 : Nat} {d : Nat} (hd : 4 ≤ d) (ha0 : isModel a0) {o1 : Option Value} {m : xMem} {r : xMem} (q1 : xNoD o1 = true) (h : fX12_asks_0 a0 m = some r) : xFx hh_90 cX12_asks d 0 [some (.ref a0), o1] [] (xLay m) 0 0 none (xLay r) := by
  unfold fX12_asks_0 at h
  refine fx_aload_n dX12_asks_0 rfl rfl ?_
  refine fx_iconst (x := 5) dX12_asks_1 rfl (by decide) ?_
  obtain ⟨p1, ep1, h⟩ := xBind_el h
  refine gx_callv (as := [.int (5 : Int32)]) (r := []) rfl dX12_asks_2 ca_12_218 rfl me_91 rfl rfl rfl rfl (ha0.1) rfl (fX12_isWord_ok (d := d) (by omega) ha0 ep1) rfl rfl ?_
  refine fx_if_eq (t := 17) dX12_asks_5 rfl rfl (fun hc2 => ?_) (fun hc2 => ?_)
  · rw [if_pos hc2] at h
    refine fx_aload_n dX12_asks_17 rfl rfl ?_
    refine fx_iconst (x := 4) dX12_asks_18 rfl (by decide) ?_
    obtain ⟨p3, ep3, h⟩ := xBind_el h
    refine gx_callv (as := [.int (4 : Int32)]) (r := []) rfl dX12_asks_19 ca_12_199 rfl me_94 rfl rfl rfl rfl (ha0.1) rfl (fX12_opensFrame_ok (d := d) (by omega) ha0 ep3) rfl rfl ?_
    refine fx_aload_n dX12_asks_22 rfl rfl ?_
    refine fx_iconst (x := 1) dX12_asks_23 rfl (by decide) ?_
    obtain ⟨m4, hm4, h⟩ := xLet_el h
    refine gx_put dX12_asks_24 rfl fd_12_224 ha0.1 rfl rfl rfl hm4 ?_
    exact fX12_asks_27_ok (o1 := o1) hd ha0 q1 h
  · rw [if_neg hc2] at h
    refine fx_aload_n dX12_asks_8 rfl rfl ?_
    refine fx_iconst (x := 3) dX12_asks_9 rfl (by decide) ?_
    obtain ⟨p5, ep5, h⟩ := xBind_el h
    refine gx_callv (as := [.int (3 : Int32)]) (r := []) rfl dX12_asks_10 ca_12_221 rfl me_92 rfl rfl rfl rfl (ha0.1) rfl (fX12_opensSign_ok (d := d) (by omega) ha0 ep5) rfl rfl ?_
    refine fx_istore_n (ls2 := [some (.ref a0), some (.int p5.1)]) dX12_asks_13 rfl rfl rfl ?_
    refine fx_goto (t := 27) dX12_asks_14 rfl rfl ?_
    exact fX12_asks_27_ok (o1 := some (.int p5.1)) hd ha0 rfl h
def fX12_asks (a0 : Nat) (m : xMem) : Option xMem := fX12_asks_0 a0  m
theorem fX12_asks_ok {a0 : Nat} {m : xMem} {r : xMem} {d : Nat} (hd : 5 ≤ d) (ha0 : isModel a0) (h : fX12_asks a0 m = some r) : xEx d 90 [.ref a0] (xLay m) none (xLay r) := by
  obtain ⟨d, rfl⟩ : ∃ q, d = q + 1 := ⟨d - 1, by omega⟩
  exact xEx_of me_90 rfl (fX12_asks_0_ok (d := d) (o1 := none) (by omega) ha0 rfl h)
def fX12_begins_175 (a0 : Nat) (m : xMem) : Option xMem := some m
set_option maxRecDepth 4000 in
theorem fX12_begins_175_ok {a0 : Nat} {d : Nat} (hd : 4 ≤ d) (ha0 : isModel a0) {o1 : Option Value} {m : xMem} {r : xMem} (q1 : xNoD o1 = true) (h : fX12_begins_175 a0 m = some r) : xFx hh_95 cX12_begins d 175 [some (.ref a0), o1] [] (xLay m) 0 0 none (xLay r) := by
  unfold fX12_begins_175 at h
  cases h
  exact fx_return dX12_begins_175 rfl rfl
def fX12_begins_106 (a0 : Nat) (m : xMem) : Option xMem := xLet (m.1 a0 16) fun x1 => xLet (x1 - (5 : Int32)) fun x2 => xLet (x2 - (1 : Int32)) fun x3 => (fX12_emits a0 (401 : Int32) x3 m).bind fun p4 => (fX12_next a0 p4).bind fun p5 => (fX12_oneIsOver a0 p5).bind fun p6 => fX12_begins_175 a0 p6
set_option maxRecDepth 4000 in
theorem fX12_begins_106_ok {a0 : Nat} {d : Nat} (hd : 4 ≤ d) (ha0 : isModel a0) {o1 : Option Value} {m : xMem} {r : xMem} (q1 : xNoD o1 = true) (h : fX12_begins_106 a0 m = some r) : xFx hh_95 cX12_begins d 106 [some (.ref a0), o1] [] (xLay m) 0 0 none (xLay r) := by
  unfold fX12_begins_106 at h
  refine fx_aload_n dX12_begins_106 rfl rfl ?_
  refine fx_sipush (x := 401) dX12_begins_107 rfl (by decide) ?_
  refine fx_aload_n dX12_begins_110 rfl rfl ?_
  obtain ⟨x1, hx1, h⟩ := xLet_el h
  refine gx_get dX12_begins_111 rfl fd_12_178 ha0.1 rfl rfl hx1 ?_
  refine fx_iconst (x := 5) dX12_begins_114 rfl (by decide) ?_
  obtain ⟨x2, hx2, h⟩ := xLet_el h
  refine fx_isub dX12_begins_115 rfl hx2 ?_
  refine fx_iconst (x := 1) dX12_begins_116 rfl (by decide) ?_
  obtain ⟨x3, hx3, h⟩ := xLet_el h
  refine fx_isub dX12_begins_117 rfl hx3 ?_
  obtain ⟨p4, ep4, h⟩ := xBind_el h
  refine gx_callv (as := [.int (401 : Int32), .int x3]) (r := []) rfl dX12_begins_118 ca_12_211 rfl me_96 rfl rfl rfl rfl (ha0.1) rfl (fX12_emits_ok (d := d) (by omega) ha0 ep4) rfl rfl ?_
  refine fx_aload_n dX12_begins_121 rfl rfl ?_
  obtain ⟨p5, ep5, h⟩ := xBind_el h
  refine gx_callv (as := []) (r := []) rfl dX12_begins_122 ca_12_202 rfl me_87 rfl rfl rfl rfl (ha0.1) rfl (fX12_next_ok (d := d) (by omega) ha0 ep5) rfl rfl ?_
  refine fx_aload_n dX12_begins_125 rfl rfl ?_
  obtain ⟨p6, ep6, h⟩ := xBind_el h
  refine gx_callv (as := []) (r := []) rfl dX12_begins_126 ca_12_227 rfl me_97 rfl rfl rfl rfl (ha0.1) rfl (fX12_oneIsOver_ok (d := d) (by omega) ha0 ep6) rfl rfl ?_
  refine fx_goto (t := 175) dX12_begins_129 rfl rfl ?_
  exact fX12_begins_175_ok (o1 := o1) hd ha0 q1 h
def fX12_begins_97 (a0 : Nat) (s0 : Int32) (s1 : Int32) (m : xMem) : Option xMem := if ¬ s0 = s1 then fX12_begins_106 a0 m else (fX12_errs a0 (5 : Int32) m).bind fun p2 => some p2
set_option maxRecDepth 4000 in
theorem fX12_begins_97_ok {a0 : Nat} {d : Nat} (hd : 4 ≤ d) (ha0 : isModel a0) {s0 : Int32} {s1 : Int32} {o1 : Option Value} {m : xMem} {r : xMem} (q1 : xNoD o1 = true) (h : fX12_begins_97 a0 s0 s1 m = some r) : xFx hh_95 cX12_begins d 97 [some (.ref a0), o1] [.int s1, .int s0] (xLay m) 0 0 none (xLay r) := by
  unfold fX12_begins_97 at h
  refine fx_icmp_ne (t := 106) dX12_begins_97 rfl rfl (fun hc1 => ?_) (fun hc1 => ?_)
  · rw [if_pos hc1] at h
    exact fX12_begins_106_ok (o1 := o1) hd ha0 q1 h
  · rw [if_neg hc1] at h
    refine fx_aload_n dX12_begins_100 rfl rfl ?_
    refine fx_iconst (x := 5) dX12_begins_101 rfl (by decide) ?_
    obtain ⟨p2, ep2, h⟩ := xBind_el h
    refine gx_callv (as := [.int (5 : Int32)]) (r := []) rfl dX12_begins_102 ca_12_196 rfl me_93 rfl rfl rfl rfl (ha0.1) rfl (fX12_errs_ok (d := d) (by omega) ha0 ep2) rfl rfl ?_
    cases h
    exact fx_return dX12_begins_105 rfl rfl
def fX12_begins_85 (a0 : Nat) (s0 : Int32) (m : xMem) : Option xMem := xLet (m.1 a0 28) fun x1 => if ¬ x1 = (0 : Int32) then fX12_begins_97 a0 s0 (0 : Int32) m else fX12_begins_97 a0 s0 (1 : Int32) m
set_option maxRecDepth 4000 in
theorem fX12_begins_85_ok {a0 : Nat} {d : Nat} (hd : 4 ≤ d) (ha0 : isModel a0) {s0 : Int32} {o1 : Option Value} {m : xMem} {r : xMem} (q1 : xNoD o1 = true) (h : fX12_begins_85 a0 s0 m = some r) : xFx hh_95 cX12_begins d 85 [some (.ref a0), o1] [.int s0] (xLay m) 0 0 none (xLay r) := by
  unfold fX12_begins_85 at h
  refine fx_aload_n dX12_begins_85 rfl rfl ?_
  obtain ⟨x1, hx1, h⟩ := xLet_el h
  refine gx_get dX12_begins_86 rfl fd_12_230 ha0.1 rfl rfl hx1 ?_
  refine fx_if_ne (t := 96) dX12_begins_89 rfl rfl (fun hc2 => ?_) (fun hc2 => ?_)
  · rw [if_pos hc2] at h
    refine fx_iconst (x := 0) dX12_begins_96 rfl (by decide) ?_
    exact fX12_begins_97_ok (o1 := o1) hd ha0 q1 h
  · rw [if_neg hc2] at h
    refine fx_iconst (x := 1) dX12_begins_92 rfl (by decide) ?_
    refine fx_goto (t := 97) dX12_begins_93 rfl rfl ?_
    exact fX12_begins_97_ok (o1 := o1) hd ha0 q1 h
def fX12_begins_132 (a0 : Nat) (m : xMem) : Option xMem := (fX12_isSign a0 (40 : Int32) m).bind fun p1 => if p1.1 = (0 : Int32) then (fX12_isSign a0 (45 : Int32) p1.2).bind fun p3 => if p3.1 = (0 : Int32) then (fX12_errs a0 (1 : Int32) p3.2).bind fun p5 => fX12_begins_175 a0 p5 else (fX12_opensSign a0 (7 : Int32) p3.2).bind fun p6 => fX12_begins_175 a0 p6.2 else (fX12_opensSign a0 (6 : Int32) p1.2).bind fun p7 => fX12_begins_175 a0 p7.2
set_option maxRecDepth 4000 in
theorem fX12_begins_132_ok {a0 : Nat} {d : Nat} (hd : 4 ≤ d) (ha0 : isModel a0) {o1 : Option Value} {m : xMem} {r : xMem} (q1 : xNoD o1 = true) (h : fX12_begins_132 a0 m = some r) : xFx hh_95 cX12_begins d 132 [some (.ref a0), o1] [] (xLay m) 0 0 none (xLay r) := by
  unfold fX12_begins_132 at h
  refine fx_aload_n dX12_begins_132 rfl rfl ?_
  refine fx_bipush (x := 40) dX12_begins_133 rfl (by decide) ?_
  obtain ⟨p1, ep1, h⟩ := xBind_el h
  refine gx_callv (as := [.int (40 : Int32)]) (r := []) rfl dX12_begins_135 ca_12_233 rfl me_99 rfl rfl rfl rfl (ha0.1) rfl (fX12_isSign_ok (d := d) (by omega) ha0 ep1) rfl rfl ?_
  refine fx_if_eq (t := 151) dX12_begins_138 rfl rfl (fun hc2 => ?_) (fun hc2 => ?_)
  · rw [if_pos hc2] at h
    refine fx_aload_n dX12_begins_151 rfl rfl ?_
    refine fx_bipush (x := 45) dX12_begins_152 rfl (by decide) ?_
    obtain ⟨p3, ep3, h⟩ := xBind_el h
    refine gx_callv (as := [.int (45 : Int32)]) (r := []) rfl dX12_begins_154 ca_12_233 rfl me_99 rfl rfl rfl rfl (ha0.1) rfl (fX12_isSign_ok (d := d) (by omega) ha0 ep3) rfl rfl ?_
    refine fx_if_eq (t := 170) dX12_begins_157 rfl rfl (fun hc4 => ?_) (fun hc4 => ?_)
    · rw [if_pos hc4] at h
      refine fx_aload_n dX12_begins_170 rfl rfl ?_
      refine fx_iconst (x := 1) dX12_begins_171 rfl (by decide) ?_
      obtain ⟨p5, ep5, h⟩ := xBind_el h
      refine gx_callv (as := [.int (1 : Int32)]) (r := []) rfl dX12_begins_172 ca_12_196 rfl me_93 rfl rfl rfl rfl (ha0.1) rfl (fX12_errs_ok (d := d) (by omega) ha0 ep5) rfl rfl ?_
      exact fX12_begins_175_ok (o1 := o1) hd ha0 q1 h
    · rw [if_neg hc4] at h
      refine fx_aload_n dX12_begins_160 rfl rfl ?_
      refine fx_bipush (x := 7) dX12_begins_161 rfl (by decide) ?_
      obtain ⟨p6, ep6, h⟩ := xBind_el h
      refine gx_callv (as := [.int (7 : Int32)]) (r := []) rfl dX12_begins_163 ca_12_221 rfl me_92 rfl rfl rfl rfl (ha0.1) rfl (fX12_opensSign_ok (d := d) (by omega) ha0 ep6) rfl rfl ?_
      refine fx_istore_n (ls2 := [some (.ref a0), some (.int p6.1)]) dX12_begins_166 rfl rfl rfl ?_
      refine fx_goto (t := 175) dX12_begins_167 rfl rfl ?_
      exact fX12_begins_175_ok (o1 := some (.int p6.1)) hd ha0 rfl h
  · rw [if_neg hc2] at h
    refine fx_aload_n dX12_begins_141 rfl rfl ?_
    refine fx_bipush (x := 6) dX12_begins_142 rfl (by decide) ?_
    obtain ⟨p7, ep7, h⟩ := xBind_el h
    refine gx_callv (as := [.int (6 : Int32)]) (r := []) rfl dX12_begins_144 ca_12_221 rfl me_92 rfl rfl rfl rfl (ha0.1) rfl (fX12_opensSign_ok (d := d) (by omega) ha0 ep7) rfl rfl ?_
    refine fx_istore_n (ls2 := [some (.ref a0), some (.int p7.1)]) dX12_begins_147 rfl rfl rfl ?_
    refine fx_goto (t := 175) dX12_begins_148 rfl rfl ?_
    exact fX12_begins_175_ok (o1 := some (.int p7.1)) hd ha0 rfl h
def fX12_begins_0 (a0 : Nat) (m : xMem) : Option xMem := xLet (m.1 a0 15) fun x1 => if ¬ x1 = (2 : Int32) then xLet (m.1 a0 15) fun x3 => if ¬ x3 = (1 : Int32) then fX12_begins_132 a0 m else xLet (m.1 a0 16) fun x5 => if x5 ≤ (5 : Int32) then fX12_begins_132 a0 m else xLet (m.1 a0 16) fun x7 => if x7 ≤ (6 : Int32) then fX12_begins_106 a0 m else xLet (m.1 a0 16) fun x9 => if (11 : Int32) ≤ x9 then fX12_begins_85 a0 (0 : Int32) m else fX12_begins_85 a0 (1 : Int32) m else xLet (m.1 a0 16) fun x11 => if x11 ≤ (9999 : Int32) then xLet (m.1 a0 16) fun x13 => (fX12_emits a0 (400 : Int32) x13 m).bind fun p14 => (fX12_next a0 p14).bind fun p15 => (fX12_oneIsOver a0 p15).bind fun p16 => fX12_begins_175 a0 p16 else (fX12_errs a0 (2 : Int32) m).bind fun p17 => some p17
set_option maxRecDepth 4000 in
theorem fX12_begins_0_ok {a0 : Nat} {d : Nat} (hd : 4 ≤ d) (ha0 : isModel a0) {o1 : Option Value} {m : xMem} {r : xMem} (q1 : xNoD o1 = true) (h : fX12_begins_0 a0 m = some r) : xFx hh_95 cX12_begins d 0 [some (.ref a0), o1] [] (xLay m) 0 0 none (xLay r) := by
  unfold fX12_begins_0 at h
  refine fx_aload_n dX12_begins_0 rfl rfl ?_
  obtain ⟨x1, hx1, h⟩ := xLet_el h
  refine gx_get dX12_begins_1 rfl fd_12_166 ha0.1 rfl rfl hx1 ?_
  refine fx_iconst (x := 2) dX12_begins_4 rfl (by decide) ?_
  refine fx_icmp_ne (t := 46) dX12_begins_5 rfl rfl (fun hc2 => ?_) (fun hc2 => ?_)
  · rw [if_pos hc2] at h
    refine fx_aload_n dX12_begins_46 rfl rfl ?_
    obtain ⟨x3, hx3, h⟩ := xLet_el h
    refine gx_get dX12_begins_47 rfl fd_12_166 ha0.1 rfl rfl hx3 ?_
    refine fx_iconst (x := 1) dX12_begins_50 rfl (by decide) ?_
    refine fx_icmp_ne (t := 132) dX12_begins_51 rfl rfl (fun hc4 => ?_) (fun hc4 => ?_)
    · rw [if_pos hc4] at h
      exact fX12_begins_132_ok (o1 := o1) hd ha0 q1 h
    · rw [if_neg hc4] at h
      refine fx_aload_n dX12_begins_54 rfl rfl ?_
      obtain ⟨x5, hx5, h⟩ := xLet_el h
      refine gx_get dX12_begins_55 rfl fd_12_178 ha0.1 rfl rfl hx5 ?_
      refine fx_iconst (x := 5) dX12_begins_58 rfl (by decide) ?_
      refine fx_icmp_le (t := 132) dX12_begins_59 rfl rfl (fun hc6 => ?_) (fun hc6 => ?_)
      · rw [if_pos hc6] at h
        exact fX12_begins_132_ok (o1 := o1) hd ha0 q1 h
      · rw [if_neg hc6] at h
        refine fx_aload_n dX12_begins_62 rfl rfl ?_
        obtain ⟨x7, hx7, h⟩ := xLet_el h
        refine gx_get dX12_begins_63 rfl fd_12_178 ha0.1 rfl rfl hx7 ?_
        refine fx_bipush (x := 6) dX12_begins_66 rfl (by decide) ?_
        refine fx_icmp_le (t := 106) dX12_begins_68 rfl rfl (fun hc8 => ?_) (fun hc8 => ?_)
        · rw [if_pos hc8] at h
          exact fX12_begins_106_ok (o1 := o1) hd ha0 q1 h
        · rw [if_neg hc8] at h
          refine fx_aload_n dX12_begins_71 rfl rfl ?_
          obtain ⟨x9, hx9, h⟩ := xLet_el h
          refine gx_get dX12_begins_72 rfl fd_12_178 ha0.1 rfl rfl hx9 ?_
          refine fx_bipush (x := 11) dX12_begins_75 rfl (by decide) ?_
          refine fx_icmp_ge (t := 84) dX12_begins_77 rfl rfl (fun hc10 => ?_) (fun hc10 => ?_)
          · rw [if_pos hc10] at h
            refine fx_iconst (x := 0) dX12_begins_84 rfl (by decide) ?_
            exact fX12_begins_85_ok (o1 := o1) hd ha0 q1 h
          · rw [if_neg hc10] at h
            refine fx_iconst (x := 1) dX12_begins_80 rfl (by decide) ?_
            refine fx_goto (t := 85) dX12_begins_81 rfl rfl ?_
            exact fX12_begins_85_ok (o1 := o1) hd ha0 q1 h
  · rw [if_neg hc2] at h
    refine fx_aload_n dX12_begins_8 rfl rfl ?_
    obtain ⟨x11, hx11, h⟩ := xLet_el h
    refine gx_get dX12_begins_9 rfl fd_12_178 ha0.1 rfl rfl hx11 ?_
    refine fx_sipush (x := 9999) dX12_begins_12 rfl (by decide) ?_
    refine fx_icmp_le (t := 24) dX12_begins_15 rfl rfl (fun hc12 => ?_) (fun hc12 => ?_)
    · rw [if_pos hc12] at h
      refine fx_aload_n dX12_begins_24 rfl rfl ?_
      refine fx_sipush (x := 400) dX12_begins_25 rfl (by decide) ?_
      refine fx_aload_n dX12_begins_28 rfl rfl ?_
      obtain ⟨x13, hx13, h⟩ := xLet_el h
      refine gx_get dX12_begins_29 rfl fd_12_178 ha0.1 rfl rfl hx13 ?_
      obtain ⟨p14, ep14, h⟩ := xBind_el h
      refine gx_callv (as := [.int (400 : Int32), .int x13]) (r := []) rfl dX12_begins_32 ca_12_211 rfl me_96 rfl rfl rfl rfl (ha0.1) rfl (fX12_emits_ok (d := d) (by omega) ha0 ep14) rfl rfl ?_
      refine fx_aload_n dX12_begins_35 rfl rfl ?_
      obtain ⟨p15, ep15, h⟩ := xBind_el h
      refine gx_callv (as := []) (r := []) rfl dX12_begins_36 ca_12_202 rfl me_87 rfl rfl rfl rfl (ha0.1) rfl (fX12_next_ok (d := d) (by omega) ha0 ep15) rfl rfl ?_
      refine fx_aload_n dX12_begins_39 rfl rfl ?_
      obtain ⟨p16, ep16, h⟩ := xBind_el h
      refine gx_callv (as := []) (r := []) rfl dX12_begins_40 ca_12_227 rfl me_97 rfl rfl rfl rfl (ha0.1) rfl (fX12_oneIsOver_ok (d := d) (by omega) ha0 ep16) rfl rfl ?_
      refine fx_goto (t := 175) dX12_begins_43 rfl rfl ?_
      exact fX12_begins_175_ok (o1 := o1) hd ha0 q1 h
    · rw [if_neg hc12] at h
      refine fx_aload_n dX12_begins_18 rfl rfl ?_
      refine fx_iconst (x := 2) dX12_begins_19 rfl (by decide) ?_
      obtain ⟨p17, ep17, h⟩ := xBind_el h
      refine gx_callv (as := [.int (2 : Int32)]) (r := []) rfl dX12_begins_20 ca_12_196 rfl me_93 rfl rfl rfl rfl (ha0.1) rfl (fX12_errs_ok (d := d) (by omega) ha0 ep17) rfl rfl ?_
      cases h
      exact fx_return dX12_begins_23 rfl rfl
def fX12_begins (a0 : Nat) (m : xMem) : Option xMem := fX12_begins_0 a0  m
theorem fX12_begins_ok {a0 : Nat} {m : xMem} {r : xMem} {d : Nat} (hd : 5 ≤ d) (ha0 : isModel a0) (h : fX12_begins a0 m = some r) : xEx d 95 [.ref a0] (xLay m) none (xLay r) := by
  obtain ⟨d, rfl⟩ : ∃ q, d = q + 1 := ⟨d - 1, by omega⟩
  exact xEx_of me_95 rfl (fX12_begins_0_ok (d := d) (o1 := none) (by omega) ha0 rfl h)
def fX12_text_96 (a0 : Nat) (rec74 : xMem → Option (Int32 × xMem)) (m : xMem) : Option (Int32 × xMem) := xLet (m.1 a0 26) fun x1 => if x1 = (0 : Int32) then (fX12_asks a0 m).bind fun p3 => rec74 p3 else if x1 = (1 : Int32) then (fX12_begins a0 m).bind fun p5 => rec74 p5 else if x1 = (2 : Int32) then (fX12_goesOn a0 m).bind fun p7 => rec74 p7 else if x1 = (3 : Int32) then (fX12_asksOn a0 m).bind fun p9 => rec74 p9 else (fX12_clause a0 m).bind fun p10 => rec74 p10
set_option maxRecDepth 4000 in
theorem fX12_text_96_ok {a0 : Nat} {rec74 : xMem → Option (Int32 × xMem)} {d : Nat} (hd : 5 ≤ d) (ha0 : isModel a0) (hrec74 : ∀ (m : xMem) (r : (Int32 × xMem)), rec74 m = some r → xFx hh_86 cX12_text d 74 [some (.ref a0)] [] (xLay m) 0 0 (some (.int r.1)) (xLay r.2)) {m : xMem} {r : (Int32 × xMem)} (h : fX12_text_96 a0 rec74 m = some r) : xFx hh_86 cX12_text d 96 [some (.ref a0)] [] (xLay m) 0 0 (some (.int r.1)) (xLay r.2) := by
  unfold fX12_text_96 at h
  refine fx_aload_n dX12_text_96 rfl rfl ?_
  obtain ⟨x1, hx1, h⟩ := xLet_el h
  refine gx_get dX12_text_97 rfl fd_12_224 ha0.1 rfl rfl hx1 ?_
  by_cases hc2 : x1 = (0 : Int32)
  · rw [if_pos hc2] at h
    refine fx_tabIn (t := 132) dX12_text_100 rfl (by rw [hc2]; decide) (by rw [hc2]; decide) (by rw [hc2]; rfl) rfl ?_
    refine fx_aload_n dX12_text_132 rfl rfl ?_
    obtain ⟨p3, ep3, h⟩ := xBind_el h
    refine gx_callv (as := []) (r := []) rfl dX12_text_133 ca_12_259 rfl me_90 rfl rfl rfl rfl (ha0.1) rfl (fX12_asks_ok (d := d) (by omega) ha0 ep3) rfl rfl ?_
    refine fx_goto (t := 74) dX12_text_136 rfl rfl ?_
    exact hrec74 p3 r h
  · rw [if_neg hc2] at h
    by_cases hc4 : x1 = (1 : Int32)
    · rw [if_pos hc4] at h
      refine fx_tabIn (t := 139) dX12_text_100 rfl (by rw [hc4]; decide) (by rw [hc4]; decide) (by rw [hc4]; rfl) rfl ?_
      refine fx_aload_n dX12_text_139 rfl rfl ?_
      obtain ⟨p5, ep5, h⟩ := xBind_el h
      refine gx_callv (as := []) (r := []) rfl dX12_text_140 ca_12_262 rfl me_95 rfl rfl rfl rfl (ha0.1) rfl (fX12_begins_ok (d := d) (by omega) ha0 ep5) rfl rfl ?_
      refine fx_goto (t := 74) dX12_text_143 rfl rfl ?_
      exact hrec74 p5 r h
    · rw [if_neg hc4] at h
      by_cases hc6 : x1 = (2 : Int32)
      · rw [if_pos hc6] at h
        refine fx_tabIn (t := 146) dX12_text_100 rfl (by rw [hc6]; decide) (by rw [hc6]; decide) (by rw [hc6]; rfl) rfl ?_
        refine fx_aload_n dX12_text_146 rfl rfl ?_
        obtain ⟨p7, ep7, h⟩ := xBind_el h
        refine gx_callv (as := []) (r := []) rfl dX12_text_147 ca_12_265 rfl me_100 rfl rfl rfl rfl (ha0.1) rfl (fX12_goesOn_ok (d := d) (by omega) ha0 ep7) rfl rfl ?_
        refine fx_goto (t := 74) dX12_text_150 rfl rfl ?_
        exact hrec74 p7 r h
      · rw [if_neg hc6] at h
        by_cases hc8 : x1 = (3 : Int32)
        · rw [if_pos hc8] at h
          refine fx_tabIn (t := 153) dX12_text_100 rfl (by rw [hc8]; decide) (by rw [hc8]; decide) (by rw [hc8]; rfl) rfl ?_
          refine fx_aload_n dX12_text_153 rfl rfl ?_
          obtain ⟨p9, ep9, h⟩ := xBind_el h
          refine gx_callv (as := []) (r := []) rfl dX12_text_154 ca_12_268 rfl me_107 rfl rfl rfl rfl (ha0.1) rfl (fX12_asksOn_ok (d := d) (by omega) ha0 ep9) rfl rfl ?_
          refine fx_goto (t := 74) dX12_text_157 rfl rfl ?_
          exact hrec74 p9 r h
        · rw [if_neg hc8] at h
          have e0 : x1.toInt ≠ 0 := fun q => hc2 (Int32.toInt_inj.mp (q.trans (by decide)))
          have e1 : x1.toInt ≠ 1 := fun q => hc4 (Int32.toInt_inj.mp (q.trans (by decide)))
          have e2 : x1.toInt ≠ 2 := fun q => hc6 (Int32.toInt_inj.mp (q.trans (by decide)))
          have e3 : x1.toInt ≠ 3 := fun q => hc8 (Int32.toInt_inj.mp (q.trans (by decide)))
          refine fx_tabOut (t := 160) dX12_text_100 rfl (by omega) rfl ?_
          refine fx_aload_n dX12_text_160 rfl rfl ?_
          obtain ⟨p10, ep10, h⟩ := xBind_el h
          refine gx_callv (as := []) (r := []) rfl dX12_text_161 ca_12_271 rfl me_108 rfl rfl rfl rfl (ha0.1) rfl (fX12_clause_ok (d := d) (by omega) ha0 ep10) rfl rfl ?_
          refine fx_goto (t := 74) dX12_text_164 rfl rfl ?_
          exact hrec74 p10 r h
def fX12_text_167 (a0 : Nat) (m : xMem) : Option (Int32 × xMem) := xLet (m.1 a0 17) fun x1 => xLet (xPut m a0 5 x1) fun m2 => xLet (m2.1 a0 18) fun x3 => xLet (xPut m2 a0 6 x3) fun m4 => xLet (m4.1 a0 17) fun x5 => if x5 ≤ (0 : Int32) then bif xIn (4 : Int32) 1610 then xLet (m4.1 (a0 + 1) (4 : Int32).toNatClampNeg) fun x7 => (fX12_keepsText a0 x7 m4).bind fun p9 => bif xIn (4 : Int32) 1610 then xLet (p9.1 (a0 + 1) (4 : Int32).toNatClampNeg) fun x10 => xLet (x10 + (1 : Int32)) fun x12 => bif xIn (4 : Int32) 1610 then xLet (xPut p9 (a0 + 1) (4 : Int32).toNatClampNeg x12) fun m13 => bif xIn (4 : Int32) 1610 then xLet (m13.1 (a0 + 1) (4 : Int32).toNatClampNeg) fun x15 => xLet (x15 - (1 : Int32)) fun x17 => some (x17, m13) else none else none else none else none else some ((-1 : Int32), m4)
set_option maxRecDepth 4000 in
theorem fX12_text_167_ok {a0 : Nat} {d : Nat} (hd : 5 ≤ d) (ha0 : isModel a0) {m : xMem} {r : (Int32 × xMem)} (h : fX12_text_167 a0 m = some r) : xFx hh_86 cX12_text d 167 [some (.ref a0)] [] (xLay m) 0 0 (some (.int r.1)) (xLay r.2) := by
  unfold fX12_text_167 at h
  refine fx_aload_n dX12_text_167 rfl rfl ?_
  refine fx_aload_n dX12_text_168 rfl rfl ?_
  obtain ⟨x1, hx1, h⟩ := xLet_el h
  refine gx_get dX12_text_169 rfl fd_12_181 ha0.1 rfl rfl hx1 ?_
  obtain ⟨m2, hm2, h⟩ := xLet_el h
  refine gx_put dX12_text_172 rfl fd_12_23 ha0.1 rfl rfl rfl hm2 ?_
  refine fx_aload_n dX12_text_175 rfl rfl ?_
  refine fx_aload_n dX12_text_176 rfl rfl ?_
  obtain ⟨x3, hx3, h⟩ := xLet_el h
  refine gx_get dX12_text_177 rfl fd_12_184 ha0.1 rfl rfl hx3 ?_
  obtain ⟨m4, hm4, h⟩ := xLet_el h
  refine gx_put dX12_text_180 rfl fd_12_27 ha0.1 rfl rfl rfl hm4 ?_
  refine fx_aload_n dX12_text_183 rfl rfl ?_
  obtain ⟨x5, hx5, h⟩ := xLet_el h
  refine gx_get dX12_text_184 rfl fd_12_181 ha0.1 rfl rfl hx5 ?_
  refine fx_if_le (t := 192) dX12_text_187 rfl rfl (fun hc6 => ?_) (fun hc6 => ?_)
  · rw [if_pos hc6] at h
    refine fx_aload_n dX12_text_192 rfl rfl ?_
    refine fx_aload_n dX12_text_193 rfl rfl ?_
    refine gx_getr dX12_text_194 rfl fd_12_7 ha0.1 rfl rfl ?_
    refine fx_iconst (x := 4) dX12_text_197 rfl (by decide) ?_
    obtain ⟨hj8, h⟩ := xChk_el h
    obtain ⟨x7, hx7, h⟩ := xLet_el h
    refine gx_iaload dX12_text_198 rfl ha0.2.1 hj8 hx7 ?_
    obtain ⟨p9, ep9, h⟩ := xBind_el h
    refine gx_callv (as := [.int x7]) (r := []) rfl dX12_text_199 ca_12_274 rfl me_110 rfl rfl rfl rfl (ha0.1) rfl (fX12_keepsText_ok (d := d) (by omega) ha0 ep9) rfl rfl ?_
    refine fx_aload_n dX12_text_202 rfl rfl ?_
    refine gx_getr dX12_text_203 rfl fd_12_7 ha0.1 rfl rfl ?_
    refine fx_iconst (x := 4) dX12_text_206 rfl (by decide) ?_
    refine fx_dup2 dX12_text_207 rfl rfl ?_
    obtain ⟨hj11, h⟩ := xChk_el h
    obtain ⟨x10, hx10, h⟩ := xLet_el h
    refine gx_iaload dX12_text_208 rfl ha0.2.1 hj11 hx10 ?_
    refine fx_iconst (x := 1) dX12_text_209 rfl (by decide) ?_
    obtain ⟨x12, hx12, h⟩ := xLet_el h
    refine fx_iadd dX12_text_210 rfl hx12 ?_
    obtain ⟨hj14, h⟩ := xChk_el h
    obtain ⟨m13, hm13, h⟩ := xLet_el h
    refine gx_iastore dX12_text_211 rfl ha0.2.1 hj14 hm13 ?_
    refine fx_aload_n dX12_text_212 rfl rfl ?_
    refine gx_getr dX12_text_213 rfl fd_12_7 ha0.1 rfl rfl ?_
    refine fx_iconst (x := 4) dX12_text_216 rfl (by decide) ?_
    obtain ⟨hj16, h⟩ := xChk_el h
    obtain ⟨x15, hx15, h⟩ := xLet_el h
    refine gx_iaload dX12_text_217 rfl ha0.2.1 hj16 hx15 ?_
    refine fx_iconst (x := 1) dX12_text_218 rfl (by decide) ?_
    obtain ⟨x17, hx17, h⟩ := xLet_el h
    refine fx_isub dX12_text_219 rfl hx17 ?_
    cases h
    exact fx_ireturn dX12_text_220 rfl rfl
  · rw [if_neg hc6] at h
    refine fx_iconst (x := -1) dX12_text_190 rfl (by decide) ?_
    cases h
    exact fx_ireturn dX12_text_191 rfl rfl
def fX12_text_74 (a0 : Nat) : Nat → xMem → Option (Int32 × xMem)
  | 0, _ => none
  | fuel + 1, m => xLet (m.1 a0 17) fun x1 => if ¬ x1 = (0 : Int32) then fX12_text_167 a0 m else xLet (m.1 a0 26) fun x3 => if ¬ x3 = (4 : Int32) then fX12_text_96 a0 (fX12_text_74 a0 fuel) m else xLet (m.1 a0 15) fun x5 => if x5 = (0 : Int32) then fX12_text_167 a0 m else fX12_text_96 a0 (fX12_text_74 a0 fuel) m
set_option maxRecDepth 4000 in
theorem fX12_text_74_ok {a0 : Nat} {d : Nat} (hd : 5 ≤ d) (ha0 : isModel a0) : ∀ (fuel : Nat) (m : xMem) (r : (Int32 × xMem)), fX12_text_74 a0 fuel m = some r → xFx hh_86 cX12_text d 74 [some (.ref a0)] [] (xLay m) 0 0 (some (.int r.1)) (xLay r.2) := by
  intro fuel
  induction fuel with
  | zero => intro   m r  h; cases h
  | succ fuel ih =>
    intro   m r  h
    unfold fX12_text_74 at h
    refine fx_aload_n dX12_text_74 rfl rfl ?_
    obtain ⟨x1, hx1, h⟩ := xLet_el h
    refine gx_get dX12_text_75 rfl fd_12_181 ha0.1 rfl rfl hx1 ?_
    refine fx_if_ne (t := 167) dX12_text_78 rfl rfl (fun hc2 => ?_) (fun hc2 => ?_)
    · rw [if_pos hc2] at h
      exact fX12_text_167_ok hd ha0 h
    · rw [if_neg hc2] at h
      refine fx_aload_n dX12_text_81 rfl rfl ?_
      obtain ⟨x3, hx3, h⟩ := xLet_el h
      refine gx_get dX12_text_82 rfl fd_12_224 ha0.1 rfl rfl hx3 ?_
      refine fx_iconst (x := 4) dX12_text_85 rfl (by decide) ?_
      refine fx_icmp_ne (t := 96) dX12_text_86 rfl rfl (fun hc4 => ?_) (fun hc4 => ?_)
      · rw [if_pos hc4] at h
        exact fX12_text_96_ok hd ha0 ih h
      · rw [if_neg hc4] at h
        refine fx_aload_n dX12_text_89 rfl rfl ?_
        obtain ⟨x5, hx5, h⟩ := xLet_el h
        refine gx_get dX12_text_90 rfl fd_12_166 ha0.1 rfl rfl hx5 ?_
        refine fx_if_eq (t := 167) dX12_text_93 rfl rfl (fun hc6 => ?_) (fun hc6 => ?_)
        · rw [if_pos hc6] at h
          exact fX12_text_167_ok hd ha0 h
        · rw [if_neg hc6] at h
          exact fX12_text_96_ok hd ha0 ih h
def fX12_text_0 (a0 : Nat) (m : xMem) : Option (Int32 × xMem) := bif xIn (4 : Int32) 1610 then xLet (m.1 (a0 + 1) (4 : Int32).toNatClampNeg) fun x1 => if ¬ x1 = (4 : Int32) then xLet (m.1 a0 4) fun x4 => xLet (xPut m a0 12 x4) fun m5 => xLet (xPut m5 a0 4 (0 : Int32)) fun m6 => xLet (xPut m6 a0 13 (0 : Int32)) fun m7 => xLet (xPut m7 a0 17 (0 : Int32)) fun m8 => xLet (xPut m8 a0 18 (-1 : Int32)) fun m9 => xLet (xPut m9 a0 19 (0 : Int32)) fun m10 => xLet (xPut m10 a0 20 (0 : Int32)) fun m11 => xLet (xPut m11 a0 23 (0 : Int32)) fun m12 => xLet (xPut m12 a0 26 (4 : Int32)) fun m13 => xLet (xPut m13 a0 27 (0 : Int32)) fun m14 => xLet (xPut m14 a0 31 (0 : Int32)) fun m15 => (fX12_next a0 m15).bind fun p16 => fX12_text_74 a0 xFuel p16 else some ((-1 : Int32), m) else none
set_option maxRecDepth 4000 in
theorem fX12_text_0_ok {a0 : Nat} {d : Nat} (hd : 5 ≤ d) (ha0 : isModel a0) {m : xMem} {r : (Int32 × xMem)} (h : fX12_text_0 a0 m = some r) : xFx hh_86 cX12_text d 0 [some (.ref a0)] [] (xLay m) 0 0 (some (.int r.1)) (xLay r.2) := by
  unfold fX12_text_0 at h
  refine fx_aload_n dX12_text_0 rfl rfl ?_
  refine gx_getr dX12_text_1 rfl fd_12_7 ha0.1 rfl rfl ?_
  refine fx_iconst (x := 4) dX12_text_4 rfl (by decide) ?_
  obtain ⟨hj2, h⟩ := xChk_el h
  obtain ⟨x1, hx1, h⟩ := xLet_el h
  refine gx_iaload dX12_text_5 rfl ha0.2.1 hj2 hx1 ?_
  refine fx_iconst (x := 4) dX12_text_6 rfl (by decide) ?_
  refine fx_icmp_ne (t := 12) dX12_text_7 rfl rfl (fun hc3 => ?_) (fun hc3 => ?_)
  · rw [if_pos hc3] at h
    refine fx_aload_n dX12_text_12 rfl rfl ?_
    refine fx_aload_n dX12_text_13 rfl rfl ?_
    obtain ⟨x4, hx4, h⟩ := xLet_el h
    refine gx_get dX12_text_14 rfl fd_12_122 ha0.1 rfl rfl hx4 ?_
    obtain ⟨m5, hm5, h⟩ := xLet_el h
    refine gx_put dX12_text_17 rfl fd_12_160 ha0.1 rfl rfl rfl hm5 ?_
    refine fx_aload_n dX12_text_20 rfl rfl ?_
    refine fx_iconst (x := 0) dX12_text_21 rfl (by decide) ?_
    obtain ⟨m6, hm6, h⟩ := xLet_el h
    refine gx_put dX12_text_22 rfl fd_12_122 ha0.1 rfl rfl rfl hm6 ?_
    refine fx_aload_n dX12_text_25 rfl rfl ?_
    refine fx_iconst (x := 0) dX12_text_26 rfl (by decide) ?_
    obtain ⟨m7, hm7, h⟩ := xLet_el h
    refine gx_put dX12_text_27 rfl fd_12_157 ha0.1 rfl rfl rfl hm7 ?_
    refine fx_aload_n dX12_text_30 rfl rfl ?_
    refine fx_iconst (x := 0) dX12_text_31 rfl (by decide) ?_
    obtain ⟨m8, hm8, h⟩ := xLet_el h
    refine gx_put dX12_text_32 rfl fd_12_181 ha0.1 rfl rfl rfl hm8 ?_
    refine fx_aload_n dX12_text_35 rfl rfl ?_
    refine fx_iconst (x := -1) dX12_text_36 rfl (by decide) ?_
    obtain ⟨m9, hm9, h⟩ := xLet_el h
    refine gx_put dX12_text_37 rfl fd_12_184 ha0.1 rfl rfl rfl hm9 ?_
    refine fx_aload_n dX12_text_40 rfl rfl ?_
    refine fx_iconst (x := 0) dX12_text_41 rfl (by decide) ?_
    obtain ⟨m10, hm10, h⟩ := xLet_el h
    refine gx_put dX12_text_42 rfl fd_12_193 ha0.1 rfl rfl rfl hm10 ?_
    refine fx_aload_n dX12_text_45 rfl rfl ?_
    refine fx_iconst (x := 0) dX12_text_46 rfl (by decide) ?_
    obtain ⟨m11, hm11, h⟩ := xLet_el h
    refine gx_put dX12_text_47 rfl fd_12_190 ha0.1 rfl rfl rfl hm11 ?_
    refine fx_aload_n dX12_text_50 rfl rfl ?_
    refine fx_iconst (x := 0) dX12_text_51 rfl (by decide) ?_
    obtain ⟨m12, hm12, h⟩ := xLet_el h
    refine gx_put dX12_text_52 rfl fd_12_205 ha0.1 rfl rfl rfl hm12 ?_
    refine fx_aload_n dX12_text_55 rfl rfl ?_
    refine fx_iconst (x := 4) dX12_text_56 rfl (by decide) ?_
    obtain ⟨m13, hm13, h⟩ := xLet_el h
    refine gx_put dX12_text_57 rfl fd_12_224 ha0.1 rfl rfl rfl hm13 ?_
    refine fx_aload_n dX12_text_60 rfl rfl ?_
    refine fx_iconst (x := 0) dX12_text_61 rfl (by decide) ?_
    obtain ⟨m14, hm14, h⟩ := xLet_el h
    refine gx_put dX12_text_62 rfl fd_12_252 ha0.1 rfl rfl rfl hm14 ?_
    refine fx_aload_n dX12_text_65 rfl rfl ?_
    refine fx_iconst (x := 0) dX12_text_66 rfl (by decide) ?_
    obtain ⟨m15, hm15, h⟩ := xLet_el h
    refine gx_put dX12_text_67 rfl fd_12_187 ha0.1 rfl rfl rfl hm15 ?_
    refine fx_aload_n dX12_text_70 rfl rfl ?_
    obtain ⟨p16, ep16, h⟩ := xBind_el h
    refine gx_callv (as := []) (r := []) rfl dX12_text_71 ca_12_202 rfl me_87 rfl rfl rfl rfl (ha0.1) rfl (fX12_next_ok (d := d) (by omega) ha0 ep16) rfl rfl ?_
    exact fX12_text_74_ok hd ha0 xFuel p16 r h
  · rw [if_neg hc3] at h
    refine fx_iconst (x := -1) dX12_text_10 rfl (by decide) ?_
    cases h
    exact fx_ireturn dX12_text_11 rfl rfl
def fX12_text (a0 : Nat) (m : xMem) : Option (Int32 × xMem) := fX12_text_0 a0  m
theorem fX12_text_ok {a0 : Nat} {m : xMem} {r : (Int32 × xMem)} {d : Nat} (hd : 6 ≤ d) (ha0 : isModel a0) (h : fX12_text a0 m = some r) : xEx d 86 [.ref a0] (xLay m) (some (.int r.1)) (xLay r.2) := by
  obtain ⟨d, rfl⟩ : ∃ q, d = q + 1 := ⟨d - 1, by omega⟩
  exact xEx_of me_86 rfl (fX12_text_0_ok (d := d) (by omega) ha0 h)
