theorem bdX7_readBoth_0 : (decode cX7_readBoth 0 = .ok (.aload_n 0, 1)) ∧ (decode cX7_readBoth 1 = .ok (.aload_n 1, 1)) ∧ (decode cX7_readBoth 2 = .ok (.iconst 0, 1)) ∧ (decode cX7_readBoth 3 = .ok (.invokevirtual 133, 3)) ∧ (decode cX7_readBoth 6 = .ok (.istore_n 2, 1)) ∧ (decode cX7_readBoth 7 = .ok (.iconst 0, 1)) ∧ (decode cX7_readBoth 8 = .ok (.istore_n 3, 1)) ∧ (decode cX7_readBoth 9 = .ok (.iload_n 3, 1)) ∧ (decode cX7_readBoth 10 = .ok (.sipush 300, 3)) ∧ (decode cX7_readBoth 13 = .ok (.if_icmp .ge 46, 3)) ∧ (decode cX7_readBoth 16 = .ok (.iload_n 2, 1)) ∧ (decode cX7_readBoth 17 = .ok (.ifCond .eq 42, 3)) ∧ (decode cX7_readBoth 20 = .ok (.aload_n 0, 1)) ∧ (decode cX7_readBoth 21 = .ok (.invokevirtual 51, 3)) ∧ (decode cX7_readBoth 24 = .ok (.bipush 24, 2)) ∧ (decode cX7_readBoth 26 = .ok (.if_icmp .ne 33, 3)) := by decide +kernel
theorem dX7_readBoth_0 : decode cX7_readBoth 0 = .ok (.aload_n 0, 1) := bdX7_readBoth_0.1
theorem dX7_readBoth_1 : decode cX7_readBoth 1 = .ok (.aload_n 1, 1) := bdX7_readBoth_0.2.1
theorem dX7_readBoth_2 : decode cX7_readBoth 2 = .ok (.iconst 0, 1) := bdX7_readBoth_0.2.2.1
theorem dX7_readBoth_3 : decode cX7_readBoth 3 = .ok (.invokevirtual 133, 3) := bdX7_readBoth_0.2.2.2.1
theorem dX7_readBoth_6 : decode cX7_readBoth 6 = .ok (.istore_n 2, 1) := bdX7_readBoth_0.2.2.2.2.1
theorem dX7_readBoth_7 : decode cX7_readBoth 7 = .ok (.iconst 0, 1) := bdX7_readBoth_0.2.2.2.2.2.1
theorem dX7_readBoth_8 : decode cX7_readBoth 8 = .ok (.istore_n 3, 1) := bdX7_readBoth_0.2.2.2.2.2.2.1
theorem dX7_readBoth_9 : decode cX7_readBoth 9 = .ok (.iload_n 3, 1) := bdX7_readBoth_0.2.2.2.2.2.2.2.1
theorem dX7_readBoth_10 : decode cX7_readBoth 10 = .ok (.sipush 300, 3) := bdX7_readBoth_0.2.2.2.2.2.2.2.2.1
theorem dX7_readBoth_13 : decode cX7_readBoth 13 = .ok (.if_icmp .ge 46, 3) := bdX7_readBoth_0.2.2.2.2.2.2.2.2.2.1
theorem dX7_readBoth_16 : decode cX7_readBoth 16 = .ok (.iload_n 2, 1) := bdX7_readBoth_0.2.2.2.2.2.2.2.2.2.2.1
theorem dX7_readBoth_17 : decode cX7_readBoth 17 = .ok (.ifCond .eq 42, 3) := bdX7_readBoth_0.2.2.2.2.2.2.2.2.2.2.2.1
theorem dX7_readBoth_20 : decode cX7_readBoth 20 = .ok (.aload_n 0, 1) := bdX7_readBoth_0.2.2.2.2.2.2.2.2.2.2.2.2.1
theorem dX7_readBoth_21 : decode cX7_readBoth 21 = .ok (.invokevirtual 51, 3) := bdX7_readBoth_0.2.2.2.2.2.2.2.2.2.2.2.2.2.1
theorem dX7_readBoth_24 : decode cX7_readBoth 24 = .ok (.bipush 24, 2) := bdX7_readBoth_0.2.2.2.2.2.2.2.2.2.2.2.2.2.2.1
theorem dX7_readBoth_26 : decode cX7_readBoth 26 = .ok (.if_icmp .ne 33, 3) := bdX7_readBoth_0.2.2.2.2.2.2.2.2.2.2.2.2.2.2.2
theorem bdX7_readBoth_29 : (decode cX7_readBoth 29 = .ok (.aload_n 0, 1)) ∧ (decode cX7_readBoth 30 = .ok (.dup, 1)) ∧ (decode cX7_readBoth 31 = .ok (.getfield 37, 3)) ∧ (decode cX7_readBoth 34 = .ok (.iconst 1, 1)) ∧ (decode cX7_readBoth 35 = .ok (.iadd, 1)) ∧ (decode cX7_readBoth 36 = .ok (.putfield 37, 3)) ∧ (decode cX7_readBoth 39 = .ok (.aload_n 0, 1)) ∧ (decode cX7_readBoth 40 = .ok (.aload_n 1, 1)) ∧ (decode cX7_readBoth 41 = .ok (.iconst 0, 1)) ∧ (decode cX7_readBoth 42 = .ok (.invokevirtual 133, 3)) ∧ (decode cX7_readBoth 45 = .ok (.istore_n 2, 1)) ∧ (decode cX7_readBoth 46 = .ok (.aload_n 1, 1)) ∧ (decode cX7_readBoth 47 = .ok (.bipush 24, 2)) ∧ (decode cX7_readBoth 49 = .ok (.iconst 0, 1)) ∧ (decode cX7_readBoth 50 = .ok (.invokevirtual 130, 3)) ∧ (decode cX7_readBoth 53 = .ok (.iinc 3 1, 3)) := by decide +kernel
theorem dX7_readBoth_29 : decode cX7_readBoth 29 = .ok (.aload_n 0, 1) := bdX7_readBoth_29.1
theorem dX7_readBoth_30 : decode cX7_readBoth 30 = .ok (.dup, 1) := bdX7_readBoth_29.2.1
theorem dX7_readBoth_31 : decode cX7_readBoth 31 = .ok (.getfield 37, 3) := bdX7_readBoth_29.2.2.1
theorem dX7_readBoth_34 : decode cX7_readBoth 34 = .ok (.iconst 1, 1) := bdX7_readBoth_29.2.2.2.1
theorem dX7_readBoth_35 : decode cX7_readBoth 35 = .ok (.iadd, 1) := bdX7_readBoth_29.2.2.2.2.1
theorem dX7_readBoth_36 : decode cX7_readBoth 36 = .ok (.putfield 37, 3) := bdX7_readBoth_29.2.2.2.2.2.1
theorem dX7_readBoth_39 : decode cX7_readBoth 39 = .ok (.aload_n 0, 1) := bdX7_readBoth_29.2.2.2.2.2.2.1
theorem dX7_readBoth_40 : decode cX7_readBoth 40 = .ok (.aload_n 1, 1) := bdX7_readBoth_29.2.2.2.2.2.2.2.1
theorem dX7_readBoth_41 : decode cX7_readBoth 41 = .ok (.iconst 0, 1) := bdX7_readBoth_29.2.2.2.2.2.2.2.2.1
theorem dX7_readBoth_42 : decode cX7_readBoth 42 = .ok (.invokevirtual 133, 3) := bdX7_readBoth_29.2.2.2.2.2.2.2.2.2.1
theorem dX7_readBoth_45 : decode cX7_readBoth 45 = .ok (.istore_n 2, 1) := bdX7_readBoth_29.2.2.2.2.2.2.2.2.2.2.1
theorem dX7_readBoth_46 : decode cX7_readBoth 46 = .ok (.aload_n 1, 1) := bdX7_readBoth_29.2.2.2.2.2.2.2.2.2.2.2.1
theorem dX7_readBoth_47 : decode cX7_readBoth 47 = .ok (.bipush 24, 2) := bdX7_readBoth_29.2.2.2.2.2.2.2.2.2.2.2.2.1
theorem dX7_readBoth_49 : decode cX7_readBoth 49 = .ok (.iconst 0, 1) := bdX7_readBoth_29.2.2.2.2.2.2.2.2.2.2.2.2.2.1
theorem dX7_readBoth_50 : decode cX7_readBoth 50 = .ok (.invokevirtual 130, 3) := bdX7_readBoth_29.2.2.2.2.2.2.2.2.2.2.2.2.2.2.1
theorem dX7_readBoth_53 : decode cX7_readBoth 53 = .ok (.iinc 3 1, 3) := bdX7_readBoth_29.2.2.2.2.2.2.2.2.2.2.2.2.2.2.2
theorem bdX7_readBoth_56 : (decode cX7_readBoth 56 = .ok (.goto (-47), 3)) ∧ (decode cX7_readBoth 59 = .ok (.iload_n 2, 1)) ∧ (decode cX7_readBoth 60 = .ok (.ireturn, 1)) := by decide +kernel
theorem dX7_readBoth_56 : decode cX7_readBoth 56 = .ok (.goto (-47), 3) := bdX7_readBoth_56.1
theorem dX7_readBoth_59 : decode cX7_readBoth 59 = .ok (.iload_n 2, 1) := bdX7_readBoth_56.2.1
theorem dX7_readBoth_60 : decode cX7_readBoth 60 = .ok (.ireturn, 1) := bdX7_readBoth_56.2.2
theorem bdX7_readEither_0 : (decode cX7_readEither 0 = .ok (.aload_n 0, 1)) ∧ (decode cX7_readEither 1 = .ok (.aload_n 1, 1)) ∧ (decode cX7_readEither 2 = .ok (.invokevirtual 127, 3)) ∧ (decode cX7_readEither 5 = .ok (.istore_n 2, 1)) ∧ (decode cX7_readEither 6 = .ok (.iconst 0, 1)) ∧ (decode cX7_readEither 7 = .ok (.istore_n 3, 1)) ∧ (decode cX7_readEither 8 = .ok (.iload_n 3, 1)) ∧ (decode cX7_readEither 9 = .ok (.sipush 300, 3)) ∧ (decode cX7_readEither 12 = .ok (.if_icmp .ge 45, 3)) ∧ (decode cX7_readEither 15 = .ok (.iload_n 2, 1)) ∧ (decode cX7_readEither 16 = .ok (.ifCond .eq 41, 3)) ∧ (decode cX7_readEither 19 = .ok (.aload_n 0, 1)) ∧ (decode cX7_readEither 20 = .ok (.invokevirtual 51, 3)) ∧ (decode cX7_readEither 23 = .ok (.bipush 23, 2)) ∧ (decode cX7_readEither 25 = .ok (.if_icmp .ne 32, 3)) ∧ (decode cX7_readEither 28 = .ok (.aload_n 0, 1)) := by decide +kernel
theorem dX7_readEither_0 : decode cX7_readEither 0 = .ok (.aload_n 0, 1) := bdX7_readEither_0.1
theorem dX7_readEither_1 : decode cX7_readEither 1 = .ok (.aload_n 1, 1) := bdX7_readEither_0.2.1
theorem dX7_readEither_2 : decode cX7_readEither 2 = .ok (.invokevirtual 127, 3) := bdX7_readEither_0.2.2.1
theorem dX7_readEither_5 : decode cX7_readEither 5 = .ok (.istore_n 2, 1) := bdX7_readEither_0.2.2.2.1
theorem dX7_readEither_6 : decode cX7_readEither 6 = .ok (.iconst 0, 1) := bdX7_readEither_0.2.2.2.2.1
theorem dX7_readEither_7 : decode cX7_readEither 7 = .ok (.istore_n 3, 1) := bdX7_readEither_0.2.2.2.2.2.1
theorem dX7_readEither_8 : decode cX7_readEither 8 = .ok (.iload_n 3, 1) := bdX7_readEither_0.2.2.2.2.2.2.1
theorem dX7_readEither_9 : decode cX7_readEither 9 = .ok (.sipush 300, 3) := bdX7_readEither_0.2.2.2.2.2.2.2.1
theorem dX7_readEither_12 : decode cX7_readEither 12 = .ok (.if_icmp .ge 45, 3) := bdX7_readEither_0.2.2.2.2.2.2.2.2.1
theorem dX7_readEither_15 : decode cX7_readEither 15 = .ok (.iload_n 2, 1) := bdX7_readEither_0.2.2.2.2.2.2.2.2.2.1
theorem dX7_readEither_16 : decode cX7_readEither 16 = .ok (.ifCond .eq 41, 3) := bdX7_readEither_0.2.2.2.2.2.2.2.2.2.2.1
theorem dX7_readEither_19 : decode cX7_readEither 19 = .ok (.aload_n 0, 1) := bdX7_readEither_0.2.2.2.2.2.2.2.2.2.2.2.1
theorem dX7_readEither_20 : decode cX7_readEither 20 = .ok (.invokevirtual 51, 3) := bdX7_readEither_0.2.2.2.2.2.2.2.2.2.2.2.2.1
theorem dX7_readEither_23 : decode cX7_readEither 23 = .ok (.bipush 23, 2) := bdX7_readEither_0.2.2.2.2.2.2.2.2.2.2.2.2.2.1
theorem dX7_readEither_25 : decode cX7_readEither 25 = .ok (.if_icmp .ne 32, 3) := bdX7_readEither_0.2.2.2.2.2.2.2.2.2.2.2.2.2.2.1
theorem dX7_readEither_28 : decode cX7_readEither 28 = .ok (.aload_n 0, 1) := bdX7_readEither_0.2.2.2.2.2.2.2.2.2.2.2.2.2.2.2
theorem bdX7_readEither_29 : (decode cX7_readEither 29 = .ok (.dup, 1)) ∧ (decode cX7_readEither 30 = .ok (.getfield 37, 3)) ∧ (decode cX7_readEither 33 = .ok (.iconst 1, 1)) ∧ (decode cX7_readEither 34 = .ok (.iadd, 1)) ∧ (decode cX7_readEither 35 = .ok (.putfield 37, 3)) ∧ (decode cX7_readEither 38 = .ok (.aload_n 0, 1)) ∧ (decode cX7_readEither 39 = .ok (.aload_n 1, 1)) ∧ (decode cX7_readEither 40 = .ok (.invokevirtual 127, 3)) ∧ (decode cX7_readEither 43 = .ok (.istore_n 2, 1)) ∧ (decode cX7_readEither 44 = .ok (.aload_n 1, 1)) ∧ (decode cX7_readEither 45 = .ok (.bipush 23, 2)) ∧ (decode cX7_readEither 47 = .ok (.iconst 0, 1)) ∧ (decode cX7_readEither 48 = .ok (.invokevirtual 130, 3)) ∧ (decode cX7_readEither 51 = .ok (.iinc 3 1, 3)) ∧ (decode cX7_readEither 54 = .ok (.goto (-46), 3)) ∧ (decode cX7_readEither 57 = .ok (.iload_n 2, 1)) := by decide +kernel
theorem dX7_readEither_29 : decode cX7_readEither 29 = .ok (.dup, 1) := bdX7_readEither_29.1
theorem dX7_readEither_30 : decode cX7_readEither 30 = .ok (.getfield 37, 3) := bdX7_readEither_29.2.1
theorem dX7_readEither_33 : decode cX7_readEither 33 = .ok (.iconst 1, 1) := bdX7_readEither_29.2.2.1
theorem dX7_readEither_34 : decode cX7_readEither 34 = .ok (.iadd, 1) := bdX7_readEither_29.2.2.2.1
theorem dX7_readEither_35 : decode cX7_readEither 35 = .ok (.putfield 37, 3) := bdX7_readEither_29.2.2.2.2.1
theorem dX7_readEither_38 : decode cX7_readEither 38 = .ok (.aload_n 0, 1) := bdX7_readEither_29.2.2.2.2.2.1
theorem dX7_readEither_39 : decode cX7_readEither 39 = .ok (.aload_n 1, 1) := bdX7_readEither_29.2.2.2.2.2.2.1
theorem dX7_readEither_40 : decode cX7_readEither 40 = .ok (.invokevirtual 127, 3) := bdX7_readEither_29.2.2.2.2.2.2.2.1
theorem dX7_readEither_43 : decode cX7_readEither 43 = .ok (.istore_n 2, 1) := bdX7_readEither_29.2.2.2.2.2.2.2.2.1
theorem dX7_readEither_44 : decode cX7_readEither 44 = .ok (.aload_n 1, 1) := bdX7_readEither_29.2.2.2.2.2.2.2.2.2.1
theorem dX7_readEither_45 : decode cX7_readEither 45 = .ok (.bipush 23, 2) := bdX7_readEither_29.2.2.2.2.2.2.2.2.2.2.1
theorem dX7_readEither_47 : decode cX7_readEither 47 = .ok (.iconst 0, 1) := bdX7_readEither_29.2.2.2.2.2.2.2.2.2.2.2.1
theorem dX7_readEither_48 : decode cX7_readEither 48 = .ok (.invokevirtual 130, 3) := bdX7_readEither_29.2.2.2.2.2.2.2.2.2.2.2.2.1
theorem dX7_readEither_51 : decode cX7_readEither 51 = .ok (.iinc 3 1, 3) := bdX7_readEither_29.2.2.2.2.2.2.2.2.2.2.2.2.2.1
theorem dX7_readEither_54 : decode cX7_readEither 54 = .ok (.goto (-46), 3) := bdX7_readEither_29.2.2.2.2.2.2.2.2.2.2.2.2.2.2.1
theorem dX7_readEither_57 : decode cX7_readEither 57 = .ok (.iload_n 2, 1) := bdX7_readEither_29.2.2.2.2.2.2.2.2.2.2.2.2.2.2.2
theorem dX7_readEither_58 : decode cX7_readEither 58 = .ok (.ireturn, 1) := by decide +kernel
theorem bdX10_close_0 : (decode cX10_close 0 = .ok (.aload_n 0, 1)) ∧ (decode cX10_close 1 = .ok (.getfield 31, 3)) ∧ (decode cX10_close 4 = .ok (.ifCond .le 30, 3)) ∧ (decode cX10_close 7 = .ok (.aload_n 0, 1)) ∧ (decode cX10_close 8 = .ok (.getfield 31, 3)) ∧ (decode cX10_close 11 = .ok (.aload_n 0, 1)) ∧ (decode cX10_close 12 = .ok (.getfield 21, 3)) ∧ (decode cX10_close 15 = .ok (.arraylength, 1)) ∧ (decode cX10_close 16 = .ok (.if_icmp .gt 18, 3)) ∧ (decode cX10_close 19 = .ok (.aload_n 0, 1)) ∧ (decode cX10_close 20 = .ok (.getfield 21, 3)) ∧ (decode cX10_close 23 = .ok (.aload_n 0, 1)) ∧ (decode cX10_close 24 = .ok (.getfield 31, 3)) ∧ (decode cX10_close 27 = .ok (.iconst 1, 1)) ∧ (decode cX10_close 28 = .ok (.isub, 1)) ∧ (decode cX10_close 29 = .ok (.aload_n 0, 1)) := by decide +kernel
theorem dX10_close_0 : decode cX10_close 0 = .ok (.aload_n 0, 1) := bdX10_close_0.1
theorem dX10_close_1 : decode cX10_close 1 = .ok (.getfield 31, 3) := bdX10_close_0.2.1
theorem dX10_close_4 : decode cX10_close 4 = .ok (.ifCond .le 30, 3) := bdX10_close_0.2.2.1
theorem dX10_close_7 : decode cX10_close 7 = .ok (.aload_n 0, 1) := bdX10_close_0.2.2.2.1
theorem dX10_close_8 : decode cX10_close 8 = .ok (.getfield 31, 3) := bdX10_close_0.2.2.2.2.1
theorem dX10_close_11 : decode cX10_close 11 = .ok (.aload_n 0, 1) := bdX10_close_0.2.2.2.2.2.1
theorem dX10_close_12 : decode cX10_close 12 = .ok (.getfield 21, 3) := bdX10_close_0.2.2.2.2.2.2.1
theorem dX10_close_15 : decode cX10_close 15 = .ok (.arraylength, 1) := bdX10_close_0.2.2.2.2.2.2.2.1
theorem dX10_close_16 : decode cX10_close 16 = .ok (.if_icmp .gt 18, 3) := bdX10_close_0.2.2.2.2.2.2.2.2.1
theorem dX10_close_19 : decode cX10_close 19 = .ok (.aload_n 0, 1) := bdX10_close_0.2.2.2.2.2.2.2.2.2.1
theorem dX10_close_20 : decode cX10_close 20 = .ok (.getfield 21, 3) := bdX10_close_0.2.2.2.2.2.2.2.2.2.2.1
theorem dX10_close_23 : decode cX10_close 23 = .ok (.aload_n 0, 1) := bdX10_close_0.2.2.2.2.2.2.2.2.2.2.2.1
theorem dX10_close_24 : decode cX10_close 24 = .ok (.getfield 31, 3) := bdX10_close_0.2.2.2.2.2.2.2.2.2.2.2.2.1
theorem dX10_close_27 : decode cX10_close 27 = .ok (.iconst 1, 1) := bdX10_close_0.2.2.2.2.2.2.2.2.2.2.2.2.2.1
theorem dX10_close_28 : decode cX10_close 28 = .ok (.isub, 1) := bdX10_close_0.2.2.2.2.2.2.2.2.2.2.2.2.2.2.1
theorem dX10_close_29 : decode cX10_close 29 = .ok (.aload_n 0, 1) := bdX10_close_0.2.2.2.2.2.2.2.2.2.2.2.2.2.2.2
theorem bdX10_close_30 : (decode cX10_close 30 = .ok (.getfield 27, 3)) ∧ (decode cX10_close 33 = .ok (.iastore, 1)) ∧ (decode cX10_close 34 = .ok (.return_, 1)) := by decide +kernel
theorem dX10_close_30 : decode cX10_close 30 = .ok (.getfield 27, 3) := bdX10_close_30.1
theorem dX10_close_33 : decode cX10_close 33 = .ok (.iastore, 1) := bdX10_close_30.2.1
theorem dX10_close_34 : decode cX10_close 34 = .ok (.return_, 1) := bdX10_close_30.2.2
theorem bdX7_readClause_0 : (decode cX7_readClause 0 = .ok (.aload_n 0, 1)) ∧ (decode cX7_readClause 1 = .ok (.aload_n 0, 1)) ∧ (decode cX7_readClause 2 = .ok (.invokevirtual 51, 3)) ∧ (decode cX7_readClause 5 = .ok (.bipush 20, 2)) ∧ (decode cX7_readClause 7 = .ok (.isub, 1)) ∧ (decode cX7_readClause 8 = .ok (.putfield 104, 3)) ∧ (decode cX7_readClause 11 = .ok (.aload_n 0, 1)) ∧ (decode cX7_readClause 12 = .ok (.getfield 104, 3)) ∧ (decode cX7_readClause 15 = .ok (.ifCond .eq 25, 3)) ∧ (decode cX7_readClause 18 = .ok (.aload_n 0, 1)) ∧ (decode cX7_readClause 19 = .ok (.getfield 104, 3)) ∧ (decode cX7_readClause 22 = .ok (.iconst 1, 1)) ∧ (decode cX7_readClause 23 = .ok (.if_icmp .eq 17, 3)) ∧ (decode cX7_readClause 26 = .ok (.aload_n 0, 1)) ∧ (decode cX7_readClause 27 = .ok (.getfield 104, 3)) ∧ (decode cX7_readClause 30 = .ok (.iconst 2, 1)) := by decide +kernel
theorem dX7_readClause_0 : decode cX7_readClause 0 = .ok (.aload_n 0, 1) := bdX7_readClause_0.1
theorem dX7_readClause_1 : decode cX7_readClause 1 = .ok (.aload_n 0, 1) := bdX7_readClause_0.2.1
theorem dX7_readClause_2 : decode cX7_readClause 2 = .ok (.invokevirtual 51, 3) := bdX7_readClause_0.2.2.1
theorem dX7_readClause_5 : decode cX7_readClause 5 = .ok (.bipush 20, 2) := bdX7_readClause_0.2.2.2.1
theorem dX7_readClause_7 : decode cX7_readClause 7 = .ok (.isub, 1) := bdX7_readClause_0.2.2.2.2.1
theorem dX7_readClause_8 : decode cX7_readClause 8 = .ok (.putfield 104, 3) := bdX7_readClause_0.2.2.2.2.2.1
theorem dX7_readClause_11 : decode cX7_readClause 11 = .ok (.aload_n 0, 1) := bdX7_readClause_0.2.2.2.2.2.2.1
theorem dX7_readClause_12 : decode cX7_readClause 12 = .ok (.getfield 104, 3) := bdX7_readClause_0.2.2.2.2.2.2.2.1
theorem dX7_readClause_15 : decode cX7_readClause 15 = .ok (.ifCond .eq 25, 3) := bdX7_readClause_0.2.2.2.2.2.2.2.2.1
theorem dX7_readClause_18 : decode cX7_readClause 18 = .ok (.aload_n 0, 1) := bdX7_readClause_0.2.2.2.2.2.2.2.2.2.1
theorem dX7_readClause_19 : decode cX7_readClause 19 = .ok (.getfield 104, 3) := bdX7_readClause_0.2.2.2.2.2.2.2.2.2.2.1
theorem dX7_readClause_22 : decode cX7_readClause 22 = .ok (.iconst 1, 1) := bdX7_readClause_0.2.2.2.2.2.2.2.2.2.2.2.1
theorem dX7_readClause_23 : decode cX7_readClause 23 = .ok (.if_icmp .eq 17, 3) := bdX7_readClause_0.2.2.2.2.2.2.2.2.2.2.2.2.1
theorem dX7_readClause_26 : decode cX7_readClause 26 = .ok (.aload_n 0, 1) := bdX7_readClause_0.2.2.2.2.2.2.2.2.2.2.2.2.2.1
theorem dX7_readClause_27 : decode cX7_readClause 27 = .ok (.getfield 104, 3) := bdX7_readClause_0.2.2.2.2.2.2.2.2.2.2.2.2.2.2.1
theorem dX7_readClause_30 : decode cX7_readClause 30 = .ok (.iconst 2, 1) := bdX7_readClause_0.2.2.2.2.2.2.2.2.2.2.2.2.2.2.2
theorem bdX7_readClause_31 : (decode cX7_readClause 31 = .ok (.if_icmp .eq 9, 3)) ∧ (decode cX7_readClause 34 = .ok (.aload_n 0, 1)) ∧ (decode cX7_readClause 35 = .ok (.iconst 1, 1)) ∧ (decode cX7_readClause 36 = .ok (.invokevirtual 107, 3)) ∧ (decode cX7_readClause 39 = .ok (.ireturn, 1)) ∧ (decode cX7_readClause 40 = .ok (.aload_n 0, 1)) ∧ (decode cX7_readClause 41 = .ok (.getfield 104, 3)) ∧ (decode cX7_readClause 44 = .ok (.ifCond .ne 17, 3)) ∧ (decode cX7_readClause 47 = .ok (.aload_n 1, 1)) ∧ (decode cX7_readClause 48 = .ok (.iconst 0, 1)) ∧ (decode cX7_readClause 49 = .ok (.invokevirtual 110, 3)) ∧ (decode cX7_readClause 52 = .ok (.ifCond .eq 9, 3)) ∧ (decode cX7_readClause 55 = .ok (.aload_n 0, 1)) ∧ (decode cX7_readClause 56 = .ok (.iconst 4, 1)) ∧ (decode cX7_readClause 57 = .ok (.invokevirtual 107, 3)) ∧ (decode cX7_readClause 60 = .ok (.ireturn, 1)) := by decide +kernel
theorem dX7_readClause_31 : decode cX7_readClause 31 = .ok (.if_icmp .eq 9, 3) := bdX7_readClause_31.1
theorem dX7_readClause_34 : decode cX7_readClause 34 = .ok (.aload_n 0, 1) := bdX7_readClause_31.2.1
theorem dX7_readClause_35 : decode cX7_readClause 35 = .ok (.iconst 1, 1) := bdX7_readClause_31.2.2.1
theorem dX7_readClause_36 : decode cX7_readClause 36 = .ok (.invokevirtual 107, 3) := bdX7_readClause_31.2.2.2.1
theorem dX7_readClause_39 : decode cX7_readClause 39 = .ok (.ireturn, 1) := bdX7_readClause_31.2.2.2.2.1
theorem dX7_readClause_40 : decode cX7_readClause 40 = .ok (.aload_n 0, 1) := bdX7_readClause_31.2.2.2.2.2.1
theorem dX7_readClause_41 : decode cX7_readClause 41 = .ok (.getfield 104, 3) := bdX7_readClause_31.2.2.2.2.2.2.1
theorem dX7_readClause_44 : decode cX7_readClause 44 = .ok (.ifCond .ne 17, 3) := bdX7_readClause_31.2.2.2.2.2.2.2.1
theorem dX7_readClause_47 : decode cX7_readClause 47 = .ok (.aload_n 1, 1) := bdX7_readClause_31.2.2.2.2.2.2.2.2.1
theorem dX7_readClause_48 : decode cX7_readClause 48 = .ok (.iconst 0, 1) := bdX7_readClause_31.2.2.2.2.2.2.2.2.2.1
theorem dX7_readClause_49 : decode cX7_readClause 49 = .ok (.invokevirtual 110, 3) := bdX7_readClause_31.2.2.2.2.2.2.2.2.2.2.1
theorem dX7_readClause_52 : decode cX7_readClause 52 = .ok (.ifCond .eq 9, 3) := bdX7_readClause_31.2.2.2.2.2.2.2.2.2.2.2.1
theorem dX7_readClause_55 : decode cX7_readClause 55 = .ok (.aload_n 0, 1) := bdX7_readClause_31.2.2.2.2.2.2.2.2.2.2.2.2.1
theorem dX7_readClause_56 : decode cX7_readClause 56 = .ok (.iconst 4, 1) := bdX7_readClause_31.2.2.2.2.2.2.2.2.2.2.2.2.2.1
theorem dX7_readClause_57 : decode cX7_readClause 57 = .ok (.invokevirtual 107, 3) := bdX7_readClause_31.2.2.2.2.2.2.2.2.2.2.2.2.2.2.1
theorem dX7_readClause_60 : decode cX7_readClause 60 = .ok (.ireturn, 1) := bdX7_readClause_31.2.2.2.2.2.2.2.2.2.2.2.2.2.2.2
theorem bdX7_readClause_61 : (decode cX7_readClause 61 = .ok (.aload_n 1, 1)) ∧ (decode cX7_readClause 62 = .ok (.getfield 45, 3)) ∧ (decode cX7_readClause 65 = .ok (.bipush 10, 2)) ∧ (decode cX7_readClause 67 = .ok (.if_icmp .lt 10, 3)) ∧ (decode cX7_readClause 70 = .ok (.aload_n 0, 1)) ∧ (decode cX7_readClause 71 = .ok (.bipush 6, 2)) ∧ (decode cX7_readClause 73 = .ok (.invokevirtual 107, 3)) ∧ (decode cX7_readClause 76 = .ok (.ireturn, 1)) ∧ (decode cX7_readClause 77 = .ok (.aload_n 0, 1)) ∧ (decode cX7_readClause 78 = .ok (.dup, 1)) ∧ (decode cX7_readClause 79 = .ok (.getfield 37, 3)) ∧ (decode cX7_readClause 82 = .ok (.iconst 1, 1)) ∧ (decode cX7_readClause 83 = .ok (.iadd, 1)) ∧ (decode cX7_readClause 84 = .ok (.putfield 37, 3)) ∧ (decode cX7_readClause 87 = .ok (.aload_n 1, 1)) ∧ (decode cX7_readClause 88 = .ok (.aload_n 0, 1)) := by decide +kernel
theorem dX7_readClause_61 : decode cX7_readClause 61 = .ok (.aload_n 1, 1) := bdX7_readClause_61.1
theorem dX7_readClause_62 : decode cX7_readClause 62 = .ok (.getfield 45, 3) := bdX7_readClause_61.2.1
theorem dX7_readClause_65 : decode cX7_readClause 65 = .ok (.bipush 10, 2) := bdX7_readClause_61.2.2.1
theorem dX7_readClause_67 : decode cX7_readClause 67 = .ok (.if_icmp .lt 10, 3) := bdX7_readClause_61.2.2.2.1
theorem dX7_readClause_70 : decode cX7_readClause 70 = .ok (.aload_n 0, 1) := bdX7_readClause_61.2.2.2.2.1
theorem dX7_readClause_71 : decode cX7_readClause 71 = .ok (.bipush 6, 2) := bdX7_readClause_61.2.2.2.2.2.1
theorem dX7_readClause_73 : decode cX7_readClause 73 = .ok (.invokevirtual 107, 3) := bdX7_readClause_61.2.2.2.2.2.2.1
theorem dX7_readClause_76 : decode cX7_readClause 76 = .ok (.ireturn, 1) := bdX7_readClause_61.2.2.2.2.2.2.2.1
theorem dX7_readClause_77 : decode cX7_readClause 77 = .ok (.aload_n 0, 1) := bdX7_readClause_61.2.2.2.2.2.2.2.2.1
theorem dX7_readClause_78 : decode cX7_readClause 78 = .ok (.dup, 1) := bdX7_readClause_61.2.2.2.2.2.2.2.2.2.1
theorem dX7_readClause_79 : decode cX7_readClause 79 = .ok (.getfield 37, 3) := bdX7_readClause_61.2.2.2.2.2.2.2.2.2.2.1
theorem dX7_readClause_82 : decode cX7_readClause 82 = .ok (.iconst 1, 1) := bdX7_readClause_61.2.2.2.2.2.2.2.2.2.2.2.1
theorem dX7_readClause_83 : decode cX7_readClause 83 = .ok (.iadd, 1) := bdX7_readClause_61.2.2.2.2.2.2.2.2.2.2.2.2.1
theorem dX7_readClause_84 : decode cX7_readClause 84 = .ok (.putfield 37, 3) := bdX7_readClause_61.2.2.2.2.2.2.2.2.2.2.2.2.2.1
theorem dX7_readClause_87 : decode cX7_readClause 87 = .ok (.aload_n 1, 1) := bdX7_readClause_61.2.2.2.2.2.2.2.2.2.2.2.2.2.2.1
theorem dX7_readClause_88 : decode cX7_readClause 88 = .ok (.aload_n 0, 1) := bdX7_readClause_61.2.2.2.2.2.2.2.2.2.2.2.2.2.2.2
theorem bdX7_readClause_89 : (decode cX7_readClause 89 = .ok (.getfield 104, 3)) ∧ (decode cX7_readClause 92 = .ok (.invokevirtual 113, 3)) ∧ (decode cX7_readClause 95 = .ok (.aload_n 0, 1)) ∧ (decode cX7_readClause 96 = .ok (.getfield 104, 3)) ∧ (decode cX7_readClause 99 = .ok (.ifCond .ne 12, 3)) ∧ (decode cX7_readClause 102 = .ok (.aload_n 0, 1)) ∧ (decode cX7_readClause 103 = .ok (.aload_n 1, 1)) ∧ (decode cX7_readClause 104 = .ok (.iconst 0, 1)) ∧ (decode cX7_readClause 105 = .ok (.invokevirtual 117, 3)) ∧ (decode cX7_readClause 108 = .ok (.goto 8, 3)) ∧ (decode cX7_readClause 111 = .ok (.aload_n 0, 1)) ∧ (decode cX7_readClause 112 = .ok (.aload_n 1, 1)) ∧ (decode cX7_readClause 113 = .ok (.invokevirtual 121, 3)) ∧ (decode cX7_readClause 116 = .ok (.istore_n 2, 1)) ∧ (decode cX7_readClause 117 = .ok (.aload_n 1, 1)) ∧ (decode cX7_readClause 118 = .ok (.invokevirtual 124, 3)) := by decide +kernel
theorem dX7_readClause_89 : decode cX7_readClause 89 = .ok (.getfield 104, 3) := bdX7_readClause_89.1
theorem dX7_readClause_92 : decode cX7_readClause 92 = .ok (.invokevirtual 113, 3) := bdX7_readClause_89.2.1
theorem dX7_readClause_95 : decode cX7_readClause 95 = .ok (.aload_n 0, 1) := bdX7_readClause_89.2.2.1
theorem dX7_readClause_96 : decode cX7_readClause 96 = .ok (.getfield 104, 3) := bdX7_readClause_89.2.2.2.1
theorem dX7_readClause_99 : decode cX7_readClause 99 = .ok (.ifCond .ne 12, 3) := bdX7_readClause_89.2.2.2.2.1
theorem dX7_readClause_102 : decode cX7_readClause 102 = .ok (.aload_n 0, 1) := bdX7_readClause_89.2.2.2.2.2.1
theorem dX7_readClause_103 : decode cX7_readClause 103 = .ok (.aload_n 1, 1) := bdX7_readClause_89.2.2.2.2.2.2.1
theorem dX7_readClause_104 : decode cX7_readClause 104 = .ok (.iconst 0, 1) := bdX7_readClause_89.2.2.2.2.2.2.2.1
theorem dX7_readClause_105 : decode cX7_readClause 105 = .ok (.invokevirtual 117, 3) := bdX7_readClause_89.2.2.2.2.2.2.2.2.1
theorem dX7_readClause_108 : decode cX7_readClause 108 = .ok (.goto 8, 3) := bdX7_readClause_89.2.2.2.2.2.2.2.2.2.1
theorem dX7_readClause_111 : decode cX7_readClause 111 = .ok (.aload_n 0, 1) := bdX7_readClause_89.2.2.2.2.2.2.2.2.2.2.1
theorem dX7_readClause_112 : decode cX7_readClause 112 = .ok (.aload_n 1, 1) := bdX7_readClause_89.2.2.2.2.2.2.2.2.2.2.2.1
theorem dX7_readClause_113 : decode cX7_readClause 113 = .ok (.invokevirtual 121, 3) := bdX7_readClause_89.2.2.2.2.2.2.2.2.2.2.2.2.1
theorem dX7_readClause_116 : decode cX7_readClause 116 = .ok (.istore_n 2, 1) := bdX7_readClause_89.2.2.2.2.2.2.2.2.2.2.2.2.2.1
theorem dX7_readClause_117 : decode cX7_readClause 117 = .ok (.aload_n 1, 1) := bdX7_readClause_89.2.2.2.2.2.2.2.2.2.2.2.2.2.2.1
theorem dX7_readClause_118 : decode cX7_readClause 118 = .ok (.invokevirtual 124, 3) := bdX7_readClause_89.2.2.2.2.2.2.2.2.2.2.2.2.2.2.2
theorem bdX7_readClause_121 : (decode cX7_readClause 121 = .ok (.iload_n 2, 1)) ∧ (decode cX7_readClause 122 = .ok (.ifCond .eq 18, 3)) ∧ (decode cX7_readClause 125 = .ok (.aload_n 0, 1)) ∧ (decode cX7_readClause 126 = .ok (.invokevirtual 51, 3)) ∧ (decode cX7_readClause 129 = .ok (.bipush 15, 2)) ∧ (decode cX7_readClause 131 = .ok (.if_icmp .eq 9, 3)) ∧ (decode cX7_readClause 134 = .ok (.aload_n 0, 1)) ∧ (decode cX7_readClause 135 = .ok (.iconst 1, 1)) ∧ (decode cX7_readClause 136 = .ok (.invokevirtual 107, 3)) ∧ (decode cX7_readClause 139 = .ok (.ireturn, 1)) ∧ (decode cX7_readClause 140 = .ok (.aload_n 0, 1)) ∧ (decode cX7_readClause 141 = .ok (.dup, 1)) ∧ (decode cX7_readClause 142 = .ok (.getfield 37, 3)) ∧ (decode cX7_readClause 145 = .ok (.iconst 1, 1)) ∧ (decode cX7_readClause 146 = .ok (.iadd, 1)) ∧ (decode cX7_readClause 147 = .ok (.putfield 37, 3)) := by decide +kernel
theorem dX7_readClause_121 : decode cX7_readClause 121 = .ok (.iload_n 2, 1) := bdX7_readClause_121.1
theorem dX7_readClause_122 : decode cX7_readClause 122 = .ok (.ifCond .eq 18, 3) := bdX7_readClause_121.2.1
theorem dX7_readClause_125 : decode cX7_readClause 125 = .ok (.aload_n 0, 1) := bdX7_readClause_121.2.2.1
theorem dX7_readClause_126 : decode cX7_readClause 126 = .ok (.invokevirtual 51, 3) := bdX7_readClause_121.2.2.2.1
theorem dX7_readClause_129 : decode cX7_readClause 129 = .ok (.bipush 15, 2) := bdX7_readClause_121.2.2.2.2.1
theorem dX7_readClause_131 : decode cX7_readClause 131 = .ok (.if_icmp .eq 9, 3) := bdX7_readClause_121.2.2.2.2.2.1
theorem dX7_readClause_134 : decode cX7_readClause 134 = .ok (.aload_n 0, 1) := bdX7_readClause_121.2.2.2.2.2.2.1
theorem dX7_readClause_135 : decode cX7_readClause 135 = .ok (.iconst 1, 1) := bdX7_readClause_121.2.2.2.2.2.2.2.1
theorem dX7_readClause_136 : decode cX7_readClause 136 = .ok (.invokevirtual 107, 3) := bdX7_readClause_121.2.2.2.2.2.2.2.2.1
theorem dX7_readClause_139 : decode cX7_readClause 139 = .ok (.ireturn, 1) := bdX7_readClause_121.2.2.2.2.2.2.2.2.2.1
theorem dX7_readClause_140 : decode cX7_readClause 140 = .ok (.aload_n 0, 1) := bdX7_readClause_121.2.2.2.2.2.2.2.2.2.2.1
theorem dX7_readClause_141 : decode cX7_readClause 141 = .ok (.dup, 1) := bdX7_readClause_121.2.2.2.2.2.2.2.2.2.2.2.1
theorem dX7_readClause_142 : decode cX7_readClause 142 = .ok (.getfield 37, 3) := bdX7_readClause_121.2.2.2.2.2.2.2.2.2.2.2.2.1
theorem dX7_readClause_145 : decode cX7_readClause 145 = .ok (.iconst 1, 1) := bdX7_readClause_121.2.2.2.2.2.2.2.2.2.2.2.2.2.1
theorem dX7_readClause_146 : decode cX7_readClause 146 = .ok (.iadd, 1) := bdX7_readClause_121.2.2.2.2.2.2.2.2.2.2.2.2.2.2.1
theorem dX7_readClause_147 : decode cX7_readClause 147 = .ok (.putfield 37, 3) := bdX7_readClause_121.2.2.2.2.2.2.2.2.2.2.2.2.2.2.2
theorem dX7_readClause_150 : decode cX7_readClause 150 = .ok (.iload_n 2, 1) := by decide +kernel
theorem dX7_readClause_151 : decode cX7_readClause 151 = .ok (.ireturn, 1) := by decide +kernel
theorem bdX7_addToken_0 : (decode cX7_addToken 0 = .ok (.aload_n 0, 1)) ∧ (decode cX7_addToken 1 = .ok (.getfield 48, 3)) ∧ (decode cX7_addToken 4 = .ok (.ifCond .lt 55, 3)) ∧ (decode cX7_addToken 7 = .ok (.aload_n 0, 1)) ∧ (decode cX7_addToken 8 = .ok (.getfield 48, 3)) ∧ (decode cX7_addToken 11 = .ok (.aload_n 0, 1)) ∧ (decode cX7_addToken 12 = .ok (.getfield 15, 3)) ∧ (decode cX7_addToken 15 = .ok (.arraylength, 1)) ∧ (decode cX7_addToken 16 = .ok (.if_icmp .ge 43, 3)) ∧ (decode cX7_addToken 19 = .ok (.aload_n 0, 1)) ∧ (decode cX7_addToken 20 = .ok (.getfield 15, 3)) ∧ (decode cX7_addToken 23 = .ok (.aload_n 0, 1)) ∧ (decode cX7_addToken 24 = .ok (.getfield 48, 3)) ∧ (decode cX7_addToken 27 = .ok (.iload_n 1, 1)) ∧ (decode cX7_addToken 28 = .ok (.iastore, 1)) ∧ (decode cX7_addToken 29 = .ok (.aload_n 0, 1)) := by decide +kernel
theorem dX7_addToken_0 : decode cX7_addToken 0 = .ok (.aload_n 0, 1) := bdX7_addToken_0.1
theorem dX7_addToken_1 : decode cX7_addToken 1 = .ok (.getfield 48, 3) := bdX7_addToken_0.2.1
theorem dX7_addToken_4 : decode cX7_addToken 4 = .ok (.ifCond .lt 55, 3) := bdX7_addToken_0.2.2.1
theorem dX7_addToken_7 : decode cX7_addToken 7 = .ok (.aload_n 0, 1) := bdX7_addToken_0.2.2.2.1
theorem dX7_addToken_8 : decode cX7_addToken 8 = .ok (.getfield 48, 3) := bdX7_addToken_0.2.2.2.2.1
theorem dX7_addToken_11 : decode cX7_addToken 11 = .ok (.aload_n 0, 1) := bdX7_addToken_0.2.2.2.2.2.1
theorem dX7_addToken_12 : decode cX7_addToken 12 = .ok (.getfield 15, 3) := bdX7_addToken_0.2.2.2.2.2.2.1
theorem dX7_addToken_15 : decode cX7_addToken 15 = .ok (.arraylength, 1) := bdX7_addToken_0.2.2.2.2.2.2.2.1
theorem dX7_addToken_16 : decode cX7_addToken 16 = .ok (.if_icmp .ge 43, 3) := bdX7_addToken_0.2.2.2.2.2.2.2.2.1
theorem dX7_addToken_19 : decode cX7_addToken 19 = .ok (.aload_n 0, 1) := bdX7_addToken_0.2.2.2.2.2.2.2.2.2.1
theorem dX7_addToken_20 : decode cX7_addToken 20 = .ok (.getfield 15, 3) := bdX7_addToken_0.2.2.2.2.2.2.2.2.2.2.1
theorem dX7_addToken_23 : decode cX7_addToken 23 = .ok (.aload_n 0, 1) := bdX7_addToken_0.2.2.2.2.2.2.2.2.2.2.2.1
theorem dX7_addToken_24 : decode cX7_addToken 24 = .ok (.getfield 48, 3) := bdX7_addToken_0.2.2.2.2.2.2.2.2.2.2.2.2.1
theorem dX7_addToken_27 : decode cX7_addToken 27 = .ok (.iload_n 1, 1) := bdX7_addToken_0.2.2.2.2.2.2.2.2.2.2.2.2.2.1
theorem dX7_addToken_28 : decode cX7_addToken 28 = .ok (.iastore, 1) := bdX7_addToken_0.2.2.2.2.2.2.2.2.2.2.2.2.2.2.1
theorem dX7_addToken_29 : decode cX7_addToken 29 = .ok (.aload_n 0, 1) := bdX7_addToken_0.2.2.2.2.2.2.2.2.2.2.2.2.2.2.2
theorem bdX7_addToken_30 : (decode cX7_addToken 30 = .ok (.getfield 18, 3)) ∧ (decode cX7_addToken 33 = .ok (.aload_n 0, 1)) ∧ (decode cX7_addToken 34 = .ok (.getfield 48, 3)) ∧ (decode cX7_addToken 37 = .ok (.iload_n 2, 1)) ∧ (decode cX7_addToken 38 = .ok (.iastore, 1)) ∧ (decode cX7_addToken 39 = .ok (.aload_n 0, 1)) ∧ (decode cX7_addToken 40 = .ok (.getfield 21, 3)) ∧ (decode cX7_addToken 43 = .ok (.aload_n 0, 1)) ∧ (decode cX7_addToken 44 = .ok (.getfield 48, 3)) ∧ (decode cX7_addToken 47 = .ok (.iload_n 3, 1)) ∧ (decode cX7_addToken 48 = .ok (.iastore, 1)) ∧ (decode cX7_addToken 49 = .ok (.aload_n 0, 1)) ∧ (decode cX7_addToken 50 = .ok (.dup, 1)) ∧ (decode cX7_addToken 51 = .ok (.getfield 48, 3)) ∧ (decode cX7_addToken 54 = .ok (.iconst 1, 1)) ∧ (decode cX7_addToken 55 = .ok (.iadd, 1)) := by decide +kernel
theorem dX7_addToken_30 : decode cX7_addToken 30 = .ok (.getfield 18, 3) := bdX7_addToken_30.1
theorem dX7_addToken_33 : decode cX7_addToken 33 = .ok (.aload_n 0, 1) := bdX7_addToken_30.2.1
theorem dX7_addToken_34 : decode cX7_addToken 34 = .ok (.getfield 48, 3) := bdX7_addToken_30.2.2.1
theorem dX7_addToken_37 : decode cX7_addToken 37 = .ok (.iload_n 2, 1) := bdX7_addToken_30.2.2.2.1
theorem dX7_addToken_38 : decode cX7_addToken 38 = .ok (.iastore, 1) := bdX7_addToken_30.2.2.2.2.1
theorem dX7_addToken_39 : decode cX7_addToken 39 = .ok (.aload_n 0, 1) := bdX7_addToken_30.2.2.2.2.2.1
theorem dX7_addToken_40 : decode cX7_addToken 40 = .ok (.getfield 21, 3) := bdX7_addToken_30.2.2.2.2.2.2.1
theorem dX7_addToken_43 : decode cX7_addToken 43 = .ok (.aload_n 0, 1) := bdX7_addToken_30.2.2.2.2.2.2.2.1
theorem dX7_addToken_44 : decode cX7_addToken 44 = .ok (.getfield 48, 3) := bdX7_addToken_30.2.2.2.2.2.2.2.2.1
theorem dX7_addToken_47 : decode cX7_addToken 47 = .ok (.iload_n 3, 1) := bdX7_addToken_30.2.2.2.2.2.2.2.2.2.1
theorem dX7_addToken_48 : decode cX7_addToken 48 = .ok (.iastore, 1) := bdX7_addToken_30.2.2.2.2.2.2.2.2.2.2.1
theorem dX7_addToken_49 : decode cX7_addToken 49 = .ok (.aload_n 0, 1) := bdX7_addToken_30.2.2.2.2.2.2.2.2.2.2.2.1
theorem dX7_addToken_50 : decode cX7_addToken 50 = .ok (.dup, 1) := bdX7_addToken_30.2.2.2.2.2.2.2.2.2.2.2.2.1
theorem dX7_addToken_51 : decode cX7_addToken 51 = .ok (.getfield 48, 3) := bdX7_addToken_30.2.2.2.2.2.2.2.2.2.2.2.2.2.1
theorem dX7_addToken_54 : decode cX7_addToken 54 = .ok (.iconst 1, 1) := bdX7_addToken_30.2.2.2.2.2.2.2.2.2.2.2.2.2.2.1
theorem dX7_addToken_55 : decode cX7_addToken 55 = .ok (.iadd, 1) := bdX7_addToken_30.2.2.2.2.2.2.2.2.2.2.2.2.2.2.2
theorem dX7_addToken_56 : decode cX7_addToken 56 = .ok (.putfield 48, 3) := by decide +kernel
theorem dX7_addToken_59 : decode cX7_addToken 59 = .ok (.return_, 1) := by decide +kernel
theorem bdX7_isDigit_0 : (decode cX7_isDigit 0 = .ok (.iload_n 0, 1)) ∧ (decode cX7_isDigit 1 = .ok (.bipush 48, 2)) ∧ (decode cX7_isDigit 3 = .ok (.if_icmp .lt 13, 3)) ∧ (decode cX7_isDigit 6 = .ok (.iload_n 0, 1)) ∧ (decode cX7_isDigit 7 = .ok (.bipush 57, 2)) ∧ (decode cX7_isDigit 9 = .ok (.if_icmp .gt 7, 3)) ∧ (decode cX7_isDigit 12 = .ok (.iconst 1, 1)) ∧ (decode cX7_isDigit 13 = .ok (.goto 4, 3)) ∧ (decode cX7_isDigit 16 = .ok (.iconst 0, 1)) ∧ (decode cX7_isDigit 17 = .ok (.ireturn, 1)) := by decide +kernel
theorem dX7_isDigit_0 : decode cX7_isDigit 0 = .ok (.iload_n 0, 1) := bdX7_isDigit_0.1
theorem dX7_isDigit_1 : decode cX7_isDigit 1 = .ok (.bipush 48, 2) := bdX7_isDigit_0.2.1
theorem dX7_isDigit_3 : decode cX7_isDigit 3 = .ok (.if_icmp .lt 13, 3) := bdX7_isDigit_0.2.2.1
theorem dX7_isDigit_6 : decode cX7_isDigit 6 = .ok (.iload_n 0, 1) := bdX7_isDigit_0.2.2.2.1
theorem dX7_isDigit_7 : decode cX7_isDigit 7 = .ok (.bipush 57, 2) := bdX7_isDigit_0.2.2.2.2.1
theorem dX7_isDigit_9 : decode cX7_isDigit 9 = .ok (.if_icmp .gt 7, 3) := bdX7_isDigit_0.2.2.2.2.2.1
theorem dX7_isDigit_12 : decode cX7_isDigit 12 = .ok (.iconst 1, 1) := bdX7_isDigit_0.2.2.2.2.2.2.1
theorem dX7_isDigit_13 : decode cX7_isDigit 13 = .ok (.goto 4, 3) := bdX7_isDigit_0.2.2.2.2.2.2.2.1
theorem dX7_isDigit_16 : decode cX7_isDigit 16 = .ok (.iconst 0, 1) := bdX7_isDigit_0.2.2.2.2.2.2.2.2.1
theorem dX7_isDigit_17 : decode cX7_isDigit 17 = .ok (.ireturn, 1) := bdX7_isDigit_0.2.2.2.2.2.2.2.2.2
theorem bdX7_signOf_0 : (decode cX7_signOf 0 = .ok (.iload_n 0, 1)) ∧ (decode cX7_signOf 1 = .ok (.tableswitch 158 35 62 #[134, 158, 158, 158, 158, 149, 152, 143, 137, 158, 140, 158, 146, 158, 158, 158, 158, 158, 158, 158, 158, 158, 158, 158, 155, 127, 131, 129], 127)) ∧ (decode cX7_signOf 128 = .ok (.iconst 3, 1)) ∧ (decode cX7_signOf 129 = .ok (.ireturn, 1)) ∧ (decode cX7_signOf 130 = .ok (.iconst 5, 1)) ∧ (decode cX7_signOf 131 = .ok (.ireturn, 1)) ∧ (decode cX7_signOf 132 = .ok (.bipush 7, 2)) ∧ (decode cX7_signOf 134 = .ok (.ireturn, 1)) ∧ (decode cX7_signOf 135 = .ok (.bipush 8, 2)) ∧ (decode cX7_signOf 137 = .ok (.ireturn, 1)) ∧ (decode cX7_signOf 138 = .ok (.bipush 9, 2)) ∧ (decode cX7_signOf 140 = .ok (.ireturn, 1)) ∧ (decode cX7_signOf 141 = .ok (.bipush 10, 2)) ∧ (decode cX7_signOf 143 = .ok (.ireturn, 1)) ∧ (decode cX7_signOf 144 = .ok (.bipush 11, 2)) ∧ (decode cX7_signOf 146 = .ok (.ireturn, 1)) := by decide +kernel
theorem dX7_signOf_0 : decode cX7_signOf 0 = .ok (.iload_n 0, 1) := bdX7_signOf_0.1
theorem dX7_signOf_1 : decode cX7_signOf 1 = .ok (.tableswitch 158 35 62 #[134, 158, 158, 158, 158, 149, 152, 143, 137, 158, 140, 158, 146, 158, 158, 158, 158, 158, 158, 158, 158, 158, 158, 158, 155, 127, 131, 129], 127) := bdX7_signOf_0.2.1
theorem dX7_signOf_128 : decode cX7_signOf 128 = .ok (.iconst 3, 1) := bdX7_signOf_0.2.2.1
theorem dX7_signOf_129 : decode cX7_signOf 129 = .ok (.ireturn, 1) := bdX7_signOf_0.2.2.2.1
theorem dX7_signOf_130 : decode cX7_signOf 130 = .ok (.iconst 5, 1) := bdX7_signOf_0.2.2.2.2.1
theorem dX7_signOf_131 : decode cX7_signOf 131 = .ok (.ireturn, 1) := bdX7_signOf_0.2.2.2.2.2.1
theorem dX7_signOf_132 : decode cX7_signOf 132 = .ok (.bipush 7, 2) := bdX7_signOf_0.2.2.2.2.2.2.1
theorem dX7_signOf_134 : decode cX7_signOf 134 = .ok (.ireturn, 1) := bdX7_signOf_0.2.2.2.2.2.2.2.1
theorem dX7_signOf_135 : decode cX7_signOf 135 = .ok (.bipush 8, 2) := bdX7_signOf_0.2.2.2.2.2.2.2.2.1
theorem dX7_signOf_137 : decode cX7_signOf 137 = .ok (.ireturn, 1) := bdX7_signOf_0.2.2.2.2.2.2.2.2.2.1
theorem dX7_signOf_138 : decode cX7_signOf 138 = .ok (.bipush 9, 2) := bdX7_signOf_0.2.2.2.2.2.2.2.2.2.2.1
theorem dX7_signOf_140 : decode cX7_signOf 140 = .ok (.ireturn, 1) := bdX7_signOf_0.2.2.2.2.2.2.2.2.2.2.2.1
theorem dX7_signOf_141 : decode cX7_signOf 141 = .ok (.bipush 10, 2) := bdX7_signOf_0.2.2.2.2.2.2.2.2.2.2.2.2.1
theorem dX7_signOf_143 : decode cX7_signOf 143 = .ok (.ireturn, 1) := bdX7_signOf_0.2.2.2.2.2.2.2.2.2.2.2.2.2.1
theorem dX7_signOf_144 : decode cX7_signOf 144 = .ok (.bipush 11, 2) := bdX7_signOf_0.2.2.2.2.2.2.2.2.2.2.2.2.2.2.1
theorem dX7_signOf_146 : decode cX7_signOf 146 = .ok (.ireturn, 1) := bdX7_signOf_0.2.2.2.2.2.2.2.2.2.2.2.2.2.2.2
theorem bdX7_signOf_147 : (decode cX7_signOf 147 = .ok (.bipush 12, 2)) ∧ (decode cX7_signOf 149 = .ok (.ireturn, 1)) ∧ (decode cX7_signOf 150 = .ok (.bipush 13, 2)) ∧ (decode cX7_signOf 152 = .ok (.ireturn, 1)) ∧ (decode cX7_signOf 153 = .ok (.bipush 14, 2)) ∧ (decode cX7_signOf 155 = .ok (.ireturn, 1)) ∧ (decode cX7_signOf 156 = .ok (.bipush 15, 2)) ∧ (decode cX7_signOf 158 = .ok (.ireturn, 1)) ∧ (decode cX7_signOf 159 = .ok (.iconst 1, 1)) ∧ (decode cX7_signOf 160 = .ok (.ireturn, 1)) := by decide +kernel
theorem dX7_signOf_147 : decode cX7_signOf 147 = .ok (.bipush 12, 2) := bdX7_signOf_147.1
theorem dX7_signOf_149 : decode cX7_signOf 149 = .ok (.ireturn, 1) := bdX7_signOf_147.2.1
theorem dX7_signOf_150 : decode cX7_signOf 150 = .ok (.bipush 13, 2) := bdX7_signOf_147.2.2.1
theorem dX7_signOf_152 : decode cX7_signOf 152 = .ok (.ireturn, 1) := bdX7_signOf_147.2.2.2.1
theorem dX7_signOf_153 : decode cX7_signOf 153 = .ok (.bipush 14, 2) := bdX7_signOf_147.2.2.2.2.1
theorem dX7_signOf_155 : decode cX7_signOf 155 = .ok (.ireturn, 1) := bdX7_signOf_147.2.2.2.2.2.1
theorem dX7_signOf_156 : decode cX7_signOf 156 = .ok (.bipush 15, 2) := bdX7_signOf_147.2.2.2.2.2.2.1
theorem dX7_signOf_158 : decode cX7_signOf 158 = .ok (.ireturn, 1) := bdX7_signOf_147.2.2.2.2.2.2.2.1
theorem dX7_signOf_159 : decode cX7_signOf 159 = .ok (.iconst 1, 1) := bdX7_signOf_147.2.2.2.2.2.2.2.2.1
theorem dX7_signOf_160 : decode cX7_signOf 160 = .ok (.ireturn, 1) := bdX7_signOf_147.2.2.2.2.2.2.2.2.2
theorem bdX7_byteAt_0 : (decode cX7_byteAt 0 = .ok (.iload_n 1, 1)) ∧ (decode cX7_byteAt 1 = .ok (.ifCond .lt 29, 3)) ∧ (decode cX7_byteAt 4 = .ok (.iload_n 1, 1)) ∧ (decode cX7_byteAt 5 = .ok (.aload_n 0, 1)) ∧ (decode cX7_byteAt 6 = .ok (.getfield 31, 3)) ∧ (decode cX7_byteAt 9 = .ok (.if_icmp .ge 21, 3)) ∧ (decode cX7_byteAt 12 = .ok (.iload_n 1, 1)) ∧ (decode cX7_byteAt 13 = .ok (.aload_n 0, 1)) ∧ (decode cX7_byteAt 14 = .ok (.getfield 11, 3)) ∧ (decode cX7_byteAt 17 = .ok (.arraylength, 1)) ∧ (decode cX7_byteAt 18 = .ok (.if_icmp .ge 12, 3)) ∧ (decode cX7_byteAt 21 = .ok (.aload_n 0, 1)) ∧ (decode cX7_byteAt 22 = .ok (.getfield 11, 3)) ∧ (decode cX7_byteAt 25 = .ok (.iload_n 1, 1)) ∧ (decode cX7_byteAt 26 = .ok (.iaload, 1)) ∧ (decode cX7_byteAt 27 = .ok (.goto 4, 3)) := by decide +kernel
theorem dX7_byteAt_0 : decode cX7_byteAt 0 = .ok (.iload_n 1, 1) := bdX7_byteAt_0.1
theorem dX7_byteAt_1 : decode cX7_byteAt 1 = .ok (.ifCond .lt 29, 3) := bdX7_byteAt_0.2.1
theorem dX7_byteAt_4 : decode cX7_byteAt 4 = .ok (.iload_n 1, 1) := bdX7_byteAt_0.2.2.1
theorem dX7_byteAt_5 : decode cX7_byteAt 5 = .ok (.aload_n 0, 1) := bdX7_byteAt_0.2.2.2.1
theorem dX7_byteAt_6 : decode cX7_byteAt 6 = .ok (.getfield 31, 3) := bdX7_byteAt_0.2.2.2.2.1
theorem dX7_byteAt_9 : decode cX7_byteAt 9 = .ok (.if_icmp .ge 21, 3) := bdX7_byteAt_0.2.2.2.2.2.1
theorem dX7_byteAt_12 : decode cX7_byteAt 12 = .ok (.iload_n 1, 1) := bdX7_byteAt_0.2.2.2.2.2.2.1
theorem dX7_byteAt_13 : decode cX7_byteAt 13 = .ok (.aload_n 0, 1) := bdX7_byteAt_0.2.2.2.2.2.2.2.1
theorem dX7_byteAt_14 : decode cX7_byteAt 14 = .ok (.getfield 11, 3) := bdX7_byteAt_0.2.2.2.2.2.2.2.2.1
theorem dX7_byteAt_17 : decode cX7_byteAt 17 = .ok (.arraylength, 1) := bdX7_byteAt_0.2.2.2.2.2.2.2.2.2.1
theorem dX7_byteAt_18 : decode cX7_byteAt 18 = .ok (.if_icmp .ge 12, 3) := bdX7_byteAt_0.2.2.2.2.2.2.2.2.2.2.1
theorem dX7_byteAt_21 : decode cX7_byteAt 21 = .ok (.aload_n 0, 1) := bdX7_byteAt_0.2.2.2.2.2.2.2.2.2.2.2.1
theorem dX7_byteAt_22 : decode cX7_byteAt 22 = .ok (.getfield 11, 3) := bdX7_byteAt_0.2.2.2.2.2.2.2.2.2.2.2.2.1
theorem dX7_byteAt_25 : decode cX7_byteAt 25 = .ok (.iload_n 1, 1) := bdX7_byteAt_0.2.2.2.2.2.2.2.2.2.2.2.2.2.1
theorem dX7_byteAt_26 : decode cX7_byteAt 26 = .ok (.iaload, 1) := bdX7_byteAt_0.2.2.2.2.2.2.2.2.2.2.2.2.2.2.1
theorem dX7_byteAt_27 : decode cX7_byteAt 27 = .ok (.goto 4, 3) := bdX7_byteAt_0.2.2.2.2.2.2.2.2.2.2.2.2.2.2.2
theorem dX7_byteAt_30 : decode cX7_byteAt 30 = .ok (.iconst (-1), 1) := by decide +kernel
theorem dX7_byteAt_31 : decode cX7_byteAt 31 = .ok (.ireturn, 1) := by decide +kernel
theorem bdX7_isLetter_0 : (decode cX7_isLetter 0 = .ok (.iload_n 0, 1)) ∧ (decode cX7_isLetter 1 = .ok (.bipush 97, 2)) ∧ (decode cX7_isLetter 3 = .ok (.if_icmp .lt 9, 3)) ∧ (decode cX7_isLetter 6 = .ok (.iload_n 0, 1)) ∧ (decode cX7_isLetter 7 = .ok (.bipush 122, 2)) ∧ (decode cX7_isLetter 9 = .ok (.if_icmp .le 15, 3)) ∧ (decode cX7_isLetter 12 = .ok (.iload_n 0, 1)) ∧ (decode cX7_isLetter 13 = .ok (.bipush 65, 2)) ∧ (decode cX7_isLetter 15 = .ok (.if_icmp .lt 13, 3)) ∧ (decode cX7_isLetter 18 = .ok (.iload_n 0, 1)) ∧ (decode cX7_isLetter 19 = .ok (.bipush 90, 2)) ∧ (decode cX7_isLetter 21 = .ok (.if_icmp .gt 7, 3)) ∧ (decode cX7_isLetter 24 = .ok (.iconst 1, 1)) ∧ (decode cX7_isLetter 25 = .ok (.goto 4, 3)) ∧ (decode cX7_isLetter 28 = .ok (.iconst 0, 1)) ∧ (decode cX7_isLetter 29 = .ok (.ireturn, 1)) := by decide +kernel
theorem dX7_isLetter_0 : decode cX7_isLetter 0 = .ok (.iload_n 0, 1) := bdX7_isLetter_0.1
theorem dX7_isLetter_1 : decode cX7_isLetter 1 = .ok (.bipush 97, 2) := bdX7_isLetter_0.2.1
theorem dX7_isLetter_3 : decode cX7_isLetter 3 = .ok (.if_icmp .lt 9, 3) := bdX7_isLetter_0.2.2.1
theorem dX7_isLetter_6 : decode cX7_isLetter 6 = .ok (.iload_n 0, 1) := bdX7_isLetter_0.2.2.2.1
theorem dX7_isLetter_7 : decode cX7_isLetter 7 = .ok (.bipush 122, 2) := bdX7_isLetter_0.2.2.2.2.1
theorem dX7_isLetter_9 : decode cX7_isLetter 9 = .ok (.if_icmp .le 15, 3) := bdX7_isLetter_0.2.2.2.2.2.1
theorem dX7_isLetter_12 : decode cX7_isLetter 12 = .ok (.iload_n 0, 1) := bdX7_isLetter_0.2.2.2.2.2.2.1
theorem dX7_isLetter_13 : decode cX7_isLetter 13 = .ok (.bipush 65, 2) := bdX7_isLetter_0.2.2.2.2.2.2.2.1
theorem dX7_isLetter_15 : decode cX7_isLetter 15 = .ok (.if_icmp .lt 13, 3) := bdX7_isLetter_0.2.2.2.2.2.2.2.2.1
theorem dX7_isLetter_18 : decode cX7_isLetter 18 = .ok (.iload_n 0, 1) := bdX7_isLetter_0.2.2.2.2.2.2.2.2.2.1
theorem dX7_isLetter_19 : decode cX7_isLetter 19 = .ok (.bipush 90, 2) := bdX7_isLetter_0.2.2.2.2.2.2.2.2.2.2.1
theorem dX7_isLetter_21 : decode cX7_isLetter 21 = .ok (.if_icmp .gt 7, 3) := bdX7_isLetter_0.2.2.2.2.2.2.2.2.2.2.2.1
theorem dX7_isLetter_24 : decode cX7_isLetter 24 = .ok (.iconst 1, 1) := bdX7_isLetter_0.2.2.2.2.2.2.2.2.2.2.2.2.1
theorem dX7_isLetter_25 : decode cX7_isLetter 25 = .ok (.goto 4, 3) := bdX7_isLetter_0.2.2.2.2.2.2.2.2.2.2.2.2.2.1
theorem dX7_isLetter_28 : decode cX7_isLetter 28 = .ok (.iconst 0, 1) := bdX7_isLetter_0.2.2.2.2.2.2.2.2.2.2.2.2.2.2.1
theorem dX7_isLetter_29 : decode cX7_isLetter 29 = .ok (.ireturn, 1) := bdX7_isLetter_0.2.2.2.2.2.2.2.2.2.2.2.2.2.2.2
theorem bdX7_isWord_0 : (decode cX7_isWord 0 = .ok (.iload_n 2, 1)) ∧ (decode cX7_isWord 1 = .ok (.iload_n 1, 1)) ∧ (decode cX7_isWord 2 = .ok (.isub, 1)) ∧ (decode cX7_isWord 3 = .ok (.iload 4, 2)) ∧ (decode cX7_isWord 5 = .ok (.iload_n 3, 1)) ∧ (decode cX7_isWord 6 = .ok (.isub, 1)) ∧ (decode cX7_isWord 7 = .ok (.if_icmp .ne 17, 3)) ∧ (decode cX7_isWord 10 = .ok (.iload_n 3, 1)) ∧ (decode cX7_isWord 11 = .ok (.ifCond .lt 13, 3)) ∧ (decode cX7_isWord 14 = .ok (.iload 4, 2)) ∧ (decode cX7_isWord 16 = .ok (.ldc 90, 2)) ∧ (decode cX7_isWord 18 = .ok (.invokevirtual 92, 3)) ∧ (decode cX7_isWord 21 = .ok (.if_icmp .le 5, 3)) ∧ (decode cX7_isWord 24 = .ok (.iconst 0, 1)) ∧ (decode cX7_isWord 25 = .ok (.ireturn, 1)) ∧ (decode cX7_isWord 26 = .ok (.iload_n 3, 1)) := by decide +kernel
theorem dX7_isWord_0 : decode cX7_isWord 0 = .ok (.iload_n 2, 1) := bdX7_isWord_0.1
theorem dX7_isWord_1 : decode cX7_isWord 1 = .ok (.iload_n 1, 1) := bdX7_isWord_0.2.1
theorem dX7_isWord_2 : decode cX7_isWord 2 = .ok (.isub, 1) := bdX7_isWord_0.2.2.1
theorem dX7_isWord_3 : decode cX7_isWord 3 = .ok (.iload 4, 2) := bdX7_isWord_0.2.2.2.1
theorem dX7_isWord_5 : decode cX7_isWord 5 = .ok (.iload_n 3, 1) := bdX7_isWord_0.2.2.2.2.1
theorem dX7_isWord_6 : decode cX7_isWord 6 = .ok (.isub, 1) := bdX7_isWord_0.2.2.2.2.2.1
theorem dX7_isWord_7 : decode cX7_isWord 7 = .ok (.if_icmp .ne 17, 3) := bdX7_isWord_0.2.2.2.2.2.2.1
theorem dX7_isWord_10 : decode cX7_isWord 10 = .ok (.iload_n 3, 1) := bdX7_isWord_0.2.2.2.2.2.2.2.1
theorem dX7_isWord_11 : decode cX7_isWord 11 = .ok (.ifCond .lt 13, 3) := bdX7_isWord_0.2.2.2.2.2.2.2.2.1
theorem dX7_isWord_14 : decode cX7_isWord 14 = .ok (.iload 4, 2) := bdX7_isWord_0.2.2.2.2.2.2.2.2.2.1
theorem dX7_isWord_16 : decode cX7_isWord 16 = .ok (.ldc 90, 2) := bdX7_isWord_0.2.2.2.2.2.2.2.2.2.2.1
theorem dX7_isWord_18 : decode cX7_isWord 18 = .ok (.invokevirtual 92, 3) := bdX7_isWord_0.2.2.2.2.2.2.2.2.2.2.2.1
theorem dX7_isWord_21 : decode cX7_isWord 21 = .ok (.if_icmp .le 5, 3) := bdX7_isWord_0.2.2.2.2.2.2.2.2.2.2.2.2.1
theorem dX7_isWord_24 : decode cX7_isWord 24 = .ok (.iconst 0, 1) := bdX7_isWord_0.2.2.2.2.2.2.2.2.2.2.2.2.2.1
theorem dX7_isWord_25 : decode cX7_isWord 25 = .ok (.ireturn, 1) := bdX7_isWord_0.2.2.2.2.2.2.2.2.2.2.2.2.2.2.1
theorem dX7_isWord_26 : decode cX7_isWord 26 = .ok (.iload_n 3, 1) := bdX7_isWord_0.2.2.2.2.2.2.2.2.2.2.2.2.2.2.2
theorem bdX7_isWord_27 : (decode cX7_isWord 27 = .ok (.istore 5, 2)) ∧ (decode cX7_isWord 29 = .ok (.iload 5, 2)) ∧ (decode cX7_isWord 31 = .ok (.iload 4, 2)) ∧ (decode cX7_isWord 33 = .ok (.if_icmp .ge 31, 3)) ∧ (decode cX7_isWord 36 = .ok (.ldc 90, 2)) ∧ (decode cX7_isWord 38 = .ok (.iload 5, 2)) ∧ (decode cX7_isWord 40 = .ok (.invokevirtual 96, 3)) ∧ (decode cX7_isWord 43 = .ok (.aload_n 0, 1)) ∧ (decode cX7_isWord 44 = .ok (.iload_n 1, 1)) ∧ (decode cX7_isWord 45 = .ok (.iload 5, 2)) ∧ (decode cX7_isWord 47 = .ok (.iadd, 1)) ∧ (decode cX7_isWord 48 = .ok (.iload_n 3, 1)) ∧ (decode cX7_isWord 49 = .ok (.isub, 1)) ∧ (decode cX7_isWord 50 = .ok (.invokevirtual 67, 3)) ∧ (decode cX7_isWord 53 = .ok (.if_icmp .eq 5, 3)) ∧ (decode cX7_isWord 56 = .ok (.iconst 0, 1)) := by decide +kernel
theorem dX7_isWord_27 : decode cX7_isWord 27 = .ok (.istore 5, 2) := bdX7_isWord_27.1
theorem dX7_isWord_29 : decode cX7_isWord 29 = .ok (.iload 5, 2) := bdX7_isWord_27.2.1
theorem dX7_isWord_31 : decode cX7_isWord 31 = .ok (.iload 4, 2) := bdX7_isWord_27.2.2.1
theorem dX7_isWord_33 : decode cX7_isWord 33 = .ok (.if_icmp .ge 31, 3) := bdX7_isWord_27.2.2.2.1
theorem dX7_isWord_36 : decode cX7_isWord 36 = .ok (.ldc 90, 2) := bdX7_isWord_27.2.2.2.2.1
theorem dX7_isWord_38 : decode cX7_isWord 38 = .ok (.iload 5, 2) := bdX7_isWord_27.2.2.2.2.2.1
theorem dX7_isWord_40 : decode cX7_isWord 40 = .ok (.invokevirtual 96, 3) := bdX7_isWord_27.2.2.2.2.2.2.1
theorem dX7_isWord_43 : decode cX7_isWord 43 = .ok (.aload_n 0, 1) := bdX7_isWord_27.2.2.2.2.2.2.2.1
theorem dX7_isWord_44 : decode cX7_isWord 44 = .ok (.iload_n 1, 1) := bdX7_isWord_27.2.2.2.2.2.2.2.2.1
theorem dX7_isWord_45 : decode cX7_isWord 45 = .ok (.iload 5, 2) := bdX7_isWord_27.2.2.2.2.2.2.2.2.2.1
theorem dX7_isWord_47 : decode cX7_isWord 47 = .ok (.iadd, 1) := bdX7_isWord_27.2.2.2.2.2.2.2.2.2.2.1
theorem dX7_isWord_48 : decode cX7_isWord 48 = .ok (.iload_n 3, 1) := bdX7_isWord_27.2.2.2.2.2.2.2.2.2.2.2.1
theorem dX7_isWord_49 : decode cX7_isWord 49 = .ok (.isub, 1) := bdX7_isWord_27.2.2.2.2.2.2.2.2.2.2.2.2.1
theorem dX7_isWord_50 : decode cX7_isWord 50 = .ok (.invokevirtual 67, 3) := bdX7_isWord_27.2.2.2.2.2.2.2.2.2.2.2.2.2.1
theorem dX7_isWord_53 : decode cX7_isWord 53 = .ok (.if_icmp .eq 5, 3) := bdX7_isWord_27.2.2.2.2.2.2.2.2.2.2.2.2.2.2.1
theorem dX7_isWord_56 : decode cX7_isWord 56 = .ok (.iconst 0, 1) := bdX7_isWord_27.2.2.2.2.2.2.2.2.2.2.2.2.2.2.2
theorem bdX7_isWord_57 : (decode cX7_isWord 57 = .ok (.ireturn, 1)) ∧ (decode cX7_isWord 58 = .ok (.iinc 5 1, 3)) ∧ (decode cX7_isWord 61 = .ok (.goto (-32), 3)) ∧ (decode cX7_isWord 64 = .ok (.iconst 1, 1)) ∧ (decode cX7_isWord 65 = .ok (.ireturn, 1)) := by decide +kernel
theorem dX7_isWord_57 : decode cX7_isWord 57 = .ok (.ireturn, 1) := bdX7_isWord_57.1
theorem dX7_isWord_58 : decode cX7_isWord 58 = .ok (.iinc 5 1, 3) := bdX7_isWord_57.2.1
theorem dX7_isWord_61 : decode cX7_isWord 61 = .ok (.goto (-32), 3) := bdX7_isWord_57.2.2.1
theorem dX7_isWord_64 : decode cX7_isWord 64 = .ok (.iconst 1, 1) := bdX7_isWord_57.2.2.2.1
theorem dX7_isWord_65 : decode cX7_isWord 65 = .ok (.ireturn, 1) := bdX7_isWord_57.2.2.2.2
theorem bdX7_addWord_0 : (decode cX7_addWord 0 = .ok (.bipush 20, 2)) ∧ (decode cX7_addWord 2 = .ok (.istore_n 3, 1)) ∧ (decode cX7_addWord 3 = .ok (.iconst 0, 1)) ∧ (decode cX7_addWord 4 = .ok (.istore 4, 2)) ∧ (decode cX7_addWord 6 = .ok (.iconst 0, 1)) ∧ (decode cX7_addWord 7 = .ok (.istore 5, 2)) ∧ (decode cX7_addWord 9 = .ok (.iload 5, 2)) ∧ (decode cX7_addWord 11 = .ok (.ldc 90, 2)) ∧ (decode cX7_addWord 13 = .ok (.invokevirtual 92, 3)) ∧ (decode cX7_addWord 16 = .ok (.if_icmp .ge 59, 3)) ∧ (decode cX7_addWord 19 = .ok (.ldc 90, 2)) ∧ (decode cX7_addWord 21 = .ok (.iload 5, 2)) ∧ (decode cX7_addWord 23 = .ok (.invokevirtual 96, 3)) ∧ (decode cX7_addWord 26 = .ok (.bipush 32, 2)) ∧ (decode cX7_addWord 28 = .ok (.if_icmp .ne 41, 3)) ∧ (decode cX7_addWord 31 = .ok (.aload_n 0, 1)) := by decide +kernel
theorem dX7_addWord_0 : decode cX7_addWord 0 = .ok (.bipush 20, 2) := bdX7_addWord_0.1
theorem dX7_addWord_2 : decode cX7_addWord 2 = .ok (.istore_n 3, 1) := bdX7_addWord_0.2.1
theorem dX7_addWord_3 : decode cX7_addWord 3 = .ok (.iconst 0, 1) := bdX7_addWord_0.2.2.1
theorem dX7_addWord_4 : decode cX7_addWord 4 = .ok (.istore 4, 2) := bdX7_addWord_0.2.2.2.1
theorem dX7_addWord_6 : decode cX7_addWord 6 = .ok (.iconst 0, 1) := bdX7_addWord_0.2.2.2.2.1
theorem dX7_addWord_7 : decode cX7_addWord 7 = .ok (.istore 5, 2) := bdX7_addWord_0.2.2.2.2.2.1
theorem dX7_addWord_9 : decode cX7_addWord 9 = .ok (.iload 5, 2) := bdX7_addWord_0.2.2.2.2.2.2.1
theorem dX7_addWord_11 : decode cX7_addWord 11 = .ok (.ldc 90, 2) := bdX7_addWord_0.2.2.2.2.2.2.2.1
theorem dX7_addWord_13 : decode cX7_addWord 13 = .ok (.invokevirtual 92, 3) := bdX7_addWord_0.2.2.2.2.2.2.2.2.1
theorem dX7_addWord_16 : decode cX7_addWord 16 = .ok (.if_icmp .ge 59, 3) := bdX7_addWord_0.2.2.2.2.2.2.2.2.2.1
theorem dX7_addWord_19 : decode cX7_addWord 19 = .ok (.ldc 90, 2) := bdX7_addWord_0.2.2.2.2.2.2.2.2.2.2.1
theorem dX7_addWord_21 : decode cX7_addWord 21 = .ok (.iload 5, 2) := bdX7_addWord_0.2.2.2.2.2.2.2.2.2.2.2.1
theorem dX7_addWord_23 : decode cX7_addWord 23 = .ok (.invokevirtual 96, 3) := bdX7_addWord_0.2.2.2.2.2.2.2.2.2.2.2.2.1
theorem dX7_addWord_26 : decode cX7_addWord 26 = .ok (.bipush 32, 2) := bdX7_addWord_0.2.2.2.2.2.2.2.2.2.2.2.2.2.1
theorem dX7_addWord_28 : decode cX7_addWord 28 = .ok (.if_icmp .ne 41, 3) := bdX7_addWord_0.2.2.2.2.2.2.2.2.2.2.2.2.2.2.1
theorem dX7_addWord_31 : decode cX7_addWord 31 = .ok (.aload_n 0, 1) := bdX7_addWord_0.2.2.2.2.2.2.2.2.2.2.2.2.2.2.2
theorem bdX7_addWord_32 : (decode cX7_addWord 32 = .ok (.iload_n 1, 1)) ∧ (decode cX7_addWord 33 = .ok (.iload_n 2, 1)) ∧ (decode cX7_addWord 34 = .ok (.iload 4, 2)) ∧ (decode cX7_addWord 36 = .ok (.iload 5, 2)) ∧ (decode cX7_addWord 38 = .ok (.invokevirtual 100, 3)) ∧ (decode cX7_addWord 41 = .ok (.ifCond .eq 19, 3)) ∧ (decode cX7_addWord 44 = .ok (.aload_n 0, 1)) ∧ (decode cX7_addWord 45 = .ok (.iload_n 3, 1)) ∧ (decode cX7_addWord 46 = .ok (.bipush 26, 2)) ∧ (decode cX7_addWord 48 = .ok (.invokestatic 81, 3)) ∧ (decode cX7_addWord 51 = .ok (.iload_n 3, 1)) ∧ (decode cX7_addWord 52 = .ok (.bipush 26, 2)) ∧ (decode cX7_addWord 54 = .ok (.isub, 1)) ∧ (decode cX7_addWord 55 = .ok (.iload_n 1, 1)) ∧ (decode cX7_addWord 56 = .ok (.invokevirtual 63, 3)) ∧ (decode cX7_addWord 59 = .ok (.return_, 1)) := by decide +kernel
theorem dX7_addWord_32 : decode cX7_addWord 32 = .ok (.iload_n 1, 1) := bdX7_addWord_32.1
theorem dX7_addWord_33 : decode cX7_addWord 33 = .ok (.iload_n 2, 1) := bdX7_addWord_32.2.1
theorem dX7_addWord_34 : decode cX7_addWord 34 = .ok (.iload 4, 2) := bdX7_addWord_32.2.2.1
theorem dX7_addWord_36 : decode cX7_addWord 36 = .ok (.iload 5, 2) := bdX7_addWord_32.2.2.2.1
theorem dX7_addWord_38 : decode cX7_addWord 38 = .ok (.invokevirtual 100, 3) := bdX7_addWord_32.2.2.2.2.1
theorem dX7_addWord_41 : decode cX7_addWord 41 = .ok (.ifCond .eq 19, 3) := bdX7_addWord_32.2.2.2.2.2.1
theorem dX7_addWord_44 : decode cX7_addWord 44 = .ok (.aload_n 0, 1) := bdX7_addWord_32.2.2.2.2.2.2.1
theorem dX7_addWord_45 : decode cX7_addWord 45 = .ok (.iload_n 3, 1) := bdX7_addWord_32.2.2.2.2.2.2.2.1
theorem dX7_addWord_46 : decode cX7_addWord 46 = .ok (.bipush 26, 2) := bdX7_addWord_32.2.2.2.2.2.2.2.2.1
theorem dX7_addWord_48 : decode cX7_addWord 48 = .ok (.invokestatic 81, 3) := bdX7_addWord_32.2.2.2.2.2.2.2.2.2.1
theorem dX7_addWord_51 : decode cX7_addWord 51 = .ok (.iload_n 3, 1) := bdX7_addWord_32.2.2.2.2.2.2.2.2.2.2.1
theorem dX7_addWord_52 : decode cX7_addWord 52 = .ok (.bipush 26, 2) := bdX7_addWord_32.2.2.2.2.2.2.2.2.2.2.2.1
theorem dX7_addWord_54 : decode cX7_addWord 54 = .ok (.isub, 1) := bdX7_addWord_32.2.2.2.2.2.2.2.2.2.2.2.2.1
theorem dX7_addWord_55 : decode cX7_addWord 55 = .ok (.iload_n 1, 1) := bdX7_addWord_32.2.2.2.2.2.2.2.2.2.2.2.2.2.1
theorem dX7_addWord_56 : decode cX7_addWord 56 = .ok (.invokevirtual 63, 3) := bdX7_addWord_32.2.2.2.2.2.2.2.2.2.2.2.2.2.2.1
theorem dX7_addWord_59 : decode cX7_addWord 59 = .ok (.return_, 1) := bdX7_addWord_32.2.2.2.2.2.2.2.2.2.2.2.2.2.2.2
theorem bdX7_addWord_60 : (decode cX7_addWord 60 = .ok (.iinc 3 1, 3)) ∧ (decode cX7_addWord 63 = .ok (.iload 5, 2)) ∧ (decode cX7_addWord 65 = .ok (.iconst 1, 1)) ∧ (decode cX7_addWord 66 = .ok (.iadd, 1)) ∧ (decode cX7_addWord 67 = .ok (.istore 4, 2)) ∧ (decode cX7_addWord 69 = .ok (.iinc 5 1, 3)) ∧ (decode cX7_addWord 72 = .ok (.goto (-63), 3)) ∧ (decode cX7_addWord 75 = .ok (.aload_n 0, 1)) ∧ (decode cX7_addWord 76 = .ok (.iconst 1, 1)) ∧ (decode cX7_addWord 77 = .ok (.iconst 0, 1)) ∧ (decode cX7_addWord 78 = .ok (.iload_n 1, 1)) ∧ (decode cX7_addWord 79 = .ok (.invokevirtual 63, 3)) ∧ (decode cX7_addWord 82 = .ok (.return_, 1)) := by decide +kernel
theorem dX7_addWord_60 : decode cX7_addWord 60 = .ok (.iinc 3 1, 3) := bdX7_addWord_60.1
theorem dX7_addWord_63 : decode cX7_addWord 63 = .ok (.iload 5, 2) := bdX7_addWord_60.2.1
theorem dX7_addWord_65 : decode cX7_addWord 65 = .ok (.iconst 1, 1) := bdX7_addWord_60.2.2.1
theorem dX7_addWord_66 : decode cX7_addWord 66 = .ok (.iadd, 1) := bdX7_addWord_60.2.2.2.1
theorem dX7_addWord_67 : decode cX7_addWord 67 = .ok (.istore 4, 2) := bdX7_addWord_60.2.2.2.2.1
theorem dX7_addWord_69 : decode cX7_addWord 69 = .ok (.iinc 5 1, 3) := bdX7_addWord_60.2.2.2.2.2.1
theorem dX7_addWord_72 : decode cX7_addWord 72 = .ok (.goto (-63), 3) := bdX7_addWord_60.2.2.2.2.2.2.1
theorem dX7_addWord_75 : decode cX7_addWord 75 = .ok (.aload_n 0, 1) := bdX7_addWord_60.2.2.2.2.2.2.2.1
theorem dX7_addWord_76 : decode cX7_addWord 76 = .ok (.iconst 1, 1) := bdX7_addWord_60.2.2.2.2.2.2.2.2.1
theorem dX7_addWord_77 : decode cX7_addWord 77 = .ok (.iconst 0, 1) := bdX7_addWord_60.2.2.2.2.2.2.2.2.2.1
theorem dX7_addWord_78 : decode cX7_addWord 78 = .ok (.iload_n 1, 1) := bdX7_addWord_60.2.2.2.2.2.2.2.2.2.2.1
theorem dX7_addWord_79 : decode cX7_addWord 79 = .ok (.invokevirtual 63, 3) := bdX7_addWord_60.2.2.2.2.2.2.2.2.2.2.2.1
theorem dX7_addWord_82 : decode cX7_addWord 82 = .ok (.return_, 1) := bdX7_addWord_60.2.2.2.2.2.2.2.2.2.2.2.2
theorem bdX7_cutOne_0 : (decode cX7_cutOne 0 = .ok (.aload_n 0, 1)) ∧ (decode cX7_cutOne 1 = .ok (.iload_n 1, 1)) ∧ (decode cX7_cutOne 2 = .ok (.invokevirtual 67, 3)) ∧ (decode cX7_cutOne 5 = .ok (.istore_n 2, 1)) ∧ (decode cX7_cutOne 6 = .ok (.iload_n 2, 1)) ∧ (decode cX7_cutOne 7 = .ok (.bipush 32, 2)) ∧ (decode cX7_cutOne 9 = .ok (.if_icmp .eq 9, 3)) ∧ (decode cX7_cutOne 12 = .ok (.iload_n 2, 1)) ∧ (decode cX7_cutOne 13 = .ok (.bipush 10, 2)) ∧ (decode cX7_cutOne 15 = .ok (.if_icmp .ne 7, 3)) ∧ (decode cX7_cutOne 18 = .ok (.iload_n 1, 1)) ∧ (decode cX7_cutOne 19 = .ok (.iconst 1, 1)) ∧ (decode cX7_cutOne 20 = .ok (.iadd, 1)) ∧ (decode cX7_cutOne 21 = .ok (.ireturn, 1)) ∧ (decode cX7_cutOne 22 = .ok (.iload_n 1, 1)) ∧ (decode cX7_cutOne 23 = .ok (.iconst 1, 1)) := by decide +kernel
theorem dX7_cutOne_0 : decode cX7_cutOne 0 = .ok (.aload_n 0, 1) := bdX7_cutOne_0.1
theorem dX7_cutOne_1 : decode cX7_cutOne 1 = .ok (.iload_n 1, 1) := bdX7_cutOne_0.2.1
theorem dX7_cutOne_2 : decode cX7_cutOne 2 = .ok (.invokevirtual 67, 3) := bdX7_cutOne_0.2.2.1
theorem dX7_cutOne_5 : decode cX7_cutOne 5 = .ok (.istore_n 2, 1) := bdX7_cutOne_0.2.2.2.1
theorem dX7_cutOne_6 : decode cX7_cutOne 6 = .ok (.iload_n 2, 1) := bdX7_cutOne_0.2.2.2.2.1
theorem dX7_cutOne_7 : decode cX7_cutOne 7 = .ok (.bipush 32, 2) := bdX7_cutOne_0.2.2.2.2.2.1
theorem dX7_cutOne_9 : decode cX7_cutOne 9 = .ok (.if_icmp .eq 9, 3) := bdX7_cutOne_0.2.2.2.2.2.2.1
theorem dX7_cutOne_12 : decode cX7_cutOne 12 = .ok (.iload_n 2, 1) := bdX7_cutOne_0.2.2.2.2.2.2.2.1
theorem dX7_cutOne_13 : decode cX7_cutOne 13 = .ok (.bipush 10, 2) := bdX7_cutOne_0.2.2.2.2.2.2.2.2.1
theorem dX7_cutOne_15 : decode cX7_cutOne 15 = .ok (.if_icmp .ne 7, 3) := bdX7_cutOne_0.2.2.2.2.2.2.2.2.2.1
theorem dX7_cutOne_18 : decode cX7_cutOne 18 = .ok (.iload_n 1, 1) := bdX7_cutOne_0.2.2.2.2.2.2.2.2.2.2.1
theorem dX7_cutOne_19 : decode cX7_cutOne 19 = .ok (.iconst 1, 1) := bdX7_cutOne_0.2.2.2.2.2.2.2.2.2.2.2.1
theorem dX7_cutOne_20 : decode cX7_cutOne 20 = .ok (.iadd, 1) := bdX7_cutOne_0.2.2.2.2.2.2.2.2.2.2.2.2.1
theorem dX7_cutOne_21 : decode cX7_cutOne 21 = .ok (.ireturn, 1) := bdX7_cutOne_0.2.2.2.2.2.2.2.2.2.2.2.2.2.1
theorem dX7_cutOne_22 : decode cX7_cutOne 22 = .ok (.iload_n 1, 1) := bdX7_cutOne_0.2.2.2.2.2.2.2.2.2.2.2.2.2.2.1
theorem dX7_cutOne_23 : decode cX7_cutOne 23 = .ok (.iconst 1, 1) := bdX7_cutOne_0.2.2.2.2.2.2.2.2.2.2.2.2.2.2.2
theorem bdX7_cutOne_24 : (decode cX7_cutOne 24 = .ok (.iadd, 1)) ∧ (decode cX7_cutOne 25 = .ok (.istore_n 3, 1)) ∧ (decode cX7_cutOne 26 = .ok (.iload_n 2, 1)) ∧ (decode cX7_cutOne 27 = .ok (.invokestatic 70, 3)) ∧ (decode cX7_cutOne 30 = .ok (.ifCond .eq 37, 3)) ∧ (decode cX7_cutOne 33 = .ok (.iload_n 3, 1)) ∧ (decode cX7_cutOne 34 = .ok (.aload_n 0, 1)) ∧ (decode cX7_cutOne 35 = .ok (.getfield 31, 3)) ∧ (decode cX7_cutOne 38 = .ok (.if_icmp .ge 20, 3)) ∧ (decode cX7_cutOne 41 = .ok (.aload_n 0, 1)) ∧ (decode cX7_cutOne 42 = .ok (.iload_n 3, 1)) ∧ (decode cX7_cutOne 43 = .ok (.invokevirtual 67, 3)) ∧ (decode cX7_cutOne 46 = .ok (.invokestatic 70, 3)) ∧ (decode cX7_cutOne 49 = .ok (.ifCond .eq 9, 3)) ∧ (decode cX7_cutOne 52 = .ok (.iinc 3 1, 3)) ∧ (decode cX7_cutOne 55 = .ok (.goto (-22), 3)) := by decide +kernel
theorem dX7_cutOne_24 : decode cX7_cutOne 24 = .ok (.iadd, 1) := bdX7_cutOne_24.1
theorem dX7_cutOne_25 : decode cX7_cutOne 25 = .ok (.istore_n 3, 1) := bdX7_cutOne_24.2.1
theorem dX7_cutOne_26 : decode cX7_cutOne 26 = .ok (.iload_n 2, 1) := bdX7_cutOne_24.2.2.1
theorem dX7_cutOne_27 : decode cX7_cutOne 27 = .ok (.invokestatic 70, 3) := bdX7_cutOne_24.2.2.2.1
theorem dX7_cutOne_30 : decode cX7_cutOne 30 = .ok (.ifCond .eq 37, 3) := bdX7_cutOne_24.2.2.2.2.1
theorem dX7_cutOne_33 : decode cX7_cutOne 33 = .ok (.iload_n 3, 1) := bdX7_cutOne_24.2.2.2.2.2.1
theorem dX7_cutOne_34 : decode cX7_cutOne 34 = .ok (.aload_n 0, 1) := bdX7_cutOne_24.2.2.2.2.2.2.1
theorem dX7_cutOne_35 : decode cX7_cutOne 35 = .ok (.getfield 31, 3) := bdX7_cutOne_24.2.2.2.2.2.2.2.1
theorem dX7_cutOne_38 : decode cX7_cutOne 38 = .ok (.if_icmp .ge 20, 3) := bdX7_cutOne_24.2.2.2.2.2.2.2.2.1
theorem dX7_cutOne_41 : decode cX7_cutOne 41 = .ok (.aload_n 0, 1) := bdX7_cutOne_24.2.2.2.2.2.2.2.2.2.1
theorem dX7_cutOne_42 : decode cX7_cutOne 42 = .ok (.iload_n 3, 1) := bdX7_cutOne_24.2.2.2.2.2.2.2.2.2.2.1
theorem dX7_cutOne_43 : decode cX7_cutOne 43 = .ok (.invokevirtual 67, 3) := bdX7_cutOne_24.2.2.2.2.2.2.2.2.2.2.2.1
theorem dX7_cutOne_46 : decode cX7_cutOne 46 = .ok (.invokestatic 70, 3) := bdX7_cutOne_24.2.2.2.2.2.2.2.2.2.2.2.2.1
theorem dX7_cutOne_49 : decode cX7_cutOne 49 = .ok (.ifCond .eq 9, 3) := bdX7_cutOne_24.2.2.2.2.2.2.2.2.2.2.2.2.2.1
theorem dX7_cutOne_52 : decode cX7_cutOne 52 = .ok (.iinc 3 1, 3) := bdX7_cutOne_24.2.2.2.2.2.2.2.2.2.2.2.2.2.2.1
theorem dX7_cutOne_55 : decode cX7_cutOne 55 = .ok (.goto (-22), 3) := bdX7_cutOne_24.2.2.2.2.2.2.2.2.2.2.2.2.2.2.2
theorem bdX7_cutOne_58 : (decode cX7_cutOne 58 = .ok (.aload_n 0, 1)) ∧ (decode cX7_cutOne 59 = .ok (.iload_n 1, 1)) ∧ (decode cX7_cutOne 60 = .ok (.iload_n 3, 1)) ∧ (decode cX7_cutOne 61 = .ok (.invokevirtual 74, 3)) ∧ (decode cX7_cutOne 64 = .ok (.goto 116, 3)) ∧ (decode cX7_cutOne 67 = .ok (.iload_n 2, 1)) ∧ (decode cX7_cutOne 68 = .ok (.invokestatic 78, 3)) ∧ (decode cX7_cutOne 71 = .ok (.ifCond .eq 67, 3)) ∧ (decode cX7_cutOne 74 = .ok (.iload_n 2, 1)) ∧ (decode cX7_cutOne 75 = .ok (.bipush 48, 2)) ∧ (decode cX7_cutOne 77 = .ok (.isub, 1)) ∧ (decode cX7_cutOne 78 = .ok (.istore 4, 2)) ∧ (decode cX7_cutOne 80 = .ok (.iload_n 3, 1)) ∧ (decode cX7_cutOne 81 = .ok (.aload_n 0, 1)) ∧ (decode cX7_cutOne 82 = .ok (.getfield 31, 3)) ∧ (decode cX7_cutOne 85 = .ok (.if_icmp .ge 42, 3)) := by decide +kernel
theorem dX7_cutOne_58 : decode cX7_cutOne 58 = .ok (.aload_n 0, 1) := bdX7_cutOne_58.1
theorem dX7_cutOne_59 : decode cX7_cutOne 59 = .ok (.iload_n 1, 1) := bdX7_cutOne_58.2.1
theorem dX7_cutOne_60 : decode cX7_cutOne 60 = .ok (.iload_n 3, 1) := bdX7_cutOne_58.2.2.1
theorem dX7_cutOne_61 : decode cX7_cutOne 61 = .ok (.invokevirtual 74, 3) := bdX7_cutOne_58.2.2.2.1
theorem dX7_cutOne_64 : decode cX7_cutOne 64 = .ok (.goto 116, 3) := bdX7_cutOne_58.2.2.2.2.1
theorem dX7_cutOne_67 : decode cX7_cutOne 67 = .ok (.iload_n 2, 1) := bdX7_cutOne_58.2.2.2.2.2.1
theorem dX7_cutOne_68 : decode cX7_cutOne 68 = .ok (.invokestatic 78, 3) := bdX7_cutOne_58.2.2.2.2.2.2.1
theorem dX7_cutOne_71 : decode cX7_cutOne 71 = .ok (.ifCond .eq 67, 3) := bdX7_cutOne_58.2.2.2.2.2.2.2.1
theorem dX7_cutOne_74 : decode cX7_cutOne 74 = .ok (.iload_n 2, 1) := bdX7_cutOne_58.2.2.2.2.2.2.2.2.1
theorem dX7_cutOne_75 : decode cX7_cutOne 75 = .ok (.bipush 48, 2) := bdX7_cutOne_58.2.2.2.2.2.2.2.2.2.1
theorem dX7_cutOne_77 : decode cX7_cutOne 77 = .ok (.isub, 1) := bdX7_cutOne_58.2.2.2.2.2.2.2.2.2.2.1
theorem dX7_cutOne_78 : decode cX7_cutOne 78 = .ok (.istore 4, 2) := bdX7_cutOne_58.2.2.2.2.2.2.2.2.2.2.2.1
theorem dX7_cutOne_80 : decode cX7_cutOne 80 = .ok (.iload_n 3, 1) := bdX7_cutOne_58.2.2.2.2.2.2.2.2.2.2.2.2.1
theorem dX7_cutOne_81 : decode cX7_cutOne 81 = .ok (.aload_n 0, 1) := bdX7_cutOne_58.2.2.2.2.2.2.2.2.2.2.2.2.2.1
theorem dX7_cutOne_82 : decode cX7_cutOne 82 = .ok (.getfield 31, 3) := bdX7_cutOne_58.2.2.2.2.2.2.2.2.2.2.2.2.2.2.1
theorem dX7_cutOne_85 : decode cX7_cutOne 85 = .ok (.if_icmp .ge 42, 3) := bdX7_cutOne_58.2.2.2.2.2.2.2.2.2.2.2.2.2.2.2
theorem bdX7_cutOne_88 : (decode cX7_cutOne 88 = .ok (.aload_n 0, 1)) ∧ (decode cX7_cutOne 89 = .ok (.iload_n 3, 1)) ∧ (decode cX7_cutOne 90 = .ok (.invokevirtual 67, 3)) ∧ (decode cX7_cutOne 93 = .ok (.invokestatic 78, 3)) ∧ (decode cX7_cutOne 96 = .ok (.ifCond .eq 31, 3)) ∧ (decode cX7_cutOne 99 = .ok (.sipush 10000, 3)) ∧ (decode cX7_cutOne 102 = .ok (.iload 4, 2)) ∧ (decode cX7_cutOne 104 = .ok (.bipush 10, 2)) ∧ (decode cX7_cutOne 106 = .ok (.imul, 1)) ∧ (decode cX7_cutOne 107 = .ok (.aload_n 0, 1)) ∧ (decode cX7_cutOne 108 = .ok (.iload_n 3, 1)) ∧ (decode cX7_cutOne 109 = .ok (.invokevirtual 67, 3)) ∧ (decode cX7_cutOne 112 = .ok (.iadd, 1)) ∧ (decode cX7_cutOne 113 = .ok (.bipush 48, 2)) ∧ (decode cX7_cutOne 115 = .ok (.isub, 1)) ∧ (decode cX7_cutOne 116 = .ok (.invokestatic 81, 3)) := by decide +kernel
theorem dX7_cutOne_88 : decode cX7_cutOne 88 = .ok (.aload_n 0, 1) := bdX7_cutOne_88.1
theorem dX7_cutOne_89 : decode cX7_cutOne 89 = .ok (.iload_n 3, 1) := bdX7_cutOne_88.2.1
theorem dX7_cutOne_90 : decode cX7_cutOne 90 = .ok (.invokevirtual 67, 3) := bdX7_cutOne_88.2.2.1
theorem dX7_cutOne_93 : decode cX7_cutOne 93 = .ok (.invokestatic 78, 3) := bdX7_cutOne_88.2.2.2.1
theorem dX7_cutOne_96 : decode cX7_cutOne 96 = .ok (.ifCond .eq 31, 3) := bdX7_cutOne_88.2.2.2.2.1
theorem dX7_cutOne_99 : decode cX7_cutOne 99 = .ok (.sipush 10000, 3) := bdX7_cutOne_88.2.2.2.2.2.1
theorem dX7_cutOne_102 : decode cX7_cutOne 102 = .ok (.iload 4, 2) := bdX7_cutOne_88.2.2.2.2.2.2.1
theorem dX7_cutOne_104 : decode cX7_cutOne 104 = .ok (.bipush 10, 2) := bdX7_cutOne_88.2.2.2.2.2.2.2.1
theorem dX7_cutOne_106 : decode cX7_cutOne 106 = .ok (.imul, 1) := bdX7_cutOne_88.2.2.2.2.2.2.2.2.1
theorem dX7_cutOne_107 : decode cX7_cutOne 107 = .ok (.aload_n 0, 1) := bdX7_cutOne_88.2.2.2.2.2.2.2.2.2.1
theorem dX7_cutOne_108 : decode cX7_cutOne 108 = .ok (.iload_n 3, 1) := bdX7_cutOne_88.2.2.2.2.2.2.2.2.2.2.1
theorem dX7_cutOne_109 : decode cX7_cutOne 109 = .ok (.invokevirtual 67, 3) := bdX7_cutOne_88.2.2.2.2.2.2.2.2.2.2.2.1
theorem dX7_cutOne_112 : decode cX7_cutOne 112 = .ok (.iadd, 1) := bdX7_cutOne_88.2.2.2.2.2.2.2.2.2.2.2.2.1
theorem dX7_cutOne_113 : decode cX7_cutOne 113 = .ok (.bipush 48, 2) := bdX7_cutOne_88.2.2.2.2.2.2.2.2.2.2.2.2.2.1
theorem dX7_cutOne_115 : decode cX7_cutOne 115 = .ok (.isub, 1) := bdX7_cutOne_88.2.2.2.2.2.2.2.2.2.2.2.2.2.2.1
theorem dX7_cutOne_116 : decode cX7_cutOne 116 = .ok (.invokestatic 81, 3) := bdX7_cutOne_88.2.2.2.2.2.2.2.2.2.2.2.2.2.2.2
theorem bdX7_cutOne_119 : (decode cX7_cutOne 119 = .ok (.istore 4, 2)) ∧ (decode cX7_cutOne 121 = .ok (.iinc 3 1, 3)) ∧ (decode cX7_cutOne 124 = .ok (.goto (-44), 3)) ∧ (decode cX7_cutOne 127 = .ok (.aload_n 0, 1)) ∧ (decode cX7_cutOne 128 = .ok (.iconst 2, 1)) ∧ (decode cX7_cutOne 129 = .ok (.iload 4, 2)) ∧ (decode cX7_cutOne 131 = .ok (.iload_n 1, 1)) ∧ (decode cX7_cutOne 132 = .ok (.invokevirtual 63, 3)) ∧ (decode cX7_cutOne 135 = .ok (.goto 45, 3)) ∧ (decode cX7_cutOne 138 = .ok (.iload_n 2, 1)) ∧ (decode cX7_cutOne 139 = .ok (.invokestatic 87, 3)) ∧ (decode cX7_cutOne 142 = .ok (.istore 4, 2)) ∧ (decode cX7_cutOne 144 = .ok (.iload 4, 2)) ∧ (decode cX7_cutOne 146 = .ok (.iconst 3, 1)) ∧ (decode cX7_cutOne 147 = .ok (.if_icmp .eq 9, 3)) ∧ (decode cX7_cutOne 150 = .ok (.iload 4, 2)) := by decide +kernel
theorem dX7_cutOne_119 : decode cX7_cutOne 119 = .ok (.istore 4, 2) := bdX7_cutOne_119.1
theorem dX7_cutOne_121 : decode cX7_cutOne 121 = .ok (.iinc 3 1, 3) := bdX7_cutOne_119.2.1
theorem dX7_cutOne_124 : decode cX7_cutOne 124 = .ok (.goto (-44), 3) := bdX7_cutOne_119.2.2.1
theorem dX7_cutOne_127 : decode cX7_cutOne 127 = .ok (.aload_n 0, 1) := bdX7_cutOne_119.2.2.2.1
theorem dX7_cutOne_128 : decode cX7_cutOne 128 = .ok (.iconst 2, 1) := bdX7_cutOne_119.2.2.2.2.1
theorem dX7_cutOne_129 : decode cX7_cutOne 129 = .ok (.iload 4, 2) := bdX7_cutOne_119.2.2.2.2.2.1
theorem dX7_cutOne_131 : decode cX7_cutOne 131 = .ok (.iload_n 1, 1) := bdX7_cutOne_119.2.2.2.2.2.2.1
theorem dX7_cutOne_132 : decode cX7_cutOne 132 = .ok (.invokevirtual 63, 3) := bdX7_cutOne_119.2.2.2.2.2.2.2.1
theorem dX7_cutOne_135 : decode cX7_cutOne 135 = .ok (.goto 45, 3) := bdX7_cutOne_119.2.2.2.2.2.2.2.2.1
theorem dX7_cutOne_138 : decode cX7_cutOne 138 = .ok (.iload_n 2, 1) := bdX7_cutOne_119.2.2.2.2.2.2.2.2.2.1
theorem dX7_cutOne_139 : decode cX7_cutOne 139 = .ok (.invokestatic 87, 3) := bdX7_cutOne_119.2.2.2.2.2.2.2.2.2.2.1
theorem dX7_cutOne_142 : decode cX7_cutOne 142 = .ok (.istore 4, 2) := bdX7_cutOne_119.2.2.2.2.2.2.2.2.2.2.2.1
theorem dX7_cutOne_144 : decode cX7_cutOne 144 = .ok (.iload 4, 2) := bdX7_cutOne_119.2.2.2.2.2.2.2.2.2.2.2.2.1
theorem dX7_cutOne_146 : decode cX7_cutOne 146 = .ok (.iconst 3, 1) := bdX7_cutOne_119.2.2.2.2.2.2.2.2.2.2.2.2.2.1
theorem dX7_cutOne_147 : decode cX7_cutOne 147 = .ok (.if_icmp .eq 9, 3) := bdX7_cutOne_119.2.2.2.2.2.2.2.2.2.2.2.2.2.2.1
theorem dX7_cutOne_150 : decode cX7_cutOne 150 = .ok (.iload 4, 2) := bdX7_cutOne_119.2.2.2.2.2.2.2.2.2.2.2.2.2.2.2
theorem bdX7_cutOne_152 : (decode cX7_cutOne 152 = .ok (.iconst 5, 1)) ∧ (decode cX7_cutOne 153 = .ok (.if_icmp .ne 19, 3)) ∧ (decode cX7_cutOne 156 = .ok (.aload_n 0, 1)) ∧ (decode cX7_cutOne 157 = .ok (.iload_n 3, 1)) ∧ (decode cX7_cutOne 158 = .ok (.invokevirtual 67, 3)) ∧ (decode cX7_cutOne 161 = .ok (.bipush 61, 2)) ∧ (decode cX7_cutOne 163 = .ok (.if_icmp .ne 9, 3)) ∧ (decode cX7_cutOne 166 = .ok (.iinc 4 1, 3)) ∧ (decode cX7_cutOne 169 = .ok (.iinc 3 1, 3)) ∧ (decode cX7_cutOne 172 = .ok (.aload_n 0, 1)) ∧ (decode cX7_cutOne 173 = .ok (.iload 4, 2)) ∧ (decode cX7_cutOne 175 = .ok (.iconst 0, 1)) ∧ (decode cX7_cutOne 176 = .ok (.iload_n 1, 1)) ∧ (decode cX7_cutOne 177 = .ok (.invokevirtual 63, 3)) ∧ (decode cX7_cutOne 180 = .ok (.iload_n 3, 1)) ∧ (decode cX7_cutOne 181 = .ok (.ireturn, 1)) := by decide +kernel
theorem dX7_cutOne_152 : decode cX7_cutOne 152 = .ok (.iconst 5, 1) := bdX7_cutOne_152.1
theorem dX7_cutOne_153 : decode cX7_cutOne 153 = .ok (.if_icmp .ne 19, 3) := bdX7_cutOne_152.2.1
theorem dX7_cutOne_156 : decode cX7_cutOne 156 = .ok (.aload_n 0, 1) := bdX7_cutOne_152.2.2.1
theorem dX7_cutOne_157 : decode cX7_cutOne 157 = .ok (.iload_n 3, 1) := bdX7_cutOne_152.2.2.2.1
theorem dX7_cutOne_158 : decode cX7_cutOne 158 = .ok (.invokevirtual 67, 3) := bdX7_cutOne_152.2.2.2.2.1
theorem dX7_cutOne_161 : decode cX7_cutOne 161 = .ok (.bipush 61, 2) := bdX7_cutOne_152.2.2.2.2.2.1
theorem dX7_cutOne_163 : decode cX7_cutOne 163 = .ok (.if_icmp .ne 9, 3) := bdX7_cutOne_152.2.2.2.2.2.2.1
theorem dX7_cutOne_166 : decode cX7_cutOne 166 = .ok (.iinc 4 1, 3) := bdX7_cutOne_152.2.2.2.2.2.2.2.1
theorem dX7_cutOne_169 : decode cX7_cutOne 169 = .ok (.iinc 3 1, 3) := bdX7_cutOne_152.2.2.2.2.2.2.2.2.1
theorem dX7_cutOne_172 : decode cX7_cutOne 172 = .ok (.aload_n 0, 1) := bdX7_cutOne_152.2.2.2.2.2.2.2.2.2.1
theorem dX7_cutOne_173 : decode cX7_cutOne 173 = .ok (.iload 4, 2) := bdX7_cutOne_152.2.2.2.2.2.2.2.2.2.2.1
theorem dX7_cutOne_175 : decode cX7_cutOne 175 = .ok (.iconst 0, 1) := bdX7_cutOne_152.2.2.2.2.2.2.2.2.2.2.2.1
theorem dX7_cutOne_176 : decode cX7_cutOne 176 = .ok (.iload_n 1, 1) := bdX7_cutOne_152.2.2.2.2.2.2.2.2.2.2.2.2.1
theorem dX7_cutOne_177 : decode cX7_cutOne 177 = .ok (.invokevirtual 63, 3) := bdX7_cutOne_152.2.2.2.2.2.2.2.2.2.2.2.2.2.1
theorem dX7_cutOne_180 : decode cX7_cutOne 180 = .ok (.iload_n 3, 1) := bdX7_cutOne_152.2.2.2.2.2.2.2.2.2.2.2.2.2.2.1
theorem dX7_cutOne_181 : decode cX7_cutOne 181 = .ok (.ireturn, 1) := bdX7_cutOne_152.2.2.2.2.2.2.2.2.2.2.2.2.2.2.2
def fX7_readBoth_59 (a0 : Nat) (a1 : Nat) (l2 : Int32) (m : xMem) : Option (Int32 × xMem) := bif (decide (l2 = 0) || decide (l2 = 1)) then some (l2, m) else none
set_option maxRecDepth 4000 in
theorem fX7_readBoth_59_ok {a0 : Nat} {a1 : Nat} {d : Nat} (hd : 44 ≤ d) (ha0 : isReader a0) (ha1 : isText a1) {l2 : Int32} {o3 : Option Value} {m : xMem} {r : (Int32 × xMem)} (q3 : xNoD o3 = true) (h : fX7_readBoth_59 a0 a1 l2 m = some r) : xFx hh_83 cX7_readBoth d 59 [some (.ref a0), some (.ref a1), some (.int l2), o3] [] (xLay m) 0 0 (some (.int r.1)) (xLay r.2) := by
  unfold fX7_readBoth_59 at h
  refine fx_iload_n dX7_readBoth_59 rfl rfl ?_
  obtain ⟨hb1, h⟩ := xChk_el h
  cases h
  exact fx_ireturn dX7_readBoth_60 rfl (by show ((decide _ || decide _) && _) = true; rw [hb1]; rfl)
def fX7_readBoth_9 (a0 : Nat) (a1 : Nat) : Nat → Int32 → Int32 → xMem → Option (Int32 × xMem)
  | 0, _, _, _ => none
  | fuel + 1, l2, l3, m => if (300 : Int32) ≤ l3 then fX7_readBoth_59 a0 a1 l2 m else if l2 = (0 : Int32) then fX7_readBoth_59 a0 a1 l2 m else (fX7_kind a0 m).bind fun p3 => if ¬ p3.1 = (24 : Int32) then fX7_readBoth_59 a0 a1 l2 p3.2 else xLet (p3.2.1 a0 8) fun x5 => xLet (x5 + (1 : Int32)) fun x6 => xLet (xPut p3.2 a0 8 x6) fun m7 => (fX7_readAsk a0 a1 (0 : Int32) m7).bind fun p8 => (fX10_add a1 (24 : Int32) (0 : Int32) p8.2).bind fun p9 => xLet (l3 + (1 : Int32)) fun x10 => fX7_readBoth_9 a0 a1 fuel p8.1 x10 p9
set_option maxRecDepth 4000 in
theorem fX7_readBoth_9_ok {a0 : Nat} {a1 : Nat} {d : Nat} (hd : 44 ≤ d) (ha0 : isReader a0) (ha1 : isText a1) : ∀ (fuel : Nat) (l2 : Int32) (l3 : Int32) (m : xMem) (r : (Int32 × xMem)), fX7_readBoth_9 a0 a1 fuel l2 l3 m = some r → xFx hh_83 cX7_readBoth d 9 [some (.ref a0), some (.ref a1), some (.int l2), some (.int l3)] [] (xLay m) 0 0 (some (.int r.1)) (xLay r.2) := by
  intro fuel
  induction fuel with
  | zero => intro l2 l3  m r  h; cases h
  | succ fuel ih =>
    intro l2 l3  m r  h
    unfold fX7_readBoth_9 at h
    refine fx_iload_n dX7_readBoth_9 rfl rfl ?_
    refine fx_sipush (x := 300) dX7_readBoth_10 rfl (by decide) ?_
    refine fx_icmp_ge (t := 59) dX7_readBoth_13 rfl rfl (fun hc1 => ?_) (fun hc1 => ?_)
    · rw [if_pos hc1] at h
      exact fX7_readBoth_59_ok (o3 := some (.int l3)) hd ha0 ha1 rfl h
    · rw [if_neg hc1] at h
      refine fx_iload_n dX7_readBoth_16 rfl rfl ?_
      refine fx_if_eq (t := 59) dX7_readBoth_17 rfl rfl (fun hc2 => ?_) (fun hc2 => ?_)
      · rw [if_pos hc2] at h
        exact fX7_readBoth_59_ok (o3 := some (.int l3)) hd ha0 ha1 rfl h
      · rw [if_neg hc2] at h
        refine fx_aload_n dX7_readBoth_20 rfl rfl ?_
        obtain ⟨p3, ep3, h⟩ := xBind_el h
        refine gx_callv (as := []) (r := []) rfl dX7_readBoth_21 ca_7_51 rfl me_72 rfl rfl rfl rfl (ha0.1) rfl (fX7_kind_ok (d := d) (by omega) ha0 ep3) rfl rfl ?_
        refine fx_bipush (x := 24) dX7_readBoth_24 rfl (by decide) ?_
        refine fx_icmp_ne (t := 59) dX7_readBoth_26 rfl rfl (fun hc4 => ?_) (fun hc4 => ?_)
        · rw [if_pos hc4] at h
          exact fX7_readBoth_59_ok (o3 := some (.int l3)) hd ha0 ha1 rfl h
        · rw [if_neg hc4] at h
          refine fx_aload_n dX7_readBoth_29 rfl rfl ?_
          refine fx_dup dX7_readBoth_30 rfl rfl ?_
          obtain ⟨x5, hx5, h⟩ := xLet_el h
          refine gx_get dX7_readBoth_31 rfl fd_7_37 ha0.1 rfl rfl hx5 ?_
          refine fx_iconst (x := 1) dX7_readBoth_34 rfl (by decide) ?_
          obtain ⟨x6, hx6, h⟩ := xLet_el h
          refine fx_iadd dX7_readBoth_35 rfl hx6 ?_
          obtain ⟨m7, hm7, h⟩ := xLet_el h
          refine gx_put dX7_readBoth_36 rfl fd_7_37 ha0.1 rfl rfl rfl hm7 ?_
          refine fx_aload_n dX7_readBoth_39 rfl rfl ?_
          refine fx_aload_n dX7_readBoth_40 rfl rfl ?_
          refine fx_iconst (x := 0) dX7_readBoth_41 rfl (by decide) ?_
          obtain ⟨p8, ep8, h⟩ := xBind_el h
          refine gx_callv (as := [.ref a1, .int (0 : Int32)]) (r := []) rfl dX7_readBoth_42 ca_7_133 rfl me_84 rfl rfl rfl rfl (ha0.1) rfl (fX7_readAsk_ok (d := d) (by omega) ha0 ha1 ep8) rfl rfl ?_
          refine fx_istore_n (ls2 := [some (.ref a0), some (.ref a1), some (.int p8.1), some (.int l3)]) dX7_readBoth_45 rfl rfl rfl ?_
          refine fx_aload_n dX7_readBoth_46 rfl rfl ?_
          refine fx_bipush (x := 24) dX7_readBoth_47 rfl (by decide) ?_
          refine fx_iconst (x := 0) dX7_readBoth_49 rfl (by decide) ?_
          obtain ⟨p9, ep9, h⟩ := xBind_el h
          refine gx_callv (as := [.int (24 : Int32), .int (0 : Int32)]) (r := []) rfl dX7_readBoth_50 ca_7_130 rfl me_78 rfl rfl rfl rfl (ha1.1) rfl (fX10_add_ok (d := d) (by omega) ha1 ep9) rfl rfl ?_
          obtain ⟨x10, hx10, h⟩ := xLet_el h
          refine fx_iinc (ls2 := [some (.ref a0), some (.ref a1), some (.int p8.1), some (.int x10)]) dX7_readBoth_53 rfl rfl rfl hx10 rfl ?_
          refine fx_goto (t := 9) dX7_readBoth_56 rfl rfl ?_
          exact ih p8.1 x10 p9 r h
def fX7_readBoth_0 (a0 : Nat) (a1 : Nat) (m : xMem) : Option (Int32 × xMem) := (fX7_readAsk a0 a1 (0 : Int32) m).bind fun p1 => fX7_readBoth_9 a0 a1 xFuel p1.1 (0 : Int32) p1.2
set_option maxRecDepth 4000 in
theorem fX7_readBoth_0_ok {a0 : Nat} {a1 : Nat} {d : Nat} (hd : 44 ≤ d) (ha0 : isReader a0) (ha1 : isText a1) {o2 : Option Value} {o3 : Option Value} {m : xMem} {r : (Int32 × xMem)} (q2 : xNoD o2 = true) (q3 : xNoD o3 = true) (h : fX7_readBoth_0 a0 a1 m = some r) : xFx hh_83 cX7_readBoth d 0 [some (.ref a0), some (.ref a1), o2, o3] [] (xLay m) 0 0 (some (.int r.1)) (xLay r.2) := by
  unfold fX7_readBoth_0 at h
  refine fx_aload_n dX7_readBoth_0 rfl rfl ?_
  refine fx_aload_n dX7_readBoth_1 rfl rfl ?_
  refine fx_iconst (x := 0) dX7_readBoth_2 rfl (by decide) ?_
  obtain ⟨p1, ep1, h⟩ := xBind_el h
  refine gx_callv (as := [.ref a1, .int (0 : Int32)]) (r := []) rfl dX7_readBoth_3 ca_7_133 rfl me_84 rfl rfl rfl rfl (ha0.1) rfl (fX7_readAsk_ok (d := d) (by omega) ha0 ha1 ep1) rfl rfl ?_
  refine fx_istore_n (ls2 := [some (.ref a0), some (.ref a1), some (.int p1.1), o3]) dX7_readBoth_6 rfl rfl rfl ?_
  refine fx_iconst (x := 0) dX7_readBoth_7 rfl (by decide) ?_
  refine fx_istore_n (ls2 := [some (.ref a0), some (.ref a1), some (.int p1.1), some (.int (0 : Int32))]) dX7_readBoth_8 rfl rfl rfl ?_
  exact fX7_readBoth_9_ok hd ha0 ha1 xFuel p1.1 (0 : Int32) p1.2 r h
def fX7_readBoth (a0 : Nat) (a1 : Nat) (m : xMem) : Option (Int32 × xMem) := fX7_readBoth_0 a0 a1  m
theorem fX7_readBoth_ok {a0 : Nat} {a1 : Nat} {m : xMem} {r : (Int32 × xMem)} {d : Nat} (hd : 45 ≤ d) (ha0 : isReader a0) (ha1 : isText a1) (h : fX7_readBoth a0 a1 m = some r) : xEx d 83 [.ref a0, .ref a1] (xLay m) (some (.int r.1)) (xLay r.2) := by
  obtain ⟨d, rfl⟩ : ∃ q, d = q + 1 := ⟨d - 1, by omega⟩
  exact xEx_of me_83 rfl (fX7_readBoth_0_ok (d := d) (o2 := none) (o3 := none) (by omega) ha0 ha1 rfl rfl h)
def fX7_readEither_57 (a0 : Nat) (a1 : Nat) (l2 : Int32) (m : xMem) : Option (Int32 × xMem) := bif (decide (l2 = 0) || decide (l2 = 1)) then some (l2, m) else none
set_option maxRecDepth 4000 in
theorem fX7_readEither_57_ok {a0 : Nat} {a1 : Nat} {d : Nat} (hd : 45 ≤ d) (ha0 : isReader a0) (ha1 : isText a1) {l2 : Int32} {o3 : Option Value} {m : xMem} {r : (Int32 × xMem)} (q3 : xNoD o3 = true) (h : fX7_readEither_57 a0 a1 l2 m = some r) : xFx hh_82 cX7_readEither d 57 [some (.ref a0), some (.ref a1), some (.int l2), o3] [] (xLay m) 0 0 (some (.int r.1)) (xLay r.2) := by
  unfold fX7_readEither_57 at h
  refine fx_iload_n dX7_readEither_57 rfl rfl ?_
  obtain ⟨hb1, h⟩ := xChk_el h
  cases h
  exact fx_ireturn dX7_readEither_58 rfl (by show ((decide _ || decide _) && _) = true; rw [hb1]; rfl)
def fX7_readEither_8 (a0 : Nat) (a1 : Nat) : Nat → Int32 → Int32 → xMem → Option (Int32 × xMem)
  | 0, _, _, _ => none
  | fuel + 1, l2, l3, m => if (300 : Int32) ≤ l3 then fX7_readEither_57 a0 a1 l2 m else if l2 = (0 : Int32) then fX7_readEither_57 a0 a1 l2 m else (fX7_kind a0 m).bind fun p3 => if ¬ p3.1 = (23 : Int32) then fX7_readEither_57 a0 a1 l2 p3.2 else xLet (p3.2.1 a0 8) fun x5 => xLet (x5 + (1 : Int32)) fun x6 => xLet (xPut p3.2 a0 8 x6) fun m7 => (fX7_readBoth a0 a1 m7).bind fun p8 => (fX10_add a1 (23 : Int32) (0 : Int32) p8.2).bind fun p9 => xLet (l3 + (1 : Int32)) fun x10 => fX7_readEither_8 a0 a1 fuel p8.1 x10 p9
set_option maxRecDepth 4000 in
theorem fX7_readEither_8_ok {a0 : Nat} {a1 : Nat} {d : Nat} (hd : 45 ≤ d) (ha0 : isReader a0) (ha1 : isText a1) : ∀ (fuel : Nat) (l2 : Int32) (l3 : Int32) (m : xMem) (r : (Int32 × xMem)), fX7_readEither_8 a0 a1 fuel l2 l3 m = some r → xFx hh_82 cX7_readEither d 8 [some (.ref a0), some (.ref a1), some (.int l2), some (.int l3)] [] (xLay m) 0 0 (some (.int r.1)) (xLay r.2) := by
  intro fuel
  induction fuel with
  | zero => intro l2 l3  m r  h; cases h
  | succ fuel ih =>
    intro l2 l3  m r  h
    unfold fX7_readEither_8 at h
    refine fx_iload_n dX7_readEither_8 rfl rfl ?_
    refine fx_sipush (x := 300) dX7_readEither_9 rfl (by decide) ?_
    refine fx_icmp_ge (t := 57) dX7_readEither_12 rfl rfl (fun hc1 => ?_) (fun hc1 => ?_)
    · rw [if_pos hc1] at h
      exact fX7_readEither_57_ok (o3 := some (.int l3)) hd ha0 ha1 rfl h
    · rw [if_neg hc1] at h
      refine fx_iload_n dX7_readEither_15 rfl rfl ?_
      refine fx_if_eq (t := 57) dX7_readEither_16 rfl rfl (fun hc2 => ?_) (fun hc2 => ?_)
      · rw [if_pos hc2] at h
        exact fX7_readEither_57_ok (o3 := some (.int l3)) hd ha0 ha1 rfl h
      · rw [if_neg hc2] at h
        refine fx_aload_n dX7_readEither_19 rfl rfl ?_
        obtain ⟨p3, ep3, h⟩ := xBind_el h
        refine gx_callv (as := []) (r := []) rfl dX7_readEither_20 ca_7_51 rfl me_72 rfl rfl rfl rfl (ha0.1) rfl (fX7_kind_ok (d := d) (by omega) ha0 ep3) rfl rfl ?_
        refine fx_bipush (x := 23) dX7_readEither_23 rfl (by decide) ?_
        refine fx_icmp_ne (t := 57) dX7_readEither_25 rfl rfl (fun hc4 => ?_) (fun hc4 => ?_)
        · rw [if_pos hc4] at h
          exact fX7_readEither_57_ok (o3 := some (.int l3)) hd ha0 ha1 rfl h
        · rw [if_neg hc4] at h
          refine fx_aload_n dX7_readEither_28 rfl rfl ?_
          refine fx_dup dX7_readEither_29 rfl rfl ?_
          obtain ⟨x5, hx5, h⟩ := xLet_el h
          refine gx_get dX7_readEither_30 rfl fd_7_37 ha0.1 rfl rfl hx5 ?_
          refine fx_iconst (x := 1) dX7_readEither_33 rfl (by decide) ?_
          obtain ⟨x6, hx6, h⟩ := xLet_el h
          refine fx_iadd dX7_readEither_34 rfl hx6 ?_
          obtain ⟨m7, hm7, h⟩ := xLet_el h
          refine gx_put dX7_readEither_35 rfl fd_7_37 ha0.1 rfl rfl rfl hm7 ?_
          refine fx_aload_n dX7_readEither_38 rfl rfl ?_
          refine fx_aload_n dX7_readEither_39 rfl rfl ?_
          obtain ⟨p8, ep8, h⟩ := xBind_el h
          refine gx_callv (as := [.ref a1]) (r := []) rfl dX7_readEither_40 ca_7_127 rfl me_83 rfl rfl rfl rfl (ha0.1) rfl (fX7_readBoth_ok (d := d) (by omega) ha0 ha1 ep8) rfl rfl ?_
          refine fx_istore_n (ls2 := [some (.ref a0), some (.ref a1), some (.int p8.1), some (.int l3)]) dX7_readEither_43 rfl rfl rfl ?_
          refine fx_aload_n dX7_readEither_44 rfl rfl ?_
          refine fx_bipush (x := 23) dX7_readEither_45 rfl (by decide) ?_
          refine fx_iconst (x := 0) dX7_readEither_47 rfl (by decide) ?_
          obtain ⟨p9, ep9, h⟩ := xBind_el h
          refine gx_callv (as := [.int (23 : Int32), .int (0 : Int32)]) (r := []) rfl dX7_readEither_48 ca_7_130 rfl me_78 rfl rfl rfl rfl (ha1.1) rfl (fX10_add_ok (d := d) (by omega) ha1 ep9) rfl rfl ?_
          obtain ⟨x10, hx10, h⟩ := xLet_el h
          refine fx_iinc (ls2 := [some (.ref a0), some (.ref a1), some (.int p8.1), some (.int x10)]) dX7_readEither_51 rfl rfl rfl hx10 rfl ?_
          refine fx_goto (t := 8) dX7_readEither_54 rfl rfl ?_
          exact ih p8.1 x10 p9 r h
def fX7_readEither_0 (a0 : Nat) (a1 : Nat) (m : xMem) : Option (Int32 × xMem) := (fX7_readBoth a0 a1 m).bind fun p1 => fX7_readEither_8 a0 a1 xFuel p1.1 (0 : Int32) p1.2
set_option maxRecDepth 4000 in
theorem fX7_readEither_0_ok {a0 : Nat} {a1 : Nat} {d : Nat} (hd : 45 ≤ d) (ha0 : isReader a0) (ha1 : isText a1) {o2 : Option Value} {o3 : Option Value} {m : xMem} {r : (Int32 × xMem)} (q2 : xNoD o2 = true) (q3 : xNoD o3 = true) (h : fX7_readEither_0 a0 a1 m = some r) : xFx hh_82 cX7_readEither d 0 [some (.ref a0), some (.ref a1), o2, o3] [] (xLay m) 0 0 (some (.int r.1)) (xLay r.2) := by
  unfold fX7_readEither_0 at h
  refine fx_aload_n dX7_readEither_0 rfl rfl ?_
  refine fx_aload_n dX7_readEither_1 rfl rfl ?_
  obtain ⟨p1, ep1, h⟩ := xBind_el h
  refine gx_callv (as := [.ref a1]) (r := []) rfl dX7_readEither_2 ca_7_127 rfl me_83 rfl rfl rfl rfl (ha0.1) rfl (fX7_readBoth_ok (d := d) (by omega) ha0 ha1 ep1) rfl rfl ?_
  refine fx_istore_n (ls2 := [some (.ref a0), some (.ref a1), some (.int p1.1), o3]) dX7_readEither_5 rfl rfl rfl ?_
  refine fx_iconst (x := 0) dX7_readEither_6 rfl (by decide) ?_
  refine fx_istore_n (ls2 := [some (.ref a0), some (.ref a1), some (.int p1.1), some (.int (0 : Int32))]) dX7_readEither_7 rfl rfl rfl ?_
  exact fX7_readEither_8_ok hd ha0 ha1 xFuel p1.1 (0 : Int32) p1.2 r h
def fX7_readEither (a0 : Nat) (a1 : Nat) (m : xMem) : Option (Int32 × xMem) := fX7_readEither_0 a0 a1  m
theorem fX7_readEither_ok {a0 : Nat} {a1 : Nat} {m : xMem} {r : (Int32 × xMem)} {d : Nat} (hd : 46 ≤ d) (ha0 : isReader a0) (ha1 : isText a1) (h : fX7_readEither a0 a1 m = some r) : xEx d 82 [.ref a0, .ref a1] (xLay m) (some (.int r.1)) (xLay r.2) := by
  obtain ⟨d, rfl⟩ : ∃ q, d = q + 1 := ⟨d - 1, by omega⟩
  exact xEx_of me_82 rfl (fX7_readEither_0_ok (d := d) (o2 := none) (o3 := none) (by omega) ha0 ha1 rfl rfl h)
def fX10_close_34 (a0 : Nat) (m : xMem) : Option xMem := some m
set_option maxRecDepth 4000 in
theorem fX10_close_34_ok {a0 : Nat} {d : Nat} (hd : 0 ≤ d) (ha0 : isText a0) {m : xMem} {r : xMem} (h : fX10_close_34 a0 m = some r) : xFx hh_85 cX10_close d 34 [some (.ref a0)] [] (xLay m) 0 0 none (xLay r) := by
  unfold fX10_close_34 at h
  cases h
  exact fx_return dX10_close_34 rfl rfl
def fX10_close_0 (a0 : Nat) (m : xMem) : Option xMem := xLet (m.1 a0 6) fun x1 => if x1 ≤ (0 : Int32) then fX10_close_34 a0 m else xLet (m.1 a0 6) fun x3 => if (10 : Int32) < x3 then fX10_close_34 a0 m else xLet (m.1 a0 6) fun x5 => xLet (x5 - (1 : Int32)) fun x6 => xLet (m.1 a0 5) fun x7 => bif xIn x6 10 then xLet (xPut m (a0 + 4) x6.toNatClampNeg x7) fun m8 => fX10_close_34 a0 m8 else none
set_option maxRecDepth 4000 in
theorem fX10_close_0_ok {a0 : Nat} {d : Nat} (hd : 0 ≤ d) (ha0 : isText a0) {m : xMem} {r : xMem} (h : fX10_close_0 a0 m = some r) : xFx hh_85 cX10_close d 0 [some (.ref a0)] [] (xLay m) 0 0 none (xLay r) := by
  unfold fX10_close_0 at h
  refine fx_aload_n dX10_close_0 rfl rfl ?_
  obtain ⟨x1, hx1, h⟩ := xLet_el h
  refine gx_get dX10_close_1 rfl fd_10_31 ha0.1 rfl rfl hx1 ?_
  refine fx_if_le (t := 34) dX10_close_4 rfl rfl (fun hc2 => ?_) (fun hc2 => ?_)
  · rw [if_pos hc2] at h
    exact fX10_close_34_ok hd ha0 h
  · rw [if_neg hc2] at h
    refine fx_aload_n dX10_close_7 rfl rfl ?_
    obtain ⟨x3, hx3, h⟩ := xLet_el h
    refine gx_get dX10_close_8 rfl fd_10_31 ha0.1 rfl rfl hx3 ?_
    refine fx_aload_n dX10_close_11 rfl rfl ?_
    refine gx_getr dX10_close_12 rfl fd_10_21 ha0.1 rfl rfl ?_
    refine gx_alen (t := 1) (y := 10) dX10_close_15 rfl ha0.2.2.2.2.1 rfl (by decide) ?_
    refine fx_icmp_gt (t := 34) dX10_close_16 rfl rfl (fun hc4 => ?_) (fun hc4 => ?_)
    · rw [if_pos hc4] at h
      exact fX10_close_34_ok hd ha0 h
    · rw [if_neg hc4] at h
      refine fx_aload_n dX10_close_19 rfl rfl ?_
      refine gx_getr dX10_close_20 rfl fd_10_21 ha0.1 rfl rfl ?_
      refine fx_aload_n dX10_close_23 rfl rfl ?_
      obtain ⟨x5, hx5, h⟩ := xLet_el h
      refine gx_get dX10_close_24 rfl fd_10_31 ha0.1 rfl rfl hx5 ?_
      refine fx_iconst (x := 1) dX10_close_27 rfl (by decide) ?_
      obtain ⟨x6, hx6, h⟩ := xLet_el h
      refine fx_isub dX10_close_28 rfl hx6 ?_
      refine fx_aload_n dX10_close_29 rfl rfl ?_
      obtain ⟨x7, hx7, h⟩ := xLet_el h
      refine gx_get dX10_close_30 rfl fd_10_27 ha0.1 rfl rfl hx7 ?_
      obtain ⟨hj9, h⟩ := xChk_el h
      obtain ⟨m8, hm8, h⟩ := xLet_el h
      refine gx_iastore dX10_close_33 rfl ha0.2.2.2.2.1 hj9 hm8 ?_
      exact fX10_close_34_ok hd ha0 h
def fX10_close (a0 : Nat) (m : xMem) : Option xMem := fX10_close_0 a0  m
theorem fX10_close_ok {a0 : Nat} {m : xMem} {r : xMem} {d : Nat} (hd : 1 ≤ d) (ha0 : isText a0) (h : fX10_close a0 m = some r) : xEx d 85 [.ref a0] (xLay m) none (xLay r) := by
  obtain ⟨d, rfl⟩ : ∃ q, d = q + 1 := ⟨d - 1, by omega⟩
  exact xEx_of me_85 rfl (fX10_close_0_ok (d := d) (by omega) ha0 h)
def fX7_readClause_140 (a0 : Nat) (a1 : Nat) (l2 : Int32) (m : xMem) : Option (Int32 × xMem) := xLet (m.1 a0 8) fun x1 => xLet (x1 + (1 : Int32)) fun x2 => xLet (xPut m a0 8 x2) fun m3 => bif (decide (l2 = 0) || decide (l2 = 1)) then some (l2, m3) else none
set_option maxRecDepth 4000 in
theorem fX7_readClause_140_ok {a0 : Nat} {a1 : Nat} {d : Nat} (hd : 46 ≤ d) (ha0 : isReader a0) (ha1 : isText a1) {l2 : Int32} {m : xMem} {r : (Int32 × xMem)} (h : fX7_readClause_140 a0 a1 l2 m = some r) : xFx hh_73 cX7_readClause d 140 [some (.ref a0), some (.ref a1), some (.int l2)] [] (xLay m) 0 0 (some (.int r.1)) (xLay r.2) := by
  unfold fX7_readClause_140 at h
  refine fx_aload_n dX7_readClause_140 rfl rfl ?_
  refine fx_dup dX7_readClause_141 rfl rfl ?_
  obtain ⟨x1, hx1, h⟩ := xLet_el h
  refine gx_get dX7_readClause_142 rfl fd_7_37 ha0.1 rfl rfl hx1 ?_
  refine fx_iconst (x := 1) dX7_readClause_145 rfl (by decide) ?_
  obtain ⟨x2, hx2, h⟩ := xLet_el h
  refine fx_iadd dX7_readClause_146 rfl hx2 ?_
  obtain ⟨m3, hm3, h⟩ := xLet_el h
  refine gx_put dX7_readClause_147 rfl fd_7_37 ha0.1 rfl rfl rfl hm3 ?_
  refine fx_iload_n dX7_readClause_150 rfl rfl ?_
  obtain ⟨hb4, h⟩ := xChk_el h
  cases h
  exact fx_ireturn dX7_readClause_151 rfl (by show ((decide _ || decide _) && _) = true; rw [hb4]; rfl)
def fX7_readClause_116 (a0 : Nat) (a1 : Nat) (s0 : Int32) (m : xMem) : Option (Int32 × xMem) := (fX10_close a1 m).bind fun p1 => if s0 = (0 : Int32) then fX7_readClause_140 a0 a1 s0 p1 else (fX7_kind a0 p1).bind fun p3 => if p3.1 = (15 : Int32) then fX7_readClause_140 a0 a1 s0 p3.2 else (fX7_fails a0 (1 : Int32) p3.2).bind fun p5 => bif (decide (p5.1 = 0) || decide (p5.1 = 1)) then some (p5.1, p5.2) else none
set_option maxRecDepth 4000 in
theorem fX7_readClause_116_ok {a0 : Nat} {a1 : Nat} {d : Nat} (hd : 46 ≤ d) (ha0 : isReader a0) (ha1 : isText a1) {s0 : Int32} {o2 : Option Value} {m : xMem} {r : (Int32 × xMem)} (q2 : xNoD o2 = true) (h : fX7_readClause_116 a0 a1 s0 m = some r) : xFx hh_73 cX7_readClause d 116 [some (.ref a0), some (.ref a1), o2] [.int s0] (xLay m) 0 0 (some (.int r.1)) (xLay r.2) := by
  unfold fX7_readClause_116 at h
  refine fx_istore_n (ls2 := [some (.ref a0), some (.ref a1), some (.int s0)]) dX7_readClause_116 rfl rfl rfl ?_
  refine fx_aload_n dX7_readClause_117 rfl rfl ?_
  obtain ⟨p1, ep1, h⟩ := xBind_el h
  refine gx_callv (as := []) (r := []) rfl dX7_readClause_118 ca_7_124 rfl me_85 rfl rfl rfl rfl (ha1.1) rfl (fX10_close_ok (d := d) (by omega) ha1 ep1) rfl rfl ?_
  refine fx_iload_n dX7_readClause_121 rfl rfl ?_
  refine fx_if_eq (t := 140) dX7_readClause_122 rfl rfl (fun hc2 => ?_) (fun hc2 => ?_)
  · rw [if_pos hc2] at h
    exact fX7_readClause_140_ok hd ha0 ha1 h
  · rw [if_neg hc2] at h
    refine fx_aload_n dX7_readClause_125 rfl rfl ?_
    obtain ⟨p3, ep3, h⟩ := xBind_el h
    refine gx_callv (as := []) (r := []) rfl dX7_readClause_126 ca_7_51 rfl me_72 rfl rfl rfl rfl (ha0.1) rfl (fX7_kind_ok (d := d) (by omega) ha0 ep3) rfl rfl ?_
    refine fx_bipush (x := 15) dX7_readClause_129 rfl (by decide) ?_
    refine fx_icmp_eq (t := 140) dX7_readClause_131 rfl rfl (fun hc4 => ?_) (fun hc4 => ?_)
    · rw [if_pos hc4] at h
      exact fX7_readClause_140_ok hd ha0 ha1 h
    · rw [if_neg hc4] at h
      refine fx_aload_n dX7_readClause_134 rfl rfl ?_
      refine fx_iconst (x := 1) dX7_readClause_135 rfl (by decide) ?_
      obtain ⟨p5, ep5, h⟩ := xBind_el h
      refine gx_callv (as := [.int (1 : Int32)]) (r := []) rfl dX7_readClause_136 ca_7_107 rfl me_74 rfl rfl rfl rfl (ha0.1) rfl (fX7_fails_ok (d := d) (by omega) ha0 ep5) rfl rfl ?_
      obtain ⟨hb6, h⟩ := xChk_el h
      cases h
      exact fx_ireturn dX7_readClause_139 rfl (by show ((decide _ || decide _) && _) = true; rw [hb6]; rfl)
def fX7_readClause_61 (a0 : Nat) (a1 : Nat) (m : xMem) : Option (Int32 × xMem) := xLet (m.1 a1 6) fun x1 => if x1 < (10 : Int32) then xLet (m.1 a0 8) fun x3 => xLet (x3 + (1 : Int32)) fun x4 => xLet (xPut m a0 8 x4) fun m5 => xLet (m5.1 a0 9) fun x6 => (fX10_open a1 x6 m5).bind fun p7 => xLet (p7.1 a0 9) fun x8 => if ¬ x8 = (0 : Int32) then (fX7_readEither a0 a1 p7).bind fun p10 => fX7_readClause_116 a0 a1 p10.1 p10.2 else (fX7_readSum a0 a1 (0 : Int32) p7).bind fun p11 => fX7_readClause_116 a0 a1 p11.1 p11.2 else (fX7_fails a0 (6 : Int32) m).bind fun p12 => bif (decide (p12.1 = 0) || decide (p12.1 = 1)) then some (p12.1, p12.2) else none
set_option maxRecDepth 4000 in
theorem fX7_readClause_61_ok {a0 : Nat} {a1 : Nat} {d : Nat} (hd : 46 ≤ d) (ha0 : isReader a0) (ha1 : isText a1) {o2 : Option Value} {m : xMem} {r : (Int32 × xMem)} (q2 : xNoD o2 = true) (h : fX7_readClause_61 a0 a1 m = some r) : xFx hh_73 cX7_readClause d 61 [some (.ref a0), some (.ref a1), o2] [] (xLay m) 0 0 (some (.int r.1)) (xLay r.2) := by
  unfold fX7_readClause_61 at h
  refine fx_aload_n dX7_readClause_61 rfl rfl ?_
  obtain ⟨x1, hx1, h⟩ := xLet_el h
  refine gx_get dX7_readClause_62 rfl fd_7_45 ha1.1 rfl rfl hx1 ?_
  refine fx_bipush (x := 10) dX7_readClause_65 rfl (by decide) ?_
  refine fx_icmp_lt (t := 77) dX7_readClause_67 rfl rfl (fun hc2 => ?_) (fun hc2 => ?_)
  · rw [if_pos hc2] at h
    refine fx_aload_n dX7_readClause_77 rfl rfl ?_
    refine fx_dup dX7_readClause_78 rfl rfl ?_
    obtain ⟨x3, hx3, h⟩ := xLet_el h
    refine gx_get dX7_readClause_79 rfl fd_7_37 ha0.1 rfl rfl hx3 ?_
    refine fx_iconst (x := 1) dX7_readClause_82 rfl (by decide) ?_
    obtain ⟨x4, hx4, h⟩ := xLet_el h
    refine fx_iadd dX7_readClause_83 rfl hx4 ?_
    obtain ⟨m5, hm5, h⟩ := xLet_el h
    refine gx_put dX7_readClause_84 rfl fd_7_37 ha0.1 rfl rfl rfl hm5 ?_
    refine fx_aload_n dX7_readClause_87 rfl rfl ?_
    refine fx_aload_n dX7_readClause_88 rfl rfl ?_
    obtain ⟨x6, hx6, h⟩ := xLet_el h
    refine gx_get dX7_readClause_89 rfl fd_7_104 ha0.1 rfl rfl hx6 ?_
    obtain ⟨p7, ep7, h⟩ := xBind_el h
    refine gx_callv (as := [.int x6]) (r := []) rfl dX7_readClause_92 ca_7_113 rfl me_76 rfl rfl rfl rfl (ha1.1) rfl (fX10_open_ok (d := d) (by omega) ha1 ep7) rfl rfl ?_
    refine fx_aload_n dX7_readClause_95 rfl rfl ?_
    obtain ⟨x8, hx8, h⟩ := xLet_el h
    refine gx_get dX7_readClause_96 rfl fd_7_104 ha0.1 rfl rfl hx8 ?_
    refine fx_if_ne (t := 111) dX7_readClause_99 rfl rfl (fun hc9 => ?_) (fun hc9 => ?_)
    · rw [if_pos hc9] at h
      refine fx_aload_n dX7_readClause_111 rfl rfl ?_
      refine fx_aload_n dX7_readClause_112 rfl rfl ?_
      obtain ⟨p10, ep10, h⟩ := xBind_el h
      refine gx_callv (as := [.ref a1]) (r := []) rfl dX7_readClause_113 ca_7_121 rfl me_82 rfl rfl rfl rfl (ha0.1) rfl (fX7_readEither_ok (d := d) (by omega) ha0 ha1 ep10) rfl rfl ?_
      exact fX7_readClause_116_ok (o2 := o2) hd ha0 ha1 q2 h
    · rw [if_neg hc9] at h
      refine fx_aload_n dX7_readClause_102 rfl rfl ?_
      refine fx_aload_n dX7_readClause_103 rfl rfl ?_
      refine fx_iconst (x := 0) dX7_readClause_104 rfl (by decide) ?_
      obtain ⟨p11, ep11, h⟩ := xBind_el h
      refine gx_callv (as := [.ref a1, .int (0 : Int32)]) (r := []) rfl dX7_readClause_105 ca_7_117 rfl me_77 rfl rfl rfl rfl (ha0.1) rfl (fX7_readSum_ok (d := d) (by omega) ha0 ha1 ep11) rfl rfl ?_
      refine fx_goto (t := 116) dX7_readClause_108 rfl rfl ?_
      exact fX7_readClause_116_ok (o2 := o2) hd ha0 ha1 q2 h
  · rw [if_neg hc2] at h
    refine fx_aload_n dX7_readClause_70 rfl rfl ?_
    refine fx_bipush (x := 6) dX7_readClause_71 rfl (by decide) ?_
    obtain ⟨p12, ep12, h⟩ := xBind_el h
    refine gx_callv (as := [.int (6 : Int32)]) (r := []) rfl dX7_readClause_73 ca_7_107 rfl me_74 rfl rfl rfl rfl (ha0.1) rfl (fX7_fails_ok (d := d) (by omega) ha0 ep12) rfl rfl ?_
    obtain ⟨hb13, h⟩ := xChk_el h
    cases h
    exact fx_ireturn dX7_readClause_76 rfl (by show ((decide _ || decide _) && _) = true; rw [hb13]; rfl)
def fX7_readClause_40 (a0 : Nat) (a1 : Nat) (m : xMem) : Option (Int32 × xMem) := xLet (m.1 a0 9) fun x1 => if ¬ x1 = (0 : Int32) then fX7_readClause_61 a0 a1 m else (fX10_has a1 (0 : Int32) m).bind fun p3 => if p3.1 = (0 : Int32) then fX7_readClause_61 a0 a1 p3.2 else (fX7_fails a0 (4 : Int32) p3.2).bind fun p5 => bif (decide (p5.1 = 0) || decide (p5.1 = 1)) then some (p5.1, p5.2) else none
set_option maxRecDepth 4000 in
theorem fX7_readClause_40_ok {a0 : Nat} {a1 : Nat} {d : Nat} (hd : 46 ≤ d) (ha0 : isReader a0) (ha1 : isText a1) {o2 : Option Value} {m : xMem} {r : (Int32 × xMem)} (q2 : xNoD o2 = true) (h : fX7_readClause_40 a0 a1 m = some r) : xFx hh_73 cX7_readClause d 40 [some (.ref a0), some (.ref a1), o2] [] (xLay m) 0 0 (some (.int r.1)) (xLay r.2) := by
  unfold fX7_readClause_40 at h
  refine fx_aload_n dX7_readClause_40 rfl rfl ?_
  obtain ⟨x1, hx1, h⟩ := xLet_el h
  refine gx_get dX7_readClause_41 rfl fd_7_104 ha0.1 rfl rfl hx1 ?_
  refine fx_if_ne (t := 61) dX7_readClause_44 rfl rfl (fun hc2 => ?_) (fun hc2 => ?_)
  · rw [if_pos hc2] at h
    exact fX7_readClause_61_ok (o2 := o2) hd ha0 ha1 q2 h
  · rw [if_neg hc2] at h
    refine fx_aload_n dX7_readClause_47 rfl rfl ?_
    refine fx_iconst (x := 0) dX7_readClause_48 rfl (by decide) ?_
    obtain ⟨p3, ep3, h⟩ := xBind_el h
    refine gx_callv (as := [.int (0 : Int32)]) (r := []) rfl dX7_readClause_49 ca_7_110 rfl me_75 rfl rfl rfl rfl (ha1.1) rfl (fX10_has_ok (d := d) (by omega) ha1 ep3) rfl rfl ?_
    refine fx_if_eq (t := 61) dX7_readClause_52 rfl rfl (fun hc4 => ?_) (fun hc4 => ?_)
    · rw [if_pos hc4] at h
      exact fX7_readClause_61_ok (o2 := o2) hd ha0 ha1 q2 h
    · rw [if_neg hc4] at h
      refine fx_aload_n dX7_readClause_55 rfl rfl ?_
      refine fx_iconst (x := 4) dX7_readClause_56 rfl (by decide) ?_
      obtain ⟨p5, ep5, h⟩ := xBind_el h
      refine gx_callv (as := [.int (4 : Int32)]) (r := []) rfl dX7_readClause_57 ca_7_107 rfl me_74 rfl rfl rfl rfl (ha0.1) rfl (fX7_fails_ok (d := d) (by omega) ha0 ep5) rfl rfl ?_
      obtain ⟨hb6, h⟩ := xChk_el h
      cases h
      exact fx_ireturn dX7_readClause_60 rfl (by show ((decide _ || decide _) && _) = true; rw [hb6]; rfl)
def fX7_readClause_0 (a0 : Nat) (a1 : Nat) (m : xMem) : Option (Int32 × xMem) := (fX7_kind a0 m).bind fun p1 => xLet (p1.1 - (20 : Int32)) fun x2 => xLet (xPut p1.2 a0 9 x2) fun m3 => xLet (m3.1 a0 9) fun x4 => if x4 = (0 : Int32) then fX7_readClause_40 a0 a1 m3 else xLet (m3.1 a0 9) fun x6 => if x6 = (1 : Int32) then fX7_readClause_40 a0 a1 m3 else xLet (m3.1 a0 9) fun x8 => if x8 = (2 : Int32) then fX7_readClause_40 a0 a1 m3 else (fX7_fails a0 (1 : Int32) m3).bind fun p10 => bif (decide (p10.1 = 0) || decide (p10.1 = 1)) then some (p10.1, p10.2) else none
set_option maxRecDepth 4000 in
theorem fX7_readClause_0_ok {a0 : Nat} {a1 : Nat} {d : Nat} (hd : 46 ≤ d) (ha0 : isReader a0) (ha1 : isText a1) {o2 : Option Value} {m : xMem} {r : (Int32 × xMem)} (q2 : xNoD o2 = true) (h : fX7_readClause_0 a0 a1 m = some r) : xFx hh_73 cX7_readClause d 0 [some (.ref a0), some (.ref a1), o2] [] (xLay m) 0 0 (some (.int r.1)) (xLay r.2) := by
  unfold fX7_readClause_0 at h
  refine fx_aload_n dX7_readClause_0 rfl rfl ?_
  refine fx_aload_n dX7_readClause_1 rfl rfl ?_
  obtain ⟨p1, ep1, h⟩ := xBind_el h
  refine gx_callv (as := []) (r := [.ref a0]) rfl dX7_readClause_2 ca_7_51 rfl me_72 rfl rfl rfl rfl (ha0.1) rfl (fX7_kind_ok (d := d) (by omega) ha0 ep1) rfl rfl ?_
  refine fx_bipush (x := 20) dX7_readClause_5 rfl (by decide) ?_
  obtain ⟨x2, hx2, h⟩ := xLet_el h
  refine fx_isub dX7_readClause_7 rfl hx2 ?_
  obtain ⟨m3, hm3, h⟩ := xLet_el h
  refine gx_put dX7_readClause_8 rfl fd_7_104 ha0.1 rfl rfl rfl hm3 ?_
  refine fx_aload_n dX7_readClause_11 rfl rfl ?_
  obtain ⟨x4, hx4, h⟩ := xLet_el h
  refine gx_get dX7_readClause_12 rfl fd_7_104 ha0.1 rfl rfl hx4 ?_
  refine fx_if_eq (t := 40) dX7_readClause_15 rfl rfl (fun hc5 => ?_) (fun hc5 => ?_)
  · rw [if_pos hc5] at h
    exact fX7_readClause_40_ok (o2 := o2) hd ha0 ha1 q2 h
  · rw [if_neg hc5] at h
    refine fx_aload_n dX7_readClause_18 rfl rfl ?_
    obtain ⟨x6, hx6, h⟩ := xLet_el h
    refine gx_get dX7_readClause_19 rfl fd_7_104 ha0.1 rfl rfl hx6 ?_
    refine fx_iconst (x := 1) dX7_readClause_22 rfl (by decide) ?_
    refine fx_icmp_eq (t := 40) dX7_readClause_23 rfl rfl (fun hc7 => ?_) (fun hc7 => ?_)
    · rw [if_pos hc7] at h
      exact fX7_readClause_40_ok (o2 := o2) hd ha0 ha1 q2 h
    · rw [if_neg hc7] at h
      refine fx_aload_n dX7_readClause_26 rfl rfl ?_
      obtain ⟨x8, hx8, h⟩ := xLet_el h
      refine gx_get dX7_readClause_27 rfl fd_7_104 ha0.1 rfl rfl hx8 ?_
      refine fx_iconst (x := 2) dX7_readClause_30 rfl (by decide) ?_
      refine fx_icmp_eq (t := 40) dX7_readClause_31 rfl rfl (fun hc9 => ?_) (fun hc9 => ?_)
      · rw [if_pos hc9] at h
        exact fX7_readClause_40_ok (o2 := o2) hd ha0 ha1 q2 h
      · rw [if_neg hc9] at h
        refine fx_aload_n dX7_readClause_34 rfl rfl ?_
        refine fx_iconst (x := 1) dX7_readClause_35 rfl (by decide) ?_
        obtain ⟨p10, ep10, h⟩ := xBind_el h
        refine gx_callv (as := [.int (1 : Int32)]) (r := []) rfl dX7_readClause_36 ca_7_107 rfl me_74 rfl rfl rfl rfl (ha0.1) rfl (fX7_fails_ok (d := d) (by omega) ha0 ep10) rfl rfl ?_
        obtain ⟨hb11, h⟩ := xChk_el h
        cases h
        exact fx_ireturn dX7_readClause_39 rfl (by show ((decide _ || decide _) && _) = true; rw [hb11]; rfl)
def fX7_readClause (a0 : Nat) (a1 : Nat) (m : xMem) : Option (Int32 × xMem) := fX7_readClause_0 a0 a1  m
theorem fX7_readClause_ok {a0 : Nat} {a1 : Nat} {m : xMem} {r : (Int32 × xMem)} {d : Nat} (hd : 47 ≤ d) (ha0 : isReader a0) (ha1 : isText a1) (h : fX7_readClause a0 a1 m = some r) : xEx d 73 [.ref a0, .ref a1] (xLay m) (some (.int r.1)) (xLay r.2) := by
  obtain ⟨d, rfl⟩ : ∃ q, d = q + 1 := ⟨d - 1, by omega⟩
  exact xEx_of me_73 rfl (fX7_readClause_0_ok (d := d) (o2 := none) (by omega) ha0 ha1 rfl h)
def fX7_addToken_59 (a0 : Nat) (a1 : Int32) (a2 : Int32) (a3 : Int32) (m : xMem) : Option xMem := some m
set_option maxRecDepth 4000 in
theorem fX7_addToken_59_ok {a0 : Nat} {a1 : Int32} {a2 : Int32} {a3 : Int32} {d : Nat} (hd : 0 ≤ d) (ha0 : isReader a0) {m : xMem} {r : xMem} (h : fX7_addToken_59 a0 a1 a2 a3 m = some r) : xFx hh_69 cX7_addToken d 59 [some (.ref a0), some (.int a1), some (.int a2), some (.int a3)] [] (xLay m) 0 0 none (xLay r) := by
  unfold fX7_addToken_59 at h
  cases h
  exact fx_return dX7_addToken_59 rfl rfl
def fX7_addToken_0 (a0 : Nat) (a1 : Int32) (a2 : Int32) (a3 : Int32) (m : xMem) : Option xMem := xLet (m.1 a0 7) fun x1 => if x1 < (0 : Int32) then fX7_addToken_59 a0 a1 a2 a3 m else xLet (m.1 a0 7) fun x3 => if (301 : Int32) ≤ x3 then fX7_addToken_59 a0 a1 a2 a3 m else xLet (m.1 a0 7) fun x5 => bif xIn x5 301 then xLet (xPut m (a0 + 2) x5.toNatClampNeg a1) fun m6 => xLet (m6.1 a0 7) fun x8 => bif xIn x8 301 then xLet (xPut m6 (a0 + 3) x8.toNatClampNeg a2) fun m9 => xLet (m9.1 a0 7) fun x11 => bif xIn x11 301 then xLet (xPut m9 (a0 + 4) x11.toNatClampNeg a3) fun m12 => xLet (m12.1 a0 7) fun x14 => xLet (x14 + (1 : Int32)) fun x15 => xLet (xPut m12 a0 7 x15) fun m16 => fX7_addToken_59 a0 a1 a2 a3 m16 else none else none else none
set_option maxRecDepth 4000 in
theorem fX7_addToken_0_ok {a0 : Nat} {a1 : Int32} {a2 : Int32} {a3 : Int32} {d : Nat} (hd : 0 ≤ d) (ha0 : isReader a0) {m : xMem} {r : xMem} (h : fX7_addToken_0 a0 a1 a2 a3 m = some r) : xFx hh_69 cX7_addToken d 0 [some (.ref a0), some (.int a1), some (.int a2), some (.int a3)] [] (xLay m) 0 0 none (xLay r) := by
  unfold fX7_addToken_0 at h
  refine fx_aload_n dX7_addToken_0 rfl rfl ?_
  obtain ⟨x1, hx1, h⟩ := xLet_el h
  refine gx_get dX7_addToken_1 rfl fd_7_48 ha0.1 rfl rfl hx1 ?_
  refine fx_if_lt (t := 59) dX7_addToken_4 rfl rfl (fun hc2 => ?_) (fun hc2 => ?_)
  · rw [if_pos hc2] at h
    exact fX7_addToken_59_ok hd ha0 h
  · rw [if_neg hc2] at h
    refine fx_aload_n dX7_addToken_7 rfl rfl ?_
    obtain ⟨x3, hx3, h⟩ := xLet_el h
    refine gx_get dX7_addToken_8 rfl fd_7_48 ha0.1 rfl rfl hx3 ?_
    refine fx_aload_n dX7_addToken_11 rfl rfl ?_
    refine gx_getr dX7_addToken_12 rfl fd_7_15 ha0.1 rfl rfl ?_
    refine gx_alen (t := 1) (y := 301) dX7_addToken_15 rfl ha0.2.2.1 rfl (by decide) ?_
    refine fx_icmp_ge (t := 59) dX7_addToken_16 rfl rfl (fun hc4 => ?_) (fun hc4 => ?_)
    · rw [if_pos hc4] at h
      exact fX7_addToken_59_ok hd ha0 h
    · rw [if_neg hc4] at h
      refine fx_aload_n dX7_addToken_19 rfl rfl ?_
      refine gx_getr dX7_addToken_20 rfl fd_7_15 ha0.1 rfl rfl ?_
      refine fx_aload_n dX7_addToken_23 rfl rfl ?_
      obtain ⟨x5, hx5, h⟩ := xLet_el h
      refine gx_get dX7_addToken_24 rfl fd_7_48 ha0.1 rfl rfl hx5 ?_
      refine fx_iload_n dX7_addToken_27 rfl rfl ?_
      obtain ⟨hj7, h⟩ := xChk_el h
      obtain ⟨m6, hm6, h⟩ := xLet_el h
      refine gx_iastore dX7_addToken_28 rfl ha0.2.2.1 hj7 hm6 ?_
      refine fx_aload_n dX7_addToken_29 rfl rfl ?_
      refine gx_getr dX7_addToken_30 rfl fd_7_18 ha0.1 rfl rfl ?_
      refine fx_aload_n dX7_addToken_33 rfl rfl ?_
      obtain ⟨x8, hx8, h⟩ := xLet_el h
      refine gx_get dX7_addToken_34 rfl fd_7_48 ha0.1 rfl rfl hx8 ?_
      refine fx_iload_n dX7_addToken_37 rfl rfl ?_
      obtain ⟨hj10, h⟩ := xChk_el h
      obtain ⟨m9, hm9, h⟩ := xLet_el h
      refine gx_iastore dX7_addToken_38 rfl ha0.2.2.2.1 hj10 hm9 ?_
      refine fx_aload_n dX7_addToken_39 rfl rfl ?_
      refine gx_getr dX7_addToken_40 rfl fd_7_21 ha0.1 rfl rfl ?_
      refine fx_aload_n dX7_addToken_43 rfl rfl ?_
      obtain ⟨x11, hx11, h⟩ := xLet_el h
      refine gx_get dX7_addToken_44 rfl fd_7_48 ha0.1 rfl rfl hx11 ?_
      refine fx_iload_n dX7_addToken_47 rfl rfl ?_
      obtain ⟨hj13, h⟩ := xChk_el h
      obtain ⟨m12, hm12, h⟩ := xLet_el h
      refine gx_iastore dX7_addToken_48 rfl ha0.2.2.2.2 hj13 hm12 ?_
      refine fx_aload_n dX7_addToken_49 rfl rfl ?_
      refine fx_dup dX7_addToken_50 rfl rfl ?_
      obtain ⟨x14, hx14, h⟩ := xLet_el h
      refine gx_get dX7_addToken_51 rfl fd_7_48 ha0.1 rfl rfl hx14 ?_
      refine fx_iconst (x := 1) dX7_addToken_54 rfl (by decide) ?_
      obtain ⟨x15, hx15, h⟩ := xLet_el h
      refine fx_iadd dX7_addToken_55 rfl hx15 ?_
      obtain ⟨m16, hm16, h⟩ := xLet_el h
      refine gx_put dX7_addToken_56 rfl fd_7_48 ha0.1 rfl rfl rfl hm16 ?_
      exact fX7_addToken_59_ok hd ha0 h
def fX7_addToken (a0 : Nat) (a1 : Int32) (a2 : Int32) (a3 : Int32) (m : xMem) : Option xMem := fX7_addToken_0 a0 a1 a2 a3  m
theorem fX7_addToken_ok {a0 : Nat} {a1 : Int32} {a2 : Int32} {a3 : Int32} {m : xMem} {r : xMem} {d : Nat} (hd : 1 ≤ d) (ha0 : isReader a0) (h : fX7_addToken a0 a1 a2 a3 m = some r) : xEx d 69 [.ref a0, .int a1, .int a2, .int a3] (xLay m) none (xLay r) := by
  obtain ⟨d, rfl⟩ : ∃ q, d = q + 1 := ⟨d - 1, by omega⟩
  exact xEx_of me_69 rfl (fX7_addToken_0_ok (d := d) (by omega) ha0 h)
def fX7_isDigit_17 (a0 : Int32) (s0 : Int32) (m : xMem) : Option (Int32 × xMem) := bif (decide (s0 = 0) || decide (s0 = 1)) then some (s0, m) else none
set_option maxRecDepth 4000 in
theorem fX7_isDigit_17_ok {a0 : Int32} {d : Nat} (hd : 0 ≤ d)  {s0 : Int32} {m : xMem} {r : (Int32 × xMem)} (h : fX7_isDigit_17 a0 s0 m = some r) : xFx hh_70 cX7_isDigit d 17 [some (.int a0)] [.int s0] (xLay m) 0 0 (some (.int r.1)) (xLay r.2) := by
  unfold fX7_isDigit_17 at h
  obtain ⟨hb1, h⟩ := xChk_el h
  cases h
  exact fx_ireturn dX7_isDigit_17 rfl (by show ((decide _ || decide _) && _) = true; rw [hb1]; rfl)
def fX7_isDigit_16 (a0 : Int32) (m : xMem) : Option (Int32 × xMem) := fX7_isDigit_17 a0 (0 : Int32) m
set_option maxRecDepth 4000 in
theorem fX7_isDigit_16_ok {a0 : Int32} {d : Nat} (hd : 0 ≤ d)  {m : xMem} {r : (Int32 × xMem)} (h : fX7_isDigit_16 a0 m = some r) : xFx hh_70 cX7_isDigit d 16 [some (.int a0)] [] (xLay m) 0 0 (some (.int r.1)) (xLay r.2) := by
  unfold fX7_isDigit_16 at h
  refine fx_iconst (x := 0) dX7_isDigit_16 rfl (by decide) ?_
  exact fX7_isDigit_17_ok hd h
def fX7_isDigit_0 (a0 : Int32) (m : xMem) : Option (Int32 × xMem) := if a0 < (48 : Int32) then fX7_isDigit_16 a0 m else if (57 : Int32) < a0 then fX7_isDigit_16 a0 m else fX7_isDigit_17 a0 (1 : Int32) m
set_option maxRecDepth 4000 in
theorem fX7_isDigit_0_ok {a0 : Int32} {d : Nat} (hd : 0 ≤ d)  {m : xMem} {r : (Int32 × xMem)} (h : fX7_isDigit_0 a0 m = some r) : xFx hh_70 cX7_isDigit d 0 [some (.int a0)] [] (xLay m) 0 0 (some (.int r.1)) (xLay r.2) := by
  unfold fX7_isDigit_0 at h
  refine fx_iload_n dX7_isDigit_0 rfl rfl ?_
  refine fx_bipush (x := 48) dX7_isDigit_1 rfl (by decide) ?_
  refine fx_icmp_lt (t := 16) dX7_isDigit_3 rfl rfl (fun hc1 => ?_) (fun hc1 => ?_)
  · rw [if_pos hc1] at h
    exact fX7_isDigit_16_ok hd h
  · rw [if_neg hc1] at h
    refine fx_iload_n dX7_isDigit_6 rfl rfl ?_
    refine fx_bipush (x := 57) dX7_isDigit_7 rfl (by decide) ?_
    refine fx_icmp_gt (t := 16) dX7_isDigit_9 rfl rfl (fun hc2 => ?_) (fun hc2 => ?_)
    · rw [if_pos hc2] at h
      exact fX7_isDigit_16_ok hd h
    · rw [if_neg hc2] at h
      refine fx_iconst (x := 1) dX7_isDigit_12 rfl (by decide) ?_
      refine fx_goto (t := 17) dX7_isDigit_13 rfl rfl ?_
      exact fX7_isDigit_17_ok hd h
def fX7_isDigit (a0 : Int32) (m : xMem) : Option (Int32 × xMem) := fX7_isDigit_0 a0  m
theorem fX7_isDigit_ok {a0 : Int32} {m : xMem} {r : (Int32 × xMem)} {d : Nat} (hd : 1 ≤ d)  (h : fX7_isDigit a0 m = some r) : xEx d 70 [.int a0] (xLay m) (some (.int r.1)) (xLay r.2) := by
  obtain ⟨d, rfl⟩ : ∃ q, d = q + 1 := ⟨d - 1, by omega⟩
  exact xEx_of me_70 rfl (fX7_isDigit_0_ok (d := d) (by omega) h)
def fX7_signOf_0 (a0 : Int32) (m : xMem) : Option (Int32 × xMem) := if a0 = (35 : Int32) then some ((8 : Int32), m) else if a0 = (36 : Int32) then some ((1 : Int32), m) else if a0 = (37 : Int32) then some ((1 : Int32), m) else if a0 = (38 : Int32) then some ((1 : Int32), m) else if a0 = (39 : Int32) then some ((1 : Int32), m) else if a0 = (40 : Int32) then some ((13 : Int32), m) else if a0 = (41 : Int32) then some ((14 : Int32), m) else if a0 = (42 : Int32) then some ((11 : Int32), m) else if a0 = (43 : Int32) then some ((9 : Int32), m) else if a0 = (44 : Int32) then some ((1 : Int32), m) else if a0 = (45 : Int32) then some ((10 : Int32), m) else if a0 = (46 : Int32) then some ((1 : Int32), m) else if a0 = (47 : Int32) then some ((12 : Int32), m) else if a0 = (48 : Int32) then some ((1 : Int32), m) else if a0 = (49 : Int32) then some ((1 : Int32), m) else if a0 = (50 : Int32) then some ((1 : Int32), m) else if a0 = (51 : Int32) then some ((1 : Int32), m) else if a0 = (52 : Int32) then some ((1 : Int32), m) else if a0 = (53 : Int32) then some ((1 : Int32), m) else if a0 = (54 : Int32) then some ((1 : Int32), m) else if a0 = (55 : Int32) then some ((1 : Int32), m) else if a0 = (56 : Int32) then some ((1 : Int32), m) else if a0 = (57 : Int32) then some ((1 : Int32), m) else if a0 = (58 : Int32) then some ((1 : Int32), m) else if a0 = (59 : Int32) then some ((15 : Int32), m) else if a0 = (60 : Int32) then some ((3 : Int32), m) else if a0 = (61 : Int32) then some ((7 : Int32), m) else if a0 = (62 : Int32) then some ((5 : Int32), m) else some ((1 : Int32), m)
set_option maxRecDepth 4000 in
theorem fX7_signOf_0_ok {a0 : Int32} {d : Nat} (hd : 0 ≤ d)  {m : xMem} {r : (Int32 × xMem)} (h : fX7_signOf_0 a0 m = some r) : xFx hh_71 cX7_signOf d 0 [some (.int a0)] [] (xLay m) 0 0 (some (.int r.1)) (xLay r.2) := by
  unfold fX7_signOf_0 at h
  refine fx_iload_n dX7_signOf_0 rfl rfl ?_
  by_cases hc1 : a0 = (35 : Int32)
  · rw [if_pos hc1] at h
    refine fx_tabIn (t := 135) dX7_signOf_1 rfl (by rw [hc1]; decide) (by rw [hc1]; decide) (by rw [hc1]; rfl) rfl ?_
    refine fx_bipush (x := 8) dX7_signOf_135 rfl (by decide) ?_
    cases h
    exact fx_ireturn dX7_signOf_137 rfl rfl
  · rw [if_neg hc1] at h
    by_cases hc2 : a0 = (36 : Int32)
    · rw [if_pos hc2] at h
      refine fx_tabIn (t := 159) dX7_signOf_1 rfl (by rw [hc2]; decide) (by rw [hc2]; decide) (by rw [hc2]; rfl) rfl ?_
      refine fx_iconst (x := 1) dX7_signOf_159 rfl (by decide) ?_
      cases h
      exact fx_ireturn dX7_signOf_160 rfl rfl
    · rw [if_neg hc2] at h
      by_cases hc3 : a0 = (37 : Int32)
      · rw [if_pos hc3] at h
        refine fx_tabIn (t := 159) dX7_signOf_1 rfl (by rw [hc3]; decide) (by rw [hc3]; decide) (by rw [hc3]; rfl) rfl ?_
        refine fx_iconst (x := 1) dX7_signOf_159 rfl (by decide) ?_
        cases h
        exact fx_ireturn dX7_signOf_160 rfl rfl
      · rw [if_neg hc3] at h
        by_cases hc4 : a0 = (38 : Int32)
        · rw [if_pos hc4] at h
          refine fx_tabIn (t := 159) dX7_signOf_1 rfl (by rw [hc4]; decide) (by rw [hc4]; decide) (by rw [hc4]; rfl) rfl ?_
          refine fx_iconst (x := 1) dX7_signOf_159 rfl (by decide) ?_
          cases h
          exact fx_ireturn dX7_signOf_160 rfl rfl
        · rw [if_neg hc4] at h
          by_cases hc5 : a0 = (39 : Int32)
          · rw [if_pos hc5] at h
            refine fx_tabIn (t := 159) dX7_signOf_1 rfl (by rw [hc5]; decide) (by rw [hc5]; decide) (by rw [hc5]; rfl) rfl ?_
            refine fx_iconst (x := 1) dX7_signOf_159 rfl (by decide) ?_
            cases h
            exact fx_ireturn dX7_signOf_160 rfl rfl
          · rw [if_neg hc5] at h
            by_cases hc6 : a0 = (40 : Int32)
            · rw [if_pos hc6] at h
              refine fx_tabIn (t := 150) dX7_signOf_1 rfl (by rw [hc6]; decide) (by rw [hc6]; decide) (by rw [hc6]; rfl) rfl ?_
              refine fx_bipush (x := 13) dX7_signOf_150 rfl (by decide) ?_
              cases h
              exact fx_ireturn dX7_signOf_152 rfl rfl
            · rw [if_neg hc6] at h
              by_cases hc7 : a0 = (41 : Int32)
              · rw [if_pos hc7] at h
                refine fx_tabIn (t := 153) dX7_signOf_1 rfl (by rw [hc7]; decide) (by rw [hc7]; decide) (by rw [hc7]; rfl) rfl ?_
                refine fx_bipush (x := 14) dX7_signOf_153 rfl (by decide) ?_
                cases h
                exact fx_ireturn dX7_signOf_155 rfl rfl
              · rw [if_neg hc7] at h
                by_cases hc8 : a0 = (42 : Int32)
                · rw [if_pos hc8] at h
                  refine fx_tabIn (t := 144) dX7_signOf_1 rfl (by rw [hc8]; decide) (by rw [hc8]; decide) (by rw [hc8]; rfl) rfl ?_
                  refine fx_bipush (x := 11) dX7_signOf_144 rfl (by decide) ?_
                  cases h
                  exact fx_ireturn dX7_signOf_146 rfl rfl
                · rw [if_neg hc8] at h
                  by_cases hc9 : a0 = (43 : Int32)
                  · rw [if_pos hc9] at h
                    refine fx_tabIn (t := 138) dX7_signOf_1 rfl (by rw [hc9]; decide) (by rw [hc9]; decide) (by rw [hc9]; rfl) rfl ?_
                    refine fx_bipush (x := 9) dX7_signOf_138 rfl (by decide) ?_
                    cases h
                    exact fx_ireturn dX7_signOf_140 rfl rfl
                  · rw [if_neg hc9] at h
                    by_cases hc10 : a0 = (44 : Int32)
                    · rw [if_pos hc10] at h
                      refine fx_tabIn (t := 159) dX7_signOf_1 rfl (by rw [hc10]; decide) (by rw [hc10]; decide) (by rw [hc10]; rfl) rfl ?_
                      refine fx_iconst (x := 1) dX7_signOf_159 rfl (by decide) ?_
                      cases h
                      exact fx_ireturn dX7_signOf_160 rfl rfl
                    · rw [if_neg hc10] at h
                      by_cases hc11 : a0 = (45 : Int32)
                      · rw [if_pos hc11] at h
                        refine fx_tabIn (t := 141) dX7_signOf_1 rfl (by rw [hc11]; decide) (by rw [hc11]; decide) (by rw [hc11]; rfl) rfl ?_
                        refine fx_bipush (x := 10) dX7_signOf_141 rfl (by decide) ?_
                        cases h
                        exact fx_ireturn dX7_signOf_143 rfl rfl
                      · rw [if_neg hc11] at h
                        by_cases hc12 : a0 = (46 : Int32)
                        · rw [if_pos hc12] at h
                          refine fx_tabIn (t := 159) dX7_signOf_1 rfl (by rw [hc12]; decide) (by rw [hc12]; decide) (by rw [hc12]; rfl) rfl ?_
                          refine fx_iconst (x := 1) dX7_signOf_159 rfl (by decide) ?_
                          cases h
                          exact fx_ireturn dX7_signOf_160 rfl rfl
                        · rw [if_neg hc12] at h
                          by_cases hc13 : a0 = (47 : Int32)
                          · rw [if_pos hc13] at h
                            refine fx_tabIn (t := 147) dX7_signOf_1 rfl (by rw [hc13]; decide) (by rw [hc13]; decide) (by rw [hc13]; rfl) rfl ?_
                            refine fx_bipush (x := 12) dX7_signOf_147 rfl (by decide) ?_
                            cases h
                            exact fx_ireturn dX7_signOf_149 rfl rfl
                          · rw [if_neg hc13] at h
                            by_cases hc14 : a0 = (48 : Int32)
                            · rw [if_pos hc14] at h
                              refine fx_tabIn (t := 159) dX7_signOf_1 rfl (by rw [hc14]; decide) (by rw [hc14]; decide) (by rw [hc14]; rfl) rfl ?_
                              refine fx_iconst (x := 1) dX7_signOf_159 rfl (by decide) ?_
                              cases h
                              exact fx_ireturn dX7_signOf_160 rfl rfl
                            · rw [if_neg hc14] at h
                              by_cases hc15 : a0 = (49 : Int32)
                              · rw [if_pos hc15] at h
                                refine fx_tabIn (t := 159) dX7_signOf_1 rfl (by rw [hc15]; decide) (by rw [hc15]; decide) (by rw [hc15]; rfl) rfl ?_
                                refine fx_iconst (x := 1) dX7_signOf_159 rfl (by decide) ?_
                                cases h
                                exact fx_ireturn dX7_signOf_160 rfl rfl
                              · rw [if_neg hc15] at h
                                by_cases hc16 : a0 = (50 : Int32)
                                · rw [if_pos hc16] at h
                                  refine fx_tabIn (t := 159) dX7_signOf_1 rfl (by rw [hc16]; decide) (by rw [hc16]; decide) (by rw [hc16]; rfl) rfl ?_
                                  refine fx_iconst (x := 1) dX7_signOf_159 rfl (by decide) ?_
                                  cases h
                                  exact fx_ireturn dX7_signOf_160 rfl rfl
                                · rw [if_neg hc16] at h
                                  by_cases hc17 : a0 = (51 : Int32)
                                  · rw [if_pos hc17] at h
                                    refine fx_tabIn (t := 159) dX7_signOf_1 rfl (by rw [hc17]; decide) (by rw [hc17]; decide) (by rw [hc17]; rfl) rfl ?_
                                    refine fx_iconst (x := 1) dX7_signOf_159 rfl (by decide) ?_
                                    cases h
                                    exact fx_ireturn dX7_signOf_160 rfl rfl
                                  · rw [if_neg hc17] at h
                                    by_cases hc18 : a0 = (52 : Int32)
                                    · rw [if_pos hc18] at h
                                      refine fx_tabIn (t := 159) dX7_signOf_1 rfl (by rw [hc18]; decide) (by rw [hc18]; decide) (by rw [hc18]; rfl) rfl ?_
                                      refine fx_iconst (x := 1) dX7_signOf_159 rfl (by decide) ?_
                                      cases h
                                      exact fx_ireturn dX7_signOf_160 rfl rfl
                                    · rw [if_neg hc18] at h
                                      by_cases hc19 : a0 = (53 : Int32)
                                      · rw [if_pos hc19] at h
                                        refine fx_tabIn (t := 159) dX7_signOf_1 rfl (by rw [hc19]; decide) (by rw [hc19]; decide) (by rw [hc19]; rfl) rfl ?_
                                        refine fx_iconst (x := 1) dX7_signOf_159 rfl (by decide) ?_
                                        cases h
                                        exact fx_ireturn dX7_signOf_160 rfl rfl
                                      · rw [if_neg hc19] at h
                                        by_cases hc20 : a0 = (54 : Int32)
                                        · rw [if_pos hc20] at h
                                          refine fx_tabIn (t := 159) dX7_signOf_1 rfl (by rw [hc20]; decide) (by rw [hc20]; decide) (by rw [hc20]; rfl) rfl ?_
                                          refine fx_iconst (x := 1) dX7_signOf_159 rfl (by decide) ?_
                                          cases h
                                          exact fx_ireturn dX7_signOf_160 rfl rfl
                                        · rw [if_neg hc20] at h
                                          by_cases hc21 : a0 = (55 : Int32)
                                          · rw [if_pos hc21] at h
                                            refine fx_tabIn (t := 159) dX7_signOf_1 rfl (by rw [hc21]; decide) (by rw [hc21]; decide) (by rw [hc21]; rfl) rfl ?_
                                            refine fx_iconst (x := 1) dX7_signOf_159 rfl (by decide) ?_
                                            cases h
                                            exact fx_ireturn dX7_signOf_160 rfl rfl
                                          · rw [if_neg hc21] at h
                                            by_cases hc22 : a0 = (56 : Int32)
                                            · rw [if_pos hc22] at h
                                              refine fx_tabIn (t := 159) dX7_signOf_1 rfl (by rw [hc22]; decide) (by rw [hc22]; decide) (by rw [hc22]; rfl) rfl ?_
                                              refine fx_iconst (x := 1) dX7_signOf_159 rfl (by decide) ?_
                                              cases h
                                              exact fx_ireturn dX7_signOf_160 rfl rfl
                                            · rw [if_neg hc22] at h
                                              by_cases hc23 : a0 = (57 : Int32)
                                              · rw [if_pos hc23] at h
                                                refine fx_tabIn (t := 159) dX7_signOf_1 rfl (by rw [hc23]; decide) (by rw [hc23]; decide) (by rw [hc23]; rfl) rfl ?_
                                                refine fx_iconst (x := 1) dX7_signOf_159 rfl (by decide) ?_
                                                cases h
                                                exact fx_ireturn dX7_signOf_160 rfl rfl
                                              · rw [if_neg hc23] at h
                                                by_cases hc24 : a0 = (58 : Int32)
                                                · rw [if_pos hc24] at h
                                                  refine fx_tabIn (t := 159) dX7_signOf_1 rfl (by rw [hc24]; decide) (by rw [hc24]; decide) (by rw [hc24]; rfl) rfl ?_
                                                  refine fx_iconst (x := 1) dX7_signOf_159 rfl (by decide) ?_
                                                  cases h
                                                  exact fx_ireturn dX7_signOf_160 rfl rfl
                                                · rw [if_neg hc24] at h
                                                  by_cases hc25 : a0 = (59 : Int32)
                                                  · rw [if_pos hc25] at h
                                                    refine fx_tabIn (t := 156) dX7_signOf_1 rfl (by rw [hc25]; decide) (by rw [hc25]; decide) (by rw [hc25]; rfl) rfl ?_
                                                    refine fx_bipush (x := 15) dX7_signOf_156 rfl (by decide) ?_
                                                    cases h
                                                    exact fx_ireturn dX7_signOf_158 rfl rfl
                                                  · rw [if_neg hc25] at h
                                                    by_cases hc26 : a0 = (60 : Int32)
                                                    · rw [if_pos hc26] at h
                                                      refine fx_tabIn (t := 128) dX7_signOf_1 rfl (by rw [hc26]; decide) (by rw [hc26]; decide) (by rw [hc26]; rfl) rfl ?_
                                                      refine fx_iconst (x := 3) dX7_signOf_128 rfl (by decide) ?_
                                                      cases h
                                                      exact fx_ireturn dX7_signOf_129 rfl rfl
                                                    · rw [if_neg hc26] at h
                                                      by_cases hc27 : a0 = (61 : Int32)
                                                      · rw [if_pos hc27] at h
                                                        refine fx_tabIn (t := 132) dX7_signOf_1 rfl (by rw [hc27]; decide) (by rw [hc27]; decide) (by rw [hc27]; rfl) rfl ?_
                                                        refine fx_bipush (x := 7) dX7_signOf_132 rfl (by decide) ?_
                                                        cases h
                                                        exact fx_ireturn dX7_signOf_134 rfl rfl
                                                      · rw [if_neg hc27] at h
                                                        by_cases hc28 : a0 = (62 : Int32)
                                                        · rw [if_pos hc28] at h
                                                          refine fx_tabIn (t := 130) dX7_signOf_1 rfl (by rw [hc28]; decide) (by rw [hc28]; decide) (by rw [hc28]; rfl) rfl ?_
                                                          refine fx_iconst (x := 5) dX7_signOf_130 rfl (by decide) ?_
                                                          cases h
                                                          exact fx_ireturn dX7_signOf_131 rfl rfl
                                                        · rw [if_neg hc28] at h
                                                          have e35 : a0.toInt ≠ 35 := fun q => hc1 (Int32.toInt_inj.mp (q.trans (by decide)))
                                                          have e36 : a0.toInt ≠ 36 := fun q => hc2 (Int32.toInt_inj.mp (q.trans (by decide)))
                                                          have e37 : a0.toInt ≠ 37 := fun q => hc3 (Int32.toInt_inj.mp (q.trans (by decide)))
                                                          have e38 : a0.toInt ≠ 38 := fun q => hc4 (Int32.toInt_inj.mp (q.trans (by decide)))
                                                          have e39 : a0.toInt ≠ 39 := fun q => hc5 (Int32.toInt_inj.mp (q.trans (by decide)))
                                                          have e40 : a0.toInt ≠ 40 := fun q => hc6 (Int32.toInt_inj.mp (q.trans (by decide)))
                                                          have e41 : a0.toInt ≠ 41 := fun q => hc7 (Int32.toInt_inj.mp (q.trans (by decide)))
                                                          have e42 : a0.toInt ≠ 42 := fun q => hc8 (Int32.toInt_inj.mp (q.trans (by decide)))
                                                          have e43 : a0.toInt ≠ 43 := fun q => hc9 (Int32.toInt_inj.mp (q.trans (by decide)))
                                                          have e44 : a0.toInt ≠ 44 := fun q => hc10 (Int32.toInt_inj.mp (q.trans (by decide)))
                                                          have e45 : a0.toInt ≠ 45 := fun q => hc11 (Int32.toInt_inj.mp (q.trans (by decide)))
                                                          have e46 : a0.toInt ≠ 46 := fun q => hc12 (Int32.toInt_inj.mp (q.trans (by decide)))
                                                          have e47 : a0.toInt ≠ 47 := fun q => hc13 (Int32.toInt_inj.mp (q.trans (by decide)))
                                                          have e48 : a0.toInt ≠ 48 := fun q => hc14 (Int32.toInt_inj.mp (q.trans (by decide)))
                                                          have e49 : a0.toInt ≠ 49 := fun q => hc15 (Int32.toInt_inj.mp (q.trans (by decide)))
                                                          have e50 : a0.toInt ≠ 50 := fun q => hc16 (Int32.toInt_inj.mp (q.trans (by decide)))
                                                          have e51 : a0.toInt ≠ 51 := fun q => hc17 (Int32.toInt_inj.mp (q.trans (by decide)))
                                                          have e52 : a0.toInt ≠ 52 := fun q => hc18 (Int32.toInt_inj.mp (q.trans (by decide)))
                                                          have e53 : a0.toInt ≠ 53 := fun q => hc19 (Int32.toInt_inj.mp (q.trans (by decide)))
                                                          have e54 : a0.toInt ≠ 54 := fun q => hc20 (Int32.toInt_inj.mp (q.trans (by decide)))
                                                          have e55 : a0.toInt ≠ 55 := fun q => hc21 (Int32.toInt_inj.mp (q.trans (by decide)))
                                                          have e56 : a0.toInt ≠ 56 := fun q => hc22 (Int32.toInt_inj.mp (q.trans (by decide)))
                                                          have e57 : a0.toInt ≠ 57 := fun q => hc23 (Int32.toInt_inj.mp (q.trans (by decide)))
                                                          have e58 : a0.toInt ≠ 58 := fun q => hc24 (Int32.toInt_inj.mp (q.trans (by decide)))
                                                          have e59 : a0.toInt ≠ 59 := fun q => hc25 (Int32.toInt_inj.mp (q.trans (by decide)))
                                                          have e60 : a0.toInt ≠ 60 := fun q => hc26 (Int32.toInt_inj.mp (q.trans (by decide)))
                                                          have e61 : a0.toInt ≠ 61 := fun q => hc27 (Int32.toInt_inj.mp (q.trans (by decide)))
                                                          have e62 : a0.toInt ≠ 62 := fun q => hc28 (Int32.toInt_inj.mp (q.trans (by decide)))
                                                          refine fx_tabOut (t := 159) dX7_signOf_1 rfl (by omega) rfl ?_
                                                          refine fx_iconst (x := 1) dX7_signOf_159 rfl (by decide) ?_
                                                          cases h
                                                          exact fx_ireturn dX7_signOf_160 rfl rfl
def fX7_signOf (a0 : Int32) (m : xMem) : Option (Int32 × xMem) := fX7_signOf_0 a0  m
theorem fX7_signOf_ok {a0 : Int32} {m : xMem} {r : (Int32 × xMem)} {d : Nat} (hd : 1 ≤ d)  (h : fX7_signOf a0 m = some r) : xEx d 71 [.int a0] (xLay m) (some (.int r.1)) (xLay r.2) := by
  obtain ⟨d, rfl⟩ : ∃ q, d = q + 1 := ⟨d - 1, by omega⟩
  exact xEx_of me_71 rfl (fX7_signOf_0_ok (d := d) (by omega) h)
def fX7_byteAt_31 (a0 : Nat) (a1 : Int32) (s0 : Int32) (m : xMem) : Option (Int32 × xMem) := some (s0, m)
set_option maxRecDepth 4000 in
theorem fX7_byteAt_31_ok {a0 : Nat} {a1 : Int32} {d : Nat} (hd : 0 ≤ d) (ha0 : isReader a0) {s0 : Int32} {m : xMem} {r : (Int32 × xMem)} (h : fX7_byteAt_31 a0 a1 s0 m = some r) : xFx hh_54 cX7_byteAt d 31 [some (.ref a0), some (.int a1)] [.int s0] (xLay m) 0 0 (some (.int r.1)) (xLay r.2) := by
  unfold fX7_byteAt_31 at h
  cases h
  exact fx_ireturn dX7_byteAt_31 rfl rfl
def fX7_byteAt_30 (a0 : Nat) (a1 : Int32) (m : xMem) : Option (Int32 × xMem) := fX7_byteAt_31 a0 a1 (-1 : Int32) m
set_option maxRecDepth 4000 in
theorem fX7_byteAt_30_ok {a0 : Nat} {a1 : Int32} {d : Nat} (hd : 0 ≤ d) (ha0 : isReader a0) {m : xMem} {r : (Int32 × xMem)} (h : fX7_byteAt_30 a0 a1 m = some r) : xFx hh_54 cX7_byteAt d 30 [some (.ref a0), some (.int a1)] [] (xLay m) 0 0 (some (.int r.1)) (xLay r.2) := by
  unfold fX7_byteAt_30 at h
  refine fx_iconst (x := -1) dX7_byteAt_30 rfl (by decide) ?_
  exact fX7_byteAt_31_ok hd ha0 h
def fX7_byteAt_0 (a0 : Nat) (a1 : Int32) (m : xMem) : Option (Int32 × xMem) := if a1 < (0 : Int32) then fX7_byteAt_30 a0 a1 m else xLet (m.1 a0 4) fun x2 => if x2 ≤ a1 then fX7_byteAt_30 a0 a1 m else if (300 : Int32) ≤ a1 then fX7_byteAt_30 a0 a1 m else bif xIn a1 300 then xLet (m.1 (a0 + 1) a1.toNatClampNeg) fun x5 => fX7_byteAt_31 a0 a1 x5 m else none
set_option maxRecDepth 4000 in
theorem fX7_byteAt_0_ok {a0 : Nat} {a1 : Int32} {d : Nat} (hd : 0 ≤ d) (ha0 : isReader a0) {m : xMem} {r : (Int32 × xMem)} (h : fX7_byteAt_0 a0 a1 m = some r) : xFx hh_54 cX7_byteAt d 0 [some (.ref a0), some (.int a1)] [] (xLay m) 0 0 (some (.int r.1)) (xLay r.2) := by
  unfold fX7_byteAt_0 at h
  refine fx_iload_n dX7_byteAt_0 rfl rfl ?_
  refine fx_if_lt (t := 30) dX7_byteAt_1 rfl rfl (fun hc1 => ?_) (fun hc1 => ?_)
  · rw [if_pos hc1] at h
    exact fX7_byteAt_30_ok hd ha0 h
  · rw [if_neg hc1] at h
    refine fx_iload_n dX7_byteAt_4 rfl rfl ?_
    refine fx_aload_n dX7_byteAt_5 rfl rfl ?_
    obtain ⟨x2, hx2, h⟩ := xLet_el h
    refine gx_get dX7_byteAt_6 rfl fd_7_31 ha0.1 rfl rfl hx2 ?_
    refine fx_icmp_ge (t := 30) dX7_byteAt_9 rfl rfl (fun hc3 => ?_) (fun hc3 => ?_)
    · rw [if_pos hc3] at h
      exact fX7_byteAt_30_ok hd ha0 h
    · rw [if_neg hc3] at h
      refine fx_iload_n dX7_byteAt_12 rfl rfl ?_
      refine fx_aload_n dX7_byteAt_13 rfl rfl ?_
      refine gx_getr dX7_byteAt_14 rfl fd_7_11 ha0.1 rfl rfl ?_
      refine gx_alen (t := 1) (y := 300) dX7_byteAt_17 rfl ha0.2.1 rfl (by decide) ?_
      refine fx_icmp_ge (t := 30) dX7_byteAt_18 rfl rfl (fun hc4 => ?_) (fun hc4 => ?_)
      · rw [if_pos hc4] at h
        exact fX7_byteAt_30_ok hd ha0 h
      · rw [if_neg hc4] at h
        refine fx_aload_n dX7_byteAt_21 rfl rfl ?_
        refine gx_getr dX7_byteAt_22 rfl fd_7_11 ha0.1 rfl rfl ?_
        refine fx_iload_n dX7_byteAt_25 rfl rfl ?_
        obtain ⟨hj6, h⟩ := xChk_el h
        obtain ⟨x5, hx5, h⟩ := xLet_el h
        refine gx_iaload dX7_byteAt_26 rfl ha0.2.1 hj6 hx5 ?_
        refine fx_goto (t := 31) dX7_byteAt_27 rfl rfl ?_
        exact fX7_byteAt_31_ok hd ha0 h
def fX7_byteAt (a0 : Nat) (a1 : Int32) (m : xMem) : Option (Int32 × xMem) := fX7_byteAt_0 a0 a1  m
theorem fX7_byteAt_ok {a0 : Nat} {a1 : Int32} {m : xMem} {r : (Int32 × xMem)} {d : Nat} (hd : 1 ≤ d) (ha0 : isReader a0) (h : fX7_byteAt a0 a1 m = some r) : xEx d 54 [.ref a0, .int a1] (xLay m) (some (.int r.1)) (xLay r.2) := by
  obtain ⟨d, rfl⟩ : ∃ q, d = q + 1 := ⟨d - 1, by omega⟩
  exact xEx_of me_54 rfl (fX7_byteAt_0_ok (d := d) (by omega) ha0 h)
def fX7_isLetter_29 (a0 : Int32) (s0 : Int32) (m : xMem) : Option (Int32 × xMem) := bif (decide (s0 = 0) || decide (s0 = 1)) then some (s0, m) else none
set_option maxRecDepth 4000 in
theorem fX7_isLetter_29_ok {a0 : Int32} {d : Nat} (hd : 0 ≤ d)  {s0 : Int32} {m : xMem} {r : (Int32 × xMem)} (h : fX7_isLetter_29 a0 s0 m = some r) : xFx hh_55 cX7_isLetter d 29 [some (.int a0)] [.int s0] (xLay m) 0 0 (some (.int r.1)) (xLay r.2) := by
  unfold fX7_isLetter_29 at h
  obtain ⟨hb1, h⟩ := xChk_el h
  cases h
  exact fx_ireturn dX7_isLetter_29 rfl (by show ((decide _ || decide _) && _) = true; rw [hb1]; rfl)
def fX7_isLetter_24 (a0 : Int32) (m : xMem) : Option (Int32 × xMem) := fX7_isLetter_29 a0 (1 : Int32) m
set_option maxRecDepth 4000 in
theorem fX7_isLetter_24_ok {a0 : Int32} {d : Nat} (hd : 0 ≤ d)  {m : xMem} {r : (Int32 × xMem)} (h : fX7_isLetter_24 a0 m = some r) : xFx hh_55 cX7_isLetter d 24 [some (.int a0)] [] (xLay m) 0 0 (some (.int r.1)) (xLay r.2) := by
  unfold fX7_isLetter_24 at h
  refine fx_iconst (x := 1) dX7_isLetter_24 rfl (by decide) ?_
  refine fx_goto (t := 29) dX7_isLetter_25 rfl rfl ?_
  exact fX7_isLetter_29_ok hd h
def fX7_isLetter_28 (a0 : Int32) (m : xMem) : Option (Int32 × xMem) := fX7_isLetter_29 a0 (0 : Int32) m
set_option maxRecDepth 4000 in
theorem fX7_isLetter_28_ok {a0 : Int32} {d : Nat} (hd : 0 ≤ d)  {m : xMem} {r : (Int32 × xMem)} (h : fX7_isLetter_28 a0 m = some r) : xFx hh_55 cX7_isLetter d 28 [some (.int a0)] [] (xLay m) 0 0 (some (.int r.1)) (xLay r.2) := by
  unfold fX7_isLetter_28 at h
  refine fx_iconst (x := 0) dX7_isLetter_28 rfl (by decide) ?_
  exact fX7_isLetter_29_ok hd h
def fX7_isLetter_12 (a0 : Int32) (m : xMem) : Option (Int32 × xMem) := if a0 < (65 : Int32) then fX7_isLetter_28 a0 m else if (90 : Int32) < a0 then fX7_isLetter_28 a0 m else fX7_isLetter_24 a0 m
set_option maxRecDepth 4000 in
theorem fX7_isLetter_12_ok {a0 : Int32} {d : Nat} (hd : 0 ≤ d)  {m : xMem} {r : (Int32 × xMem)} (h : fX7_isLetter_12 a0 m = some r) : xFx hh_55 cX7_isLetter d 12 [some (.int a0)] [] (xLay m) 0 0 (some (.int r.1)) (xLay r.2) := by
  unfold fX7_isLetter_12 at h
  refine fx_iload_n dX7_isLetter_12 rfl rfl ?_
  refine fx_bipush (x := 65) dX7_isLetter_13 rfl (by decide) ?_
  refine fx_icmp_lt (t := 28) dX7_isLetter_15 rfl rfl (fun hc1 => ?_) (fun hc1 => ?_)
  · rw [if_pos hc1] at h
    exact fX7_isLetter_28_ok hd h
  · rw [if_neg hc1] at h
    refine fx_iload_n dX7_isLetter_18 rfl rfl ?_
    refine fx_bipush (x := 90) dX7_isLetter_19 rfl (by decide) ?_
    refine fx_icmp_gt (t := 28) dX7_isLetter_21 rfl rfl (fun hc2 => ?_) (fun hc2 => ?_)
    · rw [if_pos hc2] at h
      exact fX7_isLetter_28_ok hd h
    · rw [if_neg hc2] at h
      exact fX7_isLetter_24_ok hd h
def fX7_isLetter_0 (a0 : Int32) (m : xMem) : Option (Int32 × xMem) := if a0 < (97 : Int32) then fX7_isLetter_12 a0 m else if a0 ≤ (122 : Int32) then fX7_isLetter_24 a0 m else fX7_isLetter_12 a0 m
set_option maxRecDepth 4000 in
theorem fX7_isLetter_0_ok {a0 : Int32} {d : Nat} (hd : 0 ≤ d)  {m : xMem} {r : (Int32 × xMem)} (h : fX7_isLetter_0 a0 m = some r) : xFx hh_55 cX7_isLetter d 0 [some (.int a0)] [] (xLay m) 0 0 (some (.int r.1)) (xLay r.2) := by
  unfold fX7_isLetter_0 at h
  refine fx_iload_n dX7_isLetter_0 rfl rfl ?_
  refine fx_bipush (x := 97) dX7_isLetter_1 rfl (by decide) ?_
  refine fx_icmp_lt (t := 12) dX7_isLetter_3 rfl rfl (fun hc1 => ?_) (fun hc1 => ?_)
  · rw [if_pos hc1] at h
    exact fX7_isLetter_12_ok hd h
  · rw [if_neg hc1] at h
    refine fx_iload_n dX7_isLetter_6 rfl rfl ?_
    refine fx_bipush (x := 122) dX7_isLetter_7 rfl (by decide) ?_
    refine fx_icmp_le (t := 24) dX7_isLetter_9 rfl rfl (fun hc2 => ?_) (fun hc2 => ?_)
    · rw [if_pos hc2] at h
      exact fX7_isLetter_24_ok hd h
    · rw [if_neg hc2] at h
      exact fX7_isLetter_12_ok hd h
def fX7_isLetter (a0 : Int32) (m : xMem) : Option (Int32 × xMem) := fX7_isLetter_0 a0  m
theorem fX7_isLetter_ok {a0 : Int32} {m : xMem} {r : (Int32 × xMem)} {d : Nat} (hd : 1 ≤ d)  (h : fX7_isLetter a0 m = some r) : xEx d 55 [.int a0] (xLay m) (some (.int r.1)) (xLay r.2) := by
  obtain ⟨d, rfl⟩ : ∃ q, d = q + 1 := ⟨d - 1, by omega⟩
  exact xEx_of me_55 rfl (fX7_isLetter_0_ok (d := d) (by omega) h)
def fX7_isWord_24 (a0 : Nat) (a1 : Int32) (a2 : Int32) (a3 : Int32) (a4 : Int32) (m : xMem) : Option (Int32 × xMem) := some ((0 : Int32), m)
set_option maxRecDepth 4000 in
theorem fX7_isWord_24_ok {a0 : Nat} {a1 : Int32} {a2 : Int32} {a3 : Int32} {a4 : Int32} {d : Nat} (hd : 5 ≤ d) (ha0 : isReader a0) {o5 : Option Value} {m : xMem} {r : (Int32 × xMem)} (q5 : xNoD o5 = true) (h : fX7_isWord_24 a0 a1 a2 a3 a4 m = some r) : xFx hh_68 cX7_isWord d 24 [some (.ref a0), some (.int a1), some (.int a2), some (.int a3), some (.int a4), o5] [] (xLay m) 0 0 (some (.int r.1)) (xLay r.2) := by
  unfold fX7_isWord_24 at h
  refine fx_iconst (x := 0) dX7_isWord_24 rfl (by decide) ?_
  cases h
  exact fx_ireturn dX7_isWord_25 rfl rfl
def fX7_isWord_29 (a0 : Nat) (a1 : Int32) (a2 : Int32) (a3 : Int32) (a4 : Int32) : Nat → Int32 → xMem → Option (Int32 × xMem)
  | 0, _, _ => none
  | fuel + 1, l5, m => if a4 ≤ l5 then some ((1 : Int32), m) else bif xIn l5 73 then xLet (xChr l5) fun x2 => xLet (a1 + l5) fun x4 => xLet (x4 - a3) fun x5 => (fX7_byteAt a0 x5 m).bind fun p6 => if x2 = p6.1 then xLet (l5 + (1 : Int32)) fun x8 => fX7_isWord_29 a0 a1 a2 a3 a4 fuel x8 p6.2 else some ((0 : Int32), p6.2) else none
set_option maxRecDepth 4000 in
theorem fX7_isWord_29_ok {a0 : Nat} {a1 : Int32} {a2 : Int32} {a3 : Int32} {a4 : Int32} {d : Nat} (hd : 5 ≤ d) (ha0 : isReader a0) : ∀ (fuel : Nat) (l5 : Int32) (m : xMem) (r : (Int32 × xMem)), fX7_isWord_29 a0 a1 a2 a3 a4 fuel l5 m = some r → xFx hh_68 cX7_isWord d 29 [some (.ref a0), some (.int a1), some (.int a2), some (.int a3), some (.int a4), some (.int l5)] [] (xLay m) 0 0 (some (.int r.1)) (xLay r.2) := by
  intro fuel
  induction fuel with
  | zero => intro l5  m r  h; cases h
  | succ fuel ih =>
    intro l5  m r  h
    unfold fX7_isWord_29 at h
    refine fx_iload dX7_isWord_29 rfl rfl ?_
    refine fx_iload dX7_isWord_31 rfl rfl ?_
    refine fx_icmp_ge (t := 64) dX7_isWord_33 rfl rfl (fun hc1 => ?_) (fun hc1 => ?_)
    · rw [if_pos hc1] at h
      refine fx_iconst (x := 1) dX7_isWord_64 rfl (by decide) ?_
      cases h
      exact fx_ireturn dX7_isWord_65 rfl rfl
    · rw [if_neg hc1] at h
      refine fx_ldcT dX7_isWord_36 rfl (by decide +kernel) rfl ?_
      refine fx_iload dX7_isWord_38 rfl rfl ?_
      obtain ⟨hj3, h⟩ := xChk_el h
      obtain ⟨x2, hx2, h⟩ := xLet_el h
      refine gx_tchr rfl dX7_isWord_40 ca_7_96 rfl (by omega) hj3 hx2 rfl ?_
      refine fx_aload_n dX7_isWord_43 rfl rfl ?_
      refine fx_iload_n dX7_isWord_44 rfl rfl ?_
      refine fx_iload dX7_isWord_45 rfl rfl ?_
      obtain ⟨x4, hx4, h⟩ := xLet_el h
      refine fx_iadd dX7_isWord_47 rfl hx4 ?_
      refine fx_iload_n dX7_isWord_48 rfl rfl ?_
      obtain ⟨x5, hx5, h⟩ := xLet_el h
      refine fx_isub dX7_isWord_49 rfl hx5 ?_
      obtain ⟨p6, ep6, h⟩ := xBind_el h
      refine gx_callv (as := [.int x5]) (r := [.int x2]) rfl dX7_isWord_50 ca_7_67 rfl me_54 rfl rfl rfl rfl (ha0.1) rfl (fX7_byteAt_ok (d := d) (by omega) ha0 ep6) rfl rfl ?_
      refine fx_icmp_eq (t := 58) dX7_isWord_53 rfl rfl (fun hc7 => ?_) (fun hc7 => ?_)
      · rw [if_pos hc7] at h
        obtain ⟨x8, hx8, h⟩ := xLet_el h
        refine fx_iinc (ls2 := [some (.ref a0), some (.int a1), some (.int a2), some (.int a3), some (.int a4), some (.int x8)]) dX7_isWord_58 rfl rfl rfl hx8 rfl ?_
        refine fx_goto (t := 29) dX7_isWord_61 rfl rfl ?_
        exact ih x8 p6.2 r h
      · rw [if_neg hc7] at h
        refine fx_iconst (x := 0) dX7_isWord_56 rfl (by decide) ?_
        cases h
        exact fx_ireturn dX7_isWord_57 rfl rfl
def fX7_isWord_0 (a0 : Nat) (a1 : Int32) (a2 : Int32) (a3 : Int32) (a4 : Int32) (m : xMem) : Option (Int32 × xMem) := xLet (a2 - a1) fun x1 => xLet (a4 - a3) fun x2 => if ¬ x1 = x2 then fX7_isWord_24 a0 a1 a2 a3 a4 m else if a3 < (0 : Int32) then fX7_isWord_24 a0 a1 a2 a3 a4 m else if a4 ≤ (73 : Int32) then fX7_isWord_29 a0 a1 a2 a3 a4 xFuel a3 m else fX7_isWord_24 a0 a1 a2 a3 a4 m
set_option maxRecDepth 4000 in
theorem fX7_isWord_0_ok {a0 : Nat} {a1 : Int32} {a2 : Int32} {a3 : Int32} {a4 : Int32} {d : Nat} (hd : 5 ≤ d) (ha0 : isReader a0) {o5 : Option Value} {m : xMem} {r : (Int32 × xMem)} (q5 : xNoD o5 = true) (h : fX7_isWord_0 a0 a1 a2 a3 a4 m = some r) : xFx hh_68 cX7_isWord d 0 [some (.ref a0), some (.int a1), some (.int a2), some (.int a3), some (.int a4), o5] [] (xLay m) 0 0 (some (.int r.1)) (xLay r.2) := by
  unfold fX7_isWord_0 at h
  refine fx_iload_n dX7_isWord_0 rfl rfl ?_
  refine fx_iload_n dX7_isWord_1 rfl rfl ?_
  obtain ⟨x1, hx1, h⟩ := xLet_el h
  refine fx_isub dX7_isWord_2 rfl hx1 ?_
  refine fx_iload dX7_isWord_3 rfl rfl ?_
  refine fx_iload_n dX7_isWord_5 rfl rfl ?_
  obtain ⟨x2, hx2, h⟩ := xLet_el h
  refine fx_isub dX7_isWord_6 rfl hx2 ?_
  refine fx_icmp_ne (t := 24) dX7_isWord_7 rfl rfl (fun hc3 => ?_) (fun hc3 => ?_)
  · rw [if_pos hc3] at h
    exact fX7_isWord_24_ok (o5 := o5) hd ha0 q5 h
  · rw [if_neg hc3] at h
    refine fx_iload_n dX7_isWord_10 rfl rfl ?_
    refine fx_if_lt (t := 24) dX7_isWord_11 rfl rfl (fun hc4 => ?_) (fun hc4 => ?_)
    · rw [if_pos hc4] at h
      exact fX7_isWord_24_ok (o5 := o5) hd ha0 q5 h
    · rw [if_neg hc4] at h
      refine fx_iload dX7_isWord_14 rfl rfl ?_
      refine fx_ldcT dX7_isWord_16 rfl (by decide +kernel) rfl ?_
      refine gx_tlen rfl dX7_isWord_18 ca_7_92 rfl (by omega) rfl ?_
      refine fx_icmp_le (t := 26) dX7_isWord_21 rfl rfl (fun hc5 => ?_) (fun hc5 => ?_)
      · rw [if_pos hc5] at h
        refine fx_iload_n dX7_isWord_26 rfl rfl ?_
        refine fx_istore (ls2 := [some (.ref a0), some (.int a1), some (.int a2), some (.int a3), some (.int a4), some (.int a3)]) dX7_isWord_27 rfl rfl rfl ?_
        exact fX7_isWord_29_ok hd ha0 xFuel a3 m r h
      · rw [if_neg hc5] at h
        exact fX7_isWord_24_ok (o5 := o5) hd ha0 q5 h
def fX7_isWord (a0 : Nat) (a1 : Int32) (a2 : Int32) (a3 : Int32) (a4 : Int32) (m : xMem) : Option (Int32 × xMem) := fX7_isWord_0 a0 a1 a2 a3 a4  m
theorem fX7_isWord_ok {a0 : Nat} {a1 : Int32} {a2 : Int32} {a3 : Int32} {a4 : Int32} {m : xMem} {r : (Int32 × xMem)} {d : Nat} (hd : 6 ≤ d) (ha0 : isReader a0) (h : fX7_isWord a0 a1 a2 a3 a4 m = some r) : xEx d 68 [.ref a0, .int a1, .int a2, .int a3, .int a4] (xLay m) (some (.int r.1)) (xLay r.2) := by
  obtain ⟨d, rfl⟩ : ∃ q, d = q + 1 := ⟨d - 1, by omega⟩
  exact xEx_of me_68 rfl (fX7_isWord_0_ok (d := d) (o5 := none) (by omega) ha0 rfl h)
def fX7_addWord_69 (a0 : Nat) (a1 : Int32) (a2 : Int32) (rec9 : Int32 → Int32 → Int32 → xMem → Option xMem) (l3 : Int32) (l4 : Int32) (l5 : Int32) (m : xMem) : Option xMem := xLet (l5 + (1 : Int32)) fun x1 => rec9 l3 l4 x1 m
set_option maxRecDepth 4000 in
theorem fX7_addWord_69_ok {a0 : Nat} {a1 : Int32} {a2 : Int32} {rec9 : Int32 → Int32 → Int32 → xMem → Option xMem} {d : Nat} (hd : 6 ≤ d) (ha0 : isReader a0) (hrec9 : ∀ (l3 : Int32) (l4 : Int32) (l5 : Int32) (m : xMem) (r : xMem), rec9 l3 l4 l5 m = some r → xFx hh_56 cX7_addWord d 9 [some (.ref a0), some (.int a1), some (.int a2), some (.int l3), some (.int l4), some (.int l5)] [] (xLay m) 0 0 none (xLay r)) {l3 : Int32} {l4 : Int32} {l5 : Int32} {m : xMem} {r : xMem} (h : fX7_addWord_69 a0 a1 a2 rec9 l3 l4 l5 m = some r) : xFx hh_56 cX7_addWord d 69 [some (.ref a0), some (.int a1), some (.int a2), some (.int l3), some (.int l4), some (.int l5)] [] (xLay m) 0 0 none (xLay r) := by
  unfold fX7_addWord_69 at h
  obtain ⟨x1, hx1, h⟩ := xLet_el h
  refine fx_iinc (ls2 := [some (.ref a0), some (.int a1), some (.int a2), some (.int l3), some (.int l4), some (.int x1)]) dX7_addWord_69 rfl rfl rfl hx1 rfl ?_
  refine fx_goto (t := 9) dX7_addWord_72 rfl rfl ?_
  exact hrec9 l3 l4 x1 m r h
def fX7_addWord_9 (a0 : Nat) (a1 : Int32) (a2 : Int32) : Nat → Int32 → Int32 → Int32 → xMem → Option xMem
  | 0, _, _, _, _ => none
  | fuel + 1, l3, l4, l5, m => if (73 : Int32) ≤ l5 then (fX7_addToken a0 (1 : Int32) (0 : Int32) a1 m).bind fun p2 => some p2 else bif xIn l5 73 then xLet (xChr l5) fun x3 => if ¬ x3 = (32 : Int32) then fX7_addWord_69 a0 a1 a2 (fX7_addWord_9 a0 a1 a2 fuel) l3 l4 l5 m else (fX7_isWord a0 a1 a2 l4 l5 m).bind fun p6 => if p6.1 = (0 : Int32) then xLet (l3 + (1 : Int32)) fun x8 => xLet (l5 + (1 : Int32)) fun x9 => fX7_addWord_69 a0 a1 a2 (fX7_addWord_9 a0 a1 a2 fuel) x8 x9 l5 p6.2 else xLet (xMin l3 (26 : Int32)) fun x10 => xLet (l3 - (26 : Int32)) fun x11 => (fX7_addToken a0 x10 x11 a1 p6.2).bind fun p12 => some p12 else none
set_option maxRecDepth 4000 in
theorem fX7_addWord_9_ok {a0 : Nat} {a1 : Int32} {a2 : Int32} {d : Nat} (hd : 6 ≤ d) (ha0 : isReader a0) : ∀ (fuel : Nat) (l3 : Int32) (l4 : Int32) (l5 : Int32) (m : xMem) (r : xMem), fX7_addWord_9 a0 a1 a2 fuel l3 l4 l5 m = some r → xFx hh_56 cX7_addWord d 9 [some (.ref a0), some (.int a1), some (.int a2), some (.int l3), some (.int l4), some (.int l5)] [] (xLay m) 0 0 none (xLay r) := by
  intro fuel
  induction fuel with
  | zero => intro l3 l4 l5  m r  h; cases h
  | succ fuel ih =>
    intro l3 l4 l5  m r  h
    unfold fX7_addWord_9 at h
    refine fx_iload dX7_addWord_9 rfl rfl ?_
    refine fx_ldcT dX7_addWord_11 rfl (by decide +kernel) rfl ?_
    refine gx_tlen rfl dX7_addWord_13 ca_7_92 rfl (by omega) rfl ?_
    refine fx_icmp_ge (t := 75) dX7_addWord_16 rfl rfl (fun hc1 => ?_) (fun hc1 => ?_)
    · rw [if_pos hc1] at h
      refine fx_aload_n dX7_addWord_75 rfl rfl ?_
      refine fx_iconst (x := 1) dX7_addWord_76 rfl (by decide) ?_
      refine fx_iconst (x := 0) dX7_addWord_77 rfl (by decide) ?_
      refine fx_iload_n dX7_addWord_78 rfl rfl ?_
      obtain ⟨p2, ep2, h⟩ := xBind_el h
      refine gx_callv (as := [.int (1 : Int32), .int (0 : Int32), .int a1]) (r := []) rfl dX7_addWord_79 ca_7_63 rfl me_69 rfl rfl rfl rfl (ha0.1) rfl (fX7_addToken_ok (d := d) (by omega) ha0 ep2) rfl rfl ?_
      cases h
      exact fx_return dX7_addWord_82 rfl rfl
    · rw [if_neg hc1] at h
      refine fx_ldcT dX7_addWord_19 rfl (by decide +kernel) rfl ?_
      refine fx_iload dX7_addWord_21 rfl rfl ?_
      obtain ⟨hj4, h⟩ := xChk_el h
      obtain ⟨x3, hx3, h⟩ := xLet_el h
      refine gx_tchr rfl dX7_addWord_23 ca_7_96 rfl (by omega) hj4 hx3 rfl ?_
      refine fx_bipush (x := 32) dX7_addWord_26 rfl (by decide) ?_
      refine fx_icmp_ne (t := 69) dX7_addWord_28 rfl rfl (fun hc5 => ?_) (fun hc5 => ?_)
      · rw [if_pos hc5] at h
        exact fX7_addWord_69_ok hd ha0 ih h
      · rw [if_neg hc5] at h
        refine fx_aload_n dX7_addWord_31 rfl rfl ?_
        refine fx_iload_n dX7_addWord_32 rfl rfl ?_
        refine fx_iload_n dX7_addWord_33 rfl rfl ?_
        refine fx_iload dX7_addWord_34 rfl rfl ?_
        refine fx_iload dX7_addWord_36 rfl rfl ?_
        obtain ⟨p6, ep6, h⟩ := xBind_el h
        refine gx_callv (as := [.int a1, .int a2, .int l4, .int l5]) (r := []) rfl dX7_addWord_38 ca_7_100 rfl me_68 rfl rfl rfl rfl (ha0.1) rfl (fX7_isWord_ok (d := d) (by omega) ha0 ep6) rfl rfl ?_
        refine fx_if_eq (t := 60) dX7_addWord_41 rfl rfl (fun hc7 => ?_) (fun hc7 => ?_)
        · rw [if_pos hc7] at h
          obtain ⟨x8, hx8, h⟩ := xLet_el h
          refine fx_iinc (ls2 := [some (.ref a0), some (.int a1), some (.int a2), some (.int x8), some (.int l4), some (.int l5)]) dX7_addWord_60 rfl rfl rfl hx8 rfl ?_
          refine fx_iload dX7_addWord_63 rfl rfl ?_
          refine fx_iconst (x := 1) dX7_addWord_65 rfl (by decide) ?_
          obtain ⟨x9, hx9, h⟩ := xLet_el h
          refine fx_iadd dX7_addWord_66 rfl hx9 ?_
          refine fx_istore (ls2 := [some (.ref a0), some (.int a1), some (.int a2), some (.int x8), some (.int x9), some (.int l5)]) dX7_addWord_67 rfl rfl rfl ?_
          exact fX7_addWord_69_ok hd ha0 ih h
        · rw [if_neg hc7] at h
          refine fx_aload_n dX7_addWord_44 rfl rfl ?_
          refine fx_iload_n dX7_addWord_45 rfl rfl ?_
          refine fx_bipush (x := 26) dX7_addWord_46 rfl (by decide) ?_
          obtain ⟨x10, hx10, h⟩ := xLet_el h
          refine fx_imin dX7_addWord_48 rfl ca_7_81 rfl hx10 ?_
          refine fx_iload_n dX7_addWord_51 rfl rfl ?_
          refine fx_bipush (x := 26) dX7_addWord_52 rfl (by decide) ?_
          obtain ⟨x11, hx11, h⟩ := xLet_el h
          refine fx_isub dX7_addWord_54 rfl hx11 ?_
          refine fx_iload_n dX7_addWord_55 rfl rfl ?_
          obtain ⟨p12, ep12, h⟩ := xBind_el h
          refine gx_callv (as := [.int x10, .int x11, .int a1]) (r := []) rfl dX7_addWord_56 ca_7_63 rfl me_69 rfl rfl rfl rfl (ha0.1) rfl (fX7_addToken_ok (d := d) (by omega) ha0 ep12) rfl rfl ?_
          cases h
          exact fx_return dX7_addWord_59 rfl rfl
def fX7_addWord_0 (a0 : Nat) (a1 : Int32) (a2 : Int32) (m : xMem) : Option xMem := fX7_addWord_9 a0 a1 a2 xFuel (20 : Int32) (0 : Int32) (0 : Int32) m
set_option maxRecDepth 4000 in
theorem fX7_addWord_0_ok {a0 : Nat} {a1 : Int32} {a2 : Int32} {d : Nat} (hd : 6 ≤ d) (ha0 : isReader a0) {o3 : Option Value} {o4 : Option Value} {o5 : Option Value} {m : xMem} {r : xMem} (q3 : xNoD o3 = true) (q4 : xNoD o4 = true) (q5 : xNoD o5 = true) (h : fX7_addWord_0 a0 a1 a2 m = some r) : xFx hh_56 cX7_addWord d 0 [some (.ref a0), some (.int a1), some (.int a2), o3, o4, o5] [] (xLay m) 0 0 none (xLay r) := by
  unfold fX7_addWord_0 at h
  refine fx_bipush (x := 20) dX7_addWord_0 rfl (by decide) ?_
  refine fx_istore_n (ls2 := [some (.ref a0), some (.int a1), some (.int a2), some (.int (20 : Int32)), o4, o5]) dX7_addWord_2 rfl rfl rfl ?_
  refine fx_iconst (x := 0) dX7_addWord_3 rfl (by decide) ?_
  refine fx_istore (ls2 := [some (.ref a0), some (.int a1), some (.int a2), some (.int (20 : Int32)), some (.int (0 : Int32)), o5]) dX7_addWord_4 rfl rfl rfl ?_
  refine fx_iconst (x := 0) dX7_addWord_6 rfl (by decide) ?_
  refine fx_istore (ls2 := [some (.ref a0), some (.int a1), some (.int a2), some (.int (20 : Int32)), some (.int (0 : Int32)), some (.int (0 : Int32))]) dX7_addWord_7 rfl rfl rfl ?_
  exact fX7_addWord_9_ok hd ha0 xFuel (20 : Int32) (0 : Int32) (0 : Int32) m r h
def fX7_addWord (a0 : Nat) (a1 : Int32) (a2 : Int32) (m : xMem) : Option xMem := fX7_addWord_0 a0 a1 a2  m
theorem fX7_addWord_ok {a0 : Nat} {a1 : Int32} {a2 : Int32} {m : xMem} {r : xMem} {d : Nat} (hd : 7 ≤ d) (ha0 : isReader a0) (h : fX7_addWord a0 a1 a2 m = some r) : xEx d 56 [.ref a0, .int a1, .int a2] (xLay m) none (xLay r) := by
  obtain ⟨d, rfl⟩ : ∃ q, d = q + 1 := ⟨d - 1, by omega⟩
  exact xEx_of me_56 rfl (fX7_addWord_0_ok (d := d) (o3 := none) (o4 := none) (o5 := none) (by omega) ha0 rfl rfl rfl h)
def fX7_cutOne_18 (a0 : Nat) (a1 : Int32) (m : xMem) : Option (Int32 × xMem) := xLet (a1 + (1 : Int32)) fun x1 => some (x1, m)
set_option maxRecDepth 4000 in
theorem fX7_cutOne_18_ok {a0 : Nat} {a1 : Int32} {d : Nat} (hd : 7 ≤ d) (ha0 : isReader a0) {o2 : Option Value} {o3 : Option Value} {o4 : Option Value} {m : xMem} {r : (Int32 × xMem)} (q2 : xNoD o2 = true) (q3 : xNoD o3 = true) (q4 : xNoD o4 = true) (h : fX7_cutOne_18 a0 a1 m = some r) : xFx hh_53 cX7_cutOne d 18 [some (.ref a0), some (.int a1), o2, o3, o4] [] (xLay m) 0 0 (some (.int r.1)) (xLay r.2) := by
  unfold fX7_cutOne_18 at h
  refine fx_iload_n dX7_cutOne_18 rfl rfl ?_
  refine fx_iconst (x := 1) dX7_cutOne_19 rfl (by decide) ?_
  obtain ⟨x1, hx1, h⟩ := xLet_el h
  refine fx_iadd dX7_cutOne_20 rfl hx1 ?_
  cases h
  exact fx_ireturn dX7_cutOne_21 rfl rfl
def fX7_cutOne_180 (a0 : Nat) (a1 : Int32) (l3 : Int32) (m : xMem) : Option (Int32 × xMem) := some (l3, m)
set_option maxRecDepth 4000 in
theorem fX7_cutOne_180_ok {a0 : Nat} {a1 : Int32} {d : Nat} (hd : 7 ≤ d) (ha0 : isReader a0) {l3 : Int32} {o2 : Option Value} {o4 : Option Value} {m : xMem} {r : (Int32 × xMem)} (q2 : xNoD o2 = true) (q4 : xNoD o4 = true) (h : fX7_cutOne_180 a0 a1 l3 m = some r) : xFx hh_53 cX7_cutOne d 180 [some (.ref a0), some (.int a1), o2, some (.int l3), o4] [] (xLay m) 0 0 (some (.int r.1)) (xLay r.2) := by
  unfold fX7_cutOne_180 at h
  refine fx_iload_n dX7_cutOne_180 rfl rfl ?_
  cases h
  exact fx_ireturn dX7_cutOne_181 rfl rfl
def fX7_cutOne_58 (a0 : Nat) (a1 : Int32) (l3 : Int32) (m : xMem) : Option (Int32 × xMem) := (fX7_addWord a0 a1 l3 m).bind fun p1 => fX7_cutOne_180 a0 a1 l3 p1
set_option maxRecDepth 4000 in
theorem fX7_cutOne_58_ok {a0 : Nat} {a1 : Int32} {d : Nat} (hd : 7 ≤ d) (ha0 : isReader a0) {l3 : Int32} {o2 : Option Value} {o4 : Option Value} {m : xMem} {r : (Int32 × xMem)} (q2 : xNoD o2 = true) (q4 : xNoD o4 = true) (h : fX7_cutOne_58 a0 a1 l3 m = some r) : xFx hh_53 cX7_cutOne d 58 [some (.ref a0), some (.int a1), o2, some (.int l3), o4] [] (xLay m) 0 0 (some (.int r.1)) (xLay r.2) := by
  unfold fX7_cutOne_58 at h
  refine fx_aload_n dX7_cutOne_58 rfl rfl ?_
  refine fx_iload_n dX7_cutOne_59 rfl rfl ?_
  refine fx_iload_n dX7_cutOne_60 rfl rfl ?_
  obtain ⟨p1, ep1, h⟩ := xBind_el h
  refine gx_callv (as := [.int a1, .int l3]) (r := []) rfl dX7_cutOne_61 ca_7_74 rfl me_56 rfl rfl rfl rfl (ha0.1) rfl (fX7_addWord_ok (d := d) (by omega) ha0 ep1) rfl rfl ?_
  refine fx_goto (t := 180) dX7_cutOne_64 rfl rfl ?_
  exact fX7_cutOne_180_ok (o2 := o2) (o4 := o4) hd ha0 q2 q4 h
def fX7_cutOne_33 (a0 : Nat) (a1 : Int32) : Nat → Int32 → xMem → Option (Int32 × xMem)
  | 0, _, _ => none
  | fuel + 1, l3, m => xLet (m.1 a0 4) fun x1 => if x1 ≤ l3 then fX7_cutOne_58 a0 a1 l3 m else (fX7_byteAt a0 l3 m).bind fun p3 => (fX7_isLetter p3.1 p3.2).bind fun p4 => if p4.1 = (0 : Int32) then fX7_cutOne_58 a0 a1 l3 p4.2 else xLet (l3 + (1 : Int32)) fun x6 => fX7_cutOne_33 a0 a1 fuel x6 p4.2
set_option maxRecDepth 4000 in
theorem fX7_cutOne_33_ok {a0 : Nat} {a1 : Int32} {d : Nat} (hd : 7 ≤ d) (ha0 : isReader a0) : ∀ (fuel : Nat) (l3 : Int32) (o2 : Option Value) (o4 : Option Value) (q2 : xNoD o2 = true) (q4 : xNoD o4 = true) (m : xMem) (r : (Int32 × xMem)), fX7_cutOne_33 a0 a1 fuel l3 m = some r → xFx hh_53 cX7_cutOne d 33 [some (.ref a0), some (.int a1), o2, some (.int l3), o4] [] (xLay m) 0 0 (some (.int r.1)) (xLay r.2) := by
  intro fuel
  induction fuel with
  | zero => intro l3 o2 o4 q2 q4 m r  h; cases h
  | succ fuel ih =>
    intro l3 o2 o4 q2 q4 m r  h
    unfold fX7_cutOne_33 at h
    refine fx_iload_n dX7_cutOne_33 rfl rfl ?_
    refine fx_aload_n dX7_cutOne_34 rfl rfl ?_
    obtain ⟨x1, hx1, h⟩ := xLet_el h
    refine gx_get dX7_cutOne_35 rfl fd_7_31 ha0.1 rfl rfl hx1 ?_
    refine fx_icmp_ge (t := 58) dX7_cutOne_38 rfl rfl (fun hc2 => ?_) (fun hc2 => ?_)
    · rw [if_pos hc2] at h
      exact fX7_cutOne_58_ok (o2 := o2) (o4 := o4) hd ha0 q2 q4 h
    · rw [if_neg hc2] at h
      refine fx_aload_n dX7_cutOne_41 rfl rfl ?_
      refine fx_iload_n dX7_cutOne_42 rfl rfl ?_
      obtain ⟨p3, ep3, h⟩ := xBind_el h
      refine gx_callv (as := [.int l3]) (r := []) rfl dX7_cutOne_43 ca_7_67 rfl me_54 rfl rfl rfl rfl (ha0.1) rfl (fX7_byteAt_ok (d := d) (by omega) ha0 ep3) rfl rfl ?_
      obtain ⟨p4, ep4, h⟩ := xBind_el h
      refine gx_calls (as := [.int p3.1]) (r := []) rfl dX7_cutOne_46 ca_7_70 rfl me_55 rfl rfl rfl rfl (fX7_isLetter_ok (d := d) (by omega) ep4) rfl rfl ?_
      refine fx_if_eq (t := 58) dX7_cutOne_49 rfl rfl (fun hc5 => ?_) (fun hc5 => ?_)
      · rw [if_pos hc5] at h
        exact fX7_cutOne_58_ok (o2 := o2) (o4 := o4) hd ha0 q2 q4 h
      · rw [if_neg hc5] at h
        obtain ⟨x6, hx6, h⟩ := xLet_el h
        refine fx_iinc (ls2 := [some (.ref a0), some (.int a1), o2, some (.int x6), o4]) dX7_cutOne_52 rfl rfl (xGd (j := 2) rfl rfl q2 rfl) hx6 rfl ?_
        refine fx_goto (t := 33) dX7_cutOne_55 rfl rfl ?_
        exact ih x6 (o2) (o4) q2 q4 p4.2 r h
def fX7_cutOne_127 (a0 : Nat) (a1 : Int32) (l3 : Int32) (l4 : Int32) (m : xMem) : Option (Int32 × xMem) := (fX7_addToken a0 (2 : Int32) l4 a1 m).bind fun p1 => fX7_cutOne_180 a0 a1 l3 p1
set_option maxRecDepth 4000 in
theorem fX7_cutOne_127_ok {a0 : Nat} {a1 : Int32} {d : Nat} (hd : 7 ≤ d) (ha0 : isReader a0) {l3 : Int32} {l4 : Int32} {o2 : Option Value} {m : xMem} {r : (Int32 × xMem)} (q2 : xNoD o2 = true) (h : fX7_cutOne_127 a0 a1 l3 l4 m = some r) : xFx hh_53 cX7_cutOne d 127 [some (.ref a0), some (.int a1), o2, some (.int l3), some (.int l4)] [] (xLay m) 0 0 (some (.int r.1)) (xLay r.2) := by
  unfold fX7_cutOne_127 at h
  refine fx_aload_n dX7_cutOne_127 rfl rfl ?_
  refine fx_iconst (x := 2) dX7_cutOne_128 rfl (by decide) ?_
  refine fx_iload dX7_cutOne_129 rfl rfl ?_
  refine fx_iload_n dX7_cutOne_131 rfl rfl ?_
  obtain ⟨p1, ep1, h⟩ := xBind_el h
  refine gx_callv (as := [.int (2 : Int32), .int l4, .int a1]) (r := []) rfl dX7_cutOne_132 ca_7_63 rfl me_69 rfl rfl rfl rfl (ha0.1) rfl (fX7_addToken_ok (d := d) (by omega) ha0 ep1) rfl rfl ?_
  refine fx_goto (t := 180) dX7_cutOne_135 rfl rfl ?_
  exact fX7_cutOne_180_ok (o2 := o2) (o4 := some (.int l4)) hd ha0 q2 rfl h
def fX7_cutOne_80 (a0 : Nat) (a1 : Int32) : Nat → Int32 → Int32 → xMem → Option (Int32 × xMem)
  | 0, _, _, _ => none
  | fuel + 1, l3, l4, m => xLet (m.1 a0 4) fun x1 => if x1 ≤ l3 then fX7_cutOne_127 a0 a1 l3 l4 m else (fX7_byteAt a0 l3 m).bind fun p3 => (fX7_isDigit p3.1 p3.2).bind fun p4 => if p4.1 = (0 : Int32) then fX7_cutOne_127 a0 a1 l3 l4 p4.2 else xLet (l4 * (10 : Int32)) fun x6 => (fX7_byteAt a0 l3 p4.2).bind fun p7 => xLet (x6 + p7.1) fun x8 => xLet (x8 - (48 : Int32)) fun x9 => xLet (xMin (10000 : Int32) x9) fun x10 => xLet (l3 + (1 : Int32)) fun x11 => fX7_cutOne_80 a0 a1 fuel x11 x10 p7.2
set_option maxRecDepth 4000 in
theorem fX7_cutOne_80_ok {a0 : Nat} {a1 : Int32} {d : Nat} (hd : 7 ≤ d) (ha0 : isReader a0) : ∀ (fuel : Nat) (l3 : Int32) (l4 : Int32) (o2 : Option Value) (q2 : xNoD o2 = true) (m : xMem) (r : (Int32 × xMem)), fX7_cutOne_80 a0 a1 fuel l3 l4 m = some r → xFx hh_53 cX7_cutOne d 80 [some (.ref a0), some (.int a1), o2, some (.int l3), some (.int l4)] [] (xLay m) 0 0 (some (.int r.1)) (xLay r.2) := by
  intro fuel
  induction fuel with
  | zero => intro l3 l4 o2 q2 m r  h; cases h
  | succ fuel ih =>
    intro l3 l4 o2 q2 m r  h
    unfold fX7_cutOne_80 at h
    refine fx_iload_n dX7_cutOne_80 rfl rfl ?_
    refine fx_aload_n dX7_cutOne_81 rfl rfl ?_
    obtain ⟨x1, hx1, h⟩ := xLet_el h
    refine gx_get dX7_cutOne_82 rfl fd_7_31 ha0.1 rfl rfl hx1 ?_
    refine fx_icmp_ge (t := 127) dX7_cutOne_85 rfl rfl (fun hc2 => ?_) (fun hc2 => ?_)
    · rw [if_pos hc2] at h
      exact fX7_cutOne_127_ok (o2 := o2) hd ha0 q2 h
    · rw [if_neg hc2] at h
      refine fx_aload_n dX7_cutOne_88 rfl rfl ?_
      refine fx_iload_n dX7_cutOne_89 rfl rfl ?_
      obtain ⟨p3, ep3, h⟩ := xBind_el h
      refine gx_callv (as := [.int l3]) (r := []) rfl dX7_cutOne_90 ca_7_67 rfl me_54 rfl rfl rfl rfl (ha0.1) rfl (fX7_byteAt_ok (d := d) (by omega) ha0 ep3) rfl rfl ?_
      obtain ⟨p4, ep4, h⟩ := xBind_el h
      refine gx_calls (as := [.int p3.1]) (r := []) rfl dX7_cutOne_93 ca_7_78 rfl me_70 rfl rfl rfl rfl (fX7_isDigit_ok (d := d) (by omega) ep4) rfl rfl ?_
      refine fx_if_eq (t := 127) dX7_cutOne_96 rfl rfl (fun hc5 => ?_) (fun hc5 => ?_)
      · rw [if_pos hc5] at h
        exact fX7_cutOne_127_ok (o2 := o2) hd ha0 q2 h
      · rw [if_neg hc5] at h
        refine fx_sipush (x := 10000) dX7_cutOne_99 rfl (by decide) ?_
        refine fx_iload dX7_cutOne_102 rfl rfl ?_
        refine fx_bipush (x := 10) dX7_cutOne_104 rfl (by decide) ?_
        obtain ⟨x6, hx6, h⟩ := xLet_el h
        refine fx_imul dX7_cutOne_106 rfl hx6 ?_
        refine fx_aload_n dX7_cutOne_107 rfl rfl ?_
        refine fx_iload_n dX7_cutOne_108 rfl rfl ?_
        obtain ⟨p7, ep7, h⟩ := xBind_el h
        refine gx_callv (as := [.int l3]) (r := [.int x6, .int (10000 : Int32)]) rfl dX7_cutOne_109 ca_7_67 rfl me_54 rfl rfl rfl rfl (ha0.1) rfl (fX7_byteAt_ok (d := d) (by omega) ha0 ep7) rfl rfl ?_
        obtain ⟨x8, hx8, h⟩ := xLet_el h
        refine fx_iadd dX7_cutOne_112 rfl hx8 ?_
        refine fx_bipush (x := 48) dX7_cutOne_113 rfl (by decide) ?_
        obtain ⟨x9, hx9, h⟩ := xLet_el h
        refine fx_isub dX7_cutOne_115 rfl hx9 ?_
        obtain ⟨x10, hx10, h⟩ := xLet_el h
        refine fx_imin dX7_cutOne_116 rfl ca_7_81 rfl hx10 ?_
        refine fx_istore (ls2 := [some (.ref a0), some (.int a1), o2, some (.int l3), some (.int x10)]) dX7_cutOne_119 rfl rfl rfl ?_
        obtain ⟨x11, hx11, h⟩ := xLet_el h
        refine fx_iinc (ls2 := [some (.ref a0), some (.int a1), o2, some (.int x11), some (.int x10)]) dX7_cutOne_121 rfl rfl (xGd (j := 2) rfl rfl q2 rfl) hx11 rfl ?_
        refine fx_goto (t := 80) dX7_cutOne_124 rfl rfl ?_
        exact ih x11 x10 (o2) q2 p7.2 r h
def fX7_cutOne_172 (a0 : Nat) (a1 : Int32) (l3 : Int32) (l4 : Int32) (m : xMem) : Option (Int32 × xMem) := (fX7_addToken a0 l4 (0 : Int32) a1 m).bind fun p1 => fX7_cutOne_180 a0 a1 l3 p1
set_option maxRecDepth 4000 in
theorem fX7_cutOne_172_ok {a0 : Nat} {a1 : Int32} {d : Nat} (hd : 7 ≤ d) (ha0 : isReader a0) {l3 : Int32} {l4 : Int32} {o2 : Option Value} {m : xMem} {r : (Int32 × xMem)} (q2 : xNoD o2 = true) (h : fX7_cutOne_172 a0 a1 l3 l4 m = some r) : xFx hh_53 cX7_cutOne d 172 [some (.ref a0), some (.int a1), o2, some (.int l3), some (.int l4)] [] (xLay m) 0 0 (some (.int r.1)) (xLay r.2) := by
  unfold fX7_cutOne_172 at h
  refine fx_aload_n dX7_cutOne_172 rfl rfl ?_
  refine fx_iload dX7_cutOne_173 rfl rfl ?_
  refine fx_iconst (x := 0) dX7_cutOne_175 rfl (by decide) ?_
  refine fx_iload_n dX7_cutOne_176 rfl rfl ?_
  obtain ⟨p1, ep1, h⟩ := xBind_el h
  refine gx_callv (as := [.int l4, .int (0 : Int32), .int a1]) (r := []) rfl dX7_cutOne_177 ca_7_63 rfl me_69 rfl rfl rfl rfl (ha0.1) rfl (fX7_addToken_ok (d := d) (by omega) ha0 ep1) rfl rfl ?_
  exact fX7_cutOne_180_ok (o2 := o2) (o4 := some (.int l4)) hd ha0 q2 rfl h
def fX7_cutOne_156 (a0 : Nat) (a1 : Int32) (l3 : Int32) (l4 : Int32) (m : xMem) : Option (Int32 × xMem) := (fX7_byteAt a0 l3 m).bind fun p1 => if ¬ p1.1 = (61 : Int32) then fX7_cutOne_172 a0 a1 l3 l4 p1.2 else xLet (l4 + (1 : Int32)) fun x3 => xLet (l3 + (1 : Int32)) fun x4 => fX7_cutOne_172 a0 a1 x4 x3 p1.2
set_option maxRecDepth 4000 in
theorem fX7_cutOne_156_ok {a0 : Nat} {a1 : Int32} {d : Nat} (hd : 7 ≤ d) (ha0 : isReader a0) {l3 : Int32} {l4 : Int32} {o2 : Option Value} {m : xMem} {r : (Int32 × xMem)} (q2 : xNoD o2 = true) (h : fX7_cutOne_156 a0 a1 l3 l4 m = some r) : xFx hh_53 cX7_cutOne d 156 [some (.ref a0), some (.int a1), o2, some (.int l3), some (.int l4)] [] (xLay m) 0 0 (some (.int r.1)) (xLay r.2) := by
  unfold fX7_cutOne_156 at h
  refine fx_aload_n dX7_cutOne_156 rfl rfl ?_
  refine fx_iload_n dX7_cutOne_157 rfl rfl ?_
  obtain ⟨p1, ep1, h⟩ := xBind_el h
  refine gx_callv (as := [.int l3]) (r := []) rfl dX7_cutOne_158 ca_7_67 rfl me_54 rfl rfl rfl rfl (ha0.1) rfl (fX7_byteAt_ok (d := d) (by omega) ha0 ep1) rfl rfl ?_
  refine fx_bipush (x := 61) dX7_cutOne_161 rfl (by decide) ?_
  refine fx_icmp_ne (t := 172) dX7_cutOne_163 rfl rfl (fun hc2 => ?_) (fun hc2 => ?_)
  · rw [if_pos hc2] at h
    exact fX7_cutOne_172_ok (o2 := o2) hd ha0 q2 h
  · rw [if_neg hc2] at h
    obtain ⟨x3, hx3, h⟩ := xLet_el h
    refine fx_iinc (ls2 := [some (.ref a0), some (.int a1), o2, some (.int l3), some (.int x3)]) dX7_cutOne_166 rfl rfl rfl hx3 rfl ?_
    obtain ⟨x4, hx4, h⟩ := xLet_el h
    refine fx_iinc (ls2 := [some (.ref a0), some (.int a1), o2, some (.int x4), some (.int x3)]) dX7_cutOne_169 rfl rfl (xGd (j := 2) rfl rfl q2 rfl) hx4 rfl ?_
    exact fX7_cutOne_172_ok (o2 := o2) hd ha0 q2 h
def fX7_cutOne_0 (a0 : Nat) (a1 : Int32) (m : xMem) : Option (Int32 × xMem) := (fX7_byteAt a0 a1 m).bind fun p1 => if p1.1 = (32 : Int32) then fX7_cutOne_18 a0 a1 p1.2 else if ¬ p1.1 = (10 : Int32) then xLet (a1 + (1 : Int32)) fun x4 => (fX7_isLetter p1.1 p1.2).bind fun p5 => if p5.1 = (0 : Int32) then (fX7_isDigit p1.1 p5.2).bind fun p7 => if p7.1 = (0 : Int32) then (fX7_signOf p1.1 p7.2).bind fun p9 => if p9.1 = (3 : Int32) then fX7_cutOne_156 a0 a1 x4 p9.1 p9.2 else if ¬ p9.1 = (5 : Int32) then fX7_cutOne_172 a0 a1 x4 p9.1 p9.2 else fX7_cutOne_156 a0 a1 x4 p9.1 p9.2 else xLet (p1.1 - (48 : Int32)) fun x12 => fX7_cutOne_80 a0 a1 xFuel x4 x12 p7.2 else fX7_cutOne_33 a0 a1 xFuel x4 p5.2 else fX7_cutOne_18 a0 a1 p1.2
set_option maxRecDepth 4000 in
theorem fX7_cutOne_0_ok {a0 : Nat} {a1 : Int32} {d : Nat} (hd : 7 ≤ d) (ha0 : isReader a0) {o2 : Option Value} {o3 : Option Value} {o4 : Option Value} {m : xMem} {r : (Int32 × xMem)} (q2 : xNoD o2 = true) (q3 : xNoD o3 = true) (q4 : xNoD o4 = true) (h : fX7_cutOne_0 a0 a1 m = some r) : xFx hh_53 cX7_cutOne d 0 [some (.ref a0), some (.int a1), o2, o3, o4] [] (xLay m) 0 0 (some (.int r.1)) (xLay r.2) := by
  unfold fX7_cutOne_0 at h
  refine fx_aload_n dX7_cutOne_0 rfl rfl ?_
  refine fx_iload_n dX7_cutOne_1 rfl rfl ?_
  obtain ⟨p1, ep1, h⟩ := xBind_el h
  refine gx_callv (as := [.int a1]) (r := []) rfl dX7_cutOne_2 ca_7_67 rfl me_54 rfl rfl rfl rfl (ha0.1) rfl (fX7_byteAt_ok (d := d) (by omega) ha0 ep1) rfl rfl ?_
  refine fx_istore_n (ls2 := [some (.ref a0), some (.int a1), some (.int p1.1), o3, o4]) dX7_cutOne_5 rfl rfl rfl ?_
  refine fx_iload_n dX7_cutOne_6 rfl rfl ?_
  refine fx_bipush (x := 32) dX7_cutOne_7 rfl (by decide) ?_
  refine fx_icmp_eq (t := 18) dX7_cutOne_9 rfl rfl (fun hc2 => ?_) (fun hc2 => ?_)
  · rw [if_pos hc2] at h
    exact fX7_cutOne_18_ok (o2 := some (.int p1.1)) (o3 := o3) (o4 := o4) hd ha0 rfl q3 q4 h
  · rw [if_neg hc2] at h
    refine fx_iload_n dX7_cutOne_12 rfl rfl ?_
    refine fx_bipush (x := 10) dX7_cutOne_13 rfl (by decide) ?_
    refine fx_icmp_ne (t := 22) dX7_cutOne_15 rfl rfl (fun hc3 => ?_) (fun hc3 => ?_)
    · rw [if_pos hc3] at h
      refine fx_iload_n dX7_cutOne_22 rfl rfl ?_
      refine fx_iconst (x := 1) dX7_cutOne_23 rfl (by decide) ?_
      obtain ⟨x4, hx4, h⟩ := xLet_el h
      refine fx_iadd dX7_cutOne_24 rfl hx4 ?_
      refine fx_istore_n (ls2 := [some (.ref a0), some (.int a1), some (.int p1.1), some (.int x4), o4]) dX7_cutOne_25 rfl rfl rfl ?_
      refine fx_iload_n dX7_cutOne_26 rfl rfl ?_
      obtain ⟨p5, ep5, h⟩ := xBind_el h
      refine gx_calls (as := [.int p1.1]) (r := []) rfl dX7_cutOne_27 ca_7_70 rfl me_55 rfl rfl rfl rfl (fX7_isLetter_ok (d := d) (by omega) ep5) rfl rfl ?_
      refine fx_if_eq (t := 67) dX7_cutOne_30 rfl rfl (fun hc6 => ?_) (fun hc6 => ?_)
      · rw [if_pos hc6] at h
        refine fx_iload_n dX7_cutOne_67 rfl rfl ?_
        obtain ⟨p7, ep7, h⟩ := xBind_el h
        refine gx_calls (as := [.int p1.1]) (r := []) rfl dX7_cutOne_68 ca_7_78 rfl me_70 rfl rfl rfl rfl (fX7_isDigit_ok (d := d) (by omega) ep7) rfl rfl ?_
        refine fx_if_eq (t := 138) dX7_cutOne_71 rfl rfl (fun hc8 => ?_) (fun hc8 => ?_)
        · rw [if_pos hc8] at h
          refine fx_iload_n dX7_cutOne_138 rfl rfl ?_
          obtain ⟨p9, ep9, h⟩ := xBind_el h
          refine gx_calls (as := [.int p1.1]) (r := []) rfl dX7_cutOne_139 ca_7_87 rfl me_71 rfl rfl rfl rfl (fX7_signOf_ok (d := d) (by omega) ep9) rfl rfl ?_
          refine fx_istore (ls2 := [some (.ref a0), some (.int a1), some (.int p1.1), some (.int x4), some (.int p9.1)]) dX7_cutOne_142 rfl rfl rfl ?_
          refine fx_iload dX7_cutOne_144 rfl rfl ?_
          refine fx_iconst (x := 3) dX7_cutOne_146 rfl (by decide) ?_
          refine fx_icmp_eq (t := 156) dX7_cutOne_147 rfl rfl (fun hc10 => ?_) (fun hc10 => ?_)
          · rw [if_pos hc10] at h
            exact fX7_cutOne_156_ok (o2 := some (.int p1.1)) hd ha0 rfl h
          · rw [if_neg hc10] at h
            refine fx_iload dX7_cutOne_150 rfl rfl ?_
            refine fx_iconst (x := 5) dX7_cutOne_152 rfl (by decide) ?_
            refine fx_icmp_ne (t := 172) dX7_cutOne_153 rfl rfl (fun hc11 => ?_) (fun hc11 => ?_)
            · rw [if_pos hc11] at h
              exact fX7_cutOne_172_ok (o2 := some (.int p1.1)) hd ha0 rfl h
            · rw [if_neg hc11] at h
              exact fX7_cutOne_156_ok (o2 := some (.int p1.1)) hd ha0 rfl h
        · rw [if_neg hc8] at h
          refine fx_iload_n dX7_cutOne_74 rfl rfl ?_
          refine fx_bipush (x := 48) dX7_cutOne_75 rfl (by decide) ?_
          obtain ⟨x12, hx12, h⟩ := xLet_el h
          refine fx_isub dX7_cutOne_77 rfl hx12 ?_
          refine fx_istore (ls2 := [some (.ref a0), some (.int a1), some (.int p1.1), some (.int x4), some (.int x12)]) dX7_cutOne_78 rfl rfl rfl ?_
          exact fX7_cutOne_80_ok hd ha0 xFuel x4 x12 (some (.int p1.1)) rfl p7.2 r h
      · rw [if_neg hc6] at h
        exact fX7_cutOne_33_ok hd ha0 xFuel x4 (some (.int p1.1)) (o4) rfl q4 p5.2 r h
    · rw [if_neg hc3] at h
      exact fX7_cutOne_18_ok (o2 := some (.int p1.1)) (o3 := o3) (o4 := o4) hd ha0 rfl q3 q4 h
def fX7_cutOne (a0 : Nat) (a1 : Int32) (m : xMem) : Option (Int32 × xMem) := fX7_cutOne_0 a0 a1  m
theorem fX7_cutOne_ok {a0 : Nat} {a1 : Int32} {m : xMem} {r : (Int32 × xMem)} {d : Nat} (hd : 8 ≤ d) (ha0 : isReader a0) (h : fX7_cutOne a0 a1 m = some r) : xEx d 53 [.ref a0, .int a1] (xLay m) (some (.int r.1)) (xLay r.2) := by
  obtain ⟨d, rfl⟩ : ∃ q, d = q + 1 := ⟨d - 1, by omega⟩
  exact xEx_of me_53 rfl (fX7_cutOne_0_ok (d := d) (o2 := none) (o3 := none) (o4 := none) (by omega) ha0 rfl rfl rfl h)
