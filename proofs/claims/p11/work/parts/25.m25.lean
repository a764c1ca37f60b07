theorem bdX6_walkOf_0 : (decode cX6_walkOf 0 = .ok (.aload_n 3, 1)) ∧ (decode cX6_walkOf 1 = .ok (.getfield 157, 3)) ∧ (decode cX6_walkOf 4 = .ok (.ifCond .ne 21, 3)) ∧ (decode cX6_walkOf 7 = .ok (.aload_n 3, 1)) ∧ (decode cX6_walkOf 8 = .ok (.getfield 214, 3)) ∧ (decode cX6_walkOf 11 = .ok (.ifCond .ne 14, 3)) ∧ (decode cX6_walkOf 14 = .ok (.aload_n 1, 1)) ∧ (decode cX6_walkOf 15 = .ok (.aload_n 3, 1)) ∧ (decode cX6_walkOf 16 = .ok (.invokevirtual 217, 3)) ∧ (decode cX6_walkOf 19 = .ok (.invokevirtual 69, 3)) ∧ (decode cX6_walkOf 22 = .ok (.ifCond .ne 5, 3)) ∧ (decode cX6_walkOf 25 = .ok (.iconst 0, 1)) ∧ (decode cX6_walkOf 26 = .ok (.ireturn, 1)) ∧ (decode cX6_walkOf 27 = .ok (.aload_n 0, 1)) ∧ (decode cX6_walkOf 28 = .ok (.getfield 20, 3)) ∧ (decode cX6_walkOf 31 = .ok (.iconst 0, 1)) := by decide +kernel
theorem dX6_walkOf_0 : decode cX6_walkOf 0 = .ok (.aload_n 3, 1) := bdX6_walkOf_0.1
theorem dX6_walkOf_1 : decode cX6_walkOf 1 = .ok (.getfield 157, 3) := bdX6_walkOf_0.2.1
theorem dX6_walkOf_4 : decode cX6_walkOf 4 = .ok (.ifCond .ne 21, 3) := bdX6_walkOf_0.2.2.1
theorem dX6_walkOf_7 : decode cX6_walkOf 7 = .ok (.aload_n 3, 1) := bdX6_walkOf_0.2.2.2.1
theorem dX6_walkOf_8 : decode cX6_walkOf 8 = .ok (.getfield 214, 3) := bdX6_walkOf_0.2.2.2.2.1
theorem dX6_walkOf_11 : decode cX6_walkOf 11 = .ok (.ifCond .ne 14, 3) := bdX6_walkOf_0.2.2.2.2.2.1
theorem dX6_walkOf_14 : decode cX6_walkOf 14 = .ok (.aload_n 1, 1) := bdX6_walkOf_0.2.2.2.2.2.2.1
theorem dX6_walkOf_15 : decode cX6_walkOf 15 = .ok (.aload_n 3, 1) := bdX6_walkOf_0.2.2.2.2.2.2.2.1
theorem dX6_walkOf_16 : decode cX6_walkOf 16 = .ok (.invokevirtual 217, 3) := bdX6_walkOf_0.2.2.2.2.2.2.2.2.1
theorem dX6_walkOf_19 : decode cX6_walkOf 19 = .ok (.invokevirtual 69, 3) := bdX6_walkOf_0.2.2.2.2.2.2.2.2.2.1
theorem dX6_walkOf_22 : decode cX6_walkOf 22 = .ok (.ifCond .ne 5, 3) := bdX6_walkOf_0.2.2.2.2.2.2.2.2.2.2.1
theorem dX6_walkOf_25 : decode cX6_walkOf 25 = .ok (.iconst 0, 1) := bdX6_walkOf_0.2.2.2.2.2.2.2.2.2.2.2.1
theorem dX6_walkOf_26 : decode cX6_walkOf 26 = .ok (.ireturn, 1) := bdX6_walkOf_0.2.2.2.2.2.2.2.2.2.2.2.2.1
theorem dX6_walkOf_27 : decode cX6_walkOf 27 = .ok (.aload_n 0, 1) := bdX6_walkOf_0.2.2.2.2.2.2.2.2.2.2.2.2.2.1
theorem dX6_walkOf_28 : decode cX6_walkOf 28 = .ok (.getfield 20, 3) := bdX6_walkOf_0.2.2.2.2.2.2.2.2.2.2.2.2.2.2.1
theorem dX6_walkOf_31 : decode cX6_walkOf 31 = .ok (.iconst 0, 1) := bdX6_walkOf_0.2.2.2.2.2.2.2.2.2.2.2.2.2.2.2
theorem bdX6_walkOf_32 : (decode cX6_walkOf 32 = .ok (.aload_n 1, 1)) ∧ (decode cX6_walkOf 33 = .ok (.getfield 47, 3)) ∧ (decode cX6_walkOf 36 = .ok (.iastore, 1)) ∧ (decode cX6_walkOf 37 = .ok (.aload_n 0, 1)) ∧ (decode cX6_walkOf 38 = .ok (.getfield 20, 3)) ∧ (decode cX6_walkOf 41 = .ok (.iconst 5, 1)) ∧ (decode cX6_walkOf 42 = .ok (.aload_n 3, 1)) ∧ (decode cX6_walkOf 43 = .ok (.getfield 189, 3)) ∧ (decode cX6_walkOf 46 = .ok (.iastore, 1)) ∧ (decode cX6_walkOf 47 = .ok (.aload_n 0, 1)) ∧ (decode cX6_walkOf 48 = .ok (.getfield 20, 3)) ∧ (decode cX6_walkOf 51 = .ok (.bipush 6, 2)) ∧ (decode cX6_walkOf 53 = .ok (.aload_n 3, 1)) ∧ (decode cX6_walkOf 54 = .ok (.getfield 148, 3)) ∧ (decode cX6_walkOf 57 = .ok (.iastore, 1)) ∧ (decode cX6_walkOf 58 = .ok (.aload_n 0, 1)) := by decide +kernel
theorem dX6_walkOf_32 : decode cX6_walkOf 32 = .ok (.aload_n 1, 1) := bdX6_walkOf_32.1
theorem dX6_walkOf_33 : decode cX6_walkOf 33 = .ok (.getfield 47, 3) := bdX6_walkOf_32.2.1
theorem dX6_walkOf_36 : decode cX6_walkOf 36 = .ok (.iastore, 1) := bdX6_walkOf_32.2.2.1
theorem dX6_walkOf_37 : decode cX6_walkOf 37 = .ok (.aload_n 0, 1) := bdX6_walkOf_32.2.2.2.1
theorem dX6_walkOf_38 : decode cX6_walkOf 38 = .ok (.getfield 20, 3) := bdX6_walkOf_32.2.2.2.2.1
theorem dX6_walkOf_41 : decode cX6_walkOf 41 = .ok (.iconst 5, 1) := bdX6_walkOf_32.2.2.2.2.2.1
theorem dX6_walkOf_42 : decode cX6_walkOf 42 = .ok (.aload_n 3, 1) := bdX6_walkOf_32.2.2.2.2.2.2.1
theorem dX6_walkOf_43 : decode cX6_walkOf 43 = .ok (.getfield 189, 3) := bdX6_walkOf_32.2.2.2.2.2.2.2.1
theorem dX6_walkOf_46 : decode cX6_walkOf 46 = .ok (.iastore, 1) := bdX6_walkOf_32.2.2.2.2.2.2.2.2.1
theorem dX6_walkOf_47 : decode cX6_walkOf 47 = .ok (.aload_n 0, 1) := bdX6_walkOf_32.2.2.2.2.2.2.2.2.2.1
theorem dX6_walkOf_48 : decode cX6_walkOf 48 = .ok (.getfield 20, 3) := bdX6_walkOf_32.2.2.2.2.2.2.2.2.2.2.1
theorem dX6_walkOf_51 : decode cX6_walkOf 51 = .ok (.bipush 6, 2) := bdX6_walkOf_32.2.2.2.2.2.2.2.2.2.2.2.1
theorem dX6_walkOf_53 : decode cX6_walkOf 53 = .ok (.aload_n 3, 1) := bdX6_walkOf_32.2.2.2.2.2.2.2.2.2.2.2.2.1
theorem dX6_walkOf_54 : decode cX6_walkOf 54 = .ok (.getfield 148, 3) := bdX6_walkOf_32.2.2.2.2.2.2.2.2.2.2.2.2.2.1
theorem dX6_walkOf_57 : decode cX6_walkOf 57 = .ok (.iastore, 1) := bdX6_walkOf_32.2.2.2.2.2.2.2.2.2.2.2.2.2.2.1
theorem dX6_walkOf_58 : decode cX6_walkOf 58 = .ok (.aload_n 0, 1) := bdX6_walkOf_32.2.2.2.2.2.2.2.2.2.2.2.2.2.2.2
theorem bdX6_walkOf_59 : (decode cX6_walkOf 59 = .ok (.getfield 20, 3)) ∧ (decode cX6_walkOf 62 = .ok (.bipush 7, 2)) ∧ (decode cX6_walkOf 64 = .ok (.aload_n 1, 1)) ∧ (decode cX6_walkOf 65 = .ok (.getfield 96, 3)) ∧ (decode cX6_walkOf 68 = .ok (.aload_n 3, 1)) ∧ (decode cX6_walkOf 69 = .ok (.invokevirtual 217, 3)) ∧ (decode cX6_walkOf 72 = .ok (.aaload, 1)) ∧ (decode cX6_walkOf 73 = .ok (.getfield 106, 3)) ∧ (decode cX6_walkOf 76 = .ok (.iastore, 1)) ∧ (decode cX6_walkOf 77 = .ok (.aload_n 2, 1)) ∧ (decode cX6_walkOf 78 = .ok (.aload_n 0, 1)) ∧ (decode cX6_walkOf 79 = .ok (.getfield 20, 3)) ∧ (decode cX6_walkOf 82 = .ok (.invokevirtual 221, 3)) ∧ (decode cX6_walkOf 85 = .ok (.ireturn, 1)) := by decide +kernel
theorem dX6_walkOf_59 : decode cX6_walkOf 59 = .ok (.getfield 20, 3) := bdX6_walkOf_59.1
theorem dX6_walkOf_62 : decode cX6_walkOf 62 = .ok (.bipush 7, 2) := bdX6_walkOf_59.2.1
theorem dX6_walkOf_64 : decode cX6_walkOf 64 = .ok (.aload_n 1, 1) := bdX6_walkOf_59.2.2.1
theorem dX6_walkOf_65 : decode cX6_walkOf 65 = .ok (.getfield 96, 3) := bdX6_walkOf_59.2.2.2.1
theorem dX6_walkOf_68 : decode cX6_walkOf 68 = .ok (.aload_n 3, 1) := bdX6_walkOf_59.2.2.2.2.1
theorem dX6_walkOf_69 : decode cX6_walkOf 69 = .ok (.invokevirtual 217, 3) := bdX6_walkOf_59.2.2.2.2.2.1
theorem dX6_walkOf_72 : decode cX6_walkOf 72 = .ok (.aaload, 1) := bdX6_walkOf_59.2.2.2.2.2.2.1
theorem dX6_walkOf_73 : decode cX6_walkOf 73 = .ok (.getfield 106, 3) := bdX6_walkOf_59.2.2.2.2.2.2.2.1
theorem dX6_walkOf_76 : decode cX6_walkOf 76 = .ok (.iastore, 1) := bdX6_walkOf_59.2.2.2.2.2.2.2.2.1
theorem dX6_walkOf_77 : decode cX6_walkOf 77 = .ok (.aload_n 2, 1) := bdX6_walkOf_59.2.2.2.2.2.2.2.2.2.1
theorem dX6_walkOf_78 : decode cX6_walkOf 78 = .ok (.aload_n 0, 1) := bdX6_walkOf_59.2.2.2.2.2.2.2.2.2.2.1
theorem dX6_walkOf_79 : decode cX6_walkOf 79 = .ok (.getfield 20, 3) := bdX6_walkOf_59.2.2.2.2.2.2.2.2.2.2.2.1
theorem dX6_walkOf_82 : decode cX6_walkOf 82 = .ok (.invokevirtual 221, 3) := bdX6_walkOf_59.2.2.2.2.2.2.2.2.2.2.2.2.1
theorem dX6_walkOf_85 : decode cX6_walkOf 85 = .ok (.ireturn, 1) := bdX6_walkOf_59.2.2.2.2.2.2.2.2.2.2.2.2.2
theorem bdX3_who_0 : (decode cX3_who 0 = .ok (.iload_n 1, 1)) ∧ (decode cX3_who 1 = .ok (.bipush 40, 2)) ∧ (decode cX3_who 3 = .ok (.imul, 1)) ∧ (decode cX3_who 4 = .ok (.iload_n 2, 1)) ∧ (decode cX3_who 5 = .ok (.iadd, 1)) ∧ (decode cX3_who 6 = .ok (.istore_n 3, 1)) ∧ (decode cX3_who 7 = .ok (.iload_n 3, 1)) ∧ (decode cX3_who 8 = .ok (.ifCond .lt 21, 3)) ∧ (decode cX3_who 11 = .ok (.iload_n 3, 1)) ∧ (decode cX3_who 12 = .ok (.aload_n 0, 1)) ∧ (decode cX3_who 13 = .ok (.getfield 9, 3)) ∧ (decode cX3_who 16 = .ok (.arraylength, 1)) ∧ (decode cX3_who 17 = .ok (.if_icmp .ge 12, 3)) ∧ (decode cX3_who 20 = .ok (.aload_n 0, 1)) ∧ (decode cX3_who 21 = .ok (.getfield 9, 3)) ∧ (decode cX3_who 24 = .ok (.iload_n 3, 1)) := by decide +kernel
theorem dX3_who_0 : decode cX3_who 0 = .ok (.iload_n 1, 1) := bdX3_who_0.1
theorem dX3_who_1 : decode cX3_who 1 = .ok (.bipush 40, 2) := bdX3_who_0.2.1
theorem dX3_who_3 : decode cX3_who 3 = .ok (.imul, 1) := bdX3_who_0.2.2.1
theorem dX3_who_4 : decode cX3_who 4 = .ok (.iload_n 2, 1) := bdX3_who_0.2.2.2.1
theorem dX3_who_5 : decode cX3_who 5 = .ok (.iadd, 1) := bdX3_who_0.2.2.2.2.1
theorem dX3_who_6 : decode cX3_who 6 = .ok (.istore_n 3, 1) := bdX3_who_0.2.2.2.2.2.1
theorem dX3_who_7 : decode cX3_who 7 = .ok (.iload_n 3, 1) := bdX3_who_0.2.2.2.2.2.2.1
theorem dX3_who_8 : decode cX3_who 8 = .ok (.ifCond .lt 21, 3) := bdX3_who_0.2.2.2.2.2.2.2.1
theorem dX3_who_11 : decode cX3_who 11 = .ok (.iload_n 3, 1) := bdX3_who_0.2.2.2.2.2.2.2.2.1
theorem dX3_who_12 : decode cX3_who 12 = .ok (.aload_n 0, 1) := bdX3_who_0.2.2.2.2.2.2.2.2.2.1
theorem dX3_who_13 : decode cX3_who 13 = .ok (.getfield 9, 3) := bdX3_who_0.2.2.2.2.2.2.2.2.2.2.1
theorem dX3_who_16 : decode cX3_who 16 = .ok (.arraylength, 1) := bdX3_who_0.2.2.2.2.2.2.2.2.2.2.2.1
theorem dX3_who_17 : decode cX3_who 17 = .ok (.if_icmp .ge 12, 3) := bdX3_who_0.2.2.2.2.2.2.2.2.2.2.2.2.1
theorem dX3_who_20 : decode cX3_who 20 = .ok (.aload_n 0, 1) := bdX3_who_0.2.2.2.2.2.2.2.2.2.2.2.2.2.1
theorem dX3_who_21 : decode cX3_who 21 = .ok (.getfield 9, 3) := bdX3_who_0.2.2.2.2.2.2.2.2.2.2.2.2.2.2.1
theorem dX3_who_24 : decode cX3_who 24 = .ok (.iload_n 3, 1) := bdX3_who_0.2.2.2.2.2.2.2.2.2.2.2.2.2.2.2
theorem bdX3_who_25 : (decode cX3_who 25 = .ok (.iaload, 1)) ∧ (decode cX3_who 26 = .ok (.goto 4, 3)) ∧ (decode cX3_who 29 = .ok (.iconst (-1), 1)) ∧ (decode cX3_who 30 = .ok (.ireturn, 1)) := by decide +kernel
theorem dX3_who_25 : decode cX3_who 25 = .ok (.iaload, 1) := bdX3_who_25.1
theorem dX3_who_26 : decode cX3_who 26 = .ok (.goto 4, 3) := bdX3_who_25.2.1
theorem dX3_who_29 : decode cX3_who 29 = .ok (.iconst (-1), 1) := bdX3_who_25.2.2.1
theorem dX3_who_30 : decode cX3_who 30 = .ok (.ireturn, 1) := bdX3_who_25.2.2.2
theorem bdX3_put_0 : (decode cX3_put 0 = .ok (.iload_n 1, 1)) ∧ (decode cX3_put 1 = .ok (.bipush 40, 2)) ∧ (decode cX3_put 3 = .ok (.imul, 1)) ∧ (decode cX3_put 4 = .ok (.iload_n 2, 1)) ∧ (decode cX3_put 5 = .ok (.iadd, 1)) ∧ (decode cX3_put 6 = .ok (.istore 4, 2)) ∧ (decode cX3_put 8 = .ok (.iload 4, 2)) ∧ (decode cX3_put 10 = .ok (.ifCond .lt 21, 3)) ∧ (decode cX3_put 13 = .ok (.iload 4, 2)) ∧ (decode cX3_put 15 = .ok (.aload_n 0, 1)) ∧ (decode cX3_put 16 = .ok (.getfield 9, 3)) ∧ (decode cX3_put 19 = .ok (.arraylength, 1)) ∧ (decode cX3_put 20 = .ok (.if_icmp .ge 11, 3)) ∧ (decode cX3_put 23 = .ok (.aload_n 0, 1)) ∧ (decode cX3_put 24 = .ok (.getfield 9, 3)) ∧ (decode cX3_put 27 = .ok (.iload 4, 2)) := by decide +kernel
theorem dX3_put_0 : decode cX3_put 0 = .ok (.iload_n 1, 1) := bdX3_put_0.1
theorem dX3_put_1 : decode cX3_put 1 = .ok (.bipush 40, 2) := bdX3_put_0.2.1
theorem dX3_put_3 : decode cX3_put 3 = .ok (.imul, 1) := bdX3_put_0.2.2.1
theorem dX3_put_4 : decode cX3_put 4 = .ok (.iload_n 2, 1) := bdX3_put_0.2.2.2.1
theorem dX3_put_5 : decode cX3_put 5 = .ok (.iadd, 1) := bdX3_put_0.2.2.2.2.1
theorem dX3_put_6 : decode cX3_put 6 = .ok (.istore 4, 2) := bdX3_put_0.2.2.2.2.2.1
theorem dX3_put_8 : decode cX3_put 8 = .ok (.iload 4, 2) := bdX3_put_0.2.2.2.2.2.2.1
theorem dX3_put_10 : decode cX3_put 10 = .ok (.ifCond .lt 21, 3) := bdX3_put_0.2.2.2.2.2.2.2.1
theorem dX3_put_13 : decode cX3_put 13 = .ok (.iload 4, 2) := bdX3_put_0.2.2.2.2.2.2.2.2.1
theorem dX3_put_15 : decode cX3_put 15 = .ok (.aload_n 0, 1) := bdX3_put_0.2.2.2.2.2.2.2.2.2.1
theorem dX3_put_16 : decode cX3_put 16 = .ok (.getfield 9, 3) := bdX3_put_0.2.2.2.2.2.2.2.2.2.2.1
theorem dX3_put_19 : decode cX3_put 19 = .ok (.arraylength, 1) := bdX3_put_0.2.2.2.2.2.2.2.2.2.2.2.1
theorem dX3_put_20 : decode cX3_put 20 = .ok (.if_icmp .ge 11, 3) := bdX3_put_0.2.2.2.2.2.2.2.2.2.2.2.2.1
theorem dX3_put_23 : decode cX3_put 23 = .ok (.aload_n 0, 1) := bdX3_put_0.2.2.2.2.2.2.2.2.2.2.2.2.2.1
theorem dX3_put_24 : decode cX3_put 24 = .ok (.getfield 9, 3) := bdX3_put_0.2.2.2.2.2.2.2.2.2.2.2.2.2.2.1
theorem dX3_put_27 : decode cX3_put 27 = .ok (.iload 4, 2) := bdX3_put_0.2.2.2.2.2.2.2.2.2.2.2.2.2.2.2
theorem bdX3_put_29 : (decode cX3_put 29 = .ok (.iload_n 3, 1)) ∧ (decode cX3_put 30 = .ok (.iastore, 1)) ∧ (decode cX3_put 31 = .ok (.return_, 1)) := by decide +kernel
theorem dX3_put_29 : decode cX3_put 29 = .ok (.iload_n 3, 1) := bdX3_put_29.1
theorem dX3_put_30 : decode cX3_put 30 = .ok (.iastore, 1) := bdX3_put_29.2.1
theorem dX3_put_31 : decode cX3_put 31 = .ok (.return_, 1) := bdX3_put_29.2.2
theorem bdX3_head_0 : (decode cX3_head 0 = .ok (.aload_n 0, 1)) ∧ (decode cX3_head 1 = .ok (.getfield 31, 3)) ∧ (decode cX3_head 4 = .ok (.iconst 2, 1)) ∧ (decode cX3_head 5 = .ok (.if_icmp .ne 10, 3)) ∧ (decode cX3_head 8 = .ok (.aload_n 0, 1)) ∧ (decode cX3_head 9 = .ok (.getfield 19, 3)) ∧ (decode cX3_head 12 = .ok (.goto 7, 3)) ∧ (decode cX3_head 15 = .ok (.aload_n 0, 1)) ∧ (decode cX3_head 16 = .ok (.getfield 22, 3)) ∧ (decode cX3_head 19 = .ok (.ireturn, 1)) := by decide +kernel
theorem dX3_head_0 : decode cX3_head 0 = .ok (.aload_n 0, 1) := bdX3_head_0.1
theorem dX3_head_1 : decode cX3_head 1 = .ok (.getfield 31, 3) := bdX3_head_0.2.1
theorem dX3_head_4 : decode cX3_head 4 = .ok (.iconst 2, 1) := bdX3_head_0.2.2.1
theorem dX3_head_5 : decode cX3_head 5 = .ok (.if_icmp .ne 10, 3) := bdX3_head_0.2.2.2.1
theorem dX3_head_8 : decode cX3_head 8 = .ok (.aload_n 0, 1) := bdX3_head_0.2.2.2.2.1
theorem dX3_head_9 : decode cX3_head 9 = .ok (.getfield 19, 3) := bdX3_head_0.2.2.2.2.2.1
theorem dX3_head_12 : decode cX3_head 12 = .ok (.goto 7, 3) := bdX3_head_0.2.2.2.2.2.2.1
theorem dX3_head_15 : decode cX3_head 15 = .ok (.aload_n 0, 1) := bdX3_head_0.2.2.2.2.2.2.2.1
theorem dX3_head_16 : decode cX3_head 16 = .ok (.getfield 22, 3) := bdX3_head_0.2.2.2.2.2.2.2.2.1
theorem dX3_head_19 : decode cX3_head 19 = .ok (.ireturn, 1) := bdX3_head_0.2.2.2.2.2.2.2.2.2
theorem bdX6_stepOff_0 : (decode cX6_stepOff 0 = .ok (.aload_n 2, 1)) ∧ (decode cX6_stepOff 1 = .ok (.getfield 189, 3)) ∧ (decode cX6_stepOff 4 = .ok (.iconst 1, 1)) ∧ (decode cX6_stepOff 5 = .ok (.isub, 1)) ∧ (decode cX6_stepOff 6 = .ok (.istore 4, 2)) ∧ (decode cX6_stepOff 8 = .ok (.aload_n 2, 1)) ∧ (decode cX6_stepOff 9 = .ok (.iload_n 3, 1)) ∧ (decode cX6_stepOff 10 = .ok (.iload 4, 2)) ∧ (decode cX6_stepOff 12 = .ok (.invokevirtual 241, 3)) ∧ (decode cX6_stepOff 15 = .ok (.istore 5, 2)) ∧ (decode cX6_stepOff 17 = .ok (.iload 5, 2)) ∧ (decode cX6_stepOff 19 = .ok (.iconst (-1), 1)) ∧ (decode cX6_stepOff 20 = .ok (.if_icmp .ne 5, 3)) ∧ (decode cX6_stepOff 23 = .ok (.iconst 1, 1)) ∧ (decode cX6_stepOff 24 = .ok (.ireturn, 1)) ∧ (decode cX6_stepOff 25 = .ok (.iload 5, 2)) := by decide +kernel
theorem dX6_stepOff_0 : decode cX6_stepOff 0 = .ok (.aload_n 2, 1) := bdX6_stepOff_0.1
theorem dX6_stepOff_1 : decode cX6_stepOff 1 = .ok (.getfield 189, 3) := bdX6_stepOff_0.2.1
theorem dX6_stepOff_4 : decode cX6_stepOff 4 = .ok (.iconst 1, 1) := bdX6_stepOff_0.2.2.1
theorem dX6_stepOff_5 : decode cX6_stepOff 5 = .ok (.isub, 1) := bdX6_stepOff_0.2.2.2.1
theorem dX6_stepOff_6 : decode cX6_stepOff 6 = .ok (.istore 4, 2) := bdX6_stepOff_0.2.2.2.2.1
theorem dX6_stepOff_8 : decode cX6_stepOff 8 = .ok (.aload_n 2, 1) := bdX6_stepOff_0.2.2.2.2.2.1
theorem dX6_stepOff_9 : decode cX6_stepOff 9 = .ok (.iload_n 3, 1) := bdX6_stepOff_0.2.2.2.2.2.2.1
theorem dX6_stepOff_10 : decode cX6_stepOff 10 = .ok (.iload 4, 2) := bdX6_stepOff_0.2.2.2.2.2.2.2.1
theorem dX6_stepOff_12 : decode cX6_stepOff 12 = .ok (.invokevirtual 241, 3) := bdX6_stepOff_0.2.2.2.2.2.2.2.2.1
theorem dX6_stepOff_15 : decode cX6_stepOff 15 = .ok (.istore 5, 2) := bdX6_stepOff_0.2.2.2.2.2.2.2.2.2.1
theorem dX6_stepOff_17 : decode cX6_stepOff 17 = .ok (.iload 5, 2) := bdX6_stepOff_0.2.2.2.2.2.2.2.2.2.2.1
theorem dX6_stepOff_19 : decode cX6_stepOff 19 = .ok (.iconst (-1), 1) := bdX6_stepOff_0.2.2.2.2.2.2.2.2.2.2.2.1
theorem dX6_stepOff_20 : decode cX6_stepOff 20 = .ok (.if_icmp .ne 5, 3) := bdX6_stepOff_0.2.2.2.2.2.2.2.2.2.2.2.2.1
theorem dX6_stepOff_23 : decode cX6_stepOff 23 = .ok (.iconst 1, 1) := bdX6_stepOff_0.2.2.2.2.2.2.2.2.2.2.2.2.2.1
theorem dX6_stepOff_24 : decode cX6_stepOff 24 = .ok (.ireturn, 1) := bdX6_stepOff_0.2.2.2.2.2.2.2.2.2.2.2.2.2.2.1
theorem dX6_stepOff_25 : decode cX6_stepOff 25 = .ok (.iload 5, 2) := bdX6_stepOff_0.2.2.2.2.2.2.2.2.2.2.2.2.2.2.2
theorem bdX6_stepOff_27 : (decode cX6_stepOff 27 = .ok (.bipush 10, 2)) ∧ (decode cX6_stepOff 29 = .ok (.irem, 1)) ∧ (decode cX6_stepOff 30 = .ok (.istore 6, 2)) ∧ (decode cX6_stepOff 32 = .ok (.aload_n 1, 1)) ∧ (decode cX6_stepOff 33 = .ok (.aload_n 2, 1)) ∧ (decode cX6_stepOff 34 = .ok (.invokevirtual 244, 3)) ∧ (decode cX6_stepOff 37 = .ok (.iload 6, 2)) ∧ (decode cX6_stepOff 39 = .ok (.invokevirtual 194, 3)) ∧ (decode cX6_stepOff 42 = .ok (.ifCond .ne 5, 3)) ∧ (decode cX6_stepOff 45 = .ok (.iconst 0, 1)) ∧ (decode cX6_stepOff 46 = .ok (.ireturn, 1)) ∧ (decode cX6_stepOff 47 = .ok (.aload_n 2, 1)) ∧ (decode cX6_stepOff 48 = .ok (.iload_n 3, 1)) ∧ (decode cX6_stepOff 49 = .ok (.iload 4, 2)) ∧ (decode cX6_stepOff 51 = .ok (.iconst (-1), 1)) ∧ (decode cX6_stepOff 52 = .ok (.invokevirtual 247, 3)) := by decide +kernel
theorem dX6_stepOff_27 : decode cX6_stepOff 27 = .ok (.bipush 10, 2) := bdX6_stepOff_27.1
theorem dX6_stepOff_29 : decode cX6_stepOff 29 = .ok (.irem, 1) := bdX6_stepOff_27.2.1
theorem dX6_stepOff_30 : decode cX6_stepOff 30 = .ok (.istore 6, 2) := bdX6_stepOff_27.2.2.1
theorem dX6_stepOff_32 : decode cX6_stepOff 32 = .ok (.aload_n 1, 1) := bdX6_stepOff_27.2.2.2.1
theorem dX6_stepOff_33 : decode cX6_stepOff 33 = .ok (.aload_n 2, 1) := bdX6_stepOff_27.2.2.2.2.1
theorem dX6_stepOff_34 : decode cX6_stepOff 34 = .ok (.invokevirtual 244, 3) := bdX6_stepOff_27.2.2.2.2.2.1
theorem dX6_stepOff_37 : decode cX6_stepOff 37 = .ok (.iload 6, 2) := bdX6_stepOff_27.2.2.2.2.2.2.1
theorem dX6_stepOff_39 : decode cX6_stepOff 39 = .ok (.invokevirtual 194, 3) := bdX6_stepOff_27.2.2.2.2.2.2.2.1
theorem dX6_stepOff_42 : decode cX6_stepOff 42 = .ok (.ifCond .ne 5, 3) := bdX6_stepOff_27.2.2.2.2.2.2.2.2.1
theorem dX6_stepOff_45 : decode cX6_stepOff 45 = .ok (.iconst 0, 1) := bdX6_stepOff_27.2.2.2.2.2.2.2.2.2.1
theorem dX6_stepOff_46 : decode cX6_stepOff 46 = .ok (.ireturn, 1) := bdX6_stepOff_27.2.2.2.2.2.2.2.2.2.2.1
theorem dX6_stepOff_47 : decode cX6_stepOff 47 = .ok (.aload_n 2, 1) := bdX6_stepOff_27.2.2.2.2.2.2.2.2.2.2.2.1
theorem dX6_stepOff_48 : decode cX6_stepOff 48 = .ok (.iload_n 3, 1) := bdX6_stepOff_27.2.2.2.2.2.2.2.2.2.2.2.2.1
theorem dX6_stepOff_49 : decode cX6_stepOff 49 = .ok (.iload 4, 2) := bdX6_stepOff_27.2.2.2.2.2.2.2.2.2.2.2.2.2.1
theorem dX6_stepOff_51 : decode cX6_stepOff 51 = .ok (.iconst (-1), 1) := bdX6_stepOff_27.2.2.2.2.2.2.2.2.2.2.2.2.2.2.1
theorem dX6_stepOff_52 : decode cX6_stepOff 52 = .ok (.invokevirtual 247, 3) := bdX6_stepOff_27.2.2.2.2.2.2.2.2.2.2.2.2.2.2.2
theorem bdX6_stepOff_55 : (decode cX6_stepOff 55 = .ok (.aload_n 2, 1)) ∧ (decode cX6_stepOff 56 = .ok (.dup, 1)) ∧ (decode cX6_stepOff 57 = .ok (.getfield 148, 3)) ∧ (decode cX6_stepOff 60 = .ok (.iconst 1, 1)) ∧ (decode cX6_stepOff 61 = .ok (.isub, 1)) ∧ (decode cX6_stepOff 62 = .ok (.putfield 148, 3)) ∧ (decode cX6_stepOff 65 = .ok (.aload_n 2, 1)) ∧ (decode cX6_stepOff 66 = .ok (.dup, 1)) ∧ (decode cX6_stepOff 67 = .ok (.getfield 204, 3)) ∧ (decode cX6_stepOff 70 = .ok (.iconst 1, 1)) ∧ (decode cX6_stepOff 71 = .ok (.iadd, 1)) ∧ (decode cX6_stepOff 72 = .ok (.putfield 204, 3)) ∧ (decode cX6_stepOff 75 = .ok (.aload_n 1, 1)) ∧ (decode cX6_stepOff 76 = .ok (.aload_n 2, 1)) ∧ (decode cX6_stepOff 77 = .ok (.invokevirtual 244, 3)) ∧ (decode cX6_stepOff 80 = .ok (.iload 6, 2)) := by decide +kernel
theorem dX6_stepOff_55 : decode cX6_stepOff 55 = .ok (.aload_n 2, 1) := bdX6_stepOff_55.1
theorem dX6_stepOff_56 : decode cX6_stepOff 56 = .ok (.dup, 1) := bdX6_stepOff_55.2.1
theorem dX6_stepOff_57 : decode cX6_stepOff 57 = .ok (.getfield 148, 3) := bdX6_stepOff_55.2.2.1
theorem dX6_stepOff_60 : decode cX6_stepOff 60 = .ok (.iconst 1, 1) := bdX6_stepOff_55.2.2.2.1
theorem dX6_stepOff_61 : decode cX6_stepOff 61 = .ok (.isub, 1) := bdX6_stepOff_55.2.2.2.2.1
theorem dX6_stepOff_62 : decode cX6_stepOff 62 = .ok (.putfield 148, 3) := bdX6_stepOff_55.2.2.2.2.2.1
theorem dX6_stepOff_65 : decode cX6_stepOff 65 = .ok (.aload_n 2, 1) := bdX6_stepOff_55.2.2.2.2.2.2.1
theorem dX6_stepOff_66 : decode cX6_stepOff 66 = .ok (.dup, 1) := bdX6_stepOff_55.2.2.2.2.2.2.2.1
theorem dX6_stepOff_67 : decode cX6_stepOff 67 = .ok (.getfield 204, 3) := bdX6_stepOff_55.2.2.2.2.2.2.2.2.1
theorem dX6_stepOff_70 : decode cX6_stepOff 70 = .ok (.iconst 1, 1) := bdX6_stepOff_55.2.2.2.2.2.2.2.2.2.1
theorem dX6_stepOff_71 : decode cX6_stepOff 71 = .ok (.iadd, 1) := bdX6_stepOff_55.2.2.2.2.2.2.2.2.2.2.1
theorem dX6_stepOff_72 : decode cX6_stepOff 72 = .ok (.putfield 204, 3) := bdX6_stepOff_55.2.2.2.2.2.2.2.2.2.2.2.1
theorem dX6_stepOff_75 : decode cX6_stepOff 75 = .ok (.aload_n 1, 1) := bdX6_stepOff_55.2.2.2.2.2.2.2.2.2.2.2.2.1
theorem dX6_stepOff_76 : decode cX6_stepOff 76 = .ok (.aload_n 2, 1) := bdX6_stepOff_55.2.2.2.2.2.2.2.2.2.2.2.2.2.1
theorem dX6_stepOff_77 : decode cX6_stepOff 77 = .ok (.invokevirtual 244, 3) := bdX6_stepOff_55.2.2.2.2.2.2.2.2.2.2.2.2.2.2.1
theorem dX6_stepOff_80 : decode cX6_stepOff 80 = .ok (.iload 6, 2) := bdX6_stepOff_55.2.2.2.2.2.2.2.2.2.2.2.2.2.2.2
theorem bdX6_stepOff_82 : (decode cX6_stepOff 82 = .ok (.iconst 0, 1)) ∧ (decode cX6_stepOff 83 = .ok (.iconst 1, 1)) ∧ (decode cX6_stepOff 84 = .ok (.invokevirtual 85, 3)) ∧ (decode cX6_stepOff 87 = .ok (.iconst 1, 1)) ∧ (decode cX6_stepOff 88 = .ok (.ireturn, 1)) := by decide +kernel
theorem dX6_stepOff_82 : decode cX6_stepOff 82 = .ok (.iconst 0, 1) := bdX6_stepOff_82.1
theorem dX6_stepOff_83 : decode cX6_stepOff 83 = .ok (.iconst 1, 1) := bdX6_stepOff_82.2.1
theorem dX6_stepOff_84 : decode cX6_stepOff 84 = .ok (.invokevirtual 85, 3) := bdX6_stepOff_82.2.2.1
theorem dX6_stepOff_87 : decode cX6_stepOff 87 = .ok (.iconst 1, 1) := bdX6_stepOff_82.2.2.2.1
theorem dX6_stepOff_88 : decode cX6_stepOff 88 = .ok (.ireturn, 1) := bdX6_stepOff_82.2.2.2.2
theorem bdX3_move_0 : (decode cX3_move 0 = .ok (.aload_n 0, 1)) ∧ (decode cX3_move 1 = .ok (.iload_n 1, 1)) ∧ (decode cX3_move 2 = .ok (.iload_n 2, 1)) ∧ (decode cX3_move 3 = .ok (.iconst 1, 1)) ∧ (decode cX3_move 4 = .ok (.iadd, 1)) ∧ (decode cX3_move 5 = .ok (.aload_n 0, 1)) ∧ (decode cX3_move 6 = .ok (.iload_n 1, 1)) ∧ (decode cX3_move 7 = .ok (.iload_n 2, 1)) ∧ (decode cX3_move 8 = .ok (.invokevirtual 68, 3)) ∧ (decode cX3_move 11 = .ok (.invokevirtual 72, 3)) ∧ (decode cX3_move 14 = .ok (.aload_n 0, 1)) ∧ (decode cX3_move 15 = .ok (.iload_n 1, 1)) ∧ (decode cX3_move 16 = .ok (.iload_n 2, 1)) ∧ (decode cX3_move 17 = .ok (.iconst (-1), 1)) ∧ (decode cX3_move 18 = .ok (.invokevirtual 72, 3)) ∧ (decode cX3_move 21 = .ok (.return_, 1)) := by decide +kernel
theorem dX3_move_0 : decode cX3_move 0 = .ok (.aload_n 0, 1) := bdX3_move_0.1
theorem dX3_move_1 : decode cX3_move 1 = .ok (.iload_n 1, 1) := bdX3_move_0.2.1
theorem dX3_move_2 : decode cX3_move 2 = .ok (.iload_n 2, 1) := bdX3_move_0.2.2.1
theorem dX3_move_3 : decode cX3_move 3 = .ok (.iconst 1, 1) := bdX3_move_0.2.2.2.1
theorem dX3_move_4 : decode cX3_move 4 = .ok (.iadd, 1) := bdX3_move_0.2.2.2.2.1
theorem dX3_move_5 : decode cX3_move 5 = .ok (.aload_n 0, 1) := bdX3_move_0.2.2.2.2.2.1
theorem dX3_move_6 : decode cX3_move 6 = .ok (.iload_n 1, 1) := bdX3_move_0.2.2.2.2.2.2.1
theorem dX3_move_7 : decode cX3_move 7 = .ok (.iload_n 2, 1) := bdX3_move_0.2.2.2.2.2.2.2.1
theorem dX3_move_8 : decode cX3_move 8 = .ok (.invokevirtual 68, 3) := bdX3_move_0.2.2.2.2.2.2.2.2.1
theorem dX3_move_11 : decode cX3_move 11 = .ok (.invokevirtual 72, 3) := bdX3_move_0.2.2.2.2.2.2.2.2.2.1
theorem dX3_move_14 : decode cX3_move 14 = .ok (.aload_n 0, 1) := bdX3_move_0.2.2.2.2.2.2.2.2.2.2.1
theorem dX3_move_15 : decode cX3_move 15 = .ok (.iload_n 1, 1) := bdX3_move_0.2.2.2.2.2.2.2.2.2.2.2.1
theorem dX3_move_16 : decode cX3_move 16 = .ok (.iload_n 2, 1) := bdX3_move_0.2.2.2.2.2.2.2.2.2.2.2.2.1
theorem dX3_move_17 : decode cX3_move 17 = .ok (.iconst (-1), 1) := bdX3_move_0.2.2.2.2.2.2.2.2.2.2.2.2.2.1
theorem dX3_move_18 : decode cX3_move 18 = .ok (.invokevirtual 72, 3) := bdX3_move_0.2.2.2.2.2.2.2.2.2.2.2.2.2.2.1
theorem dX3_move_21 : decode cX3_move 21 = .ok (.return_, 1) := bdX3_move_0.2.2.2.2.2.2.2.2.2.2.2.2.2.2.2
theorem bdX3_goesOn_0 : (decode cX3_goesOn 0 = .ok (.aload_n 0, 1)) ∧ (decode cX3_goesOn 1 = .ok (.iload_n 1, 1)) ∧ (decode cX3_goesOn 2 = .ok (.iload_n 2, 1)) ∧ (decode cX3_goesOn 3 = .ok (.invokevirtual 68, 3)) ∧ (decode cX3_goesOn 6 = .ok (.istore_n 3, 1)) ∧ (decode cX3_goesOn 7 = .ok (.iload_n 3, 1)) ∧ (decode cX3_goesOn 8 = .ok (.iconst (-1), 1)) ∧ (decode cX3_goesOn 9 = .ok (.if_icmp .eq 13, 3)) ∧ (decode cX3_goesOn 12 = .ok (.iload_n 2, 1)) ∧ (decode cX3_goesOn 13 = .ok (.aload_n 0, 1)) ∧ (decode cX3_goesOn 14 = .ok (.getfield 25, 3)) ∧ (decode cX3_goesOn 17 = .ok (.iconst 1, 1)) ∧ (decode cX3_goesOn 18 = .ok (.isub, 1)) ∧ (decode cX3_goesOn 19 = .ok (.if_icmp .lt 14, 3)) ∧ (decode cX3_goesOn 22 = .ok (.iload_n 3, 1)) ∧ (decode cX3_goesOn 23 = .ok (.iconst (-1), 1)) := by decide +kernel
theorem dX3_goesOn_0 : decode cX3_goesOn 0 = .ok (.aload_n 0, 1) := bdX3_goesOn_0.1
theorem dX3_goesOn_1 : decode cX3_goesOn 1 = .ok (.iload_n 1, 1) := bdX3_goesOn_0.2.1
theorem dX3_goesOn_2 : decode cX3_goesOn 2 = .ok (.iload_n 2, 1) := bdX3_goesOn_0.2.2.1
theorem dX3_goesOn_3 : decode cX3_goesOn 3 = .ok (.invokevirtual 68, 3) := bdX3_goesOn_0.2.2.2.1
theorem dX3_goesOn_6 : decode cX3_goesOn 6 = .ok (.istore_n 3, 1) := bdX3_goesOn_0.2.2.2.2.1
theorem dX3_goesOn_7 : decode cX3_goesOn 7 = .ok (.iload_n 3, 1) := bdX3_goesOn_0.2.2.2.2.2.1
theorem dX3_goesOn_8 : decode cX3_goesOn 8 = .ok (.iconst (-1), 1) := bdX3_goesOn_0.2.2.2.2.2.2.1
theorem dX3_goesOn_9 : decode cX3_goesOn 9 = .ok (.if_icmp .eq 13, 3) := bdX3_goesOn_0.2.2.2.2.2.2.2.1
theorem dX3_goesOn_12 : decode cX3_goesOn 12 = .ok (.iload_n 2, 1) := bdX3_goesOn_0.2.2.2.2.2.2.2.2.1
theorem dX3_goesOn_13 : decode cX3_goesOn 13 = .ok (.aload_n 0, 1) := bdX3_goesOn_0.2.2.2.2.2.2.2.2.2.1
theorem dX3_goesOn_14 : decode cX3_goesOn 14 = .ok (.getfield 25, 3) := bdX3_goesOn_0.2.2.2.2.2.2.2.2.2.2.1
theorem dX3_goesOn_17 : decode cX3_goesOn 17 = .ok (.iconst 1, 1) := bdX3_goesOn_0.2.2.2.2.2.2.2.2.2.2.2.1
theorem dX3_goesOn_18 : decode cX3_goesOn 18 = .ok (.isub, 1) := bdX3_goesOn_0.2.2.2.2.2.2.2.2.2.2.2.2.1
theorem dX3_goesOn_19 : decode cX3_goesOn 19 = .ok (.if_icmp .lt 14, 3) := bdX3_goesOn_0.2.2.2.2.2.2.2.2.2.2.2.2.2.1
theorem dX3_goesOn_22 : decode cX3_goesOn 22 = .ok (.iload_n 3, 1) := bdX3_goesOn_0.2.2.2.2.2.2.2.2.2.2.2.2.2.2.1
theorem dX3_goesOn_23 : decode cX3_goesOn 23 = .ok (.iconst (-1), 1) := bdX3_goesOn_0.2.2.2.2.2.2.2.2.2.2.2.2.2.2.2
theorem bdX3_goesOn_24 : (decode cX3_goesOn 24 = .ok (.if_icmp .eq 7, 3)) ∧ (decode cX3_goesOn 27 = .ok (.iconst 1, 1)) ∧ (decode cX3_goesOn 28 = .ok (.goto 4, 3)) ∧ (decode cX3_goesOn 31 = .ok (.iconst 0, 1)) ∧ (decode cX3_goesOn 32 = .ok (.ireturn, 1)) ∧ (decode cX3_goesOn 33 = .ok (.aload_n 0, 1)) ∧ (decode cX3_goesOn 34 = .ok (.iload_n 1, 1)) ∧ (decode cX3_goesOn 35 = .ok (.iload_n 2, 1)) ∧ (decode cX3_goesOn 36 = .ok (.invokevirtual 76, 3)) ∧ (decode cX3_goesOn 39 = .ok (.iload_n 3, 1)) ∧ (decode cX3_goesOn 40 = .ok (.bipush 10, 2)) ∧ (decode cX3_goesOn 42 = .ok (.if_icmp .ge 5, 3)) ∧ (decode cX3_goesOn 45 = .ok (.iconst 0, 1)) ∧ (decode cX3_goesOn 46 = .ok (.ireturn, 1)) ∧ (decode cX3_goesOn 47 = .ok (.iload_n 2, 1)) ∧ (decode cX3_goesOn 48 = .ok (.iconst 2, 1)) := by decide +kernel
theorem dX3_goesOn_24 : decode cX3_goesOn 24 = .ok (.if_icmp .eq 7, 3) := bdX3_goesOn_24.1
theorem dX3_goesOn_27 : decode cX3_goesOn 27 = .ok (.iconst 1, 1) := bdX3_goesOn_24.2.1
theorem dX3_goesOn_28 : decode cX3_goesOn 28 = .ok (.goto 4, 3) := bdX3_goesOn_24.2.2.1
theorem dX3_goesOn_31 : decode cX3_goesOn 31 = .ok (.iconst 0, 1) := bdX3_goesOn_24.2.2.2.1
theorem dX3_goesOn_32 : decode cX3_goesOn 32 = .ok (.ireturn, 1) := bdX3_goesOn_24.2.2.2.2.1
theorem dX3_goesOn_33 : decode cX3_goesOn 33 = .ok (.aload_n 0, 1) := bdX3_goesOn_24.2.2.2.2.2.1
theorem dX3_goesOn_34 : decode cX3_goesOn 34 = .ok (.iload_n 1, 1) := bdX3_goesOn_24.2.2.2.2.2.2.1
theorem dX3_goesOn_35 : decode cX3_goesOn 35 = .ok (.iload_n 2, 1) := bdX3_goesOn_24.2.2.2.2.2.2.2.1
theorem dX3_goesOn_36 : decode cX3_goesOn 36 = .ok (.invokevirtual 76, 3) := bdX3_goesOn_24.2.2.2.2.2.2.2.2.1
theorem dX3_goesOn_39 : decode cX3_goesOn 39 = .ok (.iload_n 3, 1) := bdX3_goesOn_24.2.2.2.2.2.2.2.2.2.1
theorem dX3_goesOn_40 : decode cX3_goesOn 40 = .ok (.bipush 10, 2) := bdX3_goesOn_24.2.2.2.2.2.2.2.2.2.2.1
theorem dX3_goesOn_42 : decode cX3_goesOn 42 = .ok (.if_icmp .ge 5, 3) := bdX3_goesOn_24.2.2.2.2.2.2.2.2.2.2.2.1
theorem dX3_goesOn_45 : decode cX3_goesOn 45 = .ok (.iconst 0, 1) := bdX3_goesOn_24.2.2.2.2.2.2.2.2.2.2.2.2.1
theorem dX3_goesOn_46 : decode cX3_goesOn 46 = .ok (.ireturn, 1) := bdX3_goesOn_24.2.2.2.2.2.2.2.2.2.2.2.2.2.1
theorem dX3_goesOn_47 : decode cX3_goesOn 47 = .ok (.iload_n 2, 1) := bdX3_goesOn_24.2.2.2.2.2.2.2.2.2.2.2.2.2.2.1
theorem dX3_goesOn_48 : decode cX3_goesOn 48 = .ok (.iconst 2, 1) := bdX3_goesOn_24.2.2.2.2.2.2.2.2.2.2.2.2.2.2.2
theorem bdX3_goesOn_49 : (decode cX3_goesOn 49 = .ok (.iadd, 1)) ∧ (decode cX3_goesOn 50 = .ok (.aload_n 0, 1)) ∧ (decode cX3_goesOn 51 = .ok (.getfield 25, 3)) ∧ (decode cX3_goesOn 54 = .ok (.if_icmp .ge 23, 3)) ∧ (decode cX3_goesOn 57 = .ok (.aload_n 0, 1)) ∧ (decode cX3_goesOn 58 = .ok (.iload_n 1, 1)) ∧ (decode cX3_goesOn 59 = .ok (.iload_n 2, 1)) ∧ (decode cX3_goesOn 60 = .ok (.iconst 2, 1)) ∧ (decode cX3_goesOn 61 = .ok (.iadd, 1)) ∧ (decode cX3_goesOn 62 = .ok (.invokevirtual 68, 3)) ∧ (decode cX3_goesOn 65 = .ok (.iconst (-1), 1)) ∧ (decode cX3_goesOn 66 = .ok (.if_icmp .ne 11, 3)) ∧ (decode cX3_goesOn 69 = .ok (.aload_n 0, 1)) ∧ (decode cX3_goesOn 70 = .ok (.iload_n 1, 1)) ∧ (decode cX3_goesOn 71 = .ok (.iload_n 2, 1)) ∧ (decode cX3_goesOn 72 = .ok (.iconst 1, 1)) := by decide +kernel
theorem dX3_goesOn_49 : decode cX3_goesOn 49 = .ok (.iadd, 1) := bdX3_goesOn_49.1
theorem dX3_goesOn_50 : decode cX3_goesOn 50 = .ok (.aload_n 0, 1) := bdX3_goesOn_49.2.1
theorem dX3_goesOn_51 : decode cX3_goesOn 51 = .ok (.getfield 25, 3) := bdX3_goesOn_49.2.2.1
theorem dX3_goesOn_54 : decode cX3_goesOn 54 = .ok (.if_icmp .ge 23, 3) := bdX3_goesOn_49.2.2.2.1
theorem dX3_goesOn_57 : decode cX3_goesOn 57 = .ok (.aload_n 0, 1) := bdX3_goesOn_49.2.2.2.2.1
theorem dX3_goesOn_58 : decode cX3_goesOn 58 = .ok (.iload_n 1, 1) := bdX3_goesOn_49.2.2.2.2.2.1
theorem dX3_goesOn_59 : decode cX3_goesOn 59 = .ok (.iload_n 2, 1) := bdX3_goesOn_49.2.2.2.2.2.2.1
theorem dX3_goesOn_60 : decode cX3_goesOn 60 = .ok (.iconst 2, 1) := bdX3_goesOn_49.2.2.2.2.2.2.2.1
theorem dX3_goesOn_61 : decode cX3_goesOn 61 = .ok (.iadd, 1) := bdX3_goesOn_49.2.2.2.2.2.2.2.2.1
theorem dX3_goesOn_62 : decode cX3_goesOn 62 = .ok (.invokevirtual 68, 3) := bdX3_goesOn_49.2.2.2.2.2.2.2.2.2.1
theorem dX3_goesOn_65 : decode cX3_goesOn 65 = .ok (.iconst (-1), 1) := bdX3_goesOn_49.2.2.2.2.2.2.2.2.2.2.1
theorem dX3_goesOn_66 : decode cX3_goesOn 66 = .ok (.if_icmp .ne 11, 3) := bdX3_goesOn_49.2.2.2.2.2.2.2.2.2.2.2.1
theorem dX3_goesOn_69 : decode cX3_goesOn 69 = .ok (.aload_n 0, 1) := bdX3_goesOn_49.2.2.2.2.2.2.2.2.2.2.2.2.1
theorem dX3_goesOn_70 : decode cX3_goesOn 70 = .ok (.iload_n 1, 1) := bdX3_goesOn_49.2.2.2.2.2.2.2.2.2.2.2.2.2.1
theorem dX3_goesOn_71 : decode cX3_goesOn 71 = .ok (.iload_n 2, 1) := bdX3_goesOn_49.2.2.2.2.2.2.2.2.2.2.2.2.2.2.1
theorem dX3_goesOn_72 : decode cX3_goesOn 72 = .ok (.iconst 1, 1) := bdX3_goesOn_49.2.2.2.2.2.2.2.2.2.2.2.2.2.2.2
theorem bdX3_goesOn_73 : (decode cX3_goesOn 73 = .ok (.iadd, 1)) ∧ (decode cX3_goesOn 74 = .ok (.invokevirtual 76, 3)) ∧ (decode cX3_goesOn 77 = .ok (.iload_n 2, 1)) ∧ (decode cX3_goesOn 78 = .ok (.iconst 2, 1)) ∧ (decode cX3_goesOn 79 = .ok (.iadd, 1)) ∧ (decode cX3_goesOn 80 = .ok (.aload_n 0, 1)) ∧ (decode cX3_goesOn 81 = .ok (.getfield 25, 3)) ∧ (decode cX3_goesOn 84 = .ok (.if_icmp .lt 7, 3)) ∧ (decode cX3_goesOn 87 = .ok (.iconst 1, 1)) ∧ (decode cX3_goesOn 88 = .ok (.goto 4, 3)) ∧ (decode cX3_goesOn 91 = .ok (.iconst 0, 1)) ∧ (decode cX3_goesOn 92 = .ok (.ireturn, 1)) := by decide +kernel
theorem dX3_goesOn_73 : decode cX3_goesOn 73 = .ok (.iadd, 1) := bdX3_goesOn_73.1
theorem dX3_goesOn_74 : decode cX3_goesOn 74 = .ok (.invokevirtual 76, 3) := bdX3_goesOn_73.2.1
theorem dX3_goesOn_77 : decode cX3_goesOn 77 = .ok (.iload_n 2, 1) := bdX3_goesOn_73.2.2.1
theorem dX3_goesOn_78 : decode cX3_goesOn 78 = .ok (.iconst 2, 1) := bdX3_goesOn_73.2.2.2.1
theorem dX3_goesOn_79 : decode cX3_goesOn 79 = .ok (.iadd, 1) := bdX3_goesOn_73.2.2.2.2.1
theorem dX3_goesOn_80 : decode cX3_goesOn 80 = .ok (.aload_n 0, 1) := bdX3_goesOn_73.2.2.2.2.2.1
theorem dX3_goesOn_81 : decode cX3_goesOn 81 = .ok (.getfield 25, 3) := bdX3_goesOn_73.2.2.2.2.2.2.1
theorem dX3_goesOn_84 : decode cX3_goesOn 84 = .ok (.if_icmp .lt 7, 3) := bdX3_goesOn_73.2.2.2.2.2.2.2.1
theorem dX3_goesOn_87 : decode cX3_goesOn 87 = .ok (.iconst 1, 1) := bdX3_goesOn_73.2.2.2.2.2.2.2.2.1
theorem dX3_goesOn_88 : decode cX3_goesOn 88 = .ok (.goto 4, 3) := bdX3_goesOn_73.2.2.2.2.2.2.2.2.2.1
theorem dX3_goesOn_91 : decode cX3_goesOn 91 = .ok (.iconst 0, 1) := bdX3_goesOn_73.2.2.2.2.2.2.2.2.2.2.1
theorem dX3_goesOn_92 : decode cX3_goesOn 92 = .ok (.ireturn, 1) := bdX3_goesOn_73.2.2.2.2.2.2.2.2.2.2.2
theorem bdX6_moveStair_0 : (decode cX6_moveStair 0 = .ok (.aload_n 2, 1)) ∧ (decode cX6_moveStair 1 = .ok (.getfield 225, 3)) ∧ (decode cX6_moveStair 4 = .ok (.ifCond .eq 17, 3)) ∧ (decode cX6_moveStair 7 = .ok (.aload_n 2, 1)) ∧ (decode cX6_moveStair 8 = .ok (.getfield 228, 3)) ∧ (decode cX6_moveStair 11 = .ok (.ifCond .ne 10, 3)) ∧ (decode cX6_moveStair 14 = .ok (.aload_n 2, 1)) ∧ (decode cX6_moveStair 15 = .ok (.getfield 148, 3)) ∧ (decode cX6_moveStair 18 = .ok (.ifCond .ne 4, 3)) ∧ (decode cX6_moveStair 21 = .ok (.return_, 1)) ∧ (decode cX6_moveStair 22 = .ok (.iconst 0, 1)) ∧ (decode cX6_moveStair 23 = .ok (.istore_n 3, 1)) ∧ (decode cX6_moveStair 24 = .ok (.iload_n 3, 1)) ∧ (decode cX6_moveStair 25 = .ok (.iconst 2, 1)) ∧ (decode cX6_moveStair 26 = .ok (.if_icmp .ge 64, 3)) ∧ (decode cX6_moveStair 29 = .ok (.aload_n 2, 1)) := by decide +kernel
theorem dX6_moveStair_0 : decode cX6_moveStair 0 = .ok (.aload_n 2, 1) := bdX6_moveStair_0.1
theorem dX6_moveStair_1 : decode cX6_moveStair 1 = .ok (.getfield 225, 3) := bdX6_moveStair_0.2.1
theorem dX6_moveStair_4 : decode cX6_moveStair 4 = .ok (.ifCond .eq 17, 3) := bdX6_moveStair_0.2.2.1
theorem dX6_moveStair_7 : decode cX6_moveStair 7 = .ok (.aload_n 2, 1) := bdX6_moveStair_0.2.2.2.1
theorem dX6_moveStair_8 : decode cX6_moveStair 8 = .ok (.getfield 228, 3) := bdX6_moveStair_0.2.2.2.2.1
theorem dX6_moveStair_11 : decode cX6_moveStair 11 = .ok (.ifCond .ne 10, 3) := bdX6_moveStair_0.2.2.2.2.2.1
theorem dX6_moveStair_14 : decode cX6_moveStair 14 = .ok (.aload_n 2, 1) := bdX6_moveStair_0.2.2.2.2.2.2.1
theorem dX6_moveStair_15 : decode cX6_moveStair 15 = .ok (.getfield 148, 3) := bdX6_moveStair_0.2.2.2.2.2.2.2.1
theorem dX6_moveStair_18 : decode cX6_moveStair 18 = .ok (.ifCond .ne 4, 3) := bdX6_moveStair_0.2.2.2.2.2.2.2.2.1
theorem dX6_moveStair_21 : decode cX6_moveStair 21 = .ok (.return_, 1) := bdX6_moveStair_0.2.2.2.2.2.2.2.2.2.1
theorem dX6_moveStair_22 : decode cX6_moveStair 22 = .ok (.iconst 0, 1) := bdX6_moveStair_0.2.2.2.2.2.2.2.2.2.2.1
theorem dX6_moveStair_23 : decode cX6_moveStair 23 = .ok (.istore_n 3, 1) := bdX6_moveStair_0.2.2.2.2.2.2.2.2.2.2.2.1
theorem dX6_moveStair_24 : decode cX6_moveStair 24 = .ok (.iload_n 3, 1) := bdX6_moveStair_0.2.2.2.2.2.2.2.2.2.2.2.2.1
theorem dX6_moveStair_25 : decode cX6_moveStair 25 = .ok (.iconst 2, 1) := bdX6_moveStair_0.2.2.2.2.2.2.2.2.2.2.2.2.2.1
theorem dX6_moveStair_26 : decode cX6_moveStair 26 = .ok (.if_icmp .ge 64, 3) := bdX6_moveStair_0.2.2.2.2.2.2.2.2.2.2.2.2.2.2.1
theorem dX6_moveStair_29 : decode cX6_moveStair 29 = .ok (.aload_n 2, 1) := bdX6_moveStair_0.2.2.2.2.2.2.2.2.2.2.2.2.2.2.2
theorem bdX6_moveStair_30 : (decode cX6_moveStair 30 = .ok (.getfield 189, 3)) ∧ (decode cX6_moveStair 33 = .ok (.iconst 1, 1)) ∧ (decode cX6_moveStair 34 = .ok (.isub, 1)) ∧ (decode cX6_moveStair 35 = .ok (.istore 4, 2)) ∧ (decode cX6_moveStair 37 = .ok (.iload 4, 2)) ∧ (decode cX6_moveStair 39 = .ok (.ifCond .lt 45, 3)) ∧ (decode cX6_moveStair 42 = .ok (.aload_n 2, 1)) ∧ (decode cX6_moveStair 43 = .ok (.iload_n 3, 1)) ∧ (decode cX6_moveStair 44 = .ok (.iload 4, 2)) ∧ (decode cX6_moveStair 46 = .ok (.invokevirtual 231, 3)) ∧ (decode cX6_moveStair 49 = .ok (.ifCond .eq 29, 3)) ∧ (decode cX6_moveStair 52 = .ok (.aload_n 0, 1)) ∧ (decode cX6_moveStair 53 = .ok (.aload_n 1, 1)) ∧ (decode cX6_moveStair 54 = .ok (.aload_n 2, 1)) ∧ (decode cX6_moveStair 55 = .ok (.iload_n 3, 1)) ∧ (decode cX6_moveStair 56 = .ok (.invokevirtual 234, 3)) := by decide +kernel
theorem dX6_moveStair_30 : decode cX6_moveStair 30 = .ok (.getfield 189, 3) := bdX6_moveStair_30.1
theorem dX6_moveStair_33 : decode cX6_moveStair 33 = .ok (.iconst 1, 1) := bdX6_moveStair_30.2.1
theorem dX6_moveStair_34 : decode cX6_moveStair 34 = .ok (.isub, 1) := bdX6_moveStair_30.2.2.1
theorem dX6_moveStair_35 : decode cX6_moveStair 35 = .ok (.istore 4, 2) := bdX6_moveStair_30.2.2.2.1
theorem dX6_moveStair_37 : decode cX6_moveStair 37 = .ok (.iload 4, 2) := bdX6_moveStair_30.2.2.2.2.1
theorem dX6_moveStair_39 : decode cX6_moveStair 39 = .ok (.ifCond .lt 45, 3) := bdX6_moveStair_30.2.2.2.2.2.1
theorem dX6_moveStair_42 : decode cX6_moveStair 42 = .ok (.aload_n 2, 1) := bdX6_moveStair_30.2.2.2.2.2.2.1
theorem dX6_moveStair_43 : decode cX6_moveStair 43 = .ok (.iload_n 3, 1) := bdX6_moveStair_30.2.2.2.2.2.2.2.1
theorem dX6_moveStair_44 : decode cX6_moveStair 44 = .ok (.iload 4, 2) := bdX6_moveStair_30.2.2.2.2.2.2.2.2.1
theorem dX6_moveStair_46 : decode cX6_moveStair 46 = .ok (.invokevirtual 231, 3) := bdX6_moveStair_30.2.2.2.2.2.2.2.2.2.1
theorem dX6_moveStair_49 : decode cX6_moveStair 49 = .ok (.ifCond .eq 29, 3) := bdX6_moveStair_30.2.2.2.2.2.2.2.2.2.2.1
theorem dX6_moveStair_52 : decode cX6_moveStair 52 = .ok (.aload_n 0, 1) := bdX6_moveStair_30.2.2.2.2.2.2.2.2.2.2.2.1
theorem dX6_moveStair_53 : decode cX6_moveStair 53 = .ok (.aload_n 1, 1) := bdX6_moveStair_30.2.2.2.2.2.2.2.2.2.2.2.2.1
theorem dX6_moveStair_54 : decode cX6_moveStair 54 = .ok (.aload_n 2, 1) := bdX6_moveStair_30.2.2.2.2.2.2.2.2.2.2.2.2.2.1
theorem dX6_moveStair_55 : decode cX6_moveStair 55 = .ok (.iload_n 3, 1) := bdX6_moveStair_30.2.2.2.2.2.2.2.2.2.2.2.2.2.2.1
theorem dX6_moveStair_56 : decode cX6_moveStair 56 = .ok (.invokevirtual 234, 3) := bdX6_moveStair_30.2.2.2.2.2.2.2.2.2.2.2.2.2.2.2
theorem bdX6_moveStair_59 : (decode cX6_moveStair 59 = .ok (.ifCond .ne 19, 3)) ∧ (decode cX6_moveStair 62 = .ok (.aload_n 2, 1)) ∧ (decode cX6_moveStair 63 = .ok (.iconst 1, 1)) ∧ (decode cX6_moveStair 64 = .ok (.putfield 228, 3)) ∧ (decode cX6_moveStair 67 = .ok (.aload_n 1, 1)) ∧ (decode cX6_moveStair 68 = .ok (.dup, 1)) ∧ (decode cX6_moveStair 69 = .ok (.getfield 238, 3)) ∧ (decode cX6_moveStair 72 = .ok (.iconst 1, 1)) ∧ (decode cX6_moveStair 73 = .ok (.iadd, 1)) ∧ (decode cX6_moveStair 74 = .ok (.putfield 238, 3)) ∧ (decode cX6_moveStair 77 = .ok (.return_, 1)) ∧ (decode cX6_moveStair 78 = .ok (.iinc 4 (-1), 3)) ∧ (decode cX6_moveStair 81 = .ok (.goto (-44), 3)) ∧ (decode cX6_moveStair 84 = .ok (.iinc 3 1, 3)) ∧ (decode cX6_moveStair 87 = .ok (.goto (-63), 3)) ∧ (decode cX6_moveStair 90 = .ok (.return_, 1)) := by decide +kernel
theorem dX6_moveStair_59 : decode cX6_moveStair 59 = .ok (.ifCond .ne 19, 3) := bdX6_moveStair_59.1
theorem dX6_moveStair_62 : decode cX6_moveStair 62 = .ok (.aload_n 2, 1) := bdX6_moveStair_59.2.1
theorem dX6_moveStair_63 : decode cX6_moveStair 63 = .ok (.iconst 1, 1) := bdX6_moveStair_59.2.2.1
theorem dX6_moveStair_64 : decode cX6_moveStair 64 = .ok (.putfield 228, 3) := bdX6_moveStair_59.2.2.2.1
theorem dX6_moveStair_67 : decode cX6_moveStair 67 = .ok (.aload_n 1, 1) := bdX6_moveStair_59.2.2.2.2.1
theorem dX6_moveStair_68 : decode cX6_moveStair 68 = .ok (.dup, 1) := bdX6_moveStair_59.2.2.2.2.2.1
theorem dX6_moveStair_69 : decode cX6_moveStair 69 = .ok (.getfield 238, 3) := bdX6_moveStair_59.2.2.2.2.2.2.1
theorem dX6_moveStair_72 : decode cX6_moveStair 72 = .ok (.iconst 1, 1) := bdX6_moveStair_59.2.2.2.2.2.2.2.1
theorem dX6_moveStair_73 : decode cX6_moveStair 73 = .ok (.iadd, 1) := bdX6_moveStair_59.2.2.2.2.2.2.2.2.1
theorem dX6_moveStair_74 : decode cX6_moveStair 74 = .ok (.putfield 238, 3) := bdX6_moveStair_59.2.2.2.2.2.2.2.2.2.1
theorem dX6_moveStair_77 : decode cX6_moveStair 77 = .ok (.return_, 1) := bdX6_moveStair_59.2.2.2.2.2.2.2.2.2.2.1
theorem dX6_moveStair_78 : decode cX6_moveStair 78 = .ok (.iinc 4 (-1), 3) := bdX6_moveStair_59.2.2.2.2.2.2.2.2.2.2.2.1
theorem dX6_moveStair_81 : decode cX6_moveStair 81 = .ok (.goto (-44), 3) := bdX6_moveStair_59.2.2.2.2.2.2.2.2.2.2.2.2.1
theorem dX6_moveStair_84 : decode cX6_moveStair 84 = .ok (.iinc 3 1, 3) := bdX6_moveStair_59.2.2.2.2.2.2.2.2.2.2.2.2.2.1
theorem dX6_moveStair_87 : decode cX6_moveStair 87 = .ok (.goto (-63), 3) := bdX6_moveStair_59.2.2.2.2.2.2.2.2.2.2.2.2.2.2.1
theorem dX6_moveStair_90 : decode cX6_moveStair 90 = .ok (.return_, 1) := bdX6_moveStair_59.2.2.2.2.2.2.2.2.2.2.2.2.2.2.2
theorem bdX6_moveFixed_0 : (decode cX6_moveFixed 0 = .ok (.aload_n 2, 1)) ∧ (decode cX6_moveFixed 1 = .ok (.getfield 225, 3)) ∧ (decode cX6_moveFixed 4 = .ok (.ifCond .eq 10, 3)) ∧ (decode cX6_moveFixed 7 = .ok (.aload_n 2, 1)) ∧ (decode cX6_moveFixed 8 = .ok (.getfield 148, 3)) ∧ (decode cX6_moveFixed 11 = .ok (.ifCond .ne 4, 3)) ∧ (decode cX6_moveFixed 14 = .ok (.return_, 1)) ∧ (decode cX6_moveFixed 15 = .ok (.iconst 0, 1)) ∧ (decode cX6_moveFixed 16 = .ok (.istore_n 3, 1)) ∧ (decode cX6_moveFixed 17 = .ok (.iload_n 3, 1)) ∧ (decode cX6_moveFixed 18 = .ok (.iconst 2, 1)) ∧ (decode cX6_moveFixed 19 = .ok (.if_icmp .ge 56, 3)) ∧ (decode cX6_moveFixed 22 = .ok (.aload_n 0, 1)) ∧ (decode cX6_moveFixed 23 = .ok (.aload_n 1, 1)) ∧ (decode cX6_moveFixed 24 = .ok (.aload_n 2, 1)) ∧ (decode cX6_moveFixed 25 = .ok (.iload_n 3, 1)) := by decide +kernel
theorem dX6_moveFixed_0 : decode cX6_moveFixed 0 = .ok (.aload_n 2, 1) := bdX6_moveFixed_0.1
theorem dX6_moveFixed_1 : decode cX6_moveFixed 1 = .ok (.getfield 225, 3) := bdX6_moveFixed_0.2.1
theorem dX6_moveFixed_4 : decode cX6_moveFixed 4 = .ok (.ifCond .eq 10, 3) := bdX6_moveFixed_0.2.2.1
theorem dX6_moveFixed_7 : decode cX6_moveFixed 7 = .ok (.aload_n 2, 1) := bdX6_moveFixed_0.2.2.2.1
theorem dX6_moveFixed_8 : decode cX6_moveFixed 8 = .ok (.getfield 148, 3) := bdX6_moveFixed_0.2.2.2.2.1
theorem dX6_moveFixed_11 : decode cX6_moveFixed 11 = .ok (.ifCond .ne 4, 3) := bdX6_moveFixed_0.2.2.2.2.2.1
theorem dX6_moveFixed_14 : decode cX6_moveFixed 14 = .ok (.return_, 1) := bdX6_moveFixed_0.2.2.2.2.2.2.1
theorem dX6_moveFixed_15 : decode cX6_moveFixed 15 = .ok (.iconst 0, 1) := bdX6_moveFixed_0.2.2.2.2.2.2.2.1
theorem dX6_moveFixed_16 : decode cX6_moveFixed 16 = .ok (.istore_n 3, 1) := bdX6_moveFixed_0.2.2.2.2.2.2.2.2.1
theorem dX6_moveFixed_17 : decode cX6_moveFixed 17 = .ok (.iload_n 3, 1) := bdX6_moveFixed_0.2.2.2.2.2.2.2.2.2.1
theorem dX6_moveFixed_18 : decode cX6_moveFixed 18 = .ok (.iconst 2, 1) := bdX6_moveFixed_0.2.2.2.2.2.2.2.2.2.2.1
theorem dX6_moveFixed_19 : decode cX6_moveFixed 19 = .ok (.if_icmp .ge 56, 3) := bdX6_moveFixed_0.2.2.2.2.2.2.2.2.2.2.2.1
theorem dX6_moveFixed_22 : decode cX6_moveFixed 22 = .ok (.aload_n 0, 1) := bdX6_moveFixed_0.2.2.2.2.2.2.2.2.2.2.2.2.1
theorem dX6_moveFixed_23 : decode cX6_moveFixed 23 = .ok (.aload_n 1, 1) := bdX6_moveFixed_0.2.2.2.2.2.2.2.2.2.2.2.2.2.1
theorem dX6_moveFixed_24 : decode cX6_moveFixed 24 = .ok (.aload_n 2, 1) := bdX6_moveFixed_0.2.2.2.2.2.2.2.2.2.2.2.2.2.2.1
theorem dX6_moveFixed_25 : decode cX6_moveFixed 25 = .ok (.iload_n 3, 1) := bdX6_moveFixed_0.2.2.2.2.2.2.2.2.2.2.2.2.2.2.2
theorem bdX6_moveFixed_26 : (decode cX6_moveFixed 26 = .ok (.invokevirtual 234, 3)) ∧ (decode cX6_moveFixed 29 = .ok (.pop, 1)) ∧ (decode cX6_moveFixed 30 = .ok (.aload_n 2, 1)) ∧ (decode cX6_moveFixed 31 = .ok (.getfield 189, 3)) ∧ (decode cX6_moveFixed 34 = .ok (.iconst 2, 1)) ∧ (decode cX6_moveFixed 35 = .ok (.isub, 1)) ∧ (decode cX6_moveFixed 36 = .ok (.istore 4, 2)) ∧ (decode cX6_moveFixed 38 = .ok (.iload 4, 2)) ∧ (decode cX6_moveFixed 40 = .ok (.ifCond .lt 29, 3)) ∧ (decode cX6_moveFixed 43 = .ok (.aload_n 2, 1)) ∧ (decode cX6_moveFixed 44 = .ok (.iload_n 3, 1)) ∧ (decode cX6_moveFixed 45 = .ok (.iload 4, 2)) ∧ (decode cX6_moveFixed 47 = .ok (.iconst 1, 1)) ∧ (decode cX6_moveFixed 48 = .ok (.iadd, 1)) ∧ (decode cX6_moveFixed 49 = .ok (.invokevirtual 241, 3)) ∧ (decode cX6_moveFixed 52 = .ok (.iconst (-1), 1)) := by decide +kernel
theorem dX6_moveFixed_26 : decode cX6_moveFixed 26 = .ok (.invokevirtual 234, 3) := bdX6_moveFixed_26.1
theorem dX6_moveFixed_29 : decode cX6_moveFixed 29 = .ok (.pop, 1) := bdX6_moveFixed_26.2.1
theorem dX6_moveFixed_30 : decode cX6_moveFixed 30 = .ok (.aload_n 2, 1) := bdX6_moveFixed_26.2.2.1
theorem dX6_moveFixed_31 : decode cX6_moveFixed 31 = .ok (.getfield 189, 3) := bdX6_moveFixed_26.2.2.2.1
theorem dX6_moveFixed_34 : decode cX6_moveFixed 34 = .ok (.iconst 2, 1) := bdX6_moveFixed_26.2.2.2.2.1
theorem dX6_moveFixed_35 : decode cX6_moveFixed 35 = .ok (.isub, 1) := bdX6_moveFixed_26.2.2.2.2.2.1
theorem dX6_moveFixed_36 : decode cX6_moveFixed 36 = .ok (.istore 4, 2) := bdX6_moveFixed_26.2.2.2.2.2.2.1
theorem dX6_moveFixed_38 : decode cX6_moveFixed 38 = .ok (.iload 4, 2) := bdX6_moveFixed_26.2.2.2.2.2.2.2.1
theorem dX6_moveFixed_40 : decode cX6_moveFixed 40 = .ok (.ifCond .lt 29, 3) := bdX6_moveFixed_26.2.2.2.2.2.2.2.2.1
theorem dX6_moveFixed_43 : decode cX6_moveFixed 43 = .ok (.aload_n 2, 1) := bdX6_moveFixed_26.2.2.2.2.2.2.2.2.2.1
theorem dX6_moveFixed_44 : decode cX6_moveFixed 44 = .ok (.iload_n 3, 1) := bdX6_moveFixed_26.2.2.2.2.2.2.2.2.2.2.1
theorem dX6_moveFixed_45 : decode cX6_moveFixed 45 = .ok (.iload 4, 2) := bdX6_moveFixed_26.2.2.2.2.2.2.2.2.2.2.2.1
theorem dX6_moveFixed_47 : decode cX6_moveFixed 47 = .ok (.iconst 1, 1) := bdX6_moveFixed_26.2.2.2.2.2.2.2.2.2.2.2.2.1
theorem dX6_moveFixed_48 : decode cX6_moveFixed 48 = .ok (.iadd, 1) := bdX6_moveFixed_26.2.2.2.2.2.2.2.2.2.2.2.2.2.1
theorem dX6_moveFixed_49 : decode cX6_moveFixed 49 = .ok (.invokevirtual 241, 3) := bdX6_moveFixed_26.2.2.2.2.2.2.2.2.2.2.2.2.2.2.1
theorem dX6_moveFixed_52 : decode cX6_moveFixed 52 = .ok (.iconst (-1), 1) := bdX6_moveFixed_26.2.2.2.2.2.2.2.2.2.2.2.2.2.2.2
theorem bdX6_moveFixed_53 : (decode cX6_moveFixed 53 = .ok (.if_icmp .ne 10, 3)) ∧ (decode cX6_moveFixed 56 = .ok (.aload_n 2, 1)) ∧ (decode cX6_moveFixed 57 = .ok (.iload_n 3, 1)) ∧ (decode cX6_moveFixed 58 = .ok (.iload 4, 2)) ∧ (decode cX6_moveFixed 60 = .ok (.invokevirtual 250, 3)) ∧ (decode cX6_moveFixed 63 = .ok (.iinc 4 (-1), 3)) ∧ (decode cX6_moveFixed 66 = .ok (.goto (-28), 3)) ∧ (decode cX6_moveFixed 69 = .ok (.iinc 3 1, 3)) ∧ (decode cX6_moveFixed 72 = .ok (.goto (-55), 3)) ∧ (decode cX6_moveFixed 75 = .ok (.return_, 1)) := by decide +kernel
theorem dX6_moveFixed_53 : decode cX6_moveFixed 53 = .ok (.if_icmp .ne 10, 3) := bdX6_moveFixed_53.1
theorem dX6_moveFixed_56 : decode cX6_moveFixed 56 = .ok (.aload_n 2, 1) := bdX6_moveFixed_53.2.1
theorem dX6_moveFixed_57 : decode cX6_moveFixed 57 = .ok (.iload_n 3, 1) := bdX6_moveFixed_53.2.2.1
theorem dX6_moveFixed_58 : decode cX6_moveFixed 58 = .ok (.iload 4, 2) := bdX6_moveFixed_53.2.2.2.1
theorem dX6_moveFixed_60 : decode cX6_moveFixed 60 = .ok (.invokevirtual 250, 3) := bdX6_moveFixed_53.2.2.2.2.1
theorem dX6_moveFixed_63 : decode cX6_moveFixed 63 = .ok (.iinc 4 (-1), 3) := bdX6_moveFixed_53.2.2.2.2.2.1
theorem dX6_moveFixed_66 : decode cX6_moveFixed 66 = .ok (.goto (-28), 3) := bdX6_moveFixed_53.2.2.2.2.2.2.1
theorem dX6_moveFixed_69 : decode cX6_moveFixed 69 = .ok (.iinc 3 1, 3) := bdX6_moveFixed_53.2.2.2.2.2.2.2.1
theorem dX6_moveFixed_72 : decode cX6_moveFixed 72 = .ok (.goto (-55), 3) := bdX6_moveFixed_53.2.2.2.2.2.2.2.2.1
theorem dX6_moveFixed_75 : decode cX6_moveFixed 75 = .ok (.return_, 1) := bdX6_moveFixed_53.2.2.2.2.2.2.2.2.2
theorem bdX3_sideFor_0 : (decode cX3_sideFor 0 = .ok (.iload_n 2, 1)) ∧ (decode cX3_sideFor 1 = .ok (.ifCond .eq 29, 3)) ∧ (decode cX3_sideFor 4 = .ok (.iload_n 1, 1)) ∧ (decode cX3_sideFor 5 = .ok (.ifCond .eq 7, 3)) ∧ (decode cX3_sideFor 8 = .ok (.iconst 1, 1)) ∧ (decode cX3_sideFor 9 = .ok (.goto 4, 3)) ∧ (decode cX3_sideFor 12 = .ok (.iconst 0, 1)) ∧ (decode cX3_sideFor 13 = .ok (.istore_n 3, 1)) ∧ (decode cX3_sideFor 14 = .ok (.aload_n 0, 1)) ∧ (decode cX3_sideFor 15 = .ok (.iload_n 3, 1)) ∧ (decode cX3_sideFor 16 = .ok (.iconst 0, 1)) ∧ (decode cX3_sideFor 17 = .ok (.invokevirtual 68, 3)) ∧ (decode cX3_sideFor 20 = .ok (.iconst (-1), 1)) ∧ (decode cX3_sideFor 21 = .ok (.if_icmp .ne 7, 3)) ∧ (decode cX3_sideFor 24 = .ok (.iload_n 3, 1)) ∧ (decode cX3_sideFor 25 = .ok (.goto 4, 3)) := by decide +kernel
theorem dX3_sideFor_0 : decode cX3_sideFor 0 = .ok (.iload_n 2, 1) := bdX3_sideFor_0.1
theorem dX3_sideFor_1 : decode cX3_sideFor 1 = .ok (.ifCond .eq 29, 3) := bdX3_sideFor_0.2.1
theorem dX3_sideFor_4 : decode cX3_sideFor 4 = .ok (.iload_n 1, 1) := bdX3_sideFor_0.2.2.1
theorem dX3_sideFor_5 : decode cX3_sideFor 5 = .ok (.ifCond .eq 7, 3) := bdX3_sideFor_0.2.2.2.1
theorem dX3_sideFor_8 : decode cX3_sideFor 8 = .ok (.iconst 1, 1) := bdX3_sideFor_0.2.2.2.2.1
theorem dX3_sideFor_9 : decode cX3_sideFor 9 = .ok (.goto 4, 3) := bdX3_sideFor_0.2.2.2.2.2.1
theorem dX3_sideFor_12 : decode cX3_sideFor 12 = .ok (.iconst 0, 1) := bdX3_sideFor_0.2.2.2.2.2.2.1
theorem dX3_sideFor_13 : decode cX3_sideFor 13 = .ok (.istore_n 3, 1) := bdX3_sideFor_0.2.2.2.2.2.2.2.1
theorem dX3_sideFor_14 : decode cX3_sideFor 14 = .ok (.aload_n 0, 1) := bdX3_sideFor_0.2.2.2.2.2.2.2.2.1
theorem dX3_sideFor_15 : decode cX3_sideFor 15 = .ok (.iload_n 3, 1) := bdX3_sideFor_0.2.2.2.2.2.2.2.2.2.1
theorem dX3_sideFor_16 : decode cX3_sideFor 16 = .ok (.iconst 0, 1) := bdX3_sideFor_0.2.2.2.2.2.2.2.2.2.2.1
theorem dX3_sideFor_17 : decode cX3_sideFor 17 = .ok (.invokevirtual 68, 3) := bdX3_sideFor_0.2.2.2.2.2.2.2.2.2.2.2.1
theorem dX3_sideFor_20 : decode cX3_sideFor 20 = .ok (.iconst (-1), 1) := bdX3_sideFor_0.2.2.2.2.2.2.2.2.2.2.2.2.1
theorem dX3_sideFor_21 : decode cX3_sideFor 21 = .ok (.if_icmp .ne 7, 3) := bdX3_sideFor_0.2.2.2.2.2.2.2.2.2.2.2.2.2.1
theorem dX3_sideFor_24 : decode cX3_sideFor 24 = .ok (.iload_n 3, 1) := bdX3_sideFor_0.2.2.2.2.2.2.2.2.2.2.2.2.2.2.1
theorem dX3_sideFor_25 : decode cX3_sideFor 25 = .ok (.goto 4, 3) := bdX3_sideFor_0.2.2.2.2.2.2.2.2.2.2.2.2.2.2.2
theorem bdX3_sideFor_28 : (decode cX3_sideFor 28 = .ok (.iconst (-1), 1)) ∧ (decode cX3_sideFor 29 = .ok (.ireturn, 1)) ∧ (decode cX3_sideFor 30 = .ok (.aload_n 0, 1)) ∧ (decode cX3_sideFor 31 = .ok (.iconst 0, 1)) ∧ (decode cX3_sideFor 32 = .ok (.iconst 0, 1)) ∧ (decode cX3_sideFor 33 = .ok (.invokevirtual 68, 3)) ∧ (decode cX3_sideFor 36 = .ok (.iconst (-1), 1)) ∧ (decode cX3_sideFor 37 = .ok (.if_icmp .ne 5, 3)) ∧ (decode cX3_sideFor 40 = .ok (.iconst 0, 1)) ∧ (decode cX3_sideFor 41 = .ok (.ireturn, 1)) ∧ (decode cX3_sideFor 42 = .ok (.aload_n 0, 1)) ∧ (decode cX3_sideFor 43 = .ok (.iconst 1, 1)) ∧ (decode cX3_sideFor 44 = .ok (.iconst 0, 1)) ∧ (decode cX3_sideFor 45 = .ok (.invokevirtual 68, 3)) ∧ (decode cX3_sideFor 48 = .ok (.iconst (-1), 1)) ∧ (decode cX3_sideFor 49 = .ok (.if_icmp .ne 7, 3)) := by decide +kernel
theorem dX3_sideFor_28 : decode cX3_sideFor 28 = .ok (.iconst (-1), 1) := bdX3_sideFor_28.1
theorem dX3_sideFor_29 : decode cX3_sideFor 29 = .ok (.ireturn, 1) := bdX3_sideFor_28.2.1
theorem dX3_sideFor_30 : decode cX3_sideFor 30 = .ok (.aload_n 0, 1) := bdX3_sideFor_28.2.2.1
theorem dX3_sideFor_31 : decode cX3_sideFor 31 = .ok (.iconst 0, 1) := bdX3_sideFor_28.2.2.2.1
theorem dX3_sideFor_32 : decode cX3_sideFor 32 = .ok (.iconst 0, 1) := bdX3_sideFor_28.2.2.2.2.1
theorem dX3_sideFor_33 : decode cX3_sideFor 33 = .ok (.invokevirtual 68, 3) := bdX3_sideFor_28.2.2.2.2.2.1
theorem dX3_sideFor_36 : decode cX3_sideFor 36 = .ok (.iconst (-1), 1) := bdX3_sideFor_28.2.2.2.2.2.2.1
theorem dX3_sideFor_37 : decode cX3_sideFor 37 = .ok (.if_icmp .ne 5, 3) := bdX3_sideFor_28.2.2.2.2.2.2.2.1
theorem dX3_sideFor_40 : decode cX3_sideFor 40 = .ok (.iconst 0, 1) := bdX3_sideFor_28.2.2.2.2.2.2.2.2.1
theorem dX3_sideFor_41 : decode cX3_sideFor 41 = .ok (.ireturn, 1) := bdX3_sideFor_28.2.2.2.2.2.2.2.2.2.1
theorem dX3_sideFor_42 : decode cX3_sideFor 42 = .ok (.aload_n 0, 1) := bdX3_sideFor_28.2.2.2.2.2.2.2.2.2.2.1
theorem dX3_sideFor_43 : decode cX3_sideFor 43 = .ok (.iconst 1, 1) := bdX3_sideFor_28.2.2.2.2.2.2.2.2.2.2.2.1
theorem dX3_sideFor_44 : decode cX3_sideFor 44 = .ok (.iconst 0, 1) := bdX3_sideFor_28.2.2.2.2.2.2.2.2.2.2.2.2.1
theorem dX3_sideFor_45 : decode cX3_sideFor 45 = .ok (.invokevirtual 68, 3) := bdX3_sideFor_28.2.2.2.2.2.2.2.2.2.2.2.2.2.1
theorem dX3_sideFor_48 : decode cX3_sideFor 48 = .ok (.iconst (-1), 1) := bdX3_sideFor_28.2.2.2.2.2.2.2.2.2.2.2.2.2.2.1
theorem dX3_sideFor_49 : decode cX3_sideFor 49 = .ok (.if_icmp .ne 7, 3) := bdX3_sideFor_28.2.2.2.2.2.2.2.2.2.2.2.2.2.2.2
theorem bdX3_sideFor_52 : (decode cX3_sideFor 52 = .ok (.iconst 1, 1)) ∧ (decode cX3_sideFor 53 = .ok (.goto 4, 3)) ∧ (decode cX3_sideFor 56 = .ok (.iconst (-1), 1)) ∧ (decode cX3_sideFor 57 = .ok (.ireturn, 1)) := by decide +kernel
theorem dX3_sideFor_52 : decode cX3_sideFor 52 = .ok (.iconst 1, 1) := bdX3_sideFor_52.1
theorem dX3_sideFor_53 : decode cX3_sideFor 53 = .ok (.goto 4, 3) := bdX3_sideFor_52.2.1
theorem dX3_sideFor_56 : decode cX3_sideFor 56 = .ok (.iconst (-1), 1) := bdX3_sideFor_52.2.2.1
theorem dX3_sideFor_57 : decode cX3_sideFor 57 = .ok (.ireturn, 1) := bdX3_sideFor_52.2.2.2
theorem bdX6_takeUpToTwo_0 : (decode cX6_takeUpToTwo 0 = .ok (.aload_n 1, 1)) ∧ (decode cX6_takeUpToTwo 1 = .ok (.iload_n 2, 1)) ∧ (decode cX6_takeUpToTwo 2 = .ok (.invokevirtual 254, 3)) ∧ (decode cX6_takeUpToTwo 5 = .ok (.ifCond .eq 31, 3)) ∧ (decode cX6_takeUpToTwo 8 = .ok (.aload_n 1, 1)) ∧ (decode cX6_takeUpToTwo 9 = .ok (.getfield 144, 3)) ∧ (decode cX6_takeUpToTwo 12 = .ok (.iload_n 2, 1)) ∧ (decode cX6_takeUpToTwo 13 = .ok (.aaload, 1)) ∧ (decode cX6_takeUpToTwo 14 = .ok (.invokevirtual 257, 3)) ∧ (decode cX6_takeUpToTwo 17 = .ok (.ifCond .eq 19, 3)) ∧ (decode cX6_takeUpToTwo 20 = .ok (.aload_n 1, 1)) ∧ (decode cX6_takeUpToTwo 21 = .ok (.aload_n 1, 1)) ∧ (decode cX6_takeUpToTwo 22 = .ok (.getfield 144, 3)) ∧ (decode cX6_takeUpToTwo 25 = .ok (.iload_n 2, 1)) ∧ (decode cX6_takeUpToTwo 26 = .ok (.aaload, 1)) ∧ (decode cX6_takeUpToTwo 27 = .ok (.invokevirtual 217, 3)) := by decide +kernel
theorem dX6_takeUpToTwo_0 : decode cX6_takeUpToTwo 0 = .ok (.aload_n 1, 1) := bdX6_takeUpToTwo_0.1
theorem dX6_takeUpToTwo_1 : decode cX6_takeUpToTwo 1 = .ok (.iload_n 2, 1) := bdX6_takeUpToTwo_0.2.1
theorem dX6_takeUpToTwo_2 : decode cX6_takeUpToTwo 2 = .ok (.invokevirtual 254, 3) := bdX6_takeUpToTwo_0.2.2.1
theorem dX6_takeUpToTwo_5 : decode cX6_takeUpToTwo 5 = .ok (.ifCond .eq 31, 3) := bdX6_takeUpToTwo_0.2.2.2.1
theorem dX6_takeUpToTwo_8 : decode cX6_takeUpToTwo 8 = .ok (.aload_n 1, 1) := bdX6_takeUpToTwo_0.2.2.2.2.1
theorem dX6_takeUpToTwo_9 : decode cX6_takeUpToTwo 9 = .ok (.getfield 144, 3) := bdX6_takeUpToTwo_0.2.2.2.2.2.1
theorem dX6_takeUpToTwo_12 : decode cX6_takeUpToTwo 12 = .ok (.iload_n 2, 1) := bdX6_takeUpToTwo_0.2.2.2.2.2.2.1
theorem dX6_takeUpToTwo_13 : decode cX6_takeUpToTwo 13 = .ok (.aaload, 1) := bdX6_takeUpToTwo_0.2.2.2.2.2.2.2.1
theorem dX6_takeUpToTwo_14 : decode cX6_takeUpToTwo 14 = .ok (.invokevirtual 257, 3) := bdX6_takeUpToTwo_0.2.2.2.2.2.2.2.2.1
theorem dX6_takeUpToTwo_17 : decode cX6_takeUpToTwo 17 = .ok (.ifCond .eq 19, 3) := bdX6_takeUpToTwo_0.2.2.2.2.2.2.2.2.2.1
theorem dX6_takeUpToTwo_20 : decode cX6_takeUpToTwo 20 = .ok (.aload_n 1, 1) := bdX6_takeUpToTwo_0.2.2.2.2.2.2.2.2.2.2.1
theorem dX6_takeUpToTwo_21 : decode cX6_takeUpToTwo 21 = .ok (.aload_n 1, 1) := bdX6_takeUpToTwo_0.2.2.2.2.2.2.2.2.2.2.2.1
theorem dX6_takeUpToTwo_22 : decode cX6_takeUpToTwo 22 = .ok (.getfield 144, 3) := bdX6_takeUpToTwo_0.2.2.2.2.2.2.2.2.2.2.2.2.1
theorem dX6_takeUpToTwo_25 : decode cX6_takeUpToTwo 25 = .ok (.iload_n 2, 1) := bdX6_takeUpToTwo_0.2.2.2.2.2.2.2.2.2.2.2.2.2.1
theorem dX6_takeUpToTwo_26 : decode cX6_takeUpToTwo 26 = .ok (.aaload, 1) := bdX6_takeUpToTwo_0.2.2.2.2.2.2.2.2.2.2.2.2.2.2.1
theorem dX6_takeUpToTwo_27 : decode cX6_takeUpToTwo 27 = .ok (.invokevirtual 217, 3) := bdX6_takeUpToTwo_0.2.2.2.2.2.2.2.2.2.2.2.2.2.2.2
theorem bdX6_takeUpToTwo_30 : (decode cX6_takeUpToTwo 30 = .ok (.invokevirtual 69, 3)) ∧ (decode cX6_takeUpToTwo 33 = .ok (.ifCond .ne 4, 3)) ∧ (decode cX6_takeUpToTwo 36 = .ok (.return_, 1)) ∧ (decode cX6_takeUpToTwo 37 = .ok (.aload_n 1, 1)) ∧ (decode cX6_takeUpToTwo 38 = .ok (.getfield 144, 3)) ∧ (decode cX6_takeUpToTwo 41 = .ok (.iload_n 2, 1)) ∧ (decode cX6_takeUpToTwo 42 = .ok (.aaload, 1)) ∧ (decode cX6_takeUpToTwo 43 = .ok (.astore 4, 2)) ∧ (decode cX6_takeUpToTwo 45 = .ok (.aload 4, 2)) ∧ (decode cX6_takeUpToTwo 47 = .ok (.getfield 157, 3)) ∧ (decode cX6_takeUpToTwo 50 = .ok (.ifCond .ne 15, 3)) ∧ (decode cX6_takeUpToTwo 53 = .ok (.aload 4, 2)) ∧ (decode cX6_takeUpToTwo 55 = .ok (.getfield 214, 3)) ∧ (decode cX6_takeUpToTwo 58 = .ok (.ifCond .ne 7, 3)) ∧ (decode cX6_takeUpToTwo 61 = .ok (.iconst 1, 1)) ∧ (decode cX6_takeUpToTwo 62 = .ok (.goto 4, 3)) := by decide +kernel
theorem dX6_takeUpToTwo_30 : decode cX6_takeUpToTwo 30 = .ok (.invokevirtual 69, 3) := bdX6_takeUpToTwo_30.1
theorem dX6_takeUpToTwo_33 : decode cX6_takeUpToTwo 33 = .ok (.ifCond .ne 4, 3) := bdX6_takeUpToTwo_30.2.1
theorem dX6_takeUpToTwo_36 : decode cX6_takeUpToTwo 36 = .ok (.return_, 1) := bdX6_takeUpToTwo_30.2.2.1
theorem dX6_takeUpToTwo_37 : decode cX6_takeUpToTwo 37 = .ok (.aload_n 1, 1) := bdX6_takeUpToTwo_30.2.2.2.1
theorem dX6_takeUpToTwo_38 : decode cX6_takeUpToTwo 38 = .ok (.getfield 144, 3) := bdX6_takeUpToTwo_30.2.2.2.2.1
theorem dX6_takeUpToTwo_41 : decode cX6_takeUpToTwo 41 = .ok (.iload_n 2, 1) := bdX6_takeUpToTwo_30.2.2.2.2.2.1
theorem dX6_takeUpToTwo_42 : decode cX6_takeUpToTwo 42 = .ok (.aaload, 1) := bdX6_takeUpToTwo_30.2.2.2.2.2.2.1
theorem dX6_takeUpToTwo_43 : decode cX6_takeUpToTwo 43 = .ok (.astore 4, 2) := bdX6_takeUpToTwo_30.2.2.2.2.2.2.2.1
theorem dX6_takeUpToTwo_45 : decode cX6_takeUpToTwo 45 = .ok (.aload 4, 2) := bdX6_takeUpToTwo_30.2.2.2.2.2.2.2.2.1
theorem dX6_takeUpToTwo_47 : decode cX6_takeUpToTwo 47 = .ok (.getfield 157, 3) := bdX6_takeUpToTwo_30.2.2.2.2.2.2.2.2.2.1
theorem dX6_takeUpToTwo_50 : decode cX6_takeUpToTwo 50 = .ok (.ifCond .ne 15, 3) := bdX6_takeUpToTwo_30.2.2.2.2.2.2.2.2.2.2.1
theorem dX6_takeUpToTwo_53 : decode cX6_takeUpToTwo 53 = .ok (.aload 4, 2) := bdX6_takeUpToTwo_30.2.2.2.2.2.2.2.2.2.2.2.1
theorem dX6_takeUpToTwo_55 : decode cX6_takeUpToTwo 55 = .ok (.getfield 214, 3) := bdX6_takeUpToTwo_30.2.2.2.2.2.2.2.2.2.2.2.2.1
theorem dX6_takeUpToTwo_58 : decode cX6_takeUpToTwo 58 = .ok (.ifCond .ne 7, 3) := bdX6_takeUpToTwo_30.2.2.2.2.2.2.2.2.2.2.2.2.2.1
theorem dX6_takeUpToTwo_61 : decode cX6_takeUpToTwo 61 = .ok (.iconst 1, 1) := bdX6_takeUpToTwo_30.2.2.2.2.2.2.2.2.2.2.2.2.2.2.1
theorem dX6_takeUpToTwo_62 : decode cX6_takeUpToTwo 62 = .ok (.goto 4, 3) := bdX6_takeUpToTwo_30.2.2.2.2.2.2.2.2.2.2.2.2.2.2.2
theorem bdX6_takeUpToTwo_65 : (decode cX6_takeUpToTwo 65 = .ok (.iconst 0, 1)) ∧ (decode cX6_takeUpToTwo 66 = .ok (.istore 5, 2)) ∧ (decode cX6_takeUpToTwo 68 = .ok (.iconst 0, 1)) ∧ (decode cX6_takeUpToTwo 69 = .ok (.istore 6, 2)) ∧ (decode cX6_takeUpToTwo 71 = .ok (.iload 6, 2)) ∧ (decode cX6_takeUpToTwo 73 = .ok (.iconst 2, 1)) ∧ (decode cX6_takeUpToTwo 74 = .ok (.if_icmp .ge 147, 3)) ∧ (decode cX6_takeUpToTwo 77 = .ok (.aload_n 0, 1)) ∧ (decode cX6_takeUpToTwo 78 = .ok (.aload_n 1, 1)) ∧ (decode cX6_takeUpToTwo 79 = .ok (.iload_n 2, 1)) ∧ (decode cX6_takeUpToTwo 80 = .ok (.aload 4, 2)) ∧ (decode cX6_takeUpToTwo 82 = .ok (.invokevirtual 217, 3)) ∧ (decode cX6_takeUpToTwo 85 = .ok (.iconst 0, 1)) ∧ (decode cX6_takeUpToTwo 86 = .ok (.invokevirtual 190, 3)) ∧ (decode cX6_takeUpToTwo 89 = .ok (.istore 7, 2)) ∧ (decode cX6_takeUpToTwo 91 = .ok (.aload 4, 2)) := by decide +kernel
theorem dX6_takeUpToTwo_65 : decode cX6_takeUpToTwo 65 = .ok (.iconst 0, 1) := bdX6_takeUpToTwo_65.1
theorem dX6_takeUpToTwo_66 : decode cX6_takeUpToTwo 66 = .ok (.istore 5, 2) := bdX6_takeUpToTwo_65.2.1
theorem dX6_takeUpToTwo_68 : decode cX6_takeUpToTwo 68 = .ok (.iconst 0, 1) := bdX6_takeUpToTwo_65.2.2.1
theorem dX6_takeUpToTwo_69 : decode cX6_takeUpToTwo 69 = .ok (.istore 6, 2) := bdX6_takeUpToTwo_65.2.2.2.1
theorem dX6_takeUpToTwo_71 : decode cX6_takeUpToTwo 71 = .ok (.iload 6, 2) := bdX6_takeUpToTwo_65.2.2.2.2.1
theorem dX6_takeUpToTwo_73 : decode cX6_takeUpToTwo 73 = .ok (.iconst 2, 1) := bdX6_takeUpToTwo_65.2.2.2.2.2.1
theorem dX6_takeUpToTwo_74 : decode cX6_takeUpToTwo 74 = .ok (.if_icmp .ge 147, 3) := bdX6_takeUpToTwo_65.2.2.2.2.2.2.1
theorem dX6_takeUpToTwo_77 : decode cX6_takeUpToTwo 77 = .ok (.aload_n 0, 1) := bdX6_takeUpToTwo_65.2.2.2.2.2.2.2.1
theorem dX6_takeUpToTwo_78 : decode cX6_takeUpToTwo 78 = .ok (.aload_n 1, 1) := bdX6_takeUpToTwo_65.2.2.2.2.2.2.2.2.1
theorem dX6_takeUpToTwo_79 : decode cX6_takeUpToTwo 79 = .ok (.iload_n 2, 1) := bdX6_takeUpToTwo_65.2.2.2.2.2.2.2.2.2.1
theorem dX6_takeUpToTwo_80 : decode cX6_takeUpToTwo 80 = .ok (.aload 4, 2) := bdX6_takeUpToTwo_65.2.2.2.2.2.2.2.2.2.2.1
theorem dX6_takeUpToTwo_82 : decode cX6_takeUpToTwo 82 = .ok (.invokevirtual 217, 3) := bdX6_takeUpToTwo_65.2.2.2.2.2.2.2.2.2.2.2.1
theorem dX6_takeUpToTwo_85 : decode cX6_takeUpToTwo 85 = .ok (.iconst 0, 1) := bdX6_takeUpToTwo_65.2.2.2.2.2.2.2.2.2.2.2.2.1
theorem dX6_takeUpToTwo_86 : decode cX6_takeUpToTwo 86 = .ok (.invokevirtual 190, 3) := bdX6_takeUpToTwo_65.2.2.2.2.2.2.2.2.2.2.2.2.2.1
theorem dX6_takeUpToTwo_89 : decode cX6_takeUpToTwo 89 = .ok (.istore 7, 2) := bdX6_takeUpToTwo_65.2.2.2.2.2.2.2.2.2.2.2.2.2.2.1
theorem dX6_takeUpToTwo_91 : decode cX6_takeUpToTwo 91 = .ok (.aload 4, 2) := bdX6_takeUpToTwo_65.2.2.2.2.2.2.2.2.2.2.2.2.2.2.2
theorem bdX6_takeUpToTwo_93 : (decode cX6_takeUpToTwo 93 = .ok (.getfield 201, 3)) ∧ (decode cX6_takeUpToTwo 96 = .ok (.istore 8, 2)) ∧ (decode cX6_takeUpToTwo 98 = .ok (.iload 5, 2)) ∧ (decode cX6_takeUpToTwo 100 = .ok (.ifCond .eq 26, 3)) ∧ (decode cX6_takeUpToTwo 103 = .ok (.iload_n 3, 1)) ∧ (decode cX6_takeUpToTwo 104 = .ok (.iload 8, 2)) ∧ (decode cX6_takeUpToTwo 106 = .ok (.iconst 1, 1)) ∧ (decode cX6_takeUpToTwo 107 = .ok (.iadd, 1)) ∧ (decode cX6_takeUpToTwo 108 = .ok (.imul, 1)) ∧ (decode cX6_takeUpToTwo 109 = .ok (.bipush 10, 2)) ∧ (decode cX6_takeUpToTwo 111 = .ok (.idiv, 1)) ∧ (decode cX6_takeUpToTwo 112 = .ok (.iload_n 3, 1)) ∧ (decode cX6_takeUpToTwo 113 = .ok (.iload 8, 2)) ∧ (decode cX6_takeUpToTwo 115 = .ok (.imul, 1)) ∧ (decode cX6_takeUpToTwo 116 = .ok (.bipush 10, 2)) ∧ (decode cX6_takeUpToTwo 118 = .ok (.idiv, 1)) := by decide +kernel
theorem dX6_takeUpToTwo_93 : decode cX6_takeUpToTwo 93 = .ok (.getfield 201, 3) := bdX6_takeUpToTwo_93.1
theorem dX6_takeUpToTwo_96 : decode cX6_takeUpToTwo 96 = .ok (.istore 8, 2) := bdX6_takeUpToTwo_93.2.1
theorem dX6_takeUpToTwo_98 : decode cX6_takeUpToTwo 98 = .ok (.iload 5, 2) := bdX6_takeUpToTwo_93.2.2.1
theorem dX6_takeUpToTwo_100 : decode cX6_takeUpToTwo 100 = .ok (.ifCond .eq 26, 3) := bdX6_takeUpToTwo_93.2.2.2.1
theorem dX6_takeUpToTwo_103 : decode cX6_takeUpToTwo 103 = .ok (.iload_n 3, 1) := bdX6_takeUpToTwo_93.2.2.2.2.1
theorem dX6_takeUpToTwo_104 : decode cX6_takeUpToTwo 104 = .ok (.iload 8, 2) := bdX6_takeUpToTwo_93.2.2.2.2.2.1
theorem dX6_takeUpToTwo_106 : decode cX6_takeUpToTwo 106 = .ok (.iconst 1, 1) := bdX6_takeUpToTwo_93.2.2.2.2.2.2.1
theorem dX6_takeUpToTwo_107 : decode cX6_takeUpToTwo 107 = .ok (.iadd, 1) := bdX6_takeUpToTwo_93.2.2.2.2.2.2.2.1
theorem dX6_takeUpToTwo_108 : decode cX6_takeUpToTwo 108 = .ok (.imul, 1) := bdX6_takeUpToTwo_93.2.2.2.2.2.2.2.2.1
theorem dX6_takeUpToTwo_109 : decode cX6_takeUpToTwo 109 = .ok (.bipush 10, 2) := bdX6_takeUpToTwo_93.2.2.2.2.2.2.2.2.2.1
theorem dX6_takeUpToTwo_111 : decode cX6_takeUpToTwo 111 = .ok (.idiv, 1) := bdX6_takeUpToTwo_93.2.2.2.2.2.2.2.2.2.2.1
theorem dX6_takeUpToTwo_112 : decode cX6_takeUpToTwo 112 = .ok (.iload_n 3, 1) := bdX6_takeUpToTwo_93.2.2.2.2.2.2.2.2.2.2.2.1
theorem dX6_takeUpToTwo_113 : decode cX6_takeUpToTwo 113 = .ok (.iload 8, 2) := bdX6_takeUpToTwo_93.2.2.2.2.2.2.2.2.2.2.2.2.1
theorem dX6_takeUpToTwo_115 : decode cX6_takeUpToTwo 115 = .ok (.imul, 1) := bdX6_takeUpToTwo_93.2.2.2.2.2.2.2.2.2.2.2.2.2.1
theorem dX6_takeUpToTwo_116 : decode cX6_takeUpToTwo 116 = .ok (.bipush 10, 2) := bdX6_takeUpToTwo_93.2.2.2.2.2.2.2.2.2.2.2.2.2.2.1
theorem dX6_takeUpToTwo_118 : decode cX6_takeUpToTwo 118 = .ok (.idiv, 1) := bdX6_takeUpToTwo_93.2.2.2.2.2.2.2.2.2.2.2.2.2.2.2
theorem bdX6_takeUpToTwo_119 : (decode cX6_takeUpToTwo 119 = .ok (.if_icmp .le 7, 3)) ∧ (decode cX6_takeUpToTwo 122 = .ok (.iconst 1, 1)) ∧ (decode cX6_takeUpToTwo 123 = .ok (.goto 4, 3)) ∧ (decode cX6_takeUpToTwo 126 = .ok (.iconst 0, 1)) ∧ (decode cX6_takeUpToTwo 127 = .ok (.istore 9, 2)) ∧ (decode cX6_takeUpToTwo 129 = .ok (.aload 4, 2)) ∧ (decode cX6_takeUpToTwo 131 = .ok (.iload 9, 2)) ∧ (decode cX6_takeUpToTwo 133 = .ok (.iload 5, 2)) ∧ (decode cX6_takeUpToTwo 135 = .ok (.invokevirtual 261, 3)) ∧ (decode cX6_takeUpToTwo 138 = .ok (.istore 10, 2)) ∧ (decode cX6_takeUpToTwo 140 = .ok (.iload 7, 2)) ∧ (decode cX6_takeUpToTwo 142 = .ok (.iconst (-1), 1)) ∧ (decode cX6_takeUpToTwo 143 = .ok (.if_icmp .eq 9, 3)) ∧ (decode cX6_takeUpToTwo 146 = .ok (.iload 10, 2)) ∧ (decode cX6_takeUpToTwo 148 = .ok (.iconst (-1), 1)) ∧ (decode cX6_takeUpToTwo 149 = .ok (.if_icmp .ne 4, 3)) := by decide +kernel
theorem dX6_takeUpToTwo_119 : decode cX6_takeUpToTwo 119 = .ok (.if_icmp .le 7, 3) := bdX6_takeUpToTwo_119.1
theorem dX6_takeUpToTwo_122 : decode cX6_takeUpToTwo 122 = .ok (.iconst 1, 1) := bdX6_takeUpToTwo_119.2.1
theorem dX6_takeUpToTwo_123 : decode cX6_takeUpToTwo 123 = .ok (.goto 4, 3) := bdX6_takeUpToTwo_119.2.2.1
theorem dX6_takeUpToTwo_126 : decode cX6_takeUpToTwo 126 = .ok (.iconst 0, 1) := bdX6_takeUpToTwo_119.2.2.2.1
theorem dX6_takeUpToTwo_127 : decode cX6_takeUpToTwo 127 = .ok (.istore 9, 2) := bdX6_takeUpToTwo_119.2.2.2.2.1
theorem dX6_takeUpToTwo_129 : decode cX6_takeUpToTwo 129 = .ok (.aload 4, 2) := bdX6_takeUpToTwo_119.2.2.2.2.2.1
theorem dX6_takeUpToTwo_131 : decode cX6_takeUpToTwo 131 = .ok (.iload 9, 2) := bdX6_takeUpToTwo_119.2.2.2.2.2.2.1
theorem dX6_takeUpToTwo_133 : decode cX6_takeUpToTwo 133 = .ok (.iload 5, 2) := bdX6_takeUpToTwo_119.2.2.2.2.2.2.2.1
theorem dX6_takeUpToTwo_135 : decode cX6_takeUpToTwo 135 = .ok (.invokevirtual 261, 3) := bdX6_takeUpToTwo_119.2.2.2.2.2.2.2.2.1
theorem dX6_takeUpToTwo_138 : decode cX6_takeUpToTwo 138 = .ok (.istore 10, 2) := bdX6_takeUpToTwo_119.2.2.2.2.2.2.2.2.2.1
theorem dX6_takeUpToTwo_140 : decode cX6_takeUpToTwo 140 = .ok (.iload 7, 2) := bdX6_takeUpToTwo_119.2.2.2.2.2.2.2.2.2.2.1
theorem dX6_takeUpToTwo_142 : decode cX6_takeUpToTwo 142 = .ok (.iconst (-1), 1) := bdX6_takeUpToTwo_119.2.2.2.2.2.2.2.2.2.2.2.1
theorem dX6_takeUpToTwo_143 : decode cX6_takeUpToTwo 143 = .ok (.if_icmp .eq 9, 3) := bdX6_takeUpToTwo_119.2.2.2.2.2.2.2.2.2.2.2.2.1
theorem dX6_takeUpToTwo_146 : decode cX6_takeUpToTwo 146 = .ok (.iload 10, 2) := bdX6_takeUpToTwo_119.2.2.2.2.2.2.2.2.2.2.2.2.2.1
theorem dX6_takeUpToTwo_148 : decode cX6_takeUpToTwo 148 = .ok (.iconst (-1), 1) := bdX6_takeUpToTwo_119.2.2.2.2.2.2.2.2.2.2.2.2.2.2.1
theorem dX6_takeUpToTwo_149 : decode cX6_takeUpToTwo 149 = .ok (.if_icmp .ne 4, 3) := bdX6_takeUpToTwo_119.2.2.2.2.2.2.2.2.2.2.2.2.2.2.2
theorem bdX6_takeUpToTwo_152 : (decode cX6_takeUpToTwo 152 = .ok (.return_, 1)) ∧ (decode cX6_takeUpToTwo 153 = .ok (.aload_n 1, 1)) ∧ (decode cX6_takeUpToTwo 154 = .ok (.getfield 96, 3)) ∧ (decode cX6_takeUpToTwo 157 = .ok (.aload 4, 2)) ∧ (decode cX6_takeUpToTwo 159 = .ok (.invokevirtual 217, 3)) ∧ (decode cX6_takeUpToTwo 162 = .ok (.aaload, 1)) ∧ (decode cX6_takeUpToTwo 163 = .ok (.iload 7, 2)) ∧ (decode cX6_takeUpToTwo 165 = .ok (.iconst 0, 1)) ∧ (decode cX6_takeUpToTwo 166 = .ok (.iconst (-1), 1)) ∧ (decode cX6_takeUpToTwo 167 = .ok (.invokevirtual 198, 3)) ∧ (decode cX6_takeUpToTwo 170 = .ok (.aload 4, 2)) ∧ (decode cX6_takeUpToTwo 172 = .ok (.iload 10, 2)) ∧ (decode cX6_takeUpToTwo 174 = .ok (.iconst 0, 1)) ∧ (decode cX6_takeUpToTwo 175 = .ok (.iload 9, 2)) ∧ (decode cX6_takeUpToTwo 177 = .ok (.ifCond .eq 11, 3)) ∧ (decode cX6_takeUpToTwo 180 = .ok (.iload 7, 2)) := by decide +kernel
theorem dX6_takeUpToTwo_152 : decode cX6_takeUpToTwo 152 = .ok (.return_, 1) := bdX6_takeUpToTwo_152.1
theorem dX6_takeUpToTwo_153 : decode cX6_takeUpToTwo 153 = .ok (.aload_n 1, 1) := bdX6_takeUpToTwo_152.2.1
theorem dX6_takeUpToTwo_154 : decode cX6_takeUpToTwo 154 = .ok (.getfield 96, 3) := bdX6_takeUpToTwo_152.2.2.1
theorem dX6_takeUpToTwo_157 : decode cX6_takeUpToTwo 157 = .ok (.aload 4, 2) := bdX6_takeUpToTwo_152.2.2.2.1
theorem dX6_takeUpToTwo_159 : decode cX6_takeUpToTwo 159 = .ok (.invokevirtual 217, 3) := bdX6_takeUpToTwo_152.2.2.2.2.1
theorem dX6_takeUpToTwo_162 : decode cX6_takeUpToTwo 162 = .ok (.aaload, 1) := bdX6_takeUpToTwo_152.2.2.2.2.2.1
theorem dX6_takeUpToTwo_163 : decode cX6_takeUpToTwo 163 = .ok (.iload 7, 2) := bdX6_takeUpToTwo_152.2.2.2.2.2.2.1
theorem dX6_takeUpToTwo_165 : decode cX6_takeUpToTwo 165 = .ok (.iconst 0, 1) := bdX6_takeUpToTwo_152.2.2.2.2.2.2.2.1
theorem dX6_takeUpToTwo_166 : decode cX6_takeUpToTwo 166 = .ok (.iconst (-1), 1) := bdX6_takeUpToTwo_152.2.2.2.2.2.2.2.2.1
theorem dX6_takeUpToTwo_167 : decode cX6_takeUpToTwo 167 = .ok (.invokevirtual 198, 3) := bdX6_takeUpToTwo_152.2.2.2.2.2.2.2.2.2.1
theorem dX6_takeUpToTwo_170 : decode cX6_takeUpToTwo 170 = .ok (.aload 4, 2) := bdX6_takeUpToTwo_152.2.2.2.2.2.2.2.2.2.2.1
theorem dX6_takeUpToTwo_172 : decode cX6_takeUpToTwo 172 = .ok (.iload 10, 2) := bdX6_takeUpToTwo_152.2.2.2.2.2.2.2.2.2.2.2.1
theorem dX6_takeUpToTwo_174 : decode cX6_takeUpToTwo 174 = .ok (.iconst 0, 1) := bdX6_takeUpToTwo_152.2.2.2.2.2.2.2.2.2.2.2.2.1
theorem dX6_takeUpToTwo_175 : decode cX6_takeUpToTwo 175 = .ok (.iload 9, 2) := bdX6_takeUpToTwo_152.2.2.2.2.2.2.2.2.2.2.2.2.2.1
theorem dX6_takeUpToTwo_177 : decode cX6_takeUpToTwo 177 = .ok (.ifCond .eq 11, 3) := bdX6_takeUpToTwo_152.2.2.2.2.2.2.2.2.2.2.2.2.2.2.1
theorem dX6_takeUpToTwo_180 : decode cX6_takeUpToTwo 180 = .ok (.iload 7, 2) := bdX6_takeUpToTwo_152.2.2.2.2.2.2.2.2.2.2.2.2.2.2.2
theorem bdX6_takeUpToTwo_182 : (decode cX6_takeUpToTwo 182 = .ok (.bipush 10, 2)) ∧ (decode cX6_takeUpToTwo 184 = .ok (.iadd, 1)) ∧ (decode cX6_takeUpToTwo 185 = .ok (.goto 5, 3)) ∧ (decode cX6_takeUpToTwo 188 = .ok (.iload 7, 2)) ∧ (decode cX6_takeUpToTwo 190 = .ok (.invokevirtual 247, 3)) ∧ (decode cX6_takeUpToTwo 193 = .ok (.aload 4, 2)) ∧ (decode cX6_takeUpToTwo 195 = .ok (.dup, 1)) ∧ (decode cX6_takeUpToTwo 196 = .ok (.getfield 148, 3)) ∧ (decode cX6_takeUpToTwo 199 = .ok (.iconst 1, 1)) ∧ (decode cX6_takeUpToTwo 200 = .ok (.iadd, 1)) ∧ (decode cX6_takeUpToTwo 201 = .ok (.putfield 148, 3)) ∧ (decode cX6_takeUpToTwo 204 = .ok (.aload 4, 2)) ∧ (decode cX6_takeUpToTwo 206 = .ok (.dup, 1)) ∧ (decode cX6_takeUpToTwo 207 = .ok (.getfield 201, 3)) ∧ (decode cX6_takeUpToTwo 210 = .ok (.iconst 1, 1)) ∧ (decode cX6_takeUpToTwo 211 = .ok (.iadd, 1)) := by decide +kernel
theorem dX6_takeUpToTwo_182 : decode cX6_takeUpToTwo 182 = .ok (.bipush 10, 2) := bdX6_takeUpToTwo_182.1
theorem dX6_takeUpToTwo_184 : decode cX6_takeUpToTwo 184 = .ok (.iadd, 1) := bdX6_takeUpToTwo_182.2.1
theorem dX6_takeUpToTwo_185 : decode cX6_takeUpToTwo 185 = .ok (.goto 5, 3) := bdX6_takeUpToTwo_182.2.2.1
theorem dX6_takeUpToTwo_188 : decode cX6_takeUpToTwo 188 = .ok (.iload 7, 2) := bdX6_takeUpToTwo_182.2.2.2.1
theorem dX6_takeUpToTwo_190 : decode cX6_takeUpToTwo 190 = .ok (.invokevirtual 247, 3) := bdX6_takeUpToTwo_182.2.2.2.2.1
theorem dX6_takeUpToTwo_193 : decode cX6_takeUpToTwo 193 = .ok (.aload 4, 2) := bdX6_takeUpToTwo_182.2.2.2.2.2.1
theorem dX6_takeUpToTwo_195 : decode cX6_takeUpToTwo 195 = .ok (.dup, 1) := bdX6_takeUpToTwo_182.2.2.2.2.2.2.1
theorem dX6_takeUpToTwo_196 : decode cX6_takeUpToTwo 196 = .ok (.getfield 148, 3) := bdX6_takeUpToTwo_182.2.2.2.2.2.2.2.1
theorem dX6_takeUpToTwo_199 : decode cX6_takeUpToTwo 199 = .ok (.iconst 1, 1) := bdX6_takeUpToTwo_182.2.2.2.2.2.2.2.2.1
theorem dX6_takeUpToTwo_200 : decode cX6_takeUpToTwo 200 = .ok (.iadd, 1) := bdX6_takeUpToTwo_182.2.2.2.2.2.2.2.2.2.1
theorem dX6_takeUpToTwo_201 : decode cX6_takeUpToTwo 201 = .ok (.putfield 148, 3) := bdX6_takeUpToTwo_182.2.2.2.2.2.2.2.2.2.2.1
theorem dX6_takeUpToTwo_204 : decode cX6_takeUpToTwo 204 = .ok (.aload 4, 2) := bdX6_takeUpToTwo_182.2.2.2.2.2.2.2.2.2.2.2.1
theorem dX6_takeUpToTwo_206 : decode cX6_takeUpToTwo 206 = .ok (.dup, 1) := bdX6_takeUpToTwo_182.2.2.2.2.2.2.2.2.2.2.2.2.1
theorem dX6_takeUpToTwo_207 : decode cX6_takeUpToTwo 207 = .ok (.getfield 201, 3) := bdX6_takeUpToTwo_182.2.2.2.2.2.2.2.2.2.2.2.2.2.1
theorem dX6_takeUpToTwo_210 : decode cX6_takeUpToTwo 210 = .ok (.iconst 1, 1) := bdX6_takeUpToTwo_182.2.2.2.2.2.2.2.2.2.2.2.2.2.2.1
theorem dX6_takeUpToTwo_211 : decode cX6_takeUpToTwo 211 = .ok (.iadd, 1) := bdX6_takeUpToTwo_182.2.2.2.2.2.2.2.2.2.2.2.2.2.2.2
theorem bdX6_takeUpToTwo_212 : (decode cX6_takeUpToTwo 212 = .ok (.putfield 201, 3)) ∧ (decode cX6_takeUpToTwo 215 = .ok (.iinc 6 1, 3)) ∧ (decode cX6_takeUpToTwo 218 = .ok (.goto (-147), 3)) ∧ (decode cX6_takeUpToTwo 221 = .ok (.return_, 1)) := by decide +kernel
theorem dX6_takeUpToTwo_212 : decode cX6_takeUpToTwo 212 = .ok (.putfield 201, 3) := bdX6_takeUpToTwo_212.1
theorem dX6_takeUpToTwo_215 : decode cX6_takeUpToTwo 215 = .ok (.iinc 6 1, 3) := bdX6_takeUpToTwo_212.2.1
theorem dX6_takeUpToTwo_218 : decode cX6_takeUpToTwo 218 = .ok (.goto (-147), 3) := bdX6_takeUpToTwo_212.2.2.1
theorem dX6_takeUpToTwo_221 : decode cX6_takeUpToTwo 221 = .ok (.return_, 1) := bdX6_takeUpToTwo_212.2.2.2
def fX6_walkOf_25 (a0 : Nat) (a1 : Nat) (a2 : Nat) (a3 : Nat) (m : xMem) : Option (Int32 × xMem) := some ((0 : Int32), m)
set_option maxRecDepth 4000 in
theorem fX6_walkOf_25_ok {a0 : Nat} {a1 : Nat} {a2 : Nat} {a3 : Nat} {d : Nat} (hd : 3 ≤ d) (ha0 : isMover a0) (ha1 : isStation a1) (ha2 : isText a2) (ha3 : isLink a3) {m : xMem} {r : (Int32 × xMem)} (h : fX6_walkOf_25 a0 a1 a2 a3 m = some r) : xFx hh_148 cX6_walkOf d 25 [some (.ref a0), some (.ref a1), some (.ref a2), some (.ref a3)] [] (xLay m) 0 0 (some (.int r.1)) (xLay r.2) := by
  unfold fX6_walkOf_25 at h
  refine fx_iconst (x := 0) dX6_walkOf_25 rfl (by decide) ?_
  cases h
  exact fx_ireturn dX6_walkOf_26 rfl rfl
def fX6_walkOf_0 (a0 : Nat) (a1 : Nat) (a2 : Nat) (a3 : Nat) (m : xMem) : Option (Int32 × xMem) := xLet (m.1 a3 1) fun x1 => if ¬ x1 = (0 : Int32) then fX6_walkOf_25 a0 a1 a2 a3 m else xLet (m.1 a3 8) fun x3 => if ¬ x3 = (0 : Int32) then fX6_walkOf_25 a0 a1 a2 a3 m else (fX3_foot a3 m).bind fun p5 => (fX9_hasHall a1 p5.1 p5.2).bind fun p6 => if ¬ p6.1 = (0 : Int32) then xLet (p6.2.1 a1 6) fun x8 => bif xIn (0 : Int32) 8 then xLet (xPut p6.2 (a0 + 4) (0 : Int32).toNatClampNeg x8) fun m9 => xLet (m9.1 a3 4) fun x11 => bif xIn (5 : Int32) 8 then xLet (xPut m9 (a0 + 4) (5 : Int32).toNatClampNeg x11) fun m12 => xLet (m12.1 a3 9) fun x14 => bif xIn (6 : Int32) 8 then xLet (xPut m12 (a0 + 4) (6 : Int32).toNatClampNeg x14) fun m15 => (fX3_foot a3 m15).bind fun p17 => bif xIn p17.1 6 then xLet (a1 + 15 + 3 * p17.1.toNatClampNeg) fun r19 => xLet (p17.2.1 r19 4) fun x20 => bif xIn (7 : Int32) 8 then xLet (xPut p17.2 (a0 + 4) (7 : Int32).toNatClampNeg x20) fun m21 => (fX10_walk a2 (a0 + 4) m21).bind fun p23 => some (p23.1, p23.2) else none else none else none else none else none else fX6_walkOf_25 a0 a1 a2 a3 p6.2
set_option maxRecDepth 4000 in
theorem fX6_walkOf_0_ok {a0 : Nat} {a1 : Nat} {a2 : Nat} {a3 : Nat} {d : Nat} (hd : 3 ≤ d) (ha0 : isMover a0) (ha1 : isStation a1) (ha2 : isText a2) (ha3 : isLink a3) {m : xMem} {r : (Int32 × xMem)} (h : fX6_walkOf_0 a0 a1 a2 a3 m = some r) : xFx hh_148 cX6_walkOf d 0 [some (.ref a0), some (.ref a1), some (.ref a2), some (.ref a3)] [] (xLay m) 0 0 (some (.int r.1)) (xLay r.2) := by
  unfold fX6_walkOf_0 at h
  refine fx_aload_n dX6_walkOf_0 rfl rfl ?_
  obtain ⟨x1, hx1, h⟩ := xLet_el h
  refine gx_get dX6_walkOf_1 rfl fd_6_157 ha3.1 rfl rfl hx1 ?_
  refine fx_if_ne (t := 25) dX6_walkOf_4 rfl rfl (fun hc2 => ?_) (fun hc2 => ?_)
  · rw [if_pos hc2] at h
    exact fX6_walkOf_25_ok hd ha0 ha1 ha2 ha3 h
  · rw [if_neg hc2] at h
    refine fx_aload_n dX6_walkOf_7 rfl rfl ?_
    obtain ⟨x3, hx3, h⟩ := xLet_el h
    refine gx_get dX6_walkOf_8 rfl fd_6_214 ha3.1 rfl rfl hx3 ?_
    refine fx_if_ne (t := 25) dX6_walkOf_11 rfl rfl (fun hc4 => ?_) (fun hc4 => ?_)
    · rw [if_pos hc4] at h
      exact fX6_walkOf_25_ok hd ha0 ha1 ha2 ha3 h
    · rw [if_neg hc4] at h
      refine fx_aload_n dX6_walkOf_14 rfl rfl ?_
      refine fx_aload_n dX6_walkOf_15 rfl rfl ?_
      obtain ⟨p5, ep5, h⟩ := xBind_el h
      refine gx_callv (as := []) (r := [.ref a1]) rfl dX6_walkOf_16 ca_6_217 rfl me_137 rfl rfl rfl rfl (ha3.1) rfl (fX3_foot_ok (d := d) (by omega) ha3 ep5) rfl rfl ?_
      obtain ⟨p6, ep6, h⟩ := xBind_el h
      refine gx_callv (as := [.int p5.1]) (r := []) rfl dX6_walkOf_19 ca_6_69 rfl me_20 rfl rfl rfl rfl (ha1.1) rfl (fX9_hasHall_ok (d := d) (by omega) ha1 ep6) rfl rfl ?_
      refine fx_if_ne (t := 27) dX6_walkOf_22 rfl rfl (fun hc7 => ?_) (fun hc7 => ?_)
      · rw [if_pos hc7] at h
        refine fx_aload_n dX6_walkOf_27 rfl rfl ?_
        refine gx_getr dX6_walkOf_28 rfl fd_6_20 ha0.1 rfl rfl ?_
        refine fx_iconst (x := 0) dX6_walkOf_31 rfl (by decide) ?_
        refine fx_aload_n dX6_walkOf_32 rfl rfl ?_
        obtain ⟨x8, hx8, h⟩ := xLet_el h
        refine gx_get dX6_walkOf_33 rfl fd_6_47 ha1.1 rfl rfl hx8 ?_
        obtain ⟨hj10, h⟩ := xChk_el h
        obtain ⟨m9, hm9, h⟩ := xLet_el h
        refine gx_iastore dX6_walkOf_36 rfl ha0.2.2 hj10 hm9 ?_
        refine fx_aload_n dX6_walkOf_37 rfl rfl ?_
        refine gx_getr dX6_walkOf_38 rfl fd_6_20 ha0.1 rfl rfl ?_
        refine fx_iconst (x := 5) dX6_walkOf_41 rfl (by decide) ?_
        refine fx_aload_n dX6_walkOf_42 rfl rfl ?_
        obtain ⟨x11, hx11, h⟩ := xLet_el h
        refine gx_get dX6_walkOf_43 rfl fd_6_189 ha3.1 rfl rfl hx11 ?_
        obtain ⟨hj13, h⟩ := xChk_el h
        obtain ⟨m12, hm12, h⟩ := xLet_el h
        refine gx_iastore dX6_walkOf_46 rfl ha0.2.2 hj13 hm12 ?_
        refine fx_aload_n dX6_walkOf_47 rfl rfl ?_
        refine gx_getr dX6_walkOf_48 rfl fd_6_20 ha0.1 rfl rfl ?_
        refine fx_bipush (x := 6) dX6_walkOf_51 rfl (by decide) ?_
        refine fx_aload_n dX6_walkOf_53 rfl rfl ?_
        obtain ⟨x14, hx14, h⟩ := xLet_el h
        refine gx_get dX6_walkOf_54 rfl fd_6_148 ha3.1 rfl rfl hx14 ?_
        obtain ⟨hj16, h⟩ := xChk_el h
        obtain ⟨m15, hm15, h⟩ := xLet_el h
        refine gx_iastore dX6_walkOf_57 rfl ha0.2.2 hj16 hm15 ?_
        refine fx_aload_n dX6_walkOf_58 rfl rfl ?_
        refine gx_getr dX6_walkOf_59 rfl fd_6_20 ha0.1 rfl rfl ?_
        refine fx_bipush (x := 7) dX6_walkOf_62 rfl (by decide) ?_
        refine fx_aload_n dX6_walkOf_64 rfl rfl ?_
        refine gx_getr dX6_walkOf_65 rfl fd_6_96 ha1.1 rfl rfl ?_
        refine fx_aload_n dX6_walkOf_68 rfl rfl ?_
        obtain ⟨p17, ep17, h⟩ := xBind_el h
        refine gx_callv (as := []) (r := [.ref (a1 + 1), .int (7 : Int32), .ref (a0 + 4)]) rfl dX6_walkOf_69 ca_6_217 rfl me_137 rfl rfl rfl rfl (ha3.1) rfl (fX3_foot_ok (d := d) (by omega) ha3 ep17) rfl rfl ?_
        obtain ⟨hj18, h⟩ := xChk_el h
        obtain ⟨r19, hr19, h⟩ := xLet_el h
        refine gx_aaload (t := 4) dX6_walkOf_72 rfl ha1.2.1 rfl hj18 ((xRef_at (sl_9_0 a1) hj18).trans (congrArg some hr19)) ?_
        have hpr19 : isHall r19 := by rw [← hr19]; exact ha1.2.2.2.2.2.2.2.1 _ (xIn_lt hj18)
        obtain ⟨x20, hx20, h⟩ := xLet_el h
        refine gx_get dX6_walkOf_73 rfl fd_6_106 hpr19.1 rfl rfl hx20 ?_
        obtain ⟨hj22, h⟩ := xChk_el h
        obtain ⟨m21, hm21, h⟩ := xLet_el h
        refine gx_iastore dX6_walkOf_76 rfl ha0.2.2 hj22 hm21 ?_
        refine fx_aload_n dX6_walkOf_77 rfl rfl ?_
        refine fx_aload_n dX6_walkOf_78 rfl rfl ?_
        refine gx_getr dX6_walkOf_79 rfl fd_6_20 ha0.1 rfl rfl ?_
        obtain ⟨p23, ep23, h⟩ := xBind_el h
        refine gx_callv (as := [.ref (a0 + 4)]) (r := []) rfl dX6_walkOf_82 ca_6_221 rfl me_149 rfl rfl rfl rfl (ha2.1) rfl (fX10_walk_ok (d := d) (by omega) ha2 ha0.2.2 ep23) rfl rfl ?_
        cases h
        exact fx_ireturn dX6_walkOf_85 rfl rfl
      · rw [if_neg hc7] at h
        exact fX6_walkOf_25_ok hd ha0 ha1 ha2 ha3 h
def fX6_walkOf (a0 : Nat) (a1 : Nat) (a2 : Nat) (a3 : Nat) (m : xMem) : Option (Int32 × xMem) := fX6_walkOf_0 a0 a1 a2 a3  m
theorem fX6_walkOf_ok {a0 : Nat} {a1 : Nat} {a2 : Nat} {a3 : Nat} {m : xMem} {r : (Int32 × xMem)} {d : Nat} (hd : 4 ≤ d) (ha0 : isMover a0) (ha1 : isStation a1) (ha2 : isText a2) (ha3 : isLink a3) (h : fX6_walkOf a0 a1 a2 a3 m = some r) : xEx d 148 [.ref a0, .ref a1, .ref a2, .ref a3] (xLay m) (some (.int r.1)) (xLay r.2) := by
  obtain ⟨d, rfl⟩ : ∃ q, d = q + 1 := ⟨d - 1, by omega⟩
  exact xEx_of me_148 rfl (fX6_walkOf_0_ok (d := d) (by omega) ha0 ha1 ha2 ha3 h)
def fX3_who_30 (a0 : Nat) (a1 : Int32) (a2 : Int32) (s0 : Int32) (m : xMem) : Option (Int32 × xMem) := some (s0, m)
set_option maxRecDepth 4000 in
theorem fX3_who_30_ok {a0 : Nat} {a1 : Int32} {a2 : Int32} {d : Nat} (hd : 0 ≤ d) (ha0 : isLink a0) {s0 : Int32} {o3 : Option Value} {m : xMem} {r : (Int32 × xMem)} (q3 : xNoD o3 = true) (h : fX3_who_30 a0 a1 a2 s0 m = some r) : xFx hh_152 cX3_who d 30 [some (.ref a0), some (.int a1), some (.int a2), o3] [.int s0] (xLay m) 0 0 (some (.int r.1)) (xLay r.2) := by
  unfold fX3_who_30 at h
  cases h
  exact fx_ireturn dX3_who_30 rfl rfl
def fX3_who_29 (a0 : Nat) (a1 : Int32) (a2 : Int32) (m : xMem) : Option (Int32 × xMem) := fX3_who_30 a0 a1 a2 (-1 : Int32) m
set_option maxRecDepth 4000 in
theorem fX3_who_29_ok {a0 : Nat} {a1 : Int32} {a2 : Int32} {d : Nat} (hd : 0 ≤ d) (ha0 : isLink a0) {o3 : Option Value} {m : xMem} {r : (Int32 × xMem)} (q3 : xNoD o3 = true) (h : fX3_who_29 a0 a1 a2 m = some r) : xFx hh_152 cX3_who d 29 [some (.ref a0), some (.int a1), some (.int a2), o3] [] (xLay m) 0 0 (some (.int r.1)) (xLay r.2) := by
  unfold fX3_who_29 at h
  refine fx_iconst (x := -1) dX3_who_29 rfl (by decide) ?_
  exact fX3_who_30_ok (o3 := o3) hd ha0 q3 h
def fX3_who_0 (a0 : Nat) (a1 : Int32) (a2 : Int32) (m : xMem) : Option (Int32 × xMem) := xLet (a1 * (40 : Int32)) fun x1 => xLet (x1 + a2) fun x2 => if x2 < (0 : Int32) then fX3_who_29 a0 a1 a2 m else if (80 : Int32) ≤ x2 then fX3_who_29 a0 a1 a2 m else bif xIn x2 80 then xLet (m.1 (a0 + 1) x2.toNatClampNeg) fun x5 => fX3_who_30 a0 a1 a2 x5 m else none
set_option maxRecDepth 4000 in
theorem fX3_who_0_ok {a0 : Nat} {a1 : Int32} {a2 : Int32} {d : Nat} (hd : 0 ≤ d) (ha0 : isLink a0) {o3 : Option Value} {m : xMem} {r : (Int32 × xMem)} (q3 : xNoD o3 = true) (h : fX3_who_0 a0 a1 a2 m = some r) : xFx hh_152 cX3_who d 0 [some (.ref a0), some (.int a1), some (.int a2), o3] [] (xLay m) 0 0 (some (.int r.1)) (xLay r.2) := by
  unfold fX3_who_0 at h
  refine fx_iload_n dX3_who_0 rfl rfl ?_
  refine fx_bipush (x := 40) dX3_who_1 rfl (by decide) ?_
  obtain ⟨x1, hx1, h⟩ := xLet_el h
  refine fx_imul dX3_who_3 rfl hx1 ?_
  refine fx_iload_n dX3_who_4 rfl rfl ?_
  obtain ⟨x2, hx2, h⟩ := xLet_el h
  refine fx_iadd dX3_who_5 rfl hx2 ?_
  refine fx_istore_n (ls2 := [some (.ref a0), some (.int a1), some (.int a2), some (.int x2)]) dX3_who_6 rfl rfl rfl ?_
  refine fx_iload_n dX3_who_7 rfl rfl ?_
  refine fx_if_lt (t := 29) dX3_who_8 rfl rfl (fun hc3 => ?_) (fun hc3 => ?_)
  · rw [if_pos hc3] at h
    exact fX3_who_29_ok (o3 := some (.int x2)) hd ha0 rfl h
  · rw [if_neg hc3] at h
    refine fx_iload_n dX3_who_11 rfl rfl ?_
    refine fx_aload_n dX3_who_12 rfl rfl ?_
    refine gx_getr dX3_who_13 rfl fd_3_9 ha0.1 rfl rfl ?_
    refine gx_alen (t := 1) (y := 80) dX3_who_16 rfl ha0.2 rfl (by decide) ?_
    refine fx_icmp_ge (t := 29) dX3_who_17 rfl rfl (fun hc4 => ?_) (fun hc4 => ?_)
    · rw [if_pos hc4] at h
      exact fX3_who_29_ok (o3 := some (.int x2)) hd ha0 rfl h
    · rw [if_neg hc4] at h
      refine fx_aload_n dX3_who_20 rfl rfl ?_
      refine gx_getr dX3_who_21 rfl fd_3_9 ha0.1 rfl rfl ?_
      refine fx_iload_n dX3_who_24 rfl rfl ?_
      obtain ⟨hj6, h⟩ := xChk_el h
      obtain ⟨x5, hx5, h⟩ := xLet_el h
      refine gx_iaload dX3_who_25 rfl ha0.2 hj6 hx5 ?_
      refine fx_goto (t := 30) dX3_who_26 rfl rfl ?_
      exact fX3_who_30_ok (o3 := some (.int x2)) hd ha0 rfl h
def fX3_who (a0 : Nat) (a1 : Int32) (a2 : Int32) (m : xMem) : Option (Int32 × xMem) := fX3_who_0 a0 a1 a2  m
theorem fX3_who_ok {a0 : Nat} {a1 : Int32} {a2 : Int32} {m : xMem} {r : (Int32 × xMem)} {d : Nat} (hd : 1 ≤ d) (ha0 : isLink a0) (h : fX3_who a0 a1 a2 m = some r) : xEx d 152 [.ref a0, .int a1, .int a2] (xLay m) (some (.int r.1)) (xLay r.2) := by
  obtain ⟨d, rfl⟩ : ∃ q, d = q + 1 := ⟨d - 1, by omega⟩
  exact xEx_of me_152 rfl (fX3_who_0_ok (d := d) (o3 := none) (by omega) ha0 rfl h)
def fX3_put_31 (a0 : Nat) (a1 : Int32) (a2 : Int32) (a3 : Int32) (m : xMem) : Option xMem := some m
set_option maxRecDepth 4000 in
theorem fX3_put_31_ok {a0 : Nat} {a1 : Int32} {a2 : Int32} {a3 : Int32} {d : Nat} (hd : 0 ≤ d) (ha0 : isLink a0) {o4 : Option Value} {m : xMem} {r : xMem} (q4 : xNoD o4 = true) (h : fX3_put_31 a0 a1 a2 a3 m = some r) : xFx hh_154 cX3_put d 31 [some (.ref a0), some (.int a1), some (.int a2), some (.int a3), o4] [] (xLay m) 0 0 none (xLay r) := by
  unfold fX3_put_31 at h
  cases h
  exact fx_return dX3_put_31 rfl rfl
def fX3_put_0 (a0 : Nat) (a1 : Int32) (a2 : Int32) (a3 : Int32) (m : xMem) : Option xMem := xLet (a1 * (40 : Int32)) fun x1 => xLet (x1 + a2) fun x2 => if x2 < (0 : Int32) then fX3_put_31 a0 a1 a2 a3 m else if (80 : Int32) ≤ x2 then fX3_put_31 a0 a1 a2 a3 m else bif xIn x2 80 then xLet (xPut m (a0 + 1) x2.toNatClampNeg a3) fun m5 => fX3_put_31 a0 a1 a2 a3 m5 else none
set_option maxRecDepth 4000 in
theorem fX3_put_0_ok {a0 : Nat} {a1 : Int32} {a2 : Int32} {a3 : Int32} {d : Nat} (hd : 0 ≤ d) (ha0 : isLink a0) {o4 : Option Value} {m : xMem} {r : xMem} (q4 : xNoD o4 = true) (h : fX3_put_0 a0 a1 a2 a3 m = some r) : xFx hh_154 cX3_put d 0 [some (.ref a0), some (.int a1), some (.int a2), some (.int a3), o4] [] (xLay m) 0 0 none (xLay r) := by
  unfold fX3_put_0 at h
  refine fx_iload_n dX3_put_0 rfl rfl ?_
  refine fx_bipush (x := 40) dX3_put_1 rfl (by decide) ?_
  obtain ⟨x1, hx1, h⟩ := xLet_el h
  refine fx_imul dX3_put_3 rfl hx1 ?_
  refine fx_iload_n dX3_put_4 rfl rfl ?_
  obtain ⟨x2, hx2, h⟩ := xLet_el h
  refine fx_iadd dX3_put_5 rfl hx2 ?_
  refine fx_istore (ls2 := [some (.ref a0), some (.int a1), some (.int a2), some (.int a3), some (.int x2)]) dX3_put_6 rfl rfl rfl ?_
  refine fx_iload dX3_put_8 rfl rfl ?_
  refine fx_if_lt (t := 31) dX3_put_10 rfl rfl (fun hc3 => ?_) (fun hc3 => ?_)
  · rw [if_pos hc3] at h
    exact fX3_put_31_ok (o4 := some (.int x2)) hd ha0 rfl h
  · rw [if_neg hc3] at h
    refine fx_iload dX3_put_13 rfl rfl ?_
    refine fx_aload_n dX3_put_15 rfl rfl ?_
    refine gx_getr dX3_put_16 rfl fd_3_9 ha0.1 rfl rfl ?_
    refine gx_alen (t := 1) (y := 80) dX3_put_19 rfl ha0.2 rfl (by decide) ?_
    refine fx_icmp_ge (t := 31) dX3_put_20 rfl rfl (fun hc4 => ?_) (fun hc4 => ?_)
    · rw [if_pos hc4] at h
      exact fX3_put_31_ok (o4 := some (.int x2)) hd ha0 rfl h
    · rw [if_neg hc4] at h
      refine fx_aload_n dX3_put_23 rfl rfl ?_
      refine gx_getr dX3_put_24 rfl fd_3_9 ha0.1 rfl rfl ?_
      refine fx_iload dX3_put_27 rfl rfl ?_
      refine fx_iload_n dX3_put_29 rfl rfl ?_
      obtain ⟨hj6, h⟩ := xChk_el h
      obtain ⟨m5, hm5, h⟩ := xLet_el h
      refine gx_iastore dX3_put_30 rfl ha0.2 hj6 hm5 ?_
      exact fX3_put_31_ok (o4 := some (.int x2)) hd ha0 rfl h
def fX3_put (a0 : Nat) (a1 : Int32) (a2 : Int32) (a3 : Int32) (m : xMem) : Option xMem := fX3_put_0 a0 a1 a2 a3  m
theorem fX3_put_ok {a0 : Nat} {a1 : Int32} {a2 : Int32} {a3 : Int32} {m : xMem} {r : xMem} {d : Nat} (hd : 1 ≤ d) (ha0 : isLink a0) (h : fX3_put a0 a1 a2 a3 m = some r) : xEx d 154 [.ref a0, .int a1, .int a2, .int a3] (xLay m) none (xLay r) := by
  obtain ⟨d, rfl⟩ : ∃ q, d = q + 1 := ⟨d - 1, by omega⟩
  exact xEx_of me_154 rfl (fX3_put_0_ok (d := d) (o4 := none) (by omega) ha0 rfl h)
def fX3_head_19 (a0 : Nat) (s0 : Int32) (m : xMem) : Option (Int32 × xMem) := some (s0, m)
set_option maxRecDepth 4000 in
theorem fX3_head_19_ok {a0 : Nat} {d : Nat} (hd : 0 ≤ d) (ha0 : isLink a0) {s0 : Int32} {m : xMem} {r : (Int32 × xMem)} (h : fX3_head_19 a0 s0 m = some r) : xFx hh_156 cX3_head d 19 [some (.ref a0)] [.int s0] (xLay m) 0 0 (some (.int r.1)) (xLay r.2) := by
  unfold fX3_head_19 at h
  cases h
  exact fx_ireturn dX3_head_19 rfl rfl
def fX3_head_0 (a0 : Nat) (m : xMem) : Option (Int32 × xMem) := xLet (m.1 a0 6) fun x1 => if ¬ x1 = (2 : Int32) then xLet (m.1 a0 3) fun x3 => fX3_head_19 a0 x3 m else xLet (m.1 a0 2) fun x4 => fX3_head_19 a0 x4 m
set_option maxRecDepth 4000 in
theorem fX3_head_0_ok {a0 : Nat} {d : Nat} (hd : 0 ≤ d) (ha0 : isLink a0) {m : xMem} {r : (Int32 × xMem)} (h : fX3_head_0 a0 m = some r) : xFx hh_156 cX3_head d 0 [some (.ref a0)] [] (xLay m) 0 0 (some (.int r.1)) (xLay r.2) := by
  unfold fX3_head_0 at h
  refine fx_aload_n dX3_head_0 rfl rfl ?_
  obtain ⟨x1, hx1, h⟩ := xLet_el h
  refine gx_get dX3_head_1 rfl fd_3_31 ha0.1 rfl rfl hx1 ?_
  refine fx_iconst (x := 2) dX3_head_4 rfl (by decide) ?_
  refine fx_icmp_ne (t := 15) dX3_head_5 rfl rfl (fun hc2 => ?_) (fun hc2 => ?_)
  · rw [if_pos hc2] at h
    refine fx_aload_n dX3_head_15 rfl rfl ?_
    obtain ⟨x3, hx3, h⟩ := xLet_el h
    refine gx_get dX3_head_16 rfl fd_3_22 ha0.1 rfl rfl hx3 ?_
    exact fX3_head_19_ok hd ha0 h
  · rw [if_neg hc2] at h
    refine fx_aload_n dX3_head_8 rfl rfl ?_
    obtain ⟨x4, hx4, h⟩ := xLet_el h
    refine gx_get dX3_head_9 rfl fd_3_19 ha0.1 rfl rfl hx4 ?_
    refine fx_goto (t := 19) dX3_head_12 rfl rfl ?_
    exact fX3_head_19_ok hd ha0 h
def fX3_head (a0 : Nat) (m : xMem) : Option (Int32 × xMem) := fX3_head_0 a0  m
theorem fX3_head_ok {a0 : Nat} {m : xMem} {r : (Int32 × xMem)} {d : Nat} (hd : 1 ≤ d) (ha0 : isLink a0) (h : fX3_head a0 m = some r) : xEx d 156 [.ref a0] (xLay m) (some (.int r.1)) (xLay r.2) := by
  obtain ⟨d, rfl⟩ : ∃ q, d = q + 1 := ⟨d - 1, by omega⟩
  exact xEx_of me_156 rfl (fX3_head_0_ok (d := d) (by omega) ha0 h)
def fX6_stepOff_0 (a0 : Nat) (a1 : Nat) (a2 : Nat) (a3 : Int32) (m : xMem) : Option (Int32 × xMem) := xLet (m.1 a2 4) fun x1 => xLet (x1 - (1 : Int32)) fun x2 => (fX3_who a2 a3 x2 m).bind fun p3 => if ¬ p3.1 = (-1 : Int32) then xLet (xRem p3.1 (10 : Int32)) fun x5 => (fX3_head a2 p3.2).bind fun p6 => (fX9_admits a1 p6.1 x5 p6.2).bind fun p7 => if ¬ p7.1 = (0 : Int32) then (fX3_put a2 a3 x2 (-1 : Int32) p7.2).bind fun p9 => xLet (p9.1 a2 9) fun x10 => xLet (x10 - (1 : Int32)) fun x11 => xLet (xPut p9 a2 9 x11) fun m12 => xLet (m12.1 a2 11) fun x13 => xLet (x13 + (1 : Int32)) fun x14 => xLet (xPut m12 a2 11 x14) fun m15 => (fX3_head a2 m15).bind fun p16 => (fX9_comeTo a1 p16.1 x5 (0 : Int32) (1 : Int32) p16.2).bind fun p17 => some ((1 : Int32), p17) else some ((0 : Int32), p7.2) else some ((1 : Int32), p3.2)
set_option maxRecDepth 4000 in
theorem fX6_stepOff_0_ok {a0 : Nat} {a1 : Nat} {a2 : Nat} {a3 : Int32} {d : Nat} (hd : 2 ≤ d) (ha0 : isMover a0) (ha1 : isStation a1) (ha2 : isLink a2) {o4 : Option Value} {o5 : Option Value} {o6 : Option Value} {m : xMem} {r : (Int32 × xMem)} (q4 : xNoD o4 = true) (q5 : xNoD o5 = true) (q6 : xNoD o6 = true) (h : fX6_stepOff_0 a0 a1 a2 a3 m = some r) : xFx hh_155 cX6_stepOff d 0 [some (.ref a0), some (.ref a1), some (.ref a2), some (.int a3), o4, o5, o6] [] (xLay m) 0 0 (some (.int r.1)) (xLay r.2) := by
  unfold fX6_stepOff_0 at h
  refine fx_aload_n dX6_stepOff_0 rfl rfl ?_
  obtain ⟨x1, hx1, h⟩ := xLet_el h
  refine gx_get dX6_stepOff_1 rfl fd_6_189 ha2.1 rfl rfl hx1 ?_
  refine fx_iconst (x := 1) dX6_stepOff_4 rfl (by decide) ?_
  obtain ⟨x2, hx2, h⟩ := xLet_el h
  refine fx_isub dX6_stepOff_5 rfl hx2 ?_
  refine fx_istore (ls2 := [some (.ref a0), some (.ref a1), some (.ref a2), some (.int a3), some (.int x2), o5, o6]) dX6_stepOff_6 rfl rfl rfl ?_
  refine fx_aload_n dX6_stepOff_8 rfl rfl ?_
  refine fx_iload_n dX6_stepOff_9 rfl rfl ?_
  refine fx_iload dX6_stepOff_10 rfl rfl ?_
  obtain ⟨p3, ep3, h⟩ := xBind_el h
  refine gx_callv (as := [.int a3, .int x2]) (r := []) rfl dX6_stepOff_12 ca_6_241 rfl me_152 rfl rfl rfl rfl (ha2.1) rfl (fX3_who_ok (d := d) (by omega) ha2 ep3) rfl rfl ?_
  refine fx_istore (ls2 := [some (.ref a0), some (.ref a1), some (.ref a2), some (.int a3), some (.int x2), some (.int p3.1), o6]) dX6_stepOff_15 rfl rfl rfl ?_
  refine fx_iload dX6_stepOff_17 rfl rfl ?_
  refine fx_iconst (x := -1) dX6_stepOff_19 rfl (by decide) ?_
  refine fx_icmp_ne (t := 25) dX6_stepOff_20 rfl rfl (fun hc4 => ?_) (fun hc4 => ?_)
  · rw [if_pos hc4] at h
    refine fx_iload dX6_stepOff_25 rfl rfl ?_
    refine fx_bipush (x := 10) dX6_stepOff_27 rfl (by decide) ?_
    obtain ⟨x5, hx5, h⟩ := xLet_el h
    refine fx_irem dX6_stepOff_29 rfl (by decide) hx5 ?_
    refine fx_istore (ls2 := [some (.ref a0), some (.ref a1), some (.ref a2), some (.int a3), some (.int x2), some (.int p3.1), some (.int x5)]) dX6_stepOff_30 rfl rfl rfl ?_
    refine fx_aload_n dX6_stepOff_32 rfl rfl ?_
    refine fx_aload_n dX6_stepOff_33 rfl rfl ?_
    obtain ⟨p6, ep6, h⟩ := xBind_el h
    refine gx_callv (as := []) (r := [.ref a1]) rfl dX6_stepOff_34 ca_6_244 rfl me_156 rfl rfl rfl rfl (ha2.1) rfl (fX3_head_ok (d := d) (by omega) ha2 ep6) rfl rfl ?_
    refine fx_iload dX6_stepOff_37 rfl rfl ?_
    obtain ⟨p7, ep7, h⟩ := xBind_el h
    refine gx_callv (as := [.int p6.1, .int x5]) (r := []) rfl dX6_stepOff_39 ca_6_194 rfl me_147 rfl rfl rfl rfl (ha1.1) rfl (fX9_admits_ok (d := d) (by omega) ha1 ep7) rfl rfl ?_
    refine fx_if_ne (t := 47) dX6_stepOff_42 rfl rfl (fun hc8 => ?_) (fun hc8 => ?_)
    · rw [if_pos hc8] at h
      refine fx_aload_n dX6_stepOff_47 rfl rfl ?_
      refine fx_iload_n dX6_stepOff_48 rfl rfl ?_
      refine fx_iload dX6_stepOff_49 rfl rfl ?_
      refine fx_iconst (x := -1) dX6_stepOff_51 rfl (by decide) ?_
      obtain ⟨p9, ep9, h⟩ := xBind_el h
      refine gx_callv (as := [.int a3, .int x2, .int (-1 : Int32)]) (r := []) rfl dX6_stepOff_52 ca_6_247 rfl me_154 rfl rfl rfl rfl (ha2.1) rfl (fX3_put_ok (d := d) (by omega) ha2 ep9) rfl rfl ?_
      refine fx_aload_n dX6_stepOff_55 rfl rfl ?_
      refine fx_dup dX6_stepOff_56 rfl rfl ?_
      obtain ⟨x10, hx10, h⟩ := xLet_el h
      refine gx_get dX6_stepOff_57 rfl fd_6_148 ha2.1 rfl rfl hx10 ?_
      refine fx_iconst (x := 1) dX6_stepOff_60 rfl (by decide) ?_
      obtain ⟨x11, hx11, h⟩ := xLet_el h
      refine fx_isub dX6_stepOff_61 rfl hx11 ?_
      obtain ⟨m12, hm12, h⟩ := xLet_el h
      refine gx_put dX6_stepOff_62 rfl fd_6_148 ha2.1 rfl rfl rfl hm12 ?_
      refine fx_aload_n dX6_stepOff_65 rfl rfl ?_
      refine fx_dup dX6_stepOff_66 rfl rfl ?_
      obtain ⟨x13, hx13, h⟩ := xLet_el h
      refine gx_get dX6_stepOff_67 rfl fd_6_204 ha2.1 rfl rfl hx13 ?_
      refine fx_iconst (x := 1) dX6_stepOff_70 rfl (by decide) ?_
      obtain ⟨x14, hx14, h⟩ := xLet_el h
      refine fx_iadd dX6_stepOff_71 rfl hx14 ?_
      obtain ⟨m15, hm15, h⟩ := xLet_el h
      refine gx_put dX6_stepOff_72 rfl fd_6_204 ha2.1 rfl rfl rfl hm15 ?_
      refine fx_aload_n dX6_stepOff_75 rfl rfl ?_
      refine fx_aload_n dX6_stepOff_76 rfl rfl ?_
      obtain ⟨p16, ep16, h⟩ := xBind_el h
      refine gx_callv (as := []) (r := [.ref a1]) rfl dX6_stepOff_77 ca_6_244 rfl me_156 rfl rfl rfl rfl (ha2.1) rfl (fX3_head_ok (d := d) (by omega) ha2 ep16) rfl rfl ?_
      refine fx_iload dX6_stepOff_80 rfl rfl ?_
      refine fx_iconst (x := 0) dX6_stepOff_82 rfl (by decide) ?_
      refine fx_iconst (x := 1) dX6_stepOff_83 rfl (by decide) ?_
      obtain ⟨p17, ep17, h⟩ := xBind_el h
      refine gx_callv (as := [.int p16.1, .int x5, .int (0 : Int32), .int (1 : Int32)]) (r := []) rfl dX6_stepOff_84 ca_6_85 rfl me_123 rfl rfl rfl rfl (ha1.1) rfl (fX9_comeTo_ok (d := d) (by omega) ha1 ep17) rfl rfl ?_
      refine fx_iconst (x := 1) dX6_stepOff_87 rfl (by decide) ?_
      cases h
      exact fx_ireturn dX6_stepOff_88 rfl rfl
    · rw [if_neg hc8] at h
      refine fx_iconst (x := 0) dX6_stepOff_45 rfl (by decide) ?_
      cases h
      exact fx_ireturn dX6_stepOff_46 rfl rfl
  · rw [if_neg hc4] at h
    refine fx_iconst (x := 1) dX6_stepOff_23 rfl (by decide) ?_
    cases h
    exact fx_ireturn dX6_stepOff_24 rfl rfl
def fX6_stepOff (a0 : Nat) (a1 : Nat) (a2 : Nat) (a3 : Int32) (m : xMem) : Option (Int32 × xMem) := fX6_stepOff_0 a0 a1 a2 a3  m
theorem fX6_stepOff_ok {a0 : Nat} {a1 : Nat} {a2 : Nat} {a3 : Int32} {m : xMem} {r : (Int32 × xMem)} {d : Nat} (hd : 3 ≤ d) (ha0 : isMover a0) (ha1 : isStation a1) (ha2 : isLink a2) (h : fX6_stepOff a0 a1 a2 a3 m = some r) : xEx d 155 [.ref a0, .ref a1, .ref a2, .int a3] (xLay m) (some (.int r.1)) (xLay r.2) := by
  obtain ⟨d, rfl⟩ : ∃ q, d = q + 1 := ⟨d - 1, by omega⟩
  exact xEx_of me_155 rfl (fX6_stepOff_0_ok (d := d) (o4 := none) (o5 := none) (o6 := none) (by omega) ha0 ha1 ha2 rfl rfl rfl h)
def fX3_move_0 (a0 : Nat) (a1 : Int32) (a2 : Int32) (m : xMem) : Option xMem := xLet (a2 + (1 : Int32)) fun x1 => (fX3_who a0 a1 a2 m).bind fun p2 => (fX3_put a0 a1 x1 p2.1 p2.2).bind fun p3 => (fX3_put a0 a1 a2 (-1 : Int32) p3).bind fun p4 => some p4
set_option maxRecDepth 4000 in
theorem fX3_move_0_ok {a0 : Nat} {a1 : Int32} {a2 : Int32} {d : Nat} (hd : 1 ≤ d) (ha0 : isLink a0) {m : xMem} {r : xMem} (h : fX3_move_0 a0 a1 a2 m = some r) : xFx hh_153 cX3_move d 0 [some (.ref a0), some (.int a1), some (.int a2)] [] (xLay m) 0 0 none (xLay r) := by
  unfold fX3_move_0 at h
  refine fx_aload_n dX3_move_0 rfl rfl ?_
  refine fx_iload_n dX3_move_1 rfl rfl ?_
  refine fx_iload_n dX3_move_2 rfl rfl ?_
  refine fx_iconst (x := 1) dX3_move_3 rfl (by decide) ?_
  obtain ⟨x1, hx1, h⟩ := xLet_el h
  refine fx_iadd dX3_move_4 rfl hx1 ?_
  refine fx_aload_n dX3_move_5 rfl rfl ?_
  refine fx_iload_n dX3_move_6 rfl rfl ?_
  refine fx_iload_n dX3_move_7 rfl rfl ?_
  obtain ⟨p2, ep2, h⟩ := xBind_el h
  refine gx_callv (as := [.int a1, .int a2]) (r := [.int x1, .int a1, .ref a0]) rfl dX3_move_8 ca_3_68 rfl me_152 rfl rfl rfl rfl (ha0.1) rfl (fX3_who_ok (d := d) (by omega) ha0 ep2) rfl rfl ?_
  obtain ⟨p3, ep3, h⟩ := xBind_el h
  refine gx_callv (as := [.int a1, .int x1, .int p2.1]) (r := []) rfl dX3_move_11 ca_3_72 rfl me_154 rfl rfl rfl rfl (ha0.1) rfl (fX3_put_ok (d := d) (by omega) ha0 ep3) rfl rfl ?_
  refine fx_aload_n dX3_move_14 rfl rfl ?_
  refine fx_iload_n dX3_move_15 rfl rfl ?_
  refine fx_iload_n dX3_move_16 rfl rfl ?_
  refine fx_iconst (x := -1) dX3_move_17 rfl (by decide) ?_
  obtain ⟨p4, ep4, h⟩ := xBind_el h
  refine gx_callv (as := [.int a1, .int a2, .int (-1 : Int32)]) (r := []) rfl dX3_move_18 ca_3_72 rfl me_154 rfl rfl rfl rfl (ha0.1) rfl (fX3_put_ok (d := d) (by omega) ha0 ep4) rfl rfl ?_
  cases h
  exact fx_return dX3_move_21 rfl rfl
def fX3_move (a0 : Nat) (a1 : Int32) (a2 : Int32) (m : xMem) : Option xMem := fX3_move_0 a0 a1 a2  m
theorem fX3_move_ok {a0 : Nat} {a1 : Int32} {a2 : Int32} {m : xMem} {r : xMem} {d : Nat} (hd : 2 ≤ d) (ha0 : isLink a0) (h : fX3_move a0 a1 a2 m = some r) : xEx d 153 [.ref a0, .int a1, .int a2] (xLay m) none (xLay r) := by
  obtain ⟨d, rfl⟩ : ∃ q, d = q + 1 := ⟨d - 1, by omega⟩
  exact xEx_of me_153 rfl (fX3_move_0_ok (d := d) (by omega) ha0 h)
def fX3_goesOn_32 (a0 : Nat) (a1 : Int32) (a2 : Int32) (s0 : Int32) (m : xMem) : Option (Int32 × xMem) := bif (decide (s0 = 0) || decide (s0 = 1)) then some (s0, m) else none
set_option maxRecDepth 4000 in
theorem fX3_goesOn_32_ok {a0 : Nat} {a1 : Int32} {a2 : Int32} {d : Nat} (hd : 2 ≤ d) (ha0 : isLink a0) {s0 : Int32} {o3 : Option Value} {m : xMem} {r : (Int32 × xMem)} (q3 : xNoD o3 = true) (h : fX3_goesOn_32 a0 a1 a2 s0 m = some r) : xFx hh_151 cX3_goesOn d 32 [some (.ref a0), some (.int a1), some (.int a2), o3] [.int s0] (xLay m) 0 0 (some (.int r.1)) (xLay r.2) := by
  unfold fX3_goesOn_32 at h
  obtain ⟨hb1, h⟩ := xChk_el h
  cases h
  exact fx_ireturn dX3_goesOn_32 rfl (by show ((decide _ || decide _) && _) = true; rw [hb1]; rfl)
def fX3_goesOn_22 (a0 : Nat) (a1 : Int32) (a2 : Int32) (l3 : Int32) (m : xMem) : Option (Int32 × xMem) := if l3 = (-1 : Int32) then fX3_goesOn_32 a0 a1 a2 (0 : Int32) m else fX3_goesOn_32 a0 a1 a2 (1 : Int32) m
set_option maxRecDepth 4000 in
theorem fX3_goesOn_22_ok {a0 : Nat} {a1 : Int32} {a2 : Int32} {d : Nat} (hd : 2 ≤ d) (ha0 : isLink a0) {l3 : Int32} {m : xMem} {r : (Int32 × xMem)} (h : fX3_goesOn_22 a0 a1 a2 l3 m = some r) : xFx hh_151 cX3_goesOn d 22 [some (.ref a0), some (.int a1), some (.int a2), some (.int l3)] [] (xLay m) 0 0 (some (.int r.1)) (xLay r.2) := by
  unfold fX3_goesOn_22 at h
  refine fx_iload_n dX3_goesOn_22 rfl rfl ?_
  refine fx_iconst (x := -1) dX3_goesOn_23 rfl (by decide) ?_
  refine fx_icmp_eq (t := 31) dX3_goesOn_24 rfl rfl (fun hc1 => ?_) (fun hc1 => ?_)
  · rw [if_pos hc1] at h
    refine fx_iconst (x := 0) dX3_goesOn_31 rfl (by decide) ?_
    exact fX3_goesOn_32_ok (o3 := some (.int l3)) hd ha0 rfl h
  · rw [if_neg hc1] at h
    refine fx_iconst (x := 1) dX3_goesOn_27 rfl (by decide) ?_
    refine fx_goto (t := 32) dX3_goesOn_28 rfl rfl ?_
    exact fX3_goesOn_32_ok (o3 := some (.int l3)) hd ha0 rfl h
def fX3_goesOn_92 (a0 : Nat) (a1 : Int32) (a2 : Int32) (s0 : Int32) (m : xMem) : Option (Int32 × xMem) := bif (decide (s0 = 0) || decide (s0 = 1)) then some (s0, m) else none
set_option maxRecDepth 4000 in
theorem fX3_goesOn_92_ok {a0 : Nat} {a1 : Int32} {a2 : Int32} {d : Nat} (hd : 2 ≤ d) (ha0 : isLink a0) {s0 : Int32} {o3 : Option Value} {m : xMem} {r : (Int32 × xMem)} (q3 : xNoD o3 = true) (h : fX3_goesOn_92 a0 a1 a2 s0 m = some r) : xFx hh_151 cX3_goesOn d 92 [some (.ref a0), some (.int a1), some (.int a2), o3] [.int s0] (xLay m) 0 0 (some (.int r.1)) (xLay r.2) := by
  unfold fX3_goesOn_92 at h
  obtain ⟨hb1, h⟩ := xChk_el h
  cases h
  exact fx_ireturn dX3_goesOn_92 rfl (by show ((decide _ || decide _) && _) = true; rw [hb1]; rfl)
def fX3_goesOn_77 (a0 : Nat) (a1 : Int32) (a2 : Int32) (m : xMem) : Option (Int32 × xMem) := xLet (a2 + (2 : Int32)) fun x1 => xLet (m.1 a0 4) fun x2 => if x1 < x2 then fX3_goesOn_92 a0 a1 a2 (0 : Int32) m else fX3_goesOn_92 a0 a1 a2 (1 : Int32) m
set_option maxRecDepth 4000 in
theorem fX3_goesOn_77_ok {a0 : Nat} {a1 : Int32} {a2 : Int32} {d : Nat} (hd : 2 ≤ d) (ha0 : isLink a0) {o3 : Option Value} {m : xMem} {r : (Int32 × xMem)} (q3 : xNoD o3 = true) (h : fX3_goesOn_77 a0 a1 a2 m = some r) : xFx hh_151 cX3_goesOn d 77 [some (.ref a0), some (.int a1), some (.int a2), o3] [] (xLay m) 0 0 (some (.int r.1)) (xLay r.2) := by
  unfold fX3_goesOn_77 at h
  refine fx_iload_n dX3_goesOn_77 rfl rfl ?_
  refine fx_iconst (x := 2) dX3_goesOn_78 rfl (by decide) ?_
  obtain ⟨x1, hx1, h⟩ := xLet_el h
  refine fx_iadd dX3_goesOn_79 rfl hx1 ?_
  refine fx_aload_n dX3_goesOn_80 rfl rfl ?_
  obtain ⟨x2, hx2, h⟩ := xLet_el h
  refine gx_get dX3_goesOn_81 rfl fd_3_25 ha0.1 rfl rfl hx2 ?_
  refine fx_icmp_lt (t := 91) dX3_goesOn_84 rfl rfl (fun hc3 => ?_) (fun hc3 => ?_)
  · rw [if_pos hc3] at h
    refine fx_iconst (x := 0) dX3_goesOn_91 rfl (by decide) ?_
    exact fX3_goesOn_92_ok (o3 := o3) hd ha0 q3 h
  · rw [if_neg hc3] at h
    refine fx_iconst (x := 1) dX3_goesOn_87 rfl (by decide) ?_
    refine fx_goto (t := 92) dX3_goesOn_88 rfl rfl ?_
    exact fX3_goesOn_92_ok (o3 := o3) hd ha0 q3 h
def fX3_goesOn_0 (a0 : Nat) (a1 : Int32) (a2 : Int32) (m : xMem) : Option (Int32 × xMem) := (fX3_who a0 a1 a2 m).bind fun p1 => if p1.1 = (-1 : Int32) then fX3_goesOn_22 a0 a1 a2 p1.1 p1.2 else xLet (p1.2.1 a0 4) fun x3 => xLet (x3 - (1 : Int32)) fun x4 => if a2 < x4 then (fX3_move a0 a1 a2 p1.2).bind fun p6 => if (10 : Int32) ≤ p1.1 then xLet (a2 + (2 : Int32)) fun x8 => xLet (p6.1 a0 4) fun x9 => if x9 ≤ x8 then fX3_goesOn_77 a0 a1 a2 p6 else xLet (a2 + (2 : Int32)) fun x11 => (fX3_who a0 a1 x11 p6).bind fun p12 => if ¬ p12.1 = (-1 : Int32) then fX3_goesOn_77 a0 a1 a2 p12.2 else xLet (a2 + (1 : Int32)) fun x14 => (fX3_move a0 a1 x14 p12.2).bind fun p15 => fX3_goesOn_77 a0 a1 a2 p15 else some ((0 : Int32), p6) else fX3_goesOn_22 a0 a1 a2 p1.1 p1.2
set_option maxRecDepth 4000 in
theorem fX3_goesOn_0_ok {a0 : Nat} {a1 : Int32} {a2 : Int32} {d : Nat} (hd : 2 ≤ d) (ha0 : isLink a0) {o3 : Option Value} {m : xMem} {r : (Int32 × xMem)} (q3 : xNoD o3 = true) (h : fX3_goesOn_0 a0 a1 a2 m = some r) : xFx hh_151 cX3_goesOn d 0 [some (.ref a0), some (.int a1), some (.int a2), o3] [] (xLay m) 0 0 (some (.int r.1)) (xLay r.2) := by
  unfold fX3_goesOn_0 at h
  refine fx_aload_n dX3_goesOn_0 rfl rfl ?_
  refine fx_iload_n dX3_goesOn_1 rfl rfl ?_
  refine fx_iload_n dX3_goesOn_2 rfl rfl ?_
  obtain ⟨p1, ep1, h⟩ := xBind_el h
  refine gx_callv (as := [.int a1, .int a2]) (r := []) rfl dX3_goesOn_3 ca_3_68 rfl me_152 rfl rfl rfl rfl (ha0.1) rfl (fX3_who_ok (d := d) (by omega) ha0 ep1) rfl rfl ?_
  refine fx_istore_n (ls2 := [some (.ref a0), some (.int a1), some (.int a2), some (.int p1.1)]) dX3_goesOn_6 rfl rfl rfl ?_
  refine fx_iload_n dX3_goesOn_7 rfl rfl ?_
  refine fx_iconst (x := -1) dX3_goesOn_8 rfl (by decide) ?_
  refine fx_icmp_eq (t := 22) dX3_goesOn_9 rfl rfl (fun hc2 => ?_) (fun hc2 => ?_)
  · rw [if_pos hc2] at h
    exact fX3_goesOn_22_ok hd ha0 h
  · rw [if_neg hc2] at h
    refine fx_iload_n dX3_goesOn_12 rfl rfl ?_
    refine fx_aload_n dX3_goesOn_13 rfl rfl ?_
    obtain ⟨x3, hx3, h⟩ := xLet_el h
    refine gx_get dX3_goesOn_14 rfl fd_3_25 ha0.1 rfl rfl hx3 ?_
    refine fx_iconst (x := 1) dX3_goesOn_17 rfl (by decide) ?_
    obtain ⟨x4, hx4, h⟩ := xLet_el h
    refine fx_isub dX3_goesOn_18 rfl hx4 ?_
    refine fx_icmp_lt (t := 33) dX3_goesOn_19 rfl rfl (fun hc5 => ?_) (fun hc5 => ?_)
    · rw [if_pos hc5] at h
      refine fx_aload_n dX3_goesOn_33 rfl rfl ?_
      refine fx_iload_n dX3_goesOn_34 rfl rfl ?_
      refine fx_iload_n dX3_goesOn_35 rfl rfl ?_
      obtain ⟨p6, ep6, h⟩ := xBind_el h
      refine gx_callv (as := [.int a1, .int a2]) (r := []) rfl dX3_goesOn_36 ca_3_76 rfl me_153 rfl rfl rfl rfl (ha0.1) rfl (fX3_move_ok (d := d) (by omega) ha0 ep6) rfl rfl ?_
      refine fx_iload_n dX3_goesOn_39 rfl rfl ?_
      refine fx_bipush (x := 10) dX3_goesOn_40 rfl (by decide) ?_
      refine fx_icmp_ge (t := 47) dX3_goesOn_42 rfl rfl (fun hc7 => ?_) (fun hc7 => ?_)
      · rw [if_pos hc7] at h
        refine fx_iload_n dX3_goesOn_47 rfl rfl ?_
        refine fx_iconst (x := 2) dX3_goesOn_48 rfl (by decide) ?_
        obtain ⟨x8, hx8, h⟩ := xLet_el h
        refine fx_iadd dX3_goesOn_49 rfl hx8 ?_
        refine fx_aload_n dX3_goesOn_50 rfl rfl ?_
        obtain ⟨x9, hx9, h⟩ := xLet_el h
        refine gx_get dX3_goesOn_51 rfl fd_3_25 ha0.1 rfl rfl hx9 ?_
        refine fx_icmp_ge (t := 77) dX3_goesOn_54 rfl rfl (fun hc10 => ?_) (fun hc10 => ?_)
        · rw [if_pos hc10] at h
          exact fX3_goesOn_77_ok (o3 := some (.int p1.1)) hd ha0 rfl h
        · rw [if_neg hc10] at h
          refine fx_aload_n dX3_goesOn_57 rfl rfl ?_
          refine fx_iload_n dX3_goesOn_58 rfl rfl ?_
          refine fx_iload_n dX3_goesOn_59 rfl rfl ?_
          refine fx_iconst (x := 2) dX3_goesOn_60 rfl (by decide) ?_
          obtain ⟨x11, hx11, h⟩ := xLet_el h
          refine fx_iadd dX3_goesOn_61 rfl hx11 ?_
          obtain ⟨p12, ep12, h⟩ := xBind_el h
          refine gx_callv (as := [.int a1, .int x11]) (r := []) rfl dX3_goesOn_62 ca_3_68 rfl me_152 rfl rfl rfl rfl (ha0.1) rfl (fX3_who_ok (d := d) (by omega) ha0 ep12) rfl rfl ?_
          refine fx_iconst (x := -1) dX3_goesOn_65 rfl (by decide) ?_
          refine fx_icmp_ne (t := 77) dX3_goesOn_66 rfl rfl (fun hc13 => ?_) (fun hc13 => ?_)
          · rw [if_pos hc13] at h
            exact fX3_goesOn_77_ok (o3 := some (.int p1.1)) hd ha0 rfl h
          · rw [if_neg hc13] at h
            refine fx_aload_n dX3_goesOn_69 rfl rfl ?_
            refine fx_iload_n dX3_goesOn_70 rfl rfl ?_
            refine fx_iload_n dX3_goesOn_71 rfl rfl ?_
            refine fx_iconst (x := 1) dX3_goesOn_72 rfl (by decide) ?_
            obtain ⟨x14, hx14, h⟩ := xLet_el h
            refine fx_iadd dX3_goesOn_73 rfl hx14 ?_
            obtain ⟨p15, ep15, h⟩ := xBind_el h
            refine gx_callv (as := [.int a1, .int x14]) (r := []) rfl dX3_goesOn_74 ca_3_76 rfl me_153 rfl rfl rfl rfl (ha0.1) rfl (fX3_move_ok (d := d) (by omega) ha0 ep15) rfl rfl ?_
            exact fX3_goesOn_77_ok (o3 := some (.int p1.1)) hd ha0 rfl h
      · rw [if_neg hc7] at h
        refine fx_iconst (x := 0) dX3_goesOn_45 rfl (by decide) ?_
        cases h
        exact fx_ireturn dX3_goesOn_46 rfl rfl
    · rw [if_neg hc5] at h
      exact fX3_goesOn_22_ok hd ha0 h
def fX3_goesOn (a0 : Nat) (a1 : Int32) (a2 : Int32) (m : xMem) : Option (Int32 × xMem) := fX3_goesOn_0 a0 a1 a2  m
theorem fX3_goesOn_ok {a0 : Nat} {a1 : Int32} {a2 : Int32} {m : xMem} {r : (Int32 × xMem)} {d : Nat} (hd : 3 ≤ d) (ha0 : isLink a0) (h : fX3_goesOn a0 a1 a2 m = some r) : xEx d 151 [.ref a0, .int a1, .int a2] (xLay m) (some (.int r.1)) (xLay r.2) := by
  obtain ⟨d, rfl⟩ : ∃ q, d = q + 1 := ⟨d - 1, by omega⟩
  exact xEx_of me_151 rfl (fX3_goesOn_0_ok (d := d) (o3 := none) (by omega) ha0 rfl h)
def fX6_moveStair_21 (a0 : Nat) (a1 : Nat) (a2 : Nat) (m : xMem) : Option xMem := some m
set_option maxRecDepth 4000 in
theorem fX6_moveStair_21_ok {a0 : Nat} {a1 : Nat} {a2 : Nat} {d : Nat} (hd : 3 ≤ d) (ha0 : isMover a0) (ha1 : isStation a1) (ha2 : isLink a2) {o3 : Option Value} {o4 : Option Value} {m : xMem} {r : xMem} (q3 : xNoD o3 = true) (q4 : xNoD o4 = true) (h : fX6_moveStair_21 a0 a1 a2 m = some r) : xFx hh_150 cX6_moveStair d 21 [some (.ref a0), some (.ref a1), some (.ref a2), o3, o4] [] (xLay m) 0 0 none (xLay r) := by
  unfold fX6_moveStair_21 at h
  cases h
  exact fx_return dX6_moveStair_21 rfl rfl
def fX6_moveStair_78 (a0 : Nat) (a1 : Nat) (a2 : Nat) (rec24 : Int32 → xMem → Option xMem) (rec37 : Int32 → Int32 → xMem → Option xMem) (l3 : Int32) (l4 : Int32) (m : xMem) : Option xMem := xLet (l4 + (-1 : Int32)) fun x1 => rec37 l3 x1 m
set_option maxRecDepth 4000 in
theorem fX6_moveStair_78_ok {a0 : Nat} {a1 : Nat} {a2 : Nat} {rec24 : Int32 → xMem → Option xMem} {rec37 : Int32 → Int32 → xMem → Option xMem} {d : Nat} (hd : 3 ≤ d) (ha0 : isMover a0) (ha1 : isStation a1) (ha2 : isLink a2) (hrec24 : ∀ (l3 : Int32) (o4 : Option Value) (q4 : xNoD o4 = true) (m : xMem) (r : xMem), rec24 l3 m = some r → xFx hh_150 cX6_moveStair d 24 [some (.ref a0), some (.ref a1), some (.ref a2), some (.int l3), o4] [] (xLay m) 0 0 none (xLay r)) (hrec37 : ∀ (l3 : Int32) (l4 : Int32) (m : xMem) (r : xMem), rec37 l3 l4 m = some r → xFx hh_150 cX6_moveStair d 37 [some (.ref a0), some (.ref a1), some (.ref a2), some (.int l3), some (.int l4)] [] (xLay m) 0 0 none (xLay r)) {l3 : Int32} {l4 : Int32} {m : xMem} {r : xMem} (h : fX6_moveStair_78 a0 a1 a2 rec24 rec37 l3 l4 m = some r) : xFx hh_150 cX6_moveStair d 78 [some (.ref a0), some (.ref a1), some (.ref a2), some (.int l3), some (.int l4)] [] (xLay m) 0 0 none (xLay r) := by
  unfold fX6_moveStair_78 at h
  obtain ⟨x1, hx1, h⟩ := xLet_el h
  refine fx_iinc (ls2 := [some (.ref a0), some (.ref a1), some (.ref a2), some (.int l3), some (.int x1)]) dX6_moveStair_78 rfl rfl rfl hx1 rfl ?_
  refine fx_goto (t := 37) dX6_moveStair_81 rfl rfl ?_
  exact hrec37 l3 x1 m r h
def fX6_moveStair_37 (a0 : Nat) (a1 : Nat) (a2 : Nat) (rec24 : Int32 → xMem → Option xMem) : Nat → Int32 → Int32 → xMem → Option xMem
  | 0, _, _, _ => none
  | fuel + 1, l3, l4, m => if l4 < (0 : Int32) then xLet (l3 + (1 : Int32)) fun x2 => rec24 x2 m else (fX3_goesOn a2 l3 l4 m).bind fun p3 => if p3.1 = (0 : Int32) then fX6_moveStair_78 a0 a1 a2 rec24 (fX6_moveStair_37 a0 a1 a2 rec24 fuel) l3 l4 p3.2 else (fX6_stepOff a0 a1 a2 l3 p3.2).bind fun p5 => if ¬ p5.1 = (0 : Int32) then fX6_moveStair_78 a0 a1 a2 rec24 (fX6_moveStair_37 a0 a1 a2 rec24 fuel) l3 l4 p5.2 else xLet (xPut p5.2 a2 13 (1 : Int32)) fun m7 => xLet (m7.1 a1 15) fun x8 => xLet (x8 + (1 : Int32)) fun x9 => xLet (xPut m7 a1 15 x9) fun m10 => some m10
set_option maxRecDepth 4000 in
theorem fX6_moveStair_37_ok {a0 : Nat} {a1 : Nat} {a2 : Nat} {rec24 : Int32 → xMem → Option xMem} {d : Nat} (hd : 3 ≤ d) (ha0 : isMover a0) (ha1 : isStation a1) (ha2 : isLink a2) (hrec24 : ∀ (l3 : Int32) (o4 : Option Value) (q4 : xNoD o4 = true) (m : xMem) (r : xMem), rec24 l3 m = some r → xFx hh_150 cX6_moveStair d 24 [some (.ref a0), some (.ref a1), some (.ref a2), some (.int l3), o4] [] (xLay m) 0 0 none (xLay r)) : ∀ (fuel : Nat) (l3 : Int32) (l4 : Int32) (m : xMem) (r : xMem), fX6_moveStair_37 a0 a1 a2 rec24 fuel l3 l4 m = some r → xFx hh_150 cX6_moveStair d 37 [some (.ref a0), some (.ref a1), some (.ref a2), some (.int l3), some (.int l4)] [] (xLay m) 0 0 none (xLay r) := by
  intro fuel
  induction fuel with
  | zero => intro l3 l4  m r  h; cases h
  | succ fuel ih =>
    intro l3 l4  m r  h
    unfold fX6_moveStair_37 at h
    refine fx_iload dX6_moveStair_37 rfl rfl ?_
    refine fx_if_lt (t := 84) dX6_moveStair_39 rfl rfl (fun hc1 => ?_) (fun hc1 => ?_)
    · rw [if_pos hc1] at h
      obtain ⟨x2, hx2, h⟩ := xLet_el h
      refine fx_iinc (ls2 := [some (.ref a0), some (.ref a1), some (.ref a2), some (.int x2), some (.int l4)]) dX6_moveStair_84 rfl rfl rfl hx2 rfl ?_
      refine fx_goto (t := 24) dX6_moveStair_87 rfl rfl ?_
      exact hrec24 x2 (some (.int l4)) rfl m r h
    · rw [if_neg hc1] at h
      refine fx_aload_n dX6_moveStair_42 rfl rfl ?_
      refine fx_iload_n dX6_moveStair_43 rfl rfl ?_
      refine fx_iload dX6_moveStair_44 rfl rfl ?_
      obtain ⟨p3, ep3, h⟩ := xBind_el h
      refine gx_callv (as := [.int l3, .int l4]) (r := []) rfl dX6_moveStair_46 ca_6_231 rfl me_151 rfl rfl rfl rfl (ha2.1) rfl (fX3_goesOn_ok (d := d) (by omega) ha2 ep3) rfl rfl ?_
      refine fx_if_eq (t := 78) dX6_moveStair_49 rfl rfl (fun hc4 => ?_) (fun hc4 => ?_)
      · rw [if_pos hc4] at h
        exact fX6_moveStair_78_ok hd ha0 ha1 ha2 hrec24 ih h
      · rw [if_neg hc4] at h
        refine fx_aload_n dX6_moveStair_52 rfl rfl ?_
        refine fx_aload_n dX6_moveStair_53 rfl rfl ?_
        refine fx_aload_n dX6_moveStair_54 rfl rfl ?_
        refine fx_iload_n dX6_moveStair_55 rfl rfl ?_
        obtain ⟨p5, ep5, h⟩ := xBind_el h
        refine gx_callv (as := [.ref a1, .ref a2, .int l3]) (r := []) rfl dX6_moveStair_56 ca_6_234 rfl me_155 rfl rfl rfl rfl (ha0.1) rfl (fX6_stepOff_ok (d := d) (by omega) ha0 ha1 ha2 ep5) rfl rfl ?_
        refine fx_if_ne (t := 78) dX6_moveStair_59 rfl rfl (fun hc6 => ?_) (fun hc6 => ?_)
        · rw [if_pos hc6] at h
          exact fX6_moveStair_78_ok hd ha0 ha1 ha2 hrec24 ih h
        · rw [if_neg hc6] at h
          refine fx_aload_n dX6_moveStair_62 rfl rfl ?_
          refine fx_iconst (x := 1) dX6_moveStair_63 rfl (by decide) ?_
          obtain ⟨m7, hm7, h⟩ := xLet_el h
          refine gx_put dX6_moveStair_64 rfl fd_6_228 ha2.1 rfl rfl rfl hm7 ?_
          refine fx_aload_n dX6_moveStair_67 rfl rfl ?_
          refine fx_dup dX6_moveStair_68 rfl rfl ?_
          obtain ⟨x8, hx8, h⟩ := xLet_el h
          refine gx_get dX6_moveStair_69 rfl fd_6_238 ha1.1 rfl rfl hx8 ?_
          refine fx_iconst (x := 1) dX6_moveStair_72 rfl (by decide) ?_
          obtain ⟨x9, hx9, h⟩ := xLet_el h
          refine fx_iadd dX6_moveStair_73 rfl hx9 ?_
          obtain ⟨m10, hm10, h⟩ := xLet_el h
          refine gx_put dX6_moveStair_74 rfl fd_6_238 ha1.1 rfl rfl rfl hm10 ?_
          cases h
          exact fx_return dX6_moveStair_77 rfl rfl
def fX6_moveStair_24 (a0 : Nat) (a1 : Nat) (a2 : Nat) : Nat → Int32 → xMem → Option xMem
  | 0, _, _ => none
  | fuel + 1, l3, m => if (2 : Int32) ≤ l3 then some m else xLet (m.1 a2 4) fun x2 => xLet (x2 - (1 : Int32)) fun x3 => fX6_moveStair_37 a0 a1 a2 (fX6_moveStair_24 a0 a1 a2 fuel) xFuel l3 x3 m
set_option maxRecDepth 4000 in
theorem fX6_moveStair_24_ok {a0 : Nat} {a1 : Nat} {a2 : Nat} {d : Nat} (hd : 3 ≤ d) (ha0 : isMover a0) (ha1 : isStation a1) (ha2 : isLink a2) : ∀ (fuel : Nat) (l3 : Int32) (o4 : Option Value) (q4 : xNoD o4 = true) (m : xMem) (r : xMem), fX6_moveStair_24 a0 a1 a2 fuel l3 m = some r → xFx hh_150 cX6_moveStair d 24 [some (.ref a0), some (.ref a1), some (.ref a2), some (.int l3), o4] [] (xLay m) 0 0 none (xLay r) := by
  intro fuel
  induction fuel with
  | zero => intro l3 o4 q4 m r  h; cases h
  | succ fuel ih =>
    intro l3 o4 q4 m r  h
    unfold fX6_moveStair_24 at h
    refine fx_iload_n dX6_moveStair_24 rfl rfl ?_
    refine fx_iconst (x := 2) dX6_moveStair_25 rfl (by decide) ?_
    refine fx_icmp_ge (t := 90) dX6_moveStair_26 rfl rfl (fun hc1 => ?_) (fun hc1 => ?_)
    · rw [if_pos hc1] at h
      cases h
      exact fx_return dX6_moveStair_90 rfl rfl
    · rw [if_neg hc1] at h
      refine fx_aload_n dX6_moveStair_29 rfl rfl ?_
      obtain ⟨x2, hx2, h⟩ := xLet_el h
      refine gx_get dX6_moveStair_30 rfl fd_6_189 ha2.1 rfl rfl hx2 ?_
      refine fx_iconst (x := 1) dX6_moveStair_33 rfl (by decide) ?_
      obtain ⟨x3, hx3, h⟩ := xLet_el h
      refine fx_isub dX6_moveStair_34 rfl hx3 ?_
      refine fx_istore (ls2 := [some (.ref a0), some (.ref a1), some (.ref a2), some (.int l3), some (.int x3)]) dX6_moveStair_35 rfl rfl rfl ?_
      exact fX6_moveStair_37_ok hd ha0 ha1 ha2 ih xFuel l3 x3 m r h
def fX6_moveStair_0 (a0 : Nat) (a1 : Nat) (a2 : Nat) (m : xMem) : Option xMem := xLet (m.1 a2 12) fun x1 => if x1 = (0 : Int32) then fX6_moveStair_21 a0 a1 a2 m else xLet (m.1 a2 13) fun x3 => if ¬ x3 = (0 : Int32) then fX6_moveStair_21 a0 a1 a2 m else xLet (m.1 a2 9) fun x5 => if ¬ x5 = (0 : Int32) then fX6_moveStair_24 a0 a1 a2 xFuel (0 : Int32) m else fX6_moveStair_21 a0 a1 a2 m
set_option maxRecDepth 4000 in
theorem fX6_moveStair_0_ok {a0 : Nat} {a1 : Nat} {a2 : Nat} {d : Nat} (hd : 3 ≤ d) (ha0 : isMover a0) (ha1 : isStation a1) (ha2 : isLink a2) {o3 : Option Value} {o4 : Option Value} {m : xMem} {r : xMem} (q3 : xNoD o3 = true) (q4 : xNoD o4 = true) (h : fX6_moveStair_0 a0 a1 a2 m = some r) : xFx hh_150 cX6_moveStair d 0 [some (.ref a0), some (.ref a1), some (.ref a2), o3, o4] [] (xLay m) 0 0 none (xLay r) := by
  unfold fX6_moveStair_0 at h
  refine fx_aload_n dX6_moveStair_0 rfl rfl ?_
  obtain ⟨x1, hx1, h⟩ := xLet_el h
  refine gx_get dX6_moveStair_1 rfl fd_6_225 ha2.1 rfl rfl hx1 ?_
  refine fx_if_eq (t := 21) dX6_moveStair_4 rfl rfl (fun hc2 => ?_) (fun hc2 => ?_)
  · rw [if_pos hc2] at h
    exact fX6_moveStair_21_ok (o3 := o3) (o4 := o4) hd ha0 ha1 ha2 q3 q4 h
  · rw [if_neg hc2] at h
    refine fx_aload_n dX6_moveStair_7 rfl rfl ?_
    obtain ⟨x3, hx3, h⟩ := xLet_el h
    refine gx_get dX6_moveStair_8 rfl fd_6_228 ha2.1 rfl rfl hx3 ?_
    refine fx_if_ne (t := 21) dX6_moveStair_11 rfl rfl (fun hc4 => ?_) (fun hc4 => ?_)
    · rw [if_pos hc4] at h
      exact fX6_moveStair_21_ok (o3 := o3) (o4 := o4) hd ha0 ha1 ha2 q3 q4 h
    · rw [if_neg hc4] at h
      refine fx_aload_n dX6_moveStair_14 rfl rfl ?_
      obtain ⟨x5, hx5, h⟩ := xLet_el h
      refine gx_get dX6_moveStair_15 rfl fd_6_148 ha2.1 rfl rfl hx5 ?_
      refine fx_if_ne (t := 22) dX6_moveStair_18 rfl rfl (fun hc6 => ?_) (fun hc6 => ?_)
      · rw [if_pos hc6] at h
        refine fx_iconst (x := 0) dX6_moveStair_22 rfl (by decide) ?_
        refine fx_istore_n (ls2 := [some (.ref a0), some (.ref a1), some (.ref a2), some (.int (0 : Int32)), o4]) dX6_moveStair_23 rfl rfl rfl ?_
        exact fX6_moveStair_24_ok hd ha0 ha1 ha2 xFuel (0 : Int32) (o4) q4 m r h
      · rw [if_neg hc6] at h
        exact fX6_moveStair_21_ok (o3 := o3) (o4 := o4) hd ha0 ha1 ha2 q3 q4 h
def fX6_moveStair (a0 : Nat) (a1 : Nat) (a2 : Nat) (m : xMem) : Option xMem := fX6_moveStair_0 a0 a1 a2  m
theorem fX6_moveStair_ok {a0 : Nat} {a1 : Nat} {a2 : Nat} {m : xMem} {r : xMem} {d : Nat} (hd : 4 ≤ d) (ha0 : isMover a0) (ha1 : isStation a1) (ha2 : isLink a2) (h : fX6_moveStair a0 a1 a2 m = some r) : xEx d 150 [.ref a0, .ref a1, .ref a2] (xLay m) none (xLay r) := by
  obtain ⟨d, rfl⟩ : ∃ q, d = q + 1 := ⟨d - 1, by omega⟩
  exact xEx_of me_150 rfl (fX6_moveStair_0_ok (d := d) (o3 := none) (o4 := none) (by omega) ha0 ha1 ha2 rfl rfl h)
def fX6_moveFixed_14 (a0 : Nat) (a1 : Nat) (a2 : Nat) (m : xMem) : Option xMem := some m
set_option maxRecDepth 4000 in
theorem fX6_moveFixed_14_ok {a0 : Nat} {a1 : Nat} {a2 : Nat} {d : Nat} (hd : 3 ≤ d) (ha0 : isMover a0) (ha1 : isStation a1) (ha2 : isLink a2) {o3 : Option Value} {o4 : Option Value} {m : xMem} {r : xMem} (q3 : xNoD o3 = true) (q4 : xNoD o4 = true) (h : fX6_moveFixed_14 a0 a1 a2 m = some r) : xFx hh_157 cX6_moveFixed d 14 [some (.ref a0), some (.ref a1), some (.ref a2), o3, o4] [] (xLay m) 0 0 none (xLay r) := by
  unfold fX6_moveFixed_14 at h
  cases h
  exact fx_return dX6_moveFixed_14 rfl rfl
def fX6_moveFixed_63 (a0 : Nat) (a1 : Nat) (a2 : Nat) (rec17 : Int32 → xMem → Option xMem) (rec38 : Int32 → Int32 → xMem → Option xMem) (l3 : Int32) (l4 : Int32) (m : xMem) : Option xMem := xLet (l4 + (-1 : Int32)) fun x1 => rec38 l3 x1 m
set_option maxRecDepth 4000 in
theorem fX6_moveFixed_63_ok {a0 : Nat} {a1 : Nat} {a2 : Nat} {rec17 : Int32 → xMem → Option xMem} {rec38 : Int32 → Int32 → xMem → Option xMem} {d : Nat} (hd : 3 ≤ d) (ha0 : isMover a0) (ha1 : isStation a1) (ha2 : isLink a2) (hrec17 : ∀ (l3 : Int32) (o4 : Option Value) (q4 : xNoD o4 = true) (m : xMem) (r : xMem), rec17 l3 m = some r → xFx hh_157 cX6_moveFixed d 17 [some (.ref a0), some (.ref a1), some (.ref a2), some (.int l3), o4] [] (xLay m) 0 0 none (xLay r)) (hrec38 : ∀ (l3 : Int32) (l4 : Int32) (m : xMem) (r : xMem), rec38 l3 l4 m = some r → xFx hh_157 cX6_moveFixed d 38 [some (.ref a0), some (.ref a1), some (.ref a2), some (.int l3), some (.int l4)] [] (xLay m) 0 0 none (xLay r)) {l3 : Int32} {l4 : Int32} {m : xMem} {r : xMem} (h : fX6_moveFixed_63 a0 a1 a2 rec17 rec38 l3 l4 m = some r) : xFx hh_157 cX6_moveFixed d 63 [some (.ref a0), some (.ref a1), some (.ref a2), some (.int l3), some (.int l4)] [] (xLay m) 0 0 none (xLay r) := by
  unfold fX6_moveFixed_63 at h
  obtain ⟨x1, hx1, h⟩ := xLet_el h
  refine fx_iinc (ls2 := [some (.ref a0), some (.ref a1), some (.ref a2), some (.int l3), some (.int x1)]) dX6_moveFixed_63 rfl rfl rfl hx1 rfl ?_
  refine fx_goto (t := 38) dX6_moveFixed_66 rfl rfl ?_
  exact hrec38 l3 x1 m r h
def fX6_moveFixed_38 (a0 : Nat) (a1 : Nat) (a2 : Nat) (rec17 : Int32 → xMem → Option xMem) : Nat → Int32 → Int32 → xMem → Option xMem
  | 0, _, _, _ => none
  | fuel + 1, l3, l4, m => if l4 < (0 : Int32) then xLet (l3 + (1 : Int32)) fun x2 => rec17 x2 m else xLet (l4 + (1 : Int32)) fun x3 => (fX3_who a2 l3 x3 m).bind fun p4 => if ¬ p4.1 = (-1 : Int32) then fX6_moveFixed_63 a0 a1 a2 rec17 (fX6_moveFixed_38 a0 a1 a2 rec17 fuel) l3 l4 p4.2 else (fX3_move a2 l3 l4 p4.2).bind fun p6 => fX6_moveFixed_63 a0 a1 a2 rec17 (fX6_moveFixed_38 a0 a1 a2 rec17 fuel) l3 l4 p6
set_option maxRecDepth 4000 in
theorem fX6_moveFixed_38_ok {a0 : Nat} {a1 : Nat} {a2 : Nat} {rec17 : Int32 → xMem → Option xMem} {d : Nat} (hd : 3 ≤ d) (ha0 : isMover a0) (ha1 : isStation a1) (ha2 : isLink a2) (hrec17 : ∀ (l3 : Int32) (o4 : Option Value) (q4 : xNoD o4 = true) (m : xMem) (r : xMem), rec17 l3 m = some r → xFx hh_157 cX6_moveFixed d 17 [some (.ref a0), some (.ref a1), some (.ref a2), some (.int l3), o4] [] (xLay m) 0 0 none (xLay r)) : ∀ (fuel : Nat) (l3 : Int32) (l4 : Int32) (m : xMem) (r : xMem), fX6_moveFixed_38 a0 a1 a2 rec17 fuel l3 l4 m = some r → xFx hh_157 cX6_moveFixed d 38 [some (.ref a0), some (.ref a1), some (.ref a2), some (.int l3), some (.int l4)] [] (xLay m) 0 0 none (xLay r) := by
  intro fuel
  induction fuel with
  | zero => intro l3 l4  m r  h; cases h
  | succ fuel ih =>
    intro l3 l4  m r  h
    unfold fX6_moveFixed_38 at h
    refine fx_iload dX6_moveFixed_38 rfl rfl ?_
    refine fx_if_lt (t := 69) dX6_moveFixed_40 rfl rfl (fun hc1 => ?_) (fun hc1 => ?_)
    · rw [if_pos hc1] at h
      obtain ⟨x2, hx2, h⟩ := xLet_el h
      refine fx_iinc (ls2 := [some (.ref a0), some (.ref a1), some (.ref a2), some (.int x2), some (.int l4)]) dX6_moveFixed_69 rfl rfl rfl hx2 rfl ?_
      refine fx_goto (t := 17) dX6_moveFixed_72 rfl rfl ?_
      exact hrec17 x2 (some (.int l4)) rfl m r h
    · rw [if_neg hc1] at h
      refine fx_aload_n dX6_moveFixed_43 rfl rfl ?_
      refine fx_iload_n dX6_moveFixed_44 rfl rfl ?_
      refine fx_iload dX6_moveFixed_45 rfl rfl ?_
      refine fx_iconst (x := 1) dX6_moveFixed_47 rfl (by decide) ?_
      obtain ⟨x3, hx3, h⟩ := xLet_el h
      refine fx_iadd dX6_moveFixed_48 rfl hx3 ?_
      obtain ⟨p4, ep4, h⟩ := xBind_el h
      refine gx_callv (as := [.int l3, .int x3]) (r := []) rfl dX6_moveFixed_49 ca_6_241 rfl me_152 rfl rfl rfl rfl (ha2.1) rfl (fX3_who_ok (d := d) (by omega) ha2 ep4) rfl rfl ?_
      refine fx_iconst (x := -1) dX6_moveFixed_52 rfl (by decide) ?_
      refine fx_icmp_ne (t := 63) dX6_moveFixed_53 rfl rfl (fun hc5 => ?_) (fun hc5 => ?_)
      · rw [if_pos hc5] at h
        exact fX6_moveFixed_63_ok hd ha0 ha1 ha2 hrec17 ih h
      · rw [if_neg hc5] at h
        refine fx_aload_n dX6_moveFixed_56 rfl rfl ?_
        refine fx_iload_n dX6_moveFixed_57 rfl rfl ?_
        refine fx_iload dX6_moveFixed_58 rfl rfl ?_
        obtain ⟨p6, ep6, h⟩ := xBind_el h
        refine gx_callv (as := [.int l3, .int l4]) (r := []) rfl dX6_moveFixed_60 ca_6_250 rfl me_153 rfl rfl rfl rfl (ha2.1) rfl (fX3_move_ok (d := d) (by omega) ha2 ep6) rfl rfl ?_
        exact fX6_moveFixed_63_ok hd ha0 ha1 ha2 hrec17 ih h
def fX6_moveFixed_17 (a0 : Nat) (a1 : Nat) (a2 : Nat) : Nat → Int32 → xMem → Option xMem
  | 0, _, _ => none
  | fuel + 1, l3, m => if (2 : Int32) ≤ l3 then some m else (fX6_stepOff a0 a1 a2 l3 m).bind fun p2 => xLet (p2.2.1 a2 4) fun x3 => xLet (x3 - (2 : Int32)) fun x4 => fX6_moveFixed_38 a0 a1 a2 (fX6_moveFixed_17 a0 a1 a2 fuel) xFuel l3 x4 p2.2
set_option maxRecDepth 4000 in
theorem fX6_moveFixed_17_ok {a0 : Nat} {a1 : Nat} {a2 : Nat} {d : Nat} (hd : 3 ≤ d) (ha0 : isMover a0) (ha1 : isStation a1) (ha2 : isLink a2) : ∀ (fuel : Nat) (l3 : Int32) (o4 : Option Value) (q4 : xNoD o4 = true) (m : xMem) (r : xMem), fX6_moveFixed_17 a0 a1 a2 fuel l3 m = some r → xFx hh_157 cX6_moveFixed d 17 [some (.ref a0), some (.ref a1), some (.ref a2), some (.int l3), o4] [] (xLay m) 0 0 none (xLay r) := by
  intro fuel
  induction fuel with
  | zero => intro l3 o4 q4 m r  h; cases h
  | succ fuel ih =>
    intro l3 o4 q4 m r  h
    unfold fX6_moveFixed_17 at h
    refine fx_iload_n dX6_moveFixed_17 rfl rfl ?_
    refine fx_iconst (x := 2) dX6_moveFixed_18 rfl (by decide) ?_
    refine fx_icmp_ge (t := 75) dX6_moveFixed_19 rfl rfl (fun hc1 => ?_) (fun hc1 => ?_)
    · rw [if_pos hc1] at h
      cases h
      exact fx_return dX6_moveFixed_75 rfl rfl
    · rw [if_neg hc1] at h
      refine fx_aload_n dX6_moveFixed_22 rfl rfl ?_
      refine fx_aload_n dX6_moveFixed_23 rfl rfl ?_
      refine fx_aload_n dX6_moveFixed_24 rfl rfl ?_
      refine fx_iload_n dX6_moveFixed_25 rfl rfl ?_
      obtain ⟨p2, ep2, h⟩ := xBind_el h
      refine gx_callv (as := [.ref a1, .ref a2, .int l3]) (r := []) rfl dX6_moveFixed_26 ca_6_234 rfl me_155 rfl rfl rfl rfl (ha0.1) rfl (fX6_stepOff_ok (d := d) (by omega) ha0 ha1 ha2 ep2) rfl rfl ?_
      refine fx_pop dX6_moveFixed_29 rfl rfl ?_
      refine fx_aload_n dX6_moveFixed_30 rfl rfl ?_
      obtain ⟨x3, hx3, h⟩ := xLet_el h
      refine gx_get dX6_moveFixed_31 rfl fd_6_189 ha2.1 rfl rfl hx3 ?_
      refine fx_iconst (x := 2) dX6_moveFixed_34 rfl (by decide) ?_
      obtain ⟨x4, hx4, h⟩ := xLet_el h
      refine fx_isub dX6_moveFixed_35 rfl hx4 ?_
      refine fx_istore (ls2 := [some (.ref a0), some (.ref a1), some (.ref a2), some (.int l3), some (.int x4)]) dX6_moveFixed_36 rfl rfl rfl ?_
      exact fX6_moveFixed_38_ok hd ha0 ha1 ha2 ih xFuel l3 x4 p2.2 r h
def fX6_moveFixed_0 (a0 : Nat) (a1 : Nat) (a2 : Nat) (m : xMem) : Option xMem := xLet (m.1 a2 12) fun x1 => if x1 = (0 : Int32) then fX6_moveFixed_14 a0 a1 a2 m else xLet (m.1 a2 9) fun x3 => if ¬ x3 = (0 : Int32) then fX6_moveFixed_17 a0 a1 a2 xFuel (0 : Int32) m else fX6_moveFixed_14 a0 a1 a2 m
set_option maxRecDepth 4000 in
theorem fX6_moveFixed_0_ok {a0 : Nat} {a1 : Nat} {a2 : Nat} {d : Nat} (hd : 3 ≤ d) (ha0 : isMover a0) (ha1 : isStation a1) (ha2 : isLink a2) {o3 : Option Value} {o4 : Option Value} {m : xMem} {r : xMem} (q3 : xNoD o3 = true) (q4 : xNoD o4 = true) (h : fX6_moveFixed_0 a0 a1 a2 m = some r) : xFx hh_157 cX6_moveFixed d 0 [some (.ref a0), some (.ref a1), some (.ref a2), o3, o4] [] (xLay m) 0 0 none (xLay r) := by
  unfold fX6_moveFixed_0 at h
  refine fx_aload_n dX6_moveFixed_0 rfl rfl ?_
  obtain ⟨x1, hx1, h⟩ := xLet_el h
  refine gx_get dX6_moveFixed_1 rfl fd_6_225 ha2.1 rfl rfl hx1 ?_
  refine fx_if_eq (t := 14) dX6_moveFixed_4 rfl rfl (fun hc2 => ?_) (fun hc2 => ?_)
  · rw [if_pos hc2] at h
    exact fX6_moveFixed_14_ok (o3 := o3) (o4 := o4) hd ha0 ha1 ha2 q3 q4 h
  · rw [if_neg hc2] at h
    refine fx_aload_n dX6_moveFixed_7 rfl rfl ?_
    obtain ⟨x3, hx3, h⟩ := xLet_el h
    refine gx_get dX6_moveFixed_8 rfl fd_6_148 ha2.1 rfl rfl hx3 ?_
    refine fx_if_ne (t := 15) dX6_moveFixed_11 rfl rfl (fun hc4 => ?_) (fun hc4 => ?_)
    · rw [if_pos hc4] at h
      refine fx_iconst (x := 0) dX6_moveFixed_15 rfl (by decide) ?_
      refine fx_istore_n (ls2 := [some (.ref a0), some (.ref a1), some (.ref a2), some (.int (0 : Int32)), o4]) dX6_moveFixed_16 rfl rfl rfl ?_
      exact fX6_moveFixed_17_ok hd ha0 ha1 ha2 xFuel (0 : Int32) (o4) q4 m r h
    · rw [if_neg hc4] at h
      exact fX6_moveFixed_14_ok (o3 := o3) (o4 := o4) hd ha0 ha1 ha2 q3 q4 h
def fX6_moveFixed (a0 : Nat) (a1 : Nat) (a2 : Nat) (m : xMem) : Option xMem := fX6_moveFixed_0 a0 a1 a2  m
theorem fX6_moveFixed_ok {a0 : Nat} {a1 : Nat} {a2 : Nat} {m : xMem} {r : xMem} {d : Nat} (hd : 4 ≤ d) (ha0 : isMover a0) (ha1 : isStation a1) (ha2 : isLink a2) (h : fX6_moveFixed a0 a1 a2 m = some r) : xEx d 157 [.ref a0, .ref a1, .ref a2] (xLay m) none (xLay r) := by
  obtain ⟨d, rfl⟩ : ∃ q, d = q + 1 := ⟨d - 1, by omega⟩
  exact xEx_of me_157 rfl (fX6_moveFixed_0_ok (d := d) (o3 := none) (o4 := none) (by omega) ha0 ha1 ha2 rfl rfl h)
def fX3_sideFor_29 (a0 : Nat) (a1 : Int32) (a2 : Int32) (s0 : Int32) (m : xMem) : Option (Int32 × xMem) := some (s0, m)
set_option maxRecDepth 4000 in
theorem fX3_sideFor_29_ok {a0 : Nat} {a1 : Int32} {a2 : Int32} {d : Nat} (hd : 1 ≤ d) (ha0 : isLink a0) {s0 : Int32} {o3 : Option Value} {m : xMem} {r : (Int32 × xMem)} (q3 : xNoD o3 = true) (h : fX3_sideFor_29 a0 a1 a2 s0 m = some r) : xFx hh_159 cX3_sideFor d 29 [some (.ref a0), some (.int a1), some (.int a2), o3] [.int s0] (xLay m) 0 0 (some (.int r.1)) (xLay r.2) := by
  unfold fX3_sideFor_29 at h
  cases h
  exact fx_ireturn dX3_sideFor_29 rfl rfl
def fX3_sideFor_13 (a0 : Nat) (a1 : Int32) (a2 : Int32) (s0 : Int32) (m : xMem) : Option (Int32 × xMem) := (fX3_who a0 s0 (0 : Int32) m).bind fun p1 => if ¬ p1.1 = (-1 : Int32) then fX3_sideFor_29 a0 a1 a2 (-1 : Int32) p1.2 else fX3_sideFor_29 a0 a1 a2 s0 p1.2
set_option maxRecDepth 4000 in
theorem fX3_sideFor_13_ok {a0 : Nat} {a1 : Int32} {a2 : Int32} {d : Nat} (hd : 1 ≤ d) (ha0 : isLink a0) {s0 : Int32} {o3 : Option Value} {m : xMem} {r : (Int32 × xMem)} (q3 : xNoD o3 = true) (h : fX3_sideFor_13 a0 a1 a2 s0 m = some r) : xFx hh_159 cX3_sideFor d 13 [some (.ref a0), some (.int a1), some (.int a2), o3] [.int s0] (xLay m) 0 0 (some (.int r.1)) (xLay r.2) := by
  unfold fX3_sideFor_13 at h
  refine fx_istore_n (ls2 := [some (.ref a0), some (.int a1), some (.int a2), some (.int s0)]) dX3_sideFor_13 rfl rfl rfl ?_
  refine fx_aload_n dX3_sideFor_14 rfl rfl ?_
  refine fx_iload_n dX3_sideFor_15 rfl rfl ?_
  refine fx_iconst (x := 0) dX3_sideFor_16 rfl (by decide) ?_
  obtain ⟨p1, ep1, h⟩ := xBind_el h
  refine gx_callv (as := [.int s0, .int (0 : Int32)]) (r := []) rfl dX3_sideFor_17 ca_3_68 rfl me_152 rfl rfl rfl rfl (ha0.1) rfl (fX3_who_ok (d := d) (by omega) ha0 ep1) rfl rfl ?_
  refine fx_iconst (x := -1) dX3_sideFor_20 rfl (by decide) ?_
  refine fx_icmp_ne (t := 28) dX3_sideFor_21 rfl rfl (fun hc2 => ?_) (fun hc2 => ?_)
  · rw [if_pos hc2] at h
    refine fx_iconst (x := -1) dX3_sideFor_28 rfl (by decide) ?_
    exact fX3_sideFor_29_ok (o3 := some (.int s0)) hd ha0 rfl h
  · rw [if_neg hc2] at h
    refine fx_iload_n dX3_sideFor_24 rfl rfl ?_
    refine fx_goto (t := 29) dX3_sideFor_25 rfl rfl ?_
    exact fX3_sideFor_29_ok (o3 := some (.int s0)) hd ha0 rfl h
def fX3_sideFor_57 (a0 : Nat) (a1 : Int32) (a2 : Int32) (s0 : Int32) (m : xMem) : Option (Int32 × xMem) := some (s0, m)
set_option maxRecDepth 4000 in
theorem fX3_sideFor_57_ok {a0 : Nat} {a1 : Int32} {a2 : Int32} {d : Nat} (hd : 1 ≤ d) (ha0 : isLink a0) {s0 : Int32} {o3 : Option Value} {m : xMem} {r : (Int32 × xMem)} (q3 : xNoD o3 = true) (h : fX3_sideFor_57 a0 a1 a2 s0 m = some r) : xFx hh_159 cX3_sideFor d 57 [some (.ref a0), some (.int a1), some (.int a2), o3] [.int s0] (xLay m) 0 0 (some (.int r.1)) (xLay r.2) := by
  unfold fX3_sideFor_57 at h
  cases h
  exact fx_ireturn dX3_sideFor_57 rfl rfl
def fX3_sideFor_0 (a0 : Nat) (a1 : Int32) (a2 : Int32) (m : xMem) : Option (Int32 × xMem) := if a2 = (0 : Int32) then (fX3_who a0 (0 : Int32) (0 : Int32) m).bind fun p2 => if ¬ p2.1 = (-1 : Int32) then (fX3_who a0 (1 : Int32) (0 : Int32) p2.2).bind fun p4 => if ¬ p4.1 = (-1 : Int32) then fX3_sideFor_57 a0 a1 a2 (-1 : Int32) p4.2 else fX3_sideFor_57 a0 a1 a2 (1 : Int32) p4.2 else some ((0 : Int32), p2.2) else if a1 = (0 : Int32) then fX3_sideFor_13 a0 a1 a2 (0 : Int32) m else fX3_sideFor_13 a0 a1 a2 (1 : Int32) m
set_option maxRecDepth 4000 in
theorem fX3_sideFor_0_ok {a0 : Nat} {a1 : Int32} {a2 : Int32} {d : Nat} (hd : 1 ≤ d) (ha0 : isLink a0) {o3 : Option Value} {m : xMem} {r : (Int32 × xMem)} (q3 : xNoD o3 = true) (h : fX3_sideFor_0 a0 a1 a2 m = some r) : xFx hh_159 cX3_sideFor d 0 [some (.ref a0), some (.int a1), some (.int a2), o3] [] (xLay m) 0 0 (some (.int r.1)) (xLay r.2) := by
  unfold fX3_sideFor_0 at h
  refine fx_iload_n dX3_sideFor_0 rfl rfl ?_
  refine fx_if_eq (t := 30) dX3_sideFor_1 rfl rfl (fun hc1 => ?_) (fun hc1 => ?_)
  · rw [if_pos hc1] at h
    refine fx_aload_n dX3_sideFor_30 rfl rfl ?_
    refine fx_iconst (x := 0) dX3_sideFor_31 rfl (by decide) ?_
    refine fx_iconst (x := 0) dX3_sideFor_32 rfl (by decide) ?_
    obtain ⟨p2, ep2, h⟩ := xBind_el h
    refine gx_callv (as := [.int (0 : Int32), .int (0 : Int32)]) (r := []) rfl dX3_sideFor_33 ca_3_68 rfl me_152 rfl rfl rfl rfl (ha0.1) rfl (fX3_who_ok (d := d) (by omega) ha0 ep2) rfl rfl ?_
    refine fx_iconst (x := -1) dX3_sideFor_36 rfl (by decide) ?_
    refine fx_icmp_ne (t := 42) dX3_sideFor_37 rfl rfl (fun hc3 => ?_) (fun hc3 => ?_)
    · rw [if_pos hc3] at h
      refine fx_aload_n dX3_sideFor_42 rfl rfl ?_
      refine fx_iconst (x := 1) dX3_sideFor_43 rfl (by decide) ?_
      refine fx_iconst (x := 0) dX3_sideFor_44 rfl (by decide) ?_
      obtain ⟨p4, ep4, h⟩ := xBind_el h
      refine gx_callv (as := [.int (1 : Int32), .int (0 : Int32)]) (r := []) rfl dX3_sideFor_45 ca_3_68 rfl me_152 rfl rfl rfl rfl (ha0.1) rfl (fX3_who_ok (d := d) (by omega) ha0 ep4) rfl rfl ?_
      refine fx_iconst (x := -1) dX3_sideFor_48 rfl (by decide) ?_
      refine fx_icmp_ne (t := 56) dX3_sideFor_49 rfl rfl (fun hc5 => ?_) (fun hc5 => ?_)
      · rw [if_pos hc5] at h
        refine fx_iconst (x := -1) dX3_sideFor_56 rfl (by decide) ?_
        exact fX3_sideFor_57_ok (o3 := o3) hd ha0 q3 h
      · rw [if_neg hc5] at h
        refine fx_iconst (x := 1) dX3_sideFor_52 rfl (by decide) ?_
        refine fx_goto (t := 57) dX3_sideFor_53 rfl rfl ?_
        exact fX3_sideFor_57_ok (o3 := o3) hd ha0 q3 h
    · rw [if_neg hc3] at h
      refine fx_iconst (x := 0) dX3_sideFor_40 rfl (by decide) ?_
      cases h
      exact fx_ireturn dX3_sideFor_41 rfl rfl
  · rw [if_neg hc1] at h
    refine fx_iload_n dX3_sideFor_4 rfl rfl ?_
    refine fx_if_eq (t := 12) dX3_sideFor_5 rfl rfl (fun hc6 => ?_) (fun hc6 => ?_)
    · rw [if_pos hc6] at h
      refine fx_iconst (x := 0) dX3_sideFor_12 rfl (by decide) ?_
      exact fX3_sideFor_13_ok (o3 := o3) hd ha0 q3 h
    · rw [if_neg hc6] at h
      refine fx_iconst (x := 1) dX3_sideFor_8 rfl (by decide) ?_
      refine fx_goto (t := 13) dX3_sideFor_9 rfl rfl ?_
      exact fX3_sideFor_13_ok (o3 := o3) hd ha0 q3 h
def fX3_sideFor (a0 : Nat) (a1 : Int32) (a2 : Int32) (m : xMem) : Option (Int32 × xMem) := fX3_sideFor_0 a0 a1 a2  m
theorem fX3_sideFor_ok {a0 : Nat} {a1 : Int32} {a2 : Int32} {m : xMem} {r : (Int32 × xMem)} {d : Nat} (hd : 2 ≤ d) (ha0 : isLink a0) (h : fX3_sideFor a0 a1 a2 m = some r) : xEx d 159 [.ref a0, .int a1, .int a2] (xLay m) (some (.int r.1)) (xLay r.2) := by
  obtain ⟨d, rfl⟩ : ∃ q, d = q + 1 := ⟨d - 1, by omega⟩
  exact xEx_of me_159 rfl (fX3_sideFor_0_ok (d := d) (o3 := none) (by omega) ha0 rfl h)
def fX6_takeUpToTwo_36 (a0 : Nat) (a1 : Nat) (a2 : Int32) (a3 : Int32) (m : xMem) : Option xMem := some m
set_option maxRecDepth 4000 in
theorem fX6_takeUpToTwo_36_ok {a0 : Nat} {a1 : Nat} {a2 : Int32} {a3 : Int32} {d : Nat} (hd : 2 ≤ d) (ha0 : isMover a0) (ha1 : isStation a1) {o4 : Option Value} {o5 : Option Value} {o6 : Option Value} {o7 : Option Value} {o8 : Option Value} {o9 : Option Value} {o10 : Option Value} {m : xMem} {r : xMem} (q4 : xNoD o4 = true) (q5 : xNoD o5 = true) (q6 : xNoD o6 = true) (q7 : xNoD o7 = true) (q8 : xNoD o8 = true) (q9 : xNoD o9 = true) (q10 : xNoD o10 = true) (h : fX6_takeUpToTwo_36 a0 a1 a2 a3 m = some r) : xFx hh_158 cX6_takeUpToTwo d 36 [some (.ref a0), some (.ref a1), some (.int a2), some (.int a3), o4, o5, o6, o7, o8, o9, o10] [] (xLay m) 0 0 none (xLay r) := by
  unfold fX6_takeUpToTwo_36 at h
  cases h
  exact fx_return dX6_takeUpToTwo_36 rfl rfl
def fX6_takeUpToTwo_152 (a0 : Nat) (a1 : Nat) (a2 : Int32) (a3 : Int32) (m : xMem) : Option xMem := some m
set_option maxRecDepth 4000 in
theorem fX6_takeUpToTwo_152_ok {a0 : Nat} {a1 : Nat} {a2 : Int32} {a3 : Int32} {d : Nat} (hd : 2 ≤ d) (ha0 : isMover a0) (ha1 : isStation a1) {o4 : Option Value} {o5 : Option Value} {o6 : Option Value} {o7 : Option Value} {o8 : Option Value} {o9 : Option Value} {o10 : Option Value} {m : xMem} {r : xMem} (q4 : xNoD o4 = true) (q5 : xNoD o5 = true) (q6 : xNoD o6 = true) (q7 : xNoD o7 = true) (q8 : xNoD o8 = true) (q9 : xNoD o9 = true) (q10 : xNoD o10 = true) (h : fX6_takeUpToTwo_152 a0 a1 a2 a3 m = some r) : xFx hh_158 cX6_takeUpToTwo d 152 [some (.ref a0), some (.ref a1), some (.int a2), some (.int a3), o4, o5, o6, o7, o8, o9, o10] [] (xLay m) 0 0 none (xLay r) := by
  unfold fX6_takeUpToTwo_152 at h
  cases h
  exact fx_return dX6_takeUpToTwo_152 rfl rfl
def fX6_takeUpToTwo_190 (a0 : Nat) (a1 : Nat) (a2 : Int32) (a3 : Int32) (rec71 : Nat → Int32 → Int32 → xMem → Option xMem) (l4 : Nat) (l5 : Int32) (l6 : Int32) (s0 : Nat) (s1 : Int32) (s2 : Int32) (s3 : Int32) (m : xMem) : Option xMem := (fX3_put s0 s1 s2 s3 m).bind fun p1 => xLet (p1.1 l4 9) fun x2 => xLet (x2 + (1 : Int32)) fun x3 => xLet (xPut p1 l4 9 x3) fun m4 => xLet (m4.1 l4 10) fun x5 => xLet (x5 + (1 : Int32)) fun x6 => xLet (xPut m4 l4 10 x6) fun m7 => xLet (l6 + (1 : Int32)) fun x8 => rec71 l4 l5 x8 m7
set_option maxRecDepth 4000 in
theorem fX6_takeUpToTwo_190_ok {a0 : Nat} {a1 : Nat} {a2 : Int32} {a3 : Int32} {rec71 : Nat → Int32 → Int32 → xMem → Option xMem} {d : Nat} (hd : 2 ≤ d) (ha0 : isMover a0) (ha1 : isStation a1) (hrec71 : ∀ (l4 : Nat) (l5 : Int32) (l6 : Int32) (o7 : Option Value) (o8 : Option Value) (o9 : Option Value) (o10 : Option Value) (q7 : xNoD o7 = true) (q8 : xNoD o8 = true) (q9 : xNoD o9 = true) (q10 : xNoD o10 = true) (m : xMem) (r : xMem) (hl4 : isLink l4), rec71 l4 l5 l6 m = some r → xFx hh_158 cX6_takeUpToTwo d 71 [some (.ref a0), some (.ref a1), some (.int a2), some (.int a3), some (.ref l4), some (.int l5), some (.int l6), o7, o8, o9, o10] [] (xLay m) 0 0 none (xLay r)) {l4 : Nat} {l5 : Int32} {l6 : Int32} {s0 : Nat} {s1 : Int32} {s2 : Int32} {s3 : Int32} {o7 : Option Value} {o8 : Option Value} {o9 : Option Value} {o10 : Option Value} {m : xMem} {r : xMem} (hl4 : isLink l4) (hs0 : isLink s0) (q7 : xNoD o7 = true) (q8 : xNoD o8 = true) (q9 : xNoD o9 = true) (q10 : xNoD o10 = true) (h : fX6_takeUpToTwo_190 a0 a1 a2 a3 rec71 l4 l5 l6 s0 s1 s2 s3 m = some r) : xFx hh_158 cX6_takeUpToTwo d 190 [some (.ref a0), some (.ref a1), some (.int a2), some (.int a3), some (.ref l4), some (.int l5), some (.int l6), o7, o8, o9, o10] [.int s3, .int s2, .int s1, .ref s0] (xLay m) 0 0 none (xLay r) := by
  unfold fX6_takeUpToTwo_190 at h
  obtain ⟨p1, ep1, h⟩ := xBind_el h
  refine gx_callv (as := [.int s1, .int s2, .int s3]) (r := []) rfl dX6_takeUpToTwo_190 ca_6_247 rfl me_154 rfl rfl rfl rfl (hs0.1) rfl (fX3_put_ok (d := d) (by omega) hs0 ep1) rfl rfl ?_
  refine fx_aload dX6_takeUpToTwo_193 rfl rfl ?_
  refine fx_dup dX6_takeUpToTwo_195 rfl rfl ?_
  obtain ⟨x2, hx2, h⟩ := xLet_el h
  refine gx_get dX6_takeUpToTwo_196 rfl fd_6_148 hl4.1 rfl rfl hx2 ?_
  refine fx_iconst (x := 1) dX6_takeUpToTwo_199 rfl (by decide) ?_
  obtain ⟨x3, hx3, h⟩ := xLet_el h
  refine fx_iadd dX6_takeUpToTwo_200 rfl hx3 ?_
  obtain ⟨m4, hm4, h⟩ := xLet_el h
  refine gx_put dX6_takeUpToTwo_201 rfl fd_6_148 hl4.1 rfl rfl rfl hm4 ?_
  refine fx_aload dX6_takeUpToTwo_204 rfl rfl ?_
  refine fx_dup dX6_takeUpToTwo_206 rfl rfl ?_
  obtain ⟨x5, hx5, h⟩ := xLet_el h
  refine gx_get dX6_takeUpToTwo_207 rfl fd_6_201 hl4.1 rfl rfl hx5 ?_
  refine fx_iconst (x := 1) dX6_takeUpToTwo_210 rfl (by decide) ?_
  obtain ⟨x6, hx6, h⟩ := xLet_el h
  refine fx_iadd dX6_takeUpToTwo_211 rfl hx6 ?_
  obtain ⟨m7, hm7, h⟩ := xLet_el h
  refine gx_put dX6_takeUpToTwo_212 rfl fd_6_201 hl4.1 rfl rfl rfl hm7 ?_
  obtain ⟨x8, hx8, h⟩ := xLet_el h
  refine fx_iinc (ls2 := [some (.ref a0), some (.ref a1), some (.int a2), some (.int a3), some (.ref l4), some (.int l5), some (.int x8), o7, o8, o9, o10]) dX6_takeUpToTwo_215 rfl rfl rfl hx8 rfl ?_
  refine fx_goto (t := 71) dX6_takeUpToTwo_218 rfl rfl ?_
  exact hrec71 l4 l5 x8 (o7) (o8) (o9) (o10) q7 q8 q9 q10 m7 r hl4 h
def fX6_takeUpToTwo_127 (a0 : Nat) (a1 : Nat) (a2 : Int32) (a3 : Int32) (rec71 : Nat → Int32 → Int32 → xMem → Option xMem) (l4 : Nat) (l5 : Int32) (l6 : Int32) (l7 : Int32) (s0 : Int32) (m : xMem) : Option xMem := (fX3_sideFor l4 s0 l5 m).bind fun p1 => if l7 = (-1 : Int32) then fX6_takeUpToTwo_152 a0 a1 a2 a3 p1.2 else if ¬ p1.1 = (-1 : Int32) then (fX3_foot l4 p1.2).bind fun p4 => bif xIn p4.1 6 then xLet (a1 + 15 + 3 * p4.1.toNatClampNeg) fun r6 => (fX2_change r6 l7 (0 : Int32) (-1 : Int32) p4.2).bind fun p7 => if s0 = (0 : Int32) then fX6_takeUpToTwo_190 a0 a1 a2 a3 rec71 l4 l5 l6 l4 p1.1 (0 : Int32) l7 p7 else xLet (l7 + (10 : Int32)) fun x9 => fX6_takeUpToTwo_190 a0 a1 a2 a3 rec71 l4 l5 l6 l4 p1.1 (0 : Int32) x9 p7 else none else fX6_takeUpToTwo_152 a0 a1 a2 a3 p1.2
set_option maxRecDepth 4000 in
theorem fX6_takeUpToTwo_127_ok {a0 : Nat} {a1 : Nat} {a2 : Int32} {a3 : Int32} {rec71 : Nat → Int32 → Int32 → xMem → Option xMem} {d : Nat} (hd : 2 ≤ d) (ha0 : isMover a0) (ha1 : isStation a1) (hrec71 : ∀ (l4 : Nat) (l5 : Int32) (l6 : Int32) (o7 : Option Value) (o8 : Option Value) (o9 : Option Value) (o10 : Option Value) (q7 : xNoD o7 = true) (q8 : xNoD o8 = true) (q9 : xNoD o9 = true) (q10 : xNoD o10 = true) (m : xMem) (r : xMem) (hl4 : isLink l4), rec71 l4 l5 l6 m = some r → xFx hh_158 cX6_takeUpToTwo d 71 [some (.ref a0), some (.ref a1), some (.int a2), some (.int a3), some (.ref l4), some (.int l5), some (.int l6), o7, o8, o9, o10] [] (xLay m) 0 0 none (xLay r)) {l4 : Nat} {l5 : Int32} {l6 : Int32} {l7 : Int32} {s0 : Int32} {o8 : Option Value} {o9 : Option Value} {o10 : Option Value} {m : xMem} {r : xMem} (hl4 : isLink l4) (q8 : xNoD o8 = true) (q9 : xNoD o9 = true) (q10 : xNoD o10 = true) (h : fX6_takeUpToTwo_127 a0 a1 a2 a3 rec71 l4 l5 l6 l7 s0 m = some r) : xFx hh_158 cX6_takeUpToTwo d 127 [some (.ref a0), some (.ref a1), some (.int a2), some (.int a3), some (.ref l4), some (.int l5), some (.int l6), some (.int l7), o8, o9, o10] [.int s0] (xLay m) 0 0 none (xLay r) := by
  unfold fX6_takeUpToTwo_127 at h
  refine fx_istore (ls2 := [some (.ref a0), some (.ref a1), some (.int a2), some (.int a3), some (.ref l4), some (.int l5), some (.int l6), some (.int l7), o8, some (.int s0), o10]) dX6_takeUpToTwo_127 rfl (xGd (j := 8) rfl rfl q8 rfl) rfl ?_
  refine fx_aload dX6_takeUpToTwo_129 rfl rfl ?_
  refine fx_iload dX6_takeUpToTwo_131 rfl rfl ?_
  refine fx_iload dX6_takeUpToTwo_133 rfl rfl ?_
  obtain ⟨p1, ep1, h⟩ := xBind_el h
  refine gx_callv (as := [.int s0, .int l5]) (r := []) rfl dX6_takeUpToTwo_135 ca_6_261 rfl me_159 rfl rfl rfl rfl (hl4.1) rfl (fX3_sideFor_ok (d := d) (by omega) hl4 ep1) rfl rfl ?_
  refine fx_istore (ls2 := [some (.ref a0), some (.ref a1), some (.int a2), some (.int a3), some (.ref l4), some (.int l5), some (.int l6), some (.int l7), o8, some (.int s0), some (.int p1.1)]) dX6_takeUpToTwo_138 rfl rfl rfl ?_
  refine fx_iload dX6_takeUpToTwo_140 rfl rfl ?_
  refine fx_iconst (x := -1) dX6_takeUpToTwo_142 rfl (by decide) ?_
  refine fx_icmp_eq (t := 152) dX6_takeUpToTwo_143 rfl rfl (fun hc2 => ?_) (fun hc2 => ?_)
  · rw [if_pos hc2] at h
    exact fX6_takeUpToTwo_152_ok (o4 := some (.ref l4)) (o5 := some (.int l5)) (o6 := some (.int l6)) (o7 := some (.int l7)) (o8 := o8) (o9 := some (.int s0)) (o10 := some (.int p1.1)) hd ha0 ha1 rfl rfl rfl rfl q8 rfl rfl h
  · rw [if_neg hc2] at h
    refine fx_iload dX6_takeUpToTwo_146 rfl rfl ?_
    refine fx_iconst (x := -1) dX6_takeUpToTwo_148 rfl (by decide) ?_
    refine fx_icmp_ne (t := 153) dX6_takeUpToTwo_149 rfl rfl (fun hc3 => ?_) (fun hc3 => ?_)
    · rw [if_pos hc3] at h
      refine fx_aload_n dX6_takeUpToTwo_153 rfl rfl ?_
      refine gx_getr dX6_takeUpToTwo_154 rfl fd_6_96 ha1.1 rfl rfl ?_
      refine fx_aload dX6_takeUpToTwo_157 rfl rfl ?_
      obtain ⟨p4, ep4, h⟩ := xBind_el h
      refine gx_callv (as := []) (r := [.ref (a1 + 1)]) rfl dX6_takeUpToTwo_159 ca_6_217 rfl me_137 rfl rfl rfl rfl (hl4.1) rfl (fX3_foot_ok (d := d) (by omega) hl4 ep4) rfl rfl ?_
      obtain ⟨hj5, h⟩ := xChk_el h
      obtain ⟨r6, hr6, h⟩ := xLet_el h
      refine gx_aaload (t := 4) dX6_takeUpToTwo_162 rfl ha1.2.1 rfl hj5 ((xRef_at (sl_9_0 a1) hj5).trans (congrArg some hr6)) ?_
      have hpr6 : isHall r6 := by rw [← hr6]; exact ha1.2.2.2.2.2.2.2.1 _ (xIn_lt hj5)
      refine fx_iload dX6_takeUpToTwo_163 rfl rfl ?_
      refine fx_iconst (x := 0) dX6_takeUpToTwo_165 rfl (by decide) ?_
      refine fx_iconst (x := -1) dX6_takeUpToTwo_166 rfl (by decide) ?_
      obtain ⟨p7, ep7, h⟩ := xBind_el h
      refine gx_callv (as := [.int l7, .int (0 : Int32), .int (-1 : Int32)]) (r := []) rfl dX6_takeUpToTwo_167 ca_6_198 rfl me_124 rfl rfl rfl rfl (hpr6.1) rfl (fX2_change_ok (d := d) (by omega) hpr6 ep7) rfl rfl ?_
      refine fx_aload dX6_takeUpToTwo_170 rfl rfl ?_
      refine fx_iload dX6_takeUpToTwo_172 rfl rfl ?_
      refine fx_iconst (x := 0) dX6_takeUpToTwo_174 rfl (by decide) ?_
      refine fx_iload dX6_takeUpToTwo_175 rfl rfl ?_
      refine fx_if_eq (t := 188) dX6_takeUpToTwo_177 rfl rfl (fun hc8 => ?_) (fun hc8 => ?_)
      · rw [if_pos hc8] at h
        refine fx_iload dX6_takeUpToTwo_188 rfl rfl ?_
        exact fX6_takeUpToTwo_190_ok (o7 := some (.int l7)) (o8 := o8) (o9 := some (.int s0)) (o10 := some (.int p1.1)) hd ha0 ha1 hrec71 hl4 hl4 rfl q8 rfl rfl h
      · rw [if_neg hc8] at h
        refine fx_iload dX6_takeUpToTwo_180 rfl rfl ?_
        refine fx_bipush (x := 10) dX6_takeUpToTwo_182 rfl (by decide) ?_
        obtain ⟨x9, hx9, h⟩ := xLet_el h
        refine fx_iadd dX6_takeUpToTwo_184 rfl hx9 ?_
        refine fx_goto (t := 190) dX6_takeUpToTwo_185 rfl rfl ?_
        exact fX6_takeUpToTwo_190_ok (o7 := some (.int l7)) (o8 := o8) (o9 := some (.int s0)) (o10 := some (.int p1.1)) hd ha0 ha1 hrec71 hl4 hl4 rfl q8 rfl rfl h
    · rw [if_neg hc3] at h
      exact fX6_takeUpToTwo_152_ok (o4 := some (.ref l4)) (o5 := some (.int l5)) (o6 := some (.int l6)) (o7 := some (.int l7)) (o8 := o8) (o9 := some (.int s0)) (o10 := some (.int p1.1)) hd ha0 ha1 rfl rfl rfl rfl q8 rfl rfl h
def fX6_takeUpToTwo_126 (a0 : Nat) (a1 : Nat) (a2 : Int32) (a3 : Int32) (rec71 : Nat → Int32 → Int32 → xMem → Option xMem) (l4 : Nat) (l5 : Int32) (l6 : Int32) (l7 : Int32) (m : xMem) : Option xMem := fX6_takeUpToTwo_127 a0 a1 a2 a3 rec71 l4 l5 l6 l7 (0 : Int32) m
set_option maxRecDepth 4000 in
theorem fX6_takeUpToTwo_126_ok {a0 : Nat} {a1 : Nat} {a2 : Int32} {a3 : Int32} {rec71 : Nat → Int32 → Int32 → xMem → Option xMem} {d : Nat} (hd : 2 ≤ d) (ha0 : isMover a0) (ha1 : isStation a1) (hrec71 : ∀ (l4 : Nat) (l5 : Int32) (l6 : Int32) (o7 : Option Value) (o8 : Option Value) (o9 : Option Value) (o10 : Option Value) (q7 : xNoD o7 = true) (q8 : xNoD o8 = true) (q9 : xNoD o9 = true) (q10 : xNoD o10 = true) (m : xMem) (r : xMem) (hl4 : isLink l4), rec71 l4 l5 l6 m = some r → xFx hh_158 cX6_takeUpToTwo d 71 [some (.ref a0), some (.ref a1), some (.int a2), some (.int a3), some (.ref l4), some (.int l5), some (.int l6), o7, o8, o9, o10] [] (xLay m) 0 0 none (xLay r)) {l4 : Nat} {l5 : Int32} {l6 : Int32} {l7 : Int32} {o8 : Option Value} {o9 : Option Value} {o10 : Option Value} {m : xMem} {r : xMem} (hl4 : isLink l4) (q8 : xNoD o8 = true) (q9 : xNoD o9 = true) (q10 : xNoD o10 = true) (h : fX6_takeUpToTwo_126 a0 a1 a2 a3 rec71 l4 l5 l6 l7 m = some r) : xFx hh_158 cX6_takeUpToTwo d 126 [some (.ref a0), some (.ref a1), some (.int a2), some (.int a3), some (.ref l4), some (.int l5), some (.int l6), some (.int l7), o8, o9, o10] [] (xLay m) 0 0 none (xLay r) := by
  unfold fX6_takeUpToTwo_126 at h
  refine fx_iconst (x := 0) dX6_takeUpToTwo_126 rfl (by decide) ?_
  exact fX6_takeUpToTwo_127_ok (o8 := o8) (o9 := o9) (o10 := o10) hd ha0 ha1 hrec71 hl4 q8 q9 q10 h
def fX6_takeUpToTwo_71 (a0 : Nat) (a1 : Nat) (a2 : Int32) (a3 : Int32) : Nat → Nat → Int32 → Int32 → xMem → Option xMem
  | 0, _, _, _, _ => none
  | fuel + 1, l4, l5, l6, m => if (2 : Int32) ≤ l6 then some m else (fX3_foot l4 m).bind fun p2 => (fX6_goalOfMost a0 a1 a2 p2.1 (0 : Int32) p2.2).bind fun p3 => xLet (p3.2.1 l4 10) fun x4 => if l5 = (0 : Int32) then fX6_takeUpToTwo_126 a0 a1 a2 a3 (fX6_takeUpToTwo_71 a0 a1 a2 a3 fuel) l4 l5 l6 p3.1 p3.2 else xLet (x4 + (1 : Int32)) fun x6 => xLet (a3 * x6) fun x7 => xLet (x7 / (10 : Int32)) fun x8 => xLet (a3 * x4) fun x9 => xLet (x9 / (10 : Int32)) fun x10 => if x8 ≤ x10 then fX6_takeUpToTwo_126 a0 a1 a2 a3 (fX6_takeUpToTwo_71 a0 a1 a2 a3 fuel) l4 l5 l6 p3.1 p3.2 else fX6_takeUpToTwo_127 a0 a1 a2 a3 (fX6_takeUpToTwo_71 a0 a1 a2 a3 fuel) l4 l5 l6 p3.1 (1 : Int32) p3.2
set_option maxRecDepth 4000 in
theorem fX6_takeUpToTwo_71_ok {a0 : Nat} {a1 : Nat} {a2 : Int32} {a3 : Int32} {d : Nat} (hd : 2 ≤ d) (ha0 : isMover a0) (ha1 : isStation a1) : ∀ (fuel : Nat) (l4 : Nat) (l5 : Int32) (l6 : Int32) (o7 : Option Value) (o8 : Option Value) (o9 : Option Value) (o10 : Option Value) (q7 : xNoD o7 = true) (q8 : xNoD o8 = true) (q9 : xNoD o9 = true) (q10 : xNoD o10 = true) (m : xMem) (r : xMem) (hl4 : isLink l4), fX6_takeUpToTwo_71 a0 a1 a2 a3 fuel l4 l5 l6 m = some r → xFx hh_158 cX6_takeUpToTwo d 71 [some (.ref a0), some (.ref a1), some (.int a2), some (.int a3), some (.ref l4), some (.int l5), some (.int l6), o7, o8, o9, o10] [] (xLay m) 0 0 none (xLay r) := by
  intro fuel
  induction fuel with
  | zero => intro l4 l5 l6 o7 o8 o9 o10 q7 q8 q9 q10 m r hl4 h; cases h
  | succ fuel ih =>
    intro l4 l5 l6 o7 o8 o9 o10 q7 q8 q9 q10 m r hl4 h
    unfold fX6_takeUpToTwo_71 at h
    refine fx_iload dX6_takeUpToTwo_71 rfl rfl ?_
    refine fx_iconst (x := 2) dX6_takeUpToTwo_73 rfl (by decide) ?_
    refine fx_icmp_ge (t := 221) dX6_takeUpToTwo_74 rfl rfl (fun hc1 => ?_) (fun hc1 => ?_)
    · rw [if_pos hc1] at h
      cases h
      exact fx_return dX6_takeUpToTwo_221 rfl rfl
    · rw [if_neg hc1] at h
      refine fx_aload_n dX6_takeUpToTwo_77 rfl rfl ?_
      refine fx_aload_n dX6_takeUpToTwo_78 rfl rfl ?_
      refine fx_iload_n dX6_takeUpToTwo_79 rfl rfl ?_
      refine fx_aload dX6_takeUpToTwo_80 rfl rfl ?_
      obtain ⟨p2, ep2, h⟩ := xBind_el h
      refine gx_callv (as := []) (r := [.int a2, .ref a1, .ref a0]) rfl dX6_takeUpToTwo_82 ca_6_217 rfl me_137 rfl rfl rfl rfl (hl4.1) rfl (fX3_foot_ok (d := d) (by omega) hl4 ep2) rfl rfl ?_
      refine fx_iconst (x := 0) dX6_takeUpToTwo_85 rfl (by decide) ?_
      obtain ⟨p3, ep3, h⟩ := xBind_el h
      refine gx_callv (as := [.ref a1, .int a2, .int p2.1, .int (0 : Int32)]) (r := []) rfl dX6_takeUpToTwo_86 ca_6_190 rfl me_144 rfl rfl rfl rfl (ha0.1) rfl (fX6_goalOfMost_ok (d := d) (by omega) ha0 ha1 ep3) rfl rfl ?_
      refine fx_istore (ls2 := [some (.ref a0), some (.ref a1), some (.int a2), some (.int a3), some (.ref l4), some (.int l5), some (.int l6), some (.int p3.1), o8, o9, o10]) dX6_takeUpToTwo_89 rfl rfl rfl ?_
      refine fx_aload dX6_takeUpToTwo_91 rfl rfl ?_
      obtain ⟨x4, hx4, h⟩ := xLet_el h
      refine gx_get dX6_takeUpToTwo_93 rfl fd_6_201 hl4.1 rfl rfl hx4 ?_
      refine fx_istore (ls2 := [some (.ref a0), some (.ref a1), some (.int a2), some (.int a3), some (.ref l4), some (.int l5), some (.int l6), some (.int p3.1), some (.int x4), o9, o10]) dX6_takeUpToTwo_96 rfl rfl rfl ?_
      refine fx_iload dX6_takeUpToTwo_98 rfl rfl ?_
      refine fx_if_eq (t := 126) dX6_takeUpToTwo_100 rfl rfl (fun hc5 => ?_) (fun hc5 => ?_)
      · rw [if_pos hc5] at h
        exact fX6_takeUpToTwo_126_ok (o8 := some (.int x4)) (o9 := o9) (o10 := o10) hd ha0 ha1 ih hl4 rfl q9 q10 h
      · rw [if_neg hc5] at h
        refine fx_iload_n dX6_takeUpToTwo_103 rfl rfl ?_
        refine fx_iload dX6_takeUpToTwo_104 rfl rfl ?_
        refine fx_iconst (x := 1) dX6_takeUpToTwo_106 rfl (by decide) ?_
        obtain ⟨x6, hx6, h⟩ := xLet_el h
        refine fx_iadd dX6_takeUpToTwo_107 rfl hx6 ?_
        obtain ⟨x7, hx7, h⟩ := xLet_el h
        refine fx_imul dX6_takeUpToTwo_108 rfl hx7 ?_
        refine fx_bipush (x := 10) dX6_takeUpToTwo_109 rfl (by decide) ?_
        obtain ⟨x8, hx8, h⟩ := xLet_el h
        refine fx_idiv dX6_takeUpToTwo_111 rfl (by decide) hx8 ?_
        refine fx_iload_n dX6_takeUpToTwo_112 rfl rfl ?_
        refine fx_iload dX6_takeUpToTwo_113 rfl rfl ?_
        obtain ⟨x9, hx9, h⟩ := xLet_el h
        refine fx_imul dX6_takeUpToTwo_115 rfl hx9 ?_
        refine fx_bipush (x := 10) dX6_takeUpToTwo_116 rfl (by decide) ?_
        obtain ⟨x10, hx10, h⟩ := xLet_el h
        refine fx_idiv dX6_takeUpToTwo_118 rfl (by decide) hx10 ?_
        refine fx_icmp_le (t := 126) dX6_takeUpToTwo_119 rfl rfl (fun hc11 => ?_) (fun hc11 => ?_)
        · rw [if_pos hc11] at h
          exact fX6_takeUpToTwo_126_ok (o8 := some (.int x4)) (o9 := o9) (o10 := o10) hd ha0 ha1 ih hl4 rfl q9 q10 h
        · rw [if_neg hc11] at h
          refine fx_iconst (x := 1) dX6_takeUpToTwo_122 rfl (by decide) ?_
          refine fx_goto (t := 127) dX6_takeUpToTwo_123 rfl rfl ?_
          exact fX6_takeUpToTwo_127_ok (o8 := some (.int x4)) (o9 := o9) (o10 := o10) hd ha0 ha1 ih hl4 rfl q9 q10 h
def fX6_takeUpToTwo_66 (a0 : Nat) (a1 : Nat) (a2 : Int32) (a3 : Int32) (l4 : Nat) (s0 : Int32) (m : xMem) : Option xMem := fX6_takeUpToTwo_71 a0 a1 a2 a3 xFuel l4 s0 (0 : Int32) m
set_option maxRecDepth 4000 in
theorem fX6_takeUpToTwo_66_ok {a0 : Nat} {a1 : Nat} {a2 : Int32} {a3 : Int32} {d : Nat} (hd : 2 ≤ d) (ha0 : isMover a0) (ha1 : isStation a1) {l4 : Nat} {s0 : Int32} {o5 : Option Value} {o6 : Option Value} {o7 : Option Value} {o8 : Option Value} {o9 : Option Value} {o10 : Option Value} {m : xMem} {r : xMem} (hl4 : isLink l4) (q5 : xNoD o5 = true) (q6 : xNoD o6 = true) (q7 : xNoD o7 = true) (q8 : xNoD o8 = true) (q9 : xNoD o9 = true) (q10 : xNoD o10 = true) (h : fX6_takeUpToTwo_66 a0 a1 a2 a3 l4 s0 m = some r) : xFx hh_158 cX6_takeUpToTwo d 66 [some (.ref a0), some (.ref a1), some (.int a2), some (.int a3), some (.ref l4), o5, o6, o7, o8, o9, o10] [.int s0] (xLay m) 0 0 none (xLay r) := by
  unfold fX6_takeUpToTwo_66 at h
  refine fx_istore (ls2 := [some (.ref a0), some (.ref a1), some (.int a2), some (.int a3), some (.ref l4), some (.int s0), o6, o7, o8, o9, o10]) dX6_takeUpToTwo_66 rfl rfl rfl ?_
  refine fx_iconst (x := 0) dX6_takeUpToTwo_68 rfl (by decide) ?_
  refine fx_istore (ls2 := [some (.ref a0), some (.ref a1), some (.int a2), some (.int a3), some (.ref l4), some (.int s0), some (.int (0 : Int32)), o7, o8, o9, o10]) dX6_takeUpToTwo_69 rfl rfl rfl ?_
  exact fX6_takeUpToTwo_71_ok hd ha0 ha1 xFuel l4 s0 (0 : Int32) (o7) (o8) (o9) (o10) q7 q8 q9 q10 m r hl4 h
def fX6_takeUpToTwo_65 (a0 : Nat) (a1 : Nat) (a2 : Int32) (a3 : Int32) (l4 : Nat) (m : xMem) : Option xMem := fX6_takeUpToTwo_66 a0 a1 a2 a3 l4 (0 : Int32) m
set_option maxRecDepth 4000 in
theorem fX6_takeUpToTwo_65_ok {a0 : Nat} {a1 : Nat} {a2 : Int32} {a3 : Int32} {d : Nat} (hd : 2 ≤ d) (ha0 : isMover a0) (ha1 : isStation a1) {l4 : Nat} {o5 : Option Value} {o6 : Option Value} {o7 : Option Value} {o8 : Option Value} {o9 : Option Value} {o10 : Option Value} {m : xMem} {r : xMem} (hl4 : isLink l4) (q5 : xNoD o5 = true) (q6 : xNoD o6 = true) (q7 : xNoD o7 = true) (q8 : xNoD o8 = true) (q9 : xNoD o9 = true) (q10 : xNoD o10 = true) (h : fX6_takeUpToTwo_65 a0 a1 a2 a3 l4 m = some r) : xFx hh_158 cX6_takeUpToTwo d 65 [some (.ref a0), some (.ref a1), some (.int a2), some (.int a3), some (.ref l4), o5, o6, o7, o8, o9, o10] [] (xLay m) 0 0 none (xLay r) := by
  unfold fX6_takeUpToTwo_65 at h
  refine fx_iconst (x := 0) dX6_takeUpToTwo_65 rfl (by decide) ?_
  exact fX6_takeUpToTwo_66_ok (o5 := o5) (o6 := o6) (o7 := o7) (o8 := o8) (o9 := o9) (o10 := o10) hd ha0 ha1 hl4 q5 q6 q7 q8 q9 q10 h
def fX6_takeUpToTwo_0 (a0 : Nat) (a1 : Nat) (a2 : Int32) (a3 : Int32) (m : xMem) : Option xMem := (fX9_hasStepped a1 a2 m).bind fun p1 => if p1.1 = (0 : Int32) then fX6_takeUpToTwo_36 a0 a1 a2 a3 p1.2 else bif xIn a2 10 then xLet (a1 + 33 + 2 * a2.toNatClampNeg) fun r4 => (fX3_takesNow r4 p1.2).bind fun p5 => if p5.1 = (0 : Int32) then fX6_takeUpToTwo_36 a0 a1 a2 a3 p5.2 else bif xIn a2 10 then xLet (a1 + 33 + 2 * a2.toNatClampNeg) fun r8 => (fX3_foot r8 p5.2).bind fun p9 => (fX9_hasHall a1 p9.1 p9.2).bind fun p10 => if ¬ p10.1 = (0 : Int32) then bif xIn a2 10 then xLet (a1 + 33 + 2 * a2.toNatClampNeg) fun r13 => xLet (p10.2.1 r13 1) fun x14 => if ¬ x14 = (0 : Int32) then fX6_takeUpToTwo_65 a0 a1 a2 a3 r13 p10.2 else xLet (p10.2.1 r13 8) fun x16 => if ¬ x16 = (0 : Int32) then fX6_takeUpToTwo_65 a0 a1 a2 a3 r13 p10.2 else fX6_takeUpToTwo_66 a0 a1 a2 a3 r13 (1 : Int32) p10.2 else none else fX6_takeUpToTwo_36 a0 a1 a2 a3 p10.2 else none else none
set_option maxRecDepth 4000 in
theorem fX6_takeUpToTwo_0_ok {a0 : Nat} {a1 : Nat} {a2 : Int32} {a3 : Int32} {d : Nat} (hd : 2 ≤ d) (ha0 : isMover a0) (ha1 : isStation a1) {o4 : Option Value} {o5 : Option Value} {o6 : Option Value} {o7 : Option Value} {o8 : Option Value} {o9 : Option Value} {o10 : Option Value} {m : xMem} {r : xMem} (q4 : xNoD o4 = true) (q5 : xNoD o5 = true) (q6 : xNoD o6 = true) (q7 : xNoD o7 = true) (q8 : xNoD o8 = true) (q9 : xNoD o9 = true) (q10 : xNoD o10 = true) (h : fX6_takeUpToTwo_0 a0 a1 a2 a3 m = some r) : xFx hh_158 cX6_takeUpToTwo d 0 [some (.ref a0), some (.ref a1), some (.int a2), some (.int a3), o4, o5, o6, o7, o8, o9, o10] [] (xLay m) 0 0 none (xLay r) := by
  unfold fX6_takeUpToTwo_0 at h
  refine fx_aload_n dX6_takeUpToTwo_0 rfl rfl ?_
  refine fx_iload_n dX6_takeUpToTwo_1 rfl rfl ?_
  obtain ⟨p1, ep1, h⟩ := xBind_el h
  refine gx_callv (as := [.int a2]) (r := []) rfl dX6_takeUpToTwo_2 ca_6_254 rfl me_28 rfl rfl rfl rfl (ha1.1) rfl (fX9_hasStepped_ok (d := d) (by omega) ha1 ep1) rfl rfl ?_
  refine fx_if_eq (t := 36) dX6_takeUpToTwo_5 rfl rfl (fun hc2 => ?_) (fun hc2 => ?_)
  · rw [if_pos hc2] at h
    exact fX6_takeUpToTwo_36_ok (o4 := o4) (o5 := o5) (o6 := o6) (o7 := o7) (o8 := o8) (o9 := o9) (o10 := o10) hd ha0 ha1 q4 q5 q6 q7 q8 q9 q10 h
  · rw [if_neg hc2] at h
    refine fx_aload_n dX6_takeUpToTwo_8 rfl rfl ?_
    refine gx_getr dX6_takeUpToTwo_9 rfl fd_6_144 ha1.1 rfl rfl ?_
    refine fx_iload_n dX6_takeUpToTwo_12 rfl rfl ?_
    obtain ⟨hj3, h⟩ := xChk_el h
    obtain ⟨r4, hr4, h⟩ := xLet_el h
    refine gx_aaload (t := 5) dX6_takeUpToTwo_13 rfl ha1.2.2.1 rfl hj3 ((xRef_at (sl_9_1 a1) hj3).trans (congrArg some hr4)) ?_
    have hpr4 : isLink r4 := by rw [← hr4]; exact ha1.2.2.2.2.2.2.2.2.1 _ (xIn_lt hj3)
    obtain ⟨p5, ep5, h⟩ := xBind_el h
    refine gx_callv (as := []) (r := []) rfl dX6_takeUpToTwo_14 ca_6_257 rfl me_134 rfl rfl rfl rfl (hpr4.1) rfl (fX3_takesNow_ok (d := d) (by omega) hpr4 ep5) rfl rfl ?_
    refine fx_if_eq (t := 36) dX6_takeUpToTwo_17 rfl rfl (fun hc6 => ?_) (fun hc6 => ?_)
    · rw [if_pos hc6] at h
      exact fX6_takeUpToTwo_36_ok (o4 := o4) (o5 := o5) (o6 := o6) (o7 := o7) (o8 := o8) (o9 := o9) (o10 := o10) hd ha0 ha1 q4 q5 q6 q7 q8 q9 q10 h
    · rw [if_neg hc6] at h
      refine fx_aload_n dX6_takeUpToTwo_20 rfl rfl ?_
      refine fx_aload_n dX6_takeUpToTwo_21 rfl rfl ?_
      refine gx_getr dX6_takeUpToTwo_22 rfl fd_6_144 ha1.1 rfl rfl ?_
      refine fx_iload_n dX6_takeUpToTwo_25 rfl rfl ?_
      obtain ⟨hj7, h⟩ := xChk_el h
      obtain ⟨r8, hr8, h⟩ := xLet_el h
      refine gx_aaload (t := 5) dX6_takeUpToTwo_26 rfl ha1.2.2.1 rfl hj7 ((xRef_at (sl_9_1 a1) hj7).trans (congrArg some hr8)) ?_
      have hpr8 : isLink r8 := by rw [← hr8]; exact ha1.2.2.2.2.2.2.2.2.1 _ (xIn_lt hj7)
      obtain ⟨p9, ep9, h⟩ := xBind_el h
      refine gx_callv (as := []) (r := [.ref a1]) rfl dX6_takeUpToTwo_27 ca_6_217 rfl me_137 rfl rfl rfl rfl (hpr8.1) rfl (fX3_foot_ok (d := d) (by omega) hpr8 ep9) rfl rfl ?_
      obtain ⟨p10, ep10, h⟩ := xBind_el h
      refine gx_callv (as := [.int p9.1]) (r := []) rfl dX6_takeUpToTwo_30 ca_6_69 rfl me_20 rfl rfl rfl rfl (ha1.1) rfl (fX9_hasHall_ok (d := d) (by omega) ha1 ep10) rfl rfl ?_
      refine fx_if_ne (t := 37) dX6_takeUpToTwo_33 rfl rfl (fun hc11 => ?_) (fun hc11 => ?_)
      · rw [if_pos hc11] at h
        refine fx_aload_n dX6_takeUpToTwo_37 rfl rfl ?_
        refine gx_getr dX6_takeUpToTwo_38 rfl fd_6_144 ha1.1 rfl rfl ?_
        refine fx_iload_n dX6_takeUpToTwo_41 rfl rfl ?_
        obtain ⟨hj12, h⟩ := xChk_el h
        obtain ⟨r13, hr13, h⟩ := xLet_el h
        refine gx_aaload (t := 5) dX6_takeUpToTwo_42 rfl ha1.2.2.1 rfl hj12 ((xRef_at (sl_9_1 a1) hj12).trans (congrArg some hr13)) ?_
        have hpr13 : isLink r13 := by rw [← hr13]; exact ha1.2.2.2.2.2.2.2.2.1 _ (xIn_lt hj12)
        refine fx_astore (ls2 := [some (.ref a0), some (.ref a1), some (.int a2), some (.int a3), some (.ref r13), o5, o6, o7, o8, o9, o10]) dX6_takeUpToTwo_43 rfl rfl rfl ?_
        refine fx_aload dX6_takeUpToTwo_45 rfl rfl ?_
        obtain ⟨x14, hx14, h⟩ := xLet_el h
        refine gx_get dX6_takeUpToTwo_47 rfl fd_6_157 hpr13.1 rfl rfl hx14 ?_
        refine fx_if_ne (t := 65) dX6_takeUpToTwo_50 rfl rfl (fun hc15 => ?_) (fun hc15 => ?_)
        · rw [if_pos hc15] at h
          exact fX6_takeUpToTwo_65_ok (o5 := o5) (o6 := o6) (o7 := o7) (o8 := o8) (o9 := o9) (o10 := o10) hd ha0 ha1 hpr13 q5 q6 q7 q8 q9 q10 h
        · rw [if_neg hc15] at h
          refine fx_aload dX6_takeUpToTwo_53 rfl rfl ?_
          obtain ⟨x16, hx16, h⟩ := xLet_el h
          refine gx_get dX6_takeUpToTwo_55 rfl fd_6_214 hpr13.1 rfl rfl hx16 ?_
          refine fx_if_ne (t := 65) dX6_takeUpToTwo_58 rfl rfl (fun hc17 => ?_) (fun hc17 => ?_)
          · rw [if_pos hc17] at h
            exact fX6_takeUpToTwo_65_ok (o5 := o5) (o6 := o6) (o7 := o7) (o8 := o8) (o9 := o9) (o10 := o10) hd ha0 ha1 hpr13 q5 q6 q7 q8 q9 q10 h
          · rw [if_neg hc17] at h
            refine fx_iconst (x := 1) dX6_takeUpToTwo_61 rfl (by decide) ?_
            refine fx_goto (t := 66) dX6_takeUpToTwo_62 rfl rfl ?_
            exact fX6_takeUpToTwo_66_ok (o5 := o5) (o6 := o6) (o7 := o7) (o8 := o8) (o9 := o9) (o10 := o10) hd ha0 ha1 hpr13 q5 q6 q7 q8 q9 q10 h
      · rw [if_neg hc11] at h
        exact fX6_takeUpToTwo_36_ok (o4 := o4) (o5 := o5) (o6 := o6) (o7 := o7) (o8 := o8) (o9 := o9) (o10 := o10) hd ha0 ha1 q4 q5 q6 q7 q8 q9 q10 h
def fX6_takeUpToTwo (a0 : Nat) (a1 : Nat) (a2 : Int32) (a3 : Int32) (m : xMem) : Option xMem := fX6_takeUpToTwo_0 a0 a1 a2 a3  m
theorem fX6_takeUpToTwo_ok {a0 : Nat} {a1 : Nat} {a2 : Int32} {a3 : Int32} {m : xMem} {r : xMem} {d : Nat} (hd : 3 ≤ d) (ha0 : isMover a0) (ha1 : isStation a1) (h : fX6_takeUpToTwo a0 a1 a2 a3 m = some r) : xEx d 158 [.ref a0, .ref a1, .int a2, .int a3] (xLay m) none (xLay r) := by
  obtain ⟨d, rfl⟩ : ∃ q, d = q + 1 := ⟨d - 1, by omega⟩
  exact xEx_of me_158 rfl (fX6_takeUpToTwo_0_ok (d := d) (o4 := none) (o5 := none) (o6 := none) (o7 := none) (o8 := none) (o9 := none) (o10 := none) (by omega) ha0 ha1 rfl rfl rfl rfl rfl rfl rfl h)
