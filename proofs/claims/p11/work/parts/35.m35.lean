theorem bdX5_bestNext_0 : (decode cX5_bestNext 0 = .ok (.iconst (-1), 1)) ∧ (decode cX5_bestNext 1 = .ok (.istore_n 2, 1)) ∧ (decode cX5_bestNext 2 = .ok (.iconst 0, 1)) ∧ (decode cX5_bestNext 3 = .ok (.istore_n 3, 1)) ∧ (decode cX5_bestNext 4 = .ok (.iconst 0, 1)) ∧ (decode cX5_bestNext 5 = .ok (.istore 4, 2)) ∧ (decode cX5_bestNext 7 = .ok (.iload 4, 2)) ∧ (decode cX5_bestNext 9 = .ok (.aload_n 0, 1)) ∧ (decode cX5_bestNext 10 = .ok (.getfield 27, 3)) ∧ (decode cX5_bestNext 13 = .ok (.if_icmp .ge 51, 3)) ∧ (decode cX5_bestNext 16 = .ok (.iload 4, 2)) ∧ (decode cX5_bestNext 18 = .ok (.bipush 6, 2)) ∧ (decode cX5_bestNext 20 = .ok (.if_icmp .ge 44, 3)) ∧ (decode cX5_bestNext 23 = .ok (.iload_n 1, 1)) ∧ (decode cX5_bestNext 24 = .ok (.iload 4, 2)) ∧ (decode cX5_bestNext 26 = .ok (.ishr, 1)) := by decide +kernel
theorem dX5_bestNext_0 : decode cX5_bestNext 0 = .ok (.iconst (-1), 1) := bdX5_bestNext_0.1
theorem dX5_bestNext_1 : decode cX5_bestNext 1 = .ok (.istore_n 2, 1) := bdX5_bestNext_0.2.1
theorem dX5_bestNext_2 : decode cX5_bestNext 2 = .ok (.iconst 0, 1) := bdX5_bestNext_0.2.2.1
theorem dX5_bestNext_3 : decode cX5_bestNext 3 = .ok (.istore_n 3, 1) := bdX5_bestNext_0.2.2.2.1
theorem dX5_bestNext_4 : decode cX5_bestNext 4 = .ok (.iconst 0, 1) := bdX5_bestNext_0.2.2.2.2.1
theorem dX5_bestNext_5 : decode cX5_bestNext 5 = .ok (.istore 4, 2) := bdX5_bestNext_0.2.2.2.2.2.1
theorem dX5_bestNext_7 : decode cX5_bestNext 7 = .ok (.iload 4, 2) := bdX5_bestNext_0.2.2.2.2.2.2.1
theorem dX5_bestNext_9 : decode cX5_bestNext 9 = .ok (.aload_n 0, 1) := bdX5_bestNext_0.2.2.2.2.2.2.2.1
theorem dX5_bestNext_10 : decode cX5_bestNext 10 = .ok (.getfield 27, 3) := bdX5_bestNext_0.2.2.2.2.2.2.2.2.1
theorem dX5_bestNext_13 : decode cX5_bestNext 13 = .ok (.if_icmp .ge 51, 3) := bdX5_bestNext_0.2.2.2.2.2.2.2.2.2.1
theorem dX5_bestNext_16 : decode cX5_bestNext 16 = .ok (.iload 4, 2) := bdX5_bestNext_0.2.2.2.2.2.2.2.2.2.2.1
theorem dX5_bestNext_18 : decode cX5_bestNext 18 = .ok (.bipush 6, 2) := bdX5_bestNext_0.2.2.2.2.2.2.2.2.2.2.2.1
theorem dX5_bestNext_20 : decode cX5_bestNext 20 = .ok (.if_icmp .ge 44, 3) := bdX5_bestNext_0.2.2.2.2.2.2.2.2.2.2.2.2.1
theorem dX5_bestNext_23 : decode cX5_bestNext 23 = .ok (.iload_n 1, 1) := bdX5_bestNext_0.2.2.2.2.2.2.2.2.2.2.2.2.2.1
theorem dX5_bestNext_24 : decode cX5_bestNext 24 = .ok (.iload 4, 2) := bdX5_bestNext_0.2.2.2.2.2.2.2.2.2.2.2.2.2.2.1
theorem dX5_bestNext_26 : decode cX5_bestNext 26 = .ok (.ishr, 1) := bdX5_bestNext_0.2.2.2.2.2.2.2.2.2.2.2.2.2.2.2
theorem bdX5_bestNext_27 : (decode cX5_bestNext 27 = .ok (.iconst 1, 1)) ∧ (decode cX5_bestNext 28 = .ok (.iand, 1)) ∧ (decode cX5_bestNext 29 = .ok (.ifCond .ne 29, 3)) ∧ (decode cX5_bestNext 32 = .ok (.aload_n 0, 1)) ∧ (decode cX5_bestNext 33 = .ok (.iload_n 1, 1)) ∧ (decode cX5_bestNext 34 = .ok (.iload 4, 2)) ∧ (decode cX5_bestNext 36 = .ok (.invokevirtual 47, 3)) ∧ (decode cX5_bestNext 39 = .ok (.istore 5, 2)) ∧ (decode cX5_bestNext 41 = .ok (.iload_n 2, 1)) ∧ (decode cX5_bestNext 42 = .ok (.iconst (-1), 1)) ∧ (decode cX5_bestNext 43 = .ok (.if_icmp .eq 9, 3)) ∧ (decode cX5_bestNext 46 = .ok (.iload 5, 2)) ∧ (decode cX5_bestNext 48 = .ok (.iload_n 3, 1)) ∧ (decode cX5_bestNext 49 = .ok (.if_icmp .ge 9, 3)) ∧ (decode cX5_bestNext 52 = .ok (.iload 4, 2)) ∧ (decode cX5_bestNext 54 = .ok (.istore_n 2, 1)) := by decide +kernel
theorem dX5_bestNext_27 : decode cX5_bestNext 27 = .ok (.iconst 1, 1) := bdX5_bestNext_27.1
theorem dX5_bestNext_28 : decode cX5_bestNext 28 = .ok (.iand, 1) := bdX5_bestNext_27.2.1
theorem dX5_bestNext_29 : decode cX5_bestNext 29 = .ok (.ifCond .ne 29, 3) := bdX5_bestNext_27.2.2.1
theorem dX5_bestNext_32 : decode cX5_bestNext 32 = .ok (.aload_n 0, 1) := bdX5_bestNext_27.2.2.2.1
theorem dX5_bestNext_33 : decode cX5_bestNext 33 = .ok (.iload_n 1, 1) := bdX5_bestNext_27.2.2.2.2.1
theorem dX5_bestNext_34 : decode cX5_bestNext 34 = .ok (.iload 4, 2) := bdX5_bestNext_27.2.2.2.2.2.1
theorem dX5_bestNext_36 : decode cX5_bestNext 36 = .ok (.invokevirtual 47, 3) := bdX5_bestNext_27.2.2.2.2.2.2.1
theorem dX5_bestNext_39 : decode cX5_bestNext 39 = .ok (.istore 5, 2) := bdX5_bestNext_27.2.2.2.2.2.2.2.1
theorem dX5_bestNext_41 : decode cX5_bestNext 41 = .ok (.iload_n 2, 1) := bdX5_bestNext_27.2.2.2.2.2.2.2.2.1
theorem dX5_bestNext_42 : decode cX5_bestNext 42 = .ok (.iconst (-1), 1) := bdX5_bestNext_27.2.2.2.2.2.2.2.2.2.1
theorem dX5_bestNext_43 : decode cX5_bestNext 43 = .ok (.if_icmp .eq 9, 3) := bdX5_bestNext_27.2.2.2.2.2.2.2.2.2.2.1
theorem dX5_bestNext_46 : decode cX5_bestNext 46 = .ok (.iload 5, 2) := bdX5_bestNext_27.2.2.2.2.2.2.2.2.2.2.2.1
theorem dX5_bestNext_48 : decode cX5_bestNext 48 = .ok (.iload_n 3, 1) := bdX5_bestNext_27.2.2.2.2.2.2.2.2.2.2.2.2.1
theorem dX5_bestNext_49 : decode cX5_bestNext 49 = .ok (.if_icmp .ge 9, 3) := bdX5_bestNext_27.2.2.2.2.2.2.2.2.2.2.2.2.2.1
theorem dX5_bestNext_52 : decode cX5_bestNext 52 = .ok (.iload 4, 2) := bdX5_bestNext_27.2.2.2.2.2.2.2.2.2.2.2.2.2.2.1
theorem dX5_bestNext_54 : decode cX5_bestNext 54 = .ok (.istore_n 2, 1) := bdX5_bestNext_27.2.2.2.2.2.2.2.2.2.2.2.2.2.2.2
theorem bdX5_bestNext_55 : (decode cX5_bestNext 55 = .ok (.iload 5, 2)) ∧ (decode cX5_bestNext 57 = .ok (.istore_n 3, 1)) ∧ (decode cX5_bestNext 58 = .ok (.iinc 4 1, 3)) ∧ (decode cX5_bestNext 61 = .ok (.goto (-54), 3)) ∧ (decode cX5_bestNext 64 = .ok (.iload_n 2, 1)) ∧ (decode cX5_bestNext 65 = .ok (.ireturn, 1)) := by decide +kernel
theorem dX5_bestNext_55 : decode cX5_bestNext 55 = .ok (.iload 5, 2) := bdX5_bestNext_55.1
theorem dX5_bestNext_57 : decode cX5_bestNext 57 = .ok (.istore_n 3, 1) := bdX5_bestNext_55.2.1
theorem dX5_bestNext_58 : decode cX5_bestNext 58 = .ok (.iinc 4 1, 3) := bdX5_bestNext_55.2.2.1
theorem dX5_bestNext_61 : decode cX5_bestNext 61 = .ok (.goto (-54), 3) := bdX5_bestNext_55.2.2.2.1
theorem dX5_bestNext_64 : decode cX5_bestNext 64 = .ok (.iload_n 2, 1) := bdX5_bestNext_55.2.2.2.2.1
theorem dX5_bestNext_65 : decode cX5_bestNext 65 = .ok (.ireturn, 1) := bdX5_bestNext_55.2.2.2.2.2
theorem bdX5_inTurn_0 : (decode cX5_inTurn 0 = .ok (.iconst 0, 1)) ∧ (decode cX5_inTurn 1 = .ok (.istore_n 2, 1)) ∧ (decode cX5_inTurn 2 = .ok (.iconst 0, 1)) ∧ (decode cX5_inTurn 3 = .ok (.istore_n 3, 1)) ∧ (decode cX5_inTurn 4 = .ok (.iload_n 3, 1)) ∧ (decode cX5_inTurn 5 = .ok (.iload_n 1, 1)) ∧ (decode cX5_inTurn 6 = .ok (.if_icmp .ge 35, 3)) ∧ (decode cX5_inTurn 9 = .ok (.iload_n 3, 1)) ∧ (decode cX5_inTurn 10 = .ok (.bipush 6, 2)) ∧ (decode cX5_inTurn 12 = .ok (.if_icmp .ge 29, 3)) ∧ (decode cX5_inTurn 15 = .ok (.aload_n 0, 1)) ∧ (decode cX5_inTurn 16 = .ok (.iload_n 2, 1)) ∧ (decode cX5_inTurn 17 = .ok (.invokevirtual 43, 3)) ∧ (decode cX5_inTurn 20 = .ok (.istore 4, 2)) ∧ (decode cX5_inTurn 22 = .ok (.iload 4, 2)) ∧ (decode cX5_inTurn 24 = .ok (.iconst (-1), 1)) := by decide +kernel
theorem dX5_inTurn_0 : decode cX5_inTurn 0 = .ok (.iconst 0, 1) := bdX5_inTurn_0.1
theorem dX5_inTurn_1 : decode cX5_inTurn 1 = .ok (.istore_n 2, 1) := bdX5_inTurn_0.2.1
theorem dX5_inTurn_2 : decode cX5_inTurn 2 = .ok (.iconst 0, 1) := bdX5_inTurn_0.2.2.1
theorem dX5_inTurn_3 : decode cX5_inTurn 3 = .ok (.istore_n 3, 1) := bdX5_inTurn_0.2.2.2.1
theorem dX5_inTurn_4 : decode cX5_inTurn 4 = .ok (.iload_n 3, 1) := bdX5_inTurn_0.2.2.2.2.1
theorem dX5_inTurn_5 : decode cX5_inTurn 5 = .ok (.iload_n 1, 1) := bdX5_inTurn_0.2.2.2.2.2.1
theorem dX5_inTurn_6 : decode cX5_inTurn 6 = .ok (.if_icmp .ge 35, 3) := bdX5_inTurn_0.2.2.2.2.2.2.1
theorem dX5_inTurn_9 : decode cX5_inTurn 9 = .ok (.iload_n 3, 1) := bdX5_inTurn_0.2.2.2.2.2.2.2.1
theorem dX5_inTurn_10 : decode cX5_inTurn 10 = .ok (.bipush 6, 2) := bdX5_inTurn_0.2.2.2.2.2.2.2.2.1
theorem dX5_inTurn_12 : decode cX5_inTurn 12 = .ok (.if_icmp .ge 29, 3) := bdX5_inTurn_0.2.2.2.2.2.2.2.2.2.1
theorem dX5_inTurn_15 : decode cX5_inTurn 15 = .ok (.aload_n 0, 1) := bdX5_inTurn_0.2.2.2.2.2.2.2.2.2.2.1
theorem dX5_inTurn_16 : decode cX5_inTurn 16 = .ok (.iload_n 2, 1) := bdX5_inTurn_0.2.2.2.2.2.2.2.2.2.2.2.1
theorem dX5_inTurn_17 : decode cX5_inTurn 17 = .ok (.invokevirtual 43, 3) := bdX5_inTurn_0.2.2.2.2.2.2.2.2.2.2.2.2.1
theorem dX5_inTurn_20 : decode cX5_inTurn 20 = .ok (.istore 4, 2) := bdX5_inTurn_0.2.2.2.2.2.2.2.2.2.2.2.2.2.1
theorem dX5_inTurn_22 : decode cX5_inTurn 22 = .ok (.iload 4, 2) := bdX5_inTurn_0.2.2.2.2.2.2.2.2.2.2.2.2.2.2.1
theorem dX5_inTurn_24 : decode cX5_inTurn 24 = .ok (.iconst (-1), 1) := bdX5_inTurn_0.2.2.2.2.2.2.2.2.2.2.2.2.2.2.2
theorem bdX5_inTurn_25 : (decode cX5_inTurn 25 = .ok (.if_icmp .eq 10, 3)) ∧ (decode cX5_inTurn 28 = .ok (.iload_n 2, 1)) ∧ (decode cX5_inTurn 29 = .ok (.iconst 1, 1)) ∧ (decode cX5_inTurn 30 = .ok (.iload 4, 2)) ∧ (decode cX5_inTurn 32 = .ok (.ishl, 1)) ∧ (decode cX5_inTurn 33 = .ok (.ior, 1)) ∧ (decode cX5_inTurn 34 = .ok (.istore_n 2, 1)) ∧ (decode cX5_inTurn 35 = .ok (.iinc 3 1, 3)) ∧ (decode cX5_inTurn 38 = .ok (.goto (-34), 3)) ∧ (decode cX5_inTurn 41 = .ok (.aload_n 0, 1)) ∧ (decode cX5_inTurn 42 = .ok (.iload_n 2, 1)) ∧ (decode cX5_inTurn 43 = .ok (.invokevirtual 43, 3)) ∧ (decode cX5_inTurn 46 = .ok (.ireturn, 1)) := by decide +kernel
theorem dX5_inTurn_25 : decode cX5_inTurn 25 = .ok (.if_icmp .eq 10, 3) := bdX5_inTurn_25.1
theorem dX5_inTurn_28 : decode cX5_inTurn 28 = .ok (.iload_n 2, 1) := bdX5_inTurn_25.2.1
theorem dX5_inTurn_29 : decode cX5_inTurn 29 = .ok (.iconst 1, 1) := bdX5_inTurn_25.2.2.1
theorem dX5_inTurn_30 : decode cX5_inTurn 30 = .ok (.iload 4, 2) := bdX5_inTurn_25.2.2.2.1
theorem dX5_inTurn_32 : decode cX5_inTurn 32 = .ok (.ishl, 1) := bdX5_inTurn_25.2.2.2.2.1
theorem dX5_inTurn_33 : decode cX5_inTurn 33 = .ok (.ior, 1) := bdX5_inTurn_25.2.2.2.2.2.1
theorem dX5_inTurn_34 : decode cX5_inTurn 34 = .ok (.istore_n 2, 1) := bdX5_inTurn_25.2.2.2.2.2.2.1
theorem dX5_inTurn_35 : decode cX5_inTurn 35 = .ok (.iinc 3 1, 3) := bdX5_inTurn_25.2.2.2.2.2.2.2.1
theorem dX5_inTurn_38 : decode cX5_inTurn 38 = .ok (.goto (-34), 3) := bdX5_inTurn_25.2.2.2.2.2.2.2.2.1
theorem dX5_inTurn_41 : decode cX5_inTurn 41 = .ok (.aload_n 0, 1) := bdX5_inTurn_25.2.2.2.2.2.2.2.2.2.1
theorem dX5_inTurn_42 : decode cX5_inTurn 42 = .ok (.iload_n 2, 1) := bdX5_inTurn_25.2.2.2.2.2.2.2.2.2.2.1
theorem dX5_inTurn_43 : decode cX5_inTurn 43 = .ok (.invokevirtual 43, 3) := bdX5_inTurn_25.2.2.2.2.2.2.2.2.2.2.2.1
theorem dX5_inTurn_46 : decode cX5_inTurn 46 = .ok (.ireturn, 1) := bdX5_inTurn_25.2.2.2.2.2.2.2.2.2.2.2.2
theorem bdX5_weigh_0 : (decode cX5_weigh 0 = .ok (.iconst 1, 1)) ∧ (decode cX5_weigh 1 = .ok (.aload_n 0, 1)) ∧ (decode cX5_weigh 2 = .ok (.getfield 27, 3)) ∧ (decode cX5_weigh 5 = .ok (.ishl, 1)) ∧ (decode cX5_weigh 6 = .ok (.iconst 1, 1)) ∧ (decode cX5_weigh 7 = .ok (.isub, 1)) ∧ (decode cX5_weigh 8 = .ok (.aload_n 0, 1)) ∧ (decode cX5_weigh 9 = .ok (.getfield 24, 3)) ∧ (decode cX5_weigh 12 = .ok (.arraylength, 1)) ∧ (decode cX5_weigh 13 = .ok (.iconst 1, 1)) ∧ (decode cX5_weigh 14 = .ok (.isub, 1)) ∧ (decode cX5_weigh 15 = .ok (.invokestatic 37, 3)) ∧ (decode cX5_weigh 18 = .ok (.istore_n 1, 1)) ∧ (decode cX5_weigh 19 = .ok (.iload_n 1, 1)) ∧ (decode cX5_weigh 20 = .ok (.istore_n 2, 1)) ∧ (decode cX5_weigh 21 = .ok (.iload_n 2, 1)) := by decide +kernel
theorem dX5_weigh_0 : decode cX5_weigh 0 = .ok (.iconst 1, 1) := bdX5_weigh_0.1
theorem dX5_weigh_1 : decode cX5_weigh 1 = .ok (.aload_n 0, 1) := bdX5_weigh_0.2.1
theorem dX5_weigh_2 : decode cX5_weigh 2 = .ok (.getfield 27, 3) := bdX5_weigh_0.2.2.1
theorem dX5_weigh_5 : decode cX5_weigh 5 = .ok (.ishl, 1) := bdX5_weigh_0.2.2.2.1
theorem dX5_weigh_6 : decode cX5_weigh 6 = .ok (.iconst 1, 1) := bdX5_weigh_0.2.2.2.2.1
theorem dX5_weigh_7 : decode cX5_weigh 7 = .ok (.isub, 1) := bdX5_weigh_0.2.2.2.2.2.1
theorem dX5_weigh_8 : decode cX5_weigh 8 = .ok (.aload_n 0, 1) := bdX5_weigh_0.2.2.2.2.2.2.1
theorem dX5_weigh_9 : decode cX5_weigh 9 = .ok (.getfield 24, 3) := bdX5_weigh_0.2.2.2.2.2.2.2.1
theorem dX5_weigh_12 : decode cX5_weigh 12 = .ok (.arraylength, 1) := bdX5_weigh_0.2.2.2.2.2.2.2.2.1
theorem dX5_weigh_13 : decode cX5_weigh 13 = .ok (.iconst 1, 1) := bdX5_weigh_0.2.2.2.2.2.2.2.2.2.1
theorem dX5_weigh_14 : decode cX5_weigh 14 = .ok (.isub, 1) := bdX5_weigh_0.2.2.2.2.2.2.2.2.2.2.1
theorem dX5_weigh_15 : decode cX5_weigh 15 = .ok (.invokestatic 37, 3) := bdX5_weigh_0.2.2.2.2.2.2.2.2.2.2.2.1
theorem dX5_weigh_18 : decode cX5_weigh 18 = .ok (.istore_n 1, 1) := bdX5_weigh_0.2.2.2.2.2.2.2.2.2.2.2.2.1
theorem dX5_weigh_19 : decode cX5_weigh 19 = .ok (.iload_n 1, 1) := bdX5_weigh_0.2.2.2.2.2.2.2.2.2.2.2.2.2.1
theorem dX5_weigh_20 : decode cX5_weigh 20 = .ok (.istore_n 2, 1) := bdX5_weigh_0.2.2.2.2.2.2.2.2.2.2.2.2.2.2.1
theorem dX5_weigh_21 : decode cX5_weigh 21 = .ok (.iload_n 2, 1) := bdX5_weigh_0.2.2.2.2.2.2.2.2.2.2.2.2.2.2.2
theorem bdX5_weigh_22 : (decode cX5_weigh 22 = .ok (.ifCond .lt 36, 3)) ∧ (decode cX5_weigh 25 = .ok (.aload_n 0, 1)) ∧ (decode cX5_weigh 26 = .ok (.iload_n 2, 1)) ∧ (decode cX5_weigh 27 = .ok (.invokevirtual 43, 3)) ∧ (decode cX5_weigh 30 = .ok (.istore_n 3, 1)) ∧ (decode cX5_weigh 31 = .ok (.aload_n 0, 1)) ∧ (decode cX5_weigh 32 = .ok (.getfield 24, 3)) ∧ (decode cX5_weigh 35 = .ok (.iload_n 2, 1)) ∧ (decode cX5_weigh 36 = .ok (.iload_n 3, 1)) ∧ (decode cX5_weigh 37 = .ok (.iconst (-1), 1)) ∧ (decode cX5_weigh 38 = .ok (.if_icmp .ne 7, 3)) ∧ (decode cX5_weigh 41 = .ok (.iconst 0, 1)) ∧ (decode cX5_weigh 42 = .ok (.goto 9, 3)) ∧ (decode cX5_weigh 45 = .ok (.aload_n 0, 1)) ∧ (decode cX5_weigh 46 = .ok (.iload_n 2, 1)) ∧ (decode cX5_weigh 47 = .ok (.iload_n 3, 1)) := by decide +kernel
theorem dX5_weigh_22 : decode cX5_weigh 22 = .ok (.ifCond .lt 36, 3) := bdX5_weigh_22.1
theorem dX5_weigh_25 : decode cX5_weigh 25 = .ok (.aload_n 0, 1) := bdX5_weigh_22.2.1
theorem dX5_weigh_26 : decode cX5_weigh 26 = .ok (.iload_n 2, 1) := bdX5_weigh_22.2.2.1
theorem dX5_weigh_27 : decode cX5_weigh 27 = .ok (.invokevirtual 43, 3) := bdX5_weigh_22.2.2.2.1
theorem dX5_weigh_30 : decode cX5_weigh 30 = .ok (.istore_n 3, 1) := bdX5_weigh_22.2.2.2.2.1
theorem dX5_weigh_31 : decode cX5_weigh 31 = .ok (.aload_n 0, 1) := bdX5_weigh_22.2.2.2.2.2.1
theorem dX5_weigh_32 : decode cX5_weigh 32 = .ok (.getfield 24, 3) := bdX5_weigh_22.2.2.2.2.2.2.1
theorem dX5_weigh_35 : decode cX5_weigh 35 = .ok (.iload_n 2, 1) := bdX5_weigh_22.2.2.2.2.2.2.2.1
theorem dX5_weigh_36 : decode cX5_weigh 36 = .ok (.iload_n 3, 1) := bdX5_weigh_22.2.2.2.2.2.2.2.2.1
theorem dX5_weigh_37 : decode cX5_weigh 37 = .ok (.iconst (-1), 1) := bdX5_weigh_22.2.2.2.2.2.2.2.2.2.1
theorem dX5_weigh_38 : decode cX5_weigh 38 = .ok (.if_icmp .ne 7, 3) := bdX5_weigh_22.2.2.2.2.2.2.2.2.2.2.1
theorem dX5_weigh_41 : decode cX5_weigh 41 = .ok (.iconst 0, 1) := bdX5_weigh_22.2.2.2.2.2.2.2.2.2.2.2.1
theorem dX5_weigh_42 : decode cX5_weigh 42 = .ok (.goto 9, 3) := bdX5_weigh_22.2.2.2.2.2.2.2.2.2.2.2.2.1
theorem dX5_weigh_45 : decode cX5_weigh 45 = .ok (.aload_n 0, 1) := bdX5_weigh_22.2.2.2.2.2.2.2.2.2.2.2.2.2.1
theorem dX5_weigh_46 : decode cX5_weigh 46 = .ok (.iload_n 2, 1) := bdX5_weigh_22.2.2.2.2.2.2.2.2.2.2.2.2.2.2.1
theorem dX5_weigh_47 : decode cX5_weigh 47 = .ok (.iload_n 3, 1) := bdX5_weigh_22.2.2.2.2.2.2.2.2.2.2.2.2.2.2.2
theorem bdX5_weigh_48 : (decode cX5_weigh 48 = .ok (.invokevirtual 47, 3)) ∧ (decode cX5_weigh 51 = .ok (.iastore, 1)) ∧ (decode cX5_weigh 52 = .ok (.iinc 2 (-1), 3)) ∧ (decode cX5_weigh 55 = .ok (.goto (-34), 3)) ∧ (decode cX5_weigh 58 = .ok (.return_, 1)) := by decide +kernel
theorem dX5_weigh_48 : decode cX5_weigh 48 = .ok (.invokevirtual 47, 3) := bdX5_weigh_48.1
theorem dX5_weigh_51 : decode cX5_weigh 51 = .ok (.iastore, 1) := bdX5_weigh_48.2.1
theorem dX5_weigh_52 : decode cX5_weigh 52 = .ok (.iinc 2 (-1), 3) := bdX5_weigh_48.2.2.1
theorem dX5_weigh_55 : decode cX5_weigh 55 = .ok (.goto (-34), 3) := bdX5_weigh_48.2.2.2.1
theorem dX5_weigh_58 : decode cX5_weigh 58 = .ok (.return_, 1) := bdX5_weigh_48.2.2.2.2
theorem bdX11_order_0 : (decode cX11_order 0 = .ok (.aload_n 0, 1)) ∧ (decode cX11_order 1 = .ok (.getfield 10, 3)) ∧ (decode cX11_order 4 = .ok (.getfield 282, 3)) ∧ (decode cX11_order 7 = .ok (.getfield 290, 3)) ∧ (decode cX11_order 10 = .ok (.ifCond .le 23, 3)) ∧ (decode cX11_order 13 = .ok (.iload_n 1, 1)) ∧ (decode cX11_order 14 = .ok (.iconst (-1), 1)) ∧ (decode cX11_order 15 = .ok (.aload_n 0, 1)) ∧ (decode cX11_order 16 = .ok (.getfield 10, 3)) ∧ (decode cX11_order 19 = .ok (.getfield 282, 3)) ∧ (decode cX11_order 22 = .ok (.getfield 290, 3)) ∧ (decode cX11_order 25 = .ok (.iconst 1, 1)) ∧ (decode cX11_order 26 = .ok (.isub, 1)) ∧ (decode cX11_order 27 = .ok (.invokestatic 47, 3)) ∧ (decode cX11_order 30 = .ok (.ifCond .ne 5, 3)) ∧ (decode cX11_order 33 = .ok (.iconst (-1), 1)) := by decide +kernel
theorem dX11_order_0 : decode cX11_order 0 = .ok (.aload_n 0, 1) := bdX11_order_0.1
theorem dX11_order_1 : decode cX11_order 1 = .ok (.getfield 10, 3) := bdX11_order_0.2.1
theorem dX11_order_4 : decode cX11_order 4 = .ok (.getfield 282, 3) := bdX11_order_0.2.2.1
theorem dX11_order_7 : decode cX11_order 7 = .ok (.getfield 290, 3) := bdX11_order_0.2.2.2.1
theorem dX11_order_10 : decode cX11_order 10 = .ok (.ifCond .le 23, 3) := bdX11_order_0.2.2.2.2.1
theorem dX11_order_13 : decode cX11_order 13 = .ok (.iload_n 1, 1) := bdX11_order_0.2.2.2.2.2.1
theorem dX11_order_14 : decode cX11_order 14 = .ok (.iconst (-1), 1) := bdX11_order_0.2.2.2.2.2.2.1
theorem dX11_order_15 : decode cX11_order 15 = .ok (.aload_n 0, 1) := bdX11_order_0.2.2.2.2.2.2.2.1
theorem dX11_order_16 : decode cX11_order 16 = .ok (.getfield 10, 3) := bdX11_order_0.2.2.2.2.2.2.2.2.1
theorem dX11_order_19 : decode cX11_order 19 = .ok (.getfield 282, 3) := bdX11_order_0.2.2.2.2.2.2.2.2.2.1
theorem dX11_order_22 : decode cX11_order 22 = .ok (.getfield 290, 3) := bdX11_order_0.2.2.2.2.2.2.2.2.2.2.1
theorem dX11_order_25 : decode cX11_order 25 = .ok (.iconst 1, 1) := bdX11_order_0.2.2.2.2.2.2.2.2.2.2.2.1
theorem dX11_order_26 : decode cX11_order 26 = .ok (.isub, 1) := bdX11_order_0.2.2.2.2.2.2.2.2.2.2.2.2.1
theorem dX11_order_27 : decode cX11_order 27 = .ok (.invokestatic 47, 3) := bdX11_order_0.2.2.2.2.2.2.2.2.2.2.2.2.2.1
theorem dX11_order_30 : decode cX11_order 30 = .ok (.ifCond .ne 5, 3) := bdX11_order_0.2.2.2.2.2.2.2.2.2.2.2.2.2.2.1
theorem dX11_order_33 : decode cX11_order 33 = .ok (.iconst (-1), 1) := bdX11_order_0.2.2.2.2.2.2.2.2.2.2.2.2.2.2.2
theorem bdX11_order_34 : (decode cX11_order 34 = .ok (.ireturn, 1)) ∧ (decode cX11_order 35 = .ok (.aload_n 0, 1)) ∧ (decode cX11_order 36 = .ok (.getfield 10, 3)) ∧ (decode cX11_order 39 = .ok (.getfield 282, 3)) ∧ (decode cX11_order 42 = .ok (.invokevirtual 291, 3)) ∧ (decode cX11_order 45 = .ok (.iload_n 1, 1)) ∧ (decode cX11_order 46 = .ok (.iconst (-1), 1)) ∧ (decode cX11_order 47 = .ok (.if_icmp .ne 18, 3)) ∧ (decode cX11_order 50 = .ok (.aload_n 0, 1)) ∧ (decode cX11_order 51 = .ok (.getfield 10, 3)) ∧ (decode cX11_order 54 = .ok (.getfield 282, 3)) ∧ (decode cX11_order 57 = .ok (.getfield 294, 3)) ∧ (decode cX11_order 60 = .ok (.iconst 0, 1)) ∧ (decode cX11_order 61 = .ok (.iaload, 1)) ∧ (decode cX11_order 62 = .ok (.goto 14, 3)) ∧ (decode cX11_order 65 = .ok (.aload_n 0, 1)) := by decide +kernel
theorem dX11_order_34 : decode cX11_order 34 = .ok (.ireturn, 1) := bdX11_order_34.1
theorem dX11_order_35 : decode cX11_order 35 = .ok (.aload_n 0, 1) := bdX11_order_34.2.1
theorem dX11_order_36 : decode cX11_order 36 = .ok (.getfield 10, 3) := bdX11_order_34.2.2.1
theorem dX11_order_39 : decode cX11_order 39 = .ok (.getfield 282, 3) := bdX11_order_34.2.2.2.1
theorem dX11_order_42 : decode cX11_order 42 = .ok (.invokevirtual 291, 3) := bdX11_order_34.2.2.2.2.1
theorem dX11_order_45 : decode cX11_order 45 = .ok (.iload_n 1, 1) := bdX11_order_34.2.2.2.2.2.1
theorem dX11_order_46 : decode cX11_order 46 = .ok (.iconst (-1), 1) := bdX11_order_34.2.2.2.2.2.2.1
theorem dX11_order_47 : decode cX11_order 47 = .ok (.if_icmp .ne 18, 3) := bdX11_order_34.2.2.2.2.2.2.2.1
theorem dX11_order_50 : decode cX11_order 50 = .ok (.aload_n 0, 1) := bdX11_order_34.2.2.2.2.2.2.2.2.1
theorem dX11_order_51 : decode cX11_order 51 = .ok (.getfield 10, 3) := bdX11_order_34.2.2.2.2.2.2.2.2.2.1
theorem dX11_order_54 : decode cX11_order 54 = .ok (.getfield 282, 3) := bdX11_order_34.2.2.2.2.2.2.2.2.2.2.1
theorem dX11_order_57 : decode cX11_order 57 = .ok (.getfield 294, 3) := bdX11_order_34.2.2.2.2.2.2.2.2.2.2.2.1
theorem dX11_order_60 : decode cX11_order 60 = .ok (.iconst 0, 1) := bdX11_order_34.2.2.2.2.2.2.2.2.2.2.2.2.1
theorem dX11_order_61 : decode cX11_order 61 = .ok (.iaload, 1) := bdX11_order_34.2.2.2.2.2.2.2.2.2.2.2.2.2.1
theorem dX11_order_62 : decode cX11_order 62 = .ok (.goto 14, 3) := bdX11_order_34.2.2.2.2.2.2.2.2.2.2.2.2.2.2.1
theorem dX11_order_65 : decode cX11_order 65 = .ok (.aload_n 0, 1) := bdX11_order_34.2.2.2.2.2.2.2.2.2.2.2.2.2.2.2
theorem bdX11_order_66 : (decode cX11_order 66 = .ok (.getfield 10, 3)) ∧ (decode cX11_order 69 = .ok (.getfield 282, 3)) ∧ (decode cX11_order 72 = .ok (.iload_n 1, 1)) ∧ (decode cX11_order 73 = .ok (.invokevirtual 297, 3)) ∧ (decode cX11_order 76 = .ok (.ireturn, 1)) := by decide +kernel
theorem dX11_order_66 : decode cX11_order 66 = .ok (.getfield 10, 3) := bdX11_order_66.1
theorem dX11_order_69 : decode cX11_order 69 = .ok (.getfield 282, 3) := bdX11_order_66.2.1
theorem dX11_order_72 : decode cX11_order 72 = .ok (.iload_n 1, 1) := bdX11_order_66.2.2.1
theorem dX11_order_73 : decode cX11_order 73 = .ok (.invokevirtual 297, 3) := bdX11_order_66.2.2.2.1
theorem dX11_order_76 : decode cX11_order 76 = .ok (.ireturn, 1) := bdX11_order_66.2.2.2.2
theorem bdX12_aboveOf_0 : (decode cX12_aboveOf 0 = .ok (.sipush 1520, 3)) ∧ (decode cX12_aboveOf 3 = .ok (.iconst 4, 1)) ∧ (decode cX12_aboveOf 4 = .ok (.iload_n 1, 1)) ∧ (decode cX12_aboveOf 5 = .ok (.imul, 1)) ∧ (decode cX12_aboveOf 6 = .ok (.iadd, 1)) ∧ (decode cX12_aboveOf 7 = .ok (.istore_n 3, 1)) ∧ (decode cX12_aboveOf 8 = .ok (.iconst 0, 1)) ∧ (decode cX12_aboveOf 9 = .ok (.istore 4, 2)) ∧ (decode cX12_aboveOf 11 = .ok (.iconst 0, 1)) ∧ (decode cX12_aboveOf 12 = .ok (.istore 5, 2)) ∧ (decode cX12_aboveOf 14 = .ok (.iload 5, 2)) ∧ (decode cX12_aboveOf 16 = .ok (.iload_n 2, 1)) ∧ (decode cX12_aboveOf 17 = .ok (.if_icmp .ge 48, 3)) ∧ (decode cX12_aboveOf 20 = .ok (.iload 4, 2)) ∧ (decode cX12_aboveOf 22 = .ok (.aload_n 0, 1)) ∧ (decode cX12_aboveOf 23 = .ok (.getfield 7, 3)) := by decide +kernel
theorem dX12_aboveOf_0 : decode cX12_aboveOf 0 = .ok (.sipush 1520, 3) := bdX12_aboveOf_0.1
theorem dX12_aboveOf_3 : decode cX12_aboveOf 3 = .ok (.iconst 4, 1) := bdX12_aboveOf_0.2.1
theorem dX12_aboveOf_4 : decode cX12_aboveOf 4 = .ok (.iload_n 1, 1) := bdX12_aboveOf_0.2.2.1
theorem dX12_aboveOf_5 : decode cX12_aboveOf 5 = .ok (.imul, 1) := bdX12_aboveOf_0.2.2.2.1
theorem dX12_aboveOf_6 : decode cX12_aboveOf 6 = .ok (.iadd, 1) := bdX12_aboveOf_0.2.2.2.2.1
theorem dX12_aboveOf_7 : decode cX12_aboveOf 7 = .ok (.istore_n 3, 1) := bdX12_aboveOf_0.2.2.2.2.2.1
theorem dX12_aboveOf_8 : decode cX12_aboveOf 8 = .ok (.iconst 0, 1) := bdX12_aboveOf_0.2.2.2.2.2.2.1
theorem dX12_aboveOf_9 : decode cX12_aboveOf 9 = .ok (.istore 4, 2) := bdX12_aboveOf_0.2.2.2.2.2.2.2.1
theorem dX12_aboveOf_11 : decode cX12_aboveOf 11 = .ok (.iconst 0, 1) := bdX12_aboveOf_0.2.2.2.2.2.2.2.2.1
theorem dX12_aboveOf_12 : decode cX12_aboveOf 12 = .ok (.istore 5, 2) := bdX12_aboveOf_0.2.2.2.2.2.2.2.2.2.1
theorem dX12_aboveOf_14 : decode cX12_aboveOf 14 = .ok (.iload 5, 2) := bdX12_aboveOf_0.2.2.2.2.2.2.2.2.2.2.1
theorem dX12_aboveOf_16 : decode cX12_aboveOf 16 = .ok (.iload_n 2, 1) := bdX12_aboveOf_0.2.2.2.2.2.2.2.2.2.2.2.1
theorem dX12_aboveOf_17 : decode cX12_aboveOf 17 = .ok (.if_icmp .ge 48, 3) := bdX12_aboveOf_0.2.2.2.2.2.2.2.2.2.2.2.2.1
theorem dX12_aboveOf_20 : decode cX12_aboveOf 20 = .ok (.iload 4, 2) := bdX12_aboveOf_0.2.2.2.2.2.2.2.2.2.2.2.2.2.1
theorem dX12_aboveOf_22 : decode cX12_aboveOf 22 = .ok (.aload_n 0, 1) := bdX12_aboveOf_0.2.2.2.2.2.2.2.2.2.2.2.2.2.2.1
theorem dX12_aboveOf_23 : decode cX12_aboveOf 23 = .ok (.getfield 7, 3) := bdX12_aboveOf_0.2.2.2.2.2.2.2.2.2.2.2.2.2.2.2
theorem bdX12_aboveOf_26 : (decode cX12_aboveOf 26 = .ok (.iload_n 3, 1)) ∧ (decode cX12_aboveOf 27 = .ok (.iaload, 1)) ∧ (decode cX12_aboveOf 28 = .ok (.aload_n 0, 1)) ∧ (decode cX12_aboveOf 29 = .ok (.getfield 7, 3)) ∧ (decode cX12_aboveOf 32 = .ok (.iload_n 3, 1)) ∧ (decode cX12_aboveOf 33 = .ok (.iconst 1, 1)) ∧ (decode cX12_aboveOf 34 = .ok (.iadd, 1)) ∧ (decode cX12_aboveOf 35 = .ok (.iaload, 1)) ∧ (decode cX12_aboveOf 36 = .ok (.iload 5, 2)) ∧ (decode cX12_aboveOf 38 = .ok (.imul, 1)) ∧ (decode cX12_aboveOf 39 = .ok (.iadd, 1)) ∧ (decode cX12_aboveOf 40 = .ok (.aload_n 0, 1)) ∧ (decode cX12_aboveOf 41 = .ok (.getfield 7, 3)) ∧ (decode cX12_aboveOf 44 = .ok (.iload_n 3, 1)) ∧ (decode cX12_aboveOf 45 = .ok (.iconst 2, 1)) ∧ (decode cX12_aboveOf 46 = .ok (.iadd, 1)) := by decide +kernel
theorem dX12_aboveOf_26 : decode cX12_aboveOf 26 = .ok (.iload_n 3, 1) := bdX12_aboveOf_26.1
theorem dX12_aboveOf_27 : decode cX12_aboveOf 27 = .ok (.iaload, 1) := bdX12_aboveOf_26.2.1
theorem dX12_aboveOf_28 : decode cX12_aboveOf 28 = .ok (.aload_n 0, 1) := bdX12_aboveOf_26.2.2.1
theorem dX12_aboveOf_29 : decode cX12_aboveOf 29 = .ok (.getfield 7, 3) := bdX12_aboveOf_26.2.2.2.1
theorem dX12_aboveOf_32 : decode cX12_aboveOf 32 = .ok (.iload_n 3, 1) := bdX12_aboveOf_26.2.2.2.2.1
theorem dX12_aboveOf_33 : decode cX12_aboveOf 33 = .ok (.iconst 1, 1) := bdX12_aboveOf_26.2.2.2.2.2.1
theorem dX12_aboveOf_34 : decode cX12_aboveOf 34 = .ok (.iadd, 1) := bdX12_aboveOf_26.2.2.2.2.2.2.1
theorem dX12_aboveOf_35 : decode cX12_aboveOf 35 = .ok (.iaload, 1) := bdX12_aboveOf_26.2.2.2.2.2.2.2.1
theorem dX12_aboveOf_36 : decode cX12_aboveOf 36 = .ok (.iload 5, 2) := bdX12_aboveOf_26.2.2.2.2.2.2.2.2.1
theorem dX12_aboveOf_38 : decode cX12_aboveOf 38 = .ok (.imul, 1) := bdX12_aboveOf_26.2.2.2.2.2.2.2.2.2.1
theorem dX12_aboveOf_39 : decode cX12_aboveOf 39 = .ok (.iadd, 1) := bdX12_aboveOf_26.2.2.2.2.2.2.2.2.2.2.1
theorem dX12_aboveOf_40 : decode cX12_aboveOf 40 = .ok (.aload_n 0, 1) := bdX12_aboveOf_26.2.2.2.2.2.2.2.2.2.2.2.1
theorem dX12_aboveOf_41 : decode cX12_aboveOf 41 = .ok (.getfield 7, 3) := bdX12_aboveOf_26.2.2.2.2.2.2.2.2.2.2.2.2.1
theorem dX12_aboveOf_44 : decode cX12_aboveOf 44 = .ok (.iload_n 3, 1) := bdX12_aboveOf_26.2.2.2.2.2.2.2.2.2.2.2.2.2.1
theorem dX12_aboveOf_45 : decode cX12_aboveOf 45 = .ok (.iconst 2, 1) := bdX12_aboveOf_26.2.2.2.2.2.2.2.2.2.2.2.2.2.2.1
theorem dX12_aboveOf_46 : decode cX12_aboveOf 46 = .ok (.iadd, 1) := bdX12_aboveOf_26.2.2.2.2.2.2.2.2.2.2.2.2.2.2.2
theorem bdX12_aboveOf_47 : (decode cX12_aboveOf 47 = .ok (.iaload, 1)) ∧ (decode cX12_aboveOf 48 = .ok (.if_icmp .le 7, 3)) ∧ (decode cX12_aboveOf 51 = .ok (.iconst 1, 1)) ∧ (decode cX12_aboveOf 52 = .ok (.goto 4, 3)) ∧ (decode cX12_aboveOf 55 = .ok (.iconst 0, 1)) ∧ (decode cX12_aboveOf 56 = .ok (.iadd, 1)) ∧ (decode cX12_aboveOf 57 = .ok (.istore 4, 2)) ∧ (decode cX12_aboveOf 59 = .ok (.iinc 5 1, 3)) ∧ (decode cX12_aboveOf 62 = .ok (.goto (-48), 3)) ∧ (decode cX12_aboveOf 65 = .ok (.iload 4, 2)) ∧ (decode cX12_aboveOf 67 = .ok (.ireturn, 1)) := by decide +kernel
theorem dX12_aboveOf_47 : decode cX12_aboveOf 47 = .ok (.iaload, 1) := bdX12_aboveOf_47.1
theorem dX12_aboveOf_48 : decode cX12_aboveOf 48 = .ok (.if_icmp .le 7, 3) := bdX12_aboveOf_47.2.1
theorem dX12_aboveOf_51 : decode cX12_aboveOf 51 = .ok (.iconst 1, 1) := bdX12_aboveOf_47.2.2.1
theorem dX12_aboveOf_52 : decode cX12_aboveOf 52 = .ok (.goto 4, 3) := bdX12_aboveOf_47.2.2.2.1
theorem dX12_aboveOf_55 : decode cX12_aboveOf 55 = .ok (.iconst 0, 1) := bdX12_aboveOf_47.2.2.2.2.1
theorem dX12_aboveOf_56 : decode cX12_aboveOf 56 = .ok (.iadd, 1) := bdX12_aboveOf_47.2.2.2.2.2.1
theorem dX12_aboveOf_57 : decode cX12_aboveOf 57 = .ok (.istore 4, 2) := bdX12_aboveOf_47.2.2.2.2.2.2.1
theorem dX12_aboveOf_59 : decode cX12_aboveOf 59 = .ok (.iinc 5 1, 3) := bdX12_aboveOf_47.2.2.2.2.2.2.2.1
theorem dX12_aboveOf_62 : decode cX12_aboveOf 62 = .ok (.goto (-48), 3) := bdX12_aboveOf_47.2.2.2.2.2.2.2.2.1
theorem dX12_aboveOf_65 : decode cX12_aboveOf 65 = .ok (.iload 4, 2) := bdX12_aboveOf_47.2.2.2.2.2.2.2.2.2.1
theorem dX12_aboveOf_67 : decode cX12_aboveOf 67 = .ok (.ireturn, 1) := bdX12_aboveOf_47.2.2.2.2.2.2.2.2.2.2
theorem bdX12_countsBy_0 : (decode cX12_countsBy 0 = .ok (.iconst 0, 1)) ∧ (decode cX12_countsBy 1 = .ok (.istore 4, 2)) ∧ (decode cX12_countsBy 3 = .ok (.iconst 0, 1)) ∧ (decode cX12_countsBy 4 = .ok (.istore 5, 2)) ∧ (decode cX12_countsBy 6 = .ok (.iconst 0, 1)) ∧ (decode cX12_countsBy 7 = .ok (.istore 6, 2)) ∧ (decode cX12_countsBy 9 = .ok (.iload_n 3, 1)) ∧ (decode cX12_countsBy 10 = .ok (.istore 7, 2)) ∧ (decode cX12_countsBy 12 = .ok (.iconst 0, 1)) ∧ (decode cX12_countsBy 13 = .ok (.istore 8, 2)) ∧ (decode cX12_countsBy 15 = .ok (.iload 8, 2)) ∧ (decode cX12_countsBy 17 = .ok (.iload_n 2, 1)) ∧ (decode cX12_countsBy 18 = .ok (.if_icmp .ge 78, 3)) ∧ (decode cX12_countsBy 21 = .ok (.iload 7, 2)) ∧ (decode cX12_countsBy 23 = .ok (.iload_n 2, 1)) ∧ (decode cX12_countsBy 24 = .ok (.idiv, 1)) := by decide +kernel
theorem dX12_countsBy_0 : decode cX12_countsBy 0 = .ok (.iconst 0, 1) := bdX12_countsBy_0.1
theorem dX12_countsBy_1 : decode cX12_countsBy 1 = .ok (.istore 4, 2) := bdX12_countsBy_0.2.1
theorem dX12_countsBy_3 : decode cX12_countsBy 3 = .ok (.iconst 0, 1) := bdX12_countsBy_0.2.2.1
theorem dX12_countsBy_4 : decode cX12_countsBy 4 = .ok (.istore 5, 2) := bdX12_countsBy_0.2.2.2.1
theorem dX12_countsBy_6 : decode cX12_countsBy 6 = .ok (.iconst 0, 1) := bdX12_countsBy_0.2.2.2.2.1
theorem dX12_countsBy_7 : decode cX12_countsBy 7 = .ok (.istore 6, 2) := bdX12_countsBy_0.2.2.2.2.2.1
theorem dX12_countsBy_9 : decode cX12_countsBy 9 = .ok (.iload_n 3, 1) := bdX12_countsBy_0.2.2.2.2.2.2.1
theorem dX12_countsBy_10 : decode cX12_countsBy 10 = .ok (.istore 7, 2) := bdX12_countsBy_0.2.2.2.2.2.2.2.1
theorem dX12_countsBy_12 : decode cX12_countsBy 12 = .ok (.iconst 0, 1) := bdX12_countsBy_0.2.2.2.2.2.2.2.2.1
theorem dX12_countsBy_13 : decode cX12_countsBy 13 = .ok (.istore 8, 2) := bdX12_countsBy_0.2.2.2.2.2.2.2.2.2.1
theorem dX12_countsBy_15 : decode cX12_countsBy 15 = .ok (.iload 8, 2) := bdX12_countsBy_0.2.2.2.2.2.2.2.2.2.2.1
theorem dX12_countsBy_17 : decode cX12_countsBy 17 = .ok (.iload_n 2, 1) := bdX12_countsBy_0.2.2.2.2.2.2.2.2.2.2.2.1
theorem dX12_countsBy_18 : decode cX12_countsBy 18 = .ok (.if_icmp .ge 78, 3) := bdX12_countsBy_0.2.2.2.2.2.2.2.2.2.2.2.2.1
theorem dX12_countsBy_21 : decode cX12_countsBy 21 = .ok (.iload 7, 2) := bdX12_countsBy_0.2.2.2.2.2.2.2.2.2.2.2.2.2.1
theorem dX12_countsBy_23 : decode cX12_countsBy 23 = .ok (.iload_n 2, 1) := bdX12_countsBy_0.2.2.2.2.2.2.2.2.2.2.2.2.2.2.1
theorem dX12_countsBy_24 : decode cX12_countsBy 24 = .ok (.idiv, 1) := bdX12_countsBy_0.2.2.2.2.2.2.2.2.2.2.2.2.2.2.2
theorem bdX12_countsBy_25 : (decode cX12_countsBy 25 = .ok (.istore 7, 2)) ∧ (decode cX12_countsBy 27 = .ok (.iload_n 1, 1)) ∧ (decode cX12_countsBy 28 = .ok (.iload 7, 2)) ∧ (decode cX12_countsBy 30 = .ok (.idiv, 1)) ∧ (decode cX12_countsBy 31 = .ok (.iload_n 2, 1)) ∧ (decode cX12_countsBy 32 = .ok (.irem, 1)) ∧ (decode cX12_countsBy 33 = .ok (.istore 9, 2)) ∧ (decode cX12_countsBy 35 = .ok (.iload 4, 2)) ∧ (decode cX12_countsBy 37 = .ok (.iload 9, 2)) ∧ (decode cX12_countsBy 39 = .ok (.ishr, 1)) ∧ (decode cX12_countsBy 40 = .ok (.iconst 1, 1)) ∧ (decode cX12_countsBy 41 = .ok (.iand, 1)) ∧ (decode cX12_countsBy 42 = .ok (.iconst 1, 1)) ∧ (decode cX12_countsBy 43 = .ok (.if_icmp .ne 5, 3)) ∧ (decode cX12_countsBy 46 = .ok (.iconst (-1), 1)) ∧ (decode cX12_countsBy 47 = .ok (.ireturn, 1)) := by decide +kernel
theorem dX12_countsBy_25 : decode cX12_countsBy 25 = .ok (.istore 7, 2) := bdX12_countsBy_25.1
theorem dX12_countsBy_27 : decode cX12_countsBy 27 = .ok (.iload_n 1, 1) := bdX12_countsBy_25.2.1
theorem dX12_countsBy_28 : decode cX12_countsBy 28 = .ok (.iload 7, 2) := bdX12_countsBy_25.2.2.1
theorem dX12_countsBy_30 : decode cX12_countsBy 30 = .ok (.idiv, 1) := bdX12_countsBy_25.2.2.2.1
theorem dX12_countsBy_31 : decode cX12_countsBy 31 = .ok (.iload_n 2, 1) := bdX12_countsBy_25.2.2.2.2.1
theorem dX12_countsBy_32 : decode cX12_countsBy 32 = .ok (.irem, 1) := bdX12_countsBy_25.2.2.2.2.2.1
theorem dX12_countsBy_33 : decode cX12_countsBy 33 = .ok (.istore 9, 2) := bdX12_countsBy_25.2.2.2.2.2.2.1
theorem dX12_countsBy_35 : decode cX12_countsBy 35 = .ok (.iload 4, 2) := bdX12_countsBy_25.2.2.2.2.2.2.2.1
theorem dX12_countsBy_37 : decode cX12_countsBy 37 = .ok (.iload 9, 2) := bdX12_countsBy_25.2.2.2.2.2.2.2.2.1
theorem dX12_countsBy_39 : decode cX12_countsBy 39 = .ok (.ishr, 1) := bdX12_countsBy_25.2.2.2.2.2.2.2.2.2.1
theorem dX12_countsBy_40 : decode cX12_countsBy 40 = .ok (.iconst 1, 1) := bdX12_countsBy_25.2.2.2.2.2.2.2.2.2.2.1
theorem dX12_countsBy_41 : decode cX12_countsBy 41 = .ok (.iand, 1) := bdX12_countsBy_25.2.2.2.2.2.2.2.2.2.2.2.1
theorem dX12_countsBy_42 : decode cX12_countsBy 42 = .ok (.iconst 1, 1) := bdX12_countsBy_25.2.2.2.2.2.2.2.2.2.2.2.2.1
theorem dX12_countsBy_43 : decode cX12_countsBy 43 = .ok (.if_icmp .ne 5, 3) := bdX12_countsBy_25.2.2.2.2.2.2.2.2.2.2.2.2.2.1
theorem dX12_countsBy_46 : decode cX12_countsBy 46 = .ok (.iconst (-1), 1) := bdX12_countsBy_25.2.2.2.2.2.2.2.2.2.2.2.2.2.2.1
theorem dX12_countsBy_47 : decode cX12_countsBy 47 = .ok (.ireturn, 1) := bdX12_countsBy_25.2.2.2.2.2.2.2.2.2.2.2.2.2.2.2
theorem bdX12_countsBy_48 : (decode cX12_countsBy 48 = .ok (.iload 4, 2)) ∧ (decode cX12_countsBy 50 = .ok (.iconst 1, 1)) ∧ (decode cX12_countsBy 51 = .ok (.iload 9, 2)) ∧ (decode cX12_countsBy 53 = .ok (.ishl, 1)) ∧ (decode cX12_countsBy 54 = .ok (.ior, 1)) ∧ (decode cX12_countsBy 55 = .ok (.istore 4, 2)) ∧ (decode cX12_countsBy 57 = .ok (.iload 6, 2)) ∧ (decode cX12_countsBy 59 = .ok (.aload_n 0, 1)) ∧ (decode cX12_countsBy 60 = .ok (.iload 9, 2)) ∧ (decode cX12_countsBy 62 = .ok (.iload 5, 2)) ∧ (decode cX12_countsBy 64 = .ok (.invokevirtual 417, 3)) ∧ (decode cX12_countsBy 67 = .ok (.iadd, 1)) ∧ (decode cX12_countsBy 68 = .ok (.istore 6, 2)) ∧ (decode cX12_countsBy 70 = .ok (.iload 5, 2)) ∧ (decode cX12_countsBy 72 = .ok (.aload_n 0, 1)) ∧ (decode cX12_countsBy 73 = .ok (.getfield 7, 3)) := by decide +kernel
theorem dX12_countsBy_48 : decode cX12_countsBy 48 = .ok (.iload 4, 2) := bdX12_countsBy_48.1
theorem dX12_countsBy_50 : decode cX12_countsBy 50 = .ok (.iconst 1, 1) := bdX12_countsBy_48.2.1
theorem dX12_countsBy_51 : decode cX12_countsBy 51 = .ok (.iload 9, 2) := bdX12_countsBy_48.2.2.1
theorem dX12_countsBy_53 : decode cX12_countsBy 53 = .ok (.ishl, 1) := bdX12_countsBy_48.2.2.2.1
theorem dX12_countsBy_54 : decode cX12_countsBy 54 = .ok (.ior, 1) := bdX12_countsBy_48.2.2.2.2.1
theorem dX12_countsBy_55 : decode cX12_countsBy 55 = .ok (.istore 4, 2) := bdX12_countsBy_48.2.2.2.2.2.1
theorem dX12_countsBy_57 : decode cX12_countsBy 57 = .ok (.iload 6, 2) := bdX12_countsBy_48.2.2.2.2.2.2.1
theorem dX12_countsBy_59 : decode cX12_countsBy 59 = .ok (.aload_n 0, 1) := bdX12_countsBy_48.2.2.2.2.2.2.2.1
theorem dX12_countsBy_60 : decode cX12_countsBy 60 = .ok (.iload 9, 2) := bdX12_countsBy_48.2.2.2.2.2.2.2.2.1
theorem dX12_countsBy_62 : decode cX12_countsBy 62 = .ok (.iload 5, 2) := bdX12_countsBy_48.2.2.2.2.2.2.2.2.2.1
theorem dX12_countsBy_64 : decode cX12_countsBy 64 = .ok (.invokevirtual 417, 3) := bdX12_countsBy_48.2.2.2.2.2.2.2.2.2.2.1
theorem dX12_countsBy_67 : decode cX12_countsBy 67 = .ok (.iadd, 1) := bdX12_countsBy_48.2.2.2.2.2.2.2.2.2.2.2.1
theorem dX12_countsBy_68 : decode cX12_countsBy 68 = .ok (.istore 6, 2) := bdX12_countsBy_48.2.2.2.2.2.2.2.2.2.2.2.2.1
theorem dX12_countsBy_70 : decode cX12_countsBy 70 = .ok (.iload 5, 2) := bdX12_countsBy_48.2.2.2.2.2.2.2.2.2.2.2.2.2.1
theorem dX12_countsBy_72 : decode cX12_countsBy 72 = .ok (.aload_n 0, 1) := bdX12_countsBy_48.2.2.2.2.2.2.2.2.2.2.2.2.2.2.1
theorem dX12_countsBy_73 : decode cX12_countsBy 73 = .ok (.getfield 7, 3) := bdX12_countsBy_48.2.2.2.2.2.2.2.2.2.2.2.2.2.2.2
theorem bdX12_countsBy_76 : (decode cX12_countsBy 76 = .ok (.sipush 1520, 3)) ∧ (decode cX12_countsBy 79 = .ok (.iconst 4, 1)) ∧ (decode cX12_countsBy 80 = .ok (.iload 9, 2)) ∧ (decode cX12_countsBy 82 = .ok (.imul, 1)) ∧ (decode cX12_countsBy 83 = .ok (.iadd, 1)) ∧ (decode cX12_countsBy 84 = .ok (.iconst 3, 1)) ∧ (decode cX12_countsBy 85 = .ok (.iadd, 1)) ∧ (decode cX12_countsBy 86 = .ok (.iaload, 1)) ∧ (decode cX12_countsBy 87 = .ok (.iadd, 1)) ∧ (decode cX12_countsBy 88 = .ok (.istore 5, 2)) ∧ (decode cX12_countsBy 90 = .ok (.iinc 8 1, 3)) ∧ (decode cX12_countsBy 93 = .ok (.goto (-78), 3)) ∧ (decode cX12_countsBy 96 = .ok (.iload 6, 2)) ∧ (decode cX12_countsBy 98 = .ok (.ireturn, 1)) := by decide +kernel
theorem dX12_countsBy_76 : decode cX12_countsBy 76 = .ok (.sipush 1520, 3) := bdX12_countsBy_76.1
theorem dX12_countsBy_79 : decode cX12_countsBy 79 = .ok (.iconst 4, 1) := bdX12_countsBy_76.2.1
theorem dX12_countsBy_80 : decode cX12_countsBy 80 = .ok (.iload 9, 2) := bdX12_countsBy_76.2.2.1
theorem dX12_countsBy_82 : decode cX12_countsBy 82 = .ok (.imul, 1) := bdX12_countsBy_76.2.2.2.1
theorem dX12_countsBy_83 : decode cX12_countsBy 83 = .ok (.iadd, 1) := bdX12_countsBy_76.2.2.2.2.1
theorem dX12_countsBy_84 : decode cX12_countsBy 84 = .ok (.iconst 3, 1) := bdX12_countsBy_76.2.2.2.2.2.1
theorem dX12_countsBy_85 : decode cX12_countsBy 85 = .ok (.iadd, 1) := bdX12_countsBy_76.2.2.2.2.2.2.1
theorem dX12_countsBy_86 : decode cX12_countsBy 86 = .ok (.iaload, 1) := bdX12_countsBy_76.2.2.2.2.2.2.2.1
theorem dX12_countsBy_87 : decode cX12_countsBy 87 = .ok (.iadd, 1) := bdX12_countsBy_76.2.2.2.2.2.2.2.2.1
theorem dX12_countsBy_88 : decode cX12_countsBy 88 = .ok (.istore 5, 2) := bdX12_countsBy_76.2.2.2.2.2.2.2.2.2.1
theorem dX12_countsBy_90 : decode cX12_countsBy 90 = .ok (.iinc 8 1, 3) := bdX12_countsBy_76.2.2.2.2.2.2.2.2.2.2.1
theorem dX12_countsBy_93 : decode cX12_countsBy 93 = .ok (.goto (-78), 3) := bdX12_countsBy_76.2.2.2.2.2.2.2.2.2.2.2.1
theorem dX12_countsBy_96 : decode cX12_countsBy 96 = .ok (.iload 6, 2) := bdX12_countsBy_76.2.2.2.2.2.2.2.2.2.2.2.2.1
theorem dX12_countsBy_98 : decode cX12_countsBy 98 = .ok (.ireturn, 1) := bdX12_countsBy_76.2.2.2.2.2.2.2.2.2.2.2.2.2
theorem bdX12_order_0 : (decode cX12_order 0 = .ok (.aload_n 0, 1)) ∧ (decode cX12_order 1 = .ok (.getfield 7, 3)) ∧ (decode cX12_order 4 = .ok (.bipush 7, 2)) ∧ (decode cX12_order 6 = .ok (.iaload, 1)) ∧ (decode cX12_order 7 = .ok (.istore_n 2, 1)) ∧ (decode cX12_order 8 = .ok (.iload_n 2, 1)) ∧ (decode cX12_order 9 = .ok (.ifCond .eq 14, 3)) ∧ (decode cX12_order 12 = .ok (.iload_n 1, 1)) ∧ (decode cX12_order 13 = .ok (.iconst (-1), 1)) ∧ (decode cX12_order 14 = .ok (.iload_n 2, 1)) ∧ (decode cX12_order 15 = .ok (.iconst 1, 1)) ∧ (decode cX12_order 16 = .ok (.isub, 1)) ∧ (decode cX12_order 17 = .ok (.invokestatic 95, 3)) ∧ (decode cX12_order 20 = .ok (.ifCond .ne 5, 3)) ∧ (decode cX12_order 23 = .ok (.iconst (-1), 1)) ∧ (decode cX12_order 24 = .ok (.ireturn, 1)) := by decide +kernel
theorem dX12_order_0 : decode cX12_order 0 = .ok (.aload_n 0, 1) := bdX12_order_0.1
theorem dX12_order_1 : decode cX12_order 1 = .ok (.getfield 7, 3) := bdX12_order_0.2.1
theorem dX12_order_4 : decode cX12_order 4 = .ok (.bipush 7, 2) := bdX12_order_0.2.2.1
theorem dX12_order_6 : decode cX12_order 6 = .ok (.iaload, 1) := bdX12_order_0.2.2.2.1
theorem dX12_order_7 : decode cX12_order 7 = .ok (.istore_n 2, 1) := bdX12_order_0.2.2.2.2.1
theorem dX12_order_8 : decode cX12_order 8 = .ok (.iload_n 2, 1) := bdX12_order_0.2.2.2.2.2.1
theorem dX12_order_9 : decode cX12_order 9 = .ok (.ifCond .eq 14, 3) := bdX12_order_0.2.2.2.2.2.2.1
theorem dX12_order_12 : decode cX12_order 12 = .ok (.iload_n 1, 1) := bdX12_order_0.2.2.2.2.2.2.2.1
theorem dX12_order_13 : decode cX12_order 13 = .ok (.iconst (-1), 1) := bdX12_order_0.2.2.2.2.2.2.2.2.1
theorem dX12_order_14 : decode cX12_order 14 = .ok (.iload_n 2, 1) := bdX12_order_0.2.2.2.2.2.2.2.2.2.1
theorem dX12_order_15 : decode cX12_order 15 = .ok (.iconst 1, 1) := bdX12_order_0.2.2.2.2.2.2.2.2.2.2.1
theorem dX12_order_16 : decode cX12_order 16 = .ok (.isub, 1) := bdX12_order_0.2.2.2.2.2.2.2.2.2.2.2.1
theorem dX12_order_17 : decode cX12_order 17 = .ok (.invokestatic 95, 3) := bdX12_order_0.2.2.2.2.2.2.2.2.2.2.2.2.1
theorem dX12_order_20 : decode cX12_order 20 = .ok (.ifCond .ne 5, 3) := bdX12_order_0.2.2.2.2.2.2.2.2.2.2.2.2.2.1
theorem dX12_order_23 : decode cX12_order 23 = .ok (.iconst (-1), 1) := bdX12_order_0.2.2.2.2.2.2.2.2.2.2.2.2.2.2.1
theorem dX12_order_24 : decode cX12_order 24 = .ok (.ireturn, 1) := bdX12_order_0.2.2.2.2.2.2.2.2.2.2.2.2.2.2.2
theorem bdX12_order_25 : (decode cX12_order 25 = .ok (.iconst 1, 1)) ∧ (decode cX12_order 26 = .ok (.istore_n 3, 1)) ∧ (decode cX12_order 27 = .ok (.iconst 0, 1)) ∧ (decode cX12_order 28 = .ok (.istore 4, 2)) ∧ (decode cX12_order 30 = .ok (.iload 4, 2)) ∧ (decode cX12_order 32 = .ok (.iload_n 2, 1)) ∧ (decode cX12_order 33 = .ok (.if_icmp .ge 13, 3)) ∧ (decode cX12_order 36 = .ok (.iload_n 3, 1)) ∧ (decode cX12_order 37 = .ok (.iload_n 2, 1)) ∧ (decode cX12_order 38 = .ok (.imul, 1)) ∧ (decode cX12_order 39 = .ok (.istore_n 3, 1)) ∧ (decode cX12_order 40 = .ok (.iinc 4 1, 3)) ∧ (decode cX12_order 43 = .ok (.goto (-13), 3)) ∧ (decode cX12_order 46 = .ok (.iconst (-1), 1)) ∧ (decode cX12_order 47 = .ok (.istore 4, 2)) ∧ (decode cX12_order 49 = .ok (.iconst 0, 1)) := by decide +kernel
theorem dX12_order_25 : decode cX12_order 25 = .ok (.iconst 1, 1) := bdX12_order_25.1
theorem dX12_order_26 : decode cX12_order 26 = .ok (.istore_n 3, 1) := bdX12_order_25.2.1
theorem dX12_order_27 : decode cX12_order 27 = .ok (.iconst 0, 1) := bdX12_order_25.2.2.1
theorem dX12_order_28 : decode cX12_order 28 = .ok (.istore 4, 2) := bdX12_order_25.2.2.2.1
theorem dX12_order_30 : decode cX12_order 30 = .ok (.iload 4, 2) := bdX12_order_25.2.2.2.2.1
theorem dX12_order_32 : decode cX12_order 32 = .ok (.iload_n 2, 1) := bdX12_order_25.2.2.2.2.2.1
theorem dX12_order_33 : decode cX12_order 33 = .ok (.if_icmp .ge 13, 3) := bdX12_order_25.2.2.2.2.2.2.1
theorem dX12_order_36 : decode cX12_order 36 = .ok (.iload_n 3, 1) := bdX12_order_25.2.2.2.2.2.2.2.1
theorem dX12_order_37 : decode cX12_order 37 = .ok (.iload_n 2, 1) := bdX12_order_25.2.2.2.2.2.2.2.2.1
theorem dX12_order_38 : decode cX12_order 38 = .ok (.imul, 1) := bdX12_order_25.2.2.2.2.2.2.2.2.2.1
theorem dX12_order_39 : decode cX12_order 39 = .ok (.istore_n 3, 1) := bdX12_order_25.2.2.2.2.2.2.2.2.2.2.1
theorem dX12_order_40 : decode cX12_order 40 = .ok (.iinc 4 1, 3) := bdX12_order_25.2.2.2.2.2.2.2.2.2.2.2.1
theorem dX12_order_43 : decode cX12_order 43 = .ok (.goto (-13), 3) := bdX12_order_25.2.2.2.2.2.2.2.2.2.2.2.2.1
theorem dX12_order_46 : decode cX12_order 46 = .ok (.iconst (-1), 1) := bdX12_order_25.2.2.2.2.2.2.2.2.2.2.2.2.2.1
theorem dX12_order_47 : decode cX12_order 47 = .ok (.istore 4, 2) := bdX12_order_25.2.2.2.2.2.2.2.2.2.2.2.2.2.2.1
theorem dX12_order_49 : decode cX12_order 49 = .ok (.iconst 0, 1) := bdX12_order_25.2.2.2.2.2.2.2.2.2.2.2.2.2.2.2
theorem bdX12_order_50 : (decode cX12_order 50 = .ok (.istore 5, 2)) ∧ (decode cX12_order 52 = .ok (.iconst 0, 1)) ∧ (decode cX12_order 53 = .ok (.istore 6, 2)) ∧ (decode cX12_order 55 = .ok (.iload 6, 2)) ∧ (decode cX12_order 57 = .ok (.iload_n 3, 1)) ∧ (decode cX12_order 58 = .ok (.if_icmp .ge 46, 3)) ∧ (decode cX12_order 61 = .ok (.aload_n 0, 1)) ∧ (decode cX12_order 62 = .ok (.iload 6, 2)) ∧ (decode cX12_order 64 = .ok (.iload_n 2, 1)) ∧ (decode cX12_order 65 = .ok (.iload_n 3, 1)) ∧ (decode cX12_order 66 = .ok (.invokevirtual 414, 3)) ∧ (decode cX12_order 69 = .ok (.istore 7, 2)) ∧ (decode cX12_order 71 = .ok (.iload 7, 2)) ∧ (decode cX12_order 73 = .ok (.iconst (-1), 1)) ∧ (decode cX12_order 74 = .ok (.if_icmp .eq 24, 3)) ∧ (decode cX12_order 77 = .ok (.iload 4, 2)) := by decide +kernel
theorem dX12_order_50 : decode cX12_order 50 = .ok (.istore 5, 2) := bdX12_order_50.1
theorem dX12_order_52 : decode cX12_order 52 = .ok (.iconst 0, 1) := bdX12_order_50.2.1
theorem dX12_order_53 : decode cX12_order 53 = .ok (.istore 6, 2) := bdX12_order_50.2.2.1
theorem dX12_order_55 : decode cX12_order 55 = .ok (.iload 6, 2) := bdX12_order_50.2.2.2.1
theorem dX12_order_57 : decode cX12_order 57 = .ok (.iload_n 3, 1) := bdX12_order_50.2.2.2.2.1
theorem dX12_order_58 : decode cX12_order 58 = .ok (.if_icmp .ge 46, 3) := bdX12_order_50.2.2.2.2.2.1
theorem dX12_order_61 : decode cX12_order 61 = .ok (.aload_n 0, 1) := bdX12_order_50.2.2.2.2.2.2.1
theorem dX12_order_62 : decode cX12_order 62 = .ok (.iload 6, 2) := bdX12_order_50.2.2.2.2.2.2.2.1
theorem dX12_order_64 : decode cX12_order 64 = .ok (.iload_n 2, 1) := bdX12_order_50.2.2.2.2.2.2.2.2.1
theorem dX12_order_65 : decode cX12_order 65 = .ok (.iload_n 3, 1) := bdX12_order_50.2.2.2.2.2.2.2.2.2.1
theorem dX12_order_66 : decode cX12_order 66 = .ok (.invokevirtual 414, 3) := bdX12_order_50.2.2.2.2.2.2.2.2.2.2.1
theorem dX12_order_69 : decode cX12_order 69 = .ok (.istore 7, 2) := bdX12_order_50.2.2.2.2.2.2.2.2.2.2.2.1
theorem dX12_order_71 : decode cX12_order 71 = .ok (.iload 7, 2) := bdX12_order_50.2.2.2.2.2.2.2.2.2.2.2.2.1
theorem dX12_order_73 : decode cX12_order 73 = .ok (.iconst (-1), 1) := bdX12_order_50.2.2.2.2.2.2.2.2.2.2.2.2.2.1
theorem dX12_order_74 : decode cX12_order 74 = .ok (.if_icmp .eq 24, 3) := bdX12_order_50.2.2.2.2.2.2.2.2.2.2.2.2.2.2.1
theorem dX12_order_77 : decode cX12_order 77 = .ok (.iload 4, 2) := bdX12_order_50.2.2.2.2.2.2.2.2.2.2.2.2.2.2.2
theorem bdX12_order_79 : (decode cX12_order 79 = .ok (.iconst (-1), 1)) ∧ (decode cX12_order 80 = .ok (.if_icmp .eq 10, 3)) ∧ (decode cX12_order 83 = .ok (.iload 7, 2)) ∧ (decode cX12_order 85 = .ok (.iload 4, 2)) ∧ (decode cX12_order 87 = .ok (.if_icmp .ge 11, 3)) ∧ (decode cX12_order 90 = .ok (.iload 7, 2)) ∧ (decode cX12_order 92 = .ok (.istore 4, 2)) ∧ (decode cX12_order 94 = .ok (.iload 6, 2)) ∧ (decode cX12_order 96 = .ok (.istore 5, 2)) ∧ (decode cX12_order 98 = .ok (.iinc 6 1, 3)) ∧ (decode cX12_order 101 = .ok (.goto (-46), 3)) ∧ (decode cX12_order 104 = .ok (.iload_n 1, 1)) ∧ (decode cX12_order 105 = .ok (.iconst (-1), 1)) ∧ (decode cX12_order 106 = .ok (.if_icmp .ne 6, 3)) ∧ (decode cX12_order 109 = .ok (.iload 4, 2)) ∧ (decode cX12_order 111 = .ok (.ireturn, 1)) := by decide +kernel
theorem dX12_order_79 : decode cX12_order 79 = .ok (.iconst (-1), 1) := bdX12_order_79.1
theorem dX12_order_80 : decode cX12_order 80 = .ok (.if_icmp .eq 10, 3) := bdX12_order_79.2.1
theorem dX12_order_83 : decode cX12_order 83 = .ok (.iload 7, 2) := bdX12_order_79.2.2.1
theorem dX12_order_85 : decode cX12_order 85 = .ok (.iload 4, 2) := bdX12_order_79.2.2.2.1
theorem dX12_order_87 : decode cX12_order 87 = .ok (.if_icmp .ge 11, 3) := bdX12_order_79.2.2.2.2.1
theorem dX12_order_90 : decode cX12_order 90 = .ok (.iload 7, 2) := bdX12_order_79.2.2.2.2.2.1
theorem dX12_order_92 : decode cX12_order 92 = .ok (.istore 4, 2) := bdX12_order_79.2.2.2.2.2.2.1
theorem dX12_order_94 : decode cX12_order 94 = .ok (.iload 6, 2) := bdX12_order_79.2.2.2.2.2.2.2.1
theorem dX12_order_96 : decode cX12_order 96 = .ok (.istore 5, 2) := bdX12_order_79.2.2.2.2.2.2.2.2.1
theorem dX12_order_98 : decode cX12_order 98 = .ok (.iinc 6 1, 3) := bdX12_order_79.2.2.2.2.2.2.2.2.2.1
theorem dX12_order_101 : decode cX12_order 101 = .ok (.goto (-46), 3) := bdX12_order_79.2.2.2.2.2.2.2.2.2.2.1
theorem dX12_order_104 : decode cX12_order 104 = .ok (.iload_n 1, 1) := bdX12_order_79.2.2.2.2.2.2.2.2.2.2.2.1
theorem dX12_order_105 : decode cX12_order 105 = .ok (.iconst (-1), 1) := bdX12_order_79.2.2.2.2.2.2.2.2.2.2.2.2.1
theorem dX12_order_106 : decode cX12_order 106 = .ok (.if_icmp .ne 6, 3) := bdX12_order_79.2.2.2.2.2.2.2.2.2.2.2.2.2.1
theorem dX12_order_109 : decode cX12_order 109 = .ok (.iload 4, 2) := bdX12_order_79.2.2.2.2.2.2.2.2.2.2.2.2.2.2.1
theorem dX12_order_111 : decode cX12_order 111 = .ok (.ireturn, 1) := bdX12_order_79.2.2.2.2.2.2.2.2.2.2.2.2.2.2.2
theorem bdX12_order_112 : (decode cX12_order 112 = .ok (.iload_n 2, 1)) ∧ (decode cX12_order 113 = .ok (.iconst 1, 1)) ∧ (decode cX12_order 114 = .ok (.isub, 1)) ∧ (decode cX12_order 115 = .ok (.istore 6, 2)) ∧ (decode cX12_order 117 = .ok (.iload 6, 2)) ∧ (decode cX12_order 119 = .ok (.iload_n 1, 1)) ∧ (decode cX12_order 120 = .ok (.if_icmp .le 15, 3)) ∧ (decode cX12_order 123 = .ok (.iload 5, 2)) ∧ (decode cX12_order 125 = .ok (.iload_n 2, 1)) ∧ (decode cX12_order 126 = .ok (.idiv, 1)) ∧ (decode cX12_order 127 = .ok (.istore 5, 2)) ∧ (decode cX12_order 129 = .ok (.iinc 6 (-1), 3)) ∧ (decode cX12_order 132 = .ok (.goto (-15), 3)) ∧ (decode cX12_order 135 = .ok (.iload 5, 2)) ∧ (decode cX12_order 137 = .ok (.iload_n 2, 1)) ∧ (decode cX12_order 138 = .ok (.irem, 1)) := by decide +kernel
theorem dX12_order_112 : decode cX12_order 112 = .ok (.iload_n 2, 1) := bdX12_order_112.1
theorem dX12_order_113 : decode cX12_order 113 = .ok (.iconst 1, 1) := bdX12_order_112.2.1
theorem dX12_order_114 : decode cX12_order 114 = .ok (.isub, 1) := bdX12_order_112.2.2.1
theorem dX12_order_115 : decode cX12_order 115 = .ok (.istore 6, 2) := bdX12_order_112.2.2.2.1
theorem dX12_order_117 : decode cX12_order 117 = .ok (.iload 6, 2) := bdX12_order_112.2.2.2.2.1
theorem dX12_order_119 : decode cX12_order 119 = .ok (.iload_n 1, 1) := bdX12_order_112.2.2.2.2.2.1
theorem dX12_order_120 : decode cX12_order 120 = .ok (.if_icmp .le 15, 3) := bdX12_order_112.2.2.2.2.2.2.1
theorem dX12_order_123 : decode cX12_order 123 = .ok (.iload 5, 2) := bdX12_order_112.2.2.2.2.2.2.2.1
theorem dX12_order_125 : decode cX12_order 125 = .ok (.iload_n 2, 1) := bdX12_order_112.2.2.2.2.2.2.2.2.1
theorem dX12_order_126 : decode cX12_order 126 = .ok (.idiv, 1) := bdX12_order_112.2.2.2.2.2.2.2.2.2.1
theorem dX12_order_127 : decode cX12_order 127 = .ok (.istore 5, 2) := bdX12_order_112.2.2.2.2.2.2.2.2.2.2.1
theorem dX12_order_129 : decode cX12_order 129 = .ok (.iinc 6 (-1), 3) := bdX12_order_112.2.2.2.2.2.2.2.2.2.2.2.1
theorem dX12_order_132 : decode cX12_order 132 = .ok (.goto (-15), 3) := bdX12_order_112.2.2.2.2.2.2.2.2.2.2.2.2.1
theorem dX12_order_135 : decode cX12_order 135 = .ok (.iload 5, 2) := bdX12_order_112.2.2.2.2.2.2.2.2.2.2.2.2.2.1
theorem dX12_order_137 : decode cX12_order 137 = .ok (.iload_n 2, 1) := bdX12_order_112.2.2.2.2.2.2.2.2.2.2.2.2.2.2.1
theorem dX12_order_138 : decode cX12_order 138 = .ok (.irem, 1) := bdX12_order_112.2.2.2.2.2.2.2.2.2.2.2.2.2.2.2
theorem dX12_order_139 : decode cX12_order 139 = .ok (.ireturn, 1) := by decide +kernel
theorem bdX4_tell_0 : (decode cX4_tell 0 = .ok (.aload_n 0, 1)) ∧ (decode cX4_tell 1 = .ok (.getfield 15, 3)) ∧ (decode cX4_tell 4 = .ok (.ifCond .lt 12, 3)) ∧ (decode cX4_tell 7 = .ok (.aload_n 0, 1)) ∧ (decode cX4_tell 8 = .ok (.getfield 15, 3)) ∧ (decode cX4_tell 11 = .ok (.bipush 60, 2)) ∧ (decode cX4_tell 13 = .ok (.if_icmp .lt 5, 3)) ∧ (decode cX4_tell 16 = .ok (.iconst (-1), 1)) ∧ (decode cX4_tell 17 = .ok (.ireturn, 1)) ∧ (decode cX4_tell 18 = .ok (.aload_n 0, 1)) ∧ (decode cX4_tell 19 = .ok (.getfield 11, 3)) ∧ (decode cX4_tell 22 = .ok (.aload_n 0, 1)) ∧ (decode cX4_tell 23 = .ok (.getfield 15, 3)) ∧ (decode cX4_tell 26 = .ok (.iload_n 1, 1)) ∧ (decode cX4_tell 27 = .ok (.iastore, 1)) ∧ (decode cX4_tell 28 = .ok (.aload_n 0, 1)) := by decide +kernel
theorem dX4_tell_0 : decode cX4_tell 0 = .ok (.aload_n 0, 1) := bdX4_tell_0.1
theorem dX4_tell_1 : decode cX4_tell 1 = .ok (.getfield 15, 3) := bdX4_tell_0.2.1
theorem dX4_tell_4 : decode cX4_tell 4 = .ok (.ifCond .lt 12, 3) := bdX4_tell_0.2.2.1
theorem dX4_tell_7 : decode cX4_tell 7 = .ok (.aload_n 0, 1) := bdX4_tell_0.2.2.2.1
theorem dX4_tell_8 : decode cX4_tell 8 = .ok (.getfield 15, 3) := bdX4_tell_0.2.2.2.2.1
theorem dX4_tell_11 : decode cX4_tell 11 = .ok (.bipush 60, 2) := bdX4_tell_0.2.2.2.2.2.1
theorem dX4_tell_13 : decode cX4_tell 13 = .ok (.if_icmp .lt 5, 3) := bdX4_tell_0.2.2.2.2.2.2.1
theorem dX4_tell_16 : decode cX4_tell 16 = .ok (.iconst (-1), 1) := bdX4_tell_0.2.2.2.2.2.2.2.1
theorem dX4_tell_17 : decode cX4_tell 17 = .ok (.ireturn, 1) := bdX4_tell_0.2.2.2.2.2.2.2.2.1
theorem dX4_tell_18 : decode cX4_tell 18 = .ok (.aload_n 0, 1) := bdX4_tell_0.2.2.2.2.2.2.2.2.2.1
theorem dX4_tell_19 : decode cX4_tell 19 = .ok (.getfield 11, 3) := bdX4_tell_0.2.2.2.2.2.2.2.2.2.2.1
theorem dX4_tell_22 : decode cX4_tell 22 = .ok (.aload_n 0, 1) := bdX4_tell_0.2.2.2.2.2.2.2.2.2.2.2.1
theorem dX4_tell_23 : decode cX4_tell 23 = .ok (.getfield 15, 3) := bdX4_tell_0.2.2.2.2.2.2.2.2.2.2.2.2.1
theorem dX4_tell_26 : decode cX4_tell 26 = .ok (.iload_n 1, 1) := bdX4_tell_0.2.2.2.2.2.2.2.2.2.2.2.2.2.1
theorem dX4_tell_27 : decode cX4_tell 27 = .ok (.iastore, 1) := bdX4_tell_0.2.2.2.2.2.2.2.2.2.2.2.2.2.2.1
theorem dX4_tell_28 : decode cX4_tell 28 = .ok (.aload_n 0, 1) := bdX4_tell_0.2.2.2.2.2.2.2.2.2.2.2.2.2.2.2
theorem bdX4_tell_29 : (decode cX4_tell 29 = .ok (.dup, 1)) ∧ (decode cX4_tell 30 = .ok (.getfield 15, 3)) ∧ (decode cX4_tell 33 = .ok (.iconst 1, 1)) ∧ (decode cX4_tell 34 = .ok (.iadd, 1)) ∧ (decode cX4_tell 35 = .ok (.putfield 15, 3)) ∧ (decode cX4_tell 38 = .ok (.aload_n 0, 1)) ∧ (decode cX4_tell 39 = .ok (.getfield 15, 3)) ∧ (decode cX4_tell 42 = .ok (.ireturn, 1)) := by decide +kernel
theorem dX4_tell_29 : decode cX4_tell 29 = .ok (.dup, 1) := bdX4_tell_29.1
theorem dX4_tell_30 : decode cX4_tell 30 = .ok (.getfield 15, 3) := bdX4_tell_29.2.1
theorem dX4_tell_33 : decode cX4_tell 33 = .ok (.iconst 1, 1) := bdX4_tell_29.2.2.1
theorem dX4_tell_34 : decode cX4_tell 34 = .ok (.iadd, 1) := bdX4_tell_29.2.2.2.1
theorem dX4_tell_35 : decode cX4_tell 35 = .ok (.putfield 15, 3) := bdX4_tell_29.2.2.2.2.1
theorem dX4_tell_38 : decode cX4_tell 38 = .ok (.aload_n 0, 1) := bdX4_tell_29.2.2.2.2.2.1
theorem dX4_tell_39 : decode cX4_tell 39 = .ok (.getfield 15, 3) := bdX4_tell_29.2.2.2.2.2.2.1
theorem dX4_tell_42 : decode cX4_tell 42 = .ok (.ireturn, 1) := bdX4_tell_29.2.2.2.2.2.2.2
theorem bdX11_load_0 : (decode cX11_load 0 = .ok (.iload_n 1, 1)) ∧ (decode cX11_load 1 = .ok (.iconst 0, 1)) ∧ (decode cX11_load 2 = .ok (.bipush 80, 2)) ∧ (decode cX11_load 4 = .ok (.invokestatic 47, 3)) ∧ (decode cX11_load 7 = .ok (.ifCond .eq 17, 3)) ∧ (decode cX11_load 10 = .ok (.aload_n 0, 1)) ∧ (decode cX11_load 11 = .ok (.getfield 10, 3)) ∧ (decode cX11_load 14 = .ok (.getfield 301, 3)) ∧ (decode cX11_load 17 = .ok (.iload_n 1, 1)) ∧ (decode cX11_load 18 = .ok (.invokevirtual 305, 3)) ∧ (decode cX11_load 21 = .ok (.goto 4, 3)) ∧ (decode cX11_load 24 = .ok (.iconst (-1), 1)) ∧ (decode cX11_load 25 = .ok (.ireturn, 1)) := by decide +kernel
theorem dX11_load_0 : decode cX11_load 0 = .ok (.iload_n 1, 1) := bdX11_load_0.1
theorem dX11_load_1 : decode cX11_load 1 = .ok (.iconst 0, 1) := bdX11_load_0.2.1
theorem dX11_load_2 : decode cX11_load 2 = .ok (.bipush 80, 2) := bdX11_load_0.2.2.1
theorem dX11_load_4 : decode cX11_load 4 = .ok (.invokestatic 47, 3) := bdX11_load_0.2.2.2.1
theorem dX11_load_7 : decode cX11_load 7 = .ok (.ifCond .eq 17, 3) := bdX11_load_0.2.2.2.2.1
theorem dX11_load_10 : decode cX11_load 10 = .ok (.aload_n 0, 1) := bdX11_load_0.2.2.2.2.2.1
theorem dX11_load_11 : decode cX11_load 11 = .ok (.getfield 10, 3) := bdX11_load_0.2.2.2.2.2.2.1
theorem dX11_load_14 : decode cX11_load 14 = .ok (.getfield 301, 3) := bdX11_load_0.2.2.2.2.2.2.2.1
theorem dX11_load_17 : decode cX11_load 17 = .ok (.iload_n 1, 1) := bdX11_load_0.2.2.2.2.2.2.2.2.1
theorem dX11_load_18 : decode cX11_load 18 = .ok (.invokevirtual 305, 3) := bdX11_load_0.2.2.2.2.2.2.2.2.2.1
theorem dX11_load_21 : decode cX11_load 21 = .ok (.goto 4, 3) := bdX11_load_0.2.2.2.2.2.2.2.2.2.2.1
theorem dX11_load_24 : decode cX11_load 24 = .ok (.iconst (-1), 1) := bdX11_load_0.2.2.2.2.2.2.2.2.2.2.2.1
theorem dX11_load_25 : decode cX11_load 25 = .ok (.ireturn, 1) := bdX11_load_0.2.2.2.2.2.2.2.2.2.2.2.2
theorem bdX12_load_0 : (decode cX12_load 0 = .ok (.iload_n 1, 1)) ∧ (decode cX12_load 1 = .ok (.iconst 0, 1)) ∧ (decode cX12_load 2 = .ok (.bipush 80, 2)) ∧ (decode cX12_load 4 = .ok (.invokestatic 95, 3)) ∧ (decode cX12_load 7 = .ok (.ifCond .eq 15, 3)) ∧ (decode cX12_load 10 = .ok (.aload_n 0, 1)) ∧ (decode cX12_load 11 = .ok (.getfield 7, 3)) ∧ (decode cX12_load 14 = .ok (.bipush 8, 2)) ∧ (decode cX12_load 16 = .ok (.iaload, 1)) ∧ (decode cX12_load 17 = .ok (.bipush 60, 2)) ∧ (decode cX12_load 19 = .ok (.if_icmp .ne 5, 3)) ∧ (decode cX12_load 22 = .ok (.iconst (-1), 1)) ∧ (decode cX12_load 23 = .ok (.ireturn, 1)) ∧ (decode cX12_load 24 = .ok (.aload_n 0, 1)) ∧ (decode cX12_load 25 = .ok (.getfield 7, 3)) ∧ (decode cX12_load 28 = .ok (.sipush 1550, 3)) := by decide +kernel
theorem dX12_load_0 : decode cX12_load 0 = .ok (.iload_n 1, 1) := bdX12_load_0.1
theorem dX12_load_1 : decode cX12_load 1 = .ok (.iconst 0, 1) := bdX12_load_0.2.1
theorem dX12_load_2 : decode cX12_load 2 = .ok (.bipush 80, 2) := bdX12_load_0.2.2.1
theorem dX12_load_4 : decode cX12_load 4 = .ok (.invokestatic 95, 3) := bdX12_load_0.2.2.2.1
theorem dX12_load_7 : decode cX12_load 7 = .ok (.ifCond .eq 15, 3) := bdX12_load_0.2.2.2.2.1
theorem dX12_load_10 : decode cX12_load 10 = .ok (.aload_n 0, 1) := bdX12_load_0.2.2.2.2.2.1
theorem dX12_load_11 : decode cX12_load 11 = .ok (.getfield 7, 3) := bdX12_load_0.2.2.2.2.2.2.1
theorem dX12_load_14 : decode cX12_load 14 = .ok (.bipush 8, 2) := bdX12_load_0.2.2.2.2.2.2.2.1
theorem dX12_load_16 : decode cX12_load 16 = .ok (.iaload, 1) := bdX12_load_0.2.2.2.2.2.2.2.2.1
theorem dX12_load_17 : decode cX12_load 17 = .ok (.bipush 60, 2) := bdX12_load_0.2.2.2.2.2.2.2.2.2.1
theorem dX12_load_19 : decode cX12_load 19 = .ok (.if_icmp .ne 5, 3) := bdX12_load_0.2.2.2.2.2.2.2.2.2.2.1
theorem dX12_load_22 : decode cX12_load 22 = .ok (.iconst (-1), 1) := bdX12_load_0.2.2.2.2.2.2.2.2.2.2.2.1
theorem dX12_load_23 : decode cX12_load 23 = .ok (.ireturn, 1) := bdX12_load_0.2.2.2.2.2.2.2.2.2.2.2.2.1
theorem dX12_load_24 : decode cX12_load 24 = .ok (.aload_n 0, 1) := bdX12_load_0.2.2.2.2.2.2.2.2.2.2.2.2.2.1
theorem dX12_load_25 : decode cX12_load 25 = .ok (.getfield 7, 3) := bdX12_load_0.2.2.2.2.2.2.2.2.2.2.2.2.2.2.1
theorem dX12_load_28 : decode cX12_load 28 = .ok (.sipush 1550, 3) := bdX12_load_0.2.2.2.2.2.2.2.2.2.2.2.2.2.2.2
theorem bdX12_load_31 : (decode cX12_load 31 = .ok (.aload_n 0, 1)) ∧ (decode cX12_load 32 = .ok (.getfield 7, 3)) ∧ (decode cX12_load 35 = .ok (.bipush 8, 2)) ∧ (decode cX12_load 37 = .ok (.iaload, 1)) ∧ (decode cX12_load 38 = .ok (.iadd, 1)) ∧ (decode cX12_load 39 = .ok (.iload_n 1, 1)) ∧ (decode cX12_load 40 = .ok (.iastore, 1)) ∧ (decode cX12_load 41 = .ok (.aload_n 0, 1)) ∧ (decode cX12_load 42 = .ok (.getfield 7, 3)) ∧ (decode cX12_load 45 = .ok (.bipush 8, 2)) ∧ (decode cX12_load 47 = .ok (.dup2, 1)) ∧ (decode cX12_load 48 = .ok (.iaload, 1)) ∧ (decode cX12_load 49 = .ok (.iconst 1, 1)) ∧ (decode cX12_load 50 = .ok (.iadd, 1)) ∧ (decode cX12_load 51 = .ok (.iastore, 1)) ∧ (decode cX12_load 52 = .ok (.aload_n 0, 1)) := by decide +kernel
theorem dX12_load_31 : decode cX12_load 31 = .ok (.aload_n 0, 1) := bdX12_load_31.1
theorem dX12_load_32 : decode cX12_load 32 = .ok (.getfield 7, 3) := bdX12_load_31.2.1
theorem dX12_load_35 : decode cX12_load 35 = .ok (.bipush 8, 2) := bdX12_load_31.2.2.1
theorem dX12_load_37 : decode cX12_load 37 = .ok (.iaload, 1) := bdX12_load_31.2.2.2.1
theorem dX12_load_38 : decode cX12_load 38 = .ok (.iadd, 1) := bdX12_load_31.2.2.2.2.1
theorem dX12_load_39 : decode cX12_load 39 = .ok (.iload_n 1, 1) := bdX12_load_31.2.2.2.2.2.1
theorem dX12_load_40 : decode cX12_load 40 = .ok (.iastore, 1) := bdX12_load_31.2.2.2.2.2.2.1
theorem dX12_load_41 : decode cX12_load 41 = .ok (.aload_n 0, 1) := bdX12_load_31.2.2.2.2.2.2.2.1
theorem dX12_load_42 : decode cX12_load 42 = .ok (.getfield 7, 3) := bdX12_load_31.2.2.2.2.2.2.2.2.1
theorem dX12_load_45 : decode cX12_load 45 = .ok (.bipush 8, 2) := bdX12_load_31.2.2.2.2.2.2.2.2.2.1
theorem dX12_load_47 : decode cX12_load 47 = .ok (.dup2, 1) := bdX12_load_31.2.2.2.2.2.2.2.2.2.2.1
theorem dX12_load_48 : decode cX12_load 48 = .ok (.iaload, 1) := bdX12_load_31.2.2.2.2.2.2.2.2.2.2.2.1
theorem dX12_load_49 : decode cX12_load 49 = .ok (.iconst 1, 1) := bdX12_load_31.2.2.2.2.2.2.2.2.2.2.2.2.1
theorem dX12_load_50 : decode cX12_load 50 = .ok (.iadd, 1) := bdX12_load_31.2.2.2.2.2.2.2.2.2.2.2.2.2.1
theorem dX12_load_51 : decode cX12_load 51 = .ok (.iastore, 1) := bdX12_load_31.2.2.2.2.2.2.2.2.2.2.2.2.2.2.1
theorem dX12_load_52 : decode cX12_load 52 = .ok (.aload_n 0, 1) := bdX12_load_31.2.2.2.2.2.2.2.2.2.2.2.2.2.2.2
theorem bdX12_load_53 : (decode cX12_load 53 = .ok (.getfield 7, 3)) ∧ (decode cX12_load 56 = .ok (.bipush 8, 2)) ∧ (decode cX12_load 58 = .ok (.iaload, 1)) ∧ (decode cX12_load 59 = .ok (.ireturn, 1)) := by decide +kernel
theorem dX12_load_53 : decode cX12_load 53 = .ok (.getfield 7, 3) := bdX12_load_53.1
theorem dX12_load_56 : decode cX12_load 56 = .ok (.bipush 8, 2) := bdX12_load_53.2.1
theorem dX12_load_58 : decode cX12_load 58 = .ok (.iaload, 1) := bdX12_load_53.2.2.1
theorem dX12_load_59 : decode cX12_load 59 = .ok (.ireturn, 1) := bdX12_load_53.2.2.2
theorem bdX11_unload_0 : (decode cX11_unload 0 = .ok (.aload_n 0, 1)) ∧ (decode cX11_unload 1 = .ok (.getfield 10, 3)) ∧ (decode cX11_unload 4 = .ok (.getfield 301, 3)) ∧ (decode cX11_unload 7 = .ok (.getfield 309, 3)) ∧ (decode cX11_unload 10 = .ok (.istore_n 1, 1)) ∧ (decode cX11_unload 11 = .ok (.aload_n 0, 1)) ∧ (decode cX11_unload 12 = .ok (.getfield 10, 3)) ∧ (decode cX11_unload 15 = .ok (.getfield 301, 3)) ∧ (decode cX11_unload 18 = .ok (.iconst 0, 1)) ∧ (decode cX11_unload 19 = .ok (.putfield 309, 3)) ∧ (decode cX11_unload 22 = .ok (.iload_n 1, 1)) ∧ (decode cX11_unload 23 = .ok (.ireturn, 1)) := by decide +kernel
theorem dX11_unload_0 : decode cX11_unload 0 = .ok (.aload_n 0, 1) := bdX11_unload_0.1
theorem dX11_unload_1 : decode cX11_unload 1 = .ok (.getfield 10, 3) := bdX11_unload_0.2.1
theorem dX11_unload_4 : decode cX11_unload 4 = .ok (.getfield 301, 3) := bdX11_unload_0.2.2.1
theorem dX11_unload_7 : decode cX11_unload 7 = .ok (.getfield 309, 3) := bdX11_unload_0.2.2.2.1
theorem dX11_unload_10 : decode cX11_unload 10 = .ok (.istore_n 1, 1) := bdX11_unload_0.2.2.2.2.1
theorem dX11_unload_11 : decode cX11_unload 11 = .ok (.aload_n 0, 1) := bdX11_unload_0.2.2.2.2.2.1
theorem dX11_unload_12 : decode cX11_unload 12 = .ok (.getfield 10, 3) := bdX11_unload_0.2.2.2.2.2.2.1
theorem dX11_unload_15 : decode cX11_unload 15 = .ok (.getfield 301, 3) := bdX11_unload_0.2.2.2.2.2.2.2.1
theorem dX11_unload_18 : decode cX11_unload 18 = .ok (.iconst 0, 1) := bdX11_unload_0.2.2.2.2.2.2.2.2.1
theorem dX11_unload_19 : decode cX11_unload 19 = .ok (.putfield 309, 3) := bdX11_unload_0.2.2.2.2.2.2.2.2.2.1
theorem dX11_unload_22 : decode cX11_unload 22 = .ok (.iload_n 1, 1) := bdX11_unload_0.2.2.2.2.2.2.2.2.2.2.1
theorem dX11_unload_23 : decode cX11_unload 23 = .ok (.ireturn, 1) := bdX11_unload_0.2.2.2.2.2.2.2.2.2.2.2
theorem bdX12_unload_0 : (decode cX12_unload 0 = .ok (.aload_n 0, 1)) ∧ (decode cX12_unload 1 = .ok (.getfield 7, 3)) ∧ (decode cX12_unload 4 = .ok (.bipush 8, 2)) ∧ (decode cX12_unload 6 = .ok (.iaload, 1)) ∧ (decode cX12_unload 7 = .ok (.istore_n 1, 1)) ∧ (decode cX12_unload 8 = .ok (.aload_n 0, 1)) ∧ (decode cX12_unload 9 = .ok (.getfield 7, 3)) ∧ (decode cX12_unload 12 = .ok (.bipush 8, 2)) ∧ (decode cX12_unload 14 = .ok (.iconst 0, 1)) ∧ (decode cX12_unload 15 = .ok (.iastore, 1)) ∧ (decode cX12_unload 16 = .ok (.iload_n 1, 1)) ∧ (decode cX12_unload 17 = .ok (.ireturn, 1)) := by decide +kernel
theorem dX12_unload_0 : decode cX12_unload 0 = .ok (.aload_n 0, 1) := bdX12_unload_0.1
theorem dX12_unload_1 : decode cX12_unload 1 = .ok (.getfield 7, 3) := bdX12_unload_0.2.1
theorem dX12_unload_4 : decode cX12_unload 4 = .ok (.bipush 8, 2) := bdX12_unload_0.2.2.1
theorem dX12_unload_6 : decode cX12_unload 6 = .ok (.iaload, 1) := bdX12_unload_0.2.2.2.1
theorem dX12_unload_7 : decode cX12_unload 7 = .ok (.istore_n 1, 1) := bdX12_unload_0.2.2.2.2.1
theorem dX12_unload_8 : decode cX12_unload 8 = .ok (.aload_n 0, 1) := bdX12_unload_0.2.2.2.2.2.1
theorem dX12_unload_9 : decode cX12_unload 9 = .ok (.getfield 7, 3) := bdX12_unload_0.2.2.2.2.2.2.1
theorem dX12_unload_12 : decode cX12_unload 12 = .ok (.bipush 8, 2) := bdX12_unload_0.2.2.2.2.2.2.2.1
theorem dX12_unload_14 : decode cX12_unload 14 = .ok (.iconst 0, 1) := bdX12_unload_0.2.2.2.2.2.2.2.2.1
theorem dX12_unload_15 : decode cX12_unload 15 = .ok (.iastore, 1) := bdX12_unload_0.2.2.2.2.2.2.2.2.2.1
theorem dX12_unload_16 : decode cX12_unload 16 = .ok (.iload_n 1, 1) := bdX12_unload_0.2.2.2.2.2.2.2.2.2.2.1
theorem dX12_unload_17 : decode cX12_unload 17 = .ok (.ireturn, 1) := bdX12_unload_0.2.2.2.2.2.2.2.2.2.2.2
def fX5_bestNext_58 (a0 : Nat) (a1 : Int32) (rec7 : Int32 → Int32 → Int32 → xMem → Option (Int32 × xMem)) (l2 : Int32) (l3 : Int32) (l4 : Int32) (m : xMem) : Option (Int32 × xMem) := xLet (l4 + (1 : Int32)) fun x1 => rec7 l2 l3 x1 m
set_option maxRecDepth 4000 in
theorem fX5_bestNext_58_ok {a0 : Nat} {a1 : Int32} {rec7 : Int32 → Int32 → Int32 → xMem → Option (Int32 × xMem)} {d : Nat} (hd : 1 ≤ d) (ha0 : isMends a0) (hrec7 : ∀ (l2 : Int32) (l3 : Int32) (l4 : Int32) (o5 : Option Value) (q5 : xNoD o5 = true) (m : xMem) (r : (Int32 × xMem)), rec7 l2 l3 l4 m = some r → xFx hh_248 cX5_bestNext d 7 [some (.ref a0), some (.int a1), some (.int l2), some (.int l3), some (.int l4), o5] [] (xLay m) 0 0 (some (.int r.1)) (xLay r.2)) {l2 : Int32} {l3 : Int32} {l4 : Int32} {o5 : Option Value} {m : xMem} {r : (Int32 × xMem)} (q5 : xNoD o5 = true) (h : fX5_bestNext_58 a0 a1 rec7 l2 l3 l4 m = some r) : xFx hh_248 cX5_bestNext d 58 [some (.ref a0), some (.int a1), some (.int l2), some (.int l3), some (.int l4), o5] [] (xLay m) 0 0 (some (.int r.1)) (xLay r.2) := by
  unfold fX5_bestNext_58 at h
  obtain ⟨x1, hx1, h⟩ := xLet_el h
  refine fx_iinc (ls2 := [some (.ref a0), some (.int a1), some (.int l2), some (.int l3), some (.int x1), o5]) dX5_bestNext_58 rfl rfl rfl hx1 rfl ?_
  refine fx_goto (t := 7) dX5_bestNext_61 rfl rfl ?_
  exact hrec7 l2 l3 x1 (o5) q5 m r h
def fX5_bestNext_52 (a0 : Nat) (a1 : Int32) (rec7 : Int32 → Int32 → Int32 → xMem → Option (Int32 × xMem)) (l4 : Int32) (l5 : Int32) (m : xMem) : Option (Int32 × xMem) := fX5_bestNext_58 a0 a1 rec7 l4 l5 l4 m
set_option maxRecDepth 4000 in
theorem fX5_bestNext_52_ok {a0 : Nat} {a1 : Int32} {rec7 : Int32 → Int32 → Int32 → xMem → Option (Int32 × xMem)} {d : Nat} (hd : 1 ≤ d) (ha0 : isMends a0) (hrec7 : ∀ (l2 : Int32) (l3 : Int32) (l4 : Int32) (o5 : Option Value) (q5 : xNoD o5 = true) (m : xMem) (r : (Int32 × xMem)), rec7 l2 l3 l4 m = some r → xFx hh_248 cX5_bestNext d 7 [some (.ref a0), some (.int a1), some (.int l2), some (.int l3), some (.int l4), o5] [] (xLay m) 0 0 (some (.int r.1)) (xLay r.2)) {l4 : Int32} {l5 : Int32} {o2 : Option Value} {o3 : Option Value} {m : xMem} {r : (Int32 × xMem)} (q2 : xNoD o2 = true) (q3 : xNoD o3 = true) (h : fX5_bestNext_52 a0 a1 rec7 l4 l5 m = some r) : xFx hh_248 cX5_bestNext d 52 [some (.ref a0), some (.int a1), o2, o3, some (.int l4), some (.int l5)] [] (xLay m) 0 0 (some (.int r.1)) (xLay r.2) := by
  unfold fX5_bestNext_52 at h
  refine fx_iload dX5_bestNext_52 rfl rfl ?_
  refine fx_istore_n (ls2 := [some (.ref a0), some (.int a1), some (.int l4), o3, some (.int l4), some (.int l5)]) dX5_bestNext_54 rfl rfl rfl ?_
  refine fx_iload dX5_bestNext_55 rfl rfl ?_
  refine fx_istore_n (ls2 := [some (.ref a0), some (.int a1), some (.int l4), some (.int l5), some (.int l4), some (.int l5)]) dX5_bestNext_57 rfl rfl rfl ?_
  exact fX5_bestNext_58_ok (o5 := some (.int l5)) hd ha0 hrec7 rfl h
def fX5_bestNext_64 (a0 : Nat) (a1 : Int32) (l2 : Int32) (m : xMem) : Option (Int32 × xMem) := some (l2, m)
set_option maxRecDepth 4000 in
theorem fX5_bestNext_64_ok {a0 : Nat} {a1 : Int32} {d : Nat} (hd : 1 ≤ d) (ha0 : isMends a0) {l2 : Int32} {o3 : Option Value} {o4 : Option Value} {o5 : Option Value} {m : xMem} {r : (Int32 × xMem)} (q3 : xNoD o3 = true) (q4 : xNoD o4 = true) (q5 : xNoD o5 = true) (h : fX5_bestNext_64 a0 a1 l2 m = some r) : xFx hh_248 cX5_bestNext d 64 [some (.ref a0), some (.int a1), some (.int l2), o3, o4, o5] [] (xLay m) 0 0 (some (.int r.1)) (xLay r.2) := by
  unfold fX5_bestNext_64 at h
  refine fx_iload_n dX5_bestNext_64 rfl rfl ?_
  cases h
  exact fx_ireturn dX5_bestNext_65 rfl rfl
def fX5_bestNext_7 (a0 : Nat) (a1 : Int32) : Nat → Int32 → Int32 → Int32 → xMem → Option (Int32 × xMem)
  | 0, _, _, _, _ => none
  | fuel + 1, l2, l3, l4, m => xLet (m.1 a0 5) fun x1 => if x1 ≤ l4 then fX5_bestNext_64 a0 a1 l2 m else if (6 : Int32) ≤ l4 then fX5_bestNext_64 a0 a1 l2 m else xLet (a1 >>> (l4 &&& 31)) fun x4 => xLet (x4 &&& (1 : Int32)) fun x5 => if ¬ x5 = (0 : Int32) then fX5_bestNext_58 a0 a1 (fX5_bestNext_7 a0 a1 fuel) l2 l3 l4 m else (fX5_countBy a0 a1 l4 m).bind fun p7 => if l2 = (-1 : Int32) then fX5_bestNext_52 a0 a1 (fX5_bestNext_7 a0 a1 fuel) l4 p7.1 p7.2 else if l3 ≤ p7.1 then fX5_bestNext_58 a0 a1 (fX5_bestNext_7 a0 a1 fuel) l2 l3 l4 p7.2 else fX5_bestNext_52 a0 a1 (fX5_bestNext_7 a0 a1 fuel) l4 p7.1 p7.2
set_option maxRecDepth 4000 in
theorem fX5_bestNext_7_ok {a0 : Nat} {a1 : Int32} {d : Nat} (hd : 1 ≤ d) (ha0 : isMends a0) : ∀ (fuel : Nat) (l2 : Int32) (l3 : Int32) (l4 : Int32) (o5 : Option Value) (q5 : xNoD o5 = true) (m : xMem) (r : (Int32 × xMem)), fX5_bestNext_7 a0 a1 fuel l2 l3 l4 m = some r → xFx hh_248 cX5_bestNext d 7 [some (.ref a0), some (.int a1), some (.int l2), some (.int l3), some (.int l4), o5] [] (xLay m) 0 0 (some (.int r.1)) (xLay r.2) := by
  intro fuel
  induction fuel with
  | zero => intro l2 l3 l4 o5 q5 m r  h; cases h
  | succ fuel ih =>
    intro l2 l3 l4 o5 q5 m r  h
    unfold fX5_bestNext_7 at h
    refine fx_iload dX5_bestNext_7 rfl rfl ?_
    refine fx_aload_n dX5_bestNext_9 rfl rfl ?_
    obtain ⟨x1, hx1, h⟩ := xLet_el h
    refine gx_get dX5_bestNext_10 rfl fd_5_27 ha0.1 rfl rfl hx1 ?_
    refine fx_icmp_ge (t := 64) dX5_bestNext_13 rfl rfl (fun hc2 => ?_) (fun hc2 => ?_)
    · rw [if_pos hc2] at h
      exact fX5_bestNext_64_ok (o3 := some (.int l3)) (o4 := some (.int l4)) (o5 := o5) hd ha0 rfl rfl q5 h
    · rw [if_neg hc2] at h
      refine fx_iload dX5_bestNext_16 rfl rfl ?_
      refine fx_bipush (x := 6) dX5_bestNext_18 rfl (by decide) ?_
      refine fx_icmp_ge (t := 64) dX5_bestNext_20 rfl rfl (fun hc3 => ?_) (fun hc3 => ?_)
      · rw [if_pos hc3] at h
        exact fX5_bestNext_64_ok (o3 := some (.int l3)) (o4 := some (.int l4)) (o5 := o5) hd ha0 rfl rfl q5 h
      · rw [if_neg hc3] at h
        refine fx_iload_n dX5_bestNext_23 rfl rfl ?_
        refine fx_iload dX5_bestNext_24 rfl rfl ?_
        obtain ⟨x4, hx4, h⟩ := xLet_el h
        refine fx_ishr dX5_bestNext_26 rfl hx4 ?_
        refine fx_iconst (x := 1) dX5_bestNext_27 rfl (by decide) ?_
        obtain ⟨x5, hx5, h⟩ := xLet_el h
        refine fx_iand dX5_bestNext_28 rfl hx5 ?_
        refine fx_if_ne (t := 58) dX5_bestNext_29 rfl rfl (fun hc6 => ?_) (fun hc6 => ?_)
        · rw [if_pos hc6] at h
          exact fX5_bestNext_58_ok (o5 := o5) hd ha0 ih q5 h
        · rw [if_neg hc6] at h
          refine fx_aload_n dX5_bestNext_32 rfl rfl ?_
          refine fx_iload_n dX5_bestNext_33 rfl rfl ?_
          refine fx_iload dX5_bestNext_34 rfl rfl ?_
          obtain ⟨p7, ep7, h⟩ := xBind_el h
          refine gx_callv (as := [.int a1, .int l4]) (r := []) rfl dX5_bestNext_36 ca_5_47 rfl me_249 rfl rfl rfl rfl (ha0.1) rfl (fX5_countBy_ok (d := d) (by omega) ha0 ep7) rfl rfl ?_
          refine fx_istore (ls2 := [some (.ref a0), some (.int a1), some (.int l2), some (.int l3), some (.int l4), some (.int p7.1)]) dX5_bestNext_39 rfl rfl rfl ?_
          refine fx_iload_n dX5_bestNext_41 rfl rfl ?_
          refine fx_iconst (x := -1) dX5_bestNext_42 rfl (by decide) ?_
          refine fx_icmp_eq (t := 52) dX5_bestNext_43 rfl rfl (fun hc8 => ?_) (fun hc8 => ?_)
          · rw [if_pos hc8] at h
            exact fX5_bestNext_52_ok (o2 := some (.int l2)) (o3 := some (.int l3)) hd ha0 ih rfl rfl h
          · rw [if_neg hc8] at h
            refine fx_iload dX5_bestNext_46 rfl rfl ?_
            refine fx_iload_n dX5_bestNext_48 rfl rfl ?_
            refine fx_icmp_ge (t := 58) dX5_bestNext_49 rfl rfl (fun hc9 => ?_) (fun hc9 => ?_)
            · rw [if_pos hc9] at h
              exact fX5_bestNext_58_ok (o5 := some (.int p7.1)) hd ha0 ih rfl h
            · rw [if_neg hc9] at h
              exact fX5_bestNext_52_ok (o2 := some (.int l2)) (o3 := some (.int l3)) hd ha0 ih rfl rfl h
def fX5_bestNext_0 (a0 : Nat) (a1 : Int32) (m : xMem) : Option (Int32 × xMem) := fX5_bestNext_7 a0 a1 xFuel (-1 : Int32) (0 : Int32) (0 : Int32) m
set_option maxRecDepth 4000 in
theorem fX5_bestNext_0_ok {a0 : Nat} {a1 : Int32} {d : Nat} (hd : 1 ≤ d) (ha0 : isMends a0) {o2 : Option Value} {o3 : Option Value} {o4 : Option Value} {o5 : Option Value} {m : xMem} {r : (Int32 × xMem)} (q2 : xNoD o2 = true) (q3 : xNoD o3 = true) (q4 : xNoD o4 = true) (q5 : xNoD o5 = true) (h : fX5_bestNext_0 a0 a1 m = some r) : xFx hh_248 cX5_bestNext d 0 [some (.ref a0), some (.int a1), o2, o3, o4, o5] [] (xLay m) 0 0 (some (.int r.1)) (xLay r.2) := by
  unfold fX5_bestNext_0 at h
  refine fx_iconst (x := -1) dX5_bestNext_0 rfl (by decide) ?_
  refine fx_istore_n (ls2 := [some (.ref a0), some (.int a1), some (.int (-1 : Int32)), o3, o4, o5]) dX5_bestNext_1 rfl rfl rfl ?_
  refine fx_iconst (x := 0) dX5_bestNext_2 rfl (by decide) ?_
  refine fx_istore_n (ls2 := [some (.ref a0), some (.int a1), some (.int (-1 : Int32)), some (.int (0 : Int32)), o4, o5]) dX5_bestNext_3 rfl rfl rfl ?_
  refine fx_iconst (x := 0) dX5_bestNext_4 rfl (by decide) ?_
  refine fx_istore (ls2 := [some (.ref a0), some (.int a1), some (.int (-1 : Int32)), some (.int (0 : Int32)), some (.int (0 : Int32)), o5]) dX5_bestNext_5 rfl rfl rfl ?_
  exact fX5_bestNext_7_ok hd ha0 xFuel (-1 : Int32) (0 : Int32) (0 : Int32) (o5) q5 m r h
def fX5_bestNext (a0 : Nat) (a1 : Int32) (m : xMem) : Option (Int32 × xMem) := fX5_bestNext_0 a0 a1  m
theorem fX5_bestNext_ok {a0 : Nat} {a1 : Int32} {m : xMem} {r : (Int32 × xMem)} {d : Nat} (hd : 2 ≤ d) (ha0 : isMends a0) (h : fX5_bestNext a0 a1 m = some r) : xEx d 248 [.ref a0, .int a1] (xLay m) (some (.int r.1)) (xLay r.2) := by
  obtain ⟨d, rfl⟩ : ∃ q, d = q + 1 := ⟨d - 1, by omega⟩
  exact xEx_of me_248 rfl (fX5_bestNext_0_ok (d := d) (o2 := none) (o3 := none) (o4 := none) (o5 := none) (by omega) ha0 rfl rfl rfl rfl h)
def fX5_inTurn_35 (a0 : Nat) (a1 : Int32) (rec4 : Int32 → Int32 → xMem → Option (Int32 × xMem)) (l2 : Int32) (l3 : Int32) (m : xMem) : Option (Int32 × xMem) := xLet (l3 + (1 : Int32)) fun x1 => rec4 l2 x1 m
set_option maxRecDepth 4000 in
theorem fX5_inTurn_35_ok {a0 : Nat} {a1 : Int32} {rec4 : Int32 → Int32 → xMem → Option (Int32 × xMem)} {d : Nat} (hd : 2 ≤ d) (ha0 : isMends a0) (hrec4 : ∀ (l2 : Int32) (l3 : Int32) (o4 : Option Value) (q4 : xNoD o4 = true) (m : xMem) (r : (Int32 × xMem)), rec4 l2 l3 m = some r → xFx hh_250 cX5_inTurn d 4 [some (.ref a0), some (.int a1), some (.int l2), some (.int l3), o4] [] (xLay m) 0 0 (some (.int r.1)) (xLay r.2)) {l2 : Int32} {l3 : Int32} {o4 : Option Value} {m : xMem} {r : (Int32 × xMem)} (q4 : xNoD o4 = true) (h : fX5_inTurn_35 a0 a1 rec4 l2 l3 m = some r) : xFx hh_250 cX5_inTurn d 35 [some (.ref a0), some (.int a1), some (.int l2), some (.int l3), o4] [] (xLay m) 0 0 (some (.int r.1)) (xLay r.2) := by
  unfold fX5_inTurn_35 at h
  obtain ⟨x1, hx1, h⟩ := xLet_el h
  refine fx_iinc (ls2 := [some (.ref a0), some (.int a1), some (.int l2), some (.int x1), o4]) dX5_inTurn_35 rfl rfl rfl hx1 rfl ?_
  refine fx_goto (t := 4) dX5_inTurn_38 rfl rfl ?_
  exact hrec4 l2 x1 (o4) q4 m r h
def fX5_inTurn_41 (a0 : Nat) (a1 : Int32) (l2 : Int32) (m : xMem) : Option (Int32 × xMem) := (fX5_bestNext a0 l2 m).bind fun p1 => some (p1.1, p1.2)
set_option maxRecDepth 4000 in
theorem fX5_inTurn_41_ok {a0 : Nat} {a1 : Int32} {d : Nat} (hd : 2 ≤ d) (ha0 : isMends a0) {l2 : Int32} {o3 : Option Value} {o4 : Option Value} {m : xMem} {r : (Int32 × xMem)} (q3 : xNoD o3 = true) (q4 : xNoD o4 = true) (h : fX5_inTurn_41 a0 a1 l2 m = some r) : xFx hh_250 cX5_inTurn d 41 [some (.ref a0), some (.int a1), some (.int l2), o3, o4] [] (xLay m) 0 0 (some (.int r.1)) (xLay r.2) := by
  unfold fX5_inTurn_41 at h
  refine fx_aload_n dX5_inTurn_41 rfl rfl ?_
  refine fx_iload_n dX5_inTurn_42 rfl rfl ?_
  obtain ⟨p1, ep1, h⟩ := xBind_el h
  refine gx_callv (as := [.int l2]) (r := []) rfl dX5_inTurn_43 ca_5_43 rfl me_248 rfl rfl rfl rfl (ha0.1) rfl (fX5_bestNext_ok (d := d) (by omega) ha0 ep1) rfl rfl ?_
  cases h
  exact fx_ireturn dX5_inTurn_46 rfl rfl
def fX5_inTurn_4 (a0 : Nat) (a1 : Int32) : Nat → Int32 → Int32 → xMem → Option (Int32 × xMem)
  | 0, _, _, _ => none
  | fuel + 1, l2, l3, m => if a1 ≤ l3 then fX5_inTurn_41 a0 a1 l2 m else if (6 : Int32) ≤ l3 then fX5_inTurn_41 a0 a1 l2 m else (fX5_bestNext a0 l2 m).bind fun p3 => if p3.1 = (-1 : Int32) then fX5_inTurn_35 a0 a1 (fX5_inTurn_4 a0 a1 fuel) l2 l3 p3.2 else xLet ((1 : Int32) <<< (p3.1 &&& 31)) fun x5 => xLet (l2 ||| x5) fun x6 => fX5_inTurn_35 a0 a1 (fX5_inTurn_4 a0 a1 fuel) x6 l3 p3.2
set_option maxRecDepth 4000 in
theorem fX5_inTurn_4_ok {a0 : Nat} {a1 : Int32} {d : Nat} (hd : 2 ≤ d) (ha0 : isMends a0) : ∀ (fuel : Nat) (l2 : Int32) (l3 : Int32) (o4 : Option Value) (q4 : xNoD o4 = true) (m : xMem) (r : (Int32 × xMem)), fX5_inTurn_4 a0 a1 fuel l2 l3 m = some r → xFx hh_250 cX5_inTurn d 4 [some (.ref a0), some (.int a1), some (.int l2), some (.int l3), o4] [] (xLay m) 0 0 (some (.int r.1)) (xLay r.2) := by
  intro fuel
  induction fuel with
  | zero => intro l2 l3 o4 q4 m r  h; cases h
  | succ fuel ih =>
    intro l2 l3 o4 q4 m r  h
    unfold fX5_inTurn_4 at h
    refine fx_iload_n dX5_inTurn_4 rfl rfl ?_
    refine fx_iload_n dX5_inTurn_5 rfl rfl ?_
    refine fx_icmp_ge (t := 41) dX5_inTurn_6 rfl rfl (fun hc1 => ?_) (fun hc1 => ?_)
    · rw [if_pos hc1] at h
      exact fX5_inTurn_41_ok (o3 := some (.int l3)) (o4 := o4) hd ha0 rfl q4 h
    · rw [if_neg hc1] at h
      refine fx_iload_n dX5_inTurn_9 rfl rfl ?_
      refine fx_bipush (x := 6) dX5_inTurn_10 rfl (by decide) ?_
      refine fx_icmp_ge (t := 41) dX5_inTurn_12 rfl rfl (fun hc2 => ?_) (fun hc2 => ?_)
      · rw [if_pos hc2] at h
        exact fX5_inTurn_41_ok (o3 := some (.int l3)) (o4 := o4) hd ha0 rfl q4 h
      · rw [if_neg hc2] at h
        refine fx_aload_n dX5_inTurn_15 rfl rfl ?_
        refine fx_iload_n dX5_inTurn_16 rfl rfl ?_
        obtain ⟨p3, ep3, h⟩ := xBind_el h
        refine gx_callv (as := [.int l2]) (r := []) rfl dX5_inTurn_17 ca_5_43 rfl me_248 rfl rfl rfl rfl (ha0.1) rfl (fX5_bestNext_ok (d := d) (by omega) ha0 ep3) rfl rfl ?_
        refine fx_istore (ls2 := [some (.ref a0), some (.int a1), some (.int l2), some (.int l3), some (.int p3.1)]) dX5_inTurn_20 rfl rfl rfl ?_
        refine fx_iload dX5_inTurn_22 rfl rfl ?_
        refine fx_iconst (x := -1) dX5_inTurn_24 rfl (by decide) ?_
        refine fx_icmp_eq (t := 35) dX5_inTurn_25 rfl rfl (fun hc4 => ?_) (fun hc4 => ?_)
        · rw [if_pos hc4] at h
          exact fX5_inTurn_35_ok (o4 := some (.int p3.1)) hd ha0 ih rfl h
        · rw [if_neg hc4] at h
          refine fx_iload_n dX5_inTurn_28 rfl rfl ?_
          refine fx_iconst (x := 1) dX5_inTurn_29 rfl (by decide) ?_
          refine fx_iload dX5_inTurn_30 rfl rfl ?_
          obtain ⟨x5, hx5, h⟩ := xLet_el h
          refine fx_ishl dX5_inTurn_32 rfl hx5 ?_
          obtain ⟨x6, hx6, h⟩ := xLet_el h
          refine fx_ior dX5_inTurn_33 rfl hx6 ?_
          refine fx_istore_n (ls2 := [some (.ref a0), some (.int a1), some (.int x6), some (.int l3), some (.int p3.1)]) dX5_inTurn_34 rfl rfl rfl ?_
          exact fX5_inTurn_35_ok (o4 := some (.int p3.1)) hd ha0 ih rfl h
def fX5_inTurn_0 (a0 : Nat) (a1 : Int32) (m : xMem) : Option (Int32 × xMem) := fX5_inTurn_4 a0 a1 xFuel (0 : Int32) (0 : Int32) m
set_option maxRecDepth 4000 in
theorem fX5_inTurn_0_ok {a0 : Nat} {a1 : Int32} {d : Nat} (hd : 2 ≤ d) (ha0 : isMends a0) {o2 : Option Value} {o3 : Option Value} {o4 : Option Value} {m : xMem} {r : (Int32 × xMem)} (q2 : xNoD o2 = true) (q3 : xNoD o3 = true) (q4 : xNoD o4 = true) (h : fX5_inTurn_0 a0 a1 m = some r) : xFx hh_250 cX5_inTurn d 0 [some (.ref a0), some (.int a1), o2, o3, o4] [] (xLay m) 0 0 (some (.int r.1)) (xLay r.2) := by
  unfold fX5_inTurn_0 at h
  refine fx_iconst (x := 0) dX5_inTurn_0 rfl (by decide) ?_
  refine fx_istore_n (ls2 := [some (.ref a0), some (.int a1), some (.int (0 : Int32)), o3, o4]) dX5_inTurn_1 rfl rfl rfl ?_
  refine fx_iconst (x := 0) dX5_inTurn_2 rfl (by decide) ?_
  refine fx_istore_n (ls2 := [some (.ref a0), some (.int a1), some (.int (0 : Int32)), some (.int (0 : Int32)), o4]) dX5_inTurn_3 rfl rfl rfl ?_
  exact fX5_inTurn_4_ok hd ha0 xFuel (0 : Int32) (0 : Int32) (o4) q4 m r h
def fX5_inTurn (a0 : Nat) (a1 : Int32) (m : xMem) : Option (Int32 × xMem) := fX5_inTurn_0 a0 a1  m
theorem fX5_inTurn_ok {a0 : Nat} {a1 : Int32} {m : xMem} {r : (Int32 × xMem)} {d : Nat} (hd : 3 ≤ d) (ha0 : isMends a0) (h : fX5_inTurn a0 a1 m = some r) : xEx d 250 [.ref a0, .int a1] (xLay m) (some (.int r.1)) (xLay r.2) := by
  obtain ⟨d, rfl⟩ : ∃ q, d = q + 1 := ⟨d - 1, by omega⟩
  exact xEx_of me_250 rfl (fX5_inTurn_0_ok (d := d) (o2 := none) (o3 := none) (o4 := none) (by omega) ha0 rfl rfl rfl h)
def fX5_weigh_51 (a0 : Nat) (rec21 : Int32 → xMem → Option xMem) (l2 : Int32) (s0 : Nat) (s1 : Int32) (s2 : Int32) (m : xMem) : Option xMem := bif xIn s1 64 then xLet (xPut m s0 s1.toNatClampNeg s2) fun m1 => xLet (l2 + (-1 : Int32)) fun x3 => rec21 x3 m1 else none
set_option maxRecDepth 4000 in
theorem fX5_weigh_51_ok {a0 : Nat} {rec21 : Int32 → xMem → Option xMem} {d : Nat} (hd : 2 ≤ d) (ha0 : isMends a0) (hrec21 : ∀ (l2 : Int32) (o1 : Option Value) (o3 : Option Value) (q1 : xNoD o1 = true) (q3 : xNoD o3 = true) (m : xMem) (r : xMem), rec21 l2 m = some r → xFx hh_247 cX5_weigh d 21 [some (.ref a0), o1, some (.int l2), o3] [] (xLay m) 0 0 none (xLay r)) {l2 : Int32} {s0 : Nat} {s1 : Int32} {s2 : Int32} {o1 : Option Value} {o3 : Option Value} {m : xMem} {r : xMem} (hs0 : xTmL[s0]? = some (101, 64, [])) (q1 : xNoD o1 = true) (q3 : xNoD o3 = true) (h : fX5_weigh_51 a0 rec21 l2 s0 s1 s2 m = some r) : xFx hh_247 cX5_weigh d 51 [some (.ref a0), o1, some (.int l2), o3] [.int s2, .int s1, .ref s0] (xLay m) 0 0 none (xLay r) := by
  unfold fX5_weigh_51 at h
  obtain ⟨hj2, h⟩ := xChk_el h
  obtain ⟨m1, hm1, h⟩ := xLet_el h
  refine gx_iastore dX5_weigh_51 rfl hs0 hj2 hm1 ?_
  obtain ⟨x3, hx3, h⟩ := xLet_el h
  refine fx_iinc (ls2 := [some (.ref a0), o1, some (.int x3), o3]) dX5_weigh_52 rfl rfl (xGd (j := 1) rfl rfl q1 rfl) hx3 rfl ?_
  refine fx_goto (t := 21) dX5_weigh_55 rfl rfl ?_
  exact hrec21 x3 (o1) (o3) q1 q3 m1 r h
def fX5_weigh_21 (a0 : Nat) : Nat → Int32 → xMem → Option xMem
  | 0, _, _ => none
  | fuel + 1, l2, m => if l2 < (0 : Int32) then some m else (fX5_bestNext a0 l2 m).bind fun p2 => if ¬ p2.1 = (-1 : Int32) then (fX5_countBy a0 l2 p2.1 p2.2).bind fun p4 => fX5_weigh_51 a0 (fX5_weigh_21 a0 fuel) l2 (a0 + 5) l2 p4.1 p4.2 else fX5_weigh_51 a0 (fX5_weigh_21 a0 fuel) l2 (a0 + 5) l2 (0 : Int32) p2.2
set_option maxRecDepth 4000 in
theorem fX5_weigh_21_ok {a0 : Nat} {d : Nat} (hd : 2 ≤ d) (ha0 : isMends a0) : ∀ (fuel : Nat) (l2 : Int32) (o1 : Option Value) (o3 : Option Value) (q1 : xNoD o1 = true) (q3 : xNoD o3 = true) (m : xMem) (r : xMem), fX5_weigh_21 a0 fuel l2 m = some r → xFx hh_247 cX5_weigh d 21 [some (.ref a0), o1, some (.int l2), o3] [] (xLay m) 0 0 none (xLay r) := by
  intro fuel
  induction fuel with
  | zero => intro l2 o1 o3 q1 q3 m r  h; cases h
  | succ fuel ih =>
    intro l2 o1 o3 q1 q3 m r  h
    unfold fX5_weigh_21 at h
    refine fx_iload_n dX5_weigh_21 rfl rfl ?_
    refine fx_if_lt (t := 58) dX5_weigh_22 rfl rfl (fun hc1 => ?_) (fun hc1 => ?_)
    · rw [if_pos hc1] at h
      cases h
      exact fx_return dX5_weigh_58 rfl rfl
    · rw [if_neg hc1] at h
      refine fx_aload_n dX5_weigh_25 rfl rfl ?_
      refine fx_iload_n dX5_weigh_26 rfl rfl ?_
      obtain ⟨p2, ep2, h⟩ := xBind_el h
      refine gx_callv (as := [.int l2]) (r := []) rfl dX5_weigh_27 ca_5_43 rfl me_248 rfl rfl rfl rfl (ha0.1) rfl (fX5_bestNext_ok (d := d) (by omega) ha0 ep2) rfl rfl ?_
      refine fx_istore_n (ls2 := [some (.ref a0), o1, some (.int l2), some (.int p2.1)]) dX5_weigh_30 rfl rfl rfl ?_
      refine fx_aload_n dX5_weigh_31 rfl rfl ?_
      refine gx_getr dX5_weigh_32 rfl fd_5_24 ha0.1 rfl rfl ?_
      refine fx_iload_n dX5_weigh_35 rfl rfl ?_
      refine fx_iload_n dX5_weigh_36 rfl rfl ?_
      refine fx_iconst (x := -1) dX5_weigh_37 rfl (by decide) ?_
      refine fx_icmp_ne (t := 45) dX5_weigh_38 rfl rfl (fun hc3 => ?_) (fun hc3 => ?_)
      · rw [if_pos hc3] at h
        refine fx_aload_n dX5_weigh_45 rfl rfl ?_
        refine fx_iload_n dX5_weigh_46 rfl rfl ?_
        refine fx_iload_n dX5_weigh_47 rfl rfl ?_
        obtain ⟨p4, ep4, h⟩ := xBind_el h
        refine gx_callv (as := [.int l2, .int p2.1]) (r := [.int l2, .ref (a0 + 5)]) rfl dX5_weigh_48 ca_5_47 rfl me_249 rfl rfl rfl rfl (ha0.1) rfl (fX5_countBy_ok (d := d) (by omega) ha0 ep4) rfl rfl ?_
        exact fX5_weigh_51_ok (o1 := o1) (o3 := some (.int p2.1)) hd ha0 ih ha0.2.2.2.2.2 q1 rfl h
      · rw [if_neg hc3] at h
        refine fx_iconst (x := 0) dX5_weigh_41 rfl (by decide) ?_
        refine fx_goto (t := 51) dX5_weigh_42 rfl rfl ?_
        exact fX5_weigh_51_ok (o1 := o1) (o3 := some (.int p2.1)) hd ha0 ih ha0.2.2.2.2.2 q1 rfl h
def fX5_weigh_0 (a0 : Nat) (m : xMem) : Option xMem := xLet (m.1 a0 5) fun x1 => xLet ((1 : Int32) <<< (x1 &&& 31)) fun x2 => xLet (x2 - (1 : Int32)) fun x3 => xLet ((64 : Int32) - (1 : Int32)) fun x4 => xLet (xMin x3 x4) fun x5 => fX5_weigh_21 a0 xFuel x5 m
set_option maxRecDepth 4000 in
theorem fX5_weigh_0_ok {a0 : Nat} {d : Nat} (hd : 2 ≤ d) (ha0 : isMends a0) {o1 : Option Value} {o2 : Option Value} {o3 : Option Value} {m : xMem} {r : xMem} (q1 : xNoD o1 = true) (q2 : xNoD o2 = true) (q3 : xNoD o3 = true) (h : fX5_weigh_0 a0 m = some r) : xFx hh_247 cX5_weigh d 0 [some (.ref a0), o1, o2, o3] [] (xLay m) 0 0 none (xLay r) := by
  unfold fX5_weigh_0 at h
  refine fx_iconst (x := 1) dX5_weigh_0 rfl (by decide) ?_
  refine fx_aload_n dX5_weigh_1 rfl rfl ?_
  obtain ⟨x1, hx1, h⟩ := xLet_el h
  refine gx_get dX5_weigh_2 rfl fd_5_27 ha0.1 rfl rfl hx1 ?_
  obtain ⟨x2, hx2, h⟩ := xLet_el h
  refine fx_ishl dX5_weigh_5 rfl hx2 ?_
  refine fx_iconst (x := 1) dX5_weigh_6 rfl (by decide) ?_
  obtain ⟨x3, hx3, h⟩ := xLet_el h
  refine fx_isub dX5_weigh_7 rfl hx3 ?_
  refine fx_aload_n dX5_weigh_8 rfl rfl ?_
  refine gx_getr dX5_weigh_9 rfl fd_5_24 ha0.1 rfl rfl ?_
  refine gx_alen (t := 1) (y := 64) dX5_weigh_12 rfl ha0.2.2.2.2.2 rfl (by decide) ?_
  refine fx_iconst (x := 1) dX5_weigh_13 rfl (by decide) ?_
  obtain ⟨x4, hx4, h⟩ := xLet_el h
  refine fx_isub dX5_weigh_14 rfl hx4 ?_
  obtain ⟨x5, hx5, h⟩ := xLet_el h
  refine fx_imin dX5_weigh_15 rfl ca_5_37 rfl hx5 ?_
  refine fx_istore_n (ls2 := [some (.ref a0), some (.int x5), o2, o3]) dX5_weigh_18 rfl rfl rfl ?_
  refine fx_iload_n dX5_weigh_19 rfl rfl ?_
  refine fx_istore_n (ls2 := [some (.ref a0), some (.int x5), some (.int x5), o3]) dX5_weigh_20 rfl rfl rfl ?_
  exact fX5_weigh_21_ok hd ha0 xFuel x5 (some (.int x5)) (o3) rfl q3 m r h
def fX5_weigh (a0 : Nat) (m : xMem) : Option xMem := fX5_weigh_0 a0  m
theorem fX5_weigh_ok {a0 : Nat} {m : xMem} {r : xMem} {d : Nat} (hd : 3 ≤ d) (ha0 : isMends a0) (h : fX5_weigh a0 m = some r) : xEx d 247 [.ref a0] (xLay m) none (xLay r) := by
  obtain ⟨d, rfl⟩ : ∃ q, d = q + 1 := ⟨d - 1, by omega⟩
  exact xEx_of me_247 rfl (fX5_weigh_0_ok (d := d) (o1 := none) (o2 := none) (o3 := none) (by omega) ha0 rfl rfl rfl h)
def fX11_order_33 (a0 : Nat) (a1 : Int32) (m : xMem) : Option (Int32 × xMem) := some ((-1 : Int32), m)
set_option maxRecDepth 4000 in
theorem fX11_order_33_ok {a0 : Nat} {a1 : Int32} {d : Nat} (hd : 3 ≤ d) (ha0 : isMS a0) {m : xMem} {r : (Int32 × xMem)} (h : fX11_order_33 a0 a1 m = some r) : xFx hh_246 cX11_order d 33 [some (.ref a0), some (.int a1)] [] (xLay m) 0 0 (some (.int r.1)) (xLay r.2) := by
  unfold fX11_order_33 at h
  refine fx_iconst (x := -1) dX11_order_33 rfl (by decide) ?_
  cases h
  exact fx_ireturn dX11_order_34 rfl rfl
def fX11_order_76 (a0 : Nat) (a1 : Int32) (s0 : Int32) (m : xMem) : Option (Int32 × xMem) := some (s0, m)
set_option maxRecDepth 4000 in
theorem fX11_order_76_ok {a0 : Nat} {a1 : Int32} {d : Nat} (hd : 3 ≤ d) (ha0 : isMS a0) {s0 : Int32} {m : xMem} {r : (Int32 × xMem)} (h : fX11_order_76 a0 a1 s0 m = some r) : xFx hh_246 cX11_order d 76 [some (.ref a0), some (.int a1)] [.int s0] (xLay m) 0 0 (some (.int r.1)) (xLay r.2) := by
  unfold fX11_order_76 at h
  cases h
  exact fx_ireturn dX11_order_76 rfl rfl
def fX11_order_0 (a0 : Nat) (a1 : Int32) (m : xMem) : Option (Int32 × xMem) := xLet (m.1 (a0 + 1 + 7) 5) fun x1 => if x1 ≤ (0 : Int32) then fX11_order_33 a0 a1 m else xLet (m.1 (a0 + 1 + 7) 5) fun x3 => xLet (x3 - (1 : Int32)) fun x4 => (fX11_within a1 (-1 : Int32) x4 m).bind fun p5 => if ¬ p5.1 = (0 : Int32) then (fX5_weigh (a0 + 1 + 7) p5.2).bind fun p7 => if ¬ a1 = (-1 : Int32) then (fX5_inTurn (a0 + 1 + 7) a1 p7).bind fun p9 => fX11_order_76 a0 a1 p9.1 p9.2 else bif xIn (0 : Int32) 64 then xLet (p7.1 (a0 + 1 + 7 + 5) (0 : Int32).toNatClampNeg) fun x10 => fX11_order_76 a0 a1 x10 p7 else none else fX11_order_33 a0 a1 p5.2
set_option maxRecDepth 4000 in
theorem fX11_order_0_ok {a0 : Nat} {a1 : Int32} {d : Nat} (hd : 3 ≤ d) (ha0 : isMS a0) {m : xMem} {r : (Int32 × xMem)} (h : fX11_order_0 a0 a1 m = some r) : xFx hh_246 cX11_order d 0 [some (.ref a0), some (.int a1)] [] (xLay m) 0 0 (some (.int r.1)) (xLay r.2) := by
  unfold fX11_order_0 at h
  refine fx_aload_n dX11_order_0 rfl rfl ?_
  refine gx_getr dX11_order_1 rfl fd_11_10 ha0.1 rfl rfl ?_
  refine gx_getr dX11_order_4 rfl fd_11_282 ha0.2.1.1 rfl rfl ?_
  obtain ⟨x1, hx1, h⟩ := xLet_el h
  refine gx_get dX11_order_7 rfl fd_11_290 ha0.2.1.2.2.2.2.2.1.1 rfl rfl hx1 ?_
  refine fx_if_le (t := 33) dX11_order_10 rfl rfl (fun hc2 => ?_) (fun hc2 => ?_)
  · rw [if_pos hc2] at h
    exact fX11_order_33_ok hd ha0 h
  · rw [if_neg hc2] at h
    refine fx_iload_n dX11_order_13 rfl rfl ?_
    refine fx_iconst (x := -1) dX11_order_14 rfl (by decide) ?_
    refine fx_aload_n dX11_order_15 rfl rfl ?_
    refine gx_getr dX11_order_16 rfl fd_11_10 ha0.1 rfl rfl ?_
    refine gx_getr dX11_order_19 rfl fd_11_282 ha0.2.1.1 rfl rfl ?_
    obtain ⟨x3, hx3, h⟩ := xLet_el h
    refine gx_get dX11_order_22 rfl fd_11_290 ha0.2.1.2.2.2.2.2.1.1 rfl rfl hx3 ?_
    refine fx_iconst (x := 1) dX11_order_25 rfl (by decide) ?_
    obtain ⟨x4, hx4, h⟩ := xLet_el h
    refine fx_isub dX11_order_26 rfl hx4 ?_
    obtain ⟨p5, ep5, h⟩ := xBind_el h
    refine gx_calls (as := [.int a1, .int (-1 : Int32), .int x4]) (r := []) rfl dX11_order_27 ca_11_47 rfl me_14 rfl rfl rfl rfl (fX11_within_ok (d := d) (by omega) ep5) rfl rfl ?_
    refine fx_if_ne (t := 35) dX11_order_30 rfl rfl (fun hc6 => ?_) (fun hc6 => ?_)
    · rw [if_pos hc6] at h
      refine fx_aload_n dX11_order_35 rfl rfl ?_
      refine gx_getr dX11_order_36 rfl fd_11_10 ha0.1 rfl rfl ?_
      refine gx_getr dX11_order_39 rfl fd_11_282 ha0.2.1.1 rfl rfl ?_
      obtain ⟨p7, ep7, h⟩ := xBind_el h
      refine gx_callv (as := []) (r := []) rfl dX11_order_42 ca_11_291 rfl me_247 rfl rfl rfl rfl (ha0.2.1.2.2.2.2.2.1.1) rfl (fX5_weigh_ok (d := d) (by omega) ha0.2.1.2.2.2.2.2.1 ep7) rfl rfl ?_
      refine fx_iload_n dX11_order_45 rfl rfl ?_
      refine fx_iconst (x := -1) dX11_order_46 rfl (by decide) ?_
      refine fx_icmp_ne (t := 65) dX11_order_47 rfl rfl (fun hc8 => ?_) (fun hc8 => ?_)
      · rw [if_pos hc8] at h
        refine fx_aload_n dX11_order_65 rfl rfl ?_
        refine gx_getr dX11_order_66 rfl fd_11_10 ha0.1 rfl rfl ?_
        refine gx_getr dX11_order_69 rfl fd_11_282 ha0.2.1.1 rfl rfl ?_
        refine fx_iload_n dX11_order_72 rfl rfl ?_
        obtain ⟨p9, ep9, h⟩ := xBind_el h
        refine gx_callv (as := [.int a1]) (r := []) rfl dX11_order_73 ca_11_297 rfl me_250 rfl rfl rfl rfl (ha0.2.1.2.2.2.2.2.1.1) rfl (fX5_inTurn_ok (d := d) (by omega) ha0.2.1.2.2.2.2.2.1 ep9) rfl rfl ?_
        exact fX11_order_76_ok hd ha0 h
      · rw [if_neg hc8] at h
        refine fx_aload_n dX11_order_50 rfl rfl ?_
        refine gx_getr dX11_order_51 rfl fd_11_10 ha0.1 rfl rfl ?_
        refine gx_getr dX11_order_54 rfl fd_11_282 ha0.2.1.1 rfl rfl ?_
        refine gx_getr dX11_order_57 rfl fd_11_294 ha0.2.1.2.2.2.2.2.1.1 rfl rfl ?_
        refine fx_iconst (x := 0) dX11_order_60 rfl (by decide) ?_
        obtain ⟨hj11, h⟩ := xChk_el h
        obtain ⟨x10, hx10, h⟩ := xLet_el h
        refine gx_iaload dX11_order_61 rfl ha0.2.1.2.2.2.2.2.1.2.2.2.2.2 hj11 hx10 ?_
        refine fx_goto (t := 76) dX11_order_62 rfl rfl ?_
        exact fX11_order_76_ok hd ha0 h
    · rw [if_neg hc6] at h
      exact fX11_order_33_ok hd ha0 h
def fX11_order (a0 : Nat) (a1 : Int32) (m : xMem) : Option (Int32 × xMem) := fX11_order_0 a0 a1  m
theorem fX11_order_ok {a0 : Nat} {a1 : Int32} {m : xMem} {r : (Int32 × xMem)} {d : Nat} (hd : 4 ≤ d) (ha0 : isMS a0) (h : fX11_order a0 a1 m = some r) : xEx d 246 [.ref a0, .int a1] (xLay m) (some (.int r.1)) (xLay r.2) := by
  obtain ⟨d, rfl⟩ : ∃ q, d = q + 1 := ⟨d - 1, by omega⟩
  exact xEx_of me_246 rfl (fX11_order_0_ok (d := d) (by omega) ha0 h)
def fX12_aboveOf_56 (a0 : Nat) (a1 : Int32) (a2 : Int32) (rec14 : Int32 → Int32 → Int32 → xMem → Option (Int32 × xMem)) (l3 : Int32) (l5 : Int32) (s0 : Int32) (s1 : Int32) (m : xMem) : Option (Int32 × xMem) := xLet (s0 + s1) fun x1 => xLet (l5 + (1 : Int32)) fun x2 => rec14 l3 x1 x2 m
set_option maxRecDepth 4000 in
theorem fX12_aboveOf_56_ok {a0 : Nat} {a1 : Int32} {a2 : Int32} {rec14 : Int32 → Int32 → Int32 → xMem → Option (Int32 × xMem)} {d : Nat} (hd : 0 ≤ d) (ha0 : isModel a0) (hrec14 : ∀ (l3 : Int32) (l4 : Int32) (l5 : Int32) (m : xMem) (r : (Int32 × xMem)), rec14 l3 l4 l5 m = some r → xFx hh_253 cX12_aboveOf d 14 [some (.ref a0), some (.int a1), some (.int a2), some (.int l3), some (.int l4), some (.int l5)] [] (xLay m) 0 0 (some (.int r.1)) (xLay r.2)) {l3 : Int32} {l5 : Int32} {s0 : Int32} {s1 : Int32} {o4 : Option Value} {m : xMem} {r : (Int32 × xMem)} (q4 : xNoD o4 = true) (h : fX12_aboveOf_56 a0 a1 a2 rec14 l3 l5 s0 s1 m = some r) : xFx hh_253 cX12_aboveOf d 56 [some (.ref a0), some (.int a1), some (.int a2), some (.int l3), o4, some (.int l5)] [.int s1, .int s0] (xLay m) 0 0 (some (.int r.1)) (xLay r.2) := by
  unfold fX12_aboveOf_56 at h
  obtain ⟨x1, hx1, h⟩ := xLet_el h
  refine fx_iadd dX12_aboveOf_56 rfl hx1 ?_
  refine fx_istore (ls2 := [some (.ref a0), some (.int a1), some (.int a2), some (.int l3), some (.int x1), some (.int l5)]) dX12_aboveOf_57 rfl rfl rfl ?_
  obtain ⟨x2, hx2, h⟩ := xLet_el h
  refine fx_iinc (ls2 := [some (.ref a0), some (.int a1), some (.int a2), some (.int l3), some (.int x1), some (.int x2)]) dX12_aboveOf_59 rfl rfl rfl hx2 rfl ?_
  refine fx_goto (t := 14) dX12_aboveOf_62 rfl rfl ?_
  exact hrec14 l3 x1 x2 m r h
def fX12_aboveOf_14 (a0 : Nat) (a1 : Int32) (a2 : Int32) : Nat → Int32 → Int32 → Int32 → xMem → Option (Int32 × xMem)
  | 0, _, _, _, _ => none
  | fuel + 1, l3, l4, l5, m => if a2 ≤ l5 then some (l4, m) else bif xIn l3 1610 then xLet (m.1 (a0 + 1) l3.toNatClampNeg) fun x2 => xLet (l3 + (1 : Int32)) fun x4 => bif xIn x4 1610 then xLet (m.1 (a0 + 1) x4.toNatClampNeg) fun x5 => xLet (x5 * l5) fun x7 => xLet (x2 + x7) fun x8 => xLet (l3 + (2 : Int32)) fun x9 => bif xIn x9 1610 then xLet (m.1 (a0 + 1) x9.toNatClampNeg) fun x10 => if x8 ≤ x10 then fX12_aboveOf_56 a0 a1 a2 (fX12_aboveOf_14 a0 a1 a2 fuel) l3 l5 l4 (0 : Int32) m else fX12_aboveOf_56 a0 a1 a2 (fX12_aboveOf_14 a0 a1 a2 fuel) l3 l5 l4 (1 : Int32) m else none else none else none
set_option maxRecDepth 4000 in
theorem fX12_aboveOf_14_ok {a0 : Nat} {a1 : Int32} {a2 : Int32} {d : Nat} (hd : 0 ≤ d) (ha0 : isModel a0) : ∀ (fuel : Nat) (l3 : Int32) (l4 : Int32) (l5 : Int32) (m : xMem) (r : (Int32 × xMem)), fX12_aboveOf_14 a0 a1 a2 fuel l3 l4 l5 m = some r → xFx hh_253 cX12_aboveOf d 14 [some (.ref a0), some (.int a1), some (.int a2), some (.int l3), some (.int l4), some (.int l5)] [] (xLay m) 0 0 (some (.int r.1)) (xLay r.2) := by
  intro fuel
  induction fuel with
  | zero => intro l3 l4 l5  m r  h; cases h
  | succ fuel ih =>
    intro l3 l4 l5  m r  h
    unfold fX12_aboveOf_14 at h
    refine fx_iload dX12_aboveOf_14 rfl rfl ?_
    refine fx_iload_n dX12_aboveOf_16 rfl rfl ?_
    refine fx_icmp_ge (t := 65) dX12_aboveOf_17 rfl rfl (fun hc1 => ?_) (fun hc1 => ?_)
    · rw [if_pos hc1] at h
      refine fx_iload dX12_aboveOf_65 rfl rfl ?_
      cases h
      exact fx_ireturn dX12_aboveOf_67 rfl rfl
    · rw [if_neg hc1] at h
      refine fx_iload dX12_aboveOf_20 rfl rfl ?_
      refine fx_aload_n dX12_aboveOf_22 rfl rfl ?_
      refine gx_getr dX12_aboveOf_23 rfl fd_12_7 ha0.1 rfl rfl ?_
      refine fx_iload_n dX12_aboveOf_26 rfl rfl ?_
      obtain ⟨hj3, h⟩ := xChk_el h
      obtain ⟨x2, hx2, h⟩ := xLet_el h
      refine gx_iaload dX12_aboveOf_27 rfl ha0.2.1 hj3 hx2 ?_
      refine fx_aload_n dX12_aboveOf_28 rfl rfl ?_
      refine gx_getr dX12_aboveOf_29 rfl fd_12_7 ha0.1 rfl rfl ?_
      refine fx_iload_n dX12_aboveOf_32 rfl rfl ?_
      refine fx_iconst (x := 1) dX12_aboveOf_33 rfl (by decide) ?_
      obtain ⟨x4, hx4, h⟩ := xLet_el h
      refine fx_iadd dX12_aboveOf_34 rfl hx4 ?_
      obtain ⟨hj6, h⟩ := xChk_el h
      obtain ⟨x5, hx5, h⟩ := xLet_el h
      refine gx_iaload dX12_aboveOf_35 rfl ha0.2.1 hj6 hx5 ?_
      refine fx_iload dX12_aboveOf_36 rfl rfl ?_
      obtain ⟨x7, hx7, h⟩ := xLet_el h
      refine fx_imul dX12_aboveOf_38 rfl hx7 ?_
      obtain ⟨x8, hx8, h⟩ := xLet_el h
      refine fx_iadd dX12_aboveOf_39 rfl hx8 ?_
      refine fx_aload_n dX12_aboveOf_40 rfl rfl ?_
      refine gx_getr dX12_aboveOf_41 rfl fd_12_7 ha0.1 rfl rfl ?_
      refine fx_iload_n dX12_aboveOf_44 rfl rfl ?_
      refine fx_iconst (x := 2) dX12_aboveOf_45 rfl (by decide) ?_
      obtain ⟨x9, hx9, h⟩ := xLet_el h
      refine fx_iadd dX12_aboveOf_46 rfl hx9 ?_
      obtain ⟨hj11, h⟩ := xChk_el h
      obtain ⟨x10, hx10, h⟩ := xLet_el h
      refine gx_iaload dX12_aboveOf_47 rfl ha0.2.1 hj11 hx10 ?_
      refine fx_icmp_le (t := 55) dX12_aboveOf_48 rfl rfl (fun hc12 => ?_) (fun hc12 => ?_)
      · rw [if_pos hc12] at h
        refine fx_iconst (x := 0) dX12_aboveOf_55 rfl (by decide) ?_
        exact fX12_aboveOf_56_ok (o4 := some (.int l4)) hd ha0 ih rfl h
      · rw [if_neg hc12] at h
        refine fx_iconst (x := 1) dX12_aboveOf_51 rfl (by decide) ?_
        refine fx_goto (t := 56) dX12_aboveOf_52 rfl rfl ?_
        exact fX12_aboveOf_56_ok (o4 := some (.int l4)) hd ha0 ih rfl h
def fX12_aboveOf_0 (a0 : Nat) (a1 : Int32) (a2 : Int32) (m : xMem) : Option (Int32 × xMem) := xLet ((4 : Int32) * a1) fun x1 => xLet ((1520 : Int32) + x1) fun x2 => fX12_aboveOf_14 a0 a1 a2 xFuel x2 (0 : Int32) (0 : Int32) m
set_option maxRecDepth 4000 in
theorem fX12_aboveOf_0_ok {a0 : Nat} {a1 : Int32} {a2 : Int32} {d : Nat} (hd : 0 ≤ d) (ha0 : isModel a0) {o3 : Option Value} {o4 : Option Value} {o5 : Option Value} {m : xMem} {r : (Int32 × xMem)} (q3 : xNoD o3 = true) (q4 : xNoD o4 = true) (q5 : xNoD o5 = true) (h : fX12_aboveOf_0 a0 a1 a2 m = some r) : xFx hh_253 cX12_aboveOf d 0 [some (.ref a0), some (.int a1), some (.int a2), o3, o4, o5] [] (xLay m) 0 0 (some (.int r.1)) (xLay r.2) := by
  unfold fX12_aboveOf_0 at h
  refine fx_sipush (x := 1520) dX12_aboveOf_0 rfl (by decide) ?_
  refine fx_iconst (x := 4) dX12_aboveOf_3 rfl (by decide) ?_
  refine fx_iload_n dX12_aboveOf_4 rfl rfl ?_
  obtain ⟨x1, hx1, h⟩ := xLet_el h
  refine fx_imul dX12_aboveOf_5 rfl hx1 ?_
  obtain ⟨x2, hx2, h⟩ := xLet_el h
  refine fx_iadd dX12_aboveOf_6 rfl hx2 ?_
  refine fx_istore_n (ls2 := [some (.ref a0), some (.int a1), some (.int a2), some (.int x2), o4, o5]) dX12_aboveOf_7 rfl rfl rfl ?_
  refine fx_iconst (x := 0) dX12_aboveOf_8 rfl (by decide) ?_
  refine fx_istore (ls2 := [some (.ref a0), some (.int a1), some (.int a2), some (.int x2), some (.int (0 : Int32)), o5]) dX12_aboveOf_9 rfl rfl rfl ?_
  refine fx_iconst (x := 0) dX12_aboveOf_11 rfl (by decide) ?_
  refine fx_istore (ls2 := [some (.ref a0), some (.int a1), some (.int a2), some (.int x2), some (.int (0 : Int32)), some (.int (0 : Int32))]) dX12_aboveOf_12 rfl rfl rfl ?_
  exact fX12_aboveOf_14_ok hd ha0 xFuel x2 (0 : Int32) (0 : Int32) m r h
def fX12_aboveOf (a0 : Nat) (a1 : Int32) (a2 : Int32) (m : xMem) : Option (Int32 × xMem) := fX12_aboveOf_0 a0 a1 a2  m
theorem fX12_aboveOf_ok {a0 : Nat} {a1 : Int32} {a2 : Int32} {m : xMem} {r : (Int32 × xMem)} {d : Nat} (hd : 1 ≤ d) (ha0 : isModel a0) (h : fX12_aboveOf a0 a1 a2 m = some r) : xEx d 253 [.ref a0, .int a1, .int a2] (xLay m) (some (.int r.1)) (xLay r.2) := by
  obtain ⟨d, rfl⟩ : ∃ q, d = q + 1 := ⟨d - 1, by omega⟩
  exact xEx_of me_253 rfl (fX12_aboveOf_0_ok (d := d) (o3 := none) (o4 := none) (o5 := none) (by omega) ha0 rfl rfl rfl h)
def fX12_countsBy_15 (a0 : Nat) (a1 : Int32) (a2 : Int32) (a3 : Int32) : Nat → Int32 → Int32 → Int32 → Int32 → Int32 → xMem → Option (Int32 × xMem)
  | 0, _, _, _, _, _, _ => none
  | fuel + 1, l4, l5, l6, l7, l8, m => if a2 ≤ l8 then some (l6, m) else bif !decide (a2 = 0) then xLet (l7 / a2) fun x2 => bif !decide (x2 = 0) then xLet (a1 / x2) fun x4 => bif !decide (a2 = 0) then xLet (xRem x4 a2) fun x6 => xLet (l4 >>> (x6 &&& 31)) fun x8 => xLet (x8 &&& (1 : Int32)) fun x9 => if ¬ x9 = (1 : Int32) then xLet ((1 : Int32) <<< (x6 &&& 31)) fun x11 => xLet (l4 ||| x11) fun x12 => (fX12_aboveOf a0 x6 l5 m).bind fun p13 => xLet (l6 + p13.1) fun x14 => xLet ((4 : Int32) * x6) fun x15 => xLet ((1520 : Int32) + x15) fun x16 => xLet (x16 + (3 : Int32)) fun x17 => bif xIn x17 1610 then xLet (p13.2.1 (a0 + 1) x17.toNatClampNeg) fun x18 => xLet (l5 + x18) fun x20 => xLet (l8 + (1 : Int32)) fun x21 => fX12_countsBy_15 a0 a1 a2 a3 fuel x12 x20 x14 x2 x21 p13.2 else none else some ((-1 : Int32), m) else none else none else none
set_option maxRecDepth 4000 in
theorem fX12_countsBy_15_ok {a0 : Nat} {a1 : Int32} {a2 : Int32} {a3 : Int32} {d : Nat} (hd : 1 ≤ d) (ha0 : isModel a0) : ∀ (fuel : Nat) (l4 : Int32) (l5 : Int32) (l6 : Int32) (l7 : Int32) (l8 : Int32) (o9 : Option Value) (q9 : xNoD o9 = true) (m : xMem) (r : (Int32 × xMem)), fX12_countsBy_15 a0 a1 a2 a3 fuel l4 l5 l6 l7 l8 m = some r → xFx hh_252 cX12_countsBy d 15 [some (.ref a0), some (.int a1), some (.int a2), some (.int a3), some (.int l4), some (.int l5), some (.int l6), some (.int l7), some (.int l8), o9] [] (xLay m) 0 0 (some (.int r.1)) (xLay r.2) := by
  intro fuel
  induction fuel with
  | zero => intro l4 l5 l6 l7 l8 o9 q9 m r  h; cases h
  | succ fuel ih =>
    intro l4 l5 l6 l7 l8 o9 q9 m r  h
    unfold fX12_countsBy_15 at h
    refine fx_iload dX12_countsBy_15 rfl rfl ?_
    refine fx_iload_n dX12_countsBy_17 rfl rfl ?_
    refine fx_icmp_ge (t := 96) dX12_countsBy_18 rfl rfl (fun hc1 => ?_) (fun hc1 => ?_)
    · rw [if_pos hc1] at h
      refine fx_iload dX12_countsBy_96 rfl rfl ?_
      cases h
      exact fx_ireturn dX12_countsBy_98 rfl rfl
    · rw [if_neg hc1] at h
      refine fx_iload dX12_countsBy_21 rfl rfl ?_
      refine fx_iload_n dX12_countsBy_23 rfl rfl ?_
      obtain ⟨hz3, h⟩ := xChk_el h
      obtain ⟨x2, hx2, h⟩ := xLet_el h
      refine fx_idiv dX12_countsBy_24 rfl (by simpa using hz3) hx2 ?_
      refine fx_istore (ls2 := [some (.ref a0), some (.int a1), some (.int a2), some (.int a3), some (.int l4), some (.int l5), some (.int l6), some (.int x2), some (.int l8), o9]) dX12_countsBy_25 rfl rfl rfl ?_
      refine fx_iload_n dX12_countsBy_27 rfl rfl ?_
      refine fx_iload dX12_countsBy_28 rfl rfl ?_
      obtain ⟨hz5, h⟩ := xChk_el h
      obtain ⟨x4, hx4, h⟩ := xLet_el h
      refine fx_idiv dX12_countsBy_30 rfl (by simpa using hz5) hx4 ?_
      refine fx_iload_n dX12_countsBy_31 rfl rfl ?_
      obtain ⟨hz7, h⟩ := xChk_el h
      obtain ⟨x6, hx6, h⟩ := xLet_el h
      refine fx_irem dX12_countsBy_32 rfl (by simpa using hz7) hx6 ?_
      refine fx_istore (ls2 := [some (.ref a0), some (.int a1), some (.int a2), some (.int a3), some (.int l4), some (.int l5), some (.int l6), some (.int x2), some (.int l8), some (.int x6)]) dX12_countsBy_33 rfl rfl rfl ?_
      refine fx_iload dX12_countsBy_35 rfl rfl ?_
      refine fx_iload dX12_countsBy_37 rfl rfl ?_
      obtain ⟨x8, hx8, h⟩ := xLet_el h
      refine fx_ishr dX12_countsBy_39 rfl hx8 ?_
      refine fx_iconst (x := 1) dX12_countsBy_40 rfl (by decide) ?_
      obtain ⟨x9, hx9, h⟩ := xLet_el h
      refine fx_iand dX12_countsBy_41 rfl hx9 ?_
      refine fx_iconst (x := 1) dX12_countsBy_42 rfl (by decide) ?_
      refine fx_icmp_ne (t := 48) dX12_countsBy_43 rfl rfl (fun hc10 => ?_) (fun hc10 => ?_)
      · rw [if_pos hc10] at h
        refine fx_iload dX12_countsBy_48 rfl rfl ?_
        refine fx_iconst (x := 1) dX12_countsBy_50 rfl (by decide) ?_
        refine fx_iload dX12_countsBy_51 rfl rfl ?_
        obtain ⟨x11, hx11, h⟩ := xLet_el h
        refine fx_ishl dX12_countsBy_53 rfl hx11 ?_
        obtain ⟨x12, hx12, h⟩ := xLet_el h
        refine fx_ior dX12_countsBy_54 rfl hx12 ?_
        refine fx_istore (ls2 := [some (.ref a0), some (.int a1), some (.int a2), some (.int a3), some (.int x12), some (.int l5), some (.int l6), some (.int x2), some (.int l8), some (.int x6)]) dX12_countsBy_55 rfl rfl rfl ?_
        refine fx_iload dX12_countsBy_57 rfl rfl ?_
        refine fx_aload_n dX12_countsBy_59 rfl rfl ?_
        refine fx_iload dX12_countsBy_60 rfl rfl ?_
        refine fx_iload dX12_countsBy_62 rfl rfl ?_
        obtain ⟨p13, ep13, h⟩ := xBind_el h
        refine gx_callv (as := [.int x6, .int l5]) (r := [.int l6]) rfl dX12_countsBy_64 ca_12_417 rfl me_253 rfl rfl rfl rfl (ha0.1) rfl (fX12_aboveOf_ok (d := d) (by omega) ha0 ep13) rfl rfl ?_
        obtain ⟨x14, hx14, h⟩ := xLet_el h
        refine fx_iadd dX12_countsBy_67 rfl hx14 ?_
        refine fx_istore (ls2 := [some (.ref a0), some (.int a1), some (.int a2), some (.int a3), some (.int x12), some (.int l5), some (.int x14), some (.int x2), some (.int l8), some (.int x6)]) dX12_countsBy_68 rfl rfl rfl ?_
        refine fx_iload dX12_countsBy_70 rfl rfl ?_
        refine fx_aload_n dX12_countsBy_72 rfl rfl ?_
        refine gx_getr dX12_countsBy_73 rfl fd_12_7 ha0.1 rfl rfl ?_
        refine fx_sipush (x := 1520) dX12_countsBy_76 rfl (by decide) ?_
        refine fx_iconst (x := 4) dX12_countsBy_79 rfl (by decide) ?_
        refine fx_iload dX12_countsBy_80 rfl rfl ?_
        obtain ⟨x15, hx15, h⟩ := xLet_el h
        refine fx_imul dX12_countsBy_82 rfl hx15 ?_
        obtain ⟨x16, hx16, h⟩ := xLet_el h
        refine fx_iadd dX12_countsBy_83 rfl hx16 ?_
        refine fx_iconst (x := 3) dX12_countsBy_84 rfl (by decide) ?_
        obtain ⟨x17, hx17, h⟩ := xLet_el h
        refine fx_iadd dX12_countsBy_85 rfl hx17 ?_
        obtain ⟨hj19, h⟩ := xChk_el h
        obtain ⟨x18, hx18, h⟩ := xLet_el h
        refine gx_iaload dX12_countsBy_86 rfl ha0.2.1 hj19 hx18 ?_
        obtain ⟨x20, hx20, h⟩ := xLet_el h
        refine fx_iadd dX12_countsBy_87 rfl hx20 ?_
        refine fx_istore (ls2 := [some (.ref a0), some (.int a1), some (.int a2), some (.int a3), some (.int x12), some (.int x20), some (.int x14), some (.int x2), some (.int l8), some (.int x6)]) dX12_countsBy_88 rfl rfl rfl ?_
        obtain ⟨x21, hx21, h⟩ := xLet_el h
        refine fx_iinc (ls2 := [some (.ref a0), some (.int a1), some (.int a2), some (.int a3), some (.int x12), some (.int x20), some (.int x14), some (.int x2), some (.int x21), some (.int x6)]) dX12_countsBy_90 rfl rfl rfl hx21 rfl ?_
        refine fx_goto (t := 15) dX12_countsBy_93 rfl rfl ?_
        exact ih x12 x20 x14 x2 x21 (some (.int x6)) rfl p13.2 r h
      · rw [if_neg hc10] at h
        refine fx_iconst (x := -1) dX12_countsBy_46 rfl (by decide) ?_
        cases h
        exact fx_ireturn dX12_countsBy_47 rfl rfl
def fX12_countsBy_0 (a0 : Nat) (a1 : Int32) (a2 : Int32) (a3 : Int32) (m : xMem) : Option (Int32 × xMem) := fX12_countsBy_15 a0 a1 a2 a3 xFuel (0 : Int32) (0 : Int32) (0 : Int32) a3 (0 : Int32) m
set_option maxRecDepth 4000 in
theorem fX12_countsBy_0_ok {a0 : Nat} {a1 : Int32} {a2 : Int32} {a3 : Int32} {d : Nat} (hd : 1 ≤ d) (ha0 : isModel a0) {o4 : Option Value} {o5 : Option Value} {o6 : Option Value} {o7 : Option Value} {o8 : Option Value} {o9 : Option Value} {m : xMem} {r : (Int32 × xMem)} (q4 : xNoD o4 = true) (q5 : xNoD o5 = true) (q6 : xNoD o6 = true) (q7 : xNoD o7 = true) (q8 : xNoD o8 = true) (q9 : xNoD o9 = true) (h : fX12_countsBy_0 a0 a1 a2 a3 m = some r) : xFx hh_252 cX12_countsBy d 0 [some (.ref a0), some (.int a1), some (.int a2), some (.int a3), o4, o5, o6, o7, o8, o9] [] (xLay m) 0 0 (some (.int r.1)) (xLay r.2) := by
  unfold fX12_countsBy_0 at h
  refine fx_iconst (x := 0) dX12_countsBy_0 rfl (by decide) ?_
  refine fx_istore (ls2 := [some (.ref a0), some (.int a1), some (.int a2), some (.int a3), some (.int (0 : Int32)), o5, o6, o7, o8, o9]) dX12_countsBy_1 rfl rfl rfl ?_
  refine fx_iconst (x := 0) dX12_countsBy_3 rfl (by decide) ?_
  refine fx_istore (ls2 := [some (.ref a0), some (.int a1), some (.int a2), some (.int a3), some (.int (0 : Int32)), some (.int (0 : Int32)), o6, o7, o8, o9]) dX12_countsBy_4 rfl rfl rfl ?_
  refine fx_iconst (x := 0) dX12_countsBy_6 rfl (by decide) ?_
  refine fx_istore (ls2 := [some (.ref a0), some (.int a1), some (.int a2), some (.int a3), some (.int (0 : Int32)), some (.int (0 : Int32)), some (.int (0 : Int32)), o7, o8, o9]) dX12_countsBy_7 rfl rfl rfl ?_
  refine fx_iload_n dX12_countsBy_9 rfl rfl ?_
  refine fx_istore (ls2 := [some (.ref a0), some (.int a1), some (.int a2), some (.int a3), some (.int (0 : Int32)), some (.int (0 : Int32)), some (.int (0 : Int32)), some (.int a3), o8, o9]) dX12_countsBy_10 rfl rfl rfl ?_
  refine fx_iconst (x := 0) dX12_countsBy_12 rfl (by decide) ?_
  refine fx_istore (ls2 := [some (.ref a0), some (.int a1), some (.int a2), some (.int a3), some (.int (0 : Int32)), some (.int (0 : Int32)), some (.int (0 : Int32)), some (.int a3), some (.int (0 : Int32)), o9]) dX12_countsBy_13 rfl rfl rfl ?_
  exact fX12_countsBy_15_ok hd ha0 xFuel (0 : Int32) (0 : Int32) (0 : Int32) a3 (0 : Int32) (o9) q9 m r h
def fX12_countsBy (a0 : Nat) (a1 : Int32) (a2 : Int32) (a3 : Int32) (m : xMem) : Option (Int32 × xMem) := fX12_countsBy_0 a0 a1 a2 a3  m
theorem fX12_countsBy_ok {a0 : Nat} {a1 : Int32} {a2 : Int32} {a3 : Int32} {m : xMem} {r : (Int32 × xMem)} {d : Nat} (hd : 2 ≤ d) (ha0 : isModel a0) (h : fX12_countsBy a0 a1 a2 a3 m = some r) : xEx d 252 [.ref a0, .int a1, .int a2, .int a3] (xLay m) (some (.int r.1)) (xLay r.2) := by
  obtain ⟨d, rfl⟩ : ∃ q, d = q + 1 := ⟨d - 1, by omega⟩
  exact xEx_of me_252 rfl (fX12_countsBy_0_ok (d := d) (o4 := none) (o5 := none) (o6 := none) (o7 := none) (o8 := none) (o9 := none) (by omega) ha0 rfl rfl rfl rfl rfl rfl h)
def fX12_order_23 (a0 : Nat) (a1 : Int32) (m : xMem) : Option (Int32 × xMem) := some ((-1 : Int32), m)
set_option maxRecDepth 4000 in
theorem fX12_order_23_ok {a0 : Nat} {a1 : Int32} {d : Nat} (hd : 2 ≤ d) (ha0 : isModel a0) {o2 : Option Value} {o3 : Option Value} {o4 : Option Value} {o5 : Option Value} {o6 : Option Value} {o7 : Option Value} {m : xMem} {r : (Int32 × xMem)} (q2 : xNoD o2 = true) (q3 : xNoD o3 = true) (q4 : xNoD o4 = true) (q5 : xNoD o5 = true) (q6 : xNoD o6 = true) (q7 : xNoD o7 = true) (h : fX12_order_23 a0 a1 m = some r) : xFx hh_251 cX12_order d 23 [some (.ref a0), some (.int a1), o2, o3, o4, o5, o6, o7] [] (xLay m) 0 0 (some (.int r.1)) (xLay r.2) := by
  unfold fX12_order_23 at h
  refine fx_iconst (x := -1) dX12_order_23 rfl (by decide) ?_
  cases h
  exact fx_ireturn dX12_order_24 rfl rfl
def fX12_order_98 (a0 : Nat) (a1 : Int32) (rec55 : Int32 → Int32 → Int32 → Int32 → Int32 → xMem → Option (Int32 × xMem)) (l2 : Int32) (l3 : Int32) (l4 : Int32) (l5 : Int32) (l6 : Int32) (m : xMem) : Option (Int32 × xMem) := xLet (l6 + (1 : Int32)) fun x1 => rec55 l2 l3 l4 l5 x1 m
set_option maxRecDepth 4000 in
theorem fX12_order_98_ok {a0 : Nat} {a1 : Int32} {rec55 : Int32 → Int32 → Int32 → Int32 → Int32 → xMem → Option (Int32 × xMem)} {d : Nat} (hd : 2 ≤ d) (ha0 : isModel a0) (hrec55 : ∀ (l2 : Int32) (l3 : Int32) (l4 : Int32) (l5 : Int32) (l6 : Int32) (o7 : Option Value) (q7 : xNoD o7 = true) (m : xMem) (r : (Int32 × xMem)), rec55 l2 l3 l4 l5 l6 m = some r → xFx hh_251 cX12_order d 55 [some (.ref a0), some (.int a1), some (.int l2), some (.int l3), some (.int l4), some (.int l5), some (.int l6), o7] [] (xLay m) 0 0 (some (.int r.1)) (xLay r.2)) {l2 : Int32} {l3 : Int32} {l4 : Int32} {l5 : Int32} {l6 : Int32} {o7 : Option Value} {m : xMem} {r : (Int32 × xMem)} (q7 : xNoD o7 = true) (h : fX12_order_98 a0 a1 rec55 l2 l3 l4 l5 l6 m = some r) : xFx hh_251 cX12_order d 98 [some (.ref a0), some (.int a1), some (.int l2), some (.int l3), some (.int l4), some (.int l5), some (.int l6), o7] [] (xLay m) 0 0 (some (.int r.1)) (xLay r.2) := by
  unfold fX12_order_98 at h
  obtain ⟨x1, hx1, h⟩ := xLet_el h
  refine fx_iinc (ls2 := [some (.ref a0), some (.int a1), some (.int l2), some (.int l3), some (.int l4), some (.int l5), some (.int x1), o7]) dX12_order_98 rfl rfl rfl hx1 rfl ?_
  refine fx_goto (t := 55) dX12_order_101 rfl rfl ?_
  exact hrec55 l2 l3 l4 l5 x1 (o7) q7 m r h
def fX12_order_90 (a0 : Nat) (a1 : Int32) (rec55 : Int32 → Int32 → Int32 → Int32 → Int32 → xMem → Option (Int32 × xMem)) (l2 : Int32) (l3 : Int32) (l6 : Int32) (l7 : Int32) (m : xMem) : Option (Int32 × xMem) := fX12_order_98 a0 a1 rec55 l2 l3 l7 l6 l6 m
set_option maxRecDepth 4000 in
theorem fX12_order_90_ok {a0 : Nat} {a1 : Int32} {rec55 : Int32 → Int32 → Int32 → Int32 → Int32 → xMem → Option (Int32 × xMem)} {d : Nat} (hd : 2 ≤ d) (ha0 : isModel a0) (hrec55 : ∀ (l2 : Int32) (l3 : Int32) (l4 : Int32) (l5 : Int32) (l6 : Int32) (o7 : Option Value) (q7 : xNoD o7 = true) (m : xMem) (r : (Int32 × xMem)), rec55 l2 l3 l4 l5 l6 m = some r → xFx hh_251 cX12_order d 55 [some (.ref a0), some (.int a1), some (.int l2), some (.int l3), some (.int l4), some (.int l5), some (.int l6), o7] [] (xLay m) 0 0 (some (.int r.1)) (xLay r.2)) {l2 : Int32} {l3 : Int32} {l6 : Int32} {l7 : Int32} {o4 : Option Value} {o5 : Option Value} {m : xMem} {r : (Int32 × xMem)} (q4 : xNoD o4 = true) (q5 : xNoD o5 = true) (h : fX12_order_90 a0 a1 rec55 l2 l3 l6 l7 m = some r) : xFx hh_251 cX12_order d 90 [some (.ref a0), some (.int a1), some (.int l2), some (.int l3), o4, o5, some (.int l6), some (.int l7)] [] (xLay m) 0 0 (some (.int r.1)) (xLay r.2) := by
  unfold fX12_order_90 at h
  refine fx_iload dX12_order_90 rfl rfl ?_
  refine fx_istore (ls2 := [some (.ref a0), some (.int a1), some (.int l2), some (.int l3), some (.int l7), o5, some (.int l6), some (.int l7)]) dX12_order_92 rfl rfl rfl ?_
  refine fx_iload dX12_order_94 rfl rfl ?_
  refine fx_istore (ls2 := [some (.ref a0), some (.int a1), some (.int l2), some (.int l3), some (.int l7), some (.int l6), some (.int l6), some (.int l7)]) dX12_order_96 rfl rfl rfl ?_
  exact fX12_order_98_ok (o7 := some (.int l7)) hd ha0 hrec55 rfl h
def fX12_order_117 (a0 : Nat) (a1 : Int32) : Nat → Int32 → Int32 → Int32 → xMem → Option (Int32 × xMem)
  | 0, _, _, _, _ => none
  | fuel + 1, l2, l5, l6, m => if l6 ≤ a1 then bif !decide (l2 = 0) then xLet (xRem l5 l2) fun x2 => some (x2, m) else none else bif !decide (l2 = 0) then xLet (l5 / l2) fun x4 => xLet (l6 + (-1 : Int32)) fun x6 => fX12_order_117 a0 a1 fuel l2 x4 x6 m else none
set_option maxRecDepth 4000 in
theorem fX12_order_117_ok {a0 : Nat} {a1 : Int32} {d : Nat} (hd : 2 ≤ d) (ha0 : isModel a0) : ∀ (fuel : Nat) (l2 : Int32) (l5 : Int32) (l6 : Int32) (o3 : Option Value) (o4 : Option Value) (o7 : Option Value) (q3 : xNoD o3 = true) (q4 : xNoD o4 = true) (q7 : xNoD o7 = true) (m : xMem) (r : (Int32 × xMem)), fX12_order_117 a0 a1 fuel l2 l5 l6 m = some r → xFx hh_251 cX12_order d 117 [some (.ref a0), some (.int a1), some (.int l2), o3, o4, some (.int l5), some (.int l6), o7] [] (xLay m) 0 0 (some (.int r.1)) (xLay r.2) := by
  intro fuel
  induction fuel with
  | zero => intro l2 l5 l6 o3 o4 o7 q3 q4 q7 m r  h; cases h
  | succ fuel ih =>
    intro l2 l5 l6 o3 o4 o7 q3 q4 q7 m r  h
    unfold fX12_order_117 at h
    refine fx_iload dX12_order_117 rfl rfl ?_
    refine fx_iload_n dX12_order_119 rfl rfl ?_
    refine fx_icmp_le (t := 135) dX12_order_120 rfl rfl (fun hc1 => ?_) (fun hc1 => ?_)
    · rw [if_pos hc1] at h
      refine fx_iload dX12_order_135 rfl rfl ?_
      refine fx_iload_n dX12_order_137 rfl rfl ?_
      obtain ⟨hz3, h⟩ := xChk_el h
      obtain ⟨x2, hx2, h⟩ := xLet_el h
      refine fx_irem dX12_order_138 rfl (by simpa using hz3) hx2 ?_
      cases h
      exact fx_ireturn dX12_order_139 rfl rfl
    · rw [if_neg hc1] at h
      refine fx_iload dX12_order_123 rfl rfl ?_
      refine fx_iload_n dX12_order_125 rfl rfl ?_
      obtain ⟨hz5, h⟩ := xChk_el h
      obtain ⟨x4, hx4, h⟩ := xLet_el h
      refine fx_idiv dX12_order_126 rfl (by simpa using hz5) hx4 ?_
      refine fx_istore (ls2 := [some (.ref a0), some (.int a1), some (.int l2), o3, o4, some (.int x4), some (.int l6), o7]) dX12_order_127 rfl (xGd (j := 4) rfl rfl q4 rfl) rfl ?_
      obtain ⟨x6, hx6, h⟩ := xLet_el h
      refine fx_iinc (ls2 := [some (.ref a0), some (.int a1), some (.int l2), o3, o4, some (.int x4), some (.int x6), o7]) dX12_order_129 rfl rfl rfl hx6 rfl ?_
      refine fx_goto (t := 117) dX12_order_132 rfl rfl ?_
      exact ih l2 x4 x6 (o3) (o4) (o7) q3 q4 q7 m r h
def fX12_order_55 (a0 : Nat) (a1 : Int32) : Nat → Int32 → Int32 → Int32 → Int32 → Int32 → xMem → Option (Int32 × xMem)
  | 0, _, _, _, _, _, _ => none
  | fuel + 1, l2, l3, l4, l5, l6, m => if l3 ≤ l6 then if ¬ a1 = (-1 : Int32) then xLet (l2 - (1 : Int32)) fun x3 => fX12_order_117 a0 a1 xFuel l2 l5 x3 m else some (l4, m) else (fX12_countsBy a0 l6 l2 l3 m).bind fun p4 => if p4.1 = (-1 : Int32) then fX12_order_98 a0 a1 (fX12_order_55 a0 a1 fuel) l2 l3 l4 l5 l6 p4.2 else if l4 = (-1 : Int32) then fX12_order_90 a0 a1 (fX12_order_55 a0 a1 fuel) l2 l3 l6 p4.1 p4.2 else if l4 ≤ p4.1 then fX12_order_98 a0 a1 (fX12_order_55 a0 a1 fuel) l2 l3 l4 l5 l6 p4.2 else fX12_order_90 a0 a1 (fX12_order_55 a0 a1 fuel) l2 l3 l6 p4.1 p4.2
set_option maxRecDepth 4000 in
theorem fX12_order_55_ok {a0 : Nat} {a1 : Int32} {d : Nat} (hd : 2 ≤ d) (ha0 : isModel a0) : ∀ (fuel : Nat) (l2 : Int32) (l3 : Int32) (l4 : Int32) (l5 : Int32) (l6 : Int32) (o7 : Option Value) (q7 : xNoD o7 = true) (m : xMem) (r : (Int32 × xMem)), fX12_order_55 a0 a1 fuel l2 l3 l4 l5 l6 m = some r → xFx hh_251 cX12_order d 55 [some (.ref a0), some (.int a1), some (.int l2), some (.int l3), some (.int l4), some (.int l5), some (.int l6), o7] [] (xLay m) 0 0 (some (.int r.1)) (xLay r.2) := by
  intro fuel
  induction fuel with
  | zero => intro l2 l3 l4 l5 l6 o7 q7 m r  h; cases h
  | succ fuel ih =>
    intro l2 l3 l4 l5 l6 o7 q7 m r  h
    unfold fX12_order_55 at h
    refine fx_iload dX12_order_55 rfl rfl ?_
    refine fx_iload_n dX12_order_57 rfl rfl ?_
    refine fx_icmp_ge (t := 104) dX12_order_58 rfl rfl (fun hc1 => ?_) (fun hc1 => ?_)
    · rw [if_pos hc1] at h
      refine fx_iload_n dX12_order_104 rfl rfl ?_
      refine fx_iconst (x := -1) dX12_order_105 rfl (by decide) ?_
      refine fx_icmp_ne (t := 112) dX12_order_106 rfl rfl (fun hc2 => ?_) (fun hc2 => ?_)
      · rw [if_pos hc2] at h
        refine fx_iload_n dX12_order_112 rfl rfl ?_
        refine fx_iconst (x := 1) dX12_order_113 rfl (by decide) ?_
        obtain ⟨x3, hx3, h⟩ := xLet_el h
        refine fx_isub dX12_order_114 rfl hx3 ?_
        refine fx_istore (ls2 := [some (.ref a0), some (.int a1), some (.int l2), some (.int l3), some (.int l4), some (.int l5), some (.int x3), o7]) dX12_order_115 rfl rfl rfl ?_
        exact fX12_order_117_ok hd ha0 xFuel l2 l5 x3 (some (.int l3)) (some (.int l4)) (o7) rfl rfl q7 m r h
      · rw [if_neg hc2] at h
        refine fx_iload dX12_order_109 rfl rfl ?_
        cases h
        exact fx_ireturn dX12_order_111 rfl rfl
    · rw [if_neg hc1] at h
      refine fx_aload_n dX12_order_61 rfl rfl ?_
      refine fx_iload dX12_order_62 rfl rfl ?_
      refine fx_iload_n dX12_order_64 rfl rfl ?_
      refine fx_iload_n dX12_order_65 rfl rfl ?_
      obtain ⟨p4, ep4, h⟩ := xBind_el h
      refine gx_callv (as := [.int l6, .int l2, .int l3]) (r := []) rfl dX12_order_66 ca_12_414 rfl me_252 rfl rfl rfl rfl (ha0.1) rfl (fX12_countsBy_ok (d := d) (by omega) ha0 ep4) rfl rfl ?_
      refine fx_istore (ls2 := [some (.ref a0), some (.int a1), some (.int l2), some (.int l3), some (.int l4), some (.int l5), some (.int l6), some (.int p4.1)]) dX12_order_69 rfl rfl rfl ?_
      refine fx_iload dX12_order_71 rfl rfl ?_
      refine fx_iconst (x := -1) dX12_order_73 rfl (by decide) ?_
      refine fx_icmp_eq (t := 98) dX12_order_74 rfl rfl (fun hc5 => ?_) (fun hc5 => ?_)
      · rw [if_pos hc5] at h
        exact fX12_order_98_ok (o7 := some (.int p4.1)) hd ha0 ih rfl h
      · rw [if_neg hc5] at h
        refine fx_iload dX12_order_77 rfl rfl ?_
        refine fx_iconst (x := -1) dX12_order_79 rfl (by decide) ?_
        refine fx_icmp_eq (t := 90) dX12_order_80 rfl rfl (fun hc6 => ?_) (fun hc6 => ?_)
        · rw [if_pos hc6] at h
          exact fX12_order_90_ok (o4 := some (.int l4)) (o5 := some (.int l5)) hd ha0 ih rfl rfl h
        · rw [if_neg hc6] at h
          refine fx_iload dX12_order_83 rfl rfl ?_
          refine fx_iload dX12_order_85 rfl rfl ?_
          refine fx_icmp_ge (t := 98) dX12_order_87 rfl rfl (fun hc7 => ?_) (fun hc7 => ?_)
          · rw [if_pos hc7] at h
            exact fX12_order_98_ok (o7 := some (.int p4.1)) hd ha0 ih rfl h
          · rw [if_neg hc7] at h
            exact fX12_order_90_ok (o4 := some (.int l4)) (o5 := some (.int l5)) hd ha0 ih rfl rfl h
def fX12_order_30 (a0 : Nat) (a1 : Int32) : Nat → Int32 → Int32 → Int32 → xMem → Option (Int32 × xMem)
  | 0, _, _, _, _ => none
  | fuel + 1, l2, l3, l4, m => if l2 ≤ l4 then fX12_order_55 a0 a1 xFuel l2 l3 (-1 : Int32) (0 : Int32) (0 : Int32) m else xLet (l3 * l2) fun x2 => xLet (l4 + (1 : Int32)) fun x3 => fX12_order_30 a0 a1 fuel l2 x2 x3 m
set_option maxRecDepth 4000 in
theorem fX12_order_30_ok {a0 : Nat} {a1 : Int32} {d : Nat} (hd : 2 ≤ d) (ha0 : isModel a0) : ∀ (fuel : Nat) (l2 : Int32) (l3 : Int32) (l4 : Int32) (o5 : Option Value) (o6 : Option Value) (o7 : Option Value) (q5 : xNoD o5 = true) (q6 : xNoD o6 = true) (q7 : xNoD o7 = true) (m : xMem) (r : (Int32 × xMem)), fX12_order_30 a0 a1 fuel l2 l3 l4 m = some r → xFx hh_251 cX12_order d 30 [some (.ref a0), some (.int a1), some (.int l2), some (.int l3), some (.int l4), o5, o6, o7] [] (xLay m) 0 0 (some (.int r.1)) (xLay r.2) := by
  intro fuel
  induction fuel with
  | zero => intro l2 l3 l4 o5 o6 o7 q5 q6 q7 m r  h; cases h
  | succ fuel ih =>
    intro l2 l3 l4 o5 o6 o7 q5 q6 q7 m r  h
    unfold fX12_order_30 at h
    refine fx_iload dX12_order_30 rfl rfl ?_
    refine fx_iload_n dX12_order_32 rfl rfl ?_
    refine fx_icmp_ge (t := 46) dX12_order_33 rfl rfl (fun hc1 => ?_) (fun hc1 => ?_)
    · rw [if_pos hc1] at h
      refine fx_iconst (x := -1) dX12_order_46 rfl (by decide) ?_
      refine fx_istore (ls2 := [some (.ref a0), some (.int a1), some (.int l2), some (.int l3), some (.int (-1 : Int32)), o5, o6, o7]) dX12_order_47 rfl rfl rfl ?_
      refine fx_iconst (x := 0) dX12_order_49 rfl (by decide) ?_
      refine fx_istore (ls2 := [some (.ref a0), some (.int a1), some (.int l2), some (.int l3), some (.int (-1 : Int32)), some (.int (0 : Int32)), o6, o7]) dX12_order_50 rfl rfl rfl ?_
      refine fx_iconst (x := 0) dX12_order_52 rfl (by decide) ?_
      refine fx_istore (ls2 := [some (.ref a0), some (.int a1), some (.int l2), some (.int l3), some (.int (-1 : Int32)), some (.int (0 : Int32)), some (.int (0 : Int32)), o7]) dX12_order_53 rfl rfl rfl ?_
      exact fX12_order_55_ok hd ha0 xFuel l2 l3 (-1 : Int32) (0 : Int32) (0 : Int32) (o7) q7 m r h
    · rw [if_neg hc1] at h
      refine fx_iload_n dX12_order_36 rfl rfl ?_
      refine fx_iload_n dX12_order_37 rfl rfl ?_
      obtain ⟨x2, hx2, h⟩ := xLet_el h
      refine fx_imul dX12_order_38 rfl hx2 ?_
      refine fx_istore_n (ls2 := [some (.ref a0), some (.int a1), some (.int l2), some (.int x2), some (.int l4), o5, o6, o7]) dX12_order_39 rfl rfl rfl ?_
      obtain ⟨x3, hx3, h⟩ := xLet_el h
      refine fx_iinc (ls2 := [some (.ref a0), some (.int a1), some (.int l2), some (.int x2), some (.int x3), o5, o6, o7]) dX12_order_40 rfl rfl rfl hx3 rfl ?_
      refine fx_goto (t := 30) dX12_order_43 rfl rfl ?_
      exact ih l2 x2 x3 (o5) (o6) (o7) q5 q6 q7 m r h
def fX12_order_0 (a0 : Nat) (a1 : Int32) (m : xMem) : Option (Int32 × xMem) := bif xIn (7 : Int32) 1610 then xLet (m.1 (a0 + 1) (7 : Int32).toNatClampNeg) fun x1 => if x1 = (0 : Int32) then fX12_order_23 a0 a1 m else xLet (x1 - (1 : Int32)) fun x4 => (fX12_in a1 (-1 : Int32) x4 m).bind fun p5 => if ¬ p5.1 = (0 : Int32) then fX12_order_30 a0 a1 xFuel x1 (1 : Int32) (0 : Int32) p5.2 else fX12_order_23 a0 a1 p5.2 else none
set_option maxRecDepth 4000 in
theorem fX12_order_0_ok {a0 : Nat} {a1 : Int32} {d : Nat} (hd : 2 ≤ d) (ha0 : isModel a0) {o2 : Option Value} {o3 : Option Value} {o4 : Option Value} {o5 : Option Value} {o6 : Option Value} {o7 : Option Value} {m : xMem} {r : (Int32 × xMem)} (q2 : xNoD o2 = true) (q3 : xNoD o3 = true) (q4 : xNoD o4 = true) (q5 : xNoD o5 = true) (q6 : xNoD o6 = true) (q7 : xNoD o7 = true) (h : fX12_order_0 a0 a1 m = some r) : xFx hh_251 cX12_order d 0 [some (.ref a0), some (.int a1), o2, o3, o4, o5, o6, o7] [] (xLay m) 0 0 (some (.int r.1)) (xLay r.2) := by
  unfold fX12_order_0 at h
  refine fx_aload_n dX12_order_0 rfl rfl ?_
  refine gx_getr dX12_order_1 rfl fd_12_7 ha0.1 rfl rfl ?_
  refine fx_bipush (x := 7) dX12_order_4 rfl (by decide) ?_
  obtain ⟨hj2, h⟩ := xChk_el h
  obtain ⟨x1, hx1, h⟩ := xLet_el h
  refine gx_iaload dX12_order_6 rfl ha0.2.1 hj2 hx1 ?_
  refine fx_istore_n (ls2 := [some (.ref a0), some (.int a1), some (.int x1), o3, o4, o5, o6, o7]) dX12_order_7 rfl rfl rfl ?_
  refine fx_iload_n dX12_order_8 rfl rfl ?_
  refine fx_if_eq (t := 23) dX12_order_9 rfl rfl (fun hc3 => ?_) (fun hc3 => ?_)
  · rw [if_pos hc3] at h
    exact fX12_order_23_ok (o2 := some (.int x1)) (o3 := o3) (o4 := o4) (o5 := o5) (o6 := o6) (o7 := o7) hd ha0 rfl q3 q4 q5 q6 q7 h
  · rw [if_neg hc3] at h
    refine fx_iload_n dX12_order_12 rfl rfl ?_
    refine fx_iconst (x := -1) dX12_order_13 rfl (by decide) ?_
    refine fx_iload_n dX12_order_14 rfl rfl ?_
    refine fx_iconst (x := 1) dX12_order_15 rfl (by decide) ?_
    obtain ⟨x4, hx4, h⟩ := xLet_el h
    refine fx_isub dX12_order_16 rfl hx4 ?_
    obtain ⟨p5, ep5, h⟩ := xBind_el h
    refine gx_calls (as := [.int a1, .int (-1 : Int32), .int x4]) (r := []) rfl dX12_order_17 ca_12_95 rfl me_18 rfl rfl rfl rfl (fX12_in_ok (d := d) (by omega) ep5) rfl rfl ?_
    refine fx_if_ne (t := 25) dX12_order_20 rfl rfl (fun hc6 => ?_) (fun hc6 => ?_)
    · rw [if_pos hc6] at h
      refine fx_iconst (x := 1) dX12_order_25 rfl (by decide) ?_
      refine fx_istore_n (ls2 := [some (.ref a0), some (.int a1), some (.int x1), some (.int (1 : Int32)), o4, o5, o6, o7]) dX12_order_26 rfl rfl rfl ?_
      refine fx_iconst (x := 0) dX12_order_27 rfl (by decide) ?_
      refine fx_istore (ls2 := [some (.ref a0), some (.int a1), some (.int x1), some (.int (1 : Int32)), some (.int (0 : Int32)), o5, o6, o7]) dX12_order_28 rfl rfl rfl ?_
      exact fX12_order_30_ok hd ha0 xFuel x1 (1 : Int32) (0 : Int32) (o5) (o6) (o7) q5 q6 q7 p5.2 r h
    · rw [if_neg hc6] at h
      exact fX12_order_23_ok (o2 := some (.int x1)) (o3 := o3) (o4 := o4) (o5 := o5) (o6 := o6) (o7 := o7) hd ha0 rfl q3 q4 q5 q6 q7 h
def fX12_order (a0 : Nat) (a1 : Int32) (m : xMem) : Option (Int32 × xMem) := fX12_order_0 a0 a1  m
theorem fX12_order_ok {a0 : Nat} {a1 : Int32} {m : xMem} {r : (Int32 × xMem)} {d : Nat} (hd : 3 ≤ d) (ha0 : isModel a0) (h : fX12_order a0 a1 m = some r) : xEx d 251 [.ref a0, .int a1] (xLay m) (some (.int r.1)) (xLay r.2) := by
  obtain ⟨d, rfl⟩ : ∃ q, d = q + 1 := ⟨d - 1, by omega⟩
  exact xEx_of me_251 rfl (fX12_order_0_ok (d := d) (o2 := none) (o3 := none) (o4 := none) (o5 := none) (o6 := none) (o7 := none) (by omega) ha0 rfl rfl rfl rfl rfl rfl h)
def fX4_tell_16 (a0 : Nat) (a1 : Int32) (m : xMem) : Option (Int32 × xMem) := some ((-1 : Int32), m)
set_option maxRecDepth 4000 in
theorem fX4_tell_16_ok {a0 : Nat} {a1 : Int32} {d : Nat} (hd : 0 ≤ d) (ha0 : isLoads a0) {m : xMem} {r : (Int32 × xMem)} (h : fX4_tell_16 a0 a1 m = some r) : xFx hh_255 cX4_tell d 16 [some (.ref a0), some (.int a1)] [] (xLay m) 0 0 (some (.int r.1)) (xLay r.2) := by
  unfold fX4_tell_16 at h
  refine fx_iconst (x := -1) dX4_tell_16 rfl (by decide) ?_
  cases h
  exact fx_ireturn dX4_tell_17 rfl rfl
def fX4_tell_0 (a0 : Nat) (a1 : Int32) (m : xMem) : Option (Int32 × xMem) := xLet (m.1 a0 1) fun x1 => if x1 < (0 : Int32) then fX4_tell_16 a0 a1 m else xLet (m.1 a0 1) fun x3 => if x3 < (60 : Int32) then xLet (m.1 a0 1) fun x5 => bif xIn x5 60 then xLet (xPut m (a0 + 1) x5.toNatClampNeg a1) fun m6 => xLet (m6.1 a0 1) fun x8 => xLet (x8 + (1 : Int32)) fun x9 => xLet (xPut m6 a0 1 x9) fun m10 => xLet (m10.1 a0 1) fun x11 => some (x11, m10) else none else fX4_tell_16 a0 a1 m
set_option maxRecDepth 4000 in
theorem fX4_tell_0_ok {a0 : Nat} {a1 : Int32} {d : Nat} (hd : 0 ≤ d) (ha0 : isLoads a0) {m : xMem} {r : (Int32 × xMem)} (h : fX4_tell_0 a0 a1 m = some r) : xFx hh_255 cX4_tell d 0 [some (.ref a0), some (.int a1)] [] (xLay m) 0 0 (some (.int r.1)) (xLay r.2) := by
  unfold fX4_tell_0 at h
  refine fx_aload_n dX4_tell_0 rfl rfl ?_
  obtain ⟨x1, hx1, h⟩ := xLet_el h
  refine gx_get dX4_tell_1 rfl fd_4_15 ha0.1 rfl rfl hx1 ?_
  refine fx_if_lt (t := 16) dX4_tell_4 rfl rfl (fun hc2 => ?_) (fun hc2 => ?_)
  · rw [if_pos hc2] at h
    exact fX4_tell_16_ok hd ha0 h
  · rw [if_neg hc2] at h
    refine fx_aload_n dX4_tell_7 rfl rfl ?_
    obtain ⟨x3, hx3, h⟩ := xLet_el h
    refine gx_get dX4_tell_8 rfl fd_4_15 ha0.1 rfl rfl hx3 ?_
    refine fx_bipush (x := 60) dX4_tell_11 rfl (by decide) ?_
    refine fx_icmp_lt (t := 18) dX4_tell_13 rfl rfl (fun hc4 => ?_) (fun hc4 => ?_)
    · rw [if_pos hc4] at h
      refine fx_aload_n dX4_tell_18 rfl rfl ?_
      refine gx_getr dX4_tell_19 rfl fd_4_11 ha0.1 rfl rfl ?_
      refine fx_aload_n dX4_tell_22 rfl rfl ?_
      obtain ⟨x5, hx5, h⟩ := xLet_el h
      refine gx_get dX4_tell_23 rfl fd_4_15 ha0.1 rfl rfl hx5 ?_
      refine fx_iload_n dX4_tell_26 rfl rfl ?_
      obtain ⟨hj7, h⟩ := xChk_el h
      obtain ⟨m6, hm6, h⟩ := xLet_el h
      refine gx_iastore dX4_tell_27 rfl ha0.2 hj7 hm6 ?_
      refine fx_aload_n dX4_tell_28 rfl rfl ?_
      refine fx_dup dX4_tell_29 rfl rfl ?_
      obtain ⟨x8, hx8, h⟩ := xLet_el h
      refine gx_get dX4_tell_30 rfl fd_4_15 ha0.1 rfl rfl hx8 ?_
      refine fx_iconst (x := 1) dX4_tell_33 rfl (by decide) ?_
      obtain ⟨x9, hx9, h⟩ := xLet_el h
      refine fx_iadd dX4_tell_34 rfl hx9 ?_
      obtain ⟨m10, hm10, h⟩ := xLet_el h
      refine gx_put dX4_tell_35 rfl fd_4_15 ha0.1 rfl rfl rfl hm10 ?_
      refine fx_aload_n dX4_tell_38 rfl rfl ?_
      obtain ⟨x11, hx11, h⟩ := xLet_el h
      refine gx_get dX4_tell_39 rfl fd_4_15 ha0.1 rfl rfl hx11 ?_
      cases h
      exact fx_ireturn dX4_tell_42 rfl rfl
    · rw [if_neg hc4] at h
      exact fX4_tell_16_ok hd ha0 h
def fX4_tell (a0 : Nat) (a1 : Int32) (m : xMem) : Option (Int32 × xMem) := fX4_tell_0 a0 a1  m
theorem fX4_tell_ok {a0 : Nat} {a1 : Int32} {m : xMem} {r : (Int32 × xMem)} {d : Nat} (hd : 1 ≤ d) (ha0 : isLoads a0) (h : fX4_tell a0 a1 m = some r) : xEx d 255 [.ref a0, .int a1] (xLay m) (some (.int r.1)) (xLay r.2) := by
  obtain ⟨d, rfl⟩ : ∃ q, d = q + 1 := ⟨d - 1, by omega⟩
  exact xEx_of me_255 rfl (fX4_tell_0_ok (d := d) (by omega) ha0 h)
def fX11_load_25 (a0 : Nat) (a1 : Int32) (s0 : Int32) (m : xMem) : Option (Int32 × xMem) := some (s0, m)
set_option maxRecDepth 4000 in
theorem fX11_load_25_ok {a0 : Nat} {a1 : Int32} {d : Nat} (hd : 1 ≤ d) (ha0 : isMS a0) {s0 : Int32} {m : xMem} {r : (Int32 × xMem)} (h : fX11_load_25 a0 a1 s0 m = some r) : xFx hh_254 cX11_load d 25 [some (.ref a0), some (.int a1)] [.int s0] (xLay m) 0 0 (some (.int r.1)) (xLay r.2) := by
  unfold fX11_load_25 at h
  cases h
  exact fx_ireturn dX11_load_25 rfl rfl
def fX11_load_0 (a0 : Nat) (a1 : Int32) (m : xMem) : Option (Int32 × xMem) := (fX11_within a1 (0 : Int32) (80 : Int32) m).bind fun p1 => if p1.1 = (0 : Int32) then fX11_load_25 a0 a1 (-1 : Int32) p1.2 else (fX4_tell (a0 + 1 + 13) a1 p1.2).bind fun p3 => fX11_load_25 a0 a1 p3.1 p3.2
set_option maxRecDepth 4000 in
theorem fX11_load_0_ok {a0 : Nat} {a1 : Int32} {d : Nat} (hd : 1 ≤ d) (ha0 : isMS a0) {m : xMem} {r : (Int32 × xMem)} (h : fX11_load_0 a0 a1 m = some r) : xFx hh_254 cX11_load d 0 [some (.ref a0), some (.int a1)] [] (xLay m) 0 0 (some (.int r.1)) (xLay r.2) := by
  unfold fX11_load_0 at h
  refine fx_iload_n dX11_load_0 rfl rfl ?_
  refine fx_iconst (x := 0) dX11_load_1 rfl (by decide) ?_
  refine fx_bipush (x := 80) dX11_load_2 rfl (by decide) ?_
  obtain ⟨p1, ep1, h⟩ := xBind_el h
  refine gx_calls (as := [.int a1, .int (0 : Int32), .int (80 : Int32)]) (r := []) rfl dX11_load_4 ca_11_47 rfl me_14 rfl rfl rfl rfl (fX11_within_ok (d := d) (by omega) ep1) rfl rfl ?_
  refine fx_if_eq (t := 24) dX11_load_7 rfl rfl (fun hc2 => ?_) (fun hc2 => ?_)
  · rw [if_pos hc2] at h
    refine fx_iconst (x := -1) dX11_load_24 rfl (by decide) ?_
    exact fX11_load_25_ok hd ha0 h
  · rw [if_neg hc2] at h
    refine fx_aload_n dX11_load_10 rfl rfl ?_
    refine gx_getr dX11_load_11 rfl fd_11_10 ha0.1 rfl rfl ?_
    refine gx_getr dX11_load_14 rfl fd_11_301 ha0.2.1.1 rfl rfl ?_
    refine fx_iload_n dX11_load_17 rfl rfl ?_
    obtain ⟨p3, ep3, h⟩ := xBind_el h
    refine gx_callv (as := [.int a1]) (r := []) rfl dX11_load_18 ca_11_305 rfl me_255 rfl rfl rfl rfl (ha0.2.1.2.2.2.2.2.2.1.1) rfl (fX4_tell_ok (d := d) (by omega) ha0.2.1.2.2.2.2.2.2.1 ep3) rfl rfl ?_
    refine fx_goto (t := 25) dX11_load_21 rfl rfl ?_
    exact fX11_load_25_ok hd ha0 h
def fX11_load (a0 : Nat) (a1 : Int32) (m : xMem) : Option (Int32 × xMem) := fX11_load_0 a0 a1  m
theorem fX11_load_ok {a0 : Nat} {a1 : Int32} {m : xMem} {r : (Int32 × xMem)} {d : Nat} (hd : 2 ≤ d) (ha0 : isMS a0) (h : fX11_load a0 a1 m = some r) : xEx d 254 [.ref a0, .int a1] (xLay m) (some (.int r.1)) (xLay r.2) := by
  obtain ⟨d, rfl⟩ : ∃ q, d = q + 1 := ⟨d - 1, by omega⟩
  exact xEx_of me_254 rfl (fX11_load_0_ok (d := d) (by omega) ha0 h)
def fX12_load_22 (a0 : Nat) (a1 : Int32) (m : xMem) : Option (Int32 × xMem) := some ((-1 : Int32), m)
set_option maxRecDepth 4000 in
theorem fX12_load_22_ok {a0 : Nat} {a1 : Int32} {d : Nat} (hd : 1 ≤ d) (ha0 : isModel a0) {m : xMem} {r : (Int32 × xMem)} (h : fX12_load_22 a0 a1 m = some r) : xFx hh_256 cX12_load d 22 [some (.ref a0), some (.int a1)] [] (xLay m) 0 0 (some (.int r.1)) (xLay r.2) := by
  unfold fX12_load_22 at h
  refine fx_iconst (x := -1) dX12_load_22 rfl (by decide) ?_
  cases h
  exact fx_ireturn dX12_load_23 rfl rfl
def fX12_load_0 (a0 : Nat) (a1 : Int32) (m : xMem) : Option (Int32 × xMem) := (fX12_in a1 (0 : Int32) (80 : Int32) m).bind fun p1 => if p1.1 = (0 : Int32) then fX12_load_22 a0 a1 p1.2 else bif xIn (8 : Int32) 1610 then xLet (p1.2.1 (a0 + 1) (8 : Int32).toNatClampNeg) fun x3 => if ¬ x3 = (60 : Int32) then bif xIn (8 : Int32) 1610 then xLet (p1.2.1 (a0 + 1) (8 : Int32).toNatClampNeg) fun x6 => xLet ((1550 : Int32) + x6) fun x8 => bif xIn x8 1610 then xLet (xPut p1.2 (a0 + 1) x8.toNatClampNeg a1) fun m9 => bif xIn (8 : Int32) 1610 then xLet (m9.1 (a0 + 1) (8 : Int32).toNatClampNeg) fun x11 => xLet (x11 + (1 : Int32)) fun x13 => bif xIn (8 : Int32) 1610 then xLet (xPut m9 (a0 + 1) (8 : Int32).toNatClampNeg x13) fun m14 => bif xIn (8 : Int32) 1610 then xLet (m14.1 (a0 + 1) (8 : Int32).toNatClampNeg) fun x16 => some (x16, m14) else none else none else none else none else none else fX12_load_22 a0 a1 p1.2 else none
set_option maxRecDepth 4000 in
theorem fX12_load_0_ok {a0 : Nat} {a1 : Int32} {d : Nat} (hd : 1 ≤ d) (ha0 : isModel a0) {m : xMem} {r : (Int32 × xMem)} (h : fX12_load_0 a0 a1 m = some r) : xFx hh_256 cX12_load d 0 [some (.ref a0), some (.int a1)] [] (xLay m) 0 0 (some (.int r.1)) (xLay r.2) := by
  unfold fX12_load_0 at h
  refine fx_iload_n dX12_load_0 rfl rfl ?_
  refine fx_iconst (x := 0) dX12_load_1 rfl (by decide) ?_
  refine fx_bipush (x := 80) dX12_load_2 rfl (by decide) ?_
  obtain ⟨p1, ep1, h⟩ := xBind_el h
  refine gx_calls (as := [.int a1, .int (0 : Int32), .int (80 : Int32)]) (r := []) rfl dX12_load_4 ca_12_95 rfl me_18 rfl rfl rfl rfl (fX12_in_ok (d := d) (by omega) ep1) rfl rfl ?_
  refine fx_if_eq (t := 22) dX12_load_7 rfl rfl (fun hc2 => ?_) (fun hc2 => ?_)
  · rw [if_pos hc2] at h
    exact fX12_load_22_ok hd ha0 h
  · rw [if_neg hc2] at h
    refine fx_aload_n dX12_load_10 rfl rfl ?_
    refine gx_getr dX12_load_11 rfl fd_12_7 ha0.1 rfl rfl ?_
    refine fx_bipush (x := 8) dX12_load_14 rfl (by decide) ?_
    obtain ⟨hj4, h⟩ := xChk_el h
    obtain ⟨x3, hx3, h⟩ := xLet_el h
    refine gx_iaload dX12_load_16 rfl ha0.2.1 hj4 hx3 ?_
    refine fx_bipush (x := 60) dX12_load_17 rfl (by decide) ?_
    refine fx_icmp_ne (t := 24) dX12_load_19 rfl rfl (fun hc5 => ?_) (fun hc5 => ?_)
    · rw [if_pos hc5] at h
      refine fx_aload_n dX12_load_24 rfl rfl ?_
      refine gx_getr dX12_load_25 rfl fd_12_7 ha0.1 rfl rfl ?_
      refine fx_sipush (x := 1550) dX12_load_28 rfl (by decide) ?_
      refine fx_aload_n dX12_load_31 rfl rfl ?_
      refine gx_getr dX12_load_32 rfl fd_12_7 ha0.1 rfl rfl ?_
      refine fx_bipush (x := 8) dX12_load_35 rfl (by decide) ?_
      obtain ⟨hj7, h⟩ := xChk_el h
      obtain ⟨x6, hx6, h⟩ := xLet_el h
      refine gx_iaload dX12_load_37 rfl ha0.2.1 hj7 hx6 ?_
      obtain ⟨x8, hx8, h⟩ := xLet_el h
      refine fx_iadd dX12_load_38 rfl hx8 ?_
      refine fx_iload_n dX12_load_39 rfl rfl ?_
      obtain ⟨hj10, h⟩ := xChk_el h
      obtain ⟨m9, hm9, h⟩ := xLet_el h
      refine gx_iastore dX12_load_40 rfl ha0.2.1 hj10 hm9 ?_
      refine fx_aload_n dX12_load_41 rfl rfl ?_
      refine gx_getr dX12_load_42 rfl fd_12_7 ha0.1 rfl rfl ?_
      refine fx_bipush (x := 8) dX12_load_45 rfl (by decide) ?_
      refine fx_dup2 dX12_load_47 rfl rfl ?_
      obtain ⟨hj12, h⟩ := xChk_el h
      obtain ⟨x11, hx11, h⟩ := xLet_el h
      refine gx_iaload dX12_load_48 rfl ha0.2.1 hj12 hx11 ?_
      refine fx_iconst (x := 1) dX12_load_49 rfl (by decide) ?_
      obtain ⟨x13, hx13, h⟩ := xLet_el h
      refine fx_iadd dX12_load_50 rfl hx13 ?_
      obtain ⟨hj15, h⟩ := xChk_el h
      obtain ⟨m14, hm14, h⟩ := xLet_el h
      refine gx_iastore dX12_load_51 rfl ha0.2.1 hj15 hm14 ?_
      refine fx_aload_n dX12_load_52 rfl rfl ?_
      refine gx_getr dX12_load_53 rfl fd_12_7 ha0.1 rfl rfl ?_
      refine fx_bipush (x := 8) dX12_load_56 rfl (by decide) ?_
      obtain ⟨hj17, h⟩ := xChk_el h
      obtain ⟨x16, hx16, h⟩ := xLet_el h
      refine gx_iaload dX12_load_58 rfl ha0.2.1 hj17 hx16 ?_
      cases h
      exact fx_ireturn dX12_load_59 rfl rfl
    · rw [if_neg hc5] at h
      exact fX12_load_22_ok hd ha0 h
def fX12_load (a0 : Nat) (a1 : Int32) (m : xMem) : Option (Int32 × xMem) := fX12_load_0 a0 a1  m
theorem fX12_load_ok {a0 : Nat} {a1 : Int32} {m : xMem} {r : (Int32 × xMem)} {d : Nat} (hd : 2 ≤ d) (ha0 : isModel a0) (h : fX12_load a0 a1 m = some r) : xEx d 256 [.ref a0, .int a1] (xLay m) (some (.int r.1)) (xLay r.2) := by
  obtain ⟨d, rfl⟩ : ∃ q, d = q + 1 := ⟨d - 1, by omega⟩
  exact xEx_of me_256 rfl (fX12_load_0_ok (d := d) (by omega) ha0 h)
def fX11_unload_0 (a0 : Nat) (m : xMem) : Option (Int32 × xMem) := xLet (m.1 (a0 + 1 + 13) 1) fun x1 => xLet (xPut m (a0 + 1 + 13) 1 (0 : Int32)) fun m2 => some (x1, m2)
set_option maxRecDepth 4000 in
theorem fX11_unload_0_ok {a0 : Nat} {d : Nat} (hd : 0 ≤ d) (ha0 : isMS a0) {o1 : Option Value} {m : xMem} {r : (Int32 × xMem)} (q1 : xNoD o1 = true) (h : fX11_unload_0 a0 m = some r) : xFx hh_257 cX11_unload d 0 [some (.ref a0), o1] [] (xLay m) 0 0 (some (.int r.1)) (xLay r.2) := by
  unfold fX11_unload_0 at h
  refine fx_aload_n dX11_unload_0 rfl rfl ?_
  refine gx_getr dX11_unload_1 rfl fd_11_10 ha0.1 rfl rfl ?_
  refine gx_getr dX11_unload_4 rfl fd_11_301 ha0.2.1.1 rfl rfl ?_
  obtain ⟨x1, hx1, h⟩ := xLet_el h
  refine gx_get dX11_unload_7 rfl fd_11_309 ha0.2.1.2.2.2.2.2.2.1.1 rfl rfl hx1 ?_
  refine fx_istore_n (ls2 := [some (.ref a0), some (.int x1)]) dX11_unload_10 rfl rfl rfl ?_
  refine fx_aload_n dX11_unload_11 rfl rfl ?_
  refine gx_getr dX11_unload_12 rfl fd_11_10 ha0.1 rfl rfl ?_
  refine gx_getr dX11_unload_15 rfl fd_11_301 ha0.2.1.1 rfl rfl ?_
  refine fx_iconst (x := 0) dX11_unload_18 rfl (by decide) ?_
  obtain ⟨m2, hm2, h⟩ := xLet_el h
  refine gx_put dX11_unload_19 rfl fd_11_309 ha0.2.1.2.2.2.2.2.2.1.1 rfl rfl rfl hm2 ?_
  refine fx_iload_n dX11_unload_22 rfl rfl ?_
  cases h
  exact fx_ireturn dX11_unload_23 rfl rfl
def fX11_unload (a0 : Nat) (m : xMem) : Option (Int32 × xMem) := fX11_unload_0 a0  m
theorem fX11_unload_ok {a0 : Nat} {m : xMem} {r : (Int32 × xMem)} {d : Nat} (hd : 1 ≤ d) (ha0 : isMS a0) (h : fX11_unload a0 m = some r) : xEx d 257 [.ref a0] (xLay m) (some (.int r.1)) (xLay r.2) := by
  obtain ⟨d, rfl⟩ : ∃ q, d = q + 1 := ⟨d - 1, by omega⟩
  exact xEx_of me_257 rfl (fX11_unload_0_ok (d := d) (o1 := none) (by omega) ha0 rfl h)
def fX12_unload_0 (a0 : Nat) (m : xMem) : Option (Int32 × xMem) := bif xIn (8 : Int32) 1610 then xLet (m.1 (a0 + 1) (8 : Int32).toNatClampNeg) fun x1 => bif xIn (8 : Int32) 1610 then xLet (xPut m (a0 + 1) (8 : Int32).toNatClampNeg (0 : Int32)) fun m3 => some (x1, m3) else none else none
set_option maxRecDepth 4000 in
theorem fX12_unload_0_ok {a0 : Nat} {d : Nat} (hd : 0 ≤ d) (ha0 : isModel a0) {o1 : Option Value} {m : xMem} {r : (Int32 × xMem)} (q1 : xNoD o1 = true) (h : fX12_unload_0 a0 m = some r) : xFx hh_258 cX12_unload d 0 [some (.ref a0), o1] [] (xLay m) 0 0 (some (.int r.1)) (xLay r.2) := by
  unfold fX12_unload_0 at h
  refine fx_aload_n dX12_unload_0 rfl rfl ?_
  refine gx_getr dX12_unload_1 rfl fd_12_7 ha0.1 rfl rfl ?_
  refine fx_bipush (x := 8) dX12_unload_4 rfl (by decide) ?_
  obtain ⟨hj2, h⟩ := xChk_el h
  obtain ⟨x1, hx1, h⟩ := xLet_el h
  refine gx_iaload dX12_unload_6 rfl ha0.2.1 hj2 hx1 ?_
  refine fx_istore_n (ls2 := [some (.ref a0), some (.int x1)]) dX12_unload_7 rfl rfl rfl ?_
  refine fx_aload_n dX12_unload_8 rfl rfl ?_
  refine gx_getr dX12_unload_9 rfl fd_12_7 ha0.1 rfl rfl ?_
  refine fx_bipush (x := 8) dX12_unload_12 rfl (by decide) ?_
  refine fx_iconst (x := 0) dX12_unload_14 rfl (by decide) ?_
  obtain ⟨hj4, h⟩ := xChk_el h
  obtain ⟨m3, hm3, h⟩ := xLet_el h
  refine gx_iastore dX12_unload_15 rfl ha0.2.1 hj4 hm3 ?_
  refine fx_iload_n dX12_unload_16 rfl rfl ?_
  cases h
  exact fx_ireturn dX12_unload_17 rfl rfl
def fX12_unload (a0 : Nat) (m : xMem) : Option (Int32 × xMem) := fX12_unload_0 a0  m
theorem fX12_unload_ok {a0 : Nat} {m : xMem} {r : (Int32 × xMem)} {d : Nat} (hd : 1 ≤ d) (ha0 : isModel a0) (h : fX12_unload a0 m = some r) : xEx d 258 [.ref a0] (xLay m) (some (.int r.1)) (xLay r.2) := by
  obtain ⟨d, rfl⟩ : ∃ q, d = q + 1 := ⟨d - 1, by omega⟩
  exact xEx_of me_258 rfl (fX12_unload_0_ok (d := d) (o1 := none) (by omega) ha0 rfl h)
