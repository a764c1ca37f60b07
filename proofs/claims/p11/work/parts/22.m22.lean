theorem bdX11_fault_0 : (decode cX11_fault 0 = .ok (.iload_n 1, 1)) ∧ (decode cX11_fault 1 = .ok (.ifCond .ne 11, 3)) ∧ (decode cX11_fault 4 = .ok (.aload_n 0, 1)) ∧ (decode cX11_fault 5 = .ok (.getfield 32, 3)) ∧ (decode cX11_fault 8 = .ok (.getfield 150, 3)) ∧ (decode cX11_fault 11 = .ok (.ireturn, 1)) ∧ (decode cX11_fault 12 = .ok (.iload_n 1, 1)) ∧ (decode cX11_fault 13 = .ok (.iconst 1, 1)) ∧ (decode cX11_fault 14 = .ok (.if_icmp .ne 13, 3)) ∧ (decode cX11_fault 17 = .ok (.aload_n 0, 1)) ∧ (decode cX11_fault 18 = .ok (.getfield 32, 3)) ∧ (decode cX11_fault 21 = .ok (.getfield 153, 3)) ∧ (decode cX11_fault 24 = .ok (.goto 4, 3)) ∧ (decode cX11_fault 27 = .ok (.iconst (-1), 1)) ∧ (decode cX11_fault 28 = .ok (.ireturn, 1)) := by decide +kernel
theorem dX11_fault_0 : decode cX11_fault 0 = .ok (.iload_n 1, 1) := bdX11_fault_0.1
theorem dX11_fault_1 : decode cX11_fault 1 = .ok (.ifCond .ne 11, 3) := bdX11_fault_0.2.1
theorem dX11_fault_4 : decode cX11_fault 4 = .ok (.aload_n 0, 1) := bdX11_fault_0.2.2.1
theorem dX11_fault_5 : decode cX11_fault 5 = .ok (.getfield 32, 3) := bdX11_fault_0.2.2.2.1
theorem dX11_fault_8 : decode cX11_fault 8 = .ok (.getfield 150, 3) := bdX11_fault_0.2.2.2.2.1
theorem dX11_fault_11 : decode cX11_fault 11 = .ok (.ireturn, 1) := bdX11_fault_0.2.2.2.2.2.1
theorem dX11_fault_12 : decode cX11_fault 12 = .ok (.iload_n 1, 1) := bdX11_fault_0.2.2.2.2.2.2.1
theorem dX11_fault_13 : decode cX11_fault 13 = .ok (.iconst 1, 1) := bdX11_fault_0.2.2.2.2.2.2.2.1
theorem dX11_fault_14 : decode cX11_fault 14 = .ok (.if_icmp .ne 13, 3) := bdX11_fault_0.2.2.2.2.2.2.2.2.1
theorem dX11_fault_17 : decode cX11_fault 17 = .ok (.aload_n 0, 1) := bdX11_fault_0.2.2.2.2.2.2.2.2.2.1
theorem dX11_fault_18 : decode cX11_fault 18 = .ok (.getfield 32, 3) := bdX11_fault_0.2.2.2.2.2.2.2.2.2.2.1
theorem dX11_fault_21 : decode cX11_fault 21 = .ok (.getfield 153, 3) := bdX11_fault_0.2.2.2.2.2.2.2.2.2.2.2.1
theorem dX11_fault_24 : decode cX11_fault 24 = .ok (.goto 4, 3) := bdX11_fault_0.2.2.2.2.2.2.2.2.2.2.2.2.1
theorem dX11_fault_27 : decode cX11_fault 27 = .ok (.iconst (-1), 1) := bdX11_fault_0.2.2.2.2.2.2.2.2.2.2.2.2.2.1
theorem dX11_fault_28 : decode cX11_fault 28 = .ok (.ireturn, 1) := bdX11_fault_0.2.2.2.2.2.2.2.2.2.2.2.2.2.2
theorem bdX12_fault_0 : (decode cX12_fault 0 = .ok (.iload_n 1, 1)) ∧ (decode cX12_fault 1 = .ok (.ifCond .ne 10, 3)) ∧ (decode cX12_fault 4 = .ok (.aload_n 0, 1)) ∧ (decode cX12_fault 5 = .ok (.getfield 23, 3)) ∧ (decode cX12_fault 8 = .ok (.goto 16, 3)) ∧ (decode cX12_fault 11 = .ok (.iload_n 1, 1)) ∧ (decode cX12_fault 12 = .ok (.iconst 1, 1)) ∧ (decode cX12_fault 13 = .ok (.if_icmp .ne 10, 3)) ∧ (decode cX12_fault 16 = .ok (.aload_n 0, 1)) ∧ (decode cX12_fault 17 = .ok (.getfield 27, 3)) ∧ (decode cX12_fault 20 = .ok (.goto 4, 3)) ∧ (decode cX12_fault 23 = .ok (.iconst (-1), 1)) ∧ (decode cX12_fault 24 = .ok (.ireturn, 1)) := by decide +kernel
theorem dX12_fault_0 : decode cX12_fault 0 = .ok (.iload_n 1, 1) := bdX12_fault_0.1
theorem dX12_fault_1 : decode cX12_fault 1 = .ok (.ifCond .ne 10, 3) := bdX12_fault_0.2.1
theorem dX12_fault_4 : decode cX12_fault 4 = .ok (.aload_n 0, 1) := bdX12_fault_0.2.2.1
theorem dX12_fault_5 : decode cX12_fault 5 = .ok (.getfield 23, 3) := bdX12_fault_0.2.2.2.1
theorem dX12_fault_8 : decode cX12_fault 8 = .ok (.goto 16, 3) := bdX12_fault_0.2.2.2.2.1
theorem dX12_fault_11 : decode cX12_fault 11 = .ok (.iload_n 1, 1) := bdX12_fault_0.2.2.2.2.2.1
theorem dX12_fault_12 : decode cX12_fault 12 = .ok (.iconst 1, 1) := bdX12_fault_0.2.2.2.2.2.2.1
theorem dX12_fault_13 : decode cX12_fault 13 = .ok (.if_icmp .ne 10, 3) := bdX12_fault_0.2.2.2.2.2.2.2.1
theorem dX12_fault_16 : decode cX12_fault 16 = .ok (.aload_n 0, 1) := bdX12_fault_0.2.2.2.2.2.2.2.2.1
theorem dX12_fault_17 : decode cX12_fault 17 = .ok (.getfield 27, 3) := bdX12_fault_0.2.2.2.2.2.2.2.2.2.1
theorem dX12_fault_20 : decode cX12_fault 20 = .ok (.goto 4, 3) := bdX12_fault_0.2.2.2.2.2.2.2.2.2.2.1
theorem dX12_fault_23 : decode cX12_fault 23 = .ok (.iconst (-1), 1) := bdX12_fault_0.2.2.2.2.2.2.2.2.2.2.2.1
theorem dX12_fault_24 : decode cX12_fault 24 = .ok (.ireturn, 1) := bdX12_fault_0.2.2.2.2.2.2.2.2.2.2.2.2
theorem bdX11_by_0 : (decode cX11_by 0 = .ok (.iload_n 1, 1)) ∧ (decode cX11_by 1 = .ok (.iconst (-1), 1)) ∧ (decode cX11_by 2 = .ok (.aload_n 0, 1)) ∧ (decode cX11_by 3 = .ok (.getfield 10, 3)) ∧ (decode cX11_by 6 = .ok (.getfield 143, 3)) ∧ (decode cX11_by 9 = .ok (.iconst 1, 1)) ∧ (decode cX11_by 10 = .ok (.isub, 1)) ∧ (decode cX11_by 11 = .ok (.invokestatic 47, 3)) ∧ (decode cX11_by 14 = .ok (.ifCond .ne 5, 3)) ∧ (decode cX11_by 17 = .ok (.iconst 0, 1)) ∧ (decode cX11_by 18 = .ok (.ireturn, 1)) ∧ (decode cX11_by 19 = .ok (.aload_n 0, 1)) ∧ (decode cX11_by 20 = .ok (.getfield 10, 3)) ∧ (decode cX11_by 23 = .ok (.iload_n 1, 1)) ∧ (decode cX11_by 24 = .ok (.putfield 156, 3)) ∧ (decode cX11_by 27 = .ok (.iconst 1, 1)) := by decide +kernel
theorem dX11_by_0 : decode cX11_by 0 = .ok (.iload_n 1, 1) := bdX11_by_0.1
theorem dX11_by_1 : decode cX11_by 1 = .ok (.iconst (-1), 1) := bdX11_by_0.2.1
theorem dX11_by_2 : decode cX11_by 2 = .ok (.aload_n 0, 1) := bdX11_by_0.2.2.1
theorem dX11_by_3 : decode cX11_by 3 = .ok (.getfield 10, 3) := bdX11_by_0.2.2.2.1
theorem dX11_by_6 : decode cX11_by 6 = .ok (.getfield 143, 3) := bdX11_by_0.2.2.2.2.1
theorem dX11_by_9 : decode cX11_by 9 = .ok (.iconst 1, 1) := bdX11_by_0.2.2.2.2.2.1
theorem dX11_by_10 : decode cX11_by 10 = .ok (.isub, 1) := bdX11_by_0.2.2.2.2.2.2.1
theorem dX11_by_11 : decode cX11_by 11 = .ok (.invokestatic 47, 3) := bdX11_by_0.2.2.2.2.2.2.2.1
theorem dX11_by_14 : decode cX11_by 14 = .ok (.ifCond .ne 5, 3) := bdX11_by_0.2.2.2.2.2.2.2.2.1
theorem dX11_by_17 : decode cX11_by 17 = .ok (.iconst 0, 1) := bdX11_by_0.2.2.2.2.2.2.2.2.2.1
theorem dX11_by_18 : decode cX11_by 18 = .ok (.ireturn, 1) := bdX11_by_0.2.2.2.2.2.2.2.2.2.2.1
theorem dX11_by_19 : decode cX11_by 19 = .ok (.aload_n 0, 1) := bdX11_by_0.2.2.2.2.2.2.2.2.2.2.2.1
theorem dX11_by_20 : decode cX11_by 20 = .ok (.getfield 10, 3) := bdX11_by_0.2.2.2.2.2.2.2.2.2.2.2.2.1
theorem dX11_by_23 : decode cX11_by 23 = .ok (.iload_n 1, 1) := bdX11_by_0.2.2.2.2.2.2.2.2.2.2.2.2.2.1
theorem dX11_by_24 : decode cX11_by 24 = .ok (.putfield 156, 3) := bdX11_by_0.2.2.2.2.2.2.2.2.2.2.2.2.2.2.1
theorem dX11_by_27 : decode cX11_by 27 = .ok (.iconst 1, 1) := bdX11_by_0.2.2.2.2.2.2.2.2.2.2.2.2.2.2.2
theorem dX11_by_28 : decode cX11_by 28 = .ok (.ireturn, 1) := by decide +kernel
theorem bdX12_by_0 : (decode cX12_by 0 = .ok (.iload_n 1, 1)) ∧ (decode cX12_by 1 = .ok (.iconst (-1), 1)) ∧ (decode cX12_by 2 = .ok (.if_icmp .eq 21, 3)) ∧ (decode cX12_by 5 = .ok (.iload_n 1, 1)) ∧ (decode cX12_by 6 = .ok (.iconst 0, 1)) ∧ (decode cX12_by 7 = .ok (.aload_n 0, 1)) ∧ (decode cX12_by 8 = .ok (.getfield 7, 3)) ∧ (decode cX12_by 11 = .ok (.iconst 4, 1)) ∧ (decode cX12_by 12 = .ok (.iaload, 1)) ∧ (decode cX12_by 13 = .ok (.iconst 1, 1)) ∧ (decode cX12_by 14 = .ok (.isub, 1)) ∧ (decode cX12_by 15 = .ok (.invokestatic 95, 3)) ∧ (decode cX12_by 18 = .ok (.ifCond .ne 5, 3)) ∧ (decode cX12_by 21 = .ok (.iconst 0, 1)) ∧ (decode cX12_by 22 = .ok (.ireturn, 1)) ∧ (decode cX12_by 23 = .ok (.aload_n 0, 1)) := by decide +kernel
theorem dX12_by_0 : decode cX12_by 0 = .ok (.iload_n 1, 1) := bdX12_by_0.1
theorem dX12_by_1 : decode cX12_by 1 = .ok (.iconst (-1), 1) := bdX12_by_0.2.1
theorem dX12_by_2 : decode cX12_by 2 = .ok (.if_icmp .eq 21, 3) := bdX12_by_0.2.2.1
theorem dX12_by_5 : decode cX12_by 5 = .ok (.iload_n 1, 1) := bdX12_by_0.2.2.2.1
theorem dX12_by_6 : decode cX12_by 6 = .ok (.iconst 0, 1) := bdX12_by_0.2.2.2.2.1
theorem dX12_by_7 : decode cX12_by 7 = .ok (.aload_n 0, 1) := bdX12_by_0.2.2.2.2.2.1
theorem dX12_by_8 : decode cX12_by 8 = .ok (.getfield 7, 3) := bdX12_by_0.2.2.2.2.2.2.1
theorem dX12_by_11 : decode cX12_by 11 = .ok (.iconst 4, 1) := bdX12_by_0.2.2.2.2.2.2.2.1
theorem dX12_by_12 : decode cX12_by 12 = .ok (.iaload, 1) := bdX12_by_0.2.2.2.2.2.2.2.2.1
theorem dX12_by_13 : decode cX12_by 13 = .ok (.iconst 1, 1) := bdX12_by_0.2.2.2.2.2.2.2.2.2.1
theorem dX12_by_14 : decode cX12_by 14 = .ok (.isub, 1) := bdX12_by_0.2.2.2.2.2.2.2.2.2.2.1
theorem dX12_by_15 : decode cX12_by 15 = .ok (.invokestatic 95, 3) := bdX12_by_0.2.2.2.2.2.2.2.2.2.2.2.1
theorem dX12_by_18 : decode cX12_by 18 = .ok (.ifCond .ne 5, 3) := bdX12_by_0.2.2.2.2.2.2.2.2.2.2.2.2.1
theorem dX12_by_21 : decode cX12_by 21 = .ok (.iconst 0, 1) := bdX12_by_0.2.2.2.2.2.2.2.2.2.2.2.2.2.1
theorem dX12_by_22 : decode cX12_by 22 = .ok (.ireturn, 1) := bdX12_by_0.2.2.2.2.2.2.2.2.2.2.2.2.2.2.1
theorem dX12_by_23 : decode cX12_by 23 = .ok (.aload_n 0, 1) := bdX12_by_0.2.2.2.2.2.2.2.2.2.2.2.2.2.2.2
theorem bdX12_by_24 : (decode cX12_by 24 = .ok (.getfield 7, 3)) ∧ (decode cX12_by 27 = .ok (.iconst 5, 1)) ∧ (decode cX12_by 28 = .ok (.iload_n 1, 1)) ∧ (decode cX12_by 29 = .ok (.iastore, 1)) ∧ (decode cX12_by 30 = .ok (.iconst 1, 1)) ∧ (decode cX12_by 31 = .ok (.ireturn, 1)) := by decide +kernel
theorem dX12_by_24 : decode cX12_by 24 = .ok (.getfield 7, 3) := bdX12_by_24.1
theorem dX12_by_27 : decode cX12_by 27 = .ok (.iconst 5, 1) := bdX12_by_24.2.1
theorem dX12_by_28 : decode cX12_by 28 = .ok (.iload_n 1, 1) := bdX12_by_24.2.2.1
theorem dX12_by_29 : decode cX12_by 29 = .ok (.iastore, 1) := bdX12_by_24.2.2.2.1
theorem dX12_by_30 : decode cX12_by 30 = .ok (.iconst 1, 1) := bdX12_by_24.2.2.2.2.1
theorem dX12_by_31 : decode cX12_by 31 = .ok (.ireturn, 1) := bdX12_by_24.2.2.2.2.2
theorem bdX2_isOver_0 : (decode cX2_isOver 0 = .ok (.aload_n 0, 1)) ∧ (decode cX2_isOver 1 = .ok (.getfield 25, 3)) ∧ (decode cX2_isOver 4 = .ok (.aload_n 0, 1)) ∧ (decode cX2_isOver 5 = .ok (.getfield 18, 3)) ∧ (decode cX2_isOver 8 = .ok (.if_icmp .le 7, 3)) ∧ (decode cX2_isOver 11 = .ok (.iconst 1, 1)) ∧ (decode cX2_isOver 12 = .ok (.goto 4, 3)) ∧ (decode cX2_isOver 15 = .ok (.iconst 0, 1)) ∧ (decode cX2_isOver 16 = .ok (.ireturn, 1)) := by decide +kernel
theorem dX2_isOver_0 : decode cX2_isOver 0 = .ok (.aload_n 0, 1) := bdX2_isOver_0.1
theorem dX2_isOver_1 : decode cX2_isOver 1 = .ok (.getfield 25, 3) := bdX2_isOver_0.2.1
theorem dX2_isOver_4 : decode cX2_isOver 4 = .ok (.aload_n 0, 1) := bdX2_isOver_0.2.2.1
theorem dX2_isOver_5 : decode cX2_isOver 5 = .ok (.getfield 18, 3) := bdX2_isOver_0.2.2.2.1
theorem dX2_isOver_8 : decode cX2_isOver 8 = .ok (.if_icmp .le 7, 3) := bdX2_isOver_0.2.2.2.2.1
theorem dX2_isOver_11 : decode cX2_isOver 11 = .ok (.iconst 1, 1) := bdX2_isOver_0.2.2.2.2.2.1
theorem dX2_isOver_12 : decode cX2_isOver 12 = .ok (.goto 4, 3) := bdX2_isOver_0.2.2.2.2.2.2.1
theorem dX2_isOver_15 : decode cX2_isOver 15 = .ok (.iconst 0, 1) := bdX2_isOver_0.2.2.2.2.2.2.2.1
theorem dX2_isOver_16 : decode cX2_isOver 16 = .ok (.ireturn, 1) := bdX2_isOver_0.2.2.2.2.2.2.2.2
theorem bdX6_countSecond_0 : (decode cX6_countSecond 0 = .ok (.aload_n 1, 1)) ∧ (decode cX6_countSecond 1 = .ok (.getfield 265, 3)) ∧ (decode cX6_countSecond 4 = .ok (.i2l, 1)) ∧ (decode cX6_countSecond 5 = .ok (.lstore_n 2, 1)) ∧ (decode cX6_countSecond 6 = .ok (.iconst 0, 1)) ∧ (decode cX6_countSecond 7 = .ok (.istore 4, 2)) ∧ (decode cX6_countSecond 9 = .ok (.iload 4, 2)) ∧ (decode cX6_countSecond 11 = .ok (.aload_n 1, 1)) ∧ (decode cX6_countSecond 12 = .ok (.getfield 119, 3)) ∧ (decode cX6_countSecond 15 = .ok (.if_icmp .ge 89, 3)) ∧ (decode cX6_countSecond 18 = .ok (.iload 4, 2)) ∧ (decode cX6_countSecond 20 = .ok (.aload_n 1, 1)) ∧ (decode cX6_countSecond 21 = .ok (.getfield 96, 3)) ∧ (decode cX6_countSecond 24 = .ok (.arraylength, 1)) ∧ (decode cX6_countSecond 25 = .ok (.if_icmp .ge 79, 3)) ∧ (decode cX6_countSecond 28 = .ok (.aload_n 1, 1)) := by decide +kernel
theorem dX6_countSecond_0 : decode cX6_countSecond 0 = .ok (.aload_n 1, 1) := bdX6_countSecond_0.1
theorem dX6_countSecond_1 : decode cX6_countSecond 1 = .ok (.getfield 265, 3) := bdX6_countSecond_0.2.1
theorem dX6_countSecond_4 : decode cX6_countSecond 4 = .ok (.i2l, 1) := bdX6_countSecond_0.2.2.1
theorem dX6_countSecond_5 : decode cX6_countSecond 5 = .ok (.lstore_n 2, 1) := bdX6_countSecond_0.2.2.2.1
theorem dX6_countSecond_6 : decode cX6_countSecond 6 = .ok (.iconst 0, 1) := bdX6_countSecond_0.2.2.2.2.1
theorem dX6_countSecond_7 : decode cX6_countSecond 7 = .ok (.istore 4, 2) := bdX6_countSecond_0.2.2.2.2.2.1
theorem dX6_countSecond_9 : decode cX6_countSecond 9 = .ok (.iload 4, 2) := bdX6_countSecond_0.2.2.2.2.2.2.1
theorem dX6_countSecond_11 : decode cX6_countSecond 11 = .ok (.aload_n 1, 1) := bdX6_countSecond_0.2.2.2.2.2.2.2.1
theorem dX6_countSecond_12 : decode cX6_countSecond 12 = .ok (.getfield 119, 3) := bdX6_countSecond_0.2.2.2.2.2.2.2.2.1
theorem dX6_countSecond_15 : decode cX6_countSecond 15 = .ok (.if_icmp .ge 89, 3) := bdX6_countSecond_0.2.2.2.2.2.2.2.2.2.1
theorem dX6_countSecond_18 : decode cX6_countSecond 18 = .ok (.iload 4, 2) := bdX6_countSecond_0.2.2.2.2.2.2.2.2.2.2.1
theorem dX6_countSecond_20 : decode cX6_countSecond 20 = .ok (.aload_n 1, 1) := bdX6_countSecond_0.2.2.2.2.2.2.2.2.2.2.2.1
theorem dX6_countSecond_21 : decode cX6_countSecond 21 = .ok (.getfield 96, 3) := bdX6_countSecond_0.2.2.2.2.2.2.2.2.2.2.2.2.1
theorem dX6_countSecond_24 : decode cX6_countSecond 24 = .ok (.arraylength, 1) := bdX6_countSecond_0.2.2.2.2.2.2.2.2.2.2.2.2.2.1
theorem dX6_countSecond_25 : decode cX6_countSecond 25 = .ok (.if_icmp .ge 79, 3) := bdX6_countSecond_0.2.2.2.2.2.2.2.2.2.2.2.2.2.2.1
theorem dX6_countSecond_28 : decode cX6_countSecond 28 = .ok (.aload_n 1, 1) := bdX6_countSecond_0.2.2.2.2.2.2.2.2.2.2.2.2.2.2.2
theorem bdX6_countSecond_29 : (decode cX6_countSecond 29 = .ok (.getfield 96, 3)) ∧ (decode cX6_countSecond 32 = .ok (.iload 4, 2)) ∧ (decode cX6_countSecond 34 = .ok (.aaload, 1)) ∧ (decode cX6_countSecond 35 = .ok (.astore 5, 2)) ∧ (decode cX6_countSecond 37 = .ok (.lload_n 2, 1)) ∧ (decode cX6_countSecond 38 = .ok (.aload 5, 2)) ∧ (decode cX6_countSecond 40 = .ok (.getfield 106, 3)) ∧ (decode cX6_countSecond 43 = .ok (.i2l, 1)) ∧ (decode cX6_countSecond 44 = .ok (.aload 5, 2)) ∧ (decode cX6_countSecond 46 = .ok (.getfield 112, 3)) ∧ (decode cX6_countSecond 49 = .ok (.i2l, 1)) ∧ (decode cX6_countSecond 50 = .ok (.ladd, 1)) ∧ (decode cX6_countSecond 51 = .ok (.ladd, 1)) ∧ (decode cX6_countSecond 52 = .ok (.lstore_n 2, 1)) ∧ (decode cX6_countSecond 53 = .ok (.aload 5, 2)) ∧ (decode cX6_countSecond 55 = .ok (.getfield 125, 3)) := by decide +kernel
theorem dX6_countSecond_29 : decode cX6_countSecond 29 = .ok (.getfield 96, 3) := bdX6_countSecond_29.1
theorem dX6_countSecond_32 : decode cX6_countSecond 32 = .ok (.iload 4, 2) := bdX6_countSecond_29.2.1
theorem dX6_countSecond_34 : decode cX6_countSecond 34 = .ok (.aaload, 1) := bdX6_countSecond_29.2.2.1
theorem dX6_countSecond_35 : decode cX6_countSecond 35 = .ok (.astore 5, 2) := bdX6_countSecond_29.2.2.2.1
theorem dX6_countSecond_37 : decode cX6_countSecond 37 = .ok (.lload_n 2, 1) := bdX6_countSecond_29.2.2.2.2.1
theorem dX6_countSecond_38 : decode cX6_countSecond 38 = .ok (.aload 5, 2) := bdX6_countSecond_29.2.2.2.2.2.1
theorem dX6_countSecond_40 : decode cX6_countSecond 40 = .ok (.getfield 106, 3) := bdX6_countSecond_29.2.2.2.2.2.2.1
theorem dX6_countSecond_43 : decode cX6_countSecond 43 = .ok (.i2l, 1) := bdX6_countSecond_29.2.2.2.2.2.2.2.1
theorem dX6_countSecond_44 : decode cX6_countSecond 44 = .ok (.aload 5, 2) := bdX6_countSecond_29.2.2.2.2.2.2.2.2.1
theorem dX6_countSecond_46 : decode cX6_countSecond 46 = .ok (.getfield 112, 3) := bdX6_countSecond_29.2.2.2.2.2.2.2.2.2.1
theorem dX6_countSecond_49 : decode cX6_countSecond 49 = .ok (.i2l, 1) := bdX6_countSecond_29.2.2.2.2.2.2.2.2.2.2.1
theorem dX6_countSecond_50 : decode cX6_countSecond 50 = .ok (.ladd, 1) := bdX6_countSecond_29.2.2.2.2.2.2.2.2.2.2.2.1
theorem dX6_countSecond_51 : decode cX6_countSecond 51 = .ok (.ladd, 1) := bdX6_countSecond_29.2.2.2.2.2.2.2.2.2.2.2.2.1
theorem dX6_countSecond_52 : decode cX6_countSecond 52 = .ok (.lstore_n 2, 1) := bdX6_countSecond_29.2.2.2.2.2.2.2.2.2.2.2.2.2.1
theorem dX6_countSecond_53 : decode cX6_countSecond 53 = .ok (.aload 5, 2) := bdX6_countSecond_29.2.2.2.2.2.2.2.2.2.2.2.2.2.2.1
theorem dX6_countSecond_55 : decode cX6_countSecond 55 = .ok (.getfield 125, 3) := bdX6_countSecond_29.2.2.2.2.2.2.2.2.2.2.2.2.2.2.2
theorem bdX6_countSecond_58 : (decode cX6_countSecond 58 = .ok (.ifCond .eq 14, 3)) ∧ (decode cX6_countSecond 61 = .ok (.aload 5, 2)) ∧ (decode cX6_countSecond 63 = .ok (.dup, 1)) ∧ (decode cX6_countSecond 64 = .ok (.getfield 268, 3)) ∧ (decode cX6_countSecond 67 = .ok (.iconst 1, 1)) ∧ (decode cX6_countSecond 68 = .ok (.iadd, 1)) ∧ (decode cX6_countSecond 69 = .ok (.putfield 268, 3)) ∧ (decode cX6_countSecond 72 = .ok (.aload 5, 2)) ∧ (decode cX6_countSecond 74 = .ok (.getfield 271, 3)) ∧ (decode cX6_countSecond 77 = .ok (.iconst (-1), 1)) ∧ (decode cX6_countSecond 78 = .ok (.if_icmp .ne 20, 3)) ∧ (decode cX6_countSecond 81 = .ok (.aload 5, 2)) ∧ (decode cX6_countSecond 83 = .ok (.invokevirtual 274, 3)) ∧ (decode cX6_countSecond 86 = .ok (.ifCond .eq 12, 3)) ∧ (decode cX6_countSecond 89 = .ok (.aload 5, 2)) ∧ (decode cX6_countSecond 91 = .ok (.aload_n 1, 1)) := by decide +kernel
theorem dX6_countSecond_58 : decode cX6_countSecond 58 = .ok (.ifCond .eq 14, 3) := bdX6_countSecond_58.1
theorem dX6_countSecond_61 : decode cX6_countSecond 61 = .ok (.aload 5, 2) := bdX6_countSecond_58.2.1
theorem dX6_countSecond_63 : decode cX6_countSecond 63 = .ok (.dup, 1) := bdX6_countSecond_58.2.2.1
theorem dX6_countSecond_64 : decode cX6_countSecond 64 = .ok (.getfield 268, 3) := bdX6_countSecond_58.2.2.2.1
theorem dX6_countSecond_67 : decode cX6_countSecond 67 = .ok (.iconst 1, 1) := bdX6_countSecond_58.2.2.2.2.1
theorem dX6_countSecond_68 : decode cX6_countSecond 68 = .ok (.iadd, 1) := bdX6_countSecond_58.2.2.2.2.2.1
theorem dX6_countSecond_69 : decode cX6_countSecond 69 = .ok (.putfield 268, 3) := bdX6_countSecond_58.2.2.2.2.2.2.1
theorem dX6_countSecond_72 : decode cX6_countSecond 72 = .ok (.aload 5, 2) := bdX6_countSecond_58.2.2.2.2.2.2.2.1
theorem dX6_countSecond_74 : decode cX6_countSecond 74 = .ok (.getfield 271, 3) := bdX6_countSecond_58.2.2.2.2.2.2.2.2.1
theorem dX6_countSecond_77 : decode cX6_countSecond 77 = .ok (.iconst (-1), 1) := bdX6_countSecond_58.2.2.2.2.2.2.2.2.2.1
theorem dX6_countSecond_78 : decode cX6_countSecond 78 = .ok (.if_icmp .ne 20, 3) := bdX6_countSecond_58.2.2.2.2.2.2.2.2.2.2.1
theorem dX6_countSecond_81 : decode cX6_countSecond 81 = .ok (.aload 5, 2) := bdX6_countSecond_58.2.2.2.2.2.2.2.2.2.2.2.1
theorem dX6_countSecond_83 : decode cX6_countSecond 83 = .ok (.invokevirtual 274, 3) := bdX6_countSecond_58.2.2.2.2.2.2.2.2.2.2.2.2.1
theorem dX6_countSecond_86 : decode cX6_countSecond 86 = .ok (.ifCond .eq 12, 3) := bdX6_countSecond_58.2.2.2.2.2.2.2.2.2.2.2.2.2.1
theorem dX6_countSecond_89 : decode cX6_countSecond 89 = .ok (.aload 5, 2) := bdX6_countSecond_58.2.2.2.2.2.2.2.2.2.2.2.2.2.2.1
theorem dX6_countSecond_91 : decode cX6_countSecond 91 = .ok (.aload_n 1, 1) := bdX6_countSecond_58.2.2.2.2.2.2.2.2.2.2.2.2.2.2.2
theorem bdX6_countSecond_92 : (decode cX6_countSecond 92 = .ok (.getfield 47, 3)) ∧ (decode cX6_countSecond 95 = .ok (.putfield 271, 3)) ∧ (decode cX6_countSecond 98 = .ok (.iinc 4 1, 3)) ∧ (decode cX6_countSecond 101 = .ok (.goto (-92), 3)) ∧ (decode cX6_countSecond 104 = .ok (.aload_n 1, 1)) ∧ (decode cX6_countSecond 105 = .ok (.lload_n 2, 1)) ∧ (decode cX6_countSecond 106 = .ok (.ldc2_w 277, 3)) ∧ (decode cX6_countSecond 109 = .ok (.invokestatic 279, 3)) ∧ (decode cX6_countSecond 112 = .ok (.l2i, 1)) ∧ (decode cX6_countSecond 113 = .ok (.putfield 265, 3)) ∧ (decode cX6_countSecond 116 = .ok (.return_, 1)) := by decide +kernel
theorem dX6_countSecond_92 : decode cX6_countSecond 92 = .ok (.getfield 47, 3) := bdX6_countSecond_92.1
theorem dX6_countSecond_95 : decode cX6_countSecond 95 = .ok (.putfield 271, 3) := bdX6_countSecond_92.2.1
theorem dX6_countSecond_98 : decode cX6_countSecond 98 = .ok (.iinc 4 1, 3) := bdX6_countSecond_92.2.2.1
theorem dX6_countSecond_101 : decode cX6_countSecond 101 = .ok (.goto (-92), 3) := bdX6_countSecond_92.2.2.2.1
theorem dX6_countSecond_104 : decode cX6_countSecond 104 = .ok (.aload_n 1, 1) := bdX6_countSecond_92.2.2.2.2.1
theorem dX6_countSecond_105 : decode cX6_countSecond 105 = .ok (.lload_n 2, 1) := bdX6_countSecond_92.2.2.2.2.2.1
theorem dX6_countSecond_106 : decode cX6_countSecond 106 = .ok (.ldc2_w 277, 3) := bdX6_countSecond_92.2.2.2.2.2.2.1
theorem dX6_countSecond_109 : decode cX6_countSecond 109 = .ok (.invokestatic 279, 3) := bdX6_countSecond_92.2.2.2.2.2.2.2.1
theorem dX6_countSecond_112 : decode cX6_countSecond 112 = .ok (.l2i, 1) := bdX6_countSecond_92.2.2.2.2.2.2.2.2.1
theorem dX6_countSecond_113 : decode cX6_countSecond 113 = .ok (.putfield 265, 3) := bdX6_countSecond_92.2.2.2.2.2.2.2.2.2.1
theorem dX6_countSecond_116 : decode cX6_countSecond 116 = .ok (.return_, 1) := bdX6_countSecond_92.2.2.2.2.2.2.2.2.2.2
theorem bdX2_changeOutside_0 : (decode cX2_changeOutside 0 = .ok (.iload_n 2, 1)) ∧ (decode cX2_changeOutside 1 = .ok (.bipush 6, 2)) ∧ (decode cX2_changeOutside 3 = .ok (.imul, 1)) ∧ (decode cX2_changeOutside 4 = .ok (.iload_n 1, 1)) ∧ (decode cX2_changeOutside 5 = .ok (.iadd, 1)) ∧ (decode cX2_changeOutside 6 = .ok (.istore 4, 2)) ∧ (decode cX2_changeOutside 8 = .ok (.iload 4, 2)) ∧ (decode cX2_changeOutside 10 = .ok (.ifCond .lt 34, 3)) ∧ (decode cX2_changeOutside 13 = .ok (.iload 4, 2)) ∧ (decode cX2_changeOutside 15 = .ok (.aload_n 0, 1)) ∧ (decode cX2_changeOutside 16 = .ok (.getfield 15, 3)) ∧ (decode cX2_changeOutside 19 = .ok (.arraylength, 1)) ∧ (decode cX2_changeOutside 20 = .ok (.if_icmp .ge 24, 3)) ∧ (decode cX2_changeOutside 23 = .ok (.aload_n 0, 1)) ∧ (decode cX2_changeOutside 24 = .ok (.getfield 15, 3)) ∧ (decode cX2_changeOutside 27 = .ok (.iload 4, 2)) := by decide +kernel
theorem dX2_changeOutside_0 : decode cX2_changeOutside 0 = .ok (.iload_n 2, 1) := bdX2_changeOutside_0.1
theorem dX2_changeOutside_1 : decode cX2_changeOutside 1 = .ok (.bipush 6, 2) := bdX2_changeOutside_0.2.1
theorem dX2_changeOutside_3 : decode cX2_changeOutside 3 = .ok (.imul, 1) := bdX2_changeOutside_0.2.2.1
theorem dX2_changeOutside_4 : decode cX2_changeOutside 4 = .ok (.iload_n 1, 1) := bdX2_changeOutside_0.2.2.2.1
theorem dX2_changeOutside_5 : decode cX2_changeOutside 5 = .ok (.iadd, 1) := bdX2_changeOutside_0.2.2.2.2.1
theorem dX2_changeOutside_6 : decode cX2_changeOutside 6 = .ok (.istore 4, 2) := bdX2_changeOutside_0.2.2.2.2.2.1
theorem dX2_changeOutside_8 : decode cX2_changeOutside 8 = .ok (.iload 4, 2) := bdX2_changeOutside_0.2.2.2.2.2.2.1
theorem dX2_changeOutside_10 : decode cX2_changeOutside 10 = .ok (.ifCond .lt 34, 3) := bdX2_changeOutside_0.2.2.2.2.2.2.2.1
theorem dX2_changeOutside_13 : decode cX2_changeOutside 13 = .ok (.iload 4, 2) := bdX2_changeOutside_0.2.2.2.2.2.2.2.2.1
theorem dX2_changeOutside_15 : decode cX2_changeOutside 15 = .ok (.aload_n 0, 1) := bdX2_changeOutside_0.2.2.2.2.2.2.2.2.2.1
theorem dX2_changeOutside_16 : decode cX2_changeOutside 16 = .ok (.getfield 15, 3) := bdX2_changeOutside_0.2.2.2.2.2.2.2.2.2.2.1
theorem dX2_changeOutside_19 : decode cX2_changeOutside 19 = .ok (.arraylength, 1) := bdX2_changeOutside_0.2.2.2.2.2.2.2.2.2.2.2.1
theorem dX2_changeOutside_20 : decode cX2_changeOutside 20 = .ok (.if_icmp .ge 24, 3) := bdX2_changeOutside_0.2.2.2.2.2.2.2.2.2.2.2.2.1
theorem dX2_changeOutside_23 : decode cX2_changeOutside 23 = .ok (.aload_n 0, 1) := bdX2_changeOutside_0.2.2.2.2.2.2.2.2.2.2.2.2.2.1
theorem dX2_changeOutside_24 : decode cX2_changeOutside 24 = .ok (.getfield 15, 3) := bdX2_changeOutside_0.2.2.2.2.2.2.2.2.2.2.2.2.2.2.1
theorem dX2_changeOutside_27 : decode cX2_changeOutside 27 = .ok (.iload 4, 2) := bdX2_changeOutside_0.2.2.2.2.2.2.2.2.2.2.2.2.2.2.2
theorem bdX2_changeOutside_29 : (decode cX2_changeOutside 29 = .ok (.dup2, 1)) ∧ (decode cX2_changeOutside 30 = .ok (.iaload, 1)) ∧ (decode cX2_changeOutside 31 = .ok (.iload_n 3, 1)) ∧ (decode cX2_changeOutside 32 = .ok (.iadd, 1)) ∧ (decode cX2_changeOutside 33 = .ok (.iastore, 1)) ∧ (decode cX2_changeOutside 34 = .ok (.aload_n 0, 1)) ∧ (decode cX2_changeOutside 35 = .ok (.dup, 1)) ∧ (decode cX2_changeOutside 36 = .ok (.getfield 28, 3)) ∧ (decode cX2_changeOutside 39 = .ok (.iload_n 3, 1)) ∧ (decode cX2_changeOutside 40 = .ok (.iadd, 1)) ∧ (decode cX2_changeOutside 41 = .ok (.putfield 28, 3)) ∧ (decode cX2_changeOutside 44 = .ok (.return_, 1)) := by decide +kernel
theorem dX2_changeOutside_29 : decode cX2_changeOutside 29 = .ok (.dup2, 1) := bdX2_changeOutside_29.1
theorem dX2_changeOutside_30 : decode cX2_changeOutside 30 = .ok (.iaload, 1) := bdX2_changeOutside_29.2.1
theorem dX2_changeOutside_31 : decode cX2_changeOutside 31 = .ok (.iload_n 3, 1) := bdX2_changeOutside_29.2.2.1
theorem dX2_changeOutside_32 : decode cX2_changeOutside 32 = .ok (.iadd, 1) := bdX2_changeOutside_29.2.2.2.1
theorem dX2_changeOutside_33 : decode cX2_changeOutside 33 = .ok (.iastore, 1) := bdX2_changeOutside_29.2.2.2.2.1
theorem dX2_changeOutside_34 : decode cX2_changeOutside 34 = .ok (.aload_n 0, 1) := bdX2_changeOutside_29.2.2.2.2.2.1
theorem dX2_changeOutside_35 : decode cX2_changeOutside 35 = .ok (.dup, 1) := bdX2_changeOutside_29.2.2.2.2.2.2.1
theorem dX2_changeOutside_36 : decode cX2_changeOutside 36 = .ok (.getfield 28, 3) := bdX2_changeOutside_29.2.2.2.2.2.2.2.1
theorem dX2_changeOutside_39 : decode cX2_changeOutside 39 = .ok (.iload_n 3, 1) := bdX2_changeOutside_29.2.2.2.2.2.2.2.2.1
theorem dX2_changeOutside_40 : decode cX2_changeOutside 40 = .ok (.iadd, 1) := bdX2_changeOutside_29.2.2.2.2.2.2.2.2.2.1
theorem dX2_changeOutside_41 : decode cX2_changeOutside 41 = .ok (.putfield 28, 3) := bdX2_changeOutside_29.2.2.2.2.2.2.2.2.2.2.1
theorem dX2_changeOutside_44 : decode cX2_changeOutside 44 = .ok (.return_, 1) := bdX2_changeOutside_29.2.2.2.2.2.2.2.2.2.2.2
theorem bdX2_change_0 : (decode cX2_change 0 = .ok (.iload_n 2, 1)) ∧ (decode cX2_change 1 = .ok (.bipush 6, 2)) ∧ (decode cX2_change 3 = .ok (.imul, 1)) ∧ (decode cX2_change 4 = .ok (.iload_n 1, 1)) ∧ (decode cX2_change 5 = .ok (.iadd, 1)) ∧ (decode cX2_change 6 = .ok (.istore 4, 2)) ∧ (decode cX2_change 8 = .ok (.iload 4, 2)) ∧ (decode cX2_change 10 = .ok (.ifCond .lt 34, 3)) ∧ (decode cX2_change 13 = .ok (.iload 4, 2)) ∧ (decode cX2_change 15 = .ok (.aload_n 0, 1)) ∧ (decode cX2_change 16 = .ok (.getfield 9, 3)) ∧ (decode cX2_change 19 = .ok (.arraylength, 1)) ∧ (decode cX2_change 20 = .ok (.if_icmp .ge 24, 3)) ∧ (decode cX2_change 23 = .ok (.aload_n 0, 1)) ∧ (decode cX2_change 24 = .ok (.getfield 9, 3)) ∧ (decode cX2_change 27 = .ok (.iload 4, 2)) := by decide +kernel
theorem dX2_change_0 : decode cX2_change 0 = .ok (.iload_n 2, 1) := bdX2_change_0.1
theorem dX2_change_1 : decode cX2_change 1 = .ok (.bipush 6, 2) := bdX2_change_0.2.1
theorem dX2_change_3 : decode cX2_change 3 = .ok (.imul, 1) := bdX2_change_0.2.2.1
theorem dX2_change_4 : decode cX2_change 4 = .ok (.iload_n 1, 1) := bdX2_change_0.2.2.2.1
theorem dX2_change_5 : decode cX2_change 5 = .ok (.iadd, 1) := bdX2_change_0.2.2.2.2.1
theorem dX2_change_6 : decode cX2_change 6 = .ok (.istore 4, 2) := bdX2_change_0.2.2.2.2.2.1
theorem dX2_change_8 : decode cX2_change 8 = .ok (.iload 4, 2) := bdX2_change_0.2.2.2.2.2.2.1
theorem dX2_change_10 : decode cX2_change 10 = .ok (.ifCond .lt 34, 3) := bdX2_change_0.2.2.2.2.2.2.2.1
theorem dX2_change_13 : decode cX2_change 13 = .ok (.iload 4, 2) := bdX2_change_0.2.2.2.2.2.2.2.2.1
theorem dX2_change_15 : decode cX2_change 15 = .ok (.aload_n 0, 1) := bdX2_change_0.2.2.2.2.2.2.2.2.2.1
theorem dX2_change_16 : decode cX2_change 16 = .ok (.getfield 9, 3) := bdX2_change_0.2.2.2.2.2.2.2.2.2.2.1
theorem dX2_change_19 : decode cX2_change 19 = .ok (.arraylength, 1) := bdX2_change_0.2.2.2.2.2.2.2.2.2.2.2.1
theorem dX2_change_20 : decode cX2_change 20 = .ok (.if_icmp .ge 24, 3) := bdX2_change_0.2.2.2.2.2.2.2.2.2.2.2.2.1
theorem dX2_change_23 : decode cX2_change 23 = .ok (.aload_n 0, 1) := bdX2_change_0.2.2.2.2.2.2.2.2.2.2.2.2.2.1
theorem dX2_change_24 : decode cX2_change 24 = .ok (.getfield 9, 3) := bdX2_change_0.2.2.2.2.2.2.2.2.2.2.2.2.2.2.1
theorem dX2_change_27 : decode cX2_change 27 = .ok (.iload 4, 2) := bdX2_change_0.2.2.2.2.2.2.2.2.2.2.2.2.2.2.2
theorem bdX2_change_29 : (decode cX2_change 29 = .ok (.dup2, 1)) ∧ (decode cX2_change 30 = .ok (.iaload, 1)) ∧ (decode cX2_change 31 = .ok (.iload_n 3, 1)) ∧ (decode cX2_change 32 = .ok (.iadd, 1)) ∧ (decode cX2_change 33 = .ok (.iastore, 1)) ∧ (decode cX2_change 34 = .ok (.aload_n 0, 1)) ∧ (decode cX2_change 35 = .ok (.dup, 1)) ∧ (decode cX2_change 36 = .ok (.getfield 25, 3)) ∧ (decode cX2_change 39 = .ok (.iload_n 3, 1)) ∧ (decode cX2_change 40 = .ok (.iadd, 1)) ∧ (decode cX2_change 41 = .ok (.putfield 25, 3)) ∧ (decode cX2_change 44 = .ok (.return_, 1)) := by decide +kernel
theorem dX2_change_29 : decode cX2_change 29 = .ok (.dup2, 1) := bdX2_change_29.1
theorem dX2_change_30 : decode cX2_change 30 = .ok (.iaload, 1) := bdX2_change_29.2.1
theorem dX2_change_31 : decode cX2_change 31 = .ok (.iload_n 3, 1) := bdX2_change_29.2.2.1
theorem dX2_change_32 : decode cX2_change 32 = .ok (.iadd, 1) := bdX2_change_29.2.2.2.1
theorem dX2_change_33 : decode cX2_change 33 = .ok (.iastore, 1) := bdX2_change_29.2.2.2.2.1
theorem dX2_change_34 : decode cX2_change 34 = .ok (.aload_n 0, 1) := bdX2_change_29.2.2.2.2.2.1
theorem dX2_change_35 : decode cX2_change 35 = .ok (.dup, 1) := bdX2_change_29.2.2.2.2.2.2.1
theorem dX2_change_36 : decode cX2_change 36 = .ok (.getfield 25, 3) := bdX2_change_29.2.2.2.2.2.2.2.1
theorem dX2_change_39 : decode cX2_change 39 = .ok (.iload_n 3, 1) := bdX2_change_29.2.2.2.2.2.2.2.2.1
theorem dX2_change_40 : decode cX2_change 40 = .ok (.iadd, 1) := bdX2_change_29.2.2.2.2.2.2.2.2.2.1
theorem dX2_change_41 : decode cX2_change 41 = .ok (.putfield 25, 3) := bdX2_change_29.2.2.2.2.2.2.2.2.2.2.1
theorem dX2_change_44 : decode cX2_change 44 = .ok (.return_, 1) := bdX2_change_29.2.2.2.2.2.2.2.2.2.2.2
theorem bdX9_comeTo_0 : (decode cX9_comeTo 0 = .ok (.iload_n 1, 1)) ∧ (decode cX9_comeTo 1 = .ok (.iload_n 2, 1)) ∧ (decode cX9_comeTo 2 = .ok (.if_icmp .ne 17, 3)) ∧ (decode cX9_comeTo 5 = .ok (.aload_n 0, 1)) ∧ (decode cX9_comeTo 6 = .ok (.dup, 1)) ∧ (decode cX9_comeTo 7 = .ok (.getfield 83, 3)) ∧ (decode cX9_comeTo 10 = .ok (.iload 4, 2)) ∧ (decode cX9_comeTo 12 = .ok (.iadd, 1)) ∧ (decode cX9_comeTo 13 = .ok (.putfield 83, 3)) ∧ (decode cX9_comeTo 16 = .ok (.goto 24, 3)) ∧ (decode cX9_comeTo 19 = .ok (.aload_n 0, 1)) ∧ (decode cX9_comeTo 20 = .ok (.iload_n 1, 1)) ∧ (decode cX9_comeTo 21 = .ok (.invokevirtual 74, 3)) ∧ (decode cX9_comeTo 24 = .ok (.ifCond .eq 16, 3)) ∧ (decode cX9_comeTo 27 = .ok (.aload_n 0, 1)) ∧ (decode cX9_comeTo 28 = .ok (.getfield 11, 3)) := by decide +kernel
theorem dX9_comeTo_0 : decode cX9_comeTo 0 = .ok (.iload_n 1, 1) := bdX9_comeTo_0.1
theorem dX9_comeTo_1 : decode cX9_comeTo 1 = .ok (.iload_n 2, 1) := bdX9_comeTo_0.2.1
theorem dX9_comeTo_2 : decode cX9_comeTo 2 = .ok (.if_icmp .ne 17, 3) := bdX9_comeTo_0.2.2.1
theorem dX9_comeTo_5 : decode cX9_comeTo 5 = .ok (.aload_n 0, 1) := bdX9_comeTo_0.2.2.2.1
theorem dX9_comeTo_6 : decode cX9_comeTo 6 = .ok (.dup, 1) := bdX9_comeTo_0.2.2.2.2.1
theorem dX9_comeTo_7 : decode cX9_comeTo 7 = .ok (.getfield 83, 3) := bdX9_comeTo_0.2.2.2.2.2.1
theorem dX9_comeTo_10 : decode cX9_comeTo 10 = .ok (.iload 4, 2) := bdX9_comeTo_0.2.2.2.2.2.2.1
theorem dX9_comeTo_12 : decode cX9_comeTo 12 = .ok (.iadd, 1) := bdX9_comeTo_0.2.2.2.2.2.2.2.1
theorem dX9_comeTo_13 : decode cX9_comeTo 13 = .ok (.putfield 83, 3) := bdX9_comeTo_0.2.2.2.2.2.2.2.2.1
theorem dX9_comeTo_16 : decode cX9_comeTo 16 = .ok (.goto 24, 3) := bdX9_comeTo_0.2.2.2.2.2.2.2.2.2.1
theorem dX9_comeTo_19 : decode cX9_comeTo 19 = .ok (.aload_n 0, 1) := bdX9_comeTo_0.2.2.2.2.2.2.2.2.2.2.1
theorem dX9_comeTo_20 : decode cX9_comeTo 20 = .ok (.iload_n 1, 1) := bdX9_comeTo_0.2.2.2.2.2.2.2.2.2.2.2.1
theorem dX9_comeTo_21 : decode cX9_comeTo 21 = .ok (.invokevirtual 74, 3) := bdX9_comeTo_0.2.2.2.2.2.2.2.2.2.2.2.2.1
theorem dX9_comeTo_24 : decode cX9_comeTo 24 = .ok (.ifCond .eq 16, 3) := bdX9_comeTo_0.2.2.2.2.2.2.2.2.2.2.2.2.2.1
theorem dX9_comeTo_27 : decode cX9_comeTo 27 = .ok (.aload_n 0, 1) := bdX9_comeTo_0.2.2.2.2.2.2.2.2.2.2.2.2.2.2.1
theorem dX9_comeTo_28 : decode cX9_comeTo 28 = .ok (.getfield 11, 3) := bdX9_comeTo_0.2.2.2.2.2.2.2.2.2.2.2.2.2.2.2
theorem bdX9_comeTo_31 : (decode cX9_comeTo 31 = .ok (.iload_n 1, 1)) ∧ (decode cX9_comeTo 32 = .ok (.aaload, 1)) ∧ (decode cX9_comeTo 33 = .ok (.iload_n 2, 1)) ∧ (decode cX9_comeTo 34 = .ok (.iload_n 3, 1)) ∧ (decode cX9_comeTo 35 = .ok (.iload 4, 2)) ∧ (decode cX9_comeTo 37 = .ok (.invokevirtual 86, 3)) ∧ (decode cX9_comeTo 40 = .ok (.return_, 1)) := by decide +kernel
theorem dX9_comeTo_31 : decode cX9_comeTo 31 = .ok (.iload_n 1, 1) := bdX9_comeTo_31.1
theorem dX9_comeTo_32 : decode cX9_comeTo 32 = .ok (.aaload, 1) := bdX9_comeTo_31.2.1
theorem dX9_comeTo_33 : decode cX9_comeTo 33 = .ok (.iload_n 2, 1) := bdX9_comeTo_31.2.2.1
theorem dX9_comeTo_34 : decode cX9_comeTo 34 = .ok (.iload_n 3, 1) := bdX9_comeTo_31.2.2.2.1
theorem dX9_comeTo_35 : decode cX9_comeTo 35 = .ok (.iload 4, 2) := bdX9_comeTo_31.2.2.2.2.1
theorem dX9_comeTo_37 : decode cX9_comeTo 37 = .ok (.invokevirtual 86, 3) := bdX9_comeTo_31.2.2.2.2.2.1
theorem dX9_comeTo_40 : decode cX9_comeTo 40 = .ok (.return_, 1) := bdX9_comeTo_31.2.2.2.2.2.2
theorem bdX6_letIn_0 : (decode cX6_letIn 0 = .ok (.aload_n 1, 1)) ∧ (decode cX6_letIn 1 = .ok (.iload_n 2, 1)) ∧ (decode cX6_letIn 2 = .ok (.invokevirtual 69, 3)) ∧ (decode cX6_letIn 5 = .ok (.ifCond .ne 4, 3)) ∧ (decode cX6_letIn 8 = .ok (.return_, 1)) ∧ (decode cX6_letIn 9 = .ok (.aload_n 1, 1)) ∧ (decode cX6_letIn 10 = .ok (.getfield 96, 3)) ∧ (decode cX6_letIn 13 = .ok (.iload_n 2, 1)) ∧ (decode cX6_letIn 14 = .ok (.aaload, 1)) ∧ (decode cX6_letIn 15 = .ok (.astore_n 3, 1)) ∧ (decode cX6_letIn 16 = .ok (.iconst 0, 1)) ∧ (decode cX6_letIn 17 = .ok (.istore 4, 2)) ∧ (decode cX6_letIn 19 = .ok (.iload 4, 2)) ∧ (decode cX6_letIn 21 = .ok (.bipush 6, 2)) ∧ (decode cX6_letIn 23 = .ok (.if_icmp .ge 97, 3)) ∧ (decode cX6_letIn 26 = .ok (.iconst 0, 1)) := by decide +kernel
theorem dX6_letIn_0 : decode cX6_letIn 0 = .ok (.aload_n 1, 1) := bdX6_letIn_0.1
theorem dX6_letIn_1 : decode cX6_letIn 1 = .ok (.iload_n 2, 1) := bdX6_letIn_0.2.1
theorem dX6_letIn_2 : decode cX6_letIn 2 = .ok (.invokevirtual 69, 3) := bdX6_letIn_0.2.2.1
theorem dX6_letIn_5 : decode cX6_letIn 5 = .ok (.ifCond .ne 4, 3) := bdX6_letIn_0.2.2.2.1
theorem dX6_letIn_8 : decode cX6_letIn 8 = .ok (.return_, 1) := bdX6_letIn_0.2.2.2.2.1
theorem dX6_letIn_9 : decode cX6_letIn 9 = .ok (.aload_n 1, 1) := bdX6_letIn_0.2.2.2.2.2.1
theorem dX6_letIn_10 : decode cX6_letIn 10 = .ok (.getfield 96, 3) := bdX6_letIn_0.2.2.2.2.2.2.1
theorem dX6_letIn_13 : decode cX6_letIn 13 = .ok (.iload_n 2, 1) := bdX6_letIn_0.2.2.2.2.2.2.2.1
theorem dX6_letIn_14 : decode cX6_letIn 14 = .ok (.aaload, 1) := bdX6_letIn_0.2.2.2.2.2.2.2.2.1
theorem dX6_letIn_15 : decode cX6_letIn 15 = .ok (.astore_n 3, 1) := bdX6_letIn_0.2.2.2.2.2.2.2.2.2.1
theorem dX6_letIn_16 : decode cX6_letIn 16 = .ok (.iconst 0, 1) := bdX6_letIn_0.2.2.2.2.2.2.2.2.2.2.1
theorem dX6_letIn_17 : decode cX6_letIn 17 = .ok (.istore 4, 2) := bdX6_letIn_0.2.2.2.2.2.2.2.2.2.2.2.1
theorem dX6_letIn_19 : decode cX6_letIn 19 = .ok (.iload 4, 2) := bdX6_letIn_0.2.2.2.2.2.2.2.2.2.2.2.2.1
theorem dX6_letIn_21 : decode cX6_letIn 21 = .ok (.bipush 6, 2) := bdX6_letIn_0.2.2.2.2.2.2.2.2.2.2.2.2.2.1
theorem dX6_letIn_23 : decode cX6_letIn 23 = .ok (.if_icmp .ge 97, 3) := bdX6_letIn_0.2.2.2.2.2.2.2.2.2.2.2.2.2.2.1
theorem dX6_letIn_26 : decode cX6_letIn 26 = .ok (.iconst 0, 1) := bdX6_letIn_0.2.2.2.2.2.2.2.2.2.2.2.2.2.2.2
theorem bdX6_letIn_27 : (decode cX6_letIn 27 = .ok (.istore 5, 2)) ∧ (decode cX6_letIn 29 = .ok (.iload 5, 2)) ∧ (decode cX6_letIn 31 = .ok (.iconst 1, 1)) ∧ (decode cX6_letIn 32 = .ok (.if_icmp .gt 82, 3)) ∧ (decode cX6_letIn 35 = .ok (.aload_n 3, 1)) ∧ (decode cX6_letIn 36 = .ok (.getfield 109, 3)) ∧ (decode cX6_letIn 39 = .ok (.aload_n 3, 1)) ∧ (decode cX6_letIn 40 = .ok (.getfield 106, 3)) ∧ (decode cX6_letIn 43 = .ok (.isub, 1)) ∧ (decode cX6_letIn 44 = .ok (.istore 6, 2)) ∧ (decode cX6_letIn 46 = .ok (.aload_n 3, 1)) ∧ (decode cX6_letIn 47 = .ok (.getfield 132, 3)) ∧ (decode cX6_letIn 50 = .ok (.iload 5, 2)) ∧ (decode cX6_letIn 52 = .ok (.bipush 6, 2)) ∧ (decode cX6_letIn 54 = .ok (.imul, 1)) ∧ (decode cX6_letIn 55 = .ok (.iload 4, 2)) := by decide +kernel
theorem dX6_letIn_27 : decode cX6_letIn 27 = .ok (.istore 5, 2) := bdX6_letIn_27.1
theorem dX6_letIn_29 : decode cX6_letIn 29 = .ok (.iload 5, 2) := bdX6_letIn_27.2.1
theorem dX6_letIn_31 : decode cX6_letIn 31 = .ok (.iconst 1, 1) := bdX6_letIn_27.2.2.1
theorem dX6_letIn_32 : decode cX6_letIn 32 = .ok (.if_icmp .gt 82, 3) := bdX6_letIn_27.2.2.2.1
theorem dX6_letIn_35 : decode cX6_letIn 35 = .ok (.aload_n 3, 1) := bdX6_letIn_27.2.2.2.2.1
theorem dX6_letIn_36 : decode cX6_letIn 36 = .ok (.getfield 109, 3) := bdX6_letIn_27.2.2.2.2.2.1
theorem dX6_letIn_39 : decode cX6_letIn 39 = .ok (.aload_n 3, 1) := bdX6_letIn_27.2.2.2.2.2.2.1
theorem dX6_letIn_40 : decode cX6_letIn 40 = .ok (.getfield 106, 3) := bdX6_letIn_27.2.2.2.2.2.2.2.1
theorem dX6_letIn_43 : decode cX6_letIn 43 = .ok (.isub, 1) := bdX6_letIn_27.2.2.2.2.2.2.2.2.1
theorem dX6_letIn_44 : decode cX6_letIn 44 = .ok (.istore 6, 2) := bdX6_letIn_27.2.2.2.2.2.2.2.2.2.1
theorem dX6_letIn_46 : decode cX6_letIn 46 = .ok (.aload_n 3, 1) := bdX6_letIn_27.2.2.2.2.2.2.2.2.2.2.1
theorem dX6_letIn_47 : decode cX6_letIn 47 = .ok (.getfield 132, 3) := bdX6_letIn_27.2.2.2.2.2.2.2.2.2.2.2.1
theorem dX6_letIn_50 : decode cX6_letIn 50 = .ok (.iload 5, 2) := bdX6_letIn_27.2.2.2.2.2.2.2.2.2.2.2.2.1
theorem dX6_letIn_52 : decode cX6_letIn 52 = .ok (.bipush 6, 2) := bdX6_letIn_27.2.2.2.2.2.2.2.2.2.2.2.2.2.1
theorem dX6_letIn_54 : decode cX6_letIn 54 = .ok (.imul, 1) := bdX6_letIn_27.2.2.2.2.2.2.2.2.2.2.2.2.2.2.1
theorem dX6_letIn_55 : decode cX6_letIn 55 = .ok (.iload 4, 2) := bdX6_letIn_27.2.2.2.2.2.2.2.2.2.2.2.2.2.2.2
theorem bdX6_letIn_57 : (decode cX6_letIn 57 = .ok (.iadd, 1)) ∧ (decode cX6_letIn 58 = .ok (.iaload, 1)) ∧ (decode cX6_letIn 59 = .ok (.istore 7, 2)) ∧ (decode cX6_letIn 61 = .ok (.iload 4, 2)) ∧ (decode cX6_letIn 63 = .ok (.iload_n 2, 1)) ∧ (decode cX6_letIn 64 = .ok (.if_icmp .eq 12, 3)) ∧ (decode cX6_letIn 67 = .ok (.iload 7, 2)) ∧ (decode cX6_letIn 69 = .ok (.iload 6, 2)) ∧ (decode cX6_letIn 71 = .ok (.invokestatic 135, 3)) ∧ (decode cX6_letIn 74 = .ok (.istore 7, 2)) ∧ (decode cX6_letIn 76 = .ok (.iload 6, 2)) ∧ (decode cX6_letIn 78 = .ok (.ifCond .le 30, 3)) ∧ (decode cX6_letIn 81 = .ok (.iload 7, 2)) ∧ (decode cX6_letIn 83 = .ok (.ifCond .le 25, 3)) ∧ (decode cX6_letIn 86 = .ok (.aload_n 3, 1)) ∧ (decode cX6_letIn 87 = .ok (.iload 4, 2)) := by decide +kernel
theorem dX6_letIn_57 : decode cX6_letIn 57 = .ok (.iadd, 1) := bdX6_letIn_57.1
theorem dX6_letIn_58 : decode cX6_letIn 58 = .ok (.iaload, 1) := bdX6_letIn_57.2.1
theorem dX6_letIn_59 : decode cX6_letIn 59 = .ok (.istore 7, 2) := bdX6_letIn_57.2.2.1
theorem dX6_letIn_61 : decode cX6_letIn 61 = .ok (.iload 4, 2) := bdX6_letIn_57.2.2.2.1
theorem dX6_letIn_63 : decode cX6_letIn 63 = .ok (.iload_n 2, 1) := bdX6_letIn_57.2.2.2.2.1
theorem dX6_letIn_64 : decode cX6_letIn 64 = .ok (.if_icmp .eq 12, 3) := bdX6_letIn_57.2.2.2.2.2.1
theorem dX6_letIn_67 : decode cX6_letIn 67 = .ok (.iload 7, 2) := bdX6_letIn_57.2.2.2.2.2.2.1
theorem dX6_letIn_69 : decode cX6_letIn 69 = .ok (.iload 6, 2) := bdX6_letIn_57.2.2.2.2.2.2.2.1
theorem dX6_letIn_71 : decode cX6_letIn 71 = .ok (.invokestatic 135, 3) := bdX6_letIn_57.2.2.2.2.2.2.2.2.1
theorem dX6_letIn_74 : decode cX6_letIn 74 = .ok (.istore 7, 2) := bdX6_letIn_57.2.2.2.2.2.2.2.2.2.1
theorem dX6_letIn_76 : decode cX6_letIn 76 = .ok (.iload 6, 2) := bdX6_letIn_57.2.2.2.2.2.2.2.2.2.2.1
theorem dX6_letIn_78 : decode cX6_letIn 78 = .ok (.ifCond .le 30, 3) := bdX6_letIn_57.2.2.2.2.2.2.2.2.2.2.2.1
theorem dX6_letIn_81 : decode cX6_letIn 81 = .ok (.iload 7, 2) := bdX6_letIn_57.2.2.2.2.2.2.2.2.2.2.2.2.1
theorem dX6_letIn_83 : decode cX6_letIn 83 = .ok (.ifCond .le 25, 3) := bdX6_letIn_57.2.2.2.2.2.2.2.2.2.2.2.2.2.1
theorem dX6_letIn_86 : decode cX6_letIn 86 = .ok (.aload_n 3, 1) := bdX6_letIn_57.2.2.2.2.2.2.2.2.2.2.2.2.2.2.1
theorem dX6_letIn_87 : decode cX6_letIn 87 = .ok (.iload 4, 2) := bdX6_letIn_57.2.2.2.2.2.2.2.2.2.2.2.2.2.2.2
theorem bdX6_letIn_89 : (decode cX6_letIn 89 = .ok (.iload 5, 2)) ∧ (decode cX6_letIn 91 = .ok (.iload 7, 2)) ∧ (decode cX6_letIn 93 = .ok (.ineg, 1)) ∧ (decode cX6_letIn 94 = .ok (.invokevirtual 100, 3)) ∧ (decode cX6_letIn 97 = .ok (.aload_n 1, 1)) ∧ (decode cX6_letIn 98 = .ok (.iload_n 2, 1)) ∧ (decode cX6_letIn 99 = .ok (.iload 4, 2)) ∧ (decode cX6_letIn 101 = .ok (.iload 5, 2)) ∧ (decode cX6_letIn 103 = .ok (.iload 7, 2)) ∧ (decode cX6_letIn 105 = .ok (.invokevirtual 85, 3)) ∧ (decode cX6_letIn 108 = .ok (.iinc 5 1, 3)) ∧ (decode cX6_letIn 111 = .ok (.goto (-82), 3)) ∧ (decode cX6_letIn 114 = .ok (.iinc 4 1, 3)) ∧ (decode cX6_letIn 117 = .ok (.goto (-98), 3)) ∧ (decode cX6_letIn 120 = .ok (.return_, 1)) := by decide +kernel
theorem dX6_letIn_89 : decode cX6_letIn 89 = .ok (.iload 5, 2) := bdX6_letIn_89.1
theorem dX6_letIn_91 : decode cX6_letIn 91 = .ok (.iload 7, 2) := bdX6_letIn_89.2.1
theorem dX6_letIn_93 : decode cX6_letIn 93 = .ok (.ineg, 1) := bdX6_letIn_89.2.2.1
theorem dX6_letIn_94 : decode cX6_letIn 94 = .ok (.invokevirtual 100, 3) := bdX6_letIn_89.2.2.2.1
theorem dX6_letIn_97 : decode cX6_letIn 97 = .ok (.aload_n 1, 1) := bdX6_letIn_89.2.2.2.2.1
theorem dX6_letIn_98 : decode cX6_letIn 98 = .ok (.iload_n 2, 1) := bdX6_letIn_89.2.2.2.2.2.1
theorem dX6_letIn_99 : decode cX6_letIn 99 = .ok (.iload 4, 2) := bdX6_letIn_89.2.2.2.2.2.2.1
theorem dX6_letIn_101 : decode cX6_letIn 101 = .ok (.iload 5, 2) := bdX6_letIn_89.2.2.2.2.2.2.2.1
theorem dX6_letIn_103 : decode cX6_letIn 103 = .ok (.iload 7, 2) := bdX6_letIn_89.2.2.2.2.2.2.2.2.1
theorem dX6_letIn_105 : decode cX6_letIn 105 = .ok (.invokevirtual 85, 3) := bdX6_letIn_89.2.2.2.2.2.2.2.2.2.1
theorem dX6_letIn_108 : decode cX6_letIn 108 = .ok (.iinc 5 1, 3) := bdX6_letIn_89.2.2.2.2.2.2.2.2.2.2.1
theorem dX6_letIn_111 : decode cX6_letIn 111 = .ok (.goto (-82), 3) := bdX6_letIn_89.2.2.2.2.2.2.2.2.2.2.2.1
theorem dX6_letIn_114 : decode cX6_letIn 114 = .ok (.iinc 4 1, 3) := bdX6_letIn_89.2.2.2.2.2.2.2.2.2.2.2.2.1
theorem dX6_letIn_117 : decode cX6_letIn 117 = .ok (.goto (-98), 3) := bdX6_letIn_89.2.2.2.2.2.2.2.2.2.2.2.2.2.1
theorem dX6_letIn_120 : decode cX6_letIn 120 = .ok (.return_, 1) := bdX6_letIn_89.2.2.2.2.2.2.2.2.2.2.2.2.2.2
theorem bdX10_joined_0 : (decode cX10_joined 0 = .ok (.iload_n 0, 1)) ∧ (decode cX10_joined 1 = .ok (.tableswitch 237 3 24 #[129, 141, 153, 165, 177, 189, 103, 107, 111, 115, 237, 237, 237, 237, 237, 237, 237, 237, 237, 237, 219, 201], 103)) ∧ (decode cX10_joined 104 = .ok (.lload_n 1, 1)) ∧ (decode cX10_joined 105 = .ok (.lload_n 3, 1)) ∧ (decode cX10_joined 106 = .ok (.ladd, 1)) ∧ (decode cX10_joined 107 = .ok (.lreturn, 1)) ∧ (decode cX10_joined 108 = .ok (.lload_n 1, 1)) ∧ (decode cX10_joined 109 = .ok (.lload_n 3, 1)) ∧ (decode cX10_joined 110 = .ok (.lsub, 1)) ∧ (decode cX10_joined 111 = .ok (.lreturn, 1)) ∧ (decode cX10_joined 112 = .ok (.lload_n 1, 1)) ∧ (decode cX10_joined 113 = .ok (.lload_n 3, 1)) ∧ (decode cX10_joined 114 = .ok (.lmul, 1)) ∧ (decode cX10_joined 115 = .ok (.lreturn, 1)) ∧ (decode cX10_joined 116 = .ok (.lload_n 3, 1)) ∧ (decode cX10_joined 117 = .ok (.lconst 0, 1)) := by decide +kernel
theorem dX10_joined_0 : decode cX10_joined 0 = .ok (.iload_n 0, 1) := bdX10_joined_0.1
theorem dX10_joined_1 : decode cX10_joined 1 = .ok (.tableswitch 237 3 24 #[129, 141, 153, 165, 177, 189, 103, 107, 111, 115, 237, 237, 237, 237, 237, 237, 237, 237, 237, 237, 219, 201], 103) := bdX10_joined_0.2.1
theorem dX10_joined_104 : decode cX10_joined 104 = .ok (.lload_n 1, 1) := bdX10_joined_0.2.2.1
theorem dX10_joined_105 : decode cX10_joined 105 = .ok (.lload_n 3, 1) := bdX10_joined_0.2.2.2.1
theorem dX10_joined_106 : decode cX10_joined 106 = .ok (.ladd, 1) := bdX10_joined_0.2.2.2.2.1
theorem dX10_joined_107 : decode cX10_joined 107 = .ok (.lreturn, 1) := bdX10_joined_0.2.2.2.2.2.1
theorem dX10_joined_108 : decode cX10_joined 108 = .ok (.lload_n 1, 1) := bdX10_joined_0.2.2.2.2.2.2.1
theorem dX10_joined_109 : decode cX10_joined 109 = .ok (.lload_n 3, 1) := bdX10_joined_0.2.2.2.2.2.2.2.1
theorem dX10_joined_110 : decode cX10_joined 110 = .ok (.lsub, 1) := bdX10_joined_0.2.2.2.2.2.2.2.2.1
theorem dX10_joined_111 : decode cX10_joined 111 = .ok (.lreturn, 1) := bdX10_joined_0.2.2.2.2.2.2.2.2.2.1
theorem dX10_joined_112 : decode cX10_joined 112 = .ok (.lload_n 1, 1) := bdX10_joined_0.2.2.2.2.2.2.2.2.2.2.1
theorem dX10_joined_113 : decode cX10_joined 113 = .ok (.lload_n 3, 1) := bdX10_joined_0.2.2.2.2.2.2.2.2.2.2.2.1
theorem dX10_joined_114 : decode cX10_joined 114 = .ok (.lmul, 1) := bdX10_joined_0.2.2.2.2.2.2.2.2.2.2.2.2.1
theorem dX10_joined_115 : decode cX10_joined 115 = .ok (.lreturn, 1) := bdX10_joined_0.2.2.2.2.2.2.2.2.2.2.2.2.2.1
theorem dX10_joined_116 : decode cX10_joined 116 = .ok (.lload_n 3, 1) := bdX10_joined_0.2.2.2.2.2.2.2.2.2.2.2.2.2.2.1
theorem dX10_joined_117 : decode cX10_joined 117 = .ok (.lconst 0, 1) := bdX10_joined_0.2.2.2.2.2.2.2.2.2.2.2.2.2.2.2
theorem bdX10_joined_118 : (decode cX10_joined 118 = .ok (.lcmp, 1)) ∧ (decode cX10_joined 119 = .ok (.ifCond .ne 7, 3)) ∧ (decode cX10_joined 122 = .ok (.lconst 0, 1)) ∧ (decode cX10_joined 123 = .ok (.goto 6, 3)) ∧ (decode cX10_joined 126 = .ok (.lload_n 1, 1)) ∧ (decode cX10_joined 127 = .ok (.lload_n 3, 1)) ∧ (decode cX10_joined 128 = .ok (.ldiv, 1)) ∧ (decode cX10_joined 129 = .ok (.lreturn, 1)) ∧ (decode cX10_joined 130 = .ok (.lload_n 1, 1)) ∧ (decode cX10_joined 131 = .ok (.lload_n 3, 1)) ∧ (decode cX10_joined 132 = .ok (.lcmp, 1)) ∧ (decode cX10_joined 133 = .ok (.ifCond .ge 7, 3)) ∧ (decode cX10_joined 136 = .ok (.lconst 1, 1)) ∧ (decode cX10_joined 137 = .ok (.goto 4, 3)) ∧ (decode cX10_joined 140 = .ok (.lconst 0, 1)) ∧ (decode cX10_joined 141 = .ok (.lreturn, 1)) := by decide +kernel
theorem dX10_joined_118 : decode cX10_joined 118 = .ok (.lcmp, 1) := bdX10_joined_118.1
theorem dX10_joined_119 : decode cX10_joined 119 = .ok (.ifCond .ne 7, 3) := bdX10_joined_118.2.1
theorem dX10_joined_122 : decode cX10_joined 122 = .ok (.lconst 0, 1) := bdX10_joined_118.2.2.1
theorem dX10_joined_123 : decode cX10_joined 123 = .ok (.goto 6, 3) := bdX10_joined_118.2.2.2.1
theorem dX10_joined_126 : decode cX10_joined 126 = .ok (.lload_n 1, 1) := bdX10_joined_118.2.2.2.2.1
theorem dX10_joined_127 : decode cX10_joined 127 = .ok (.lload_n 3, 1) := bdX10_joined_118.2.2.2.2.2.1
theorem dX10_joined_128 : decode cX10_joined 128 = .ok (.ldiv, 1) := bdX10_joined_118.2.2.2.2.2.2.1
theorem dX10_joined_129 : decode cX10_joined 129 = .ok (.lreturn, 1) := bdX10_joined_118.2.2.2.2.2.2.2.1
theorem dX10_joined_130 : decode cX10_joined 130 = .ok (.lload_n 1, 1) := bdX10_joined_118.2.2.2.2.2.2.2.2.1
theorem dX10_joined_131 : decode cX10_joined 131 = .ok (.lload_n 3, 1) := bdX10_joined_118.2.2.2.2.2.2.2.2.2.1
theorem dX10_joined_132 : decode cX10_joined 132 = .ok (.lcmp, 1) := bdX10_joined_118.2.2.2.2.2.2.2.2.2.2.1
theorem dX10_joined_133 : decode cX10_joined 133 = .ok (.ifCond .ge 7, 3) := bdX10_joined_118.2.2.2.2.2.2.2.2.2.2.2.1
theorem dX10_joined_136 : decode cX10_joined 136 = .ok (.lconst 1, 1) := bdX10_joined_118.2.2.2.2.2.2.2.2.2.2.2.2.1
theorem dX10_joined_137 : decode cX10_joined 137 = .ok (.goto 4, 3) := bdX10_joined_118.2.2.2.2.2.2.2.2.2.2.2.2.2.1
theorem dX10_joined_140 : decode cX10_joined 140 = .ok (.lconst 0, 1) := bdX10_joined_118.2.2.2.2.2.2.2.2.2.2.2.2.2.2.1
theorem dX10_joined_141 : decode cX10_joined 141 = .ok (.lreturn, 1) := bdX10_joined_118.2.2.2.2.2.2.2.2.2.2.2.2.2.2.2
theorem bdX10_joined_142 : (decode cX10_joined 142 = .ok (.lload_n 1, 1)) ∧ (decode cX10_joined 143 = .ok (.lload_n 3, 1)) ∧ (decode cX10_joined 144 = .ok (.lcmp, 1)) ∧ (decode cX10_joined 145 = .ok (.ifCond .gt 7, 3)) ∧ (decode cX10_joined 148 = .ok (.lconst 1, 1)) ∧ (decode cX10_joined 149 = .ok (.goto 4, 3)) ∧ (decode cX10_joined 152 = .ok (.lconst 0, 1)) ∧ (decode cX10_joined 153 = .ok (.lreturn, 1)) ∧ (decode cX10_joined 154 = .ok (.lload_n 1, 1)) ∧ (decode cX10_joined 155 = .ok (.lload_n 3, 1)) ∧ (decode cX10_joined 156 = .ok (.lcmp, 1)) ∧ (decode cX10_joined 157 = .ok (.ifCond .le 7, 3)) ∧ (decode cX10_joined 160 = .ok (.lconst 1, 1)) ∧ (decode cX10_joined 161 = .ok (.goto 4, 3)) ∧ (decode cX10_joined 164 = .ok (.lconst 0, 1)) ∧ (decode cX10_joined 165 = .ok (.lreturn, 1)) := by decide +kernel
theorem dX10_joined_142 : decode cX10_joined 142 = .ok (.lload_n 1, 1) := bdX10_joined_142.1
theorem dX10_joined_143 : decode cX10_joined 143 = .ok (.lload_n 3, 1) := bdX10_joined_142.2.1
theorem dX10_joined_144 : decode cX10_joined 144 = .ok (.lcmp, 1) := bdX10_joined_142.2.2.1
theorem dX10_joined_145 : decode cX10_joined 145 = .ok (.ifCond .gt 7, 3) := bdX10_joined_142.2.2.2.1
theorem dX10_joined_148 : decode cX10_joined 148 = .ok (.lconst 1, 1) := bdX10_joined_142.2.2.2.2.1
theorem dX10_joined_149 : decode cX10_joined 149 = .ok (.goto 4, 3) := bdX10_joined_142.2.2.2.2.2.1
theorem dX10_joined_152 : decode cX10_joined 152 = .ok (.lconst 0, 1) := bdX10_joined_142.2.2.2.2.2.2.1
theorem dX10_joined_153 : decode cX10_joined 153 = .ok (.lreturn, 1) := bdX10_joined_142.2.2.2.2.2.2.2.1
theorem dX10_joined_154 : decode cX10_joined 154 = .ok (.lload_n 1, 1) := bdX10_joined_142.2.2.2.2.2.2.2.2.1
theorem dX10_joined_155 : decode cX10_joined 155 = .ok (.lload_n 3, 1) := bdX10_joined_142.2.2.2.2.2.2.2.2.2.1
theorem dX10_joined_156 : decode cX10_joined 156 = .ok (.lcmp, 1) := bdX10_joined_142.2.2.2.2.2.2.2.2.2.2.1
theorem dX10_joined_157 : decode cX10_joined 157 = .ok (.ifCond .le 7, 3) := bdX10_joined_142.2.2.2.2.2.2.2.2.2.2.2.1
theorem dX10_joined_160 : decode cX10_joined 160 = .ok (.lconst 1, 1) := bdX10_joined_142.2.2.2.2.2.2.2.2.2.2.2.2.1
theorem dX10_joined_161 : decode cX10_joined 161 = .ok (.goto 4, 3) := bdX10_joined_142.2.2.2.2.2.2.2.2.2.2.2.2.2.1
theorem dX10_joined_164 : decode cX10_joined 164 = .ok (.lconst 0, 1) := bdX10_joined_142.2.2.2.2.2.2.2.2.2.2.2.2.2.2.1
theorem dX10_joined_165 : decode cX10_joined 165 = .ok (.lreturn, 1) := bdX10_joined_142.2.2.2.2.2.2.2.2.2.2.2.2.2.2.2
theorem bdX10_joined_166 : (decode cX10_joined 166 = .ok (.lload_n 1, 1)) ∧ (decode cX10_joined 167 = .ok (.lload_n 3, 1)) ∧ (decode cX10_joined 168 = .ok (.lcmp, 1)) ∧ (decode cX10_joined 169 = .ok (.ifCond .lt 7, 3)) ∧ (decode cX10_joined 172 = .ok (.lconst 1, 1)) ∧ (decode cX10_joined 173 = .ok (.goto 4, 3)) ∧ (decode cX10_joined 176 = .ok (.lconst 0, 1)) ∧ (decode cX10_joined 177 = .ok (.lreturn, 1)) ∧ (decode cX10_joined 178 = .ok (.lload_n 1, 1)) ∧ (decode cX10_joined 179 = .ok (.lload_n 3, 1)) ∧ (decode cX10_joined 180 = .ok (.lcmp, 1)) ∧ (decode cX10_joined 181 = .ok (.ifCond .ne 7, 3)) ∧ (decode cX10_joined 184 = .ok (.lconst 1, 1)) ∧ (decode cX10_joined 185 = .ok (.goto 4, 3)) ∧ (decode cX10_joined 188 = .ok (.lconst 0, 1)) ∧ (decode cX10_joined 189 = .ok (.lreturn, 1)) := by decide +kernel
theorem dX10_joined_166 : decode cX10_joined 166 = .ok (.lload_n 1, 1) := bdX10_joined_166.1
theorem dX10_joined_167 : decode cX10_joined 167 = .ok (.lload_n 3, 1) := bdX10_joined_166.2.1
theorem dX10_joined_168 : decode cX10_joined 168 = .ok (.lcmp, 1) := bdX10_joined_166.2.2.1
theorem dX10_joined_169 : decode cX10_joined 169 = .ok (.ifCond .lt 7, 3) := bdX10_joined_166.2.2.2.1
theorem dX10_joined_172 : decode cX10_joined 172 = .ok (.lconst 1, 1) := bdX10_joined_166.2.2.2.2.1
theorem dX10_joined_173 : decode cX10_joined 173 = .ok (.goto 4, 3) := bdX10_joined_166.2.2.2.2.2.1
theorem dX10_joined_176 : decode cX10_joined 176 = .ok (.lconst 0, 1) := bdX10_joined_166.2.2.2.2.2.2.1
theorem dX10_joined_177 : decode cX10_joined 177 = .ok (.lreturn, 1) := bdX10_joined_166.2.2.2.2.2.2.2.1
theorem dX10_joined_178 : decode cX10_joined 178 = .ok (.lload_n 1, 1) := bdX10_joined_166.2.2.2.2.2.2.2.2.1
theorem dX10_joined_179 : decode cX10_joined 179 = .ok (.lload_n 3, 1) := bdX10_joined_166.2.2.2.2.2.2.2.2.2.1
theorem dX10_joined_180 : decode cX10_joined 180 = .ok (.lcmp, 1) := bdX10_joined_166.2.2.2.2.2.2.2.2.2.2.1
theorem dX10_joined_181 : decode cX10_joined 181 = .ok (.ifCond .ne 7, 3) := bdX10_joined_166.2.2.2.2.2.2.2.2.2.2.2.1
theorem dX10_joined_184 : decode cX10_joined 184 = .ok (.lconst 1, 1) := bdX10_joined_166.2.2.2.2.2.2.2.2.2.2.2.2.1
theorem dX10_joined_185 : decode cX10_joined 185 = .ok (.goto 4, 3) := bdX10_joined_166.2.2.2.2.2.2.2.2.2.2.2.2.2.1
theorem dX10_joined_188 : decode cX10_joined 188 = .ok (.lconst 0, 1) := bdX10_joined_166.2.2.2.2.2.2.2.2.2.2.2.2.2.2.1
theorem dX10_joined_189 : decode cX10_joined 189 = .ok (.lreturn, 1) := bdX10_joined_166.2.2.2.2.2.2.2.2.2.2.2.2.2.2.2
theorem bdX10_joined_190 : (decode cX10_joined 190 = .ok (.lload_n 1, 1)) ∧ (decode cX10_joined 191 = .ok (.lload_n 3, 1)) ∧ (decode cX10_joined 192 = .ok (.lcmp, 1)) ∧ (decode cX10_joined 193 = .ok (.ifCond .eq 7, 3)) ∧ (decode cX10_joined 196 = .ok (.lconst 1, 1)) ∧ (decode cX10_joined 197 = .ok (.goto 4, 3)) ∧ (decode cX10_joined 200 = .ok (.lconst 0, 1)) ∧ (decode cX10_joined 201 = .ok (.lreturn, 1)) ∧ (decode cX10_joined 202 = .ok (.lload_n 1, 1)) ∧ (decode cX10_joined 203 = .ok (.lconst 0, 1)) ∧ (decode cX10_joined 204 = .ok (.lcmp, 1)) ∧ (decode cX10_joined 205 = .ok (.ifCond .eq 13, 3)) ∧ (decode cX10_joined 208 = .ok (.lload_n 3, 1)) ∧ (decode cX10_joined 209 = .ok (.lconst 0, 1)) ∧ (decode cX10_joined 210 = .ok (.lcmp, 1)) ∧ (decode cX10_joined 211 = .ok (.ifCond .eq 7, 3)) := by decide +kernel
theorem dX10_joined_190 : decode cX10_joined 190 = .ok (.lload_n 1, 1) := bdX10_joined_190.1
theorem dX10_joined_191 : decode cX10_joined 191 = .ok (.lload_n 3, 1) := bdX10_joined_190.2.1
theorem dX10_joined_192 : decode cX10_joined 192 = .ok (.lcmp, 1) := bdX10_joined_190.2.2.1
theorem dX10_joined_193 : decode cX10_joined 193 = .ok (.ifCond .eq 7, 3) := bdX10_joined_190.2.2.2.1
theorem dX10_joined_196 : decode cX10_joined 196 = .ok (.lconst 1, 1) := bdX10_joined_190.2.2.2.2.1
theorem dX10_joined_197 : decode cX10_joined 197 = .ok (.goto 4, 3) := bdX10_joined_190.2.2.2.2.2.1
theorem dX10_joined_200 : decode cX10_joined 200 = .ok (.lconst 0, 1) := bdX10_joined_190.2.2.2.2.2.2.1
theorem dX10_joined_201 : decode cX10_joined 201 = .ok (.lreturn, 1) := bdX10_joined_190.2.2.2.2.2.2.2.1
theorem dX10_joined_202 : decode cX10_joined 202 = .ok (.lload_n 1, 1) := bdX10_joined_190.2.2.2.2.2.2.2.2.1
theorem dX10_joined_203 : decode cX10_joined 203 = .ok (.lconst 0, 1) := bdX10_joined_190.2.2.2.2.2.2.2.2.2.1
theorem dX10_joined_204 : decode cX10_joined 204 = .ok (.lcmp, 1) := bdX10_joined_190.2.2.2.2.2.2.2.2.2.2.1
theorem dX10_joined_205 : decode cX10_joined 205 = .ok (.ifCond .eq 13, 3) := bdX10_joined_190.2.2.2.2.2.2.2.2.2.2.2.1
theorem dX10_joined_208 : decode cX10_joined 208 = .ok (.lload_n 3, 1) := bdX10_joined_190.2.2.2.2.2.2.2.2.2.2.2.2.1
theorem dX10_joined_209 : decode cX10_joined 209 = .ok (.lconst 0, 1) := bdX10_joined_190.2.2.2.2.2.2.2.2.2.2.2.2.2.1
theorem dX10_joined_210 : decode cX10_joined 210 = .ok (.lcmp, 1) := bdX10_joined_190.2.2.2.2.2.2.2.2.2.2.2.2.2.2.1
theorem dX10_joined_211 : decode cX10_joined 211 = .ok (.ifCond .eq 7, 3) := bdX10_joined_190.2.2.2.2.2.2.2.2.2.2.2.2.2.2.2
theorem bdX10_joined_214 : (decode cX10_joined 214 = .ok (.lconst 1, 1)) ∧ (decode cX10_joined 215 = .ok (.goto 4, 3)) ∧ (decode cX10_joined 218 = .ok (.lconst 0, 1)) ∧ (decode cX10_joined 219 = .ok (.lreturn, 1)) ∧ (decode cX10_joined 220 = .ok (.lload_n 1, 1)) ∧ (decode cX10_joined 221 = .ok (.lconst 0, 1)) ∧ (decode cX10_joined 222 = .ok (.lcmp, 1)) ∧ (decode cX10_joined 223 = .ok (.ifCond .ne 9, 3)) ∧ (decode cX10_joined 226 = .ok (.lload_n 3, 1)) ∧ (decode cX10_joined 227 = .ok (.lconst 0, 1)) ∧ (decode cX10_joined 228 = .ok (.lcmp, 1)) ∧ (decode cX10_joined 229 = .ok (.ifCond .eq 7, 3)) ∧ (decode cX10_joined 232 = .ok (.lconst 1, 1)) ∧ (decode cX10_joined 233 = .ok (.goto 4, 3)) ∧ (decode cX10_joined 236 = .ok (.lconst 0, 1)) ∧ (decode cX10_joined 237 = .ok (.lreturn, 1)) := by decide +kernel
theorem dX10_joined_214 : decode cX10_joined 214 = .ok (.lconst 1, 1) := bdX10_joined_214.1
theorem dX10_joined_215 : decode cX10_joined 215 = .ok (.goto 4, 3) := bdX10_joined_214.2.1
theorem dX10_joined_218 : decode cX10_joined 218 = .ok (.lconst 0, 1) := bdX10_joined_214.2.2.1
theorem dX10_joined_219 : decode cX10_joined 219 = .ok (.lreturn, 1) := bdX10_joined_214.2.2.2.1
theorem dX10_joined_220 : decode cX10_joined 220 = .ok (.lload_n 1, 1) := bdX10_joined_214.2.2.2.2.1
theorem dX10_joined_221 : decode cX10_joined 221 = .ok (.lconst 0, 1) := bdX10_joined_214.2.2.2.2.2.1
theorem dX10_joined_222 : decode cX10_joined 222 = .ok (.lcmp, 1) := bdX10_joined_214.2.2.2.2.2.2.1
theorem dX10_joined_223 : decode cX10_joined 223 = .ok (.ifCond .ne 9, 3) := bdX10_joined_214.2.2.2.2.2.2.2.1
theorem dX10_joined_226 : decode cX10_joined 226 = .ok (.lload_n 3, 1) := bdX10_joined_214.2.2.2.2.2.2.2.2.1
theorem dX10_joined_227 : decode cX10_joined 227 = .ok (.lconst 0, 1) := bdX10_joined_214.2.2.2.2.2.2.2.2.2.1
theorem dX10_joined_228 : decode cX10_joined 228 = .ok (.lcmp, 1) := bdX10_joined_214.2.2.2.2.2.2.2.2.2.2.1
theorem dX10_joined_229 : decode cX10_joined 229 = .ok (.ifCond .eq 7, 3) := bdX10_joined_214.2.2.2.2.2.2.2.2.2.2.2.1
theorem dX10_joined_232 : decode cX10_joined 232 = .ok (.lconst 1, 1) := bdX10_joined_214.2.2.2.2.2.2.2.2.2.2.2.2.1
theorem dX10_joined_233 : decode cX10_joined 233 = .ok (.goto 4, 3) := bdX10_joined_214.2.2.2.2.2.2.2.2.2.2.2.2.2.1
theorem dX10_joined_236 : decode cX10_joined 236 = .ok (.lconst 0, 1) := bdX10_joined_214.2.2.2.2.2.2.2.2.2.2.2.2.2.2.1
theorem dX10_joined_237 : decode cX10_joined 237 = .ok (.lreturn, 1) := bdX10_joined_214.2.2.2.2.2.2.2.2.2.2.2.2.2.2.2
theorem dX10_joined_238 : decode cX10_joined 238 = .ok (.lconst 0, 1) := by decide +kernel
theorem dX10_joined_239 : decode cX10_joined 239 = .ok (.lreturn, 1) := by decide +kernel
def fX11_fault_28 (a0 : Nat) (a1 : Int32) (s0 : Int32) (m : xMem) : Option (Int32 × xMem) := some (s0, m)
set_option maxRecDepth 4000 in
theorem fX11_fault_28_ok {a0 : Nat} {a1 : Int32} {d : Nat} (hd : 0 ≤ d) (ha0 : isMS a0) {s0 : Int32} {m : xMem} {r : (Int32 × xMem)} (h : fX11_fault_28 a0 a1 s0 m = some r) : xFx hh_111 cX11_fault d 28 [some (.ref a0), some (.int a1)] [.int s0] (xLay m) 0 0 (some (.int r.1)) (xLay r.2) := by
  unfold fX11_fault_28 at h
  cases h
  exact fx_ireturn dX11_fault_28 rfl rfl
def fX11_fault_0 (a0 : Nat) (a1 : Int32) (m : xMem) : Option (Int32 × xMem) := if ¬ a1 = (0 : Int32) then if ¬ a1 = (1 : Int32) then fX11_fault_28 a0 a1 (-1 : Int32) m else xLet (m.1 (a0 + 255) 6) fun x3 => fX11_fault_28 a0 a1 x3 m else xLet (m.1 (a0 + 255) 5) fun x4 => some (x4, m)
set_option maxRecDepth 4000 in
theorem fX11_fault_0_ok {a0 : Nat} {a1 : Int32} {d : Nat} (hd : 0 ≤ d) (ha0 : isMS a0) {m : xMem} {r : (Int32 × xMem)} (h : fX11_fault_0 a0 a1 m = some r) : xFx hh_111 cX11_fault d 0 [some (.ref a0), some (.int a1)] [] (xLay m) 0 0 (some (.int r.1)) (xLay r.2) := by
  unfold fX11_fault_0 at h
  refine fx_iload_n dX11_fault_0 rfl rfl ?_
  refine fx_if_ne (t := 12) dX11_fault_1 rfl rfl (fun hc1 => ?_) (fun hc1 => ?_)
  · rw [if_pos hc1] at h
    refine fx_iload_n dX11_fault_12 rfl rfl ?_
    refine fx_iconst (x := 1) dX11_fault_13 rfl (by decide) ?_
    refine fx_icmp_ne (t := 27) dX11_fault_14 rfl rfl (fun hc2 => ?_) (fun hc2 => ?_)
    · rw [if_pos hc2] at h
      refine fx_iconst (x := -1) dX11_fault_27 rfl (by decide) ?_
      exact fX11_fault_28_ok hd ha0 h
    · rw [if_neg hc2] at h
      refine fx_aload_n dX11_fault_17 rfl rfl ?_
      refine gx_getr dX11_fault_18 rfl fd_11_32 ha0.1 rfl rfl ?_
      obtain ⟨x3, hx3, h⟩ := xLet_el h
      refine gx_get dX11_fault_21 rfl fd_11_153 ha0.2.2.2.2.2.1.1 rfl rfl hx3 ?_
      refine fx_goto (t := 28) dX11_fault_24 rfl rfl ?_
      exact fX11_fault_28_ok hd ha0 h
  · rw [if_neg hc1] at h
    refine fx_aload_n dX11_fault_4 rfl rfl ?_
    refine gx_getr dX11_fault_5 rfl fd_11_32 ha0.1 rfl rfl ?_
    obtain ⟨x4, hx4, h⟩ := xLet_el h
    refine gx_get dX11_fault_8 rfl fd_11_150 ha0.2.2.2.2.2.1.1 rfl rfl hx4 ?_
    cases h
    exact fx_ireturn dX11_fault_11 rfl rfl
def fX11_fault (a0 : Nat) (a1 : Int32) (m : xMem) : Option (Int32 × xMem) := fX11_fault_0 a0 a1  m
theorem fX11_fault_ok {a0 : Nat} {a1 : Int32} {m : xMem} {r : (Int32 × xMem)} {d : Nat} (hd : 1 ≤ d) (ha0 : isMS a0) (h : fX11_fault a0 a1 m = some r) : xEx d 111 [.ref a0, .int a1] (xLay m) (some (.int r.1)) (xLay r.2) := by
  obtain ⟨d, rfl⟩ : ∃ q, d = q + 1 := ⟨d - 1, by omega⟩
  exact xEx_of me_111 rfl (fX11_fault_0_ok (d := d) (by omega) ha0 h)
def fX12_fault_24 (a0 : Nat) (a1 : Int32) (s0 : Int32) (m : xMem) : Option (Int32 × xMem) := some (s0, m)
set_option maxRecDepth 4000 in
theorem fX12_fault_24_ok {a0 : Nat} {a1 : Int32} {d : Nat} (hd : 0 ≤ d) (ha0 : isModel a0) {s0 : Int32} {m : xMem} {r : (Int32 × xMem)} (h : fX12_fault_24 a0 a1 s0 m = some r) : xFx hh_112 cX12_fault d 24 [some (.ref a0), some (.int a1)] [.int s0] (xLay m) 0 0 (some (.int r.1)) (xLay r.2) := by
  unfold fX12_fault_24 at h
  cases h
  exact fx_ireturn dX12_fault_24 rfl rfl
def fX12_fault_0 (a0 : Nat) (a1 : Int32) (m : xMem) : Option (Int32 × xMem) := if ¬ a1 = (0 : Int32) then if ¬ a1 = (1 : Int32) then fX12_fault_24 a0 a1 (-1 : Int32) m else xLet (m.1 a0 6) fun x3 => fX12_fault_24 a0 a1 x3 m else xLet (m.1 a0 5) fun x4 => fX12_fault_24 a0 a1 x4 m
set_option maxRecDepth 4000 in
theorem fX12_fault_0_ok {a0 : Nat} {a1 : Int32} {d : Nat} (hd : 0 ≤ d) (ha0 : isModel a0) {m : xMem} {r : (Int32 × xMem)} (h : fX12_fault_0 a0 a1 m = some r) : xFx hh_112 cX12_fault d 0 [some (.ref a0), some (.int a1)] [] (xLay m) 0 0 (some (.int r.1)) (xLay r.2) := by
  unfold fX12_fault_0 at h
  refine fx_iload_n dX12_fault_0 rfl rfl ?_
  refine fx_if_ne (t := 11) dX12_fault_1 rfl rfl (fun hc1 => ?_) (fun hc1 => ?_)
  · rw [if_pos hc1] at h
    refine fx_iload_n dX12_fault_11 rfl rfl ?_
    refine fx_iconst (x := 1) dX12_fault_12 rfl (by decide) ?_
    refine fx_icmp_ne (t := 23) dX12_fault_13 rfl rfl (fun hc2 => ?_) (fun hc2 => ?_)
    · rw [if_pos hc2] at h
      refine fx_iconst (x := -1) dX12_fault_23 rfl (by decide) ?_
      exact fX12_fault_24_ok hd ha0 h
    · rw [if_neg hc2] at h
      refine fx_aload_n dX12_fault_16 rfl rfl ?_
      obtain ⟨x3, hx3, h⟩ := xLet_el h
      refine gx_get dX12_fault_17 rfl fd_12_27 ha0.1 rfl rfl hx3 ?_
      refine fx_goto (t := 24) dX12_fault_20 rfl rfl ?_
      exact fX12_fault_24_ok hd ha0 h
  · rw [if_neg hc1] at h
    refine fx_aload_n dX12_fault_4 rfl rfl ?_
    obtain ⟨x4, hx4, h⟩ := xLet_el h
    refine gx_get dX12_fault_5 rfl fd_12_23 ha0.1 rfl rfl hx4 ?_
    refine fx_goto (t := 24) dX12_fault_8 rfl rfl ?_
    exact fX12_fault_24_ok hd ha0 h
def fX12_fault (a0 : Nat) (a1 : Int32) (m : xMem) : Option (Int32 × xMem) := fX12_fault_0 a0 a1  m
theorem fX12_fault_ok {a0 : Nat} {a1 : Int32} {m : xMem} {r : (Int32 × xMem)} {d : Nat} (hd : 1 ≤ d) (ha0 : isModel a0) (h : fX12_fault a0 a1 m = some r) : xEx d 112 [.ref a0, .int a1] (xLay m) (some (.int r.1)) (xLay r.2) := by
  obtain ⟨d, rfl⟩ : ∃ q, d = q + 1 := ⟨d - 1, by omega⟩
  exact xEx_of me_112 rfl (fX12_fault_0_ok (d := d) (by omega) ha0 h)
def fX11_by_0 (a0 : Nat) (a1 : Int32) (m : xMem) : Option (Int32 × xMem) := xLet (m.1 (a0 + 1) 10) fun x1 => xLet (x1 - (1 : Int32)) fun x2 => (fX11_within a1 (-1 : Int32) x2 m).bind fun p3 => if ¬ p3.1 = (0 : Int32) then xLet (xPut p3.2 (a0 + 1) 11 a1) fun m5 => some ((1 : Int32), m5) else some ((0 : Int32), p3.2)
set_option maxRecDepth 4000 in
theorem fX11_by_0_ok {a0 : Nat} {a1 : Int32} {d : Nat} (hd : 1 ≤ d) (ha0 : isMS a0) {m : xMem} {r : (Int32 × xMem)} (h : fX11_by_0 a0 a1 m = some r) : xFx hh_113 cX11_by d 0 [some (.ref a0), some (.int a1)] [] (xLay m) 0 0 (some (.int r.1)) (xLay r.2) := by
  unfold fX11_by_0 at h
  refine fx_iload_n dX11_by_0 rfl rfl ?_
  refine fx_iconst (x := -1) dX11_by_1 rfl (by decide) ?_
  refine fx_aload_n dX11_by_2 rfl rfl ?_
  refine gx_getr dX11_by_3 rfl fd_11_10 ha0.1 rfl rfl ?_
  obtain ⟨x1, hx1, h⟩ := xLet_el h
  refine gx_get dX11_by_6 rfl fd_11_143 ha0.2.1.1 rfl rfl hx1 ?_
  refine fx_iconst (x := 1) dX11_by_9 rfl (by decide) ?_
  obtain ⟨x2, hx2, h⟩ := xLet_el h
  refine fx_isub dX11_by_10 rfl hx2 ?_
  obtain ⟨p3, ep3, h⟩ := xBind_el h
  refine gx_calls (as := [.int a1, .int (-1 : Int32), .int x2]) (r := []) rfl dX11_by_11 ca_11_47 rfl me_14 rfl rfl rfl rfl (fX11_within_ok (d := d) (by omega) ep3) rfl rfl ?_
  refine fx_if_ne (t := 19) dX11_by_14 rfl rfl (fun hc4 => ?_) (fun hc4 => ?_)
  · rw [if_pos hc4] at h
    refine fx_aload_n dX11_by_19 rfl rfl ?_
    refine gx_getr dX11_by_20 rfl fd_11_10 ha0.1 rfl rfl ?_
    refine fx_iload_n dX11_by_23 rfl rfl ?_
    obtain ⟨m5, hm5, h⟩ := xLet_el h
    refine gx_put dX11_by_24 rfl fd_11_156 ha0.2.1.1 rfl rfl rfl hm5 ?_
    refine fx_iconst (x := 1) dX11_by_27 rfl (by decide) ?_
    cases h
    exact fx_ireturn dX11_by_28 rfl rfl
  · rw [if_neg hc4] at h
    refine fx_iconst (x := 0) dX11_by_17 rfl (by decide) ?_
    cases h
    exact fx_ireturn dX11_by_18 rfl rfl
def fX11_by (a0 : Nat) (a1 : Int32) (m : xMem) : Option (Int32 × xMem) := fX11_by_0 a0 a1  m
theorem fX11_by_ok {a0 : Nat} {a1 : Int32} {m : xMem} {r : (Int32 × xMem)} {d : Nat} (hd : 2 ≤ d) (ha0 : isMS a0) (h : fX11_by a0 a1 m = some r) : xEx d 113 [.ref a0, .int a1] (xLay m) (some (.int r.1)) (xLay r.2) := by
  obtain ⟨d, rfl⟩ : ∃ q, d = q + 1 := ⟨d - 1, by omega⟩
  exact xEx_of me_113 rfl (fX11_by_0_ok (d := d) (by omega) ha0 h)
def fX12_by_23 (a0 : Nat) (a1 : Int32) (m : xMem) : Option (Int32 × xMem) := bif xIn (5 : Int32) 1610 then xLet (xPut m (a0 + 1) (5 : Int32).toNatClampNeg a1) fun m1 => some ((1 : Int32), m1) else none
set_option maxRecDepth 4000 in
theorem fX12_by_23_ok {a0 : Nat} {a1 : Int32} {d : Nat} (hd : 1 ≤ d) (ha0 : isModel a0) {m : xMem} {r : (Int32 × xMem)} (h : fX12_by_23 a0 a1 m = some r) : xFx hh_114 cX12_by d 23 [some (.ref a0), some (.int a1)] [] (xLay m) 0 0 (some (.int r.1)) (xLay r.2) := by
  unfold fX12_by_23 at h
  refine fx_aload_n dX12_by_23 rfl rfl ?_
  refine gx_getr dX12_by_24 rfl fd_12_7 ha0.1 rfl rfl ?_
  refine fx_iconst (x := 5) dX12_by_27 rfl (by decide) ?_
  refine fx_iload_n dX12_by_28 rfl rfl ?_
  obtain ⟨hj2, h⟩ := xChk_el h
  obtain ⟨m1, hm1, h⟩ := xLet_el h
  refine gx_iastore dX12_by_29 rfl ha0.2.1 hj2 hm1 ?_
  refine fx_iconst (x := 1) dX12_by_30 rfl (by decide) ?_
  cases h
  exact fx_ireturn dX12_by_31 rfl rfl
def fX12_by_0 (a0 : Nat) (a1 : Int32) (m : xMem) : Option (Int32 × xMem) := if a1 = (-1 : Int32) then fX12_by_23 a0 a1 m else bif xIn (4 : Int32) 1610 then xLet (m.1 (a0 + 1) (4 : Int32).toNatClampNeg) fun x2 => xLet (x2 - (1 : Int32)) fun x4 => (fX12_in a1 (0 : Int32) x4 m).bind fun p5 => if ¬ p5.1 = (0 : Int32) then fX12_by_23 a0 a1 p5.2 else some ((0 : Int32), p5.2) else none
set_option maxRecDepth 4000 in
theorem fX12_by_0_ok {a0 : Nat} {a1 : Int32} {d : Nat} (hd : 1 ≤ d) (ha0 : isModel a0) {m : xMem} {r : (Int32 × xMem)} (h : fX12_by_0 a0 a1 m = some r) : xFx hh_114 cX12_by d 0 [some (.ref a0), some (.int a1)] [] (xLay m) 0 0 (some (.int r.1)) (xLay r.2) := by
  unfold fX12_by_0 at h
  refine fx_iload_n dX12_by_0 rfl rfl ?_
  refine fx_iconst (x := -1) dX12_by_1 rfl (by decide) ?_
  refine fx_icmp_eq (t := 23) dX12_by_2 rfl rfl (fun hc1 => ?_) (fun hc1 => ?_)
  · rw [if_pos hc1] at h
    exact fX12_by_23_ok hd ha0 h
  · rw [if_neg hc1] at h
    refine fx_iload_n dX12_by_5 rfl rfl ?_
    refine fx_iconst (x := 0) dX12_by_6 rfl (by decide) ?_
    refine fx_aload_n dX12_by_7 rfl rfl ?_
    refine gx_getr dX12_by_8 rfl fd_12_7 ha0.1 rfl rfl ?_
    refine fx_iconst (x := 4) dX12_by_11 rfl (by decide) ?_
    obtain ⟨hj3, h⟩ := xChk_el h
    obtain ⟨x2, hx2, h⟩ := xLet_el h
    refine gx_iaload dX12_by_12 rfl ha0.2.1 hj3 hx2 ?_
    refine fx_iconst (x := 1) dX12_by_13 rfl (by decide) ?_
    obtain ⟨x4, hx4, h⟩ := xLet_el h
    refine fx_isub dX12_by_14 rfl hx4 ?_
    obtain ⟨p5, ep5, h⟩ := xBind_el h
    refine gx_calls (as := [.int a1, .int (0 : Int32), .int x4]) (r := []) rfl dX12_by_15 ca_12_95 rfl me_18 rfl rfl rfl rfl (fX12_in_ok (d := d) (by omega) ep5) rfl rfl ?_
    refine fx_if_ne (t := 23) dX12_by_18 rfl rfl (fun hc6 => ?_) (fun hc6 => ?_)
    · rw [if_pos hc6] at h
      exact fX12_by_23_ok hd ha0 h
    · rw [if_neg hc6] at h
      refine fx_iconst (x := 0) dX12_by_21 rfl (by decide) ?_
      cases h
      exact fx_ireturn dX12_by_22 rfl rfl
def fX12_by (a0 : Nat) (a1 : Int32) (m : xMem) : Option (Int32 × xMem) := fX12_by_0 a0 a1  m
theorem fX12_by_ok {a0 : Nat} {a1 : Int32} {m : xMem} {r : (Int32 × xMem)} {d : Nat} (hd : 2 ≤ d) (ha0 : isModel a0) (h : fX12_by a0 a1 m = some r) : xEx d 114 [.ref a0, .int a1] (xLay m) (some (.int r.1)) (xLay r.2) := by
  obtain ⟨d, rfl⟩ : ∃ q, d = q + 1 := ⟨d - 1, by omega⟩
  exact xEx_of me_114 rfl (fX12_by_0_ok (d := d) (by omega) ha0 h)
def fX2_isOver_16 (a0 : Nat) (s0 : Int32) (m : xMem) : Option (Int32 × xMem) := bif (decide (s0 = 0) || decide (s0 = 1)) then some (s0, m) else none
set_option maxRecDepth 4000 in
theorem fX2_isOver_16_ok {a0 : Nat} {d : Nat} (hd : 0 ≤ d) (ha0 : isHall a0) {s0 : Int32} {m : xMem} {r : (Int32 × xMem)} (h : fX2_isOver_16 a0 s0 m = some r) : xFx hh_161 cX2_isOver d 16 [some (.ref a0)] [.int s0] (xLay m) 0 0 (some (.int r.1)) (xLay r.2) := by
  unfold fX2_isOver_16 at h
  obtain ⟨hb1, h⟩ := xChk_el h
  cases h
  exact fx_ireturn dX2_isOver_16 rfl (by show ((decide _ || decide _) && _) = true; rw [hb1]; rfl)
def fX2_isOver_0 (a0 : Nat) (m : xMem) : Option (Int32 × xMem) := xLet (m.1 a0 4) fun x1 => xLet (m.1 a0 2) fun x2 => if x1 ≤ x2 then fX2_isOver_16 a0 (0 : Int32) m else fX2_isOver_16 a0 (1 : Int32) m
set_option maxRecDepth 4000 in
theorem fX2_isOver_0_ok {a0 : Nat} {d : Nat} (hd : 0 ≤ d) (ha0 : isHall a0) {m : xMem} {r : (Int32 × xMem)} (h : fX2_isOver_0 a0 m = some r) : xFx hh_161 cX2_isOver d 0 [some (.ref a0)] [] (xLay m) 0 0 (some (.int r.1)) (xLay r.2) := by
  unfold fX2_isOver_0 at h
  refine fx_aload_n dX2_isOver_0 rfl rfl ?_
  obtain ⟨x1, hx1, h⟩ := xLet_el h
  refine gx_get dX2_isOver_1 rfl fd_2_25 ha0.1 rfl rfl hx1 ?_
  refine fx_aload_n dX2_isOver_4 rfl rfl ?_
  obtain ⟨x2, hx2, h⟩ := xLet_el h
  refine gx_get dX2_isOver_5 rfl fd_2_18 ha0.1 rfl rfl hx2 ?_
  refine fx_icmp_le (t := 15) dX2_isOver_8 rfl rfl (fun hc3 => ?_) (fun hc3 => ?_)
  · rw [if_pos hc3] at h
    refine fx_iconst (x := 0) dX2_isOver_15 rfl (by decide) ?_
    exact fX2_isOver_16_ok hd ha0 h
  · rw [if_neg hc3] at h
    refine fx_iconst (x := 1) dX2_isOver_11 rfl (by decide) ?_
    refine fx_goto (t := 16) dX2_isOver_12 rfl rfl ?_
    exact fX2_isOver_16_ok hd ha0 h
def fX2_isOver (a0 : Nat) (m : xMem) : Option (Int32 × xMem) := fX2_isOver_0 a0  m
theorem fX2_isOver_ok {a0 : Nat} {m : xMem} {r : (Int32 × xMem)} {d : Nat} (hd : 1 ≤ d) (ha0 : isHall a0) (h : fX2_isOver a0 m = some r) : xEx d 161 [.ref a0] (xLay m) (some (.int r.1)) (xLay r.2) := by
  obtain ⟨d, rfl⟩ : ∃ q, d = q + 1 := ⟨d - 1, by omega⟩
  exact xEx_of me_161 rfl (fX2_isOver_0_ok (d := d) (by omega) ha0 h)
def fX6_countSecond_98 (a0 : Nat) (a1 : Nat) (rec9 : Int64 → Int32 → xMem → Option xMem) (l2 : Int64) (l4 : Int32) (m : xMem) : Option xMem := xLet (l4 + (1 : Int32)) fun x1 => rec9 l2 x1 m
set_option maxRecDepth 4000 in
theorem fX6_countSecond_98_ok {a0 : Nat} {a1 : Nat} {rec9 : Int64 → Int32 → xMem → Option xMem} {d : Nat} (hd : 1 ≤ d) (ha0 : isMover a0) (ha1 : isStation a1) (hrec9 : ∀ (l2 : Int64) (l4 : Int32) (o5 : Option Value) (q5 : xNoD o5 = true) (m : xMem) (r : xMem), rec9 l2 l4 m = some r → xFx hh_160 cX6_countSecond d 9 [some (.ref a0), some (.ref a1), some (.long l2), none, some (.int l4), o5] [] (xLay m) 0 0 none (xLay r)) {l2 : Int64} {l4 : Int32} {o5 : Option Value} {m : xMem} {r : xMem} (q5 : xNoD o5 = true) (h : fX6_countSecond_98 a0 a1 rec9 l2 l4 m = some r) : xFx hh_160 cX6_countSecond d 98 [some (.ref a0), some (.ref a1), some (.long l2), none, some (.int l4), o5] [] (xLay m) 0 0 none (xLay r) := by
  unfold fX6_countSecond_98 at h
  obtain ⟨x1, hx1, h⟩ := xLet_el h
  refine fx_iinc (ls2 := [some (.ref a0), some (.ref a1), some (.long l2), none, some (.int x1), o5]) dX6_countSecond_98 rfl rfl rfl hx1 rfl ?_
  refine fx_goto (t := 9) dX6_countSecond_101 rfl rfl ?_
  exact hrec9 l2 x1 (o5) q5 m r h
def fX6_countSecond_72 (a0 : Nat) (a1 : Nat) (rec9 : Int64 → Int32 → xMem → Option xMem) (l2 : Int64) (l4 : Int32) (l5 : Nat) (m : xMem) : Option xMem := xLet (m.1 l5 7) fun x1 => if ¬ x1 = (-1 : Int32) then fX6_countSecond_98 a0 a1 rec9 l2 l4 m else (fX2_isOver l5 m).bind fun p3 => if p3.1 = (0 : Int32) then fX6_countSecond_98 a0 a1 rec9 l2 l4 p3.2 else xLet (p3.2.1 a1 6) fun x5 => xLet (xPut p3.2 l5 7 x5) fun m6 => fX6_countSecond_98 a0 a1 rec9 l2 l4 m6
set_option maxRecDepth 4000 in
theorem fX6_countSecond_72_ok {a0 : Nat} {a1 : Nat} {rec9 : Int64 → Int32 → xMem → Option xMem} {d : Nat} (hd : 1 ≤ d) (ha0 : isMover a0) (ha1 : isStation a1) (hrec9 : ∀ (l2 : Int64) (l4 : Int32) (o5 : Option Value) (q5 : xNoD o5 = true) (m : xMem) (r : xMem), rec9 l2 l4 m = some r → xFx hh_160 cX6_countSecond d 9 [some (.ref a0), some (.ref a1), some (.long l2), none, some (.int l4), o5] [] (xLay m) 0 0 none (xLay r)) {l2 : Int64} {l4 : Int32} {l5 : Nat} {m : xMem} {r : xMem} (hl5 : isHall l5) (h : fX6_countSecond_72 a0 a1 rec9 l2 l4 l5 m = some r) : xFx hh_160 cX6_countSecond d 72 [some (.ref a0), some (.ref a1), some (.long l2), none, some (.int l4), some (.ref l5)] [] (xLay m) 0 0 none (xLay r) := by
  unfold fX6_countSecond_72 at h
  refine fx_aload dX6_countSecond_72 rfl rfl ?_
  obtain ⟨x1, hx1, h⟩ := xLet_el h
  refine gx_get dX6_countSecond_74 rfl fd_6_271 hl5.1 rfl rfl hx1 ?_
  refine fx_iconst (x := -1) dX6_countSecond_77 rfl (by decide) ?_
  refine fx_icmp_ne (t := 98) dX6_countSecond_78 rfl rfl (fun hc2 => ?_) (fun hc2 => ?_)
  · rw [if_pos hc2] at h
    exact fX6_countSecond_98_ok (o5 := some (.ref l5)) hd ha0 ha1 hrec9 rfl h
  · rw [if_neg hc2] at h
    refine fx_aload dX6_countSecond_81 rfl rfl ?_
    obtain ⟨p3, ep3, h⟩ := xBind_el h
    refine gx_callv (as := []) (r := []) rfl dX6_countSecond_83 ca_6_274 rfl me_161 rfl rfl rfl rfl (hl5.1) rfl (fX2_isOver_ok (d := d) (by omega) hl5 ep3) rfl rfl ?_
    refine fx_if_eq (t := 98) dX6_countSecond_86 rfl rfl (fun hc4 => ?_) (fun hc4 => ?_)
    · rw [if_pos hc4] at h
      exact fX6_countSecond_98_ok (o5 := some (.ref l5)) hd ha0 ha1 hrec9 rfl h
    · rw [if_neg hc4] at h
      refine fx_aload dX6_countSecond_89 rfl rfl ?_
      refine fx_aload_n dX6_countSecond_91 rfl rfl ?_
      obtain ⟨x5, hx5, h⟩ := xLet_el h
      refine gx_get dX6_countSecond_92 rfl fd_6_47 ha1.1 rfl rfl hx5 ?_
      obtain ⟨m6, hm6, h⟩ := xLet_el h
      refine gx_put dX6_countSecond_95 rfl fd_6_271 hl5.1 rfl rfl rfl hm6 ?_
      exact fX6_countSecond_98_ok (o5 := some (.ref l5)) hd ha0 ha1 hrec9 rfl h
def fX6_countSecond_104 (a0 : Nat) (a1 : Nat) (l2 : Int64) (m : xMem) : Option xMem := xLet (xMinL l2 (1000000000 : Int64)) fun x1 => xLet (x1.toInt32) fun x2 => xLet (xPut m a1 13 x2) fun m3 => some m3
set_option maxRecDepth 4000 in
theorem fX6_countSecond_104_ok {a0 : Nat} {a1 : Nat} {d : Nat} (hd : 1 ≤ d) (ha0 : isMover a0) (ha1 : isStation a1) {l2 : Int64} {o4 : Option Value} {o5 : Option Value} {m : xMem} {r : xMem} (q4 : xNoD o4 = true) (q5 : xNoD o5 = true) (h : fX6_countSecond_104 a0 a1 l2 m = some r) : xFx hh_160 cX6_countSecond d 104 [some (.ref a0), some (.ref a1), some (.long l2), none, o4, o5] [] (xLay m) 0 0 none (xLay r) := by
  unfold fX6_countSecond_104 at h
  refine fx_aload_n dX6_countSecond_104 rfl rfl ?_
  refine fx_lload_n dX6_countSecond_105 rfl rfl ?_
  refine fx_ldc2_w dX6_countSecond_106 rfl cl_6_277 ?_
  obtain ⟨x1, hx1, h⟩ := xLet_el h
  refine fx_lmin dX6_countSecond_109 rfl ca_6_279 rfl hx1 ?_
  obtain ⟨x2, hx2, h⟩ := xLet_el h
  refine fx_l2i dX6_countSecond_112 rfl hx2 ?_
  obtain ⟨m3, hm3, h⟩ := xLet_el h
  refine gx_put dX6_countSecond_113 rfl fd_6_265 ha1.1 rfl rfl rfl hm3 ?_
  cases h
  exact fx_return dX6_countSecond_116 rfl rfl
def fX6_countSecond_9 (a0 : Nat) (a1 : Nat) : Nat → Int64 → Int32 → xMem → Option xMem
  | 0, _, _, _ => none
  | fuel + 1, l2, l4, m => xLet (m.1 a1 7) fun x1 => if x1 ≤ l4 then fX6_countSecond_104 a0 a1 l2 m else if (6 : Int32) ≤ l4 then fX6_countSecond_104 a0 a1 l2 m else bif xIn l4 6 then xLet (a1 + 15 + 3 * l4.toNatClampNeg) fun r5 => xLet (m.1 r5 4) fun x6 => xLet (x6.toInt64) fun x7 => xLet (m.1 r5 5) fun x8 => xLet (x8.toInt64) fun x9 => xLet (x7 + x9) fun x10 => xLet (l2 + x10) fun x11 => xLet (m.1 r5 8) fun x12 => if x12 = (0 : Int32) then fX6_countSecond_72 a0 a1 (fX6_countSecond_9 a0 a1 fuel) x11 l4 r5 m else xLet (m.1 r5 6) fun x14 => xLet (x14 + (1 : Int32)) fun x15 => xLet (xPut m r5 6 x15) fun m16 => fX6_countSecond_72 a0 a1 (fX6_countSecond_9 a0 a1 fuel) x11 l4 r5 m16 else none
set_option maxRecDepth 4000 in
theorem fX6_countSecond_9_ok {a0 : Nat} {a1 : Nat} {d : Nat} (hd : 1 ≤ d) (ha0 : isMover a0) (ha1 : isStation a1) : ∀ (fuel : Nat) (l2 : Int64) (l4 : Int32) (o5 : Option Value) (q5 : xNoD o5 = true) (m : xMem) (r : xMem), fX6_countSecond_9 a0 a1 fuel l2 l4 m = some r → xFx hh_160 cX6_countSecond d 9 [some (.ref a0), some (.ref a1), some (.long l2), none, some (.int l4), o5] [] (xLay m) 0 0 none (xLay r) := by
  intro fuel
  induction fuel with
  | zero => intro l2 l4 o5 q5 m r  h; cases h
  | succ fuel ih =>
    intro l2 l4 o5 q5 m r  h
    unfold fX6_countSecond_9 at h
    refine fx_iload dX6_countSecond_9 rfl rfl ?_
    refine fx_aload_n dX6_countSecond_11 rfl rfl ?_
    obtain ⟨x1, hx1, h⟩ := xLet_el h
    refine gx_get dX6_countSecond_12 rfl fd_6_119 ha1.1 rfl rfl hx1 ?_
    refine fx_icmp_ge (t := 104) dX6_countSecond_15 rfl rfl (fun hc2 => ?_) (fun hc2 => ?_)
    · rw [if_pos hc2] at h
      exact fX6_countSecond_104_ok (o4 := some (.int l4)) (o5 := o5) hd ha0 ha1 rfl q5 h
    · rw [if_neg hc2] at h
      refine fx_iload dX6_countSecond_18 rfl rfl ?_
      refine fx_aload_n dX6_countSecond_20 rfl rfl ?_
      refine gx_getr dX6_countSecond_21 rfl fd_6_96 ha1.1 rfl rfl ?_
      refine gx_alen (t := 4) (y := 6) dX6_countSecond_24 rfl ha1.2.1 rfl (by decide) ?_
      refine fx_icmp_ge (t := 104) dX6_countSecond_25 rfl rfl (fun hc3 => ?_) (fun hc3 => ?_)
      · rw [if_pos hc3] at h
        exact fX6_countSecond_104_ok (o4 := some (.int l4)) (o5 := o5) hd ha0 ha1 rfl q5 h
      · rw [if_neg hc3] at h
        refine fx_aload_n dX6_countSecond_28 rfl rfl ?_
        refine gx_getr dX6_countSecond_29 rfl fd_6_96 ha1.1 rfl rfl ?_
        refine fx_iload dX6_countSecond_32 rfl rfl ?_
        obtain ⟨hj4, h⟩ := xChk_el h
        obtain ⟨r5, hr5, h⟩ := xLet_el h
        refine gx_aaload (t := 4) dX6_countSecond_34 rfl ha1.2.1 rfl hj4 ((xRef_at (sl_9_0 a1) hj4).trans (congrArg some hr5)) ?_
        have hpr5 : isHall r5 := by rw [← hr5]; exact ha1.2.2.2.2.2.2.2.1 _ (xIn_lt hj4)
        refine fx_astore (ls2 := [some (.ref a0), some (.ref a1), some (.long l2), none, some (.int l4), some (.ref r5)]) dX6_countSecond_35 rfl rfl rfl ?_
        refine fx_lload_n dX6_countSecond_37 rfl rfl ?_
        refine fx_aload dX6_countSecond_38 rfl rfl ?_
        obtain ⟨x6, hx6, h⟩ := xLet_el h
        refine gx_get dX6_countSecond_40 rfl fd_6_106 hpr5.1 rfl rfl hx6 ?_
        obtain ⟨x7, hx7, h⟩ := xLet_el h
        refine fx_i2l dX6_countSecond_43 rfl hx7 ?_
        refine fx_aload dX6_countSecond_44 rfl rfl ?_
        obtain ⟨x8, hx8, h⟩ := xLet_el h
        refine gx_get dX6_countSecond_46 rfl fd_6_112 hpr5.1 rfl rfl hx8 ?_
        obtain ⟨x9, hx9, h⟩ := xLet_el h
        refine fx_i2l dX6_countSecond_49 rfl hx9 ?_
        obtain ⟨x10, hx10, h⟩ := xLet_el h
        refine fx_ladd dX6_countSecond_50 rfl hx10 ?_
        obtain ⟨x11, hx11, h⟩ := xLet_el h
        refine fx_ladd dX6_countSecond_51 rfl hx11 ?_
        refine fx_lstore_n (ls2 := [some (.ref a0), some (.ref a1), some (.long x11), none, some (.int l4), some (.ref r5)]) dX6_countSecond_52 rfl rfl rfl ?_
        refine fx_aload dX6_countSecond_53 rfl rfl ?_
        obtain ⟨x12, hx12, h⟩ := xLet_el h
        refine gx_get dX6_countSecond_55 rfl fd_6_125 hpr5.1 rfl rfl hx12 ?_
        refine fx_if_eq (t := 72) dX6_countSecond_58 rfl rfl (fun hc13 => ?_) (fun hc13 => ?_)
        · rw [if_pos hc13] at h
          exact fX6_countSecond_72_ok hd ha0 ha1 ih hpr5 h
        · rw [if_neg hc13] at h
          refine fx_aload dX6_countSecond_61 rfl rfl ?_
          refine fx_dup dX6_countSecond_63 rfl rfl ?_
          obtain ⟨x14, hx14, h⟩ := xLet_el h
          refine gx_get dX6_countSecond_64 rfl fd_6_268 hpr5.1 rfl rfl hx14 ?_
          refine fx_iconst (x := 1) dX6_countSecond_67 rfl (by decide) ?_
          obtain ⟨x15, hx15, h⟩ := xLet_el h
          refine fx_iadd dX6_countSecond_68 rfl hx15 ?_
          obtain ⟨m16, hm16, h⟩ := xLet_el h
          refine gx_put dX6_countSecond_69 rfl fd_6_268 hpr5.1 rfl rfl rfl hm16 ?_
          exact fX6_countSecond_72_ok hd ha0 ha1 ih hpr5 h
def fX6_countSecond_0 (a0 : Nat) (a1 : Nat) (m : xMem) : Option xMem := xLet (m.1 a1 13) fun x1 => xLet (x1.toInt64) fun x2 => fX6_countSecond_9 a0 a1 xFuel x2 (0 : Int32) m
set_option maxRecDepth 4000 in
theorem fX6_countSecond_0_ok {a0 : Nat} {a1 : Nat} {d : Nat} (hd : 1 ≤ d) (ha0 : isMover a0) (ha1 : isStation a1) {o2 : Option Value} {o3 : Option Value} {o4 : Option Value} {o5 : Option Value} {m : xMem} {r : xMem} (q4 : xNoD o4 = true) (q5 : xNoD o5 = true) (h : fX6_countSecond_0 a0 a1 m = some r) : xFx hh_160 cX6_countSecond d 0 [some (.ref a0), some (.ref a1), o2, o3, o4, o5] [] (xLay m) 0 0 none (xLay r) := by
  unfold fX6_countSecond_0 at h
  refine fx_aload_n dX6_countSecond_0 rfl rfl ?_
  obtain ⟨x1, hx1, h⟩ := xLet_el h
  refine gx_get dX6_countSecond_1 rfl fd_6_265 ha1.1 rfl rfl hx1 ?_
  obtain ⟨x2, hx2, h⟩ := xLet_el h
  refine fx_i2l dX6_countSecond_4 rfl hx2 ?_
  refine fx_lstore_n (ls2 := [some (.ref a0), some (.ref a1), some (.long x2), none, o4, o5]) dX6_countSecond_5 rfl rfl rfl ?_
  refine fx_iconst (x := 0) dX6_countSecond_6 rfl (by decide) ?_
  refine fx_istore (ls2 := [some (.ref a0), some (.ref a1), some (.long x2), none, some (.int (0 : Int32)), o5]) dX6_countSecond_7 rfl rfl rfl ?_
  exact fX6_countSecond_9_ok hd ha0 ha1 xFuel x2 (0 : Int32) (o5) q5 m r h
def fX6_countSecond (a0 : Nat) (a1 : Nat) (m : xMem) : Option xMem := fX6_countSecond_0 a0 a1  m
theorem fX6_countSecond_ok {a0 : Nat} {a1 : Nat} {m : xMem} {r : xMem} {d : Nat} (hd : 2 ≤ d) (ha0 : isMover a0) (ha1 : isStation a1) (h : fX6_countSecond a0 a1 m = some r) : xEx d 160 [.ref a0, .ref a1] (xLay m) none (xLay r) := by
  obtain ⟨d, rfl⟩ : ∃ q, d = q + 1 := ⟨d - 1, by omega⟩
  exact xEx_of me_160 rfl (fX6_countSecond_0_ok (d := d) (o2 := none) (o3 := none) (o4 := none) (o5 := none) (by omega) ha0 ha1 rfl rfl h)
def fX2_changeOutside_44 (a0 : Nat) (a1 : Int32) (a2 : Int32) (a3 : Int32) (m : xMem) : Option xMem := some m
set_option maxRecDepth 4000 in
theorem fX2_changeOutside_44_ok {a0 : Nat} {a1 : Int32} {a2 : Int32} {a3 : Int32} {d : Nat} (hd : 0 ≤ d) (ha0 : isHall a0) {o4 : Option Value} {m : xMem} {r : xMem} (q4 : xNoD o4 = true) (h : fX2_changeOutside_44 a0 a1 a2 a3 m = some r) : xFx hh_129 cX2_changeOutside d 44 [some (.ref a0), some (.int a1), some (.int a2), some (.int a3), o4] [] (xLay m) 0 0 none (xLay r) := by
  unfold fX2_changeOutside_44 at h
  cases h
  exact fx_return dX2_changeOutside_44 rfl rfl
def fX2_changeOutside_0 (a0 : Nat) (a1 : Int32) (a2 : Int32) (a3 : Int32) (m : xMem) : Option xMem := xLet (a2 * (6 : Int32)) fun x1 => xLet (x1 + a1) fun x2 => if x2 < (0 : Int32) then fX2_changeOutside_44 a0 a1 a2 a3 m else if (12 : Int32) ≤ x2 then fX2_changeOutside_44 a0 a1 a2 a3 m else bif xIn x2 12 then xLet (m.1 (a0 + 2) x2.toNatClampNeg) fun x5 => xLet (x5 + a3) fun x7 => bif xIn x2 12 then xLet (xPut m (a0 + 2) x2.toNatClampNeg x7) fun m8 => xLet (m8.1 a0 5) fun x10 => xLet (x10 + a3) fun x11 => xLet (xPut m8 a0 5 x11) fun m12 => fX2_changeOutside_44 a0 a1 a2 a3 m12 else none else none
set_option maxRecDepth 4000 in
theorem fX2_changeOutside_0_ok {a0 : Nat} {a1 : Int32} {a2 : Int32} {a3 : Int32} {d : Nat} (hd : 0 ≤ d) (ha0 : isHall a0) {o4 : Option Value} {m : xMem} {r : xMem} (q4 : xNoD o4 = true) (h : fX2_changeOutside_0 a0 a1 a2 a3 m = some r) : xFx hh_129 cX2_changeOutside d 0 [some (.ref a0), some (.int a1), some (.int a2), some (.int a3), o4] [] (xLay m) 0 0 none (xLay r) := by
  unfold fX2_changeOutside_0 at h
  refine fx_iload_n dX2_changeOutside_0 rfl rfl ?_
  refine fx_bipush (x := 6) dX2_changeOutside_1 rfl (by decide) ?_
  obtain ⟨x1, hx1, h⟩ := xLet_el h
  refine fx_imul dX2_changeOutside_3 rfl hx1 ?_
  refine fx_iload_n dX2_changeOutside_4 rfl rfl ?_
  obtain ⟨x2, hx2, h⟩ := xLet_el h
  refine fx_iadd dX2_changeOutside_5 rfl hx2 ?_
  refine fx_istore (ls2 := [some (.ref a0), some (.int a1), some (.int a2), some (.int a3), some (.int x2)]) dX2_changeOutside_6 rfl rfl rfl ?_
  refine fx_iload dX2_changeOutside_8 rfl rfl ?_
  refine fx_if_lt (t := 44) dX2_changeOutside_10 rfl rfl (fun hc3 => ?_) (fun hc3 => ?_)
  · rw [if_pos hc3] at h
    exact fX2_changeOutside_44_ok (o4 := some (.int x2)) hd ha0 rfl h
  · rw [if_neg hc3] at h
    refine fx_iload dX2_changeOutside_13 rfl rfl ?_
    refine fx_aload_n dX2_changeOutside_15 rfl rfl ?_
    refine gx_getr dX2_changeOutside_16 rfl fd_2_15 ha0.1 rfl rfl ?_
    refine gx_alen (t := 1) (y := 12) dX2_changeOutside_19 rfl ha0.2.2 rfl (by decide) ?_
    refine fx_icmp_ge (t := 44) dX2_changeOutside_20 rfl rfl (fun hc4 => ?_) (fun hc4 => ?_)
    · rw [if_pos hc4] at h
      exact fX2_changeOutside_44_ok (o4 := some (.int x2)) hd ha0 rfl h
    · rw [if_neg hc4] at h
      refine fx_aload_n dX2_changeOutside_23 rfl rfl ?_
      refine gx_getr dX2_changeOutside_24 rfl fd_2_15 ha0.1 rfl rfl ?_
      refine fx_iload dX2_changeOutside_27 rfl rfl ?_
      refine fx_dup2 dX2_changeOutside_29 rfl rfl ?_
      obtain ⟨hj6, h⟩ := xChk_el h
      obtain ⟨x5, hx5, h⟩ := xLet_el h
      refine gx_iaload dX2_changeOutside_30 rfl ha0.2.2 hj6 hx5 ?_
      refine fx_iload_n dX2_changeOutside_31 rfl rfl ?_
      obtain ⟨x7, hx7, h⟩ := xLet_el h
      refine fx_iadd dX2_changeOutside_32 rfl hx7 ?_
      obtain ⟨hj9, h⟩ := xChk_el h
      obtain ⟨m8, hm8, h⟩ := xLet_el h
      refine gx_iastore dX2_changeOutside_33 rfl ha0.2.2 hj9 hm8 ?_
      refine fx_aload_n dX2_changeOutside_34 rfl rfl ?_
      refine fx_dup dX2_changeOutside_35 rfl rfl ?_
      obtain ⟨x10, hx10, h⟩ := xLet_el h
      refine gx_get dX2_changeOutside_36 rfl fd_2_28 ha0.1 rfl rfl hx10 ?_
      refine fx_iload_n dX2_changeOutside_39 rfl rfl ?_
      obtain ⟨x11, hx11, h⟩ := xLet_el h
      refine fx_iadd dX2_changeOutside_40 rfl hx11 ?_
      obtain ⟨m12, hm12, h⟩ := xLet_el h
      refine gx_put dX2_changeOutside_41 rfl fd_2_28 ha0.1 rfl rfl rfl hm12 ?_
      exact fX2_changeOutside_44_ok (o4 := some (.int x2)) hd ha0 rfl h
def fX2_changeOutside (a0 : Nat) (a1 : Int32) (a2 : Int32) (a3 : Int32) (m : xMem) : Option xMem := fX2_changeOutside_0 a0 a1 a2 a3  m
theorem fX2_changeOutside_ok {a0 : Nat} {a1 : Int32} {a2 : Int32} {a3 : Int32} {m : xMem} {r : xMem} {d : Nat} (hd : 1 ≤ d) (ha0 : isHall a0) (h : fX2_changeOutside a0 a1 a2 a3 m = some r) : xEx d 129 [.ref a0, .int a1, .int a2, .int a3] (xLay m) none (xLay r) := by
  obtain ⟨d, rfl⟩ : ∃ q, d = q + 1 := ⟨d - 1, by omega⟩
  exact xEx_of me_129 rfl (fX2_changeOutside_0_ok (d := d) (o4 := none) (by omega) ha0 rfl h)
def fX2_change_44 (a0 : Nat) (a1 : Int32) (a2 : Int32) (a3 : Int32) (m : xMem) : Option xMem := some m
set_option maxRecDepth 4000 in
theorem fX2_change_44_ok {a0 : Nat} {a1 : Int32} {a2 : Int32} {a3 : Int32} {d : Nat} (hd : 0 ≤ d) (ha0 : isHall a0) {o4 : Option Value} {m : xMem} {r : xMem} (q4 : xNoD o4 = true) (h : fX2_change_44 a0 a1 a2 a3 m = some r) : xFx hh_124 cX2_change d 44 [some (.ref a0), some (.int a1), some (.int a2), some (.int a3), o4] [] (xLay m) 0 0 none (xLay r) := by
  unfold fX2_change_44 at h
  cases h
  exact fx_return dX2_change_44 rfl rfl
def fX2_change_0 (a0 : Nat) (a1 : Int32) (a2 : Int32) (a3 : Int32) (m : xMem) : Option xMem := xLet (a2 * (6 : Int32)) fun x1 => xLet (x1 + a1) fun x2 => if x2 < (0 : Int32) then fX2_change_44 a0 a1 a2 a3 m else if (12 : Int32) ≤ x2 then fX2_change_44 a0 a1 a2 a3 m else bif xIn x2 12 then xLet (m.1 (a0 + 1) x2.toNatClampNeg) fun x5 => xLet (x5 + a3) fun x7 => bif xIn x2 12 then xLet (xPut m (a0 + 1) x2.toNatClampNeg x7) fun m8 => xLet (m8.1 a0 4) fun x10 => xLet (x10 + a3) fun x11 => xLet (xPut m8 a0 4 x11) fun m12 => fX2_change_44 a0 a1 a2 a3 m12 else none else none
set_option maxRecDepth 4000 in
theorem fX2_change_0_ok {a0 : Nat} {a1 : Int32} {a2 : Int32} {a3 : Int32} {d : Nat} (hd : 0 ≤ d) (ha0 : isHall a0) {o4 : Option Value} {m : xMem} {r : xMem} (q4 : xNoD o4 = true) (h : fX2_change_0 a0 a1 a2 a3 m = some r) : xFx hh_124 cX2_change d 0 [some (.ref a0), some (.int a1), some (.int a2), some (.int a3), o4] [] (xLay m) 0 0 none (xLay r) := by
  unfold fX2_change_0 at h
  refine fx_iload_n dX2_change_0 rfl rfl ?_
  refine fx_bipush (x := 6) dX2_change_1 rfl (by decide) ?_
  obtain ⟨x1, hx1, h⟩ := xLet_el h
  refine fx_imul dX2_change_3 rfl hx1 ?_
  refine fx_iload_n dX2_change_4 rfl rfl ?_
  obtain ⟨x2, hx2, h⟩ := xLet_el h
  refine fx_iadd dX2_change_5 rfl hx2 ?_
  refine fx_istore (ls2 := [some (.ref a0), some (.int a1), some (.int a2), some (.int a3), some (.int x2)]) dX2_change_6 rfl rfl rfl ?_
  refine fx_iload dX2_change_8 rfl rfl ?_
  refine fx_if_lt (t := 44) dX2_change_10 rfl rfl (fun hc3 => ?_) (fun hc3 => ?_)
  · rw [if_pos hc3] at h
    exact fX2_change_44_ok (o4 := some (.int x2)) hd ha0 rfl h
  · rw [if_neg hc3] at h
    refine fx_iload dX2_change_13 rfl rfl ?_
    refine fx_aload_n dX2_change_15 rfl rfl ?_
    refine gx_getr dX2_change_16 rfl fd_2_9 ha0.1 rfl rfl ?_
    refine gx_alen (t := 1) (y := 12) dX2_change_19 rfl ha0.2.1 rfl (by decide) ?_
    refine fx_icmp_ge (t := 44) dX2_change_20 rfl rfl (fun hc4 => ?_) (fun hc4 => ?_)
    · rw [if_pos hc4] at h
      exact fX2_change_44_ok (o4 := some (.int x2)) hd ha0 rfl h
    · rw [if_neg hc4] at h
      refine fx_aload_n dX2_change_23 rfl rfl ?_
      refine gx_getr dX2_change_24 rfl fd_2_9 ha0.1 rfl rfl ?_
      refine fx_iload dX2_change_27 rfl rfl ?_
      refine fx_dup2 dX2_change_29 rfl rfl ?_
      obtain ⟨hj6, h⟩ := xChk_el h
      obtain ⟨x5, hx5, h⟩ := xLet_el h
      refine gx_iaload dX2_change_30 rfl ha0.2.1 hj6 hx5 ?_
      refine fx_iload_n dX2_change_31 rfl rfl ?_
      obtain ⟨x7, hx7, h⟩ := xLet_el h
      refine fx_iadd dX2_change_32 rfl hx7 ?_
      obtain ⟨hj9, h⟩ := xChk_el h
      obtain ⟨m8, hm8, h⟩ := xLet_el h
      refine gx_iastore dX2_change_33 rfl ha0.2.1 hj9 hm8 ?_
      refine fx_aload_n dX2_change_34 rfl rfl ?_
      refine fx_dup dX2_change_35 rfl rfl ?_
      obtain ⟨x10, hx10, h⟩ := xLet_el h
      refine gx_get dX2_change_36 rfl fd_2_25 ha0.1 rfl rfl hx10 ?_
      refine fx_iload_n dX2_change_39 rfl rfl ?_
      obtain ⟨x11, hx11, h⟩ := xLet_el h
      refine fx_iadd dX2_change_40 rfl hx11 ?_
      obtain ⟨m12, hm12, h⟩ := xLet_el h
      refine gx_put dX2_change_41 rfl fd_2_25 ha0.1 rfl rfl rfl hm12 ?_
      exact fX2_change_44_ok (o4 := some (.int x2)) hd ha0 rfl h
def fX2_change (a0 : Nat) (a1 : Int32) (a2 : Int32) (a3 : Int32) (m : xMem) : Option xMem := fX2_change_0 a0 a1 a2 a3  m
theorem fX2_change_ok {a0 : Nat} {a1 : Int32} {a2 : Int32} {a3 : Int32} {m : xMem} {r : xMem} {d : Nat} (hd : 1 ≤ d) (ha0 : isHall a0) (h : fX2_change a0 a1 a2 a3 m = some r) : xEx d 124 [.ref a0, .int a1, .int a2, .int a3] (xLay m) none (xLay r) := by
  obtain ⟨d, rfl⟩ : ∃ q, d = q + 1 := ⟨d - 1, by omega⟩
  exact xEx_of me_124 rfl (fX2_change_0_ok (d := d) (o4 := none) (by omega) ha0 rfl h)
def fX9_comeTo_40 (a0 : Nat) (a1 : Int32) (a2 : Int32) (a3 : Int32) (a4 : Int32) (m : xMem) : Option xMem := some m
set_option maxRecDepth 4000 in
theorem fX9_comeTo_40_ok {a0 : Nat} {a1 : Int32} {a2 : Int32} {a3 : Int32} {a4 : Int32} {d : Nat} (hd : 1 ≤ d) (ha0 : isStation a0) {m : xMem} {r : xMem} (h : fX9_comeTo_40 a0 a1 a2 a3 a4 m = some r) : xFx hh_123 cX9_comeTo d 40 [some (.ref a0), some (.int a1), some (.int a2), some (.int a3), some (.int a4)] [] (xLay m) 0 0 none (xLay r) := by
  unfold fX9_comeTo_40 at h
  cases h
  exact fx_return dX9_comeTo_40 rfl rfl
def fX9_comeTo_0 (a0 : Nat) (a1 : Int32) (a2 : Int32) (a3 : Int32) (a4 : Int32) (m : xMem) : Option xMem := if ¬ a1 = a2 then (fX9_hasHall a0 a1 m).bind fun p2 => if p2.1 = (0 : Int32) then fX9_comeTo_40 a0 a1 a2 a3 a4 p2.2 else bif xIn a1 6 then xLet (a0 + 15 + 3 * a1.toNatClampNeg) fun r5 => (fX2_change r5 a2 a3 a4 p2.2).bind fun p6 => fX9_comeTo_40 a0 a1 a2 a3 a4 p6 else none else xLet (m.1 a0 12) fun x7 => xLet (x7 + a4) fun x8 => xLet (xPut m a0 12 x8) fun m9 => fX9_comeTo_40 a0 a1 a2 a3 a4 m9
set_option maxRecDepth 4000 in
theorem fX9_comeTo_0_ok {a0 : Nat} {a1 : Int32} {a2 : Int32} {a3 : Int32} {a4 : Int32} {d : Nat} (hd : 1 ≤ d) (ha0 : isStation a0) {m : xMem} {r : xMem} (h : fX9_comeTo_0 a0 a1 a2 a3 a4 m = some r) : xFx hh_123 cX9_comeTo d 0 [some (.ref a0), some (.int a1), some (.int a2), some (.int a3), some (.int a4)] [] (xLay m) 0 0 none (xLay r) := by
  unfold fX9_comeTo_0 at h
  refine fx_iload_n dX9_comeTo_0 rfl rfl ?_
  refine fx_iload_n dX9_comeTo_1 rfl rfl ?_
  refine fx_icmp_ne (t := 19) dX9_comeTo_2 rfl rfl (fun hc1 => ?_) (fun hc1 => ?_)
  · rw [if_pos hc1] at h
    refine fx_aload_n dX9_comeTo_19 rfl rfl ?_
    refine fx_iload_n dX9_comeTo_20 rfl rfl ?_
    obtain ⟨p2, ep2, h⟩ := xBind_el h
    refine gx_callv (as := [.int a1]) (r := []) rfl dX9_comeTo_21 ca_9_74 rfl me_20 rfl rfl rfl rfl (ha0.1) rfl (fX9_hasHall_ok (d := d) (by omega) ha0 ep2) rfl rfl ?_
    refine fx_if_eq (t := 40) dX9_comeTo_24 rfl rfl (fun hc3 => ?_) (fun hc3 => ?_)
    · rw [if_pos hc3] at h
      exact fX9_comeTo_40_ok hd ha0 h
    · rw [if_neg hc3] at h
      refine fx_aload_n dX9_comeTo_27 rfl rfl ?_
      refine gx_getr dX9_comeTo_28 rfl fd_9_11 ha0.1 rfl rfl ?_
      refine fx_iload_n dX9_comeTo_31 rfl rfl ?_
      obtain ⟨hj4, h⟩ := xChk_el h
      obtain ⟨r5, hr5, h⟩ := xLet_el h
      refine gx_aaload (t := 4) dX9_comeTo_32 rfl ha0.2.1 rfl hj4 ((xRef_at (sl_9_0 a0) hj4).trans (congrArg some hr5)) ?_
      have hpr5 : isHall r5 := by rw [← hr5]; exact ha0.2.2.2.2.2.2.2.1 _ (xIn_lt hj4)
      refine fx_iload_n dX9_comeTo_33 rfl rfl ?_
      refine fx_iload_n dX9_comeTo_34 rfl rfl ?_
      refine fx_iload dX9_comeTo_35 rfl rfl ?_
      obtain ⟨p6, ep6, h⟩ := xBind_el h
      refine gx_callv (as := [.int a2, .int a3, .int a4]) (r := []) rfl dX9_comeTo_37 ca_9_86 rfl me_124 rfl rfl rfl rfl (hpr5.1) rfl (fX2_change_ok (d := d) (by omega) hpr5 ep6) rfl rfl ?_
      exact fX9_comeTo_40_ok hd ha0 h
  · rw [if_neg hc1] at h
    refine fx_aload_n dX9_comeTo_5 rfl rfl ?_
    refine fx_dup dX9_comeTo_6 rfl rfl ?_
    obtain ⟨x7, hx7, h⟩ := xLet_el h
    refine gx_get dX9_comeTo_7 rfl fd_9_83 ha0.1 rfl rfl hx7 ?_
    refine fx_iload dX9_comeTo_10 rfl rfl ?_
    obtain ⟨x8, hx8, h⟩ := xLet_el h
    refine fx_iadd dX9_comeTo_12 rfl hx8 ?_
    obtain ⟨m9, hm9, h⟩ := xLet_el h
    refine gx_put dX9_comeTo_13 rfl fd_9_83 ha0.1 rfl rfl rfl hm9 ?_
    refine fx_goto (t := 40) dX9_comeTo_16 rfl rfl ?_
    exact fX9_comeTo_40_ok hd ha0 h
def fX9_comeTo (a0 : Nat) (a1 : Int32) (a2 : Int32) (a3 : Int32) (a4 : Int32) (m : xMem) : Option xMem := fX9_comeTo_0 a0 a1 a2 a3 a4  m
theorem fX9_comeTo_ok {a0 : Nat} {a1 : Int32} {a2 : Int32} {a3 : Int32} {a4 : Int32} {m : xMem} {r : xMem} {d : Nat} (hd : 2 ≤ d) (ha0 : isStation a0) (h : fX9_comeTo a0 a1 a2 a3 a4 m = some r) : xEx d 123 [.ref a0, .int a1, .int a2, .int a3, .int a4] (xLay m) none (xLay r) := by
  obtain ⟨d, rfl⟩ : ∃ q, d = q + 1 := ⟨d - 1, by omega⟩
  exact xEx_of me_123 rfl (fX9_comeTo_0_ok (d := d) (by omega) ha0 h)
def fX6_letIn_108 (a0 : Nat) (a1 : Nat) (a2 : Int32) (rec19 : Nat → Int32 → xMem → Option xMem) (rec29 : Nat → Int32 → Int32 → xMem → Option xMem) (l3 : Nat) (l4 : Int32) (l5 : Int32) (m : xMem) : Option xMem := xLet (l5 + (1 : Int32)) fun x1 => rec29 l3 l4 x1 m
set_option maxRecDepth 4000 in
theorem fX6_letIn_108_ok {a0 : Nat} {a1 : Nat} {a2 : Int32} {rec19 : Nat → Int32 → xMem → Option xMem} {rec29 : Nat → Int32 → Int32 → xMem → Option xMem} {d : Nat} (hd : 2 ≤ d) (ha0 : isMover a0) (ha1 : isStation a1) (hrec19 : ∀ (l3 : Nat) (l4 : Int32) (o5 : Option Value) (o6 : Option Value) (o7 : Option Value) (q5 : xNoD o5 = true) (q6 : xNoD o6 = true) (q7 : xNoD o7 = true) (m : xMem) (r : xMem) (hl3 : isHall l3), rec19 l3 l4 m = some r → xFx hh_131 cX6_letIn d 19 [some (.ref a0), some (.ref a1), some (.int a2), some (.ref l3), some (.int l4), o5, o6, o7] [] (xLay m) 0 0 none (xLay r)) (hrec29 : ∀ (l3 : Nat) (l4 : Int32) (l5 : Int32) (o6 : Option Value) (o7 : Option Value) (q6 : xNoD o6 = true) (q7 : xNoD o7 = true) (m : xMem) (r : xMem) (hl3 : isHall l3), rec29 l3 l4 l5 m = some r → xFx hh_131 cX6_letIn d 29 [some (.ref a0), some (.ref a1), some (.int a2), some (.ref l3), some (.int l4), some (.int l5), o6, o7] [] (xLay m) 0 0 none (xLay r)) {l3 : Nat} {l4 : Int32} {l5 : Int32} {o6 : Option Value} {o7 : Option Value} {m : xMem} {r : xMem} (hl3 : isHall l3) (q6 : xNoD o6 = true) (q7 : xNoD o7 = true) (h : fX6_letIn_108 a0 a1 a2 rec19 rec29 l3 l4 l5 m = some r) : xFx hh_131 cX6_letIn d 108 [some (.ref a0), some (.ref a1), some (.int a2), some (.ref l3), some (.int l4), some (.int l5), o6, o7] [] (xLay m) 0 0 none (xLay r) := by
  unfold fX6_letIn_108 at h
  obtain ⟨x1, hx1, h⟩ := xLet_el h
  refine fx_iinc (ls2 := [some (.ref a0), some (.ref a1), some (.int a2), some (.ref l3), some (.int l4), some (.int x1), o6, o7]) dX6_letIn_108 rfl rfl rfl hx1 rfl ?_
  refine fx_goto (t := 29) dX6_letIn_111 rfl rfl ?_
  exact hrec29 l3 l4 x1 (o6) (o7) q6 q7 m r hl3 h
def fX6_letIn_76 (a0 : Nat) (a1 : Nat) (a2 : Int32) (rec19 : Nat → Int32 → xMem → Option xMem) (rec29 : Nat → Int32 → Int32 → xMem → Option xMem) (l3 : Nat) (l4 : Int32) (l5 : Int32) (l6 : Int32) (l7 : Int32) (m : xMem) : Option xMem := if l6 ≤ (0 : Int32) then fX6_letIn_108 a0 a1 a2 rec19 rec29 l3 l4 l5 m else if l7 ≤ (0 : Int32) then fX6_letIn_108 a0 a1 a2 rec19 rec29 l3 l4 l5 m else xLet (-l7) fun x3 => (fX2_changeOutside l3 l4 l5 x3 m).bind fun p4 => (fX9_comeTo a1 a2 l4 l5 l7 p4).bind fun p5 => fX6_letIn_108 a0 a1 a2 rec19 rec29 l3 l4 l5 p5
set_option maxRecDepth 4000 in
theorem fX6_letIn_76_ok {a0 : Nat} {a1 : Nat} {a2 : Int32} {rec19 : Nat → Int32 → xMem → Option xMem} {rec29 : Nat → Int32 → Int32 → xMem → Option xMem} {d : Nat} (hd : 2 ≤ d) (ha0 : isMover a0) (ha1 : isStation a1) (hrec19 : ∀ (l3 : Nat) (l4 : Int32) (o5 : Option Value) (o6 : Option Value) (o7 : Option Value) (q5 : xNoD o5 = true) (q6 : xNoD o6 = true) (q7 : xNoD o7 = true) (m : xMem) (r : xMem) (hl3 : isHall l3), rec19 l3 l4 m = some r → xFx hh_131 cX6_letIn d 19 [some (.ref a0), some (.ref a1), some (.int a2), some (.ref l3), some (.int l4), o5, o6, o7] [] (xLay m) 0 0 none (xLay r)) (hrec29 : ∀ (l3 : Nat) (l4 : Int32) (l5 : Int32) (o6 : Option Value) (o7 : Option Value) (q6 : xNoD o6 = true) (q7 : xNoD o7 = true) (m : xMem) (r : xMem) (hl3 : isHall l3), rec29 l3 l4 l5 m = some r → xFx hh_131 cX6_letIn d 29 [some (.ref a0), some (.ref a1), some (.int a2), some (.ref l3), some (.int l4), some (.int l5), o6, o7] [] (xLay m) 0 0 none (xLay r)) {l3 : Nat} {l4 : Int32} {l5 : Int32} {l6 : Int32} {l7 : Int32} {m : xMem} {r : xMem} (hl3 : isHall l3) (h : fX6_letIn_76 a0 a1 a2 rec19 rec29 l3 l4 l5 l6 l7 m = some r) : xFx hh_131 cX6_letIn d 76 [some (.ref a0), some (.ref a1), some (.int a2), some (.ref l3), some (.int l4), some (.int l5), some (.int l6), some (.int l7)] [] (xLay m) 0 0 none (xLay r) := by
  unfold fX6_letIn_76 at h
  refine fx_iload dX6_letIn_76 rfl rfl ?_
  refine fx_if_le (t := 108) dX6_letIn_78 rfl rfl (fun hc1 => ?_) (fun hc1 => ?_)
  · rw [if_pos hc1] at h
    exact fX6_letIn_108_ok (o6 := some (.int l6)) (o7 := some (.int l7)) hd ha0 ha1 hrec19 hrec29 hl3 rfl rfl h
  · rw [if_neg hc1] at h
    refine fx_iload dX6_letIn_81 rfl rfl ?_
    refine fx_if_le (t := 108) dX6_letIn_83 rfl rfl (fun hc2 => ?_) (fun hc2 => ?_)
    · rw [if_pos hc2] at h
      exact fX6_letIn_108_ok (o6 := some (.int l6)) (o7 := some (.int l7)) hd ha0 ha1 hrec19 hrec29 hl3 rfl rfl h
    · rw [if_neg hc2] at h
      refine fx_aload_n dX6_letIn_86 rfl rfl ?_
      refine fx_iload dX6_letIn_87 rfl rfl ?_
      refine fx_iload dX6_letIn_89 rfl rfl ?_
      refine fx_iload dX6_letIn_91 rfl rfl ?_
      obtain ⟨x3, hx3, h⟩ := xLet_el h
      refine fx_ineg dX6_letIn_93 rfl hx3 ?_
      obtain ⟨p4, ep4, h⟩ := xBind_el h
      refine gx_callv (as := [.int l4, .int l5, .int x3]) (r := []) rfl dX6_letIn_94 ca_6_100 rfl me_129 rfl rfl rfl rfl (hl3.1) rfl (fX2_changeOutside_ok (d := d) (by omega) hl3 ep4) rfl rfl ?_
      refine fx_aload_n dX6_letIn_97 rfl rfl ?_
      refine fx_iload_n dX6_letIn_98 rfl rfl ?_
      refine fx_iload dX6_letIn_99 rfl rfl ?_
      refine fx_iload dX6_letIn_101 rfl rfl ?_
      refine fx_iload dX6_letIn_103 rfl rfl ?_
      obtain ⟨p5, ep5, h⟩ := xBind_el h
      refine gx_callv (as := [.int a2, .int l4, .int l5, .int l7]) (r := []) rfl dX6_letIn_105 ca_6_85 rfl me_123 rfl rfl rfl rfl (ha1.1) rfl (fX9_comeTo_ok (d := d) (by omega) ha1 ep5) rfl rfl ?_
      exact fX6_letIn_108_ok (o6 := some (.int l6)) (o7 := some (.int l7)) hd ha0 ha1 hrec19 hrec29 hl3 rfl rfl h
def fX6_letIn_29 (a0 : Nat) (a1 : Nat) (a2 : Int32) (rec19 : Nat → Int32 → xMem → Option xMem) : Nat → Nat → Int32 → Int32 → xMem → Option xMem
  | 0, _, _, _, _ => none
  | fuel + 1, l3, l4, l5, m => if (1 : Int32) < l5 then xLet (l4 + (1 : Int32)) fun x2 => rec19 l3 x2 m else xLet (m.1 l3 2) fun x3 => xLet (m.1 l3 4) fun x4 => xLet (x3 - x4) fun x5 => xLet (l5 * (6 : Int32)) fun x6 => xLet (x6 + l4) fun x7 => bif xIn x7 12 then xLet (m.1 (l3 + 2) x7.toNatClampNeg) fun x8 => if l4 = a2 then fX6_letIn_76 a0 a1 a2 rec19 (fX6_letIn_29 a0 a1 a2 rec19 fuel) l3 l4 l5 x5 x8 m else xLet (xMin x8 x5) fun x11 => fX6_letIn_76 a0 a1 a2 rec19 (fX6_letIn_29 a0 a1 a2 rec19 fuel) l3 l4 l5 x5 x11 m else none
set_option maxRecDepth 4000 in
theorem fX6_letIn_29_ok {a0 : Nat} {a1 : Nat} {a2 : Int32} {rec19 : Nat → Int32 → xMem → Option xMem} {d : Nat} (hd : 2 ≤ d) (ha0 : isMover a0) (ha1 : isStation a1) (hrec19 : ∀ (l3 : Nat) (l4 : Int32) (o5 : Option Value) (o6 : Option Value) (o7 : Option Value) (q5 : xNoD o5 = true) (q6 : xNoD o6 = true) (q7 : xNoD o7 = true) (m : xMem) (r : xMem) (hl3 : isHall l3), rec19 l3 l4 m = some r → xFx hh_131 cX6_letIn d 19 [some (.ref a0), some (.ref a1), some (.int a2), some (.ref l3), some (.int l4), o5, o6, o7] [] (xLay m) 0 0 none (xLay r)) : ∀ (fuel : Nat) (l3 : Nat) (l4 : Int32) (l5 : Int32) (o6 : Option Value) (o7 : Option Value) (q6 : xNoD o6 = true) (q7 : xNoD o7 = true) (m : xMem) (r : xMem) (hl3 : isHall l3), fX6_letIn_29 a0 a1 a2 rec19 fuel l3 l4 l5 m = some r → xFx hh_131 cX6_letIn d 29 [some (.ref a0), some (.ref a1), some (.int a2), some (.ref l3), some (.int l4), some (.int l5), o6, o7] [] (xLay m) 0 0 none (xLay r) := by
  intro fuel
  induction fuel with
  | zero => intro l3 l4 l5 o6 o7 q6 q7 m r hl3 h; cases h
  | succ fuel ih =>
    intro l3 l4 l5 o6 o7 q6 q7 m r hl3 h
    unfold fX6_letIn_29 at h
    refine fx_iload dX6_letIn_29 rfl rfl ?_
    refine fx_iconst (x := 1) dX6_letIn_31 rfl (by decide) ?_
    refine fx_icmp_gt (t := 114) dX6_letIn_32 rfl rfl (fun hc1 => ?_) (fun hc1 => ?_)
    · rw [if_pos hc1] at h
      obtain ⟨x2, hx2, h⟩ := xLet_el h
      refine fx_iinc (ls2 := [some (.ref a0), some (.ref a1), some (.int a2), some (.ref l3), some (.int x2), some (.int l5), o6, o7]) dX6_letIn_114 rfl rfl rfl hx2 rfl ?_
      refine fx_goto (t := 19) dX6_letIn_117 rfl rfl ?_
      exact hrec19 l3 x2 (some (.int l5)) (o6) (o7) rfl q6 q7 m r hl3 h
    · rw [if_neg hc1] at h
      refine fx_aload_n dX6_letIn_35 rfl rfl ?_
      obtain ⟨x3, hx3, h⟩ := xLet_el h
      refine gx_get dX6_letIn_36 rfl fd_6_109 hl3.1 rfl rfl hx3 ?_
      refine fx_aload_n dX6_letIn_39 rfl rfl ?_
      obtain ⟨x4, hx4, h⟩ := xLet_el h
      refine gx_get dX6_letIn_40 rfl fd_6_106 hl3.1 rfl rfl hx4 ?_
      obtain ⟨x5, hx5, h⟩ := xLet_el h
      refine fx_isub dX6_letIn_43 rfl hx5 ?_
      refine fx_istore (ls2 := [some (.ref a0), some (.ref a1), some (.int a2), some (.ref l3), some (.int l4), some (.int l5), some (.int x5), o7]) dX6_letIn_44 rfl rfl rfl ?_
      refine fx_aload_n dX6_letIn_46 rfl rfl ?_
      refine gx_getr dX6_letIn_47 rfl fd_6_132 hl3.1 rfl rfl ?_
      refine fx_iload dX6_letIn_50 rfl rfl ?_
      refine fx_bipush (x := 6) dX6_letIn_52 rfl (by decide) ?_
      obtain ⟨x6, hx6, h⟩ := xLet_el h
      refine fx_imul dX6_letIn_54 rfl hx6 ?_
      refine fx_iload dX6_letIn_55 rfl rfl ?_
      obtain ⟨x7, hx7, h⟩ := xLet_el h
      refine fx_iadd dX6_letIn_57 rfl hx7 ?_
      obtain ⟨hj9, h⟩ := xChk_el h
      obtain ⟨x8, hx8, h⟩ := xLet_el h
      refine gx_iaload dX6_letIn_58 rfl hl3.2.2 hj9 hx8 ?_
      refine fx_istore (ls2 := [some (.ref a0), some (.ref a1), some (.int a2), some (.ref l3), some (.int l4), some (.int l5), some (.int x5), some (.int x8)]) dX6_letIn_59 rfl rfl rfl ?_
      refine fx_iload dX6_letIn_61 rfl rfl ?_
      refine fx_iload_n dX6_letIn_63 rfl rfl ?_
      refine fx_icmp_eq (t := 76) dX6_letIn_64 rfl rfl (fun hc10 => ?_) (fun hc10 => ?_)
      · rw [if_pos hc10] at h
        exact fX6_letIn_76_ok hd ha0 ha1 hrec19 ih hl3 h
      · rw [if_neg hc10] at h
        refine fx_iload dX6_letIn_67 rfl rfl ?_
        refine fx_iload dX6_letIn_69 rfl rfl ?_
        obtain ⟨x11, hx11, h⟩ := xLet_el h
        refine fx_imin dX6_letIn_71 rfl ca_6_135 rfl hx11 ?_
        refine fx_istore (ls2 := [some (.ref a0), some (.ref a1), some (.int a2), some (.ref l3), some (.int l4), some (.int l5), some (.int x5), some (.int x11)]) dX6_letIn_74 rfl rfl rfl ?_
        exact fX6_letIn_76_ok hd ha0 ha1 hrec19 ih hl3 h
def fX6_letIn_19 (a0 : Nat) (a1 : Nat) (a2 : Int32) : Nat → Nat → Int32 → xMem → Option xMem
  | 0, _, _, _ => none
  | fuel + 1, l3, l4, m => if (6 : Int32) ≤ l4 then some m else fX6_letIn_29 a0 a1 a2 (fX6_letIn_19 a0 a1 a2 fuel) xFuel l3 l4 (0 : Int32) m
set_option maxRecDepth 4000 in
theorem fX6_letIn_19_ok {a0 : Nat} {a1 : Nat} {a2 : Int32} {d : Nat} (hd : 2 ≤ d) (ha0 : isMover a0) (ha1 : isStation a1) : ∀ (fuel : Nat) (l3 : Nat) (l4 : Int32) (o5 : Option Value) (o6 : Option Value) (o7 : Option Value) (q5 : xNoD o5 = true) (q6 : xNoD o6 = true) (q7 : xNoD o7 = true) (m : xMem) (r : xMem) (hl3 : isHall l3), fX6_letIn_19 a0 a1 a2 fuel l3 l4 m = some r → xFx hh_131 cX6_letIn d 19 [some (.ref a0), some (.ref a1), some (.int a2), some (.ref l3), some (.int l4), o5, o6, o7] [] (xLay m) 0 0 none (xLay r) := by
  intro fuel
  induction fuel with
  | zero => intro l3 l4 o5 o6 o7 q5 q6 q7 m r hl3 h; cases h
  | succ fuel ih =>
    intro l3 l4 o5 o6 o7 q5 q6 q7 m r hl3 h
    unfold fX6_letIn_19 at h
    refine fx_iload dX6_letIn_19 rfl rfl ?_
    refine fx_bipush (x := 6) dX6_letIn_21 rfl (by decide) ?_
    refine fx_icmp_ge (t := 120) dX6_letIn_23 rfl rfl (fun hc1 => ?_) (fun hc1 => ?_)
    · rw [if_pos hc1] at h
      cases h
      exact fx_return dX6_letIn_120 rfl rfl
    · rw [if_neg hc1] at h
      refine fx_iconst (x := 0) dX6_letIn_26 rfl (by decide) ?_
      refine fx_istore (ls2 := [some (.ref a0), some (.ref a1), some (.int a2), some (.ref l3), some (.int l4), some (.int (0 : Int32)), o6, o7]) dX6_letIn_27 rfl rfl rfl ?_
      exact fX6_letIn_29_ok hd ha0 ha1 ih xFuel l3 l4 (0 : Int32) (o6) (o7) q6 q7 m r hl3 h
def fX6_letIn_0 (a0 : Nat) (a1 : Nat) (a2 : Int32) (m : xMem) : Option xMem := (fX9_hasHall a1 a2 m).bind fun p1 => if ¬ p1.1 = (0 : Int32) then bif xIn a2 6 then xLet (a1 + 15 + 3 * a2.toNatClampNeg) fun r4 => fX6_letIn_19 a0 a1 a2 xFuel r4 (0 : Int32) p1.2 else none else some p1.2
set_option maxRecDepth 4000 in
theorem fX6_letIn_0_ok {a0 : Nat} {a1 : Nat} {a2 : Int32} {d : Nat} (hd : 2 ≤ d) (ha0 : isMover a0) (ha1 : isStation a1) {o3 : Option Value} {o4 : Option Value} {o5 : Option Value} {o6 : Option Value} {o7 : Option Value} {m : xMem} {r : xMem} (q3 : xNoD o3 = true) (q4 : xNoD o4 = true) (q5 : xNoD o5 = true) (q6 : xNoD o6 = true) (q7 : xNoD o7 = true) (h : fX6_letIn_0 a0 a1 a2 m = some r) : xFx hh_131 cX6_letIn d 0 [some (.ref a0), some (.ref a1), some (.int a2), o3, o4, o5, o6, o7] [] (xLay m) 0 0 none (xLay r) := by
  unfold fX6_letIn_0 at h
  refine fx_aload_n dX6_letIn_0 rfl rfl ?_
  refine fx_iload_n dX6_letIn_1 rfl rfl ?_
  obtain ⟨p1, ep1, h⟩ := xBind_el h
  refine gx_callv (as := [.int a2]) (r := []) rfl dX6_letIn_2 ca_6_69 rfl me_20 rfl rfl rfl rfl (ha1.1) rfl (fX9_hasHall_ok (d := d) (by omega) ha1 ep1) rfl rfl ?_
  refine fx_if_ne (t := 9) dX6_letIn_5 rfl rfl (fun hc2 => ?_) (fun hc2 => ?_)
  · rw [if_pos hc2] at h
    refine fx_aload_n dX6_letIn_9 rfl rfl ?_
    refine gx_getr dX6_letIn_10 rfl fd_6_96 ha1.1 rfl rfl ?_
    refine fx_iload_n dX6_letIn_13 rfl rfl ?_
    obtain ⟨hj3, h⟩ := xChk_el h
    obtain ⟨r4, hr4, h⟩ := xLet_el h
    refine gx_aaload (t := 4) dX6_letIn_14 rfl ha1.2.1 rfl hj3 ((xRef_at (sl_9_0 a1) hj3).trans (congrArg some hr4)) ?_
    have hpr4 : isHall r4 := by rw [← hr4]; exact ha1.2.2.2.2.2.2.2.1 _ (xIn_lt hj3)
    refine fx_astore_n (ls2 := [some (.ref a0), some (.ref a1), some (.int a2), some (.ref r4), o4, o5, o6, o7]) dX6_letIn_15 rfl rfl rfl ?_
    refine fx_iconst (x := 0) dX6_letIn_16 rfl (by decide) ?_
    refine fx_istore (ls2 := [some (.ref a0), some (.ref a1), some (.int a2), some (.ref r4), some (.int (0 : Int32)), o5, o6, o7]) dX6_letIn_17 rfl rfl rfl ?_
    exact fX6_letIn_19_ok hd ha0 ha1 xFuel r4 (0 : Int32) (o5) (o6) (o7) q5 q6 q7 p1.2 r hpr4 h
  · rw [if_neg hc2] at h
    cases h
    exact fx_return dX6_letIn_8 rfl rfl
def fX6_letIn (a0 : Nat) (a1 : Nat) (a2 : Int32) (m : xMem) : Option xMem := fX6_letIn_0 a0 a1 a2  m
theorem fX6_letIn_ok {a0 : Nat} {a1 : Nat} {a2 : Int32} {m : xMem} {r : xMem} {d : Nat} (hd : 3 ≤ d) (ha0 : isMover a0) (ha1 : isStation a1) (h : fX6_letIn a0 a1 a2 m = some r) : xEx d 131 [.ref a0, .ref a1, .int a2] (xLay m) none (xLay r) := by
  obtain ⟨d, rfl⟩ : ∃ q, d = q + 1 := ⟨d - 1, by omega⟩
  exact xEx_of me_131 rfl (fX6_letIn_0_ok (d := d) (o3 := none) (o4 := none) (o5 := none) (o6 := none) (o7 := none) (by omega) ha0 ha1 rfl rfl rfl rfl rfl h)
def fX10_joined_141 (a0 : Int32) (a1 : Int64) (a3 : Int64) (s0 : Int64) (m : xMem) : Option (Int64 × xMem) := some (s0, m)
set_option maxRecDepth 4000 in
theorem fX10_joined_141_ok {a0 : Int32} {a1 : Int64} {a3 : Int64} {d : Nat} (hd : 0 ≤ d)  {s0 : Int64} {m : xMem} {r : (Int64 × xMem)} (h : fX10_joined_141 a0 a1 a3 s0 m = some r) : xFx hh_128 cX10_joined d 141 [some (.int a0), some (.long a1), none, some (.long a3), none] [.long s0] (xLay m) 0 0 (some (.long r.1)) (xLay r.2) := by
  unfold fX10_joined_141 at h
  cases h
  exact fx_lreturn dX10_joined_141 rfl rfl
def fX10_joined_153 (a0 : Int32) (a1 : Int64) (a3 : Int64) (s0 : Int64) (m : xMem) : Option (Int64 × xMem) := some (s0, m)
set_option maxRecDepth 4000 in
theorem fX10_joined_153_ok {a0 : Int32} {a1 : Int64} {a3 : Int64} {d : Nat} (hd : 0 ≤ d)  {s0 : Int64} {m : xMem} {r : (Int64 × xMem)} (h : fX10_joined_153 a0 a1 a3 s0 m = some r) : xFx hh_128 cX10_joined d 153 [some (.int a0), some (.long a1), none, some (.long a3), none] [.long s0] (xLay m) 0 0 (some (.long r.1)) (xLay r.2) := by
  unfold fX10_joined_153 at h
  cases h
  exact fx_lreturn dX10_joined_153 rfl rfl
def fX10_joined_165 (a0 : Int32) (a1 : Int64) (a3 : Int64) (s0 : Int64) (m : xMem) : Option (Int64 × xMem) := some (s0, m)
set_option maxRecDepth 4000 in
theorem fX10_joined_165_ok {a0 : Int32} {a1 : Int64} {a3 : Int64} {d : Nat} (hd : 0 ≤ d)  {s0 : Int64} {m : xMem} {r : (Int64 × xMem)} (h : fX10_joined_165 a0 a1 a3 s0 m = some r) : xFx hh_128 cX10_joined d 165 [some (.int a0), some (.long a1), none, some (.long a3), none] [.long s0] (xLay m) 0 0 (some (.long r.1)) (xLay r.2) := by
  unfold fX10_joined_165 at h
  cases h
  exact fx_lreturn dX10_joined_165 rfl rfl
def fX10_joined_177 (a0 : Int32) (a1 : Int64) (a3 : Int64) (s0 : Int64) (m : xMem) : Option (Int64 × xMem) := some (s0, m)
set_option maxRecDepth 4000 in
theorem fX10_joined_177_ok {a0 : Int32} {a1 : Int64} {a3 : Int64} {d : Nat} (hd : 0 ≤ d)  {s0 : Int64} {m : xMem} {r : (Int64 × xMem)} (h : fX10_joined_177 a0 a1 a3 s0 m = some r) : xFx hh_128 cX10_joined d 177 [some (.int a0), some (.long a1), none, some (.long a3), none] [.long s0] (xLay m) 0 0 (some (.long r.1)) (xLay r.2) := by
  unfold fX10_joined_177 at h
  cases h
  exact fx_lreturn dX10_joined_177 rfl rfl
def fX10_joined_189 (a0 : Int32) (a1 : Int64) (a3 : Int64) (s0 : Int64) (m : xMem) : Option (Int64 × xMem) := some (s0, m)
set_option maxRecDepth 4000 in
theorem fX10_joined_189_ok {a0 : Int32} {a1 : Int64} {a3 : Int64} {d : Nat} (hd : 0 ≤ d)  {s0 : Int64} {m : xMem} {r : (Int64 × xMem)} (h : fX10_joined_189 a0 a1 a3 s0 m = some r) : xFx hh_128 cX10_joined d 189 [some (.int a0), some (.long a1), none, some (.long a3), none] [.long s0] (xLay m) 0 0 (some (.long r.1)) (xLay r.2) := by
  unfold fX10_joined_189 at h
  cases h
  exact fx_lreturn dX10_joined_189 rfl rfl
def fX10_joined_201 (a0 : Int32) (a1 : Int64) (a3 : Int64) (s0 : Int64) (m : xMem) : Option (Int64 × xMem) := some (s0, m)
set_option maxRecDepth 4000 in
theorem fX10_joined_201_ok {a0 : Int32} {a1 : Int64} {a3 : Int64} {d : Nat} (hd : 0 ≤ d)  {s0 : Int64} {m : xMem} {r : (Int64 × xMem)} (h : fX10_joined_201 a0 a1 a3 s0 m = some r) : xFx hh_128 cX10_joined d 201 [some (.int a0), some (.long a1), none, some (.long a3), none] [.long s0] (xLay m) 0 0 (some (.long r.1)) (xLay r.2) := by
  unfold fX10_joined_201 at h
  cases h
  exact fx_lreturn dX10_joined_201 rfl rfl
def fX10_joined_129 (a0 : Int32) (a1 : Int64) (a3 : Int64) (s0 : Int64) (m : xMem) : Option (Int64 × xMem) := some (s0, m)
set_option maxRecDepth 4000 in
theorem fX10_joined_129_ok {a0 : Int32} {a1 : Int64} {a3 : Int64} {d : Nat} (hd : 0 ≤ d)  {s0 : Int64} {m : xMem} {r : (Int64 × xMem)} (h : fX10_joined_129 a0 a1 a3 s0 m = some r) : xFx hh_128 cX10_joined d 129 [some (.int a0), some (.long a1), none, some (.long a3), none] [.long s0] (xLay m) 0 0 (some (.long r.1)) (xLay r.2) := by
  unfold fX10_joined_129 at h
  cases h
  exact fx_lreturn dX10_joined_129 rfl rfl
def fX10_joined_237 (a0 : Int32) (a1 : Int64) (a3 : Int64) (s0 : Int64) (m : xMem) : Option (Int64 × xMem) := some (s0, m)
set_option maxRecDepth 4000 in
theorem fX10_joined_237_ok {a0 : Int32} {a1 : Int64} {a3 : Int64} {d : Nat} (hd : 0 ≤ d)  {s0 : Int64} {m : xMem} {r : (Int64 × xMem)} (h : fX10_joined_237 a0 a1 a3 s0 m = some r) : xFx hh_128 cX10_joined d 237 [some (.int a0), some (.long a1), none, some (.long a3), none] [.long s0] (xLay m) 0 0 (some (.long r.1)) (xLay r.2) := by
  unfold fX10_joined_237 at h
  cases h
  exact fx_lreturn dX10_joined_237 rfl rfl
def fX10_joined_232 (a0 : Int32) (a1 : Int64) (a3 : Int64) (m : xMem) : Option (Int64 × xMem) := fX10_joined_237 a0 a1 a3 (1 : Int64) m
set_option maxRecDepth 4000 in
theorem fX10_joined_232_ok {a0 : Int32} {a1 : Int64} {a3 : Int64} {d : Nat} (hd : 0 ≤ d)  {m : xMem} {r : (Int64 × xMem)} (h : fX10_joined_232 a0 a1 a3 m = some r) : xFx hh_128 cX10_joined d 232 [some (.int a0), some (.long a1), none, some (.long a3), none] [] (xLay m) 0 0 (some (.long r.1)) (xLay r.2) := by
  unfold fX10_joined_232 at h
  refine fx_lconst (x := 1) dX10_joined_232 rfl (by decide) ?_
  refine fx_goto (t := 237) dX10_joined_233 rfl rfl ?_
  exact fX10_joined_237_ok hd h
def fX10_joined_219 (a0 : Int32) (a1 : Int64) (a3 : Int64) (s0 : Int64) (m : xMem) : Option (Int64 × xMem) := some (s0, m)
set_option maxRecDepth 4000 in
theorem fX10_joined_219_ok {a0 : Int32} {a1 : Int64} {a3 : Int64} {d : Nat} (hd : 0 ≤ d)  {s0 : Int64} {m : xMem} {r : (Int64 × xMem)} (h : fX10_joined_219 a0 a1 a3 s0 m = some r) : xFx hh_128 cX10_joined d 219 [some (.int a0), some (.long a1), none, some (.long a3), none] [.long s0] (xLay m) 0 0 (some (.long r.1)) (xLay r.2) := by
  unfold fX10_joined_219 at h
  cases h
  exact fx_lreturn dX10_joined_219 rfl rfl
def fX10_joined_218 (a0 : Int32) (a1 : Int64) (a3 : Int64) (m : xMem) : Option (Int64 × xMem) := fX10_joined_219 a0 a1 a3 (0 : Int64) m
set_option maxRecDepth 4000 in
theorem fX10_joined_218_ok {a0 : Int32} {a1 : Int64} {a3 : Int64} {d : Nat} (hd : 0 ≤ d)  {m : xMem} {r : (Int64 × xMem)} (h : fX10_joined_218 a0 a1 a3 m = some r) : xFx hh_128 cX10_joined d 218 [some (.int a0), some (.long a1), none, some (.long a3), none] [] (xLay m) 0 0 (some (.long r.1)) (xLay r.2) := by
  unfold fX10_joined_218 at h
  refine fx_lconst (x := 0) dX10_joined_218 rfl (by decide) ?_
  exact fX10_joined_219_ok hd h
def fX10_joined_0 (a0 : Int32) (a1 : Int64) (a3 : Int64) (m : xMem) : Option (Int64 × xMem) := if a0 = (3 : Int32) then xLet (lg_cmp a1 a3) fun x2 => if (0 : Int32) ≤ x2 then fX10_joined_141 a0 a1 a3 (0 : Int64) m else fX10_joined_141 a0 a1 a3 (1 : Int64) m else if a0 = (4 : Int32) then xLet (lg_cmp a1 a3) fun x5 => if (0 : Int32) < x5 then fX10_joined_153 a0 a1 a3 (0 : Int64) m else fX10_joined_153 a0 a1 a3 (1 : Int64) m else if a0 = (5 : Int32) then xLet (lg_cmp a1 a3) fun x8 => if x8 ≤ (0 : Int32) then fX10_joined_165 a0 a1 a3 (0 : Int64) m else fX10_joined_165 a0 a1 a3 (1 : Int64) m else if a0 = (6 : Int32) then xLet (lg_cmp a1 a3) fun x11 => if x11 < (0 : Int32) then fX10_joined_177 a0 a1 a3 (0 : Int64) m else fX10_joined_177 a0 a1 a3 (1 : Int64) m else if a0 = (7 : Int32) then xLet (lg_cmp a1 a3) fun x14 => if ¬ x14 = (0 : Int32) then fX10_joined_189 a0 a1 a3 (0 : Int64) m else fX10_joined_189 a0 a1 a3 (1 : Int64) m else if a0 = (8 : Int32) then xLet (lg_cmp a1 a3) fun x17 => if x17 = (0 : Int32) then fX10_joined_201 a0 a1 a3 (0 : Int64) m else fX10_joined_201 a0 a1 a3 (1 : Int64) m else if a0 = (9 : Int32) then xLet (a1 + a3) fun x20 => some (x20, m) else if a0 = (10 : Int32) then xLet (a1 - a3) fun x22 => some (x22, m) else if a0 = (11 : Int32) then xLet (a1 * a3) fun x24 => some (x24, m) else if a0 = (12 : Int32) then xLet (lg_cmp a3 (0 : Int64)) fun x26 => if ¬ x26 = (0 : Int32) then bif !decide (a3 = 0) then xLet (a1 / a3) fun x28 => fX10_joined_129 a0 a1 a3 x28 m else none else fX10_joined_129 a0 a1 a3 (0 : Int64) m else if a0 = (13 : Int32) then some ((0 : Int64), m) else if a0 = (14 : Int32) then some ((0 : Int64), m) else if a0 = (15 : Int32) then some ((0 : Int64), m) else if a0 = (16 : Int32) then some ((0 : Int64), m) else if a0 = (17 : Int32) then some ((0 : Int64), m) else if a0 = (18 : Int32) then some ((0 : Int64), m) else if a0 = (19 : Int32) then some ((0 : Int64), m) else if a0 = (20 : Int32) then some ((0 : Int64), m) else if a0 = (21 : Int32) then some ((0 : Int64), m) else if a0 = (22 : Int32) then some ((0 : Int64), m) else if a0 = (23 : Int32) then xLet (lg_cmp a1 (0 : Int64)) fun x41 => if ¬ x41 = (0 : Int32) then fX10_joined_232 a0 a1 a3 m else xLet (lg_cmp a3 (0 : Int64)) fun x43 => if x43 = (0 : Int32) then fX10_joined_237 a0 a1 a3 (0 : Int64) m else fX10_joined_232 a0 a1 a3 m else if a0 = (24 : Int32) then xLet (lg_cmp a1 (0 : Int64)) fun x46 => if x46 = (0 : Int32) then fX10_joined_218 a0 a1 a3 m else xLet (lg_cmp a3 (0 : Int64)) fun x48 => if x48 = (0 : Int32) then fX10_joined_218 a0 a1 a3 m else fX10_joined_219 a0 a1 a3 (1 : Int64) m else some ((0 : Int64), m)
set_option maxRecDepth 4000 in
theorem fX10_joined_0_ok {a0 : Int32} {a1 : Int64} {a3 : Int64} {d : Nat} (hd : 0 ≤ d)  {m : xMem} {r : (Int64 × xMem)} (h : fX10_joined_0 a0 a1 a3 m = some r) : xFx hh_128 cX10_joined d 0 [some (.int a0), some (.long a1), none, some (.long a3), none] [] (xLay m) 0 0 (some (.long r.1)) (xLay r.2) := by
  unfold fX10_joined_0 at h
  refine fx_iload_n dX10_joined_0 rfl rfl ?_
  by_cases hc1 : a0 = (3 : Int32)
  · rw [if_pos hc1] at h
    refine fx_tabIn (t := 130) dX10_joined_1 rfl (by rw [hc1]; decide) (by rw [hc1]; decide) (by rw [hc1]; rfl) rfl ?_
    refine fx_lload_n dX10_joined_130 rfl rfl ?_
    refine fx_lload_n dX10_joined_131 rfl rfl ?_
    obtain ⟨x2, hx2, h⟩ := xLet_el h
    refine fx_lcmp dX10_joined_132 rfl hx2 ?_
    refine fx_if_ge (t := 140) dX10_joined_133 rfl rfl (fun hc3 => ?_) (fun hc3 => ?_)
    · rw [if_pos hc3] at h
      refine fx_lconst (x := 0) dX10_joined_140 rfl (by decide) ?_
      exact fX10_joined_141_ok hd h
    · rw [if_neg hc3] at h
      refine fx_lconst (x := 1) dX10_joined_136 rfl (by decide) ?_
      refine fx_goto (t := 141) dX10_joined_137 rfl rfl ?_
      exact fX10_joined_141_ok hd h
  · rw [if_neg hc1] at h
    by_cases hc4 : a0 = (4 : Int32)
    · rw [if_pos hc4] at h
      refine fx_tabIn (t := 142) dX10_joined_1 rfl (by rw [hc4]; decide) (by rw [hc4]; decide) (by rw [hc4]; rfl) rfl ?_
      refine fx_lload_n dX10_joined_142 rfl rfl ?_
      refine fx_lload_n dX10_joined_143 rfl rfl ?_
      obtain ⟨x5, hx5, h⟩ := xLet_el h
      refine fx_lcmp dX10_joined_144 rfl hx5 ?_
      refine fx_if_gt (t := 152) dX10_joined_145 rfl rfl (fun hc6 => ?_) (fun hc6 => ?_)
      · rw [if_pos hc6] at h
        refine fx_lconst (x := 0) dX10_joined_152 rfl (by decide) ?_
        exact fX10_joined_153_ok hd h
      · rw [if_neg hc6] at h
        refine fx_lconst (x := 1) dX10_joined_148 rfl (by decide) ?_
        refine fx_goto (t := 153) dX10_joined_149 rfl rfl ?_
        exact fX10_joined_153_ok hd h
    · rw [if_neg hc4] at h
      by_cases hc7 : a0 = (5 : Int32)
      · rw [if_pos hc7] at h
        refine fx_tabIn (t := 154) dX10_joined_1 rfl (by rw [hc7]; decide) (by rw [hc7]; decide) (by rw [hc7]; rfl) rfl ?_
        refine fx_lload_n dX10_joined_154 rfl rfl ?_
        refine fx_lload_n dX10_joined_155 rfl rfl ?_
        obtain ⟨x8, hx8, h⟩ := xLet_el h
        refine fx_lcmp dX10_joined_156 rfl hx8 ?_
        refine fx_if_le (t := 164) dX10_joined_157 rfl rfl (fun hc9 => ?_) (fun hc9 => ?_)
        · rw [if_pos hc9] at h
          refine fx_lconst (x := 0) dX10_joined_164 rfl (by decide) ?_
          exact fX10_joined_165_ok hd h
        · rw [if_neg hc9] at h
          refine fx_lconst (x := 1) dX10_joined_160 rfl (by decide) ?_
          refine fx_goto (t := 165) dX10_joined_161 rfl rfl ?_
          exact fX10_joined_165_ok hd h
      · rw [if_neg hc7] at h
        by_cases hc10 : a0 = (6 : Int32)
        · rw [if_pos hc10] at h
          refine fx_tabIn (t := 166) dX10_joined_1 rfl (by rw [hc10]; decide) (by rw [hc10]; decide) (by rw [hc10]; rfl) rfl ?_
          refine fx_lload_n dX10_joined_166 rfl rfl ?_
          refine fx_lload_n dX10_joined_167 rfl rfl ?_
          obtain ⟨x11, hx11, h⟩ := xLet_el h
          refine fx_lcmp dX10_joined_168 rfl hx11 ?_
          refine fx_if_lt (t := 176) dX10_joined_169 rfl rfl (fun hc12 => ?_) (fun hc12 => ?_)
          · rw [if_pos hc12] at h
            refine fx_lconst (x := 0) dX10_joined_176 rfl (by decide) ?_
            exact fX10_joined_177_ok hd h
          · rw [if_neg hc12] at h
            refine fx_lconst (x := 1) dX10_joined_172 rfl (by decide) ?_
            refine fx_goto (t := 177) dX10_joined_173 rfl rfl ?_
            exact fX10_joined_177_ok hd h
        · rw [if_neg hc10] at h
          by_cases hc13 : a0 = (7 : Int32)
          · rw [if_pos hc13] at h
            refine fx_tabIn (t := 178) dX10_joined_1 rfl (by rw [hc13]; decide) (by rw [hc13]; decide) (by rw [hc13]; rfl) rfl ?_
            refine fx_lload_n dX10_joined_178 rfl rfl ?_
            refine fx_lload_n dX10_joined_179 rfl rfl ?_
            obtain ⟨x14, hx14, h⟩ := xLet_el h
            refine fx_lcmp dX10_joined_180 rfl hx14 ?_
            refine fx_if_ne (t := 188) dX10_joined_181 rfl rfl (fun hc15 => ?_) (fun hc15 => ?_)
            · rw [if_pos hc15] at h
              refine fx_lconst (x := 0) dX10_joined_188 rfl (by decide) ?_
              exact fX10_joined_189_ok hd h
            · rw [if_neg hc15] at h
              refine fx_lconst (x := 1) dX10_joined_184 rfl (by decide) ?_
              refine fx_goto (t := 189) dX10_joined_185 rfl rfl ?_
              exact fX10_joined_189_ok hd h
          · rw [if_neg hc13] at h
            by_cases hc16 : a0 = (8 : Int32)
            · rw [if_pos hc16] at h
              refine fx_tabIn (t := 190) dX10_joined_1 rfl (by rw [hc16]; decide) (by rw [hc16]; decide) (by rw [hc16]; rfl) rfl ?_
              refine fx_lload_n dX10_joined_190 rfl rfl ?_
              refine fx_lload_n dX10_joined_191 rfl rfl ?_
              obtain ⟨x17, hx17, h⟩ := xLet_el h
              refine fx_lcmp dX10_joined_192 rfl hx17 ?_
              refine fx_if_eq (t := 200) dX10_joined_193 rfl rfl (fun hc18 => ?_) (fun hc18 => ?_)
              · rw [if_pos hc18] at h
                refine fx_lconst (x := 0) dX10_joined_200 rfl (by decide) ?_
                exact fX10_joined_201_ok hd h
              · rw [if_neg hc18] at h
                refine fx_lconst (x := 1) dX10_joined_196 rfl (by decide) ?_
                refine fx_goto (t := 201) dX10_joined_197 rfl rfl ?_
                exact fX10_joined_201_ok hd h
            · rw [if_neg hc16] at h
              by_cases hc19 : a0 = (9 : Int32)
              · rw [if_pos hc19] at h
                refine fx_tabIn (t := 104) dX10_joined_1 rfl (by rw [hc19]; decide) (by rw [hc19]; decide) (by rw [hc19]; rfl) rfl ?_
                refine fx_lload_n dX10_joined_104 rfl rfl ?_
                refine fx_lload_n dX10_joined_105 rfl rfl ?_
                obtain ⟨x20, hx20, h⟩ := xLet_el h
                refine fx_ladd dX10_joined_106 rfl hx20 ?_
                cases h
                exact fx_lreturn dX10_joined_107 rfl rfl
              · rw [if_neg hc19] at h
                by_cases hc21 : a0 = (10 : Int32)
                · rw [if_pos hc21] at h
                  refine fx_tabIn (t := 108) dX10_joined_1 rfl (by rw [hc21]; decide) (by rw [hc21]; decide) (by rw [hc21]; rfl) rfl ?_
                  refine fx_lload_n dX10_joined_108 rfl rfl ?_
                  refine fx_lload_n dX10_joined_109 rfl rfl ?_
                  obtain ⟨x22, hx22, h⟩ := xLet_el h
                  refine fx_lsub dX10_joined_110 rfl hx22 ?_
                  cases h
                  exact fx_lreturn dX10_joined_111 rfl rfl
                · rw [if_neg hc21] at h
                  by_cases hc23 : a0 = (11 : Int32)
                  · rw [if_pos hc23] at h
                    refine fx_tabIn (t := 112) dX10_joined_1 rfl (by rw [hc23]; decide) (by rw [hc23]; decide) (by rw [hc23]; rfl) rfl ?_
                    refine fx_lload_n dX10_joined_112 rfl rfl ?_
                    refine fx_lload_n dX10_joined_113 rfl rfl ?_
                    obtain ⟨x24, hx24, h⟩ := xLet_el h
                    refine fx_lmul dX10_joined_114 rfl hx24 ?_
                    cases h
                    exact fx_lreturn dX10_joined_115 rfl rfl
                  · rw [if_neg hc23] at h
                    by_cases hc25 : a0 = (12 : Int32)
                    · rw [if_pos hc25] at h
                      refine fx_tabIn (t := 116) dX10_joined_1 rfl (by rw [hc25]; decide) (by rw [hc25]; decide) (by rw [hc25]; rfl) rfl ?_
                      refine fx_lload_n dX10_joined_116 rfl rfl ?_
                      refine fx_lconst (x := 0) dX10_joined_117 rfl (by decide) ?_
                      obtain ⟨x26, hx26, h⟩ := xLet_el h
                      refine fx_lcmp dX10_joined_118 rfl hx26 ?_
                      refine fx_if_ne (t := 126) dX10_joined_119 rfl rfl (fun hc27 => ?_) (fun hc27 => ?_)
                      · rw [if_pos hc27] at h
                        refine fx_lload_n dX10_joined_126 rfl rfl ?_
                        refine fx_lload_n dX10_joined_127 rfl rfl ?_
                        obtain ⟨hz29, h⟩ := xChk_el h
                        obtain ⟨x28, hx28, h⟩ := xLet_el h
                        refine fx_ldiv dX10_joined_128 rfl (by simpa using hz29) hx28 ?_
                        exact fX10_joined_129_ok hd h
                      · rw [if_neg hc27] at h
                        refine fx_lconst (x := 0) dX10_joined_122 rfl (by decide) ?_
                        refine fx_goto (t := 129) dX10_joined_123 rfl rfl ?_
                        exact fX10_joined_129_ok hd h
                    · rw [if_neg hc25] at h
                      by_cases hc30 : a0 = (13 : Int32)
                      · rw [if_pos hc30] at h
                        refine fx_tabIn (t := 238) dX10_joined_1 rfl (by rw [hc30]; decide) (by rw [hc30]; decide) (by rw [hc30]; rfl) rfl ?_
                        refine fx_lconst (x := 0) dX10_joined_238 rfl (by decide) ?_
                        cases h
                        exact fx_lreturn dX10_joined_239 rfl rfl
                      · rw [if_neg hc30] at h
                        by_cases hc31 : a0 = (14 : Int32)
                        · rw [if_pos hc31] at h
                          refine fx_tabIn (t := 238) dX10_joined_1 rfl (by rw [hc31]; decide) (by rw [hc31]; decide) (by rw [hc31]; rfl) rfl ?_
                          refine fx_lconst (x := 0) dX10_joined_238 rfl (by decide) ?_
                          cases h
                          exact fx_lreturn dX10_joined_239 rfl rfl
                        · rw [if_neg hc31] at h
                          by_cases hc32 : a0 = (15 : Int32)
                          · rw [if_pos hc32] at h
                            refine fx_tabIn (t := 238) dX10_joined_1 rfl (by rw [hc32]; decide) (by rw [hc32]; decide) (by rw [hc32]; rfl) rfl ?_
                            refine fx_lconst (x := 0) dX10_joined_238 rfl (by decide) ?_
                            cases h
                            exact fx_lreturn dX10_joined_239 rfl rfl
                          · rw [if_neg hc32] at h
                            by_cases hc33 : a0 = (16 : Int32)
                            · rw [if_pos hc33] at h
                              refine fx_tabIn (t := 238) dX10_joined_1 rfl (by rw [hc33]; decide) (by rw [hc33]; decide) (by rw [hc33]; rfl) rfl ?_
                              refine fx_lconst (x := 0) dX10_joined_238 rfl (by decide) ?_
                              cases h
                              exact fx_lreturn dX10_joined_239 rfl rfl
                            · rw [if_neg hc33] at h
                              by_cases hc34 : a0 = (17 : Int32)
                              · rw [if_pos hc34] at h
                                refine fx_tabIn (t := 238) dX10_joined_1 rfl (by rw [hc34]; decide) (by rw [hc34]; decide) (by rw [hc34]; rfl) rfl ?_
                                refine fx_lconst (x := 0) dX10_joined_238 rfl (by decide) ?_
                                cases h
                                exact fx_lreturn dX10_joined_239 rfl rfl
                              · rw [if_neg hc34] at h
                                by_cases hc35 : a0 = (18 : Int32)
                                · rw [if_pos hc35] at h
                                  refine fx_tabIn (t := 238) dX10_joined_1 rfl (by rw [hc35]; decide) (by rw [hc35]; decide) (by rw [hc35]; rfl) rfl ?_
                                  refine fx_lconst (x := 0) dX10_joined_238 rfl (by decide) ?_
                                  cases h
                                  exact fx_lreturn dX10_joined_239 rfl rfl
                                · rw [if_neg hc35] at h
                                  by_cases hc36 : a0 = (19 : Int32)
                                  · rw [if_pos hc36] at h
                                    refine fx_tabIn (t := 238) dX10_joined_1 rfl (by rw [hc36]; decide) (by rw [hc36]; decide) (by rw [hc36]; rfl) rfl ?_
                                    refine fx_lconst (x := 0) dX10_joined_238 rfl (by decide) ?_
                                    cases h
                                    exact fx_lreturn dX10_joined_239 rfl rfl
                                  · rw [if_neg hc36] at h
                                    by_cases hc37 : a0 = (20 : Int32)
                                    · rw [if_pos hc37] at h
                                      refine fx_tabIn (t := 238) dX10_joined_1 rfl (by rw [hc37]; decide) (by rw [hc37]; decide) (by rw [hc37]; rfl) rfl ?_
                                      refine fx_lconst (x := 0) dX10_joined_238 rfl (by decide) ?_
                                      cases h
                                      exact fx_lreturn dX10_joined_239 rfl rfl
                                    · rw [if_neg hc37] at h
                                      by_cases hc38 : a0 = (21 : Int32)
                                      · rw [if_pos hc38] at h
                                        refine fx_tabIn (t := 238) dX10_joined_1 rfl (by rw [hc38]; decide) (by rw [hc38]; decide) (by rw [hc38]; rfl) rfl ?_
                                        refine fx_lconst (x := 0) dX10_joined_238 rfl (by decide) ?_
                                        cases h
                                        exact fx_lreturn dX10_joined_239 rfl rfl
                                      · rw [if_neg hc38] at h
                                        by_cases hc39 : a0 = (22 : Int32)
                                        · rw [if_pos hc39] at h
                                          refine fx_tabIn (t := 238) dX10_joined_1 rfl (by rw [hc39]; decide) (by rw [hc39]; decide) (by rw [hc39]; rfl) rfl ?_
                                          refine fx_lconst (x := 0) dX10_joined_238 rfl (by decide) ?_
                                          cases h
                                          exact fx_lreturn dX10_joined_239 rfl rfl
                                        · rw [if_neg hc39] at h
                                          by_cases hc40 : a0 = (23 : Int32)
                                          · rw [if_pos hc40] at h
                                            refine fx_tabIn (t := 220) dX10_joined_1 rfl (by rw [hc40]; decide) (by rw [hc40]; decide) (by rw [hc40]; rfl) rfl ?_
                                            refine fx_lload_n dX10_joined_220 rfl rfl ?_
                                            refine fx_lconst (x := 0) dX10_joined_221 rfl (by decide) ?_
                                            obtain ⟨x41, hx41, h⟩ := xLet_el h
                                            refine fx_lcmp dX10_joined_222 rfl hx41 ?_
                                            refine fx_if_ne (t := 232) dX10_joined_223 rfl rfl (fun hc42 => ?_) (fun hc42 => ?_)
                                            · rw [if_pos hc42] at h
                                              exact fX10_joined_232_ok hd h
                                            · rw [if_neg hc42] at h
                                              refine fx_lload_n dX10_joined_226 rfl rfl ?_
                                              refine fx_lconst (x := 0) dX10_joined_227 rfl (by decide) ?_
                                              obtain ⟨x43, hx43, h⟩ := xLet_el h
                                              refine fx_lcmp dX10_joined_228 rfl hx43 ?_
                                              refine fx_if_eq (t := 236) dX10_joined_229 rfl rfl (fun hc44 => ?_) (fun hc44 => ?_)
                                              · rw [if_pos hc44] at h
                                                refine fx_lconst (x := 0) dX10_joined_236 rfl (by decide) ?_
                                                exact fX10_joined_237_ok hd h
                                              · rw [if_neg hc44] at h
                                                exact fX10_joined_232_ok hd h
                                          · rw [if_neg hc40] at h
                                            by_cases hc45 : a0 = (24 : Int32)
                                            · rw [if_pos hc45] at h
                                              refine fx_tabIn (t := 202) dX10_joined_1 rfl (by rw [hc45]; decide) (by rw [hc45]; decide) (by rw [hc45]; rfl) rfl ?_
                                              refine fx_lload_n dX10_joined_202 rfl rfl ?_
                                              refine fx_lconst (x := 0) dX10_joined_203 rfl (by decide) ?_
                                              obtain ⟨x46, hx46, h⟩ := xLet_el h
                                              refine fx_lcmp dX10_joined_204 rfl hx46 ?_
                                              refine fx_if_eq (t := 218) dX10_joined_205 rfl rfl (fun hc47 => ?_) (fun hc47 => ?_)
                                              · rw [if_pos hc47] at h
                                                exact fX10_joined_218_ok hd h
                                              · rw [if_neg hc47] at h
                                                refine fx_lload_n dX10_joined_208 rfl rfl ?_
                                                refine fx_lconst (x := 0) dX10_joined_209 rfl (by decide) ?_
                                                obtain ⟨x48, hx48, h⟩ := xLet_el h
                                                refine fx_lcmp dX10_joined_210 rfl hx48 ?_
                                                refine fx_if_eq (t := 218) dX10_joined_211 rfl rfl (fun hc49 => ?_) (fun hc49 => ?_)
                                                · rw [if_pos hc49] at h
                                                  exact fX10_joined_218_ok hd h
                                                · rw [if_neg hc49] at h
                                                  refine fx_lconst (x := 1) dX10_joined_214 rfl (by decide) ?_
                                                  refine fx_goto (t := 219) dX10_joined_215 rfl rfl ?_
                                                  exact fX10_joined_219_ok hd h
                                            · rw [if_neg hc45] at h
                                              have e3 : a0.toInt ≠ 3 := fun q => hc1 (Int32.toInt_inj.mp (q.trans (by decide)))
                                              have e4 : a0.toInt ≠ 4 := fun q => hc4 (Int32.toInt_inj.mp (q.trans (by decide)))
                                              have e5 : a0.toInt ≠ 5 := fun q => hc7 (Int32.toInt_inj.mp (q.trans (by decide)))
                                              have e6 : a0.toInt ≠ 6 := fun q => hc10 (Int32.toInt_inj.mp (q.trans (by decide)))
                                              have e7 : a0.toInt ≠ 7 := fun q => hc13 (Int32.toInt_inj.mp (q.trans (by decide)))
                                              have e8 : a0.toInt ≠ 8 := fun q => hc16 (Int32.toInt_inj.mp (q.trans (by decide)))
                                              have e9 : a0.toInt ≠ 9 := fun q => hc19 (Int32.toInt_inj.mp (q.trans (by decide)))
                                              have e10 : a0.toInt ≠ 10 := fun q => hc21 (Int32.toInt_inj.mp (q.trans (by decide)))
                                              have e11 : a0.toInt ≠ 11 := fun q => hc23 (Int32.toInt_inj.mp (q.trans (by decide)))
                                              have e12 : a0.toInt ≠ 12 := fun q => hc25 (Int32.toInt_inj.mp (q.trans (by decide)))
                                              have e13 : a0.toInt ≠ 13 := fun q => hc30 (Int32.toInt_inj.mp (q.trans (by decide)))
                                              have e14 : a0.toInt ≠ 14 := fun q => hc31 (Int32.toInt_inj.mp (q.trans (by decide)))
                                              have e15 : a0.toInt ≠ 15 := fun q => hc32 (Int32.toInt_inj.mp (q.trans (by decide)))
                                              have e16 : a0.toInt ≠ 16 := fun q => hc33 (Int32.toInt_inj.mp (q.trans (by decide)))
                                              have e17 : a0.toInt ≠ 17 := fun q => hc34 (Int32.toInt_inj.mp (q.trans (by decide)))
                                              have e18 : a0.toInt ≠ 18 := fun q => hc35 (Int32.toInt_inj.mp (q.trans (by decide)))
                                              have e19 : a0.toInt ≠ 19 := fun q => hc36 (Int32.toInt_inj.mp (q.trans (by decide)))
                                              have e20 : a0.toInt ≠ 20 := fun q => hc37 (Int32.toInt_inj.mp (q.trans (by decide)))
                                              have e21 : a0.toInt ≠ 21 := fun q => hc38 (Int32.toInt_inj.mp (q.trans (by decide)))
                                              have e22 : a0.toInt ≠ 22 := fun q => hc39 (Int32.toInt_inj.mp (q.trans (by decide)))
                                              have e23 : a0.toInt ≠ 23 := fun q => hc40 (Int32.toInt_inj.mp (q.trans (by decide)))
                                              have e24 : a0.toInt ≠ 24 := fun q => hc45 (Int32.toInt_inj.mp (q.trans (by decide)))
                                              refine fx_tabOut (t := 238) dX10_joined_1 rfl (by omega) rfl ?_
                                              refine fx_lconst (x := 0) dX10_joined_238 rfl (by decide) ?_
                                              cases h
                                              exact fx_lreturn dX10_joined_239 rfl rfl
def fX10_joined (a0 : Int32) (a1 : Int64) (a3 : Int64) (m : xMem) : Option (Int64 × xMem) := fX10_joined_0 a0 a1 a3  m
theorem fX10_joined_ok {a0 : Int32} {a1 : Int64} {a3 : Int64} {m : xMem} {r : (Int64 × xMem)} {d : Nat} (hd : 1 ≤ d)  (h : fX10_joined a0 a1 a3 m = some r) : xEx d 128 [.int a0, .long a1, .long a3] (xLay m) (some (.long r.1)) (xLay r.2) := by
  obtain ⟨d, rfl⟩ : ∃ q, d = q + 1 := ⟨d - 1, by omega⟩
  exact xEx_of me_128 rfl (fX10_joined_0_ok (d := d) (by omega) h)
