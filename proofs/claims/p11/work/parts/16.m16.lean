theorem bdX11_within_0 : (decode cX11_within 0 = .ok (.iload_n 0, 1)) ∧ (decode cX11_within 1 = .ok (.iload_n 1, 1)) ∧ (decode cX11_within 2 = .ok (.if_icmp .lt 12, 3)) ∧ (decode cX11_within 5 = .ok (.iload_n 0, 1)) ∧ (decode cX11_within 6 = .ok (.iload_n 2, 1)) ∧ (decode cX11_within 7 = .ok (.if_icmp .gt 7, 3)) ∧ (decode cX11_within 10 = .ok (.iconst 1, 1)) ∧ (decode cX11_within 11 = .ok (.goto 4, 3)) ∧ (decode cX11_within 14 = .ok (.iconst 0, 1)) ∧ (decode cX11_within 15 = .ok (.ireturn, 1)) := by decide +kernel
theorem dX11_within_0 : decode cX11_within 0 = .ok (.iload_n 0, 1) := bdX11_within_0.1
theorem dX11_within_1 : decode cX11_within 1 = .ok (.iload_n 1, 1) := bdX11_within_0.2.1
theorem dX11_within_2 : decode cX11_within 2 = .ok (.if_icmp .lt 12, 3) := bdX11_within_0.2.2.1
theorem dX11_within_5 : decode cX11_within 5 = .ok (.iload_n 0, 1) := bdX11_within_0.2.2.2.1
theorem dX11_within_6 : decode cX11_within 6 = .ok (.iload_n 2, 1) := bdX11_within_0.2.2.2.2.1
theorem dX11_within_7 : decode cX11_within 7 = .ok (.if_icmp .gt 7, 3) := bdX11_within_0.2.2.2.2.2.1
theorem dX11_within_10 : decode cX11_within 10 = .ok (.iconst 1, 1) := bdX11_within_0.2.2.2.2.2.2.1
theorem dX11_within_11 : decode cX11_within 11 = .ok (.goto 4, 3) := bdX11_within_0.2.2.2.2.2.2.2.1
theorem dX11_within_14 : decode cX11_within 14 = .ok (.iconst 0, 1) := bdX11_within_0.2.2.2.2.2.2.2.2.1
theorem dX11_within_15 : decode cX11_within 15 = .ok (.ireturn, 1) := bdX11_within_0.2.2.2.2.2.2.2.2.2
theorem bdX2_build_0 : (decode cX2_build 0 = .ok (.aload_n 0, 1)) ∧ (decode cX2_build 1 = .ok (.iload_n 1, 1)) ∧ (decode cX2_build 2 = .ok (.putfield 18, 3)) ∧ (decode cX2_build 5 = .ok (.aload_n 0, 1)) ∧ (decode cX2_build 6 = .ok (.sipush 999, 3)) ∧ (decode cX2_build 9 = .ok (.putfield 22, 3)) ∧ (decode cX2_build 12 = .ok (.aload_n 0, 1)) ∧ (decode cX2_build 13 = .ok (.iconst 0, 1)) ∧ (decode cX2_build 14 = .ok (.putfield 25, 3)) ∧ (decode cX2_build 17 = .ok (.aload_n 0, 1)) ∧ (decode cX2_build 18 = .ok (.iconst 0, 1)) ∧ (decode cX2_build 19 = .ok (.putfield 28, 3)) ∧ (decode cX2_build 22 = .ok (.aload_n 0, 1)) ∧ (decode cX2_build 23 = .ok (.iconst 0, 1)) ∧ (decode cX2_build 24 = .ok (.putfield 31, 3)) ∧ (decode cX2_build 27 = .ok (.aload_n 0, 1)) := by decide +kernel
theorem dX2_build_0 : decode cX2_build 0 = .ok (.aload_n 0, 1) := bdX2_build_0.1
theorem dX2_build_1 : decode cX2_build 1 = .ok (.iload_n 1, 1) := bdX2_build_0.2.1
theorem dX2_build_2 : decode cX2_build 2 = .ok (.putfield 18, 3) := bdX2_build_0.2.2.1
theorem dX2_build_5 : decode cX2_build 5 = .ok (.aload_n 0, 1) := bdX2_build_0.2.2.2.1
theorem dX2_build_6 : decode cX2_build 6 = .ok (.sipush 999, 3) := bdX2_build_0.2.2.2.2.1
theorem dX2_build_9 : decode cX2_build 9 = .ok (.putfield 22, 3) := bdX2_build_0.2.2.2.2.2.1
theorem dX2_build_12 : decode cX2_build 12 = .ok (.aload_n 0, 1) := bdX2_build_0.2.2.2.2.2.2.1
theorem dX2_build_13 : decode cX2_build 13 = .ok (.iconst 0, 1) := bdX2_build_0.2.2.2.2.2.2.2.1
theorem dX2_build_14 : decode cX2_build 14 = .ok (.putfield 25, 3) := bdX2_build_0.2.2.2.2.2.2.2.2.1
theorem dX2_build_17 : decode cX2_build 17 = .ok (.aload_n 0, 1) := bdX2_build_0.2.2.2.2.2.2.2.2.2.1
theorem dX2_build_18 : decode cX2_build 18 = .ok (.iconst 0, 1) := bdX2_build_0.2.2.2.2.2.2.2.2.2.2.1
theorem dX2_build_19 : decode cX2_build 19 = .ok (.putfield 28, 3) := bdX2_build_0.2.2.2.2.2.2.2.2.2.2.2.1
theorem dX2_build_22 : decode cX2_build 22 = .ok (.aload_n 0, 1) := bdX2_build_0.2.2.2.2.2.2.2.2.2.2.2.2.1
theorem dX2_build_23 : decode cX2_build 23 = .ok (.iconst 0, 1) := bdX2_build_0.2.2.2.2.2.2.2.2.2.2.2.2.2.1
theorem dX2_build_24 : decode cX2_build 24 = .ok (.putfield 31, 3) := bdX2_build_0.2.2.2.2.2.2.2.2.2.2.2.2.2.2.1
theorem dX2_build_27 : decode cX2_build 27 = .ok (.aload_n 0, 1) := bdX2_build_0.2.2.2.2.2.2.2.2.2.2.2.2.2.2.2
theorem bdX2_build_28 : (decode cX2_build 28 = .ok (.iconst (-1), 1)) ∧ (decode cX2_build 29 = .ok (.putfield 34, 3)) ∧ (decode cX2_build 32 = .ok (.aload_n 0, 1)) ∧ (decode cX2_build 33 = .ok (.iconst 0, 1)) ∧ (decode cX2_build 34 = .ok (.putfield 37, 3)) ∧ (decode cX2_build 37 = .ok (.aload_n 0, 1)) ∧ (decode cX2_build 38 = .ok (.getfield 9, 3)) ∧ (decode cX2_build 41 = .ok (.iconst 0, 1)) ∧ (decode cX2_build 42 = .ok (.invokestatic 41, 3)) ∧ (decode cX2_build 45 = .ok (.aload_n 0, 1)) ∧ (decode cX2_build 46 = .ok (.getfield 15, 3)) ∧ (decode cX2_build 49 = .ok (.iconst 0, 1)) ∧ (decode cX2_build 50 = .ok (.invokestatic 41, 3)) ∧ (decode cX2_build 53 = .ok (.return_, 1)) := by decide +kernel
theorem dX2_build_28 : decode cX2_build 28 = .ok (.iconst (-1), 1) := bdX2_build_28.1
theorem dX2_build_29 : decode cX2_build 29 = .ok (.putfield 34, 3) := bdX2_build_28.2.1
theorem dX2_build_32 : decode cX2_build 32 = .ok (.aload_n 0, 1) := bdX2_build_28.2.2.1
theorem dX2_build_33 : decode cX2_build 33 = .ok (.iconst 0, 1) := bdX2_build_28.2.2.2.1
theorem dX2_build_34 : decode cX2_build 34 = .ok (.putfield 37, 3) := bdX2_build_28.2.2.2.2.1
theorem dX2_build_37 : decode cX2_build 37 = .ok (.aload_n 0, 1) := bdX2_build_28.2.2.2.2.2.1
theorem dX2_build_38 : decode cX2_build 38 = .ok (.getfield 9, 3) := bdX2_build_28.2.2.2.2.2.2.1
theorem dX2_build_41 : decode cX2_build 41 = .ok (.iconst 0, 1) := bdX2_build_28.2.2.2.2.2.2.2.1
theorem dX2_build_42 : decode cX2_build 42 = .ok (.invokestatic 41, 3) := bdX2_build_28.2.2.2.2.2.2.2.2.1
theorem dX2_build_45 : decode cX2_build 45 = .ok (.aload_n 0, 1) := bdX2_build_28.2.2.2.2.2.2.2.2.2.1
theorem dX2_build_46 : decode cX2_build 46 = .ok (.getfield 15, 3) := bdX2_build_28.2.2.2.2.2.2.2.2.2.2.1
theorem dX2_build_49 : decode cX2_build 49 = .ok (.iconst 0, 1) := bdX2_build_28.2.2.2.2.2.2.2.2.2.2.2.1
theorem dX2_build_50 : decode cX2_build 50 = .ok (.invokestatic 41, 3) := bdX2_build_28.2.2.2.2.2.2.2.2.2.2.2.2.1
theorem dX2_build_53 : decode cX2_build 53 = .ok (.return_, 1) := bdX2_build_28.2.2.2.2.2.2.2.2.2.2.2.2.2
theorem bdX11_hall_0 : (decode cX11_hall 0 = .ok (.iload_n 1, 1)) ∧ (decode cX11_hall 1 = .ok (.iconst 1, 1)) ∧ (decode cX11_hall 2 = .ok (.sipush 999, 3)) ∧ (decode cX11_hall 5 = .ok (.invokestatic 47, 3)) ∧ (decode cX11_hall 8 = .ok (.ifCond .eq 18, 3)) ∧ (decode cX11_hall 11 = .ok (.aload_n 0, 1)) ∧ (decode cX11_hall 12 = .ok (.getfield 10, 3)) ∧ (decode cX11_hall 15 = .ok (.getfield 51, 3)) ∧ (decode cX11_hall 18 = .ok (.iconst 0, 1)) ∧ (decode cX11_hall 19 = .ok (.iconst 5, 1)) ∧ (decode cX11_hall 20 = .ok (.invokestatic 47, 3)) ∧ (decode cX11_hall 23 = .ok (.ifCond .ne 5, 3)) ∧ (decode cX11_hall 26 = .ok (.iconst (-1), 1)) ∧ (decode cX11_hall 27 = .ok (.ireturn, 1)) ∧ (decode cX11_hall 28 = .ok (.aload_n 0, 1)) ∧ (decode cX11_hall 29 = .ok (.getfield 10, 3)) := by decide +kernel
theorem dX11_hall_0 : decode cX11_hall 0 = .ok (.iload_n 1, 1) := bdX11_hall_0.1
theorem dX11_hall_1 : decode cX11_hall 1 = .ok (.iconst 1, 1) := bdX11_hall_0.2.1
theorem dX11_hall_2 : decode cX11_hall 2 = .ok (.sipush 999, 3) := bdX11_hall_0.2.2.1
theorem dX11_hall_5 : decode cX11_hall 5 = .ok (.invokestatic 47, 3) := bdX11_hall_0.2.2.2.1
theorem dX11_hall_8 : decode cX11_hall 8 = .ok (.ifCond .eq 18, 3) := bdX11_hall_0.2.2.2.2.1
theorem dX11_hall_11 : decode cX11_hall 11 = .ok (.aload_n 0, 1) := bdX11_hall_0.2.2.2.2.2.1
theorem dX11_hall_12 : decode cX11_hall 12 = .ok (.getfield 10, 3) := bdX11_hall_0.2.2.2.2.2.2.1
theorem dX11_hall_15 : decode cX11_hall 15 = .ok (.getfield 51, 3) := bdX11_hall_0.2.2.2.2.2.2.2.1
theorem dX11_hall_18 : decode cX11_hall 18 = .ok (.iconst 0, 1) := bdX11_hall_0.2.2.2.2.2.2.2.2.1
theorem dX11_hall_19 : decode cX11_hall 19 = .ok (.iconst 5, 1) := bdX11_hall_0.2.2.2.2.2.2.2.2.2.1
theorem dX11_hall_20 : decode cX11_hall 20 = .ok (.invokestatic 47, 3) := bdX11_hall_0.2.2.2.2.2.2.2.2.2.2.1
theorem dX11_hall_23 : decode cX11_hall 23 = .ok (.ifCond .ne 5, 3) := bdX11_hall_0.2.2.2.2.2.2.2.2.2.2.2.1
theorem dX11_hall_26 : decode cX11_hall 26 = .ok (.iconst (-1), 1) := bdX11_hall_0.2.2.2.2.2.2.2.2.2.2.2.2.1
theorem dX11_hall_27 : decode cX11_hall 27 = .ok (.ireturn, 1) := bdX11_hall_0.2.2.2.2.2.2.2.2.2.2.2.2.2.1
theorem dX11_hall_28 : decode cX11_hall 28 = .ok (.aload_n 0, 1) := bdX11_hall_0.2.2.2.2.2.2.2.2.2.2.2.2.2.2.1
theorem dX11_hall_29 : decode cX11_hall 29 = .ok (.getfield 10, 3) := bdX11_hall_0.2.2.2.2.2.2.2.2.2.2.2.2.2.2.2
theorem bdX11_hall_32 : (decode cX11_hall 32 = .ok (.getfield 55, 3)) ∧ (decode cX11_hall 35 = .ok (.aload_n 0, 1)) ∧ (decode cX11_hall 36 = .ok (.getfield 10, 3)) ∧ (decode cX11_hall 39 = .ok (.getfield 51, 3)) ∧ (decode cX11_hall 42 = .ok (.aaload, 1)) ∧ (decode cX11_hall 43 = .ok (.iload_n 1, 1)) ∧ (decode cX11_hall 44 = .ok (.invokevirtual 59, 3)) ∧ (decode cX11_hall 47 = .ok (.aload_n 0, 1)) ∧ (decode cX11_hall 48 = .ok (.getfield 10, 3)) ∧ (decode cX11_hall 51 = .ok (.dup, 1)) ∧ (decode cX11_hall 52 = .ok (.getfield 51, 3)) ∧ (decode cX11_hall 55 = .ok (.iconst 1, 1)) ∧ (decode cX11_hall 56 = .ok (.iadd, 1)) ∧ (decode cX11_hall 57 = .ok (.putfield 51, 3)) ∧ (decode cX11_hall 60 = .ok (.aload_n 0, 1)) ∧ (decode cX11_hall 61 = .ok (.getfield 10, 3)) := by decide +kernel
theorem dX11_hall_32 : decode cX11_hall 32 = .ok (.getfield 55, 3) := bdX11_hall_32.1
theorem dX11_hall_35 : decode cX11_hall 35 = .ok (.aload_n 0, 1) := bdX11_hall_32.2.1
theorem dX11_hall_36 : decode cX11_hall 36 = .ok (.getfield 10, 3) := bdX11_hall_32.2.2.1
theorem dX11_hall_39 : decode cX11_hall 39 = .ok (.getfield 51, 3) := bdX11_hall_32.2.2.2.1
theorem dX11_hall_42 : decode cX11_hall 42 = .ok (.aaload, 1) := bdX11_hall_32.2.2.2.2.1
theorem dX11_hall_43 : decode cX11_hall 43 = .ok (.iload_n 1, 1) := bdX11_hall_32.2.2.2.2.2.1
theorem dX11_hall_44 : decode cX11_hall 44 = .ok (.invokevirtual 59, 3) := bdX11_hall_32.2.2.2.2.2.2.1
theorem dX11_hall_47 : decode cX11_hall 47 = .ok (.aload_n 0, 1) := bdX11_hall_32.2.2.2.2.2.2.2.1
theorem dX11_hall_48 : decode cX11_hall 48 = .ok (.getfield 10, 3) := bdX11_hall_32.2.2.2.2.2.2.2.2.1
theorem dX11_hall_51 : decode cX11_hall 51 = .ok (.dup, 1) := bdX11_hall_32.2.2.2.2.2.2.2.2.2.1
theorem dX11_hall_52 : decode cX11_hall 52 = .ok (.getfield 51, 3) := bdX11_hall_32.2.2.2.2.2.2.2.2.2.2.1
theorem dX11_hall_55 : decode cX11_hall 55 = .ok (.iconst 1, 1) := bdX11_hall_32.2.2.2.2.2.2.2.2.2.2.2.1
theorem dX11_hall_56 : decode cX11_hall 56 = .ok (.iadd, 1) := bdX11_hall_32.2.2.2.2.2.2.2.2.2.2.2.2.1
theorem dX11_hall_57 : decode cX11_hall 57 = .ok (.putfield 51, 3) := bdX11_hall_32.2.2.2.2.2.2.2.2.2.2.2.2.2.1
theorem dX11_hall_60 : decode cX11_hall 60 = .ok (.aload_n 0, 1) := bdX11_hall_32.2.2.2.2.2.2.2.2.2.2.2.2.2.2.1
theorem dX11_hall_61 : decode cX11_hall 61 = .ok (.getfield 10, 3) := bdX11_hall_32.2.2.2.2.2.2.2.2.2.2.2.2.2.2.2
theorem bdX11_hall_64 : (decode cX11_hall 64 = .ok (.getfield 51, 3)) ∧ (decode cX11_hall 67 = .ok (.iconst 1, 1)) ∧ (decode cX11_hall 68 = .ok (.isub, 1)) ∧ (decode cX11_hall 69 = .ok (.ireturn, 1)) := by decide +kernel
theorem dX11_hall_64 : decode cX11_hall 64 = .ok (.getfield 51, 3) := bdX11_hall_64.1
theorem dX11_hall_67 : decode cX11_hall 67 = .ok (.iconst 1, 1) := bdX11_hall_64.2.1
theorem dX11_hall_68 : decode cX11_hall 68 = .ok (.isub, 1) := bdX11_hall_64.2.2.1
theorem dX11_hall_69 : decode cX11_hall 69 = .ok (.ireturn, 1) := bdX11_hall_64.2.2.2
theorem bdX12_in_0 : (decode cX12_in 0 = .ok (.iload_n 0, 1)) ∧ (decode cX12_in 1 = .ok (.iload_n 1, 1)) ∧ (decode cX12_in 2 = .ok (.if_icmp .lt 12, 3)) ∧ (decode cX12_in 5 = .ok (.iload_n 0, 1)) ∧ (decode cX12_in 6 = .ok (.iload_n 2, 1)) ∧ (decode cX12_in 7 = .ok (.if_icmp .gt 7, 3)) ∧ (decode cX12_in 10 = .ok (.iconst 1, 1)) ∧ (decode cX12_in 11 = .ok (.goto 4, 3)) ∧ (decode cX12_in 14 = .ok (.iconst 0, 1)) ∧ (decode cX12_in 15 = .ok (.ireturn, 1)) := by decide +kernel
theorem dX12_in_0 : decode cX12_in 0 = .ok (.iload_n 0, 1) := bdX12_in_0.1
theorem dX12_in_1 : decode cX12_in 1 = .ok (.iload_n 1, 1) := bdX12_in_0.2.1
theorem dX12_in_2 : decode cX12_in 2 = .ok (.if_icmp .lt 12, 3) := bdX12_in_0.2.2.1
theorem dX12_in_5 : decode cX12_in 5 = .ok (.iload_n 0, 1) := bdX12_in_0.2.2.2.1
theorem dX12_in_6 : decode cX12_in 6 = .ok (.iload_n 2, 1) := bdX12_in_0.2.2.2.2.1
theorem dX12_in_7 : decode cX12_in 7 = .ok (.if_icmp .gt 7, 3) := bdX12_in_0.2.2.2.2.2.1
theorem dX12_in_10 : decode cX12_in 10 = .ok (.iconst 1, 1) := bdX12_in_0.2.2.2.2.2.2.1
theorem dX12_in_11 : decode cX12_in 11 = .ok (.goto 4, 3) := bdX12_in_0.2.2.2.2.2.2.2.1
theorem dX12_in_14 : decode cX12_in 14 = .ok (.iconst 0, 1) := bdX12_in_0.2.2.2.2.2.2.2.2.1
theorem dX12_in_15 : decode cX12_in 15 = .ok (.ireturn, 1) := bdX12_in_0.2.2.2.2.2.2.2.2.2
theorem bdX12_hall_0 : (decode cX12_hall 0 = .ok (.iload_n 1, 1)) ∧ (decode cX12_hall 1 = .ok (.iconst 1, 1)) ∧ (decode cX12_hall 2 = .ok (.sipush 999, 3)) ∧ (decode cX12_hall 5 = .ok (.invokestatic 95, 3)) ∧ (decode cX12_hall 8 = .ok (.ifCond .eq 14, 3)) ∧ (decode cX12_hall 11 = .ok (.aload_n 0, 1)) ∧ (decode cX12_hall 12 = .ok (.getfield 7, 3)) ∧ (decode cX12_hall 15 = .ok (.iconst 1, 1)) ∧ (decode cX12_hall 16 = .ok (.iaload, 1)) ∧ (decode cX12_hall 17 = .ok (.bipush 6, 2)) ∧ (decode cX12_hall 19 = .ok (.if_icmp .ne 5, 3)) ∧ (decode cX12_hall 22 = .ok (.iconst (-1), 1)) ∧ (decode cX12_hall 23 = .ok (.ireturn, 1)) ∧ (decode cX12_hall 24 = .ok (.bipush 20, 2)) ∧ (decode cX12_hall 26 = .ok (.iconst 4, 1)) ∧ (decode cX12_hall 27 = .ok (.aload_n 0, 1)) := by decide +kernel
theorem dX12_hall_0 : decode cX12_hall 0 = .ok (.iload_n 1, 1) := bdX12_hall_0.1
theorem dX12_hall_1 : decode cX12_hall 1 = .ok (.iconst 1, 1) := bdX12_hall_0.2.1
theorem dX12_hall_2 : decode cX12_hall 2 = .ok (.sipush 999, 3) := bdX12_hall_0.2.2.1
theorem dX12_hall_5 : decode cX12_hall 5 = .ok (.invokestatic 95, 3) := bdX12_hall_0.2.2.2.1
theorem dX12_hall_8 : decode cX12_hall 8 = .ok (.ifCond .eq 14, 3) := bdX12_hall_0.2.2.2.2.1
theorem dX12_hall_11 : decode cX12_hall 11 = .ok (.aload_n 0, 1) := bdX12_hall_0.2.2.2.2.2.1
theorem dX12_hall_12 : decode cX12_hall 12 = .ok (.getfield 7, 3) := bdX12_hall_0.2.2.2.2.2.2.1
theorem dX12_hall_15 : decode cX12_hall 15 = .ok (.iconst 1, 1) := bdX12_hall_0.2.2.2.2.2.2.2.1
theorem dX12_hall_16 : decode cX12_hall 16 = .ok (.iaload, 1) := bdX12_hall_0.2.2.2.2.2.2.2.2.1
theorem dX12_hall_17 : decode cX12_hall 17 = .ok (.bipush 6, 2) := bdX12_hall_0.2.2.2.2.2.2.2.2.2.1
theorem dX12_hall_19 : decode cX12_hall 19 = .ok (.if_icmp .ne 5, 3) := bdX12_hall_0.2.2.2.2.2.2.2.2.2.2.1
theorem dX12_hall_22 : decode cX12_hall 22 = .ok (.iconst (-1), 1) := bdX12_hall_0.2.2.2.2.2.2.2.2.2.2.2.1
theorem dX12_hall_23 : decode cX12_hall 23 = .ok (.ireturn, 1) := bdX12_hall_0.2.2.2.2.2.2.2.2.2.2.2.2.1
theorem dX12_hall_24 : decode cX12_hall 24 = .ok (.bipush 20, 2) := bdX12_hall_0.2.2.2.2.2.2.2.2.2.2.2.2.2.1
theorem dX12_hall_26 : decode cX12_hall 26 = .ok (.iconst 4, 1) := bdX12_hall_0.2.2.2.2.2.2.2.2.2.2.2.2.2.2.1
theorem dX12_hall_27 : decode cX12_hall 27 = .ok (.aload_n 0, 1) := bdX12_hall_0.2.2.2.2.2.2.2.2.2.2.2.2.2.2.2
theorem bdX12_hall_28 : (decode cX12_hall 28 = .ok (.getfield 7, 3)) ∧ (decode cX12_hall 31 = .ok (.iconst 1, 1)) ∧ (decode cX12_hall 32 = .ok (.iaload, 1)) ∧ (decode cX12_hall 33 = .ok (.imul, 1)) ∧ (decode cX12_hall 34 = .ok (.iadd, 1)) ∧ (decode cX12_hall 35 = .ok (.istore_n 2, 1)) ∧ (decode cX12_hall 36 = .ok (.aload_n 0, 1)) ∧ (decode cX12_hall 37 = .ok (.getfield 7, 3)) ∧ (decode cX12_hall 40 = .ok (.iload_n 2, 1)) ∧ (decode cX12_hall 41 = .ok (.iconst 0, 1)) ∧ (decode cX12_hall 42 = .ok (.iadd, 1)) ∧ (decode cX12_hall 43 = .ok (.iload_n 1, 1)) ∧ (decode cX12_hall 44 = .ok (.iastore, 1)) ∧ (decode cX12_hall 45 = .ok (.aload_n 0, 1)) ∧ (decode cX12_hall 46 = .ok (.getfield 7, 3)) ∧ (decode cX12_hall 49 = .ok (.iload_n 2, 1)) := by decide +kernel
theorem dX12_hall_28 : decode cX12_hall 28 = .ok (.getfield 7, 3) := bdX12_hall_28.1
theorem dX12_hall_31 : decode cX12_hall 31 = .ok (.iconst 1, 1) := bdX12_hall_28.2.1
theorem dX12_hall_32 : decode cX12_hall 32 = .ok (.iaload, 1) := bdX12_hall_28.2.2.1
theorem dX12_hall_33 : decode cX12_hall 33 = .ok (.imul, 1) := bdX12_hall_28.2.2.2.1
theorem dX12_hall_34 : decode cX12_hall 34 = .ok (.iadd, 1) := bdX12_hall_28.2.2.2.2.1
theorem dX12_hall_35 : decode cX12_hall 35 = .ok (.istore_n 2, 1) := bdX12_hall_28.2.2.2.2.2.1
theorem dX12_hall_36 : decode cX12_hall 36 = .ok (.aload_n 0, 1) := bdX12_hall_28.2.2.2.2.2.2.1
theorem dX12_hall_37 : decode cX12_hall 37 = .ok (.getfield 7, 3) := bdX12_hall_28.2.2.2.2.2.2.2.1
theorem dX12_hall_40 : decode cX12_hall 40 = .ok (.iload_n 2, 1) := bdX12_hall_28.2.2.2.2.2.2.2.2.1
theorem dX12_hall_41 : decode cX12_hall 41 = .ok (.iconst 0, 1) := bdX12_hall_28.2.2.2.2.2.2.2.2.2.1
theorem dX12_hall_42 : decode cX12_hall 42 = .ok (.iadd, 1) := bdX12_hall_28.2.2.2.2.2.2.2.2.2.2.1
theorem dX12_hall_43 : decode cX12_hall 43 = .ok (.iload_n 1, 1) := bdX12_hall_28.2.2.2.2.2.2.2.2.2.2.2.1
theorem dX12_hall_44 : decode cX12_hall 44 = .ok (.iastore, 1) := bdX12_hall_28.2.2.2.2.2.2.2.2.2.2.2.2.1
theorem dX12_hall_45 : decode cX12_hall 45 = .ok (.aload_n 0, 1) := bdX12_hall_28.2.2.2.2.2.2.2.2.2.2.2.2.2.1
theorem dX12_hall_46 : decode cX12_hall 46 = .ok (.getfield 7, 3) := bdX12_hall_28.2.2.2.2.2.2.2.2.2.2.2.2.2.2.1
theorem dX12_hall_49 : decode cX12_hall 49 = .ok (.iload_n 2, 1) := bdX12_hall_28.2.2.2.2.2.2.2.2.2.2.2.2.2.2.2
theorem bdX12_hall_50 : (decode cX12_hall 50 = .ok (.iconst 1, 1)) ∧ (decode cX12_hall 51 = .ok (.iadd, 1)) ∧ (decode cX12_hall 52 = .ok (.sipush 999, 3)) ∧ (decode cX12_hall 55 = .ok (.iastore, 1)) ∧ (decode cX12_hall 56 = .ok (.aload_n 0, 1)) ∧ (decode cX12_hall 57 = .ok (.getfield 7, 3)) ∧ (decode cX12_hall 60 = .ok (.iload_n 2, 1)) ∧ (decode cX12_hall 61 = .ok (.iconst 2, 1)) ∧ (decode cX12_hall 62 = .ok (.iadd, 1)) ∧ (decode cX12_hall 63 = .ok (.iconst 0, 1)) ∧ (decode cX12_hall 64 = .ok (.iastore, 1)) ∧ (decode cX12_hall 65 = .ok (.aload_n 0, 1)) ∧ (decode cX12_hall 66 = .ok (.getfield 7, 3)) ∧ (decode cX12_hall 69 = .ok (.iload_n 2, 1)) ∧ (decode cX12_hall 70 = .ok (.iconst 3, 1)) ∧ (decode cX12_hall 71 = .ok (.iadd, 1)) := by decide +kernel
theorem dX12_hall_50 : decode cX12_hall 50 = .ok (.iconst 1, 1) := bdX12_hall_50.1
theorem dX12_hall_51 : decode cX12_hall 51 = .ok (.iadd, 1) := bdX12_hall_50.2.1
theorem dX12_hall_52 : decode cX12_hall 52 = .ok (.sipush 999, 3) := bdX12_hall_50.2.2.1
theorem dX12_hall_55 : decode cX12_hall 55 = .ok (.iastore, 1) := bdX12_hall_50.2.2.2.1
theorem dX12_hall_56 : decode cX12_hall 56 = .ok (.aload_n 0, 1) := bdX12_hall_50.2.2.2.2.1
theorem dX12_hall_57 : decode cX12_hall 57 = .ok (.getfield 7, 3) := bdX12_hall_50.2.2.2.2.2.1
theorem dX12_hall_60 : decode cX12_hall 60 = .ok (.iload_n 2, 1) := bdX12_hall_50.2.2.2.2.2.2.1
theorem dX12_hall_61 : decode cX12_hall 61 = .ok (.iconst 2, 1) := bdX12_hall_50.2.2.2.2.2.2.2.1
theorem dX12_hall_62 : decode cX12_hall 62 = .ok (.iadd, 1) := bdX12_hall_50.2.2.2.2.2.2.2.2.1
theorem dX12_hall_63 : decode cX12_hall 63 = .ok (.iconst 0, 1) := bdX12_hall_50.2.2.2.2.2.2.2.2.2.1
theorem dX12_hall_64 : decode cX12_hall 64 = .ok (.iastore, 1) := bdX12_hall_50.2.2.2.2.2.2.2.2.2.2.1
theorem dX12_hall_65 : decode cX12_hall 65 = .ok (.aload_n 0, 1) := bdX12_hall_50.2.2.2.2.2.2.2.2.2.2.2.1
theorem dX12_hall_66 : decode cX12_hall 66 = .ok (.getfield 7, 3) := bdX12_hall_50.2.2.2.2.2.2.2.2.2.2.2.2.1
theorem dX12_hall_69 : decode cX12_hall 69 = .ok (.iload_n 2, 1) := bdX12_hall_50.2.2.2.2.2.2.2.2.2.2.2.2.2.1
theorem dX12_hall_70 : decode cX12_hall 70 = .ok (.iconst 3, 1) := bdX12_hall_50.2.2.2.2.2.2.2.2.2.2.2.2.2.2.1
theorem dX12_hall_71 : decode cX12_hall 71 = .ok (.iadd, 1) := bdX12_hall_50.2.2.2.2.2.2.2.2.2.2.2.2.2.2.2
theorem bdX12_hall_72 : (decode cX12_hall 72 = .ok (.iconst (-1), 1)) ∧ (decode cX12_hall 73 = .ok (.iastore, 1)) ∧ (decode cX12_hall 74 = .ok (.iconst 0, 1)) ∧ (decode cX12_hall 75 = .ok (.istore_n 3, 1)) ∧ (decode cX12_hall 76 = .ok (.iload_n 3, 1)) ∧ (decode cX12_hall 77 = .ok (.bipush 12, 2)) ∧ (decode cX12_hall 79 = .ok (.if_icmp .ge 50, 3)) ∧ (decode cX12_hall 82 = .ok (.aload_n 0, 1)) ∧ (decode cX12_hall 83 = .ok (.getfield 7, 3)) ∧ (decode cX12_hall 86 = .ok (.bipush 50, 2)) ∧ (decode cX12_hall 88 = .ok (.bipush 12, 2)) ∧ (decode cX12_hall 90 = .ok (.aload_n 0, 1)) ∧ (decode cX12_hall 91 = .ok (.getfield 7, 3)) ∧ (decode cX12_hall 94 = .ok (.iconst 1, 1)) ∧ (decode cX12_hall 95 = .ok (.iaload, 1)) ∧ (decode cX12_hall 96 = .ok (.imul, 1)) := by decide +kernel
theorem dX12_hall_72 : decode cX12_hall 72 = .ok (.iconst (-1), 1) := bdX12_hall_72.1
theorem dX12_hall_73 : decode cX12_hall 73 = .ok (.iastore, 1) := bdX12_hall_72.2.1
theorem dX12_hall_74 : decode cX12_hall 74 = .ok (.iconst 0, 1) := bdX12_hall_72.2.2.1
theorem dX12_hall_75 : decode cX12_hall 75 = .ok (.istore_n 3, 1) := bdX12_hall_72.2.2.2.1
theorem dX12_hall_76 : decode cX12_hall 76 = .ok (.iload_n 3, 1) := bdX12_hall_72.2.2.2.2.1
theorem dX12_hall_77 : decode cX12_hall 77 = .ok (.bipush 12, 2) := bdX12_hall_72.2.2.2.2.2.1
theorem dX12_hall_79 : decode cX12_hall 79 = .ok (.if_icmp .ge 50, 3) := bdX12_hall_72.2.2.2.2.2.2.1
theorem dX12_hall_82 : decode cX12_hall 82 = .ok (.aload_n 0, 1) := bdX12_hall_72.2.2.2.2.2.2.2.1
theorem dX12_hall_83 : decode cX12_hall 83 = .ok (.getfield 7, 3) := bdX12_hall_72.2.2.2.2.2.2.2.2.1
theorem dX12_hall_86 : decode cX12_hall 86 = .ok (.bipush 50, 2) := bdX12_hall_72.2.2.2.2.2.2.2.2.2.1
theorem dX12_hall_88 : decode cX12_hall 88 = .ok (.bipush 12, 2) := bdX12_hall_72.2.2.2.2.2.2.2.2.2.2.1
theorem dX12_hall_90 : decode cX12_hall 90 = .ok (.aload_n 0, 1) := bdX12_hall_72.2.2.2.2.2.2.2.2.2.2.2.1
theorem dX12_hall_91 : decode cX12_hall 91 = .ok (.getfield 7, 3) := bdX12_hall_72.2.2.2.2.2.2.2.2.2.2.2.2.1
theorem dX12_hall_94 : decode cX12_hall 94 = .ok (.iconst 1, 1) := bdX12_hall_72.2.2.2.2.2.2.2.2.2.2.2.2.2.1
theorem dX12_hall_95 : decode cX12_hall 95 = .ok (.iaload, 1) := bdX12_hall_72.2.2.2.2.2.2.2.2.2.2.2.2.2.2.1
theorem dX12_hall_96 : decode cX12_hall 96 = .ok (.imul, 1) := bdX12_hall_72.2.2.2.2.2.2.2.2.2.2.2.2.2.2.2
theorem bdX12_hall_97 : (decode cX12_hall 97 = .ok (.iadd, 1)) ∧ (decode cX12_hall 98 = .ok (.iload_n 3, 1)) ∧ (decode cX12_hall 99 = .ok (.iadd, 1)) ∧ (decode cX12_hall 100 = .ok (.iconst 0, 1)) ∧ (decode cX12_hall 101 = .ok (.iastore, 1)) ∧ (decode cX12_hall 102 = .ok (.aload_n 0, 1)) ∧ (decode cX12_hall 103 = .ok (.getfield 7, 3)) ∧ (decode cX12_hall 106 = .ok (.sipush 130, 3)) ∧ (decode cX12_hall 109 = .ok (.bipush 12, 2)) ∧ (decode cX12_hall 111 = .ok (.aload_n 0, 1)) ∧ (decode cX12_hall 112 = .ok (.getfield 7, 3)) ∧ (decode cX12_hall 115 = .ok (.iconst 1, 1)) ∧ (decode cX12_hall 116 = .ok (.iaload, 1)) ∧ (decode cX12_hall 117 = .ok (.imul, 1)) ∧ (decode cX12_hall 118 = .ok (.iadd, 1)) ∧ (decode cX12_hall 119 = .ok (.iload_n 3, 1)) := by decide +kernel
theorem dX12_hall_97 : decode cX12_hall 97 = .ok (.iadd, 1) := bdX12_hall_97.1
theorem dX12_hall_98 : decode cX12_hall 98 = .ok (.iload_n 3, 1) := bdX12_hall_97.2.1
theorem dX12_hall_99 : decode cX12_hall 99 = .ok (.iadd, 1) := bdX12_hall_97.2.2.1
theorem dX12_hall_100 : decode cX12_hall 100 = .ok (.iconst 0, 1) := bdX12_hall_97.2.2.2.1
theorem dX12_hall_101 : decode cX12_hall 101 = .ok (.iastore, 1) := bdX12_hall_97.2.2.2.2.1
theorem dX12_hall_102 : decode cX12_hall 102 = .ok (.aload_n 0, 1) := bdX12_hall_97.2.2.2.2.2.1
theorem dX12_hall_103 : decode cX12_hall 103 = .ok (.getfield 7, 3) := bdX12_hall_97.2.2.2.2.2.2.1
theorem dX12_hall_106 : decode cX12_hall 106 = .ok (.sipush 130, 3) := bdX12_hall_97.2.2.2.2.2.2.2.1
theorem dX12_hall_109 : decode cX12_hall 109 = .ok (.bipush 12, 2) := bdX12_hall_97.2.2.2.2.2.2.2.2.1
theorem dX12_hall_111 : decode cX12_hall 111 = .ok (.aload_n 0, 1) := bdX12_hall_97.2.2.2.2.2.2.2.2.2.1
theorem dX12_hall_112 : decode cX12_hall 112 = .ok (.getfield 7, 3) := bdX12_hall_97.2.2.2.2.2.2.2.2.2.2.1
theorem dX12_hall_115 : decode cX12_hall 115 = .ok (.iconst 1, 1) := bdX12_hall_97.2.2.2.2.2.2.2.2.2.2.2.1
theorem dX12_hall_116 : decode cX12_hall 116 = .ok (.iaload, 1) := bdX12_hall_97.2.2.2.2.2.2.2.2.2.2.2.2.1
theorem dX12_hall_117 : decode cX12_hall 117 = .ok (.imul, 1) := bdX12_hall_97.2.2.2.2.2.2.2.2.2.2.2.2.2.1
theorem dX12_hall_118 : decode cX12_hall 118 = .ok (.iadd, 1) := bdX12_hall_97.2.2.2.2.2.2.2.2.2.2.2.2.2.2.1
theorem dX12_hall_119 : decode cX12_hall 119 = .ok (.iload_n 3, 1) := bdX12_hall_97.2.2.2.2.2.2.2.2.2.2.2.2.2.2.2
theorem bdX12_hall_120 : (decode cX12_hall 120 = .ok (.iadd, 1)) ∧ (decode cX12_hall 121 = .ok (.iconst 0, 1)) ∧ (decode cX12_hall 122 = .ok (.iastore, 1)) ∧ (decode cX12_hall 123 = .ok (.iinc 3 1, 3)) ∧ (decode cX12_hall 126 = .ok (.goto (-50), 3)) ∧ (decode cX12_hall 129 = .ok (.aload_n 0, 1)) ∧ (decode cX12_hall 130 = .ok (.getfield 7, 3)) ∧ (decode cX12_hall 133 = .ok (.iconst 1, 1)) ∧ (decode cX12_hall 134 = .ok (.dup2, 1)) ∧ (decode cX12_hall 135 = .ok (.iaload, 1)) ∧ (decode cX12_hall 136 = .ok (.iconst 1, 1)) ∧ (decode cX12_hall 137 = .ok (.iadd, 1)) ∧ (decode cX12_hall 138 = .ok (.iastore, 1)) ∧ (decode cX12_hall 139 = .ok (.aload_n 0, 1)) ∧ (decode cX12_hall 140 = .ok (.getfield 7, 3)) ∧ (decode cX12_hall 143 = .ok (.iconst 1, 1)) := by decide +kernel
theorem dX12_hall_120 : decode cX12_hall 120 = .ok (.iadd, 1) := bdX12_hall_120.1
theorem dX12_hall_121 : decode cX12_hall 121 = .ok (.iconst 0, 1) := bdX12_hall_120.2.1
theorem dX12_hall_122 : decode cX12_hall 122 = .ok (.iastore, 1) := bdX12_hall_120.2.2.1
theorem dX12_hall_123 : decode cX12_hall 123 = .ok (.iinc 3 1, 3) := bdX12_hall_120.2.2.2.1
theorem dX12_hall_126 : decode cX12_hall 126 = .ok (.goto (-50), 3) := bdX12_hall_120.2.2.2.2.1
theorem dX12_hall_129 : decode cX12_hall 129 = .ok (.aload_n 0, 1) := bdX12_hall_120.2.2.2.2.2.1
theorem dX12_hall_130 : decode cX12_hall 130 = .ok (.getfield 7, 3) := bdX12_hall_120.2.2.2.2.2.2.1
theorem dX12_hall_133 : decode cX12_hall 133 = .ok (.iconst 1, 1) := bdX12_hall_120.2.2.2.2.2.2.2.1
theorem dX12_hall_134 : decode cX12_hall 134 = .ok (.dup2, 1) := bdX12_hall_120.2.2.2.2.2.2.2.2.1
theorem dX12_hall_135 : decode cX12_hall 135 = .ok (.iaload, 1) := bdX12_hall_120.2.2.2.2.2.2.2.2.2.1
theorem dX12_hall_136 : decode cX12_hall 136 = .ok (.iconst 1, 1) := bdX12_hall_120.2.2.2.2.2.2.2.2.2.2.1
theorem dX12_hall_137 : decode cX12_hall 137 = .ok (.iadd, 1) := bdX12_hall_120.2.2.2.2.2.2.2.2.2.2.2.1
theorem dX12_hall_138 : decode cX12_hall 138 = .ok (.iastore, 1) := bdX12_hall_120.2.2.2.2.2.2.2.2.2.2.2.2.1
theorem dX12_hall_139 : decode cX12_hall 139 = .ok (.aload_n 0, 1) := bdX12_hall_120.2.2.2.2.2.2.2.2.2.2.2.2.2.1
theorem dX12_hall_140 : decode cX12_hall 140 = .ok (.getfield 7, 3) := bdX12_hall_120.2.2.2.2.2.2.2.2.2.2.2.2.2.2.1
theorem dX12_hall_143 : decode cX12_hall 143 = .ok (.iconst 1, 1) := bdX12_hall_120.2.2.2.2.2.2.2.2.2.2.2.2.2.2.2
theorem bdX12_hall_144 : (decode cX12_hall 144 = .ok (.iaload, 1)) ∧ (decode cX12_hall 145 = .ok (.iconst 1, 1)) ∧ (decode cX12_hall 146 = .ok (.isub, 1)) ∧ (decode cX12_hall 147 = .ok (.ireturn, 1)) := by decide +kernel
theorem dX12_hall_144 : decode cX12_hall 144 = .ok (.iaload, 1) := bdX12_hall_144.1
theorem dX12_hall_145 : decode cX12_hall 145 = .ok (.iconst 1, 1) := bdX12_hall_144.2.1
theorem dX12_hall_146 : decode cX12_hall 146 = .ok (.isub, 1) := bdX12_hall_144.2.2.1
theorem dX12_hall_147 : decode cX12_hall 147 = .ok (.ireturn, 1) := bdX12_hall_144.2.2.2
theorem bdX9_hasHall_0 : (decode cX9_hasHall 0 = .ok (.iload_n 1, 1)) ∧ (decode cX9_hasHall 1 = .ok (.ifCond .lt 21, 3)) ∧ (decode cX9_hasHall 4 = .ok (.iload_n 1, 1)) ∧ (decode cX9_hasHall 5 = .ok (.aload_n 0, 1)) ∧ (decode cX9_hasHall 6 = .ok (.getfield 57, 3)) ∧ (decode cX9_hasHall 9 = .ok (.if_icmp .ge 13, 3)) ∧ (decode cX9_hasHall 12 = .ok (.iload_n 1, 1)) ∧ (decode cX9_hasHall 13 = .ok (.bipush 6, 2)) ∧ (decode cX9_hasHall 15 = .ok (.if_icmp .ge 7, 3)) ∧ (decode cX9_hasHall 18 = .ok (.iconst 1, 1)) ∧ (decode cX9_hasHall 19 = .ok (.goto 4, 3)) ∧ (decode cX9_hasHall 22 = .ok (.iconst 0, 1)) ∧ (decode cX9_hasHall 23 = .ok (.ireturn, 1)) := by decide +kernel
theorem dX9_hasHall_0 : decode cX9_hasHall 0 = .ok (.iload_n 1, 1) := bdX9_hasHall_0.1
theorem dX9_hasHall_1 : decode cX9_hasHall 1 = .ok (.ifCond .lt 21, 3) := bdX9_hasHall_0.2.1
theorem dX9_hasHall_4 : decode cX9_hasHall 4 = .ok (.iload_n 1, 1) := bdX9_hasHall_0.2.2.1
theorem dX9_hasHall_5 : decode cX9_hasHall 5 = .ok (.aload_n 0, 1) := bdX9_hasHall_0.2.2.2.1
theorem dX9_hasHall_6 : decode cX9_hasHall 6 = .ok (.getfield 57, 3) := bdX9_hasHall_0.2.2.2.2.1
theorem dX9_hasHall_9 : decode cX9_hasHall 9 = .ok (.if_icmp .ge 13, 3) := bdX9_hasHall_0.2.2.2.2.2.1
theorem dX9_hasHall_12 : decode cX9_hasHall 12 = .ok (.iload_n 1, 1) := bdX9_hasHall_0.2.2.2.2.2.2.1
theorem dX9_hasHall_13 : decode cX9_hasHall 13 = .ok (.bipush 6, 2) := bdX9_hasHall_0.2.2.2.2.2.2.2.1
theorem dX9_hasHall_15 : decode cX9_hasHall 15 = .ok (.if_icmp .ge 7, 3) := bdX9_hasHall_0.2.2.2.2.2.2.2.2.1
theorem dX9_hasHall_18 : decode cX9_hasHall 18 = .ok (.iconst 1, 1) := bdX9_hasHall_0.2.2.2.2.2.2.2.2.2.1
theorem dX9_hasHall_19 : decode cX9_hasHall 19 = .ok (.goto 4, 3) := bdX9_hasHall_0.2.2.2.2.2.2.2.2.2.2.1
theorem dX9_hasHall_22 : decode cX9_hasHall 22 = .ok (.iconst 0, 1) := bdX9_hasHall_0.2.2.2.2.2.2.2.2.2.2.2.1
theorem dX9_hasHall_23 : decode cX9_hasHall 23 = .ok (.ireturn, 1) := bdX9_hasHall_0.2.2.2.2.2.2.2.2.2.2.2.2
theorem bdX11_bar_0 : (decode cX11_bar 0 = .ok (.aload_n 0, 1)) ∧ (decode cX11_bar 1 = .ok (.getfield 10, 3)) ∧ (decode cX11_bar 4 = .ok (.iload_n 1, 1)) ∧ (decode cX11_bar 5 = .ok (.invokevirtual 65, 3)) ∧ (decode cX11_bar 8 = .ok (.ifCond .eq 14, 3)) ∧ (decode cX11_bar 11 = .ok (.iload_n 2, 1)) ∧ (decode cX11_bar 12 = .ok (.iconst 0, 1)) ∧ (decode cX11_bar 13 = .ok (.sipush 999, 3)) ∧ (decode cX11_bar 16 = .ok (.invokestatic 47, 3)) ∧ (decode cX11_bar 19 = .ok (.ifCond .ne 5, 3)) ∧ (decode cX11_bar 22 = .ok (.iconst 0, 1)) ∧ (decode cX11_bar 23 = .ok (.ireturn, 1)) ∧ (decode cX11_bar 24 = .ok (.aload_n 0, 1)) ∧ (decode cX11_bar 25 = .ok (.getfield 10, 3)) ∧ (decode cX11_bar 28 = .ok (.getfield 55, 3)) ∧ (decode cX11_bar 31 = .ok (.iload_n 1, 1)) := by decide +kernel
theorem dX11_bar_0 : decode cX11_bar 0 = .ok (.aload_n 0, 1) := bdX11_bar_0.1
theorem dX11_bar_1 : decode cX11_bar 1 = .ok (.getfield 10, 3) := bdX11_bar_0.2.1
theorem dX11_bar_4 : decode cX11_bar 4 = .ok (.iload_n 1, 1) := bdX11_bar_0.2.2.1
theorem dX11_bar_5 : decode cX11_bar 5 = .ok (.invokevirtual 65, 3) := bdX11_bar_0.2.2.2.1
theorem dX11_bar_8 : decode cX11_bar 8 = .ok (.ifCond .eq 14, 3) := bdX11_bar_0.2.2.2.2.1
theorem dX11_bar_11 : decode cX11_bar 11 = .ok (.iload_n 2, 1) := bdX11_bar_0.2.2.2.2.2.1
theorem dX11_bar_12 : decode cX11_bar 12 = .ok (.iconst 0, 1) := bdX11_bar_0.2.2.2.2.2.2.1
theorem dX11_bar_13 : decode cX11_bar 13 = .ok (.sipush 999, 3) := bdX11_bar_0.2.2.2.2.2.2.2.1
theorem dX11_bar_16 : decode cX11_bar 16 = .ok (.invokestatic 47, 3) := bdX11_bar_0.2.2.2.2.2.2.2.2.1
theorem dX11_bar_19 : decode cX11_bar 19 = .ok (.ifCond .ne 5, 3) := bdX11_bar_0.2.2.2.2.2.2.2.2.2.1
theorem dX11_bar_22 : decode cX11_bar 22 = .ok (.iconst 0, 1) := bdX11_bar_0.2.2.2.2.2.2.2.2.2.2.1
theorem dX11_bar_23 : decode cX11_bar 23 = .ok (.ireturn, 1) := bdX11_bar_0.2.2.2.2.2.2.2.2.2.2.2.1
theorem dX11_bar_24 : decode cX11_bar 24 = .ok (.aload_n 0, 1) := bdX11_bar_0.2.2.2.2.2.2.2.2.2.2.2.2.1
theorem dX11_bar_25 : decode cX11_bar 25 = .ok (.getfield 10, 3) := bdX11_bar_0.2.2.2.2.2.2.2.2.2.2.2.2.2.1
theorem dX11_bar_28 : decode cX11_bar 28 = .ok (.getfield 55, 3) := bdX11_bar_0.2.2.2.2.2.2.2.2.2.2.2.2.2.2.1
theorem dX11_bar_31 : decode cX11_bar 31 = .ok (.iload_n 1, 1) := bdX11_bar_0.2.2.2.2.2.2.2.2.2.2.2.2.2.2.2
theorem bdX11_bar_32 : (decode cX11_bar 32 = .ok (.aaload, 1)) ∧ (decode cX11_bar 33 = .ok (.iload_n 2, 1)) ∧ (decode cX11_bar 34 = .ok (.putfield 69, 3)) ∧ (decode cX11_bar 37 = .ok (.iconst 1, 1)) ∧ (decode cX11_bar 38 = .ok (.ireturn, 1)) := by decide +kernel
theorem dX11_bar_32 : decode cX11_bar 32 = .ok (.aaload, 1) := bdX11_bar_32.1
theorem dX11_bar_33 : decode cX11_bar 33 = .ok (.iload_n 2, 1) := bdX11_bar_32.2.1
theorem dX11_bar_34 : decode cX11_bar 34 = .ok (.putfield 69, 3) := bdX11_bar_32.2.2.1
theorem dX11_bar_37 : decode cX11_bar 37 = .ok (.iconst 1, 1) := bdX11_bar_32.2.2.2.1
theorem dX11_bar_38 : decode cX11_bar 38 = .ok (.ireturn, 1) := bdX11_bar_32.2.2.2.2
theorem bdX12_isHall_0 : (decode cX12_isHall 0 = .ok (.iload_n 1, 1)) ∧ (decode cX12_isHall 1 = .ok (.iconst 0, 1)) ∧ (decode cX12_isHall 2 = .ok (.aload_n 0, 1)) ∧ (decode cX12_isHall 3 = .ok (.getfield 7, 3)) ∧ (decode cX12_isHall 6 = .ok (.iconst 1, 1)) ∧ (decode cX12_isHall 7 = .ok (.iaload, 1)) ∧ (decode cX12_isHall 8 = .ok (.iconst 1, 1)) ∧ (decode cX12_isHall 9 = .ok (.isub, 1)) ∧ (decode cX12_isHall 10 = .ok (.invokestatic 95, 3)) ∧ (decode cX12_isHall 13 = .ok (.ireturn, 1)) := by decide +kernel
theorem dX12_isHall_0 : decode cX12_isHall 0 = .ok (.iload_n 1, 1) := bdX12_isHall_0.1
theorem dX12_isHall_1 : decode cX12_isHall 1 = .ok (.iconst 0, 1) := bdX12_isHall_0.2.1
theorem dX12_isHall_2 : decode cX12_isHall 2 = .ok (.aload_n 0, 1) := bdX12_isHall_0.2.2.1
theorem dX12_isHall_3 : decode cX12_isHall 3 = .ok (.getfield 7, 3) := bdX12_isHall_0.2.2.2.1
theorem dX12_isHall_6 : decode cX12_isHall 6 = .ok (.iconst 1, 1) := bdX12_isHall_0.2.2.2.2.1
theorem dX12_isHall_7 : decode cX12_isHall 7 = .ok (.iaload, 1) := bdX12_isHall_0.2.2.2.2.2.1
theorem dX12_isHall_8 : decode cX12_isHall 8 = .ok (.iconst 1, 1) := bdX12_isHall_0.2.2.2.2.2.2.1
theorem dX12_isHall_9 : decode cX12_isHall 9 = .ok (.isub, 1) := bdX12_isHall_0.2.2.2.2.2.2.2.1
theorem dX12_isHall_10 : decode cX12_isHall 10 = .ok (.invokestatic 95, 3) := bdX12_isHall_0.2.2.2.2.2.2.2.2.1
theorem dX12_isHall_13 : decode cX12_isHall 13 = .ok (.ireturn, 1) := bdX12_isHall_0.2.2.2.2.2.2.2.2.2
theorem bdX12_bar_0 : (decode cX12_bar 0 = .ok (.aload_n 0, 1)) ∧ (decode cX12_bar 1 = .ok (.iload_n 1, 1)) ∧ (decode cX12_bar 2 = .ok (.invokevirtual 107, 3)) ∧ (decode cX12_bar 5 = .ok (.ifCond .eq 14, 3)) ∧ (decode cX12_bar 8 = .ok (.iload_n 2, 1)) ∧ (decode cX12_bar 9 = .ok (.iconst 0, 1)) ∧ (decode cX12_bar 10 = .ok (.sipush 999, 3)) ∧ (decode cX12_bar 13 = .ok (.invokestatic 95, 3)) ∧ (decode cX12_bar 16 = .ok (.ifCond .ne 5, 3)) ∧ (decode cX12_bar 19 = .ok (.iconst 0, 1)) ∧ (decode cX12_bar 20 = .ok (.ireturn, 1)) ∧ (decode cX12_bar 21 = .ok (.aload_n 0, 1)) ∧ (decode cX12_bar 22 = .ok (.getfield 7, 3)) ∧ (decode cX12_bar 25 = .ok (.bipush 20, 2)) ∧ (decode cX12_bar 27 = .ok (.iconst 4, 1)) ∧ (decode cX12_bar 28 = .ok (.iload_n 1, 1)) := by decide +kernel
theorem dX12_bar_0 : decode cX12_bar 0 = .ok (.aload_n 0, 1) := bdX12_bar_0.1
theorem dX12_bar_1 : decode cX12_bar 1 = .ok (.iload_n 1, 1) := bdX12_bar_0.2.1
theorem dX12_bar_2 : decode cX12_bar 2 = .ok (.invokevirtual 107, 3) := bdX12_bar_0.2.2.1
theorem dX12_bar_5 : decode cX12_bar 5 = .ok (.ifCond .eq 14, 3) := bdX12_bar_0.2.2.2.1
theorem dX12_bar_8 : decode cX12_bar 8 = .ok (.iload_n 2, 1) := bdX12_bar_0.2.2.2.2.1
theorem dX12_bar_9 : decode cX12_bar 9 = .ok (.iconst 0, 1) := bdX12_bar_0.2.2.2.2.2.1
theorem dX12_bar_10 : decode cX12_bar 10 = .ok (.sipush 999, 3) := bdX12_bar_0.2.2.2.2.2.2.1
theorem dX12_bar_13 : decode cX12_bar 13 = .ok (.invokestatic 95, 3) := bdX12_bar_0.2.2.2.2.2.2.2.1
theorem dX12_bar_16 : decode cX12_bar 16 = .ok (.ifCond .ne 5, 3) := bdX12_bar_0.2.2.2.2.2.2.2.2.1
theorem dX12_bar_19 : decode cX12_bar 19 = .ok (.iconst 0, 1) := bdX12_bar_0.2.2.2.2.2.2.2.2.2.1
theorem dX12_bar_20 : decode cX12_bar 20 = .ok (.ireturn, 1) := bdX12_bar_0.2.2.2.2.2.2.2.2.2.2.1
theorem dX12_bar_21 : decode cX12_bar 21 = .ok (.aload_n 0, 1) := bdX12_bar_0.2.2.2.2.2.2.2.2.2.2.2.1
theorem dX12_bar_22 : decode cX12_bar 22 = .ok (.getfield 7, 3) := bdX12_bar_0.2.2.2.2.2.2.2.2.2.2.2.2.1
theorem dX12_bar_25 : decode cX12_bar 25 = .ok (.bipush 20, 2) := bdX12_bar_0.2.2.2.2.2.2.2.2.2.2.2.2.2.1
theorem dX12_bar_27 : decode cX12_bar 27 = .ok (.iconst 4, 1) := bdX12_bar_0.2.2.2.2.2.2.2.2.2.2.2.2.2.2.1
theorem dX12_bar_28 : decode cX12_bar 28 = .ok (.iload_n 1, 1) := bdX12_bar_0.2.2.2.2.2.2.2.2.2.2.2.2.2.2.2
theorem bdX12_bar_29 : (decode cX12_bar 29 = .ok (.imul, 1)) ∧ (decode cX12_bar 30 = .ok (.iadd, 1)) ∧ (decode cX12_bar 31 = .ok (.iconst 1, 1)) ∧ (decode cX12_bar 32 = .ok (.iadd, 1)) ∧ (decode cX12_bar 33 = .ok (.iload_n 2, 1)) ∧ (decode cX12_bar 34 = .ok (.iastore, 1)) ∧ (decode cX12_bar 35 = .ok (.iconst 1, 1)) ∧ (decode cX12_bar 36 = .ok (.ireturn, 1)) := by decide +kernel
theorem dX12_bar_29 : decode cX12_bar 29 = .ok (.imul, 1) := bdX12_bar_29.1
theorem dX12_bar_30 : decode cX12_bar 30 = .ok (.iadd, 1) := bdX12_bar_29.2.1
theorem dX12_bar_31 : decode cX12_bar 31 = .ok (.iconst 1, 1) := bdX12_bar_29.2.2.1
theorem dX12_bar_32 : decode cX12_bar 32 = .ok (.iadd, 1) := bdX12_bar_29.2.2.2.1
theorem dX12_bar_33 : decode cX12_bar 33 = .ok (.iload_n 2, 1) := bdX12_bar_29.2.2.2.2.1
theorem dX12_bar_34 : decode cX12_bar 34 = .ok (.iastore, 1) := bdX12_bar_29.2.2.2.2.2.1
theorem dX12_bar_35 : decode cX12_bar 35 = .ok (.iconst 1, 1) := bdX12_bar_29.2.2.2.2.2.2.1
theorem dX12_bar_36 : decode cX12_bar 36 = .ok (.ireturn, 1) := bdX12_bar_29.2.2.2.2.2.2.2
theorem bdX3_build_0 : (decode cX3_build 0 = .ok (.aload_n 0, 1)) ∧ (decode cX3_build 1 = .ok (.iload_n 1, 1)) ∧ (decode cX3_build 2 = .ok (.putfield 15, 3)) ∧ (decode cX3_build 5 = .ok (.aload_n 0, 1)) ∧ (decode cX3_build 6 = .ok (.iload_n 2, 1)) ∧ (decode cX3_build 7 = .ok (.putfield 19, 3)) ∧ (decode cX3_build 10 = .ok (.aload_n 0, 1)) ∧ (decode cX3_build 11 = .ok (.iload_n 3, 1)) ∧ (decode cX3_build 12 = .ok (.putfield 22, 3)) ∧ (decode cX3_build 15 = .ok (.aload_n 0, 1)) ∧ (decode cX3_build 16 = .ok (.iload 4, 2)) ∧ (decode cX3_build 18 = .ok (.putfield 25, 3)) ∧ (decode cX3_build 21 = .ok (.aload_n 0, 1)) ∧ (decode cX3_build 22 = .ok (.iload 5, 2)) ∧ (decode cX3_build 24 = .ok (.putfield 28, 3)) ∧ (decode cX3_build 27 = .ok (.aload_n 0, 1)) := by decide +kernel
theorem dX3_build_0 : decode cX3_build 0 = .ok (.aload_n 0, 1) := bdX3_build_0.1
theorem dX3_build_1 : decode cX3_build 1 = .ok (.iload_n 1, 1) := bdX3_build_0.2.1
theorem dX3_build_2 : decode cX3_build 2 = .ok (.putfield 15, 3) := bdX3_build_0.2.2.1
theorem dX3_build_5 : decode cX3_build 5 = .ok (.aload_n 0, 1) := bdX3_build_0.2.2.2.1
theorem dX3_build_6 : decode cX3_build 6 = .ok (.iload_n 2, 1) := bdX3_build_0.2.2.2.2.1
theorem dX3_build_7 : decode cX3_build 7 = .ok (.putfield 19, 3) := bdX3_build_0.2.2.2.2.2.1
theorem dX3_build_10 : decode cX3_build 10 = .ok (.aload_n 0, 1) := bdX3_build_0.2.2.2.2.2.2.1
theorem dX3_build_11 : decode cX3_build 11 = .ok (.iload_n 3, 1) := bdX3_build_0.2.2.2.2.2.2.2.1
theorem dX3_build_12 : decode cX3_build 12 = .ok (.putfield 22, 3) := bdX3_build_0.2.2.2.2.2.2.2.2.1
theorem dX3_build_15 : decode cX3_build 15 = .ok (.aload_n 0, 1) := bdX3_build_0.2.2.2.2.2.2.2.2.2.1
theorem dX3_build_16 : decode cX3_build 16 = .ok (.iload 4, 2) := bdX3_build_0.2.2.2.2.2.2.2.2.2.2.1
theorem dX3_build_18 : decode cX3_build 18 = .ok (.putfield 25, 3) := bdX3_build_0.2.2.2.2.2.2.2.2.2.2.2.1
theorem dX3_build_21 : decode cX3_build 21 = .ok (.aload_n 0, 1) := bdX3_build_0.2.2.2.2.2.2.2.2.2.2.2.2.1
theorem dX3_build_22 : decode cX3_build 22 = .ok (.iload 5, 2) := bdX3_build_0.2.2.2.2.2.2.2.2.2.2.2.2.2.1
theorem dX3_build_24 : decode cX3_build 24 = .ok (.putfield 28, 3) := bdX3_build_0.2.2.2.2.2.2.2.2.2.2.2.2.2.2.1
theorem dX3_build_27 : decode cX3_build 27 = .ok (.aload_n 0, 1) := bdX3_build_0.2.2.2.2.2.2.2.2.2.2.2.2.2.2.2
theorem bdX3_build_28 : (decode cX3_build 28 = .ok (.iload_n 1, 1)) ∧ (decode cX3_build 29 = .ok (.iconst 2, 1)) ∧ (decode cX3_build 30 = .ok (.if_icmp .ne 7, 3)) ∧ (decode cX3_build 33 = .ok (.iconst 0, 1)) ∧ (decode cX3_build 34 = .ok (.goto 4, 3)) ∧ (decode cX3_build 37 = .ok (.iconst 1, 1)) ∧ (decode cX3_build 38 = .ok (.putfield 31, 3)) ∧ (decode cX3_build 41 = .ok (.aload_n 0, 1)) ∧ (decode cX3_build 42 = .ok (.aload_n 0, 1)) ∧ (decode cX3_build 43 = .ok (.getfield 31, 3)) ∧ (decode cX3_build 46 = .ok (.putfield 34, 3)) ∧ (decode cX3_build 49 = .ok (.aload_n 0, 1)) ∧ (decode cX3_build 50 = .ok (.iconst 0, 1)) ∧ (decode cX3_build 51 = .ok (.putfield 37, 3)) ∧ (decode cX3_build 54 = .ok (.aload_n 0, 1)) ∧ (decode cX3_build 55 = .ok (.iconst 0, 1)) := by decide +kernel
theorem dX3_build_28 : decode cX3_build 28 = .ok (.iload_n 1, 1) := bdX3_build_28.1
theorem dX3_build_29 : decode cX3_build 29 = .ok (.iconst 2, 1) := bdX3_build_28.2.1
theorem dX3_build_30 : decode cX3_build 30 = .ok (.if_icmp .ne 7, 3) := bdX3_build_28.2.2.1
theorem dX3_build_33 : decode cX3_build 33 = .ok (.iconst 0, 1) := bdX3_build_28.2.2.2.1
theorem dX3_build_34 : decode cX3_build 34 = .ok (.goto 4, 3) := bdX3_build_28.2.2.2.2.1
theorem dX3_build_37 : decode cX3_build 37 = .ok (.iconst 1, 1) := bdX3_build_28.2.2.2.2.2.1
theorem dX3_build_38 : decode cX3_build 38 = .ok (.putfield 31, 3) := bdX3_build_28.2.2.2.2.2.2.1
theorem dX3_build_41 : decode cX3_build 41 = .ok (.aload_n 0, 1) := bdX3_build_28.2.2.2.2.2.2.2.1
theorem dX3_build_42 : decode cX3_build 42 = .ok (.aload_n 0, 1) := bdX3_build_28.2.2.2.2.2.2.2.2.1
theorem dX3_build_43 : decode cX3_build 43 = .ok (.getfield 31, 3) := bdX3_build_28.2.2.2.2.2.2.2.2.2.1
theorem dX3_build_46 : decode cX3_build 46 = .ok (.putfield 34, 3) := bdX3_build_28.2.2.2.2.2.2.2.2.2.2.1
theorem dX3_build_49 : decode cX3_build 49 = .ok (.aload_n 0, 1) := bdX3_build_28.2.2.2.2.2.2.2.2.2.2.2.1
theorem dX3_build_50 : decode cX3_build 50 = .ok (.iconst 0, 1) := bdX3_build_28.2.2.2.2.2.2.2.2.2.2.2.2.1
theorem dX3_build_51 : decode cX3_build 51 = .ok (.putfield 37, 3) := bdX3_build_28.2.2.2.2.2.2.2.2.2.2.2.2.2.1
theorem dX3_build_54 : decode cX3_build 54 = .ok (.aload_n 0, 1) := bdX3_build_28.2.2.2.2.2.2.2.2.2.2.2.2.2.2.1
theorem dX3_build_55 : decode cX3_build 55 = .ok (.iconst 0, 1) := bdX3_build_28.2.2.2.2.2.2.2.2.2.2.2.2.2.2.2
theorem bdX3_build_56 : (decode cX3_build 56 = .ok (.putfield 40, 3)) ∧ (decode cX3_build 59 = .ok (.aload_n 0, 1)) ∧ (decode cX3_build 60 = .ok (.iconst 0, 1)) ∧ (decode cX3_build 61 = .ok (.putfield 43, 3)) ∧ (decode cX3_build 64 = .ok (.aload_n 0, 1)) ∧ (decode cX3_build 65 = .ok (.iconst 0, 1)) ∧ (decode cX3_build 66 = .ok (.putfield 46, 3)) ∧ (decode cX3_build 69 = .ok (.aload_n 0, 1)) ∧ (decode cX3_build 70 = .ok (.iconst 1, 1)) ∧ (decode cX3_build 71 = .ok (.putfield 49, 3)) ∧ (decode cX3_build 74 = .ok (.aload_n 0, 1)) ∧ (decode cX3_build 75 = .ok (.iconst 0, 1)) ∧ (decode cX3_build 76 = .ok (.putfield 53, 3)) ∧ (decode cX3_build 79 = .ok (.aload_n 0, 1)) ∧ (decode cX3_build 80 = .ok (.getfield 9, 3)) ∧ (decode cX3_build 83 = .ok (.iconst (-1), 1)) := by decide +kernel
theorem dX3_build_56 : decode cX3_build 56 = .ok (.putfield 40, 3) := bdX3_build_56.1
theorem dX3_build_59 : decode cX3_build 59 = .ok (.aload_n 0, 1) := bdX3_build_56.2.1
theorem dX3_build_60 : decode cX3_build 60 = .ok (.iconst 0, 1) := bdX3_build_56.2.2.1
theorem dX3_build_61 : decode cX3_build 61 = .ok (.putfield 43, 3) := bdX3_build_56.2.2.2.1
theorem dX3_build_64 : decode cX3_build 64 = .ok (.aload_n 0, 1) := bdX3_build_56.2.2.2.2.1
theorem dX3_build_65 : decode cX3_build 65 = .ok (.iconst 0, 1) := bdX3_build_56.2.2.2.2.2.1
theorem dX3_build_66 : decode cX3_build 66 = .ok (.putfield 46, 3) := bdX3_build_56.2.2.2.2.2.2.1
theorem dX3_build_69 : decode cX3_build 69 = .ok (.aload_n 0, 1) := bdX3_build_56.2.2.2.2.2.2.2.1
theorem dX3_build_70 : decode cX3_build 70 = .ok (.iconst 1, 1) := bdX3_build_56.2.2.2.2.2.2.2.2.1
theorem dX3_build_71 : decode cX3_build 71 = .ok (.putfield 49, 3) := bdX3_build_56.2.2.2.2.2.2.2.2.2.1
theorem dX3_build_74 : decode cX3_build 74 = .ok (.aload_n 0, 1) := bdX3_build_56.2.2.2.2.2.2.2.2.2.2.1
theorem dX3_build_75 : decode cX3_build 75 = .ok (.iconst 0, 1) := bdX3_build_56.2.2.2.2.2.2.2.2.2.2.2.1
theorem dX3_build_76 : decode cX3_build 76 = .ok (.putfield 53, 3) := bdX3_build_56.2.2.2.2.2.2.2.2.2.2.2.2.1
theorem dX3_build_79 : decode cX3_build 79 = .ok (.aload_n 0, 1) := bdX3_build_56.2.2.2.2.2.2.2.2.2.2.2.2.2.1
theorem dX3_build_80 : decode cX3_build 80 = .ok (.getfield 9, 3) := bdX3_build_56.2.2.2.2.2.2.2.2.2.2.2.2.2.2.1
theorem dX3_build_83 : decode cX3_build 83 = .ok (.iconst (-1), 1) := bdX3_build_56.2.2.2.2.2.2.2.2.2.2.2.2.2.2.2
theorem dX3_build_84 : decode cX3_build 84 = .ok (.invokestatic 56, 3) := by decide +kernel
theorem dX3_build_87 : decode cX3_build 87 = .ok (.return_, 1) := by decide +kernel
theorem bdX11_link_0 : (decode cX11_link 0 = .ok (.aload_n 0, 1)) ∧ (decode cX11_link 1 = .ok (.getfield 10, 3)) ∧ (decode cX11_link 4 = .ok (.iload_n 2, 1)) ∧ (decode cX11_link 5 = .ok (.invokevirtual 65, 3)) ∧ (decode cX11_link 8 = .ok (.ifCond .eq 19, 3)) ∧ (decode cX11_link 11 = .ok (.aload_n 0, 1)) ∧ (decode cX11_link 12 = .ok (.getfield 10, 3)) ∧ (decode cX11_link 15 = .ok (.iload_n 3, 1)) ∧ (decode cX11_link 16 = .ok (.invokevirtual 65, 3)) ∧ (decode cX11_link 19 = .ok (.ifCond .eq 8, 3)) ∧ (decode cX11_link 22 = .ok (.iload_n 2, 1)) ∧ (decode cX11_link 23 = .ok (.iload_n 3, 1)) ∧ (decode cX11_link 24 = .ok (.if_icmp .ne 5, 3)) ∧ (decode cX11_link 27 = .ok (.iconst (-1), 1)) ∧ (decode cX11_link 28 = .ok (.ireturn, 1)) ∧ (decode cX11_link 29 = .ok (.iload_n 1, 1)) := by decide +kernel
theorem dX11_link_0 : decode cX11_link 0 = .ok (.aload_n 0, 1) := bdX11_link_0.1
theorem dX11_link_1 : decode cX11_link 1 = .ok (.getfield 10, 3) := bdX11_link_0.2.1
theorem dX11_link_4 : decode cX11_link 4 = .ok (.iload_n 2, 1) := bdX11_link_0.2.2.1
theorem dX11_link_5 : decode cX11_link 5 = .ok (.invokevirtual 65, 3) := bdX11_link_0.2.2.2.1
theorem dX11_link_8 : decode cX11_link 8 = .ok (.ifCond .eq 19, 3) := bdX11_link_0.2.2.2.2.1
theorem dX11_link_11 : decode cX11_link 11 = .ok (.aload_n 0, 1) := bdX11_link_0.2.2.2.2.2.1
theorem dX11_link_12 : decode cX11_link 12 = .ok (.getfield 10, 3) := bdX11_link_0.2.2.2.2.2.2.1
theorem dX11_link_15 : decode cX11_link 15 = .ok (.iload_n 3, 1) := bdX11_link_0.2.2.2.2.2.2.2.1
theorem dX11_link_16 : decode cX11_link 16 = .ok (.invokevirtual 65, 3) := bdX11_link_0.2.2.2.2.2.2.2.2.1
theorem dX11_link_19 : decode cX11_link 19 = .ok (.ifCond .eq 8, 3) := bdX11_link_0.2.2.2.2.2.2.2.2.2.1
theorem dX11_link_22 : decode cX11_link 22 = .ok (.iload_n 2, 1) := bdX11_link_0.2.2.2.2.2.2.2.2.2.2.1
theorem dX11_link_23 : decode cX11_link 23 = .ok (.iload_n 3, 1) := bdX11_link_0.2.2.2.2.2.2.2.2.2.2.2.1
theorem dX11_link_24 : decode cX11_link 24 = .ok (.if_icmp .ne 5, 3) := bdX11_link_0.2.2.2.2.2.2.2.2.2.2.2.2.1
theorem dX11_link_27 : decode cX11_link 27 = .ok (.iconst (-1), 1) := bdX11_link_0.2.2.2.2.2.2.2.2.2.2.2.2.2.1
theorem dX11_link_28 : decode cX11_link 28 = .ok (.ireturn, 1) := bdX11_link_0.2.2.2.2.2.2.2.2.2.2.2.2.2.2.1
theorem dX11_link_29 : decode cX11_link 29 = .ok (.iload_n 1, 1) := bdX11_link_0.2.2.2.2.2.2.2.2.2.2.2.2.2.2.2
theorem bdX11_link_30 : (decode cX11_link 30 = .ok (.ifCond .eq 8, 3)) ∧ (decode cX11_link 33 = .ok (.iload_n 1, 1)) ∧ (decode cX11_link 34 = .ok (.iconst 1, 1)) ∧ (decode cX11_link 35 = .ok (.if_icmp .ne 18, 3)) ∧ (decode cX11_link 38 = .ok (.iload 4, 2)) ∧ (decode cX11_link 40 = .ok (.iconst 2, 1)) ∧ (decode cX11_link 41 = .ok (.bipush 40, 2)) ∧ (decode cX11_link 43 = .ok (.invokestatic 47, 3)) ∧ (decode cX11_link 46 = .ok (.ifCond .eq 7, 3)) ∧ (decode cX11_link 49 = .ok (.iconst 1, 1)) ∧ (decode cX11_link 50 = .ok (.goto 4, 3)) ∧ (decode cX11_link 53 = .ok (.iconst 0, 1)) ∧ (decode cX11_link 54 = .ok (.istore 6, 2)) ∧ (decode cX11_link 56 = .ok (.iload_n 1, 1)) ∧ (decode cX11_link 57 = .ok (.iconst 2, 1)) ∧ (decode cX11_link 58 = .ok (.if_icmp .ne 29, 3)) := by decide +kernel
theorem dX11_link_30 : decode cX11_link 30 = .ok (.ifCond .eq 8, 3) := bdX11_link_30.1
theorem dX11_link_33 : decode cX11_link 33 = .ok (.iload_n 1, 1) := bdX11_link_30.2.1
theorem dX11_link_34 : decode cX11_link 34 = .ok (.iconst 1, 1) := bdX11_link_30.2.2.1
theorem dX11_link_35 : decode cX11_link 35 = .ok (.if_icmp .ne 18, 3) := bdX11_link_30.2.2.2.1
theorem dX11_link_38 : decode cX11_link 38 = .ok (.iload 4, 2) := bdX11_link_30.2.2.2.2.1
theorem dX11_link_40 : decode cX11_link 40 = .ok (.iconst 2, 1) := bdX11_link_30.2.2.2.2.2.1
theorem dX11_link_41 : decode cX11_link 41 = .ok (.bipush 40, 2) := bdX11_link_30.2.2.2.2.2.2.1
theorem dX11_link_43 : decode cX11_link 43 = .ok (.invokestatic 47, 3) := bdX11_link_30.2.2.2.2.2.2.2.1
theorem dX11_link_46 : decode cX11_link 46 = .ok (.ifCond .eq 7, 3) := bdX11_link_30.2.2.2.2.2.2.2.2.1
theorem dX11_link_49 : decode cX11_link 49 = .ok (.iconst 1, 1) := bdX11_link_30.2.2.2.2.2.2.2.2.2.1
theorem dX11_link_50 : decode cX11_link 50 = .ok (.goto 4, 3) := bdX11_link_30.2.2.2.2.2.2.2.2.2.2.1
theorem dX11_link_53 : decode cX11_link 53 = .ok (.iconst 0, 1) := bdX11_link_30.2.2.2.2.2.2.2.2.2.2.2.1
theorem dX11_link_54 : decode cX11_link 54 = .ok (.istore 6, 2) := bdX11_link_30.2.2.2.2.2.2.2.2.2.2.2.2.1
theorem dX11_link_56 : decode cX11_link 56 = .ok (.iload_n 1, 1) := bdX11_link_30.2.2.2.2.2.2.2.2.2.2.2.2.2.1
theorem dX11_link_57 : decode cX11_link 57 = .ok (.iconst 2, 1) := bdX11_link_30.2.2.2.2.2.2.2.2.2.2.2.2.2.2.1
theorem dX11_link_58 : decode cX11_link 58 = .ok (.if_icmp .ne 29, 3) := bdX11_link_30.2.2.2.2.2.2.2.2.2.2.2.2.2.2.2
theorem bdX11_link_61 : (decode cX11_link 61 = .ok (.iload 4, 2)) ∧ (decode cX11_link 63 = .ok (.iconst 1, 1)) ∧ (decode cX11_link 64 = .ok (.bipush 20, 2)) ∧ (decode cX11_link 66 = .ok (.invokestatic 47, 3)) ∧ (decode cX11_link 69 = .ok (.ifCond .eq 18, 3)) ∧ (decode cX11_link 72 = .ok (.iload 5, 2)) ∧ (decode cX11_link 74 = .ok (.iconst 2, 1)) ∧ (decode cX11_link 75 = .ok (.bipush 99, 2)) ∧ (decode cX11_link 77 = .ok (.invokestatic 47, 3)) ∧ (decode cX11_link 80 = .ok (.ifCond .eq 7, 3)) ∧ (decode cX11_link 83 = .ok (.iconst 1, 1)) ∧ (decode cX11_link 84 = .ok (.goto 4, 3)) ∧ (decode cX11_link 87 = .ok (.iconst 0, 1)) ∧ (decode cX11_link 88 = .ok (.istore 7, 2)) ∧ (decode cX11_link 90 = .ok (.iload 6, 2)) ∧ (decode cX11_link 92 = .ok (.ifCond .ne 8, 3)) := by decide +kernel
theorem dX11_link_61 : decode cX11_link 61 = .ok (.iload 4, 2) := bdX11_link_61.1
theorem dX11_link_63 : decode cX11_link 63 = .ok (.iconst 1, 1) := bdX11_link_61.2.1
theorem dX11_link_64 : decode cX11_link 64 = .ok (.bipush 20, 2) := bdX11_link_61.2.2.1
theorem dX11_link_66 : decode cX11_link 66 = .ok (.invokestatic 47, 3) := bdX11_link_61.2.2.2.1
theorem dX11_link_69 : decode cX11_link 69 = .ok (.ifCond .eq 18, 3) := bdX11_link_61.2.2.2.2.1
theorem dX11_link_72 : decode cX11_link 72 = .ok (.iload 5, 2) := bdX11_link_61.2.2.2.2.2.1
theorem dX11_link_74 : decode cX11_link 74 = .ok (.iconst 2, 1) := bdX11_link_61.2.2.2.2.2.2.1
theorem dX11_link_75 : decode cX11_link 75 = .ok (.bipush 99, 2) := bdX11_link_61.2.2.2.2.2.2.2.1
theorem dX11_link_77 : decode cX11_link 77 = .ok (.invokestatic 47, 3) := bdX11_link_61.2.2.2.2.2.2.2.2.1
theorem dX11_link_80 : decode cX11_link 80 = .ok (.ifCond .eq 7, 3) := bdX11_link_61.2.2.2.2.2.2.2.2.2.1
theorem dX11_link_83 : decode cX11_link 83 = .ok (.iconst 1, 1) := bdX11_link_61.2.2.2.2.2.2.2.2.2.2.1
theorem dX11_link_84 : decode cX11_link 84 = .ok (.goto 4, 3) := bdX11_link_61.2.2.2.2.2.2.2.2.2.2.2.1
theorem dX11_link_87 : decode cX11_link 87 = .ok (.iconst 0, 1) := bdX11_link_61.2.2.2.2.2.2.2.2.2.2.2.2.1
theorem dX11_link_88 : decode cX11_link 88 = .ok (.istore 7, 2) := bdX11_link_61.2.2.2.2.2.2.2.2.2.2.2.2.2.1
theorem dX11_link_90 : decode cX11_link 90 = .ok (.iload 6, 2) := bdX11_link_61.2.2.2.2.2.2.2.2.2.2.2.2.2.2.1
theorem dX11_link_92 : decode cX11_link 92 = .ok (.ifCond .ne 8, 3) := bdX11_link_61.2.2.2.2.2.2.2.2.2.2.2.2.2.2.2
theorem bdX11_link_95 : (decode cX11_link 95 = .ok (.iload 7, 2)) ∧ (decode cX11_link 97 = .ok (.ifCond .eq 19, 3)) ∧ (decode cX11_link 100 = .ok (.aload_n 0, 1)) ∧ (decode cX11_link 101 = .ok (.getfield 10, 3)) ∧ (decode cX11_link 104 = .ok (.getfield 72, 3)) ∧ (decode cX11_link 107 = .ok (.iconst 0, 1)) ∧ (decode cX11_link 108 = .ok (.bipush 9, 2)) ∧ (decode cX11_link 110 = .ok (.invokestatic 47, 3)) ∧ (decode cX11_link 113 = .ok (.ifCond .ne 5, 3)) ∧ (decode cX11_link 116 = .ok (.iconst (-1), 1)) ∧ (decode cX11_link 117 = .ok (.ireturn, 1)) ∧ (decode cX11_link 118 = .ok (.aload_n 0, 1)) ∧ (decode cX11_link 119 = .ok (.getfield 10, 3)) ∧ (decode cX11_link 122 = .ok (.getfield 75, 3)) ∧ (decode cX11_link 125 = .ok (.aload_n 0, 1)) ∧ (decode cX11_link 126 = .ok (.getfield 10, 3)) := by decide +kernel
theorem dX11_link_95 : decode cX11_link 95 = .ok (.iload 7, 2) := bdX11_link_95.1
theorem dX11_link_97 : decode cX11_link 97 = .ok (.ifCond .eq 19, 3) := bdX11_link_95.2.1
theorem dX11_link_100 : decode cX11_link 100 = .ok (.aload_n 0, 1) := bdX11_link_95.2.2.1
theorem dX11_link_101 : decode cX11_link 101 = .ok (.getfield 10, 3) := bdX11_link_95.2.2.2.1
theorem dX11_link_104 : decode cX11_link 104 = .ok (.getfield 72, 3) := bdX11_link_95.2.2.2.2.1
theorem dX11_link_107 : decode cX11_link 107 = .ok (.iconst 0, 1) := bdX11_link_95.2.2.2.2.2.1
theorem dX11_link_108 : decode cX11_link 108 = .ok (.bipush 9, 2) := bdX11_link_95.2.2.2.2.2.2.1
theorem dX11_link_110 : decode cX11_link 110 = .ok (.invokestatic 47, 3) := bdX11_link_95.2.2.2.2.2.2.2.1
theorem dX11_link_113 : decode cX11_link 113 = .ok (.ifCond .ne 5, 3) := bdX11_link_95.2.2.2.2.2.2.2.2.1
theorem dX11_link_116 : decode cX11_link 116 = .ok (.iconst (-1), 1) := bdX11_link_95.2.2.2.2.2.2.2.2.2.1
theorem dX11_link_117 : decode cX11_link 117 = .ok (.ireturn, 1) := bdX11_link_95.2.2.2.2.2.2.2.2.2.2.1
theorem dX11_link_118 : decode cX11_link 118 = .ok (.aload_n 0, 1) := bdX11_link_95.2.2.2.2.2.2.2.2.2.2.2.1
theorem dX11_link_119 : decode cX11_link 119 = .ok (.getfield 10, 3) := bdX11_link_95.2.2.2.2.2.2.2.2.2.2.2.2.1
theorem dX11_link_122 : decode cX11_link 122 = .ok (.getfield 75, 3) := bdX11_link_95.2.2.2.2.2.2.2.2.2.2.2.2.2.1
theorem dX11_link_125 : decode cX11_link 125 = .ok (.aload_n 0, 1) := bdX11_link_95.2.2.2.2.2.2.2.2.2.2.2.2.2.2.1
theorem dX11_link_126 : decode cX11_link 126 = .ok (.getfield 10, 3) := bdX11_link_95.2.2.2.2.2.2.2.2.2.2.2.2.2.2.2
theorem bdX11_link_129 : (decode cX11_link 129 = .ok (.getfield 72, 3)) ∧ (decode cX11_link 132 = .ok (.aaload, 1)) ∧ (decode cX11_link 133 = .ok (.iload_n 1, 1)) ∧ (decode cX11_link 134 = .ok (.iload_n 2, 1)) ∧ (decode cX11_link 135 = .ok (.iload_n 3, 1)) ∧ (decode cX11_link 136 = .ok (.iload 4, 2)) ∧ (decode cX11_link 138 = .ok (.iload 5, 2)) ∧ (decode cX11_link 140 = .ok (.invokevirtual 79, 3)) ∧ (decode cX11_link 143 = .ok (.aload_n 0, 1)) ∧ (decode cX11_link 144 = .ok (.getfield 10, 3)) ∧ (decode cX11_link 147 = .ok (.dup, 1)) ∧ (decode cX11_link 148 = .ok (.getfield 72, 3)) ∧ (decode cX11_link 151 = .ok (.iconst 1, 1)) ∧ (decode cX11_link 152 = .ok (.iadd, 1)) ∧ (decode cX11_link 153 = .ok (.putfield 72, 3)) ∧ (decode cX11_link 156 = .ok (.aload_n 0, 1)) := by decide +kernel
theorem dX11_link_129 : decode cX11_link 129 = .ok (.getfield 72, 3) := bdX11_link_129.1
theorem dX11_link_132 : decode cX11_link 132 = .ok (.aaload, 1) := bdX11_link_129.2.1
theorem dX11_link_133 : decode cX11_link 133 = .ok (.iload_n 1, 1) := bdX11_link_129.2.2.1
theorem dX11_link_134 : decode cX11_link 134 = .ok (.iload_n 2, 1) := bdX11_link_129.2.2.2.1
theorem dX11_link_135 : decode cX11_link 135 = .ok (.iload_n 3, 1) := bdX11_link_129.2.2.2.2.1
theorem dX11_link_136 : decode cX11_link 136 = .ok (.iload 4, 2) := bdX11_link_129.2.2.2.2.2.1
theorem dX11_link_138 : decode cX11_link 138 = .ok (.iload 5, 2) := bdX11_link_129.2.2.2.2.2.2.1
theorem dX11_link_140 : decode cX11_link 140 = .ok (.invokevirtual 79, 3) := bdX11_link_129.2.2.2.2.2.2.2.1
theorem dX11_link_143 : decode cX11_link 143 = .ok (.aload_n 0, 1) := bdX11_link_129.2.2.2.2.2.2.2.2.1
theorem dX11_link_144 : decode cX11_link 144 = .ok (.getfield 10, 3) := bdX11_link_129.2.2.2.2.2.2.2.2.2.1
theorem dX11_link_147 : decode cX11_link 147 = .ok (.dup, 1) := bdX11_link_129.2.2.2.2.2.2.2.2.2.2.1
theorem dX11_link_148 : decode cX11_link 148 = .ok (.getfield 72, 3) := bdX11_link_129.2.2.2.2.2.2.2.2.2.2.2.1
theorem dX11_link_151 : decode cX11_link 151 = .ok (.iconst 1, 1) := bdX11_link_129.2.2.2.2.2.2.2.2.2.2.2.2.1
theorem dX11_link_152 : decode cX11_link 152 = .ok (.iadd, 1) := bdX11_link_129.2.2.2.2.2.2.2.2.2.2.2.2.2.1
theorem dX11_link_153 : decode cX11_link 153 = .ok (.putfield 72, 3) := bdX11_link_129.2.2.2.2.2.2.2.2.2.2.2.2.2.2.1
theorem dX11_link_156 : decode cX11_link 156 = .ok (.aload_n 0, 1) := bdX11_link_129.2.2.2.2.2.2.2.2.2.2.2.2.2.2.2
theorem bdX11_link_157 : (decode cX11_link 157 = .ok (.getfield 10, 3)) ∧ (decode cX11_link 160 = .ok (.getfield 72, 3)) ∧ (decode cX11_link 163 = .ok (.iconst 1, 1)) ∧ (decode cX11_link 164 = .ok (.isub, 1)) ∧ (decode cX11_link 165 = .ok (.ireturn, 1)) := by decide +kernel
theorem dX11_link_157 : decode cX11_link 157 = .ok (.getfield 10, 3) := bdX11_link_157.1
theorem dX11_link_160 : decode cX11_link 160 = .ok (.getfield 72, 3) := bdX11_link_157.2.1
theorem dX11_link_163 : decode cX11_link 163 = .ok (.iconst 1, 1) := bdX11_link_157.2.2.1
theorem dX11_link_164 : decode cX11_link 164 = .ok (.isub, 1) := bdX11_link_157.2.2.2.1
theorem dX11_link_165 : decode cX11_link 165 = .ok (.ireturn, 1) := bdX11_link_157.2.2.2.2
theorem bdX12_tells_0 : (decode cX12_tells 0 = .ok (.aload_n 0, 1)) ∧ (decode cX12_tells 1 = .ok (.getfield 7, 3)) ∧ (decode cX12_tells 4 = .ok (.sipush 210, 3)) ∧ (decode cX12_tells 7 = .ok (.bipush 14, 2)) ∧ (decode cX12_tells 9 = .ok (.iload_n 1, 1)) ∧ (decode cX12_tells 10 = .ok (.imul, 1)) ∧ (decode cX12_tells 11 = .ok (.iadd, 1)) ∧ (decode cX12_tells 12 = .ok (.iload_n 2, 1)) ∧ (decode cX12_tells 13 = .ok (.iadd, 1)) ∧ (decode cX12_tells 14 = .ok (.iload_n 3, 1)) ∧ (decode cX12_tells 15 = .ok (.iastore, 1)) ∧ (decode cX12_tells 16 = .ok (.return_, 1)) := by decide +kernel
theorem dX12_tells_0 : decode cX12_tells 0 = .ok (.aload_n 0, 1) := bdX12_tells_0.1
theorem dX12_tells_1 : decode cX12_tells 1 = .ok (.getfield 7, 3) := bdX12_tells_0.2.1
theorem dX12_tells_4 : decode cX12_tells 4 = .ok (.sipush 210, 3) := bdX12_tells_0.2.2.1
theorem dX12_tells_7 : decode cX12_tells 7 = .ok (.bipush 14, 2) := bdX12_tells_0.2.2.2.1
theorem dX12_tells_9 : decode cX12_tells 9 = .ok (.iload_n 1, 1) := bdX12_tells_0.2.2.2.2.1
theorem dX12_tells_10 : decode cX12_tells 10 = .ok (.imul, 1) := bdX12_tells_0.2.2.2.2.2.1
theorem dX12_tells_11 : decode cX12_tells 11 = .ok (.iadd, 1) := bdX12_tells_0.2.2.2.2.2.2.1
theorem dX12_tells_12 : decode cX12_tells 12 = .ok (.iload_n 2, 1) := bdX12_tells_0.2.2.2.2.2.2.2.1
theorem dX12_tells_13 : decode cX12_tells 13 = .ok (.iadd, 1) := bdX12_tells_0.2.2.2.2.2.2.2.2.1
theorem dX12_tells_14 : decode cX12_tells 14 = .ok (.iload_n 3, 1) := bdX12_tells_0.2.2.2.2.2.2.2.2.2.1
theorem dX12_tells_15 : decode cX12_tells 15 = .ok (.iastore, 1) := bdX12_tells_0.2.2.2.2.2.2.2.2.2.2.1
theorem dX12_tells_16 : decode cX12_tells 16 = .ok (.return_, 1) := bdX12_tells_0.2.2.2.2.2.2.2.2.2.2.2
theorem bdX12_link_0 : (decode cX12_link 0 = .ok (.iload_n 1, 1)) ∧ (decode cX12_link 1 = .ok (.iconst 0, 1)) ∧ (decode cX12_link 2 = .ok (.iconst 2, 1)) ∧ (decode cX12_link 3 = .ok (.invokestatic 95, 3)) ∧ (decode cX12_link 6 = .ok (.ifCond .eq 28, 3)) ∧ (decode cX12_link 9 = .ok (.aload_n 0, 1)) ∧ (decode cX12_link 10 = .ok (.iload_n 2, 1)) ∧ (decode cX12_link 11 = .ok (.invokevirtual 107, 3)) ∧ (decode cX12_link 14 = .ok (.ifCond .eq 20, 3)) ∧ (decode cX12_link 17 = .ok (.aload_n 0, 1)) ∧ (decode cX12_link 18 = .ok (.iload_n 3, 1)) ∧ (decode cX12_link 19 = .ok (.invokevirtual 107, 3)) ∧ (decode cX12_link 22 = .ok (.ifCond .eq 12, 3)) ∧ (decode cX12_link 25 = .ok (.iload_n 2, 1)) ∧ (decode cX12_link 26 = .ok (.iload_n 3, 1)) ∧ (decode cX12_link 27 = .ok (.if_icmp .eq 7, 3)) := by decide +kernel
theorem dX12_link_0 : decode cX12_link 0 = .ok (.iload_n 1, 1) := bdX12_link_0.1
theorem dX12_link_1 : decode cX12_link 1 = .ok (.iconst 0, 1) := bdX12_link_0.2.1
theorem dX12_link_2 : decode cX12_link 2 = .ok (.iconst 2, 1) := bdX12_link_0.2.2.1
theorem dX12_link_3 : decode cX12_link 3 = .ok (.invokestatic 95, 3) := bdX12_link_0.2.2.2.1
theorem dX12_link_6 : decode cX12_link 6 = .ok (.ifCond .eq 28, 3) := bdX12_link_0.2.2.2.2.1
theorem dX12_link_9 : decode cX12_link 9 = .ok (.aload_n 0, 1) := bdX12_link_0.2.2.2.2.2.1
theorem dX12_link_10 : decode cX12_link 10 = .ok (.iload_n 2, 1) := bdX12_link_0.2.2.2.2.2.2.1
theorem dX12_link_11 : decode cX12_link 11 = .ok (.invokevirtual 107, 3) := bdX12_link_0.2.2.2.2.2.2.2.1
theorem dX12_link_14 : decode cX12_link 14 = .ok (.ifCond .eq 20, 3) := bdX12_link_0.2.2.2.2.2.2.2.2.1
theorem dX12_link_17 : decode cX12_link 17 = .ok (.aload_n 0, 1) := bdX12_link_0.2.2.2.2.2.2.2.2.2.1
theorem dX12_link_18 : decode cX12_link 18 = .ok (.iload_n 3, 1) := bdX12_link_0.2.2.2.2.2.2.2.2.2.2.1
theorem dX12_link_19 : decode cX12_link 19 = .ok (.invokevirtual 107, 3) := bdX12_link_0.2.2.2.2.2.2.2.2.2.2.2.1
theorem dX12_link_22 : decode cX12_link 22 = .ok (.ifCond .eq 12, 3) := bdX12_link_0.2.2.2.2.2.2.2.2.2.2.2.2.1
theorem dX12_link_25 : decode cX12_link 25 = .ok (.iload_n 2, 1) := bdX12_link_0.2.2.2.2.2.2.2.2.2.2.2.2.2.1
theorem dX12_link_26 : decode cX12_link 26 = .ok (.iload_n 3, 1) := bdX12_link_0.2.2.2.2.2.2.2.2.2.2.2.2.2.2.1
theorem dX12_link_27 : decode cX12_link 27 = .ok (.if_icmp .eq 7, 3) := bdX12_link_0.2.2.2.2.2.2.2.2.2.2.2.2.2.2.2
theorem bdX12_link_30 : (decode cX12_link 30 = .ok (.iconst 1, 1)) ∧ (decode cX12_link 31 = .ok (.goto 4, 3)) ∧ (decode cX12_link 34 = .ok (.iconst 0, 1)) ∧ (decode cX12_link 35 = .ok (.istore 6, 2)) ∧ (decode cX12_link 37 = .ok (.iload_n 1, 1)) ∧ (decode cX12_link 38 = .ok (.iconst 2, 1)) ∧ (decode cX12_link 39 = .ok (.if_icmp .ne 33, 3)) ∧ (decode cX12_link 42 = .ok (.iload 4, 2)) ∧ (decode cX12_link 44 = .ok (.iconst 1, 1)) ∧ (decode cX12_link 45 = .ok (.bipush 20, 2)) ∧ (decode cX12_link 47 = .ok (.invokestatic 95, 3)) ∧ (decode cX12_link 50 = .ok (.ifCond .eq 18, 3)) ∧ (decode cX12_link 53 = .ok (.iload 5, 2)) ∧ (decode cX12_link 55 = .ok (.iconst 2, 1)) ∧ (decode cX12_link 56 = .ok (.bipush 99, 2)) ∧ (decode cX12_link 58 = .ok (.invokestatic 95, 3)) := by decide +kernel
theorem dX12_link_30 : decode cX12_link 30 = .ok (.iconst 1, 1) := bdX12_link_30.1
theorem dX12_link_31 : decode cX12_link 31 = .ok (.goto 4, 3) := bdX12_link_30.2.1
theorem dX12_link_34 : decode cX12_link 34 = .ok (.iconst 0, 1) := bdX12_link_30.2.2.1
theorem dX12_link_35 : decode cX12_link 35 = .ok (.istore 6, 2) := bdX12_link_30.2.2.2.1
theorem dX12_link_37 : decode cX12_link 37 = .ok (.iload_n 1, 1) := bdX12_link_30.2.2.2.2.1
theorem dX12_link_38 : decode cX12_link 38 = .ok (.iconst 2, 1) := bdX12_link_30.2.2.2.2.2.1
theorem dX12_link_39 : decode cX12_link 39 = .ok (.if_icmp .ne 33, 3) := bdX12_link_30.2.2.2.2.2.2.1
theorem dX12_link_42 : decode cX12_link 42 = .ok (.iload 4, 2) := bdX12_link_30.2.2.2.2.2.2.2.1
theorem dX12_link_44 : decode cX12_link 44 = .ok (.iconst 1, 1) := bdX12_link_30.2.2.2.2.2.2.2.2.1
theorem dX12_link_45 : decode cX12_link 45 = .ok (.bipush 20, 2) := bdX12_link_30.2.2.2.2.2.2.2.2.2.1
theorem dX12_link_47 : decode cX12_link 47 = .ok (.invokestatic 95, 3) := bdX12_link_30.2.2.2.2.2.2.2.2.2.2.1
theorem dX12_link_50 : decode cX12_link 50 = .ok (.ifCond .eq 18, 3) := bdX12_link_30.2.2.2.2.2.2.2.2.2.2.2.1
theorem dX12_link_53 : decode cX12_link 53 = .ok (.iload 5, 2) := bdX12_link_30.2.2.2.2.2.2.2.2.2.2.2.2.1
theorem dX12_link_55 : decode cX12_link 55 = .ok (.iconst 2, 1) := bdX12_link_30.2.2.2.2.2.2.2.2.2.2.2.2.2.1
theorem dX12_link_56 : decode cX12_link 56 = .ok (.bipush 99, 2) := bdX12_link_30.2.2.2.2.2.2.2.2.2.2.2.2.2.2.1
theorem dX12_link_58 : decode cX12_link 58 = .ok (.invokestatic 95, 3) := bdX12_link_30.2.2.2.2.2.2.2.2.2.2.2.2.2.2.2
theorem bdX12_link_61 : (decode cX12_link 61 = .ok (.ifCond .eq 7, 3)) ∧ (decode cX12_link 64 = .ok (.iconst 1, 1)) ∧ (decode cX12_link 65 = .ok (.goto 15, 3)) ∧ (decode cX12_link 68 = .ok (.iconst 0, 1)) ∧ (decode cX12_link 69 = .ok (.goto 11, 3)) ∧ (decode cX12_link 72 = .ok (.iload 4, 2)) ∧ (decode cX12_link 74 = .ok (.iconst 2, 1)) ∧ (decode cX12_link 75 = .ok (.bipush 40, 2)) ∧ (decode cX12_link 77 = .ok (.invokestatic 95, 3)) ∧ (decode cX12_link 80 = .ok (.istore 7, 2)) ∧ (decode cX12_link 82 = .ok (.iload 6, 2)) ∧ (decode cX12_link 84 = .ok (.ifCond .eq 19, 3)) ∧ (decode cX12_link 87 = .ok (.iload 7, 2)) ∧ (decode cX12_link 89 = .ok (.ifCond .eq 14, 3)) ∧ (decode cX12_link 92 = .ok (.aload_n 0, 1)) ∧ (decode cX12_link 93 = .ok (.getfield 7, 3)) := by decide +kernel
theorem dX12_link_61 : decode cX12_link 61 = .ok (.ifCond .eq 7, 3) := bdX12_link_61.1
theorem dX12_link_64 : decode cX12_link 64 = .ok (.iconst 1, 1) := bdX12_link_61.2.1
theorem dX12_link_65 : decode cX12_link 65 = .ok (.goto 15, 3) := bdX12_link_61.2.2.1
theorem dX12_link_68 : decode cX12_link 68 = .ok (.iconst 0, 1) := bdX12_link_61.2.2.2.1
theorem dX12_link_69 : decode cX12_link 69 = .ok (.goto 11, 3) := bdX12_link_61.2.2.2.2.1
theorem dX12_link_72 : decode cX12_link 72 = .ok (.iload 4, 2) := bdX12_link_61.2.2.2.2.2.1
theorem dX12_link_74 : decode cX12_link 74 = .ok (.iconst 2, 1) := bdX12_link_61.2.2.2.2.2.2.1
theorem dX12_link_75 : decode cX12_link 75 = .ok (.bipush 40, 2) := bdX12_link_61.2.2.2.2.2.2.2.1
theorem dX12_link_77 : decode cX12_link 77 = .ok (.invokestatic 95, 3) := bdX12_link_61.2.2.2.2.2.2.2.2.1
theorem dX12_link_80 : decode cX12_link 80 = .ok (.istore 7, 2) := bdX12_link_61.2.2.2.2.2.2.2.2.2.1
theorem dX12_link_82 : decode cX12_link 82 = .ok (.iload 6, 2) := bdX12_link_61.2.2.2.2.2.2.2.2.2.2.1
theorem dX12_link_84 : decode cX12_link 84 = .ok (.ifCond .eq 19, 3) := bdX12_link_61.2.2.2.2.2.2.2.2.2.2.2.1
theorem dX12_link_87 : decode cX12_link 87 = .ok (.iload 7, 2) := bdX12_link_61.2.2.2.2.2.2.2.2.2.2.2.2.1
theorem dX12_link_89 : decode cX12_link 89 = .ok (.ifCond .eq 14, 3) := bdX12_link_61.2.2.2.2.2.2.2.2.2.2.2.2.2.1
theorem dX12_link_92 : decode cX12_link 92 = .ok (.aload_n 0, 1) := bdX12_link_61.2.2.2.2.2.2.2.2.2.2.2.2.2.2.1
theorem dX12_link_93 : decode cX12_link 93 = .ok (.getfield 7, 3) := bdX12_link_61.2.2.2.2.2.2.2.2.2.2.2.2.2.2.2
theorem bdX12_link_96 : (decode cX12_link 96 = .ok (.iconst 2, 1)) ∧ (decode cX12_link 97 = .ok (.iaload, 1)) ∧ (decode cX12_link 98 = .ok (.bipush 10, 2)) ∧ (decode cX12_link 100 = .ok (.if_icmp .ne 5, 3)) ∧ (decode cX12_link 103 = .ok (.iconst (-1), 1)) ∧ (decode cX12_link 104 = .ok (.ireturn, 1)) ∧ (decode cX12_link 105 = .ok (.aload_n 0, 1)) ∧ (decode cX12_link 106 = .ok (.getfield 7, 3)) ∧ (decode cX12_link 109 = .ok (.iconst 2, 1)) ∧ (decode cX12_link 110 = .ok (.iaload, 1)) ∧ (decode cX12_link 111 = .ok (.istore 8, 2)) ∧ (decode cX12_link 113 = .ok (.iconst 0, 1)) ∧ (decode cX12_link 114 = .ok (.istore 9, 2)) ∧ (decode cX12_link 116 = .ok (.iload 9, 2)) ∧ (decode cX12_link 118 = .ok (.bipush 14, 2)) ∧ (decode cX12_link 120 = .ok (.if_icmp .ge 18, 3)) := by decide +kernel
theorem dX12_link_96 : decode cX12_link 96 = .ok (.iconst 2, 1) := bdX12_link_96.1
theorem dX12_link_97 : decode cX12_link 97 = .ok (.iaload, 1) := bdX12_link_96.2.1
theorem dX12_link_98 : decode cX12_link 98 = .ok (.bipush 10, 2) := bdX12_link_96.2.2.1
theorem dX12_link_100 : decode cX12_link 100 = .ok (.if_icmp .ne 5, 3) := bdX12_link_96.2.2.2.1
theorem dX12_link_103 : decode cX12_link 103 = .ok (.iconst (-1), 1) := bdX12_link_96.2.2.2.2.1
theorem dX12_link_104 : decode cX12_link 104 = .ok (.ireturn, 1) := bdX12_link_96.2.2.2.2.2.1
theorem dX12_link_105 : decode cX12_link 105 = .ok (.aload_n 0, 1) := bdX12_link_96.2.2.2.2.2.2.1
theorem dX12_link_106 : decode cX12_link 106 = .ok (.getfield 7, 3) := bdX12_link_96.2.2.2.2.2.2.2.1
theorem dX12_link_109 : decode cX12_link 109 = .ok (.iconst 2, 1) := bdX12_link_96.2.2.2.2.2.2.2.2.1
theorem dX12_link_110 : decode cX12_link 110 = .ok (.iaload, 1) := bdX12_link_96.2.2.2.2.2.2.2.2.2.1
theorem dX12_link_111 : decode cX12_link 111 = .ok (.istore 8, 2) := bdX12_link_96.2.2.2.2.2.2.2.2.2.2.1
theorem dX12_link_113 : decode cX12_link 113 = .ok (.iconst 0, 1) := bdX12_link_96.2.2.2.2.2.2.2.2.2.2.2.1
theorem dX12_link_114 : decode cX12_link 114 = .ok (.istore 9, 2) := bdX12_link_96.2.2.2.2.2.2.2.2.2.2.2.2.1
theorem dX12_link_116 : decode cX12_link 116 = .ok (.iload 9, 2) := bdX12_link_96.2.2.2.2.2.2.2.2.2.2.2.2.2.1
theorem dX12_link_118 : decode cX12_link 118 = .ok (.bipush 14, 2) := bdX12_link_96.2.2.2.2.2.2.2.2.2.2.2.2.2.2.1
theorem dX12_link_120 : decode cX12_link 120 = .ok (.if_icmp .ge 18, 3) := bdX12_link_96.2.2.2.2.2.2.2.2.2.2.2.2.2.2.2
theorem bdX12_link_123 : (decode cX12_link 123 = .ok (.aload_n 0, 1)) ∧ (decode cX12_link 124 = .ok (.iload 8, 2)) ∧ (decode cX12_link 126 = .ok (.iload 9, 2)) ∧ (decode cX12_link 128 = .ok (.iconst 0, 1)) ∧ (decode cX12_link 129 = .ok (.invokevirtual 110, 3)) ∧ (decode cX12_link 132 = .ok (.iinc 9 1, 3)) ∧ (decode cX12_link 135 = .ok (.goto (-19), 3)) ∧ (decode cX12_link 138 = .ok (.iconst 0, 1)) ∧ (decode cX12_link 139 = .ok (.istore 9, 2)) ∧ (decode cX12_link 141 = .ok (.iload 9, 2)) ∧ (decode cX12_link 143 = .ok (.bipush 80, 2)) ∧ (decode cX12_link 145 = .ok (.if_icmp .ge 27, 3)) ∧ (decode cX12_link 148 = .ok (.aload_n 0, 1)) ∧ (decode cX12_link 149 = .ok (.getfield 7, 3)) ∧ (decode cX12_link 152 = .ok (.sipush 580, 3)) ∧ (decode cX12_link 155 = .ok (.bipush 80, 2)) := by decide +kernel
theorem dX12_link_123 : decode cX12_link 123 = .ok (.aload_n 0, 1) := bdX12_link_123.1
theorem dX12_link_124 : decode cX12_link 124 = .ok (.iload 8, 2) := bdX12_link_123.2.1
theorem dX12_link_126 : decode cX12_link 126 = .ok (.iload 9, 2) := bdX12_link_123.2.2.1
theorem dX12_link_128 : decode cX12_link 128 = .ok (.iconst 0, 1) := bdX12_link_123.2.2.2.1
theorem dX12_link_129 : decode cX12_link 129 = .ok (.invokevirtual 110, 3) := bdX12_link_123.2.2.2.2.1
theorem dX12_link_132 : decode cX12_link 132 = .ok (.iinc 9 1, 3) := bdX12_link_123.2.2.2.2.2.1
theorem dX12_link_135 : decode cX12_link 135 = .ok (.goto (-19), 3) := bdX12_link_123.2.2.2.2.2.2.1
theorem dX12_link_138 : decode cX12_link 138 = .ok (.iconst 0, 1) := bdX12_link_123.2.2.2.2.2.2.2.1
theorem dX12_link_139 : decode cX12_link 139 = .ok (.istore 9, 2) := bdX12_link_123.2.2.2.2.2.2.2.2.1
theorem dX12_link_141 : decode cX12_link 141 = .ok (.iload 9, 2) := bdX12_link_123.2.2.2.2.2.2.2.2.2.1
theorem dX12_link_143 : decode cX12_link 143 = .ok (.bipush 80, 2) := bdX12_link_123.2.2.2.2.2.2.2.2.2.2.1
theorem dX12_link_145 : decode cX12_link 145 = .ok (.if_icmp .ge 27, 3) := bdX12_link_123.2.2.2.2.2.2.2.2.2.2.2.1
theorem dX12_link_148 : decode cX12_link 148 = .ok (.aload_n 0, 1) := bdX12_link_123.2.2.2.2.2.2.2.2.2.2.2.2.1
theorem dX12_link_149 : decode cX12_link 149 = .ok (.getfield 7, 3) := bdX12_link_123.2.2.2.2.2.2.2.2.2.2.2.2.2.1
theorem dX12_link_152 : decode cX12_link 152 = .ok (.sipush 580, 3) := bdX12_link_123.2.2.2.2.2.2.2.2.2.2.2.2.2.2.1
theorem dX12_link_155 : decode cX12_link 155 = .ok (.bipush 80, 2) := bdX12_link_123.2.2.2.2.2.2.2.2.2.2.2.2.2.2.2
theorem bdX12_link_157 : (decode cX12_link 157 = .ok (.iload 8, 2)) ∧ (decode cX12_link 159 = .ok (.imul, 1)) ∧ (decode cX12_link 160 = .ok (.iadd, 1)) ∧ (decode cX12_link 161 = .ok (.iload 9, 2)) ∧ (decode cX12_link 163 = .ok (.iadd, 1)) ∧ (decode cX12_link 164 = .ok (.iconst (-1), 1)) ∧ (decode cX12_link 165 = .ok (.iastore, 1)) ∧ (decode cX12_link 166 = .ok (.iinc 9 1, 3)) ∧ (decode cX12_link 169 = .ok (.goto (-28), 3)) ∧ (decode cX12_link 172 = .ok (.aload_n 0, 1)) ∧ (decode cX12_link 173 = .ok (.iload 8, 2)) ∧ (decode cX12_link 175 = .ok (.iconst 0, 1)) ∧ (decode cX12_link 176 = .ok (.iload_n 1, 1)) ∧ (decode cX12_link 177 = .ok (.invokevirtual 110, 3)) ∧ (decode cX12_link 180 = .ok (.aload_n 0, 1)) ∧ (decode cX12_link 181 = .ok (.iload 8, 2)) := by decide +kernel
theorem dX12_link_157 : decode cX12_link 157 = .ok (.iload 8, 2) := bdX12_link_157.1
theorem dX12_link_159 : decode cX12_link 159 = .ok (.imul, 1) := bdX12_link_157.2.1
theorem dX12_link_160 : decode cX12_link 160 = .ok (.iadd, 1) := bdX12_link_157.2.2.1
theorem dX12_link_161 : decode cX12_link 161 = .ok (.iload 9, 2) := bdX12_link_157.2.2.2.1
theorem dX12_link_163 : decode cX12_link 163 = .ok (.iadd, 1) := bdX12_link_157.2.2.2.2.1
theorem dX12_link_164 : decode cX12_link 164 = .ok (.iconst (-1), 1) := bdX12_link_157.2.2.2.2.2.1
theorem dX12_link_165 : decode cX12_link 165 = .ok (.iastore, 1) := bdX12_link_157.2.2.2.2.2.2.1
theorem dX12_link_166 : decode cX12_link 166 = .ok (.iinc 9 1, 3) := bdX12_link_157.2.2.2.2.2.2.2.1
theorem dX12_link_169 : decode cX12_link 169 = .ok (.goto (-28), 3) := bdX12_link_157.2.2.2.2.2.2.2.2.1
theorem dX12_link_172 : decode cX12_link 172 = .ok (.aload_n 0, 1) := bdX12_link_157.2.2.2.2.2.2.2.2.2.1
theorem dX12_link_173 : decode cX12_link 173 = .ok (.iload 8, 2) := bdX12_link_157.2.2.2.2.2.2.2.2.2.2.1
theorem dX12_link_175 : decode cX12_link 175 = .ok (.iconst 0, 1) := bdX12_link_157.2.2.2.2.2.2.2.2.2.2.2.1
theorem dX12_link_176 : decode cX12_link 176 = .ok (.iload_n 1, 1) := bdX12_link_157.2.2.2.2.2.2.2.2.2.2.2.2.1
theorem dX12_link_177 : decode cX12_link 177 = .ok (.invokevirtual 110, 3) := bdX12_link_157.2.2.2.2.2.2.2.2.2.2.2.2.2.1
theorem dX12_link_180 : decode cX12_link 180 = .ok (.aload_n 0, 1) := bdX12_link_157.2.2.2.2.2.2.2.2.2.2.2.2.2.2.1
theorem dX12_link_181 : decode cX12_link 181 = .ok (.iload 8, 2) := bdX12_link_157.2.2.2.2.2.2.2.2.2.2.2.2.2.2.2
theorem bdX12_link_183 : (decode cX12_link 183 = .ok (.iconst 1, 1)) ∧ (decode cX12_link 184 = .ok (.iload_n 2, 1)) ∧ (decode cX12_link 185 = .ok (.invokevirtual 110, 3)) ∧ (decode cX12_link 188 = .ok (.aload_n 0, 1)) ∧ (decode cX12_link 189 = .ok (.iload 8, 2)) ∧ (decode cX12_link 191 = .ok (.iconst 2, 1)) ∧ (decode cX12_link 192 = .ok (.iload_n 3, 1)) ∧ (decode cX12_link 193 = .ok (.invokevirtual 110, 3)) ∧ (decode cX12_link 196 = .ok (.aload_n 0, 1)) ∧ (decode cX12_link 197 = .ok (.iload 8, 2)) ∧ (decode cX12_link 199 = .ok (.iconst 3, 1)) ∧ (decode cX12_link 200 = .ok (.iload 4, 2)) ∧ (decode cX12_link 202 = .ok (.invokevirtual 110, 3)) ∧ (decode cX12_link 205 = .ok (.aload_n 0, 1)) ∧ (decode cX12_link 206 = .ok (.iload 8, 2)) ∧ (decode cX12_link 208 = .ok (.iconst 4, 1)) := by decide +kernel
theorem dX12_link_183 : decode cX12_link 183 = .ok (.iconst 1, 1) := bdX12_link_183.1
theorem dX12_link_184 : decode cX12_link 184 = .ok (.iload_n 2, 1) := bdX12_link_183.2.1
theorem dX12_link_185 : decode cX12_link 185 = .ok (.invokevirtual 110, 3) := bdX12_link_183.2.2.1
theorem dX12_link_188 : decode cX12_link 188 = .ok (.aload_n 0, 1) := bdX12_link_183.2.2.2.1
theorem dX12_link_189 : decode cX12_link 189 = .ok (.iload 8, 2) := bdX12_link_183.2.2.2.2.1
theorem dX12_link_191 : decode cX12_link 191 = .ok (.iconst 2, 1) := bdX12_link_183.2.2.2.2.2.1
theorem dX12_link_192 : decode cX12_link 192 = .ok (.iload_n 3, 1) := bdX12_link_183.2.2.2.2.2.2.1
theorem dX12_link_193 : decode cX12_link 193 = .ok (.invokevirtual 110, 3) := bdX12_link_183.2.2.2.2.2.2.2.1
theorem dX12_link_196 : decode cX12_link 196 = .ok (.aload_n 0, 1) := bdX12_link_183.2.2.2.2.2.2.2.2.1
theorem dX12_link_197 : decode cX12_link 197 = .ok (.iload 8, 2) := bdX12_link_183.2.2.2.2.2.2.2.2.2.1
theorem dX12_link_199 : decode cX12_link 199 = .ok (.iconst 3, 1) := bdX12_link_183.2.2.2.2.2.2.2.2.2.2.1
theorem dX12_link_200 : decode cX12_link 200 = .ok (.iload 4, 2) := bdX12_link_183.2.2.2.2.2.2.2.2.2.2.2.1
theorem dX12_link_202 : decode cX12_link 202 = .ok (.invokevirtual 110, 3) := bdX12_link_183.2.2.2.2.2.2.2.2.2.2.2.2.1
theorem dX12_link_205 : decode cX12_link 205 = .ok (.aload_n 0, 1) := bdX12_link_183.2.2.2.2.2.2.2.2.2.2.2.2.2.1
theorem dX12_link_206 : decode cX12_link 206 = .ok (.iload 8, 2) := bdX12_link_183.2.2.2.2.2.2.2.2.2.2.2.2.2.2.1
theorem dX12_link_208 : decode cX12_link 208 = .ok (.iconst 4, 1) := bdX12_link_183.2.2.2.2.2.2.2.2.2.2.2.2.2.2.2
theorem bdX12_link_209 : (decode cX12_link 209 = .ok (.iload_n 1, 1)) ∧ (decode cX12_link 210 = .ok (.iconst 2, 1)) ∧ (decode cX12_link 211 = .ok (.if_icmp .ne 8, 3)) ∧ (decode cX12_link 214 = .ok (.iload 5, 2)) ∧ (decode cX12_link 216 = .ok (.goto 4, 3)) ∧ (decode cX12_link 219 = .ok (.iconst 0, 1)) ∧ (decode cX12_link 220 = .ok (.invokevirtual 110, 3)) ∧ (decode cX12_link 223 = .ok (.aload_n 0, 1)) ∧ (decode cX12_link 224 = .ok (.iload 8, 2)) ∧ (decode cX12_link 226 = .ok (.bipush 6, 2)) ∧ (decode cX12_link 228 = .ok (.iconst 1, 1)) ∧ (decode cX12_link 229 = .ok (.invokevirtual 110, 3)) ∧ (decode cX12_link 232 = .ok (.iload_n 1, 1)) ∧ (decode cX12_link 233 = .ok (.iconst 2, 1)) ∧ (decode cX12_link 234 = .ok (.if_icmp .ge 20, 3)) ∧ (decode cX12_link 237 = .ok (.aload_n 0, 1)) := by decide +kernel
theorem dX12_link_209 : decode cX12_link 209 = .ok (.iload_n 1, 1) := bdX12_link_209.1
theorem dX12_link_210 : decode cX12_link 210 = .ok (.iconst 2, 1) := bdX12_link_209.2.1
theorem dX12_link_211 : decode cX12_link 211 = .ok (.if_icmp .ne 8, 3) := bdX12_link_209.2.2.1
theorem dX12_link_214 : decode cX12_link 214 = .ok (.iload 5, 2) := bdX12_link_209.2.2.2.1
theorem dX12_link_216 : decode cX12_link 216 = .ok (.goto 4, 3) := bdX12_link_209.2.2.2.2.1
theorem dX12_link_219 : decode cX12_link 219 = .ok (.iconst 0, 1) := bdX12_link_209.2.2.2.2.2.1
theorem dX12_link_220 : decode cX12_link 220 = .ok (.invokevirtual 110, 3) := bdX12_link_209.2.2.2.2.2.2.1
theorem dX12_link_223 : decode cX12_link 223 = .ok (.aload_n 0, 1) := bdX12_link_209.2.2.2.2.2.2.2.1
theorem dX12_link_224 : decode cX12_link 224 = .ok (.iload 8, 2) := bdX12_link_209.2.2.2.2.2.2.2.2.1
theorem dX12_link_226 : decode cX12_link 226 = .ok (.bipush 6, 2) := bdX12_link_209.2.2.2.2.2.2.2.2.2.1
theorem dX12_link_228 : decode cX12_link 228 = .ok (.iconst 1, 1) := bdX12_link_209.2.2.2.2.2.2.2.2.2.2.1
theorem dX12_link_229 : decode cX12_link 229 = .ok (.invokevirtual 110, 3) := bdX12_link_209.2.2.2.2.2.2.2.2.2.2.2.1
theorem dX12_link_232 : decode cX12_link 232 = .ok (.iload_n 1, 1) := bdX12_link_209.2.2.2.2.2.2.2.2.2.2.2.2.1
theorem dX12_link_233 : decode cX12_link 233 = .ok (.iconst 2, 1) := bdX12_link_209.2.2.2.2.2.2.2.2.2.2.2.2.2.1
theorem dX12_link_234 : decode cX12_link 234 = .ok (.if_icmp .ge 20, 3) := bdX12_link_209.2.2.2.2.2.2.2.2.2.2.2.2.2.2.1
theorem dX12_link_237 : decode cX12_link 237 = .ok (.aload_n 0, 1) := bdX12_link_209.2.2.2.2.2.2.2.2.2.2.2.2.2.2.2
theorem bdX12_link_238 : (decode cX12_link 238 = .ok (.iload 8, 2)) ∧ (decode cX12_link 240 = .ok (.iconst 5, 1)) ∧ (decode cX12_link 241 = .ok (.iconst 1, 1)) ∧ (decode cX12_link 242 = .ok (.invokevirtual 110, 3)) ∧ (decode cX12_link 245 = .ok (.aload_n 0, 1)) ∧ (decode cX12_link 246 = .ok (.iload 8, 2)) ∧ (decode cX12_link 248 = .ok (.bipush 7, 2)) ∧ (decode cX12_link 250 = .ok (.iconst 1, 1)) ∧ (decode cX12_link 251 = .ok (.invokevirtual 110, 3)) ∧ (decode cX12_link 254 = .ok (.aload_n 0, 1)) ∧ (decode cX12_link 255 = .ok (.getfield 7, 3)) ∧ (decode cX12_link 258 = .ok (.iconst 2, 1)) ∧ (decode cX12_link 259 = .ok (.dup2, 1)) ∧ (decode cX12_link 260 = .ok (.iaload, 1)) ∧ (decode cX12_link 261 = .ok (.iconst 1, 1)) ∧ (decode cX12_link 262 = .ok (.iadd, 1)) := by decide +kernel
theorem dX12_link_238 : decode cX12_link 238 = .ok (.iload 8, 2) := bdX12_link_238.1
theorem dX12_link_240 : decode cX12_link 240 = .ok (.iconst 5, 1) := bdX12_link_238.2.1
theorem dX12_link_241 : decode cX12_link 241 = .ok (.iconst 1, 1) := bdX12_link_238.2.2.1
theorem dX12_link_242 : decode cX12_link 242 = .ok (.invokevirtual 110, 3) := bdX12_link_238.2.2.2.1
theorem dX12_link_245 : decode cX12_link 245 = .ok (.aload_n 0, 1) := bdX12_link_238.2.2.2.2.1
theorem dX12_link_246 : decode cX12_link 246 = .ok (.iload 8, 2) := bdX12_link_238.2.2.2.2.2.1
theorem dX12_link_248 : decode cX12_link 248 = .ok (.bipush 7, 2) := bdX12_link_238.2.2.2.2.2.2.1
theorem dX12_link_250 : decode cX12_link 250 = .ok (.iconst 1, 1) := bdX12_link_238.2.2.2.2.2.2.2.1
theorem dX12_link_251 : decode cX12_link 251 = .ok (.invokevirtual 110, 3) := bdX12_link_238.2.2.2.2.2.2.2.2.1
theorem dX12_link_254 : decode cX12_link 254 = .ok (.aload_n 0, 1) := bdX12_link_238.2.2.2.2.2.2.2.2.2.1
theorem dX12_link_255 : decode cX12_link 255 = .ok (.getfield 7, 3) := bdX12_link_238.2.2.2.2.2.2.2.2.2.2.1
theorem dX12_link_258 : decode cX12_link 258 = .ok (.iconst 2, 1) := bdX12_link_238.2.2.2.2.2.2.2.2.2.2.2.1
theorem dX12_link_259 : decode cX12_link 259 = .ok (.dup2, 1) := bdX12_link_238.2.2.2.2.2.2.2.2.2.2.2.2.1
theorem dX12_link_260 : decode cX12_link 260 = .ok (.iaload, 1) := bdX12_link_238.2.2.2.2.2.2.2.2.2.2.2.2.2.1
theorem dX12_link_261 : decode cX12_link 261 = .ok (.iconst 1, 1) := bdX12_link_238.2.2.2.2.2.2.2.2.2.2.2.2.2.2.1
theorem dX12_link_262 : decode cX12_link 262 = .ok (.iadd, 1) := bdX12_link_238.2.2.2.2.2.2.2.2.2.2.2.2.2.2.2
theorem bdX12_link_263 : (decode cX12_link 263 = .ok (.iastore, 1)) ∧ (decode cX12_link 264 = .ok (.iload 8, 2)) ∧ (decode cX12_link 266 = .ok (.ireturn, 1)) := by decide +kernel
theorem dX12_link_263 : decode cX12_link 263 = .ok (.iastore, 1) := bdX12_link_263.1
theorem dX12_link_264 : decode cX12_link 264 = .ok (.iload 8, 2) := bdX12_link_263.2.1
theorem dX12_link_266 : decode cX12_link 266 = .ok (.ireturn, 1) := bdX12_link_263.2.2
theorem bdX9_hasLink_0 : (decode cX9_hasLink 0 = .ok (.iload_n 1, 1)) ∧ (decode cX9_hasLink 1 = .ok (.ifCond .lt 21, 3)) ∧ (decode cX9_hasLink 4 = .ok (.iload_n 1, 1)) ∧ (decode cX9_hasLink 5 = .ok (.aload_n 0, 1)) ∧ (decode cX9_hasLink 6 = .ok (.getfield 60, 3)) ∧ (decode cX9_hasLink 9 = .ok (.if_icmp .ge 13, 3)) ∧ (decode cX9_hasLink 12 = .ok (.iload_n 1, 1)) ∧ (decode cX9_hasLink 13 = .ok (.bipush 10, 2)) ∧ (decode cX9_hasLink 15 = .ok (.if_icmp .ge 7, 3)) ∧ (decode cX9_hasLink 18 = .ok (.iconst 1, 1)) ∧ (decode cX9_hasLink 19 = .ok (.goto 4, 3)) ∧ (decode cX9_hasLink 22 = .ok (.iconst 0, 1)) ∧ (decode cX9_hasLink 23 = .ok (.ireturn, 1)) := by decide +kernel
theorem dX9_hasLink_0 : decode cX9_hasLink 0 = .ok (.iload_n 1, 1) := bdX9_hasLink_0.1
theorem dX9_hasLink_1 : decode cX9_hasLink 1 = .ok (.ifCond .lt 21, 3) := bdX9_hasLink_0.2.1
theorem dX9_hasLink_4 : decode cX9_hasLink 4 = .ok (.iload_n 1, 1) := bdX9_hasLink_0.2.2.1
theorem dX9_hasLink_5 : decode cX9_hasLink 5 = .ok (.aload_n 0, 1) := bdX9_hasLink_0.2.2.2.1
theorem dX9_hasLink_6 : decode cX9_hasLink 6 = .ok (.getfield 60, 3) := bdX9_hasLink_0.2.2.2.2.1
theorem dX9_hasLink_9 : decode cX9_hasLink 9 = .ok (.if_icmp .ge 13, 3) := bdX9_hasLink_0.2.2.2.2.2.1
theorem dX9_hasLink_12 : decode cX9_hasLink 12 = .ok (.iload_n 1, 1) := bdX9_hasLink_0.2.2.2.2.2.2.1
theorem dX9_hasLink_13 : decode cX9_hasLink 13 = .ok (.bipush 10, 2) := bdX9_hasLink_0.2.2.2.2.2.2.2.1
theorem dX9_hasLink_15 : decode cX9_hasLink 15 = .ok (.if_icmp .ge 7, 3) := bdX9_hasLink_0.2.2.2.2.2.2.2.2.1
theorem dX9_hasLink_18 : decode cX9_hasLink 18 = .ok (.iconst 1, 1) := bdX9_hasLink_0.2.2.2.2.2.2.2.2.2.1
theorem dX9_hasLink_19 : decode cX9_hasLink 19 = .ok (.goto 4, 3) := bdX9_hasLink_0.2.2.2.2.2.2.2.2.2.2.1
theorem dX9_hasLink_22 : decode cX9_hasLink 22 = .ok (.iconst 0, 1) := bdX9_hasLink_0.2.2.2.2.2.2.2.2.2.2.2.1
theorem dX9_hasLink_23 : decode cX9_hasLink 23 = .ok (.ireturn, 1) := bdX9_hasLink_0.2.2.2.2.2.2.2.2.2.2.2.2
theorem bdX9_hasStepped_0 : (decode cX9_hasStepped 0 = .ok (.aload_n 0, 1)) ∧ (decode cX9_hasStepped 1 = .ok (.iload_n 1, 1)) ∧ (decode cX9_hasStepped 2 = .ok (.invokevirtual 63, 3)) ∧ (decode cX9_hasStepped 5 = .ok (.ifCond .eq 20, 3)) ∧ (decode cX9_hasStepped 8 = .ok (.aload_n 0, 1)) ∧ (decode cX9_hasStepped 9 = .ok (.getfield 19, 3)) ∧ (decode cX9_hasStepped 12 = .ok (.iload_n 1, 1)) ∧ (decode cX9_hasStepped 13 = .ok (.aaload, 1)) ∧ (decode cX9_hasStepped 14 = .ok (.getfield 67, 3)) ∧ (decode cX9_hasStepped 17 = .ok (.iconst 2, 1)) ∧ (decode cX9_hasStepped 18 = .ok (.if_icmp .eq 7, 3)) ∧ (decode cX9_hasStepped 21 = .ok (.iconst 1, 1)) ∧ (decode cX9_hasStepped 22 = .ok (.goto 4, 3)) ∧ (decode cX9_hasStepped 25 = .ok (.iconst 0, 1)) ∧ (decode cX9_hasStepped 26 = .ok (.ireturn, 1)) := by decide +kernel
theorem dX9_hasStepped_0 : decode cX9_hasStepped 0 = .ok (.aload_n 0, 1) := bdX9_hasStepped_0.1
theorem dX9_hasStepped_1 : decode cX9_hasStepped 1 = .ok (.iload_n 1, 1) := bdX9_hasStepped_0.2.1
theorem dX9_hasStepped_2 : decode cX9_hasStepped 2 = .ok (.invokevirtual 63, 3) := bdX9_hasStepped_0.2.2.1
theorem dX9_hasStepped_5 : decode cX9_hasStepped 5 = .ok (.ifCond .eq 20, 3) := bdX9_hasStepped_0.2.2.2.1
theorem dX9_hasStepped_8 : decode cX9_hasStepped 8 = .ok (.aload_n 0, 1) := bdX9_hasStepped_0.2.2.2.2.1
theorem dX9_hasStepped_9 : decode cX9_hasStepped 9 = .ok (.getfield 19, 3) := bdX9_hasStepped_0.2.2.2.2.2.1
theorem dX9_hasStepped_12 : decode cX9_hasStepped 12 = .ok (.iload_n 1, 1) := bdX9_hasStepped_0.2.2.2.2.2.2.1
theorem dX9_hasStepped_13 : decode cX9_hasStepped 13 = .ok (.aaload, 1) := bdX9_hasStepped_0.2.2.2.2.2.2.2.1
theorem dX9_hasStepped_14 : decode cX9_hasStepped 14 = .ok (.getfield 67, 3) := bdX9_hasStepped_0.2.2.2.2.2.2.2.2.1
theorem dX9_hasStepped_17 : decode cX9_hasStepped 17 = .ok (.iconst 2, 1) := bdX9_hasStepped_0.2.2.2.2.2.2.2.2.2.1
theorem dX9_hasStepped_18 : decode cX9_hasStepped 18 = .ok (.if_icmp .eq 7, 3) := bdX9_hasStepped_0.2.2.2.2.2.2.2.2.2.2.1
theorem dX9_hasStepped_21 : decode cX9_hasStepped 21 = .ok (.iconst 1, 1) := bdX9_hasStepped_0.2.2.2.2.2.2.2.2.2.2.2.1
theorem dX9_hasStepped_22 : decode cX9_hasStepped 22 = .ok (.goto 4, 3) := bdX9_hasStepped_0.2.2.2.2.2.2.2.2.2.2.2.2.1
theorem dX9_hasStepped_25 : decode cX9_hasStepped 25 = .ok (.iconst 0, 1) := bdX9_hasStepped_0.2.2.2.2.2.2.2.2.2.2.2.2.2.1
theorem dX9_hasStepped_26 : decode cX9_hasStepped 26 = .ok (.ireturn, 1) := bdX9_hasStepped_0.2.2.2.2.2.2.2.2.2.2.2.2.2.2
def fX11_within_15 (a0 : Int32) (a1 : Int32) (a2 : Int32) (s0 : Int32) (m : xMem) : Option (Int32 × xMem) := bif (decide (s0 = 0) || decide (s0 = 1)) then some (s0, m) else none
set_option maxRecDepth 4000 in
theorem fX11_within_15_ok {a0 : Int32} {a1 : Int32} {a2 : Int32} {d : Nat} (hd : 0 ≤ d)  {s0 : Int32} {m : xMem} {r : (Int32 × xMem)} (h : fX11_within_15 a0 a1 a2 s0 m = some r) : xFx hh_14 cX11_within d 15 [some (.int a0), some (.int a1), some (.int a2)] [.int s0] (xLay m) 0 0 (some (.int r.1)) (xLay r.2) := by
  unfold fX11_within_15 at h
  obtain ⟨hb1, h⟩ := xChk_el h
  cases h
  exact fx_ireturn dX11_within_15 rfl (by show ((decide _ || decide _) && _) = true; rw [hb1]; rfl)
def fX11_within_14 (a0 : Int32) (a1 : Int32) (a2 : Int32) (m : xMem) : Option (Int32 × xMem) := fX11_within_15 a0 a1 a2 (0 : Int32) m
set_option maxRecDepth 4000 in
theorem fX11_within_14_ok {a0 : Int32} {a1 : Int32} {a2 : Int32} {d : Nat} (hd : 0 ≤ d)  {m : xMem} {r : (Int32 × xMem)} (h : fX11_within_14 a0 a1 a2 m = some r) : xFx hh_14 cX11_within d 14 [some (.int a0), some (.int a1), some (.int a2)] [] (xLay m) 0 0 (some (.int r.1)) (xLay r.2) := by
  unfold fX11_within_14 at h
  refine fx_iconst (x := 0) dX11_within_14 rfl (by decide) ?_
  exact fX11_within_15_ok hd h
def fX11_within_0 (a0 : Int32) (a1 : Int32) (a2 : Int32) (m : xMem) : Option (Int32 × xMem) := if a0 < a1 then fX11_within_14 a0 a1 a2 m else if a2 < a0 then fX11_within_14 a0 a1 a2 m else fX11_within_15 a0 a1 a2 (1 : Int32) m
set_option maxRecDepth 4000 in
theorem fX11_within_0_ok {a0 : Int32} {a1 : Int32} {a2 : Int32} {d : Nat} (hd : 0 ≤ d)  {m : xMem} {r : (Int32 × xMem)} (h : fX11_within_0 a0 a1 a2 m = some r) : xFx hh_14 cX11_within d 0 [some (.int a0), some (.int a1), some (.int a2)] [] (xLay m) 0 0 (some (.int r.1)) (xLay r.2) := by
  unfold fX11_within_0 at h
  refine fx_iload_n dX11_within_0 rfl rfl ?_
  refine fx_iload_n dX11_within_1 rfl rfl ?_
  refine fx_icmp_lt (t := 14) dX11_within_2 rfl rfl (fun hc1 => ?_) (fun hc1 => ?_)
  · rw [if_pos hc1] at h
    exact fX11_within_14_ok hd h
  · rw [if_neg hc1] at h
    refine fx_iload_n dX11_within_5 rfl rfl ?_
    refine fx_iload_n dX11_within_6 rfl rfl ?_
    refine fx_icmp_gt (t := 14) dX11_within_7 rfl rfl (fun hc2 => ?_) (fun hc2 => ?_)
    · rw [if_pos hc2] at h
      exact fX11_within_14_ok hd h
    · rw [if_neg hc2] at h
      refine fx_iconst (x := 1) dX11_within_10 rfl (by decide) ?_
      refine fx_goto (t := 15) dX11_within_11 rfl rfl ?_
      exact fX11_within_15_ok hd h
def fX11_within (a0 : Int32) (a1 : Int32) (a2 : Int32) (m : xMem) : Option (Int32 × xMem) := fX11_within_0 a0 a1 a2  m
theorem fX11_within_ok {a0 : Int32} {a1 : Int32} {a2 : Int32} {m : xMem} {r : (Int32 × xMem)} {d : Nat} (hd : 1 ≤ d)  (h : fX11_within a0 a1 a2 m = some r) : xEx d 14 [.int a0, .int a1, .int a2] (xLay m) (some (.int r.1)) (xLay r.2) := by
  obtain ⟨d, rfl⟩ : ∃ q, d = q + 1 := ⟨d - 1, by omega⟩
  exact xEx_of me_14 rfl (fX11_within_0_ok (d := d) (by omega) h)
def fX2_build_0 (a0 : Nat) (a1 : Int32) (m : xMem) : Option xMem := xLet (xPut m a0 2 a1) fun m1 => xLet (xPut m1 a0 3 (999 : Int32)) fun m2 => xLet (xPut m2 a0 4 (0 : Int32)) fun m3 => xLet (xPut m3 a0 5 (0 : Int32)) fun m4 => xLet (xPut m4 a0 6 (0 : Int32)) fun m5 => xLet (xPut m5 a0 7 (-1 : Int32)) fun m6 => xLet (xPut m6 a0 8 (0 : Int32)) fun m7 => (fJ7_fill_53178 (a0 + 1) 12 (0 : Int32) m7).bind fun p8 => (fJ7_fill_53178 (a0 + 2) 12 (0 : Int32) p8).bind fun p9 => some p9
set_option maxRecDepth 4000 in
theorem fX2_build_0_ok {a0 : Nat} {a1 : Int32} {d : Nat} (hd : 1 ≤ d) (ha0 : isHall a0) {m : xMem} {r : xMem} (h : fX2_build_0 a0 a1 m = some r) : xFx hh_15 cX2_build d 0 [some (.ref a0), some (.int a1)] [] (xLay m) 0 0 none (xLay r) := by
  unfold fX2_build_0 at h
  refine fx_aload_n dX2_build_0 rfl rfl ?_
  refine fx_iload_n dX2_build_1 rfl rfl ?_
  obtain ⟨m1, hm1, h⟩ := xLet_el h
  refine gx_put dX2_build_2 rfl fd_2_18 ha0.1 rfl rfl rfl hm1 ?_
  refine fx_aload_n dX2_build_5 rfl rfl ?_
  refine fx_sipush (x := 999) dX2_build_6 rfl (by decide) ?_
  obtain ⟨m2, hm2, h⟩ := xLet_el h
  refine gx_put dX2_build_9 rfl fd_2_22 ha0.1 rfl rfl rfl hm2 ?_
  refine fx_aload_n dX2_build_12 rfl rfl ?_
  refine fx_iconst (x := 0) dX2_build_13 rfl (by decide) ?_
  obtain ⟨m3, hm3, h⟩ := xLet_el h
  refine gx_put dX2_build_14 rfl fd_2_25 ha0.1 rfl rfl rfl hm3 ?_
  refine fx_aload_n dX2_build_17 rfl rfl ?_
  refine fx_iconst (x := 0) dX2_build_18 rfl (by decide) ?_
  obtain ⟨m4, hm4, h⟩ := xLet_el h
  refine gx_put dX2_build_19 rfl fd_2_28 ha0.1 rfl rfl rfl hm4 ?_
  refine fx_aload_n dX2_build_22 rfl rfl ?_
  refine fx_iconst (x := 0) dX2_build_23 rfl (by decide) ?_
  obtain ⟨m5, hm5, h⟩ := xLet_el h
  refine gx_put dX2_build_24 rfl fd_2_31 ha0.1 rfl rfl rfl hm5 ?_
  refine fx_aload_n dX2_build_27 rfl rfl ?_
  refine fx_iconst (x := -1) dX2_build_28 rfl (by decide) ?_
  obtain ⟨m6, hm6, h⟩ := xLet_el h
  refine gx_put dX2_build_29 rfl fd_2_34 ha0.1 rfl rfl rfl hm6 ?_
  refine fx_aload_n dX2_build_32 rfl rfl ?_
  refine fx_iconst (x := 0) dX2_build_33 rfl (by decide) ?_
  obtain ⟨m7, hm7, h⟩ := xLet_el h
  refine gx_put dX2_build_34 rfl fd_2_37 ha0.1 rfl rfl rfl hm7 ?_
  refine fx_aload_n dX2_build_37 rfl rfl ?_
  refine gx_getr dX2_build_38 rfl fd_2_9 ha0.1 rfl rfl ?_
  refine fx_iconst (x := 0) dX2_build_41 rfl (by decide) ?_
  obtain ⟨p8, ep8, h⟩ := xBind_el h
  refine gx_calls (as := [.ref (a0 + 1), .int (0 : Int32)]) (r := []) rfl dX2_build_42 ca_2_41 rfl me_16 rfl rfl rfl rfl (fJ7_fill_53178_ok (d := d) (by omega) ha0.2.1 ep8) rfl rfl ?_
  refine fx_aload_n dX2_build_45 rfl rfl ?_
  refine gx_getr dX2_build_46 rfl fd_2_15 ha0.1 rfl rfl ?_
  refine fx_iconst (x := 0) dX2_build_49 rfl (by decide) ?_
  obtain ⟨p9, ep9, h⟩ := xBind_el h
  refine gx_calls (as := [.ref (a0 + 2), .int (0 : Int32)]) (r := []) rfl dX2_build_50 ca_2_41 rfl me_16 rfl rfl rfl rfl (fJ7_fill_53178_ok (d := d) (by omega) ha0.2.2 ep9) rfl rfl ?_
  cases h
  exact fx_return dX2_build_53 rfl rfl
def fX2_build (a0 : Nat) (a1 : Int32) (m : xMem) : Option xMem := fX2_build_0 a0 a1  m
theorem fX2_build_ok {a0 : Nat} {a1 : Int32} {m : xMem} {r : xMem} {d : Nat} (hd : 2 ≤ d) (ha0 : isHall a0) (h : fX2_build a0 a1 m = some r) : xEx d 15 [.ref a0, .int a1] (xLay m) none (xLay r) := by
  obtain ⟨d, rfl⟩ : ∃ q, d = q + 1 := ⟨d - 1, by omega⟩
  exact xEx_of me_15 rfl (fX2_build_0_ok (d := d) (by omega) ha0 h)
def fX11_hall_26 (a0 : Nat) (a1 : Int32) (m : xMem) : Option (Int32 × xMem) := some ((-1 : Int32), m)
set_option maxRecDepth 4000 in
theorem fX11_hall_26_ok {a0 : Nat} {a1 : Int32} {d : Nat} (hd : 2 ≤ d) (ha0 : isMS a0) {m : xMem} {r : (Int32 × xMem)} (h : fX11_hall_26 a0 a1 m = some r) : xFx hh_13 cX11_hall d 26 [some (.ref a0), some (.int a1)] [] (xLay m) 0 0 (some (.int r.1)) (xLay r.2) := by
  unfold fX11_hall_26 at h
  refine fx_iconst (x := -1) dX11_hall_26 rfl (by decide) ?_
  cases h
  exact fx_ireturn dX11_hall_27 rfl rfl
def fX11_hall_0 (a0 : Nat) (a1 : Int32) (m : xMem) : Option (Int32 × xMem) := (fX11_within a1 (1 : Int32) (999 : Int32) m).bind fun p1 => if p1.1 = (0 : Int32) then fX11_hall_26 a0 a1 p1.2 else xLet (p1.2.1 (a0 + 1) 7) fun x3 => (fX11_within x3 (0 : Int32) (5 : Int32) p1.2).bind fun p4 => if ¬ p4.1 = (0 : Int32) then xLet (p4.2.1 (a0 + 1) 7) fun x6 => bif xIn x6 6 then xLet (a0 + 1 + 15 + 3 * x6.toNatClampNeg) fun r8 => (fX2_build r8 a1 p4.2).bind fun p9 => xLet (p9.1 (a0 + 1) 7) fun x10 => xLet (x10 + (1 : Int32)) fun x11 => xLet (xPut p9 (a0 + 1) 7 x11) fun m12 => xLet (m12.1 (a0 + 1) 7) fun x13 => xLet (x13 - (1 : Int32)) fun x14 => some (x14, m12) else none else fX11_hall_26 a0 a1 p4.2
set_option maxRecDepth 4000 in
theorem fX11_hall_0_ok {a0 : Nat} {a1 : Int32} {d : Nat} (hd : 2 ≤ d) (ha0 : isMS a0) {m : xMem} {r : (Int32 × xMem)} (h : fX11_hall_0 a0 a1 m = some r) : xFx hh_13 cX11_hall d 0 [some (.ref a0), some (.int a1)] [] (xLay m) 0 0 (some (.int r.1)) (xLay r.2) := by
  unfold fX11_hall_0 at h
  refine fx_iload_n dX11_hall_0 rfl rfl ?_
  refine fx_iconst (x := 1) dX11_hall_1 rfl (by decide) ?_
  refine fx_sipush (x := 999) dX11_hall_2 rfl (by decide) ?_
  obtain ⟨p1, ep1, h⟩ := xBind_el h
  refine gx_calls (as := [.int a1, .int (1 : Int32), .int (999 : Int32)]) (r := []) rfl dX11_hall_5 ca_11_47 rfl me_14 rfl rfl rfl rfl (fX11_within_ok (d := d) (by omega) ep1) rfl rfl ?_
  refine fx_if_eq (t := 26) dX11_hall_8 rfl rfl (fun hc2 => ?_) (fun hc2 => ?_)
  · rw [if_pos hc2] at h
    exact fX11_hall_26_ok hd ha0 h
  · rw [if_neg hc2] at h
    refine fx_aload_n dX11_hall_11 rfl rfl ?_
    refine gx_getr dX11_hall_12 rfl fd_11_10 ha0.1 rfl rfl ?_
    obtain ⟨x3, hx3, h⟩ := xLet_el h
    refine gx_get dX11_hall_15 rfl fd_11_51 ha0.2.1.1 rfl rfl hx3 ?_
    refine fx_iconst (x := 0) dX11_hall_18 rfl (by decide) ?_
    refine fx_iconst (x := 5) dX11_hall_19 rfl (by decide) ?_
    obtain ⟨p4, ep4, h⟩ := xBind_el h
    refine gx_calls (as := [.int x3, .int (0 : Int32), .int (5 : Int32)]) (r := []) rfl dX11_hall_20 ca_11_47 rfl me_14 rfl rfl rfl rfl (fX11_within_ok (d := d) (by omega) ep4) rfl rfl ?_
    refine fx_if_ne (t := 28) dX11_hall_23 rfl rfl (fun hc5 => ?_) (fun hc5 => ?_)
    · rw [if_pos hc5] at h
      refine fx_aload_n dX11_hall_28 rfl rfl ?_
      refine gx_getr dX11_hall_29 rfl fd_11_10 ha0.1 rfl rfl ?_
      refine gx_getr dX11_hall_32 rfl fd_11_55 ha0.2.1.1 rfl rfl ?_
      refine fx_aload_n dX11_hall_35 rfl rfl ?_
      refine gx_getr dX11_hall_36 rfl fd_11_10 ha0.1 rfl rfl ?_
      obtain ⟨x6, hx6, h⟩ := xLet_el h
      refine gx_get dX11_hall_39 rfl fd_11_51 ha0.2.1.1 rfl rfl hx6 ?_
      obtain ⟨hj7, h⟩ := xChk_el h
      obtain ⟨r8, hr8, h⟩ := xLet_el h
      refine gx_aaload (t := 4) dX11_hall_42 rfl ha0.2.1.2.1 rfl hj7 ((xRef_at (sl_9_0 (a0 + 1)) hj7).trans (congrArg some hr8)) ?_
      have hpr8 : isHall r8 := by rw [← hr8]; exact ha0.2.1.2.2.2.2.2.2.2.1 _ (xIn_lt hj7)
      refine fx_iload_n dX11_hall_43 rfl rfl ?_
      obtain ⟨p9, ep9, h⟩ := xBind_el h
      refine gx_callv (as := [.int a1]) (r := []) rfl dX11_hall_44 ca_11_59 rfl me_15 rfl rfl rfl rfl (hpr8.1) rfl (fX2_build_ok (d := d) (by omega) hpr8 ep9) rfl rfl ?_
      refine fx_aload_n dX11_hall_47 rfl rfl ?_
      refine gx_getr dX11_hall_48 rfl fd_11_10 ha0.1 rfl rfl ?_
      refine fx_dup dX11_hall_51 rfl rfl ?_
      obtain ⟨x10, hx10, h⟩ := xLet_el h
      refine gx_get dX11_hall_52 rfl fd_11_51 ha0.2.1.1 rfl rfl hx10 ?_
      refine fx_iconst (x := 1) dX11_hall_55 rfl (by decide) ?_
      obtain ⟨x11, hx11, h⟩ := xLet_el h
      refine fx_iadd dX11_hall_56 rfl hx11 ?_
      obtain ⟨m12, hm12, h⟩ := xLet_el h
      refine gx_put dX11_hall_57 rfl fd_11_51 ha0.2.1.1 rfl rfl rfl hm12 ?_
      refine fx_aload_n dX11_hall_60 rfl rfl ?_
      refine gx_getr dX11_hall_61 rfl fd_11_10 ha0.1 rfl rfl ?_
      obtain ⟨x13, hx13, h⟩ := xLet_el h
      refine gx_get dX11_hall_64 rfl fd_11_51 ha0.2.1.1 rfl rfl hx13 ?_
      refine fx_iconst (x := 1) dX11_hall_67 rfl (by decide) ?_
      obtain ⟨x14, hx14, h⟩ := xLet_el h
      refine fx_isub dX11_hall_68 rfl hx14 ?_
      cases h
      exact fx_ireturn dX11_hall_69 rfl rfl
    · rw [if_neg hc5] at h
      exact fX11_hall_26_ok hd ha0 h
def fX11_hall (a0 : Nat) (a1 : Int32) (m : xMem) : Option (Int32 × xMem) := fX11_hall_0 a0 a1  m
theorem fX11_hall_ok {a0 : Nat} {a1 : Int32} {m : xMem} {r : (Int32 × xMem)} {d : Nat} (hd : 3 ≤ d) (ha0 : isMS a0) (h : fX11_hall a0 a1 m = some r) : xEx d 13 [.ref a0, .int a1] (xLay m) (some (.int r.1)) (xLay r.2) := by
  obtain ⟨d, rfl⟩ : ∃ q, d = q + 1 := ⟨d - 1, by omega⟩
  exact xEx_of me_13 rfl (fX11_hall_0_ok (d := d) (by omega) ha0 h)
def fX12_in_15 (a0 : Int32) (a1 : Int32) (a2 : Int32) (s0 : Int32) (m : xMem) : Option (Int32 × xMem) := bif (decide (s0 = 0) || decide (s0 = 1)) then some (s0, m) else none
set_option maxRecDepth 4000 in
theorem fX12_in_15_ok {a0 : Int32} {a1 : Int32} {a2 : Int32} {d : Nat} (hd : 0 ≤ d)  {s0 : Int32} {m : xMem} {r : (Int32 × xMem)} (h : fX12_in_15 a0 a1 a2 s0 m = some r) : xFx hh_18 cX12_in d 15 [some (.int a0), some (.int a1), some (.int a2)] [.int s0] (xLay m) 0 0 (some (.int r.1)) (xLay r.2) := by
  unfold fX12_in_15 at h
  obtain ⟨hb1, h⟩ := xChk_el h
  cases h
  exact fx_ireturn dX12_in_15 rfl (by show ((decide _ || decide _) && _) = true; rw [hb1]; rfl)
def fX12_in_14 (a0 : Int32) (a1 : Int32) (a2 : Int32) (m : xMem) : Option (Int32 × xMem) := fX12_in_15 a0 a1 a2 (0 : Int32) m
set_option maxRecDepth 4000 in
theorem fX12_in_14_ok {a0 : Int32} {a1 : Int32} {a2 : Int32} {d : Nat} (hd : 0 ≤ d)  {m : xMem} {r : (Int32 × xMem)} (h : fX12_in_14 a0 a1 a2 m = some r) : xFx hh_18 cX12_in d 14 [some (.int a0), some (.int a1), some (.int a2)] [] (xLay m) 0 0 (some (.int r.1)) (xLay r.2) := by
  unfold fX12_in_14 at h
  refine fx_iconst (x := 0) dX12_in_14 rfl (by decide) ?_
  exact fX12_in_15_ok hd h
def fX12_in_0 (a0 : Int32) (a1 : Int32) (a2 : Int32) (m : xMem) : Option (Int32 × xMem) := if a0 < a1 then fX12_in_14 a0 a1 a2 m else if a2 < a0 then fX12_in_14 a0 a1 a2 m else fX12_in_15 a0 a1 a2 (1 : Int32) m
set_option maxRecDepth 4000 in
theorem fX12_in_0_ok {a0 : Int32} {a1 : Int32} {a2 : Int32} {d : Nat} (hd : 0 ≤ d)  {m : xMem} {r : (Int32 × xMem)} (h : fX12_in_0 a0 a1 a2 m = some r) : xFx hh_18 cX12_in d 0 [some (.int a0), some (.int a1), some (.int a2)] [] (xLay m) 0 0 (some (.int r.1)) (xLay r.2) := by
  unfold fX12_in_0 at h
  refine fx_iload_n dX12_in_0 rfl rfl ?_
  refine fx_iload_n dX12_in_1 rfl rfl ?_
  refine fx_icmp_lt (t := 14) dX12_in_2 rfl rfl (fun hc1 => ?_) (fun hc1 => ?_)
  · rw [if_pos hc1] at h
    exact fX12_in_14_ok hd h
  · rw [if_neg hc1] at h
    refine fx_iload_n dX12_in_5 rfl rfl ?_
    refine fx_iload_n dX12_in_6 rfl rfl ?_
    refine fx_icmp_gt (t := 14) dX12_in_7 rfl rfl (fun hc2 => ?_) (fun hc2 => ?_)
    · rw [if_pos hc2] at h
      exact fX12_in_14_ok hd h
    · rw [if_neg hc2] at h
      refine fx_iconst (x := 1) dX12_in_10 rfl (by decide) ?_
      refine fx_goto (t := 15) dX12_in_11 rfl rfl ?_
      exact fX12_in_15_ok hd h
def fX12_in (a0 : Int32) (a1 : Int32) (a2 : Int32) (m : xMem) : Option (Int32 × xMem) := fX12_in_0 a0 a1 a2  m
theorem fX12_in_ok {a0 : Int32} {a1 : Int32} {a2 : Int32} {m : xMem} {r : (Int32 × xMem)} {d : Nat} (hd : 1 ≤ d)  (h : fX12_in a0 a1 a2 m = some r) : xEx d 18 [.int a0, .int a1, .int a2] (xLay m) (some (.int r.1)) (xLay r.2) := by
  obtain ⟨d, rfl⟩ : ∃ q, d = q + 1 := ⟨d - 1, by omega⟩
  exact xEx_of me_18 rfl (fX12_in_0_ok (d := d) (by omega) h)
def fX12_hall_22 (a0 : Nat) (a1 : Int32) (m : xMem) : Option (Int32 × xMem) := some ((-1 : Int32), m)
set_option maxRecDepth 4000 in
theorem fX12_hall_22_ok {a0 : Nat} {a1 : Int32} {d : Nat} (hd : 1 ≤ d) (ha0 : isModel a0) {o2 : Option Value} {o3 : Option Value} {m : xMem} {r : (Int32 × xMem)} (q2 : xNoD o2 = true) (q3 : xNoD o3 = true) (h : fX12_hall_22 a0 a1 m = some r) : xFx hh_17 cX12_hall d 22 [some (.ref a0), some (.int a1), o2, o3] [] (xLay m) 0 0 (some (.int r.1)) (xLay r.2) := by
  unfold fX12_hall_22 at h
  refine fx_iconst (x := -1) dX12_hall_22 rfl (by decide) ?_
  cases h
  exact fx_ireturn dX12_hall_23 rfl rfl
def fX12_hall_76 (a0 : Nat) (a1 : Int32) : Nat → Int32 → xMem → Option (Int32 × xMem)
  | 0, _, _ => none
  | fuel + 1, l3, m => if (12 : Int32) ≤ l3 then bif xIn (1 : Int32) 1610 then xLet (m.1 (a0 + 1) (1 : Int32).toNatClampNeg) fun x2 => xLet (x2 + (1 : Int32)) fun x4 => bif xIn (1 : Int32) 1610 then xLet (xPut m (a0 + 1) (1 : Int32).toNatClampNeg x4) fun m5 => bif xIn (1 : Int32) 1610 then xLet (m5.1 (a0 + 1) (1 : Int32).toNatClampNeg) fun x7 => xLet (x7 - (1 : Int32)) fun x9 => some (x9, m5) else none else none else none else bif xIn (1 : Int32) 1610 then xLet (m.1 (a0 + 1) (1 : Int32).toNatClampNeg) fun x10 => xLet ((12 : Int32) * x10) fun x12 => xLet ((50 : Int32) + x12) fun x13 => xLet (x13 + l3) fun x14 => bif xIn x14 1610 then xLet (xPut m (a0 + 1) x14.toNatClampNeg (0 : Int32)) fun m15 => bif xIn (1 : Int32) 1610 then xLet (m15.1 (a0 + 1) (1 : Int32).toNatClampNeg) fun x17 => xLet ((12 : Int32) * x17) fun x19 => xLet ((130 : Int32) + x19) fun x20 => xLet (x20 + l3) fun x21 => bif xIn x21 1610 then xLet (xPut m15 (a0 + 1) x21.toNatClampNeg (0 : Int32)) fun m22 => xLet (l3 + (1 : Int32)) fun x24 => fX12_hall_76 a0 a1 fuel x24 m22 else none else none else none else none
set_option maxRecDepth 4000 in
theorem fX12_hall_76_ok {a0 : Nat} {a1 : Int32} {d : Nat} (hd : 1 ≤ d) (ha0 : isModel a0) : ∀ (fuel : Nat) (l3 : Int32) (o2 : Option Value) (q2 : xNoD o2 = true) (m : xMem) (r : (Int32 × xMem)), fX12_hall_76 a0 a1 fuel l3 m = some r → xFx hh_17 cX12_hall d 76 [some (.ref a0), some (.int a1), o2, some (.int l3)] [] (xLay m) 0 0 (some (.int r.1)) (xLay r.2) := by
  intro fuel
  induction fuel with
  | zero => intro l3 o2 q2 m r  h; cases h
  | succ fuel ih =>
    intro l3 o2 q2 m r  h
    unfold fX12_hall_76 at h
    refine fx_iload_n dX12_hall_76 rfl rfl ?_
    refine fx_bipush (x := 12) dX12_hall_77 rfl (by decide) ?_
    refine fx_icmp_ge (t := 129) dX12_hall_79 rfl rfl (fun hc1 => ?_) (fun hc1 => ?_)
    · rw [if_pos hc1] at h
      refine fx_aload_n dX12_hall_129 rfl rfl ?_
      refine gx_getr dX12_hall_130 rfl fd_12_7 ha0.1 rfl rfl ?_
      refine fx_iconst (x := 1) dX12_hall_133 rfl (by decide) ?_
      refine fx_dup2 dX12_hall_134 rfl rfl ?_
      obtain ⟨hj3, h⟩ := xChk_el h
      obtain ⟨x2, hx2, h⟩ := xLet_el h
      refine gx_iaload dX12_hall_135 rfl ha0.2.1 hj3 hx2 ?_
      refine fx_iconst (x := 1) dX12_hall_136 rfl (by decide) ?_
      obtain ⟨x4, hx4, h⟩ := xLet_el h
      refine fx_iadd dX12_hall_137 rfl hx4 ?_
      obtain ⟨hj6, h⟩ := xChk_el h
      obtain ⟨m5, hm5, h⟩ := xLet_el h
      refine gx_iastore dX12_hall_138 rfl ha0.2.1 hj6 hm5 ?_
      refine fx_aload_n dX12_hall_139 rfl rfl ?_
      refine gx_getr dX12_hall_140 rfl fd_12_7 ha0.1 rfl rfl ?_
      refine fx_iconst (x := 1) dX12_hall_143 rfl (by decide) ?_
      obtain ⟨hj8, h⟩ := xChk_el h
      obtain ⟨x7, hx7, h⟩ := xLet_el h
      refine gx_iaload dX12_hall_144 rfl ha0.2.1 hj8 hx7 ?_
      refine fx_iconst (x := 1) dX12_hall_145 rfl (by decide) ?_
      obtain ⟨x9, hx9, h⟩ := xLet_el h
      refine fx_isub dX12_hall_146 rfl hx9 ?_
      cases h
      exact fx_ireturn dX12_hall_147 rfl rfl
    · rw [if_neg hc1] at h
      refine fx_aload_n dX12_hall_82 rfl rfl ?_
      refine gx_getr dX12_hall_83 rfl fd_12_7 ha0.1 rfl rfl ?_
      refine fx_bipush (x := 50) dX12_hall_86 rfl (by decide) ?_
      refine fx_bipush (x := 12) dX12_hall_88 rfl (by decide) ?_
      refine fx_aload_n dX12_hall_90 rfl rfl ?_
      refine gx_getr dX12_hall_91 rfl fd_12_7 ha0.1 rfl rfl ?_
      refine fx_iconst (x := 1) dX12_hall_94 rfl (by decide) ?_
      obtain ⟨hj11, h⟩ := xChk_el h
      obtain ⟨x10, hx10, h⟩ := xLet_el h
      refine gx_iaload dX12_hall_95 rfl ha0.2.1 hj11 hx10 ?_
      obtain ⟨x12, hx12, h⟩ := xLet_el h
      refine fx_imul dX12_hall_96 rfl hx12 ?_
      obtain ⟨x13, hx13, h⟩ := xLet_el h
      refine fx_iadd dX12_hall_97 rfl hx13 ?_
      refine fx_iload_n dX12_hall_98 rfl rfl ?_
      obtain ⟨x14, hx14, h⟩ := xLet_el h
      refine fx_iadd dX12_hall_99 rfl hx14 ?_
      refine fx_iconst (x := 0) dX12_hall_100 rfl (by decide) ?_
      obtain ⟨hj16, h⟩ := xChk_el h
      obtain ⟨m15, hm15, h⟩ := xLet_el h
      refine gx_iastore dX12_hall_101 rfl ha0.2.1 hj16 hm15 ?_
      refine fx_aload_n dX12_hall_102 rfl rfl ?_
      refine gx_getr dX12_hall_103 rfl fd_12_7 ha0.1 rfl rfl ?_
      refine fx_sipush (x := 130) dX12_hall_106 rfl (by decide) ?_
      refine fx_bipush (x := 12) dX12_hall_109 rfl (by decide) ?_
      refine fx_aload_n dX12_hall_111 rfl rfl ?_
      refine gx_getr dX12_hall_112 rfl fd_12_7 ha0.1 rfl rfl ?_
      refine fx_iconst (x := 1) dX12_hall_115 rfl (by decide) ?_
      obtain ⟨hj18, h⟩ := xChk_el h
      obtain ⟨x17, hx17, h⟩ := xLet_el h
      refine gx_iaload dX12_hall_116 rfl ha0.2.1 hj18 hx17 ?_
      obtain ⟨x19, hx19, h⟩ := xLet_el h
      refine fx_imul dX12_hall_117 rfl hx19 ?_
      obtain ⟨x20, hx20, h⟩ := xLet_el h
      refine fx_iadd dX12_hall_118 rfl hx20 ?_
      refine fx_iload_n dX12_hall_119 rfl rfl ?_
      obtain ⟨x21, hx21, h⟩ := xLet_el h
      refine fx_iadd dX12_hall_120 rfl hx21 ?_
      refine fx_iconst (x := 0) dX12_hall_121 rfl (by decide) ?_
      obtain ⟨hj23, h⟩ := xChk_el h
      obtain ⟨m22, hm22, h⟩ := xLet_el h
      refine gx_iastore dX12_hall_122 rfl ha0.2.1 hj23 hm22 ?_
      obtain ⟨x24, hx24, h⟩ := xLet_el h
      refine fx_iinc (ls2 := [some (.ref a0), some (.int a1), o2, some (.int x24)]) dX12_hall_123 rfl rfl (xGd (j := 2) rfl rfl q2 rfl) hx24 rfl ?_
      refine fx_goto (t := 76) dX12_hall_126 rfl rfl ?_
      exact ih x24 (o2) q2 m22 r h
def fX12_hall_0 (a0 : Nat) (a1 : Int32) (m : xMem) : Option (Int32 × xMem) := (fX12_in a1 (1 : Int32) (999 : Int32) m).bind fun p1 => if p1.1 = (0 : Int32) then fX12_hall_22 a0 a1 p1.2 else bif xIn (1 : Int32) 1610 then xLet (p1.2.1 (a0 + 1) (1 : Int32).toNatClampNeg) fun x3 => if ¬ x3 = (6 : Int32) then bif xIn (1 : Int32) 1610 then xLet (p1.2.1 (a0 + 1) (1 : Int32).toNatClampNeg) fun x6 => xLet ((4 : Int32) * x6) fun x8 => xLet ((20 : Int32) + x8) fun x9 => xLet (x9 + (0 : Int32)) fun x10 => bif xIn x10 1610 then xLet (xPut p1.2 (a0 + 1) x10.toNatClampNeg a1) fun m11 => xLet (x9 + (1 : Int32)) fun x13 => bif xIn x13 1610 then xLet (xPut m11 (a0 + 1) x13.toNatClampNeg (999 : Int32)) fun m14 => xLet (x9 + (2 : Int32)) fun x16 => bif xIn x16 1610 then xLet (xPut m14 (a0 + 1) x16.toNatClampNeg (0 : Int32)) fun m17 => xLet (x9 + (3 : Int32)) fun x19 => bif xIn x19 1610 then xLet (xPut m17 (a0 + 1) x19.toNatClampNeg (-1 : Int32)) fun m20 => fX12_hall_76 a0 a1 xFuel (0 : Int32) m20 else none else none else none else none else none else fX12_hall_22 a0 a1 p1.2 else none
set_option maxRecDepth 4000 in
theorem fX12_hall_0_ok {a0 : Nat} {a1 : Int32} {d : Nat} (hd : 1 ≤ d) (ha0 : isModel a0) {o2 : Option Value} {o3 : Option Value} {m : xMem} {r : (Int32 × xMem)} (q2 : xNoD o2 = true) (q3 : xNoD o3 = true) (h : fX12_hall_0 a0 a1 m = some r) : xFx hh_17 cX12_hall d 0 [some (.ref a0), some (.int a1), o2, o3] [] (xLay m) 0 0 (some (.int r.1)) (xLay r.2) := by
  unfold fX12_hall_0 at h
  refine fx_iload_n dX12_hall_0 rfl rfl ?_
  refine fx_iconst (x := 1) dX12_hall_1 rfl (by decide) ?_
  refine fx_sipush (x := 999) dX12_hall_2 rfl (by decide) ?_
  obtain ⟨p1, ep1, h⟩ := xBind_el h
  refine gx_calls (as := [.int a1, .int (1 : Int32), .int (999 : Int32)]) (r := []) rfl dX12_hall_5 ca_12_95 rfl me_18 rfl rfl rfl rfl (fX12_in_ok (d := d) (by omega) ep1) rfl rfl ?_
  refine fx_if_eq (t := 22) dX12_hall_8 rfl rfl (fun hc2 => ?_) (fun hc2 => ?_)
  · rw [if_pos hc2] at h
    exact fX12_hall_22_ok (o2 := o2) (o3 := o3) hd ha0 q2 q3 h
  · rw [if_neg hc2] at h
    refine fx_aload_n dX12_hall_11 rfl rfl ?_
    refine gx_getr dX12_hall_12 rfl fd_12_7 ha0.1 rfl rfl ?_
    refine fx_iconst (x := 1) dX12_hall_15 rfl (by decide) ?_
    obtain ⟨hj4, h⟩ := xChk_el h
    obtain ⟨x3, hx3, h⟩ := xLet_el h
    refine gx_iaload dX12_hall_16 rfl ha0.2.1 hj4 hx3 ?_
    refine fx_bipush (x := 6) dX12_hall_17 rfl (by decide) ?_
    refine fx_icmp_ne (t := 24) dX12_hall_19 rfl rfl (fun hc5 => ?_) (fun hc5 => ?_)
    · rw [if_pos hc5] at h
      refine fx_bipush (x := 20) dX12_hall_24 rfl (by decide) ?_
      refine fx_iconst (x := 4) dX12_hall_26 rfl (by decide) ?_
      refine fx_aload_n dX12_hall_27 rfl rfl ?_
      refine gx_getr dX12_hall_28 rfl fd_12_7 ha0.1 rfl rfl ?_
      refine fx_iconst (x := 1) dX12_hall_31 rfl (by decide) ?_
      obtain ⟨hj7, h⟩ := xChk_el h
      obtain ⟨x6, hx6, h⟩ := xLet_el h
      refine gx_iaload dX12_hall_32 rfl ha0.2.1 hj7 hx6 ?_
      obtain ⟨x8, hx8, h⟩ := xLet_el h
      refine fx_imul dX12_hall_33 rfl hx8 ?_
      obtain ⟨x9, hx9, h⟩ := xLet_el h
      refine fx_iadd dX12_hall_34 rfl hx9 ?_
      refine fx_istore_n (ls2 := [some (.ref a0), some (.int a1), some (.int x9), o3]) dX12_hall_35 rfl rfl rfl ?_
      refine fx_aload_n dX12_hall_36 rfl rfl ?_
      refine gx_getr dX12_hall_37 rfl fd_12_7 ha0.1 rfl rfl ?_
      refine fx_iload_n dX12_hall_40 rfl rfl ?_
      refine fx_iconst (x := 0) dX12_hall_41 rfl (by decide) ?_
      obtain ⟨x10, hx10, h⟩ := xLet_el h
      refine fx_iadd dX12_hall_42 rfl hx10 ?_
      refine fx_iload_n dX12_hall_43 rfl rfl ?_
      obtain ⟨hj12, h⟩ := xChk_el h
      obtain ⟨m11, hm11, h⟩ := xLet_el h
      refine gx_iastore dX12_hall_44 rfl ha0.2.1 hj12 hm11 ?_
      refine fx_aload_n dX12_hall_45 rfl rfl ?_
      refine gx_getr dX12_hall_46 rfl fd_12_7 ha0.1 rfl rfl ?_
      refine fx_iload_n dX12_hall_49 rfl rfl ?_
      refine fx_iconst (x := 1) dX12_hall_50 rfl (by decide) ?_
      obtain ⟨x13, hx13, h⟩ := xLet_el h
      refine fx_iadd dX12_hall_51 rfl hx13 ?_
      refine fx_sipush (x := 999) dX12_hall_52 rfl (by decide) ?_
      obtain ⟨hj15, h⟩ := xChk_el h
      obtain ⟨m14, hm14, h⟩ := xLet_el h
      refine gx_iastore dX12_hall_55 rfl ha0.2.1 hj15 hm14 ?_
      refine fx_aload_n dX12_hall_56 rfl rfl ?_
      refine gx_getr dX12_hall_57 rfl fd_12_7 ha0.1 rfl rfl ?_
      refine fx_iload_n dX12_hall_60 rfl rfl ?_
      refine fx_iconst (x := 2) dX12_hall_61 rfl (by decide) ?_
      obtain ⟨x16, hx16, h⟩ := xLet_el h
      refine fx_iadd dX12_hall_62 rfl hx16 ?_
      refine fx_iconst (x := 0) dX12_hall_63 rfl (by decide) ?_
      obtain ⟨hj18, h⟩ := xChk_el h
      obtain ⟨m17, hm17, h⟩ := xLet_el h
      refine gx_iastore dX12_hall_64 rfl ha0.2.1 hj18 hm17 ?_
      refine fx_aload_n dX12_hall_65 rfl rfl ?_
      refine gx_getr dX12_hall_66 rfl fd_12_7 ha0.1 rfl rfl ?_
      refine fx_iload_n dX12_hall_69 rfl rfl ?_
      refine fx_iconst (x := 3) dX12_hall_70 rfl (by decide) ?_
      obtain ⟨x19, hx19, h⟩ := xLet_el h
      refine fx_iadd dX12_hall_71 rfl hx19 ?_
      refine fx_iconst (x := -1) dX12_hall_72 rfl (by decide) ?_
      obtain ⟨hj21, h⟩ := xChk_el h
      obtain ⟨m20, hm20, h⟩ := xLet_el h
      refine gx_iastore dX12_hall_73 rfl ha0.2.1 hj21 hm20 ?_
      refine fx_iconst (x := 0) dX12_hall_74 rfl (by decide) ?_
      refine fx_istore_n (ls2 := [some (.ref a0), some (.int a1), some (.int x9), some (.int (0 : Int32))]) dX12_hall_75 rfl rfl rfl ?_
      exact fX12_hall_76_ok hd ha0 xFuel (0 : Int32) (some (.int x9)) rfl m20 r h
    · rw [if_neg hc5] at h
      exact fX12_hall_22_ok (o2 := o2) (o3 := o3) hd ha0 q2 q3 h
def fX12_hall (a0 : Nat) (a1 : Int32) (m : xMem) : Option (Int32 × xMem) := fX12_hall_0 a0 a1  m
theorem fX12_hall_ok {a0 : Nat} {a1 : Int32} {m : xMem} {r : (Int32 × xMem)} {d : Nat} (hd : 2 ≤ d) (ha0 : isModel a0) (h : fX12_hall a0 a1 m = some r) : xEx d 17 [.ref a0, .int a1] (xLay m) (some (.int r.1)) (xLay r.2) := by
  obtain ⟨d, rfl⟩ : ∃ q, d = q + 1 := ⟨d - 1, by omega⟩
  exact xEx_of me_17 rfl (fX12_hall_0_ok (d := d) (o2 := none) (o3 := none) (by omega) ha0 rfl rfl h)
def fX9_hasHall_23 (a0 : Nat) (a1 : Int32) (s0 : Int32) (m : xMem) : Option (Int32 × xMem) := bif (decide (s0 = 0) || decide (s0 = 1)) then some (s0, m) else none
set_option maxRecDepth 4000 in
theorem fX9_hasHall_23_ok {a0 : Nat} {a1 : Int32} {d : Nat} (hd : 0 ≤ d) (ha0 : isStation a0) {s0 : Int32} {m : xMem} {r : (Int32 × xMem)} (h : fX9_hasHall_23 a0 a1 s0 m = some r) : xFx hh_20 cX9_hasHall d 23 [some (.ref a0), some (.int a1)] [.int s0] (xLay m) 0 0 (some (.int r.1)) (xLay r.2) := by
  unfold fX9_hasHall_23 at h
  obtain ⟨hb1, h⟩ := xChk_el h
  cases h
  exact fx_ireturn dX9_hasHall_23 rfl (by show ((decide _ || decide _) && _) = true; rw [hb1]; rfl)
def fX9_hasHall_22 (a0 : Nat) (a1 : Int32) (m : xMem) : Option (Int32 × xMem) := fX9_hasHall_23 a0 a1 (0 : Int32) m
set_option maxRecDepth 4000 in
theorem fX9_hasHall_22_ok {a0 : Nat} {a1 : Int32} {d : Nat} (hd : 0 ≤ d) (ha0 : isStation a0) {m : xMem} {r : (Int32 × xMem)} (h : fX9_hasHall_22 a0 a1 m = some r) : xFx hh_20 cX9_hasHall d 22 [some (.ref a0), some (.int a1)] [] (xLay m) 0 0 (some (.int r.1)) (xLay r.2) := by
  unfold fX9_hasHall_22 at h
  refine fx_iconst (x := 0) dX9_hasHall_22 rfl (by decide) ?_
  exact fX9_hasHall_23_ok hd ha0 h
def fX9_hasHall_0 (a0 : Nat) (a1 : Int32) (m : xMem) : Option (Int32 × xMem) := if a1 < (0 : Int32) then fX9_hasHall_22 a0 a1 m else xLet (m.1 a0 7) fun x2 => if x2 ≤ a1 then fX9_hasHall_22 a0 a1 m else if (6 : Int32) ≤ a1 then fX9_hasHall_22 a0 a1 m else fX9_hasHall_23 a0 a1 (1 : Int32) m
set_option maxRecDepth 4000 in
theorem fX9_hasHall_0_ok {a0 : Nat} {a1 : Int32} {d : Nat} (hd : 0 ≤ d) (ha0 : isStation a0) {m : xMem} {r : (Int32 × xMem)} (h : fX9_hasHall_0 a0 a1 m = some r) : xFx hh_20 cX9_hasHall d 0 [some (.ref a0), some (.int a1)] [] (xLay m) 0 0 (some (.int r.1)) (xLay r.2) := by
  unfold fX9_hasHall_0 at h
  refine fx_iload_n dX9_hasHall_0 rfl rfl ?_
  refine fx_if_lt (t := 22) dX9_hasHall_1 rfl rfl (fun hc1 => ?_) (fun hc1 => ?_)
  · rw [if_pos hc1] at h
    exact fX9_hasHall_22_ok hd ha0 h
  · rw [if_neg hc1] at h
    refine fx_iload_n dX9_hasHall_4 rfl rfl ?_
    refine fx_aload_n dX9_hasHall_5 rfl rfl ?_
    obtain ⟨x2, hx2, h⟩ := xLet_el h
    refine gx_get dX9_hasHall_6 rfl fd_9_57 ha0.1 rfl rfl hx2 ?_
    refine fx_icmp_ge (t := 22) dX9_hasHall_9 rfl rfl (fun hc3 => ?_) (fun hc3 => ?_)
    · rw [if_pos hc3] at h
      exact fX9_hasHall_22_ok hd ha0 h
    · rw [if_neg hc3] at h
      refine fx_iload_n dX9_hasHall_12 rfl rfl ?_
      refine fx_bipush (x := 6) dX9_hasHall_13 rfl (by decide) ?_
      refine fx_icmp_ge (t := 22) dX9_hasHall_15 rfl rfl (fun hc4 => ?_) (fun hc4 => ?_)
      · rw [if_pos hc4] at h
        exact fX9_hasHall_22_ok hd ha0 h
      · rw [if_neg hc4] at h
        refine fx_iconst (x := 1) dX9_hasHall_18 rfl (by decide) ?_
        refine fx_goto (t := 23) dX9_hasHall_19 rfl rfl ?_
        exact fX9_hasHall_23_ok hd ha0 h
def fX9_hasHall (a0 : Nat) (a1 : Int32) (m : xMem) : Option (Int32 × xMem) := fX9_hasHall_0 a0 a1  m
theorem fX9_hasHall_ok {a0 : Nat} {a1 : Int32} {m : xMem} {r : (Int32 × xMem)} {d : Nat} (hd : 1 ≤ d) (ha0 : isStation a0) (h : fX9_hasHall a0 a1 m = some r) : xEx d 20 [.ref a0, .int a1] (xLay m) (some (.int r.1)) (xLay r.2) := by
  obtain ⟨d, rfl⟩ : ∃ q, d = q + 1 := ⟨d - 1, by omega⟩
  exact xEx_of me_20 rfl (fX9_hasHall_0_ok (d := d) (by omega) ha0 h)
def fX11_bar_22 (a0 : Nat) (a1 : Int32) (a2 : Int32) (m : xMem) : Option (Int32 × xMem) := some ((0 : Int32), m)
set_option maxRecDepth 4000 in
theorem fX11_bar_22_ok {a0 : Nat} {a1 : Int32} {a2 : Int32} {d : Nat} (hd : 1 ≤ d) (ha0 : isMS a0) {m : xMem} {r : (Int32 × xMem)} (h : fX11_bar_22 a0 a1 a2 m = some r) : xFx hh_19 cX11_bar d 22 [some (.ref a0), some (.int a1), some (.int a2)] [] (xLay m) 0 0 (some (.int r.1)) (xLay r.2) := by
  unfold fX11_bar_22 at h
  refine fx_iconst (x := 0) dX11_bar_22 rfl (by decide) ?_
  cases h
  exact fx_ireturn dX11_bar_23 rfl rfl
def fX11_bar_0 (a0 : Nat) (a1 : Int32) (a2 : Int32) (m : xMem) : Option (Int32 × xMem) := (fX9_hasHall (a0 + 1) a1 m).bind fun p1 => if p1.1 = (0 : Int32) then fX11_bar_22 a0 a1 a2 p1.2 else (fX11_within a2 (0 : Int32) (999 : Int32) p1.2).bind fun p3 => if ¬ p3.1 = (0 : Int32) then bif xIn a1 6 then xLet (a0 + 1 + 15 + 3 * a1.toNatClampNeg) fun r6 => xLet (xPut p3.2 r6 3 a2) fun m7 => some ((1 : Int32), m7) else none else fX11_bar_22 a0 a1 a2 p3.2
set_option maxRecDepth 4000 in
theorem fX11_bar_0_ok {a0 : Nat} {a1 : Int32} {a2 : Int32} {d : Nat} (hd : 1 ≤ d) (ha0 : isMS a0) {m : xMem} {r : (Int32 × xMem)} (h : fX11_bar_0 a0 a1 a2 m = some r) : xFx hh_19 cX11_bar d 0 [some (.ref a0), some (.int a1), some (.int a2)] [] (xLay m) 0 0 (some (.int r.1)) (xLay r.2) := by
  unfold fX11_bar_0 at h
  refine fx_aload_n dX11_bar_0 rfl rfl ?_
  refine gx_getr dX11_bar_1 rfl fd_11_10 ha0.1 rfl rfl ?_
  refine fx_iload_n dX11_bar_4 rfl rfl ?_
  obtain ⟨p1, ep1, h⟩ := xBind_el h
  refine gx_callv (as := [.int a1]) (r := []) rfl dX11_bar_5 ca_11_65 rfl me_20 rfl rfl rfl rfl (ha0.2.1.1) rfl (fX9_hasHall_ok (d := d) (by omega) ha0.2.1 ep1) rfl rfl ?_
  refine fx_if_eq (t := 22) dX11_bar_8 rfl rfl (fun hc2 => ?_) (fun hc2 => ?_)
  · rw [if_pos hc2] at h
    exact fX11_bar_22_ok hd ha0 h
  · rw [if_neg hc2] at h
    refine fx_iload_n dX11_bar_11 rfl rfl ?_
    refine fx_iconst (x := 0) dX11_bar_12 rfl (by decide) ?_
    refine fx_sipush (x := 999) dX11_bar_13 rfl (by decide) ?_
    obtain ⟨p3, ep3, h⟩ := xBind_el h
    refine gx_calls (as := [.int a2, .int (0 : Int32), .int (999 : Int32)]) (r := []) rfl dX11_bar_16 ca_11_47 rfl me_14 rfl rfl rfl rfl (fX11_within_ok (d := d) (by omega) ep3) rfl rfl ?_
    refine fx_if_ne (t := 24) dX11_bar_19 rfl rfl (fun hc4 => ?_) (fun hc4 => ?_)
    · rw [if_pos hc4] at h
      refine fx_aload_n dX11_bar_24 rfl rfl ?_
      refine gx_getr dX11_bar_25 rfl fd_11_10 ha0.1 rfl rfl ?_
      refine gx_getr dX11_bar_28 rfl fd_11_55 ha0.2.1.1 rfl rfl ?_
      refine fx_iload_n dX11_bar_31 rfl rfl ?_
      obtain ⟨hj5, h⟩ := xChk_el h
      obtain ⟨r6, hr6, h⟩ := xLet_el h
      refine gx_aaload (t := 4) dX11_bar_32 rfl ha0.2.1.2.1 rfl hj5 ((xRef_at (sl_9_0 (a0 + 1)) hj5).trans (congrArg some hr6)) ?_
      have hpr6 : isHall r6 := by rw [← hr6]; exact ha0.2.1.2.2.2.2.2.2.2.1 _ (xIn_lt hj5)
      refine fx_iload_n dX11_bar_33 rfl rfl ?_
      obtain ⟨m7, hm7, h⟩ := xLet_el h
      refine gx_put dX11_bar_34 rfl fd_11_69 hpr6.1 rfl rfl rfl hm7 ?_
      refine fx_iconst (x := 1) dX11_bar_37 rfl (by decide) ?_
      cases h
      exact fx_ireturn dX11_bar_38 rfl rfl
    · rw [if_neg hc4] at h
      exact fX11_bar_22_ok hd ha0 h
def fX11_bar (a0 : Nat) (a1 : Int32) (a2 : Int32) (m : xMem) : Option (Int32 × xMem) := fX11_bar_0 a0 a1 a2  m
theorem fX11_bar_ok {a0 : Nat} {a1 : Int32} {a2 : Int32} {m : xMem} {r : (Int32 × xMem)} {d : Nat} (hd : 2 ≤ d) (ha0 : isMS a0) (h : fX11_bar a0 a1 a2 m = some r) : xEx d 19 [.ref a0, .int a1, .int a2] (xLay m) (some (.int r.1)) (xLay r.2) := by
  obtain ⟨d, rfl⟩ : ∃ q, d = q + 1 := ⟨d - 1, by omega⟩
  exact xEx_of me_19 rfl (fX11_bar_0_ok (d := d) (by omega) ha0 h)
def fX12_isHall_0 (a0 : Nat) (a1 : Int32) (m : xMem) : Option (Int32 × xMem) := bif xIn (1 : Int32) 1610 then xLet (m.1 (a0 + 1) (1 : Int32).toNatClampNeg) fun x1 => xLet (x1 - (1 : Int32)) fun x3 => (fX12_in a1 (0 : Int32) x3 m).bind fun p4 => bif (decide (p4.1 = 0) || decide (p4.1 = 1)) then some (p4.1, p4.2) else none else none
set_option maxRecDepth 4000 in
theorem fX12_isHall_0_ok {a0 : Nat} {a1 : Int32} {d : Nat} (hd : 1 ≤ d) (ha0 : isModel a0) {m : xMem} {r : (Int32 × xMem)} (h : fX12_isHall_0 a0 a1 m = some r) : xFx hh_22 cX12_isHall d 0 [some (.ref a0), some (.int a1)] [] (xLay m) 0 0 (some (.int r.1)) (xLay r.2) := by
  unfold fX12_isHall_0 at h
  refine fx_iload_n dX12_isHall_0 rfl rfl ?_
  refine fx_iconst (x := 0) dX12_isHall_1 rfl (by decide) ?_
  refine fx_aload_n dX12_isHall_2 rfl rfl ?_
  refine gx_getr dX12_isHall_3 rfl fd_12_7 ha0.1 rfl rfl ?_
  refine fx_iconst (x := 1) dX12_isHall_6 rfl (by decide) ?_
  obtain ⟨hj2, h⟩ := xChk_el h
  obtain ⟨x1, hx1, h⟩ := xLet_el h
  refine gx_iaload dX12_isHall_7 rfl ha0.2.1 hj2 hx1 ?_
  refine fx_iconst (x := 1) dX12_isHall_8 rfl (by decide) ?_
  obtain ⟨x3, hx3, h⟩ := xLet_el h
  refine fx_isub dX12_isHall_9 rfl hx3 ?_
  obtain ⟨p4, ep4, h⟩ := xBind_el h
  refine gx_calls (as := [.int a1, .int (0 : Int32), .int x3]) (r := []) rfl dX12_isHall_10 ca_12_95 rfl me_18 rfl rfl rfl rfl (fX12_in_ok (d := d) (by omega) ep4) rfl rfl ?_
  obtain ⟨hb5, h⟩ := xChk_el h
  cases h
  exact fx_ireturn dX12_isHall_13 rfl (by show ((decide _ || decide _) && _) = true; rw [hb5]; rfl)
def fX12_isHall (a0 : Nat) (a1 : Int32) (m : xMem) : Option (Int32 × xMem) := fX12_isHall_0 a0 a1  m
theorem fX12_isHall_ok {a0 : Nat} {a1 : Int32} {m : xMem} {r : (Int32 × xMem)} {d : Nat} (hd : 2 ≤ d) (ha0 : isModel a0) (h : fX12_isHall a0 a1 m = some r) : xEx d 22 [.ref a0, .int a1] (xLay m) (some (.int r.1)) (xLay r.2) := by
  obtain ⟨d, rfl⟩ : ∃ q, d = q + 1 := ⟨d - 1, by omega⟩
  exact xEx_of me_22 rfl (fX12_isHall_0_ok (d := d) (by omega) ha0 h)
def fX12_bar_19 (a0 : Nat) (a1 : Int32) (a2 : Int32) (m : xMem) : Option (Int32 × xMem) := some ((0 : Int32), m)
set_option maxRecDepth 4000 in
theorem fX12_bar_19_ok {a0 : Nat} {a1 : Int32} {a2 : Int32} {d : Nat} (hd : 2 ≤ d) (ha0 : isModel a0) {m : xMem} {r : (Int32 × xMem)} (h : fX12_bar_19 a0 a1 a2 m = some r) : xFx hh_21 cX12_bar d 19 [some (.ref a0), some (.int a1), some (.int a2)] [] (xLay m) 0 0 (some (.int r.1)) (xLay r.2) := by
  unfold fX12_bar_19 at h
  refine fx_iconst (x := 0) dX12_bar_19 rfl (by decide) ?_
  cases h
  exact fx_ireturn dX12_bar_20 rfl rfl
def fX12_bar_0 (a0 : Nat) (a1 : Int32) (a2 : Int32) (m : xMem) : Option (Int32 × xMem) := (fX12_isHall a0 a1 m).bind fun p1 => if p1.1 = (0 : Int32) then fX12_bar_19 a0 a1 a2 p1.2 else (fX12_in a2 (0 : Int32) (999 : Int32) p1.2).bind fun p3 => if ¬ p3.1 = (0 : Int32) then xLet ((4 : Int32) * a1) fun x5 => xLet ((20 : Int32) + x5) fun x6 => xLet (x6 + (1 : Int32)) fun x7 => bif xIn x7 1610 then xLet (xPut p3.2 (a0 + 1) x7.toNatClampNeg a2) fun m8 => some ((1 : Int32), m8) else none else fX12_bar_19 a0 a1 a2 p3.2
set_option maxRecDepth 4000 in
theorem fX12_bar_0_ok {a0 : Nat} {a1 : Int32} {a2 : Int32} {d : Nat} (hd : 2 ≤ d) (ha0 : isModel a0) {m : xMem} {r : (Int32 × xMem)} (h : fX12_bar_0 a0 a1 a2 m = some r) : xFx hh_21 cX12_bar d 0 [some (.ref a0), some (.int a1), some (.int a2)] [] (xLay m) 0 0 (some (.int r.1)) (xLay r.2) := by
  unfold fX12_bar_0 at h
  refine fx_aload_n dX12_bar_0 rfl rfl ?_
  refine fx_iload_n dX12_bar_1 rfl rfl ?_
  obtain ⟨p1, ep1, h⟩ := xBind_el h
  refine gx_callv (as := [.int a1]) (r := []) rfl dX12_bar_2 ca_12_107 rfl me_22 rfl rfl rfl rfl (ha0.1) rfl (fX12_isHall_ok (d := d) (by omega) ha0 ep1) rfl rfl ?_
  refine fx_if_eq (t := 19) dX12_bar_5 rfl rfl (fun hc2 => ?_) (fun hc2 => ?_)
  · rw [if_pos hc2] at h
    exact fX12_bar_19_ok hd ha0 h
  · rw [if_neg hc2] at h
    refine fx_iload_n dX12_bar_8 rfl rfl ?_
    refine fx_iconst (x := 0) dX12_bar_9 rfl (by decide) ?_
    refine fx_sipush (x := 999) dX12_bar_10 rfl (by decide) ?_
    obtain ⟨p3, ep3, h⟩ := xBind_el h
    refine gx_calls (as := [.int a2, .int (0 : Int32), .int (999 : Int32)]) (r := []) rfl dX12_bar_13 ca_12_95 rfl me_18 rfl rfl rfl rfl (fX12_in_ok (d := d) (by omega) ep3) rfl rfl ?_
    refine fx_if_ne (t := 21) dX12_bar_16 rfl rfl (fun hc4 => ?_) (fun hc4 => ?_)
    · rw [if_pos hc4] at h
      refine fx_aload_n dX12_bar_21 rfl rfl ?_
      refine gx_getr dX12_bar_22 rfl fd_12_7 ha0.1 rfl rfl ?_
      refine fx_bipush (x := 20) dX12_bar_25 rfl (by decide) ?_
      refine fx_iconst (x := 4) dX12_bar_27 rfl (by decide) ?_
      refine fx_iload_n dX12_bar_28 rfl rfl ?_
      obtain ⟨x5, hx5, h⟩ := xLet_el h
      refine fx_imul dX12_bar_29 rfl hx5 ?_
      obtain ⟨x6, hx6, h⟩ := xLet_el h
      refine fx_iadd dX12_bar_30 rfl hx6 ?_
      refine fx_iconst (x := 1) dX12_bar_31 rfl (by decide) ?_
      obtain ⟨x7, hx7, h⟩ := xLet_el h
      refine fx_iadd dX12_bar_32 rfl hx7 ?_
      refine fx_iload_n dX12_bar_33 rfl rfl ?_
      obtain ⟨hj9, h⟩ := xChk_el h
      obtain ⟨m8, hm8, h⟩ := xLet_el h
      refine gx_iastore dX12_bar_34 rfl ha0.2.1 hj9 hm8 ?_
      refine fx_iconst (x := 1) dX12_bar_35 rfl (by decide) ?_
      cases h
      exact fx_ireturn dX12_bar_36 rfl rfl
    · rw [if_neg hc4] at h
      exact fX12_bar_19_ok hd ha0 h
def fX12_bar (a0 : Nat) (a1 : Int32) (a2 : Int32) (m : xMem) : Option (Int32 × xMem) := fX12_bar_0 a0 a1 a2  m
theorem fX12_bar_ok {a0 : Nat} {a1 : Int32} {a2 : Int32} {m : xMem} {r : (Int32 × xMem)} {d : Nat} (hd : 3 ≤ d) (ha0 : isModel a0) (h : fX12_bar a0 a1 a2 m = some r) : xEx d 21 [.ref a0, .int a1, .int a2] (xLay m) (some (.int r.1)) (xLay r.2) := by
  obtain ⟨d, rfl⟩ : ∃ q, d = q + 1 := ⟨d - 1, by omega⟩
  exact xEx_of me_21 rfl (fX12_bar_0_ok (d := d) (by omega) ha0 h)
def fX3_build_38 (a0 : Nat) (a1 : Int32) (a2 : Int32) (a3 : Int32) (a4 : Int32) (a5 : Int32) (s0 : Nat) (s1 : Int32) (m : xMem) : Option xMem := xLet (xPut m s0 6 s1) fun m1 => xLet (m1.1 a0 6) fun x2 => xLet (xPut m1 a0 7 x2) fun m3 => xLet (xPut m3 a0 8 (0 : Int32)) fun m4 => xLet (xPut m4 a0 9 (0 : Int32)) fun m5 => xLet (xPut m5 a0 10 (0 : Int32)) fun m6 => xLet (xPut m6 a0 11 (0 : Int32)) fun m7 => xLet (xPut m7 a0 12 (1 : Int32)) fun m8 => xLet (xPut m8 a0 13 (0 : Int32)) fun m9 => (fJ7_fill_53178 (a0 + 1) 80 (-1 : Int32) m9).bind fun p10 => some p10
set_option maxRecDepth 4000 in
theorem fX3_build_38_ok {a0 : Nat} {a1 : Int32} {a2 : Int32} {a3 : Int32} {a4 : Int32} {a5 : Int32} {d : Nat} (hd : 1 ≤ d) (ha0 : isLink a0) {s0 : Nat} {s1 : Int32} {m : xMem} {r : xMem} (hs0 : isLink s0) (h : fX3_build_38 a0 a1 a2 a3 a4 a5 s0 s1 m = some r) : xFx hh_24 cX3_build d 38 [some (.ref a0), some (.int a1), some (.int a2), some (.int a3), some (.int a4), some (.int a5)] [.int s1, .ref s0] (xLay m) 0 0 none (xLay r) := by
  unfold fX3_build_38 at h
  obtain ⟨m1, hm1, h⟩ := xLet_el h
  refine gx_put dX3_build_38 rfl fd_3_31 hs0.1 rfl rfl rfl hm1 ?_
  refine fx_aload_n dX3_build_41 rfl rfl ?_
  refine fx_aload_n dX3_build_42 rfl rfl ?_
  obtain ⟨x2, hx2, h⟩ := xLet_el h
  refine gx_get dX3_build_43 rfl fd_3_31 ha0.1 rfl rfl hx2 ?_
  obtain ⟨m3, hm3, h⟩ := xLet_el h
  refine gx_put dX3_build_46 rfl fd_3_34 ha0.1 rfl rfl rfl hm3 ?_
  refine fx_aload_n dX3_build_49 rfl rfl ?_
  refine fx_iconst (x := 0) dX3_build_50 rfl (by decide) ?_
  obtain ⟨m4, hm4, h⟩ := xLet_el h
  refine gx_put dX3_build_51 rfl fd_3_37 ha0.1 rfl rfl rfl hm4 ?_
  refine fx_aload_n dX3_build_54 rfl rfl ?_
  refine fx_iconst (x := 0) dX3_build_55 rfl (by decide) ?_
  obtain ⟨m5, hm5, h⟩ := xLet_el h
  refine gx_put dX3_build_56 rfl fd_3_40 ha0.1 rfl rfl rfl hm5 ?_
  refine fx_aload_n dX3_build_59 rfl rfl ?_
  refine fx_iconst (x := 0) dX3_build_60 rfl (by decide) ?_
  obtain ⟨m6, hm6, h⟩ := xLet_el h
  refine gx_put dX3_build_61 rfl fd_3_43 ha0.1 rfl rfl rfl hm6 ?_
  refine fx_aload_n dX3_build_64 rfl rfl ?_
  refine fx_iconst (x := 0) dX3_build_65 rfl (by decide) ?_
  obtain ⟨m7, hm7, h⟩ := xLet_el h
  refine gx_put dX3_build_66 rfl fd_3_46 ha0.1 rfl rfl rfl hm7 ?_
  refine fx_aload_n dX3_build_69 rfl rfl ?_
  refine fx_iconst (x := 1) dX3_build_70 rfl (by decide) ?_
  obtain ⟨m8, hm8, h⟩ := xLet_el h
  refine gx_put dX3_build_71 rfl fd_3_49 ha0.1 rfl rfl rfl hm8 ?_
  refine fx_aload_n dX3_build_74 rfl rfl ?_
  refine fx_iconst (x := 0) dX3_build_75 rfl (by decide) ?_
  obtain ⟨m9, hm9, h⟩ := xLet_el h
  refine gx_put dX3_build_76 rfl fd_3_53 ha0.1 rfl rfl rfl hm9 ?_
  refine fx_aload_n dX3_build_79 rfl rfl ?_
  refine gx_getr dX3_build_80 rfl fd_3_9 ha0.1 rfl rfl ?_
  refine fx_iconst (x := -1) dX3_build_83 rfl (by decide) ?_
  obtain ⟨p10, ep10, h⟩ := xBind_el h
  refine gx_calls (as := [.ref (a0 + 1), .int (-1 : Int32)]) (r := []) rfl dX3_build_84 ca_3_56 rfl me_16 rfl rfl rfl rfl (fJ7_fill_53178_ok (d := d) (by omega) ha0.2 ep10) rfl rfl ?_
  cases h
  exact fx_return dX3_build_87 rfl rfl
def fX3_build_0 (a0 : Nat) (a1 : Int32) (a2 : Int32) (a3 : Int32) (a4 : Int32) (a5 : Int32) (m : xMem) : Option xMem := xLet (xPut m a0 1 a1) fun m1 => xLet (xPut m1 a0 2 a2) fun m2 => xLet (xPut m2 a0 3 a3) fun m3 => xLet (xPut m3 a0 4 a4) fun m4 => xLet (xPut m4 a0 5 a5) fun m5 => if ¬ a1 = (2 : Int32) then fX3_build_38 a0 a1 a2 a3 a4 a5 a0 (1 : Int32) m5 else fX3_build_38 a0 a1 a2 a3 a4 a5 a0 (0 : Int32) m5
set_option maxRecDepth 4000 in
theorem fX3_build_0_ok {a0 : Nat} {a1 : Int32} {a2 : Int32} {a3 : Int32} {a4 : Int32} {a5 : Int32} {d : Nat} (hd : 1 ≤ d) (ha0 : isLink a0) {m : xMem} {r : xMem} (h : fX3_build_0 a0 a1 a2 a3 a4 a5 m = some r) : xFx hh_24 cX3_build d 0 [some (.ref a0), some (.int a1), some (.int a2), some (.int a3), some (.int a4), some (.int a5)] [] (xLay m) 0 0 none (xLay r) := by
  unfold fX3_build_0 at h
  refine fx_aload_n dX3_build_0 rfl rfl ?_
  refine fx_iload_n dX3_build_1 rfl rfl ?_
  obtain ⟨m1, hm1, h⟩ := xLet_el h
  refine gx_put dX3_build_2 rfl fd_3_15 ha0.1 rfl rfl rfl hm1 ?_
  refine fx_aload_n dX3_build_5 rfl rfl ?_
  refine fx_iload_n dX3_build_6 rfl rfl ?_
  obtain ⟨m2, hm2, h⟩ := xLet_el h
  refine gx_put dX3_build_7 rfl fd_3_19 ha0.1 rfl rfl rfl hm2 ?_
  refine fx_aload_n dX3_build_10 rfl rfl ?_
  refine fx_iload_n dX3_build_11 rfl rfl ?_
  obtain ⟨m3, hm3, h⟩ := xLet_el h
  refine gx_put dX3_build_12 rfl fd_3_22 ha0.1 rfl rfl rfl hm3 ?_
  refine fx_aload_n dX3_build_15 rfl rfl ?_
  refine fx_iload dX3_build_16 rfl rfl ?_
  obtain ⟨m4, hm4, h⟩ := xLet_el h
  refine gx_put dX3_build_18 rfl fd_3_25 ha0.1 rfl rfl rfl hm4 ?_
  refine fx_aload_n dX3_build_21 rfl rfl ?_
  refine fx_iload dX3_build_22 rfl rfl ?_
  obtain ⟨m5, hm5, h⟩ := xLet_el h
  refine gx_put dX3_build_24 rfl fd_3_28 ha0.1 rfl rfl rfl hm5 ?_
  refine fx_aload_n dX3_build_27 rfl rfl ?_
  refine fx_iload_n dX3_build_28 rfl rfl ?_
  refine fx_iconst (x := 2) dX3_build_29 rfl (by decide) ?_
  refine fx_icmp_ne (t := 37) dX3_build_30 rfl rfl (fun hc6 => ?_) (fun hc6 => ?_)
  · rw [if_pos hc6] at h
    refine fx_iconst (x := 1) dX3_build_37 rfl (by decide) ?_
    exact fX3_build_38_ok hd ha0 ha0 h
  · rw [if_neg hc6] at h
    refine fx_iconst (x := 0) dX3_build_33 rfl (by decide) ?_
    refine fx_goto (t := 38) dX3_build_34 rfl rfl ?_
    exact fX3_build_38_ok hd ha0 ha0 h
def fX3_build (a0 : Nat) (a1 : Int32) (a2 : Int32) (a3 : Int32) (a4 : Int32) (a5 : Int32) (m : xMem) : Option xMem := fX3_build_0 a0 a1 a2 a3 a4 a5  m
theorem fX3_build_ok {a0 : Nat} {a1 : Int32} {a2 : Int32} {a3 : Int32} {a4 : Int32} {a5 : Int32} {m : xMem} {r : xMem} {d : Nat} (hd : 2 ≤ d) (ha0 : isLink a0) (h : fX3_build a0 a1 a2 a3 a4 a5 m = some r) : xEx d 24 [.ref a0, .int a1, .int a2, .int a3, .int a4, .int a5] (xLay m) none (xLay r) := by
  obtain ⟨d, rfl⟩ : ∃ q, d = q + 1 := ⟨d - 1, by omega⟩
  exact xEx_of me_24 rfl (fX3_build_0_ok (d := d) (by omega) ha0 h)
def fX11_link_27 (a0 : Nat) (a1 : Int32) (a2 : Int32) (a3 : Int32) (a4 : Int32) (a5 : Int32) (m : xMem) : Option (Int32 × xMem) := some ((-1 : Int32), m)
set_option maxRecDepth 4000 in
theorem fX11_link_27_ok {a0 : Nat} {a1 : Int32} {a2 : Int32} {a3 : Int32} {a4 : Int32} {a5 : Int32} {d : Nat} (hd : 2 ≤ d) (ha0 : isMS a0) {o6 : Option Value} {o7 : Option Value} {m : xMem} {r : (Int32 × xMem)} (q6 : xNoD o6 = true) (q7 : xNoD o7 = true) (h : fX11_link_27 a0 a1 a2 a3 a4 a5 m = some r) : xFx hh_23 cX11_link d 27 [some (.ref a0), some (.int a1), some (.int a2), some (.int a3), some (.int a4), some (.int a5), o6, o7] [] (xLay m) 0 0 (some (.int r.1)) (xLay r.2) := by
  unfold fX11_link_27 at h
  refine fx_iconst (x := -1) dX11_link_27 rfl (by decide) ?_
  cases h
  exact fx_ireturn dX11_link_28 rfl rfl
def fX11_link_116 (a0 : Nat) (a1 : Int32) (a2 : Int32) (a3 : Int32) (a4 : Int32) (a5 : Int32) (m : xMem) : Option (Int32 × xMem) := some ((-1 : Int32), m)
set_option maxRecDepth 4000 in
theorem fX11_link_116_ok {a0 : Nat} {a1 : Int32} {a2 : Int32} {a3 : Int32} {a4 : Int32} {a5 : Int32} {d : Nat} (hd : 2 ≤ d) (ha0 : isMS a0) {o6 : Option Value} {o7 : Option Value} {m : xMem} {r : (Int32 × xMem)} (q6 : xNoD o6 = true) (q7 : xNoD o7 = true) (h : fX11_link_116 a0 a1 a2 a3 a4 a5 m = some r) : xFx hh_23 cX11_link d 116 [some (.ref a0), some (.int a1), some (.int a2), some (.int a3), some (.int a4), some (.int a5), o6, o7] [] (xLay m) 0 0 (some (.int r.1)) (xLay r.2) := by
  unfold fX11_link_116 at h
  refine fx_iconst (x := -1) dX11_link_116 rfl (by decide) ?_
  cases h
  exact fx_ireturn dX11_link_117 rfl rfl
def fX11_link_100 (a0 : Nat) (a1 : Int32) (a2 : Int32) (a3 : Int32) (a4 : Int32) (a5 : Int32) (m : xMem) : Option (Int32 × xMem) := xLet (m.1 (a0 + 1) 8) fun x1 => (fX11_within x1 (0 : Int32) (9 : Int32) m).bind fun p2 => if ¬ p2.1 = (0 : Int32) then xLet (p2.2.1 (a0 + 1) 8) fun x4 => bif xIn x4 10 then xLet (a0 + 1 + 33 + 2 * x4.toNatClampNeg) fun r6 => (fX3_build r6 a1 a2 a3 a4 a5 p2.2).bind fun p7 => xLet (p7.1 (a0 + 1) 8) fun x8 => xLet (x8 + (1 : Int32)) fun x9 => xLet (xPut p7 (a0 + 1) 8 x9) fun m10 => xLet (m10.1 (a0 + 1) 8) fun x11 => xLet (x11 - (1 : Int32)) fun x12 => some (x12, m10) else none else fX11_link_116 a0 a1 a2 a3 a4 a5 p2.2
set_option maxRecDepth 4000 in
theorem fX11_link_100_ok {a0 : Nat} {a1 : Int32} {a2 : Int32} {a3 : Int32} {a4 : Int32} {a5 : Int32} {d : Nat} (hd : 2 ≤ d) (ha0 : isMS a0) {o6 : Option Value} {o7 : Option Value} {m : xMem} {r : (Int32 × xMem)} (q6 : xNoD o6 = true) (q7 : xNoD o7 = true) (h : fX11_link_100 a0 a1 a2 a3 a4 a5 m = some r) : xFx hh_23 cX11_link d 100 [some (.ref a0), some (.int a1), some (.int a2), some (.int a3), some (.int a4), some (.int a5), o6, o7] [] (xLay m) 0 0 (some (.int r.1)) (xLay r.2) := by
  unfold fX11_link_100 at h
  refine fx_aload_n dX11_link_100 rfl rfl ?_
  refine gx_getr dX11_link_101 rfl fd_11_10 ha0.1 rfl rfl ?_
  obtain ⟨x1, hx1, h⟩ := xLet_el h
  refine gx_get dX11_link_104 rfl fd_11_72 ha0.2.1.1 rfl rfl hx1 ?_
  refine fx_iconst (x := 0) dX11_link_107 rfl (by decide) ?_
  refine fx_bipush (x := 9) dX11_link_108 rfl (by decide) ?_
  obtain ⟨p2, ep2, h⟩ := xBind_el h
  refine gx_calls (as := [.int x1, .int (0 : Int32), .int (9 : Int32)]) (r := []) rfl dX11_link_110 ca_11_47 rfl me_14 rfl rfl rfl rfl (fX11_within_ok (d := d) (by omega) ep2) rfl rfl ?_
  refine fx_if_ne (t := 118) dX11_link_113 rfl rfl (fun hc3 => ?_) (fun hc3 => ?_)
  · rw [if_pos hc3] at h
    refine fx_aload_n dX11_link_118 rfl rfl ?_
    refine gx_getr dX11_link_119 rfl fd_11_10 ha0.1 rfl rfl ?_
    refine gx_getr dX11_link_122 rfl fd_11_75 ha0.2.1.1 rfl rfl ?_
    refine fx_aload_n dX11_link_125 rfl rfl ?_
    refine gx_getr dX11_link_126 rfl fd_11_10 ha0.1 rfl rfl ?_
    obtain ⟨x4, hx4, h⟩ := xLet_el h
    refine gx_get dX11_link_129 rfl fd_11_72 ha0.2.1.1 rfl rfl hx4 ?_
    obtain ⟨hj5, h⟩ := xChk_el h
    obtain ⟨r6, hr6, h⟩ := xLet_el h
    refine gx_aaload (t := 5) dX11_link_132 rfl ha0.2.1.2.2.1 rfl hj5 ((xRef_at (sl_9_1 (a0 + 1)) hj5).trans (congrArg some hr6)) ?_
    have hpr6 : isLink r6 := by rw [← hr6]; exact ha0.2.1.2.2.2.2.2.2.2.2.1 _ (xIn_lt hj5)
    refine fx_iload_n dX11_link_133 rfl rfl ?_
    refine fx_iload_n dX11_link_134 rfl rfl ?_
    refine fx_iload_n dX11_link_135 rfl rfl ?_
    refine fx_iload dX11_link_136 rfl rfl ?_
    refine fx_iload dX11_link_138 rfl rfl ?_
    obtain ⟨p7, ep7, h⟩ := xBind_el h
    refine gx_callv (as := [.int a1, .int a2, .int a3, .int a4, .int a5]) (r := []) rfl dX11_link_140 ca_11_79 rfl me_24 rfl rfl rfl rfl (hpr6.1) rfl (fX3_build_ok (d := d) (by omega) hpr6 ep7) rfl rfl ?_
    refine fx_aload_n dX11_link_143 rfl rfl ?_
    refine gx_getr dX11_link_144 rfl fd_11_10 ha0.1 rfl rfl ?_
    refine fx_dup dX11_link_147 rfl rfl ?_
    obtain ⟨x8, hx8, h⟩ := xLet_el h
    refine gx_get dX11_link_148 rfl fd_11_72 ha0.2.1.1 rfl rfl hx8 ?_
    refine fx_iconst (x := 1) dX11_link_151 rfl (by decide) ?_
    obtain ⟨x9, hx9, h⟩ := xLet_el h
    refine fx_iadd dX11_link_152 rfl hx9 ?_
    obtain ⟨m10, hm10, h⟩ := xLet_el h
    refine gx_put dX11_link_153 rfl fd_11_72 ha0.2.1.1 rfl rfl rfl hm10 ?_
    refine fx_aload_n dX11_link_156 rfl rfl ?_
    refine gx_getr dX11_link_157 rfl fd_11_10 ha0.1 rfl rfl ?_
    obtain ⟨x11, hx11, h⟩ := xLet_el h
    refine gx_get dX11_link_160 rfl fd_11_72 ha0.2.1.1 rfl rfl hx11 ?_
    refine fx_iconst (x := 1) dX11_link_163 rfl (by decide) ?_
    obtain ⟨x12, hx12, h⟩ := xLet_el h
    refine fx_isub dX11_link_164 rfl hx12 ?_
    cases h
    exact fx_ireturn dX11_link_165 rfl rfl
  · rw [if_neg hc3] at h
    exact fX11_link_116_ok (o6 := o6) (o7 := o7) hd ha0 q6 q7 h
def fX11_link_88 (a0 : Nat) (a1 : Int32) (a2 : Int32) (a3 : Int32) (a4 : Int32) (a5 : Int32) (l6 : Int32) (s0 : Int32) (m : xMem) : Option (Int32 × xMem) := if ¬ l6 = (0 : Int32) then fX11_link_100 a0 a1 a2 a3 a4 a5 m else if s0 = (0 : Int32) then fX11_link_116 a0 a1 a2 a3 a4 a5 m else fX11_link_100 a0 a1 a2 a3 a4 a5 m
set_option maxRecDepth 4000 in
theorem fX11_link_88_ok {a0 : Nat} {a1 : Int32} {a2 : Int32} {a3 : Int32} {a4 : Int32} {a5 : Int32} {d : Nat} (hd : 2 ≤ d) (ha0 : isMS a0) {l6 : Int32} {s0 : Int32} {o7 : Option Value} {m : xMem} {r : (Int32 × xMem)} (q7 : xNoD o7 = true) (h : fX11_link_88 a0 a1 a2 a3 a4 a5 l6 s0 m = some r) : xFx hh_23 cX11_link d 88 [some (.ref a0), some (.int a1), some (.int a2), some (.int a3), some (.int a4), some (.int a5), some (.int l6), o7] [.int s0] (xLay m) 0 0 (some (.int r.1)) (xLay r.2) := by
  unfold fX11_link_88 at h
  refine fx_istore (ls2 := [some (.ref a0), some (.int a1), some (.int a2), some (.int a3), some (.int a4), some (.int a5), some (.int l6), some (.int s0)]) dX11_link_88 rfl rfl rfl ?_
  refine fx_iload dX11_link_90 rfl rfl ?_
  refine fx_if_ne (t := 100) dX11_link_92 rfl rfl (fun hc1 => ?_) (fun hc1 => ?_)
  · rw [if_pos hc1] at h
    exact fX11_link_100_ok (o6 := some (.int l6)) (o7 := some (.int s0)) hd ha0 rfl rfl h
  · rw [if_neg hc1] at h
    refine fx_iload dX11_link_95 rfl rfl ?_
    refine fx_if_eq (t := 116) dX11_link_97 rfl rfl (fun hc2 => ?_) (fun hc2 => ?_)
    · rw [if_pos hc2] at h
      exact fX11_link_116_ok (o6 := some (.int l6)) (o7 := some (.int s0)) hd ha0 rfl rfl h
    · rw [if_neg hc2] at h
      exact fX11_link_100_ok (o6 := some (.int l6)) (o7 := some (.int s0)) hd ha0 rfl rfl h
def fX11_link_87 (a0 : Nat) (a1 : Int32) (a2 : Int32) (a3 : Int32) (a4 : Int32) (a5 : Int32) (l6 : Int32) (m : xMem) : Option (Int32 × xMem) := fX11_link_88 a0 a1 a2 a3 a4 a5 l6 (0 : Int32) m
set_option maxRecDepth 4000 in
theorem fX11_link_87_ok {a0 : Nat} {a1 : Int32} {a2 : Int32} {a3 : Int32} {a4 : Int32} {a5 : Int32} {d : Nat} (hd : 2 ≤ d) (ha0 : isMS a0) {l6 : Int32} {o7 : Option Value} {m : xMem} {r : (Int32 × xMem)} (q7 : xNoD o7 = true) (h : fX11_link_87 a0 a1 a2 a3 a4 a5 l6 m = some r) : xFx hh_23 cX11_link d 87 [some (.ref a0), some (.int a1), some (.int a2), some (.int a3), some (.int a4), some (.int a5), some (.int l6), o7] [] (xLay m) 0 0 (some (.int r.1)) (xLay r.2) := by
  unfold fX11_link_87 at h
  refine fx_iconst (x := 0) dX11_link_87 rfl (by decide) ?_
  exact fX11_link_88_ok (o7 := o7) hd ha0 q7 h
def fX11_link_54 (a0 : Nat) (a1 : Int32) (a2 : Int32) (a3 : Int32) (a4 : Int32) (a5 : Int32) (s0 : Int32) (m : xMem) : Option (Int32 × xMem) := if ¬ a1 = (2 : Int32) then fX11_link_87 a0 a1 a2 a3 a4 a5 s0 m else (fX11_within a4 (1 : Int32) (20 : Int32) m).bind fun p2 => if p2.1 = (0 : Int32) then fX11_link_87 a0 a1 a2 a3 a4 a5 s0 p2.2 else (fX11_within a5 (2 : Int32) (99 : Int32) p2.2).bind fun p4 => if p4.1 = (0 : Int32) then fX11_link_87 a0 a1 a2 a3 a4 a5 s0 p4.2 else fX11_link_88 a0 a1 a2 a3 a4 a5 s0 (1 : Int32) p4.2
set_option maxRecDepth 4000 in
theorem fX11_link_54_ok {a0 : Nat} {a1 : Int32} {a2 : Int32} {a3 : Int32} {a4 : Int32} {a5 : Int32} {d : Nat} (hd : 2 ≤ d) (ha0 : isMS a0) {s0 : Int32} {o6 : Option Value} {o7 : Option Value} {m : xMem} {r : (Int32 × xMem)} (q6 : xNoD o6 = true) (q7 : xNoD o7 = true) (h : fX11_link_54 a0 a1 a2 a3 a4 a5 s0 m = some r) : xFx hh_23 cX11_link d 54 [some (.ref a0), some (.int a1), some (.int a2), some (.int a3), some (.int a4), some (.int a5), o6, o7] [.int s0] (xLay m) 0 0 (some (.int r.1)) (xLay r.2) := by
  unfold fX11_link_54 at h
  refine fx_istore (ls2 := [some (.ref a0), some (.int a1), some (.int a2), some (.int a3), some (.int a4), some (.int a5), some (.int s0), o7]) dX11_link_54 rfl rfl rfl ?_
  refine fx_iload_n dX11_link_56 rfl rfl ?_
  refine fx_iconst (x := 2) dX11_link_57 rfl (by decide) ?_
  refine fx_icmp_ne (t := 87) dX11_link_58 rfl rfl (fun hc1 => ?_) (fun hc1 => ?_)
  · rw [if_pos hc1] at h
    exact fX11_link_87_ok (o7 := o7) hd ha0 q7 h
  · rw [if_neg hc1] at h
    refine fx_iload dX11_link_61 rfl rfl ?_
    refine fx_iconst (x := 1) dX11_link_63 rfl (by decide) ?_
    refine fx_bipush (x := 20) dX11_link_64 rfl (by decide) ?_
    obtain ⟨p2, ep2, h⟩ := xBind_el h
    refine gx_calls (as := [.int a4, .int (1 : Int32), .int (20 : Int32)]) (r := []) rfl dX11_link_66 ca_11_47 rfl me_14 rfl rfl rfl rfl (fX11_within_ok (d := d) (by omega) ep2) rfl rfl ?_
    refine fx_if_eq (t := 87) dX11_link_69 rfl rfl (fun hc3 => ?_) (fun hc3 => ?_)
    · rw [if_pos hc3] at h
      exact fX11_link_87_ok (o7 := o7) hd ha0 q7 h
    · rw [if_neg hc3] at h
      refine fx_iload dX11_link_72 rfl rfl ?_
      refine fx_iconst (x := 2) dX11_link_74 rfl (by decide) ?_
      refine fx_bipush (x := 99) dX11_link_75 rfl (by decide) ?_
      obtain ⟨p4, ep4, h⟩ := xBind_el h
      refine gx_calls (as := [.int a5, .int (2 : Int32), .int (99 : Int32)]) (r := []) rfl dX11_link_77 ca_11_47 rfl me_14 rfl rfl rfl rfl (fX11_within_ok (d := d) (by omega) ep4) rfl rfl ?_
      refine fx_if_eq (t := 87) dX11_link_80 rfl rfl (fun hc5 => ?_) (fun hc5 => ?_)
      · rw [if_pos hc5] at h
        exact fX11_link_87_ok (o7 := o7) hd ha0 q7 h
      · rw [if_neg hc5] at h
        refine fx_iconst (x := 1) dX11_link_83 rfl (by decide) ?_
        refine fx_goto (t := 88) dX11_link_84 rfl rfl ?_
        exact fX11_link_88_ok (o7 := o7) hd ha0 q7 h
def fX11_link_53 (a0 : Nat) (a1 : Int32) (a2 : Int32) (a3 : Int32) (a4 : Int32) (a5 : Int32) (m : xMem) : Option (Int32 × xMem) := fX11_link_54 a0 a1 a2 a3 a4 a5 (0 : Int32) m
set_option maxRecDepth 4000 in
theorem fX11_link_53_ok {a0 : Nat} {a1 : Int32} {a2 : Int32} {a3 : Int32} {a4 : Int32} {a5 : Int32} {d : Nat} (hd : 2 ≤ d) (ha0 : isMS a0) {o6 : Option Value} {o7 : Option Value} {m : xMem} {r : (Int32 × xMem)} (q6 : xNoD o6 = true) (q7 : xNoD o7 = true) (h : fX11_link_53 a0 a1 a2 a3 a4 a5 m = some r) : xFx hh_23 cX11_link d 53 [some (.ref a0), some (.int a1), some (.int a2), some (.int a3), some (.int a4), some (.int a5), o6, o7] [] (xLay m) 0 0 (some (.int r.1)) (xLay r.2) := by
  unfold fX11_link_53 at h
  refine fx_iconst (x := 0) dX11_link_53 rfl (by decide) ?_
  exact fX11_link_54_ok (o6 := o6) (o7 := o7) hd ha0 q6 q7 h
def fX11_link_38 (a0 : Nat) (a1 : Int32) (a2 : Int32) (a3 : Int32) (a4 : Int32) (a5 : Int32) (m : xMem) : Option (Int32 × xMem) := (fX11_within a4 (2 : Int32) (40 : Int32) m).bind fun p1 => if p1.1 = (0 : Int32) then fX11_link_53 a0 a1 a2 a3 a4 a5 p1.2 else fX11_link_54 a0 a1 a2 a3 a4 a5 (1 : Int32) p1.2
set_option maxRecDepth 4000 in
theorem fX11_link_38_ok {a0 : Nat} {a1 : Int32} {a2 : Int32} {a3 : Int32} {a4 : Int32} {a5 : Int32} {d : Nat} (hd : 2 ≤ d) (ha0 : isMS a0) {o6 : Option Value} {o7 : Option Value} {m : xMem} {r : (Int32 × xMem)} (q6 : xNoD o6 = true) (q7 : xNoD o7 = true) (h : fX11_link_38 a0 a1 a2 a3 a4 a5 m = some r) : xFx hh_23 cX11_link d 38 [some (.ref a0), some (.int a1), some (.int a2), some (.int a3), some (.int a4), some (.int a5), o6, o7] [] (xLay m) 0 0 (some (.int r.1)) (xLay r.2) := by
  unfold fX11_link_38 at h
  refine fx_iload dX11_link_38 rfl rfl ?_
  refine fx_iconst (x := 2) dX11_link_40 rfl (by decide) ?_
  refine fx_bipush (x := 40) dX11_link_41 rfl (by decide) ?_
  obtain ⟨p1, ep1, h⟩ := xBind_el h
  refine gx_calls (as := [.int a4, .int (2 : Int32), .int (40 : Int32)]) (r := []) rfl dX11_link_43 ca_11_47 rfl me_14 rfl rfl rfl rfl (fX11_within_ok (d := d) (by omega) ep1) rfl rfl ?_
  refine fx_if_eq (t := 53) dX11_link_46 rfl rfl (fun hc2 => ?_) (fun hc2 => ?_)
  · rw [if_pos hc2] at h
    exact fX11_link_53_ok (o6 := o6) (o7 := o7) hd ha0 q6 q7 h
  · rw [if_neg hc2] at h
    refine fx_iconst (x := 1) dX11_link_49 rfl (by decide) ?_
    refine fx_goto (t := 54) dX11_link_50 rfl rfl ?_
    exact fX11_link_54_ok (o6 := o6) (o7 := o7) hd ha0 q6 q7 h
def fX11_link_0 (a0 : Nat) (a1 : Int32) (a2 : Int32) (a3 : Int32) (a4 : Int32) (a5 : Int32) (m : xMem) : Option (Int32 × xMem) := (fX9_hasHall (a0 + 1) a2 m).bind fun p1 => if p1.1 = (0 : Int32) then fX11_link_27 a0 a1 a2 a3 a4 a5 p1.2 else (fX9_hasHall (a0 + 1) a3 p1.2).bind fun p3 => if p3.1 = (0 : Int32) then fX11_link_27 a0 a1 a2 a3 a4 a5 p3.2 else if ¬ a2 = a3 then if a1 = (0 : Int32) then fX11_link_38 a0 a1 a2 a3 a4 a5 p3.2 else if ¬ a1 = (1 : Int32) then fX11_link_53 a0 a1 a2 a3 a4 a5 p3.2 else fX11_link_38 a0 a1 a2 a3 a4 a5 p3.2 else fX11_link_27 a0 a1 a2 a3 a4 a5 p3.2
set_option maxRecDepth 4000 in
theorem fX11_link_0_ok {a0 : Nat} {a1 : Int32} {a2 : Int32} {a3 : Int32} {a4 : Int32} {a5 : Int32} {d : Nat} (hd : 2 ≤ d) (ha0 : isMS a0) {o6 : Option Value} {o7 : Option Value} {m : xMem} {r : (Int32 × xMem)} (q6 : xNoD o6 = true) (q7 : xNoD o7 = true) (h : fX11_link_0 a0 a1 a2 a3 a4 a5 m = some r) : xFx hh_23 cX11_link d 0 [some (.ref a0), some (.int a1), some (.int a2), some (.int a3), some (.int a4), some (.int a5), o6, o7] [] (xLay m) 0 0 (some (.int r.1)) (xLay r.2) := by
  unfold fX11_link_0 at h
  refine fx_aload_n dX11_link_0 rfl rfl ?_
  refine gx_getr dX11_link_1 rfl fd_11_10 ha0.1 rfl rfl ?_
  refine fx_iload_n dX11_link_4 rfl rfl ?_
  obtain ⟨p1, ep1, h⟩ := xBind_el h
  refine gx_callv (as := [.int a2]) (r := []) rfl dX11_link_5 ca_11_65 rfl me_20 rfl rfl rfl rfl (ha0.2.1.1) rfl (fX9_hasHall_ok (d := d) (by omega) ha0.2.1 ep1) rfl rfl ?_
  refine fx_if_eq (t := 27) dX11_link_8 rfl rfl (fun hc2 => ?_) (fun hc2 => ?_)
  · rw [if_pos hc2] at h
    exact fX11_link_27_ok (o6 := o6) (o7 := o7) hd ha0 q6 q7 h
  · rw [if_neg hc2] at h
    refine fx_aload_n dX11_link_11 rfl rfl ?_
    refine gx_getr dX11_link_12 rfl fd_11_10 ha0.1 rfl rfl ?_
    refine fx_iload_n dX11_link_15 rfl rfl ?_
    obtain ⟨p3, ep3, h⟩ := xBind_el h
    refine gx_callv (as := [.int a3]) (r := []) rfl dX11_link_16 ca_11_65 rfl me_20 rfl rfl rfl rfl (ha0.2.1.1) rfl (fX9_hasHall_ok (d := d) (by omega) ha0.2.1 ep3) rfl rfl ?_
    refine fx_if_eq (t := 27) dX11_link_19 rfl rfl (fun hc4 => ?_) (fun hc4 => ?_)
    · rw [if_pos hc4] at h
      exact fX11_link_27_ok (o6 := o6) (o7 := o7) hd ha0 q6 q7 h
    · rw [if_neg hc4] at h
      refine fx_iload_n dX11_link_22 rfl rfl ?_
      refine fx_iload_n dX11_link_23 rfl rfl ?_
      refine fx_icmp_ne (t := 29) dX11_link_24 rfl rfl (fun hc5 => ?_) (fun hc5 => ?_)
      · rw [if_pos hc5] at h
        refine fx_iload_n dX11_link_29 rfl rfl ?_
        refine fx_if_eq (t := 38) dX11_link_30 rfl rfl (fun hc6 => ?_) (fun hc6 => ?_)
        · rw [if_pos hc6] at h
          exact fX11_link_38_ok (o6 := o6) (o7 := o7) hd ha0 q6 q7 h
        · rw [if_neg hc6] at h
          refine fx_iload_n dX11_link_33 rfl rfl ?_
          refine fx_iconst (x := 1) dX11_link_34 rfl (by decide) ?_
          refine fx_icmp_ne (t := 53) dX11_link_35 rfl rfl (fun hc7 => ?_) (fun hc7 => ?_)
          · rw [if_pos hc7] at h
            exact fX11_link_53_ok (o6 := o6) (o7 := o7) hd ha0 q6 q7 h
          · rw [if_neg hc7] at h
            exact fX11_link_38_ok (o6 := o6) (o7 := o7) hd ha0 q6 q7 h
      · rw [if_neg hc5] at h
        exact fX11_link_27_ok (o6 := o6) (o7 := o7) hd ha0 q6 q7 h
def fX11_link (a0 : Nat) (a1 : Int32) (a2 : Int32) (a3 : Int32) (a4 : Int32) (a5 : Int32) (m : xMem) : Option (Int32 × xMem) := fX11_link_0 a0 a1 a2 a3 a4 a5  m
theorem fX11_link_ok {a0 : Nat} {a1 : Int32} {a2 : Int32} {a3 : Int32} {a4 : Int32} {a5 : Int32} {m : xMem} {r : (Int32 × xMem)} {d : Nat} (hd : 3 ≤ d) (ha0 : isMS a0) (h : fX11_link a0 a1 a2 a3 a4 a5 m = some r) : xEx d 23 [.ref a0, .int a1, .int a2, .int a3, .int a4, .int a5] (xLay m) (some (.int r.1)) (xLay r.2) := by
  obtain ⟨d, rfl⟩ : ∃ q, d = q + 1 := ⟨d - 1, by omega⟩
  exact xEx_of me_23 rfl (fX11_link_0_ok (d := d) (o6 := none) (o7 := none) (by omega) ha0 rfl rfl h)
def fX12_tells_0 (a0 : Nat) (a1 : Int32) (a2 : Int32) (a3 : Int32) (m : xMem) : Option xMem := xLet ((14 : Int32) * a1) fun x1 => xLet ((210 : Int32) + x1) fun x2 => xLet (x2 + a2) fun x3 => bif xIn x3 1610 then xLet (xPut m (a0 + 1) x3.toNatClampNeg a3) fun m4 => some m4 else none
set_option maxRecDepth 4000 in
theorem fX12_tells_0_ok {a0 : Nat} {a1 : Int32} {a2 : Int32} {a3 : Int32} {d : Nat} (hd : 0 ≤ d) (ha0 : isModel a0) {m : xMem} {r : xMem} (h : fX12_tells_0 a0 a1 a2 a3 m = some r) : xFx hh_26 cX12_tells d 0 [some (.ref a0), some (.int a1), some (.int a2), some (.int a3)] [] (xLay m) 0 0 none (xLay r) := by
  unfold fX12_tells_0 at h
  refine fx_aload_n dX12_tells_0 rfl rfl ?_
  refine gx_getr dX12_tells_1 rfl fd_12_7 ha0.1 rfl rfl ?_
  refine fx_sipush (x := 210) dX12_tells_4 rfl (by decide) ?_
  refine fx_bipush (x := 14) dX12_tells_7 rfl (by decide) ?_
  refine fx_iload_n dX12_tells_9 rfl rfl ?_
  obtain ⟨x1, hx1, h⟩ := xLet_el h
  refine fx_imul dX12_tells_10 rfl hx1 ?_
  obtain ⟨x2, hx2, h⟩ := xLet_el h
  refine fx_iadd dX12_tells_11 rfl hx2 ?_
  refine fx_iload_n dX12_tells_12 rfl rfl ?_
  obtain ⟨x3, hx3, h⟩ := xLet_el h
  refine fx_iadd dX12_tells_13 rfl hx3 ?_
  refine fx_iload_n dX12_tells_14 rfl rfl ?_
  obtain ⟨hj5, h⟩ := xChk_el h
  obtain ⟨m4, hm4, h⟩ := xLet_el h
  refine gx_iastore dX12_tells_15 rfl ha0.2.1 hj5 hm4 ?_
  cases h
  exact fx_return dX12_tells_16 rfl rfl
def fX12_tells (a0 : Nat) (a1 : Int32) (a2 : Int32) (a3 : Int32) (m : xMem) : Option xMem := fX12_tells_0 a0 a1 a2 a3  m
theorem fX12_tells_ok {a0 : Nat} {a1 : Int32} {a2 : Int32} {a3 : Int32} {m : xMem} {r : xMem} {d : Nat} (hd : 1 ≤ d) (ha0 : isModel a0) (h : fX12_tells a0 a1 a2 a3 m = some r) : xEx d 26 [.ref a0, .int a1, .int a2, .int a3] (xLay m) none (xLay r) := by
  obtain ⟨d, rfl⟩ : ∃ q, d = q + 1 := ⟨d - 1, by omega⟩
  exact xEx_of me_26 rfl (fX12_tells_0_ok (d := d) (by omega) ha0 h)
def fX12_link_103 (a0 : Nat) (a1 : Int32) (a2 : Int32) (a3 : Int32) (a4 : Int32) (a5 : Int32) (m : xMem) : Option (Int32 × xMem) := some ((-1 : Int32), m)
set_option maxRecDepth 4000 in
theorem fX12_link_103_ok {a0 : Nat} {a1 : Int32} {a2 : Int32} {a3 : Int32} {a4 : Int32} {a5 : Int32} {d : Nat} (hd : 2 ≤ d) (ha0 : isModel a0) {o6 : Option Value} {o7 : Option Value} {o8 : Option Value} {o9 : Option Value} {m : xMem} {r : (Int32 × xMem)} (q6 : xNoD o6 = true) (q7 : xNoD o7 = true) (q8 : xNoD o8 = true) (q9 : xNoD o9 = true) (h : fX12_link_103 a0 a1 a2 a3 a4 a5 m = some r) : xFx hh_25 cX12_link d 103 [some (.ref a0), some (.int a1), some (.int a2), some (.int a3), some (.int a4), some (.int a5), o6, o7, o8, o9] [] (xLay m) 0 0 (some (.int r.1)) (xLay r.2) := by
  unfold fX12_link_103 at h
  refine fx_iconst (x := -1) dX12_link_103 rfl (by decide) ?_
  cases h
  exact fx_ireturn dX12_link_104 rfl rfl
def fX12_link_254 (a0 : Nat) (a1 : Int32) (a2 : Int32) (a3 : Int32) (a4 : Int32) (a5 : Int32) (l8 : Int32) (m : xMem) : Option (Int32 × xMem) := bif xIn (2 : Int32) 1610 then xLet (m.1 (a0 + 1) (2 : Int32).toNatClampNeg) fun x1 => xLet (x1 + (1 : Int32)) fun x3 => bif xIn (2 : Int32) 1610 then xLet (xPut m (a0 + 1) (2 : Int32).toNatClampNeg x3) fun m4 => some (l8, m4) else none else none
set_option maxRecDepth 4000 in
theorem fX12_link_254_ok {a0 : Nat} {a1 : Int32} {a2 : Int32} {a3 : Int32} {a4 : Int32} {a5 : Int32} {d : Nat} (hd : 2 ≤ d) (ha0 : isModel a0) {l8 : Int32} {o6 : Option Value} {o7 : Option Value} {o9 : Option Value} {m : xMem} {r : (Int32 × xMem)} (q6 : xNoD o6 = true) (q7 : xNoD o7 = true) (q9 : xNoD o9 = true) (h : fX12_link_254 a0 a1 a2 a3 a4 a5 l8 m = some r) : xFx hh_25 cX12_link d 254 [some (.ref a0), some (.int a1), some (.int a2), some (.int a3), some (.int a4), some (.int a5), o6, o7, some (.int l8), o9] [] (xLay m) 0 0 (some (.int r.1)) (xLay r.2) := by
  unfold fX12_link_254 at h
  refine fx_aload_n dX12_link_254 rfl rfl ?_
  refine gx_getr dX12_link_255 rfl fd_12_7 ha0.1 rfl rfl ?_
  refine fx_iconst (x := 2) dX12_link_258 rfl (by decide) ?_
  refine fx_dup2 dX12_link_259 rfl rfl ?_
  obtain ⟨hj2, h⟩ := xChk_el h
  obtain ⟨x1, hx1, h⟩ := xLet_el h
  refine gx_iaload dX12_link_260 rfl ha0.2.1 hj2 hx1 ?_
  refine fx_iconst (x := 1) dX12_link_261 rfl (by decide) ?_
  obtain ⟨x3, hx3, h⟩ := xLet_el h
  refine fx_iadd dX12_link_262 rfl hx3 ?_
  obtain ⟨hj5, h⟩ := xChk_el h
  obtain ⟨m4, hm4, h⟩ := xLet_el h
  refine gx_iastore dX12_link_263 rfl ha0.2.1 hj5 hm4 ?_
  refine fx_iload dX12_link_264 rfl rfl ?_
  cases h
  exact fx_ireturn dX12_link_266 rfl rfl
def fX12_link_220 (a0 : Nat) (a1 : Int32) (a2 : Int32) (a3 : Int32) (a4 : Int32) (a5 : Int32) (l8 : Int32) (s0 : Nat) (s1 : Int32) (s2 : Int32) (s3 : Int32) (m : xMem) : Option (Int32 × xMem) := (fX12_tells s0 s1 s2 s3 m).bind fun p1 => (fX12_tells a0 l8 (6 : Int32) (1 : Int32) p1).bind fun p2 => if (2 : Int32) ≤ a1 then fX12_link_254 a0 a1 a2 a3 a4 a5 l8 p2 else (fX12_tells a0 l8 (5 : Int32) (1 : Int32) p2).bind fun p4 => (fX12_tells a0 l8 (7 : Int32) (1 : Int32) p4).bind fun p5 => fX12_link_254 a0 a1 a2 a3 a4 a5 l8 p5
set_option maxRecDepth 4000 in
theorem fX12_link_220_ok {a0 : Nat} {a1 : Int32} {a2 : Int32} {a3 : Int32} {a4 : Int32} {a5 : Int32} {d : Nat} (hd : 2 ≤ d) (ha0 : isModel a0) {l8 : Int32} {s0 : Nat} {s1 : Int32} {s2 : Int32} {s3 : Int32} {o6 : Option Value} {o7 : Option Value} {o9 : Option Value} {m : xMem} {r : (Int32 × xMem)} (hs0 : isModel s0) (q6 : xNoD o6 = true) (q7 : xNoD o7 = true) (q9 : xNoD o9 = true) (h : fX12_link_220 a0 a1 a2 a3 a4 a5 l8 s0 s1 s2 s3 m = some r) : xFx hh_25 cX12_link d 220 [some (.ref a0), some (.int a1), some (.int a2), some (.int a3), some (.int a4), some (.int a5), o6, o7, some (.int l8), o9] [.int s3, .int s2, .int s1, .ref s0] (xLay m) 0 0 (some (.int r.1)) (xLay r.2) := by
  unfold fX12_link_220 at h
  obtain ⟨p1, ep1, h⟩ := xBind_el h
  refine gx_callv (as := [.int s1, .int s2, .int s3]) (r := []) rfl dX12_link_220 ca_12_110 rfl me_26 rfl rfl rfl rfl (hs0.1) rfl (fX12_tells_ok (d := d) (by omega) hs0 ep1) rfl rfl ?_
  refine fx_aload_n dX12_link_223 rfl rfl ?_
  refine fx_iload dX12_link_224 rfl rfl ?_
  refine fx_bipush (x := 6) dX12_link_226 rfl (by decide) ?_
  refine fx_iconst (x := 1) dX12_link_228 rfl (by decide) ?_
  obtain ⟨p2, ep2, h⟩ := xBind_el h
  refine gx_callv (as := [.int l8, .int (6 : Int32), .int (1 : Int32)]) (r := []) rfl dX12_link_229 ca_12_110 rfl me_26 rfl rfl rfl rfl (ha0.1) rfl (fX12_tells_ok (d := d) (by omega) ha0 ep2) rfl rfl ?_
  refine fx_iload_n dX12_link_232 rfl rfl ?_
  refine fx_iconst (x := 2) dX12_link_233 rfl (by decide) ?_
  refine fx_icmp_ge (t := 254) dX12_link_234 rfl rfl (fun hc3 => ?_) (fun hc3 => ?_)
  · rw [if_pos hc3] at h
    exact fX12_link_254_ok (o6 := o6) (o7 := o7) (o9 := o9) hd ha0 q6 q7 q9 h
  · rw [if_neg hc3] at h
    refine fx_aload_n dX12_link_237 rfl rfl ?_
    refine fx_iload dX12_link_238 rfl rfl ?_
    refine fx_iconst (x := 5) dX12_link_240 rfl (by decide) ?_
    refine fx_iconst (x := 1) dX12_link_241 rfl (by decide) ?_
    obtain ⟨p4, ep4, h⟩ := xBind_el h
    refine gx_callv (as := [.int l8, .int (5 : Int32), .int (1 : Int32)]) (r := []) rfl dX12_link_242 ca_12_110 rfl me_26 rfl rfl rfl rfl (ha0.1) rfl (fX12_tells_ok (d := d) (by omega) ha0 ep4) rfl rfl ?_
    refine fx_aload_n dX12_link_245 rfl rfl ?_
    refine fx_iload dX12_link_246 rfl rfl ?_
    refine fx_bipush (x := 7) dX12_link_248 rfl (by decide) ?_
    refine fx_iconst (x := 1) dX12_link_250 rfl (by decide) ?_
    obtain ⟨p5, ep5, h⟩ := xBind_el h
    refine gx_callv (as := [.int l8, .int (7 : Int32), .int (1 : Int32)]) (r := []) rfl dX12_link_251 ca_12_110 rfl me_26 rfl rfl rfl rfl (ha0.1) rfl (fX12_tells_ok (d := d) (by omega) ha0 ep5) rfl rfl ?_
    exact fX12_link_254_ok (o6 := o6) (o7 := o7) (o9 := o9) hd ha0 q6 q7 q9 h
def fX12_link_141 (a0 : Nat) (a1 : Int32) (a2 : Int32) (a3 : Int32) (a4 : Int32) (a5 : Int32) : Nat → Int32 → Int32 → xMem → Option (Int32 × xMem)
  | 0, _, _, _ => none
  | fuel + 1, l8, l9, m => if (80 : Int32) ≤ l9 then (fX12_tells a0 l8 (0 : Int32) a1 m).bind fun p2 => (fX12_tells a0 l8 (1 : Int32) a2 p2).bind fun p3 => (fX12_tells a0 l8 (2 : Int32) a3 p3).bind fun p4 => (fX12_tells a0 l8 (3 : Int32) a4 p4).bind fun p5 => if ¬ a1 = (2 : Int32) then fX12_link_220 a0 a1 a2 a3 a4 a5 l8 a0 l8 (4 : Int32) (0 : Int32) p5 else fX12_link_220 a0 a1 a2 a3 a4 a5 l8 a0 l8 (4 : Int32) a5 p5 else xLet ((80 : Int32) * l8) fun x7 => xLet ((580 : Int32) + x7) fun x8 => xLet (x8 + l9) fun x9 => bif xIn x9 1610 then xLet (xPut m (a0 + 1) x9.toNatClampNeg (-1 : Int32)) fun m10 => xLet (l9 + (1 : Int32)) fun x12 => fX12_link_141 a0 a1 a2 a3 a4 a5 fuel l8 x12 m10 else none
set_option maxRecDepth 4000 in
theorem fX12_link_141_ok {a0 : Nat} {a1 : Int32} {a2 : Int32} {a3 : Int32} {a4 : Int32} {a5 : Int32} {d : Nat} (hd : 2 ≤ d) (ha0 : isModel a0) : ∀ (fuel : Nat) (l8 : Int32) (l9 : Int32) (o6 : Option Value) (o7 : Option Value) (q6 : xNoD o6 = true) (q7 : xNoD o7 = true) (m : xMem) (r : (Int32 × xMem)), fX12_link_141 a0 a1 a2 a3 a4 a5 fuel l8 l9 m = some r → xFx hh_25 cX12_link d 141 [some (.ref a0), some (.int a1), some (.int a2), some (.int a3), some (.int a4), some (.int a5), o6, o7, some (.int l8), some (.int l9)] [] (xLay m) 0 0 (some (.int r.1)) (xLay r.2) := by
  intro fuel
  induction fuel with
  | zero => intro l8 l9 o6 o7 q6 q7 m r  h; cases h
  | succ fuel ih =>
    intro l8 l9 o6 o7 q6 q7 m r  h
    unfold fX12_link_141 at h
    refine fx_iload dX12_link_141 rfl rfl ?_
    refine fx_bipush (x := 80) dX12_link_143 rfl (by decide) ?_
    refine fx_icmp_ge (t := 172) dX12_link_145 rfl rfl (fun hc1 => ?_) (fun hc1 => ?_)
    · rw [if_pos hc1] at h
      refine fx_aload_n dX12_link_172 rfl rfl ?_
      refine fx_iload dX12_link_173 rfl rfl ?_
      refine fx_iconst (x := 0) dX12_link_175 rfl (by decide) ?_
      refine fx_iload_n dX12_link_176 rfl rfl ?_
      obtain ⟨p2, ep2, h⟩ := xBind_el h
      refine gx_callv (as := [.int l8, .int (0 : Int32), .int a1]) (r := []) rfl dX12_link_177 ca_12_110 rfl me_26 rfl rfl rfl rfl (ha0.1) rfl (fX12_tells_ok (d := d) (by omega) ha0 ep2) rfl rfl ?_
      refine fx_aload_n dX12_link_180 rfl rfl ?_
      refine fx_iload dX12_link_181 rfl rfl ?_
      refine fx_iconst (x := 1) dX12_link_183 rfl (by decide) ?_
      refine fx_iload_n dX12_link_184 rfl rfl ?_
      obtain ⟨p3, ep3, h⟩ := xBind_el h
      refine gx_callv (as := [.int l8, .int (1 : Int32), .int a2]) (r := []) rfl dX12_link_185 ca_12_110 rfl me_26 rfl rfl rfl rfl (ha0.1) rfl (fX12_tells_ok (d := d) (by omega) ha0 ep3) rfl rfl ?_
      refine fx_aload_n dX12_link_188 rfl rfl ?_
      refine fx_iload dX12_link_189 rfl rfl ?_
      refine fx_iconst (x := 2) dX12_link_191 rfl (by decide) ?_
      refine fx_iload_n dX12_link_192 rfl rfl ?_
      obtain ⟨p4, ep4, h⟩ := xBind_el h
      refine gx_callv (as := [.int l8, .int (2 : Int32), .int a3]) (r := []) rfl dX12_link_193 ca_12_110 rfl me_26 rfl rfl rfl rfl (ha0.1) rfl (fX12_tells_ok (d := d) (by omega) ha0 ep4) rfl rfl ?_
      refine fx_aload_n dX12_link_196 rfl rfl ?_
      refine fx_iload dX12_link_197 rfl rfl ?_
      refine fx_iconst (x := 3) dX12_link_199 rfl (by decide) ?_
      refine fx_iload dX12_link_200 rfl rfl ?_
      obtain ⟨p5, ep5, h⟩ := xBind_el h
      refine gx_callv (as := [.int l8, .int (3 : Int32), .int a4]) (r := []) rfl dX12_link_202 ca_12_110 rfl me_26 rfl rfl rfl rfl (ha0.1) rfl (fX12_tells_ok (d := d) (by omega) ha0 ep5) rfl rfl ?_
      refine fx_aload_n dX12_link_205 rfl rfl ?_
      refine fx_iload dX12_link_206 rfl rfl ?_
      refine fx_iconst (x := 4) dX12_link_208 rfl (by decide) ?_
      refine fx_iload_n dX12_link_209 rfl rfl ?_
      refine fx_iconst (x := 2) dX12_link_210 rfl (by decide) ?_
      refine fx_icmp_ne (t := 219) dX12_link_211 rfl rfl (fun hc6 => ?_) (fun hc6 => ?_)
      · rw [if_pos hc6] at h
        refine fx_iconst (x := 0) dX12_link_219 rfl (by decide) ?_
        exact fX12_link_220_ok (o6 := o6) (o7 := o7) (o9 := some (.int l9)) hd ha0 ha0 q6 q7 rfl h
      · rw [if_neg hc6] at h
        refine fx_iload dX12_link_214 rfl rfl ?_
        refine fx_goto (t := 220) dX12_link_216 rfl rfl ?_
        exact fX12_link_220_ok (o6 := o6) (o7 := o7) (o9 := some (.int l9)) hd ha0 ha0 q6 q7 rfl h
    · rw [if_neg hc1] at h
      refine fx_aload_n dX12_link_148 rfl rfl ?_
      refine gx_getr dX12_link_149 rfl fd_12_7 ha0.1 rfl rfl ?_
      refine fx_sipush (x := 580) dX12_link_152 rfl (by decide) ?_
      refine fx_bipush (x := 80) dX12_link_155 rfl (by decide) ?_
      refine fx_iload dX12_link_157 rfl rfl ?_
      obtain ⟨x7, hx7, h⟩ := xLet_el h
      refine fx_imul dX12_link_159 rfl hx7 ?_
      obtain ⟨x8, hx8, h⟩ := xLet_el h
      refine fx_iadd dX12_link_160 rfl hx8 ?_
      refine fx_iload dX12_link_161 rfl rfl ?_
      obtain ⟨x9, hx9, h⟩ := xLet_el h
      refine fx_iadd dX12_link_163 rfl hx9 ?_
      refine fx_iconst (x := -1) dX12_link_164 rfl (by decide) ?_
      obtain ⟨hj11, h⟩ := xChk_el h
      obtain ⟨m10, hm10, h⟩ := xLet_el h
      refine gx_iastore dX12_link_165 rfl ha0.2.1 hj11 hm10 ?_
      obtain ⟨x12, hx12, h⟩ := xLet_el h
      refine fx_iinc (ls2 := [some (.ref a0), some (.int a1), some (.int a2), some (.int a3), some (.int a4), some (.int a5), o6, o7, some (.int l8), some (.int x12)]) dX12_link_166 rfl rfl rfl hx12 rfl ?_
      refine fx_goto (t := 141) dX12_link_169 rfl rfl ?_
      exact ih l8 x12 (o6) (o7) q6 q7 m10 r h
def fX12_link_116 (a0 : Nat) (a1 : Int32) (a2 : Int32) (a3 : Int32) (a4 : Int32) (a5 : Int32) : Nat → Int32 → Int32 → xMem → Option (Int32 × xMem)
  | 0, _, _, _ => none
  | fuel + 1, l8, l9, m => if (14 : Int32) ≤ l9 then fX12_link_141 a0 a1 a2 a3 a4 a5 xFuel l8 (0 : Int32) m else (fX12_tells a0 l8 l9 (0 : Int32) m).bind fun p2 => xLet (l9 + (1 : Int32)) fun x3 => fX12_link_116 a0 a1 a2 a3 a4 a5 fuel l8 x3 p2
set_option maxRecDepth 4000 in
theorem fX12_link_116_ok {a0 : Nat} {a1 : Int32} {a2 : Int32} {a3 : Int32} {a4 : Int32} {a5 : Int32} {d : Nat} (hd : 2 ≤ d) (ha0 : isModel a0) : ∀ (fuel : Nat) (l8 : Int32) (l9 : Int32) (o6 : Option Value) (o7 : Option Value) (q6 : xNoD o6 = true) (q7 : xNoD o7 = true) (m : xMem) (r : (Int32 × xMem)), fX12_link_116 a0 a1 a2 a3 a4 a5 fuel l8 l9 m = some r → xFx hh_25 cX12_link d 116 [some (.ref a0), some (.int a1), some (.int a2), some (.int a3), some (.int a4), some (.int a5), o6, o7, some (.int l8), some (.int l9)] [] (xLay m) 0 0 (some (.int r.1)) (xLay r.2) := by
  intro fuel
  induction fuel with
  | zero => intro l8 l9 o6 o7 q6 q7 m r  h; cases h
  | succ fuel ih =>
    intro l8 l9 o6 o7 q6 q7 m r  h
    unfold fX12_link_116 at h
    refine fx_iload dX12_link_116 rfl rfl ?_
    refine fx_bipush (x := 14) dX12_link_118 rfl (by decide) ?_
    refine fx_icmp_ge (t := 138) dX12_link_120 rfl rfl (fun hc1 => ?_) (fun hc1 => ?_)
    · rw [if_pos hc1] at h
      refine fx_iconst (x := 0) dX12_link_138 rfl (by decide) ?_
      refine fx_istore (ls2 := [some (.ref a0), some (.int a1), some (.int a2), some (.int a3), some (.int a4), some (.int a5), o6, o7, some (.int l8), some (.int (0 : Int32))]) dX12_link_139 rfl rfl rfl ?_
      exact fX12_link_141_ok hd ha0 xFuel l8 (0 : Int32) (o6) (o7) q6 q7 m r h
    · rw [if_neg hc1] at h
      refine fx_aload_n dX12_link_123 rfl rfl ?_
      refine fx_iload dX12_link_124 rfl rfl ?_
      refine fx_iload dX12_link_126 rfl rfl ?_
      refine fx_iconst (x := 0) dX12_link_128 rfl (by decide) ?_
      obtain ⟨p2, ep2, h⟩ := xBind_el h
      refine gx_callv (as := [.int l8, .int l9, .int (0 : Int32)]) (r := []) rfl dX12_link_129 ca_12_110 rfl me_26 rfl rfl rfl rfl (ha0.1) rfl (fX12_tells_ok (d := d) (by omega) ha0 ep2) rfl rfl ?_
      obtain ⟨x3, hx3, h⟩ := xLet_el h
      refine fx_iinc (ls2 := [some (.ref a0), some (.int a1), some (.int a2), some (.int a3), some (.int a4), some (.int a5), o6, o7, some (.int l8), some (.int x3)]) dX12_link_132 rfl rfl rfl hx3 rfl ?_
      refine fx_goto (t := 116) dX12_link_135 rfl rfl ?_
      exact ih l8 x3 (o6) (o7) q6 q7 p2 r h
def fX12_link_80 (a0 : Nat) (a1 : Int32) (a2 : Int32) (a3 : Int32) (a4 : Int32) (a5 : Int32) (l6 : Int32) (s0 : Int32) (m : xMem) : Option (Int32 × xMem) := if l6 = (0 : Int32) then fX12_link_103 a0 a1 a2 a3 a4 a5 m else if s0 = (0 : Int32) then fX12_link_103 a0 a1 a2 a3 a4 a5 m else bif xIn (2 : Int32) 1610 then xLet (m.1 (a0 + 1) (2 : Int32).toNatClampNeg) fun x3 => if ¬ x3 = (10 : Int32) then bif xIn (2 : Int32) 1610 then xLet (m.1 (a0 + 1) (2 : Int32).toNatClampNeg) fun x6 => fX12_link_116 a0 a1 a2 a3 a4 a5 xFuel x6 (0 : Int32) m else none else fX12_link_103 a0 a1 a2 a3 a4 a5 m else none
set_option maxRecDepth 4000 in
theorem fX12_link_80_ok {a0 : Nat} {a1 : Int32} {a2 : Int32} {a3 : Int32} {a4 : Int32} {a5 : Int32} {d : Nat} (hd : 2 ≤ d) (ha0 : isModel a0) {l6 : Int32} {s0 : Int32} {o7 : Option Value} {o8 : Option Value} {o9 : Option Value} {m : xMem} {r : (Int32 × xMem)} (q7 : xNoD o7 = true) (q8 : xNoD o8 = true) (q9 : xNoD o9 = true) (h : fX12_link_80 a0 a1 a2 a3 a4 a5 l6 s0 m = some r) : xFx hh_25 cX12_link d 80 [some (.ref a0), some (.int a1), some (.int a2), some (.int a3), some (.int a4), some (.int a5), some (.int l6), o7, o8, o9] [.int s0] (xLay m) 0 0 (some (.int r.1)) (xLay r.2) := by
  unfold fX12_link_80 at h
  refine fx_istore (ls2 := [some (.ref a0), some (.int a1), some (.int a2), some (.int a3), some (.int a4), some (.int a5), some (.int l6), some (.int s0), o8, o9]) dX12_link_80 rfl rfl rfl ?_
  refine fx_iload dX12_link_82 rfl rfl ?_
  refine fx_if_eq (t := 103) dX12_link_84 rfl rfl (fun hc1 => ?_) (fun hc1 => ?_)
  · rw [if_pos hc1] at h
    exact fX12_link_103_ok (o6 := some (.int l6)) (o7 := some (.int s0)) (o8 := o8) (o9 := o9) hd ha0 rfl rfl q8 q9 h
  · rw [if_neg hc1] at h
    refine fx_iload dX12_link_87 rfl rfl ?_
    refine fx_if_eq (t := 103) dX12_link_89 rfl rfl (fun hc2 => ?_) (fun hc2 => ?_)
    · rw [if_pos hc2] at h
      exact fX12_link_103_ok (o6 := some (.int l6)) (o7 := some (.int s0)) (o8 := o8) (o9 := o9) hd ha0 rfl rfl q8 q9 h
    · rw [if_neg hc2] at h
      refine fx_aload_n dX12_link_92 rfl rfl ?_
      refine gx_getr dX12_link_93 rfl fd_12_7 ha0.1 rfl rfl ?_
      refine fx_iconst (x := 2) dX12_link_96 rfl (by decide) ?_
      obtain ⟨hj4, h⟩ := xChk_el h
      obtain ⟨x3, hx3, h⟩ := xLet_el h
      refine gx_iaload dX12_link_97 rfl ha0.2.1 hj4 hx3 ?_
      refine fx_bipush (x := 10) dX12_link_98 rfl (by decide) ?_
      refine fx_icmp_ne (t := 105) dX12_link_100 rfl rfl (fun hc5 => ?_) (fun hc5 => ?_)
      · rw [if_pos hc5] at h
        refine fx_aload_n dX12_link_105 rfl rfl ?_
        refine gx_getr dX12_link_106 rfl fd_12_7 ha0.1 rfl rfl ?_
        refine fx_iconst (x := 2) dX12_link_109 rfl (by decide) ?_
        obtain ⟨hj7, h⟩ := xChk_el h
        obtain ⟨x6, hx6, h⟩ := xLet_el h
        refine gx_iaload dX12_link_110 rfl ha0.2.1 hj7 hx6 ?_
        refine fx_istore (ls2 := [some (.ref a0), some (.int a1), some (.int a2), some (.int a3), some (.int a4), some (.int a5), some (.int l6), some (.int s0), some (.int x6), o9]) dX12_link_111 rfl rfl rfl ?_
        refine fx_iconst (x := 0) dX12_link_113 rfl (by decide) ?_
        refine fx_istore (ls2 := [some (.ref a0), some (.int a1), some (.int a2), some (.int a3), some (.int a4), some (.int a5), some (.int l6), some (.int s0), some (.int x6), some (.int (0 : Int32))]) dX12_link_114 rfl rfl rfl ?_
        exact fX12_link_116_ok hd ha0 xFuel x6 (0 : Int32) (some (.int l6)) (some (.int s0)) rfl rfl m r h
      · rw [if_neg hc5] at h
        exact fX12_link_103_ok (o6 := some (.int l6)) (o7 := some (.int s0)) (o8 := o8) (o9 := o9) hd ha0 rfl rfl q8 q9 h
def fX12_link_68 (a0 : Nat) (a1 : Int32) (a2 : Int32) (a3 : Int32) (a4 : Int32) (a5 : Int32) (l6 : Int32) (m : xMem) : Option (Int32 × xMem) := fX12_link_80 a0 a1 a2 a3 a4 a5 l6 (0 : Int32) m
set_option maxRecDepth 4000 in
theorem fX12_link_68_ok {a0 : Nat} {a1 : Int32} {a2 : Int32} {a3 : Int32} {a4 : Int32} {a5 : Int32} {d : Nat} (hd : 2 ≤ d) (ha0 : isModel a0) {l6 : Int32} {o7 : Option Value} {o8 : Option Value} {o9 : Option Value} {m : xMem} {r : (Int32 × xMem)} (q7 : xNoD o7 = true) (q8 : xNoD o8 = true) (q9 : xNoD o9 = true) (h : fX12_link_68 a0 a1 a2 a3 a4 a5 l6 m = some r) : xFx hh_25 cX12_link d 68 [some (.ref a0), some (.int a1), some (.int a2), some (.int a3), some (.int a4), some (.int a5), some (.int l6), o7, o8, o9] [] (xLay m) 0 0 (some (.int r.1)) (xLay r.2) := by
  unfold fX12_link_68 at h
  refine fx_iconst (x := 0) dX12_link_68 rfl (by decide) ?_
  refine fx_goto (t := 80) dX12_link_69 rfl rfl ?_
  exact fX12_link_80_ok (o7 := o7) (o8 := o8) (o9 := o9) hd ha0 q7 q8 q9 h
def fX12_link_35 (a0 : Nat) (a1 : Int32) (a2 : Int32) (a3 : Int32) (a4 : Int32) (a5 : Int32) (s0 : Int32) (m : xMem) : Option (Int32 × xMem) := if ¬ a1 = (2 : Int32) then (fX12_in a4 (2 : Int32) (40 : Int32) m).bind fun p2 => fX12_link_80 a0 a1 a2 a3 a4 a5 s0 p2.1 p2.2 else (fX12_in a4 (1 : Int32) (20 : Int32) m).bind fun p3 => if p3.1 = (0 : Int32) then fX12_link_68 a0 a1 a2 a3 a4 a5 s0 p3.2 else (fX12_in a5 (2 : Int32) (99 : Int32) p3.2).bind fun p5 => if p5.1 = (0 : Int32) then fX12_link_68 a0 a1 a2 a3 a4 a5 s0 p5.2 else fX12_link_80 a0 a1 a2 a3 a4 a5 s0 (1 : Int32) p5.2
set_option maxRecDepth 4000 in
theorem fX12_link_35_ok {a0 : Nat} {a1 : Int32} {a2 : Int32} {a3 : Int32} {a4 : Int32} {a5 : Int32} {d : Nat} (hd : 2 ≤ d) (ha0 : isModel a0) {s0 : Int32} {o6 : Option Value} {o7 : Option Value} {o8 : Option Value} {o9 : Option Value} {m : xMem} {r : (Int32 × xMem)} (q6 : xNoD o6 = true) (q7 : xNoD o7 = true) (q8 : xNoD o8 = true) (q9 : xNoD o9 = true) (h : fX12_link_35 a0 a1 a2 a3 a4 a5 s0 m = some r) : xFx hh_25 cX12_link d 35 [some (.ref a0), some (.int a1), some (.int a2), some (.int a3), some (.int a4), some (.int a5), o6, o7, o8, o9] [.int s0] (xLay m) 0 0 (some (.int r.1)) (xLay r.2) := by
  unfold fX12_link_35 at h
  refine fx_istore (ls2 := [some (.ref a0), some (.int a1), some (.int a2), some (.int a3), some (.int a4), some (.int a5), some (.int s0), o7, o8, o9]) dX12_link_35 rfl rfl rfl ?_
  refine fx_iload_n dX12_link_37 rfl rfl ?_
  refine fx_iconst (x := 2) dX12_link_38 rfl (by decide) ?_
  refine fx_icmp_ne (t := 72) dX12_link_39 rfl rfl (fun hc1 => ?_) (fun hc1 => ?_)
  · rw [if_pos hc1] at h
    refine fx_iload dX12_link_72 rfl rfl ?_
    refine fx_iconst (x := 2) dX12_link_74 rfl (by decide) ?_
    refine fx_bipush (x := 40) dX12_link_75 rfl (by decide) ?_
    obtain ⟨p2, ep2, h⟩ := xBind_el h
    refine gx_calls (as := [.int a4, .int (2 : Int32), .int (40 : Int32)]) (r := []) rfl dX12_link_77 ca_12_95 rfl me_18 rfl rfl rfl rfl (fX12_in_ok (d := d) (by omega) ep2) rfl rfl ?_
    exact fX12_link_80_ok (o7 := o7) (o8 := o8) (o9 := o9) hd ha0 q7 q8 q9 h
  · rw [if_neg hc1] at h
    refine fx_iload dX12_link_42 rfl rfl ?_
    refine fx_iconst (x := 1) dX12_link_44 rfl (by decide) ?_
    refine fx_bipush (x := 20) dX12_link_45 rfl (by decide) ?_
    obtain ⟨p3, ep3, h⟩ := xBind_el h
    refine gx_calls (as := [.int a4, .int (1 : Int32), .int (20 : Int32)]) (r := []) rfl dX12_link_47 ca_12_95 rfl me_18 rfl rfl rfl rfl (fX12_in_ok (d := d) (by omega) ep3) rfl rfl ?_
    refine fx_if_eq (t := 68) dX12_link_50 rfl rfl (fun hc4 => ?_) (fun hc4 => ?_)
    · rw [if_pos hc4] at h
      exact fX12_link_68_ok (o7 := o7) (o8 := o8) (o9 := o9) hd ha0 q7 q8 q9 h
    · rw [if_neg hc4] at h
      refine fx_iload dX12_link_53 rfl rfl ?_
      refine fx_iconst (x := 2) dX12_link_55 rfl (by decide) ?_
      refine fx_bipush (x := 99) dX12_link_56 rfl (by decide) ?_
      obtain ⟨p5, ep5, h⟩ := xBind_el h
      refine gx_calls (as := [.int a5, .int (2 : Int32), .int (99 : Int32)]) (r := []) rfl dX12_link_58 ca_12_95 rfl me_18 rfl rfl rfl rfl (fX12_in_ok (d := d) (by omega) ep5) rfl rfl ?_
      refine fx_if_eq (t := 68) dX12_link_61 rfl rfl (fun hc6 => ?_) (fun hc6 => ?_)
      · rw [if_pos hc6] at h
        exact fX12_link_68_ok (o7 := o7) (o8 := o8) (o9 := o9) hd ha0 q7 q8 q9 h
      · rw [if_neg hc6] at h
        refine fx_iconst (x := 1) dX12_link_64 rfl (by decide) ?_
        refine fx_goto (t := 80) dX12_link_65 rfl rfl ?_
        exact fX12_link_80_ok (o7 := o7) (o8 := o8) (o9 := o9) hd ha0 q7 q8 q9 h
def fX12_link_34 (a0 : Nat) (a1 : Int32) (a2 : Int32) (a3 : Int32) (a4 : Int32) (a5 : Int32) (m : xMem) : Option (Int32 × xMem) := fX12_link_35 a0 a1 a2 a3 a4 a5 (0 : Int32) m
set_option maxRecDepth 4000 in
theorem fX12_link_34_ok {a0 : Nat} {a1 : Int32} {a2 : Int32} {a3 : Int32} {a4 : Int32} {a5 : Int32} {d : Nat} (hd : 2 ≤ d) (ha0 : isModel a0) {o6 : Option Value} {o7 : Option Value} {o8 : Option Value} {o9 : Option Value} {m : xMem} {r : (Int32 × xMem)} (q6 : xNoD o6 = true) (q7 : xNoD o7 = true) (q8 : xNoD o8 = true) (q9 : xNoD o9 = true) (h : fX12_link_34 a0 a1 a2 a3 a4 a5 m = some r) : xFx hh_25 cX12_link d 34 [some (.ref a0), some (.int a1), some (.int a2), some (.int a3), some (.int a4), some (.int a5), o6, o7, o8, o9] [] (xLay m) 0 0 (some (.int r.1)) (xLay r.2) := by
  unfold fX12_link_34 at h
  refine fx_iconst (x := 0) dX12_link_34 rfl (by decide) ?_
  exact fX12_link_35_ok (o6 := o6) (o7 := o7) (o8 := o8) (o9 := o9) hd ha0 q6 q7 q8 q9 h
def fX12_link_0 (a0 : Nat) (a1 : Int32) (a2 : Int32) (a3 : Int32) (a4 : Int32) (a5 : Int32) (m : xMem) : Option (Int32 × xMem) := (fX12_in a1 (0 : Int32) (2 : Int32) m).bind fun p1 => if p1.1 = (0 : Int32) then fX12_link_34 a0 a1 a2 a3 a4 a5 p1.2 else (fX12_isHall a0 a2 p1.2).bind fun p3 => if p3.1 = (0 : Int32) then fX12_link_34 a0 a1 a2 a3 a4 a5 p3.2 else (fX12_isHall a0 a3 p3.2).bind fun p5 => if p5.1 = (0 : Int32) then fX12_link_34 a0 a1 a2 a3 a4 a5 p5.2 else if a2 = a3 then fX12_link_34 a0 a1 a2 a3 a4 a5 p5.2 else fX12_link_35 a0 a1 a2 a3 a4 a5 (1 : Int32) p5.2
set_option maxRecDepth 4000 in
theorem fX12_link_0_ok {a0 : Nat} {a1 : Int32} {a2 : Int32} {a3 : Int32} {a4 : Int32} {a5 : Int32} {d : Nat} (hd : 2 ≤ d) (ha0 : isModel a0) {o6 : Option Value} {o7 : Option Value} {o8 : Option Value} {o9 : Option Value} {m : xMem} {r : (Int32 × xMem)} (q6 : xNoD o6 = true) (q7 : xNoD o7 = true) (q8 : xNoD o8 = true) (q9 : xNoD o9 = true) (h : fX12_link_0 a0 a1 a2 a3 a4 a5 m = some r) : xFx hh_25 cX12_link d 0 [some (.ref a0), some (.int a1), some (.int a2), some (.int a3), some (.int a4), some (.int a5), o6, o7, o8, o9] [] (xLay m) 0 0 (some (.int r.1)) (xLay r.2) := by
  unfold fX12_link_0 at h
  refine fx_iload_n dX12_link_0 rfl rfl ?_
  refine fx_iconst (x := 0) dX12_link_1 rfl (by decide) ?_
  refine fx_iconst (x := 2) dX12_link_2 rfl (by decide) ?_
  obtain ⟨p1, ep1, h⟩ := xBind_el h
  refine gx_calls (as := [.int a1, .int (0 : Int32), .int (2 : Int32)]) (r := []) rfl dX12_link_3 ca_12_95 rfl me_18 rfl rfl rfl rfl (fX12_in_ok (d := d) (by omega) ep1) rfl rfl ?_
  refine fx_if_eq (t := 34) dX12_link_6 rfl rfl (fun hc2 => ?_) (fun hc2 => ?_)
  · rw [if_pos hc2] at h
    exact fX12_link_34_ok (o6 := o6) (o7 := o7) (o8 := o8) (o9 := o9) hd ha0 q6 q7 q8 q9 h
  · rw [if_neg hc2] at h
    refine fx_aload_n dX12_link_9 rfl rfl ?_
    refine fx_iload_n dX12_link_10 rfl rfl ?_
    obtain ⟨p3, ep3, h⟩ := xBind_el h
    refine gx_callv (as := [.int a2]) (r := []) rfl dX12_link_11 ca_12_107 rfl me_22 rfl rfl rfl rfl (ha0.1) rfl (fX12_isHall_ok (d := d) (by omega) ha0 ep3) rfl rfl ?_
    refine fx_if_eq (t := 34) dX12_link_14 rfl rfl (fun hc4 => ?_) (fun hc4 => ?_)
    · rw [if_pos hc4] at h
      exact fX12_link_34_ok (o6 := o6) (o7 := o7) (o8 := o8) (o9 := o9) hd ha0 q6 q7 q8 q9 h
    · rw [if_neg hc4] at h
      refine fx_aload_n dX12_link_17 rfl rfl ?_
      refine fx_iload_n dX12_link_18 rfl rfl ?_
      obtain ⟨p5, ep5, h⟩ := xBind_el h
      refine gx_callv (as := [.int a3]) (r := []) rfl dX12_link_19 ca_12_107 rfl me_22 rfl rfl rfl rfl (ha0.1) rfl (fX12_isHall_ok (d := d) (by omega) ha0 ep5) rfl rfl ?_
      refine fx_if_eq (t := 34) dX12_link_22 rfl rfl (fun hc6 => ?_) (fun hc6 => ?_)
      · rw [if_pos hc6] at h
        exact fX12_link_34_ok (o6 := o6) (o7 := o7) (o8 := o8) (o9 := o9) hd ha0 q6 q7 q8 q9 h
      · rw [if_neg hc6] at h
        refine fx_iload_n dX12_link_25 rfl rfl ?_
        refine fx_iload_n dX12_link_26 rfl rfl ?_
        refine fx_icmp_eq (t := 34) dX12_link_27 rfl rfl (fun hc7 => ?_) (fun hc7 => ?_)
        · rw [if_pos hc7] at h
          exact fX12_link_34_ok (o6 := o6) (o7 := o7) (o8 := o8) (o9 := o9) hd ha0 q6 q7 q8 q9 h
        · rw [if_neg hc7] at h
          refine fx_iconst (x := 1) dX12_link_30 rfl (by decide) ?_
          refine fx_goto (t := 35) dX12_link_31 rfl rfl ?_
          exact fX12_link_35_ok (o6 := o6) (o7 := o7) (o8 := o8) (o9 := o9) hd ha0 q6 q7 q8 q9 h
def fX12_link (a0 : Nat) (a1 : Int32) (a2 : Int32) (a3 : Int32) (a4 : Int32) (a5 : Int32) (m : xMem) : Option (Int32 × xMem) := fX12_link_0 a0 a1 a2 a3 a4 a5  m
theorem fX12_link_ok {a0 : Nat} {a1 : Int32} {a2 : Int32} {a3 : Int32} {a4 : Int32} {a5 : Int32} {m : xMem} {r : (Int32 × xMem)} {d : Nat} (hd : 3 ≤ d) (ha0 : isModel a0) (h : fX12_link a0 a1 a2 a3 a4 a5 m = some r) : xEx d 25 [.ref a0, .int a1, .int a2, .int a3, .int a4, .int a5] (xLay m) (some (.int r.1)) (xLay r.2) := by
  obtain ⟨d, rfl⟩ : ∃ q, d = q + 1 := ⟨d - 1, by omega⟩
  exact xEx_of me_25 rfl (fX12_link_0_ok (d := d) (o6 := none) (o7 := none) (o8 := none) (o9 := none) (by omega) ha0 rfl rfl rfl rfl h)
def fX9_hasLink_23 (a0 : Nat) (a1 : Int32) (s0 : Int32) (m : xMem) : Option (Int32 × xMem) := bif (decide (s0 = 0) || decide (s0 = 1)) then some (s0, m) else none
set_option maxRecDepth 4000 in
theorem fX9_hasLink_23_ok {a0 : Nat} {a1 : Int32} {d : Nat} (hd : 0 ≤ d) (ha0 : isStation a0) {s0 : Int32} {m : xMem} {r : (Int32 × xMem)} (h : fX9_hasLink_23 a0 a1 s0 m = some r) : xFx hh_29 cX9_hasLink d 23 [some (.ref a0), some (.int a1)] [.int s0] (xLay m) 0 0 (some (.int r.1)) (xLay r.2) := by
  unfold fX9_hasLink_23 at h
  obtain ⟨hb1, h⟩ := xChk_el h
  cases h
  exact fx_ireturn dX9_hasLink_23 rfl (by show ((decide _ || decide _) && _) = true; rw [hb1]; rfl)
def fX9_hasLink_22 (a0 : Nat) (a1 : Int32) (m : xMem) : Option (Int32 × xMem) := fX9_hasLink_23 a0 a1 (0 : Int32) m
set_option maxRecDepth 4000 in
theorem fX9_hasLink_22_ok {a0 : Nat} {a1 : Int32} {d : Nat} (hd : 0 ≤ d) (ha0 : isStation a0) {m : xMem} {r : (Int32 × xMem)} (h : fX9_hasLink_22 a0 a1 m = some r) : xFx hh_29 cX9_hasLink d 22 [some (.ref a0), some (.int a1)] [] (xLay m) 0 0 (some (.int r.1)) (xLay r.2) := by
  unfold fX9_hasLink_22 at h
  refine fx_iconst (x := 0) dX9_hasLink_22 rfl (by decide) ?_
  exact fX9_hasLink_23_ok hd ha0 h
def fX9_hasLink_0 (a0 : Nat) (a1 : Int32) (m : xMem) : Option (Int32 × xMem) := if a1 < (0 : Int32) then fX9_hasLink_22 a0 a1 m else xLet (m.1 a0 8) fun x2 => if x2 ≤ a1 then fX9_hasLink_22 a0 a1 m else if (10 : Int32) ≤ a1 then fX9_hasLink_22 a0 a1 m else fX9_hasLink_23 a0 a1 (1 : Int32) m
set_option maxRecDepth 4000 in
theorem fX9_hasLink_0_ok {a0 : Nat} {a1 : Int32} {d : Nat} (hd : 0 ≤ d) (ha0 : isStation a0) {m : xMem} {r : (Int32 × xMem)} (h : fX9_hasLink_0 a0 a1 m = some r) : xFx hh_29 cX9_hasLink d 0 [some (.ref a0), some (.int a1)] [] (xLay m) 0 0 (some (.int r.1)) (xLay r.2) := by
  unfold fX9_hasLink_0 at h
  refine fx_iload_n dX9_hasLink_0 rfl rfl ?_
  refine fx_if_lt (t := 22) dX9_hasLink_1 rfl rfl (fun hc1 => ?_) (fun hc1 => ?_)
  · rw [if_pos hc1] at h
    exact fX9_hasLink_22_ok hd ha0 h
  · rw [if_neg hc1] at h
    refine fx_iload_n dX9_hasLink_4 rfl rfl ?_
    refine fx_aload_n dX9_hasLink_5 rfl rfl ?_
    obtain ⟨x2, hx2, h⟩ := xLet_el h
    refine gx_get dX9_hasLink_6 rfl fd_9_60 ha0.1 rfl rfl hx2 ?_
    refine fx_icmp_ge (t := 22) dX9_hasLink_9 rfl rfl (fun hc3 => ?_) (fun hc3 => ?_)
    · rw [if_pos hc3] at h
      exact fX9_hasLink_22_ok hd ha0 h
    · rw [if_neg hc3] at h
      refine fx_iload_n dX9_hasLink_12 rfl rfl ?_
      refine fx_bipush (x := 10) dX9_hasLink_13 rfl (by decide) ?_
      refine fx_icmp_ge (t := 22) dX9_hasLink_15 rfl rfl (fun hc4 => ?_) (fun hc4 => ?_)
      · rw [if_pos hc4] at h
        exact fX9_hasLink_22_ok hd ha0 h
      · rw [if_neg hc4] at h
        refine fx_iconst (x := 1) dX9_hasLink_18 rfl (by decide) ?_
        refine fx_goto (t := 23) dX9_hasLink_19 rfl rfl ?_
        exact fX9_hasLink_23_ok hd ha0 h
def fX9_hasLink (a0 : Nat) (a1 : Int32) (m : xMem) : Option (Int32 × xMem) := fX9_hasLink_0 a0 a1  m
theorem fX9_hasLink_ok {a0 : Nat} {a1 : Int32} {m : xMem} {r : (Int32 × xMem)} {d : Nat} (hd : 1 ≤ d) (ha0 : isStation a0) (h : fX9_hasLink a0 a1 m = some r) : xEx d 29 [.ref a0, .int a1] (xLay m) (some (.int r.1)) (xLay r.2) := by
  obtain ⟨d, rfl⟩ : ∃ q, d = q + 1 := ⟨d - 1, by omega⟩
  exact xEx_of me_29 rfl (fX9_hasLink_0_ok (d := d) (by omega) ha0 h)
def fX9_hasStepped_26 (a0 : Nat) (a1 : Int32) (s0 : Int32) (m : xMem) : Option (Int32 × xMem) := bif (decide (s0 = 0) || decide (s0 = 1)) then some (s0, m) else none
set_option maxRecDepth 4000 in
theorem fX9_hasStepped_26_ok {a0 : Nat} {a1 : Int32} {d : Nat} (hd : 1 ≤ d) (ha0 : isStation a0) {s0 : Int32} {m : xMem} {r : (Int32 × xMem)} (h : fX9_hasStepped_26 a0 a1 s0 m = some r) : xFx hh_28 cX9_hasStepped d 26 [some (.ref a0), some (.int a1)] [.int s0] (xLay m) 0 0 (some (.int r.1)) (xLay r.2) := by
  unfold fX9_hasStepped_26 at h
  obtain ⟨hb1, h⟩ := xChk_el h
  cases h
  exact fx_ireturn dX9_hasStepped_26 rfl (by show ((decide _ || decide _) && _) = true; rw [hb1]; rfl)
def fX9_hasStepped_25 (a0 : Nat) (a1 : Int32) (m : xMem) : Option (Int32 × xMem) := fX9_hasStepped_26 a0 a1 (0 : Int32) m
set_option maxRecDepth 4000 in
theorem fX9_hasStepped_25_ok {a0 : Nat} {a1 : Int32} {d : Nat} (hd : 1 ≤ d) (ha0 : isStation a0) {m : xMem} {r : (Int32 × xMem)} (h : fX9_hasStepped_25 a0 a1 m = some r) : xFx hh_28 cX9_hasStepped d 25 [some (.ref a0), some (.int a1)] [] (xLay m) 0 0 (some (.int r.1)) (xLay r.2) := by
  unfold fX9_hasStepped_25 at h
  refine fx_iconst (x := 0) dX9_hasStepped_25 rfl (by decide) ?_
  exact fX9_hasStepped_26_ok hd ha0 h
def fX9_hasStepped_0 (a0 : Nat) (a1 : Int32) (m : xMem) : Option (Int32 × xMem) := (fX9_hasLink a0 a1 m).bind fun p1 => if p1.1 = (0 : Int32) then fX9_hasStepped_25 a0 a1 p1.2 else bif xIn a1 10 then xLet (a0 + 33 + 2 * a1.toNatClampNeg) fun r4 => xLet (p1.2.1 r4 1) fun x5 => if x5 = (2 : Int32) then fX9_hasStepped_25 a0 a1 p1.2 else fX9_hasStepped_26 a0 a1 (1 : Int32) p1.2 else none
set_option maxRecDepth 4000 in
theorem fX9_hasStepped_0_ok {a0 : Nat} {a1 : Int32} {d : Nat} (hd : 1 ≤ d) (ha0 : isStation a0) {m : xMem} {r : (Int32 × xMem)} (h : fX9_hasStepped_0 a0 a1 m = some r) : xFx hh_28 cX9_hasStepped d 0 [some (.ref a0), some (.int a1)] [] (xLay m) 0 0 (some (.int r.1)) (xLay r.2) := by
  unfold fX9_hasStepped_0 at h
  refine fx_aload_n dX9_hasStepped_0 rfl rfl ?_
  refine fx_iload_n dX9_hasStepped_1 rfl rfl ?_
  obtain ⟨p1, ep1, h⟩ := xBind_el h
  refine gx_callv (as := [.int a1]) (r := []) rfl dX9_hasStepped_2 ca_9_63 rfl me_29 rfl rfl rfl rfl (ha0.1) rfl (fX9_hasLink_ok (d := d) (by omega) ha0 ep1) rfl rfl ?_
  refine fx_if_eq (t := 25) dX9_hasStepped_5 rfl rfl (fun hc2 => ?_) (fun hc2 => ?_)
  · rw [if_pos hc2] at h
    exact fX9_hasStepped_25_ok hd ha0 h
  · rw [if_neg hc2] at h
    refine fx_aload_n dX9_hasStepped_8 rfl rfl ?_
    refine gx_getr dX9_hasStepped_9 rfl fd_9_19 ha0.1 rfl rfl ?_
    refine fx_iload_n dX9_hasStepped_12 rfl rfl ?_
    obtain ⟨hj3, h⟩ := xChk_el h
    obtain ⟨r4, hr4, h⟩ := xLet_el h
    refine gx_aaload (t := 5) dX9_hasStepped_13 rfl ha0.2.2.1 rfl hj3 ((xRef_at (sl_9_1 a0) hj3).trans (congrArg some hr4)) ?_
    have hpr4 : isLink r4 := by rw [← hr4]; exact ha0.2.2.2.2.2.2.2.2.1 _ (xIn_lt hj3)
    obtain ⟨x5, hx5, h⟩ := xLet_el h
    refine gx_get dX9_hasStepped_14 rfl fd_9_67 hpr4.1 rfl rfl hx5 ?_
    refine fx_iconst (x := 2) dX9_hasStepped_17 rfl (by decide) ?_
    refine fx_icmp_eq (t := 25) dX9_hasStepped_18 rfl rfl (fun hc6 => ?_) (fun hc6 => ?_)
    · rw [if_pos hc6] at h
      exact fX9_hasStepped_25_ok hd ha0 h
    · rw [if_neg hc6] at h
      refine fx_iconst (x := 1) dX9_hasStepped_21 rfl (by decide) ?_
      refine fx_goto (t := 26) dX9_hasStepped_22 rfl rfl ?_
      exact fX9_hasStepped_26_ok hd ha0 h
def fX9_hasStepped (a0 : Nat) (a1 : Int32) (m : xMem) : Option (Int32 × xMem) := fX9_hasStepped_0 a0 a1  m
theorem fX9_hasStepped_ok {a0 : Nat} {a1 : Int32} {m : xMem} {r : (Int32 × xMem)} {d : Nat} (hd : 2 ≤ d) (ha0 : isStation a0) (h : fX9_hasStepped a0 a1 m = some r) : xEx d 28 [.ref a0, .int a1] (xLay m) (some (.int r.1)) (xLay r.2) := by
  obtain ⟨d, rfl⟩ : ∃ q, d = q + 1 := ⟨d - 1, by omega⟩
  exact xEx_of me_28 rfl (fX9_hasStepped_0_ok (d := d) (by omega) ha0 h)
