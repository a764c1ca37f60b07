theorem bdX11_shutByBar_0 : (decode cX11_shutByBar 0 = .ok (.iload_n 1, 1)) ∧ (decode cX11_shutByBar 1 = .ok (.iconst 0, 1)) ∧ (decode cX11_shutByBar 2 = .ok (.iconst 5, 1)) ∧ (decode cX11_shutByBar 3 = .ok (.invokestatic 47, 3)) ∧ (decode cX11_shutByBar 6 = .ok (.ifCond .ne 5, 3)) ∧ (decode cX11_shutByBar 9 = .ok (.iconst (-1), 1)) ∧ (decode cX11_shutByBar 10 = .ok (.ireturn, 1)) ∧ (decode cX11_shutByBar 11 = .ok (.aload_n 0, 1)) ∧ (decode cX11_shutByBar 12 = .ok (.invokevirtual 246, 3)) ∧ (decode cX11_shutByBar 15 = .ok (.astore 4, 2)) ∧ (decode cX11_shutByBar 17 = .ok (.aload_n 0, 1)) ∧ (decode cX11_shutByBar 18 = .ok (.getfield 19, 3)) ∧ (decode cX11_shutByBar 21 = .ok (.getfield 55, 3)) ∧ (decode cX11_shutByBar 24 = .ok (.iload_n 1, 1)) ∧ (decode cX11_shutByBar 25 = .ok (.aaload, 1)) ∧ (decode cX11_shutByBar 26 = .ok (.iload_n 2, 1)) := by decide +kernel
theorem dX11_shutByBar_0 : decode cX11_shutByBar 0 = .ok (.iload_n 1, 1) := bdX11_shutByBar_0.1
theorem dX11_shutByBar_1 : decode cX11_shutByBar 1 = .ok (.iconst 0, 1) := bdX11_shutByBar_0.2.1
theorem dX11_shutByBar_2 : decode cX11_shutByBar 2 = .ok (.iconst 5, 1) := bdX11_shutByBar_0.2.2.1
theorem dX11_shutByBar_3 : decode cX11_shutByBar 3 = .ok (.invokestatic 47, 3) := bdX11_shutByBar_0.2.2.2.1
theorem dX11_shutByBar_6 : decode cX11_shutByBar 6 = .ok (.ifCond .ne 5, 3) := bdX11_shutByBar_0.2.2.2.2.1
theorem dX11_shutByBar_9 : decode cX11_shutByBar 9 = .ok (.iconst (-1), 1) := bdX11_shutByBar_0.2.2.2.2.2.1
theorem dX11_shutByBar_10 : decode cX11_shutByBar 10 = .ok (.ireturn, 1) := bdX11_shutByBar_0.2.2.2.2.2.2.1
theorem dX11_shutByBar_11 : decode cX11_shutByBar 11 = .ok (.aload_n 0, 1) := bdX11_shutByBar_0.2.2.2.2.2.2.2.1
theorem dX11_shutByBar_12 : decode cX11_shutByBar 12 = .ok (.invokevirtual 246, 3) := bdX11_shutByBar_0.2.2.2.2.2.2.2.2.1
theorem dX11_shutByBar_15 : decode cX11_shutByBar 15 = .ok (.astore 4, 2) := bdX11_shutByBar_0.2.2.2.2.2.2.2.2.2.1
theorem dX11_shutByBar_17 : decode cX11_shutByBar 17 = .ok (.aload_n 0, 1) := bdX11_shutByBar_0.2.2.2.2.2.2.2.2.2.2.1
theorem dX11_shutByBar_18 : decode cX11_shutByBar 18 = .ok (.getfield 19, 3) := bdX11_shutByBar_0.2.2.2.2.2.2.2.2.2.2.2.1
theorem dX11_shutByBar_21 : decode cX11_shutByBar 21 = .ok (.getfield 55, 3) := bdX11_shutByBar_0.2.2.2.2.2.2.2.2.2.2.2.2.1
theorem dX11_shutByBar_24 : decode cX11_shutByBar 24 = .ok (.iload_n 1, 1) := bdX11_shutByBar_0.2.2.2.2.2.2.2.2.2.2.2.2.2.1
theorem dX11_shutByBar_25 : decode cX11_shutByBar 25 = .ok (.aaload, 1) := bdX11_shutByBar_0.2.2.2.2.2.2.2.2.2.2.2.2.2.2.1
theorem dX11_shutByBar_26 : decode cX11_shutByBar 26 = .ok (.iload_n 2, 1) := bdX11_shutByBar_0.2.2.2.2.2.2.2.2.2.2.2.2.2.2.2
theorem bdX11_shutByBar_27 : (decode cX11_shutByBar 27 = .ok (.putfield 69, 3)) ∧ (decode cX11_shutByBar 30 = .ok (.iconst 0, 1)) ∧ (decode cX11_shutByBar 31 = .ok (.istore 5, 2)) ∧ (decode cX11_shutByBar 33 = .ok (.iload 5, 2)) ∧ (decode cX11_shutByBar 35 = .ok (.iload_n 3, 1)) ∧ (decode cX11_shutByBar 36 = .ok (.if_icmp .ge 51, 3)) ∧ (decode cX11_shutByBar 39 = .ok (.aload_n 0, 1)) ∧ (decode cX11_shutByBar 40 = .ok (.getfield 25, 3)) ∧ (decode cX11_shutByBar 43 = .ok (.aload_n 0, 1)) ∧ (decode cX11_shutByBar 44 = .ok (.getfield 19, 3)) ∧ (decode cX11_shutByBar 47 = .ok (.aload 4, 2)) ∧ (decode cX11_shutByBar 49 = .ok (.invokevirtual 169, 3)) ∧ (decode cX11_shutByBar 52 = .ok (.aload_n 0, 1)) ∧ (decode cX11_shutByBar 53 = .ok (.getfield 19, 3)) ∧ (decode cX11_shutByBar 56 = .ok (.getfield 234, 3)) ∧ (decode cX11_shutByBar 59 = .ok (.aload_n 0, 1)) := by decide +kernel
theorem dX11_shutByBar_27 : decode cX11_shutByBar 27 = .ok (.putfield 69, 3) := bdX11_shutByBar_27.1
theorem dX11_shutByBar_30 : decode cX11_shutByBar 30 = .ok (.iconst 0, 1) := bdX11_shutByBar_27.2.1
theorem dX11_shutByBar_31 : decode cX11_shutByBar 31 = .ok (.istore 5, 2) := bdX11_shutByBar_27.2.2.1
theorem dX11_shutByBar_33 : decode cX11_shutByBar 33 = .ok (.iload 5, 2) := bdX11_shutByBar_27.2.2.2.1
theorem dX11_shutByBar_35 : decode cX11_shutByBar 35 = .ok (.iload_n 3, 1) := bdX11_shutByBar_27.2.2.2.2.1
theorem dX11_shutByBar_36 : decode cX11_shutByBar 36 = .ok (.if_icmp .ge 51, 3) := bdX11_shutByBar_27.2.2.2.2.2.1
theorem dX11_shutByBar_39 : decode cX11_shutByBar 39 = .ok (.aload_n 0, 1) := bdX11_shutByBar_27.2.2.2.2.2.2.1
theorem dX11_shutByBar_40 : decode cX11_shutByBar 40 = .ok (.getfield 25, 3) := bdX11_shutByBar_27.2.2.2.2.2.2.2.1
theorem dX11_shutByBar_43 : decode cX11_shutByBar 43 = .ok (.aload_n 0, 1) := bdX11_shutByBar_27.2.2.2.2.2.2.2.2.1
theorem dX11_shutByBar_44 : decode cX11_shutByBar 44 = .ok (.getfield 19, 3) := bdX11_shutByBar_27.2.2.2.2.2.2.2.2.2.1
theorem dX11_shutByBar_47 : decode cX11_shutByBar 47 = .ok (.aload 4, 2) := bdX11_shutByBar_27.2.2.2.2.2.2.2.2.2.2.1
theorem dX11_shutByBar_49 : decode cX11_shutByBar 49 = .ok (.invokevirtual 169, 3) := bdX11_shutByBar_27.2.2.2.2.2.2.2.2.2.2.2.1
theorem dX11_shutByBar_52 : decode cX11_shutByBar 52 = .ok (.aload_n 0, 1) := bdX11_shutByBar_27.2.2.2.2.2.2.2.2.2.2.2.2.1
theorem dX11_shutByBar_53 : decode cX11_shutByBar 53 = .ok (.getfield 19, 3) := bdX11_shutByBar_27.2.2.2.2.2.2.2.2.2.2.2.2.2.1
theorem dX11_shutByBar_56 : decode cX11_shutByBar 56 = .ok (.getfield 234, 3) := bdX11_shutByBar_27.2.2.2.2.2.2.2.2.2.2.2.2.2.2.1
theorem dX11_shutByBar_59 : decode cX11_shutByBar 59 = .ok (.aload_n 0, 1) := bdX11_shutByBar_27.2.2.2.2.2.2.2.2.2.2.2.2.2.2.2
theorem bdX11_shutByBar_60 : (decode cX11_shutByBar 60 = .ok (.getfield 10, 3)) ∧ (decode cX11_shutByBar 63 = .ok (.getfield 234, 3)) ∧ (decode cX11_shutByBar 66 = .ok (.if_icmp .ne 13, 3)) ∧ (decode cX11_shutByBar 69 = .ok (.aload_n 0, 1)) ∧ (decode cX11_shutByBar 70 = .ok (.getfield 19, 3)) ∧ (decode cX11_shutByBar 73 = .ok (.invokevirtual 326, 3)) ∧ (decode cX11_shutByBar 76 = .ok (.ifCond .eq 5, 3)) ∧ (decode cX11_shutByBar 79 = .ok (.iconst (-1), 1)) ∧ (decode cX11_shutByBar 80 = .ok (.ireturn, 1)) ∧ (decode cX11_shutByBar 81 = .ok (.iinc 5 1, 3)) ∧ (decode cX11_shutByBar 84 = .ok (.goto (-51), 3)) ∧ (decode cX11_shutByBar 87 = .ok (.aload_n 0, 1)) ∧ (decode cX11_shutByBar 88 = .ok (.getfield 19, 3)) ∧ (decode cX11_shutByBar 91 = .ok (.getfield 55, 3)) ∧ (decode cX11_shutByBar 94 = .ok (.iload_n 1, 1)) ∧ (decode cX11_shutByBar 95 = .ok (.aaload, 1)) := by decide +kernel
theorem dX11_shutByBar_60 : decode cX11_shutByBar 60 = .ok (.getfield 10, 3) := bdX11_shutByBar_60.1
theorem dX11_shutByBar_63 : decode cX11_shutByBar 63 = .ok (.getfield 234, 3) := bdX11_shutByBar_60.2.1
theorem dX11_shutByBar_66 : decode cX11_shutByBar 66 = .ok (.if_icmp .ne 13, 3) := bdX11_shutByBar_60.2.2.1
theorem dX11_shutByBar_69 : decode cX11_shutByBar 69 = .ok (.aload_n 0, 1) := bdX11_shutByBar_60.2.2.2.1
theorem dX11_shutByBar_70 : decode cX11_shutByBar 70 = .ok (.getfield 19, 3) := bdX11_shutByBar_60.2.2.2.2.1
theorem dX11_shutByBar_73 : decode cX11_shutByBar 73 = .ok (.invokevirtual 326, 3) := bdX11_shutByBar_60.2.2.2.2.2.1
theorem dX11_shutByBar_76 : decode cX11_shutByBar 76 = .ok (.ifCond .eq 5, 3) := bdX11_shutByBar_60.2.2.2.2.2.2.1
theorem dX11_shutByBar_79 : decode cX11_shutByBar 79 = .ok (.iconst (-1), 1) := bdX11_shutByBar_60.2.2.2.2.2.2.2.1
theorem dX11_shutByBar_80 : decode cX11_shutByBar 80 = .ok (.ireturn, 1) := bdX11_shutByBar_60.2.2.2.2.2.2.2.2.1
theorem dX11_shutByBar_81 : decode cX11_shutByBar 81 = .ok (.iinc 5 1, 3) := bdX11_shutByBar_60.2.2.2.2.2.2.2.2.2.1
theorem dX11_shutByBar_84 : decode cX11_shutByBar 84 = .ok (.goto (-51), 3) := bdX11_shutByBar_60.2.2.2.2.2.2.2.2.2.2.1
theorem dX11_shutByBar_87 : decode cX11_shutByBar 87 = .ok (.aload_n 0, 1) := bdX11_shutByBar_60.2.2.2.2.2.2.2.2.2.2.2.1
theorem dX11_shutByBar_88 : decode cX11_shutByBar 88 = .ok (.getfield 19, 3) := bdX11_shutByBar_60.2.2.2.2.2.2.2.2.2.2.2.2.1
theorem dX11_shutByBar_91 : decode cX11_shutByBar 91 = .ok (.getfield 55, 3) := bdX11_shutByBar_60.2.2.2.2.2.2.2.2.2.2.2.2.2.1
theorem dX11_shutByBar_94 : decode cX11_shutByBar 94 = .ok (.iload_n 1, 1) := bdX11_shutByBar_60.2.2.2.2.2.2.2.2.2.2.2.2.2.2.1
theorem dX11_shutByBar_95 : decode cX11_shutByBar 95 = .ok (.aaload, 1) := bdX11_shutByBar_60.2.2.2.2.2.2.2.2.2.2.2.2.2.2.2
theorem bdX11_shutByBar_96 : (decode cX11_shutByBar 96 = .ok (.getfield 184, 3)) ∧ (decode cX11_shutByBar 99 = .ok (.aload_n 0, 1)) ∧ (decode cX11_shutByBar 100 = .ok (.getfield 10, 3)) ∧ (decode cX11_shutByBar 103 = .ok (.getfield 55, 3)) ∧ (decode cX11_shutByBar 106 = .ok (.iload_n 1, 1)) ∧ (decode cX11_shutByBar 107 = .ok (.aaload, 1)) ∧ (decode cX11_shutByBar 108 = .ok (.getfield 184, 3)) ∧ (decode cX11_shutByBar 111 = .ok (.isub, 1)) ∧ (decode cX11_shutByBar 112 = .ok (.ireturn, 1)) := by decide +kernel
theorem dX11_shutByBar_96 : decode cX11_shutByBar 96 = .ok (.getfield 184, 3) := bdX11_shutByBar_96.1
theorem dX11_shutByBar_99 : decode cX11_shutByBar 99 = .ok (.aload_n 0, 1) := bdX11_shutByBar_96.2.1
theorem dX11_shutByBar_100 : decode cX11_shutByBar 100 = .ok (.getfield 10, 3) := bdX11_shutByBar_96.2.2.1
theorem dX11_shutByBar_103 : decode cX11_shutByBar 103 = .ok (.getfield 55, 3) := bdX11_shutByBar_96.2.2.2.1
theorem dX11_shutByBar_106 : decode cX11_shutByBar 106 = .ok (.iload_n 1, 1) := bdX11_shutByBar_96.2.2.2.2.1
theorem dX11_shutByBar_107 : decode cX11_shutByBar 107 = .ok (.aaload, 1) := bdX11_shutByBar_96.2.2.2.2.2.1
theorem dX11_shutByBar_108 : decode cX11_shutByBar 108 = .ok (.getfield 184, 3) := bdX11_shutByBar_96.2.2.2.2.2.2.1
theorem dX11_shutByBar_111 : decode cX11_shutByBar 111 = .ok (.isub, 1) := bdX11_shutByBar_96.2.2.2.2.2.2.2.1
theorem dX11_shutByBar_112 : decode cX11_shutByBar 112 = .ok (.ireturn, 1) := bdX11_shutByBar_96.2.2.2.2.2.2.2.2
theorem bdX11_least_0 : (decode cX11_least 0 = .ok (.iload_n 3, 1)) ∧ (decode cX11_least 1 = .ok (.iconst 0, 1)) ∧ (decode cX11_least 2 = .ok (.iconst 1, 1)) ∧ (decode cX11_least 3 = .ok (.invokestatic 47, 3)) ∧ (decode cX11_least 6 = .ok (.ifCond .eq 22, 3)) ∧ (decode cX11_least 9 = .ok (.aload_n 0, 1)) ∧ (decode cX11_least 10 = .ok (.iload_n 2, 1)) ∧ (decode cX11_least 11 = .ok (.invokevirtual 159, 3)) ∧ (decode cX11_least 14 = .ok (.ifCond .eq 14, 3)) ∧ (decode cX11_least 17 = .ok (.aload_n 0, 1)) ∧ (decode cX11_least 18 = .ok (.getfield 10, 3)) ∧ (decode cX11_least 21 = .ok (.iload_n 1, 1)) ∧ (decode cX11_least 22 = .ok (.invokevirtual 65, 3)) ∧ (decode cX11_least 25 = .ok (.ifCond .ne 5, 3)) ∧ (decode cX11_least 28 = .ok (.iconst (-1), 1)) ∧ (decode cX11_least 29 = .ok (.ireturn, 1)) := by decide +kernel
theorem dX11_least_0 : decode cX11_least 0 = .ok (.iload_n 3, 1) := bdX11_least_0.1
theorem dX11_least_1 : decode cX11_least 1 = .ok (.iconst 0, 1) := bdX11_least_0.2.1
theorem dX11_least_2 : decode cX11_least 2 = .ok (.iconst 1, 1) := bdX11_least_0.2.2.1
theorem dX11_least_3 : decode cX11_least 3 = .ok (.invokestatic 47, 3) := bdX11_least_0.2.2.2.1
theorem dX11_least_6 : decode cX11_least 6 = .ok (.ifCond .eq 22, 3) := bdX11_least_0.2.2.2.2.1
theorem dX11_least_9 : decode cX11_least 9 = .ok (.aload_n 0, 1) := bdX11_least_0.2.2.2.2.2.1
theorem dX11_least_10 : decode cX11_least 10 = .ok (.iload_n 2, 1) := bdX11_least_0.2.2.2.2.2.2.1
theorem dX11_least_11 : decode cX11_least 11 = .ok (.invokevirtual 159, 3) := bdX11_least_0.2.2.2.2.2.2.2.1
theorem dX11_least_14 : decode cX11_least 14 = .ok (.ifCond .eq 14, 3) := bdX11_least_0.2.2.2.2.2.2.2.2.1
theorem dX11_least_17 : decode cX11_least 17 = .ok (.aload_n 0, 1) := bdX11_least_0.2.2.2.2.2.2.2.2.2.1
theorem dX11_least_18 : decode cX11_least 18 = .ok (.getfield 10, 3) := bdX11_least_0.2.2.2.2.2.2.2.2.2.2.1
theorem dX11_least_21 : decode cX11_least 21 = .ok (.iload_n 1, 1) := bdX11_least_0.2.2.2.2.2.2.2.2.2.2.2.1
theorem dX11_least_22 : decode cX11_least 22 = .ok (.invokevirtual 65, 3) := bdX11_least_0.2.2.2.2.2.2.2.2.2.2.2.2.1
theorem dX11_least_25 : decode cX11_least 25 = .ok (.ifCond .ne 5, 3) := bdX11_least_0.2.2.2.2.2.2.2.2.2.2.2.2.2.1
theorem dX11_least_28 : decode cX11_least 28 = .ok (.iconst (-1), 1) := bdX11_least_0.2.2.2.2.2.2.2.2.2.2.2.2.2.2.1
theorem dX11_least_29 : decode cX11_least 29 = .ok (.ireturn, 1) := bdX11_least_0.2.2.2.2.2.2.2.2.2.2.2.2.2.2.2
theorem bdX11_least_30 : (decode cX11_least 30 = .ok (.bipush 60, 2)) ∧ (decode cX11_least 32 = .ok (.istore 4, 2)) ∧ (decode cX11_least 34 = .ok (.iload 4, 2)) ∧ (decode cX11_least 36 = .ok (.ifCond .lt 37, 3)) ∧ (decode cX11_least 39 = .ok (.aload_n 0, 1)) ∧ (decode cX11_least 40 = .ok (.iload_n 1, 1)) ∧ (decode cX11_least 41 = .ok (.iload 4, 2)) ∧ (decode cX11_least 43 = .ok (.iload_n 2, 1)) ∧ (decode cX11_least 44 = .ok (.invokevirtual 243, 3)) ∧ (decode cX11_least 47 = .ok (.istore 5, 2)) ∧ (decode cX11_least 49 = .ok (.iload 5, 2)) ∧ (decode cX11_least 51 = .ok (.iconst (-1), 1)) ∧ (decode cX11_least 52 = .ok (.if_icmp .eq 15, 3)) ∧ (decode cX11_least 55 = .ok (.iload_n 3, 1)) ∧ (decode cX11_least 56 = .ok (.ifCond .ne 8, 3)) ∧ (decode cX11_least 59 = .ok (.iload 4, 2)) := by decide +kernel
theorem dX11_least_30 : decode cX11_least 30 = .ok (.bipush 60, 2) := bdX11_least_30.1
theorem dX11_least_32 : decode cX11_least 32 = .ok (.istore 4, 2) := bdX11_least_30.2.1
theorem dX11_least_34 : decode cX11_least 34 = .ok (.iload 4, 2) := bdX11_least_30.2.2.1
theorem dX11_least_36 : decode cX11_least 36 = .ok (.ifCond .lt 37, 3) := bdX11_least_30.2.2.2.1
theorem dX11_least_39 : decode cX11_least 39 = .ok (.aload_n 0, 1) := bdX11_least_30.2.2.2.2.1
theorem dX11_least_40 : decode cX11_least 40 = .ok (.iload_n 1, 1) := bdX11_least_30.2.2.2.2.2.1
theorem dX11_least_41 : decode cX11_least 41 = .ok (.iload 4, 2) := bdX11_least_30.2.2.2.2.2.2.1
theorem dX11_least_43 : decode cX11_least 43 = .ok (.iload_n 2, 1) := bdX11_least_30.2.2.2.2.2.2.2.1
theorem dX11_least_44 : decode cX11_least 44 = .ok (.invokevirtual 243, 3) := bdX11_least_30.2.2.2.2.2.2.2.2.1
theorem dX11_least_47 : decode cX11_least 47 = .ok (.istore 5, 2) := bdX11_least_30.2.2.2.2.2.2.2.2.2.1
theorem dX11_least_49 : decode cX11_least 49 = .ok (.iload 5, 2) := bdX11_least_30.2.2.2.2.2.2.2.2.2.2.1
theorem dX11_least_51 : decode cX11_least 51 = .ok (.iconst (-1), 1) := bdX11_least_30.2.2.2.2.2.2.2.2.2.2.2.1
theorem dX11_least_52 : decode cX11_least 52 = .ok (.if_icmp .eq 15, 3) := bdX11_least_30.2.2.2.2.2.2.2.2.2.2.2.2.1
theorem dX11_least_55 : decode cX11_least 55 = .ok (.iload_n 3, 1) := bdX11_least_30.2.2.2.2.2.2.2.2.2.2.2.2.2.1
theorem dX11_least_56 : decode cX11_least 56 = .ok (.ifCond .ne 8, 3) := bdX11_least_30.2.2.2.2.2.2.2.2.2.2.2.2.2.2.1
theorem dX11_least_59 : decode cX11_least 59 = .ok (.iload 4, 2) := bdX11_least_30.2.2.2.2.2.2.2.2.2.2.2.2.2.2.2
theorem bdX11_least_61 : (decode cX11_least 61 = .ok (.goto 5, 3)) ∧ (decode cX11_least 64 = .ok (.iload 5, 2)) ∧ (decode cX11_least 66 = .ok (.ireturn, 1)) ∧ (decode cX11_least 67 = .ok (.iinc 4 (-1), 3)) ∧ (decode cX11_least 70 = .ok (.goto (-36), 3)) ∧ (decode cX11_least 73 = .ok (.iconst (-1), 1)) ∧ (decode cX11_least 74 = .ok (.ireturn, 1)) := by decide +kernel
theorem dX11_least_61 : decode cX11_least 61 = .ok (.goto 5, 3) := bdX11_least_61.1
theorem dX11_least_64 : decode cX11_least 64 = .ok (.iload 5, 2) := bdX11_least_61.2.1
theorem dX11_least_66 : decode cX11_least 66 = .ok (.ireturn, 1) := bdX11_least_61.2.2.1
theorem dX11_least_67 : decode cX11_least 67 = .ok (.iinc 4 (-1), 3) := bdX11_least_61.2.2.2.1
theorem dX11_least_70 : decode cX11_least 70 = .ok (.goto (-36), 3) := bdX11_least_61.2.2.2.2.1
theorem dX11_least_73 : decode cX11_least 73 = .ok (.iconst (-1), 1) := bdX11_least_61.2.2.2.2.2.1
theorem dX11_least_74 : decode cX11_least 74 = .ok (.ireturn, 1) := bdX11_least_61.2.2.2.2.2.2
theorem bdX12_least_0 : (decode cX12_least 0 = .ok (.aload_n 0, 1)) ∧ (decode cX12_least 1 = .ok (.iload_n 1, 1)) ∧ (decode cX12_least 2 = .ok (.invokevirtual 107, 3)) ∧ (decode cX12_least 5 = .ok (.ifCond .eq 20, 3)) ∧ (decode cX12_least 8 = .ok (.aload_n 0, 1)) ∧ (decode cX12_least 9 = .ok (.iload_n 2, 1)) ∧ (decode cX12_least 10 = .ok (.invokevirtual 377, 3)) ∧ (decode cX12_least 13 = .ok (.ifCond .eq 12, 3)) ∧ (decode cX12_least 16 = .ok (.iload_n 3, 1)) ∧ (decode cX12_least 17 = .ok (.iconst 0, 1)) ∧ (decode cX12_least 18 = .ok (.iconst 1, 1)) ∧ (decode cX12_least 19 = .ok (.invokestatic 95, 3)) ∧ (decode cX12_least 22 = .ok (.ifCond .ne 5, 3)) ∧ (decode cX12_least 25 = .ok (.iconst (-1), 1)) ∧ (decode cX12_least 26 = .ok (.ireturn, 1)) ∧ (decode cX12_least 27 = .ok (.aload_n 0, 1)) := by decide +kernel
theorem dX12_least_0 : decode cX12_least 0 = .ok (.aload_n 0, 1) := bdX12_least_0.1
theorem dX12_least_1 : decode cX12_least 1 = .ok (.iload_n 1, 1) := bdX12_least_0.2.1
theorem dX12_least_2 : decode cX12_least 2 = .ok (.invokevirtual 107, 3) := bdX12_least_0.2.2.1
theorem dX12_least_5 : decode cX12_least 5 = .ok (.ifCond .eq 20, 3) := bdX12_least_0.2.2.2.1
theorem dX12_least_8 : decode cX12_least 8 = .ok (.aload_n 0, 1) := bdX12_least_0.2.2.2.2.1
theorem dX12_least_9 : decode cX12_least 9 = .ok (.iload_n 2, 1) := bdX12_least_0.2.2.2.2.2.1
theorem dX12_least_10 : decode cX12_least 10 = .ok (.invokevirtual 377, 3) := bdX12_least_0.2.2.2.2.2.2.1
theorem dX12_least_13 : decode cX12_least 13 = .ok (.ifCond .eq 12, 3) := bdX12_least_0.2.2.2.2.2.2.2.1
theorem dX12_least_16 : decode cX12_least 16 = .ok (.iload_n 3, 1) := bdX12_least_0.2.2.2.2.2.2.2.2.1
theorem dX12_least_17 : decode cX12_least 17 = .ok (.iconst 0, 1) := bdX12_least_0.2.2.2.2.2.2.2.2.2.1
theorem dX12_least_18 : decode cX12_least 18 = .ok (.iconst 1, 1) := bdX12_least_0.2.2.2.2.2.2.2.2.2.2.1
theorem dX12_least_19 : decode cX12_least 19 = .ok (.invokestatic 95, 3) := bdX12_least_0.2.2.2.2.2.2.2.2.2.2.2.1
theorem dX12_least_22 : decode cX12_least 22 = .ok (.ifCond .ne 5, 3) := bdX12_least_0.2.2.2.2.2.2.2.2.2.2.2.2.1
theorem dX12_least_25 : decode cX12_least 25 = .ok (.iconst (-1), 1) := bdX12_least_0.2.2.2.2.2.2.2.2.2.2.2.2.2.1
theorem dX12_least_26 : decode cX12_least 26 = .ok (.ireturn, 1) := bdX12_least_0.2.2.2.2.2.2.2.2.2.2.2.2.2.2.1
theorem dX12_least_27 : decode cX12_least 27 = .ok (.aload_n 0, 1) := bdX12_least_0.2.2.2.2.2.2.2.2.2.2.2.2.2.2.2
theorem bdX12_least_28 : (decode cX12_least 28 = .ok (.invokevirtual 386, 3)) ∧ (decode cX12_least 31 = .ok (.bipush 60, 2)) ∧ (decode cX12_least 33 = .ok (.istore 4, 2)) ∧ (decode cX12_least 35 = .ok (.iload 4, 2)) ∧ (decode cX12_least 37 = .ok (.ifCond .lt 159, 3)) ∧ (decode cX12_least 40 = .ok (.aload_n 0, 1)) ∧ (decode cX12_least 41 = .ok (.getfield 7, 3)) ∧ (decode cX12_least 44 = .ok (.bipush 20, 2)) ∧ (decode cX12_least 46 = .ok (.iconst 4, 1)) ∧ (decode cX12_least 47 = .ok (.iload_n 1, 1)) ∧ (decode cX12_least 48 = .ok (.imul, 1)) ∧ (decode cX12_least 49 = .ok (.iadd, 1)) ∧ (decode cX12_least 50 = .ok (.iconst 1, 1)) ∧ (decode cX12_least 51 = .ok (.iadd, 1)) ∧ (decode cX12_least 52 = .ok (.iload 4, 2)) ∧ (decode cX12_least 54 = .ok (.iastore, 1)) := by decide +kernel
theorem dX12_least_28 : decode cX12_least 28 = .ok (.invokevirtual 386, 3) := bdX12_least_28.1
theorem dX12_least_31 : decode cX12_least 31 = .ok (.bipush 60, 2) := bdX12_least_28.2.1
theorem dX12_least_33 : decode cX12_least 33 = .ok (.istore 4, 2) := bdX12_least_28.2.2.1
theorem dX12_least_35 : decode cX12_least 35 = .ok (.iload 4, 2) := bdX12_least_28.2.2.2.1
theorem dX12_least_37 : decode cX12_least 37 = .ok (.ifCond .lt 159, 3) := bdX12_least_28.2.2.2.2.1
theorem dX12_least_40 : decode cX12_least 40 = .ok (.aload_n 0, 1) := bdX12_least_28.2.2.2.2.2.1
theorem dX12_least_41 : decode cX12_least 41 = .ok (.getfield 7, 3) := bdX12_least_28.2.2.2.2.2.2.1
theorem dX12_least_44 : decode cX12_least 44 = .ok (.bipush 20, 2) := bdX12_least_28.2.2.2.2.2.2.2.1
theorem dX12_least_46 : decode cX12_least 46 = .ok (.iconst 4, 1) := bdX12_least_28.2.2.2.2.2.2.2.2.1
theorem dX12_least_47 : decode cX12_least 47 = .ok (.iload_n 1, 1) := bdX12_least_28.2.2.2.2.2.2.2.2.2.1
theorem dX12_least_48 : decode cX12_least 48 = .ok (.imul, 1) := bdX12_least_28.2.2.2.2.2.2.2.2.2.2.1
theorem dX12_least_49 : decode cX12_least 49 = .ok (.iadd, 1) := bdX12_least_28.2.2.2.2.2.2.2.2.2.2.2.1
theorem dX12_least_50 : decode cX12_least 50 = .ok (.iconst 1, 1) := bdX12_least_28.2.2.2.2.2.2.2.2.2.2.2.2.1
theorem dX12_least_51 : decode cX12_least 51 = .ok (.iadd, 1) := bdX12_least_28.2.2.2.2.2.2.2.2.2.2.2.2.2.1
theorem dX12_least_52 : decode cX12_least 52 = .ok (.iload 4, 2) := bdX12_least_28.2.2.2.2.2.2.2.2.2.2.2.2.2.2.1
theorem dX12_least_54 : decode cX12_least 54 = .ok (.iastore, 1) := bdX12_least_28.2.2.2.2.2.2.2.2.2.2.2.2.2.2.2
theorem bdX12_least_55 : (decode cX12_least 55 = .ok (.iconst 1, 1)) ∧ (decode cX12_least 56 = .ok (.istore 5, 2)) ∧ (decode cX12_least 58 = .ok (.iconst 0, 1)) ∧ (decode cX12_least 59 = .ok (.istore 6, 2)) ∧ (decode cX12_least 61 = .ok (.iload 6, 2)) ∧ (decode cX12_least 63 = .ok (.iload_n 2, 1)) ∧ (decode cX12_least 64 = .ok (.if_icmp .ge 83, 3)) ∧ (decode cX12_least 67 = .ok (.iload 5, 2)) ∧ (decode cX12_least 69 = .ok (.ifCond .eq 78, 3)) ∧ (decode cX12_least 72 = .ok (.aload_n 0, 1)) ∧ (decode cX12_least 73 = .ok (.invokevirtual 380, 3)) ∧ (decode cX12_least 76 = .ok (.aload_n 0, 1)) ∧ (decode cX12_least 77 = .ok (.getfield 7, 3)) ∧ (decode cX12_least 80 = .ok (.bipush 12, 2)) ∧ (decode cX12_least 82 = .ok (.iaload, 1)) ∧ (decode cX12_least 83 = .ok (.aload_n 0, 1)) := by decide +kernel
theorem dX12_least_55 : decode cX12_least 55 = .ok (.iconst 1, 1) := bdX12_least_55.1
theorem dX12_least_56 : decode cX12_least 56 = .ok (.istore 5, 2) := bdX12_least_55.2.1
theorem dX12_least_58 : decode cX12_least 58 = .ok (.iconst 0, 1) := bdX12_least_55.2.2.1
theorem dX12_least_59 : decode cX12_least 59 = .ok (.istore 6, 2) := bdX12_least_55.2.2.2.1
theorem dX12_least_61 : decode cX12_least 61 = .ok (.iload 6, 2) := bdX12_least_55.2.2.2.2.1
theorem dX12_least_63 : decode cX12_least 63 = .ok (.iload_n 2, 1) := bdX12_least_55.2.2.2.2.2.1
theorem dX12_least_64 : decode cX12_least 64 = .ok (.if_icmp .ge 83, 3) := bdX12_least_55.2.2.2.2.2.2.1
theorem dX12_least_67 : decode cX12_least 67 = .ok (.iload 5, 2) := bdX12_least_55.2.2.2.2.2.2.2.1
theorem dX12_least_69 : decode cX12_least 69 = .ok (.ifCond .eq 78, 3) := bdX12_least_55.2.2.2.2.2.2.2.2.1
theorem dX12_least_72 : decode cX12_least 72 = .ok (.aload_n 0, 1) := bdX12_least_55.2.2.2.2.2.2.2.2.2.1
theorem dX12_least_73 : decode cX12_least 73 = .ok (.invokevirtual 380, 3) := bdX12_least_55.2.2.2.2.2.2.2.2.2.2.1
theorem dX12_least_76 : decode cX12_least 76 = .ok (.aload_n 0, 1) := bdX12_least_55.2.2.2.2.2.2.2.2.2.2.2.1
theorem dX12_least_77 : decode cX12_least 77 = .ok (.getfield 7, 3) := bdX12_least_55.2.2.2.2.2.2.2.2.2.2.2.2.1
theorem dX12_least_80 : decode cX12_least 80 = .ok (.bipush 12, 2) := bdX12_least_55.2.2.2.2.2.2.2.2.2.2.2.2.2.1
theorem dX12_least_82 : decode cX12_least 82 = .ok (.iaload, 1) := bdX12_least_55.2.2.2.2.2.2.2.2.2.2.2.2.2.2.1
theorem dX12_least_83 : decode cX12_least 83 = .ok (.aload_n 0, 1) := bdX12_least_55.2.2.2.2.2.2.2.2.2.2.2.2.2.2.2
theorem bdX12_least_84 : (decode cX12_least 84 = .ok (.getfield 16, 3)) ∧ (decode cX12_least 87 = .ok (.bipush 12, 2)) ∧ (decode cX12_least 89 = .ok (.iaload, 1)) ∧ (decode cX12_least 90 = .ok (.if_icmp .ne 7, 3)) ∧ (decode cX12_least 93 = .ok (.iconst 1, 1)) ∧ (decode cX12_least 94 = .ok (.goto 4, 3)) ∧ (decode cX12_least 97 = .ok (.iconst 0, 1)) ∧ (decode cX12_least 98 = .ok (.istore 5, 2)) ∧ (decode cX12_least 100 = .ok (.iconst 0, 1)) ∧ (decode cX12_least 101 = .ok (.istore 7, 2)) ∧ (decode cX12_least 103 = .ok (.iload 7, 2)) ∧ (decode cX12_least 105 = .ok (.aload_n 0, 1)) ∧ (decode cX12_least 106 = .ok (.getfield 7, 3)) ∧ (decode cX12_least 109 = .ok (.iconst 1, 1)) ∧ (decode cX12_least 110 = .ok (.iaload, 1)) ∧ (decode cX12_least 111 = .ok (.if_icmp .ge 30, 3)) := by decide +kernel
theorem dX12_least_84 : decode cX12_least 84 = .ok (.getfield 16, 3) := bdX12_least_84.1
theorem dX12_least_87 : decode cX12_least 87 = .ok (.bipush 12, 2) := bdX12_least_84.2.1
theorem dX12_least_89 : decode cX12_least 89 = .ok (.iaload, 1) := bdX12_least_84.2.2.1
theorem dX12_least_90 : decode cX12_least 90 = .ok (.if_icmp .ne 7, 3) := bdX12_least_84.2.2.2.1
theorem dX12_least_93 : decode cX12_least 93 = .ok (.iconst 1, 1) := bdX12_least_84.2.2.2.2.1
theorem dX12_least_94 : decode cX12_least 94 = .ok (.goto 4, 3) := bdX12_least_84.2.2.2.2.2.1
theorem dX12_least_97 : decode cX12_least 97 = .ok (.iconst 0, 1) := bdX12_least_84.2.2.2.2.2.2.1
theorem dX12_least_98 : decode cX12_least 98 = .ok (.istore 5, 2) := bdX12_least_84.2.2.2.2.2.2.2.1
theorem dX12_least_100 : decode cX12_least 100 = .ok (.iconst 0, 1) := bdX12_least_84.2.2.2.2.2.2.2.2.1
theorem dX12_least_101 : decode cX12_least 101 = .ok (.istore 7, 2) := bdX12_least_84.2.2.2.2.2.2.2.2.2.1
theorem dX12_least_103 : decode cX12_least 103 = .ok (.iload 7, 2) := bdX12_least_84.2.2.2.2.2.2.2.2.2.2.1
theorem dX12_least_105 : decode cX12_least 105 = .ok (.aload_n 0, 1) := bdX12_least_84.2.2.2.2.2.2.2.2.2.2.2.1
theorem dX12_least_106 : decode cX12_least 106 = .ok (.getfield 7, 3) := bdX12_least_84.2.2.2.2.2.2.2.2.2.2.2.2.1
theorem dX12_least_109 : decode cX12_least 109 = .ok (.iconst 1, 1) := bdX12_least_84.2.2.2.2.2.2.2.2.2.2.2.2.2.1
theorem dX12_least_110 : decode cX12_least 110 = .ok (.iaload, 1) := bdX12_least_84.2.2.2.2.2.2.2.2.2.2.2.2.2.2.1
theorem dX12_least_111 : decode cX12_least 111 = .ok (.if_icmp .ge 30, 3) := bdX12_least_84.2.2.2.2.2.2.2.2.2.2.2.2.2.2.2
theorem bdX12_least_114 : (decode cX12_least 114 = .ok (.iload 5, 2)) ∧ (decode cX12_least 116 = .ok (.ifCond .eq 16, 3)) ∧ (decode cX12_least 119 = .ok (.aload_n 0, 1)) ∧ (decode cX12_least 120 = .ok (.iload 7, 2)) ∧ (decode cX12_least 122 = .ok (.invokevirtual 374, 3)) ∧ (decode cX12_least 125 = .ok (.ifCond .ne 7, 3)) ∧ (decode cX12_least 128 = .ok (.iconst 1, 1)) ∧ (decode cX12_least 129 = .ok (.goto 4, 3)) ∧ (decode cX12_least 132 = .ok (.iconst 0, 1)) ∧ (decode cX12_least 133 = .ok (.istore 5, 2)) ∧ (decode cX12_least 135 = .ok (.iinc 7 1, 3)) ∧ (decode cX12_least 138 = .ok (.goto (-35), 3)) ∧ (decode cX12_least 141 = .ok (.iinc 6 1, 3)) ∧ (decode cX12_least 144 = .ok (.goto (-83), 3)) ∧ (decode cX12_least 147 = .ok (.aload_n 0, 1)) ∧ (decode cX12_least 148 = .ok (.iload_n 1, 1)) := by decide +kernel
theorem dX12_least_114 : decode cX12_least 114 = .ok (.iload 5, 2) := bdX12_least_114.1
theorem dX12_least_116 : decode cX12_least 116 = .ok (.ifCond .eq 16, 3) := bdX12_least_114.2.1
theorem dX12_least_119 : decode cX12_least 119 = .ok (.aload_n 0, 1) := bdX12_least_114.2.2.1
theorem dX12_least_120 : decode cX12_least 120 = .ok (.iload 7, 2) := bdX12_least_114.2.2.2.1
theorem dX12_least_122 : decode cX12_least 122 = .ok (.invokevirtual 374, 3) := bdX12_least_114.2.2.2.2.1
theorem dX12_least_125 : decode cX12_least 125 = .ok (.ifCond .ne 7, 3) := bdX12_least_114.2.2.2.2.2.1
theorem dX12_least_128 : decode cX12_least 128 = .ok (.iconst 1, 1) := bdX12_least_114.2.2.2.2.2.2.1
theorem dX12_least_129 : decode cX12_least 129 = .ok (.goto 4, 3) := bdX12_least_114.2.2.2.2.2.2.2.1
theorem dX12_least_132 : decode cX12_least 132 = .ok (.iconst 0, 1) := bdX12_least_114.2.2.2.2.2.2.2.2.1
theorem dX12_least_133 : decode cX12_least 133 = .ok (.istore 5, 2) := bdX12_least_114.2.2.2.2.2.2.2.2.2.1
theorem dX12_least_135 : decode cX12_least 135 = .ok (.iinc 7 1, 3) := bdX12_least_114.2.2.2.2.2.2.2.2.2.2.1
theorem dX12_least_138 : decode cX12_least 138 = .ok (.goto (-35), 3) := bdX12_least_114.2.2.2.2.2.2.2.2.2.2.2.1
theorem dX12_least_141 : decode cX12_least 141 = .ok (.iinc 6 1, 3) := bdX12_least_114.2.2.2.2.2.2.2.2.2.2.2.2.1
theorem dX12_least_144 : decode cX12_least 144 = .ok (.goto (-83), 3) := bdX12_least_114.2.2.2.2.2.2.2.2.2.2.2.2.2.1
theorem dX12_least_147 : decode cX12_least 147 = .ok (.aload_n 0, 1) := bdX12_least_114.2.2.2.2.2.2.2.2.2.2.2.2.2.2.1
theorem dX12_least_148 : decode cX12_least 148 = .ok (.iload_n 1, 1) := bdX12_least_114.2.2.2.2.2.2.2.2.2.2.2.2.2.2.2
theorem bdX12_least_149 : (decode cX12_least 149 = .ok (.iconst 2, 1)) ∧ (decode cX12_least 150 = .ok (.invokevirtual 295, 3)) ∧ (decode cX12_least 153 = .ok (.aload_n 0, 1)) ∧ (decode cX12_least 154 = .ok (.getfield 16, 3)) ∧ (decode cX12_least 157 = .ok (.bipush 20, 2)) ∧ (decode cX12_least 159 = .ok (.iconst 4, 1)) ∧ (decode cX12_least 160 = .ok (.iload_n 1, 1)) ∧ (decode cX12_least 161 = .ok (.imul, 1)) ∧ (decode cX12_least 162 = .ok (.iadd, 1)) ∧ (decode cX12_least 163 = .ok (.iconst 2, 1)) ∧ (decode cX12_least 164 = .ok (.iadd, 1)) ∧ (decode cX12_least 165 = .ok (.iaload, 1)) ∧ (decode cX12_least 166 = .ok (.isub, 1)) ∧ (decode cX12_least 167 = .ok (.istore 6, 2)) ∧ (decode cX12_least 169 = .ok (.aload_n 0, 1)) ∧ (decode cX12_least 170 = .ok (.invokevirtual 395, 3)) := by decide +kernel
theorem dX12_least_149 : decode cX12_least 149 = .ok (.iconst 2, 1) := bdX12_least_149.1
theorem dX12_least_150 : decode cX12_least 150 = .ok (.invokevirtual 295, 3) := bdX12_least_149.2.1
theorem dX12_least_153 : decode cX12_least 153 = .ok (.aload_n 0, 1) := bdX12_least_149.2.2.1
theorem dX12_least_154 : decode cX12_least 154 = .ok (.getfield 16, 3) := bdX12_least_149.2.2.2.1
theorem dX12_least_157 : decode cX12_least 157 = .ok (.bipush 20, 2) := bdX12_least_149.2.2.2.2.1
theorem dX12_least_159 : decode cX12_least 159 = .ok (.iconst 4, 1) := bdX12_least_149.2.2.2.2.2.1
theorem dX12_least_160 : decode cX12_least 160 = .ok (.iload_n 1, 1) := bdX12_least_149.2.2.2.2.2.2.1
theorem dX12_least_161 : decode cX12_least 161 = .ok (.imul, 1) := bdX12_least_149.2.2.2.2.2.2.2.1
theorem dX12_least_162 : decode cX12_least 162 = .ok (.iadd, 1) := bdX12_least_149.2.2.2.2.2.2.2.2.1
theorem dX12_least_163 : decode cX12_least 163 = .ok (.iconst 2, 1) := bdX12_least_149.2.2.2.2.2.2.2.2.2.1
theorem dX12_least_164 : decode cX12_least 164 = .ok (.iadd, 1) := bdX12_least_149.2.2.2.2.2.2.2.2.2.2.1
theorem dX12_least_165 : decode cX12_least 165 = .ok (.iaload, 1) := bdX12_least_149.2.2.2.2.2.2.2.2.2.2.2.1
theorem dX12_least_166 : decode cX12_least 166 = .ok (.isub, 1) := bdX12_least_149.2.2.2.2.2.2.2.2.2.2.2.2.1
theorem dX12_least_167 : decode cX12_least 167 = .ok (.istore 6, 2) := bdX12_least_149.2.2.2.2.2.2.2.2.2.2.2.2.2.1
theorem dX12_least_169 : decode cX12_least 169 = .ok (.aload_n 0, 1) := bdX12_least_149.2.2.2.2.2.2.2.2.2.2.2.2.2.2.1
theorem dX12_least_170 : decode cX12_least 170 = .ok (.invokevirtual 395, 3) := bdX12_least_149.2.2.2.2.2.2.2.2.2.2.2.2.2.2.2
theorem bdX12_least_173 : (decode cX12_least 173 = .ok (.iload 5, 2)) ∧ (decode cX12_least 175 = .ok (.ifCond .eq 15, 3)) ∧ (decode cX12_least 178 = .ok (.iload_n 3, 1)) ∧ (decode cX12_least 179 = .ok (.ifCond .ne 8, 3)) ∧ (decode cX12_least 182 = .ok (.iload 4, 2)) ∧ (decode cX12_least 184 = .ok (.goto 5, 3)) ∧ (decode cX12_least 187 = .ok (.iload 6, 2)) ∧ (decode cX12_least 189 = .ok (.ireturn, 1)) ∧ (decode cX12_least 190 = .ok (.iinc 4 (-1), 3)) ∧ (decode cX12_least 193 = .ok (.goto (-158), 3)) ∧ (decode cX12_least 196 = .ok (.iconst (-1), 1)) ∧ (decode cX12_least 197 = .ok (.ireturn, 1)) := by decide +kernel
theorem dX12_least_173 : decode cX12_least 173 = .ok (.iload 5, 2) := bdX12_least_173.1
theorem dX12_least_175 : decode cX12_least 175 = .ok (.ifCond .eq 15, 3) := bdX12_least_173.2.1
theorem dX12_least_178 : decode cX12_least 178 = .ok (.iload_n 3, 1) := bdX12_least_173.2.2.1
theorem dX12_least_179 : decode cX12_least 179 = .ok (.ifCond .ne 8, 3) := bdX12_least_173.2.2.2.1
theorem dX12_least_182 : decode cX12_least 182 = .ok (.iload 4, 2) := bdX12_least_173.2.2.2.2.1
theorem dX12_least_184 : decode cX12_least 184 = .ok (.goto 5, 3) := bdX12_least_173.2.2.2.2.2.1
theorem dX12_least_187 : decode cX12_least 187 = .ok (.iload 6, 2) := bdX12_least_173.2.2.2.2.2.2.1
theorem dX12_least_189 : decode cX12_least 189 = .ok (.ireturn, 1) := bdX12_least_173.2.2.2.2.2.2.2.1
theorem dX12_least_190 : decode cX12_least 190 = .ok (.iinc 4 (-1), 3) := bdX12_least_173.2.2.2.2.2.2.2.2.1
theorem dX12_least_193 : decode cX12_least 193 = .ok (.goto (-158), 3) := bdX12_least_173.2.2.2.2.2.2.2.2.2.1
theorem dX12_least_196 : decode cX12_least 196 = .ok (.iconst (-1), 1) := bdX12_least_173.2.2.2.2.2.2.2.2.2.2.1
theorem dX12_least_197 : decode cX12_least 197 = .ok (.ireturn, 1) := bdX12_least_173.2.2.2.2.2.2.2.2.2.2.2
theorem bdX11_felt_0 : (decode cX11_felt 0 = .ok (.aload_n 0, 1)) ∧ (decode cX11_felt 1 = .ok (.iload_n 2, 1)) ∧ (decode cX11_felt 2 = .ok (.invokevirtual 159, 3)) ∧ (decode cX11_felt 5 = .ok (.ifCond .eq 14, 3)) ∧ (decode cX11_felt 8 = .ok (.aload_n 0, 1)) ∧ (decode cX11_felt 9 = .ok (.getfield 10, 3)) ∧ (decode cX11_felt 12 = .ok (.iload_n 1, 1)) ∧ (decode cX11_felt 13 = .ok (.invokevirtual 90, 3)) ∧ (decode cX11_felt 16 = .ok (.ifCond .ne 5, 3)) ∧ (decode cX11_felt 19 = .ok (.iconst (-1), 1)) ∧ (decode cX11_felt 20 = .ok (.ireturn, 1)) ∧ (decode cX11_felt 21 = .ok (.aload_n 0, 1)) ∧ (decode cX11_felt 22 = .ok (.invokevirtual 246, 3)) ∧ (decode cX11_felt 25 = .ok (.astore_n 3, 1)) ∧ (decode cX11_felt 26 = .ok (.aload_n 0, 1)) ∧ (decode cX11_felt 27 = .ok (.getfield 19, 3)) := by decide +kernel
theorem dX11_felt_0 : decode cX11_felt 0 = .ok (.aload_n 0, 1) := bdX11_felt_0.1
theorem dX11_felt_1 : decode cX11_felt 1 = .ok (.iload_n 2, 1) := bdX11_felt_0.2.1
theorem dX11_felt_2 : decode cX11_felt 2 = .ok (.invokevirtual 159, 3) := bdX11_felt_0.2.2.1
theorem dX11_felt_5 : decode cX11_felt 5 = .ok (.ifCond .eq 14, 3) := bdX11_felt_0.2.2.2.1
theorem dX11_felt_8 : decode cX11_felt 8 = .ok (.aload_n 0, 1) := bdX11_felt_0.2.2.2.2.1
theorem dX11_felt_9 : decode cX11_felt 9 = .ok (.getfield 10, 3) := bdX11_felt_0.2.2.2.2.2.1
theorem dX11_felt_12 : decode cX11_felt 12 = .ok (.iload_n 1, 1) := bdX11_felt_0.2.2.2.2.2.2.1
theorem dX11_felt_13 : decode cX11_felt 13 = .ok (.invokevirtual 90, 3) := bdX11_felt_0.2.2.2.2.2.2.2.1
theorem dX11_felt_16 : decode cX11_felt 16 = .ok (.ifCond .ne 5, 3) := bdX11_felt_0.2.2.2.2.2.2.2.2.1
theorem dX11_felt_19 : decode cX11_felt 19 = .ok (.iconst (-1), 1) := bdX11_felt_0.2.2.2.2.2.2.2.2.2.1
theorem dX11_felt_20 : decode cX11_felt 20 = .ok (.ireturn, 1) := bdX11_felt_0.2.2.2.2.2.2.2.2.2.2.1
theorem dX11_felt_21 : decode cX11_felt 21 = .ok (.aload_n 0, 1) := bdX11_felt_0.2.2.2.2.2.2.2.2.2.2.2.1
theorem dX11_felt_22 : decode cX11_felt 22 = .ok (.invokevirtual 246, 3) := bdX11_felt_0.2.2.2.2.2.2.2.2.2.2.2.2.1
theorem dX11_felt_25 : decode cX11_felt 25 = .ok (.astore_n 3, 1) := bdX11_felt_0.2.2.2.2.2.2.2.2.2.2.2.2.2.1
theorem dX11_felt_26 : decode cX11_felt 26 = .ok (.aload_n 0, 1) := bdX11_felt_0.2.2.2.2.2.2.2.2.2.2.2.2.2.2.1
theorem dX11_felt_27 : decode cX11_felt 27 = .ok (.getfield 19, 3) := bdX11_felt_0.2.2.2.2.2.2.2.2.2.2.2.2.2.2.2
theorem bdX11_felt_30 : (decode cX11_felt 30 = .ok (.getfield 75, 3)) ∧ (decode cX11_felt 33 = .ok (.iload_n 1, 1)) ∧ (decode cX11_felt 34 = .ok (.aaload, 1)) ∧ (decode cX11_felt 35 = .ok (.invokevirtual 249, 3)) ∧ (decode cX11_felt 38 = .ok (.istore 4, 2)) ∧ (decode cX11_felt 40 = .ok (.aload_n 0, 1)) ∧ (decode cX11_felt 41 = .ok (.getfield 19, 3)) ∧ (decode cX11_felt 44 = .ok (.getfield 75, 3)) ∧ (decode cX11_felt 47 = .ok (.iload_n 1, 1)) ∧ (decode cX11_felt 48 = .ok (.aaload, 1)) ∧ (decode cX11_felt 49 = .ok (.iconst 0, 1)) ∧ (decode cX11_felt 50 = .ok (.invokevirtual 87, 3)) ∧ (decode cX11_felt 53 = .ok (.iconst 0, 1)) ∧ (decode cX11_felt 54 = .ok (.istore 5, 2)) ∧ (decode cX11_felt 56 = .ok (.iload 5, 2)) ∧ (decode cX11_felt 58 = .ok (.iload_n 2, 1)) := by decide +kernel
theorem dX11_felt_30 : decode cX11_felt 30 = .ok (.getfield 75, 3) := bdX11_felt_30.1
theorem dX11_felt_33 : decode cX11_felt 33 = .ok (.iload_n 1, 1) := bdX11_felt_30.2.1
theorem dX11_felt_34 : decode cX11_felt 34 = .ok (.aaload, 1) := bdX11_felt_30.2.2.1
theorem dX11_felt_35 : decode cX11_felt 35 = .ok (.invokevirtual 249, 3) := bdX11_felt_30.2.2.2.1
theorem dX11_felt_38 : decode cX11_felt 38 = .ok (.istore 4, 2) := bdX11_felt_30.2.2.2.2.1
theorem dX11_felt_40 : decode cX11_felt 40 = .ok (.aload_n 0, 1) := bdX11_felt_30.2.2.2.2.2.1
theorem dX11_felt_41 : decode cX11_felt 41 = .ok (.getfield 19, 3) := bdX11_felt_30.2.2.2.2.2.2.1
theorem dX11_felt_44 : decode cX11_felt 44 = .ok (.getfield 75, 3) := bdX11_felt_30.2.2.2.2.2.2.2.1
theorem dX11_felt_47 : decode cX11_felt 47 = .ok (.iload_n 1, 1) := bdX11_felt_30.2.2.2.2.2.2.2.2.1
theorem dX11_felt_48 : decode cX11_felt 48 = .ok (.aaload, 1) := bdX11_felt_30.2.2.2.2.2.2.2.2.2.1
theorem dX11_felt_49 : decode cX11_felt 49 = .ok (.iconst 0, 1) := bdX11_felt_30.2.2.2.2.2.2.2.2.2.2.1
theorem dX11_felt_50 : decode cX11_felt 50 = .ok (.invokevirtual 87, 3) := bdX11_felt_30.2.2.2.2.2.2.2.2.2.2.2.1
theorem dX11_felt_53 : decode cX11_felt 53 = .ok (.iconst 0, 1) := bdX11_felt_30.2.2.2.2.2.2.2.2.2.2.2.2.1
theorem dX11_felt_54 : decode cX11_felt 54 = .ok (.istore 5, 2) := bdX11_felt_30.2.2.2.2.2.2.2.2.2.2.2.2.2.1
theorem dX11_felt_56 : decode cX11_felt 56 = .ok (.iload 5, 2) := bdX11_felt_30.2.2.2.2.2.2.2.2.2.2.2.2.2.2.1
theorem dX11_felt_58 : decode cX11_felt 58 = .ok (.iload_n 2, 1) := bdX11_felt_30.2.2.2.2.2.2.2.2.2.2.2.2.2.2.2
theorem bdX11_felt_59 : (decode cX11_felt 59 = .ok (.if_icmp .ge 52, 3)) ∧ (decode cX11_felt 62 = .ok (.aload_n 0, 1)) ∧ (decode cX11_felt 63 = .ok (.getfield 25, 3)) ∧ (decode cX11_felt 66 = .ok (.aload_n 0, 1)) ∧ (decode cX11_felt 67 = .ok (.getfield 19, 3)) ∧ (decode cX11_felt 70 = .ok (.aload_n 3, 1)) ∧ (decode cX11_felt 71 = .ok (.invokevirtual 169, 3)) ∧ (decode cX11_felt 74 = .ok (.aload_n 0, 1)) ∧ (decode cX11_felt 75 = .ok (.getfield 19, 3)) ∧ (decode cX11_felt 78 = .ok (.iload 4, 2)) ∧ (decode cX11_felt 80 = .ok (.invokevirtual 65, 3)) ∧ (decode cX11_felt 83 = .ok (.ifCond .eq 22, 3)) ∧ (decode cX11_felt 86 = .ok (.aload_n 0, 1)) ∧ (decode cX11_felt 87 = .ok (.getfield 19, 3)) ∧ (decode cX11_felt 90 = .ok (.getfield 55, 3)) ∧ (decode cX11_felt 93 = .ok (.iload 4, 2)) := by decide +kernel
theorem dX11_felt_59 : decode cX11_felt 59 = .ok (.if_icmp .ge 52, 3) := bdX11_felt_59.1
theorem dX11_felt_62 : decode cX11_felt 62 = .ok (.aload_n 0, 1) := bdX11_felt_59.2.1
theorem dX11_felt_63 : decode cX11_felt 63 = .ok (.getfield 25, 3) := bdX11_felt_59.2.2.1
theorem dX11_felt_66 : decode cX11_felt 66 = .ok (.aload_n 0, 1) := bdX11_felt_59.2.2.2.1
theorem dX11_felt_67 : decode cX11_felt 67 = .ok (.getfield 19, 3) := bdX11_felt_59.2.2.2.2.1
theorem dX11_felt_70 : decode cX11_felt 70 = .ok (.aload_n 3, 1) := bdX11_felt_59.2.2.2.2.2.1
theorem dX11_felt_71 : decode cX11_felt 71 = .ok (.invokevirtual 169, 3) := bdX11_felt_59.2.2.2.2.2.2.1
theorem dX11_felt_74 : decode cX11_felt 74 = .ok (.aload_n 0, 1) := bdX11_felt_59.2.2.2.2.2.2.2.1
theorem dX11_felt_75 : decode cX11_felt 75 = .ok (.getfield 19, 3) := bdX11_felt_59.2.2.2.2.2.2.2.2.1
theorem dX11_felt_78 : decode cX11_felt 78 = .ok (.iload 4, 2) := bdX11_felt_59.2.2.2.2.2.2.2.2.2.1
theorem dX11_felt_80 : decode cX11_felt 80 = .ok (.invokevirtual 65, 3) := bdX11_felt_59.2.2.2.2.2.2.2.2.2.2.1
theorem dX11_felt_83 : decode cX11_felt 83 = .ok (.ifCond .eq 22, 3) := bdX11_felt_59.2.2.2.2.2.2.2.2.2.2.2.1
theorem dX11_felt_86 : decode cX11_felt 86 = .ok (.aload_n 0, 1) := bdX11_felt_59.2.2.2.2.2.2.2.2.2.2.2.2.1
theorem dX11_felt_87 : decode cX11_felt 87 = .ok (.getfield 19, 3) := bdX11_felt_59.2.2.2.2.2.2.2.2.2.2.2.2.2.1
theorem dX11_felt_90 : decode cX11_felt 90 = .ok (.getfield 55, 3) := bdX11_felt_59.2.2.2.2.2.2.2.2.2.2.2.2.2.2.1
theorem dX11_felt_93 : decode cX11_felt 93 = .ok (.iload 4, 2) := bdX11_felt_59.2.2.2.2.2.2.2.2.2.2.2.2.2.2.2
theorem bdX11_felt_95 : (decode cX11_felt 95 = .ok (.aaload, 1)) ∧ (decode cX11_felt 96 = .ok (.invokevirtual 253, 3)) ∧ (decode cX11_felt 99 = .ok (.ifCond .eq 6, 3)) ∧ (decode cX11_felt 102 = .ok (.iload 5, 2)) ∧ (decode cX11_felt 104 = .ok (.ireturn, 1)) ∧ (decode cX11_felt 105 = .ok (.iinc 5 1, 3)) ∧ (decode cX11_felt 108 = .ok (.goto (-52), 3)) ∧ (decode cX11_felt 111 = .ok (.iconst (-1), 1)) ∧ (decode cX11_felt 112 = .ok (.ireturn, 1)) := by decide +kernel
theorem dX11_felt_95 : decode cX11_felt 95 = .ok (.aaload, 1) := bdX11_felt_95.1
theorem dX11_felt_96 : decode cX11_felt 96 = .ok (.invokevirtual 253, 3) := bdX11_felt_95.2.1
theorem dX11_felt_99 : decode cX11_felt 99 = .ok (.ifCond .eq 6, 3) := bdX11_felt_95.2.2.1
theorem dX11_felt_102 : decode cX11_felt 102 = .ok (.iload 5, 2) := bdX11_felt_95.2.2.2.1
theorem dX11_felt_104 : decode cX11_felt 104 = .ok (.ireturn, 1) := bdX11_felt_95.2.2.2.2.1
theorem dX11_felt_105 : decode cX11_felt 105 = .ok (.iinc 5 1, 3) := bdX11_felt_95.2.2.2.2.2.1
theorem dX11_felt_108 : decode cX11_felt 108 = .ok (.goto (-52), 3) := bdX11_felt_95.2.2.2.2.2.2.1
theorem dX11_felt_111 : decode cX11_felt 111 = .ok (.iconst (-1), 1) := bdX11_felt_95.2.2.2.2.2.2.2.1
theorem dX11_felt_112 : decode cX11_felt 112 = .ok (.ireturn, 1) := bdX11_felt_95.2.2.2.2.2.2.2.2
theorem bdX12_isStair_0 : (decode cX12_isStair 0 = .ok (.aload_n 0, 1)) ∧ (decode cX12_isStair 1 = .ok (.iload_n 1, 1)) ∧ (decode cX12_isStair 2 = .ok (.invokevirtual 99, 3)) ∧ (decode cX12_isStair 5 = .ok (.ifCond .eq 16, 3)) ∧ (decode cX12_isStair 8 = .ok (.aload_n 0, 1)) ∧ (decode cX12_isStair 9 = .ok (.iload_n 1, 1)) ∧ (decode cX12_isStair 10 = .ok (.iconst 0, 1)) ∧ (decode cX12_isStair 11 = .ok (.invokevirtual 103, 3)) ∧ (decode cX12_isStair 14 = .ok (.ifCond .ne 7, 3)) ∧ (decode cX12_isStair 17 = .ok (.iconst 1, 1)) ∧ (decode cX12_isStair 18 = .ok (.goto 4, 3)) ∧ (decode cX12_isStair 21 = .ok (.iconst 0, 1)) ∧ (decode cX12_isStair 22 = .ok (.ireturn, 1)) := by decide +kernel
theorem dX12_isStair_0 : decode cX12_isStair 0 = .ok (.aload_n 0, 1) := bdX12_isStair_0.1
theorem dX12_isStair_1 : decode cX12_isStair 1 = .ok (.iload_n 1, 1) := bdX12_isStair_0.2.1
theorem dX12_isStair_2 : decode cX12_isStair 2 = .ok (.invokevirtual 99, 3) := bdX12_isStair_0.2.2.1
theorem dX12_isStair_5 : decode cX12_isStair 5 = .ok (.ifCond .eq 16, 3) := bdX12_isStair_0.2.2.2.1
theorem dX12_isStair_8 : decode cX12_isStair 8 = .ok (.aload_n 0, 1) := bdX12_isStair_0.2.2.2.2.1
theorem dX12_isStair_9 : decode cX12_isStair 9 = .ok (.iload_n 1, 1) := bdX12_isStair_0.2.2.2.2.2.1
theorem dX12_isStair_10 : decode cX12_isStair 10 = .ok (.iconst 0, 1) := bdX12_isStair_0.2.2.2.2.2.2.1
theorem dX12_isStair_11 : decode cX12_isStair 11 = .ok (.invokevirtual 103, 3) := bdX12_isStair_0.2.2.2.2.2.2.2.1
theorem dX12_isStair_14 : decode cX12_isStair 14 = .ok (.ifCond .ne 7, 3) := bdX12_isStair_0.2.2.2.2.2.2.2.2.1
theorem dX12_isStair_17 : decode cX12_isStair 17 = .ok (.iconst 1, 1) := bdX12_isStair_0.2.2.2.2.2.2.2.2.2.1
theorem dX12_isStair_18 : decode cX12_isStair 18 = .ok (.goto 4, 3) := bdX12_isStair_0.2.2.2.2.2.2.2.2.2.2.1
theorem dX12_isStair_21 : decode cX12_isStair 21 = .ok (.iconst 0, 1) := bdX12_isStair_0.2.2.2.2.2.2.2.2.2.2.2.1
theorem dX12_isStair_22 : decode cX12_isStair 22 = .ok (.ireturn, 1) := bdX12_isStair_0.2.2.2.2.2.2.2.2.2.2.2.2
theorem bdX12_felt_0 : (decode cX12_felt 0 = .ok (.aload_n 0, 1)) ∧ (decode cX12_felt 1 = .ok (.iload_n 1, 1)) ∧ (decode cX12_felt 2 = .ok (.invokevirtual 398, 3)) ∧ (decode cX12_felt 5 = .ok (.ifCond .eq 11, 3)) ∧ (decode cX12_felt 8 = .ok (.aload_n 0, 1)) ∧ (decode cX12_felt 9 = .ok (.iload_n 2, 1)) ∧ (decode cX12_felt 10 = .ok (.invokevirtual 377, 3)) ∧ (decode cX12_felt 13 = .ok (.ifCond .ne 5, 3)) ∧ (decode cX12_felt 16 = .ok (.iconst (-1), 1)) ∧ (decode cX12_felt 17 = .ok (.ireturn, 1)) ∧ (decode cX12_felt 18 = .ok (.aload_n 0, 1)) ∧ (decode cX12_felt 19 = .ok (.invokevirtual 386, 3)) ∧ (decode cX12_felt 22 = .ok (.aload_n 0, 1)) ∧ (decode cX12_felt 23 = .ok (.iload_n 1, 1)) ∧ (decode cX12_felt 24 = .ok (.invokevirtual 304, 3)) ∧ (decode cX12_felt 27 = .ok (.istore_n 3, 1)) := by decide +kernel
theorem dX12_felt_0 : decode cX12_felt 0 = .ok (.aload_n 0, 1) := bdX12_felt_0.1
theorem dX12_felt_1 : decode cX12_felt 1 = .ok (.iload_n 1, 1) := bdX12_felt_0.2.1
theorem dX12_felt_2 : decode cX12_felt 2 = .ok (.invokevirtual 398, 3) := bdX12_felt_0.2.2.1
theorem dX12_felt_5 : decode cX12_felt 5 = .ok (.ifCond .eq 11, 3) := bdX12_felt_0.2.2.2.1
theorem dX12_felt_8 : decode cX12_felt 8 = .ok (.aload_n 0, 1) := bdX12_felt_0.2.2.2.2.1
theorem dX12_felt_9 : decode cX12_felt 9 = .ok (.iload_n 2, 1) := bdX12_felt_0.2.2.2.2.2.1
theorem dX12_felt_10 : decode cX12_felt 10 = .ok (.invokevirtual 377, 3) := bdX12_felt_0.2.2.2.2.2.2.1
theorem dX12_felt_13 : decode cX12_felt 13 = .ok (.ifCond .ne 5, 3) := bdX12_felt_0.2.2.2.2.2.2.2.1
theorem dX12_felt_16 : decode cX12_felt 16 = .ok (.iconst (-1), 1) := bdX12_felt_0.2.2.2.2.2.2.2.2.1
theorem dX12_felt_17 : decode cX12_felt 17 = .ok (.ireturn, 1) := bdX12_felt_0.2.2.2.2.2.2.2.2.2.1
theorem dX12_felt_18 : decode cX12_felt 18 = .ok (.aload_n 0, 1) := bdX12_felt_0.2.2.2.2.2.2.2.2.2.2.1
theorem dX12_felt_19 : decode cX12_felt 19 = .ok (.invokevirtual 386, 3) := bdX12_felt_0.2.2.2.2.2.2.2.2.2.2.2.1
theorem dX12_felt_22 : decode cX12_felt 22 = .ok (.aload_n 0, 1) := bdX12_felt_0.2.2.2.2.2.2.2.2.2.2.2.2.1
theorem dX12_felt_23 : decode cX12_felt 23 = .ok (.iload_n 1, 1) := bdX12_felt_0.2.2.2.2.2.2.2.2.2.2.2.2.2.1
theorem dX12_felt_24 : decode cX12_felt 24 = .ok (.invokevirtual 304, 3) := bdX12_felt_0.2.2.2.2.2.2.2.2.2.2.2.2.2.2.1
theorem dX12_felt_27 : decode cX12_felt 27 = .ok (.istore_n 3, 1) := bdX12_felt_0.2.2.2.2.2.2.2.2.2.2.2.2.2.2.2
theorem bdX12_felt_28 : (decode cX12_felt 28 = .ok (.aload_n 0, 1)) ∧ (decode cX12_felt 29 = .ok (.iload_n 1, 1)) ∧ (decode cX12_felt 30 = .ok (.iconst 0, 1)) ∧ (decode cX12_felt 31 = .ok (.invokevirtual 389, 3)) ∧ (decode cX12_felt 34 = .ok (.istore 4, 2)) ∧ (decode cX12_felt 36 = .ok (.iconst (-1), 1)) ∧ (decode cX12_felt 37 = .ok (.istore 5, 2)) ∧ (decode cX12_felt 39 = .ok (.iconst 0, 1)) ∧ (decode cX12_felt 40 = .ok (.istore 6, 2)) ∧ (decode cX12_felt 42 = .ok (.iload 6, 2)) ∧ (decode cX12_felt 44 = .ok (.iload_n 2, 1)) ∧ (decode cX12_felt 45 = .ok (.if_icmp .ge 35, 3)) ∧ (decode cX12_felt 48 = .ok (.iload 5, 2)) ∧ (decode cX12_felt 50 = .ok (.iconst (-1), 1)) ∧ (decode cX12_felt 51 = .ok (.if_icmp .ne 29, 3)) ∧ (decode cX12_felt 54 = .ok (.aload_n 0, 1)) := by decide +kernel
theorem dX12_felt_28 : decode cX12_felt 28 = .ok (.aload_n 0, 1) := bdX12_felt_28.1
theorem dX12_felt_29 : decode cX12_felt 29 = .ok (.iload_n 1, 1) := bdX12_felt_28.2.1
theorem dX12_felt_30 : decode cX12_felt 30 = .ok (.iconst 0, 1) := bdX12_felt_28.2.2.1
theorem dX12_felt_31 : decode cX12_felt 31 = .ok (.invokevirtual 389, 3) := bdX12_felt_28.2.2.2.1
theorem dX12_felt_34 : decode cX12_felt 34 = .ok (.istore 4, 2) := bdX12_felt_28.2.2.2.2.1
theorem dX12_felt_36 : decode cX12_felt 36 = .ok (.iconst (-1), 1) := bdX12_felt_28.2.2.2.2.2.1
theorem dX12_felt_37 : decode cX12_felt 37 = .ok (.istore 5, 2) := bdX12_felt_28.2.2.2.2.2.2.1
theorem dX12_felt_39 : decode cX12_felt 39 = .ok (.iconst 0, 1) := bdX12_felt_28.2.2.2.2.2.2.2.1
theorem dX12_felt_40 : decode cX12_felt 40 = .ok (.istore 6, 2) := bdX12_felt_28.2.2.2.2.2.2.2.2.1
theorem dX12_felt_42 : decode cX12_felt 42 = .ok (.iload 6, 2) := bdX12_felt_28.2.2.2.2.2.2.2.2.2.1
theorem dX12_felt_44 : decode cX12_felt 44 = .ok (.iload_n 2, 1) := bdX12_felt_28.2.2.2.2.2.2.2.2.2.2.1
theorem dX12_felt_45 : decode cX12_felt 45 = .ok (.if_icmp .ge 35, 3) := bdX12_felt_28.2.2.2.2.2.2.2.2.2.2.2.1
theorem dX12_felt_48 : decode cX12_felt 48 = .ok (.iload 5, 2) := bdX12_felt_28.2.2.2.2.2.2.2.2.2.2.2.2.1
theorem dX12_felt_50 : decode cX12_felt 50 = .ok (.iconst (-1), 1) := bdX12_felt_28.2.2.2.2.2.2.2.2.2.2.2.2.2.1
theorem dX12_felt_51 : decode cX12_felt 51 = .ok (.if_icmp .ne 29, 3) := bdX12_felt_28.2.2.2.2.2.2.2.2.2.2.2.2.2.2.1
theorem dX12_felt_54 : decode cX12_felt 54 = .ok (.aload_n 0, 1) := bdX12_felt_28.2.2.2.2.2.2.2.2.2.2.2.2.2.2.2
theorem bdX12_felt_55 : (decode cX12_felt 55 = .ok (.invokevirtual 380, 3)) ∧ (decode cX12_felt 58 = .ok (.aload_n 0, 1)) ∧ (decode cX12_felt 59 = .ok (.iload_n 3, 1)) ∧ (decode cX12_felt 60 = .ok (.invokevirtual 374, 3)) ∧ (decode cX12_felt 63 = .ok (.ifCond .eq 8, 3)) ∧ (decode cX12_felt 66 = .ok (.iload 6, 2)) ∧ (decode cX12_felt 68 = .ok (.goto 4, 3)) ∧ (decode cX12_felt 71 = .ok (.iconst (-1), 1)) ∧ (decode cX12_felt 72 = .ok (.istore 5, 2)) ∧ (decode cX12_felt 74 = .ok (.iinc 6 1, 3)) ∧ (decode cX12_felt 77 = .ok (.goto (-35), 3)) ∧ (decode cX12_felt 80 = .ok (.aload_n 0, 1)) ∧ (decode cX12_felt 81 = .ok (.invokevirtual 395, 3)) ∧ (decode cX12_felt 84 = .ok (.iload 5, 2)) ∧ (decode cX12_felt 86 = .ok (.ireturn, 1)) := by decide +kernel
theorem dX12_felt_55 : decode cX12_felt 55 = .ok (.invokevirtual 380, 3) := bdX12_felt_55.1
theorem dX12_felt_58 : decode cX12_felt 58 = .ok (.aload_n 0, 1) := bdX12_felt_55.2.1
theorem dX12_felt_59 : decode cX12_felt 59 = .ok (.iload_n 3, 1) := bdX12_felt_55.2.2.1
theorem dX12_felt_60 : decode cX12_felt 60 = .ok (.invokevirtual 374, 3) := bdX12_felt_55.2.2.2.1
theorem dX12_felt_63 : decode cX12_felt 63 = .ok (.ifCond .eq 8, 3) := bdX12_felt_55.2.2.2.2.1
theorem dX12_felt_66 : decode cX12_felt 66 = .ok (.iload 6, 2) := bdX12_felt_55.2.2.2.2.2.1
theorem dX12_felt_68 : decode cX12_felt 68 = .ok (.goto 4, 3) := bdX12_felt_55.2.2.2.2.2.2.1
theorem dX12_felt_71 : decode cX12_felt 71 = .ok (.iconst (-1), 1) := bdX12_felt_55.2.2.2.2.2.2.2.1
theorem dX12_felt_72 : decode cX12_felt 72 = .ok (.istore 5, 2) := bdX12_felt_55.2.2.2.2.2.2.2.2.1
theorem dX12_felt_74 : decode cX12_felt 74 = .ok (.iinc 6 1, 3) := bdX12_felt_55.2.2.2.2.2.2.2.2.2.1
theorem dX12_felt_77 : decode cX12_felt 77 = .ok (.goto (-35), 3) := bdX12_felt_55.2.2.2.2.2.2.2.2.2.2.1
theorem dX12_felt_80 : decode cX12_felt 80 = .ok (.aload_n 0, 1) := bdX12_felt_55.2.2.2.2.2.2.2.2.2.2.2.1
theorem dX12_felt_81 : decode cX12_felt 81 = .ok (.invokevirtual 395, 3) := bdX12_felt_55.2.2.2.2.2.2.2.2.2.2.2.2.1
theorem dX12_felt_84 : decode cX12_felt 84 = .ok (.iload 5, 2) := bdX12_felt_55.2.2.2.2.2.2.2.2.2.2.2.2.2.1
theorem dX12_felt_86 : decode cX12_felt 86 = .ok (.ireturn, 1) := bdX12_felt_55.2.2.2.2.2.2.2.2.2.2.2.2.2.2
theorem bdX11_offByMode_0 : (decode cX11_offByMode 0 = .ok (.iload_n 1, 1)) ∧ (decode cX11_offByMode 1 = .ok (.iconst 0, 1)) ∧ (decode cX11_offByMode 2 = .ok (.bipush 9, 2)) ∧ (decode cX11_offByMode 4 = .ok (.invokestatic 47, 3)) ∧ (decode cX11_offByMode 7 = .ok (.ifCond .ne 5, 3)) ∧ (decode cX11_offByMode 10 = .ok (.iconst 0, 1)) ∧ (decode cX11_offByMode 11 = .ok (.ireturn, 1)) ∧ (decode cX11_offByMode 12 = .ok (.aload_n 0, 1)) ∧ (decode cX11_offByMode 13 = .ok (.invokevirtual 246, 3)) ∧ (decode cX11_offByMode 16 = .ok (.astore 4, 2)) ∧ (decode cX11_offByMode 18 = .ok (.aload_n 0, 1)) ∧ (decode cX11_offByMode 19 = .ok (.getfield 19, 3)) ∧ (decode cX11_offByMode 22 = .ok (.getfield 75, 3)) ∧ (decode cX11_offByMode 25 = .ok (.iload_n 1, 1)) ∧ (decode cX11_offByMode 26 = .ok (.aaload, 1)) ∧ (decode cX11_offByMode 27 = .ok (.iload_n 2, 1)) := by decide +kernel
theorem dX11_offByMode_0 : decode cX11_offByMode 0 = .ok (.iload_n 1, 1) := bdX11_offByMode_0.1
theorem dX11_offByMode_1 : decode cX11_offByMode 1 = .ok (.iconst 0, 1) := bdX11_offByMode_0.2.1
theorem dX11_offByMode_2 : decode cX11_offByMode 2 = .ok (.bipush 9, 2) := bdX11_offByMode_0.2.2.1
theorem dX11_offByMode_4 : decode cX11_offByMode 4 = .ok (.invokestatic 47, 3) := bdX11_offByMode_0.2.2.2.1
theorem dX11_offByMode_7 : decode cX11_offByMode 7 = .ok (.ifCond .ne 5, 3) := bdX11_offByMode_0.2.2.2.2.1
theorem dX11_offByMode_10 : decode cX11_offByMode 10 = .ok (.iconst 0, 1) := bdX11_offByMode_0.2.2.2.2.2.1
theorem dX11_offByMode_11 : decode cX11_offByMode 11 = .ok (.ireturn, 1) := bdX11_offByMode_0.2.2.2.2.2.2.1
theorem dX11_offByMode_12 : decode cX11_offByMode 12 = .ok (.aload_n 0, 1) := bdX11_offByMode_0.2.2.2.2.2.2.2.1
theorem dX11_offByMode_13 : decode cX11_offByMode 13 = .ok (.invokevirtual 246, 3) := bdX11_offByMode_0.2.2.2.2.2.2.2.2.1
theorem dX11_offByMode_16 : decode cX11_offByMode 16 = .ok (.astore 4, 2) := bdX11_offByMode_0.2.2.2.2.2.2.2.2.2.1
theorem dX11_offByMode_18 : decode cX11_offByMode 18 = .ok (.aload_n 0, 1) := bdX11_offByMode_0.2.2.2.2.2.2.2.2.2.2.1
theorem dX11_offByMode_19 : decode cX11_offByMode 19 = .ok (.getfield 19, 3) := bdX11_offByMode_0.2.2.2.2.2.2.2.2.2.2.2.1
theorem dX11_offByMode_22 : decode cX11_offByMode 22 = .ok (.getfield 75, 3) := bdX11_offByMode_0.2.2.2.2.2.2.2.2.2.2.2.2.1
theorem dX11_offByMode_25 : decode cX11_offByMode 25 = .ok (.iload_n 1, 1) := bdX11_offByMode_0.2.2.2.2.2.2.2.2.2.2.2.2.2.1
theorem dX11_offByMode_26 : decode cX11_offByMode 26 = .ok (.aaload, 1) := bdX11_offByMode_0.2.2.2.2.2.2.2.2.2.2.2.2.2.2.1
theorem dX11_offByMode_27 : decode cX11_offByMode 27 = .ok (.iload_n 2, 1) := bdX11_offByMode_0.2.2.2.2.2.2.2.2.2.2.2.2.2.2.2
theorem bdX11_offByMode_28 : (decode cX11_offByMode 28 = .ok (.putfield 93, 3)) ∧ (decode cX11_offByMode 31 = .ok (.iconst 0, 1)) ∧ (decode cX11_offByMode 32 = .ok (.istore 5, 2)) ∧ (decode cX11_offByMode 34 = .ok (.iload 5, 2)) ∧ (decode cX11_offByMode 36 = .ok (.iload_n 3, 1)) ∧ (decode cX11_offByMode 37 = .ok (.if_icmp .ge 22, 3)) ∧ (decode cX11_offByMode 40 = .ok (.aload_n 0, 1)) ∧ (decode cX11_offByMode 41 = .ok (.getfield 25, 3)) ∧ (decode cX11_offByMode 44 = .ok (.aload_n 0, 1)) ∧ (decode cX11_offByMode 45 = .ok (.getfield 19, 3)) ∧ (decode cX11_offByMode 48 = .ok (.aload 4, 2)) ∧ (decode cX11_offByMode 50 = .ok (.invokevirtual 169, 3)) ∧ (decode cX11_offByMode 53 = .ok (.iinc 5 1, 3)) ∧ (decode cX11_offByMode 56 = .ok (.goto (-22), 3)) ∧ (decode cX11_offByMode 59 = .ok (.aload_n 0, 1)) ∧ (decode cX11_offByMode 60 = .ok (.getfield 19, 3)) := by decide +kernel
theorem dX11_offByMode_28 : decode cX11_offByMode 28 = .ok (.putfield 93, 3) := bdX11_offByMode_28.1
theorem dX11_offByMode_31 : decode cX11_offByMode 31 = .ok (.iconst 0, 1) := bdX11_offByMode_28.2.1
theorem dX11_offByMode_32 : decode cX11_offByMode 32 = .ok (.istore 5, 2) := bdX11_offByMode_28.2.2.1
theorem dX11_offByMode_34 : decode cX11_offByMode 34 = .ok (.iload 5, 2) := bdX11_offByMode_28.2.2.2.1
theorem dX11_offByMode_36 : decode cX11_offByMode 36 = .ok (.iload_n 3, 1) := bdX11_offByMode_28.2.2.2.2.1
theorem dX11_offByMode_37 : decode cX11_offByMode 37 = .ok (.if_icmp .ge 22, 3) := bdX11_offByMode_28.2.2.2.2.2.1
theorem dX11_offByMode_40 : decode cX11_offByMode 40 = .ok (.aload_n 0, 1) := bdX11_offByMode_28.2.2.2.2.2.2.1
theorem dX11_offByMode_41 : decode cX11_offByMode 41 = .ok (.getfield 25, 3) := bdX11_offByMode_28.2.2.2.2.2.2.2.1
theorem dX11_offByMode_44 : decode cX11_offByMode 44 = .ok (.aload_n 0, 1) := bdX11_offByMode_28.2.2.2.2.2.2.2.2.1
theorem dX11_offByMode_45 : decode cX11_offByMode 45 = .ok (.getfield 19, 3) := bdX11_offByMode_28.2.2.2.2.2.2.2.2.2.1
theorem dX11_offByMode_48 : decode cX11_offByMode 48 = .ok (.aload 4, 2) := bdX11_offByMode_28.2.2.2.2.2.2.2.2.2.2.1
theorem dX11_offByMode_50 : decode cX11_offByMode 50 = .ok (.invokevirtual 169, 3) := bdX11_offByMode_28.2.2.2.2.2.2.2.2.2.2.2.1
theorem dX11_offByMode_53 : decode cX11_offByMode 53 = .ok (.iinc 5 1, 3) := bdX11_offByMode_28.2.2.2.2.2.2.2.2.2.2.2.2.1
theorem dX11_offByMode_56 : decode cX11_offByMode 56 = .ok (.goto (-22), 3) := bdX11_offByMode_28.2.2.2.2.2.2.2.2.2.2.2.2.2.1
theorem dX11_offByMode_59 : decode cX11_offByMode 59 = .ok (.aload_n 0, 1) := bdX11_offByMode_28.2.2.2.2.2.2.2.2.2.2.2.2.2.2.1
theorem dX11_offByMode_60 : decode cX11_offByMode 60 = .ok (.getfield 19, 3) := bdX11_offByMode_28.2.2.2.2.2.2.2.2.2.2.2.2.2.2.2
theorem bdX11_offByMode_63 : (decode cX11_offByMode 63 = .ok (.getfield 75, 3)) ∧ (decode cX11_offByMode 66 = .ok (.iload_n 1, 1)) ∧ (decode cX11_offByMode 67 = .ok (.aaload, 1)) ∧ (decode cX11_offByMode 68 = .ok (.getfield 203, 3)) ∧ (decode cX11_offByMode 71 = .ok (.aload_n 0, 1)) ∧ (decode cX11_offByMode 72 = .ok (.getfield 10, 3)) ∧ (decode cX11_offByMode 75 = .ok (.getfield 75, 3)) ∧ (decode cX11_offByMode 78 = .ok (.iload_n 1, 1)) ∧ (decode cX11_offByMode 79 = .ok (.aaload, 1)) ∧ (decode cX11_offByMode 80 = .ok (.getfield 203, 3)) ∧ (decode cX11_offByMode 83 = .ok (.isub, 1)) ∧ (decode cX11_offByMode 84 = .ok (.ireturn, 1)) := by decide +kernel
theorem dX11_offByMode_63 : decode cX11_offByMode 63 = .ok (.getfield 75, 3) := bdX11_offByMode_63.1
theorem dX11_offByMode_66 : decode cX11_offByMode 66 = .ok (.iload_n 1, 1) := bdX11_offByMode_63.2.1
theorem dX11_offByMode_67 : decode cX11_offByMode 67 = .ok (.aaload, 1) := bdX11_offByMode_63.2.2.1
theorem dX11_offByMode_68 : decode cX11_offByMode 68 = .ok (.getfield 203, 3) := bdX11_offByMode_63.2.2.2.1
theorem dX11_offByMode_71 : decode cX11_offByMode 71 = .ok (.aload_n 0, 1) := bdX11_offByMode_63.2.2.2.2.1
theorem dX11_offByMode_72 : decode cX11_offByMode 72 = .ok (.getfield 10, 3) := bdX11_offByMode_63.2.2.2.2.2.1
theorem dX11_offByMode_75 : decode cX11_offByMode 75 = .ok (.getfield 75, 3) := bdX11_offByMode_63.2.2.2.2.2.2.1
theorem dX11_offByMode_78 : decode cX11_offByMode 78 = .ok (.iload_n 1, 1) := bdX11_offByMode_63.2.2.2.2.2.2.2.1
theorem dX11_offByMode_79 : decode cX11_offByMode 79 = .ok (.aaload, 1) := bdX11_offByMode_63.2.2.2.2.2.2.2.2.1
theorem dX11_offByMode_80 : decode cX11_offByMode 80 = .ok (.getfield 203, 3) := bdX11_offByMode_63.2.2.2.2.2.2.2.2.2.1
theorem dX11_offByMode_83 : decode cX11_offByMode 83 = .ok (.isub, 1) := bdX11_offByMode_63.2.2.2.2.2.2.2.2.2.2.1
theorem dX11_offByMode_84 : decode cX11_offByMode 84 = .ok (.ireturn, 1) := bdX11_offByMode_63.2.2.2.2.2.2.2.2.2.2.2
theorem bdX11_standing_0 : (decode cX11_standing 0 = .ok (.aload_n 0, 1)) ∧ (decode cX11_standing 1 = .ok (.iload_n 2, 1)) ∧ (decode cX11_standing 2 = .ok (.invokevirtual 159, 3)) ∧ (decode cX11_standing 5 = .ok (.ifCond .eq 14, 3)) ∧ (decode cX11_standing 8 = .ok (.aload_n 0, 1)) ∧ (decode cX11_standing 9 = .ok (.getfield 10, 3)) ∧ (decode cX11_standing 12 = .ok (.iload_n 1, 1)) ∧ (decode cX11_standing 13 = .ok (.invokevirtual 90, 3)) ∧ (decode cX11_standing 16 = .ok (.ifCond .ne 7, 3)) ∧ (decode cX11_standing 19 = .ok (.ldc_w 257, 3)) ∧ (decode cX11_standing 22 = .ok (.ireturn, 1)) ∧ (decode cX11_standing 23 = .ok (.aload_n 0, 1)) ∧ (decode cX11_standing 24 = .ok (.iload_n 1, 1)) ∧ (decode cX11_standing 25 = .ok (.iconst 1, 1)) ∧ (decode cX11_standing 26 = .ok (.iload_n 2, 1)) ∧ (decode cX11_standing 27 = .ok (.invokevirtual 258, 3)) := by decide +kernel
theorem dX11_standing_0 : decode cX11_standing 0 = .ok (.aload_n 0, 1) := bdX11_standing_0.1
theorem dX11_standing_1 : decode cX11_standing 1 = .ok (.iload_n 2, 1) := bdX11_standing_0.2.1
theorem dX11_standing_2 : decode cX11_standing 2 = .ok (.invokevirtual 159, 3) := bdX11_standing_0.2.2.1
theorem dX11_standing_5 : decode cX11_standing 5 = .ok (.ifCond .eq 14, 3) := bdX11_standing_0.2.2.2.1
theorem dX11_standing_8 : decode cX11_standing 8 = .ok (.aload_n 0, 1) := bdX11_standing_0.2.2.2.2.1
theorem dX11_standing_9 : decode cX11_standing 9 = .ok (.getfield 10, 3) := bdX11_standing_0.2.2.2.2.2.1
theorem dX11_standing_12 : decode cX11_standing 12 = .ok (.iload_n 1, 1) := bdX11_standing_0.2.2.2.2.2.2.1
theorem dX11_standing_13 : decode cX11_standing 13 = .ok (.invokevirtual 90, 3) := bdX11_standing_0.2.2.2.2.2.2.2.1
theorem dX11_standing_16 : decode cX11_standing 16 = .ok (.ifCond .ne 7, 3) := bdX11_standing_0.2.2.2.2.2.2.2.2.1
theorem dX11_standing_19 : decode cX11_standing 19 = .ok (.ldc_w 257, 3) := bdX11_standing_0.2.2.2.2.2.2.2.2.2.1
theorem dX11_standing_22 : decode cX11_standing 22 = .ok (.ireturn, 1) := bdX11_standing_0.2.2.2.2.2.2.2.2.2.2.1
theorem dX11_standing_23 : decode cX11_standing 23 = .ok (.aload_n 0, 1) := bdX11_standing_0.2.2.2.2.2.2.2.2.2.2.2.1
theorem dX11_standing_24 : decode cX11_standing 24 = .ok (.iload_n 1, 1) := bdX11_standing_0.2.2.2.2.2.2.2.2.2.2.2.2.1
theorem dX11_standing_25 : decode cX11_standing 25 = .ok (.iconst 1, 1) := bdX11_standing_0.2.2.2.2.2.2.2.2.2.2.2.2.2.1
theorem dX11_standing_26 : decode cX11_standing 26 = .ok (.iload_n 2, 1) := bdX11_standing_0.2.2.2.2.2.2.2.2.2.2.2.2.2.2.1
theorem dX11_standing_27 : decode cX11_standing 27 = .ok (.invokevirtual 258, 3) := bdX11_standing_0.2.2.2.2.2.2.2.2.2.2.2.2.2.2.2
theorem bdX11_standing_30 : (decode cX11_standing 30 = .ok (.aload_n 0, 1)) ∧ (decode cX11_standing 31 = .ok (.iload_n 1, 1)) ∧ (decode cX11_standing 32 = .ok (.iconst 0, 1)) ∧ (decode cX11_standing 33 = .ok (.iload_n 2, 1)) ∧ (decode cX11_standing 34 = .ok (.invokevirtual 258, 3)) ∧ (decode cX11_standing 37 = .ok (.isub, 1)) ∧ (decode cX11_standing 38 = .ok (.ireturn, 1)) := by decide +kernel
theorem dX11_standing_30 : decode cX11_standing 30 = .ok (.aload_n 0, 1) := bdX11_standing_30.1
theorem dX11_standing_31 : decode cX11_standing 31 = .ok (.iload_n 1, 1) := bdX11_standing_30.2.1
theorem dX11_standing_32 : decode cX11_standing 32 = .ok (.iconst 0, 1) := bdX11_standing_30.2.2.1
theorem dX11_standing_33 : decode cX11_standing 33 = .ok (.iload_n 2, 1) := bdX11_standing_30.2.2.2.1
theorem dX11_standing_34 : decode cX11_standing 34 = .ok (.invokevirtual 258, 3) := bdX11_standing_30.2.2.2.2.1
theorem dX11_standing_37 : decode cX11_standing 37 = .ok (.isub, 1) := bdX11_standing_30.2.2.2.2.2.1
theorem dX11_standing_38 : decode cX11_standing 38 = .ok (.ireturn, 1) := bdX11_standing_30.2.2.2.2.2.2
theorem bdX12_standing_0 : (decode cX12_standing 0 = .ok (.aload_n 0, 1)) ∧ (decode cX12_standing 1 = .ok (.iload_n 1, 1)) ∧ (decode cX12_standing 2 = .ok (.invokevirtual 398, 3)) ∧ (decode cX12_standing 5 = .ok (.ifCond .eq 11, 3)) ∧ (decode cX12_standing 8 = .ok (.aload_n 0, 1)) ∧ (decode cX12_standing 9 = .ok (.iload_n 2, 1)) ∧ (decode cX12_standing 10 = .ok (.invokevirtual 377, 3)) ∧ (decode cX12_standing 13 = .ok (.ifCond .ne 7, 3)) ∧ (decode cX12_standing 16 = .ok (.ldc_w 401, 3)) ∧ (decode cX12_standing 19 = .ok (.ireturn, 1)) ∧ (decode cX12_standing 20 = .ok (.aload_n 0, 1)) ∧ (decode cX12_standing 21 = .ok (.invokevirtual 386, 3)) ∧ (decode cX12_standing 24 = .ok (.iconst 0, 1)) ∧ (decode cX12_standing 25 = .ok (.istore_n 3, 1)) ∧ (decode cX12_standing 26 = .ok (.iconst 0, 1)) ∧ (decode cX12_standing 27 = .ok (.istore 4, 2)) := by decide +kernel
theorem dX12_standing_0 : decode cX12_standing 0 = .ok (.aload_n 0, 1) := bdX12_standing_0.1
theorem dX12_standing_1 : decode cX12_standing 1 = .ok (.iload_n 1, 1) := bdX12_standing_0.2.1
theorem dX12_standing_2 : decode cX12_standing 2 = .ok (.invokevirtual 398, 3) := bdX12_standing_0.2.2.1
theorem dX12_standing_5 : decode cX12_standing 5 = .ok (.ifCond .eq 11, 3) := bdX12_standing_0.2.2.2.1
theorem dX12_standing_8 : decode cX12_standing 8 = .ok (.aload_n 0, 1) := bdX12_standing_0.2.2.2.2.1
theorem dX12_standing_9 : decode cX12_standing 9 = .ok (.iload_n 2, 1) := bdX12_standing_0.2.2.2.2.2.1
theorem dX12_standing_10 : decode cX12_standing 10 = .ok (.invokevirtual 377, 3) := bdX12_standing_0.2.2.2.2.2.2.1
theorem dX12_standing_13 : decode cX12_standing 13 = .ok (.ifCond .ne 7, 3) := bdX12_standing_0.2.2.2.2.2.2.2.1
theorem dX12_standing_16 : decode cX12_standing 16 = .ok (.ldc_w 401, 3) := bdX12_standing_0.2.2.2.2.2.2.2.2.1
theorem dX12_standing_19 : decode cX12_standing 19 = .ok (.ireturn, 1) := bdX12_standing_0.2.2.2.2.2.2.2.2.2.1
theorem dX12_standing_20 : decode cX12_standing 20 = .ok (.aload_n 0, 1) := bdX12_standing_0.2.2.2.2.2.2.2.2.2.2.1
theorem dX12_standing_21 : decode cX12_standing 21 = .ok (.invokevirtual 386, 3) := bdX12_standing_0.2.2.2.2.2.2.2.2.2.2.2.1
theorem dX12_standing_24 : decode cX12_standing 24 = .ok (.iconst 0, 1) := bdX12_standing_0.2.2.2.2.2.2.2.2.2.2.2.2.1
theorem dX12_standing_25 : decode cX12_standing 25 = .ok (.istore_n 3, 1) := bdX12_standing_0.2.2.2.2.2.2.2.2.2.2.2.2.2.1
theorem dX12_standing_26 : decode cX12_standing 26 = .ok (.iconst 0, 1) := bdX12_standing_0.2.2.2.2.2.2.2.2.2.2.2.2.2.2.1
theorem dX12_standing_27 : decode cX12_standing 27 = .ok (.istore 4, 2) := bdX12_standing_0.2.2.2.2.2.2.2.2.2.2.2.2.2.2.2
theorem bdX12_standing_29 : (decode cX12_standing 29 = .ok (.iload 4, 2)) ∧ (decode cX12_standing 31 = .ok (.iconst 2, 1)) ∧ (decode cX12_standing 32 = .ok (.if_icmp .ge 54, 3)) ∧ (decode cX12_standing 35 = .ok (.aload_n 0, 1)) ∧ (decode cX12_standing 36 = .ok (.iload_n 1, 1)) ∧ (decode cX12_standing 37 = .ok (.bipush 8, 2)) ∧ (decode cX12_standing 39 = .ok (.iload 4, 2)) ∧ (decode cX12_standing 41 = .ok (.invokevirtual 110, 3)) ∧ (decode cX12_standing 44 = .ok (.aload_n 0, 1)) ∧ (decode cX12_standing 45 = .ok (.iload_n 2, 1)) ∧ (decode cX12_standing 46 = .ok (.invokevirtual 392, 3)) ∧ (decode cX12_standing 49 = .ok (.iload_n 3, 1)) ∧ (decode cX12_standing 50 = .ok (.iload 4, 2)) ∧ (decode cX12_standing 52 = .ok (.iconst 1, 1)) ∧ (decode cX12_standing 53 = .ok (.if_icmp .ne 13, 3)) ∧ (decode cX12_standing 56 = .ok (.aload_n 0, 1)) := by decide +kernel
theorem dX12_standing_29 : decode cX12_standing 29 = .ok (.iload 4, 2) := bdX12_standing_29.1
theorem dX12_standing_31 : decode cX12_standing 31 = .ok (.iconst 2, 1) := bdX12_standing_29.2.1
theorem dX12_standing_32 : decode cX12_standing 32 = .ok (.if_icmp .ge 54, 3) := bdX12_standing_29.2.2.1
theorem dX12_standing_35 : decode cX12_standing 35 = .ok (.aload_n 0, 1) := bdX12_standing_29.2.2.2.1
theorem dX12_standing_36 : decode cX12_standing 36 = .ok (.iload_n 1, 1) := bdX12_standing_29.2.2.2.2.1
theorem dX12_standing_37 : decode cX12_standing 37 = .ok (.bipush 8, 2) := bdX12_standing_29.2.2.2.2.2.1
theorem dX12_standing_39 : decode cX12_standing 39 = .ok (.iload 4, 2) := bdX12_standing_29.2.2.2.2.2.2.1
theorem dX12_standing_41 : decode cX12_standing 41 = .ok (.invokevirtual 110, 3) := bdX12_standing_29.2.2.2.2.2.2.2.1
theorem dX12_standing_44 : decode cX12_standing 44 = .ok (.aload_n 0, 1) := bdX12_standing_29.2.2.2.2.2.2.2.2.1
theorem dX12_standing_45 : decode cX12_standing 45 = .ok (.iload_n 2, 1) := bdX12_standing_29.2.2.2.2.2.2.2.2.2.1
theorem dX12_standing_46 : decode cX12_standing 46 = .ok (.invokevirtual 392, 3) := bdX12_standing_29.2.2.2.2.2.2.2.2.2.2.1
theorem dX12_standing_49 : decode cX12_standing 49 = .ok (.iload_n 3, 1) := bdX12_standing_29.2.2.2.2.2.2.2.2.2.2.2.1
theorem dX12_standing_50 : decode cX12_standing 50 = .ok (.iload 4, 2) := bdX12_standing_29.2.2.2.2.2.2.2.2.2.2.2.2.1
theorem dX12_standing_52 : decode cX12_standing 52 = .ok (.iconst 1, 1) := bdX12_standing_29.2.2.2.2.2.2.2.2.2.2.2.2.2.1
theorem dX12_standing_53 : decode cX12_standing 53 = .ok (.if_icmp .ne 13, 3) := bdX12_standing_29.2.2.2.2.2.2.2.2.2.2.2.2.2.2.1
theorem dX12_standing_56 : decode cX12_standing 56 = .ok (.aload_n 0, 1) := bdX12_standing_29.2.2.2.2.2.2.2.2.2.2.2.2.2.2.2
theorem bdX12_standing_57 : (decode cX12_standing 57 = .ok (.iload_n 1, 1)) ∧ (decode cX12_standing 58 = .ok (.bipush 11, 2)) ∧ (decode cX12_standing 60 = .ok (.invokevirtual 103, 3)) ∧ (decode cX12_standing 63 = .ok (.goto 11, 3)) ∧ (decode cX12_standing 66 = .ok (.aload_n 0, 1)) ∧ (decode cX12_standing 67 = .ok (.iload_n 1, 1)) ∧ (decode cX12_standing 68 = .ok (.bipush 11, 2)) ∧ (decode cX12_standing 70 = .ok (.invokevirtual 103, 3)) ∧ (decode cX12_standing 73 = .ok (.ineg, 1)) ∧ (decode cX12_standing 74 = .ok (.iadd, 1)) ∧ (decode cX12_standing 75 = .ok (.istore_n 3, 1)) ∧ (decode cX12_standing 76 = .ok (.aload_n 0, 1)) ∧ (decode cX12_standing 77 = .ok (.invokevirtual 395, 3)) ∧ (decode cX12_standing 80 = .ok (.iinc 4 1, 3)) ∧ (decode cX12_standing 83 = .ok (.goto (-54), 3)) ∧ (decode cX12_standing 86 = .ok (.iload_n 3, 1)) := by decide +kernel
theorem dX12_standing_57 : decode cX12_standing 57 = .ok (.iload_n 1, 1) := bdX12_standing_57.1
theorem dX12_standing_58 : decode cX12_standing 58 = .ok (.bipush 11, 2) := bdX12_standing_57.2.1
theorem dX12_standing_60 : decode cX12_standing 60 = .ok (.invokevirtual 103, 3) := bdX12_standing_57.2.2.1
theorem dX12_standing_63 : decode cX12_standing 63 = .ok (.goto 11, 3) := bdX12_standing_57.2.2.2.1
theorem dX12_standing_66 : decode cX12_standing 66 = .ok (.aload_n 0, 1) := bdX12_standing_57.2.2.2.2.1
theorem dX12_standing_67 : decode cX12_standing 67 = .ok (.iload_n 1, 1) := bdX12_standing_57.2.2.2.2.2.1
theorem dX12_standing_68 : decode cX12_standing 68 = .ok (.bipush 11, 2) := bdX12_standing_57.2.2.2.2.2.2.1
theorem dX12_standing_70 : decode cX12_standing 70 = .ok (.invokevirtual 103, 3) := bdX12_standing_57.2.2.2.2.2.2.2.1
theorem dX12_standing_73 : decode cX12_standing 73 = .ok (.ineg, 1) := bdX12_standing_57.2.2.2.2.2.2.2.2.1
theorem dX12_standing_74 : decode cX12_standing 74 = .ok (.iadd, 1) := bdX12_standing_57.2.2.2.2.2.2.2.2.2.1
theorem dX12_standing_75 : decode cX12_standing 75 = .ok (.istore_n 3, 1) := bdX12_standing_57.2.2.2.2.2.2.2.2.2.2.1
theorem dX12_standing_76 : decode cX12_standing 76 = .ok (.aload_n 0, 1) := bdX12_standing_57.2.2.2.2.2.2.2.2.2.2.2.1
theorem dX12_standing_77 : decode cX12_standing 77 = .ok (.invokevirtual 395, 3) := bdX12_standing_57.2.2.2.2.2.2.2.2.2.2.2.2.1
theorem dX12_standing_80 : decode cX12_standing 80 = .ok (.iinc 4 1, 3) := bdX12_standing_57.2.2.2.2.2.2.2.2.2.2.2.2.2.1
theorem dX12_standing_83 : decode cX12_standing 83 = .ok (.goto (-54), 3) := bdX12_standing_57.2.2.2.2.2.2.2.2.2.2.2.2.2.2.1
theorem dX12_standing_86 : decode cX12_standing 86 = .ok (.iload_n 3, 1) := bdX12_standing_57.2.2.2.2.2.2.2.2.2.2.2.2.2.2.2
theorem dX12_standing_87 : decode cX12_standing 87 = .ok (.ireturn, 1) := by decide +kernel
theorem bdX11_mayStandAlone_0 : (decode cX11_mayStandAlone 0 = .ok (.iload_n 0, 1)) ∧ (decode cX11_mayStandAlone 1 = .ok (.iconst 2, 1)) ∧ (decode cX11_mayStandAlone 2 = .ok (.bipush 40, 2)) ∧ (decode cX11_mayStandAlone 4 = .ok (.invokestatic 47, 3)) ∧ (decode cX11_mayStandAlone 7 = .ok (.ifCond .eq 18, 3)) ∧ (decode cX11_mayStandAlone 10 = .ok (.iload_n 1, 1)) ∧ (decode cX11_mayStandAlone 11 = .ok (.iconst 1, 1)) ∧ (decode cX11_mayStandAlone 12 = .ok (.sipush 999, 3)) ∧ (decode cX11_mayStandAlone 15 = .ok (.invokestatic 47, 3)) ∧ (decode cX11_mayStandAlone 18 = .ok (.ifCond .eq 7, 3)) ∧ (decode cX11_mayStandAlone 21 = .ok (.iconst 1, 1)) ∧ (decode cX11_mayStandAlone 22 = .ok (.goto 4, 3)) ∧ (decode cX11_mayStandAlone 25 = .ok (.iconst 0, 1)) ∧ (decode cX11_mayStandAlone 26 = .ok (.ireturn, 1)) := by decide +kernel
theorem dX11_mayStandAlone_0 : decode cX11_mayStandAlone 0 = .ok (.iload_n 0, 1) := bdX11_mayStandAlone_0.1
theorem dX11_mayStandAlone_1 : decode cX11_mayStandAlone 1 = .ok (.iconst 2, 1) := bdX11_mayStandAlone_0.2.1
theorem dX11_mayStandAlone_2 : decode cX11_mayStandAlone 2 = .ok (.bipush 40, 2) := bdX11_mayStandAlone_0.2.2.1
theorem dX11_mayStandAlone_4 : decode cX11_mayStandAlone 4 = .ok (.invokestatic 47, 3) := bdX11_mayStandAlone_0.2.2.2.1
theorem dX11_mayStandAlone_7 : decode cX11_mayStandAlone 7 = .ok (.ifCond .eq 18, 3) := bdX11_mayStandAlone_0.2.2.2.2.1
theorem dX11_mayStandAlone_10 : decode cX11_mayStandAlone 10 = .ok (.iload_n 1, 1) := bdX11_mayStandAlone_0.2.2.2.2.2.1
theorem dX11_mayStandAlone_11 : decode cX11_mayStandAlone 11 = .ok (.iconst 1, 1) := bdX11_mayStandAlone_0.2.2.2.2.2.2.1
theorem dX11_mayStandAlone_12 : decode cX11_mayStandAlone 12 = .ok (.sipush 999, 3) := bdX11_mayStandAlone_0.2.2.2.2.2.2.2.1
theorem dX11_mayStandAlone_15 : decode cX11_mayStandAlone 15 = .ok (.invokestatic 47, 3) := bdX11_mayStandAlone_0.2.2.2.2.2.2.2.2.1
theorem dX11_mayStandAlone_18 : decode cX11_mayStandAlone 18 = .ok (.ifCond .eq 7, 3) := bdX11_mayStandAlone_0.2.2.2.2.2.2.2.2.2.1
theorem dX11_mayStandAlone_21 : decode cX11_mayStandAlone 21 = .ok (.iconst 1, 1) := bdX11_mayStandAlone_0.2.2.2.2.2.2.2.2.2.2.1
theorem dX11_mayStandAlone_22 : decode cX11_mayStandAlone 22 = .ok (.goto 4, 3) := bdX11_mayStandAlone_0.2.2.2.2.2.2.2.2.2.2.2.1
theorem dX11_mayStandAlone_25 : decode cX11_mayStandAlone 25 = .ok (.iconst 0, 1) := bdX11_mayStandAlone_0.2.2.2.2.2.2.2.2.2.2.2.2.1
theorem dX11_mayStandAlone_26 : decode cX11_mayStandAlone 26 = .ok (.ireturn, 1) := bdX11_mayStandAlone_0.2.2.2.2.2.2.2.2.2.2.2.2.2
def fX11_shutByBar_79 (a0 : Nat) (a1 : Int32) (a2 : Int32) (a3 : Int32) (m : xMem) : Option (Int32 × xMem) := some ((-1 : Int32), m)
set_option maxRecDepth 4000 in
theorem fX11_shutByBar_79_ok {a0 : Nat} {a1 : Int32} {a2 : Int32} {a3 : Int32} {d : Nat} (hd : 6 ≤ d) (ha0 : isMS a0) {o4 : Option Value} {o5 : Option Value} {m : xMem} {r : (Int32 × xMem)} (q4 : xNoD o4 = true) (q5 : xNoD o5 = true) (h : fX11_shutByBar_79 a0 a1 a2 a3 m = some r) : xFx hh_218 cX11_shutByBar d 79 [some (.ref a0), some (.int a1), some (.int a2), some (.int a3), o4, o5] [] (xLay m) 0 0 (some (.int r.1)) (xLay r.2) := by
  unfold fX11_shutByBar_79 at h
  refine fx_iconst (x := -1) dX11_shutByBar_79 rfl (by decide) ?_
  cases h
  exact fx_ireturn dX11_shutByBar_80 rfl rfl
def fX11_shutByBar_33 (a0 : Nat) (a1 : Int32) (a2 : Int32) (a3 : Int32) : Nat → Nat → Int32 → xMem → Option (Int32 × xMem)
  | 0, _, _, _ => none
  | fuel + 1, l4, l5, m => if a3 ≤ l5 then bif xIn a1 6 then xLet (a0 + 167 + 15 + 3 * a1.toNatClampNeg) fun r3 => xLet (m.1 r3 6) fun x4 => bif xIn a1 6 then xLet (a0 + 1 + 15 + 3 * a1.toNatClampNeg) fun r6 => xLet (m.1 r6 6) fun x7 => xLet (x4 - x7) fun x8 => some (x8, m) else none else none else (fX6_passSecond (a0 + 250) (a0 + 167) l4 m).bind fun p9 => xLet (p9.1 (a0 + 167) 15) fun x10 => xLet (p9.1 (a0 + 1) 15) fun x11 => if ¬ x10 = x11 then fX11_shutByBar_79 a0 a1 a2 a3 p9 else (fX9_anyHallOver (a0 + 167) p9).bind fun p13 => if p13.1 = (0 : Int32) then xLet (l5 + (1 : Int32)) fun x15 => fX11_shutByBar_33 a0 a1 a2 a3 fuel l4 x15 p13.2 else fX11_shutByBar_79 a0 a1 a2 a3 p13.2
set_option maxRecDepth 4000 in
theorem fX11_shutByBar_33_ok {a0 : Nat} {a1 : Int32} {a2 : Int32} {a3 : Int32} {d : Nat} (hd : 6 ≤ d) (ha0 : isMS a0) : ∀ (fuel : Nat) (l4 : Nat) (l5 : Int32) (m : xMem) (r : (Int32 × xMem)) (hl4 : isText l4), fX11_shutByBar_33 a0 a1 a2 a3 fuel l4 l5 m = some r → xFx hh_218 cX11_shutByBar d 33 [some (.ref a0), some (.int a1), some (.int a2), some (.int a3), some (.ref l4), some (.int l5)] [] (xLay m) 0 0 (some (.int r.1)) (xLay r.2) := by
  intro fuel
  induction fuel with
  | zero => intro l4 l5  m r hl4 h; cases h
  | succ fuel ih =>
    intro l4 l5  m r hl4 h
    unfold fX11_shutByBar_33 at h
    refine fx_iload dX11_shutByBar_33 rfl rfl ?_
    refine fx_iload_n dX11_shutByBar_35 rfl rfl ?_
    refine fx_icmp_ge (t := 87) dX11_shutByBar_36 rfl rfl (fun hc1 => ?_) (fun hc1 => ?_)
    · rw [if_pos hc1] at h
      refine fx_aload_n dX11_shutByBar_87 rfl rfl ?_
      refine gx_getr dX11_shutByBar_88 rfl fd_11_19 ha0.1 rfl rfl ?_
      refine gx_getr dX11_shutByBar_91 rfl fd_11_55 ha0.2.2.2.1.1 rfl rfl ?_
      refine fx_iload_n dX11_shutByBar_94 rfl rfl ?_
      obtain ⟨hj2, h⟩ := xChk_el h
      obtain ⟨r3, hr3, h⟩ := xLet_el h
      refine gx_aaload (t := 4) dX11_shutByBar_95 rfl ha0.2.2.2.1.2.1 rfl hj2 ((xRef_at (sl_9_0 (a0 + 167)) hj2).trans (congrArg some hr3)) ?_
      have hpr3 : isHall r3 := by rw [← hr3]; exact ha0.2.2.2.1.2.2.2.2.2.2.2.1 _ (xIn_lt hj2)
      obtain ⟨x4, hx4, h⟩ := xLet_el h
      refine gx_get dX11_shutByBar_96 rfl fd_11_184 hpr3.1 rfl rfl hx4 ?_
      refine fx_aload_n dX11_shutByBar_99 rfl rfl ?_
      refine gx_getr dX11_shutByBar_100 rfl fd_11_10 ha0.1 rfl rfl ?_
      refine gx_getr dX11_shutByBar_103 rfl fd_11_55 ha0.2.1.1 rfl rfl ?_
      refine fx_iload_n dX11_shutByBar_106 rfl rfl ?_
      obtain ⟨hj5, h⟩ := xChk_el h
      obtain ⟨r6, hr6, h⟩ := xLet_el h
      refine gx_aaload (t := 4) dX11_shutByBar_107 rfl ha0.2.1.2.1 rfl hj5 ((xRef_at (sl_9_0 (a0 + 1)) hj5).trans (congrArg some hr6)) ?_
      have hpr6 : isHall r6 := by rw [← hr6]; exact ha0.2.1.2.2.2.2.2.2.2.1 _ (xIn_lt hj5)
      obtain ⟨x7, hx7, h⟩ := xLet_el h
      refine gx_get dX11_shutByBar_108 rfl fd_11_184 hpr6.1 rfl rfl hx7 ?_
      obtain ⟨x8, hx8, h⟩ := xLet_el h
      refine fx_isub dX11_shutByBar_111 rfl hx8 ?_
      cases h
      exact fx_ireturn dX11_shutByBar_112 rfl rfl
    · rw [if_neg hc1] at h
      refine fx_aload_n dX11_shutByBar_39 rfl rfl ?_
      refine gx_getr dX11_shutByBar_40 rfl fd_11_25 ha0.1 rfl rfl ?_
      refine fx_aload_n dX11_shutByBar_43 rfl rfl ?_
      refine gx_getr dX11_shutByBar_44 rfl fd_11_19 ha0.1 rfl rfl ?_
      refine fx_aload dX11_shutByBar_47 rfl rfl ?_
      obtain ⟨p9, ep9, h⟩ := xBind_el h
      refine gx_callv (as := [.ref (a0 + 167), .ref l4]) (r := []) rfl dX11_shutByBar_49 ca_11_169 rfl me_120 rfl rfl rfl rfl (ha0.2.2.2.2.1.1) rfl (fX6_passSecond_ok (d := d) (by omega) ha0.2.2.2.2.1 ha0.2.2.2.1 hl4 ep9) rfl rfl ?_
      refine fx_aload_n dX11_shutByBar_52 rfl rfl ?_
      refine gx_getr dX11_shutByBar_53 rfl fd_11_19 ha0.1 rfl rfl ?_
      obtain ⟨x10, hx10, h⟩ := xLet_el h
      refine gx_get dX11_shutByBar_56 rfl fd_11_234 ha0.2.2.2.1.1 rfl rfl hx10 ?_
      refine fx_aload_n dX11_shutByBar_59 rfl rfl ?_
      refine gx_getr dX11_shutByBar_60 rfl fd_11_10 ha0.1 rfl rfl ?_
      obtain ⟨x11, hx11, h⟩ := xLet_el h
      refine gx_get dX11_shutByBar_63 rfl fd_11_234 ha0.2.1.1 rfl rfl hx11 ?_
      refine fx_icmp_ne (t := 79) dX11_shutByBar_66 rfl rfl (fun hc12 => ?_) (fun hc12 => ?_)
      · rw [if_pos hc12] at h
        exact fX11_shutByBar_79_ok (o4 := some (.ref l4)) (o5 := some (.int l5)) hd ha0 rfl rfl h
      · rw [if_neg hc12] at h
        refine fx_aload_n dX11_shutByBar_69 rfl rfl ?_
        refine gx_getr dX11_shutByBar_70 rfl fd_11_19 ha0.1 rfl rfl ?_
        obtain ⟨p13, ep13, h⟩ := xBind_el h
        refine gx_callv (as := []) (r := []) rfl dX11_shutByBar_73 ca_11_326 rfl me_219 rfl rfl rfl rfl (ha0.2.2.2.1.1) rfl (fX9_anyHallOver_ok (d := d) (by omega) ha0.2.2.2.1 ep13) rfl rfl ?_
        refine fx_if_eq (t := 81) dX11_shutByBar_76 rfl rfl (fun hc14 => ?_) (fun hc14 => ?_)
        · rw [if_pos hc14] at h
          obtain ⟨x15, hx15, h⟩ := xLet_el h
          refine fx_iinc (ls2 := [some (.ref a0), some (.int a1), some (.int a2), some (.int a3), some (.ref l4), some (.int x15)]) dX11_shutByBar_81 rfl rfl rfl hx15 rfl ?_
          refine fx_goto (t := 33) dX11_shutByBar_84 rfl rfl ?_
          exact ih l4 x15 p13.2 r hl4 h
        · rw [if_neg hc14] at h
          exact fX11_shutByBar_79_ok (o4 := some (.ref l4)) (o5 := some (.int l5)) hd ha0 rfl rfl h
def fX11_shutByBar_0 (a0 : Nat) (a1 : Int32) (a2 : Int32) (a3 : Int32) (m : xMem) : Option (Int32 × xMem) := (fX11_within a1 (0 : Int32) (5 : Int32) m).bind fun p1 => if ¬ p1.1 = (0 : Int32) then (fX11_beginTrial a0 p1.2).bind fun p3 => bif xIn a1 6 then xLet (a0 + 167 + 15 + 3 * a1.toNatClampNeg) fun r5 => xLet (xPut p3.2 r5 3 a2) fun m6 => fX11_shutByBar_33 a0 a1 a2 a3 xFuel p3.1 (0 : Int32) m6 else none else some ((-1 : Int32), p1.2)
set_option maxRecDepth 4000 in
theorem fX11_shutByBar_0_ok {a0 : Nat} {a1 : Int32} {a2 : Int32} {a3 : Int32} {d : Nat} (hd : 6 ≤ d) (ha0 : isMS a0) {o4 : Option Value} {o5 : Option Value} {m : xMem} {r : (Int32 × xMem)} (q4 : xNoD o4 = true) (q5 : xNoD o5 = true) (h : fX11_shutByBar_0 a0 a1 a2 a3 m = some r) : xFx hh_218 cX11_shutByBar d 0 [some (.ref a0), some (.int a1), some (.int a2), some (.int a3), o4, o5] [] (xLay m) 0 0 (some (.int r.1)) (xLay r.2) := by
  unfold fX11_shutByBar_0 at h
  refine fx_iload_n dX11_shutByBar_0 rfl rfl ?_
  refine fx_iconst (x := 0) dX11_shutByBar_1 rfl (by decide) ?_
  refine fx_iconst (x := 5) dX11_shutByBar_2 rfl (by decide) ?_
  obtain ⟨p1, ep1, h⟩ := xBind_el h
  refine gx_calls (as := [.int a1, .int (0 : Int32), .int (5 : Int32)]) (r := []) rfl dX11_shutByBar_3 ca_11_47 rfl me_14 rfl rfl rfl rfl (fX11_within_ok (d := d) (by omega) ep1) rfl rfl ?_
  refine fx_if_ne (t := 11) dX11_shutByBar_6 rfl rfl (fun hc2 => ?_) (fun hc2 => ?_)
  · rw [if_pos hc2] at h
    refine fx_aload_n dX11_shutByBar_11 rfl rfl ?_
    obtain ⟨p3, ep3, h⟩ := xBind_el h
    refine gx_callv (as := []) (r := []) rfl dX11_shutByBar_12 ca_11_246 rfl me_207 rfl rfl rfl rfl (ha0.1) rfl (fX11_beginTrial_ok (d := d) (by omega) ha0 ep3) rfl rfl ?_
    have hqp3 : isText p3.1 := fX11_beginTrial_ref ha0 ep3
    refine fx_astore (ls2 := [some (.ref a0), some (.int a1), some (.int a2), some (.int a3), some (.ref p3.1), o5]) dX11_shutByBar_15 rfl rfl rfl ?_
    refine fx_aload_n dX11_shutByBar_17 rfl rfl ?_
    refine gx_getr dX11_shutByBar_18 rfl fd_11_19 ha0.1 rfl rfl ?_
    refine gx_getr dX11_shutByBar_21 rfl fd_11_55 ha0.2.2.2.1.1 rfl rfl ?_
    refine fx_iload_n dX11_shutByBar_24 rfl rfl ?_
    obtain ⟨hj4, h⟩ := xChk_el h
    obtain ⟨r5, hr5, h⟩ := xLet_el h
    refine gx_aaload (t := 4) dX11_shutByBar_25 rfl ha0.2.2.2.1.2.1 rfl hj4 ((xRef_at (sl_9_0 (a0 + 167)) hj4).trans (congrArg some hr5)) ?_
    have hpr5 : isHall r5 := by rw [← hr5]; exact ha0.2.2.2.1.2.2.2.2.2.2.2.1 _ (xIn_lt hj4)
    refine fx_iload_n dX11_shutByBar_26 rfl rfl ?_
    obtain ⟨m6, hm6, h⟩ := xLet_el h
    refine gx_put dX11_shutByBar_27 rfl fd_11_69 hpr5.1 rfl rfl rfl hm6 ?_
    refine fx_iconst (x := 0) dX11_shutByBar_30 rfl (by decide) ?_
    refine fx_istore (ls2 := [some (.ref a0), some (.int a1), some (.int a2), some (.int a3), some (.ref p3.1), some (.int (0 : Int32))]) dX11_shutByBar_31 rfl rfl rfl ?_
    exact fX11_shutByBar_33_ok hd ha0 xFuel p3.1 (0 : Int32) m6 r hqp3 h
  · rw [if_neg hc2] at h
    refine fx_iconst (x := -1) dX11_shutByBar_9 rfl (by decide) ?_
    cases h
    exact fx_ireturn dX11_shutByBar_10 rfl rfl
def fX11_shutByBar (a0 : Nat) (a1 : Int32) (a2 : Int32) (a3 : Int32) (m : xMem) : Option (Int32 × xMem) := fX11_shutByBar_0 a0 a1 a2 a3  m
theorem fX11_shutByBar_ok {a0 : Nat} {a1 : Int32} {a2 : Int32} {a3 : Int32} {m : xMem} {r : (Int32 × xMem)} {d : Nat} (hd : 7 ≤ d) (ha0 : isMS a0) (h : fX11_shutByBar a0 a1 a2 a3 m = some r) : xEx d 218 [.ref a0, .int a1, .int a2, .int a3] (xLay m) (some (.int r.1)) (xLay r.2) := by
  obtain ⟨d, rfl⟩ : ∃ q, d = q + 1 := ⟨d - 1, by omega⟩
  exact xEx_of me_218 rfl (fX11_shutByBar_0_ok (d := d) (o4 := none) (o5 := none) (by omega) ha0 rfl rfl h)
def fX11_least_28 (a0 : Nat) (a1 : Int32) (a2 : Int32) (a3 : Int32) (m : xMem) : Option (Int32 × xMem) := some ((-1 : Int32), m)
set_option maxRecDepth 4000 in
theorem fX11_least_28_ok {a0 : Nat} {a1 : Int32} {a2 : Int32} {a3 : Int32} {d : Nat} (hd : 7 ≤ d) (ha0 : isMS a0) {o4 : Option Value} {o5 : Option Value} {m : xMem} {r : (Int32 × xMem)} (q4 : xNoD o4 = true) (q5 : xNoD o5 = true) (h : fX11_least_28 a0 a1 a2 a3 m = some r) : xFx hh_217 cX11_least d 28 [some (.ref a0), some (.int a1), some (.int a2), some (.int a3), o4, o5] [] (xLay m) 0 0 (some (.int r.1)) (xLay r.2) := by
  unfold fX11_least_28 at h
  refine fx_iconst (x := -1) dX11_least_28 rfl (by decide) ?_
  cases h
  exact fx_ireturn dX11_least_29 rfl rfl
def fX11_least_66 (a0 : Nat) (a1 : Int32) (a2 : Int32) (a3 : Int32) (s0 : Int32) (m : xMem) : Option (Int32 × xMem) := some (s0, m)
set_option maxRecDepth 4000 in
theorem fX11_least_66_ok {a0 : Nat} {a1 : Int32} {a2 : Int32} {a3 : Int32} {d : Nat} (hd : 7 ≤ d) (ha0 : isMS a0) {s0 : Int32} {o4 : Option Value} {o5 : Option Value} {m : xMem} {r : (Int32 × xMem)} (q4 : xNoD o4 = true) (q5 : xNoD o5 = true) (h : fX11_least_66 a0 a1 a2 a3 s0 m = some r) : xFx hh_217 cX11_least d 66 [some (.ref a0), some (.int a1), some (.int a2), some (.int a3), o4, o5] [.int s0] (xLay m) 0 0 (some (.int r.1)) (xLay r.2) := by
  unfold fX11_least_66 at h
  cases h
  exact fx_ireturn dX11_least_66 rfl rfl
def fX11_least_34 (a0 : Nat) (a1 : Int32) (a2 : Int32) (a3 : Int32) : Nat → Int32 → xMem → Option (Int32 × xMem)
  | 0, _, _ => none
  | fuel + 1, l4, m => if l4 < (0 : Int32) then some ((-1 : Int32), m) else (fX11_shutByBar a0 a1 l4 a2 m).bind fun p2 => if p2.1 = (-1 : Int32) then xLet (l4 + (-1 : Int32)) fun x4 => fX11_least_34 a0 a1 a2 a3 fuel x4 p2.2 else if ¬ a3 = (0 : Int32) then fX11_least_66 a0 a1 a2 a3 p2.1 p2.2 else fX11_least_66 a0 a1 a2 a3 l4 p2.2
set_option maxRecDepth 4000 in
theorem fX11_least_34_ok {a0 : Nat} {a1 : Int32} {a2 : Int32} {a3 : Int32} {d : Nat} (hd : 7 ≤ d) (ha0 : isMS a0) : ∀ (fuel : Nat) (l4 : Int32) (o5 : Option Value) (q5 : xNoD o5 = true) (m : xMem) (r : (Int32 × xMem)), fX11_least_34 a0 a1 a2 a3 fuel l4 m = some r → xFx hh_217 cX11_least d 34 [some (.ref a0), some (.int a1), some (.int a2), some (.int a3), some (.int l4), o5] [] (xLay m) 0 0 (some (.int r.1)) (xLay r.2) := by
  intro fuel
  induction fuel with
  | zero => intro l4 o5 q5 m r  h; cases h
  | succ fuel ih =>
    intro l4 o5 q5 m r  h
    unfold fX11_least_34 at h
    refine fx_iload dX11_least_34 rfl rfl ?_
    refine fx_if_lt (t := 73) dX11_least_36 rfl rfl (fun hc1 => ?_) (fun hc1 => ?_)
    · rw [if_pos hc1] at h
      refine fx_iconst (x := -1) dX11_least_73 rfl (by decide) ?_
      cases h
      exact fx_ireturn dX11_least_74 rfl rfl
    · rw [if_neg hc1] at h
      refine fx_aload_n dX11_least_39 rfl rfl ?_
      refine fx_iload_n dX11_least_40 rfl rfl ?_
      refine fx_iload dX11_least_41 rfl rfl ?_
      refine fx_iload_n dX11_least_43 rfl rfl ?_
      obtain ⟨p2, ep2, h⟩ := xBind_el h
      refine gx_callv (as := [.int a1, .int l4, .int a2]) (r := []) rfl dX11_least_44 ca_11_243 rfl me_218 rfl rfl rfl rfl (ha0.1) rfl (fX11_shutByBar_ok (d := d) (by omega) ha0 ep2) rfl rfl ?_
      refine fx_istore (ls2 := [some (.ref a0), some (.int a1), some (.int a2), some (.int a3), some (.int l4), some (.int p2.1)]) dX11_least_47 rfl rfl rfl ?_
      refine fx_iload dX11_least_49 rfl rfl ?_
      refine fx_iconst (x := -1) dX11_least_51 rfl (by decide) ?_
      refine fx_icmp_eq (t := 67) dX11_least_52 rfl rfl (fun hc3 => ?_) (fun hc3 => ?_)
      · rw [if_pos hc3] at h
        obtain ⟨x4, hx4, h⟩ := xLet_el h
        refine fx_iinc (ls2 := [some (.ref a0), some (.int a1), some (.int a2), some (.int a3), some (.int x4), some (.int p2.1)]) dX11_least_67 rfl rfl rfl hx4 rfl ?_
        refine fx_goto (t := 34) dX11_least_70 rfl rfl ?_
        exact ih x4 (some (.int p2.1)) rfl p2.2 r h
      · rw [if_neg hc3] at h
        refine fx_iload_n dX11_least_55 rfl rfl ?_
        refine fx_if_ne (t := 64) dX11_least_56 rfl rfl (fun hc5 => ?_) (fun hc5 => ?_)
        · rw [if_pos hc5] at h
          refine fx_iload dX11_least_64 rfl rfl ?_
          exact fX11_least_66_ok (o4 := some (.int l4)) (o5 := some (.int p2.1)) hd ha0 rfl rfl h
        · rw [if_neg hc5] at h
          refine fx_iload dX11_least_59 rfl rfl ?_
          refine fx_goto (t := 66) dX11_least_61 rfl rfl ?_
          exact fX11_least_66_ok (o4 := some (.int l4)) (o5 := some (.int p2.1)) hd ha0 rfl rfl h
def fX11_least_0 (a0 : Nat) (a1 : Int32) (a2 : Int32) (a3 : Int32) (m : xMem) : Option (Int32 × xMem) := (fX11_within a3 (0 : Int32) (1 : Int32) m).bind fun p1 => if p1.1 = (0 : Int32) then fX11_least_28 a0 a1 a2 a3 p1.2 else (fX11_mayRun a0 a2 p1.2).bind fun p3 => if p3.1 = (0 : Int32) then fX11_least_28 a0 a1 a2 a3 p3.2 else (fX9_hasHall (a0 + 1) a1 p3.2).bind fun p5 => if ¬ p5.1 = (0 : Int32) then fX11_least_34 a0 a1 a2 a3 xFuel (60 : Int32) p5.2 else fX11_least_28 a0 a1 a2 a3 p5.2
set_option maxRecDepth 4000 in
theorem fX11_least_0_ok {a0 : Nat} {a1 : Int32} {a2 : Int32} {a3 : Int32} {d : Nat} (hd : 7 ≤ d) (ha0 : isMS a0) {o4 : Option Value} {o5 : Option Value} {m : xMem} {r : (Int32 × xMem)} (q4 : xNoD o4 = true) (q5 : xNoD o5 = true) (h : fX11_least_0 a0 a1 a2 a3 m = some r) : xFx hh_217 cX11_least d 0 [some (.ref a0), some (.int a1), some (.int a2), some (.int a3), o4, o5] [] (xLay m) 0 0 (some (.int r.1)) (xLay r.2) := by
  unfold fX11_least_0 at h
  refine fx_iload_n dX11_least_0 rfl rfl ?_
  refine fx_iconst (x := 0) dX11_least_1 rfl (by decide) ?_
  refine fx_iconst (x := 1) dX11_least_2 rfl (by decide) ?_
  obtain ⟨p1, ep1, h⟩ := xBind_el h
  refine gx_calls (as := [.int a3, .int (0 : Int32), .int (1 : Int32)]) (r := []) rfl dX11_least_3 ca_11_47 rfl me_14 rfl rfl rfl rfl (fX11_within_ok (d := d) (by omega) ep1) rfl rfl ?_
  refine fx_if_eq (t := 28) dX11_least_6 rfl rfl (fun hc2 => ?_) (fun hc2 => ?_)
  · rw [if_pos hc2] at h
    exact fX11_least_28_ok (o4 := o4) (o5 := o5) hd ha0 q4 q5 h
  · rw [if_neg hc2] at h
    refine fx_aload_n dX11_least_9 rfl rfl ?_
    refine fx_iload_n dX11_least_10 rfl rfl ?_
    obtain ⟨p3, ep3, h⟩ := xBind_el h
    refine gx_callv (as := [.int a2]) (r := []) rfl dX11_least_11 ca_11_159 rfl me_116 rfl rfl rfl rfl (ha0.1) rfl (fX11_mayRun_ok (d := d) (by omega) ha0 ep3) rfl rfl ?_
    refine fx_if_eq (t := 28) dX11_least_14 rfl rfl (fun hc4 => ?_) (fun hc4 => ?_)
    · rw [if_pos hc4] at h
      exact fX11_least_28_ok (o4 := o4) (o5 := o5) hd ha0 q4 q5 h
    · rw [if_neg hc4] at h
      refine fx_aload_n dX11_least_17 rfl rfl ?_
      refine gx_getr dX11_least_18 rfl fd_11_10 ha0.1 rfl rfl ?_
      refine fx_iload_n dX11_least_21 rfl rfl ?_
      obtain ⟨p5, ep5, h⟩ := xBind_el h
      refine gx_callv (as := [.int a1]) (r := []) rfl dX11_least_22 ca_11_65 rfl me_20 rfl rfl rfl rfl (ha0.2.1.1) rfl (fX9_hasHall_ok (d := d) (by omega) ha0.2.1 ep5) rfl rfl ?_
      refine fx_if_ne (t := 30) dX11_least_25 rfl rfl (fun hc6 => ?_) (fun hc6 => ?_)
      · rw [if_pos hc6] at h
        refine fx_bipush (x := 60) dX11_least_30 rfl (by decide) ?_
        refine fx_istore (ls2 := [some (.ref a0), some (.int a1), some (.int a2), some (.int a3), some (.int (60 : Int32)), o5]) dX11_least_32 rfl rfl rfl ?_
        exact fX11_least_34_ok hd ha0 xFuel (60 : Int32) (o5) q5 p5.2 r h
      · rw [if_neg hc6] at h
        exact fX11_least_28_ok (o4 := o4) (o5 := o5) hd ha0 q4 q5 h
def fX11_least (a0 : Nat) (a1 : Int32) (a2 : Int32) (a3 : Int32) (m : xMem) : Option (Int32 × xMem) := fX11_least_0 a0 a1 a2 a3  m
theorem fX11_least_ok {a0 : Nat} {a1 : Int32} {a2 : Int32} {a3 : Int32} {m : xMem} {r : (Int32 × xMem)} {d : Nat} (hd : 8 ≤ d) (ha0 : isMS a0) (h : fX11_least a0 a1 a2 a3 m = some r) : xEx d 217 [.ref a0, .int a1, .int a2, .int a3] (xLay m) (some (.int r.1)) (xLay r.2) := by
  obtain ⟨d, rfl⟩ : ∃ q, d = q + 1 := ⟨d - 1, by omega⟩
  exact xEx_of me_217 rfl (fX11_least_0_ok (d := d) (o4 := none) (o5 := none) (by omega) ha0 rfl rfl h)
def fX12_least_25 (a0 : Nat) (a1 : Int32) (a2 : Int32) (a3 : Int32) (m : xMem) : Option (Int32 × xMem) := some ((-1 : Int32), m)
set_option maxRecDepth 4000 in
theorem fX12_least_25_ok {a0 : Nat} {a1 : Int32} {a2 : Int32} {a3 : Int32} {d : Nat} (hd : 6 ≤ d) (ha0 : isModel a0) {o4 : Option Value} {o5 : Option Value} {o6 : Option Value} {o7 : Option Value} {m : xMem} {r : (Int32 × xMem)} (q4 : xNoD o4 = true) (q5 : xNoD o5 = true) (q6 : xNoD o6 = true) (q7 : xNoD o7 = true) (h : fX12_least_25 a0 a1 a2 a3 m = some r) : xFx hh_220 cX12_least d 25 [some (.ref a0), some (.int a1), some (.int a2), some (.int a3), o4, o5, o6, o7] [] (xLay m) 0 0 (some (.int r.1)) (xLay r.2) := by
  unfold fX12_least_25 at h
  refine fx_iconst (x := -1) dX12_least_25 rfl (by decide) ?_
  cases h
  exact fx_ireturn dX12_least_26 rfl rfl
def fX12_least_133 (a0 : Nat) (a1 : Int32) (a2 : Int32) (a3 : Int32) (rec35 : Int32 → xMem → Option (Int32 × xMem)) (rec61 : Int32 → Int32 → Int32 → xMem → Option (Int32 × xMem)) (rec103 : Int32 → Int32 → Int32 → Int32 → xMem → Option (Int32 × xMem)) (l4 : Int32) (l6 : Int32) (l7 : Int32) (s0 : Int32) (m : xMem) : Option (Int32 × xMem) := xLet (l7 + (1 : Int32)) fun x1 => rec103 l4 s0 l6 x1 m
set_option maxRecDepth 4000 in
theorem fX12_least_133_ok {a0 : Nat} {a1 : Int32} {a2 : Int32} {a3 : Int32} {rec35 : Int32 → xMem → Option (Int32 × xMem)} {rec61 : Int32 → Int32 → Int32 → xMem → Option (Int32 × xMem)} {rec103 : Int32 → Int32 → Int32 → Int32 → xMem → Option (Int32 × xMem)} {d : Nat} (hd : 6 ≤ d) (ha0 : isModel a0) (hrec35 : ∀ (l4 : Int32) (o5 : Option Value) (o6 : Option Value) (o7 : Option Value) (q5 : xNoD o5 = true) (q6 : xNoD o6 = true) (q7 : xNoD o7 = true) (m : xMem) (r : (Int32 × xMem)), rec35 l4 m = some r → xFx hh_220 cX12_least d 35 [some (.ref a0), some (.int a1), some (.int a2), some (.int a3), some (.int l4), o5, o6, o7] [] (xLay m) 0 0 (some (.int r.1)) (xLay r.2)) (hrec61 : ∀ (l4 : Int32) (l5 : Int32) (l6 : Int32) (o7 : Option Value) (q7 : xNoD o7 = true) (m : xMem) (r : (Int32 × xMem)), rec61 l4 l5 l6 m = some r → xFx hh_220 cX12_least d 61 [some (.ref a0), some (.int a1), some (.int a2), some (.int a3), some (.int l4), some (.int l5), some (.int l6), o7] [] (xLay m) 0 0 (some (.int r.1)) (xLay r.2)) (hrec103 : ∀ (l4 : Int32) (l5 : Int32) (l6 : Int32) (l7 : Int32) (m : xMem) (r : (Int32 × xMem)), rec103 l4 l5 l6 l7 m = some r → xFx hh_220 cX12_least d 103 [some (.ref a0), some (.int a1), some (.int a2), some (.int a3), some (.int l4), some (.int l5), some (.int l6), some (.int l7)] [] (xLay m) 0 0 (some (.int r.1)) (xLay r.2)) {l4 : Int32} {l6 : Int32} {l7 : Int32} {s0 : Int32} {o5 : Option Value} {m : xMem} {r : (Int32 × xMem)} (q5 : xNoD o5 = true) (h : fX12_least_133 a0 a1 a2 a3 rec35 rec61 rec103 l4 l6 l7 s0 m = some r) : xFx hh_220 cX12_least d 133 [some (.ref a0), some (.int a1), some (.int a2), some (.int a3), some (.int l4), o5, some (.int l6), some (.int l7)] [.int s0] (xLay m) 0 0 (some (.int r.1)) (xLay r.2) := by
  unfold fX12_least_133 at h
  refine fx_istore (ls2 := [some (.ref a0), some (.int a1), some (.int a2), some (.int a3), some (.int l4), some (.int s0), some (.int l6), some (.int l7)]) dX12_least_133 rfl rfl rfl ?_
  obtain ⟨x1, hx1, h⟩ := xLet_el h
  refine fx_iinc (ls2 := [some (.ref a0), some (.int a1), some (.int a2), some (.int a3), some (.int l4), some (.int s0), some (.int l6), some (.int x1)]) dX12_least_135 rfl rfl rfl hx1 rfl ?_
  refine fx_goto (t := 103) dX12_least_138 rfl rfl ?_
  exact hrec103 l4 s0 l6 x1 m r h
def fX12_least_132 (a0 : Nat) (a1 : Int32) (a2 : Int32) (a3 : Int32) (rec35 : Int32 → xMem → Option (Int32 × xMem)) (rec61 : Int32 → Int32 → Int32 → xMem → Option (Int32 × xMem)) (rec103 : Int32 → Int32 → Int32 → Int32 → xMem → Option (Int32 × xMem)) (l4 : Int32) (l6 : Int32) (l7 : Int32) (m : xMem) : Option (Int32 × xMem) := fX12_least_133 a0 a1 a2 a3 rec35 rec61 rec103 l4 l6 l7 (0 : Int32) m
set_option maxRecDepth 4000 in
theorem fX12_least_132_ok {a0 : Nat} {a1 : Int32} {a2 : Int32} {a3 : Int32} {rec35 : Int32 → xMem → Option (Int32 × xMem)} {rec61 : Int32 → Int32 → Int32 → xMem → Option (Int32 × xMem)} {rec103 : Int32 → Int32 → Int32 → Int32 → xMem → Option (Int32 × xMem)} {d : Nat} (hd : 6 ≤ d) (ha0 : isModel a0) (hrec35 : ∀ (l4 : Int32) (o5 : Option Value) (o6 : Option Value) (o7 : Option Value) (q5 : xNoD o5 = true) (q6 : xNoD o6 = true) (q7 : xNoD o7 = true) (m : xMem) (r : (Int32 × xMem)), rec35 l4 m = some r → xFx hh_220 cX12_least d 35 [some (.ref a0), some (.int a1), some (.int a2), some (.int a3), some (.int l4), o5, o6, o7] [] (xLay m) 0 0 (some (.int r.1)) (xLay r.2)) (hrec61 : ∀ (l4 : Int32) (l5 : Int32) (l6 : Int32) (o7 : Option Value) (q7 : xNoD o7 = true) (m : xMem) (r : (Int32 × xMem)), rec61 l4 l5 l6 m = some r → xFx hh_220 cX12_least d 61 [some (.ref a0), some (.int a1), some (.int a2), some (.int a3), some (.int l4), some (.int l5), some (.int l6), o7] [] (xLay m) 0 0 (some (.int r.1)) (xLay r.2)) (hrec103 : ∀ (l4 : Int32) (l5 : Int32) (l6 : Int32) (l7 : Int32) (m : xMem) (r : (Int32 × xMem)), rec103 l4 l5 l6 l7 m = some r → xFx hh_220 cX12_least d 103 [some (.ref a0), some (.int a1), some (.int a2), some (.int a3), some (.int l4), some (.int l5), some (.int l6), some (.int l7)] [] (xLay m) 0 0 (some (.int r.1)) (xLay r.2)) {l4 : Int32} {l6 : Int32} {l7 : Int32} {o5 : Option Value} {m : xMem} {r : (Int32 × xMem)} (q5 : xNoD o5 = true) (h : fX12_least_132 a0 a1 a2 a3 rec35 rec61 rec103 l4 l6 l7 m = some r) : xFx hh_220 cX12_least d 132 [some (.ref a0), some (.int a1), some (.int a2), some (.int a3), some (.int l4), o5, some (.int l6), some (.int l7)] [] (xLay m) 0 0 (some (.int r.1)) (xLay r.2) := by
  unfold fX12_least_132 at h
  refine fx_iconst (x := 0) dX12_least_132 rfl (by decide) ?_
  exact fX12_least_133_ok (o5 := o5) hd ha0 hrec35 hrec61 hrec103 q5 h
def fX12_least_103 (a0 : Nat) (a1 : Int32) (a2 : Int32) (a3 : Int32) (rec35 : Int32 → xMem → Option (Int32 × xMem)) (rec61 : Int32 → Int32 → Int32 → xMem → Option (Int32 × xMem)) : Nat → Int32 → Int32 → Int32 → Int32 → xMem → Option (Int32 × xMem)
  | 0, _, _, _, _, _ => none
  | fuel + 1, l4, l5, l6, l7, m => bif xIn (1 : Int32) 1610 then xLet (m.1 (a0 + 1) (1 : Int32).toNatClampNeg) fun x1 => if x1 ≤ l7 then xLet (l6 + (1 : Int32)) fun x4 => rec61 l4 l5 x4 m else if l5 = (0 : Int32) then fX12_least_132 a0 a1 a2 a3 rec35 rec61 (fX12_least_103 a0 a1 a2 a3 rec35 rec61 fuel) l4 l6 l7 m else (fX12_isOver a0 l7 m).bind fun p6 => if ¬ p6.1 = (0 : Int32) then fX12_least_132 a0 a1 a2 a3 rec35 rec61 (fX12_least_103 a0 a1 a2 a3 rec35 rec61 fuel) l4 l6 l7 p6.2 else fX12_least_133 a0 a1 a2 a3 rec35 rec61 (fX12_least_103 a0 a1 a2 a3 rec35 rec61 fuel) l4 l6 l7 (1 : Int32) p6.2 else none
set_option maxRecDepth 4000 in
theorem fX12_least_103_ok {a0 : Nat} {a1 : Int32} {a2 : Int32} {a3 : Int32} {rec35 : Int32 → xMem → Option (Int32 × xMem)} {rec61 : Int32 → Int32 → Int32 → xMem → Option (Int32 × xMem)} {d : Nat} (hd : 6 ≤ d) (ha0 : isModel a0) (hrec35 : ∀ (l4 : Int32) (o5 : Option Value) (o6 : Option Value) (o7 : Option Value) (q5 : xNoD o5 = true) (q6 : xNoD o6 = true) (q7 : xNoD o7 = true) (m : xMem) (r : (Int32 × xMem)), rec35 l4 m = some r → xFx hh_220 cX12_least d 35 [some (.ref a0), some (.int a1), some (.int a2), some (.int a3), some (.int l4), o5, o6, o7] [] (xLay m) 0 0 (some (.int r.1)) (xLay r.2)) (hrec61 : ∀ (l4 : Int32) (l5 : Int32) (l6 : Int32) (o7 : Option Value) (q7 : xNoD o7 = true) (m : xMem) (r : (Int32 × xMem)), rec61 l4 l5 l6 m = some r → xFx hh_220 cX12_least d 61 [some (.ref a0), some (.int a1), some (.int a2), some (.int a3), some (.int l4), some (.int l5), some (.int l6), o7] [] (xLay m) 0 0 (some (.int r.1)) (xLay r.2)) : ∀ (fuel : Nat) (l4 : Int32) (l5 : Int32) (l6 : Int32) (l7 : Int32) (m : xMem) (r : (Int32 × xMem)), fX12_least_103 a0 a1 a2 a3 rec35 rec61 fuel l4 l5 l6 l7 m = some r → xFx hh_220 cX12_least d 103 [some (.ref a0), some (.int a1), some (.int a2), some (.int a3), some (.int l4), some (.int l5), some (.int l6), some (.int l7)] [] (xLay m) 0 0 (some (.int r.1)) (xLay r.2) := by
  intro fuel
  induction fuel with
  | zero => intro l4 l5 l6 l7  m r  h; cases h
  | succ fuel ih =>
    intro l4 l5 l6 l7  m r  h
    unfold fX12_least_103 at h
    refine fx_iload dX12_least_103 rfl rfl ?_
    refine fx_aload_n dX12_least_105 rfl rfl ?_
    refine gx_getr dX12_least_106 rfl fd_12_7 ha0.1 rfl rfl ?_
    refine fx_iconst (x := 1) dX12_least_109 rfl (by decide) ?_
    obtain ⟨hj2, h⟩ := xChk_el h
    obtain ⟨x1, hx1, h⟩ := xLet_el h
    refine gx_iaload dX12_least_110 rfl ha0.2.1 hj2 hx1 ?_
    refine fx_icmp_ge (t := 141) dX12_least_111 rfl rfl (fun hc3 => ?_) (fun hc3 => ?_)
    · rw [if_pos hc3] at h
      obtain ⟨x4, hx4, h⟩ := xLet_el h
      refine fx_iinc (ls2 := [some (.ref a0), some (.int a1), some (.int a2), some (.int a3), some (.int l4), some (.int l5), some (.int x4), some (.int l7)]) dX12_least_141 rfl rfl rfl hx4 rfl ?_
      refine fx_goto (t := 61) dX12_least_144 rfl rfl ?_
      exact hrec61 l4 l5 x4 (some (.int l7)) rfl m r h
    · rw [if_neg hc3] at h
      refine fx_iload dX12_least_114 rfl rfl ?_
      refine fx_if_eq (t := 132) dX12_least_116 rfl rfl (fun hc5 => ?_) (fun hc5 => ?_)
      · rw [if_pos hc5] at h
        exact fX12_least_132_ok (o5 := some (.int l5)) hd ha0 hrec35 hrec61 ih rfl h
      · rw [if_neg hc5] at h
        refine fx_aload_n dX12_least_119 rfl rfl ?_
        refine fx_iload dX12_least_120 rfl rfl ?_
        obtain ⟨p6, ep6, h⟩ := xBind_el h
        refine gx_callv (as := [.int l7]) (r := []) rfl dX12_least_122 ca_12_374 rfl me_192 rfl rfl rfl rfl (ha0.1) rfl (fX12_isOver_ok (d := d) (by omega) ha0 ep6) rfl rfl ?_
        refine fx_if_ne (t := 132) dX12_least_125 rfl rfl (fun hc7 => ?_) (fun hc7 => ?_)
        · rw [if_pos hc7] at h
          exact fX12_least_132_ok (o5 := some (.int l5)) hd ha0 hrec35 hrec61 ih rfl h
        · rw [if_neg hc7] at h
          refine fx_iconst (x := 1) dX12_least_128 rfl (by decide) ?_
          refine fx_goto (t := 133) dX12_least_129 rfl rfl ?_
          exact fX12_least_133_ok (o5 := some (.int l5)) hd ha0 hrec35 hrec61 ih rfl h
def fX12_least_98 (a0 : Nat) (a1 : Int32) (a2 : Int32) (a3 : Int32) (rec35 : Int32 → xMem → Option (Int32 × xMem)) (rec61 : Int32 → Int32 → Int32 → xMem → Option (Int32 × xMem)) (l4 : Int32) (l6 : Int32) (s0 : Int32) (m : xMem) : Option (Int32 × xMem) := fX12_least_103 a0 a1 a2 a3 rec35 rec61 xFuel l4 s0 l6 (0 : Int32) m
set_option maxRecDepth 4000 in
theorem fX12_least_98_ok {a0 : Nat} {a1 : Int32} {a2 : Int32} {a3 : Int32} {rec35 : Int32 → xMem → Option (Int32 × xMem)} {rec61 : Int32 → Int32 → Int32 → xMem → Option (Int32 × xMem)} {d : Nat} (hd : 6 ≤ d) (ha0 : isModel a0) (hrec35 : ∀ (l4 : Int32) (o5 : Option Value) (o6 : Option Value) (o7 : Option Value) (q5 : xNoD o5 = true) (q6 : xNoD o6 = true) (q7 : xNoD o7 = true) (m : xMem) (r : (Int32 × xMem)), rec35 l4 m = some r → xFx hh_220 cX12_least d 35 [some (.ref a0), some (.int a1), some (.int a2), some (.int a3), some (.int l4), o5, o6, o7] [] (xLay m) 0 0 (some (.int r.1)) (xLay r.2)) (hrec61 : ∀ (l4 : Int32) (l5 : Int32) (l6 : Int32) (o7 : Option Value) (q7 : xNoD o7 = true) (m : xMem) (r : (Int32 × xMem)), rec61 l4 l5 l6 m = some r → xFx hh_220 cX12_least d 61 [some (.ref a0), some (.int a1), some (.int a2), some (.int a3), some (.int l4), some (.int l5), some (.int l6), o7] [] (xLay m) 0 0 (some (.int r.1)) (xLay r.2)) {l4 : Int32} {l6 : Int32} {s0 : Int32} {o5 : Option Value} {o7 : Option Value} {m : xMem} {r : (Int32 × xMem)} (q5 : xNoD o5 = true) (q7 : xNoD o7 = true) (h : fX12_least_98 a0 a1 a2 a3 rec35 rec61 l4 l6 s0 m = some r) : xFx hh_220 cX12_least d 98 [some (.ref a0), some (.int a1), some (.int a2), some (.int a3), some (.int l4), o5, some (.int l6), o7] [.int s0] (xLay m) 0 0 (some (.int r.1)) (xLay r.2) := by
  unfold fX12_least_98 at h
  refine fx_istore (ls2 := [some (.ref a0), some (.int a1), some (.int a2), some (.int a3), some (.int l4), some (.int s0), some (.int l6), o7]) dX12_least_98 rfl rfl rfl ?_
  refine fx_iconst (x := 0) dX12_least_100 rfl (by decide) ?_
  refine fx_istore (ls2 := [some (.ref a0), some (.int a1), some (.int a2), some (.int a3), some (.int l4), some (.int s0), some (.int l6), some (.int (0 : Int32))]) dX12_least_101 rfl rfl rfl ?_
  exact fX12_least_103_ok hd ha0 hrec35 hrec61 xFuel l4 s0 l6 (0 : Int32) m r h
def fX12_least_189 (a0 : Nat) (a1 : Int32) (a2 : Int32) (a3 : Int32) (s0 : Int32) (m : xMem) : Option (Int32 × xMem) := some (s0, m)
set_option maxRecDepth 4000 in
theorem fX12_least_189_ok {a0 : Nat} {a1 : Int32} {a2 : Int32} {a3 : Int32} {d : Nat} (hd : 6 ≤ d) (ha0 : isModel a0) {s0 : Int32} {o4 : Option Value} {o5 : Option Value} {o6 : Option Value} {o7 : Option Value} {m : xMem} {r : (Int32 × xMem)} (q4 : xNoD o4 = true) (q5 : xNoD o5 = true) (q6 : xNoD o6 = true) (q7 : xNoD o7 = true) (h : fX12_least_189 a0 a1 a2 a3 s0 m = some r) : xFx hh_220 cX12_least d 189 [some (.ref a0), some (.int a1), some (.int a2), some (.int a3), o4, o5, o6, o7] [.int s0] (xLay m) 0 0 (some (.int r.1)) (xLay r.2) := by
  unfold fX12_least_189 at h
  cases h
  exact fx_ireturn dX12_least_189 rfl rfl
def fX12_least_147 (a0 : Nat) (a1 : Int32) (a2 : Int32) (a3 : Int32) (rec35 : Int32 → xMem → Option (Int32 × xMem)) (l4 : Int32) (l5 : Int32) (m : xMem) : Option (Int32 × xMem) := (fX12_hallOf a0 a1 (2 : Int32) m).bind fun p1 => xLet ((4 : Int32) * a1) fun x2 => xLet ((20 : Int32) + x2) fun x3 => xLet (x3 + (2 : Int32)) fun x4 => bif xIn x4 1610 then xLet (p1.2.1 (a0 + 3) x4.toNatClampNeg) fun x5 => xLet (p1.1 - x5) fun x7 => (fX12_putsBack a0 p1.2).bind fun p8 => if l5 = (0 : Int32) then xLet (l4 + (-1 : Int32)) fun x10 => rec35 x10 p8 else if ¬ a3 = (0 : Int32) then fX12_least_189 a0 a1 a2 a3 x7 p8 else fX12_least_189 a0 a1 a2 a3 l4 p8 else none
set_option maxRecDepth 4000 in
theorem fX12_least_147_ok {a0 : Nat} {a1 : Int32} {a2 : Int32} {a3 : Int32} {rec35 : Int32 → xMem → Option (Int32 × xMem)} {d : Nat} (hd : 6 ≤ d) (ha0 : isModel a0) (hrec35 : ∀ (l4 : Int32) (o5 : Option Value) (o6 : Option Value) (o7 : Option Value) (q5 : xNoD o5 = true) (q6 : xNoD o6 = true) (q7 : xNoD o7 = true) (m : xMem) (r : (Int32 × xMem)), rec35 l4 m = some r → xFx hh_220 cX12_least d 35 [some (.ref a0), some (.int a1), some (.int a2), some (.int a3), some (.int l4), o5, o6, o7] [] (xLay m) 0 0 (some (.int r.1)) (xLay r.2)) {l4 : Int32} {l5 : Int32} {o6 : Option Value} {o7 : Option Value} {m : xMem} {r : (Int32 × xMem)} (q6 : xNoD o6 = true) (q7 : xNoD o7 = true) (h : fX12_least_147 a0 a1 a2 a3 rec35 l4 l5 m = some r) : xFx hh_220 cX12_least d 147 [some (.ref a0), some (.int a1), some (.int a2), some (.int a3), some (.int l4), some (.int l5), o6, o7] [] (xLay m) 0 0 (some (.int r.1)) (xLay r.2) := by
  unfold fX12_least_147 at h
  refine fx_aload_n dX12_least_147 rfl rfl ?_
  refine fx_iload_n dX12_least_148 rfl rfl ?_
  refine fx_iconst (x := 2) dX12_least_149 rfl (by decide) ?_
  obtain ⟨p1, ep1, h⟩ := xBind_el h
  refine gx_callv (as := [.int a1, .int (2 : Int32)]) (r := []) rfl dX12_least_150 ca_12_295 rfl me_170 rfl rfl rfl rfl (ha0.1) rfl (fX12_hallOf_ok (d := d) (by omega) ha0 ep1) rfl rfl ?_
  refine fx_aload_n dX12_least_153 rfl rfl ?_
  refine gx_getr dX12_least_154 rfl fd_12_16 ha0.1 rfl rfl ?_
  refine fx_bipush (x := 20) dX12_least_157 rfl (by decide) ?_
  refine fx_iconst (x := 4) dX12_least_159 rfl (by decide) ?_
  refine fx_iload_n dX12_least_160 rfl rfl ?_
  obtain ⟨x2, hx2, h⟩ := xLet_el h
  refine fx_imul dX12_least_161 rfl hx2 ?_
  obtain ⟨x3, hx3, h⟩ := xLet_el h
  refine fx_iadd dX12_least_162 rfl hx3 ?_
  refine fx_iconst (x := 2) dX12_least_163 rfl (by decide) ?_
  obtain ⟨x4, hx4, h⟩ := xLet_el h
  refine fx_iadd dX12_least_164 rfl hx4 ?_
  obtain ⟨hj6, h⟩ := xChk_el h
  obtain ⟨x5, hx5, h⟩ := xLet_el h
  refine gx_iaload dX12_least_165 rfl ha0.2.2.2.1 hj6 hx5 ?_
  obtain ⟨x7, hx7, h⟩ := xLet_el h
  refine fx_isub dX12_least_166 rfl hx7 ?_
  refine fx_istore (ls2 := [some (.ref a0), some (.int a1), some (.int a2), some (.int a3), some (.int l4), some (.int l5), some (.int x7), o7]) dX12_least_167 rfl rfl rfl ?_
  refine fx_aload_n dX12_least_169 rfl rfl ?_
  obtain ⟨p8, ep8, h⟩ := xBind_el h
  refine gx_callv (as := []) (r := []) rfl dX12_least_170 ca_12_395 rfl me_216 rfl rfl rfl rfl (ha0.1) rfl (fX12_putsBack_ok (d := d) (by omega) ha0 ep8) rfl rfl ?_
  refine fx_iload dX12_least_173 rfl rfl ?_
  refine fx_if_eq (t := 190) dX12_least_175 rfl rfl (fun hc9 => ?_) (fun hc9 => ?_)
  · rw [if_pos hc9] at h
    obtain ⟨x10, hx10, h⟩ := xLet_el h
    refine fx_iinc (ls2 := [some (.ref a0), some (.int a1), some (.int a2), some (.int a3), some (.int x10), some (.int l5), some (.int x7), o7]) dX12_least_190 rfl rfl rfl hx10 rfl ?_
    refine fx_goto (t := 35) dX12_least_193 rfl rfl ?_
    exact hrec35 x10 (some (.int l5)) (some (.int x7)) (o7) rfl rfl q7 p8 r h
  · rw [if_neg hc9] at h
    refine fx_iload_n dX12_least_178 rfl rfl ?_
    refine fx_if_ne (t := 187) dX12_least_179 rfl rfl (fun hc11 => ?_) (fun hc11 => ?_)
    · rw [if_pos hc11] at h
      refine fx_iload dX12_least_187 rfl rfl ?_
      exact fX12_least_189_ok (o4 := some (.int l4)) (o5 := some (.int l5)) (o6 := some (.int x7)) (o7 := o7) hd ha0 rfl rfl rfl q7 h
    · rw [if_neg hc11] at h
      refine fx_iload dX12_least_182 rfl rfl ?_
      refine fx_goto (t := 189) dX12_least_184 rfl rfl ?_
      exact fX12_least_189_ok (o4 := some (.int l4)) (o5 := some (.int l5)) (o6 := some (.int x7)) (o7 := o7) hd ha0 rfl rfl rfl q7 h
def fX12_least_61 (a0 : Nat) (a1 : Int32) (a2 : Int32) (a3 : Int32) (rec35 : Int32 → xMem → Option (Int32 × xMem)) : Nat → Int32 → Int32 → Int32 → xMem → Option (Int32 × xMem)
  | 0, _, _, _, _ => none
  | fuel + 1, l4, l5, l6, m => if a2 ≤ l6 then fX12_least_147 a0 a1 a2 a3 rec35 l4 l5 m else if l5 = (0 : Int32) then fX12_least_147 a0 a1 a2 a3 rec35 l4 l5 m else (fX12_second a0 m).bind fun p3 => bif xIn (12 : Int32) 1610 then xLet (p3.1 (a0 + 1) (12 : Int32).toNatClampNeg) fun x4 => bif xIn (12 : Int32) 1610 then xLet (p3.1 (a0 + 3) (12 : Int32).toNatClampNeg) fun x6 => if ¬ x4 = x6 then fX12_least_98 a0 a1 a2 a3 rec35 (fX12_least_61 a0 a1 a2 a3 rec35 fuel) l4 l6 (0 : Int32) p3 else fX12_least_98 a0 a1 a2 a3 rec35 (fX12_least_61 a0 a1 a2 a3 rec35 fuel) l4 l6 (1 : Int32) p3 else none else none
set_option maxRecDepth 4000 in
theorem fX12_least_61_ok {a0 : Nat} {a1 : Int32} {a2 : Int32} {a3 : Int32} {rec35 : Int32 → xMem → Option (Int32 × xMem)} {d : Nat} (hd : 6 ≤ d) (ha0 : isModel a0) (hrec35 : ∀ (l4 : Int32) (o5 : Option Value) (o6 : Option Value) (o7 : Option Value) (q5 : xNoD o5 = true) (q6 : xNoD o6 = true) (q7 : xNoD o7 = true) (m : xMem) (r : (Int32 × xMem)), rec35 l4 m = some r → xFx hh_220 cX12_least d 35 [some (.ref a0), some (.int a1), some (.int a2), some (.int a3), some (.int l4), o5, o6, o7] [] (xLay m) 0 0 (some (.int r.1)) (xLay r.2)) : ∀ (fuel : Nat) (l4 : Int32) (l5 : Int32) (l6 : Int32) (o7 : Option Value) (q7 : xNoD o7 = true) (m : xMem) (r : (Int32 × xMem)), fX12_least_61 a0 a1 a2 a3 rec35 fuel l4 l5 l6 m = some r → xFx hh_220 cX12_least d 61 [some (.ref a0), some (.int a1), some (.int a2), some (.int a3), some (.int l4), some (.int l5), some (.int l6), o7] [] (xLay m) 0 0 (some (.int r.1)) (xLay r.2) := by
  intro fuel
  induction fuel with
  | zero => intro l4 l5 l6 o7 q7 m r  h; cases h
  | succ fuel ih =>
    intro l4 l5 l6 o7 q7 m r  h
    unfold fX12_least_61 at h
    refine fx_iload dX12_least_61 rfl rfl ?_
    refine fx_iload_n dX12_least_63 rfl rfl ?_
    refine fx_icmp_ge (t := 147) dX12_least_64 rfl rfl (fun hc1 => ?_) (fun hc1 => ?_)
    · rw [if_pos hc1] at h
      exact fX12_least_147_ok (o6 := some (.int l6)) (o7 := o7) hd ha0 hrec35 rfl q7 h
    · rw [if_neg hc1] at h
      refine fx_iload dX12_least_67 rfl rfl ?_
      refine fx_if_eq (t := 147) dX12_least_69 rfl rfl (fun hc2 => ?_) (fun hc2 => ?_)
      · rw [if_pos hc2] at h
        exact fX12_least_147_ok (o6 := some (.int l6)) (o7 := o7) hd ha0 hrec35 rfl q7 h
      · rw [if_neg hc2] at h
        refine fx_aload_n dX12_least_72 rfl rfl ?_
        obtain ⟨p3, ep3, h⟩ := xBind_el h
        refine gx_callv (as := []) (r := []) rfl dX12_least_73 ca_12_380 rfl me_164 rfl rfl rfl rfl (ha0.1) rfl (fX12_second_ok (d := d) (by omega) ha0 ep3) rfl rfl ?_
        refine fx_aload_n dX12_least_76 rfl rfl ?_
        refine gx_getr dX12_least_77 rfl fd_12_7 ha0.1 rfl rfl ?_
        refine fx_bipush (x := 12) dX12_least_80 rfl (by decide) ?_
        obtain ⟨hj5, h⟩ := xChk_el h
        obtain ⟨x4, hx4, h⟩ := xLet_el h
        refine gx_iaload dX12_least_82 rfl ha0.2.1 hj5 hx4 ?_
        refine fx_aload_n dX12_least_83 rfl rfl ?_
        refine gx_getr dX12_least_84 rfl fd_12_16 ha0.1 rfl rfl ?_
        refine fx_bipush (x := 12) dX12_least_87 rfl (by decide) ?_
        obtain ⟨hj7, h⟩ := xChk_el h
        obtain ⟨x6, hx6, h⟩ := xLet_el h
        refine gx_iaload dX12_least_89 rfl ha0.2.2.2.1 hj7 hx6 ?_
        refine fx_icmp_ne (t := 97) dX12_least_90 rfl rfl (fun hc8 => ?_) (fun hc8 => ?_)
        · rw [if_pos hc8] at h
          refine fx_iconst (x := 0) dX12_least_97 rfl (by decide) ?_
          exact fX12_least_98_ok (o5 := some (.int l5)) (o7 := o7) hd ha0 hrec35 ih rfl q7 h
        · rw [if_neg hc8] at h
          refine fx_iconst (x := 1) dX12_least_93 rfl (by decide) ?_
          refine fx_goto (t := 98) dX12_least_94 rfl rfl ?_
          exact fX12_least_98_ok (o5 := some (.int l5)) (o7 := o7) hd ha0 hrec35 ih rfl q7 h
def fX12_least_35 (a0 : Nat) (a1 : Int32) (a2 : Int32) (a3 : Int32) : Nat → Int32 → xMem → Option (Int32 × xMem)
  | 0, _, _ => none
  | fuel + 1, l4, m => if l4 < (0 : Int32) then some ((-1 : Int32), m) else xLet ((4 : Int32) * a1) fun x2 => xLet ((20 : Int32) + x2) fun x3 => xLet (x3 + (1 : Int32)) fun x4 => bif xIn x4 1610 then xLet (xPut m (a0 + 1) x4.toNatClampNeg l4) fun m5 => fX12_least_61 a0 a1 a2 a3 (fX12_least_35 a0 a1 a2 a3 fuel) xFuel l4 (1 : Int32) (0 : Int32) m5 else none
set_option maxRecDepth 4000 in
theorem fX12_least_35_ok {a0 : Nat} {a1 : Int32} {a2 : Int32} {a3 : Int32} {d : Nat} (hd : 6 ≤ d) (ha0 : isModel a0) : ∀ (fuel : Nat) (l4 : Int32) (o5 : Option Value) (o6 : Option Value) (o7 : Option Value) (q5 : xNoD o5 = true) (q6 : xNoD o6 = true) (q7 : xNoD o7 = true) (m : xMem) (r : (Int32 × xMem)), fX12_least_35 a0 a1 a2 a3 fuel l4 m = some r → xFx hh_220 cX12_least d 35 [some (.ref a0), some (.int a1), some (.int a2), some (.int a3), some (.int l4), o5, o6, o7] [] (xLay m) 0 0 (some (.int r.1)) (xLay r.2) := by
  intro fuel
  induction fuel with
  | zero => intro l4 o5 o6 o7 q5 q6 q7 m r  h; cases h
  | succ fuel ih =>
    intro l4 o5 o6 o7 q5 q6 q7 m r  h
    unfold fX12_least_35 at h
    refine fx_iload dX12_least_35 rfl rfl ?_
    refine fx_if_lt (t := 196) dX12_least_37 rfl rfl (fun hc1 => ?_) (fun hc1 => ?_)
    · rw [if_pos hc1] at h
      refine fx_iconst (x := -1) dX12_least_196 rfl (by decide) ?_
      cases h
      exact fx_ireturn dX12_least_197 rfl rfl
    · rw [if_neg hc1] at h
      refine fx_aload_n dX12_least_40 rfl rfl ?_
      refine gx_getr dX12_least_41 rfl fd_12_7 ha0.1 rfl rfl ?_
      refine fx_bipush (x := 20) dX12_least_44 rfl (by decide) ?_
      refine fx_iconst (x := 4) dX12_least_46 rfl (by decide) ?_
      refine fx_iload_n dX12_least_47 rfl rfl ?_
      obtain ⟨x2, hx2, h⟩ := xLet_el h
      refine fx_imul dX12_least_48 rfl hx2 ?_
      obtain ⟨x3, hx3, h⟩ := xLet_el h
      refine fx_iadd dX12_least_49 rfl hx3 ?_
      refine fx_iconst (x := 1) dX12_least_50 rfl (by decide) ?_
      obtain ⟨x4, hx4, h⟩ := xLet_el h
      refine fx_iadd dX12_least_51 rfl hx4 ?_
      refine fx_iload dX12_least_52 rfl rfl ?_
      obtain ⟨hj6, h⟩ := xChk_el h
      obtain ⟨m5, hm5, h⟩ := xLet_el h
      refine gx_iastore dX12_least_54 rfl ha0.2.1 hj6 hm5 ?_
      refine fx_iconst (x := 1) dX12_least_55 rfl (by decide) ?_
      refine fx_istore (ls2 := [some (.ref a0), some (.int a1), some (.int a2), some (.int a3), some (.int l4), some (.int (1 : Int32)), o6, o7]) dX12_least_56 rfl rfl rfl ?_
      refine fx_iconst (x := 0) dX12_least_58 rfl (by decide) ?_
      refine fx_istore (ls2 := [some (.ref a0), some (.int a1), some (.int a2), some (.int a3), some (.int l4), some (.int (1 : Int32)), some (.int (0 : Int32)), o7]) dX12_least_59 rfl rfl rfl ?_
      exact fX12_least_61_ok hd ha0 ih xFuel l4 (1 : Int32) (0 : Int32) (o7) q7 m5 r h
def fX12_least_0 (a0 : Nat) (a1 : Int32) (a2 : Int32) (a3 : Int32) (m : xMem) : Option (Int32 × xMem) := (fX12_isHall a0 a1 m).bind fun p1 => if p1.1 = (0 : Int32) then fX12_least_25 a0 a1 a2 a3 p1.2 else (fX12_isRun a0 a2 p1.2).bind fun p3 => if p3.1 = (0 : Int32) then fX12_least_25 a0 a1 a2 a3 p3.2 else (fX12_in a3 (0 : Int32) (1 : Int32) p3.2).bind fun p5 => if ¬ p5.1 = (0 : Int32) then (fX12_saves a0 p5.2).bind fun p7 => fX12_least_35 a0 a1 a2 a3 xFuel (60 : Int32) p7 else fX12_least_25 a0 a1 a2 a3 p5.2
set_option maxRecDepth 4000 in
theorem fX12_least_0_ok {a0 : Nat} {a1 : Int32} {a2 : Int32} {a3 : Int32} {d : Nat} (hd : 6 ≤ d) (ha0 : isModel a0) {o4 : Option Value} {o5 : Option Value} {o6 : Option Value} {o7 : Option Value} {m : xMem} {r : (Int32 × xMem)} (q4 : xNoD o4 = true) (q5 : xNoD o5 = true) (q6 : xNoD o6 = true) (q7 : xNoD o7 = true) (h : fX12_least_0 a0 a1 a2 a3 m = some r) : xFx hh_220 cX12_least d 0 [some (.ref a0), some (.int a1), some (.int a2), some (.int a3), o4, o5, o6, o7] [] (xLay m) 0 0 (some (.int r.1)) (xLay r.2) := by
  unfold fX12_least_0 at h
  refine fx_aload_n dX12_least_0 rfl rfl ?_
  refine fx_iload_n dX12_least_1 rfl rfl ?_
  obtain ⟨p1, ep1, h⟩ := xBind_el h
  refine gx_callv (as := [.int a1]) (r := []) rfl dX12_least_2 ca_12_107 rfl me_22 rfl rfl rfl rfl (ha0.1) rfl (fX12_isHall_ok (d := d) (by omega) ha0 ep1) rfl rfl ?_
  refine fx_if_eq (t := 25) dX12_least_5 rfl rfl (fun hc2 => ?_) (fun hc2 => ?_)
  · rw [if_pos hc2] at h
    exact fX12_least_25_ok (o4 := o4) (o5 := o5) (o6 := o6) (o7 := o7) hd ha0 q4 q5 q6 q7 h
  · rw [if_neg hc2] at h
    refine fx_aload_n dX12_least_8 rfl rfl ?_
    refine fx_iload_n dX12_least_9 rfl rfl ?_
    obtain ⟨p3, ep3, h⟩ := xBind_el h
    refine gx_callv (as := [.int a2]) (r := []) rfl dX12_least_10 ca_12_377 rfl me_163 rfl rfl rfl rfl (ha0.1) rfl (fX12_isRun_ok (d := d) (by omega) ha0 ep3) rfl rfl ?_
    refine fx_if_eq (t := 25) dX12_least_13 rfl rfl (fun hc4 => ?_) (fun hc4 => ?_)
    · rw [if_pos hc4] at h
      exact fX12_least_25_ok (o4 := o4) (o5 := o5) (o6 := o6) (o7 := o7) hd ha0 q4 q5 q6 q7 h
    · rw [if_neg hc4] at h
      refine fx_iload_n dX12_least_16 rfl rfl ?_
      refine fx_iconst (x := 0) dX12_least_17 rfl (by decide) ?_
      refine fx_iconst (x := 1) dX12_least_18 rfl (by decide) ?_
      obtain ⟨p5, ep5, h⟩ := xBind_el h
      refine gx_calls (as := [.int a3, .int (0 : Int32), .int (1 : Int32)]) (r := []) rfl dX12_least_19 ca_12_95 rfl me_18 rfl rfl rfl rfl (fX12_in_ok (d := d) (by omega) ep5) rfl rfl ?_
      refine fx_if_ne (t := 27) dX12_least_22 rfl rfl (fun hc6 => ?_) (fun hc6 => ?_)
      · rw [if_pos hc6] at h
        refine fx_aload_n dX12_least_27 rfl rfl ?_
        obtain ⟨p7, ep7, h⟩ := xBind_el h
        refine gx_callv (as := []) (r := []) rfl dX12_least_28 ca_12_386 rfl me_214 rfl rfl rfl rfl (ha0.1) rfl (fX12_saves_ok (d := d) (by omega) ha0 ep7) rfl rfl ?_
        refine fx_bipush (x := 60) dX12_least_31 rfl (by decide) ?_
        refine fx_istore (ls2 := [some (.ref a0), some (.int a1), some (.int a2), some (.int a3), some (.int (60 : Int32)), o5, o6, o7]) dX12_least_33 rfl rfl rfl ?_
        exact fX12_least_35_ok hd ha0 xFuel (60 : Int32) (o5) (o6) (o7) q5 q6 q7 p7 r h
      · rw [if_neg hc6] at h
        exact fX12_least_25_ok (o4 := o4) (o5 := o5) (o6 := o6) (o7 := o7) hd ha0 q4 q5 q6 q7 h
def fX12_least (a0 : Nat) (a1 : Int32) (a2 : Int32) (a3 : Int32) (m : xMem) : Option (Int32 × xMem) := fX12_least_0 a0 a1 a2 a3  m
theorem fX12_least_ok {a0 : Nat} {a1 : Int32} {a2 : Int32} {a3 : Int32} {m : xMem} {r : (Int32 × xMem)} {d : Nat} (hd : 7 ≤ d) (ha0 : isModel a0) (h : fX12_least a0 a1 a2 a3 m = some r) : xEx d 220 [.ref a0, .int a1, .int a2, .int a3] (xLay m) (some (.int r.1)) (xLay r.2) := by
  obtain ⟨d, rfl⟩ : ∃ q, d = q + 1 := ⟨d - 1, by omega⟩
  exact xEx_of me_220 rfl (fX12_least_0_ok (d := d) (o4 := none) (o5 := none) (o6 := none) (o7 := none) (by omega) ha0 rfl rfl rfl rfl h)
def fX11_felt_19 (a0 : Nat) (a1 : Int32) (a2 : Int32) (m : xMem) : Option (Int32 × xMem) := some ((-1 : Int32), m)
set_option maxRecDepth 4000 in
theorem fX11_felt_19_ok {a0 : Nat} {a1 : Int32} {a2 : Int32} {d : Nat} (hd : 6 ≤ d) (ha0 : isMS a0) {o3 : Option Value} {o4 : Option Value} {o5 : Option Value} {m : xMem} {r : (Int32 × xMem)} (q3 : xNoD o3 = true) (q4 : xNoD o4 = true) (q5 : xNoD o5 = true) (h : fX11_felt_19 a0 a1 a2 m = some r) : xFx hh_221 cX11_felt d 19 [some (.ref a0), some (.int a1), some (.int a2), o3, o4, o5] [] (xLay m) 0 0 (some (.int r.1)) (xLay r.2) := by
  unfold fX11_felt_19 at h
  refine fx_iconst (x := -1) dX11_felt_19 rfl (by decide) ?_
  cases h
  exact fx_ireturn dX11_felt_20 rfl rfl
def fX11_felt_105 (a0 : Nat) (a1 : Int32) (a2 : Int32) (rec56 : Nat → Int32 → Int32 → xMem → Option (Int32 × xMem)) (l3 : Nat) (l4 : Int32) (l5 : Int32) (m : xMem) : Option (Int32 × xMem) := xLet (l5 + (1 : Int32)) fun x1 => rec56 l3 l4 x1 m
set_option maxRecDepth 4000 in
theorem fX11_felt_105_ok {a0 : Nat} {a1 : Int32} {a2 : Int32} {rec56 : Nat → Int32 → Int32 → xMem → Option (Int32 × xMem)} {d : Nat} (hd : 6 ≤ d) (ha0 : isMS a0) (hrec56 : ∀ (l3 : Nat) (l4 : Int32) (l5 : Int32) (m : xMem) (r : (Int32 × xMem)) (hl3 : isText l3), rec56 l3 l4 l5 m = some r → xFx hh_221 cX11_felt d 56 [some (.ref a0), some (.int a1), some (.int a2), some (.ref l3), some (.int l4), some (.int l5)] [] (xLay m) 0 0 (some (.int r.1)) (xLay r.2)) {l3 : Nat} {l4 : Int32} {l5 : Int32} {m : xMem} {r : (Int32 × xMem)} (hl3 : isText l3) (h : fX11_felt_105 a0 a1 a2 rec56 l3 l4 l5 m = some r) : xFx hh_221 cX11_felt d 105 [some (.ref a0), some (.int a1), some (.int a2), some (.ref l3), some (.int l4), some (.int l5)] [] (xLay m) 0 0 (some (.int r.1)) (xLay r.2) := by
  unfold fX11_felt_105 at h
  obtain ⟨x1, hx1, h⟩ := xLet_el h
  refine fx_iinc (ls2 := [some (.ref a0), some (.int a1), some (.int a2), some (.ref l3), some (.int l4), some (.int x1)]) dX11_felt_105 rfl rfl rfl hx1 rfl ?_
  refine fx_goto (t := 56) dX11_felt_108 rfl rfl ?_
  exact hrec56 l3 l4 x1 m r hl3 h
def fX11_felt_56 (a0 : Nat) (a1 : Int32) (a2 : Int32) : Nat → Nat → Int32 → Int32 → xMem → Option (Int32 × xMem)
  | 0, _, _, _, _ => none
  | fuel + 1, l3, l4, l5, m => if a2 ≤ l5 then some ((-1 : Int32), m) else (fX6_passSecond (a0 + 250) (a0 + 167) l3 m).bind fun p2 => (fX9_hasHall (a0 + 167) l4 p2).bind fun p3 => if p3.1 = (0 : Int32) then fX11_felt_105 a0 a1 a2 (fX11_felt_56 a0 a1 a2 fuel) l3 l4 l5 p3.2 else bif xIn l4 6 then xLet (a0 + 167 + 15 + 3 * l4.toNatClampNeg) fun r6 => (fX2_isOver r6 p3.2).bind fun p7 => if p7.1 = (0 : Int32) then fX11_felt_105 a0 a1 a2 (fX11_felt_56 a0 a1 a2 fuel) l3 l4 l5 p7.2 else some (l5, p7.2) else none
set_option maxRecDepth 4000 in
theorem fX11_felt_56_ok {a0 : Nat} {a1 : Int32} {a2 : Int32} {d : Nat} (hd : 6 ≤ d) (ha0 : isMS a0) : ∀ (fuel : Nat) (l3 : Nat) (l4 : Int32) (l5 : Int32) (m : xMem) (r : (Int32 × xMem)) (hl3 : isText l3), fX11_felt_56 a0 a1 a2 fuel l3 l4 l5 m = some r → xFx hh_221 cX11_felt d 56 [some (.ref a0), some (.int a1), some (.int a2), some (.ref l3), some (.int l4), some (.int l5)] [] (xLay m) 0 0 (some (.int r.1)) (xLay r.2) := by
  intro fuel
  induction fuel with
  | zero => intro l3 l4 l5  m r hl3 h; cases h
  | succ fuel ih =>
    intro l3 l4 l5  m r hl3 h
    unfold fX11_felt_56 at h
    refine fx_iload dX11_felt_56 rfl rfl ?_
    refine fx_iload_n dX11_felt_58 rfl rfl ?_
    refine fx_icmp_ge (t := 111) dX11_felt_59 rfl rfl (fun hc1 => ?_) (fun hc1 => ?_)
    · rw [if_pos hc1] at h
      refine fx_iconst (x := -1) dX11_felt_111 rfl (by decide) ?_
      cases h
      exact fx_ireturn dX11_felt_112 rfl rfl
    · rw [if_neg hc1] at h
      refine fx_aload_n dX11_felt_62 rfl rfl ?_
      refine gx_getr dX11_felt_63 rfl fd_11_25 ha0.1 rfl rfl ?_
      refine fx_aload_n dX11_felt_66 rfl rfl ?_
      refine gx_getr dX11_felt_67 rfl fd_11_19 ha0.1 rfl rfl ?_
      refine fx_aload_n dX11_felt_70 rfl rfl ?_
      obtain ⟨p2, ep2, h⟩ := xBind_el h
      refine gx_callv (as := [.ref (a0 + 167), .ref l3]) (r := []) rfl dX11_felt_71 ca_11_169 rfl me_120 rfl rfl rfl rfl (ha0.2.2.2.2.1.1) rfl (fX6_passSecond_ok (d := d) (by omega) ha0.2.2.2.2.1 ha0.2.2.2.1 hl3 ep2) rfl rfl ?_
      refine fx_aload_n dX11_felt_74 rfl rfl ?_
      refine gx_getr dX11_felt_75 rfl fd_11_19 ha0.1 rfl rfl ?_
      refine fx_iload dX11_felt_78 rfl rfl ?_
      obtain ⟨p3, ep3, h⟩ := xBind_el h
      refine gx_callv (as := [.int l4]) (r := []) rfl dX11_felt_80 ca_11_65 rfl me_20 rfl rfl rfl rfl (ha0.2.2.2.1.1) rfl (fX9_hasHall_ok (d := d) (by omega) ha0.2.2.2.1 ep3) rfl rfl ?_
      refine fx_if_eq (t := 105) dX11_felt_83 rfl rfl (fun hc4 => ?_) (fun hc4 => ?_)
      · rw [if_pos hc4] at h
        exact fX11_felt_105_ok hd ha0 ih hl3 h
      · rw [if_neg hc4] at h
        refine fx_aload_n dX11_felt_86 rfl rfl ?_
        refine gx_getr dX11_felt_87 rfl fd_11_19 ha0.1 rfl rfl ?_
        refine gx_getr dX11_felt_90 rfl fd_11_55 ha0.2.2.2.1.1 rfl rfl ?_
        refine fx_iload dX11_felt_93 rfl rfl ?_
        obtain ⟨hj5, h⟩ := xChk_el h
        obtain ⟨r6, hr6, h⟩ := xLet_el h
        refine gx_aaload (t := 4) dX11_felt_95 rfl ha0.2.2.2.1.2.1 rfl hj5 ((xRef_at (sl_9_0 (a0 + 167)) hj5).trans (congrArg some hr6)) ?_
        have hpr6 : isHall r6 := by rw [← hr6]; exact ha0.2.2.2.1.2.2.2.2.2.2.2.1 _ (xIn_lt hj5)
        obtain ⟨p7, ep7, h⟩ := xBind_el h
        refine gx_callv (as := []) (r := []) rfl dX11_felt_96 ca_11_253 rfl me_161 rfl rfl rfl rfl (hpr6.1) rfl (fX2_isOver_ok (d := d) (by omega) hpr6 ep7) rfl rfl ?_
        refine fx_if_eq (t := 105) dX11_felt_99 rfl rfl (fun hc8 => ?_) (fun hc8 => ?_)
        · rw [if_pos hc8] at h
          exact fX11_felt_105_ok hd ha0 ih hl3 h
        · rw [if_neg hc8] at h
          refine fx_iload dX11_felt_102 rfl rfl ?_
          cases h
          exact fx_ireturn dX11_felt_104 rfl rfl
def fX11_felt_0 (a0 : Nat) (a1 : Int32) (a2 : Int32) (m : xMem) : Option (Int32 × xMem) := (fX11_mayRun a0 a2 m).bind fun p1 => if p1.1 = (0 : Int32) then fX11_felt_19 a0 a1 a2 p1.2 else (fX9_hasStair (a0 + 1) a1 p1.2).bind fun p3 => if ¬ p3.1 = (0 : Int32) then (fX11_beginTrial a0 p3.2).bind fun p5 => bif xIn a1 10 then xLet (a0 + 167 + 33 + 2 * a1.toNatClampNeg) fun r7 => (fX3_foot r7 p5.2).bind fun p8 => bif xIn a1 10 then xLet (a0 + 167 + 33 + 2 * a1.toNatClampNeg) fun r10 => (fX3_turnTo r10 (0 : Int32) p8.2).bind fun p11 => fX11_felt_56 a0 a1 a2 xFuel p5.1 p8.1 (0 : Int32) p11 else none else none else fX11_felt_19 a0 a1 a2 p3.2
set_option maxRecDepth 4000 in
theorem fX11_felt_0_ok {a0 : Nat} {a1 : Int32} {a2 : Int32} {d : Nat} (hd : 6 ≤ d) (ha0 : isMS a0) {o3 : Option Value} {o4 : Option Value} {o5 : Option Value} {m : xMem} {r : (Int32 × xMem)} (q3 : xNoD o3 = true) (q4 : xNoD o4 = true) (q5 : xNoD o5 = true) (h : fX11_felt_0 a0 a1 a2 m = some r) : xFx hh_221 cX11_felt d 0 [some (.ref a0), some (.int a1), some (.int a2), o3, o4, o5] [] (xLay m) 0 0 (some (.int r.1)) (xLay r.2) := by
  unfold fX11_felt_0 at h
  refine fx_aload_n dX11_felt_0 rfl rfl ?_
  refine fx_iload_n dX11_felt_1 rfl rfl ?_
  obtain ⟨p1, ep1, h⟩ := xBind_el h
  refine gx_callv (as := [.int a2]) (r := []) rfl dX11_felt_2 ca_11_159 rfl me_116 rfl rfl rfl rfl (ha0.1) rfl (fX11_mayRun_ok (d := d) (by omega) ha0 ep1) rfl rfl ?_
  refine fx_if_eq (t := 19) dX11_felt_5 rfl rfl (fun hc2 => ?_) (fun hc2 => ?_)
  · rw [if_pos hc2] at h
    exact fX11_felt_19_ok (o3 := o3) (o4 := o4) (o5 := o5) hd ha0 q3 q4 q5 h
  · rw [if_neg hc2] at h
    refine fx_aload_n dX11_felt_8 rfl rfl ?_
    refine gx_getr dX11_felt_9 rfl fd_11_10 ha0.1 rfl rfl ?_
    refine fx_iload_n dX11_felt_12 rfl rfl ?_
    obtain ⟨p3, ep3, h⟩ := xBind_el h
    refine gx_callv (as := [.int a1]) (r := []) rfl dX11_felt_13 ca_11_90 rfl me_37 rfl rfl rfl rfl (ha0.2.1.1) rfl (fX9_hasStair_ok (d := d) (by omega) ha0.2.1 ep3) rfl rfl ?_
    refine fx_if_ne (t := 21) dX11_felt_16 rfl rfl (fun hc4 => ?_) (fun hc4 => ?_)
    · rw [if_pos hc4] at h
      refine fx_aload_n dX11_felt_21 rfl rfl ?_
      obtain ⟨p5, ep5, h⟩ := xBind_el h
      refine gx_callv (as := []) (r := []) rfl dX11_felt_22 ca_11_246 rfl me_207 rfl rfl rfl rfl (ha0.1) rfl (fX11_beginTrial_ok (d := d) (by omega) ha0 ep5) rfl rfl ?_
      have hqp5 : isText p5.1 := fX11_beginTrial_ref ha0 ep5
      refine fx_astore_n (ls2 := [some (.ref a0), some (.int a1), some (.int a2), some (.ref p5.1), o4, o5]) dX11_felt_25 rfl rfl rfl ?_
      refine fx_aload_n dX11_felt_26 rfl rfl ?_
      refine gx_getr dX11_felt_27 rfl fd_11_19 ha0.1 rfl rfl ?_
      refine gx_getr dX11_felt_30 rfl fd_11_75 ha0.2.2.2.1.1 rfl rfl ?_
      refine fx_iload_n dX11_felt_33 rfl rfl ?_
      obtain ⟨hj6, h⟩ := xChk_el h
      obtain ⟨r7, hr7, h⟩ := xLet_el h
      refine gx_aaload (t := 5) dX11_felt_34 rfl ha0.2.2.2.1.2.2.1 rfl hj6 ((xRef_at (sl_9_1 (a0 + 167)) hj6).trans (congrArg some hr7)) ?_
      have hpr7 : isLink r7 := by rw [← hr7]; exact ha0.2.2.2.1.2.2.2.2.2.2.2.2.1 _ (xIn_lt hj6)
      obtain ⟨p8, ep8, h⟩ := xBind_el h
      refine gx_callv (as := []) (r := []) rfl dX11_felt_35 ca_11_249 rfl me_137 rfl rfl rfl rfl (hpr7.1) rfl (fX3_foot_ok (d := d) (by omega) hpr7 ep8) rfl rfl ?_
      refine fx_istore (ls2 := [some (.ref a0), some (.int a1), some (.int a2), some (.ref p5.1), some (.int p8.1), o5]) dX11_felt_38 rfl rfl rfl ?_
      refine fx_aload_n dX11_felt_40 rfl rfl ?_
      refine gx_getr dX11_felt_41 rfl fd_11_19 ha0.1 rfl rfl ?_
      refine gx_getr dX11_felt_44 rfl fd_11_75 ha0.2.2.2.1.1 rfl rfl ?_
      refine fx_iload_n dX11_felt_47 rfl rfl ?_
      obtain ⟨hj9, h⟩ := xChk_el h
      obtain ⟨r10, hr10, h⟩ := xLet_el h
      refine gx_aaload (t := 5) dX11_felt_48 rfl ha0.2.2.2.1.2.2.1 rfl hj9 ((xRef_at (sl_9_1 (a0 + 167)) hj9).trans (congrArg some hr10)) ?_
      have hpr10 : isLink r10 := by rw [← hr10]; exact ha0.2.2.2.1.2.2.2.2.2.2.2.2.1 _ (xIn_lt hj9)
      refine fx_iconst (x := 0) dX11_felt_49 rfl (by decide) ?_
      obtain ⟨p11, ep11, h⟩ := xBind_el h
      refine gx_callv (as := [.int (0 : Int32)]) (r := []) rfl dX11_felt_50 ca_11_87 rfl me_30 rfl rfl rfl rfl (hpr10.1) rfl (fX3_turnTo_ok (d := d) (by omega) hpr10 ep11) rfl rfl ?_
      refine fx_iconst (x := 0) dX11_felt_53 rfl (by decide) ?_
      refine fx_istore (ls2 := [some (.ref a0), some (.int a1), some (.int a2), some (.ref p5.1), some (.int p8.1), some (.int (0 : Int32))]) dX11_felt_54 rfl rfl rfl ?_
      exact fX11_felt_56_ok hd ha0 xFuel p5.1 p8.1 (0 : Int32) p11 r hqp5 h
    · rw [if_neg hc4] at h
      exact fX11_felt_19_ok (o3 := o3) (o4 := o4) (o5 := o5) hd ha0 q3 q4 q5 h
def fX11_felt (a0 : Nat) (a1 : Int32) (a2 : Int32) (m : xMem) : Option (Int32 × xMem) := fX11_felt_0 a0 a1 a2  m
theorem fX11_felt_ok {a0 : Nat} {a1 : Int32} {a2 : Int32} {m : xMem} {r : (Int32 × xMem)} {d : Nat} (hd : 7 ≤ d) (ha0 : isMS a0) (h : fX11_felt a0 a1 a2 m = some r) : xEx d 221 [.ref a0, .int a1, .int a2] (xLay m) (some (.int r.1)) (xLay r.2) := by
  obtain ⟨d, rfl⟩ : ∃ q, d = q + 1 := ⟨d - 1, by omega⟩
  exact xEx_of me_221 rfl (fX11_felt_0_ok (d := d) (o3 := none) (o4 := none) (o5 := none) (by omega) ha0 rfl rfl rfl h)
def fX12_isStair_22 (a0 : Nat) (a1 : Int32) (s0 : Int32) (m : xMem) : Option (Int32 × xMem) := bif (decide (s0 = 0) || decide (s0 = 1)) then some (s0, m) else none
set_option maxRecDepth 4000 in
theorem fX12_isStair_22_ok {a0 : Nat} {a1 : Int32} {d : Nat} (hd : 2 ≤ d) (ha0 : isModel a0) {s0 : Int32} {m : xMem} {r : (Int32 × xMem)} (h : fX12_isStair_22 a0 a1 s0 m = some r) : xFx hh_223 cX12_isStair d 22 [some (.ref a0), some (.int a1)] [.int s0] (xLay m) 0 0 (some (.int r.1)) (xLay r.2) := by
  unfold fX12_isStair_22 at h
  obtain ⟨hb1, h⟩ := xChk_el h
  cases h
  exact fx_ireturn dX12_isStair_22 rfl (by show ((decide _ || decide _) && _) = true; rw [hb1]; rfl)
def fX12_isStair_21 (a0 : Nat) (a1 : Int32) (m : xMem) : Option (Int32 × xMem) := fX12_isStair_22 a0 a1 (0 : Int32) m
set_option maxRecDepth 4000 in
theorem fX12_isStair_21_ok {a0 : Nat} {a1 : Int32} {d : Nat} (hd : 2 ≤ d) (ha0 : isModel a0) {m : xMem} {r : (Int32 × xMem)} (h : fX12_isStair_21 a0 a1 m = some r) : xFx hh_223 cX12_isStair d 21 [some (.ref a0), some (.int a1)] [] (xLay m) 0 0 (some (.int r.1)) (xLay r.2) := by
  unfold fX12_isStair_21 at h
  refine fx_iconst (x := 0) dX12_isStair_21 rfl (by decide) ?_
  exact fX12_isStair_22_ok hd ha0 h
def fX12_isStair_0 (a0 : Nat) (a1 : Int32) (m : xMem) : Option (Int32 × xMem) := (fX12_isLink a0 a1 m).bind fun p1 => if p1.1 = (0 : Int32) then fX12_isStair_21 a0 a1 p1.2 else (fX12_linkOf a0 a1 (0 : Int32) p1.2).bind fun p3 => if ¬ p3.1 = (0 : Int32) then fX12_isStair_21 a0 a1 p3.2 else fX12_isStair_22 a0 a1 (1 : Int32) p3.2
set_option maxRecDepth 4000 in
theorem fX12_isStair_0_ok {a0 : Nat} {a1 : Int32} {d : Nat} (hd : 2 ≤ d) (ha0 : isModel a0) {m : xMem} {r : (Int32 × xMem)} (h : fX12_isStair_0 a0 a1 m = some r) : xFx hh_223 cX12_isStair d 0 [some (.ref a0), some (.int a1)] [] (xLay m) 0 0 (some (.int r.1)) (xLay r.2) := by
  unfold fX12_isStair_0 at h
  refine fx_aload_n dX12_isStair_0 rfl rfl ?_
  refine fx_iload_n dX12_isStair_1 rfl rfl ?_
  obtain ⟨p1, ep1, h⟩ := xBind_el h
  refine gx_callv (as := [.int a1]) (r := []) rfl dX12_isStair_2 ca_12_99 rfl me_33 rfl rfl rfl rfl (ha0.1) rfl (fX12_isLink_ok (d := d) (by omega) ha0 ep1) rfl rfl ?_
  refine fx_if_eq (t := 21) dX12_isStair_5 rfl rfl (fun hc2 => ?_) (fun hc2 => ?_)
  · rw [if_pos hc2] at h
    exact fX12_isStair_21_ok hd ha0 h
  · rw [if_neg hc2] at h
    refine fx_aload_n dX12_isStair_8 rfl rfl ?_
    refine fx_iload_n dX12_isStair_9 rfl rfl ?_
    refine fx_iconst (x := 0) dX12_isStair_10 rfl (by decide) ?_
    obtain ⟨p3, ep3, h⟩ := xBind_el h
    refine gx_callv (as := [.int a1, .int (0 : Int32)]) (r := []) rfl dX12_isStair_11 ca_12_103 rfl me_34 rfl rfl rfl rfl (ha0.1) rfl (fX12_linkOf_ok (d := d) (by omega) ha0 ep3) rfl rfl ?_
    refine fx_if_ne (t := 21) dX12_isStair_14 rfl rfl (fun hc4 => ?_) (fun hc4 => ?_)
    · rw [if_pos hc4] at h
      exact fX12_isStair_21_ok hd ha0 h
    · rw [if_neg hc4] at h
      refine fx_iconst (x := 1) dX12_isStair_17 rfl (by decide) ?_
      refine fx_goto (t := 22) dX12_isStair_18 rfl rfl ?_
      exact fX12_isStair_22_ok hd ha0 h
def fX12_isStair (a0 : Nat) (a1 : Int32) (m : xMem) : Option (Int32 × xMem) := fX12_isStair_0 a0 a1  m
theorem fX12_isStair_ok {a0 : Nat} {a1 : Int32} {m : xMem} {r : (Int32 × xMem)} {d : Nat} (hd : 3 ≤ d) (ha0 : isModel a0) (h : fX12_isStair a0 a1 m = some r) : xEx d 223 [.ref a0, .int a1] (xLay m) (some (.int r.1)) (xLay r.2) := by
  obtain ⟨d, rfl⟩ : ∃ q, d = q + 1 := ⟨d - 1, by omega⟩
  exact xEx_of me_223 rfl (fX12_isStair_0_ok (d := d) (by omega) ha0 h)
def fX12_felt_16 (a0 : Nat) (a1 : Int32) (a2 : Int32) (m : xMem) : Option (Int32 × xMem) := some ((-1 : Int32), m)
set_option maxRecDepth 4000 in
theorem fX12_felt_16_ok {a0 : Nat} {a1 : Int32} {a2 : Int32} {d : Nat} (hd : 6 ≤ d) (ha0 : isModel a0) {o3 : Option Value} {o4 : Option Value} {o5 : Option Value} {o6 : Option Value} {m : xMem} {r : (Int32 × xMem)} (q3 : xNoD o3 = true) (q4 : xNoD o4 = true) (q5 : xNoD o5 = true) (q6 : xNoD o6 = true) (h : fX12_felt_16 a0 a1 a2 m = some r) : xFx hh_222 cX12_felt d 16 [some (.ref a0), some (.int a1), some (.int a2), o3, o4, o5, o6] [] (xLay m) 0 0 (some (.int r.1)) (xLay r.2) := by
  unfold fX12_felt_16 at h
  refine fx_iconst (x := -1) dX12_felt_16 rfl (by decide) ?_
  cases h
  exact fx_ireturn dX12_felt_17 rfl rfl
def fX12_felt_72 (a0 : Nat) (a1 : Int32) (a2 : Int32) (rec42 : Int32 → Int32 → Int32 → xMem → Option (Int32 × xMem)) (l3 : Int32) (l6 : Int32) (s0 : Int32) (m : xMem) : Option (Int32 × xMem) := xLet (l6 + (1 : Int32)) fun x1 => rec42 l3 s0 x1 m
set_option maxRecDepth 4000 in
theorem fX12_felt_72_ok {a0 : Nat} {a1 : Int32} {a2 : Int32} {rec42 : Int32 → Int32 → Int32 → xMem → Option (Int32 × xMem)} {d : Nat} (hd : 6 ≤ d) (ha0 : isModel a0) (hrec42 : ∀ (l3 : Int32) (l5 : Int32) (l6 : Int32) (o4 : Option Value) (q4 : xNoD o4 = true) (m : xMem) (r : (Int32 × xMem)), rec42 l3 l5 l6 m = some r → xFx hh_222 cX12_felt d 42 [some (.ref a0), some (.int a1), some (.int a2), some (.int l3), o4, some (.int l5), some (.int l6)] [] (xLay m) 0 0 (some (.int r.1)) (xLay r.2)) {l3 : Int32} {l6 : Int32} {s0 : Int32} {o4 : Option Value} {o5 : Option Value} {m : xMem} {r : (Int32 × xMem)} (q4 : xNoD o4 = true) (q5 : xNoD o5 = true) (h : fX12_felt_72 a0 a1 a2 rec42 l3 l6 s0 m = some r) : xFx hh_222 cX12_felt d 72 [some (.ref a0), some (.int a1), some (.int a2), some (.int l3), o4, o5, some (.int l6)] [.int s0] (xLay m) 0 0 (some (.int r.1)) (xLay r.2) := by
  unfold fX12_felt_72 at h
  refine fx_istore (ls2 := [some (.ref a0), some (.int a1), some (.int a2), some (.int l3), o4, some (.int s0), some (.int l6)]) dX12_felt_72 rfl (xGd (j := 4) rfl rfl q4 rfl) rfl ?_
  obtain ⟨x1, hx1, h⟩ := xLet_el h
  refine fx_iinc (ls2 := [some (.ref a0), some (.int a1), some (.int a2), some (.int l3), o4, some (.int s0), some (.int x1)]) dX12_felt_74 rfl rfl rfl hx1 rfl ?_
  refine fx_goto (t := 42) dX12_felt_77 rfl rfl ?_
  exact hrec42 l3 s0 x1 (o4) q4 m r h
def fX12_felt_80 (a0 : Nat) (a1 : Int32) (a2 : Int32) (l5 : Int32) (m : xMem) : Option (Int32 × xMem) := (fX12_putsBack a0 m).bind fun p1 => some (l5, p1)
set_option maxRecDepth 4000 in
theorem fX12_felt_80_ok {a0 : Nat} {a1 : Int32} {a2 : Int32} {d : Nat} (hd : 6 ≤ d) (ha0 : isModel a0) {l5 : Int32} {o3 : Option Value} {o4 : Option Value} {o6 : Option Value} {m : xMem} {r : (Int32 × xMem)} (q3 : xNoD o3 = true) (q4 : xNoD o4 = true) (q6 : xNoD o6 = true) (h : fX12_felt_80 a0 a1 a2 l5 m = some r) : xFx hh_222 cX12_felt d 80 [some (.ref a0), some (.int a1), some (.int a2), o3, o4, some (.int l5), o6] [] (xLay m) 0 0 (some (.int r.1)) (xLay r.2) := by
  unfold fX12_felt_80 at h
  refine fx_aload_n dX12_felt_80 rfl rfl ?_
  obtain ⟨p1, ep1, h⟩ := xBind_el h
  refine gx_callv (as := []) (r := []) rfl dX12_felt_81 ca_12_395 rfl me_216 rfl rfl rfl rfl (ha0.1) rfl (fX12_putsBack_ok (d := d) (by omega) ha0 ep1) rfl rfl ?_
  refine fx_iload dX12_felt_84 rfl rfl ?_
  cases h
  exact fx_ireturn dX12_felt_86 rfl rfl
def fX12_felt_42 (a0 : Nat) (a1 : Int32) (a2 : Int32) : Nat → Int32 → Int32 → Int32 → xMem → Option (Int32 × xMem)
  | 0, _, _, _, _ => none
  | fuel + 1, l3, l5, l6, m => if a2 ≤ l6 then fX12_felt_80 a0 a1 a2 l5 m else if ¬ l5 = (-1 : Int32) then fX12_felt_80 a0 a1 a2 l5 m else (fX12_second a0 m).bind fun p3 => (fX12_isOver a0 l3 p3).bind fun p4 => if p4.1 = (0 : Int32) then fX12_felt_72 a0 a1 a2 (fX12_felt_42 a0 a1 a2 fuel) l3 l6 (-1 : Int32) p4.2 else fX12_felt_72 a0 a1 a2 (fX12_felt_42 a0 a1 a2 fuel) l3 l6 l6 p4.2
set_option maxRecDepth 4000 in
theorem fX12_felt_42_ok {a0 : Nat} {a1 : Int32} {a2 : Int32} {d : Nat} (hd : 6 ≤ d) (ha0 : isModel a0) : ∀ (fuel : Nat) (l3 : Int32) (l5 : Int32) (l6 : Int32) (o4 : Option Value) (q4 : xNoD o4 = true) (m : xMem) (r : (Int32 × xMem)), fX12_felt_42 a0 a1 a2 fuel l3 l5 l6 m = some r → xFx hh_222 cX12_felt d 42 [some (.ref a0), some (.int a1), some (.int a2), some (.int l3), o4, some (.int l5), some (.int l6)] [] (xLay m) 0 0 (some (.int r.1)) (xLay r.2) := by
  intro fuel
  induction fuel with
  | zero => intro l3 l5 l6 o4 q4 m r  h; cases h
  | succ fuel ih =>
    intro l3 l5 l6 o4 q4 m r  h
    unfold fX12_felt_42 at h
    refine fx_iload dX12_felt_42 rfl rfl ?_
    refine fx_iload_n dX12_felt_44 rfl rfl ?_
    refine fx_icmp_ge (t := 80) dX12_felt_45 rfl rfl (fun hc1 => ?_) (fun hc1 => ?_)
    · rw [if_pos hc1] at h
      exact fX12_felt_80_ok (o3 := some (.int l3)) (o4 := o4) (o6 := some (.int l6)) hd ha0 rfl q4 rfl h
    · rw [if_neg hc1] at h
      refine fx_iload dX12_felt_48 rfl rfl ?_
      refine fx_iconst (x := -1) dX12_felt_50 rfl (by decide) ?_
      refine fx_icmp_ne (t := 80) dX12_felt_51 rfl rfl (fun hc2 => ?_) (fun hc2 => ?_)
      · rw [if_pos hc2] at h
        exact fX12_felt_80_ok (o3 := some (.int l3)) (o4 := o4) (o6 := some (.int l6)) hd ha0 rfl q4 rfl h
      · rw [if_neg hc2] at h
        refine fx_aload_n dX12_felt_54 rfl rfl ?_
        obtain ⟨p3, ep3, h⟩ := xBind_el h
        refine gx_callv (as := []) (r := []) rfl dX12_felt_55 ca_12_380 rfl me_164 rfl rfl rfl rfl (ha0.1) rfl (fX12_second_ok (d := d) (by omega) ha0 ep3) rfl rfl ?_
        refine fx_aload_n dX12_felt_58 rfl rfl ?_
        refine fx_iload_n dX12_felt_59 rfl rfl ?_
        obtain ⟨p4, ep4, h⟩ := xBind_el h
        refine gx_callv (as := [.int l3]) (r := []) rfl dX12_felt_60 ca_12_374 rfl me_192 rfl rfl rfl rfl (ha0.1) rfl (fX12_isOver_ok (d := d) (by omega) ha0 ep4) rfl rfl ?_
        refine fx_if_eq (t := 71) dX12_felt_63 rfl rfl (fun hc5 => ?_) (fun hc5 => ?_)
        · rw [if_pos hc5] at h
          refine fx_iconst (x := -1) dX12_felt_71 rfl (by decide) ?_
          exact fX12_felt_72_ok (o4 := o4) (o5 := some (.int l5)) hd ha0 ih q4 rfl h
        · rw [if_neg hc5] at h
          refine fx_iload dX12_felt_66 rfl rfl ?_
          refine fx_goto (t := 72) dX12_felt_68 rfl rfl ?_
          exact fX12_felt_72_ok (o4 := o4) (o5 := some (.int l5)) hd ha0 ih q4 rfl h
def fX12_felt_0 (a0 : Nat) (a1 : Int32) (a2 : Int32) (m : xMem) : Option (Int32 × xMem) := (fX12_isStair a0 a1 m).bind fun p1 => if p1.1 = (0 : Int32) then fX12_felt_16 a0 a1 a2 p1.2 else (fX12_isRun a0 a2 p1.2).bind fun p3 => if ¬ p3.1 = (0 : Int32) then (fX12_saves a0 p3.2).bind fun p5 => (fX12_footOf a0 a1 p5).bind fun p6 => (fX12_turn a0 a1 (0 : Int32) p6.2).bind fun p7 => fX12_felt_42 a0 a1 a2 xFuel p6.1 (-1 : Int32) (0 : Int32) p7.2 else fX12_felt_16 a0 a1 a2 p3.2
set_option maxRecDepth 4000 in
theorem fX12_felt_0_ok {a0 : Nat} {a1 : Int32} {a2 : Int32} {d : Nat} (hd : 6 ≤ d) (ha0 : isModel a0) {o3 : Option Value} {o4 : Option Value} {o5 : Option Value} {o6 : Option Value} {m : xMem} {r : (Int32 × xMem)} (q3 : xNoD o3 = true) (q4 : xNoD o4 = true) (q5 : xNoD o5 = true) (q6 : xNoD o6 = true) (h : fX12_felt_0 a0 a1 a2 m = some r) : xFx hh_222 cX12_felt d 0 [some (.ref a0), some (.int a1), some (.int a2), o3, o4, o5, o6] [] (xLay m) 0 0 (some (.int r.1)) (xLay r.2) := by
  unfold fX12_felt_0 at h
  refine fx_aload_n dX12_felt_0 rfl rfl ?_
  refine fx_iload_n dX12_felt_1 rfl rfl ?_
  obtain ⟨p1, ep1, h⟩ := xBind_el h
  refine gx_callv (as := [.int a1]) (r := []) rfl dX12_felt_2 ca_12_398 rfl me_223 rfl rfl rfl rfl (ha0.1) rfl (fX12_isStair_ok (d := d) (by omega) ha0 ep1) rfl rfl ?_
  refine fx_if_eq (t := 16) dX12_felt_5 rfl rfl (fun hc2 => ?_) (fun hc2 => ?_)
  · rw [if_pos hc2] at h
    exact fX12_felt_16_ok (o3 := o3) (o4 := o4) (o5 := o5) (o6 := o6) hd ha0 q3 q4 q5 q6 h
  · rw [if_neg hc2] at h
    refine fx_aload_n dX12_felt_8 rfl rfl ?_
    refine fx_iload_n dX12_felt_9 rfl rfl ?_
    obtain ⟨p3, ep3, h⟩ := xBind_el h
    refine gx_callv (as := [.int a2]) (r := []) rfl dX12_felt_10 ca_12_377 rfl me_163 rfl rfl rfl rfl (ha0.1) rfl (fX12_isRun_ok (d := d) (by omega) ha0 ep3) rfl rfl ?_
    refine fx_if_ne (t := 18) dX12_felt_13 rfl rfl (fun hc4 => ?_) (fun hc4 => ?_)
    · rw [if_pos hc4] at h
      refine fx_aload_n dX12_felt_18 rfl rfl ?_
      obtain ⟨p5, ep5, h⟩ := xBind_el h
      refine gx_callv (as := []) (r := []) rfl dX12_felt_19 ca_12_386 rfl me_214 rfl rfl rfl rfl (ha0.1) rfl (fX12_saves_ok (d := d) (by omega) ha0 ep5) rfl rfl ?_
      refine fx_aload_n dX12_felt_22 rfl rfl ?_
      refine fx_iload_n dX12_felt_23 rfl rfl ?_
      obtain ⟨p6, ep6, h⟩ := xBind_el h
      refine gx_callv (as := [.int a1]) (r := []) rfl dX12_felt_24 ca_12_304 rfl me_178 rfl rfl rfl rfl (ha0.1) rfl (fX12_footOf_ok (d := d) (by omega) ha0 ep6) rfl rfl ?_
      refine fx_istore_n (ls2 := [some (.ref a0), some (.int a1), some (.int a2), some (.int p6.1), o4, o5, o6]) dX12_felt_27 rfl rfl rfl ?_
      refine fx_aload_n dX12_felt_28 rfl rfl ?_
      refine fx_iload_n dX12_felt_29 rfl rfl ?_
      refine fx_iconst (x := 0) dX12_felt_30 rfl (by decide) ?_
      obtain ⟨p7, ep7, h⟩ := xBind_el h
      refine gx_callv (as := [.int a1, .int (0 : Int32)]) (r := []) rfl dX12_felt_31 ca_12_389 rfl me_31 rfl rfl rfl rfl (ha0.1) rfl (fX12_turn_ok (d := d) (by omega) ha0 ep7) rfl rfl ?_
      refine fx_istore (ls2 := [some (.ref a0), some (.int a1), some (.int a2), some (.int p6.1), some (.int p7.1), o5, o6]) dX12_felt_34 rfl rfl rfl ?_
      refine fx_iconst (x := -1) dX12_felt_36 rfl (by decide) ?_
      refine fx_istore (ls2 := [some (.ref a0), some (.int a1), some (.int a2), some (.int p6.1), some (.int p7.1), some (.int (-1 : Int32)), o6]) dX12_felt_37 rfl rfl rfl ?_
      refine fx_iconst (x := 0) dX12_felt_39 rfl (by decide) ?_
      refine fx_istore (ls2 := [some (.ref a0), some (.int a1), some (.int a2), some (.int p6.1), some (.int p7.1), some (.int (-1 : Int32)), some (.int (0 : Int32))]) dX12_felt_40 rfl rfl rfl ?_
      exact fX12_felt_42_ok hd ha0 xFuel p6.1 (-1 : Int32) (0 : Int32) (some (.int p7.1)) rfl p7.2 r h
    · rw [if_neg hc4] at h
      exact fX12_felt_16_ok (o3 := o3) (o4 := o4) (o5 := o5) (o6 := o6) hd ha0 q3 q4 q5 q6 h
def fX12_felt (a0 : Nat) (a1 : Int32) (a2 : Int32) (m : xMem) : Option (Int32 × xMem) := fX12_felt_0 a0 a1 a2  m
theorem fX12_felt_ok {a0 : Nat} {a1 : Int32} {a2 : Int32} {m : xMem} {r : (Int32 × xMem)} {d : Nat} (hd : 7 ≤ d) (ha0 : isModel a0) (h : fX12_felt a0 a1 a2 m = some r) : xEx d 222 [.ref a0, .int a1, .int a2] (xLay m) (some (.int r.1)) (xLay r.2) := by
  obtain ⟨d, rfl⟩ : ∃ q, d = q + 1 := ⟨d - 1, by omega⟩
  exact xEx_of me_222 rfl (fX12_felt_0_ok (d := d) (o3 := none) (o4 := none) (o5 := none) (o6 := none) (by omega) ha0 rfl rfl rfl rfl h)
def fX11_offByMode_34 (a0 : Nat) (a1 : Int32) (a2 : Int32) (a3 : Int32) : Nat → Nat → Int32 → xMem → Option (Int32 × xMem)
  | 0, _, _, _ => none
  | fuel + 1, l4, l5, m => if a3 ≤ l5 then bif xIn a1 10 then xLet (a0 + 167 + 33 + 2 * a1.toNatClampNeg) fun r3 => xLet (m.1 r3 11) fun x4 => bif xIn a1 10 then xLet (a0 + 1 + 33 + 2 * a1.toNatClampNeg) fun r6 => xLet (m.1 r6 11) fun x7 => xLet (x4 - x7) fun x8 => some (x8, m) else none else none else (fX6_passSecond (a0 + 250) (a0 + 167) l4 m).bind fun p9 => xLet (l5 + (1 : Int32)) fun x10 => fX11_offByMode_34 a0 a1 a2 a3 fuel l4 x10 p9
set_option maxRecDepth 4000 in
theorem fX11_offByMode_34_ok {a0 : Nat} {a1 : Int32} {a2 : Int32} {a3 : Int32} {d : Nat} (hd : 6 ≤ d) (ha0 : isMS a0) : ∀ (fuel : Nat) (l4 : Nat) (l5 : Int32) (m : xMem) (r : (Int32 × xMem)) (hl4 : isText l4), fX11_offByMode_34 a0 a1 a2 a3 fuel l4 l5 m = some r → xFx hh_225 cX11_offByMode d 34 [some (.ref a0), some (.int a1), some (.int a2), some (.int a3), some (.ref l4), some (.int l5)] [] (xLay m) 0 0 (some (.int r.1)) (xLay r.2) := by
  intro fuel
  induction fuel with
  | zero => intro l4 l5  m r hl4 h; cases h
  | succ fuel ih =>
    intro l4 l5  m r hl4 h
    unfold fX11_offByMode_34 at h
    refine fx_iload dX11_offByMode_34 rfl rfl ?_
    refine fx_iload_n dX11_offByMode_36 rfl rfl ?_
    refine fx_icmp_ge (t := 59) dX11_offByMode_37 rfl rfl (fun hc1 => ?_) (fun hc1 => ?_)
    · rw [if_pos hc1] at h
      refine fx_aload_n dX11_offByMode_59 rfl rfl ?_
      refine gx_getr dX11_offByMode_60 rfl fd_11_19 ha0.1 rfl rfl ?_
      refine gx_getr dX11_offByMode_63 rfl fd_11_75 ha0.2.2.2.1.1 rfl rfl ?_
      refine fx_iload_n dX11_offByMode_66 rfl rfl ?_
      obtain ⟨hj2, h⟩ := xChk_el h
      obtain ⟨r3, hr3, h⟩ := xLet_el h
      refine gx_aaload (t := 5) dX11_offByMode_67 rfl ha0.2.2.2.1.2.2.1 rfl hj2 ((xRef_at (sl_9_1 (a0 + 167)) hj2).trans (congrArg some hr3)) ?_
      have hpr3 : isLink r3 := by rw [← hr3]; exact ha0.2.2.2.1.2.2.2.2.2.2.2.2.1 _ (xIn_lt hj2)
      obtain ⟨x4, hx4, h⟩ := xLet_el h
      refine gx_get dX11_offByMode_68 rfl fd_11_203 hpr3.1 rfl rfl hx4 ?_
      refine fx_aload_n dX11_offByMode_71 rfl rfl ?_
      refine gx_getr dX11_offByMode_72 rfl fd_11_10 ha0.1 rfl rfl ?_
      refine gx_getr dX11_offByMode_75 rfl fd_11_75 ha0.2.1.1 rfl rfl ?_
      refine fx_iload_n dX11_offByMode_78 rfl rfl ?_
      obtain ⟨hj5, h⟩ := xChk_el h
      obtain ⟨r6, hr6, h⟩ := xLet_el h
      refine gx_aaload (t := 5) dX11_offByMode_79 rfl ha0.2.1.2.2.1 rfl hj5 ((xRef_at (sl_9_1 (a0 + 1)) hj5).trans (congrArg some hr6)) ?_
      have hpr6 : isLink r6 := by rw [← hr6]; exact ha0.2.1.2.2.2.2.2.2.2.2.1 _ (xIn_lt hj5)
      obtain ⟨x7, hx7, h⟩ := xLet_el h
      refine gx_get dX11_offByMode_80 rfl fd_11_203 hpr6.1 rfl rfl hx7 ?_
      obtain ⟨x8, hx8, h⟩ := xLet_el h
      refine fx_isub dX11_offByMode_83 rfl hx8 ?_
      cases h
      exact fx_ireturn dX11_offByMode_84 rfl rfl
    · rw [if_neg hc1] at h
      refine fx_aload_n dX11_offByMode_40 rfl rfl ?_
      refine gx_getr dX11_offByMode_41 rfl fd_11_25 ha0.1 rfl rfl ?_
      refine fx_aload_n dX11_offByMode_44 rfl rfl ?_
      refine gx_getr dX11_offByMode_45 rfl fd_11_19 ha0.1 rfl rfl ?_
      refine fx_aload dX11_offByMode_48 rfl rfl ?_
      obtain ⟨p9, ep9, h⟩ := xBind_el h
      refine gx_callv (as := [.ref (a0 + 167), .ref l4]) (r := []) rfl dX11_offByMode_50 ca_11_169 rfl me_120 rfl rfl rfl rfl (ha0.2.2.2.2.1.1) rfl (fX6_passSecond_ok (d := d) (by omega) ha0.2.2.2.2.1 ha0.2.2.2.1 hl4 ep9) rfl rfl ?_
      obtain ⟨x10, hx10, h⟩ := xLet_el h
      refine fx_iinc (ls2 := [some (.ref a0), some (.int a1), some (.int a2), some (.int a3), some (.ref l4), some (.int x10)]) dX11_offByMode_53 rfl rfl rfl hx10 rfl ?_
      refine fx_goto (t := 34) dX11_offByMode_56 rfl rfl ?_
      exact ih l4 x10 p9 r hl4 h
def fX11_offByMode_0 (a0 : Nat) (a1 : Int32) (a2 : Int32) (a3 : Int32) (m : xMem) : Option (Int32 × xMem) := (fX11_within a1 (0 : Int32) (9 : Int32) m).bind fun p1 => if ¬ p1.1 = (0 : Int32) then (fX11_beginTrial a0 p1.2).bind fun p3 => bif xIn a1 10 then xLet (a0 + 167 + 33 + 2 * a1.toNatClampNeg) fun r5 => xLet (xPut p3.2 r5 8 a2) fun m6 => fX11_offByMode_34 a0 a1 a2 a3 xFuel p3.1 (0 : Int32) m6 else none else some ((0 : Int32), p1.2)
set_option maxRecDepth 4000 in
theorem fX11_offByMode_0_ok {a0 : Nat} {a1 : Int32} {a2 : Int32} {a3 : Int32} {d : Nat} (hd : 6 ≤ d) (ha0 : isMS a0) {o4 : Option Value} {o5 : Option Value} {m : xMem} {r : (Int32 × xMem)} (q4 : xNoD o4 = true) (q5 : xNoD o5 = true) (h : fX11_offByMode_0 a0 a1 a2 a3 m = some r) : xFx hh_225 cX11_offByMode d 0 [some (.ref a0), some (.int a1), some (.int a2), some (.int a3), o4, o5] [] (xLay m) 0 0 (some (.int r.1)) (xLay r.2) := by
  unfold fX11_offByMode_0 at h
  refine fx_iload_n dX11_offByMode_0 rfl rfl ?_
  refine fx_iconst (x := 0) dX11_offByMode_1 rfl (by decide) ?_
  refine fx_bipush (x := 9) dX11_offByMode_2 rfl (by decide) ?_
  obtain ⟨p1, ep1, h⟩ := xBind_el h
  refine gx_calls (as := [.int a1, .int (0 : Int32), .int (9 : Int32)]) (r := []) rfl dX11_offByMode_4 ca_11_47 rfl me_14 rfl rfl rfl rfl (fX11_within_ok (d := d) (by omega) ep1) rfl rfl ?_
  refine fx_if_ne (t := 12) dX11_offByMode_7 rfl rfl (fun hc2 => ?_) (fun hc2 => ?_)
  · rw [if_pos hc2] at h
    refine fx_aload_n dX11_offByMode_12 rfl rfl ?_
    obtain ⟨p3, ep3, h⟩ := xBind_el h
    refine gx_callv (as := []) (r := []) rfl dX11_offByMode_13 ca_11_246 rfl me_207 rfl rfl rfl rfl (ha0.1) rfl (fX11_beginTrial_ok (d := d) (by omega) ha0 ep3) rfl rfl ?_
    have hqp3 : isText p3.1 := fX11_beginTrial_ref ha0 ep3
    refine fx_astore (ls2 := [some (.ref a0), some (.int a1), some (.int a2), some (.int a3), some (.ref p3.1), o5]) dX11_offByMode_16 rfl rfl rfl ?_
    refine fx_aload_n dX11_offByMode_18 rfl rfl ?_
    refine gx_getr dX11_offByMode_19 rfl fd_11_19 ha0.1 rfl rfl ?_
    refine gx_getr dX11_offByMode_22 rfl fd_11_75 ha0.2.2.2.1.1 rfl rfl ?_
    refine fx_iload_n dX11_offByMode_25 rfl rfl ?_
    obtain ⟨hj4, h⟩ := xChk_el h
    obtain ⟨r5, hr5, h⟩ := xLet_el h
    refine gx_aaload (t := 5) dX11_offByMode_26 rfl ha0.2.2.2.1.2.2.1 rfl hj4 ((xRef_at (sl_9_1 (a0 + 167)) hj4).trans (congrArg some hr5)) ?_
    have hpr5 : isLink r5 := by rw [← hr5]; exact ha0.2.2.2.1.2.2.2.2.2.2.2.2.1 _ (xIn_lt hj4)
    refine fx_iload_n dX11_offByMode_27 rfl rfl ?_
    obtain ⟨m6, hm6, h⟩ := xLet_el h
    refine gx_put dX11_offByMode_28 rfl fd_11_93 hpr5.1 rfl rfl rfl hm6 ?_
    refine fx_iconst (x := 0) dX11_offByMode_31 rfl (by decide) ?_
    refine fx_istore (ls2 := [some (.ref a0), some (.int a1), some (.int a2), some (.int a3), some (.ref p3.1), some (.int (0 : Int32))]) dX11_offByMode_32 rfl rfl rfl ?_
    exact fX11_offByMode_34_ok hd ha0 xFuel p3.1 (0 : Int32) m6 r hqp3 h
  · rw [if_neg hc2] at h
    refine fx_iconst (x := 0) dX11_offByMode_10 rfl (by decide) ?_
    cases h
    exact fx_ireturn dX11_offByMode_11 rfl rfl
def fX11_offByMode (a0 : Nat) (a1 : Int32) (a2 : Int32) (a3 : Int32) (m : xMem) : Option (Int32 × xMem) := fX11_offByMode_0 a0 a1 a2 a3  m
theorem fX11_offByMode_ok {a0 : Nat} {a1 : Int32} {a2 : Int32} {a3 : Int32} {m : xMem} {r : (Int32 × xMem)} {d : Nat} (hd : 7 ≤ d) (ha0 : isMS a0) (h : fX11_offByMode a0 a1 a2 a3 m = some r) : xEx d 225 [.ref a0, .int a1, .int a2, .int a3] (xLay m) (some (.int r.1)) (xLay r.2) := by
  obtain ⟨d, rfl⟩ : ∃ q, d = q + 1 := ⟨d - 1, by omega⟩
  exact xEx_of me_225 rfl (fX11_offByMode_0_ok (d := d) (o4 := none) (o5 := none) (by omega) ha0 rfl rfl h)
def fX11_standing_19 (a0 : Nat) (a1 : Int32) (a2 : Int32) (m : xMem) : Option (Int32 × xMem) := some ((-1000000 : Int32), m)
set_option maxRecDepth 4000 in
theorem fX11_standing_19_ok {a0 : Nat} {a1 : Int32} {a2 : Int32} {d : Nat} (hd : 7 ≤ d) (ha0 : isMS a0) {m : xMem} {r : (Int32 × xMem)} (h : fX11_standing_19 a0 a1 a2 m = some r) : xFx hh_224 cX11_standing d 19 [some (.ref a0), some (.int a1), some (.int a2)] [] (xLay m) 0 0 (some (.int r.1)) (xLay r.2) := by
  unfold fX11_standing_19 at h
  refine fx_ldc_w dX11_standing_19 rfl ck_11_257 ?_
  cases h
  exact fx_ireturn dX11_standing_22 rfl rfl
def fX11_standing_0 (a0 : Nat) (a1 : Int32) (a2 : Int32) (m : xMem) : Option (Int32 × xMem) := (fX11_mayRun a0 a2 m).bind fun p1 => if p1.1 = (0 : Int32) then fX11_standing_19 a0 a1 a2 p1.2 else (fX9_hasStair (a0 + 1) a1 p1.2).bind fun p3 => if ¬ p3.1 = (0 : Int32) then (fX11_offByMode a0 a1 (1 : Int32) a2 p3.2).bind fun p5 => (fX11_offByMode a0 a1 (0 : Int32) a2 p5.2).bind fun p6 => xLet (p5.1 - p6.1) fun x7 => some (x7, p6.2) else fX11_standing_19 a0 a1 a2 p3.2
set_option maxRecDepth 4000 in
theorem fX11_standing_0_ok {a0 : Nat} {a1 : Int32} {a2 : Int32} {d : Nat} (hd : 7 ≤ d) (ha0 : isMS a0) {m : xMem} {r : (Int32 × xMem)} (h : fX11_standing_0 a0 a1 a2 m = some r) : xFx hh_224 cX11_standing d 0 [some (.ref a0), some (.int a1), some (.int a2)] [] (xLay m) 0 0 (some (.int r.1)) (xLay r.2) := by
  unfold fX11_standing_0 at h
  refine fx_aload_n dX11_standing_0 rfl rfl ?_
  refine fx_iload_n dX11_standing_1 rfl rfl ?_
  obtain ⟨p1, ep1, h⟩ := xBind_el h
  refine gx_callv (as := [.int a2]) (r := []) rfl dX11_standing_2 ca_11_159 rfl me_116 rfl rfl rfl rfl (ha0.1) rfl (fX11_mayRun_ok (d := d) (by omega) ha0 ep1) rfl rfl ?_
  refine fx_if_eq (t := 19) dX11_standing_5 rfl rfl (fun hc2 => ?_) (fun hc2 => ?_)
  · rw [if_pos hc2] at h
    exact fX11_standing_19_ok hd ha0 h
  · rw [if_neg hc2] at h
    refine fx_aload_n dX11_standing_8 rfl rfl ?_
    refine gx_getr dX11_standing_9 rfl fd_11_10 ha0.1 rfl rfl ?_
    refine fx_iload_n dX11_standing_12 rfl rfl ?_
    obtain ⟨p3, ep3, h⟩ := xBind_el h
    refine gx_callv (as := [.int a1]) (r := []) rfl dX11_standing_13 ca_11_90 rfl me_37 rfl rfl rfl rfl (ha0.2.1.1) rfl (fX9_hasStair_ok (d := d) (by omega) ha0.2.1 ep3) rfl rfl ?_
    refine fx_if_ne (t := 23) dX11_standing_16 rfl rfl (fun hc4 => ?_) (fun hc4 => ?_)
    · rw [if_pos hc4] at h
      refine fx_aload_n dX11_standing_23 rfl rfl ?_
      refine fx_iload_n dX11_standing_24 rfl rfl ?_
      refine fx_iconst (x := 1) dX11_standing_25 rfl (by decide) ?_
      refine fx_iload_n dX11_standing_26 rfl rfl ?_
      obtain ⟨p5, ep5, h⟩ := xBind_el h
      refine gx_callv (as := [.int a1, .int (1 : Int32), .int a2]) (r := []) rfl dX11_standing_27 ca_11_258 rfl me_225 rfl rfl rfl rfl (ha0.1) rfl (fX11_offByMode_ok (d := d) (by omega) ha0 ep5) rfl rfl ?_
      refine fx_aload_n dX11_standing_30 rfl rfl ?_
      refine fx_iload_n dX11_standing_31 rfl rfl ?_
      refine fx_iconst (x := 0) dX11_standing_32 rfl (by decide) ?_
      refine fx_iload_n dX11_standing_33 rfl rfl ?_
      obtain ⟨p6, ep6, h⟩ := xBind_el h
      refine gx_callv (as := [.int a1, .int (0 : Int32), .int a2]) (r := [.int p5.1]) rfl dX11_standing_34 ca_11_258 rfl me_225 rfl rfl rfl rfl (ha0.1) rfl (fX11_offByMode_ok (d := d) (by omega) ha0 ep6) rfl rfl ?_
      obtain ⟨x7, hx7, h⟩ := xLet_el h
      refine fx_isub dX11_standing_37 rfl hx7 ?_
      cases h
      exact fx_ireturn dX11_standing_38 rfl rfl
    · rw [if_neg hc4] at h
      exact fX11_standing_19_ok hd ha0 h
def fX11_standing (a0 : Nat) (a1 : Int32) (a2 : Int32) (m : xMem) : Option (Int32 × xMem) := fX11_standing_0 a0 a1 a2  m
theorem fX11_standing_ok {a0 : Nat} {a1 : Int32} {a2 : Int32} {m : xMem} {r : (Int32 × xMem)} {d : Nat} (hd : 8 ≤ d) (ha0 : isMS a0) (h : fX11_standing a0 a1 a2 m = some r) : xEx d 224 [.ref a0, .int a1, .int a2] (xLay m) (some (.int r.1)) (xLay r.2) := by
  obtain ⟨d, rfl⟩ : ∃ q, d = q + 1 := ⟨d - 1, by omega⟩
  exact xEx_of me_224 rfl (fX11_standing_0_ok (d := d) (by omega) ha0 h)
def fX12_standing_16 (a0 : Nat) (a1 : Int32) (a2 : Int32) (m : xMem) : Option (Int32 × xMem) := some ((-1000000 : Int32), m)
set_option maxRecDepth 4000 in
theorem fX12_standing_16_ok {a0 : Nat} {a1 : Int32} {a2 : Int32} {d : Nat} (hd : 7 ≤ d) (ha0 : isModel a0) {o3 : Option Value} {o4 : Option Value} {m : xMem} {r : (Int32 × xMem)} (q3 : xNoD o3 = true) (q4 : xNoD o4 = true) (h : fX12_standing_16 a0 a1 a2 m = some r) : xFx hh_226 cX12_standing d 16 [some (.ref a0), some (.int a1), some (.int a2), o3, o4] [] (xLay m) 0 0 (some (.int r.1)) (xLay r.2) := by
  unfold fX12_standing_16 at h
  refine fx_ldc_w dX12_standing_16 rfl ck_12_401 ?_
  cases h
  exact fx_ireturn dX12_standing_19 rfl rfl
def fX12_standing_74 (a0 : Nat) (a1 : Int32) (a2 : Int32) (rec29 : Int32 → Int32 → xMem → Option (Int32 × xMem)) (l4 : Int32) (s0 : Int32) (s1 : Int32) (m : xMem) : Option (Int32 × xMem) := xLet (s0 + s1) fun x1 => (fX12_putsBack a0 m).bind fun p2 => xLet (l4 + (1 : Int32)) fun x3 => rec29 x1 x3 p2
set_option maxRecDepth 4000 in
theorem fX12_standing_74_ok {a0 : Nat} {a1 : Int32} {a2 : Int32} {rec29 : Int32 → Int32 → xMem → Option (Int32 × xMem)} {d : Nat} (hd : 7 ≤ d) (ha0 : isModel a0) (hrec29 : ∀ (l3 : Int32) (l4 : Int32) (m : xMem) (r : (Int32 × xMem)), rec29 l3 l4 m = some r → xFx hh_226 cX12_standing d 29 [some (.ref a0), some (.int a1), some (.int a2), some (.int l3), some (.int l4)] [] (xLay m) 0 0 (some (.int r.1)) (xLay r.2)) {l4 : Int32} {s0 : Int32} {s1 : Int32} {o3 : Option Value} {m : xMem} {r : (Int32 × xMem)} (q3 : xNoD o3 = true) (h : fX12_standing_74 a0 a1 a2 rec29 l4 s0 s1 m = some r) : xFx hh_226 cX12_standing d 74 [some (.ref a0), some (.int a1), some (.int a2), o3, some (.int l4)] [.int s1, .int s0] (xLay m) 0 0 (some (.int r.1)) (xLay r.2) := by
  unfold fX12_standing_74 at h
  obtain ⟨x1, hx1, h⟩ := xLet_el h
  refine fx_iadd dX12_standing_74 rfl hx1 ?_
  refine fx_istore_n (ls2 := [some (.ref a0), some (.int a1), some (.int a2), some (.int x1), some (.int l4)]) dX12_standing_75 rfl rfl rfl ?_
  refine fx_aload_n dX12_standing_76 rfl rfl ?_
  obtain ⟨p2, ep2, h⟩ := xBind_el h
  refine gx_callv (as := []) (r := []) rfl dX12_standing_77 ca_12_395 rfl me_216 rfl rfl rfl rfl (ha0.1) rfl (fX12_putsBack_ok (d := d) (by omega) ha0 ep2) rfl rfl ?_
  obtain ⟨x3, hx3, h⟩ := xLet_el h
  refine fx_iinc (ls2 := [some (.ref a0), some (.int a1), some (.int a2), some (.int x1), some (.int x3)]) dX12_standing_80 rfl rfl rfl hx3 rfl ?_
  refine fx_goto (t := 29) dX12_standing_83 rfl rfl ?_
  exact hrec29 x1 x3 p2 r h
def fX12_standing_29 (a0 : Nat) (a1 : Int32) (a2 : Int32) : Nat → Int32 → Int32 → xMem → Option (Int32 × xMem)
  | 0, _, _, _ => none
  | fuel + 1, l3, l4, m => if (2 : Int32) ≤ l4 then some (l3, m) else (fX12_tells a0 a1 (8 : Int32) l4 m).bind fun p2 => (fX12_runs a0 a2 p2).bind fun p3 => if ¬ l4 = (1 : Int32) then (fX12_linkOf a0 a1 (11 : Int32) p3).bind fun p5 => xLet (-p5.1) fun x6 => fX12_standing_74 a0 a1 a2 (fX12_standing_29 a0 a1 a2 fuel) l4 l3 x6 p5.2 else (fX12_linkOf a0 a1 (11 : Int32) p3).bind fun p7 => fX12_standing_74 a0 a1 a2 (fX12_standing_29 a0 a1 a2 fuel) l4 l3 p7.1 p7.2
set_option maxRecDepth 4000 in
theorem fX12_standing_29_ok {a0 : Nat} {a1 : Int32} {a2 : Int32} {d : Nat} (hd : 7 ≤ d) (ha0 : isModel a0) : ∀ (fuel : Nat) (l3 : Int32) (l4 : Int32) (m : xMem) (r : (Int32 × xMem)), fX12_standing_29 a0 a1 a2 fuel l3 l4 m = some r → xFx hh_226 cX12_standing d 29 [some (.ref a0), some (.int a1), some (.int a2), some (.int l3), some (.int l4)] [] (xLay m) 0 0 (some (.int r.1)) (xLay r.2) := by
  intro fuel
  induction fuel with
  | zero => intro l3 l4  m r  h; cases h
  | succ fuel ih =>
    intro l3 l4  m r  h
    unfold fX12_standing_29 at h
    refine fx_iload dX12_standing_29 rfl rfl ?_
    refine fx_iconst (x := 2) dX12_standing_31 rfl (by decide) ?_
    refine fx_icmp_ge (t := 86) dX12_standing_32 rfl rfl (fun hc1 => ?_) (fun hc1 => ?_)
    · rw [if_pos hc1] at h
      refine fx_iload_n dX12_standing_86 rfl rfl ?_
      cases h
      exact fx_ireturn dX12_standing_87 rfl rfl
    · rw [if_neg hc1] at h
      refine fx_aload_n dX12_standing_35 rfl rfl ?_
      refine fx_iload_n dX12_standing_36 rfl rfl ?_
      refine fx_bipush (x := 8) dX12_standing_37 rfl (by decide) ?_
      refine fx_iload dX12_standing_39 rfl rfl ?_
      obtain ⟨p2, ep2, h⟩ := xBind_el h
      refine gx_callv (as := [.int a1, .int (8 : Int32), .int l4]) (r := []) rfl dX12_standing_41 ca_12_110 rfl me_26 rfl rfl rfl rfl (ha0.1) rfl (fX12_tells_ok (d := d) (by omega) ha0 ep2) rfl rfl ?_
      refine fx_aload_n dX12_standing_44 rfl rfl ?_
      refine fx_iload_n dX12_standing_45 rfl rfl ?_
      obtain ⟨p3, ep3, h⟩ := xBind_el h
      refine gx_callv (as := [.int a2]) (r := []) rfl dX12_standing_46 ca_12_392 rfl me_215 rfl rfl rfl rfl (ha0.1) rfl (fX12_runs_ok (d := d) (by omega) ha0 ep3) rfl rfl ?_
      refine fx_iload_n dX12_standing_49 rfl rfl ?_
      refine fx_iload dX12_standing_50 rfl rfl ?_
      refine fx_iconst (x := 1) dX12_standing_52 rfl (by decide) ?_
      refine fx_icmp_ne (t := 66) dX12_standing_53 rfl rfl (fun hc4 => ?_) (fun hc4 => ?_)
      · rw [if_pos hc4] at h
        refine fx_aload_n dX12_standing_66 rfl rfl ?_
        refine fx_iload_n dX12_standing_67 rfl rfl ?_
        refine fx_bipush (x := 11) dX12_standing_68 rfl (by decide) ?_
        obtain ⟨p5, ep5, h⟩ := xBind_el h
        refine gx_callv (as := [.int a1, .int (11 : Int32)]) (r := [.int l3]) rfl dX12_standing_70 ca_12_103 rfl me_34 rfl rfl rfl rfl (ha0.1) rfl (fX12_linkOf_ok (d := d) (by omega) ha0 ep5) rfl rfl ?_
        obtain ⟨x6, hx6, h⟩ := xLet_el h
        refine fx_ineg dX12_standing_73 rfl hx6 ?_
        exact fX12_standing_74_ok (o3 := some (.int l3)) hd ha0 ih rfl h
      · rw [if_neg hc4] at h
        refine fx_aload_n dX12_standing_56 rfl rfl ?_
        refine fx_iload_n dX12_standing_57 rfl rfl ?_
        refine fx_bipush (x := 11) dX12_standing_58 rfl (by decide) ?_
        obtain ⟨p7, ep7, h⟩ := xBind_el h
        refine gx_callv (as := [.int a1, .int (11 : Int32)]) (r := [.int l3]) rfl dX12_standing_60 ca_12_103 rfl me_34 rfl rfl rfl rfl (ha0.1) rfl (fX12_linkOf_ok (d := d) (by omega) ha0 ep7) rfl rfl ?_
        refine fx_goto (t := 74) dX12_standing_63 rfl rfl ?_
        exact fX12_standing_74_ok (o3 := some (.int l3)) hd ha0 ih rfl h
def fX12_standing_0 (a0 : Nat) (a1 : Int32) (a2 : Int32) (m : xMem) : Option (Int32 × xMem) := (fX12_isStair a0 a1 m).bind fun p1 => if p1.1 = (0 : Int32) then fX12_standing_16 a0 a1 a2 p1.2 else (fX12_isRun a0 a2 p1.2).bind fun p3 => if ¬ p3.1 = (0 : Int32) then (fX12_saves a0 p3.2).bind fun p5 => fX12_standing_29 a0 a1 a2 xFuel (0 : Int32) (0 : Int32) p5 else fX12_standing_16 a0 a1 a2 p3.2
set_option maxRecDepth 4000 in
theorem fX12_standing_0_ok {a0 : Nat} {a1 : Int32} {a2 : Int32} {d : Nat} (hd : 7 ≤ d) (ha0 : isModel a0) {o3 : Option Value} {o4 : Option Value} {m : xMem} {r : (Int32 × xMem)} (q3 : xNoD o3 = true) (q4 : xNoD o4 = true) (h : fX12_standing_0 a0 a1 a2 m = some r) : xFx hh_226 cX12_standing d 0 [some (.ref a0), some (.int a1), some (.int a2), o3, o4] [] (xLay m) 0 0 (some (.int r.1)) (xLay r.2) := by
  unfold fX12_standing_0 at h
  refine fx_aload_n dX12_standing_0 rfl rfl ?_
  refine fx_iload_n dX12_standing_1 rfl rfl ?_
  obtain ⟨p1, ep1, h⟩ := xBind_el h
  refine gx_callv (as := [.int a1]) (r := []) rfl dX12_standing_2 ca_12_398 rfl me_223 rfl rfl rfl rfl (ha0.1) rfl (fX12_isStair_ok (d := d) (by omega) ha0 ep1) rfl rfl ?_
  refine fx_if_eq (t := 16) dX12_standing_5 rfl rfl (fun hc2 => ?_) (fun hc2 => ?_)
  · rw [if_pos hc2] at h
    exact fX12_standing_16_ok (o3 := o3) (o4 := o4) hd ha0 q3 q4 h
  · rw [if_neg hc2] at h
    refine fx_aload_n dX12_standing_8 rfl rfl ?_
    refine fx_iload_n dX12_standing_9 rfl rfl ?_
    obtain ⟨p3, ep3, h⟩ := xBind_el h
    refine gx_callv (as := [.int a2]) (r := []) rfl dX12_standing_10 ca_12_377 rfl me_163 rfl rfl rfl rfl (ha0.1) rfl (fX12_isRun_ok (d := d) (by omega) ha0 ep3) rfl rfl ?_
    refine fx_if_ne (t := 20) dX12_standing_13 rfl rfl (fun hc4 => ?_) (fun hc4 => ?_)
    · rw [if_pos hc4] at h
      refine fx_aload_n dX12_standing_20 rfl rfl ?_
      obtain ⟨p5, ep5, h⟩ := xBind_el h
      refine gx_callv (as := []) (r := []) rfl dX12_standing_21 ca_12_386 rfl me_214 rfl rfl rfl rfl (ha0.1) rfl (fX12_saves_ok (d := d) (by omega) ha0 ep5) rfl rfl ?_
      refine fx_iconst (x := 0) dX12_standing_24 rfl (by decide) ?_
      refine fx_istore_n (ls2 := [some (.ref a0), some (.int a1), some (.int a2), some (.int (0 : Int32)), o4]) dX12_standing_25 rfl rfl rfl ?_
      refine fx_iconst (x := 0) dX12_standing_26 rfl (by decide) ?_
      refine fx_istore (ls2 := [some (.ref a0), some (.int a1), some (.int a2), some (.int (0 : Int32)), some (.int (0 : Int32))]) dX12_standing_27 rfl rfl rfl ?_
      exact fX12_standing_29_ok hd ha0 xFuel (0 : Int32) (0 : Int32) p5 r h
    · rw [if_neg hc4] at h
      exact fX12_standing_16_ok (o3 := o3) (o4 := o4) hd ha0 q3 q4 h
def fX12_standing (a0 : Nat) (a1 : Int32) (a2 : Int32) (m : xMem) : Option (Int32 × xMem) := fX12_standing_0 a0 a1 a2  m
theorem fX12_standing_ok {a0 : Nat} {a1 : Int32} {a2 : Int32} {m : xMem} {r : (Int32 × xMem)} {d : Nat} (hd : 8 ≤ d) (ha0 : isModel a0) (h : fX12_standing a0 a1 a2 m = some r) : xEx d 226 [.ref a0, .int a1, .int a2] (xLay m) (some (.int r.1)) (xLay r.2) := by
  obtain ⟨d, rfl⟩ : ∃ q, d = q + 1 := ⟨d - 1, by omega⟩
  exact xEx_of me_226 rfl (fX12_standing_0_ok (d := d) (o3 := none) (o4 := none) (by omega) ha0 rfl rfl h)
def fX11_mayStandAlone_26 (a0 : Int32) (a1 : Int32) (s0 : Int32) (m : xMem) : Option (Int32 × xMem) := bif (decide (s0 = 0) || decide (s0 = 1)) then some (s0, m) else none
set_option maxRecDepth 4000 in
theorem fX11_mayStandAlone_26_ok {a0 : Int32} {a1 : Int32} {d : Nat} (hd : 1 ≤ d)  {s0 : Int32} {m : xMem} {r : (Int32 × xMem)} (h : fX11_mayStandAlone_26 a0 a1 s0 m = some r) : xFx hh_228 cX11_mayStandAlone d 26 [some (.int a0), some (.int a1)] [.int s0] (xLay m) 0 0 (some (.int r.1)) (xLay r.2) := by
  unfold fX11_mayStandAlone_26 at h
  obtain ⟨hb1, h⟩ := xChk_el h
  cases h
  exact fx_ireturn dX11_mayStandAlone_26 rfl (by show ((decide _ || decide _) && _) = true; rw [hb1]; rfl)
def fX11_mayStandAlone_25 (a0 : Int32) (a1 : Int32) (m : xMem) : Option (Int32 × xMem) := fX11_mayStandAlone_26 a0 a1 (0 : Int32) m
set_option maxRecDepth 4000 in
theorem fX11_mayStandAlone_25_ok {a0 : Int32} {a1 : Int32} {d : Nat} (hd : 1 ≤ d)  {m : xMem} {r : (Int32 × xMem)} (h : fX11_mayStandAlone_25 a0 a1 m = some r) : xFx hh_228 cX11_mayStandAlone d 25 [some (.int a0), some (.int a1)] [] (xLay m) 0 0 (some (.int r.1)) (xLay r.2) := by
  unfold fX11_mayStandAlone_25 at h
  refine fx_iconst (x := 0) dX11_mayStandAlone_25 rfl (by decide) ?_
  exact fX11_mayStandAlone_26_ok hd h
def fX11_mayStandAlone_0 (a0 : Int32) (a1 : Int32) (m : xMem) : Option (Int32 × xMem) := (fX11_within a0 (2 : Int32) (40 : Int32) m).bind fun p1 => if p1.1 = (0 : Int32) then fX11_mayStandAlone_25 a0 a1 p1.2 else (fX11_within a1 (1 : Int32) (999 : Int32) p1.2).bind fun p3 => if p3.1 = (0 : Int32) then fX11_mayStandAlone_25 a0 a1 p3.2 else fX11_mayStandAlone_26 a0 a1 (1 : Int32) p3.2
set_option maxRecDepth 4000 in
theorem fX11_mayStandAlone_0_ok {a0 : Int32} {a1 : Int32} {d : Nat} (hd : 1 ≤ d)  {m : xMem} {r : (Int32 × xMem)} (h : fX11_mayStandAlone_0 a0 a1 m = some r) : xFx hh_228 cX11_mayStandAlone d 0 [some (.int a0), some (.int a1)] [] (xLay m) 0 0 (some (.int r.1)) (xLay r.2) := by
  unfold fX11_mayStandAlone_0 at h
  refine fx_iload_n dX11_mayStandAlone_0 rfl rfl ?_
  refine fx_iconst (x := 2) dX11_mayStandAlone_1 rfl (by decide) ?_
  refine fx_bipush (x := 40) dX11_mayStandAlone_2 rfl (by decide) ?_
  obtain ⟨p1, ep1, h⟩ := xBind_el h
  refine gx_calls (as := [.int a0, .int (2 : Int32), .int (40 : Int32)]) (r := []) rfl dX11_mayStandAlone_4 ca_11_47 rfl me_14 rfl rfl rfl rfl (fX11_within_ok (d := d) (by omega) ep1) rfl rfl ?_
  refine fx_if_eq (t := 25) dX11_mayStandAlone_7 rfl rfl (fun hc2 => ?_) (fun hc2 => ?_)
  · rw [if_pos hc2] at h
    exact fX11_mayStandAlone_25_ok hd h
  · rw [if_neg hc2] at h
    refine fx_iload_n dX11_mayStandAlone_10 rfl rfl ?_
    refine fx_iconst (x := 1) dX11_mayStandAlone_11 rfl (by decide) ?_
    refine fx_sipush (x := 999) dX11_mayStandAlone_12 rfl (by decide) ?_
    obtain ⟨p3, ep3, h⟩ := xBind_el h
    refine gx_calls (as := [.int a1, .int (1 : Int32), .int (999 : Int32)]) (r := []) rfl dX11_mayStandAlone_15 ca_11_47 rfl me_14 rfl rfl rfl rfl (fX11_within_ok (d := d) (by omega) ep3) rfl rfl ?_
    refine fx_if_eq (t := 25) dX11_mayStandAlone_18 rfl rfl (fun hc4 => ?_) (fun hc4 => ?_)
    · rw [if_pos hc4] at h
      exact fX11_mayStandAlone_25_ok hd h
    · rw [if_neg hc4] at h
      refine fx_iconst (x := 1) dX11_mayStandAlone_21 rfl (by decide) ?_
      refine fx_goto (t := 26) dX11_mayStandAlone_22 rfl rfl ?_
      exact fX11_mayStandAlone_26_ok hd h
def fX11_mayStandAlone (a0 : Int32) (a1 : Int32) (m : xMem) : Option (Int32 × xMem) := fX11_mayStandAlone_0 a0 a1  m
theorem fX11_mayStandAlone_ok {a0 : Int32} {a1 : Int32} {m : xMem} {r : (Int32 × xMem)} {d : Nat} (hd : 2 ≤ d)  (h : fX11_mayStandAlone a0 a1 m = some r) : xEx d 228 [.int a0, .int a1] (xLay m) (some (.int r.1)) (xLay r.2) := by
  obtain ⟨d, rfl⟩ : ∃ q, d = q + 1 := ⟨d - 1, by omega⟩
  exact xEx_of me_228 rfl (fX11_mayStandAlone_0_ok (d := d) (by omega) h)
