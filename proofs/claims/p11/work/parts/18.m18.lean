theorem bdX12_put_0 : (decode cX12_put 0 = .ok (.bipush 24, 2)) ∧ (decode cX12_put 2 = .ok (.istore_n 2, 1)) ∧ (decode cX12_put 3 = .ok (.iload_n 2, 1)) ∧ (decode cX12_put 4 = .ok (.ifCond .lt 34, 3)) ∧ (decode cX12_put 7 = .ok (.aload_n 0, 1)) ∧ (decode cX12_put 8 = .ok (.getfield 19, 3)) ∧ (decode cX12_put 11 = .ok (.aload_n 0, 1)) ∧ (decode cX12_put 12 = .ok (.getfield 122, 3)) ∧ (decode cX12_put 15 = .ok (.iload_n 1, 1)) ∧ (decode cX12_put 16 = .ok (.iload_n 2, 1)) ∧ (decode cX12_put 17 = .ok (.ishr, 1)) ∧ (decode cX12_put 18 = .ok (.i2b, 1)) ∧ (decode cX12_put 19 = .ok (.bastore, 1)) ∧ (decode cX12_put 20 = .ok (.aload_n 0, 1)) ∧ (decode cX12_put 21 = .ok (.dup, 1)) ∧ (decode cX12_put 22 = .ok (.getfield 122, 3)) := by decide +kernel
theorem dX12_put_0 : decode cX12_put 0 = .ok (.bipush 24, 2) := bdX12_put_0.1
theorem dX12_put_2 : decode cX12_put 2 = .ok (.istore_n 2, 1) := bdX12_put_0.2.1
theorem dX12_put_3 : decode cX12_put 3 = .ok (.iload_n 2, 1) := bdX12_put_0.2.2.1
theorem dX12_put_4 : decode cX12_put 4 = .ok (.ifCond .lt 34, 3) := bdX12_put_0.2.2.2.1
theorem dX12_put_7 : decode cX12_put 7 = .ok (.aload_n 0, 1) := bdX12_put_0.2.2.2.2.1
theorem dX12_put_8 : decode cX12_put 8 = .ok (.getfield 19, 3) := bdX12_put_0.2.2.2.2.2.1
theorem dX12_put_11 : decode cX12_put 11 = .ok (.aload_n 0, 1) := bdX12_put_0.2.2.2.2.2.2.1
theorem dX12_put_12 : decode cX12_put 12 = .ok (.getfield 122, 3) := bdX12_put_0.2.2.2.2.2.2.2.1
theorem dX12_put_15 : decode cX12_put 15 = .ok (.iload_n 1, 1) := bdX12_put_0.2.2.2.2.2.2.2.2.1
theorem dX12_put_16 : decode cX12_put 16 = .ok (.iload_n 2, 1) := bdX12_put_0.2.2.2.2.2.2.2.2.2.1
theorem dX12_put_17 : decode cX12_put 17 = .ok (.ishr, 1) := bdX12_put_0.2.2.2.2.2.2.2.2.2.2.1
theorem dX12_put_18 : decode cX12_put 18 = .ok (.i2b, 1) := bdX12_put_0.2.2.2.2.2.2.2.2.2.2.2.1
theorem dX12_put_19 : decode cX12_put 19 = .ok (.bastore, 1) := bdX12_put_0.2.2.2.2.2.2.2.2.2.2.2.2.1
theorem dX12_put_20 : decode cX12_put 20 = .ok (.aload_n 0, 1) := bdX12_put_0.2.2.2.2.2.2.2.2.2.2.2.2.2.1
theorem dX12_put_21 : decode cX12_put 21 = .ok (.dup, 1) := bdX12_put_0.2.2.2.2.2.2.2.2.2.2.2.2.2.2.1
theorem dX12_put_22 : decode cX12_put 22 = .ok (.getfield 122, 3) := bdX12_put_0.2.2.2.2.2.2.2.2.2.2.2.2.2.2.2
theorem bdX12_put_25 : (decode cX12_put 25 = .ok (.iconst 1, 1)) ∧ (decode cX12_put 26 = .ok (.iadd, 1)) ∧ (decode cX12_put 27 = .ok (.putfield 122, 3)) ∧ (decode cX12_put 30 = .ok (.iload_n 2, 1)) ∧ (decode cX12_put 31 = .ok (.bipush 8, 2)) ∧ (decode cX12_put 33 = .ok (.isub, 1)) ∧ (decode cX12_put 34 = .ok (.istore_n 2, 1)) ∧ (decode cX12_put 35 = .ok (.goto (-32), 3)) ∧ (decode cX12_put 38 = .ok (.return_, 1)) := by decide +kernel
theorem dX12_put_25 : decode cX12_put 25 = .ok (.iconst 1, 1) := bdX12_put_25.1
theorem dX12_put_26 : decode cX12_put 26 = .ok (.iadd, 1) := bdX12_put_25.2.1
theorem dX12_put_27 : decode cX12_put 27 = .ok (.putfield 122, 3) := bdX12_put_25.2.2.1
theorem dX12_put_30 : decode cX12_put 30 = .ok (.iload_n 2, 1) := bdX12_put_25.2.2.2.1
theorem dX12_put_31 : decode cX12_put 31 = .ok (.bipush 8, 2) := bdX12_put_25.2.2.2.2.1
theorem dX12_put_33 : decode cX12_put 33 = .ok (.isub, 1) := bdX12_put_25.2.2.2.2.2.1
theorem dX12_put_34 : decode cX12_put 34 = .ok (.istore_n 2, 1) := bdX12_put_25.2.2.2.2.2.2.1
theorem dX12_put_35 : decode cX12_put 35 = .ok (.goto (-32), 3) := bdX12_put_25.2.2.2.2.2.2.2.1
theorem dX12_put_38 : decode cX12_put 38 = .ok (.return_, 1) := bdX12_put_25.2.2.2.2.2.2.2.2
theorem bdX12_feed_0 : (decode cX12_feed 0 = .ok (.aload_n 0, 1)) ∧ (decode cX12_feed 1 = .ok (.getfield 122, 3)) ∧ (decode cX12_feed 4 = .ok (.bipush 20, 2)) ∧ (decode cX12_feed 6 = .ok (.iadd, 1)) ∧ (decode cX12_feed 7 = .ok (.sipush 300, 3)) ∧ (decode cX12_feed 10 = .ok (.if_icmp .le 5, 3)) ∧ (decode cX12_feed 13 = .ok (.iconst (-1), 1)) ∧ (decode cX12_feed 14 = .ok (.ireturn, 1)) ∧ (decode cX12_feed 15 = .ok (.aload_n 0, 1)) ∧ (decode cX12_feed 16 = .ok (.iload_n 1, 1)) ∧ (decode cX12_feed 17 = .ok (.invokevirtual 125, 3)) ∧ (decode cX12_feed 20 = .ok (.aload_n 0, 1)) ∧ (decode cX12_feed 21 = .ok (.iload_n 2, 1)) ∧ (decode cX12_feed 22 = .ok (.invokevirtual 125, 3)) ∧ (decode cX12_feed 25 = .ok (.aload_n 0, 1)) ∧ (decode cX12_feed 26 = .ok (.iload_n 3, 1)) := by decide +kernel
theorem dX12_feed_0 : decode cX12_feed 0 = .ok (.aload_n 0, 1) := bdX12_feed_0.1
theorem dX12_feed_1 : decode cX12_feed 1 = .ok (.getfield 122, 3) := bdX12_feed_0.2.1
theorem dX12_feed_4 : decode cX12_feed 4 = .ok (.bipush 20, 2) := bdX12_feed_0.2.2.1
theorem dX12_feed_6 : decode cX12_feed 6 = .ok (.iadd, 1) := bdX12_feed_0.2.2.2.1
theorem dX12_feed_7 : decode cX12_feed 7 = .ok (.sipush 300, 3) := bdX12_feed_0.2.2.2.2.1
theorem dX12_feed_10 : decode cX12_feed 10 = .ok (.if_icmp .le 5, 3) := bdX12_feed_0.2.2.2.2.2.1
theorem dX12_feed_13 : decode cX12_feed 13 = .ok (.iconst (-1), 1) := bdX12_feed_0.2.2.2.2.2.2.1
theorem dX12_feed_14 : decode cX12_feed 14 = .ok (.ireturn, 1) := bdX12_feed_0.2.2.2.2.2.2.2.1
theorem dX12_feed_15 : decode cX12_feed 15 = .ok (.aload_n 0, 1) := bdX12_feed_0.2.2.2.2.2.2.2.2.1
theorem dX12_feed_16 : decode cX12_feed 16 = .ok (.iload_n 1, 1) := bdX12_feed_0.2.2.2.2.2.2.2.2.2.1
theorem dX12_feed_17 : decode cX12_feed 17 = .ok (.invokevirtual 125, 3) := bdX12_feed_0.2.2.2.2.2.2.2.2.2.2.1
theorem dX12_feed_20 : decode cX12_feed 20 = .ok (.aload_n 0, 1) := bdX12_feed_0.2.2.2.2.2.2.2.2.2.2.2.1
theorem dX12_feed_21 : decode cX12_feed 21 = .ok (.iload_n 2, 1) := bdX12_feed_0.2.2.2.2.2.2.2.2.2.2.2.2.1
theorem dX12_feed_22 : decode cX12_feed 22 = .ok (.invokevirtual 125, 3) := bdX12_feed_0.2.2.2.2.2.2.2.2.2.2.2.2.2.1
theorem dX12_feed_25 : decode cX12_feed 25 = .ok (.aload_n 0, 1) := bdX12_feed_0.2.2.2.2.2.2.2.2.2.2.2.2.2.2.1
theorem dX12_feed_26 : decode cX12_feed 26 = .ok (.iload_n 3, 1) := bdX12_feed_0.2.2.2.2.2.2.2.2.2.2.2.2.2.2.2
theorem bdX12_feed_27 : (decode cX12_feed 27 = .ok (.invokevirtual 125, 3)) ∧ (decode cX12_feed 30 = .ok (.aload_n 0, 1)) ∧ (decode cX12_feed 31 = .ok (.iload 4, 2)) ∧ (decode cX12_feed 33 = .ok (.invokevirtual 125, 3)) ∧ (decode cX12_feed 36 = .ok (.aload_n 0, 1)) ∧ (decode cX12_feed 37 = .ok (.iload 5, 2)) ∧ (decode cX12_feed 39 = .ok (.invokevirtual 125, 3)) ∧ (decode cX12_feed 42 = .ok (.aload_n 0, 1)) ∧ (decode cX12_feed 43 = .ok (.getfield 122, 3)) ∧ (decode cX12_feed 46 = .ok (.ireturn, 1)) := by decide +kernel
theorem dX12_feed_27 : decode cX12_feed 27 = .ok (.invokevirtual 125, 3) := bdX12_feed_27.1
theorem dX12_feed_30 : decode cX12_feed 30 = .ok (.aload_n 0, 1) := bdX12_feed_27.2.1
theorem dX12_feed_31 : decode cX12_feed 31 = .ok (.iload 4, 2) := bdX12_feed_27.2.2.1
theorem dX12_feed_33 : decode cX12_feed 33 = .ok (.invokevirtual 125, 3) := bdX12_feed_27.2.2.2.1
theorem dX12_feed_36 : decode cX12_feed 36 = .ok (.aload_n 0, 1) := bdX12_feed_27.2.2.2.2.1
theorem dX12_feed_37 : decode cX12_feed 37 = .ok (.iload 5, 2) := bdX12_feed_27.2.2.2.2.2.1
theorem dX12_feed_39 : decode cX12_feed 39 = .ok (.invokevirtual 125, 3) := bdX12_feed_27.2.2.2.2.2.2.1
theorem dX12_feed_42 : decode cX12_feed 42 = .ok (.aload_n 0, 1) := bdX12_feed_27.2.2.2.2.2.2.2.1
theorem dX12_feed_43 : decode cX12_feed 43 = .ok (.getfield 122, 3) := bdX12_feed_27.2.2.2.2.2.2.2.2.1
theorem dX12_feed_46 : decode cX12_feed 46 = .ok (.ireturn, 1) := bdX12_feed_27.2.2.2.2.2.2.2.2.2
theorem bdX11_end_0 : (decode cX11_end 0 = .ok (.iload_n 1, 1)) ∧ (decode cX11_end 1 = .ok (.iconst 0, 1)) ∧ (decode cX11_end 2 = .ok (.aload_n 0, 1)) ∧ (decode cX11_end 3 = .ok (.getfield 32, 3)) ∧ (decode cX11_end 6 = .ok (.getfield 140, 3)) ∧ (decode cX11_end 9 = .ok (.invokestatic 47, 3)) ∧ (decode cX11_end 12 = .ok (.ifCond .ne 5, 3)) ∧ (decode cX11_end 15 = .ok (.iconst (-1), 1)) ∧ (decode cX11_end 16 = .ok (.ireturn, 1)) ∧ (decode cX11_end 17 = .ok (.aload_n 0, 1)) ∧ (decode cX11_end 18 = .ok (.getfield 32, 3)) ∧ (decode cX11_end 21 = .ok (.iload_n 1, 1)) ∧ (decode cX11_end 22 = .ok (.putfield 140, 3)) ∧ (decode cX11_end 25 = .ok (.iload_n 1, 1)) ∧ (decode cX11_end 26 = .ok (.ireturn, 1)) := by decide +kernel
theorem dX11_end_0 : decode cX11_end 0 = .ok (.iload_n 1, 1) := bdX11_end_0.1
theorem dX11_end_1 : decode cX11_end 1 = .ok (.iconst 0, 1) := bdX11_end_0.2.1
theorem dX11_end_2 : decode cX11_end 2 = .ok (.aload_n 0, 1) := bdX11_end_0.2.2.1
theorem dX11_end_3 : decode cX11_end 3 = .ok (.getfield 32, 3) := bdX11_end_0.2.2.2.1
theorem dX11_end_6 : decode cX11_end 6 = .ok (.getfield 140, 3) := bdX11_end_0.2.2.2.2.1
theorem dX11_end_9 : decode cX11_end 9 = .ok (.invokestatic 47, 3) := bdX11_end_0.2.2.2.2.2.1
theorem dX11_end_12 : decode cX11_end 12 = .ok (.ifCond .ne 5, 3) := bdX11_end_0.2.2.2.2.2.2.1
theorem dX11_end_15 : decode cX11_end 15 = .ok (.iconst (-1), 1) := bdX11_end_0.2.2.2.2.2.2.2.1
theorem dX11_end_16 : decode cX11_end 16 = .ok (.ireturn, 1) := bdX11_end_0.2.2.2.2.2.2.2.2.1
theorem dX11_end_17 : decode cX11_end 17 = .ok (.aload_n 0, 1) := bdX11_end_0.2.2.2.2.2.2.2.2.2.1
theorem dX11_end_18 : decode cX11_end 18 = .ok (.getfield 32, 3) := bdX11_end_0.2.2.2.2.2.2.2.2.2.2.1
theorem dX11_end_21 : decode cX11_end 21 = .ok (.iload_n 1, 1) := bdX11_end_0.2.2.2.2.2.2.2.2.2.2.2.1
theorem dX11_end_22 : decode cX11_end 22 = .ok (.putfield 140, 3) := bdX11_end_0.2.2.2.2.2.2.2.2.2.2.2.2.1
theorem dX11_end_25 : decode cX11_end 25 = .ok (.iload_n 1, 1) := bdX11_end_0.2.2.2.2.2.2.2.2.2.2.2.2.2.1
theorem dX11_end_26 : decode cX11_end 26 = .ok (.ireturn, 1) := bdX11_end_0.2.2.2.2.2.2.2.2.2.2.2.2.2.2
theorem bdX12_end_0 : (decode cX12_end 0 = .ok (.iload_n 1, 1)) ∧ (decode cX12_end 1 = .ok (.iconst 0, 1)) ∧ (decode cX12_end 2 = .ok (.aload_n 0, 1)) ∧ (decode cX12_end 3 = .ok (.getfield 122, 3)) ∧ (decode cX12_end 6 = .ok (.invokestatic 95, 3)) ∧ (decode cX12_end 9 = .ok (.ifCond .ne 5, 3)) ∧ (decode cX12_end 12 = .ok (.iconst (-1), 1)) ∧ (decode cX12_end 13 = .ok (.ireturn, 1)) ∧ (decode cX12_end 14 = .ok (.aload_n 0, 1)) ∧ (decode cX12_end 15 = .ok (.iload_n 1, 1)) ∧ (decode cX12_end 16 = .ok (.putfield 122, 3)) ∧ (decode cX12_end 19 = .ok (.iload_n 1, 1)) ∧ (decode cX12_end 20 = .ok (.ireturn, 1)) := by decide +kernel
theorem dX12_end_0 : decode cX12_end 0 = .ok (.iload_n 1, 1) := bdX12_end_0.1
theorem dX12_end_1 : decode cX12_end 1 = .ok (.iconst 0, 1) := bdX12_end_0.2.1
theorem dX12_end_2 : decode cX12_end 2 = .ok (.aload_n 0, 1) := bdX12_end_0.2.2.1
theorem dX12_end_3 : decode cX12_end 3 = .ok (.getfield 122, 3) := bdX12_end_0.2.2.2.1
theorem dX12_end_6 : decode cX12_end 6 = .ok (.invokestatic 95, 3) := bdX12_end_0.2.2.2.2.1
theorem dX12_end_9 : decode cX12_end 9 = .ok (.ifCond .ne 5, 3) := bdX12_end_0.2.2.2.2.2.1
theorem dX12_end_12 : decode cX12_end 12 = .ok (.iconst (-1), 1) := bdX12_end_0.2.2.2.2.2.2.1
theorem dX12_end_13 : decode cX12_end 13 = .ok (.ireturn, 1) := bdX12_end_0.2.2.2.2.2.2.2.1
theorem dX12_end_14 : decode cX12_end 14 = .ok (.aload_n 0, 1) := bdX12_end_0.2.2.2.2.2.2.2.2.1
theorem dX12_end_15 : decode cX12_end 15 = .ok (.iload_n 1, 1) := bdX12_end_0.2.2.2.2.2.2.2.2.2.1
theorem dX12_end_16 : decode cX12_end 16 = .ok (.putfield 122, 3) := bdX12_end_0.2.2.2.2.2.2.2.2.2.2.1
theorem dX12_end_19 : decode cX12_end 19 = .ok (.iload_n 1, 1) := bdX12_end_0.2.2.2.2.2.2.2.2.2.2.2.1
theorem dX12_end_20 : decode cX12_end 20 = .ok (.ireturn, 1) := bdX12_end_0.2.2.2.2.2.2.2.2.2.2.2.2
theorem bdX7_kind_0 : (decode cX7_kind 0 = .ok (.aload_n 0, 1)) ∧ (decode cX7_kind 1 = .ok (.getfield 37, 3)) ∧ (decode cX7_kind 4 = .ok (.ifCond .lt 38, 3)) ∧ (decode cX7_kind 7 = .ok (.aload_n 0, 1)) ∧ (decode cX7_kind 8 = .ok (.getfield 37, 3)) ∧ (decode cX7_kind 11 = .ok (.aload_n 0, 1)) ∧ (decode cX7_kind 12 = .ok (.getfield 48, 3)) ∧ (decode cX7_kind 15 = .ok (.if_icmp .ge 27, 3)) ∧ (decode cX7_kind 18 = .ok (.aload_n 0, 1)) ∧ (decode cX7_kind 19 = .ok (.getfield 37, 3)) ∧ (decode cX7_kind 22 = .ok (.aload_n 0, 1)) ∧ (decode cX7_kind 23 = .ok (.getfield 15, 3)) ∧ (decode cX7_kind 26 = .ok (.arraylength, 1)) ∧ (decode cX7_kind 27 = .ok (.if_icmp .ge 15, 3)) ∧ (decode cX7_kind 30 = .ok (.aload_n 0, 1)) ∧ (decode cX7_kind 31 = .ok (.getfield 15, 3)) := by decide +kernel
theorem dX7_kind_0 : decode cX7_kind 0 = .ok (.aload_n 0, 1) := bdX7_kind_0.1
theorem dX7_kind_1 : decode cX7_kind 1 = .ok (.getfield 37, 3) := bdX7_kind_0.2.1
theorem dX7_kind_4 : decode cX7_kind 4 = .ok (.ifCond .lt 38, 3) := bdX7_kind_0.2.2.1
theorem dX7_kind_7 : decode cX7_kind 7 = .ok (.aload_n 0, 1) := bdX7_kind_0.2.2.2.1
theorem dX7_kind_8 : decode cX7_kind 8 = .ok (.getfield 37, 3) := bdX7_kind_0.2.2.2.2.1
theorem dX7_kind_11 : decode cX7_kind 11 = .ok (.aload_n 0, 1) := bdX7_kind_0.2.2.2.2.2.1
theorem dX7_kind_12 : decode cX7_kind 12 = .ok (.getfield 48, 3) := bdX7_kind_0.2.2.2.2.2.2.1
theorem dX7_kind_15 : decode cX7_kind 15 = .ok (.if_icmp .ge 27, 3) := bdX7_kind_0.2.2.2.2.2.2.2.1
theorem dX7_kind_18 : decode cX7_kind 18 = .ok (.aload_n 0, 1) := bdX7_kind_0.2.2.2.2.2.2.2.2.1
theorem dX7_kind_19 : decode cX7_kind 19 = .ok (.getfield 37, 3) := bdX7_kind_0.2.2.2.2.2.2.2.2.2.1
theorem dX7_kind_22 : decode cX7_kind 22 = .ok (.aload_n 0, 1) := bdX7_kind_0.2.2.2.2.2.2.2.2.2.2.1
theorem dX7_kind_23 : decode cX7_kind 23 = .ok (.getfield 15, 3) := bdX7_kind_0.2.2.2.2.2.2.2.2.2.2.2.1
theorem dX7_kind_26 : decode cX7_kind 26 = .ok (.arraylength, 1) := bdX7_kind_0.2.2.2.2.2.2.2.2.2.2.2.2.1
theorem dX7_kind_27 : decode cX7_kind 27 = .ok (.if_icmp .ge 15, 3) := bdX7_kind_0.2.2.2.2.2.2.2.2.2.2.2.2.2.1
theorem dX7_kind_30 : decode cX7_kind 30 = .ok (.aload_n 0, 1) := bdX7_kind_0.2.2.2.2.2.2.2.2.2.2.2.2.2.2.1
theorem dX7_kind_31 : decode cX7_kind 31 = .ok (.getfield 15, 3) := bdX7_kind_0.2.2.2.2.2.2.2.2.2.2.2.2.2.2.2
theorem bdX7_kind_34 : (decode cX7_kind 34 = .ok (.aload_n 0, 1)) ∧ (decode cX7_kind 35 = .ok (.getfield 37, 3)) ∧ (decode cX7_kind 38 = .ok (.iaload, 1)) ∧ (decode cX7_kind 39 = .ok (.goto 4, 3)) ∧ (decode cX7_kind 42 = .ok (.iconst 0, 1)) ∧ (decode cX7_kind 43 = .ok (.ireturn, 1)) := by decide +kernel
theorem dX7_kind_34 : decode cX7_kind 34 = .ok (.aload_n 0, 1) := bdX7_kind_34.1
theorem dX7_kind_35 : decode cX7_kind 35 = .ok (.getfield 37, 3) := bdX7_kind_34.2.1
theorem dX7_kind_38 : decode cX7_kind 38 = .ok (.iaload, 1) := bdX7_kind_34.2.2.1
theorem dX7_kind_39 : decode cX7_kind 39 = .ok (.goto 4, 3) := bdX7_kind_34.2.2.2.1
theorem dX7_kind_42 : decode cX7_kind 42 = .ok (.iconst 0, 1) := bdX7_kind_34.2.2.2.2.1
theorem dX7_kind_43 : decode cX7_kind 43 = .ok (.ireturn, 1) := bdX7_kind_34.2.2.2.2.2
theorem bdX7_fails_0 : (decode cX7_fails 0 = .ok (.aload_n 0, 1)) ∧ (decode cX7_fails 1 = .ok (.iload_n 1, 1)) ∧ (decode cX7_fails 2 = .ok (.putfield 24, 3)) ∧ (decode cX7_fails 5 = .ok (.aload_n 0, 1)) ∧ (decode cX7_fails 6 = .ok (.aload_n 0, 1)) ∧ (decode cX7_fails 7 = .ok (.getfield 37, 3)) ∧ (decode cX7_fails 10 = .ok (.ifCond .lt 38, 3)) ∧ (decode cX7_fails 13 = .ok (.aload_n 0, 1)) ∧ (decode cX7_fails 14 = .ok (.getfield 37, 3)) ∧ (decode cX7_fails 17 = .ok (.aload_n 0, 1)) ∧ (decode cX7_fails 18 = .ok (.getfield 48, 3)) ∧ (decode cX7_fails 21 = .ok (.if_icmp .ge 27, 3)) ∧ (decode cX7_fails 24 = .ok (.aload_n 0, 1)) ∧ (decode cX7_fails 25 = .ok (.getfield 37, 3)) ∧ (decode cX7_fails 28 = .ok (.aload_n 0, 1)) ∧ (decode cX7_fails 29 = .ok (.getfield 21, 3)) := by decide +kernel
theorem dX7_fails_0 : decode cX7_fails 0 = .ok (.aload_n 0, 1) := bdX7_fails_0.1
theorem dX7_fails_1 : decode cX7_fails 1 = .ok (.iload_n 1, 1) := bdX7_fails_0.2.1
theorem dX7_fails_2 : decode cX7_fails 2 = .ok (.putfield 24, 3) := bdX7_fails_0.2.2.1
theorem dX7_fails_5 : decode cX7_fails 5 = .ok (.aload_n 0, 1) := bdX7_fails_0.2.2.2.1
theorem dX7_fails_6 : decode cX7_fails 6 = .ok (.aload_n 0, 1) := bdX7_fails_0.2.2.2.2.1
theorem dX7_fails_7 : decode cX7_fails 7 = .ok (.getfield 37, 3) := bdX7_fails_0.2.2.2.2.2.1
theorem dX7_fails_10 : decode cX7_fails 10 = .ok (.ifCond .lt 38, 3) := bdX7_fails_0.2.2.2.2.2.2.1
theorem dX7_fails_13 : decode cX7_fails 13 = .ok (.aload_n 0, 1) := bdX7_fails_0.2.2.2.2.2.2.2.1
theorem dX7_fails_14 : decode cX7_fails 14 = .ok (.getfield 37, 3) := bdX7_fails_0.2.2.2.2.2.2.2.2.1
theorem dX7_fails_17 : decode cX7_fails 17 = .ok (.aload_n 0, 1) := bdX7_fails_0.2.2.2.2.2.2.2.2.2.1
theorem dX7_fails_18 : decode cX7_fails 18 = .ok (.getfield 48, 3) := bdX7_fails_0.2.2.2.2.2.2.2.2.2.2.1
theorem dX7_fails_21 : decode cX7_fails 21 = .ok (.if_icmp .ge 27, 3) := bdX7_fails_0.2.2.2.2.2.2.2.2.2.2.2.1
theorem dX7_fails_24 : decode cX7_fails 24 = .ok (.aload_n 0, 1) := bdX7_fails_0.2.2.2.2.2.2.2.2.2.2.2.2.1
theorem dX7_fails_25 : decode cX7_fails 25 = .ok (.getfield 37, 3) := bdX7_fails_0.2.2.2.2.2.2.2.2.2.2.2.2.2.1
theorem dX7_fails_28 : decode cX7_fails 28 = .ok (.aload_n 0, 1) := bdX7_fails_0.2.2.2.2.2.2.2.2.2.2.2.2.2.2.1
theorem dX7_fails_29 : decode cX7_fails 29 = .ok (.getfield 21, 3) := bdX7_fails_0.2.2.2.2.2.2.2.2.2.2.2.2.2.2.2
theorem bdX7_fails_32 : (decode cX7_fails 32 = .ok (.arraylength, 1)) ∧ (decode cX7_fails 33 = .ok (.if_icmp .ge 15, 3)) ∧ (decode cX7_fails 36 = .ok (.aload_n 0, 1)) ∧ (decode cX7_fails 37 = .ok (.getfield 21, 3)) ∧ (decode cX7_fails 40 = .ok (.aload_n 0, 1)) ∧ (decode cX7_fails 41 = .ok (.getfield 37, 3)) ∧ (decode cX7_fails 44 = .ok (.iaload, 1)) ∧ (decode cX7_fails 45 = .ok (.goto 4, 3)) ∧ (decode cX7_fails 48 = .ok (.iconst 0, 1)) ∧ (decode cX7_fails 49 = .ok (.putfield 28, 3)) ∧ (decode cX7_fails 52 = .ok (.iconst 0, 1)) ∧ (decode cX7_fails 53 = .ok (.ireturn, 1)) := by decide +kernel
theorem dX7_fails_32 : decode cX7_fails 32 = .ok (.arraylength, 1) := bdX7_fails_32.1
theorem dX7_fails_33 : decode cX7_fails 33 = .ok (.if_icmp .ge 15, 3) := bdX7_fails_32.2.1
theorem dX7_fails_36 : decode cX7_fails 36 = .ok (.aload_n 0, 1) := bdX7_fails_32.2.2.1
theorem dX7_fails_37 : decode cX7_fails 37 = .ok (.getfield 21, 3) := bdX7_fails_32.2.2.2.1
theorem dX7_fails_40 : decode cX7_fails 40 = .ok (.aload_n 0, 1) := bdX7_fails_32.2.2.2.2.1
theorem dX7_fails_41 : decode cX7_fails 41 = .ok (.getfield 37, 3) := bdX7_fails_32.2.2.2.2.2.1
theorem dX7_fails_44 : decode cX7_fails 44 = .ok (.iaload, 1) := bdX7_fails_32.2.2.2.2.2.2.1
theorem dX7_fails_45 : decode cX7_fails 45 = .ok (.goto 4, 3) := bdX7_fails_32.2.2.2.2.2.2.2.1
theorem dX7_fails_48 : decode cX7_fails 48 = .ok (.iconst 0, 1) := bdX7_fails_32.2.2.2.2.2.2.2.2.1
theorem dX7_fails_49 : decode cX7_fails 49 = .ok (.putfield 28, 3) := bdX7_fails_32.2.2.2.2.2.2.2.2.2.1
theorem dX7_fails_52 : decode cX7_fails 52 = .ok (.iconst 0, 1) := bdX7_fails_32.2.2.2.2.2.2.2.2.2.2.1
theorem dX7_fails_53 : decode cX7_fails 53 = .ok (.ireturn, 1) := bdX7_fails_32.2.2.2.2.2.2.2.2.2.2.2
theorem bdX10_has_0 : (decode cX10_has 0 = .ok (.iconst 0, 1)) ∧ (decode cX10_has 1 = .ok (.istore_n 2, 1)) ∧ (decode cX10_has 2 = .ok (.iload_n 2, 1)) ∧ (decode cX10_has 3 = .ok (.aload_n 0, 1)) ∧ (decode cX10_has 4 = .ok (.getfield 31, 3)) ∧ (decode cX10_has 7 = .ok (.if_icmp .ge 30, 3)) ∧ (decode cX10_has 10 = .ok (.iload_n 2, 1)) ∧ (decode cX10_has 11 = .ok (.aload_n 0, 1)) ∧ (decode cX10_has 12 = .ok (.getfield 18, 3)) ∧ (decode cX10_has 15 = .ok (.arraylength, 1)) ∧ (decode cX10_has 16 = .ok (.if_icmp .ge 21, 3)) ∧ (decode cX10_has 19 = .ok (.aload_n 0, 1)) ∧ (decode cX10_has 20 = .ok (.getfield 18, 3)) ∧ (decode cX10_has 23 = .ok (.iload_n 2, 1)) ∧ (decode cX10_has 24 = .ok (.iaload, 1)) ∧ (decode cX10_has 25 = .ok (.iload_n 1, 1)) := by decide +kernel
theorem dX10_has_0 : decode cX10_has 0 = .ok (.iconst 0, 1) := bdX10_has_0.1
theorem dX10_has_1 : decode cX10_has 1 = .ok (.istore_n 2, 1) := bdX10_has_0.2.1
theorem dX10_has_2 : decode cX10_has 2 = .ok (.iload_n 2, 1) := bdX10_has_0.2.2.1
theorem dX10_has_3 : decode cX10_has 3 = .ok (.aload_n 0, 1) := bdX10_has_0.2.2.2.1
theorem dX10_has_4 : decode cX10_has 4 = .ok (.getfield 31, 3) := bdX10_has_0.2.2.2.2.1
theorem dX10_has_7 : decode cX10_has 7 = .ok (.if_icmp .ge 30, 3) := bdX10_has_0.2.2.2.2.2.1
theorem dX10_has_10 : decode cX10_has 10 = .ok (.iload_n 2, 1) := bdX10_has_0.2.2.2.2.2.2.1
theorem dX10_has_11 : decode cX10_has 11 = .ok (.aload_n 0, 1) := bdX10_has_0.2.2.2.2.2.2.2.1
theorem dX10_has_12 : decode cX10_has 12 = .ok (.getfield 18, 3) := bdX10_has_0.2.2.2.2.2.2.2.2.1
theorem dX10_has_15 : decode cX10_has 15 = .ok (.arraylength, 1) := bdX10_has_0.2.2.2.2.2.2.2.2.2.1
theorem dX10_has_16 : decode cX10_has 16 = .ok (.if_icmp .ge 21, 3) := bdX10_has_0.2.2.2.2.2.2.2.2.2.2.1
theorem dX10_has_19 : decode cX10_has 19 = .ok (.aload_n 0, 1) := bdX10_has_0.2.2.2.2.2.2.2.2.2.2.2.1
theorem dX10_has_20 : decode cX10_has 20 = .ok (.getfield 18, 3) := bdX10_has_0.2.2.2.2.2.2.2.2.2.2.2.2.1
theorem dX10_has_23 : decode cX10_has 23 = .ok (.iload_n 2, 1) := bdX10_has_0.2.2.2.2.2.2.2.2.2.2.2.2.2.1
theorem dX10_has_24 : decode cX10_has 24 = .ok (.iaload, 1) := bdX10_has_0.2.2.2.2.2.2.2.2.2.2.2.2.2.2.1
theorem dX10_has_25 : decode cX10_has 25 = .ok (.iload_n 1, 1) := bdX10_has_0.2.2.2.2.2.2.2.2.2.2.2.2.2.2.2
theorem bdX10_has_26 : (decode cX10_has 26 = .ok (.if_icmp .ne 5, 3)) ∧ (decode cX10_has 29 = .ok (.iconst 1, 1)) ∧ (decode cX10_has 30 = .ok (.ireturn, 1)) ∧ (decode cX10_has 31 = .ok (.iinc 2 1, 3)) ∧ (decode cX10_has 34 = .ok (.goto (-32), 3)) ∧ (decode cX10_has 37 = .ok (.iconst 0, 1)) ∧ (decode cX10_has 38 = .ok (.ireturn, 1)) := by decide +kernel
theorem dX10_has_26 : decode cX10_has 26 = .ok (.if_icmp .ne 5, 3) := bdX10_has_26.1
theorem dX10_has_29 : decode cX10_has 29 = .ok (.iconst 1, 1) := bdX10_has_26.2.1
theorem dX10_has_30 : decode cX10_has 30 = .ok (.ireturn, 1) := bdX10_has_26.2.2.1
theorem dX10_has_31 : decode cX10_has 31 = .ok (.iinc 2 1, 3) := bdX10_has_26.2.2.2.1
theorem dX10_has_34 : decode cX10_has 34 = .ok (.goto (-32), 3) := bdX10_has_26.2.2.2.2.1
theorem dX10_has_37 : decode cX10_has 37 = .ok (.iconst 0, 1) := bdX10_has_26.2.2.2.2.2.1
theorem dX10_has_38 : decode cX10_has 38 = .ok (.ireturn, 1) := bdX10_has_26.2.2.2.2.2.2
theorem bdX10_open_0 : (decode cX10_open 0 = .ok (.aload_n 0, 1)) ∧ (decode cX10_open 1 = .ok (.getfield 31, 3)) ∧ (decode cX10_open 4 = .ok (.ifCond .lt 35, 3)) ∧ (decode cX10_open 7 = .ok (.aload_n 0, 1)) ∧ (decode cX10_open 8 = .ok (.getfield 31, 3)) ∧ (decode cX10_open 11 = .ok (.aload_n 0, 1)) ∧ (decode cX10_open 12 = .ok (.getfield 18, 3)) ∧ (decode cX10_open 15 = .ok (.arraylength, 1)) ∧ (decode cX10_open 16 = .ok (.if_icmp .ge 23, 3)) ∧ (decode cX10_open 19 = .ok (.aload_n 0, 1)) ∧ (decode cX10_open 20 = .ok (.getfield 18, 3)) ∧ (decode cX10_open 23 = .ok (.aload_n 0, 1)) ∧ (decode cX10_open 24 = .ok (.getfield 31, 3)) ∧ (decode cX10_open 27 = .ok (.iload_n 1, 1)) ∧ (decode cX10_open 28 = .ok (.iastore, 1)) ∧ (decode cX10_open 29 = .ok (.aload_n 0, 1)) := by decide +kernel
theorem dX10_open_0 : decode cX10_open 0 = .ok (.aload_n 0, 1) := bdX10_open_0.1
theorem dX10_open_1 : decode cX10_open 1 = .ok (.getfield 31, 3) := bdX10_open_0.2.1
theorem dX10_open_4 : decode cX10_open 4 = .ok (.ifCond .lt 35, 3) := bdX10_open_0.2.2.1
theorem dX10_open_7 : decode cX10_open 7 = .ok (.aload_n 0, 1) := bdX10_open_0.2.2.2.1
theorem dX10_open_8 : decode cX10_open 8 = .ok (.getfield 31, 3) := bdX10_open_0.2.2.2.2.1
theorem dX10_open_11 : decode cX10_open 11 = .ok (.aload_n 0, 1) := bdX10_open_0.2.2.2.2.2.1
theorem dX10_open_12 : decode cX10_open 12 = .ok (.getfield 18, 3) := bdX10_open_0.2.2.2.2.2.2.1
theorem dX10_open_15 : decode cX10_open 15 = .ok (.arraylength, 1) := bdX10_open_0.2.2.2.2.2.2.2.1
theorem dX10_open_16 : decode cX10_open 16 = .ok (.if_icmp .ge 23, 3) := bdX10_open_0.2.2.2.2.2.2.2.2.1
theorem dX10_open_19 : decode cX10_open 19 = .ok (.aload_n 0, 1) := bdX10_open_0.2.2.2.2.2.2.2.2.2.1
theorem dX10_open_20 : decode cX10_open 20 = .ok (.getfield 18, 3) := bdX10_open_0.2.2.2.2.2.2.2.2.2.2.1
theorem dX10_open_23 : decode cX10_open 23 = .ok (.aload_n 0, 1) := bdX10_open_0.2.2.2.2.2.2.2.2.2.2.2.1
theorem dX10_open_24 : decode cX10_open 24 = .ok (.getfield 31, 3) := bdX10_open_0.2.2.2.2.2.2.2.2.2.2.2.2.1
theorem dX10_open_27 : decode cX10_open 27 = .ok (.iload_n 1, 1) := bdX10_open_0.2.2.2.2.2.2.2.2.2.2.2.2.2.1
theorem dX10_open_28 : decode cX10_open 28 = .ok (.iastore, 1) := bdX10_open_0.2.2.2.2.2.2.2.2.2.2.2.2.2.2.1
theorem dX10_open_29 : decode cX10_open 29 = .ok (.aload_n 0, 1) := bdX10_open_0.2.2.2.2.2.2.2.2.2.2.2.2.2.2.2
theorem bdX10_open_30 : (decode cX10_open 30 = .ok (.dup, 1)) ∧ (decode cX10_open 31 = .ok (.getfield 31, 3)) ∧ (decode cX10_open 34 = .ok (.iconst 1, 1)) ∧ (decode cX10_open 35 = .ok (.iadd, 1)) ∧ (decode cX10_open 36 = .ok (.putfield 31, 3)) ∧ (decode cX10_open 39 = .ok (.return_, 1)) := by decide +kernel
theorem dX10_open_30 : decode cX10_open 30 = .ok (.dup, 1) := bdX10_open_30.1
theorem dX10_open_31 : decode cX10_open 31 = .ok (.getfield 31, 3) := bdX10_open_30.2.1
theorem dX10_open_34 : decode cX10_open 34 = .ok (.iconst 1, 1) := bdX10_open_30.2.2.1
theorem dX10_open_35 : decode cX10_open 35 = .ok (.iadd, 1) := bdX10_open_30.2.2.2.1
theorem dX10_open_36 : decode cX10_open 36 = .ok (.putfield 31, 3) := bdX10_open_30.2.2.2.2.1
theorem dX10_open_39 : decode cX10_open 39 = .ok (.return_, 1) := bdX10_open_30.2.2.2.2.2
theorem bdX10_add_0 : (decode cX10_add 0 = .ok (.aload_n 0, 1)) ∧ (decode cX10_add 1 = .ok (.getfield 27, 3)) ∧ (decode cX10_add 4 = .ok (.ifCond .lt 45, 3)) ∧ (decode cX10_add 7 = .ok (.aload_n 0, 1)) ∧ (decode cX10_add 8 = .ok (.getfield 27, 3)) ∧ (decode cX10_add 11 = .ok (.aload_n 0, 1)) ∧ (decode cX10_add 12 = .ok (.getfield 9, 3)) ∧ (decode cX10_add 15 = .ok (.arraylength, 1)) ∧ (decode cX10_add 16 = .ok (.if_icmp .ge 33, 3)) ∧ (decode cX10_add 19 = .ok (.aload_n 0, 1)) ∧ (decode cX10_add 20 = .ok (.getfield 9, 3)) ∧ (decode cX10_add 23 = .ok (.aload_n 0, 1)) ∧ (decode cX10_add 24 = .ok (.getfield 27, 3)) ∧ (decode cX10_add 27 = .ok (.iload_n 1, 1)) ∧ (decode cX10_add 28 = .ok (.iastore, 1)) ∧ (decode cX10_add 29 = .ok (.aload_n 0, 1)) := by decide +kernel
theorem dX10_add_0 : decode cX10_add 0 = .ok (.aload_n 0, 1) := bdX10_add_0.1
theorem dX10_add_1 : decode cX10_add 1 = .ok (.getfield 27, 3) := bdX10_add_0.2.1
theorem dX10_add_4 : decode cX10_add 4 = .ok (.ifCond .lt 45, 3) := bdX10_add_0.2.2.1
theorem dX10_add_7 : decode cX10_add 7 = .ok (.aload_n 0, 1) := bdX10_add_0.2.2.2.1
theorem dX10_add_8 : decode cX10_add 8 = .ok (.getfield 27, 3) := bdX10_add_0.2.2.2.2.1
theorem dX10_add_11 : decode cX10_add 11 = .ok (.aload_n 0, 1) := bdX10_add_0.2.2.2.2.2.1
theorem dX10_add_12 : decode cX10_add 12 = .ok (.getfield 9, 3) := bdX10_add_0.2.2.2.2.2.2.1
theorem dX10_add_15 : decode cX10_add 15 = .ok (.arraylength, 1) := bdX10_add_0.2.2.2.2.2.2.2.1
theorem dX10_add_16 : decode cX10_add 16 = .ok (.if_icmp .ge 33, 3) := bdX10_add_0.2.2.2.2.2.2.2.2.1
theorem dX10_add_19 : decode cX10_add 19 = .ok (.aload_n 0, 1) := bdX10_add_0.2.2.2.2.2.2.2.2.2.1
theorem dX10_add_20 : decode cX10_add 20 = .ok (.getfield 9, 3) := bdX10_add_0.2.2.2.2.2.2.2.2.2.2.1
theorem dX10_add_23 : decode cX10_add 23 = .ok (.aload_n 0, 1) := bdX10_add_0.2.2.2.2.2.2.2.2.2.2.2.1
theorem dX10_add_24 : decode cX10_add 24 = .ok (.getfield 27, 3) := bdX10_add_0.2.2.2.2.2.2.2.2.2.2.2.2.1
theorem dX10_add_27 : decode cX10_add 27 = .ok (.iload_n 1, 1) := bdX10_add_0.2.2.2.2.2.2.2.2.2.2.2.2.2.1
theorem dX10_add_28 : decode cX10_add 28 = .ok (.iastore, 1) := bdX10_add_0.2.2.2.2.2.2.2.2.2.2.2.2.2.2.1
theorem dX10_add_29 : decode cX10_add 29 = .ok (.aload_n 0, 1) := bdX10_add_0.2.2.2.2.2.2.2.2.2.2.2.2.2.2.2
theorem bdX10_add_30 : (decode cX10_add 30 = .ok (.getfield 15, 3)) ∧ (decode cX10_add 33 = .ok (.aload_n 0, 1)) ∧ (decode cX10_add 34 = .ok (.getfield 27, 3)) ∧ (decode cX10_add 37 = .ok (.iload_n 2, 1)) ∧ (decode cX10_add 38 = .ok (.iastore, 1)) ∧ (decode cX10_add 39 = .ok (.aload_n 0, 1)) ∧ (decode cX10_add 40 = .ok (.dup, 1)) ∧ (decode cX10_add 41 = .ok (.getfield 27, 3)) ∧ (decode cX10_add 44 = .ok (.iconst 1, 1)) ∧ (decode cX10_add 45 = .ok (.iadd, 1)) ∧ (decode cX10_add 46 = .ok (.putfield 27, 3)) ∧ (decode cX10_add 49 = .ok (.return_, 1)) := by decide +kernel
theorem dX10_add_30 : decode cX10_add 30 = .ok (.getfield 15, 3) := bdX10_add_30.1
theorem dX10_add_33 : decode cX10_add 33 = .ok (.aload_n 0, 1) := bdX10_add_30.2.1
theorem dX10_add_34 : decode cX10_add 34 = .ok (.getfield 27, 3) := bdX10_add_30.2.2.1
theorem dX10_add_37 : decode cX10_add 37 = .ok (.iload_n 2, 1) := bdX10_add_30.2.2.2.1
theorem dX10_add_38 : decode cX10_add 38 = .ok (.iastore, 1) := bdX10_add_30.2.2.2.2.1
theorem dX10_add_39 : decode cX10_add 39 = .ok (.aload_n 0, 1) := bdX10_add_30.2.2.2.2.2.1
theorem dX10_add_40 : decode cX10_add 40 = .ok (.dup, 1) := bdX10_add_30.2.2.2.2.2.2.1
theorem dX10_add_41 : decode cX10_add 41 = .ok (.getfield 27, 3) := bdX10_add_30.2.2.2.2.2.2.2.1
theorem dX10_add_44 : decode cX10_add 44 = .ok (.iconst 1, 1) := bdX10_add_30.2.2.2.2.2.2.2.2.1
theorem dX10_add_45 : decode cX10_add 45 = .ok (.iadd, 1) := bdX10_add_30.2.2.2.2.2.2.2.2.2.1
theorem dX10_add_46 : decode cX10_add 46 = .ok (.putfield 27, 3) := bdX10_add_30.2.2.2.2.2.2.2.2.2.2.1
theorem dX10_add_49 : decode cX10_add 49 = .ok (.return_, 1) := bdX10_add_30.2.2.2.2.2.2.2.2.2.2.2
theorem bdX7_value_0 : (decode cX7_value 0 = .ok (.aload_n 0, 1)) ∧ (decode cX7_value 1 = .ok (.getfield 37, 3)) ∧ (decode cX7_value 4 = .ok (.ifCond .lt 38, 3)) ∧ (decode cX7_value 7 = .ok (.aload_n 0, 1)) ∧ (decode cX7_value 8 = .ok (.getfield 37, 3)) ∧ (decode cX7_value 11 = .ok (.aload_n 0, 1)) ∧ (decode cX7_value 12 = .ok (.getfield 48, 3)) ∧ (decode cX7_value 15 = .ok (.if_icmp .ge 27, 3)) ∧ (decode cX7_value 18 = .ok (.aload_n 0, 1)) ∧ (decode cX7_value 19 = .ok (.getfield 37, 3)) ∧ (decode cX7_value 22 = .ok (.aload_n 0, 1)) ∧ (decode cX7_value 23 = .ok (.getfield 18, 3)) ∧ (decode cX7_value 26 = .ok (.arraylength, 1)) ∧ (decode cX7_value 27 = .ok (.if_icmp .ge 15, 3)) ∧ (decode cX7_value 30 = .ok (.aload_n 0, 1)) ∧ (decode cX7_value 31 = .ok (.getfield 18, 3)) := by decide +kernel
theorem dX7_value_0 : decode cX7_value 0 = .ok (.aload_n 0, 1) := bdX7_value_0.1
theorem dX7_value_1 : decode cX7_value 1 = .ok (.getfield 37, 3) := bdX7_value_0.2.1
theorem dX7_value_4 : decode cX7_value 4 = .ok (.ifCond .lt 38, 3) := bdX7_value_0.2.2.1
theorem dX7_value_7 : decode cX7_value 7 = .ok (.aload_n 0, 1) := bdX7_value_0.2.2.2.1
theorem dX7_value_8 : decode cX7_value 8 = .ok (.getfield 37, 3) := bdX7_value_0.2.2.2.2.1
theorem dX7_value_11 : decode cX7_value 11 = .ok (.aload_n 0, 1) := bdX7_value_0.2.2.2.2.2.1
theorem dX7_value_12 : decode cX7_value 12 = .ok (.getfield 48, 3) := bdX7_value_0.2.2.2.2.2.2.1
theorem dX7_value_15 : decode cX7_value 15 = .ok (.if_icmp .ge 27, 3) := bdX7_value_0.2.2.2.2.2.2.2.1
theorem dX7_value_18 : decode cX7_value 18 = .ok (.aload_n 0, 1) := bdX7_value_0.2.2.2.2.2.2.2.2.1
theorem dX7_value_19 : decode cX7_value 19 = .ok (.getfield 37, 3) := bdX7_value_0.2.2.2.2.2.2.2.2.2.1
theorem dX7_value_22 : decode cX7_value 22 = .ok (.aload_n 0, 1) := bdX7_value_0.2.2.2.2.2.2.2.2.2.2.1
theorem dX7_value_23 : decode cX7_value 23 = .ok (.getfield 18, 3) := bdX7_value_0.2.2.2.2.2.2.2.2.2.2.2.1
theorem dX7_value_26 : decode cX7_value 26 = .ok (.arraylength, 1) := bdX7_value_0.2.2.2.2.2.2.2.2.2.2.2.2.1
theorem dX7_value_27 : decode cX7_value 27 = .ok (.if_icmp .ge 15, 3) := bdX7_value_0.2.2.2.2.2.2.2.2.2.2.2.2.2.1
theorem dX7_value_30 : decode cX7_value 30 = .ok (.aload_n 0, 1) := bdX7_value_0.2.2.2.2.2.2.2.2.2.2.2.2.2.2.1
theorem dX7_value_31 : decode cX7_value 31 = .ok (.getfield 18, 3) := bdX7_value_0.2.2.2.2.2.2.2.2.2.2.2.2.2.2.2
theorem bdX7_value_34 : (decode cX7_value 34 = .ok (.aload_n 0, 1)) ∧ (decode cX7_value 35 = .ok (.getfield 37, 3)) ∧ (decode cX7_value 38 = .ok (.iaload, 1)) ∧ (decode cX7_value 39 = .ok (.goto 4, 3)) ∧ (decode cX7_value 42 = .ok (.iconst 0, 1)) ∧ (decode cX7_value 43 = .ok (.ireturn, 1)) := by decide +kernel
theorem dX7_value_34 : decode cX7_value 34 = .ok (.aload_n 0, 1) := bdX7_value_34.1
theorem dX7_value_35 : decode cX7_value 35 = .ok (.getfield 37, 3) := bdX7_value_34.2.1
theorem dX7_value_38 : decode cX7_value 38 = .ok (.iaload, 1) := bdX7_value_34.2.2.1
theorem dX7_value_39 : decode cX7_value 39 = .ok (.goto 4, 3) := bdX7_value_34.2.2.2.1
theorem dX7_value_42 : decode cX7_value 42 = .ok (.iconst 0, 1) := bdX7_value_34.2.2.2.2.1
theorem dX7_value_43 : decode cX7_value 43 = .ok (.ireturn, 1) := bdX7_value_34.2.2.2.2.2
theorem bdX7_readOne_0 : (decode cX7_readOne 0 = .ok (.aload_n 0, 1)) ∧ (decode cX7_readOne 1 = .ok (.invokevirtual 51, 3)) ∧ (decode cX7_readOne 4 = .ok (.istore_n 3, 1)) ∧ (decode cX7_readOne 5 = .ok (.iload_n 3, 1)) ∧ (decode cX7_readOne 6 = .ok (.iconst 2, 1)) ∧ (decode cX7_readOne 7 = .ok (.if_icmp .eq 9, 3)) ∧ (decode cX7_readOne 10 = .ok (.iload_n 3, 1)) ∧ (decode cX7_readOne 11 = .ok (.bipush 26, 2)) ∧ (decode cX7_readOne 13 = .ok (.if_icmp .ne 96, 3)) ∧ (decode cX7_readOne 16 = .ok (.iload_n 3, 1)) ∧ (decode cX7_readOne 17 = .ok (.iconst 2, 1)) ∧ (decode cX7_readOne 18 = .ok (.if_icmp .ne 19, 3)) ∧ (decode cX7_readOne 21 = .ok (.aload_n 0, 1)) ∧ (decode cX7_readOne 22 = .ok (.invokevirtual 142, 3)) ∧ (decode cX7_readOne 25 = .ok (.sipush 9999, 3)) ∧ (decode cX7_readOne 28 = .ok (.if_icmp .le 9, 3)) := by decide +kernel
theorem dX7_readOne_0 : decode cX7_readOne 0 = .ok (.aload_n 0, 1) := bdX7_readOne_0.1
theorem dX7_readOne_1 : decode cX7_readOne 1 = .ok (.invokevirtual 51, 3) := bdX7_readOne_0.2.1
theorem dX7_readOne_4 : decode cX7_readOne 4 = .ok (.istore_n 3, 1) := bdX7_readOne_0.2.2.1
theorem dX7_readOne_5 : decode cX7_readOne 5 = .ok (.iload_n 3, 1) := bdX7_readOne_0.2.2.2.1
theorem dX7_readOne_6 : decode cX7_readOne 6 = .ok (.iconst 2, 1) := bdX7_readOne_0.2.2.2.2.1
theorem dX7_readOne_7 : decode cX7_readOne 7 = .ok (.if_icmp .eq 9, 3) := bdX7_readOne_0.2.2.2.2.2.1
theorem dX7_readOne_10 : decode cX7_readOne 10 = .ok (.iload_n 3, 1) := bdX7_readOne_0.2.2.2.2.2.2.1
theorem dX7_readOne_11 : decode cX7_readOne 11 = .ok (.bipush 26, 2) := bdX7_readOne_0.2.2.2.2.2.2.2.1
theorem dX7_readOne_13 : decode cX7_readOne 13 = .ok (.if_icmp .ne 96, 3) := bdX7_readOne_0.2.2.2.2.2.2.2.2.1
theorem dX7_readOne_16 : decode cX7_readOne 16 = .ok (.iload_n 3, 1) := bdX7_readOne_0.2.2.2.2.2.2.2.2.2.1
theorem dX7_readOne_17 : decode cX7_readOne 17 = .ok (.iconst 2, 1) := bdX7_readOne_0.2.2.2.2.2.2.2.2.2.2.1
theorem dX7_readOne_18 : decode cX7_readOne 18 = .ok (.if_icmp .ne 19, 3) := bdX7_readOne_0.2.2.2.2.2.2.2.2.2.2.2.1
theorem dX7_readOne_21 : decode cX7_readOne 21 = .ok (.aload_n 0, 1) := bdX7_readOne_0.2.2.2.2.2.2.2.2.2.2.2.2.1
theorem dX7_readOne_22 : decode cX7_readOne 22 = .ok (.invokevirtual 142, 3) := bdX7_readOne_0.2.2.2.2.2.2.2.2.2.2.2.2.2.1
theorem dX7_readOne_25 : decode cX7_readOne 25 = .ok (.sipush 9999, 3) := bdX7_readOne_0.2.2.2.2.2.2.2.2.2.2.2.2.2.2.1
theorem dX7_readOne_28 : decode cX7_readOne 28 = .ok (.if_icmp .le 9, 3) := bdX7_readOne_0.2.2.2.2.2.2.2.2.2.2.2.2.2.2.2
theorem bdX7_readOne_31 : (decode cX7_readOne 31 = .ok (.aload_n 0, 1)) ∧ (decode cX7_readOne 32 = .ok (.iconst 2, 1)) ∧ (decode cX7_readOne 33 = .ok (.invokevirtual 107, 3)) ∧ (decode cX7_readOne 36 = .ok (.ireturn, 1)) ∧ (decode cX7_readOne 37 = .ok (.aload_n 0, 1)) ∧ (decode cX7_readOne 38 = .ok (.invokevirtual 142, 3)) ∧ (decode cX7_readOne 41 = .ok (.iconst 5, 1)) ∧ (decode cX7_readOne 42 = .ok (.if_icmp .lt 7, 3)) ∧ (decode cX7_readOne 45 = .ok (.iconst 1, 1)) ∧ (decode cX7_readOne 46 = .ok (.goto 4, 3)) ∧ (decode cX7_readOne 49 = .ok (.iconst 0, 1)) ∧ (decode cX7_readOne 50 = .ok (.istore 4, 2)) ∧ (decode cX7_readOne 52 = .ok (.iload_n 3, 1)) ∧ (decode cX7_readOne 53 = .ok (.bipush 26, 2)) ∧ (decode cX7_readOne 55 = .ok (.if_icmp .ne 33, 3)) ∧ (decode cX7_readOne 58 = .ok (.aload_n 0, 1)) := by decide +kernel
theorem dX7_readOne_31 : decode cX7_readOne 31 = .ok (.aload_n 0, 1) := bdX7_readOne_31.1
theorem dX7_readOne_32 : decode cX7_readOne 32 = .ok (.iconst 2, 1) := bdX7_readOne_31.2.1
theorem dX7_readOne_33 : decode cX7_readOne 33 = .ok (.invokevirtual 107, 3) := bdX7_readOne_31.2.2.1
theorem dX7_readOne_36 : decode cX7_readOne 36 = .ok (.ireturn, 1) := bdX7_readOne_31.2.2.2.1
theorem dX7_readOne_37 : decode cX7_readOne 37 = .ok (.aload_n 0, 1) := bdX7_readOne_31.2.2.2.2.1
theorem dX7_readOne_38 : decode cX7_readOne 38 = .ok (.invokevirtual 142, 3) := bdX7_readOne_31.2.2.2.2.2.1
theorem dX7_readOne_41 : decode cX7_readOne 41 = .ok (.iconst 5, 1) := bdX7_readOne_31.2.2.2.2.2.2.1
theorem dX7_readOne_42 : decode cX7_readOne 42 = .ok (.if_icmp .lt 7, 3) := bdX7_readOne_31.2.2.2.2.2.2.2.1
theorem dX7_readOne_45 : decode cX7_readOne 45 = .ok (.iconst 1, 1) := bdX7_readOne_31.2.2.2.2.2.2.2.2.1
theorem dX7_readOne_46 : decode cX7_readOne 46 = .ok (.goto 4, 3) := bdX7_readOne_31.2.2.2.2.2.2.2.2.2.1
theorem dX7_readOne_49 : decode cX7_readOne 49 = .ok (.iconst 0, 1) := bdX7_readOne_31.2.2.2.2.2.2.2.2.2.2.1
theorem dX7_readOne_50 : decode cX7_readOne 50 = .ok (.istore 4, 2) := bdX7_readOne_31.2.2.2.2.2.2.2.2.2.2.2.1
theorem dX7_readOne_52 : decode cX7_readOne 52 = .ok (.iload_n 3, 1) := bdX7_readOne_31.2.2.2.2.2.2.2.2.2.2.2.2.1
theorem dX7_readOne_53 : decode cX7_readOne 53 = .ok (.bipush 26, 2) := bdX7_readOne_31.2.2.2.2.2.2.2.2.2.2.2.2.2.1
theorem dX7_readOne_55 : decode cX7_readOne 55 = .ok (.if_icmp .ne 33, 3) := bdX7_readOne_31.2.2.2.2.2.2.2.2.2.2.2.2.2.2.1
theorem dX7_readOne_58 : decode cX7_readOne 58 = .ok (.aload_n 0, 1) := bdX7_readOne_31.2.2.2.2.2.2.2.2.2.2.2.2.2.2.2
theorem bdX7_readOne_59 : (decode cX7_readOne 59 = .ok (.invokevirtual 142, 3)) ∧ (decode cX7_readOne 62 = .ok (.ifCond .eq 26, 3)) ∧ (decode cX7_readOne 65 = .ok (.iload 4, 2)) ∧ (decode cX7_readOne 67 = .ok (.aload_n 0, 1)) ∧ (decode cX7_readOne 68 = .ok (.getfield 104, 3)) ∧ (decode cX7_readOne 71 = .ok (.ifCond .ne 7, 3)) ∧ (decode cX7_readOne 74 = .ok (.iconst 1, 1)) ∧ (decode cX7_readOne 75 = .ok (.goto 4, 3)) ∧ (decode cX7_readOne 78 = .ok (.iconst 0, 1)) ∧ (decode cX7_readOne 79 = .ok (.if_icmp .eq 9, 3)) ∧ (decode cX7_readOne 82 = .ok (.aload_n 0, 1)) ∧ (decode cX7_readOne 83 = .ok (.iconst 5, 1)) ∧ (decode cX7_readOne 84 = .ok (.invokevirtual 107, 3)) ∧ (decode cX7_readOne 87 = .ok (.ireturn, 1)) ∧ (decode cX7_readOne 88 = .ok (.aload_n 1, 1)) ∧ (decode cX7_readOne 89 = .ok (.iload_n 3, 1)) := by decide +kernel
theorem dX7_readOne_59 : decode cX7_readOne 59 = .ok (.invokevirtual 142, 3) := bdX7_readOne_59.1
theorem dX7_readOne_62 : decode cX7_readOne 62 = .ok (.ifCond .eq 26, 3) := bdX7_readOne_59.2.1
theorem dX7_readOne_65 : decode cX7_readOne 65 = .ok (.iload 4, 2) := bdX7_readOne_59.2.2.1
theorem dX7_readOne_67 : decode cX7_readOne 67 = .ok (.aload_n 0, 1) := bdX7_readOne_59.2.2.2.1
theorem dX7_readOne_68 : decode cX7_readOne 68 = .ok (.getfield 104, 3) := bdX7_readOne_59.2.2.2.2.1
theorem dX7_readOne_71 : decode cX7_readOne 71 = .ok (.ifCond .ne 7, 3) := bdX7_readOne_59.2.2.2.2.2.1
theorem dX7_readOne_74 : decode cX7_readOne 74 = .ok (.iconst 1, 1) := bdX7_readOne_59.2.2.2.2.2.2.1
theorem dX7_readOne_75 : decode cX7_readOne 75 = .ok (.goto 4, 3) := bdX7_readOne_59.2.2.2.2.2.2.2.1
theorem dX7_readOne_78 : decode cX7_readOne 78 = .ok (.iconst 0, 1) := bdX7_readOne_59.2.2.2.2.2.2.2.2.1
theorem dX7_readOne_79 : decode cX7_readOne 79 = .ok (.if_icmp .eq 9, 3) := bdX7_readOne_59.2.2.2.2.2.2.2.2.2.1
theorem dX7_readOne_82 : decode cX7_readOne 82 = .ok (.aload_n 0, 1) := bdX7_readOne_59.2.2.2.2.2.2.2.2.2.2.1
theorem dX7_readOne_83 : decode cX7_readOne 83 = .ok (.iconst 5, 1) := bdX7_readOne_59.2.2.2.2.2.2.2.2.2.2.2.1
theorem dX7_readOne_84 : decode cX7_readOne 84 = .ok (.invokevirtual 107, 3) := bdX7_readOne_59.2.2.2.2.2.2.2.2.2.2.2.2.1
theorem dX7_readOne_87 : decode cX7_readOne 87 = .ok (.ireturn, 1) := bdX7_readOne_59.2.2.2.2.2.2.2.2.2.2.2.2.2.1
theorem dX7_readOne_88 : decode cX7_readOne 88 = .ok (.aload_n 1, 1) := bdX7_readOne_59.2.2.2.2.2.2.2.2.2.2.2.2.2.2.1
theorem dX7_readOne_89 : decode cX7_readOne 89 = .ok (.iload_n 3, 1) := bdX7_readOne_59.2.2.2.2.2.2.2.2.2.2.2.2.2.2.2
theorem bdX7_readOne_90 : (decode cX7_readOne 90 = .ok (.aload_n 0, 1)) ∧ (decode cX7_readOne 91 = .ok (.invokevirtual 142, 3)) ∧ (decode cX7_readOne 94 = .ok (.invokevirtual 130, 3)) ∧ (decode cX7_readOne 97 = .ok (.aload_n 0, 1)) ∧ (decode cX7_readOne 98 = .ok (.dup, 1)) ∧ (decode cX7_readOne 99 = .ok (.getfield 37, 3)) ∧ (decode cX7_readOne 102 = .ok (.iconst 1, 1)) ∧ (decode cX7_readOne 103 = .ok (.iadd, 1)) ∧ (decode cX7_readOne 104 = .ok (.putfield 37, 3)) ∧ (decode cX7_readOne 107 = .ok (.iconst 1, 1)) ∧ (decode cX7_readOne 108 = .ok (.ireturn, 1)) ∧ (decode cX7_readOne 109 = .ok (.iload_n 3, 1)) ∧ (decode cX7_readOne 110 = .ok (.bipush 13, 2)) ∧ (decode cX7_readOne 112 = .ok (.if_icmp .eq 15, 3)) ∧ (decode cX7_readOne 115 = .ok (.iload_n 3, 1)) ∧ (decode cX7_readOne 116 = .ok (.bipush 10, 2)) := by decide +kernel
theorem dX7_readOne_90 : decode cX7_readOne 90 = .ok (.aload_n 0, 1) := bdX7_readOne_90.1
theorem dX7_readOne_91 : decode cX7_readOne 91 = .ok (.invokevirtual 142, 3) := bdX7_readOne_90.2.1
theorem dX7_readOne_94 : decode cX7_readOne 94 = .ok (.invokevirtual 130, 3) := bdX7_readOne_90.2.2.1
theorem dX7_readOne_97 : decode cX7_readOne 97 = .ok (.aload_n 0, 1) := bdX7_readOne_90.2.2.2.1
theorem dX7_readOne_98 : decode cX7_readOne 98 = .ok (.dup, 1) := bdX7_readOne_90.2.2.2.2.1
theorem dX7_readOne_99 : decode cX7_readOne 99 = .ok (.getfield 37, 3) := bdX7_readOne_90.2.2.2.2.2.1
theorem dX7_readOne_102 : decode cX7_readOne 102 = .ok (.iconst 1, 1) := bdX7_readOne_90.2.2.2.2.2.2.1
theorem dX7_readOne_103 : decode cX7_readOne 103 = .ok (.iadd, 1) := bdX7_readOne_90.2.2.2.2.2.2.2.1
theorem dX7_readOne_104 : decode cX7_readOne 104 = .ok (.putfield 37, 3) := bdX7_readOne_90.2.2.2.2.2.2.2.2.1
theorem dX7_readOne_107 : decode cX7_readOne 107 = .ok (.iconst 1, 1) := bdX7_readOne_90.2.2.2.2.2.2.2.2.2.1
theorem dX7_readOne_108 : decode cX7_readOne 108 = .ok (.ireturn, 1) := bdX7_readOne_90.2.2.2.2.2.2.2.2.2.2.1
theorem dX7_readOne_109 : decode cX7_readOne 109 = .ok (.iload_n 3, 1) := bdX7_readOne_90.2.2.2.2.2.2.2.2.2.2.2.1
theorem dX7_readOne_110 : decode cX7_readOne 110 = .ok (.bipush 13, 2) := bdX7_readOne_90.2.2.2.2.2.2.2.2.2.2.2.2.1
theorem dX7_readOne_112 : decode cX7_readOne 112 = .ok (.if_icmp .eq 15, 3) := bdX7_readOne_90.2.2.2.2.2.2.2.2.2.2.2.2.2.1
theorem dX7_readOne_115 : decode cX7_readOne 115 = .ok (.iload_n 3, 1) := bdX7_readOne_90.2.2.2.2.2.2.2.2.2.2.2.2.2.2.1
theorem dX7_readOne_116 : decode cX7_readOne 116 = .ok (.bipush 10, 2) := bdX7_readOne_90.2.2.2.2.2.2.2.2.2.2.2.2.2.2.2
theorem bdX7_readOne_118 : (decode cX7_readOne 118 = .ok (.if_icmp .eq 9, 3)) ∧ (decode cX7_readOne 121 = .ok (.aload_n 0, 1)) ∧ (decode cX7_readOne 122 = .ok (.iconst 1, 1)) ∧ (decode cX7_readOne 123 = .ok (.invokevirtual 107, 3)) ∧ (decode cX7_readOne 126 = .ok (.ireturn, 1)) ∧ (decode cX7_readOne 127 = .ok (.iload_n 2, 1)) ∧ (decode cX7_readOne 128 = .ok (.bipush 8, 2)) ∧ (decode cX7_readOne 130 = .ok (.if_icmp .lt 9, 3)) ∧ (decode cX7_readOne 133 = .ok (.aload_n 0, 1)) ∧ (decode cX7_readOne 134 = .ok (.iconst 3, 1)) ∧ (decode cX7_readOne 135 = .ok (.invokevirtual 107, 3)) ∧ (decode cX7_readOne 138 = .ok (.ireturn, 1)) ∧ (decode cX7_readOne 139 = .ok (.aload_n 0, 1)) ∧ (decode cX7_readOne 140 = .ok (.dup, 1)) ∧ (decode cX7_readOne 141 = .ok (.getfield 37, 3)) ∧ (decode cX7_readOne 144 = .ok (.iconst 1, 1)) := by decide +kernel
theorem dX7_readOne_118 : decode cX7_readOne 118 = .ok (.if_icmp .eq 9, 3) := bdX7_readOne_118.1
theorem dX7_readOne_121 : decode cX7_readOne 121 = .ok (.aload_n 0, 1) := bdX7_readOne_118.2.1
theorem dX7_readOne_122 : decode cX7_readOne 122 = .ok (.iconst 1, 1) := bdX7_readOne_118.2.2.1
theorem dX7_readOne_123 : decode cX7_readOne 123 = .ok (.invokevirtual 107, 3) := bdX7_readOne_118.2.2.2.1
theorem dX7_readOne_126 : decode cX7_readOne 126 = .ok (.ireturn, 1) := bdX7_readOne_118.2.2.2.2.1
theorem dX7_readOne_127 : decode cX7_readOne 127 = .ok (.iload_n 2, 1) := bdX7_readOne_118.2.2.2.2.2.1
theorem dX7_readOne_128 : decode cX7_readOne 128 = .ok (.bipush 8, 2) := bdX7_readOne_118.2.2.2.2.2.2.1
theorem dX7_readOne_130 : decode cX7_readOne 130 = .ok (.if_icmp .lt 9, 3) := bdX7_readOne_118.2.2.2.2.2.2.2.1
theorem dX7_readOne_133 : decode cX7_readOne 133 = .ok (.aload_n 0, 1) := bdX7_readOne_118.2.2.2.2.2.2.2.2.1
theorem dX7_readOne_134 : decode cX7_readOne 134 = .ok (.iconst 3, 1) := bdX7_readOne_118.2.2.2.2.2.2.2.2.2.1
theorem dX7_readOne_135 : decode cX7_readOne 135 = .ok (.invokevirtual 107, 3) := bdX7_readOne_118.2.2.2.2.2.2.2.2.2.2.1
theorem dX7_readOne_138 : decode cX7_readOne 138 = .ok (.ireturn, 1) := bdX7_readOne_118.2.2.2.2.2.2.2.2.2.2.2.1
theorem dX7_readOne_139 : decode cX7_readOne 139 = .ok (.aload_n 0, 1) := bdX7_readOne_118.2.2.2.2.2.2.2.2.2.2.2.2.1
theorem dX7_readOne_140 : decode cX7_readOne 140 = .ok (.dup, 1) := bdX7_readOne_118.2.2.2.2.2.2.2.2.2.2.2.2.2.1
theorem dX7_readOne_141 : decode cX7_readOne 141 = .ok (.getfield 37, 3) := bdX7_readOne_118.2.2.2.2.2.2.2.2.2.2.2.2.2.2.1
theorem dX7_readOne_144 : decode cX7_readOne 144 = .ok (.iconst 1, 1) := bdX7_readOne_118.2.2.2.2.2.2.2.2.2.2.2.2.2.2.2
theorem bdX7_readOne_145 : (decode cX7_readOne 145 = .ok (.iadd, 1)) ∧ (decode cX7_readOne 146 = .ok (.putfield 37, 3)) ∧ (decode cX7_readOne 149 = .ok (.iload_n 3, 1)) ∧ (decode cX7_readOne 150 = .ok (.bipush 10, 2)) ∧ (decode cX7_readOne 152 = .ok (.if_icmp .ne 23, 3)) ∧ (decode cX7_readOne 155 = .ok (.aload_n 0, 1)) ∧ (decode cX7_readOne 156 = .ok (.aload_n 1, 1)) ∧ (decode cX7_readOne 157 = .ok (.iload_n 2, 1)) ∧ (decode cX7_readOne 158 = .ok (.iconst 1, 1)) ∧ (decode cX7_readOne 159 = .ok (.iadd, 1)) ∧ (decode cX7_readOne 160 = .ok (.invokevirtual 139, 3)) ∧ (decode cX7_readOne 163 = .ok (.istore 4, 2)) ∧ (decode cX7_readOne 165 = .ok (.aload_n 1, 1)) ∧ (decode cX7_readOne 166 = .ok (.bipush 16, 2)) ∧ (decode cX7_readOne 168 = .ok (.iconst 0, 1)) ∧ (decode cX7_readOne 169 = .ok (.invokevirtual 130, 3)) := by decide +kernel
theorem dX7_readOne_145 : decode cX7_readOne 145 = .ok (.iadd, 1) := bdX7_readOne_145.1
theorem dX7_readOne_146 : decode cX7_readOne 146 = .ok (.putfield 37, 3) := bdX7_readOne_145.2.1
theorem dX7_readOne_149 : decode cX7_readOne 149 = .ok (.iload_n 3, 1) := bdX7_readOne_145.2.2.1
theorem dX7_readOne_150 : decode cX7_readOne 150 = .ok (.bipush 10, 2) := bdX7_readOne_145.2.2.2.1
theorem dX7_readOne_152 : decode cX7_readOne 152 = .ok (.if_icmp .ne 23, 3) := bdX7_readOne_145.2.2.2.2.1
theorem dX7_readOne_155 : decode cX7_readOne 155 = .ok (.aload_n 0, 1) := bdX7_readOne_145.2.2.2.2.2.1
theorem dX7_readOne_156 : decode cX7_readOne 156 = .ok (.aload_n 1, 1) := bdX7_readOne_145.2.2.2.2.2.2.1
theorem dX7_readOne_157 : decode cX7_readOne 157 = .ok (.iload_n 2, 1) := bdX7_readOne_145.2.2.2.2.2.2.2.1
theorem dX7_readOne_158 : decode cX7_readOne 158 = .ok (.iconst 1, 1) := bdX7_readOne_145.2.2.2.2.2.2.2.2.1
theorem dX7_readOne_159 : decode cX7_readOne 159 = .ok (.iadd, 1) := bdX7_readOne_145.2.2.2.2.2.2.2.2.2.1
theorem dX7_readOne_160 : decode cX7_readOne 160 = .ok (.invokevirtual 139, 3) := bdX7_readOne_145.2.2.2.2.2.2.2.2.2.2.1
theorem dX7_readOne_163 : decode cX7_readOne 163 = .ok (.istore 4, 2) := bdX7_readOne_145.2.2.2.2.2.2.2.2.2.2.2.1
theorem dX7_readOne_165 : decode cX7_readOne 165 = .ok (.aload_n 1, 1) := bdX7_readOne_145.2.2.2.2.2.2.2.2.2.2.2.2.1
theorem dX7_readOne_166 : decode cX7_readOne 166 = .ok (.bipush 16, 2) := bdX7_readOne_145.2.2.2.2.2.2.2.2.2.2.2.2.2.1
theorem dX7_readOne_168 : decode cX7_readOne 168 = .ok (.iconst 0, 1) := bdX7_readOne_145.2.2.2.2.2.2.2.2.2.2.2.2.2.2.1
theorem dX7_readOne_169 : decode cX7_readOne 169 = .ok (.invokevirtual 130, 3) := bdX7_readOne_145.2.2.2.2.2.2.2.2.2.2.2.2.2.2.2
theorem bdX7_readOne_172 : (decode cX7_readOne 172 = .ok (.iload 4, 2)) ∧ (decode cX7_readOne 174 = .ok (.ireturn, 1)) ∧ (decode cX7_readOne 175 = .ok (.aload_n 0, 1)) ∧ (decode cX7_readOne 176 = .ok (.aload_n 1, 1)) ∧ (decode cX7_readOne 177 = .ok (.iload_n 2, 1)) ∧ (decode cX7_readOne 178 = .ok (.iconst 1, 1)) ∧ (decode cX7_readOne 179 = .ok (.iadd, 1)) ∧ (decode cX7_readOne 180 = .ok (.invokevirtual 117, 3)) ∧ (decode cX7_readOne 183 = .ok (.istore 4, 2)) ∧ (decode cX7_readOne 185 = .ok (.iload 4, 2)) ∧ (decode cX7_readOne 187 = .ok (.ifCond .eq 18, 3)) ∧ (decode cX7_readOne 190 = .ok (.aload_n 0, 1)) ∧ (decode cX7_readOne 191 = .ok (.invokevirtual 51, 3)) ∧ (decode cX7_readOne 194 = .ok (.bipush 14, 2)) ∧ (decode cX7_readOne 196 = .ok (.if_icmp .eq 9, 3)) ∧ (decode cX7_readOne 199 = .ok (.aload_n 0, 1)) := by decide +kernel
theorem dX7_readOne_172 : decode cX7_readOne 172 = .ok (.iload 4, 2) := bdX7_readOne_172.1
theorem dX7_readOne_174 : decode cX7_readOne 174 = .ok (.ireturn, 1) := bdX7_readOne_172.2.1
theorem dX7_readOne_175 : decode cX7_readOne 175 = .ok (.aload_n 0, 1) := bdX7_readOne_172.2.2.1
theorem dX7_readOne_176 : decode cX7_readOne 176 = .ok (.aload_n 1, 1) := bdX7_readOne_172.2.2.2.1
theorem dX7_readOne_177 : decode cX7_readOne 177 = .ok (.iload_n 2, 1) := bdX7_readOne_172.2.2.2.2.1
theorem dX7_readOne_178 : decode cX7_readOne 178 = .ok (.iconst 1, 1) := bdX7_readOne_172.2.2.2.2.2.1
theorem dX7_readOne_179 : decode cX7_readOne 179 = .ok (.iadd, 1) := bdX7_readOne_172.2.2.2.2.2.2.1
theorem dX7_readOne_180 : decode cX7_readOne 180 = .ok (.invokevirtual 117, 3) := bdX7_readOne_172.2.2.2.2.2.2.2.1
theorem dX7_readOne_183 : decode cX7_readOne 183 = .ok (.istore 4, 2) := bdX7_readOne_172.2.2.2.2.2.2.2.2.1
theorem dX7_readOne_185 : decode cX7_readOne 185 = .ok (.iload 4, 2) := bdX7_readOne_172.2.2.2.2.2.2.2.2.2.1
theorem dX7_readOne_187 : decode cX7_readOne 187 = .ok (.ifCond .eq 18, 3) := bdX7_readOne_172.2.2.2.2.2.2.2.2.2.2.1
theorem dX7_readOne_190 : decode cX7_readOne 190 = .ok (.aload_n 0, 1) := bdX7_readOne_172.2.2.2.2.2.2.2.2.2.2.2.1
theorem dX7_readOne_191 : decode cX7_readOne 191 = .ok (.invokevirtual 51, 3) := bdX7_readOne_172.2.2.2.2.2.2.2.2.2.2.2.2.1
theorem dX7_readOne_194 : decode cX7_readOne 194 = .ok (.bipush 14, 2) := bdX7_readOne_172.2.2.2.2.2.2.2.2.2.2.2.2.2.1
theorem dX7_readOne_196 : decode cX7_readOne 196 = .ok (.if_icmp .eq 9, 3) := bdX7_readOne_172.2.2.2.2.2.2.2.2.2.2.2.2.2.2.1
theorem dX7_readOne_199 : decode cX7_readOne 199 = .ok (.aload_n 0, 1) := bdX7_readOne_172.2.2.2.2.2.2.2.2.2.2.2.2.2.2.2
theorem bdX7_readOne_200 : (decode cX7_readOne 200 = .ok (.iconst 1, 1)) ∧ (decode cX7_readOne 201 = .ok (.invokevirtual 107, 3)) ∧ (decode cX7_readOne 204 = .ok (.ireturn, 1)) ∧ (decode cX7_readOne 205 = .ok (.aload_n 0, 1)) ∧ (decode cX7_readOne 206 = .ok (.dup, 1)) ∧ (decode cX7_readOne 207 = .ok (.getfield 37, 3)) ∧ (decode cX7_readOne 210 = .ok (.iconst 1, 1)) ∧ (decode cX7_readOne 211 = .ok (.iadd, 1)) ∧ (decode cX7_readOne 212 = .ok (.putfield 37, 3)) ∧ (decode cX7_readOne 215 = .ok (.iload 4, 2)) ∧ (decode cX7_readOne 217 = .ok (.ireturn, 1)) := by decide +kernel
theorem dX7_readOne_200 : decode cX7_readOne 200 = .ok (.iconst 1, 1) := bdX7_readOne_200.1
theorem dX7_readOne_201 : decode cX7_readOne 201 = .ok (.invokevirtual 107, 3) := bdX7_readOne_200.2.1
theorem dX7_readOne_204 : decode cX7_readOne 204 = .ok (.ireturn, 1) := bdX7_readOne_200.2.2.1
theorem dX7_readOne_205 : decode cX7_readOne 205 = .ok (.aload_n 0, 1) := bdX7_readOne_200.2.2.2.1
theorem dX7_readOne_206 : decode cX7_readOne 206 = .ok (.dup, 1) := bdX7_readOne_200.2.2.2.2.1
theorem dX7_readOne_207 : decode cX7_readOne 207 = .ok (.getfield 37, 3) := bdX7_readOne_200.2.2.2.2.2.1
theorem dX7_readOne_210 : decode cX7_readOne 210 = .ok (.iconst 1, 1) := bdX7_readOne_200.2.2.2.2.2.2.1
theorem dX7_readOne_211 : decode cX7_readOne 211 = .ok (.iadd, 1) := bdX7_readOne_200.2.2.2.2.2.2.2.1
theorem dX7_readOne_212 : decode cX7_readOne 212 = .ok (.putfield 37, 3) := bdX7_readOne_200.2.2.2.2.2.2.2.2.1
theorem dX7_readOne_215 : decode cX7_readOne 215 = .ok (.iload 4, 2) := bdX7_readOne_200.2.2.2.2.2.2.2.2.2.1
theorem dX7_readOne_217 : decode cX7_readOne 217 = .ok (.ireturn, 1) := bdX7_readOne_200.2.2.2.2.2.2.2.2.2.2
theorem bdX7_readProduct_0 : (decode cX7_readProduct 0 = .ok (.aload_n 0, 1)) ∧ (decode cX7_readProduct 1 = .ok (.aload_n 1, 1)) ∧ (decode cX7_readProduct 2 = .ok (.iload_n 2, 1)) ∧ (decode cX7_readProduct 3 = .ok (.invokevirtual 139, 3)) ∧ (decode cX7_readProduct 6 = .ok (.istore_n 3, 1)) ∧ (decode cX7_readProduct 7 = .ok (.iconst 0, 1)) ∧ (decode cX7_readProduct 8 = .ok (.istore 4, 2)) ∧ (decode cX7_readProduct 10 = .ok (.iload 4, 2)) ∧ (decode cX7_readProduct 12 = .ok (.sipush 300, 3)) ∧ (decode cX7_readProduct 15 = .ok (.if_icmp .ge 61, 3)) ∧ (decode cX7_readProduct 18 = .ok (.iload_n 3, 1)) ∧ (decode cX7_readProduct 19 = .ok (.ifCond .eq 57, 3)) ∧ (decode cX7_readProduct 22 = .ok (.aload_n 0, 1)) ∧ (decode cX7_readProduct 23 = .ok (.invokevirtual 51, 3)) ∧ (decode cX7_readProduct 26 = .ok (.bipush 11, 2)) ∧ (decode cX7_readProduct 28 = .ok (.if_icmp .eq 12, 3)) := by decide +kernel
theorem dX7_readProduct_0 : decode cX7_readProduct 0 = .ok (.aload_n 0, 1) := bdX7_readProduct_0.1
theorem dX7_readProduct_1 : decode cX7_readProduct 1 = .ok (.aload_n 1, 1) := bdX7_readProduct_0.2.1
theorem dX7_readProduct_2 : decode cX7_readProduct 2 = .ok (.iload_n 2, 1) := bdX7_readProduct_0.2.2.1
theorem dX7_readProduct_3 : decode cX7_readProduct 3 = .ok (.invokevirtual 139, 3) := bdX7_readProduct_0.2.2.2.1
theorem dX7_readProduct_6 : decode cX7_readProduct 6 = .ok (.istore_n 3, 1) := bdX7_readProduct_0.2.2.2.2.1
theorem dX7_readProduct_7 : decode cX7_readProduct 7 = .ok (.iconst 0, 1) := bdX7_readProduct_0.2.2.2.2.2.1
theorem dX7_readProduct_8 : decode cX7_readProduct 8 = .ok (.istore 4, 2) := bdX7_readProduct_0.2.2.2.2.2.2.1
theorem dX7_readProduct_10 : decode cX7_readProduct 10 = .ok (.iload 4, 2) := bdX7_readProduct_0.2.2.2.2.2.2.2.1
theorem dX7_readProduct_12 : decode cX7_readProduct 12 = .ok (.sipush 300, 3) := bdX7_readProduct_0.2.2.2.2.2.2.2.2.1
theorem dX7_readProduct_15 : decode cX7_readProduct 15 = .ok (.if_icmp .ge 61, 3) := bdX7_readProduct_0.2.2.2.2.2.2.2.2.2.1
theorem dX7_readProduct_18 : decode cX7_readProduct 18 = .ok (.iload_n 3, 1) := bdX7_readProduct_0.2.2.2.2.2.2.2.2.2.2.1
theorem dX7_readProduct_19 : decode cX7_readProduct 19 = .ok (.ifCond .eq 57, 3) := bdX7_readProduct_0.2.2.2.2.2.2.2.2.2.2.2.1
theorem dX7_readProduct_22 : decode cX7_readProduct 22 = .ok (.aload_n 0, 1) := bdX7_readProduct_0.2.2.2.2.2.2.2.2.2.2.2.2.1
theorem dX7_readProduct_23 : decode cX7_readProduct 23 = .ok (.invokevirtual 51, 3) := bdX7_readProduct_0.2.2.2.2.2.2.2.2.2.2.2.2.2.1
theorem dX7_readProduct_26 : decode cX7_readProduct 26 = .ok (.bipush 11, 2) := bdX7_readProduct_0.2.2.2.2.2.2.2.2.2.2.2.2.2.2.1
theorem dX7_readProduct_28 : decode cX7_readProduct 28 = .ok (.if_icmp .eq 12, 3) := bdX7_readProduct_0.2.2.2.2.2.2.2.2.2.2.2.2.2.2.2
theorem bdX7_readProduct_31 : (decode cX7_readProduct 31 = .ok (.aload_n 0, 1)) ∧ (decode cX7_readProduct 32 = .ok (.invokevirtual 51, 3)) ∧ (decode cX7_readProduct 35 = .ok (.bipush 12, 2)) ∧ (decode cX7_readProduct 37 = .ok (.if_icmp .ne 39, 3)) ∧ (decode cX7_readProduct 40 = .ok (.aload_n 0, 1)) ∧ (decode cX7_readProduct 41 = .ok (.invokevirtual 51, 3)) ∧ (decode cX7_readProduct 44 = .ok (.istore 5, 2)) ∧ (decode cX7_readProduct 46 = .ok (.aload_n 0, 1)) ∧ (decode cX7_readProduct 47 = .ok (.dup, 1)) ∧ (decode cX7_readProduct 48 = .ok (.getfield 37, 3)) ∧ (decode cX7_readProduct 51 = .ok (.iconst 1, 1)) ∧ (decode cX7_readProduct 52 = .ok (.iadd, 1)) ∧ (decode cX7_readProduct 53 = .ok (.putfield 37, 3)) ∧ (decode cX7_readProduct 56 = .ok (.aload_n 0, 1)) ∧ (decode cX7_readProduct 57 = .ok (.aload_n 1, 1)) ∧ (decode cX7_readProduct 58 = .ok (.iload_n 2, 1)) := by decide +kernel
theorem dX7_readProduct_31 : decode cX7_readProduct 31 = .ok (.aload_n 0, 1) := bdX7_readProduct_31.1
theorem dX7_readProduct_32 : decode cX7_readProduct 32 = .ok (.invokevirtual 51, 3) := bdX7_readProduct_31.2.1
theorem dX7_readProduct_35 : decode cX7_readProduct 35 = .ok (.bipush 12, 2) := bdX7_readProduct_31.2.2.1
theorem dX7_readProduct_37 : decode cX7_readProduct 37 = .ok (.if_icmp .ne 39, 3) := bdX7_readProduct_31.2.2.2.1
theorem dX7_readProduct_40 : decode cX7_readProduct 40 = .ok (.aload_n 0, 1) := bdX7_readProduct_31.2.2.2.2.1
theorem dX7_readProduct_41 : decode cX7_readProduct 41 = .ok (.invokevirtual 51, 3) := bdX7_readProduct_31.2.2.2.2.2.1
theorem dX7_readProduct_44 : decode cX7_readProduct 44 = .ok (.istore 5, 2) := bdX7_readProduct_31.2.2.2.2.2.2.1
theorem dX7_readProduct_46 : decode cX7_readProduct 46 = .ok (.aload_n 0, 1) := bdX7_readProduct_31.2.2.2.2.2.2.2.1
theorem dX7_readProduct_47 : decode cX7_readProduct 47 = .ok (.dup, 1) := bdX7_readProduct_31.2.2.2.2.2.2.2.2.1
theorem dX7_readProduct_48 : decode cX7_readProduct 48 = .ok (.getfield 37, 3) := bdX7_readProduct_31.2.2.2.2.2.2.2.2.2.1
theorem dX7_readProduct_51 : decode cX7_readProduct 51 = .ok (.iconst 1, 1) := bdX7_readProduct_31.2.2.2.2.2.2.2.2.2.2.1
theorem dX7_readProduct_52 : decode cX7_readProduct 52 = .ok (.iadd, 1) := bdX7_readProduct_31.2.2.2.2.2.2.2.2.2.2.2.1
theorem dX7_readProduct_53 : decode cX7_readProduct 53 = .ok (.putfield 37, 3) := bdX7_readProduct_31.2.2.2.2.2.2.2.2.2.2.2.2.1
theorem dX7_readProduct_56 : decode cX7_readProduct 56 = .ok (.aload_n 0, 1) := bdX7_readProduct_31.2.2.2.2.2.2.2.2.2.2.2.2.2.1
theorem dX7_readProduct_57 : decode cX7_readProduct 57 = .ok (.aload_n 1, 1) := bdX7_readProduct_31.2.2.2.2.2.2.2.2.2.2.2.2.2.2.1
theorem dX7_readProduct_58 : decode cX7_readProduct 58 = .ok (.iload_n 2, 1) := bdX7_readProduct_31.2.2.2.2.2.2.2.2.2.2.2.2.2.2.2
theorem bdX7_readProduct_59 : (decode cX7_readProduct 59 = .ok (.invokevirtual 139, 3)) ∧ (decode cX7_readProduct 62 = .ok (.istore_n 3, 1)) ∧ (decode cX7_readProduct 63 = .ok (.aload_n 1, 1)) ∧ (decode cX7_readProduct 64 = .ok (.iload 5, 2)) ∧ (decode cX7_readProduct 66 = .ok (.iconst 0, 1)) ∧ (decode cX7_readProduct 67 = .ok (.invokevirtual 130, 3)) ∧ (decode cX7_readProduct 70 = .ok (.iinc 4 1, 3)) ∧ (decode cX7_readProduct 73 = .ok (.goto (-63), 3)) ∧ (decode cX7_readProduct 76 = .ok (.iload_n 3, 1)) ∧ (decode cX7_readProduct 77 = .ok (.ireturn, 1)) := by decide +kernel
theorem dX7_readProduct_59 : decode cX7_readProduct 59 = .ok (.invokevirtual 139, 3) := bdX7_readProduct_59.1
theorem dX7_readProduct_62 : decode cX7_readProduct 62 = .ok (.istore_n 3, 1) := bdX7_readProduct_59.2.1
theorem dX7_readProduct_63 : decode cX7_readProduct 63 = .ok (.aload_n 1, 1) := bdX7_readProduct_59.2.2.1
theorem dX7_readProduct_64 : decode cX7_readProduct 64 = .ok (.iload 5, 2) := bdX7_readProduct_59.2.2.2.1
theorem dX7_readProduct_66 : decode cX7_readProduct 66 = .ok (.iconst 0, 1) := bdX7_readProduct_59.2.2.2.2.1
theorem dX7_readProduct_67 : decode cX7_readProduct 67 = .ok (.invokevirtual 130, 3) := bdX7_readProduct_59.2.2.2.2.2.1
theorem dX7_readProduct_70 : decode cX7_readProduct 70 = .ok (.iinc 4 1, 3) := bdX7_readProduct_59.2.2.2.2.2.2.1
theorem dX7_readProduct_73 : decode cX7_readProduct 73 = .ok (.goto (-63), 3) := bdX7_readProduct_59.2.2.2.2.2.2.2.1
theorem dX7_readProduct_76 : decode cX7_readProduct 76 = .ok (.iload_n 3, 1) := bdX7_readProduct_59.2.2.2.2.2.2.2.2.1
theorem dX7_readProduct_77 : decode cX7_readProduct 77 = .ok (.ireturn, 1) := bdX7_readProduct_59.2.2.2.2.2.2.2.2.2
theorem bdX7_readSum_0 : (decode cX7_readSum 0 = .ok (.aload_n 0, 1)) ∧ (decode cX7_readSum 1 = .ok (.aload_n 1, 1)) ∧ (decode cX7_readSum 2 = .ok (.iload_n 2, 1)) ∧ (decode cX7_readSum 3 = .ok (.invokevirtual 136, 3)) ∧ (decode cX7_readSum 6 = .ok (.istore_n 3, 1)) ∧ (decode cX7_readSum 7 = .ok (.iconst 0, 1)) ∧ (decode cX7_readSum 8 = .ok (.istore 4, 2)) ∧ (decode cX7_readSum 10 = .ok (.iload 4, 2)) ∧ (decode cX7_readSum 12 = .ok (.sipush 300, 3)) ∧ (decode cX7_readSum 15 = .ok (.if_icmp .ge 61, 3)) ∧ (decode cX7_readSum 18 = .ok (.iload_n 3, 1)) ∧ (decode cX7_readSum 19 = .ok (.ifCond .eq 57, 3)) ∧ (decode cX7_readSum 22 = .ok (.aload_n 0, 1)) ∧ (decode cX7_readSum 23 = .ok (.invokevirtual 51, 3)) ∧ (decode cX7_readSum 26 = .ok (.bipush 9, 2)) ∧ (decode cX7_readSum 28 = .ok (.if_icmp .eq 12, 3)) := by decide +kernel
theorem dX7_readSum_0 : decode cX7_readSum 0 = .ok (.aload_n 0, 1) := bdX7_readSum_0.1
theorem dX7_readSum_1 : decode cX7_readSum 1 = .ok (.aload_n 1, 1) := bdX7_readSum_0.2.1
theorem dX7_readSum_2 : decode cX7_readSum 2 = .ok (.iload_n 2, 1) := bdX7_readSum_0.2.2.1
theorem dX7_readSum_3 : decode cX7_readSum 3 = .ok (.invokevirtual 136, 3) := bdX7_readSum_0.2.2.2.1
theorem dX7_readSum_6 : decode cX7_readSum 6 = .ok (.istore_n 3, 1) := bdX7_readSum_0.2.2.2.2.1
theorem dX7_readSum_7 : decode cX7_readSum 7 = .ok (.iconst 0, 1) := bdX7_readSum_0.2.2.2.2.2.1
theorem dX7_readSum_8 : decode cX7_readSum 8 = .ok (.istore 4, 2) := bdX7_readSum_0.2.2.2.2.2.2.1
theorem dX7_readSum_10 : decode cX7_readSum 10 = .ok (.iload 4, 2) := bdX7_readSum_0.2.2.2.2.2.2.2.1
theorem dX7_readSum_12 : decode cX7_readSum 12 = .ok (.sipush 300, 3) := bdX7_readSum_0.2.2.2.2.2.2.2.2.1
theorem dX7_readSum_15 : decode cX7_readSum 15 = .ok (.if_icmp .ge 61, 3) := bdX7_readSum_0.2.2.2.2.2.2.2.2.2.1
theorem dX7_readSum_18 : decode cX7_readSum 18 = .ok (.iload_n 3, 1) := bdX7_readSum_0.2.2.2.2.2.2.2.2.2.2.1
theorem dX7_readSum_19 : decode cX7_readSum 19 = .ok (.ifCond .eq 57, 3) := bdX7_readSum_0.2.2.2.2.2.2.2.2.2.2.2.1
theorem dX7_readSum_22 : decode cX7_readSum 22 = .ok (.aload_n 0, 1) := bdX7_readSum_0.2.2.2.2.2.2.2.2.2.2.2.2.1
theorem dX7_readSum_23 : decode cX7_readSum 23 = .ok (.invokevirtual 51, 3) := bdX7_readSum_0.2.2.2.2.2.2.2.2.2.2.2.2.2.1
theorem dX7_readSum_26 : decode cX7_readSum 26 = .ok (.bipush 9, 2) := bdX7_readSum_0.2.2.2.2.2.2.2.2.2.2.2.2.2.2.1
theorem dX7_readSum_28 : decode cX7_readSum 28 = .ok (.if_icmp .eq 12, 3) := bdX7_readSum_0.2.2.2.2.2.2.2.2.2.2.2.2.2.2.2
theorem bdX7_readSum_31 : (decode cX7_readSum 31 = .ok (.aload_n 0, 1)) ∧ (decode cX7_readSum 32 = .ok (.invokevirtual 51, 3)) ∧ (decode cX7_readSum 35 = .ok (.bipush 10, 2)) ∧ (decode cX7_readSum 37 = .ok (.if_icmp .ne 39, 3)) ∧ (decode cX7_readSum 40 = .ok (.aload_n 0, 1)) ∧ (decode cX7_readSum 41 = .ok (.invokevirtual 51, 3)) ∧ (decode cX7_readSum 44 = .ok (.istore 5, 2)) ∧ (decode cX7_readSum 46 = .ok (.aload_n 0, 1)) ∧ (decode cX7_readSum 47 = .ok (.dup, 1)) ∧ (decode cX7_readSum 48 = .ok (.getfield 37, 3)) ∧ (decode cX7_readSum 51 = .ok (.iconst 1, 1)) ∧ (decode cX7_readSum 52 = .ok (.iadd, 1)) ∧ (decode cX7_readSum 53 = .ok (.putfield 37, 3)) ∧ (decode cX7_readSum 56 = .ok (.aload_n 0, 1)) ∧ (decode cX7_readSum 57 = .ok (.aload_n 1, 1)) ∧ (decode cX7_readSum 58 = .ok (.iload_n 2, 1)) := by decide +kernel
theorem dX7_readSum_31 : decode cX7_readSum 31 = .ok (.aload_n 0, 1) := bdX7_readSum_31.1
theorem dX7_readSum_32 : decode cX7_readSum 32 = .ok (.invokevirtual 51, 3) := bdX7_readSum_31.2.1
theorem dX7_readSum_35 : decode cX7_readSum 35 = .ok (.bipush 10, 2) := bdX7_readSum_31.2.2.1
theorem dX7_readSum_37 : decode cX7_readSum 37 = .ok (.if_icmp .ne 39, 3) := bdX7_readSum_31.2.2.2.1
theorem dX7_readSum_40 : decode cX7_readSum 40 = .ok (.aload_n 0, 1) := bdX7_readSum_31.2.2.2.2.1
theorem dX7_readSum_41 : decode cX7_readSum 41 = .ok (.invokevirtual 51, 3) := bdX7_readSum_31.2.2.2.2.2.1
theorem dX7_readSum_44 : decode cX7_readSum 44 = .ok (.istore 5, 2) := bdX7_readSum_31.2.2.2.2.2.2.1
theorem dX7_readSum_46 : decode cX7_readSum 46 = .ok (.aload_n 0, 1) := bdX7_readSum_31.2.2.2.2.2.2.2.1
theorem dX7_readSum_47 : decode cX7_readSum 47 = .ok (.dup, 1) := bdX7_readSum_31.2.2.2.2.2.2.2.2.1
theorem dX7_readSum_48 : decode cX7_readSum 48 = .ok (.getfield 37, 3) := bdX7_readSum_31.2.2.2.2.2.2.2.2.2.1
theorem dX7_readSum_51 : decode cX7_readSum 51 = .ok (.iconst 1, 1) := bdX7_readSum_31.2.2.2.2.2.2.2.2.2.2.1
theorem dX7_readSum_52 : decode cX7_readSum 52 = .ok (.iadd, 1) := bdX7_readSum_31.2.2.2.2.2.2.2.2.2.2.2.1
theorem dX7_readSum_53 : decode cX7_readSum 53 = .ok (.putfield 37, 3) := bdX7_readSum_31.2.2.2.2.2.2.2.2.2.2.2.2.1
theorem dX7_readSum_56 : decode cX7_readSum 56 = .ok (.aload_n 0, 1) := bdX7_readSum_31.2.2.2.2.2.2.2.2.2.2.2.2.2.1
theorem dX7_readSum_57 : decode cX7_readSum 57 = .ok (.aload_n 1, 1) := bdX7_readSum_31.2.2.2.2.2.2.2.2.2.2.2.2.2.2.1
theorem dX7_readSum_58 : decode cX7_readSum 58 = .ok (.iload_n 2, 1) := bdX7_readSum_31.2.2.2.2.2.2.2.2.2.2.2.2.2.2.2
theorem bdX7_readSum_59 : (decode cX7_readSum 59 = .ok (.invokevirtual 136, 3)) ∧ (decode cX7_readSum 62 = .ok (.istore_n 3, 1)) ∧ (decode cX7_readSum 63 = .ok (.aload_n 1, 1)) ∧ (decode cX7_readSum 64 = .ok (.iload 5, 2)) ∧ (decode cX7_readSum 66 = .ok (.iconst 0, 1)) ∧ (decode cX7_readSum 67 = .ok (.invokevirtual 130, 3)) ∧ (decode cX7_readSum 70 = .ok (.iinc 4 1, 3)) ∧ (decode cX7_readSum 73 = .ok (.goto (-63), 3)) ∧ (decode cX7_readSum 76 = .ok (.iload_n 3, 1)) ∧ (decode cX7_readSum 77 = .ok (.ireturn, 1)) := by decide +kernel
theorem dX7_readSum_59 : decode cX7_readSum 59 = .ok (.invokevirtual 136, 3) := bdX7_readSum_59.1
theorem dX7_readSum_62 : decode cX7_readSum 62 = .ok (.istore_n 3, 1) := bdX7_readSum_59.2.1
theorem dX7_readSum_63 : decode cX7_readSum 63 = .ok (.aload_n 1, 1) := bdX7_readSum_59.2.2.1
theorem dX7_readSum_64 : decode cX7_readSum 64 = .ok (.iload 5, 2) := bdX7_readSum_59.2.2.2.1
theorem dX7_readSum_66 : decode cX7_readSum 66 = .ok (.iconst 0, 1) := bdX7_readSum_59.2.2.2.2.1
theorem dX7_readSum_67 : decode cX7_readSum 67 = .ok (.invokevirtual 130, 3) := bdX7_readSum_59.2.2.2.2.2.1
theorem dX7_readSum_70 : decode cX7_readSum 70 = .ok (.iinc 4 1, 3) := bdX7_readSum_59.2.2.2.2.2.2.1
theorem dX7_readSum_73 : decode cX7_readSum 73 = .ok (.goto (-63), 3) := bdX7_readSum_59.2.2.2.2.2.2.2.1
theorem dX7_readSum_76 : decode cX7_readSum 76 = .ok (.iload_n 3, 1) := bdX7_readSum_59.2.2.2.2.2.2.2.2.1
theorem dX7_readSum_77 : decode cX7_readSum 77 = .ok (.ireturn, 1) := bdX7_readSum_59.2.2.2.2.2.2.2.2.2
theorem bdX7_readAsk_0 : (decode cX7_readAsk 0 = .ok (.aload_n 0, 1)) ∧ (decode cX7_readAsk 1 = .ok (.invokevirtual 51, 3)) ∧ (decode cX7_readAsk 4 = .ok (.bipush 25, 2)) ∧ (decode cX7_readAsk 6 = .ok (.if_icmp .ne 43, 3)) ∧ (decode cX7_readAsk 9 = .ok (.iload_n 2, 1)) ∧ (decode cX7_readAsk 10 = .ok (.bipush 8, 2)) ∧ (decode cX7_readAsk 12 = .ok (.if_icmp .lt 9, 3)) ∧ (decode cX7_readAsk 15 = .ok (.aload_n 0, 1)) ∧ (decode cX7_readAsk 16 = .ok (.iconst 3, 1)) ∧ (decode cX7_readAsk 17 = .ok (.invokevirtual 107, 3)) ∧ (decode cX7_readAsk 20 = .ok (.ireturn, 1)) ∧ (decode cX7_readAsk 21 = .ok (.aload_n 0, 1)) ∧ (decode cX7_readAsk 22 = .ok (.dup, 1)) ∧ (decode cX7_readAsk 23 = .ok (.getfield 37, 3)) ∧ (decode cX7_readAsk 26 = .ok (.iconst 1, 1)) ∧ (decode cX7_readAsk 27 = .ok (.iadd, 1)) := by decide +kernel
theorem dX7_readAsk_0 : decode cX7_readAsk 0 = .ok (.aload_n 0, 1) := bdX7_readAsk_0.1
theorem dX7_readAsk_1 : decode cX7_readAsk 1 = .ok (.invokevirtual 51, 3) := bdX7_readAsk_0.2.1
theorem dX7_readAsk_4 : decode cX7_readAsk 4 = .ok (.bipush 25, 2) := bdX7_readAsk_0.2.2.1
theorem dX7_readAsk_6 : decode cX7_readAsk 6 = .ok (.if_icmp .ne 43, 3) := bdX7_readAsk_0.2.2.2.1
theorem dX7_readAsk_9 : decode cX7_readAsk 9 = .ok (.iload_n 2, 1) := bdX7_readAsk_0.2.2.2.2.1
theorem dX7_readAsk_10 : decode cX7_readAsk 10 = .ok (.bipush 8, 2) := bdX7_readAsk_0.2.2.2.2.2.1
theorem dX7_readAsk_12 : decode cX7_readAsk 12 = .ok (.if_icmp .lt 9, 3) := bdX7_readAsk_0.2.2.2.2.2.2.1
theorem dX7_readAsk_15 : decode cX7_readAsk 15 = .ok (.aload_n 0, 1) := bdX7_readAsk_0.2.2.2.2.2.2.2.1
theorem dX7_readAsk_16 : decode cX7_readAsk 16 = .ok (.iconst 3, 1) := bdX7_readAsk_0.2.2.2.2.2.2.2.2.1
theorem dX7_readAsk_17 : decode cX7_readAsk 17 = .ok (.invokevirtual 107, 3) := bdX7_readAsk_0.2.2.2.2.2.2.2.2.2.1
theorem dX7_readAsk_20 : decode cX7_readAsk 20 = .ok (.ireturn, 1) := bdX7_readAsk_0.2.2.2.2.2.2.2.2.2.2.1
theorem dX7_readAsk_21 : decode cX7_readAsk 21 = .ok (.aload_n 0, 1) := bdX7_readAsk_0.2.2.2.2.2.2.2.2.2.2.2.1
theorem dX7_readAsk_22 : decode cX7_readAsk 22 = .ok (.dup, 1) := bdX7_readAsk_0.2.2.2.2.2.2.2.2.2.2.2.2.1
theorem dX7_readAsk_23 : decode cX7_readAsk 23 = .ok (.getfield 37, 3) := bdX7_readAsk_0.2.2.2.2.2.2.2.2.2.2.2.2.2.1
theorem dX7_readAsk_26 : decode cX7_readAsk 26 = .ok (.iconst 1, 1) := bdX7_readAsk_0.2.2.2.2.2.2.2.2.2.2.2.2.2.2.1
theorem dX7_readAsk_27 : decode cX7_readAsk 27 = .ok (.iadd, 1) := bdX7_readAsk_0.2.2.2.2.2.2.2.2.2.2.2.2.2.2.2
theorem bdX7_readAsk_28 : (decode cX7_readAsk 28 = .ok (.putfield 37, 3)) ∧ (decode cX7_readAsk 31 = .ok (.aload_n 0, 1)) ∧ (decode cX7_readAsk 32 = .ok (.aload_n 1, 1)) ∧ (decode cX7_readAsk 33 = .ok (.iload_n 2, 1)) ∧ (decode cX7_readAsk 34 = .ok (.iconst 1, 1)) ∧ (decode cX7_readAsk 35 = .ok (.iadd, 1)) ∧ (decode cX7_readAsk 36 = .ok (.invokevirtual 133, 3)) ∧ (decode cX7_readAsk 39 = .ok (.istore_n 3, 1)) ∧ (decode cX7_readAsk 40 = .ok (.aload_n 1, 1)) ∧ (decode cX7_readAsk 41 = .ok (.bipush 25, 2)) ∧ (decode cX7_readAsk 43 = .ok (.iconst 0, 1)) ∧ (decode cX7_readAsk 44 = .ok (.invokevirtual 130, 3)) ∧ (decode cX7_readAsk 47 = .ok (.iload_n 3, 1)) ∧ (decode cX7_readAsk 48 = .ok (.ireturn, 1)) ∧ (decode cX7_readAsk 49 = .ok (.aload_n 0, 1)) ∧ (decode cX7_readAsk 50 = .ok (.aload_n 1, 1)) := by decide +kernel
theorem dX7_readAsk_28 : decode cX7_readAsk 28 = .ok (.putfield 37, 3) := bdX7_readAsk_28.1
theorem dX7_readAsk_31 : decode cX7_readAsk 31 = .ok (.aload_n 0, 1) := bdX7_readAsk_28.2.1
theorem dX7_readAsk_32 : decode cX7_readAsk 32 = .ok (.aload_n 1, 1) := bdX7_readAsk_28.2.2.1
theorem dX7_readAsk_33 : decode cX7_readAsk 33 = .ok (.iload_n 2, 1) := bdX7_readAsk_28.2.2.2.1
theorem dX7_readAsk_34 : decode cX7_readAsk 34 = .ok (.iconst 1, 1) := bdX7_readAsk_28.2.2.2.2.1
theorem dX7_readAsk_35 : decode cX7_readAsk 35 = .ok (.iadd, 1) := bdX7_readAsk_28.2.2.2.2.2.1
theorem dX7_readAsk_36 : decode cX7_readAsk 36 = .ok (.invokevirtual 133, 3) := bdX7_readAsk_28.2.2.2.2.2.2.1
theorem dX7_readAsk_39 : decode cX7_readAsk 39 = .ok (.istore_n 3, 1) := bdX7_readAsk_28.2.2.2.2.2.2.2.1
theorem dX7_readAsk_40 : decode cX7_readAsk 40 = .ok (.aload_n 1, 1) := bdX7_readAsk_28.2.2.2.2.2.2.2.2.1
theorem dX7_readAsk_41 : decode cX7_readAsk 41 = .ok (.bipush 25, 2) := bdX7_readAsk_28.2.2.2.2.2.2.2.2.2.1
theorem dX7_readAsk_43 : decode cX7_readAsk 43 = .ok (.iconst 0, 1) := bdX7_readAsk_28.2.2.2.2.2.2.2.2.2.2.1
theorem dX7_readAsk_44 : decode cX7_readAsk 44 = .ok (.invokevirtual 130, 3) := bdX7_readAsk_28.2.2.2.2.2.2.2.2.2.2.2.1
theorem dX7_readAsk_47 : decode cX7_readAsk 47 = .ok (.iload_n 3, 1) := bdX7_readAsk_28.2.2.2.2.2.2.2.2.2.2.2.2.1
theorem dX7_readAsk_48 : decode cX7_readAsk 48 = .ok (.ireturn, 1) := bdX7_readAsk_28.2.2.2.2.2.2.2.2.2.2.2.2.2.1
theorem dX7_readAsk_49 : decode cX7_readAsk 49 = .ok (.aload_n 0, 1) := bdX7_readAsk_28.2.2.2.2.2.2.2.2.2.2.2.2.2.2.1
theorem dX7_readAsk_50 : decode cX7_readAsk 50 = .ok (.aload_n 1, 1) := bdX7_readAsk_28.2.2.2.2.2.2.2.2.2.2.2.2.2.2.2
theorem bdX7_readAsk_51 : (decode cX7_readAsk 51 = .ok (.iload_n 2, 1)) ∧ (decode cX7_readAsk 52 = .ok (.invokevirtual 117, 3)) ∧ (decode cX7_readAsk 55 = .ok (.ifCond .ne 5, 3)) ∧ (decode cX7_readAsk 58 = .ok (.iconst 0, 1)) ∧ (decode cX7_readAsk 59 = .ok (.ireturn, 1)) ∧ (decode cX7_readAsk 60 = .ok (.aload_n 0, 1)) ∧ (decode cX7_readAsk 61 = .ok (.invokevirtual 51, 3)) ∧ (decode cX7_readAsk 64 = .ok (.istore_n 3, 1)) ∧ (decode cX7_readAsk 65 = .ok (.iload_n 3, 1)) ∧ (decode cX7_readAsk 66 = .ok (.iconst 3, 1)) ∧ (decode cX7_readAsk 67 = .ok (.if_icmp .lt 9, 3)) ∧ (decode cX7_readAsk 70 = .ok (.iload_n 3, 1)) ∧ (decode cX7_readAsk 71 = .ok (.bipush 8, 2)) ∧ (decode cX7_readAsk 73 = .ok (.if_icmp .le 9, 3)) ∧ (decode cX7_readAsk 76 = .ok (.aload_n 0, 1)) ∧ (decode cX7_readAsk 77 = .ok (.iconst 1, 1)) := by decide +kernel
theorem dX7_readAsk_51 : decode cX7_readAsk 51 = .ok (.iload_n 2, 1) := bdX7_readAsk_51.1
theorem dX7_readAsk_52 : decode cX7_readAsk 52 = .ok (.invokevirtual 117, 3) := bdX7_readAsk_51.2.1
theorem dX7_readAsk_55 : decode cX7_readAsk 55 = .ok (.ifCond .ne 5, 3) := bdX7_readAsk_51.2.2.1
theorem dX7_readAsk_58 : decode cX7_readAsk 58 = .ok (.iconst 0, 1) := bdX7_readAsk_51.2.2.2.1
theorem dX7_readAsk_59 : decode cX7_readAsk 59 = .ok (.ireturn, 1) := bdX7_readAsk_51.2.2.2.2.1
theorem dX7_readAsk_60 : decode cX7_readAsk 60 = .ok (.aload_n 0, 1) := bdX7_readAsk_51.2.2.2.2.2.1
theorem dX7_readAsk_61 : decode cX7_readAsk 61 = .ok (.invokevirtual 51, 3) := bdX7_readAsk_51.2.2.2.2.2.2.1
theorem dX7_readAsk_64 : decode cX7_readAsk 64 = .ok (.istore_n 3, 1) := bdX7_readAsk_51.2.2.2.2.2.2.2.1
theorem dX7_readAsk_65 : decode cX7_readAsk 65 = .ok (.iload_n 3, 1) := bdX7_readAsk_51.2.2.2.2.2.2.2.2.1
theorem dX7_readAsk_66 : decode cX7_readAsk 66 = .ok (.iconst 3, 1) := bdX7_readAsk_51.2.2.2.2.2.2.2.2.2.1
theorem dX7_readAsk_67 : decode cX7_readAsk 67 = .ok (.if_icmp .lt 9, 3) := bdX7_readAsk_51.2.2.2.2.2.2.2.2.2.2.1
theorem dX7_readAsk_70 : decode cX7_readAsk 70 = .ok (.iload_n 3, 1) := bdX7_readAsk_51.2.2.2.2.2.2.2.2.2.2.2.1
theorem dX7_readAsk_71 : decode cX7_readAsk 71 = .ok (.bipush 8, 2) := bdX7_readAsk_51.2.2.2.2.2.2.2.2.2.2.2.2.1
theorem dX7_readAsk_73 : decode cX7_readAsk 73 = .ok (.if_icmp .le 9, 3) := bdX7_readAsk_51.2.2.2.2.2.2.2.2.2.2.2.2.2.1
theorem dX7_readAsk_76 : decode cX7_readAsk 76 = .ok (.aload_n 0, 1) := bdX7_readAsk_51.2.2.2.2.2.2.2.2.2.2.2.2.2.2.1
theorem dX7_readAsk_77 : decode cX7_readAsk 77 = .ok (.iconst 1, 1) := bdX7_readAsk_51.2.2.2.2.2.2.2.2.2.2.2.2.2.2.2
theorem bdX7_readAsk_78 : (decode cX7_readAsk 78 = .ok (.invokevirtual 107, 3)) ∧ (decode cX7_readAsk 81 = .ok (.ireturn, 1)) ∧ (decode cX7_readAsk 82 = .ok (.aload_n 0, 1)) ∧ (decode cX7_readAsk 83 = .ok (.dup, 1)) ∧ (decode cX7_readAsk 84 = .ok (.getfield 37, 3)) ∧ (decode cX7_readAsk 87 = .ok (.iconst 1, 1)) ∧ (decode cX7_readAsk 88 = .ok (.iadd, 1)) ∧ (decode cX7_readAsk 89 = .ok (.putfield 37, 3)) ∧ (decode cX7_readAsk 92 = .ok (.aload_n 0, 1)) ∧ (decode cX7_readAsk 93 = .ok (.aload_n 1, 1)) ∧ (decode cX7_readAsk 94 = .ok (.iload_n 2, 1)) ∧ (decode cX7_readAsk 95 = .ok (.invokevirtual 117, 3)) ∧ (decode cX7_readAsk 98 = .ok (.istore 4, 2)) ∧ (decode cX7_readAsk 100 = .ok (.aload_n 1, 1)) ∧ (decode cX7_readAsk 101 = .ok (.iload_n 3, 1)) ∧ (decode cX7_readAsk 102 = .ok (.iconst 0, 1)) := by decide +kernel
theorem dX7_readAsk_78 : decode cX7_readAsk 78 = .ok (.invokevirtual 107, 3) := bdX7_readAsk_78.1
theorem dX7_readAsk_81 : decode cX7_readAsk 81 = .ok (.ireturn, 1) := bdX7_readAsk_78.2.1
theorem dX7_readAsk_82 : decode cX7_readAsk 82 = .ok (.aload_n 0, 1) := bdX7_readAsk_78.2.2.1
theorem dX7_readAsk_83 : decode cX7_readAsk 83 = .ok (.dup, 1) := bdX7_readAsk_78.2.2.2.1
theorem dX7_readAsk_84 : decode cX7_readAsk 84 = .ok (.getfield 37, 3) := bdX7_readAsk_78.2.2.2.2.1
theorem dX7_readAsk_87 : decode cX7_readAsk 87 = .ok (.iconst 1, 1) := bdX7_readAsk_78.2.2.2.2.2.1
theorem dX7_readAsk_88 : decode cX7_readAsk 88 = .ok (.iadd, 1) := bdX7_readAsk_78.2.2.2.2.2.2.1
theorem dX7_readAsk_89 : decode cX7_readAsk 89 = .ok (.putfield 37, 3) := bdX7_readAsk_78.2.2.2.2.2.2.2.1
theorem dX7_readAsk_92 : decode cX7_readAsk 92 = .ok (.aload_n 0, 1) := bdX7_readAsk_78.2.2.2.2.2.2.2.2.1
theorem dX7_readAsk_93 : decode cX7_readAsk 93 = .ok (.aload_n 1, 1) := bdX7_readAsk_78.2.2.2.2.2.2.2.2.2.1
theorem dX7_readAsk_94 : decode cX7_readAsk 94 = .ok (.iload_n 2, 1) := bdX7_readAsk_78.2.2.2.2.2.2.2.2.2.2.1
theorem dX7_readAsk_95 : decode cX7_readAsk 95 = .ok (.invokevirtual 117, 3) := bdX7_readAsk_78.2.2.2.2.2.2.2.2.2.2.2.1
theorem dX7_readAsk_98 : decode cX7_readAsk 98 = .ok (.istore 4, 2) := bdX7_readAsk_78.2.2.2.2.2.2.2.2.2.2.2.2.1
theorem dX7_readAsk_100 : decode cX7_readAsk 100 = .ok (.aload_n 1, 1) := bdX7_readAsk_78.2.2.2.2.2.2.2.2.2.2.2.2.2.1
theorem dX7_readAsk_101 : decode cX7_readAsk 101 = .ok (.iload_n 3, 1) := bdX7_readAsk_78.2.2.2.2.2.2.2.2.2.2.2.2.2.2.1
theorem dX7_readAsk_102 : decode cX7_readAsk 102 = .ok (.iconst 0, 1) := bdX7_readAsk_78.2.2.2.2.2.2.2.2.2.2.2.2.2.2.2
theorem bdX7_readAsk_103 : (decode cX7_readAsk 103 = .ok (.invokevirtual 130, 3)) ∧ (decode cX7_readAsk 106 = .ok (.iload 4, 2)) ∧ (decode cX7_readAsk 108 = .ok (.ireturn, 1)) := by decide +kernel
theorem dX7_readAsk_103 : decode cX7_readAsk 103 = .ok (.invokevirtual 130, 3) := bdX7_readAsk_103.1
theorem dX7_readAsk_106 : decode cX7_readAsk 106 = .ok (.iload 4, 2) := bdX7_readAsk_103.2.1
theorem dX7_readAsk_108 : decode cX7_readAsk 108 = .ok (.ireturn, 1) := bdX7_readAsk_103.2.2
def fX12_put_3 (a0 : Nat) (a1 : Int32) : Nat → Int32 → xMem → Option xMem
  | 0, _, _ => none
  | fuel + 1, l2, m => if l2 < (0 : Int32) then some m else xLet (m.1 a0 4) fun x2 => xLet (a1 >>> (l2 &&& 31)) fun x3 => xLet (x3.toInt8.toInt32) fun x4 => bif xIn x2 300 then xLet (vp_nar (xAty 0) x4) fun x7 => xLet (xPut m (a0 + 4) x2.toNatClampNeg x7) fun m5 => xLet (m5.1 a0 4) fun x8 => xLet (x8 + (1 : Int32)) fun x9 => xLet (xPut m5 a0 4 x9) fun m10 => xLet (l2 - (8 : Int32)) fun x11 => fX12_put_3 a0 a1 fuel x11 m10 else none
set_option maxRecDepth 4000 in
theorem fX12_put_3_ok {a0 : Nat} {a1 : Int32} {d : Nat} (hd : 0 ≤ d) (ha0 : isModel a0) : ∀ (fuel : Nat) (l2 : Int32) (m : xMem) (r : xMem), fX12_put_3 a0 a1 fuel l2 m = some r → xFx hh_47 cX12_put d 3 [some (.ref a0), some (.int a1), some (.int l2)] [] (xLay m) 0 0 none (xLay r) := by
  intro fuel
  induction fuel with
  | zero => intro l2  m r  h; cases h
  | succ fuel ih =>
    intro l2  m r  h
    unfold fX12_put_3 at h
    refine fx_iload_n dX12_put_3 rfl rfl ?_
    refine fx_if_lt (t := 38) dX12_put_4 rfl rfl (fun hc1 => ?_) (fun hc1 => ?_)
    · rw [if_pos hc1] at h
      cases h
      exact fx_return dX12_put_38 rfl rfl
    · rw [if_neg hc1] at h
      refine fx_aload_n dX12_put_7 rfl rfl ?_
      refine gx_getr dX12_put_8 rfl fd_12_19 ha0.1 rfl rfl ?_
      refine fx_aload_n dX12_put_11 rfl rfl ?_
      obtain ⟨x2, hx2, h⟩ := xLet_el h
      refine gx_get dX12_put_12 rfl fd_12_122 ha0.1 rfl rfl hx2 ?_
      refine fx_iload_n dX12_put_15 rfl rfl ?_
      refine fx_iload_n dX12_put_16 rfl rfl ?_
      obtain ⟨x3, hx3, h⟩ := xLet_el h
      refine fx_ishr dX12_put_17 rfl hx3 ?_
      obtain ⟨x4, hx4, h⟩ := xLet_el h
      refine fx_i2b dX12_put_18 rfl hx4 ?_
      obtain ⟨hj6, h⟩ := xChk_el h
      obtain ⟨x7, hx7, h⟩ := xLet_el h
      skip
      obtain ⟨m5, hm5, h⟩ := xLet_el h
      refine gx_bastore (t := 0) dX12_put_19 rfl ha0.2.2.2.2.1 rfl hj6 hx7 hm5 ?_
      refine fx_aload_n dX12_put_20 rfl rfl ?_
      refine fx_dup dX12_put_21 rfl rfl ?_
      obtain ⟨x8, hx8, h⟩ := xLet_el h
      refine gx_get dX12_put_22 rfl fd_12_122 ha0.1 rfl rfl hx8 ?_
      refine fx_iconst (x := 1) dX12_put_25 rfl (by decide) ?_
      obtain ⟨x9, hx9, h⟩ := xLet_el h
      refine fx_iadd dX12_put_26 rfl hx9 ?_
      obtain ⟨m10, hm10, h⟩ := xLet_el h
      refine gx_put dX12_put_27 rfl fd_12_122 ha0.1 rfl rfl rfl hm10 ?_
      refine fx_iload_n dX12_put_30 rfl rfl ?_
      refine fx_bipush (x := 8) dX12_put_31 rfl (by decide) ?_
      obtain ⟨x11, hx11, h⟩ := xLet_el h
      refine fx_isub dX12_put_33 rfl hx11 ?_
      refine fx_istore_n (ls2 := [some (.ref a0), some (.int a1), some (.int x11)]) dX12_put_34 rfl rfl rfl ?_
      refine fx_goto (t := 3) dX12_put_35 rfl rfl ?_
      exact ih x11 m10 r h
def fX12_put_0 (a0 : Nat) (a1 : Int32) (m : xMem) : Option xMem := fX12_put_3 a0 a1 xFuel (24 : Int32) m
set_option maxRecDepth 4000 in
theorem fX12_put_0_ok {a0 : Nat} {a1 : Int32} {d : Nat} (hd : 0 ≤ d) (ha0 : isModel a0) {o2 : Option Value} {m : xMem} {r : xMem} (q2 : xNoD o2 = true) (h : fX12_put_0 a0 a1 m = some r) : xFx hh_47 cX12_put d 0 [some (.ref a0), some (.int a1), o2] [] (xLay m) 0 0 none (xLay r) := by
  unfold fX12_put_0 at h
  refine fx_bipush (x := 24) dX12_put_0 rfl (by decide) ?_
  refine fx_istore_n (ls2 := [some (.ref a0), some (.int a1), some (.int (24 : Int32))]) dX12_put_2 rfl rfl rfl ?_
  exact fX12_put_3_ok hd ha0 xFuel (24 : Int32) m r h
def fX12_put (a0 : Nat) (a1 : Int32) (m : xMem) : Option xMem := fX12_put_0 a0 a1  m
theorem fX12_put_ok {a0 : Nat} {a1 : Int32} {m : xMem} {r : xMem} {d : Nat} (hd : 1 ≤ d) (ha0 : isModel a0) (h : fX12_put a0 a1 m = some r) : xEx d 47 [.ref a0, .int a1] (xLay m) none (xLay r) := by
  obtain ⟨d, rfl⟩ : ∃ q, d = q + 1 := ⟨d - 1, by omega⟩
  exact xEx_of me_47 rfl (fX12_put_0_ok (d := d) (o2 := none) (by omega) ha0 rfl h)
def fX12_feed_0 (a0 : Nat) (a1 : Int32) (a2 : Int32) (a3 : Int32) (a4 : Int32) (a5 : Int32) (m : xMem) : Option (Int32 × xMem) := xLet (m.1 a0 4) fun x1 => xLet (x1 + (20 : Int32)) fun x2 => if x2 ≤ (300 : Int32) then (fX12_put a0 a1 m).bind fun p4 => (fX12_put a0 a2 p4).bind fun p5 => (fX12_put a0 a3 p5).bind fun p6 => (fX12_put a0 a4 p6).bind fun p7 => (fX12_put a0 a5 p7).bind fun p8 => xLet (p8.1 a0 4) fun x9 => some (x9, p8) else some ((-1 : Int32), m)
set_option maxRecDepth 4000 in
theorem fX12_feed_0_ok {a0 : Nat} {a1 : Int32} {a2 : Int32} {a3 : Int32} {a4 : Int32} {a5 : Int32} {d : Nat} (hd : 1 ≤ d) (ha0 : isModel a0) {m : xMem} {r : (Int32 × xMem)} (h : fX12_feed_0 a0 a1 a2 a3 a4 a5 m = some r) : xFx hh_46 cX12_feed d 0 [some (.ref a0), some (.int a1), some (.int a2), some (.int a3), some (.int a4), some (.int a5)] [] (xLay m) 0 0 (some (.int r.1)) (xLay r.2) := by
  unfold fX12_feed_0 at h
  refine fx_aload_n dX12_feed_0 rfl rfl ?_
  obtain ⟨x1, hx1, h⟩ := xLet_el h
  refine gx_get dX12_feed_1 rfl fd_12_122 ha0.1 rfl rfl hx1 ?_
  refine fx_bipush (x := 20) dX12_feed_4 rfl (by decide) ?_
  obtain ⟨x2, hx2, h⟩ := xLet_el h
  refine fx_iadd dX12_feed_6 rfl hx2 ?_
  refine fx_sipush (x := 300) dX12_feed_7 rfl (by decide) ?_
  refine fx_icmp_le (t := 15) dX12_feed_10 rfl rfl (fun hc3 => ?_) (fun hc3 => ?_)
  · rw [if_pos hc3] at h
    refine fx_aload_n dX12_feed_15 rfl rfl ?_
    refine fx_iload_n dX12_feed_16 rfl rfl ?_
    obtain ⟨p4, ep4, h⟩ := xBind_el h
    refine gx_callv (as := [.int a1]) (r := []) rfl dX12_feed_17 ca_12_125 rfl me_47 rfl rfl rfl rfl (ha0.1) rfl (fX12_put_ok (d := d) (by omega) ha0 ep4) rfl rfl ?_
    refine fx_aload_n dX12_feed_20 rfl rfl ?_
    refine fx_iload_n dX12_feed_21 rfl rfl ?_
    obtain ⟨p5, ep5, h⟩ := xBind_el h
    refine gx_callv (as := [.int a2]) (r := []) rfl dX12_feed_22 ca_12_125 rfl me_47 rfl rfl rfl rfl (ha0.1) rfl (fX12_put_ok (d := d) (by omega) ha0 ep5) rfl rfl ?_
    refine fx_aload_n dX12_feed_25 rfl rfl ?_
    refine fx_iload_n dX12_feed_26 rfl rfl ?_
    obtain ⟨p6, ep6, h⟩ := xBind_el h
    refine gx_callv (as := [.int a3]) (r := []) rfl dX12_feed_27 ca_12_125 rfl me_47 rfl rfl rfl rfl (ha0.1) rfl (fX12_put_ok (d := d) (by omega) ha0 ep6) rfl rfl ?_
    refine fx_aload_n dX12_feed_30 rfl rfl ?_
    refine fx_iload dX12_feed_31 rfl rfl ?_
    obtain ⟨p7, ep7, h⟩ := xBind_el h
    refine gx_callv (as := [.int a4]) (r := []) rfl dX12_feed_33 ca_12_125 rfl me_47 rfl rfl rfl rfl (ha0.1) rfl (fX12_put_ok (d := d) (by omega) ha0 ep7) rfl rfl ?_
    refine fx_aload_n dX12_feed_36 rfl rfl ?_
    refine fx_iload dX12_feed_37 rfl rfl ?_
    obtain ⟨p8, ep8, h⟩ := xBind_el h
    refine gx_callv (as := [.int a5]) (r := []) rfl dX12_feed_39 ca_12_125 rfl me_47 rfl rfl rfl rfl (ha0.1) rfl (fX12_put_ok (d := d) (by omega) ha0 ep8) rfl rfl ?_
    refine fx_aload_n dX12_feed_42 rfl rfl ?_
    obtain ⟨x9, hx9, h⟩ := xLet_el h
    refine gx_get dX12_feed_43 rfl fd_12_122 ha0.1 rfl rfl hx9 ?_
    cases h
    exact fx_ireturn dX12_feed_46 rfl rfl
  · rw [if_neg hc3] at h
    refine fx_iconst (x := -1) dX12_feed_13 rfl (by decide) ?_
    cases h
    exact fx_ireturn dX12_feed_14 rfl rfl
def fX12_feed (a0 : Nat) (a1 : Int32) (a2 : Int32) (a3 : Int32) (a4 : Int32) (a5 : Int32) (m : xMem) : Option (Int32 × xMem) := fX12_feed_0 a0 a1 a2 a3 a4 a5  m
theorem fX12_feed_ok {a0 : Nat} {a1 : Int32} {a2 : Int32} {a3 : Int32} {a4 : Int32} {a5 : Int32} {m : xMem} {r : (Int32 × xMem)} {d : Nat} (hd : 2 ≤ d) (ha0 : isModel a0) (h : fX12_feed a0 a1 a2 a3 a4 a5 m = some r) : xEx d 46 [.ref a0, .int a1, .int a2, .int a3, .int a4, .int a5] (xLay m) (some (.int r.1)) (xLay r.2) := by
  obtain ⟨d, rfl⟩ : ∃ q, d = q + 1 := ⟨d - 1, by omega⟩
  exact xEx_of me_46 rfl (fX12_feed_0_ok (d := d) (by omega) ha0 h)
def fX11_end_0 (a0 : Nat) (a1 : Int32) (m : xMem) : Option (Int32 × xMem) := xLet (m.1 (a0 + 255) 4) fun x1 => (fX11_within a1 (0 : Int32) x1 m).bind fun p2 => if ¬ p2.1 = (0 : Int32) then xLet (xPut p2.2 (a0 + 255) 4 a1) fun m4 => some (a1, m4) else some ((-1 : Int32), p2.2)
set_option maxRecDepth 4000 in
theorem fX11_end_0_ok {a0 : Nat} {a1 : Int32} {d : Nat} (hd : 1 ≤ d) (ha0 : isMS a0) {m : xMem} {r : (Int32 × xMem)} (h : fX11_end_0 a0 a1 m = some r) : xFx hh_48 cX11_end d 0 [some (.ref a0), some (.int a1)] [] (xLay m) 0 0 (some (.int r.1)) (xLay r.2) := by
  unfold fX11_end_0 at h
  refine fx_iload_n dX11_end_0 rfl rfl ?_
  refine fx_iconst (x := 0) dX11_end_1 rfl (by decide) ?_
  refine fx_aload_n dX11_end_2 rfl rfl ?_
  refine gx_getr dX11_end_3 rfl fd_11_32 ha0.1 rfl rfl ?_
  obtain ⟨x1, hx1, h⟩ := xLet_el h
  refine gx_get dX11_end_6 rfl fd_11_140 ha0.2.2.2.2.2.1.1 rfl rfl hx1 ?_
  obtain ⟨p2, ep2, h⟩ := xBind_el h
  refine gx_calls (as := [.int a1, .int (0 : Int32), .int x1]) (r := []) rfl dX11_end_9 ca_11_47 rfl me_14 rfl rfl rfl rfl (fX11_within_ok (d := d) (by omega) ep2) rfl rfl ?_
  refine fx_if_ne (t := 17) dX11_end_12 rfl rfl (fun hc3 => ?_) (fun hc3 => ?_)
  · rw [if_pos hc3] at h
    refine fx_aload_n dX11_end_17 rfl rfl ?_
    refine gx_getr dX11_end_18 rfl fd_11_32 ha0.1 rfl rfl ?_
    refine fx_iload_n dX11_end_21 rfl rfl ?_
    obtain ⟨m4, hm4, h⟩ := xLet_el h
    refine gx_put dX11_end_22 rfl fd_11_140 ha0.2.2.2.2.2.1.1 rfl rfl rfl hm4 ?_
    refine fx_iload_n dX11_end_25 rfl rfl ?_
    cases h
    exact fx_ireturn dX11_end_26 rfl rfl
  · rw [if_neg hc3] at h
    refine fx_iconst (x := -1) dX11_end_15 rfl (by decide) ?_
    cases h
    exact fx_ireturn dX11_end_16 rfl rfl
def fX11_end (a0 : Nat) (a1 : Int32) (m : xMem) : Option (Int32 × xMem) := fX11_end_0 a0 a1  m
theorem fX11_end_ok {a0 : Nat} {a1 : Int32} {m : xMem} {r : (Int32 × xMem)} {d : Nat} (hd : 2 ≤ d) (ha0 : isMS a0) (h : fX11_end a0 a1 m = some r) : xEx d 48 [.ref a0, .int a1] (xLay m) (some (.int r.1)) (xLay r.2) := by
  obtain ⟨d, rfl⟩ : ∃ q, d = q + 1 := ⟨d - 1, by omega⟩
  exact xEx_of me_48 rfl (fX11_end_0_ok (d := d) (by omega) ha0 h)
def fX12_end_0 (a0 : Nat) (a1 : Int32) (m : xMem) : Option (Int32 × xMem) := xLet (m.1 a0 4) fun x1 => (fX12_in a1 (0 : Int32) x1 m).bind fun p2 => if ¬ p2.1 = (0 : Int32) then xLet (xPut p2.2 a0 4 a1) fun m4 => some (a1, m4) else some ((-1 : Int32), p2.2)
set_option maxRecDepth 4000 in
theorem fX12_end_0_ok {a0 : Nat} {a1 : Int32} {d : Nat} (hd : 1 ≤ d) (ha0 : isModel a0) {m : xMem} {r : (Int32 × xMem)} (h : fX12_end_0 a0 a1 m = some r) : xFx hh_49 cX12_end d 0 [some (.ref a0), some (.int a1)] [] (xLay m) 0 0 (some (.int r.1)) (xLay r.2) := by
  unfold fX12_end_0 at h
  refine fx_iload_n dX12_end_0 rfl rfl ?_
  refine fx_iconst (x := 0) dX12_end_1 rfl (by decide) ?_
  refine fx_aload_n dX12_end_2 rfl rfl ?_
  obtain ⟨x1, hx1, h⟩ := xLet_el h
  refine gx_get dX12_end_3 rfl fd_12_122 ha0.1 rfl rfl hx1 ?_
  obtain ⟨p2, ep2, h⟩ := xBind_el h
  refine gx_calls (as := [.int a1, .int (0 : Int32), .int x1]) (r := []) rfl dX12_end_6 ca_12_95 rfl me_18 rfl rfl rfl rfl (fX12_in_ok (d := d) (by omega) ep2) rfl rfl ?_
  refine fx_if_ne (t := 14) dX12_end_9 rfl rfl (fun hc3 => ?_) (fun hc3 => ?_)
  · rw [if_pos hc3] at h
    refine fx_aload_n dX12_end_14 rfl rfl ?_
    refine fx_iload_n dX12_end_15 rfl rfl ?_
    obtain ⟨m4, hm4, h⟩ := xLet_el h
    refine gx_put dX12_end_16 rfl fd_12_122 ha0.1 rfl rfl rfl hm4 ?_
    refine fx_iload_n dX12_end_19 rfl rfl ?_
    cases h
    exact fx_ireturn dX12_end_20 rfl rfl
  · rw [if_neg hc3] at h
    refine fx_iconst (x := -1) dX12_end_12 rfl (by decide) ?_
    cases h
    exact fx_ireturn dX12_end_13 rfl rfl
def fX12_end (a0 : Nat) (a1 : Int32) (m : xMem) : Option (Int32 × xMem) := fX12_end_0 a0 a1  m
theorem fX12_end_ok {a0 : Nat} {a1 : Int32} {m : xMem} {r : (Int32 × xMem)} {d : Nat} (hd : 2 ≤ d) (ha0 : isModel a0) (h : fX12_end a0 a1 m = some r) : xEx d 49 [.ref a0, .int a1] (xLay m) (some (.int r.1)) (xLay r.2) := by
  obtain ⟨d, rfl⟩ : ∃ q, d = q + 1 := ⟨d - 1, by omega⟩
  exact xEx_of me_49 rfl (fX12_end_0_ok (d := d) (by omega) ha0 h)
def fX7_kind_43 (a0 : Nat) (s0 : Int32) (m : xMem) : Option (Int32 × xMem) := some (s0, m)
set_option maxRecDepth 4000 in
theorem fX7_kind_43_ok {a0 : Nat} {d : Nat} (hd : 0 ≤ d) (ha0 : isReader a0) {s0 : Int32} {m : xMem} {r : (Int32 × xMem)} (h : fX7_kind_43 a0 s0 m = some r) : xFx hh_72 cX7_kind d 43 [some (.ref a0)] [.int s0] (xLay m) 0 0 (some (.int r.1)) (xLay r.2) := by
  unfold fX7_kind_43 at h
  cases h
  exact fx_ireturn dX7_kind_43 rfl rfl
def fX7_kind_42 (a0 : Nat) (m : xMem) : Option (Int32 × xMem) := fX7_kind_43 a0 (0 : Int32) m
set_option maxRecDepth 4000 in
theorem fX7_kind_42_ok {a0 : Nat} {d : Nat} (hd : 0 ≤ d) (ha0 : isReader a0) {m : xMem} {r : (Int32 × xMem)} (h : fX7_kind_42 a0 m = some r) : xFx hh_72 cX7_kind d 42 [some (.ref a0)] [] (xLay m) 0 0 (some (.int r.1)) (xLay r.2) := by
  unfold fX7_kind_42 at h
  refine fx_iconst (x := 0) dX7_kind_42 rfl (by decide) ?_
  exact fX7_kind_43_ok hd ha0 h
def fX7_kind_0 (a0 : Nat) (m : xMem) : Option (Int32 × xMem) := xLet (m.1 a0 8) fun x1 => if x1 < (0 : Int32) then fX7_kind_42 a0 m else xLet (m.1 a0 8) fun x3 => xLet (m.1 a0 7) fun x4 => if x4 ≤ x3 then fX7_kind_42 a0 m else xLet (m.1 a0 8) fun x6 => if (301 : Int32) ≤ x6 then fX7_kind_42 a0 m else xLet (m.1 a0 8) fun x8 => bif xIn x8 301 then xLet (m.1 (a0 + 2) x8.toNatClampNeg) fun x9 => fX7_kind_43 a0 x9 m else none
set_option maxRecDepth 4000 in
theorem fX7_kind_0_ok {a0 : Nat} {d : Nat} (hd : 0 ≤ d) (ha0 : isReader a0) {m : xMem} {r : (Int32 × xMem)} (h : fX7_kind_0 a0 m = some r) : xFx hh_72 cX7_kind d 0 [some (.ref a0)] [] (xLay m) 0 0 (some (.int r.1)) (xLay r.2) := by
  unfold fX7_kind_0 at h
  refine fx_aload_n dX7_kind_0 rfl rfl ?_
  obtain ⟨x1, hx1, h⟩ := xLet_el h
  refine gx_get dX7_kind_1 rfl fd_7_37 ha0.1 rfl rfl hx1 ?_
  refine fx_if_lt (t := 42) dX7_kind_4 rfl rfl (fun hc2 => ?_) (fun hc2 => ?_)
  · rw [if_pos hc2] at h
    exact fX7_kind_42_ok hd ha0 h
  · rw [if_neg hc2] at h
    refine fx_aload_n dX7_kind_7 rfl rfl ?_
    obtain ⟨x3, hx3, h⟩ := xLet_el h
    refine gx_get dX7_kind_8 rfl fd_7_37 ha0.1 rfl rfl hx3 ?_
    refine fx_aload_n dX7_kind_11 rfl rfl ?_
    obtain ⟨x4, hx4, h⟩ := xLet_el h
    refine gx_get dX7_kind_12 rfl fd_7_48 ha0.1 rfl rfl hx4 ?_
    refine fx_icmp_ge (t := 42) dX7_kind_15 rfl rfl (fun hc5 => ?_) (fun hc5 => ?_)
    · rw [if_pos hc5] at h
      exact fX7_kind_42_ok hd ha0 h
    · rw [if_neg hc5] at h
      refine fx_aload_n dX7_kind_18 rfl rfl ?_
      obtain ⟨x6, hx6, h⟩ := xLet_el h
      refine gx_get dX7_kind_19 rfl fd_7_37 ha0.1 rfl rfl hx6 ?_
      refine fx_aload_n dX7_kind_22 rfl rfl ?_
      refine gx_getr dX7_kind_23 rfl fd_7_15 ha0.1 rfl rfl ?_
      refine gx_alen (t := 1) (y := 301) dX7_kind_26 rfl ha0.2.2.1 rfl (by decide) ?_
      refine fx_icmp_ge (t := 42) dX7_kind_27 rfl rfl (fun hc7 => ?_) (fun hc7 => ?_)
      · rw [if_pos hc7] at h
        exact fX7_kind_42_ok hd ha0 h
      · rw [if_neg hc7] at h
        refine fx_aload_n dX7_kind_30 rfl rfl ?_
        refine gx_getr dX7_kind_31 rfl fd_7_15 ha0.1 rfl rfl ?_
        refine fx_aload_n dX7_kind_34 rfl rfl ?_
        obtain ⟨x8, hx8, h⟩ := xLet_el h
        refine gx_get dX7_kind_35 rfl fd_7_37 ha0.1 rfl rfl hx8 ?_
        obtain ⟨hj10, h⟩ := xChk_el h
        obtain ⟨x9, hx9, h⟩ := xLet_el h
        refine gx_iaload dX7_kind_38 rfl ha0.2.2.1 hj10 hx9 ?_
        refine fx_goto (t := 43) dX7_kind_39 rfl rfl ?_
        exact fX7_kind_43_ok hd ha0 h
def fX7_kind (a0 : Nat) (m : xMem) : Option (Int32 × xMem) := fX7_kind_0 a0  m
theorem fX7_kind_ok {a0 : Nat} {m : xMem} {r : (Int32 × xMem)} {d : Nat} (hd : 1 ≤ d) (ha0 : isReader a0) (h : fX7_kind a0 m = some r) : xEx d 72 [.ref a0] (xLay m) (some (.int r.1)) (xLay r.2) := by
  obtain ⟨d, rfl⟩ : ∃ q, d = q + 1 := ⟨d - 1, by omega⟩
  exact xEx_of me_72 rfl (fX7_kind_0_ok (d := d) (by omega) ha0 h)
def fX7_fails_49 (a0 : Nat) (a1 : Int32) (s0 : Nat) (s1 : Int32) (m : xMem) : Option (Int32 × xMem) := xLet (xPut m s0 6 s1) fun m1 => some ((0 : Int32), m1)
set_option maxRecDepth 4000 in
theorem fX7_fails_49_ok {a0 : Nat} {a1 : Int32} {d : Nat} (hd : 0 ≤ d) (ha0 : isReader a0) {s0 : Nat} {s1 : Int32} {m : xMem} {r : (Int32 × xMem)} (hs0 : isReader s0) (h : fX7_fails_49 a0 a1 s0 s1 m = some r) : xFx hh_74 cX7_fails d 49 [some (.ref a0), some (.int a1)] [.int s1, .ref s0] (xLay m) 0 0 (some (.int r.1)) (xLay r.2) := by
  unfold fX7_fails_49 at h
  obtain ⟨m1, hm1, h⟩ := xLet_el h
  refine gx_put dX7_fails_49 rfl fd_7_28 hs0.1 rfl rfl rfl hm1 ?_
  refine fx_iconst (x := 0) dX7_fails_52 rfl (by decide) ?_
  cases h
  exact fx_ireturn dX7_fails_53 rfl rfl
def fX7_fails_48 (a0 : Nat) (a1 : Int32) (s0 : Nat) (m : xMem) : Option (Int32 × xMem) := fX7_fails_49 a0 a1 s0 (0 : Int32) m
set_option maxRecDepth 4000 in
theorem fX7_fails_48_ok {a0 : Nat} {a1 : Int32} {d : Nat} (hd : 0 ≤ d) (ha0 : isReader a0) {s0 : Nat} {m : xMem} {r : (Int32 × xMem)} (hs0 : isReader s0) (h : fX7_fails_48 a0 a1 s0 m = some r) : xFx hh_74 cX7_fails d 48 [some (.ref a0), some (.int a1)] [.ref s0] (xLay m) 0 0 (some (.int r.1)) (xLay r.2) := by
  unfold fX7_fails_48 at h
  refine fx_iconst (x := 0) dX7_fails_48 rfl (by decide) ?_
  exact fX7_fails_49_ok hd ha0 hs0 h
def fX7_fails_0 (a0 : Nat) (a1 : Int32) (m : xMem) : Option (Int32 × xMem) := xLet (xPut m a0 5 a1) fun m1 => xLet (m1.1 a0 8) fun x2 => if x2 < (0 : Int32) then fX7_fails_48 a0 a1 a0 m1 else xLet (m1.1 a0 8) fun x4 => xLet (m1.1 a0 7) fun x5 => if x5 ≤ x4 then fX7_fails_48 a0 a1 a0 m1 else xLet (m1.1 a0 8) fun x7 => if (301 : Int32) ≤ x7 then fX7_fails_48 a0 a1 a0 m1 else xLet (m1.1 a0 8) fun x9 => bif xIn x9 301 then xLet (m1.1 (a0 + 4) x9.toNatClampNeg) fun x10 => fX7_fails_49 a0 a1 a0 x10 m1 else none
set_option maxRecDepth 4000 in
theorem fX7_fails_0_ok {a0 : Nat} {a1 : Int32} {d : Nat} (hd : 0 ≤ d) (ha0 : isReader a0) {m : xMem} {r : (Int32 × xMem)} (h : fX7_fails_0 a0 a1 m = some r) : xFx hh_74 cX7_fails d 0 [some (.ref a0), some (.int a1)] [] (xLay m) 0 0 (some (.int r.1)) (xLay r.2) := by
  unfold fX7_fails_0 at h
  refine fx_aload_n dX7_fails_0 rfl rfl ?_
  refine fx_iload_n dX7_fails_1 rfl rfl ?_
  obtain ⟨m1, hm1, h⟩ := xLet_el h
  refine gx_put dX7_fails_2 rfl fd_7_24 ha0.1 rfl rfl rfl hm1 ?_
  refine fx_aload_n dX7_fails_5 rfl rfl ?_
  refine fx_aload_n dX7_fails_6 rfl rfl ?_
  obtain ⟨x2, hx2, h⟩ := xLet_el h
  refine gx_get dX7_fails_7 rfl fd_7_37 ha0.1 rfl rfl hx2 ?_
  refine fx_if_lt (t := 48) dX7_fails_10 rfl rfl (fun hc3 => ?_) (fun hc3 => ?_)
  · rw [if_pos hc3] at h
    exact fX7_fails_48_ok hd ha0 ha0 h
  · rw [if_neg hc3] at h
    refine fx_aload_n dX7_fails_13 rfl rfl ?_
    obtain ⟨x4, hx4, h⟩ := xLet_el h
    refine gx_get dX7_fails_14 rfl fd_7_37 ha0.1 rfl rfl hx4 ?_
    refine fx_aload_n dX7_fails_17 rfl rfl ?_
    obtain ⟨x5, hx5, h⟩ := xLet_el h
    refine gx_get dX7_fails_18 rfl fd_7_48 ha0.1 rfl rfl hx5 ?_
    refine fx_icmp_ge (t := 48) dX7_fails_21 rfl rfl (fun hc6 => ?_) (fun hc6 => ?_)
    · rw [if_pos hc6] at h
      exact fX7_fails_48_ok hd ha0 ha0 h
    · rw [if_neg hc6] at h
      refine fx_aload_n dX7_fails_24 rfl rfl ?_
      obtain ⟨x7, hx7, h⟩ := xLet_el h
      refine gx_get dX7_fails_25 rfl fd_7_37 ha0.1 rfl rfl hx7 ?_
      refine fx_aload_n dX7_fails_28 rfl rfl ?_
      refine gx_getr dX7_fails_29 rfl fd_7_21 ha0.1 rfl rfl ?_
      refine gx_alen (t := 1) (y := 301) dX7_fails_32 rfl ha0.2.2.2.2 rfl (by decide) ?_
      refine fx_icmp_ge (t := 48) dX7_fails_33 rfl rfl (fun hc8 => ?_) (fun hc8 => ?_)
      · rw [if_pos hc8] at h
        exact fX7_fails_48_ok hd ha0 ha0 h
      · rw [if_neg hc8] at h
        refine fx_aload_n dX7_fails_36 rfl rfl ?_
        refine gx_getr dX7_fails_37 rfl fd_7_21 ha0.1 rfl rfl ?_
        refine fx_aload_n dX7_fails_40 rfl rfl ?_
        obtain ⟨x9, hx9, h⟩ := xLet_el h
        refine gx_get dX7_fails_41 rfl fd_7_37 ha0.1 rfl rfl hx9 ?_
        obtain ⟨hj11, h⟩ := xChk_el h
        obtain ⟨x10, hx10, h⟩ := xLet_el h
        refine gx_iaload dX7_fails_44 rfl ha0.2.2.2.2 hj11 hx10 ?_
        refine fx_goto (t := 49) dX7_fails_45 rfl rfl ?_
        exact fX7_fails_49_ok hd ha0 ha0 h
def fX7_fails (a0 : Nat) (a1 : Int32) (m : xMem) : Option (Int32 × xMem) := fX7_fails_0 a0 a1  m
theorem fX7_fails_ok {a0 : Nat} {a1 : Int32} {m : xMem} {r : (Int32 × xMem)} {d : Nat} (hd : 1 ≤ d) (ha0 : isReader a0) (h : fX7_fails a0 a1 m = some r) : xEx d 74 [.ref a0, .int a1] (xLay m) (some (.int r.1)) (xLay r.2) := by
  obtain ⟨d, rfl⟩ : ∃ q, d = q + 1 := ⟨d - 1, by omega⟩
  exact xEx_of me_74 rfl (fX7_fails_0_ok (d := d) (by omega) ha0 h)
def fX10_has_37 (a0 : Nat) (a1 : Int32) (m : xMem) : Option (Int32 × xMem) := some ((0 : Int32), m)
set_option maxRecDepth 4000 in
theorem fX10_has_37_ok {a0 : Nat} {a1 : Int32} {d : Nat} (hd : 0 ≤ d) (ha0 : isText a0) {o2 : Option Value} {m : xMem} {r : (Int32 × xMem)} (q2 : xNoD o2 = true) (h : fX10_has_37 a0 a1 m = some r) : xFx hh_75 cX10_has d 37 [some (.ref a0), some (.int a1), o2] [] (xLay m) 0 0 (some (.int r.1)) (xLay r.2) := by
  unfold fX10_has_37 at h
  refine fx_iconst (x := 0) dX10_has_37 rfl (by decide) ?_
  cases h
  exact fx_ireturn dX10_has_38 rfl rfl
def fX10_has_2 (a0 : Nat) (a1 : Int32) : Nat → Int32 → xMem → Option (Int32 × xMem)
  | 0, _, _ => none
  | fuel + 1, l2, m => xLet (m.1 a0 6) fun x1 => if x1 ≤ l2 then fX10_has_37 a0 a1 m else if (10 : Int32) ≤ l2 then fX10_has_37 a0 a1 m else bif xIn l2 10 then xLet (m.1 (a0 + 3) l2.toNatClampNeg) fun x4 => if ¬ x4 = a1 then xLet (l2 + (1 : Int32)) fun x7 => fX10_has_2 a0 a1 fuel x7 m else some ((1 : Int32), m) else none
set_option maxRecDepth 4000 in
theorem fX10_has_2_ok {a0 : Nat} {a1 : Int32} {d : Nat} (hd : 0 ≤ d) (ha0 : isText a0) : ∀ (fuel : Nat) (l2 : Int32) (m : xMem) (r : (Int32 × xMem)), fX10_has_2 a0 a1 fuel l2 m = some r → xFx hh_75 cX10_has d 2 [some (.ref a0), some (.int a1), some (.int l2)] [] (xLay m) 0 0 (some (.int r.1)) (xLay r.2) := by
  intro fuel
  induction fuel with
  | zero => intro l2  m r  h; cases h
  | succ fuel ih =>
    intro l2  m r  h
    unfold fX10_has_2 at h
    refine fx_iload_n dX10_has_2 rfl rfl ?_
    refine fx_aload_n dX10_has_3 rfl rfl ?_
    obtain ⟨x1, hx1, h⟩ := xLet_el h
    refine gx_get dX10_has_4 rfl fd_10_31 ha0.1 rfl rfl hx1 ?_
    refine fx_icmp_ge (t := 37) dX10_has_7 rfl rfl (fun hc2 => ?_) (fun hc2 => ?_)
    · rw [if_pos hc2] at h
      exact fX10_has_37_ok (o2 := some (.int l2)) hd ha0 rfl h
    · rw [if_neg hc2] at h
      refine fx_iload_n dX10_has_10 rfl rfl ?_
      refine fx_aload_n dX10_has_11 rfl rfl ?_
      refine gx_getr dX10_has_12 rfl fd_10_18 ha0.1 rfl rfl ?_
      refine gx_alen (t := 1) (y := 10) dX10_has_15 rfl ha0.2.2.2.1 rfl (by decide) ?_
      refine fx_icmp_ge (t := 37) dX10_has_16 rfl rfl (fun hc3 => ?_) (fun hc3 => ?_)
      · rw [if_pos hc3] at h
        exact fX10_has_37_ok (o2 := some (.int l2)) hd ha0 rfl h
      · rw [if_neg hc3] at h
        refine fx_aload_n dX10_has_19 rfl rfl ?_
        refine gx_getr dX10_has_20 rfl fd_10_18 ha0.1 rfl rfl ?_
        refine fx_iload_n dX10_has_23 rfl rfl ?_
        obtain ⟨hj5, h⟩ := xChk_el h
        obtain ⟨x4, hx4, h⟩ := xLet_el h
        refine gx_iaload dX10_has_24 rfl ha0.2.2.2.1 hj5 hx4 ?_
        refine fx_iload_n dX10_has_25 rfl rfl ?_
        refine fx_icmp_ne (t := 31) dX10_has_26 rfl rfl (fun hc6 => ?_) (fun hc6 => ?_)
        · rw [if_pos hc6] at h
          obtain ⟨x7, hx7, h⟩ := xLet_el h
          refine fx_iinc (ls2 := [some (.ref a0), some (.int a1), some (.int x7)]) dX10_has_31 rfl rfl rfl hx7 rfl ?_
          refine fx_goto (t := 2) dX10_has_34 rfl rfl ?_
          exact ih x7 m r h
        · rw [if_neg hc6] at h
          refine fx_iconst (x := 1) dX10_has_29 rfl (by decide) ?_
          cases h
          exact fx_ireturn dX10_has_30 rfl rfl
def fX10_has_0 (a0 : Nat) (a1 : Int32) (m : xMem) : Option (Int32 × xMem) := fX10_has_2 a0 a1 xFuel (0 : Int32) m
set_option maxRecDepth 4000 in
theorem fX10_has_0_ok {a0 : Nat} {a1 : Int32} {d : Nat} (hd : 0 ≤ d) (ha0 : isText a0) {o2 : Option Value} {m : xMem} {r : (Int32 × xMem)} (q2 : xNoD o2 = true) (h : fX10_has_0 a0 a1 m = some r) : xFx hh_75 cX10_has d 0 [some (.ref a0), some (.int a1), o2] [] (xLay m) 0 0 (some (.int r.1)) (xLay r.2) := by
  unfold fX10_has_0 at h
  refine fx_iconst (x := 0) dX10_has_0 rfl (by decide) ?_
  refine fx_istore_n (ls2 := [some (.ref a0), some (.int a1), some (.int (0 : Int32))]) dX10_has_1 rfl rfl rfl ?_
  exact fX10_has_2_ok hd ha0 xFuel (0 : Int32) m r h
def fX10_has (a0 : Nat) (a1 : Int32) (m : xMem) : Option (Int32 × xMem) := fX10_has_0 a0 a1  m
theorem fX10_has_ok {a0 : Nat} {a1 : Int32} {m : xMem} {r : (Int32 × xMem)} {d : Nat} (hd : 1 ≤ d) (ha0 : isText a0) (h : fX10_has a0 a1 m = some r) : xEx d 75 [.ref a0, .int a1] (xLay m) (some (.int r.1)) (xLay r.2) := by
  obtain ⟨d, rfl⟩ : ∃ q, d = q + 1 := ⟨d - 1, by omega⟩
  exact xEx_of me_75 rfl (fX10_has_0_ok (d := d) (o2 := none) (by omega) ha0 rfl h)
def fX10_open_39 (a0 : Nat) (a1 : Int32) (m : xMem) : Option xMem := some m
set_option maxRecDepth 4000 in
theorem fX10_open_39_ok {a0 : Nat} {a1 : Int32} {d : Nat} (hd : 0 ≤ d) (ha0 : isText a0) {m : xMem} {r : xMem} (h : fX10_open_39 a0 a1 m = some r) : xFx hh_76 cX10_open d 39 [some (.ref a0), some (.int a1)] [] (xLay m) 0 0 none (xLay r) := by
  unfold fX10_open_39 at h
  cases h
  exact fx_return dX10_open_39 rfl rfl
def fX10_open_0 (a0 : Nat) (a1 : Int32) (m : xMem) : Option xMem := xLet (m.1 a0 6) fun x1 => if x1 < (0 : Int32) then fX10_open_39 a0 a1 m else xLet (m.1 a0 6) fun x3 => if (10 : Int32) ≤ x3 then fX10_open_39 a0 a1 m else xLet (m.1 a0 6) fun x5 => bif xIn x5 10 then xLet (xPut m (a0 + 3) x5.toNatClampNeg a1) fun m6 => xLet (m6.1 a0 6) fun x8 => xLet (x8 + (1 : Int32)) fun x9 => xLet (xPut m6 a0 6 x9) fun m10 => fX10_open_39 a0 a1 m10 else none
set_option maxRecDepth 4000 in
theorem fX10_open_0_ok {a0 : Nat} {a1 : Int32} {d : Nat} (hd : 0 ≤ d) (ha0 : isText a0) {m : xMem} {r : xMem} (h : fX10_open_0 a0 a1 m = some r) : xFx hh_76 cX10_open d 0 [some (.ref a0), some (.int a1)] [] (xLay m) 0 0 none (xLay r) := by
  unfold fX10_open_0 at h
  refine fx_aload_n dX10_open_0 rfl rfl ?_
  obtain ⟨x1, hx1, h⟩ := xLet_el h
  refine gx_get dX10_open_1 rfl fd_10_31 ha0.1 rfl rfl hx1 ?_
  refine fx_if_lt (t := 39) dX10_open_4 rfl rfl (fun hc2 => ?_) (fun hc2 => ?_)
  · rw [if_pos hc2] at h
    exact fX10_open_39_ok hd ha0 h
  · rw [if_neg hc2] at h
    refine fx_aload_n dX10_open_7 rfl rfl ?_
    obtain ⟨x3, hx3, h⟩ := xLet_el h
    refine gx_get dX10_open_8 rfl fd_10_31 ha0.1 rfl rfl hx3 ?_
    refine fx_aload_n dX10_open_11 rfl rfl ?_
    refine gx_getr dX10_open_12 rfl fd_10_18 ha0.1 rfl rfl ?_
    refine gx_alen (t := 1) (y := 10) dX10_open_15 rfl ha0.2.2.2.1 rfl (by decide) ?_
    refine fx_icmp_ge (t := 39) dX10_open_16 rfl rfl (fun hc4 => ?_) (fun hc4 => ?_)
    · rw [if_pos hc4] at h
      exact fX10_open_39_ok hd ha0 h
    · rw [if_neg hc4] at h
      refine fx_aload_n dX10_open_19 rfl rfl ?_
      refine gx_getr dX10_open_20 rfl fd_10_18 ha0.1 rfl rfl ?_
      refine fx_aload_n dX10_open_23 rfl rfl ?_
      obtain ⟨x5, hx5, h⟩ := xLet_el h
      refine gx_get dX10_open_24 rfl fd_10_31 ha0.1 rfl rfl hx5 ?_
      refine fx_iload_n dX10_open_27 rfl rfl ?_
      obtain ⟨hj7, h⟩ := xChk_el h
      obtain ⟨m6, hm6, h⟩ := xLet_el h
      refine gx_iastore dX10_open_28 rfl ha0.2.2.2.1 hj7 hm6 ?_
      refine fx_aload_n dX10_open_29 rfl rfl ?_
      refine fx_dup dX10_open_30 rfl rfl ?_
      obtain ⟨x8, hx8, h⟩ := xLet_el h
      refine gx_get dX10_open_31 rfl fd_10_31 ha0.1 rfl rfl hx8 ?_
      refine fx_iconst (x := 1) dX10_open_34 rfl (by decide) ?_
      obtain ⟨x9, hx9, h⟩ := xLet_el h
      refine fx_iadd dX10_open_35 rfl hx9 ?_
      obtain ⟨m10, hm10, h⟩ := xLet_el h
      refine gx_put dX10_open_36 rfl fd_10_31 ha0.1 rfl rfl rfl hm10 ?_
      exact fX10_open_39_ok hd ha0 h
def fX10_open (a0 : Nat) (a1 : Int32) (m : xMem) : Option xMem := fX10_open_0 a0 a1  m
theorem fX10_open_ok {a0 : Nat} {a1 : Int32} {m : xMem} {r : xMem} {d : Nat} (hd : 1 ≤ d) (ha0 : isText a0) (h : fX10_open a0 a1 m = some r) : xEx d 76 [.ref a0, .int a1] (xLay m) none (xLay r) := by
  obtain ⟨d, rfl⟩ : ∃ q, d = q + 1 := ⟨d - 1, by omega⟩
  exact xEx_of me_76 rfl (fX10_open_0_ok (d := d) (by omega) ha0 h)
def fX10_add_49 (a0 : Nat) (a1 : Int32) (a2 : Int32) (m : xMem) : Option xMem := some m
set_option maxRecDepth 4000 in
theorem fX10_add_49_ok {a0 : Nat} {a1 : Int32} {a2 : Int32} {d : Nat} (hd : 0 ≤ d) (ha0 : isText a0) {m : xMem} {r : xMem} (h : fX10_add_49 a0 a1 a2 m = some r) : xFx hh_78 cX10_add d 49 [some (.ref a0), some (.int a1), some (.int a2)] [] (xLay m) 0 0 none (xLay r) := by
  unfold fX10_add_49 at h
  cases h
  exact fx_return dX10_add_49 rfl rfl
def fX10_add_0 (a0 : Nat) (a1 : Int32) (a2 : Int32) (m : xMem) : Option xMem := xLet (m.1 a0 5) fun x1 => if x1 < (0 : Int32) then fX10_add_49 a0 a1 a2 m else xLet (m.1 a0 5) fun x3 => if (300 : Int32) ≤ x3 then fX10_add_49 a0 a1 a2 m else xLet (m.1 a0 5) fun x5 => bif xIn x5 300 then xLet (xPut m (a0 + 1) x5.toNatClampNeg a1) fun m6 => xLet (m6.1 a0 5) fun x8 => bif xIn x8 300 then xLet (xPut m6 (a0 + 2) x8.toNatClampNeg a2) fun m9 => xLet (m9.1 a0 5) fun x11 => xLet (x11 + (1 : Int32)) fun x12 => xLet (xPut m9 a0 5 x12) fun m13 => fX10_add_49 a0 a1 a2 m13 else none else none
set_option maxRecDepth 4000 in
theorem fX10_add_0_ok {a0 : Nat} {a1 : Int32} {a2 : Int32} {d : Nat} (hd : 0 ≤ d) (ha0 : isText a0) {m : xMem} {r : xMem} (h : fX10_add_0 a0 a1 a2 m = some r) : xFx hh_78 cX10_add d 0 [some (.ref a0), some (.int a1), some (.int a2)] [] (xLay m) 0 0 none (xLay r) := by
  unfold fX10_add_0 at h
  refine fx_aload_n dX10_add_0 rfl rfl ?_
  obtain ⟨x1, hx1, h⟩ := xLet_el h
  refine gx_get dX10_add_1 rfl fd_10_27 ha0.1 rfl rfl hx1 ?_
  refine fx_if_lt (t := 49) dX10_add_4 rfl rfl (fun hc2 => ?_) (fun hc2 => ?_)
  · rw [if_pos hc2] at h
    exact fX10_add_49_ok hd ha0 h
  · rw [if_neg hc2] at h
    refine fx_aload_n dX10_add_7 rfl rfl ?_
    obtain ⟨x3, hx3, h⟩ := xLet_el h
    refine gx_get dX10_add_8 rfl fd_10_27 ha0.1 rfl rfl hx3 ?_
    refine fx_aload_n dX10_add_11 rfl rfl ?_
    refine gx_getr dX10_add_12 rfl fd_10_9 ha0.1 rfl rfl ?_
    refine gx_alen (t := 1) (y := 300) dX10_add_15 rfl ha0.2.1 rfl (by decide) ?_
    refine fx_icmp_ge (t := 49) dX10_add_16 rfl rfl (fun hc4 => ?_) (fun hc4 => ?_)
    · rw [if_pos hc4] at h
      exact fX10_add_49_ok hd ha0 h
    · rw [if_neg hc4] at h
      refine fx_aload_n dX10_add_19 rfl rfl ?_
      refine gx_getr dX10_add_20 rfl fd_10_9 ha0.1 rfl rfl ?_
      refine fx_aload_n dX10_add_23 rfl rfl ?_
      obtain ⟨x5, hx5, h⟩ := xLet_el h
      refine gx_get dX10_add_24 rfl fd_10_27 ha0.1 rfl rfl hx5 ?_
      refine fx_iload_n dX10_add_27 rfl rfl ?_
      obtain ⟨hj7, h⟩ := xChk_el h
      obtain ⟨m6, hm6, h⟩ := xLet_el h
      refine gx_iastore dX10_add_28 rfl ha0.2.1 hj7 hm6 ?_
      refine fx_aload_n dX10_add_29 rfl rfl ?_
      refine gx_getr dX10_add_30 rfl fd_10_15 ha0.1 rfl rfl ?_
      refine fx_aload_n dX10_add_33 rfl rfl ?_
      obtain ⟨x8, hx8, h⟩ := xLet_el h
      refine gx_get dX10_add_34 rfl fd_10_27 ha0.1 rfl rfl hx8 ?_
      refine fx_iload_n dX10_add_37 rfl rfl ?_
      obtain ⟨hj10, h⟩ := xChk_el h
      obtain ⟨m9, hm9, h⟩ := xLet_el h
      refine gx_iastore dX10_add_38 rfl ha0.2.2.1 hj10 hm9 ?_
      refine fx_aload_n dX10_add_39 rfl rfl ?_
      refine fx_dup dX10_add_40 rfl rfl ?_
      obtain ⟨x11, hx11, h⟩ := xLet_el h
      refine gx_get dX10_add_41 rfl fd_10_27 ha0.1 rfl rfl hx11 ?_
      refine fx_iconst (x := 1) dX10_add_44 rfl (by decide) ?_
      obtain ⟨x12, hx12, h⟩ := xLet_el h
      refine fx_iadd dX10_add_45 rfl hx12 ?_
      obtain ⟨m13, hm13, h⟩ := xLet_el h
      refine gx_put dX10_add_46 rfl fd_10_27 ha0.1 rfl rfl rfl hm13 ?_
      exact fX10_add_49_ok hd ha0 h
def fX10_add (a0 : Nat) (a1 : Int32) (a2 : Int32) (m : xMem) : Option xMem := fX10_add_0 a0 a1 a2  m
theorem fX10_add_ok {a0 : Nat} {a1 : Int32} {a2 : Int32} {m : xMem} {r : xMem} {d : Nat} (hd : 1 ≤ d) (ha0 : isText a0) (h : fX10_add a0 a1 a2 m = some r) : xEx d 78 [.ref a0, .int a1, .int a2] (xLay m) none (xLay r) := by
  obtain ⟨d, rfl⟩ : ∃ q, d = q + 1 := ⟨d - 1, by omega⟩
  exact xEx_of me_78 rfl (fX10_add_0_ok (d := d) (by omega) ha0 h)
def fX7_value_43 (a0 : Nat) (s0 : Int32) (m : xMem) : Option (Int32 × xMem) := some (s0, m)
set_option maxRecDepth 4000 in
theorem fX7_value_43_ok {a0 : Nat} {d : Nat} (hd : 0 ≤ d) (ha0 : isReader a0) {s0 : Int32} {m : xMem} {r : (Int32 × xMem)} (h : fX7_value_43 a0 s0 m = some r) : xFx hh_80 cX7_value d 43 [some (.ref a0)] [.int s0] (xLay m) 0 0 (some (.int r.1)) (xLay r.2) := by
  unfold fX7_value_43 at h
  cases h
  exact fx_ireturn dX7_value_43 rfl rfl
def fX7_value_42 (a0 : Nat) (m : xMem) : Option (Int32 × xMem) := fX7_value_43 a0 (0 : Int32) m
set_option maxRecDepth 4000 in
theorem fX7_value_42_ok {a0 : Nat} {d : Nat} (hd : 0 ≤ d) (ha0 : isReader a0) {m : xMem} {r : (Int32 × xMem)} (h : fX7_value_42 a0 m = some r) : xFx hh_80 cX7_value d 42 [some (.ref a0)] [] (xLay m) 0 0 (some (.int r.1)) (xLay r.2) := by
  unfold fX7_value_42 at h
  refine fx_iconst (x := 0) dX7_value_42 rfl (by decide) ?_
  exact fX7_value_43_ok hd ha0 h
def fX7_value_0 (a0 : Nat) (m : xMem) : Option (Int32 × xMem) := xLet (m.1 a0 8) fun x1 => if x1 < (0 : Int32) then fX7_value_42 a0 m else xLet (m.1 a0 8) fun x3 => xLet (m.1 a0 7) fun x4 => if x4 ≤ x3 then fX7_value_42 a0 m else xLet (m.1 a0 8) fun x6 => if (301 : Int32) ≤ x6 then fX7_value_42 a0 m else xLet (m.1 a0 8) fun x8 => bif xIn x8 301 then xLet (m.1 (a0 + 3) x8.toNatClampNeg) fun x9 => fX7_value_43 a0 x9 m else none
set_option maxRecDepth 4000 in
theorem fX7_value_0_ok {a0 : Nat} {d : Nat} (hd : 0 ≤ d) (ha0 : isReader a0) {m : xMem} {r : (Int32 × xMem)} (h : fX7_value_0 a0 m = some r) : xFx hh_80 cX7_value d 0 [some (.ref a0)] [] (xLay m) 0 0 (some (.int r.1)) (xLay r.2) := by
  unfold fX7_value_0 at h
  refine fx_aload_n dX7_value_0 rfl rfl ?_
  obtain ⟨x1, hx1, h⟩ := xLet_el h
  refine gx_get dX7_value_1 rfl fd_7_37 ha0.1 rfl rfl hx1 ?_
  refine fx_if_lt (t := 42) dX7_value_4 rfl rfl (fun hc2 => ?_) (fun hc2 => ?_)
  · rw [if_pos hc2] at h
    exact fX7_value_42_ok hd ha0 h
  · rw [if_neg hc2] at h
    refine fx_aload_n dX7_value_7 rfl rfl ?_
    obtain ⟨x3, hx3, h⟩ := xLet_el h
    refine gx_get dX7_value_8 rfl fd_7_37 ha0.1 rfl rfl hx3 ?_
    refine fx_aload_n dX7_value_11 rfl rfl ?_
    obtain ⟨x4, hx4, h⟩ := xLet_el h
    refine gx_get dX7_value_12 rfl fd_7_48 ha0.1 rfl rfl hx4 ?_
    refine fx_icmp_ge (t := 42) dX7_value_15 rfl rfl (fun hc5 => ?_) (fun hc5 => ?_)
    · rw [if_pos hc5] at h
      exact fX7_value_42_ok hd ha0 h
    · rw [if_neg hc5] at h
      refine fx_aload_n dX7_value_18 rfl rfl ?_
      obtain ⟨x6, hx6, h⟩ := xLet_el h
      refine gx_get dX7_value_19 rfl fd_7_37 ha0.1 rfl rfl hx6 ?_
      refine fx_aload_n dX7_value_22 rfl rfl ?_
      refine gx_getr dX7_value_23 rfl fd_7_18 ha0.1 rfl rfl ?_
      refine gx_alen (t := 1) (y := 301) dX7_value_26 rfl ha0.2.2.2.1 rfl (by decide) ?_
      refine fx_icmp_ge (t := 42) dX7_value_27 rfl rfl (fun hc7 => ?_) (fun hc7 => ?_)
      · rw [if_pos hc7] at h
        exact fX7_value_42_ok hd ha0 h
      · rw [if_neg hc7] at h
        refine fx_aload_n dX7_value_30 rfl rfl ?_
        refine gx_getr dX7_value_31 rfl fd_7_18 ha0.1 rfl rfl ?_
        refine fx_aload_n dX7_value_34 rfl rfl ?_
        obtain ⟨x8, hx8, h⟩ := xLet_el h
        refine gx_get dX7_value_35 rfl fd_7_37 ha0.1 rfl rfl hx8 ?_
        obtain ⟨hj10, h⟩ := xChk_el h
        obtain ⟨x9, hx9, h⟩ := xLet_el h
        refine gx_iaload dX7_value_38 rfl ha0.2.2.2.1 hj10 hx9 ?_
        refine fx_goto (t := 43) dX7_value_39 rfl rfl ?_
        exact fX7_value_43_ok hd ha0 h
def fX7_value (a0 : Nat) (m : xMem) : Option (Int32 × xMem) := fX7_value_0 a0  m
theorem fX7_value_ok {a0 : Nat} {m : xMem} {r : (Int32 × xMem)} {d : Nat} (hd : 1 ≤ d) (ha0 : isReader a0) (h : fX7_value a0 m = some r) : xEx d 80 [.ref a0] (xLay m) (some (.int r.1)) (xLay r.2) := by
  obtain ⟨d, rfl⟩ : ∃ q, d = q + 1 := ⟨d - 1, by omega⟩
  exact xEx_of me_80 rfl (fX7_value_0_ok (d := d) (by omega) ha0 h)
def fX7_readOneP_88 (g79 : Nat → Nat → Int32 → xMem → Option (Int32 × xMem)) (g77 : Nat → Nat → Int32 → xMem → Option (Int32 × xMem)) (a0 : Nat) (a1 : Nat) (a2 : Int32) (l3 : Int32) (m : xMem) : Option (Int32 × xMem) := (fX7_value a0 m).bind fun p1 => (fX10_add a1 l3 p1.1 p1.2).bind fun p2 => xLet (p2.1 a0 8) fun x3 => xLet (x3 + (1 : Int32)) fun x4 => xLet (xPut p2 a0 8 x4) fun m5 => some ((1 : Int32), m5)
set_option maxRecDepth 4000 in
theorem fX7_readOneP_88_ok {g79 : Nat → Nat → Int32 → xMem → Option (Int32 × xMem)} {g77 : Nat → Nat → Int32 → xMem → Option (Int32 × xMem)} {a0 : Nat} {a1 : Nat} {a2 : Int32} {d : Nat} (hd : 1 ≤ d) (hg79 : ∀ (a0 a1 : Nat) (a2 : Int32) (m : xMem) (r : Int32 × xMem), isReader a0 → isText a1 → g79 a0 a1 a2 m = some r → xEx d 79 [.ref a0, .ref a1, .int a2] (xLay m) (some (.int r.1)) (xLay r.2) ) (hg77 : ∀ (a0 a1 : Nat) (a2 : Int32) (m : xMem) (r : Int32 × xMem), isReader a0 → isText a1 → g77 a0 a1 a2 m = some r → xEx d 77 [.ref a0, .ref a1, .int a2] (xLay m) (some (.int r.1)) (xLay r.2) ) (ha0 : isReader a0) (ha1 : isText a1) {l3 : Int32} {o4 : Option Value} {m : xMem} {r : (Int32 × xMem)} (q4 : xNoD o4 = true) (h : fX7_readOneP_88 g79 g77 a0 a1 a2 l3 m = some r) : xFx hh_79 cX7_readOne d 88 [some (.ref a0), some (.ref a1), some (.int a2), some (.int l3), o4] [] (xLay m) 0 0 (some (.int r.1)) (xLay r.2) := by
  unfold fX7_readOneP_88 at h
  refine fx_aload_n dX7_readOne_88 rfl rfl ?_
  refine fx_iload_n dX7_readOne_89 rfl rfl ?_
  refine fx_aload_n dX7_readOne_90 rfl rfl ?_
  obtain ⟨p1, ep1, h⟩ := xBind_el h
  refine gx_callv (as := []) (r := [.int l3, .ref a1]) rfl dX7_readOne_91 ca_7_142 rfl me_80 rfl rfl rfl rfl (ha0.1) rfl (fX7_value_ok (d := d) (by omega) ha0 ep1) rfl rfl ?_
  obtain ⟨p2, ep2, h⟩ := xBind_el h
  refine gx_callv (as := [.int l3, .int p1.1]) (r := []) rfl dX7_readOne_94 ca_7_130 rfl me_78 rfl rfl rfl rfl (ha1.1) rfl (fX10_add_ok (d := d) (by omega) ha1 ep2) rfl rfl ?_
  refine fx_aload_n dX7_readOne_97 rfl rfl ?_
  refine fx_dup dX7_readOne_98 rfl rfl ?_
  obtain ⟨x3, hx3, h⟩ := xLet_el h
  refine gx_get dX7_readOne_99 rfl fd_7_37 ha0.1 rfl rfl hx3 ?_
  refine fx_iconst (x := 1) dX7_readOne_102 rfl (by decide) ?_
  obtain ⟨x4, hx4, h⟩ := xLet_el h
  refine fx_iadd dX7_readOne_103 rfl hx4 ?_
  obtain ⟨m5, hm5, h⟩ := xLet_el h
  refine gx_put dX7_readOne_104 rfl fd_7_37 ha0.1 rfl rfl rfl hm5 ?_
  refine fx_iconst (x := 1) dX7_readOne_107 rfl (by decide) ?_
  cases h
  exact fx_ireturn dX7_readOne_108 rfl rfl
def fX7_readOneP_79 (g79 : Nat → Nat → Int32 → xMem → Option (Int32 × xMem)) (g77 : Nat → Nat → Int32 → xMem → Option (Int32 × xMem)) (a0 : Nat) (a1 : Nat) (a2 : Int32) (l3 : Int32) (s0 : Int32) (s1 : Int32) (m : xMem) : Option (Int32 × xMem) := if s0 = s1 then fX7_readOneP_88 g79 g77 a0 a1 a2 l3 m else (fX7_fails a0 (5 : Int32) m).bind fun p2 => bif (decide (p2.1 = 0) || decide (p2.1 = 1)) then some (p2.1, p2.2) else none
set_option maxRecDepth 4000 in
theorem fX7_readOneP_79_ok {g79 : Nat → Nat → Int32 → xMem → Option (Int32 × xMem)} {g77 : Nat → Nat → Int32 → xMem → Option (Int32 × xMem)} {a0 : Nat} {a1 : Nat} {a2 : Int32} {d : Nat} (hd : 1 ≤ d) (hg79 : ∀ (a0 a1 : Nat) (a2 : Int32) (m : xMem) (r : Int32 × xMem), isReader a0 → isText a1 → g79 a0 a1 a2 m = some r → xEx d 79 [.ref a0, .ref a1, .int a2] (xLay m) (some (.int r.1)) (xLay r.2) ) (hg77 : ∀ (a0 a1 : Nat) (a2 : Int32) (m : xMem) (r : Int32 × xMem), isReader a0 → isText a1 → g77 a0 a1 a2 m = some r → xEx d 77 [.ref a0, .ref a1, .int a2] (xLay m) (some (.int r.1)) (xLay r.2) ) (ha0 : isReader a0) (ha1 : isText a1) {l3 : Int32} {s0 : Int32} {s1 : Int32} {o4 : Option Value} {m : xMem} {r : (Int32 × xMem)} (q4 : xNoD o4 = true) (h : fX7_readOneP_79 g79 g77 a0 a1 a2 l3 s0 s1 m = some r) : xFx hh_79 cX7_readOne d 79 [some (.ref a0), some (.ref a1), some (.int a2), some (.int l3), o4] [.int s1, .int s0] (xLay m) 0 0 (some (.int r.1)) (xLay r.2) := by
  unfold fX7_readOneP_79 at h
  refine fx_icmp_eq (t := 88) dX7_readOne_79 rfl rfl (fun hc1 => ?_) (fun hc1 => ?_)
  · rw [if_pos hc1] at h
    exact fX7_readOneP_88_ok (o4 := o4) hd hg79 hg77 ha0 ha1 q4 h
  · rw [if_neg hc1] at h
    refine fx_aload_n dX7_readOne_82 rfl rfl ?_
    refine fx_iconst (x := 5) dX7_readOne_83 rfl (by decide) ?_
    obtain ⟨p2, ep2, h⟩ := xBind_el h
    refine gx_callv (as := [.int (5 : Int32)]) (r := []) rfl dX7_readOne_84 ca_7_107 rfl me_74 rfl rfl rfl rfl (ha0.1) rfl (fX7_fails_ok (d := d) (by omega) ha0 ep2) rfl rfl ?_
    obtain ⟨hb3, h⟩ := xChk_el h
    cases h
    exact fx_ireturn dX7_readOne_87 rfl (by show ((decide _ || decide _) && _) = true; rw [hb3]; rfl)
def fX7_readOneP_50 (g79 : Nat → Nat → Int32 → xMem → Option (Int32 × xMem)) (g77 : Nat → Nat → Int32 → xMem → Option (Int32 × xMem)) (a0 : Nat) (a1 : Nat) (a2 : Int32) (l3 : Int32) (s0 : Int32) (m : xMem) : Option (Int32 × xMem) := if ¬ l3 = (26 : Int32) then fX7_readOneP_88 g79 g77 a0 a1 a2 l3 m else (fX7_value a0 m).bind fun p2 => if p2.1 = (0 : Int32) then fX7_readOneP_88 g79 g77 a0 a1 a2 l3 p2.2 else xLet (p2.2.1 a0 9) fun x4 => if ¬ x4 = (0 : Int32) then fX7_readOneP_79 g79 g77 a0 a1 a2 l3 s0 (0 : Int32) p2.2 else fX7_readOneP_79 g79 g77 a0 a1 a2 l3 s0 (1 : Int32) p2.2
set_option maxRecDepth 4000 in
theorem fX7_readOneP_50_ok {g79 : Nat → Nat → Int32 → xMem → Option (Int32 × xMem)} {g77 : Nat → Nat → Int32 → xMem → Option (Int32 × xMem)} {a0 : Nat} {a1 : Nat} {a2 : Int32} {d : Nat} (hd : 1 ≤ d) (hg79 : ∀ (a0 a1 : Nat) (a2 : Int32) (m : xMem) (r : Int32 × xMem), isReader a0 → isText a1 → g79 a0 a1 a2 m = some r → xEx d 79 [.ref a0, .ref a1, .int a2] (xLay m) (some (.int r.1)) (xLay r.2) ) (hg77 : ∀ (a0 a1 : Nat) (a2 : Int32) (m : xMem) (r : Int32 × xMem), isReader a0 → isText a1 → g77 a0 a1 a2 m = some r → xEx d 77 [.ref a0, .ref a1, .int a2] (xLay m) (some (.int r.1)) (xLay r.2) ) (ha0 : isReader a0) (ha1 : isText a1) {l3 : Int32} {s0 : Int32} {o4 : Option Value} {m : xMem} {r : (Int32 × xMem)} (q4 : xNoD o4 = true) (h : fX7_readOneP_50 g79 g77 a0 a1 a2 l3 s0 m = some r) : xFx hh_79 cX7_readOne d 50 [some (.ref a0), some (.ref a1), some (.int a2), some (.int l3), o4] [.int s0] (xLay m) 0 0 (some (.int r.1)) (xLay r.2) := by
  unfold fX7_readOneP_50 at h
  refine fx_istore (ls2 := [some (.ref a0), some (.ref a1), some (.int a2), some (.int l3), some (.int s0)]) dX7_readOne_50 rfl rfl rfl ?_
  refine fx_iload_n dX7_readOne_52 rfl rfl ?_
  refine fx_bipush (x := 26) dX7_readOne_53 rfl (by decide) ?_
  refine fx_icmp_ne (t := 88) dX7_readOne_55 rfl rfl (fun hc1 => ?_) (fun hc1 => ?_)
  · rw [if_pos hc1] at h
    exact fX7_readOneP_88_ok (o4 := some (.int s0)) hd hg79 hg77 ha0 ha1 rfl h
  · rw [if_neg hc1] at h
    refine fx_aload_n dX7_readOne_58 rfl rfl ?_
    obtain ⟨p2, ep2, h⟩ := xBind_el h
    refine gx_callv (as := []) (r := []) rfl dX7_readOne_59 ca_7_142 rfl me_80 rfl rfl rfl rfl (ha0.1) rfl (fX7_value_ok (d := d) (by omega) ha0 ep2) rfl rfl ?_
    refine fx_if_eq (t := 88) dX7_readOne_62 rfl rfl (fun hc3 => ?_) (fun hc3 => ?_)
    · rw [if_pos hc3] at h
      exact fX7_readOneP_88_ok (o4 := some (.int s0)) hd hg79 hg77 ha0 ha1 rfl h
    · rw [if_neg hc3] at h
      refine fx_iload dX7_readOne_65 rfl rfl ?_
      refine fx_aload_n dX7_readOne_67 rfl rfl ?_
      obtain ⟨x4, hx4, h⟩ := xLet_el h
      refine gx_get dX7_readOne_68 rfl fd_7_104 ha0.1 rfl rfl hx4 ?_
      refine fx_if_ne (t := 78) dX7_readOne_71 rfl rfl (fun hc5 => ?_) (fun hc5 => ?_)
      · rw [if_pos hc5] at h
        refine fx_iconst (x := 0) dX7_readOne_78 rfl (by decide) ?_
        exact fX7_readOneP_79_ok (o4 := some (.int s0)) hd hg79 hg77 ha0 ha1 rfl h
      · rw [if_neg hc5] at h
        refine fx_iconst (x := 1) dX7_readOne_74 rfl (by decide) ?_
        refine fx_goto (t := 79) dX7_readOne_75 rfl rfl ?_
        exact fX7_readOneP_79_ok (o4 := some (.int s0)) hd hg79 hg77 ha0 ha1 rfl h
def fX7_readOneP_37 (g79 : Nat → Nat → Int32 → xMem → Option (Int32 × xMem)) (g77 : Nat → Nat → Int32 → xMem → Option (Int32 × xMem)) (a0 : Nat) (a1 : Nat) (a2 : Int32) (l3 : Int32) (m : xMem) : Option (Int32 × xMem) := (fX7_value a0 m).bind fun p1 => if p1.1 < (5 : Int32) then fX7_readOneP_50 g79 g77 a0 a1 a2 l3 (0 : Int32) p1.2 else fX7_readOneP_50 g79 g77 a0 a1 a2 l3 (1 : Int32) p1.2
set_option maxRecDepth 4000 in
theorem fX7_readOneP_37_ok {g79 : Nat → Nat → Int32 → xMem → Option (Int32 × xMem)} {g77 : Nat → Nat → Int32 → xMem → Option (Int32 × xMem)} {a0 : Nat} {a1 : Nat} {a2 : Int32} {d : Nat} (hd : 1 ≤ d) (hg79 : ∀ (a0 a1 : Nat) (a2 : Int32) (m : xMem) (r : Int32 × xMem), isReader a0 → isText a1 → g79 a0 a1 a2 m = some r → xEx d 79 [.ref a0, .ref a1, .int a2] (xLay m) (some (.int r.1)) (xLay r.2) ) (hg77 : ∀ (a0 a1 : Nat) (a2 : Int32) (m : xMem) (r : Int32 × xMem), isReader a0 → isText a1 → g77 a0 a1 a2 m = some r → xEx d 77 [.ref a0, .ref a1, .int a2] (xLay m) (some (.int r.1)) (xLay r.2) ) (ha0 : isReader a0) (ha1 : isText a1) {l3 : Int32} {o4 : Option Value} {m : xMem} {r : (Int32 × xMem)} (q4 : xNoD o4 = true) (h : fX7_readOneP_37 g79 g77 a0 a1 a2 l3 m = some r) : xFx hh_79 cX7_readOne d 37 [some (.ref a0), some (.ref a1), some (.int a2), some (.int l3), o4] [] (xLay m) 0 0 (some (.int r.1)) (xLay r.2) := by
  unfold fX7_readOneP_37 at h
  refine fx_aload_n dX7_readOne_37 rfl rfl ?_
  obtain ⟨p1, ep1, h⟩ := xBind_el h
  refine gx_callv (as := []) (r := []) rfl dX7_readOne_38 ca_7_142 rfl me_80 rfl rfl rfl rfl (ha0.1) rfl (fX7_value_ok (d := d) (by omega) ha0 ep1) rfl rfl ?_
  refine fx_iconst (x := 5) dX7_readOne_41 rfl (by decide) ?_
  refine fx_icmp_lt (t := 49) dX7_readOne_42 rfl rfl (fun hc2 => ?_) (fun hc2 => ?_)
  · rw [if_pos hc2] at h
    refine fx_iconst (x := 0) dX7_readOne_49 rfl (by decide) ?_
    exact fX7_readOneP_50_ok (o4 := o4) hd hg79 hg77 ha0 ha1 q4 h
  · rw [if_neg hc2] at h
    refine fx_iconst (x := 1) dX7_readOne_45 rfl (by decide) ?_
    refine fx_goto (t := 50) dX7_readOne_46 rfl rfl ?_
    exact fX7_readOneP_50_ok (o4 := o4) hd hg79 hg77 ha0 ha1 q4 h
def fX7_readOneP_16 (g79 : Nat → Nat → Int32 → xMem → Option (Int32 × xMem)) (g77 : Nat → Nat → Int32 → xMem → Option (Int32 × xMem)) (a0 : Nat) (a1 : Nat) (a2 : Int32) (l3 : Int32) (m : xMem) : Option (Int32 × xMem) := if ¬ l3 = (2 : Int32) then fX7_readOneP_37 g79 g77 a0 a1 a2 l3 m else (fX7_value a0 m).bind fun p2 => if p2.1 ≤ (9999 : Int32) then fX7_readOneP_37 g79 g77 a0 a1 a2 l3 p2.2 else (fX7_fails a0 (2 : Int32) p2.2).bind fun p4 => bif (decide (p4.1 = 0) || decide (p4.1 = 1)) then some (p4.1, p4.2) else none
set_option maxRecDepth 4000 in
theorem fX7_readOneP_16_ok {g79 : Nat → Nat → Int32 → xMem → Option (Int32 × xMem)} {g77 : Nat → Nat → Int32 → xMem → Option (Int32 × xMem)} {a0 : Nat} {a1 : Nat} {a2 : Int32} {d : Nat} (hd : 1 ≤ d) (hg79 : ∀ (a0 a1 : Nat) (a2 : Int32) (m : xMem) (r : Int32 × xMem), isReader a0 → isText a1 → g79 a0 a1 a2 m = some r → xEx d 79 [.ref a0, .ref a1, .int a2] (xLay m) (some (.int r.1)) (xLay r.2) ) (hg77 : ∀ (a0 a1 : Nat) (a2 : Int32) (m : xMem) (r : Int32 × xMem), isReader a0 → isText a1 → g77 a0 a1 a2 m = some r → xEx d 77 [.ref a0, .ref a1, .int a2] (xLay m) (some (.int r.1)) (xLay r.2) ) (ha0 : isReader a0) (ha1 : isText a1) {l3 : Int32} {o4 : Option Value} {m : xMem} {r : (Int32 × xMem)} (q4 : xNoD o4 = true) (h : fX7_readOneP_16 g79 g77 a0 a1 a2 l3 m = some r) : xFx hh_79 cX7_readOne d 16 [some (.ref a0), some (.ref a1), some (.int a2), some (.int l3), o4] [] (xLay m) 0 0 (some (.int r.1)) (xLay r.2) := by
  unfold fX7_readOneP_16 at h
  refine fx_iload_n dX7_readOne_16 rfl rfl ?_
  refine fx_iconst (x := 2) dX7_readOne_17 rfl (by decide) ?_
  refine fx_icmp_ne (t := 37) dX7_readOne_18 rfl rfl (fun hc1 => ?_) (fun hc1 => ?_)
  · rw [if_pos hc1] at h
    exact fX7_readOneP_37_ok (o4 := o4) hd hg79 hg77 ha0 ha1 q4 h
  · rw [if_neg hc1] at h
    refine fx_aload_n dX7_readOne_21 rfl rfl ?_
    obtain ⟨p2, ep2, h⟩ := xBind_el h
    refine gx_callv (as := []) (r := []) rfl dX7_readOne_22 ca_7_142 rfl me_80 rfl rfl rfl rfl (ha0.1) rfl (fX7_value_ok (d := d) (by omega) ha0 ep2) rfl rfl ?_
    refine fx_sipush (x := 9999) dX7_readOne_25 rfl (by decide) ?_
    refine fx_icmp_le (t := 37) dX7_readOne_28 rfl rfl (fun hc3 => ?_) (fun hc3 => ?_)
    · rw [if_pos hc3] at h
      exact fX7_readOneP_37_ok (o4 := o4) hd hg79 hg77 ha0 ha1 q4 h
    · rw [if_neg hc3] at h
      refine fx_aload_n dX7_readOne_31 rfl rfl ?_
      refine fx_iconst (x := 2) dX7_readOne_32 rfl (by decide) ?_
      obtain ⟨p4, ep4, h⟩ := xBind_el h
      refine gx_callv (as := [.int (2 : Int32)]) (r := []) rfl dX7_readOne_33 ca_7_107 rfl me_74 rfl rfl rfl rfl (ha0.1) rfl (fX7_fails_ok (d := d) (by omega) ha0 ep4) rfl rfl ?_
      obtain ⟨hb5, h⟩ := xChk_el h
      cases h
      exact fx_ireturn dX7_readOne_36 rfl (by show ((decide _ || decide _) && _) = true; rw [hb5]; rfl)
def fX7_readOneP_205 (g79 : Nat → Nat → Int32 → xMem → Option (Int32 × xMem)) (g77 : Nat → Nat → Int32 → xMem → Option (Int32 × xMem)) (a0 : Nat) (a1 : Nat) (a2 : Int32) (l4 : Int32) (m : xMem) : Option (Int32 × xMem) := xLet (m.1 a0 8) fun x1 => xLet (x1 + (1 : Int32)) fun x2 => xLet (xPut m a0 8 x2) fun m3 => bif (decide (l4 = 0) || decide (l4 = 1)) then some (l4, m3) else none
set_option maxRecDepth 4000 in
theorem fX7_readOneP_205_ok {g79 : Nat → Nat → Int32 → xMem → Option (Int32 × xMem)} {g77 : Nat → Nat → Int32 → xMem → Option (Int32 × xMem)} {a0 : Nat} {a1 : Nat} {a2 : Int32} {d : Nat} (hd : 1 ≤ d) (hg79 : ∀ (a0 a1 : Nat) (a2 : Int32) (m : xMem) (r : Int32 × xMem), isReader a0 → isText a1 → g79 a0 a1 a2 m = some r → xEx d 79 [.ref a0, .ref a1, .int a2] (xLay m) (some (.int r.1)) (xLay r.2) ) (hg77 : ∀ (a0 a1 : Nat) (a2 : Int32) (m : xMem) (r : Int32 × xMem), isReader a0 → isText a1 → g77 a0 a1 a2 m = some r → xEx d 77 [.ref a0, .ref a1, .int a2] (xLay m) (some (.int r.1)) (xLay r.2) ) (ha0 : isReader a0) (ha1 : isText a1) {l4 : Int32} {o3 : Option Value} {m : xMem} {r : (Int32 × xMem)} (q3 : xNoD o3 = true) (h : fX7_readOneP_205 g79 g77 a0 a1 a2 l4 m = some r) : xFx hh_79 cX7_readOne d 205 [some (.ref a0), some (.ref a1), some (.int a2), o3, some (.int l4)] [] (xLay m) 0 0 (some (.int r.1)) (xLay r.2) := by
  unfold fX7_readOneP_205 at h
  refine fx_aload_n dX7_readOne_205 rfl rfl ?_
  refine fx_dup dX7_readOne_206 rfl rfl ?_
  obtain ⟨x1, hx1, h⟩ := xLet_el h
  refine gx_get dX7_readOne_207 rfl fd_7_37 ha0.1 rfl rfl hx1 ?_
  refine fx_iconst (x := 1) dX7_readOne_210 rfl (by decide) ?_
  obtain ⟨x2, hx2, h⟩ := xLet_el h
  refine fx_iadd dX7_readOne_211 rfl hx2 ?_
  obtain ⟨m3, hm3, h⟩ := xLet_el h
  refine gx_put dX7_readOne_212 rfl fd_7_37 ha0.1 rfl rfl rfl hm3 ?_
  refine fx_iload dX7_readOne_215 rfl rfl ?_
  obtain ⟨hb4, h⟩ := xChk_el h
  cases h
  exact fx_ireturn dX7_readOne_217 rfl (by show ((decide _ || decide _) && _) = true; rw [hb4]; rfl)
def fX7_readOneP_127 (g79 : Nat → Nat → Int32 → xMem → Option (Int32 × xMem)) (g77 : Nat → Nat → Int32 → xMem → Option (Int32 × xMem)) (a0 : Nat) (a1 : Nat) (a2 : Int32) (l3 : Int32) (m : xMem) : Option (Int32 × xMem) := if a2 < (8 : Int32) then xLet (m.1 a0 8) fun x2 => xLet (x2 + (1 : Int32)) fun x3 => xLet (xPut m a0 8 x3) fun m4 => if ¬ l3 = (10 : Int32) then xLet (a2 + (1 : Int32)) fun x6 => (g77 a0 a1 x6 m4).bind fun p7 => if p7.1 = (0 : Int32) then fX7_readOneP_205 g79 g77 a0 a1 a2 p7.1 p7.2 else (fX7_kind a0 p7.2).bind fun p9 => if p9.1 = (14 : Int32) then fX7_readOneP_205 g79 g77 a0 a1 a2 p7.1 p9.2 else (fX7_fails a0 (1 : Int32) p9.2).bind fun p11 => bif (decide (p11.1 = 0) || decide (p11.1 = 1)) then some (p11.1, p11.2) else none else xLet (a2 + (1 : Int32)) fun x13 => (g79 a0 a1 x13 m4).bind fun p14 => (fX10_add a1 (16 : Int32) (0 : Int32) p14.2).bind fun p15 => bif (decide (p14.1 = 0) || decide (p14.1 = 1)) then some (p14.1, p15) else none else (fX7_fails a0 (3 : Int32) m).bind fun p17 => bif (decide (p17.1 = 0) || decide (p17.1 = 1)) then some (p17.1, p17.2) else none
set_option maxRecDepth 4000 in
theorem fX7_readOneP_127_ok {g79 : Nat → Nat → Int32 → xMem → Option (Int32 × xMem)} {g77 : Nat → Nat → Int32 → xMem → Option (Int32 × xMem)} {a0 : Nat} {a1 : Nat} {a2 : Int32} {d : Nat} (hd : 1 ≤ d) (hg79 : ∀ (a0 a1 : Nat) (a2 : Int32) (m : xMem) (r : Int32 × xMem), isReader a0 → isText a1 → g79 a0 a1 a2 m = some r → xEx d 79 [.ref a0, .ref a1, .int a2] (xLay m) (some (.int r.1)) (xLay r.2) ) (hg77 : ∀ (a0 a1 : Nat) (a2 : Int32) (m : xMem) (r : Int32 × xMem), isReader a0 → isText a1 → g77 a0 a1 a2 m = some r → xEx d 77 [.ref a0, .ref a1, .int a2] (xLay m) (some (.int r.1)) (xLay r.2) ) (ha0 : isReader a0) (ha1 : isText a1) {l3 : Int32} {o4 : Option Value} {m : xMem} {r : (Int32 × xMem)} (q4 : xNoD o4 = true) (h : fX7_readOneP_127 g79 g77 a0 a1 a2 l3 m = some r) : xFx hh_79 cX7_readOne d 127 [some (.ref a0), some (.ref a1), some (.int a2), some (.int l3), o4] [] (xLay m) 0 0 (some (.int r.1)) (xLay r.2) := by
  unfold fX7_readOneP_127 at h
  refine fx_iload_n dX7_readOne_127 rfl rfl ?_
  refine fx_bipush (x := 8) dX7_readOne_128 rfl (by decide) ?_
  refine fx_icmp_lt (t := 139) dX7_readOne_130 rfl rfl (fun hc1 => ?_) (fun hc1 => ?_)
  · rw [if_pos hc1] at h
    refine fx_aload_n dX7_readOne_139 rfl rfl ?_
    refine fx_dup dX7_readOne_140 rfl rfl ?_
    obtain ⟨x2, hx2, h⟩ := xLet_el h
    refine gx_get dX7_readOne_141 rfl fd_7_37 ha0.1 rfl rfl hx2 ?_
    refine fx_iconst (x := 1) dX7_readOne_144 rfl (by decide) ?_
    obtain ⟨x3, hx3, h⟩ := xLet_el h
    refine fx_iadd dX7_readOne_145 rfl hx3 ?_
    obtain ⟨m4, hm4, h⟩ := xLet_el h
    refine gx_put dX7_readOne_146 rfl fd_7_37 ha0.1 rfl rfl rfl hm4 ?_
    refine fx_iload_n dX7_readOne_149 rfl rfl ?_
    refine fx_bipush (x := 10) dX7_readOne_150 rfl (by decide) ?_
    refine fx_icmp_ne (t := 175) dX7_readOne_152 rfl rfl (fun hc5 => ?_) (fun hc5 => ?_)
    · rw [if_pos hc5] at h
      refine fx_aload_n dX7_readOne_175 rfl rfl ?_
      refine fx_aload_n dX7_readOne_176 rfl rfl ?_
      refine fx_iload_n dX7_readOne_177 rfl rfl ?_
      refine fx_iconst (x := 1) dX7_readOne_178 rfl (by decide) ?_
      obtain ⟨x6, hx6, h⟩ := xLet_el h
      refine fx_iadd dX7_readOne_179 rfl hx6 ?_
      obtain ⟨p7, ep7, h⟩ := xBind_el h
      refine gx_callv (as := [.ref a1, .int x6]) (r := []) rfl dX7_readOne_180 ca_7_117 rfl me_77 rfl rfl rfl rfl (ha0.1) rfl (hg77 _ _ _ _ _ ha0 ha1 ep7) rfl rfl ?_
      refine fx_istore (ls2 := [some (.ref a0), some (.ref a1), some (.int a2), some (.int l3), some (.int p7.1)]) dX7_readOne_183 rfl rfl rfl ?_
      refine fx_iload dX7_readOne_185 rfl rfl ?_
      refine fx_if_eq (t := 205) dX7_readOne_187 rfl rfl (fun hc8 => ?_) (fun hc8 => ?_)
      · rw [if_pos hc8] at h
        exact fX7_readOneP_205_ok (o3 := some (.int l3)) hd hg79 hg77 ha0 ha1 rfl h
      · rw [if_neg hc8] at h
        refine fx_aload_n dX7_readOne_190 rfl rfl ?_
        obtain ⟨p9, ep9, h⟩ := xBind_el h
        refine gx_callv (as := []) (r := []) rfl dX7_readOne_191 ca_7_51 rfl me_72 rfl rfl rfl rfl (ha0.1) rfl (fX7_kind_ok (d := d) (by omega) ha0 ep9) rfl rfl ?_
        refine fx_bipush (x := 14) dX7_readOne_194 rfl (by decide) ?_
        refine fx_icmp_eq (t := 205) dX7_readOne_196 rfl rfl (fun hc10 => ?_) (fun hc10 => ?_)
        · rw [if_pos hc10] at h
          exact fX7_readOneP_205_ok (o3 := some (.int l3)) hd hg79 hg77 ha0 ha1 rfl h
        · rw [if_neg hc10] at h
          refine fx_aload_n dX7_readOne_199 rfl rfl ?_
          refine fx_iconst (x := 1) dX7_readOne_200 rfl (by decide) ?_
          obtain ⟨p11, ep11, h⟩ := xBind_el h
          refine gx_callv (as := [.int (1 : Int32)]) (r := []) rfl dX7_readOne_201 ca_7_107 rfl me_74 rfl rfl rfl rfl (ha0.1) rfl (fX7_fails_ok (d := d) (by omega) ha0 ep11) rfl rfl ?_
          obtain ⟨hb12, h⟩ := xChk_el h
          cases h
          exact fx_ireturn dX7_readOne_204 rfl (by show ((decide _ || decide _) && _) = true; rw [hb12]; rfl)
    · rw [if_neg hc5] at h
      refine fx_aload_n dX7_readOne_155 rfl rfl ?_
      refine fx_aload_n dX7_readOne_156 rfl rfl ?_
      refine fx_iload_n dX7_readOne_157 rfl rfl ?_
      refine fx_iconst (x := 1) dX7_readOne_158 rfl (by decide) ?_
      obtain ⟨x13, hx13, h⟩ := xLet_el h
      refine fx_iadd dX7_readOne_159 rfl hx13 ?_
      obtain ⟨p14, ep14, h⟩ := xBind_el h
      refine gx_callv (as := [.ref a1, .int x13]) (r := []) rfl dX7_readOne_160 ca_7_139 rfl me_79 rfl rfl rfl rfl (ha0.1) rfl (hg79 _ _ _ _ _ ha0 ha1 ep14) rfl rfl ?_
      refine fx_istore (ls2 := [some (.ref a0), some (.ref a1), some (.int a2), some (.int l3), some (.int p14.1)]) dX7_readOne_163 rfl rfl rfl ?_
      refine fx_aload_n dX7_readOne_165 rfl rfl ?_
      refine fx_bipush (x := 16) dX7_readOne_166 rfl (by decide) ?_
      refine fx_iconst (x := 0) dX7_readOne_168 rfl (by decide) ?_
      obtain ⟨p15, ep15, h⟩ := xBind_el h
      refine gx_callv (as := [.int (16 : Int32), .int (0 : Int32)]) (r := []) rfl dX7_readOne_169 ca_7_130 rfl me_78 rfl rfl rfl rfl (ha1.1) rfl (fX10_add_ok (d := d) (by omega) ha1 ep15) rfl rfl ?_
      refine fx_iload dX7_readOne_172 rfl rfl ?_
      obtain ⟨hb16, h⟩ := xChk_el h
      cases h
      exact fx_ireturn dX7_readOne_174 rfl (by show ((decide _ || decide _) && _) = true; rw [hb16]; rfl)
  · rw [if_neg hc1] at h
    refine fx_aload_n dX7_readOne_133 rfl rfl ?_
    refine fx_iconst (x := 3) dX7_readOne_134 rfl (by decide) ?_
    obtain ⟨p17, ep17, h⟩ := xBind_el h
    refine gx_callv (as := [.int (3 : Int32)]) (r := []) rfl dX7_readOne_135 ca_7_107 rfl me_74 rfl rfl rfl rfl (ha0.1) rfl (fX7_fails_ok (d := d) (by omega) ha0 ep17) rfl rfl ?_
    obtain ⟨hb18, h⟩ := xChk_el h
    cases h
    exact fx_ireturn dX7_readOne_138 rfl (by show ((decide _ || decide _) && _) = true; rw [hb18]; rfl)
def fX7_readOneP_0 (g79 : Nat → Nat → Int32 → xMem → Option (Int32 × xMem)) (g77 : Nat → Nat → Int32 → xMem → Option (Int32 × xMem)) (a0 : Nat) (a1 : Nat) (a2 : Int32) (m : xMem) : Option (Int32 × xMem) := (fX7_kind a0 m).bind fun p1 => if p1.1 = (2 : Int32) then fX7_readOneP_16 g79 g77 a0 a1 a2 p1.1 p1.2 else if ¬ p1.1 = (26 : Int32) then if p1.1 = (13 : Int32) then fX7_readOneP_127 g79 g77 a0 a1 a2 p1.1 p1.2 else if p1.1 = (10 : Int32) then fX7_readOneP_127 g79 g77 a0 a1 a2 p1.1 p1.2 else (fX7_fails a0 (1 : Int32) p1.2).bind fun p6 => bif (decide (p6.1 = 0) || decide (p6.1 = 1)) then some (p6.1, p6.2) else none else fX7_readOneP_16 g79 g77 a0 a1 a2 p1.1 p1.2
set_option maxRecDepth 4000 in
theorem fX7_readOneP_0_ok {g79 : Nat → Nat → Int32 → xMem → Option (Int32 × xMem)} {g77 : Nat → Nat → Int32 → xMem → Option (Int32 × xMem)} {a0 : Nat} {a1 : Nat} {a2 : Int32} {d : Nat} (hd : 1 ≤ d) (hg79 : ∀ (a0 a1 : Nat) (a2 : Int32) (m : xMem) (r : Int32 × xMem), isReader a0 → isText a1 → g79 a0 a1 a2 m = some r → xEx d 79 [.ref a0, .ref a1, .int a2] (xLay m) (some (.int r.1)) (xLay r.2) ) (hg77 : ∀ (a0 a1 : Nat) (a2 : Int32) (m : xMem) (r : Int32 × xMem), isReader a0 → isText a1 → g77 a0 a1 a2 m = some r → xEx d 77 [.ref a0, .ref a1, .int a2] (xLay m) (some (.int r.1)) (xLay r.2) ) (ha0 : isReader a0) (ha1 : isText a1) {o3 : Option Value} {o4 : Option Value} {m : xMem} {r : (Int32 × xMem)} (q3 : xNoD o3 = true) (q4 : xNoD o4 = true) (h : fX7_readOneP_0 g79 g77 a0 a1 a2 m = some r) : xFx hh_79 cX7_readOne d 0 [some (.ref a0), some (.ref a1), some (.int a2), o3, o4] [] (xLay m) 0 0 (some (.int r.1)) (xLay r.2) := by
  unfold fX7_readOneP_0 at h
  refine fx_aload_n dX7_readOne_0 rfl rfl ?_
  obtain ⟨p1, ep1, h⟩ := xBind_el h
  refine gx_callv (as := []) (r := []) rfl dX7_readOne_1 ca_7_51 rfl me_72 rfl rfl rfl rfl (ha0.1) rfl (fX7_kind_ok (d := d) (by omega) ha0 ep1) rfl rfl ?_
  refine fx_istore_n (ls2 := [some (.ref a0), some (.ref a1), some (.int a2), some (.int p1.1), o4]) dX7_readOne_4 rfl rfl rfl ?_
  refine fx_iload_n dX7_readOne_5 rfl rfl ?_
  refine fx_iconst (x := 2) dX7_readOne_6 rfl (by decide) ?_
  refine fx_icmp_eq (t := 16) dX7_readOne_7 rfl rfl (fun hc2 => ?_) (fun hc2 => ?_)
  · rw [if_pos hc2] at h
    exact fX7_readOneP_16_ok (o4 := o4) hd hg79 hg77 ha0 ha1 q4 h
  · rw [if_neg hc2] at h
    refine fx_iload_n dX7_readOne_10 rfl rfl ?_
    refine fx_bipush (x := 26) dX7_readOne_11 rfl (by decide) ?_
    refine fx_icmp_ne (t := 109) dX7_readOne_13 rfl rfl (fun hc3 => ?_) (fun hc3 => ?_)
    · rw [if_pos hc3] at h
      refine fx_iload_n dX7_readOne_109 rfl rfl ?_
      refine fx_bipush (x := 13) dX7_readOne_110 rfl (by decide) ?_
      refine fx_icmp_eq (t := 127) dX7_readOne_112 rfl rfl (fun hc4 => ?_) (fun hc4 => ?_)
      · rw [if_pos hc4] at h
        exact fX7_readOneP_127_ok (o4 := o4) hd hg79 hg77 ha0 ha1 q4 h
      · rw [if_neg hc4] at h
        refine fx_iload_n dX7_readOne_115 rfl rfl ?_
        refine fx_bipush (x := 10) dX7_readOne_116 rfl (by decide) ?_
        refine fx_icmp_eq (t := 127) dX7_readOne_118 rfl rfl (fun hc5 => ?_) (fun hc5 => ?_)
        · rw [if_pos hc5] at h
          exact fX7_readOneP_127_ok (o4 := o4) hd hg79 hg77 ha0 ha1 q4 h
        · rw [if_neg hc5] at h
          refine fx_aload_n dX7_readOne_121 rfl rfl ?_
          refine fx_iconst (x := 1) dX7_readOne_122 rfl (by decide) ?_
          obtain ⟨p6, ep6, h⟩ := xBind_el h
          refine gx_callv (as := [.int (1 : Int32)]) (r := []) rfl dX7_readOne_123 ca_7_107 rfl me_74 rfl rfl rfl rfl (ha0.1) rfl (fX7_fails_ok (d := d) (by omega) ha0 ep6) rfl rfl ?_
          obtain ⟨hb7, h⟩ := xChk_el h
          cases h
          exact fx_ireturn dX7_readOne_126 rfl (by show ((decide _ || decide _) && _) = true; rw [hb7]; rfl)
    · rw [if_neg hc3] at h
      exact fX7_readOneP_16_ok (o4 := o4) hd hg79 hg77 ha0 ha1 q4 h
def fX7_readOneP (g79 : Nat → Nat → Int32 → xMem → Option (Int32 × xMem)) (g77 : Nat → Nat → Int32 → xMem → Option (Int32 × xMem)) (a0 : Nat) (a1 : Nat) (a2 : Int32) (m : xMem) : Option (Int32 × xMem) := fX7_readOneP_0 g79 g77 a0 a1 a2  m
theorem fX7_readOneP_ok {g79 : Nat → Nat → Int32 → xMem → Option (Int32 × xMem)} {g77 : Nat → Nat → Int32 → xMem → Option (Int32 × xMem)} {a0 : Nat} {a1 : Nat} {a2 : Int32} {m : xMem} {r : (Int32 × xMem)} {d : Nat} (hd : 1 ≤ d) (hg79 : ∀ (a0 a1 : Nat) (a2 : Int32) (m : xMem) (r : Int32 × xMem), isReader a0 → isText a1 → g79 a0 a1 a2 m = some r → xEx d 79 [.ref a0, .ref a1, .int a2] (xLay m) (some (.int r.1)) (xLay r.2)) (hg77 : ∀ (a0 a1 : Nat) (a2 : Int32) (m : xMem) (r : Int32 × xMem), isReader a0 → isText a1 → g77 a0 a1 a2 m = some r → xEx d 77 [.ref a0, .ref a1, .int a2] (xLay m) (some (.int r.1)) (xLay r.2)) (ha0 : isReader a0) (ha1 : isText a1) (h : fX7_readOneP g79 g77 a0 a1 a2 m = some r) : xEx (d + 1) 79 [.ref a0, .ref a1, .int a2] (xLay m) (some (.int r.1)) (xLay r.2) := xEx_of me_79 rfl (fX7_readOneP_0_ok (d := d) (o3 := none) (o4 := none) (by omega) hg79 hg77 ha0 ha1 rfl rfl h)
def fX7_readProductP_40 (g79 : Nat → Nat → Int32 → xMem → Option (Int32 × xMem)) (a0 : Nat) (a1 : Nat) (a2 : Int32) (rec10 : Int32 → Int32 → xMem → Option (Int32 × xMem)) (l4 : Int32) (m : xMem) : Option (Int32 × xMem) := (fX7_kind a0 m).bind fun p1 => xLet (p1.2.1 a0 8) fun x2 => xLet (x2 + (1 : Int32)) fun x3 => xLet (xPut p1.2 a0 8 x3) fun m4 => (g79 a0 a1 a2 m4).bind fun p5 => (fX10_add a1 p1.1 (0 : Int32) p5.2).bind fun p6 => xLet (l4 + (1 : Int32)) fun x7 => rec10 p5.1 x7 p6
set_option maxRecDepth 4000 in
theorem fX7_readProductP_40_ok {g79 : Nat → Nat → Int32 → xMem → Option (Int32 × xMem)} {a0 : Nat} {a1 : Nat} {a2 : Int32} {rec10 : Int32 → Int32 → xMem → Option (Int32 × xMem)} {d : Nat} (hd : 1 ≤ d) (hg79 : ∀ (a0 a1 : Nat) (a2 : Int32) (m : xMem) (r : Int32 × xMem), isReader a0 → isText a1 → g79 a0 a1 a2 m = some r → xEx d 79 [.ref a0, .ref a1, .int a2] (xLay m) (some (.int r.1)) (xLay r.2) ) (ha0 : isReader a0) (ha1 : isText a1) (hrec10 : ∀ (l3 : Int32) (l4 : Int32) (o5 : Option Value) (q5 : xNoD o5 = true) (m : xMem) (r : (Int32 × xMem)), rec10 l3 l4 m = some r → xFx hh_81 cX7_readProduct d 10 [some (.ref a0), some (.ref a1), some (.int a2), some (.int l3), some (.int l4), o5] [] (xLay m) 0 0 (some (.int r.1)) (xLay r.2)) {l4 : Int32} {o3 : Option Value} {o5 : Option Value} {m : xMem} {r : (Int32 × xMem)} (q3 : xNoD o3 = true) (q5 : xNoD o5 = true) (h : fX7_readProductP_40 g79 a0 a1 a2 rec10 l4 m = some r) : xFx hh_81 cX7_readProduct d 40 [some (.ref a0), some (.ref a1), some (.int a2), o3, some (.int l4), o5] [] (xLay m) 0 0 (some (.int r.1)) (xLay r.2) := by
  unfold fX7_readProductP_40 at h
  refine fx_aload_n dX7_readProduct_40 rfl rfl ?_
  obtain ⟨p1, ep1, h⟩ := xBind_el h
  refine gx_callv (as := []) (r := []) rfl dX7_readProduct_41 ca_7_51 rfl me_72 rfl rfl rfl rfl (ha0.1) rfl (fX7_kind_ok (d := d) (by omega) ha0 ep1) rfl rfl ?_
  refine fx_istore (ls2 := [some (.ref a0), some (.ref a1), some (.int a2), o3, some (.int l4), some (.int p1.1)]) dX7_readProduct_44 rfl rfl rfl ?_
  refine fx_aload_n dX7_readProduct_46 rfl rfl ?_
  refine fx_dup dX7_readProduct_47 rfl rfl ?_
  obtain ⟨x2, hx2, h⟩ := xLet_el h
  refine gx_get dX7_readProduct_48 rfl fd_7_37 ha0.1 rfl rfl hx2 ?_
  refine fx_iconst (x := 1) dX7_readProduct_51 rfl (by decide) ?_
  obtain ⟨x3, hx3, h⟩ := xLet_el h
  refine fx_iadd dX7_readProduct_52 rfl hx3 ?_
  obtain ⟨m4, hm4, h⟩ := xLet_el h
  refine gx_put dX7_readProduct_53 rfl fd_7_37 ha0.1 rfl rfl rfl hm4 ?_
  refine fx_aload_n dX7_readProduct_56 rfl rfl ?_
  refine fx_aload_n dX7_readProduct_57 rfl rfl ?_
  refine fx_iload_n dX7_readProduct_58 rfl rfl ?_
  obtain ⟨p5, ep5, h⟩ := xBind_el h
  refine gx_callv (as := [.ref a1, .int a2]) (r := []) rfl dX7_readProduct_59 ca_7_139 rfl me_79 rfl rfl rfl rfl (ha0.1) rfl (hg79 _ _ _ _ _ ha0 ha1 ep5) rfl rfl ?_
  refine fx_istore_n (ls2 := [some (.ref a0), some (.ref a1), some (.int a2), some (.int p5.1), some (.int l4), some (.int p1.1)]) dX7_readProduct_62 rfl rfl rfl ?_
  refine fx_aload_n dX7_readProduct_63 rfl rfl ?_
  refine fx_iload dX7_readProduct_64 rfl rfl ?_
  refine fx_iconst (x := 0) dX7_readProduct_66 rfl (by decide) ?_
  obtain ⟨p6, ep6, h⟩ := xBind_el h
  refine gx_callv (as := [.int p1.1, .int (0 : Int32)]) (r := []) rfl dX7_readProduct_67 ca_7_130 rfl me_78 rfl rfl rfl rfl (ha1.1) rfl (fX10_add_ok (d := d) (by omega) ha1 ep6) rfl rfl ?_
  obtain ⟨x7, hx7, h⟩ := xLet_el h
  refine fx_iinc (ls2 := [some (.ref a0), some (.ref a1), some (.int a2), some (.int p5.1), some (.int x7), some (.int p1.1)]) dX7_readProduct_70 rfl rfl rfl hx7 rfl ?_
  refine fx_goto (t := 10) dX7_readProduct_73 rfl rfl ?_
  exact hrec10 p5.1 x7 (some (.int p1.1)) rfl p6 r h
def fX7_readProductP_76 (g79 : Nat → Nat → Int32 → xMem → Option (Int32 × xMem)) (a0 : Nat) (a1 : Nat) (a2 : Int32) (l3 : Int32) (m : xMem) : Option (Int32 × xMem) := bif (decide (l3 = 0) || decide (l3 = 1)) then some (l3, m) else none
set_option maxRecDepth 4000 in
theorem fX7_readProductP_76_ok {g79 : Nat → Nat → Int32 → xMem → Option (Int32 × xMem)} {a0 : Nat} {a1 : Nat} {a2 : Int32} {d : Nat} (hd : 1 ≤ d) (hg79 : ∀ (a0 a1 : Nat) (a2 : Int32) (m : xMem) (r : Int32 × xMem), isReader a0 → isText a1 → g79 a0 a1 a2 m = some r → xEx d 79 [.ref a0, .ref a1, .int a2] (xLay m) (some (.int r.1)) (xLay r.2) ) (ha0 : isReader a0) (ha1 : isText a1) {l3 : Int32} {o4 : Option Value} {o5 : Option Value} {m : xMem} {r : (Int32 × xMem)} (q4 : xNoD o4 = true) (q5 : xNoD o5 = true) (h : fX7_readProductP_76 g79 a0 a1 a2 l3 m = some r) : xFx hh_81 cX7_readProduct d 76 [some (.ref a0), some (.ref a1), some (.int a2), some (.int l3), o4, o5] [] (xLay m) 0 0 (some (.int r.1)) (xLay r.2) := by
  unfold fX7_readProductP_76 at h
  refine fx_iload_n dX7_readProduct_76 rfl rfl ?_
  obtain ⟨hb1, h⟩ := xChk_el h
  cases h
  exact fx_ireturn dX7_readProduct_77 rfl (by show ((decide _ || decide _) && _) = true; rw [hb1]; rfl)
def fX7_readProductP_10 (g79 : Nat → Nat → Int32 → xMem → Option (Int32 × xMem)) (a0 : Nat) (a1 : Nat) (a2 : Int32) : Nat → Int32 → Int32 → xMem → Option (Int32 × xMem)
  | 0, _, _, _ => none
  | fuel + 1, l3, l4, m => if (300 : Int32) ≤ l4 then fX7_readProductP_76 g79 a0 a1 a2 l3 m else if l3 = (0 : Int32) then fX7_readProductP_76 g79 a0 a1 a2 l3 m else (fX7_kind a0 m).bind fun p3 => if p3.1 = (11 : Int32) then fX7_readProductP_40 g79 a0 a1 a2 (fX7_readProductP_10 g79 a0 a1 a2 fuel) l4 p3.2 else (fX7_kind a0 p3.2).bind fun p5 => if ¬ p5.1 = (12 : Int32) then fX7_readProductP_76 g79 a0 a1 a2 l3 p5.2 else fX7_readProductP_40 g79 a0 a1 a2 (fX7_readProductP_10 g79 a0 a1 a2 fuel) l4 p5.2
set_option maxRecDepth 4000 in
theorem fX7_readProductP_10_ok {g79 : Nat → Nat → Int32 → xMem → Option (Int32 × xMem)} {a0 : Nat} {a1 : Nat} {a2 : Int32} {d : Nat} (hd : 1 ≤ d) (hg79 : ∀ (a0 a1 : Nat) (a2 : Int32) (m : xMem) (r : Int32 × xMem), isReader a0 → isText a1 → g79 a0 a1 a2 m = some r → xEx d 79 [.ref a0, .ref a1, .int a2] (xLay m) (some (.int r.1)) (xLay r.2) ) (ha0 : isReader a0) (ha1 : isText a1) : ∀ (fuel : Nat) (l3 : Int32) (l4 : Int32) (o5 : Option Value) (q5 : xNoD o5 = true) (m : xMem) (r : (Int32 × xMem)), fX7_readProductP_10 g79 a0 a1 a2 fuel l3 l4 m = some r → xFx hh_81 cX7_readProduct d 10 [some (.ref a0), some (.ref a1), some (.int a2), some (.int l3), some (.int l4), o5] [] (xLay m) 0 0 (some (.int r.1)) (xLay r.2) := by
  intro fuel
  induction fuel with
  | zero => intro l3 l4 o5 q5 m r  h; cases h
  | succ fuel ih =>
    intro l3 l4 o5 q5 m r  h
    unfold fX7_readProductP_10 at h
    refine fx_iload dX7_readProduct_10 rfl rfl ?_
    refine fx_sipush (x := 300) dX7_readProduct_12 rfl (by decide) ?_
    refine fx_icmp_ge (t := 76) dX7_readProduct_15 rfl rfl (fun hc1 => ?_) (fun hc1 => ?_)
    · rw [if_pos hc1] at h
      exact fX7_readProductP_76_ok (o4 := some (.int l4)) (o5 := o5) hd hg79 ha0 ha1 rfl q5 h
    · rw [if_neg hc1] at h
      refine fx_iload_n dX7_readProduct_18 rfl rfl ?_
      refine fx_if_eq (t := 76) dX7_readProduct_19 rfl rfl (fun hc2 => ?_) (fun hc2 => ?_)
      · rw [if_pos hc2] at h
        exact fX7_readProductP_76_ok (o4 := some (.int l4)) (o5 := o5) hd hg79 ha0 ha1 rfl q5 h
      · rw [if_neg hc2] at h
        refine fx_aload_n dX7_readProduct_22 rfl rfl ?_
        obtain ⟨p3, ep3, h⟩ := xBind_el h
        refine gx_callv (as := []) (r := []) rfl dX7_readProduct_23 ca_7_51 rfl me_72 rfl rfl rfl rfl (ha0.1) rfl (fX7_kind_ok (d := d) (by omega) ha0 ep3) rfl rfl ?_
        refine fx_bipush (x := 11) dX7_readProduct_26 rfl (by decide) ?_
        refine fx_icmp_eq (t := 40) dX7_readProduct_28 rfl rfl (fun hc4 => ?_) (fun hc4 => ?_)
        · rw [if_pos hc4] at h
          exact fX7_readProductP_40_ok (o3 := some (.int l3)) (o5 := o5) hd hg79 ha0 ha1 ih rfl q5 h
        · rw [if_neg hc4] at h
          refine fx_aload_n dX7_readProduct_31 rfl rfl ?_
          obtain ⟨p5, ep5, h⟩ := xBind_el h
          refine gx_callv (as := []) (r := []) rfl dX7_readProduct_32 ca_7_51 rfl me_72 rfl rfl rfl rfl (ha0.1) rfl (fX7_kind_ok (d := d) (by omega) ha0 ep5) rfl rfl ?_
          refine fx_bipush (x := 12) dX7_readProduct_35 rfl (by decide) ?_
          refine fx_icmp_ne (t := 76) dX7_readProduct_37 rfl rfl (fun hc6 => ?_) (fun hc6 => ?_)
          · rw [if_pos hc6] at h
            exact fX7_readProductP_76_ok (o4 := some (.int l4)) (o5 := o5) hd hg79 ha0 ha1 rfl q5 h
          · rw [if_neg hc6] at h
            exact fX7_readProductP_40_ok (o3 := some (.int l3)) (o5 := o5) hd hg79 ha0 ha1 ih rfl q5 h
def fX7_readProductP_0 (g79 : Nat → Nat → Int32 → xMem → Option (Int32 × xMem)) (a0 : Nat) (a1 : Nat) (a2 : Int32) (m : xMem) : Option (Int32 × xMem) := (g79 a0 a1 a2 m).bind fun p1 => fX7_readProductP_10 g79 a0 a1 a2 xFuel p1.1 (0 : Int32) p1.2
set_option maxRecDepth 4000 in
theorem fX7_readProductP_0_ok {g79 : Nat → Nat → Int32 → xMem → Option (Int32 × xMem)} {a0 : Nat} {a1 : Nat} {a2 : Int32} {d : Nat} (hd : 1 ≤ d) (hg79 : ∀ (a0 a1 : Nat) (a2 : Int32) (m : xMem) (r : Int32 × xMem), isReader a0 → isText a1 → g79 a0 a1 a2 m = some r → xEx d 79 [.ref a0, .ref a1, .int a2] (xLay m) (some (.int r.1)) (xLay r.2) ) (ha0 : isReader a0) (ha1 : isText a1) {o3 : Option Value} {o4 : Option Value} {o5 : Option Value} {m : xMem} {r : (Int32 × xMem)} (q3 : xNoD o3 = true) (q4 : xNoD o4 = true) (q5 : xNoD o5 = true) (h : fX7_readProductP_0 g79 a0 a1 a2 m = some r) : xFx hh_81 cX7_readProduct d 0 [some (.ref a0), some (.ref a1), some (.int a2), o3, o4, o5] [] (xLay m) 0 0 (some (.int r.1)) (xLay r.2) := by
  unfold fX7_readProductP_0 at h
  refine fx_aload_n dX7_readProduct_0 rfl rfl ?_
  refine fx_aload_n dX7_readProduct_1 rfl rfl ?_
  refine fx_iload_n dX7_readProduct_2 rfl rfl ?_
  obtain ⟨p1, ep1, h⟩ := xBind_el h
  refine gx_callv (as := [.ref a1, .int a2]) (r := []) rfl dX7_readProduct_3 ca_7_139 rfl me_79 rfl rfl rfl rfl (ha0.1) rfl (hg79 _ _ _ _ _ ha0 ha1 ep1) rfl rfl ?_
  refine fx_istore_n (ls2 := [some (.ref a0), some (.ref a1), some (.int a2), some (.int p1.1), o4, o5]) dX7_readProduct_6 rfl rfl rfl ?_
  refine fx_iconst (x := 0) dX7_readProduct_7 rfl (by decide) ?_
  refine fx_istore (ls2 := [some (.ref a0), some (.ref a1), some (.int a2), some (.int p1.1), some (.int (0 : Int32)), o5]) dX7_readProduct_8 rfl rfl rfl ?_
  exact fX7_readProductP_10_ok hd hg79 ha0 ha1 xFuel p1.1 (0 : Int32) (o5) q5 p1.2 r h
def fX7_readProductP (g79 : Nat → Nat → Int32 → xMem → Option (Int32 × xMem)) (a0 : Nat) (a1 : Nat) (a2 : Int32) (m : xMem) : Option (Int32 × xMem) := fX7_readProductP_0 g79 a0 a1 a2  m
theorem fX7_readProductP_ok {g79 : Nat → Nat → Int32 → xMem → Option (Int32 × xMem)} {a0 : Nat} {a1 : Nat} {a2 : Int32} {m : xMem} {r : (Int32 × xMem)} {d : Nat} (hd : 1 ≤ d) (hg79 : ∀ (a0 a1 : Nat) (a2 : Int32) (m : xMem) (r : Int32 × xMem), isReader a0 → isText a1 → g79 a0 a1 a2 m = some r → xEx d 79 [.ref a0, .ref a1, .int a2] (xLay m) (some (.int r.1)) (xLay r.2)) (ha0 : isReader a0) (ha1 : isText a1) (h : fX7_readProductP g79 a0 a1 a2 m = some r) : xEx (d + 1) 81 [.ref a0, .ref a1, .int a2] (xLay m) (some (.int r.1)) (xLay r.2) := xEx_of me_81 rfl (fX7_readProductP_0_ok (d := d) (o3 := none) (o4 := none) (o5 := none) (by omega) hg79 ha0 ha1 rfl rfl rfl h)
def fX7_readSumP_40 (g81 : Nat → Nat → Int32 → xMem → Option (Int32 × xMem)) (a0 : Nat) (a1 : Nat) (a2 : Int32) (rec10 : Int32 → Int32 → xMem → Option (Int32 × xMem)) (l4 : Int32) (m : xMem) : Option (Int32 × xMem) := (fX7_kind a0 m).bind fun p1 => xLet (p1.2.1 a0 8) fun x2 => xLet (x2 + (1 : Int32)) fun x3 => xLet (xPut p1.2 a0 8 x3) fun m4 => (g81 a0 a1 a2 m4).bind fun p5 => (fX10_add a1 p1.1 (0 : Int32) p5.2).bind fun p6 => xLet (l4 + (1 : Int32)) fun x7 => rec10 p5.1 x7 p6
set_option maxRecDepth 4000 in
theorem fX7_readSumP_40_ok {g81 : Nat → Nat → Int32 → xMem → Option (Int32 × xMem)} {a0 : Nat} {a1 : Nat} {a2 : Int32} {rec10 : Int32 → Int32 → xMem → Option (Int32 × xMem)} {d : Nat} (hd : 1 ≤ d) (hg81 : ∀ (a0 a1 : Nat) (a2 : Int32) (m : xMem) (r : Int32 × xMem), isReader a0 → isText a1 → g81 a0 a1 a2 m = some r → xEx d 81 [.ref a0, .ref a1, .int a2] (xLay m) (some (.int r.1)) (xLay r.2) ) (ha0 : isReader a0) (ha1 : isText a1) (hrec10 : ∀ (l3 : Int32) (l4 : Int32) (o5 : Option Value) (q5 : xNoD o5 = true) (m : xMem) (r : (Int32 × xMem)), rec10 l3 l4 m = some r → xFx hh_77 cX7_readSum d 10 [some (.ref a0), some (.ref a1), some (.int a2), some (.int l3), some (.int l4), o5] [] (xLay m) 0 0 (some (.int r.1)) (xLay r.2)) {l4 : Int32} {o3 : Option Value} {o5 : Option Value} {m : xMem} {r : (Int32 × xMem)} (q3 : xNoD o3 = true) (q5 : xNoD o5 = true) (h : fX7_readSumP_40 g81 a0 a1 a2 rec10 l4 m = some r) : xFx hh_77 cX7_readSum d 40 [some (.ref a0), some (.ref a1), some (.int a2), o3, some (.int l4), o5] [] (xLay m) 0 0 (some (.int r.1)) (xLay r.2) := by
  unfold fX7_readSumP_40 at h
  refine fx_aload_n dX7_readSum_40 rfl rfl ?_
  obtain ⟨p1, ep1, h⟩ := xBind_el h
  refine gx_callv (as := []) (r := []) rfl dX7_readSum_41 ca_7_51 rfl me_72 rfl rfl rfl rfl (ha0.1) rfl (fX7_kind_ok (d := d) (by omega) ha0 ep1) rfl rfl ?_
  refine fx_istore (ls2 := [some (.ref a0), some (.ref a1), some (.int a2), o3, some (.int l4), some (.int p1.1)]) dX7_readSum_44 rfl rfl rfl ?_
  refine fx_aload_n dX7_readSum_46 rfl rfl ?_
  refine fx_dup dX7_readSum_47 rfl rfl ?_
  obtain ⟨x2, hx2, h⟩ := xLet_el h
  refine gx_get dX7_readSum_48 rfl fd_7_37 ha0.1 rfl rfl hx2 ?_
  refine fx_iconst (x := 1) dX7_readSum_51 rfl (by decide) ?_
  obtain ⟨x3, hx3, h⟩ := xLet_el h
  refine fx_iadd dX7_readSum_52 rfl hx3 ?_
  obtain ⟨m4, hm4, h⟩ := xLet_el h
  refine gx_put dX7_readSum_53 rfl fd_7_37 ha0.1 rfl rfl rfl hm4 ?_
  refine fx_aload_n dX7_readSum_56 rfl rfl ?_
  refine fx_aload_n dX7_readSum_57 rfl rfl ?_
  refine fx_iload_n dX7_readSum_58 rfl rfl ?_
  obtain ⟨p5, ep5, h⟩ := xBind_el h
  refine gx_callv (as := [.ref a1, .int a2]) (r := []) rfl dX7_readSum_59 ca_7_136 rfl me_81 rfl rfl rfl rfl (ha0.1) rfl (hg81 _ _ _ _ _ ha0 ha1 ep5) rfl rfl ?_
  refine fx_istore_n (ls2 := [some (.ref a0), some (.ref a1), some (.int a2), some (.int p5.1), some (.int l4), some (.int p1.1)]) dX7_readSum_62 rfl rfl rfl ?_
  refine fx_aload_n dX7_readSum_63 rfl rfl ?_
  refine fx_iload dX7_readSum_64 rfl rfl ?_
  refine fx_iconst (x := 0) dX7_readSum_66 rfl (by decide) ?_
  obtain ⟨p6, ep6, h⟩ := xBind_el h
  refine gx_callv (as := [.int p1.1, .int (0 : Int32)]) (r := []) rfl dX7_readSum_67 ca_7_130 rfl me_78 rfl rfl rfl rfl (ha1.1) rfl (fX10_add_ok (d := d) (by omega) ha1 ep6) rfl rfl ?_
  obtain ⟨x7, hx7, h⟩ := xLet_el h
  refine fx_iinc (ls2 := [some (.ref a0), some (.ref a1), some (.int a2), some (.int p5.1), some (.int x7), some (.int p1.1)]) dX7_readSum_70 rfl rfl rfl hx7 rfl ?_
  refine fx_goto (t := 10) dX7_readSum_73 rfl rfl ?_
  exact hrec10 p5.1 x7 (some (.int p1.1)) rfl p6 r h
def fX7_readSumP_76 (g81 : Nat → Nat → Int32 → xMem → Option (Int32 × xMem)) (a0 : Nat) (a1 : Nat) (a2 : Int32) (l3 : Int32) (m : xMem) : Option (Int32 × xMem) := bif (decide (l3 = 0) || decide (l3 = 1)) then some (l3, m) else none
set_option maxRecDepth 4000 in
theorem fX7_readSumP_76_ok {g81 : Nat → Nat → Int32 → xMem → Option (Int32 × xMem)} {a0 : Nat} {a1 : Nat} {a2 : Int32} {d : Nat} (hd : 1 ≤ d) (hg81 : ∀ (a0 a1 : Nat) (a2 : Int32) (m : xMem) (r : Int32 × xMem), isReader a0 → isText a1 → g81 a0 a1 a2 m = some r → xEx d 81 [.ref a0, .ref a1, .int a2] (xLay m) (some (.int r.1)) (xLay r.2) ) (ha0 : isReader a0) (ha1 : isText a1) {l3 : Int32} {o4 : Option Value} {o5 : Option Value} {m : xMem} {r : (Int32 × xMem)} (q4 : xNoD o4 = true) (q5 : xNoD o5 = true) (h : fX7_readSumP_76 g81 a0 a1 a2 l3 m = some r) : xFx hh_77 cX7_readSum d 76 [some (.ref a0), some (.ref a1), some (.int a2), some (.int l3), o4, o5] [] (xLay m) 0 0 (some (.int r.1)) (xLay r.2) := by
  unfold fX7_readSumP_76 at h
  refine fx_iload_n dX7_readSum_76 rfl rfl ?_
  obtain ⟨hb1, h⟩ := xChk_el h
  cases h
  exact fx_ireturn dX7_readSum_77 rfl (by show ((decide _ || decide _) && _) = true; rw [hb1]; rfl)
def fX7_readSumP_10 (g81 : Nat → Nat → Int32 → xMem → Option (Int32 × xMem)) (a0 : Nat) (a1 : Nat) (a2 : Int32) : Nat → Int32 → Int32 → xMem → Option (Int32 × xMem)
  | 0, _, _, _ => none
  | fuel + 1, l3, l4, m => if (300 : Int32) ≤ l4 then fX7_readSumP_76 g81 a0 a1 a2 l3 m else if l3 = (0 : Int32) then fX7_readSumP_76 g81 a0 a1 a2 l3 m else (fX7_kind a0 m).bind fun p3 => if p3.1 = (9 : Int32) then fX7_readSumP_40 g81 a0 a1 a2 (fX7_readSumP_10 g81 a0 a1 a2 fuel) l4 p3.2 else (fX7_kind a0 p3.2).bind fun p5 => if ¬ p5.1 = (10 : Int32) then fX7_readSumP_76 g81 a0 a1 a2 l3 p5.2 else fX7_readSumP_40 g81 a0 a1 a2 (fX7_readSumP_10 g81 a0 a1 a2 fuel) l4 p5.2
set_option maxRecDepth 4000 in
theorem fX7_readSumP_10_ok {g81 : Nat → Nat → Int32 → xMem → Option (Int32 × xMem)} {a0 : Nat} {a1 : Nat} {a2 : Int32} {d : Nat} (hd : 1 ≤ d) (hg81 : ∀ (a0 a1 : Nat) (a2 : Int32) (m : xMem) (r : Int32 × xMem), isReader a0 → isText a1 → g81 a0 a1 a2 m = some r → xEx d 81 [.ref a0, .ref a1, .int a2] (xLay m) (some (.int r.1)) (xLay r.2) ) (ha0 : isReader a0) (ha1 : isText a1) : ∀ (fuel : Nat) (l3 : Int32) (l4 : Int32) (o5 : Option Value) (q5 : xNoD o5 = true) (m : xMem) (r : (Int32 × xMem)), fX7_readSumP_10 g81 a0 a1 a2 fuel l3 l4 m = some r → xFx hh_77 cX7_readSum d 10 [some (.ref a0), some (.ref a1), some (.int a2), some (.int l3), some (.int l4), o5] [] (xLay m) 0 0 (some (.int r.1)) (xLay r.2) := by
  intro fuel
  induction fuel with
  | zero => intro l3 l4 o5 q5 m r  h; cases h
  | succ fuel ih =>
    intro l3 l4 o5 q5 m r  h
    unfold fX7_readSumP_10 at h
    refine fx_iload dX7_readSum_10 rfl rfl ?_
    refine fx_sipush (x := 300) dX7_readSum_12 rfl (by decide) ?_
    refine fx_icmp_ge (t := 76) dX7_readSum_15 rfl rfl (fun hc1 => ?_) (fun hc1 => ?_)
    · rw [if_pos hc1] at h
      exact fX7_readSumP_76_ok (o4 := some (.int l4)) (o5 := o5) hd hg81 ha0 ha1 rfl q5 h
    · rw [if_neg hc1] at h
      refine fx_iload_n dX7_readSum_18 rfl rfl ?_
      refine fx_if_eq (t := 76) dX7_readSum_19 rfl rfl (fun hc2 => ?_) (fun hc2 => ?_)
      · rw [if_pos hc2] at h
        exact fX7_readSumP_76_ok (o4 := some (.int l4)) (o5 := o5) hd hg81 ha0 ha1 rfl q5 h
      · rw [if_neg hc2] at h
        refine fx_aload_n dX7_readSum_22 rfl rfl ?_
        obtain ⟨p3, ep3, h⟩ := xBind_el h
        refine gx_callv (as := []) (r := []) rfl dX7_readSum_23 ca_7_51 rfl me_72 rfl rfl rfl rfl (ha0.1) rfl (fX7_kind_ok (d := d) (by omega) ha0 ep3) rfl rfl ?_
        refine fx_bipush (x := 9) dX7_readSum_26 rfl (by decide) ?_
        refine fx_icmp_eq (t := 40) dX7_readSum_28 rfl rfl (fun hc4 => ?_) (fun hc4 => ?_)
        · rw [if_pos hc4] at h
          exact fX7_readSumP_40_ok (o3 := some (.int l3)) (o5 := o5) hd hg81 ha0 ha1 ih rfl q5 h
        · rw [if_neg hc4] at h
          refine fx_aload_n dX7_readSum_31 rfl rfl ?_
          obtain ⟨p5, ep5, h⟩ := xBind_el h
          refine gx_callv (as := []) (r := []) rfl dX7_readSum_32 ca_7_51 rfl me_72 rfl rfl rfl rfl (ha0.1) rfl (fX7_kind_ok (d := d) (by omega) ha0 ep5) rfl rfl ?_
          refine fx_bipush (x := 10) dX7_readSum_35 rfl (by decide) ?_
          refine fx_icmp_ne (t := 76) dX7_readSum_37 rfl rfl (fun hc6 => ?_) (fun hc6 => ?_)
          · rw [if_pos hc6] at h
            exact fX7_readSumP_76_ok (o4 := some (.int l4)) (o5 := o5) hd hg81 ha0 ha1 rfl q5 h
          · rw [if_neg hc6] at h
            exact fX7_readSumP_40_ok (o3 := some (.int l3)) (o5 := o5) hd hg81 ha0 ha1 ih rfl q5 h
def fX7_readSumP_0 (g81 : Nat → Nat → Int32 → xMem → Option (Int32 × xMem)) (a0 : Nat) (a1 : Nat) (a2 : Int32) (m : xMem) : Option (Int32 × xMem) := (g81 a0 a1 a2 m).bind fun p1 => fX7_readSumP_10 g81 a0 a1 a2 xFuel p1.1 (0 : Int32) p1.2
set_option maxRecDepth 4000 in
theorem fX7_readSumP_0_ok {g81 : Nat → Nat → Int32 → xMem → Option (Int32 × xMem)} {a0 : Nat} {a1 : Nat} {a2 : Int32} {d : Nat} (hd : 1 ≤ d) (hg81 : ∀ (a0 a1 : Nat) (a2 : Int32) (m : xMem) (r : Int32 × xMem), isReader a0 → isText a1 → g81 a0 a1 a2 m = some r → xEx d 81 [.ref a0, .ref a1, .int a2] (xLay m) (some (.int r.1)) (xLay r.2) ) (ha0 : isReader a0) (ha1 : isText a1) {o3 : Option Value} {o4 : Option Value} {o5 : Option Value} {m : xMem} {r : (Int32 × xMem)} (q3 : xNoD o3 = true) (q4 : xNoD o4 = true) (q5 : xNoD o5 = true) (h : fX7_readSumP_0 g81 a0 a1 a2 m = some r) : xFx hh_77 cX7_readSum d 0 [some (.ref a0), some (.ref a1), some (.int a2), o3, o4, o5] [] (xLay m) 0 0 (some (.int r.1)) (xLay r.2) := by
  unfold fX7_readSumP_0 at h
  refine fx_aload_n dX7_readSum_0 rfl rfl ?_
  refine fx_aload_n dX7_readSum_1 rfl rfl ?_
  refine fx_iload_n dX7_readSum_2 rfl rfl ?_
  obtain ⟨p1, ep1, h⟩ := xBind_el h
  refine gx_callv (as := [.ref a1, .int a2]) (r := []) rfl dX7_readSum_3 ca_7_136 rfl me_81 rfl rfl rfl rfl (ha0.1) rfl (hg81 _ _ _ _ _ ha0 ha1 ep1) rfl rfl ?_
  refine fx_istore_n (ls2 := [some (.ref a0), some (.ref a1), some (.int a2), some (.int p1.1), o4, o5]) dX7_readSum_6 rfl rfl rfl ?_
  refine fx_iconst (x := 0) dX7_readSum_7 rfl (by decide) ?_
  refine fx_istore (ls2 := [some (.ref a0), some (.ref a1), some (.int a2), some (.int p1.1), some (.int (0 : Int32)), o5]) dX7_readSum_8 rfl rfl rfl ?_
  exact fX7_readSumP_10_ok hd hg81 ha0 ha1 xFuel p1.1 (0 : Int32) (o5) q5 p1.2 r h
def fX7_readSumP (g81 : Nat → Nat → Int32 → xMem → Option (Int32 × xMem)) (a0 : Nat) (a1 : Nat) (a2 : Int32) (m : xMem) : Option (Int32 × xMem) := fX7_readSumP_0 g81 a0 a1 a2  m
theorem fX7_readSumP_ok {g81 : Nat → Nat → Int32 → xMem → Option (Int32 × xMem)} {a0 : Nat} {a1 : Nat} {a2 : Int32} {m : xMem} {r : (Int32 × xMem)} {d : Nat} (hd : 1 ≤ d) (hg81 : ∀ (a0 a1 : Nat) (a2 : Int32) (m : xMem) (r : Int32 × xMem), isReader a0 → isText a1 → g81 a0 a1 a2 m = some r → xEx d 81 [.ref a0, .ref a1, .int a2] (xLay m) (some (.int r.1)) (xLay r.2)) (ha0 : isReader a0) (ha1 : isText a1) (h : fX7_readSumP g81 a0 a1 a2 m = some r) : xEx (d + 1) 77 [.ref a0, .ref a1, .int a2] (xLay m) (some (.int r.1)) (xLay r.2) := xEx_of me_77 rfl (fX7_readSumP_0_ok (d := d) (o3 := none) (o4 := none) (o5 := none) (by omega) hg81 ha0 ha1 rfl rfl rfl h)
/-- readOne with so many levels below -/
def fX7_rec : Nat → Nat → Nat → Int32 → xMem → Option (Int32 × xMem)
  | 0 => fun _ _ _ _ => none
  | n + 1 => fun a0 a1 a2 m => fX7_readOneP (fX7_rec n) (fX7_readSumP (fX7_readProductP (fX7_rec n))) a0 a1 a2 m
theorem fX7_rec_ok : ∀ (n d : Nat), 1 + 3 * n ≤ d → ∀ (a0 a1 : Nat) (a2 : Int32) (m : xMem) (r : Int32 × xMem), isReader a0 → isText a1 → fX7_rec n a0 a1 a2 m = some r → xEx d 79 [.ref a0, .ref a1, .int a2] (xLay m) (some (.int r.1)) (xLay r.2) := by
  intro n
  induction n with
  | zero => intro d _ a0 a1 a2 m r _ _ h; cases h
  | succ n ih =>
    intro d hd a0 a1 a2 m r ha0 ha1 h
    obtain ⟨d, rfl⟩ : ∃ q, d = q + 3 := ⟨d - 3, by omega⟩
    exact fX7_readOneP_ok (d := d + 2) (by omega) (fun b0 b1 b2 m' r' => ih (d + 2) (by omega) b0 b1 b2 m' r') (fun b0 b1 b2 m' r' hb0 hb1 h' => fX7_readSumP_ok (d := d + 1) (by omega) (fun c0 c1 c2 m'' r'' hc0 hc1 h'' => fX7_readProductP_ok (d := d) (by omega) (fun e0 e1 e2 m3 r3 => ih d (by omega) e0 e1 e2 m3 r3) hc0 hc1 h'') hb0 hb1 h') ha0 ha1 h
def fX7_readOne (a0 a1 : Nat) (a2 : Int32) (m : xMem) : Option (Int32 × xMem) := fX7_rec 10 a0 a1 a2 m
def fX7_readProduct (a0 a1 : Nat) (a2 : Int32) (m : xMem) : Option (Int32 × xMem) := fX7_readProductP (fX7_rec 10) a0 a1 a2 m
def fX7_readSum (a0 a1 : Nat) (a2 : Int32) (m : xMem) : Option (Int32 × xMem) := fX7_readSumP (fX7_readProductP (fX7_rec 10)) a0 a1 a2 m
theorem fX7_readSum_ok {a0 a1 : Nat} {a2 : Int32} {m : xMem} {r : (Int32 × xMem)} {d : Nat} (hd : 33 ≤ d) (ha0 : isReader a0) (ha1 : isText a1) (h : fX7_readSum a0 a1 a2 m = some r) : xEx d 77 [.ref a0, .ref a1, .int a2] (xLay m) (some (.int r.1)) (xLay r.2) := by
  obtain ⟨d, rfl⟩ : ∃ q, d = q + 2 := ⟨d - 2, by omega⟩
  exact fX7_readSumP_ok (d := d + 1) (by omega) (fun c0 c1 c2 m'' r'' hc0 hc1 h'' => fX7_readProductP_ok (d := d) (by omega) (fun e0 e1 e2 m3 r3 => fX7_rec_ok 10 d (by omega) e0 e1 e2 m3 r3) hc0 hc1 h'') ha0 ha1 h
def fX7_readAskP_76 (g84 : Nat → Nat → Int32 → xMem → Option (Int32 × xMem)) (a0 : Nat) (a1 : Nat) (a2 : Int32) (m : xMem) : Option (Int32 × xMem) := (fX7_fails a0 (1 : Int32) m).bind fun p1 => bif (decide (p1.1 = 0) || decide (p1.1 = 1)) then some (p1.1, p1.2) else none
set_option maxRecDepth 4000 in
theorem fX7_readAskP_76_ok {g84 : Nat → Nat → Int32 → xMem → Option (Int32 × xMem)} {a0 : Nat} {a1 : Nat} {a2 : Int32} {d : Nat} (hd : 33 ≤ d) (hg84 : ∀ (a0 a1 : Nat) (a2 : Int32) (m : xMem) (r : Int32 × xMem), isReader a0 → isText a1 → g84 a0 a1 a2 m = some r → xEx d 84 [.ref a0, .ref a1, .int a2] (xLay m) (some (.int r.1)) (xLay r.2) ) (ha0 : isReader a0) (ha1 : isText a1) {o3 : Option Value} {o4 : Option Value} {m : xMem} {r : (Int32 × xMem)} (q3 : xNoD o3 = true) (q4 : xNoD o4 = true) (h : fX7_readAskP_76 g84 a0 a1 a2 m = some r) : xFx hh_84 cX7_readAsk d 76 [some (.ref a0), some (.ref a1), some (.int a2), o3, o4] [] (xLay m) 0 0 (some (.int r.1)) (xLay r.2) := by
  unfold fX7_readAskP_76 at h
  refine fx_aload_n dX7_readAsk_76 rfl rfl ?_
  refine fx_iconst (x := 1) dX7_readAsk_77 rfl (by decide) ?_
  obtain ⟨p1, ep1, h⟩ := xBind_el h
  refine gx_callv (as := [.int (1 : Int32)]) (r := []) rfl dX7_readAsk_78 ca_7_107 rfl me_74 rfl rfl rfl rfl (ha0.1) rfl (fX7_fails_ok (d := d) (by omega) ha0 ep1) rfl rfl ?_
  obtain ⟨hb2, h⟩ := xChk_el h
  cases h
  exact fx_ireturn dX7_readAsk_81 rfl (by show ((decide _ || decide _) && _) = true; rw [hb2]; rfl)
def fX7_readAskP_0 (g84 : Nat → Nat → Int32 → xMem → Option (Int32 × xMem)) (a0 : Nat) (a1 : Nat) (a2 : Int32) (m : xMem) : Option (Int32 × xMem) := (fX7_kind a0 m).bind fun p1 => if ¬ p1.1 = (25 : Int32) then (fX7_readSum a0 a1 a2 p1.2).bind fun p3 => if ¬ p3.1 = (0 : Int32) then (fX7_kind a0 p3.2).bind fun p5 => if p5.1 < (3 : Int32) then fX7_readAskP_76 g84 a0 a1 a2 p5.2 else if p5.1 ≤ (8 : Int32) then xLet (p5.2.1 a0 8) fun x8 => xLet (x8 + (1 : Int32)) fun x9 => xLet (xPut p5.2 a0 8 x9) fun m10 => (fX7_readSum a0 a1 a2 m10).bind fun p11 => (fX10_add a1 p5.1 (0 : Int32) p11.2).bind fun p12 => bif (decide (p11.1 = 0) || decide (p11.1 = 1)) then some (p11.1, p12) else none else fX7_readAskP_76 g84 a0 a1 a2 p5.2 else some ((0 : Int32), p3.2) else if a2 < (8 : Int32) then xLet (p1.2.1 a0 8) fun x15 => xLet (x15 + (1 : Int32)) fun x16 => xLet (xPut p1.2 a0 8 x16) fun m17 => xLet (a2 + (1 : Int32)) fun x18 => (g84 a0 a1 x18 m17).bind fun p19 => (fX10_add a1 (25 : Int32) (0 : Int32) p19.2).bind fun p20 => bif (decide (p19.1 = 0) || decide (p19.1 = 1)) then some (p19.1, p20) else none else (fX7_fails a0 (3 : Int32) p1.2).bind fun p22 => bif (decide (p22.1 = 0) || decide (p22.1 = 1)) then some (p22.1, p22.2) else none
set_option maxRecDepth 4000 in
theorem fX7_readAskP_0_ok {g84 : Nat → Nat → Int32 → xMem → Option (Int32 × xMem)} {a0 : Nat} {a1 : Nat} {a2 : Int32} {d : Nat} (hd : 33 ≤ d) (hg84 : ∀ (a0 a1 : Nat) (a2 : Int32) (m : xMem) (r : Int32 × xMem), isReader a0 → isText a1 → g84 a0 a1 a2 m = some r → xEx d 84 [.ref a0, .ref a1, .int a2] (xLay m) (some (.int r.1)) (xLay r.2) ) (ha0 : isReader a0) (ha1 : isText a1) {o3 : Option Value} {o4 : Option Value} {m : xMem} {r : (Int32 × xMem)} (q3 : xNoD o3 = true) (q4 : xNoD o4 = true) (h : fX7_readAskP_0 g84 a0 a1 a2 m = some r) : xFx hh_84 cX7_readAsk d 0 [some (.ref a0), some (.ref a1), some (.int a2), o3, o4] [] (xLay m) 0 0 (some (.int r.1)) (xLay r.2) := by
  unfold fX7_readAskP_0 at h
  refine fx_aload_n dX7_readAsk_0 rfl rfl ?_
  obtain ⟨p1, ep1, h⟩ := xBind_el h
  refine gx_callv (as := []) (r := []) rfl dX7_readAsk_1 ca_7_51 rfl me_72 rfl rfl rfl rfl (ha0.1) rfl (fX7_kind_ok (d := d) (by omega) ha0 ep1) rfl rfl ?_
  refine fx_bipush (x := 25) dX7_readAsk_4 rfl (by decide) ?_
  refine fx_icmp_ne (t := 49) dX7_readAsk_6 rfl rfl (fun hc2 => ?_) (fun hc2 => ?_)
  · rw [if_pos hc2] at h
    refine fx_aload_n dX7_readAsk_49 rfl rfl ?_
    refine fx_aload_n dX7_readAsk_50 rfl rfl ?_
    refine fx_iload_n dX7_readAsk_51 rfl rfl ?_
    obtain ⟨p3, ep3, h⟩ := xBind_el h
    refine gx_callv (as := [.ref a1, .int a2]) (r := []) rfl dX7_readAsk_52 ca_7_117 rfl me_77 rfl rfl rfl rfl (ha0.1) rfl (fX7_readSum_ok (d := d) (by omega) ha0 ha1 ep3) rfl rfl ?_
    refine fx_if_ne (t := 60) dX7_readAsk_55 rfl rfl (fun hc4 => ?_) (fun hc4 => ?_)
    · rw [if_pos hc4] at h
      refine fx_aload_n dX7_readAsk_60 rfl rfl ?_
      obtain ⟨p5, ep5, h⟩ := xBind_el h
      refine gx_callv (as := []) (r := []) rfl dX7_readAsk_61 ca_7_51 rfl me_72 rfl rfl rfl rfl (ha0.1) rfl (fX7_kind_ok (d := d) (by omega) ha0 ep5) rfl rfl ?_
      refine fx_istore_n (ls2 := [some (.ref a0), some (.ref a1), some (.int a2), some (.int p5.1), o4]) dX7_readAsk_64 rfl rfl rfl ?_
      refine fx_iload_n dX7_readAsk_65 rfl rfl ?_
      refine fx_iconst (x := 3) dX7_readAsk_66 rfl (by decide) ?_
      refine fx_icmp_lt (t := 76) dX7_readAsk_67 rfl rfl (fun hc6 => ?_) (fun hc6 => ?_)
      · rw [if_pos hc6] at h
        exact fX7_readAskP_76_ok (o3 := some (.int p5.1)) (o4 := o4) hd hg84 ha0 ha1 rfl q4 h
      · rw [if_neg hc6] at h
        refine fx_iload_n dX7_readAsk_70 rfl rfl ?_
        refine fx_bipush (x := 8) dX7_readAsk_71 rfl (by decide) ?_
        refine fx_icmp_le (t := 82) dX7_readAsk_73 rfl rfl (fun hc7 => ?_) (fun hc7 => ?_)
        · rw [if_pos hc7] at h
          refine fx_aload_n dX7_readAsk_82 rfl rfl ?_
          refine fx_dup dX7_readAsk_83 rfl rfl ?_
          obtain ⟨x8, hx8, h⟩ := xLet_el h
          refine gx_get dX7_readAsk_84 rfl fd_7_37 ha0.1 rfl rfl hx8 ?_
          refine fx_iconst (x := 1) dX7_readAsk_87 rfl (by decide) ?_
          obtain ⟨x9, hx9, h⟩ := xLet_el h
          refine fx_iadd dX7_readAsk_88 rfl hx9 ?_
          obtain ⟨m10, hm10, h⟩ := xLet_el h
          refine gx_put dX7_readAsk_89 rfl fd_7_37 ha0.1 rfl rfl rfl hm10 ?_
          refine fx_aload_n dX7_readAsk_92 rfl rfl ?_
          refine fx_aload_n dX7_readAsk_93 rfl rfl ?_
          refine fx_iload_n dX7_readAsk_94 rfl rfl ?_
          obtain ⟨p11, ep11, h⟩ := xBind_el h
          refine gx_callv (as := [.ref a1, .int a2]) (r := []) rfl dX7_readAsk_95 ca_7_117 rfl me_77 rfl rfl rfl rfl (ha0.1) rfl (fX7_readSum_ok (d := d) (by omega) ha0 ha1 ep11) rfl rfl ?_
          refine fx_istore (ls2 := [some (.ref a0), some (.ref a1), some (.int a2), some (.int p5.1), some (.int p11.1)]) dX7_readAsk_98 rfl rfl rfl ?_
          refine fx_aload_n dX7_readAsk_100 rfl rfl ?_
          refine fx_iload_n dX7_readAsk_101 rfl rfl ?_
          refine fx_iconst (x := 0) dX7_readAsk_102 rfl (by decide) ?_
          obtain ⟨p12, ep12, h⟩ := xBind_el h
          refine gx_callv (as := [.int p5.1, .int (0 : Int32)]) (r := []) rfl dX7_readAsk_103 ca_7_130 rfl me_78 rfl rfl rfl rfl (ha1.1) rfl (fX10_add_ok (d := d) (by omega) ha1 ep12) rfl rfl ?_
          refine fx_iload dX7_readAsk_106 rfl rfl ?_
          obtain ⟨hb13, h⟩ := xChk_el h
          cases h
          exact fx_ireturn dX7_readAsk_108 rfl (by show ((decide _ || decide _) && _) = true; rw [hb13]; rfl)
        · rw [if_neg hc7] at h
          exact fX7_readAskP_76_ok (o3 := some (.int p5.1)) (o4 := o4) hd hg84 ha0 ha1 rfl q4 h
    · rw [if_neg hc4] at h
      refine fx_iconst (x := 0) dX7_readAsk_58 rfl (by decide) ?_
      cases h
      exact fx_ireturn dX7_readAsk_59 rfl rfl
  · rw [if_neg hc2] at h
    refine fx_iload_n dX7_readAsk_9 rfl rfl ?_
    refine fx_bipush (x := 8) dX7_readAsk_10 rfl (by decide) ?_
    refine fx_icmp_lt (t := 21) dX7_readAsk_12 rfl rfl (fun hc14 => ?_) (fun hc14 => ?_)
    · rw [if_pos hc14] at h
      refine fx_aload_n dX7_readAsk_21 rfl rfl ?_
      refine fx_dup dX7_readAsk_22 rfl rfl ?_
      obtain ⟨x15, hx15, h⟩ := xLet_el h
      refine gx_get dX7_readAsk_23 rfl fd_7_37 ha0.1 rfl rfl hx15 ?_
      refine fx_iconst (x := 1) dX7_readAsk_26 rfl (by decide) ?_
      obtain ⟨x16, hx16, h⟩ := xLet_el h
      refine fx_iadd dX7_readAsk_27 rfl hx16 ?_
      obtain ⟨m17, hm17, h⟩ := xLet_el h
      refine gx_put dX7_readAsk_28 rfl fd_7_37 ha0.1 rfl rfl rfl hm17 ?_
      refine fx_aload_n dX7_readAsk_31 rfl rfl ?_
      refine fx_aload_n dX7_readAsk_32 rfl rfl ?_
      refine fx_iload_n dX7_readAsk_33 rfl rfl ?_
      refine fx_iconst (x := 1) dX7_readAsk_34 rfl (by decide) ?_
      obtain ⟨x18, hx18, h⟩ := xLet_el h
      refine fx_iadd dX7_readAsk_35 rfl hx18 ?_
      obtain ⟨p19, ep19, h⟩ := xBind_el h
      refine gx_callv (as := [.ref a1, .int x18]) (r := []) rfl dX7_readAsk_36 ca_7_133 rfl me_84 rfl rfl rfl rfl (ha0.1) rfl (hg84 _ _ _ _ _ ha0 ha1 ep19) rfl rfl ?_
      refine fx_istore_n (ls2 := [some (.ref a0), some (.ref a1), some (.int a2), some (.int p19.1), o4]) dX7_readAsk_39 rfl rfl rfl ?_
      refine fx_aload_n dX7_readAsk_40 rfl rfl ?_
      refine fx_bipush (x := 25) dX7_readAsk_41 rfl (by decide) ?_
      refine fx_iconst (x := 0) dX7_readAsk_43 rfl (by decide) ?_
      obtain ⟨p20, ep20, h⟩ := xBind_el h
      refine gx_callv (as := [.int (25 : Int32), .int (0 : Int32)]) (r := []) rfl dX7_readAsk_44 ca_7_130 rfl me_78 rfl rfl rfl rfl (ha1.1) rfl (fX10_add_ok (d := d) (by omega) ha1 ep20) rfl rfl ?_
      refine fx_iload_n dX7_readAsk_47 rfl rfl ?_
      obtain ⟨hb21, h⟩ := xChk_el h
      cases h
      exact fx_ireturn dX7_readAsk_48 rfl (by show ((decide _ || decide _) && _) = true; rw [hb21]; rfl)
    · rw [if_neg hc14] at h
      refine fx_aload_n dX7_readAsk_15 rfl rfl ?_
      refine fx_iconst (x := 3) dX7_readAsk_16 rfl (by decide) ?_
      obtain ⟨p22, ep22, h⟩ := xBind_el h
      refine gx_callv (as := [.int (3 : Int32)]) (r := []) rfl dX7_readAsk_17 ca_7_107 rfl me_74 rfl rfl rfl rfl (ha0.1) rfl (fX7_fails_ok (d := d) (by omega) ha0 ep22) rfl rfl ?_
      obtain ⟨hb23, h⟩ := xChk_el h
      cases h
      exact fx_ireturn dX7_readAsk_20 rfl (by show ((decide _ || decide _) && _) = true; rw [hb23]; rfl)
def fX7_readAskP (g84 : Nat → Nat → Int32 → xMem → Option (Int32 × xMem)) (a0 : Nat) (a1 : Nat) (a2 : Int32) (m : xMem) : Option (Int32 × xMem) := fX7_readAskP_0 g84 a0 a1 a2  m
theorem fX7_readAskP_ok {g84 : Nat → Nat → Int32 → xMem → Option (Int32 × xMem)} {a0 : Nat} {a1 : Nat} {a2 : Int32} {m : xMem} {r : (Int32 × xMem)} {d : Nat} (hd : 33 ≤ d) (hg84 : ∀ (a0 a1 : Nat) (a2 : Int32) (m : xMem) (r : Int32 × xMem), isReader a0 → isText a1 → g84 a0 a1 a2 m = some r → xEx d 84 [.ref a0, .ref a1, .int a2] (xLay m) (some (.int r.1)) (xLay r.2)) (ha0 : isReader a0) (ha1 : isText a1) (h : fX7_readAskP g84 a0 a1 a2 m = some r) : xEx (d + 1) 84 [.ref a0, .ref a1, .int a2] (xLay m) (some (.int r.1)) (xLay r.2) := xEx_of me_84 rfl (fX7_readAskP_0_ok (d := d) (o3 := none) (o4 := none) (by omega) hg84 ha0 ha1 rfl rfl h)
/-- readAsk with so many levels below -/
def fX7_recA : Nat → Nat → Nat → Int32 → xMem → Option (Int32 × xMem)
  | 0 => fun _ _ _ _ => none
  | n + 1 => fun a0 a1 a2 m => fX7_readAskP (fX7_recA n) a0 a1 a2 m
theorem fX7_recA_ok : ∀ (n d : Nat), 33 + n ≤ d → ∀ (a0 a1 : Nat) (a2 : Int32) (m : xMem) (r : Int32 × xMem), isReader a0 → isText a1 → fX7_recA n a0 a1 a2 m = some r → xEx d 84 [.ref a0, .ref a1, .int a2] (xLay m) (some (.int r.1)) (xLay r.2) := by
  intro n
  induction n with
  | zero => intro d _ a0 a1 a2 m r _ _ h; cases h
  | succ n ih =>
    intro d hd a0 a1 a2 m r ha0 ha1 h
    obtain ⟨d, rfl⟩ : ∃ q, d = q + 1 := ⟨d - 1, by omega⟩
    exact fX7_readAskP_ok (d := d) (by omega) (fun b0 b1 b2 m' r' => ih d (by omega) b0 b1 b2 m' r') ha0 ha1 h
def fX7_readAsk (a0 a1 : Nat) (a2 : Int32) (m : xMem) : Option (Int32 × xMem) := fX7_recA 10 a0 a1 a2 m
theorem fX7_readAsk_ok {a0 a1 : Nat} {a2 : Int32} {m : xMem} {r : (Int32 × xMem)} {d : Nat} (hd : 44 ≤ d) (ha0 : isReader a0) (ha1 : isText a1) (h : fX7_readAsk a0 a1 a2 m = some r) : xEx d 84 [.ref a0, .ref a1, .int a2] (xLay m) (some (.int r.1)) (xLay r.2) := fX7_recA_ok 10 d (by omega) a0 a1 a2 m r ha0 ha1 h
