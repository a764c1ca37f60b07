theorem bdX3_turnTo_0 : (decode cX3_turnTo 0 = .ok (.iload_n 1, 1)) ∧ (decode cX3_turnTo 1 = .ok (.ifCond .ne 9, 3)) ∧ (decode cX3_turnTo 4 = .ok (.aload_n 0, 1)) ∧ (decode cX3_turnTo 5 = .ok (.iconst 0, 1)) ∧ (decode cX3_turnTo 6 = .ok (.putfield 49, 3)) ∧ (decode cX3_turnTo 9 = .ok (.return_, 1)) ∧ (decode cX3_turnTo 10 = .ok (.aload_n 0, 1)) ∧ (decode cX3_turnTo 11 = .ok (.iload_n 1, 1)) ∧ (decode cX3_turnTo 12 = .ok (.putfield 34, 3)) ∧ (decode cX3_turnTo 15 = .ok (.aload_n 0, 1)) ∧ (decode cX3_turnTo 16 = .ok (.getfield 40, 3)) ∧ (decode cX3_turnTo 19 = .ok (.ifCond .eq 11, 3)) ∧ (decode cX3_turnTo 22 = .ok (.aload_n 0, 1)) ∧ (decode cX3_turnTo 23 = .ok (.getfield 31, 3)) ∧ (decode cX3_turnTo 26 = .ok (.iload_n 1, 1)) ∧ (decode cX3_turnTo 27 = .ok (.if_icmp .ne 13, 3)) := by decide +kernel
theorem dX3_turnTo_0 : decode cX3_turnTo 0 = .ok (.iload_n 1, 1) := bdX3_turnTo_0.1
theorem dX3_turnTo_1 : decode cX3_turnTo 1 = .ok (.ifCond .ne 9, 3) := bdX3_turnTo_0.2.1
theorem dX3_turnTo_4 : decode cX3_turnTo 4 = .ok (.aload_n 0, 1) := bdX3_turnTo_0.2.2.1
theorem dX3_turnTo_5 : decode cX3_turnTo 5 = .ok (.iconst 0, 1) := bdX3_turnTo_0.2.2.2.1
theorem dX3_turnTo_6 : decode cX3_turnTo 6 = .ok (.putfield 49, 3) := bdX3_turnTo_0.2.2.2.2.1
theorem dX3_turnTo_9 : decode cX3_turnTo 9 = .ok (.return_, 1) := bdX3_turnTo_0.2.2.2.2.2.1
theorem dX3_turnTo_10 : decode cX3_turnTo 10 = .ok (.aload_n 0, 1) := bdX3_turnTo_0.2.2.2.2.2.2.1
theorem dX3_turnTo_11 : decode cX3_turnTo 11 = .ok (.iload_n 1, 1) := bdX3_turnTo_0.2.2.2.2.2.2.2.1
theorem dX3_turnTo_12 : decode cX3_turnTo 12 = .ok (.putfield 34, 3) := bdX3_turnTo_0.2.2.2.2.2.2.2.2.1
theorem dX3_turnTo_15 : decode cX3_turnTo 15 = .ok (.aload_n 0, 1) := bdX3_turnTo_0.2.2.2.2.2.2.2.2.2.1
theorem dX3_turnTo_16 : decode cX3_turnTo 16 = .ok (.getfield 40, 3) := bdX3_turnTo_0.2.2.2.2.2.2.2.2.2.2.1
theorem dX3_turnTo_19 : decode cX3_turnTo 19 = .ok (.ifCond .eq 11, 3) := bdX3_turnTo_0.2.2.2.2.2.2.2.2.2.2.2.1
theorem dX3_turnTo_22 : decode cX3_turnTo 22 = .ok (.aload_n 0, 1) := bdX3_turnTo_0.2.2.2.2.2.2.2.2.2.2.2.2.1
theorem dX3_turnTo_23 : decode cX3_turnTo 23 = .ok (.getfield 31, 3) := bdX3_turnTo_0.2.2.2.2.2.2.2.2.2.2.2.2.2.1
theorem dX3_turnTo_26 : decode cX3_turnTo 26 = .ok (.iload_n 1, 1) := bdX3_turnTo_0.2.2.2.2.2.2.2.2.2.2.2.2.2.2.1
theorem dX3_turnTo_27 : decode cX3_turnTo 27 = .ok (.if_icmp .ne 13, 3) := bdX3_turnTo_0.2.2.2.2.2.2.2.2.2.2.2.2.2.2.2
theorem bdX3_turnTo_30 : (decode cX3_turnTo 30 = .ok (.aload_n 0, 1)) ∧ (decode cX3_turnTo 31 = .ok (.iload_n 1, 1)) ∧ (decode cX3_turnTo 32 = .ok (.putfield 31, 3)) ∧ (decode cX3_turnTo 35 = .ok (.aload_n 0, 1)) ∧ (decode cX3_turnTo 36 = .ok (.iconst 1, 1)) ∧ (decode cX3_turnTo 37 = .ok (.putfield 49, 3)) ∧ (decode cX3_turnTo 40 = .ok (.return_, 1)) := by decide +kernel
theorem dX3_turnTo_30 : decode cX3_turnTo 30 = .ok (.aload_n 0, 1) := bdX3_turnTo_30.1
theorem dX3_turnTo_31 : decode cX3_turnTo 31 = .ok (.iload_n 1, 1) := bdX3_turnTo_30.2.1
theorem dX3_turnTo_32 : decode cX3_turnTo 32 = .ok (.putfield 31, 3) := bdX3_turnTo_30.2.2.1
theorem dX3_turnTo_35 : decode cX3_turnTo 35 = .ok (.aload_n 0, 1) := bdX3_turnTo_30.2.2.2.1
theorem dX3_turnTo_36 : decode cX3_turnTo 36 = .ok (.iconst 1, 1) := bdX3_turnTo_30.2.2.2.2.1
theorem dX3_turnTo_37 : decode cX3_turnTo 37 = .ok (.putfield 49, 3) := bdX3_turnTo_30.2.2.2.2.2.1
theorem dX3_turnTo_40 : decode cX3_turnTo 40 = .ok (.return_, 1) := bdX3_turnTo_30.2.2.2.2.2.2
theorem bdX11_turn_0 : (decode cX11_turn 0 = .ok (.aload_n 0, 1)) ∧ (decode cX11_turn 1 = .ok (.getfield 10, 3)) ∧ (decode cX11_turn 4 = .ok (.iload_n 1, 1)) ∧ (decode cX11_turn 5 = .ok (.invokevirtual 84, 3)) ∧ (decode cX11_turn 8 = .ok (.ifCond .eq 12, 3)) ∧ (decode cX11_turn 11 = .ok (.iload_n 2, 1)) ∧ (decode cX11_turn 12 = .ok (.iconst 0, 1)) ∧ (decode cX11_turn 13 = .ok (.iconst 2, 1)) ∧ (decode cX11_turn 14 = .ok (.invokestatic 47, 3)) ∧ (decode cX11_turn 17 = .ok (.ifCond .ne 5, 3)) ∧ (decode cX11_turn 20 = .ok (.iconst 0, 1)) ∧ (decode cX11_turn 21 = .ok (.ireturn, 1)) ∧ (decode cX11_turn 22 = .ok (.aload_n 0, 1)) ∧ (decode cX11_turn 23 = .ok (.getfield 10, 3)) ∧ (decode cX11_turn 26 = .ok (.getfield 75, 3)) ∧ (decode cX11_turn 29 = .ok (.iload_n 1, 1)) := by decide +kernel
theorem dX11_turn_0 : decode cX11_turn 0 = .ok (.aload_n 0, 1) := bdX11_turn_0.1
theorem dX11_turn_1 : decode cX11_turn 1 = .ok (.getfield 10, 3) := bdX11_turn_0.2.1
theorem dX11_turn_4 : decode cX11_turn 4 = .ok (.iload_n 1, 1) := bdX11_turn_0.2.2.1
theorem dX11_turn_5 : decode cX11_turn 5 = .ok (.invokevirtual 84, 3) := bdX11_turn_0.2.2.2.1
theorem dX11_turn_8 : decode cX11_turn 8 = .ok (.ifCond .eq 12, 3) := bdX11_turn_0.2.2.2.2.1
theorem dX11_turn_11 : decode cX11_turn 11 = .ok (.iload_n 2, 1) := bdX11_turn_0.2.2.2.2.2.1
theorem dX11_turn_12 : decode cX11_turn 12 = .ok (.iconst 0, 1) := bdX11_turn_0.2.2.2.2.2.2.1
theorem dX11_turn_13 : decode cX11_turn 13 = .ok (.iconst 2, 1) := bdX11_turn_0.2.2.2.2.2.2.2.1
theorem dX11_turn_14 : decode cX11_turn 14 = .ok (.invokestatic 47, 3) := bdX11_turn_0.2.2.2.2.2.2.2.2.1
theorem dX11_turn_17 : decode cX11_turn 17 = .ok (.ifCond .ne 5, 3) := bdX11_turn_0.2.2.2.2.2.2.2.2.2.1
theorem dX11_turn_20 : decode cX11_turn 20 = .ok (.iconst 0, 1) := bdX11_turn_0.2.2.2.2.2.2.2.2.2.2.1
theorem dX11_turn_21 : decode cX11_turn 21 = .ok (.ireturn, 1) := bdX11_turn_0.2.2.2.2.2.2.2.2.2.2.2.1
theorem dX11_turn_22 : decode cX11_turn 22 = .ok (.aload_n 0, 1) := bdX11_turn_0.2.2.2.2.2.2.2.2.2.2.2.2.1
theorem dX11_turn_23 : decode cX11_turn 23 = .ok (.getfield 10, 3) := bdX11_turn_0.2.2.2.2.2.2.2.2.2.2.2.2.2.1
theorem dX11_turn_26 : decode cX11_turn 26 = .ok (.getfield 75, 3) := bdX11_turn_0.2.2.2.2.2.2.2.2.2.2.2.2.2.2.1
theorem dX11_turn_29 : decode cX11_turn 29 = .ok (.iload_n 1, 1) := bdX11_turn_0.2.2.2.2.2.2.2.2.2.2.2.2.2.2.2
theorem bdX11_turn_30 : (decode cX11_turn 30 = .ok (.aaload, 1)) ∧ (decode cX11_turn 31 = .ok (.iload_n 2, 1)) ∧ (decode cX11_turn 32 = .ok (.invokevirtual 87, 3)) ∧ (decode cX11_turn 35 = .ok (.iconst 1, 1)) ∧ (decode cX11_turn 36 = .ok (.ireturn, 1)) := by decide +kernel
theorem dX11_turn_30 : decode cX11_turn 30 = .ok (.aaload, 1) := bdX11_turn_30.1
theorem dX11_turn_31 : decode cX11_turn 31 = .ok (.iload_n 2, 1) := bdX11_turn_30.2.1
theorem dX11_turn_32 : decode cX11_turn 32 = .ok (.invokevirtual 87, 3) := bdX11_turn_30.2.2.1
theorem dX11_turn_35 : decode cX11_turn 35 = .ok (.iconst 1, 1) := bdX11_turn_30.2.2.2.1
theorem dX11_turn_36 : decode cX11_turn 36 = .ok (.ireturn, 1) := bdX11_turn_30.2.2.2.2
theorem bdX12_isLink_0 : (decode cX12_isLink 0 = .ok (.iload_n 1, 1)) ∧ (decode cX12_isLink 1 = .ok (.iconst 0, 1)) ∧ (decode cX12_isLink 2 = .ok (.aload_n 0, 1)) ∧ (decode cX12_isLink 3 = .ok (.getfield 7, 3)) ∧ (decode cX12_isLink 6 = .ok (.iconst 2, 1)) ∧ (decode cX12_isLink 7 = .ok (.iaload, 1)) ∧ (decode cX12_isLink 8 = .ok (.iconst 1, 1)) ∧ (decode cX12_isLink 9 = .ok (.isub, 1)) ∧ (decode cX12_isLink 10 = .ok (.invokestatic 95, 3)) ∧ (decode cX12_isLink 13 = .ok (.ireturn, 1)) := by decide +kernel
theorem dX12_isLink_0 : decode cX12_isLink 0 = .ok (.iload_n 1, 1) := bdX12_isLink_0.1
theorem dX12_isLink_1 : decode cX12_isLink 1 = .ok (.iconst 0, 1) := bdX12_isLink_0.2.1
theorem dX12_isLink_2 : decode cX12_isLink 2 = .ok (.aload_n 0, 1) := bdX12_isLink_0.2.2.1
theorem dX12_isLink_3 : decode cX12_isLink 3 = .ok (.getfield 7, 3) := bdX12_isLink_0.2.2.2.1
theorem dX12_isLink_6 : decode cX12_isLink 6 = .ok (.iconst 2, 1) := bdX12_isLink_0.2.2.2.2.1
theorem dX12_isLink_7 : decode cX12_isLink 7 = .ok (.iaload, 1) := bdX12_isLink_0.2.2.2.2.2.1
theorem dX12_isLink_8 : decode cX12_isLink 8 = .ok (.iconst 1, 1) := bdX12_isLink_0.2.2.2.2.2.2.1
theorem dX12_isLink_9 : decode cX12_isLink 9 = .ok (.isub, 1) := bdX12_isLink_0.2.2.2.2.2.2.2.1
theorem dX12_isLink_10 : decode cX12_isLink 10 = .ok (.invokestatic 95, 3) := bdX12_isLink_0.2.2.2.2.2.2.2.2.1
theorem dX12_isLink_13 : decode cX12_isLink 13 = .ok (.ireturn, 1) := bdX12_isLink_0.2.2.2.2.2.2.2.2.2
theorem bdX12_linkOf_0 : (decode cX12_linkOf 0 = .ok (.aload_n 0, 1)) ∧ (decode cX12_linkOf 1 = .ok (.getfield 7, 3)) ∧ (decode cX12_linkOf 4 = .ok (.sipush 210, 3)) ∧ (decode cX12_linkOf 7 = .ok (.bipush 14, 2)) ∧ (decode cX12_linkOf 9 = .ok (.iload_n 1, 1)) ∧ (decode cX12_linkOf 10 = .ok (.imul, 1)) ∧ (decode cX12_linkOf 11 = .ok (.iadd, 1)) ∧ (decode cX12_linkOf 12 = .ok (.iload_n 2, 1)) ∧ (decode cX12_linkOf 13 = .ok (.iadd, 1)) ∧ (decode cX12_linkOf 14 = .ok (.iaload, 1)) ∧ (decode cX12_linkOf 15 = .ok (.ireturn, 1)) := by decide +kernel
theorem dX12_linkOf_0 : decode cX12_linkOf 0 = .ok (.aload_n 0, 1) := bdX12_linkOf_0.1
theorem dX12_linkOf_1 : decode cX12_linkOf 1 = .ok (.getfield 7, 3) := bdX12_linkOf_0.2.1
theorem dX12_linkOf_4 : decode cX12_linkOf 4 = .ok (.sipush 210, 3) := bdX12_linkOf_0.2.2.1
theorem dX12_linkOf_7 : decode cX12_linkOf 7 = .ok (.bipush 14, 2) := bdX12_linkOf_0.2.2.2.1
theorem dX12_linkOf_9 : decode cX12_linkOf 9 = .ok (.iload_n 1, 1) := bdX12_linkOf_0.2.2.2.2.1
theorem dX12_linkOf_10 : decode cX12_linkOf 10 = .ok (.imul, 1) := bdX12_linkOf_0.2.2.2.2.2.1
theorem dX12_linkOf_11 : decode cX12_linkOf 11 = .ok (.iadd, 1) := bdX12_linkOf_0.2.2.2.2.2.2.1
theorem dX12_linkOf_12 : decode cX12_linkOf 12 = .ok (.iload_n 2, 1) := bdX12_linkOf_0.2.2.2.2.2.2.2.1
theorem dX12_linkOf_13 : decode cX12_linkOf 13 = .ok (.iadd, 1) := bdX12_linkOf_0.2.2.2.2.2.2.2.2.1
theorem dX12_linkOf_14 : decode cX12_linkOf 14 = .ok (.iaload, 1) := bdX12_linkOf_0.2.2.2.2.2.2.2.2.2.1
theorem dX12_linkOf_15 : decode cX12_linkOf 15 = .ok (.ireturn, 1) := bdX12_linkOf_0.2.2.2.2.2.2.2.2.2.2
theorem bdX12_isStairs_0 : (decode cX12_isStairs 0 = .ok (.aload_n 0, 1)) ∧ (decode cX12_isStairs 1 = .ok (.iload_n 1, 1)) ∧ (decode cX12_isStairs 2 = .ok (.invokevirtual 99, 3)) ∧ (decode cX12_isStairs 5 = .ok (.ifCond .eq 17, 3)) ∧ (decode cX12_isStairs 8 = .ok (.aload_n 0, 1)) ∧ (decode cX12_isStairs 9 = .ok (.iload_n 1, 1)) ∧ (decode cX12_isStairs 10 = .ok (.iconst 0, 1)) ∧ (decode cX12_isStairs 11 = .ok (.invokevirtual 103, 3)) ∧ (decode cX12_isStairs 14 = .ok (.iconst 2, 1)) ∧ (decode cX12_isStairs 15 = .ok (.if_icmp .ge 7, 3)) ∧ (decode cX12_isStairs 18 = .ok (.iconst 1, 1)) ∧ (decode cX12_isStairs 19 = .ok (.goto 4, 3)) ∧ (decode cX12_isStairs 22 = .ok (.iconst 0, 1)) ∧ (decode cX12_isStairs 23 = .ok (.ireturn, 1)) := by decide +kernel
theorem dX12_isStairs_0 : decode cX12_isStairs 0 = .ok (.aload_n 0, 1) := bdX12_isStairs_0.1
theorem dX12_isStairs_1 : decode cX12_isStairs 1 = .ok (.iload_n 1, 1) := bdX12_isStairs_0.2.1
theorem dX12_isStairs_2 : decode cX12_isStairs 2 = .ok (.invokevirtual 99, 3) := bdX12_isStairs_0.2.2.1
theorem dX12_isStairs_5 : decode cX12_isStairs 5 = .ok (.ifCond .eq 17, 3) := bdX12_isStairs_0.2.2.2.1
theorem dX12_isStairs_8 : decode cX12_isStairs 8 = .ok (.aload_n 0, 1) := bdX12_isStairs_0.2.2.2.2.1
theorem dX12_isStairs_9 : decode cX12_isStairs 9 = .ok (.iload_n 1, 1) := bdX12_isStairs_0.2.2.2.2.2.1
theorem dX12_isStairs_10 : decode cX12_isStairs 10 = .ok (.iconst 0, 1) := bdX12_isStairs_0.2.2.2.2.2.2.1
theorem dX12_isStairs_11 : decode cX12_isStairs 11 = .ok (.invokevirtual 103, 3) := bdX12_isStairs_0.2.2.2.2.2.2.2.1
theorem dX12_isStairs_14 : decode cX12_isStairs 14 = .ok (.iconst 2, 1) := bdX12_isStairs_0.2.2.2.2.2.2.2.2.1
theorem dX12_isStairs_15 : decode cX12_isStairs 15 = .ok (.if_icmp .ge 7, 3) := bdX12_isStairs_0.2.2.2.2.2.2.2.2.2.1
theorem dX12_isStairs_18 : decode cX12_isStairs 18 = .ok (.iconst 1, 1) := bdX12_isStairs_0.2.2.2.2.2.2.2.2.2.2.1
theorem dX12_isStairs_19 : decode cX12_isStairs 19 = .ok (.goto 4, 3) := bdX12_isStairs_0.2.2.2.2.2.2.2.2.2.2.2.1
theorem dX12_isStairs_22 : decode cX12_isStairs 22 = .ok (.iconst 0, 1) := bdX12_isStairs_0.2.2.2.2.2.2.2.2.2.2.2.2.1
theorem dX12_isStairs_23 : decode cX12_isStairs 23 = .ok (.ireturn, 1) := bdX12_isStairs_0.2.2.2.2.2.2.2.2.2.2.2.2.2
theorem bdX12_loadOf_0 : (decode cX12_loadOf 0 = .ok (.iconst 0, 1)) ∧ (decode cX12_loadOf 1 = .ok (.istore_n 2, 1)) ∧ (decode cX12_loadOf 2 = .ok (.iconst 0, 1)) ∧ (decode cX12_loadOf 3 = .ok (.istore_n 3, 1)) ∧ (decode cX12_loadOf 4 = .ok (.iload_n 3, 1)) ∧ (decode cX12_loadOf 5 = .ok (.bipush 80, 2)) ∧ (decode cX12_loadOf 7 = .ok (.if_icmp .ge 36, 3)) ∧ (decode cX12_loadOf 10 = .ok (.iload_n 2, 1)) ∧ (decode cX12_loadOf 11 = .ok (.aload_n 0, 1)) ∧ (decode cX12_loadOf 12 = .ok (.getfield 7, 3)) ∧ (decode cX12_loadOf 15 = .ok (.sipush 580, 3)) ∧ (decode cX12_loadOf 18 = .ok (.bipush 80, 2)) ∧ (decode cX12_loadOf 20 = .ok (.iload_n 1, 1)) ∧ (decode cX12_loadOf 21 = .ok (.imul, 1)) ∧ (decode cX12_loadOf 22 = .ok (.iadd, 1)) ∧ (decode cX12_loadOf 23 = .ok (.iload_n 3, 1)) := by decide +kernel
theorem dX12_loadOf_0 : decode cX12_loadOf 0 = .ok (.iconst 0, 1) := bdX12_loadOf_0.1
theorem dX12_loadOf_1 : decode cX12_loadOf 1 = .ok (.istore_n 2, 1) := bdX12_loadOf_0.2.1
theorem dX12_loadOf_2 : decode cX12_loadOf 2 = .ok (.iconst 0, 1) := bdX12_loadOf_0.2.2.1
theorem dX12_loadOf_3 : decode cX12_loadOf 3 = .ok (.istore_n 3, 1) := bdX12_loadOf_0.2.2.2.1
theorem dX12_loadOf_4 : decode cX12_loadOf 4 = .ok (.iload_n 3, 1) := bdX12_loadOf_0.2.2.2.2.1
theorem dX12_loadOf_5 : decode cX12_loadOf 5 = .ok (.bipush 80, 2) := bdX12_loadOf_0.2.2.2.2.2.1
theorem dX12_loadOf_7 : decode cX12_loadOf 7 = .ok (.if_icmp .ge 36, 3) := bdX12_loadOf_0.2.2.2.2.2.2.1
theorem dX12_loadOf_10 : decode cX12_loadOf 10 = .ok (.iload_n 2, 1) := bdX12_loadOf_0.2.2.2.2.2.2.2.1
theorem dX12_loadOf_11 : decode cX12_loadOf 11 = .ok (.aload_n 0, 1) := bdX12_loadOf_0.2.2.2.2.2.2.2.2.1
theorem dX12_loadOf_12 : decode cX12_loadOf 12 = .ok (.getfield 7, 3) := bdX12_loadOf_0.2.2.2.2.2.2.2.2.2.1
theorem dX12_loadOf_15 : decode cX12_loadOf 15 = .ok (.sipush 580, 3) := bdX12_loadOf_0.2.2.2.2.2.2.2.2.2.2.1
theorem dX12_loadOf_18 : decode cX12_loadOf 18 = .ok (.bipush 80, 2) := bdX12_loadOf_0.2.2.2.2.2.2.2.2.2.2.2.1
theorem dX12_loadOf_20 : decode cX12_loadOf 20 = .ok (.iload_n 1, 1) := bdX12_loadOf_0.2.2.2.2.2.2.2.2.2.2.2.2.1
theorem dX12_loadOf_21 : decode cX12_loadOf 21 = .ok (.imul, 1) := bdX12_loadOf_0.2.2.2.2.2.2.2.2.2.2.2.2.2.1
theorem dX12_loadOf_22 : decode cX12_loadOf 22 = .ok (.iadd, 1) := bdX12_loadOf_0.2.2.2.2.2.2.2.2.2.2.2.2.2.2.1
theorem dX12_loadOf_23 : decode cX12_loadOf 23 = .ok (.iload_n 3, 1) := bdX12_loadOf_0.2.2.2.2.2.2.2.2.2.2.2.2.2.2.2
theorem bdX12_loadOf_24 : (decode cX12_loadOf 24 = .ok (.iadd, 1)) ∧ (decode cX12_loadOf 25 = .ok (.iaload, 1)) ∧ (decode cX12_loadOf 26 = .ok (.iconst (-1), 1)) ∧ (decode cX12_loadOf 27 = .ok (.if_icmp .eq 7, 3)) ∧ (decode cX12_loadOf 30 = .ok (.iconst 1, 1)) ∧ (decode cX12_loadOf 31 = .ok (.goto 4, 3)) ∧ (decode cX12_loadOf 34 = .ok (.iconst 0, 1)) ∧ (decode cX12_loadOf 35 = .ok (.iadd, 1)) ∧ (decode cX12_loadOf 36 = .ok (.istore_n 2, 1)) ∧ (decode cX12_loadOf 37 = .ok (.iinc 3 1, 3)) ∧ (decode cX12_loadOf 40 = .ok (.goto (-36), 3)) ∧ (decode cX12_loadOf 43 = .ok (.iload_n 2, 1)) ∧ (decode cX12_loadOf 44 = .ok (.ireturn, 1)) := by decide +kernel
theorem dX12_loadOf_24 : decode cX12_loadOf 24 = .ok (.iadd, 1) := bdX12_loadOf_24.1
theorem dX12_loadOf_25 : decode cX12_loadOf 25 = .ok (.iaload, 1) := bdX12_loadOf_24.2.1
theorem dX12_loadOf_26 : decode cX12_loadOf 26 = .ok (.iconst (-1), 1) := bdX12_loadOf_24.2.2.1
theorem dX12_loadOf_27 : decode cX12_loadOf 27 = .ok (.if_icmp .eq 7, 3) := bdX12_loadOf_24.2.2.2.1
theorem dX12_loadOf_30 : decode cX12_loadOf 30 = .ok (.iconst 1, 1) := bdX12_loadOf_24.2.2.2.2.1
theorem dX12_loadOf_31 : decode cX12_loadOf 31 = .ok (.goto 4, 3) := bdX12_loadOf_24.2.2.2.2.2.1
theorem dX12_loadOf_34 : decode cX12_loadOf 34 = .ok (.iconst 0, 1) := bdX12_loadOf_24.2.2.2.2.2.2.1
theorem dX12_loadOf_35 : decode cX12_loadOf 35 = .ok (.iadd, 1) := bdX12_loadOf_24.2.2.2.2.2.2.2.1
theorem dX12_loadOf_36 : decode cX12_loadOf 36 = .ok (.istore_n 2, 1) := bdX12_loadOf_24.2.2.2.2.2.2.2.2.1
theorem dX12_loadOf_37 : decode cX12_loadOf 37 = .ok (.iinc 3 1, 3) := bdX12_loadOf_24.2.2.2.2.2.2.2.2.2.1
theorem dX12_loadOf_40 : decode cX12_loadOf 40 = .ok (.goto (-36), 3) := bdX12_loadOf_24.2.2.2.2.2.2.2.2.2.2.1
theorem dX12_loadOf_43 : decode cX12_loadOf 43 = .ok (.iload_n 2, 1) := bdX12_loadOf_24.2.2.2.2.2.2.2.2.2.2.2.1
theorem dX12_loadOf_44 : decode cX12_loadOf 44 = .ok (.ireturn, 1) := bdX12_loadOf_24.2.2.2.2.2.2.2.2.2.2.2.2
theorem bdX12_turn_0 : (decode cX12_turn 0 = .ok (.aload_n 0, 1)) ∧ (decode cX12_turn 1 = .ok (.iload_n 1, 1)) ∧ (decode cX12_turn 2 = .ok (.invokevirtual 114, 3)) ∧ (decode cX12_turn 5 = .ok (.ifCond .eq 12, 3)) ∧ (decode cX12_turn 8 = .ok (.iload_n 2, 1)) ∧ (decode cX12_turn 9 = .ok (.iconst 0, 1)) ∧ (decode cX12_turn 10 = .ok (.iconst 2, 1)) ∧ (decode cX12_turn 11 = .ok (.invokestatic 95, 3)) ∧ (decode cX12_turn 14 = .ok (.ifCond .ne 5, 3)) ∧ (decode cX12_turn 17 = .ok (.iconst 0, 1)) ∧ (decode cX12_turn 18 = .ok (.ireturn, 1)) ∧ (decode cX12_turn 19 = .ok (.iload_n 2, 1)) ∧ (decode cX12_turn 20 = .ok (.ifCond .ne 13, 3)) ∧ (decode cX12_turn 23 = .ok (.aload_n 0, 1)) ∧ (decode cX12_turn 24 = .ok (.iload_n 1, 1)) ∧ (decode cX12_turn 25 = .ok (.bipush 6, 2)) := by decide +kernel
theorem dX12_turn_0 : decode cX12_turn 0 = .ok (.aload_n 0, 1) := bdX12_turn_0.1
theorem dX12_turn_1 : decode cX12_turn 1 = .ok (.iload_n 1, 1) := bdX12_turn_0.2.1
theorem dX12_turn_2 : decode cX12_turn 2 = .ok (.invokevirtual 114, 3) := bdX12_turn_0.2.2.1
theorem dX12_turn_5 : decode cX12_turn 5 = .ok (.ifCond .eq 12, 3) := bdX12_turn_0.2.2.2.1
theorem dX12_turn_8 : decode cX12_turn 8 = .ok (.iload_n 2, 1) := bdX12_turn_0.2.2.2.2.1
theorem dX12_turn_9 : decode cX12_turn 9 = .ok (.iconst 0, 1) := bdX12_turn_0.2.2.2.2.2.1
theorem dX12_turn_10 : decode cX12_turn 10 = .ok (.iconst 2, 1) := bdX12_turn_0.2.2.2.2.2.2.1
theorem dX12_turn_11 : decode cX12_turn 11 = .ok (.invokestatic 95, 3) := bdX12_turn_0.2.2.2.2.2.2.2.1
theorem dX12_turn_14 : decode cX12_turn 14 = .ok (.ifCond .ne 5, 3) := bdX12_turn_0.2.2.2.2.2.2.2.2.1
theorem dX12_turn_17 : decode cX12_turn 17 = .ok (.iconst 0, 1) := bdX12_turn_0.2.2.2.2.2.2.2.2.2.1
theorem dX12_turn_18 : decode cX12_turn 18 = .ok (.ireturn, 1) := bdX12_turn_0.2.2.2.2.2.2.2.2.2.2.1
theorem dX12_turn_19 : decode cX12_turn 19 = .ok (.iload_n 2, 1) := bdX12_turn_0.2.2.2.2.2.2.2.2.2.2.2.1
theorem dX12_turn_20 : decode cX12_turn 20 = .ok (.ifCond .ne 13, 3) := bdX12_turn_0.2.2.2.2.2.2.2.2.2.2.2.2.1
theorem dX12_turn_23 : decode cX12_turn 23 = .ok (.aload_n 0, 1) := bdX12_turn_0.2.2.2.2.2.2.2.2.2.2.2.2.2.1
theorem dX12_turn_24 : decode cX12_turn 24 = .ok (.iload_n 1, 1) := bdX12_turn_0.2.2.2.2.2.2.2.2.2.2.2.2.2.2.1
theorem dX12_turn_25 : decode cX12_turn 25 = .ok (.bipush 6, 2) := bdX12_turn_0.2.2.2.2.2.2.2.2.2.2.2.2.2.2.2
theorem bdX12_turn_27 : (decode cX12_turn 27 = .ok (.iconst 0, 1)) ∧ (decode cX12_turn 28 = .ok (.invokevirtual 110, 3)) ∧ (decode cX12_turn 31 = .ok (.iconst 1, 1)) ∧ (decode cX12_turn 32 = .ok (.ireturn, 1)) ∧ (decode cX12_turn 33 = .ok (.aload_n 0, 1)) ∧ (decode cX12_turn 34 = .ok (.iload_n 1, 1)) ∧ (decode cX12_turn 35 = .ok (.bipush 7, 2)) ∧ (decode cX12_turn 37 = .ok (.iload_n 2, 1)) ∧ (decode cX12_turn 38 = .ok (.invokevirtual 110, 3)) ∧ (decode cX12_turn 41 = .ok (.aload_n 0, 1)) ∧ (decode cX12_turn 42 = .ok (.iload_n 1, 1)) ∧ (decode cX12_turn 43 = .ok (.invokevirtual 117, 3)) ∧ (decode cX12_turn 46 = .ok (.ifCond .ne 10, 3)) ∧ (decode cX12_turn 49 = .ok (.aload_n 0, 1)) ∧ (decode cX12_turn 50 = .ok (.iload_n 1, 1)) ∧ (decode cX12_turn 51 = .ok (.iconst 5, 1)) := by decide +kernel
theorem dX12_turn_27 : decode cX12_turn 27 = .ok (.iconst 0, 1) := bdX12_turn_27.1
theorem dX12_turn_28 : decode cX12_turn 28 = .ok (.invokevirtual 110, 3) := bdX12_turn_27.2.1
theorem dX12_turn_31 : decode cX12_turn 31 = .ok (.iconst 1, 1) := bdX12_turn_27.2.2.1
theorem dX12_turn_32 : decode cX12_turn 32 = .ok (.ireturn, 1) := bdX12_turn_27.2.2.2.1
theorem dX12_turn_33 : decode cX12_turn 33 = .ok (.aload_n 0, 1) := bdX12_turn_27.2.2.2.2.1
theorem dX12_turn_34 : decode cX12_turn 34 = .ok (.iload_n 1, 1) := bdX12_turn_27.2.2.2.2.2.1
theorem dX12_turn_35 : decode cX12_turn 35 = .ok (.bipush 7, 2) := bdX12_turn_27.2.2.2.2.2.2.1
theorem dX12_turn_37 : decode cX12_turn 37 = .ok (.iload_n 2, 1) := bdX12_turn_27.2.2.2.2.2.2.2.1
theorem dX12_turn_38 : decode cX12_turn 38 = .ok (.invokevirtual 110, 3) := bdX12_turn_27.2.2.2.2.2.2.2.2.1
theorem dX12_turn_41 : decode cX12_turn 41 = .ok (.aload_n 0, 1) := bdX12_turn_27.2.2.2.2.2.2.2.2.2.1
theorem dX12_turn_42 : decode cX12_turn 42 = .ok (.iload_n 1, 1) := bdX12_turn_27.2.2.2.2.2.2.2.2.2.2.1
theorem dX12_turn_43 : decode cX12_turn 43 = .ok (.invokevirtual 117, 3) := bdX12_turn_27.2.2.2.2.2.2.2.2.2.2.2.1
theorem dX12_turn_46 : decode cX12_turn 46 = .ok (.ifCond .ne 10, 3) := bdX12_turn_27.2.2.2.2.2.2.2.2.2.2.2.2.1
theorem dX12_turn_49 : decode cX12_turn 49 = .ok (.aload_n 0, 1) := bdX12_turn_27.2.2.2.2.2.2.2.2.2.2.2.2.2.1
theorem dX12_turn_50 : decode cX12_turn 50 = .ok (.iload_n 1, 1) := bdX12_turn_27.2.2.2.2.2.2.2.2.2.2.2.2.2.2.1
theorem dX12_turn_51 : decode cX12_turn 51 = .ok (.iconst 5, 1) := bdX12_turn_27.2.2.2.2.2.2.2.2.2.2.2.2.2.2.2
theorem bdX12_turn_52 : (decode cX12_turn 52 = .ok (.iload_n 2, 1)) ∧ (decode cX12_turn 53 = .ok (.invokevirtual 110, 3)) ∧ (decode cX12_turn 56 = .ok (.aload_n 0, 1)) ∧ (decode cX12_turn 57 = .ok (.iload_n 1, 1)) ∧ (decode cX12_turn 58 = .ok (.iconst 5, 1)) ∧ (decode cX12_turn 59 = .ok (.invokevirtual 103, 3)) ∧ (decode cX12_turn 62 = .ok (.iload_n 2, 1)) ∧ (decode cX12_turn 63 = .ok (.if_icmp .ne 11, 3)) ∧ (decode cX12_turn 66 = .ok (.aload_n 0, 1)) ∧ (decode cX12_turn 67 = .ok (.iload_n 1, 1)) ∧ (decode cX12_turn 68 = .ok (.bipush 6, 2)) ∧ (decode cX12_turn 70 = .ok (.iconst 1, 1)) ∧ (decode cX12_turn 71 = .ok (.invokevirtual 110, 3)) ∧ (decode cX12_turn 74 = .ok (.iconst 1, 1)) ∧ (decode cX12_turn 75 = .ok (.ireturn, 1)) := by decide +kernel
theorem dX12_turn_52 : decode cX12_turn 52 = .ok (.iload_n 2, 1) := bdX12_turn_52.1
theorem dX12_turn_53 : decode cX12_turn 53 = .ok (.invokevirtual 110, 3) := bdX12_turn_52.2.1
theorem dX12_turn_56 : decode cX12_turn 56 = .ok (.aload_n 0, 1) := bdX12_turn_52.2.2.1
theorem dX12_turn_57 : decode cX12_turn 57 = .ok (.iload_n 1, 1) := bdX12_turn_52.2.2.2.1
theorem dX12_turn_58 : decode cX12_turn 58 = .ok (.iconst 5, 1) := bdX12_turn_52.2.2.2.2.1
theorem dX12_turn_59 : decode cX12_turn 59 = .ok (.invokevirtual 103, 3) := bdX12_turn_52.2.2.2.2.2.1
theorem dX12_turn_62 : decode cX12_turn 62 = .ok (.iload_n 2, 1) := bdX12_turn_52.2.2.2.2.2.2.1
theorem dX12_turn_63 : decode cX12_turn 63 = .ok (.if_icmp .ne 11, 3) := bdX12_turn_52.2.2.2.2.2.2.2.1
theorem dX12_turn_66 : decode cX12_turn 66 = .ok (.aload_n 0, 1) := bdX12_turn_52.2.2.2.2.2.2.2.2.1
theorem dX12_turn_67 : decode cX12_turn 67 = .ok (.iload_n 1, 1) := bdX12_turn_52.2.2.2.2.2.2.2.2.2.1
theorem dX12_turn_68 : decode cX12_turn 68 = .ok (.bipush 6, 2) := bdX12_turn_52.2.2.2.2.2.2.2.2.2.2.1
theorem dX12_turn_70 : decode cX12_turn 70 = .ok (.iconst 1, 1) := bdX12_turn_52.2.2.2.2.2.2.2.2.2.2.2.1
theorem dX12_turn_71 : decode cX12_turn 71 = .ok (.invokevirtual 110, 3) := bdX12_turn_52.2.2.2.2.2.2.2.2.2.2.2.2.1
theorem dX12_turn_74 : decode cX12_turn 74 = .ok (.iconst 1, 1) := bdX12_turn_52.2.2.2.2.2.2.2.2.2.2.2.2.2.1
theorem dX12_turn_75 : decode cX12_turn 75 = .ok (.ireturn, 1) := bdX12_turn_52.2.2.2.2.2.2.2.2.2.2.2.2.2.2
theorem bdX9_hasStair_0 : (decode cX9_hasStair 0 = .ok (.aload_n 0, 1)) ∧ (decode cX9_hasStair 1 = .ok (.iload_n 1, 1)) ∧ (decode cX9_hasStair 2 = .ok (.invokevirtual 63, 3)) ∧ (decode cX9_hasStair 5 = .ok (.ifCond .eq 19, 3)) ∧ (decode cX9_hasStair 8 = .ok (.aload_n 0, 1)) ∧ (decode cX9_hasStair 9 = .ok (.getfield 19, 3)) ∧ (decode cX9_hasStair 12 = .ok (.iload_n 1, 1)) ∧ (decode cX9_hasStair 13 = .ok (.aaload, 1)) ∧ (decode cX9_hasStair 14 = .ok (.getfield 67, 3)) ∧ (decode cX9_hasStair 17 = .ok (.ifCond .ne 7, 3)) ∧ (decode cX9_hasStair 20 = .ok (.iconst 1, 1)) ∧ (decode cX9_hasStair 21 = .ok (.goto 4, 3)) ∧ (decode cX9_hasStair 24 = .ok (.iconst 0, 1)) ∧ (decode cX9_hasStair 25 = .ok (.ireturn, 1)) := by decide +kernel
theorem dX9_hasStair_0 : decode cX9_hasStair 0 = .ok (.aload_n 0, 1) := bdX9_hasStair_0.1
theorem dX9_hasStair_1 : decode cX9_hasStair 1 = .ok (.iload_n 1, 1) := bdX9_hasStair_0.2.1
theorem dX9_hasStair_2 : decode cX9_hasStair 2 = .ok (.invokevirtual 63, 3) := bdX9_hasStair_0.2.2.1
theorem dX9_hasStair_5 : decode cX9_hasStair 5 = .ok (.ifCond .eq 19, 3) := bdX9_hasStair_0.2.2.2.1
theorem dX9_hasStair_8 : decode cX9_hasStair 8 = .ok (.aload_n 0, 1) := bdX9_hasStair_0.2.2.2.2.1
theorem dX9_hasStair_9 : decode cX9_hasStair 9 = .ok (.getfield 19, 3) := bdX9_hasStair_0.2.2.2.2.2.1
theorem dX9_hasStair_12 : decode cX9_hasStair 12 = .ok (.iload_n 1, 1) := bdX9_hasStair_0.2.2.2.2.2.2.1
theorem dX9_hasStair_13 : decode cX9_hasStair 13 = .ok (.aaload, 1) := bdX9_hasStair_0.2.2.2.2.2.2.2.1
theorem dX9_hasStair_14 : decode cX9_hasStair 14 = .ok (.getfield 67, 3) := bdX9_hasStair_0.2.2.2.2.2.2.2.2.1
theorem dX9_hasStair_17 : decode cX9_hasStair 17 = .ok (.ifCond .ne 7, 3) := bdX9_hasStair_0.2.2.2.2.2.2.2.2.2.1
theorem dX9_hasStair_20 : decode cX9_hasStair 20 = .ok (.iconst 1, 1) := bdX9_hasStair_0.2.2.2.2.2.2.2.2.2.2.1
theorem dX9_hasStair_21 : decode cX9_hasStair 21 = .ok (.goto 4, 3) := bdX9_hasStair_0.2.2.2.2.2.2.2.2.2.2.2.1
theorem dX9_hasStair_24 : decode cX9_hasStair 24 = .ok (.iconst 0, 1) := bdX9_hasStair_0.2.2.2.2.2.2.2.2.2.2.2.2.1
theorem dX9_hasStair_25 : decode cX9_hasStair 25 = .ok (.ireturn, 1) := bdX9_hasStair_0.2.2.2.2.2.2.2.2.2.2.2.2.2
theorem bdX11_mode_0 : (decode cX11_mode 0 = .ok (.aload_n 0, 1)) ∧ (decode cX11_mode 1 = .ok (.getfield 10, 3)) ∧ (decode cX11_mode 4 = .ok (.iload_n 1, 1)) ∧ (decode cX11_mode 5 = .ok (.invokevirtual 90, 3)) ∧ (decode cX11_mode 8 = .ok (.ifCond .eq 12, 3)) ∧ (decode cX11_mode 11 = .ok (.iload_n 2, 1)) ∧ (decode cX11_mode 12 = .ok (.iconst 0, 1)) ∧ (decode cX11_mode 13 = .ok (.iconst 1, 1)) ∧ (decode cX11_mode 14 = .ok (.invokestatic 47, 3)) ∧ (decode cX11_mode 17 = .ok (.ifCond .ne 5, 3)) ∧ (decode cX11_mode 20 = .ok (.iconst 0, 1)) ∧ (decode cX11_mode 21 = .ok (.ireturn, 1)) ∧ (decode cX11_mode 22 = .ok (.aload_n 0, 1)) ∧ (decode cX11_mode 23 = .ok (.getfield 10, 3)) ∧ (decode cX11_mode 26 = .ok (.getfield 75, 3)) ∧ (decode cX11_mode 29 = .ok (.iload_n 1, 1)) := by decide +kernel
theorem dX11_mode_0 : decode cX11_mode 0 = .ok (.aload_n 0, 1) := bdX11_mode_0.1
theorem dX11_mode_1 : decode cX11_mode 1 = .ok (.getfield 10, 3) := bdX11_mode_0.2.1
theorem dX11_mode_4 : decode cX11_mode 4 = .ok (.iload_n 1, 1) := bdX11_mode_0.2.2.1
theorem dX11_mode_5 : decode cX11_mode 5 = .ok (.invokevirtual 90, 3) := bdX11_mode_0.2.2.2.1
theorem dX11_mode_8 : decode cX11_mode 8 = .ok (.ifCond .eq 12, 3) := bdX11_mode_0.2.2.2.2.1
theorem dX11_mode_11 : decode cX11_mode 11 = .ok (.iload_n 2, 1) := bdX11_mode_0.2.2.2.2.2.1
theorem dX11_mode_12 : decode cX11_mode 12 = .ok (.iconst 0, 1) := bdX11_mode_0.2.2.2.2.2.2.1
theorem dX11_mode_13 : decode cX11_mode 13 = .ok (.iconst 1, 1) := bdX11_mode_0.2.2.2.2.2.2.2.1
theorem dX11_mode_14 : decode cX11_mode 14 = .ok (.invokestatic 47, 3) := bdX11_mode_0.2.2.2.2.2.2.2.2.1
theorem dX11_mode_17 : decode cX11_mode 17 = .ok (.ifCond .ne 5, 3) := bdX11_mode_0.2.2.2.2.2.2.2.2.2.1
theorem dX11_mode_20 : decode cX11_mode 20 = .ok (.iconst 0, 1) := bdX11_mode_0.2.2.2.2.2.2.2.2.2.2.1
theorem dX11_mode_21 : decode cX11_mode 21 = .ok (.ireturn, 1) := bdX11_mode_0.2.2.2.2.2.2.2.2.2.2.2.1
theorem dX11_mode_22 : decode cX11_mode 22 = .ok (.aload_n 0, 1) := bdX11_mode_0.2.2.2.2.2.2.2.2.2.2.2.2.1
theorem dX11_mode_23 : decode cX11_mode 23 = .ok (.getfield 10, 3) := bdX11_mode_0.2.2.2.2.2.2.2.2.2.2.2.2.2.1
theorem dX11_mode_26 : decode cX11_mode 26 = .ok (.getfield 75, 3) := bdX11_mode_0.2.2.2.2.2.2.2.2.2.2.2.2.2.2.1
theorem dX11_mode_29 : decode cX11_mode 29 = .ok (.iload_n 1, 1) := bdX11_mode_0.2.2.2.2.2.2.2.2.2.2.2.2.2.2.2
theorem bdX11_mode_30 : (decode cX11_mode 30 = .ok (.aaload, 1)) ∧ (decode cX11_mode 31 = .ok (.iload_n 2, 1)) ∧ (decode cX11_mode 32 = .ok (.putfield 93, 3)) ∧ (decode cX11_mode 35 = .ok (.iconst 1, 1)) ∧ (decode cX11_mode 36 = .ok (.ireturn, 1)) := by decide +kernel
theorem dX11_mode_30 : decode cX11_mode 30 = .ok (.aaload, 1) := bdX11_mode_30.1
theorem dX11_mode_31 : decode cX11_mode 31 = .ok (.iload_n 2, 1) := bdX11_mode_30.2.1
theorem dX11_mode_32 : decode cX11_mode 32 = .ok (.putfield 93, 3) := bdX11_mode_30.2.2.1
theorem dX11_mode_35 : decode cX11_mode 35 = .ok (.iconst 1, 1) := bdX11_mode_30.2.2.2.1
theorem dX11_mode_36 : decode cX11_mode 36 = .ok (.ireturn, 1) := bdX11_mode_30.2.2.2.2
theorem bdX12_mode_0 : (decode cX12_mode 0 = .ok (.aload_n 0, 1)) ∧ (decode cX12_mode 1 = .ok (.iload_n 1, 1)) ∧ (decode cX12_mode 2 = .ok (.invokevirtual 99, 3)) ∧ (decode cX12_mode 5 = .ok (.ifCond .eq 21, 3)) ∧ (decode cX12_mode 8 = .ok (.aload_n 0, 1)) ∧ (decode cX12_mode 9 = .ok (.iload_n 1, 1)) ∧ (decode cX12_mode 10 = .ok (.iconst 0, 1)) ∧ (decode cX12_mode 11 = .ok (.invokevirtual 103, 3)) ∧ (decode cX12_mode 14 = .ok (.ifCond .ne 12, 3)) ∧ (decode cX12_mode 17 = .ok (.iload_n 2, 1)) ∧ (decode cX12_mode 18 = .ok (.iconst 0, 1)) ∧ (decode cX12_mode 19 = .ok (.iconst 1, 1)) ∧ (decode cX12_mode 20 = .ok (.invokestatic 95, 3)) ∧ (decode cX12_mode 23 = .ok (.ifCond .ne 5, 3)) ∧ (decode cX12_mode 26 = .ok (.iconst 0, 1)) ∧ (decode cX12_mode 27 = .ok (.ireturn, 1)) := by decide +kernel
theorem dX12_mode_0 : decode cX12_mode 0 = .ok (.aload_n 0, 1) := bdX12_mode_0.1
theorem dX12_mode_1 : decode cX12_mode 1 = .ok (.iload_n 1, 1) := bdX12_mode_0.2.1
theorem dX12_mode_2 : decode cX12_mode 2 = .ok (.invokevirtual 99, 3) := bdX12_mode_0.2.2.1
theorem dX12_mode_5 : decode cX12_mode 5 = .ok (.ifCond .eq 21, 3) := bdX12_mode_0.2.2.2.1
theorem dX12_mode_8 : decode cX12_mode 8 = .ok (.aload_n 0, 1) := bdX12_mode_0.2.2.2.2.1
theorem dX12_mode_9 : decode cX12_mode 9 = .ok (.iload_n 1, 1) := bdX12_mode_0.2.2.2.2.2.1
theorem dX12_mode_10 : decode cX12_mode 10 = .ok (.iconst 0, 1) := bdX12_mode_0.2.2.2.2.2.2.1
theorem dX12_mode_11 : decode cX12_mode 11 = .ok (.invokevirtual 103, 3) := bdX12_mode_0.2.2.2.2.2.2.2.1
theorem dX12_mode_14 : decode cX12_mode 14 = .ok (.ifCond .ne 12, 3) := bdX12_mode_0.2.2.2.2.2.2.2.2.1
theorem dX12_mode_17 : decode cX12_mode 17 = .ok (.iload_n 2, 1) := bdX12_mode_0.2.2.2.2.2.2.2.2.2.1
theorem dX12_mode_18 : decode cX12_mode 18 = .ok (.iconst 0, 1) := bdX12_mode_0.2.2.2.2.2.2.2.2.2.2.1
theorem dX12_mode_19 : decode cX12_mode 19 = .ok (.iconst 1, 1) := bdX12_mode_0.2.2.2.2.2.2.2.2.2.2.2.1
theorem dX12_mode_20 : decode cX12_mode 20 = .ok (.invokestatic 95, 3) := bdX12_mode_0.2.2.2.2.2.2.2.2.2.2.2.2.1
theorem dX12_mode_23 : decode cX12_mode 23 = .ok (.ifCond .ne 5, 3) := bdX12_mode_0.2.2.2.2.2.2.2.2.2.2.2.2.2.1
theorem dX12_mode_26 : decode cX12_mode 26 = .ok (.iconst 0, 1) := bdX12_mode_0.2.2.2.2.2.2.2.2.2.2.2.2.2.2.1
theorem dX12_mode_27 : decode cX12_mode 27 = .ok (.ireturn, 1) := bdX12_mode_0.2.2.2.2.2.2.2.2.2.2.2.2.2.2.2
theorem bdX12_mode_28 : (decode cX12_mode 28 = .ok (.aload_n 0, 1)) ∧ (decode cX12_mode 29 = .ok (.iload_n 1, 1)) ∧ (decode cX12_mode 30 = .ok (.bipush 8, 2)) ∧ (decode cX12_mode 32 = .ok (.iload_n 2, 1)) ∧ (decode cX12_mode 33 = .ok (.invokevirtual 110, 3)) ∧ (decode cX12_mode 36 = .ok (.iconst 1, 1)) ∧ (decode cX12_mode 37 = .ok (.ireturn, 1)) := by decide +kernel
theorem dX12_mode_28 : decode cX12_mode 28 = .ok (.aload_n 0, 1) := bdX12_mode_28.1
theorem dX12_mode_29 : decode cX12_mode 29 = .ok (.iload_n 1, 1) := bdX12_mode_28.2.1
theorem dX12_mode_30 : decode cX12_mode 30 = .ok (.bipush 8, 2) := bdX12_mode_28.2.2.1
theorem dX12_mode_32 : decode cX12_mode 32 = .ok (.iload_n 2, 1) := bdX12_mode_28.2.2.2.1
theorem dX12_mode_33 : decode cX12_mode 33 = .ok (.invokevirtual 110, 3) := bdX12_mode_28.2.2.2.2.1
theorem dX12_mode_36 : decode cX12_mode 36 = .ok (.iconst 1, 1) := bdX12_mode_28.2.2.2.2.2.1
theorem dX12_mode_37 : decode cX12_mode 37 = .ok (.ireturn, 1) := bdX12_mode_28.2.2.2.2.2.2
theorem bdX11_reset_0 : (decode cX11_reset 0 = .ok (.aload_n 0, 1)) ∧ (decode cX11_reset 1 = .ok (.getfield 10, 3)) ∧ (decode cX11_reset 4 = .ok (.iload_n 1, 1)) ∧ (decode cX11_reset 5 = .ok (.invokevirtual 96, 3)) ∧ (decode cX11_reset 8 = .ok (.ifCond .eq 18, 3)) ∧ (decode cX11_reset 11 = .ok (.aload_n 0, 1)) ∧ (decode cX11_reset 12 = .ok (.getfield 10, 3)) ∧ (decode cX11_reset 15 = .ok (.getfield 75, 3)) ∧ (decode cX11_reset 18 = .ok (.iload_n 1, 1)) ∧ (decode cX11_reset 19 = .ok (.aaload, 1)) ∧ (decode cX11_reset 20 = .ok (.getfield 99, 3)) ∧ (decode cX11_reset 23 = .ok (.ifCond .ne 5, 3)) ∧ (decode cX11_reset 26 = .ok (.iconst 0, 1)) ∧ (decode cX11_reset 27 = .ok (.ireturn, 1)) ∧ (decode cX11_reset 28 = .ok (.aload_n 0, 1)) ∧ (decode cX11_reset 29 = .ok (.getfield 10, 3)) := by decide +kernel
theorem dX11_reset_0 : decode cX11_reset 0 = .ok (.aload_n 0, 1) := bdX11_reset_0.1
theorem dX11_reset_1 : decode cX11_reset 1 = .ok (.getfield 10, 3) := bdX11_reset_0.2.1
theorem dX11_reset_4 : decode cX11_reset 4 = .ok (.iload_n 1, 1) := bdX11_reset_0.2.2.1
theorem dX11_reset_5 : decode cX11_reset 5 = .ok (.invokevirtual 96, 3) := bdX11_reset_0.2.2.2.1
theorem dX11_reset_8 : decode cX11_reset 8 = .ok (.ifCond .eq 18, 3) := bdX11_reset_0.2.2.2.2.1
theorem dX11_reset_11 : decode cX11_reset 11 = .ok (.aload_n 0, 1) := bdX11_reset_0.2.2.2.2.2.1
theorem dX11_reset_12 : decode cX11_reset 12 = .ok (.getfield 10, 3) := bdX11_reset_0.2.2.2.2.2.2.1
theorem dX11_reset_15 : decode cX11_reset 15 = .ok (.getfield 75, 3) := bdX11_reset_0.2.2.2.2.2.2.2.1
theorem dX11_reset_18 : decode cX11_reset 18 = .ok (.iload_n 1, 1) := bdX11_reset_0.2.2.2.2.2.2.2.2.1
theorem dX11_reset_19 : decode cX11_reset 19 = .ok (.aaload, 1) := bdX11_reset_0.2.2.2.2.2.2.2.2.2.1
theorem dX11_reset_20 : decode cX11_reset 20 = .ok (.getfield 99, 3) := bdX11_reset_0.2.2.2.2.2.2.2.2.2.2.1
theorem dX11_reset_23 : decode cX11_reset 23 = .ok (.ifCond .ne 5, 3) := bdX11_reset_0.2.2.2.2.2.2.2.2.2.2.2.1
theorem dX11_reset_26 : decode cX11_reset 26 = .ok (.iconst 0, 1) := bdX11_reset_0.2.2.2.2.2.2.2.2.2.2.2.2.1
theorem dX11_reset_27 : decode cX11_reset 27 = .ok (.ireturn, 1) := bdX11_reset_0.2.2.2.2.2.2.2.2.2.2.2.2.2.1
theorem dX11_reset_28 : decode cX11_reset 28 = .ok (.aload_n 0, 1) := bdX11_reset_0.2.2.2.2.2.2.2.2.2.2.2.2.2.2.1
theorem dX11_reset_29 : decode cX11_reset 29 = .ok (.getfield 10, 3) := bdX11_reset_0.2.2.2.2.2.2.2.2.2.2.2.2.2.2.2
theorem bdX11_reset_32 : (decode cX11_reset 32 = .ok (.getfield 75, 3)) ∧ (decode cX11_reset 35 = .ok (.iload_n 1, 1)) ∧ (decode cX11_reset 36 = .ok (.aaload, 1)) ∧ (decode cX11_reset 37 = .ok (.iconst 0, 1)) ∧ (decode cX11_reset 38 = .ok (.putfield 99, 3)) ∧ (decode cX11_reset 41 = .ok (.iconst 1, 1)) ∧ (decode cX11_reset 42 = .ok (.ireturn, 1)) := by decide +kernel
theorem dX11_reset_32 : decode cX11_reset 32 = .ok (.getfield 75, 3) := bdX11_reset_32.1
theorem dX11_reset_35 : decode cX11_reset 35 = .ok (.iload_n 1, 1) := bdX11_reset_32.2.1
theorem dX11_reset_36 : decode cX11_reset 36 = .ok (.aaload, 1) := bdX11_reset_32.2.2.1
theorem dX11_reset_37 : decode cX11_reset 37 = .ok (.iconst 0, 1) := bdX11_reset_32.2.2.2.1
theorem dX11_reset_38 : decode cX11_reset 38 = .ok (.putfield 99, 3) := bdX11_reset_32.2.2.2.2.1
theorem dX11_reset_41 : decode cX11_reset 41 = .ok (.iconst 1, 1) := bdX11_reset_32.2.2.2.2.2.1
theorem dX11_reset_42 : decode cX11_reset 42 = .ok (.ireturn, 1) := bdX11_reset_32.2.2.2.2.2.2
theorem bdX12_reset_0 : (decode cX12_reset 0 = .ok (.aload_n 0, 1)) ∧ (decode cX12_reset 1 = .ok (.iload_n 1, 1)) ∧ (decode cX12_reset 2 = .ok (.invokevirtual 99, 3)) ∧ (decode cX12_reset 5 = .ok (.ifCond .eq 13, 3)) ∧ (decode cX12_reset 8 = .ok (.aload_n 0, 1)) ∧ (decode cX12_reset 9 = .ok (.iload_n 1, 1)) ∧ (decode cX12_reset 10 = .ok (.bipush 9, 2)) ∧ (decode cX12_reset 12 = .ok (.invokevirtual 103, 3)) ∧ (decode cX12_reset 15 = .ok (.ifCond .ne 5, 3)) ∧ (decode cX12_reset 18 = .ok (.iconst 0, 1)) ∧ (decode cX12_reset 19 = .ok (.ireturn, 1)) ∧ (decode cX12_reset 20 = .ok (.aload_n 0, 1)) ∧ (decode cX12_reset 21 = .ok (.iload_n 1, 1)) ∧ (decode cX12_reset 22 = .ok (.bipush 9, 2)) ∧ (decode cX12_reset 24 = .ok (.iconst 0, 1)) ∧ (decode cX12_reset 25 = .ok (.invokevirtual 110, 3)) := by decide +kernel
theorem dX12_reset_0 : decode cX12_reset 0 = .ok (.aload_n 0, 1) := bdX12_reset_0.1
theorem dX12_reset_1 : decode cX12_reset 1 = .ok (.iload_n 1, 1) := bdX12_reset_0.2.1
theorem dX12_reset_2 : decode cX12_reset 2 = .ok (.invokevirtual 99, 3) := bdX12_reset_0.2.2.1
theorem dX12_reset_5 : decode cX12_reset 5 = .ok (.ifCond .eq 13, 3) := bdX12_reset_0.2.2.2.1
theorem dX12_reset_8 : decode cX12_reset 8 = .ok (.aload_n 0, 1) := bdX12_reset_0.2.2.2.2.1
theorem dX12_reset_9 : decode cX12_reset 9 = .ok (.iload_n 1, 1) := bdX12_reset_0.2.2.2.2.2.1
theorem dX12_reset_10 : decode cX12_reset 10 = .ok (.bipush 9, 2) := bdX12_reset_0.2.2.2.2.2.2.1
theorem dX12_reset_12 : decode cX12_reset 12 = .ok (.invokevirtual 103, 3) := bdX12_reset_0.2.2.2.2.2.2.2.1
theorem dX12_reset_15 : decode cX12_reset 15 = .ok (.ifCond .ne 5, 3) := bdX12_reset_0.2.2.2.2.2.2.2.2.1
theorem dX12_reset_18 : decode cX12_reset 18 = .ok (.iconst 0, 1) := bdX12_reset_0.2.2.2.2.2.2.2.2.2.1
theorem dX12_reset_19 : decode cX12_reset 19 = .ok (.ireturn, 1) := bdX12_reset_0.2.2.2.2.2.2.2.2.2.2.1
theorem dX12_reset_20 : decode cX12_reset 20 = .ok (.aload_n 0, 1) := bdX12_reset_0.2.2.2.2.2.2.2.2.2.2.2.1
theorem dX12_reset_21 : decode cX12_reset 21 = .ok (.iload_n 1, 1) := bdX12_reset_0.2.2.2.2.2.2.2.2.2.2.2.2.1
theorem dX12_reset_22 : decode cX12_reset 22 = .ok (.bipush 9, 2) := bdX12_reset_0.2.2.2.2.2.2.2.2.2.2.2.2.2.1
theorem dX12_reset_24 : decode cX12_reset 24 = .ok (.iconst 0, 1) := bdX12_reset_0.2.2.2.2.2.2.2.2.2.2.2.2.2.2.1
theorem dX12_reset_25 : decode cX12_reset 25 = .ok (.invokevirtual 110, 3) := bdX12_reset_0.2.2.2.2.2.2.2.2.2.2.2.2.2.2.2
theorem dX12_reset_28 : decode cX12_reset 28 = .ok (.iconst 1, 1) := by decide +kernel
theorem dX12_reset_29 : decode cX12_reset 29 = .ok (.ireturn, 1) := by decide +kernel
theorem bdX11_burst_0 : (decode cX11_burst 0 = .ok (.iload_n 1, 1)) ∧ (decode cX11_burst 1 = .ok (.iconst 0, 1)) ∧ (decode cX11_burst 2 = .ok (.ldc 103, 2)) ∧ (decode cX11_burst 4 = .ok (.invokestatic 47, 3)) ∧ (decode cX11_burst 7 = .ok (.ifCond .eq 18, 3)) ∧ (decode cX11_burst 10 = .ok (.iload_n 2, 1)) ∧ (decode cX11_burst 11 = .ok (.iconst 0, 1)) ∧ (decode cX11_burst 12 = .ok (.sipush 999, 3)) ∧ (decode cX11_burst 15 = .ok (.invokestatic 47, 3)) ∧ (decode cX11_burst 18 = .ok (.ifCond .eq 7, 3)) ∧ (decode cX11_burst 21 = .ok (.iconst 1, 1)) ∧ (decode cX11_burst 22 = .ok (.goto 4, 3)) ∧ (decode cX11_burst 25 = .ok (.iconst 0, 1)) ∧ (decode cX11_burst 26 = .ok (.istore 8, 2)) ∧ (decode cX11_burst 28 = .ok (.aload_n 0, 1)) ∧ (decode cX11_burst 29 = .ok (.getfield 10, 3)) := by decide +kernel
theorem dX11_burst_0 : decode cX11_burst 0 = .ok (.iload_n 1, 1) := bdX11_burst_0.1
theorem dX11_burst_1 : decode cX11_burst 1 = .ok (.iconst 0, 1) := bdX11_burst_0.2.1
theorem dX11_burst_2 : decode cX11_burst 2 = .ok (.ldc 103, 2) := bdX11_burst_0.2.2.1
theorem dX11_burst_4 : decode cX11_burst 4 = .ok (.invokestatic 47, 3) := bdX11_burst_0.2.2.2.1
theorem dX11_burst_7 : decode cX11_burst 7 = .ok (.ifCond .eq 18, 3) := bdX11_burst_0.2.2.2.2.1
theorem dX11_burst_10 : decode cX11_burst 10 = .ok (.iload_n 2, 1) := bdX11_burst_0.2.2.2.2.2.1
theorem dX11_burst_11 : decode cX11_burst 11 = .ok (.iconst 0, 1) := bdX11_burst_0.2.2.2.2.2.2.1
theorem dX11_burst_12 : decode cX11_burst 12 = .ok (.sipush 999, 3) := bdX11_burst_0.2.2.2.2.2.2.2.1
theorem dX11_burst_15 : decode cX11_burst 15 = .ok (.invokestatic 47, 3) := bdX11_burst_0.2.2.2.2.2.2.2.2.1
theorem dX11_burst_18 : decode cX11_burst 18 = .ok (.ifCond .eq 7, 3) := bdX11_burst_0.2.2.2.2.2.2.2.2.2.1
theorem dX11_burst_21 : decode cX11_burst 21 = .ok (.iconst 1, 1) := bdX11_burst_0.2.2.2.2.2.2.2.2.2.2.1
theorem dX11_burst_22 : decode cX11_burst 22 = .ok (.goto 4, 3) := bdX11_burst_0.2.2.2.2.2.2.2.2.2.2.2.1
theorem dX11_burst_25 : decode cX11_burst 25 = .ok (.iconst 0, 1) := bdX11_burst_0.2.2.2.2.2.2.2.2.2.2.2.2.1
theorem dX11_burst_26 : decode cX11_burst 26 = .ok (.istore 8, 2) := bdX11_burst_0.2.2.2.2.2.2.2.2.2.2.2.2.2.1
theorem dX11_burst_28 : decode cX11_burst 28 = .ok (.aload_n 0, 1) := bdX11_burst_0.2.2.2.2.2.2.2.2.2.2.2.2.2.2.1
theorem dX11_burst_29 : decode cX11_burst 29 = .ok (.getfield 10, 3) := bdX11_burst_0.2.2.2.2.2.2.2.2.2.2.2.2.2.2.2
theorem bdX11_burst_32 : (decode cX11_burst 32 = .ok (.iload_n 3, 1)) ∧ (decode cX11_burst 33 = .ok (.invokevirtual 65, 3)) ∧ (decode cX11_burst 36 = .ok (.ifCond .eq 25, 3)) ∧ (decode cX11_burst 39 = .ok (.aload_n 0, 1)) ∧ (decode cX11_burst 40 = .ok (.getfield 10, 3)) ∧ (decode cX11_burst 43 = .ok (.iload 4, 2)) ∧ (decode cX11_burst 45 = .ok (.invokevirtual 65, 3)) ∧ (decode cX11_burst 48 = .ok (.ifCond .eq 13, 3)) ∧ (decode cX11_burst 51 = .ok (.iload_n 3, 1)) ∧ (decode cX11_burst 52 = .ok (.iload 4, 2)) ∧ (decode cX11_burst 54 = .ok (.if_icmp .eq 7, 3)) ∧ (decode cX11_burst 57 = .ok (.iconst 1, 1)) ∧ (decode cX11_burst 58 = .ok (.goto 4, 3)) ∧ (decode cX11_burst 61 = .ok (.iconst 0, 1)) ∧ (decode cX11_burst 62 = .ok (.istore 9, 2)) ∧ (decode cX11_burst 64 = .ok (.iload 8, 2)) := by decide +kernel
theorem dX11_burst_32 : decode cX11_burst 32 = .ok (.iload_n 3, 1) := bdX11_burst_32.1
theorem dX11_burst_33 : decode cX11_burst 33 = .ok (.invokevirtual 65, 3) := bdX11_burst_32.2.1
theorem dX11_burst_36 : decode cX11_burst 36 = .ok (.ifCond .eq 25, 3) := bdX11_burst_32.2.2.1
theorem dX11_burst_39 : decode cX11_burst 39 = .ok (.aload_n 0, 1) := bdX11_burst_32.2.2.2.1
theorem dX11_burst_40 : decode cX11_burst 40 = .ok (.getfield 10, 3) := bdX11_burst_32.2.2.2.2.1
theorem dX11_burst_43 : decode cX11_burst 43 = .ok (.iload 4, 2) := bdX11_burst_32.2.2.2.2.2.1
theorem dX11_burst_45 : decode cX11_burst 45 = .ok (.invokevirtual 65, 3) := bdX11_burst_32.2.2.2.2.2.2.1
theorem dX11_burst_48 : decode cX11_burst 48 = .ok (.ifCond .eq 13, 3) := bdX11_burst_32.2.2.2.2.2.2.2.1
theorem dX11_burst_51 : decode cX11_burst 51 = .ok (.iload_n 3, 1) := bdX11_burst_32.2.2.2.2.2.2.2.2.1
theorem dX11_burst_52 : decode cX11_burst 52 = .ok (.iload 4, 2) := bdX11_burst_32.2.2.2.2.2.2.2.2.2.1
theorem dX11_burst_54 : decode cX11_burst 54 = .ok (.if_icmp .eq 7, 3) := bdX11_burst_32.2.2.2.2.2.2.2.2.2.2.1
theorem dX11_burst_57 : decode cX11_burst 57 = .ok (.iconst 1, 1) := bdX11_burst_32.2.2.2.2.2.2.2.2.2.2.2.1
theorem dX11_burst_58 : decode cX11_burst 58 = .ok (.goto 4, 3) := bdX11_burst_32.2.2.2.2.2.2.2.2.2.2.2.2.1
theorem dX11_burst_61 : decode cX11_burst 61 = .ok (.iconst 0, 1) := bdX11_burst_32.2.2.2.2.2.2.2.2.2.2.2.2.2.1
theorem dX11_burst_62 : decode cX11_burst 62 = .ok (.istore 9, 2) := bdX11_burst_32.2.2.2.2.2.2.2.2.2.2.2.2.2.2.1
theorem dX11_burst_64 : decode cX11_burst 64 = .ok (.iload 8, 2) := bdX11_burst_32.2.2.2.2.2.2.2.2.2.2.2.2.2.2.2
theorem bdX11_burst_66 : (decode cX11_burst 66 = .ok (.ifCond .eq 36, 3)) ∧ (decode cX11_burst 69 = .ok (.iload 9, 2)) ∧ (decode cX11_burst 71 = .ok (.ifCond .eq 31, 3)) ∧ (decode cX11_burst 74 = .ok (.iload 5, 2)) ∧ (decode cX11_burst 76 = .ok (.iconst 1, 1)) ∧ (decode cX11_burst 77 = .ok (.sipush 200, 3)) ∧ (decode cX11_burst 80 = .ok (.invokestatic 47, 3)) ∧ (decode cX11_burst 83 = .ok (.ifCond .eq 19, 3)) ∧ (decode cX11_burst 86 = .ok (.aload_n 0, 1)) ∧ (decode cX11_burst 87 = .ok (.getfield 10, 3)) ∧ (decode cX11_burst 90 = .ok (.getfield 104, 3)) ∧ (decode cX11_burst 93 = .ok (.iconst 0, 1)) ∧ (decode cX11_burst 94 = .ok (.bipush 29, 2)) ∧ (decode cX11_burst 96 = .ok (.invokestatic 47, 3)) ∧ (decode cX11_burst 99 = .ok (.ifCond .ne 5, 3)) ∧ (decode cX11_burst 102 = .ok (.iconst (-1), 1)) := by decide +kernel
theorem dX11_burst_66 : decode cX11_burst 66 = .ok (.ifCond .eq 36, 3) := bdX11_burst_66.1
theorem dX11_burst_69 : decode cX11_burst 69 = .ok (.iload 9, 2) := bdX11_burst_66.2.1
theorem dX11_burst_71 : decode cX11_burst 71 = .ok (.ifCond .eq 31, 3) := bdX11_burst_66.2.2.1
theorem dX11_burst_74 : decode cX11_burst 74 = .ok (.iload 5, 2) := bdX11_burst_66.2.2.2.1
theorem dX11_burst_76 : decode cX11_burst 76 = .ok (.iconst 1, 1) := bdX11_burst_66.2.2.2.2.1
theorem dX11_burst_77 : decode cX11_burst 77 = .ok (.sipush 200, 3) := bdX11_burst_66.2.2.2.2.2.1
theorem dX11_burst_80 : decode cX11_burst 80 = .ok (.invokestatic 47, 3) := bdX11_burst_66.2.2.2.2.2.2.1
theorem dX11_burst_83 : decode cX11_burst 83 = .ok (.ifCond .eq 19, 3) := bdX11_burst_66.2.2.2.2.2.2.2.1
theorem dX11_burst_86 : decode cX11_burst 86 = .ok (.aload_n 0, 1) := bdX11_burst_66.2.2.2.2.2.2.2.2.1
theorem dX11_burst_87 : decode cX11_burst 87 = .ok (.getfield 10, 3) := bdX11_burst_66.2.2.2.2.2.2.2.2.2.1
theorem dX11_burst_90 : decode cX11_burst 90 = .ok (.getfield 104, 3) := bdX11_burst_66.2.2.2.2.2.2.2.2.2.2.1
theorem dX11_burst_93 : decode cX11_burst 93 = .ok (.iconst 0, 1) := bdX11_burst_66.2.2.2.2.2.2.2.2.2.2.2.1
theorem dX11_burst_94 : decode cX11_burst 94 = .ok (.bipush 29, 2) := bdX11_burst_66.2.2.2.2.2.2.2.2.2.2.2.2.1
theorem dX11_burst_96 : decode cX11_burst 96 = .ok (.invokestatic 47, 3) := bdX11_burst_66.2.2.2.2.2.2.2.2.2.2.2.2.2.1
theorem dX11_burst_99 : decode cX11_burst 99 = .ok (.ifCond .ne 5, 3) := bdX11_burst_66.2.2.2.2.2.2.2.2.2.2.2.2.2.2.1
theorem dX11_burst_102 : decode cX11_burst 102 = .ok (.iconst (-1), 1) := bdX11_burst_66.2.2.2.2.2.2.2.2.2.2.2.2.2.2.2
theorem bdX11_burst_103 : (decode cX11_burst 103 = .ok (.ireturn, 1)) ∧ (decode cX11_burst 104 = .ok (.aload_n 0, 1)) ∧ (decode cX11_burst 105 = .ok (.getfield 10, 3)) ∧ (decode cX11_burst 108 = .ok (.getfield 107, 3)) ∧ (decode cX11_burst 111 = .ok (.aload_n 0, 1)) ∧ (decode cX11_burst 112 = .ok (.getfield 10, 3)) ∧ (decode cX11_burst 115 = .ok (.getfield 104, 3)) ∧ (decode cX11_burst 118 = .ok (.aaload, 1)) ∧ (decode cX11_burst 119 = .ok (.astore 10, 2)) ∧ (decode cX11_burst 121 = .ok (.aload 10, 2)) ∧ (decode cX11_burst 123 = .ok (.iload_n 1, 1)) ∧ (decode cX11_burst 124 = .ok (.putfield 111, 3)) ∧ (decode cX11_burst 127 = .ok (.aload 10, 2)) ∧ (decode cX11_burst 129 = .ok (.iload_n 2, 1)) ∧ (decode cX11_burst 130 = .ok (.putfield 116, 3)) ∧ (decode cX11_burst 133 = .ok (.aload 10, 2)) := by decide +kernel
theorem dX11_burst_103 : decode cX11_burst 103 = .ok (.ireturn, 1) := bdX11_burst_103.1
theorem dX11_burst_104 : decode cX11_burst 104 = .ok (.aload_n 0, 1) := bdX11_burst_103.2.1
theorem dX11_burst_105 : decode cX11_burst 105 = .ok (.getfield 10, 3) := bdX11_burst_103.2.2.1
theorem dX11_burst_108 : decode cX11_burst 108 = .ok (.getfield 107, 3) := bdX11_burst_103.2.2.2.1
theorem dX11_burst_111 : decode cX11_burst 111 = .ok (.aload_n 0, 1) := bdX11_burst_103.2.2.2.2.1
theorem dX11_burst_112 : decode cX11_burst 112 = .ok (.getfield 10, 3) := bdX11_burst_103.2.2.2.2.2.1
theorem dX11_burst_115 : decode cX11_burst 115 = .ok (.getfield 104, 3) := bdX11_burst_103.2.2.2.2.2.2.1
theorem dX11_burst_118 : decode cX11_burst 118 = .ok (.aaload, 1) := bdX11_burst_103.2.2.2.2.2.2.2.1
theorem dX11_burst_119 : decode cX11_burst 119 = .ok (.astore 10, 2) := bdX11_burst_103.2.2.2.2.2.2.2.2.1
theorem dX11_burst_121 : decode cX11_burst 121 = .ok (.aload 10, 2) := bdX11_burst_103.2.2.2.2.2.2.2.2.2.1
theorem dX11_burst_123 : decode cX11_burst 123 = .ok (.iload_n 1, 1) := bdX11_burst_103.2.2.2.2.2.2.2.2.2.2.1
theorem dX11_burst_124 : decode cX11_burst 124 = .ok (.putfield 111, 3) := bdX11_burst_103.2.2.2.2.2.2.2.2.2.2.2.1
theorem dX11_burst_127 : decode cX11_burst 127 = .ok (.aload 10, 2) := bdX11_burst_103.2.2.2.2.2.2.2.2.2.2.2.2.1
theorem dX11_burst_129 : decode cX11_burst 129 = .ok (.iload_n 2, 1) := bdX11_burst_103.2.2.2.2.2.2.2.2.2.2.2.2.2.1
theorem dX11_burst_130 : decode cX11_burst 130 = .ok (.putfield 116, 3) := bdX11_burst_103.2.2.2.2.2.2.2.2.2.2.2.2.2.2.1
theorem dX11_burst_133 : decode cX11_burst 133 = .ok (.aload 10, 2) := bdX11_burst_103.2.2.2.2.2.2.2.2.2.2.2.2.2.2.2
theorem bdX11_burst_135 : (decode cX11_burst 135 = .ok (.iload_n 3, 1)) ∧ (decode cX11_burst 136 = .ok (.putfield 119, 3)) ∧ (decode cX11_burst 139 = .ok (.aload 10, 2)) ∧ (decode cX11_burst 141 = .ok (.iload 4, 2)) ∧ (decode cX11_burst 143 = .ok (.putfield 122, 3)) ∧ (decode cX11_burst 146 = .ok (.aload 10, 2)) ∧ (decode cX11_burst 148 = .ok (.iload 5, 2)) ∧ (decode cX11_burst 150 = .ok (.putfield 125, 3)) ∧ (decode cX11_burst 153 = .ok (.aload 10, 2)) ∧ (decode cX11_burst 155 = .ok (.iload 6, 2)) ∧ (decode cX11_burst 157 = .ok (.ifCond .eq 7, 3)) ∧ (decode cX11_burst 160 = .ok (.iconst 1, 1)) ∧ (decode cX11_burst 161 = .ok (.goto 4, 3)) ∧ (decode cX11_burst 164 = .ok (.iconst 0, 1)) ∧ (decode cX11_burst 165 = .ok (.putfield 128, 3)) ∧ (decode cX11_burst 168 = .ok (.aload 10, 2)) := by decide +kernel
theorem dX11_burst_135 : decode cX11_burst 135 = .ok (.iload_n 3, 1) := bdX11_burst_135.1
theorem dX11_burst_136 : decode cX11_burst 136 = .ok (.putfield 119, 3) := bdX11_burst_135.2.1
theorem dX11_burst_139 : decode cX11_burst 139 = .ok (.aload 10, 2) := bdX11_burst_135.2.2.1
theorem dX11_burst_141 : decode cX11_burst 141 = .ok (.iload 4, 2) := bdX11_burst_135.2.2.2.1
theorem dX11_burst_143 : decode cX11_burst 143 = .ok (.putfield 122, 3) := bdX11_burst_135.2.2.2.2.1
theorem dX11_burst_146 : decode cX11_burst 146 = .ok (.aload 10, 2) := bdX11_burst_135.2.2.2.2.2.1
theorem dX11_burst_148 : decode cX11_burst 148 = .ok (.iload 5, 2) := bdX11_burst_135.2.2.2.2.2.2.1
theorem dX11_burst_150 : decode cX11_burst 150 = .ok (.putfield 125, 3) := bdX11_burst_135.2.2.2.2.2.2.2.1
theorem dX11_burst_153 : decode cX11_burst 153 = .ok (.aload 10, 2) := bdX11_burst_135.2.2.2.2.2.2.2.2.1
theorem dX11_burst_155 : decode cX11_burst 155 = .ok (.iload 6, 2) := bdX11_burst_135.2.2.2.2.2.2.2.2.2.1
theorem dX11_burst_157 : decode cX11_burst 157 = .ok (.ifCond .eq 7, 3) := bdX11_burst_135.2.2.2.2.2.2.2.2.2.2.1
theorem dX11_burst_160 : decode cX11_burst 160 = .ok (.iconst 1, 1) := bdX11_burst_135.2.2.2.2.2.2.2.2.2.2.2.1
theorem dX11_burst_161 : decode cX11_burst 161 = .ok (.goto 4, 3) := bdX11_burst_135.2.2.2.2.2.2.2.2.2.2.2.2.1
theorem dX11_burst_164 : decode cX11_burst 164 = .ok (.iconst 0, 1) := bdX11_burst_135.2.2.2.2.2.2.2.2.2.2.2.2.2.1
theorem dX11_burst_165 : decode cX11_burst 165 = .ok (.putfield 128, 3) := bdX11_burst_135.2.2.2.2.2.2.2.2.2.2.2.2.2.2.1
theorem dX11_burst_168 : decode cX11_burst 168 = .ok (.aload 10, 2) := bdX11_burst_135.2.2.2.2.2.2.2.2.2.2.2.2.2.2.2
theorem bdX11_burst_170 : (decode cX11_burst 170 = .ok (.iload 7, 2)) ∧ (decode cX11_burst 172 = .ok (.putfield 131, 3)) ∧ (decode cX11_burst 175 = .ok (.aload_n 0, 1)) ∧ (decode cX11_burst 176 = .ok (.getfield 10, 3)) ∧ (decode cX11_burst 179 = .ok (.dup, 1)) ∧ (decode cX11_burst 180 = .ok (.getfield 104, 3)) ∧ (decode cX11_burst 183 = .ok (.iconst 1, 1)) ∧ (decode cX11_burst 184 = .ok (.iadd, 1)) ∧ (decode cX11_burst 185 = .ok (.putfield 104, 3)) ∧ (decode cX11_burst 188 = .ok (.aload_n 0, 1)) ∧ (decode cX11_burst 189 = .ok (.getfield 10, 3)) ∧ (decode cX11_burst 192 = .ok (.getfield 104, 3)) ∧ (decode cX11_burst 195 = .ok (.ireturn, 1)) := by decide +kernel
theorem dX11_burst_170 : decode cX11_burst 170 = .ok (.iload 7, 2) := bdX11_burst_170.1
theorem dX11_burst_172 : decode cX11_burst 172 = .ok (.putfield 131, 3) := bdX11_burst_170.2.1
theorem dX11_burst_175 : decode cX11_burst 175 = .ok (.aload_n 0, 1) := bdX11_burst_170.2.2.1
theorem dX11_burst_176 : decode cX11_burst 176 = .ok (.getfield 10, 3) := bdX11_burst_170.2.2.2.1
theorem dX11_burst_179 : decode cX11_burst 179 = .ok (.dup, 1) := bdX11_burst_170.2.2.2.2.1
theorem dX11_burst_180 : decode cX11_burst 180 = .ok (.getfield 104, 3) := bdX11_burst_170.2.2.2.2.2.1
theorem dX11_burst_183 : decode cX11_burst 183 = .ok (.iconst 1, 1) := bdX11_burst_170.2.2.2.2.2.2.1
theorem dX11_burst_184 : decode cX11_burst 184 = .ok (.iadd, 1) := bdX11_burst_170.2.2.2.2.2.2.2.1
theorem dX11_burst_185 : decode cX11_burst 185 = .ok (.putfield 104, 3) := bdX11_burst_170.2.2.2.2.2.2.2.2.1
theorem dX11_burst_188 : decode cX11_burst 188 = .ok (.aload_n 0, 1) := bdX11_burst_170.2.2.2.2.2.2.2.2.2.1
theorem dX11_burst_189 : decode cX11_burst 189 = .ok (.getfield 10, 3) := bdX11_burst_170.2.2.2.2.2.2.2.2.2.2.1
theorem dX11_burst_192 : decode cX11_burst 192 = .ok (.getfield 104, 3) := bdX11_burst_170.2.2.2.2.2.2.2.2.2.2.2.1
theorem dX11_burst_195 : decode cX11_burst 195 = .ok (.ireturn, 1) := bdX11_burst_170.2.2.2.2.2.2.2.2.2.2.2.2
theorem bdX12_burst_0 : (decode cX12_burst 0 = .ok (.iload_n 1, 1)) ∧ (decode cX12_burst 1 = .ok (.iconst 0, 1)) ∧ (decode cX12_burst 2 = .ok (.ldc 121, 2)) ∧ (decode cX12_burst 4 = .ok (.invokestatic 95, 3)) ∧ (decode cX12_burst 7 = .ok (.ifCond .eq 53, 3)) ∧ (decode cX12_burst 10 = .ok (.iload_n 2, 1)) ∧ (decode cX12_burst 11 = .ok (.iconst 0, 1)) ∧ (decode cX12_burst 12 = .ok (.sipush 999, 3)) ∧ (decode cX12_burst 15 = .ok (.invokestatic 95, 3)) ∧ (decode cX12_burst 18 = .ok (.ifCond .eq 42, 3)) ∧ (decode cX12_burst 21 = .ok (.aload_n 0, 1)) ∧ (decode cX12_burst 22 = .ok (.iload_n 3, 1)) ∧ (decode cX12_burst 23 = .ok (.invokevirtual 107, 3)) ∧ (decode cX12_burst 26 = .ok (.ifCond .eq 34, 3)) ∧ (decode cX12_burst 29 = .ok (.aload_n 0, 1)) ∧ (decode cX12_burst 30 = .ok (.iload 4, 2)) := by decide +kernel
theorem dX12_burst_0 : decode cX12_burst 0 = .ok (.iload_n 1, 1) := bdX12_burst_0.1
theorem dX12_burst_1 : decode cX12_burst 1 = .ok (.iconst 0, 1) := bdX12_burst_0.2.1
theorem dX12_burst_2 : decode cX12_burst 2 = .ok (.ldc 121, 2) := bdX12_burst_0.2.2.1
theorem dX12_burst_4 : decode cX12_burst 4 = .ok (.invokestatic 95, 3) := bdX12_burst_0.2.2.2.1
theorem dX12_burst_7 : decode cX12_burst 7 = .ok (.ifCond .eq 53, 3) := bdX12_burst_0.2.2.2.2.1
theorem dX12_burst_10 : decode cX12_burst 10 = .ok (.iload_n 2, 1) := bdX12_burst_0.2.2.2.2.2.1
theorem dX12_burst_11 : decode cX12_burst 11 = .ok (.iconst 0, 1) := bdX12_burst_0.2.2.2.2.2.2.1
theorem dX12_burst_12 : decode cX12_burst 12 = .ok (.sipush 999, 3) := bdX12_burst_0.2.2.2.2.2.2.2.1
theorem dX12_burst_15 : decode cX12_burst 15 = .ok (.invokestatic 95, 3) := bdX12_burst_0.2.2.2.2.2.2.2.2.1
theorem dX12_burst_18 : decode cX12_burst 18 = .ok (.ifCond .eq 42, 3) := bdX12_burst_0.2.2.2.2.2.2.2.2.2.1
theorem dX12_burst_21 : decode cX12_burst 21 = .ok (.aload_n 0, 1) := bdX12_burst_0.2.2.2.2.2.2.2.2.2.2.1
theorem dX12_burst_22 : decode cX12_burst 22 = .ok (.iload_n 3, 1) := bdX12_burst_0.2.2.2.2.2.2.2.2.2.2.2.1
theorem dX12_burst_23 : decode cX12_burst 23 = .ok (.invokevirtual 107, 3) := bdX12_burst_0.2.2.2.2.2.2.2.2.2.2.2.2.1
theorem dX12_burst_26 : decode cX12_burst 26 = .ok (.ifCond .eq 34, 3) := bdX12_burst_0.2.2.2.2.2.2.2.2.2.2.2.2.2.1
theorem dX12_burst_29 : decode cX12_burst 29 = .ok (.aload_n 0, 1) := bdX12_burst_0.2.2.2.2.2.2.2.2.2.2.2.2.2.2.1
theorem dX12_burst_30 : decode cX12_burst 30 = .ok (.iload 4, 2) := bdX12_burst_0.2.2.2.2.2.2.2.2.2.2.2.2.2.2.2
theorem bdX12_burst_32 : (decode cX12_burst 32 = .ok (.invokevirtual 107, 3)) ∧ (decode cX12_burst 35 = .ok (.ifCond .eq 25, 3)) ∧ (decode cX12_burst 38 = .ok (.iload_n 3, 1)) ∧ (decode cX12_burst 39 = .ok (.iload 4, 2)) ∧ (decode cX12_burst 41 = .ok (.if_icmp .eq 19, 3)) ∧ (decode cX12_burst 44 = .ok (.iload 5, 2)) ∧ (decode cX12_burst 46 = .ok (.iconst 1, 1)) ∧ (decode cX12_burst 47 = .ok (.sipush 200, 3)) ∧ (decode cX12_burst 50 = .ok (.invokestatic 95, 3)) ∧ (decode cX12_burst 53 = .ok (.ifCond .eq 7, 3)) ∧ (decode cX12_burst 56 = .ok (.iconst 1, 1)) ∧ (decode cX12_burst 57 = .ok (.goto 4, 3)) ∧ (decode cX12_burst 60 = .ok (.iconst 0, 1)) ∧ (decode cX12_burst 61 = .ok (.istore 8, 2)) ∧ (decode cX12_burst 63 = .ok (.iload 8, 2)) ∧ (decode cX12_burst 65 = .ok (.ifCond .eq 14, 3)) := by decide +kernel
theorem dX12_burst_32 : decode cX12_burst 32 = .ok (.invokevirtual 107, 3) := bdX12_burst_32.1
theorem dX12_burst_35 : decode cX12_burst 35 = .ok (.ifCond .eq 25, 3) := bdX12_burst_32.2.1
theorem dX12_burst_38 : decode cX12_burst 38 = .ok (.iload_n 3, 1) := bdX12_burst_32.2.2.1
theorem dX12_burst_39 : decode cX12_burst 39 = .ok (.iload 4, 2) := bdX12_burst_32.2.2.2.1
theorem dX12_burst_41 : decode cX12_burst 41 = .ok (.if_icmp .eq 19, 3) := bdX12_burst_32.2.2.2.2.1
theorem dX12_burst_44 : decode cX12_burst 44 = .ok (.iload 5, 2) := bdX12_burst_32.2.2.2.2.2.1
theorem dX12_burst_46 : decode cX12_burst 46 = .ok (.iconst 1, 1) := bdX12_burst_32.2.2.2.2.2.2.1
theorem dX12_burst_47 : decode cX12_burst 47 = .ok (.sipush 200, 3) := bdX12_burst_32.2.2.2.2.2.2.2.1
theorem dX12_burst_50 : decode cX12_burst 50 = .ok (.invokestatic 95, 3) := bdX12_burst_32.2.2.2.2.2.2.2.2.1
theorem dX12_burst_53 : decode cX12_burst 53 = .ok (.ifCond .eq 7, 3) := bdX12_burst_32.2.2.2.2.2.2.2.2.2.1
theorem dX12_burst_56 : decode cX12_burst 56 = .ok (.iconst 1, 1) := bdX12_burst_32.2.2.2.2.2.2.2.2.2.2.1
theorem dX12_burst_57 : decode cX12_burst 57 = .ok (.goto 4, 3) := bdX12_burst_32.2.2.2.2.2.2.2.2.2.2.2.1
theorem dX12_burst_60 : decode cX12_burst 60 = .ok (.iconst 0, 1) := bdX12_burst_32.2.2.2.2.2.2.2.2.2.2.2.2.1
theorem dX12_burst_61 : decode cX12_burst 61 = .ok (.istore 8, 2) := bdX12_burst_32.2.2.2.2.2.2.2.2.2.2.2.2.2.1
theorem dX12_burst_63 : decode cX12_burst 63 = .ok (.iload 8, 2) := bdX12_burst_32.2.2.2.2.2.2.2.2.2.2.2.2.2.2.1
theorem dX12_burst_65 : decode cX12_burst 65 = .ok (.ifCond .eq 14, 3) := bdX12_burst_32.2.2.2.2.2.2.2.2.2.2.2.2.2.2.2
theorem bdX12_burst_68 : (decode cX12_burst 68 = .ok (.aload_n 0, 1)) ∧ (decode cX12_burst 69 = .ok (.getfield 7, 3)) ∧ (decode cX12_burst 72 = .ok (.iconst 3, 1)) ∧ (decode cX12_burst 73 = .ok (.iaload, 1)) ∧ (decode cX12_burst 74 = .ok (.bipush 30, 2)) ∧ (decode cX12_burst 76 = .ok (.if_icmp .ne 5, 3)) ∧ (decode cX12_burst 79 = .ok (.iconst (-1), 1)) ∧ (decode cX12_burst 80 = .ok (.ireturn, 1)) ∧ (decode cX12_burst 81 = .ok (.sipush 360, 3)) ∧ (decode cX12_burst 84 = .ok (.bipush 7, 2)) ∧ (decode cX12_burst 86 = .ok (.aload_n 0, 1)) ∧ (decode cX12_burst 87 = .ok (.getfield 7, 3)) ∧ (decode cX12_burst 90 = .ok (.iconst 3, 1)) ∧ (decode cX12_burst 91 = .ok (.iaload, 1)) ∧ (decode cX12_burst 92 = .ok (.imul, 1)) ∧ (decode cX12_burst 93 = .ok (.iadd, 1)) := by decide +kernel
theorem dX12_burst_68 : decode cX12_burst 68 = .ok (.aload_n 0, 1) := bdX12_burst_68.1
theorem dX12_burst_69 : decode cX12_burst 69 = .ok (.getfield 7, 3) := bdX12_burst_68.2.1
theorem dX12_burst_72 : decode cX12_burst 72 = .ok (.iconst 3, 1) := bdX12_burst_68.2.2.1
theorem dX12_burst_73 : decode cX12_burst 73 = .ok (.iaload, 1) := bdX12_burst_68.2.2.2.1
theorem dX12_burst_74 : decode cX12_burst 74 = .ok (.bipush 30, 2) := bdX12_burst_68.2.2.2.2.1
theorem dX12_burst_76 : decode cX12_burst 76 = .ok (.if_icmp .ne 5, 3) := bdX12_burst_68.2.2.2.2.2.1
theorem dX12_burst_79 : decode cX12_burst 79 = .ok (.iconst (-1), 1) := bdX12_burst_68.2.2.2.2.2.2.1
theorem dX12_burst_80 : decode cX12_burst 80 = .ok (.ireturn, 1) := bdX12_burst_68.2.2.2.2.2.2.2.1
theorem dX12_burst_81 : decode cX12_burst 81 = .ok (.sipush 360, 3) := bdX12_burst_68.2.2.2.2.2.2.2.2.1
theorem dX12_burst_84 : decode cX12_burst 84 = .ok (.bipush 7, 2) := bdX12_burst_68.2.2.2.2.2.2.2.2.2.1
theorem dX12_burst_86 : decode cX12_burst 86 = .ok (.aload_n 0, 1) := bdX12_burst_68.2.2.2.2.2.2.2.2.2.2.1
theorem dX12_burst_87 : decode cX12_burst 87 = .ok (.getfield 7, 3) := bdX12_burst_68.2.2.2.2.2.2.2.2.2.2.2.1
theorem dX12_burst_90 : decode cX12_burst 90 = .ok (.iconst 3, 1) := bdX12_burst_68.2.2.2.2.2.2.2.2.2.2.2.2.1
theorem dX12_burst_91 : decode cX12_burst 91 = .ok (.iaload, 1) := bdX12_burst_68.2.2.2.2.2.2.2.2.2.2.2.2.2.1
theorem dX12_burst_92 : decode cX12_burst 92 = .ok (.imul, 1) := bdX12_burst_68.2.2.2.2.2.2.2.2.2.2.2.2.2.2.1
theorem dX12_burst_93 : decode cX12_burst 93 = .ok (.iadd, 1) := bdX12_burst_68.2.2.2.2.2.2.2.2.2.2.2.2.2.2.2
theorem bdX12_burst_94 : (decode cX12_burst 94 = .ok (.istore 9, 2)) ∧ (decode cX12_burst 96 = .ok (.aload_n 0, 1)) ∧ (decode cX12_burst 97 = .ok (.getfield 7, 3)) ∧ (decode cX12_burst 100 = .ok (.iload 9, 2)) ∧ (decode cX12_burst 102 = .ok (.iload_n 1, 1)) ∧ (decode cX12_burst 103 = .ok (.iastore, 1)) ∧ (decode cX12_burst 104 = .ok (.aload_n 0, 1)) ∧ (decode cX12_burst 105 = .ok (.getfield 7, 3)) ∧ (decode cX12_burst 108 = .ok (.iload 9, 2)) ∧ (decode cX12_burst 110 = .ok (.iconst 1, 1)) ∧ (decode cX12_burst 111 = .ok (.iadd, 1)) ∧ (decode cX12_burst 112 = .ok (.iload_n 2, 1)) ∧ (decode cX12_burst 113 = .ok (.iastore, 1)) ∧ (decode cX12_burst 114 = .ok (.aload_n 0, 1)) ∧ (decode cX12_burst 115 = .ok (.getfield 7, 3)) ∧ (decode cX12_burst 118 = .ok (.iload 9, 2)) := by decide +kernel
theorem dX12_burst_94 : decode cX12_burst 94 = .ok (.istore 9, 2) := bdX12_burst_94.1
theorem dX12_burst_96 : decode cX12_burst 96 = .ok (.aload_n 0, 1) := bdX12_burst_94.2.1
theorem dX12_burst_97 : decode cX12_burst 97 = .ok (.getfield 7, 3) := bdX12_burst_94.2.2.1
theorem dX12_burst_100 : decode cX12_burst 100 = .ok (.iload 9, 2) := bdX12_burst_94.2.2.2.1
theorem dX12_burst_102 : decode cX12_burst 102 = .ok (.iload_n 1, 1) := bdX12_burst_94.2.2.2.2.1
theorem dX12_burst_103 : decode cX12_burst 103 = .ok (.iastore, 1) := bdX12_burst_94.2.2.2.2.2.1
theorem dX12_burst_104 : decode cX12_burst 104 = .ok (.aload_n 0, 1) := bdX12_burst_94.2.2.2.2.2.2.1
theorem dX12_burst_105 : decode cX12_burst 105 = .ok (.getfield 7, 3) := bdX12_burst_94.2.2.2.2.2.2.2.1
theorem dX12_burst_108 : decode cX12_burst 108 = .ok (.iload 9, 2) := bdX12_burst_94.2.2.2.2.2.2.2.2.1
theorem dX12_burst_110 : decode cX12_burst 110 = .ok (.iconst 1, 1) := bdX12_burst_94.2.2.2.2.2.2.2.2.2.1
theorem dX12_burst_111 : decode cX12_burst 111 = .ok (.iadd, 1) := bdX12_burst_94.2.2.2.2.2.2.2.2.2.2.1
theorem dX12_burst_112 : decode cX12_burst 112 = .ok (.iload_n 2, 1) := bdX12_burst_94.2.2.2.2.2.2.2.2.2.2.2.1
theorem dX12_burst_113 : decode cX12_burst 113 = .ok (.iastore, 1) := bdX12_burst_94.2.2.2.2.2.2.2.2.2.2.2.2.1
theorem dX12_burst_114 : decode cX12_burst 114 = .ok (.aload_n 0, 1) := bdX12_burst_94.2.2.2.2.2.2.2.2.2.2.2.2.2.1
theorem dX12_burst_115 : decode cX12_burst 115 = .ok (.getfield 7, 3) := bdX12_burst_94.2.2.2.2.2.2.2.2.2.2.2.2.2.2.1
theorem dX12_burst_118 : decode cX12_burst 118 = .ok (.iload 9, 2) := bdX12_burst_94.2.2.2.2.2.2.2.2.2.2.2.2.2.2.2
theorem bdX12_burst_120 : (decode cX12_burst 120 = .ok (.iconst 2, 1)) ∧ (decode cX12_burst 121 = .ok (.iadd, 1)) ∧ (decode cX12_burst 122 = .ok (.iload_n 3, 1)) ∧ (decode cX12_burst 123 = .ok (.iastore, 1)) ∧ (decode cX12_burst 124 = .ok (.aload_n 0, 1)) ∧ (decode cX12_burst 125 = .ok (.getfield 7, 3)) ∧ (decode cX12_burst 128 = .ok (.iload 9, 2)) ∧ (decode cX12_burst 130 = .ok (.iconst 3, 1)) ∧ (decode cX12_burst 131 = .ok (.iadd, 1)) ∧ (decode cX12_burst 132 = .ok (.iload 4, 2)) ∧ (decode cX12_burst 134 = .ok (.iastore, 1)) ∧ (decode cX12_burst 135 = .ok (.aload_n 0, 1)) ∧ (decode cX12_burst 136 = .ok (.getfield 7, 3)) ∧ (decode cX12_burst 139 = .ok (.iload 9, 2)) ∧ (decode cX12_burst 141 = .ok (.iconst 4, 1)) ∧ (decode cX12_burst 142 = .ok (.iadd, 1)) := by decide +kernel
theorem dX12_burst_120 : decode cX12_burst 120 = .ok (.iconst 2, 1) := bdX12_burst_120.1
theorem dX12_burst_121 : decode cX12_burst 121 = .ok (.iadd, 1) := bdX12_burst_120.2.1
theorem dX12_burst_122 : decode cX12_burst 122 = .ok (.iload_n 3, 1) := bdX12_burst_120.2.2.1
theorem dX12_burst_123 : decode cX12_burst 123 = .ok (.iastore, 1) := bdX12_burst_120.2.2.2.1
theorem dX12_burst_124 : decode cX12_burst 124 = .ok (.aload_n 0, 1) := bdX12_burst_120.2.2.2.2.1
theorem dX12_burst_125 : decode cX12_burst 125 = .ok (.getfield 7, 3) := bdX12_burst_120.2.2.2.2.2.1
theorem dX12_burst_128 : decode cX12_burst 128 = .ok (.iload 9, 2) := bdX12_burst_120.2.2.2.2.2.2.1
theorem dX12_burst_130 : decode cX12_burst 130 = .ok (.iconst 3, 1) := bdX12_burst_120.2.2.2.2.2.2.2.1
theorem dX12_burst_131 : decode cX12_burst 131 = .ok (.iadd, 1) := bdX12_burst_120.2.2.2.2.2.2.2.2.1
theorem dX12_burst_132 : decode cX12_burst 132 = .ok (.iload 4, 2) := bdX12_burst_120.2.2.2.2.2.2.2.2.2.1
theorem dX12_burst_134 : decode cX12_burst 134 = .ok (.iastore, 1) := bdX12_burst_120.2.2.2.2.2.2.2.2.2.2.1
theorem dX12_burst_135 : decode cX12_burst 135 = .ok (.aload_n 0, 1) := bdX12_burst_120.2.2.2.2.2.2.2.2.2.2.2.1
theorem dX12_burst_136 : decode cX12_burst 136 = .ok (.getfield 7, 3) := bdX12_burst_120.2.2.2.2.2.2.2.2.2.2.2.2.1
theorem dX12_burst_139 : decode cX12_burst 139 = .ok (.iload 9, 2) := bdX12_burst_120.2.2.2.2.2.2.2.2.2.2.2.2.2.1
theorem dX12_burst_141 : decode cX12_burst 141 = .ok (.iconst 4, 1) := bdX12_burst_120.2.2.2.2.2.2.2.2.2.2.2.2.2.2.1
theorem dX12_burst_142 : decode cX12_burst 142 = .ok (.iadd, 1) := bdX12_burst_120.2.2.2.2.2.2.2.2.2.2.2.2.2.2.2
theorem bdX12_burst_143 : (decode cX12_burst 143 = .ok (.iload 5, 2)) ∧ (decode cX12_burst 145 = .ok (.iastore, 1)) ∧ (decode cX12_burst 146 = .ok (.aload_n 0, 1)) ∧ (decode cX12_burst 147 = .ok (.getfield 7, 3)) ∧ (decode cX12_burst 150 = .ok (.iload 9, 2)) ∧ (decode cX12_burst 152 = .ok (.iconst 5, 1)) ∧ (decode cX12_burst 153 = .ok (.iadd, 1)) ∧ (decode cX12_burst 154 = .ok (.iload 6, 2)) ∧ (decode cX12_burst 156 = .ok (.ifCond .eq 7, 3)) ∧ (decode cX12_burst 159 = .ok (.iconst 1, 1)) ∧ (decode cX12_burst 160 = .ok (.goto 4, 3)) ∧ (decode cX12_burst 163 = .ok (.iconst 0, 1)) ∧ (decode cX12_burst 164 = .ok (.iastore, 1)) ∧ (decode cX12_burst 165 = .ok (.aload_n 0, 1)) ∧ (decode cX12_burst 166 = .ok (.getfield 7, 3)) ∧ (decode cX12_burst 169 = .ok (.iload 9, 2)) := by decide +kernel
theorem dX12_burst_143 : decode cX12_burst 143 = .ok (.iload 5, 2) := bdX12_burst_143.1
theorem dX12_burst_145 : decode cX12_burst 145 = .ok (.iastore, 1) := bdX12_burst_143.2.1
theorem dX12_burst_146 : decode cX12_burst 146 = .ok (.aload_n 0, 1) := bdX12_burst_143.2.2.1
theorem dX12_burst_147 : decode cX12_burst 147 = .ok (.getfield 7, 3) := bdX12_burst_143.2.2.2.1
theorem dX12_burst_150 : decode cX12_burst 150 = .ok (.iload 9, 2) := bdX12_burst_143.2.2.2.2.1
theorem dX12_burst_152 : decode cX12_burst 152 = .ok (.iconst 5, 1) := bdX12_burst_143.2.2.2.2.2.1
theorem dX12_burst_153 : decode cX12_burst 153 = .ok (.iadd, 1) := bdX12_burst_143.2.2.2.2.2.2.1
theorem dX12_burst_154 : decode cX12_burst 154 = .ok (.iload 6, 2) := bdX12_burst_143.2.2.2.2.2.2.2.1
theorem dX12_burst_156 : decode cX12_burst 156 = .ok (.ifCond .eq 7, 3) := bdX12_burst_143.2.2.2.2.2.2.2.2.1
theorem dX12_burst_159 : decode cX12_burst 159 = .ok (.iconst 1, 1) := bdX12_burst_143.2.2.2.2.2.2.2.2.2.1
theorem dX12_burst_160 : decode cX12_burst 160 = .ok (.goto 4, 3) := bdX12_burst_143.2.2.2.2.2.2.2.2.2.2.1
theorem dX12_burst_163 : decode cX12_burst 163 = .ok (.iconst 0, 1) := bdX12_burst_143.2.2.2.2.2.2.2.2.2.2.2.1
theorem dX12_burst_164 : decode cX12_burst 164 = .ok (.iastore, 1) := bdX12_burst_143.2.2.2.2.2.2.2.2.2.2.2.2.1
theorem dX12_burst_165 : decode cX12_burst 165 = .ok (.aload_n 0, 1) := bdX12_burst_143.2.2.2.2.2.2.2.2.2.2.2.2.2.1
theorem dX12_burst_166 : decode cX12_burst 166 = .ok (.getfield 7, 3) := bdX12_burst_143.2.2.2.2.2.2.2.2.2.2.2.2.2.2.1
theorem dX12_burst_169 : decode cX12_burst 169 = .ok (.iload 9, 2) := bdX12_burst_143.2.2.2.2.2.2.2.2.2.2.2.2.2.2.2
theorem bdX12_burst_171 : (decode cX12_burst 171 = .ok (.bipush 6, 2)) ∧ (decode cX12_burst 173 = .ok (.iadd, 1)) ∧ (decode cX12_burst 174 = .ok (.iload 7, 2)) ∧ (decode cX12_burst 176 = .ok (.ifCond .eq 7, 3)) ∧ (decode cX12_burst 179 = .ok (.iconst 1, 1)) ∧ (decode cX12_burst 180 = .ok (.goto 4, 3)) ∧ (decode cX12_burst 183 = .ok (.iconst 0, 1)) ∧ (decode cX12_burst 184 = .ok (.iastore, 1)) ∧ (decode cX12_burst 185 = .ok (.aload_n 0, 1)) ∧ (decode cX12_burst 186 = .ok (.getfield 7, 3)) ∧ (decode cX12_burst 189 = .ok (.iconst 3, 1)) ∧ (decode cX12_burst 190 = .ok (.dup2, 1)) ∧ (decode cX12_burst 191 = .ok (.iaload, 1)) ∧ (decode cX12_burst 192 = .ok (.iconst 1, 1)) ∧ (decode cX12_burst 193 = .ok (.iadd, 1)) ∧ (decode cX12_burst 194 = .ok (.iastore, 1)) := by decide +kernel
theorem dX12_burst_171 : decode cX12_burst 171 = .ok (.bipush 6, 2) := bdX12_burst_171.1
theorem dX12_burst_173 : decode cX12_burst 173 = .ok (.iadd, 1) := bdX12_burst_171.2.1
theorem dX12_burst_174 : decode cX12_burst 174 = .ok (.iload 7, 2) := bdX12_burst_171.2.2.1
theorem dX12_burst_176 : decode cX12_burst 176 = .ok (.ifCond .eq 7, 3) := bdX12_burst_171.2.2.2.1
theorem dX12_burst_179 : decode cX12_burst 179 = .ok (.iconst 1, 1) := bdX12_burst_171.2.2.2.2.1
theorem dX12_burst_180 : decode cX12_burst 180 = .ok (.goto 4, 3) := bdX12_burst_171.2.2.2.2.2.1
theorem dX12_burst_183 : decode cX12_burst 183 = .ok (.iconst 0, 1) := bdX12_burst_171.2.2.2.2.2.2.1
theorem dX12_burst_184 : decode cX12_burst 184 = .ok (.iastore, 1) := bdX12_burst_171.2.2.2.2.2.2.2.1
theorem dX12_burst_185 : decode cX12_burst 185 = .ok (.aload_n 0, 1) := bdX12_burst_171.2.2.2.2.2.2.2.2.1
theorem dX12_burst_186 : decode cX12_burst 186 = .ok (.getfield 7, 3) := bdX12_burst_171.2.2.2.2.2.2.2.2.2.1
theorem dX12_burst_189 : decode cX12_burst 189 = .ok (.iconst 3, 1) := bdX12_burst_171.2.2.2.2.2.2.2.2.2.2.1
theorem dX12_burst_190 : decode cX12_burst 190 = .ok (.dup2, 1) := bdX12_burst_171.2.2.2.2.2.2.2.2.2.2.2.1
theorem dX12_burst_191 : decode cX12_burst 191 = .ok (.iaload, 1) := bdX12_burst_171.2.2.2.2.2.2.2.2.2.2.2.2.1
theorem dX12_burst_192 : decode cX12_burst 192 = .ok (.iconst 1, 1) := bdX12_burst_171.2.2.2.2.2.2.2.2.2.2.2.2.2.1
theorem dX12_burst_193 : decode cX12_burst 193 = .ok (.iadd, 1) := bdX12_burst_171.2.2.2.2.2.2.2.2.2.2.2.2.2.2.1
theorem dX12_burst_194 : decode cX12_burst 194 = .ok (.iastore, 1) := bdX12_burst_171.2.2.2.2.2.2.2.2.2.2.2.2.2.2.2
theorem bdX12_burst_195 : (decode cX12_burst 195 = .ok (.aload_n 0, 1)) ∧ (decode cX12_burst 196 = .ok (.getfield 7, 3)) ∧ (decode cX12_burst 199 = .ok (.iconst 3, 1)) ∧ (decode cX12_burst 200 = .ok (.iaload, 1)) ∧ (decode cX12_burst 201 = .ok (.ireturn, 1)) := by decide +kernel
theorem dX12_burst_195 : decode cX12_burst 195 = .ok (.aload_n 0, 1) := bdX12_burst_195.1
theorem dX12_burst_196 : decode cX12_burst 196 = .ok (.getfield 7, 3) := bdX12_burst_195.2.1
theorem dX12_burst_199 : decode cX12_burst 199 = .ok (.iconst 3, 1) := bdX12_burst_195.2.2.1
theorem dX12_burst_200 : decode cX12_burst 200 = .ok (.iaload, 1) := bdX12_burst_195.2.2.2.1
theorem dX12_burst_201 : decode cX12_burst 201 = .ok (.ireturn, 1) := bdX12_burst_195.2.2.2.2
theorem bdX7_hasRoomFor_0 : (decode cX7_hasRoomFor 0 = .ok (.aload_n 0, 1)) ∧ (decode cX7_hasRoomFor 1 = .ok (.getfield 31, 3)) ∧ (decode cX7_hasRoomFor 4 = .ok (.iload_n 1, 1)) ∧ (decode cX7_hasRoomFor 5 = .ok (.iadd, 1)) ∧ (decode cX7_hasRoomFor 6 = .ok (.sipush 300, 3)) ∧ (decode cX7_hasRoomFor 9 = .ok (.if_icmp .gt 7, 3)) ∧ (decode cX7_hasRoomFor 12 = .ok (.iconst 1, 1)) ∧ (decode cX7_hasRoomFor 13 = .ok (.goto 4, 3)) ∧ (decode cX7_hasRoomFor 16 = .ok (.iconst 0, 1)) ∧ (decode cX7_hasRoomFor 17 = .ok (.ireturn, 1)) := by decide +kernel
theorem dX7_hasRoomFor_0 : decode cX7_hasRoomFor 0 = .ok (.aload_n 0, 1) := bdX7_hasRoomFor_0.1
theorem dX7_hasRoomFor_1 : decode cX7_hasRoomFor 1 = .ok (.getfield 31, 3) := bdX7_hasRoomFor_0.2.1
theorem dX7_hasRoomFor_4 : decode cX7_hasRoomFor 4 = .ok (.iload_n 1, 1) := bdX7_hasRoomFor_0.2.2.1
theorem dX7_hasRoomFor_5 : decode cX7_hasRoomFor 5 = .ok (.iadd, 1) := bdX7_hasRoomFor_0.2.2.2.1
theorem dX7_hasRoomFor_6 : decode cX7_hasRoomFor 6 = .ok (.sipush 300, 3) := bdX7_hasRoomFor_0.2.2.2.2.1
theorem dX7_hasRoomFor_9 : decode cX7_hasRoomFor 9 = .ok (.if_icmp .gt 7, 3) := bdX7_hasRoomFor_0.2.2.2.2.2.1
theorem dX7_hasRoomFor_12 : decode cX7_hasRoomFor 12 = .ok (.iconst 1, 1) := bdX7_hasRoomFor_0.2.2.2.2.2.2.1
theorem dX7_hasRoomFor_13 : decode cX7_hasRoomFor 13 = .ok (.goto 4, 3) := bdX7_hasRoomFor_0.2.2.2.2.2.2.2.1
theorem dX7_hasRoomFor_16 : decode cX7_hasRoomFor 16 = .ok (.iconst 0, 1) := bdX7_hasRoomFor_0.2.2.2.2.2.2.2.2.1
theorem dX7_hasRoomFor_17 : decode cX7_hasRoomFor 17 = .ok (.ireturn, 1) := bdX7_hasRoomFor_0.2.2.2.2.2.2.2.2.2
theorem bdX7_append_0 : (decode cX7_append 0 = .ok (.bipush 24, 2)) ∧ (decode cX7_append 2 = .ok (.istore_n 2, 1)) ∧ (decode cX7_append 3 = .ok (.iload_n 2, 1)) ∧ (decode cX7_append 4 = .ok (.ifCond .lt 54, 3)) ∧ (decode cX7_append 7 = .ok (.aload_n 0, 1)) ∧ (decode cX7_append 8 = .ok (.getfield 31, 3)) ∧ (decode cX7_append 11 = .ok (.ifCond .lt 41, 3)) ∧ (decode cX7_append 14 = .ok (.aload_n 0, 1)) ∧ (decode cX7_append 15 = .ok (.getfield 31, 3)) ∧ (decode cX7_append 18 = .ok (.aload_n 0, 1)) ∧ (decode cX7_append 19 = .ok (.getfield 11, 3)) ∧ (decode cX7_append 22 = .ok (.arraylength, 1)) ∧ (decode cX7_append 23 = .ok (.if_icmp .ge 29, 3)) ∧ (decode cX7_append 26 = .ok (.aload_n 0, 1)) ∧ (decode cX7_append 27 = .ok (.getfield 11, 3)) ∧ (decode cX7_append 30 = .ok (.aload_n 0, 1)) := by decide +kernel
theorem dX7_append_0 : decode cX7_append 0 = .ok (.bipush 24, 2) := bdX7_append_0.1
theorem dX7_append_2 : decode cX7_append 2 = .ok (.istore_n 2, 1) := bdX7_append_0.2.1
theorem dX7_append_3 : decode cX7_append 3 = .ok (.iload_n 2, 1) := bdX7_append_0.2.2.1
theorem dX7_append_4 : decode cX7_append 4 = .ok (.ifCond .lt 54, 3) := bdX7_append_0.2.2.2.1
theorem dX7_append_7 : decode cX7_append 7 = .ok (.aload_n 0, 1) := bdX7_append_0.2.2.2.2.1
theorem dX7_append_8 : decode cX7_append 8 = .ok (.getfield 31, 3) := bdX7_append_0.2.2.2.2.2.1
theorem dX7_append_11 : decode cX7_append 11 = .ok (.ifCond .lt 41, 3) := bdX7_append_0.2.2.2.2.2.2.1
theorem dX7_append_14 : decode cX7_append 14 = .ok (.aload_n 0, 1) := bdX7_append_0.2.2.2.2.2.2.2.1
theorem dX7_append_15 : decode cX7_append 15 = .ok (.getfield 31, 3) := bdX7_append_0.2.2.2.2.2.2.2.2.1
theorem dX7_append_18 : decode cX7_append 18 = .ok (.aload_n 0, 1) := bdX7_append_0.2.2.2.2.2.2.2.2.2.1
theorem dX7_append_19 : decode cX7_append 19 = .ok (.getfield 11, 3) := bdX7_append_0.2.2.2.2.2.2.2.2.2.2.1
theorem dX7_append_22 : decode cX7_append 22 = .ok (.arraylength, 1) := bdX7_append_0.2.2.2.2.2.2.2.2.2.2.2.1
theorem dX7_append_23 : decode cX7_append 23 = .ok (.if_icmp .ge 29, 3) := bdX7_append_0.2.2.2.2.2.2.2.2.2.2.2.2.1
theorem dX7_append_26 : decode cX7_append 26 = .ok (.aload_n 0, 1) := bdX7_append_0.2.2.2.2.2.2.2.2.2.2.2.2.2.1
theorem dX7_append_27 : decode cX7_append 27 = .ok (.getfield 11, 3) := bdX7_append_0.2.2.2.2.2.2.2.2.2.2.2.2.2.2.1
theorem dX7_append_30 : decode cX7_append 30 = .ok (.aload_n 0, 1) := bdX7_append_0.2.2.2.2.2.2.2.2.2.2.2.2.2.2.2
theorem bdX7_append_31 : (decode cX7_append 31 = .ok (.getfield 31, 3)) ∧ (decode cX7_append 34 = .ok (.iload_n 1, 1)) ∧ (decode cX7_append 35 = .ok (.iload_n 2, 1)) ∧ (decode cX7_append 36 = .ok (.ishr, 1)) ∧ (decode cX7_append 37 = .ok (.sipush 255, 3)) ∧ (decode cX7_append 40 = .ok (.iand, 1)) ∧ (decode cX7_append 41 = .ok (.iastore, 1)) ∧ (decode cX7_append 42 = .ok (.aload_n 0, 1)) ∧ (decode cX7_append 43 = .ok (.dup, 1)) ∧ (decode cX7_append 44 = .ok (.getfield 31, 3)) ∧ (decode cX7_append 47 = .ok (.iconst 1, 1)) ∧ (decode cX7_append 48 = .ok (.iadd, 1)) ∧ (decode cX7_append 49 = .ok (.putfield 31, 3)) ∧ (decode cX7_append 52 = .ok (.iinc 2 (-8), 3)) ∧ (decode cX7_append 55 = .ok (.goto (-52), 3)) ∧ (decode cX7_append 58 = .ok (.return_, 1)) := by decide +kernel
theorem dX7_append_31 : decode cX7_append 31 = .ok (.getfield 31, 3) := bdX7_append_31.1
theorem dX7_append_34 : decode cX7_append 34 = .ok (.iload_n 1, 1) := bdX7_append_31.2.1
theorem dX7_append_35 : decode cX7_append 35 = .ok (.iload_n 2, 1) := bdX7_append_31.2.2.1
theorem dX7_append_36 : decode cX7_append 36 = .ok (.ishr, 1) := bdX7_append_31.2.2.2.1
theorem dX7_append_37 : decode cX7_append 37 = .ok (.sipush 255, 3) := bdX7_append_31.2.2.2.2.1
theorem dX7_append_40 : decode cX7_append 40 = .ok (.iand, 1) := bdX7_append_31.2.2.2.2.2.1
theorem dX7_append_41 : decode cX7_append 41 = .ok (.iastore, 1) := bdX7_append_31.2.2.2.2.2.2.1
theorem dX7_append_42 : decode cX7_append 42 = .ok (.aload_n 0, 1) := bdX7_append_31.2.2.2.2.2.2.2.1
theorem dX7_append_43 : decode cX7_append 43 = .ok (.dup, 1) := bdX7_append_31.2.2.2.2.2.2.2.2.1
theorem dX7_append_44 : decode cX7_append 44 = .ok (.getfield 31, 3) := bdX7_append_31.2.2.2.2.2.2.2.2.2.1
theorem dX7_append_47 : decode cX7_append 47 = .ok (.iconst 1, 1) := bdX7_append_31.2.2.2.2.2.2.2.2.2.2.1
theorem dX7_append_48 : decode cX7_append 48 = .ok (.iadd, 1) := bdX7_append_31.2.2.2.2.2.2.2.2.2.2.2.1
theorem dX7_append_49 : decode cX7_append 49 = .ok (.putfield 31, 3) := bdX7_append_31.2.2.2.2.2.2.2.2.2.2.2.2.1
theorem dX7_append_52 : decode cX7_append 52 = .ok (.iinc 2 (-8), 3) := bdX7_append_31.2.2.2.2.2.2.2.2.2.2.2.2.2.1
theorem dX7_append_55 : decode cX7_append 55 = .ok (.goto (-52), 3) := bdX7_append_31.2.2.2.2.2.2.2.2.2.2.2.2.2.2.1
theorem dX7_append_58 : decode cX7_append 58 = .ok (.return_, 1) := bdX7_append_31.2.2.2.2.2.2.2.2.2.2.2.2.2.2.2
theorem bdX11_feed_0 : (decode cX11_feed 0 = .ok (.aload_n 0, 1)) ∧ (decode cX11_feed 1 = .ok (.getfield 32, 3)) ∧ (decode cX11_feed 4 = .ok (.bipush 20, 2)) ∧ (decode cX11_feed 6 = .ok (.invokevirtual 134, 3)) ∧ (decode cX11_feed 9 = .ok (.ifCond .ne 5, 3)) ∧ (decode cX11_feed 12 = .ok (.iconst (-1), 1)) ∧ (decode cX11_feed 13 = .ok (.ireturn, 1)) ∧ (decode cX11_feed 14 = .ok (.aload_n 0, 1)) ∧ (decode cX11_feed 15 = .ok (.getfield 32, 3)) ∧ (decode cX11_feed 18 = .ok (.iload_n 1, 1)) ∧ (decode cX11_feed 19 = .ok (.invokevirtual 137, 3)) ∧ (decode cX11_feed 22 = .ok (.aload_n 0, 1)) ∧ (decode cX11_feed 23 = .ok (.getfield 32, 3)) ∧ (decode cX11_feed 26 = .ok (.iload_n 2, 1)) ∧ (decode cX11_feed 27 = .ok (.invokevirtual 137, 3)) ∧ (decode cX11_feed 30 = .ok (.aload_n 0, 1)) := by decide +kernel
theorem dX11_feed_0 : decode cX11_feed 0 = .ok (.aload_n 0, 1) := bdX11_feed_0.1
theorem dX11_feed_1 : decode cX11_feed 1 = .ok (.getfield 32, 3) := bdX11_feed_0.2.1
theorem dX11_feed_4 : decode cX11_feed 4 = .ok (.bipush 20, 2) := bdX11_feed_0.2.2.1
theorem dX11_feed_6 : decode cX11_feed 6 = .ok (.invokevirtual 134, 3) := bdX11_feed_0.2.2.2.1
theorem dX11_feed_9 : decode cX11_feed 9 = .ok (.ifCond .ne 5, 3) := bdX11_feed_0.2.2.2.2.1
theorem dX11_feed_12 : decode cX11_feed 12 = .ok (.iconst (-1), 1) := bdX11_feed_0.2.2.2.2.2.1
theorem dX11_feed_13 : decode cX11_feed 13 = .ok (.ireturn, 1) := bdX11_feed_0.2.2.2.2.2.2.1
theorem dX11_feed_14 : decode cX11_feed 14 = .ok (.aload_n 0, 1) := bdX11_feed_0.2.2.2.2.2.2.2.1
theorem dX11_feed_15 : decode cX11_feed 15 = .ok (.getfield 32, 3) := bdX11_feed_0.2.2.2.2.2.2.2.2.1
theorem dX11_feed_18 : decode cX11_feed 18 = .ok (.iload_n 1, 1) := bdX11_feed_0.2.2.2.2.2.2.2.2.2.1
theorem dX11_feed_19 : decode cX11_feed 19 = .ok (.invokevirtual 137, 3) := bdX11_feed_0.2.2.2.2.2.2.2.2.2.2.1
theorem dX11_feed_22 : decode cX11_feed 22 = .ok (.aload_n 0, 1) := bdX11_feed_0.2.2.2.2.2.2.2.2.2.2.2.1
theorem dX11_feed_23 : decode cX11_feed 23 = .ok (.getfield 32, 3) := bdX11_feed_0.2.2.2.2.2.2.2.2.2.2.2.2.1
theorem dX11_feed_26 : decode cX11_feed 26 = .ok (.iload_n 2, 1) := bdX11_feed_0.2.2.2.2.2.2.2.2.2.2.2.2.2.1
theorem dX11_feed_27 : decode cX11_feed 27 = .ok (.invokevirtual 137, 3) := bdX11_feed_0.2.2.2.2.2.2.2.2.2.2.2.2.2.2.1
theorem dX11_feed_30 : decode cX11_feed 30 = .ok (.aload_n 0, 1) := bdX11_feed_0.2.2.2.2.2.2.2.2.2.2.2.2.2.2.2
theorem bdX11_feed_31 : (decode cX11_feed 31 = .ok (.getfield 32, 3)) ∧ (decode cX11_feed 34 = .ok (.iload_n 3, 1)) ∧ (decode cX11_feed 35 = .ok (.invokevirtual 137, 3)) ∧ (decode cX11_feed 38 = .ok (.aload_n 0, 1)) ∧ (decode cX11_feed 39 = .ok (.getfield 32, 3)) ∧ (decode cX11_feed 42 = .ok (.iload 4, 2)) ∧ (decode cX11_feed 44 = .ok (.invokevirtual 137, 3)) ∧ (decode cX11_feed 47 = .ok (.aload_n 0, 1)) ∧ (decode cX11_feed 48 = .ok (.getfield 32, 3)) ∧ (decode cX11_feed 51 = .ok (.iload 5, 2)) ∧ (decode cX11_feed 53 = .ok (.invokevirtual 137, 3)) ∧ (decode cX11_feed 56 = .ok (.aload_n 0, 1)) ∧ (decode cX11_feed 57 = .ok (.getfield 32, 3)) ∧ (decode cX11_feed 60 = .ok (.getfield 140, 3)) ∧ (decode cX11_feed 63 = .ok (.ireturn, 1)) := by decide +kernel
theorem dX11_feed_31 : decode cX11_feed 31 = .ok (.getfield 32, 3) := bdX11_feed_31.1
theorem dX11_feed_34 : decode cX11_feed 34 = .ok (.iload_n 3, 1) := bdX11_feed_31.2.1
theorem dX11_feed_35 : decode cX11_feed 35 = .ok (.invokevirtual 137, 3) := bdX11_feed_31.2.2.1
theorem dX11_feed_38 : decode cX11_feed 38 = .ok (.aload_n 0, 1) := bdX11_feed_31.2.2.2.1
theorem dX11_feed_39 : decode cX11_feed 39 = .ok (.getfield 32, 3) := bdX11_feed_31.2.2.2.2.1
theorem dX11_feed_42 : decode cX11_feed 42 = .ok (.iload 4, 2) := bdX11_feed_31.2.2.2.2.2.1
theorem dX11_feed_44 : decode cX11_feed 44 = .ok (.invokevirtual 137, 3) := bdX11_feed_31.2.2.2.2.2.2.1
theorem dX11_feed_47 : decode cX11_feed 47 = .ok (.aload_n 0, 1) := bdX11_feed_31.2.2.2.2.2.2.2.1
theorem dX11_feed_48 : decode cX11_feed 48 = .ok (.getfield 32, 3) := bdX11_feed_31.2.2.2.2.2.2.2.2.1
theorem dX11_feed_51 : decode cX11_feed 51 = .ok (.iload 5, 2) := bdX11_feed_31.2.2.2.2.2.2.2.2.2.1
theorem dX11_feed_53 : decode cX11_feed 53 = .ok (.invokevirtual 137, 3) := bdX11_feed_31.2.2.2.2.2.2.2.2.2.2.1
theorem dX11_feed_56 : decode cX11_feed 56 = .ok (.aload_n 0, 1) := bdX11_feed_31.2.2.2.2.2.2.2.2.2.2.2.1
theorem dX11_feed_57 : decode cX11_feed 57 = .ok (.getfield 32, 3) := bdX11_feed_31.2.2.2.2.2.2.2.2.2.2.2.2.1
theorem dX11_feed_60 : decode cX11_feed 60 = .ok (.getfield 140, 3) := bdX11_feed_31.2.2.2.2.2.2.2.2.2.2.2.2.2.1
theorem dX11_feed_63 : decode cX11_feed 63 = .ok (.ireturn, 1) := bdX11_feed_31.2.2.2.2.2.2.2.2.2.2.2.2.2.2
def fX3_turnTo_40 (a0 : Nat) (a1 : Int32) (m : xMem) : Option xMem := some m
set_option maxRecDepth 4000 in
theorem fX3_turnTo_40_ok {a0 : Nat} {a1 : Int32} {d : Nat} (hd : 0 ≤ d) (ha0 : isLink a0) {m : xMem} {r : xMem} (h : fX3_turnTo_40 a0 a1 m = some r) : xFx hh_30 cX3_turnTo d 40 [some (.ref a0), some (.int a1)] [] (xLay m) 0 0 none (xLay r) := by
  unfold fX3_turnTo_40 at h
  cases h
  exact fx_return dX3_turnTo_40 rfl rfl
def fX3_turnTo_30 (a0 : Nat) (a1 : Int32) (m : xMem) : Option xMem := xLet (xPut m a0 6 a1) fun m1 => xLet (xPut m1 a0 12 (1 : Int32)) fun m2 => fX3_turnTo_40 a0 a1 m2
set_option maxRecDepth 4000 in
theorem fX3_turnTo_30_ok {a0 : Nat} {a1 : Int32} {d : Nat} (hd : 0 ≤ d) (ha0 : isLink a0) {m : xMem} {r : xMem} (h : fX3_turnTo_30 a0 a1 m = some r) : xFx hh_30 cX3_turnTo d 30 [some (.ref a0), some (.int a1)] [] (xLay m) 0 0 none (xLay r) := by
  unfold fX3_turnTo_30 at h
  refine fx_aload_n dX3_turnTo_30 rfl rfl ?_
  refine fx_iload_n dX3_turnTo_31 rfl rfl ?_
  obtain ⟨m1, hm1, h⟩ := xLet_el h
  refine gx_put dX3_turnTo_32 rfl fd_3_31 ha0.1 rfl rfl rfl hm1 ?_
  refine fx_aload_n dX3_turnTo_35 rfl rfl ?_
  refine fx_iconst (x := 1) dX3_turnTo_36 rfl (by decide) ?_
  obtain ⟨m2, hm2, h⟩ := xLet_el h
  refine gx_put dX3_turnTo_37 rfl fd_3_49 ha0.1 rfl rfl rfl hm2 ?_
  exact fX3_turnTo_40_ok hd ha0 h
def fX3_turnTo_0 (a0 : Nat) (a1 : Int32) (m : xMem) : Option xMem := if ¬ a1 = (0 : Int32) then xLet (xPut m a0 7 a1) fun m2 => xLet (m2.1 a0 9) fun x3 => if x3 = (0 : Int32) then fX3_turnTo_30 a0 a1 m2 else xLet (m2.1 a0 6) fun x5 => if ¬ x5 = a1 then fX3_turnTo_40 a0 a1 m2 else fX3_turnTo_30 a0 a1 m2 else xLet (xPut m a0 12 (0 : Int32)) fun m7 => some m7
set_option maxRecDepth 4000 in
theorem fX3_turnTo_0_ok {a0 : Nat} {a1 : Int32} {d : Nat} (hd : 0 ≤ d) (ha0 : isLink a0) {m : xMem} {r : xMem} (h : fX3_turnTo_0 a0 a1 m = some r) : xFx hh_30 cX3_turnTo d 0 [some (.ref a0), some (.int a1)] [] (xLay m) 0 0 none (xLay r) := by
  unfold fX3_turnTo_0 at h
  refine fx_iload_n dX3_turnTo_0 rfl rfl ?_
  refine fx_if_ne (t := 10) dX3_turnTo_1 rfl rfl (fun hc1 => ?_) (fun hc1 => ?_)
  · rw [if_pos hc1] at h
    refine fx_aload_n dX3_turnTo_10 rfl rfl ?_
    refine fx_iload_n dX3_turnTo_11 rfl rfl ?_
    obtain ⟨m2, hm2, h⟩ := xLet_el h
    refine gx_put dX3_turnTo_12 rfl fd_3_34 ha0.1 rfl rfl rfl hm2 ?_
    refine fx_aload_n dX3_turnTo_15 rfl rfl ?_
    obtain ⟨x3, hx3, h⟩ := xLet_el h
    refine gx_get dX3_turnTo_16 rfl fd_3_40 ha0.1 rfl rfl hx3 ?_
    refine fx_if_eq (t := 30) dX3_turnTo_19 rfl rfl (fun hc4 => ?_) (fun hc4 => ?_)
    · rw [if_pos hc4] at h
      exact fX3_turnTo_30_ok hd ha0 h
    · rw [if_neg hc4] at h
      refine fx_aload_n dX3_turnTo_22 rfl rfl ?_
      obtain ⟨x5, hx5, h⟩ := xLet_el h
      refine gx_get dX3_turnTo_23 rfl fd_3_31 ha0.1 rfl rfl hx5 ?_
      refine fx_iload_n dX3_turnTo_26 rfl rfl ?_
      refine fx_icmp_ne (t := 40) dX3_turnTo_27 rfl rfl (fun hc6 => ?_) (fun hc6 => ?_)
      · rw [if_pos hc6] at h
        exact fX3_turnTo_40_ok hd ha0 h
      · rw [if_neg hc6] at h
        exact fX3_turnTo_30_ok hd ha0 h
  · rw [if_neg hc1] at h
    refine fx_aload_n dX3_turnTo_4 rfl rfl ?_
    refine fx_iconst (x := 0) dX3_turnTo_5 rfl (by decide) ?_
    obtain ⟨m7, hm7, h⟩ := xLet_el h
    refine gx_put dX3_turnTo_6 rfl fd_3_49 ha0.1 rfl rfl rfl hm7 ?_
    cases h
    exact fx_return dX3_turnTo_9 rfl rfl
def fX3_turnTo (a0 : Nat) (a1 : Int32) (m : xMem) : Option xMem := fX3_turnTo_0 a0 a1  m
theorem fX3_turnTo_ok {a0 : Nat} {a1 : Int32} {m : xMem} {r : xMem} {d : Nat} (hd : 1 ≤ d) (ha0 : isLink a0) (h : fX3_turnTo a0 a1 m = some r) : xEx d 30 [.ref a0, .int a1] (xLay m) none (xLay r) := by
  obtain ⟨d, rfl⟩ : ∃ q, d = q + 1 := ⟨d - 1, by omega⟩
  exact xEx_of me_30 rfl (fX3_turnTo_0_ok (d := d) (by omega) ha0 h)
def fX11_turn_20 (a0 : Nat) (a1 : Int32) (a2 : Int32) (m : xMem) : Option (Int32 × xMem) := some ((0 : Int32), m)
set_option maxRecDepth 4000 in
theorem fX11_turn_20_ok {a0 : Nat} {a1 : Int32} {a2 : Int32} {d : Nat} (hd : 2 ≤ d) (ha0 : isMS a0) {m : xMem} {r : (Int32 × xMem)} (h : fX11_turn_20 a0 a1 a2 m = some r) : xFx hh_27 cX11_turn d 20 [some (.ref a0), some (.int a1), some (.int a2)] [] (xLay m) 0 0 (some (.int r.1)) (xLay r.2) := by
  unfold fX11_turn_20 at h
  refine fx_iconst (x := 0) dX11_turn_20 rfl (by decide) ?_
  cases h
  exact fx_ireturn dX11_turn_21 rfl rfl
def fX11_turn_0 (a0 : Nat) (a1 : Int32) (a2 : Int32) (m : xMem) : Option (Int32 × xMem) := (fX9_hasStepped (a0 + 1) a1 m).bind fun p1 => if p1.1 = (0 : Int32) then fX11_turn_20 a0 a1 a2 p1.2 else (fX11_within a2 (0 : Int32) (2 : Int32) p1.2).bind fun p3 => if ¬ p3.1 = (0 : Int32) then bif xIn a1 10 then xLet (a0 + 1 + 33 + 2 * a1.toNatClampNeg) fun r6 => (fX3_turnTo r6 a2 p3.2).bind fun p7 => some ((1 : Int32), p7) else none else fX11_turn_20 a0 a1 a2 p3.2
set_option maxRecDepth 4000 in
theorem fX11_turn_0_ok {a0 : Nat} {a1 : Int32} {a2 : Int32} {d : Nat} (hd : 2 ≤ d) (ha0 : isMS a0) {m : xMem} {r : (Int32 × xMem)} (h : fX11_turn_0 a0 a1 a2 m = some r) : xFx hh_27 cX11_turn d 0 [some (.ref a0), some (.int a1), some (.int a2)] [] (xLay m) 0 0 (some (.int r.1)) (xLay r.2) := by
  unfold fX11_turn_0 at h
  refine fx_aload_n dX11_turn_0 rfl rfl ?_
  refine gx_getr dX11_turn_1 rfl fd_11_10 ha0.1 rfl rfl ?_
  refine fx_iload_n dX11_turn_4 rfl rfl ?_
  obtain ⟨p1, ep1, h⟩ := xBind_el h
  refine gx_callv (as := [.int a1]) (r := []) rfl dX11_turn_5 ca_11_84 rfl me_28 rfl rfl rfl rfl (ha0.2.1.1) rfl (fX9_hasStepped_ok (d := d) (by omega) ha0.2.1 ep1) rfl rfl ?_
  refine fx_if_eq (t := 20) dX11_turn_8 rfl rfl (fun hc2 => ?_) (fun hc2 => ?_)
  · rw [if_pos hc2] at h
    exact fX11_turn_20_ok hd ha0 h
  · rw [if_neg hc2] at h
    refine fx_iload_n dX11_turn_11 rfl rfl ?_
    refine fx_iconst (x := 0) dX11_turn_12 rfl (by decide) ?_
    refine fx_iconst (x := 2) dX11_turn_13 rfl (by decide) ?_
    obtain ⟨p3, ep3, h⟩ := xBind_el h
    refine gx_calls (as := [.int a2, .int (0 : Int32), .int (2 : Int32)]) (r := []) rfl dX11_turn_14 ca_11_47 rfl me_14 rfl rfl rfl rfl (fX11_within_ok (d := d) (by omega) ep3) rfl rfl ?_
    refine fx_if_ne (t := 22) dX11_turn_17 rfl rfl (fun hc4 => ?_) (fun hc4 => ?_)
    · rw [if_pos hc4] at h
      refine fx_aload_n dX11_turn_22 rfl rfl ?_
      refine gx_getr dX11_turn_23 rfl fd_11_10 ha0.1 rfl rfl ?_
      refine gx_getr dX11_turn_26 rfl fd_11_75 ha0.2.1.1 rfl rfl ?_
      refine fx_iload_n dX11_turn_29 rfl rfl ?_
      obtain ⟨hj5, h⟩ := xChk_el h
      obtain ⟨r6, hr6, h⟩ := xLet_el h
      refine gx_aaload (t := 5) dX11_turn_30 rfl ha0.2.1.2.2.1 rfl hj5 ((xRef_at (sl_9_1 (a0 + 1)) hj5).trans (congrArg some hr6)) ?_
      have hpr6 : isLink r6 := by rw [← hr6]; exact ha0.2.1.2.2.2.2.2.2.2.2.1 _ (xIn_lt hj5)
      refine fx_iload_n dX11_turn_31 rfl rfl ?_
      obtain ⟨p7, ep7, h⟩ := xBind_el h
      refine gx_callv (as := [.int a2]) (r := []) rfl dX11_turn_32 ca_11_87 rfl me_30 rfl rfl rfl rfl (hpr6.1) rfl (fX3_turnTo_ok (d := d) (by omega) hpr6 ep7) rfl rfl ?_
      refine fx_iconst (x := 1) dX11_turn_35 rfl (by decide) ?_
      cases h
      exact fx_ireturn dX11_turn_36 rfl rfl
    · rw [if_neg hc4] at h
      exact fX11_turn_20_ok hd ha0 h
def fX11_turn (a0 : Nat) (a1 : Int32) (a2 : Int32) (m : xMem) : Option (Int32 × xMem) := fX11_turn_0 a0 a1 a2  m
theorem fX11_turn_ok {a0 : Nat} {a1 : Int32} {a2 : Int32} {m : xMem} {r : (Int32 × xMem)} {d : Nat} (hd : 3 ≤ d) (ha0 : isMS a0) (h : fX11_turn a0 a1 a2 m = some r) : xEx d 27 [.ref a0, .int a1, .int a2] (xLay m) (some (.int r.1)) (xLay r.2) := by
  obtain ⟨d, rfl⟩ : ∃ q, d = q + 1 := ⟨d - 1, by omega⟩
  exact xEx_of me_27 rfl (fX11_turn_0_ok (d := d) (by omega) ha0 h)
def fX12_isLink_0 (a0 : Nat) (a1 : Int32) (m : xMem) : Option (Int32 × xMem) := bif xIn (2 : Int32) 1610 then xLet (m.1 (a0 + 1) (2 : Int32).toNatClampNeg) fun x1 => xLet (x1 - (1 : Int32)) fun x3 => (fX12_in a1 (0 : Int32) x3 m).bind fun p4 => bif (decide (p4.1 = 0) || decide (p4.1 = 1)) then some (p4.1, p4.2) else none else none
set_option maxRecDepth 4000 in
theorem fX12_isLink_0_ok {a0 : Nat} {a1 : Int32} {d : Nat} (hd : 1 ≤ d) (ha0 : isModel a0) {m : xMem} {r : (Int32 × xMem)} (h : fX12_isLink_0 a0 a1 m = some r) : xFx hh_33 cX12_isLink d 0 [some (.ref a0), some (.int a1)] [] (xLay m) 0 0 (some (.int r.1)) (xLay r.2) := by
  unfold fX12_isLink_0 at h
  refine fx_iload_n dX12_isLink_0 rfl rfl ?_
  refine fx_iconst (x := 0) dX12_isLink_1 rfl (by decide) ?_
  refine fx_aload_n dX12_isLink_2 rfl rfl ?_
  refine gx_getr dX12_isLink_3 rfl fd_12_7 ha0.1 rfl rfl ?_
  refine fx_iconst (x := 2) dX12_isLink_6 rfl (by decide) ?_
  obtain ⟨hj2, h⟩ := xChk_el h
  obtain ⟨x1, hx1, h⟩ := xLet_el h
  refine gx_iaload dX12_isLink_7 rfl ha0.2.1 hj2 hx1 ?_
  refine fx_iconst (x := 1) dX12_isLink_8 rfl (by decide) ?_
  obtain ⟨x3, hx3, h⟩ := xLet_el h
  refine fx_isub dX12_isLink_9 rfl hx3 ?_
  obtain ⟨p4, ep4, h⟩ := xBind_el h
  refine gx_calls (as := [.int a1, .int (0 : Int32), .int x3]) (r := []) rfl dX12_isLink_10 ca_12_95 rfl me_18 rfl rfl rfl rfl (fX12_in_ok (d := d) (by omega) ep4) rfl rfl ?_
  obtain ⟨hb5, h⟩ := xChk_el h
  cases h
  exact fx_ireturn dX12_isLink_13 rfl (by show ((decide _ || decide _) && _) = true; rw [hb5]; rfl)
def fX12_isLink (a0 : Nat) (a1 : Int32) (m : xMem) : Option (Int32 × xMem) := fX12_isLink_0 a0 a1  m
theorem fX12_isLink_ok {a0 : Nat} {a1 : Int32} {m : xMem} {r : (Int32 × xMem)} {d : Nat} (hd : 2 ≤ d) (ha0 : isModel a0) (h : fX12_isLink a0 a1 m = some r) : xEx d 33 [.ref a0, .int a1] (xLay m) (some (.int r.1)) (xLay r.2) := by
  obtain ⟨d, rfl⟩ : ∃ q, d = q + 1 := ⟨d - 1, by omega⟩
  exact xEx_of me_33 rfl (fX12_isLink_0_ok (d := d) (by omega) ha0 h)
def fX12_linkOf_0 (a0 : Nat) (a1 : Int32) (a2 : Int32) (m : xMem) : Option (Int32 × xMem) := xLet ((14 : Int32) * a1) fun x1 => xLet ((210 : Int32) + x1) fun x2 => xLet (x2 + a2) fun x3 => bif xIn x3 1610 then xLet (m.1 (a0 + 1) x3.toNatClampNeg) fun x4 => some (x4, m) else none
set_option maxRecDepth 4000 in
theorem fX12_linkOf_0_ok {a0 : Nat} {a1 : Int32} {a2 : Int32} {d : Nat} (hd : 0 ≤ d) (ha0 : isModel a0) {m : xMem} {r : (Int32 × xMem)} (h : fX12_linkOf_0 a0 a1 a2 m = some r) : xFx hh_34 cX12_linkOf d 0 [some (.ref a0), some (.int a1), some (.int a2)] [] (xLay m) 0 0 (some (.int r.1)) (xLay r.2) := by
  unfold fX12_linkOf_0 at h
  refine fx_aload_n dX12_linkOf_0 rfl rfl ?_
  refine gx_getr dX12_linkOf_1 rfl fd_12_7 ha0.1 rfl rfl ?_
  refine fx_sipush (x := 210) dX12_linkOf_4 rfl (by decide) ?_
  refine fx_bipush (x := 14) dX12_linkOf_7 rfl (by decide) ?_
  refine fx_iload_n dX12_linkOf_9 rfl rfl ?_
  obtain ⟨x1, hx1, h⟩ := xLet_el h
  refine fx_imul dX12_linkOf_10 rfl hx1 ?_
  obtain ⟨x2, hx2, h⟩ := xLet_el h
  refine fx_iadd dX12_linkOf_11 rfl hx2 ?_
  refine fx_iload_n dX12_linkOf_12 rfl rfl ?_
  obtain ⟨x3, hx3, h⟩ := xLet_el h
  refine fx_iadd dX12_linkOf_13 rfl hx3 ?_
  obtain ⟨hj5, h⟩ := xChk_el h
  obtain ⟨x4, hx4, h⟩ := xLet_el h
  refine gx_iaload dX12_linkOf_14 rfl ha0.2.1 hj5 hx4 ?_
  cases h
  exact fx_ireturn dX12_linkOf_15 rfl rfl
def fX12_linkOf (a0 : Nat) (a1 : Int32) (a2 : Int32) (m : xMem) : Option (Int32 × xMem) := fX12_linkOf_0 a0 a1 a2  m
theorem fX12_linkOf_ok {a0 : Nat} {a1 : Int32} {a2 : Int32} {m : xMem} {r : (Int32 × xMem)} {d : Nat} (hd : 1 ≤ d) (ha0 : isModel a0) (h : fX12_linkOf a0 a1 a2 m = some r) : xEx d 34 [.ref a0, .int a1, .int a2] (xLay m) (some (.int r.1)) (xLay r.2) := by
  obtain ⟨d, rfl⟩ : ∃ q, d = q + 1 := ⟨d - 1, by omega⟩
  exact xEx_of me_34 rfl (fX12_linkOf_0_ok (d := d) (by omega) ha0 h)
def fX12_isStairs_23 (a0 : Nat) (a1 : Int32) (s0 : Int32) (m : xMem) : Option (Int32 × xMem) := bif (decide (s0 = 0) || decide (s0 = 1)) then some (s0, m) else none
set_option maxRecDepth 4000 in
theorem fX12_isStairs_23_ok {a0 : Nat} {a1 : Int32} {d : Nat} (hd : 2 ≤ d) (ha0 : isModel a0) {s0 : Int32} {m : xMem} {r : (Int32 × xMem)} (h : fX12_isStairs_23 a0 a1 s0 m = some r) : xFx hh_32 cX12_isStairs d 23 [some (.ref a0), some (.int a1)] [.int s0] (xLay m) 0 0 (some (.int r.1)) (xLay r.2) := by
  unfold fX12_isStairs_23 at h
  obtain ⟨hb1, h⟩ := xChk_el h
  cases h
  exact fx_ireturn dX12_isStairs_23 rfl (by show ((decide _ || decide _) && _) = true; rw [hb1]; rfl)
def fX12_isStairs_22 (a0 : Nat) (a1 : Int32) (m : xMem) : Option (Int32 × xMem) := fX12_isStairs_23 a0 a1 (0 : Int32) m
set_option maxRecDepth 4000 in
theorem fX12_isStairs_22_ok {a0 : Nat} {a1 : Int32} {d : Nat} (hd : 2 ≤ d) (ha0 : isModel a0) {m : xMem} {r : (Int32 × xMem)} (h : fX12_isStairs_22 a0 a1 m = some r) : xFx hh_32 cX12_isStairs d 22 [some (.ref a0), some (.int a1)] [] (xLay m) 0 0 (some (.int r.1)) (xLay r.2) := by
  unfold fX12_isStairs_22 at h
  refine fx_iconst (x := 0) dX12_isStairs_22 rfl (by decide) ?_
  exact fX12_isStairs_23_ok hd ha0 h
def fX12_isStairs_0 (a0 : Nat) (a1 : Int32) (m : xMem) : Option (Int32 × xMem) := (fX12_isLink a0 a1 m).bind fun p1 => if p1.1 = (0 : Int32) then fX12_isStairs_22 a0 a1 p1.2 else (fX12_linkOf a0 a1 (0 : Int32) p1.2).bind fun p3 => if (2 : Int32) ≤ p3.1 then fX12_isStairs_22 a0 a1 p3.2 else fX12_isStairs_23 a0 a1 (1 : Int32) p3.2
set_option maxRecDepth 4000 in
theorem fX12_isStairs_0_ok {a0 : Nat} {a1 : Int32} {d : Nat} (hd : 2 ≤ d) (ha0 : isModel a0) {m : xMem} {r : (Int32 × xMem)} (h : fX12_isStairs_0 a0 a1 m = some r) : xFx hh_32 cX12_isStairs d 0 [some (.ref a0), some (.int a1)] [] (xLay m) 0 0 (some (.int r.1)) (xLay r.2) := by
  unfold fX12_isStairs_0 at h
  refine fx_aload_n dX12_isStairs_0 rfl rfl ?_
  refine fx_iload_n dX12_isStairs_1 rfl rfl ?_
  obtain ⟨p1, ep1, h⟩ := xBind_el h
  refine gx_callv (as := [.int a1]) (r := []) rfl dX12_isStairs_2 ca_12_99 rfl me_33 rfl rfl rfl rfl (ha0.1) rfl (fX12_isLink_ok (d := d) (by omega) ha0 ep1) rfl rfl ?_
  refine fx_if_eq (t := 22) dX12_isStairs_5 rfl rfl (fun hc2 => ?_) (fun hc2 => ?_)
  · rw [if_pos hc2] at h
    exact fX12_isStairs_22_ok hd ha0 h
  · rw [if_neg hc2] at h
    refine fx_aload_n dX12_isStairs_8 rfl rfl ?_
    refine fx_iload_n dX12_isStairs_9 rfl rfl ?_
    refine fx_iconst (x := 0) dX12_isStairs_10 rfl (by decide) ?_
    obtain ⟨p3, ep3, h⟩ := xBind_el h
    refine gx_callv (as := [.int a1, .int (0 : Int32)]) (r := []) rfl dX12_isStairs_11 ca_12_103 rfl me_34 rfl rfl rfl rfl (ha0.1) rfl (fX12_linkOf_ok (d := d) (by omega) ha0 ep3) rfl rfl ?_
    refine fx_iconst (x := 2) dX12_isStairs_14 rfl (by decide) ?_
    refine fx_icmp_ge (t := 22) dX12_isStairs_15 rfl rfl (fun hc4 => ?_) (fun hc4 => ?_)
    · rw [if_pos hc4] at h
      exact fX12_isStairs_22_ok hd ha0 h
    · rw [if_neg hc4] at h
      refine fx_iconst (x := 1) dX12_isStairs_18 rfl (by decide) ?_
      refine fx_goto (t := 23) dX12_isStairs_19 rfl rfl ?_
      exact fX12_isStairs_23_ok hd ha0 h
def fX12_isStairs (a0 : Nat) (a1 : Int32) (m : xMem) : Option (Int32 × xMem) := fX12_isStairs_0 a0 a1  m
theorem fX12_isStairs_ok {a0 : Nat} {a1 : Int32} {m : xMem} {r : (Int32 × xMem)} {d : Nat} (hd : 3 ≤ d) (ha0 : isModel a0) (h : fX12_isStairs a0 a1 m = some r) : xEx d 32 [.ref a0, .int a1] (xLay m) (some (.int r.1)) (xLay r.2) := by
  obtain ⟨d, rfl⟩ : ∃ q, d = q + 1 := ⟨d - 1, by omega⟩
  exact xEx_of me_32 rfl (fX12_isStairs_0_ok (d := d) (by omega) ha0 h)
def fX12_loadOf_35 (a0 : Nat) (a1 : Int32) (rec4 : Int32 → Int32 → xMem → Option (Int32 × xMem)) (l3 : Int32) (s0 : Int32) (s1 : Int32) (m : xMem) : Option (Int32 × xMem) := xLet (s0 + s1) fun x1 => xLet (l3 + (1 : Int32)) fun x2 => rec4 x1 x2 m
set_option maxRecDepth 4000 in
theorem fX12_loadOf_35_ok {a0 : Nat} {a1 : Int32} {rec4 : Int32 → Int32 → xMem → Option (Int32 × xMem)} {d : Nat} (hd : 0 ≤ d) (ha0 : isModel a0) (hrec4 : ∀ (l2 : Int32) (l3 : Int32) (m : xMem) (r : (Int32 × xMem)), rec4 l2 l3 m = some r → xFx hh_35 cX12_loadOf d 4 [some (.ref a0), some (.int a1), some (.int l2), some (.int l3)] [] (xLay m) 0 0 (some (.int r.1)) (xLay r.2)) {l3 : Int32} {s0 : Int32} {s1 : Int32} {o2 : Option Value} {m : xMem} {r : (Int32 × xMem)} (q2 : xNoD o2 = true) (h : fX12_loadOf_35 a0 a1 rec4 l3 s0 s1 m = some r) : xFx hh_35 cX12_loadOf d 35 [some (.ref a0), some (.int a1), o2, some (.int l3)] [.int s1, .int s0] (xLay m) 0 0 (some (.int r.1)) (xLay r.2) := by
  unfold fX12_loadOf_35 at h
  obtain ⟨x1, hx1, h⟩ := xLet_el h
  refine fx_iadd dX12_loadOf_35 rfl hx1 ?_
  refine fx_istore_n (ls2 := [some (.ref a0), some (.int a1), some (.int x1), some (.int l3)]) dX12_loadOf_36 rfl rfl rfl ?_
  obtain ⟨x2, hx2, h⟩ := xLet_el h
  refine fx_iinc (ls2 := [some (.ref a0), some (.int a1), some (.int x1), some (.int x2)]) dX12_loadOf_37 rfl rfl rfl hx2 rfl ?_
  refine fx_goto (t := 4) dX12_loadOf_40 rfl rfl ?_
  exact hrec4 x1 x2 m r h
def fX12_loadOf_4 (a0 : Nat) (a1 : Int32) : Nat → Int32 → Int32 → xMem → Option (Int32 × xMem)
  | 0, _, _, _ => none
  | fuel + 1, l2, l3, m => if (80 : Int32) ≤ l3 then some (l2, m) else xLet ((80 : Int32) * a1) fun x2 => xLet ((580 : Int32) + x2) fun x3 => xLet (x3 + l3) fun x4 => bif xIn x4 1610 then xLet (m.1 (a0 + 1) x4.toNatClampNeg) fun x5 => if x5 = (-1 : Int32) then fX12_loadOf_35 a0 a1 (fX12_loadOf_4 a0 a1 fuel) l3 l2 (0 : Int32) m else fX12_loadOf_35 a0 a1 (fX12_loadOf_4 a0 a1 fuel) l3 l2 (1 : Int32) m else none
set_option maxRecDepth 4000 in
theorem fX12_loadOf_4_ok {a0 : Nat} {a1 : Int32} {d : Nat} (hd : 0 ≤ d) (ha0 : isModel a0) : ∀ (fuel : Nat) (l2 : Int32) (l3 : Int32) (m : xMem) (r : (Int32 × xMem)), fX12_loadOf_4 a0 a1 fuel l2 l3 m = some r → xFx hh_35 cX12_loadOf d 4 [some (.ref a0), some (.int a1), some (.int l2), some (.int l3)] [] (xLay m) 0 0 (some (.int r.1)) (xLay r.2) := by
  intro fuel
  induction fuel with
  | zero => intro l2 l3  m r  h; cases h
  | succ fuel ih =>
    intro l2 l3  m r  h
    unfold fX12_loadOf_4 at h
    refine fx_iload_n dX12_loadOf_4 rfl rfl ?_
    refine fx_bipush (x := 80) dX12_loadOf_5 rfl (by decide) ?_
    refine fx_icmp_ge (t := 43) dX12_loadOf_7 rfl rfl (fun hc1 => ?_) (fun hc1 => ?_)
    · rw [if_pos hc1] at h
      refine fx_iload_n dX12_loadOf_43 rfl rfl ?_
      cases h
      exact fx_ireturn dX12_loadOf_44 rfl rfl
    · rw [if_neg hc1] at h
      refine fx_iload_n dX12_loadOf_10 rfl rfl ?_
      refine fx_aload_n dX12_loadOf_11 rfl rfl ?_
      refine gx_getr dX12_loadOf_12 rfl fd_12_7 ha0.1 rfl rfl ?_
      refine fx_sipush (x := 580) dX12_loadOf_15 rfl (by decide) ?_
      refine fx_bipush (x := 80) dX12_loadOf_18 rfl (by decide) ?_
      refine fx_iload_n dX12_loadOf_20 rfl rfl ?_
      obtain ⟨x2, hx2, h⟩ := xLet_el h
      refine fx_imul dX12_loadOf_21 rfl hx2 ?_
      obtain ⟨x3, hx3, h⟩ := xLet_el h
      refine fx_iadd dX12_loadOf_22 rfl hx3 ?_
      refine fx_iload_n dX12_loadOf_23 rfl rfl ?_
      obtain ⟨x4, hx4, h⟩ := xLet_el h
      refine fx_iadd dX12_loadOf_24 rfl hx4 ?_
      obtain ⟨hj6, h⟩ := xChk_el h
      obtain ⟨x5, hx5, h⟩ := xLet_el h
      refine gx_iaload dX12_loadOf_25 rfl ha0.2.1 hj6 hx5 ?_
      refine fx_iconst (x := -1) dX12_loadOf_26 rfl (by decide) ?_
      refine fx_icmp_eq (t := 34) dX12_loadOf_27 rfl rfl (fun hc7 => ?_) (fun hc7 => ?_)
      · rw [if_pos hc7] at h
        refine fx_iconst (x := 0) dX12_loadOf_34 rfl (by decide) ?_
        exact fX12_loadOf_35_ok (o2 := some (.int l2)) hd ha0 ih rfl h
      · rw [if_neg hc7] at h
        refine fx_iconst (x := 1) dX12_loadOf_30 rfl (by decide) ?_
        refine fx_goto (t := 35) dX12_loadOf_31 rfl rfl ?_
        exact fX12_loadOf_35_ok (o2 := some (.int l2)) hd ha0 ih rfl h
def fX12_loadOf_0 (a0 : Nat) (a1 : Int32) (m : xMem) : Option (Int32 × xMem) := fX12_loadOf_4 a0 a1 xFuel (0 : Int32) (0 : Int32) m
set_option maxRecDepth 4000 in
theorem fX12_loadOf_0_ok {a0 : Nat} {a1 : Int32} {d : Nat} (hd : 0 ≤ d) (ha0 : isModel a0) {o2 : Option Value} {o3 : Option Value} {m : xMem} {r : (Int32 × xMem)} (q2 : xNoD o2 = true) (q3 : xNoD o3 = true) (h : fX12_loadOf_0 a0 a1 m = some r) : xFx hh_35 cX12_loadOf d 0 [some (.ref a0), some (.int a1), o2, o3] [] (xLay m) 0 0 (some (.int r.1)) (xLay r.2) := by
  unfold fX12_loadOf_0 at h
  refine fx_iconst (x := 0) dX12_loadOf_0 rfl (by decide) ?_
  refine fx_istore_n (ls2 := [some (.ref a0), some (.int a1), some (.int (0 : Int32)), o3]) dX12_loadOf_1 rfl rfl rfl ?_
  refine fx_iconst (x := 0) dX12_loadOf_2 rfl (by decide) ?_
  refine fx_istore_n (ls2 := [some (.ref a0), some (.int a1), some (.int (0 : Int32)), some (.int (0 : Int32))]) dX12_loadOf_3 rfl rfl rfl ?_
  exact fX12_loadOf_4_ok hd ha0 xFuel (0 : Int32) (0 : Int32) m r h
def fX12_loadOf (a0 : Nat) (a1 : Int32) (m : xMem) : Option (Int32 × xMem) := fX12_loadOf_0 a0 a1  m
theorem fX12_loadOf_ok {a0 : Nat} {a1 : Int32} {m : xMem} {r : (Int32 × xMem)} {d : Nat} (hd : 1 ≤ d) (ha0 : isModel a0) (h : fX12_loadOf a0 a1 m = some r) : xEx d 35 [.ref a0, .int a1] (xLay m) (some (.int r.1)) (xLay r.2) := by
  obtain ⟨d, rfl⟩ : ∃ q, d = q + 1 := ⟨d - 1, by omega⟩
  exact xEx_of me_35 rfl (fX12_loadOf_0_ok (d := d) (o2 := none) (o3 := none) (by omega) ha0 rfl rfl h)
def fX12_turn_17 (a0 : Nat) (a1 : Int32) (a2 : Int32) (m : xMem) : Option (Int32 × xMem) := some ((0 : Int32), m)
set_option maxRecDepth 4000 in
theorem fX12_turn_17_ok {a0 : Nat} {a1 : Int32} {a2 : Int32} {d : Nat} (hd : 3 ≤ d) (ha0 : isModel a0) {m : xMem} {r : (Int32 × xMem)} (h : fX12_turn_17 a0 a1 a2 m = some r) : xFx hh_31 cX12_turn d 17 [some (.ref a0), some (.int a1), some (.int a2)] [] (xLay m) 0 0 (some (.int r.1)) (xLay r.2) := by
  unfold fX12_turn_17 at h
  refine fx_iconst (x := 0) dX12_turn_17 rfl (by decide) ?_
  cases h
  exact fx_ireturn dX12_turn_18 rfl rfl
def fX12_turn_74 (a0 : Nat) (a1 : Int32) (a2 : Int32) (m : xMem) : Option (Int32 × xMem) := some ((1 : Int32), m)
set_option maxRecDepth 4000 in
theorem fX12_turn_74_ok {a0 : Nat} {a1 : Int32} {a2 : Int32} {d : Nat} (hd : 3 ≤ d) (ha0 : isModel a0) {m : xMem} {r : (Int32 × xMem)} (h : fX12_turn_74 a0 a1 a2 m = some r) : xFx hh_31 cX12_turn d 74 [some (.ref a0), some (.int a1), some (.int a2)] [] (xLay m) 0 0 (some (.int r.1)) (xLay r.2) := by
  unfold fX12_turn_74 at h
  refine fx_iconst (x := 1) dX12_turn_74 rfl (by decide) ?_
  cases h
  exact fx_ireturn dX12_turn_75 rfl rfl
def fX12_turn_56 (a0 : Nat) (a1 : Int32) (a2 : Int32) (m : xMem) : Option (Int32 × xMem) := (fX12_linkOf a0 a1 (5 : Int32) m).bind fun p1 => if ¬ p1.1 = a2 then fX12_turn_74 a0 a1 a2 p1.2 else (fX12_tells a0 a1 (6 : Int32) (1 : Int32) p1.2).bind fun p3 => fX12_turn_74 a0 a1 a2 p3
set_option maxRecDepth 4000 in
theorem fX12_turn_56_ok {a0 : Nat} {a1 : Int32} {a2 : Int32} {d : Nat} (hd : 3 ≤ d) (ha0 : isModel a0) {m : xMem} {r : (Int32 × xMem)} (h : fX12_turn_56 a0 a1 a2 m = some r) : xFx hh_31 cX12_turn d 56 [some (.ref a0), some (.int a1), some (.int a2)] [] (xLay m) 0 0 (some (.int r.1)) (xLay r.2) := by
  unfold fX12_turn_56 at h
  refine fx_aload_n dX12_turn_56 rfl rfl ?_
  refine fx_iload_n dX12_turn_57 rfl rfl ?_
  refine fx_iconst (x := 5) dX12_turn_58 rfl (by decide) ?_
  obtain ⟨p1, ep1, h⟩ := xBind_el h
  refine gx_callv (as := [.int a1, .int (5 : Int32)]) (r := []) rfl dX12_turn_59 ca_12_103 rfl me_34 rfl rfl rfl rfl (ha0.1) rfl (fX12_linkOf_ok (d := d) (by omega) ha0 ep1) rfl rfl ?_
  refine fx_iload_n dX12_turn_62 rfl rfl ?_
  refine fx_icmp_ne (t := 74) dX12_turn_63 rfl rfl (fun hc2 => ?_) (fun hc2 => ?_)
  · rw [if_pos hc2] at h
    exact fX12_turn_74_ok hd ha0 h
  · rw [if_neg hc2] at h
    refine fx_aload_n dX12_turn_66 rfl rfl ?_
    refine fx_iload_n dX12_turn_67 rfl rfl ?_
    refine fx_bipush (x := 6) dX12_turn_68 rfl (by decide) ?_
    refine fx_iconst (x := 1) dX12_turn_70 rfl (by decide) ?_
    obtain ⟨p3, ep3, h⟩ := xBind_el h
    refine gx_callv (as := [.int a1, .int (6 : Int32), .int (1 : Int32)]) (r := []) rfl dX12_turn_71 ca_12_110 rfl me_26 rfl rfl rfl rfl (ha0.1) rfl (fX12_tells_ok (d := d) (by omega) ha0 ep3) rfl rfl ?_
    exact fX12_turn_74_ok hd ha0 h
def fX12_turn_0 (a0 : Nat) (a1 : Int32) (a2 : Int32) (m : xMem) : Option (Int32 × xMem) := (fX12_isStairs a0 a1 m).bind fun p1 => if p1.1 = (0 : Int32) then fX12_turn_17 a0 a1 a2 p1.2 else (fX12_in a2 (0 : Int32) (2 : Int32) p1.2).bind fun p3 => if ¬ p3.1 = (0 : Int32) then if ¬ a2 = (0 : Int32) then (fX12_tells a0 a1 (7 : Int32) a2 p3.2).bind fun p6 => (fX12_loadOf a0 a1 p6).bind fun p7 => if ¬ p7.1 = (0 : Int32) then fX12_turn_56 a0 a1 a2 p7.2 else (fX12_tells a0 a1 (5 : Int32) a2 p7.2).bind fun p9 => fX12_turn_56 a0 a1 a2 p9 else (fX12_tells a0 a1 (6 : Int32) (0 : Int32) p3.2).bind fun p10 => some ((1 : Int32), p10) else fX12_turn_17 a0 a1 a2 p3.2
set_option maxRecDepth 4000 in
theorem fX12_turn_0_ok {a0 : Nat} {a1 : Int32} {a2 : Int32} {d : Nat} (hd : 3 ≤ d) (ha0 : isModel a0) {m : xMem} {r : (Int32 × xMem)} (h : fX12_turn_0 a0 a1 a2 m = some r) : xFx hh_31 cX12_turn d 0 [some (.ref a0), some (.int a1), some (.int a2)] [] (xLay m) 0 0 (some (.int r.1)) (xLay r.2) := by
  unfold fX12_turn_0 at h
  refine fx_aload_n dX12_turn_0 rfl rfl ?_
  refine fx_iload_n dX12_turn_1 rfl rfl ?_
  obtain ⟨p1, ep1, h⟩ := xBind_el h
  refine gx_callv (as := [.int a1]) (r := []) rfl dX12_turn_2 ca_12_114 rfl me_32 rfl rfl rfl rfl (ha0.1) rfl (fX12_isStairs_ok (d := d) (by omega) ha0 ep1) rfl rfl ?_
  refine fx_if_eq (t := 17) dX12_turn_5 rfl rfl (fun hc2 => ?_) (fun hc2 => ?_)
  · rw [if_pos hc2] at h
    exact fX12_turn_17_ok hd ha0 h
  · rw [if_neg hc2] at h
    refine fx_iload_n dX12_turn_8 rfl rfl ?_
    refine fx_iconst (x := 0) dX12_turn_9 rfl (by decide) ?_
    refine fx_iconst (x := 2) dX12_turn_10 rfl (by decide) ?_
    obtain ⟨p3, ep3, h⟩ := xBind_el h
    refine gx_calls (as := [.int a2, .int (0 : Int32), .int (2 : Int32)]) (r := []) rfl dX12_turn_11 ca_12_95 rfl me_18 rfl rfl rfl rfl (fX12_in_ok (d := d) (by omega) ep3) rfl rfl ?_
    refine fx_if_ne (t := 19) dX12_turn_14 rfl rfl (fun hc4 => ?_) (fun hc4 => ?_)
    · rw [if_pos hc4] at h
      refine fx_iload_n dX12_turn_19 rfl rfl ?_
      refine fx_if_ne (t := 33) dX12_turn_20 rfl rfl (fun hc5 => ?_) (fun hc5 => ?_)
      · rw [if_pos hc5] at h
        refine fx_aload_n dX12_turn_33 rfl rfl ?_
        refine fx_iload_n dX12_turn_34 rfl rfl ?_
        refine fx_bipush (x := 7) dX12_turn_35 rfl (by decide) ?_
        refine fx_iload_n dX12_turn_37 rfl rfl ?_
        obtain ⟨p6, ep6, h⟩ := xBind_el h
        refine gx_callv (as := [.int a1, .int (7 : Int32), .int a2]) (r := []) rfl dX12_turn_38 ca_12_110 rfl me_26 rfl rfl rfl rfl (ha0.1) rfl (fX12_tells_ok (d := d) (by omega) ha0 ep6) rfl rfl ?_
        refine fx_aload_n dX12_turn_41 rfl rfl ?_
        refine fx_iload_n dX12_turn_42 rfl rfl ?_
        obtain ⟨p7, ep7, h⟩ := xBind_el h
        refine gx_callv (as := [.int a1]) (r := []) rfl dX12_turn_43 ca_12_117 rfl me_35 rfl rfl rfl rfl (ha0.1) rfl (fX12_loadOf_ok (d := d) (by omega) ha0 ep7) rfl rfl ?_
        refine fx_if_ne (t := 56) dX12_turn_46 rfl rfl (fun hc8 => ?_) (fun hc8 => ?_)
        · rw [if_pos hc8] at h
          exact fX12_turn_56_ok hd ha0 h
        · rw [if_neg hc8] at h
          refine fx_aload_n dX12_turn_49 rfl rfl ?_
          refine fx_iload_n dX12_turn_50 rfl rfl ?_
          refine fx_iconst (x := 5) dX12_turn_51 rfl (by decide) ?_
          refine fx_iload_n dX12_turn_52 rfl rfl ?_
          obtain ⟨p9, ep9, h⟩ := xBind_el h
          refine gx_callv (as := [.int a1, .int (5 : Int32), .int a2]) (r := []) rfl dX12_turn_53 ca_12_110 rfl me_26 rfl rfl rfl rfl (ha0.1) rfl (fX12_tells_ok (d := d) (by omega) ha0 ep9) rfl rfl ?_
          exact fX12_turn_56_ok hd ha0 h
      · rw [if_neg hc5] at h
        refine fx_aload_n dX12_turn_23 rfl rfl ?_
        refine fx_iload_n dX12_turn_24 rfl rfl ?_
        refine fx_bipush (x := 6) dX12_turn_25 rfl (by decide) ?_
        refine fx_iconst (x := 0) dX12_turn_27 rfl (by decide) ?_
        obtain ⟨p10, ep10, h⟩ := xBind_el h
        refine gx_callv (as := [.int a1, .int (6 : Int32), .int (0 : Int32)]) (r := []) rfl dX12_turn_28 ca_12_110 rfl me_26 rfl rfl rfl rfl (ha0.1) rfl (fX12_tells_ok (d := d) (by omega) ha0 ep10) rfl rfl ?_
        refine fx_iconst (x := 1) dX12_turn_31 rfl (by decide) ?_
        cases h
        exact fx_ireturn dX12_turn_32 rfl rfl
    · rw [if_neg hc4] at h
      exact fX12_turn_17_ok hd ha0 h
def fX12_turn (a0 : Nat) (a1 : Int32) (a2 : Int32) (m : xMem) : Option (Int32 × xMem) := fX12_turn_0 a0 a1 a2  m
theorem fX12_turn_ok {a0 : Nat} {a1 : Int32} {a2 : Int32} {m : xMem} {r : (Int32 × xMem)} {d : Nat} (hd : 4 ≤ d) (ha0 : isModel a0) (h : fX12_turn a0 a1 a2 m = some r) : xEx d 31 [.ref a0, .int a1, .int a2] (xLay m) (some (.int r.1)) (xLay r.2) := by
  obtain ⟨d, rfl⟩ : ∃ q, d = q + 1 := ⟨d - 1, by omega⟩
  exact xEx_of me_31 rfl (fX12_turn_0_ok (d := d) (by omega) ha0 h)
def fX9_hasStair_25 (a0 : Nat) (a1 : Int32) (s0 : Int32) (m : xMem) : Option (Int32 × xMem) := bif (decide (s0 = 0) || decide (s0 = 1)) then some (s0, m) else none
set_option maxRecDepth 4000 in
theorem fX9_hasStair_25_ok {a0 : Nat} {a1 : Int32} {d : Nat} (hd : 1 ≤ d) (ha0 : isStation a0) {s0 : Int32} {m : xMem} {r : (Int32 × xMem)} (h : fX9_hasStair_25 a0 a1 s0 m = some r) : xFx hh_37 cX9_hasStair d 25 [some (.ref a0), some (.int a1)] [.int s0] (xLay m) 0 0 (some (.int r.1)) (xLay r.2) := by
  unfold fX9_hasStair_25 at h
  obtain ⟨hb1, h⟩ := xChk_el h
  cases h
  exact fx_ireturn dX9_hasStair_25 rfl (by show ((decide _ || decide _) && _) = true; rw [hb1]; rfl)
def fX9_hasStair_24 (a0 : Nat) (a1 : Int32) (m : xMem) : Option (Int32 × xMem) := fX9_hasStair_25 a0 a1 (0 : Int32) m
set_option maxRecDepth 4000 in
theorem fX9_hasStair_24_ok {a0 : Nat} {a1 : Int32} {d : Nat} (hd : 1 ≤ d) (ha0 : isStation a0) {m : xMem} {r : (Int32 × xMem)} (h : fX9_hasStair_24 a0 a1 m = some r) : xFx hh_37 cX9_hasStair d 24 [some (.ref a0), some (.int a1)] [] (xLay m) 0 0 (some (.int r.1)) (xLay r.2) := by
  unfold fX9_hasStair_24 at h
  refine fx_iconst (x := 0) dX9_hasStair_24 rfl (by decide) ?_
  exact fX9_hasStair_25_ok hd ha0 h
def fX9_hasStair_0 (a0 : Nat) (a1 : Int32) (m : xMem) : Option (Int32 × xMem) := (fX9_hasLink a0 a1 m).bind fun p1 => if p1.1 = (0 : Int32) then fX9_hasStair_24 a0 a1 p1.2 else bif xIn a1 10 then xLet (a0 + 33 + 2 * a1.toNatClampNeg) fun r4 => xLet (p1.2.1 r4 1) fun x5 => if ¬ x5 = (0 : Int32) then fX9_hasStair_24 a0 a1 p1.2 else fX9_hasStair_25 a0 a1 (1 : Int32) p1.2 else none
set_option maxRecDepth 4000 in
theorem fX9_hasStair_0_ok {a0 : Nat} {a1 : Int32} {d : Nat} (hd : 1 ≤ d) (ha0 : isStation a0) {m : xMem} {r : (Int32 × xMem)} (h : fX9_hasStair_0 a0 a1 m = some r) : xFx hh_37 cX9_hasStair d 0 [some (.ref a0), some (.int a1)] [] (xLay m) 0 0 (some (.int r.1)) (xLay r.2) := by
  unfold fX9_hasStair_0 at h
  refine fx_aload_n dX9_hasStair_0 rfl rfl ?_
  refine fx_iload_n dX9_hasStair_1 rfl rfl ?_
  obtain ⟨p1, ep1, h⟩ := xBind_el h
  refine gx_callv (as := [.int a1]) (r := []) rfl dX9_hasStair_2 ca_9_63 rfl me_29 rfl rfl rfl rfl (ha0.1) rfl (fX9_hasLink_ok (d := d) (by omega) ha0 ep1) rfl rfl ?_
  refine fx_if_eq (t := 24) dX9_hasStair_5 rfl rfl (fun hc2 => ?_) (fun hc2 => ?_)
  · rw [if_pos hc2] at h
    exact fX9_hasStair_24_ok hd ha0 h
  · rw [if_neg hc2] at h
    refine fx_aload_n dX9_hasStair_8 rfl rfl ?_
    refine gx_getr dX9_hasStair_9 rfl fd_9_19 ha0.1 rfl rfl ?_
    refine fx_iload_n dX9_hasStair_12 rfl rfl ?_
    obtain ⟨hj3, h⟩ := xChk_el h
    obtain ⟨r4, hr4, h⟩ := xLet_el h
    refine gx_aaload (t := 5) dX9_hasStair_13 rfl ha0.2.2.1 rfl hj3 ((xRef_at (sl_9_1 a0) hj3).trans (congrArg some hr4)) ?_
    have hpr4 : isLink r4 := by rw [← hr4]; exact ha0.2.2.2.2.2.2.2.2.1 _ (xIn_lt hj3)
    obtain ⟨x5, hx5, h⟩ := xLet_el h
    refine gx_get dX9_hasStair_14 rfl fd_9_67 hpr4.1 rfl rfl hx5 ?_
    refine fx_if_ne (t := 24) dX9_hasStair_17 rfl rfl (fun hc6 => ?_) (fun hc6 => ?_)
    · rw [if_pos hc6] at h
      exact fX9_hasStair_24_ok hd ha0 h
    · rw [if_neg hc6] at h
      refine fx_iconst (x := 1) dX9_hasStair_20 rfl (by decide) ?_
      refine fx_goto (t := 25) dX9_hasStair_21 rfl rfl ?_
      exact fX9_hasStair_25_ok hd ha0 h
def fX9_hasStair (a0 : Nat) (a1 : Int32) (m : xMem) : Option (Int32 × xMem) := fX9_hasStair_0 a0 a1  m
theorem fX9_hasStair_ok {a0 : Nat} {a1 : Int32} {m : xMem} {r : (Int32 × xMem)} {d : Nat} (hd : 2 ≤ d) (ha0 : isStation a0) (h : fX9_hasStair a0 a1 m = some r) : xEx d 37 [.ref a0, .int a1] (xLay m) (some (.int r.1)) (xLay r.2) := by
  obtain ⟨d, rfl⟩ : ∃ q, d = q + 1 := ⟨d - 1, by omega⟩
  exact xEx_of me_37 rfl (fX9_hasStair_0_ok (d := d) (by omega) ha0 h)
def fX11_mode_20 (a0 : Nat) (a1 : Int32) (a2 : Int32) (m : xMem) : Option (Int32 × xMem) := some ((0 : Int32), m)
set_option maxRecDepth 4000 in
theorem fX11_mode_20_ok {a0 : Nat} {a1 : Int32} {a2 : Int32} {d : Nat} (hd : 2 ≤ d) (ha0 : isMS a0) {m : xMem} {r : (Int32 × xMem)} (h : fX11_mode_20 a0 a1 a2 m = some r) : xFx hh_36 cX11_mode d 20 [some (.ref a0), some (.int a1), some (.int a2)] [] (xLay m) 0 0 (some (.int r.1)) (xLay r.2) := by
  unfold fX11_mode_20 at h
  refine fx_iconst (x := 0) dX11_mode_20 rfl (by decide) ?_
  cases h
  exact fx_ireturn dX11_mode_21 rfl rfl
def fX11_mode_0 (a0 : Nat) (a1 : Int32) (a2 : Int32) (m : xMem) : Option (Int32 × xMem) := (fX9_hasStair (a0 + 1) a1 m).bind fun p1 => if p1.1 = (0 : Int32) then fX11_mode_20 a0 a1 a2 p1.2 else (fX11_within a2 (0 : Int32) (1 : Int32) p1.2).bind fun p3 => if ¬ p3.1 = (0 : Int32) then bif xIn a1 10 then xLet (a0 + 1 + 33 + 2 * a1.toNatClampNeg) fun r6 => xLet (xPut p3.2 r6 8 a2) fun m7 => some ((1 : Int32), m7) else none else fX11_mode_20 a0 a1 a2 p3.2
set_option maxRecDepth 4000 in
theorem fX11_mode_0_ok {a0 : Nat} {a1 : Int32} {a2 : Int32} {d : Nat} (hd : 2 ≤ d) (ha0 : isMS a0) {m : xMem} {r : (Int32 × xMem)} (h : fX11_mode_0 a0 a1 a2 m = some r) : xFx hh_36 cX11_mode d 0 [some (.ref a0), some (.int a1), some (.int a2)] [] (xLay m) 0 0 (some (.int r.1)) (xLay r.2) := by
  unfold fX11_mode_0 at h
  refine fx_aload_n dX11_mode_0 rfl rfl ?_
  refine gx_getr dX11_mode_1 rfl fd_11_10 ha0.1 rfl rfl ?_
  refine fx_iload_n dX11_mode_4 rfl rfl ?_
  obtain ⟨p1, ep1, h⟩ := xBind_el h
  refine gx_callv (as := [.int a1]) (r := []) rfl dX11_mode_5 ca_11_90 rfl me_37 rfl rfl rfl rfl (ha0.2.1.1) rfl (fX9_hasStair_ok (d := d) (by omega) ha0.2.1 ep1) rfl rfl ?_
  refine fx_if_eq (t := 20) dX11_mode_8 rfl rfl (fun hc2 => ?_) (fun hc2 => ?_)
  · rw [if_pos hc2] at h
    exact fX11_mode_20_ok hd ha0 h
  · rw [if_neg hc2] at h
    refine fx_iload_n dX11_mode_11 rfl rfl ?_
    refine fx_iconst (x := 0) dX11_mode_12 rfl (by decide) ?_
    refine fx_iconst (x := 1) dX11_mode_13 rfl (by decide) ?_
    obtain ⟨p3, ep3, h⟩ := xBind_el h
    refine gx_calls (as := [.int a2, .int (0 : Int32), .int (1 : Int32)]) (r := []) rfl dX11_mode_14 ca_11_47 rfl me_14 rfl rfl rfl rfl (fX11_within_ok (d := d) (by omega) ep3) rfl rfl ?_
    refine fx_if_ne (t := 22) dX11_mode_17 rfl rfl (fun hc4 => ?_) (fun hc4 => ?_)
    · rw [if_pos hc4] at h
      refine fx_aload_n dX11_mode_22 rfl rfl ?_
      refine gx_getr dX11_mode_23 rfl fd_11_10 ha0.1 rfl rfl ?_
      refine gx_getr dX11_mode_26 rfl fd_11_75 ha0.2.1.1 rfl rfl ?_
      refine fx_iload_n dX11_mode_29 rfl rfl ?_
      obtain ⟨hj5, h⟩ := xChk_el h
      obtain ⟨r6, hr6, h⟩ := xLet_el h
      refine gx_aaload (t := 5) dX11_mode_30 rfl ha0.2.1.2.2.1 rfl hj5 ((xRef_at (sl_9_1 (a0 + 1)) hj5).trans (congrArg some hr6)) ?_
      have hpr6 : isLink r6 := by rw [← hr6]; exact ha0.2.1.2.2.2.2.2.2.2.2.1 _ (xIn_lt hj5)
      refine fx_iload_n dX11_mode_31 rfl rfl ?_
      obtain ⟨m7, hm7, h⟩ := xLet_el h
      refine gx_put dX11_mode_32 rfl fd_11_93 hpr6.1 rfl rfl rfl hm7 ?_
      refine fx_iconst (x := 1) dX11_mode_35 rfl (by decide) ?_
      cases h
      exact fx_ireturn dX11_mode_36 rfl rfl
    · rw [if_neg hc4] at h
      exact fX11_mode_20_ok hd ha0 h
def fX11_mode (a0 : Nat) (a1 : Int32) (a2 : Int32) (m : xMem) : Option (Int32 × xMem) := fX11_mode_0 a0 a1 a2  m
theorem fX11_mode_ok {a0 : Nat} {a1 : Int32} {a2 : Int32} {m : xMem} {r : (Int32 × xMem)} {d : Nat} (hd : 3 ≤ d) (ha0 : isMS a0) (h : fX11_mode a0 a1 a2 m = some r) : xEx d 36 [.ref a0, .int a1, .int a2] (xLay m) (some (.int r.1)) (xLay r.2) := by
  obtain ⟨d, rfl⟩ : ∃ q, d = q + 1 := ⟨d - 1, by omega⟩
  exact xEx_of me_36 rfl (fX11_mode_0_ok (d := d) (by omega) ha0 h)
def fX12_mode_26 (a0 : Nat) (a1 : Int32) (a2 : Int32) (m : xMem) : Option (Int32 × xMem) := some ((0 : Int32), m)
set_option maxRecDepth 4000 in
theorem fX12_mode_26_ok {a0 : Nat} {a1 : Int32} {a2 : Int32} {d : Nat} (hd : 2 ≤ d) (ha0 : isModel a0) {m : xMem} {r : (Int32 × xMem)} (h : fX12_mode_26 a0 a1 a2 m = some r) : xFx hh_38 cX12_mode d 26 [some (.ref a0), some (.int a1), some (.int a2)] [] (xLay m) 0 0 (some (.int r.1)) (xLay r.2) := by
  unfold fX12_mode_26 at h
  refine fx_iconst (x := 0) dX12_mode_26 rfl (by decide) ?_
  cases h
  exact fx_ireturn dX12_mode_27 rfl rfl
def fX12_mode_0 (a0 : Nat) (a1 : Int32) (a2 : Int32) (m : xMem) : Option (Int32 × xMem) := (fX12_isLink a0 a1 m).bind fun p1 => if p1.1 = (0 : Int32) then fX12_mode_26 a0 a1 a2 p1.2 else (fX12_linkOf a0 a1 (0 : Int32) p1.2).bind fun p3 => if ¬ p3.1 = (0 : Int32) then fX12_mode_26 a0 a1 a2 p3.2 else (fX12_in a2 (0 : Int32) (1 : Int32) p3.2).bind fun p5 => if ¬ p5.1 = (0 : Int32) then (fX12_tells a0 a1 (8 : Int32) a2 p5.2).bind fun p7 => some ((1 : Int32), p7) else fX12_mode_26 a0 a1 a2 p5.2
set_option maxRecDepth 4000 in
theorem fX12_mode_0_ok {a0 : Nat} {a1 : Int32} {a2 : Int32} {d : Nat} (hd : 2 ≤ d) (ha0 : isModel a0) {m : xMem} {r : (Int32 × xMem)} (h : fX12_mode_0 a0 a1 a2 m = some r) : xFx hh_38 cX12_mode d 0 [some (.ref a0), some (.int a1), some (.int a2)] [] (xLay m) 0 0 (some (.int r.1)) (xLay r.2) := by
  unfold fX12_mode_0 at h
  refine fx_aload_n dX12_mode_0 rfl rfl ?_
  refine fx_iload_n dX12_mode_1 rfl rfl ?_
  obtain ⟨p1, ep1, h⟩ := xBind_el h
  refine gx_callv (as := [.int a1]) (r := []) rfl dX12_mode_2 ca_12_99 rfl me_33 rfl rfl rfl rfl (ha0.1) rfl (fX12_isLink_ok (d := d) (by omega) ha0 ep1) rfl rfl ?_
  refine fx_if_eq (t := 26) dX12_mode_5 rfl rfl (fun hc2 => ?_) (fun hc2 => ?_)
  · rw [if_pos hc2] at h
    exact fX12_mode_26_ok hd ha0 h
  · rw [if_neg hc2] at h
    refine fx_aload_n dX12_mode_8 rfl rfl ?_
    refine fx_iload_n dX12_mode_9 rfl rfl ?_
    refine fx_iconst (x := 0) dX12_mode_10 rfl (by decide) ?_
    obtain ⟨p3, ep3, h⟩ := xBind_el h
    refine gx_callv (as := [.int a1, .int (0 : Int32)]) (r := []) rfl dX12_mode_11 ca_12_103 rfl me_34 rfl rfl rfl rfl (ha0.1) rfl (fX12_linkOf_ok (d := d) (by omega) ha0 ep3) rfl rfl ?_
    refine fx_if_ne (t := 26) dX12_mode_14 rfl rfl (fun hc4 => ?_) (fun hc4 => ?_)
    · rw [if_pos hc4] at h
      exact fX12_mode_26_ok hd ha0 h
    · rw [if_neg hc4] at h
      refine fx_iload_n dX12_mode_17 rfl rfl ?_
      refine fx_iconst (x := 0) dX12_mode_18 rfl (by decide) ?_
      refine fx_iconst (x := 1) dX12_mode_19 rfl (by decide) ?_
      obtain ⟨p5, ep5, h⟩ := xBind_el h
      refine gx_calls (as := [.int a2, .int (0 : Int32), .int (1 : Int32)]) (r := []) rfl dX12_mode_20 ca_12_95 rfl me_18 rfl rfl rfl rfl (fX12_in_ok (d := d) (by omega) ep5) rfl rfl ?_
      refine fx_if_ne (t := 28) dX12_mode_23 rfl rfl (fun hc6 => ?_) (fun hc6 => ?_)
      · rw [if_pos hc6] at h
        refine fx_aload_n dX12_mode_28 rfl rfl ?_
        refine fx_iload_n dX12_mode_29 rfl rfl ?_
        refine fx_bipush (x := 8) dX12_mode_30 rfl (by decide) ?_
        refine fx_iload_n dX12_mode_32 rfl rfl ?_
        obtain ⟨p7, ep7, h⟩ := xBind_el h
        refine gx_callv (as := [.int a1, .int (8 : Int32), .int a2]) (r := []) rfl dX12_mode_33 ca_12_110 rfl me_26 rfl rfl rfl rfl (ha0.1) rfl (fX12_tells_ok (d := d) (by omega) ha0 ep7) rfl rfl ?_
        refine fx_iconst (x := 1) dX12_mode_36 rfl (by decide) ?_
        cases h
        exact fx_ireturn dX12_mode_37 rfl rfl
      · rw [if_neg hc6] at h
        exact fX12_mode_26_ok hd ha0 h
def fX12_mode (a0 : Nat) (a1 : Int32) (a2 : Int32) (m : xMem) : Option (Int32 × xMem) := fX12_mode_0 a0 a1 a2  m
theorem fX12_mode_ok {a0 : Nat} {a1 : Int32} {a2 : Int32} {m : xMem} {r : (Int32 × xMem)} {d : Nat} (hd : 3 ≤ d) (ha0 : isModel a0) (h : fX12_mode a0 a1 a2 m = some r) : xEx d 38 [.ref a0, .int a1, .int a2] (xLay m) (some (.int r.1)) (xLay r.2) := by
  obtain ⟨d, rfl⟩ : ∃ q, d = q + 1 := ⟨d - 1, by omega⟩
  exact xEx_of me_38 rfl (fX12_mode_0_ok (d := d) (by omega) ha0 h)
def fX11_reset_26 (a0 : Nat) (a1 : Int32) (m : xMem) : Option (Int32 × xMem) := some ((0 : Int32), m)
set_option maxRecDepth 4000 in
theorem fX11_reset_26_ok {a0 : Nat} {a1 : Int32} {d : Nat} (hd : 1 ≤ d) (ha0 : isMS a0) {m : xMem} {r : (Int32 × xMem)} (h : fX11_reset_26 a0 a1 m = some r) : xFx hh_39 cX11_reset d 26 [some (.ref a0), some (.int a1)] [] (xLay m) 0 0 (some (.int r.1)) (xLay r.2) := by
  unfold fX11_reset_26 at h
  refine fx_iconst (x := 0) dX11_reset_26 rfl (by decide) ?_
  cases h
  exact fx_ireturn dX11_reset_27 rfl rfl
def fX11_reset_0 (a0 : Nat) (a1 : Int32) (m : xMem) : Option (Int32 × xMem) := (fX9_hasLink (a0 + 1) a1 m).bind fun p1 => if p1.1 = (0 : Int32) then fX11_reset_26 a0 a1 p1.2 else bif xIn a1 10 then xLet (a0 + 1 + 33 + 2 * a1.toNatClampNeg) fun r4 => xLet (p1.2.1 r4 13) fun x5 => if ¬ x5 = (0 : Int32) then bif xIn a1 10 then xLet (a0 + 1 + 33 + 2 * a1.toNatClampNeg) fun r8 => xLet (xPut p1.2 r8 13 (0 : Int32)) fun m9 => some ((1 : Int32), m9) else none else fX11_reset_26 a0 a1 p1.2 else none
set_option maxRecDepth 4000 in
theorem fX11_reset_0_ok {a0 : Nat} {a1 : Int32} {d : Nat} (hd : 1 ≤ d) (ha0 : isMS a0) {m : xMem} {r : (Int32 × xMem)} (h : fX11_reset_0 a0 a1 m = some r) : xFx hh_39 cX11_reset d 0 [some (.ref a0), some (.int a1)] [] (xLay m) 0 0 (some (.int r.1)) (xLay r.2) := by
  unfold fX11_reset_0 at h
  refine fx_aload_n dX11_reset_0 rfl rfl ?_
  refine gx_getr dX11_reset_1 rfl fd_11_10 ha0.1 rfl rfl ?_
  refine fx_iload_n dX11_reset_4 rfl rfl ?_
  obtain ⟨p1, ep1, h⟩ := xBind_el h
  refine gx_callv (as := [.int a1]) (r := []) rfl dX11_reset_5 ca_11_96 rfl me_29 rfl rfl rfl rfl (ha0.2.1.1) rfl (fX9_hasLink_ok (d := d) (by omega) ha0.2.1 ep1) rfl rfl ?_
  refine fx_if_eq (t := 26) dX11_reset_8 rfl rfl (fun hc2 => ?_) (fun hc2 => ?_)
  · rw [if_pos hc2] at h
    exact fX11_reset_26_ok hd ha0 h
  · rw [if_neg hc2] at h
    refine fx_aload_n dX11_reset_11 rfl rfl ?_
    refine gx_getr dX11_reset_12 rfl fd_11_10 ha0.1 rfl rfl ?_
    refine gx_getr dX11_reset_15 rfl fd_11_75 ha0.2.1.1 rfl rfl ?_
    refine fx_iload_n dX11_reset_18 rfl rfl ?_
    obtain ⟨hj3, h⟩ := xChk_el h
    obtain ⟨r4, hr4, h⟩ := xLet_el h
    refine gx_aaload (t := 5) dX11_reset_19 rfl ha0.2.1.2.2.1 rfl hj3 ((xRef_at (sl_9_1 (a0 + 1)) hj3).trans (congrArg some hr4)) ?_
    have hpr4 : isLink r4 := by rw [← hr4]; exact ha0.2.1.2.2.2.2.2.2.2.2.1 _ (xIn_lt hj3)
    obtain ⟨x5, hx5, h⟩ := xLet_el h
    refine gx_get dX11_reset_20 rfl fd_11_99 hpr4.1 rfl rfl hx5 ?_
    refine fx_if_ne (t := 28) dX11_reset_23 rfl rfl (fun hc6 => ?_) (fun hc6 => ?_)
    · rw [if_pos hc6] at h
      refine fx_aload_n dX11_reset_28 rfl rfl ?_
      refine gx_getr dX11_reset_29 rfl fd_11_10 ha0.1 rfl rfl ?_
      refine gx_getr dX11_reset_32 rfl fd_11_75 ha0.2.1.1 rfl rfl ?_
      refine fx_iload_n dX11_reset_35 rfl rfl ?_
      obtain ⟨hj7, h⟩ := xChk_el h
      obtain ⟨r8, hr8, h⟩ := xLet_el h
      refine gx_aaload (t := 5) dX11_reset_36 rfl ha0.2.1.2.2.1 rfl hj7 ((xRef_at (sl_9_1 (a0 + 1)) hj7).trans (congrArg some hr8)) ?_
      have hpr8 : isLink r8 := by rw [← hr8]; exact ha0.2.1.2.2.2.2.2.2.2.2.1 _ (xIn_lt hj7)
      refine fx_iconst (x := 0) dX11_reset_37 rfl (by decide) ?_
      obtain ⟨m9, hm9, h⟩ := xLet_el h
      refine gx_put dX11_reset_38 rfl fd_11_99 hpr8.1 rfl rfl rfl hm9 ?_
      refine fx_iconst (x := 1) dX11_reset_41 rfl (by decide) ?_
      cases h
      exact fx_ireturn dX11_reset_42 rfl rfl
    · rw [if_neg hc6] at h
      exact fX11_reset_26_ok hd ha0 h
def fX11_reset (a0 : Nat) (a1 : Int32) (m : xMem) : Option (Int32 × xMem) := fX11_reset_0 a0 a1  m
theorem fX11_reset_ok {a0 : Nat} {a1 : Int32} {m : xMem} {r : (Int32 × xMem)} {d : Nat} (hd : 2 ≤ d) (ha0 : isMS a0) (h : fX11_reset a0 a1 m = some r) : xEx d 39 [.ref a0, .int a1] (xLay m) (some (.int r.1)) (xLay r.2) := by
  obtain ⟨d, rfl⟩ : ∃ q, d = q + 1 := ⟨d - 1, by omega⟩
  exact xEx_of me_39 rfl (fX11_reset_0_ok (d := d) (by omega) ha0 h)
def fX12_reset_18 (a0 : Nat) (a1 : Int32) (m : xMem) : Option (Int32 × xMem) := some ((0 : Int32), m)
set_option maxRecDepth 4000 in
theorem fX12_reset_18_ok {a0 : Nat} {a1 : Int32} {d : Nat} (hd : 2 ≤ d) (ha0 : isModel a0) {m : xMem} {r : (Int32 × xMem)} (h : fX12_reset_18 a0 a1 m = some r) : xFx hh_40 cX12_reset d 18 [some (.ref a0), some (.int a1)] [] (xLay m) 0 0 (some (.int r.1)) (xLay r.2) := by
  unfold fX12_reset_18 at h
  refine fx_iconst (x := 0) dX12_reset_18 rfl (by decide) ?_
  cases h
  exact fx_ireturn dX12_reset_19 rfl rfl
def fX12_reset_0 (a0 : Nat) (a1 : Int32) (m : xMem) : Option (Int32 × xMem) := (fX12_isLink a0 a1 m).bind fun p1 => if p1.1 = (0 : Int32) then fX12_reset_18 a0 a1 p1.2 else (fX12_linkOf a0 a1 (9 : Int32) p1.2).bind fun p3 => if ¬ p3.1 = (0 : Int32) then (fX12_tells a0 a1 (9 : Int32) (0 : Int32) p3.2).bind fun p5 => some ((1 : Int32), p5) else fX12_reset_18 a0 a1 p3.2
set_option maxRecDepth 4000 in
theorem fX12_reset_0_ok {a0 : Nat} {a1 : Int32} {d : Nat} (hd : 2 ≤ d) (ha0 : isModel a0) {m : xMem} {r : (Int32 × xMem)} (h : fX12_reset_0 a0 a1 m = some r) : xFx hh_40 cX12_reset d 0 [some (.ref a0), some (.int a1)] [] (xLay m) 0 0 (some (.int r.1)) (xLay r.2) := by
  unfold fX12_reset_0 at h
  refine fx_aload_n dX12_reset_0 rfl rfl ?_
  refine fx_iload_n dX12_reset_1 rfl rfl ?_
  obtain ⟨p1, ep1, h⟩ := xBind_el h
  refine gx_callv (as := [.int a1]) (r := []) rfl dX12_reset_2 ca_12_99 rfl me_33 rfl rfl rfl rfl (ha0.1) rfl (fX12_isLink_ok (d := d) (by omega) ha0 ep1) rfl rfl ?_
  refine fx_if_eq (t := 18) dX12_reset_5 rfl rfl (fun hc2 => ?_) (fun hc2 => ?_)
  · rw [if_pos hc2] at h
    exact fX12_reset_18_ok hd ha0 h
  · rw [if_neg hc2] at h
    refine fx_aload_n dX12_reset_8 rfl rfl ?_
    refine fx_iload_n dX12_reset_9 rfl rfl ?_
    refine fx_bipush (x := 9) dX12_reset_10 rfl (by decide) ?_
    obtain ⟨p3, ep3, h⟩ := xBind_el h
    refine gx_callv (as := [.int a1, .int (9 : Int32)]) (r := []) rfl dX12_reset_12 ca_12_103 rfl me_34 rfl rfl rfl rfl (ha0.1) rfl (fX12_linkOf_ok (d := d) (by omega) ha0 ep3) rfl rfl ?_
    refine fx_if_ne (t := 20) dX12_reset_15 rfl rfl (fun hc4 => ?_) (fun hc4 => ?_)
    · rw [if_pos hc4] at h
      refine fx_aload_n dX12_reset_20 rfl rfl ?_
      refine fx_iload_n dX12_reset_21 rfl rfl ?_
      refine fx_bipush (x := 9) dX12_reset_22 rfl (by decide) ?_
      refine fx_iconst (x := 0) dX12_reset_24 rfl (by decide) ?_
      obtain ⟨p5, ep5, h⟩ := xBind_el h
      refine gx_callv (as := [.int a1, .int (9 : Int32), .int (0 : Int32)]) (r := []) rfl dX12_reset_25 ca_12_110 rfl me_26 rfl rfl rfl rfl (ha0.1) rfl (fX12_tells_ok (d := d) (by omega) ha0 ep5) rfl rfl ?_
      refine fx_iconst (x := 1) dX12_reset_28 rfl (by decide) ?_
      cases h
      exact fx_ireturn dX12_reset_29 rfl rfl
    · rw [if_neg hc4] at h
      exact fX12_reset_18_ok hd ha0 h
def fX12_reset (a0 : Nat) (a1 : Int32) (m : xMem) : Option (Int32 × xMem) := fX12_reset_0 a0 a1  m
theorem fX12_reset_ok {a0 : Nat} {a1 : Int32} {m : xMem} {r : (Int32 × xMem)} {d : Nat} (hd : 3 ≤ d) (ha0 : isModel a0) (h : fX12_reset a0 a1 m = some r) : xEx d 40 [.ref a0, .int a1] (xLay m) (some (.int r.1)) (xLay r.2) := by
  obtain ⟨d, rfl⟩ : ∃ q, d = q + 1 := ⟨d - 1, by omega⟩
  exact xEx_of me_40 rfl (fX12_reset_0_ok (d := d) (by omega) ha0 h)
def fX11_burst_102 (a0 : Nat) (a1 : Int32) (a2 : Int32) (a3 : Int32) (a4 : Int32) (a5 : Int32) (a6 : Int32) (a7 : Int32) (m : xMem) : Option (Int32 × xMem) := some ((-1 : Int32), m)
set_option maxRecDepth 4000 in
theorem fX11_burst_102_ok {a0 : Nat} {a1 : Int32} {a2 : Int32} {a3 : Int32} {a4 : Int32} {a5 : Int32} {a6 : Int32} {a7 : Int32} {d : Nat} (hd : 1 ≤ d) (ha0 : isMS a0) {o8 : Option Value} {o9 : Option Value} {o10 : Option Value} {m : xMem} {r : (Int32 × xMem)} (q8 : xNoD o8 = true) (q9 : xNoD o9 = true) (q10 : xNoD o10 = true) (h : fX11_burst_102 a0 a1 a2 a3 a4 a5 a6 a7 m = some r) : xFx hh_41 cX11_burst d 102 [some (.ref a0), some (.int a1), some (.int a2), some (.int a3), some (.int a4), some (.int a5), some (.int a6), some (.int a7), o8, o9, o10] [] (xLay m) 0 0 (some (.int r.1)) (xLay r.2) := by
  unfold fX11_burst_102 at h
  refine fx_iconst (x := -1) dX11_burst_102 rfl (by decide) ?_
  cases h
  exact fx_ireturn dX11_burst_103 rfl rfl
def fX11_burst_165 (a0 : Nat) (a1 : Int32) (a2 : Int32) (a3 : Int32) (a4 : Int32) (a5 : Int32) (a6 : Int32) (a7 : Int32) (l10 : Nat) (s0 : Nat) (s1 : Int32) (m : xMem) : Option (Int32 × xMem) := xLet (xPut m s0 5 s1) fun m1 => bif (decide (a7 = 0) || decide (a7 = 1)) then xLet (xPut m1 l10 6 a7) fun m2 => xLet (m2.1 (a0 + 1) 9) fun x4 => xLet (x4 + (1 : Int32)) fun x5 => xLet (xPut m2 (a0 + 1) 9 x5) fun m6 => xLet (m6.1 (a0 + 1) 9) fun x7 => some (x7, m6) else none
set_option maxRecDepth 4000 in
theorem fX11_burst_165_ok {a0 : Nat} {a1 : Int32} {a2 : Int32} {a3 : Int32} {a4 : Int32} {a5 : Int32} {a6 : Int32} {a7 : Int32} {d : Nat} (hd : 1 ≤ d) (ha0 : isMS a0) {l10 : Nat} {s0 : Nat} {s1 : Int32} {o8 : Option Value} {o9 : Option Value} {m : xMem} {r : (Int32 × xMem)} (hl10 : isBurst l10) (hs0 : isBurst s0) (q8 : xNoD o8 = true) (q9 : xNoD o9 = true) (h : fX11_burst_165 a0 a1 a2 a3 a4 a5 a6 a7 l10 s0 s1 m = some r) : xFx hh_41 cX11_burst d 165 [some (.ref a0), some (.int a1), some (.int a2), some (.int a3), some (.int a4), some (.int a5), some (.int a6), some (.int a7), o8, o9, some (.ref l10)] [.int s1, .ref s0] (xLay m) 0 0 (some (.int r.1)) (xLay r.2) := by
  unfold fX11_burst_165 at h
  obtain ⟨m1, hm1, h⟩ := xLet_el h
  refine gx_put dX11_burst_165 rfl fd_11_128 hs0 rfl rfl rfl hm1 ?_
  refine fx_aload dX11_burst_168 rfl rfl ?_
  refine fx_iload dX11_burst_170 rfl rfl ?_
  obtain ⟨hb3, h⟩ := xChk_el h
  obtain ⟨m2, hm2, h⟩ := xLet_el h
  refine gx_put dX11_burst_172 rfl fd_11_131 hl10 rfl rfl (by show ((decide _ || decide _) && _) = true; rw [hb3]; rfl) hm2 ?_
  refine fx_aload_n dX11_burst_175 rfl rfl ?_
  refine gx_getr dX11_burst_176 rfl fd_11_10 ha0.1 rfl rfl ?_
  refine fx_dup dX11_burst_179 rfl rfl ?_
  obtain ⟨x4, hx4, h⟩ := xLet_el h
  refine gx_get dX11_burst_180 rfl fd_11_104 ha0.2.1.1 rfl rfl hx4 ?_
  refine fx_iconst (x := 1) dX11_burst_183 rfl (by decide) ?_
  obtain ⟨x5, hx5, h⟩ := xLet_el h
  refine fx_iadd dX11_burst_184 rfl hx5 ?_
  obtain ⟨m6, hm6, h⟩ := xLet_el h
  refine gx_put dX11_burst_185 rfl fd_11_104 ha0.2.1.1 rfl rfl rfl hm6 ?_
  refine fx_aload_n dX11_burst_188 rfl rfl ?_
  refine gx_getr dX11_burst_189 rfl fd_11_10 ha0.1 rfl rfl ?_
  obtain ⟨x7, hx7, h⟩ := xLet_el h
  refine gx_get dX11_burst_192 rfl fd_11_104 ha0.2.1.1 rfl rfl hx7 ?_
  cases h
  exact fx_ireturn dX11_burst_195 rfl rfl
def fX11_burst_62 (a0 : Nat) (a1 : Int32) (a2 : Int32) (a3 : Int32) (a4 : Int32) (a5 : Int32) (a6 : Int32) (a7 : Int32) (l8 : Int32) (s0 : Int32) (m : xMem) : Option (Int32 × xMem) := if l8 = (0 : Int32) then fX11_burst_102 a0 a1 a2 a3 a4 a5 a6 a7 m else if s0 = (0 : Int32) then fX11_burst_102 a0 a1 a2 a3 a4 a5 a6 a7 m else (fX11_within a5 (1 : Int32) (200 : Int32) m).bind fun p3 => if p3.1 = (0 : Int32) then fX11_burst_102 a0 a1 a2 a3 a4 a5 a6 a7 p3.2 else xLet (p3.2.1 (a0 + 1) 9) fun x5 => (fX11_within x5 (0 : Int32) (29 : Int32) p3.2).bind fun p6 => if ¬ p6.1 = (0 : Int32) then xLet (p6.2.1 (a0 + 1) 9) fun x8 => bif xIn x8 30 then xLet (a0 + 1 + 53 + 1 * x8.toNatClampNeg) fun r10 => xLet (xPut p6.2 r10 0 a1) fun m11 => xLet (xPut m11 r10 1 a2) fun m12 => xLet (xPut m12 r10 2 a3) fun m13 => xLet (xPut m13 r10 3 a4) fun m14 => xLet (xPut m14 r10 4 a5) fun m15 => if a6 = (0 : Int32) then fX11_burst_165 a0 a1 a2 a3 a4 a5 a6 a7 r10 r10 (0 : Int32) m15 else fX11_burst_165 a0 a1 a2 a3 a4 a5 a6 a7 r10 r10 (1 : Int32) m15 else none else fX11_burst_102 a0 a1 a2 a3 a4 a5 a6 a7 p6.2
set_option maxRecDepth 4000 in
theorem fX11_burst_62_ok {a0 : Nat} {a1 : Int32} {a2 : Int32} {a3 : Int32} {a4 : Int32} {a5 : Int32} {a6 : Int32} {a7 : Int32} {d : Nat} (hd : 1 ≤ d) (ha0 : isMS a0) {l8 : Int32} {s0 : Int32} {o9 : Option Value} {o10 : Option Value} {m : xMem} {r : (Int32 × xMem)} (q9 : xNoD o9 = true) (q10 : xNoD o10 = true) (h : fX11_burst_62 a0 a1 a2 a3 a4 a5 a6 a7 l8 s0 m = some r) : xFx hh_41 cX11_burst d 62 [some (.ref a0), some (.int a1), some (.int a2), some (.int a3), some (.int a4), some (.int a5), some (.int a6), some (.int a7), some (.int l8), o9, o10] [.int s0] (xLay m) 0 0 (some (.int r.1)) (xLay r.2) := by
  unfold fX11_burst_62 at h
  refine fx_istore (ls2 := [some (.ref a0), some (.int a1), some (.int a2), some (.int a3), some (.int a4), some (.int a5), some (.int a6), some (.int a7), some (.int l8), some (.int s0), o10]) dX11_burst_62 rfl rfl rfl ?_
  refine fx_iload dX11_burst_64 rfl rfl ?_
  refine fx_if_eq (t := 102) dX11_burst_66 rfl rfl (fun hc1 => ?_) (fun hc1 => ?_)
  · rw [if_pos hc1] at h
    exact fX11_burst_102_ok (o8 := some (.int l8)) (o9 := some (.int s0)) (o10 := o10) hd ha0 rfl rfl q10 h
  · rw [if_neg hc1] at h
    refine fx_iload dX11_burst_69 rfl rfl ?_
    refine fx_if_eq (t := 102) dX11_burst_71 rfl rfl (fun hc2 => ?_) (fun hc2 => ?_)
    · rw [if_pos hc2] at h
      exact fX11_burst_102_ok (o8 := some (.int l8)) (o9 := some (.int s0)) (o10 := o10) hd ha0 rfl rfl q10 h
    · rw [if_neg hc2] at h
      refine fx_iload dX11_burst_74 rfl rfl ?_
      refine fx_iconst (x := 1) dX11_burst_76 rfl (by decide) ?_
      refine fx_sipush (x := 200) dX11_burst_77 rfl (by decide) ?_
      obtain ⟨p3, ep3, h⟩ := xBind_el h
      refine gx_calls (as := [.int a5, .int (1 : Int32), .int (200 : Int32)]) (r := []) rfl dX11_burst_80 ca_11_47 rfl me_14 rfl rfl rfl rfl (fX11_within_ok (d := d) (by omega) ep3) rfl rfl ?_
      refine fx_if_eq (t := 102) dX11_burst_83 rfl rfl (fun hc4 => ?_) (fun hc4 => ?_)
      · rw [if_pos hc4] at h
        exact fX11_burst_102_ok (o8 := some (.int l8)) (o9 := some (.int s0)) (o10 := o10) hd ha0 rfl rfl q10 h
      · rw [if_neg hc4] at h
        refine fx_aload_n dX11_burst_86 rfl rfl ?_
        refine gx_getr dX11_burst_87 rfl fd_11_10 ha0.1 rfl rfl ?_
        obtain ⟨x5, hx5, h⟩ := xLet_el h
        refine gx_get dX11_burst_90 rfl fd_11_104 ha0.2.1.1 rfl rfl hx5 ?_
        refine fx_iconst (x := 0) dX11_burst_93 rfl (by decide) ?_
        refine fx_bipush (x := 29) dX11_burst_94 rfl (by decide) ?_
        obtain ⟨p6, ep6, h⟩ := xBind_el h
        refine gx_calls (as := [.int x5, .int (0 : Int32), .int (29 : Int32)]) (r := []) rfl dX11_burst_96 ca_11_47 rfl me_14 rfl rfl rfl rfl (fX11_within_ok (d := d) (by omega) ep6) rfl rfl ?_
        refine fx_if_ne (t := 104) dX11_burst_99 rfl rfl (fun hc7 => ?_) (fun hc7 => ?_)
        · rw [if_pos hc7] at h
          refine fx_aload_n dX11_burst_104 rfl rfl ?_
          refine gx_getr dX11_burst_105 rfl fd_11_10 ha0.1 rfl rfl ?_
          refine gx_getr dX11_burst_108 rfl fd_11_107 ha0.2.1.1 rfl rfl ?_
          refine fx_aload_n dX11_burst_111 rfl rfl ?_
          refine gx_getr dX11_burst_112 rfl fd_11_10 ha0.1 rfl rfl ?_
          obtain ⟨x8, hx8, h⟩ := xLet_el h
          refine gx_get dX11_burst_115 rfl fd_11_104 ha0.2.1.1 rfl rfl hx8 ?_
          obtain ⟨hj9, h⟩ := xChk_el h
          obtain ⟨r10, hr10, h⟩ := xLet_el h
          refine gx_aaload (t := 6) dX11_burst_118 rfl ha0.2.1.2.2.2.1 rfl hj9 ((xRef_at (sl_9_2 (a0 + 1)) hj9).trans (congrArg some hr10)) ?_
          have hpr10 : isBurst r10 := by rw [← hr10]; exact ha0.2.1.2.2.2.2.2.2.2.2.2 _ (xIn_lt hj9)
          refine fx_astore (ls2 := [some (.ref a0), some (.int a1), some (.int a2), some (.int a3), some (.int a4), some (.int a5), some (.int a6), some (.int a7), some (.int l8), some (.int s0), some (.ref r10)]) dX11_burst_119 rfl rfl rfl ?_
          refine fx_aload dX11_burst_121 rfl rfl ?_
          refine fx_iload_n dX11_burst_123 rfl rfl ?_
          obtain ⟨m11, hm11, h⟩ := xLet_el h
          refine gx_put dX11_burst_124 rfl fd_11_111 hpr10 rfl rfl rfl hm11 ?_
          refine fx_aload dX11_burst_127 rfl rfl ?_
          refine fx_iload_n dX11_burst_129 rfl rfl ?_
          obtain ⟨m12, hm12, h⟩ := xLet_el h
          refine gx_put dX11_burst_130 rfl fd_11_116 hpr10 rfl rfl rfl hm12 ?_
          refine fx_aload dX11_burst_133 rfl rfl ?_
          refine fx_iload_n dX11_burst_135 rfl rfl ?_
          obtain ⟨m13, hm13, h⟩ := xLet_el h
          refine gx_put dX11_burst_136 rfl fd_11_119 hpr10 rfl rfl rfl hm13 ?_
          refine fx_aload dX11_burst_139 rfl rfl ?_
          refine fx_iload dX11_burst_141 rfl rfl ?_
          obtain ⟨m14, hm14, h⟩ := xLet_el h
          refine gx_put dX11_burst_143 rfl fd_11_122 hpr10 rfl rfl rfl hm14 ?_
          refine fx_aload dX11_burst_146 rfl rfl ?_
          refine fx_iload dX11_burst_148 rfl rfl ?_
          obtain ⟨m15, hm15, h⟩ := xLet_el h
          refine gx_put dX11_burst_150 rfl fd_11_125 hpr10 rfl rfl rfl hm15 ?_
          refine fx_aload dX11_burst_153 rfl rfl ?_
          refine fx_iload dX11_burst_155 rfl rfl ?_
          refine fx_if_eq (t := 164) dX11_burst_157 rfl rfl (fun hc16 => ?_) (fun hc16 => ?_)
          · rw [if_pos hc16] at h
            refine fx_iconst (x := 0) dX11_burst_164 rfl (by decide) ?_
            exact fX11_burst_165_ok (o8 := some (.int l8)) (o9 := some (.int s0)) hd ha0 hpr10 hpr10 rfl rfl h
          · rw [if_neg hc16] at h
            refine fx_iconst (x := 1) dX11_burst_160 rfl (by decide) ?_
            refine fx_goto (t := 165) dX11_burst_161 rfl rfl ?_
            exact fX11_burst_165_ok (o8 := some (.int l8)) (o9 := some (.int s0)) hd ha0 hpr10 hpr10 rfl rfl h
        · rw [if_neg hc7] at h
          exact fX11_burst_102_ok (o8 := some (.int l8)) (o9 := some (.int s0)) (o10 := o10) hd ha0 rfl rfl q10 h
def fX11_burst_61 (a0 : Nat) (a1 : Int32) (a2 : Int32) (a3 : Int32) (a4 : Int32) (a5 : Int32) (a6 : Int32) (a7 : Int32) (l8 : Int32) (m : xMem) : Option (Int32 × xMem) := fX11_burst_62 a0 a1 a2 a3 a4 a5 a6 a7 l8 (0 : Int32) m
set_option maxRecDepth 4000 in
theorem fX11_burst_61_ok {a0 : Nat} {a1 : Int32} {a2 : Int32} {a3 : Int32} {a4 : Int32} {a5 : Int32} {a6 : Int32} {a7 : Int32} {d : Nat} (hd : 1 ≤ d) (ha0 : isMS a0) {l8 : Int32} {o9 : Option Value} {o10 : Option Value} {m : xMem} {r : (Int32 × xMem)} (q9 : xNoD o9 = true) (q10 : xNoD o10 = true) (h : fX11_burst_61 a0 a1 a2 a3 a4 a5 a6 a7 l8 m = some r) : xFx hh_41 cX11_burst d 61 [some (.ref a0), some (.int a1), some (.int a2), some (.int a3), some (.int a4), some (.int a5), some (.int a6), some (.int a7), some (.int l8), o9, o10] [] (xLay m) 0 0 (some (.int r.1)) (xLay r.2) := by
  unfold fX11_burst_61 at h
  refine fx_iconst (x := 0) dX11_burst_61 rfl (by decide) ?_
  exact fX11_burst_62_ok (o9 := o9) (o10 := o10) hd ha0 q9 q10 h
def fX11_burst_26 (a0 : Nat) (a1 : Int32) (a2 : Int32) (a3 : Int32) (a4 : Int32) (a5 : Int32) (a6 : Int32) (a7 : Int32) (s0 : Int32) (m : xMem) : Option (Int32 × xMem) := (fX9_hasHall (a0 + 1) a3 m).bind fun p1 => if p1.1 = (0 : Int32) then fX11_burst_61 a0 a1 a2 a3 a4 a5 a6 a7 s0 p1.2 else (fX9_hasHall (a0 + 1) a4 p1.2).bind fun p3 => if p3.1 = (0 : Int32) then fX11_burst_61 a0 a1 a2 a3 a4 a5 a6 a7 s0 p3.2 else if a3 = a4 then fX11_burst_61 a0 a1 a2 a3 a4 a5 a6 a7 s0 p3.2 else fX11_burst_62 a0 a1 a2 a3 a4 a5 a6 a7 s0 (1 : Int32) p3.2
set_option maxRecDepth 4000 in
theorem fX11_burst_26_ok {a0 : Nat} {a1 : Int32} {a2 : Int32} {a3 : Int32} {a4 : Int32} {a5 : Int32} {a6 : Int32} {a7 : Int32} {d : Nat} (hd : 1 ≤ d) (ha0 : isMS a0) {s0 : Int32} {o8 : Option Value} {o9 : Option Value} {o10 : Option Value} {m : xMem} {r : (Int32 × xMem)} (q8 : xNoD o8 = true) (q9 : xNoD o9 = true) (q10 : xNoD o10 = true) (h : fX11_burst_26 a0 a1 a2 a3 a4 a5 a6 a7 s0 m = some r) : xFx hh_41 cX11_burst d 26 [some (.ref a0), some (.int a1), some (.int a2), some (.int a3), some (.int a4), some (.int a5), some (.int a6), some (.int a7), o8, o9, o10] [.int s0] (xLay m) 0 0 (some (.int r.1)) (xLay r.2) := by
  unfold fX11_burst_26 at h
  refine fx_istore (ls2 := [some (.ref a0), some (.int a1), some (.int a2), some (.int a3), some (.int a4), some (.int a5), some (.int a6), some (.int a7), some (.int s0), o9, o10]) dX11_burst_26 rfl rfl rfl ?_
  refine fx_aload_n dX11_burst_28 rfl rfl ?_
  refine gx_getr dX11_burst_29 rfl fd_11_10 ha0.1 rfl rfl ?_
  refine fx_iload_n dX11_burst_32 rfl rfl ?_
  obtain ⟨p1, ep1, h⟩ := xBind_el h
  refine gx_callv (as := [.int a3]) (r := []) rfl dX11_burst_33 ca_11_65 rfl me_20 rfl rfl rfl rfl (ha0.2.1.1) rfl (fX9_hasHall_ok (d := d) (by omega) ha0.2.1 ep1) rfl rfl ?_
  refine fx_if_eq (t := 61) dX11_burst_36 rfl rfl (fun hc2 => ?_) (fun hc2 => ?_)
  · rw [if_pos hc2] at h
    exact fX11_burst_61_ok (o9 := o9) (o10 := o10) hd ha0 q9 q10 h
  · rw [if_neg hc2] at h
    refine fx_aload_n dX11_burst_39 rfl rfl ?_
    refine gx_getr dX11_burst_40 rfl fd_11_10 ha0.1 rfl rfl ?_
    refine fx_iload dX11_burst_43 rfl rfl ?_
    obtain ⟨p3, ep3, h⟩ := xBind_el h
    refine gx_callv (as := [.int a4]) (r := []) rfl dX11_burst_45 ca_11_65 rfl me_20 rfl rfl rfl rfl (ha0.2.1.1) rfl (fX9_hasHall_ok (d := d) (by omega) ha0.2.1 ep3) rfl rfl ?_
    refine fx_if_eq (t := 61) dX11_burst_48 rfl rfl (fun hc4 => ?_) (fun hc4 => ?_)
    · rw [if_pos hc4] at h
      exact fX11_burst_61_ok (o9 := o9) (o10 := o10) hd ha0 q9 q10 h
    · rw [if_neg hc4] at h
      refine fx_iload_n dX11_burst_51 rfl rfl ?_
      refine fx_iload dX11_burst_52 rfl rfl ?_
      refine fx_icmp_eq (t := 61) dX11_burst_54 rfl rfl (fun hc5 => ?_) (fun hc5 => ?_)
      · rw [if_pos hc5] at h
        exact fX11_burst_61_ok (o9 := o9) (o10 := o10) hd ha0 q9 q10 h
      · rw [if_neg hc5] at h
        refine fx_iconst (x := 1) dX11_burst_57 rfl (by decide) ?_
        refine fx_goto (t := 62) dX11_burst_58 rfl rfl ?_
        exact fX11_burst_62_ok (o9 := o9) (o10 := o10) hd ha0 q9 q10 h
def fX11_burst_25 (a0 : Nat) (a1 : Int32) (a2 : Int32) (a3 : Int32) (a4 : Int32) (a5 : Int32) (a6 : Int32) (a7 : Int32) (m : xMem) : Option (Int32 × xMem) := fX11_burst_26 a0 a1 a2 a3 a4 a5 a6 a7 (0 : Int32) m
set_option maxRecDepth 4000 in
theorem fX11_burst_25_ok {a0 : Nat} {a1 : Int32} {a2 : Int32} {a3 : Int32} {a4 : Int32} {a5 : Int32} {a6 : Int32} {a7 : Int32} {d : Nat} (hd : 1 ≤ d) (ha0 : isMS a0) {o8 : Option Value} {o9 : Option Value} {o10 : Option Value} {m : xMem} {r : (Int32 × xMem)} (q8 : xNoD o8 = true) (q9 : xNoD o9 = true) (q10 : xNoD o10 = true) (h : fX11_burst_25 a0 a1 a2 a3 a4 a5 a6 a7 m = some r) : xFx hh_41 cX11_burst d 25 [some (.ref a0), some (.int a1), some (.int a2), some (.int a3), some (.int a4), some (.int a5), some (.int a6), some (.int a7), o8, o9, o10] [] (xLay m) 0 0 (some (.int r.1)) (xLay r.2) := by
  unfold fX11_burst_25 at h
  refine fx_iconst (x := 0) dX11_burst_25 rfl (by decide) ?_
  exact fX11_burst_26_ok (o8 := o8) (o9 := o9) (o10 := o10) hd ha0 q8 q9 q10 h
def fX11_burst_0 (a0 : Nat) (a1 : Int32) (a2 : Int32) (a3 : Int32) (a4 : Int32) (a5 : Int32) (a6 : Int32) (a7 : Int32) (m : xMem) : Option (Int32 × xMem) := (fX11_within a1 (0 : Int32) (99999 : Int32) m).bind fun p1 => if p1.1 = (0 : Int32) then fX11_burst_25 a0 a1 a2 a3 a4 a5 a6 a7 p1.2 else (fX11_within a2 (0 : Int32) (999 : Int32) p1.2).bind fun p3 => if p3.1 = (0 : Int32) then fX11_burst_25 a0 a1 a2 a3 a4 a5 a6 a7 p3.2 else fX11_burst_26 a0 a1 a2 a3 a4 a5 a6 a7 (1 : Int32) p3.2
set_option maxRecDepth 4000 in
theorem fX11_burst_0_ok {a0 : Nat} {a1 : Int32} {a2 : Int32} {a3 : Int32} {a4 : Int32} {a5 : Int32} {a6 : Int32} {a7 : Int32} {d : Nat} (hd : 1 ≤ d) (ha0 : isMS a0) {o8 : Option Value} {o9 : Option Value} {o10 : Option Value} {m : xMem} {r : (Int32 × xMem)} (q8 : xNoD o8 = true) (q9 : xNoD o9 = true) (q10 : xNoD o10 = true) (h : fX11_burst_0 a0 a1 a2 a3 a4 a5 a6 a7 m = some r) : xFx hh_41 cX11_burst d 0 [some (.ref a0), some (.int a1), some (.int a2), some (.int a3), some (.int a4), some (.int a5), some (.int a6), some (.int a7), o8, o9, o10] [] (xLay m) 0 0 (some (.int r.1)) (xLay r.2) := by
  unfold fX11_burst_0 at h
  refine fx_iload_n dX11_burst_0 rfl rfl ?_
  refine fx_iconst (x := 0) dX11_burst_1 rfl (by decide) ?_
  refine fx_ldc dX11_burst_2 rfl ck_11_103 ?_
  obtain ⟨p1, ep1, h⟩ := xBind_el h
  refine gx_calls (as := [.int a1, .int (0 : Int32), .int (99999 : Int32)]) (r := []) rfl dX11_burst_4 ca_11_47 rfl me_14 rfl rfl rfl rfl (fX11_within_ok (d := d) (by omega) ep1) rfl rfl ?_
  refine fx_if_eq (t := 25) dX11_burst_7 rfl rfl (fun hc2 => ?_) (fun hc2 => ?_)
  · rw [if_pos hc2] at h
    exact fX11_burst_25_ok (o8 := o8) (o9 := o9) (o10 := o10) hd ha0 q8 q9 q10 h
  · rw [if_neg hc2] at h
    refine fx_iload_n dX11_burst_10 rfl rfl ?_
    refine fx_iconst (x := 0) dX11_burst_11 rfl (by decide) ?_
    refine fx_sipush (x := 999) dX11_burst_12 rfl (by decide) ?_
    obtain ⟨p3, ep3, h⟩ := xBind_el h
    refine gx_calls (as := [.int a2, .int (0 : Int32), .int (999 : Int32)]) (r := []) rfl dX11_burst_15 ca_11_47 rfl me_14 rfl rfl rfl rfl (fX11_within_ok (d := d) (by omega) ep3) rfl rfl ?_
    refine fx_if_eq (t := 25) dX11_burst_18 rfl rfl (fun hc4 => ?_) (fun hc4 => ?_)
    · rw [if_pos hc4] at h
      exact fX11_burst_25_ok (o8 := o8) (o9 := o9) (o10 := o10) hd ha0 q8 q9 q10 h
    · rw [if_neg hc4] at h
      refine fx_iconst (x := 1) dX11_burst_21 rfl (by decide) ?_
      refine fx_goto (t := 26) dX11_burst_22 rfl rfl ?_
      exact fX11_burst_26_ok (o8 := o8) (o9 := o9) (o10 := o10) hd ha0 q8 q9 q10 h
def fX11_burst (a0 : Nat) (a1 : Int32) (a2 : Int32) (a3 : Int32) (a4 : Int32) (a5 : Int32) (a6 : Int32) (a7 : Int32) (m : xMem) : Option (Int32 × xMem) := fX11_burst_0 a0 a1 a2 a3 a4 a5 a6 a7  m
theorem fX11_burst_ok {a0 : Nat} {a1 : Int32} {a2 : Int32} {a3 : Int32} {a4 : Int32} {a5 : Int32} {a6 : Int32} {a7 : Int32} {m : xMem} {r : (Int32 × xMem)} {d : Nat} (hd : 2 ≤ d) (ha0 : isMS a0) (h : fX11_burst a0 a1 a2 a3 a4 a5 a6 a7 m = some r) : xEx d 41 [.ref a0, .int a1, .int a2, .int a3, .int a4, .int a5, .int a6, .int a7] (xLay m) (some (.int r.1)) (xLay r.2) := by
  obtain ⟨d, rfl⟩ : ∃ q, d = q + 1 := ⟨d - 1, by omega⟩
  exact xEx_of me_41 rfl (fX11_burst_0_ok (d := d) (o8 := none) (o9 := none) (o10 := none) (by omega) ha0 rfl rfl rfl h)
def fX12_burst_79 (a0 : Nat) (a1 : Int32) (a2 : Int32) (a3 : Int32) (a4 : Int32) (a5 : Int32) (a6 : Int32) (a7 : Int32) (m : xMem) : Option (Int32 × xMem) := some ((-1 : Int32), m)
set_option maxRecDepth 4000 in
theorem fX12_burst_79_ok {a0 : Nat} {a1 : Int32} {a2 : Int32} {a3 : Int32} {a4 : Int32} {a5 : Int32} {a6 : Int32} {a7 : Int32} {d : Nat} (hd : 2 ≤ d) (ha0 : isModel a0) {o8 : Option Value} {o9 : Option Value} {m : xMem} {r : (Int32 × xMem)} (q8 : xNoD o8 = true) (q9 : xNoD o9 = true) (h : fX12_burst_79 a0 a1 a2 a3 a4 a5 a6 a7 m = some r) : xFx hh_42 cX12_burst d 79 [some (.ref a0), some (.int a1), some (.int a2), some (.int a3), some (.int a4), some (.int a5), some (.int a6), some (.int a7), o8, o9] [] (xLay m) 0 0 (some (.int r.1)) (xLay r.2) := by
  unfold fX12_burst_79 at h
  refine fx_iconst (x := -1) dX12_burst_79 rfl (by decide) ?_
  cases h
  exact fx_ireturn dX12_burst_80 rfl rfl
def fX12_burst_184 (a0 : Nat) (a1 : Int32) (a2 : Int32) (a3 : Int32) (a4 : Int32) (a5 : Int32) (a6 : Int32) (a7 : Int32) (s0 : Nat) (s1 : Int32) (s2 : Int32) (m : xMem) : Option (Int32 × xMem) := bif xIn s1 1610 then xLet (xPut m s0 s1.toNatClampNeg s2) fun m1 => bif xIn (3 : Int32) 1610 then xLet (m1.1 (a0 + 1) (3 : Int32).toNatClampNeg) fun x3 => xLet (x3 + (1 : Int32)) fun x5 => bif xIn (3 : Int32) 1610 then xLet (xPut m1 (a0 + 1) (3 : Int32).toNatClampNeg x5) fun m6 => bif xIn (3 : Int32) 1610 then xLet (m6.1 (a0 + 1) (3 : Int32).toNatClampNeg) fun x8 => some (x8, m6) else none else none else none else none
set_option maxRecDepth 4000 in
theorem fX12_burst_184_ok {a0 : Nat} {a1 : Int32} {a2 : Int32} {a3 : Int32} {a4 : Int32} {a5 : Int32} {a6 : Int32} {a7 : Int32} {d : Nat} (hd : 2 ≤ d) (ha0 : isModel a0) {s0 : Nat} {s1 : Int32} {s2 : Int32} {o8 : Option Value} {o9 : Option Value} {m : xMem} {r : (Int32 × xMem)} (hs0 : xTmL[s0]? = some (101, 1610, [])) (q8 : xNoD o8 = true) (q9 : xNoD o9 = true) (h : fX12_burst_184 a0 a1 a2 a3 a4 a5 a6 a7 s0 s1 s2 m = some r) : xFx hh_42 cX12_burst d 184 [some (.ref a0), some (.int a1), some (.int a2), some (.int a3), some (.int a4), some (.int a5), some (.int a6), some (.int a7), o8, o9] [.int s2, .int s1, .ref s0] (xLay m) 0 0 (some (.int r.1)) (xLay r.2) := by
  unfold fX12_burst_184 at h
  obtain ⟨hj2, h⟩ := xChk_el h
  obtain ⟨m1, hm1, h⟩ := xLet_el h
  refine gx_iastore dX12_burst_184 rfl hs0 hj2 hm1 ?_
  refine fx_aload_n dX12_burst_185 rfl rfl ?_
  refine gx_getr dX12_burst_186 rfl fd_12_7 ha0.1 rfl rfl ?_
  refine fx_iconst (x := 3) dX12_burst_189 rfl (by decide) ?_
  refine fx_dup2 dX12_burst_190 rfl rfl ?_
  obtain ⟨hj4, h⟩ := xChk_el h
  obtain ⟨x3, hx3, h⟩ := xLet_el h
  refine gx_iaload dX12_burst_191 rfl ha0.2.1 hj4 hx3 ?_
  refine fx_iconst (x := 1) dX12_burst_192 rfl (by decide) ?_
  obtain ⟨x5, hx5, h⟩ := xLet_el h
  refine fx_iadd dX12_burst_193 rfl hx5 ?_
  obtain ⟨hj7, h⟩ := xChk_el h
  obtain ⟨m6, hm6, h⟩ := xLet_el h
  refine gx_iastore dX12_burst_194 rfl ha0.2.1 hj7 hm6 ?_
  refine fx_aload_n dX12_burst_195 rfl rfl ?_
  refine gx_getr dX12_burst_196 rfl fd_12_7 ha0.1 rfl rfl ?_
  refine fx_iconst (x := 3) dX12_burst_199 rfl (by decide) ?_
  obtain ⟨hj9, h⟩ := xChk_el h
  obtain ⟨x8, hx8, h⟩ := xLet_el h
  refine gx_iaload dX12_burst_200 rfl ha0.2.1 hj9 hx8 ?_
  cases h
  exact fx_ireturn dX12_burst_201 rfl rfl
def fX12_burst_164 (a0 : Nat) (a1 : Int32) (a2 : Int32) (a3 : Int32) (a4 : Int32) (a5 : Int32) (a6 : Int32) (a7 : Int32) (l9 : Int32) (s0 : Nat) (s1 : Int32) (s2 : Int32) (m : xMem) : Option (Int32 × xMem) := bif xIn s1 1610 then xLet (xPut m s0 s1.toNatClampNeg s2) fun m1 => xLet (l9 + (6 : Int32)) fun x3 => if a7 = (0 : Int32) then fX12_burst_184 a0 a1 a2 a3 a4 a5 a6 a7 (a0 + 1) x3 (0 : Int32) m1 else fX12_burst_184 a0 a1 a2 a3 a4 a5 a6 a7 (a0 + 1) x3 (1 : Int32) m1 else none
set_option maxRecDepth 4000 in
theorem fX12_burst_164_ok {a0 : Nat} {a1 : Int32} {a2 : Int32} {a3 : Int32} {a4 : Int32} {a5 : Int32} {a6 : Int32} {a7 : Int32} {d : Nat} (hd : 2 ≤ d) (ha0 : isModel a0) {l9 : Int32} {s0 : Nat} {s1 : Int32} {s2 : Int32} {o8 : Option Value} {m : xMem} {r : (Int32 × xMem)} (hs0 : xTmL[s0]? = some (101, 1610, [])) (q8 : xNoD o8 = true) (h : fX12_burst_164 a0 a1 a2 a3 a4 a5 a6 a7 l9 s0 s1 s2 m = some r) : xFx hh_42 cX12_burst d 164 [some (.ref a0), some (.int a1), some (.int a2), some (.int a3), some (.int a4), some (.int a5), some (.int a6), some (.int a7), o8, some (.int l9)] [.int s2, .int s1, .ref s0] (xLay m) 0 0 (some (.int r.1)) (xLay r.2) := by
  unfold fX12_burst_164 at h
  obtain ⟨hj2, h⟩ := xChk_el h
  obtain ⟨m1, hm1, h⟩ := xLet_el h
  refine gx_iastore dX12_burst_164 rfl hs0 hj2 hm1 ?_
  refine fx_aload_n dX12_burst_165 rfl rfl ?_
  refine gx_getr dX12_burst_166 rfl fd_12_7 ha0.1 rfl rfl ?_
  refine fx_iload dX12_burst_169 rfl rfl ?_
  refine fx_bipush (x := 6) dX12_burst_171 rfl (by decide) ?_
  obtain ⟨x3, hx3, h⟩ := xLet_el h
  refine fx_iadd dX12_burst_173 rfl hx3 ?_
  refine fx_iload dX12_burst_174 rfl rfl ?_
  refine fx_if_eq (t := 183) dX12_burst_176 rfl rfl (fun hc4 => ?_) (fun hc4 => ?_)
  · rw [if_pos hc4] at h
    refine fx_iconst (x := 0) dX12_burst_183 rfl (by decide) ?_
    exact fX12_burst_184_ok (o8 := o8) (o9 := some (.int l9)) hd ha0 ha0.2.1 q8 rfl h
  · rw [if_neg hc4] at h
    refine fx_iconst (x := 1) dX12_burst_179 rfl (by decide) ?_
    refine fx_goto (t := 184) dX12_burst_180 rfl rfl ?_
    exact fX12_burst_184_ok (o8 := o8) (o9 := some (.int l9)) hd ha0 ha0.2.1 q8 rfl h
def fX12_burst_61 (a0 : Nat) (a1 : Int32) (a2 : Int32) (a3 : Int32) (a4 : Int32) (a5 : Int32) (a6 : Int32) (a7 : Int32) (s0 : Int32) (m : xMem) : Option (Int32 × xMem) := if s0 = (0 : Int32) then fX12_burst_79 a0 a1 a2 a3 a4 a5 a6 a7 m else bif xIn (3 : Int32) 1610 then xLet (m.1 (a0 + 1) (3 : Int32).toNatClampNeg) fun x2 => if ¬ x2 = (30 : Int32) then bif xIn (3 : Int32) 1610 then xLet (m.1 (a0 + 1) (3 : Int32).toNatClampNeg) fun x5 => xLet ((7 : Int32) * x5) fun x7 => xLet ((360 : Int32) + x7) fun x8 => bif xIn x8 1610 then xLet (xPut m (a0 + 1) x8.toNatClampNeg a1) fun m9 => xLet (x8 + (1 : Int32)) fun x11 => bif xIn x11 1610 then xLet (xPut m9 (a0 + 1) x11.toNatClampNeg a2) fun m12 => xLet (x8 + (2 : Int32)) fun x14 => bif xIn x14 1610 then xLet (xPut m12 (a0 + 1) x14.toNatClampNeg a3) fun m15 => xLet (x8 + (3 : Int32)) fun x17 => bif xIn x17 1610 then xLet (xPut m15 (a0 + 1) x17.toNatClampNeg a4) fun m18 => xLet (x8 + (4 : Int32)) fun x20 => bif xIn x20 1610 then xLet (xPut m18 (a0 + 1) x20.toNatClampNeg a5) fun m21 => xLet (x8 + (5 : Int32)) fun x23 => if a6 = (0 : Int32) then fX12_burst_164 a0 a1 a2 a3 a4 a5 a6 a7 x8 (a0 + 1) x23 (0 : Int32) m21 else fX12_burst_164 a0 a1 a2 a3 a4 a5 a6 a7 x8 (a0 + 1) x23 (1 : Int32) m21 else none else none else none else none else none else none else fX12_burst_79 a0 a1 a2 a3 a4 a5 a6 a7 m else none
set_option maxRecDepth 4000 in
theorem fX12_burst_61_ok {a0 : Nat} {a1 : Int32} {a2 : Int32} {a3 : Int32} {a4 : Int32} {a5 : Int32} {a6 : Int32} {a7 : Int32} {d : Nat} (hd : 2 ≤ d) (ha0 : isModel a0) {s0 : Int32} {o8 : Option Value} {o9 : Option Value} {m : xMem} {r : (Int32 × xMem)} (q8 : xNoD o8 = true) (q9 : xNoD o9 = true) (h : fX12_burst_61 a0 a1 a2 a3 a4 a5 a6 a7 s0 m = some r) : xFx hh_42 cX12_burst d 61 [some (.ref a0), some (.int a1), some (.int a2), some (.int a3), some (.int a4), some (.int a5), some (.int a6), some (.int a7), o8, o9] [.int s0] (xLay m) 0 0 (some (.int r.1)) (xLay r.2) := by
  unfold fX12_burst_61 at h
  refine fx_istore (ls2 := [some (.ref a0), some (.int a1), some (.int a2), some (.int a3), some (.int a4), some (.int a5), some (.int a6), some (.int a7), some (.int s0), o9]) dX12_burst_61 rfl rfl rfl ?_
  refine fx_iload dX12_burst_63 rfl rfl ?_
  refine fx_if_eq (t := 79) dX12_burst_65 rfl rfl (fun hc1 => ?_) (fun hc1 => ?_)
  · rw [if_pos hc1] at h
    exact fX12_burst_79_ok (o8 := some (.int s0)) (o9 := o9) hd ha0 rfl q9 h
  · rw [if_neg hc1] at h
    refine fx_aload_n dX12_burst_68 rfl rfl ?_
    refine gx_getr dX12_burst_69 rfl fd_12_7 ha0.1 rfl rfl ?_
    refine fx_iconst (x := 3) dX12_burst_72 rfl (by decide) ?_
    obtain ⟨hj3, h⟩ := xChk_el h
    obtain ⟨x2, hx2, h⟩ := xLet_el h
    refine gx_iaload dX12_burst_73 rfl ha0.2.1 hj3 hx2 ?_
    refine fx_bipush (x := 30) dX12_burst_74 rfl (by decide) ?_
    refine fx_icmp_ne (t := 81) dX12_burst_76 rfl rfl (fun hc4 => ?_) (fun hc4 => ?_)
    · rw [if_pos hc4] at h
      refine fx_sipush (x := 360) dX12_burst_81 rfl (by decide) ?_
      refine fx_bipush (x := 7) dX12_burst_84 rfl (by decide) ?_
      refine fx_aload_n dX12_burst_86 rfl rfl ?_
      refine gx_getr dX12_burst_87 rfl fd_12_7 ha0.1 rfl rfl ?_
      refine fx_iconst (x := 3) dX12_burst_90 rfl (by decide) ?_
      obtain ⟨hj6, h⟩ := xChk_el h
      obtain ⟨x5, hx5, h⟩ := xLet_el h
      refine gx_iaload dX12_burst_91 rfl ha0.2.1 hj6 hx5 ?_
      obtain ⟨x7, hx7, h⟩ := xLet_el h
      refine fx_imul dX12_burst_92 rfl hx7 ?_
      obtain ⟨x8, hx8, h⟩ := xLet_el h
      refine fx_iadd dX12_burst_93 rfl hx8 ?_
      refine fx_istore (ls2 := [some (.ref a0), some (.int a1), some (.int a2), some (.int a3), some (.int a4), some (.int a5), some (.int a6), some (.int a7), some (.int s0), some (.int x8)]) dX12_burst_94 rfl rfl rfl ?_
      refine fx_aload_n dX12_burst_96 rfl rfl ?_
      refine gx_getr dX12_burst_97 rfl fd_12_7 ha0.1 rfl rfl ?_
      refine fx_iload dX12_burst_100 rfl rfl ?_
      refine fx_iload_n dX12_burst_102 rfl rfl ?_
      obtain ⟨hj10, h⟩ := xChk_el h
      obtain ⟨m9, hm9, h⟩ := xLet_el h
      refine gx_iastore dX12_burst_103 rfl ha0.2.1 hj10 hm9 ?_
      refine fx_aload_n dX12_burst_104 rfl rfl ?_
      refine gx_getr dX12_burst_105 rfl fd_12_7 ha0.1 rfl rfl ?_
      refine fx_iload dX12_burst_108 rfl rfl ?_
      refine fx_iconst (x := 1) dX12_burst_110 rfl (by decide) ?_
      obtain ⟨x11, hx11, h⟩ := xLet_el h
      refine fx_iadd dX12_burst_111 rfl hx11 ?_
      refine fx_iload_n dX12_burst_112 rfl rfl ?_
      obtain ⟨hj13, h⟩ := xChk_el h
      obtain ⟨m12, hm12, h⟩ := xLet_el h
      refine gx_iastore dX12_burst_113 rfl ha0.2.1 hj13 hm12 ?_
      refine fx_aload_n dX12_burst_114 rfl rfl ?_
      refine gx_getr dX12_burst_115 rfl fd_12_7 ha0.1 rfl rfl ?_
      refine fx_iload dX12_burst_118 rfl rfl ?_
      refine fx_iconst (x := 2) dX12_burst_120 rfl (by decide) ?_
      obtain ⟨x14, hx14, h⟩ := xLet_el h
      refine fx_iadd dX12_burst_121 rfl hx14 ?_
      refine fx_iload_n dX12_burst_122 rfl rfl ?_
      obtain ⟨hj16, h⟩ := xChk_el h
      obtain ⟨m15, hm15, h⟩ := xLet_el h
      refine gx_iastore dX12_burst_123 rfl ha0.2.1 hj16 hm15 ?_
      refine fx_aload_n dX12_burst_124 rfl rfl ?_
      refine gx_getr dX12_burst_125 rfl fd_12_7 ha0.1 rfl rfl ?_
      refine fx_iload dX12_burst_128 rfl rfl ?_
      refine fx_iconst (x := 3) dX12_burst_130 rfl (by decide) ?_
      obtain ⟨x17, hx17, h⟩ := xLet_el h
      refine fx_iadd dX12_burst_131 rfl hx17 ?_
      refine fx_iload dX12_burst_132 rfl rfl ?_
      obtain ⟨hj19, h⟩ := xChk_el h
      obtain ⟨m18, hm18, h⟩ := xLet_el h
      refine gx_iastore dX12_burst_134 rfl ha0.2.1 hj19 hm18 ?_
      refine fx_aload_n dX12_burst_135 rfl rfl ?_
      refine gx_getr dX12_burst_136 rfl fd_12_7 ha0.1 rfl rfl ?_
      refine fx_iload dX12_burst_139 rfl rfl ?_
      refine fx_iconst (x := 4) dX12_burst_141 rfl (by decide) ?_
      obtain ⟨x20, hx20, h⟩ := xLet_el h
      refine fx_iadd dX12_burst_142 rfl hx20 ?_
      refine fx_iload dX12_burst_143 rfl rfl ?_
      obtain ⟨hj22, h⟩ := xChk_el h
      obtain ⟨m21, hm21, h⟩ := xLet_el h
      refine gx_iastore dX12_burst_145 rfl ha0.2.1 hj22 hm21 ?_
      refine fx_aload_n dX12_burst_146 rfl rfl ?_
      refine gx_getr dX12_burst_147 rfl fd_12_7 ha0.1 rfl rfl ?_
      refine fx_iload dX12_burst_150 rfl rfl ?_
      refine fx_iconst (x := 5) dX12_burst_152 rfl (by decide) ?_
      obtain ⟨x23, hx23, h⟩ := xLet_el h
      refine fx_iadd dX12_burst_153 rfl hx23 ?_
      refine fx_iload dX12_burst_154 rfl rfl ?_
      refine fx_if_eq (t := 163) dX12_burst_156 rfl rfl (fun hc24 => ?_) (fun hc24 => ?_)
      · rw [if_pos hc24] at h
        refine fx_iconst (x := 0) dX12_burst_163 rfl (by decide) ?_
        exact fX12_burst_164_ok (o8 := some (.int s0)) hd ha0 ha0.2.1 rfl h
      · rw [if_neg hc24] at h
        refine fx_iconst (x := 1) dX12_burst_159 rfl (by decide) ?_
        refine fx_goto (t := 164) dX12_burst_160 rfl rfl ?_
        exact fX12_burst_164_ok (o8 := some (.int s0)) hd ha0 ha0.2.1 rfl h
    · rw [if_neg hc4] at h
      exact fX12_burst_79_ok (o8 := some (.int s0)) (o9 := o9) hd ha0 rfl q9 h
def fX12_burst_60 (a0 : Nat) (a1 : Int32) (a2 : Int32) (a3 : Int32) (a4 : Int32) (a5 : Int32) (a6 : Int32) (a7 : Int32) (m : xMem) : Option (Int32 × xMem) := fX12_burst_61 a0 a1 a2 a3 a4 a5 a6 a7 (0 : Int32) m
set_option maxRecDepth 4000 in
theorem fX12_burst_60_ok {a0 : Nat} {a1 : Int32} {a2 : Int32} {a3 : Int32} {a4 : Int32} {a5 : Int32} {a6 : Int32} {a7 : Int32} {d : Nat} (hd : 2 ≤ d) (ha0 : isModel a0) {o8 : Option Value} {o9 : Option Value} {m : xMem} {r : (Int32 × xMem)} (q8 : xNoD o8 = true) (q9 : xNoD o9 = true) (h : fX12_burst_60 a0 a1 a2 a3 a4 a5 a6 a7 m = some r) : xFx hh_42 cX12_burst d 60 [some (.ref a0), some (.int a1), some (.int a2), some (.int a3), some (.int a4), some (.int a5), some (.int a6), some (.int a7), o8, o9] [] (xLay m) 0 0 (some (.int r.1)) (xLay r.2) := by
  unfold fX12_burst_60 at h
  refine fx_iconst (x := 0) dX12_burst_60 rfl (by decide) ?_
  exact fX12_burst_61_ok (o8 := o8) (o9 := o9) hd ha0 q8 q9 h
def fX12_burst_0 (a0 : Nat) (a1 : Int32) (a2 : Int32) (a3 : Int32) (a4 : Int32) (a5 : Int32) (a6 : Int32) (a7 : Int32) (m : xMem) : Option (Int32 × xMem) := (fX12_in a1 (0 : Int32) (99999 : Int32) m).bind fun p1 => if p1.1 = (0 : Int32) then fX12_burst_60 a0 a1 a2 a3 a4 a5 a6 a7 p1.2 else (fX12_in a2 (0 : Int32) (999 : Int32) p1.2).bind fun p3 => if p3.1 = (0 : Int32) then fX12_burst_60 a0 a1 a2 a3 a4 a5 a6 a7 p3.2 else (fX12_isHall a0 a3 p3.2).bind fun p5 => if p5.1 = (0 : Int32) then fX12_burst_60 a0 a1 a2 a3 a4 a5 a6 a7 p5.2 else (fX12_isHall a0 a4 p5.2).bind fun p7 => if p7.1 = (0 : Int32) then fX12_burst_60 a0 a1 a2 a3 a4 a5 a6 a7 p7.2 else if a3 = a4 then fX12_burst_60 a0 a1 a2 a3 a4 a5 a6 a7 p7.2 else (fX12_in a5 (1 : Int32) (200 : Int32) p7.2).bind fun p10 => if p10.1 = (0 : Int32) then fX12_burst_60 a0 a1 a2 a3 a4 a5 a6 a7 p10.2 else fX12_burst_61 a0 a1 a2 a3 a4 a5 a6 a7 (1 : Int32) p10.2
set_option maxRecDepth 4000 in
theorem fX12_burst_0_ok {a0 : Nat} {a1 : Int32} {a2 : Int32} {a3 : Int32} {a4 : Int32} {a5 : Int32} {a6 : Int32} {a7 : Int32} {d : Nat} (hd : 2 ≤ d) (ha0 : isModel a0) {o8 : Option Value} {o9 : Option Value} {m : xMem} {r : (Int32 × xMem)} (q8 : xNoD o8 = true) (q9 : xNoD o9 = true) (h : fX12_burst_0 a0 a1 a2 a3 a4 a5 a6 a7 m = some r) : xFx hh_42 cX12_burst d 0 [some (.ref a0), some (.int a1), some (.int a2), some (.int a3), some (.int a4), some (.int a5), some (.int a6), some (.int a7), o8, o9] [] (xLay m) 0 0 (some (.int r.1)) (xLay r.2) := by
  unfold fX12_burst_0 at h
  refine fx_iload_n dX12_burst_0 rfl rfl ?_
  refine fx_iconst (x := 0) dX12_burst_1 rfl (by decide) ?_
  refine fx_ldc dX12_burst_2 rfl ck_12_121 ?_
  obtain ⟨p1, ep1, h⟩ := xBind_el h
  refine gx_calls (as := [.int a1, .int (0 : Int32), .int (99999 : Int32)]) (r := []) rfl dX12_burst_4 ca_12_95 rfl me_18 rfl rfl rfl rfl (fX12_in_ok (d := d) (by omega) ep1) rfl rfl ?_
  refine fx_if_eq (t := 60) dX12_burst_7 rfl rfl (fun hc2 => ?_) (fun hc2 => ?_)
  · rw [if_pos hc2] at h
    exact fX12_burst_60_ok (o8 := o8) (o9 := o9) hd ha0 q8 q9 h
  · rw [if_neg hc2] at h
    refine fx_iload_n dX12_burst_10 rfl rfl ?_
    refine fx_iconst (x := 0) dX12_burst_11 rfl (by decide) ?_
    refine fx_sipush (x := 999) dX12_burst_12 rfl (by decide) ?_
    obtain ⟨p3, ep3, h⟩ := xBind_el h
    refine gx_calls (as := [.int a2, .int (0 : Int32), .int (999 : Int32)]) (r := []) rfl dX12_burst_15 ca_12_95 rfl me_18 rfl rfl rfl rfl (fX12_in_ok (d := d) (by omega) ep3) rfl rfl ?_
    refine fx_if_eq (t := 60) dX12_burst_18 rfl rfl (fun hc4 => ?_) (fun hc4 => ?_)
    · rw [if_pos hc4] at h
      exact fX12_burst_60_ok (o8 := o8) (o9 := o9) hd ha0 q8 q9 h
    · rw [if_neg hc4] at h
      refine fx_aload_n dX12_burst_21 rfl rfl ?_
      refine fx_iload_n dX12_burst_22 rfl rfl ?_
      obtain ⟨p5, ep5, h⟩ := xBind_el h
      refine gx_callv (as := [.int a3]) (r := []) rfl dX12_burst_23 ca_12_107 rfl me_22 rfl rfl rfl rfl (ha0.1) rfl (fX12_isHall_ok (d := d) (by omega) ha0 ep5) rfl rfl ?_
      refine fx_if_eq (t := 60) dX12_burst_26 rfl rfl (fun hc6 => ?_) (fun hc6 => ?_)
      · rw [if_pos hc6] at h
        exact fX12_burst_60_ok (o8 := o8) (o9 := o9) hd ha0 q8 q9 h
      · rw [if_neg hc6] at h
        refine fx_aload_n dX12_burst_29 rfl rfl ?_
        refine fx_iload dX12_burst_30 rfl rfl ?_
        obtain ⟨p7, ep7, h⟩ := xBind_el h
        refine gx_callv (as := [.int a4]) (r := []) rfl dX12_burst_32 ca_12_107 rfl me_22 rfl rfl rfl rfl (ha0.1) rfl (fX12_isHall_ok (d := d) (by omega) ha0 ep7) rfl rfl ?_
        refine fx_if_eq (t := 60) dX12_burst_35 rfl rfl (fun hc8 => ?_) (fun hc8 => ?_)
        · rw [if_pos hc8] at h
          exact fX12_burst_60_ok (o8 := o8) (o9 := o9) hd ha0 q8 q9 h
        · rw [if_neg hc8] at h
          refine fx_iload_n dX12_burst_38 rfl rfl ?_
          refine fx_iload dX12_burst_39 rfl rfl ?_
          refine fx_icmp_eq (t := 60) dX12_burst_41 rfl rfl (fun hc9 => ?_) (fun hc9 => ?_)
          · rw [if_pos hc9] at h
            exact fX12_burst_60_ok (o8 := o8) (o9 := o9) hd ha0 q8 q9 h
          · rw [if_neg hc9] at h
            refine fx_iload dX12_burst_44 rfl rfl ?_
            refine fx_iconst (x := 1) dX12_burst_46 rfl (by decide) ?_
            refine fx_sipush (x := 200) dX12_burst_47 rfl (by decide) ?_
            obtain ⟨p10, ep10, h⟩ := xBind_el h
            refine gx_calls (as := [.int a5, .int (1 : Int32), .int (200 : Int32)]) (r := []) rfl dX12_burst_50 ca_12_95 rfl me_18 rfl rfl rfl rfl (fX12_in_ok (d := d) (by omega) ep10) rfl rfl ?_
            refine fx_if_eq (t := 60) dX12_burst_53 rfl rfl (fun hc11 => ?_) (fun hc11 => ?_)
            · rw [if_pos hc11] at h
              exact fX12_burst_60_ok (o8 := o8) (o9 := o9) hd ha0 q8 q9 h
            · rw [if_neg hc11] at h
              refine fx_iconst (x := 1) dX12_burst_56 rfl (by decide) ?_
              refine fx_goto (t := 61) dX12_burst_57 rfl rfl ?_
              exact fX12_burst_61_ok (o8 := o8) (o9 := o9) hd ha0 q8 q9 h
def fX12_burst (a0 : Nat) (a1 : Int32) (a2 : Int32) (a3 : Int32) (a4 : Int32) (a5 : Int32) (a6 : Int32) (a7 : Int32) (m : xMem) : Option (Int32 × xMem) := fX12_burst_0 a0 a1 a2 a3 a4 a5 a6 a7  m
theorem fX12_burst_ok {a0 : Nat} {a1 : Int32} {a2 : Int32} {a3 : Int32} {a4 : Int32} {a5 : Int32} {a6 : Int32} {a7 : Int32} {m : xMem} {r : (Int32 × xMem)} {d : Nat} (hd : 3 ≤ d) (ha0 : isModel a0) (h : fX12_burst a0 a1 a2 a3 a4 a5 a6 a7 m = some r) : xEx d 42 [.ref a0, .int a1, .int a2, .int a3, .int a4, .int a5, .int a6, .int a7] (xLay m) (some (.int r.1)) (xLay r.2) := by
  obtain ⟨d, rfl⟩ : ∃ q, d = q + 1 := ⟨d - 1, by omega⟩
  exact xEx_of me_42 rfl (fX12_burst_0_ok (d := d) (o8 := none) (o9 := none) (by omega) ha0 rfl rfl h)
def fX7_hasRoomFor_17 (a0 : Nat) (a1 : Int32) (s0 : Int32) (m : xMem) : Option (Int32 × xMem) := bif (decide (s0 = 0) || decide (s0 = 1)) then some (s0, m) else none
set_option maxRecDepth 4000 in
theorem fX7_hasRoomFor_17_ok {a0 : Nat} {a1 : Int32} {d : Nat} (hd : 0 ≤ d) (ha0 : isReader a0) {s0 : Int32} {m : xMem} {r : (Int32 × xMem)} (h : fX7_hasRoomFor_17 a0 a1 s0 m = some r) : xFx hh_44 cX7_hasRoomFor d 17 [some (.ref a0), some (.int a1)] [.int s0] (xLay m) 0 0 (some (.int r.1)) (xLay r.2) := by
  unfold fX7_hasRoomFor_17 at h
  obtain ⟨hb1, h⟩ := xChk_el h
  cases h
  exact fx_ireturn dX7_hasRoomFor_17 rfl (by show ((decide _ || decide _) && _) = true; rw [hb1]; rfl)
def fX7_hasRoomFor_0 (a0 : Nat) (a1 : Int32) (m : xMem) : Option (Int32 × xMem) := xLet (m.1 a0 4) fun x1 => xLet (x1 + a1) fun x2 => if (300 : Int32) < x2 then fX7_hasRoomFor_17 a0 a1 (0 : Int32) m else fX7_hasRoomFor_17 a0 a1 (1 : Int32) m
set_option maxRecDepth 4000 in
theorem fX7_hasRoomFor_0_ok {a0 : Nat} {a1 : Int32} {d : Nat} (hd : 0 ≤ d) (ha0 : isReader a0) {m : xMem} {r : (Int32 × xMem)} (h : fX7_hasRoomFor_0 a0 a1 m = some r) : xFx hh_44 cX7_hasRoomFor d 0 [some (.ref a0), some (.int a1)] [] (xLay m) 0 0 (some (.int r.1)) (xLay r.2) := by
  unfold fX7_hasRoomFor_0 at h
  refine fx_aload_n dX7_hasRoomFor_0 rfl rfl ?_
  obtain ⟨x1, hx1, h⟩ := xLet_el h
  refine gx_get dX7_hasRoomFor_1 rfl fd_7_31 ha0.1 rfl rfl hx1 ?_
  refine fx_iload_n dX7_hasRoomFor_4 rfl rfl ?_
  obtain ⟨x2, hx2, h⟩ := xLet_el h
  refine fx_iadd dX7_hasRoomFor_5 rfl hx2 ?_
  refine fx_sipush (x := 300) dX7_hasRoomFor_6 rfl (by decide) ?_
  refine fx_icmp_gt (t := 16) dX7_hasRoomFor_9 rfl rfl (fun hc3 => ?_) (fun hc3 => ?_)
  · rw [if_pos hc3] at h
    refine fx_iconst (x := 0) dX7_hasRoomFor_16 rfl (by decide) ?_
    exact fX7_hasRoomFor_17_ok hd ha0 h
  · rw [if_neg hc3] at h
    refine fx_iconst (x := 1) dX7_hasRoomFor_12 rfl (by decide) ?_
    refine fx_goto (t := 17) dX7_hasRoomFor_13 rfl rfl ?_
    exact fX7_hasRoomFor_17_ok hd ha0 h
def fX7_hasRoomFor (a0 : Nat) (a1 : Int32) (m : xMem) : Option (Int32 × xMem) := fX7_hasRoomFor_0 a0 a1  m
theorem fX7_hasRoomFor_ok {a0 : Nat} {a1 : Int32} {m : xMem} {r : (Int32 × xMem)} {d : Nat} (hd : 1 ≤ d) (ha0 : isReader a0) (h : fX7_hasRoomFor a0 a1 m = some r) : xEx d 44 [.ref a0, .int a1] (xLay m) (some (.int r.1)) (xLay r.2) := by
  obtain ⟨d, rfl⟩ : ∃ q, d = q + 1 := ⟨d - 1, by omega⟩
  exact xEx_of me_44 rfl (fX7_hasRoomFor_0_ok (d := d) (by omega) ha0 h)
def fX7_append_52 (a0 : Nat) (a1 : Int32) (rec3 : Int32 → xMem → Option xMem) (l2 : Int32) (m : xMem) : Option xMem := xLet (l2 + (-8 : Int32)) fun x1 => rec3 x1 m
set_option maxRecDepth 4000 in
theorem fX7_append_52_ok {a0 : Nat} {a1 : Int32} {rec3 : Int32 → xMem → Option xMem} {d : Nat} (hd : 0 ≤ d) (ha0 : isReader a0) (hrec3 : ∀ (l2 : Int32) (m : xMem) (r : xMem), rec3 l2 m = some r → xFx hh_45 cX7_append d 3 [some (.ref a0), some (.int a1), some (.int l2)] [] (xLay m) 0 0 none (xLay r)) {l2 : Int32} {m : xMem} {r : xMem} (h : fX7_append_52 a0 a1 rec3 l2 m = some r) : xFx hh_45 cX7_append d 52 [some (.ref a0), some (.int a1), some (.int l2)] [] (xLay m) 0 0 none (xLay r) := by
  unfold fX7_append_52 at h
  obtain ⟨x1, hx1, h⟩ := xLet_el h
  refine fx_iinc (ls2 := [some (.ref a0), some (.int a1), some (.int x1)]) dX7_append_52 rfl rfl rfl hx1 rfl ?_
  refine fx_goto (t := 3) dX7_append_55 rfl rfl ?_
  exact hrec3 x1 m r h
def fX7_append_3 (a0 : Nat) (a1 : Int32) : Nat → Int32 → xMem → Option xMem
  | 0, _, _ => none
  | fuel + 1, l2, m => if l2 < (0 : Int32) then some m else xLet (m.1 a0 4) fun x2 => if x2 < (0 : Int32) then fX7_append_52 a0 a1 (fX7_append_3 a0 a1 fuel) l2 m else xLet (m.1 a0 4) fun x4 => if (300 : Int32) ≤ x4 then fX7_append_52 a0 a1 (fX7_append_3 a0 a1 fuel) l2 m else xLet (m.1 a0 4) fun x6 => xLet (a1 >>> (l2 &&& 31)) fun x7 => xLet (x7 &&& (255 : Int32)) fun x8 => bif xIn x6 300 then xLet (xPut m (a0 + 1) x6.toNatClampNeg x8) fun m9 => xLet (m9.1 a0 4) fun x11 => xLet (x11 + (1 : Int32)) fun x12 => xLet (xPut m9 a0 4 x12) fun m13 => fX7_append_52 a0 a1 (fX7_append_3 a0 a1 fuel) l2 m13 else none
set_option maxRecDepth 4000 in
theorem fX7_append_3_ok {a0 : Nat} {a1 : Int32} {d : Nat} (hd : 0 ≤ d) (ha0 : isReader a0) : ∀ (fuel : Nat) (l2 : Int32) (m : xMem) (r : xMem), fX7_append_3 a0 a1 fuel l2 m = some r → xFx hh_45 cX7_append d 3 [some (.ref a0), some (.int a1), some (.int l2)] [] (xLay m) 0 0 none (xLay r) := by
  intro fuel
  induction fuel with
  | zero => intro l2  m r  h; cases h
  | succ fuel ih =>
    intro l2  m r  h
    unfold fX7_append_3 at h
    refine fx_iload_n dX7_append_3 rfl rfl ?_
    refine fx_if_lt (t := 58) dX7_append_4 rfl rfl (fun hc1 => ?_) (fun hc1 => ?_)
    · rw [if_pos hc1] at h
      cases h
      exact fx_return dX7_append_58 rfl rfl
    · rw [if_neg hc1] at h
      refine fx_aload_n dX7_append_7 rfl rfl ?_
      obtain ⟨x2, hx2, h⟩ := xLet_el h
      refine gx_get dX7_append_8 rfl fd_7_31 ha0.1 rfl rfl hx2 ?_
      refine fx_if_lt (t := 52) dX7_append_11 rfl rfl (fun hc3 => ?_) (fun hc3 => ?_)
      · rw [if_pos hc3] at h
        exact fX7_append_52_ok hd ha0 ih h
      · rw [if_neg hc3] at h
        refine fx_aload_n dX7_append_14 rfl rfl ?_
        obtain ⟨x4, hx4, h⟩ := xLet_el h
        refine gx_get dX7_append_15 rfl fd_7_31 ha0.1 rfl rfl hx4 ?_
        refine fx_aload_n dX7_append_18 rfl rfl ?_
        refine gx_getr dX7_append_19 rfl fd_7_11 ha0.1 rfl rfl ?_
        refine gx_alen (t := 1) (y := 300) dX7_append_22 rfl ha0.2.1 rfl (by decide) ?_
        refine fx_icmp_ge (t := 52) dX7_append_23 rfl rfl (fun hc5 => ?_) (fun hc5 => ?_)
        · rw [if_pos hc5] at h
          exact fX7_append_52_ok hd ha0 ih h
        · rw [if_neg hc5] at h
          refine fx_aload_n dX7_append_26 rfl rfl ?_
          refine gx_getr dX7_append_27 rfl fd_7_11 ha0.1 rfl rfl ?_
          refine fx_aload_n dX7_append_30 rfl rfl ?_
          obtain ⟨x6, hx6, h⟩ := xLet_el h
          refine gx_get dX7_append_31 rfl fd_7_31 ha0.1 rfl rfl hx6 ?_
          refine fx_iload_n dX7_append_34 rfl rfl ?_
          refine fx_iload_n dX7_append_35 rfl rfl ?_
          obtain ⟨x7, hx7, h⟩ := xLet_el h
          refine fx_ishr dX7_append_36 rfl hx7 ?_
          refine fx_sipush (x := 255) dX7_append_37 rfl (by decide) ?_
          obtain ⟨x8, hx8, h⟩ := xLet_el h
          refine fx_iand dX7_append_40 rfl hx8 ?_
          obtain ⟨hj10, h⟩ := xChk_el h
          obtain ⟨m9, hm9, h⟩ := xLet_el h
          refine gx_iastore dX7_append_41 rfl ha0.2.1 hj10 hm9 ?_
          refine fx_aload_n dX7_append_42 rfl rfl ?_
          refine fx_dup dX7_append_43 rfl rfl ?_
          obtain ⟨x11, hx11, h⟩ := xLet_el h
          refine gx_get dX7_append_44 rfl fd_7_31 ha0.1 rfl rfl hx11 ?_
          refine fx_iconst (x := 1) dX7_append_47 rfl (by decide) ?_
          obtain ⟨x12, hx12, h⟩ := xLet_el h
          refine fx_iadd dX7_append_48 rfl hx12 ?_
          obtain ⟨m13, hm13, h⟩ := xLet_el h
          refine gx_put dX7_append_49 rfl fd_7_31 ha0.1 rfl rfl rfl hm13 ?_
          exact fX7_append_52_ok hd ha0 ih h
def fX7_append_0 (a0 : Nat) (a1 : Int32) (m : xMem) : Option xMem := fX7_append_3 a0 a1 xFuel (24 : Int32) m
set_option maxRecDepth 4000 in
theorem fX7_append_0_ok {a0 : Nat} {a1 : Int32} {d : Nat} (hd : 0 ≤ d) (ha0 : isReader a0) {o2 : Option Value} {m : xMem} {r : xMem} (q2 : xNoD o2 = true) (h : fX7_append_0 a0 a1 m = some r) : xFx hh_45 cX7_append d 0 [some (.ref a0), some (.int a1), o2] [] (xLay m) 0 0 none (xLay r) := by
  unfold fX7_append_0 at h
  refine fx_bipush (x := 24) dX7_append_0 rfl (by decide) ?_
  refine fx_istore_n (ls2 := [some (.ref a0), some (.int a1), some (.int (24 : Int32))]) dX7_append_2 rfl rfl rfl ?_
  exact fX7_append_3_ok hd ha0 xFuel (24 : Int32) m r h
def fX7_append (a0 : Nat) (a1 : Int32) (m : xMem) : Option xMem := fX7_append_0 a0 a1  m
theorem fX7_append_ok {a0 : Nat} {a1 : Int32} {m : xMem} {r : xMem} {d : Nat} (hd : 1 ≤ d) (ha0 : isReader a0) (h : fX7_append a0 a1 m = some r) : xEx d 45 [.ref a0, .int a1] (xLay m) none (xLay r) := by
  obtain ⟨d, rfl⟩ : ∃ q, d = q + 1 := ⟨d - 1, by omega⟩
  exact xEx_of me_45 rfl (fX7_append_0_ok (d := d) (o2 := none) (by omega) ha0 rfl h)
def fX11_feed_0 (a0 : Nat) (a1 : Int32) (a2 : Int32) (a3 : Int32) (a4 : Int32) (a5 : Int32) (m : xMem) : Option (Int32 × xMem) := (fX7_hasRoomFor (a0 + 255) (20 : Int32) m).bind fun p1 => if ¬ p1.1 = (0 : Int32) then (fX7_append (a0 + 255) a1 p1.2).bind fun p3 => (fX7_append (a0 + 255) a2 p3).bind fun p4 => (fX7_append (a0 + 255) a3 p4).bind fun p5 => (fX7_append (a0 + 255) a4 p5).bind fun p6 => (fX7_append (a0 + 255) a5 p6).bind fun p7 => xLet (p7.1 (a0 + 255) 4) fun x8 => some (x8, p7) else some ((-1 : Int32), p1.2)
set_option maxRecDepth 4000 in
theorem fX11_feed_0_ok {a0 : Nat} {a1 : Int32} {a2 : Int32} {a3 : Int32} {a4 : Int32} {a5 : Int32} {d : Nat} (hd : 1 ≤ d) (ha0 : isMS a0) {m : xMem} {r : (Int32 × xMem)} (h : fX11_feed_0 a0 a1 a2 a3 a4 a5 m = some r) : xFx hh_43 cX11_feed d 0 [some (.ref a0), some (.int a1), some (.int a2), some (.int a3), some (.int a4), some (.int a5)] [] (xLay m) 0 0 (some (.int r.1)) (xLay r.2) := by
  unfold fX11_feed_0 at h
  refine fx_aload_n dX11_feed_0 rfl rfl ?_
  refine gx_getr dX11_feed_1 rfl fd_11_32 ha0.1 rfl rfl ?_
  refine fx_bipush (x := 20) dX11_feed_4 rfl (by decide) ?_
  obtain ⟨p1, ep1, h⟩ := xBind_el h
  refine gx_callv (as := [.int (20 : Int32)]) (r := []) rfl dX11_feed_6 ca_11_134 rfl me_44 rfl rfl rfl rfl (ha0.2.2.2.2.2.1.1) rfl (fX7_hasRoomFor_ok (d := d) (by omega) ha0.2.2.2.2.2.1 ep1) rfl rfl ?_
  refine fx_if_ne (t := 14) dX11_feed_9 rfl rfl (fun hc2 => ?_) (fun hc2 => ?_)
  · rw [if_pos hc2] at h
    refine fx_aload_n dX11_feed_14 rfl rfl ?_
    refine gx_getr dX11_feed_15 rfl fd_11_32 ha0.1 rfl rfl ?_
    refine fx_iload_n dX11_feed_18 rfl rfl ?_
    obtain ⟨p3, ep3, h⟩ := xBind_el h
    refine gx_callv (as := [.int a1]) (r := []) rfl dX11_feed_19 ca_11_137 rfl me_45 rfl rfl rfl rfl (ha0.2.2.2.2.2.1.1) rfl (fX7_append_ok (d := d) (by omega) ha0.2.2.2.2.2.1 ep3) rfl rfl ?_
    refine fx_aload_n dX11_feed_22 rfl rfl ?_
    refine gx_getr dX11_feed_23 rfl fd_11_32 ha0.1 rfl rfl ?_
    refine fx_iload_n dX11_feed_26 rfl rfl ?_
    obtain ⟨p4, ep4, h⟩ := xBind_el h
    refine gx_callv (as := [.int a2]) (r := []) rfl dX11_feed_27 ca_11_137 rfl me_45 rfl rfl rfl rfl (ha0.2.2.2.2.2.1.1) rfl (fX7_append_ok (d := d) (by omega) ha0.2.2.2.2.2.1 ep4) rfl rfl ?_
    refine fx_aload_n dX11_feed_30 rfl rfl ?_
    refine gx_getr dX11_feed_31 rfl fd_11_32 ha0.1 rfl rfl ?_
    refine fx_iload_n dX11_feed_34 rfl rfl ?_
    obtain ⟨p5, ep5, h⟩ := xBind_el h
    refine gx_callv (as := [.int a3]) (r := []) rfl dX11_feed_35 ca_11_137 rfl me_45 rfl rfl rfl rfl (ha0.2.2.2.2.2.1.1) rfl (fX7_append_ok (d := d) (by omega) ha0.2.2.2.2.2.1 ep5) rfl rfl ?_
    refine fx_aload_n dX11_feed_38 rfl rfl ?_
    refine gx_getr dX11_feed_39 rfl fd_11_32 ha0.1 rfl rfl ?_
    refine fx_iload dX11_feed_42 rfl rfl ?_
    obtain ⟨p6, ep6, h⟩ := xBind_el h
    refine gx_callv (as := [.int a4]) (r := []) rfl dX11_feed_44 ca_11_137 rfl me_45 rfl rfl rfl rfl (ha0.2.2.2.2.2.1.1) rfl (fX7_append_ok (d := d) (by omega) ha0.2.2.2.2.2.1 ep6) rfl rfl ?_
    refine fx_aload_n dX11_feed_47 rfl rfl ?_
    refine gx_getr dX11_feed_48 rfl fd_11_32 ha0.1 rfl rfl ?_
    refine fx_iload dX11_feed_51 rfl rfl ?_
    obtain ⟨p7, ep7, h⟩ := xBind_el h
    refine gx_callv (as := [.int a5]) (r := []) rfl dX11_feed_53 ca_11_137 rfl me_45 rfl rfl rfl rfl (ha0.2.2.2.2.2.1.1) rfl (fX7_append_ok (d := d) (by omega) ha0.2.2.2.2.2.1 ep7) rfl rfl ?_
    refine fx_aload_n dX11_feed_56 rfl rfl ?_
    refine gx_getr dX11_feed_57 rfl fd_11_32 ha0.1 rfl rfl ?_
    obtain ⟨x8, hx8, h⟩ := xLet_el h
    refine gx_get dX11_feed_60 rfl fd_11_140 ha0.2.2.2.2.2.1.1 rfl rfl hx8 ?_
    cases h
    exact fx_ireturn dX11_feed_63 rfl rfl
  · rw [if_neg hc2] at h
    refine fx_iconst (x := -1) dX11_feed_12 rfl (by decide) ?_
    cases h
    exact fx_ireturn dX11_feed_13 rfl rfl
def fX11_feed (a0 : Nat) (a1 : Int32) (a2 : Int32) (a3 : Int32) (a4 : Int32) (a5 : Int32) (m : xMem) : Option (Int32 × xMem) := fX11_feed_0 a0 a1 a2 a3 a4 a5  m
theorem fX11_feed_ok {a0 : Nat} {a1 : Int32} {a2 : Int32} {a3 : Int32} {a4 : Int32} {a5 : Int32} {m : xMem} {r : (Int32 × xMem)} {d : Nat} (hd : 2 ≤ d) (ha0 : isMS a0) (h : fX11_feed a0 a1 a2 a3 a4 a5 m = some r) : xEx d 43 [.ref a0, .int a1, .int a2, .int a3, .int a4, .int a5] (xLay m) (some (.int r.1)) (xLay r.2) := by
  obtain ⟨d, rfl⟩ : ∃ q, d = q + 1 := ⟨d - 1, by omega⟩
  exact xEx_of me_43 rfl (fX11_feed_0_ok (d := d) (by omega) ha0 h)
