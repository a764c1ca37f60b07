theorem bdX7_cut_0 : (decode cX7_cut 0 = .ok (.aload_n 0, 1)) ∧ (decode cX7_cut 1 = .ok (.iconst 0, 1)) ∧ (decode cX7_cut 2 = .ok (.putfield 48, 3)) ∧ (decode cX7_cut 5 = .ok (.iconst 0, 1)) ∧ (decode cX7_cut 6 = .ok (.istore_n 1, 1)) ∧ (decode cX7_cut 7 = .ok (.iconst 0, 1)) ∧ (decode cX7_cut 8 = .ok (.istore_n 2, 1)) ∧ (decode cX7_cut 9 = .ok (.iload_n 2, 1)) ∧ (decode cX7_cut 10 = .ok (.sipush 300, 3)) ∧ (decode cX7_cut 13 = .ok (.if_icmp .ge 23, 3)) ∧ (decode cX7_cut 16 = .ok (.iload_n 1, 1)) ∧ (decode cX7_cut 17 = .ok (.aload_n 0, 1)) ∧ (decode cX7_cut 18 = .ok (.getfield 31, 3)) ∧ (decode cX7_cut 21 = .ok (.if_icmp .ge 15, 3)) ∧ (decode cX7_cut 24 = .ok (.aload_n 0, 1)) ∧ (decode cX7_cut 25 = .ok (.iload_n 1, 1)) := by decide +kernel
theorem dX7_cut_0 : decode cX7_cut 0 = .ok (.aload_n 0, 1) := bdX7_cut_0.1
theorem dX7_cut_1 : decode cX7_cut 1 = .ok (.iconst 0, 1) := bdX7_cut_0.2.1
theorem dX7_cut_2 : decode cX7_cut 2 = .ok (.putfield 48, 3) := bdX7_cut_0.2.2.1
theorem dX7_cut_5 : decode cX7_cut 5 = .ok (.iconst 0, 1) := bdX7_cut_0.2.2.2.1
theorem dX7_cut_6 : decode cX7_cut 6 = .ok (.istore_n 1, 1) := bdX7_cut_0.2.2.2.2.1
theorem dX7_cut_7 : decode cX7_cut 7 = .ok (.iconst 0, 1) := bdX7_cut_0.2.2.2.2.2.1
theorem dX7_cut_8 : decode cX7_cut 8 = .ok (.istore_n 2, 1) := bdX7_cut_0.2.2.2.2.2.2.1
theorem dX7_cut_9 : decode cX7_cut 9 = .ok (.iload_n 2, 1) := bdX7_cut_0.2.2.2.2.2.2.2.1
theorem dX7_cut_10 : decode cX7_cut 10 = .ok (.sipush 300, 3) := bdX7_cut_0.2.2.2.2.2.2.2.2.1
theorem dX7_cut_13 : decode cX7_cut 13 = .ok (.if_icmp .ge 23, 3) := bdX7_cut_0.2.2.2.2.2.2.2.2.2.1
theorem dX7_cut_16 : decode cX7_cut 16 = .ok (.iload_n 1, 1) := bdX7_cut_0.2.2.2.2.2.2.2.2.2.2.1
theorem dX7_cut_17 : decode cX7_cut 17 = .ok (.aload_n 0, 1) := bdX7_cut_0.2.2.2.2.2.2.2.2.2.2.2.1
theorem dX7_cut_18 : decode cX7_cut 18 = .ok (.getfield 31, 3) := bdX7_cut_0.2.2.2.2.2.2.2.2.2.2.2.2.1
theorem dX7_cut_21 : decode cX7_cut 21 = .ok (.if_icmp .ge 15, 3) := bdX7_cut_0.2.2.2.2.2.2.2.2.2.2.2.2.2.1
theorem dX7_cut_24 : decode cX7_cut 24 = .ok (.aload_n 0, 1) := bdX7_cut_0.2.2.2.2.2.2.2.2.2.2.2.2.2.2.1
theorem dX7_cut_25 : decode cX7_cut 25 = .ok (.iload_n 1, 1) := bdX7_cut_0.2.2.2.2.2.2.2.2.2.2.2.2.2.2.2
theorem bdX7_cut_26 : (decode cX7_cut 26 = .ok (.invokevirtual 59, 3)) ∧ (decode cX7_cut 29 = .ok (.istore_n 1, 1)) ∧ (decode cX7_cut 30 = .ok (.iinc 2 1, 3)) ∧ (decode cX7_cut 33 = .ok (.goto (-24), 3)) ∧ (decode cX7_cut 36 = .ok (.aload_n 0, 1)) ∧ (decode cX7_cut 37 = .ok (.iconst 0, 1)) ∧ (decode cX7_cut 38 = .ok (.iconst 0, 1)) ∧ (decode cX7_cut 39 = .ok (.aload_n 0, 1)) ∧ (decode cX7_cut 40 = .ok (.getfield 31, 3)) ∧ (decode cX7_cut 43 = .ok (.invokevirtual 63, 3)) ∧ (decode cX7_cut 46 = .ok (.return_, 1)) := by decide +kernel
theorem dX7_cut_26 : decode cX7_cut 26 = .ok (.invokevirtual 59, 3) := bdX7_cut_26.1
theorem dX7_cut_29 : decode cX7_cut 29 = .ok (.istore_n 1, 1) := bdX7_cut_26.2.1
theorem dX7_cut_30 : decode cX7_cut 30 = .ok (.iinc 2 1, 3) := bdX7_cut_26.2.2.1
theorem dX7_cut_33 : decode cX7_cut 33 = .ok (.goto (-24), 3) := bdX7_cut_26.2.2.2.1
theorem dX7_cut_36 : decode cX7_cut 36 = .ok (.aload_n 0, 1) := bdX7_cut_26.2.2.2.2.1
theorem dX7_cut_37 : decode cX7_cut 37 = .ok (.iconst 0, 1) := bdX7_cut_26.2.2.2.2.2.1
theorem dX7_cut_38 : decode cX7_cut 38 = .ok (.iconst 0, 1) := bdX7_cut_26.2.2.2.2.2.2.1
theorem dX7_cut_39 : decode cX7_cut 39 = .ok (.aload_n 0, 1) := bdX7_cut_26.2.2.2.2.2.2.2.1
theorem dX7_cut_40 : decode cX7_cut 40 = .ok (.getfield 31, 3) := bdX7_cut_26.2.2.2.2.2.2.2.2.1
theorem dX7_cut_43 : decode cX7_cut 43 = .ok (.invokevirtual 63, 3) := bdX7_cut_26.2.2.2.2.2.2.2.2.2.1
theorem dX7_cut_46 : decode cX7_cut 46 = .ok (.return_, 1) := bdX7_cut_26.2.2.2.2.2.2.2.2.2.2
theorem bdX7_readInto_0 : (decode cX7_readInto 0 = .ok (.aload_n 0, 1)) ∧ (decode cX7_readInto 1 = .ok (.invokevirtual 34, 3)) ∧ (decode cX7_readInto 4 = .ok (.aload_n 0, 1)) ∧ (decode cX7_readInto 5 = .ok (.iconst 0, 1)) ∧ (decode cX7_readInto 6 = .ok (.putfield 31, 3)) ∧ (decode cX7_readInto 9 = .ok (.aload_n 0, 1)) ∧ (decode cX7_readInto 10 = .ok (.iconst 0, 1)) ∧ (decode cX7_readInto 11 = .ok (.putfield 37, 3)) ∧ (decode cX7_readInto 14 = .ok (.aload_n 0, 1)) ∧ (decode cX7_readInto 15 = .ok (.iconst 0, 1)) ∧ (decode cX7_readInto 16 = .ok (.putfield 24, 3)) ∧ (decode cX7_readInto 19 = .ok (.aload_n 0, 1)) ∧ (decode cX7_readInto 20 = .ok (.iconst (-1), 1)) ∧ (decode cX7_readInto 21 = .ok (.putfield 28, 3)) ∧ (decode cX7_readInto 24 = .ok (.aload_n 1, 1)) ∧ (decode cX7_readInto 25 = .ok (.iconst 0, 1)) := by decide +kernel
theorem dX7_readInto_0 : decode cX7_readInto 0 = .ok (.aload_n 0, 1) := bdX7_readInto_0.1
theorem dX7_readInto_1 : decode cX7_readInto 1 = .ok (.invokevirtual 34, 3) := bdX7_readInto_0.2.1
theorem dX7_readInto_4 : decode cX7_readInto 4 = .ok (.aload_n 0, 1) := bdX7_readInto_0.2.2.1
theorem dX7_readInto_5 : decode cX7_readInto 5 = .ok (.iconst 0, 1) := bdX7_readInto_0.2.2.2.1
theorem dX7_readInto_6 : decode cX7_readInto 6 = .ok (.putfield 31, 3) := bdX7_readInto_0.2.2.2.2.1
theorem dX7_readInto_9 : decode cX7_readInto 9 = .ok (.aload_n 0, 1) := bdX7_readInto_0.2.2.2.2.2.1
theorem dX7_readInto_10 : decode cX7_readInto 10 = .ok (.iconst 0, 1) := bdX7_readInto_0.2.2.2.2.2.2.1
theorem dX7_readInto_11 : decode cX7_readInto 11 = .ok (.putfield 37, 3) := bdX7_readInto_0.2.2.2.2.2.2.2.1
theorem dX7_readInto_14 : decode cX7_readInto 14 = .ok (.aload_n 0, 1) := bdX7_readInto_0.2.2.2.2.2.2.2.2.1
theorem dX7_readInto_15 : decode cX7_readInto 15 = .ok (.iconst 0, 1) := bdX7_readInto_0.2.2.2.2.2.2.2.2.2.1
theorem dX7_readInto_16 : decode cX7_readInto 16 = .ok (.putfield 24, 3) := bdX7_readInto_0.2.2.2.2.2.2.2.2.2.2.1
theorem dX7_readInto_19 : decode cX7_readInto 19 = .ok (.aload_n 0, 1) := bdX7_readInto_0.2.2.2.2.2.2.2.2.2.2.2.1
theorem dX7_readInto_20 : decode cX7_readInto 20 = .ok (.iconst (-1), 1) := bdX7_readInto_0.2.2.2.2.2.2.2.2.2.2.2.2.1
theorem dX7_readInto_21 : decode cX7_readInto 21 = .ok (.putfield 28, 3) := bdX7_readInto_0.2.2.2.2.2.2.2.2.2.2.2.2.2.1
theorem dX7_readInto_24 : decode cX7_readInto 24 = .ok (.aload_n 1, 1) := bdX7_readInto_0.2.2.2.2.2.2.2.2.2.2.2.2.2.2.1
theorem dX7_readInto_25 : decode cX7_readInto 25 = .ok (.iconst 0, 1) := bdX7_readInto_0.2.2.2.2.2.2.2.2.2.2.2.2.2.2.2
theorem bdX7_readInto_26 : (decode cX7_readInto 26 = .ok (.putfield 40, 3)) ∧ (decode cX7_readInto 29 = .ok (.aload_n 1, 1)) ∧ (decode cX7_readInto 30 = .ok (.iconst 0, 1)) ∧ (decode cX7_readInto 31 = .ok (.putfield 45, 3)) ∧ (decode cX7_readInto 34 = .ok (.iconst 0, 1)) ∧ (decode cX7_readInto 35 = .ok (.istore_n 2, 1)) ∧ (decode cX7_readInto 36 = .ok (.iload_n 2, 1)) ∧ (decode cX7_readInto 37 = .ok (.aload_n 0, 1)) ∧ (decode cX7_readInto 38 = .ok (.getfield 48, 3)) ∧ (decode cX7_readInto 41 = .ok (.if_icmp .ge 26, 3)) ∧ (decode cX7_readInto 44 = .ok (.aload_n 0, 1)) ∧ (decode cX7_readInto 45 = .ok (.invokevirtual 51, 3)) ∧ (decode cX7_readInto 48 = .ok (.ifCond .eq 19, 3)) ∧ (decode cX7_readInto 51 = .ok (.aload_n 0, 1)) ∧ (decode cX7_readInto 52 = .ok (.aload_n 1, 1)) ∧ (decode cX7_readInto 53 = .ok (.invokevirtual 55, 3)) := by decide +kernel
theorem dX7_readInto_26 : decode cX7_readInto 26 = .ok (.putfield 40, 3) := bdX7_readInto_26.1
theorem dX7_readInto_29 : decode cX7_readInto 29 = .ok (.aload_n 1, 1) := bdX7_readInto_26.2.1
theorem dX7_readInto_30 : decode cX7_readInto 30 = .ok (.iconst 0, 1) := bdX7_readInto_26.2.2.1
theorem dX7_readInto_31 : decode cX7_readInto 31 = .ok (.putfield 45, 3) := bdX7_readInto_26.2.2.2.1
theorem dX7_readInto_34 : decode cX7_readInto 34 = .ok (.iconst 0, 1) := bdX7_readInto_26.2.2.2.2.1
theorem dX7_readInto_35 : decode cX7_readInto 35 = .ok (.istore_n 2, 1) := bdX7_readInto_26.2.2.2.2.2.1
theorem dX7_readInto_36 : decode cX7_readInto 36 = .ok (.iload_n 2, 1) := bdX7_readInto_26.2.2.2.2.2.2.1
theorem dX7_readInto_37 : decode cX7_readInto 37 = .ok (.aload_n 0, 1) := bdX7_readInto_26.2.2.2.2.2.2.2.1
theorem dX7_readInto_38 : decode cX7_readInto 38 = .ok (.getfield 48, 3) := bdX7_readInto_26.2.2.2.2.2.2.2.2.1
theorem dX7_readInto_41 : decode cX7_readInto 41 = .ok (.if_icmp .ge 26, 3) := bdX7_readInto_26.2.2.2.2.2.2.2.2.2.1
theorem dX7_readInto_44 : decode cX7_readInto 44 = .ok (.aload_n 0, 1) := bdX7_readInto_26.2.2.2.2.2.2.2.2.2.2.1
theorem dX7_readInto_45 : decode cX7_readInto 45 = .ok (.invokevirtual 51, 3) := bdX7_readInto_26.2.2.2.2.2.2.2.2.2.2.2.1
theorem dX7_readInto_48 : decode cX7_readInto 48 = .ok (.ifCond .eq 19, 3) := bdX7_readInto_26.2.2.2.2.2.2.2.2.2.2.2.2.1
theorem dX7_readInto_51 : decode cX7_readInto 51 = .ok (.aload_n 0, 1) := bdX7_readInto_26.2.2.2.2.2.2.2.2.2.2.2.2.2.1
theorem dX7_readInto_52 : decode cX7_readInto 52 = .ok (.aload_n 1, 1) := bdX7_readInto_26.2.2.2.2.2.2.2.2.2.2.2.2.2.2.1
theorem dX7_readInto_53 : decode cX7_readInto 53 = .ok (.invokevirtual 55, 3) := bdX7_readInto_26.2.2.2.2.2.2.2.2.2.2.2.2.2.2.2
theorem bdX7_readInto_56 : (decode cX7_readInto 56 = .ok (.ifCond .ne 5, 3)) ∧ (decode cX7_readInto 59 = .ok (.iconst 0, 1)) ∧ (decode cX7_readInto 60 = .ok (.ireturn, 1)) ∧ (decode cX7_readInto 61 = .ok (.iinc 2 1, 3)) ∧ (decode cX7_readInto 64 = .ok (.goto (-28), 3)) ∧ (decode cX7_readInto 67 = .ok (.iconst 1, 1)) ∧ (decode cX7_readInto 68 = .ok (.ireturn, 1)) := by decide +kernel
theorem dX7_readInto_56 : decode cX7_readInto 56 = .ok (.ifCond .ne 5, 3) := bdX7_readInto_56.1
theorem dX7_readInto_59 : decode cX7_readInto 59 = .ok (.iconst 0, 1) := bdX7_readInto_56.2.1
theorem dX7_readInto_60 : decode cX7_readInto 60 = .ok (.ireturn, 1) := bdX7_readInto_56.2.2.1
theorem dX7_readInto_61 : decode cX7_readInto 61 = .ok (.iinc 2 1, 3) := bdX7_readInto_56.2.2.2.1
theorem dX7_readInto_64 : decode cX7_readInto 64 = .ok (.goto (-28), 3) := bdX7_readInto_56.2.2.2.2.1
theorem dX7_readInto_67 : decode cX7_readInto 67 = .ok (.iconst 1, 1) := bdX7_readInto_56.2.2.2.2.2.1
theorem dX7_readInto_68 : decode cX7_readInto 68 = .ok (.ireturn, 1) := bdX7_readInto_56.2.2.2.2.2.2
theorem bdX11_text_0 : (decode cX11_text 0 = .ok (.aload_n 0, 1)) ∧ (decode cX11_text 1 = .ok (.getfield 10, 3)) ∧ (decode cX11_text 4 = .ok (.getfield 143, 3)) ∧ (decode cX11_text 7 = .ok (.iconst 0, 1)) ∧ (decode cX11_text 8 = .ok (.iconst 3, 1)) ∧ (decode cX11_text 9 = .ok (.invokestatic 47, 3)) ∧ (decode cX11_text 12 = .ok (.ifCond .ne 5, 3)) ∧ (decode cX11_text 15 = .ok (.iconst (-1), 1)) ∧ (decode cX11_text 16 = .ok (.ireturn, 1)) ∧ (decode cX11_text 17 = .ok (.aload_n 0, 1)) ∧ (decode cX11_text 18 = .ok (.getfield 32, 3)) ∧ (decode cX11_text 21 = .ok (.aload_n 0, 1)) ∧ (decode cX11_text 22 = .ok (.getfield 43, 3)) ∧ (decode cX11_text 25 = .ok (.aload_n 0, 1)) ∧ (decode cX11_text 26 = .ok (.getfield 10, 3)) ∧ (decode cX11_text 29 = .ok (.getfield 143, 3)) := by decide +kernel
theorem dX11_text_0 : decode cX11_text 0 = .ok (.aload_n 0, 1) := bdX11_text_0.1
theorem dX11_text_1 : decode cX11_text 1 = .ok (.getfield 10, 3) := bdX11_text_0.2.1
theorem dX11_text_4 : decode cX11_text 4 = .ok (.getfield 143, 3) := bdX11_text_0.2.2.1
theorem dX11_text_7 : decode cX11_text 7 = .ok (.iconst 0, 1) := bdX11_text_0.2.2.2.1
theorem dX11_text_8 : decode cX11_text 8 = .ok (.iconst 3, 1) := bdX11_text_0.2.2.2.2.1
theorem dX11_text_9 : decode cX11_text 9 = .ok (.invokestatic 47, 3) := bdX11_text_0.2.2.2.2.2.1
theorem dX11_text_12 : decode cX11_text 12 = .ok (.ifCond .ne 5, 3) := bdX11_text_0.2.2.2.2.2.2.1
theorem dX11_text_15 : decode cX11_text 15 = .ok (.iconst (-1), 1) := bdX11_text_0.2.2.2.2.2.2.2.1
theorem dX11_text_16 : decode cX11_text 16 = .ok (.ireturn, 1) := bdX11_text_0.2.2.2.2.2.2.2.2.1
theorem dX11_text_17 : decode cX11_text 17 = .ok (.aload_n 0, 1) := bdX11_text_0.2.2.2.2.2.2.2.2.2.1
theorem dX11_text_18 : decode cX11_text 18 = .ok (.getfield 32, 3) := bdX11_text_0.2.2.2.2.2.2.2.2.2.2.1
theorem dX11_text_21 : decode cX11_text 21 = .ok (.aload_n 0, 1) := bdX11_text_0.2.2.2.2.2.2.2.2.2.2.2.1
theorem dX11_text_22 : decode cX11_text 22 = .ok (.getfield 43, 3) := bdX11_text_0.2.2.2.2.2.2.2.2.2.2.2.2.1
theorem dX11_text_25 : decode cX11_text 25 = .ok (.aload_n 0, 1) := bdX11_text_0.2.2.2.2.2.2.2.2.2.2.2.2.2.1
theorem dX11_text_26 : decode cX11_text 26 = .ok (.getfield 10, 3) := bdX11_text_0.2.2.2.2.2.2.2.2.2.2.2.2.2.2.1
theorem dX11_text_29 : decode cX11_text 29 = .ok (.getfield 143, 3) := bdX11_text_0.2.2.2.2.2.2.2.2.2.2.2.2.2.2.2
theorem bdX11_text_32 : (decode cX11_text 32 = .ok (.aaload, 1)) ∧ (decode cX11_text 33 = .ok (.invokevirtual 146, 3)) ∧ (decode cX11_text 36 = .ok (.ifCond .ne 5, 3)) ∧ (decode cX11_text 39 = .ok (.iconst (-1), 1)) ∧ (decode cX11_text 40 = .ok (.ireturn, 1)) ∧ (decode cX11_text 41 = .ok (.aload_n 0, 1)) ∧ (decode cX11_text 42 = .ok (.getfield 10, 3)) ∧ (decode cX11_text 45 = .ok (.dup, 1)) ∧ (decode cX11_text 46 = .ok (.getfield 143, 3)) ∧ (decode cX11_text 49 = .ok (.iconst 1, 1)) ∧ (decode cX11_text 50 = .ok (.iadd, 1)) ∧ (decode cX11_text 51 = .ok (.putfield 143, 3)) ∧ (decode cX11_text 54 = .ok (.aload_n 0, 1)) ∧ (decode cX11_text 55 = .ok (.getfield 10, 3)) ∧ (decode cX11_text 58 = .ok (.getfield 143, 3)) ∧ (decode cX11_text 61 = .ok (.iconst 1, 1)) := by decide +kernel
theorem dX11_text_32 : decode cX11_text 32 = .ok (.aaload, 1) := bdX11_text_32.1
theorem dX11_text_33 : decode cX11_text 33 = .ok (.invokevirtual 146, 3) := bdX11_text_32.2.1
theorem dX11_text_36 : decode cX11_text 36 = .ok (.ifCond .ne 5, 3) := bdX11_text_32.2.2.1
theorem dX11_text_39 : decode cX11_text 39 = .ok (.iconst (-1), 1) := bdX11_text_32.2.2.2.1
theorem dX11_text_40 : decode cX11_text 40 = .ok (.ireturn, 1) := bdX11_text_32.2.2.2.2.1
theorem dX11_text_41 : decode cX11_text 41 = .ok (.aload_n 0, 1) := bdX11_text_32.2.2.2.2.2.1
theorem dX11_text_42 : decode cX11_text 42 = .ok (.getfield 10, 3) := bdX11_text_32.2.2.2.2.2.2.1
theorem dX11_text_45 : decode cX11_text 45 = .ok (.dup, 1) := bdX11_text_32.2.2.2.2.2.2.2.1
theorem dX11_text_46 : decode cX11_text 46 = .ok (.getfield 143, 3) := bdX11_text_32.2.2.2.2.2.2.2.2.1
theorem dX11_text_49 : decode cX11_text 49 = .ok (.iconst 1, 1) := bdX11_text_32.2.2.2.2.2.2.2.2.2.1
theorem dX11_text_50 : decode cX11_text 50 = .ok (.iadd, 1) := bdX11_text_32.2.2.2.2.2.2.2.2.2.2.1
theorem dX11_text_51 : decode cX11_text 51 = .ok (.putfield 143, 3) := bdX11_text_32.2.2.2.2.2.2.2.2.2.2.2.1
theorem dX11_text_54 : decode cX11_text 54 = .ok (.aload_n 0, 1) := bdX11_text_32.2.2.2.2.2.2.2.2.2.2.2.2.1
theorem dX11_text_55 : decode cX11_text 55 = .ok (.getfield 10, 3) := bdX11_text_32.2.2.2.2.2.2.2.2.2.2.2.2.2.1
theorem dX11_text_58 : decode cX11_text 58 = .ok (.getfield 143, 3) := bdX11_text_32.2.2.2.2.2.2.2.2.2.2.2.2.2.2.1
theorem dX11_text_61 : decode cX11_text 61 = .ok (.iconst 1, 1) := bdX11_text_32.2.2.2.2.2.2.2.2.2.2.2.2.2.2.2
theorem dX11_text_62 : decode cX11_text 62 = .ok (.isub, 1) := by decide +kernel
theorem dX11_text_63 : decode cX11_text 63 = .ok (.ireturn, 1) := by decide +kernel
theorem bdX12_emits_0 : (decode cX12_emits 0 = .ok (.aload_n 0, 1)) ∧ (decode cX12_emits 1 = .ok (.getfield 63, 3)) ∧ (decode cX12_emits 4 = .ok (.aload_n 0, 1)) ∧ (decode cX12_emits 5 = .ok (.getfield 187, 3)) ∧ (decode cX12_emits 8 = .ok (.iload_n 1, 1)) ∧ (decode cX12_emits 9 = .ok (.iastore, 1)) ∧ (decode cX12_emits 10 = .ok (.aload_n 0, 1)) ∧ (decode cX12_emits 11 = .ok (.getfield 66, 3)) ∧ (decode cX12_emits 14 = .ok (.aload_n 0, 1)) ∧ (decode cX12_emits 15 = .ok (.getfield 187, 3)) ∧ (decode cX12_emits 18 = .ok (.iload_n 2, 1)) ∧ (decode cX12_emits 19 = .ok (.iastore, 1)) ∧ (decode cX12_emits 20 = .ok (.aload_n 0, 1)) ∧ (decode cX12_emits 21 = .ok (.dup, 1)) ∧ (decode cX12_emits 22 = .ok (.getfield 187, 3)) ∧ (decode cX12_emits 25 = .ok (.iconst 1, 1)) := by decide +kernel
theorem dX12_emits_0 : decode cX12_emits 0 = .ok (.aload_n 0, 1) := bdX12_emits_0.1
theorem dX12_emits_1 : decode cX12_emits 1 = .ok (.getfield 63, 3) := bdX12_emits_0.2.1
theorem dX12_emits_4 : decode cX12_emits 4 = .ok (.aload_n 0, 1) := bdX12_emits_0.2.2.1
theorem dX12_emits_5 : decode cX12_emits 5 = .ok (.getfield 187, 3) := bdX12_emits_0.2.2.2.1
theorem dX12_emits_8 : decode cX12_emits 8 = .ok (.iload_n 1, 1) := bdX12_emits_0.2.2.2.2.1
theorem dX12_emits_9 : decode cX12_emits 9 = .ok (.iastore, 1) := bdX12_emits_0.2.2.2.2.2.1
theorem dX12_emits_10 : decode cX12_emits 10 = .ok (.aload_n 0, 1) := bdX12_emits_0.2.2.2.2.2.2.1
theorem dX12_emits_11 : decode cX12_emits 11 = .ok (.getfield 66, 3) := bdX12_emits_0.2.2.2.2.2.2.2.1
theorem dX12_emits_14 : decode cX12_emits 14 = .ok (.aload_n 0, 1) := bdX12_emits_0.2.2.2.2.2.2.2.2.1
theorem dX12_emits_15 : decode cX12_emits 15 = .ok (.getfield 187, 3) := bdX12_emits_0.2.2.2.2.2.2.2.2.2.1
theorem dX12_emits_18 : decode cX12_emits 18 = .ok (.iload_n 2, 1) := bdX12_emits_0.2.2.2.2.2.2.2.2.2.2.1
theorem dX12_emits_19 : decode cX12_emits 19 = .ok (.iastore, 1) := bdX12_emits_0.2.2.2.2.2.2.2.2.2.2.2.1
theorem dX12_emits_20 : decode cX12_emits 20 = .ok (.aload_n 0, 1) := bdX12_emits_0.2.2.2.2.2.2.2.2.2.2.2.2.1
theorem dX12_emits_21 : decode cX12_emits 21 = .ok (.dup, 1) := bdX12_emits_0.2.2.2.2.2.2.2.2.2.2.2.2.2.1
theorem dX12_emits_22 : decode cX12_emits 22 = .ok (.getfield 187, 3) := bdX12_emits_0.2.2.2.2.2.2.2.2.2.2.2.2.2.2.1
theorem dX12_emits_25 : decode cX12_emits 25 = .ok (.iconst 1, 1) := bdX12_emits_0.2.2.2.2.2.2.2.2.2.2.2.2.2.2.2
theorem bdX12_emits_26 : (decode cX12_emits 26 = .ok (.iadd, 1)) ∧ (decode cX12_emits 27 = .ok (.putfield 187, 3)) ∧ (decode cX12_emits 30 = .ok (.return_, 1)) := by decide +kernel
theorem dX12_emits_26 : decode cX12_emits 26 = .ok (.iadd, 1) := bdX12_emits_26.1
theorem dX12_emits_27 : decode cX12_emits 27 = .ok (.putfield 187, 3) := bdX12_emits_26.2.1
theorem dX12_emits_30 : decode cX12_emits 30 = .ok (.return_, 1) := bdX12_emits_26.2.2
theorem bdX12_top_0 : (decode cX12_top 0 = .ok (.aload_n 0, 1)) ∧ (decode cX12_top 1 = .ok (.getfield 45, 3)) ∧ (decode cX12_top 4 = .ok (.aload_n 0, 1)) ∧ (decode cX12_top 5 = .ok (.getfield 190, 3)) ∧ (decode cX12_top 8 = .ok (.iconst 1, 1)) ∧ (decode cX12_top 9 = .ok (.isub, 1)) ∧ (decode cX12_top 10 = .ok (.iaload, 1)) ∧ (decode cX12_top 11 = .ok (.ireturn, 1)) := by decide +kernel
theorem dX12_top_0 : decode cX12_top 0 = .ok (.aload_n 0, 1) := bdX12_top_0.1
theorem dX12_top_1 : decode cX12_top 1 = .ok (.getfield 45, 3) := bdX12_top_0.2.1
theorem dX12_top_4 : decode cX12_top 4 = .ok (.aload_n 0, 1) := bdX12_top_0.2.2.1
theorem dX12_top_5 : decode cX12_top 5 = .ok (.getfield 190, 3) := bdX12_top_0.2.2.2.1
theorem dX12_top_8 : decode cX12_top 8 = .ok (.iconst 1, 1) := bdX12_top_0.2.2.2.2.1
theorem dX12_top_9 : decode cX12_top 9 = .ok (.isub, 1) := bdX12_top_0.2.2.2.2.2.1
theorem dX12_top_10 : decode cX12_top 10 = .ok (.iaload, 1) := bdX12_top_0.2.2.2.2.2.2.1
theorem dX12_top_11 : decode cX12_top 11 = .ok (.ireturn, 1) := bdX12_top_0.2.2.2.2.2.2.2
theorem bdX12_oneIsOver_0 : (decode cX12_oneIsOver 0 = .ok (.aload_n 0, 1)) ∧ (decode cX12_oneIsOver 1 = .ok (.invokevirtual 236, 3)) ∧ (decode cX12_oneIsOver 4 = .ok (.bipush 7, 2)) ∧ (decode cX12_oneIsOver 6 = .ok (.if_icmp .ne 34, 3)) ∧ (decode cX12_oneIsOver 9 = .ok (.aload_n 0, 1)) ∧ (decode cX12_oneIsOver 10 = .ok (.dup, 1)) ∧ (decode cX12_oneIsOver 11 = .ok (.getfield 190, 3)) ∧ (decode cX12_oneIsOver 14 = .ok (.iconst 1, 1)) ∧ (decode cX12_oneIsOver 15 = .ok (.isub, 1)) ∧ (decode cX12_oneIsOver 16 = .ok (.putfield 190, 3)) ∧ (decode cX12_oneIsOver 19 = .ok (.aload_n 0, 1)) ∧ (decode cX12_oneIsOver 20 = .ok (.dup, 1)) ∧ (decode cX12_oneIsOver 21 = .ok (.getfield 193, 3)) ∧ (decode cX12_oneIsOver 24 = .ok (.iconst 1, 1)) ∧ (decode cX12_oneIsOver 25 = .ok (.isub, 1)) ∧ (decode cX12_oneIsOver 26 = .ok (.putfield 193, 3)) := by decide +kernel
theorem dX12_oneIsOver_0 : decode cX12_oneIsOver 0 = .ok (.aload_n 0, 1) := bdX12_oneIsOver_0.1
theorem dX12_oneIsOver_1 : decode cX12_oneIsOver 1 = .ok (.invokevirtual 236, 3) := bdX12_oneIsOver_0.2.1
theorem dX12_oneIsOver_4 : decode cX12_oneIsOver 4 = .ok (.bipush 7, 2) := bdX12_oneIsOver_0.2.2.1
theorem dX12_oneIsOver_6 : decode cX12_oneIsOver 6 = .ok (.if_icmp .ne 34, 3) := bdX12_oneIsOver_0.2.2.2.1
theorem dX12_oneIsOver_9 : decode cX12_oneIsOver 9 = .ok (.aload_n 0, 1) := bdX12_oneIsOver_0.2.2.2.2.1
theorem dX12_oneIsOver_10 : decode cX12_oneIsOver 10 = .ok (.dup, 1) := bdX12_oneIsOver_0.2.2.2.2.2.1
theorem dX12_oneIsOver_11 : decode cX12_oneIsOver 11 = .ok (.getfield 190, 3) := bdX12_oneIsOver_0.2.2.2.2.2.2.1
theorem dX12_oneIsOver_14 : decode cX12_oneIsOver 14 = .ok (.iconst 1, 1) := bdX12_oneIsOver_0.2.2.2.2.2.2.2.1
theorem dX12_oneIsOver_15 : decode cX12_oneIsOver 15 = .ok (.isub, 1) := bdX12_oneIsOver_0.2.2.2.2.2.2.2.2.1
theorem dX12_oneIsOver_16 : decode cX12_oneIsOver 16 = .ok (.putfield 190, 3) := bdX12_oneIsOver_0.2.2.2.2.2.2.2.2.2.1
theorem dX12_oneIsOver_19 : decode cX12_oneIsOver 19 = .ok (.aload_n 0, 1) := bdX12_oneIsOver_0.2.2.2.2.2.2.2.2.2.2.1
theorem dX12_oneIsOver_20 : decode cX12_oneIsOver 20 = .ok (.dup, 1) := bdX12_oneIsOver_0.2.2.2.2.2.2.2.2.2.2.2.1
theorem dX12_oneIsOver_21 : decode cX12_oneIsOver 21 = .ok (.getfield 193, 3) := bdX12_oneIsOver_0.2.2.2.2.2.2.2.2.2.2.2.2.1
theorem dX12_oneIsOver_24 : decode cX12_oneIsOver 24 = .ok (.iconst 1, 1) := bdX12_oneIsOver_0.2.2.2.2.2.2.2.2.2.2.2.2.2.1
theorem dX12_oneIsOver_25 : decode cX12_oneIsOver 25 = .ok (.isub, 1) := bdX12_oneIsOver_0.2.2.2.2.2.2.2.2.2.2.2.2.2.2.1
theorem dX12_oneIsOver_26 : decode cX12_oneIsOver 26 = .ok (.putfield 193, 3) := bdX12_oneIsOver_0.2.2.2.2.2.2.2.2.2.2.2.2.2.2.2
theorem bdX12_oneIsOver_29 : (decode cX12_oneIsOver 29 = .ok (.aload_n 0, 1)) ∧ (decode cX12_oneIsOver 30 = .ok (.sipush 402, 3)) ∧ (decode cX12_oneIsOver 33 = .ok (.iconst 0, 1)) ∧ (decode cX12_oneIsOver 34 = .ok (.invokevirtual 211, 3)) ∧ (decode cX12_oneIsOver 37 = .ok (.goto (-37), 3)) ∧ (decode cX12_oneIsOver 40 = .ok (.aload_n 0, 1)) ∧ (decode cX12_oneIsOver 41 = .ok (.iconst 2, 1)) ∧ (decode cX12_oneIsOver 42 = .ok (.putfield 224, 3)) ∧ (decode cX12_oneIsOver 45 = .ok (.return_, 1)) := by decide +kernel
theorem dX12_oneIsOver_29 : decode cX12_oneIsOver 29 = .ok (.aload_n 0, 1) := bdX12_oneIsOver_29.1
theorem dX12_oneIsOver_30 : decode cX12_oneIsOver 30 = .ok (.sipush 402, 3) := bdX12_oneIsOver_29.2.1
theorem dX12_oneIsOver_33 : decode cX12_oneIsOver 33 = .ok (.iconst 0, 1) := bdX12_oneIsOver_29.2.2.1
theorem dX12_oneIsOver_34 : decode cX12_oneIsOver 34 = .ok (.invokevirtual 211, 3) := bdX12_oneIsOver_29.2.2.2.1
theorem dX12_oneIsOver_37 : decode cX12_oneIsOver 37 = .ok (.goto (-37), 3) := bdX12_oneIsOver_29.2.2.2.2.1
theorem dX12_oneIsOver_40 : decode cX12_oneIsOver 40 = .ok (.aload_n 0, 1) := bdX12_oneIsOver_29.2.2.2.2.2.1
theorem dX12_oneIsOver_41 : decode cX12_oneIsOver 41 = .ok (.iconst 2, 1) := bdX12_oneIsOver_29.2.2.2.2.2.2.1
theorem dX12_oneIsOver_42 : decode cX12_oneIsOver 42 = .ok (.putfield 224, 3) := bdX12_oneIsOver_29.2.2.2.2.2.2.2.1
theorem dX12_oneIsOver_45 : decode cX12_oneIsOver 45 = .ok (.return_, 1) := bdX12_oneIsOver_29.2.2.2.2.2.2.2.2
theorem bdX12_isSign_0 : (decode cX12_isSign 0 = .ok (.aload_n 0, 1)) ∧ (decode cX12_isSign 1 = .ok (.getfield 166, 3)) ∧ (decode cX12_isSign 4 = .ok (.iconst 3, 1)) ∧ (decode cX12_isSign 5 = .ok (.if_icmp .ne 15, 3)) ∧ (decode cX12_isSign 8 = .ok (.aload_n 0, 1)) ∧ (decode cX12_isSign 9 = .ok (.getfield 178, 3)) ∧ (decode cX12_isSign 12 = .ok (.iload_n 1, 1)) ∧ (decode cX12_isSign 13 = .ok (.if_icmp .ne 7, 3)) ∧ (decode cX12_isSign 16 = .ok (.iconst 1, 1)) ∧ (decode cX12_isSign 17 = .ok (.goto 4, 3)) ∧ (decode cX12_isSign 20 = .ok (.iconst 0, 1)) ∧ (decode cX12_isSign 21 = .ok (.ireturn, 1)) := by decide +kernel
theorem dX12_isSign_0 : decode cX12_isSign 0 = .ok (.aload_n 0, 1) := bdX12_isSign_0.1
theorem dX12_isSign_1 : decode cX12_isSign 1 = .ok (.getfield 166, 3) := bdX12_isSign_0.2.1
theorem dX12_isSign_4 : decode cX12_isSign 4 = .ok (.iconst 3, 1) := bdX12_isSign_0.2.2.1
theorem dX12_isSign_5 : decode cX12_isSign 5 = .ok (.if_icmp .ne 15, 3) := bdX12_isSign_0.2.2.2.1
theorem dX12_isSign_8 : decode cX12_isSign 8 = .ok (.aload_n 0, 1) := bdX12_isSign_0.2.2.2.2.1
theorem dX12_isSign_9 : decode cX12_isSign 9 = .ok (.getfield 178, 3) := bdX12_isSign_0.2.2.2.2.2.1
theorem dX12_isSign_12 : decode cX12_isSign 12 = .ok (.iload_n 1, 1) := bdX12_isSign_0.2.2.2.2.2.2.1
theorem dX12_isSign_13 : decode cX12_isSign 13 = .ok (.if_icmp .ne 7, 3) := bdX12_isSign_0.2.2.2.2.2.2.2.1
theorem dX12_isSign_16 : decode cX12_isSign 16 = .ok (.iconst 1, 1) := bdX12_isSign_0.2.2.2.2.2.2.2.2.1
theorem dX12_isSign_17 : decode cX12_isSign 17 = .ok (.goto 4, 3) := bdX12_isSign_0.2.2.2.2.2.2.2.2.2.1
theorem dX12_isSign_20 : decode cX12_isSign 20 = .ok (.iconst 0, 1) := bdX12_isSign_0.2.2.2.2.2.2.2.2.2.2.1
theorem dX12_isSign_21 : decode cX12_isSign 21 = .ok (.ireturn, 1) := bdX12_isSign_0.2.2.2.2.2.2.2.2.2.2.2
theorem bdX12_isLetter_0 : (decode cX12_isLetter 0 = .ok (.iload_n 0, 1)) ∧ (decode cX12_isLetter 1 = .ok (.bipush 97, 2)) ∧ (decode cX12_isLetter 3 = .ok (.bipush 122, 2)) ∧ (decode cX12_isLetter 5 = .ok (.invokestatic 95, 3)) ∧ (decode cX12_isLetter 8 = .ok (.ifCond .ne 14, 3)) ∧ (decode cX12_isLetter 11 = .ok (.iload_n 0, 1)) ∧ (decode cX12_isLetter 12 = .ok (.bipush 65, 2)) ∧ (decode cX12_isLetter 14 = .ok (.bipush 90, 2)) ∧ (decode cX12_isLetter 16 = .ok (.invokestatic 95, 3)) ∧ (decode cX12_isLetter 19 = .ok (.ifCond .eq 7, 3)) ∧ (decode cX12_isLetter 22 = .ok (.iconst 1, 1)) ∧ (decode cX12_isLetter 23 = .ok (.goto 4, 3)) ∧ (decode cX12_isLetter 26 = .ok (.iconst 0, 1)) ∧ (decode cX12_isLetter 27 = .ok (.ireturn, 1)) := by decide +kernel
theorem dX12_isLetter_0 : decode cX12_isLetter 0 = .ok (.iload_n 0, 1) := bdX12_isLetter_0.1
theorem dX12_isLetter_1 : decode cX12_isLetter 1 = .ok (.bipush 97, 2) := bdX12_isLetter_0.2.1
theorem dX12_isLetter_3 : decode cX12_isLetter 3 = .ok (.bipush 122, 2) := bdX12_isLetter_0.2.2.1
theorem dX12_isLetter_5 : decode cX12_isLetter 5 = .ok (.invokestatic 95, 3) := bdX12_isLetter_0.2.2.2.1
theorem dX12_isLetter_8 : decode cX12_isLetter 8 = .ok (.ifCond .ne 14, 3) := bdX12_isLetter_0.2.2.2.2.1
theorem dX12_isLetter_11 : decode cX12_isLetter 11 = .ok (.iload_n 0, 1) := bdX12_isLetter_0.2.2.2.2.2.1
theorem dX12_isLetter_12 : decode cX12_isLetter 12 = .ok (.bipush 65, 2) := bdX12_isLetter_0.2.2.2.2.2.2.1
theorem dX12_isLetter_14 : decode cX12_isLetter 14 = .ok (.bipush 90, 2) := bdX12_isLetter_0.2.2.2.2.2.2.2.1
theorem dX12_isLetter_16 : decode cX12_isLetter 16 = .ok (.invokestatic 95, 3) := bdX12_isLetter_0.2.2.2.2.2.2.2.2.1
theorem dX12_isLetter_19 : decode cX12_isLetter 19 = .ok (.ifCond .eq 7, 3) := bdX12_isLetter_0.2.2.2.2.2.2.2.2.2.1
theorem dX12_isLetter_22 : decode cX12_isLetter 22 = .ok (.iconst 1, 1) := bdX12_isLetter_0.2.2.2.2.2.2.2.2.2.2.1
theorem dX12_isLetter_23 : decode cX12_isLetter 23 = .ok (.goto 4, 3) := bdX12_isLetter_0.2.2.2.2.2.2.2.2.2.2.2.1
theorem dX12_isLetter_26 : decode cX12_isLetter 26 = .ok (.iconst 0, 1) := bdX12_isLetter_0.2.2.2.2.2.2.2.2.2.2.2.2.1
theorem dX12_isLetter_27 : decode cX12_isLetter 27 = .ok (.ireturn, 1) := bdX12_isLetter_0.2.2.2.2.2.2.2.2.2.2.2.2.2
theorem bdX12_wordOf_0 : (decode cX12_wordOf 0 = .ok (.lload_n 0, 1)) ∧ (decode cX12_wordOf 1 = .ok (.ldc2_w 129, 3)) ∧ (decode cX12_wordOf 4 = .ok (.lcmp, 1)) ∧ (decode cX12_wordOf 5 = .ok (.ifCond .ne 5, 3)) ∧ (decode cX12_wordOf 8 = .ok (.iconst 0, 1)) ∧ (decode cX12_wordOf 9 = .ok (.ireturn, 1)) ∧ (decode cX12_wordOf 10 = .ok (.lload_n 0, 1)) ∧ (decode cX12_wordOf 11 = .ok (.ldc2_w 131, 3)) ∧ (decode cX12_wordOf 14 = .ok (.lcmp, 1)) ∧ (decode cX12_wordOf 15 = .ok (.ifCond .ne 5, 3)) ∧ (decode cX12_wordOf 18 = .ok (.iconst 1, 1)) ∧ (decode cX12_wordOf 19 = .ok (.ireturn, 1)) ∧ (decode cX12_wordOf 20 = .ok (.lload_n 0, 1)) ∧ (decode cX12_wordOf 21 = .ok (.ldc2_w 133, 3)) ∧ (decode cX12_wordOf 24 = .ok (.lcmp, 1)) ∧ (decode cX12_wordOf 25 = .ok (.ifCond .ne 5, 3)) := by decide +kernel
theorem dX12_wordOf_0 : decode cX12_wordOf 0 = .ok (.lload_n 0, 1) := bdX12_wordOf_0.1
theorem dX12_wordOf_1 : decode cX12_wordOf 1 = .ok (.ldc2_w 129, 3) := bdX12_wordOf_0.2.1
theorem dX12_wordOf_4 : decode cX12_wordOf 4 = .ok (.lcmp, 1) := bdX12_wordOf_0.2.2.1
theorem dX12_wordOf_5 : decode cX12_wordOf 5 = .ok (.ifCond .ne 5, 3) := bdX12_wordOf_0.2.2.2.1
theorem dX12_wordOf_8 : decode cX12_wordOf 8 = .ok (.iconst 0, 1) := bdX12_wordOf_0.2.2.2.2.1
theorem dX12_wordOf_9 : decode cX12_wordOf 9 = .ok (.ireturn, 1) := bdX12_wordOf_0.2.2.2.2.2.1
theorem dX12_wordOf_10 : decode cX12_wordOf 10 = .ok (.lload_n 0, 1) := bdX12_wordOf_0.2.2.2.2.2.2.1
theorem dX12_wordOf_11 : decode cX12_wordOf 11 = .ok (.ldc2_w 131, 3) := bdX12_wordOf_0.2.2.2.2.2.2.2.1
theorem dX12_wordOf_14 : decode cX12_wordOf 14 = .ok (.lcmp, 1) := bdX12_wordOf_0.2.2.2.2.2.2.2.2.1
theorem dX12_wordOf_15 : decode cX12_wordOf 15 = .ok (.ifCond .ne 5, 3) := bdX12_wordOf_0.2.2.2.2.2.2.2.2.2.1
theorem dX12_wordOf_18 : decode cX12_wordOf 18 = .ok (.iconst 1, 1) := bdX12_wordOf_0.2.2.2.2.2.2.2.2.2.2.1
theorem dX12_wordOf_19 : decode cX12_wordOf 19 = .ok (.ireturn, 1) := bdX12_wordOf_0.2.2.2.2.2.2.2.2.2.2.2.1
theorem dX12_wordOf_20 : decode cX12_wordOf 20 = .ok (.lload_n 0, 1) := bdX12_wordOf_0.2.2.2.2.2.2.2.2.2.2.2.2.1
theorem dX12_wordOf_21 : decode cX12_wordOf 21 = .ok (.ldc2_w 133, 3) := bdX12_wordOf_0.2.2.2.2.2.2.2.2.2.2.2.2.2.1
theorem dX12_wordOf_24 : decode cX12_wordOf 24 = .ok (.lcmp, 1) := bdX12_wordOf_0.2.2.2.2.2.2.2.2.2.2.2.2.2.2.1
theorem dX12_wordOf_25 : decode cX12_wordOf 25 = .ok (.ifCond .ne 5, 3) := bdX12_wordOf_0.2.2.2.2.2.2.2.2.2.2.2.2.2.2.2
theorem bdX12_wordOf_28 : (decode cX12_wordOf 28 = .ok (.iconst 2, 1)) ∧ (decode cX12_wordOf 29 = .ok (.ireturn, 1)) ∧ (decode cX12_wordOf 30 = .ok (.lload_n 0, 1)) ∧ (decode cX12_wordOf 31 = .ok (.ldc2_w 135, 3)) ∧ (decode cX12_wordOf 34 = .ok (.lcmp, 1)) ∧ (decode cX12_wordOf 35 = .ok (.ifCond .ne 5, 3)) ∧ (decode cX12_wordOf 38 = .ok (.iconst 3, 1)) ∧ (decode cX12_wordOf 39 = .ok (.ireturn, 1)) ∧ (decode cX12_wordOf 40 = .ok (.lload_n 0, 1)) ∧ (decode cX12_wordOf 41 = .ok (.ldc2_w 137, 3)) ∧ (decode cX12_wordOf 44 = .ok (.lcmp, 1)) ∧ (decode cX12_wordOf 45 = .ok (.ifCond .ne 5, 3)) ∧ (decode cX12_wordOf 48 = .ok (.iconst 4, 1)) ∧ (decode cX12_wordOf 49 = .ok (.ireturn, 1)) ∧ (decode cX12_wordOf 50 = .ok (.lload_n 0, 1)) ∧ (decode cX12_wordOf 51 = .ok (.ldc2_w 139, 3)) := by decide +kernel
theorem dX12_wordOf_28 : decode cX12_wordOf 28 = .ok (.iconst 2, 1) := bdX12_wordOf_28.1
theorem dX12_wordOf_29 : decode cX12_wordOf 29 = .ok (.ireturn, 1) := bdX12_wordOf_28.2.1
theorem dX12_wordOf_30 : decode cX12_wordOf 30 = .ok (.lload_n 0, 1) := bdX12_wordOf_28.2.2.1
theorem dX12_wordOf_31 : decode cX12_wordOf 31 = .ok (.ldc2_w 135, 3) := bdX12_wordOf_28.2.2.2.1
theorem dX12_wordOf_34 : decode cX12_wordOf 34 = .ok (.lcmp, 1) := bdX12_wordOf_28.2.2.2.2.1
theorem dX12_wordOf_35 : decode cX12_wordOf 35 = .ok (.ifCond .ne 5, 3) := bdX12_wordOf_28.2.2.2.2.2.1
theorem dX12_wordOf_38 : decode cX12_wordOf 38 = .ok (.iconst 3, 1) := bdX12_wordOf_28.2.2.2.2.2.2.1
theorem dX12_wordOf_39 : decode cX12_wordOf 39 = .ok (.ireturn, 1) := bdX12_wordOf_28.2.2.2.2.2.2.2.1
theorem dX12_wordOf_40 : decode cX12_wordOf 40 = .ok (.lload_n 0, 1) := bdX12_wordOf_28.2.2.2.2.2.2.2.2.1
theorem dX12_wordOf_41 : decode cX12_wordOf 41 = .ok (.ldc2_w 137, 3) := bdX12_wordOf_28.2.2.2.2.2.2.2.2.2.1
theorem dX12_wordOf_44 : decode cX12_wordOf 44 = .ok (.lcmp, 1) := bdX12_wordOf_28.2.2.2.2.2.2.2.2.2.2.1
theorem dX12_wordOf_45 : decode cX12_wordOf 45 = .ok (.ifCond .ne 5, 3) := bdX12_wordOf_28.2.2.2.2.2.2.2.2.2.2.2.1
theorem dX12_wordOf_48 : decode cX12_wordOf 48 = .ok (.iconst 4, 1) := bdX12_wordOf_28.2.2.2.2.2.2.2.2.2.2.2.2.1
theorem dX12_wordOf_49 : decode cX12_wordOf 49 = .ok (.ireturn, 1) := bdX12_wordOf_28.2.2.2.2.2.2.2.2.2.2.2.2.2.1
theorem dX12_wordOf_50 : decode cX12_wordOf 50 = .ok (.lload_n 0, 1) := bdX12_wordOf_28.2.2.2.2.2.2.2.2.2.2.2.2.2.2.1
theorem dX12_wordOf_51 : decode cX12_wordOf 51 = .ok (.ldc2_w 139, 3) := bdX12_wordOf_28.2.2.2.2.2.2.2.2.2.2.2.2.2.2.2
theorem bdX12_wordOf_54 : (decode cX12_wordOf 54 = .ok (.lcmp, 1)) ∧ (decode cX12_wordOf 55 = .ok (.ifCond .ne 5, 3)) ∧ (decode cX12_wordOf 58 = .ok (.iconst 5, 1)) ∧ (decode cX12_wordOf 59 = .ok (.ireturn, 1)) ∧ (decode cX12_wordOf 60 = .ok (.lload_n 0, 1)) ∧ (decode cX12_wordOf 61 = .ok (.ldc2_w 141, 3)) ∧ (decode cX12_wordOf 64 = .ok (.lcmp, 1)) ∧ (decode cX12_wordOf 65 = .ok (.ifCond .ne 6, 3)) ∧ (decode cX12_wordOf 68 = .ok (.bipush 6, 2)) ∧ (decode cX12_wordOf 70 = .ok (.ireturn, 1)) ∧ (decode cX12_wordOf 71 = .ok (.lload_n 0, 1)) ∧ (decode cX12_wordOf 72 = .ok (.ldc2_w 143, 3)) ∧ (decode cX12_wordOf 75 = .ok (.lcmp, 1)) ∧ (decode cX12_wordOf 76 = .ok (.ifCond .ne 6, 3)) ∧ (decode cX12_wordOf 79 = .ok (.bipush 7, 2)) ∧ (decode cX12_wordOf 81 = .ok (.ireturn, 1)) := by decide +kernel
theorem dX12_wordOf_54 : decode cX12_wordOf 54 = .ok (.lcmp, 1) := bdX12_wordOf_54.1
theorem dX12_wordOf_55 : decode cX12_wordOf 55 = .ok (.ifCond .ne 5, 3) := bdX12_wordOf_54.2.1
theorem dX12_wordOf_58 : decode cX12_wordOf 58 = .ok (.iconst 5, 1) := bdX12_wordOf_54.2.2.1
theorem dX12_wordOf_59 : decode cX12_wordOf 59 = .ok (.ireturn, 1) := bdX12_wordOf_54.2.2.2.1
theorem dX12_wordOf_60 : decode cX12_wordOf 60 = .ok (.lload_n 0, 1) := bdX12_wordOf_54.2.2.2.2.1
theorem dX12_wordOf_61 : decode cX12_wordOf 61 = .ok (.ldc2_w 141, 3) := bdX12_wordOf_54.2.2.2.2.2.1
theorem dX12_wordOf_64 : decode cX12_wordOf 64 = .ok (.lcmp, 1) := bdX12_wordOf_54.2.2.2.2.2.2.1
theorem dX12_wordOf_65 : decode cX12_wordOf 65 = .ok (.ifCond .ne 6, 3) := bdX12_wordOf_54.2.2.2.2.2.2.2.1
theorem dX12_wordOf_68 : decode cX12_wordOf 68 = .ok (.bipush 6, 2) := bdX12_wordOf_54.2.2.2.2.2.2.2.2.1
theorem dX12_wordOf_70 : decode cX12_wordOf 70 = .ok (.ireturn, 1) := bdX12_wordOf_54.2.2.2.2.2.2.2.2.2.1
theorem dX12_wordOf_71 : decode cX12_wordOf 71 = .ok (.lload_n 0, 1) := bdX12_wordOf_54.2.2.2.2.2.2.2.2.2.2.1
theorem dX12_wordOf_72 : decode cX12_wordOf 72 = .ok (.ldc2_w 143, 3) := bdX12_wordOf_54.2.2.2.2.2.2.2.2.2.2.2.1
theorem dX12_wordOf_75 : decode cX12_wordOf 75 = .ok (.lcmp, 1) := bdX12_wordOf_54.2.2.2.2.2.2.2.2.2.2.2.2.1
theorem dX12_wordOf_76 : decode cX12_wordOf 76 = .ok (.ifCond .ne 6, 3) := bdX12_wordOf_54.2.2.2.2.2.2.2.2.2.2.2.2.2.1
theorem dX12_wordOf_79 : decode cX12_wordOf 79 = .ok (.bipush 7, 2) := bdX12_wordOf_54.2.2.2.2.2.2.2.2.2.2.2.2.2.2.1
theorem dX12_wordOf_81 : decode cX12_wordOf 81 = .ok (.ireturn, 1) := bdX12_wordOf_54.2.2.2.2.2.2.2.2.2.2.2.2.2.2.2
theorem bdX12_wordOf_82 : (decode cX12_wordOf 82 = .ok (.lload_n 0, 1)) ∧ (decode cX12_wordOf 83 = .ok (.ldc2_w 145, 3)) ∧ (decode cX12_wordOf 86 = .ok (.lcmp, 1)) ∧ (decode cX12_wordOf 87 = .ok (.ifCond .ne 6, 3)) ∧ (decode cX12_wordOf 90 = .ok (.bipush 8, 2)) ∧ (decode cX12_wordOf 92 = .ok (.ireturn, 1)) ∧ (decode cX12_wordOf 93 = .ok (.lload_n 0, 1)) ∧ (decode cX12_wordOf 94 = .ok (.ldc2_w 147, 3)) ∧ (decode cX12_wordOf 97 = .ok (.lcmp, 1)) ∧ (decode cX12_wordOf 98 = .ok (.ifCond .ne 6, 3)) ∧ (decode cX12_wordOf 101 = .ok (.bipush 9, 2)) ∧ (decode cX12_wordOf 103 = .ok (.ireturn, 1)) ∧ (decode cX12_wordOf 104 = .ok (.lload_n 0, 1)) ∧ (decode cX12_wordOf 105 = .ok (.ldc2_w 149, 3)) ∧ (decode cX12_wordOf 108 = .ok (.lcmp, 1)) ∧ (decode cX12_wordOf 109 = .ok (.ifCond .ne 6, 3)) := by decide +kernel
theorem dX12_wordOf_82 : decode cX12_wordOf 82 = .ok (.lload_n 0, 1) := bdX12_wordOf_82.1
theorem dX12_wordOf_83 : decode cX12_wordOf 83 = .ok (.ldc2_w 145, 3) := bdX12_wordOf_82.2.1
theorem dX12_wordOf_86 : decode cX12_wordOf 86 = .ok (.lcmp, 1) := bdX12_wordOf_82.2.2.1
theorem dX12_wordOf_87 : decode cX12_wordOf 87 = .ok (.ifCond .ne 6, 3) := bdX12_wordOf_82.2.2.2.1
theorem dX12_wordOf_90 : decode cX12_wordOf 90 = .ok (.bipush 8, 2) := bdX12_wordOf_82.2.2.2.2.1
theorem dX12_wordOf_92 : decode cX12_wordOf 92 = .ok (.ireturn, 1) := bdX12_wordOf_82.2.2.2.2.2.1
theorem dX12_wordOf_93 : decode cX12_wordOf 93 = .ok (.lload_n 0, 1) := bdX12_wordOf_82.2.2.2.2.2.2.1
theorem dX12_wordOf_94 : decode cX12_wordOf 94 = .ok (.ldc2_w 147, 3) := bdX12_wordOf_82.2.2.2.2.2.2.2.1
theorem dX12_wordOf_97 : decode cX12_wordOf 97 = .ok (.lcmp, 1) := bdX12_wordOf_82.2.2.2.2.2.2.2.2.1
theorem dX12_wordOf_98 : decode cX12_wordOf 98 = .ok (.ifCond .ne 6, 3) := bdX12_wordOf_82.2.2.2.2.2.2.2.2.2.1
theorem dX12_wordOf_101 : decode cX12_wordOf 101 = .ok (.bipush 9, 2) := bdX12_wordOf_82.2.2.2.2.2.2.2.2.2.2.1
theorem dX12_wordOf_103 : decode cX12_wordOf 103 = .ok (.ireturn, 1) := bdX12_wordOf_82.2.2.2.2.2.2.2.2.2.2.2.1
theorem dX12_wordOf_104 : decode cX12_wordOf 104 = .ok (.lload_n 0, 1) := bdX12_wordOf_82.2.2.2.2.2.2.2.2.2.2.2.2.1
theorem dX12_wordOf_105 : decode cX12_wordOf 105 = .ok (.ldc2_w 149, 3) := bdX12_wordOf_82.2.2.2.2.2.2.2.2.2.2.2.2.2.1
theorem dX12_wordOf_108 : decode cX12_wordOf 108 = .ok (.lcmp, 1) := bdX12_wordOf_82.2.2.2.2.2.2.2.2.2.2.2.2.2.2.1
theorem dX12_wordOf_109 : decode cX12_wordOf 109 = .ok (.ifCond .ne 6, 3) := bdX12_wordOf_82.2.2.2.2.2.2.2.2.2.2.2.2.2.2.2
theorem bdX12_wordOf_112 : (decode cX12_wordOf 112 = .ok (.bipush 10, 2)) ∧ (decode cX12_wordOf 114 = .ok (.ireturn, 1)) ∧ (decode cX12_wordOf 115 = .ok (.lload_n 0, 1)) ∧ (decode cX12_wordOf 116 = .ok (.ldc2_w 151, 3)) ∧ (decode cX12_wordOf 119 = .ok (.lcmp, 1)) ∧ (decode cX12_wordOf 120 = .ok (.ifCond .ne 6, 3)) ∧ (decode cX12_wordOf 123 = .ok (.bipush 11, 2)) ∧ (decode cX12_wordOf 125 = .ok (.ireturn, 1)) ∧ (decode cX12_wordOf 126 = .ok (.lload_n 0, 1)) ∧ (decode cX12_wordOf 127 = .ok (.ldc2_w 153, 3)) ∧ (decode cX12_wordOf 130 = .ok (.lcmp, 1)) ∧ (decode cX12_wordOf 131 = .ok (.ifCond .ne 6, 3)) ∧ (decode cX12_wordOf 134 = .ok (.bipush 12, 2)) ∧ (decode cX12_wordOf 136 = .ok (.ireturn, 1)) ∧ (decode cX12_wordOf 137 = .ok (.lload_n 0, 1)) ∧ (decode cX12_wordOf 138 = .ok (.ldc2_w 155, 3)) := by decide +kernel
theorem dX12_wordOf_112 : decode cX12_wordOf 112 = .ok (.bipush 10, 2) := bdX12_wordOf_112.1
theorem dX12_wordOf_114 : decode cX12_wordOf 114 = .ok (.ireturn, 1) := bdX12_wordOf_112.2.1
theorem dX12_wordOf_115 : decode cX12_wordOf 115 = .ok (.lload_n 0, 1) := bdX12_wordOf_112.2.2.1
theorem dX12_wordOf_116 : decode cX12_wordOf 116 = .ok (.ldc2_w 151, 3) := bdX12_wordOf_112.2.2.2.1
theorem dX12_wordOf_119 : decode cX12_wordOf 119 = .ok (.lcmp, 1) := bdX12_wordOf_112.2.2.2.2.1
theorem dX12_wordOf_120 : decode cX12_wordOf 120 = .ok (.ifCond .ne 6, 3) := bdX12_wordOf_112.2.2.2.2.2.1
theorem dX12_wordOf_123 : decode cX12_wordOf 123 = .ok (.bipush 11, 2) := bdX12_wordOf_112.2.2.2.2.2.2.1
theorem dX12_wordOf_125 : decode cX12_wordOf 125 = .ok (.ireturn, 1) := bdX12_wordOf_112.2.2.2.2.2.2.2.1
theorem dX12_wordOf_126 : decode cX12_wordOf 126 = .ok (.lload_n 0, 1) := bdX12_wordOf_112.2.2.2.2.2.2.2.2.1
theorem dX12_wordOf_127 : decode cX12_wordOf 127 = .ok (.ldc2_w 153, 3) := bdX12_wordOf_112.2.2.2.2.2.2.2.2.2.1
theorem dX12_wordOf_130 : decode cX12_wordOf 130 = .ok (.lcmp, 1) := bdX12_wordOf_112.2.2.2.2.2.2.2.2.2.2.1
theorem dX12_wordOf_131 : decode cX12_wordOf 131 = .ok (.ifCond .ne 6, 3) := bdX12_wordOf_112.2.2.2.2.2.2.2.2.2.2.2.1
theorem dX12_wordOf_134 : decode cX12_wordOf 134 = .ok (.bipush 12, 2) := bdX12_wordOf_112.2.2.2.2.2.2.2.2.2.2.2.2.1
theorem dX12_wordOf_136 : decode cX12_wordOf 136 = .ok (.ireturn, 1) := bdX12_wordOf_112.2.2.2.2.2.2.2.2.2.2.2.2.2.1
theorem dX12_wordOf_137 : decode cX12_wordOf 137 = .ok (.lload_n 0, 1) := bdX12_wordOf_112.2.2.2.2.2.2.2.2.2.2.2.2.2.2.1
theorem dX12_wordOf_138 : decode cX12_wordOf 138 = .ok (.ldc2_w 155, 3) := bdX12_wordOf_112.2.2.2.2.2.2.2.2.2.2.2.2.2.2.2
theorem bdX12_wordOf_141 : (decode cX12_wordOf 141 = .ok (.lcmp, 1)) ∧ (decode cX12_wordOf 142 = .ok (.ifCond .ne 6, 3)) ∧ (decode cX12_wordOf 145 = .ok (.bipush 13, 2)) ∧ (decode cX12_wordOf 147 = .ok (.ireturn, 1)) ∧ (decode cX12_wordOf 148 = .ok (.iconst (-1), 1)) ∧ (decode cX12_wordOf 149 = .ok (.ireturn, 1)) := by decide +kernel
theorem dX12_wordOf_141 : decode cX12_wordOf 141 = .ok (.lcmp, 1) := bdX12_wordOf_141.1
theorem dX12_wordOf_142 : decode cX12_wordOf 142 = .ok (.ifCond .ne 6, 3) := bdX12_wordOf_141.2.1
theorem dX12_wordOf_145 : decode cX12_wordOf 145 = .ok (.bipush 13, 2) := bdX12_wordOf_141.2.2.1
theorem dX12_wordOf_147 : decode cX12_wordOf 147 = .ok (.ireturn, 1) := bdX12_wordOf_141.2.2.2.1
theorem dX12_wordOf_148 : decode cX12_wordOf 148 = .ok (.iconst (-1), 1) := bdX12_wordOf_141.2.2.2.2.1
theorem dX12_wordOf_149 : decode cX12_wordOf 149 = .ok (.ireturn, 1) := bdX12_wordOf_141.2.2.2.2.2
theorem bdX12_next_0 : (decode cX12_next 0 = .ok (.aload_n 0, 1)) ∧ (decode cX12_next 1 = .ok (.getfield 157, 3)) ∧ (decode cX12_next 4 = .ok (.aload_n 0, 1)) ∧ (decode cX12_next 5 = .ok (.getfield 160, 3)) ∧ (decode cX12_next 8 = .ok (.if_icmp .ge 44, 3)) ∧ (decode cX12_next 11 = .ok (.aload_n 0, 1)) ∧ (decode cX12_next 12 = .ok (.getfield 19, 3)) ∧ (decode cX12_next 15 = .ok (.aload_n 0, 1)) ∧ (decode cX12_next 16 = .ok (.getfield 157, 3)) ∧ (decode cX12_next 19 = .ok (.baload, 1)) ∧ (decode cX12_next 20 = .ok (.bipush 32, 2)) ∧ (decode cX12_next 22 = .ok (.if_icmp .eq 17, 3)) ∧ (decode cX12_next 25 = .ok (.aload_n 0, 1)) ∧ (decode cX12_next 26 = .ok (.getfield 19, 3)) ∧ (decode cX12_next 29 = .ok (.aload_n 0, 1)) ∧ (decode cX12_next 30 = .ok (.getfield 157, 3)) := by decide +kernel
theorem dX12_next_0 : decode cX12_next 0 = .ok (.aload_n 0, 1) := bdX12_next_0.1
theorem dX12_next_1 : decode cX12_next 1 = .ok (.getfield 157, 3) := bdX12_next_0.2.1
theorem dX12_next_4 : decode cX12_next 4 = .ok (.aload_n 0, 1) := bdX12_next_0.2.2.1
theorem dX12_next_5 : decode cX12_next 5 = .ok (.getfield 160, 3) := bdX12_next_0.2.2.2.1
theorem dX12_next_8 : decode cX12_next 8 = .ok (.if_icmp .ge 44, 3) := bdX12_next_0.2.2.2.2.1
theorem dX12_next_11 : decode cX12_next 11 = .ok (.aload_n 0, 1) := bdX12_next_0.2.2.2.2.2.1
theorem dX12_next_12 : decode cX12_next 12 = .ok (.getfield 19, 3) := bdX12_next_0.2.2.2.2.2.2.1
theorem dX12_next_15 : decode cX12_next 15 = .ok (.aload_n 0, 1) := bdX12_next_0.2.2.2.2.2.2.2.1
theorem dX12_next_16 : decode cX12_next 16 = .ok (.getfield 157, 3) := bdX12_next_0.2.2.2.2.2.2.2.2.1
theorem dX12_next_19 : decode cX12_next 19 = .ok (.baload, 1) := bdX12_next_0.2.2.2.2.2.2.2.2.2.1
theorem dX12_next_20 : decode cX12_next 20 = .ok (.bipush 32, 2) := bdX12_next_0.2.2.2.2.2.2.2.2.2.2.1
theorem dX12_next_22 : decode cX12_next 22 = .ok (.if_icmp .eq 17, 3) := bdX12_next_0.2.2.2.2.2.2.2.2.2.2.2.1
theorem dX12_next_25 : decode cX12_next 25 = .ok (.aload_n 0, 1) := bdX12_next_0.2.2.2.2.2.2.2.2.2.2.2.2.1
theorem dX12_next_26 : decode cX12_next 26 = .ok (.getfield 19, 3) := bdX12_next_0.2.2.2.2.2.2.2.2.2.2.2.2.2.1
theorem dX12_next_29 : decode cX12_next 29 = .ok (.aload_n 0, 1) := bdX12_next_0.2.2.2.2.2.2.2.2.2.2.2.2.2.2.1
theorem dX12_next_30 : decode cX12_next 30 = .ok (.getfield 157, 3) := bdX12_next_0.2.2.2.2.2.2.2.2.2.2.2.2.2.2.2
theorem bdX12_next_33 : (decode cX12_next 33 = .ok (.baload, 1)) ∧ (decode cX12_next 34 = .ok (.bipush 10, 2)) ∧ (decode cX12_next 36 = .ok (.if_icmp .ne 16, 3)) ∧ (decode cX12_next 39 = .ok (.aload_n 0, 1)) ∧ (decode cX12_next 40 = .ok (.dup, 1)) ∧ (decode cX12_next 41 = .ok (.getfield 157, 3)) ∧ (decode cX12_next 44 = .ok (.iconst 1, 1)) ∧ (decode cX12_next 45 = .ok (.iadd, 1)) ∧ (decode cX12_next 46 = .ok (.putfield 157, 3)) ∧ (decode cX12_next 49 = .ok (.goto (-49), 3)) ∧ (decode cX12_next 52 = .ok (.aload_n 0, 1)) ∧ (decode cX12_next 53 = .ok (.aload_n 0, 1)) ∧ (decode cX12_next 54 = .ok (.getfield 157, 3)) ∧ (decode cX12_next 57 = .ok (.putfield 163, 3)) ∧ (decode cX12_next 60 = .ok (.aload_n 0, 1)) ∧ (decode cX12_next 61 = .ok (.getfield 157, 3)) := by decide +kernel
theorem dX12_next_33 : decode cX12_next 33 = .ok (.baload, 1) := bdX12_next_33.1
theorem dX12_next_34 : decode cX12_next 34 = .ok (.bipush 10, 2) := bdX12_next_33.2.1
theorem dX12_next_36 : decode cX12_next 36 = .ok (.if_icmp .ne 16, 3) := bdX12_next_33.2.2.1
theorem dX12_next_39 : decode cX12_next 39 = .ok (.aload_n 0, 1) := bdX12_next_33.2.2.2.1
theorem dX12_next_40 : decode cX12_next 40 = .ok (.dup, 1) := bdX12_next_33.2.2.2.2.1
theorem dX12_next_41 : decode cX12_next 41 = .ok (.getfield 157, 3) := bdX12_next_33.2.2.2.2.2.1
theorem dX12_next_44 : decode cX12_next 44 = .ok (.iconst 1, 1) := bdX12_next_33.2.2.2.2.2.2.1
theorem dX12_next_45 : decode cX12_next 45 = .ok (.iadd, 1) := bdX12_next_33.2.2.2.2.2.2.2.1
theorem dX12_next_46 : decode cX12_next 46 = .ok (.putfield 157, 3) := bdX12_next_33.2.2.2.2.2.2.2.2.1
theorem dX12_next_49 : decode cX12_next 49 = .ok (.goto (-49), 3) := bdX12_next_33.2.2.2.2.2.2.2.2.2.1
theorem dX12_next_52 : decode cX12_next 52 = .ok (.aload_n 0, 1) := bdX12_next_33.2.2.2.2.2.2.2.2.2.2.1
theorem dX12_next_53 : decode cX12_next 53 = .ok (.aload_n 0, 1) := bdX12_next_33.2.2.2.2.2.2.2.2.2.2.2.1
theorem dX12_next_54 : decode cX12_next 54 = .ok (.getfield 157, 3) := bdX12_next_33.2.2.2.2.2.2.2.2.2.2.2.2.1
theorem dX12_next_57 : decode cX12_next 57 = .ok (.putfield 163, 3) := bdX12_next_33.2.2.2.2.2.2.2.2.2.2.2.2.2.1
theorem dX12_next_60 : decode cX12_next 60 = .ok (.aload_n 0, 1) := bdX12_next_33.2.2.2.2.2.2.2.2.2.2.2.2.2.2.1
theorem dX12_next_61 : decode cX12_next 61 = .ok (.getfield 157, 3) := bdX12_next_33.2.2.2.2.2.2.2.2.2.2.2.2.2.2.2
theorem bdX12_next_64 : (decode cX12_next 64 = .ok (.aload_n 0, 1)) ∧ (decode cX12_next 65 = .ok (.getfield 160, 3)) ∧ (decode cX12_next 68 = .ok (.if_icmp .ne 9, 3)) ∧ (decode cX12_next 71 = .ok (.aload_n 0, 1)) ∧ (decode cX12_next 72 = .ok (.iconst 0, 1)) ∧ (decode cX12_next 73 = .ok (.putfield 166, 3)) ∧ (decode cX12_next 76 = .ok (.return_, 1)) ∧ (decode cX12_next 77 = .ok (.aload_n 0, 1)) ∧ (decode cX12_next 78 = .ok (.getfield 19, 3)) ∧ (decode cX12_next 81 = .ok (.aload_n 0, 1)) ∧ (decode cX12_next 82 = .ok (.getfield 157, 3)) ∧ (decode cX12_next 85 = .ok (.baload, 1)) ∧ (decode cX12_next 86 = .ok (.istore_n 1, 1)) ∧ (decode cX12_next 87 = .ok (.iload_n 1, 1)) ∧ (decode cX12_next 88 = .ok (.invokestatic 169, 3)) ∧ (decode cX12_next 91 = .ok (.ifCond .eq 120, 3)) := by decide +kernel
theorem dX12_next_64 : decode cX12_next 64 = .ok (.aload_n 0, 1) := bdX12_next_64.1
theorem dX12_next_65 : decode cX12_next 65 = .ok (.getfield 160, 3) := bdX12_next_64.2.1
theorem dX12_next_68 : decode cX12_next 68 = .ok (.if_icmp .ne 9, 3) := bdX12_next_64.2.2.1
theorem dX12_next_71 : decode cX12_next 71 = .ok (.aload_n 0, 1) := bdX12_next_64.2.2.2.1
theorem dX12_next_72 : decode cX12_next 72 = .ok (.iconst 0, 1) := bdX12_next_64.2.2.2.2.1
theorem dX12_next_73 : decode cX12_next 73 = .ok (.putfield 166, 3) := bdX12_next_64.2.2.2.2.2.1
theorem dX12_next_76 : decode cX12_next 76 = .ok (.return_, 1) := bdX12_next_64.2.2.2.2.2.2.1
theorem dX12_next_77 : decode cX12_next 77 = .ok (.aload_n 0, 1) := bdX12_next_64.2.2.2.2.2.2.2.1
theorem dX12_next_78 : decode cX12_next 78 = .ok (.getfield 19, 3) := bdX12_next_64.2.2.2.2.2.2.2.2.1
theorem dX12_next_81 : decode cX12_next 81 = .ok (.aload_n 0, 1) := bdX12_next_64.2.2.2.2.2.2.2.2.2.1
theorem dX12_next_82 : decode cX12_next 82 = .ok (.getfield 157, 3) := bdX12_next_64.2.2.2.2.2.2.2.2.2.2.1
theorem dX12_next_85 : decode cX12_next 85 = .ok (.baload, 1) := bdX12_next_64.2.2.2.2.2.2.2.2.2.2.2.1
theorem dX12_next_86 : decode cX12_next 86 = .ok (.istore_n 1, 1) := bdX12_next_64.2.2.2.2.2.2.2.2.2.2.2.2.1
theorem dX12_next_87 : decode cX12_next 87 = .ok (.iload_n 1, 1) := bdX12_next_64.2.2.2.2.2.2.2.2.2.2.2.2.2.1
theorem dX12_next_88 : decode cX12_next 88 = .ok (.invokestatic 169, 3) := bdX12_next_64.2.2.2.2.2.2.2.2.2.2.2.2.2.2.1
theorem dX12_next_91 : decode cX12_next 91 = .ok (.ifCond .eq 120, 3) := bdX12_next_64.2.2.2.2.2.2.2.2.2.2.2.2.2.2.2
theorem bdX12_next_94 : (decode cX12_next 94 = .ok (.lconst 0, 1)) ∧ (decode cX12_next 95 = .ok (.lstore_n 2, 1)) ∧ (decode cX12_next 96 = .ok (.iconst 0, 1)) ∧ (decode cX12_next 97 = .ok (.istore 4, 2)) ∧ (decode cX12_next 99 = .ok (.aload_n 0, 1)) ∧ (decode cX12_next 100 = .ok (.getfield 157, 3)) ∧ (decode cX12_next 103 = .ok (.aload_n 0, 1)) ∧ (decode cX12_next 104 = .ok (.getfield 160, 3)) ∧ (decode cX12_next 107 = .ok (.if_icmp .ge 66, 3)) ∧ (decode cX12_next 110 = .ok (.aload_n 0, 1)) ∧ (decode cX12_next 111 = .ok (.getfield 19, 3)) ∧ (decode cX12_next 114 = .ok (.aload_n 0, 1)) ∧ (decode cX12_next 115 = .ok (.getfield 157, 3)) ∧ (decode cX12_next 118 = .ok (.baload, 1)) ∧ (decode cX12_next 119 = .ok (.invokestatic 169, 3)) ∧ (decode cX12_next 122 = .ok (.ifCond .eq 51, 3)) := by decide +kernel
theorem dX12_next_94 : decode cX12_next 94 = .ok (.lconst 0, 1) := bdX12_next_94.1
theorem dX12_next_95 : decode cX12_next 95 = .ok (.lstore_n 2, 1) := bdX12_next_94.2.1
theorem dX12_next_96 : decode cX12_next 96 = .ok (.iconst 0, 1) := bdX12_next_94.2.2.1
theorem dX12_next_97 : decode cX12_next 97 = .ok (.istore 4, 2) := bdX12_next_94.2.2.2.1
theorem dX12_next_99 : decode cX12_next 99 = .ok (.aload_n 0, 1) := bdX12_next_94.2.2.2.2.1
theorem dX12_next_100 : decode cX12_next 100 = .ok (.getfield 157, 3) := bdX12_next_94.2.2.2.2.2.1
theorem dX12_next_103 : decode cX12_next 103 = .ok (.aload_n 0, 1) := bdX12_next_94.2.2.2.2.2.2.1
theorem dX12_next_104 : decode cX12_next 104 = .ok (.getfield 160, 3) := bdX12_next_94.2.2.2.2.2.2.2.1
theorem dX12_next_107 : decode cX12_next 107 = .ok (.if_icmp .ge 66, 3) := bdX12_next_94.2.2.2.2.2.2.2.2.1
theorem dX12_next_110 : decode cX12_next 110 = .ok (.aload_n 0, 1) := bdX12_next_94.2.2.2.2.2.2.2.2.2.1
theorem dX12_next_111 : decode cX12_next 111 = .ok (.getfield 19, 3) := bdX12_next_94.2.2.2.2.2.2.2.2.2.2.1
theorem dX12_next_114 : decode cX12_next 114 = .ok (.aload_n 0, 1) := bdX12_next_94.2.2.2.2.2.2.2.2.2.2.2.1
theorem dX12_next_115 : decode cX12_next 115 = .ok (.getfield 157, 3) := bdX12_next_94.2.2.2.2.2.2.2.2.2.2.2.2.1
theorem dX12_next_118 : decode cX12_next 118 = .ok (.baload, 1) := bdX12_next_94.2.2.2.2.2.2.2.2.2.2.2.2.2.1
theorem dX12_next_119 : decode cX12_next 119 = .ok (.invokestatic 169, 3) := bdX12_next_94.2.2.2.2.2.2.2.2.2.2.2.2.2.2.1
theorem dX12_next_122 : decode cX12_next 122 = .ok (.ifCond .eq 51, 3) := bdX12_next_94.2.2.2.2.2.2.2.2.2.2.2.2.2.2.2
theorem bdX12_next_125 : (decode cX12_next 125 = .ok (.iload 4, 2)) ∧ (decode cX12_next 127 = .ok (.bipush 8, 2)) ∧ (decode cX12_next 129 = .ok (.if_icmp .ge 26, 3)) ∧ (decode cX12_next 132 = .ok (.ldc2_w 172, 3)) ∧ (decode cX12_next 135 = .ok (.lload_n 2, 1)) ∧ (decode cX12_next 136 = .ok (.lmul, 1)) ∧ (decode cX12_next 137 = .ok (.aload_n 0, 1)) ∧ (decode cX12_next 138 = .ok (.getfield 19, 3)) ∧ (decode cX12_next 141 = .ok (.aload_n 0, 1)) ∧ (decode cX12_next 142 = .ok (.getfield 157, 3)) ∧ (decode cX12_next 145 = .ok (.baload, 1)) ∧ (decode cX12_next 146 = .ok (.i2l, 1)) ∧ (decode cX12_next 147 = .ok (.ladd, 1)) ∧ (decode cX12_next 148 = .ok (.ldc2_w 172, 3)) ∧ (decode cX12_next 151 = .ok (.lsub, 1)) ∧ (decode cX12_next 152 = .ok (.goto 4, 3)) := by decide +kernel
theorem dX12_next_125 : decode cX12_next 125 = .ok (.iload 4, 2) := bdX12_next_125.1
theorem dX12_next_127 : decode cX12_next 127 = .ok (.bipush 8, 2) := bdX12_next_125.2.1
theorem dX12_next_129 : decode cX12_next 129 = .ok (.if_icmp .ge 26, 3) := bdX12_next_125.2.2.1
theorem dX12_next_132 : decode cX12_next 132 = .ok (.ldc2_w 172, 3) := bdX12_next_125.2.2.2.1
theorem dX12_next_135 : decode cX12_next 135 = .ok (.lload_n 2, 1) := bdX12_next_125.2.2.2.2.1
theorem dX12_next_136 : decode cX12_next 136 = .ok (.lmul, 1) := bdX12_next_125.2.2.2.2.2.1
theorem dX12_next_137 : decode cX12_next 137 = .ok (.aload_n 0, 1) := bdX12_next_125.2.2.2.2.2.2.1
theorem dX12_next_138 : decode cX12_next 138 = .ok (.getfield 19, 3) := bdX12_next_125.2.2.2.2.2.2.2.1
theorem dX12_next_141 : decode cX12_next 141 = .ok (.aload_n 0, 1) := bdX12_next_125.2.2.2.2.2.2.2.2.1
theorem dX12_next_142 : decode cX12_next 142 = .ok (.getfield 157, 3) := bdX12_next_125.2.2.2.2.2.2.2.2.2.1
theorem dX12_next_145 : decode cX12_next 145 = .ok (.baload, 1) := bdX12_next_125.2.2.2.2.2.2.2.2.2.2.1
theorem dX12_next_146 : decode cX12_next 146 = .ok (.i2l, 1) := bdX12_next_125.2.2.2.2.2.2.2.2.2.2.2.1
theorem dX12_next_147 : decode cX12_next 147 = .ok (.ladd, 1) := bdX12_next_125.2.2.2.2.2.2.2.2.2.2.2.2.1
theorem dX12_next_148 : decode cX12_next 148 = .ok (.ldc2_w 172, 3) := bdX12_next_125.2.2.2.2.2.2.2.2.2.2.2.2.2.1
theorem dX12_next_151 : decode cX12_next 151 = .ok (.lsub, 1) := bdX12_next_125.2.2.2.2.2.2.2.2.2.2.2.2.2.2.1
theorem dX12_next_152 : decode cX12_next 152 = .ok (.goto 4, 3) := bdX12_next_125.2.2.2.2.2.2.2.2.2.2.2.2.2.2.2
theorem bdX12_next_155 : (decode cX12_next 155 = .ok (.lload_n 2, 1)) ∧ (decode cX12_next 156 = .ok (.lstore_n 2, 1)) ∧ (decode cX12_next 157 = .ok (.iinc 4 1, 3)) ∧ (decode cX12_next 160 = .ok (.aload_n 0, 1)) ∧ (decode cX12_next 161 = .ok (.dup, 1)) ∧ (decode cX12_next 162 = .ok (.getfield 157, 3)) ∧ (decode cX12_next 165 = .ok (.iconst 1, 1)) ∧ (decode cX12_next 166 = .ok (.iadd, 1)) ∧ (decode cX12_next 167 = .ok (.putfield 157, 3)) ∧ (decode cX12_next 170 = .ok (.goto (-71), 3)) ∧ (decode cX12_next 173 = .ok (.aload_n 0, 1)) ∧ (decode cX12_next 174 = .ok (.iload 4, 2)) ∧ (decode cX12_next 176 = .ok (.bipush 7, 2)) ∧ (decode cX12_next 178 = .ok (.if_icmp .le 7, 3)) ∧ (decode cX12_next 181 = .ok (.iconst (-1), 1)) ∧ (decode cX12_next 182 = .ok (.goto 7, 3)) := by decide +kernel
theorem dX12_next_155 : decode cX12_next 155 = .ok (.lload_n 2, 1) := bdX12_next_155.1
theorem dX12_next_156 : decode cX12_next 156 = .ok (.lstore_n 2, 1) := bdX12_next_155.2.1
theorem dX12_next_157 : decode cX12_next 157 = .ok (.iinc 4 1, 3) := bdX12_next_155.2.2.1
theorem dX12_next_160 : decode cX12_next 160 = .ok (.aload_n 0, 1) := bdX12_next_155.2.2.2.1
theorem dX12_next_161 : decode cX12_next 161 = .ok (.dup, 1) := bdX12_next_155.2.2.2.2.1
theorem dX12_next_162 : decode cX12_next 162 = .ok (.getfield 157, 3) := bdX12_next_155.2.2.2.2.2.1
theorem dX12_next_165 : decode cX12_next 165 = .ok (.iconst 1, 1) := bdX12_next_155.2.2.2.2.2.2.1
theorem dX12_next_166 : decode cX12_next 166 = .ok (.iadd, 1) := bdX12_next_155.2.2.2.2.2.2.2.1
theorem dX12_next_167 : decode cX12_next 167 = .ok (.putfield 157, 3) := bdX12_next_155.2.2.2.2.2.2.2.2.1
theorem dX12_next_170 : decode cX12_next 170 = .ok (.goto (-71), 3) := bdX12_next_155.2.2.2.2.2.2.2.2.2.1
theorem dX12_next_173 : decode cX12_next 173 = .ok (.aload_n 0, 1) := bdX12_next_155.2.2.2.2.2.2.2.2.2.2.1
theorem dX12_next_174 : decode cX12_next 174 = .ok (.iload 4, 2) := bdX12_next_155.2.2.2.2.2.2.2.2.2.2.2.1
theorem dX12_next_176 : decode cX12_next 176 = .ok (.bipush 7, 2) := bdX12_next_155.2.2.2.2.2.2.2.2.2.2.2.2.1
theorem dX12_next_178 : decode cX12_next 178 = .ok (.if_icmp .le 7, 3) := bdX12_next_155.2.2.2.2.2.2.2.2.2.2.2.2.2.1
theorem dX12_next_181 : decode cX12_next 181 = .ok (.iconst (-1), 1) := bdX12_next_155.2.2.2.2.2.2.2.2.2.2.2.2.2.2.1
theorem dX12_next_182 : decode cX12_next 182 = .ok (.goto 7, 3) := bdX12_next_155.2.2.2.2.2.2.2.2.2.2.2.2.2.2.2
theorem bdX12_next_185 : (decode cX12_next 185 = .ok (.lload_n 2, 1)) ∧ (decode cX12_next 186 = .ok (.invokestatic 174, 3)) ∧ (decode cX12_next 189 = .ok (.putfield 178, 3)) ∧ (decode cX12_next 192 = .ok (.aload_n 0, 1)) ∧ (decode cX12_next 193 = .ok (.aload_n 0, 1)) ∧ (decode cX12_next 194 = .ok (.getfield 178, 3)) ∧ (decode cX12_next 197 = .ok (.ifCond .ge 7, 3)) ∧ (decode cX12_next 200 = .ok (.iconst 4, 1)) ∧ (decode cX12_next 201 = .ok (.goto 4, 3)) ∧ (decode cX12_next 204 = .ok (.iconst 1, 1)) ∧ (decode cX12_next 205 = .ok (.putfield 166, 3)) ∧ (decode cX12_next 208 = .ok (.goto 231, 3)) ∧ (decode cX12_next 211 = .ok (.iload_n 1, 1)) ∧ (decode cX12_next 212 = .ok (.bipush 48, 2)) ∧ (decode cX12_next 214 = .ok (.bipush 57, 2)) ∧ (decode cX12_next 216 = .ok (.invokestatic 95, 3)) := by decide +kernel
theorem dX12_next_185 : decode cX12_next 185 = .ok (.lload_n 2, 1) := bdX12_next_185.1
theorem dX12_next_186 : decode cX12_next 186 = .ok (.invokestatic 174, 3) := bdX12_next_185.2.1
theorem dX12_next_189 : decode cX12_next 189 = .ok (.putfield 178, 3) := bdX12_next_185.2.2.1
theorem dX12_next_192 : decode cX12_next 192 = .ok (.aload_n 0, 1) := bdX12_next_185.2.2.2.1
theorem dX12_next_193 : decode cX12_next 193 = .ok (.aload_n 0, 1) := bdX12_next_185.2.2.2.2.1
theorem dX12_next_194 : decode cX12_next 194 = .ok (.getfield 178, 3) := bdX12_next_185.2.2.2.2.2.1
theorem dX12_next_197 : decode cX12_next 197 = .ok (.ifCond .ge 7, 3) := bdX12_next_185.2.2.2.2.2.2.1
theorem dX12_next_200 : decode cX12_next 200 = .ok (.iconst 4, 1) := bdX12_next_185.2.2.2.2.2.2.2.1
theorem dX12_next_201 : decode cX12_next 201 = .ok (.goto 4, 3) := bdX12_next_185.2.2.2.2.2.2.2.2.1
theorem dX12_next_204 : decode cX12_next 204 = .ok (.iconst 1, 1) := bdX12_next_185.2.2.2.2.2.2.2.2.2.1
theorem dX12_next_205 : decode cX12_next 205 = .ok (.putfield 166, 3) := bdX12_next_185.2.2.2.2.2.2.2.2.2.2.1
theorem dX12_next_208 : decode cX12_next 208 = .ok (.goto 231, 3) := bdX12_next_185.2.2.2.2.2.2.2.2.2.2.2.1
theorem dX12_next_211 : decode cX12_next 211 = .ok (.iload_n 1, 1) := bdX12_next_185.2.2.2.2.2.2.2.2.2.2.2.2.1
theorem dX12_next_212 : decode cX12_next 212 = .ok (.bipush 48, 2) := bdX12_next_185.2.2.2.2.2.2.2.2.2.2.2.2.2.1
theorem dX12_next_214 : decode cX12_next 214 = .ok (.bipush 57, 2) := bdX12_next_185.2.2.2.2.2.2.2.2.2.2.2.2.2.2.1
theorem dX12_next_216 : decode cX12_next 216 = .ok (.invokestatic 95, 3) := bdX12_next_185.2.2.2.2.2.2.2.2.2.2.2.2.2.2.2
theorem bdX12_next_219 : (decode cX12_next 219 = .ok (.ifCond .eq 96, 3)) ∧ (decode cX12_next 222 = .ok (.aload_n 0, 1)) ∧ (decode cX12_next 223 = .ok (.iconst 2, 1)) ∧ (decode cX12_next 224 = .ok (.putfield 166, 3)) ∧ (decode cX12_next 227 = .ok (.aload_n 0, 1)) ∧ (decode cX12_next 228 = .ok (.iconst 0, 1)) ∧ (decode cX12_next 229 = .ok (.putfield 178, 3)) ∧ (decode cX12_next 232 = .ok (.aload_n 0, 1)) ∧ (decode cX12_next 233 = .ok (.getfield 157, 3)) ∧ (decode cX12_next 236 = .ok (.aload_n 0, 1)) ∧ (decode cX12_next 237 = .ok (.getfield 160, 3)) ∧ (decode cX12_next 240 = .ok (.if_icmp .ge 199, 3)) ∧ (decode cX12_next 243 = .ok (.aload_n 0, 1)) ∧ (decode cX12_next 244 = .ok (.getfield 19, 3)) ∧ (decode cX12_next 247 = .ok (.aload_n 0, 1)) ∧ (decode cX12_next 248 = .ok (.getfield 157, 3)) := by decide +kernel
theorem dX12_next_219 : decode cX12_next 219 = .ok (.ifCond .eq 96, 3) := bdX12_next_219.1
theorem dX12_next_222 : decode cX12_next 222 = .ok (.aload_n 0, 1) := bdX12_next_219.2.1
theorem dX12_next_223 : decode cX12_next 223 = .ok (.iconst 2, 1) := bdX12_next_219.2.2.1
theorem dX12_next_224 : decode cX12_next 224 = .ok (.putfield 166, 3) := bdX12_next_219.2.2.2.1
theorem dX12_next_227 : decode cX12_next 227 = .ok (.aload_n 0, 1) := bdX12_next_219.2.2.2.2.1
theorem dX12_next_228 : decode cX12_next 228 = .ok (.iconst 0, 1) := bdX12_next_219.2.2.2.2.2.1
theorem dX12_next_229 : decode cX12_next 229 = .ok (.putfield 178, 3) := bdX12_next_219.2.2.2.2.2.2.1
theorem dX12_next_232 : decode cX12_next 232 = .ok (.aload_n 0, 1) := bdX12_next_219.2.2.2.2.2.2.2.1
theorem dX12_next_233 : decode cX12_next 233 = .ok (.getfield 157, 3) := bdX12_next_219.2.2.2.2.2.2.2.2.1
theorem dX12_next_236 : decode cX12_next 236 = .ok (.aload_n 0, 1) := bdX12_next_219.2.2.2.2.2.2.2.2.2.1
theorem dX12_next_237 : decode cX12_next 237 = .ok (.getfield 160, 3) := bdX12_next_219.2.2.2.2.2.2.2.2.2.2.1
theorem dX12_next_240 : decode cX12_next 240 = .ok (.if_icmp .ge 199, 3) := bdX12_next_219.2.2.2.2.2.2.2.2.2.2.2.1
theorem dX12_next_243 : decode cX12_next 243 = .ok (.aload_n 0, 1) := bdX12_next_219.2.2.2.2.2.2.2.2.2.2.2.2.1
theorem dX12_next_244 : decode cX12_next 244 = .ok (.getfield 19, 3) := bdX12_next_219.2.2.2.2.2.2.2.2.2.2.2.2.2.1
theorem dX12_next_247 : decode cX12_next 247 = .ok (.aload_n 0, 1) := bdX12_next_219.2.2.2.2.2.2.2.2.2.2.2.2.2.2.1
theorem dX12_next_248 : decode cX12_next 248 = .ok (.getfield 157, 3) := bdX12_next_219.2.2.2.2.2.2.2.2.2.2.2.2.2.2.2
theorem bdX12_next_251 : (decode cX12_next 251 = .ok (.baload, 1)) ∧ (decode cX12_next 252 = .ok (.bipush 48, 2)) ∧ (decode cX12_next 254 = .ok (.bipush 57, 2)) ∧ (decode cX12_next 256 = .ok (.invokestatic 95, 3)) ∧ (decode cX12_next 259 = .ok (.ifCond .eq 180, 3)) ∧ (decode cX12_next 262 = .ok (.aload_n 0, 1)) ∧ (decode cX12_next 263 = .ok (.aload_n 0, 1)) ∧ (decode cX12_next 264 = .ok (.getfield 178, 3)) ∧ (decode cX12_next 267 = .ok (.ldc 121, 2)) ∧ (decode cX12_next 269 = .ok (.if_icmp .le 10, 3)) ∧ (decode cX12_next 272 = .ok (.aload_n 0, 1)) ∧ (decode cX12_next 273 = .ok (.getfield 178, 3)) ∧ (decode cX12_next 276 = .ok (.goto 23, 3)) ∧ (decode cX12_next 279 = .ok (.bipush 10, 2)) ∧ (decode cX12_next 281 = .ok (.aload_n 0, 1)) ∧ (decode cX12_next 282 = .ok (.getfield 178, 3)) := by decide +kernel
theorem dX12_next_251 : decode cX12_next 251 = .ok (.baload, 1) := bdX12_next_251.1
theorem dX12_next_252 : decode cX12_next 252 = .ok (.bipush 48, 2) := bdX12_next_251.2.1
theorem dX12_next_254 : decode cX12_next 254 = .ok (.bipush 57, 2) := bdX12_next_251.2.2.1
theorem dX12_next_256 : decode cX12_next 256 = .ok (.invokestatic 95, 3) := bdX12_next_251.2.2.2.1
theorem dX12_next_259 : decode cX12_next 259 = .ok (.ifCond .eq 180, 3) := bdX12_next_251.2.2.2.2.1
theorem dX12_next_262 : decode cX12_next 262 = .ok (.aload_n 0, 1) := bdX12_next_251.2.2.2.2.2.1
theorem dX12_next_263 : decode cX12_next 263 = .ok (.aload_n 0, 1) := bdX12_next_251.2.2.2.2.2.2.1
theorem dX12_next_264 : decode cX12_next 264 = .ok (.getfield 178, 3) := bdX12_next_251.2.2.2.2.2.2.2.1
theorem dX12_next_267 : decode cX12_next 267 = .ok (.ldc 121, 2) := bdX12_next_251.2.2.2.2.2.2.2.2.1
theorem dX12_next_269 : decode cX12_next 269 = .ok (.if_icmp .le 10, 3) := bdX12_next_251.2.2.2.2.2.2.2.2.2.1
theorem dX12_next_272 : decode cX12_next 272 = .ok (.aload_n 0, 1) := bdX12_next_251.2.2.2.2.2.2.2.2.2.2.1
theorem dX12_next_273 : decode cX12_next 273 = .ok (.getfield 178, 3) := bdX12_next_251.2.2.2.2.2.2.2.2.2.2.2.1
theorem dX12_next_276 : decode cX12_next 276 = .ok (.goto 23, 3) := bdX12_next_251.2.2.2.2.2.2.2.2.2.2.2.2.1
theorem dX12_next_279 : decode cX12_next 279 = .ok (.bipush 10, 2) := bdX12_next_251.2.2.2.2.2.2.2.2.2.2.2.2.2.1
theorem dX12_next_281 : decode cX12_next 281 = .ok (.aload_n 0, 1) := bdX12_next_251.2.2.2.2.2.2.2.2.2.2.2.2.2.2.1
theorem dX12_next_282 : decode cX12_next 282 = .ok (.getfield 178, 3) := bdX12_next_251.2.2.2.2.2.2.2.2.2.2.2.2.2.2.2
theorem bdX12_next_285 : (decode cX12_next 285 = .ok (.imul, 1)) ∧ (decode cX12_next 286 = .ok (.aload_n 0, 1)) ∧ (decode cX12_next 287 = .ok (.getfield 19, 3)) ∧ (decode cX12_next 290 = .ok (.aload_n 0, 1)) ∧ (decode cX12_next 291 = .ok (.getfield 157, 3)) ∧ (decode cX12_next 294 = .ok (.baload, 1)) ∧ (decode cX12_next 295 = .ok (.iadd, 1)) ∧ (decode cX12_next 296 = .ok (.bipush 48, 2)) ∧ (decode cX12_next 298 = .ok (.isub, 1)) ∧ (decode cX12_next 299 = .ok (.putfield 178, 3)) ∧ (decode cX12_next 302 = .ok (.aload_n 0, 1)) ∧ (decode cX12_next 303 = .ok (.dup, 1)) ∧ (decode cX12_next 304 = .ok (.getfield 157, 3)) ∧ (decode cX12_next 307 = .ok (.iconst 1, 1)) ∧ (decode cX12_next 308 = .ok (.iadd, 1)) ∧ (decode cX12_next 309 = .ok (.putfield 157, 3)) := by decide +kernel
theorem dX12_next_285 : decode cX12_next 285 = .ok (.imul, 1) := bdX12_next_285.1
theorem dX12_next_286 : decode cX12_next 286 = .ok (.aload_n 0, 1) := bdX12_next_285.2.1
theorem dX12_next_287 : decode cX12_next 287 = .ok (.getfield 19, 3) := bdX12_next_285.2.2.1
theorem dX12_next_290 : decode cX12_next 290 = .ok (.aload_n 0, 1) := bdX12_next_285.2.2.2.1
theorem dX12_next_291 : decode cX12_next 291 = .ok (.getfield 157, 3) := bdX12_next_285.2.2.2.2.1
theorem dX12_next_294 : decode cX12_next 294 = .ok (.baload, 1) := bdX12_next_285.2.2.2.2.2.1
theorem dX12_next_295 : decode cX12_next 295 = .ok (.iadd, 1) := bdX12_next_285.2.2.2.2.2.2.1
theorem dX12_next_296 : decode cX12_next 296 = .ok (.bipush 48, 2) := bdX12_next_285.2.2.2.2.2.2.2.1
theorem dX12_next_298 : decode cX12_next 298 = .ok (.isub, 1) := bdX12_next_285.2.2.2.2.2.2.2.2.1
theorem dX12_next_299 : decode cX12_next 299 = .ok (.putfield 178, 3) := bdX12_next_285.2.2.2.2.2.2.2.2.2.1
theorem dX12_next_302 : decode cX12_next 302 = .ok (.aload_n 0, 1) := bdX12_next_285.2.2.2.2.2.2.2.2.2.2.1
theorem dX12_next_303 : decode cX12_next 303 = .ok (.dup, 1) := bdX12_next_285.2.2.2.2.2.2.2.2.2.2.2.1
theorem dX12_next_304 : decode cX12_next 304 = .ok (.getfield 157, 3) := bdX12_next_285.2.2.2.2.2.2.2.2.2.2.2.2.1
theorem dX12_next_307 : decode cX12_next 307 = .ok (.iconst 1, 1) := bdX12_next_285.2.2.2.2.2.2.2.2.2.2.2.2.2.1
theorem dX12_next_308 : decode cX12_next 308 = .ok (.iadd, 1) := bdX12_next_285.2.2.2.2.2.2.2.2.2.2.2.2.2.2.1
theorem dX12_next_309 : decode cX12_next 309 = .ok (.putfield 157, 3) := bdX12_next_285.2.2.2.2.2.2.2.2.2.2.2.2.2.2.2
theorem bdX12_next_312 : (decode cX12_next 312 = .ok (.goto (-80), 3)) ∧ (decode cX12_next 315 = .ok (.aload_n 0, 1)) ∧ (decode cX12_next 316 = .ok (.dup, 1)) ∧ (decode cX12_next 317 = .ok (.getfield 157, 3)) ∧ (decode cX12_next 320 = .ok (.iconst 1, 1)) ∧ (decode cX12_next 321 = .ok (.iadd, 1)) ∧ (decode cX12_next 322 = .ok (.putfield 157, 3)) ∧ (decode cX12_next 325 = .ok (.aload_n 0, 1)) ∧ (decode cX12_next 326 = .ok (.iload_n 1, 1)) ∧ (decode cX12_next 327 = .ok (.putfield 178, 3)) ∧ (decode cX12_next 330 = .ok (.aload_n 0, 1)) ∧ (decode cX12_next 331 = .ok (.iload_n 1, 1)) ∧ (decode cX12_next 332 = .ok (.bipush 59, 2)) ∧ (decode cX12_next 334 = .ok (.bipush 62, 2)) ∧ (decode cX12_next 336 = .ok (.invokestatic 95, 3)) ∧ (decode cX12_next 339 = .ok (.ifCond .ne 26, 3)) := by decide +kernel
theorem dX12_next_312 : decode cX12_next 312 = .ok (.goto (-80), 3) := bdX12_next_312.1
theorem dX12_next_315 : decode cX12_next 315 = .ok (.aload_n 0, 1) := bdX12_next_312.2.1
theorem dX12_next_316 : decode cX12_next 316 = .ok (.dup, 1) := bdX12_next_312.2.2.1
theorem dX12_next_317 : decode cX12_next 317 = .ok (.getfield 157, 3) := bdX12_next_312.2.2.2.1
theorem dX12_next_320 : decode cX12_next 320 = .ok (.iconst 1, 1) := bdX12_next_312.2.2.2.2.1
theorem dX12_next_321 : decode cX12_next 321 = .ok (.iadd, 1) := bdX12_next_312.2.2.2.2.2.1
theorem dX12_next_322 : decode cX12_next 322 = .ok (.putfield 157, 3) := bdX12_next_312.2.2.2.2.2.2.1
theorem dX12_next_325 : decode cX12_next 325 = .ok (.aload_n 0, 1) := bdX12_next_312.2.2.2.2.2.2.2.1
theorem dX12_next_326 : decode cX12_next 326 = .ok (.iload_n 1, 1) := bdX12_next_312.2.2.2.2.2.2.2.2.1
theorem dX12_next_327 : decode cX12_next 327 = .ok (.putfield 178, 3) := bdX12_next_312.2.2.2.2.2.2.2.2.2.1
theorem dX12_next_330 : decode cX12_next 330 = .ok (.aload_n 0, 1) := bdX12_next_312.2.2.2.2.2.2.2.2.2.2.1
theorem dX12_next_331 : decode cX12_next 331 = .ok (.iload_n 1, 1) := bdX12_next_312.2.2.2.2.2.2.2.2.2.2.2.1
theorem dX12_next_332 : decode cX12_next 332 = .ok (.bipush 59, 2) := bdX12_next_312.2.2.2.2.2.2.2.2.2.2.2.2.1
theorem dX12_next_334 : decode cX12_next 334 = .ok (.bipush 62, 2) := bdX12_next_312.2.2.2.2.2.2.2.2.2.2.2.2.2.1
theorem dX12_next_336 : decode cX12_next 336 = .ok (.invokestatic 95, 3) := bdX12_next_312.2.2.2.2.2.2.2.2.2.2.2.2.2.2.1
theorem dX12_next_339 : decode cX12_next 339 = .ok (.ifCond .ne 26, 3) := bdX12_next_312.2.2.2.2.2.2.2.2.2.2.2.2.2.2.2
theorem bdX12_next_342 : (decode cX12_next 342 = .ok (.iload_n 1, 1)) ∧ (decode cX12_next 343 = .ok (.bipush 40, 2)) ∧ (decode cX12_next 345 = .ok (.bipush 45, 2)) ∧ (decode cX12_next 347 = .ok (.invokestatic 95, 3)) ∧ (decode cX12_next 350 = .ok (.ifCond .ne 15, 3)) ∧ (decode cX12_next 353 = .ok (.iload_n 1, 1)) ∧ (decode cX12_next 354 = .ok (.bipush 47, 2)) ∧ (decode cX12_next 356 = .ok (.if_icmp .eq 9, 3)) ∧ (decode cX12_next 359 = .ok (.iload_n 1, 1)) ∧ (decode cX12_next 360 = .ok (.bipush 35, 2)) ∧ (decode cX12_next 362 = .ok (.if_icmp .ne 7, 3)) ∧ (decode cX12_next 365 = .ok (.iconst 3, 1)) ∧ (decode cX12_next 366 = .ok (.goto 4, 3)) ∧ (decode cX12_next 369 = .ok (.iconst 4, 1)) ∧ (decode cX12_next 370 = .ok (.putfield 166, 3)) ∧ (decode cX12_next 373 = .ok (.iload_n 1, 1)) := by decide +kernel
theorem dX12_next_342 : decode cX12_next 342 = .ok (.iload_n 1, 1) := bdX12_next_342.1
theorem dX12_next_343 : decode cX12_next 343 = .ok (.bipush 40, 2) := bdX12_next_342.2.1
theorem dX12_next_345 : decode cX12_next 345 = .ok (.bipush 45, 2) := bdX12_next_342.2.2.1
theorem dX12_next_347 : decode cX12_next 347 = .ok (.invokestatic 95, 3) := bdX12_next_342.2.2.2.1
theorem dX12_next_350 : decode cX12_next 350 = .ok (.ifCond .ne 15, 3) := bdX12_next_342.2.2.2.2.1
theorem dX12_next_353 : decode cX12_next 353 = .ok (.iload_n 1, 1) := bdX12_next_342.2.2.2.2.2.1
theorem dX12_next_354 : decode cX12_next 354 = .ok (.bipush 47, 2) := bdX12_next_342.2.2.2.2.2.2.1
theorem dX12_next_356 : decode cX12_next 356 = .ok (.if_icmp .eq 9, 3) := bdX12_next_342.2.2.2.2.2.2.2.1
theorem dX12_next_359 : decode cX12_next 359 = .ok (.iload_n 1, 1) := bdX12_next_342.2.2.2.2.2.2.2.2.1
theorem dX12_next_360 : decode cX12_next 360 = .ok (.bipush 35, 2) := bdX12_next_342.2.2.2.2.2.2.2.2.2.1
theorem dX12_next_362 : decode cX12_next 362 = .ok (.if_icmp .ne 7, 3) := bdX12_next_342.2.2.2.2.2.2.2.2.2.2.1
theorem dX12_next_365 : decode cX12_next 365 = .ok (.iconst 3, 1) := bdX12_next_342.2.2.2.2.2.2.2.2.2.2.2.1
theorem dX12_next_366 : decode cX12_next 366 = .ok (.goto 4, 3) := bdX12_next_342.2.2.2.2.2.2.2.2.2.2.2.2.1
theorem dX12_next_369 : decode cX12_next 369 = .ok (.iconst 4, 1) := bdX12_next_342.2.2.2.2.2.2.2.2.2.2.2.2.2.1
theorem dX12_next_370 : decode cX12_next 370 = .ok (.putfield 166, 3) := bdX12_next_342.2.2.2.2.2.2.2.2.2.2.2.2.2.2.1
theorem dX12_next_373 : decode cX12_next 373 = .ok (.iload_n 1, 1) := bdX12_next_342.2.2.2.2.2.2.2.2.2.2.2.2.2.2.2
theorem bdX12_next_374 : (decode cX12_next 374 = .ok (.bipush 60, 2)) ∧ (decode cX12_next 376 = .ok (.if_icmp .eq 9, 3)) ∧ (decode cX12_next 379 = .ok (.iload_n 1, 1)) ∧ (decode cX12_next 380 = .ok (.bipush 62, 2)) ∧ (decode cX12_next 382 = .ok (.if_icmp .ne 57, 3)) ∧ (decode cX12_next 385 = .ok (.aload_n 0, 1)) ∧ (decode cX12_next 386 = .ok (.getfield 157, 3)) ∧ (decode cX12_next 389 = .ok (.aload_n 0, 1)) ∧ (decode cX12_next 390 = .ok (.getfield 160, 3)) ∧ (decode cX12_next 393 = .ok (.if_icmp .ge 46, 3)) ∧ (decode cX12_next 396 = .ok (.aload_n 0, 1)) ∧ (decode cX12_next 397 = .ok (.getfield 19, 3)) ∧ (decode cX12_next 400 = .ok (.aload_n 0, 1)) ∧ (decode cX12_next 401 = .ok (.getfield 157, 3)) ∧ (decode cX12_next 404 = .ok (.baload, 1)) ∧ (decode cX12_next 405 = .ok (.bipush 61, 2)) := by decide +kernel
theorem dX12_next_374 : decode cX12_next 374 = .ok (.bipush 60, 2) := bdX12_next_374.1
theorem dX12_next_376 : decode cX12_next 376 = .ok (.if_icmp .eq 9, 3) := bdX12_next_374.2.1
theorem dX12_next_379 : decode cX12_next 379 = .ok (.iload_n 1, 1) := bdX12_next_374.2.2.1
theorem dX12_next_380 : decode cX12_next 380 = .ok (.bipush 62, 2) := bdX12_next_374.2.2.2.1
theorem dX12_next_382 : decode cX12_next 382 = .ok (.if_icmp .ne 57, 3) := bdX12_next_374.2.2.2.2.1
theorem dX12_next_385 : decode cX12_next 385 = .ok (.aload_n 0, 1) := bdX12_next_374.2.2.2.2.2.1
theorem dX12_next_386 : decode cX12_next 386 = .ok (.getfield 157, 3) := bdX12_next_374.2.2.2.2.2.2.1
theorem dX12_next_389 : decode cX12_next 389 = .ok (.aload_n 0, 1) := bdX12_next_374.2.2.2.2.2.2.2.1
theorem dX12_next_390 : decode cX12_next 390 = .ok (.getfield 160, 3) := bdX12_next_374.2.2.2.2.2.2.2.2.1
theorem dX12_next_393 : decode cX12_next 393 = .ok (.if_icmp .ge 46, 3) := bdX12_next_374.2.2.2.2.2.2.2.2.2.1
theorem dX12_next_396 : decode cX12_next 396 = .ok (.aload_n 0, 1) := bdX12_next_374.2.2.2.2.2.2.2.2.2.2.1
theorem dX12_next_397 : decode cX12_next 397 = .ok (.getfield 19, 3) := bdX12_next_374.2.2.2.2.2.2.2.2.2.2.2.1
theorem dX12_next_400 : decode cX12_next 400 = .ok (.aload_n 0, 1) := bdX12_next_374.2.2.2.2.2.2.2.2.2.2.2.2.1
theorem dX12_next_401 : decode cX12_next 401 = .ok (.getfield 157, 3) := bdX12_next_374.2.2.2.2.2.2.2.2.2.2.2.2.2.1
theorem dX12_next_404 : decode cX12_next 404 = .ok (.baload, 1) := bdX12_next_374.2.2.2.2.2.2.2.2.2.2.2.2.2.2.1
theorem dX12_next_405 : decode cX12_next 405 = .ok (.bipush 61, 2) := bdX12_next_374.2.2.2.2.2.2.2.2.2.2.2.2.2.2.2
theorem bdX12_next_407 : (decode cX12_next 407 = .ok (.if_icmp .ne 32, 3)) ∧ (decode cX12_next 410 = .ok (.aload_n 0, 1)) ∧ (decode cX12_next 411 = .ok (.iload_n 1, 1)) ∧ (decode cX12_next 412 = .ok (.bipush 60, 2)) ∧ (decode cX12_next 414 = .ok (.if_icmp .ne 9, 3)) ∧ (decode cX12_next 417 = .ok (.sipush 300, 3)) ∧ (decode cX12_next 420 = .ok (.goto 6, 3)) ∧ (decode cX12_next 423 = .ok (.sipush 301, 3)) ∧ (decode cX12_next 426 = .ok (.putfield 178, 3)) ∧ (decode cX12_next 429 = .ok (.aload_n 0, 1)) ∧ (decode cX12_next 430 = .ok (.dup, 1)) ∧ (decode cX12_next 431 = .ok (.getfield 157, 3)) ∧ (decode cX12_next 434 = .ok (.iconst 1, 1)) ∧ (decode cX12_next 435 = .ok (.iadd, 1)) ∧ (decode cX12_next 436 = .ok (.putfield 157, 3)) ∧ (decode cX12_next 439 = .ok (.return_, 1)) := by decide +kernel
theorem dX12_next_407 : decode cX12_next 407 = .ok (.if_icmp .ne 32, 3) := bdX12_next_407.1
theorem dX12_next_410 : decode cX12_next 410 = .ok (.aload_n 0, 1) := bdX12_next_407.2.1
theorem dX12_next_411 : decode cX12_next 411 = .ok (.iload_n 1, 1) := bdX12_next_407.2.2.1
theorem dX12_next_412 : decode cX12_next 412 = .ok (.bipush 60, 2) := bdX12_next_407.2.2.2.1
theorem dX12_next_414 : decode cX12_next 414 = .ok (.if_icmp .ne 9, 3) := bdX12_next_407.2.2.2.2.1
theorem dX12_next_417 : decode cX12_next 417 = .ok (.sipush 300, 3) := bdX12_next_407.2.2.2.2.2.1
theorem dX12_next_420 : decode cX12_next 420 = .ok (.goto 6, 3) := bdX12_next_407.2.2.2.2.2.2.1
theorem dX12_next_423 : decode cX12_next 423 = .ok (.sipush 301, 3) := bdX12_next_407.2.2.2.2.2.2.2.1
theorem dX12_next_426 : decode cX12_next 426 = .ok (.putfield 178, 3) := bdX12_next_407.2.2.2.2.2.2.2.2.1
theorem dX12_next_429 : decode cX12_next 429 = .ok (.aload_n 0, 1) := bdX12_next_407.2.2.2.2.2.2.2.2.2.1
theorem dX12_next_430 : decode cX12_next 430 = .ok (.dup, 1) := bdX12_next_407.2.2.2.2.2.2.2.2.2.2.1
theorem dX12_next_431 : decode cX12_next 431 = .ok (.getfield 157, 3) := bdX12_next_407.2.2.2.2.2.2.2.2.2.2.2.1
theorem dX12_next_434 : decode cX12_next 434 = .ok (.iconst 1, 1) := bdX12_next_407.2.2.2.2.2.2.2.2.2.2.2.2.1
theorem dX12_next_435 : decode cX12_next 435 = .ok (.iadd, 1) := bdX12_next_407.2.2.2.2.2.2.2.2.2.2.2.2.2.1
theorem dX12_next_436 : decode cX12_next 436 = .ok (.putfield 157, 3) := bdX12_next_407.2.2.2.2.2.2.2.2.2.2.2.2.2.2.1
theorem dX12_next_439 : decode cX12_next 439 = .ok (.return_, 1) := bdX12_next_407.2.2.2.2.2.2.2.2.2.2.2.2.2.2.2
theorem bdX12_rank_0 : (decode cX12_rank 0 = .ok (.iload_n 0, 1)) ∧ (decode cX12_rank 1 = .ok (.sipush 407, 3)) ∧ (decode cX12_rank 4 = .ok (.if_icmp .ne 7, 3)) ∧ (decode cX12_rank 7 = .ok (.iconst 1, 1)) ∧ (decode cX12_rank 8 = .ok (.goto 31, 3)) ∧ (decode cX12_rank 11 = .ok (.iload_n 0, 1)) ∧ (decode cX12_rank 12 = .ok (.sipush 406, 3)) ∧ (decode cX12_rank 15 = .ok (.if_icmp .ne 7, 3)) ∧ (decode cX12_rank 18 = .ok (.iconst 2, 1)) ∧ (decode cX12_rank 19 = .ok (.goto 20, 3)) ∧ (decode cX12_rank 22 = .ok (.iload_n 0, 1)) ∧ (decode cX12_rank 23 = .ok (.bipush 43, 2)) ∧ (decode cX12_rank 25 = .ok (.if_icmp .eq 9, 3)) ∧ (decode cX12_rank 28 = .ok (.iload_n 0, 1)) ∧ (decode cX12_rank 29 = .ok (.bipush 45, 2)) ∧ (decode cX12_rank 31 = .ok (.if_icmp .ne 7, 3)) := by decide +kernel
theorem dX12_rank_0 : decode cX12_rank 0 = .ok (.iload_n 0, 1) := bdX12_rank_0.1
theorem dX12_rank_1 : decode cX12_rank 1 = .ok (.sipush 407, 3) := bdX12_rank_0.2.1
theorem dX12_rank_4 : decode cX12_rank 4 = .ok (.if_icmp .ne 7, 3) := bdX12_rank_0.2.2.1
theorem dX12_rank_7 : decode cX12_rank 7 = .ok (.iconst 1, 1) := bdX12_rank_0.2.2.2.1
theorem dX12_rank_8 : decode cX12_rank 8 = .ok (.goto 31, 3) := bdX12_rank_0.2.2.2.2.1
theorem dX12_rank_11 : decode cX12_rank 11 = .ok (.iload_n 0, 1) := bdX12_rank_0.2.2.2.2.2.1
theorem dX12_rank_12 : decode cX12_rank 12 = .ok (.sipush 406, 3) := bdX12_rank_0.2.2.2.2.2.2.1
theorem dX12_rank_15 : decode cX12_rank 15 = .ok (.if_icmp .ne 7, 3) := bdX12_rank_0.2.2.2.2.2.2.2.1
theorem dX12_rank_18 : decode cX12_rank 18 = .ok (.iconst 2, 1) := bdX12_rank_0.2.2.2.2.2.2.2.2.1
theorem dX12_rank_19 : decode cX12_rank 19 = .ok (.goto 20, 3) := bdX12_rank_0.2.2.2.2.2.2.2.2.2.1
theorem dX12_rank_22 : decode cX12_rank 22 = .ok (.iload_n 0, 1) := bdX12_rank_0.2.2.2.2.2.2.2.2.2.2.1
theorem dX12_rank_23 : decode cX12_rank 23 = .ok (.bipush 43, 2) := bdX12_rank_0.2.2.2.2.2.2.2.2.2.2.2.1
theorem dX12_rank_25 : decode cX12_rank 25 = .ok (.if_icmp .eq 9, 3) := bdX12_rank_0.2.2.2.2.2.2.2.2.2.2.2.2.1
theorem dX12_rank_28 : decode cX12_rank 28 = .ok (.iload_n 0, 1) := bdX12_rank_0.2.2.2.2.2.2.2.2.2.2.2.2.2.1
theorem dX12_rank_29 : decode cX12_rank 29 = .ok (.bipush 45, 2) := bdX12_rank_0.2.2.2.2.2.2.2.2.2.2.2.2.2.2.1
theorem dX12_rank_31 : decode cX12_rank 31 = .ok (.if_icmp .ne 7, 3) := bdX12_rank_0.2.2.2.2.2.2.2.2.2.2.2.2.2.2.2
theorem bdX12_rank_34 : (decode cX12_rank 34 = .ok (.iconst 3, 1)) ∧ (decode cX12_rank 35 = .ok (.goto 4, 3)) ∧ (decode cX12_rank 38 = .ok (.iconst 4, 1)) ∧ (decode cX12_rank 39 = .ok (.ireturn, 1)) := by decide +kernel
theorem dX12_rank_34 : decode cX12_rank 34 = .ok (.iconst 3, 1) := bdX12_rank_34.1
theorem dX12_rank_35 : decode cX12_rank 35 = .ok (.goto 4, 3) := bdX12_rank_34.2.1
theorem dX12_rank_38 : decode cX12_rank 38 = .ok (.iconst 4, 1) := bdX12_rank_34.2.2.1
theorem dX12_rank_39 : decode cX12_rank 39 = .ok (.ireturn, 1) := bdX12_rank_34.2.2.2
theorem bdX12_works_0 : (decode cX12_works 0 = .ok (.aload_n 0, 1)) ∧ (decode cX12_works 1 = .ok (.getfield 205, 3)) ∧ (decode cX12_works 4 = .ok (.ifCond .le 66, 3)) ∧ (decode cX12_works 7 = .ok (.aload_n 0, 1)) ∧ (decode cX12_works 8 = .ok (.getfield 54, 3)) ∧ (decode cX12_works 11 = .ok (.aload_n 0, 1)) ∧ (decode cX12_works 12 = .ok (.getfield 205, 3)) ∧ (decode cX12_works 15 = .ok (.iconst 1, 1)) ∧ (decode cX12_works 16 = .ok (.isub, 1)) ∧ (decode cX12_works 17 = .ok (.iaload, 1)) ∧ (decode cX12_works 18 = .ok (.aload_n 0, 1)) ∧ (decode cX12_works 19 = .ok (.getfield 190, 3)) ∧ (decode cX12_works 22 = .ok (.if_icmp .ne 48, 3)) ∧ (decode cX12_works 25 = .ok (.aload_n 0, 1)) ∧ (decode cX12_works 26 = .ok (.getfield 51, 3)) ∧ (decode cX12_works 29 = .ok (.aload_n 0, 1)) := by decide +kernel
theorem dX12_works_0 : decode cX12_works 0 = .ok (.aload_n 0, 1) := bdX12_works_0.1
theorem dX12_works_1 : decode cX12_works 1 = .ok (.getfield 205, 3) := bdX12_works_0.2.1
theorem dX12_works_4 : decode cX12_works 4 = .ok (.ifCond .le 66, 3) := bdX12_works_0.2.2.1
theorem dX12_works_7 : decode cX12_works 7 = .ok (.aload_n 0, 1) := bdX12_works_0.2.2.2.1
theorem dX12_works_8 : decode cX12_works 8 = .ok (.getfield 54, 3) := bdX12_works_0.2.2.2.2.1
theorem dX12_works_11 : decode cX12_works 11 = .ok (.aload_n 0, 1) := bdX12_works_0.2.2.2.2.2.1
theorem dX12_works_12 : decode cX12_works 12 = .ok (.getfield 205, 3) := bdX12_works_0.2.2.2.2.2.2.1
theorem dX12_works_15 : decode cX12_works 15 = .ok (.iconst 1, 1) := bdX12_works_0.2.2.2.2.2.2.2.1
theorem dX12_works_16 : decode cX12_works 16 = .ok (.isub, 1) := bdX12_works_0.2.2.2.2.2.2.2.2.1
theorem dX12_works_17 : decode cX12_works 17 = .ok (.iaload, 1) := bdX12_works_0.2.2.2.2.2.2.2.2.2.1
theorem dX12_works_18 : decode cX12_works 18 = .ok (.aload_n 0, 1) := bdX12_works_0.2.2.2.2.2.2.2.2.2.2.1
theorem dX12_works_19 : decode cX12_works 19 = .ok (.getfield 190, 3) := bdX12_works_0.2.2.2.2.2.2.2.2.2.2.2.1
theorem dX12_works_22 : decode cX12_works 22 = .ok (.if_icmp .ne 48, 3) := bdX12_works_0.2.2.2.2.2.2.2.2.2.2.2.2.1
theorem dX12_works_25 : decode cX12_works 25 = .ok (.aload_n 0, 1) := bdX12_works_0.2.2.2.2.2.2.2.2.2.2.2.2.2.1
theorem dX12_works_26 : decode cX12_works 26 = .ok (.getfield 51, 3) := bdX12_works_0.2.2.2.2.2.2.2.2.2.2.2.2.2.2.1
theorem dX12_works_29 : decode cX12_works 29 = .ok (.aload_n 0, 1) := bdX12_works_0.2.2.2.2.2.2.2.2.2.2.2.2.2.2.2
theorem bdX12_works_30 : (decode cX12_works 30 = .ok (.getfield 205, 3)) ∧ (decode cX12_works 33 = .ok (.iconst 1, 1)) ∧ (decode cX12_works 34 = .ok (.isub, 1)) ∧ (decode cX12_works 35 = .ok (.iaload, 1)) ∧ (decode cX12_works 36 = .ok (.invokestatic 208, 3)) ∧ (decode cX12_works 39 = .ok (.iload_n 1, 1)) ∧ (decode cX12_works 40 = .ok (.if_icmp .lt 30, 3)) ∧ (decode cX12_works 43 = .ok (.aload_n 0, 1)) ∧ (decode cX12_works 44 = .ok (.dup, 1)) ∧ (decode cX12_works 45 = .ok (.getfield 205, 3)) ∧ (decode cX12_works 48 = .ok (.iconst 1, 1)) ∧ (decode cX12_works 49 = .ok (.isub, 1)) ∧ (decode cX12_works 50 = .ok (.putfield 205, 3)) ∧ (decode cX12_works 53 = .ok (.aload_n 0, 1)) ∧ (decode cX12_works 54 = .ok (.aload_n 0, 1)) ∧ (decode cX12_works 55 = .ok (.getfield 51, 3)) := by decide +kernel
theorem dX12_works_30 : decode cX12_works 30 = .ok (.getfield 205, 3) := bdX12_works_30.1
theorem dX12_works_33 : decode cX12_works 33 = .ok (.iconst 1, 1) := bdX12_works_30.2.1
theorem dX12_works_34 : decode cX12_works 34 = .ok (.isub, 1) := bdX12_works_30.2.2.1
theorem dX12_works_35 : decode cX12_works 35 = .ok (.iaload, 1) := bdX12_works_30.2.2.2.1
theorem dX12_works_36 : decode cX12_works 36 = .ok (.invokestatic 208, 3) := bdX12_works_30.2.2.2.2.1
theorem dX12_works_39 : decode cX12_works 39 = .ok (.iload_n 1, 1) := bdX12_works_30.2.2.2.2.2.1
theorem dX12_works_40 : decode cX12_works 40 = .ok (.if_icmp .lt 30, 3) := bdX12_works_30.2.2.2.2.2.2.1
theorem dX12_works_43 : decode cX12_works 43 = .ok (.aload_n 0, 1) := bdX12_works_30.2.2.2.2.2.2.2.1
theorem dX12_works_44 : decode cX12_works 44 = .ok (.dup, 1) := bdX12_works_30.2.2.2.2.2.2.2.2.1
theorem dX12_works_45 : decode cX12_works 45 = .ok (.getfield 205, 3) := bdX12_works_30.2.2.2.2.2.2.2.2.2.1
theorem dX12_works_48 : decode cX12_works 48 = .ok (.iconst 1, 1) := bdX12_works_30.2.2.2.2.2.2.2.2.2.2.1
theorem dX12_works_49 : decode cX12_works 49 = .ok (.isub, 1) := bdX12_works_30.2.2.2.2.2.2.2.2.2.2.2.1
theorem dX12_works_50 : decode cX12_works 50 = .ok (.putfield 205, 3) := bdX12_works_30.2.2.2.2.2.2.2.2.2.2.2.2.1
theorem dX12_works_53 : decode cX12_works 53 = .ok (.aload_n 0, 1) := bdX12_works_30.2.2.2.2.2.2.2.2.2.2.2.2.2.1
theorem dX12_works_54 : decode cX12_works 54 = .ok (.aload_n 0, 1) := bdX12_works_30.2.2.2.2.2.2.2.2.2.2.2.2.2.2.1
theorem dX12_works_55 : decode cX12_works 55 = .ok (.getfield 51, 3) := bdX12_works_30.2.2.2.2.2.2.2.2.2.2.2.2.2.2.2
theorem bdX12_works_58 : (decode cX12_works 58 = .ok (.aload_n 0, 1)) ∧ (decode cX12_works 59 = .ok (.getfield 205, 3)) ∧ (decode cX12_works 62 = .ok (.iaload, 1)) ∧ (decode cX12_works 63 = .ok (.iconst 0, 1)) ∧ (decode cX12_works 64 = .ok (.invokevirtual 211, 3)) ∧ (decode cX12_works 67 = .ok (.goto (-67), 3)) ∧ (decode cX12_works 70 = .ok (.return_, 1)) := by decide +kernel
theorem dX12_works_58 : decode cX12_works 58 = .ok (.aload_n 0, 1) := bdX12_works_58.1
theorem dX12_works_59 : decode cX12_works 59 = .ok (.getfield 205, 3) := bdX12_works_58.2.1
theorem dX12_works_62 : decode cX12_works 62 = .ok (.iaload, 1) := bdX12_works_58.2.2.1
theorem dX12_works_63 : decode cX12_works 63 = .ok (.iconst 0, 1) := bdX12_works_58.2.2.2.1
theorem dX12_works_64 : decode cX12_works 64 = .ok (.invokevirtual 211, 3) := bdX12_works_58.2.2.2.2.1
theorem dX12_works_67 : decode cX12_works 67 = .ok (.goto (-67), 3) := bdX12_works_58.2.2.2.2.2.1
theorem dX12_works_70 : decode cX12_works 70 = .ok (.return_, 1) := bdX12_works_58.2.2.2.2.2.2
theorem bdX12_waitsFor_0 : (decode cX12_waitsFor 0 = .ok (.aload_n 0, 1)) ∧ (decode cX12_waitsFor 1 = .ok (.iload_n 1, 1)) ∧ (decode cX12_waitsFor 2 = .ok (.invokestatic 208, 3)) ∧ (decode cX12_waitsFor 5 = .ok (.invokevirtual 215, 3)) ∧ (decode cX12_waitsFor 8 = .ok (.aload_n 0, 1)) ∧ (decode cX12_waitsFor 9 = .ok (.getfield 51, 3)) ∧ (decode cX12_waitsFor 12 = .ok (.aload_n 0, 1)) ∧ (decode cX12_waitsFor 13 = .ok (.getfield 205, 3)) ∧ (decode cX12_waitsFor 16 = .ok (.iload_n 1, 1)) ∧ (decode cX12_waitsFor 17 = .ok (.iastore, 1)) ∧ (decode cX12_waitsFor 18 = .ok (.aload_n 0, 1)) ∧ (decode cX12_waitsFor 19 = .ok (.getfield 54, 3)) ∧ (decode cX12_waitsFor 22 = .ok (.aload_n 0, 1)) ∧ (decode cX12_waitsFor 23 = .ok (.getfield 205, 3)) ∧ (decode cX12_waitsFor 26 = .ok (.aload_n 0, 1)) ∧ (decode cX12_waitsFor 27 = .ok (.getfield 190, 3)) := by decide +kernel
theorem dX12_waitsFor_0 : decode cX12_waitsFor 0 = .ok (.aload_n 0, 1) := bdX12_waitsFor_0.1
theorem dX12_waitsFor_1 : decode cX12_waitsFor 1 = .ok (.iload_n 1, 1) := bdX12_waitsFor_0.2.1
theorem dX12_waitsFor_2 : decode cX12_waitsFor 2 = .ok (.invokestatic 208, 3) := bdX12_waitsFor_0.2.2.1
theorem dX12_waitsFor_5 : decode cX12_waitsFor 5 = .ok (.invokevirtual 215, 3) := bdX12_waitsFor_0.2.2.2.1
theorem dX12_waitsFor_8 : decode cX12_waitsFor 8 = .ok (.aload_n 0, 1) := bdX12_waitsFor_0.2.2.2.2.1
theorem dX12_waitsFor_9 : decode cX12_waitsFor 9 = .ok (.getfield 51, 3) := bdX12_waitsFor_0.2.2.2.2.2.1
theorem dX12_waitsFor_12 : decode cX12_waitsFor 12 = .ok (.aload_n 0, 1) := bdX12_waitsFor_0.2.2.2.2.2.2.1
theorem dX12_waitsFor_13 : decode cX12_waitsFor 13 = .ok (.getfield 205, 3) := bdX12_waitsFor_0.2.2.2.2.2.2.2.1
theorem dX12_waitsFor_16 : decode cX12_waitsFor 16 = .ok (.iload_n 1, 1) := bdX12_waitsFor_0.2.2.2.2.2.2.2.2.1
theorem dX12_waitsFor_17 : decode cX12_waitsFor 17 = .ok (.iastore, 1) := bdX12_waitsFor_0.2.2.2.2.2.2.2.2.2.1
theorem dX12_waitsFor_18 : decode cX12_waitsFor 18 = .ok (.aload_n 0, 1) := bdX12_waitsFor_0.2.2.2.2.2.2.2.2.2.2.1
theorem dX12_waitsFor_19 : decode cX12_waitsFor 19 = .ok (.getfield 54, 3) := bdX12_waitsFor_0.2.2.2.2.2.2.2.2.2.2.2.1
theorem dX12_waitsFor_22 : decode cX12_waitsFor 22 = .ok (.aload_n 0, 1) := bdX12_waitsFor_0.2.2.2.2.2.2.2.2.2.2.2.2.1
theorem dX12_waitsFor_23 : decode cX12_waitsFor 23 = .ok (.getfield 205, 3) := bdX12_waitsFor_0.2.2.2.2.2.2.2.2.2.2.2.2.2.1
theorem dX12_waitsFor_26 : decode cX12_waitsFor 26 = .ok (.aload_n 0, 1) := bdX12_waitsFor_0.2.2.2.2.2.2.2.2.2.2.2.2.2.2.1
theorem dX12_waitsFor_27 : decode cX12_waitsFor 27 = .ok (.getfield 190, 3) := bdX12_waitsFor_0.2.2.2.2.2.2.2.2.2.2.2.2.2.2.2
theorem bdX12_waitsFor_30 : (decode cX12_waitsFor 30 = .ok (.iastore, 1)) ∧ (decode cX12_waitsFor 31 = .ok (.aload_n 0, 1)) ∧ (decode cX12_waitsFor 32 = .ok (.dup, 1)) ∧ (decode cX12_waitsFor 33 = .ok (.getfield 205, 3)) ∧ (decode cX12_waitsFor 36 = .ok (.iconst 1, 1)) ∧ (decode cX12_waitsFor 37 = .ok (.iadd, 1)) ∧ (decode cX12_waitsFor 38 = .ok (.putfield 205, 3)) ∧ (decode cX12_waitsFor 41 = .ok (.aload_n 0, 1)) ∧ (decode cX12_waitsFor 42 = .ok (.invokevirtual 202, 3)) ∧ (decode cX12_waitsFor 45 = .ok (.return_, 1)) := by decide +kernel
theorem dX12_waitsFor_30 : decode cX12_waitsFor 30 = .ok (.iastore, 1) := bdX12_waitsFor_30.1
theorem dX12_waitsFor_31 : decode cX12_waitsFor 31 = .ok (.aload_n 0, 1) := bdX12_waitsFor_30.2.1
theorem dX12_waitsFor_32 : decode cX12_waitsFor 32 = .ok (.dup, 1) := bdX12_waitsFor_30.2.2.1
theorem dX12_waitsFor_33 : decode cX12_waitsFor 33 = .ok (.getfield 205, 3) := bdX12_waitsFor_30.2.2.2.1
theorem dX12_waitsFor_36 : decode cX12_waitsFor 36 = .ok (.iconst 1, 1) := bdX12_waitsFor_30.2.2.2.2.1
theorem dX12_waitsFor_37 : decode cX12_waitsFor 37 = .ok (.iadd, 1) := bdX12_waitsFor_30.2.2.2.2.2.1
theorem dX12_waitsFor_38 : decode cX12_waitsFor 38 = .ok (.putfield 205, 3) := bdX12_waitsFor_30.2.2.2.2.2.2.1
theorem dX12_waitsFor_41 : decode cX12_waitsFor 41 = .ok (.aload_n 0, 1) := bdX12_waitsFor_30.2.2.2.2.2.2.2.1
theorem dX12_waitsFor_42 : decode cX12_waitsFor 42 = .ok (.invokevirtual 202, 3) := bdX12_waitsFor_30.2.2.2.2.2.2.2.2.1
theorem dX12_waitsFor_45 : decode cX12_waitsFor 45 = .ok (.return_, 1) := bdX12_waitsFor_30.2.2.2.2.2.2.2.2.2
theorem bdX12_isAsking_0 : (decode cX12_isAsking 0 = .ok (.iload_n 0, 1)) ∧ (decode cX12_isAsking 1 = .ok (.bipush 60, 2)) ∧ (decode cX12_isAsking 3 = .ok (.if_icmp .eq 35, 3)) ∧ (decode cX12_isAsking 6 = .ok (.iload_n 0, 1)) ∧ (decode cX12_isAsking 7 = .ok (.bipush 62, 2)) ∧ (decode cX12_isAsking 9 = .ok (.if_icmp .eq 29, 3)) ∧ (decode cX12_isAsking 12 = .ok (.iload_n 0, 1)) ∧ (decode cX12_isAsking 13 = .ok (.bipush 61, 2)) ∧ (decode cX12_isAsking 15 = .ok (.if_icmp .eq 23, 3)) ∧ (decode cX12_isAsking 18 = .ok (.iload_n 0, 1)) ∧ (decode cX12_isAsking 19 = .ok (.bipush 35, 2)) ∧ (decode cX12_isAsking 21 = .ok (.if_icmp .eq 17, 3)) ∧ (decode cX12_isAsking 24 = .ok (.iload_n 0, 1)) ∧ (decode cX12_isAsking 25 = .ok (.sipush 300, 3)) ∧ (decode cX12_isAsking 28 = .ok (.if_icmp .eq 10, 3)) ∧ (decode cX12_isAsking 31 = .ok (.iload_n 0, 1)) := by decide +kernel
theorem dX12_isAsking_0 : decode cX12_isAsking 0 = .ok (.iload_n 0, 1) := bdX12_isAsking_0.1
theorem dX12_isAsking_1 : decode cX12_isAsking 1 = .ok (.bipush 60, 2) := bdX12_isAsking_0.2.1
theorem dX12_isAsking_3 : decode cX12_isAsking 3 = .ok (.if_icmp .eq 35, 3) := bdX12_isAsking_0.2.2.1
theorem dX12_isAsking_6 : decode cX12_isAsking 6 = .ok (.iload_n 0, 1) := bdX12_isAsking_0.2.2.2.1
theorem dX12_isAsking_7 : decode cX12_isAsking 7 = .ok (.bipush 62, 2) := bdX12_isAsking_0.2.2.2.2.1
theorem dX12_isAsking_9 : decode cX12_isAsking 9 = .ok (.if_icmp .eq 29, 3) := bdX12_isAsking_0.2.2.2.2.2.1
theorem dX12_isAsking_12 : decode cX12_isAsking 12 = .ok (.iload_n 0, 1) := bdX12_isAsking_0.2.2.2.2.2.2.1
theorem dX12_isAsking_13 : decode cX12_isAsking 13 = .ok (.bipush 61, 2) := bdX12_isAsking_0.2.2.2.2.2.2.2.1
theorem dX12_isAsking_15 : decode cX12_isAsking 15 = .ok (.if_icmp .eq 23, 3) := bdX12_isAsking_0.2.2.2.2.2.2.2.2.1
theorem dX12_isAsking_18 : decode cX12_isAsking 18 = .ok (.iload_n 0, 1) := bdX12_isAsking_0.2.2.2.2.2.2.2.2.2.1
theorem dX12_isAsking_19 : decode cX12_isAsking 19 = .ok (.bipush 35, 2) := bdX12_isAsking_0.2.2.2.2.2.2.2.2.2.2.1
theorem dX12_isAsking_21 : decode cX12_isAsking 21 = .ok (.if_icmp .eq 17, 3) := bdX12_isAsking_0.2.2.2.2.2.2.2.2.2.2.2.1
theorem dX12_isAsking_24 : decode cX12_isAsking 24 = .ok (.iload_n 0, 1) := bdX12_isAsking_0.2.2.2.2.2.2.2.2.2.2.2.2.1
theorem dX12_isAsking_25 : decode cX12_isAsking 25 = .ok (.sipush 300, 3) := bdX12_isAsking_0.2.2.2.2.2.2.2.2.2.2.2.2.2.1
theorem dX12_isAsking_28 : decode cX12_isAsking 28 = .ok (.if_icmp .eq 10, 3) := bdX12_isAsking_0.2.2.2.2.2.2.2.2.2.2.2.2.2.2.1
theorem dX12_isAsking_31 : decode cX12_isAsking 31 = .ok (.iload_n 0, 1) := bdX12_isAsking_0.2.2.2.2.2.2.2.2.2.2.2.2.2.2.2
theorem bdX12_isAsking_32 : (decode cX12_isAsking 32 = .ok (.sipush 301, 3)) ∧ (decode cX12_isAsking 35 = .ok (.if_icmp .ne 7, 3)) ∧ (decode cX12_isAsking 38 = .ok (.iconst 1, 1)) ∧ (decode cX12_isAsking 39 = .ok (.goto 4, 3)) ∧ (decode cX12_isAsking 42 = .ok (.iconst 0, 1)) ∧ (decode cX12_isAsking 43 = .ok (.ireturn, 1)) := by decide +kernel
theorem dX12_isAsking_32 : decode cX12_isAsking 32 = .ok (.sipush 301, 3) := bdX12_isAsking_32.1
theorem dX12_isAsking_35 : decode cX12_isAsking 35 = .ok (.if_icmp .ne 7, 3) := bdX12_isAsking_32.2.1
theorem dX12_isAsking_38 : decode cX12_isAsking 38 = .ok (.iconst 1, 1) := bdX12_isAsking_32.2.2.1
theorem dX12_isAsking_39 : decode cX12_isAsking 39 = .ok (.goto 4, 3) := bdX12_isAsking_32.2.2.2.1
theorem dX12_isAsking_42 : decode cX12_isAsking 42 = .ok (.iconst 0, 1) := bdX12_isAsking_32.2.2.2.2.1
theorem dX12_isAsking_43 : decode cX12_isAsking 43 = .ok (.ireturn, 1) := bdX12_isAsking_32.2.2.2.2.2
theorem bdX12_askIsOver_0 : (decode cX12_askIsOver 0 = .ok (.aload_n 0, 1)) ∧ (decode cX12_askIsOver 1 = .ok (.invokevirtual 236, 3)) ∧ (decode cX12_askIsOver 4 = .ok (.iconst 3, 1)) ∧ (decode cX12_askIsOver 5 = .ok (.if_icmp .ne 34, 3)) ∧ (decode cX12_askIsOver 8 = .ok (.aload_n 0, 1)) ∧ (decode cX12_askIsOver 9 = .ok (.dup, 1)) ∧ (decode cX12_askIsOver 10 = .ok (.getfield 190, 3)) ∧ (decode cX12_askIsOver 13 = .ok (.iconst 1, 1)) ∧ (decode cX12_askIsOver 14 = .ok (.isub, 1)) ∧ (decode cX12_askIsOver 15 = .ok (.putfield 190, 3)) ∧ (decode cX12_askIsOver 18 = .ok (.aload_n 0, 1)) ∧ (decode cX12_askIsOver 19 = .ok (.dup, 1)) ∧ (decode cX12_askIsOver 20 = .ok (.getfield 193, 3)) ∧ (decode cX12_askIsOver 23 = .ok (.iconst 1, 1)) ∧ (decode cX12_askIsOver 24 = .ok (.isub, 1)) ∧ (decode cX12_askIsOver 25 = .ok (.putfield 193, 3)) := by decide +kernel
theorem dX12_askIsOver_0 : decode cX12_askIsOver 0 = .ok (.aload_n 0, 1) := bdX12_askIsOver_0.1
theorem dX12_askIsOver_1 : decode cX12_askIsOver 1 = .ok (.invokevirtual 236, 3) := bdX12_askIsOver_0.2.1
theorem dX12_askIsOver_4 : decode cX12_askIsOver 4 = .ok (.iconst 3, 1) := bdX12_askIsOver_0.2.2.1
theorem dX12_askIsOver_5 : decode cX12_askIsOver 5 = .ok (.if_icmp .ne 34, 3) := bdX12_askIsOver_0.2.2.2.1
theorem dX12_askIsOver_8 : decode cX12_askIsOver 8 = .ok (.aload_n 0, 1) := bdX12_askIsOver_0.2.2.2.2.1
theorem dX12_askIsOver_9 : decode cX12_askIsOver 9 = .ok (.dup, 1) := bdX12_askIsOver_0.2.2.2.2.2.1
theorem dX12_askIsOver_10 : decode cX12_askIsOver 10 = .ok (.getfield 190, 3) := bdX12_askIsOver_0.2.2.2.2.2.2.1
theorem dX12_askIsOver_13 : decode cX12_askIsOver 13 = .ok (.iconst 1, 1) := bdX12_askIsOver_0.2.2.2.2.2.2.2.1
theorem dX12_askIsOver_14 : decode cX12_askIsOver 14 = .ok (.isub, 1) := bdX12_askIsOver_0.2.2.2.2.2.2.2.2.1
theorem dX12_askIsOver_15 : decode cX12_askIsOver 15 = .ok (.putfield 190, 3) := bdX12_askIsOver_0.2.2.2.2.2.2.2.2.2.1
theorem dX12_askIsOver_18 : decode cX12_askIsOver 18 = .ok (.aload_n 0, 1) := bdX12_askIsOver_0.2.2.2.2.2.2.2.2.2.2.1
theorem dX12_askIsOver_19 : decode cX12_askIsOver 19 = .ok (.dup, 1) := bdX12_askIsOver_0.2.2.2.2.2.2.2.2.2.2.2.1
theorem dX12_askIsOver_20 : decode cX12_askIsOver 20 = .ok (.getfield 193, 3) := bdX12_askIsOver_0.2.2.2.2.2.2.2.2.2.2.2.2.1
theorem dX12_askIsOver_23 : decode cX12_askIsOver 23 = .ok (.iconst 1, 1) := bdX12_askIsOver_0.2.2.2.2.2.2.2.2.2.2.2.2.2.1
theorem dX12_askIsOver_24 : decode cX12_askIsOver 24 = .ok (.isub, 1) := bdX12_askIsOver_0.2.2.2.2.2.2.2.2.2.2.2.2.2.2.1
theorem dX12_askIsOver_25 : decode cX12_askIsOver 25 = .ok (.putfield 193, 3) := bdX12_askIsOver_0.2.2.2.2.2.2.2.2.2.2.2.2.2.2.2
theorem bdX12_askIsOver_28 : (decode cX12_askIsOver 28 = .ok (.aload_n 0, 1)) ∧ (decode cX12_askIsOver 29 = .ok (.sipush 405, 3)) ∧ (decode cX12_askIsOver 32 = .ok (.iconst 0, 1)) ∧ (decode cX12_askIsOver 33 = .ok (.invokevirtual 211, 3)) ∧ (decode cX12_askIsOver 36 = .ok (.goto (-36), 3)) ∧ (decode cX12_askIsOver 39 = .ok (.aload_n 0, 1)) ∧ (decode cX12_askIsOver 40 = .ok (.iconst 3, 1)) ∧ (decode cX12_askIsOver 41 = .ok (.putfield 224, 3)) ∧ (decode cX12_askIsOver 44 = .ok (.return_, 1)) := by decide +kernel
theorem dX12_askIsOver_28 : decode cX12_askIsOver 28 = .ok (.aload_n 0, 1) := bdX12_askIsOver_28.1
theorem dX12_askIsOver_29 : decode cX12_askIsOver 29 = .ok (.sipush 405, 3) := bdX12_askIsOver_28.2.1
theorem dX12_askIsOver_32 : decode cX12_askIsOver 32 = .ok (.iconst 0, 1) := bdX12_askIsOver_28.2.2.1
theorem dX12_askIsOver_33 : decode cX12_askIsOver 33 = .ok (.invokevirtual 211, 3) := bdX12_askIsOver_28.2.2.2.1
theorem dX12_askIsOver_36 : decode cX12_askIsOver 36 = .ok (.goto (-36), 3) := bdX12_askIsOver_28.2.2.2.2.1
theorem dX12_askIsOver_39 : decode cX12_askIsOver 39 = .ok (.aload_n 0, 1) := bdX12_askIsOver_28.2.2.2.2.2.1
theorem dX12_askIsOver_40 : decode cX12_askIsOver 40 = .ok (.iconst 3, 1) := bdX12_askIsOver_28.2.2.2.2.2.2.1
theorem dX12_askIsOver_41 : decode cX12_askIsOver 41 = .ok (.putfield 224, 3) := bdX12_askIsOver_28.2.2.2.2.2.2.2.1
theorem dX12_askIsOver_44 : decode cX12_askIsOver 44 = .ok (.return_, 1) := bdX12_askIsOver_28.2.2.2.2.2.2.2.2
def fX7_cut_36 (a0 : Nat) (m : xMem) : Option xMem := xLet (m.1 a0 4) fun x1 => (fX7_addToken a0 (0 : Int32) (0 : Int32) x1 m).bind fun p2 => some p2
set_option maxRecDepth 4000 in
theorem fX7_cut_36_ok {a0 : Nat} {d : Nat} (hd : 8 ≤ d) (ha0 : isReader a0) {o1 : Option Value} {o2 : Option Value} {m : xMem} {r : xMem} (q1 : xNoD o1 = true) (q2 : xNoD o2 = true) (h : fX7_cut_36 a0 m = some r) : xFx hh_52 cX7_cut d 36 [some (.ref a0), o1, o2] [] (xLay m) 0 0 none (xLay r) := by
  unfold fX7_cut_36 at h
  refine fx_aload_n dX7_cut_36 rfl rfl ?_
  refine fx_iconst (x := 0) dX7_cut_37 rfl (by decide) ?_
  refine fx_iconst (x := 0) dX7_cut_38 rfl (by decide) ?_
  refine fx_aload_n dX7_cut_39 rfl rfl ?_
  obtain ⟨x1, hx1, h⟩ := xLet_el h
  refine gx_get dX7_cut_40 rfl fd_7_31 ha0.1 rfl rfl hx1 ?_
  obtain ⟨p2, ep2, h⟩ := xBind_el h
  refine gx_callv (as := [.int (0 : Int32), .int (0 : Int32), .int x1]) (r := []) rfl dX7_cut_43 ca_7_63 rfl me_69 rfl rfl rfl rfl (ha0.1) rfl (fX7_addToken_ok (d := d) (by omega) ha0 ep2) rfl rfl ?_
  cases h
  exact fx_return dX7_cut_46 rfl rfl
def fX7_cut_9 (a0 : Nat) : Nat → Int32 → Int32 → xMem → Option xMem
  | 0, _, _, _ => none
  | fuel + 1, l1, l2, m => if (300 : Int32) ≤ l2 then fX7_cut_36 a0 m else xLet (m.1 a0 4) fun x2 => if x2 ≤ l1 then fX7_cut_36 a0 m else (fX7_cutOne a0 l1 m).bind fun p4 => xLet (l2 + (1 : Int32)) fun x5 => fX7_cut_9 a0 fuel p4.1 x5 p4.2
set_option maxRecDepth 4000 in
theorem fX7_cut_9_ok {a0 : Nat} {d : Nat} (hd : 8 ≤ d) (ha0 : isReader a0) : ∀ (fuel : Nat) (l1 : Int32) (l2 : Int32) (m : xMem) (r : xMem), fX7_cut_9 a0 fuel l1 l2 m = some r → xFx hh_52 cX7_cut d 9 [some (.ref a0), some (.int l1), some (.int l2)] [] (xLay m) 0 0 none (xLay r) := by
  intro fuel
  induction fuel with
  | zero => intro l1 l2  m r  h; cases h
  | succ fuel ih =>
    intro l1 l2  m r  h
    unfold fX7_cut_9 at h
    refine fx_iload_n dX7_cut_9 rfl rfl ?_
    refine fx_sipush (x := 300) dX7_cut_10 rfl (by decide) ?_
    refine fx_icmp_ge (t := 36) dX7_cut_13 rfl rfl (fun hc1 => ?_) (fun hc1 => ?_)
    · rw [if_pos hc1] at h
      exact fX7_cut_36_ok (o1 := some (.int l1)) (o2 := some (.int l2)) hd ha0 rfl rfl h
    · rw [if_neg hc1] at h
      refine fx_iload_n dX7_cut_16 rfl rfl ?_
      refine fx_aload_n dX7_cut_17 rfl rfl ?_
      obtain ⟨x2, hx2, h⟩ := xLet_el h
      refine gx_get dX7_cut_18 rfl fd_7_31 ha0.1 rfl rfl hx2 ?_
      refine fx_icmp_ge (t := 36) dX7_cut_21 rfl rfl (fun hc3 => ?_) (fun hc3 => ?_)
      · rw [if_pos hc3] at h
        exact fX7_cut_36_ok (o1 := some (.int l1)) (o2 := some (.int l2)) hd ha0 rfl rfl h
      · rw [if_neg hc3] at h
        refine fx_aload_n dX7_cut_24 rfl rfl ?_
        refine fx_iload_n dX7_cut_25 rfl rfl ?_
        obtain ⟨p4, ep4, h⟩ := xBind_el h
        refine gx_callv (as := [.int l1]) (r := []) rfl dX7_cut_26 ca_7_59 rfl me_53 rfl rfl rfl rfl (ha0.1) rfl (fX7_cutOne_ok (d := d) (by omega) ha0 ep4) rfl rfl ?_
        refine fx_istore_n (ls2 := [some (.ref a0), some (.int p4.1), some (.int l2)]) dX7_cut_29 rfl rfl rfl ?_
        obtain ⟨x5, hx5, h⟩ := xLet_el h
        refine fx_iinc (ls2 := [some (.ref a0), some (.int p4.1), some (.int x5)]) dX7_cut_30 rfl rfl rfl hx5 rfl ?_
        refine fx_goto (t := 9) dX7_cut_33 rfl rfl ?_
        exact ih p4.1 x5 p4.2 r h
def fX7_cut_0 (a0 : Nat) (m : xMem) : Option xMem := xLet (xPut m a0 7 (0 : Int32)) fun m1 => fX7_cut_9 a0 xFuel (0 : Int32) (0 : Int32) m1
set_option maxRecDepth 4000 in
theorem fX7_cut_0_ok {a0 : Nat} {d : Nat} (hd : 8 ≤ d) (ha0 : isReader a0) {o1 : Option Value} {o2 : Option Value} {m : xMem} {r : xMem} (q1 : xNoD o1 = true) (q2 : xNoD o2 = true) (h : fX7_cut_0 a0 m = some r) : xFx hh_52 cX7_cut d 0 [some (.ref a0), o1, o2] [] (xLay m) 0 0 none (xLay r) := by
  unfold fX7_cut_0 at h
  refine fx_aload_n dX7_cut_0 rfl rfl ?_
  refine fx_iconst (x := 0) dX7_cut_1 rfl (by decide) ?_
  obtain ⟨m1, hm1, h⟩ := xLet_el h
  refine gx_put dX7_cut_2 rfl fd_7_48 ha0.1 rfl rfl rfl hm1 ?_
  refine fx_iconst (x := 0) dX7_cut_5 rfl (by decide) ?_
  refine fx_istore_n (ls2 := [some (.ref a0), some (.int (0 : Int32)), o2]) dX7_cut_6 rfl rfl rfl ?_
  refine fx_iconst (x := 0) dX7_cut_7 rfl (by decide) ?_
  refine fx_istore_n (ls2 := [some (.ref a0), some (.int (0 : Int32)), some (.int (0 : Int32))]) dX7_cut_8 rfl rfl rfl ?_
  exact fX7_cut_9_ok hd ha0 xFuel (0 : Int32) (0 : Int32) m1 r h
def fX7_cut (a0 : Nat) (m : xMem) : Option xMem := fX7_cut_0 a0  m
theorem fX7_cut_ok {a0 : Nat} {m : xMem} {r : xMem} {d : Nat} (hd : 9 ≤ d) (ha0 : isReader a0) (h : fX7_cut a0 m = some r) : xEx d 52 [.ref a0] (xLay m) none (xLay r) := by
  obtain ⟨d, rfl⟩ : ∃ q, d = q + 1 := ⟨d - 1, by omega⟩
  exact xEx_of me_52 rfl (fX7_cut_0_ok (d := d) (o1 := none) (o2 := none) (by omega) ha0 rfl rfl h)
def fX7_readInto_67 (a0 : Nat) (a1 : Nat) (m : xMem) : Option (Int32 × xMem) := some ((1 : Int32), m)
set_option maxRecDepth 4000 in
theorem fX7_readInto_67_ok {a0 : Nat} {a1 : Nat} {d : Nat} (hd : 47 ≤ d) (ha0 : isReader a0) (ha1 : isText a1) {o2 : Option Value} {m : xMem} {r : (Int32 × xMem)} (q2 : xNoD o2 = true) (h : fX7_readInto_67 a0 a1 m = some r) : xFx hh_51 cX7_readInto d 67 [some (.ref a0), some (.ref a1), o2] [] (xLay m) 0 0 (some (.int r.1)) (xLay r.2) := by
  unfold fX7_readInto_67 at h
  refine fx_iconst (x := 1) dX7_readInto_67 rfl (by decide) ?_
  cases h
  exact fx_ireturn dX7_readInto_68 rfl rfl
def fX7_readInto_36 (a0 : Nat) (a1 : Nat) : Nat → Int32 → xMem → Option (Int32 × xMem)
  | 0, _, _ => none
  | fuel + 1, l2, m => xLet (m.1 a0 7) fun x1 => if x1 ≤ l2 then fX7_readInto_67 a0 a1 m else (fX7_kind a0 m).bind fun p3 => if p3.1 = (0 : Int32) then fX7_readInto_67 a0 a1 p3.2 else (fX7_readClause a0 a1 p3.2).bind fun p5 => if ¬ p5.1 = (0 : Int32) then xLet (l2 + (1 : Int32)) fun x7 => fX7_readInto_36 a0 a1 fuel x7 p5.2 else some ((0 : Int32), p5.2)
set_option maxRecDepth 4000 in
theorem fX7_readInto_36_ok {a0 : Nat} {a1 : Nat} {d : Nat} (hd : 47 ≤ d) (ha0 : isReader a0) (ha1 : isText a1) : ∀ (fuel : Nat) (l2 : Int32) (m : xMem) (r : (Int32 × xMem)), fX7_readInto_36 a0 a1 fuel l2 m = some r → xFx hh_51 cX7_readInto d 36 [some (.ref a0), some (.ref a1), some (.int l2)] [] (xLay m) 0 0 (some (.int r.1)) (xLay r.2) := by
  intro fuel
  induction fuel with
  | zero => intro l2  m r  h; cases h
  | succ fuel ih =>
    intro l2  m r  h
    unfold fX7_readInto_36 at h
    refine fx_iload_n dX7_readInto_36 rfl rfl ?_
    refine fx_aload_n dX7_readInto_37 rfl rfl ?_
    obtain ⟨x1, hx1, h⟩ := xLet_el h
    refine gx_get dX7_readInto_38 rfl fd_7_48 ha0.1 rfl rfl hx1 ?_
    refine fx_icmp_ge (t := 67) dX7_readInto_41 rfl rfl (fun hc2 => ?_) (fun hc2 => ?_)
    · rw [if_pos hc2] at h
      exact fX7_readInto_67_ok (o2 := some (.int l2)) hd ha0 ha1 rfl h
    · rw [if_neg hc2] at h
      refine fx_aload_n dX7_readInto_44 rfl rfl ?_
      obtain ⟨p3, ep3, h⟩ := xBind_el h
      refine gx_callv (as := []) (r := []) rfl dX7_readInto_45 ca_7_51 rfl me_72 rfl rfl rfl rfl (ha0.1) rfl (fX7_kind_ok (d := d) (by omega) ha0 ep3) rfl rfl ?_
      refine fx_if_eq (t := 67) dX7_readInto_48 rfl rfl (fun hc4 => ?_) (fun hc4 => ?_)
      · rw [if_pos hc4] at h
        exact fX7_readInto_67_ok (o2 := some (.int l2)) hd ha0 ha1 rfl h
      · rw [if_neg hc4] at h
        refine fx_aload_n dX7_readInto_51 rfl rfl ?_
        refine fx_aload_n dX7_readInto_52 rfl rfl ?_
        obtain ⟨p5, ep5, h⟩ := xBind_el h
        refine gx_callv (as := [.ref a1]) (r := []) rfl dX7_readInto_53 ca_7_55 rfl me_73 rfl rfl rfl rfl (ha0.1) rfl (fX7_readClause_ok (d := d) (by omega) ha0 ha1 ep5) rfl rfl ?_
        refine fx_if_ne (t := 61) dX7_readInto_56 rfl rfl (fun hc6 => ?_) (fun hc6 => ?_)
        · rw [if_pos hc6] at h
          obtain ⟨x7, hx7, h⟩ := xLet_el h
          refine fx_iinc (ls2 := [some (.ref a0), some (.ref a1), some (.int x7)]) dX7_readInto_61 rfl rfl rfl hx7 rfl ?_
          refine fx_goto (t := 36) dX7_readInto_64 rfl rfl ?_
          exact ih x7 p5.2 r h
        · rw [if_neg hc6] at h
          refine fx_iconst (x := 0) dX7_readInto_59 rfl (by decide) ?_
          cases h
          exact fx_ireturn dX7_readInto_60 rfl rfl
def fX7_readInto_0 (a0 : Nat) (a1 : Nat) (m : xMem) : Option (Int32 × xMem) := (fX7_cut a0 m).bind fun p1 => xLet (xPut p1 a0 4 (0 : Int32)) fun m2 => xLet (xPut m2 a0 8 (0 : Int32)) fun m3 => xLet (xPut m3 a0 5 (0 : Int32)) fun m4 => xLet (xPut m4 a0 6 (-1 : Int32)) fun m5 => xLet (xPut m5 a1 5 (0 : Int32)) fun m6 => xLet (xPut m6 a1 6 (0 : Int32)) fun m7 => fX7_readInto_36 a0 a1 xFuel (0 : Int32) m7
set_option maxRecDepth 4000 in
theorem fX7_readInto_0_ok {a0 : Nat} {a1 : Nat} {d : Nat} (hd : 47 ≤ d) (ha0 : isReader a0) (ha1 : isText a1) {o2 : Option Value} {m : xMem} {r : (Int32 × xMem)} (q2 : xNoD o2 = true) (h : fX7_readInto_0 a0 a1 m = some r) : xFx hh_51 cX7_readInto d 0 [some (.ref a0), some (.ref a1), o2] [] (xLay m) 0 0 (some (.int r.1)) (xLay r.2) := by
  unfold fX7_readInto_0 at h
  refine fx_aload_n dX7_readInto_0 rfl rfl ?_
  obtain ⟨p1, ep1, h⟩ := xBind_el h
  refine gx_callv (as := []) (r := []) rfl dX7_readInto_1 ca_7_34 rfl me_52 rfl rfl rfl rfl (ha0.1) rfl (fX7_cut_ok (d := d) (by omega) ha0 ep1) rfl rfl ?_
  refine fx_aload_n dX7_readInto_4 rfl rfl ?_
  refine fx_iconst (x := 0) dX7_readInto_5 rfl (by decide) ?_
  obtain ⟨m2, hm2, h⟩ := xLet_el h
  refine gx_put dX7_readInto_6 rfl fd_7_31 ha0.1 rfl rfl rfl hm2 ?_
  refine fx_aload_n dX7_readInto_9 rfl rfl ?_
  refine fx_iconst (x := 0) dX7_readInto_10 rfl (by decide) ?_
  obtain ⟨m3, hm3, h⟩ := xLet_el h
  refine gx_put dX7_readInto_11 rfl fd_7_37 ha0.1 rfl rfl rfl hm3 ?_
  refine fx_aload_n dX7_readInto_14 rfl rfl ?_
  refine fx_iconst (x := 0) dX7_readInto_15 rfl (by decide) ?_
  obtain ⟨m4, hm4, h⟩ := xLet_el h
  refine gx_put dX7_readInto_16 rfl fd_7_24 ha0.1 rfl rfl rfl hm4 ?_
  refine fx_aload_n dX7_readInto_19 rfl rfl ?_
  refine fx_iconst (x := -1) dX7_readInto_20 rfl (by decide) ?_
  obtain ⟨m5, hm5, h⟩ := xLet_el h
  refine gx_put dX7_readInto_21 rfl fd_7_28 ha0.1 rfl rfl rfl hm5 ?_
  refine fx_aload_n dX7_readInto_24 rfl rfl ?_
  refine fx_iconst (x := 0) dX7_readInto_25 rfl (by decide) ?_
  obtain ⟨m6, hm6, h⟩ := xLet_el h
  refine gx_put dX7_readInto_26 rfl fd_7_40 ha1.1 rfl rfl rfl hm6 ?_
  refine fx_aload_n dX7_readInto_29 rfl rfl ?_
  refine fx_iconst (x := 0) dX7_readInto_30 rfl (by decide) ?_
  obtain ⟨m7, hm7, h⟩ := xLet_el h
  refine gx_put dX7_readInto_31 rfl fd_7_45 ha1.1 rfl rfl rfl hm7 ?_
  refine fx_iconst (x := 0) dX7_readInto_34 rfl (by decide) ?_
  refine fx_istore_n (ls2 := [some (.ref a0), some (.ref a1), some (.int (0 : Int32))]) dX7_readInto_35 rfl rfl rfl ?_
  exact fX7_readInto_36_ok hd ha0 ha1 xFuel (0 : Int32) m7 r h
def fX7_readInto (a0 : Nat) (a1 : Nat) (m : xMem) : Option (Int32 × xMem) := fX7_readInto_0 a0 a1  m
theorem fX7_readInto_ok {a0 : Nat} {a1 : Nat} {m : xMem} {r : (Int32 × xMem)} {d : Nat} (hd : 48 ≤ d) (ha0 : isReader a0) (ha1 : isText a1) (h : fX7_readInto a0 a1 m = some r) : xEx d 51 [.ref a0, .ref a1] (xLay m) (some (.int r.1)) (xLay r.2) := by
  obtain ⟨d, rfl⟩ : ∃ q, d = q + 1 := ⟨d - 1, by omega⟩
  exact xEx_of me_51 rfl (fX7_readInto_0_ok (d := d) (o2 := none) (by omega) ha0 ha1 rfl h)
def fX11_text_0 (a0 : Nat) (m : xMem) : Option (Int32 × xMem) := xLet (m.1 (a0 + 1) 10) fun x1 => (fX11_within x1 (0 : Int32) (3 : Int32) m).bind fun p2 => if ¬ p2.1 = (0 : Int32) then xLet (p2.2.1 (a0 + 1) 10) fun x4 => bif xIn x4 4 then xLet (a0 + 267 + 6 * x4.toNatClampNeg) fun r6 => (fX7_readInto (a0 + 255) r6 p2.2).bind fun p7 => if ¬ p7.1 = (0 : Int32) then xLet (p7.2.1 (a0 + 1) 10) fun x9 => xLet (x9 + (1 : Int32)) fun x10 => xLet (xPut p7.2 (a0 + 1) 10 x10) fun m11 => xLet (m11.1 (a0 + 1) 10) fun x12 => xLet (x12 - (1 : Int32)) fun x13 => some (x13, m11) else some ((-1 : Int32), p7.2) else none else some ((-1 : Int32), p2.2)
set_option maxRecDepth 4000 in
theorem fX11_text_0_ok {a0 : Nat} {d : Nat} (hd : 48 ≤ d) (ha0 : isMS a0) {m : xMem} {r : (Int32 × xMem)} (h : fX11_text_0 a0 m = some r) : xFx hh_50 cX11_text d 0 [some (.ref a0)] [] (xLay m) 0 0 (some (.int r.1)) (xLay r.2) := by
  unfold fX11_text_0 at h
  refine fx_aload_n dX11_text_0 rfl rfl ?_
  refine gx_getr dX11_text_1 rfl fd_11_10 ha0.1 rfl rfl ?_
  obtain ⟨x1, hx1, h⟩ := xLet_el h
  refine gx_get dX11_text_4 rfl fd_11_143 ha0.2.1.1 rfl rfl hx1 ?_
  refine fx_iconst (x := 0) dX11_text_7 rfl (by decide) ?_
  refine fx_iconst (x := 3) dX11_text_8 rfl (by decide) ?_
  obtain ⟨p2, ep2, h⟩ := xBind_el h
  refine gx_calls (as := [.int x1, .int (0 : Int32), .int (3 : Int32)]) (r := []) rfl dX11_text_9 ca_11_47 rfl me_14 rfl rfl rfl rfl (fX11_within_ok (d := d) (by omega) ep2) rfl rfl ?_
  refine fx_if_ne (t := 17) dX11_text_12 rfl rfl (fun hc3 => ?_) (fun hc3 => ?_)
  · rw [if_pos hc3] at h
    refine fx_aload_n dX11_text_17 rfl rfl ?_
    refine gx_getr dX11_text_18 rfl fd_11_32 ha0.1 rfl rfl ?_
    refine fx_aload_n dX11_text_21 rfl rfl ?_
    refine gx_getr dX11_text_22 rfl fd_11_43 ha0.1 rfl rfl ?_
    refine fx_aload_n dX11_text_25 rfl rfl ?_
    refine gx_getr dX11_text_26 rfl fd_11_10 ha0.1 rfl rfl ?_
    obtain ⟨x4, hx4, h⟩ := xLet_el h
    refine gx_get dX11_text_29 rfl fd_11_143 ha0.2.1.1 rfl rfl hx4 ?_
    obtain ⟨hj5, h⟩ := xChk_el h
    obtain ⟨r6, hr6, h⟩ := xLet_el h
    refine gx_aaload (t := 7) dX11_text_32 rfl ha0.2.2.2.2.2.2.2.1 rfl hj5 ((xRef_at (sl_11_6 a0) hj5).trans (congrArg some hr6)) ?_
    have hpr6 : isText r6 := by rw [← hr6]; exact ha0.2.2.2.2.2.2.2.2 _ (xIn_lt hj5)
    obtain ⟨p7, ep7, h⟩ := xBind_el h
    refine gx_callv (as := [.ref r6]) (r := []) rfl dX11_text_33 ca_11_146 rfl me_51 rfl rfl rfl rfl (ha0.2.2.2.2.2.1.1) rfl (fX7_readInto_ok (d := d) (by omega) ha0.2.2.2.2.2.1 hpr6 ep7) rfl rfl ?_
    refine fx_if_ne (t := 41) dX11_text_36 rfl rfl (fun hc8 => ?_) (fun hc8 => ?_)
    · rw [if_pos hc8] at h
      refine fx_aload_n dX11_text_41 rfl rfl ?_
      refine gx_getr dX11_text_42 rfl fd_11_10 ha0.1 rfl rfl ?_
      refine fx_dup dX11_text_45 rfl rfl ?_
      obtain ⟨x9, hx9, h⟩ := xLet_el h
      refine gx_get dX11_text_46 rfl fd_11_143 ha0.2.1.1 rfl rfl hx9 ?_
      refine fx_iconst (x := 1) dX11_text_49 rfl (by decide) ?_
      obtain ⟨x10, hx10, h⟩ := xLet_el h
      refine fx_iadd dX11_text_50 rfl hx10 ?_
      obtain ⟨m11, hm11, h⟩ := xLet_el h
      refine gx_put dX11_text_51 rfl fd_11_143 ha0.2.1.1 rfl rfl rfl hm11 ?_
      refine fx_aload_n dX11_text_54 rfl rfl ?_
      refine gx_getr dX11_text_55 rfl fd_11_10 ha0.1 rfl rfl ?_
      obtain ⟨x12, hx12, h⟩ := xLet_el h
      refine gx_get dX11_text_58 rfl fd_11_143 ha0.2.1.1 rfl rfl hx12 ?_
      refine fx_iconst (x := 1) dX11_text_61 rfl (by decide) ?_
      obtain ⟨x13, hx13, h⟩ := xLet_el h
      refine fx_isub dX11_text_62 rfl hx13 ?_
      cases h
      exact fx_ireturn dX11_text_63 rfl rfl
    · rw [if_neg hc8] at h
      refine fx_iconst (x := -1) dX11_text_39 rfl (by decide) ?_
      cases h
      exact fx_ireturn dX11_text_40 rfl rfl
  · rw [if_neg hc3] at h
    refine fx_iconst (x := -1) dX11_text_15 rfl (by decide) ?_
    cases h
    exact fx_ireturn dX11_text_16 rfl rfl
def fX11_text (a0 : Nat) (m : xMem) : Option (Int32 × xMem) := fX11_text_0 a0  m
theorem fX11_text_ok {a0 : Nat} {m : xMem} {r : (Int32 × xMem)} {d : Nat} (hd : 49 ≤ d) (ha0 : isMS a0) (h : fX11_text a0 m = some r) : xEx d 50 [.ref a0] (xLay m) (some (.int r.1)) (xLay r.2) := by
  obtain ⟨d, rfl⟩ : ∃ q, d = q + 1 := ⟨d - 1, by omega⟩
  exact xEx_of me_50 rfl (fX11_text_0_ok (d := d) (by omega) ha0 h)
def fX12_emits_0 (a0 : Nat) (a1 : Int32) (a2 : Int32) (m : xMem) : Option xMem := xLet (m.1 a0 31) fun x1 => bif xIn x1 400 then xLet (xPut m (a0 + 16) x1.toNatClampNeg a1) fun m2 => xLet (m2.1 a0 31) fun x4 => bif xIn x4 400 then xLet (xPut m2 (a0 + 17) x4.toNatClampNeg a2) fun m5 => xLet (m5.1 a0 31) fun x7 => xLet (x7 + (1 : Int32)) fun x8 => xLet (xPut m5 a0 31 x8) fun m9 => some m9 else none else none
set_option maxRecDepth 4000 in
theorem fX12_emits_0_ok {a0 : Nat} {a1 : Int32} {a2 : Int32} {d : Nat} (hd : 0 ≤ d) (ha0 : isModel a0) {m : xMem} {r : xMem} (h : fX12_emits_0 a0 a1 a2 m = some r) : xFx hh_96 cX12_emits d 0 [some (.ref a0), some (.int a1), some (.int a2)] [] (xLay m) 0 0 none (xLay r) := by
  unfold fX12_emits_0 at h
  refine fx_aload_n dX12_emits_0 rfl rfl ?_
  refine gx_getr dX12_emits_1 rfl fd_12_63 ha0.1 rfl rfl ?_
  refine fx_aload_n dX12_emits_4 rfl rfl ?_
  obtain ⟨x1, hx1, h⟩ := xLet_el h
  refine gx_get dX12_emits_5 rfl fd_12_187 ha0.1 rfl rfl hx1 ?_
  refine fx_iload_n dX12_emits_8 rfl rfl ?_
  obtain ⟨hj3, h⟩ := xChk_el h
  obtain ⟨m2, hm2, h⟩ := xLet_el h
  refine gx_iastore dX12_emits_9 rfl ha0.2.2.2.2.2.2.2.2.2.2.2.2.2.2.2.2.1 hj3 hm2 ?_
  refine fx_aload_n dX12_emits_10 rfl rfl ?_
  refine gx_getr dX12_emits_11 rfl fd_12_66 ha0.1 rfl rfl ?_
  refine fx_aload_n dX12_emits_14 rfl rfl ?_
  obtain ⟨x4, hx4, h⟩ := xLet_el h
  refine gx_get dX12_emits_15 rfl fd_12_187 ha0.1 rfl rfl hx4 ?_
  refine fx_iload_n dX12_emits_18 rfl rfl ?_
  obtain ⟨hj6, h⟩ := xChk_el h
  obtain ⟨m5, hm5, h⟩ := xLet_el h
  refine gx_iastore dX12_emits_19 rfl ha0.2.2.2.2.2.2.2.2.2.2.2.2.2.2.2.2.2.1 hj6 hm5 ?_
  refine fx_aload_n dX12_emits_20 rfl rfl ?_
  refine fx_dup dX12_emits_21 rfl rfl ?_
  obtain ⟨x7, hx7, h⟩ := xLet_el h
  refine gx_get dX12_emits_22 rfl fd_12_187 ha0.1 rfl rfl hx7 ?_
  refine fx_iconst (x := 1) dX12_emits_25 rfl (by decide) ?_
  obtain ⟨x8, hx8, h⟩ := xLet_el h
  refine fx_iadd dX12_emits_26 rfl hx8 ?_
  obtain ⟨m9, hm9, h⟩ := xLet_el h
  refine gx_put dX12_emits_27 rfl fd_12_187 ha0.1 rfl rfl rfl hm9 ?_
  cases h
  exact fx_return dX12_emits_30 rfl rfl
def fX12_emits (a0 : Nat) (a1 : Int32) (a2 : Int32) (m : xMem) : Option xMem := fX12_emits_0 a0 a1 a2  m
theorem fX12_emits_ok {a0 : Nat} {a1 : Int32} {a2 : Int32} {m : xMem} {r : xMem} {d : Nat} (hd : 1 ≤ d) (ha0 : isModel a0) (h : fX12_emits a0 a1 a2 m = some r) : xEx d 96 [.ref a0, .int a1, .int a2] (xLay m) none (xLay r) := by
  obtain ⟨d, rfl⟩ : ∃ q, d = q + 1 := ⟨d - 1, by omega⟩
  exact xEx_of me_96 rfl (fX12_emits_0_ok (d := d) (by omega) ha0 h)
def fX12_top_0 (a0 : Nat) (m : xMem) : Option (Int32 × xMem) := xLet (m.1 a0 20) fun x1 => xLet (x1 - (1 : Int32)) fun x2 => bif xIn x2 40 then xLet (m.1 (a0 + 10) x2.toNatClampNeg) fun x3 => some (x3, m) else none
set_option maxRecDepth 4000 in
theorem fX12_top_0_ok {a0 : Nat} {d : Nat} (hd : 0 ≤ d) (ha0 : isModel a0) {m : xMem} {r : (Int32 × xMem)} (h : fX12_top_0 a0 m = some r) : xFx hh_98 cX12_top d 0 [some (.ref a0)] [] (xLay m) 0 0 (some (.int r.1)) (xLay r.2) := by
  unfold fX12_top_0 at h
  refine fx_aload_n dX12_top_0 rfl rfl ?_
  refine gx_getr dX12_top_1 rfl fd_12_45 ha0.1 rfl rfl ?_
  refine fx_aload_n dX12_top_4 rfl rfl ?_
  obtain ⟨x1, hx1, h⟩ := xLet_el h
  refine gx_get dX12_top_5 rfl fd_12_190 ha0.1 rfl rfl hx1 ?_
  refine fx_iconst (x := 1) dX12_top_8 rfl (by decide) ?_
  obtain ⟨x2, hx2, h⟩ := xLet_el h
  refine fx_isub dX12_top_9 rfl hx2 ?_
  obtain ⟨hj4, h⟩ := xChk_el h
  obtain ⟨x3, hx3, h⟩ := xLet_el h
  refine gx_iaload dX12_top_10 rfl ha0.2.2.2.2.2.2.2.2.2.2.1 hj4 hx3 ?_
  cases h
  exact fx_ireturn dX12_top_11 rfl rfl
def fX12_top (a0 : Nat) (m : xMem) : Option (Int32 × xMem) := fX12_top_0 a0  m
theorem fX12_top_ok {a0 : Nat} {m : xMem} {r : (Int32 × xMem)} {d : Nat} (hd : 1 ≤ d) (ha0 : isModel a0) (h : fX12_top a0 m = some r) : xEx d 98 [.ref a0] (xLay m) (some (.int r.1)) (xLay r.2) := by
  obtain ⟨d, rfl⟩ : ∃ q, d = q + 1 := ⟨d - 1, by omega⟩
  exact xEx_of me_98 rfl (fX12_top_0_ok (d := d) (by omega) ha0 h)
def fX12_oneIsOver_0 (a0 : Nat) : Nat → xMem → Option xMem
  | 0, _ => none
  | fuel + 1, m => (fX12_top a0 m).bind fun p1 => if ¬ p1.1 = (7 : Int32) then xLet (xPut p1.2 a0 26 (2 : Int32)) fun m3 => some m3 else xLet (p1.2.1 a0 20) fun x4 => xLet (x4 - (1 : Int32)) fun x5 => xLet (xPut p1.2 a0 20 x5) fun m6 => xLet (m6.1 a0 19) fun x7 => xLet (x7 - (1 : Int32)) fun x8 => xLet (xPut m6 a0 19 x8) fun m9 => (fX12_emits a0 (402 : Int32) (0 : Int32) m9).bind fun p10 => fX12_oneIsOver_0 a0 fuel p10
set_option maxRecDepth 4000 in
theorem fX12_oneIsOver_0_ok {a0 : Nat} {d : Nat} (hd : 1 ≤ d) (ha0 : isModel a0) : ∀ (fuel : Nat) (m : xMem) (r : xMem), fX12_oneIsOver_0 a0 fuel m = some r → xFx hh_97 cX12_oneIsOver d 0 [some (.ref a0)] [] (xLay m) 0 0 none (xLay r) := by
  intro fuel
  induction fuel with
  | zero => intro   m r  h; cases h
  | succ fuel ih =>
    intro   m r  h
    unfold fX12_oneIsOver_0 at h
    refine fx_aload_n dX12_oneIsOver_0 rfl rfl ?_
    obtain ⟨p1, ep1, h⟩ := xBind_el h
    refine gx_callv (as := []) (r := []) rfl dX12_oneIsOver_1 ca_12_236 rfl me_98 rfl rfl rfl rfl (ha0.1) rfl (fX12_top_ok (d := d) (by omega) ha0 ep1) rfl rfl ?_
    refine fx_bipush (x := 7) dX12_oneIsOver_4 rfl (by decide) ?_
    refine fx_icmp_ne (t := 40) dX12_oneIsOver_6 rfl rfl (fun hc2 => ?_) (fun hc2 => ?_)
    · rw [if_pos hc2] at h
      refine fx_aload_n dX12_oneIsOver_40 rfl rfl ?_
      refine fx_iconst (x := 2) dX12_oneIsOver_41 rfl (by decide) ?_
      obtain ⟨m3, hm3, h⟩ := xLet_el h
      refine gx_put dX12_oneIsOver_42 rfl fd_12_224 ha0.1 rfl rfl rfl hm3 ?_
      cases h
      exact fx_return dX12_oneIsOver_45 rfl rfl
    · rw [if_neg hc2] at h
      refine fx_aload_n dX12_oneIsOver_9 rfl rfl ?_
      refine fx_dup dX12_oneIsOver_10 rfl rfl ?_
      obtain ⟨x4, hx4, h⟩ := xLet_el h
      refine gx_get dX12_oneIsOver_11 rfl fd_12_190 ha0.1 rfl rfl hx4 ?_
      refine fx_iconst (x := 1) dX12_oneIsOver_14 rfl (by decide) ?_
      obtain ⟨x5, hx5, h⟩ := xLet_el h
      refine fx_isub dX12_oneIsOver_15 rfl hx5 ?_
      obtain ⟨m6, hm6, h⟩ := xLet_el h
      refine gx_put dX12_oneIsOver_16 rfl fd_12_190 ha0.1 rfl rfl rfl hm6 ?_
      refine fx_aload_n dX12_oneIsOver_19 rfl rfl ?_
      refine fx_dup dX12_oneIsOver_20 rfl rfl ?_
      obtain ⟨x7, hx7, h⟩ := xLet_el h
      refine gx_get dX12_oneIsOver_21 rfl fd_12_193 ha0.1 rfl rfl hx7 ?_
      refine fx_iconst (x := 1) dX12_oneIsOver_24 rfl (by decide) ?_
      obtain ⟨x8, hx8, h⟩ := xLet_el h
      refine fx_isub dX12_oneIsOver_25 rfl hx8 ?_
      obtain ⟨m9, hm9, h⟩ := xLet_el h
      refine gx_put dX12_oneIsOver_26 rfl fd_12_193 ha0.1 rfl rfl rfl hm9 ?_
      refine fx_aload_n dX12_oneIsOver_29 rfl rfl ?_
      refine fx_sipush (x := 402) dX12_oneIsOver_30 rfl (by decide) ?_
      refine fx_iconst (x := 0) dX12_oneIsOver_33 rfl (by decide) ?_
      obtain ⟨p10, ep10, h⟩ := xBind_el h
      refine gx_callv (as := [.int (402 : Int32), .int (0 : Int32)]) (r := []) rfl dX12_oneIsOver_34 ca_12_211 rfl me_96 rfl rfl rfl rfl (ha0.1) rfl (fX12_emits_ok (d := d) (by omega) ha0 ep10) rfl rfl ?_
      refine fx_goto (t := 0) dX12_oneIsOver_37 rfl rfl ?_
      exact ih p10 r h
def fX12_oneIsOver (a0 : Nat) (m : xMem) : Option xMem := fX12_oneIsOver_0 a0 xFuel  m
theorem fX12_oneIsOver_ok {a0 : Nat} {m : xMem} {r : xMem} {d : Nat} (hd : 2 ≤ d) (ha0 : isModel a0) (h : fX12_oneIsOver a0 m = some r) : xEx d 97 [.ref a0] (xLay m) none (xLay r) := by
  obtain ⟨d, rfl⟩ : ∃ q, d = q + 1 := ⟨d - 1, by omega⟩
  exact xEx_of me_97 rfl (fX12_oneIsOver_0_ok (d := d) (by omega) ha0 xFuel m r h)
def fX12_isSign_21 (a0 : Nat) (a1 : Int32) (s0 : Int32) (m : xMem) : Option (Int32 × xMem) := bif (decide (s0 = 0) || decide (s0 = 1)) then some (s0, m) else none
set_option maxRecDepth 4000 in
theorem fX12_isSign_21_ok {a0 : Nat} {a1 : Int32} {d : Nat} (hd : 0 ≤ d) (ha0 : isModel a0) {s0 : Int32} {m : xMem} {r : (Int32 × xMem)} (h : fX12_isSign_21 a0 a1 s0 m = some r) : xFx hh_99 cX12_isSign d 21 [some (.ref a0), some (.int a1)] [.int s0] (xLay m) 0 0 (some (.int r.1)) (xLay r.2) := by
  unfold fX12_isSign_21 at h
  obtain ⟨hb1, h⟩ := xChk_el h
  cases h
  exact fx_ireturn dX12_isSign_21 rfl (by show ((decide _ || decide _) && _) = true; rw [hb1]; rfl)
def fX12_isSign_20 (a0 : Nat) (a1 : Int32) (m : xMem) : Option (Int32 × xMem) := fX12_isSign_21 a0 a1 (0 : Int32) m
set_option maxRecDepth 4000 in
theorem fX12_isSign_20_ok {a0 : Nat} {a1 : Int32} {d : Nat} (hd : 0 ≤ d) (ha0 : isModel a0) {m : xMem} {r : (Int32 × xMem)} (h : fX12_isSign_20 a0 a1 m = some r) : xFx hh_99 cX12_isSign d 20 [some (.ref a0), some (.int a1)] [] (xLay m) 0 0 (some (.int r.1)) (xLay r.2) := by
  unfold fX12_isSign_20 at h
  refine fx_iconst (x := 0) dX12_isSign_20 rfl (by decide) ?_
  exact fX12_isSign_21_ok hd ha0 h
def fX12_isSign_0 (a0 : Nat) (a1 : Int32) (m : xMem) : Option (Int32 × xMem) := xLet (m.1 a0 15) fun x1 => if ¬ x1 = (3 : Int32) then fX12_isSign_20 a0 a1 m else xLet (m.1 a0 16) fun x3 => if ¬ x3 = a1 then fX12_isSign_20 a0 a1 m else fX12_isSign_21 a0 a1 (1 : Int32) m
set_option maxRecDepth 4000 in
theorem fX12_isSign_0_ok {a0 : Nat} {a1 : Int32} {d : Nat} (hd : 0 ≤ d) (ha0 : isModel a0) {m : xMem} {r : (Int32 × xMem)} (h : fX12_isSign_0 a0 a1 m = some r) : xFx hh_99 cX12_isSign d 0 [some (.ref a0), some (.int a1)] [] (xLay m) 0 0 (some (.int r.1)) (xLay r.2) := by
  unfold fX12_isSign_0 at h
  refine fx_aload_n dX12_isSign_0 rfl rfl ?_
  obtain ⟨x1, hx1, h⟩ := xLet_el h
  refine gx_get dX12_isSign_1 rfl fd_12_166 ha0.1 rfl rfl hx1 ?_
  refine fx_iconst (x := 3) dX12_isSign_4 rfl (by decide) ?_
  refine fx_icmp_ne (t := 20) dX12_isSign_5 rfl rfl (fun hc2 => ?_) (fun hc2 => ?_)
  · rw [if_pos hc2] at h
    exact fX12_isSign_20_ok hd ha0 h
  · rw [if_neg hc2] at h
    refine fx_aload_n dX12_isSign_8 rfl rfl ?_
    obtain ⟨x3, hx3, h⟩ := xLet_el h
    refine gx_get dX12_isSign_9 rfl fd_12_178 ha0.1 rfl rfl hx3 ?_
    refine fx_iload_n dX12_isSign_12 rfl rfl ?_
    refine fx_icmp_ne (t := 20) dX12_isSign_13 rfl rfl (fun hc4 => ?_) (fun hc4 => ?_)
    · rw [if_pos hc4] at h
      exact fX12_isSign_20_ok hd ha0 h
    · rw [if_neg hc4] at h
      refine fx_iconst (x := 1) dX12_isSign_16 rfl (by decide) ?_
      refine fx_goto (t := 21) dX12_isSign_17 rfl rfl ?_
      exact fX12_isSign_21_ok hd ha0 h
def fX12_isSign (a0 : Nat) (a1 : Int32) (m : xMem) : Option (Int32 × xMem) := fX12_isSign_0 a0 a1  m
theorem fX12_isSign_ok {a0 : Nat} {a1 : Int32} {m : xMem} {r : (Int32 × xMem)} {d : Nat} (hd : 1 ≤ d) (ha0 : isModel a0) (h : fX12_isSign a0 a1 m = some r) : xEx d 99 [.ref a0, .int a1] (xLay m) (some (.int r.1)) (xLay r.2) := by
  obtain ⟨d, rfl⟩ : ∃ q, d = q + 1 := ⟨d - 1, by omega⟩
  exact xEx_of me_99 rfl (fX12_isSign_0_ok (d := d) (by omega) ha0 h)
def fX12_isLetter_27 (a0 : Int32) (s0 : Int32) (m : xMem) : Option (Int32 × xMem) := bif (decide (s0 = 0) || decide (s0 = 1)) then some (s0, m) else none
set_option maxRecDepth 4000 in
theorem fX12_isLetter_27_ok {a0 : Int32} {d : Nat} (hd : 1 ≤ d)  {s0 : Int32} {m : xMem} {r : (Int32 × xMem)} (h : fX12_isLetter_27 a0 s0 m = some r) : xFx hh_88 cX12_isLetter d 27 [some (.int a0)] [.int s0] (xLay m) 0 0 (some (.int r.1)) (xLay r.2) := by
  unfold fX12_isLetter_27 at h
  obtain ⟨hb1, h⟩ := xChk_el h
  cases h
  exact fx_ireturn dX12_isLetter_27 rfl (by show ((decide _ || decide _) && _) = true; rw [hb1]; rfl)
def fX12_isLetter_22 (a0 : Int32) (m : xMem) : Option (Int32 × xMem) := fX12_isLetter_27 a0 (1 : Int32) m
set_option maxRecDepth 4000 in
theorem fX12_isLetter_22_ok {a0 : Int32} {d : Nat} (hd : 1 ≤ d)  {m : xMem} {r : (Int32 × xMem)} (h : fX12_isLetter_22 a0 m = some r) : xFx hh_88 cX12_isLetter d 22 [some (.int a0)] [] (xLay m) 0 0 (some (.int r.1)) (xLay r.2) := by
  unfold fX12_isLetter_22 at h
  refine fx_iconst (x := 1) dX12_isLetter_22 rfl (by decide) ?_
  refine fx_goto (t := 27) dX12_isLetter_23 rfl rfl ?_
  exact fX12_isLetter_27_ok hd h
def fX12_isLetter_0 (a0 : Int32) (m : xMem) : Option (Int32 × xMem) := (fX12_in a0 (97 : Int32) (122 : Int32) m).bind fun p1 => if ¬ p1.1 = (0 : Int32) then fX12_isLetter_22 a0 p1.2 else (fX12_in a0 (65 : Int32) (90 : Int32) p1.2).bind fun p3 => if p3.1 = (0 : Int32) then fX12_isLetter_27 a0 (0 : Int32) p3.2 else fX12_isLetter_22 a0 p3.2
set_option maxRecDepth 4000 in
theorem fX12_isLetter_0_ok {a0 : Int32} {d : Nat} (hd : 1 ≤ d)  {m : xMem} {r : (Int32 × xMem)} (h : fX12_isLetter_0 a0 m = some r) : xFx hh_88 cX12_isLetter d 0 [some (.int a0)] [] (xLay m) 0 0 (some (.int r.1)) (xLay r.2) := by
  unfold fX12_isLetter_0 at h
  refine fx_iload_n dX12_isLetter_0 rfl rfl ?_
  refine fx_bipush (x := 97) dX12_isLetter_1 rfl (by decide) ?_
  refine fx_bipush (x := 122) dX12_isLetter_3 rfl (by decide) ?_
  obtain ⟨p1, ep1, h⟩ := xBind_el h
  refine gx_calls (as := [.int a0, .int (97 : Int32), .int (122 : Int32)]) (r := []) rfl dX12_isLetter_5 ca_12_95 rfl me_18 rfl rfl rfl rfl (fX12_in_ok (d := d) (by omega) ep1) rfl rfl ?_
  refine fx_if_ne (t := 22) dX12_isLetter_8 rfl rfl (fun hc2 => ?_) (fun hc2 => ?_)
  · rw [if_pos hc2] at h
    exact fX12_isLetter_22_ok hd h
  · rw [if_neg hc2] at h
    refine fx_iload_n dX12_isLetter_11 rfl rfl ?_
    refine fx_bipush (x := 65) dX12_isLetter_12 rfl (by decide) ?_
    refine fx_bipush (x := 90) dX12_isLetter_14 rfl (by decide) ?_
    obtain ⟨p3, ep3, h⟩ := xBind_el h
    refine gx_calls (as := [.int a0, .int (65 : Int32), .int (90 : Int32)]) (r := []) rfl dX12_isLetter_16 ca_12_95 rfl me_18 rfl rfl rfl rfl (fX12_in_ok (d := d) (by omega) ep3) rfl rfl ?_
    refine fx_if_eq (t := 26) dX12_isLetter_19 rfl rfl (fun hc4 => ?_) (fun hc4 => ?_)
    · rw [if_pos hc4] at h
      refine fx_iconst (x := 0) dX12_isLetter_26 rfl (by decide) ?_
      exact fX12_isLetter_27_ok hd h
    · rw [if_neg hc4] at h
      exact fX12_isLetter_22_ok hd h
def fX12_isLetter (a0 : Int32) (m : xMem) : Option (Int32 × xMem) := fX12_isLetter_0 a0  m
theorem fX12_isLetter_ok {a0 : Int32} {m : xMem} {r : (Int32 × xMem)} {d : Nat} (hd : 2 ≤ d)  (h : fX12_isLetter a0 m = some r) : xEx d 88 [.int a0] (xLay m) (some (.int r.1)) (xLay r.2) := by
  obtain ⟨d, rfl⟩ : ∃ q, d = q + 1 := ⟨d - 1, by omega⟩
  exact xEx_of me_88 rfl (fX12_isLetter_0_ok (d := d) (by omega) h)
def fX12_wordOf_0 (a0 : Int64) (m : xMem) : Option (Int32 × xMem) := xLet (lg_cmp a0 (14555947 : Int64)) fun x1 => if ¬ x1 = (0 : Int32) then xLet (lg_cmp a0 (13536628 : Int64)) fun x3 => if ¬ x3 = (0 : Int32) then xLet (lg_cmp a0 (9050347 : Int64)) fun x5 => if ¬ x5 = (0 : Int32) then xLet (lg_cmp a0 (3058 : Int64)) fun x7 => if ¬ x7 = (0 : Int32) then xLet (lg_cmp a0 (138148 : Int64)) fun x9 => if ¬ x9 = (0 : Int32) then xLet (lg_cmp a0 (191476 : Int64)) fun x11 => if ¬ x11 = (0 : Int32) then xLet (lg_cmp a0 (55390960548 : Int64)) fun x13 => if ¬ x13 = (0 : Int32) then xLet (lg_cmp a0 (10623788 : Int64)) fun x15 => if ¬ x15 = (0 : Int32) then xLet (lg_cmp a0 (599743412 : Int64)) fun x17 => if ¬ x17 = (0 : Int32) then xLet (lg_cmp a0 (13302765 : Int64)) fun x19 => if ¬ x19 = (0 : Int32) then xLet (lg_cmp a0 (3287609678117 : Int64)) fun x21 => if ¬ x21 = (0 : Int32) then xLet (lg_cmp a0 (869424179 : Int64)) fun x23 => if ¬ x23 = (0 : Int32) then xLet (lg_cmp a0 (11728996 : Int64)) fun x25 => if ¬ x25 = (0 : Int32) then xLet (lg_cmp a0 (14555764 : Int64)) fun x27 => if ¬ x27 = (0 : Int32) then some ((-1 : Int32), m) else some ((13 : Int32), m) else some ((12 : Int32), m) else some ((11 : Int32), m) else some ((10 : Int32), m) else some ((9 : Int32), m) else some ((8 : Int32), m) else some ((7 : Int32), m) else some ((6 : Int32), m) else some ((5 : Int32), m) else some ((4 : Int32), m) else some ((3 : Int32), m) else some ((2 : Int32), m) else some ((1 : Int32), m) else some ((0 : Int32), m)
set_option maxRecDepth 4000 in
theorem fX12_wordOf_0_ok {a0 : Int64} {d : Nat} (hd : 0 ≤ d)  {m : xMem} {r : (Int32 × xMem)} (h : fX12_wordOf_0 a0 m = some r) : xFx hh_89 cX12_wordOf d 0 [some (.long a0), none] [] (xLay m) 0 0 (some (.int r.1)) (xLay r.2) := by
  unfold fX12_wordOf_0 at h
  refine fx_lload_n dX12_wordOf_0 rfl rfl ?_
  refine fx_ldc2_w dX12_wordOf_1 rfl cl_12_129 ?_
  obtain ⟨x1, hx1, h⟩ := xLet_el h
  refine fx_lcmp dX12_wordOf_4 rfl hx1 ?_
  refine fx_if_ne (t := 10) dX12_wordOf_5 rfl rfl (fun hc2 => ?_) (fun hc2 => ?_)
  · rw [if_pos hc2] at h
    refine fx_lload_n dX12_wordOf_10 rfl rfl ?_
    refine fx_ldc2_w dX12_wordOf_11 rfl cl_12_131 ?_
    obtain ⟨x3, hx3, h⟩ := xLet_el h
    refine fx_lcmp dX12_wordOf_14 rfl hx3 ?_
    refine fx_if_ne (t := 20) dX12_wordOf_15 rfl rfl (fun hc4 => ?_) (fun hc4 => ?_)
    · rw [if_pos hc4] at h
      refine fx_lload_n dX12_wordOf_20 rfl rfl ?_
      refine fx_ldc2_w dX12_wordOf_21 rfl cl_12_133 ?_
      obtain ⟨x5, hx5, h⟩ := xLet_el h
      refine fx_lcmp dX12_wordOf_24 rfl hx5 ?_
      refine fx_if_ne (t := 30) dX12_wordOf_25 rfl rfl (fun hc6 => ?_) (fun hc6 => ?_)
      · rw [if_pos hc6] at h
        refine fx_lload_n dX12_wordOf_30 rfl rfl ?_
        refine fx_ldc2_w dX12_wordOf_31 rfl cl_12_135 ?_
        obtain ⟨x7, hx7, h⟩ := xLet_el h
        refine fx_lcmp dX12_wordOf_34 rfl hx7 ?_
        refine fx_if_ne (t := 40) dX12_wordOf_35 rfl rfl (fun hc8 => ?_) (fun hc8 => ?_)
        · rw [if_pos hc8] at h
          refine fx_lload_n dX12_wordOf_40 rfl rfl ?_
          refine fx_ldc2_w dX12_wordOf_41 rfl cl_12_137 ?_
          obtain ⟨x9, hx9, h⟩ := xLet_el h
          refine fx_lcmp dX12_wordOf_44 rfl hx9 ?_
          refine fx_if_ne (t := 50) dX12_wordOf_45 rfl rfl (fun hc10 => ?_) (fun hc10 => ?_)
          · rw [if_pos hc10] at h
            refine fx_lload_n dX12_wordOf_50 rfl rfl ?_
            refine fx_ldc2_w dX12_wordOf_51 rfl cl_12_139 ?_
            obtain ⟨x11, hx11, h⟩ := xLet_el h
            refine fx_lcmp dX12_wordOf_54 rfl hx11 ?_
            refine fx_if_ne (t := 60) dX12_wordOf_55 rfl rfl (fun hc12 => ?_) (fun hc12 => ?_)
            · rw [if_pos hc12] at h
              refine fx_lload_n dX12_wordOf_60 rfl rfl ?_
              refine fx_ldc2_w dX12_wordOf_61 rfl cl_12_141 ?_
              obtain ⟨x13, hx13, h⟩ := xLet_el h
              refine fx_lcmp dX12_wordOf_64 rfl hx13 ?_
              refine fx_if_ne (t := 71) dX12_wordOf_65 rfl rfl (fun hc14 => ?_) (fun hc14 => ?_)
              · rw [if_pos hc14] at h
                refine fx_lload_n dX12_wordOf_71 rfl rfl ?_
                refine fx_ldc2_w dX12_wordOf_72 rfl cl_12_143 ?_
                obtain ⟨x15, hx15, h⟩ := xLet_el h
                refine fx_lcmp dX12_wordOf_75 rfl hx15 ?_
                refine fx_if_ne (t := 82) dX12_wordOf_76 rfl rfl (fun hc16 => ?_) (fun hc16 => ?_)
                · rw [if_pos hc16] at h
                  refine fx_lload_n dX12_wordOf_82 rfl rfl ?_
                  refine fx_ldc2_w dX12_wordOf_83 rfl cl_12_145 ?_
                  obtain ⟨x17, hx17, h⟩ := xLet_el h
                  refine fx_lcmp dX12_wordOf_86 rfl hx17 ?_
                  refine fx_if_ne (t := 93) dX12_wordOf_87 rfl rfl (fun hc18 => ?_) (fun hc18 => ?_)
                  · rw [if_pos hc18] at h
                    refine fx_lload_n dX12_wordOf_93 rfl rfl ?_
                    refine fx_ldc2_w dX12_wordOf_94 rfl cl_12_147 ?_
                    obtain ⟨x19, hx19, h⟩ := xLet_el h
                    refine fx_lcmp dX12_wordOf_97 rfl hx19 ?_
                    refine fx_if_ne (t := 104) dX12_wordOf_98 rfl rfl (fun hc20 => ?_) (fun hc20 => ?_)
                    · rw [if_pos hc20] at h
                      refine fx_lload_n dX12_wordOf_104 rfl rfl ?_
                      refine fx_ldc2_w dX12_wordOf_105 rfl cl_12_149 ?_
                      obtain ⟨x21, hx21, h⟩ := xLet_el h
                      refine fx_lcmp dX12_wordOf_108 rfl hx21 ?_
                      refine fx_if_ne (t := 115) dX12_wordOf_109 rfl rfl (fun hc22 => ?_) (fun hc22 => ?_)
                      · rw [if_pos hc22] at h
                        refine fx_lload_n dX12_wordOf_115 rfl rfl ?_
                        refine fx_ldc2_w dX12_wordOf_116 rfl cl_12_151 ?_
                        obtain ⟨x23, hx23, h⟩ := xLet_el h
                        refine fx_lcmp dX12_wordOf_119 rfl hx23 ?_
                        refine fx_if_ne (t := 126) dX12_wordOf_120 rfl rfl (fun hc24 => ?_) (fun hc24 => ?_)
                        · rw [if_pos hc24] at h
                          refine fx_lload_n dX12_wordOf_126 rfl rfl ?_
                          refine fx_ldc2_w dX12_wordOf_127 rfl cl_12_153 ?_
                          obtain ⟨x25, hx25, h⟩ := xLet_el h
                          refine fx_lcmp dX12_wordOf_130 rfl hx25 ?_
                          refine fx_if_ne (t := 137) dX12_wordOf_131 rfl rfl (fun hc26 => ?_) (fun hc26 => ?_)
                          · rw [if_pos hc26] at h
                            refine fx_lload_n dX12_wordOf_137 rfl rfl ?_
                            refine fx_ldc2_w dX12_wordOf_138 rfl cl_12_155 ?_
                            obtain ⟨x27, hx27, h⟩ := xLet_el h
                            refine fx_lcmp dX12_wordOf_141 rfl hx27 ?_
                            refine fx_if_ne (t := 148) dX12_wordOf_142 rfl rfl (fun hc28 => ?_) (fun hc28 => ?_)
                            · rw [if_pos hc28] at h
                              refine fx_iconst (x := -1) dX12_wordOf_148 rfl (by decide) ?_
                              cases h
                              exact fx_ireturn dX12_wordOf_149 rfl rfl
                            · rw [if_neg hc28] at h
                              refine fx_bipush (x := 13) dX12_wordOf_145 rfl (by decide) ?_
                              cases h
                              exact fx_ireturn dX12_wordOf_147 rfl rfl
                          · rw [if_neg hc26] at h
                            refine fx_bipush (x := 12) dX12_wordOf_134 rfl (by decide) ?_
                            cases h
                            exact fx_ireturn dX12_wordOf_136 rfl rfl
                        · rw [if_neg hc24] at h
                          refine fx_bipush (x := 11) dX12_wordOf_123 rfl (by decide) ?_
                          cases h
                          exact fx_ireturn dX12_wordOf_125 rfl rfl
                      · rw [if_neg hc22] at h
                        refine fx_bipush (x := 10) dX12_wordOf_112 rfl (by decide) ?_
                        cases h
                        exact fx_ireturn dX12_wordOf_114 rfl rfl
                    · rw [if_neg hc20] at h
                      refine fx_bipush (x := 9) dX12_wordOf_101 rfl (by decide) ?_
                      cases h
                      exact fx_ireturn dX12_wordOf_103 rfl rfl
                  · rw [if_neg hc18] at h
                    refine fx_bipush (x := 8) dX12_wordOf_90 rfl (by decide) ?_
                    cases h
                    exact fx_ireturn dX12_wordOf_92 rfl rfl
                · rw [if_neg hc16] at h
                  refine fx_bipush (x := 7) dX12_wordOf_79 rfl (by decide) ?_
                  cases h
                  exact fx_ireturn dX12_wordOf_81 rfl rfl
              · rw [if_neg hc14] at h
                refine fx_bipush (x := 6) dX12_wordOf_68 rfl (by decide) ?_
                cases h
                exact fx_ireturn dX12_wordOf_70 rfl rfl
            · rw [if_neg hc12] at h
              refine fx_iconst (x := 5) dX12_wordOf_58 rfl (by decide) ?_
              cases h
              exact fx_ireturn dX12_wordOf_59 rfl rfl
          · rw [if_neg hc10] at h
            refine fx_iconst (x := 4) dX12_wordOf_48 rfl (by decide) ?_
            cases h
            exact fx_ireturn dX12_wordOf_49 rfl rfl
        · rw [if_neg hc8] at h
          refine fx_iconst (x := 3) dX12_wordOf_38 rfl (by decide) ?_
          cases h
          exact fx_ireturn dX12_wordOf_39 rfl rfl
      · rw [if_neg hc6] at h
        refine fx_iconst (x := 2) dX12_wordOf_28 rfl (by decide) ?_
        cases h
        exact fx_ireturn dX12_wordOf_29 rfl rfl
    · rw [if_neg hc4] at h
      refine fx_iconst (x := 1) dX12_wordOf_18 rfl (by decide) ?_
      cases h
      exact fx_ireturn dX12_wordOf_19 rfl rfl
  · rw [if_neg hc2] at h
    refine fx_iconst (x := 0) dX12_wordOf_8 rfl (by decide) ?_
    cases h
    exact fx_ireturn dX12_wordOf_9 rfl rfl
def fX12_wordOf (a0 : Int64) (m : xMem) : Option (Int32 × xMem) := fX12_wordOf_0 a0  m
theorem fX12_wordOf_ok {a0 : Int64} {m : xMem} {r : (Int32 × xMem)} {d : Nat} (hd : 1 ≤ d)  (h : fX12_wordOf a0 m = some r) : xEx d 89 [.long a0] (xLay m) (some (.int r.1)) (xLay r.2) := by
  obtain ⟨d, rfl⟩ : ∃ q, d = q + 1 := ⟨d - 1, by omega⟩
  exact xEx_of me_89 rfl (fX12_wordOf_0_ok (d := d) (by omega) h)
def fX12_next_39 (a0 : Nat) (rec0 : xMem → Option xMem) (m : xMem) : Option xMem := xLet (m.1 a0 13) fun x1 => xLet (x1 + (1 : Int32)) fun x2 => xLet (xPut m a0 13 x2) fun m3 => rec0 m3
set_option maxRecDepth 4000 in
theorem fX12_next_39_ok {a0 : Nat} {rec0 : xMem → Option xMem} {d : Nat} (hd : 2 ≤ d) (ha0 : isModel a0) (hrec0 : ∀ (o1 : Option Value) (o2 : Option Value) (o3 : Option Value) (o4 : Option Value) (q1 : xNoD o1 = true) (q4 : xNoD o4 = true) (m : xMem) (r : xMem), rec0 m = some r → xFx hh_87 cX12_next d 0 [some (.ref a0), o1, o2, o3, o4] [] (xLay m) 0 0 none (xLay r)) {o1 : Option Value} {o2 : Option Value} {o3 : Option Value} {o4 : Option Value} {m : xMem} {r : xMem} (q1 : xNoD o1 = true) (q4 : xNoD o4 = true) (h : fX12_next_39 a0 rec0 m = some r) : xFx hh_87 cX12_next d 39 [some (.ref a0), o1, o2, o3, o4] [] (xLay m) 0 0 none (xLay r) := by
  unfold fX12_next_39 at h
  refine fx_aload_n dX12_next_39 rfl rfl ?_
  refine fx_dup dX12_next_40 rfl rfl ?_
  obtain ⟨x1, hx1, h⟩ := xLet_el h
  refine gx_get dX12_next_41 rfl fd_12_157 ha0.1 rfl rfl hx1 ?_
  refine fx_iconst (x := 1) dX12_next_44 rfl (by decide) ?_
  obtain ⟨x2, hx2, h⟩ := xLet_el h
  refine fx_iadd dX12_next_45 rfl hx2 ?_
  obtain ⟨m3, hm3, h⟩ := xLet_el h
  refine gx_put dX12_next_46 rfl fd_12_157 ha0.1 rfl rfl rfl hm3 ?_
  refine fx_goto (t := 0) dX12_next_49 rfl rfl ?_
  exact hrec0 (o1) (o2) (o3) (o4) q1 q4 m3 r h
def fX12_next_156 (a0 : Nat) (rec99 : Int64 → Int32 → xMem → Option xMem) (l4 : Int32) (s0 : Int64) (m : xMem) : Option xMem := xLet (l4 + (1 : Int32)) fun x1 => xLet (m.1 a0 13) fun x2 => xLet (x2 + (1 : Int32)) fun x3 => xLet (xPut m a0 13 x3) fun m4 => rec99 s0 x1 m4
set_option maxRecDepth 4000 in
theorem fX12_next_156_ok {a0 : Nat} {rec99 : Int64 → Int32 → xMem → Option xMem} {d : Nat} (hd : 2 ≤ d) (ha0 : isModel a0) (hrec99 : ∀ (l2 : Int64) (l4 : Int32) (o1 : Option Value) (q1 : xNoD o1 = true) (m : xMem) (r : xMem), rec99 l2 l4 m = some r → xFx hh_87 cX12_next d 99 [some (.ref a0), o1, some (.long l2), none, some (.int l4)] [] (xLay m) 0 0 none (xLay r)) {l4 : Int32} {s0 : Int64} {o1 : Option Value} {o2 : Option Value} {o3 : Option Value} {m : xMem} {r : xMem} (q1 : xNoD o1 = true) (h : fX12_next_156 a0 rec99 l4 s0 m = some r) : xFx hh_87 cX12_next d 156 [some (.ref a0), o1, o2, o3, some (.int l4)] [.long s0] (xLay m) 0 0 none (xLay r) := by
  unfold fX12_next_156 at h
  refine fx_lstore_n (ls2 := [some (.ref a0), o1, some (.long s0), none, some (.int l4)]) dX12_next_156 rfl (xGd (j := 1) rfl rfl q1 rfl) rfl ?_
  obtain ⟨x1, hx1, h⟩ := xLet_el h
  refine fx_iinc (ls2 := [some (.ref a0), o1, some (.long s0), none, some (.int x1)]) dX12_next_157 rfl rfl rfl hx1 rfl ?_
  refine fx_aload_n dX12_next_160 rfl rfl ?_
  refine fx_dup dX12_next_161 rfl rfl ?_
  obtain ⟨x2, hx2, h⟩ := xLet_el h
  refine gx_get dX12_next_162 rfl fd_12_157 ha0.1 rfl rfl hx2 ?_
  refine fx_iconst (x := 1) dX12_next_165 rfl (by decide) ?_
  obtain ⟨x3, hx3, h⟩ := xLet_el h
  refine fx_iadd dX12_next_166 rfl hx3 ?_
  obtain ⟨m4, hm4, h⟩ := xLet_el h
  refine gx_put dX12_next_167 rfl fd_12_157 ha0.1 rfl rfl rfl hm4 ?_
  refine fx_goto (t := 99) dX12_next_170 rfl rfl ?_
  exact hrec99 s0 x1 (o1) q1 m4 r h
def fX12_next_439 (a0 : Nat) (m : xMem) : Option xMem := some m
set_option maxRecDepth 4000 in
theorem fX12_next_439_ok {a0 : Nat} {d : Nat} (hd : 2 ≤ d) (ha0 : isModel a0) {o1 : Option Value} {o2 : Option Value} {o3 : Option Value} {o4 : Option Value} {m : xMem} {r : xMem} (q1 : xNoD o1 = true) (q4 : xNoD o4 = true) (h : fX12_next_439 a0 m = some r) : xFx hh_87 cX12_next d 439 [some (.ref a0), o1, o2, o3, o4] [] (xLay m) 0 0 none (xLay r) := by
  unfold fX12_next_439 at h
  cases h
  exact fx_return dX12_next_439 rfl rfl
def fX12_next_205 (a0 : Nat) (s0 : Nat) (s1 : Int32) (m : xMem) : Option xMem := xLet (xPut m s0 15 s1) fun m1 => fX12_next_439 a0 m1
set_option maxRecDepth 4000 in
theorem fX12_next_205_ok {a0 : Nat} {d : Nat} (hd : 2 ≤ d) (ha0 : isModel a0) {s0 : Nat} {s1 : Int32} {o1 : Option Value} {o2 : Option Value} {o3 : Option Value} {o4 : Option Value} {m : xMem} {r : xMem} (hs0 : isModel s0) (q1 : xNoD o1 = true) (q4 : xNoD o4 = true) (h : fX12_next_205 a0 s0 s1 m = some r) : xFx hh_87 cX12_next d 205 [some (.ref a0), o1, o2, o3, o4] [.int s1, .ref s0] (xLay m) 0 0 none (xLay r) := by
  unfold fX12_next_205 at h
  obtain ⟨m1, hm1, h⟩ := xLet_el h
  refine gx_put dX12_next_205 rfl fd_12_166 hs0.1 rfl rfl rfl hm1 ?_
  refine fx_goto (t := 439) dX12_next_208 rfl rfl ?_
  exact fX12_next_439_ok (o1 := o1) (o2 := o2) (o3 := o3) (o4 := o4) hd ha0 q1 q4 h
def fX12_next_189 (a0 : Nat) (s0 : Nat) (s1 : Int32) (m : xMem) : Option xMem := xLet (xPut m s0 16 s1) fun m1 => xLet (m1.1 a0 16) fun x2 => if (0 : Int32) ≤ x2 then fX12_next_205 a0 a0 (1 : Int32) m1 else fX12_next_205 a0 a0 (4 : Int32) m1
set_option maxRecDepth 4000 in
theorem fX12_next_189_ok {a0 : Nat} {d : Nat} (hd : 2 ≤ d) (ha0 : isModel a0) {s0 : Nat} {s1 : Int32} {o1 : Option Value} {o2 : Option Value} {o3 : Option Value} {o4 : Option Value} {m : xMem} {r : xMem} (hs0 : isModel s0) (q1 : xNoD o1 = true) (q4 : xNoD o4 = true) (h : fX12_next_189 a0 s0 s1 m = some r) : xFx hh_87 cX12_next d 189 [some (.ref a0), o1, o2, o3, o4] [.int s1, .ref s0] (xLay m) 0 0 none (xLay r) := by
  unfold fX12_next_189 at h
  obtain ⟨m1, hm1, h⟩ := xLet_el h
  refine gx_put dX12_next_189 rfl fd_12_178 hs0.1 rfl rfl rfl hm1 ?_
  refine fx_aload_n dX12_next_192 rfl rfl ?_
  refine fx_aload_n dX12_next_193 rfl rfl ?_
  obtain ⟨x2, hx2, h⟩ := xLet_el h
  refine gx_get dX12_next_194 rfl fd_12_178 ha0.1 rfl rfl hx2 ?_
  refine fx_if_ge (t := 204) dX12_next_197 rfl rfl (fun hc3 => ?_) (fun hc3 => ?_)
  · rw [if_pos hc3] at h
    refine fx_iconst (x := 1) dX12_next_204 rfl (by decide) ?_
    exact fX12_next_205_ok (o1 := o1) (o2 := o2) (o3 := o3) (o4 := o4) hd ha0 ha0 q1 q4 h
  · rw [if_neg hc3] at h
    refine fx_iconst (x := 4) dX12_next_200 rfl (by decide) ?_
    refine fx_goto (t := 205) dX12_next_201 rfl rfl ?_
    exact fX12_next_205_ok (o1 := o1) (o2 := o2) (o3 := o3) (o4 := o4) hd ha0 ha0 q1 q4 h
def fX12_next_173 (a0 : Nat) (l2 : Int64) (l4 : Int32) (m : xMem) : Option xMem := if l4 ≤ (7 : Int32) then (fX12_wordOf l2 m).bind fun p2 => fX12_next_189 a0 a0 p2.1 p2.2 else fX12_next_189 a0 a0 (-1 : Int32) m
set_option maxRecDepth 4000 in
theorem fX12_next_173_ok {a0 : Nat} {d : Nat} (hd : 2 ≤ d) (ha0 : isModel a0) {l2 : Int64} {l4 : Int32} {o1 : Option Value} {m : xMem} {r : xMem} (q1 : xNoD o1 = true) (h : fX12_next_173 a0 l2 l4 m = some r) : xFx hh_87 cX12_next d 173 [some (.ref a0), o1, some (.long l2), none, some (.int l4)] [] (xLay m) 0 0 none (xLay r) := by
  unfold fX12_next_173 at h
  refine fx_aload_n dX12_next_173 rfl rfl ?_
  refine fx_iload dX12_next_174 rfl rfl ?_
  refine fx_bipush (x := 7) dX12_next_176 rfl (by decide) ?_
  refine fx_icmp_le (t := 185) dX12_next_178 rfl rfl (fun hc1 => ?_) (fun hc1 => ?_)
  · rw [if_pos hc1] at h
    refine fx_lload_n dX12_next_185 rfl rfl ?_
    obtain ⟨p2, ep2, h⟩ := xBind_el h
    refine gx_calls (as := [.long l2]) (r := [.ref a0]) rfl dX12_next_186 ca_12_174 rfl me_89 rfl rfl rfl rfl (fX12_wordOf_ok (d := d) (by omega) ep2) rfl rfl ?_
    exact fX12_next_189_ok (o1 := o1) (o2 := some (.long l2)) (o3 := none) (o4 := some (.int l4)) hd ha0 ha0 q1 rfl h
  · rw [if_neg hc1] at h
    refine fx_iconst (x := -1) dX12_next_181 rfl (by decide) ?_
    refine fx_goto (t := 189) dX12_next_182 rfl rfl ?_
    exact fX12_next_189_ok (o1 := o1) (o2 := some (.long l2)) (o3 := none) (o4 := some (.int l4)) hd ha0 ha0 q1 rfl h
def fX12_next_99 (a0 : Nat) : Nat → Int64 → Int32 → xMem → Option xMem
  | 0, _, _, _ => none
  | fuel + 1, l2, l4, m => xLet (m.1 a0 13) fun x1 => xLet (m.1 a0 12) fun x2 => if x2 ≤ x1 then fX12_next_173 a0 l2 l4 m else xLet (m.1 a0 13) fun x4 => bif xIn x4 300 then xLet (m.1 (a0 + 4) x4.toNatClampNeg) fun x5 => (fX12_isLetter x5 m).bind fun p7 => if p7.1 = (0 : Int32) then fX12_next_173 a0 l2 l4 p7.2 else if (8 : Int32) ≤ l4 then fX12_next_156 a0 (fX12_next_99 a0 fuel) l4 l2 p7.2 else xLet ((64 : Int64) * l2) fun x10 => xLet (p7.2.1 a0 13) fun x11 => bif xIn x11 300 then xLet (p7.2.1 (a0 + 4) x11.toNatClampNeg) fun x12 => xLet (x12.toInt64) fun x14 => xLet (x10 + x14) fun x15 => xLet (x15 - (64 : Int64)) fun x16 => fX12_next_156 a0 (fX12_next_99 a0 fuel) l4 x16 p7.2 else none else none
set_option maxRecDepth 4000 in
theorem fX12_next_99_ok {a0 : Nat} {d : Nat} (hd : 2 ≤ d) (ha0 : isModel a0) : ∀ (fuel : Nat) (l2 : Int64) (l4 : Int32) (o1 : Option Value) (q1 : xNoD o1 = true) (m : xMem) (r : xMem), fX12_next_99 a0 fuel l2 l4 m = some r → xFx hh_87 cX12_next d 99 [some (.ref a0), o1, some (.long l2), none, some (.int l4)] [] (xLay m) 0 0 none (xLay r) := by
  intro fuel
  induction fuel with
  | zero => intro l2 l4 o1 q1 m r  h; cases h
  | succ fuel ih =>
    intro l2 l4 o1 q1 m r  h
    unfold fX12_next_99 at h
    refine fx_aload_n dX12_next_99 rfl rfl ?_
    obtain ⟨x1, hx1, h⟩ := xLet_el h
    refine gx_get dX12_next_100 rfl fd_12_157 ha0.1 rfl rfl hx1 ?_
    refine fx_aload_n dX12_next_103 rfl rfl ?_
    obtain ⟨x2, hx2, h⟩ := xLet_el h
    refine gx_get dX12_next_104 rfl fd_12_160 ha0.1 rfl rfl hx2 ?_
    refine fx_icmp_ge (t := 173) dX12_next_107 rfl rfl (fun hc3 => ?_) (fun hc3 => ?_)
    · rw [if_pos hc3] at h
      exact fX12_next_173_ok (o1 := o1) hd ha0 q1 h
    · rw [if_neg hc3] at h
      refine fx_aload_n dX12_next_110 rfl rfl ?_
      refine gx_getr dX12_next_111 rfl fd_12_19 ha0.1 rfl rfl ?_
      refine fx_aload_n dX12_next_114 rfl rfl ?_
      obtain ⟨x4, hx4, h⟩ := xLet_el h
      refine gx_get dX12_next_115 rfl fd_12_157 ha0.1 rfl rfl hx4 ?_
      obtain ⟨hj6, h⟩ := xChk_el h
      obtain ⟨x5, hx5, h⟩ := xLet_el h
      refine gx_baload (t := 0) dX12_next_118 rfl ha0.2.2.2.2.1 rfl hj6 hx5 ?_
      obtain ⟨p7, ep7, h⟩ := xBind_el h
      refine gx_calls (as := [.int x5]) (r := []) rfl dX12_next_119 ca_12_169 rfl me_88 rfl rfl rfl rfl (fX12_isLetter_ok (d := d) (by omega) ep7) rfl rfl ?_
      refine fx_if_eq (t := 173) dX12_next_122 rfl rfl (fun hc8 => ?_) (fun hc8 => ?_)
      · rw [if_pos hc8] at h
        exact fX12_next_173_ok (o1 := o1) hd ha0 q1 h
      · rw [if_neg hc8] at h
        refine fx_iload dX12_next_125 rfl rfl ?_
        refine fx_bipush (x := 8) dX12_next_127 rfl (by decide) ?_
        refine fx_icmp_ge (t := 155) dX12_next_129 rfl rfl (fun hc9 => ?_) (fun hc9 => ?_)
        · rw [if_pos hc9] at h
          refine fx_lload_n dX12_next_155 rfl rfl ?_
          exact fX12_next_156_ok (o1 := o1) (o2 := some (.long l2)) (o3 := none) hd ha0 ih q1 h
        · rw [if_neg hc9] at h
          refine fx_ldc2_w dX12_next_132 rfl cl_12_172 ?_
          refine fx_lload_n dX12_next_135 rfl rfl ?_
          obtain ⟨x10, hx10, h⟩ := xLet_el h
          refine fx_lmul dX12_next_136 rfl hx10 ?_
          refine fx_aload_n dX12_next_137 rfl rfl ?_
          refine gx_getr dX12_next_138 rfl fd_12_19 ha0.1 rfl rfl ?_
          refine fx_aload_n dX12_next_141 rfl rfl ?_
          obtain ⟨x11, hx11, h⟩ := xLet_el h
          refine gx_get dX12_next_142 rfl fd_12_157 ha0.1 rfl rfl hx11 ?_
          obtain ⟨hj13, h⟩ := xChk_el h
          obtain ⟨x12, hx12, h⟩ := xLet_el h
          refine gx_baload (t := 0) dX12_next_145 rfl ha0.2.2.2.2.1 rfl hj13 hx12 ?_
          obtain ⟨x14, hx14, h⟩ := xLet_el h
          refine fx_i2l dX12_next_146 rfl hx14 ?_
          obtain ⟨x15, hx15, h⟩ := xLet_el h
          refine fx_ladd dX12_next_147 rfl hx15 ?_
          refine fx_ldc2_w dX12_next_148 rfl cl_12_172 ?_
          obtain ⟨x16, hx16, h⟩ := xLet_el h
          refine fx_lsub dX12_next_151 rfl hx16 ?_
          refine fx_goto (t := 156) dX12_next_152 rfl rfl ?_
          exact fX12_next_156_ok (o1 := o1) (o2 := some (.long l2)) (o3 := none) hd ha0 ih q1 h
def fX12_next_299 (a0 : Nat) (rec232 : xMem → Option xMem) (s0 : Nat) (s1 : Int32) (m : xMem) : Option xMem := xLet (xPut m s0 16 s1) fun m1 => xLet (m1.1 a0 13) fun x2 => xLet (x2 + (1 : Int32)) fun x3 => xLet (xPut m1 a0 13 x3) fun m4 => rec232 m4
set_option maxRecDepth 4000 in
theorem fX12_next_299_ok {a0 : Nat} {rec232 : xMem → Option xMem} {d : Nat} (hd : 2 ≤ d) (ha0 : isModel a0) (hrec232 : ∀ (o1 : Option Value) (o2 : Option Value) (o3 : Option Value) (o4 : Option Value) (q1 : xNoD o1 = true) (q4 : xNoD o4 = true) (m : xMem) (r : xMem), rec232 m = some r → xFx hh_87 cX12_next d 232 [some (.ref a0), o1, o2, o3, o4] [] (xLay m) 0 0 none (xLay r)) {s0 : Nat} {s1 : Int32} {o1 : Option Value} {o2 : Option Value} {o3 : Option Value} {o4 : Option Value} {m : xMem} {r : xMem} (hs0 : isModel s0) (q1 : xNoD o1 = true) (q4 : xNoD o4 = true) (h : fX12_next_299 a0 rec232 s0 s1 m = some r) : xFx hh_87 cX12_next d 299 [some (.ref a0), o1, o2, o3, o4] [.int s1, .ref s0] (xLay m) 0 0 none (xLay r) := by
  unfold fX12_next_299 at h
  obtain ⟨m1, hm1, h⟩ := xLet_el h
  refine gx_put dX12_next_299 rfl fd_12_178 hs0.1 rfl rfl rfl hm1 ?_
  refine fx_aload_n dX12_next_302 rfl rfl ?_
  refine fx_dup dX12_next_303 rfl rfl ?_
  obtain ⟨x2, hx2, h⟩ := xLet_el h
  refine gx_get dX12_next_304 rfl fd_12_157 ha0.1 rfl rfl hx2 ?_
  refine fx_iconst (x := 1) dX12_next_307 rfl (by decide) ?_
  obtain ⟨x3, hx3, h⟩ := xLet_el h
  refine fx_iadd dX12_next_308 rfl hx3 ?_
  obtain ⟨m4, hm4, h⟩ := xLet_el h
  refine gx_put dX12_next_309 rfl fd_12_157 ha0.1 rfl rfl rfl hm4 ?_
  refine fx_goto (t := 232) dX12_next_312 rfl rfl ?_
  exact hrec232 (o1) (o2) (o3) (o4) q1 q4 m4 r h
def fX12_next_232 (a0 : Nat) : Nat → xMem → Option xMem
  | 0, _ => none
  | fuel + 1, m => xLet (m.1 a0 13) fun x1 => xLet (m.1 a0 12) fun x2 => if x2 ≤ x1 then fX12_next_439 a0 m else xLet (m.1 a0 13) fun x4 => bif xIn x4 300 then xLet (m.1 (a0 + 4) x4.toNatClampNeg) fun x5 => (fX12_in x5 (48 : Int32) (57 : Int32) m).bind fun p7 => if p7.1 = (0 : Int32) then fX12_next_439 a0 p7.2 else xLet (p7.2.1 a0 16) fun x9 => if x9 ≤ (99999 : Int32) then xLet (p7.2.1 a0 16) fun x11 => xLet ((10 : Int32) * x11) fun x12 => xLet (p7.2.1 a0 13) fun x13 => bif xIn x13 300 then xLet (p7.2.1 (a0 + 4) x13.toNatClampNeg) fun x14 => xLet (x12 + x14) fun x16 => xLet (x16 - (48 : Int32)) fun x17 => fX12_next_299 a0 (fX12_next_232 a0 fuel) a0 x17 p7.2 else none else xLet (p7.2.1 a0 16) fun x18 => fX12_next_299 a0 (fX12_next_232 a0 fuel) a0 x18 p7.2 else none
set_option maxRecDepth 4000 in
theorem fX12_next_232_ok {a0 : Nat} {d : Nat} (hd : 2 ≤ d) (ha0 : isModel a0) : ∀ (fuel : Nat) (o1 : Option Value) (o2 : Option Value) (o3 : Option Value) (o4 : Option Value) (q1 : xNoD o1 = true) (q4 : xNoD o4 = true) (m : xMem) (r : xMem), fX12_next_232 a0 fuel m = some r → xFx hh_87 cX12_next d 232 [some (.ref a0), o1, o2, o3, o4] [] (xLay m) 0 0 none (xLay r) := by
  intro fuel
  induction fuel with
  | zero => intro  o1 o2 o3 o4 q1 q4 m r  h; cases h
  | succ fuel ih =>
    intro  o1 o2 o3 o4 q1 q4 m r  h
    unfold fX12_next_232 at h
    refine fx_aload_n dX12_next_232 rfl rfl ?_
    obtain ⟨x1, hx1, h⟩ := xLet_el h
    refine gx_get dX12_next_233 rfl fd_12_157 ha0.1 rfl rfl hx1 ?_
    refine fx_aload_n dX12_next_236 rfl rfl ?_
    obtain ⟨x2, hx2, h⟩ := xLet_el h
    refine gx_get dX12_next_237 rfl fd_12_160 ha0.1 rfl rfl hx2 ?_
    refine fx_icmp_ge (t := 439) dX12_next_240 rfl rfl (fun hc3 => ?_) (fun hc3 => ?_)
    · rw [if_pos hc3] at h
      exact fX12_next_439_ok (o1 := o1) (o2 := o2) (o3 := o3) (o4 := o4) hd ha0 q1 q4 h
    · rw [if_neg hc3] at h
      refine fx_aload_n dX12_next_243 rfl rfl ?_
      refine gx_getr dX12_next_244 rfl fd_12_19 ha0.1 rfl rfl ?_
      refine fx_aload_n dX12_next_247 rfl rfl ?_
      obtain ⟨x4, hx4, h⟩ := xLet_el h
      refine gx_get dX12_next_248 rfl fd_12_157 ha0.1 rfl rfl hx4 ?_
      obtain ⟨hj6, h⟩ := xChk_el h
      obtain ⟨x5, hx5, h⟩ := xLet_el h
      refine gx_baload (t := 0) dX12_next_251 rfl ha0.2.2.2.2.1 rfl hj6 hx5 ?_
      refine fx_bipush (x := 48) dX12_next_252 rfl (by decide) ?_
      refine fx_bipush (x := 57) dX12_next_254 rfl (by decide) ?_
      obtain ⟨p7, ep7, h⟩ := xBind_el h
      refine gx_calls (as := [.int x5, .int (48 : Int32), .int (57 : Int32)]) (r := []) rfl dX12_next_256 ca_12_95 rfl me_18 rfl rfl rfl rfl (fX12_in_ok (d := d) (by omega) ep7) rfl rfl ?_
      refine fx_if_eq (t := 439) dX12_next_259 rfl rfl (fun hc8 => ?_) (fun hc8 => ?_)
      · rw [if_pos hc8] at h
        exact fX12_next_439_ok (o1 := o1) (o2 := o2) (o3 := o3) (o4 := o4) hd ha0 q1 q4 h
      · rw [if_neg hc8] at h
        refine fx_aload_n dX12_next_262 rfl rfl ?_
        refine fx_aload_n dX12_next_263 rfl rfl ?_
        obtain ⟨x9, hx9, h⟩ := xLet_el h
        refine gx_get dX12_next_264 rfl fd_12_178 ha0.1 rfl rfl hx9 ?_
        refine fx_ldc dX12_next_267 rfl ck_12_121 ?_
        refine fx_icmp_le (t := 279) dX12_next_269 rfl rfl (fun hc10 => ?_) (fun hc10 => ?_)
        · rw [if_pos hc10] at h
          refine fx_bipush (x := 10) dX12_next_279 rfl (by decide) ?_
          refine fx_aload_n dX12_next_281 rfl rfl ?_
          obtain ⟨x11, hx11, h⟩ := xLet_el h
          refine gx_get dX12_next_282 rfl fd_12_178 ha0.1 rfl rfl hx11 ?_
          obtain ⟨x12, hx12, h⟩ := xLet_el h
          refine fx_imul dX12_next_285 rfl hx12 ?_
          refine fx_aload_n dX12_next_286 rfl rfl ?_
          refine gx_getr dX12_next_287 rfl fd_12_19 ha0.1 rfl rfl ?_
          refine fx_aload_n dX12_next_290 rfl rfl ?_
          obtain ⟨x13, hx13, h⟩ := xLet_el h
          refine gx_get dX12_next_291 rfl fd_12_157 ha0.1 rfl rfl hx13 ?_
          obtain ⟨hj15, h⟩ := xChk_el h
          obtain ⟨x14, hx14, h⟩ := xLet_el h
          refine gx_baload (t := 0) dX12_next_294 rfl ha0.2.2.2.2.1 rfl hj15 hx14 ?_
          obtain ⟨x16, hx16, h⟩ := xLet_el h
          refine fx_iadd dX12_next_295 rfl hx16 ?_
          refine fx_bipush (x := 48) dX12_next_296 rfl (by decide) ?_
          obtain ⟨x17, hx17, h⟩ := xLet_el h
          refine fx_isub dX12_next_298 rfl hx17 ?_
          exact fX12_next_299_ok (o1 := o1) (o2 := o2) (o3 := o3) (o4 := o4) hd ha0 ih ha0 q1 q4 h
        · rw [if_neg hc10] at h
          refine fx_aload_n dX12_next_272 rfl rfl ?_
          obtain ⟨x18, hx18, h⟩ := xLet_el h
          refine gx_get dX12_next_273 rfl fd_12_178 ha0.1 rfl rfl hx18 ?_
          refine fx_goto (t := 299) dX12_next_276 rfl rfl ?_
          exact fX12_next_299_ok (o1 := o1) (o2 := o2) (o3 := o3) (o4 := o4) hd ha0 ih ha0 q1 q4 h
def fX12_next_426 (a0 : Nat) (s0 : Nat) (s1 : Int32) (m : xMem) : Option xMem := xLet (xPut m s0 16 s1) fun m1 => xLet (m1.1 a0 13) fun x2 => xLet (x2 + (1 : Int32)) fun x3 => xLet (xPut m1 a0 13 x3) fun m4 => fX12_next_439 a0 m4
set_option maxRecDepth 4000 in
theorem fX12_next_426_ok {a0 : Nat} {d : Nat} (hd : 2 ≤ d) (ha0 : isModel a0) {s0 : Nat} {s1 : Int32} {o1 : Option Value} {o2 : Option Value} {o3 : Option Value} {o4 : Option Value} {m : xMem} {r : xMem} (hs0 : isModel s0) (q1 : xNoD o1 = true) (q4 : xNoD o4 = true) (h : fX12_next_426 a0 s0 s1 m = some r) : xFx hh_87 cX12_next d 426 [some (.ref a0), o1, o2, o3, o4] [.int s1, .ref s0] (xLay m) 0 0 none (xLay r) := by
  unfold fX12_next_426 at h
  obtain ⟨m1, hm1, h⟩ := xLet_el h
  refine gx_put dX12_next_426 rfl fd_12_178 hs0.1 rfl rfl rfl hm1 ?_
  refine fx_aload_n dX12_next_429 rfl rfl ?_
  refine fx_dup dX12_next_430 rfl rfl ?_
  obtain ⟨x2, hx2, h⟩ := xLet_el h
  refine gx_get dX12_next_431 rfl fd_12_157 ha0.1 rfl rfl hx2 ?_
  refine fx_iconst (x := 1) dX12_next_434 rfl (by decide) ?_
  obtain ⟨x3, hx3, h⟩ := xLet_el h
  refine fx_iadd dX12_next_435 rfl hx3 ?_
  obtain ⟨m4, hm4, h⟩ := xLet_el h
  refine gx_put dX12_next_436 rfl fd_12_157 ha0.1 rfl rfl rfl hm4 ?_
  exact fX12_next_439_ok (o1 := o1) (o2 := o2) (o3 := o3) (o4 := o4) hd ha0 q1 q4 h
def fX12_next_385 (a0 : Nat) (l1 : Int32) (m : xMem) : Option xMem := xLet (m.1 a0 13) fun x1 => xLet (m.1 a0 12) fun x2 => if x2 ≤ x1 then fX12_next_439 a0 m else xLet (m.1 a0 13) fun x4 => bif xIn x4 300 then xLet (m.1 (a0 + 4) x4.toNatClampNeg) fun x5 => if ¬ x5 = (61 : Int32) then fX12_next_439 a0 m else if ¬ l1 = (60 : Int32) then fX12_next_426 a0 a0 (301 : Int32) m else fX12_next_426 a0 a0 (300 : Int32) m else none
set_option maxRecDepth 4000 in
theorem fX12_next_385_ok {a0 : Nat} {d : Nat} (hd : 2 ≤ d) (ha0 : isModel a0) {l1 : Int32} {o2 : Option Value} {o3 : Option Value} {o4 : Option Value} {m : xMem} {r : xMem} (q4 : xNoD o4 = true) (h : fX12_next_385 a0 l1 m = some r) : xFx hh_87 cX12_next d 385 [some (.ref a0), some (.int l1), o2, o3, o4] [] (xLay m) 0 0 none (xLay r) := by
  unfold fX12_next_385 at h
  refine fx_aload_n dX12_next_385 rfl rfl ?_
  obtain ⟨x1, hx1, h⟩ := xLet_el h
  refine gx_get dX12_next_386 rfl fd_12_157 ha0.1 rfl rfl hx1 ?_
  refine fx_aload_n dX12_next_389 rfl rfl ?_
  obtain ⟨x2, hx2, h⟩ := xLet_el h
  refine gx_get dX12_next_390 rfl fd_12_160 ha0.1 rfl rfl hx2 ?_
  refine fx_icmp_ge (t := 439) dX12_next_393 rfl rfl (fun hc3 => ?_) (fun hc3 => ?_)
  · rw [if_pos hc3] at h
    exact fX12_next_439_ok (o1 := some (.int l1)) (o2 := o2) (o3 := o3) (o4 := o4) hd ha0 rfl q4 h
  · rw [if_neg hc3] at h
    refine fx_aload_n dX12_next_396 rfl rfl ?_
    refine gx_getr dX12_next_397 rfl fd_12_19 ha0.1 rfl rfl ?_
    refine fx_aload_n dX12_next_400 rfl rfl ?_
    obtain ⟨x4, hx4, h⟩ := xLet_el h
    refine gx_get dX12_next_401 rfl fd_12_157 ha0.1 rfl rfl hx4 ?_
    obtain ⟨hj6, h⟩ := xChk_el h
    obtain ⟨x5, hx5, h⟩ := xLet_el h
    refine gx_baload (t := 0) dX12_next_404 rfl ha0.2.2.2.2.1 rfl hj6 hx5 ?_
    refine fx_bipush (x := 61) dX12_next_405 rfl (by decide) ?_
    refine fx_icmp_ne (t := 439) dX12_next_407 rfl rfl (fun hc7 => ?_) (fun hc7 => ?_)
    · rw [if_pos hc7] at h
      exact fX12_next_439_ok (o1 := some (.int l1)) (o2 := o2) (o3 := o3) (o4 := o4) hd ha0 rfl q4 h
    · rw [if_neg hc7] at h
      refine fx_aload_n dX12_next_410 rfl rfl ?_
      refine fx_iload_n dX12_next_411 rfl rfl ?_
      refine fx_bipush (x := 60) dX12_next_412 rfl (by decide) ?_
      refine fx_icmp_ne (t := 423) dX12_next_414 rfl rfl (fun hc8 => ?_) (fun hc8 => ?_)
      · rw [if_pos hc8] at h
        refine fx_sipush (x := 301) dX12_next_423 rfl (by decide) ?_
        exact fX12_next_426_ok (o1 := some (.int l1)) (o2 := o2) (o3 := o3) (o4 := o4) hd ha0 ha0 rfl q4 h
      · rw [if_neg hc8] at h
        refine fx_sipush (x := 300) dX12_next_417 rfl (by decide) ?_
        refine fx_goto (t := 426) dX12_next_420 rfl rfl ?_
        exact fX12_next_426_ok (o1 := some (.int l1)) (o2 := o2) (o3 := o3) (o4 := o4) hd ha0 ha0 rfl q4 h
def fX12_next_370 (a0 : Nat) (l1 : Int32) (s0 : Nat) (s1 : Int32) (m : xMem) : Option xMem := xLet (xPut m s0 15 s1) fun m1 => if l1 = (60 : Int32) then fX12_next_385 a0 l1 m1 else if ¬ l1 = (62 : Int32) then fX12_next_439 a0 m1 else fX12_next_385 a0 l1 m1
set_option maxRecDepth 4000 in
theorem fX12_next_370_ok {a0 : Nat} {d : Nat} (hd : 2 ≤ d) (ha0 : isModel a0) {l1 : Int32} {s0 : Nat} {s1 : Int32} {o2 : Option Value} {o3 : Option Value} {o4 : Option Value} {m : xMem} {r : xMem} (hs0 : isModel s0) (q4 : xNoD o4 = true) (h : fX12_next_370 a0 l1 s0 s1 m = some r) : xFx hh_87 cX12_next d 370 [some (.ref a0), some (.int l1), o2, o3, o4] [.int s1, .ref s0] (xLay m) 0 0 none (xLay r) := by
  unfold fX12_next_370 at h
  obtain ⟨m1, hm1, h⟩ := xLet_el h
  refine gx_put dX12_next_370 rfl fd_12_166 hs0.1 rfl rfl rfl hm1 ?_
  refine fx_iload_n dX12_next_373 rfl rfl ?_
  refine fx_bipush (x := 60) dX12_next_374 rfl (by decide) ?_
  refine fx_icmp_eq (t := 385) dX12_next_376 rfl rfl (fun hc2 => ?_) (fun hc2 => ?_)
  · rw [if_pos hc2] at h
    exact fX12_next_385_ok (o2 := o2) (o3 := o3) (o4 := o4) hd ha0 q4 h
  · rw [if_neg hc2] at h
    refine fx_iload_n dX12_next_379 rfl rfl ?_
    refine fx_bipush (x := 62) dX12_next_380 rfl (by decide) ?_
    refine fx_icmp_ne (t := 439) dX12_next_382 rfl rfl (fun hc3 => ?_) (fun hc3 => ?_)
    · rw [if_pos hc3] at h
      exact fX12_next_439_ok (o1 := some (.int l1)) (o2 := o2) (o3 := o3) (o4 := o4) hd ha0 rfl q4 h
    · rw [if_neg hc3] at h
      exact fX12_next_385_ok (o2 := o2) (o3 := o3) (o4 := o4) hd ha0 q4 h
def fX12_next_365 (a0 : Nat) (l1 : Int32) (s0 : Nat) (m : xMem) : Option xMem := fX12_next_370 a0 l1 s0 (3 : Int32) m
set_option maxRecDepth 4000 in
theorem fX12_next_365_ok {a0 : Nat} {d : Nat} (hd : 2 ≤ d) (ha0 : isModel a0) {l1 : Int32} {s0 : Nat} {o2 : Option Value} {o3 : Option Value} {o4 : Option Value} {m : xMem} {r : xMem} (hs0 : isModel s0) (q4 : xNoD o4 = true) (h : fX12_next_365 a0 l1 s0 m = some r) : xFx hh_87 cX12_next d 365 [some (.ref a0), some (.int l1), o2, o3, o4] [.ref s0] (xLay m) 0 0 none (xLay r) := by
  unfold fX12_next_365 at h
  refine fx_iconst (x := 3) dX12_next_365 rfl (by decide) ?_
  refine fx_goto (t := 370) dX12_next_366 rfl rfl ?_
  exact fX12_next_370_ok (o2 := o2) (o3 := o3) (o4 := o4) hd ha0 hs0 q4 h
def fX12_next_52 (a0 : Nat) (m : xMem) : Option xMem := xLet (m.1 a0 13) fun x1 => xLet (xPut m a0 14 x1) fun m2 => xLet (m2.1 a0 13) fun x3 => xLet (m2.1 a0 12) fun x4 => if ¬ x3 = x4 then xLet (m2.1 a0 13) fun x6 => bif xIn x6 300 then xLet (m2.1 (a0 + 4) x6.toNatClampNeg) fun x7 => (fX12_isLetter x7 m2).bind fun p9 => if p9.1 = (0 : Int32) then (fX12_in x7 (48 : Int32) (57 : Int32) p9.2).bind fun p11 => if p11.1 = (0 : Int32) then xLet (p11.2.1 a0 13) fun x13 => xLet (x13 + (1 : Int32)) fun x14 => xLet (xPut p11.2 a0 13 x14) fun m15 => xLet (xPut m15 a0 16 x7) fun m16 => (fX12_in x7 (59 : Int32) (62 : Int32) m16).bind fun p17 => if ¬ p17.1 = (0 : Int32) then fX12_next_365 a0 x7 a0 p17.2 else (fX12_in x7 (40 : Int32) (45 : Int32) p17.2).bind fun p19 => if ¬ p19.1 = (0 : Int32) then fX12_next_365 a0 x7 a0 p19.2 else if x7 = (47 : Int32) then fX12_next_365 a0 x7 a0 p19.2 else if ¬ x7 = (35 : Int32) then fX12_next_370 a0 x7 a0 (4 : Int32) p19.2 else fX12_next_365 a0 x7 a0 p19.2 else xLet (xPut p11.2 a0 15 (2 : Int32)) fun m23 => xLet (xPut m23 a0 16 (0 : Int32)) fun m24 => fX12_next_232 a0 xFuel m24 else fX12_next_99 a0 xFuel (0 : Int64) (0 : Int32) p9.2 else none else xLet (xPut m2 a0 15 (0 : Int32)) fun m25 => some m25
set_option maxRecDepth 4000 in
theorem fX12_next_52_ok {a0 : Nat} {d : Nat} (hd : 2 ≤ d) (ha0 : isModel a0) {o1 : Option Value} {o2 : Option Value} {o3 : Option Value} {o4 : Option Value} {m : xMem} {r : xMem} (q1 : xNoD o1 = true) (q4 : xNoD o4 = true) (h : fX12_next_52 a0 m = some r) : xFx hh_87 cX12_next d 52 [some (.ref a0), o1, o2, o3, o4] [] (xLay m) 0 0 none (xLay r) := by
  unfold fX12_next_52 at h
  refine fx_aload_n dX12_next_52 rfl rfl ?_
  refine fx_aload_n dX12_next_53 rfl rfl ?_
  obtain ⟨x1, hx1, h⟩ := xLet_el h
  refine gx_get dX12_next_54 rfl fd_12_157 ha0.1 rfl rfl hx1 ?_
  obtain ⟨m2, hm2, h⟩ := xLet_el h
  refine gx_put dX12_next_57 rfl fd_12_163 ha0.1 rfl rfl rfl hm2 ?_
  refine fx_aload_n dX12_next_60 rfl rfl ?_
  obtain ⟨x3, hx3, h⟩ := xLet_el h
  refine gx_get dX12_next_61 rfl fd_12_157 ha0.1 rfl rfl hx3 ?_
  refine fx_aload_n dX12_next_64 rfl rfl ?_
  obtain ⟨x4, hx4, h⟩ := xLet_el h
  refine gx_get dX12_next_65 rfl fd_12_160 ha0.1 rfl rfl hx4 ?_
  refine fx_icmp_ne (t := 77) dX12_next_68 rfl rfl (fun hc5 => ?_) (fun hc5 => ?_)
  · rw [if_pos hc5] at h
    refine fx_aload_n dX12_next_77 rfl rfl ?_
    refine gx_getr dX12_next_78 rfl fd_12_19 ha0.1 rfl rfl ?_
    refine fx_aload_n dX12_next_81 rfl rfl ?_
    obtain ⟨x6, hx6, h⟩ := xLet_el h
    refine gx_get dX12_next_82 rfl fd_12_157 ha0.1 rfl rfl hx6 ?_
    obtain ⟨hj8, h⟩ := xChk_el h
    obtain ⟨x7, hx7, h⟩ := xLet_el h
    refine gx_baload (t := 0) dX12_next_85 rfl ha0.2.2.2.2.1 rfl hj8 hx7 ?_
    refine fx_istore_n (ls2 := [some (.ref a0), some (.int x7), o2, o3, o4]) dX12_next_86 rfl rfl rfl ?_
    refine fx_iload_n dX12_next_87 rfl rfl ?_
    obtain ⟨p9, ep9, h⟩ := xBind_el h
    refine gx_calls (as := [.int x7]) (r := []) rfl dX12_next_88 ca_12_169 rfl me_88 rfl rfl rfl rfl (fX12_isLetter_ok (d := d) (by omega) ep9) rfl rfl ?_
    refine fx_if_eq (t := 211) dX12_next_91 rfl rfl (fun hc10 => ?_) (fun hc10 => ?_)
    · rw [if_pos hc10] at h
      refine fx_iload_n dX12_next_211 rfl rfl ?_
      refine fx_bipush (x := 48) dX12_next_212 rfl (by decide) ?_
      refine fx_bipush (x := 57) dX12_next_214 rfl (by decide) ?_
      obtain ⟨p11, ep11, h⟩ := xBind_el h
      refine gx_calls (as := [.int x7, .int (48 : Int32), .int (57 : Int32)]) (r := []) rfl dX12_next_216 ca_12_95 rfl me_18 rfl rfl rfl rfl (fX12_in_ok (d := d) (by omega) ep11) rfl rfl ?_
      refine fx_if_eq (t := 315) dX12_next_219 rfl rfl (fun hc12 => ?_) (fun hc12 => ?_)
      · rw [if_pos hc12] at h
        refine fx_aload_n dX12_next_315 rfl rfl ?_
        refine fx_dup dX12_next_316 rfl rfl ?_
        obtain ⟨x13, hx13, h⟩ := xLet_el h
        refine gx_get dX12_next_317 rfl fd_12_157 ha0.1 rfl rfl hx13 ?_
        refine fx_iconst (x := 1) dX12_next_320 rfl (by decide) ?_
        obtain ⟨x14, hx14, h⟩ := xLet_el h
        refine fx_iadd dX12_next_321 rfl hx14 ?_
        obtain ⟨m15, hm15, h⟩ := xLet_el h
        refine gx_put dX12_next_322 rfl fd_12_157 ha0.1 rfl rfl rfl hm15 ?_
        refine fx_aload_n dX12_next_325 rfl rfl ?_
        refine fx_iload_n dX12_next_326 rfl rfl ?_
        obtain ⟨m16, hm16, h⟩ := xLet_el h
        refine gx_put dX12_next_327 rfl fd_12_178 ha0.1 rfl rfl rfl hm16 ?_
        refine fx_aload_n dX12_next_330 rfl rfl ?_
        refine fx_iload_n dX12_next_331 rfl rfl ?_
        refine fx_bipush (x := 59) dX12_next_332 rfl (by decide) ?_
        refine fx_bipush (x := 62) dX12_next_334 rfl (by decide) ?_
        obtain ⟨p17, ep17, h⟩ := xBind_el h
        refine gx_calls (as := [.int x7, .int (59 : Int32), .int (62 : Int32)]) (r := [.ref a0]) rfl dX12_next_336 ca_12_95 rfl me_18 rfl rfl rfl rfl (fX12_in_ok (d := d) (by omega) ep17) rfl rfl ?_
        refine fx_if_ne (t := 365) dX12_next_339 rfl rfl (fun hc18 => ?_) (fun hc18 => ?_)
        · rw [if_pos hc18] at h
          exact fX12_next_365_ok (o2 := o2) (o3 := o3) (o4 := o4) hd ha0 ha0 q4 h
        · rw [if_neg hc18] at h
          refine fx_iload_n dX12_next_342 rfl rfl ?_
          refine fx_bipush (x := 40) dX12_next_343 rfl (by decide) ?_
          refine fx_bipush (x := 45) dX12_next_345 rfl (by decide) ?_
          obtain ⟨p19, ep19, h⟩ := xBind_el h
          refine gx_calls (as := [.int x7, .int (40 : Int32), .int (45 : Int32)]) (r := [.ref a0]) rfl dX12_next_347 ca_12_95 rfl me_18 rfl rfl rfl rfl (fX12_in_ok (d := d) (by omega) ep19) rfl rfl ?_
          refine fx_if_ne (t := 365) dX12_next_350 rfl rfl (fun hc20 => ?_) (fun hc20 => ?_)
          · rw [if_pos hc20] at h
            exact fX12_next_365_ok (o2 := o2) (o3 := o3) (o4 := o4) hd ha0 ha0 q4 h
          · rw [if_neg hc20] at h
            refine fx_iload_n dX12_next_353 rfl rfl ?_
            refine fx_bipush (x := 47) dX12_next_354 rfl (by decide) ?_
            refine fx_icmp_eq (t := 365) dX12_next_356 rfl rfl (fun hc21 => ?_) (fun hc21 => ?_)
            · rw [if_pos hc21] at h
              exact fX12_next_365_ok (o2 := o2) (o3 := o3) (o4 := o4) hd ha0 ha0 q4 h
            · rw [if_neg hc21] at h
              refine fx_iload_n dX12_next_359 rfl rfl ?_
              refine fx_bipush (x := 35) dX12_next_360 rfl (by decide) ?_
              refine fx_icmp_ne (t := 369) dX12_next_362 rfl rfl (fun hc22 => ?_) (fun hc22 => ?_)
              · rw [if_pos hc22] at h
                refine fx_iconst (x := 4) dX12_next_369 rfl (by decide) ?_
                exact fX12_next_370_ok (o2 := o2) (o3 := o3) (o4 := o4) hd ha0 ha0 q4 h
              · rw [if_neg hc22] at h
                exact fX12_next_365_ok (o2 := o2) (o3 := o3) (o4 := o4) hd ha0 ha0 q4 h
      · rw [if_neg hc12] at h
        refine fx_aload_n dX12_next_222 rfl rfl ?_
        refine fx_iconst (x := 2) dX12_next_223 rfl (by decide) ?_
        obtain ⟨m23, hm23, h⟩ := xLet_el h
        refine gx_put dX12_next_224 rfl fd_12_166 ha0.1 rfl rfl rfl hm23 ?_
        refine fx_aload_n dX12_next_227 rfl rfl ?_
        refine fx_iconst (x := 0) dX12_next_228 rfl (by decide) ?_
        obtain ⟨m24, hm24, h⟩ := xLet_el h
        refine gx_put dX12_next_229 rfl fd_12_178 ha0.1 rfl rfl rfl hm24 ?_
        exact fX12_next_232_ok hd ha0 xFuel (some (.int x7)) (o2) (o3) (o4) rfl q4 m24 r h
    · rw [if_neg hc10] at h
      refine fx_lconst (x := 0) dX12_next_94 rfl (by decide) ?_
      refine fx_lstore_n (ls2 := [some (.ref a0), some (.int x7), some (.long (0 : Int64)), none, o4]) dX12_next_95 rfl rfl rfl ?_
      refine fx_iconst (x := 0) dX12_next_96 rfl (by decide) ?_
      refine fx_istore (ls2 := [some (.ref a0), some (.int x7), some (.long (0 : Int64)), none, some (.int (0 : Int32))]) dX12_next_97 rfl rfl rfl ?_
      exact fX12_next_99_ok hd ha0 xFuel (0 : Int64) (0 : Int32) (some (.int x7)) rfl p9.2 r h
  · rw [if_neg hc5] at h
    refine fx_aload_n dX12_next_71 rfl rfl ?_
    refine fx_iconst (x := 0) dX12_next_72 rfl (by decide) ?_
    obtain ⟨m25, hm25, h⟩ := xLet_el h
    refine gx_put dX12_next_73 rfl fd_12_166 ha0.1 rfl rfl rfl hm25 ?_
    cases h
    exact fx_return dX12_next_76 rfl rfl
def fX12_next_0 (a0 : Nat) : Nat → xMem → Option xMem
  | 0, _ => none
  | fuel + 1, m => xLet (m.1 a0 13) fun x1 => xLet (m.1 a0 12) fun x2 => if x2 ≤ x1 then fX12_next_52 a0 m else xLet (m.1 a0 13) fun x4 => bif xIn x4 300 then xLet (m.1 (a0 + 4) x4.toNatClampNeg) fun x5 => if x5 = (32 : Int32) then fX12_next_39 a0 (fX12_next_0 a0 fuel) m else xLet (m.1 a0 13) fun x8 => bif xIn x8 300 then xLet (m.1 (a0 + 4) x8.toNatClampNeg) fun x9 => if ¬ x9 = (10 : Int32) then fX12_next_52 a0 m else fX12_next_39 a0 (fX12_next_0 a0 fuel) m else none else none
set_option maxRecDepth 4000 in
theorem fX12_next_0_ok {a0 : Nat} {d : Nat} (hd : 2 ≤ d) (ha0 : isModel a0) : ∀ (fuel : Nat) (o1 : Option Value) (o2 : Option Value) (o3 : Option Value) (o4 : Option Value) (q1 : xNoD o1 = true) (q4 : xNoD o4 = true) (m : xMem) (r : xMem), fX12_next_0 a0 fuel m = some r → xFx hh_87 cX12_next d 0 [some (.ref a0), o1, o2, o3, o4] [] (xLay m) 0 0 none (xLay r) := by
  intro fuel
  induction fuel with
  | zero => intro  o1 o2 o3 o4 q1 q4 m r  h; cases h
  | succ fuel ih =>
    intro  o1 o2 o3 o4 q1 q4 m r  h
    unfold fX12_next_0 at h
    refine fx_aload_n dX12_next_0 rfl rfl ?_
    obtain ⟨x1, hx1, h⟩ := xLet_el h
    refine gx_get dX12_next_1 rfl fd_12_157 ha0.1 rfl rfl hx1 ?_
    refine fx_aload_n dX12_next_4 rfl rfl ?_
    obtain ⟨x2, hx2, h⟩ := xLet_el h
    refine gx_get dX12_next_5 rfl fd_12_160 ha0.1 rfl rfl hx2 ?_
    refine fx_icmp_ge (t := 52) dX12_next_8 rfl rfl (fun hc3 => ?_) (fun hc3 => ?_)
    · rw [if_pos hc3] at h
      exact fX12_next_52_ok (o1 := o1) (o2 := o2) (o3 := o3) (o4 := o4) hd ha0 q1 q4 h
    · rw [if_neg hc3] at h
      refine fx_aload_n dX12_next_11 rfl rfl ?_
      refine gx_getr dX12_next_12 rfl fd_12_19 ha0.1 rfl rfl ?_
      refine fx_aload_n dX12_next_15 rfl rfl ?_
      obtain ⟨x4, hx4, h⟩ := xLet_el h
      refine gx_get dX12_next_16 rfl fd_12_157 ha0.1 rfl rfl hx4 ?_
      obtain ⟨hj6, h⟩ := xChk_el h
      obtain ⟨x5, hx5, h⟩ := xLet_el h
      refine gx_baload (t := 0) dX12_next_19 rfl ha0.2.2.2.2.1 rfl hj6 hx5 ?_
      refine fx_bipush (x := 32) dX12_next_20 rfl (by decide) ?_
      refine fx_icmp_eq (t := 39) dX12_next_22 rfl rfl (fun hc7 => ?_) (fun hc7 => ?_)
      · rw [if_pos hc7] at h
        exact fX12_next_39_ok (o1 := o1) (o2 := o2) (o3 := o3) (o4 := o4) hd ha0 ih q1 q4 h
      · rw [if_neg hc7] at h
        refine fx_aload_n dX12_next_25 rfl rfl ?_
        refine gx_getr dX12_next_26 rfl fd_12_19 ha0.1 rfl rfl ?_
        refine fx_aload_n dX12_next_29 rfl rfl ?_
        obtain ⟨x8, hx8, h⟩ := xLet_el h
        refine gx_get dX12_next_30 rfl fd_12_157 ha0.1 rfl rfl hx8 ?_
        obtain ⟨hj10, h⟩ := xChk_el h
        obtain ⟨x9, hx9, h⟩ := xLet_el h
        refine gx_baload (t := 0) dX12_next_33 rfl ha0.2.2.2.2.1 rfl hj10 hx9 ?_
        refine fx_bipush (x := 10) dX12_next_34 rfl (by decide) ?_
        refine fx_icmp_ne (t := 52) dX12_next_36 rfl rfl (fun hc11 => ?_) (fun hc11 => ?_)
        · rw [if_pos hc11] at h
          exact fX12_next_52_ok (o1 := o1) (o2 := o2) (o3 := o3) (o4 := o4) hd ha0 q1 q4 h
        · rw [if_neg hc11] at h
          exact fX12_next_39_ok (o1 := o1) (o2 := o2) (o3 := o3) (o4 := o4) hd ha0 ih q1 q4 h
def fX12_next (a0 : Nat) (m : xMem) : Option xMem := fX12_next_0 a0 xFuel  m
theorem fX12_next_ok {a0 : Nat} {m : xMem} {r : xMem} {d : Nat} (hd : 3 ≤ d) (ha0 : isModel a0) (h : fX12_next a0 m = some r) : xEx d 87 [.ref a0] (xLay m) none (xLay r) := by
  obtain ⟨d, rfl⟩ : ∃ q, d = q + 1 := ⟨d - 1, by omega⟩
  exact xEx_of me_87 rfl (fX12_next_0_ok (d := d) (by omega) ha0 xFuel (none) (none) (none) (none) rfl rfl m r h)
def fX12_rank_39 (a0 : Int32) (s0 : Int32) (m : xMem) : Option (Int32 × xMem) := some (s0, m)
set_option maxRecDepth 4000 in
theorem fX12_rank_39_ok {a0 : Int32} {d : Nat} (hd : 0 ≤ d)  {s0 : Int32} {m : xMem} {r : (Int32 × xMem)} (h : fX12_rank_39 a0 s0 m = some r) : xFx hh_102 cX12_rank d 39 [some (.int a0)] [.int s0] (xLay m) 0 0 (some (.int r.1)) (xLay r.2) := by
  unfold fX12_rank_39 at h
  cases h
  exact fx_ireturn dX12_rank_39 rfl rfl
def fX12_rank_34 (a0 : Int32) (m : xMem) : Option (Int32 × xMem) := fX12_rank_39 a0 (3 : Int32) m
set_option maxRecDepth 4000 in
theorem fX12_rank_34_ok {a0 : Int32} {d : Nat} (hd : 0 ≤ d)  {m : xMem} {r : (Int32 × xMem)} (h : fX12_rank_34 a0 m = some r) : xFx hh_102 cX12_rank d 34 [some (.int a0)] [] (xLay m) 0 0 (some (.int r.1)) (xLay r.2) := by
  unfold fX12_rank_34 at h
  refine fx_iconst (x := 3) dX12_rank_34 rfl (by decide) ?_
  refine fx_goto (t := 39) dX12_rank_35 rfl rfl ?_
  exact fX12_rank_39_ok hd h
def fX12_rank_0 (a0 : Int32) (m : xMem) : Option (Int32 × xMem) := if ¬ a0 = (407 : Int32) then if ¬ a0 = (406 : Int32) then if a0 = (43 : Int32) then fX12_rank_34 a0 m else if ¬ a0 = (45 : Int32) then fX12_rank_39 a0 (4 : Int32) m else fX12_rank_34 a0 m else fX12_rank_39 a0 (2 : Int32) m else fX12_rank_39 a0 (1 : Int32) m
set_option maxRecDepth 4000 in
theorem fX12_rank_0_ok {a0 : Int32} {d : Nat} (hd : 0 ≤ d)  {m : xMem} {r : (Int32 × xMem)} (h : fX12_rank_0 a0 m = some r) : xFx hh_102 cX12_rank d 0 [some (.int a0)] [] (xLay m) 0 0 (some (.int r.1)) (xLay r.2) := by
  unfold fX12_rank_0 at h
  refine fx_iload_n dX12_rank_0 rfl rfl ?_
  refine fx_sipush (x := 407) dX12_rank_1 rfl (by decide) ?_
  refine fx_icmp_ne (t := 11) dX12_rank_4 rfl rfl (fun hc1 => ?_) (fun hc1 => ?_)
  · rw [if_pos hc1] at h
    refine fx_iload_n dX12_rank_11 rfl rfl ?_
    refine fx_sipush (x := 406) dX12_rank_12 rfl (by decide) ?_
    refine fx_icmp_ne (t := 22) dX12_rank_15 rfl rfl (fun hc2 => ?_) (fun hc2 => ?_)
    · rw [if_pos hc2] at h
      refine fx_iload_n dX12_rank_22 rfl rfl ?_
      refine fx_bipush (x := 43) dX12_rank_23 rfl (by decide) ?_
      refine fx_icmp_eq (t := 34) dX12_rank_25 rfl rfl (fun hc3 => ?_) (fun hc3 => ?_)
      · rw [if_pos hc3] at h
        exact fX12_rank_34_ok hd h
      · rw [if_neg hc3] at h
        refine fx_iload_n dX12_rank_28 rfl rfl ?_
        refine fx_bipush (x := 45) dX12_rank_29 rfl (by decide) ?_
        refine fx_icmp_ne (t := 38) dX12_rank_31 rfl rfl (fun hc4 => ?_) (fun hc4 => ?_)
        · rw [if_pos hc4] at h
          refine fx_iconst (x := 4) dX12_rank_38 rfl (by decide) ?_
          exact fX12_rank_39_ok hd h
        · rw [if_neg hc4] at h
          exact fX12_rank_34_ok hd h
    · rw [if_neg hc2] at h
      refine fx_iconst (x := 2) dX12_rank_18 rfl (by decide) ?_
      refine fx_goto (t := 39) dX12_rank_19 rfl rfl ?_
      exact fX12_rank_39_ok hd h
  · rw [if_neg hc1] at h
    refine fx_iconst (x := 1) dX12_rank_7 rfl (by decide) ?_
    refine fx_goto (t := 39) dX12_rank_8 rfl rfl ?_
    exact fX12_rank_39_ok hd h
def fX12_rank (a0 : Int32) (m : xMem) : Option (Int32 × xMem) := fX12_rank_0 a0  m
theorem fX12_rank_ok {a0 : Int32} {m : xMem} {r : (Int32 × xMem)} {d : Nat} (hd : 1 ≤ d)  (h : fX12_rank a0 m = some r) : xEx d 102 [.int a0] (xLay m) (some (.int r.1)) (xLay r.2) := by
  obtain ⟨d, rfl⟩ : ∃ q, d = q + 1 := ⟨d - 1, by omega⟩
  exact xEx_of me_102 rfl (fX12_rank_0_ok (d := d) (by omega) h)
def fX12_works_70 (a0 : Nat) (a1 : Int32) (m : xMem) : Option xMem := some m
set_option maxRecDepth 4000 in
theorem fX12_works_70_ok {a0 : Nat} {a1 : Int32} {d : Nat} (hd : 1 ≤ d) (ha0 : isModel a0) {m : xMem} {r : xMem} (h : fX12_works_70 a0 a1 m = some r) : xFx hh_103 cX12_works d 70 [some (.ref a0), some (.int a1)] [] (xLay m) 0 0 none (xLay r) := by
  unfold fX12_works_70 at h
  cases h
  exact fx_return dX12_works_70 rfl rfl
def fX12_works_0 (a0 : Nat) (a1 : Int32) : Nat → xMem → Option xMem
  | 0, _ => none
  | fuel + 1, m => xLet (m.1 a0 23) fun x1 => if x1 ≤ (0 : Int32) then fX12_works_70 a0 a1 m else xLet (m.1 a0 23) fun x3 => xLet (x3 - (1 : Int32)) fun x4 => bif xIn x4 80 then xLet (m.1 (a0 + 13) x4.toNatClampNeg) fun x5 => xLet (m.1 a0 20) fun x7 => if ¬ x5 = x7 then fX12_works_70 a0 a1 m else xLet (m.1 a0 23) fun x9 => xLet (x9 - (1 : Int32)) fun x10 => bif xIn x10 80 then xLet (m.1 (a0 + 12) x10.toNatClampNeg) fun x11 => (fX12_rank x11 m).bind fun p13 => if p13.1 < a1 then fX12_works_70 a0 a1 p13.2 else xLet (p13.2.1 a0 23) fun x15 => xLet (x15 - (1 : Int32)) fun x16 => xLet (xPut p13.2 a0 23 x16) fun m17 => xLet (m17.1 a0 23) fun x18 => bif xIn x18 80 then xLet (m17.1 (a0 + 12) x18.toNatClampNeg) fun x19 => (fX12_emits a0 x19 (0 : Int32) m17).bind fun p21 => fX12_works_0 a0 a1 fuel p21 else none else none else none
set_option maxRecDepth 4000 in
theorem fX12_works_0_ok {a0 : Nat} {a1 : Int32} {d : Nat} (hd : 1 ≤ d) (ha0 : isModel a0) : ∀ (fuel : Nat) (m : xMem) (r : xMem), fX12_works_0 a0 a1 fuel m = some r → xFx hh_103 cX12_works d 0 [some (.ref a0), some (.int a1)] [] (xLay m) 0 0 none (xLay r) := by
  intro fuel
  induction fuel with
  | zero => intro   m r  h; cases h
  | succ fuel ih =>
    intro   m r  h
    unfold fX12_works_0 at h
    refine fx_aload_n dX12_works_0 rfl rfl ?_
    obtain ⟨x1, hx1, h⟩ := xLet_el h
    refine gx_get dX12_works_1 rfl fd_12_205 ha0.1 rfl rfl hx1 ?_
    refine fx_if_le (t := 70) dX12_works_4 rfl rfl (fun hc2 => ?_) (fun hc2 => ?_)
    · rw [if_pos hc2] at h
      exact fX12_works_70_ok hd ha0 h
    · rw [if_neg hc2] at h
      refine fx_aload_n dX12_works_7 rfl rfl ?_
      refine gx_getr dX12_works_8 rfl fd_12_54 ha0.1 rfl rfl ?_
      refine fx_aload_n dX12_works_11 rfl rfl ?_
      obtain ⟨x3, hx3, h⟩ := xLet_el h
      refine gx_get dX12_works_12 rfl fd_12_205 ha0.1 rfl rfl hx3 ?_
      refine fx_iconst (x := 1) dX12_works_15 rfl (by decide) ?_
      obtain ⟨x4, hx4, h⟩ := xLet_el h
      refine fx_isub dX12_works_16 rfl hx4 ?_
      obtain ⟨hj6, h⟩ := xChk_el h
      obtain ⟨x5, hx5, h⟩ := xLet_el h
      refine gx_iaload dX12_works_17 rfl ha0.2.2.2.2.2.2.2.2.2.2.2.2.2.1 hj6 hx5 ?_
      refine fx_aload_n dX12_works_18 rfl rfl ?_
      obtain ⟨x7, hx7, h⟩ := xLet_el h
      refine gx_get dX12_works_19 rfl fd_12_190 ha0.1 rfl rfl hx7 ?_
      refine fx_icmp_ne (t := 70) dX12_works_22 rfl rfl (fun hc8 => ?_) (fun hc8 => ?_)
      · rw [if_pos hc8] at h
        exact fX12_works_70_ok hd ha0 h
      · rw [if_neg hc8] at h
        refine fx_aload_n dX12_works_25 rfl rfl ?_
        refine gx_getr dX12_works_26 rfl fd_12_51 ha0.1 rfl rfl ?_
        refine fx_aload_n dX12_works_29 rfl rfl ?_
        obtain ⟨x9, hx9, h⟩ := xLet_el h
        refine gx_get dX12_works_30 rfl fd_12_205 ha0.1 rfl rfl hx9 ?_
        refine fx_iconst (x := 1) dX12_works_33 rfl (by decide) ?_
        obtain ⟨x10, hx10, h⟩ := xLet_el h
        refine fx_isub dX12_works_34 rfl hx10 ?_
        obtain ⟨hj12, h⟩ := xChk_el h
        obtain ⟨x11, hx11, h⟩ := xLet_el h
        refine gx_iaload dX12_works_35 rfl ha0.2.2.2.2.2.2.2.2.2.2.2.2.1 hj12 hx11 ?_
        obtain ⟨p13, ep13, h⟩ := xBind_el h
        refine gx_calls (as := [.int x11]) (r := []) rfl dX12_works_36 ca_12_208 rfl me_102 rfl rfl rfl rfl (fX12_rank_ok (d := d) (by omega) ep13) rfl rfl ?_
        refine fx_iload_n dX12_works_39 rfl rfl ?_
        refine fx_icmp_lt (t := 70) dX12_works_40 rfl rfl (fun hc14 => ?_) (fun hc14 => ?_)
        · rw [if_pos hc14] at h
          exact fX12_works_70_ok hd ha0 h
        · rw [if_neg hc14] at h
          refine fx_aload_n dX12_works_43 rfl rfl ?_
          refine fx_dup dX12_works_44 rfl rfl ?_
          obtain ⟨x15, hx15, h⟩ := xLet_el h
          refine gx_get dX12_works_45 rfl fd_12_205 ha0.1 rfl rfl hx15 ?_
          refine fx_iconst (x := 1) dX12_works_48 rfl (by decide) ?_
          obtain ⟨x16, hx16, h⟩ := xLet_el h
          refine fx_isub dX12_works_49 rfl hx16 ?_
          obtain ⟨m17, hm17, h⟩ := xLet_el h
          refine gx_put dX12_works_50 rfl fd_12_205 ha0.1 rfl rfl rfl hm17 ?_
          refine fx_aload_n dX12_works_53 rfl rfl ?_
          refine fx_aload_n dX12_works_54 rfl rfl ?_
          refine gx_getr dX12_works_55 rfl fd_12_51 ha0.1 rfl rfl ?_
          refine fx_aload_n dX12_works_58 rfl rfl ?_
          obtain ⟨x18, hx18, h⟩ := xLet_el h
          refine gx_get dX12_works_59 rfl fd_12_205 ha0.1 rfl rfl hx18 ?_
          obtain ⟨hj20, h⟩ := xChk_el h
          obtain ⟨x19, hx19, h⟩ := xLet_el h
          refine gx_iaload dX12_works_62 rfl ha0.2.2.2.2.2.2.2.2.2.2.2.2.1 hj20 hx19 ?_
          refine fx_iconst (x := 0) dX12_works_63 rfl (by decide) ?_
          obtain ⟨p21, ep21, h⟩ := xBind_el h
          refine gx_callv (as := [.int x19, .int (0 : Int32)]) (r := []) rfl dX12_works_64 ca_12_211 rfl me_96 rfl rfl rfl rfl (ha0.1) rfl (fX12_emits_ok (d := d) (by omega) ha0 ep21) rfl rfl ?_
          refine fx_goto (t := 0) dX12_works_67 rfl rfl ?_
          exact ih p21 r h
def fX12_works (a0 : Nat) (a1 : Int32) (m : xMem) : Option xMem := fX12_works_0 a0 a1 xFuel  m
theorem fX12_works_ok {a0 : Nat} {a1 : Int32} {m : xMem} {r : xMem} {d : Nat} (hd : 2 ≤ d) (ha0 : isModel a0) (h : fX12_works a0 a1 m = some r) : xEx d 103 [.ref a0, .int a1] (xLay m) none (xLay r) := by
  obtain ⟨d, rfl⟩ : ∃ q, d = q + 1 := ⟨d - 1, by omega⟩
  exact xEx_of me_103 rfl (fX12_works_0_ok (d := d) (by omega) ha0 xFuel m r h)
def fX12_waitsFor_0 (a0 : Nat) (a1 : Int32) (m : xMem) : Option xMem := (fX12_rank a1 m).bind fun p1 => (fX12_works a0 p1.1 p1.2).bind fun p2 => xLet (p2.1 a0 23) fun x3 => bif xIn x3 80 then xLet (xPut p2 (a0 + 12) x3.toNatClampNeg a1) fun m4 => xLet (m4.1 a0 23) fun x6 => xLet (m4.1 a0 20) fun x7 => bif xIn x6 80 then xLet (xPut m4 (a0 + 13) x6.toNatClampNeg x7) fun m8 => xLet (m8.1 a0 23) fun x10 => xLet (x10 + (1 : Int32)) fun x11 => xLet (xPut m8 a0 23 x11) fun m12 => (fX12_next a0 m12).bind fun p13 => some p13 else none else none
set_option maxRecDepth 4000 in
theorem fX12_waitsFor_0_ok {a0 : Nat} {a1 : Int32} {d : Nat} (hd : 3 ≤ d) (ha0 : isModel a0) {m : xMem} {r : xMem} (h : fX12_waitsFor_0 a0 a1 m = some r) : xFx hh_101 cX12_waitsFor d 0 [some (.ref a0), some (.int a1)] [] (xLay m) 0 0 none (xLay r) := by
  unfold fX12_waitsFor_0 at h
  refine fx_aload_n dX12_waitsFor_0 rfl rfl ?_
  refine fx_iload_n dX12_waitsFor_1 rfl rfl ?_
  obtain ⟨p1, ep1, h⟩ := xBind_el h
  refine gx_calls (as := [.int a1]) (r := [.ref a0]) rfl dX12_waitsFor_2 ca_12_208 rfl me_102 rfl rfl rfl rfl (fX12_rank_ok (d := d) (by omega) ep1) rfl rfl ?_
  obtain ⟨p2, ep2, h⟩ := xBind_el h
  refine gx_callv (as := [.int p1.1]) (r := []) rfl dX12_waitsFor_5 ca_12_215 rfl me_103 rfl rfl rfl rfl (ha0.1) rfl (fX12_works_ok (d := d) (by omega) ha0 ep2) rfl rfl ?_
  refine fx_aload_n dX12_waitsFor_8 rfl rfl ?_
  refine gx_getr dX12_waitsFor_9 rfl fd_12_51 ha0.1 rfl rfl ?_
  refine fx_aload_n dX12_waitsFor_12 rfl rfl ?_
  obtain ⟨x3, hx3, h⟩ := xLet_el h
  refine gx_get dX12_waitsFor_13 rfl fd_12_205 ha0.1 rfl rfl hx3 ?_
  refine fx_iload_n dX12_waitsFor_16 rfl rfl ?_
  obtain ⟨hj5, h⟩ := xChk_el h
  obtain ⟨m4, hm4, h⟩ := xLet_el h
  refine gx_iastore dX12_waitsFor_17 rfl ha0.2.2.2.2.2.2.2.2.2.2.2.2.1 hj5 hm4 ?_
  refine fx_aload_n dX12_waitsFor_18 rfl rfl ?_
  refine gx_getr dX12_waitsFor_19 rfl fd_12_54 ha0.1 rfl rfl ?_
  refine fx_aload_n dX12_waitsFor_22 rfl rfl ?_
  obtain ⟨x6, hx6, h⟩ := xLet_el h
  refine gx_get dX12_waitsFor_23 rfl fd_12_205 ha0.1 rfl rfl hx6 ?_
  refine fx_aload_n dX12_waitsFor_26 rfl rfl ?_
  obtain ⟨x7, hx7, h⟩ := xLet_el h
  refine gx_get dX12_waitsFor_27 rfl fd_12_190 ha0.1 rfl rfl hx7 ?_
  obtain ⟨hj9, h⟩ := xChk_el h
  obtain ⟨m8, hm8, h⟩ := xLet_el h
  refine gx_iastore dX12_waitsFor_30 rfl ha0.2.2.2.2.2.2.2.2.2.2.2.2.2.1 hj9 hm8 ?_
  refine fx_aload_n dX12_waitsFor_31 rfl rfl ?_
  refine fx_dup dX12_waitsFor_32 rfl rfl ?_
  obtain ⟨x10, hx10, h⟩ := xLet_el h
  refine gx_get dX12_waitsFor_33 rfl fd_12_205 ha0.1 rfl rfl hx10 ?_
  refine fx_iconst (x := 1) dX12_waitsFor_36 rfl (by decide) ?_
  obtain ⟨x11, hx11, h⟩ := xLet_el h
  refine fx_iadd dX12_waitsFor_37 rfl hx11 ?_
  obtain ⟨m12, hm12, h⟩ := xLet_el h
  refine gx_put dX12_waitsFor_38 rfl fd_12_205 ha0.1 rfl rfl rfl hm12 ?_
  refine fx_aload_n dX12_waitsFor_41 rfl rfl ?_
  obtain ⟨p13, ep13, h⟩ := xBind_el h
  refine gx_callv (as := []) (r := []) rfl dX12_waitsFor_42 ca_12_202 rfl me_87 rfl rfl rfl rfl (ha0.1) rfl (fX12_next_ok (d := d) (by omega) ha0 ep13) rfl rfl ?_
  cases h
  exact fx_return dX12_waitsFor_45 rfl rfl
def fX12_waitsFor (a0 : Nat) (a1 : Int32) (m : xMem) : Option xMem := fX12_waitsFor_0 a0 a1  m
theorem fX12_waitsFor_ok {a0 : Nat} {a1 : Int32} {m : xMem} {r : xMem} {d : Nat} (hd : 4 ≤ d) (ha0 : isModel a0) (h : fX12_waitsFor a0 a1 m = some r) : xEx d 101 [.ref a0, .int a1] (xLay m) none (xLay r) := by
  obtain ⟨d, rfl⟩ : ∃ q, d = q + 1 := ⟨d - 1, by omega⟩
  exact xEx_of me_101 rfl (fX12_waitsFor_0_ok (d := d) (by omega) ha0 h)
def fX12_isAsking_43 (a0 : Int32) (s0 : Int32) (m : xMem) : Option (Int32 × xMem) := bif (decide (s0 = 0) || decide (s0 = 1)) then some (s0, m) else none
set_option maxRecDepth 4000 in
theorem fX12_isAsking_43_ok {a0 : Int32} {d : Nat} (hd : 0 ≤ d)  {s0 : Int32} {m : xMem} {r : (Int32 × xMem)} (h : fX12_isAsking_43 a0 s0 m = some r) : xFx hh_104 cX12_isAsking d 43 [some (.int a0)] [.int s0] (xLay m) 0 0 (some (.int r.1)) (xLay r.2) := by
  unfold fX12_isAsking_43 at h
  obtain ⟨hb1, h⟩ := xChk_el h
  cases h
  exact fx_ireturn dX12_isAsking_43 rfl (by show ((decide _ || decide _) && _) = true; rw [hb1]; rfl)
def fX12_isAsking_38 (a0 : Int32) (m : xMem) : Option (Int32 × xMem) := fX12_isAsking_43 a0 (1 : Int32) m
set_option maxRecDepth 4000 in
theorem fX12_isAsking_38_ok {a0 : Int32} {d : Nat} (hd : 0 ≤ d)  {m : xMem} {r : (Int32 × xMem)} (h : fX12_isAsking_38 a0 m = some r) : xFx hh_104 cX12_isAsking d 38 [some (.int a0)] [] (xLay m) 0 0 (some (.int r.1)) (xLay r.2) := by
  unfold fX12_isAsking_38 at h
  refine fx_iconst (x := 1) dX12_isAsking_38 rfl (by decide) ?_
  refine fx_goto (t := 43) dX12_isAsking_39 rfl rfl ?_
  exact fX12_isAsking_43_ok hd h
def fX12_isAsking_0 (a0 : Int32) (m : xMem) : Option (Int32 × xMem) := if a0 = (60 : Int32) then fX12_isAsking_38 a0 m else if a0 = (62 : Int32) then fX12_isAsking_38 a0 m else if a0 = (61 : Int32) then fX12_isAsking_38 a0 m else if a0 = (35 : Int32) then fX12_isAsking_38 a0 m else if a0 = (300 : Int32) then fX12_isAsking_38 a0 m else if ¬ a0 = (301 : Int32) then fX12_isAsking_43 a0 (0 : Int32) m else fX12_isAsking_38 a0 m
set_option maxRecDepth 4000 in
theorem fX12_isAsking_0_ok {a0 : Int32} {d : Nat} (hd : 0 ≤ d)  {m : xMem} {r : (Int32 × xMem)} (h : fX12_isAsking_0 a0 m = some r) : xFx hh_104 cX12_isAsking d 0 [some (.int a0)] [] (xLay m) 0 0 (some (.int r.1)) (xLay r.2) := by
  unfold fX12_isAsking_0 at h
  refine fx_iload_n dX12_isAsking_0 rfl rfl ?_
  refine fx_bipush (x := 60) dX12_isAsking_1 rfl (by decide) ?_
  refine fx_icmp_eq (t := 38) dX12_isAsking_3 rfl rfl (fun hc1 => ?_) (fun hc1 => ?_)
  · rw [if_pos hc1] at h
    exact fX12_isAsking_38_ok hd h
  · rw [if_neg hc1] at h
    refine fx_iload_n dX12_isAsking_6 rfl rfl ?_
    refine fx_bipush (x := 62) dX12_isAsking_7 rfl (by decide) ?_
    refine fx_icmp_eq (t := 38) dX12_isAsking_9 rfl rfl (fun hc2 => ?_) (fun hc2 => ?_)
    · rw [if_pos hc2] at h
      exact fX12_isAsking_38_ok hd h
    · rw [if_neg hc2] at h
      refine fx_iload_n dX12_isAsking_12 rfl rfl ?_
      refine fx_bipush (x := 61) dX12_isAsking_13 rfl (by decide) ?_
      refine fx_icmp_eq (t := 38) dX12_isAsking_15 rfl rfl (fun hc3 => ?_) (fun hc3 => ?_)
      · rw [if_pos hc3] at h
        exact fX12_isAsking_38_ok hd h
      · rw [if_neg hc3] at h
        refine fx_iload_n dX12_isAsking_18 rfl rfl ?_
        refine fx_bipush (x := 35) dX12_isAsking_19 rfl (by decide) ?_
        refine fx_icmp_eq (t := 38) dX12_isAsking_21 rfl rfl (fun hc4 => ?_) (fun hc4 => ?_)
        · rw [if_pos hc4] at h
          exact fX12_isAsking_38_ok hd h
        · rw [if_neg hc4] at h
          refine fx_iload_n dX12_isAsking_24 rfl rfl ?_
          refine fx_sipush (x := 300) dX12_isAsking_25 rfl (by decide) ?_
          refine fx_icmp_eq (t := 38) dX12_isAsking_28 rfl rfl (fun hc5 => ?_) (fun hc5 => ?_)
          · rw [if_pos hc5] at h
            exact fX12_isAsking_38_ok hd h
          · rw [if_neg hc5] at h
            refine fx_iload_n dX12_isAsking_31 rfl rfl ?_
            refine fx_sipush (x := 301) dX12_isAsking_32 rfl (by decide) ?_
            refine fx_icmp_ne (t := 42) dX12_isAsking_35 rfl rfl (fun hc6 => ?_) (fun hc6 => ?_)
            · rw [if_pos hc6] at h
              refine fx_iconst (x := 0) dX12_isAsking_42 rfl (by decide) ?_
              exact fX12_isAsking_43_ok hd h
            · rw [if_neg hc6] at h
              exact fX12_isAsking_38_ok hd h
def fX12_isAsking (a0 : Int32) (m : xMem) : Option (Int32 × xMem) := fX12_isAsking_0 a0  m
theorem fX12_isAsking_ok {a0 : Int32} {m : xMem} {r : (Int32 × xMem)} {d : Nat} (hd : 1 ≤ d)  (h : fX12_isAsking a0 m = some r) : xEx d 104 [.int a0] (xLay m) (some (.int r.1)) (xLay r.2) := by
  obtain ⟨d, rfl⟩ : ∃ q, d = q + 1 := ⟨d - 1, by omega⟩
  exact xEx_of me_104 rfl (fX12_isAsking_0_ok (d := d) (by omega) h)
def fX12_askIsOver_0 (a0 : Nat) : Nat → xMem → Option xMem
  | 0, _ => none
  | fuel + 1, m => (fX12_top a0 m).bind fun p1 => if ¬ p1.1 = (3 : Int32) then xLet (xPut p1.2 a0 26 (3 : Int32)) fun m3 => some m3 else xLet (p1.2.1 a0 20) fun x4 => xLet (x4 - (1 : Int32)) fun x5 => xLet (xPut p1.2 a0 20 x5) fun m6 => xLet (m6.1 a0 19) fun x7 => xLet (x7 - (1 : Int32)) fun x8 => xLet (xPut m6 a0 19 x8) fun m9 => (fX12_emits a0 (405 : Int32) (0 : Int32) m9).bind fun p10 => fX12_askIsOver_0 a0 fuel p10
set_option maxRecDepth 4000 in
theorem fX12_askIsOver_0_ok {a0 : Nat} {d : Nat} (hd : 1 ≤ d) (ha0 : isModel a0) : ∀ (fuel : Nat) (m : xMem) (r : xMem), fX12_askIsOver_0 a0 fuel m = some r → xFx hh_105 cX12_askIsOver d 0 [some (.ref a0)] [] (xLay m) 0 0 none (xLay r) := by
  intro fuel
  induction fuel with
  | zero => intro   m r  h; cases h
  | succ fuel ih =>
    intro   m r  h
    unfold fX12_askIsOver_0 at h
    refine fx_aload_n dX12_askIsOver_0 rfl rfl ?_
    obtain ⟨p1, ep1, h⟩ := xBind_el h
    refine gx_callv (as := []) (r := []) rfl dX12_askIsOver_1 ca_12_236 rfl me_98 rfl rfl rfl rfl (ha0.1) rfl (fX12_top_ok (d := d) (by omega) ha0 ep1) rfl rfl ?_
    refine fx_iconst (x := 3) dX12_askIsOver_4 rfl (by decide) ?_
    refine fx_icmp_ne (t := 39) dX12_askIsOver_5 rfl rfl (fun hc2 => ?_) (fun hc2 => ?_)
    · rw [if_pos hc2] at h
      refine fx_aload_n dX12_askIsOver_39 rfl rfl ?_
      refine fx_iconst (x := 3) dX12_askIsOver_40 rfl (by decide) ?_
      obtain ⟨m3, hm3, h⟩ := xLet_el h
      refine gx_put dX12_askIsOver_41 rfl fd_12_224 ha0.1 rfl rfl rfl hm3 ?_
      cases h
      exact fx_return dX12_askIsOver_44 rfl rfl
    · rw [if_neg hc2] at h
      refine fx_aload_n dX12_askIsOver_8 rfl rfl ?_
      refine fx_dup dX12_askIsOver_9 rfl rfl ?_
      obtain ⟨x4, hx4, h⟩ := xLet_el h
      refine gx_get dX12_askIsOver_10 rfl fd_12_190 ha0.1 rfl rfl hx4 ?_
      refine fx_iconst (x := 1) dX12_askIsOver_13 rfl (by decide) ?_
      obtain ⟨x5, hx5, h⟩ := xLet_el h
      refine fx_isub dX12_askIsOver_14 rfl hx5 ?_
      obtain ⟨m6, hm6, h⟩ := xLet_el h
      refine gx_put dX12_askIsOver_15 rfl fd_12_190 ha0.1 rfl rfl rfl hm6 ?_
      refine fx_aload_n dX12_askIsOver_18 rfl rfl ?_
      refine fx_dup dX12_askIsOver_19 rfl rfl ?_
      obtain ⟨x7, hx7, h⟩ := xLet_el h
      refine gx_get dX12_askIsOver_20 rfl fd_12_193 ha0.1 rfl rfl hx7 ?_
      refine fx_iconst (x := 1) dX12_askIsOver_23 rfl (by decide) ?_
      obtain ⟨x8, hx8, h⟩ := xLet_el h
      refine fx_isub dX12_askIsOver_24 rfl hx8 ?_
      obtain ⟨m9, hm9, h⟩ := xLet_el h
      refine gx_put dX12_askIsOver_25 rfl fd_12_193 ha0.1 rfl rfl rfl hm9 ?_
      refine fx_aload_n dX12_askIsOver_28 rfl rfl ?_
      refine fx_sipush (x := 405) dX12_askIsOver_29 rfl (by decide) ?_
      refine fx_iconst (x := 0) dX12_askIsOver_32 rfl (by decide) ?_
      obtain ⟨p10, ep10, h⟩ := xBind_el h
      refine gx_callv (as := [.int (405 : Int32), .int (0 : Int32)]) (r := []) rfl dX12_askIsOver_33 ca_12_211 rfl me_96 rfl rfl rfl rfl (ha0.1) rfl (fX12_emits_ok (d := d) (by omega) ha0 ep10) rfl rfl ?_
      refine fx_goto (t := 0) dX12_askIsOver_36 rfl rfl ?_
      exact ih p10 r h
def fX12_askIsOver (a0 : Nat) (m : xMem) : Option xMem := fX12_askIsOver_0 a0 xFuel  m
theorem fX12_askIsOver_ok {a0 : Nat} {m : xMem} {r : xMem} {d : Nat} (hd : 2 ≤ d) (ha0 : isModel a0) (h : fX12_askIsOver a0 m = some r) : xEx d 105 [.ref a0] (xLay m) none (xLay r) := by
  obtain ⟨d, rfl⟩ : ∃ q, d = q + 1 := ⟨d - 1, by omega⟩
  exact xEx_of me_105 rfl (fX12_askIsOver_0_ok (d := d) (by omega) ha0 xFuel m r h)
