theorem bdX11_of_0 : (decode cX11_of 0 = .ok (.aload_n 0, 1)) ∧ (decode cX11_of 1 = .ok (.getfield 10, 3)) ∧ (decode cX11_of 4 = .ok (.iload_n 1, 1)) ∧ (decode cX11_of 5 = .ok (.invokevirtual 65, 3)) ∧ (decode cX11_of 8 = .ok (.ifCond .ne 5, 3)) ∧ (decode cX11_of 11 = .ok (.iconst (-1), 1)) ∧ (decode cX11_of 12 = .ok (.ireturn, 1)) ∧ (decode cX11_of 13 = .ok (.aload_n 0, 1)) ∧ (decode cX11_of 14 = .ok (.getfield 10, 3)) ∧ (decode cX11_of 17 = .ok (.getfield 55, 3)) ∧ (decode cX11_of 20 = .ok (.iload_n 1, 1)) ∧ (decode cX11_of 21 = .ok (.aaload, 1)) ∧ (decode cX11_of 22 = .ok (.astore_n 3, 1)) ∧ (decode cX11_of 23 = .ok (.aload_n 0, 1)) ∧ (decode cX11_of 24 = .ok (.getfield 10, 3)) ∧ (decode cX11_of 27 = .ok (.iload_n 2, 1)) := by decide +kernel
theorem dX11_of_0 : decode cX11_of 0 = .ok (.aload_n 0, 1) := bdX11_of_0.1
theorem dX11_of_1 : decode cX11_of 1 = .ok (.getfield 10, 3) := bdX11_of_0.2.1
theorem dX11_of_4 : decode cX11_of 4 = .ok (.iload_n 1, 1) := bdX11_of_0.2.2.1
theorem dX11_of_5 : decode cX11_of 5 = .ok (.invokevirtual 65, 3) := bdX11_of_0.2.2.2.1
theorem dX11_of_8 : decode cX11_of 8 = .ok (.ifCond .ne 5, 3) := bdX11_of_0.2.2.2.2.1
theorem dX11_of_11 : decode cX11_of 11 = .ok (.iconst (-1), 1) := bdX11_of_0.2.2.2.2.2.1
theorem dX11_of_12 : decode cX11_of 12 = .ok (.ireturn, 1) := bdX11_of_0.2.2.2.2.2.2.1
theorem dX11_of_13 : decode cX11_of 13 = .ok (.aload_n 0, 1) := bdX11_of_0.2.2.2.2.2.2.2.1
theorem dX11_of_14 : decode cX11_of 14 = .ok (.getfield 10, 3) := bdX11_of_0.2.2.2.2.2.2.2.2.1
theorem dX11_of_17 : decode cX11_of 17 = .ok (.getfield 55, 3) := bdX11_of_0.2.2.2.2.2.2.2.2.2.1
theorem dX11_of_20 : decode cX11_of 20 = .ok (.iload_n 1, 1) := bdX11_of_0.2.2.2.2.2.2.2.2.2.2.1
theorem dX11_of_21 : decode cX11_of 21 = .ok (.aaload, 1) := bdX11_of_0.2.2.2.2.2.2.2.2.2.2.2.1
theorem dX11_of_22 : decode cX11_of 22 = .ok (.astore_n 3, 1) := bdX11_of_0.2.2.2.2.2.2.2.2.2.2.2.2.1
theorem dX11_of_23 : decode cX11_of 23 = .ok (.aload_n 0, 1) := bdX11_of_0.2.2.2.2.2.2.2.2.2.2.2.2.2.1
theorem dX11_of_24 : decode cX11_of 24 = .ok (.getfield 10, 3) := bdX11_of_0.2.2.2.2.2.2.2.2.2.2.2.2.2.2.1
theorem dX11_of_27 : decode cX11_of 27 = .ok (.iload_n 2, 1) := bdX11_of_0.2.2.2.2.2.2.2.2.2.2.2.2.2.2.2
theorem bdX11_of_28 : (decode cX11_of 28 = .ok (.bipush 10, 2)) ∧ (decode cX11_of 30 = .ok (.isub, 1)) ∧ (decode cX11_of 31 = .ok (.invokevirtual 65, 3)) ∧ (decode cX11_of 34 = .ok (.ifCond .eq 13, 3)) ∧ (decode cX11_of 37 = .ok (.aload_n 3, 1)) ∧ (decode cX11_of 38 = .ok (.getfield 174, 3)) ∧ (decode cX11_of 41 = .ok (.iload_n 2, 1)) ∧ (decode cX11_of 42 = .ok (.bipush 10, 2)) ∧ (decode cX11_of 44 = .ok (.isub, 1)) ∧ (decode cX11_of 45 = .ok (.iaload, 1)) ∧ (decode cX11_of 46 = .ok (.ireturn, 1)) ∧ (decode cX11_of 47 = .ok (.aload_n 0, 1)) ∧ (decode cX11_of 48 = .ok (.getfield 10, 3)) ∧ (decode cX11_of 51 = .ok (.iload_n 2, 1)) ∧ (decode cX11_of 52 = .ok (.bipush 20, 2)) ∧ (decode cX11_of 54 = .ok (.isub, 1)) := by decide +kernel
theorem dX11_of_28 : decode cX11_of 28 = .ok (.bipush 10, 2) := bdX11_of_28.1
theorem dX11_of_30 : decode cX11_of 30 = .ok (.isub, 1) := bdX11_of_28.2.1
theorem dX11_of_31 : decode cX11_of 31 = .ok (.invokevirtual 65, 3) := bdX11_of_28.2.2.1
theorem dX11_of_34 : decode cX11_of 34 = .ok (.ifCond .eq 13, 3) := bdX11_of_28.2.2.2.1
theorem dX11_of_37 : decode cX11_of 37 = .ok (.aload_n 3, 1) := bdX11_of_28.2.2.2.2.1
theorem dX11_of_38 : decode cX11_of 38 = .ok (.getfield 174, 3) := bdX11_of_28.2.2.2.2.2.1
theorem dX11_of_41 : decode cX11_of 41 = .ok (.iload_n 2, 1) := bdX11_of_28.2.2.2.2.2.2.1
theorem dX11_of_42 : decode cX11_of 42 = .ok (.bipush 10, 2) := bdX11_of_28.2.2.2.2.2.2.2.1
theorem dX11_of_44 : decode cX11_of 44 = .ok (.isub, 1) := bdX11_of_28.2.2.2.2.2.2.2.2.1
theorem dX11_of_45 : decode cX11_of 45 = .ok (.iaload, 1) := bdX11_of_28.2.2.2.2.2.2.2.2.2.1
theorem dX11_of_46 : decode cX11_of 46 = .ok (.ireturn, 1) := bdX11_of_28.2.2.2.2.2.2.2.2.2.2.1
theorem dX11_of_47 : decode cX11_of 47 = .ok (.aload_n 0, 1) := bdX11_of_28.2.2.2.2.2.2.2.2.2.2.2.1
theorem dX11_of_48 : decode cX11_of 48 = .ok (.getfield 10, 3) := bdX11_of_28.2.2.2.2.2.2.2.2.2.2.2.2.1
theorem dX11_of_51 : decode cX11_of 51 = .ok (.iload_n 2, 1) := bdX11_of_28.2.2.2.2.2.2.2.2.2.2.2.2.2.1
theorem dX11_of_52 : decode cX11_of 52 = .ok (.bipush 20, 2) := bdX11_of_28.2.2.2.2.2.2.2.2.2.2.2.2.2.2.1
theorem dX11_of_54 : decode cX11_of 54 = .ok (.isub, 1) := bdX11_of_28.2.2.2.2.2.2.2.2.2.2.2.2.2.2.2
theorem bdX11_of_55 : (decode cX11_of 55 = .ok (.invokevirtual 65, 3)) ∧ (decode cX11_of 58 = .ok (.ifCond .eq 16, 3)) ∧ (decode cX11_of 61 = .ok (.aload_n 3, 1)) ∧ (decode cX11_of 62 = .ok (.getfield 174, 3)) ∧ (decode cX11_of 65 = .ok (.bipush 6, 2)) ∧ (decode cX11_of 67 = .ok (.iload_n 2, 1)) ∧ (decode cX11_of 68 = .ok (.iadd, 1)) ∧ (decode cX11_of 69 = .ok (.bipush 20, 2)) ∧ (decode cX11_of 71 = .ok (.isub, 1)) ∧ (decode cX11_of 72 = .ok (.iaload, 1)) ∧ (decode cX11_of 73 = .ok (.ireturn, 1)) ∧ (decode cX11_of 74 = .ok (.iload_n 2, 1)) ∧ (decode cX11_of 75 = .ok (.tableswitch 58 0 4 #[33, 38, 43, 48, 53], 33)) ∧ (decode cX11_of 108 = .ok (.aload_n 3, 1)) ∧ (decode cX11_of 109 = .ok (.getfield 178, 3)) ∧ (decode cX11_of 112 = .ok (.ireturn, 1)) := by decide +kernel
theorem dX11_of_55 : decode cX11_of 55 = .ok (.invokevirtual 65, 3) := bdX11_of_55.1
theorem dX11_of_58 : decode cX11_of 58 = .ok (.ifCond .eq 16, 3) := bdX11_of_55.2.1
theorem dX11_of_61 : decode cX11_of 61 = .ok (.aload_n 3, 1) := bdX11_of_55.2.2.1
theorem dX11_of_62 : decode cX11_of 62 = .ok (.getfield 174, 3) := bdX11_of_55.2.2.2.1
theorem dX11_of_65 : decode cX11_of 65 = .ok (.bipush 6, 2) := bdX11_of_55.2.2.2.2.1
theorem dX11_of_67 : decode cX11_of 67 = .ok (.iload_n 2, 1) := bdX11_of_55.2.2.2.2.2.1
theorem dX11_of_68 : decode cX11_of 68 = .ok (.iadd, 1) := bdX11_of_55.2.2.2.2.2.2.1
theorem dX11_of_69 : decode cX11_of 69 = .ok (.bipush 20, 2) := bdX11_of_55.2.2.2.2.2.2.2.1
theorem dX11_of_71 : decode cX11_of 71 = .ok (.isub, 1) := bdX11_of_55.2.2.2.2.2.2.2.2.1
theorem dX11_of_72 : decode cX11_of 72 = .ok (.iaload, 1) := bdX11_of_55.2.2.2.2.2.2.2.2.2.1
theorem dX11_of_73 : decode cX11_of 73 = .ok (.ireturn, 1) := bdX11_of_55.2.2.2.2.2.2.2.2.2.2.1
theorem dX11_of_74 : decode cX11_of 74 = .ok (.iload_n 2, 1) := bdX11_of_55.2.2.2.2.2.2.2.2.2.2.2.1
theorem dX11_of_75 : decode cX11_of 75 = .ok (.tableswitch 58 0 4 #[33, 38, 43, 48, 53], 33) := bdX11_of_55.2.2.2.2.2.2.2.2.2.2.2.2.1
theorem dX11_of_108 : decode cX11_of 108 = .ok (.aload_n 3, 1) := bdX11_of_55.2.2.2.2.2.2.2.2.2.2.2.2.2.1
theorem dX11_of_109 : decode cX11_of 109 = .ok (.getfield 178, 3) := bdX11_of_55.2.2.2.2.2.2.2.2.2.2.2.2.2.2.1
theorem dX11_of_112 : decode cX11_of 112 = .ok (.ireturn, 1) := bdX11_of_55.2.2.2.2.2.2.2.2.2.2.2.2.2.2.2
theorem bdX11_of_113 : (decode cX11_of 113 = .ok (.aload_n 3, 1)) ∧ (decode cX11_of 114 = .ok (.getfield 181, 3)) ∧ (decode cX11_of 117 = .ok (.ireturn, 1)) ∧ (decode cX11_of 118 = .ok (.aload_n 3, 1)) ∧ (decode cX11_of 119 = .ok (.getfield 184, 3)) ∧ (decode cX11_of 122 = .ok (.ireturn, 1)) ∧ (decode cX11_of 123 = .ok (.aload_n 3, 1)) ∧ (decode cX11_of 124 = .ok (.getfield 187, 3)) ∧ (decode cX11_of 127 = .ok (.ireturn, 1)) ∧ (decode cX11_of 128 = .ok (.aload_n 3, 1)) ∧ (decode cX11_of 129 = .ok (.getfield 69, 3)) ∧ (decode cX11_of 132 = .ok (.ireturn, 1)) ∧ (decode cX11_of 133 = .ok (.iconst (-1), 1)) ∧ (decode cX11_of 134 = .ok (.ireturn, 1)) := by decide +kernel
theorem dX11_of_113 : decode cX11_of 113 = .ok (.aload_n 3, 1) := bdX11_of_113.1
theorem dX11_of_114 : decode cX11_of 114 = .ok (.getfield 181, 3) := bdX11_of_113.2.1
theorem dX11_of_117 : decode cX11_of 117 = .ok (.ireturn, 1) := bdX11_of_113.2.2.1
theorem dX11_of_118 : decode cX11_of 118 = .ok (.aload_n 3, 1) := bdX11_of_113.2.2.2.1
theorem dX11_of_119 : decode cX11_of 119 = .ok (.getfield 184, 3) := bdX11_of_113.2.2.2.2.1
theorem dX11_of_122 : decode cX11_of 122 = .ok (.ireturn, 1) := bdX11_of_113.2.2.2.2.2.1
theorem dX11_of_123 : decode cX11_of 123 = .ok (.aload_n 3, 1) := bdX11_of_113.2.2.2.2.2.2.1
theorem dX11_of_124 : decode cX11_of 124 = .ok (.getfield 187, 3) := bdX11_of_113.2.2.2.2.2.2.2.1
theorem dX11_of_127 : decode cX11_of 127 = .ok (.ireturn, 1) := bdX11_of_113.2.2.2.2.2.2.2.2.1
theorem dX11_of_128 : decode cX11_of 128 = .ok (.aload_n 3, 1) := bdX11_of_113.2.2.2.2.2.2.2.2.2.1
theorem dX11_of_129 : decode cX11_of 129 = .ok (.getfield 69, 3) := bdX11_of_113.2.2.2.2.2.2.2.2.2.2.1
theorem dX11_of_132 : decode cX11_of 132 = .ok (.ireturn, 1) := bdX11_of_113.2.2.2.2.2.2.2.2.2.2.2.1
theorem dX11_of_133 : decode cX11_of 133 = .ok (.iconst (-1), 1) := bdX11_of_113.2.2.2.2.2.2.2.2.2.2.2.2.1
theorem dX11_of_134 : decode cX11_of 134 = .ok (.ireturn, 1) := bdX11_of_113.2.2.2.2.2.2.2.2.2.2.2.2.2
theorem bdX12_of_0 : (decode cX12_of 0 = .ok (.aload_n 0, 1)) ∧ (decode cX12_of 1 = .ok (.iload_n 1, 1)) ∧ (decode cX12_of 2 = .ok (.invokevirtual 107, 3)) ∧ (decode cX12_of 5 = .ok (.ifCond .ne 5, 3)) ∧ (decode cX12_of 8 = .ok (.iconst (-1), 1)) ∧ (decode cX12_of 9 = .ok (.ireturn, 1)) ∧ (decode cX12_of 10 = .ok (.iload_n 2, 1)) ∧ (decode cX12_of 11 = .ok (.tableswitch 69 0 4 #[33, 39, 48, 55, 62], 33)) ∧ (decode cX12_of 44 = .ok (.aload_n 0, 1)) ∧ (decode cX12_of 45 = .ok (.iload_n 1, 1)) ∧ (decode cX12_of 46 = .ok (.invokevirtual 292, 3)) ∧ (decode cX12_of 49 = .ok (.ireturn, 1)) ∧ (decode cX12_of 50 = .ok (.aload_n 0, 1)) ∧ (decode cX12_of 51 = .ok (.sipush 130, 3)) ∧ (decode cX12_of 54 = .ok (.iload_n 1, 1)) ∧ (decode cX12_of 55 = .ok (.invokevirtual 289, 3)) := by decide +kernel
theorem dX12_of_0 : decode cX12_of 0 = .ok (.aload_n 0, 1) := bdX12_of_0.1
theorem dX12_of_1 : decode cX12_of 1 = .ok (.iload_n 1, 1) := bdX12_of_0.2.1
theorem dX12_of_2 : decode cX12_of 2 = .ok (.invokevirtual 107, 3) := bdX12_of_0.2.2.1
theorem dX12_of_5 : decode cX12_of 5 = .ok (.ifCond .ne 5, 3) := bdX12_of_0.2.2.2.1
theorem dX12_of_8 : decode cX12_of 8 = .ok (.iconst (-1), 1) := bdX12_of_0.2.2.2.2.1
theorem dX12_of_9 : decode cX12_of 9 = .ok (.ireturn, 1) := bdX12_of_0.2.2.2.2.2.1
theorem dX12_of_10 : decode cX12_of 10 = .ok (.iload_n 2, 1) := bdX12_of_0.2.2.2.2.2.2.1
theorem dX12_of_11 : decode cX12_of 11 = .ok (.tableswitch 69 0 4 #[33, 39, 48, 55, 62], 33) := bdX12_of_0.2.2.2.2.2.2.2.1
theorem dX12_of_44 : decode cX12_of 44 = .ok (.aload_n 0, 1) := bdX12_of_0.2.2.2.2.2.2.2.2.1
theorem dX12_of_45 : decode cX12_of 45 = .ok (.iload_n 1, 1) := bdX12_of_0.2.2.2.2.2.2.2.2.2.1
theorem dX12_of_46 : decode cX12_of 46 = .ok (.invokevirtual 292, 3) := bdX12_of_0.2.2.2.2.2.2.2.2.2.2.1
theorem dX12_of_49 : decode cX12_of 49 = .ok (.ireturn, 1) := bdX12_of_0.2.2.2.2.2.2.2.2.2.2.2.1
theorem dX12_of_50 : decode cX12_of 50 = .ok (.aload_n 0, 1) := bdX12_of_0.2.2.2.2.2.2.2.2.2.2.2.2.1
theorem dX12_of_51 : decode cX12_of 51 = .ok (.sipush 130, 3) := bdX12_of_0.2.2.2.2.2.2.2.2.2.2.2.2.2.1
theorem dX12_of_54 : decode cX12_of 54 = .ok (.iload_n 1, 1) := bdX12_of_0.2.2.2.2.2.2.2.2.2.2.2.2.2.2.1
theorem dX12_of_55 : decode cX12_of 55 = .ok (.invokevirtual 289, 3) := bdX12_of_0.2.2.2.2.2.2.2.2.2.2.2.2.2.2.2
theorem bdX12_of_58 : (decode cX12_of 58 = .ok (.ireturn, 1)) ∧ (decode cX12_of 59 = .ok (.aload_n 0, 1)) ∧ (decode cX12_of 60 = .ok (.iload_n 1, 1)) ∧ (decode cX12_of 61 = .ok (.iconst 2, 1)) ∧ (decode cX12_of 62 = .ok (.invokevirtual 295, 3)) ∧ (decode cX12_of 65 = .ok (.ireturn, 1)) ∧ (decode cX12_of 66 = .ok (.aload_n 0, 1)) ∧ (decode cX12_of 67 = .ok (.iload_n 1, 1)) ∧ (decode cX12_of 68 = .ok (.iconst 3, 1)) ∧ (decode cX12_of 69 = .ok (.invokevirtual 295, 3)) ∧ (decode cX12_of 72 = .ok (.ireturn, 1)) ∧ (decode cX12_of 73 = .ok (.aload_n 0, 1)) ∧ (decode cX12_of 74 = .ok (.iload_n 1, 1)) ∧ (decode cX12_of 75 = .ok (.iconst 1, 1)) ∧ (decode cX12_of 76 = .ok (.invokevirtual 295, 3)) ∧ (decode cX12_of 79 = .ok (.ireturn, 1)) := by decide +kernel
theorem dX12_of_58 : decode cX12_of 58 = .ok (.ireturn, 1) := bdX12_of_58.1
theorem dX12_of_59 : decode cX12_of 59 = .ok (.aload_n 0, 1) := bdX12_of_58.2.1
theorem dX12_of_60 : decode cX12_of 60 = .ok (.iload_n 1, 1) := bdX12_of_58.2.2.1
theorem dX12_of_61 : decode cX12_of 61 = .ok (.iconst 2, 1) := bdX12_of_58.2.2.2.1
theorem dX12_of_62 : decode cX12_of 62 = .ok (.invokevirtual 295, 3) := bdX12_of_58.2.2.2.2.1
theorem dX12_of_65 : decode cX12_of 65 = .ok (.ireturn, 1) := bdX12_of_58.2.2.2.2.2.1
theorem dX12_of_66 : decode cX12_of 66 = .ok (.aload_n 0, 1) := bdX12_of_58.2.2.2.2.2.2.1
theorem dX12_of_67 : decode cX12_of 67 = .ok (.iload_n 1, 1) := bdX12_of_58.2.2.2.2.2.2.2.1
theorem dX12_of_68 : decode cX12_of 68 = .ok (.iconst 3, 1) := bdX12_of_58.2.2.2.2.2.2.2.2.1
theorem dX12_of_69 : decode cX12_of 69 = .ok (.invokevirtual 295, 3) := bdX12_of_58.2.2.2.2.2.2.2.2.2.1
theorem dX12_of_72 : decode cX12_of 72 = .ok (.ireturn, 1) := bdX12_of_58.2.2.2.2.2.2.2.2.2.2.1
theorem dX12_of_73 : decode cX12_of 73 = .ok (.aload_n 0, 1) := bdX12_of_58.2.2.2.2.2.2.2.2.2.2.2.1
theorem dX12_of_74 : decode cX12_of 74 = .ok (.iload_n 1, 1) := bdX12_of_58.2.2.2.2.2.2.2.2.2.2.2.2.1
theorem dX12_of_75 : decode cX12_of 75 = .ok (.iconst 1, 1) := bdX12_of_58.2.2.2.2.2.2.2.2.2.2.2.2.2.1
theorem dX12_of_76 : decode cX12_of 76 = .ok (.invokevirtual 295, 3) := bdX12_of_58.2.2.2.2.2.2.2.2.2.2.2.2.2.2.1
theorem dX12_of_79 : decode cX12_of 79 = .ok (.ireturn, 1) := bdX12_of_58.2.2.2.2.2.2.2.2.2.2.2.2.2.2.2
theorem bdX12_of_80 : (decode cX12_of 80 = .ok (.iload_n 2, 1)) ∧ (decode cX12_of 81 = .ok (.bipush 10, 2)) ∧ (decode cX12_of 83 = .ok (.if_icmp .lt 34, 3)) ∧ (decode cX12_of 86 = .ok (.aload_n 0, 1)) ∧ (decode cX12_of 87 = .ok (.iload_n 2, 1)) ∧ (decode cX12_of 88 = .ok (.bipush 10, 2)) ∧ (decode cX12_of 90 = .ok (.isub, 1)) ∧ (decode cX12_of 91 = .ok (.invokevirtual 107, 3)) ∧ (decode cX12_of 94 = .ok (.ifCond .eq 23, 3)) ∧ (decode cX12_of 97 = .ok (.aload_n 0, 1)) ∧ (decode cX12_of 98 = .ok (.getfield 7, 3)) ∧ (decode cX12_of 101 = .ok (.bipush 50, 2)) ∧ (decode cX12_of 103 = .ok (.bipush 12, 2)) ∧ (decode cX12_of 105 = .ok (.iload_n 1, 1)) ∧ (decode cX12_of 106 = .ok (.imul, 1)) ∧ (decode cX12_of 107 = .ok (.iadd, 1)) := by decide +kernel
theorem dX12_of_80 : decode cX12_of 80 = .ok (.iload_n 2, 1) := bdX12_of_80.1
theorem dX12_of_81 : decode cX12_of 81 = .ok (.bipush 10, 2) := bdX12_of_80.2.1
theorem dX12_of_83 : decode cX12_of 83 = .ok (.if_icmp .lt 34, 3) := bdX12_of_80.2.2.1
theorem dX12_of_86 : decode cX12_of 86 = .ok (.aload_n 0, 1) := bdX12_of_80.2.2.2.1
theorem dX12_of_87 : decode cX12_of 87 = .ok (.iload_n 2, 1) := bdX12_of_80.2.2.2.2.1
theorem dX12_of_88 : decode cX12_of 88 = .ok (.bipush 10, 2) := bdX12_of_80.2.2.2.2.2.1
theorem dX12_of_90 : decode cX12_of 90 = .ok (.isub, 1) := bdX12_of_80.2.2.2.2.2.2.1
theorem dX12_of_91 : decode cX12_of 91 = .ok (.invokevirtual 107, 3) := bdX12_of_80.2.2.2.2.2.2.2.1
theorem dX12_of_94 : decode cX12_of 94 = .ok (.ifCond .eq 23, 3) := bdX12_of_80.2.2.2.2.2.2.2.2.1
theorem dX12_of_97 : decode cX12_of 97 = .ok (.aload_n 0, 1) := bdX12_of_80.2.2.2.2.2.2.2.2.2.1
theorem dX12_of_98 : decode cX12_of 98 = .ok (.getfield 7, 3) := bdX12_of_80.2.2.2.2.2.2.2.2.2.2.1
theorem dX12_of_101 : decode cX12_of 101 = .ok (.bipush 50, 2) := bdX12_of_80.2.2.2.2.2.2.2.2.2.2.2.1
theorem dX12_of_103 : decode cX12_of 103 = .ok (.bipush 12, 2) := bdX12_of_80.2.2.2.2.2.2.2.2.2.2.2.2.1
theorem dX12_of_105 : decode cX12_of 105 = .ok (.iload_n 1, 1) := bdX12_of_80.2.2.2.2.2.2.2.2.2.2.2.2.2.1
theorem dX12_of_106 : decode cX12_of 106 = .ok (.imul, 1) := bdX12_of_80.2.2.2.2.2.2.2.2.2.2.2.2.2.2.1
theorem dX12_of_107 : decode cX12_of 107 = .ok (.iadd, 1) := bdX12_of_80.2.2.2.2.2.2.2.2.2.2.2.2.2.2.2
theorem bdX12_of_108 : (decode cX12_of 108 = .ok (.iconst 2, 1)) ∧ (decode cX12_of 109 = .ok (.iload_n 2, 1)) ∧ (decode cX12_of 110 = .ok (.bipush 10, 2)) ∧ (decode cX12_of 112 = .ok (.isub, 1)) ∧ (decode cX12_of 113 = .ok (.imul, 1)) ∧ (decode cX12_of 114 = .ok (.iadd, 1)) ∧ (decode cX12_of 115 = .ok (.iaload, 1)) ∧ (decode cX12_of 116 = .ok (.ireturn, 1)) ∧ (decode cX12_of 117 = .ok (.iload_n 2, 1)) ∧ (decode cX12_of 118 = .ok (.bipush 20, 2)) ∧ (decode cX12_of 120 = .ok (.if_icmp .lt 38, 3)) ∧ (decode cX12_of 123 = .ok (.aload_n 0, 1)) ∧ (decode cX12_of 124 = .ok (.iload_n 2, 1)) ∧ (decode cX12_of 125 = .ok (.bipush 20, 2)) ∧ (decode cX12_of 127 = .ok (.isub, 1)) ∧ (decode cX12_of 128 = .ok (.invokevirtual 107, 3)) := by decide +kernel
theorem dX12_of_108 : decode cX12_of 108 = .ok (.iconst 2, 1) := bdX12_of_108.1
theorem dX12_of_109 : decode cX12_of 109 = .ok (.iload_n 2, 1) := bdX12_of_108.2.1
theorem dX12_of_110 : decode cX12_of 110 = .ok (.bipush 10, 2) := bdX12_of_108.2.2.1
theorem dX12_of_112 : decode cX12_of 112 = .ok (.isub, 1) := bdX12_of_108.2.2.2.1
theorem dX12_of_113 : decode cX12_of 113 = .ok (.imul, 1) := bdX12_of_108.2.2.2.2.1
theorem dX12_of_114 : decode cX12_of 114 = .ok (.iadd, 1) := bdX12_of_108.2.2.2.2.2.1
theorem dX12_of_115 : decode cX12_of 115 = .ok (.iaload, 1) := bdX12_of_108.2.2.2.2.2.2.1
theorem dX12_of_116 : decode cX12_of 116 = .ok (.ireturn, 1) := bdX12_of_108.2.2.2.2.2.2.2.1
theorem dX12_of_117 : decode cX12_of 117 = .ok (.iload_n 2, 1) := bdX12_of_108.2.2.2.2.2.2.2.2.1
theorem dX12_of_118 : decode cX12_of 118 = .ok (.bipush 20, 2) := bdX12_of_108.2.2.2.2.2.2.2.2.2.1
theorem dX12_of_120 : decode cX12_of 120 = .ok (.if_icmp .lt 38, 3) := bdX12_of_108.2.2.2.2.2.2.2.2.2.2.1
theorem dX12_of_123 : decode cX12_of 123 = .ok (.aload_n 0, 1) := bdX12_of_108.2.2.2.2.2.2.2.2.2.2.2.1
theorem dX12_of_124 : decode cX12_of 124 = .ok (.iload_n 2, 1) := bdX12_of_108.2.2.2.2.2.2.2.2.2.2.2.2.1
theorem dX12_of_125 : decode cX12_of 125 = .ok (.bipush 20, 2) := bdX12_of_108.2.2.2.2.2.2.2.2.2.2.2.2.2.1
theorem dX12_of_127 : decode cX12_of 127 = .ok (.isub, 1) := bdX12_of_108.2.2.2.2.2.2.2.2.2.2.2.2.2.2.1
theorem dX12_of_128 : decode cX12_of 128 = .ok (.invokevirtual 107, 3) := bdX12_of_108.2.2.2.2.2.2.2.2.2.2.2.2.2.2.2
theorem bdX12_of_131 : (decode cX12_of 131 = .ok (.ifCond .eq 27, 3)) ∧ (decode cX12_of 134 = .ok (.aload_n 0, 1)) ∧ (decode cX12_of 135 = .ok (.getfield 7, 3)) ∧ (decode cX12_of 138 = .ok (.bipush 50, 2)) ∧ (decode cX12_of 140 = .ok (.bipush 12, 2)) ∧ (decode cX12_of 142 = .ok (.iload_n 1, 1)) ∧ (decode cX12_of 143 = .ok (.imul, 1)) ∧ (decode cX12_of 144 = .ok (.iadd, 1)) ∧ (decode cX12_of 145 = .ok (.iconst 2, 1)) ∧ (decode cX12_of 146 = .ok (.iload_n 2, 1)) ∧ (decode cX12_of 147 = .ok (.bipush 20, 2)) ∧ (decode cX12_of 149 = .ok (.isub, 1)) ∧ (decode cX12_of 150 = .ok (.imul, 1)) ∧ (decode cX12_of 151 = .ok (.iadd, 1)) ∧ (decode cX12_of 152 = .ok (.iconst 1, 1)) ∧ (decode cX12_of 153 = .ok (.iadd, 1)) := by decide +kernel
theorem dX12_of_131 : decode cX12_of 131 = .ok (.ifCond .eq 27, 3) := bdX12_of_131.1
theorem dX12_of_134 : decode cX12_of 134 = .ok (.aload_n 0, 1) := bdX12_of_131.2.1
theorem dX12_of_135 : decode cX12_of 135 = .ok (.getfield 7, 3) := bdX12_of_131.2.2.1
theorem dX12_of_138 : decode cX12_of 138 = .ok (.bipush 50, 2) := bdX12_of_131.2.2.2.1
theorem dX12_of_140 : decode cX12_of 140 = .ok (.bipush 12, 2) := bdX12_of_131.2.2.2.2.1
theorem dX12_of_142 : decode cX12_of 142 = .ok (.iload_n 1, 1) := bdX12_of_131.2.2.2.2.2.1
theorem dX12_of_143 : decode cX12_of 143 = .ok (.imul, 1) := bdX12_of_131.2.2.2.2.2.2.1
theorem dX12_of_144 : decode cX12_of 144 = .ok (.iadd, 1) := bdX12_of_131.2.2.2.2.2.2.2.1
theorem dX12_of_145 : decode cX12_of 145 = .ok (.iconst 2, 1) := bdX12_of_131.2.2.2.2.2.2.2.2.1
theorem dX12_of_146 : decode cX12_of 146 = .ok (.iload_n 2, 1) := bdX12_of_131.2.2.2.2.2.2.2.2.2.1
theorem dX12_of_147 : decode cX12_of 147 = .ok (.bipush 20, 2) := bdX12_of_131.2.2.2.2.2.2.2.2.2.2.1
theorem dX12_of_149 : decode cX12_of 149 = .ok (.isub, 1) := bdX12_of_131.2.2.2.2.2.2.2.2.2.2.2.1
theorem dX12_of_150 : decode cX12_of 150 = .ok (.imul, 1) := bdX12_of_131.2.2.2.2.2.2.2.2.2.2.2.2.1
theorem dX12_of_151 : decode cX12_of 151 = .ok (.iadd, 1) := bdX12_of_131.2.2.2.2.2.2.2.2.2.2.2.2.2.1
theorem dX12_of_152 : decode cX12_of 152 = .ok (.iconst 1, 1) := bdX12_of_131.2.2.2.2.2.2.2.2.2.2.2.2.2.2.1
theorem dX12_of_153 : decode cX12_of 153 = .ok (.iadd, 1) := bdX12_of_131.2.2.2.2.2.2.2.2.2.2.2.2.2.2.2
theorem bdX12_of_154 : (decode cX12_of 154 = .ok (.iaload, 1)) ∧ (decode cX12_of 155 = .ok (.goto 4, 3)) ∧ (decode cX12_of 158 = .ok (.iconst (-1), 1)) ∧ (decode cX12_of 159 = .ok (.ireturn, 1)) := by decide +kernel
theorem dX12_of_154 : decode cX12_of 154 = .ok (.iaload, 1) := bdX12_of_154.1
theorem dX12_of_155 : decode cX12_of 155 = .ok (.goto 4, 3) := bdX12_of_154.2.1
theorem dX12_of_158 : decode cX12_of 158 = .ok (.iconst (-1), 1) := bdX12_of_154.2.2.1
theorem dX12_of_159 : decode cX12_of 159 = .ok (.ireturn, 1) := bdX12_of_154.2.2.2
theorem bdX11_on_0 : (decode cX11_on 0 = .ok (.aload_n 0, 1)) ∧ (decode cX11_on 1 = .ok (.getfield 10, 3)) ∧ (decode cX11_on 4 = .ok (.iload_n 1, 1)) ∧ (decode cX11_on 5 = .ok (.invokevirtual 96, 3)) ∧ (decode cX11_on 8 = .ok (.ifCond .ne 5, 3)) ∧ (decode cX11_on 11 = .ok (.iconst (-1), 1)) ∧ (decode cX11_on 12 = .ok (.ireturn, 1)) ∧ (decode cX11_on 13 = .ok (.aload_n 0, 1)) ∧ (decode cX11_on 14 = .ok (.getfield 10, 3)) ∧ (decode cX11_on 17 = .ok (.getfield 75, 3)) ∧ (decode cX11_on 20 = .ok (.iload_n 1, 1)) ∧ (decode cX11_on 21 = .ok (.aaload, 1)) ∧ (decode cX11_on 22 = .ok (.astore_n 3, 1)) ∧ (decode cX11_on 23 = .ok (.iload_n 2, 1)) ∧ (decode cX11_on 24 = .ok (.tableswitch 104 0 7 #[48, 53, 58, 71, 84, 89, 94, 99], 48)) ∧ (decode cX11_on 72 = .ok (.aload_n 3, 1)) := by decide +kernel
theorem dX11_on_0 : decode cX11_on 0 = .ok (.aload_n 0, 1) := bdX11_on_0.1
theorem dX11_on_1 : decode cX11_on 1 = .ok (.getfield 10, 3) := bdX11_on_0.2.1
theorem dX11_on_4 : decode cX11_on 4 = .ok (.iload_n 1, 1) := bdX11_on_0.2.2.1
theorem dX11_on_5 : decode cX11_on 5 = .ok (.invokevirtual 96, 3) := bdX11_on_0.2.2.2.1
theorem dX11_on_8 : decode cX11_on 8 = .ok (.ifCond .ne 5, 3) := bdX11_on_0.2.2.2.2.1
theorem dX11_on_11 : decode cX11_on 11 = .ok (.iconst (-1), 1) := bdX11_on_0.2.2.2.2.2.1
theorem dX11_on_12 : decode cX11_on 12 = .ok (.ireturn, 1) := bdX11_on_0.2.2.2.2.2.2.1
theorem dX11_on_13 : decode cX11_on 13 = .ok (.aload_n 0, 1) := bdX11_on_0.2.2.2.2.2.2.2.1
theorem dX11_on_14 : decode cX11_on 14 = .ok (.getfield 10, 3) := bdX11_on_0.2.2.2.2.2.2.2.2.1
theorem dX11_on_17 : decode cX11_on 17 = .ok (.getfield 75, 3) := bdX11_on_0.2.2.2.2.2.2.2.2.2.1
theorem dX11_on_20 : decode cX11_on 20 = .ok (.iload_n 1, 1) := bdX11_on_0.2.2.2.2.2.2.2.2.2.2.1
theorem dX11_on_21 : decode cX11_on 21 = .ok (.aaload, 1) := bdX11_on_0.2.2.2.2.2.2.2.2.2.2.2.1
theorem dX11_on_22 : decode cX11_on 22 = .ok (.astore_n 3, 1) := bdX11_on_0.2.2.2.2.2.2.2.2.2.2.2.2.1
theorem dX11_on_23 : decode cX11_on 23 = .ok (.iload_n 2, 1) := bdX11_on_0.2.2.2.2.2.2.2.2.2.2.2.2.2.1
theorem dX11_on_24 : decode cX11_on 24 = .ok (.tableswitch 104 0 7 #[48, 53, 58, 71, 84, 89, 94, 99], 48) := bdX11_on_0.2.2.2.2.2.2.2.2.2.2.2.2.2.2.1
theorem dX11_on_72 : decode cX11_on 72 = .ok (.aload_n 3, 1) := bdX11_on_0.2.2.2.2.2.2.2.2.2.2.2.2.2.2.2
theorem bdX11_on_73 : (decode cX11_on 73 = .ok (.getfield 190, 3)) ∧ (decode cX11_on 76 = .ok (.ireturn, 1)) ∧ (decode cX11_on 77 = .ok (.aload_n 3, 1)) ∧ (decode cX11_on 78 = .ok (.getfield 191, 3)) ∧ (decode cX11_on 81 = .ok (.ireturn, 1)) ∧ (decode cX11_on 82 = .ok (.aload_n 3, 1)) ∧ (decode cX11_on 83 = .ok (.getfield 194, 3)) ∧ (decode cX11_on 86 = .ok (.ifCond .eq 7, 3)) ∧ (decode cX11_on 89 = .ok (.iconst 1, 1)) ∧ (decode cX11_on 90 = .ok (.goto 4, 3)) ∧ (decode cX11_on 93 = .ok (.iconst 0, 1)) ∧ (decode cX11_on 94 = .ok (.ireturn, 1)) ∧ (decode cX11_on 95 = .ok (.aload_n 3, 1)) ∧ (decode cX11_on 96 = .ok (.getfield 99, 3)) ∧ (decode cX11_on 99 = .ok (.ifCond .eq 7, 3)) ∧ (decode cX11_on 102 = .ok (.iconst 1, 1)) := by decide +kernel
theorem dX11_on_73 : decode cX11_on 73 = .ok (.getfield 190, 3) := bdX11_on_73.1
theorem dX11_on_76 : decode cX11_on 76 = .ok (.ireturn, 1) := bdX11_on_73.2.1
theorem dX11_on_77 : decode cX11_on 77 = .ok (.aload_n 3, 1) := bdX11_on_73.2.2.1
theorem dX11_on_78 : decode cX11_on 78 = .ok (.getfield 191, 3) := bdX11_on_73.2.2.2.1
theorem dX11_on_81 : decode cX11_on 81 = .ok (.ireturn, 1) := bdX11_on_73.2.2.2.2.1
theorem dX11_on_82 : decode cX11_on 82 = .ok (.aload_n 3, 1) := bdX11_on_73.2.2.2.2.2.1
theorem dX11_on_83 : decode cX11_on 83 = .ok (.getfield 194, 3) := bdX11_on_73.2.2.2.2.2.2.1
theorem dX11_on_86 : decode cX11_on 86 = .ok (.ifCond .eq 7, 3) := bdX11_on_73.2.2.2.2.2.2.2.1
theorem dX11_on_89 : decode cX11_on 89 = .ok (.iconst 1, 1) := bdX11_on_73.2.2.2.2.2.2.2.2.1
theorem dX11_on_90 : decode cX11_on 90 = .ok (.goto 4, 3) := bdX11_on_73.2.2.2.2.2.2.2.2.2.1
theorem dX11_on_93 : decode cX11_on 93 = .ok (.iconst 0, 1) := bdX11_on_73.2.2.2.2.2.2.2.2.2.2.1
theorem dX11_on_94 : decode cX11_on 94 = .ok (.ireturn, 1) := bdX11_on_73.2.2.2.2.2.2.2.2.2.2.2.1
theorem dX11_on_95 : decode cX11_on 95 = .ok (.aload_n 3, 1) := bdX11_on_73.2.2.2.2.2.2.2.2.2.2.2.2.1
theorem dX11_on_96 : decode cX11_on 96 = .ok (.getfield 99, 3) := bdX11_on_73.2.2.2.2.2.2.2.2.2.2.2.2.2.1
theorem dX11_on_99 : decode cX11_on 99 = .ok (.ifCond .eq 7, 3) := bdX11_on_73.2.2.2.2.2.2.2.2.2.2.2.2.2.2.1
theorem dX11_on_102 : decode cX11_on 102 = .ok (.iconst 1, 1) := bdX11_on_73.2.2.2.2.2.2.2.2.2.2.2.2.2.2.2
theorem bdX11_on_103 : (decode cX11_on 103 = .ok (.goto 4, 3)) ∧ (decode cX11_on 106 = .ok (.iconst 0, 1)) ∧ (decode cX11_on 107 = .ok (.ireturn, 1)) ∧ (decode cX11_on 108 = .ok (.aload_n 3, 1)) ∧ (decode cX11_on 109 = .ok (.getfield 197, 3)) ∧ (decode cX11_on 112 = .ok (.ireturn, 1)) ∧ (decode cX11_on 113 = .ok (.aload_n 3, 1)) ∧ (decode cX11_on 114 = .ok (.getfield 200, 3)) ∧ (decode cX11_on 117 = .ok (.ireturn, 1)) ∧ (decode cX11_on 118 = .ok (.aload_n 3, 1)) ∧ (decode cX11_on 119 = .ok (.getfield 203, 3)) ∧ (decode cX11_on 122 = .ok (.ireturn, 1)) ∧ (decode cX11_on 123 = .ok (.aload_n 3, 1)) ∧ (decode cX11_on 124 = .ok (.getfield 93, 3)) ∧ (decode cX11_on 127 = .ok (.ireturn, 1)) ∧ (decode cX11_on 128 = .ok (.iconst (-1), 1)) := by decide +kernel
theorem dX11_on_103 : decode cX11_on 103 = .ok (.goto 4, 3) := bdX11_on_103.1
theorem dX11_on_106 : decode cX11_on 106 = .ok (.iconst 0, 1) := bdX11_on_103.2.1
theorem dX11_on_107 : decode cX11_on 107 = .ok (.ireturn, 1) := bdX11_on_103.2.2.1
theorem dX11_on_108 : decode cX11_on 108 = .ok (.aload_n 3, 1) := bdX11_on_103.2.2.2.1
theorem dX11_on_109 : decode cX11_on 109 = .ok (.getfield 197, 3) := bdX11_on_103.2.2.2.2.1
theorem dX11_on_112 : decode cX11_on 112 = .ok (.ireturn, 1) := bdX11_on_103.2.2.2.2.2.1
theorem dX11_on_113 : decode cX11_on 113 = .ok (.aload_n 3, 1) := bdX11_on_103.2.2.2.2.2.2.1
theorem dX11_on_114 : decode cX11_on 114 = .ok (.getfield 200, 3) := bdX11_on_103.2.2.2.2.2.2.2.1
theorem dX11_on_117 : decode cX11_on 117 = .ok (.ireturn, 1) := bdX11_on_103.2.2.2.2.2.2.2.2.1
theorem dX11_on_118 : decode cX11_on 118 = .ok (.aload_n 3, 1) := bdX11_on_103.2.2.2.2.2.2.2.2.2.1
theorem dX11_on_119 : decode cX11_on 119 = .ok (.getfield 203, 3) := bdX11_on_103.2.2.2.2.2.2.2.2.2.2.1
theorem dX11_on_122 : decode cX11_on 122 = .ok (.ireturn, 1) := bdX11_on_103.2.2.2.2.2.2.2.2.2.2.2.1
theorem dX11_on_123 : decode cX11_on 123 = .ok (.aload_n 3, 1) := bdX11_on_103.2.2.2.2.2.2.2.2.2.2.2.2.1
theorem dX11_on_124 : decode cX11_on 124 = .ok (.getfield 93, 3) := bdX11_on_103.2.2.2.2.2.2.2.2.2.2.2.2.2.1
theorem dX11_on_127 : decode cX11_on 127 = .ok (.ireturn, 1) := bdX11_on_103.2.2.2.2.2.2.2.2.2.2.2.2.2.2.1
theorem dX11_on_128 : decode cX11_on 128 = .ok (.iconst (-1), 1) := bdX11_on_103.2.2.2.2.2.2.2.2.2.2.2.2.2.2.2
theorem dX11_on_129 : decode cX11_on 129 = .ok (.ireturn, 1) := by decide +kernel
theorem bdX12_on_0 : (decode cX12_on 0 = .ok (.aload_n 0, 1)) ∧ (decode cX12_on 1 = .ok (.iload_n 1, 1)) ∧ (decode cX12_on 2 = .ok (.invokevirtual 99, 3)) ∧ (decode cX12_on 5 = .ok (.ifCond .ne 5, 3)) ∧ (decode cX12_on 8 = .ok (.iconst (-1), 1)) ∧ (decode cX12_on 9 = .ok (.ireturn, 1)) ∧ (decode cX12_on 10 = .ok (.iload_n 2, 1)) ∧ (decode cX12_on 11 = .ok (.tableswitch 106 0 7 #[45, 51, 58, 66, 74, 82, 90, 98], 45)) ∧ (decode cX12_on 56 = .ok (.aload_n 0, 1)) ∧ (decode cX12_on 57 = .ok (.iload_n 1, 1)) ∧ (decode cX12_on 58 = .ok (.invokevirtual 117, 3)) ∧ (decode cX12_on 61 = .ok (.ireturn, 1)) ∧ (decode cX12_on 62 = .ok (.aload_n 0, 1)) ∧ (decode cX12_on 63 = .ok (.iload_n 1, 1)) ∧ (decode cX12_on 64 = .ok (.iconst 5, 1)) ∧ (decode cX12_on 65 = .ok (.invokevirtual 103, 3)) := by decide +kernel
theorem dX12_on_0 : decode cX12_on 0 = .ok (.aload_n 0, 1) := bdX12_on_0.1
theorem dX12_on_1 : decode cX12_on 1 = .ok (.iload_n 1, 1) := bdX12_on_0.2.1
theorem dX12_on_2 : decode cX12_on 2 = .ok (.invokevirtual 99, 3) := bdX12_on_0.2.2.1
theorem dX12_on_5 : decode cX12_on 5 = .ok (.ifCond .ne 5, 3) := bdX12_on_0.2.2.2.1
theorem dX12_on_8 : decode cX12_on 8 = .ok (.iconst (-1), 1) := bdX12_on_0.2.2.2.2.1
theorem dX12_on_9 : decode cX12_on 9 = .ok (.ireturn, 1) := bdX12_on_0.2.2.2.2.2.1
theorem dX12_on_10 : decode cX12_on 10 = .ok (.iload_n 2, 1) := bdX12_on_0.2.2.2.2.2.2.1
theorem dX12_on_11 : decode cX12_on 11 = .ok (.tableswitch 106 0 7 #[45, 51, 58, 66, 74, 82, 90, 98], 45) := bdX12_on_0.2.2.2.2.2.2.2.1
theorem dX12_on_56 : decode cX12_on 56 = .ok (.aload_n 0, 1) := bdX12_on_0.2.2.2.2.2.2.2.2.1
theorem dX12_on_57 : decode cX12_on 57 = .ok (.iload_n 1, 1) := bdX12_on_0.2.2.2.2.2.2.2.2.2.1
theorem dX12_on_58 : decode cX12_on 58 = .ok (.invokevirtual 117, 3) := bdX12_on_0.2.2.2.2.2.2.2.2.2.2.1
theorem dX12_on_61 : decode cX12_on 61 = .ok (.ireturn, 1) := bdX12_on_0.2.2.2.2.2.2.2.2.2.2.2.1
theorem dX12_on_62 : decode cX12_on 62 = .ok (.aload_n 0, 1) := bdX12_on_0.2.2.2.2.2.2.2.2.2.2.2.2.1
theorem dX12_on_63 : decode cX12_on 63 = .ok (.iload_n 1, 1) := bdX12_on_0.2.2.2.2.2.2.2.2.2.2.2.2.2.1
theorem dX12_on_64 : decode cX12_on 64 = .ok (.iconst 5, 1) := bdX12_on_0.2.2.2.2.2.2.2.2.2.2.2.2.2.2.1
theorem dX12_on_65 : decode cX12_on 65 = .ok (.invokevirtual 103, 3) := bdX12_on_0.2.2.2.2.2.2.2.2.2.2.2.2.2.2.2
theorem bdX12_on_68 : (decode cX12_on 68 = .ok (.ireturn, 1)) ∧ (decode cX12_on 69 = .ok (.aload_n 0, 1)) ∧ (decode cX12_on 70 = .ok (.iload_n 1, 1)) ∧ (decode cX12_on 71 = .ok (.bipush 6, 2)) ∧ (decode cX12_on 73 = .ok (.invokevirtual 103, 3)) ∧ (decode cX12_on 76 = .ok (.ireturn, 1)) ∧ (decode cX12_on 77 = .ok (.aload_n 0, 1)) ∧ (decode cX12_on 78 = .ok (.iload_n 1, 1)) ∧ (decode cX12_on 79 = .ok (.bipush 9, 2)) ∧ (decode cX12_on 81 = .ok (.invokevirtual 103, 3)) ∧ (decode cX12_on 84 = .ok (.ireturn, 1)) ∧ (decode cX12_on 85 = .ok (.aload_n 0, 1)) ∧ (decode cX12_on 86 = .ok (.iload_n 1, 1)) ∧ (decode cX12_on 87 = .ok (.bipush 7, 2)) ∧ (decode cX12_on 89 = .ok (.invokevirtual 103, 3)) ∧ (decode cX12_on 92 = .ok (.ireturn, 1)) := by decide +kernel
theorem dX12_on_68 : decode cX12_on 68 = .ok (.ireturn, 1) := bdX12_on_68.1
theorem dX12_on_69 : decode cX12_on 69 = .ok (.aload_n 0, 1) := bdX12_on_68.2.1
theorem dX12_on_70 : decode cX12_on 70 = .ok (.iload_n 1, 1) := bdX12_on_68.2.2.1
theorem dX12_on_71 : decode cX12_on 71 = .ok (.bipush 6, 2) := bdX12_on_68.2.2.2.1
theorem dX12_on_73 : decode cX12_on 73 = .ok (.invokevirtual 103, 3) := bdX12_on_68.2.2.2.2.1
theorem dX12_on_76 : decode cX12_on 76 = .ok (.ireturn, 1) := bdX12_on_68.2.2.2.2.2.1
theorem dX12_on_77 : decode cX12_on 77 = .ok (.aload_n 0, 1) := bdX12_on_68.2.2.2.2.2.2.1
theorem dX12_on_78 : decode cX12_on 78 = .ok (.iload_n 1, 1) := bdX12_on_68.2.2.2.2.2.2.2.1
theorem dX12_on_79 : decode cX12_on 79 = .ok (.bipush 9, 2) := bdX12_on_68.2.2.2.2.2.2.2.2.1
theorem dX12_on_81 : decode cX12_on 81 = .ok (.invokevirtual 103, 3) := bdX12_on_68.2.2.2.2.2.2.2.2.2.1
theorem dX12_on_84 : decode cX12_on 84 = .ok (.ireturn, 1) := bdX12_on_68.2.2.2.2.2.2.2.2.2.2.1
theorem dX12_on_85 : decode cX12_on 85 = .ok (.aload_n 0, 1) := bdX12_on_68.2.2.2.2.2.2.2.2.2.2.2.1
theorem dX12_on_86 : decode cX12_on 86 = .ok (.iload_n 1, 1) := bdX12_on_68.2.2.2.2.2.2.2.2.2.2.2.2.1
theorem dX12_on_87 : decode cX12_on 87 = .ok (.bipush 7, 2) := bdX12_on_68.2.2.2.2.2.2.2.2.2.2.2.2.2.1
theorem dX12_on_89 : decode cX12_on 89 = .ok (.invokevirtual 103, 3) := bdX12_on_68.2.2.2.2.2.2.2.2.2.2.2.2.2.2.1
theorem dX12_on_92 : decode cX12_on 92 = .ok (.ireturn, 1) := bdX12_on_68.2.2.2.2.2.2.2.2.2.2.2.2.2.2.2
theorem bdX12_on_93 : (decode cX12_on 93 = .ok (.aload_n 0, 1)) ∧ (decode cX12_on 94 = .ok (.iload_n 1, 1)) ∧ (decode cX12_on 95 = .ok (.bipush 10, 2)) ∧ (decode cX12_on 97 = .ok (.invokevirtual 103, 3)) ∧ (decode cX12_on 100 = .ok (.ireturn, 1)) ∧ (decode cX12_on 101 = .ok (.aload_n 0, 1)) ∧ (decode cX12_on 102 = .ok (.iload_n 1, 1)) ∧ (decode cX12_on 103 = .ok (.bipush 11, 2)) ∧ (decode cX12_on 105 = .ok (.invokevirtual 103, 3)) ∧ (decode cX12_on 108 = .ok (.ireturn, 1)) ∧ (decode cX12_on 109 = .ok (.aload_n 0, 1)) ∧ (decode cX12_on 110 = .ok (.iload_n 1, 1)) ∧ (decode cX12_on 111 = .ok (.bipush 8, 2)) ∧ (decode cX12_on 113 = .ok (.invokevirtual 103, 3)) ∧ (decode cX12_on 116 = .ok (.ireturn, 1)) ∧ (decode cX12_on 117 = .ok (.iconst (-1), 1)) := by decide +kernel
theorem dX12_on_93 : decode cX12_on 93 = .ok (.aload_n 0, 1) := bdX12_on_93.1
theorem dX12_on_94 : decode cX12_on 94 = .ok (.iload_n 1, 1) := bdX12_on_93.2.1
theorem dX12_on_95 : decode cX12_on 95 = .ok (.bipush 10, 2) := bdX12_on_93.2.2.1
theorem dX12_on_97 : decode cX12_on 97 = .ok (.invokevirtual 103, 3) := bdX12_on_93.2.2.2.1
theorem dX12_on_100 : decode cX12_on 100 = .ok (.ireturn, 1) := bdX12_on_93.2.2.2.2.1
theorem dX12_on_101 : decode cX12_on 101 = .ok (.aload_n 0, 1) := bdX12_on_93.2.2.2.2.2.1
theorem dX12_on_102 : decode cX12_on 102 = .ok (.iload_n 1, 1) := bdX12_on_93.2.2.2.2.2.2.1
theorem dX12_on_103 : decode cX12_on 103 = .ok (.bipush 11, 2) := bdX12_on_93.2.2.2.2.2.2.2.1
theorem dX12_on_105 : decode cX12_on 105 = .ok (.invokevirtual 103, 3) := bdX12_on_93.2.2.2.2.2.2.2.2.1
theorem dX12_on_108 : decode cX12_on 108 = .ok (.ireturn, 1) := bdX12_on_93.2.2.2.2.2.2.2.2.2.1
theorem dX12_on_109 : decode cX12_on 109 = .ok (.aload_n 0, 1) := bdX12_on_93.2.2.2.2.2.2.2.2.2.2.1
theorem dX12_on_110 : decode cX12_on 110 = .ok (.iload_n 1, 1) := bdX12_on_93.2.2.2.2.2.2.2.2.2.2.2.1
theorem dX12_on_111 : decode cX12_on 111 = .ok (.bipush 8, 2) := bdX12_on_93.2.2.2.2.2.2.2.2.2.2.2.2.1
theorem dX12_on_113 : decode cX12_on 113 = .ok (.invokevirtual 103, 3) := bdX12_on_93.2.2.2.2.2.2.2.2.2.2.2.2.2.1
theorem dX12_on_116 : decode cX12_on 116 = .ok (.ireturn, 1) := bdX12_on_93.2.2.2.2.2.2.2.2.2.2.2.2.2.2.1
theorem dX12_on_117 : decode cX12_on 117 = .ok (.iconst (-1), 1) := bdX12_on_93.2.2.2.2.2.2.2.2.2.2.2.2.2.2.2
theorem dX12_on_118 : decode cX12_on 118 = .ok (.ireturn, 1) := by decide +kernel
theorem bdX11_step_0 : (decode cX11_step 0 = .ok (.aload_n 0, 1)) ∧ (decode cX11_step 1 = .ok (.getfield 10, 3)) ∧ (decode cX11_step 4 = .ok (.iload_n 1, 1)) ∧ (decode cX11_step 5 = .ok (.invokevirtual 84, 3)) ∧ (decode cX11_step 8 = .ok (.ifCond .eq 34, 3)) ∧ (decode cX11_step 11 = .ok (.iload_n 2, 1)) ∧ (decode cX11_step 12 = .ok (.iconst 0, 1)) ∧ (decode cX11_step 13 = .ok (.iconst 1, 1)) ∧ (decode cX11_step 14 = .ok (.invokestatic 47, 3)) ∧ (decode cX11_step 17 = .ok (.ifCond .eq 25, 3)) ∧ (decode cX11_step 20 = .ok (.iload_n 3, 1)) ∧ (decode cX11_step 21 = .ok (.iconst 0, 1)) ∧ (decode cX11_step 22 = .ok (.aload_n 0, 1)) ∧ (decode cX11_step 23 = .ok (.getfield 10, 3)) ∧ (decode cX11_step 26 = .ok (.getfield 75, 3)) ∧ (decode cX11_step 29 = .ok (.iload_n 1, 1)) := by decide +kernel
theorem dX11_step_0 : decode cX11_step 0 = .ok (.aload_n 0, 1) := bdX11_step_0.1
theorem dX11_step_1 : decode cX11_step 1 = .ok (.getfield 10, 3) := bdX11_step_0.2.1
theorem dX11_step_4 : decode cX11_step 4 = .ok (.iload_n 1, 1) := bdX11_step_0.2.2.1
theorem dX11_step_5 : decode cX11_step 5 = .ok (.invokevirtual 84, 3) := bdX11_step_0.2.2.2.1
theorem dX11_step_8 : decode cX11_step 8 = .ok (.ifCond .eq 34, 3) := bdX11_step_0.2.2.2.2.1
theorem dX11_step_11 : decode cX11_step 11 = .ok (.iload_n 2, 1) := bdX11_step_0.2.2.2.2.2.1
theorem dX11_step_12 : decode cX11_step 12 = .ok (.iconst 0, 1) := bdX11_step_0.2.2.2.2.2.2.1
theorem dX11_step_13 : decode cX11_step 13 = .ok (.iconst 1, 1) := bdX11_step_0.2.2.2.2.2.2.2.1
theorem dX11_step_14 : decode cX11_step 14 = .ok (.invokestatic 47, 3) := bdX11_step_0.2.2.2.2.2.2.2.2.1
theorem dX11_step_17 : decode cX11_step 17 = .ok (.ifCond .eq 25, 3) := bdX11_step_0.2.2.2.2.2.2.2.2.2.1
theorem dX11_step_20 : decode cX11_step 20 = .ok (.iload_n 3, 1) := bdX11_step_0.2.2.2.2.2.2.2.2.2.2.1
theorem dX11_step_21 : decode cX11_step 21 = .ok (.iconst 0, 1) := bdX11_step_0.2.2.2.2.2.2.2.2.2.2.2.1
theorem dX11_step_22 : decode cX11_step 22 = .ok (.aload_n 0, 1) := bdX11_step_0.2.2.2.2.2.2.2.2.2.2.2.2.1
theorem dX11_step_23 : decode cX11_step 23 = .ok (.getfield 10, 3) := bdX11_step_0.2.2.2.2.2.2.2.2.2.2.2.2.2.1
theorem dX11_step_26 : decode cX11_step 26 = .ok (.getfield 75, 3) := bdX11_step_0.2.2.2.2.2.2.2.2.2.2.2.2.2.2.1
theorem dX11_step_29 : decode cX11_step 29 = .ok (.iload_n 1, 1) := bdX11_step_0.2.2.2.2.2.2.2.2.2.2.2.2.2.2.2
theorem bdX11_step_30 : (decode cX11_step 30 = .ok (.aaload, 1)) ∧ (decode cX11_step 31 = .ok (.getfield 206, 3)) ∧ (decode cX11_step 34 = .ok (.iconst 1, 1)) ∧ (decode cX11_step 35 = .ok (.isub, 1)) ∧ (decode cX11_step 36 = .ok (.invokestatic 47, 3)) ∧ (decode cX11_step 39 = .ok (.ifCond .ne 5, 3)) ∧ (decode cX11_step 42 = .ok (.iconst (-1), 1)) ∧ (decode cX11_step 43 = .ok (.ireturn, 1)) ∧ (decode cX11_step 44 = .ok (.aload_n 0, 1)) ∧ (decode cX11_step 45 = .ok (.getfield 10, 3)) ∧ (decode cX11_step 48 = .ok (.getfield 75, 3)) ∧ (decode cX11_step 51 = .ok (.iload_n 1, 1)) ∧ (decode cX11_step 52 = .ok (.aaload, 1)) ∧ (decode cX11_step 53 = .ok (.iload_n 2, 1)) ∧ (decode cX11_step 54 = .ok (.iload_n 3, 1)) ∧ (decode cX11_step 55 = .ok (.invokevirtual 207, 3)) := by decide +kernel
theorem dX11_step_30 : decode cX11_step 30 = .ok (.aaload, 1) := bdX11_step_30.1
theorem dX11_step_31 : decode cX11_step 31 = .ok (.getfield 206, 3) := bdX11_step_30.2.1
theorem dX11_step_34 : decode cX11_step 34 = .ok (.iconst 1, 1) := bdX11_step_30.2.2.1
theorem dX11_step_35 : decode cX11_step 35 = .ok (.isub, 1) := bdX11_step_30.2.2.2.1
theorem dX11_step_36 : decode cX11_step 36 = .ok (.invokestatic 47, 3) := bdX11_step_30.2.2.2.2.1
theorem dX11_step_39 : decode cX11_step 39 = .ok (.ifCond .ne 5, 3) := bdX11_step_30.2.2.2.2.2.1
theorem dX11_step_42 : decode cX11_step 42 = .ok (.iconst (-1), 1) := bdX11_step_30.2.2.2.2.2.2.1
theorem dX11_step_43 : decode cX11_step 43 = .ok (.ireturn, 1) := bdX11_step_30.2.2.2.2.2.2.2.1
theorem dX11_step_44 : decode cX11_step 44 = .ok (.aload_n 0, 1) := bdX11_step_30.2.2.2.2.2.2.2.2.1
theorem dX11_step_45 : decode cX11_step 45 = .ok (.getfield 10, 3) := bdX11_step_30.2.2.2.2.2.2.2.2.2.1
theorem dX11_step_48 : decode cX11_step 48 = .ok (.getfield 75, 3) := bdX11_step_30.2.2.2.2.2.2.2.2.2.2.1
theorem dX11_step_51 : decode cX11_step 51 = .ok (.iload_n 1, 1) := bdX11_step_30.2.2.2.2.2.2.2.2.2.2.2.1
theorem dX11_step_52 : decode cX11_step 52 = .ok (.aaload, 1) := bdX11_step_30.2.2.2.2.2.2.2.2.2.2.2.2.1
theorem dX11_step_53 : decode cX11_step 53 = .ok (.iload_n 2, 1) := bdX11_step_30.2.2.2.2.2.2.2.2.2.2.2.2.2.1
theorem dX11_step_54 : decode cX11_step 54 = .ok (.iload_n 3, 1) := bdX11_step_30.2.2.2.2.2.2.2.2.2.2.2.2.2.2.1
theorem dX11_step_55 : decode cX11_step 55 = .ok (.invokevirtual 207, 3) := bdX11_step_30.2.2.2.2.2.2.2.2.2.2.2.2.2.2.2
theorem dX11_step_58 : decode cX11_step 58 = .ok (.ireturn, 1) := by decide +kernel
theorem bdX12_step_0 : (decode cX12_step 0 = .ok (.aload_n 0, 1)) ∧ (decode cX12_step 1 = .ok (.iload_n 1, 1)) ∧ (decode cX12_step 2 = .ok (.invokevirtual 114, 3)) ∧ (decode cX12_step 5 = .ok (.ifCond .eq 43, 3)) ∧ (decode cX12_step 8 = .ok (.iload_n 2, 1)) ∧ (decode cX12_step 9 = .ok (.iconst 0, 1)) ∧ (decode cX12_step 10 = .ok (.iconst 1, 1)) ∧ (decode cX12_step 11 = .ok (.invokestatic 95, 3)) ∧ (decode cX12_step 14 = .ok (.ifCond .eq 34, 3)) ∧ (decode cX12_step 17 = .ok (.iload_n 3, 1)) ∧ (decode cX12_step 18 = .ok (.iconst 0, 1)) ∧ (decode cX12_step 19 = .ok (.aload_n 0, 1)) ∧ (decode cX12_step 20 = .ok (.iload_n 1, 1)) ∧ (decode cX12_step 21 = .ok (.iconst 3, 1)) ∧ (decode cX12_step 22 = .ok (.invokevirtual 103, 3)) ∧ (decode cX12_step 25 = .ok (.iconst 1, 1)) := by decide +kernel
theorem dX12_step_0 : decode cX12_step 0 = .ok (.aload_n 0, 1) := bdX12_step_0.1
theorem dX12_step_1 : decode cX12_step 1 = .ok (.iload_n 1, 1) := bdX12_step_0.2.1
theorem dX12_step_2 : decode cX12_step 2 = .ok (.invokevirtual 114, 3) := bdX12_step_0.2.2.1
theorem dX12_step_5 : decode cX12_step 5 = .ok (.ifCond .eq 43, 3) := bdX12_step_0.2.2.2.1
theorem dX12_step_8 : decode cX12_step 8 = .ok (.iload_n 2, 1) := bdX12_step_0.2.2.2.2.1
theorem dX12_step_9 : decode cX12_step 9 = .ok (.iconst 0, 1) := bdX12_step_0.2.2.2.2.2.1
theorem dX12_step_10 : decode cX12_step 10 = .ok (.iconst 1, 1) := bdX12_step_0.2.2.2.2.2.2.1
theorem dX12_step_11 : decode cX12_step 11 = .ok (.invokestatic 95, 3) := bdX12_step_0.2.2.2.2.2.2.2.1
theorem dX12_step_14 : decode cX12_step 14 = .ok (.ifCond .eq 34, 3) := bdX12_step_0.2.2.2.2.2.2.2.2.1
theorem dX12_step_17 : decode cX12_step 17 = .ok (.iload_n 3, 1) := bdX12_step_0.2.2.2.2.2.2.2.2.2.1
theorem dX12_step_18 : decode cX12_step 18 = .ok (.iconst 0, 1) := bdX12_step_0.2.2.2.2.2.2.2.2.2.2.1
theorem dX12_step_19 : decode cX12_step 19 = .ok (.aload_n 0, 1) := bdX12_step_0.2.2.2.2.2.2.2.2.2.2.2.1
theorem dX12_step_20 : decode cX12_step 20 = .ok (.iload_n 1, 1) := bdX12_step_0.2.2.2.2.2.2.2.2.2.2.2.2.1
theorem dX12_step_21 : decode cX12_step 21 = .ok (.iconst 3, 1) := bdX12_step_0.2.2.2.2.2.2.2.2.2.2.2.2.2.1
theorem dX12_step_22 : decode cX12_step 22 = .ok (.invokevirtual 103, 3) := bdX12_step_0.2.2.2.2.2.2.2.2.2.2.2.2.2.2.1
theorem dX12_step_25 : decode cX12_step 25 = .ok (.iconst 1, 1) := bdX12_step_0.2.2.2.2.2.2.2.2.2.2.2.2.2.2.2
theorem bdX12_step_26 : (decode cX12_step 26 = .ok (.isub, 1)) ∧ (decode cX12_step 27 = .ok (.invokestatic 95, 3)) ∧ (decode cX12_step 30 = .ok (.ifCond .eq 18, 3)) ∧ (decode cX12_step 33 = .ok (.aload_n 0, 1)) ∧ (decode cX12_step 34 = .ok (.getfield 7, 3)) ∧ (decode cX12_step 37 = .ok (.aload_n 0, 1)) ∧ (decode cX12_step 38 = .ok (.iload_n 1, 1)) ∧ (decode cX12_step 39 = .ok (.iload_n 2, 1)) ∧ (decode cX12_step 40 = .ok (.iload_n 3, 1)) ∧ (decode cX12_step 41 = .ok (.invokevirtual 334, 3)) ∧ (decode cX12_step 44 = .ok (.iaload, 1)) ∧ (decode cX12_step 45 = .ok (.goto 4, 3)) ∧ (decode cX12_step 48 = .ok (.iconst (-1), 1)) ∧ (decode cX12_step 49 = .ok (.ireturn, 1)) := by decide +kernel
theorem dX12_step_26 : decode cX12_step 26 = .ok (.isub, 1) := bdX12_step_26.1
theorem dX12_step_27 : decode cX12_step 27 = .ok (.invokestatic 95, 3) := bdX12_step_26.2.1
theorem dX12_step_30 : decode cX12_step 30 = .ok (.ifCond .eq 18, 3) := bdX12_step_26.2.2.1
theorem dX12_step_33 : decode cX12_step 33 = .ok (.aload_n 0, 1) := bdX12_step_26.2.2.2.1
theorem dX12_step_34 : decode cX12_step 34 = .ok (.getfield 7, 3) := bdX12_step_26.2.2.2.2.1
theorem dX12_step_37 : decode cX12_step 37 = .ok (.aload_n 0, 1) := bdX12_step_26.2.2.2.2.2.1
theorem dX12_step_38 : decode cX12_step 38 = .ok (.iload_n 1, 1) := bdX12_step_26.2.2.2.2.2.2.1
theorem dX12_step_39 : decode cX12_step 39 = .ok (.iload_n 2, 1) := bdX12_step_26.2.2.2.2.2.2.2.1
theorem dX12_step_40 : decode cX12_step 40 = .ok (.iload_n 3, 1) := bdX12_step_26.2.2.2.2.2.2.2.2.1
theorem dX12_step_41 : decode cX12_step 41 = .ok (.invokevirtual 334, 3) := bdX12_step_26.2.2.2.2.2.2.2.2.2.1
theorem dX12_step_44 : decode cX12_step 44 = .ok (.iaload, 1) := bdX12_step_26.2.2.2.2.2.2.2.2.2.2.1
theorem dX12_step_45 : decode cX12_step 45 = .ok (.goto 4, 3) := bdX12_step_26.2.2.2.2.2.2.2.2.2.2.2.1
theorem dX12_step_48 : decode cX12_step 48 = .ok (.iconst (-1), 1) := bdX12_step_26.2.2.2.2.2.2.2.2.2.2.2.2.1
theorem dX12_step_49 : decode cX12_step 49 = .ok (.ireturn, 1) := bdX12_step_26.2.2.2.2.2.2.2.2.2.2.2.2.2
theorem bdX11_route_0 : (decode cX11_route 0 = .ok (.aload_n 0, 1)) ∧ (decode cX11_route 1 = .ok (.getfield 10, 3)) ∧ (decode cX11_route 4 = .ok (.iload_n 1, 1)) ∧ (decode cX11_route 5 = .ok (.invokevirtual 65, 3)) ∧ (decode cX11_route 8 = .ok (.ifCond .eq 14, 3)) ∧ (decode cX11_route 11 = .ok (.aload_n 0, 1)) ∧ (decode cX11_route 12 = .ok (.getfield 10, 3)) ∧ (decode cX11_route 15 = .ok (.iload_n 2, 1)) ∧ (decode cX11_route 16 = .ok (.invokevirtual 65, 3)) ∧ (decode cX11_route 19 = .ok (.ifCond .ne 5, 3)) ∧ (decode cX11_route 22 = .ok (.iconst (-1), 1)) ∧ (decode cX11_route 23 = .ok (.ireturn, 1)) ∧ (decode cX11_route 24 = .ok (.aload_n 0, 1)) ∧ (decode cX11_route 25 = .ok (.getfield 25, 3)) ∧ (decode cX11_route 28 = .ok (.invokevirtual 166, 3)) ∧ (decode cX11_route 31 = .ok (.aload_n 0, 1)) := by decide +kernel
theorem dX11_route_0 : decode cX11_route 0 = .ok (.aload_n 0, 1) := bdX11_route_0.1
theorem dX11_route_1 : decode cX11_route 1 = .ok (.getfield 10, 3) := bdX11_route_0.2.1
theorem dX11_route_4 : decode cX11_route 4 = .ok (.iload_n 1, 1) := bdX11_route_0.2.2.1
theorem dX11_route_5 : decode cX11_route 5 = .ok (.invokevirtual 65, 3) := bdX11_route_0.2.2.2.1
theorem dX11_route_8 : decode cX11_route 8 = .ok (.ifCond .eq 14, 3) := bdX11_route_0.2.2.2.2.1
theorem dX11_route_11 : decode cX11_route 11 = .ok (.aload_n 0, 1) := bdX11_route_0.2.2.2.2.2.1
theorem dX11_route_12 : decode cX11_route 12 = .ok (.getfield 10, 3) := bdX11_route_0.2.2.2.2.2.2.1
theorem dX11_route_15 : decode cX11_route 15 = .ok (.iload_n 2, 1) := bdX11_route_0.2.2.2.2.2.2.2.1
theorem dX11_route_16 : decode cX11_route 16 = .ok (.invokevirtual 65, 3) := bdX11_route_0.2.2.2.2.2.2.2.2.1
theorem dX11_route_19 : decode cX11_route 19 = .ok (.ifCond .ne 5, 3) := bdX11_route_0.2.2.2.2.2.2.2.2.2.1
theorem dX11_route_22 : decode cX11_route 22 = .ok (.iconst (-1), 1) := bdX11_route_0.2.2.2.2.2.2.2.2.2.2.1
theorem dX11_route_23 : decode cX11_route 23 = .ok (.ireturn, 1) := bdX11_route_0.2.2.2.2.2.2.2.2.2.2.2.1
theorem dX11_route_24 : decode cX11_route 24 = .ok (.aload_n 0, 1) := bdX11_route_0.2.2.2.2.2.2.2.2.2.2.2.2.1
theorem dX11_route_25 : decode cX11_route 25 = .ok (.getfield 25, 3) := bdX11_route_0.2.2.2.2.2.2.2.2.2.2.2.2.2.1
theorem dX11_route_28 : decode cX11_route 28 = .ok (.invokevirtual 166, 3) := bdX11_route_0.2.2.2.2.2.2.2.2.2.2.2.2.2.2.1
theorem dX11_route_31 : decode cX11_route 31 = .ok (.aload_n 0, 1) := bdX11_route_0.2.2.2.2.2.2.2.2.2.2.2.2.2.2.2
theorem bdX11_route_32 : (decode cX11_route 32 = .ok (.getfield 25, 3)) ∧ (decode cX11_route 35 = .ok (.getfield 211, 3)) ∧ (decode cX11_route 38 = .ok (.aload_n 0, 1)) ∧ (decode cX11_route 39 = .ok (.getfield 10, 3)) ∧ (decode cX11_route 42 = .ok (.invokevirtual 215, 3)) ∧ (decode cX11_route 45 = .ok (.aload_n 0, 1)) ∧ (decode cX11_route 46 = .ok (.getfield 25, 3)) ∧ (decode cX11_route 49 = .ok (.getfield 211, 3)) ∧ (decode cX11_route 52 = .ok (.iload_n 3, 1)) ∧ (decode cX11_route 53 = .ok (.ifCond .eq 7, 3)) ∧ (decode cX11_route 56 = .ok (.iconst 1, 1)) ∧ (decode cX11_route 57 = .ok (.goto 4, 3)) ∧ (decode cX11_route 60 = .ok (.iconst 0, 1)) ∧ (decode cX11_route 61 = .ok (.iload_n 1, 1)) ∧ (decode cX11_route 62 = .ok (.iload_n 2, 1)) ∧ (decode cX11_route 63 = .ok (.invokevirtual 221, 3)) := by decide +kernel
theorem dX11_route_32 : decode cX11_route 32 = .ok (.getfield 25, 3) := bdX11_route_32.1
theorem dX11_route_35 : decode cX11_route 35 = .ok (.getfield 211, 3) := bdX11_route_32.2.1
theorem dX11_route_38 : decode cX11_route 38 = .ok (.aload_n 0, 1) := bdX11_route_32.2.2.1
theorem dX11_route_39 : decode cX11_route 39 = .ok (.getfield 10, 3) := bdX11_route_32.2.2.2.1
theorem dX11_route_42 : decode cX11_route 42 = .ok (.invokevirtual 215, 3) := bdX11_route_32.2.2.2.2.1
theorem dX11_route_45 : decode cX11_route 45 = .ok (.aload_n 0, 1) := bdX11_route_32.2.2.2.2.2.1
theorem dX11_route_46 : decode cX11_route 46 = .ok (.getfield 25, 3) := bdX11_route_32.2.2.2.2.2.2.1
theorem dX11_route_49 : decode cX11_route 49 = .ok (.getfield 211, 3) := bdX11_route_32.2.2.2.2.2.2.2.1
theorem dX11_route_52 : decode cX11_route 52 = .ok (.iload_n 3, 1) := bdX11_route_32.2.2.2.2.2.2.2.2.1
theorem dX11_route_53 : decode cX11_route 53 = .ok (.ifCond .eq 7, 3) := bdX11_route_32.2.2.2.2.2.2.2.2.2.1
theorem dX11_route_56 : decode cX11_route 56 = .ok (.iconst 1, 1) := bdX11_route_32.2.2.2.2.2.2.2.2.2.2.1
theorem dX11_route_57 : decode cX11_route 57 = .ok (.goto 4, 3) := bdX11_route_32.2.2.2.2.2.2.2.2.2.2.2.1
theorem dX11_route_60 : decode cX11_route 60 = .ok (.iconst 0, 1) := bdX11_route_32.2.2.2.2.2.2.2.2.2.2.2.2.1
theorem dX11_route_61 : decode cX11_route 61 = .ok (.iload_n 1, 1) := bdX11_route_32.2.2.2.2.2.2.2.2.2.2.2.2.2.1
theorem dX11_route_62 : decode cX11_route 62 = .ok (.iload_n 2, 1) := bdX11_route_32.2.2.2.2.2.2.2.2.2.2.2.2.2.2.1
theorem dX11_route_63 : decode cX11_route 63 = .ok (.invokevirtual 221, 3) := bdX11_route_32.2.2.2.2.2.2.2.2.2.2.2.2.2.2.2
theorem dX11_route_66 : decode cX11_route 66 = .ok (.ireturn, 1) := by decide +kernel
theorem bdX12_route_0 : (decode cX12_route 0 = .ok (.aload_n 0, 1)) ∧ (decode cX12_route 1 = .ok (.iload_n 1, 1)) ∧ (decode cX12_route 2 = .ok (.invokevirtual 107, 3)) ∧ (decode cX12_route 5 = .ok (.ifCond .eq 11, 3)) ∧ (decode cX12_route 8 = .ok (.aload_n 0, 1)) ∧ (decode cX12_route 9 = .ok (.iload_n 2, 1)) ∧ (decode cX12_route 10 = .ok (.invokevirtual 107, 3)) ∧ (decode cX12_route 13 = .ok (.ifCond .ne 5, 3)) ∧ (decode cX12_route 16 = .ok (.iconst (-1), 1)) ∧ (decode cX12_route 17 = .ok (.ireturn, 1)) ∧ (decode cX12_route 18 = .ok (.aload_n 0, 1)) ∧ (decode cX12_route 19 = .ok (.iload_n 2, 1)) ∧ (decode cX12_route 20 = .ok (.iload_n 3, 1)) ∧ (decode cX12_route 21 = .ok (.ifCond .eq 7, 3)) ∧ (decode cX12_route 24 = .ok (.iconst 1, 1)) ∧ (decode cX12_route 25 = .ok (.goto 4, 3)) := by decide +kernel
theorem dX12_route_0 : decode cX12_route 0 = .ok (.aload_n 0, 1) := bdX12_route_0.1
theorem dX12_route_1 : decode cX12_route 1 = .ok (.iload_n 1, 1) := bdX12_route_0.2.1
theorem dX12_route_2 : decode cX12_route 2 = .ok (.invokevirtual 107, 3) := bdX12_route_0.2.2.1
theorem dX12_route_5 : decode cX12_route 5 = .ok (.ifCond .eq 11, 3) := bdX12_route_0.2.2.2.1
theorem dX12_route_8 : decode cX12_route 8 = .ok (.aload_n 0, 1) := bdX12_route_0.2.2.2.2.1
theorem dX12_route_9 : decode cX12_route 9 = .ok (.iload_n 2, 1) := bdX12_route_0.2.2.2.2.2.1
theorem dX12_route_10 : decode cX12_route 10 = .ok (.invokevirtual 107, 3) := bdX12_route_0.2.2.2.2.2.2.1
theorem dX12_route_13 : decode cX12_route 13 = .ok (.ifCond .ne 5, 3) := bdX12_route_0.2.2.2.2.2.2.2.1
theorem dX12_route_16 : decode cX12_route 16 = .ok (.iconst (-1), 1) := bdX12_route_0.2.2.2.2.2.2.2.2.1
theorem dX12_route_17 : decode cX12_route 17 = .ok (.ireturn, 1) := bdX12_route_0.2.2.2.2.2.2.2.2.2.1
theorem dX12_route_18 : decode cX12_route 18 = .ok (.aload_n 0, 1) := bdX12_route_0.2.2.2.2.2.2.2.2.2.2.1
theorem dX12_route_19 : decode cX12_route 19 = .ok (.iload_n 2, 1) := bdX12_route_0.2.2.2.2.2.2.2.2.2.2.2.1
theorem dX12_route_20 : decode cX12_route 20 = .ok (.iload_n 3, 1) := bdX12_route_0.2.2.2.2.2.2.2.2.2.2.2.2.1
theorem dX12_route_21 : decode cX12_route 21 = .ok (.ifCond .eq 7, 3) := bdX12_route_0.2.2.2.2.2.2.2.2.2.2.2.2.2.1
theorem dX12_route_24 : decode cX12_route 24 = .ok (.iconst 1, 1) := bdX12_route_0.2.2.2.2.2.2.2.2.2.2.2.2.2.2.1
theorem dX12_route_25 : decode cX12_route 25 = .ok (.goto 4, 3) := bdX12_route_0.2.2.2.2.2.2.2.2.2.2.2.2.2.2.2
theorem bdX12_route_28 : (decode cX12_route 28 = .ok (.iconst 0, 1)) ∧ (decode cX12_route 29 = .ok (.invokevirtual 325, 3)) ∧ (decode cX12_route 32 = .ok (.aload_n 0, 1)) ∧ (decode cX12_route 33 = .ok (.getfield 80, 3)) ∧ (decode cX12_route 36 = .ok (.iload_n 3, 1)) ∧ (decode cX12_route 37 = .ok (.ifCond .eq 8, 3)) ∧ (decode cX12_route 40 = .ok (.bipush 36, 2)) ∧ (decode cX12_route 42 = .ok (.goto 4, 3)) ∧ (decode cX12_route 45 = .ok (.iconst 0, 1)) ∧ (decode cX12_route 46 = .ok (.bipush 6, 2)) ∧ (decode cX12_route 48 = .ok (.iload_n 2, 1)) ∧ (decode cX12_route 49 = .ok (.imul, 1)) ∧ (decode cX12_route 50 = .ok (.iadd, 1)) ∧ (decode cX12_route 51 = .ok (.iload_n 1, 1)) ∧ (decode cX12_route 52 = .ok (.iadd, 1)) ∧ (decode cX12_route 53 = .ok (.iaload, 1)) := by decide +kernel
theorem dX12_route_28 : decode cX12_route 28 = .ok (.iconst 0, 1) := bdX12_route_28.1
theorem dX12_route_29 : decode cX12_route 29 = .ok (.invokevirtual 325, 3) := bdX12_route_28.2.1
theorem dX12_route_32 : decode cX12_route 32 = .ok (.aload_n 0, 1) := bdX12_route_28.2.2.1
theorem dX12_route_33 : decode cX12_route 33 = .ok (.getfield 80, 3) := bdX12_route_28.2.2.2.1
theorem dX12_route_36 : decode cX12_route 36 = .ok (.iload_n 3, 1) := bdX12_route_28.2.2.2.2.1
theorem dX12_route_37 : decode cX12_route 37 = .ok (.ifCond .eq 8, 3) := bdX12_route_28.2.2.2.2.2.1
theorem dX12_route_40 : decode cX12_route 40 = .ok (.bipush 36, 2) := bdX12_route_28.2.2.2.2.2.2.1
theorem dX12_route_42 : decode cX12_route 42 = .ok (.goto 4, 3) := bdX12_route_28.2.2.2.2.2.2.2.1
theorem dX12_route_45 : decode cX12_route 45 = .ok (.iconst 0, 1) := bdX12_route_28.2.2.2.2.2.2.2.2.1
theorem dX12_route_46 : decode cX12_route 46 = .ok (.bipush 6, 2) := bdX12_route_28.2.2.2.2.2.2.2.2.2.1
theorem dX12_route_48 : decode cX12_route 48 = .ok (.iload_n 2, 1) := bdX12_route_28.2.2.2.2.2.2.2.2.2.2.1
theorem dX12_route_49 : decode cX12_route 49 = .ok (.imul, 1) := bdX12_route_28.2.2.2.2.2.2.2.2.2.2.2.1
theorem dX12_route_50 : decode cX12_route 50 = .ok (.iadd, 1) := bdX12_route_28.2.2.2.2.2.2.2.2.2.2.2.2.1
theorem dX12_route_51 : decode cX12_route 51 = .ok (.iload_n 1, 1) := bdX12_route_28.2.2.2.2.2.2.2.2.2.2.2.2.2.1
theorem dX12_route_52 : decode cX12_route 52 = .ok (.iadd, 1) := bdX12_route_28.2.2.2.2.2.2.2.2.2.2.2.2.2.2.1
theorem dX12_route_53 : decode cX12_route 53 = .ok (.iaload, 1) := bdX12_route_28.2.2.2.2.2.2.2.2.2.2.2.2.2.2.2
theorem dX12_route_54 : decode cX12_route 54 = .ok (.ireturn, 1) := by decide +kernel
theorem bdX11_all_0 : (decode cX11_all 0 = .ok (.iload_n 1, 1)) ∧ (decode cX11_all 1 = .ok (.tableswitch 63 0 3 #[31, 39, 47, 55], 31)) ∧ (decode cX11_all 32 = .ok (.aload_n 0, 1)) ∧ (decode cX11_all 33 = .ok (.getfield 10, 3)) ∧ (decode cX11_all 36 = .ok (.getfield 225, 3)) ∧ (decode cX11_all 39 = .ok (.ireturn, 1)) ∧ (decode cX11_all 40 = .ok (.aload_n 0, 1)) ∧ (decode cX11_all 41 = .ok (.getfield 10, 3)) ∧ (decode cX11_all 44 = .ok (.getfield 228, 3)) ∧ (decode cX11_all 47 = .ok (.ireturn, 1)) ∧ (decode cX11_all 48 = .ok (.aload_n 0, 1)) ∧ (decode cX11_all 49 = .ok (.getfield 10, 3)) ∧ (decode cX11_all 52 = .ok (.getfield 231, 3)) ∧ (decode cX11_all 55 = .ok (.ireturn, 1)) ∧ (decode cX11_all 56 = .ok (.aload_n 0, 1)) ∧ (decode cX11_all 57 = .ok (.getfield 10, 3)) := by decide +kernel
theorem dX11_all_0 : decode cX11_all 0 = .ok (.iload_n 1, 1) := bdX11_all_0.1
theorem dX11_all_1 : decode cX11_all 1 = .ok (.tableswitch 63 0 3 #[31, 39, 47, 55], 31) := bdX11_all_0.2.1
theorem dX11_all_32 : decode cX11_all 32 = .ok (.aload_n 0, 1) := bdX11_all_0.2.2.1
theorem dX11_all_33 : decode cX11_all 33 = .ok (.getfield 10, 3) := bdX11_all_0.2.2.2.1
theorem dX11_all_36 : decode cX11_all 36 = .ok (.getfield 225, 3) := bdX11_all_0.2.2.2.2.1
theorem dX11_all_39 : decode cX11_all 39 = .ok (.ireturn, 1) := bdX11_all_0.2.2.2.2.2.1
theorem dX11_all_40 : decode cX11_all 40 = .ok (.aload_n 0, 1) := bdX11_all_0.2.2.2.2.2.2.1
theorem dX11_all_41 : decode cX11_all 41 = .ok (.getfield 10, 3) := bdX11_all_0.2.2.2.2.2.2.2.1
theorem dX11_all_44 : decode cX11_all 44 = .ok (.getfield 228, 3) := bdX11_all_0.2.2.2.2.2.2.2.2.1
theorem dX11_all_47 : decode cX11_all 47 = .ok (.ireturn, 1) := bdX11_all_0.2.2.2.2.2.2.2.2.2.1
theorem dX11_all_48 : decode cX11_all 48 = .ok (.aload_n 0, 1) := bdX11_all_0.2.2.2.2.2.2.2.2.2.2.1
theorem dX11_all_49 : decode cX11_all 49 = .ok (.getfield 10, 3) := bdX11_all_0.2.2.2.2.2.2.2.2.2.2.2.1
theorem dX11_all_52 : decode cX11_all 52 = .ok (.getfield 231, 3) := bdX11_all_0.2.2.2.2.2.2.2.2.2.2.2.2.1
theorem dX11_all_55 : decode cX11_all 55 = .ok (.ireturn, 1) := bdX11_all_0.2.2.2.2.2.2.2.2.2.2.2.2.2.1
theorem dX11_all_56 : decode cX11_all 56 = .ok (.aload_n 0, 1) := bdX11_all_0.2.2.2.2.2.2.2.2.2.2.2.2.2.2.1
theorem dX11_all_57 : decode cX11_all 57 = .ok (.getfield 10, 3) := bdX11_all_0.2.2.2.2.2.2.2.2.2.2.2.2.2.2.2
theorem bdX11_all_60 : (decode cX11_all 60 = .ok (.getfield 234, 3)) ∧ (decode cX11_all 63 = .ok (.ireturn, 1)) ∧ (decode cX11_all 64 = .ok (.iconst (-1), 1)) ∧ (decode cX11_all 65 = .ok (.ireturn, 1)) := by decide +kernel
theorem dX11_all_60 : decode cX11_all 60 = .ok (.getfield 234, 3) := bdX11_all_60.1
theorem dX11_all_63 : decode cX11_all 63 = .ok (.ireturn, 1) := bdX11_all_60.2.1
theorem dX11_all_64 : decode cX11_all 64 = .ok (.iconst (-1), 1) := bdX11_all_60.2.2.1
theorem dX11_all_65 : decode cX11_all 65 = .ok (.ireturn, 1) := bdX11_all_60.2.2.2
theorem bdX12_all_0 : (decode cX12_all 0 = .ok (.iload_n 1, 1)) ∧ (decode cX12_all 1 = .ok (.iconst 0, 1)) ∧ (decode cX12_all 2 = .ok (.iconst 3, 1)) ∧ (decode cX12_all 3 = .ok (.invokestatic 95, 3)) ∧ (decode cX12_all 6 = .ok (.ifCond .eq 15, 3)) ∧ (decode cX12_all 9 = .ok (.aload_n 0, 1)) ∧ (decode cX12_all 10 = .ok (.getfield 7, 3)) ∧ (decode cX12_all 13 = .ok (.bipush 9, 2)) ∧ (decode cX12_all 15 = .ok (.iload_n 1, 1)) ∧ (decode cX12_all 16 = .ok (.iadd, 1)) ∧ (decode cX12_all 17 = .ok (.iaload, 1)) ∧ (decode cX12_all 18 = .ok (.goto 4, 3)) ∧ (decode cX12_all 21 = .ok (.iconst (-1), 1)) ∧ (decode cX12_all 22 = .ok (.ireturn, 1)) := by decide +kernel
theorem dX12_all_0 : decode cX12_all 0 = .ok (.iload_n 1, 1) := bdX12_all_0.1
theorem dX12_all_1 : decode cX12_all 1 = .ok (.iconst 0, 1) := bdX12_all_0.2.1
theorem dX12_all_2 : decode cX12_all 2 = .ok (.iconst 3, 1) := bdX12_all_0.2.2.1
theorem dX12_all_3 : decode cX12_all 3 = .ok (.invokestatic 95, 3) := bdX12_all_0.2.2.2.1
theorem dX12_all_6 : decode cX12_all 6 = .ok (.ifCond .eq 15, 3) := bdX12_all_0.2.2.2.2.1
theorem dX12_all_9 : decode cX12_all 9 = .ok (.aload_n 0, 1) := bdX12_all_0.2.2.2.2.2.1
theorem dX12_all_10 : decode cX12_all 10 = .ok (.getfield 7, 3) := bdX12_all_0.2.2.2.2.2.2.1
theorem dX12_all_13 : decode cX12_all 13 = .ok (.bipush 9, 2) := bdX12_all_0.2.2.2.2.2.2.2.1
theorem dX12_all_15 : decode cX12_all 15 = .ok (.iload_n 1, 1) := bdX12_all_0.2.2.2.2.2.2.2.2.1
theorem dX12_all_16 : decode cX12_all 16 = .ok (.iadd, 1) := bdX12_all_0.2.2.2.2.2.2.2.2.2.1
theorem dX12_all_17 : decode cX12_all 17 = .ok (.iaload, 1) := bdX12_all_0.2.2.2.2.2.2.2.2.2.2.1
theorem dX12_all_18 : decode cX12_all 18 = .ok (.goto 4, 3) := bdX12_all_0.2.2.2.2.2.2.2.2.2.2.2.1
theorem dX12_all_21 : decode cX12_all 21 = .ok (.iconst (-1), 1) := bdX12_all_0.2.2.2.2.2.2.2.2.2.2.2.2.1
theorem dX12_all_22 : decode cX12_all 22 = .ok (.ireturn, 1) := bdX12_all_0.2.2.2.2.2.2.2.2.2.2.2.2.2
theorem bdJ6_bitCount_0f7a4_0 : (decode cJ6_bitCount_0f7a4 0 = .ok (.iload_n 0, 1)) ∧ (decode cJ6_bitCount_0f7a4 1 = .ok (.iload_n 0, 1)) ∧ (decode cJ6_bitCount_0f7a4 2 = .ok (.iconst 1, 1)) ∧ (decode cJ6_bitCount_0f7a4 3 = .ok (.iushr, 1)) ∧ (decode cJ6_bitCount_0f7a4 4 = .ok (.ldc_w 265, 3)) ∧ (decode cJ6_bitCount_0f7a4 7 = .ok (.iand, 1)) ∧ (decode cJ6_bitCount_0f7a4 8 = .ok (.isub, 1)) ∧ (decode cJ6_bitCount_0f7a4 9 = .ok (.istore_n 0, 1)) ∧ (decode cJ6_bitCount_0f7a4 10 = .ok (.iload_n 0, 1)) ∧ (decode cJ6_bitCount_0f7a4 11 = .ok (.ldc_w 266, 3)) ∧ (decode cJ6_bitCount_0f7a4 14 = .ok (.iand, 1)) ∧ (decode cJ6_bitCount_0f7a4 15 = .ok (.iload_n 0, 1)) ∧ (decode cJ6_bitCount_0f7a4 16 = .ok (.iconst 2, 1)) ∧ (decode cJ6_bitCount_0f7a4 17 = .ok (.iushr, 1)) ∧ (decode cJ6_bitCount_0f7a4 18 = .ok (.ldc_w 266, 3)) ∧ (decode cJ6_bitCount_0f7a4 21 = .ok (.iand, 1)) := by decide +kernel
theorem dJ6_bitCount_0f7a4_0 : decode cJ6_bitCount_0f7a4 0 = .ok (.iload_n 0, 1) := bdJ6_bitCount_0f7a4_0.1
theorem dJ6_bitCount_0f7a4_1 : decode cJ6_bitCount_0f7a4 1 = .ok (.iload_n 0, 1) := bdJ6_bitCount_0f7a4_0.2.1
theorem dJ6_bitCount_0f7a4_2 : decode cJ6_bitCount_0f7a4 2 = .ok (.iconst 1, 1) := bdJ6_bitCount_0f7a4_0.2.2.1
theorem dJ6_bitCount_0f7a4_3 : decode cJ6_bitCount_0f7a4 3 = .ok (.iushr, 1) := bdJ6_bitCount_0f7a4_0.2.2.2.1
theorem dJ6_bitCount_0f7a4_4 : decode cJ6_bitCount_0f7a4 4 = .ok (.ldc_w 265, 3) := bdJ6_bitCount_0f7a4_0.2.2.2.2.1
theorem dJ6_bitCount_0f7a4_7 : decode cJ6_bitCount_0f7a4 7 = .ok (.iand, 1) := bdJ6_bitCount_0f7a4_0.2.2.2.2.2.1
theorem dJ6_bitCount_0f7a4_8 : decode cJ6_bitCount_0f7a4 8 = .ok (.isub, 1) := bdJ6_bitCount_0f7a4_0.2.2.2.2.2.2.1
theorem dJ6_bitCount_0f7a4_9 : decode cJ6_bitCount_0f7a4 9 = .ok (.istore_n 0, 1) := bdJ6_bitCount_0f7a4_0.2.2.2.2.2.2.2.1
theorem dJ6_bitCount_0f7a4_10 : decode cJ6_bitCount_0f7a4 10 = .ok (.iload_n 0, 1) := bdJ6_bitCount_0f7a4_0.2.2.2.2.2.2.2.2.1
theorem dJ6_bitCount_0f7a4_11 : decode cJ6_bitCount_0f7a4 11 = .ok (.ldc_w 266, 3) := bdJ6_bitCount_0f7a4_0.2.2.2.2.2.2.2.2.2.1
theorem dJ6_bitCount_0f7a4_14 : decode cJ6_bitCount_0f7a4 14 = .ok (.iand, 1) := bdJ6_bitCount_0f7a4_0.2.2.2.2.2.2.2.2.2.2.1
theorem dJ6_bitCount_0f7a4_15 : decode cJ6_bitCount_0f7a4 15 = .ok (.iload_n 0, 1) := bdJ6_bitCount_0f7a4_0.2.2.2.2.2.2.2.2.2.2.2.1
theorem dJ6_bitCount_0f7a4_16 : decode cJ6_bitCount_0f7a4 16 = .ok (.iconst 2, 1) := bdJ6_bitCount_0f7a4_0.2.2.2.2.2.2.2.2.2.2.2.2.1
theorem dJ6_bitCount_0f7a4_17 : decode cJ6_bitCount_0f7a4 17 = .ok (.iushr, 1) := bdJ6_bitCount_0f7a4_0.2.2.2.2.2.2.2.2.2.2.2.2.2.1
theorem dJ6_bitCount_0f7a4_18 : decode cJ6_bitCount_0f7a4 18 = .ok (.ldc_w 266, 3) := bdJ6_bitCount_0f7a4_0.2.2.2.2.2.2.2.2.2.2.2.2.2.2.1
theorem dJ6_bitCount_0f7a4_21 : decode cJ6_bitCount_0f7a4 21 = .ok (.iand, 1) := bdJ6_bitCount_0f7a4_0.2.2.2.2.2.2.2.2.2.2.2.2.2.2.2
theorem bdJ6_bitCount_0f7a4_22 : (decode cJ6_bitCount_0f7a4 22 = .ok (.iadd, 1)) ∧ (decode cJ6_bitCount_0f7a4 23 = .ok (.istore_n 0, 1)) ∧ (decode cJ6_bitCount_0f7a4 24 = .ok (.iload_n 0, 1)) ∧ (decode cJ6_bitCount_0f7a4 25 = .ok (.iload_n 0, 1)) ∧ (decode cJ6_bitCount_0f7a4 26 = .ok (.iconst 4, 1)) ∧ (decode cJ6_bitCount_0f7a4 27 = .ok (.iushr, 1)) ∧ (decode cJ6_bitCount_0f7a4 28 = .ok (.iadd, 1)) ∧ (decode cJ6_bitCount_0f7a4 29 = .ok (.ldc_w 267, 3)) ∧ (decode cJ6_bitCount_0f7a4 32 = .ok (.iand, 1)) ∧ (decode cJ6_bitCount_0f7a4 33 = .ok (.istore_n 0, 1)) ∧ (decode cJ6_bitCount_0f7a4 34 = .ok (.iload_n 0, 1)) ∧ (decode cJ6_bitCount_0f7a4 35 = .ok (.iload_n 0, 1)) ∧ (decode cJ6_bitCount_0f7a4 36 = .ok (.bipush 8, 2)) ∧ (decode cJ6_bitCount_0f7a4 38 = .ok (.iushr, 1)) ∧ (decode cJ6_bitCount_0f7a4 39 = .ok (.iadd, 1)) ∧ (decode cJ6_bitCount_0f7a4 40 = .ok (.istore_n 0, 1)) := by decide +kernel
theorem dJ6_bitCount_0f7a4_22 : decode cJ6_bitCount_0f7a4 22 = .ok (.iadd, 1) := bdJ6_bitCount_0f7a4_22.1
theorem dJ6_bitCount_0f7a4_23 : decode cJ6_bitCount_0f7a4 23 = .ok (.istore_n 0, 1) := bdJ6_bitCount_0f7a4_22.2.1
theorem dJ6_bitCount_0f7a4_24 : decode cJ6_bitCount_0f7a4 24 = .ok (.iload_n 0, 1) := bdJ6_bitCount_0f7a4_22.2.2.1
theorem dJ6_bitCount_0f7a4_25 : decode cJ6_bitCount_0f7a4 25 = .ok (.iload_n 0, 1) := bdJ6_bitCount_0f7a4_22.2.2.2.1
theorem dJ6_bitCount_0f7a4_26 : decode cJ6_bitCount_0f7a4 26 = .ok (.iconst 4, 1) := bdJ6_bitCount_0f7a4_22.2.2.2.2.1
theorem dJ6_bitCount_0f7a4_27 : decode cJ6_bitCount_0f7a4 27 = .ok (.iushr, 1) := bdJ6_bitCount_0f7a4_22.2.2.2.2.2.1
theorem dJ6_bitCount_0f7a4_28 : decode cJ6_bitCount_0f7a4 28 = .ok (.iadd, 1) := bdJ6_bitCount_0f7a4_22.2.2.2.2.2.2.1
theorem dJ6_bitCount_0f7a4_29 : decode cJ6_bitCount_0f7a4 29 = .ok (.ldc_w 267, 3) := bdJ6_bitCount_0f7a4_22.2.2.2.2.2.2.2.1
theorem dJ6_bitCount_0f7a4_32 : decode cJ6_bitCount_0f7a4 32 = .ok (.iand, 1) := bdJ6_bitCount_0f7a4_22.2.2.2.2.2.2.2.2.1
theorem dJ6_bitCount_0f7a4_33 : decode cJ6_bitCount_0f7a4 33 = .ok (.istore_n 0, 1) := bdJ6_bitCount_0f7a4_22.2.2.2.2.2.2.2.2.2.1
theorem dJ6_bitCount_0f7a4_34 : decode cJ6_bitCount_0f7a4 34 = .ok (.iload_n 0, 1) := bdJ6_bitCount_0f7a4_22.2.2.2.2.2.2.2.2.2.2.1
theorem dJ6_bitCount_0f7a4_35 : decode cJ6_bitCount_0f7a4 35 = .ok (.iload_n 0, 1) := bdJ6_bitCount_0f7a4_22.2.2.2.2.2.2.2.2.2.2.2.1
theorem dJ6_bitCount_0f7a4_36 : decode cJ6_bitCount_0f7a4 36 = .ok (.bipush 8, 2) := bdJ6_bitCount_0f7a4_22.2.2.2.2.2.2.2.2.2.2.2.2.1
theorem dJ6_bitCount_0f7a4_38 : decode cJ6_bitCount_0f7a4 38 = .ok (.iushr, 1) := bdJ6_bitCount_0f7a4_22.2.2.2.2.2.2.2.2.2.2.2.2.2.1
theorem dJ6_bitCount_0f7a4_39 : decode cJ6_bitCount_0f7a4 39 = .ok (.iadd, 1) := bdJ6_bitCount_0f7a4_22.2.2.2.2.2.2.2.2.2.2.2.2.2.2.1
theorem dJ6_bitCount_0f7a4_40 : decode cJ6_bitCount_0f7a4 40 = .ok (.istore_n 0, 1) := bdJ6_bitCount_0f7a4_22.2.2.2.2.2.2.2.2.2.2.2.2.2.2.2
theorem bdJ6_bitCount_0f7a4_41 : (decode cJ6_bitCount_0f7a4 41 = .ok (.iload_n 0, 1)) ∧ (decode cJ6_bitCount_0f7a4 42 = .ok (.iload_n 0, 1)) ∧ (decode cJ6_bitCount_0f7a4 43 = .ok (.bipush 16, 2)) ∧ (decode cJ6_bitCount_0f7a4 45 = .ok (.iushr, 1)) ∧ (decode cJ6_bitCount_0f7a4 46 = .ok (.iadd, 1)) ∧ (decode cJ6_bitCount_0f7a4 47 = .ok (.istore_n 0, 1)) ∧ (decode cJ6_bitCount_0f7a4 48 = .ok (.iload_n 0, 1)) ∧ (decode cJ6_bitCount_0f7a4 49 = .ok (.bipush 63, 2)) ∧ (decode cJ6_bitCount_0f7a4 51 = .ok (.iand, 1)) ∧ (decode cJ6_bitCount_0f7a4 52 = .ok (.ireturn, 1)) := by decide +kernel
theorem dJ6_bitCount_0f7a4_41 : decode cJ6_bitCount_0f7a4 41 = .ok (.iload_n 0, 1) := bdJ6_bitCount_0f7a4_41.1
theorem dJ6_bitCount_0f7a4_42 : decode cJ6_bitCount_0f7a4 42 = .ok (.iload_n 0, 1) := bdJ6_bitCount_0f7a4_41.2.1
theorem dJ6_bitCount_0f7a4_43 : decode cJ6_bitCount_0f7a4 43 = .ok (.bipush 16, 2) := bdJ6_bitCount_0f7a4_41.2.2.1
theorem dJ6_bitCount_0f7a4_45 : decode cJ6_bitCount_0f7a4 45 = .ok (.iushr, 1) := bdJ6_bitCount_0f7a4_41.2.2.2.1
theorem dJ6_bitCount_0f7a4_46 : decode cJ6_bitCount_0f7a4 46 = .ok (.iadd, 1) := bdJ6_bitCount_0f7a4_41.2.2.2.2.1
theorem dJ6_bitCount_0f7a4_47 : decode cJ6_bitCount_0f7a4 47 = .ok (.istore_n 0, 1) := bdJ6_bitCount_0f7a4_41.2.2.2.2.2.1
theorem dJ6_bitCount_0f7a4_48 : decode cJ6_bitCount_0f7a4 48 = .ok (.iload_n 0, 1) := bdJ6_bitCount_0f7a4_41.2.2.2.2.2.2.1
theorem dJ6_bitCount_0f7a4_49 : decode cJ6_bitCount_0f7a4 49 = .ok (.bipush 63, 2) := bdJ6_bitCount_0f7a4_41.2.2.2.2.2.2.2.1
theorem dJ6_bitCount_0f7a4_51 : decode cJ6_bitCount_0f7a4 51 = .ok (.iand, 1) := bdJ6_bitCount_0f7a4_41.2.2.2.2.2.2.2.2.1
theorem dJ6_bitCount_0f7a4_52 : decode cJ6_bitCount_0f7a4 52 = .ok (.ireturn, 1) := bdJ6_bitCount_0f7a4_41.2.2.2.2.2.2.2.2.2
theorem bdX11_mayTurn_0 : (decode cX11_mayTurn 0 = .ok (.iload_n 1, 1)) ∧ (decode cX11_mayTurn 1 = .ok (.invokestatic 318, 3)) ∧ (decode cX11_mayTurn 4 = .ok (.istore_n 2, 1)) ∧ (decode cX11_mayTurn 5 = .ok (.iload_n 2, 1)) ∧ (decode cX11_mayTurn 6 = .ok (.iconst 1, 1)) ∧ (decode cX11_mayTurn 7 = .ok (.if_icmp .lt 15, 3)) ∧ (decode cX11_mayTurn 10 = .ok (.iload_n 2, 1)) ∧ (decode cX11_mayTurn 11 = .ok (.iconst 5, 1)) ∧ (decode cX11_mayTurn 12 = .ok (.if_icmp .gt 10, 3)) ∧ (decode cX11_mayTurn 15 = .ok (.iload_n 1, 1)) ∧ (decode cX11_mayTurn 16 = .ok (.bipush 10, 2)) ∧ (decode cX11_mayTurn 18 = .ok (.ishr, 1)) ∧ (decode cX11_mayTurn 19 = .ok (.ifCond .eq 5, 3)) ∧ (decode cX11_mayTurn 22 = .ok (.iconst 0, 1)) ∧ (decode cX11_mayTurn 23 = .ok (.ireturn, 1)) ∧ (decode cX11_mayTurn 24 = .ok (.iconst 0, 1)) := by decide +kernel
theorem dX11_mayTurn_0 : decode cX11_mayTurn 0 = .ok (.iload_n 1, 1) := bdX11_mayTurn_0.1
theorem dX11_mayTurn_1 : decode cX11_mayTurn 1 = .ok (.invokestatic 318, 3) := bdX11_mayTurn_0.2.1
theorem dX11_mayTurn_4 : decode cX11_mayTurn 4 = .ok (.istore_n 2, 1) := bdX11_mayTurn_0.2.2.1
theorem dX11_mayTurn_5 : decode cX11_mayTurn 5 = .ok (.iload_n 2, 1) := bdX11_mayTurn_0.2.2.2.1
theorem dX11_mayTurn_6 : decode cX11_mayTurn 6 = .ok (.iconst 1, 1) := bdX11_mayTurn_0.2.2.2.2.1
theorem dX11_mayTurn_7 : decode cX11_mayTurn 7 = .ok (.if_icmp .lt 15, 3) := bdX11_mayTurn_0.2.2.2.2.2.1
theorem dX11_mayTurn_10 : decode cX11_mayTurn 10 = .ok (.iload_n 2, 1) := bdX11_mayTurn_0.2.2.2.2.2.2.1
theorem dX11_mayTurn_11 : decode cX11_mayTurn 11 = .ok (.iconst 5, 1) := bdX11_mayTurn_0.2.2.2.2.2.2.2.1
theorem dX11_mayTurn_12 : decode cX11_mayTurn 12 = .ok (.if_icmp .gt 10, 3) := bdX11_mayTurn_0.2.2.2.2.2.2.2.2.1
theorem dX11_mayTurn_15 : decode cX11_mayTurn 15 = .ok (.iload_n 1, 1) := bdX11_mayTurn_0.2.2.2.2.2.2.2.2.2.1
theorem dX11_mayTurn_16 : decode cX11_mayTurn 16 = .ok (.bipush 10, 2) := bdX11_mayTurn_0.2.2.2.2.2.2.2.2.2.2.1
theorem dX11_mayTurn_18 : decode cX11_mayTurn 18 = .ok (.ishr, 1) := bdX11_mayTurn_0.2.2.2.2.2.2.2.2.2.2.2.1
theorem dX11_mayTurn_19 : decode cX11_mayTurn 19 = .ok (.ifCond .eq 5, 3) := bdX11_mayTurn_0.2.2.2.2.2.2.2.2.2.2.2.2.1
theorem dX11_mayTurn_22 : decode cX11_mayTurn 22 = .ok (.iconst 0, 1) := bdX11_mayTurn_0.2.2.2.2.2.2.2.2.2.2.2.2.2.1
theorem dX11_mayTurn_23 : decode cX11_mayTurn 23 = .ok (.ireturn, 1) := bdX11_mayTurn_0.2.2.2.2.2.2.2.2.2.2.2.2.2.2.1
theorem dX11_mayTurn_24 : decode cX11_mayTurn 24 = .ok (.iconst 0, 1) := bdX11_mayTurn_0.2.2.2.2.2.2.2.2.2.2.2.2.2.2.2
theorem bdX11_mayTurn_25 : (decode cX11_mayTurn 25 = .ok (.istore_n 3, 1)) ∧ (decode cX11_mayTurn 26 = .ok (.iload_n 3, 1)) ∧ (decode cX11_mayTurn 27 = .ok (.bipush 10, 2)) ∧ (decode cX11_mayTurn 29 = .ok (.if_icmp .ge 31, 3)) ∧ (decode cX11_mayTurn 32 = .ok (.iload_n 1, 1)) ∧ (decode cX11_mayTurn 33 = .ok (.iload_n 3, 1)) ∧ (decode cX11_mayTurn 34 = .ok (.ishr, 1)) ∧ (decode cX11_mayTurn 35 = .ok (.iconst 1, 1)) ∧ (decode cX11_mayTurn 36 = .ok (.iand, 1)) ∧ (decode cX11_mayTurn 37 = .ok (.iconst 1, 1)) ∧ (decode cX11_mayTurn 38 = .ok (.if_icmp .ne 16, 3)) ∧ (decode cX11_mayTurn 41 = .ok (.aload_n 0, 1)) ∧ (decode cX11_mayTurn 42 = .ok (.getfield 10, 3)) ∧ (decode cX11_mayTurn 45 = .ok (.iload_n 3, 1)) ∧ (decode cX11_mayTurn 46 = .ok (.invokevirtual 84, 3)) ∧ (decode cX11_mayTurn 49 = .ok (.ifCond .ne 5, 3)) := by decide +kernel
theorem dX11_mayTurn_25 : decode cX11_mayTurn 25 = .ok (.istore_n 3, 1) := bdX11_mayTurn_25.1
theorem dX11_mayTurn_26 : decode cX11_mayTurn 26 = .ok (.iload_n 3, 1) := bdX11_mayTurn_25.2.1
theorem dX11_mayTurn_27 : decode cX11_mayTurn 27 = .ok (.bipush 10, 2) := bdX11_mayTurn_25.2.2.1
theorem dX11_mayTurn_29 : decode cX11_mayTurn 29 = .ok (.if_icmp .ge 31, 3) := bdX11_mayTurn_25.2.2.2.1
theorem dX11_mayTurn_32 : decode cX11_mayTurn 32 = .ok (.iload_n 1, 1) := bdX11_mayTurn_25.2.2.2.2.1
theorem dX11_mayTurn_33 : decode cX11_mayTurn 33 = .ok (.iload_n 3, 1) := bdX11_mayTurn_25.2.2.2.2.2.1
theorem dX11_mayTurn_34 : decode cX11_mayTurn 34 = .ok (.ishr, 1) := bdX11_mayTurn_25.2.2.2.2.2.2.1
theorem dX11_mayTurn_35 : decode cX11_mayTurn 35 = .ok (.iconst 1, 1) := bdX11_mayTurn_25.2.2.2.2.2.2.2.1
theorem dX11_mayTurn_36 : decode cX11_mayTurn 36 = .ok (.iand, 1) := bdX11_mayTurn_25.2.2.2.2.2.2.2.2.1
theorem dX11_mayTurn_37 : decode cX11_mayTurn 37 = .ok (.iconst 1, 1) := bdX11_mayTurn_25.2.2.2.2.2.2.2.2.2.1
theorem dX11_mayTurn_38 : decode cX11_mayTurn 38 = .ok (.if_icmp .ne 16, 3) := bdX11_mayTurn_25.2.2.2.2.2.2.2.2.2.2.1
theorem dX11_mayTurn_41 : decode cX11_mayTurn 41 = .ok (.aload_n 0, 1) := bdX11_mayTurn_25.2.2.2.2.2.2.2.2.2.2.2.1
theorem dX11_mayTurn_42 : decode cX11_mayTurn 42 = .ok (.getfield 10, 3) := bdX11_mayTurn_25.2.2.2.2.2.2.2.2.2.2.2.2.1
theorem dX11_mayTurn_45 : decode cX11_mayTurn 45 = .ok (.iload_n 3, 1) := bdX11_mayTurn_25.2.2.2.2.2.2.2.2.2.2.2.2.2.1
theorem dX11_mayTurn_46 : decode cX11_mayTurn 46 = .ok (.invokevirtual 84, 3) := bdX11_mayTurn_25.2.2.2.2.2.2.2.2.2.2.2.2.2.2.1
theorem dX11_mayTurn_49 : decode cX11_mayTurn 49 = .ok (.ifCond .ne 5, 3) := bdX11_mayTurn_25.2.2.2.2.2.2.2.2.2.2.2.2.2.2.2
theorem bdX11_mayTurn_52 : (decode cX11_mayTurn 52 = .ok (.iconst 0, 1)) ∧ (decode cX11_mayTurn 53 = .ok (.ireturn, 1)) ∧ (decode cX11_mayTurn 54 = .ok (.iinc 3 1, 3)) ∧ (decode cX11_mayTurn 57 = .ok (.goto (-31), 3)) ∧ (decode cX11_mayTurn 60 = .ok (.iconst 1, 1)) ∧ (decode cX11_mayTurn 61 = .ok (.ireturn, 1)) := by decide +kernel
theorem dX11_mayTurn_52 : decode cX11_mayTurn 52 = .ok (.iconst 0, 1) := bdX11_mayTurn_52.1
theorem dX11_mayTurn_53 : decode cX11_mayTurn 53 = .ok (.ireturn, 1) := bdX11_mayTurn_52.2.1
theorem dX11_mayTurn_54 : decode cX11_mayTurn 54 = .ok (.iinc 3 1, 3) := bdX11_mayTurn_52.2.2.1
theorem dX11_mayTurn_57 : decode cX11_mayTurn 57 = .ok (.goto (-31), 3) := bdX11_mayTurn_52.2.2.2.1
theorem dX11_mayTurn_60 : decode cX11_mayTurn 60 = .ok (.iconst 1, 1) := bdX11_mayTurn_52.2.2.2.2.1
theorem dX11_mayTurn_61 : decode cX11_mayTurn 61 = .ok (.ireturn, 1) := bdX11_mayTurn_52.2.2.2.2.2
theorem bdX2_copy_0 : (decode cX2_copy 0 = .ok (.aload_n 0, 1)) ∧ (decode cX2_copy 1 = .ok (.aload_n 1, 1)) ∧ (decode cX2_copy 2 = .ok (.getfield 18, 3)) ∧ (decode cX2_copy 5 = .ok (.putfield 18, 3)) ∧ (decode cX2_copy 8 = .ok (.aload_n 0, 1)) ∧ (decode cX2_copy 9 = .ok (.aload_n 1, 1)) ∧ (decode cX2_copy 10 = .ok (.getfield 22, 3)) ∧ (decode cX2_copy 13 = .ok (.putfield 22, 3)) ∧ (decode cX2_copy 16 = .ok (.aload_n 0, 1)) ∧ (decode cX2_copy 17 = .ok (.aload_n 1, 1)) ∧ (decode cX2_copy 18 = .ok (.getfield 25, 3)) ∧ (decode cX2_copy 21 = .ok (.putfield 25, 3)) ∧ (decode cX2_copy 24 = .ok (.aload_n 0, 1)) ∧ (decode cX2_copy 25 = .ok (.aload_n 1, 1)) ∧ (decode cX2_copy 26 = .ok (.getfield 28, 3)) ∧ (decode cX2_copy 29 = .ok (.putfield 28, 3)) := by decide +kernel
theorem dX2_copy_0 : decode cX2_copy 0 = .ok (.aload_n 0, 1) := bdX2_copy_0.1
theorem dX2_copy_1 : decode cX2_copy 1 = .ok (.aload_n 1, 1) := bdX2_copy_0.2.1
theorem dX2_copy_2 : decode cX2_copy 2 = .ok (.getfield 18, 3) := bdX2_copy_0.2.2.1
theorem dX2_copy_5 : decode cX2_copy 5 = .ok (.putfield 18, 3) := bdX2_copy_0.2.2.2.1
theorem dX2_copy_8 : decode cX2_copy 8 = .ok (.aload_n 0, 1) := bdX2_copy_0.2.2.2.2.1
theorem dX2_copy_9 : decode cX2_copy 9 = .ok (.aload_n 1, 1) := bdX2_copy_0.2.2.2.2.2.1
theorem dX2_copy_10 : decode cX2_copy 10 = .ok (.getfield 22, 3) := bdX2_copy_0.2.2.2.2.2.2.1
theorem dX2_copy_13 : decode cX2_copy 13 = .ok (.putfield 22, 3) := bdX2_copy_0.2.2.2.2.2.2.2.1
theorem dX2_copy_16 : decode cX2_copy 16 = .ok (.aload_n 0, 1) := bdX2_copy_0.2.2.2.2.2.2.2.2.1
theorem dX2_copy_17 : decode cX2_copy 17 = .ok (.aload_n 1, 1) := bdX2_copy_0.2.2.2.2.2.2.2.2.2.1
theorem dX2_copy_18 : decode cX2_copy 18 = .ok (.getfield 25, 3) := bdX2_copy_0.2.2.2.2.2.2.2.2.2.2.1
theorem dX2_copy_21 : decode cX2_copy 21 = .ok (.putfield 25, 3) := bdX2_copy_0.2.2.2.2.2.2.2.2.2.2.2.1
theorem dX2_copy_24 : decode cX2_copy 24 = .ok (.aload_n 0, 1) := bdX2_copy_0.2.2.2.2.2.2.2.2.2.2.2.2.1
theorem dX2_copy_25 : decode cX2_copy 25 = .ok (.aload_n 1, 1) := bdX2_copy_0.2.2.2.2.2.2.2.2.2.2.2.2.2.1
theorem dX2_copy_26 : decode cX2_copy 26 = .ok (.getfield 28, 3) := bdX2_copy_0.2.2.2.2.2.2.2.2.2.2.2.2.2.2.1
theorem dX2_copy_29 : decode cX2_copy 29 = .ok (.putfield 28, 3) := bdX2_copy_0.2.2.2.2.2.2.2.2.2.2.2.2.2.2.2
theorem bdX2_copy_32 : (decode cX2_copy 32 = .ok (.aload_n 0, 1)) ∧ (decode cX2_copy 33 = .ok (.aload_n 1, 1)) ∧ (decode cX2_copy 34 = .ok (.getfield 31, 3)) ∧ (decode cX2_copy 37 = .ok (.putfield 31, 3)) ∧ (decode cX2_copy 40 = .ok (.aload_n 0, 1)) ∧ (decode cX2_copy 41 = .ok (.aload_n 1, 1)) ∧ (decode cX2_copy 42 = .ok (.getfield 34, 3)) ∧ (decode cX2_copy 45 = .ok (.putfield 34, 3)) ∧ (decode cX2_copy 48 = .ok (.aload_n 0, 1)) ∧ (decode cX2_copy 49 = .ok (.aload_n 1, 1)) ∧ (decode cX2_copy 50 = .ok (.getfield 37, 3)) ∧ (decode cX2_copy 53 = .ok (.putfield 37, 3)) ∧ (decode cX2_copy 56 = .ok (.aload_n 1, 1)) ∧ (decode cX2_copy 57 = .ok (.getfield 9, 3)) ∧ (decode cX2_copy 60 = .ok (.iconst 0, 1)) ∧ (decode cX2_copy 61 = .ok (.aload_n 0, 1)) := by decide +kernel
theorem dX2_copy_32 : decode cX2_copy 32 = .ok (.aload_n 0, 1) := bdX2_copy_32.1
theorem dX2_copy_33 : decode cX2_copy 33 = .ok (.aload_n 1, 1) := bdX2_copy_32.2.1
theorem dX2_copy_34 : decode cX2_copy 34 = .ok (.getfield 31, 3) := bdX2_copy_32.2.2.1
theorem dX2_copy_37 : decode cX2_copy 37 = .ok (.putfield 31, 3) := bdX2_copy_32.2.2.2.1
theorem dX2_copy_40 : decode cX2_copy 40 = .ok (.aload_n 0, 1) := bdX2_copy_32.2.2.2.2.1
theorem dX2_copy_41 : decode cX2_copy 41 = .ok (.aload_n 1, 1) := bdX2_copy_32.2.2.2.2.2.1
theorem dX2_copy_42 : decode cX2_copy 42 = .ok (.getfield 34, 3) := bdX2_copy_32.2.2.2.2.2.2.1
theorem dX2_copy_45 : decode cX2_copy 45 = .ok (.putfield 34, 3) := bdX2_copy_32.2.2.2.2.2.2.2.1
theorem dX2_copy_48 : decode cX2_copy 48 = .ok (.aload_n 0, 1) := bdX2_copy_32.2.2.2.2.2.2.2.2.1
theorem dX2_copy_49 : decode cX2_copy 49 = .ok (.aload_n 1, 1) := bdX2_copy_32.2.2.2.2.2.2.2.2.2.1
theorem dX2_copy_50 : decode cX2_copy 50 = .ok (.getfield 37, 3) := bdX2_copy_32.2.2.2.2.2.2.2.2.2.2.1
theorem dX2_copy_53 : decode cX2_copy 53 = .ok (.putfield 37, 3) := bdX2_copy_32.2.2.2.2.2.2.2.2.2.2.2.1
theorem dX2_copy_56 : decode cX2_copy 56 = .ok (.aload_n 1, 1) := bdX2_copy_32.2.2.2.2.2.2.2.2.2.2.2.2.1
theorem dX2_copy_57 : decode cX2_copy 57 = .ok (.getfield 9, 3) := bdX2_copy_32.2.2.2.2.2.2.2.2.2.2.2.2.2.1
theorem dX2_copy_60 : decode cX2_copy 60 = .ok (.iconst 0, 1) := bdX2_copy_32.2.2.2.2.2.2.2.2.2.2.2.2.2.2.1
theorem dX2_copy_61 : decode cX2_copy 61 = .ok (.aload_n 0, 1) := bdX2_copy_32.2.2.2.2.2.2.2.2.2.2.2.2.2.2.2
theorem bdX2_copy_62 : (decode cX2_copy 62 = .ok (.getfield 9, 3)) ∧ (decode cX2_copy 65 = .ok (.iconst 0, 1)) ∧ (decode cX2_copy 66 = .ok (.aload_n 0, 1)) ∧ (decode cX2_copy 67 = .ok (.getfield 9, 3)) ∧ (decode cX2_copy 70 = .ok (.arraylength, 1)) ∧ (decode cX2_copy 71 = .ok (.invokestatic 47, 3)) ∧ (decode cX2_copy 74 = .ok (.aload_n 1, 1)) ∧ (decode cX2_copy 75 = .ok (.getfield 15, 3)) ∧ (decode cX2_copy 78 = .ok (.iconst 0, 1)) ∧ (decode cX2_copy 79 = .ok (.aload_n 0, 1)) ∧ (decode cX2_copy 80 = .ok (.getfield 15, 3)) ∧ (decode cX2_copy 83 = .ok (.iconst 0, 1)) ∧ (decode cX2_copy 84 = .ok (.aload_n 0, 1)) ∧ (decode cX2_copy 85 = .ok (.getfield 15, 3)) ∧ (decode cX2_copy 88 = .ok (.arraylength, 1)) ∧ (decode cX2_copy 89 = .ok (.invokestatic 47, 3)) := by decide +kernel
theorem dX2_copy_62 : decode cX2_copy 62 = .ok (.getfield 9, 3) := bdX2_copy_62.1
theorem dX2_copy_65 : decode cX2_copy 65 = .ok (.iconst 0, 1) := bdX2_copy_62.2.1
theorem dX2_copy_66 : decode cX2_copy 66 = .ok (.aload_n 0, 1) := bdX2_copy_62.2.2.1
theorem dX2_copy_67 : decode cX2_copy 67 = .ok (.getfield 9, 3) := bdX2_copy_62.2.2.2.1
theorem dX2_copy_70 : decode cX2_copy 70 = .ok (.arraylength, 1) := bdX2_copy_62.2.2.2.2.1
theorem dX2_copy_71 : decode cX2_copy 71 = .ok (.invokestatic 47, 3) := bdX2_copy_62.2.2.2.2.2.1
theorem dX2_copy_74 : decode cX2_copy 74 = .ok (.aload_n 1, 1) := bdX2_copy_62.2.2.2.2.2.2.1
theorem dX2_copy_75 : decode cX2_copy 75 = .ok (.getfield 15, 3) := bdX2_copy_62.2.2.2.2.2.2.2.1
theorem dX2_copy_78 : decode cX2_copy 78 = .ok (.iconst 0, 1) := bdX2_copy_62.2.2.2.2.2.2.2.2.1
theorem dX2_copy_79 : decode cX2_copy 79 = .ok (.aload_n 0, 1) := bdX2_copy_62.2.2.2.2.2.2.2.2.2.1
theorem dX2_copy_80 : decode cX2_copy 80 = .ok (.getfield 15, 3) := bdX2_copy_62.2.2.2.2.2.2.2.2.2.2.1
theorem dX2_copy_83 : decode cX2_copy 83 = .ok (.iconst 0, 1) := bdX2_copy_62.2.2.2.2.2.2.2.2.2.2.2.1
theorem dX2_copy_84 : decode cX2_copy 84 = .ok (.aload_n 0, 1) := bdX2_copy_62.2.2.2.2.2.2.2.2.2.2.2.2.1
theorem dX2_copy_85 : decode cX2_copy 85 = .ok (.getfield 15, 3) := bdX2_copy_62.2.2.2.2.2.2.2.2.2.2.2.2.2.1
theorem dX2_copy_88 : decode cX2_copy 88 = .ok (.arraylength, 1) := bdX2_copy_62.2.2.2.2.2.2.2.2.2.2.2.2.2.2.1
theorem dX2_copy_89 : decode cX2_copy 89 = .ok (.invokestatic 47, 3) := bdX2_copy_62.2.2.2.2.2.2.2.2.2.2.2.2.2.2.2
theorem dX2_copy_92 : decode cX2_copy 92 = .ok (.return_, 1) := by decide +kernel
theorem bdX3_copy_0 : (decode cX3_copy 0 = .ok (.aload_n 0, 1)) ∧ (decode cX3_copy 1 = .ok (.aload_n 1, 1)) ∧ (decode cX3_copy 2 = .ok (.getfield 15, 3)) ∧ (decode cX3_copy 5 = .ok (.putfield 15, 3)) ∧ (decode cX3_copy 8 = .ok (.aload_n 0, 1)) ∧ (decode cX3_copy 9 = .ok (.aload_n 1, 1)) ∧ (decode cX3_copy 10 = .ok (.getfield 19, 3)) ∧ (decode cX3_copy 13 = .ok (.putfield 19, 3)) ∧ (decode cX3_copy 16 = .ok (.aload_n 0, 1)) ∧ (decode cX3_copy 17 = .ok (.aload_n 1, 1)) ∧ (decode cX3_copy 18 = .ok (.getfield 22, 3)) ∧ (decode cX3_copy 21 = .ok (.putfield 22, 3)) ∧ (decode cX3_copy 24 = .ok (.aload_n 0, 1)) ∧ (decode cX3_copy 25 = .ok (.aload_n 1, 1)) ∧ (decode cX3_copy 26 = .ok (.getfield 25, 3)) ∧ (decode cX3_copy 29 = .ok (.putfield 25, 3)) := by decide +kernel
theorem dX3_copy_0 : decode cX3_copy 0 = .ok (.aload_n 0, 1) := bdX3_copy_0.1
theorem dX3_copy_1 : decode cX3_copy 1 = .ok (.aload_n 1, 1) := bdX3_copy_0.2.1
theorem dX3_copy_2 : decode cX3_copy 2 = .ok (.getfield 15, 3) := bdX3_copy_0.2.2.1
theorem dX3_copy_5 : decode cX3_copy 5 = .ok (.putfield 15, 3) := bdX3_copy_0.2.2.2.1
theorem dX3_copy_8 : decode cX3_copy 8 = .ok (.aload_n 0, 1) := bdX3_copy_0.2.2.2.2.1
theorem dX3_copy_9 : decode cX3_copy 9 = .ok (.aload_n 1, 1) := bdX3_copy_0.2.2.2.2.2.1
theorem dX3_copy_10 : decode cX3_copy 10 = .ok (.getfield 19, 3) := bdX3_copy_0.2.2.2.2.2.2.1
theorem dX3_copy_13 : decode cX3_copy 13 = .ok (.putfield 19, 3) := bdX3_copy_0.2.2.2.2.2.2.2.1
theorem dX3_copy_16 : decode cX3_copy 16 = .ok (.aload_n 0, 1) := bdX3_copy_0.2.2.2.2.2.2.2.2.1
theorem dX3_copy_17 : decode cX3_copy 17 = .ok (.aload_n 1, 1) := bdX3_copy_0.2.2.2.2.2.2.2.2.2.1
theorem dX3_copy_18 : decode cX3_copy 18 = .ok (.getfield 22, 3) := bdX3_copy_0.2.2.2.2.2.2.2.2.2.2.1
theorem dX3_copy_21 : decode cX3_copy 21 = .ok (.putfield 22, 3) := bdX3_copy_0.2.2.2.2.2.2.2.2.2.2.2.1
theorem dX3_copy_24 : decode cX3_copy 24 = .ok (.aload_n 0, 1) := bdX3_copy_0.2.2.2.2.2.2.2.2.2.2.2.2.1
theorem dX3_copy_25 : decode cX3_copy 25 = .ok (.aload_n 1, 1) := bdX3_copy_0.2.2.2.2.2.2.2.2.2.2.2.2.2.1
theorem dX3_copy_26 : decode cX3_copy 26 = .ok (.getfield 25, 3) := bdX3_copy_0.2.2.2.2.2.2.2.2.2.2.2.2.2.2.1
theorem dX3_copy_29 : decode cX3_copy 29 = .ok (.putfield 25, 3) := bdX3_copy_0.2.2.2.2.2.2.2.2.2.2.2.2.2.2.2
theorem bdX3_copy_32 : (decode cX3_copy 32 = .ok (.aload_n 0, 1)) ∧ (decode cX3_copy 33 = .ok (.aload_n 1, 1)) ∧ (decode cX3_copy 34 = .ok (.getfield 28, 3)) ∧ (decode cX3_copy 37 = .ok (.putfield 28, 3)) ∧ (decode cX3_copy 40 = .ok (.aload_n 0, 1)) ∧ (decode cX3_copy 41 = .ok (.aload_n 1, 1)) ∧ (decode cX3_copy 42 = .ok (.getfield 31, 3)) ∧ (decode cX3_copy 45 = .ok (.putfield 31, 3)) ∧ (decode cX3_copy 48 = .ok (.aload_n 0, 1)) ∧ (decode cX3_copy 49 = .ok (.aload_n 1, 1)) ∧ (decode cX3_copy 50 = .ok (.getfield 34, 3)) ∧ (decode cX3_copy 53 = .ok (.putfield 34, 3)) ∧ (decode cX3_copy 56 = .ok (.aload_n 0, 1)) ∧ (decode cX3_copy 57 = .ok (.aload_n 1, 1)) ∧ (decode cX3_copy 58 = .ok (.getfield 37, 3)) ∧ (decode cX3_copy 61 = .ok (.putfield 37, 3)) := by decide +kernel
theorem dX3_copy_32 : decode cX3_copy 32 = .ok (.aload_n 0, 1) := bdX3_copy_32.1
theorem dX3_copy_33 : decode cX3_copy 33 = .ok (.aload_n 1, 1) := bdX3_copy_32.2.1
theorem dX3_copy_34 : decode cX3_copy 34 = .ok (.getfield 28, 3) := bdX3_copy_32.2.2.1
theorem dX3_copy_37 : decode cX3_copy 37 = .ok (.putfield 28, 3) := bdX3_copy_32.2.2.2.1
theorem dX3_copy_40 : decode cX3_copy 40 = .ok (.aload_n 0, 1) := bdX3_copy_32.2.2.2.2.1
theorem dX3_copy_41 : decode cX3_copy 41 = .ok (.aload_n 1, 1) := bdX3_copy_32.2.2.2.2.2.1
theorem dX3_copy_42 : decode cX3_copy 42 = .ok (.getfield 31, 3) := bdX3_copy_32.2.2.2.2.2.2.1
theorem dX3_copy_45 : decode cX3_copy 45 = .ok (.putfield 31, 3) := bdX3_copy_32.2.2.2.2.2.2.2.1
theorem dX3_copy_48 : decode cX3_copy 48 = .ok (.aload_n 0, 1) := bdX3_copy_32.2.2.2.2.2.2.2.2.1
theorem dX3_copy_49 : decode cX3_copy 49 = .ok (.aload_n 1, 1) := bdX3_copy_32.2.2.2.2.2.2.2.2.2.1
theorem dX3_copy_50 : decode cX3_copy 50 = .ok (.getfield 34, 3) := bdX3_copy_32.2.2.2.2.2.2.2.2.2.2.1
theorem dX3_copy_53 : decode cX3_copy 53 = .ok (.putfield 34, 3) := bdX3_copy_32.2.2.2.2.2.2.2.2.2.2.2.1
theorem dX3_copy_56 : decode cX3_copy 56 = .ok (.aload_n 0, 1) := bdX3_copy_32.2.2.2.2.2.2.2.2.2.2.2.2.1
theorem dX3_copy_57 : decode cX3_copy 57 = .ok (.aload_n 1, 1) := bdX3_copy_32.2.2.2.2.2.2.2.2.2.2.2.2.2.1
theorem dX3_copy_58 : decode cX3_copy 58 = .ok (.getfield 37, 3) := bdX3_copy_32.2.2.2.2.2.2.2.2.2.2.2.2.2.2.1
theorem dX3_copy_61 : decode cX3_copy 61 = .ok (.putfield 37, 3) := bdX3_copy_32.2.2.2.2.2.2.2.2.2.2.2.2.2.2.2
theorem bdX3_copy_64 : (decode cX3_copy 64 = .ok (.aload_n 0, 1)) ∧ (decode cX3_copy 65 = .ok (.aload_n 1, 1)) ∧ (decode cX3_copy 66 = .ok (.getfield 40, 3)) ∧ (decode cX3_copy 69 = .ok (.putfield 40, 3)) ∧ (decode cX3_copy 72 = .ok (.aload_n 0, 1)) ∧ (decode cX3_copy 73 = .ok (.aload_n 1, 1)) ∧ (decode cX3_copy 74 = .ok (.getfield 43, 3)) ∧ (decode cX3_copy 77 = .ok (.putfield 43, 3)) ∧ (decode cX3_copy 80 = .ok (.aload_n 0, 1)) ∧ (decode cX3_copy 81 = .ok (.aload_n 1, 1)) ∧ (decode cX3_copy 82 = .ok (.getfield 46, 3)) ∧ (decode cX3_copy 85 = .ok (.putfield 46, 3)) ∧ (decode cX3_copy 88 = .ok (.aload_n 0, 1)) ∧ (decode cX3_copy 89 = .ok (.aload_n 1, 1)) ∧ (decode cX3_copy 90 = .ok (.getfield 49, 3)) ∧ (decode cX3_copy 93 = .ok (.putfield 49, 3)) := by decide +kernel
theorem dX3_copy_64 : decode cX3_copy 64 = .ok (.aload_n 0, 1) := bdX3_copy_64.1
theorem dX3_copy_65 : decode cX3_copy 65 = .ok (.aload_n 1, 1) := bdX3_copy_64.2.1
theorem dX3_copy_66 : decode cX3_copy 66 = .ok (.getfield 40, 3) := bdX3_copy_64.2.2.1
theorem dX3_copy_69 : decode cX3_copy 69 = .ok (.putfield 40, 3) := bdX3_copy_64.2.2.2.1
theorem dX3_copy_72 : decode cX3_copy 72 = .ok (.aload_n 0, 1) := bdX3_copy_64.2.2.2.2.1
theorem dX3_copy_73 : decode cX3_copy 73 = .ok (.aload_n 1, 1) := bdX3_copy_64.2.2.2.2.2.1
theorem dX3_copy_74 : decode cX3_copy 74 = .ok (.getfield 43, 3) := bdX3_copy_64.2.2.2.2.2.2.1
theorem dX3_copy_77 : decode cX3_copy 77 = .ok (.putfield 43, 3) := bdX3_copy_64.2.2.2.2.2.2.2.1
theorem dX3_copy_80 : decode cX3_copy 80 = .ok (.aload_n 0, 1) := bdX3_copy_64.2.2.2.2.2.2.2.2.1
theorem dX3_copy_81 : decode cX3_copy 81 = .ok (.aload_n 1, 1) := bdX3_copy_64.2.2.2.2.2.2.2.2.2.1
theorem dX3_copy_82 : decode cX3_copy 82 = .ok (.getfield 46, 3) := bdX3_copy_64.2.2.2.2.2.2.2.2.2.2.1
theorem dX3_copy_85 : decode cX3_copy 85 = .ok (.putfield 46, 3) := bdX3_copy_64.2.2.2.2.2.2.2.2.2.2.2.1
theorem dX3_copy_88 : decode cX3_copy 88 = .ok (.aload_n 0, 1) := bdX3_copy_64.2.2.2.2.2.2.2.2.2.2.2.2.1
theorem dX3_copy_89 : decode cX3_copy 89 = .ok (.aload_n 1, 1) := bdX3_copy_64.2.2.2.2.2.2.2.2.2.2.2.2.2.1
theorem dX3_copy_90 : decode cX3_copy 90 = .ok (.getfield 49, 3) := bdX3_copy_64.2.2.2.2.2.2.2.2.2.2.2.2.2.2.1
theorem dX3_copy_93 : decode cX3_copy 93 = .ok (.putfield 49, 3) := bdX3_copy_64.2.2.2.2.2.2.2.2.2.2.2.2.2.2.2
theorem bdX3_copy_96 : (decode cX3_copy 96 = .ok (.aload_n 0, 1)) ∧ (decode cX3_copy 97 = .ok (.aload_n 1, 1)) ∧ (decode cX3_copy 98 = .ok (.getfield 53, 3)) ∧ (decode cX3_copy 101 = .ok (.putfield 53, 3)) ∧ (decode cX3_copy 104 = .ok (.aload_n 1, 1)) ∧ (decode cX3_copy 105 = .ok (.getfield 9, 3)) ∧ (decode cX3_copy 108 = .ok (.iconst 0, 1)) ∧ (decode cX3_copy 109 = .ok (.aload_n 0, 1)) ∧ (decode cX3_copy 110 = .ok (.getfield 9, 3)) ∧ (decode cX3_copy 113 = .ok (.iconst 0, 1)) ∧ (decode cX3_copy 114 = .ok (.aload_n 0, 1)) ∧ (decode cX3_copy 115 = .ok (.getfield 9, 3)) ∧ (decode cX3_copy 118 = .ok (.arraylength, 1)) ∧ (decode cX3_copy 119 = .ok (.invokestatic 62, 3)) ∧ (decode cX3_copy 122 = .ok (.return_, 1)) := by decide +kernel
theorem dX3_copy_96 : decode cX3_copy 96 = .ok (.aload_n 0, 1) := bdX3_copy_96.1
theorem dX3_copy_97 : decode cX3_copy 97 = .ok (.aload_n 1, 1) := bdX3_copy_96.2.1
theorem dX3_copy_98 : decode cX3_copy 98 = .ok (.getfield 53, 3) := bdX3_copy_96.2.2.1
theorem dX3_copy_101 : decode cX3_copy 101 = .ok (.putfield 53, 3) := bdX3_copy_96.2.2.2.1
theorem dX3_copy_104 : decode cX3_copy 104 = .ok (.aload_n 1, 1) := bdX3_copy_96.2.2.2.2.1
theorem dX3_copy_105 : decode cX3_copy 105 = .ok (.getfield 9, 3) := bdX3_copy_96.2.2.2.2.2.1
theorem dX3_copy_108 : decode cX3_copy 108 = .ok (.iconst 0, 1) := bdX3_copy_96.2.2.2.2.2.2.1
theorem dX3_copy_109 : decode cX3_copy 109 = .ok (.aload_n 0, 1) := bdX3_copy_96.2.2.2.2.2.2.2.1
theorem dX3_copy_110 : decode cX3_copy 110 = .ok (.getfield 9, 3) := bdX3_copy_96.2.2.2.2.2.2.2.2.1
theorem dX3_copy_113 : decode cX3_copy 113 = .ok (.iconst 0, 1) := bdX3_copy_96.2.2.2.2.2.2.2.2.2.1
theorem dX3_copy_114 : decode cX3_copy 114 = .ok (.aload_n 0, 1) := bdX3_copy_96.2.2.2.2.2.2.2.2.2.2.1
theorem dX3_copy_115 : decode cX3_copy 115 = .ok (.getfield 9, 3) := bdX3_copy_96.2.2.2.2.2.2.2.2.2.2.2.1
theorem dX3_copy_118 : decode cX3_copy 118 = .ok (.arraylength, 1) := bdX3_copy_96.2.2.2.2.2.2.2.2.2.2.2.2.1
theorem dX3_copy_119 : decode cX3_copy 119 = .ok (.invokestatic 62, 3) := bdX3_copy_96.2.2.2.2.2.2.2.2.2.2.2.2.2.1
theorem dX3_copy_122 : decode cX3_copy 122 = .ok (.return_, 1) := bdX3_copy_96.2.2.2.2.2.2.2.2.2.2.2.2.2.2
theorem bdX0_copy_0 : (decode cX0_copy 0 = .ok (.aload_n 0, 1)) ∧ (decode cX0_copy 1 = .ok (.aload_n 1, 1)) ∧ (decode cX0_copy 2 = .ok (.getfield 7, 3)) ∧ (decode cX0_copy 5 = .ok (.putfield 7, 3)) ∧ (decode cX0_copy 8 = .ok (.aload_n 0, 1)) ∧ (decode cX0_copy 9 = .ok (.aload_n 1, 1)) ∧ (decode cX0_copy 10 = .ok (.getfield 13, 3)) ∧ (decode cX0_copy 13 = .ok (.putfield 13, 3)) ∧ (decode cX0_copy 16 = .ok (.aload_n 0, 1)) ∧ (decode cX0_copy 17 = .ok (.aload_n 1, 1)) ∧ (decode cX0_copy 18 = .ok (.getfield 16, 3)) ∧ (decode cX0_copy 21 = .ok (.putfield 16, 3)) ∧ (decode cX0_copy 24 = .ok (.aload_n 0, 1)) ∧ (decode cX0_copy 25 = .ok (.aload_n 1, 1)) ∧ (decode cX0_copy 26 = .ok (.getfield 19, 3)) ∧ (decode cX0_copy 29 = .ok (.putfield 19, 3)) := by decide +kernel
theorem dX0_copy_0 : decode cX0_copy 0 = .ok (.aload_n 0, 1) := bdX0_copy_0.1
theorem dX0_copy_1 : decode cX0_copy 1 = .ok (.aload_n 1, 1) := bdX0_copy_0.2.1
theorem dX0_copy_2 : decode cX0_copy 2 = .ok (.getfield 7, 3) := bdX0_copy_0.2.2.1
theorem dX0_copy_5 : decode cX0_copy 5 = .ok (.putfield 7, 3) := bdX0_copy_0.2.2.2.1
theorem dX0_copy_8 : decode cX0_copy 8 = .ok (.aload_n 0, 1) := bdX0_copy_0.2.2.2.2.1
theorem dX0_copy_9 : decode cX0_copy 9 = .ok (.aload_n 1, 1) := bdX0_copy_0.2.2.2.2.2.1
theorem dX0_copy_10 : decode cX0_copy 10 = .ok (.getfield 13, 3) := bdX0_copy_0.2.2.2.2.2.2.1
theorem dX0_copy_13 : decode cX0_copy 13 = .ok (.putfield 13, 3) := bdX0_copy_0.2.2.2.2.2.2.2.1
theorem dX0_copy_16 : decode cX0_copy 16 = .ok (.aload_n 0, 1) := bdX0_copy_0.2.2.2.2.2.2.2.2.1
theorem dX0_copy_17 : decode cX0_copy 17 = .ok (.aload_n 1, 1) := bdX0_copy_0.2.2.2.2.2.2.2.2.2.1
theorem dX0_copy_18 : decode cX0_copy 18 = .ok (.getfield 16, 3) := bdX0_copy_0.2.2.2.2.2.2.2.2.2.2.1
theorem dX0_copy_21 : decode cX0_copy 21 = .ok (.putfield 16, 3) := bdX0_copy_0.2.2.2.2.2.2.2.2.2.2.2.1
theorem dX0_copy_24 : decode cX0_copy 24 = .ok (.aload_n 0, 1) := bdX0_copy_0.2.2.2.2.2.2.2.2.2.2.2.2.1
theorem dX0_copy_25 : decode cX0_copy 25 = .ok (.aload_n 1, 1) := bdX0_copy_0.2.2.2.2.2.2.2.2.2.2.2.2.2.1
theorem dX0_copy_26 : decode cX0_copy 26 = .ok (.getfield 19, 3) := bdX0_copy_0.2.2.2.2.2.2.2.2.2.2.2.2.2.2.1
theorem dX0_copy_29 : decode cX0_copy 29 = .ok (.putfield 19, 3) := bdX0_copy_0.2.2.2.2.2.2.2.2.2.2.2.2.2.2.2
theorem bdX0_copy_32 : (decode cX0_copy 32 = .ok (.aload_n 0, 1)) ∧ (decode cX0_copy 33 = .ok (.aload_n 1, 1)) ∧ (decode cX0_copy 34 = .ok (.getfield 22, 3)) ∧ (decode cX0_copy 37 = .ok (.putfield 22, 3)) ∧ (decode cX0_copy 40 = .ok (.aload_n 0, 1)) ∧ (decode cX0_copy 41 = .ok (.aload_n 1, 1)) ∧ (decode cX0_copy 42 = .ok (.getfield 25, 3)) ∧ (decode cX0_copy 45 = .ok (.putfield 25, 3)) ∧ (decode cX0_copy 48 = .ok (.aload_n 0, 1)) ∧ (decode cX0_copy 49 = .ok (.aload_n 1, 1)) ∧ (decode cX0_copy 50 = .ok (.getfield 28, 3)) ∧ (decode cX0_copy 53 = .ok (.putfield 28, 3)) ∧ (decode cX0_copy 56 = .ok (.return_, 1)) := by decide +kernel
theorem dX0_copy_32 : decode cX0_copy 32 = .ok (.aload_n 0, 1) := bdX0_copy_32.1
theorem dX0_copy_33 : decode cX0_copy 33 = .ok (.aload_n 1, 1) := bdX0_copy_32.2.1
theorem dX0_copy_34 : decode cX0_copy 34 = .ok (.getfield 22, 3) := bdX0_copy_32.2.2.1
theorem dX0_copy_37 : decode cX0_copy 37 = .ok (.putfield 22, 3) := bdX0_copy_32.2.2.2.1
theorem dX0_copy_40 : decode cX0_copy 40 = .ok (.aload_n 0, 1) := bdX0_copy_32.2.2.2.2.1
theorem dX0_copy_41 : decode cX0_copy 41 = .ok (.aload_n 1, 1) := bdX0_copy_32.2.2.2.2.2.1
theorem dX0_copy_42 : decode cX0_copy 42 = .ok (.getfield 25, 3) := bdX0_copy_32.2.2.2.2.2.2.1
theorem dX0_copy_45 : decode cX0_copy 45 = .ok (.putfield 25, 3) := bdX0_copy_32.2.2.2.2.2.2.2.1
theorem dX0_copy_48 : decode cX0_copy 48 = .ok (.aload_n 0, 1) := bdX0_copy_32.2.2.2.2.2.2.2.2.1
theorem dX0_copy_49 : decode cX0_copy 49 = .ok (.aload_n 1, 1) := bdX0_copy_32.2.2.2.2.2.2.2.2.2.1
theorem dX0_copy_50 : decode cX0_copy 50 = .ok (.getfield 28, 3) := bdX0_copy_32.2.2.2.2.2.2.2.2.2.2.1
theorem dX0_copy_53 : decode cX0_copy 53 = .ok (.putfield 28, 3) := bdX0_copy_32.2.2.2.2.2.2.2.2.2.2.2.1
theorem dX0_copy_56 : decode cX0_copy 56 = .ok (.return_, 1) := bdX0_copy_32.2.2.2.2.2.2.2.2.2.2.2.2
def fX11_of_0 (a0 : Nat) (a1 : Int32) (a2 : Int32) (m : xMem) : Option (Int32 × xMem) := (fX9_hasHall (a0 + 1) a1 m).bind fun p1 => if ¬ p1.1 = (0 : Int32) then bif xIn a1 6 then xLet (a0 + 1 + 15 + 3 * a1.toNatClampNeg) fun r4 => xLet (a2 - (10 : Int32)) fun x5 => (fX9_hasHall (a0 + 1) x5 p1.2).bind fun p6 => if p6.1 = (0 : Int32) then xLet (a2 - (20 : Int32)) fun x8 => (fX9_hasHall (a0 + 1) x8 p6.2).bind fun p9 => if p9.1 = (0 : Int32) then if a2 = (0 : Int32) then xLet (p9.2.1 r4 4) fun x12 => some (x12, p9.2) else if a2 = (1 : Int32) then xLet (p9.2.1 r4 5) fun x14 => some (x14, p9.2) else if a2 = (2 : Int32) then xLet (p9.2.1 r4 6) fun x16 => some (x16, p9.2) else if a2 = (3 : Int32) then xLet (p9.2.1 r4 7) fun x18 => some (x18, p9.2) else if a2 = (4 : Int32) then xLet (p9.2.1 r4 3) fun x20 => some (x20, p9.2) else some ((-1 : Int32), p9.2) else xLet ((6 : Int32) + a2) fun x21 => xLet (x21 - (20 : Int32)) fun x22 => bif xIn x22 12 then xLet (p9.2.1 (r4 + 1) x22.toNatClampNeg) fun x23 => some (x23, p9.2) else none else xLet (a2 - (10 : Int32)) fun x25 => bif xIn x25 12 then xLet (p6.2.1 (r4 + 1) x25.toNatClampNeg) fun x26 => some (x26, p6.2) else none else none else some ((-1 : Int32), p1.2)
set_option maxRecDepth 4000 in
theorem fX11_of_0_ok {a0 : Nat} {a1 : Int32} {a2 : Int32} {d : Nat} (hd : 1 ≤ d) (ha0 : isMS a0) {o3 : Option Value} {m : xMem} {r : (Int32 × xMem)} (q3 : xNoD o3 = true) (h : fX11_of_0 a0 a1 a2 m = some r) : xFx hh_193 cX11_of d 0 [some (.ref a0), some (.int a1), some (.int a2), o3] [] (xLay m) 0 0 (some (.int r.1)) (xLay r.2) := by
  unfold fX11_of_0 at h
  refine fx_aload_n dX11_of_0 rfl rfl ?_
  refine gx_getr dX11_of_1 rfl fd_11_10 ha0.1 rfl rfl ?_
  refine fx_iload_n dX11_of_4 rfl rfl ?_
  obtain ⟨p1, ep1, h⟩ := xBind_el h
  refine gx_callv (as := [.int a1]) (r := []) rfl dX11_of_5 ca_11_65 rfl me_20 rfl rfl rfl rfl (ha0.2.1.1) rfl (fX9_hasHall_ok (d := d) (by omega) ha0.2.1 ep1) rfl rfl ?_
  refine fx_if_ne (t := 13) dX11_of_8 rfl rfl (fun hc2 => ?_) (fun hc2 => ?_)
  · rw [if_pos hc2] at h
    refine fx_aload_n dX11_of_13 rfl rfl ?_
    refine gx_getr dX11_of_14 rfl fd_11_10 ha0.1 rfl rfl ?_
    refine gx_getr dX11_of_17 rfl fd_11_55 ha0.2.1.1 rfl rfl ?_
    refine fx_iload_n dX11_of_20 rfl rfl ?_
    obtain ⟨hj3, h⟩ := xChk_el h
    obtain ⟨r4, hr4, h⟩ := xLet_el h
    refine gx_aaload (t := 4) dX11_of_21 rfl ha0.2.1.2.1 rfl hj3 ((xRef_at (sl_9_0 (a0 + 1)) hj3).trans (congrArg some hr4)) ?_
    have hpr4 : isHall r4 := by rw [← hr4]; exact ha0.2.1.2.2.2.2.2.2.2.1 _ (xIn_lt hj3)
    refine fx_astore_n (ls2 := [some (.ref a0), some (.int a1), some (.int a2), some (.ref r4)]) dX11_of_22 rfl rfl rfl ?_
    refine fx_aload_n dX11_of_23 rfl rfl ?_
    refine gx_getr dX11_of_24 rfl fd_11_10 ha0.1 rfl rfl ?_
    refine fx_iload_n dX11_of_27 rfl rfl ?_
    refine fx_bipush (x := 10) dX11_of_28 rfl (by decide) ?_
    obtain ⟨x5, hx5, h⟩ := xLet_el h
    refine fx_isub dX11_of_30 rfl hx5 ?_
    obtain ⟨p6, ep6, h⟩ := xBind_el h
    refine gx_callv (as := [.int x5]) (r := []) rfl dX11_of_31 ca_11_65 rfl me_20 rfl rfl rfl rfl (ha0.2.1.1) rfl (fX9_hasHall_ok (d := d) (by omega) ha0.2.1 ep6) rfl rfl ?_
    refine fx_if_eq (t := 47) dX11_of_34 rfl rfl (fun hc7 => ?_) (fun hc7 => ?_)
    · rw [if_pos hc7] at h
      refine fx_aload_n dX11_of_47 rfl rfl ?_
      refine gx_getr dX11_of_48 rfl fd_11_10 ha0.1 rfl rfl ?_
      refine fx_iload_n dX11_of_51 rfl rfl ?_
      refine fx_bipush (x := 20) dX11_of_52 rfl (by decide) ?_
      obtain ⟨x8, hx8, h⟩ := xLet_el h
      refine fx_isub dX11_of_54 rfl hx8 ?_
      obtain ⟨p9, ep9, h⟩ := xBind_el h
      refine gx_callv (as := [.int x8]) (r := []) rfl dX11_of_55 ca_11_65 rfl me_20 rfl rfl rfl rfl (ha0.2.1.1) rfl (fX9_hasHall_ok (d := d) (by omega) ha0.2.1 ep9) rfl rfl ?_
      refine fx_if_eq (t := 74) dX11_of_58 rfl rfl (fun hc10 => ?_) (fun hc10 => ?_)
      · rw [if_pos hc10] at h
        refine fx_iload_n dX11_of_74 rfl rfl ?_
        by_cases hc11 : a2 = (0 : Int32)
        · rw [if_pos hc11] at h
          refine fx_tabIn (t := 108) dX11_of_75 rfl (by rw [hc11]; decide) (by rw [hc11]; decide) (by rw [hc11]; rfl) rfl ?_
          refine fx_aload_n dX11_of_108 rfl rfl ?_
          obtain ⟨x12, hx12, h⟩ := xLet_el h
          refine gx_get dX11_of_109 rfl fd_11_178 hpr4.1 rfl rfl hx12 ?_
          cases h
          exact fx_ireturn dX11_of_112 rfl rfl
        · rw [if_neg hc11] at h
          by_cases hc13 : a2 = (1 : Int32)
          · rw [if_pos hc13] at h
            refine fx_tabIn (t := 113) dX11_of_75 rfl (by rw [hc13]; decide) (by rw [hc13]; decide) (by rw [hc13]; rfl) rfl ?_
            refine fx_aload_n dX11_of_113 rfl rfl ?_
            obtain ⟨x14, hx14, h⟩ := xLet_el h
            refine gx_get dX11_of_114 rfl fd_11_181 hpr4.1 rfl rfl hx14 ?_
            cases h
            exact fx_ireturn dX11_of_117 rfl rfl
          · rw [if_neg hc13] at h
            by_cases hc15 : a2 = (2 : Int32)
            · rw [if_pos hc15] at h
              refine fx_tabIn (t := 118) dX11_of_75 rfl (by rw [hc15]; decide) (by rw [hc15]; decide) (by rw [hc15]; rfl) rfl ?_
              refine fx_aload_n dX11_of_118 rfl rfl ?_
              obtain ⟨x16, hx16, h⟩ := xLet_el h
              refine gx_get dX11_of_119 rfl fd_11_184 hpr4.1 rfl rfl hx16 ?_
              cases h
              exact fx_ireturn dX11_of_122 rfl rfl
            · rw [if_neg hc15] at h
              by_cases hc17 : a2 = (3 : Int32)
              · rw [if_pos hc17] at h
                refine fx_tabIn (t := 123) dX11_of_75 rfl (by rw [hc17]; decide) (by rw [hc17]; decide) (by rw [hc17]; rfl) rfl ?_
                refine fx_aload_n dX11_of_123 rfl rfl ?_
                obtain ⟨x18, hx18, h⟩ := xLet_el h
                refine gx_get dX11_of_124 rfl fd_11_187 hpr4.1 rfl rfl hx18 ?_
                cases h
                exact fx_ireturn dX11_of_127 rfl rfl
              · rw [if_neg hc17] at h
                by_cases hc19 : a2 = (4 : Int32)
                · rw [if_pos hc19] at h
                  refine fx_tabIn (t := 128) dX11_of_75 rfl (by rw [hc19]; decide) (by rw [hc19]; decide) (by rw [hc19]; rfl) rfl ?_
                  refine fx_aload_n dX11_of_128 rfl rfl ?_
                  obtain ⟨x20, hx20, h⟩ := xLet_el h
                  refine gx_get dX11_of_129 rfl fd_11_69 hpr4.1 rfl rfl hx20 ?_
                  cases h
                  exact fx_ireturn dX11_of_132 rfl rfl
                · rw [if_neg hc19] at h
                  have e0 : a2.toInt ≠ 0 := fun q => hc11 (Int32.toInt_inj.mp (q.trans (by decide)))
                  have e1 : a2.toInt ≠ 1 := fun q => hc13 (Int32.toInt_inj.mp (q.trans (by decide)))
                  have e2 : a2.toInt ≠ 2 := fun q => hc15 (Int32.toInt_inj.mp (q.trans (by decide)))
                  have e3 : a2.toInt ≠ 3 := fun q => hc17 (Int32.toInt_inj.mp (q.trans (by decide)))
                  have e4 : a2.toInt ≠ 4 := fun q => hc19 (Int32.toInt_inj.mp (q.trans (by decide)))
                  refine fx_tabOut (t := 133) dX11_of_75 rfl (by omega) rfl ?_
                  refine fx_iconst (x := -1) dX11_of_133 rfl (by decide) ?_
                  cases h
                  exact fx_ireturn dX11_of_134 rfl rfl
      · rw [if_neg hc10] at h
        refine fx_aload_n dX11_of_61 rfl rfl ?_
        refine gx_getr dX11_of_62 rfl fd_11_174 hpr4.1 rfl rfl ?_
        refine fx_bipush (x := 6) dX11_of_65 rfl (by decide) ?_
        refine fx_iload_n dX11_of_67 rfl rfl ?_
        obtain ⟨x21, hx21, h⟩ := xLet_el h
        refine fx_iadd dX11_of_68 rfl hx21 ?_
        refine fx_bipush (x := 20) dX11_of_69 rfl (by decide) ?_
        obtain ⟨x22, hx22, h⟩ := xLet_el h
        refine fx_isub dX11_of_71 rfl hx22 ?_
        obtain ⟨hj24, h⟩ := xChk_el h
        obtain ⟨x23, hx23, h⟩ := xLet_el h
        refine gx_iaload dX11_of_72 rfl hpr4.2.1 hj24 hx23 ?_
        cases h
        exact fx_ireturn dX11_of_73 rfl rfl
    · rw [if_neg hc7] at h
      refine fx_aload_n dX11_of_37 rfl rfl ?_
      refine gx_getr dX11_of_38 rfl fd_11_174 hpr4.1 rfl rfl ?_
      refine fx_iload_n dX11_of_41 rfl rfl ?_
      refine fx_bipush (x := 10) dX11_of_42 rfl (by decide) ?_
      obtain ⟨x25, hx25, h⟩ := xLet_el h
      refine fx_isub dX11_of_44 rfl hx25 ?_
      obtain ⟨hj27, h⟩ := xChk_el h
      obtain ⟨x26, hx26, h⟩ := xLet_el h
      refine gx_iaload dX11_of_45 rfl hpr4.2.1 hj27 hx26 ?_
      cases h
      exact fx_ireturn dX11_of_46 rfl rfl
  · rw [if_neg hc2] at h
    refine fx_iconst (x := -1) dX11_of_11 rfl (by decide) ?_
    cases h
    exact fx_ireturn dX11_of_12 rfl rfl
def fX11_of (a0 : Nat) (a1 : Int32) (a2 : Int32) (m : xMem) : Option (Int32 × xMem) := fX11_of_0 a0 a1 a2  m
theorem fX11_of_ok {a0 : Nat} {a1 : Int32} {a2 : Int32} {m : xMem} {r : (Int32 × xMem)} {d : Nat} (hd : 2 ≤ d) (ha0 : isMS a0) (h : fX11_of a0 a1 a2 m = some r) : xEx d 193 [.ref a0, .int a1, .int a2] (xLay m) (some (.int r.1)) (xLay r.2) := by
  obtain ⟨d, rfl⟩ : ∃ q, d = q + 1 := ⟨d - 1, by omega⟩
  exact xEx_of me_193 rfl (fX11_of_0_ok (d := d) (o3 := none) (by omega) ha0 rfl h)
def fX12_of_159 (a0 : Nat) (a1 : Int32) (a2 : Int32) (s0 : Int32) (m : xMem) : Option (Int32 × xMem) := some (s0, m)
set_option maxRecDepth 4000 in
theorem fX12_of_159_ok {a0 : Nat} {a1 : Int32} {a2 : Int32} {d : Nat} (hd : 2 ≤ d) (ha0 : isModel a0) {s0 : Int32} {m : xMem} {r : (Int32 × xMem)} (h : fX12_of_159 a0 a1 a2 s0 m = some r) : xFx hh_194 cX12_of d 159 [some (.ref a0), some (.int a1), some (.int a2)] [.int s0] (xLay m) 0 0 (some (.int r.1)) (xLay r.2) := by
  unfold fX12_of_159 at h
  cases h
  exact fx_ireturn dX12_of_159 rfl rfl
def fX12_of_158 (a0 : Nat) (a1 : Int32) (a2 : Int32) (m : xMem) : Option (Int32 × xMem) := fX12_of_159 a0 a1 a2 (-1 : Int32) m
set_option maxRecDepth 4000 in
theorem fX12_of_158_ok {a0 : Nat} {a1 : Int32} {a2 : Int32} {d : Nat} (hd : 2 ≤ d) (ha0 : isModel a0) {m : xMem} {r : (Int32 × xMem)} (h : fX12_of_158 a0 a1 a2 m = some r) : xFx hh_194 cX12_of d 158 [some (.ref a0), some (.int a1), some (.int a2)] [] (xLay m) 0 0 (some (.int r.1)) (xLay r.2) := by
  unfold fX12_of_158 at h
  refine fx_iconst (x := -1) dX12_of_158 rfl (by decide) ?_
  exact fX12_of_159_ok hd ha0 h
def fX12_of_117 (a0 : Nat) (a1 : Int32) (a2 : Int32) (m : xMem) : Option (Int32 × xMem) := if a2 < (20 : Int32) then fX12_of_158 a0 a1 a2 m else xLet (a2 - (20 : Int32)) fun x2 => (fX12_isHall a0 x2 m).bind fun p3 => if p3.1 = (0 : Int32) then fX12_of_158 a0 a1 a2 p3.2 else xLet ((12 : Int32) * a1) fun x5 => xLet ((50 : Int32) + x5) fun x6 => xLet (a2 - (20 : Int32)) fun x7 => xLet ((2 : Int32) * x7) fun x8 => xLet (x6 + x8) fun x9 => xLet (x9 + (1 : Int32)) fun x10 => bif xIn x10 1610 then xLet (p3.2.1 (a0 + 1) x10.toNatClampNeg) fun x11 => fX12_of_159 a0 a1 a2 x11 p3.2 else none
set_option maxRecDepth 4000 in
theorem fX12_of_117_ok {a0 : Nat} {a1 : Int32} {a2 : Int32} {d : Nat} (hd : 2 ≤ d) (ha0 : isModel a0) {m : xMem} {r : (Int32 × xMem)} (h : fX12_of_117 a0 a1 a2 m = some r) : xFx hh_194 cX12_of d 117 [some (.ref a0), some (.int a1), some (.int a2)] [] (xLay m) 0 0 (some (.int r.1)) (xLay r.2) := by
  unfold fX12_of_117 at h
  refine fx_iload_n dX12_of_117 rfl rfl ?_
  refine fx_bipush (x := 20) dX12_of_118 rfl (by decide) ?_
  refine fx_icmp_lt (t := 158) dX12_of_120 rfl rfl (fun hc1 => ?_) (fun hc1 => ?_)
  · rw [if_pos hc1] at h
    exact fX12_of_158_ok hd ha0 h
  · rw [if_neg hc1] at h
    refine fx_aload_n dX12_of_123 rfl rfl ?_
    refine fx_iload_n dX12_of_124 rfl rfl ?_
    refine fx_bipush (x := 20) dX12_of_125 rfl (by decide) ?_
    obtain ⟨x2, hx2, h⟩ := xLet_el h
    refine fx_isub dX12_of_127 rfl hx2 ?_
    obtain ⟨p3, ep3, h⟩ := xBind_el h
    refine gx_callv (as := [.int x2]) (r := []) rfl dX12_of_128 ca_12_107 rfl me_22 rfl rfl rfl rfl (ha0.1) rfl (fX12_isHall_ok (d := d) (by omega) ha0 ep3) rfl rfl ?_
    refine fx_if_eq (t := 158) dX12_of_131 rfl rfl (fun hc4 => ?_) (fun hc4 => ?_)
    · rw [if_pos hc4] at h
      exact fX12_of_158_ok hd ha0 h
    · rw [if_neg hc4] at h
      refine fx_aload_n dX12_of_134 rfl rfl ?_
      refine gx_getr dX12_of_135 rfl fd_12_7 ha0.1 rfl rfl ?_
      refine fx_bipush (x := 50) dX12_of_138 rfl (by decide) ?_
      refine fx_bipush (x := 12) dX12_of_140 rfl (by decide) ?_
      refine fx_iload_n dX12_of_142 rfl rfl ?_
      obtain ⟨x5, hx5, h⟩ := xLet_el h
      refine fx_imul dX12_of_143 rfl hx5 ?_
      obtain ⟨x6, hx6, h⟩ := xLet_el h
      refine fx_iadd dX12_of_144 rfl hx6 ?_
      refine fx_iconst (x := 2) dX12_of_145 rfl (by decide) ?_
      refine fx_iload_n dX12_of_146 rfl rfl ?_
      refine fx_bipush (x := 20) dX12_of_147 rfl (by decide) ?_
      obtain ⟨x7, hx7, h⟩ := xLet_el h
      refine fx_isub dX12_of_149 rfl hx7 ?_
      obtain ⟨x8, hx8, h⟩ := xLet_el h
      refine fx_imul dX12_of_150 rfl hx8 ?_
      obtain ⟨x9, hx9, h⟩ := xLet_el h
      refine fx_iadd dX12_of_151 rfl hx9 ?_
      refine fx_iconst (x := 1) dX12_of_152 rfl (by decide) ?_
      obtain ⟨x10, hx10, h⟩ := xLet_el h
      refine fx_iadd dX12_of_153 rfl hx10 ?_
      obtain ⟨hj12, h⟩ := xChk_el h
      obtain ⟨x11, hx11, h⟩ := xLet_el h
      refine gx_iaload dX12_of_154 rfl ha0.2.1 hj12 hx11 ?_
      refine fx_goto (t := 159) dX12_of_155 rfl rfl ?_
      exact fX12_of_159_ok hd ha0 h
def fX12_of_0 (a0 : Nat) (a1 : Int32) (a2 : Int32) (m : xMem) : Option (Int32 × xMem) := (fX12_isHall a0 a1 m).bind fun p1 => if ¬ p1.1 = (0 : Int32) then if a2 = (0 : Int32) then (fX12_inHall a0 a1 p1.2).bind fun p4 => some (p4.1, p4.2) else if a2 = (1 : Int32) then (fX12_countOf a0 (130 : Int32) a1 p1.2).bind fun p6 => some (p6.1, p6.2) else if a2 = (2 : Int32) then (fX12_hallOf a0 a1 (2 : Int32) p1.2).bind fun p8 => some (p8.1, p8.2) else if a2 = (3 : Int32) then (fX12_hallOf a0 a1 (3 : Int32) p1.2).bind fun p10 => some (p10.1, p10.2) else if a2 = (4 : Int32) then (fX12_hallOf a0 a1 (1 : Int32) p1.2).bind fun p12 => some (p12.1, p12.2) else if a2 < (10 : Int32) then fX12_of_117 a0 a1 a2 p1.2 else xLet (a2 - (10 : Int32)) fun x14 => (fX12_isHall a0 x14 p1.2).bind fun p15 => if p15.1 = (0 : Int32) then fX12_of_117 a0 a1 a2 p15.2 else xLet ((12 : Int32) * a1) fun x17 => xLet ((50 : Int32) + x17) fun x18 => xLet (a2 - (10 : Int32)) fun x19 => xLet ((2 : Int32) * x19) fun x20 => xLet (x18 + x20) fun x21 => bif xIn x21 1610 then xLet (p15.2.1 (a0 + 1) x21.toNatClampNeg) fun x22 => some (x22, p15.2) else none else some ((-1 : Int32), p1.2)
set_option maxRecDepth 4000 in
theorem fX12_of_0_ok {a0 : Nat} {a1 : Int32} {a2 : Int32} {d : Nat} (hd : 2 ≤ d) (ha0 : isModel a0) {m : xMem} {r : (Int32 × xMem)} (h : fX12_of_0 a0 a1 a2 m = some r) : xFx hh_194 cX12_of d 0 [some (.ref a0), some (.int a1), some (.int a2)] [] (xLay m) 0 0 (some (.int r.1)) (xLay r.2) := by
  unfold fX12_of_0 at h
  refine fx_aload_n dX12_of_0 rfl rfl ?_
  refine fx_iload_n dX12_of_1 rfl rfl ?_
  obtain ⟨p1, ep1, h⟩ := xBind_el h
  refine gx_callv (as := [.int a1]) (r := []) rfl dX12_of_2 ca_12_107 rfl me_22 rfl rfl rfl rfl (ha0.1) rfl (fX12_isHall_ok (d := d) (by omega) ha0 ep1) rfl rfl ?_
  refine fx_if_ne (t := 10) dX12_of_5 rfl rfl (fun hc2 => ?_) (fun hc2 => ?_)
  · rw [if_pos hc2] at h
    refine fx_iload_n dX12_of_10 rfl rfl ?_
    by_cases hc3 : a2 = (0 : Int32)
    · rw [if_pos hc3] at h
      refine fx_tabIn (t := 44) dX12_of_11 rfl (by rw [hc3]; decide) (by rw [hc3]; decide) (by rw [hc3]; rfl) rfl ?_
      refine fx_aload_n dX12_of_44 rfl rfl ?_
      refine fx_iload_n dX12_of_45 rfl rfl ?_
      obtain ⟨p4, ep4, h⟩ := xBind_el h
      refine gx_callv (as := [.int a1]) (r := []) rfl dX12_of_46 ca_12_292 rfl me_168 rfl rfl rfl rfl (ha0.1) rfl (fX12_inHall_ok (d := d) (by omega) ha0 ep4) rfl rfl ?_
      cases h
      exact fx_ireturn dX12_of_49 rfl rfl
    · rw [if_neg hc3] at h
      by_cases hc5 : a2 = (1 : Int32)
      · rw [if_pos hc5] at h
        refine fx_tabIn (t := 50) dX12_of_11 rfl (by rw [hc5]; decide) (by rw [hc5]; decide) (by rw [hc5]; rfl) rfl ?_
        refine fx_aload_n dX12_of_50 rfl rfl ?_
        refine fx_sipush (x := 130) dX12_of_51 rfl (by decide) ?_
        refine fx_iload_n dX12_of_54 rfl rfl ?_
        obtain ⟨p6, ep6, h⟩ := xBind_el h
        refine gx_callv (as := [.int (130 : Int32), .int a1]) (r := []) rfl dX12_of_55 ca_12_289 rfl me_169 rfl rfl rfl rfl (ha0.1) rfl (fX12_countOf_ok (d := d) (by omega) ha0 ep6) rfl rfl ?_
        cases h
        exact fx_ireturn dX12_of_58 rfl rfl
      · rw [if_neg hc5] at h
        by_cases hc7 : a2 = (2 : Int32)
        · rw [if_pos hc7] at h
          refine fx_tabIn (t := 59) dX12_of_11 rfl (by rw [hc7]; decide) (by rw [hc7]; decide) (by rw [hc7]; rfl) rfl ?_
          refine fx_aload_n dX12_of_59 rfl rfl ?_
          refine fx_iload_n dX12_of_60 rfl rfl ?_
          refine fx_iconst (x := 2) dX12_of_61 rfl (by decide) ?_
          obtain ⟨p8, ep8, h⟩ := xBind_el h
          refine gx_callv (as := [.int a1, .int (2 : Int32)]) (r := []) rfl dX12_of_62 ca_12_295 rfl me_170 rfl rfl rfl rfl (ha0.1) rfl (fX12_hallOf_ok (d := d) (by omega) ha0 ep8) rfl rfl ?_
          cases h
          exact fx_ireturn dX12_of_65 rfl rfl
        · rw [if_neg hc7] at h
          by_cases hc9 : a2 = (3 : Int32)
          · rw [if_pos hc9] at h
            refine fx_tabIn (t := 66) dX12_of_11 rfl (by rw [hc9]; decide) (by rw [hc9]; decide) (by rw [hc9]; rfl) rfl ?_
            refine fx_aload_n dX12_of_66 rfl rfl ?_
            refine fx_iload_n dX12_of_67 rfl rfl ?_
            refine fx_iconst (x := 3) dX12_of_68 rfl (by decide) ?_
            obtain ⟨p10, ep10, h⟩ := xBind_el h
            refine gx_callv (as := [.int a1, .int (3 : Int32)]) (r := []) rfl dX12_of_69 ca_12_295 rfl me_170 rfl rfl rfl rfl (ha0.1) rfl (fX12_hallOf_ok (d := d) (by omega) ha0 ep10) rfl rfl ?_
            cases h
            exact fx_ireturn dX12_of_72 rfl rfl
          · rw [if_neg hc9] at h
            by_cases hc11 : a2 = (4 : Int32)
            · rw [if_pos hc11] at h
              refine fx_tabIn (t := 73) dX12_of_11 rfl (by rw [hc11]; decide) (by rw [hc11]; decide) (by rw [hc11]; rfl) rfl ?_
              refine fx_aload_n dX12_of_73 rfl rfl ?_
              refine fx_iload_n dX12_of_74 rfl rfl ?_
              refine fx_iconst (x := 1) dX12_of_75 rfl (by decide) ?_
              obtain ⟨p12, ep12, h⟩ := xBind_el h
              refine gx_callv (as := [.int a1, .int (1 : Int32)]) (r := []) rfl dX12_of_76 ca_12_295 rfl me_170 rfl rfl rfl rfl (ha0.1) rfl (fX12_hallOf_ok (d := d) (by omega) ha0 ep12) rfl rfl ?_
              cases h
              exact fx_ireturn dX12_of_79 rfl rfl
            · rw [if_neg hc11] at h
              have e0 : a2.toInt ≠ 0 := fun q => hc3 (Int32.toInt_inj.mp (q.trans (by decide)))
              have e1 : a2.toInt ≠ 1 := fun q => hc5 (Int32.toInt_inj.mp (q.trans (by decide)))
              have e2 : a2.toInt ≠ 2 := fun q => hc7 (Int32.toInt_inj.mp (q.trans (by decide)))
              have e3 : a2.toInt ≠ 3 := fun q => hc9 (Int32.toInt_inj.mp (q.trans (by decide)))
              have e4 : a2.toInt ≠ 4 := fun q => hc11 (Int32.toInt_inj.mp (q.trans (by decide)))
              refine fx_tabOut (t := 80) dX12_of_11 rfl (by omega) rfl ?_
              refine fx_iload_n dX12_of_80 rfl rfl ?_
              refine fx_bipush (x := 10) dX12_of_81 rfl (by decide) ?_
              refine fx_icmp_lt (t := 117) dX12_of_83 rfl rfl (fun hc13 => ?_) (fun hc13 => ?_)
              · rw [if_pos hc13] at h
                exact fX12_of_117_ok hd ha0 h
              · rw [if_neg hc13] at h
                refine fx_aload_n dX12_of_86 rfl rfl ?_
                refine fx_iload_n dX12_of_87 rfl rfl ?_
                refine fx_bipush (x := 10) dX12_of_88 rfl (by decide) ?_
                obtain ⟨x14, hx14, h⟩ := xLet_el h
                refine fx_isub dX12_of_90 rfl hx14 ?_
                obtain ⟨p15, ep15, h⟩ := xBind_el h
                refine gx_callv (as := [.int x14]) (r := []) rfl dX12_of_91 ca_12_107 rfl me_22 rfl rfl rfl rfl (ha0.1) rfl (fX12_isHall_ok (d := d) (by omega) ha0 ep15) rfl rfl ?_
                refine fx_if_eq (t := 117) dX12_of_94 rfl rfl (fun hc16 => ?_) (fun hc16 => ?_)
                · rw [if_pos hc16] at h
                  exact fX12_of_117_ok hd ha0 h
                · rw [if_neg hc16] at h
                  refine fx_aload_n dX12_of_97 rfl rfl ?_
                  refine gx_getr dX12_of_98 rfl fd_12_7 ha0.1 rfl rfl ?_
                  refine fx_bipush (x := 50) dX12_of_101 rfl (by decide) ?_
                  refine fx_bipush (x := 12) dX12_of_103 rfl (by decide) ?_
                  refine fx_iload_n dX12_of_105 rfl rfl ?_
                  obtain ⟨x17, hx17, h⟩ := xLet_el h
                  refine fx_imul dX12_of_106 rfl hx17 ?_
                  obtain ⟨x18, hx18, h⟩ := xLet_el h
                  refine fx_iadd dX12_of_107 rfl hx18 ?_
                  refine fx_iconst (x := 2) dX12_of_108 rfl (by decide) ?_
                  refine fx_iload_n dX12_of_109 rfl rfl ?_
                  refine fx_bipush (x := 10) dX12_of_110 rfl (by decide) ?_
                  obtain ⟨x19, hx19, h⟩ := xLet_el h
                  refine fx_isub dX12_of_112 rfl hx19 ?_
                  obtain ⟨x20, hx20, h⟩ := xLet_el h
                  refine fx_imul dX12_of_113 rfl hx20 ?_
                  obtain ⟨x21, hx21, h⟩ := xLet_el h
                  refine fx_iadd dX12_of_114 rfl hx21 ?_
                  obtain ⟨hj23, h⟩ := xChk_el h
                  obtain ⟨x22, hx22, h⟩ := xLet_el h
                  refine gx_iaload dX12_of_115 rfl ha0.2.1 hj23 hx22 ?_
                  cases h
                  exact fx_ireturn dX12_of_116 rfl rfl
  · rw [if_neg hc2] at h
    refine fx_iconst (x := -1) dX12_of_8 rfl (by decide) ?_
    cases h
    exact fx_ireturn dX12_of_9 rfl rfl
def fX12_of (a0 : Nat) (a1 : Int32) (a2 : Int32) (m : xMem) : Option (Int32 × xMem) := fX12_of_0 a0 a1 a2  m
theorem fX12_of_ok {a0 : Nat} {a1 : Int32} {a2 : Int32} {m : xMem} {r : (Int32 × xMem)} {d : Nat} (hd : 3 ≤ d) (ha0 : isModel a0) (h : fX12_of a0 a1 a2 m = some r) : xEx d 194 [.ref a0, .int a1, .int a2] (xLay m) (some (.int r.1)) (xLay r.2) := by
  obtain ⟨d, rfl⟩ : ∃ q, d = q + 1 := ⟨d - 1, by omega⟩
  exact xEx_of me_194 rfl (fX12_of_0_ok (d := d) (by omega) ha0 h)
def fX11_on_94 (a0 : Nat) (a1 : Int32) (a2 : Int32) (s0 : Int32) (m : xMem) : Option (Int32 × xMem) := some (s0, m)
set_option maxRecDepth 4000 in
theorem fX11_on_94_ok {a0 : Nat} {a1 : Int32} {a2 : Int32} {d : Nat} (hd : 1 ≤ d) (ha0 : isMS a0) {s0 : Int32} {o3 : Option Value} {m : xMem} {r : (Int32 × xMem)} (q3 : xNoD o3 = true) (h : fX11_on_94 a0 a1 a2 s0 m = some r) : xFx hh_195 cX11_on d 94 [some (.ref a0), some (.int a1), some (.int a2), o3] [.int s0] (xLay m) 0 0 (some (.int r.1)) (xLay r.2) := by
  unfold fX11_on_94 at h
  cases h
  exact fx_ireturn dX11_on_94 rfl rfl
def fX11_on_107 (a0 : Nat) (a1 : Int32) (a2 : Int32) (s0 : Int32) (m : xMem) : Option (Int32 × xMem) := some (s0, m)
set_option maxRecDepth 4000 in
theorem fX11_on_107_ok {a0 : Nat} {a1 : Int32} {a2 : Int32} {d : Nat} (hd : 1 ≤ d) (ha0 : isMS a0) {s0 : Int32} {o3 : Option Value} {m : xMem} {r : (Int32 × xMem)} (q3 : xNoD o3 = true) (h : fX11_on_107 a0 a1 a2 s0 m = some r) : xFx hh_195 cX11_on d 107 [some (.ref a0), some (.int a1), some (.int a2), o3] [.int s0] (xLay m) 0 0 (some (.int r.1)) (xLay r.2) := by
  unfold fX11_on_107 at h
  cases h
  exact fx_ireturn dX11_on_107 rfl rfl
def fX11_on_0 (a0 : Nat) (a1 : Int32) (a2 : Int32) (m : xMem) : Option (Int32 × xMem) := (fX9_hasLink (a0 + 1) a1 m).bind fun p1 => if ¬ p1.1 = (0 : Int32) then bif xIn a1 10 then xLet (a0 + 1 + 33 + 2 * a1.toNatClampNeg) fun r4 => if a2 = (0 : Int32) then xLet (p1.2.1 r4 9) fun x6 => some (x6, p1.2) else if a2 = (1 : Int32) then xLet (p1.2.1 r4 6) fun x8 => some (x8, p1.2) else if a2 = (2 : Int32) then xLet (p1.2.1 r4 12) fun x10 => if x10 = (0 : Int32) then fX11_on_94 a0 a1 a2 (0 : Int32) p1.2 else fX11_on_94 a0 a1 a2 (1 : Int32) p1.2 else if a2 = (3 : Int32) then xLet (p1.2.1 r4 13) fun x13 => if x13 = (0 : Int32) then fX11_on_107 a0 a1 a2 (0 : Int32) p1.2 else fX11_on_107 a0 a1 a2 (1 : Int32) p1.2 else if a2 = (4 : Int32) then xLet (p1.2.1 r4 7) fun x16 => some (x16, p1.2) else if a2 = (5 : Int32) then xLet (p1.2.1 r4 10) fun x18 => some (x18, p1.2) else if a2 = (6 : Int32) then xLet (p1.2.1 r4 11) fun x20 => some (x20, p1.2) else if a2 = (7 : Int32) then xLet (p1.2.1 r4 8) fun x22 => some (x22, p1.2) else some ((-1 : Int32), p1.2) else none else some ((-1 : Int32), p1.2)
set_option maxRecDepth 4000 in
theorem fX11_on_0_ok {a0 : Nat} {a1 : Int32} {a2 : Int32} {d : Nat} (hd : 1 ≤ d) (ha0 : isMS a0) {o3 : Option Value} {m : xMem} {r : (Int32 × xMem)} (q3 : xNoD o3 = true) (h : fX11_on_0 a0 a1 a2 m = some r) : xFx hh_195 cX11_on d 0 [some (.ref a0), some (.int a1), some (.int a2), o3] [] (xLay m) 0 0 (some (.int r.1)) (xLay r.2) := by
  unfold fX11_on_0 at h
  refine fx_aload_n dX11_on_0 rfl rfl ?_
  refine gx_getr dX11_on_1 rfl fd_11_10 ha0.1 rfl rfl ?_
  refine fx_iload_n dX11_on_4 rfl rfl ?_
  obtain ⟨p1, ep1, h⟩ := xBind_el h
  refine gx_callv (as := [.int a1]) (r := []) rfl dX11_on_5 ca_11_96 rfl me_29 rfl rfl rfl rfl (ha0.2.1.1) rfl (fX9_hasLink_ok (d := d) (by omega) ha0.2.1 ep1) rfl rfl ?_
  refine fx_if_ne (t := 13) dX11_on_8 rfl rfl (fun hc2 => ?_) (fun hc2 => ?_)
  · rw [if_pos hc2] at h
    refine fx_aload_n dX11_on_13 rfl rfl ?_
    refine gx_getr dX11_on_14 rfl fd_11_10 ha0.1 rfl rfl ?_
    refine gx_getr dX11_on_17 rfl fd_11_75 ha0.2.1.1 rfl rfl ?_
    refine fx_iload_n dX11_on_20 rfl rfl ?_
    obtain ⟨hj3, h⟩ := xChk_el h
    obtain ⟨r4, hr4, h⟩ := xLet_el h
    refine gx_aaload (t := 5) dX11_on_21 rfl ha0.2.1.2.2.1 rfl hj3 ((xRef_at (sl_9_1 (a0 + 1)) hj3).trans (congrArg some hr4)) ?_
    have hpr4 : isLink r4 := by rw [← hr4]; exact ha0.2.1.2.2.2.2.2.2.2.2.1 _ (xIn_lt hj3)
    refine fx_astore_n (ls2 := [some (.ref a0), some (.int a1), some (.int a2), some (.ref r4)]) dX11_on_22 rfl rfl rfl ?_
    refine fx_iload_n dX11_on_23 rfl rfl ?_
    by_cases hc5 : a2 = (0 : Int32)
    · rw [if_pos hc5] at h
      refine fx_tabIn (t := 72) dX11_on_24 rfl (by rw [hc5]; decide) (by rw [hc5]; decide) (by rw [hc5]; rfl) rfl ?_
      refine fx_aload_n dX11_on_72 rfl rfl ?_
      obtain ⟨x6, hx6, h⟩ := xLet_el h
      refine gx_get dX11_on_73 rfl fd_11_190 hpr4.1 rfl rfl hx6 ?_
      cases h
      exact fx_ireturn dX11_on_76 rfl rfl
    · rw [if_neg hc5] at h
      by_cases hc7 : a2 = (1 : Int32)
      · rw [if_pos hc7] at h
        refine fx_tabIn (t := 77) dX11_on_24 rfl (by rw [hc7]; decide) (by rw [hc7]; decide) (by rw [hc7]; rfl) rfl ?_
        refine fx_aload_n dX11_on_77 rfl rfl ?_
        obtain ⟨x8, hx8, h⟩ := xLet_el h
        refine gx_get dX11_on_78 rfl fd_11_191 hpr4.1 rfl rfl hx8 ?_
        cases h
        exact fx_ireturn dX11_on_81 rfl rfl
      · rw [if_neg hc7] at h
        by_cases hc9 : a2 = (2 : Int32)
        · rw [if_pos hc9] at h
          refine fx_tabIn (t := 82) dX11_on_24 rfl (by rw [hc9]; decide) (by rw [hc9]; decide) (by rw [hc9]; rfl) rfl ?_
          refine fx_aload_n dX11_on_82 rfl rfl ?_
          obtain ⟨x10, hx10, h⟩ := xLet_el h
          refine gx_get dX11_on_83 rfl fd_11_194 hpr4.1 rfl rfl hx10 ?_
          refine fx_if_eq (t := 93) dX11_on_86 rfl rfl (fun hc11 => ?_) (fun hc11 => ?_)
          · rw [if_pos hc11] at h
            refine fx_iconst (x := 0) dX11_on_93 rfl (by decide) ?_
            exact fX11_on_94_ok (o3 := some (.ref r4)) hd ha0 rfl h
          · rw [if_neg hc11] at h
            refine fx_iconst (x := 1) dX11_on_89 rfl (by decide) ?_
            refine fx_goto (t := 94) dX11_on_90 rfl rfl ?_
            exact fX11_on_94_ok (o3 := some (.ref r4)) hd ha0 rfl h
        · rw [if_neg hc9] at h
          by_cases hc12 : a2 = (3 : Int32)
          · rw [if_pos hc12] at h
            refine fx_tabIn (t := 95) dX11_on_24 rfl (by rw [hc12]; decide) (by rw [hc12]; decide) (by rw [hc12]; rfl) rfl ?_
            refine fx_aload_n dX11_on_95 rfl rfl ?_
            obtain ⟨x13, hx13, h⟩ := xLet_el h
            refine gx_get dX11_on_96 rfl fd_11_99 hpr4.1 rfl rfl hx13 ?_
            refine fx_if_eq (t := 106) dX11_on_99 rfl rfl (fun hc14 => ?_) (fun hc14 => ?_)
            · rw [if_pos hc14] at h
              refine fx_iconst (x := 0) dX11_on_106 rfl (by decide) ?_
              exact fX11_on_107_ok (o3 := some (.ref r4)) hd ha0 rfl h
            · rw [if_neg hc14] at h
              refine fx_iconst (x := 1) dX11_on_102 rfl (by decide) ?_
              refine fx_goto (t := 107) dX11_on_103 rfl rfl ?_
              exact fX11_on_107_ok (o3 := some (.ref r4)) hd ha0 rfl h
          · rw [if_neg hc12] at h
            by_cases hc15 : a2 = (4 : Int32)
            · rw [if_pos hc15] at h
              refine fx_tabIn (t := 108) dX11_on_24 rfl (by rw [hc15]; decide) (by rw [hc15]; decide) (by rw [hc15]; rfl) rfl ?_
              refine fx_aload_n dX11_on_108 rfl rfl ?_
              obtain ⟨x16, hx16, h⟩ := xLet_el h
              refine gx_get dX11_on_109 rfl fd_11_197 hpr4.1 rfl rfl hx16 ?_
              cases h
              exact fx_ireturn dX11_on_112 rfl rfl
            · rw [if_neg hc15] at h
              by_cases hc17 : a2 = (5 : Int32)
              · rw [if_pos hc17] at h
                refine fx_tabIn (t := 113) dX11_on_24 rfl (by rw [hc17]; decide) (by rw [hc17]; decide) (by rw [hc17]; rfl) rfl ?_
                refine fx_aload_n dX11_on_113 rfl rfl ?_
                obtain ⟨x18, hx18, h⟩ := xLet_el h
                refine gx_get dX11_on_114 rfl fd_11_200 hpr4.1 rfl rfl hx18 ?_
                cases h
                exact fx_ireturn dX11_on_117 rfl rfl
              · rw [if_neg hc17] at h
                by_cases hc19 : a2 = (6 : Int32)
                · rw [if_pos hc19] at h
                  refine fx_tabIn (t := 118) dX11_on_24 rfl (by rw [hc19]; decide) (by rw [hc19]; decide) (by rw [hc19]; rfl) rfl ?_
                  refine fx_aload_n dX11_on_118 rfl rfl ?_
                  obtain ⟨x20, hx20, h⟩ := xLet_el h
                  refine gx_get dX11_on_119 rfl fd_11_203 hpr4.1 rfl rfl hx20 ?_
                  cases h
                  exact fx_ireturn dX11_on_122 rfl rfl
                · rw [if_neg hc19] at h
                  by_cases hc21 : a2 = (7 : Int32)
                  · rw [if_pos hc21] at h
                    refine fx_tabIn (t := 123) dX11_on_24 rfl (by rw [hc21]; decide) (by rw [hc21]; decide) (by rw [hc21]; rfl) rfl ?_
                    refine fx_aload_n dX11_on_123 rfl rfl ?_
                    obtain ⟨x22, hx22, h⟩ := xLet_el h
                    refine gx_get dX11_on_124 rfl fd_11_93 hpr4.1 rfl rfl hx22 ?_
                    cases h
                    exact fx_ireturn dX11_on_127 rfl rfl
                  · rw [if_neg hc21] at h
                    have e0 : a2.toInt ≠ 0 := fun q => hc5 (Int32.toInt_inj.mp (q.trans (by decide)))
                    have e1 : a2.toInt ≠ 1 := fun q => hc7 (Int32.toInt_inj.mp (q.trans (by decide)))
                    have e2 : a2.toInt ≠ 2 := fun q => hc9 (Int32.toInt_inj.mp (q.trans (by decide)))
                    have e3 : a2.toInt ≠ 3 := fun q => hc12 (Int32.toInt_inj.mp (q.trans (by decide)))
                    have e4 : a2.toInt ≠ 4 := fun q => hc15 (Int32.toInt_inj.mp (q.trans (by decide)))
                    have e5 : a2.toInt ≠ 5 := fun q => hc17 (Int32.toInt_inj.mp (q.trans (by decide)))
                    have e6 : a2.toInt ≠ 6 := fun q => hc19 (Int32.toInt_inj.mp (q.trans (by decide)))
                    have e7 : a2.toInt ≠ 7 := fun q => hc21 (Int32.toInt_inj.mp (q.trans (by decide)))
                    refine fx_tabOut (t := 128) dX11_on_24 rfl (by omega) rfl ?_
                    refine fx_iconst (x := -1) dX11_on_128 rfl (by decide) ?_
                    cases h
                    exact fx_ireturn dX11_on_129 rfl rfl
  · rw [if_neg hc2] at h
    refine fx_iconst (x := -1) dX11_on_11 rfl (by decide) ?_
    cases h
    exact fx_ireturn dX11_on_12 rfl rfl
def fX11_on (a0 : Nat) (a1 : Int32) (a2 : Int32) (m : xMem) : Option (Int32 × xMem) := fX11_on_0 a0 a1 a2  m
theorem fX11_on_ok {a0 : Nat} {a1 : Int32} {a2 : Int32} {m : xMem} {r : (Int32 × xMem)} {d : Nat} (hd : 2 ≤ d) (ha0 : isMS a0) (h : fX11_on a0 a1 a2 m = some r) : xEx d 195 [.ref a0, .int a1, .int a2] (xLay m) (some (.int r.1)) (xLay r.2) := by
  obtain ⟨d, rfl⟩ : ∃ q, d = q + 1 := ⟨d - 1, by omega⟩
  exact xEx_of me_195 rfl (fX11_on_0_ok (d := d) (o3 := none) (by omega) ha0 rfl h)
def fX12_on_0 (a0 : Nat) (a1 : Int32) (a2 : Int32) (m : xMem) : Option (Int32 × xMem) := (fX12_isLink a0 a1 m).bind fun p1 => if ¬ p1.1 = (0 : Int32) then if a2 = (0 : Int32) then (fX12_loadOf a0 a1 p1.2).bind fun p4 => some (p4.1, p4.2) else if a2 = (1 : Int32) then (fX12_linkOf a0 a1 (5 : Int32) p1.2).bind fun p6 => some (p6.1, p6.2) else if a2 = (2 : Int32) then (fX12_linkOf a0 a1 (6 : Int32) p1.2).bind fun p8 => some (p8.1, p8.2) else if a2 = (3 : Int32) then (fX12_linkOf a0 a1 (9 : Int32) p1.2).bind fun p10 => some (p10.1, p10.2) else if a2 = (4 : Int32) then (fX12_linkOf a0 a1 (7 : Int32) p1.2).bind fun p12 => some (p12.1, p12.2) else if a2 = (5 : Int32) then (fX12_linkOf a0 a1 (10 : Int32) p1.2).bind fun p14 => some (p14.1, p14.2) else if a2 = (6 : Int32) then (fX12_linkOf a0 a1 (11 : Int32) p1.2).bind fun p16 => some (p16.1, p16.2) else if a2 = (7 : Int32) then (fX12_linkOf a0 a1 (8 : Int32) p1.2).bind fun p18 => some (p18.1, p18.2) else some ((-1 : Int32), p1.2) else some ((-1 : Int32), p1.2)
set_option maxRecDepth 4000 in
theorem fX12_on_0_ok {a0 : Nat} {a1 : Int32} {a2 : Int32} {d : Nat} (hd : 2 ≤ d) (ha0 : isModel a0) {m : xMem} {r : (Int32 × xMem)} (h : fX12_on_0 a0 a1 a2 m = some r) : xFx hh_196 cX12_on d 0 [some (.ref a0), some (.int a1), some (.int a2)] [] (xLay m) 0 0 (some (.int r.1)) (xLay r.2) := by
  unfold fX12_on_0 at h
  refine fx_aload_n dX12_on_0 rfl rfl ?_
  refine fx_iload_n dX12_on_1 rfl rfl ?_
  obtain ⟨p1, ep1, h⟩ := xBind_el h
  refine gx_callv (as := [.int a1]) (r := []) rfl dX12_on_2 ca_12_99 rfl me_33 rfl rfl rfl rfl (ha0.1) rfl (fX12_isLink_ok (d := d) (by omega) ha0 ep1) rfl rfl ?_
  refine fx_if_ne (t := 10) dX12_on_5 rfl rfl (fun hc2 => ?_) (fun hc2 => ?_)
  · rw [if_pos hc2] at h
    refine fx_iload_n dX12_on_10 rfl rfl ?_
    by_cases hc3 : a2 = (0 : Int32)
    · rw [if_pos hc3] at h
      refine fx_tabIn (t := 56) dX12_on_11 rfl (by rw [hc3]; decide) (by rw [hc3]; decide) (by rw [hc3]; rfl) rfl ?_
      refine fx_aload_n dX12_on_56 rfl rfl ?_
      refine fx_iload_n dX12_on_57 rfl rfl ?_
      obtain ⟨p4, ep4, h⟩ := xBind_el h
      refine gx_callv (as := [.int a1]) (r := []) rfl dX12_on_58 ca_12_117 rfl me_35 rfl rfl rfl rfl (ha0.1) rfl (fX12_loadOf_ok (d := d) (by omega) ha0 ep4) rfl rfl ?_
      cases h
      exact fx_ireturn dX12_on_61 rfl rfl
    · rw [if_neg hc3] at h
      by_cases hc5 : a2 = (1 : Int32)
      · rw [if_pos hc5] at h
        refine fx_tabIn (t := 62) dX12_on_11 rfl (by rw [hc5]; decide) (by rw [hc5]; decide) (by rw [hc5]; rfl) rfl ?_
        refine fx_aload_n dX12_on_62 rfl rfl ?_
        refine fx_iload_n dX12_on_63 rfl rfl ?_
        refine fx_iconst (x := 5) dX12_on_64 rfl (by decide) ?_
        obtain ⟨p6, ep6, h⟩ := xBind_el h
        refine gx_callv (as := [.int a1, .int (5 : Int32)]) (r := []) rfl dX12_on_65 ca_12_103 rfl me_34 rfl rfl rfl rfl (ha0.1) rfl (fX12_linkOf_ok (d := d) (by omega) ha0 ep6) rfl rfl ?_
        cases h
        exact fx_ireturn dX12_on_68 rfl rfl
      · rw [if_neg hc5] at h
        by_cases hc7 : a2 = (2 : Int32)
        · rw [if_pos hc7] at h
          refine fx_tabIn (t := 69) dX12_on_11 rfl (by rw [hc7]; decide) (by rw [hc7]; decide) (by rw [hc7]; rfl) rfl ?_
          refine fx_aload_n dX12_on_69 rfl rfl ?_
          refine fx_iload_n dX12_on_70 rfl rfl ?_
          refine fx_bipush (x := 6) dX12_on_71 rfl (by decide) ?_
          obtain ⟨p8, ep8, h⟩ := xBind_el h
          refine gx_callv (as := [.int a1, .int (6 : Int32)]) (r := []) rfl dX12_on_73 ca_12_103 rfl me_34 rfl rfl rfl rfl (ha0.1) rfl (fX12_linkOf_ok (d := d) (by omega) ha0 ep8) rfl rfl ?_
          cases h
          exact fx_ireturn dX12_on_76 rfl rfl
        · rw [if_neg hc7] at h
          by_cases hc9 : a2 = (3 : Int32)
          · rw [if_pos hc9] at h
            refine fx_tabIn (t := 77) dX12_on_11 rfl (by rw [hc9]; decide) (by rw [hc9]; decide) (by rw [hc9]; rfl) rfl ?_
            refine fx_aload_n dX12_on_77 rfl rfl ?_
            refine fx_iload_n dX12_on_78 rfl rfl ?_
            refine fx_bipush (x := 9) dX12_on_79 rfl (by decide) ?_
            obtain ⟨p10, ep10, h⟩ := xBind_el h
            refine gx_callv (as := [.int a1, .int (9 : Int32)]) (r := []) rfl dX12_on_81 ca_12_103 rfl me_34 rfl rfl rfl rfl (ha0.1) rfl (fX12_linkOf_ok (d := d) (by omega) ha0 ep10) rfl rfl ?_
            cases h
            exact fx_ireturn dX12_on_84 rfl rfl
          · rw [if_neg hc9] at h
            by_cases hc11 : a2 = (4 : Int32)
            · rw [if_pos hc11] at h
              refine fx_tabIn (t := 85) dX12_on_11 rfl (by rw [hc11]; decide) (by rw [hc11]; decide) (by rw [hc11]; rfl) rfl ?_
              refine fx_aload_n dX12_on_85 rfl rfl ?_
              refine fx_iload_n dX12_on_86 rfl rfl ?_
              refine fx_bipush (x := 7) dX12_on_87 rfl (by decide) ?_
              obtain ⟨p12, ep12, h⟩ := xBind_el h
              refine gx_callv (as := [.int a1, .int (7 : Int32)]) (r := []) rfl dX12_on_89 ca_12_103 rfl me_34 rfl rfl rfl rfl (ha0.1) rfl (fX12_linkOf_ok (d := d) (by omega) ha0 ep12) rfl rfl ?_
              cases h
              exact fx_ireturn dX12_on_92 rfl rfl
            · rw [if_neg hc11] at h
              by_cases hc13 : a2 = (5 : Int32)
              · rw [if_pos hc13] at h
                refine fx_tabIn (t := 93) dX12_on_11 rfl (by rw [hc13]; decide) (by rw [hc13]; decide) (by rw [hc13]; rfl) rfl ?_
                refine fx_aload_n dX12_on_93 rfl rfl ?_
                refine fx_iload_n dX12_on_94 rfl rfl ?_
                refine fx_bipush (x := 10) dX12_on_95 rfl (by decide) ?_
                obtain ⟨p14, ep14, h⟩ := xBind_el h
                refine gx_callv (as := [.int a1, .int (10 : Int32)]) (r := []) rfl dX12_on_97 ca_12_103 rfl me_34 rfl rfl rfl rfl (ha0.1) rfl (fX12_linkOf_ok (d := d) (by omega) ha0 ep14) rfl rfl ?_
                cases h
                exact fx_ireturn dX12_on_100 rfl rfl
              · rw [if_neg hc13] at h
                by_cases hc15 : a2 = (6 : Int32)
                · rw [if_pos hc15] at h
                  refine fx_tabIn (t := 101) dX12_on_11 rfl (by rw [hc15]; decide) (by rw [hc15]; decide) (by rw [hc15]; rfl) rfl ?_
                  refine fx_aload_n dX12_on_101 rfl rfl ?_
                  refine fx_iload_n dX12_on_102 rfl rfl ?_
                  refine fx_bipush (x := 11) dX12_on_103 rfl (by decide) ?_
                  obtain ⟨p16, ep16, h⟩ := xBind_el h
                  refine gx_callv (as := [.int a1, .int (11 : Int32)]) (r := []) rfl dX12_on_105 ca_12_103 rfl me_34 rfl rfl rfl rfl (ha0.1) rfl (fX12_linkOf_ok (d := d) (by omega) ha0 ep16) rfl rfl ?_
                  cases h
                  exact fx_ireturn dX12_on_108 rfl rfl
                · rw [if_neg hc15] at h
                  by_cases hc17 : a2 = (7 : Int32)
                  · rw [if_pos hc17] at h
                    refine fx_tabIn (t := 109) dX12_on_11 rfl (by rw [hc17]; decide) (by rw [hc17]; decide) (by rw [hc17]; rfl) rfl ?_
                    refine fx_aload_n dX12_on_109 rfl rfl ?_
                    refine fx_iload_n dX12_on_110 rfl rfl ?_
                    refine fx_bipush (x := 8) dX12_on_111 rfl (by decide) ?_
                    obtain ⟨p18, ep18, h⟩ := xBind_el h
                    refine gx_callv (as := [.int a1, .int (8 : Int32)]) (r := []) rfl dX12_on_113 ca_12_103 rfl me_34 rfl rfl rfl rfl (ha0.1) rfl (fX12_linkOf_ok (d := d) (by omega) ha0 ep18) rfl rfl ?_
                    cases h
                    exact fx_ireturn dX12_on_116 rfl rfl
                  · rw [if_neg hc17] at h
                    have e0 : a2.toInt ≠ 0 := fun q => hc3 (Int32.toInt_inj.mp (q.trans (by decide)))
                    have e1 : a2.toInt ≠ 1 := fun q => hc5 (Int32.toInt_inj.mp (q.trans (by decide)))
                    have e2 : a2.toInt ≠ 2 := fun q => hc7 (Int32.toInt_inj.mp (q.trans (by decide)))
                    have e3 : a2.toInt ≠ 3 := fun q => hc9 (Int32.toInt_inj.mp (q.trans (by decide)))
                    have e4 : a2.toInt ≠ 4 := fun q => hc11 (Int32.toInt_inj.mp (q.trans (by decide)))
                    have e5 : a2.toInt ≠ 5 := fun q => hc13 (Int32.toInt_inj.mp (q.trans (by decide)))
                    have e6 : a2.toInt ≠ 6 := fun q => hc15 (Int32.toInt_inj.mp (q.trans (by decide)))
                    have e7 : a2.toInt ≠ 7 := fun q => hc17 (Int32.toInt_inj.mp (q.trans (by decide)))
                    refine fx_tabOut (t := 117) dX12_on_11 rfl (by omega) rfl ?_
                    refine fx_iconst (x := -1) dX12_on_117 rfl (by decide) ?_
                    cases h
                    exact fx_ireturn dX12_on_118 rfl rfl
  · rw [if_neg hc2] at h
    refine fx_iconst (x := -1) dX12_on_8 rfl (by decide) ?_
    cases h
    exact fx_ireturn dX12_on_9 rfl rfl
def fX12_on (a0 : Nat) (a1 : Int32) (a2 : Int32) (m : xMem) : Option (Int32 × xMem) := fX12_on_0 a0 a1 a2  m
theorem fX12_on_ok {a0 : Nat} {a1 : Int32} {a2 : Int32} {m : xMem} {r : (Int32 × xMem)} {d : Nat} (hd : 3 ≤ d) (ha0 : isModel a0) (h : fX12_on a0 a1 a2 m = some r) : xEx d 196 [.ref a0, .int a1, .int a2] (xLay m) (some (.int r.1)) (xLay r.2) := by
  obtain ⟨d, rfl⟩ : ∃ q, d = q + 1 := ⟨d - 1, by omega⟩
  exact xEx_of me_196 rfl (fX12_on_0_ok (d := d) (by omega) ha0 h)
def fX11_step_42 (a0 : Nat) (a1 : Int32) (a2 : Int32) (a3 : Int32) (m : xMem) : Option (Int32 × xMem) := some ((-1 : Int32), m)
set_option maxRecDepth 4000 in
theorem fX11_step_42_ok {a0 : Nat} {a1 : Int32} {a2 : Int32} {a3 : Int32} {d : Nat} (hd : 2 ≤ d) (ha0 : isMS a0) {m : xMem} {r : (Int32 × xMem)} (h : fX11_step_42 a0 a1 a2 a3 m = some r) : xFx hh_197 cX11_step d 42 [some (.ref a0), some (.int a1), some (.int a2), some (.int a3)] [] (xLay m) 0 0 (some (.int r.1)) (xLay r.2) := by
  unfold fX11_step_42 at h
  refine fx_iconst (x := -1) dX11_step_42 rfl (by decide) ?_
  cases h
  exact fx_ireturn dX11_step_43 rfl rfl
def fX11_step_0 (a0 : Nat) (a1 : Int32) (a2 : Int32) (a3 : Int32) (m : xMem) : Option (Int32 × xMem) := (fX9_hasStepped (a0 + 1) a1 m).bind fun p1 => if p1.1 = (0 : Int32) then fX11_step_42 a0 a1 a2 a3 p1.2 else (fX11_within a2 (0 : Int32) (1 : Int32) p1.2).bind fun p3 => if p3.1 = (0 : Int32) then fX11_step_42 a0 a1 a2 a3 p3.2 else bif xIn a1 10 then xLet (a0 + 1 + 33 + 2 * a1.toNatClampNeg) fun r6 => xLet (p3.2.1 r6 4) fun x7 => xLet (x7 - (1 : Int32)) fun x8 => (fX11_within a3 (0 : Int32) x8 p3.2).bind fun p9 => if ¬ p9.1 = (0 : Int32) then bif xIn a1 10 then xLet (a0 + 1 + 33 + 2 * a1.toNatClampNeg) fun r12 => (fX3_who r12 a2 a3 p9.2).bind fun p13 => some (p13.1, p13.2) else none else fX11_step_42 a0 a1 a2 a3 p9.2 else none
set_option maxRecDepth 4000 in
theorem fX11_step_0_ok {a0 : Nat} {a1 : Int32} {a2 : Int32} {a3 : Int32} {d : Nat} (hd : 2 ≤ d) (ha0 : isMS a0) {m : xMem} {r : (Int32 × xMem)} (h : fX11_step_0 a0 a1 a2 a3 m = some r) : xFx hh_197 cX11_step d 0 [some (.ref a0), some (.int a1), some (.int a2), some (.int a3)] [] (xLay m) 0 0 (some (.int r.1)) (xLay r.2) := by
  unfold fX11_step_0 at h
  refine fx_aload_n dX11_step_0 rfl rfl ?_
  refine gx_getr dX11_step_1 rfl fd_11_10 ha0.1 rfl rfl ?_
  refine fx_iload_n dX11_step_4 rfl rfl ?_
  obtain ⟨p1, ep1, h⟩ := xBind_el h
  refine gx_callv (as := [.int a1]) (r := []) rfl dX11_step_5 ca_11_84 rfl me_28 rfl rfl rfl rfl (ha0.2.1.1) rfl (fX9_hasStepped_ok (d := d) (by omega) ha0.2.1 ep1) rfl rfl ?_
  refine fx_if_eq (t := 42) dX11_step_8 rfl rfl (fun hc2 => ?_) (fun hc2 => ?_)
  · rw [if_pos hc2] at h
    exact fX11_step_42_ok hd ha0 h
  · rw [if_neg hc2] at h
    refine fx_iload_n dX11_step_11 rfl rfl ?_
    refine fx_iconst (x := 0) dX11_step_12 rfl (by decide) ?_
    refine fx_iconst (x := 1) dX11_step_13 rfl (by decide) ?_
    obtain ⟨p3, ep3, h⟩ := xBind_el h
    refine gx_calls (as := [.int a2, .int (0 : Int32), .int (1 : Int32)]) (r := []) rfl dX11_step_14 ca_11_47 rfl me_14 rfl rfl rfl rfl (fX11_within_ok (d := d) (by omega) ep3) rfl rfl ?_
    refine fx_if_eq (t := 42) dX11_step_17 rfl rfl (fun hc4 => ?_) (fun hc4 => ?_)
    · rw [if_pos hc4] at h
      exact fX11_step_42_ok hd ha0 h
    · rw [if_neg hc4] at h
      refine fx_iload_n dX11_step_20 rfl rfl ?_
      refine fx_iconst (x := 0) dX11_step_21 rfl (by decide) ?_
      refine fx_aload_n dX11_step_22 rfl rfl ?_
      refine gx_getr dX11_step_23 rfl fd_11_10 ha0.1 rfl rfl ?_
      refine gx_getr dX11_step_26 rfl fd_11_75 ha0.2.1.1 rfl rfl ?_
      refine fx_iload_n dX11_step_29 rfl rfl ?_
      obtain ⟨hj5, h⟩ := xChk_el h
      obtain ⟨r6, hr6, h⟩ := xLet_el h
      refine gx_aaload (t := 5) dX11_step_30 rfl ha0.2.1.2.2.1 rfl hj5 ((xRef_at (sl_9_1 (a0 + 1)) hj5).trans (congrArg some hr6)) ?_
      have hpr6 : isLink r6 := by rw [← hr6]; exact ha0.2.1.2.2.2.2.2.2.2.2.1 _ (xIn_lt hj5)
      obtain ⟨x7, hx7, h⟩ := xLet_el h
      refine gx_get dX11_step_31 rfl fd_11_206 hpr6.1 rfl rfl hx7 ?_
      refine fx_iconst (x := 1) dX11_step_34 rfl (by decide) ?_
      obtain ⟨x8, hx8, h⟩ := xLet_el h
      refine fx_isub dX11_step_35 rfl hx8 ?_
      obtain ⟨p9, ep9, h⟩ := xBind_el h
      refine gx_calls (as := [.int a3, .int (0 : Int32), .int x8]) (r := []) rfl dX11_step_36 ca_11_47 rfl me_14 rfl rfl rfl rfl (fX11_within_ok (d := d) (by omega) ep9) rfl rfl ?_
      refine fx_if_ne (t := 44) dX11_step_39 rfl rfl (fun hc10 => ?_) (fun hc10 => ?_)
      · rw [if_pos hc10] at h
        refine fx_aload_n dX11_step_44 rfl rfl ?_
        refine gx_getr dX11_step_45 rfl fd_11_10 ha0.1 rfl rfl ?_
        refine gx_getr dX11_step_48 rfl fd_11_75 ha0.2.1.1 rfl rfl ?_
        refine fx_iload_n dX11_step_51 rfl rfl ?_
        obtain ⟨hj11, h⟩ := xChk_el h
        obtain ⟨r12, hr12, h⟩ := xLet_el h
        refine gx_aaload (t := 5) dX11_step_52 rfl ha0.2.1.2.2.1 rfl hj11 ((xRef_at (sl_9_1 (a0 + 1)) hj11).trans (congrArg some hr12)) ?_
        have hpr12 : isLink r12 := by rw [← hr12]; exact ha0.2.1.2.2.2.2.2.2.2.2.1 _ (xIn_lt hj11)
        refine fx_iload_n dX11_step_53 rfl rfl ?_
        refine fx_iload_n dX11_step_54 rfl rfl ?_
        obtain ⟨p13, ep13, h⟩ := xBind_el h
        refine gx_callv (as := [.int a2, .int a3]) (r := []) rfl dX11_step_55 ca_11_207 rfl me_152 rfl rfl rfl rfl (hpr12.1) rfl (fX3_who_ok (d := d) (by omega) hpr12 ep13) rfl rfl ?_
        cases h
        exact fx_ireturn dX11_step_58 rfl rfl
      · rw [if_neg hc10] at h
        exact fX11_step_42_ok hd ha0 h
def fX11_step (a0 : Nat) (a1 : Int32) (a2 : Int32) (a3 : Int32) (m : xMem) : Option (Int32 × xMem) := fX11_step_0 a0 a1 a2 a3  m
theorem fX11_step_ok {a0 : Nat} {a1 : Int32} {a2 : Int32} {a3 : Int32} {m : xMem} {r : (Int32 × xMem)} {d : Nat} (hd : 3 ≤ d) (ha0 : isMS a0) (h : fX11_step a0 a1 a2 a3 m = some r) : xEx d 197 [.ref a0, .int a1, .int a2, .int a3] (xLay m) (some (.int r.1)) (xLay r.2) := by
  obtain ⟨d, rfl⟩ : ∃ q, d = q + 1 := ⟨d - 1, by omega⟩
  exact xEx_of me_197 rfl (fX11_step_0_ok (d := d) (by omega) ha0 h)
def fX12_step_49 (a0 : Nat) (a1 : Int32) (a2 : Int32) (a3 : Int32) (s0 : Int32) (m : xMem) : Option (Int32 × xMem) := some (s0, m)
set_option maxRecDepth 4000 in
theorem fX12_step_49_ok {a0 : Nat} {a1 : Int32} {a2 : Int32} {a3 : Int32} {d : Nat} (hd : 3 ≤ d) (ha0 : isModel a0) {s0 : Int32} {m : xMem} {r : (Int32 × xMem)} (h : fX12_step_49 a0 a1 a2 a3 s0 m = some r) : xFx hh_198 cX12_step d 49 [some (.ref a0), some (.int a1), some (.int a2), some (.int a3)] [.int s0] (xLay m) 0 0 (some (.int r.1)) (xLay r.2) := by
  unfold fX12_step_49 at h
  cases h
  exact fx_ireturn dX12_step_49 rfl rfl
def fX12_step_48 (a0 : Nat) (a1 : Int32) (a2 : Int32) (a3 : Int32) (m : xMem) : Option (Int32 × xMem) := fX12_step_49 a0 a1 a2 a3 (-1 : Int32) m
set_option maxRecDepth 4000 in
theorem fX12_step_48_ok {a0 : Nat} {a1 : Int32} {a2 : Int32} {a3 : Int32} {d : Nat} (hd : 3 ≤ d) (ha0 : isModel a0) {m : xMem} {r : (Int32 × xMem)} (h : fX12_step_48 a0 a1 a2 a3 m = some r) : xFx hh_198 cX12_step d 48 [some (.ref a0), some (.int a1), some (.int a2), some (.int a3)] [] (xLay m) 0 0 (some (.int r.1)) (xLay r.2) := by
  unfold fX12_step_48 at h
  refine fx_iconst (x := -1) dX12_step_48 rfl (by decide) ?_
  exact fX12_step_49_ok hd ha0 h
def fX12_step_0 (a0 : Nat) (a1 : Int32) (a2 : Int32) (a3 : Int32) (m : xMem) : Option (Int32 × xMem) := (fX12_isStairs a0 a1 m).bind fun p1 => if p1.1 = (0 : Int32) then fX12_step_48 a0 a1 a2 a3 p1.2 else (fX12_in a2 (0 : Int32) (1 : Int32) p1.2).bind fun p3 => if p3.1 = (0 : Int32) then fX12_step_48 a0 a1 a2 a3 p3.2 else (fX12_linkOf a0 a1 (3 : Int32) p3.2).bind fun p5 => xLet (p5.1 - (1 : Int32)) fun x6 => (fX12_in a3 (0 : Int32) x6 p5.2).bind fun p7 => if p7.1 = (0 : Int32) then fX12_step_48 a0 a1 a2 a3 p7.2 else (fX12_placeOf a0 a1 a2 a3 p7.2).bind fun p9 => bif xIn p9.1 1610 then xLet (p9.2.1 (a0 + 1) p9.1.toNatClampNeg) fun x10 => fX12_step_49 a0 a1 a2 a3 x10 p9.2 else none
set_option maxRecDepth 4000 in
theorem fX12_step_0_ok {a0 : Nat} {a1 : Int32} {a2 : Int32} {a3 : Int32} {d : Nat} (hd : 3 ≤ d) (ha0 : isModel a0) {m : xMem} {r : (Int32 × xMem)} (h : fX12_step_0 a0 a1 a2 a3 m = some r) : xFx hh_198 cX12_step d 0 [some (.ref a0), some (.int a1), some (.int a2), some (.int a3)] [] (xLay m) 0 0 (some (.int r.1)) (xLay r.2) := by
  unfold fX12_step_0 at h
  refine fx_aload_n dX12_step_0 rfl rfl ?_
  refine fx_iload_n dX12_step_1 rfl rfl ?_
  obtain ⟨p1, ep1, h⟩ := xBind_el h
  refine gx_callv (as := [.int a1]) (r := []) rfl dX12_step_2 ca_12_114 rfl me_32 rfl rfl rfl rfl (ha0.1) rfl (fX12_isStairs_ok (d := d) (by omega) ha0 ep1) rfl rfl ?_
  refine fx_if_eq (t := 48) dX12_step_5 rfl rfl (fun hc2 => ?_) (fun hc2 => ?_)
  · rw [if_pos hc2] at h
    exact fX12_step_48_ok hd ha0 h
  · rw [if_neg hc2] at h
    refine fx_iload_n dX12_step_8 rfl rfl ?_
    refine fx_iconst (x := 0) dX12_step_9 rfl (by decide) ?_
    refine fx_iconst (x := 1) dX12_step_10 rfl (by decide) ?_
    obtain ⟨p3, ep3, h⟩ := xBind_el h
    refine gx_calls (as := [.int a2, .int (0 : Int32), .int (1 : Int32)]) (r := []) rfl dX12_step_11 ca_12_95 rfl me_18 rfl rfl rfl rfl (fX12_in_ok (d := d) (by omega) ep3) rfl rfl ?_
    refine fx_if_eq (t := 48) dX12_step_14 rfl rfl (fun hc4 => ?_) (fun hc4 => ?_)
    · rw [if_pos hc4] at h
      exact fX12_step_48_ok hd ha0 h
    · rw [if_neg hc4] at h
      refine fx_iload_n dX12_step_17 rfl rfl ?_
      refine fx_iconst (x := 0) dX12_step_18 rfl (by decide) ?_
      refine fx_aload_n dX12_step_19 rfl rfl ?_
      refine fx_iload_n dX12_step_20 rfl rfl ?_
      refine fx_iconst (x := 3) dX12_step_21 rfl (by decide) ?_
      obtain ⟨p5, ep5, h⟩ := xBind_el h
      refine gx_callv (as := [.int a1, .int (3 : Int32)]) (r := [.int (0 : Int32), .int a3]) rfl dX12_step_22 ca_12_103 rfl me_34 rfl rfl rfl rfl (ha0.1) rfl (fX12_linkOf_ok (d := d) (by omega) ha0 ep5) rfl rfl ?_
      refine fx_iconst (x := 1) dX12_step_25 rfl (by decide) ?_
      obtain ⟨x6, hx6, h⟩ := xLet_el h
      refine fx_isub dX12_step_26 rfl hx6 ?_
      obtain ⟨p7, ep7, h⟩ := xBind_el h
      refine gx_calls (as := [.int a3, .int (0 : Int32), .int x6]) (r := []) rfl dX12_step_27 ca_12_95 rfl me_18 rfl rfl rfl rfl (fX12_in_ok (d := d) (by omega) ep7) rfl rfl ?_
      refine fx_if_eq (t := 48) dX12_step_30 rfl rfl (fun hc8 => ?_) (fun hc8 => ?_)
      · rw [if_pos hc8] at h
        exact fX12_step_48_ok hd ha0 h
      · rw [if_neg hc8] at h
        refine fx_aload_n dX12_step_33 rfl rfl ?_
        refine gx_getr dX12_step_34 rfl fd_12_7 ha0.1 rfl rfl ?_
        refine fx_aload_n dX12_step_37 rfl rfl ?_
        refine fx_iload_n dX12_step_38 rfl rfl ?_
        refine fx_iload_n dX12_step_39 rfl rfl ?_
        refine fx_iload_n dX12_step_40 rfl rfl ?_
        obtain ⟨p9, ep9, h⟩ := xBind_el h
        refine gx_callv (as := [.int a1, .int a2, .int a3]) (r := [.ref (a0 + 1)]) rfl dX12_step_41 ca_12_334 rfl me_183 rfl rfl rfl rfl (ha0.1) rfl (fX12_placeOf_ok (d := d) (by omega) ha0 ep9) rfl rfl ?_
        obtain ⟨hj11, h⟩ := xChk_el h
        obtain ⟨x10, hx10, h⟩ := xLet_el h
        refine gx_iaload dX12_step_44 rfl ha0.2.1 hj11 hx10 ?_
        refine fx_goto (t := 49) dX12_step_45 rfl rfl ?_
        exact fX12_step_49_ok hd ha0 h
def fX12_step (a0 : Nat) (a1 : Int32) (a2 : Int32) (a3 : Int32) (m : xMem) : Option (Int32 × xMem) := fX12_step_0 a0 a1 a2 a3  m
theorem fX12_step_ok {a0 : Nat} {a1 : Int32} {a2 : Int32} {a3 : Int32} {m : xMem} {r : (Int32 × xMem)} {d : Nat} (hd : 4 ≤ d) (ha0 : isModel a0) (h : fX12_step a0 a1 a2 a3 m = some r) : xEx d 198 [.ref a0, .int a1, .int a2, .int a3] (xLay m) (some (.int r.1)) (xLay r.2) := by
  obtain ⟨d, rfl⟩ : ∃ q, d = q + 1 := ⟨d - 1, by omega⟩
  exact xEx_of me_198 rfl (fX12_step_0_ok (d := d) (by omega) ha0 h)
def fX11_route_22 (a0 : Nat) (a1 : Int32) (a2 : Int32) (a3 : Int32) (m : xMem) : Option (Int32 × xMem) := some ((-1 : Int32), m)
set_option maxRecDepth 4000 in
theorem fX11_route_22_ok {a0 : Nat} {a1 : Int32} {a2 : Int32} {a3 : Int32} {d : Nat} (hd : 5 ≤ d) (ha0 : isMS a0) {m : xMem} {r : (Int32 × xMem)} (h : fX11_route_22 a0 a1 a2 a3 m = some r) : xFx hh_199 cX11_route d 22 [some (.ref a0), some (.int a1), some (.int a2), some (.int a3)] [] (xLay m) 0 0 (some (.int r.1)) (xLay r.2) := by
  unfold fX11_route_22 at h
  refine fx_iconst (x := -1) dX11_route_22 rfl (by decide) ?_
  cases h
  exact fx_ireturn dX11_route_23 rfl rfl
def fX11_route_61 (a0 : Nat) (a1 : Int32) (a2 : Int32) (a3 : Int32) (s0 : Nat) (s1 : Int32) (m : xMem) : Option (Int32 × xMem) := (fX8_firstLink s0 s1 a1 a2 m).bind fun p1 => some (p1.1, p1.2)
set_option maxRecDepth 4000 in
theorem fX11_route_61_ok {a0 : Nat} {a1 : Int32} {a2 : Int32} {a3 : Int32} {d : Nat} (hd : 5 ≤ d) (ha0 : isMS a0) {s0 : Nat} {s1 : Int32} {m : xMem} {r : (Int32 × xMem)} (hs0 : isRoutes s0) (h : fX11_route_61 a0 a1 a2 a3 s0 s1 m = some r) : xFx hh_199 cX11_route d 61 [some (.ref a0), some (.int a1), some (.int a2), some (.int a3)] [.int s1, .ref s0] (xLay m) 0 0 (some (.int r.1)) (xLay r.2) := by
  unfold fX11_route_61 at h
  refine fx_iload_n dX11_route_61 rfl rfl ?_
  refine fx_iload_n dX11_route_62 rfl rfl ?_
  obtain ⟨p1, ep1, h⟩ := xBind_el h
  refine gx_callv (as := [.int s1, .int a1, .int a2]) (r := []) rfl dX11_route_63 ca_11_221 rfl me_146 rfl rfl rfl rfl (hs0.1) rfl (fX8_firstLink_ok (d := d) (by omega) hs0 ep1) rfl rfl ?_
  cases h
  exact fx_ireturn dX11_route_66 rfl rfl
def fX11_route_0 (a0 : Nat) (a1 : Int32) (a2 : Int32) (a3 : Int32) (m : xMem) : Option (Int32 × xMem) := (fX9_hasHall (a0 + 1) a1 m).bind fun p1 => if p1.1 = (0 : Int32) then fX11_route_22 a0 a1 a2 a3 p1.2 else (fX9_hasHall (a0 + 1) a2 p1.2).bind fun p3 => if ¬ p3.1 = (0 : Int32) then (fX6_forgetRoutes (a0 + 250) p3.2).bind fun p5 => (fX8_find (a0 + 250 + 1) (a0 + 1) p5).bind fun p6 => if a3 = (0 : Int32) then fX11_route_61 a0 a1 a2 a3 (a0 + 250 + 1) (0 : Int32) p6 else fX11_route_61 a0 a1 a2 a3 (a0 + 250 + 1) (1 : Int32) p6 else fX11_route_22 a0 a1 a2 a3 p3.2
set_option maxRecDepth 4000 in
theorem fX11_route_0_ok {a0 : Nat} {a1 : Int32} {a2 : Int32} {a3 : Int32} {d : Nat} (hd : 5 ≤ d) (ha0 : isMS a0) {m : xMem} {r : (Int32 × xMem)} (h : fX11_route_0 a0 a1 a2 a3 m = some r) : xFx hh_199 cX11_route d 0 [some (.ref a0), some (.int a1), some (.int a2), some (.int a3)] [] (xLay m) 0 0 (some (.int r.1)) (xLay r.2) := by
  unfold fX11_route_0 at h
  refine fx_aload_n dX11_route_0 rfl rfl ?_
  refine gx_getr dX11_route_1 rfl fd_11_10 ha0.1 rfl rfl ?_
  refine fx_iload_n dX11_route_4 rfl rfl ?_
  obtain ⟨p1, ep1, h⟩ := xBind_el h
  refine gx_callv (as := [.int a1]) (r := []) rfl dX11_route_5 ca_11_65 rfl me_20 rfl rfl rfl rfl (ha0.2.1.1) rfl (fX9_hasHall_ok (d := d) (by omega) ha0.2.1 ep1) rfl rfl ?_
  refine fx_if_eq (t := 22) dX11_route_8 rfl rfl (fun hc2 => ?_) (fun hc2 => ?_)
  · rw [if_pos hc2] at h
    exact fX11_route_22_ok hd ha0 h
  · rw [if_neg hc2] at h
    refine fx_aload_n dX11_route_11 rfl rfl ?_
    refine gx_getr dX11_route_12 rfl fd_11_10 ha0.1 rfl rfl ?_
    refine fx_iload_n dX11_route_15 rfl rfl ?_
    obtain ⟨p3, ep3, h⟩ := xBind_el h
    refine gx_callv (as := [.int a2]) (r := []) rfl dX11_route_16 ca_11_65 rfl me_20 rfl rfl rfl rfl (ha0.2.1.1) rfl (fX9_hasHall_ok (d := d) (by omega) ha0.2.1 ep3) rfl rfl ?_
    refine fx_if_ne (t := 24) dX11_route_19 rfl rfl (fun hc4 => ?_) (fun hc4 => ?_)
    · rw [if_pos hc4] at h
      refine fx_aload_n dX11_route_24 rfl rfl ?_
      refine gx_getr dX11_route_25 rfl fd_11_25 ha0.1 rfl rfl ?_
      obtain ⟨p5, ep5, h⟩ := xBind_el h
      refine gx_callv (as := []) (r := []) rfl dX11_route_28 ca_11_166 rfl me_118 rfl rfl rfl rfl (ha0.2.2.2.2.1.1) rfl (fX6_forgetRoutes_ok (d := d) (by omega) ha0.2.2.2.2.1 ep5) rfl rfl ?_
      refine fx_aload_n dX11_route_31 rfl rfl ?_
      refine gx_getr dX11_route_32 rfl fd_11_25 ha0.1 rfl rfl ?_
      refine gx_getr dX11_route_35 rfl fd_11_211 ha0.2.2.2.2.1.1 rfl rfl ?_
      refine fx_aload_n dX11_route_38 rfl rfl ?_
      refine gx_getr dX11_route_39 rfl fd_11_10 ha0.1 rfl rfl ?_
      obtain ⟨p6, ep6, h⟩ := xBind_el h
      refine gx_callv (as := [.ref (a0 + 1)]) (r := []) rfl dX11_route_42 ca_11_215 rfl me_133 rfl rfl rfl rfl (ha0.2.2.2.2.1.2.1.1) rfl (fX8_find_ok (d := d) (by omega) ha0.2.2.2.2.1.2.1 ha0.2.1 ep6) rfl rfl ?_
      refine fx_aload_n dX11_route_45 rfl rfl ?_
      refine gx_getr dX11_route_46 rfl fd_11_25 ha0.1 rfl rfl ?_
      refine gx_getr dX11_route_49 rfl fd_11_211 ha0.2.2.2.2.1.1 rfl rfl ?_
      refine fx_iload_n dX11_route_52 rfl rfl ?_
      refine fx_if_eq (t := 60) dX11_route_53 rfl rfl (fun hc7 => ?_) (fun hc7 => ?_)
      · rw [if_pos hc7] at h
        refine fx_iconst (x := 0) dX11_route_60 rfl (by decide) ?_
        exact fX11_route_61_ok hd ha0 ha0.2.2.2.2.1.2.1 h
      · rw [if_neg hc7] at h
        refine fx_iconst (x := 1) dX11_route_56 rfl (by decide) ?_
        refine fx_goto (t := 61) dX11_route_57 rfl rfl ?_
        exact fX11_route_61_ok hd ha0 ha0.2.2.2.2.1.2.1 h
    · rw [if_neg hc4] at h
      exact fX11_route_22_ok hd ha0 h
def fX11_route (a0 : Nat) (a1 : Int32) (a2 : Int32) (a3 : Int32) (m : xMem) : Option (Int32 × xMem) := fX11_route_0 a0 a1 a2 a3  m
theorem fX11_route_ok {a0 : Nat} {a1 : Int32} {a2 : Int32} {a3 : Int32} {m : xMem} {r : (Int32 × xMem)} {d : Nat} (hd : 6 ≤ d) (ha0 : isMS a0) (h : fX11_route a0 a1 a2 a3 m = some r) : xEx d 199 [.ref a0, .int a1, .int a2, .int a3] (xLay m) (some (.int r.1)) (xLay r.2) := by
  obtain ⟨d, rfl⟩ : ∃ q, d = q + 1 := ⟨d - 1, by omega⟩
  exact xEx_of me_199 rfl (fX11_route_0_ok (d := d) (by omega) ha0 h)
def fX12_route_16 (a0 : Nat) (a1 : Int32) (a2 : Int32) (a3 : Int32) (m : xMem) : Option (Int32 × xMem) := some ((-1 : Int32), m)
set_option maxRecDepth 4000 in
theorem fX12_route_16_ok {a0 : Nat} {a1 : Int32} {a2 : Int32} {a3 : Int32} {d : Nat} (hd : 4 ≤ d) (ha0 : isModel a0) {m : xMem} {r : (Int32 × xMem)} (h : fX12_route_16 a0 a1 a2 a3 m = some r) : xFx hh_200 cX12_route d 16 [some (.ref a0), some (.int a1), some (.int a2), some (.int a3)] [] (xLay m) 0 0 (some (.int r.1)) (xLay r.2) := by
  unfold fX12_route_16 at h
  refine fx_iconst (x := -1) dX12_route_16 rfl (by decide) ?_
  cases h
  exact fx_ireturn dX12_route_17 rfl rfl
def fX12_route_46 (a0 : Nat) (a1 : Int32) (a2 : Int32) (a3 : Int32) (s0 : Nat) (s1 : Int32) (m : xMem) : Option (Int32 × xMem) := xLet ((6 : Int32) * a2) fun x1 => xLet (s1 + x1) fun x2 => xLet (x2 + a1) fun x3 => bif xIn x3 72 then xLet (m.1 s0 x3.toNatClampNeg) fun x4 => some (x4, m) else none
set_option maxRecDepth 4000 in
theorem fX12_route_46_ok {a0 : Nat} {a1 : Int32} {a2 : Int32} {a3 : Int32} {d : Nat} (hd : 4 ≤ d) (ha0 : isModel a0) {s0 : Nat} {s1 : Int32} {m : xMem} {r : (Int32 × xMem)} (hs0 : xTmL[s0]? = some (101, 72, [])) (h : fX12_route_46 a0 a1 a2 a3 s0 s1 m = some r) : xFx hh_200 cX12_route d 46 [some (.ref a0), some (.int a1), some (.int a2), some (.int a3)] [.int s1, .ref s0] (xLay m) 0 0 (some (.int r.1)) (xLay r.2) := by
  unfold fX12_route_46 at h
  refine fx_bipush (x := 6) dX12_route_46 rfl (by decide) ?_
  refine fx_iload_n dX12_route_48 rfl rfl ?_
  obtain ⟨x1, hx1, h⟩ := xLet_el h
  refine fx_imul dX12_route_49 rfl hx1 ?_
  obtain ⟨x2, hx2, h⟩ := xLet_el h
  refine fx_iadd dX12_route_50 rfl hx2 ?_
  refine fx_iload_n dX12_route_51 rfl rfl ?_
  obtain ⟨x3, hx3, h⟩ := xLet_el h
  refine fx_iadd dX12_route_52 rfl hx3 ?_
  obtain ⟨hj5, h⟩ := xChk_el h
  obtain ⟨x4, hx4, h⟩ := xLet_el h
  refine gx_iaload dX12_route_53 rfl hs0 hj5 hx4 ?_
  cases h
  exact fx_ireturn dX12_route_54 rfl rfl
def fX12_route_29 (a0 : Nat) (a1 : Int32) (a2 : Int32) (a3 : Int32) (s0 : Nat) (s1 : Int32) (s2 : Int32) (m : xMem) : Option (Int32 × xMem) := (fX12_routes s0 s1 s2 m).bind fun p1 => if a3 = (0 : Int32) then fX12_route_46 a0 a1 a2 a3 (a0 + 21) (0 : Int32) p1 else fX12_route_46 a0 a1 a2 a3 (a0 + 21) (36 : Int32) p1
set_option maxRecDepth 4000 in
theorem fX12_route_29_ok {a0 : Nat} {a1 : Int32} {a2 : Int32} {a3 : Int32} {d : Nat} (hd : 4 ≤ d) (ha0 : isModel a0) {s0 : Nat} {s1 : Int32} {s2 : Int32} {m : xMem} {r : (Int32 × xMem)} (hs0 : isModel s0) (h : fX12_route_29 a0 a1 a2 a3 s0 s1 s2 m = some r) : xFx hh_200 cX12_route d 29 [some (.ref a0), some (.int a1), some (.int a2), some (.int a3)] [.int s2, .int s1, .ref s0] (xLay m) 0 0 (some (.int r.1)) (xLay r.2) := by
  unfold fX12_route_29 at h
  obtain ⟨p1, ep1, h⟩ := xBind_el h
  refine gx_callv (as := [.int s1, .int s2]) (r := []) rfl dX12_route_29 ca_12_325 rfl me_176 rfl rfl rfl rfl (hs0.1) rfl (fX12_routes_ok (d := d) (by omega) hs0 ep1) rfl rfl ?_
  refine fx_aload_n dX12_route_32 rfl rfl ?_
  refine gx_getr dX12_route_33 rfl fd_12_80 ha0.1 rfl rfl ?_
  refine fx_iload_n dX12_route_36 rfl rfl ?_
  refine fx_if_eq (t := 45) dX12_route_37 rfl rfl (fun hc2 => ?_) (fun hc2 => ?_)
  · rw [if_pos hc2] at h
    refine fx_iconst (x := 0) dX12_route_45 rfl (by decide) ?_
    exact fX12_route_46_ok hd ha0 ha0.2.2.2.2.2.2.2.2.2.2.2.2.2.2.2.2.2.2.2.2.2.1 h
  · rw [if_neg hc2] at h
    refine fx_bipush (x := 36) dX12_route_40 rfl (by decide) ?_
    refine fx_goto (t := 46) dX12_route_42 rfl rfl ?_
    exact fX12_route_46_ok hd ha0 ha0.2.2.2.2.2.2.2.2.2.2.2.2.2.2.2.2.2.2.2.2.2.1 h
def fX12_route_0 (a0 : Nat) (a1 : Int32) (a2 : Int32) (a3 : Int32) (m : xMem) : Option (Int32 × xMem) := (fX12_isHall a0 a1 m).bind fun p1 => if p1.1 = (0 : Int32) then fX12_route_16 a0 a1 a2 a3 p1.2 else (fX12_isHall a0 a2 p1.2).bind fun p3 => if ¬ p3.1 = (0 : Int32) then if a3 = (0 : Int32) then fX12_route_29 a0 a1 a2 a3 a0 a2 (0 : Int32) p3.2 else fX12_route_29 a0 a1 a2 a3 a0 a2 (1 : Int32) p3.2 else fX12_route_16 a0 a1 a2 a3 p3.2
set_option maxRecDepth 4000 in
theorem fX12_route_0_ok {a0 : Nat} {a1 : Int32} {a2 : Int32} {a3 : Int32} {d : Nat} (hd : 4 ≤ d) (ha0 : isModel a0) {m : xMem} {r : (Int32 × xMem)} (h : fX12_route_0 a0 a1 a2 a3 m = some r) : xFx hh_200 cX12_route d 0 [some (.ref a0), some (.int a1), some (.int a2), some (.int a3)] [] (xLay m) 0 0 (some (.int r.1)) (xLay r.2) := by
  unfold fX12_route_0 at h
  refine fx_aload_n dX12_route_0 rfl rfl ?_
  refine fx_iload_n dX12_route_1 rfl rfl ?_
  obtain ⟨p1, ep1, h⟩ := xBind_el h
  refine gx_callv (as := [.int a1]) (r := []) rfl dX12_route_2 ca_12_107 rfl me_22 rfl rfl rfl rfl (ha0.1) rfl (fX12_isHall_ok (d := d) (by omega) ha0 ep1) rfl rfl ?_
  refine fx_if_eq (t := 16) dX12_route_5 rfl rfl (fun hc2 => ?_) (fun hc2 => ?_)
  · rw [if_pos hc2] at h
    exact fX12_route_16_ok hd ha0 h
  · rw [if_neg hc2] at h
    refine fx_aload_n dX12_route_8 rfl rfl ?_
    refine fx_iload_n dX12_route_9 rfl rfl ?_
    obtain ⟨p3, ep3, h⟩ := xBind_el h
    refine gx_callv (as := [.int a2]) (r := []) rfl dX12_route_10 ca_12_107 rfl me_22 rfl rfl rfl rfl (ha0.1) rfl (fX12_isHall_ok (d := d) (by omega) ha0 ep3) rfl rfl ?_
    refine fx_if_ne (t := 18) dX12_route_13 rfl rfl (fun hc4 => ?_) (fun hc4 => ?_)
    · rw [if_pos hc4] at h
      refine fx_aload_n dX12_route_18 rfl rfl ?_
      refine fx_iload_n dX12_route_19 rfl rfl ?_
      refine fx_iload_n dX12_route_20 rfl rfl ?_
      refine fx_if_eq (t := 28) dX12_route_21 rfl rfl (fun hc5 => ?_) (fun hc5 => ?_)
      · rw [if_pos hc5] at h
        refine fx_iconst (x := 0) dX12_route_28 rfl (by decide) ?_
        exact fX12_route_29_ok hd ha0 ha0 h
      · rw [if_neg hc5] at h
        refine fx_iconst (x := 1) dX12_route_24 rfl (by decide) ?_
        refine fx_goto (t := 29) dX12_route_25 rfl rfl ?_
        exact fX12_route_29_ok hd ha0 ha0 h
    · rw [if_neg hc4] at h
      exact fX12_route_16_ok hd ha0 h
def fX12_route (a0 : Nat) (a1 : Int32) (a2 : Int32) (a3 : Int32) (m : xMem) : Option (Int32 × xMem) := fX12_route_0 a0 a1 a2 a3  m
theorem fX12_route_ok {a0 : Nat} {a1 : Int32} {a2 : Int32} {a3 : Int32} {m : xMem} {r : (Int32 × xMem)} {d : Nat} (hd : 5 ≤ d) (ha0 : isModel a0) (h : fX12_route a0 a1 a2 a3 m = some r) : xEx d 200 [.ref a0, .int a1, .int a2, .int a3] (xLay m) (some (.int r.1)) (xLay r.2) := by
  obtain ⟨d, rfl⟩ : ∃ q, d = q + 1 := ⟨d - 1, by omega⟩
  exact xEx_of me_200 rfl (fX12_route_0_ok (d := d) (by omega) ha0 h)
def fX11_all_0 (a0 : Nat) (a1 : Int32) (m : xMem) : Option (Int32 × xMem) := if a1 = (0 : Int32) then xLet (m.1 (a0 + 1) 12) fun x2 => some (x2, m) else if a1 = (1 : Int32) then xLet (m.1 (a0 + 1) 13) fun x4 => some (x4, m) else if a1 = (2 : Int32) then xLet (m.1 (a0 + 1) 14) fun x6 => some (x6, m) else if a1 = (3 : Int32) then xLet (m.1 (a0 + 1) 15) fun x8 => some (x8, m) else some ((-1 : Int32), m)
set_option maxRecDepth 4000 in
theorem fX11_all_0_ok {a0 : Nat} {a1 : Int32} {d : Nat} (hd : 0 ≤ d) (ha0 : isMS a0) {m : xMem} {r : (Int32 × xMem)} (h : fX11_all_0 a0 a1 m = some r) : xFx hh_201 cX11_all d 0 [some (.ref a0), some (.int a1)] [] (xLay m) 0 0 (some (.int r.1)) (xLay r.2) := by
  unfold fX11_all_0 at h
  refine fx_iload_n dX11_all_0 rfl rfl ?_
  by_cases hc1 : a1 = (0 : Int32)
  · rw [if_pos hc1] at h
    refine fx_tabIn (t := 32) dX11_all_1 rfl (by rw [hc1]; decide) (by rw [hc1]; decide) (by rw [hc1]; rfl) rfl ?_
    refine fx_aload_n dX11_all_32 rfl rfl ?_
    refine gx_getr dX11_all_33 rfl fd_11_10 ha0.1 rfl rfl ?_
    obtain ⟨x2, hx2, h⟩ := xLet_el h
    refine gx_get dX11_all_36 rfl fd_11_225 ha0.2.1.1 rfl rfl hx2 ?_
    cases h
    exact fx_ireturn dX11_all_39 rfl rfl
  · rw [if_neg hc1] at h
    by_cases hc3 : a1 = (1 : Int32)
    · rw [if_pos hc3] at h
      refine fx_tabIn (t := 40) dX11_all_1 rfl (by rw [hc3]; decide) (by rw [hc3]; decide) (by rw [hc3]; rfl) rfl ?_
      refine fx_aload_n dX11_all_40 rfl rfl ?_
      refine gx_getr dX11_all_41 rfl fd_11_10 ha0.1 rfl rfl ?_
      obtain ⟨x4, hx4, h⟩ := xLet_el h
      refine gx_get dX11_all_44 rfl fd_11_228 ha0.2.1.1 rfl rfl hx4 ?_
      cases h
      exact fx_ireturn dX11_all_47 rfl rfl
    · rw [if_neg hc3] at h
      by_cases hc5 : a1 = (2 : Int32)
      · rw [if_pos hc5] at h
        refine fx_tabIn (t := 48) dX11_all_1 rfl (by rw [hc5]; decide) (by rw [hc5]; decide) (by rw [hc5]; rfl) rfl ?_
        refine fx_aload_n dX11_all_48 rfl rfl ?_
        refine gx_getr dX11_all_49 rfl fd_11_10 ha0.1 rfl rfl ?_
        obtain ⟨x6, hx6, h⟩ := xLet_el h
        refine gx_get dX11_all_52 rfl fd_11_231 ha0.2.1.1 rfl rfl hx6 ?_
        cases h
        exact fx_ireturn dX11_all_55 rfl rfl
      · rw [if_neg hc5] at h
        by_cases hc7 : a1 = (3 : Int32)
        · rw [if_pos hc7] at h
          refine fx_tabIn (t := 56) dX11_all_1 rfl (by rw [hc7]; decide) (by rw [hc7]; decide) (by rw [hc7]; rfl) rfl ?_
          refine fx_aload_n dX11_all_56 rfl rfl ?_
          refine gx_getr dX11_all_57 rfl fd_11_10 ha0.1 rfl rfl ?_
          obtain ⟨x8, hx8, h⟩ := xLet_el h
          refine gx_get dX11_all_60 rfl fd_11_234 ha0.2.1.1 rfl rfl hx8 ?_
          cases h
          exact fx_ireturn dX11_all_63 rfl rfl
        · rw [if_neg hc7] at h
          have e0 : a1.toInt ≠ 0 := fun q => hc1 (Int32.toInt_inj.mp (q.trans (by decide)))
          have e1 : a1.toInt ≠ 1 := fun q => hc3 (Int32.toInt_inj.mp (q.trans (by decide)))
          have e2 : a1.toInt ≠ 2 := fun q => hc5 (Int32.toInt_inj.mp (q.trans (by decide)))
          have e3 : a1.toInt ≠ 3 := fun q => hc7 (Int32.toInt_inj.mp (q.trans (by decide)))
          refine fx_tabOut (t := 64) dX11_all_1 rfl (by omega) rfl ?_
          refine fx_iconst (x := -1) dX11_all_64 rfl (by decide) ?_
          cases h
          exact fx_ireturn dX11_all_65 rfl rfl
def fX11_all (a0 : Nat) (a1 : Int32) (m : xMem) : Option (Int32 × xMem) := fX11_all_0 a0 a1  m
theorem fX11_all_ok {a0 : Nat} {a1 : Int32} {m : xMem} {r : (Int32 × xMem)} {d : Nat} (hd : 1 ≤ d) (ha0 : isMS a0) (h : fX11_all a0 a1 m = some r) : xEx d 201 [.ref a0, .int a1] (xLay m) (some (.int r.1)) (xLay r.2) := by
  obtain ⟨d, rfl⟩ : ∃ q, d = q + 1 := ⟨d - 1, by omega⟩
  exact xEx_of me_201 rfl (fX11_all_0_ok (d := d) (by omega) ha0 h)
def fX12_all_22 (a0 : Nat) (a1 : Int32) (s0 : Int32) (m : xMem) : Option (Int32 × xMem) := some (s0, m)
set_option maxRecDepth 4000 in
theorem fX12_all_22_ok {a0 : Nat} {a1 : Int32} {d : Nat} (hd : 1 ≤ d) (ha0 : isModel a0) {s0 : Int32} {m : xMem} {r : (Int32 × xMem)} (h : fX12_all_22 a0 a1 s0 m = some r) : xFx hh_202 cX12_all d 22 [some (.ref a0), some (.int a1)] [.int s0] (xLay m) 0 0 (some (.int r.1)) (xLay r.2) := by
  unfold fX12_all_22 at h
  cases h
  exact fx_ireturn dX12_all_22 rfl rfl
def fX12_all_0 (a0 : Nat) (a1 : Int32) (m : xMem) : Option (Int32 × xMem) := (fX12_in a1 (0 : Int32) (3 : Int32) m).bind fun p1 => if p1.1 = (0 : Int32) then fX12_all_22 a0 a1 (-1 : Int32) p1.2 else xLet ((9 : Int32) + a1) fun x3 => bif xIn x3 1610 then xLet (p1.2.1 (a0 + 1) x3.toNatClampNeg) fun x4 => fX12_all_22 a0 a1 x4 p1.2 else none
set_option maxRecDepth 4000 in
theorem fX12_all_0_ok {a0 : Nat} {a1 : Int32} {d : Nat} (hd : 1 ≤ d) (ha0 : isModel a0) {m : xMem} {r : (Int32 × xMem)} (h : fX12_all_0 a0 a1 m = some r) : xFx hh_202 cX12_all d 0 [some (.ref a0), some (.int a1)] [] (xLay m) 0 0 (some (.int r.1)) (xLay r.2) := by
  unfold fX12_all_0 at h
  refine fx_iload_n dX12_all_0 rfl rfl ?_
  refine fx_iconst (x := 0) dX12_all_1 rfl (by decide) ?_
  refine fx_iconst (x := 3) dX12_all_2 rfl (by decide) ?_
  obtain ⟨p1, ep1, h⟩ := xBind_el h
  refine gx_calls (as := [.int a1, .int (0 : Int32), .int (3 : Int32)]) (r := []) rfl dX12_all_3 ca_12_95 rfl me_18 rfl rfl rfl rfl (fX12_in_ok (d := d) (by omega) ep1) rfl rfl ?_
  refine fx_if_eq (t := 21) dX12_all_6 rfl rfl (fun hc2 => ?_) (fun hc2 => ?_)
  · rw [if_pos hc2] at h
    refine fx_iconst (x := -1) dX12_all_21 rfl (by decide) ?_
    exact fX12_all_22_ok hd ha0 h
  · rw [if_neg hc2] at h
    refine fx_aload_n dX12_all_9 rfl rfl ?_
    refine gx_getr dX12_all_10 rfl fd_12_7 ha0.1 rfl rfl ?_
    refine fx_bipush (x := 9) dX12_all_13 rfl (by decide) ?_
    refine fx_iload_n dX12_all_15 rfl rfl ?_
    obtain ⟨x3, hx3, h⟩ := xLet_el h
    refine fx_iadd dX12_all_16 rfl hx3 ?_
    obtain ⟨hj5, h⟩ := xChk_el h
    obtain ⟨x4, hx4, h⟩ := xLet_el h
    refine gx_iaload dX12_all_17 rfl ha0.2.1 hj5 hx4 ?_
    refine fx_goto (t := 22) dX12_all_18 rfl rfl ?_
    exact fX12_all_22_ok hd ha0 h
def fX12_all (a0 : Nat) (a1 : Int32) (m : xMem) : Option (Int32 × xMem) := fX12_all_0 a0 a1  m
theorem fX12_all_ok {a0 : Nat} {a1 : Int32} {m : xMem} {r : (Int32 × xMem)} {d : Nat} (hd : 2 ≤ d) (ha0 : isModel a0) (h : fX12_all a0 a1 m = some r) : xEx d 202 [.ref a0, .int a1] (xLay m) (some (.int r.1)) (xLay r.2) := by
  obtain ⟨d, rfl⟩ : ∃ q, d = q + 1 := ⟨d - 1, by omega⟩
  exact xEx_of me_202 rfl (fX12_all_0_ok (d := d) (by omega) ha0 h)
def fJ6_bitCount_0f7a4_0  (l0 : Int32) (m : xMem) : Option (Int32 × xMem) := xLet ((l0.toUInt32 >>> ((1 : Int32).toUInt32 &&& Int32.toUInt32 31)).toInt32) fun x1 => xLet (x1 &&& (1431655765 : Int32)) fun x2 => xLet (l0 - x2) fun x3 => xLet (x3 &&& (858993459 : Int32)) fun x4 => xLet ((x3.toUInt32 >>> ((2 : Int32).toUInt32 &&& Int32.toUInt32 31)).toInt32) fun x5 => xLet (x5 &&& (858993459 : Int32)) fun x6 => xLet (x4 + x6) fun x7 => xLet ((x7.toUInt32 >>> ((4 : Int32).toUInt32 &&& Int32.toUInt32 31)).toInt32) fun x8 => xLet (x7 + x8) fun x9 => xLet (x9 &&& (252645135 : Int32)) fun x10 => xLet ((x10.toUInt32 >>> ((8 : Int32).toUInt32 &&& Int32.toUInt32 31)).toInt32) fun x11 => xLet (x10 + x11) fun x12 => xLet ((x12.toUInt32 >>> ((16 : Int32).toUInt32 &&& Int32.toUInt32 31)).toInt32) fun x13 => xLet (x12 + x13) fun x14 => xLet (x14 &&& (63 : Int32)) fun x15 => some (x15, m)
set_option maxRecDepth 4000 in
theorem fJ6_bitCount_0f7a4_0_ok  {d : Nat} (hd : 0 ≤ d)  {l0 : Int32} {m : xMem} {r : (Int32 × xMem)} (h : fJ6_bitCount_0f7a4_0  l0 m = some r) : xFx hh_205 cJ6_bitCount_0f7a4 d 0 [some (.int l0)] [] (xLay m) 0 0 (some (.int r.1)) (xLay r.2) := by
  unfold fJ6_bitCount_0f7a4_0 at h
  refine fx_iload_n dJ6_bitCount_0f7a4_0 rfl rfl ?_
  refine fx_iload_n dJ6_bitCount_0f7a4_1 rfl rfl ?_
  refine fx_iconst (x := 1) dJ6_bitCount_0f7a4_2 rfl (by decide) ?_
  obtain ⟨x1, hx1, h⟩ := xLet_el h
  refine fx_iushr dJ6_bitCount_0f7a4_3 rfl hx1 ?_
  refine fx_ldc_w dJ6_bitCount_0f7a4_4 rfl ck_26_265 ?_
  obtain ⟨x2, hx2, h⟩ := xLet_el h
  refine fx_iand dJ6_bitCount_0f7a4_7 rfl hx2 ?_
  obtain ⟨x3, hx3, h⟩ := xLet_el h
  refine fx_isub dJ6_bitCount_0f7a4_8 rfl hx3 ?_
  refine fx_istore_n (ls2 := [some (.int x3)]) dJ6_bitCount_0f7a4_9 rfl rfl rfl ?_
  refine fx_iload_n dJ6_bitCount_0f7a4_10 rfl rfl ?_
  refine fx_ldc_w dJ6_bitCount_0f7a4_11 rfl ck_26_266 ?_
  obtain ⟨x4, hx4, h⟩ := xLet_el h
  refine fx_iand dJ6_bitCount_0f7a4_14 rfl hx4 ?_
  refine fx_iload_n dJ6_bitCount_0f7a4_15 rfl rfl ?_
  refine fx_iconst (x := 2) dJ6_bitCount_0f7a4_16 rfl (by decide) ?_
  obtain ⟨x5, hx5, h⟩ := xLet_el h
  refine fx_iushr dJ6_bitCount_0f7a4_17 rfl hx5 ?_
  refine fx_ldc_w dJ6_bitCount_0f7a4_18 rfl ck_26_266 ?_
  obtain ⟨x6, hx6, h⟩ := xLet_el h
  refine fx_iand dJ6_bitCount_0f7a4_21 rfl hx6 ?_
  obtain ⟨x7, hx7, h⟩ := xLet_el h
  refine fx_iadd dJ6_bitCount_0f7a4_22 rfl hx7 ?_
  refine fx_istore_n (ls2 := [some (.int x7)]) dJ6_bitCount_0f7a4_23 rfl rfl rfl ?_
  refine fx_iload_n dJ6_bitCount_0f7a4_24 rfl rfl ?_
  refine fx_iload_n dJ6_bitCount_0f7a4_25 rfl rfl ?_
  refine fx_iconst (x := 4) dJ6_bitCount_0f7a4_26 rfl (by decide) ?_
  obtain ⟨x8, hx8, h⟩ := xLet_el h
  refine fx_iushr dJ6_bitCount_0f7a4_27 rfl hx8 ?_
  obtain ⟨x9, hx9, h⟩ := xLet_el h
  refine fx_iadd dJ6_bitCount_0f7a4_28 rfl hx9 ?_
  refine fx_ldc_w dJ6_bitCount_0f7a4_29 rfl ck_26_267 ?_
  obtain ⟨x10, hx10, h⟩ := xLet_el h
  refine fx_iand dJ6_bitCount_0f7a4_32 rfl hx10 ?_
  refine fx_istore_n (ls2 := [some (.int x10)]) dJ6_bitCount_0f7a4_33 rfl rfl rfl ?_
  refine fx_iload_n dJ6_bitCount_0f7a4_34 rfl rfl ?_
  refine fx_iload_n dJ6_bitCount_0f7a4_35 rfl rfl ?_
  refine fx_bipush (x := 8) dJ6_bitCount_0f7a4_36 rfl (by decide) ?_
  obtain ⟨x11, hx11, h⟩ := xLet_el h
  refine fx_iushr dJ6_bitCount_0f7a4_38 rfl hx11 ?_
  obtain ⟨x12, hx12, h⟩ := xLet_el h
  refine fx_iadd dJ6_bitCount_0f7a4_39 rfl hx12 ?_
  refine fx_istore_n (ls2 := [some (.int x12)]) dJ6_bitCount_0f7a4_40 rfl rfl rfl ?_
  refine fx_iload_n dJ6_bitCount_0f7a4_41 rfl rfl ?_
  refine fx_iload_n dJ6_bitCount_0f7a4_42 rfl rfl ?_
  refine fx_bipush (x := 16) dJ6_bitCount_0f7a4_43 rfl (by decide) ?_
  obtain ⟨x13, hx13, h⟩ := xLet_el h
  refine fx_iushr dJ6_bitCount_0f7a4_45 rfl hx13 ?_
  obtain ⟨x14, hx14, h⟩ := xLet_el h
  refine fx_iadd dJ6_bitCount_0f7a4_46 rfl hx14 ?_
  refine fx_istore_n (ls2 := [some (.int x14)]) dJ6_bitCount_0f7a4_47 rfl rfl rfl ?_
  refine fx_iload_n dJ6_bitCount_0f7a4_48 rfl rfl ?_
  refine fx_bipush (x := 63) dJ6_bitCount_0f7a4_49 rfl (by decide) ?_
  obtain ⟨x15, hx15, h⟩ := xLet_el h
  refine fx_iand dJ6_bitCount_0f7a4_51 rfl hx15 ?_
  cases h
  exact fx_ireturn dJ6_bitCount_0f7a4_52 rfl rfl
def fJ6_bitCount_0f7a4 (a0 : Int32) (m : xMem) : Option (Int32 × xMem) := fJ6_bitCount_0f7a4_0  a0 m
theorem fJ6_bitCount_0f7a4_ok {a0 : Int32} {m : xMem} {r : (Int32 × xMem)} {d : Nat} (hd : 1 ≤ d)  (h : fJ6_bitCount_0f7a4 a0 m = some r) : xEx d 205 [.int a0] (xLay m) (some (.int r.1)) (xLay r.2) := by
  obtain ⟨d, rfl⟩ : ∃ q, d = q + 1 := ⟨d - 1, by omega⟩
  exact xEx_of me_205 rfl (fJ6_bitCount_0f7a4_0_ok (d := d) (by omega) h)
def fX11_mayTurn_22 (a0 : Nat) (a1 : Int32) (m : xMem) : Option (Int32 × xMem) := some ((0 : Int32), m)
set_option maxRecDepth 4000 in
theorem fX11_mayTurn_22_ok {a0 : Nat} {a1 : Int32} {d : Nat} (hd : 2 ≤ d) (ha0 : isMS a0) {o2 : Option Value} {o3 : Option Value} {m : xMem} {r : (Int32 × xMem)} (q2 : xNoD o2 = true) (q3 : xNoD o3 = true) (h : fX11_mayTurn_22 a0 a1 m = some r) : xFx hh_204 cX11_mayTurn d 22 [some (.ref a0), some (.int a1), o2, o3] [] (xLay m) 0 0 (some (.int r.1)) (xLay r.2) := by
  unfold fX11_mayTurn_22 at h
  refine fx_iconst (x := 0) dX11_mayTurn_22 rfl (by decide) ?_
  cases h
  exact fx_ireturn dX11_mayTurn_23 rfl rfl
def fX11_mayTurn_54 (a0 : Nat) (a1 : Int32) (rec26 : Int32 → xMem → Option (Int32 × xMem)) (l3 : Int32) (m : xMem) : Option (Int32 × xMem) := xLet (l3 + (1 : Int32)) fun x1 => rec26 x1 m
set_option maxRecDepth 4000 in
theorem fX11_mayTurn_54_ok {a0 : Nat} {a1 : Int32} {rec26 : Int32 → xMem → Option (Int32 × xMem)} {d : Nat} (hd : 2 ≤ d) (ha0 : isMS a0) (hrec26 : ∀ (l3 : Int32) (o2 : Option Value) (q2 : xNoD o2 = true) (m : xMem) (r : (Int32 × xMem)), rec26 l3 m = some r → xFx hh_204 cX11_mayTurn d 26 [some (.ref a0), some (.int a1), o2, some (.int l3)] [] (xLay m) 0 0 (some (.int r.1)) (xLay r.2)) {l3 : Int32} {o2 : Option Value} {m : xMem} {r : (Int32 × xMem)} (q2 : xNoD o2 = true) (h : fX11_mayTurn_54 a0 a1 rec26 l3 m = some r) : xFx hh_204 cX11_mayTurn d 54 [some (.ref a0), some (.int a1), o2, some (.int l3)] [] (xLay m) 0 0 (some (.int r.1)) (xLay r.2) := by
  unfold fX11_mayTurn_54 at h
  obtain ⟨x1, hx1, h⟩ := xLet_el h
  refine fx_iinc (ls2 := [some (.ref a0), some (.int a1), o2, some (.int x1)]) dX11_mayTurn_54 rfl rfl (xGd (j := 2) rfl rfl q2 rfl) hx1 rfl ?_
  refine fx_goto (t := 26) dX11_mayTurn_57 rfl rfl ?_
  exact hrec26 x1 (o2) q2 m r h
def fX11_mayTurn_26 (a0 : Nat) (a1 : Int32) : Nat → Int32 → xMem → Option (Int32 × xMem)
  | 0, _, _ => none
  | fuel + 1, l3, m => if (10 : Int32) ≤ l3 then some ((1 : Int32), m) else xLet (a1 >>> (l3 &&& 31)) fun x2 => xLet (x2 &&& (1 : Int32)) fun x3 => if ¬ x3 = (1 : Int32) then fX11_mayTurn_54 a0 a1 (fX11_mayTurn_26 a0 a1 fuel) l3 m else (fX9_hasStepped (a0 + 1) l3 m).bind fun p5 => if ¬ p5.1 = (0 : Int32) then fX11_mayTurn_54 a0 a1 (fX11_mayTurn_26 a0 a1 fuel) l3 p5.2 else some ((0 : Int32), p5.2)
set_option maxRecDepth 4000 in
theorem fX11_mayTurn_26_ok {a0 : Nat} {a1 : Int32} {d : Nat} (hd : 2 ≤ d) (ha0 : isMS a0) : ∀ (fuel : Nat) (l3 : Int32) (o2 : Option Value) (q2 : xNoD o2 = true) (m : xMem) (r : (Int32 × xMem)), fX11_mayTurn_26 a0 a1 fuel l3 m = some r → xFx hh_204 cX11_mayTurn d 26 [some (.ref a0), some (.int a1), o2, some (.int l3)] [] (xLay m) 0 0 (some (.int r.1)) (xLay r.2) := by
  intro fuel
  induction fuel with
  | zero => intro l3 o2 q2 m r  h; cases h
  | succ fuel ih =>
    intro l3 o2 q2 m r  h
    unfold fX11_mayTurn_26 at h
    refine fx_iload_n dX11_mayTurn_26 rfl rfl ?_
    refine fx_bipush (x := 10) dX11_mayTurn_27 rfl (by decide) ?_
    refine fx_icmp_ge (t := 60) dX11_mayTurn_29 rfl rfl (fun hc1 => ?_) (fun hc1 => ?_)
    · rw [if_pos hc1] at h
      refine fx_iconst (x := 1) dX11_mayTurn_60 rfl (by decide) ?_
      cases h
      exact fx_ireturn dX11_mayTurn_61 rfl rfl
    · rw [if_neg hc1] at h
      refine fx_iload_n dX11_mayTurn_32 rfl rfl ?_
      refine fx_iload_n dX11_mayTurn_33 rfl rfl ?_
      obtain ⟨x2, hx2, h⟩ := xLet_el h
      refine fx_ishr dX11_mayTurn_34 rfl hx2 ?_
      refine fx_iconst (x := 1) dX11_mayTurn_35 rfl (by decide) ?_
      obtain ⟨x3, hx3, h⟩ := xLet_el h
      refine fx_iand dX11_mayTurn_36 rfl hx3 ?_
      refine fx_iconst (x := 1) dX11_mayTurn_37 rfl (by decide) ?_
      refine fx_icmp_ne (t := 54) dX11_mayTurn_38 rfl rfl (fun hc4 => ?_) (fun hc4 => ?_)
      · rw [if_pos hc4] at h
        exact fX11_mayTurn_54_ok (o2 := o2) hd ha0 ih q2 h
      · rw [if_neg hc4] at h
        refine fx_aload_n dX11_mayTurn_41 rfl rfl ?_
        refine gx_getr dX11_mayTurn_42 rfl fd_11_10 ha0.1 rfl rfl ?_
        refine fx_iload_n dX11_mayTurn_45 rfl rfl ?_
        obtain ⟨p5, ep5, h⟩ := xBind_el h
        refine gx_callv (as := [.int l3]) (r := []) rfl dX11_mayTurn_46 ca_11_84 rfl me_28 rfl rfl rfl rfl (ha0.2.1.1) rfl (fX9_hasStepped_ok (d := d) (by omega) ha0.2.1 ep5) rfl rfl ?_
        refine fx_if_ne (t := 54) dX11_mayTurn_49 rfl rfl (fun hc6 => ?_) (fun hc6 => ?_)
        · rw [if_pos hc6] at h
          exact fX11_mayTurn_54_ok (o2 := o2) hd ha0 ih q2 h
        · rw [if_neg hc6] at h
          refine fx_iconst (x := 0) dX11_mayTurn_52 rfl (by decide) ?_
          cases h
          exact fx_ireturn dX11_mayTurn_53 rfl rfl
def fX11_mayTurn_0 (a0 : Nat) (a1 : Int32) (m : xMem) : Option (Int32 × xMem) := (fJ6_bitCount_0f7a4 a1 m).bind fun p1 => if p1.1 < (1 : Int32) then fX11_mayTurn_22 a0 a1 p1.2 else if (5 : Int32) < p1.1 then fX11_mayTurn_22 a0 a1 p1.2 else xLet (a1 >>> ((10 : Int32) &&& 31)) fun x4 => if x4 = (0 : Int32) then fX11_mayTurn_26 a0 a1 xFuel (0 : Int32) p1.2 else fX11_mayTurn_22 a0 a1 p1.2
set_option maxRecDepth 4000 in
theorem fX11_mayTurn_0_ok {a0 : Nat} {a1 : Int32} {d : Nat} (hd : 2 ≤ d) (ha0 : isMS a0) {o2 : Option Value} {o3 : Option Value} {m : xMem} {r : (Int32 × xMem)} (q2 : xNoD o2 = true) (q3 : xNoD o3 = true) (h : fX11_mayTurn_0 a0 a1 m = some r) : xFx hh_204 cX11_mayTurn d 0 [some (.ref a0), some (.int a1), o2, o3] [] (xLay m) 0 0 (some (.int r.1)) (xLay r.2) := by
  unfold fX11_mayTurn_0 at h
  refine fx_iload_n dX11_mayTurn_0 rfl rfl ?_
  obtain ⟨p1, ep1, h⟩ := xBind_el h
  refine gx_calls (as := [.int a1]) (r := []) rfl dX11_mayTurn_1 ca_11_318 rfl me_205 rfl rfl rfl rfl (fJ6_bitCount_0f7a4_ok (d := d) (by omega) ep1) rfl rfl ?_
  refine fx_istore_n (ls2 := [some (.ref a0), some (.int a1), some (.int p1.1), o3]) dX11_mayTurn_4 rfl rfl rfl ?_
  refine fx_iload_n dX11_mayTurn_5 rfl rfl ?_
  refine fx_iconst (x := 1) dX11_mayTurn_6 rfl (by decide) ?_
  refine fx_icmp_lt (t := 22) dX11_mayTurn_7 rfl rfl (fun hc2 => ?_) (fun hc2 => ?_)
  · rw [if_pos hc2] at h
    exact fX11_mayTurn_22_ok (o2 := some (.int p1.1)) (o3 := o3) hd ha0 rfl q3 h
  · rw [if_neg hc2] at h
    refine fx_iload_n dX11_mayTurn_10 rfl rfl ?_
    refine fx_iconst (x := 5) dX11_mayTurn_11 rfl (by decide) ?_
    refine fx_icmp_gt (t := 22) dX11_mayTurn_12 rfl rfl (fun hc3 => ?_) (fun hc3 => ?_)
    · rw [if_pos hc3] at h
      exact fX11_mayTurn_22_ok (o2 := some (.int p1.1)) (o3 := o3) hd ha0 rfl q3 h
    · rw [if_neg hc3] at h
      refine fx_iload_n dX11_mayTurn_15 rfl rfl ?_
      refine fx_bipush (x := 10) dX11_mayTurn_16 rfl (by decide) ?_
      obtain ⟨x4, hx4, h⟩ := xLet_el h
      refine fx_ishr dX11_mayTurn_18 rfl hx4 ?_
      refine fx_if_eq (t := 24) dX11_mayTurn_19 rfl rfl (fun hc5 => ?_) (fun hc5 => ?_)
      · rw [if_pos hc5] at h
        refine fx_iconst (x := 0) dX11_mayTurn_24 rfl (by decide) ?_
        refine fx_istore_n (ls2 := [some (.ref a0), some (.int a1), some (.int p1.1), some (.int (0 : Int32))]) dX11_mayTurn_25 rfl rfl rfl ?_
        exact fX11_mayTurn_26_ok hd ha0 xFuel (0 : Int32) (some (.int p1.1)) rfl p1.2 r h
      · rw [if_neg hc5] at h
        exact fX11_mayTurn_22_ok (o2 := some (.int p1.1)) (o3 := o3) hd ha0 rfl q3 h
def fX11_mayTurn (a0 : Nat) (a1 : Int32) (m : xMem) : Option (Int32 × xMem) := fX11_mayTurn_0 a0 a1  m
theorem fX11_mayTurn_ok {a0 : Nat} {a1 : Int32} {m : xMem} {r : (Int32 × xMem)} {d : Nat} (hd : 3 ≤ d) (ha0 : isMS a0) (h : fX11_mayTurn a0 a1 m = some r) : xEx d 204 [.ref a0, .int a1] (xLay m) (some (.int r.1)) (xLay r.2) := by
  obtain ⟨d, rfl⟩ : ∃ q, d = q + 1 := ⟨d - 1, by omega⟩
  exact xEx_of me_204 rfl (fX11_mayTurn_0_ok (d := d) (o2 := none) (o3 := none) (by omega) ha0 rfl rfl h)
def fX2_copy_0 (a0 : Nat) (a1 : Nat) (m : xMem) : Option xMem := xLet (m.1 a1 2) fun x1 => xLet (xPut m a0 2 x1) fun m2 => xLet (m2.1 a1 3) fun x3 => xLet (xPut m2 a0 3 x3) fun m4 => xLet (m4.1 a1 4) fun x5 => xLet (xPut m4 a0 4 x5) fun m6 => xLet (m6.1 a1 5) fun x7 => xLet (xPut m6 a0 5 x7) fun m8 => xLet (m8.1 a1 6) fun x9 => xLet (xPut m8 a0 6 x9) fun m10 => xLet (m10.1 a1 7) fun x11 => xLet (xPut m10 a0 7 x11) fun m12 => xLet (m12.1 a1 8) fun x13 => bif (decide (x13 = 0) || decide (x13 = 1)) then xLet (xPut m12 a0 8 x13) fun m14 => xLet (xCpy m14 (a1 + 1) (a0 + 1) 0 0 12) fun m16 => xLet (xCpy m16 (a1 + 2) (a0 + 2) 0 0 12) fun m17 => some m17 else none
set_option maxRecDepth 4000 in
theorem fX2_copy_0_ok {a0 : Nat} {a1 : Nat} {d : Nat} (hd : 0 ≤ d) (ha0 : isHall a0) (ha1 : isHall a1) {m : xMem} {r : xMem} (h : fX2_copy_0 a0 a1 m = some r) : xFx hh_209 cX2_copy d 0 [some (.ref a0), some (.ref a1)] [] (xLay m) 0 0 none (xLay r) := by
  unfold fX2_copy_0 at h
  refine fx_aload_n dX2_copy_0 rfl rfl ?_
  refine fx_aload_n dX2_copy_1 rfl rfl ?_
  obtain ⟨x1, hx1, h⟩ := xLet_el h
  refine gx_get dX2_copy_2 rfl fd_2_18 ha1.1 rfl rfl hx1 ?_
  obtain ⟨m2, hm2, h⟩ := xLet_el h
  refine gx_put dX2_copy_5 rfl fd_2_18 ha0.1 rfl rfl rfl hm2 ?_
  refine fx_aload_n dX2_copy_8 rfl rfl ?_
  refine fx_aload_n dX2_copy_9 rfl rfl ?_
  obtain ⟨x3, hx3, h⟩ := xLet_el h
  refine gx_get dX2_copy_10 rfl fd_2_22 ha1.1 rfl rfl hx3 ?_
  obtain ⟨m4, hm4, h⟩ := xLet_el h
  refine gx_put dX2_copy_13 rfl fd_2_22 ha0.1 rfl rfl rfl hm4 ?_
  refine fx_aload_n dX2_copy_16 rfl rfl ?_
  refine fx_aload_n dX2_copy_17 rfl rfl ?_
  obtain ⟨x5, hx5, h⟩ := xLet_el h
  refine gx_get dX2_copy_18 rfl fd_2_25 ha1.1 rfl rfl hx5 ?_
  obtain ⟨m6, hm6, h⟩ := xLet_el h
  refine gx_put dX2_copy_21 rfl fd_2_25 ha0.1 rfl rfl rfl hm6 ?_
  refine fx_aload_n dX2_copy_24 rfl rfl ?_
  refine fx_aload_n dX2_copy_25 rfl rfl ?_
  obtain ⟨x7, hx7, h⟩ := xLet_el h
  refine gx_get dX2_copy_26 rfl fd_2_28 ha1.1 rfl rfl hx7 ?_
  obtain ⟨m8, hm8, h⟩ := xLet_el h
  refine gx_put dX2_copy_29 rfl fd_2_28 ha0.1 rfl rfl rfl hm8 ?_
  refine fx_aload_n dX2_copy_32 rfl rfl ?_
  refine fx_aload_n dX2_copy_33 rfl rfl ?_
  obtain ⟨x9, hx9, h⟩ := xLet_el h
  refine gx_get dX2_copy_34 rfl fd_2_31 ha1.1 rfl rfl hx9 ?_
  obtain ⟨m10, hm10, h⟩ := xLet_el h
  refine gx_put dX2_copy_37 rfl fd_2_31 ha0.1 rfl rfl rfl hm10 ?_
  refine fx_aload_n dX2_copy_40 rfl rfl ?_
  refine fx_aload_n dX2_copy_41 rfl rfl ?_
  obtain ⟨x11, hx11, h⟩ := xLet_el h
  refine gx_get dX2_copy_42 rfl fd_2_34 ha1.1 rfl rfl hx11 ?_
  obtain ⟨m12, hm12, h⟩ := xLet_el h
  refine gx_put dX2_copy_45 rfl fd_2_34 ha0.1 rfl rfl rfl hm12 ?_
  refine fx_aload_n dX2_copy_48 rfl rfl ?_
  refine fx_aload_n dX2_copy_49 rfl rfl ?_
  obtain ⟨x13, hx13, h⟩ := xLet_el h
  refine gx_get dX2_copy_50 rfl fd_2_37 ha1.1 rfl rfl hx13 ?_
  obtain ⟨hb15, h⟩ := xChk_el h
  obtain ⟨m14, hm14, h⟩ := xLet_el h
  refine gx_put dX2_copy_53 rfl fd_2_37 ha0.1 rfl rfl (by show ((decide _ || decide _) && _) = true; rw [hb15]; rfl) hm14 ?_
  refine fx_aload_n dX2_copy_56 rfl rfl ?_
  refine gx_getr dX2_copy_57 rfl fd_2_9 ha1.1 rfl rfl ?_
  refine fx_iconst (x := 0) dX2_copy_60 rfl (by decide) ?_
  refine fx_aload_n dX2_copy_61 rfl rfl ?_
  refine gx_getr dX2_copy_62 rfl fd_2_9 ha0.1 rfl rfl ?_
  refine fx_iconst (x := 0) dX2_copy_65 rfl (by decide) ?_
  refine fx_aload_n dX2_copy_66 rfl rfl ?_
  refine gx_getr dX2_copy_67 rfl fd_2_9 ha0.1 rfl rfl ?_
  refine gx_alen (t := 1) (y := 12) dX2_copy_70 rfl ha0.2.1 rfl (by decide) ?_
  obtain ⟨m16, hm16, h⟩ := xLet_el h
  refine gx_copy dX2_copy_71 rfl ca_2_47 rfl ha1.2.1 ha0.2.1 (by decide) hm16 ?_
  refine fx_aload_n dX2_copy_74 rfl rfl ?_
  refine gx_getr dX2_copy_75 rfl fd_2_15 ha1.1 rfl rfl ?_
  refine fx_iconst (x := 0) dX2_copy_78 rfl (by decide) ?_
  refine fx_aload_n dX2_copy_79 rfl rfl ?_
  refine gx_getr dX2_copy_80 rfl fd_2_15 ha0.1 rfl rfl ?_
  refine fx_iconst (x := 0) dX2_copy_83 rfl (by decide) ?_
  refine fx_aload_n dX2_copy_84 rfl rfl ?_
  refine gx_getr dX2_copy_85 rfl fd_2_15 ha0.1 rfl rfl ?_
  refine gx_alen (t := 1) (y := 12) dX2_copy_88 rfl ha0.2.2 rfl (by decide) ?_
  obtain ⟨m17, hm17, h⟩ := xLet_el h
  refine gx_copy dX2_copy_89 rfl ca_2_47 rfl ha1.2.2 ha0.2.2 (by decide) hm17 ?_
  cases h
  exact fx_return dX2_copy_92 rfl rfl
def fX2_copy (a0 : Nat) (a1 : Nat) (m : xMem) : Option xMem := fX2_copy_0 a0 a1  m
theorem fX2_copy_ok {a0 : Nat} {a1 : Nat} {m : xMem} {r : xMem} {d : Nat} (hd : 1 ≤ d) (ha0 : isHall a0) (ha1 : isHall a1) (h : fX2_copy a0 a1 m = some r) : xEx d 209 [.ref a0, .ref a1] (xLay m) none (xLay r) := by
  obtain ⟨d, rfl⟩ : ∃ q, d = q + 1 := ⟨d - 1, by omega⟩
  exact xEx_of me_209 rfl (fX2_copy_0_ok (d := d) (by omega) ha0 ha1 h)
def fX3_copy_0 (a0 : Nat) (a1 : Nat) (m : xMem) : Option xMem := xLet (m.1 a1 1) fun x1 => xLet (xPut m a0 1 x1) fun m2 => xLet (m2.1 a1 2) fun x3 => xLet (xPut m2 a0 2 x3) fun m4 => xLet (m4.1 a1 3) fun x5 => xLet (xPut m4 a0 3 x5) fun m6 => xLet (m6.1 a1 4) fun x7 => xLet (xPut m6 a0 4 x7) fun m8 => xLet (m8.1 a1 5) fun x9 => xLet (xPut m8 a0 5 x9) fun m10 => xLet (m10.1 a1 6) fun x11 => xLet (xPut m10 a0 6 x11) fun m12 => xLet (m12.1 a1 7) fun x13 => xLet (xPut m12 a0 7 x13) fun m14 => xLet (m14.1 a1 8) fun x15 => xLet (xPut m14 a0 8 x15) fun m16 => xLet (m16.1 a1 9) fun x17 => xLet (xPut m16 a0 9 x17) fun m18 => xLet (m18.1 a1 10) fun x19 => xLet (xPut m18 a0 10 x19) fun m20 => xLet (m20.1 a1 11) fun x21 => xLet (xPut m20 a0 11 x21) fun m22 => xLet (m22.1 a1 12) fun x23 => bif (decide (x23 = 0) || decide (x23 = 1)) then xLet (xPut m22 a0 12 x23) fun m24 => xLet (m24.1 a1 13) fun x26 => bif (decide (x26 = 0) || decide (x26 = 1)) then xLet (xPut m24 a0 13 x26) fun m27 => xLet (xCpy m27 (a1 + 1) (a0 + 1) 0 0 80) fun m29 => some m29 else none else none
set_option maxRecDepth 4000 in
theorem fX3_copy_0_ok {a0 : Nat} {a1 : Nat} {d : Nat} (hd : 0 ≤ d) (ha0 : isLink a0) (ha1 : isLink a1) {m : xMem} {r : xMem} (h : fX3_copy_0 a0 a1 m = some r) : xFx hh_210 cX3_copy d 0 [some (.ref a0), some (.ref a1)] [] (xLay m) 0 0 none (xLay r) := by
  unfold fX3_copy_0 at h
  refine fx_aload_n dX3_copy_0 rfl rfl ?_
  refine fx_aload_n dX3_copy_1 rfl rfl ?_
  obtain ⟨x1, hx1, h⟩ := xLet_el h
  refine gx_get dX3_copy_2 rfl fd_3_15 ha1.1 rfl rfl hx1 ?_
  obtain ⟨m2, hm2, h⟩ := xLet_el h
  refine gx_put dX3_copy_5 rfl fd_3_15 ha0.1 rfl rfl rfl hm2 ?_
  refine fx_aload_n dX3_copy_8 rfl rfl ?_
  refine fx_aload_n dX3_copy_9 rfl rfl ?_
  obtain ⟨x3, hx3, h⟩ := xLet_el h
  refine gx_get dX3_copy_10 rfl fd_3_19 ha1.1 rfl rfl hx3 ?_
  obtain ⟨m4, hm4, h⟩ := xLet_el h
  refine gx_put dX3_copy_13 rfl fd_3_19 ha0.1 rfl rfl rfl hm4 ?_
  refine fx_aload_n dX3_copy_16 rfl rfl ?_
  refine fx_aload_n dX3_copy_17 rfl rfl ?_
  obtain ⟨x5, hx5, h⟩ := xLet_el h
  refine gx_get dX3_copy_18 rfl fd_3_22 ha1.1 rfl rfl hx5 ?_
  obtain ⟨m6, hm6, h⟩ := xLet_el h
  refine gx_put dX3_copy_21 rfl fd_3_22 ha0.1 rfl rfl rfl hm6 ?_
  refine fx_aload_n dX3_copy_24 rfl rfl ?_
  refine fx_aload_n dX3_copy_25 rfl rfl ?_
  obtain ⟨x7, hx7, h⟩ := xLet_el h
  refine gx_get dX3_copy_26 rfl fd_3_25 ha1.1 rfl rfl hx7 ?_
  obtain ⟨m8, hm8, h⟩ := xLet_el h
  refine gx_put dX3_copy_29 rfl fd_3_25 ha0.1 rfl rfl rfl hm8 ?_
  refine fx_aload_n dX3_copy_32 rfl rfl ?_
  refine fx_aload_n dX3_copy_33 rfl rfl ?_
  obtain ⟨x9, hx9, h⟩ := xLet_el h
  refine gx_get dX3_copy_34 rfl fd_3_28 ha1.1 rfl rfl hx9 ?_
  obtain ⟨m10, hm10, h⟩ := xLet_el h
  refine gx_put dX3_copy_37 rfl fd_3_28 ha0.1 rfl rfl rfl hm10 ?_
  refine fx_aload_n dX3_copy_40 rfl rfl ?_
  refine fx_aload_n dX3_copy_41 rfl rfl ?_
  obtain ⟨x11, hx11, h⟩ := xLet_el h
  refine gx_get dX3_copy_42 rfl fd_3_31 ha1.1 rfl rfl hx11 ?_
  obtain ⟨m12, hm12, h⟩ := xLet_el h
  refine gx_put dX3_copy_45 rfl fd_3_31 ha0.1 rfl rfl rfl hm12 ?_
  refine fx_aload_n dX3_copy_48 rfl rfl ?_
  refine fx_aload_n dX3_copy_49 rfl rfl ?_
  obtain ⟨x13, hx13, h⟩ := xLet_el h
  refine gx_get dX3_copy_50 rfl fd_3_34 ha1.1 rfl rfl hx13 ?_
  obtain ⟨m14, hm14, h⟩ := xLet_el h
  refine gx_put dX3_copy_53 rfl fd_3_34 ha0.1 rfl rfl rfl hm14 ?_
  refine fx_aload_n dX3_copy_56 rfl rfl ?_
  refine fx_aload_n dX3_copy_57 rfl rfl ?_
  obtain ⟨x15, hx15, h⟩ := xLet_el h
  refine gx_get dX3_copy_58 rfl fd_3_37 ha1.1 rfl rfl hx15 ?_
  obtain ⟨m16, hm16, h⟩ := xLet_el h
  refine gx_put dX3_copy_61 rfl fd_3_37 ha0.1 rfl rfl rfl hm16 ?_
  refine fx_aload_n dX3_copy_64 rfl rfl ?_
  refine fx_aload_n dX3_copy_65 rfl rfl ?_
  obtain ⟨x17, hx17, h⟩ := xLet_el h
  refine gx_get dX3_copy_66 rfl fd_3_40 ha1.1 rfl rfl hx17 ?_
  obtain ⟨m18, hm18, h⟩ := xLet_el h
  refine gx_put dX3_copy_69 rfl fd_3_40 ha0.1 rfl rfl rfl hm18 ?_
  refine fx_aload_n dX3_copy_72 rfl rfl ?_
  refine fx_aload_n dX3_copy_73 rfl rfl ?_
  obtain ⟨x19, hx19, h⟩ := xLet_el h
  refine gx_get dX3_copy_74 rfl fd_3_43 ha1.1 rfl rfl hx19 ?_
  obtain ⟨m20, hm20, h⟩ := xLet_el h
  refine gx_put dX3_copy_77 rfl fd_3_43 ha0.1 rfl rfl rfl hm20 ?_
  refine fx_aload_n dX3_copy_80 rfl rfl ?_
  refine fx_aload_n dX3_copy_81 rfl rfl ?_
  obtain ⟨x21, hx21, h⟩ := xLet_el h
  refine gx_get dX3_copy_82 rfl fd_3_46 ha1.1 rfl rfl hx21 ?_
  obtain ⟨m22, hm22, h⟩ := xLet_el h
  refine gx_put dX3_copy_85 rfl fd_3_46 ha0.1 rfl rfl rfl hm22 ?_
  refine fx_aload_n dX3_copy_88 rfl rfl ?_
  refine fx_aload_n dX3_copy_89 rfl rfl ?_
  obtain ⟨x23, hx23, h⟩ := xLet_el h
  refine gx_get dX3_copy_90 rfl fd_3_49 ha1.1 rfl rfl hx23 ?_
  obtain ⟨hb25, h⟩ := xChk_el h
  obtain ⟨m24, hm24, h⟩ := xLet_el h
  refine gx_put dX3_copy_93 rfl fd_3_49 ha0.1 rfl rfl (by show ((decide _ || decide _) && _) = true; rw [hb25]; rfl) hm24 ?_
  refine fx_aload_n dX3_copy_96 rfl rfl ?_
  refine fx_aload_n dX3_copy_97 rfl rfl ?_
  obtain ⟨x26, hx26, h⟩ := xLet_el h
  refine gx_get dX3_copy_98 rfl fd_3_53 ha1.1 rfl rfl hx26 ?_
  obtain ⟨hb28, h⟩ := xChk_el h
  obtain ⟨m27, hm27, h⟩ := xLet_el h
  refine gx_put dX3_copy_101 rfl fd_3_53 ha0.1 rfl rfl (by show ((decide _ || decide _) && _) = true; rw [hb28]; rfl) hm27 ?_
  refine fx_aload_n dX3_copy_104 rfl rfl ?_
  refine gx_getr dX3_copy_105 rfl fd_3_9 ha1.1 rfl rfl ?_
  refine fx_iconst (x := 0) dX3_copy_108 rfl (by decide) ?_
  refine fx_aload_n dX3_copy_109 rfl rfl ?_
  refine gx_getr dX3_copy_110 rfl fd_3_9 ha0.1 rfl rfl ?_
  refine fx_iconst (x := 0) dX3_copy_113 rfl (by decide) ?_
  refine fx_aload_n dX3_copy_114 rfl rfl ?_
  refine gx_getr dX3_copy_115 rfl fd_3_9 ha0.1 rfl rfl ?_
  refine gx_alen (t := 1) (y := 80) dX3_copy_118 rfl ha0.2 rfl (by decide) ?_
  obtain ⟨m29, hm29, h⟩ := xLet_el h
  refine gx_copy dX3_copy_119 rfl ca_3_62 rfl ha1.2 ha0.2 (by decide) hm29 ?_
  cases h
  exact fx_return dX3_copy_122 rfl rfl
def fX3_copy (a0 : Nat) (a1 : Nat) (m : xMem) : Option xMem := fX3_copy_0 a0 a1  m
theorem fX3_copy_ok {a0 : Nat} {a1 : Nat} {m : xMem} {r : xMem} {d : Nat} (hd : 1 ≤ d) (ha0 : isLink a0) (ha1 : isLink a1) (h : fX3_copy a0 a1 m = some r) : xEx d 210 [.ref a0, .ref a1] (xLay m) none (xLay r) := by
  obtain ⟨d, rfl⟩ : ∃ q, d = q + 1 := ⟨d - 1, by omega⟩
  exact xEx_of me_210 rfl (fX3_copy_0_ok (d := d) (by omega) ha0 ha1 h)
def fX0_copy_0 (a0 : Nat) (a1 : Nat) (m : xMem) : Option xMem := xLet (m.1 a1 0) fun x1 => xLet (xPut m a0 0 x1) fun m2 => xLet (m2.1 a1 1) fun x3 => xLet (xPut m2 a0 1 x3) fun m4 => xLet (m4.1 a1 2) fun x5 => xLet (xPut m4 a0 2 x5) fun m6 => xLet (m6.1 a1 3) fun x7 => xLet (xPut m6 a0 3 x7) fun m8 => xLet (m8.1 a1 4) fun x9 => xLet (xPut m8 a0 4 x9) fun m10 => xLet (m10.1 a1 5) fun x11 => xLet (xPut m10 a0 5 x11) fun m12 => xLet (m12.1 a1 6) fun x13 => bif (decide (x13 = 0) || decide (x13 = 1)) then xLet (xPut m12 a0 6 x13) fun m14 => some m14 else none
set_option maxRecDepth 4000 in
theorem fX0_copy_0_ok {a0 : Nat} {a1 : Nat} {d : Nat} (hd : 0 ≤ d) (ha0 : isBurst a0) (ha1 : isBurst a1) {m : xMem} {r : xMem} (h : fX0_copy_0 a0 a1 m = some r) : xFx hh_211 cX0_copy d 0 [some (.ref a0), some (.ref a1)] [] (xLay m) 0 0 none (xLay r) := by
  unfold fX0_copy_0 at h
  refine fx_aload_n dX0_copy_0 rfl rfl ?_
  refine fx_aload_n dX0_copy_1 rfl rfl ?_
  obtain ⟨x1, hx1, h⟩ := xLet_el h
  refine gx_get dX0_copy_2 rfl fd_0_7 ha1 rfl rfl hx1 ?_
  obtain ⟨m2, hm2, h⟩ := xLet_el h
  refine gx_put dX0_copy_5 rfl fd_0_7 ha0 rfl rfl rfl hm2 ?_
  refine fx_aload_n dX0_copy_8 rfl rfl ?_
  refine fx_aload_n dX0_copy_9 rfl rfl ?_
  obtain ⟨x3, hx3, h⟩ := xLet_el h
  refine gx_get dX0_copy_10 rfl fd_0_13 ha1 rfl rfl hx3 ?_
  obtain ⟨m4, hm4, h⟩ := xLet_el h
  refine gx_put dX0_copy_13 rfl fd_0_13 ha0 rfl rfl rfl hm4 ?_
  refine fx_aload_n dX0_copy_16 rfl rfl ?_
  refine fx_aload_n dX0_copy_17 rfl rfl ?_
  obtain ⟨x5, hx5, h⟩ := xLet_el h
  refine gx_get dX0_copy_18 rfl fd_0_16 ha1 rfl rfl hx5 ?_
  obtain ⟨m6, hm6, h⟩ := xLet_el h
  refine gx_put dX0_copy_21 rfl fd_0_16 ha0 rfl rfl rfl hm6 ?_
  refine fx_aload_n dX0_copy_24 rfl rfl ?_
  refine fx_aload_n dX0_copy_25 rfl rfl ?_
  obtain ⟨x7, hx7, h⟩ := xLet_el h
  refine gx_get dX0_copy_26 rfl fd_0_19 ha1 rfl rfl hx7 ?_
  obtain ⟨m8, hm8, h⟩ := xLet_el h
  refine gx_put dX0_copy_29 rfl fd_0_19 ha0 rfl rfl rfl hm8 ?_
  refine fx_aload_n dX0_copy_32 rfl rfl ?_
  refine fx_aload_n dX0_copy_33 rfl rfl ?_
  obtain ⟨x9, hx9, h⟩ := xLet_el h
  refine gx_get dX0_copy_34 rfl fd_0_22 ha1 rfl rfl hx9 ?_
  obtain ⟨m10, hm10, h⟩ := xLet_el h
  refine gx_put dX0_copy_37 rfl fd_0_22 ha0 rfl rfl rfl hm10 ?_
  refine fx_aload_n dX0_copy_40 rfl rfl ?_
  refine fx_aload_n dX0_copy_41 rfl rfl ?_
  obtain ⟨x11, hx11, h⟩ := xLet_el h
  refine gx_get dX0_copy_42 rfl fd_0_25 ha1 rfl rfl hx11 ?_
  obtain ⟨m12, hm12, h⟩ := xLet_el h
  refine gx_put dX0_copy_45 rfl fd_0_25 ha0 rfl rfl rfl hm12 ?_
  refine fx_aload_n dX0_copy_48 rfl rfl ?_
  refine fx_aload_n dX0_copy_49 rfl rfl ?_
  obtain ⟨x13, hx13, h⟩ := xLet_el h
  refine gx_get dX0_copy_50 rfl fd_0_28 ha1 rfl rfl hx13 ?_
  obtain ⟨hb15, h⟩ := xChk_el h
  obtain ⟨m14, hm14, h⟩ := xLet_el h
  refine gx_put dX0_copy_53 rfl fd_0_28 ha0 rfl rfl (by show ((decide _ || decide _) && _) = true; rw [hb15]; rfl) hm14 ?_
  cases h
  exact fx_return dX0_copy_56 rfl rfl
def fX0_copy (a0 : Nat) (a1 : Nat) (m : xMem) : Option xMem := fX0_copy_0 a0 a1  m
theorem fX0_copy_ok {a0 : Nat} {a1 : Nat} {m : xMem} {r : xMem} {d : Nat} (hd : 1 ≤ d) (ha0 : isBurst a0) (ha1 : isBurst a1) (h : fX0_copy a0 a1 m = some r) : xEx d 211 [.ref a0, .ref a1] (xLay m) none (xLay r) := by
  obtain ⟨d, rfl⟩ : ∃ q, d = q + 1 := ⟨d - 1, by omega⟩
  exact xEx_of me_211 rfl (fX0_copy_0_ok (d := d) (by omega) ha0 ha1 h)
