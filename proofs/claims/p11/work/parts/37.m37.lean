theorem bdX11_image_0 : (decode cX11_image 0 = .ok (.aload_n 0, 1)) ∧ (decode cX11_image 1 = .ok (.getfield 16, 3)) ∧ (decode cX11_image 4 = .ok (.aload_n 0, 1)) ∧ (decode cX11_image 5 = .ok (.getfield 10, 3)) ∧ (decode cX11_image 8 = .ok (.invokevirtual 314, 3)) ∧ (decode cX11_image 11 = .ok (.aload_n 0, 1)) ∧ (decode cX11_image 12 = .ok (.getfield 16, 3)) ∧ (decode cX11_image 15 = .ok (.getfield 173, 3)) ∧ (decode cX11_image 18 = .ok (.ireturn, 1)) := by decide +kernel
theorem dX11_image_0 : decode cX11_image 0 = .ok (.aload_n 0, 1) := bdX11_image_0.1
theorem dX11_image_1 : decode cX11_image 1 = .ok (.getfield 16, 3) := bdX11_image_0.2.1
theorem dX11_image_4 : decode cX11_image 4 = .ok (.aload_n 0, 1) := bdX11_image_0.2.2.1
theorem dX11_image_5 : decode cX11_image 5 = .ok (.getfield 10, 3) := bdX11_image_0.2.2.2.1
theorem dX11_image_8 : decode cX11_image 8 = .ok (.invokevirtual 314, 3) := bdX11_image_0.2.2.2.2.1
theorem dX11_image_11 : decode cX11_image 11 = .ok (.aload_n 0, 1) := bdX11_image_0.2.2.2.2.2.1
theorem dX11_image_12 : decode cX11_image 12 = .ok (.getfield 16, 3) := bdX11_image_0.2.2.2.2.2.2.1
theorem dX11_image_15 : decode cX11_image 15 = .ok (.getfield 173, 3) := bdX11_image_0.2.2.2.2.2.2.2.1
theorem dX11_image_18 : decode cX11_image 18 = .ok (.ireturn, 1) := bdX11_image_0.2.2.2.2.2.2.2.2
theorem bdX12_image_0 : (decode cX12_image 0 = .ok (.iconst 0, 1)) ∧ (decode cX12_image 1 = .ok (.istore_n 1, 1)) ∧ (decode cX12_image 2 = .ok (.iload_n 1, 1)) ∧ (decode cX12_image 3 = .ok (.sipush 1610, 3)) ∧ (decode cX12_image 6 = .ok (.if_icmp .ge 21, 3)) ∧ (decode cX12_image 9 = .ok (.aload_n 0, 1)) ∧ (decode cX12_image 10 = .ok (.getfield 13, 3)) ∧ (decode cX12_image 13 = .ok (.iload_n 1, 1)) ∧ (decode cX12_image 14 = .ok (.aload_n 0, 1)) ∧ (decode cX12_image 15 = .ok (.getfield 7, 3)) ∧ (decode cX12_image 18 = .ok (.iload_n 1, 1)) ∧ (decode cX12_image 19 = .ok (.iaload, 1)) ∧ (decode cX12_image 20 = .ok (.iastore, 1)) ∧ (decode cX12_image 21 = .ok (.iinc 1 1, 3)) ∧ (decode cX12_image 24 = .ok (.goto (-22), 3)) ∧ (decode cX12_image 27 = .ok (.aload_n 0, 1)) := by decide +kernel
theorem dX12_image_0 : decode cX12_image 0 = .ok (.iconst 0, 1) := bdX12_image_0.1
theorem dX12_image_1 : decode cX12_image 1 = .ok (.istore_n 1, 1) := bdX12_image_0.2.1
theorem dX12_image_2 : decode cX12_image 2 = .ok (.iload_n 1, 1) := bdX12_image_0.2.2.1
theorem dX12_image_3 : decode cX12_image 3 = .ok (.sipush 1610, 3) := bdX12_image_0.2.2.2.1
theorem dX12_image_6 : decode cX12_image 6 = .ok (.if_icmp .ge 21, 3) := bdX12_image_0.2.2.2.2.1
theorem dX12_image_9 : decode cX12_image 9 = .ok (.aload_n 0, 1) := bdX12_image_0.2.2.2.2.2.1
theorem dX12_image_10 : decode cX12_image 10 = .ok (.getfield 13, 3) := bdX12_image_0.2.2.2.2.2.2.1
theorem dX12_image_13 : decode cX12_image 13 = .ok (.iload_n 1, 1) := bdX12_image_0.2.2.2.2.2.2.2.1
theorem dX12_image_14 : decode cX12_image 14 = .ok (.aload_n 0, 1) := bdX12_image_0.2.2.2.2.2.2.2.2.1
theorem dX12_image_15 : decode cX12_image 15 = .ok (.getfield 7, 3) := bdX12_image_0.2.2.2.2.2.2.2.2.2.1
theorem dX12_image_18 : decode cX12_image 18 = .ok (.iload_n 1, 1) := bdX12_image_0.2.2.2.2.2.2.2.2.2.2.1
theorem dX12_image_19 : decode cX12_image 19 = .ok (.iaload, 1) := bdX12_image_0.2.2.2.2.2.2.2.2.2.2.2.1
theorem dX12_image_20 : decode cX12_image 20 = .ok (.iastore, 1) := bdX12_image_0.2.2.2.2.2.2.2.2.2.2.2.2.1
theorem dX12_image_21 : decode cX12_image 21 = .ok (.iinc 1 1, 3) := bdX12_image_0.2.2.2.2.2.2.2.2.2.2.2.2.2.1
theorem dX12_image_24 : decode cX12_image 24 = .ok (.goto (-22), 3) := bdX12_image_0.2.2.2.2.2.2.2.2.2.2.2.2.2.2.1
theorem dX12_image_27 : decode cX12_image 27 = .ok (.aload_n 0, 1) := bdX12_image_0.2.2.2.2.2.2.2.2.2.2.2.2.2.2.2
theorem bdX12_image_28 : (decode cX12_image 28 = .ok (.getfield 7, 3)) ∧ (decode cX12_image 31 = .ok (.iconst 0, 1)) ∧ (decode cX12_image 32 = .ok (.iaload, 1)) ∧ (decode cX12_image 33 = .ok (.ireturn, 1)) := by decide +kernel
theorem dX12_image_28 : decode cX12_image 28 = .ok (.getfield 7, 3) := bdX12_image_28.1
theorem dX12_image_31 : decode cX12_image 31 = .ok (.iconst 0, 1) := bdX12_image_28.2.1
theorem dX12_image_32 : decode cX12_image 32 = .ok (.iaload, 1) := bdX12_image_28.2.2.1
theorem dX12_image_33 : decode cX12_image 33 = .ok (.ireturn, 1) := bdX12_image_28.2.2.2
theorem bdX11_back_0 : (decode cX11_back 0 = .ok (.aload_n 0, 1)) ∧ (decode cX11_back 1 = .ok (.getfield 10, 3)) ∧ (decode cX11_back 4 = .ok (.aload_n 0, 1)) ∧ (decode cX11_back 5 = .ok (.getfield 16, 3)) ∧ (decode cX11_back 8 = .ok (.invokevirtual 314, 3)) ∧ (decode cX11_back 11 = .ok (.aload_n 0, 1)) ∧ (decode cX11_back 12 = .ok (.getfield 10, 3)) ∧ (decode cX11_back 15 = .ok (.getfield 173, 3)) ∧ (decode cX11_back 18 = .ok (.ireturn, 1)) := by decide +kernel
theorem dX11_back_0 : decode cX11_back 0 = .ok (.aload_n 0, 1) := bdX11_back_0.1
theorem dX11_back_1 : decode cX11_back 1 = .ok (.getfield 10, 3) := bdX11_back_0.2.1
theorem dX11_back_4 : decode cX11_back 4 = .ok (.aload_n 0, 1) := bdX11_back_0.2.2.1
theorem dX11_back_5 : decode cX11_back 5 = .ok (.getfield 16, 3) := bdX11_back_0.2.2.2.1
theorem dX11_back_8 : decode cX11_back 8 = .ok (.invokevirtual 314, 3) := bdX11_back_0.2.2.2.2.1
theorem dX11_back_11 : decode cX11_back 11 = .ok (.aload_n 0, 1) := bdX11_back_0.2.2.2.2.2.1
theorem dX11_back_12 : decode cX11_back 12 = .ok (.getfield 10, 3) := bdX11_back_0.2.2.2.2.2.2.1
theorem dX11_back_15 : decode cX11_back 15 = .ok (.getfield 173, 3) := bdX11_back_0.2.2.2.2.2.2.2.1
theorem dX11_back_18 : decode cX11_back 18 = .ok (.ireturn, 1) := bdX11_back_0.2.2.2.2.2.2.2.2
theorem bdX12_back_0 : (decode cX12_back 0 = .ok (.iconst 0, 1)) ∧ (decode cX12_back 1 = .ok (.istore_n 1, 1)) ∧ (decode cX12_back 2 = .ok (.iload_n 1, 1)) ∧ (decode cX12_back 3 = .ok (.sipush 1610, 3)) ∧ (decode cX12_back 6 = .ok (.if_icmp .ge 21, 3)) ∧ (decode cX12_back 9 = .ok (.aload_n 0, 1)) ∧ (decode cX12_back 10 = .ok (.getfield 7, 3)) ∧ (decode cX12_back 13 = .ok (.iload_n 1, 1)) ∧ (decode cX12_back 14 = .ok (.aload_n 0, 1)) ∧ (decode cX12_back 15 = .ok (.getfield 13, 3)) ∧ (decode cX12_back 18 = .ok (.iload_n 1, 1)) ∧ (decode cX12_back 19 = .ok (.iaload, 1)) ∧ (decode cX12_back 20 = .ok (.iastore, 1)) ∧ (decode cX12_back 21 = .ok (.iinc 1 1, 3)) ∧ (decode cX12_back 24 = .ok (.goto (-22), 3)) ∧ (decode cX12_back 27 = .ok (.aload_n 0, 1)) := by decide +kernel
theorem dX12_back_0 : decode cX12_back 0 = .ok (.iconst 0, 1) := bdX12_back_0.1
theorem dX12_back_1 : decode cX12_back 1 = .ok (.istore_n 1, 1) := bdX12_back_0.2.1
theorem dX12_back_2 : decode cX12_back 2 = .ok (.iload_n 1, 1) := bdX12_back_0.2.2.1
theorem dX12_back_3 : decode cX12_back 3 = .ok (.sipush 1610, 3) := bdX12_back_0.2.2.2.1
theorem dX12_back_6 : decode cX12_back 6 = .ok (.if_icmp .ge 21, 3) := bdX12_back_0.2.2.2.2.1
theorem dX12_back_9 : decode cX12_back 9 = .ok (.aload_n 0, 1) := bdX12_back_0.2.2.2.2.2.1
theorem dX12_back_10 : decode cX12_back 10 = .ok (.getfield 7, 3) := bdX12_back_0.2.2.2.2.2.2.1
theorem dX12_back_13 : decode cX12_back 13 = .ok (.iload_n 1, 1) := bdX12_back_0.2.2.2.2.2.2.2.1
theorem dX12_back_14 : decode cX12_back 14 = .ok (.aload_n 0, 1) := bdX12_back_0.2.2.2.2.2.2.2.2.1
theorem dX12_back_15 : decode cX12_back 15 = .ok (.getfield 13, 3) := bdX12_back_0.2.2.2.2.2.2.2.2.2.1
theorem dX12_back_18 : decode cX12_back 18 = .ok (.iload_n 1, 1) := bdX12_back_0.2.2.2.2.2.2.2.2.2.2.1
theorem dX12_back_19 : decode cX12_back 19 = .ok (.iaload, 1) := bdX12_back_0.2.2.2.2.2.2.2.2.2.2.2.1
theorem dX12_back_20 : decode cX12_back 20 = .ok (.iastore, 1) := bdX12_back_0.2.2.2.2.2.2.2.2.2.2.2.2.1
theorem dX12_back_21 : decode cX12_back 21 = .ok (.iinc 1 1, 3) := bdX12_back_0.2.2.2.2.2.2.2.2.2.2.2.2.2.1
theorem dX12_back_24 : decode cX12_back 24 = .ok (.goto (-22), 3) := bdX12_back_0.2.2.2.2.2.2.2.2.2.2.2.2.2.2.1
theorem dX12_back_27 : decode cX12_back 27 = .ok (.aload_n 0, 1) := bdX12_back_0.2.2.2.2.2.2.2.2.2.2.2.2.2.2.2
theorem bdX12_back_28 : (decode cX12_back 28 = .ok (.getfield 7, 3)) ∧ (decode cX12_back 31 = .ok (.iconst 0, 1)) ∧ (decode cX12_back 32 = .ok (.iaload, 1)) ∧ (decode cX12_back 33 = .ok (.ireturn, 1)) := by decide +kernel
theorem dX12_back_28 : decode cX12_back 28 = .ok (.getfield 7, 3) := bdX12_back_28.1
theorem dX12_back_31 : decode cX12_back 31 = .ok (.iconst 0, 1) := bdX12_back_28.2.1
theorem dX12_back_32 : decode cX12_back 32 = .ok (.iaload, 1) := bdX12_back_28.2.2.1
theorem dX12_back_33 : decode cX12_back 33 = .ok (.ireturn, 1) := bdX12_back_28.2.2.2
theorem bdX11_about_0 : (decode cX11_about 0 = .ok (.iload_n 1, 1)) ∧ (decode cX11_about 1 = .ok (.tableswitch 144 0 9 #[55, 63, 71, 79, 87, 95, 103, 114, 125, 136], 55)) ∧ (decode cX11_about 56 = .ok (.aload_n 0, 1)) ∧ (decode cX11_about 57 = .ok (.getfield 10, 3)) ∧ (decode cX11_about 60 = .ok (.getfield 173, 3)) ∧ (decode cX11_about 63 = .ok (.ireturn, 1)) ∧ (decode cX11_about 64 = .ok (.aload_n 0, 1)) ∧ (decode cX11_about 65 = .ok (.getfield 10, 3)) ∧ (decode cX11_about 68 = .ok (.getfield 51, 3)) ∧ (decode cX11_about 71 = .ok (.ireturn, 1)) ∧ (decode cX11_about 72 = .ok (.aload_n 0, 1)) ∧ (decode cX11_about 73 = .ok (.getfield 10, 3)) ∧ (decode cX11_about 76 = .ok (.getfield 72, 3)) ∧ (decode cX11_about 79 = .ok (.ireturn, 1)) ∧ (decode cX11_about 80 = .ok (.aload_n 0, 1)) ∧ (decode cX11_about 81 = .ok (.getfield 10, 3)) := by decide +kernel
theorem dX11_about_0 : decode cX11_about 0 = .ok (.iload_n 1, 1) := bdX11_about_0.1
theorem dX11_about_1 : decode cX11_about 1 = .ok (.tableswitch 144 0 9 #[55, 63, 71, 79, 87, 95, 103, 114, 125, 136], 55) := bdX11_about_0.2.1
theorem dX11_about_56 : decode cX11_about 56 = .ok (.aload_n 0, 1) := bdX11_about_0.2.2.1
theorem dX11_about_57 : decode cX11_about 57 = .ok (.getfield 10, 3) := bdX11_about_0.2.2.2.1
theorem dX11_about_60 : decode cX11_about 60 = .ok (.getfield 173, 3) := bdX11_about_0.2.2.2.2.1
theorem dX11_about_63 : decode cX11_about 63 = .ok (.ireturn, 1) := bdX11_about_0.2.2.2.2.2.1
theorem dX11_about_64 : decode cX11_about 64 = .ok (.aload_n 0, 1) := bdX11_about_0.2.2.2.2.2.2.1
theorem dX11_about_65 : decode cX11_about 65 = .ok (.getfield 10, 3) := bdX11_about_0.2.2.2.2.2.2.2.1
theorem dX11_about_68 : decode cX11_about 68 = .ok (.getfield 51, 3) := bdX11_about_0.2.2.2.2.2.2.2.2.1
theorem dX11_about_71 : decode cX11_about 71 = .ok (.ireturn, 1) := bdX11_about_0.2.2.2.2.2.2.2.2.2.1
theorem dX11_about_72 : decode cX11_about 72 = .ok (.aload_n 0, 1) := bdX11_about_0.2.2.2.2.2.2.2.2.2.2.1
theorem dX11_about_73 : decode cX11_about 73 = .ok (.getfield 10, 3) := bdX11_about_0.2.2.2.2.2.2.2.2.2.2.2.1
theorem dX11_about_76 : decode cX11_about 76 = .ok (.getfield 72, 3) := bdX11_about_0.2.2.2.2.2.2.2.2.2.2.2.2.1
theorem dX11_about_79 : decode cX11_about 79 = .ok (.ireturn, 1) := bdX11_about_0.2.2.2.2.2.2.2.2.2.2.2.2.2.1
theorem dX11_about_80 : decode cX11_about 80 = .ok (.aload_n 0, 1) := bdX11_about_0.2.2.2.2.2.2.2.2.2.2.2.2.2.2.1
theorem dX11_about_81 : decode cX11_about 81 = .ok (.getfield 10, 3) := bdX11_about_0.2.2.2.2.2.2.2.2.2.2.2.2.2.2.2
theorem bdX11_about_84 : (decode cX11_about 84 = .ok (.getfield 104, 3)) ∧ (decode cX11_about 87 = .ok (.ireturn, 1)) ∧ (decode cX11_about 88 = .ok (.aload_n 0, 1)) ∧ (decode cX11_about 89 = .ok (.getfield 10, 3)) ∧ (decode cX11_about 92 = .ok (.getfield 143, 3)) ∧ (decode cX11_about 95 = .ok (.ireturn, 1)) ∧ (decode cX11_about 96 = .ok (.aload_n 0, 1)) ∧ (decode cX11_about 97 = .ok (.getfield 10, 3)) ∧ (decode cX11_about 100 = .ok (.getfield 156, 3)) ∧ (decode cX11_about 103 = .ok (.ireturn, 1)) ∧ (decode cX11_about 104 = .ok (.aload_n 0, 1)) ∧ (decode cX11_about 105 = .ok (.getfield 10, 3)) ∧ (decode cX11_about 108 = .ok (.getfield 271, 3)) ∧ (decode cX11_about 111 = .ok (.getfield 317, 3)) ∧ (decode cX11_about 114 = .ok (.ireturn, 1)) ∧ (decode cX11_about 115 = .ok (.aload_n 0, 1)) := by decide +kernel
theorem dX11_about_84 : decode cX11_about 84 = .ok (.getfield 104, 3) := bdX11_about_84.1
theorem dX11_about_87 : decode cX11_about 87 = .ok (.ireturn, 1) := bdX11_about_84.2.1
theorem dX11_about_88 : decode cX11_about 88 = .ok (.aload_n 0, 1) := bdX11_about_84.2.2.1
theorem dX11_about_89 : decode cX11_about 89 = .ok (.getfield 10, 3) := bdX11_about_84.2.2.2.1
theorem dX11_about_92 : decode cX11_about 92 = .ok (.getfield 143, 3) := bdX11_about_84.2.2.2.2.1
theorem dX11_about_95 : decode cX11_about 95 = .ok (.ireturn, 1) := bdX11_about_84.2.2.2.2.2.1
theorem dX11_about_96 : decode cX11_about 96 = .ok (.aload_n 0, 1) := bdX11_about_84.2.2.2.2.2.2.1
theorem dX11_about_97 : decode cX11_about 97 = .ok (.getfield 10, 3) := bdX11_about_84.2.2.2.2.2.2.2.1
theorem dX11_about_100 : decode cX11_about 100 = .ok (.getfield 156, 3) := bdX11_about_84.2.2.2.2.2.2.2.2.1
theorem dX11_about_103 : decode cX11_about 103 = .ok (.ireturn, 1) := bdX11_about_84.2.2.2.2.2.2.2.2.2.1
theorem dX11_about_104 : decode cX11_about 104 = .ok (.aload_n 0, 1) := bdX11_about_84.2.2.2.2.2.2.2.2.2.2.1
theorem dX11_about_105 : decode cX11_about 105 = .ok (.getfield 10, 3) := bdX11_about_84.2.2.2.2.2.2.2.2.2.2.2.1
theorem dX11_about_108 : decode cX11_about 108 = .ok (.getfield 271, 3) := bdX11_about_84.2.2.2.2.2.2.2.2.2.2.2.2.1
theorem dX11_about_111 : decode cX11_about 111 = .ok (.getfield 317, 3) := bdX11_about_84.2.2.2.2.2.2.2.2.2.2.2.2.2.1
theorem dX11_about_114 : decode cX11_about 114 = .ok (.ireturn, 1) := bdX11_about_84.2.2.2.2.2.2.2.2.2.2.2.2.2.2.1
theorem dX11_about_115 : decode cX11_about 115 = .ok (.aload_n 0, 1) := bdX11_about_84.2.2.2.2.2.2.2.2.2.2.2.2.2.2.2
theorem bdX11_about_116 : (decode cX11_about 116 = .ok (.getfield 10, 3)) ∧ (decode cX11_about 119 = .ok (.getfield 282, 3)) ∧ (decode cX11_about 122 = .ok (.getfield 290, 3)) ∧ (decode cX11_about 125 = .ok (.ireturn, 1)) ∧ (decode cX11_about 126 = .ok (.aload_n 0, 1)) ∧ (decode cX11_about 127 = .ok (.getfield 10, 3)) ∧ (decode cX11_about 130 = .ok (.getfield 301, 3)) ∧ (decode cX11_about 133 = .ok (.getfield 309, 3)) ∧ (decode cX11_about 136 = .ok (.ireturn, 1)) ∧ (decode cX11_about 137 = .ok (.aload_n 0, 1)) ∧ (decode cX11_about 138 = .ok (.getfield 32, 3)) ∧ (decode cX11_about 141 = .ok (.getfield 140, 3)) ∧ (decode cX11_about 144 = .ok (.ireturn, 1)) ∧ (decode cX11_about 145 = .ok (.iconst (-1), 1)) ∧ (decode cX11_about 146 = .ok (.ireturn, 1)) := by decide +kernel
theorem dX11_about_116 : decode cX11_about 116 = .ok (.getfield 10, 3) := bdX11_about_116.1
theorem dX11_about_119 : decode cX11_about 119 = .ok (.getfield 282, 3) := bdX11_about_116.2.1
theorem dX11_about_122 : decode cX11_about 122 = .ok (.getfield 290, 3) := bdX11_about_116.2.2.1
theorem dX11_about_125 : decode cX11_about 125 = .ok (.ireturn, 1) := bdX11_about_116.2.2.2.1
theorem dX11_about_126 : decode cX11_about 126 = .ok (.aload_n 0, 1) := bdX11_about_116.2.2.2.2.1
theorem dX11_about_127 : decode cX11_about 127 = .ok (.getfield 10, 3) := bdX11_about_116.2.2.2.2.2.1
theorem dX11_about_130 : decode cX11_about 130 = .ok (.getfield 301, 3) := bdX11_about_116.2.2.2.2.2.2.1
theorem dX11_about_133 : decode cX11_about 133 = .ok (.getfield 309, 3) := bdX11_about_116.2.2.2.2.2.2.2.1
theorem dX11_about_136 : decode cX11_about 136 = .ok (.ireturn, 1) := bdX11_about_116.2.2.2.2.2.2.2.2.1
theorem dX11_about_137 : decode cX11_about 137 = .ok (.aload_n 0, 1) := bdX11_about_116.2.2.2.2.2.2.2.2.2.1
theorem dX11_about_138 : decode cX11_about 138 = .ok (.getfield 32, 3) := bdX11_about_116.2.2.2.2.2.2.2.2.2.2.1
theorem dX11_about_141 : decode cX11_about 141 = .ok (.getfield 140, 3) := bdX11_about_116.2.2.2.2.2.2.2.2.2.2.2.1
theorem dX11_about_144 : decode cX11_about 144 = .ok (.ireturn, 1) := bdX11_about_116.2.2.2.2.2.2.2.2.2.2.2.2.1
theorem dX11_about_145 : decode cX11_about 145 = .ok (.iconst (-1), 1) := bdX11_about_116.2.2.2.2.2.2.2.2.2.2.2.2.2.1
theorem dX11_about_146 : decode cX11_about 146 = .ok (.ireturn, 1) := bdX11_about_116.2.2.2.2.2.2.2.2.2.2.2.2.2.2
theorem bdX12_about_0 : (decode cX12_about 0 = .ok (.iload_n 1, 1)) ∧ (decode cX12_about 1 = .ok (.iconst 0, 1)) ∧ (decode cX12_about 2 = .ok (.bipush 8, 2)) ∧ (decode cX12_about 4 = .ok (.invokestatic 95, 3)) ∧ (decode cX12_about 7 = .ok (.ifCond .eq 12, 3)) ∧ (decode cX12_about 10 = .ok (.aload_n 0, 1)) ∧ (decode cX12_about 11 = .ok (.getfield 7, 3)) ∧ (decode cX12_about 14 = .ok (.iload_n 1, 1)) ∧ (decode cX12_about 15 = .ok (.iaload, 1)) ∧ (decode cX12_about 16 = .ok (.goto 17, 3)) ∧ (decode cX12_about 19 = .ok (.iload_n 1, 1)) ∧ (decode cX12_about 20 = .ok (.bipush 9, 2)) ∧ (decode cX12_about 22 = .ok (.if_icmp .ne 10, 3)) ∧ (decode cX12_about 25 = .ok (.aload_n 0, 1)) ∧ (decode cX12_about 26 = .ok (.getfield 122, 3)) ∧ (decode cX12_about 29 = .ok (.goto 4, 3)) := by decide +kernel
theorem dX12_about_0 : decode cX12_about 0 = .ok (.iload_n 1, 1) := bdX12_about_0.1
theorem dX12_about_1 : decode cX12_about 1 = .ok (.iconst 0, 1) := bdX12_about_0.2.1
theorem dX12_about_2 : decode cX12_about 2 = .ok (.bipush 8, 2) := bdX12_about_0.2.2.1
theorem dX12_about_4 : decode cX12_about 4 = .ok (.invokestatic 95, 3) := bdX12_about_0.2.2.2.1
theorem dX12_about_7 : decode cX12_about 7 = .ok (.ifCond .eq 12, 3) := bdX12_about_0.2.2.2.2.1
theorem dX12_about_10 : decode cX12_about 10 = .ok (.aload_n 0, 1) := bdX12_about_0.2.2.2.2.2.1
theorem dX12_about_11 : decode cX12_about 11 = .ok (.getfield 7, 3) := bdX12_about_0.2.2.2.2.2.2.1
theorem dX12_about_14 : decode cX12_about 14 = .ok (.iload_n 1, 1) := bdX12_about_0.2.2.2.2.2.2.2.1
theorem dX12_about_15 : decode cX12_about 15 = .ok (.iaload, 1) := bdX12_about_0.2.2.2.2.2.2.2.2.1
theorem dX12_about_16 : decode cX12_about 16 = .ok (.goto 17, 3) := bdX12_about_0.2.2.2.2.2.2.2.2.2.1
theorem dX12_about_19 : decode cX12_about 19 = .ok (.iload_n 1, 1) := bdX12_about_0.2.2.2.2.2.2.2.2.2.2.1
theorem dX12_about_20 : decode cX12_about 20 = .ok (.bipush 9, 2) := bdX12_about_0.2.2.2.2.2.2.2.2.2.2.2.1
theorem dX12_about_22 : decode cX12_about 22 = .ok (.if_icmp .ne 10, 3) := bdX12_about_0.2.2.2.2.2.2.2.2.2.2.2.2.1
theorem dX12_about_25 : decode cX12_about 25 = .ok (.aload_n 0, 1) := bdX12_about_0.2.2.2.2.2.2.2.2.2.2.2.2.2.1
theorem dX12_about_26 : decode cX12_about 26 = .ok (.getfield 122, 3) := bdX12_about_0.2.2.2.2.2.2.2.2.2.2.2.2.2.2.1
theorem dX12_about_29 : decode cX12_about 29 = .ok (.goto 4, 3) := bdX12_about_0.2.2.2.2.2.2.2.2.2.2.2.2.2.2.2
theorem dX12_about_32 : decode cX12_about 32 = .ok (.iconst (-1), 1) := by decide +kernel
theorem dX12_about_33 : decode cX12_about 33 = .ok (.ireturn, 1) := by decide +kernel
def fX11_image_0 (a0 : Nat) (m : xMem) : Option (Int32 × xMem) := (fX9_copyAll (a0 + 84) (a0 + 1) m).bind fun p1 => xLet (p1.1 (a0 + 84) 6) fun x2 => some (x2, p1)
set_option maxRecDepth 4000 in
theorem fX11_image_0_ok {a0 : Nat} {d : Nat} (hd : 3 ≤ d) (ha0 : isMS a0) {m : xMem} {r : (Int32 × xMem)} (h : fX11_image_0 a0 m = some r) : xFx hh_263 cX11_image d 0 [some (.ref a0)] [] (xLay m) 0 0 (some (.int r.1)) (xLay r.2) := by
  unfold fX11_image_0 at h
  refine fx_aload_n dX11_image_0 rfl rfl ?_
  refine gx_getr dX11_image_1 rfl fd_11_16 ha0.1 rfl rfl ?_
  refine fx_aload_n dX11_image_4 rfl rfl ?_
  refine gx_getr dX11_image_5 rfl fd_11_10 ha0.1 rfl rfl ?_
  obtain ⟨p1, ep1, h⟩ := xBind_el h
  refine gx_callv (as := [.ref (a0 + 1)]) (r := []) rfl dX11_image_8 ca_11_314 rfl me_264 rfl rfl rfl rfl (ha0.2.2.1.1) rfl (fX9_copyAll_ok (d := d) (by omega) ha0.2.2.1 ha0.2.1 ep1) rfl rfl ?_
  refine fx_aload_n dX11_image_11 rfl rfl ?_
  refine gx_getr dX11_image_12 rfl fd_11_16 ha0.1 rfl rfl ?_
  obtain ⟨x2, hx2, h⟩ := xLet_el h
  refine gx_get dX11_image_15 rfl fd_11_173 ha0.2.2.1.1 rfl rfl hx2 ?_
  cases h
  exact fx_ireturn dX11_image_18 rfl rfl
def fX11_image (a0 : Nat) (m : xMem) : Option (Int32 × xMem) := fX11_image_0 a0  m
theorem fX11_image_ok {a0 : Nat} {m : xMem} {r : (Int32 × xMem)} {d : Nat} (hd : 4 ≤ d) (ha0 : isMS a0) (h : fX11_image a0 m = some r) : xEx d 263 [.ref a0] (xLay m) (some (.int r.1)) (xLay r.2) := by
  obtain ⟨d, rfl⟩ : ∃ q, d = q + 1 := ⟨d - 1, by omega⟩
  exact xEx_of me_263 rfl (fX11_image_0_ok (d := d) (by omega) ha0 h)
def fX12_image_2 (a0 : Nat) : Nat → Int32 → xMem → Option (Int32 × xMem)
  | 0, _, _ => none
  | fuel + 1, l1, m => if (1610 : Int32) ≤ l1 then bif xIn (0 : Int32) 1610 then xLet (m.1 (a0 + 1) (0 : Int32).toNatClampNeg) fun x2 => some (x2, m) else none else bif xIn l1 1610 then xLet (m.1 (a0 + 1) l1.toNatClampNeg) fun x4 => bif xIn l1 1610 then xLet (xPut m (a0 + 2) l1.toNatClampNeg x4) fun m6 => xLet (l1 + (1 : Int32)) fun x8 => fX12_image_2 a0 fuel x8 m6 else none else none
set_option maxRecDepth 4000 in
theorem fX12_image_2_ok {a0 : Nat} {d : Nat} (hd : 0 ≤ d) (ha0 : isModel a0) : ∀ (fuel : Nat) (l1 : Int32) (m : xMem) (r : (Int32 × xMem)), fX12_image_2 a0 fuel l1 m = some r → xFx hh_268 cX12_image d 2 [some (.ref a0), some (.int l1)] [] (xLay m) 0 0 (some (.int r.1)) (xLay r.2) := by
  intro fuel
  induction fuel with
  | zero => intro l1  m r  h; cases h
  | succ fuel ih =>
    intro l1  m r  h
    unfold fX12_image_2 at h
    refine fx_iload_n dX12_image_2 rfl rfl ?_
    refine fx_sipush (x := 1610) dX12_image_3 rfl (by decide) ?_
    refine fx_icmp_ge (t := 27) dX12_image_6 rfl rfl (fun hc1 => ?_) (fun hc1 => ?_)
    · rw [if_pos hc1] at h
      refine fx_aload_n dX12_image_27 rfl rfl ?_
      refine gx_getr dX12_image_28 rfl fd_12_7 ha0.1 rfl rfl ?_
      refine fx_iconst (x := 0) dX12_image_31 rfl (by decide) ?_
      obtain ⟨hj3, h⟩ := xChk_el h
      obtain ⟨x2, hx2, h⟩ := xLet_el h
      refine gx_iaload dX12_image_32 rfl ha0.2.1 hj3 hx2 ?_
      cases h
      exact fx_ireturn dX12_image_33 rfl rfl
    · rw [if_neg hc1] at h
      refine fx_aload_n dX12_image_9 rfl rfl ?_
      refine gx_getr dX12_image_10 rfl fd_12_13 ha0.1 rfl rfl ?_
      refine fx_iload_n dX12_image_13 rfl rfl ?_
      refine fx_aload_n dX12_image_14 rfl rfl ?_
      refine gx_getr dX12_image_15 rfl fd_12_7 ha0.1 rfl rfl ?_
      refine fx_iload_n dX12_image_18 rfl rfl ?_
      obtain ⟨hj5, h⟩ := xChk_el h
      obtain ⟨x4, hx4, h⟩ := xLet_el h
      refine gx_iaload dX12_image_19 rfl ha0.2.1 hj5 hx4 ?_
      obtain ⟨hj7, h⟩ := xChk_el h
      obtain ⟨m6, hm6, h⟩ := xLet_el h
      refine gx_iastore dX12_image_20 rfl ha0.2.2.1 hj7 hm6 ?_
      obtain ⟨x8, hx8, h⟩ := xLet_el h
      refine fx_iinc (ls2 := [some (.ref a0), some (.int x8)]) dX12_image_21 rfl rfl rfl hx8 rfl ?_
      refine fx_goto (t := 2) dX12_image_24 rfl rfl ?_
      exact ih x8 m6 r h
def fX12_image_0 (a0 : Nat) (m : xMem) : Option (Int32 × xMem) := fX12_image_2 a0 xFuel (0 : Int32) m
set_option maxRecDepth 4000 in
theorem fX12_image_0_ok {a0 : Nat} {d : Nat} (hd : 0 ≤ d) (ha0 : isModel a0) {o1 : Option Value} {m : xMem} {r : (Int32 × xMem)} (q1 : xNoD o1 = true) (h : fX12_image_0 a0 m = some r) : xFx hh_268 cX12_image d 0 [some (.ref a0), o1] [] (xLay m) 0 0 (some (.int r.1)) (xLay r.2) := by
  unfold fX12_image_0 at h
  refine fx_iconst (x := 0) dX12_image_0 rfl (by decide) ?_
  refine fx_istore_n (ls2 := [some (.ref a0), some (.int (0 : Int32))]) dX12_image_1 rfl rfl rfl ?_
  exact fX12_image_2_ok hd ha0 xFuel (0 : Int32) m r h
def fX12_image (a0 : Nat) (m : xMem) : Option (Int32 × xMem) := fX12_image_0 a0  m
theorem fX12_image_ok {a0 : Nat} {m : xMem} {r : (Int32 × xMem)} {d : Nat} (hd : 1 ≤ d) (ha0 : isModel a0) (h : fX12_image a0 m = some r) : xEx d 268 [.ref a0] (xLay m) (some (.int r.1)) (xLay r.2) := by
  obtain ⟨d, rfl⟩ : ∃ q, d = q + 1 := ⟨d - 1, by omega⟩
  exact xEx_of me_268 rfl (fX12_image_0_ok (d := d) (o1 := none) (by omega) ha0 rfl h)
def fX11_back_0 (a0 : Nat) (m : xMem) : Option (Int32 × xMem) := (fX9_copyAll (a0 + 1) (a0 + 84) m).bind fun p1 => xLet (p1.1 (a0 + 1) 6) fun x2 => some (x2, p1)
set_option maxRecDepth 4000 in
theorem fX11_back_0_ok {a0 : Nat} {d : Nat} (hd : 3 ≤ d) (ha0 : isMS a0) {m : xMem} {r : (Int32 × xMem)} (h : fX11_back_0 a0 m = some r) : xFx hh_269 cX11_back d 0 [some (.ref a0)] [] (xLay m) 0 0 (some (.int r.1)) (xLay r.2) := by
  unfold fX11_back_0 at h
  refine fx_aload_n dX11_back_0 rfl rfl ?_
  refine gx_getr dX11_back_1 rfl fd_11_10 ha0.1 rfl rfl ?_
  refine fx_aload_n dX11_back_4 rfl rfl ?_
  refine gx_getr dX11_back_5 rfl fd_11_16 ha0.1 rfl rfl ?_
  obtain ⟨p1, ep1, h⟩ := xBind_el h
  refine gx_callv (as := [.ref (a0 + 84)]) (r := []) rfl dX11_back_8 ca_11_314 rfl me_264 rfl rfl rfl rfl (ha0.2.1.1) rfl (fX9_copyAll_ok (d := d) (by omega) ha0.2.1 ha0.2.2.1 ep1) rfl rfl ?_
  refine fx_aload_n dX11_back_11 rfl rfl ?_
  refine gx_getr dX11_back_12 rfl fd_11_10 ha0.1 rfl rfl ?_
  obtain ⟨x2, hx2, h⟩ := xLet_el h
  refine gx_get dX11_back_15 rfl fd_11_173 ha0.2.1.1 rfl rfl hx2 ?_
  cases h
  exact fx_ireturn dX11_back_18 rfl rfl
def fX11_back (a0 : Nat) (m : xMem) : Option (Int32 × xMem) := fX11_back_0 a0  m
theorem fX11_back_ok {a0 : Nat} {m : xMem} {r : (Int32 × xMem)} {d : Nat} (hd : 4 ≤ d) (ha0 : isMS a0) (h : fX11_back a0 m = some r) : xEx d 269 [.ref a0] (xLay m) (some (.int r.1)) (xLay r.2) := by
  obtain ⟨d, rfl⟩ : ∃ q, d = q + 1 := ⟨d - 1, by omega⟩
  exact xEx_of me_269 rfl (fX11_back_0_ok (d := d) (by omega) ha0 h)
def fX12_back_2 (a0 : Nat) : Nat → Int32 → xMem → Option (Int32 × xMem)
  | 0, _, _ => none
  | fuel + 1, l1, m => if (1610 : Int32) ≤ l1 then bif xIn (0 : Int32) 1610 then xLet (m.1 (a0 + 1) (0 : Int32).toNatClampNeg) fun x2 => some (x2, m) else none else bif xIn l1 1610 then xLet (m.1 (a0 + 2) l1.toNatClampNeg) fun x4 => bif xIn l1 1610 then xLet (xPut m (a0 + 1) l1.toNatClampNeg x4) fun m6 => xLet (l1 + (1 : Int32)) fun x8 => fX12_back_2 a0 fuel x8 m6 else none else none
set_option maxRecDepth 4000 in
theorem fX12_back_2_ok {a0 : Nat} {d : Nat} (hd : 0 ≤ d) (ha0 : isModel a0) : ∀ (fuel : Nat) (l1 : Int32) (m : xMem) (r : (Int32 × xMem)), fX12_back_2 a0 fuel l1 m = some r → xFx hh_270 cX12_back d 2 [some (.ref a0), some (.int l1)] [] (xLay m) 0 0 (some (.int r.1)) (xLay r.2) := by
  intro fuel
  induction fuel with
  | zero => intro l1  m r  h; cases h
  | succ fuel ih =>
    intro l1  m r  h
    unfold fX12_back_2 at h
    refine fx_iload_n dX12_back_2 rfl rfl ?_
    refine fx_sipush (x := 1610) dX12_back_3 rfl (by decide) ?_
    refine fx_icmp_ge (t := 27) dX12_back_6 rfl rfl (fun hc1 => ?_) (fun hc1 => ?_)
    · rw [if_pos hc1] at h
      refine fx_aload_n dX12_back_27 rfl rfl ?_
      refine gx_getr dX12_back_28 rfl fd_12_7 ha0.1 rfl rfl ?_
      refine fx_iconst (x := 0) dX12_back_31 rfl (by decide) ?_
      obtain ⟨hj3, h⟩ := xChk_el h
      obtain ⟨x2, hx2, h⟩ := xLet_el h
      refine gx_iaload dX12_back_32 rfl ha0.2.1 hj3 hx2 ?_
      cases h
      exact fx_ireturn dX12_back_33 rfl rfl
    · rw [if_neg hc1] at h
      refine fx_aload_n dX12_back_9 rfl rfl ?_
      refine gx_getr dX12_back_10 rfl fd_12_7 ha0.1 rfl rfl ?_
      refine fx_iload_n dX12_back_13 rfl rfl ?_
      refine fx_aload_n dX12_back_14 rfl rfl ?_
      refine gx_getr dX12_back_15 rfl fd_12_13 ha0.1 rfl rfl ?_
      refine fx_iload_n dX12_back_18 rfl rfl ?_
      obtain ⟨hj5, h⟩ := xChk_el h
      obtain ⟨x4, hx4, h⟩ := xLet_el h
      refine gx_iaload dX12_back_19 rfl ha0.2.2.1 hj5 hx4 ?_
      obtain ⟨hj7, h⟩ := xChk_el h
      obtain ⟨m6, hm6, h⟩ := xLet_el h
      refine gx_iastore dX12_back_20 rfl ha0.2.1 hj7 hm6 ?_
      obtain ⟨x8, hx8, h⟩ := xLet_el h
      refine fx_iinc (ls2 := [some (.ref a0), some (.int x8)]) dX12_back_21 rfl rfl rfl hx8 rfl ?_
      refine fx_goto (t := 2) dX12_back_24 rfl rfl ?_
      exact ih x8 m6 r h
def fX12_back_0 (a0 : Nat) (m : xMem) : Option (Int32 × xMem) := fX12_back_2 a0 xFuel (0 : Int32) m
set_option maxRecDepth 4000 in
theorem fX12_back_0_ok {a0 : Nat} {d : Nat} (hd : 0 ≤ d) (ha0 : isModel a0) {o1 : Option Value} {m : xMem} {r : (Int32 × xMem)} (q1 : xNoD o1 = true) (h : fX12_back_0 a0 m = some r) : xFx hh_270 cX12_back d 0 [some (.ref a0), o1] [] (xLay m) 0 0 (some (.int r.1)) (xLay r.2) := by
  unfold fX12_back_0 at h
  refine fx_iconst (x := 0) dX12_back_0 rfl (by decide) ?_
  refine fx_istore_n (ls2 := [some (.ref a0), some (.int (0 : Int32))]) dX12_back_1 rfl rfl rfl ?_
  exact fX12_back_2_ok hd ha0 xFuel (0 : Int32) m r h
def fX12_back (a0 : Nat) (m : xMem) : Option (Int32 × xMem) := fX12_back_0 a0  m
theorem fX12_back_ok {a0 : Nat} {m : xMem} {r : (Int32 × xMem)} {d : Nat} (hd : 1 ≤ d) (ha0 : isModel a0) (h : fX12_back a0 m = some r) : xEx d 270 [.ref a0] (xLay m) (some (.int r.1)) (xLay r.2) := by
  obtain ⟨d, rfl⟩ : ∃ q, d = q + 1 := ⟨d - 1, by omega⟩
  exact xEx_of me_270 rfl (fX12_back_0_ok (d := d) (o1 := none) (by omega) ha0 rfl h)
def fX11_about_0 (a0 : Nat) (a1 : Int32) (m : xMem) : Option (Int32 × xMem) := if a1 = (0 : Int32) then xLet (m.1 (a0 + 1) 6) fun x2 => some (x2, m) else if a1 = (1 : Int32) then xLet (m.1 (a0 + 1) 7) fun x4 => some (x4, m) else if a1 = (2 : Int32) then xLet (m.1 (a0 + 1) 8) fun x6 => some (x6, m) else if a1 = (3 : Int32) then xLet (m.1 (a0 + 1) 9) fun x8 => some (x8, m) else if a1 = (4 : Int32) then xLet (m.1 (a0 + 1) 10) fun x10 => some (x10, m) else if a1 = (5 : Int32) then xLet (m.1 (a0 + 1) 11) fun x12 => some (x12, m) else if a1 = (6 : Int32) then xLet (m.1 (a0 + 1 + 4) 2) fun x14 => some (x14, m) else if a1 = (7 : Int32) then xLet (m.1 (a0 + 1 + 7) 5) fun x16 => some (x16, m) else if a1 = (8 : Int32) then xLet (m.1 (a0 + 1 + 13) 1) fun x18 => some (x18, m) else if a1 = (9 : Int32) then xLet (m.1 (a0 + 255) 4) fun x20 => some (x20, m) else some ((-1 : Int32), m)
set_option maxRecDepth 4000 in
theorem fX11_about_0_ok {a0 : Nat} {a1 : Int32} {d : Nat} (hd : 0 ≤ d) (ha0 : isMS a0) {m : xMem} {r : (Int32 × xMem)} (h : fX11_about_0 a0 a1 m = some r) : xFx hh_271 cX11_about d 0 [some (.ref a0), some (.int a1)] [] (xLay m) 0 0 (some (.int r.1)) (xLay r.2) := by
  unfold fX11_about_0 at h
  refine fx_iload_n dX11_about_0 rfl rfl ?_
  by_cases hc1 : a1 = (0 : Int32)
  · rw [if_pos hc1] at h
    refine fx_tabIn (t := 56) dX11_about_1 rfl (by rw [hc1]; decide) (by rw [hc1]; decide) (by rw [hc1]; rfl) rfl ?_
    refine fx_aload_n dX11_about_56 rfl rfl ?_
    refine gx_getr dX11_about_57 rfl fd_11_10 ha0.1 rfl rfl ?_
    obtain ⟨x2, hx2, h⟩ := xLet_el h
    refine gx_get dX11_about_60 rfl fd_11_173 ha0.2.1.1 rfl rfl hx2 ?_
    cases h
    exact fx_ireturn dX11_about_63 rfl rfl
  · rw [if_neg hc1] at h
    by_cases hc3 : a1 = (1 : Int32)
    · rw [if_pos hc3] at h
      refine fx_tabIn (t := 64) dX11_about_1 rfl (by rw [hc3]; decide) (by rw [hc3]; decide) (by rw [hc3]; rfl) rfl ?_
      refine fx_aload_n dX11_about_64 rfl rfl ?_
      refine gx_getr dX11_about_65 rfl fd_11_10 ha0.1 rfl rfl ?_
      obtain ⟨x4, hx4, h⟩ := xLet_el h
      refine gx_get dX11_about_68 rfl fd_11_51 ha0.2.1.1 rfl rfl hx4 ?_
      cases h
      exact fx_ireturn dX11_about_71 rfl rfl
    · rw [if_neg hc3] at h
      by_cases hc5 : a1 = (2 : Int32)
      · rw [if_pos hc5] at h
        refine fx_tabIn (t := 72) dX11_about_1 rfl (by rw [hc5]; decide) (by rw [hc5]; decide) (by rw [hc5]; rfl) rfl ?_
        refine fx_aload_n dX11_about_72 rfl rfl ?_
        refine gx_getr dX11_about_73 rfl fd_11_10 ha0.1 rfl rfl ?_
        obtain ⟨x6, hx6, h⟩ := xLet_el h
        refine gx_get dX11_about_76 rfl fd_11_72 ha0.2.1.1 rfl rfl hx6 ?_
        cases h
        exact fx_ireturn dX11_about_79 rfl rfl
      · rw [if_neg hc5] at h
        by_cases hc7 : a1 = (3 : Int32)
        · rw [if_pos hc7] at h
          refine fx_tabIn (t := 80) dX11_about_1 rfl (by rw [hc7]; decide) (by rw [hc7]; decide) (by rw [hc7]; rfl) rfl ?_
          refine fx_aload_n dX11_about_80 rfl rfl ?_
          refine gx_getr dX11_about_81 rfl fd_11_10 ha0.1 rfl rfl ?_
          obtain ⟨x8, hx8, h⟩ := xLet_el h
          refine gx_get dX11_about_84 rfl fd_11_104 ha0.2.1.1 rfl rfl hx8 ?_
          cases h
          exact fx_ireturn dX11_about_87 rfl rfl
        · rw [if_neg hc7] at h
          by_cases hc9 : a1 = (4 : Int32)
          · rw [if_pos hc9] at h
            refine fx_tabIn (t := 88) dX11_about_1 rfl (by rw [hc9]; decide) (by rw [hc9]; decide) (by rw [hc9]; rfl) rfl ?_
            refine fx_aload_n dX11_about_88 rfl rfl ?_
            refine gx_getr dX11_about_89 rfl fd_11_10 ha0.1 rfl rfl ?_
            obtain ⟨x10, hx10, h⟩ := xLet_el h
            refine gx_get dX11_about_92 rfl fd_11_143 ha0.2.1.1 rfl rfl hx10 ?_
            cases h
            exact fx_ireturn dX11_about_95 rfl rfl
          · rw [if_neg hc9] at h
            by_cases hc11 : a1 = (5 : Int32)
            · rw [if_pos hc11] at h
              refine fx_tabIn (t := 96) dX11_about_1 rfl (by rw [hc11]; decide) (by rw [hc11]; decide) (by rw [hc11]; rfl) rfl ?_
              refine fx_aload_n dX11_about_96 rfl rfl ?_
              refine gx_getr dX11_about_97 rfl fd_11_10 ha0.1 rfl rfl ?_
              obtain ⟨x12, hx12, h⟩ := xLet_el h
              refine gx_get dX11_about_100 rfl fd_11_156 ha0.2.1.1 rfl rfl hx12 ?_
              cases h
              exact fx_ireturn dX11_about_103 rfl rfl
            · rw [if_neg hc11] at h
              by_cases hc13 : a1 = (6 : Int32)
              · rw [if_pos hc13] at h
                refine fx_tabIn (t := 104) dX11_about_1 rfl (by rw [hc13]; decide) (by rw [hc13]; decide) (by rw [hc13]; rfl) rfl ?_
                refine fx_aload_n dX11_about_104 rfl rfl ?_
                refine gx_getr dX11_about_105 rfl fd_11_10 ha0.1 rfl rfl ?_
                refine gx_getr dX11_about_108 rfl fd_11_271 ha0.2.1.1 rfl rfl ?_
                obtain ⟨x14, hx14, h⟩ := xLet_el h
                refine gx_get dX11_about_111 rfl fd_11_317 ha0.2.1.2.2.2.2.1.1 rfl rfl hx14 ?_
                cases h
                exact fx_ireturn dX11_about_114 rfl rfl
              · rw [if_neg hc13] at h
                by_cases hc15 : a1 = (7 : Int32)
                · rw [if_pos hc15] at h
                  refine fx_tabIn (t := 115) dX11_about_1 rfl (by rw [hc15]; decide) (by rw [hc15]; decide) (by rw [hc15]; rfl) rfl ?_
                  refine fx_aload_n dX11_about_115 rfl rfl ?_
                  refine gx_getr dX11_about_116 rfl fd_11_10 ha0.1 rfl rfl ?_
                  refine gx_getr dX11_about_119 rfl fd_11_282 ha0.2.1.1 rfl rfl ?_
                  obtain ⟨x16, hx16, h⟩ := xLet_el h
                  refine gx_get dX11_about_122 rfl fd_11_290 ha0.2.1.2.2.2.2.2.1.1 rfl rfl hx16 ?_
                  cases h
                  exact fx_ireturn dX11_about_125 rfl rfl
                · rw [if_neg hc15] at h
                  by_cases hc17 : a1 = (8 : Int32)
                  · rw [if_pos hc17] at h
                    refine fx_tabIn (t := 126) dX11_about_1 rfl (by rw [hc17]; decide) (by rw [hc17]; decide) (by rw [hc17]; rfl) rfl ?_
                    refine fx_aload_n dX11_about_126 rfl rfl ?_
                    refine gx_getr dX11_about_127 rfl fd_11_10 ha0.1 rfl rfl ?_
                    refine gx_getr dX11_about_130 rfl fd_11_301 ha0.2.1.1 rfl rfl ?_
                    obtain ⟨x18, hx18, h⟩ := xLet_el h
                    refine gx_get dX11_about_133 rfl fd_11_309 ha0.2.1.2.2.2.2.2.2.1.1 rfl rfl hx18 ?_
                    cases h
                    exact fx_ireturn dX11_about_136 rfl rfl
                  · rw [if_neg hc17] at h
                    by_cases hc19 : a1 = (9 : Int32)
                    · rw [if_pos hc19] at h
                      refine fx_tabIn (t := 137) dX11_about_1 rfl (by rw [hc19]; decide) (by rw [hc19]; decide) (by rw [hc19]; rfl) rfl ?_
                      refine fx_aload_n dX11_about_137 rfl rfl ?_
                      refine gx_getr dX11_about_138 rfl fd_11_32 ha0.1 rfl rfl ?_
                      obtain ⟨x20, hx20, h⟩ := xLet_el h
                      refine gx_get dX11_about_141 rfl fd_11_140 ha0.2.2.2.2.2.1.1 rfl rfl hx20 ?_
                      cases h
                      exact fx_ireturn dX11_about_144 rfl rfl
                    · rw [if_neg hc19] at h
                      have e0 : a1.toInt ≠ 0 := fun q => hc1 (Int32.toInt_inj.mp (q.trans (by decide)))
                      have e1 : a1.toInt ≠ 1 := fun q => hc3 (Int32.toInt_inj.mp (q.trans (by decide)))
                      have e2 : a1.toInt ≠ 2 := fun q => hc5 (Int32.toInt_inj.mp (q.trans (by decide)))
                      have e3 : a1.toInt ≠ 3 := fun q => hc7 (Int32.toInt_inj.mp (q.trans (by decide)))
                      have e4 : a1.toInt ≠ 4 := fun q => hc9 (Int32.toInt_inj.mp (q.trans (by decide)))
                      have e5 : a1.toInt ≠ 5 := fun q => hc11 (Int32.toInt_inj.mp (q.trans (by decide)))
                      have e6 : a1.toInt ≠ 6 := fun q => hc13 (Int32.toInt_inj.mp (q.trans (by decide)))
                      have e7 : a1.toInt ≠ 7 := fun q => hc15 (Int32.toInt_inj.mp (q.trans (by decide)))
                      have e8 : a1.toInt ≠ 8 := fun q => hc17 (Int32.toInt_inj.mp (q.trans (by decide)))
                      have e9 : a1.toInt ≠ 9 := fun q => hc19 (Int32.toInt_inj.mp (q.trans (by decide)))
                      refine fx_tabOut (t := 145) dX11_about_1 rfl (by omega) rfl ?_
                      refine fx_iconst (x := -1) dX11_about_145 rfl (by decide) ?_
                      cases h
                      exact fx_ireturn dX11_about_146 rfl rfl
def fX11_about (a0 : Nat) (a1 : Int32) (m : xMem) : Option (Int32 × xMem) := fX11_about_0 a0 a1  m
theorem fX11_about_ok {a0 : Nat} {a1 : Int32} {m : xMem} {r : (Int32 × xMem)} {d : Nat} (hd : 1 ≤ d) (ha0 : isMS a0) (h : fX11_about a0 a1 m = some r) : xEx d 271 [.ref a0, .int a1] (xLay m) (some (.int r.1)) (xLay r.2) := by
  obtain ⟨d, rfl⟩ : ∃ q, d = q + 1 := ⟨d - 1, by omega⟩
  exact xEx_of me_271 rfl (fX11_about_0_ok (d := d) (by omega) ha0 h)
def fX12_about_33 (a0 : Nat) (a1 : Int32) (s0 : Int32) (m : xMem) : Option (Int32 × xMem) := some (s0, m)
set_option maxRecDepth 4000 in
theorem fX12_about_33_ok {a0 : Nat} {a1 : Int32} {d : Nat} (hd : 1 ≤ d) (ha0 : isModel a0) {s0 : Int32} {m : xMem} {r : (Int32 × xMem)} (h : fX12_about_33 a0 a1 s0 m = some r) : xFx hh_272 cX12_about d 33 [some (.ref a0), some (.int a1)] [.int s0] (xLay m) 0 0 (some (.int r.1)) (xLay r.2) := by
  unfold fX12_about_33 at h
  cases h
  exact fx_ireturn dX12_about_33 rfl rfl
def fX12_about_0 (a0 : Nat) (a1 : Int32) (m : xMem) : Option (Int32 × xMem) := (fX12_in a1 (0 : Int32) (8 : Int32) m).bind fun p1 => if p1.1 = (0 : Int32) then if ¬ a1 = (9 : Int32) then fX12_about_33 a0 a1 (-1 : Int32) p1.2 else xLet (p1.2.1 a0 4) fun x4 => fX12_about_33 a0 a1 x4 p1.2 else bif xIn a1 1610 then xLet (p1.2.1 (a0 + 1) a1.toNatClampNeg) fun x5 => fX12_about_33 a0 a1 x5 p1.2 else none
set_option maxRecDepth 4000 in
theorem fX12_about_0_ok {a0 : Nat} {a1 : Int32} {d : Nat} (hd : 1 ≤ d) (ha0 : isModel a0) {m : xMem} {r : (Int32 × xMem)} (h : fX12_about_0 a0 a1 m = some r) : xFx hh_272 cX12_about d 0 [some (.ref a0), some (.int a1)] [] (xLay m) 0 0 (some (.int r.1)) (xLay r.2) := by
  unfold fX12_about_0 at h
  refine fx_iload_n dX12_about_0 rfl rfl ?_
  refine fx_iconst (x := 0) dX12_about_1 rfl (by decide) ?_
  refine fx_bipush (x := 8) dX12_about_2 rfl (by decide) ?_
  obtain ⟨p1, ep1, h⟩ := xBind_el h
  refine gx_calls (as := [.int a1, .int (0 : Int32), .int (8 : Int32)]) (r := []) rfl dX12_about_4 ca_12_95 rfl me_18 rfl rfl rfl rfl (fX12_in_ok (d := d) (by omega) ep1) rfl rfl ?_
  refine fx_if_eq (t := 19) dX12_about_7 rfl rfl (fun hc2 => ?_) (fun hc2 => ?_)
  · rw [if_pos hc2] at h
    refine fx_iload_n dX12_about_19 rfl rfl ?_
    refine fx_bipush (x := 9) dX12_about_20 rfl (by decide) ?_
    refine fx_icmp_ne (t := 32) dX12_about_22 rfl rfl (fun hc3 => ?_) (fun hc3 => ?_)
    · rw [if_pos hc3] at h
      refine fx_iconst (x := -1) dX12_about_32 rfl (by decide) ?_
      exact fX12_about_33_ok hd ha0 h
    · rw [if_neg hc3] at h
      refine fx_aload_n dX12_about_25 rfl rfl ?_
      obtain ⟨x4, hx4, h⟩ := xLet_el h
      refine gx_get dX12_about_26 rfl fd_12_122 ha0.1 rfl rfl hx4 ?_
      refine fx_goto (t := 33) dX12_about_29 rfl rfl ?_
      exact fX12_about_33_ok hd ha0 h
  · rw [if_neg hc2] at h
    refine fx_aload_n dX12_about_10 rfl rfl ?_
    refine gx_getr dX12_about_11 rfl fd_12_7 ha0.1 rfl rfl ?_
    refine fx_iload_n dX12_about_14 rfl rfl ?_
    obtain ⟨hj6, h⟩ := xChk_el h
    obtain ⟨x5, hx5, h⟩ := xLet_el h
    refine gx_iaload dX12_about_15 rfl ha0.2.1 hj6 hx5 ?_
    refine fx_goto (t := 33) dX12_about_16 rfl rfl ?_
    exact fX12_about_33_ok hd ha0 h
def fX12_about (a0 : Nat) (a1 : Int32) (m : xMem) : Option (Int32 × xMem) := fX12_about_0 a0 a1  m
theorem fX12_about_ok {a0 : Nat} {a1 : Int32} {m : xMem} {r : (Int32 × xMem)} {d : Nat} (hd : 2 ≤ d) (ha0 : isModel a0) (h : fX12_about a0 a1 m = some r) : xEx d 272 [.ref a0, .int a1] (xLay m) (some (.int r.1)) (xLay r.2) := by
  obtain ⟨d, rfl⟩ : ∃ q, d = q + 1 := ⟨d - 1, by omega⟩
  exact xEx_of me_272 rfl (fX12_about_0_ok (d := d) (by omega) ha0 h)
