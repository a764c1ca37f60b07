theorem bdX9_buildAlone_0 : (decode cX9_buildAlone 0 = .ok (.aload_n 0, 1)) ∧ (decode cX9_buildAlone 1 = .ok (.iconst 2, 1)) ∧ (decode cX9_buildAlone 2 = .ok (.putfield 57, 3)) ∧ (decode cX9_buildAlone 5 = .ok (.aload_n 0, 1)) ∧ (decode cX9_buildAlone 6 = .ok (.iconst 1, 1)) ∧ (decode cX9_buildAlone 7 = .ok (.putfield 60, 3)) ∧ (decode cX9_buildAlone 10 = .ok (.aload_n 0, 1)) ∧ (decode cX9_buildAlone 11 = .ok (.iconst 0, 1)) ∧ (decode cX9_buildAlone 12 = .ok (.putfield 110, 3)) ∧ (decode cX9_buildAlone 15 = .ok (.aload_n 0, 1)) ∧ (decode cX9_buildAlone 16 = .ok (.getfield 11, 3)) ∧ (decode cX9_buildAlone 19 = .ok (.iconst 0, 1)) ∧ (decode cX9_buildAlone 20 = .ok (.aaload, 1)) ∧ (decode cX9_buildAlone 21 = .ok (.iconst 1, 1)) ∧ (decode cX9_buildAlone 22 = .ok (.invokevirtual 131, 3)) ∧ (decode cX9_buildAlone 25 = .ok (.aload_n 0, 1)) := by decide +kernel
theorem dX9_buildAlone_0 : decode cX9_buildAlone 0 = .ok (.aload_n 0, 1) := bdX9_buildAlone_0.1
theorem dX9_buildAlone_1 : decode cX9_buildAlone 1 = .ok (.iconst 2, 1) := bdX9_buildAlone_0.2.1
theorem dX9_buildAlone_2 : decode cX9_buildAlone 2 = .ok (.putfield 57, 3) := bdX9_buildAlone_0.2.2.1
theorem dX9_buildAlone_5 : decode cX9_buildAlone 5 = .ok (.aload_n 0, 1) := bdX9_buildAlone_0.2.2.2.1
theorem dX9_buildAlone_6 : decode cX9_buildAlone 6 = .ok (.iconst 1, 1) := bdX9_buildAlone_0.2.2.2.2.1
theorem dX9_buildAlone_7 : decode cX9_buildAlone 7 = .ok (.putfield 60, 3) := bdX9_buildAlone_0.2.2.2.2.2.1
theorem dX9_buildAlone_10 : decode cX9_buildAlone 10 = .ok (.aload_n 0, 1) := bdX9_buildAlone_0.2.2.2.2.2.2.1
theorem dX9_buildAlone_11 : decode cX9_buildAlone 11 = .ok (.iconst 0, 1) := bdX9_buildAlone_0.2.2.2.2.2.2.2.1
theorem dX9_buildAlone_12 : decode cX9_buildAlone 12 = .ok (.putfield 110, 3) := bdX9_buildAlone_0.2.2.2.2.2.2.2.2.1
theorem dX9_buildAlone_15 : decode cX9_buildAlone 15 = .ok (.aload_n 0, 1) := bdX9_buildAlone_0.2.2.2.2.2.2.2.2.2.1
theorem dX9_buildAlone_16 : decode cX9_buildAlone 16 = .ok (.getfield 11, 3) := bdX9_buildAlone_0.2.2.2.2.2.2.2.2.2.2.1
theorem dX9_buildAlone_19 : decode cX9_buildAlone 19 = .ok (.iconst 0, 1) := bdX9_buildAlone_0.2.2.2.2.2.2.2.2.2.2.2.1
theorem dX9_buildAlone_20 : decode cX9_buildAlone 20 = .ok (.aaload, 1) := bdX9_buildAlone_0.2.2.2.2.2.2.2.2.2.2.2.2.1
theorem dX9_buildAlone_21 : decode cX9_buildAlone 21 = .ok (.iconst 1, 1) := bdX9_buildAlone_0.2.2.2.2.2.2.2.2.2.2.2.2.2.1
theorem dX9_buildAlone_22 : decode cX9_buildAlone 22 = .ok (.invokevirtual 131, 3) := bdX9_buildAlone_0.2.2.2.2.2.2.2.2.2.2.2.2.2.2.1
theorem dX9_buildAlone_25 : decode cX9_buildAlone 25 = .ok (.aload_n 0, 1) := bdX9_buildAlone_0.2.2.2.2.2.2.2.2.2.2.2.2.2.2.2
theorem bdX9_buildAlone_26 : (decode cX9_buildAlone 26 = .ok (.getfield 11, 3)) ∧ (decode cX9_buildAlone 29 = .ok (.iconst 1, 1)) ∧ (decode cX9_buildAlone 30 = .ok (.aaload, 1)) ∧ (decode cX9_buildAlone 31 = .ok (.iconst 1, 1)) ∧ (decode cX9_buildAlone 32 = .ok (.invokevirtual 131, 3)) ∧ (decode cX9_buildAlone 35 = .ok (.aload_n 0, 1)) ∧ (decode cX9_buildAlone 36 = .ok (.getfield 19, 3)) ∧ (decode cX9_buildAlone 39 = .ok (.iconst 0, 1)) ∧ (decode cX9_buildAlone 40 = .ok (.aaload, 1)) ∧ (decode cX9_buildAlone 41 = .ok (.iconst 0, 1)) ∧ (decode cX9_buildAlone 42 = .ok (.iconst 0, 1)) ∧ (decode cX9_buildAlone 43 = .ok (.iconst 1, 1)) ∧ (decode cX9_buildAlone 44 = .ok (.iload_n 1, 1)) ∧ (decode cX9_buildAlone 45 = .ok (.iconst 0, 1)) ∧ (decode cX9_buildAlone 46 = .ok (.invokevirtual 135, 3)) ∧ (decode cX9_buildAlone 49 = .ok (.aload_n 0, 1)) := by decide +kernel
theorem dX9_buildAlone_26 : decode cX9_buildAlone 26 = .ok (.getfield 11, 3) := bdX9_buildAlone_26.1
theorem dX9_buildAlone_29 : decode cX9_buildAlone 29 = .ok (.iconst 1, 1) := bdX9_buildAlone_26.2.1
theorem dX9_buildAlone_30 : decode cX9_buildAlone 30 = .ok (.aaload, 1) := bdX9_buildAlone_26.2.2.1
theorem dX9_buildAlone_31 : decode cX9_buildAlone 31 = .ok (.iconst 1, 1) := bdX9_buildAlone_26.2.2.2.1
theorem dX9_buildAlone_32 : decode cX9_buildAlone 32 = .ok (.invokevirtual 131, 3) := bdX9_buildAlone_26.2.2.2.2.1
theorem dX9_buildAlone_35 : decode cX9_buildAlone 35 = .ok (.aload_n 0, 1) := bdX9_buildAlone_26.2.2.2.2.2.1
theorem dX9_buildAlone_36 : decode cX9_buildAlone 36 = .ok (.getfield 19, 3) := bdX9_buildAlone_26.2.2.2.2.2.2.1
theorem dX9_buildAlone_39 : decode cX9_buildAlone 39 = .ok (.iconst 0, 1) := bdX9_buildAlone_26.2.2.2.2.2.2.2.1
theorem dX9_buildAlone_40 : decode cX9_buildAlone 40 = .ok (.aaload, 1) := bdX9_buildAlone_26.2.2.2.2.2.2.2.2.1
theorem dX9_buildAlone_41 : decode cX9_buildAlone 41 = .ok (.iconst 0, 1) := bdX9_buildAlone_26.2.2.2.2.2.2.2.2.2.1
theorem dX9_buildAlone_42 : decode cX9_buildAlone 42 = .ok (.iconst 0, 1) := bdX9_buildAlone_26.2.2.2.2.2.2.2.2.2.2.1
theorem dX9_buildAlone_43 : decode cX9_buildAlone 43 = .ok (.iconst 1, 1) := bdX9_buildAlone_26.2.2.2.2.2.2.2.2.2.2.2.1
theorem dX9_buildAlone_44 : decode cX9_buildAlone 44 = .ok (.iload_n 1, 1) := bdX9_buildAlone_26.2.2.2.2.2.2.2.2.2.2.2.2.1
theorem dX9_buildAlone_45 : decode cX9_buildAlone 45 = .ok (.iconst 0, 1) := bdX9_buildAlone_26.2.2.2.2.2.2.2.2.2.2.2.2.2.1
theorem dX9_buildAlone_46 : decode cX9_buildAlone 46 = .ok (.invokevirtual 135, 3) := bdX9_buildAlone_26.2.2.2.2.2.2.2.2.2.2.2.2.2.2.1
theorem dX9_buildAlone_49 : decode cX9_buildAlone 49 = .ok (.aload_n 0, 1) := bdX9_buildAlone_26.2.2.2.2.2.2.2.2.2.2.2.2.2.2.2
theorem bdX9_buildAlone_50 : (decode cX9_buildAlone 50 = .ok (.getfield 19, 3)) ∧ (decode cX9_buildAlone 53 = .ok (.iconst 0, 1)) ∧ (decode cX9_buildAlone 54 = .ok (.aaload, 1)) ∧ (decode cX9_buildAlone 55 = .ok (.iload_n 2, 1)) ∧ (decode cX9_buildAlone 56 = .ok (.putfield 138, 3)) ∧ (decode cX9_buildAlone 59 = .ok (.aload_n 0, 1)) ∧ (decode cX9_buildAlone 60 = .ok (.iconst 0, 1)) ∧ (decode cX9_buildAlone 61 = .ok (.iconst 1, 1)) ∧ (decode cX9_buildAlone 62 = .ok (.iconst 0, 1)) ∧ (decode cX9_buildAlone 63 = .ok (.iload_n 3, 1)) ∧ (decode cX9_buildAlone 64 = .ok (.invokevirtual 141, 3)) ∧ (decode cX9_buildAlone 67 = .ok (.return_, 1)) := by decide +kernel
theorem dX9_buildAlone_50 : decode cX9_buildAlone 50 = .ok (.getfield 19, 3) := bdX9_buildAlone_50.1
theorem dX9_buildAlone_53 : decode cX9_buildAlone 53 = .ok (.iconst 0, 1) := bdX9_buildAlone_50.2.1
theorem dX9_buildAlone_54 : decode cX9_buildAlone 54 = .ok (.aaload, 1) := bdX9_buildAlone_50.2.2.1
theorem dX9_buildAlone_55 : decode cX9_buildAlone 55 = .ok (.iload_n 2, 1) := bdX9_buildAlone_50.2.2.2.1
theorem dX9_buildAlone_56 : decode cX9_buildAlone 56 = .ok (.putfield 138, 3) := bdX9_buildAlone_50.2.2.2.2.1
theorem dX9_buildAlone_59 : decode cX9_buildAlone 59 = .ok (.aload_n 0, 1) := bdX9_buildAlone_50.2.2.2.2.2.1
theorem dX9_buildAlone_60 : decode cX9_buildAlone 60 = .ok (.iconst 0, 1) := bdX9_buildAlone_50.2.2.2.2.2.2.1
theorem dX9_buildAlone_61 : decode cX9_buildAlone 61 = .ok (.iconst 1, 1) := bdX9_buildAlone_50.2.2.2.2.2.2.2.1
theorem dX9_buildAlone_62 : decode cX9_buildAlone 62 = .ok (.iconst 0, 1) := bdX9_buildAlone_50.2.2.2.2.2.2.2.2.1
theorem dX9_buildAlone_63 : decode cX9_buildAlone 63 = .ok (.iload_n 3, 1) := bdX9_buildAlone_50.2.2.2.2.2.2.2.2.2.1
theorem dX9_buildAlone_64 : decode cX9_buildAlone 64 = .ok (.invokevirtual 141, 3) := bdX9_buildAlone_50.2.2.2.2.2.2.2.2.2.2.1
theorem dX9_buildAlone_67 : decode cX9_buildAlone 67 = .ok (.return_, 1) := bdX9_buildAlone_50.2.2.2.2.2.2.2.2.2.2.2
theorem bdX11_carriedAlone_0 : (decode cX11_carriedAlone 0 = .ok (.aload_n 0, 1)) ∧ (decode cX11_carriedAlone 1 = .ok (.getfield 19, 3)) ∧ (decode cX11_carriedAlone 4 = .ok (.iload_n 1, 1)) ∧ (decode cX11_carriedAlone 5 = .ok (.iload_n 3, 1)) ∧ (decode cX11_carriedAlone 6 = .ok (.iconst 2, 1)) ∧ (decode cX11_carriedAlone 7 = .ok (.iload 4, 2)) ∧ (decode cX11_carriedAlone 9 = .ok (.imul, 1)) ∧ (decode cX11_carriedAlone 10 = .ok (.invokevirtual 329, 3)) ∧ (decode cX11_carriedAlone 13 = .ok (.aload_n 0, 1)) ∧ (decode cX11_carriedAlone 14 = .ok (.getfield 25, 3)) ∧ (decode cX11_carriedAlone 17 = .ok (.invokevirtual 166, 3)) ∧ (decode cX11_carriedAlone 20 = .ok (.aload_n 0, 1)) ∧ (decode cX11_carriedAlone 21 = .ok (.getfield 25, 3)) ∧ (decode cX11_carriedAlone 24 = .ok (.getfield 211, 3)) ∧ (decode cX11_carriedAlone 27 = .ok (.aload_n 0, 1)) ∧ (decode cX11_carriedAlone 28 = .ok (.getfield 19, 3)) := by decide +kernel
theorem dX11_carriedAlone_0 : decode cX11_carriedAlone 0 = .ok (.aload_n 0, 1) := bdX11_carriedAlone_0.1
theorem dX11_carriedAlone_1 : decode cX11_carriedAlone 1 = .ok (.getfield 19, 3) := bdX11_carriedAlone_0.2.1
theorem dX11_carriedAlone_4 : decode cX11_carriedAlone 4 = .ok (.iload_n 1, 1) := bdX11_carriedAlone_0.2.2.1
theorem dX11_carriedAlone_5 : decode cX11_carriedAlone 5 = .ok (.iload_n 3, 1) := bdX11_carriedAlone_0.2.2.2.1
theorem dX11_carriedAlone_6 : decode cX11_carriedAlone 6 = .ok (.iconst 2, 1) := bdX11_carriedAlone_0.2.2.2.2.1
theorem dX11_carriedAlone_7 : decode cX11_carriedAlone 7 = .ok (.iload 4, 2) := bdX11_carriedAlone_0.2.2.2.2.2.1
theorem dX11_carriedAlone_9 : decode cX11_carriedAlone 9 = .ok (.imul, 1) := bdX11_carriedAlone_0.2.2.2.2.2.2.1
theorem dX11_carriedAlone_10 : decode cX11_carriedAlone 10 = .ok (.invokevirtual 329, 3) := bdX11_carriedAlone_0.2.2.2.2.2.2.2.1
theorem dX11_carriedAlone_13 : decode cX11_carriedAlone 13 = .ok (.aload_n 0, 1) := bdX11_carriedAlone_0.2.2.2.2.2.2.2.2.1
theorem dX11_carriedAlone_14 : decode cX11_carriedAlone 14 = .ok (.getfield 25, 3) := bdX11_carriedAlone_0.2.2.2.2.2.2.2.2.2.1
theorem dX11_carriedAlone_17 : decode cX11_carriedAlone 17 = .ok (.invokevirtual 166, 3) := bdX11_carriedAlone_0.2.2.2.2.2.2.2.2.2.2.1
theorem dX11_carriedAlone_20 : decode cX11_carriedAlone 20 = .ok (.aload_n 0, 1) := bdX11_carriedAlone_0.2.2.2.2.2.2.2.2.2.2.2.1
theorem dX11_carriedAlone_21 : decode cX11_carriedAlone 21 = .ok (.getfield 25, 3) := bdX11_carriedAlone_0.2.2.2.2.2.2.2.2.2.2.2.2.1
theorem dX11_carriedAlone_24 : decode cX11_carriedAlone 24 = .ok (.getfield 211, 3) := bdX11_carriedAlone_0.2.2.2.2.2.2.2.2.2.2.2.2.2.1
theorem dX11_carriedAlone_27 : decode cX11_carriedAlone 27 = .ok (.aload_n 0, 1) := bdX11_carriedAlone_0.2.2.2.2.2.2.2.2.2.2.2.2.2.2.1
theorem dX11_carriedAlone_28 : decode cX11_carriedAlone 28 = .ok (.getfield 19, 3) := bdX11_carriedAlone_0.2.2.2.2.2.2.2.2.2.2.2.2.2.2.2
theorem bdX11_carriedAlone_31 : (decode cX11_carriedAlone 31 = .ok (.invokevirtual 215, 3)) ∧ (decode cX11_carriedAlone 34 = .ok (.aload_n 0, 1)) ∧ (decode cX11_carriedAlone 35 = .ok (.getfield 19, 3)) ∧ (decode cX11_carriedAlone 38 = .ok (.getfield 75, 3)) ∧ (decode cX11_carriedAlone 41 = .ok (.iconst 0, 1)) ∧ (decode cX11_carriedAlone 42 = .ok (.aaload, 1)) ∧ (decode cX11_carriedAlone 43 = .ok (.astore 5, 2)) ∧ (decode cX11_carriedAlone 45 = .ok (.iconst 0, 1)) ∧ (decode cX11_carriedAlone 46 = .ok (.istore 6, 2)) ∧ (decode cX11_carriedAlone 48 = .ok (.iload 6, 2)) ∧ (decode cX11_carriedAlone 50 = .ok (.iload 4, 2)) ∧ (decode cX11_carriedAlone 52 = .ok (.if_icmp .ge 35, 3)) ∧ (decode cX11_carriedAlone 55 = .ok (.aload_n 0, 1)) ∧ (decode cX11_carriedAlone 56 = .ok (.getfield 25, 3)) ∧ (decode cX11_carriedAlone 59 = .ok (.aload_n 0, 1)) ∧ (decode cX11_carriedAlone 60 = .ok (.getfield 19, 3)) := by decide +kernel
theorem dX11_carriedAlone_31 : decode cX11_carriedAlone 31 = .ok (.invokevirtual 215, 3) := bdX11_carriedAlone_31.1
theorem dX11_carriedAlone_34 : decode cX11_carriedAlone 34 = .ok (.aload_n 0, 1) := bdX11_carriedAlone_31.2.1
theorem dX11_carriedAlone_35 : decode cX11_carriedAlone 35 = .ok (.getfield 19, 3) := bdX11_carriedAlone_31.2.2.1
theorem dX11_carriedAlone_38 : decode cX11_carriedAlone 38 = .ok (.getfield 75, 3) := bdX11_carriedAlone_31.2.2.2.1
theorem dX11_carriedAlone_41 : decode cX11_carriedAlone 41 = .ok (.iconst 0, 1) := bdX11_carriedAlone_31.2.2.2.2.1
theorem dX11_carriedAlone_42 : decode cX11_carriedAlone 42 = .ok (.aaload, 1) := bdX11_carriedAlone_31.2.2.2.2.2.1
theorem dX11_carriedAlone_43 : decode cX11_carriedAlone 43 = .ok (.astore 5, 2) := bdX11_carriedAlone_31.2.2.2.2.2.2.1
theorem dX11_carriedAlone_45 : decode cX11_carriedAlone 45 = .ok (.iconst 0, 1) := bdX11_carriedAlone_31.2.2.2.2.2.2.2.1
theorem dX11_carriedAlone_46 : decode cX11_carriedAlone 46 = .ok (.istore 6, 2) := bdX11_carriedAlone_31.2.2.2.2.2.2.2.2.1
theorem dX11_carriedAlone_48 : decode cX11_carriedAlone 48 = .ok (.iload 6, 2) := bdX11_carriedAlone_31.2.2.2.2.2.2.2.2.2.1
theorem dX11_carriedAlone_50 : decode cX11_carriedAlone 50 = .ok (.iload 4, 2) := bdX11_carriedAlone_31.2.2.2.2.2.2.2.2.2.2.1
theorem dX11_carriedAlone_52 : decode cX11_carriedAlone 52 = .ok (.if_icmp .ge 35, 3) := bdX11_carriedAlone_31.2.2.2.2.2.2.2.2.2.2.2.1
theorem dX11_carriedAlone_55 : decode cX11_carriedAlone 55 = .ok (.aload_n 0, 1) := bdX11_carriedAlone_31.2.2.2.2.2.2.2.2.2.2.2.2.1
theorem dX11_carriedAlone_56 : decode cX11_carriedAlone 56 = .ok (.getfield 25, 3) := bdX11_carriedAlone_31.2.2.2.2.2.2.2.2.2.2.2.2.2.1
theorem dX11_carriedAlone_59 : decode cX11_carriedAlone 59 = .ok (.aload_n 0, 1) := bdX11_carriedAlone_31.2.2.2.2.2.2.2.2.2.2.2.2.2.2.1
theorem dX11_carriedAlone_60 : decode cX11_carriedAlone 60 = .ok (.getfield 19, 3) := bdX11_carriedAlone_31.2.2.2.2.2.2.2.2.2.2.2.2.2.2.2
theorem bdX11_carriedAlone_63 : (decode cX11_carriedAlone 63 = .ok (.aload 5, 2)) ∧ (decode cX11_carriedAlone 65 = .ok (.invokevirtual 333, 3)) ∧ (decode cX11_carriedAlone 68 = .ok (.aload_n 0, 1)) ∧ (decode cX11_carriedAlone 69 = .ok (.getfield 25, 3)) ∧ (decode cX11_carriedAlone 72 = .ok (.aload_n 0, 1)) ∧ (decode cX11_carriedAlone 73 = .ok (.getfield 19, 3)) ∧ (decode cX11_carriedAlone 76 = .ok (.iconst 0, 1)) ∧ (decode cX11_carriedAlone 77 = .ok (.iload_n 2, 1)) ∧ (decode cX11_carriedAlone 78 = .ok (.invokevirtual 337, 3)) ∧ (decode cX11_carriedAlone 81 = .ok (.iinc 6 1, 3)) ∧ (decode cX11_carriedAlone 84 = .ok (.goto (-36), 3)) ∧ (decode cX11_carriedAlone 87 = .ok (.aload 5, 2)) ∧ (decode cX11_carriedAlone 89 = .ok (.getfield 203, 3)) ∧ (decode cX11_carriedAlone 92 = .ok (.ireturn, 1)) := by decide +kernel
theorem dX11_carriedAlone_63 : decode cX11_carriedAlone 63 = .ok (.aload 5, 2) := bdX11_carriedAlone_63.1
theorem dX11_carriedAlone_65 : decode cX11_carriedAlone 65 = .ok (.invokevirtual 333, 3) := bdX11_carriedAlone_63.2.1
theorem dX11_carriedAlone_68 : decode cX11_carriedAlone 68 = .ok (.aload_n 0, 1) := bdX11_carriedAlone_63.2.2.1
theorem dX11_carriedAlone_69 : decode cX11_carriedAlone 69 = .ok (.getfield 25, 3) := bdX11_carriedAlone_63.2.2.2.1
theorem dX11_carriedAlone_72 : decode cX11_carriedAlone 72 = .ok (.aload_n 0, 1) := bdX11_carriedAlone_63.2.2.2.2.1
theorem dX11_carriedAlone_73 : decode cX11_carriedAlone 73 = .ok (.getfield 19, 3) := bdX11_carriedAlone_63.2.2.2.2.2.1
theorem dX11_carriedAlone_76 : decode cX11_carriedAlone 76 = .ok (.iconst 0, 1) := bdX11_carriedAlone_63.2.2.2.2.2.2.1
theorem dX11_carriedAlone_77 : decode cX11_carriedAlone 77 = .ok (.iload_n 2, 1) := bdX11_carriedAlone_63.2.2.2.2.2.2.2.1
theorem dX11_carriedAlone_78 : decode cX11_carriedAlone 78 = .ok (.invokevirtual 337, 3) := bdX11_carriedAlone_63.2.2.2.2.2.2.2.2.1
theorem dX11_carriedAlone_81 : decode cX11_carriedAlone 81 = .ok (.iinc 6 1, 3) := bdX11_carriedAlone_63.2.2.2.2.2.2.2.2.2.1
theorem dX11_carriedAlone_84 : decode cX11_carriedAlone 84 = .ok (.goto (-36), 3) := bdX11_carriedAlone_63.2.2.2.2.2.2.2.2.2.2.1
theorem dX11_carriedAlone_87 : decode cX11_carriedAlone 87 = .ok (.aload 5, 2) := bdX11_carriedAlone_63.2.2.2.2.2.2.2.2.2.2.2.1
theorem dX11_carriedAlone_89 : decode cX11_carriedAlone 89 = .ok (.getfield 203, 3) := bdX11_carriedAlone_63.2.2.2.2.2.2.2.2.2.2.2.2.1
theorem dX11_carriedAlone_92 : decode cX11_carriedAlone 92 = .ok (.ireturn, 1) := bdX11_carriedAlone_63.2.2.2.2.2.2.2.2.2.2.2.2.2
theorem bdX11_alone_0 : (decode cX11_alone 0 = .ok (.iload_n 2, 1)) ∧ (decode cX11_alone 1 = .ok (.iconst 0, 1)) ∧ (decode cX11_alone 2 = .ok (.bipush 10, 2)) ∧ (decode cX11_alone 4 = .ok (.invokestatic 47, 3)) ∧ (decode cX11_alone 7 = .ok (.ifCond .eq 21, 3)) ∧ (decode cX11_alone 10 = .ok (.iload_n 3, 1)) ∧ (decode cX11_alone 11 = .ok (.iconst 0, 1)) ∧ (decode cX11_alone 12 = .ok (.iconst 1, 1)) ∧ (decode cX11_alone 13 = .ok (.invokestatic 47, 3)) ∧ (decode cX11_alone 16 = .ok (.ifCond .eq 12, 3)) ∧ (decode cX11_alone 19 = .ok (.iload_n 1, 1)) ∧ (decode cX11_alone 20 = .ok (.iload 4, 2)) ∧ (decode cX11_alone 22 = .ok (.invokestatic 261, 3)) ∧ (decode cX11_alone 25 = .ok (.ifCond .ne 5, 3)) ∧ (decode cX11_alone 28 = .ok (.iconst (-1), 1)) ∧ (decode cX11_alone 29 = .ok (.ireturn, 1)) := by decide +kernel
theorem dX11_alone_0 : decode cX11_alone 0 = .ok (.iload_n 2, 1) := bdX11_alone_0.1
theorem dX11_alone_1 : decode cX11_alone 1 = .ok (.iconst 0, 1) := bdX11_alone_0.2.1
theorem dX11_alone_2 : decode cX11_alone 2 = .ok (.bipush 10, 2) := bdX11_alone_0.2.2.1
theorem dX11_alone_4 : decode cX11_alone 4 = .ok (.invokestatic 47, 3) := bdX11_alone_0.2.2.2.1
theorem dX11_alone_7 : decode cX11_alone 7 = .ok (.ifCond .eq 21, 3) := bdX11_alone_0.2.2.2.2.1
theorem dX11_alone_10 : decode cX11_alone 10 = .ok (.iload_n 3, 1) := bdX11_alone_0.2.2.2.2.2.1
theorem dX11_alone_11 : decode cX11_alone 11 = .ok (.iconst 0, 1) := bdX11_alone_0.2.2.2.2.2.2.1
theorem dX11_alone_12 : decode cX11_alone 12 = .ok (.iconst 1, 1) := bdX11_alone_0.2.2.2.2.2.2.2.1
theorem dX11_alone_13 : decode cX11_alone 13 = .ok (.invokestatic 47, 3) := bdX11_alone_0.2.2.2.2.2.2.2.2.1
theorem dX11_alone_16 : decode cX11_alone 16 = .ok (.ifCond .eq 12, 3) := bdX11_alone_0.2.2.2.2.2.2.2.2.2.1
theorem dX11_alone_19 : decode cX11_alone 19 = .ok (.iload_n 1, 1) := bdX11_alone_0.2.2.2.2.2.2.2.2.2.2.1
theorem dX11_alone_20 : decode cX11_alone 20 = .ok (.iload 4, 2) := bdX11_alone_0.2.2.2.2.2.2.2.2.2.2.2.1
theorem dX11_alone_22 : decode cX11_alone 22 = .ok (.invokestatic 261, 3) := bdX11_alone_0.2.2.2.2.2.2.2.2.2.2.2.2.1
theorem dX11_alone_25 : decode cX11_alone 25 = .ok (.ifCond .ne 5, 3) := bdX11_alone_0.2.2.2.2.2.2.2.2.2.2.2.2.2.1
theorem dX11_alone_28 : decode cX11_alone 28 = .ok (.iconst (-1), 1) := bdX11_alone_0.2.2.2.2.2.2.2.2.2.2.2.2.2.2.1
theorem dX11_alone_29 : decode cX11_alone 29 = .ok (.ireturn, 1) := bdX11_alone_0.2.2.2.2.2.2.2.2.2.2.2.2.2.2.2
theorem bdX11_alone_30 : (decode cX11_alone 30 = .ok (.aload_n 0, 1)) ∧ (decode cX11_alone 31 = .ok (.iload_n 1, 1)) ∧ (decode cX11_alone 32 = .ok (.iload_n 2, 1)) ∧ (decode cX11_alone 33 = .ok (.iload_n 3, 1)) ∧ (decode cX11_alone 34 = .ok (.iload 4, 2)) ∧ (decode cX11_alone 36 = .ok (.invokevirtual 265, 3)) ∧ (decode cX11_alone 39 = .ok (.ireturn, 1)) := by decide +kernel
theorem dX11_alone_30 : decode cX11_alone 30 = .ok (.aload_n 0, 1) := bdX11_alone_30.1
theorem dX11_alone_31 : decode cX11_alone 31 = .ok (.iload_n 1, 1) := bdX11_alone_30.2.1
theorem dX11_alone_32 : decode cX11_alone 32 = .ok (.iload_n 2, 1) := bdX11_alone_30.2.2.1
theorem dX11_alone_33 : decode cX11_alone 33 = .ok (.iload_n 3, 1) := bdX11_alone_30.2.2.2.1
theorem dX11_alone_34 : decode cX11_alone 34 = .ok (.iload 4, 2) := bdX11_alone_30.2.2.2.2.1
theorem dX11_alone_36 : decode cX11_alone 36 = .ok (.invokevirtual 265, 3) := bdX11_alone_30.2.2.2.2.2.1
theorem dX11_alone_39 : decode cX11_alone 39 = .ok (.ireturn, 1) := bdX11_alone_30.2.2.2.2.2.2
theorem bdX12_loneMoves_0 : (decode cX12_loneMoves 0 = .ok (.iconst 0, 1)) ∧ (decode cX12_loneMoves 1 = .ok (.istore_n 3, 1)) ∧ (decode cX12_loneMoves 2 = .ok (.iload_n 1, 1)) ∧ (decode cX12_loneMoves 3 = .ok (.iconst 1, 1)) ∧ (decode cX12_loneMoves 4 = .ok (.isub, 1)) ∧ (decode cX12_loneMoves 5 = .ok (.istore 4, 2)) ∧ (decode cX12_loneMoves 7 = .ok (.iload 4, 2)) ∧ (decode cX12_loneMoves 9 = .ok (.ifCond .lt 98, 3)) ∧ (decode cX12_loneMoves 12 = .ok (.bipush 40, 2)) ∧ (decode cX12_loneMoves 14 = .ok (.iload_n 2, 1)) ∧ (decode cX12_loneMoves 15 = .ok (.imul, 1)) ∧ (decode cX12_loneMoves 16 = .ok (.iload 4, 2)) ∧ (decode cX12_loneMoves 18 = .ok (.iadd, 1)) ∧ (decode cX12_loneMoves 19 = .ok (.istore 5, 2)) ∧ (decode cX12_loneMoves 21 = .ok (.aload_n 0, 1)) ∧ (decode cX12_loneMoves 22 = .ok (.getfield 86, 3)) := by decide +kernel
theorem dX12_loneMoves_0 : decode cX12_loneMoves 0 = .ok (.iconst 0, 1) := bdX12_loneMoves_0.1
theorem dX12_loneMoves_1 : decode cX12_loneMoves 1 = .ok (.istore_n 3, 1) := bdX12_loneMoves_0.2.1
theorem dX12_loneMoves_2 : decode cX12_loneMoves 2 = .ok (.iload_n 1, 1) := bdX12_loneMoves_0.2.2.1
theorem dX12_loneMoves_3 : decode cX12_loneMoves 3 = .ok (.iconst 1, 1) := bdX12_loneMoves_0.2.2.2.1
theorem dX12_loneMoves_4 : decode cX12_loneMoves 4 = .ok (.isub, 1) := bdX12_loneMoves_0.2.2.2.2.1
theorem dX12_loneMoves_5 : decode cX12_loneMoves 5 = .ok (.istore 4, 2) := bdX12_loneMoves_0.2.2.2.2.2.1
theorem dX12_loneMoves_7 : decode cX12_loneMoves 7 = .ok (.iload 4, 2) := bdX12_loneMoves_0.2.2.2.2.2.2.1
theorem dX12_loneMoves_9 : decode cX12_loneMoves 9 = .ok (.ifCond .lt 98, 3) := bdX12_loneMoves_0.2.2.2.2.2.2.2.1
theorem dX12_loneMoves_12 : decode cX12_loneMoves 12 = .ok (.bipush 40, 2) := bdX12_loneMoves_0.2.2.2.2.2.2.2.2.1
theorem dX12_loneMoves_14 : decode cX12_loneMoves 14 = .ok (.iload_n 2, 1) := bdX12_loneMoves_0.2.2.2.2.2.2.2.2.2.1
theorem dX12_loneMoves_15 : decode cX12_loneMoves 15 = .ok (.imul, 1) := bdX12_loneMoves_0.2.2.2.2.2.2.2.2.2.2.1
theorem dX12_loneMoves_16 : decode cX12_loneMoves 16 = .ok (.iload 4, 2) := bdX12_loneMoves_0.2.2.2.2.2.2.2.2.2.2.2.1
theorem dX12_loneMoves_18 : decode cX12_loneMoves 18 = .ok (.iadd, 1) := bdX12_loneMoves_0.2.2.2.2.2.2.2.2.2.2.2.2.1
theorem dX12_loneMoves_19 : decode cX12_loneMoves 19 = .ok (.istore 5, 2) := bdX12_loneMoves_0.2.2.2.2.2.2.2.2.2.2.2.2.2.1
theorem dX12_loneMoves_21 : decode cX12_loneMoves 21 = .ok (.aload_n 0, 1) := bdX12_loneMoves_0.2.2.2.2.2.2.2.2.2.2.2.2.2.2.1
theorem dX12_loneMoves_22 : decode cX12_loneMoves 22 = .ok (.getfield 86, 3) := bdX12_loneMoves_0.2.2.2.2.2.2.2.2.2.2.2.2.2.2.2
theorem bdX12_loneMoves_25 : (decode cX12_loneMoves 25 = .ok (.iload 5, 2)) ∧ (decode cX12_loneMoves 27 = .ok (.iaload, 1)) ∧ (decode cX12_loneMoves 28 = .ok (.istore 6, 2)) ∧ (decode cX12_loneMoves 30 = .ok (.aload_n 0, 1)) ∧ (decode cX12_loneMoves 31 = .ok (.getfield 86, 3)) ∧ (decode cX12_loneMoves 34 = .ok (.iload 5, 2)) ∧ (decode cX12_loneMoves 36 = .ok (.iconst 0, 1)) ∧ (decode cX12_loneMoves 37 = .ok (.iastore, 1)) ∧ (decode cX12_loneMoves 38 = .ok (.iload 6, 2)) ∧ (decode cX12_loneMoves 40 = .ok (.ifCond .le 18, 3)) ∧ (decode cX12_loneMoves 43 = .ok (.iload 4, 2)) ∧ (decode cX12_loneMoves 45 = .ok (.iload 6, 2)) ∧ (decode cX12_loneMoves 47 = .ok (.iadd, 1)) ∧ (decode cX12_loneMoves 48 = .ok (.iload_n 1, 1)) ∧ (decode cX12_loneMoves 49 = .ok (.if_icmp .lt 9, 3)) ∧ (decode cX12_loneMoves 52 = .ok (.iinc 3 1, 3)) := by decide +kernel
theorem dX12_loneMoves_25 : decode cX12_loneMoves 25 = .ok (.iload 5, 2) := bdX12_loneMoves_25.1
theorem dX12_loneMoves_27 : decode cX12_loneMoves 27 = .ok (.iaload, 1) := bdX12_loneMoves_25.2.1
theorem dX12_loneMoves_28 : decode cX12_loneMoves 28 = .ok (.istore 6, 2) := bdX12_loneMoves_25.2.2.1
theorem dX12_loneMoves_30 : decode cX12_loneMoves 30 = .ok (.aload_n 0, 1) := bdX12_loneMoves_25.2.2.2.1
theorem dX12_loneMoves_31 : decode cX12_loneMoves 31 = .ok (.getfield 86, 3) := bdX12_loneMoves_25.2.2.2.2.1
theorem dX12_loneMoves_34 : decode cX12_loneMoves 34 = .ok (.iload 5, 2) := bdX12_loneMoves_25.2.2.2.2.2.1
theorem dX12_loneMoves_36 : decode cX12_loneMoves 36 = .ok (.iconst 0, 1) := bdX12_loneMoves_25.2.2.2.2.2.2.1
theorem dX12_loneMoves_37 : decode cX12_loneMoves 37 = .ok (.iastore, 1) := bdX12_loneMoves_25.2.2.2.2.2.2.2.1
theorem dX12_loneMoves_38 : decode cX12_loneMoves 38 = .ok (.iload 6, 2) := bdX12_loneMoves_25.2.2.2.2.2.2.2.2.1
theorem dX12_loneMoves_40 : decode cX12_loneMoves 40 = .ok (.ifCond .le 18, 3) := bdX12_loneMoves_25.2.2.2.2.2.2.2.2.2.1
theorem dX12_loneMoves_43 : decode cX12_loneMoves 43 = .ok (.iload 4, 2) := bdX12_loneMoves_25.2.2.2.2.2.2.2.2.2.2.1
theorem dX12_loneMoves_45 : decode cX12_loneMoves 45 = .ok (.iload 6, 2) := bdX12_loneMoves_25.2.2.2.2.2.2.2.2.2.2.2.1
theorem dX12_loneMoves_47 : decode cX12_loneMoves 47 = .ok (.iadd, 1) := bdX12_loneMoves_25.2.2.2.2.2.2.2.2.2.2.2.2.1
theorem dX12_loneMoves_48 : decode cX12_loneMoves 48 = .ok (.iload_n 1, 1) := bdX12_loneMoves_25.2.2.2.2.2.2.2.2.2.2.2.2.2.1
theorem dX12_loneMoves_49 : decode cX12_loneMoves 49 = .ok (.if_icmp .lt 9, 3) := bdX12_loneMoves_25.2.2.2.2.2.2.2.2.2.2.2.2.2.2.1
theorem dX12_loneMoves_52 : decode cX12_loneMoves 52 = .ok (.iinc 3 1, 3) := bdX12_loneMoves_25.2.2.2.2.2.2.2.2.2.2.2.2.2.2.2
theorem bdX12_loneMoves_55 : (decode cX12_loneMoves 55 = .ok (.goto 46, 3)) ∧ (decode cX12_loneMoves 58 = .ok (.iload 6, 2)) ∧ (decode cX12_loneMoves 60 = .ok (.ifCond .le 41, 3)) ∧ (decode cX12_loneMoves 63 = .ok (.iload 6, 2)) ∧ (decode cX12_loneMoves 65 = .ok (.iconst 2, 1)) ∧ (decode cX12_loneMoves 66 = .ok (.if_icmp .ne 19, 3)) ∧ (decode cX12_loneMoves 69 = .ok (.aload_n 0, 1)) ∧ (decode cX12_loneMoves 70 = .ok (.getfield 86, 3)) ∧ (decode cX12_loneMoves 73 = .ok (.iload 5, 2)) ∧ (decode cX12_loneMoves 75 = .ok (.iconst 2, 1)) ∧ (decode cX12_loneMoves 76 = .ok (.iadd, 1)) ∧ (decode cX12_loneMoves 77 = .ok (.iaload, 1)) ∧ (decode cX12_loneMoves 78 = .ok (.ifCond .le 7, 3)) ∧ (decode cX12_loneMoves 81 = .ok (.iconst 1, 1)) ∧ (decode cX12_loneMoves 82 = .ok (.goto 5, 3)) ∧ (decode cX12_loneMoves 85 = .ok (.iload 6, 2)) := by decide +kernel
theorem dX12_loneMoves_55 : decode cX12_loneMoves 55 = .ok (.goto 46, 3) := bdX12_loneMoves_55.1
theorem dX12_loneMoves_58 : decode cX12_loneMoves 58 = .ok (.iload 6, 2) := bdX12_loneMoves_55.2.1
theorem dX12_loneMoves_60 : decode cX12_loneMoves 60 = .ok (.ifCond .le 41, 3) := bdX12_loneMoves_55.2.2.1
theorem dX12_loneMoves_63 : decode cX12_loneMoves 63 = .ok (.iload 6, 2) := bdX12_loneMoves_55.2.2.2.1
theorem dX12_loneMoves_65 : decode cX12_loneMoves 65 = .ok (.iconst 2, 1) := bdX12_loneMoves_55.2.2.2.2.1
theorem dX12_loneMoves_66 : decode cX12_loneMoves 66 = .ok (.if_icmp .ne 19, 3) := bdX12_loneMoves_55.2.2.2.2.2.1
theorem dX12_loneMoves_69 : decode cX12_loneMoves 69 = .ok (.aload_n 0, 1) := bdX12_loneMoves_55.2.2.2.2.2.2.1
theorem dX12_loneMoves_70 : decode cX12_loneMoves 70 = .ok (.getfield 86, 3) := bdX12_loneMoves_55.2.2.2.2.2.2.2.1
theorem dX12_loneMoves_73 : decode cX12_loneMoves 73 = .ok (.iload 5, 2) := bdX12_loneMoves_55.2.2.2.2.2.2.2.2.1
theorem dX12_loneMoves_75 : decode cX12_loneMoves 75 = .ok (.iconst 2, 1) := bdX12_loneMoves_55.2.2.2.2.2.2.2.2.2.1
theorem dX12_loneMoves_76 : decode cX12_loneMoves 76 = .ok (.iadd, 1) := bdX12_loneMoves_55.2.2.2.2.2.2.2.2.2.2.1
theorem dX12_loneMoves_77 : decode cX12_loneMoves 77 = .ok (.iaload, 1) := bdX12_loneMoves_55.2.2.2.2.2.2.2.2.2.2.2.1
theorem dX12_loneMoves_78 : decode cX12_loneMoves 78 = .ok (.ifCond .le 7, 3) := bdX12_loneMoves_55.2.2.2.2.2.2.2.2.2.2.2.2.1
theorem dX12_loneMoves_81 : decode cX12_loneMoves 81 = .ok (.iconst 1, 1) := bdX12_loneMoves_55.2.2.2.2.2.2.2.2.2.2.2.2.2.1
theorem dX12_loneMoves_82 : decode cX12_loneMoves 82 = .ok (.goto 5, 3) := bdX12_loneMoves_55.2.2.2.2.2.2.2.2.2.2.2.2.2.2.1
theorem dX12_loneMoves_85 : decode cX12_loneMoves 85 = .ok (.iload 6, 2) := bdX12_loneMoves_55.2.2.2.2.2.2.2.2.2.2.2.2.2.2.2
theorem bdX12_loneMoves_87 : (decode cX12_loneMoves 87 = .ok (.istore 7, 2)) ∧ (decode cX12_loneMoves 89 = .ok (.aload_n 0, 1)) ∧ (decode cX12_loneMoves 90 = .ok (.getfield 86, 3)) ∧ (decode cX12_loneMoves 93 = .ok (.iload 5, 2)) ∧ (decode cX12_loneMoves 95 = .ok (.iload 7, 2)) ∧ (decode cX12_loneMoves 97 = .ok (.iadd, 1)) ∧ (decode cX12_loneMoves 98 = .ok (.iload 6, 2)) ∧ (decode cX12_loneMoves 100 = .ok (.iastore, 1)) ∧ (decode cX12_loneMoves 101 = .ok (.iinc 4 (-1), 3)) ∧ (decode cX12_loneMoves 104 = .ok (.goto (-97), 3)) ∧ (decode cX12_loneMoves 107 = .ok (.iload_n 3, 1)) ∧ (decode cX12_loneMoves 108 = .ok (.ireturn, 1)) := by decide +kernel
theorem dX12_loneMoves_87 : decode cX12_loneMoves 87 = .ok (.istore 7, 2) := bdX12_loneMoves_87.1
theorem dX12_loneMoves_89 : decode cX12_loneMoves 89 = .ok (.aload_n 0, 1) := bdX12_loneMoves_87.2.1
theorem dX12_loneMoves_90 : decode cX12_loneMoves 90 = .ok (.getfield 86, 3) := bdX12_loneMoves_87.2.2.1
theorem dX12_loneMoves_93 : decode cX12_loneMoves 93 = .ok (.iload 5, 2) := bdX12_loneMoves_87.2.2.2.1
theorem dX12_loneMoves_95 : decode cX12_loneMoves 95 = .ok (.iload 7, 2) := bdX12_loneMoves_87.2.2.2.2.1
theorem dX12_loneMoves_97 : decode cX12_loneMoves 97 = .ok (.iadd, 1) := bdX12_loneMoves_87.2.2.2.2.2.1
theorem dX12_loneMoves_98 : decode cX12_loneMoves 98 = .ok (.iload 6, 2) := bdX12_loneMoves_87.2.2.2.2.2.2.1
theorem dX12_loneMoves_100 : decode cX12_loneMoves 100 = .ok (.iastore, 1) := bdX12_loneMoves_87.2.2.2.2.2.2.2.1
theorem dX12_loneMoves_101 : decode cX12_loneMoves 101 = .ok (.iinc 4 (-1), 3) := bdX12_loneMoves_87.2.2.2.2.2.2.2.2.1
theorem dX12_loneMoves_104 : decode cX12_loneMoves 104 = .ok (.goto (-97), 3) := bdX12_loneMoves_87.2.2.2.2.2.2.2.2.2.1
theorem dX12_loneMoves_107 : decode cX12_loneMoves 107 = .ok (.iload_n 3, 1) := bdX12_loneMoves_87.2.2.2.2.2.2.2.2.2.2.1
theorem dX12_loneMoves_108 : decode cX12_loneMoves 108 = .ok (.ireturn, 1) := bdX12_loneMoves_87.2.2.2.2.2.2.2.2.2.2.2
theorem bdX12_carries_0 : (decode cX12_carries 0 = .ok (.iconst 0, 1)) ∧ (decode cX12_carries 1 = .ok (.istore 5, 2)) ∧ (decode cX12_carries 3 = .ok (.iload 5, 2)) ∧ (decode cX12_carries 5 = .ok (.bipush 80, 2)) ∧ (decode cX12_carries 7 = .ok (.if_icmp .ge 17, 3)) ∧ (decode cX12_carries 10 = .ok (.aload_n 0, 1)) ∧ (decode cX12_carries 11 = .ok (.getfield 86, 3)) ∧ (decode cX12_carries 14 = .ok (.iload 5, 2)) ∧ (decode cX12_carries 16 = .ok (.iconst 0, 1)) ∧ (decode cX12_carries 17 = .ok (.iastore, 1)) ∧ (decode cX12_carries 18 = .ok (.iinc 5 1, 3)) ∧ (decode cX12_carries 21 = .ok (.goto (-18), 3)) ∧ (decode cX12_carries 24 = .ok (.iconst 0, 1)) ∧ (decode cX12_carries 25 = .ok (.istore 5, 2)) ∧ (decode cX12_carries 27 = .ok (.iconst 0, 1)) ∧ (decode cX12_carries 28 = .ok (.istore 6, 2)) := by decide +kernel
theorem dX12_carries_0 : decode cX12_carries 0 = .ok (.iconst 0, 1) := bdX12_carries_0.1
theorem dX12_carries_1 : decode cX12_carries 1 = .ok (.istore 5, 2) := bdX12_carries_0.2.1
theorem dX12_carries_3 : decode cX12_carries 3 = .ok (.iload 5, 2) := bdX12_carries_0.2.2.1
theorem dX12_carries_5 : decode cX12_carries 5 = .ok (.bipush 80, 2) := bdX12_carries_0.2.2.2.1
theorem dX12_carries_7 : decode cX12_carries 7 = .ok (.if_icmp .ge 17, 3) := bdX12_carries_0.2.2.2.2.1
theorem dX12_carries_10 : decode cX12_carries 10 = .ok (.aload_n 0, 1) := bdX12_carries_0.2.2.2.2.2.1
theorem dX12_carries_11 : decode cX12_carries 11 = .ok (.getfield 86, 3) := bdX12_carries_0.2.2.2.2.2.2.1
theorem dX12_carries_14 : decode cX12_carries 14 = .ok (.iload 5, 2) := bdX12_carries_0.2.2.2.2.2.2.2.1
theorem dX12_carries_16 : decode cX12_carries 16 = .ok (.iconst 0, 1) := bdX12_carries_0.2.2.2.2.2.2.2.2.1
theorem dX12_carries_17 : decode cX12_carries 17 = .ok (.iastore, 1) := bdX12_carries_0.2.2.2.2.2.2.2.2.2.1
theorem dX12_carries_18 : decode cX12_carries 18 = .ok (.iinc 5 1, 3) := bdX12_carries_0.2.2.2.2.2.2.2.2.2.2.1
theorem dX12_carries_21 : decode cX12_carries 21 = .ok (.goto (-18), 3) := bdX12_carries_0.2.2.2.2.2.2.2.2.2.2.2.1
theorem dX12_carries_24 : decode cX12_carries 24 = .ok (.iconst 0, 1) := bdX12_carries_0.2.2.2.2.2.2.2.2.2.2.2.2.1
theorem dX12_carries_25 : decode cX12_carries 25 = .ok (.istore 5, 2) := bdX12_carries_0.2.2.2.2.2.2.2.2.2.2.2.2.2.1
theorem dX12_carries_27 : decode cX12_carries 27 = .ok (.iconst 0, 1) := bdX12_carries_0.2.2.2.2.2.2.2.2.2.2.2.2.2.2.1
theorem dX12_carries_28 : decode cX12_carries 28 = .ok (.istore 6, 2) := bdX12_carries_0.2.2.2.2.2.2.2.2.2.2.2.2.2.2.2
theorem bdX12_carries_30 : (decode cX12_carries 30 = .ok (.iconst 0, 1)) ∧ (decode cX12_carries 31 = .ok (.istore 7, 2)) ∧ (decode cX12_carries 33 = .ok (.iload 7, 2)) ∧ (decode cX12_carries 35 = .ok (.iload 4, 2)) ∧ (decode cX12_carries 37 = .ok (.if_icmp .ge 161, 3)) ∧ (decode cX12_carries 40 = .ok (.iload 5, 2)) ∧ (decode cX12_carries 42 = .ok (.aload_n 0, 1)) ∧ (decode cX12_carries 43 = .ok (.iload_n 1, 1)) ∧ (decode cX12_carries 44 = .ok (.iconst 0, 1)) ∧ (decode cX12_carries 45 = .ok (.invokevirtual 402, 3)) ∧ (decode cX12_carries 48 = .ok (.aload_n 0, 1)) ∧ (decode cX12_carries 49 = .ok (.iload_n 1, 1)) ∧ (decode cX12_carries 50 = .ok (.iconst 1, 1)) ∧ (decode cX12_carries 51 = .ok (.invokevirtual 402, 3)) ∧ (decode cX12_carries 54 = .ok (.iadd, 1)) ∧ (decode cX12_carries 55 = .ok (.iadd, 1)) := by decide +kernel
theorem dX12_carries_30 : decode cX12_carries 30 = .ok (.iconst 0, 1) := bdX12_carries_30.1
theorem dX12_carries_31 : decode cX12_carries 31 = .ok (.istore 7, 2) := bdX12_carries_30.2.1
theorem dX12_carries_33 : decode cX12_carries 33 = .ok (.iload 7, 2) := bdX12_carries_30.2.2.1
theorem dX12_carries_35 : decode cX12_carries 35 = .ok (.iload 4, 2) := bdX12_carries_30.2.2.2.1
theorem dX12_carries_37 : decode cX12_carries 37 = .ok (.if_icmp .ge 161, 3) := bdX12_carries_30.2.2.2.2.1
theorem dX12_carries_40 : decode cX12_carries 40 = .ok (.iload 5, 2) := bdX12_carries_30.2.2.2.2.2.1
theorem dX12_carries_42 : decode cX12_carries 42 = .ok (.aload_n 0, 1) := bdX12_carries_30.2.2.2.2.2.2.1
theorem dX12_carries_43 : decode cX12_carries 43 = .ok (.iload_n 1, 1) := bdX12_carries_30.2.2.2.2.2.2.2.1
theorem dX12_carries_44 : decode cX12_carries 44 = .ok (.iconst 0, 1) := bdX12_carries_30.2.2.2.2.2.2.2.2.1
theorem dX12_carries_45 : decode cX12_carries 45 = .ok (.invokevirtual 402, 3) := bdX12_carries_30.2.2.2.2.2.2.2.2.2.1
theorem dX12_carries_48 : decode cX12_carries 48 = .ok (.aload_n 0, 1) := bdX12_carries_30.2.2.2.2.2.2.2.2.2.2.1
theorem dX12_carries_49 : decode cX12_carries 49 = .ok (.iload_n 1, 1) := bdX12_carries_30.2.2.2.2.2.2.2.2.2.2.2.1
theorem dX12_carries_50 : decode cX12_carries 50 = .ok (.iconst 1, 1) := bdX12_carries_30.2.2.2.2.2.2.2.2.2.2.2.2.1
theorem dX12_carries_51 : decode cX12_carries 51 = .ok (.invokevirtual 402, 3) := bdX12_carries_30.2.2.2.2.2.2.2.2.2.2.2.2.2.1
theorem dX12_carries_54 : decode cX12_carries 54 = .ok (.iadd, 1) := bdX12_carries_30.2.2.2.2.2.2.2.2.2.2.2.2.2.2.1
theorem dX12_carries_55 : decode cX12_carries 55 = .ok (.iadd, 1) := bdX12_carries_30.2.2.2.2.2.2.2.2.2.2.2.2.2.2.2
theorem bdX12_carries_56 : (decode cX12_carries 56 = .ok (.istore 5, 2)) ∧ (decode cX12_carries 58 = .ok (.iconst 1, 1)) ∧ (decode cX12_carries 59 = .ok (.istore 8, 2)) ∧ (decode cX12_carries 61 = .ok (.iconst 0, 1)) ∧ (decode cX12_carries 62 = .ok (.istore 9, 2)) ∧ (decode cX12_carries 64 = .ok (.iload 9, 2)) ∧ (decode cX12_carries 66 = .ok (.iconst 2, 1)) ∧ (decode cX12_carries 67 = .ok (.if_icmp .ge 125, 3)) ∧ (decode cX12_carries 70 = .ok (.iload 8, 2)) ∧ (decode cX12_carries 72 = .ok (.ifCond .eq 120, 3)) ∧ (decode cX12_carries 75 = .ok (.iload_n 3, 1)) ∧ (decode cX12_carries 76 = .ok (.ifCond .ne 26, 3)) ∧ (decode cX12_carries 79 = .ok (.iload_n 2, 1)) ∧ (decode cX12_carries 80 = .ok (.iload 6, 2)) ∧ (decode cX12_carries 82 = .ok (.iconst 1, 1)) ∧ (decode cX12_carries 83 = .ok (.iadd, 1)) := by decide +kernel
theorem dX12_carries_56 : decode cX12_carries 56 = .ok (.istore 5, 2) := bdX12_carries_56.1
theorem dX12_carries_58 : decode cX12_carries 58 = .ok (.iconst 1, 1) := bdX12_carries_56.2.1
theorem dX12_carries_59 : decode cX12_carries 59 = .ok (.istore 8, 2) := bdX12_carries_56.2.2.1
theorem dX12_carries_61 : decode cX12_carries 61 = .ok (.iconst 0, 1) := bdX12_carries_56.2.2.2.1
theorem dX12_carries_62 : decode cX12_carries 62 = .ok (.istore 9, 2) := bdX12_carries_56.2.2.2.2.1
theorem dX12_carries_64 : decode cX12_carries 64 = .ok (.iload 9, 2) := bdX12_carries_56.2.2.2.2.2.1
theorem dX12_carries_66 : decode cX12_carries 66 = .ok (.iconst 2, 1) := bdX12_carries_56.2.2.2.2.2.2.1
theorem dX12_carries_67 : decode cX12_carries 67 = .ok (.if_icmp .ge 125, 3) := bdX12_carries_56.2.2.2.2.2.2.2.1
theorem dX12_carries_70 : decode cX12_carries 70 = .ok (.iload 8, 2) := bdX12_carries_56.2.2.2.2.2.2.2.2.1
theorem dX12_carries_72 : decode cX12_carries 72 = .ok (.ifCond .eq 120, 3) := bdX12_carries_56.2.2.2.2.2.2.2.2.2.1
theorem dX12_carries_75 : decode cX12_carries 75 = .ok (.iload_n 3, 1) := bdX12_carries_56.2.2.2.2.2.2.2.2.2.2.1
theorem dX12_carries_76 : decode cX12_carries 76 = .ok (.ifCond .ne 26, 3) := bdX12_carries_56.2.2.2.2.2.2.2.2.2.2.2.1
theorem dX12_carries_79 : decode cX12_carries 79 = .ok (.iload_n 2, 1) := bdX12_carries_56.2.2.2.2.2.2.2.2.2.2.2.2.1
theorem dX12_carries_80 : decode cX12_carries 80 = .ok (.iload 6, 2) := bdX12_carries_56.2.2.2.2.2.2.2.2.2.2.2.2.2.1
theorem dX12_carries_82 : decode cX12_carries 82 = .ok (.iconst 1, 1) := bdX12_carries_56.2.2.2.2.2.2.2.2.2.2.2.2.2.2.1
theorem dX12_carries_83 : decode cX12_carries 83 = .ok (.iadd, 1) := bdX12_carries_56.2.2.2.2.2.2.2.2.2.2.2.2.2.2.2
theorem bdX12_carries_84 : (decode cX12_carries 84 = .ok (.imul, 1)) ∧ (decode cX12_carries 85 = .ok (.bipush 10, 2)) ∧ (decode cX12_carries 87 = .ok (.idiv, 1)) ∧ (decode cX12_carries 88 = .ok (.iload_n 2, 1)) ∧ (decode cX12_carries 89 = .ok (.iload 6, 2)) ∧ (decode cX12_carries 91 = .ok (.imul, 1)) ∧ (decode cX12_carries 92 = .ok (.bipush 10, 2)) ∧ (decode cX12_carries 94 = .ok (.idiv, 1)) ∧ (decode cX12_carries 95 = .ok (.if_icmp .le 7, 3)) ∧ (decode cX12_carries 98 = .ok (.iconst 1, 1)) ∧ (decode cX12_carries 99 = .ok (.goto 4, 3)) ∧ (decode cX12_carries 102 = .ok (.iconst 0, 1)) ∧ (decode cX12_carries 103 = .ok (.istore 10, 2)) ∧ (decode cX12_carries 105 = .ok (.iload_n 3, 1)) ∧ (decode cX12_carries 106 = .ok (.ifCond .ne 16, 3)) ∧ (decode cX12_carries 109 = .ok (.iload 10, 2)) := by decide +kernel
theorem dX12_carries_84 : decode cX12_carries 84 = .ok (.imul, 1) := bdX12_carries_84.1
theorem dX12_carries_85 : decode cX12_carries 85 = .ok (.bipush 10, 2) := bdX12_carries_84.2.1
theorem dX12_carries_87 : decode cX12_carries 87 = .ok (.idiv, 1) := bdX12_carries_84.2.2.1
theorem dX12_carries_88 : decode cX12_carries 88 = .ok (.iload_n 2, 1) := bdX12_carries_84.2.2.2.1
theorem dX12_carries_89 : decode cX12_carries 89 = .ok (.iload 6, 2) := bdX12_carries_84.2.2.2.2.1
theorem dX12_carries_91 : decode cX12_carries 91 = .ok (.imul, 1) := bdX12_carries_84.2.2.2.2.2.1
theorem dX12_carries_92 : decode cX12_carries 92 = .ok (.bipush 10, 2) := bdX12_carries_84.2.2.2.2.2.2.1
theorem dX12_carries_94 : decode cX12_carries 94 = .ok (.idiv, 1) := bdX12_carries_84.2.2.2.2.2.2.2.1
theorem dX12_carries_95 : decode cX12_carries 95 = .ok (.if_icmp .le 7, 3) := bdX12_carries_84.2.2.2.2.2.2.2.2.1
theorem dX12_carries_98 : decode cX12_carries 98 = .ok (.iconst 1, 1) := bdX12_carries_84.2.2.2.2.2.2.2.2.2.1
theorem dX12_carries_99 : decode cX12_carries 99 = .ok (.goto 4, 3) := bdX12_carries_84.2.2.2.2.2.2.2.2.2.2.1
theorem dX12_carries_102 : decode cX12_carries 102 = .ok (.iconst 0, 1) := bdX12_carries_84.2.2.2.2.2.2.2.2.2.2.2.1
theorem dX12_carries_103 : decode cX12_carries 103 = .ok (.istore 10, 2) := bdX12_carries_84.2.2.2.2.2.2.2.2.2.2.2.2.1
theorem dX12_carries_105 : decode cX12_carries 105 = .ok (.iload_n 3, 1) := bdX12_carries_84.2.2.2.2.2.2.2.2.2.2.2.2.2.1
theorem dX12_carries_106 : decode cX12_carries 106 = .ok (.ifCond .ne 16, 3) := bdX12_carries_84.2.2.2.2.2.2.2.2.2.2.2.2.2.2.1
theorem dX12_carries_109 : decode cX12_carries 109 = .ok (.iload 10, 2) := bdX12_carries_84.2.2.2.2.2.2.2.2.2.2.2.2.2.2.2
theorem bdX12_carries_111 : (decode cX12_carries 111 = .ok (.ifCond .eq 7, 3)) ∧ (decode cX12_carries 114 = .ok (.iconst 1, 1)) ∧ (decode cX12_carries 115 = .ok (.goto 21, 3)) ∧ (decode cX12_carries 118 = .ok (.iconst 0, 1)) ∧ (decode cX12_carries 119 = .ok (.goto 17, 3)) ∧ (decode cX12_carries 122 = .ok (.aload_n 0, 1)) ∧ (decode cX12_carries 123 = .ok (.getfield 86, 3)) ∧ (decode cX12_carries 126 = .ok (.iconst 0, 1)) ∧ (decode cX12_carries 127 = .ok (.iaload, 1)) ∧ (decode cX12_carries 128 = .ok (.ifCond .le 7, 3)) ∧ (decode cX12_carries 131 = .ok (.iconst 1, 1)) ∧ (decode cX12_carries 132 = .ok (.goto 4, 3)) ∧ (decode cX12_carries 135 = .ok (.iconst 0, 1)) ∧ (decode cX12_carries 136 = .ok (.istore 11, 2)) ∧ (decode cX12_carries 138 = .ok (.aload_n 0, 1)) ∧ (decode cX12_carries 139 = .ok (.getfield 86, 3)) := by decide +kernel
theorem dX12_carries_111 : decode cX12_carries 111 = .ok (.ifCond .eq 7, 3) := bdX12_carries_111.1
theorem dX12_carries_114 : decode cX12_carries 114 = .ok (.iconst 1, 1) := bdX12_carries_111.2.1
theorem dX12_carries_115 : decode cX12_carries 115 = .ok (.goto 21, 3) := bdX12_carries_111.2.2.1
theorem dX12_carries_118 : decode cX12_carries 118 = .ok (.iconst 0, 1) := bdX12_carries_111.2.2.2.1
theorem dX12_carries_119 : decode cX12_carries 119 = .ok (.goto 17, 3) := bdX12_carries_111.2.2.2.2.1
theorem dX12_carries_122 : decode cX12_carries 122 = .ok (.aload_n 0, 1) := bdX12_carries_111.2.2.2.2.2.1
theorem dX12_carries_123 : decode cX12_carries 123 = .ok (.getfield 86, 3) := bdX12_carries_111.2.2.2.2.2.2.1
theorem dX12_carries_126 : decode cX12_carries 126 = .ok (.iconst 0, 1) := bdX12_carries_111.2.2.2.2.2.2.2.1
theorem dX12_carries_127 : decode cX12_carries 127 = .ok (.iaload, 1) := bdX12_carries_111.2.2.2.2.2.2.2.2.1
theorem dX12_carries_128 : decode cX12_carries 128 = .ok (.ifCond .le 7, 3) := bdX12_carries_111.2.2.2.2.2.2.2.2.2.1
theorem dX12_carries_131 : decode cX12_carries 131 = .ok (.iconst 1, 1) := bdX12_carries_111.2.2.2.2.2.2.2.2.2.2.1
theorem dX12_carries_132 : decode cX12_carries 132 = .ok (.goto 4, 3) := bdX12_carries_111.2.2.2.2.2.2.2.2.2.2.2.1
theorem dX12_carries_135 : decode cX12_carries 135 = .ok (.iconst 0, 1) := bdX12_carries_111.2.2.2.2.2.2.2.2.2.2.2.2.1
theorem dX12_carries_136 : decode cX12_carries 136 = .ok (.istore 11, 2) := bdX12_carries_111.2.2.2.2.2.2.2.2.2.2.2.2.2.1
theorem dX12_carries_138 : decode cX12_carries 138 = .ok (.aload_n 0, 1) := bdX12_carries_111.2.2.2.2.2.2.2.2.2.2.2.2.2.2.1
theorem dX12_carries_139 : decode cX12_carries 139 = .ok (.getfield 86, 3) := bdX12_carries_111.2.2.2.2.2.2.2.2.2.2.2.2.2.2.2
theorem bdX12_carries_142 : (decode cX12_carries 142 = .ok (.bipush 40, 2)) ∧ (decode cX12_carries 144 = .ok (.iload 11, 2)) ∧ (decode cX12_carries 146 = .ok (.imul, 1)) ∧ (decode cX12_carries 147 = .ok (.iaload, 1)) ∧ (decode cX12_carries 148 = .ok (.ifCond .ne 7, 3)) ∧ (decode cX12_carries 151 = .ok (.iconst 1, 1)) ∧ (decode cX12_carries 152 = .ok (.goto 4, 3)) ∧ (decode cX12_carries 155 = .ok (.iconst 0, 1)) ∧ (decode cX12_carries 156 = .ok (.istore 8, 2)) ∧ (decode cX12_carries 158 = .ok (.iload 8, 2)) ∧ (decode cX12_carries 160 = .ok (.ifCond .eq 26, 3)) ∧ (decode cX12_carries 163 = .ok (.aload_n 0, 1)) ∧ (decode cX12_carries 164 = .ok (.getfield 86, 3)) ∧ (decode cX12_carries 167 = .ok (.bipush 40, 2)) ∧ (decode cX12_carries 169 = .ok (.iload 11, 2)) ∧ (decode cX12_carries 171 = .ok (.imul, 1)) := by decide +kernel
theorem dX12_carries_142 : decode cX12_carries 142 = .ok (.bipush 40, 2) := bdX12_carries_142.1
theorem dX12_carries_144 : decode cX12_carries 144 = .ok (.iload 11, 2) := bdX12_carries_142.2.1
theorem dX12_carries_146 : decode cX12_carries 146 = .ok (.imul, 1) := bdX12_carries_142.2.2.1
theorem dX12_carries_147 : decode cX12_carries 147 = .ok (.iaload, 1) := bdX12_carries_142.2.2.2.1
theorem dX12_carries_148 : decode cX12_carries 148 = .ok (.ifCond .ne 7, 3) := bdX12_carries_142.2.2.2.2.1
theorem dX12_carries_151 : decode cX12_carries 151 = .ok (.iconst 1, 1) := bdX12_carries_142.2.2.2.2.2.1
theorem dX12_carries_152 : decode cX12_carries 152 = .ok (.goto 4, 3) := bdX12_carries_142.2.2.2.2.2.2.1
theorem dX12_carries_155 : decode cX12_carries 155 = .ok (.iconst 0, 1) := bdX12_carries_142.2.2.2.2.2.2.2.1
theorem dX12_carries_156 : decode cX12_carries 156 = .ok (.istore 8, 2) := bdX12_carries_142.2.2.2.2.2.2.2.2.1
theorem dX12_carries_158 : decode cX12_carries 158 = .ok (.iload 8, 2) := bdX12_carries_142.2.2.2.2.2.2.2.2.2.1
theorem dX12_carries_160 : decode cX12_carries 160 = .ok (.ifCond .eq 26, 3) := bdX12_carries_142.2.2.2.2.2.2.2.2.2.2.1
theorem dX12_carries_163 : decode cX12_carries 163 = .ok (.aload_n 0, 1) := bdX12_carries_142.2.2.2.2.2.2.2.2.2.2.2.1
theorem dX12_carries_164 : decode cX12_carries 164 = .ok (.getfield 86, 3) := bdX12_carries_142.2.2.2.2.2.2.2.2.2.2.2.2.1
theorem dX12_carries_167 : decode cX12_carries 167 = .ok (.bipush 40, 2) := bdX12_carries_142.2.2.2.2.2.2.2.2.2.2.2.2.2.1
theorem dX12_carries_169 : decode cX12_carries 169 = .ok (.iload 11, 2) := bdX12_carries_142.2.2.2.2.2.2.2.2.2.2.2.2.2.2.1
theorem dX12_carries_171 : decode cX12_carries 171 = .ok (.imul, 1) := bdX12_carries_142.2.2.2.2.2.2.2.2.2.2.2.2.2.2.2
theorem bdX12_carries_172 : (decode cX12_carries 172 = .ok (.iload 10, 2)) ∧ (decode cX12_carries 174 = .ok (.ifCond .eq 7, 3)) ∧ (decode cX12_carries 177 = .ok (.iconst 2, 1)) ∧ (decode cX12_carries 178 = .ok (.goto 4, 3)) ∧ (decode cX12_carries 181 = .ok (.iconst 1, 1)) ∧ (decode cX12_carries 182 = .ok (.iastore, 1)) ∧ (decode cX12_carries 183 = .ok (.iinc 6 1, 3)) ∧ (decode cX12_carries 186 = .ok (.iinc 9 1, 3)) ∧ (decode cX12_carries 189 = .ok (.goto (-125), 3)) ∧ (decode cX12_carries 192 = .ok (.iinc 7 1, 3)) ∧ (decode cX12_carries 195 = .ok (.goto (-162), 3)) ∧ (decode cX12_carries 198 = .ok (.iload 5, 2)) ∧ (decode cX12_carries 200 = .ok (.ireturn, 1)) := by decide +kernel
theorem dX12_carries_172 : decode cX12_carries 172 = .ok (.iload 10, 2) := bdX12_carries_172.1
theorem dX12_carries_174 : decode cX12_carries 174 = .ok (.ifCond .eq 7, 3) := bdX12_carries_172.2.1
theorem dX12_carries_177 : decode cX12_carries 177 = .ok (.iconst 2, 1) := bdX12_carries_172.2.2.1
theorem dX12_carries_178 : decode cX12_carries 178 = .ok (.goto 4, 3) := bdX12_carries_172.2.2.2.1
theorem dX12_carries_181 : decode cX12_carries 181 = .ok (.iconst 1, 1) := bdX12_carries_172.2.2.2.2.1
theorem dX12_carries_182 : decode cX12_carries 182 = .ok (.iastore, 1) := bdX12_carries_172.2.2.2.2.2.1
theorem dX12_carries_183 : decode cX12_carries 183 = .ok (.iinc 6 1, 3) := bdX12_carries_172.2.2.2.2.2.2.1
theorem dX12_carries_186 : decode cX12_carries 186 = .ok (.iinc 9 1, 3) := bdX12_carries_172.2.2.2.2.2.2.2.1
theorem dX12_carries_189 : decode cX12_carries 189 = .ok (.goto (-125), 3) := bdX12_carries_172.2.2.2.2.2.2.2.2.1
theorem dX12_carries_192 : decode cX12_carries 192 = .ok (.iinc 7 1, 3) := bdX12_carries_172.2.2.2.2.2.2.2.2.2.1
theorem dX12_carries_195 : decode cX12_carries 195 = .ok (.goto (-162), 3) := bdX12_carries_172.2.2.2.2.2.2.2.2.2.2.1
theorem dX12_carries_198 : decode cX12_carries 198 = .ok (.iload 5, 2) := bdX12_carries_172.2.2.2.2.2.2.2.2.2.2.2.1
theorem dX12_carries_200 : decode cX12_carries 200 = .ok (.ireturn, 1) := bdX12_carries_172.2.2.2.2.2.2.2.2.2.2.2.2
theorem bdX12_alone_0 : (decode cX12_alone 0 = .ok (.iload_n 1, 1)) ∧ (decode cX12_alone 1 = .ok (.iconst 2, 1)) ∧ (decode cX12_alone 2 = .ok (.bipush 40, 2)) ∧ (decode cX12_alone 4 = .ok (.invokestatic 95, 3)) ∧ (decode cX12_alone 7 = .ok (.ifCond .eq 46, 3)) ∧ (decode cX12_alone 10 = .ok (.iload_n 2, 1)) ∧ (decode cX12_alone 11 = .ok (.iconst 0, 1)) ∧ (decode cX12_alone 12 = .ok (.bipush 10, 2)) ∧ (decode cX12_alone 14 = .ok (.invokestatic 95, 3)) ∧ (decode cX12_alone 17 = .ok (.ifCond .eq 36, 3)) ∧ (decode cX12_alone 20 = .ok (.iload_n 3, 1)) ∧ (decode cX12_alone 21 = .ok (.iconst 0, 1)) ∧ (decode cX12_alone 22 = .ok (.iconst 1, 1)) ∧ (decode cX12_alone 23 = .ok (.invokestatic 95, 3)) ∧ (decode cX12_alone 26 = .ok (.ifCond .eq 27, 3)) ∧ (decode cX12_alone 29 = .ok (.iload 4, 2)) := by decide +kernel
theorem dX12_alone_0 : decode cX12_alone 0 = .ok (.iload_n 1, 1) := bdX12_alone_0.1
theorem dX12_alone_1 : decode cX12_alone 1 = .ok (.iconst 2, 1) := bdX12_alone_0.2.1
theorem dX12_alone_2 : decode cX12_alone 2 = .ok (.bipush 40, 2) := bdX12_alone_0.2.2.1
theorem dX12_alone_4 : decode cX12_alone 4 = .ok (.invokestatic 95, 3) := bdX12_alone_0.2.2.2.1
theorem dX12_alone_7 : decode cX12_alone 7 = .ok (.ifCond .eq 46, 3) := bdX12_alone_0.2.2.2.2.1
theorem dX12_alone_10 : decode cX12_alone 10 = .ok (.iload_n 2, 1) := bdX12_alone_0.2.2.2.2.2.1
theorem dX12_alone_11 : decode cX12_alone 11 = .ok (.iconst 0, 1) := bdX12_alone_0.2.2.2.2.2.2.1
theorem dX12_alone_12 : decode cX12_alone 12 = .ok (.bipush 10, 2) := bdX12_alone_0.2.2.2.2.2.2.2.1
theorem dX12_alone_14 : decode cX12_alone 14 = .ok (.invokestatic 95, 3) := bdX12_alone_0.2.2.2.2.2.2.2.2.1
theorem dX12_alone_17 : decode cX12_alone 17 = .ok (.ifCond .eq 36, 3) := bdX12_alone_0.2.2.2.2.2.2.2.2.2.1
theorem dX12_alone_20 : decode cX12_alone 20 = .ok (.iload_n 3, 1) := bdX12_alone_0.2.2.2.2.2.2.2.2.2.2.1
theorem dX12_alone_21 : decode cX12_alone 21 = .ok (.iconst 0, 1) := bdX12_alone_0.2.2.2.2.2.2.2.2.2.2.2.1
theorem dX12_alone_22 : decode cX12_alone 22 = .ok (.iconst 1, 1) := bdX12_alone_0.2.2.2.2.2.2.2.2.2.2.2.2.1
theorem dX12_alone_23 : decode cX12_alone 23 = .ok (.invokestatic 95, 3) := bdX12_alone_0.2.2.2.2.2.2.2.2.2.2.2.2.2.1
theorem dX12_alone_26 : decode cX12_alone 26 = .ok (.ifCond .eq 27, 3) := bdX12_alone_0.2.2.2.2.2.2.2.2.2.2.2.2.2.2.1
theorem dX12_alone_29 : decode cX12_alone 29 = .ok (.iload 4, 2) := bdX12_alone_0.2.2.2.2.2.2.2.2.2.2.2.2.2.2.2
theorem bdX12_alone_31 : (decode cX12_alone 31 = .ok (.iconst 1, 1)) ∧ (decode cX12_alone 32 = .ok (.sipush 999, 3)) ∧ (decode cX12_alone 35 = .ok (.invokestatic 95, 3)) ∧ (decode cX12_alone 38 = .ok (.ifCond .eq 15, 3)) ∧ (decode cX12_alone 41 = .ok (.aload_n 0, 1)) ∧ (decode cX12_alone 42 = .ok (.iload_n 1, 1)) ∧ (decode cX12_alone 43 = .ok (.iload_n 2, 1)) ∧ (decode cX12_alone 44 = .ok (.iload_n 3, 1)) ∧ (decode cX12_alone 45 = .ok (.iload 4, 2)) ∧ (decode cX12_alone 47 = .ok (.invokevirtual 405, 3)) ∧ (decode cX12_alone 50 = .ok (.goto 4, 3)) ∧ (decode cX12_alone 53 = .ok (.iconst (-1), 1)) ∧ (decode cX12_alone 54 = .ok (.ireturn, 1)) := by decide +kernel
theorem dX12_alone_31 : decode cX12_alone 31 = .ok (.iconst 1, 1) := bdX12_alone_31.1
theorem dX12_alone_32 : decode cX12_alone 32 = .ok (.sipush 999, 3) := bdX12_alone_31.2.1
theorem dX12_alone_35 : decode cX12_alone 35 = .ok (.invokestatic 95, 3) := bdX12_alone_31.2.2.1
theorem dX12_alone_38 : decode cX12_alone 38 = .ok (.ifCond .eq 15, 3) := bdX12_alone_31.2.2.2.1
theorem dX12_alone_41 : decode cX12_alone 41 = .ok (.aload_n 0, 1) := bdX12_alone_31.2.2.2.2.1
theorem dX12_alone_42 : decode cX12_alone 42 = .ok (.iload_n 1, 1) := bdX12_alone_31.2.2.2.2.2.1
theorem dX12_alone_43 : decode cX12_alone 43 = .ok (.iload_n 2, 1) := bdX12_alone_31.2.2.2.2.2.2.1
theorem dX12_alone_44 : decode cX12_alone 44 = .ok (.iload_n 3, 1) := bdX12_alone_31.2.2.2.2.2.2.2.1
theorem dX12_alone_45 : decode cX12_alone 45 = .ok (.iload 4, 2) := bdX12_alone_31.2.2.2.2.2.2.2.2.1
theorem dX12_alone_47 : decode cX12_alone 47 = .ok (.invokevirtual 405, 3) := bdX12_alone_31.2.2.2.2.2.2.2.2.2.1
theorem dX12_alone_50 : decode cX12_alone 50 = .ok (.goto 4, 3) := bdX12_alone_31.2.2.2.2.2.2.2.2.2.2.1
theorem dX12_alone_53 : decode cX12_alone 53 = .ok (.iconst (-1), 1) := bdX12_alone_31.2.2.2.2.2.2.2.2.2.2.2.1
theorem dX12_alone_54 : decode cX12_alone 54 = .ok (.ireturn, 1) := bdX12_alone_31.2.2.2.2.2.2.2.2.2.2.2.2
theorem bdX11_crossing_0 : (decode cX11_crossing 0 = .ok (.iload_n 1, 1)) ∧ (decode cX11_crossing 1 = .ok (.iload_n 2, 1)) ∧ (decode cX11_crossing 2 = .ok (.invokestatic 261, 3)) ∧ (decode cX11_crossing 5 = .ok (.ifCond .ne 5, 3)) ∧ (decode cX11_crossing 8 = .ok (.iconst (-1), 1)) ∧ (decode cX11_crossing 9 = .ok (.ireturn, 1)) ∧ (decode cX11_crossing 10 = .ok (.aload_n 0, 1)) ∧ (decode cX11_crossing 11 = .ok (.iload_n 1, 1)) ∧ (decode cX11_crossing 12 = .ok (.iconst 0, 1)) ∧ (decode cX11_crossing 13 = .ok (.iconst 1, 1)) ∧ (decode cX11_crossing 14 = .ok (.iload_n 2, 1)) ∧ (decode cX11_crossing 15 = .ok (.invokevirtual 265, 3)) ∧ (decode cX11_crossing 18 = .ok (.istore_n 3, 1)) ∧ (decode cX11_crossing 19 = .ok (.iconst 0, 1)) ∧ (decode cX11_crossing 20 = .ok (.istore 4, 2)) ∧ (decode cX11_crossing 22 = .ok (.iload 4, 2)) := by decide +kernel
theorem dX11_crossing_0 : decode cX11_crossing 0 = .ok (.iload_n 1, 1) := bdX11_crossing_0.1
theorem dX11_crossing_1 : decode cX11_crossing 1 = .ok (.iload_n 2, 1) := bdX11_crossing_0.2.1
theorem dX11_crossing_2 : decode cX11_crossing 2 = .ok (.invokestatic 261, 3) := bdX11_crossing_0.2.2.1
theorem dX11_crossing_5 : decode cX11_crossing 5 = .ok (.ifCond .ne 5, 3) := bdX11_crossing_0.2.2.2.1
theorem dX11_crossing_8 : decode cX11_crossing 8 = .ok (.iconst (-1), 1) := bdX11_crossing_0.2.2.2.2.1
theorem dX11_crossing_9 : decode cX11_crossing 9 = .ok (.ireturn, 1) := bdX11_crossing_0.2.2.2.2.2.1
theorem dX11_crossing_10 : decode cX11_crossing 10 = .ok (.aload_n 0, 1) := bdX11_crossing_0.2.2.2.2.2.2.1
theorem dX11_crossing_11 : decode cX11_crossing 11 = .ok (.iload_n 1, 1) := bdX11_crossing_0.2.2.2.2.2.2.2.1
theorem dX11_crossing_12 : decode cX11_crossing 12 = .ok (.iconst 0, 1) := bdX11_crossing_0.2.2.2.2.2.2.2.2.1
theorem dX11_crossing_13 : decode cX11_crossing 13 = .ok (.iconst 1, 1) := bdX11_crossing_0.2.2.2.2.2.2.2.2.2.1
theorem dX11_crossing_14 : decode cX11_crossing 14 = .ok (.iload_n 2, 1) := bdX11_crossing_0.2.2.2.2.2.2.2.2.2.2.1
theorem dX11_crossing_15 : decode cX11_crossing 15 = .ok (.invokevirtual 265, 3) := bdX11_crossing_0.2.2.2.2.2.2.2.2.2.2.2.1
theorem dX11_crossing_18 : decode cX11_crossing 18 = .ok (.istore_n 3, 1) := bdX11_crossing_0.2.2.2.2.2.2.2.2.2.2.2.2.1
theorem dX11_crossing_19 : decode cX11_crossing 19 = .ok (.iconst 0, 1) := bdX11_crossing_0.2.2.2.2.2.2.2.2.2.2.2.2.2.1
theorem dX11_crossing_20 : decode cX11_crossing 20 = .ok (.istore 4, 2) := bdX11_crossing_0.2.2.2.2.2.2.2.2.2.2.2.2.2.2.1
theorem dX11_crossing_22 : decode cX11_crossing 22 = .ok (.iload 4, 2) := bdX11_crossing_0.2.2.2.2.2.2.2.2.2.2.2.2.2.2.2
theorem bdX11_crossing_24 : (decode cX11_crossing 24 = .ok (.bipush 10, 2)) ∧ (decode cX11_crossing 26 = .ok (.if_icmp .gt 25, 3)) ∧ (decode cX11_crossing 29 = .ok (.aload_n 0, 1)) ∧ (decode cX11_crossing 30 = .ok (.iload_n 1, 1)) ∧ (decode cX11_crossing 31 = .ok (.iload 4, 2)) ∧ (decode cX11_crossing 33 = .ok (.iconst 0, 1)) ∧ (decode cX11_crossing 34 = .ok (.iload_n 2, 1)) ∧ (decode cX11_crossing 35 = .ok (.invokevirtual 265, 3)) ∧ (decode cX11_crossing 38 = .ok (.iload_n 3, 1)) ∧ (decode cX11_crossing 39 = .ok (.if_icmp .lt 6, 3)) ∧ (decode cX11_crossing 42 = .ok (.iload 4, 2)) ∧ (decode cX11_crossing 44 = .ok (.ireturn, 1)) ∧ (decode cX11_crossing 45 = .ok (.iinc 4 1, 3)) ∧ (decode cX11_crossing 48 = .ok (.goto (-26), 3)) ∧ (decode cX11_crossing 51 = .ok (.iconst (-1), 1)) ∧ (decode cX11_crossing 52 = .ok (.ireturn, 1)) := by decide +kernel
theorem dX11_crossing_24 : decode cX11_crossing 24 = .ok (.bipush 10, 2) := bdX11_crossing_24.1
theorem dX11_crossing_26 : decode cX11_crossing 26 = .ok (.if_icmp .gt 25, 3) := bdX11_crossing_24.2.1
theorem dX11_crossing_29 : decode cX11_crossing 29 = .ok (.aload_n 0, 1) := bdX11_crossing_24.2.2.1
theorem dX11_crossing_30 : decode cX11_crossing 30 = .ok (.iload_n 1, 1) := bdX11_crossing_24.2.2.2.1
theorem dX11_crossing_31 : decode cX11_crossing 31 = .ok (.iload 4, 2) := bdX11_crossing_24.2.2.2.2.1
theorem dX11_crossing_33 : decode cX11_crossing 33 = .ok (.iconst 0, 1) := bdX11_crossing_24.2.2.2.2.2.1
theorem dX11_crossing_34 : decode cX11_crossing 34 = .ok (.iload_n 2, 1) := bdX11_crossing_24.2.2.2.2.2.2.1
theorem dX11_crossing_35 : decode cX11_crossing 35 = .ok (.invokevirtual 265, 3) := bdX11_crossing_24.2.2.2.2.2.2.2.1
theorem dX11_crossing_38 : decode cX11_crossing 38 = .ok (.iload_n 3, 1) := bdX11_crossing_24.2.2.2.2.2.2.2.2.1
theorem dX11_crossing_39 : decode cX11_crossing 39 = .ok (.if_icmp .lt 6, 3) := bdX11_crossing_24.2.2.2.2.2.2.2.2.2.1
theorem dX11_crossing_42 : decode cX11_crossing 42 = .ok (.iload 4, 2) := bdX11_crossing_24.2.2.2.2.2.2.2.2.2.2.1
theorem dX11_crossing_44 : decode cX11_crossing 44 = .ok (.ireturn, 1) := bdX11_crossing_24.2.2.2.2.2.2.2.2.2.2.2.1
theorem dX11_crossing_45 : decode cX11_crossing 45 = .ok (.iinc 4 1, 3) := bdX11_crossing_24.2.2.2.2.2.2.2.2.2.2.2.2.1
theorem dX11_crossing_48 : decode cX11_crossing 48 = .ok (.goto (-26), 3) := bdX11_crossing_24.2.2.2.2.2.2.2.2.2.2.2.2.2.1
theorem dX11_crossing_51 : decode cX11_crossing 51 = .ok (.iconst (-1), 1) := bdX11_crossing_24.2.2.2.2.2.2.2.2.2.2.2.2.2.2.1
theorem dX11_crossing_52 : decode cX11_crossing 52 = .ok (.ireturn, 1) := bdX11_crossing_24.2.2.2.2.2.2.2.2.2.2.2.2.2.2.2
theorem bdX12_crossing_0 : (decode cX12_crossing 0 = .ok (.iload_n 1, 1)) ∧ (decode cX12_crossing 1 = .ok (.iconst 2, 1)) ∧ (decode cX12_crossing 2 = .ok (.bipush 40, 2)) ∧ (decode cX12_crossing 4 = .ok (.invokestatic 95, 3)) ∧ (decode cX12_crossing 7 = .ok (.ifCond .eq 14, 3)) ∧ (decode cX12_crossing 10 = .ok (.iload_n 2, 1)) ∧ (decode cX12_crossing 11 = .ok (.iconst 1, 1)) ∧ (decode cX12_crossing 12 = .ok (.sipush 999, 3)) ∧ (decode cX12_crossing 15 = .ok (.invokestatic 95, 3)) ∧ (decode cX12_crossing 18 = .ok (.ifCond .ne 5, 3)) ∧ (decode cX12_crossing 21 = .ok (.iconst (-1), 1)) ∧ (decode cX12_crossing 22 = .ok (.ireturn, 1)) ∧ (decode cX12_crossing 23 = .ok (.aload_n 0, 1)) ∧ (decode cX12_crossing 24 = .ok (.iload_n 1, 1)) ∧ (decode cX12_crossing 25 = .ok (.iconst 0, 1)) ∧ (decode cX12_crossing 26 = .ok (.iconst 1, 1)) := by decide +kernel
theorem dX12_crossing_0 : decode cX12_crossing 0 = .ok (.iload_n 1, 1) := bdX12_crossing_0.1
theorem dX12_crossing_1 : decode cX12_crossing 1 = .ok (.iconst 2, 1) := bdX12_crossing_0.2.1
theorem dX12_crossing_2 : decode cX12_crossing 2 = .ok (.bipush 40, 2) := bdX12_crossing_0.2.2.1
theorem dX12_crossing_4 : decode cX12_crossing 4 = .ok (.invokestatic 95, 3) := bdX12_crossing_0.2.2.2.1
theorem dX12_crossing_7 : decode cX12_crossing 7 = .ok (.ifCond .eq 14, 3) := bdX12_crossing_0.2.2.2.2.1
theorem dX12_crossing_10 : decode cX12_crossing 10 = .ok (.iload_n 2, 1) := bdX12_crossing_0.2.2.2.2.2.1
theorem dX12_crossing_11 : decode cX12_crossing 11 = .ok (.iconst 1, 1) := bdX12_crossing_0.2.2.2.2.2.2.1
theorem dX12_crossing_12 : decode cX12_crossing 12 = .ok (.sipush 999, 3) := bdX12_crossing_0.2.2.2.2.2.2.2.1
theorem dX12_crossing_15 : decode cX12_crossing 15 = .ok (.invokestatic 95, 3) := bdX12_crossing_0.2.2.2.2.2.2.2.2.1
theorem dX12_crossing_18 : decode cX12_crossing 18 = .ok (.ifCond .ne 5, 3) := bdX12_crossing_0.2.2.2.2.2.2.2.2.2.1
theorem dX12_crossing_21 : decode cX12_crossing 21 = .ok (.iconst (-1), 1) := bdX12_crossing_0.2.2.2.2.2.2.2.2.2.2.1
theorem dX12_crossing_22 : decode cX12_crossing 22 = .ok (.ireturn, 1) := bdX12_crossing_0.2.2.2.2.2.2.2.2.2.2.2.1
theorem dX12_crossing_23 : decode cX12_crossing 23 = .ok (.aload_n 0, 1) := bdX12_crossing_0.2.2.2.2.2.2.2.2.2.2.2.2.1
theorem dX12_crossing_24 : decode cX12_crossing 24 = .ok (.iload_n 1, 1) := bdX12_crossing_0.2.2.2.2.2.2.2.2.2.2.2.2.2.1
theorem dX12_crossing_25 : decode cX12_crossing 25 = .ok (.iconst 0, 1) := bdX12_crossing_0.2.2.2.2.2.2.2.2.2.2.2.2.2.2.1
theorem dX12_crossing_26 : decode cX12_crossing 26 = .ok (.iconst 1, 1) := bdX12_crossing_0.2.2.2.2.2.2.2.2.2.2.2.2.2.2.2
theorem bdX12_crossing_27 : (decode cX12_crossing 27 = .ok (.iload_n 2, 1)) ∧ (decode cX12_crossing 28 = .ok (.invokevirtual 405, 3)) ∧ (decode cX12_crossing 31 = .ok (.istore_n 3, 1)) ∧ (decode cX12_crossing 32 = .ok (.iconst 0, 1)) ∧ (decode cX12_crossing 33 = .ok (.istore 4, 2)) ∧ (decode cX12_crossing 35 = .ok (.iload 4, 2)) ∧ (decode cX12_crossing 37 = .ok (.bipush 11, 2)) ∧ (decode cX12_crossing 39 = .ok (.if_icmp .ge 25, 3)) ∧ (decode cX12_crossing 42 = .ok (.aload_n 0, 1)) ∧ (decode cX12_crossing 43 = .ok (.iload_n 1, 1)) ∧ (decode cX12_crossing 44 = .ok (.iload 4, 2)) ∧ (decode cX12_crossing 46 = .ok (.iconst 0, 1)) ∧ (decode cX12_crossing 47 = .ok (.iload_n 2, 1)) ∧ (decode cX12_crossing 48 = .ok (.invokevirtual 405, 3)) ∧ (decode cX12_crossing 51 = .ok (.iload_n 3, 1)) ∧ (decode cX12_crossing 52 = .ok (.if_icmp .lt 6, 3)) := by decide +kernel
theorem dX12_crossing_27 : decode cX12_crossing 27 = .ok (.iload_n 2, 1) := bdX12_crossing_27.1
theorem dX12_crossing_28 : decode cX12_crossing 28 = .ok (.invokevirtual 405, 3) := bdX12_crossing_27.2.1
theorem dX12_crossing_31 : decode cX12_crossing 31 = .ok (.istore_n 3, 1) := bdX12_crossing_27.2.2.1
theorem dX12_crossing_32 : decode cX12_crossing 32 = .ok (.iconst 0, 1) := bdX12_crossing_27.2.2.2.1
theorem dX12_crossing_33 : decode cX12_crossing 33 = .ok (.istore 4, 2) := bdX12_crossing_27.2.2.2.2.1
theorem dX12_crossing_35 : decode cX12_crossing 35 = .ok (.iload 4, 2) := bdX12_crossing_27.2.2.2.2.2.1
theorem dX12_crossing_37 : decode cX12_crossing 37 = .ok (.bipush 11, 2) := bdX12_crossing_27.2.2.2.2.2.2.1
theorem dX12_crossing_39 : decode cX12_crossing 39 = .ok (.if_icmp .ge 25, 3) := bdX12_crossing_27.2.2.2.2.2.2.2.1
theorem dX12_crossing_42 : decode cX12_crossing 42 = .ok (.aload_n 0, 1) := bdX12_crossing_27.2.2.2.2.2.2.2.2.1
theorem dX12_crossing_43 : decode cX12_crossing 43 = .ok (.iload_n 1, 1) := bdX12_crossing_27.2.2.2.2.2.2.2.2.2.1
theorem dX12_crossing_44 : decode cX12_crossing 44 = .ok (.iload 4, 2) := bdX12_crossing_27.2.2.2.2.2.2.2.2.2.2.1
theorem dX12_crossing_46 : decode cX12_crossing 46 = .ok (.iconst 0, 1) := bdX12_crossing_27.2.2.2.2.2.2.2.2.2.2.2.1
theorem dX12_crossing_47 : decode cX12_crossing 47 = .ok (.iload_n 2, 1) := bdX12_crossing_27.2.2.2.2.2.2.2.2.2.2.2.2.1
theorem dX12_crossing_48 : decode cX12_crossing 48 = .ok (.invokevirtual 405, 3) := bdX12_crossing_27.2.2.2.2.2.2.2.2.2.2.2.2.2.1
theorem dX12_crossing_51 : decode cX12_crossing 51 = .ok (.iload_n 3, 1) := bdX12_crossing_27.2.2.2.2.2.2.2.2.2.2.2.2.2.2.1
theorem dX12_crossing_52 : decode cX12_crossing 52 = .ok (.if_icmp .lt 6, 3) := bdX12_crossing_27.2.2.2.2.2.2.2.2.2.2.2.2.2.2.2
theorem bdX12_crossing_55 : (decode cX12_crossing 55 = .ok (.iload 4, 2)) ∧ (decode cX12_crossing 57 = .ok (.ireturn, 1)) ∧ (decode cX12_crossing 58 = .ok (.iinc 4 1, 3)) ∧ (decode cX12_crossing 61 = .ok (.goto (-26), 3)) ∧ (decode cX12_crossing 64 = .ok (.iconst (-1), 1)) ∧ (decode cX12_crossing 65 = .ok (.ireturn, 1)) := by decide +kernel
theorem dX12_crossing_55 : decode cX12_crossing 55 = .ok (.iload 4, 2) := bdX12_crossing_55.1
theorem dX12_crossing_57 : decode cX12_crossing 57 = .ok (.ireturn, 1) := bdX12_crossing_55.2.1
theorem dX12_crossing_58 : decode cX12_crossing 58 = .ok (.iinc 4 1, 3) := bdX12_crossing_55.2.2.1
theorem dX12_crossing_61 : decode cX12_crossing 61 = .ok (.goto (-26), 3) := bdX12_crossing_55.2.2.2.1
theorem dX12_crossing_64 : decode cX12_crossing 64 = .ok (.iconst (-1), 1) := bdX12_crossing_55.2.2.2.2.1
theorem dX12_crossing_65 : decode cX12_crossing 65 = .ok (.ireturn, 1) := bdX12_crossing_55.2.2.2.2.2
theorem bdX1_tell_0 : (decode cX1_tell 0 = .ok (.iload_n 1, 1)) ∧ (decode cX1_tell 1 = .ok (.ifCond .eq 10, 3)) ∧ (decode cX1_tell 4 = .ok (.bipush 6, 2)) ∧ (decode cX1_tell 6 = .ok (.iload_n 2, 1)) ∧ (decode cX1_tell 7 = .ok (.iadd, 1)) ∧ (decode cX1_tell 8 = .ok (.goto 4, 3)) ∧ (decode cX1_tell 11 = .ok (.iload_n 2, 1)) ∧ (decode cX1_tell 12 = .ok (.istore 4, 2)) ∧ (decode cX1_tell 14 = .ok (.aload_n 0, 1)) ∧ (decode cX1_tell 15 = .ok (.getfield 18, 3)) ∧ (decode cX1_tell 18 = .ok (.bipush 40, 2)) ∧ (decode cX1_tell 20 = .ok (.if_icmp .ge 18, 3)) ∧ (decode cX1_tell 23 = .ok (.iload 4, 2)) ∧ (decode cX1_tell 25 = .ok (.ifCond .lt 13, 3)) ∧ (decode cX1_tell 28 = .ok (.iload 4, 2)) ∧ (decode cX1_tell 30 = .ok (.aload_n 0, 1)) := by decide +kernel
theorem dX1_tell_0 : decode cX1_tell 0 = .ok (.iload_n 1, 1) := bdX1_tell_0.1
theorem dX1_tell_1 : decode cX1_tell 1 = .ok (.ifCond .eq 10, 3) := bdX1_tell_0.2.1
theorem dX1_tell_4 : decode cX1_tell 4 = .ok (.bipush 6, 2) := bdX1_tell_0.2.2.1
theorem dX1_tell_6 : decode cX1_tell 6 = .ok (.iload_n 2, 1) := bdX1_tell_0.2.2.2.1
theorem dX1_tell_7 : decode cX1_tell 7 = .ok (.iadd, 1) := bdX1_tell_0.2.2.2.2.1
theorem dX1_tell_8 : decode cX1_tell 8 = .ok (.goto 4, 3) := bdX1_tell_0.2.2.2.2.2.1
theorem dX1_tell_11 : decode cX1_tell 11 = .ok (.iload_n 2, 1) := bdX1_tell_0.2.2.2.2.2.2.1
theorem dX1_tell_12 : decode cX1_tell 12 = .ok (.istore 4, 2) := bdX1_tell_0.2.2.2.2.2.2.2.1
theorem dX1_tell_14 : decode cX1_tell 14 = .ok (.aload_n 0, 1) := bdX1_tell_0.2.2.2.2.2.2.2.2.1
theorem dX1_tell_15 : decode cX1_tell 15 = .ok (.getfield 18, 3) := bdX1_tell_0.2.2.2.2.2.2.2.2.2.1
theorem dX1_tell_18 : decode cX1_tell 18 = .ok (.bipush 40, 2) := bdX1_tell_0.2.2.2.2.2.2.2.2.2.2.1
theorem dX1_tell_20 : decode cX1_tell 20 = .ok (.if_icmp .ge 18, 3) := bdX1_tell_0.2.2.2.2.2.2.2.2.2.2.2.1
theorem dX1_tell_23 : decode cX1_tell 23 = .ok (.iload 4, 2) := bdX1_tell_0.2.2.2.2.2.2.2.2.2.2.2.2.1
theorem dX1_tell_25 : decode cX1_tell 25 = .ok (.ifCond .lt 13, 3) := bdX1_tell_0.2.2.2.2.2.2.2.2.2.2.2.2.2.1
theorem dX1_tell_28 : decode cX1_tell 28 = .ok (.iload 4, 2) := bdX1_tell_0.2.2.2.2.2.2.2.2.2.2.2.2.2.2.1
theorem dX1_tell_30 : decode cX1_tell 30 = .ok (.aload_n 0, 1) := bdX1_tell_0.2.2.2.2.2.2.2.2.2.2.2.2.2.2.2
theorem bdX1_tell_31 : (decode cX1_tell 31 = .ok (.getfield 11, 3)) ∧ (decode cX1_tell 34 = .ok (.arraylength, 1)) ∧ (decode cX1_tell 35 = .ok (.if_icmp .lt 5, 3)) ∧ (decode cX1_tell 38 = .ok (.iconst (-1), 1)) ∧ (decode cX1_tell 39 = .ok (.ireturn, 1)) ∧ (decode cX1_tell 40 = .ok (.aload_n 0, 1)) ∧ (decode cX1_tell 41 = .ok (.getfield 11, 3)) ∧ (decode cX1_tell 44 = .ok (.iload 4, 2)) ∧ (decode cX1_tell 46 = .ok (.dup2, 1)) ∧ (decode cX1_tell 47 = .ok (.iaload, 1)) ∧ (decode cX1_tell 48 = .ok (.iload_n 3, 1)) ∧ (decode cX1_tell 49 = .ok (.iadd, 1)) ∧ (decode cX1_tell 50 = .ok (.iastore, 1)) ∧ (decode cX1_tell 51 = .ok (.aload_n 0, 1)) ∧ (decode cX1_tell 52 = .ok (.getfield 15, 3)) ∧ (decode cX1_tell 55 = .ok (.iload 4, 2)) := by decide +kernel
theorem dX1_tell_31 : decode cX1_tell 31 = .ok (.getfield 11, 3) := bdX1_tell_31.1
theorem dX1_tell_34 : decode cX1_tell 34 = .ok (.arraylength, 1) := bdX1_tell_31.2.1
theorem dX1_tell_35 : decode cX1_tell 35 = .ok (.if_icmp .lt 5, 3) := bdX1_tell_31.2.2.1
theorem dX1_tell_38 : decode cX1_tell 38 = .ok (.iconst (-1), 1) := bdX1_tell_31.2.2.2.1
theorem dX1_tell_39 : decode cX1_tell 39 = .ok (.ireturn, 1) := bdX1_tell_31.2.2.2.2.1
theorem dX1_tell_40 : decode cX1_tell 40 = .ok (.aload_n 0, 1) := bdX1_tell_31.2.2.2.2.2.1
theorem dX1_tell_41 : decode cX1_tell 41 = .ok (.getfield 11, 3) := bdX1_tell_31.2.2.2.2.2.2.1
theorem dX1_tell_44 : decode cX1_tell 44 = .ok (.iload 4, 2) := bdX1_tell_31.2.2.2.2.2.2.2.1
theorem dX1_tell_46 : decode cX1_tell 46 = .ok (.dup2, 1) := bdX1_tell_31.2.2.2.2.2.2.2.2.1
theorem dX1_tell_47 : decode cX1_tell 47 = .ok (.iaload, 1) := bdX1_tell_31.2.2.2.2.2.2.2.2.2.1
theorem dX1_tell_48 : decode cX1_tell 48 = .ok (.iload_n 3, 1) := bdX1_tell_31.2.2.2.2.2.2.2.2.2.2.1
theorem dX1_tell_49 : decode cX1_tell 49 = .ok (.iadd, 1) := bdX1_tell_31.2.2.2.2.2.2.2.2.2.2.2.1
theorem dX1_tell_50 : decode cX1_tell 50 = .ok (.iastore, 1) := bdX1_tell_31.2.2.2.2.2.2.2.2.2.2.2.2.1
theorem dX1_tell_51 : decode cX1_tell 51 = .ok (.aload_n 0, 1) := bdX1_tell_31.2.2.2.2.2.2.2.2.2.2.2.2.2.1
theorem dX1_tell_52 : decode cX1_tell 52 = .ok (.getfield 15, 3) := bdX1_tell_31.2.2.2.2.2.2.2.2.2.2.2.2.2.2.1
theorem dX1_tell_55 : decode cX1_tell 55 = .ok (.iload 4, 2) := bdX1_tell_31.2.2.2.2.2.2.2.2.2.2.2.2.2.2.2
theorem bdX1_tell_57 : (decode cX1_tell 57 = .ok (.dup2, 1)) ∧ (decode cX1_tell 58 = .ok (.iaload, 1)) ∧ (decode cX1_tell 59 = .ok (.iconst 1, 1)) ∧ (decode cX1_tell 60 = .ok (.iadd, 1)) ∧ (decode cX1_tell 61 = .ok (.iastore, 1)) ∧ (decode cX1_tell 62 = .ok (.aload_n 0, 1)) ∧ (decode cX1_tell 63 = .ok (.dup, 1)) ∧ (decode cX1_tell 64 = .ok (.getfield 18, 3)) ∧ (decode cX1_tell 67 = .ok (.iconst 1, 1)) ∧ (decode cX1_tell 68 = .ok (.iadd, 1)) ∧ (decode cX1_tell 69 = .ok (.putfield 18, 3)) ∧ (decode cX1_tell 72 = .ok (.aload_n 0, 1)) ∧ (decode cX1_tell 73 = .ok (.getfield 18, 3)) ∧ (decode cX1_tell 76 = .ok (.ireturn, 1)) := by decide +kernel
theorem dX1_tell_57 : decode cX1_tell 57 = .ok (.dup2, 1) := bdX1_tell_57.1
theorem dX1_tell_58 : decode cX1_tell 58 = .ok (.iaload, 1) := bdX1_tell_57.2.1
theorem dX1_tell_59 : decode cX1_tell 59 = .ok (.iconst 1, 1) := bdX1_tell_57.2.2.1
theorem dX1_tell_60 : decode cX1_tell 60 = .ok (.iadd, 1) := bdX1_tell_57.2.2.2.1
theorem dX1_tell_61 : decode cX1_tell 61 = .ok (.iastore, 1) := bdX1_tell_57.2.2.2.2.1
theorem dX1_tell_62 : decode cX1_tell 62 = .ok (.aload_n 0, 1) := bdX1_tell_57.2.2.2.2.2.1
theorem dX1_tell_63 : decode cX1_tell 63 = .ok (.dup, 1) := bdX1_tell_57.2.2.2.2.2.2.1
theorem dX1_tell_64 : decode cX1_tell 64 = .ok (.getfield 18, 3) := bdX1_tell_57.2.2.2.2.2.2.2.1
theorem dX1_tell_67 : decode cX1_tell 67 = .ok (.iconst 1, 1) := bdX1_tell_57.2.2.2.2.2.2.2.2.1
theorem dX1_tell_68 : decode cX1_tell 68 = .ok (.iadd, 1) := bdX1_tell_57.2.2.2.2.2.2.2.2.2.1
theorem dX1_tell_69 : decode cX1_tell 69 = .ok (.putfield 18, 3) := bdX1_tell_57.2.2.2.2.2.2.2.2.2.2.1
theorem dX1_tell_72 : decode cX1_tell 72 = .ok (.aload_n 0, 1) := bdX1_tell_57.2.2.2.2.2.2.2.2.2.2.2.1
theorem dX1_tell_73 : decode cX1_tell 73 = .ok (.getfield 18, 3) := bdX1_tell_57.2.2.2.2.2.2.2.2.2.2.2.2.1
theorem dX1_tell_76 : decode cX1_tell 76 = .ok (.ireturn, 1) := bdX1_tell_57.2.2.2.2.2.2.2.2.2.2.2.2.2
theorem bdX11_day_0 : (decode cX11_day 0 = .ok (.iload_n 2, 1)) ∧ (decode cX11_day 1 = .ok (.iconst 0, 1)) ∧ (decode cX11_day 2 = .ok (.iconst 5, 1)) ∧ (decode cX11_day 3 = .ok (.invokestatic 47, 3)) ∧ (decode cX11_day 6 = .ok (.ifCond .eq 14, 3)) ∧ (decode cX11_day 9 = .ok (.iload_n 3, 1)) ∧ (decode cX11_day 10 = .ok (.iconst 0, 1)) ∧ (decode cX11_day 11 = .ok (.sipush 9999, 3)) ∧ (decode cX11_day 14 = .ok (.invokestatic 47, 3)) ∧ (decode cX11_day 17 = .ok (.ifCond .ne 5, 3)) ∧ (decode cX11_day 20 = .ok (.iconst (-1), 1)) ∧ (decode cX11_day 21 = .ok (.ireturn, 1)) ∧ (decode cX11_day 22 = .ok (.aload_n 0, 1)) ∧ (decode cX11_day 23 = .ok (.getfield 10, 3)) ∧ (decode cX11_day 26 = .ok (.getfield 271, 3)) ∧ (decode cX11_day 29 = .ok (.iload_n 1, 1)) := by decide +kernel
theorem dX11_day_0 : decode cX11_day 0 = .ok (.iload_n 2, 1) := bdX11_day_0.1
theorem dX11_day_1 : decode cX11_day 1 = .ok (.iconst 0, 1) := bdX11_day_0.2.1
theorem dX11_day_2 : decode cX11_day 2 = .ok (.iconst 5, 1) := bdX11_day_0.2.2.1
theorem dX11_day_3 : decode cX11_day 3 = .ok (.invokestatic 47, 3) := bdX11_day_0.2.2.2.1
theorem dX11_day_6 : decode cX11_day 6 = .ok (.ifCond .eq 14, 3) := bdX11_day_0.2.2.2.2.1
theorem dX11_day_9 : decode cX11_day 9 = .ok (.iload_n 3, 1) := bdX11_day_0.2.2.2.2.2.1
theorem dX11_day_10 : decode cX11_day 10 = .ok (.iconst 0, 1) := bdX11_day_0.2.2.2.2.2.2.1
theorem dX11_day_11 : decode cX11_day 11 = .ok (.sipush 9999, 3) := bdX11_day_0.2.2.2.2.2.2.2.1
theorem dX11_day_14 : decode cX11_day 14 = .ok (.invokestatic 47, 3) := bdX11_day_0.2.2.2.2.2.2.2.2.1
theorem dX11_day_17 : decode cX11_day 17 = .ok (.ifCond .ne 5, 3) := bdX11_day_0.2.2.2.2.2.2.2.2.2.1
theorem dX11_day_20 : decode cX11_day 20 = .ok (.iconst (-1), 1) := bdX11_day_0.2.2.2.2.2.2.2.2.2.2.1
theorem dX11_day_21 : decode cX11_day 21 = .ok (.ireturn, 1) := bdX11_day_0.2.2.2.2.2.2.2.2.2.2.2.1
theorem dX11_day_22 : decode cX11_day 22 = .ok (.aload_n 0, 1) := bdX11_day_0.2.2.2.2.2.2.2.2.2.2.2.2.1
theorem dX11_day_23 : decode cX11_day 23 = .ok (.getfield 10, 3) := bdX11_day_0.2.2.2.2.2.2.2.2.2.2.2.2.2.1
theorem dX11_day_26 : decode cX11_day 26 = .ok (.getfield 271, 3) := bdX11_day_0.2.2.2.2.2.2.2.2.2.2.2.2.2.2.1
theorem dX11_day_29 : decode cX11_day 29 = .ok (.iload_n 1, 1) := bdX11_day_0.2.2.2.2.2.2.2.2.2.2.2.2.2.2.2
theorem bdX11_day_30 : (decode cX11_day 30 = .ok (.iload_n 2, 1)) ∧ (decode cX11_day 31 = .ok (.iload_n 3, 1)) ∧ (decode cX11_day 32 = .ok (.invokevirtual 275, 3)) ∧ (decode cX11_day 35 = .ok (.ireturn, 1)) := by decide +kernel
theorem dX11_day_30 : decode cX11_day 30 = .ok (.iload_n 2, 1) := bdX11_day_30.1
theorem dX11_day_31 : decode cX11_day 31 = .ok (.iload_n 3, 1) := bdX11_day_30.2.1
theorem dX11_day_32 : decode cX11_day 32 = .ok (.invokevirtual 275, 3) := bdX11_day_30.2.2.1
theorem dX11_day_35 : decode cX11_day 35 = .ok (.ireturn, 1) := bdX11_day_30.2.2.2
def fX9_buildAlone_0 (a0 : Nat) (a1 : Int32) (a2 : Int32) (a3 : Int32) (m : xMem) : Option xMem := xLet (xPut m a0 7 (2 : Int32)) fun m1 => xLet (xPut m1 a0 8 (1 : Int32)) fun m2 => xLet (xPut m2 a0 9 (0 : Int32)) fun m3 => bif xIn (0 : Int32) 6 then xLet (a0 + 15 + 3 * (0 : Int32).toNatClampNeg) fun r5 => (fX2_build r5 (1 : Int32) m3).bind fun p6 => bif xIn (1 : Int32) 6 then xLet (a0 + 15 + 3 * (1 : Int32).toNatClampNeg) fun r8 => (fX2_build r8 (1 : Int32) p6).bind fun p9 => bif xIn (0 : Int32) 10 then xLet (a0 + 33 + 2 * (0 : Int32).toNatClampNeg) fun r11 => (fX3_build r11 (0 : Int32) (0 : Int32) (1 : Int32) a1 (0 : Int32) p9).bind fun p12 => bif xIn (0 : Int32) 10 then xLet (a0 + 33 + 2 * (0 : Int32).toNatClampNeg) fun r14 => xLet (xPut p12 r14 8 a2) fun m15 => (fX9_comeTo a0 (0 : Int32) (1 : Int32) (0 : Int32) a3 m15).bind fun p16 => some p16 else none else none else none else none
set_option maxRecDepth 4000 in
theorem fX9_buildAlone_0_ok {a0 : Nat} {a1 : Int32} {a2 : Int32} {a3 : Int32} {d : Nat} (hd : 2 ≤ d) (ha0 : isStation a0) {m : xMem} {r : xMem} (h : fX9_buildAlone_0 a0 a1 a2 a3 m = some r) : xFx hh_230 cX9_buildAlone d 0 [some (.ref a0), some (.int a1), some (.int a2), some (.int a3)] [] (xLay m) 0 0 none (xLay r) := by
  unfold fX9_buildAlone_0 at h
  refine fx_aload_n dX9_buildAlone_0 rfl rfl ?_
  refine fx_iconst (x := 2) dX9_buildAlone_1 rfl (by decide) ?_
  obtain ⟨m1, hm1, h⟩ := xLet_el h
  refine gx_put dX9_buildAlone_2 rfl fd_9_57 ha0.1 rfl rfl rfl hm1 ?_
  refine fx_aload_n dX9_buildAlone_5 rfl rfl ?_
  refine fx_iconst (x := 1) dX9_buildAlone_6 rfl (by decide) ?_
  obtain ⟨m2, hm2, h⟩ := xLet_el h
  refine gx_put dX9_buildAlone_7 rfl fd_9_60 ha0.1 rfl rfl rfl hm2 ?_
  refine fx_aload_n dX9_buildAlone_10 rfl rfl ?_
  refine fx_iconst (x := 0) dX9_buildAlone_11 rfl (by decide) ?_
  obtain ⟨m3, hm3, h⟩ := xLet_el h
  refine gx_put dX9_buildAlone_12 rfl fd_9_110 ha0.1 rfl rfl rfl hm3 ?_
  refine fx_aload_n dX9_buildAlone_15 rfl rfl ?_
  refine gx_getr dX9_buildAlone_16 rfl fd_9_11 ha0.1 rfl rfl ?_
  refine fx_iconst (x := 0) dX9_buildAlone_19 rfl (by decide) ?_
  obtain ⟨hj4, h⟩ := xChk_el h
  obtain ⟨r5, hr5, h⟩ := xLet_el h
  refine gx_aaload (t := 4) dX9_buildAlone_20 rfl ha0.2.1 rfl hj4 ((xRef_at (sl_9_0 a0) hj4).trans (congrArg some hr5)) ?_
  have hpr5 : isHall r5 := by rw [← hr5]; exact ha0.2.2.2.2.2.2.2.1 _ (xIn_lt hj4)
  refine fx_iconst (x := 1) dX9_buildAlone_21 rfl (by decide) ?_
  obtain ⟨p6, ep6, h⟩ := xBind_el h
  refine gx_callv (as := [.int (1 : Int32)]) (r := []) rfl dX9_buildAlone_22 ca_9_131 rfl me_15 rfl rfl rfl rfl (hpr5.1) rfl (fX2_build_ok (d := d) (by omega) hpr5 ep6) rfl rfl ?_
  refine fx_aload_n dX9_buildAlone_25 rfl rfl ?_
  refine gx_getr dX9_buildAlone_26 rfl fd_9_11 ha0.1 rfl rfl ?_
  refine fx_iconst (x := 1) dX9_buildAlone_29 rfl (by decide) ?_
  obtain ⟨hj7, h⟩ := xChk_el h
  obtain ⟨r8, hr8, h⟩ := xLet_el h
  refine gx_aaload (t := 4) dX9_buildAlone_30 rfl ha0.2.1 rfl hj7 ((xRef_at (sl_9_0 a0) hj7).trans (congrArg some hr8)) ?_
  have hpr8 : isHall r8 := by rw [← hr8]; exact ha0.2.2.2.2.2.2.2.1 _ (xIn_lt hj7)
  refine fx_iconst (x := 1) dX9_buildAlone_31 rfl (by decide) ?_
  obtain ⟨p9, ep9, h⟩ := xBind_el h
  refine gx_callv (as := [.int (1 : Int32)]) (r := []) rfl dX9_buildAlone_32 ca_9_131 rfl me_15 rfl rfl rfl rfl (hpr8.1) rfl (fX2_build_ok (d := d) (by omega) hpr8 ep9) rfl rfl ?_
  refine fx_aload_n dX9_buildAlone_35 rfl rfl ?_
  refine gx_getr dX9_buildAlone_36 rfl fd_9_19 ha0.1 rfl rfl ?_
  refine fx_iconst (x := 0) dX9_buildAlone_39 rfl (by decide) ?_
  obtain ⟨hj10, h⟩ := xChk_el h
  obtain ⟨r11, hr11, h⟩ := xLet_el h
  refine gx_aaload (t := 5) dX9_buildAlone_40 rfl ha0.2.2.1 rfl hj10 ((xRef_at (sl_9_1 a0) hj10).trans (congrArg some hr11)) ?_
  have hpr11 : isLink r11 := by rw [← hr11]; exact ha0.2.2.2.2.2.2.2.2.1 _ (xIn_lt hj10)
  refine fx_iconst (x := 0) dX9_buildAlone_41 rfl (by decide) ?_
  refine fx_iconst (x := 0) dX9_buildAlone_42 rfl (by decide) ?_
  refine fx_iconst (x := 1) dX9_buildAlone_43 rfl (by decide) ?_
  refine fx_iload_n dX9_buildAlone_44 rfl rfl ?_
  refine fx_iconst (x := 0) dX9_buildAlone_45 rfl (by decide) ?_
  obtain ⟨p12, ep12, h⟩ := xBind_el h
  refine gx_callv (as := [.int (0 : Int32), .int (0 : Int32), .int (1 : Int32), .int a1, .int (0 : Int32)]) (r := []) rfl dX9_buildAlone_46 ca_9_135 rfl me_24 rfl rfl rfl rfl (hpr11.1) rfl (fX3_build_ok (d := d) (by omega) hpr11 ep12) rfl rfl ?_
  refine fx_aload_n dX9_buildAlone_49 rfl rfl ?_
  refine gx_getr dX9_buildAlone_50 rfl fd_9_19 ha0.1 rfl rfl ?_
  refine fx_iconst (x := 0) dX9_buildAlone_53 rfl (by decide) ?_
  obtain ⟨hj13, h⟩ := xChk_el h
  obtain ⟨r14, hr14, h⟩ := xLet_el h
  refine gx_aaload (t := 5) dX9_buildAlone_54 rfl ha0.2.2.1 rfl hj13 ((xRef_at (sl_9_1 a0) hj13).trans (congrArg some hr14)) ?_
  have hpr14 : isLink r14 := by rw [← hr14]; exact ha0.2.2.2.2.2.2.2.2.1 _ (xIn_lt hj13)
  refine fx_iload_n dX9_buildAlone_55 rfl rfl ?_
  obtain ⟨m15, hm15, h⟩ := xLet_el h
  refine gx_put dX9_buildAlone_56 rfl fd_9_138 hpr14.1 rfl rfl rfl hm15 ?_
  refine fx_aload_n dX9_buildAlone_59 rfl rfl ?_
  refine fx_iconst (x := 0) dX9_buildAlone_60 rfl (by decide) ?_
  refine fx_iconst (x := 1) dX9_buildAlone_61 rfl (by decide) ?_
  refine fx_iconst (x := 0) dX9_buildAlone_62 rfl (by decide) ?_
  refine fx_iload_n dX9_buildAlone_63 rfl rfl ?_
  obtain ⟨p16, ep16, h⟩ := xBind_el h
  refine gx_callv (as := [.int (0 : Int32), .int (1 : Int32), .int (0 : Int32), .int a3]) (r := []) rfl dX9_buildAlone_64 ca_9_141 rfl me_123 rfl rfl rfl rfl (ha0.1) rfl (fX9_comeTo_ok (d := d) (by omega) ha0 ep16) rfl rfl ?_
  cases h
  exact fx_return dX9_buildAlone_67 rfl rfl
def fX9_buildAlone (a0 : Nat) (a1 : Int32) (a2 : Int32) (a3 : Int32) (m : xMem) : Option xMem := fX9_buildAlone_0 a0 a1 a2 a3  m
theorem fX9_buildAlone_ok {a0 : Nat} {a1 : Int32} {a2 : Int32} {a3 : Int32} {m : xMem} {r : xMem} {d : Nat} (hd : 3 ≤ d) (ha0 : isStation a0) (h : fX9_buildAlone a0 a1 a2 a3 m = some r) : xEx d 230 [.ref a0, .int a1, .int a2, .int a3] (xLay m) none (xLay r) := by
  obtain ⟨d, rfl⟩ : ∃ q, d = q + 1 := ⟨d - 1, by omega⟩
  exact xEx_of me_230 rfl (fX9_buildAlone_0_ok (d := d) (by omega) ha0 h)
def fX11_carriedAlone_48 (a0 : Nat) (a1 : Int32) (a2 : Int32) (a3 : Int32) (a4 : Int32) : Nat → Nat → Int32 → xMem → Option (Int32 × xMem)
  | 0, _, _, _ => none
  | fuel + 1, l5, l6, m => if a4 ≤ l6 then xLet (m.1 l5 11) fun x2 => some (x2, m) else (fX6_moveStair (a0 + 250) (a0 + 167) l5 m).bind fun p3 => (fX6_takeUpToTwo (a0 + 250) (a0 + 167) (0 : Int32) a2 p3).bind fun p4 => xLet (l6 + (1 : Int32)) fun x5 => fX11_carriedAlone_48 a0 a1 a2 a3 a4 fuel l5 x5 p4
set_option maxRecDepth 4000 in
theorem fX11_carriedAlone_48_ok {a0 : Nat} {a1 : Int32} {a2 : Int32} {a3 : Int32} {a4 : Int32} {d : Nat} (hd : 5 ≤ d) (ha0 : isMS a0) : ∀ (fuel : Nat) (l5 : Nat) (l6 : Int32) (m : xMem) (r : (Int32 × xMem)) (hl5 : isLink l5), fX11_carriedAlone_48 a0 a1 a2 a3 a4 fuel l5 l6 m = some r → xFx hh_229 cX11_carriedAlone d 48 [some (.ref a0), some (.int a1), some (.int a2), some (.int a3), some (.int a4), some (.ref l5), some (.int l6)] [] (xLay m) 0 0 (some (.int r.1)) (xLay r.2) := by
  intro fuel
  induction fuel with
  | zero => intro l5 l6  m r hl5 h; cases h
  | succ fuel ih =>
    intro l5 l6  m r hl5 h
    unfold fX11_carriedAlone_48 at h
    refine fx_iload dX11_carriedAlone_48 rfl rfl ?_
    refine fx_iload dX11_carriedAlone_50 rfl rfl ?_
    refine fx_icmp_ge (t := 87) dX11_carriedAlone_52 rfl rfl (fun hc1 => ?_) (fun hc1 => ?_)
    · rw [if_pos hc1] at h
      refine fx_aload dX11_carriedAlone_87 rfl rfl ?_
      obtain ⟨x2, hx2, h⟩ := xLet_el h
      refine gx_get dX11_carriedAlone_89 rfl fd_11_203 hl5.1 rfl rfl hx2 ?_
      cases h
      exact fx_ireturn dX11_carriedAlone_92 rfl rfl
    · rw [if_neg hc1] at h
      refine fx_aload_n dX11_carriedAlone_55 rfl rfl ?_
      refine gx_getr dX11_carriedAlone_56 rfl fd_11_25 ha0.1 rfl rfl ?_
      refine fx_aload_n dX11_carriedAlone_59 rfl rfl ?_
      refine gx_getr dX11_carriedAlone_60 rfl fd_11_19 ha0.1 rfl rfl ?_
      refine fx_aload dX11_carriedAlone_63 rfl rfl ?_
      obtain ⟨p3, ep3, h⟩ := xBind_el h
      refine gx_callv (as := [.ref (a0 + 167), .ref l5]) (r := []) rfl dX11_carriedAlone_65 ca_11_333 rfl me_150 rfl rfl rfl rfl (ha0.2.2.2.2.1.1) rfl (fX6_moveStair_ok (d := d) (by omega) ha0.2.2.2.2.1 ha0.2.2.2.1 hl5 ep3) rfl rfl ?_
      refine fx_aload_n dX11_carriedAlone_68 rfl rfl ?_
      refine gx_getr dX11_carriedAlone_69 rfl fd_11_25 ha0.1 rfl rfl ?_
      refine fx_aload_n dX11_carriedAlone_72 rfl rfl ?_
      refine gx_getr dX11_carriedAlone_73 rfl fd_11_19 ha0.1 rfl rfl ?_
      refine fx_iconst (x := 0) dX11_carriedAlone_76 rfl (by decide) ?_
      refine fx_iload_n dX11_carriedAlone_77 rfl rfl ?_
      obtain ⟨p4, ep4, h⟩ := xBind_el h
      refine gx_callv (as := [.ref (a0 + 167), .int (0 : Int32), .int a2]) (r := []) rfl dX11_carriedAlone_78 ca_11_337 rfl me_158 rfl rfl rfl rfl (ha0.2.2.2.2.1.1) rfl (fX6_takeUpToTwo_ok (d := d) (by omega) ha0.2.2.2.2.1 ha0.2.2.2.1 ep4) rfl rfl ?_
      obtain ⟨x5, hx5, h⟩ := xLet_el h
      refine fx_iinc (ls2 := [some (.ref a0), some (.int a1), some (.int a2), some (.int a3), some (.int a4), some (.ref l5), some (.int x5)]) dX11_carriedAlone_81 rfl rfl rfl hx5 rfl ?_
      refine fx_goto (t := 48) dX11_carriedAlone_84 rfl rfl ?_
      exact ih l5 x5 p4 r hl5 h
def fX11_carriedAlone_0 (a0 : Nat) (a1 : Int32) (a2 : Int32) (a3 : Int32) (a4 : Int32) (m : xMem) : Option (Int32 × xMem) := xLet ((2 : Int32) * a4) fun x1 => (fX9_buildAlone (a0 + 167) a1 a3 x1 m).bind fun p2 => (fX6_forgetRoutes (a0 + 250) p2).bind fun p3 => (fX8_find (a0 + 250 + 1) (a0 + 167) p3).bind fun p4 => bif xIn (0 : Int32) 10 then xLet (a0 + 167 + 33 + 2 * (0 : Int32).toNatClampNeg) fun r6 => fX11_carriedAlone_48 a0 a1 a2 a3 a4 xFuel r6 (0 : Int32) p4 else none
set_option maxRecDepth 4000 in
theorem fX11_carriedAlone_0_ok {a0 : Nat} {a1 : Int32} {a2 : Int32} {a3 : Int32} {a4 : Int32} {d : Nat} (hd : 5 ≤ d) (ha0 : isMS a0) {o5 : Option Value} {o6 : Option Value} {m : xMem} {r : (Int32 × xMem)} (q5 : xNoD o5 = true) (q6 : xNoD o6 = true) (h : fX11_carriedAlone_0 a0 a1 a2 a3 a4 m = some r) : xFx hh_229 cX11_carriedAlone d 0 [some (.ref a0), some (.int a1), some (.int a2), some (.int a3), some (.int a4), o5, o6] [] (xLay m) 0 0 (some (.int r.1)) (xLay r.2) := by
  unfold fX11_carriedAlone_0 at h
  refine fx_aload_n dX11_carriedAlone_0 rfl rfl ?_
  refine gx_getr dX11_carriedAlone_1 rfl fd_11_19 ha0.1 rfl rfl ?_
  refine fx_iload_n dX11_carriedAlone_4 rfl rfl ?_
  refine fx_iload_n dX11_carriedAlone_5 rfl rfl ?_
  refine fx_iconst (x := 2) dX11_carriedAlone_6 rfl (by decide) ?_
  refine fx_iload dX11_carriedAlone_7 rfl rfl ?_
  obtain ⟨x1, hx1, h⟩ := xLet_el h
  refine fx_imul dX11_carriedAlone_9 rfl hx1 ?_
  obtain ⟨p2, ep2, h⟩ := xBind_el h
  refine gx_callv (as := [.int a1, .int a3, .int x1]) (r := []) rfl dX11_carriedAlone_10 ca_11_329 rfl me_230 rfl rfl rfl rfl (ha0.2.2.2.1.1) rfl (fX9_buildAlone_ok (d := d) (by omega) ha0.2.2.2.1 ep2) rfl rfl ?_
  refine fx_aload_n dX11_carriedAlone_13 rfl rfl ?_
  refine gx_getr dX11_carriedAlone_14 rfl fd_11_25 ha0.1 rfl rfl ?_
  obtain ⟨p3, ep3, h⟩ := xBind_el h
  refine gx_callv (as := []) (r := []) rfl dX11_carriedAlone_17 ca_11_166 rfl me_118 rfl rfl rfl rfl (ha0.2.2.2.2.1.1) rfl (fX6_forgetRoutes_ok (d := d) (by omega) ha0.2.2.2.2.1 ep3) rfl rfl ?_
  refine fx_aload_n dX11_carriedAlone_20 rfl rfl ?_
  refine gx_getr dX11_carriedAlone_21 rfl fd_11_25 ha0.1 rfl rfl ?_
  refine gx_getr dX11_carriedAlone_24 rfl fd_11_211 ha0.2.2.2.2.1.1 rfl rfl ?_
  refine fx_aload_n dX11_carriedAlone_27 rfl rfl ?_
  refine gx_getr dX11_carriedAlone_28 rfl fd_11_19 ha0.1 rfl rfl ?_
  obtain ⟨p4, ep4, h⟩ := xBind_el h
  refine gx_callv (as := [.ref (a0 + 167)]) (r := []) rfl dX11_carriedAlone_31 ca_11_215 rfl me_133 rfl rfl rfl rfl (ha0.2.2.2.2.1.2.1.1) rfl (fX8_find_ok (d := d) (by omega) ha0.2.2.2.2.1.2.1 ha0.2.2.2.1 ep4) rfl rfl ?_
  refine fx_aload_n dX11_carriedAlone_34 rfl rfl ?_
  refine gx_getr dX11_carriedAlone_35 rfl fd_11_19 ha0.1 rfl rfl ?_
  refine gx_getr dX11_carriedAlone_38 rfl fd_11_75 ha0.2.2.2.1.1 rfl rfl ?_
  refine fx_iconst (x := 0) dX11_carriedAlone_41 rfl (by decide) ?_
  obtain ⟨hj5, h⟩ := xChk_el h
  obtain ⟨r6, hr6, h⟩ := xLet_el h
  refine gx_aaload (t := 5) dX11_carriedAlone_42 rfl ha0.2.2.2.1.2.2.1 rfl hj5 ((xRef_at (sl_9_1 (a0 + 167)) hj5).trans (congrArg some hr6)) ?_
  have hpr6 : isLink r6 := by rw [← hr6]; exact ha0.2.2.2.1.2.2.2.2.2.2.2.2.1 _ (xIn_lt hj5)
  refine fx_astore (ls2 := [some (.ref a0), some (.int a1), some (.int a2), some (.int a3), some (.int a4), some (.ref r6), o6]) dX11_carriedAlone_43 rfl rfl rfl ?_
  refine fx_iconst (x := 0) dX11_carriedAlone_45 rfl (by decide) ?_
  refine fx_istore (ls2 := [some (.ref a0), some (.int a1), some (.int a2), some (.int a3), some (.int a4), some (.ref r6), some (.int (0 : Int32))]) dX11_carriedAlone_46 rfl rfl rfl ?_
  exact fX11_carriedAlone_48_ok hd ha0 xFuel r6 (0 : Int32) p4 r hpr6 h
def fX11_carriedAlone (a0 : Nat) (a1 : Int32) (a2 : Int32) (a3 : Int32) (a4 : Int32) (m : xMem) : Option (Int32 × xMem) := fX11_carriedAlone_0 a0 a1 a2 a3 a4  m
theorem fX11_carriedAlone_ok {a0 : Nat} {a1 : Int32} {a2 : Int32} {a3 : Int32} {a4 : Int32} {m : xMem} {r : (Int32 × xMem)} {d : Nat} (hd : 6 ≤ d) (ha0 : isMS a0) (h : fX11_carriedAlone a0 a1 a2 a3 a4 m = some r) : xEx d 229 [.ref a0, .int a1, .int a2, .int a3, .int a4] (xLay m) (some (.int r.1)) (xLay r.2) := by
  obtain ⟨d, rfl⟩ : ∃ q, d = q + 1 := ⟨d - 1, by omega⟩
  exact xEx_of me_229 rfl (fX11_carriedAlone_0_ok (d := d) (o5 := none) (o6 := none) (by omega) ha0 rfl rfl h)
def fX11_alone_28 (a0 : Nat) (a1 : Int32) (a2 : Int32) (a3 : Int32) (a4 : Int32) (m : xMem) : Option (Int32 × xMem) := some ((-1 : Int32), m)
set_option maxRecDepth 4000 in
theorem fX11_alone_28_ok {a0 : Nat} {a1 : Int32} {a2 : Int32} {a3 : Int32} {a4 : Int32} {d : Nat} (hd : 6 ≤ d) (ha0 : isMS a0) {m : xMem} {r : (Int32 × xMem)} (h : fX11_alone_28 a0 a1 a2 a3 a4 m = some r) : xFx hh_227 cX11_alone d 28 [some (.ref a0), some (.int a1), some (.int a2), some (.int a3), some (.int a4)] [] (xLay m) 0 0 (some (.int r.1)) (xLay r.2) := by
  unfold fX11_alone_28 at h
  refine fx_iconst (x := -1) dX11_alone_28 rfl (by decide) ?_
  cases h
  exact fx_ireturn dX11_alone_29 rfl rfl
def fX11_alone_0 (a0 : Nat) (a1 : Int32) (a2 : Int32) (a3 : Int32) (a4 : Int32) (m : xMem) : Option (Int32 × xMem) := (fX11_within a2 (0 : Int32) (10 : Int32) m).bind fun p1 => if p1.1 = (0 : Int32) then fX11_alone_28 a0 a1 a2 a3 a4 p1.2 else (fX11_within a3 (0 : Int32) (1 : Int32) p1.2).bind fun p3 => if p3.1 = (0 : Int32) then fX11_alone_28 a0 a1 a2 a3 a4 p3.2 else (fX11_mayStandAlone a1 a4 p3.2).bind fun p5 => if ¬ p5.1 = (0 : Int32) then (fX11_carriedAlone a0 a1 a2 a3 a4 p5.2).bind fun p7 => some (p7.1, p7.2) else fX11_alone_28 a0 a1 a2 a3 a4 p5.2
set_option maxRecDepth 4000 in
theorem fX11_alone_0_ok {a0 : Nat} {a1 : Int32} {a2 : Int32} {a3 : Int32} {a4 : Int32} {d : Nat} (hd : 6 ≤ d) (ha0 : isMS a0) {m : xMem} {r : (Int32 × xMem)} (h : fX11_alone_0 a0 a1 a2 a3 a4 m = some r) : xFx hh_227 cX11_alone d 0 [some (.ref a0), some (.int a1), some (.int a2), some (.int a3), some (.int a4)] [] (xLay m) 0 0 (some (.int r.1)) (xLay r.2) := by
  unfold fX11_alone_0 at h
  refine fx_iload_n dX11_alone_0 rfl rfl ?_
  refine fx_iconst (x := 0) dX11_alone_1 rfl (by decide) ?_
  refine fx_bipush (x := 10) dX11_alone_2 rfl (by decide) ?_
  obtain ⟨p1, ep1, h⟩ := xBind_el h
  refine gx_calls (as := [.int a2, .int (0 : Int32), .int (10 : Int32)]) (r := []) rfl dX11_alone_4 ca_11_47 rfl me_14 rfl rfl rfl rfl (fX11_within_ok (d := d) (by omega) ep1) rfl rfl ?_
  refine fx_if_eq (t := 28) dX11_alone_7 rfl rfl (fun hc2 => ?_) (fun hc2 => ?_)
  · rw [if_pos hc2] at h
    exact fX11_alone_28_ok hd ha0 h
  · rw [if_neg hc2] at h
    refine fx_iload_n dX11_alone_10 rfl rfl ?_
    refine fx_iconst (x := 0) dX11_alone_11 rfl (by decide) ?_
    refine fx_iconst (x := 1) dX11_alone_12 rfl (by decide) ?_
    obtain ⟨p3, ep3, h⟩ := xBind_el h
    refine gx_calls (as := [.int a3, .int (0 : Int32), .int (1 : Int32)]) (r := []) rfl dX11_alone_13 ca_11_47 rfl me_14 rfl rfl rfl rfl (fX11_within_ok (d := d) (by omega) ep3) rfl rfl ?_
    refine fx_if_eq (t := 28) dX11_alone_16 rfl rfl (fun hc4 => ?_) (fun hc4 => ?_)
    · rw [if_pos hc4] at h
      exact fX11_alone_28_ok hd ha0 h
    · rw [if_neg hc4] at h
      refine fx_iload_n dX11_alone_19 rfl rfl ?_
      refine fx_iload dX11_alone_20 rfl rfl ?_
      obtain ⟨p5, ep5, h⟩ := xBind_el h
      refine gx_calls (as := [.int a1, .int a4]) (r := []) rfl dX11_alone_22 ca_11_261 rfl me_228 rfl rfl rfl rfl (fX11_mayStandAlone_ok (d := d) (by omega) ep5) rfl rfl ?_
      refine fx_if_ne (t := 30) dX11_alone_25 rfl rfl (fun hc6 => ?_) (fun hc6 => ?_)
      · rw [if_pos hc6] at h
        refine fx_aload_n dX11_alone_30 rfl rfl ?_
        refine fx_iload_n dX11_alone_31 rfl rfl ?_
        refine fx_iload_n dX11_alone_32 rfl rfl ?_
        refine fx_iload_n dX11_alone_33 rfl rfl ?_
        refine fx_iload dX11_alone_34 rfl rfl ?_
        obtain ⟨p7, ep7, h⟩ := xBind_el h
        refine gx_callv (as := [.int a1, .int a2, .int a3, .int a4]) (r := []) rfl dX11_alone_36 ca_11_265 rfl me_229 rfl rfl rfl rfl (ha0.1) rfl (fX11_carriedAlone_ok (d := d) (by omega) ha0 ep7) rfl rfl ?_
        cases h
        exact fx_ireturn dX11_alone_39 rfl rfl
      · rw [if_neg hc6] at h
        exact fX11_alone_28_ok hd ha0 h
def fX11_alone (a0 : Nat) (a1 : Int32) (a2 : Int32) (a3 : Int32) (a4 : Int32) (m : xMem) : Option (Int32 × xMem) := fX11_alone_0 a0 a1 a2 a3 a4  m
theorem fX11_alone_ok {a0 : Nat} {a1 : Int32} {a2 : Int32} {a3 : Int32} {a4 : Int32} {m : xMem} {r : (Int32 × xMem)} {d : Nat} (hd : 7 ≤ d) (ha0 : isMS a0) (h : fX11_alone a0 a1 a2 a3 a4 m = some r) : xEx d 227 [.ref a0, .int a1, .int a2, .int a3, .int a4] (xLay m) (some (.int r.1)) (xLay r.2) := by
  obtain ⟨d, rfl⟩ : ∃ q, d = q + 1 := ⟨d - 1, by omega⟩
  exact xEx_of me_227 rfl (fX11_alone_0_ok (d := d) (by omega) ha0 h)
def fX12_loneMoves_101 (a0 : Nat) (a1 : Int32) (a2 : Int32) (rec7 : Int32 → Int32 → xMem → Option (Int32 × xMem)) (l3 : Int32) (l4 : Int32) (m : xMem) : Option (Int32 × xMem) := xLet (l4 + (-1 : Int32)) fun x1 => rec7 l3 x1 m
set_option maxRecDepth 4000 in
theorem fX12_loneMoves_101_ok {a0 : Nat} {a1 : Int32} {a2 : Int32} {rec7 : Int32 → Int32 → xMem → Option (Int32 × xMem)} {d : Nat} (hd : 0 ≤ d) (ha0 : isModel a0) (hrec7 : ∀ (l3 : Int32) (l4 : Int32) (o5 : Option Value) (o6 : Option Value) (o7 : Option Value) (q5 : xNoD o5 = true) (q6 : xNoD o6 = true) (q7 : xNoD o7 = true) (m : xMem) (r : (Int32 × xMem)), rec7 l3 l4 m = some r → xFx hh_233 cX12_loneMoves d 7 [some (.ref a0), some (.int a1), some (.int a2), some (.int l3), some (.int l4), o5, o6, o7] [] (xLay m) 0 0 (some (.int r.1)) (xLay r.2)) {l3 : Int32} {l4 : Int32} {o5 : Option Value} {o6 : Option Value} {o7 : Option Value} {m : xMem} {r : (Int32 × xMem)} (q5 : xNoD o5 = true) (q6 : xNoD o6 = true) (q7 : xNoD o7 = true) (h : fX12_loneMoves_101 a0 a1 a2 rec7 l3 l4 m = some r) : xFx hh_233 cX12_loneMoves d 101 [some (.ref a0), some (.int a1), some (.int a2), some (.int l3), some (.int l4), o5, o6, o7] [] (xLay m) 0 0 (some (.int r.1)) (xLay r.2) := by
  unfold fX12_loneMoves_101 at h
  obtain ⟨x1, hx1, h⟩ := xLet_el h
  refine fx_iinc (ls2 := [some (.ref a0), some (.int a1), some (.int a2), some (.int l3), some (.int x1), o5, o6, o7]) dX12_loneMoves_101 rfl rfl rfl hx1 rfl ?_
  refine fx_goto (t := 7) dX12_loneMoves_104 rfl rfl ?_
  exact hrec7 l3 x1 (o5) (o6) (o7) q5 q6 q7 m r h
def fX12_loneMoves_87 (a0 : Nat) (a1 : Int32) (a2 : Int32) (rec7 : Int32 → Int32 → xMem → Option (Int32 × xMem)) (l3 : Int32) (l4 : Int32) (l5 : Int32) (l6 : Int32) (s0 : Int32) (m : xMem) : Option (Int32 × xMem) := xLet (l5 + s0) fun x1 => bif xIn x1 80 then xLet (xPut m (a0 + 23) x1.toNatClampNeg l6) fun m2 => fX12_loneMoves_101 a0 a1 a2 rec7 l3 l4 m2 else none
set_option maxRecDepth 4000 in
theorem fX12_loneMoves_87_ok {a0 : Nat} {a1 : Int32} {a2 : Int32} {rec7 : Int32 → Int32 → xMem → Option (Int32 × xMem)} {d : Nat} (hd : 0 ≤ d) (ha0 : isModel a0) (hrec7 : ∀ (l3 : Int32) (l4 : Int32) (o5 : Option Value) (o6 : Option Value) (o7 : Option Value) (q5 : xNoD o5 = true) (q6 : xNoD o6 = true) (q7 : xNoD o7 = true) (m : xMem) (r : (Int32 × xMem)), rec7 l3 l4 m = some r → xFx hh_233 cX12_loneMoves d 7 [some (.ref a0), some (.int a1), some (.int a2), some (.int l3), some (.int l4), o5, o6, o7] [] (xLay m) 0 0 (some (.int r.1)) (xLay r.2)) {l3 : Int32} {l4 : Int32} {l5 : Int32} {l6 : Int32} {s0 : Int32} {o7 : Option Value} {m : xMem} {r : (Int32 × xMem)} (q7 : xNoD o7 = true) (h : fX12_loneMoves_87 a0 a1 a2 rec7 l3 l4 l5 l6 s0 m = some r) : xFx hh_233 cX12_loneMoves d 87 [some (.ref a0), some (.int a1), some (.int a2), some (.int l3), some (.int l4), some (.int l5), some (.int l6), o7] [.int s0] (xLay m) 0 0 (some (.int r.1)) (xLay r.2) := by
  unfold fX12_loneMoves_87 at h
  refine fx_istore (ls2 := [some (.ref a0), some (.int a1), some (.int a2), some (.int l3), some (.int l4), some (.int l5), some (.int l6), some (.int s0)]) dX12_loneMoves_87 rfl rfl rfl ?_
  refine fx_aload_n dX12_loneMoves_89 rfl rfl ?_
  refine gx_getr dX12_loneMoves_90 rfl fd_12_86 ha0.1 rfl rfl ?_
  refine fx_iload dX12_loneMoves_93 rfl rfl ?_
  refine fx_iload dX12_loneMoves_95 rfl rfl ?_
  obtain ⟨x1, hx1, h⟩ := xLet_el h
  refine fx_iadd dX12_loneMoves_97 rfl hx1 ?_
  refine fx_iload dX12_loneMoves_98 rfl rfl ?_
  obtain ⟨hj3, h⟩ := xChk_el h
  obtain ⟨m2, hm2, h⟩ := xLet_el h
  refine gx_iastore dX12_loneMoves_100 rfl ha0.2.2.2.2.2.2.2.2.2.2.2.2.2.2.2.2.2.2.2.2.2.2.2.1 hj3 hm2 ?_
  exact fX12_loneMoves_101_ok (o5 := some (.int l5)) (o6 := some (.int l6)) (o7 := some (.int s0)) hd ha0 hrec7 rfl rfl rfl h
def fX12_loneMoves_85 (a0 : Nat) (a1 : Int32) (a2 : Int32) (rec7 : Int32 → Int32 → xMem → Option (Int32 × xMem)) (l3 : Int32) (l4 : Int32) (l5 : Int32) (l6 : Int32) (m : xMem) : Option (Int32 × xMem) := fX12_loneMoves_87 a0 a1 a2 rec7 l3 l4 l5 l6 l6 m
set_option maxRecDepth 4000 in
theorem fX12_loneMoves_85_ok {a0 : Nat} {a1 : Int32} {a2 : Int32} {rec7 : Int32 → Int32 → xMem → Option (Int32 × xMem)} {d : Nat} (hd : 0 ≤ d) (ha0 : isModel a0) (hrec7 : ∀ (l3 : Int32) (l4 : Int32) (o5 : Option Value) (o6 : Option Value) (o7 : Option Value) (q5 : xNoD o5 = true) (q6 : xNoD o6 = true) (q7 : xNoD o7 = true) (m : xMem) (r : (Int32 × xMem)), rec7 l3 l4 m = some r → xFx hh_233 cX12_loneMoves d 7 [some (.ref a0), some (.int a1), some (.int a2), some (.int l3), some (.int l4), o5, o6, o7] [] (xLay m) 0 0 (some (.int r.1)) (xLay r.2)) {l3 : Int32} {l4 : Int32} {l5 : Int32} {l6 : Int32} {o7 : Option Value} {m : xMem} {r : (Int32 × xMem)} (q7 : xNoD o7 = true) (h : fX12_loneMoves_85 a0 a1 a2 rec7 l3 l4 l5 l6 m = some r) : xFx hh_233 cX12_loneMoves d 85 [some (.ref a0), some (.int a1), some (.int a2), some (.int l3), some (.int l4), some (.int l5), some (.int l6), o7] [] (xLay m) 0 0 (some (.int r.1)) (xLay r.2) := by
  unfold fX12_loneMoves_85 at h
  refine fx_iload dX12_loneMoves_85 rfl rfl ?_
  exact fX12_loneMoves_87_ok (o7 := o7) hd ha0 hrec7 q7 h
def fX12_loneMoves_58 (a0 : Nat) (a1 : Int32) (a2 : Int32) (rec7 : Int32 → Int32 → xMem → Option (Int32 × xMem)) (l3 : Int32) (l4 : Int32) (l5 : Int32) (l6 : Int32) (m : xMem) : Option (Int32 × xMem) := if l6 ≤ (0 : Int32) then fX12_loneMoves_101 a0 a1 a2 rec7 l3 l4 m else if ¬ l6 = (2 : Int32) then fX12_loneMoves_85 a0 a1 a2 rec7 l3 l4 l5 l6 m else xLet (l5 + (2 : Int32)) fun x3 => bif xIn x3 80 then xLet (m.1 (a0 + 23) x3.toNatClampNeg) fun x4 => if x4 ≤ (0 : Int32) then fX12_loneMoves_85 a0 a1 a2 rec7 l3 l4 l5 l6 m else fX12_loneMoves_87 a0 a1 a2 rec7 l3 l4 l5 l6 (1 : Int32) m else none
set_option maxRecDepth 4000 in
theorem fX12_loneMoves_58_ok {a0 : Nat} {a1 : Int32} {a2 : Int32} {rec7 : Int32 → Int32 → xMem → Option (Int32 × xMem)} {d : Nat} (hd : 0 ≤ d) (ha0 : isModel a0) (hrec7 : ∀ (l3 : Int32) (l4 : Int32) (o5 : Option Value) (o6 : Option Value) (o7 : Option Value) (q5 : xNoD o5 = true) (q6 : xNoD o6 = true) (q7 : xNoD o7 = true) (m : xMem) (r : (Int32 × xMem)), rec7 l3 l4 m = some r → xFx hh_233 cX12_loneMoves d 7 [some (.ref a0), some (.int a1), some (.int a2), some (.int l3), some (.int l4), o5, o6, o7] [] (xLay m) 0 0 (some (.int r.1)) (xLay r.2)) {l3 : Int32} {l4 : Int32} {l5 : Int32} {l6 : Int32} {o7 : Option Value} {m : xMem} {r : (Int32 × xMem)} (q7 : xNoD o7 = true) (h : fX12_loneMoves_58 a0 a1 a2 rec7 l3 l4 l5 l6 m = some r) : xFx hh_233 cX12_loneMoves d 58 [some (.ref a0), some (.int a1), some (.int a2), some (.int l3), some (.int l4), some (.int l5), some (.int l6), o7] [] (xLay m) 0 0 (some (.int r.1)) (xLay r.2) := by
  unfold fX12_loneMoves_58 at h
  refine fx_iload dX12_loneMoves_58 rfl rfl ?_
  refine fx_if_le (t := 101) dX12_loneMoves_60 rfl rfl (fun hc1 => ?_) (fun hc1 => ?_)
  · rw [if_pos hc1] at h
    exact fX12_loneMoves_101_ok (o5 := some (.int l5)) (o6 := some (.int l6)) (o7 := o7) hd ha0 hrec7 rfl rfl q7 h
  · rw [if_neg hc1] at h
    refine fx_iload dX12_loneMoves_63 rfl rfl ?_
    refine fx_iconst (x := 2) dX12_loneMoves_65 rfl (by decide) ?_
    refine fx_icmp_ne (t := 85) dX12_loneMoves_66 rfl rfl (fun hc2 => ?_) (fun hc2 => ?_)
    · rw [if_pos hc2] at h
      exact fX12_loneMoves_85_ok (o7 := o7) hd ha0 hrec7 q7 h
    · rw [if_neg hc2] at h
      refine fx_aload_n dX12_loneMoves_69 rfl rfl ?_
      refine gx_getr dX12_loneMoves_70 rfl fd_12_86 ha0.1 rfl rfl ?_
      refine fx_iload dX12_loneMoves_73 rfl rfl ?_
      refine fx_iconst (x := 2) dX12_loneMoves_75 rfl (by decide) ?_
      obtain ⟨x3, hx3, h⟩ := xLet_el h
      refine fx_iadd dX12_loneMoves_76 rfl hx3 ?_
      obtain ⟨hj5, h⟩ := xChk_el h
      obtain ⟨x4, hx4, h⟩ := xLet_el h
      refine gx_iaload dX12_loneMoves_77 rfl ha0.2.2.2.2.2.2.2.2.2.2.2.2.2.2.2.2.2.2.2.2.2.2.2.1 hj5 hx4 ?_
      refine fx_if_le (t := 85) dX12_loneMoves_78 rfl rfl (fun hc6 => ?_) (fun hc6 => ?_)
      · rw [if_pos hc6] at h
        exact fX12_loneMoves_85_ok (o7 := o7) hd ha0 hrec7 q7 h
      · rw [if_neg hc6] at h
        refine fx_iconst (x := 1) dX12_loneMoves_81 rfl (by decide) ?_
        refine fx_goto (t := 87) dX12_loneMoves_82 rfl rfl ?_
        exact fX12_loneMoves_87_ok (o7 := o7) hd ha0 hrec7 q7 h
def fX12_loneMoves_7 (a0 : Nat) (a1 : Int32) (a2 : Int32) : Nat → Int32 → Int32 → xMem → Option (Int32 × xMem)
  | 0, _, _, _ => none
  | fuel + 1, l3, l4, m => if l4 < (0 : Int32) then some (l3, m) else xLet ((40 : Int32) * a2) fun x2 => xLet (x2 + l4) fun x3 => bif xIn x3 80 then xLet (m.1 (a0 + 23) x3.toNatClampNeg) fun x4 => bif xIn x3 80 then xLet (xPut m (a0 + 23) x3.toNatClampNeg (0 : Int32)) fun m6 => if x4 ≤ (0 : Int32) then fX12_loneMoves_58 a0 a1 a2 (fX12_loneMoves_7 a0 a1 a2 fuel) l3 l4 x3 x4 m6 else xLet (l4 + x4) fun x9 => if x9 < a1 then fX12_loneMoves_58 a0 a1 a2 (fX12_loneMoves_7 a0 a1 a2 fuel) l3 l4 x3 x4 m6 else xLet (l3 + (1 : Int32)) fun x11 => fX12_loneMoves_101 a0 a1 a2 (fX12_loneMoves_7 a0 a1 a2 fuel) x11 l4 m6 else none else none
set_option maxRecDepth 4000 in
theorem fX12_loneMoves_7_ok {a0 : Nat} {a1 : Int32} {a2 : Int32} {d : Nat} (hd : 0 ≤ d) (ha0 : isModel a0) : ∀ (fuel : Nat) (l3 : Int32) (l4 : Int32) (o5 : Option Value) (o6 : Option Value) (o7 : Option Value) (q5 : xNoD o5 = true) (q6 : xNoD o6 = true) (q7 : xNoD o7 = true) (m : xMem) (r : (Int32 × xMem)), fX12_loneMoves_7 a0 a1 a2 fuel l3 l4 m = some r → xFx hh_233 cX12_loneMoves d 7 [some (.ref a0), some (.int a1), some (.int a2), some (.int l3), some (.int l4), o5, o6, o7] [] (xLay m) 0 0 (some (.int r.1)) (xLay r.2) := by
  intro fuel
  induction fuel with
  | zero => intro l3 l4 o5 o6 o7 q5 q6 q7 m r  h; cases h
  | succ fuel ih =>
    intro l3 l4 o5 o6 o7 q5 q6 q7 m r  h
    unfold fX12_loneMoves_7 at h
    refine fx_iload dX12_loneMoves_7 rfl rfl ?_
    refine fx_if_lt (t := 107) dX12_loneMoves_9 rfl rfl (fun hc1 => ?_) (fun hc1 => ?_)
    · rw [if_pos hc1] at h
      refine fx_iload_n dX12_loneMoves_107 rfl rfl ?_
      cases h
      exact fx_ireturn dX12_loneMoves_108 rfl rfl
    · rw [if_neg hc1] at h
      refine fx_bipush (x := 40) dX12_loneMoves_12 rfl (by decide) ?_
      refine fx_iload_n dX12_loneMoves_14 rfl rfl ?_
      obtain ⟨x2, hx2, h⟩ := xLet_el h
      refine fx_imul dX12_loneMoves_15 rfl hx2 ?_
      refine fx_iload dX12_loneMoves_16 rfl rfl ?_
      obtain ⟨x3, hx3, h⟩ := xLet_el h
      refine fx_iadd dX12_loneMoves_18 rfl hx3 ?_
      refine fx_istore (ls2 := [some (.ref a0), some (.int a1), some (.int a2), some (.int l3), some (.int l4), some (.int x3), o6, o7]) dX12_loneMoves_19 rfl rfl rfl ?_
      refine fx_aload_n dX12_loneMoves_21 rfl rfl ?_
      refine gx_getr dX12_loneMoves_22 rfl fd_12_86 ha0.1 rfl rfl ?_
      refine fx_iload dX12_loneMoves_25 rfl rfl ?_
      obtain ⟨hj5, h⟩ := xChk_el h
      obtain ⟨x4, hx4, h⟩ := xLet_el h
      refine gx_iaload dX12_loneMoves_27 rfl ha0.2.2.2.2.2.2.2.2.2.2.2.2.2.2.2.2.2.2.2.2.2.2.2.1 hj5 hx4 ?_
      refine fx_istore (ls2 := [some (.ref a0), some (.int a1), some (.int a2), some (.int l3), some (.int l4), some (.int x3), some (.int x4), o7]) dX12_loneMoves_28 rfl rfl rfl ?_
      refine fx_aload_n dX12_loneMoves_30 rfl rfl ?_
      refine gx_getr dX12_loneMoves_31 rfl fd_12_86 ha0.1 rfl rfl ?_
      refine fx_iload dX12_loneMoves_34 rfl rfl ?_
      refine fx_iconst (x := 0) dX12_loneMoves_36 rfl (by decide) ?_
      obtain ⟨hj7, h⟩ := xChk_el h
      obtain ⟨m6, hm6, h⟩ := xLet_el h
      refine gx_iastore dX12_loneMoves_37 rfl ha0.2.2.2.2.2.2.2.2.2.2.2.2.2.2.2.2.2.2.2.2.2.2.2.1 hj7 hm6 ?_
      refine fx_iload dX12_loneMoves_38 rfl rfl ?_
      refine fx_if_le (t := 58) dX12_loneMoves_40 rfl rfl (fun hc8 => ?_) (fun hc8 => ?_)
      · rw [if_pos hc8] at h
        exact fX12_loneMoves_58_ok (o7 := o7) hd ha0 ih q7 h
      · rw [if_neg hc8] at h
        refine fx_iload dX12_loneMoves_43 rfl rfl ?_
        refine fx_iload dX12_loneMoves_45 rfl rfl ?_
        obtain ⟨x9, hx9, h⟩ := xLet_el h
        refine fx_iadd dX12_loneMoves_47 rfl hx9 ?_
        refine fx_iload_n dX12_loneMoves_48 rfl rfl ?_
        refine fx_icmp_lt (t := 58) dX12_loneMoves_49 rfl rfl (fun hc10 => ?_) (fun hc10 => ?_)
        · rw [if_pos hc10] at h
          exact fX12_loneMoves_58_ok (o7 := o7) hd ha0 ih q7 h
        · rw [if_neg hc10] at h
          obtain ⟨x11, hx11, h⟩ := xLet_el h
          refine fx_iinc (ls2 := [some (.ref a0), some (.int a1), some (.int a2), some (.int x11), some (.int l4), some (.int x3), some (.int x4), o7]) dX12_loneMoves_52 rfl rfl rfl hx11 rfl ?_
          refine fx_goto (t := 101) dX12_loneMoves_55 rfl rfl ?_
          exact fX12_loneMoves_101_ok (o5 := some (.int x3)) (o6 := some (.int x4)) (o7 := o7) hd ha0 ih rfl rfl q7 h
def fX12_loneMoves_0 (a0 : Nat) (a1 : Int32) (a2 : Int32) (m : xMem) : Option (Int32 × xMem) := xLet (a1 - (1 : Int32)) fun x1 => fX12_loneMoves_7 a0 a1 a2 xFuel (0 : Int32) x1 m
set_option maxRecDepth 4000 in
theorem fX12_loneMoves_0_ok {a0 : Nat} {a1 : Int32} {a2 : Int32} {d : Nat} (hd : 0 ≤ d) (ha0 : isModel a0) {o3 : Option Value} {o4 : Option Value} {o5 : Option Value} {o6 : Option Value} {o7 : Option Value} {m : xMem} {r : (Int32 × xMem)} (q3 : xNoD o3 = true) (q4 : xNoD o4 = true) (q5 : xNoD o5 = true) (q6 : xNoD o6 = true) (q7 : xNoD o7 = true) (h : fX12_loneMoves_0 a0 a1 a2 m = some r) : xFx hh_233 cX12_loneMoves d 0 [some (.ref a0), some (.int a1), some (.int a2), o3, o4, o5, o6, o7] [] (xLay m) 0 0 (some (.int r.1)) (xLay r.2) := by
  unfold fX12_loneMoves_0 at h
  refine fx_iconst (x := 0) dX12_loneMoves_0 rfl (by decide) ?_
  refine fx_istore_n (ls2 := [some (.ref a0), some (.int a1), some (.int a2), some (.int (0 : Int32)), o4, o5, o6, o7]) dX12_loneMoves_1 rfl rfl rfl ?_
  refine fx_iload_n dX12_loneMoves_2 rfl rfl ?_
  refine fx_iconst (x := 1) dX12_loneMoves_3 rfl (by decide) ?_
  obtain ⟨x1, hx1, h⟩ := xLet_el h
  refine fx_isub dX12_loneMoves_4 rfl hx1 ?_
  refine fx_istore (ls2 := [some (.ref a0), some (.int a1), some (.int a2), some (.int (0 : Int32)), some (.int x1), o5, o6, o7]) dX12_loneMoves_5 rfl rfl rfl ?_
  exact fX12_loneMoves_7_ok hd ha0 xFuel (0 : Int32) x1 (o5) (o6) (o7) q5 q6 q7 m r h
def fX12_loneMoves (a0 : Nat) (a1 : Int32) (a2 : Int32) (m : xMem) : Option (Int32 × xMem) := fX12_loneMoves_0 a0 a1 a2  m
theorem fX12_loneMoves_ok {a0 : Nat} {a1 : Int32} {a2 : Int32} {m : xMem} {r : (Int32 × xMem)} {d : Nat} (hd : 1 ≤ d) (ha0 : isModel a0) (h : fX12_loneMoves a0 a1 a2 m = some r) : xEx d 233 [.ref a0, .int a1, .int a2] (xLay m) (some (.int r.1)) (xLay r.2) := by
  obtain ⟨d, rfl⟩ : ∃ q, d = q + 1 := ⟨d - 1, by omega⟩
  exact xEx_of me_233 rfl (fX12_loneMoves_0_ok (d := d) (o3 := none) (o4 := none) (o5 := none) (o6 := none) (o7 := none) (by omega) ha0 rfl rfl rfl rfl rfl h)
def fX12_carries_186 (a0 : Nat) (a1 : Int32) (a2 : Int32) (a3 : Int32) (a4 : Int32) (rec33 : Int32 → Int32 → Int32 → xMem → Option (Int32 × xMem)) (rec64 : Int32 → Int32 → Int32 → Int32 → Int32 → xMem → Option (Int32 × xMem)) (l5 : Int32) (l6 : Int32) (l7 : Int32) (l8 : Int32) (l9 : Int32) (m : xMem) : Option (Int32 × xMem) := xLet (l9 + (1 : Int32)) fun x1 => rec64 l5 l6 l7 l8 x1 m
set_option maxRecDepth 4000 in
theorem fX12_carries_186_ok {a0 : Nat} {a1 : Int32} {a2 : Int32} {a3 : Int32} {a4 : Int32} {rec33 : Int32 → Int32 → Int32 → xMem → Option (Int32 × xMem)} {rec64 : Int32 → Int32 → Int32 → Int32 → Int32 → xMem → Option (Int32 × xMem)} {d : Nat} (hd : 1 ≤ d) (ha0 : isModel a0) (hrec33 : ∀ (l5 : Int32) (l6 : Int32) (l7 : Int32) (o8 : Option Value) (o9 : Option Value) (o10 : Option Value) (o11 : Option Value) (q8 : xNoD o8 = true) (q9 : xNoD o9 = true) (q10 : xNoD o10 = true) (q11 : xNoD o11 = true) (m : xMem) (r : (Int32 × xMem)), rec33 l5 l6 l7 m = some r → xFx hh_232 cX12_carries d 33 [some (.ref a0), some (.int a1), some (.int a2), some (.int a3), some (.int a4), some (.int l5), some (.int l6), some (.int l7), o8, o9, o10, o11] [] (xLay m) 0 0 (some (.int r.1)) (xLay r.2)) (hrec64 : ∀ (l5 : Int32) (l6 : Int32) (l7 : Int32) (l8 : Int32) (l9 : Int32) (o10 : Option Value) (o11 : Option Value) (q10 : xNoD o10 = true) (q11 : xNoD o11 = true) (m : xMem) (r : (Int32 × xMem)), rec64 l5 l6 l7 l8 l9 m = some r → xFx hh_232 cX12_carries d 64 [some (.ref a0), some (.int a1), some (.int a2), some (.int a3), some (.int a4), some (.int l5), some (.int l6), some (.int l7), some (.int l8), some (.int l9), o10, o11] [] (xLay m) 0 0 (some (.int r.1)) (xLay r.2)) {l5 : Int32} {l6 : Int32} {l7 : Int32} {l8 : Int32} {l9 : Int32} {o10 : Option Value} {o11 : Option Value} {m : xMem} {r : (Int32 × xMem)} (q10 : xNoD o10 = true) (q11 : xNoD o11 = true) (h : fX12_carries_186 a0 a1 a2 a3 a4 rec33 rec64 l5 l6 l7 l8 l9 m = some r) : xFx hh_232 cX12_carries d 186 [some (.ref a0), some (.int a1), some (.int a2), some (.int a3), some (.int a4), some (.int l5), some (.int l6), some (.int l7), some (.int l8), some (.int l9), o10, o11] [] (xLay m) 0 0 (some (.int r.1)) (xLay r.2) := by
  unfold fX12_carries_186 at h
  obtain ⟨x1, hx1, h⟩ := xLet_el h
  refine fx_iinc (ls2 := [some (.ref a0), some (.int a1), some (.int a2), some (.int a3), some (.int a4), some (.int l5), some (.int l6), some (.int l7), some (.int l8), some (.int x1), o10, o11]) dX12_carries_186 rfl rfl rfl hx1 rfl ?_
  refine fx_goto (t := 64) dX12_carries_189 rfl rfl ?_
  exact hrec64 l5 l6 l7 l8 x1 (o10) (o11) q10 q11 m r h
def fX12_carries_182 (a0 : Nat) (a1 : Int32) (a2 : Int32) (a3 : Int32) (a4 : Int32) (rec33 : Int32 → Int32 → Int32 → xMem → Option (Int32 × xMem)) (rec64 : Int32 → Int32 → Int32 → Int32 → Int32 → xMem → Option (Int32 × xMem)) (l5 : Int32) (l6 : Int32) (l7 : Int32) (l8 : Int32) (l9 : Int32) (s0 : Nat) (s1 : Int32) (s2 : Int32) (m : xMem) : Option (Int32 × xMem) := bif xIn s1 80 then xLet (xPut m s0 s1.toNatClampNeg s2) fun m1 => xLet (l6 + (1 : Int32)) fun x3 => fX12_carries_186 a0 a1 a2 a3 a4 rec33 rec64 l5 x3 l7 l8 l9 m1 else none
set_option maxRecDepth 4000 in
theorem fX12_carries_182_ok {a0 : Nat} {a1 : Int32} {a2 : Int32} {a3 : Int32} {a4 : Int32} {rec33 : Int32 → Int32 → Int32 → xMem → Option (Int32 × xMem)} {rec64 : Int32 → Int32 → Int32 → Int32 → Int32 → xMem → Option (Int32 × xMem)} {d : Nat} (hd : 1 ≤ d) (ha0 : isModel a0) (hrec33 : ∀ (l5 : Int32) (l6 : Int32) (l7 : Int32) (o8 : Option Value) (o9 : Option Value) (o10 : Option Value) (o11 : Option Value) (q8 : xNoD o8 = true) (q9 : xNoD o9 = true) (q10 : xNoD o10 = true) (q11 : xNoD o11 = true) (m : xMem) (r : (Int32 × xMem)), rec33 l5 l6 l7 m = some r → xFx hh_232 cX12_carries d 33 [some (.ref a0), some (.int a1), some (.int a2), some (.int a3), some (.int a4), some (.int l5), some (.int l6), some (.int l7), o8, o9, o10, o11] [] (xLay m) 0 0 (some (.int r.1)) (xLay r.2)) (hrec64 : ∀ (l5 : Int32) (l6 : Int32) (l7 : Int32) (l8 : Int32) (l9 : Int32) (o10 : Option Value) (o11 : Option Value) (q10 : xNoD o10 = true) (q11 : xNoD o11 = true) (m : xMem) (r : (Int32 × xMem)), rec64 l5 l6 l7 l8 l9 m = some r → xFx hh_232 cX12_carries d 64 [some (.ref a0), some (.int a1), some (.int a2), some (.int a3), some (.int a4), some (.int l5), some (.int l6), some (.int l7), some (.int l8), some (.int l9), o10, o11] [] (xLay m) 0 0 (some (.int r.1)) (xLay r.2)) {l5 : Int32} {l6 : Int32} {l7 : Int32} {l8 : Int32} {l9 : Int32} {s0 : Nat} {s1 : Int32} {s2 : Int32} {o10 : Option Value} {o11 : Option Value} {m : xMem} {r : (Int32 × xMem)} (hs0 : xTmL[s0]? = some (101, 80, [])) (q10 : xNoD o10 = true) (q11 : xNoD o11 = true) (h : fX12_carries_182 a0 a1 a2 a3 a4 rec33 rec64 l5 l6 l7 l8 l9 s0 s1 s2 m = some r) : xFx hh_232 cX12_carries d 182 [some (.ref a0), some (.int a1), some (.int a2), some (.int a3), some (.int a4), some (.int l5), some (.int l6), some (.int l7), some (.int l8), some (.int l9), o10, o11] [.int s2, .int s1, .ref s0] (xLay m) 0 0 (some (.int r.1)) (xLay r.2) := by
  unfold fX12_carries_182 at h
  obtain ⟨hj2, h⟩ := xChk_el h
  obtain ⟨m1, hm1, h⟩ := xLet_el h
  refine gx_iastore dX12_carries_182 rfl hs0 hj2 hm1 ?_
  obtain ⟨x3, hx3, h⟩ := xLet_el h
  refine fx_iinc (ls2 := [some (.ref a0), some (.int a1), some (.int a2), some (.int a3), some (.int a4), some (.int l5), some (.int x3), some (.int l7), some (.int l8), some (.int l9), o10, o11]) dX12_carries_183 rfl rfl rfl hx3 rfl ?_
  exact fX12_carries_186_ok (o10 := o10) (o11 := o11) hd ha0 hrec33 hrec64 q10 q11 h
def fX12_carries_156 (a0 : Nat) (a1 : Int32) (a2 : Int32) (a3 : Int32) (a4 : Int32) (rec33 : Int32 → Int32 → Int32 → xMem → Option (Int32 × xMem)) (rec64 : Int32 → Int32 → Int32 → Int32 → Int32 → xMem → Option (Int32 × xMem)) (l5 : Int32) (l6 : Int32) (l7 : Int32) (l9 : Int32) (l10 : Int32) (l11 : Int32) (s0 : Int32) (m : xMem) : Option (Int32 × xMem) := if s0 = (0 : Int32) then fX12_carries_186 a0 a1 a2 a3 a4 rec33 rec64 l5 l6 l7 s0 l9 m else xLet ((40 : Int32) * l11) fun x2 => if l10 = (0 : Int32) then fX12_carries_182 a0 a1 a2 a3 a4 rec33 rec64 l5 l6 l7 s0 l9 (a0 + 23) x2 (1 : Int32) m else fX12_carries_182 a0 a1 a2 a3 a4 rec33 rec64 l5 l6 l7 s0 l9 (a0 + 23) x2 (2 : Int32) m
set_option maxRecDepth 4000 in
theorem fX12_carries_156_ok {a0 : Nat} {a1 : Int32} {a2 : Int32} {a3 : Int32} {a4 : Int32} {rec33 : Int32 → Int32 → Int32 → xMem → Option (Int32 × xMem)} {rec64 : Int32 → Int32 → Int32 → Int32 → Int32 → xMem → Option (Int32 × xMem)} {d : Nat} (hd : 1 ≤ d) (ha0 : isModel a0) (hrec33 : ∀ (l5 : Int32) (l6 : Int32) (l7 : Int32) (o8 : Option Value) (o9 : Option Value) (o10 : Option Value) (o11 : Option Value) (q8 : xNoD o8 = true) (q9 : xNoD o9 = true) (q10 : xNoD o10 = true) (q11 : xNoD o11 = true) (m : xMem) (r : (Int32 × xMem)), rec33 l5 l6 l7 m = some r → xFx hh_232 cX12_carries d 33 [some (.ref a0), some (.int a1), some (.int a2), some (.int a3), some (.int a4), some (.int l5), some (.int l6), some (.int l7), o8, o9, o10, o11] [] (xLay m) 0 0 (some (.int r.1)) (xLay r.2)) (hrec64 : ∀ (l5 : Int32) (l6 : Int32) (l7 : Int32) (l8 : Int32) (l9 : Int32) (o10 : Option Value) (o11 : Option Value) (q10 : xNoD o10 = true) (q11 : xNoD o11 = true) (m : xMem) (r : (Int32 × xMem)), rec64 l5 l6 l7 l8 l9 m = some r → xFx hh_232 cX12_carries d 64 [some (.ref a0), some (.int a1), some (.int a2), some (.int a3), some (.int a4), some (.int l5), some (.int l6), some (.int l7), some (.int l8), some (.int l9), o10, o11] [] (xLay m) 0 0 (some (.int r.1)) (xLay r.2)) {l5 : Int32} {l6 : Int32} {l7 : Int32} {l9 : Int32} {l10 : Int32} {l11 : Int32} {s0 : Int32} {o8 : Option Value} {m : xMem} {r : (Int32 × xMem)} (q8 : xNoD o8 = true) (h : fX12_carries_156 a0 a1 a2 a3 a4 rec33 rec64 l5 l6 l7 l9 l10 l11 s0 m = some r) : xFx hh_232 cX12_carries d 156 [some (.ref a0), some (.int a1), some (.int a2), some (.int a3), some (.int a4), some (.int l5), some (.int l6), some (.int l7), o8, some (.int l9), some (.int l10), some (.int l11)] [.int s0] (xLay m) 0 0 (some (.int r.1)) (xLay r.2) := by
  unfold fX12_carries_156 at h
  refine fx_istore (ls2 := [some (.ref a0), some (.int a1), some (.int a2), some (.int a3), some (.int a4), some (.int l5), some (.int l6), some (.int l7), some (.int s0), some (.int l9), some (.int l10), some (.int l11)]) dX12_carries_156 rfl rfl rfl ?_
  refine fx_iload dX12_carries_158 rfl rfl ?_
  refine fx_if_eq (t := 186) dX12_carries_160 rfl rfl (fun hc1 => ?_) (fun hc1 => ?_)
  · rw [if_pos hc1] at h
    exact fX12_carries_186_ok (o10 := some (.int l10)) (o11 := some (.int l11)) hd ha0 hrec33 hrec64 rfl rfl h
  · rw [if_neg hc1] at h
    refine fx_aload_n dX12_carries_163 rfl rfl ?_
    refine gx_getr dX12_carries_164 rfl fd_12_86 ha0.1 rfl rfl ?_
    refine fx_bipush (x := 40) dX12_carries_167 rfl (by decide) ?_
    refine fx_iload dX12_carries_169 rfl rfl ?_
    obtain ⟨x2, hx2, h⟩ := xLet_el h
    refine fx_imul dX12_carries_171 rfl hx2 ?_
    refine fx_iload dX12_carries_172 rfl rfl ?_
    refine fx_if_eq (t := 181) dX12_carries_174 rfl rfl (fun hc3 => ?_) (fun hc3 => ?_)
    · rw [if_pos hc3] at h
      refine fx_iconst (x := 1) dX12_carries_181 rfl (by decide) ?_
      exact fX12_carries_182_ok (o10 := some (.int l10)) (o11 := some (.int l11)) hd ha0 hrec33 hrec64 ha0.2.2.2.2.2.2.2.2.2.2.2.2.2.2.2.2.2.2.2.2.2.2.2.1 rfl rfl h
    · rw [if_neg hc3] at h
      refine fx_iconst (x := 2) dX12_carries_177 rfl (by decide) ?_
      refine fx_goto (t := 182) dX12_carries_178 rfl rfl ?_
      exact fX12_carries_182_ok (o10 := some (.int l10)) (o11 := some (.int l11)) hd ha0 hrec33 hrec64 ha0.2.2.2.2.2.2.2.2.2.2.2.2.2.2.2.2.2.2.2.2.2.2.2.1 rfl rfl h
def fX12_carries_136 (a0 : Nat) (a1 : Int32) (a2 : Int32) (a3 : Int32) (a4 : Int32) (rec33 : Int32 → Int32 → Int32 → xMem → Option (Int32 × xMem)) (rec64 : Int32 → Int32 → Int32 → Int32 → Int32 → xMem → Option (Int32 × xMem)) (l5 : Int32) (l6 : Int32) (l7 : Int32) (l9 : Int32) (l10 : Int32) (s0 : Int32) (m : xMem) : Option (Int32 × xMem) := xLet ((40 : Int32) * s0) fun x1 => bif xIn x1 80 then xLet (m.1 (a0 + 23) x1.toNatClampNeg) fun x2 => if ¬ x2 = (0 : Int32) then fX12_carries_156 a0 a1 a2 a3 a4 rec33 rec64 l5 l6 l7 l9 l10 s0 (0 : Int32) m else fX12_carries_156 a0 a1 a2 a3 a4 rec33 rec64 l5 l6 l7 l9 l10 s0 (1 : Int32) m else none
set_option maxRecDepth 4000 in
theorem fX12_carries_136_ok {a0 : Nat} {a1 : Int32} {a2 : Int32} {a3 : Int32} {a4 : Int32} {rec33 : Int32 → Int32 → Int32 → xMem → Option (Int32 × xMem)} {rec64 : Int32 → Int32 → Int32 → Int32 → Int32 → xMem → Option (Int32 × xMem)} {d : Nat} (hd : 1 ≤ d) (ha0 : isModel a0) (hrec33 : ∀ (l5 : Int32) (l6 : Int32) (l7 : Int32) (o8 : Option Value) (o9 : Option Value) (o10 : Option Value) (o11 : Option Value) (q8 : xNoD o8 = true) (q9 : xNoD o9 = true) (q10 : xNoD o10 = true) (q11 : xNoD o11 = true) (m : xMem) (r : (Int32 × xMem)), rec33 l5 l6 l7 m = some r → xFx hh_232 cX12_carries d 33 [some (.ref a0), some (.int a1), some (.int a2), some (.int a3), some (.int a4), some (.int l5), some (.int l6), some (.int l7), o8, o9, o10, o11] [] (xLay m) 0 0 (some (.int r.1)) (xLay r.2)) (hrec64 : ∀ (l5 : Int32) (l6 : Int32) (l7 : Int32) (l8 : Int32) (l9 : Int32) (o10 : Option Value) (o11 : Option Value) (q10 : xNoD o10 = true) (q11 : xNoD o11 = true) (m : xMem) (r : (Int32 × xMem)), rec64 l5 l6 l7 l8 l9 m = some r → xFx hh_232 cX12_carries d 64 [some (.ref a0), some (.int a1), some (.int a2), some (.int a3), some (.int a4), some (.int l5), some (.int l6), some (.int l7), some (.int l8), some (.int l9), o10, o11] [] (xLay m) 0 0 (some (.int r.1)) (xLay r.2)) {l5 : Int32} {l6 : Int32} {l7 : Int32} {l9 : Int32} {l10 : Int32} {s0 : Int32} {o8 : Option Value} {o11 : Option Value} {m : xMem} {r : (Int32 × xMem)} (q8 : xNoD o8 = true) (q11 : xNoD o11 = true) (h : fX12_carries_136 a0 a1 a2 a3 a4 rec33 rec64 l5 l6 l7 l9 l10 s0 m = some r) : xFx hh_232 cX12_carries d 136 [some (.ref a0), some (.int a1), some (.int a2), some (.int a3), some (.int a4), some (.int l5), some (.int l6), some (.int l7), o8, some (.int l9), some (.int l10), o11] [.int s0] (xLay m) 0 0 (some (.int r.1)) (xLay r.2) := by
  unfold fX12_carries_136 at h
  refine fx_istore (ls2 := [some (.ref a0), some (.int a1), some (.int a2), some (.int a3), some (.int a4), some (.int l5), some (.int l6), some (.int l7), o8, some (.int l9), some (.int l10), some (.int s0)]) dX12_carries_136 rfl rfl rfl ?_
  refine fx_aload_n dX12_carries_138 rfl rfl ?_
  refine gx_getr dX12_carries_139 rfl fd_12_86 ha0.1 rfl rfl ?_
  refine fx_bipush (x := 40) dX12_carries_142 rfl (by decide) ?_
  refine fx_iload dX12_carries_144 rfl rfl ?_
  obtain ⟨x1, hx1, h⟩ := xLet_el h
  refine fx_imul dX12_carries_146 rfl hx1 ?_
  obtain ⟨hj3, h⟩ := xChk_el h
  obtain ⟨x2, hx2, h⟩ := xLet_el h
  refine gx_iaload dX12_carries_147 rfl ha0.2.2.2.2.2.2.2.2.2.2.2.2.2.2.2.2.2.2.2.2.2.2.2.1 hj3 hx2 ?_
  refine fx_if_ne (t := 155) dX12_carries_148 rfl rfl (fun hc4 => ?_) (fun hc4 => ?_)
  · rw [if_pos hc4] at h
    refine fx_iconst (x := 0) dX12_carries_155 rfl (by decide) ?_
    exact fX12_carries_156_ok (o8 := o8) hd ha0 hrec33 hrec64 q8 h
  · rw [if_neg hc4] at h
    refine fx_iconst (x := 1) dX12_carries_151 rfl (by decide) ?_
    refine fx_goto (t := 156) dX12_carries_152 rfl rfl ?_
    exact fX12_carries_156_ok (o8 := o8) hd ha0 hrec33 hrec64 q8 h
def fX12_carries_103 (a0 : Nat) (a1 : Int32) (a2 : Int32) (a3 : Int32) (a4 : Int32) (rec33 : Int32 → Int32 → Int32 → xMem → Option (Int32 × xMem)) (rec64 : Int32 → Int32 → Int32 → Int32 → Int32 → xMem → Option (Int32 × xMem)) (l5 : Int32) (l6 : Int32) (l7 : Int32) (l9 : Int32) (s0 : Int32) (m : xMem) : Option (Int32 × xMem) := if ¬ a3 = (0 : Int32) then bif xIn (0 : Int32) 80 then xLet (m.1 (a0 + 23) (0 : Int32).toNatClampNeg) fun x2 => if x2 ≤ (0 : Int32) then fX12_carries_136 a0 a1 a2 a3 a4 rec33 rec64 l5 l6 l7 l9 s0 (0 : Int32) m else fX12_carries_136 a0 a1 a2 a3 a4 rec33 rec64 l5 l6 l7 l9 s0 (1 : Int32) m else none else if s0 = (0 : Int32) then fX12_carries_136 a0 a1 a2 a3 a4 rec33 rec64 l5 l6 l7 l9 s0 (0 : Int32) m else fX12_carries_136 a0 a1 a2 a3 a4 rec33 rec64 l5 l6 l7 l9 s0 (1 : Int32) m
set_option maxRecDepth 4000 in
theorem fX12_carries_103_ok {a0 : Nat} {a1 : Int32} {a2 : Int32} {a3 : Int32} {a4 : Int32} {rec33 : Int32 → Int32 → Int32 → xMem → Option (Int32 × xMem)} {rec64 : Int32 → Int32 → Int32 → Int32 → Int32 → xMem → Option (Int32 × xMem)} {d : Nat} (hd : 1 ≤ d) (ha0 : isModel a0) (hrec33 : ∀ (l5 : Int32) (l6 : Int32) (l7 : Int32) (o8 : Option Value) (o9 : Option Value) (o10 : Option Value) (o11 : Option Value) (q8 : xNoD o8 = true) (q9 : xNoD o9 = true) (q10 : xNoD o10 = true) (q11 : xNoD o11 = true) (m : xMem) (r : (Int32 × xMem)), rec33 l5 l6 l7 m = some r → xFx hh_232 cX12_carries d 33 [some (.ref a0), some (.int a1), some (.int a2), some (.int a3), some (.int a4), some (.int l5), some (.int l6), some (.int l7), o8, o9, o10, o11] [] (xLay m) 0 0 (some (.int r.1)) (xLay r.2)) (hrec64 : ∀ (l5 : Int32) (l6 : Int32) (l7 : Int32) (l8 : Int32) (l9 : Int32) (o10 : Option Value) (o11 : Option Value) (q10 : xNoD o10 = true) (q11 : xNoD o11 = true) (m : xMem) (r : (Int32 × xMem)), rec64 l5 l6 l7 l8 l9 m = some r → xFx hh_232 cX12_carries d 64 [some (.ref a0), some (.int a1), some (.int a2), some (.int a3), some (.int a4), some (.int l5), some (.int l6), some (.int l7), some (.int l8), some (.int l9), o10, o11] [] (xLay m) 0 0 (some (.int r.1)) (xLay r.2)) {l5 : Int32} {l6 : Int32} {l7 : Int32} {l9 : Int32} {s0 : Int32} {o8 : Option Value} {o10 : Option Value} {o11 : Option Value} {m : xMem} {r : (Int32 × xMem)} (q8 : xNoD o8 = true) (q10 : xNoD o10 = true) (q11 : xNoD o11 = true) (h : fX12_carries_103 a0 a1 a2 a3 a4 rec33 rec64 l5 l6 l7 l9 s0 m = some r) : xFx hh_232 cX12_carries d 103 [some (.ref a0), some (.int a1), some (.int a2), some (.int a3), some (.int a4), some (.int l5), some (.int l6), some (.int l7), o8, some (.int l9), o10, o11] [.int s0] (xLay m) 0 0 (some (.int r.1)) (xLay r.2) := by
  unfold fX12_carries_103 at h
  refine fx_istore (ls2 := [some (.ref a0), some (.int a1), some (.int a2), some (.int a3), some (.int a4), some (.int l5), some (.int l6), some (.int l7), o8, some (.int l9), some (.int s0), o11]) dX12_carries_103 rfl rfl rfl ?_
  refine fx_iload_n dX12_carries_105 rfl rfl ?_
  refine fx_if_ne (t := 122) dX12_carries_106 rfl rfl (fun hc1 => ?_) (fun hc1 => ?_)
  · rw [if_pos hc1] at h
    refine fx_aload_n dX12_carries_122 rfl rfl ?_
    refine gx_getr dX12_carries_123 rfl fd_12_86 ha0.1 rfl rfl ?_
    refine fx_iconst (x := 0) dX12_carries_126 rfl (by decide) ?_
    obtain ⟨hj3, h⟩ := xChk_el h
    obtain ⟨x2, hx2, h⟩ := xLet_el h
    refine gx_iaload dX12_carries_127 rfl ha0.2.2.2.2.2.2.2.2.2.2.2.2.2.2.2.2.2.2.2.2.2.2.2.1 hj3 hx2 ?_
    refine fx_if_le (t := 135) dX12_carries_128 rfl rfl (fun hc4 => ?_) (fun hc4 => ?_)
    · rw [if_pos hc4] at h
      refine fx_iconst (x := 0) dX12_carries_135 rfl (by decide) ?_
      exact fX12_carries_136_ok (o8 := o8) (o11 := o11) hd ha0 hrec33 hrec64 q8 q11 h
    · rw [if_neg hc4] at h
      refine fx_iconst (x := 1) dX12_carries_131 rfl (by decide) ?_
      refine fx_goto (t := 136) dX12_carries_132 rfl rfl ?_
      exact fX12_carries_136_ok (o8 := o8) (o11 := o11) hd ha0 hrec33 hrec64 q8 q11 h
  · rw [if_neg hc1] at h
    refine fx_iload dX12_carries_109 rfl rfl ?_
    refine fx_if_eq (t := 118) dX12_carries_111 rfl rfl (fun hc5 => ?_) (fun hc5 => ?_)
    · rw [if_pos hc5] at h
      refine fx_iconst (x := 0) dX12_carries_118 rfl (by decide) ?_
      refine fx_goto (t := 136) dX12_carries_119 rfl rfl ?_
      exact fX12_carries_136_ok (o8 := o8) (o11 := o11) hd ha0 hrec33 hrec64 q8 q11 h
    · rw [if_neg hc5] at h
      refine fx_iconst (x := 1) dX12_carries_114 rfl (by decide) ?_
      refine fx_goto (t := 136) dX12_carries_115 rfl rfl ?_
      exact fX12_carries_136_ok (o8 := o8) (o11 := o11) hd ha0 hrec33 hrec64 q8 q11 h
def fX12_carries_102 (a0 : Nat) (a1 : Int32) (a2 : Int32) (a3 : Int32) (a4 : Int32) (rec33 : Int32 → Int32 → Int32 → xMem → Option (Int32 × xMem)) (rec64 : Int32 → Int32 → Int32 → Int32 → Int32 → xMem → Option (Int32 × xMem)) (l5 : Int32) (l6 : Int32) (l7 : Int32) (l9 : Int32) (m : xMem) : Option (Int32 × xMem) := fX12_carries_103 a0 a1 a2 a3 a4 rec33 rec64 l5 l6 l7 l9 (0 : Int32) m
set_option maxRecDepth 4000 in
theorem fX12_carries_102_ok {a0 : Nat} {a1 : Int32} {a2 : Int32} {a3 : Int32} {a4 : Int32} {rec33 : Int32 → Int32 → Int32 → xMem → Option (Int32 × xMem)} {rec64 : Int32 → Int32 → Int32 → Int32 → Int32 → xMem → Option (Int32 × xMem)} {d : Nat} (hd : 1 ≤ d) (ha0 : isModel a0) (hrec33 : ∀ (l5 : Int32) (l6 : Int32) (l7 : Int32) (o8 : Option Value) (o9 : Option Value) (o10 : Option Value) (o11 : Option Value) (q8 : xNoD o8 = true) (q9 : xNoD o9 = true) (q10 : xNoD o10 = true) (q11 : xNoD o11 = true) (m : xMem) (r : (Int32 × xMem)), rec33 l5 l6 l7 m = some r → xFx hh_232 cX12_carries d 33 [some (.ref a0), some (.int a1), some (.int a2), some (.int a3), some (.int a4), some (.int l5), some (.int l6), some (.int l7), o8, o9, o10, o11] [] (xLay m) 0 0 (some (.int r.1)) (xLay r.2)) (hrec64 : ∀ (l5 : Int32) (l6 : Int32) (l7 : Int32) (l8 : Int32) (l9 : Int32) (o10 : Option Value) (o11 : Option Value) (q10 : xNoD o10 = true) (q11 : xNoD o11 = true) (m : xMem) (r : (Int32 × xMem)), rec64 l5 l6 l7 l8 l9 m = some r → xFx hh_232 cX12_carries d 64 [some (.ref a0), some (.int a1), some (.int a2), some (.int a3), some (.int a4), some (.int l5), some (.int l6), some (.int l7), some (.int l8), some (.int l9), o10, o11] [] (xLay m) 0 0 (some (.int r.1)) (xLay r.2)) {l5 : Int32} {l6 : Int32} {l7 : Int32} {l9 : Int32} {o8 : Option Value} {o10 : Option Value} {o11 : Option Value} {m : xMem} {r : (Int32 × xMem)} (q8 : xNoD o8 = true) (q10 : xNoD o10 = true) (q11 : xNoD o11 = true) (h : fX12_carries_102 a0 a1 a2 a3 a4 rec33 rec64 l5 l6 l7 l9 m = some r) : xFx hh_232 cX12_carries d 102 [some (.ref a0), some (.int a1), some (.int a2), some (.int a3), some (.int a4), some (.int l5), some (.int l6), some (.int l7), o8, some (.int l9), o10, o11] [] (xLay m) 0 0 (some (.int r.1)) (xLay r.2) := by
  unfold fX12_carries_102 at h
  refine fx_iconst (x := 0) dX12_carries_102 rfl (by decide) ?_
  exact fX12_carries_103_ok (o8 := o8) (o10 := o10) (o11 := o11) hd ha0 hrec33 hrec64 q8 q10 q11 h
def fX12_carries_192 (a0 : Nat) (a1 : Int32) (a2 : Int32) (a3 : Int32) (a4 : Int32) (rec33 : Int32 → Int32 → Int32 → xMem → Option (Int32 × xMem)) (l5 : Int32) (l6 : Int32) (l7 : Int32) (m : xMem) : Option (Int32 × xMem) := xLet (l7 + (1 : Int32)) fun x1 => rec33 l5 l6 x1 m
set_option maxRecDepth 4000 in
theorem fX12_carries_192_ok {a0 : Nat} {a1 : Int32} {a2 : Int32} {a3 : Int32} {a4 : Int32} {rec33 : Int32 → Int32 → Int32 → xMem → Option (Int32 × xMem)} {d : Nat} (hd : 1 ≤ d) (ha0 : isModel a0) (hrec33 : ∀ (l5 : Int32) (l6 : Int32) (l7 : Int32) (o8 : Option Value) (o9 : Option Value) (o10 : Option Value) (o11 : Option Value) (q8 : xNoD o8 = true) (q9 : xNoD o9 = true) (q10 : xNoD o10 = true) (q11 : xNoD o11 = true) (m : xMem) (r : (Int32 × xMem)), rec33 l5 l6 l7 m = some r → xFx hh_232 cX12_carries d 33 [some (.ref a0), some (.int a1), some (.int a2), some (.int a3), some (.int a4), some (.int l5), some (.int l6), some (.int l7), o8, o9, o10, o11] [] (xLay m) 0 0 (some (.int r.1)) (xLay r.2)) {l5 : Int32} {l6 : Int32} {l7 : Int32} {o8 : Option Value} {o9 : Option Value} {o10 : Option Value} {o11 : Option Value} {m : xMem} {r : (Int32 × xMem)} (q8 : xNoD o8 = true) (q9 : xNoD o9 = true) (q10 : xNoD o10 = true) (q11 : xNoD o11 = true) (h : fX12_carries_192 a0 a1 a2 a3 a4 rec33 l5 l6 l7 m = some r) : xFx hh_232 cX12_carries d 192 [some (.ref a0), some (.int a1), some (.int a2), some (.int a3), some (.int a4), some (.int l5), some (.int l6), some (.int l7), o8, o9, o10, o11] [] (xLay m) 0 0 (some (.int r.1)) (xLay r.2) := by
  unfold fX12_carries_192 at h
  obtain ⟨x1, hx1, h⟩ := xLet_el h
  refine fx_iinc (ls2 := [some (.ref a0), some (.int a1), some (.int a2), some (.int a3), some (.int a4), some (.int l5), some (.int l6), some (.int x1), o8, o9, o10, o11]) dX12_carries_192 rfl rfl rfl hx1 rfl ?_
  refine fx_goto (t := 33) dX12_carries_195 rfl rfl ?_
  exact hrec33 l5 l6 x1 (o8) (o9) (o10) (o11) q8 q9 q10 q11 m r h
def fX12_carries_64 (a0 : Nat) (a1 : Int32) (a2 : Int32) (a3 : Int32) (a4 : Int32) (rec33 : Int32 → Int32 → Int32 → xMem → Option (Int32 × xMem)) : Nat → Int32 → Int32 → Int32 → Int32 → Int32 → xMem → Option (Int32 × xMem)
  | 0, _, _, _, _, _, _ => none
  | fuel + 1, l5, l6, l7, l8, l9, m => if (2 : Int32) ≤ l9 then fX12_carries_192 a0 a1 a2 a3 a4 rec33 l5 l6 l7 m else if l8 = (0 : Int32) then fX12_carries_192 a0 a1 a2 a3 a4 rec33 l5 l6 l7 m else if ¬ a3 = (0 : Int32) then fX12_carries_102 a0 a1 a2 a3 a4 rec33 (fX12_carries_64 a0 a1 a2 a3 a4 rec33 fuel) l5 l6 l7 l9 m else xLet (l6 + (1 : Int32)) fun x4 => xLet (a2 * x4) fun x5 => xLet (x5 / (10 : Int32)) fun x6 => xLet (a2 * l6) fun x7 => xLet (x7 / (10 : Int32)) fun x8 => if x6 ≤ x8 then fX12_carries_102 a0 a1 a2 a3 a4 rec33 (fX12_carries_64 a0 a1 a2 a3 a4 rec33 fuel) l5 l6 l7 l9 m else fX12_carries_103 a0 a1 a2 a3 a4 rec33 (fX12_carries_64 a0 a1 a2 a3 a4 rec33 fuel) l5 l6 l7 l9 (1 : Int32) m
set_option maxRecDepth 4000 in
theorem fX12_carries_64_ok {a0 : Nat} {a1 : Int32} {a2 : Int32} {a3 : Int32} {a4 : Int32} {rec33 : Int32 → Int32 → Int32 → xMem → Option (Int32 × xMem)} {d : Nat} (hd : 1 ≤ d) (ha0 : isModel a0) (hrec33 : ∀ (l5 : Int32) (l6 : Int32) (l7 : Int32) (o8 : Option Value) (o9 : Option Value) (o10 : Option Value) (o11 : Option Value) (q8 : xNoD o8 = true) (q9 : xNoD o9 = true) (q10 : xNoD o10 = true) (q11 : xNoD o11 = true) (m : xMem) (r : (Int32 × xMem)), rec33 l5 l6 l7 m = some r → xFx hh_232 cX12_carries d 33 [some (.ref a0), some (.int a1), some (.int a2), some (.int a3), some (.int a4), some (.int l5), some (.int l6), some (.int l7), o8, o9, o10, o11] [] (xLay m) 0 0 (some (.int r.1)) (xLay r.2)) : ∀ (fuel : Nat) (l5 : Int32) (l6 : Int32) (l7 : Int32) (l8 : Int32) (l9 : Int32) (o10 : Option Value) (o11 : Option Value) (q10 : xNoD o10 = true) (q11 : xNoD o11 = true) (m : xMem) (r : (Int32 × xMem)), fX12_carries_64 a0 a1 a2 a3 a4 rec33 fuel l5 l6 l7 l8 l9 m = some r → xFx hh_232 cX12_carries d 64 [some (.ref a0), some (.int a1), some (.int a2), some (.int a3), some (.int a4), some (.int l5), some (.int l6), some (.int l7), some (.int l8), some (.int l9), o10, o11] [] (xLay m) 0 0 (some (.int r.1)) (xLay r.2) := by
  intro fuel
  induction fuel with
  | zero => intro l5 l6 l7 l8 l9 o10 o11 q10 q11 m r  h; cases h
  | succ fuel ih =>
    intro l5 l6 l7 l8 l9 o10 o11 q10 q11 m r  h
    unfold fX12_carries_64 at h
    refine fx_iload dX12_carries_64 rfl rfl ?_
    refine fx_iconst (x := 2) dX12_carries_66 rfl (by decide) ?_
    refine fx_icmp_ge (t := 192) dX12_carries_67 rfl rfl (fun hc1 => ?_) (fun hc1 => ?_)
    · rw [if_pos hc1] at h
      exact fX12_carries_192_ok (o8 := some (.int l8)) (o9 := some (.int l9)) (o10 := o10) (o11 := o11) hd ha0 hrec33 rfl rfl q10 q11 h
    · rw [if_neg hc1] at h
      refine fx_iload dX12_carries_70 rfl rfl ?_
      refine fx_if_eq (t := 192) dX12_carries_72 rfl rfl (fun hc2 => ?_) (fun hc2 => ?_)
      · rw [if_pos hc2] at h
        exact fX12_carries_192_ok (o8 := some (.int l8)) (o9 := some (.int l9)) (o10 := o10) (o11 := o11) hd ha0 hrec33 rfl rfl q10 q11 h
      · rw [if_neg hc2] at h
        refine fx_iload_n dX12_carries_75 rfl rfl ?_
        refine fx_if_ne (t := 102) dX12_carries_76 rfl rfl (fun hc3 => ?_) (fun hc3 => ?_)
        · rw [if_pos hc3] at h
          exact fX12_carries_102_ok (o8 := some (.int l8)) (o10 := o10) (o11 := o11) hd ha0 hrec33 ih rfl q10 q11 h
        · rw [if_neg hc3] at h
          refine fx_iload_n dX12_carries_79 rfl rfl ?_
          refine fx_iload dX12_carries_80 rfl rfl ?_
          refine fx_iconst (x := 1) dX12_carries_82 rfl (by decide) ?_
          obtain ⟨x4, hx4, h⟩ := xLet_el h
          refine fx_iadd dX12_carries_83 rfl hx4 ?_
          obtain ⟨x5, hx5, h⟩ := xLet_el h
          refine fx_imul dX12_carries_84 rfl hx5 ?_
          refine fx_bipush (x := 10) dX12_carries_85 rfl (by decide) ?_
          obtain ⟨x6, hx6, h⟩ := xLet_el h
          refine fx_idiv dX12_carries_87 rfl (by decide) hx6 ?_
          refine fx_iload_n dX12_carries_88 rfl rfl ?_
          refine fx_iload dX12_carries_89 rfl rfl ?_
          obtain ⟨x7, hx7, h⟩ := xLet_el h
          refine fx_imul dX12_carries_91 rfl hx7 ?_
          refine fx_bipush (x := 10) dX12_carries_92 rfl (by decide) ?_
          obtain ⟨x8, hx8, h⟩ := xLet_el h
          refine fx_idiv dX12_carries_94 rfl (by decide) hx8 ?_
          refine fx_icmp_le (t := 102) dX12_carries_95 rfl rfl (fun hc9 => ?_) (fun hc9 => ?_)
          · rw [if_pos hc9] at h
            exact fX12_carries_102_ok (o8 := some (.int l8)) (o10 := o10) (o11 := o11) hd ha0 hrec33 ih rfl q10 q11 h
          · rw [if_neg hc9] at h
            refine fx_iconst (x := 1) dX12_carries_98 rfl (by decide) ?_
            refine fx_goto (t := 103) dX12_carries_99 rfl rfl ?_
            exact fX12_carries_103_ok (o8 := some (.int l8)) (o10 := o10) (o11 := o11) hd ha0 hrec33 ih rfl q10 q11 h
def fX12_carries_33 (a0 : Nat) (a1 : Int32) (a2 : Int32) (a3 : Int32) (a4 : Int32) : Nat → Int32 → Int32 → Int32 → xMem → Option (Int32 × xMem)
  | 0, _, _, _, _ => none
  | fuel + 1, l5, l6, l7, m => if a4 ≤ l7 then some (l5, m) else (fX12_loneMoves a0 a1 (0 : Int32) m).bind fun p2 => (fX12_loneMoves a0 a1 (1 : Int32) p2.2).bind fun p3 => xLet (p2.1 + p3.1) fun x4 => xLet (l5 + x4) fun x5 => fX12_carries_64 a0 a1 a2 a3 a4 (fX12_carries_33 a0 a1 a2 a3 a4 fuel) xFuel x5 l6 l7 (1 : Int32) (0 : Int32) p3.2
set_option maxRecDepth 4000 in
theorem fX12_carries_33_ok {a0 : Nat} {a1 : Int32} {a2 : Int32} {a3 : Int32} {a4 : Int32} {d : Nat} (hd : 1 ≤ d) (ha0 : isModel a0) : ∀ (fuel : Nat) (l5 : Int32) (l6 : Int32) (l7 : Int32) (o8 : Option Value) (o9 : Option Value) (o10 : Option Value) (o11 : Option Value) (q8 : xNoD o8 = true) (q9 : xNoD o9 = true) (q10 : xNoD o10 = true) (q11 : xNoD o11 = true) (m : xMem) (r : (Int32 × xMem)), fX12_carries_33 a0 a1 a2 a3 a4 fuel l5 l6 l7 m = some r → xFx hh_232 cX12_carries d 33 [some (.ref a0), some (.int a1), some (.int a2), some (.int a3), some (.int a4), some (.int l5), some (.int l6), some (.int l7), o8, o9, o10, o11] [] (xLay m) 0 0 (some (.int r.1)) (xLay r.2) := by
  intro fuel
  induction fuel with
  | zero => intro l5 l6 l7 o8 o9 o10 o11 q8 q9 q10 q11 m r  h; cases h
  | succ fuel ih =>
    intro l5 l6 l7 o8 o9 o10 o11 q8 q9 q10 q11 m r  h
    unfold fX12_carries_33 at h
    refine fx_iload dX12_carries_33 rfl rfl ?_
    refine fx_iload dX12_carries_35 rfl rfl ?_
    refine fx_icmp_ge (t := 198) dX12_carries_37 rfl rfl (fun hc1 => ?_) (fun hc1 => ?_)
    · rw [if_pos hc1] at h
      refine fx_iload dX12_carries_198 rfl rfl ?_
      cases h
      exact fx_ireturn dX12_carries_200 rfl rfl
    · rw [if_neg hc1] at h
      refine fx_iload dX12_carries_40 rfl rfl ?_
      refine fx_aload_n dX12_carries_42 rfl rfl ?_
      refine fx_iload_n dX12_carries_43 rfl rfl ?_
      refine fx_iconst (x := 0) dX12_carries_44 rfl (by decide) ?_
      obtain ⟨p2, ep2, h⟩ := xBind_el h
      refine gx_callv (as := [.int a1, .int (0 : Int32)]) (r := [.int l5]) rfl dX12_carries_45 ca_12_402 rfl me_233 rfl rfl rfl rfl (ha0.1) rfl (fX12_loneMoves_ok (d := d) (by omega) ha0 ep2) rfl rfl ?_
      refine fx_aload_n dX12_carries_48 rfl rfl ?_
      refine fx_iload_n dX12_carries_49 rfl rfl ?_
      refine fx_iconst (x := 1) dX12_carries_50 rfl (by decide) ?_
      obtain ⟨p3, ep3, h⟩ := xBind_el h
      refine gx_callv (as := [.int a1, .int (1 : Int32)]) (r := [.int p2.1, .int l5]) rfl dX12_carries_51 ca_12_402 rfl me_233 rfl rfl rfl rfl (ha0.1) rfl (fX12_loneMoves_ok (d := d) (by omega) ha0 ep3) rfl rfl ?_
      obtain ⟨x4, hx4, h⟩ := xLet_el h
      refine fx_iadd dX12_carries_54 rfl hx4 ?_
      obtain ⟨x5, hx5, h⟩ := xLet_el h
      refine fx_iadd dX12_carries_55 rfl hx5 ?_
      refine fx_istore (ls2 := [some (.ref a0), some (.int a1), some (.int a2), some (.int a3), some (.int a4), some (.int x5), some (.int l6), some (.int l7), o8, o9, o10, o11]) dX12_carries_56 rfl rfl rfl ?_
      refine fx_iconst (x := 1) dX12_carries_58 rfl (by decide) ?_
      refine fx_istore (ls2 := [some (.ref a0), some (.int a1), some (.int a2), some (.int a3), some (.int a4), some (.int x5), some (.int l6), some (.int l7), some (.int (1 : Int32)), o9, o10, o11]) dX12_carries_59 rfl rfl rfl ?_
      refine fx_iconst (x := 0) dX12_carries_61 rfl (by decide) ?_
      refine fx_istore (ls2 := [some (.ref a0), some (.int a1), some (.int a2), some (.int a3), some (.int a4), some (.int x5), some (.int l6), some (.int l7), some (.int (1 : Int32)), some (.int (0 : Int32)), o10, o11]) dX12_carries_62 rfl rfl rfl ?_
      exact fX12_carries_64_ok hd ha0 ih xFuel x5 l6 l7 (1 : Int32) (0 : Int32) (o10) (o11) q10 q11 p3.2 r h
def fX12_carries_3 (a0 : Nat) (a1 : Int32) (a2 : Int32) (a3 : Int32) (a4 : Int32) : Nat → Int32 → xMem → Option (Int32 × xMem)
  | 0, _, _ => none
  | fuel + 1, l5, m => if (80 : Int32) ≤ l5 then fX12_carries_33 a0 a1 a2 a3 a4 xFuel (0 : Int32) (0 : Int32) (0 : Int32) m else bif xIn l5 80 then xLet (xPut m (a0 + 23) l5.toNatClampNeg (0 : Int32)) fun m2 => xLet (l5 + (1 : Int32)) fun x4 => fX12_carries_3 a0 a1 a2 a3 a4 fuel x4 m2 else none
set_option maxRecDepth 4000 in
theorem fX12_carries_3_ok {a0 : Nat} {a1 : Int32} {a2 : Int32} {a3 : Int32} {a4 : Int32} {d : Nat} (hd : 1 ≤ d) (ha0 : isModel a0) : ∀ (fuel : Nat) (l5 : Int32) (o6 : Option Value) (o7 : Option Value) (o8 : Option Value) (o9 : Option Value) (o10 : Option Value) (o11 : Option Value) (q6 : xNoD o6 = true) (q7 : xNoD o7 = true) (q8 : xNoD o8 = true) (q9 : xNoD o9 = true) (q10 : xNoD o10 = true) (q11 : xNoD o11 = true) (m : xMem) (r : (Int32 × xMem)), fX12_carries_3 a0 a1 a2 a3 a4 fuel l5 m = some r → xFx hh_232 cX12_carries d 3 [some (.ref a0), some (.int a1), some (.int a2), some (.int a3), some (.int a4), some (.int l5), o6, o7, o8, o9, o10, o11] [] (xLay m) 0 0 (some (.int r.1)) (xLay r.2) := by
  intro fuel
  induction fuel with
  | zero => intro l5 o6 o7 o8 o9 o10 o11 q6 q7 q8 q9 q10 q11 m r  h; cases h
  | succ fuel ih =>
    intro l5 o6 o7 o8 o9 o10 o11 q6 q7 q8 q9 q10 q11 m r  h
    unfold fX12_carries_3 at h
    refine fx_iload dX12_carries_3 rfl rfl ?_
    refine fx_bipush (x := 80) dX12_carries_5 rfl (by decide) ?_
    refine fx_icmp_ge (t := 24) dX12_carries_7 rfl rfl (fun hc1 => ?_) (fun hc1 => ?_)
    · rw [if_pos hc1] at h
      refine fx_iconst (x := 0) dX12_carries_24 rfl (by decide) ?_
      refine fx_istore (ls2 := [some (.ref a0), some (.int a1), some (.int a2), some (.int a3), some (.int a4), some (.int (0 : Int32)), o6, o7, o8, o9, o10, o11]) dX12_carries_25 rfl rfl rfl ?_
      refine fx_iconst (x := 0) dX12_carries_27 rfl (by decide) ?_
      refine fx_istore (ls2 := [some (.ref a0), some (.int a1), some (.int a2), some (.int a3), some (.int a4), some (.int (0 : Int32)), some (.int (0 : Int32)), o7, o8, o9, o10, o11]) dX12_carries_28 rfl rfl rfl ?_
      refine fx_iconst (x := 0) dX12_carries_30 rfl (by decide) ?_
      refine fx_istore (ls2 := [some (.ref a0), some (.int a1), some (.int a2), some (.int a3), some (.int a4), some (.int (0 : Int32)), some (.int (0 : Int32)), some (.int (0 : Int32)), o8, o9, o10, o11]) dX12_carries_31 rfl rfl rfl ?_
      exact fX12_carries_33_ok hd ha0 xFuel (0 : Int32) (0 : Int32) (0 : Int32) (o8) (o9) (o10) (o11) q8 q9 q10 q11 m r h
    · rw [if_neg hc1] at h
      refine fx_aload_n dX12_carries_10 rfl rfl ?_
      refine gx_getr dX12_carries_11 rfl fd_12_86 ha0.1 rfl rfl ?_
      refine fx_iload dX12_carries_14 rfl rfl ?_
      refine fx_iconst (x := 0) dX12_carries_16 rfl (by decide) ?_
      obtain ⟨hj3, h⟩ := xChk_el h
      obtain ⟨m2, hm2, h⟩ := xLet_el h
      refine gx_iastore dX12_carries_17 rfl ha0.2.2.2.2.2.2.2.2.2.2.2.2.2.2.2.2.2.2.2.2.2.2.2.1 hj3 hm2 ?_
      obtain ⟨x4, hx4, h⟩ := xLet_el h
      refine fx_iinc (ls2 := [some (.ref a0), some (.int a1), some (.int a2), some (.int a3), some (.int a4), some (.int x4), o6, o7, o8, o9, o10, o11]) dX12_carries_18 rfl rfl rfl hx4 rfl ?_
      refine fx_goto (t := 3) dX12_carries_21 rfl rfl ?_
      exact ih x4 (o6) (o7) (o8) (o9) (o10) (o11) q6 q7 q8 q9 q10 q11 m2 r h
def fX12_carries_0 (a0 : Nat) (a1 : Int32) (a2 : Int32) (a3 : Int32) (a4 : Int32) (m : xMem) : Option (Int32 × xMem) := fX12_carries_3 a0 a1 a2 a3 a4 xFuel (0 : Int32) m
set_option maxRecDepth 4000 in
theorem fX12_carries_0_ok {a0 : Nat} {a1 : Int32} {a2 : Int32} {a3 : Int32} {a4 : Int32} {d : Nat} (hd : 1 ≤ d) (ha0 : isModel a0) {o5 : Option Value} {o6 : Option Value} {o7 : Option Value} {o8 : Option Value} {o9 : Option Value} {o10 : Option Value} {o11 : Option Value} {m : xMem} {r : (Int32 × xMem)} (q5 : xNoD o5 = true) (q6 : xNoD o6 = true) (q7 : xNoD o7 = true) (q8 : xNoD o8 = true) (q9 : xNoD o9 = true) (q10 : xNoD o10 = true) (q11 : xNoD o11 = true) (h : fX12_carries_0 a0 a1 a2 a3 a4 m = some r) : xFx hh_232 cX12_carries d 0 [some (.ref a0), some (.int a1), some (.int a2), some (.int a3), some (.int a4), o5, o6, o7, o8, o9, o10, o11] [] (xLay m) 0 0 (some (.int r.1)) (xLay r.2) := by
  unfold fX12_carries_0 at h
  refine fx_iconst (x := 0) dX12_carries_0 rfl (by decide) ?_
  refine fx_istore (ls2 := [some (.ref a0), some (.int a1), some (.int a2), some (.int a3), some (.int a4), some (.int (0 : Int32)), o6, o7, o8, o9, o10, o11]) dX12_carries_1 rfl rfl rfl ?_
  exact fX12_carries_3_ok hd ha0 xFuel (0 : Int32) (o6) (o7) (o8) (o9) (o10) (o11) q6 q7 q8 q9 q10 q11 m r h
def fX12_carries (a0 : Nat) (a1 : Int32) (a2 : Int32) (a3 : Int32) (a4 : Int32) (m : xMem) : Option (Int32 × xMem) := fX12_carries_0 a0 a1 a2 a3 a4  m
theorem fX12_carries_ok {a0 : Nat} {a1 : Int32} {a2 : Int32} {a3 : Int32} {a4 : Int32} {m : xMem} {r : (Int32 × xMem)} {d : Nat} (hd : 2 ≤ d) (ha0 : isModel a0) (h : fX12_carries a0 a1 a2 a3 a4 m = some r) : xEx d 232 [.ref a0, .int a1, .int a2, .int a3, .int a4] (xLay m) (some (.int r.1)) (xLay r.2) := by
  obtain ⟨d, rfl⟩ : ∃ q, d = q + 1 := ⟨d - 1, by omega⟩
  exact xEx_of me_232 rfl (fX12_carries_0_ok (d := d) (o5 := none) (o6 := none) (o7 := none) (o8 := none) (o9 := none) (o10 := none) (o11 := none) (by omega) ha0 rfl rfl rfl rfl rfl rfl rfl h)
def fX12_alone_54 (a0 : Nat) (a1 : Int32) (a2 : Int32) (a3 : Int32) (a4 : Int32) (s0 : Int32) (m : xMem) : Option (Int32 × xMem) := some (s0, m)
set_option maxRecDepth 4000 in
theorem fX12_alone_54_ok {a0 : Nat} {a1 : Int32} {a2 : Int32} {a3 : Int32} {a4 : Int32} {d : Nat} (hd : 2 ≤ d) (ha0 : isModel a0) {s0 : Int32} {m : xMem} {r : (Int32 × xMem)} (h : fX12_alone_54 a0 a1 a2 a3 a4 s0 m = some r) : xFx hh_231 cX12_alone d 54 [some (.ref a0), some (.int a1), some (.int a2), some (.int a3), some (.int a4)] [.int s0] (xLay m) 0 0 (some (.int r.1)) (xLay r.2) := by
  unfold fX12_alone_54 at h
  cases h
  exact fx_ireturn dX12_alone_54 rfl rfl
def fX12_alone_53 (a0 : Nat) (a1 : Int32) (a2 : Int32) (a3 : Int32) (a4 : Int32) (m : xMem) : Option (Int32 × xMem) := fX12_alone_54 a0 a1 a2 a3 a4 (-1 : Int32) m
set_option maxRecDepth 4000 in
theorem fX12_alone_53_ok {a0 : Nat} {a1 : Int32} {a2 : Int32} {a3 : Int32} {a4 : Int32} {d : Nat} (hd : 2 ≤ d) (ha0 : isModel a0) {m : xMem} {r : (Int32 × xMem)} (h : fX12_alone_53 a0 a1 a2 a3 a4 m = some r) : xFx hh_231 cX12_alone d 53 [some (.ref a0), some (.int a1), some (.int a2), some (.int a3), some (.int a4)] [] (xLay m) 0 0 (some (.int r.1)) (xLay r.2) := by
  unfold fX12_alone_53 at h
  refine fx_iconst (x := -1) dX12_alone_53 rfl (by decide) ?_
  exact fX12_alone_54_ok hd ha0 h
def fX12_alone_0 (a0 : Nat) (a1 : Int32) (a2 : Int32) (a3 : Int32) (a4 : Int32) (m : xMem) : Option (Int32 × xMem) := (fX12_in a1 (2 : Int32) (40 : Int32) m).bind fun p1 => if p1.1 = (0 : Int32) then fX12_alone_53 a0 a1 a2 a3 a4 p1.2 else (fX12_in a2 (0 : Int32) (10 : Int32) p1.2).bind fun p3 => if p3.1 = (0 : Int32) then fX12_alone_53 a0 a1 a2 a3 a4 p3.2 else (fX12_in a3 (0 : Int32) (1 : Int32) p3.2).bind fun p5 => if p5.1 = (0 : Int32) then fX12_alone_53 a0 a1 a2 a3 a4 p5.2 else (fX12_in a4 (1 : Int32) (999 : Int32) p5.2).bind fun p7 => if p7.1 = (0 : Int32) then fX12_alone_53 a0 a1 a2 a3 a4 p7.2 else (fX12_carries a0 a1 a2 a3 a4 p7.2).bind fun p9 => fX12_alone_54 a0 a1 a2 a3 a4 p9.1 p9.2
set_option maxRecDepth 4000 in
theorem fX12_alone_0_ok {a0 : Nat} {a1 : Int32} {a2 : Int32} {a3 : Int32} {a4 : Int32} {d : Nat} (hd : 2 ≤ d) (ha0 : isModel a0) {m : xMem} {r : (Int32 × xMem)} (h : fX12_alone_0 a0 a1 a2 a3 a4 m = some r) : xFx hh_231 cX12_alone d 0 [some (.ref a0), some (.int a1), some (.int a2), some (.int a3), some (.int a4)] [] (xLay m) 0 0 (some (.int r.1)) (xLay r.2) := by
  unfold fX12_alone_0 at h
  refine fx_iload_n dX12_alone_0 rfl rfl ?_
  refine fx_iconst (x := 2) dX12_alone_1 rfl (by decide) ?_
  refine fx_bipush (x := 40) dX12_alone_2 rfl (by decide) ?_
  obtain ⟨p1, ep1, h⟩ := xBind_el h
  refine gx_calls (as := [.int a1, .int (2 : Int32), .int (40 : Int32)]) (r := []) rfl dX12_alone_4 ca_12_95 rfl me_18 rfl rfl rfl rfl (fX12_in_ok (d := d) (by omega) ep1) rfl rfl ?_
  refine fx_if_eq (t := 53) dX12_alone_7 rfl rfl (fun hc2 => ?_) (fun hc2 => ?_)
  · rw [if_pos hc2] at h
    exact fX12_alone_53_ok hd ha0 h
  · rw [if_neg hc2] at h
    refine fx_iload_n dX12_alone_10 rfl rfl ?_
    refine fx_iconst (x := 0) dX12_alone_11 rfl (by decide) ?_
    refine fx_bipush (x := 10) dX12_alone_12 rfl (by decide) ?_
    obtain ⟨p3, ep3, h⟩ := xBind_el h
    refine gx_calls (as := [.int a2, .int (0 : Int32), .int (10 : Int32)]) (r := []) rfl dX12_alone_14 ca_12_95 rfl me_18 rfl rfl rfl rfl (fX12_in_ok (d := d) (by omega) ep3) rfl rfl ?_
    refine fx_if_eq (t := 53) dX12_alone_17 rfl rfl (fun hc4 => ?_) (fun hc4 => ?_)
    · rw [if_pos hc4] at h
      exact fX12_alone_53_ok hd ha0 h
    · rw [if_neg hc4] at h
      refine fx_iload_n dX12_alone_20 rfl rfl ?_
      refine fx_iconst (x := 0) dX12_alone_21 rfl (by decide) ?_
      refine fx_iconst (x := 1) dX12_alone_22 rfl (by decide) ?_
      obtain ⟨p5, ep5, h⟩ := xBind_el h
      refine gx_calls (as := [.int a3, .int (0 : Int32), .int (1 : Int32)]) (r := []) rfl dX12_alone_23 ca_12_95 rfl me_18 rfl rfl rfl rfl (fX12_in_ok (d := d) (by omega) ep5) rfl rfl ?_
      refine fx_if_eq (t := 53) dX12_alone_26 rfl rfl (fun hc6 => ?_) (fun hc6 => ?_)
      · rw [if_pos hc6] at h
        exact fX12_alone_53_ok hd ha0 h
      · rw [if_neg hc6] at h
        refine fx_iload dX12_alone_29 rfl rfl ?_
        refine fx_iconst (x := 1) dX12_alone_31 rfl (by decide) ?_
        refine fx_sipush (x := 999) dX12_alone_32 rfl (by decide) ?_
        obtain ⟨p7, ep7, h⟩ := xBind_el h
        refine gx_calls (as := [.int a4, .int (1 : Int32), .int (999 : Int32)]) (r := []) rfl dX12_alone_35 ca_12_95 rfl me_18 rfl rfl rfl rfl (fX12_in_ok (d := d) (by omega) ep7) rfl rfl ?_
        refine fx_if_eq (t := 53) dX12_alone_38 rfl rfl (fun hc8 => ?_) (fun hc8 => ?_)
        · rw [if_pos hc8] at h
          exact fX12_alone_53_ok hd ha0 h
        · rw [if_neg hc8] at h
          refine fx_aload_n dX12_alone_41 rfl rfl ?_
          refine fx_iload_n dX12_alone_42 rfl rfl ?_
          refine fx_iload_n dX12_alone_43 rfl rfl ?_
          refine fx_iload_n dX12_alone_44 rfl rfl ?_
          refine fx_iload dX12_alone_45 rfl rfl ?_
          obtain ⟨p9, ep9, h⟩ := xBind_el h
          refine gx_callv (as := [.int a1, .int a2, .int a3, .int a4]) (r := []) rfl dX12_alone_47 ca_12_405 rfl me_232 rfl rfl rfl rfl (ha0.1) rfl (fX12_carries_ok (d := d) (by omega) ha0 ep9) rfl rfl ?_
          refine fx_goto (t := 54) dX12_alone_50 rfl rfl ?_
          exact fX12_alone_54_ok hd ha0 h
def fX12_alone (a0 : Nat) (a1 : Int32) (a2 : Int32) (a3 : Int32) (a4 : Int32) (m : xMem) : Option (Int32 × xMem) := fX12_alone_0 a0 a1 a2 a3 a4  m
theorem fX12_alone_ok {a0 : Nat} {a1 : Int32} {a2 : Int32} {a3 : Int32} {a4 : Int32} {m : xMem} {r : (Int32 × xMem)} {d : Nat} (hd : 3 ≤ d) (ha0 : isModel a0) (h : fX12_alone a0 a1 a2 a3 a4 m = some r) : xEx d 231 [.ref a0, .int a1, .int a2, .int a3, .int a4] (xLay m) (some (.int r.1)) (xLay r.2) := by
  obtain ⟨d, rfl⟩ : ∃ q, d = q + 1 := ⟨d - 1, by omega⟩
  exact xEx_of me_231 rfl (fX12_alone_0_ok (d := d) (by omega) ha0 h)
def fX11_crossing_22 (a0 : Nat) (a1 : Int32) (a2 : Int32) : Nat → Int32 → Int32 → xMem → Option (Int32 × xMem)
  | 0, _, _, _ => none
  | fuel + 1, l3, l4, m => if (10 : Int32) < l4 then some ((-1 : Int32), m) else (fX11_carriedAlone a0 a1 l4 (0 : Int32) a2 m).bind fun p2 => if p2.1 < l3 then xLet (l4 + (1 : Int32)) fun x4 => fX11_crossing_22 a0 a1 a2 fuel l3 x4 p2.2 else some (l4, p2.2)
set_option maxRecDepth 4000 in
theorem fX11_crossing_22_ok {a0 : Nat} {a1 : Int32} {a2 : Int32} {d : Nat} (hd : 6 ≤ d) (ha0 : isMS a0) : ∀ (fuel : Nat) (l3 : Int32) (l4 : Int32) (m : xMem) (r : (Int32 × xMem)), fX11_crossing_22 a0 a1 a2 fuel l3 l4 m = some r → xFx hh_234 cX11_crossing d 22 [some (.ref a0), some (.int a1), some (.int a2), some (.int l3), some (.int l4)] [] (xLay m) 0 0 (some (.int r.1)) (xLay r.2) := by
  intro fuel
  induction fuel with
  | zero => intro l3 l4  m r  h; cases h
  | succ fuel ih =>
    intro l3 l4  m r  h
    unfold fX11_crossing_22 at h
    refine fx_iload dX11_crossing_22 rfl rfl ?_
    refine fx_bipush (x := 10) dX11_crossing_24 rfl (by decide) ?_
    refine fx_icmp_gt (t := 51) dX11_crossing_26 rfl rfl (fun hc1 => ?_) (fun hc1 => ?_)
    · rw [if_pos hc1] at h
      refine fx_iconst (x := -1) dX11_crossing_51 rfl (by decide) ?_
      cases h
      exact fx_ireturn dX11_crossing_52 rfl rfl
    · rw [if_neg hc1] at h
      refine fx_aload_n dX11_crossing_29 rfl rfl ?_
      refine fx_iload_n dX11_crossing_30 rfl rfl ?_
      refine fx_iload dX11_crossing_31 rfl rfl ?_
      refine fx_iconst (x := 0) dX11_crossing_33 rfl (by decide) ?_
      refine fx_iload_n dX11_crossing_34 rfl rfl ?_
      obtain ⟨p2, ep2, h⟩ := xBind_el h
      refine gx_callv (as := [.int a1, .int l4, .int (0 : Int32), .int a2]) (r := []) rfl dX11_crossing_35 ca_11_265 rfl me_229 rfl rfl rfl rfl (ha0.1) rfl (fX11_carriedAlone_ok (d := d) (by omega) ha0 ep2) rfl rfl ?_
      refine fx_iload_n dX11_crossing_38 rfl rfl ?_
      refine fx_icmp_lt (t := 45) dX11_crossing_39 rfl rfl (fun hc3 => ?_) (fun hc3 => ?_)
      · rw [if_pos hc3] at h
        obtain ⟨x4, hx4, h⟩ := xLet_el h
        refine fx_iinc (ls2 := [some (.ref a0), some (.int a1), some (.int a2), some (.int l3), some (.int x4)]) dX11_crossing_45 rfl rfl rfl hx4 rfl ?_
        refine fx_goto (t := 22) dX11_crossing_48 rfl rfl ?_
        exact ih l3 x4 p2.2 r h
      · rw [if_neg hc3] at h
        refine fx_iload dX11_crossing_42 rfl rfl ?_
        cases h
        exact fx_ireturn dX11_crossing_44 rfl rfl
def fX11_crossing_0 (a0 : Nat) (a1 : Int32) (a2 : Int32) (m : xMem) : Option (Int32 × xMem) := (fX11_mayStandAlone a1 a2 m).bind fun p1 => if ¬ p1.1 = (0 : Int32) then (fX11_carriedAlone a0 a1 (0 : Int32) (1 : Int32) a2 p1.2).bind fun p3 => fX11_crossing_22 a0 a1 a2 xFuel p3.1 (0 : Int32) p3.2 else some ((-1 : Int32), p1.2)
set_option maxRecDepth 4000 in
theorem fX11_crossing_0_ok {a0 : Nat} {a1 : Int32} {a2 : Int32} {d : Nat} (hd : 6 ≤ d) (ha0 : isMS a0) {o3 : Option Value} {o4 : Option Value} {m : xMem} {r : (Int32 × xMem)} (q3 : xNoD o3 = true) (q4 : xNoD o4 = true) (h : fX11_crossing_0 a0 a1 a2 m = some r) : xFx hh_234 cX11_crossing d 0 [some (.ref a0), some (.int a1), some (.int a2), o3, o4] [] (xLay m) 0 0 (some (.int r.1)) (xLay r.2) := by
  unfold fX11_crossing_0 at h
  refine fx_iload_n dX11_crossing_0 rfl rfl ?_
  refine fx_iload_n dX11_crossing_1 rfl rfl ?_
  obtain ⟨p1, ep1, h⟩ := xBind_el h
  refine gx_calls (as := [.int a1, .int a2]) (r := []) rfl dX11_crossing_2 ca_11_261 rfl me_228 rfl rfl rfl rfl (fX11_mayStandAlone_ok (d := d) (by omega) ep1) rfl rfl ?_
  refine fx_if_ne (t := 10) dX11_crossing_5 rfl rfl (fun hc2 => ?_) (fun hc2 => ?_)
  · rw [if_pos hc2] at h
    refine fx_aload_n dX11_crossing_10 rfl rfl ?_
    refine fx_iload_n dX11_crossing_11 rfl rfl ?_
    refine fx_iconst (x := 0) dX11_crossing_12 rfl (by decide) ?_
    refine fx_iconst (x := 1) dX11_crossing_13 rfl (by decide) ?_
    refine fx_iload_n dX11_crossing_14 rfl rfl ?_
    obtain ⟨p3, ep3, h⟩ := xBind_el h
    refine gx_callv (as := [.int a1, .int (0 : Int32), .int (1 : Int32), .int a2]) (r := []) rfl dX11_crossing_15 ca_11_265 rfl me_229 rfl rfl rfl rfl (ha0.1) rfl (fX11_carriedAlone_ok (d := d) (by omega) ha0 ep3) rfl rfl ?_
    refine fx_istore_n (ls2 := [some (.ref a0), some (.int a1), some (.int a2), some (.int p3.1), o4]) dX11_crossing_18 rfl rfl rfl ?_
    refine fx_iconst (x := 0) dX11_crossing_19 rfl (by decide) ?_
    refine fx_istore (ls2 := [some (.ref a0), some (.int a1), some (.int a2), some (.int p3.1), some (.int (0 : Int32))]) dX11_crossing_20 rfl rfl rfl ?_
    exact fX11_crossing_22_ok hd ha0 xFuel p3.1 (0 : Int32) p3.2 r h
  · rw [if_neg hc2] at h
    refine fx_iconst (x := -1) dX11_crossing_8 rfl (by decide) ?_
    cases h
    exact fx_ireturn dX11_crossing_9 rfl rfl
def fX11_crossing (a0 : Nat) (a1 : Int32) (a2 : Int32) (m : xMem) : Option (Int32 × xMem) := fX11_crossing_0 a0 a1 a2  m
theorem fX11_crossing_ok {a0 : Nat} {a1 : Int32} {a2 : Int32} {m : xMem} {r : (Int32 × xMem)} {d : Nat} (hd : 7 ≤ d) (ha0 : isMS a0) (h : fX11_crossing a0 a1 a2 m = some r) : xEx d 234 [.ref a0, .int a1, .int a2] (xLay m) (some (.int r.1)) (xLay r.2) := by
  obtain ⟨d, rfl⟩ : ∃ q, d = q + 1 := ⟨d - 1, by omega⟩
  exact xEx_of me_234 rfl (fX11_crossing_0_ok (d := d) (o3 := none) (o4 := none) (by omega) ha0 rfl rfl h)
def fX12_crossing_21 (a0 : Nat) (a1 : Int32) (a2 : Int32) (m : xMem) : Option (Int32 × xMem) := some ((-1 : Int32), m)
set_option maxRecDepth 4000 in
theorem fX12_crossing_21_ok {a0 : Nat} {a1 : Int32} {a2 : Int32} {d : Nat} (hd : 2 ≤ d) (ha0 : isModel a0) {o3 : Option Value} {o4 : Option Value} {m : xMem} {r : (Int32 × xMem)} (q3 : xNoD o3 = true) (q4 : xNoD o4 = true) (h : fX12_crossing_21 a0 a1 a2 m = some r) : xFx hh_235 cX12_crossing d 21 [some (.ref a0), some (.int a1), some (.int a2), o3, o4] [] (xLay m) 0 0 (some (.int r.1)) (xLay r.2) := by
  unfold fX12_crossing_21 at h
  refine fx_iconst (x := -1) dX12_crossing_21 rfl (by decide) ?_
  cases h
  exact fx_ireturn dX12_crossing_22 rfl rfl
def fX12_crossing_35 (a0 : Nat) (a1 : Int32) (a2 : Int32) : Nat → Int32 → Int32 → xMem → Option (Int32 × xMem)
  | 0, _, _, _ => none
  | fuel + 1, l3, l4, m => if (11 : Int32) ≤ l4 then some ((-1 : Int32), m) else (fX12_carries a0 a1 l4 (0 : Int32) a2 m).bind fun p2 => if p2.1 < l3 then xLet (l4 + (1 : Int32)) fun x4 => fX12_crossing_35 a0 a1 a2 fuel l3 x4 p2.2 else some (l4, p2.2)
set_option maxRecDepth 4000 in
theorem fX12_crossing_35_ok {a0 : Nat} {a1 : Int32} {a2 : Int32} {d : Nat} (hd : 2 ≤ d) (ha0 : isModel a0) : ∀ (fuel : Nat) (l3 : Int32) (l4 : Int32) (m : xMem) (r : (Int32 × xMem)), fX12_crossing_35 a0 a1 a2 fuel l3 l4 m = some r → xFx hh_235 cX12_crossing d 35 [some (.ref a0), some (.int a1), some (.int a2), some (.int l3), some (.int l4)] [] (xLay m) 0 0 (some (.int r.1)) (xLay r.2) := by
  intro fuel
  induction fuel with
  | zero => intro l3 l4  m r  h; cases h
  | succ fuel ih =>
    intro l3 l4  m r  h
    unfold fX12_crossing_35 at h
    refine fx_iload dX12_crossing_35 rfl rfl ?_
    refine fx_bipush (x := 11) dX12_crossing_37 rfl (by decide) ?_
    refine fx_icmp_ge (t := 64) dX12_crossing_39 rfl rfl (fun hc1 => ?_) (fun hc1 => ?_)
    · rw [if_pos hc1] at h
      refine fx_iconst (x := -1) dX12_crossing_64 rfl (by decide) ?_
      cases h
      exact fx_ireturn dX12_crossing_65 rfl rfl
    · rw [if_neg hc1] at h
      refine fx_aload_n dX12_crossing_42 rfl rfl ?_
      refine fx_iload_n dX12_crossing_43 rfl rfl ?_
      refine fx_iload dX12_crossing_44 rfl rfl ?_
      refine fx_iconst (x := 0) dX12_crossing_46 rfl (by decide) ?_
      refine fx_iload_n dX12_crossing_47 rfl rfl ?_
      obtain ⟨p2, ep2, h⟩ := xBind_el h
      refine gx_callv (as := [.int a1, .int l4, .int (0 : Int32), .int a2]) (r := []) rfl dX12_crossing_48 ca_12_405 rfl me_232 rfl rfl rfl rfl (ha0.1) rfl (fX12_carries_ok (d := d) (by omega) ha0 ep2) rfl rfl ?_
      refine fx_iload_n dX12_crossing_51 rfl rfl ?_
      refine fx_icmp_lt (t := 58) dX12_crossing_52 rfl rfl (fun hc3 => ?_) (fun hc3 => ?_)
      · rw [if_pos hc3] at h
        obtain ⟨x4, hx4, h⟩ := xLet_el h
        refine fx_iinc (ls2 := [some (.ref a0), some (.int a1), some (.int a2), some (.int l3), some (.int x4)]) dX12_crossing_58 rfl rfl rfl hx4 rfl ?_
        refine fx_goto (t := 35) dX12_crossing_61 rfl rfl ?_
        exact ih l3 x4 p2.2 r h
      · rw [if_neg hc3] at h
        refine fx_iload dX12_crossing_55 rfl rfl ?_
        cases h
        exact fx_ireturn dX12_crossing_57 rfl rfl
def fX12_crossing_0 (a0 : Nat) (a1 : Int32) (a2 : Int32) (m : xMem) : Option (Int32 × xMem) := (fX12_in a1 (2 : Int32) (40 : Int32) m).bind fun p1 => if p1.1 = (0 : Int32) then fX12_crossing_21 a0 a1 a2 p1.2 else (fX12_in a2 (1 : Int32) (999 : Int32) p1.2).bind fun p3 => if ¬ p3.1 = (0 : Int32) then (fX12_carries a0 a1 (0 : Int32) (1 : Int32) a2 p3.2).bind fun p5 => fX12_crossing_35 a0 a1 a2 xFuel p5.1 (0 : Int32) p5.2 else fX12_crossing_21 a0 a1 a2 p3.2
set_option maxRecDepth 4000 in
theorem fX12_crossing_0_ok {a0 : Nat} {a1 : Int32} {a2 : Int32} {d : Nat} (hd : 2 ≤ d) (ha0 : isModel a0) {o3 : Option Value} {o4 : Option Value} {m : xMem} {r : (Int32 × xMem)} (q3 : xNoD o3 = true) (q4 : xNoD o4 = true) (h : fX12_crossing_0 a0 a1 a2 m = some r) : xFx hh_235 cX12_crossing d 0 [some (.ref a0), some (.int a1), some (.int a2), o3, o4] [] (xLay m) 0 0 (some (.int r.1)) (xLay r.2) := by
  unfold fX12_crossing_0 at h
  refine fx_iload_n dX12_crossing_0 rfl rfl ?_
  refine fx_iconst (x := 2) dX12_crossing_1 rfl (by decide) ?_
  refine fx_bipush (x := 40) dX12_crossing_2 rfl (by decide) ?_
  obtain ⟨p1, ep1, h⟩ := xBind_el h
  refine gx_calls (as := [.int a1, .int (2 : Int32), .int (40 : Int32)]) (r := []) rfl dX12_crossing_4 ca_12_95 rfl me_18 rfl rfl rfl rfl (fX12_in_ok (d := d) (by omega) ep1) rfl rfl ?_
  refine fx_if_eq (t := 21) dX12_crossing_7 rfl rfl (fun hc2 => ?_) (fun hc2 => ?_)
  · rw [if_pos hc2] at h
    exact fX12_crossing_21_ok (o3 := o3) (o4 := o4) hd ha0 q3 q4 h
  · rw [if_neg hc2] at h
    refine fx_iload_n dX12_crossing_10 rfl rfl ?_
    refine fx_iconst (x := 1) dX12_crossing_11 rfl (by decide) ?_
    refine fx_sipush (x := 999) dX12_crossing_12 rfl (by decide) ?_
    obtain ⟨p3, ep3, h⟩ := xBind_el h
    refine gx_calls (as := [.int a2, .int (1 : Int32), .int (999 : Int32)]) (r := []) rfl dX12_crossing_15 ca_12_95 rfl me_18 rfl rfl rfl rfl (fX12_in_ok (d := d) (by omega) ep3) rfl rfl ?_
    refine fx_if_ne (t := 23) dX12_crossing_18 rfl rfl (fun hc4 => ?_) (fun hc4 => ?_)
    · rw [if_pos hc4] at h
      refine fx_aload_n dX12_crossing_23 rfl rfl ?_
      refine fx_iload_n dX12_crossing_24 rfl rfl ?_
      refine fx_iconst (x := 0) dX12_crossing_25 rfl (by decide) ?_
      refine fx_iconst (x := 1) dX12_crossing_26 rfl (by decide) ?_
      refine fx_iload_n dX12_crossing_27 rfl rfl ?_
      obtain ⟨p5, ep5, h⟩ := xBind_el h
      refine gx_callv (as := [.int a1, .int (0 : Int32), .int (1 : Int32), .int a2]) (r := []) rfl dX12_crossing_28 ca_12_405 rfl me_232 rfl rfl rfl rfl (ha0.1) rfl (fX12_carries_ok (d := d) (by omega) ha0 ep5) rfl rfl ?_
      refine fx_istore_n (ls2 := [some (.ref a0), some (.int a1), some (.int a2), some (.int p5.1), o4]) dX12_crossing_31 rfl rfl rfl ?_
      refine fx_iconst (x := 0) dX12_crossing_32 rfl (by decide) ?_
      refine fx_istore (ls2 := [some (.ref a0), some (.int a1), some (.int a2), some (.int p5.1), some (.int (0 : Int32))]) dX12_crossing_33 rfl rfl rfl ?_
      exact fX12_crossing_35_ok hd ha0 xFuel p5.1 (0 : Int32) p5.2 r h
    · rw [if_neg hc4] at h
      exact fX12_crossing_21_ok (o3 := o3) (o4 := o4) hd ha0 q3 q4 h
def fX12_crossing (a0 : Nat) (a1 : Int32) (a2 : Int32) (m : xMem) : Option (Int32 × xMem) := fX12_crossing_0 a0 a1 a2  m
theorem fX12_crossing_ok {a0 : Nat} {a1 : Int32} {a2 : Int32} {m : xMem} {r : (Int32 × xMem)} {d : Nat} (hd : 3 ≤ d) (ha0 : isModel a0) (h : fX12_crossing a0 a1 a2 m = some r) : xEx d 235 [.ref a0, .int a1, .int a2] (xLay m) (some (.int r.1)) (xLay r.2) := by
  obtain ⟨d, rfl⟩ : ∃ q, d = q + 1 := ⟨d - 1, by omega⟩
  exact xEx_of me_235 rfl (fX12_crossing_0_ok (d := d) (o3 := none) (o4 := none) (by omega) ha0 rfl rfl h)
def fX1_tell_38 (a0 : Nat) (a1 : Int32) (a2 : Int32) (a3 : Int32) (m : xMem) : Option (Int32 × xMem) := some ((-1 : Int32), m)
set_option maxRecDepth 4000 in
theorem fX1_tell_38_ok {a0 : Nat} {a1 : Int32} {a2 : Int32} {a3 : Int32} {d : Nat} (hd : 0 ≤ d) (ha0 : isDays a0) {o4 : Option Value} {m : xMem} {r : (Int32 × xMem)} (q4 : xNoD o4 = true) (h : fX1_tell_38 a0 a1 a2 a3 m = some r) : xFx hh_237 cX1_tell d 38 [some (.ref a0), some (.int a1), some (.int a2), some (.int a3), o4] [] (xLay m) 0 0 (some (.int r.1)) (xLay r.2) := by
  unfold fX1_tell_38 at h
  refine fx_iconst (x := -1) dX1_tell_38 rfl (by decide) ?_
  cases h
  exact fx_ireturn dX1_tell_39 rfl rfl
def fX1_tell_12 (a0 : Nat) (a1 : Int32) (a2 : Int32) (a3 : Int32) (s0 : Int32) (m : xMem) : Option (Int32 × xMem) := xLet (m.1 a0 2) fun x1 => if (40 : Int32) ≤ x1 then fX1_tell_38 a0 a1 a2 a3 m else if s0 < (0 : Int32) then fX1_tell_38 a0 a1 a2 a3 m else if s0 < (12 : Int32) then bif xIn s0 12 then xLet (m.1 (a0 + 1) s0.toNatClampNeg) fun x5 => xLet (x5 + a3) fun x7 => bif xIn s0 12 then xLet (xPut m (a0 + 1) s0.toNatClampNeg x7) fun m8 => bif xIn s0 12 then xLet (m8.1 (a0 + 2) s0.toNatClampNeg) fun x10 => xLet (x10 + (1 : Int32)) fun x12 => bif xIn s0 12 then xLet (xPut m8 (a0 + 2) s0.toNatClampNeg x12) fun m13 => xLet (m13.1 a0 2) fun x15 => xLet (x15 + (1 : Int32)) fun x16 => xLet (xPut m13 a0 2 x16) fun m17 => xLet (m17.1 a0 2) fun x18 => some (x18, m17) else none else none else none else none else fX1_tell_38 a0 a1 a2 a3 m
set_option maxRecDepth 4000 in
theorem fX1_tell_12_ok {a0 : Nat} {a1 : Int32} {a2 : Int32} {a3 : Int32} {d : Nat} (hd : 0 ≤ d) (ha0 : isDays a0) {s0 : Int32} {o4 : Option Value} {m : xMem} {r : (Int32 × xMem)} (q4 : xNoD o4 = true) (h : fX1_tell_12 a0 a1 a2 a3 s0 m = some r) : xFx hh_237 cX1_tell d 12 [some (.ref a0), some (.int a1), some (.int a2), some (.int a3), o4] [.int s0] (xLay m) 0 0 (some (.int r.1)) (xLay r.2) := by
  unfold fX1_tell_12 at h
  refine fx_istore (ls2 := [some (.ref a0), some (.int a1), some (.int a2), some (.int a3), some (.int s0)]) dX1_tell_12 rfl rfl rfl ?_
  refine fx_aload_n dX1_tell_14 rfl rfl ?_
  obtain ⟨x1, hx1, h⟩ := xLet_el h
  refine gx_get dX1_tell_15 rfl fd_1_18 ha0.1 rfl rfl hx1 ?_
  refine fx_bipush (x := 40) dX1_tell_18 rfl (by decide) ?_
  refine fx_icmp_ge (t := 38) dX1_tell_20 rfl rfl (fun hc2 => ?_) (fun hc2 => ?_)
  · rw [if_pos hc2] at h
    exact fX1_tell_38_ok (o4 := some (.int s0)) hd ha0 rfl h
  · rw [if_neg hc2] at h
    refine fx_iload dX1_tell_23 rfl rfl ?_
    refine fx_if_lt (t := 38) dX1_tell_25 rfl rfl (fun hc3 => ?_) (fun hc3 => ?_)
    · rw [if_pos hc3] at h
      exact fX1_tell_38_ok (o4 := some (.int s0)) hd ha0 rfl h
    · rw [if_neg hc3] at h
      refine fx_iload dX1_tell_28 rfl rfl ?_
      refine fx_aload_n dX1_tell_30 rfl rfl ?_
      refine gx_getr dX1_tell_31 rfl fd_1_11 ha0.1 rfl rfl ?_
      refine gx_alen (t := 1) (y := 12) dX1_tell_34 rfl ha0.2.1 rfl (by decide) ?_
      refine fx_icmp_lt (t := 40) dX1_tell_35 rfl rfl (fun hc4 => ?_) (fun hc4 => ?_)
      · rw [if_pos hc4] at h
        refine fx_aload_n dX1_tell_40 rfl rfl ?_
        refine gx_getr dX1_tell_41 rfl fd_1_11 ha0.1 rfl rfl ?_
        refine fx_iload dX1_tell_44 rfl rfl ?_
        refine fx_dup2 dX1_tell_46 rfl rfl ?_
        obtain ⟨hj6, h⟩ := xChk_el h
        obtain ⟨x5, hx5, h⟩ := xLet_el h
        refine gx_iaload dX1_tell_47 rfl ha0.2.1 hj6 hx5 ?_
        refine fx_iload_n dX1_tell_48 rfl rfl ?_
        obtain ⟨x7, hx7, h⟩ := xLet_el h
        refine fx_iadd dX1_tell_49 rfl hx7 ?_
        obtain ⟨hj9, h⟩ := xChk_el h
        obtain ⟨m8, hm8, h⟩ := xLet_el h
        refine gx_iastore dX1_tell_50 rfl ha0.2.1 hj9 hm8 ?_
        refine fx_aload_n dX1_tell_51 rfl rfl ?_
        refine gx_getr dX1_tell_52 rfl fd_1_15 ha0.1 rfl rfl ?_
        refine fx_iload dX1_tell_55 rfl rfl ?_
        refine fx_dup2 dX1_tell_57 rfl rfl ?_
        obtain ⟨hj11, h⟩ := xChk_el h
        obtain ⟨x10, hx10, h⟩ := xLet_el h
        refine gx_iaload dX1_tell_58 rfl ha0.2.2 hj11 hx10 ?_
        refine fx_iconst (x := 1) dX1_tell_59 rfl (by decide) ?_
        obtain ⟨x12, hx12, h⟩ := xLet_el h
        refine fx_iadd dX1_tell_60 rfl hx12 ?_
        obtain ⟨hj14, h⟩ := xChk_el h
        obtain ⟨m13, hm13, h⟩ := xLet_el h
        refine gx_iastore dX1_tell_61 rfl ha0.2.2 hj14 hm13 ?_
        refine fx_aload_n dX1_tell_62 rfl rfl ?_
        refine fx_dup dX1_tell_63 rfl rfl ?_
        obtain ⟨x15, hx15, h⟩ := xLet_el h
        refine gx_get dX1_tell_64 rfl fd_1_18 ha0.1 rfl rfl hx15 ?_
        refine fx_iconst (x := 1) dX1_tell_67 rfl (by decide) ?_
        obtain ⟨x16, hx16, h⟩ := xLet_el h
        refine fx_iadd dX1_tell_68 rfl hx16 ?_
        obtain ⟨m17, hm17, h⟩ := xLet_el h
        refine gx_put dX1_tell_69 rfl fd_1_18 ha0.1 rfl rfl rfl hm17 ?_
        refine fx_aload_n dX1_tell_72 rfl rfl ?_
        obtain ⟨x18, hx18, h⟩ := xLet_el h
        refine gx_get dX1_tell_73 rfl fd_1_18 ha0.1 rfl rfl hx18 ?_
        cases h
        exact fx_ireturn dX1_tell_76 rfl rfl
      · rw [if_neg hc4] at h
        exact fX1_tell_38_ok (o4 := some (.int s0)) hd ha0 rfl h
def fX1_tell_0 (a0 : Nat) (a1 : Int32) (a2 : Int32) (a3 : Int32) (m : xMem) : Option (Int32 × xMem) := if a1 = (0 : Int32) then fX1_tell_12 a0 a1 a2 a3 a2 m else xLet ((6 : Int32) + a2) fun x2 => fX1_tell_12 a0 a1 a2 a3 x2 m
set_option maxRecDepth 4000 in
theorem fX1_tell_0_ok {a0 : Nat} {a1 : Int32} {a2 : Int32} {a3 : Int32} {d : Nat} (hd : 0 ≤ d) (ha0 : isDays a0) {o4 : Option Value} {m : xMem} {r : (Int32 × xMem)} (q4 : xNoD o4 = true) (h : fX1_tell_0 a0 a1 a2 a3 m = some r) : xFx hh_237 cX1_tell d 0 [some (.ref a0), some (.int a1), some (.int a2), some (.int a3), o4] [] (xLay m) 0 0 (some (.int r.1)) (xLay r.2) := by
  unfold fX1_tell_0 at h
  refine fx_iload_n dX1_tell_0 rfl rfl ?_
  refine fx_if_eq (t := 11) dX1_tell_1 rfl rfl (fun hc1 => ?_) (fun hc1 => ?_)
  · rw [if_pos hc1] at h
    refine fx_iload_n dX1_tell_11 rfl rfl ?_
    exact fX1_tell_12_ok (o4 := o4) hd ha0 q4 h
  · rw [if_neg hc1] at h
    refine fx_bipush (x := 6) dX1_tell_4 rfl (by decide) ?_
    refine fx_iload_n dX1_tell_6 rfl rfl ?_
    obtain ⟨x2, hx2, h⟩ := xLet_el h
    refine fx_iadd dX1_tell_7 rfl hx2 ?_
    refine fx_goto (t := 12) dX1_tell_8 rfl rfl ?_
    exact fX1_tell_12_ok (o4 := o4) hd ha0 q4 h
def fX1_tell (a0 : Nat) (a1 : Int32) (a2 : Int32) (a3 : Int32) (m : xMem) : Option (Int32 × xMem) := fX1_tell_0 a0 a1 a2 a3  m
theorem fX1_tell_ok {a0 : Nat} {a1 : Int32} {a2 : Int32} {a3 : Int32} {m : xMem} {r : (Int32 × xMem)} {d : Nat} (hd : 1 ≤ d) (ha0 : isDays a0) (h : fX1_tell a0 a1 a2 a3 m = some r) : xEx d 237 [.ref a0, .int a1, .int a2, .int a3] (xLay m) (some (.int r.1)) (xLay r.2) := by
  obtain ⟨d, rfl⟩ : ∃ q, d = q + 1 := ⟨d - 1, by omega⟩
  exact xEx_of me_237 rfl (fX1_tell_0_ok (d := d) (o4 := none) (by omega) ha0 rfl h)
def fX11_day_20 (a0 : Nat) (a1 : Int32) (a2 : Int32) (a3 : Int32) (m : xMem) : Option (Int32 × xMem) := some ((-1 : Int32), m)
set_option maxRecDepth 4000 in
theorem fX11_day_20_ok {a0 : Nat} {a1 : Int32} {a2 : Int32} {a3 : Int32} {d : Nat} (hd : 1 ≤ d) (ha0 : isMS a0) {m : xMem} {r : (Int32 × xMem)} (h : fX11_day_20 a0 a1 a2 a3 m = some r) : xFx hh_236 cX11_day d 20 [some (.ref a0), some (.int a1), some (.int a2), some (.int a3)] [] (xLay m) 0 0 (some (.int r.1)) (xLay r.2) := by
  unfold fX11_day_20 at h
  refine fx_iconst (x := -1) dX11_day_20 rfl (by decide) ?_
  cases h
  exact fx_ireturn dX11_day_21 rfl rfl
def fX11_day_0 (a0 : Nat) (a1 : Int32) (a2 : Int32) (a3 : Int32) (m : xMem) : Option (Int32 × xMem) := (fX11_within a2 (0 : Int32) (5 : Int32) m).bind fun p1 => if p1.1 = (0 : Int32) then fX11_day_20 a0 a1 a2 a3 p1.2 else (fX11_within a3 (0 : Int32) (9999 : Int32) p1.2).bind fun p3 => if ¬ p3.1 = (0 : Int32) then (fX1_tell (a0 + 1 + 4) a1 a2 a3 p3.2).bind fun p5 => some (p5.1, p5.2) else fX11_day_20 a0 a1 a2 a3 p3.2
set_option maxRecDepth 4000 in
theorem fX11_day_0_ok {a0 : Nat} {a1 : Int32} {a2 : Int32} {a3 : Int32} {d : Nat} (hd : 1 ≤ d) (ha0 : isMS a0) {m : xMem} {r : (Int32 × xMem)} (h : fX11_day_0 a0 a1 a2 a3 m = some r) : xFx hh_236 cX11_day d 0 [some (.ref a0), some (.int a1), some (.int a2), some (.int a3)] [] (xLay m) 0 0 (some (.int r.1)) (xLay r.2) := by
  unfold fX11_day_0 at h
  refine fx_iload_n dX11_day_0 rfl rfl ?_
  refine fx_iconst (x := 0) dX11_day_1 rfl (by decide) ?_
  refine fx_iconst (x := 5) dX11_day_2 rfl (by decide) ?_
  obtain ⟨p1, ep1, h⟩ := xBind_el h
  refine gx_calls (as := [.int a2, .int (0 : Int32), .int (5 : Int32)]) (r := []) rfl dX11_day_3 ca_11_47 rfl me_14 rfl rfl rfl rfl (fX11_within_ok (d := d) (by omega) ep1) rfl rfl ?_
  refine fx_if_eq (t := 20) dX11_day_6 rfl rfl (fun hc2 => ?_) (fun hc2 => ?_)
  · rw [if_pos hc2] at h
    exact fX11_day_20_ok hd ha0 h
  · rw [if_neg hc2] at h
    refine fx_iload_n dX11_day_9 rfl rfl ?_
    refine fx_iconst (x := 0) dX11_day_10 rfl (by decide) ?_
    refine fx_sipush (x := 9999) dX11_day_11 rfl (by decide) ?_
    obtain ⟨p3, ep3, h⟩ := xBind_el h
    refine gx_calls (as := [.int a3, .int (0 : Int32), .int (9999 : Int32)]) (r := []) rfl dX11_day_14 ca_11_47 rfl me_14 rfl rfl rfl rfl (fX11_within_ok (d := d) (by omega) ep3) rfl rfl ?_
    refine fx_if_ne (t := 22) dX11_day_17 rfl rfl (fun hc4 => ?_) (fun hc4 => ?_)
    · rw [if_pos hc4] at h
      refine fx_aload_n dX11_day_22 rfl rfl ?_
      refine gx_getr dX11_day_23 rfl fd_11_10 ha0.1 rfl rfl ?_
      refine gx_getr dX11_day_26 rfl fd_11_271 ha0.2.1.1 rfl rfl ?_
      refine fx_iload_n dX11_day_29 rfl rfl ?_
      refine fx_iload_n dX11_day_30 rfl rfl ?_
      refine fx_iload_n dX11_day_31 rfl rfl ?_
      obtain ⟨p5, ep5, h⟩ := xBind_el h
      refine gx_callv (as := [.int a1, .int a2, .int a3]) (r := []) rfl dX11_day_32 ca_11_275 rfl me_237 rfl rfl rfl rfl (ha0.2.1.2.2.2.2.1.1) rfl (fX1_tell_ok (d := d) (by omega) ha0.2.1.2.2.2.2.1 ep5) rfl rfl ?_
      cases h
      exact fx_ireturn dX11_day_35 rfl rfl
    · rw [if_neg hc4] at h
      exact fX11_day_20_ok hd ha0 h
def fX11_day (a0 : Nat) (a1 : Int32) (a2 : Int32) (a3 : Int32) (m : xMem) : Option (Int32 × xMem) := fX11_day_0 a0 a1 a2 a3  m
theorem fX11_day_ok {a0 : Nat} {a1 : Int32} {a2 : Int32} {a3 : Int32} {m : xMem} {r : (Int32 × xMem)} {d : Nat} (hd : 2 ≤ d) (ha0 : isMS a0) (h : fX11_day a0 a1 a2 a3 m = some r) : xEx d 236 [.ref a0, .int a1, .int a2, .int a3] (xLay m) (some (.int r.1)) (xLay r.2) := by
  obtain ⟨d, rfl⟩ : ∃ q, d = q + 1 := ⟨d - 1, by omega⟩
  exact xEx_of me_236 rfl (fX11_day_0_ok (d := d) (by omega) ha0 h)
