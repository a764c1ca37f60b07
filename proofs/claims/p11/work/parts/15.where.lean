theorem bdJ7_fill_53178_0 : (decode cJ7_fill_53178 0 = .ok (.iconst 0, 1)) ∧ (decode cJ7_fill_53178 1 = .ok (.istore_n 2, 1)) ∧ (decode cJ7_fill_53178 2 = .ok (.aload_n 0, 1)) ∧ (decode cJ7_fill_53178 3 = .ok (.arraylength, 1)) ∧ (decode cJ7_fill_53178 4 = .ok (.istore_n 3, 1)) ∧ (decode cJ7_fill_53178 5 = .ok (.iload_n 2, 1)) ∧ (decode cJ7_fill_53178 6 = .ok (.iload_n 3, 1)) ∧ (decode cJ7_fill_53178 7 = .ok (.if_icmp .ge 13, 3)) ∧ (decode cJ7_fill_53178 10 = .ok (.aload_n 0, 1)) ∧ (decode cJ7_fill_53178 11 = .ok (.iload_n 2, 1)) ∧ (decode cJ7_fill_53178 12 = .ok (.iload_n 1, 1)) ∧ (decode cJ7_fill_53178 13 = .ok (.iastore, 1)) ∧ (decode cJ7_fill_53178 14 = .ok (.iinc 2 1, 3)) ∧ (decode cJ7_fill_53178 17 = .ok (.goto (-12), 3)) ∧ (decode cJ7_fill_53178 20 = .ok (.return_, 1)) := by decide +kernel
theorem dJ7_fill_53178_0 : decode cJ7_fill_53178 0 = .ok (.iconst 0, 1) := bdJ7_fill_53178_0.1
theorem dJ7_fill_53178_1 : decode cJ7_fill_53178 1 = .ok (.istore_n 2, 1) := bdJ7_fill_53178_0.2.1
theorem dJ7_fill_53178_2 : decode cJ7_fill_53178 2 = .ok (.aload_n 0, 1) := bdJ7_fill_53178_0.2.2.1
theorem dJ7_fill_53178_3 : decode cJ7_fill_53178 3 = .ok (.arraylength, 1) := bdJ7_fill_53178_0.2.2.2.1
theorem dJ7_fill_53178_4 : decode cJ7_fill_53178 4 = .ok (.istore_n 3, 1) := bdJ7_fill_53178_0.2.2.2.2.1
theorem dJ7_fill_53178_5 : decode cJ7_fill_53178 5 = .ok (.iload_n 2, 1) := bdJ7_fill_53178_0.2.2.2.2.2.1
theorem dJ7_fill_53178_6 : decode cJ7_fill_53178 6 = .ok (.iload_n 3, 1) := bdJ7_fill_53178_0.2.2.2.2.2.2.1
theorem dJ7_fill_53178_7 : decode cJ7_fill_53178 7 = .ok (.if_icmp .ge 13, 3) := bdJ7_fill_53178_0.2.2.2.2.2.2.2.1
theorem dJ7_fill_53178_10 : decode cJ7_fill_53178 10 = .ok (.aload_n 0, 1) := bdJ7_fill_53178_0.2.2.2.2.2.2.2.2.1
theorem dJ7_fill_53178_11 : decode cJ7_fill_53178 11 = .ok (.iload_n 2, 1) := bdJ7_fill_53178_0.2.2.2.2.2.2.2.2.2.1
theorem dJ7_fill_53178_12 : decode cJ7_fill_53178 12 = .ok (.iload_n 1, 1) := bdJ7_fill_53178_0.2.2.2.2.2.2.2.2.2.2.1
theorem dJ7_fill_53178_13 : decode cJ7_fill_53178 13 = .ok (.iastore, 1) := bdJ7_fill_53178_0.2.2.2.2.2.2.2.2.2.2.2.1
theorem dJ7_fill_53178_14 : decode cJ7_fill_53178 14 = .ok (.iinc 2 1, 3) := bdJ7_fill_53178_0.2.2.2.2.2.2.2.2.2.2.2.2.1
theorem dJ7_fill_53178_17 : decode cJ7_fill_53178 17 = .ok (.goto (-12), 3) := bdJ7_fill_53178_0.2.2.2.2.2.2.2.2.2.2.2.2.2.1
theorem dJ7_fill_53178_20 : decode cJ7_fill_53178 20 = .ok (.return_, 1) := bdJ7_fill_53178_0.2.2.2.2.2.2.2.2.2.2.2.2.2.2
/-! WHAT STANDS WHERE: a class and what hangs on it, by the object's place; the tables' rows that the methods use -/
abbrev isBurst (a : Nat) : Prop := xTmL[a]? = some (0, 7, [none, none, none, none, none, none, none])
abbrev isDays (a : Nat) : Prop := xTmL[a]? = some (1, 3, [some (a + 1), some (a + 2), none]) ∧ xTmL[a + 1]? = some (101, 12, []) ∧ xTmL[a + 2]? = some (101, 12, [])
abbrev isHall (a : Nat) : Prop := xTmL[a]? = some (2, 9, [some (a + 1), some (a + 2), none, none, none, none, none, none, none]) ∧ xTmL[a + 1]? = some (101, 12, []) ∧ xTmL[a + 2]? = some (101, 12, [])
abbrev isLink (a : Nat) : Prop := xTmL[a]? = some (3, 14, [some (a + 1), none, none, none, none, none, none, none, none, none, none, none, none, none]) ∧ xTmL[a + 1]? = some (101, 80, [])
abbrev isLoads (a : Nat) : Prop := xTmL[a]? = some (4, 2, [some (a + 1), none]) ∧ xTmL[a + 1]? = some (101, 60, [])
abbrev isMends (a : Nat) : Prop := xTmL[a]? = some (5, 6, [some (a + 1), some (a + 2), some (a + 3), some (a + 4), some (a + 5), none]) ∧ xTmL[a + 1]? = some (101, 6, []) ∧ xTmL[a + 2]? = some (101, 6, []) ∧ xTmL[a + 3]? = some (101, 6, []) ∧ xTmL[a + 4]? = some (101, 6, []) ∧ xTmL[a + 5]? = some (101, 64, [])
abbrev isRoutes (a : Nat) : Prop := xTmL[a]? = some (8, 3, [some (a + 1), some (a + 2), none]) ∧ xTmL[a + 1]? = some (101, 72, []) ∧ xTmL[a + 2]? = some (101, 36, [])
abbrev isMover (a : Nat) : Prop := xTmL[a]? = some (6, 2, [some (a + 1), some (a + 4)]) ∧ isRoutes (a + 1) ∧ xTmL[a + 4]? = some (101, 8, [])
abbrev isReader (a : Nat) : Prop := xTmL[a]? = some (7, 10, [some (a + 1), some (a + 2), some (a + 3), some (a + 4), none, none, none, none, none, none]) ∧ xTmL[a + 1]? = some (101, 300, []) ∧ xTmL[a + 2]? = some (101, 301, []) ∧ xTmL[a + 3]? = some (101, 301, []) ∧ xTmL[a + 4]? = some (101, 301, [])
abbrev isStation (a : Nat) : Prop := xTmL[a]? = some (9, 16, [some (a + 1), some (a + 2), some (a + 3), some (a + 4), some (a + 7), some (a + 13), none, none, none, none, none, none, none, none, none, none]) ∧ xTmL[a + 1]? = some (104, 6, [some (a + 15), some (a + 18), some (a + 21), some (a + 24), some (a + 27), some (a + 30)]) ∧ xTmL[a + 2]? = some (105, 10, [some (a + 33), some (a + 35), some (a + 37), some (a + 39), some (a + 41), some (a + 43), some (a + 45), some (a + 47), some (a + 49), some (a + 51)]) ∧ xTmL[a + 3]? = some (106, 30, [some (a + 53), some (a + 54), some (a + 55), some (a + 56), some (a + 57), some (a + 58), some (a + 59), some (a + 60), some (a + 61), some (a + 62), some (a + 63), some (a + 64), some (a + 65), some (a + 66), some (a + 67), some (a + 68), some (a + 69), some (a + 70), some (a + 71), some (a + 72), some (a + 73), some (a + 74), some (a + 75), some (a + 76), some (a + 77), some (a + 78), some (a + 79), some (a + 80), some (a + 81), some (a + 82)]) ∧ isDays (a + 4) ∧ isMends (a + 7) ∧ isLoads (a + 13) ∧ (∀ i, i < 6 → isHall (a + 15 + 3 * i)) ∧ (∀ i, i < 10 → isLink (a + 33 + 2 * i)) ∧ (∀ i, i < 30 → isBurst (a + 53 + 1 * i))
abbrev isText (a : Nat) : Prop := xTmL[a]? = some (10, 7, [some (a + 1), some (a + 2), some (a + 3), some (a + 4), some (a + 5), none, none]) ∧ xTmL[a + 1]? = some (101, 300, []) ∧ xTmL[a + 2]? = some (101, 300, []) ∧ xTmL[a + 3]? = some (101, 10, []) ∧ xTmL[a + 4]? = some (101, 10, []) ∧ xTmL[a + 5]? = some (101, 300, [])
abbrev isMS (a : Nat) : Prop := xTmL[a]? = some (11, 7, [some (a + 1), some (a + 84), some (a + 167), some (a + 250), some (a + 255), some (a + 260), some (a + 266)]) ∧ isStation (a + 1) ∧ isStation (a + 84) ∧ isStation (a + 167) ∧ isMover (a + 250) ∧ isReader (a + 255) ∧ isText (a + 260) ∧ xTmL[a + 266]? = some (107, 4, [some (a + 267), some (a + 273), some (a + 279), some (a + 285)]) ∧ (∀ i, i < 4 → isText (a + 267 + 6 * i))
abbrev isModel (a : Nat) : Prop := xTmL[a]? = some (12, 42, [some (a + 1), some (a + 2), some (a + 3), some (a + 4), none, none, none, some (a + 5), some (a + 6), some (a + 7), some (a + 8), some (a + 9), none, none, none, none, none, none, none, none, none, some (a + 10), some (a + 11), none, some (a + 12), some (a + 13), none, none, none, some (a + 14), some (a + 15), none, some (a + 16), some (a + 17), some (a + 18), some (a + 19), some (a + 20), some (a + 21), some (a + 22), some (a + 23), some (a + 24), some (a + 25)]) ∧ xTmL[a + 1]? = some (101, 1610, []) ∧ xTmL[a + 2]? = some (101, 1610, []) ∧ xTmL[a + 3]? = some (101, 1610, []) ∧ xTmL[a + 4]? = some (100, 300, []) ∧ xTmL[a + 5]? = some (101, 4, []) ∧ xTmL[a + 6]? = some (101, 40, []) ∧ xTmL[a + 7]? = some (101, 40, []) ∧ xTmL[a + 8]? = some (101, 1600, []) ∧ xTmL[a + 9]? = some (101, 1600, []) ∧ xTmL[a + 10]? = some (101, 40, []) ∧ xTmL[a + 11]? = some (101, 41, []) ∧ xTmL[a + 12]? = some (101, 80, []) ∧ xTmL[a + 13]? = some (101, 80, []) ∧ xTmL[a + 14]? = some (101, 10, []) ∧ xTmL[a + 15]? = some (101, 10, []) ∧ xTmL[a + 16]? = some (101, 400, []) ∧ xTmL[a + 17]? = some (101, 400, []) ∧ xTmL[a + 18]? = some (101, 8, []) ∧ xTmL[a + 19]? = some (102, 200, []) ∧ xTmL[a + 20]? = some (103, 6, []) ∧ xTmL[a + 21]? = some (101, 72, []) ∧ xTmL[a + 22]? = some (101, 6, []) ∧ xTmL[a + 23]? = some (101, 80, []) ∧ xTmL[a + 24]? = some (101, 81, []) ∧ xTmL[a + 25]? = some (101, 81, [])
theorem sl_9_0 (a : Nat) : ∀ i, i < 6 → ([some (a + 15), some (a + 18), some (a + 21), some (a + 24), some (a + 27), some (a + 30)] : List (Option Nat))[i]? = some (some (a + 15 + 3 * i)) := fun i hi => by
  rcases (show i = 0 ∨ i = 1 ∨ i = 2 ∨ i = 3 ∨ i = 4 ∨ i = 5 by omega) with rfl | rfl | rfl | rfl | rfl | rfl <;> rfl
theorem sl_9_1 (a : Nat) : ∀ i, i < 10 → ([some (a + 33), some (a + 35), some (a + 37), some (a + 39), some (a + 41), some (a + 43), some (a + 45), some (a + 47), some (a + 49), some (a + 51)] : List (Option Nat))[i]? = some (some (a + 33 + 2 * i)) := fun i hi => by
  rcases (show i = 0 ∨ i = 1 ∨ i = 2 ∨ i = 3 ∨ i = 4 ∨ i = 5 ∨ i = 6 ∨ i = 7 ∨ i = 8 ∨ i = 9 by omega) with rfl | rfl | rfl | rfl | rfl | rfl | rfl | rfl | rfl | rfl <;> rfl
theorem sl_9_2 (a : Nat) : ∀ i, i < 30 → ([some (a + 53), some (a + 54), some (a + 55), some (a + 56), some (a + 57), some (a + 58), some (a + 59), some (a + 60), some (a + 61), some (a + 62), some (a + 63), some (a + 64), some (a + 65), some (a + 66), some (a + 67), some (a + 68), some (a + 69), some (a + 70), some (a + 71), some (a + 72), some (a + 73), some (a + 74), some (a + 75), some (a + 76), some (a + 77), some (a + 78), some (a + 79), some (a + 80), some (a + 81), some (a + 82)] : List (Option Nat))[i]? = some (some (a + 53 + 1 * i)) := fun i hi => by
  rcases (show i = 0 ∨ i = 1 ∨ i = 2 ∨ i = 3 ∨ i = 4 ∨ i = 5 ∨ i = 6 ∨ i = 7 ∨ i = 8 ∨ i = 9 ∨ i = 10 ∨ i = 11 ∨ i = 12 ∨ i = 13 ∨ i = 14 ∨ i = 15 ∨ i = 16 ∨ i = 17 ∨ i = 18 ∨ i = 19 ∨ i = 20 ∨ i = 21 ∨ i = 22 ∨ i = 23 ∨ i = 24 ∨ i = 25 ∨ i = 26 ∨ i = 27 ∨ i = 28 ∨ i = 29 by omega) with rfl | rfl | rfl | rfl | rfl | rfl | rfl | rfl | rfl | rfl | rfl | rfl | rfl | rfl | rfl | rfl | rfl | rfl | rfl | rfl | rfl | rfl | rfl | rfl | rfl | rfl | rfl | rfl | rfl | rfl <;> rfl
theorem sl_11_6 (a : Nat) : ∀ i, i < 4 → ([some (a + 267), some (a + 273), some (a + 279), some (a + 285)] : List (Option Nat))[i]? = some (some (a + 267 + 6 * i)) := fun i hi => by
  rcases (show i = 0 ∨ i = 1 ∨ i = 2 ∨ i = 3 by omega) with rfl | rfl | rfl | rfl <;> rfl
abbrev isNames (a : Nat) : Prop := xTmL[a]? = some (101, 8, [])
def xFuel : Nat := 5000000000
/-- no long -/
def xNoD (o : Option Value) : Bool := match o with
  | some v => v.category == 1
  | none => true
theorem xGd {ls : xL} {i j : Nat} {o : Option Value} (hj : j + 1 = i) (h : ls[j]? = some o) (q : xNoD o = true) (hl : decide (i < ls.length) = true) : (xNo2 ls i && decide (i < ls.length)) = true := by
  subst hj
  rw [hl, Bool.and_true]
  unfold xNo2
  simp only [h]
  cases o with
  | none => rfl
  | some v => exact q
theorem xIn_lt {j : Int32} {n : Nat} (h : xIn j n = true) : j.toNatClampNeg < n := by
  unfold xIn at h
  simp only [Bool.and_eq_true, decide_eq_true_eq] at h
  exact h.2
theorem fd_0_7 : xFld 0 7 = some (7, 0, 0, 1231) := by decide +kernel
theorem fd_0_13 : xFld 0 13 = some (13, 0, 1, 1233) := by decide +kernel
theorem fd_0_16 : xFld 0 16 = some (16, 0, 2, 1235) := by decide +kernel
theorem fd_0_19 : xFld 0 19 = some (19, 0, 3, 1238) := by decide +kernel
theorem fd_0_22 : xFld 0 22 = some (22, 0, 4, 2001) := by decide +kernel
theorem fd_0_25 : xFld 0 25 = some (25, 0, 5, 2004) := by decide +kernel
theorem fd_0_28 : xFld 0 28 = some (28, 0, 6, 2007) := by decide +kernel
theorem fd_1_11 : xFld 1 11 = some (11, 1, 0, 1048) := by decide +kernel
theorem fd_1_15 : xFld 1 15 = some (15, 1, 1, 1049) := by decide +kernel
theorem fd_1_18 : xFld 1 18 = some (18, 1, 2, 1050) := by decide +kernel
theorem fd_2_9 : xFld 2 9 = some (9, 2, 0, 1106) := by decide +kernel
theorem fd_2_15 : xFld 2 15 = some (15, 2, 1, 1108) := by decide +kernel
theorem fd_2_18 : xFld 2 18 = some (18, 2, 2, 1110) := by decide +kernel
theorem fd_2_22 : xFld 2 22 = some (22, 2, 3, 1113) := by decide +kernel
theorem fd_2_25 : xFld 2 25 = some (25, 2, 4, 1116) := by decide +kernel
theorem fd_2_28 : xFld 2 28 = some (28, 2, 5, 1120) := by decide +kernel
theorem fd_2_31 : xFld 2 31 = some (31, 2, 6, 1123) := by decide +kernel
theorem fd_2_34 : xFld 2 34 = some (34, 2, 7, 1126) := by decide +kernel
theorem fd_2_37 : xFld 2 37 = some (37, 2, 8, 1129) := by decide +kernel
theorem fd_3_9 : xFld 3 9 = some (9, 3, 0, 1155) := by decide +kernel
theorem fd_3_15 : xFld 3 15 = some (15, 3, 1, 1156) := by decide +kernel
theorem fd_3_19 : xFld 3 19 = some (19, 3, 2, 1160) := by decide +kernel
theorem fd_3_22 : xFld 3 22 = some (22, 3, 3, 1163) := by decide +kernel
theorem fd_3_25 : xFld 3 25 = some (25, 3, 4, 1166) := by decide +kernel
theorem fd_3_28 : xFld 3 28 = some (28, 3, 5, 1169) := by decide +kernel
theorem fd_3_31 : xFld 3 31 = some (31, 3, 6, 1171) := by decide +kernel
theorem fd_3_34 : xFld 3 34 = some (34, 3, 7, 1175) := by decide +kernel
theorem fd_3_37 : xFld 3 37 = some (37, 3, 8, 1178) := by decide +kernel
theorem fd_3_40 : xFld 3 40 = some (40, 3, 9, 1182) := by decide +kernel
theorem fd_3_43 : xFld 3 43 = some (43, 3, 10, 1185) := by decide +kernel
theorem fd_3_46 : xFld 3 46 = some (46, 3, 11, 1188) := by decide +kernel
theorem fd_3_49 : xFld 3 49 = some (49, 3, 12, 1191) := by decide +kernel
theorem fd_3_53 : xFld 3 53 = some (53, 3, 13, 1194) := by decide +kernel
theorem fd_4_11 : xFld 4 11 = some (11, 4, 0, 1093) := by decide +kernel
theorem fd_4_15 : xFld 4 15 = some (15, 4, 1, 1094) := by decide +kernel
theorem fd_5_11 : xFld 5 11 = some (11, 5, 0, 1066) := by decide +kernel
theorem fd_5_15 : xFld 5 15 = some (15, 5, 1, 1067) := by decide +kernel
theorem fd_5_18 : xFld 5 18 = some (18, 5, 2, 1068) := by decide +kernel
theorem fd_5_21 : xFld 5 21 = some (21, 5, 3, 1069) := by decide +kernel
theorem fd_5_24 : xFld 5 24 = some (24, 5, 4, 1070) := by decide +kernel
theorem fd_5_27 : xFld 5 27 = some (27, 5, 5, 1072) := by decide +kernel
theorem fd_6_12 : xFld 6 12 = some (12, 6, 0, 2124) := by decide +kernel
theorem fd_6_20 : xFld 6 20 = some (20, 6, 1, 2126) := by decide +kernel
theorem fd_6_47 : xFld 6 47 = some (47, 9, 6, 2041) := by decide +kernel
theorem fd_6_53 : xFld 6 53 = some (53, 9, 9, 2051) := by decide +kernel
theorem fd_6_56 : xFld 6 56 = some (56, 9, 2, 2033) := by decide +kernel
theorem fd_6_66 : xFld 6 66 = some (66, 0, 2, 1236) := by decide +kernel
theorem fd_6_72 : xFld 6 72 = some (72, 0, 6, 2008) := by decide +kernel
theorem fd_6_76 : xFld 6 76 = some (76, 0, 3, 1239) := by decide +kernel
theorem fd_6_79 : xFld 6 79 = some (79, 0, 5, 2005) := by decide +kernel
theorem fd_6_82 : xFld 6 82 = some (82, 0, 4, 2002) := by decide +kernel
theorem fd_6_93 : xFld 6 93 = some (93, 9, 14, 2063) := by decide +kernel
theorem fd_6_96 : xFld 6 96 = some (96, 9, 0, 2027) := by decide +kernel
theorem fd_6_106 : xFld 6 106 = some (106, 2, 4, 1117) := by decide +kernel
theorem fd_6_109 : xFld 6 109 = some (109, 2, 2, 1111) := by decide +kernel
theorem fd_6_112 : xFld 6 112 = some (112, 2, 5, 1121) := by decide +kernel
theorem fd_6_119 : xFld 6 119 = some (119, 9, 7, 2046) := by decide +kernel
theorem fd_6_122 : xFld 6 122 = some (122, 2, 3, 1115) := by decide +kernel
theorem fd_6_125 : xFld 6 125 = some (125, 2, 8, 1130) := by decide +kernel
theorem fd_6_132 : xFld 6 132 = some (132, 2, 1, 1109) := by decide +kernel
theorem fd_6_141 : xFld 6 141 = some (141, 9, 8, 2050) := by decide +kernel
theorem fd_6_144 : xFld 6 144 = some (144, 9, 1, 2031) := by decide +kernel
theorem fd_6_148 : xFld 6 148 = some (148, 3, 9, 1183) := by decide +kernel
theorem fd_6_151 : xFld 6 151 = some (151, 3, 7, 1176) := by decide +kernel
theorem fd_6_154 : xFld 6 154 = some (154, 3, 6, 1173) := by decide +kernel
theorem fd_6_157 : xFld 6 157 = some (157, 3, 1, 1159) := by decide +kernel
theorem fd_6_158 : xFld 6 158 = some (158, 3, 5, 1170) := by decide +kernel
theorem fd_6_161 : xFld 6 161 = some (161, 3, 2, 1162) := by decide +kernel
theorem fd_6_164 : xFld 6 164 = some (164, 3, 3, 1165) := by decide +kernel
theorem fd_6_189 : xFld 6 189 = some (189, 3, 4, 1167) := by decide +kernel
theorem fd_6_201 : xFld 6 201 = some (201, 3, 10, 1186) := by decide +kernel
theorem fd_6_204 : xFld 6 204 = some (204, 3, 11, 1189) := by decide +kernel
theorem fd_6_214 : xFld 6 214 = some (214, 3, 8, 1181) := by decide +kernel
theorem fd_6_225 : xFld 6 225 = some (225, 3, 12, 1192) := by decide +kernel
theorem fd_6_228 : xFld 6 228 = some (228, 3, 13, 1196) := by decide +kernel
theorem fd_6_238 : xFld 6 238 = some (238, 9, 15, 2067) := by decide +kernel
theorem fd_6_265 : xFld 6 265 = some (265, 9, 13, 2061) := by decide +kernel
theorem fd_6_268 : xFld 6 268 = some (268, 2, 6, 1125) := by decide +kernel
theorem fd_6_271 : xFld 6 271 = some (271, 2, 7, 1128) := by decide +kernel
theorem fd_7_11 : xFld 7 11 = some (11, 7, 0, 2138) := by decide +kernel
theorem fd_7_15 : xFld 7 15 = some (15, 7, 1, 2139) := by decide +kernel
theorem fd_7_18 : xFld 7 18 = some (18, 7, 2, 2140) := by decide +kernel
theorem fd_7_21 : xFld 7 21 = some (21, 7, 3, 2141) := by decide +kernel
theorem fd_7_24 : xFld 7 24 = some (24, 7, 5, 2144) := by decide +kernel
theorem fd_7_28 : xFld 7 28 = some (28, 7, 6, 2146) := by decide +kernel
theorem fd_7_31 : xFld 7 31 = some (31, 7, 4, 2142) := by decide +kernel
theorem fd_7_37 : xFld 7 37 = some (37, 7, 8, 2149) := by decide +kernel
theorem fd_7_40 : xFld 7 40 = some (40, 10, 5, 2184) := by decide +kernel
theorem fd_7_45 : xFld 7 45 = some (45, 10, 6, 2186) := by decide +kernel
theorem fd_7_48 : xFld 7 48 = some (48, 7, 7, 2148) := by decide +kernel
theorem fd_7_104 : xFld 7 104 = some (104, 7, 9, 2150) := by decide +kernel
theorem fd_8_11 : xFld 8 11 = some (11, 8, 0, 2114) := by decide +kernel
theorem fd_8_15 : xFld 8 15 = some (15, 8, 1, 2115) := by decide +kernel
theorem fd_8_18 : xFld 8 18 = some (18, 8, 2, 2116) := by decide +kernel
theorem fd_8_22 : xFld 8 22 = some (22, 9, 8, 2048) := by decide +kernel
theorem fd_8_27 : xFld 8 27 = some (27, 9, 1, 2029) := by decide +kernel
theorem fd_8_37 : xFld 8 37 = some (37, 3, 6, 1172) := by decide +kernel
theorem fd_8_51 : xFld 8 51 = some (51, 3, 2, 1161) := by decide +kernel
theorem fd_8_58 : xFld 8 58 = some (58, 3, 3, 1164) := by decide +kernel
theorem fd_8_77 : xFld 8 77 = some (77, 3, 1, 1158) := by decide +kernel
theorem fd_9_11 : xFld 9 11 = some (11, 9, 0, 2025) := by decide +kernel
theorem fd_9_19 : xFld 9 19 = some (19, 9, 1, 2028) := by decide +kernel
theorem fd_9_25 : xFld 9 25 = some (25, 9, 2, 2032) := by decide +kernel
theorem fd_9_32 : xFld 9 32 = some (32, 9, 3, 2035) := by decide +kernel
theorem fd_9_39 : xFld 9 39 = some (39, 9, 4, 2037) := by decide +kernel
theorem fd_9_46 : xFld 9 46 = some (46, 9, 5, 2039) := by decide +kernel
theorem fd_9_50 : xFld 9 50 = some (50, 9, 11, 2056) := by decide +kernel
theorem fd_9_57 : xFld 9 57 = some (57, 9, 7, 2044) := by decide +kernel
theorem fd_9_60 : xFld 9 60 = some (60, 9, 8, 2047) := by decide +kernel
theorem fd_9_67 : xFld 9 67 = some (67, 3, 1, 1157) := by decide +kernel
theorem fd_9_77 : xFld 9 77 = some (77, 2, 4, 1118) := by decide +kernel
theorem fd_9_80 : xFld 9 80 = some (80, 2, 2, 1112) := by decide +kernel
theorem fd_9_83 : xFld 9 83 = some (83, 9, 12, 2058) := by decide +kernel
theorem fd_9_94 : xFld 9 94 = some (94, 9, 10, 2054) := by decide +kernel
theorem fd_9_107 : xFld 9 107 = some (107, 9, 6, 2042) := by decide +kernel
theorem fd_9_110 : xFld 9 110 = some (110, 9, 9, 2053) := by decide +kernel
theorem fd_9_113 : xFld 9 113 = some (113, 9, 13, 2060) := by decide +kernel
theorem fd_9_116 : xFld 9 116 = some (116, 9, 14, 2064) := by decide +kernel
theorem fd_9_119 : xFld 9 119 = some (119, 9, 15, 2066) := by decide +kernel
theorem fd_9_138 : xFld 9 138 = some (138, 3, 8, 1180) := by decide +kernel
theorem fd_10_9 : xFld 10 9 = some (9, 10, 0, 2178) := by decide +kernel
theorem fd_10_15 : xFld 10 15 = some (15, 10, 1, 2179) := by decide +kernel
theorem fd_10_18 : xFld 10 18 = some (18, 10, 2, 2180) := by decide +kernel
theorem fd_10_21 : xFld 10 21 = some (21, 10, 3, 2181) := by decide +kernel
theorem fd_10_24 : xFld 10 24 = some (24, 10, 4, 2182) := by decide +kernel
theorem fd_10_27 : xFld 10 27 = some (27, 10, 5, 2183) := by decide +kernel
theorem fd_10_31 : xFld 10 31 = some (31, 10, 6, 2185) := by decide +kernel
theorem fd_11_10 : xFld 11 10 = some (10, 11, 0, 2203) := by decide +kernel
theorem fd_11_16 : xFld 11 16 = some (16, 11, 1, 2204) := by decide +kernel
theorem fd_11_19 : xFld 11 19 = some (19, 11, 2, 2205) := by decide +kernel
theorem fd_11_25 : xFld 11 25 = some (25, 11, 3, 2206) := by decide +kernel
theorem fd_11_32 : xFld 11 32 = some (32, 11, 4, 2207) := by decide +kernel
theorem fd_11_39 : xFld 11 39 = some (39, 11, 5, 2208) := by decide +kernel
theorem fd_11_43 : xFld 11 43 = some (43, 11, 6, 2209) := by decide +kernel
theorem fd_11_51 : xFld 11 51 = some (51, 9, 7, 2045) := by decide +kernel
theorem fd_11_55 : xFld 11 55 = some (55, 9, 0, 2026) := by decide +kernel
theorem fd_11_69 : xFld 11 69 = some (69, 2, 3, 1114) := by decide +kernel
theorem fd_11_72 : xFld 11 72 = some (72, 9, 8, 2049) := by decide +kernel
theorem fd_11_75 : xFld 11 75 = some (75, 9, 1, 2030) := by decide +kernel
theorem fd_11_93 : xFld 11 93 = some (93, 3, 8, 1179) := by decide +kernel
theorem fd_11_99 : xFld 11 99 = some (99, 3, 13, 1195) := by decide +kernel
theorem fd_11_104 : xFld 11 104 = some (104, 9, 9, 2052) := by decide +kernel
theorem fd_11_107 : xFld 11 107 = some (107, 9, 2, 2034) := by decide +kernel
theorem fd_11_111 : xFld 11 111 = some (111, 0, 0, 1232) := by decide +kernel
theorem fd_11_116 : xFld 11 116 = some (116, 0, 1, 1234) := by decide +kernel
theorem fd_11_119 : xFld 11 119 = some (119, 0, 2, 1237) := by decide +kernel
theorem fd_11_122 : xFld 11 122 = some (122, 0, 3, 2000) := by decide +kernel
theorem fd_11_125 : xFld 11 125 = some (125, 0, 4, 2003) := by decide +kernel
theorem fd_11_128 : xFld 11 128 = some (128, 0, 5, 2006) := by decide +kernel
theorem fd_11_131 : xFld 11 131 = some (131, 0, 6, 2009) := by decide +kernel
theorem fd_11_140 : xFld 11 140 = some (140, 7, 4, 2143) := by decide +kernel
theorem fd_11_143 : xFld 11 143 = some (143, 9, 10, 2055) := by decide +kernel
theorem fd_11_150 : xFld 11 150 = some (150, 7, 5, 2145) := by decide +kernel
theorem fd_11_153 : xFld 11 153 = some (153, 7, 6, 2147) := by decide +kernel
theorem fd_11_156 : xFld 11 156 = some (156, 9, 11, 2057) := by decide +kernel
theorem fd_11_173 : xFld 11 173 = some (173, 9, 6, 2043) := by decide +kernel
theorem fd_11_174 : xFld 11 174 = some (174, 2, 0, 1107) := by decide +kernel
theorem fd_11_178 : xFld 11 178 = some (178, 2, 4, 1119) := by decide +kernel
theorem fd_11_181 : xFld 11 181 = some (181, 2, 5, 1122) := by decide +kernel
theorem fd_11_184 : xFld 11 184 = some (184, 2, 6, 1124) := by decide +kernel
theorem fd_11_187 : xFld 11 187 = some (187, 2, 7, 1127) := by decide +kernel
theorem fd_11_190 : xFld 11 190 = some (190, 3, 9, 1184) := by decide +kernel
theorem fd_11_191 : xFld 11 191 = some (191, 3, 6, 1174) := by decide +kernel
theorem fd_11_194 : xFld 11 194 = some (194, 3, 12, 1193) := by decide +kernel
theorem fd_11_197 : xFld 11 197 = some (197, 3, 7, 1177) := by decide +kernel
theorem fd_11_200 : xFld 11 200 = some (200, 3, 10, 1187) := by decide +kernel
theorem fd_11_203 : xFld 11 203 = some (203, 3, 11, 1190) := by decide +kernel
theorem fd_11_206 : xFld 11 206 = some (206, 3, 4, 1168) := by decide +kernel
theorem fd_11_211 : xFld 11 211 = some (211, 6, 0, 2125) := by decide +kernel
theorem fd_11_225 : xFld 11 225 = some (225, 9, 12, 2059) := by decide +kernel
theorem fd_11_228 : xFld 11 228 = some (228, 9, 13, 2062) := by decide +kernel
theorem fd_11_231 : xFld 11 231 = some (231, 9, 14, 2065) := by decide +kernel
theorem fd_11_234 : xFld 11 234 = some (234, 9, 15, 2068) := by decide +kernel
theorem fd_11_271 : xFld 11 271 = some (271, 9, 3, 2036) := by decide +kernel
theorem fd_11_282 : xFld 11 282 = some (282, 9, 4, 2038) := by decide +kernel
theorem fd_11_290 : xFld 11 290 = some (290, 5, 5, 1073) := by decide +kernel
theorem fd_11_294 : xFld 11 294 = some (294, 5, 4, 1071) := by decide +kernel
theorem fd_11_301 : xFld 11 301 = some (301, 9, 5, 2040) := by decide +kernel
theorem fd_11_309 : xFld 11 309 = some (309, 4, 1, 1095) := by decide +kernel
theorem fd_11_317 : xFld 11 317 = some (317, 1, 2, 1051) := by decide +kernel
theorem fd_12_7 : xFld 12 7 = some (7, 12, 0, 5182) := by decide +kernel
theorem fd_12_13 : xFld 12 13 = some (13, 12, 1, 5183) := by decide +kernel
theorem fd_12_16 : xFld 12 16 = some (16, 12, 2, 5184) := by decide +kernel
theorem fd_12_19 : xFld 12 19 = some (19, 12, 3, 5185) := by decide +kernel
theorem fd_12_23 : xFld 12 23 = some (23, 12, 5, 5187) := by decide +kernel
theorem fd_12_27 : xFld 12 27 = some (27, 12, 6, 5188) := by decide +kernel
theorem fd_12_30 : xFld 12 30 = some (30, 12, 7, 5189) := by decide +kernel
theorem fd_12_33 : xFld 12 33 = some (33, 12, 8, 5190) := by decide +kernel
theorem fd_12_36 : xFld 12 36 = some (36, 12, 9, 5191) := by decide +kernel
theorem fd_12_39 : xFld 12 39 = some (39, 12, 10, 5192) := by decide +kernel
theorem fd_12_42 : xFld 12 42 = some (42, 12, 11, 5193) := by decide +kernel
theorem fd_12_45 : xFld 12 45 = some (45, 12, 21, 5203) := by decide +kernel
theorem fd_12_48 : xFld 12 48 = some (48, 12, 22, 5204) := by decide +kernel
theorem fd_12_51 : xFld 12 51 = some (51, 12, 24, 5206) := by decide +kernel
theorem fd_12_54 : xFld 12 54 = some (54, 12, 25, 5207) := by decide +kernel
theorem fd_12_57 : xFld 12 57 = some (57, 12, 29, 5211) := by decide +kernel
theorem fd_12_60 : xFld 12 60 = some (60, 12, 30, 5212) := by decide +kernel
theorem fd_12_63 : xFld 12 63 = some (63, 12, 32, 5214) := by decide +kernel
theorem fd_12_66 : xFld 12 66 = some (66, 12, 33, 5215) := by decide +kernel
theorem fd_12_69 : xFld 12 69 = some (69, 12, 34, 5216) := by decide +kernel
theorem fd_12_72 : xFld 12 72 = some (72, 12, 35, 5217) := by decide +kernel
theorem fd_12_76 : xFld 12 76 = some (76, 12, 36, 5218) := by decide +kernel
theorem fd_12_80 : xFld 12 80 = some (80, 12, 37, 5219) := by decide +kernel
theorem fd_12_83 : xFld 12 83 = some (83, 12, 38, 5220) := by decide +kernel
theorem fd_12_86 : xFld 12 86 = some (86, 12, 39, 5221) := by decide +kernel
theorem fd_12_89 : xFld 12 89 = some (89, 12, 40, 5222) := by decide +kernel
theorem fd_12_92 : xFld 12 92 = some (92, 12, 41, 5223) := by decide +kernel
theorem fd_12_122 : xFld 12 122 = some (122, 12, 4, 5186) := by decide +kernel
theorem fd_12_157 : xFld 12 157 = some (157, 12, 13, 5195) := by decide +kernel
theorem fd_12_160 : xFld 12 160 = some (160, 12, 12, 5194) := by decide +kernel
theorem fd_12_163 : xFld 12 163 = some (163, 12, 14, 5196) := by decide +kernel
theorem fd_12_166 : xFld 12 166 = some (166, 12, 15, 5197) := by decide +kernel
theorem fd_12_178 : xFld 12 178 = some (178, 12, 16, 5198) := by decide +kernel
theorem fd_12_181 : xFld 12 181 = some (181, 12, 17, 5199) := by decide +kernel
theorem fd_12_184 : xFld 12 184 = some (184, 12, 18, 5200) := by decide +kernel
theorem fd_12_187 : xFld 12 187 = some (187, 12, 31, 5213) := by decide +kernel
theorem fd_12_190 : xFld 12 190 = some (190, 12, 20, 5202) := by decide +kernel
theorem fd_12_193 : xFld 12 193 = some (193, 12, 19, 5201) := by decide +kernel
theorem fd_12_205 : xFld 12 205 = some (205, 12, 23, 5205) := by decide +kernel
theorem fd_12_224 : xFld 12 224 = some (224, 12, 26, 5208) := by decide +kernel
theorem fd_12_230 : xFld 12 230 = some (230, 12, 28, 5210) := by decide +kernel
theorem fd_12_252 : xFld 12 252 = some (252, 12, 27, 5209) := by decide +kernel
theorem ca_1_22 : xCall 1 22 = some (22, 1004, 5157) := by decide +kernel
theorem ca_2_41 : xCall 2 41 = some (41, 16, 2236) := by decide +kernel
theorem ca_2_47 : xCall 2 47 = some (47, 1004, 5011) := by decide +kernel
theorem ca_3_56 : xCall 3 56 = some (56, 16, 3015) := by decide +kernel
theorem ca_3_62 : xCall 3 62 = some (62, 1004, 5018) := by decide +kernel
theorem ca_3_68 : xCall 3 68 = some (68, 152, 4151) := by decide +kernel
theorem ca_3_72 : xCall 3 72 = some (72, 154, 4159) := by decide +kernel
theorem ca_3_76 : xCall 3 76 = some (76, 153, 4155) := by decide +kernel
theorem ca_4_19 : xCall 4 19 = some (19, 1004, 5167) := by decide +kernel
theorem ca_4_25 : xCall 4 25 = some (25, 1000, 5142) := by decide +kernel
theorem ca_4_31 : xCall 4 31 = some (31, 1001, 5143) := by decide +kernel
theorem ca_5_31 : xCall 5 31 = some (31, 1004, 5162) := by decide +kernel
theorem ca_5_37 : xCall 5 37 = some (37, 1000, 5109) := by decide +kernel
theorem ca_5_43 : xCall 5 43 = some (43, 248, 5110) := by decide +kernel
theorem ca_5_47 : xCall 5 47 = some (47, 249, 5114) := by decide +kernel
theorem ca_6_24 : xCall 6 24 = some (24, 119, 4000) := by decide +kernel
theorem ca_6_27 : xCall 6 27 = some (27, 121, 4008) := by decide +kernel
theorem ca_6_31 : xCall 6 31 = some (31, 130, 4056) := by decide +kernel
theorem ca_6_34 : xCall 6 34 = some (34, 132, 4065) := by decide +kernel
theorem ca_6_38 : xCall 6 38 = some (38, 133, 4069) := by decide +kernel
theorem ca_6_41 : xCall 6 41 = some (41, 142, 4107) := by decide +kernel
theorem ca_6_44 : xCall 6 44 = some (44, 160, 4188) := by decide +kernel
theorem ca_6_60 : xCall 6 60 = some (60, 122, 4012) := by decide +kernel
theorem ca_6_69 : xCall 6 69 = some (69, 20, 4016) := by decide +kernel
theorem ca_6_85 : xCall 6 85 = some (85, 123, 4017) := by decide +kernel
theorem ca_6_89 : xCall 6 89 = some (89, 125, 4026) := by decide +kernel
theorem ca_6_100 : xCall 6 100 = some (100, 129, 4052) := by decide +kernel
theorem ca_6_115 : xCall 6 115 = some (115, 126, 4030) := by decide +kernel
theorem ca_6_128 : xCall 6 128 = some (128, 131, 4060) := by decide +kernel
theorem ca_6_135 : xCall 6 135 = some (135, 1000, 4064) := by decide +kernel
theorem ca_6_167 : xCall 6 167 = some (167, 143, 4111) := by decide +kernel
theorem ca_6_171 : xCall 6 171 = some (171, 148, 4133) := by decide +kernel
theorem ca_6_175 : xCall 6 175 = some (175, 150, 4143) := by decide +kernel
theorem ca_6_179 : xCall 6 179 = some (179, 157, 4173) := by decide +kernel
theorem ca_6_182 : xCall 6 182 = some (182, 158, 4178) := by decide +kernel
theorem ca_6_186 : xCall 6 186 = some (186, 29, 4115) := by decide +kernel
theorem ca_6_190 : xCall 6 190 = some (190, 144, 4116) := by decide +kernel
theorem ca_6_194 : xCall 6 194 = some (194, 147, 4128) := by decide +kernel
theorem ca_6_198 : xCall 6 198 = some (198, 124, 4132) := by decide +kernel
theorem ca_6_207 : xCall 6 207 = some (207, 145, 4120) := by decide +kernel
theorem ca_6_210 : xCall 6 210 = some (210, 146, 4124) := by decide +kernel
theorem ca_6_217 : xCall 6 217 = some (217, 137, 4137) := by decide +kernel
theorem ca_6_221 : xCall 6 221 = some (221, 149, 4138) := by decide +kernel
theorem ca_6_231 : xCall 6 231 = some (231, 151, 4147) := by decide +kernel
theorem ca_6_234 : xCall 6 234 = some (234, 155, 4163) := by decide +kernel
theorem ca_6_241 : xCall 6 241 = some (241, 152, 4167) := by decide +kernel
theorem ca_6_244 : xCall 6 244 = some (244, 156, 4168) := by decide +kernel
theorem ca_6_247 : xCall 6 247 = some (247, 154, 4172) := by decide +kernel
theorem ca_6_250 : xCall 6 250 = some (250, 153, 4177) := by decide +kernel
theorem ca_6_254 : xCall 6 254 = some (254, 28, 4182) := by decide +kernel
theorem ca_6_257 : xCall 6 257 = some (257, 134, 4183) := by decide +kernel
theorem ca_6_261 : xCall 6 261 = some (261, 159, 4184) := by decide +kernel
theorem ca_6_274 : xCall 6 274 = some (274, 161, 4192) := by decide +kernel
theorem ca_6_279 : xCall 6 279 = some (279, 1002, 4197) := by decide +kernel
theorem ca_7_34 : xCall 7 34 = some (34, 52, 3074) := by decide +kernel
theorem ca_7_51 : xCall 7 51 = some (51, 72, 3159) := by decide +kernel
theorem ca_7_55 : xCall 7 55 = some (55, 73, 3163) := by decide +kernel
theorem ca_7_59 : xCall 7 59 = some (59, 53, 3078) := by decide +kernel
theorem ca_7_63 : xCall 7 63 = some (63, 69, 3149) := by decide +kernel
theorem ca_7_67 : xCall 7 67 = some (67, 54, 3082) := by decide +kernel
theorem ca_7_70 : xCall 7 70 = some (70, 55, 3086) := by decide +kernel
theorem ca_7_74 : xCall 7 74 = some (74, 56, 3089) := by decide +kernel
theorem ca_7_78 : xCall 7 78 = some (78, 70, 3153) := by decide +kernel
theorem ca_7_81 : xCall 7 81 = some (81, 1000, 3146) := by decide +kernel
theorem ca_7_87 : xCall 7 87 = some (87, 71, 3156) := by decide +kernel
theorem ca_7_92 : xCall 7 92 = some (92, 57, 3094) := by decide +kernel
theorem ca_7_96 : xCall 7 96 = some (96, 59, 3104) := by decide +kernel
theorem ca_7_100 : xCall 7 100 = some (100, 68, 3142) := by decide +kernel
theorem ca_7_107 : xCall 7 107 = some (107, 74, 3167) := by decide +kernel
theorem ca_7_110 : xCall 7 110 = some (110, 75, 3171) := by decide +kernel
theorem ca_7_113 : xCall 7 113 = some (113, 76, 3175) := by decide +kernel
theorem ca_7_117 : xCall 7 117 = some (117, 77, 3179) := by decide +kernel
theorem ca_7_121 : xCall 7 121 = some (121, 82, 3199) := by decide +kernel
theorem ca_7_124 : xCall 7 124 = some (124, 85, 3211) := by decide +kernel
theorem ca_7_127 : xCall 7 127 = some (127, 83, 3203) := by decide +kernel
theorem ca_7_130 : xCall 7 130 = some (130, 78, 3195) := by decide +kernel
theorem ca_7_133 : xCall 7 133 = some (133, 84, 3207) := by decide +kernel
theorem ca_7_136 : xCall 7 136 = some (136, 81, 3183) := by decide +kernel
theorem ca_7_139 : xCall 7 139 = some (139, 79, 3187) := by decide +kernel
theorem ca_7_142 : xCall 7 142 = some (142, 80, 3191) := by decide +kernel
theorem ca_8_31 : xCall 8 31 = some (31, 134, 4073) := by decide +kernel
theorem ca_8_40 : xCall 8 40 = some (40, 135, 4077) := by decide +kernel
theorem ca_8_45 : xCall 8 45 = some (45, 16, 4082) := by decide +kernel
theorem ca_8_54 : xCall 8 54 = some (54, 136, 4083) := by decide +kernel
theorem ca_8_61 : xCall 8 61 = some (61, 138, 4091) := by decide +kernel
theorem ca_8_65 : xCall 8 65 = some (65, 139, 4095) := by decide +kernel
theorem ca_8_69 : xCall 8 69 = some (69, 140, 4099) := by decide +kernel
theorem ca_8_73 : xCall 8 73 = some (73, 141, 4103) := by decide +kernel
theorem ca_8_80 : xCall 8 80 = some (80, 137, 4087) := by decide +kernel
theorem ca_9_63 : xCall 9 63 = some (63, 29, 3024) := by decide +kernel
theorem ca_9_70 : xCall 9 70 = some (70, 161, 5035) := by decide +kernel
theorem ca_9_74 : xCall 9 74 = some (74, 20, 4021) := by decide +kernel
theorem ca_9_86 : xCall 9 86 = some (86, 124, 4022) := by decide +kernel
theorem ca_9_90 : xCall 9 90 = some (90, 208, 5152) := by decide +kernel
theorem ca_9_97 : xCall 9 97 = some (97, 265, 5153) := by decide +kernel
theorem ca_9_101 : xCall 9 101 = some (101, 266, 5158) := by decide +kernel
theorem ca_9_104 : xCall 9 104 = some (104, 267, 5163) := by decide +kernel
theorem ca_9_122 : xCall 9 122 = some (122, 209, 5007) := by decide +kernel
theorem ca_9_125 : xCall 9 125 = some (125, 210, 5014) := by decide +kernel
theorem ca_9_128 : xCall 9 128 = some (128, 211, 5019) := by decide +kernel
theorem ca_9_131 : xCall 9 131 = some (131, 15, 5066) := by decide +kernel
theorem ca_9_135 : xCall 9 135 = some (135, 24, 5067) := by decide +kernel
theorem ca_9_141 : xCall 9 141 = some (141, 123, 5068) := by decide +kernel
theorem ca_10_34 : xCall 10 34 = some (34, 127, 4034) := by decide +kernel
theorem ca_10_38 : xCall 10 38 = some (38, 1000, 4142) := by decide +kernel
theorem ca_10_44 : xCall 10 44 = some (44, 1001, 4038) := by decide +kernel
theorem ca_10_47 : xCall 10 47 = some (47, 128, 4041) := by decide +kernel
theorem ca_10_55 : xCall 10 55 = some (55, 1002, 4046) := by decide +kernel
theorem ca_10_58 : xCall 10 58 = some (58, 1003, 4049) := by decide +kernel
theorem ca_11_47 : xCall 11 47 = some (47, 14, 2229) := by decide +kernel
theorem ca_11_59 : xCall 11 59 = some (59, 15, 2232) := by decide +kernel
theorem ca_11_65 : xCall 11 65 = some (65, 20, 3003) := by decide +kernel
theorem ca_11_79 : xCall 11 79 = some (79, 24, 3011) := by decide +kernel
theorem ca_11_84 : xCall 11 84 = some (84, 28, 3020) := by decide +kernel
theorem ca_11_87 : xCall 11 87 = some (87, 30, 3028) := by decide +kernel
theorem ca_11_90 : xCall 11 90 = some (90, 37, 3036) := by decide +kernel
theorem ca_11_96 : xCall 11 96 = some (96, 29, 3044) := by decide +kernel
theorem ca_11_134 : xCall 11 134 = some (134, 44, 3054) := by decide +kernel
theorem ca_11_137 : xCall 11 137 = some (137, 45, 3058) := by decide +kernel
theorem ca_11_146 : xCall 11 146 = some (146, 51, 3070) := by decide +kernel
theorem ca_11_159 : xCall 11 159 = some (159, 116, 3228) := by decide +kernel
theorem ca_11_162 : xCall 11 162 = some (162, 117, 3232) := by decide +kernel
theorem ca_11_166 : xCall 11 166 = some (166, 118, 3236) := by decide +kernel
theorem ca_11_169 : xCall 11 169 = some (169, 120, 4004) := by decide +kernel
theorem ca_11_207 : xCall 11 207 = some (207, 152, 4210) := by decide +kernel
theorem ca_11_215 : xCall 11 215 = some (215, 133, 4215) := by decide +kernel
theorem ca_11_221 : xCall 11 221 = some (221, 146, 4216) := by decide +kernel
theorem ca_11_237 : xCall 11 237 = some (237, 204, 4225) := by decide +kernel
theorem ca_11_240 : xCall 11 240 = some (240, 206, 4235) := by decide +kernel
theorem ca_11_243 : xCall 11 243 = some (243, 218, 5027) := by decide +kernel
theorem ca_11_246 : xCall 11 246 = some (246, 207, 4239) := by decide +kernel
theorem ca_11_249 : xCall 11 249 = some (249, 137, 5040) := by decide +kernel
theorem ca_11_253 : xCall 11 253 = some (253, 161, 5041) := by decide +kernel
theorem ca_11_258 : xCall 11 258 = some (258, 225, 5047) := by decide +kernel
theorem ca_11_261 : xCall 11 261 = some (261, 228, 5055) := by decide +kernel
theorem ca_11_265 : xCall 11 265 = some (265, 229, 5058) := by decide +kernel
theorem ca_11_275 : xCall 11 275 = some (275, 237, 5079) := by decide +kernel
theorem ca_11_279 : xCall 11 279 = some (279, 240, 5087) := by decide +kernel
theorem ca_11_286 : xCall 11 286 = some (286, 244, 5097) := by decide +kernel
theorem ca_11_291 : xCall 11 291 = some (291, 247, 5105) := by decide +kernel
theorem ca_11_297 : xCall 11 297 = some (297, 250, 5118) := by decide +kernel
theorem ca_11_305 : xCall 11 305 = some (305, 255, 5126) := by decide +kernel
theorem ca_11_310 : xCall 11 310 = some (310, 260, 5138) := by decide +kernel
theorem ca_11_314 : xCall 11 314 = some (314, 264, 5148) := by decide +kernel
theorem ca_11_318 : xCall 11 318 = some (318, 205, 4229) := by decide +kernel
theorem ca_11_323 : xCall 11 323 = some (323, 208, 5003) := by decide +kernel
theorem ca_11_326 : xCall 11 326 = some (326, 219, 5031) := by decide +kernel
theorem ca_11_329 : xCall 11 329 = some (329, 230, 5062) := by decide +kernel
theorem ca_11_333 : xCall 11 333 = some (333, 150, 5069) := by decide +kernel
theorem ca_11_337 : xCall 11 337 = some (337, 158, 5070) := by decide +kernel
theorem ca_12_95 : xCall 12 95 = some (95, 18, 6075) := by decide +kernel
theorem ca_12_99 : xCall 12 99 = some (99, 33, 6102) := by decide +kernel
theorem ca_12_103 : xCall 12 103 = some (103, 34, 6106) := by decide +kernel
theorem ca_12_107 : xCall 12 107 = some (107, 22, 6082) := by decide +kernel
theorem ca_12_110 : xCall 12 110 = some (110, 26, 6090) := by decide +kernel
theorem ca_12_114 : xCall 12 114 = some (114, 32, 6098) := by decide +kernel
theorem ca_12_117 : xCall 12 117 = some (117, 35, 6110) := by decide +kernel
theorem ca_12_125 : xCall 12 125 = some (125, 47, 6131) := by decide +kernel
theorem ca_12_169 : xCall 12 169 = some (169, 88, 6147) := by decide +kernel
theorem ca_12_174 : xCall 12 174 = some (174, 89, 6151) := by decide +kernel
theorem ca_12_196 : xCall 12 196 = some (196, 93, 6180) := by decide +kernel
theorem ca_12_199 : xCall 12 199 = some (199, 94, 6184) := by decide +kernel
theorem ca_12_202 : xCall 12 202 = some (202, 87, 6143) := by decide +kernel
theorem ca_12_208 : xCall 12 208 = some (208, 102, 6216) := by decide +kernel
theorem ca_12_211 : xCall 12 211 = some (211, 96, 6192) := by decide +kernel
theorem ca_12_215 : xCall 12 215 = some (215, 103, 6219) := by decide +kernel
theorem ca_12_218 : xCall 12 218 = some (218, 91, 6172) := by decide +kernel
theorem ca_12_221 : xCall 12 221 = some (221, 92, 6176) := by decide +kernel
theorem ca_12_227 : xCall 12 227 = some (227, 97, 6196) := by decide +kernel
theorem ca_12_233 : xCall 12 233 = some (233, 99, 6204) := by decide +kernel
theorem ca_12_236 : xCall 12 236 = some (236, 98, 6200) := by decide +kernel
theorem ca_12_240 : xCall 12 240 = some (240, 101, 6212) := by decide +kernel
theorem ca_12_243 : xCall 12 243 = some (243, 104, 6223) := by decide +kernel
theorem ca_12_246 : xCall 12 246 = some (246, 105, 6226) := by decide +kernel
theorem ca_12_249 : xCall 12 249 = some (249, 106, 6230) := by decide +kernel
theorem ca_12_255 : xCall 12 255 = some (255, 109, 7002) := by decide +kernel
theorem ca_12_259 : xCall 12 259 = some (259, 90, 6168) := by decide +kernel
theorem ca_12_262 : xCall 12 262 = some (262, 95, 6188) := by decide +kernel
theorem ca_12_265 : xCall 12 265 = some (265, 100, 6208) := by decide +kernel
theorem ca_12_268 : xCall 12 268 = some (268, 107, 6234) := by decide +kernel
theorem ca_12_271 : xCall 12 271 = some (271, 108, 6238) := by decide +kernel
theorem ca_12_274 : xCall 12 274 = some (274, 110, 7006) := by decide +kernel
theorem ca_12_281 : xCall 12 281 = some (281, 173, 7082) := by decide +kernel
theorem ca_12_285 : xCall 12 285 = some (285, 172, 7079) := by decide +kernel
theorem ca_12_289 : xCall 12 289 = some (289, 169, 7067) := by decide +kernel
theorem ca_12_292 : xCall 12 292 = some (292, 168, 7063) := by decide +kernel
theorem ca_12_295 : xCall 12 295 = some (295, 170, 7071) := by decide +kernel
theorem ca_12_298 : xCall 12 298 = some (298, 171, 7075) := by decide +kernel
theorem ca_12_304 : xCall 12 304 = some (304, 178, 7031) := by decide +kernel
theorem ca_12_309 : xCall 12 309 = some (309, 166, 7055) := by decide +kernel
theorem ca_12_313 : xCall 12 313 = some (313, 167, 7059) := by decide +kernel
theorem ca_12_318 : xCall 12 318 = some (318, 177, 7027) := by decide +kernel
theorem ca_12_322 : xCall 12 322 = some (322, 179, 7035) := by decide +kernel
theorem ca_12_325 : xCall 12 325 = some (325, 176, 7022) := by decide +kernel
theorem ca_12_328 : xCall 12 328 = some (328, 189, 7133) := by decide +kernel
theorem ca_12_331 : xCall 12 331 = some (331, 185, 7117) := by decide +kernel
theorem ca_12_334 : xCall 12 334 = some (334, 183, 7109) := by decide +kernel
theorem ca_12_337 : xCall 12 337 = some (337, 184, 7113) := by decide +kernel
theorem ca_12_340 : xCall 12 340 = some (340, 190, 7137) := by decide +kernel
theorem ca_12_344 : xCall 12 344 = some (344, 181, 7099) := by decide +kernel
theorem ca_12_347 : xCall 12 347 = some (347, 182, 7105) := by decide +kernel
theorem ca_12_350 : xCall 12 350 = some (350, 186, 7121) := by decide +kernel
theorem ca_12_353 : xCall 12 353 = some (353, 187, 7125) := by decide +kernel
theorem ca_12_356 : xCall 12 356 = some (356, 188, 7129) := by decide +kernel
theorem ca_12_359 : xCall 12 359 = some (359, 165, 7051) := by decide +kernel
theorem ca_12_362 : xCall 12 362 = some (362, 174, 7087) := by decide +kernel
theorem ca_12_365 : xCall 12 365 = some (365, 175, 7091) := by decide +kernel
theorem ca_12_368 : xCall 12 368 = some (368, 180, 7095) := by decide +kernel
theorem ca_12_371 : xCall 12 371 = some (371, 191, 7141) := by decide +kernel
theorem ca_12_374 : xCall 12 374 = some (374, 192, 7145) := by decide +kernel
theorem ca_12_377 : xCall 12 377 = some (377, 163, 7043) := by decide +kernel
theorem ca_12_380 : xCall 12 380 = some (380, 164, 7047) := by decide +kernel
theorem ca_12_383 : xCall 12 383 = some (383, 213, 7169) := by decide +kernel
theorem ca_12_386 : xCall 12 386 = some (386, 214, 7173) := by decide +kernel
theorem ca_12_389 : xCall 12 389 = some (389, 31, 7177) := by decide +kernel
theorem ca_12_392 : xCall 12 392 = some (392, 215, 7178) := by decide +kernel
theorem ca_12_395 : xCall 12 395 = some (395, 216, 7182) := by decide +kernel
theorem ca_12_398 : xCall 12 398 = some (398, 223, 7194) := by decide +kernel
theorem ca_12_402 : xCall 12 402 = some (402, 233, 7211) := by decide +kernel
theorem ca_12_405 : xCall 12 405 = some (405, 232, 7207) := by decide +kernel
theorem ca_12_409 : xCall 12 409 = some (409, 242, 7227) := by decide +kernel
theorem ca_12_414 : xCall 12 414 = some (414, 252, 8000) := by decide +kernel
theorem ca_12_417 : xCall 12 417 = some (417, 253, 8004) := by decide +kernel
theorem ca_12_420 : xCall 12 420 = some (420, 262, 8020) := by decide +kernel
theorem ca_13_13 : xCall 13 13 = some (13, 13, 2225) := by decide +kernel
theorem ca_13_17 : xCall 13 17 = some (17, 17, 6071) := by decide +kernel
theorem ca_13_18 : xCall 13 18 = some (18, 19, 2239) := by decide +kernel
theorem ca_13_22 : xCall 13 22 = some (22, 21, 6078) := by decide +kernel
theorem ca_13_23 : xCall 13 23 = some (23, 23, 3007) := by decide +kernel
theorem ca_13_27 : xCall 13 27 = some (27, 25, 6086) := by decide +kernel
theorem ca_13_28 : xCall 13 28 = some (28, 27, 3016) := by decide +kernel
theorem ca_13_31 : xCall 13 31 = some (31, 31, 6094) := by decide +kernel
theorem ca_13_32 : xCall 13 32 = some (32, 36, 3032) := by decide +kernel
theorem ca_13_35 : xCall 13 35 = some (35, 38, 6114) := by decide +kernel
theorem ca_13_36 : xCall 13 36 = some (36, 39, 3040) := by decide +kernel
theorem ca_13_40 : xCall 13 40 = some (40, 40, 6118) := by decide +kernel
theorem ca_13_41 : xCall 13 41 = some (41, 41, 3045) := by decide +kernel
theorem ca_13_45 : xCall 13 45 = some (45, 42, 6122) := by decide +kernel
theorem ca_13_46 : xCall 13 46 = some (46, 43, 3050) := by decide +kernel
theorem ca_13_49 : xCall 13 49 = some (49, 46, 6127) := by decide +kernel
theorem ca_13_50 : xCall 13 50 = some (50, 48, 3062) := by decide +kernel
theorem ca_13_53 : xCall 13 53 = some (53, 49, 6135) := by decide +kernel
theorem ca_13_54 : xCall 13 54 = some (54, 50, 3066) := by decide +kernel
theorem ca_13_58 : xCall 13 58 = some (58, 86, 6139) := by decide +kernel
theorem ca_13_59 : xCall 13 59 = some (59, 111, 3216) := by decide +kernel
theorem ca_13_62 : xCall 13 62 = some (62, 112, 7010) := by decide +kernel
theorem ca_13_63 : xCall 13 63 = some (63, 113, 3220) := by decide +kernel
theorem ca_13_66 : xCall 13 66 = some (66, 114, 7014) := by decide +kernel
theorem ca_13_67 : xCall 13 67 = some (67, 115, 3224) := by decide +kernel
theorem ca_13_70 : xCall 13 70 = some (70, 162, 7039) := by decide +kernel
theorem ca_13_71 : xCall 13 71 = some (71, 193, 4198) := by decide +kernel
theorem ca_13_75 : xCall 13 75 = some (75, 194, 7149) := by decide +kernel
theorem ca_13_76 : xCall 13 76 = some (76, 195, 4202) := by decide +kernel
theorem ca_13_79 : xCall 13 79 = some (79, 196, 7153) := by decide +kernel
theorem ca_13_80 : xCall 13 80 = some (80, 197, 4206) := by decide +kernel
theorem ca_13_84 : xCall 13 84 = some (84, 198, 7157) := by decide +kernel
theorem ca_13_85 : xCall 13 85 = some (85, 199, 4211) := by decide +kernel
theorem ca_13_89 : xCall 13 89 = some (89, 200, 7018) := by decide +kernel
theorem ca_13_90 : xCall 13 90 = some (90, 201, 4217) := by decide +kernel
theorem ca_13_93 : xCall 13 93 = some (93, 202, 7161) := by decide +kernel
theorem ca_13_94 : xCall 13 94 = some (94, 203, 4221) := by decide +kernel
theorem ca_13_97 : xCall 13 97 = some (97, 212, 7165) := by decide +kernel
theorem ca_13_98 : xCall 13 98 = some (98, 217, 5023) := by decide +kernel
theorem ca_13_101 : xCall 13 101 = some (101, 220, 7186) := by decide +kernel
theorem ca_13_102 : xCall 13 102 = some (102, 221, 5036) := by decide +kernel
theorem ca_13_105 : xCall 13 105 = some (105, 222, 7190) := by decide +kernel
theorem ca_13_106 : xCall 13 106 = some (106, 224, 5042) := by decide +kernel
theorem ca_13_109 : xCall 13 109 = some (109, 226, 7198) := by decide +kernel
theorem ca_13_110 : xCall 13 110 = some (110, 227, 5051) := by decide +kernel
theorem ca_13_114 : xCall 13 114 = some (114, 231, 7203) := by decide +kernel
theorem ca_13_115 : xCall 13 115 = some (115, 234, 5071) := by decide +kernel
theorem ca_13_118 : xCall 13 118 = some (118, 235, 7215) := by decide +kernel
theorem ca_13_119 : xCall 13 119 = some (119, 236, 5075) := by decide +kernel
theorem ca_13_123 : xCall 13 123 = some (123, 238, 7219) := by decide +kernel
theorem ca_13_124 : xCall 13 124 = some (124, 239, 5083) := by decide +kernel
theorem ca_13_127 : xCall 13 127 = some (127, 241, 7223) := by decide +kernel
theorem ca_13_128 : xCall 13 128 = some (128, 243, 5093) := by decide +kernel
theorem ca_13_131 : xCall 13 131 = some (131, 245, 7232) := by decide +kernel
theorem ca_13_132 : xCall 13 132 = some (132, 246, 5101) := by decide +kernel
theorem ca_13_135 : xCall 13 135 = some (135, 251, 7236) := by decide +kernel
theorem ca_13_136 : xCall 13 136 = some (136, 254, 5122) := by decide +kernel
theorem ca_13_139 : xCall 13 139 = some (139, 256, 8008) := by decide +kernel
theorem ca_13_140 : xCall 13 140 = some (140, 257, 5130) := by decide +kernel
theorem ca_13_143 : xCall 13 143 = some (143, 258, 8012) := by decide +kernel
theorem ca_13_144 : xCall 13 144 = some (144, 259, 5134) := by decide +kernel
theorem ca_13_148 : xCall 13 148 = some (148, 261, 8016) := by decide +kernel
theorem ca_13_149 : xCall 13 149 = some (149, 263, 5144) := by decide +kernel
theorem ca_13_152 : xCall 13 152 = some (152, 268, 8024) := by decide +kernel
theorem ca_13_153 : xCall 13 153 = some (153, 269, 5168) := by decide +kernel
theorem ca_13_156 : xCall 13 156 = some (156, 270, 8028) := by decide +kernel
theorem ca_13_157 : xCall 13 157 = some (157, 271, 5172) := by decide +kernel
theorem ca_13_160 : xCall 13 160 = some (160, 272, 8032) := by decide +kernel
theorem ck_1_30 : xCst 1 30 = some (30, (-1000000000), 5092) := by decide +kernel
theorem ck_8_44 : xCst 8 44 = some (44, (1000000), 4081) := by decide +kernel
theorem ck_11_103 : xCst 11 103 = some (103, (99999), 3049) := by decide +kernel
theorem ck_11_257 : xCst 11 257 = some (257, (-1000000), 5046) := by decide +kernel
theorem ck_12_121 : xCst 12 121 = some (121, (99999), 6126) := by decide +kernel
theorem ck_12_317 : xCst 12 317 = some (317, (1000000000), 7026) := by decide +kernel
theorem ck_12_401 : xCst 12 401 = some (401, (-1000000), 7202) := by decide +kernel
theorem ck_12_413 : xCst 12 413 = some (413, (-1000000000), 7231) := by decide +kernel
theorem ck_26_265 : xCst 26 265 = some (265, (1431655765), 4232) := by decide +kernel
theorem ck_26_266 : xCst 26 266 = some (266, (858993459), 4233) := by decide +kernel
theorem ck_26_267 : xCst 26 267 = some (267, (252645135), 4234) := by decide +kernel
theorem cl_1_28 : xCsL 1 28 = some (28, (1000), 5091) := by decide +kernel
theorem cl_6_277 : xCsL 6 277 = some (277, (1000000000), 4196) := by decide +kernel
theorem cl_10_51 : xCsL 10 51 = some (51, (-1000000), 4044) := by decide +kernel
theorem cl_10_53 : xCsL 10 53 = some (53, (1000000), 4045) := by decide +kernel
theorem cl_12_129 : xCsL 12 129 = some (129, (14555947), 6154) := by decide +kernel
theorem cl_12_131 : xCsL 12 131 = some (131, (13536628), 6155) := by decide +kernel
theorem cl_12_133 : xCsL 12 133 = some (133, (9050347), 6156) := by decide +kernel
theorem cl_12_135 : xCsL 12 135 = some (135, (3058), 6157) := by decide +kernel
theorem cl_12_137 : xCsL 12 137 = some (137, (138148), 6158) := by decide +kernel
theorem cl_12_139 : xCsL 12 139 = some (139, (191476), 6159) := by decide +kernel
theorem cl_12_141 : xCsL 12 141 = some (141, (55390960548), 6160) := by decide +kernel
theorem cl_12_143 : xCsL 12 143 = some (143, (10623788), 6161) := by decide +kernel
theorem cl_12_145 : xCsL 12 145 = some (145, (599743412), 6162) := by decide +kernel
theorem cl_12_147 : xCsL 12 147 = some (147, (13302765), 6163) := by decide +kernel
theorem cl_12_149 : xCsL 12 149 = some (149, (3287609678117), 6164) := by decide +kernel
theorem cl_12_151 : xCsL 12 151 = some (151, (869424179), 6165) := by decide +kernel
theorem cl_12_153 : xCsL 12 153 = some (153, (11728996), 6166) := by decide +kernel
theorem cl_12_155 : xCsL 12 155 = some (155, (14555764), 6167) := by decide +kernel
theorem cl_12_172 : xCsL 12 172 = some (172, (64), 6150) := by decide +kernel
theorem cl_12_277 : xCsL 12 277 = some (277, (1000000), 7085) := by decide +kernel
theorem cl_12_279 : xCsL 12 279 = some (279, (-1000000), 7086) := by decide +kernel
theorem cl_12_302 : xCsL 12 302 = some (302, (4), 7103) := by decide +kernel
theorem cl_12_307 : xCsL 12 307 = some (307, (10), 7104) := by decide +kernel
theorem me_13 : xMet 13 = some (yX11_hall, cX11_hall, 2, (some .int), 11, 1, 1, 2228, 2226, 2227, 1001) := rfl
def hh_13 : xH := (none, false, 11, (some .int), 0, 0)
theorem me_14 : xMet 14 = some (yX11_within, cX11_within, 3, (some .boolean), 11, 3, 0, 2231, 2230, 0, 1001) := rfl
def hh_14 : xH := (none, false, 11, (some .boolean), 0, 0)
theorem me_15 : xMet 15 = some (yX2_build, cX2_build, 2, none, 2, 1, 1, 2235, 2233, 2234, 1006) := rfl
def hh_15 : xH := (none, false, 2, none, 0, 0)
theorem me_16 : xMet 16 = some (yJ7_fill_53178, cJ7_fill_53178, 4, none, 27, 2, 0, 2238, 2237, 0, 1014) := rfl
def hh_16 : xH := (none, false, 27, none, 0, 0)
theorem me_17 : xMet 17 = some (yX12_hall, cX12_hall, 4, (some .int), 12, 1, 1, 6074, 6072, 6073, 1013) := rfl
def hh_17 : xH := (none, false, 12, (some .int), 0, 0)
theorem me_18 : xMet 18 = some (yX12_in, cX12_in, 3, (some .boolean), 12, 3, 0, 6077, 6076, 0, 1013) := rfl
def hh_18 : xH := (none, false, 12, (some .boolean), 0, 0)
theorem me_19 : xMet 19 = some (yX11_bar, cX11_bar, 3, (some .boolean), 11, 2, 1, 3002, 3000, 3001, 1001) := rfl
def hh_19 : xH := (none, false, 11, (some .boolean), 0, 0)
theorem me_20 : xMet 20 = some (yX9_hasHall, cX9_hasHall, 2, (some .boolean), 9, 1, 1, 3006, 3004, 3005, 1002) := rfl
def hh_20 : xH := (none, false, 9, (some .boolean), 0, 0)
theorem me_21 : xMet 21 = some (yX12_bar, cX12_bar, 3, (some .boolean), 12, 2, 1, 6081, 6079, 6080, 1013) := rfl
def hh_21 : xH := (none, false, 12, (some .boolean), 0, 0)
theorem me_22 : xMet 22 = some (yX12_isHall, cX12_isHall, 2, (some .boolean), 12, 1, 1, 6085, 6084, 44, 1013) := rfl
def hh_22 : xH := (none, false, 12, (some .boolean), 0, 0)
theorem me_23 : xMet 23 = some (yX11_link, cX11_link, 8, (some .int), 11, 5, 1, 3010, 3008, 3009, 1001) := rfl
def hh_23 : xH := (none, false, 11, (some .int), 0, 0)
theorem me_24 : xMet 24 = some (yX3_build, cX3_build, 6, none, 3, 5, 1, 3014, 3012, 3013, 1007) := rfl
def hh_24 : xH := (none, false, 3, none, 0, 0)
theorem me_25 : xMet 25 = some (yX12_link, cX12_link, 10, (some .int), 12, 5, 1, 6089, 6087, 6088, 1013) := rfl
def hh_25 : xH := (none, false, 12, (some .int), 0, 0)
theorem me_26 : xMet 26 = some (yX12_tells, cX12_tells, 4, none, 12, 3, 1, 6093, 6092, 45, 1013) := rfl
def hh_26 : xH := (none, false, 12, none, 0, 0)
theorem me_27 : xMet 27 = some (yX11_turn, cX11_turn, 3, (some .boolean), 11, 2, 1, 3019, 3017, 3018, 1001) := rfl
def hh_27 : xH := (none, false, 11, (some .boolean), 0, 0)
theorem me_28 : xMet 28 = some (yX9_hasStepped, cX9_hasStepped, 2, (some .boolean), 9, 1, 1, 3023, 3021, 3022, 1002) := rfl
def hh_28 : xH := (none, false, 9, (some .boolean), 0, 0)
theorem me_29 : xMet 29 = some (yX9_hasLink, cX9_hasLink, 2, (some .boolean), 9, 1, 1, 3027, 3025, 3026, 1002) := rfl
def hh_29 : xH := (none, false, 9, (some .boolean), 0, 0)
theorem me_30 : xMet 30 = some (yX3_turnTo, cX3_turnTo, 2, none, 3, 1, 1, 3031, 3029, 3030, 1007) := rfl
def hh_30 : xH := (none, false, 3, none, 0, 0)
theorem me_31 : xMet 31 = some (yX12_turn, cX12_turn, 3, (some .boolean), 12, 2, 1, 6097, 6095, 6096, 1013) := rfl
def hh_31 : xH := (none, false, 12, (some .boolean), 0, 0)
theorem me_32 : xMet 32 = some (yX12_isStairs, cX12_isStairs, 2, (some .boolean), 12, 1, 1, 6101, 6100, 46, 1013) := rfl
def hh_32 : xH := (none, false, 12, (some .boolean), 0, 0)
theorem me_33 : xMet 33 = some (yX12_isLink, cX12_isLink, 2, (some .boolean), 12, 1, 1, 6105, 6104, 47, 1013) := rfl
def hh_33 : xH := (none, false, 12, (some .boolean), 0, 0)
theorem me_34 : xMet 34 = some (yX12_linkOf, cX12_linkOf, 3, (some .int), 12, 2, 1, 6109, 6108, 48, 1013) := rfl
def hh_34 : xH := (none, false, 12, (some .int), 0, 0)
theorem me_35 : xMet 35 = some (yX12_loadOf, cX12_loadOf, 4, (some .int), 12, 1, 1, 6113, 6112, 49, 1013) := rfl
def hh_35 : xH := (none, false, 12, (some .int), 0, 0)
theorem me_36 : xMet 36 = some (yX11_mode, cX11_mode, 3, (some .boolean), 11, 2, 1, 3035, 3033, 3034, 1001) := rfl
def hh_36 : xH := (none, false, 11, (some .boolean), 0, 0)
theorem me_37 : xMet 37 = some (yX9_hasStair, cX9_hasStair, 2, (some .boolean), 9, 1, 1, 3039, 3037, 3038, 1002) := rfl
def hh_37 : xH := (none, false, 9, (some .boolean), 0, 0)
theorem me_38 : xMet 38 = some (yX12_mode, cX12_mode, 3, (some .boolean), 12, 2, 1, 6117, 6115, 6116, 1013) := rfl
def hh_38 : xH := (none, false, 12, (some .boolean), 0, 0)
theorem me_39 : xMet 39 = some (yX11_reset, cX11_reset, 2, (some .boolean), 11, 1, 1, 3043, 3041, 3042, 1001) := rfl
def hh_39 : xH := (none, false, 11, (some .boolean), 0, 0)
theorem me_40 : xMet 40 = some (yX12_reset, cX12_reset, 2, (some .boolean), 12, 1, 1, 6121, 6119, 6120, 1013) := rfl
def hh_40 : xH := (none, false, 12, (some .boolean), 0, 0)
theorem me_41 : xMet 41 = some (yX11_burst, cX11_burst, 11, (some .int), 11, 7, 1, 3048, 3046, 3047, 1001) := rfl
def hh_41 : xH := (none, false, 11, (some .int), 0, 0)
theorem me_42 : xMet 42 = some (yX12_burst, cX12_burst, 10, (some .int), 12, 7, 1, 6125, 6123, 6124, 1013) := rfl
def hh_42 : xH := (none, false, 12, (some .int), 0, 0)
theorem me_43 : xMet 43 = some (yX11_feed, cX11_feed, 6, (some .int), 11, 5, 1, 3053, 3051, 3052, 1001) := rfl
def hh_43 : xH := (none, false, 11, (some .int), 0, 0)
theorem me_44 : xMet 44 = some (yX7_hasRoomFor, cX7_hasRoomFor, 2, (some .boolean), 7, 1, 1, 3057, 3055, 3056, 1011) := rfl
def hh_44 : xH := (none, false, 7, (some .boolean), 0, 0)
theorem me_45 : xMet 45 = some (yX7_append, cX7_append, 3, none, 7, 1, 1, 3061, 3059, 3060, 1011) := rfl
def hh_45 : xH := (none, false, 7, none, 0, 0)
theorem me_46 : xMet 46 = some (yX12_feed, cX12_feed, 6, (some .int), 12, 5, 1, 6130, 6128, 6129, 1013) := rfl
def hh_46 : xH := (none, false, 12, (some .int), 0, 0)
theorem me_47 : xMet 47 = some (yX12_put, cX12_put, 3, none, 12, 1, 1, 6134, 6133, 50, 1013) := rfl
def hh_47 : xH := (none, false, 12, none, 0, 0)
theorem me_48 : xMet 48 = some (yX11_end, cX11_end, 2, (some .int), 11, 1, 1, 3065, 3063, 3064, 1001) := rfl
def hh_48 : xH := (none, false, 11, (some .int), 0, 0)
theorem me_49 : xMet 49 = some (yX12_end, cX12_end, 2, (some .int), 12, 1, 1, 6138, 6136, 6137, 1013) := rfl
def hh_49 : xH := (none, false, 12, (some .int), 0, 0)
theorem me_50 : xMet 50 = some (yX11_text, cX11_text, 1, (some .int), 11, 0, 1, 3069, 3067, 3068, 1001) := rfl
def hh_50 : xH := (none, false, 11, (some .int), 0, 0)
theorem me_51 : xMet 51 = some (yX7_readInto, cX7_readInto, 3, (some .boolean), 7, 1, 1, 3073, 3071, 3072, 1011) := rfl
def hh_51 : xH := (none, false, 7, (some .boolean), 0, 0)
theorem me_52 : xMet 52 = some (yX7_cut, cX7_cut, 3, none, 7, 0, 1, 3077, 3076, 0, 1011) := rfl
def hh_52 : xH := (none, false, 7, none, 0, 0)
theorem me_53 : xMet 53 = some (yX7_cutOne, cX7_cutOne, 5, (some .int), 7, 1, 1, 3081, 3080, 1, 1011) := rfl
def hh_53 : xH := (none, false, 7, (some .int), 0, 0)
theorem me_54 : xMet 54 = some (yX7_byteAt, cX7_byteAt, 2, (some .int), 7, 1, 1, 3085, 3084, 2, 1011) := rfl
def hh_54 : xH := (none, false, 7, (some .int), 0, 0)
theorem me_55 : xMet 55 = some (yX7_isLetter, cX7_isLetter, 1, (some .boolean), 7, 1, 0, 3088, 3087, 0, 1011) := rfl
def hh_55 : xH := (none, false, 7, (some .boolean), 0, 0)
theorem me_56 : xMet 56 = some (yX7_addWord, cX7_addWord, 6, none, 7, 2, 1, 3092, 3091, 3, 1011) := rfl
def hh_56 : xH := (none, false, 7, none, 0, 0)
theorem me_68 : xMet 68 = some (yX7_isWord, cX7_isWord, 6, (some .boolean), 7, 4, 1, 3145, 3144, 4, 1011) := rfl
def hh_68 : xH := (none, false, 7, (some .boolean), 0, 0)
theorem me_69 : xMet 69 = some (yX7_addToken, cX7_addToken, 4, none, 7, 3, 1, 3152, 3151, 5, 1011) := rfl
def hh_69 : xH := (none, false, 7, none, 0, 0)
theorem me_70 : xMet 70 = some (yX7_isDigit, cX7_isDigit, 1, (some .boolean), 7, 1, 0, 3155, 3154, 0, 1011) := rfl
def hh_70 : xH := (none, false, 7, (some .boolean), 0, 0)
theorem me_71 : xMet 71 = some (yX7_signOf, cX7_signOf, 1, (some .int), 7, 1, 0, 3158, 3157, 0, 1011) := rfl
def hh_71 : xH := (none, false, 7, (some .int), 0, 0)
theorem me_72 : xMet 72 = some (yX7_kind, cX7_kind, 1, (some .int), 7, 0, 1, 3162, 3161, 6, 1011) := rfl
def hh_72 : xH := (none, false, 7, (some .int), 0, 0)
theorem me_73 : xMet 73 = some (yX7_readClause, cX7_readClause, 3, (some .boolean), 7, 1, 1, 3166, 3165, 7, 1011) := rfl
def hh_73 : xH := (none, false, 7, (some .boolean), 0, 0)
theorem me_74 : xMet 74 = some (yX7_fails, cX7_fails, 2, (some .boolean), 7, 1, 1, 3170, 3169, 8, 1011) := rfl
def hh_74 : xH := (none, false, 7, (some .boolean), 0, 0)
theorem me_75 : xMet 75 = some (yX10_has, cX10_has, 3, (some .boolean), 10, 1, 1, 3174, 3172, 3173, 1012) := rfl
def hh_75 : xH := (none, false, 10, (some .boolean), 0, 0)
theorem me_76 : xMet 76 = some (yX10_open, cX10_open, 2, none, 10, 1, 1, 3178, 3176, 3177, 1012) := rfl
def hh_76 : xH := (none, false, 10, none, 0, 0)
theorem me_77 : xMet 77 = some (yX7_readSum, cX7_readSum, 6, (some .boolean), 7, 2, 1, 3182, 3181, 9, 1011) := rfl
def hh_77 : xH := (none, false, 7, (some .boolean), 0, 0)
theorem me_78 : xMet 78 = some (yX10_add, cX10_add, 3, none, 10, 2, 1, 3198, 3196, 3197, 1012) := rfl
def hh_78 : xH := (none, false, 10, none, 0, 0)
theorem me_79 : xMet 79 = some (yX7_readOne, cX7_readOne, 5, (some .boolean), 7, 2, 1, 3190, 3189, 11, 1011) := rfl
def hh_79 : xH := (none, false, 7, (some .boolean), 0, 0)
theorem me_80 : xMet 80 = some (yX7_value, cX7_value, 1, (some .int), 7, 0, 1, 3194, 3193, 12, 1011) := rfl
def hh_80 : xH := (none, false, 7, (some .int), 0, 0)
theorem me_81 : xMet 81 = some (yX7_readProduct, cX7_readProduct, 6, (some .boolean), 7, 2, 1, 3186, 3185, 10, 1011) := rfl
def hh_81 : xH := (none, false, 7, (some .boolean), 0, 0)
theorem me_82 : xMet 82 = some (yX7_readEither, cX7_readEither, 4, (some .boolean), 7, 1, 1, 3202, 3201, 13, 1011) := rfl
def hh_82 : xH := (none, false, 7, (some .boolean), 0, 0)
theorem me_83 : xMet 83 = some (yX7_readBoth, cX7_readBoth, 4, (some .boolean), 7, 1, 1, 3206, 3205, 14, 1011) := rfl
def hh_83 : xH := (none, false, 7, (some .boolean), 0, 0)
theorem me_84 : xMet 84 = some (yX7_readAsk, cX7_readAsk, 5, (some .boolean), 7, 2, 1, 3210, 3209, 15, 1011) := rfl
def hh_84 : xH := (none, false, 7, (some .boolean), 0, 0)
theorem me_85 : xMet 85 = some (yX10_close, cX10_close, 1, none, 10, 0, 1, 3214, 3212, 3213, 1012) := rfl
def hh_85 : xH := (none, false, 10, none, 0, 0)
theorem me_86 : xMet 86 = some (yX12_text, cX12_text, 1, (some .int), 12, 0, 1, 6142, 6140, 6141, 1013) := rfl
def hh_86 : xH := (none, false, 12, (some .int), 0, 0)
theorem me_87 : xMet 87 = some (yX12_next, cX12_next, 5, none, 12, 0, 1, 6146, 6145, 51, 1013) := rfl
def hh_87 : xH := (none, false, 12, none, 0, 0)
theorem me_88 : xMet 88 = some (yX12_isLetter, cX12_isLetter, 1, (some .boolean), 12, 1, 0, 6149, 6148, 0, 1013) := rfl
def hh_88 : xH := (none, false, 12, (some .boolean), 0, 0)
theorem me_89 : xMet 89 = some (yX12_wordOf, cX12_wordOf, 2, (some .int), 12, 1, 0, 6153, 6152, 0, 1013) := rfl
def hh_89 : xH := (none, false, 12, (some .int), 0, 0)
theorem me_90 : xMet 90 = some (yX12_asks, cX12_asks, 2, none, 12, 0, 1, 6171, 6170, 52, 1013) := rfl
def hh_90 : xH := (none, false, 12, none, 0, 0)
theorem me_91 : xMet 91 = some (yX12_isWord, cX12_isWord, 2, (some .boolean), 12, 1, 1, 6175, 6174, 53, 1013) := rfl
def hh_91 : xH := (none, false, 12, (some .boolean), 0, 0)
theorem me_92 : xMet 92 = some (yX12_opensSign, cX12_opensSign, 2, (some .boolean), 12, 1, 1, 6179, 6178, 54, 1013) := rfl
def hh_92 : xH := (none, false, 12, (some .boolean), 0, 0)
theorem me_93 : xMet 93 = some (yX12_errs, cX12_errs, 2, none, 12, 1, 1, 6183, 6182, 55, 1013) := rfl
def hh_93 : xH := (none, false, 12, none, 0, 0)
theorem me_94 : xMet 94 = some (yX12_opensFrame, cX12_opensFrame, 2, none, 12, 1, 1, 6187, 6186, 56, 1013) := rfl
def hh_94 : xH := (none, false, 12, none, 0, 0)
theorem me_95 : xMet 95 = some (yX12_begins, cX12_begins, 2, none, 12, 0, 1, 6191, 6190, 57, 1013) := rfl
def hh_95 : xH := (none, false, 12, none, 0, 0)
theorem me_96 : xMet 96 = some (yX12_emits, cX12_emits, 3, none, 12, 2, 1, 6195, 6194, 58, 1013) := rfl
def hh_96 : xH := (none, false, 12, none, 0, 0)
theorem me_97 : xMet 97 = some (yX12_oneIsOver, cX12_oneIsOver, 1, none, 12, 0, 1, 6199, 6198, 59, 1013) := rfl
def hh_97 : xH := (none, false, 12, none, 0, 0)
theorem me_98 : xMet 98 = some (yX12_top, cX12_top, 1, (some .int), 12, 0, 1, 6203, 6202, 60, 1013) := rfl
def hh_98 : xH := (none, false, 12, (some .int), 0, 0)
theorem me_99 : xMet 99 = some (yX12_isSign, cX12_isSign, 2, (some .boolean), 12, 1, 1, 6207, 6206, 61, 1013) := rfl
def hh_99 : xH := (none, false, 12, (some .boolean), 0, 0)
theorem me_100 : xMet 100 = some (yX12_goesOn, cX12_goesOn, 3, none, 12, 0, 1, 6211, 6210, 62, 1013) := rfl
def hh_100 : xH := (none, false, 12, none, 0, 0)
theorem me_101 : xMet 101 = some (yX12_waitsFor, cX12_waitsFor, 2, none, 12, 1, 1, 6215, 6214, 63, 1013) := rfl
def hh_101 : xH := (none, false, 12, none, 0, 0)
theorem me_102 : xMet 102 = some (yX12_rank, cX12_rank, 1, (some .int), 12, 1, 0, 6218, 6217, 0, 1013) := rfl
def hh_102 : xH := (none, false, 12, (some .int), 0, 0)
theorem me_103 : xMet 103 = some (yX12_works, cX12_works, 2, none, 12, 1, 1, 6222, 6221, 64, 1013) := rfl
def hh_103 : xH := (none, false, 12, none, 0, 0)
theorem me_104 : xMet 104 = some (yX12_isAsking, cX12_isAsking, 1, (some .boolean), 12, 1, 0, 6225, 6224, 0, 1013) := rfl
def hh_104 : xH := (none, false, 12, (some .boolean), 0, 0)
theorem me_105 : xMet 105 = some (yX12_askIsOver, cX12_askIsOver, 1, none, 12, 0, 1, 6229, 6228, 65, 1013) := rfl
def hh_105 : xH := (none, false, 12, none, 0, 0)
theorem me_106 : xMet 106 = some (yX12_clauseIsOver, cX12_clauseIsOver, 1, none, 12, 0, 1, 6233, 6232, 66, 1013) := rfl
def hh_106 : xH := (none, false, 12, none, 0, 0)
theorem me_107 : xMet 107 = some (yX12_asksOn, cX12_asksOn, 1, none, 12, 0, 1, 6237, 6236, 67, 1013) := rfl
def hh_107 : xH := (none, false, 12, none, 0, 0)
theorem me_108 : xMet 108 = some (yX12_clause, cX12_clause, 1, none, 12, 0, 1, 7001, 7000, 68, 1013) := rfl
def hh_108 : xH := (none, false, 12, none, 0, 0)
theorem me_109 : xMet 109 = some (yX12_wasWalk, cX12_wasWalk, 3, (some .boolean), 12, 0, 1, 7005, 7004, 69, 1013) := rfl
def hh_109 : xH := (none, false, 12, (some .boolean), 0, 0)
theorem me_110 : xMet 110 = some (yX12_keepsText, cX12_keepsText, 3, none, 12, 1, 1, 7009, 7008, 70, 1013) := rfl
def hh_110 : xH := (none, false, 12, none, 0, 0)
theorem me_111 : xMet 111 = some (yX11_fault, cX11_fault, 2, (some .int), 11, 1, 1, 3219, 3217, 3218, 1001) := rfl
def hh_111 : xH := (none, false, 11, (some .int), 0, 0)
theorem me_112 : xMet 112 = some (yX12_fault, cX12_fault, 2, (some .int), 12, 1, 1, 7013, 7011, 7012, 1013) := rfl
def hh_112 : xH := (none, false, 12, (some .int), 0, 0)
theorem me_113 : xMet 113 = some (yX11_by, cX11_by, 2, (some .boolean), 11, 1, 1, 3223, 3221, 3222, 1001) := rfl
def hh_113 : xH := (none, false, 11, (some .boolean), 0, 0)
theorem me_114 : xMet 114 = some (yX12_by, cX12_by, 2, (some .boolean), 12, 1, 1, 7017, 7015, 7016, 1013) := rfl
def hh_114 : xH := (none, false, 12, (some .boolean), 0, 0)
theorem me_115 : xMet 115 = some (yX11_run, cX11_run, 4, (some .int), 11, 1, 1, 3227, 3225, 3226, 1001) := rfl
def hh_115 : xH := (none, false, 11, (some .int), 0, 0)
theorem me_116 : xMet 116 = some (yX11_mayRun, cX11_mayRun, 2, (some .boolean), 11, 1, 1, 3231, 3230, 16, 1001) := rfl
def hh_116 : xH := (none, false, 11, (some .boolean), 0, 0)
theorem me_117 : xMet 117 = some (yX11_law, cX11_law, 1, (some (.object "MovingStairs$Text")), 11, 0, 1, 3235, 3234, 17, 1001) := rfl
def hh_117 : xH := (none, false, 11, (some (.object "MovingStairs$Text")), 0, 0)
theorem me_118 : xMet 118 = some (yX6_forgetRoutes, cX6_forgetRoutes, 1, none, 6, 0, 1, 3239, 3237, 3238, 1009) := rfl
def hh_118 : xH := (none, false, 6, none, 0, 0)
theorem me_119 : xMet 119 = some (yX8_forget, cX8_forget, 1, none, 8, 0, 1, 4003, 4001, 4002, 1010) := rfl
def hh_119 : xH := (none, false, 8, none, 0, 0)
theorem me_120 : xMet 120 = some (yX6_passSecond, cX6_passSecond, 3, none, 6, 2, 1, 4007, 4005, 4006, 1009) := rfl
def hh_120 : xH := (none, false, 6, none, 0, 0)
theorem me_121 : xMet 121 = some (yX6_comeInBursts, cX6_comeInBursts, 5, none, 6, 2, 1, 4011, 4010, 18, 1009) := rfl
def hh_121 : xH := (none, false, 6, none, 0, 0)
theorem me_122 : xMet 122 = some (yX0_isDue, cX0_isDue, 2, (some .boolean), 0, 1, 1, 4015, 4013, 4014, 1008) := rfl
def hh_122 : xH := (none, false, 0, (some .boolean), 0, 0)
theorem me_123 : xMet 123 = some (yX9_comeTo, cX9_comeTo, 5, none, 9, 4, 1, 4020, 4018, 4019, 1002) := rfl
def hh_123 : xH := (none, false, 9, none, 0, 0)
theorem me_124 : xMet 124 = some (yX2_change, cX2_change, 5, none, 2, 3, 1, 4025, 4023, 4024, 1006) := rfl
def hh_124 : xH := (none, false, 2, none, 0, 0)
theorem me_125 : xMet 125 = some (yX6_isSo, cX6_isSo, 6, (some .boolean), 6, 4, 1, 4029, 4028, 19, 1009) := rfl
def hh_125 : xH := (none, false, 6, (some .boolean), 0, 0)
theorem me_126 : xMet 126 = some (yX10_anySo, cX10_anySo, 5, (some .boolean), 10, 2, 1, 4033, 4031, 4032, 1012) := rfl
def hh_126 : xH := (none, false, 10, (some .boolean), 0, 0)
theorem me_127 : xMet 127 = some (yX10_worth, cX10_worth, 10, (some .int), 10, 3, 1, 4037, 4036, 20, 1012) := rfl
def hh_127 : xH := (none, false, 10, (some .int), 0, 0)
theorem me_128 : xMet 128 = some (yX10_joined, cX10_joined, 5, (some .long), 10, 3, 0, 4043, 4042, 0, 1012) := rfl
def hh_128 : xH := (none, false, 10, (some .long), 0, 0)
theorem me_129 : xMet 129 = some (yX2_changeOutside, cX2_changeOutside, 5, none, 2, 3, 1, 4055, 4053, 4054, 1006) := rfl
def hh_129 : xH := (none, false, 2, none, 0, 0)
theorem me_130 : xMet 130 = some (yX6_openHalls, cX6_openHalls, 5, none, 6, 2, 1, 4059, 4058, 21, 1009) := rfl
def hh_130 : xH := (none, false, 6, none, 0, 0)
theorem me_131 : xMet 131 = some (yX6_letIn, cX6_letIn, 8, none, 6, 2, 1, 4063, 4062, 22, 1009) := rfl
def hh_131 : xH := (none, false, 6, none, 0, 0)
theorem me_132 : xMet 132 = some (yX6_turnEmptyLinks, cX6_turnEmptyLinks, 3, none, 6, 1, 1, 4068, 4067, 23, 1009) := rfl
def hh_132 : xH := (none, false, 6, none, 0, 0)
theorem me_133 : xMet 133 = some (yX8_find, cX8_find, 5, none, 8, 1, 1, 4072, 4070, 4071, 1010) := rfl
def hh_133 : xH := (none, false, 8, none, 0, 0)
theorem me_134 : xMet 134 = some (yX3_takesNow, cX3_takesNow, 1, (some .boolean), 3, 0, 1, 4076, 4074, 4075, 1007) := rfl
def hh_134 : xH := (none, false, 3, (some .boolean), 0, 0)
theorem me_135 : xMet 135 = some (yX8_findFor, cX8_findFor, 6, none, 8, 2, 1, 4080, 4079, 24, 1010) := rfl
def hh_135 : xH := (none, false, 8, none, 0, 0)
theorem me_136 : xMet 136 = some (yX8_leads, cX8_leads, 4, (some .boolean), 8, 3, 1, 4086, 4085, 25, 1010) := rfl
def hh_136 : xH := (none, false, 8, (some .boolean), 0, 0)
theorem me_137 : xMet 137 = some (yX3_foot, cX3_foot, 1, (some .int), 3, 0, 1, 4090, 4088, 4089, 1007) := rfl
def hh_137 : xH := (none, false, 3, (some .int), 0, 0)
theorem me_138 : xMet 138 = some (yX3_seconds, cX3_seconds, 1, (some .int), 3, 0, 1, 4094, 4092, 4093, 1007) := rfl
def hh_138 : xH := (none, false, 3, (some .int), 0, 0)
theorem me_139 : xMet 139 = some (yX8_shorten, cX8_shorten, 5, none, 8, 3, 1, 4098, 4097, 26, 1010) := rfl
def hh_139 : xH := (none, false, 8, none, 0, 0)
theorem me_140 : xMet 140 = some (yX8_between, cX8_between, 4, (some .int), 8, 2, 1, 4102, 4101, 27, 1010) := rfl
def hh_140 : xH := (none, false, 8, (some .int), 0, 0)
theorem me_141 : xMet 141 = some (yX8_lowestFirst, cX8_lowestFirst, 10, (some .int), 8, 4, 1, 4106, 4105, 28, 1010) := rfl
def hh_141 : xH := (none, false, 8, (some .int), 0, 0)
theorem me_142 : xMet 142 = some (yX6_moveLinks, cX6_moveLinks, 6, none, 6, 2, 1, 4110, 4109, 29, 1009) := rfl
def hh_142 : xH := (none, false, 6, none, 0, 0)
theorem me_143 : xMet 143 = some (yX6_lift, cX6_lift, 8, none, 6, 4, 1, 4114, 4113, 30, 1009) := rfl
def hh_143 : xH := (none, false, 6, none, 0, 0)
theorem me_144 : xMet 144 = some (yX6_goalOfMost, cX6_goalOfMost, 9, (some .int), 6, 4, 1, 4119, 4118, 31, 1009) := rfl
def hh_144 : xH := (none, false, 6, (some .int), 0, 0)
theorem me_145 : xMet 145 = some (yX2_waiting, cX2_waiting, 4, (some .int), 2, 2, 1, 4123, 4121, 4122, 1006) := rfl
def hh_145 : xH := (none, false, 2, (some .int), 0, 0)
theorem me_146 : xMet 146 = some (yX8_firstLink, cX8_firstLink, 5, (some .int), 8, 3, 1, 4127, 4125, 4126, 1010) := rfl
def hh_146 : xH := (none, false, 8, (some .int), 0, 0)
theorem me_147 : xMet 147 = some (yX9_admits, cX9_admits, 3, (some .boolean), 9, 2, 1, 4131, 4129, 4130, 1002) := rfl
def hh_147 : xH := (none, false, 9, (some .boolean), 0, 0)
theorem me_148 : xMet 148 = some (yX6_walkOf, cX6_walkOf, 4, (some .int), 6, 3, 1, 4136, 4135, 32, 1009) := rfl
def hh_148 : xH := (none, false, 6, (some .int), 0, 0)
theorem me_149 : xMet 149 = some (yX10_walk, cX10_walk, 4, (some .int), 10, 1, 1, 4141, 4139, 4140, 1012) := rfl
def hh_149 : xH := (none, false, 10, (some .int), 0, 0)
theorem me_150 : xMet 150 = some (yX6_moveStair, cX6_moveStair, 5, none, 6, 2, 1, 4146, 4144, 4145, 1009) := rfl
def hh_150 : xH := (none, false, 6, none, 0, 0)
theorem me_151 : xMet 151 = some (yX3_goesOn, cX3_goesOn, 4, (some .boolean), 3, 2, 1, 4150, 4148, 4149, 1007) := rfl
def hh_151 : xH := (none, false, 3, (some .boolean), 0, 0)
theorem me_152 : xMet 152 = some (yX3_who, cX3_who, 4, (some .int), 3, 2, 1, 4154, 4152, 4153, 1007) := rfl
def hh_152 : xH := (none, false, 3, (some .int), 0, 0)
theorem me_153 : xMet 153 = some (yX3_move, cX3_move, 3, none, 3, 2, 1, 4158, 4156, 4157, 1007) := rfl
def hh_153 : xH := (none, false, 3, none, 0, 0)
theorem me_154 : xMet 154 = some (yX3_put, cX3_put, 5, none, 3, 3, 1, 4162, 4160, 4161, 1007) := rfl
def hh_154 : xH := (none, false, 3, none, 0, 0)
theorem me_155 : xMet 155 = some (yX6_stepOff, cX6_stepOff, 7, (some .boolean), 6, 3, 1, 4166, 4165, 33, 1009) := rfl
def hh_155 : xH := (none, false, 6, (some .boolean), 0, 0)
theorem me_156 : xMet 156 = some (yX3_head, cX3_head, 1, (some .int), 3, 0, 1, 4171, 4169, 4170, 1007) := rfl
def hh_156 : xH := (none, false, 3, (some .int), 0, 0)
theorem me_157 : xMet 157 = some (yX6_moveFixed, cX6_moveFixed, 5, none, 6, 2, 1, 4176, 4175, 34, 1009) := rfl
def hh_157 : xH := (none, false, 6, none, 0, 0)
theorem me_158 : xMet 158 = some (yX6_takeUpToTwo, cX6_takeUpToTwo, 11, none, 6, 3, 1, 4181, 4179, 4180, 1009) := rfl
def hh_158 : xH := (none, false, 6, none, 0, 0)
theorem me_159 : xMet 159 = some (yX3_sideFor, cX3_sideFor, 4, (some .int), 3, 2, 1, 4187, 4185, 4186, 1007) := rfl
def hh_159 : xH := (none, false, 3, (some .int), 0, 0)
theorem me_160 : xMet 160 = some (yX6_countSecond, cX6_countSecond, 6, none, 6, 1, 1, 4191, 4190, 35, 1009) := rfl
def hh_160 : xH := (none, false, 6, none, 0, 0)
theorem me_161 : xMet 161 = some (yX2_isOver, cX2_isOver, 1, (some .boolean), 2, 0, 1, 4195, 4193, 4194, 1006) := rfl
def hh_161 : xH := (none, false, 2, (some .boolean), 0, 0)
theorem me_162 : xMet 162 = some (yX12_run, cX12_run, 3, (some .int), 12, 1, 1, 7042, 7040, 7041, 1013) := rfl
def hh_162 : xH := (none, false, 12, (some .int), 0, 0)
theorem me_163 : xMet 163 = some (yX12_isRun, cX12_isRun, 2, (some .boolean), 12, 1, 1, 7046, 7045, 75, 1013) := rfl
def hh_163 : xH := (none, false, 12, (some .boolean), 0, 0)
theorem me_164 : xMet 164 = some (yX12_second, cX12_second, 4, none, 12, 0, 1, 7050, 7049, 76, 1013) := rfl
def hh_164 : xH := (none, false, 12, none, 0, 0)
theorem me_165 : xMet 165 = some (yX12_bursts, cX12_bursts, 6, none, 12, 1, 1, 7054, 7053, 77, 1013) := rfl
def hh_165 : xH := (none, false, 12, none, 0, 0)
theorem me_166 : xMet 166 = some (yX12_comes, cX12_comes, 5, none, 12, 4, 1, 7058, 7057, 78, 1013) := rfl
def hh_166 : xH := (none, false, 12, none, 0, 0)
theorem me_167 : xMet 167 = some (yX12_isSome, cX12_isSome, 6, (some .boolean), 12, 2, 1, 7062, 7061, 79, 1013) := rfl
def hh_167 : xH := (none, false, 12, (some .boolean), 0, 0)
theorem me_168 : xMet 168 = some (yX12_inHall, cX12_inHall, 2, (some .int), 12, 1, 1, 7066, 7065, 80, 1013) := rfl
def hh_168 : xH := (none, false, 12, (some .int), 0, 0)
theorem me_169 : xMet 169 = some (yX12_countOf, cX12_countOf, 5, (some .int), 12, 2, 1, 7070, 7069, 81, 1013) := rfl
def hh_169 : xH := (none, false, 12, (some .int), 0, 0)
theorem me_170 : xMet 170 = some (yX12_hallOf, cX12_hallOf, 3, (some .int), 12, 2, 1, 7074, 7073, 82, 1013) := rfl
def hh_170 : xH := (none, false, 12, (some .int), 0, 0)
theorem me_171 : xMet 171 = some (yX12_saysOf, cX12_saysOf, 5, (some .long), 12, 1, 1, 7078, 7077, 83, 1013) := rfl
def hh_171 : xH := (none, false, 12, (some .long), 0, 0)
theorem me_172 : xMet 172 = some (yX12_worked, cX12_worked, 5, (some .long), 12, 3, 0, 7081, 7080, 0, 1013) := rfl
def hh_172 : xH := (none, false, 12, (some .long), 0, 0)
theorem me_173 : xMet 173 = some (yX12_bound, cX12_bound, 2, (some .long), 12, 1, 0, 7084, 7083, 0, 1013) := rfl
def hh_173 : xH := (none, false, 12, (some .long), 0, 0)
theorem me_174 : xMet 174 = some (yX12_lets, cX12_lets, 4, none, 12, 1, 1, 7090, 7089, 84, 1013) := rfl
def hh_174 : xH := (none, false, 12, none, 0, 0)
theorem me_175 : xMet 175 = some (yX12_allRoutes, cX12_allRoutes, 2, none, 12, 0, 1, 7094, 7093, 85, 1013) := rfl
def hh_175 : xH := (none, false, 12, none, 0, 0)
theorem me_176 : xMet 176 = some (yX12_routes, cX12_routes, 8, none, 12, 2, 1, 7025, 7024, 71, 1013) := rfl
def hh_176 : xH := (none, false, 12, none, 0, 0)
theorem me_177 : xMet 177 = some (yX12_costFrom, cX12_costFrom, 5, (some .int), 12, 3, 1, 7030, 7029, 72, 1013) := rfl
def hh_177 : xH := (none, false, 12, (some .int), 0, 0)
theorem me_178 : xMet 178 = some (yX12_footOf, cX12_footOf, 2, (some .int), 12, 1, 1, 7034, 7033, 73, 1013) := rfl
def hh_178 : xH := (none, false, 12, (some .int), 0, 0)
theorem me_179 : xMet 179 = some (yX12_otherEnd, cX12_otherEnd, 3, (some .int), 12, 2, 1, 7038, 7037, 74, 1013) := rfl
def hh_179 : xH := (none, false, 12, (some .int), 0, 0)
theorem me_180 : xMet 180 = some (yX12_stairs, cX12_stairs, 5, none, 12, 2, 1, 7098, 7097, 86, 1013) := rfl
def hh_180 : xH := (none, false, 12, none, 0, 0)
theorem me_181 : xMet 181 = some (yX12_walkOf, cX12_walkOf, 6, (some .int), 12, 1, 1, 7102, 7101, 87, 1013) := rfl
def hh_181 : xH := (none, false, 12, (some .int), 0, 0)
theorem me_182 : xMet 182 = some (yX12_climbs, cX12_climbs, 7, none, 12, 2, 1, 7108, 7107, 88, 1013) := rfl
def hh_182 : xH := (none, false, 12, none, 0, 0)
theorem me_183 : xMet 183 = some (yX12_placeOf, cX12_placeOf, 4, (some .int), 12, 3, 1, 7112, 7111, 89, 1013) := rfl
def hh_183 : xH := (none, false, 12, (some .int), 0, 0)
theorem me_184 : xMet 184 = some (yX12_stepsOff, cX12_stepsOff, 5, (some .boolean), 12, 2, 1, 7116, 7115, 90, 1013) := rfl
def hh_184 : xH := (none, false, 12, (some .boolean), 0, 0)
theorem me_185 : xMet 185 = some (yX12_headOf, cX12_headOf, 2, (some .int), 12, 1, 1, 7120, 7119, 91, 1013) := rfl
def hh_185 : xH := (none, false, 12, (some .int), 0, 0)
theorem me_186 : xMet 186 = some (yX12_moves, cX12_moves, 7, (some .boolean), 12, 2, 1, 7124, 7123, 92, 1013) := rfl
def hh_186 : xH := (none, false, 12, (some .boolean), 0, 0)
theorem me_187 : xMet 187 = some (yX12_trips, cX12_trips, 2, none, 12, 1, 1, 7128, 7127, 93, 1013) := rfl
def hh_187 : xH := (none, false, 12, none, 0, 0)
theorem me_188 : xMet 188 = some (yX12_takes, cX12_takes, 9, none, 12, 2, 1, 7132, 7131, 94, 1013) := rfl
def hh_188 : xH := (none, false, 12, none, 0, 0)
theorem me_189 : xMet 189 = some (yX12_mostOf, cX12_mostOf, 8, (some .int), 12, 3, 1, 7136, 7135, 95, 1013) := rfl
def hh_189 : xH := (none, false, 12, (some .int), 0, 0)
theorem me_190 : xMet 190 = some (yX12_sideFor, cX12_sideFor, 4, (some .int), 12, 2, 1, 7140, 7139, 96, 1013) := rfl
def hh_190 : xH := (none, false, 12, (some .int), 0, 0)
theorem me_191 : xMet 191 = some (yX12_lifts, cX12_lifts, 6, none, 12, 3, 1, 7144, 7143, 97, 1013) := rfl
def hh_191 : xH := (none, false, 12, none, 0, 0)
theorem me_192 : xMet 192 = some (yX12_isOver, cX12_isOver, 2, (some .boolean), 12, 1, 1, 7148, 7147, 98, 1013) := rfl
def hh_192 : xH := (none, false, 12, (some .boolean), 0, 0)
theorem me_193 : xMet 193 = some (yX11_of, cX11_of, 4, (some .int), 11, 2, 1, 4201, 4199, 4200, 1001) := rfl
def hh_193 : xH := (none, false, 11, (some .int), 0, 0)
theorem me_194 : xMet 194 = some (yX12_of, cX12_of, 3, (some .int), 12, 2, 1, 7152, 7150, 7151, 1013) := rfl
def hh_194 : xH := (none, false, 12, (some .int), 0, 0)
theorem me_195 : xMet 195 = some (yX11_on, cX11_on, 4, (some .int), 11, 2, 1, 4205, 4203, 4204, 1001) := rfl
def hh_195 : xH := (none, false, 11, (some .int), 0, 0)
theorem me_196 : xMet 196 = some (yX12_on, cX12_on, 3, (some .int), 12, 2, 1, 7156, 7154, 7155, 1013) := rfl
def hh_196 : xH := (none, false, 12, (some .int), 0, 0)
theorem me_197 : xMet 197 = some (yX11_step, cX11_step, 4, (some .int), 11, 3, 1, 4209, 4207, 4208, 1001) := rfl
def hh_197 : xH := (none, false, 11, (some .int), 0, 0)
theorem me_198 : xMet 198 = some (yX12_step, cX12_step, 4, (some .int), 12, 3, 1, 7160, 7158, 7159, 1013) := rfl
def hh_198 : xH := (none, false, 12, (some .int), 0, 0)
theorem me_199 : xMet 199 = some (yX11_route, cX11_route, 4, (some .int), 11, 3, 1, 4214, 4212, 4213, 1001) := rfl
def hh_199 : xH := (none, false, 11, (some .int), 0, 0)
theorem me_200 : xMet 200 = some (yX12_route, cX12_route, 4, (some .int), 12, 3, 1, 7021, 7019, 7020, 1013) := rfl
def hh_200 : xH := (none, false, 12, (some .int), 0, 0)
theorem me_201 : xMet 201 = some (yX11_all, cX11_all, 2, (some .int), 11, 1, 1, 4220, 4218, 4219, 1001) := rfl
def hh_201 : xH := (none, false, 11, (some .int), 0, 0)
theorem me_202 : xMet 202 = some (yX12_all, cX12_all, 2, (some .int), 12, 1, 1, 7164, 7162, 7163, 1013) := rfl
def hh_202 : xH := (none, false, 12, (some .int), 0, 0)
theorem me_203 : xMet 203 = some (yX11_ways, cX11_ways, 9, (some .int), 11, 3, 1, 4224, 4222, 4223, 1001) := rfl
def hh_203 : xH := (none, false, 11, (some .int), 0, 0)
theorem me_204 : xMet 204 = some (yX11_mayTurn, cX11_mayTurn, 4, (some .boolean), 11, 1, 1, 4228, 4227, 36, 1001) := rfl
def hh_204 : xH := (none, false, 11, (some .boolean), 0, 0)
theorem me_205 : xMet 205 = some (yJ6_bitCount_0f7a4, cJ6_bitCount_0f7a4, 1, (some .int), 26, 1, 0, 4231, 4230, 0, 1020) := rfl
def hh_205 : xH := (none, false, 26, (some .int), 0, 0)
theorem me_206 : xMet 206 = some (yX11_waitedByWays, cX11_waitedByWays, 6, (some .int), 11, 3, 1, 4238, 4237, 37, 1001) := rfl
def hh_206 : xH := (none, false, 11, (some .int), 0, 0)
theorem me_207 : xMet 207 = some (yX11_beginTrial, cX11_beginTrial, 1, (some (.object "MovingStairs$Text")), 11, 0, 1, 5002, 5001, 38, 1001) := rfl
def hh_207 : xH := (none, false, 11, (some (.object "MovingStairs$Text")), 0, 0)
theorem me_208 : xMet 208 = some (yX9_copyMoving, cX9_copyMoving, 3, none, 9, 1, 1, 5006, 5004, 5005, 1002) := rfl
def hh_208 : xH := (none, false, 9, none, 0, 0)
theorem me_209 : xMet 209 = some (yX2_copy, cX2_copy, 2, none, 2, 1, 1, 5010, 5008, 5009, 1006) := rfl
def hh_209 : xH := (none, false, 2, none, 0, 0)
theorem me_210 : xMet 210 = some (yX3_copy, cX3_copy, 2, none, 3, 1, 1, 5017, 5015, 5016, 1007) := rfl
def hh_210 : xH := (none, false, 3, none, 0, 0)
theorem me_211 : xMet 211 = some (yX0_copy, cX0_copy, 2, none, 0, 1, 1, 5022, 5020, 5021, 1008) := rfl
def hh_211 : xH := (none, false, 0, none, 0, 0)
theorem me_212 : xMet 212 = some (yX12_ways, cX12_ways, 9, (some .int), 12, 3, 1, 7168, 7166, 7167, 1013) := rfl
def hh_212 : xH := (none, false, 12, (some .int), 0, 0)
theorem me_213 : xMet 213 = some (yX12_areStairs, cX12_areStairs, 5, (some .boolean), 12, 1, 1, 7172, 7171, 99, 1013) := rfl
def hh_213 : xH := (none, false, 12, (some .boolean), 0, 0)
theorem me_214 : xMet 214 = some (yX12_saves, cX12_saves, 2, none, 12, 0, 1, 7176, 7175, 100, 1013) := rfl
def hh_214 : xH := (none, false, 12, none, 0, 0)
theorem me_215 : xMet 215 = some (yX12_runs, cX12_runs, 3, none, 12, 1, 1, 7181, 7180, 101, 1013) := rfl
def hh_215 : xH := (none, false, 12, none, 0, 0)
theorem me_216 : xMet 216 = some (yX12_putsBack, cX12_putsBack, 2, none, 12, 0, 1, 7185, 7184, 102, 1013) := rfl
def hh_216 : xH := (none, false, 12, none, 0, 0)
theorem me_217 : xMet 217 = some (yX11_least, cX11_least, 6, (some .int), 11, 3, 1, 5026, 5024, 5025, 1001) := rfl
def hh_217 : xH := (none, false, 11, (some .int), 0, 0)
theorem me_218 : xMet 218 = some (yX11_shutByBar, cX11_shutByBar, 6, (some .int), 11, 3, 1, 5030, 5029, 39, 1001) := rfl
def hh_218 : xH := (none, false, 11, (some .int), 0, 0)
theorem me_219 : xMet 219 = some (yX9_anyHallOver, cX9_anyHallOver, 2, (some .boolean), 9, 0, 1, 5034, 5032, 5033, 1002) := rfl
def hh_219 : xH := (none, false, 9, (some .boolean), 0, 0)
theorem me_220 : xMet 220 = some (yX12_least, cX12_least, 8, (some .int), 12, 3, 1, 7189, 7187, 7188, 1013) := rfl
def hh_220 : xH := (none, false, 12, (some .int), 0, 0)
theorem me_221 : xMet 221 = some (yX11_felt, cX11_felt, 6, (some .int), 11, 2, 1, 5039, 5037, 5038, 1001) := rfl
def hh_221 : xH := (none, false, 11, (some .int), 0, 0)
theorem me_222 : xMet 222 = some (yX12_felt, cX12_felt, 7, (some .int), 12, 2, 1, 7193, 7191, 7192, 1013) := rfl
def hh_222 : xH := (none, false, 12, (some .int), 0, 0)
theorem me_223 : xMet 223 = some (yX12_isStair, cX12_isStair, 2, (some .boolean), 12, 1, 1, 7197, 7196, 103, 1013) := rfl
def hh_223 : xH := (none, false, 12, (some .boolean), 0, 0)
theorem me_224 : xMet 224 = some (yX11_standing, cX11_standing, 3, (some .int), 11, 2, 1, 5045, 5043, 5044, 1001) := rfl
def hh_224 : xH := (none, false, 11, (some .int), 0, 0)
theorem me_225 : xMet 225 = some (yX11_offByMode, cX11_offByMode, 6, (some .int), 11, 3, 1, 5050, 5049, 40, 1001) := rfl
def hh_225 : xH := (none, false, 11, (some .int), 0, 0)
theorem me_226 : xMet 226 = some (yX12_standing, cX12_standing, 5, (some .int), 12, 2, 1, 7201, 7199, 7200, 1013) := rfl
def hh_226 : xH := (none, false, 12, (some .int), 0, 0)
theorem me_227 : xMet 227 = some (yX11_alone, cX11_alone, 5, (some .int), 11, 4, 1, 5054, 5052, 5053, 1001) := rfl
def hh_227 : xH := (none, false, 11, (some .int), 0, 0)
theorem me_228 : xMet 228 = some (yX11_mayStandAlone, cX11_mayStandAlone, 2, (some .boolean), 11, 2, 0, 5057, 5056, 0, 1001) := rfl
def hh_228 : xH := (none, false, 11, (some .boolean), 0, 0)
theorem me_229 : xMet 229 = some (yX11_carriedAlone, cX11_carriedAlone, 7, (some .int), 11, 4, 1, 5061, 5060, 41, 1001) := rfl
def hh_229 : xH := (none, false, 11, (some .int), 0, 0)
theorem me_230 : xMet 230 = some (yX9_buildAlone, cX9_buildAlone, 4, none, 9, 3, 1, 5065, 5063, 5064, 1002) := rfl
def hh_230 : xH := (none, false, 9, none, 0, 0)
theorem me_231 : xMet 231 = some (yX12_alone, cX12_alone, 5, (some .int), 12, 4, 1, 7206, 7204, 7205, 1013) := rfl
def hh_231 : xH := (none, false, 12, (some .int), 0, 0)
theorem me_232 : xMet 232 = some (yX12_carries, cX12_carries, 12, (some .int), 12, 4, 1, 7210, 7209, 104, 1013) := rfl
def hh_232 : xH := (none, false, 12, (some .int), 0, 0)
theorem me_233 : xMet 233 = some (yX12_loneMoves, cX12_loneMoves, 8, (some .int), 12, 2, 1, 7214, 7213, 105, 1013) := rfl
def hh_233 : xH := (none, false, 12, (some .int), 0, 0)
theorem me_234 : xMet 234 = some (yX11_crossing, cX11_crossing, 5, (some .int), 11, 2, 1, 5074, 5072, 5073, 1001) := rfl
def hh_234 : xH := (none, false, 11, (some .int), 0, 0)
theorem me_235 : xMet 235 = some (yX12_crossing, cX12_crossing, 5, (some .int), 12, 2, 1, 7218, 7216, 7217, 1013) := rfl
def hh_235 : xH := (none, false, 12, (some .int), 0, 0)
theorem me_236 : xMet 236 = some (yX11_day, cX11_day, 4, (some .int), 11, 3, 1, 5078, 5076, 5077, 1001) := rfl
def hh_236 : xH := (none, false, 11, (some .int), 0, 0)
theorem me_237 : xMet 237 = some (yX1_tell, cX1_tell, 5, (some .int), 1, 3, 1, 5082, 5080, 5081, 1003) := rfl
def hh_237 : xH := (none, false, 1, (some .int), 0, 0)
theorem me_238 : xMet 238 = some (yX12_day, cX12_day, 5, (some .int), 12, 3, 1, 7222, 7220, 7221, 1013) := rfl
def hh_238 : xH := (none, false, 12, (some .int), 0, 0)
theorem me_239 : xMet 239 = some (yX11_effect, cX11_effect, 1, (some .int), 11, 0, 1, 5086, 5084, 5085, 1001) := rfl
def hh_239 : xH := (none, false, 11, (some .int), 0, 0)
theorem me_240 : xMet 240 = some (yX1_meanEffect, cX1_meanEffect, 11, (some .int), 1, 0, 1, 5090, 5088, 5089, 1003) := rfl
def hh_240 : xH := (none, false, 1, (some .int), 0, 0)
theorem me_241 : xMet 241 = some (yX12_effect, cX12_effect, 6, (some .int), 12, 0, 1, 7226, 7224, 7225, 1013) := rfl
def hh_241 : xH := (none, false, 12, (some .int), 0, 0)
theorem me_242 : xMet 242 = some (yX12_daysOf, cX12_daysOf, 7, (some .int), 12, 3, 1, 7230, 7229, 106, 1013) := rfl
def hh_242 : xH := (none, false, 12, (some .int), 0, 0)
theorem me_243 : xMet 243 = some (yX11_mend, cX11_mend, 6, (some .int), 11, 4, 1, 5096, 5094, 5095, 1001) := rfl
def hh_243 : xH := (none, false, 11, (some .int), 0, 0)
theorem me_244 : xMet 244 = some (yX5_tell, cX5_tell, 5, (some .int), 5, 4, 1, 5100, 5098, 5099, 1004) := rfl
def hh_244 : xH := (none, false, 5, (some .int), 0, 0)
theorem me_245 : xMet 245 = some (yX12_mend, cX12_mend, 6, (some .int), 12, 4, 1, 7235, 7233, 7234, 1013) := rfl
def hh_245 : xH := (none, false, 12, (some .int), 0, 0)
theorem me_246 : xMet 246 = some (yX11_order, cX11_order, 2, (some .int), 11, 1, 1, 5104, 5102, 5103, 1001) := rfl
def hh_246 : xH := (none, false, 11, (some .int), 0, 0)
theorem me_247 : xMet 247 = some (yX5_weigh, cX5_weigh, 4, none, 5, 0, 1, 5108, 5106, 5107, 1004) := rfl
def hh_247 : xH := (none, false, 5, none, 0, 0)
theorem me_248 : xMet 248 = some (yX5_bestNext, cX5_bestNext, 6, (some .int), 5, 1, 1, 5113, 5112, 42, 1004) := rfl
def hh_248 : xH := (none, false, 5, (some .int), 0, 0)
theorem me_249 : xMet 249 = some (yX5_countBy, cX5_countBy, 8, (some .int), 5, 2, 1, 5117, 5116, 43, 1004) := rfl
def hh_249 : xH := (none, false, 5, (some .int), 0, 0)
theorem me_250 : xMet 250 = some (yX5_inTurn, cX5_inTurn, 5, (some .int), 5, 1, 1, 5121, 5119, 5120, 1004) := rfl
def hh_250 : xH := (none, false, 5, (some .int), 0, 0)
theorem me_251 : xMet 251 = some (yX12_order, cX12_order, 8, (some .int), 12, 1, 1, 7239, 7237, 7238, 1013) := rfl
def hh_251 : xH := (none, false, 12, (some .int), 0, 0)
theorem me_252 : xMet 252 = some (yX12_countsBy, cX12_countsBy, 10, (some .int), 12, 3, 1, 8003, 8002, 107, 1013) := rfl
def hh_252 : xH := (none, false, 12, (some .int), 0, 0)
theorem me_253 : xMet 253 = some (yX12_aboveOf, cX12_aboveOf, 6, (some .int), 12, 2, 1, 8007, 8006, 108, 1013) := rfl
def hh_253 : xH := (none, false, 12, (some .int), 0, 0)
theorem me_254 : xMet 254 = some (yX11_load, cX11_load, 2, (some .int), 11, 1, 1, 5125, 5123, 5124, 1001) := rfl
def hh_254 : xH := (none, false, 11, (some .int), 0, 0)
theorem me_255 : xMet 255 = some (yX4_tell, cX4_tell, 2, (some .int), 4, 1, 1, 5129, 5127, 5128, 1005) := rfl
def hh_255 : xH := (none, false, 4, (some .int), 0, 0)
theorem me_256 : xMet 256 = some (yX12_load, cX12_load, 2, (some .int), 12, 1, 1, 8011, 8009, 8010, 1013) := rfl
def hh_256 : xH := (none, false, 12, (some .int), 0, 0)
theorem me_257 : xMet 257 = some (yX11_unload, cX11_unload, 2, (some .int), 11, 0, 1, 5133, 5131, 5132, 1001) := rfl
def hh_257 : xH := (none, false, 11, (some .int), 0, 0)
theorem me_258 : xMet 258 = some (yX12_unload, cX12_unload, 2, (some .int), 12, 0, 1, 8015, 8013, 8014, 1013) := rfl
def hh_258 : xH := (none, false, 12, (some .int), 0, 0)
theorem me_259 : xMet 259 = some (yX11_taken, cX11_taken, 3, (some .int), 11, 2, 1, 5137, 5135, 5136, 1001) := rfl
def hh_259 : xH := (none, false, 11, (some .int), 0, 0)
theorem me_260 : xMet 260 = some (yX4_steppedOn, cX4_steppedOn, 14, (some .int), 4, 2, 1, 5141, 5139, 5140, 1005) := rfl
def hh_260 : xH := (none, false, 4, (some .int), 0, 0)
theorem me_261 : xMet 261 = some (yX12_taken, cX12_taken, 9, (some .int), 12, 2, 1, 8019, 8017, 8018, 1013) := rfl
def hh_261 : xH := (none, false, 12, (some .int), 0, 0)
theorem me_262 : xMet 262 = some (yX12_chain, cX12_chain, 7, (some .int), 12, 3, 1, 8023, 8022, 109, 1013) := rfl
def hh_262 : xH := (none, false, 12, (some .int), 0, 0)
theorem me_263 : xMet 263 = some (yX11_image, cX11_image, 1, (some .int), 11, 0, 1, 5147, 5145, 5146, 1001) := rfl
def hh_263 : xH := (none, false, 11, (some .int), 0, 0)
theorem me_264 : xMet 264 = some (yX9_copyAll, cX9_copyAll, 2, none, 9, 1, 1, 5151, 5149, 5150, 1002) := rfl
def hh_264 : xH := (none, false, 9, none, 0, 0)
theorem me_265 : xMet 265 = some (yX1_copy, cX1_copy, 2, none, 1, 1, 1, 5156, 5154, 5155, 1003) := rfl
def hh_265 : xH := (none, false, 1, none, 0, 0)
theorem me_266 : xMet 266 = some (yX5_copy, cX5_copy, 2, none, 5, 1, 1, 5161, 5159, 5160, 1004) := rfl
def hh_266 : xH := (none, false, 5, none, 0, 0)
theorem me_267 : xMet 267 = some (yX4_copy, cX4_copy, 2, none, 4, 1, 1, 5166, 5164, 5165, 1005) := rfl
def hh_267 : xH := (none, false, 4, none, 0, 0)
theorem me_268 : xMet 268 = some (yX12_image, cX12_image, 2, (some .int), 12, 0, 1, 8027, 8025, 8026, 1013) := rfl
def hh_268 : xH := (none, false, 12, (some .int), 0, 0)
theorem me_269 : xMet 269 = some (yX11_back, cX11_back, 1, (some .int), 11, 0, 1, 5171, 5169, 5170, 1001) := rfl
def hh_269 : xH := (none, false, 11, (some .int), 0, 0)
theorem me_270 : xMet 270 = some (yX12_back, cX12_back, 2, (some .int), 12, 0, 1, 8031, 8029, 8030, 1013) := rfl
def hh_270 : xH := (none, false, 12, (some .int), 0, 0)
theorem me_271 : xMet 271 = some (yX11_about, cX11_about, 2, (some .int), 11, 1, 1, 5175, 5173, 5174, 1001) := rfl
def hh_271 : xH := (none, false, 11, (some .int), 0, 0)
theorem me_272 : xMet 272 = some (yX12_about, cX12_about, 2, (some .int), 12, 1, 1, 8035, 8033, 8034, 1013) := rfl
def hh_272 : xH := (none, false, 12, (some .int), 0, 0)
def xFillM (m : xMem) (a n : Nat) (x : Int32) : xMem := (fun b j => if b = a ∧ j < n then x else m.1 b j, m.2)
theorem xTm_small : ∀ a, a < 317 → ∀ t, xTmL[a]? = some t → t.2.1 ≤ 2000 := by decide +kernel
theorem xFillM_0 (m : xMem) (a : Nat) (x : Int32) : xFillM m a 0 x = m := by
  unfold xFillM
  simp
theorem xFillM_succ (m : xMem) (a k : Nat) (x : Int32) : xPut (xFillM m a k x) a k x = xFillM m a (k + 1) x := by
  unfold xPut xFillM
  refine Prod.ext ?_ rfl
  funext b j
  by_cases hb : b = a
  · subst hb
    by_cases hj : j = k
    · subst hj; simp
    · by_cases hk : j < k
      · simp [hj, hk, Nat.lt_succ_of_lt hk]
      · simp [hj, hk]; omega
  · simp [hb]
def fJ7_fill_53178 (a n : Nat) (x : Int32) (m : xMem) : Option xMem := some (xFillM m a n x)
theorem fJ7_fill_53178_loop {d a n : Nat} {x : Int32} {m : xMem} (ha : xTmL[a]? = some (101, n, [])) (hn : n ≤ 2000) : ∀ (e k : Nat), k + e = n → xFx hh_16 cJ7_fill_53178 d 5 [some (.ref a), some (.int x), some (.int (nI k)), some (.int (nI n))] [] (xLay (xFillM m a k x)) 0 0 none (xLay (xFillM m a n x)) := by
  intro e
  induction e with
  | zero =>
    intro k hk
    have hk : k = n := by omega
    subst hk
    refine fx_iload_n dJ7_fill_53178_5 rfl rfl ?_
    refine fx_iload_n dJ7_fill_53178_6 rfl rfl ?_
    refine fx_icmp_ge (t := 20) dJ7_fill_53178_7 rfl rfl (fun _ => ?_) (fun hc => absurd (Int32.le_refl _) hc)
    exact fx_return dJ7_fill_53178_20 rfl rfl
  | succ e ih =>
    intro k hk
    refine fx_iload_n dJ7_fill_53178_5 rfl rfl ?_
    refine fx_iload_n dJ7_fill_53178_6 rfl rfl ?_
    refine fx_icmp_ge (t := 20) dJ7_fill_53178_7 rfl rfl (fun hc => absurd hc (nI_ge (by omega) (by omega))) (fun _ => ?_)
    refine fx_aload_n dJ7_fill_53178_10 rfl rfl ?_
    refine fx_iload_n dJ7_fill_53178_11 rfl rfl ?_
    refine fx_iload_n dJ7_fill_53178_12 rfl rfl ?_
    have hc2 : (nI k).toNatClampNeg = k := nI_clamp (by omega)
    refine gx_iastore (m2 := xFillM m a (k + 1) x) dJ7_fill_53178_13 rfl ha (by unfold xIn; simp [hc2, nI_pos (show k < 2 ^ 31 by omega)]; try omega) (by rw [hc2]; exact xFillM_succ m a k x) ?_
    refine fx_iinc (ls2 := [some (.ref a), some (.int x), some (.int (nI (k + 1))), some (.int (nI n))]) dJ7_fill_53178_14 rfl rfl rfl (nI_1 k) rfl ?_
    refine fx_goto (t := 5) dJ7_fill_53178_17 rfl rfl ?_
    exact ih (k + 1) (by omega)
theorem fJ7_fill_53178_ok {a n : Nat} {x : Int32} {m r : xMem} {d : Nat} (hd : 1 ≤ d) (ha : xTmL[a]? = some (101, n, [])) (h : fJ7_fill_53178 a n x m = some r) : xEx d 16 [.ref a, .int x] (xLay m) none (xLay r) := by
  obtain ⟨d, rfl⟩ : ∃ q, d = q + 1 := ⟨d - 1, by omega⟩
  cases h
  have hn : n ≤ 2000 := xTm_small a (by rw [← xTmL_len]; exact (List.getElem?_eq_some_iff.mp ha).1) _ ha
  refine xEx_of me_16 rfl ?_
  show xFx hh_16 cJ7_fill_53178 d 0 [some (.ref a), some (.int x), none, none] [] (xLay m) 0 0 none (xLay (xFillM m a n x))
  refine fx_iconst (x := 0) dJ7_fill_53178_0 rfl (by decide) ?_
  refine fx_istore_n (ls2 := [some (.ref a), some (.int x), some (.int 0), none]) dJ7_fill_53178_1 rfl rfl rfl ?_
  refine fx_aload_n dJ7_fill_53178_2 rfl rfl ?_
  refine gx_alen (t := 1) (y := nI n) dJ7_fill_53178_3 rfl ha rfl rfl ?_
  refine fx_istore_n (ls2 := [some (.ref a), some (.int x), some (.int 0), some (.int (nI n))]) dJ7_fill_53178_4 rfl rfl rfl ?_
  have e := fJ7_fill_53178_loop (d := d) (x := x) (m := m) ha hn n 0 (by omega)
  rw [xFillM_0] at e
  exact e
