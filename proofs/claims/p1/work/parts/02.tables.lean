/-! names of the owning classes, tables of fields, methods, calls, constants: rows of places in the words of the law (wsL_law) -/
def xoN (o : Nat) : String := match o with
  | 0 => RX0
  | 1 => RX1
  | 2 => RX2
  | 3 => RX3
  | 4 => RX4
  | 5 => RX5
  | 6 => RX6
  | 7 => RX7
  | 8 => RX8
  | 9 => RX9
  | 10 => RX10
  | 11 => RX11
  | 12 => RX12
  | 13 => RL
  | 20 => RJ0
  | 21 => RJ1
  | 22 => RJ2
  | 23 => RJ3
  | 24 => RJ4
  | 25 => RJ5
  | 26 => RJ6
  | 27 => RJ7
  | _ => ""
/-- fields: (place in the pool, class, slot, word) by owner -/
def xFldL (o : Nat) : List (Nat × Nat × Nat × Nat) := match o with
  | 0 => [(7, 0, 0, 693), (13, 0, 1, 692), (16, 0, 2, 1147), (19, 0, 3, 1148), (22, 0, 4, 1149), (25, 0, 5, 1150), (28, 0, 6, 1151)]
  | 1 => [(11, 1, 0, 64), (15, 1, 1, 65), (18, 1, 2, 1268)]
  | 2 => [(9, 2, 0, 81), (15, 2, 1, 82), (18, 2, 2, 168), (22, 2, 3, 169), (25, 2, 4, 170), (28, 2, 5, 171), (31, 2, 6, 172), (34, 2, 7, 173), (37, 2, 8, 174)]
  | 3 => [(9, 3, 0, 86), (15, 3, 1, 214), (19, 3, 2, 215), (22, 3, 3, 216), (25, 3, 4, 217), (28, 3, 5, 218), (31, 3, 6, 219), (34, 3, 7, 220), (37, 3, 8, 221), (40, 3, 9, 222), (43, 3, 10, 223), (46, 3, 11, 224), (49, 3, 12, 225), (53, 3, 13, 226)]
  | 4 => [(11, 4, 0, 77), (15, 4, 1, 1350)]
  | 5 => [(11, 5, 0, 69), (15, 5, 1, 70), (18, 5, 2, 71), (21, 5, 3, 72), (24, 5, 4, 73), (27, 5, 5, 1301)]
  | 6 => [(12, 6, 0, 96), (20, 6, 1, 97), (47, 9, 6, 674), (53, 9, 9, 679), (56, 9, 2, 680), (66, 0, 2, 681), (72, 0, 6, 682), (76, 0, 3, 683), (79, 0, 5, 684), (82, 0, 4, 685), (93, 9, 14, 686), (96, 9, 0, 687), (106, 2, 4, 709), (109, 2, 2, 710), (112, 2, 5, 711), (119, 9, 7, 742), (122, 2, 3, 743), (125, 2, 8, 744), (132, 2, 1, 749), (141, 9, 8, 755), (144, 9, 1, 756), (148, 3, 9, 757), (151, 3, 7, 758), (154, 3, 6, 759), (157, 3, 1, 808), (158, 3, 5, 809), (161, 3, 2, 810), (164, 3, 3, 811), (189, 3, 4, 816), (201, 3, 10, 817), (204, 3, 11, 818), (214, 3, 8, 843), (225, 3, 12, 854), (228, 3, 13, 855), (238, 9, 15, 856), (265, 9, 13, 902), (268, 2, 6, 903), (271, 2, 7, 904)]
  | 7 => [(11, 7, 0, 107), (15, 7, 1, 108), (18, 7, 2, 109), (21, 7, 3, 110), (24, 7, 5, 111), (28, 7, 6, 112), (31, 7, 4, 325), (37, 7, 8, 356), (40, 10, 5, 357), (45, 10, 6, 358), (48, 7, 7, 359), (104, 7, 9, 454)]
  | 8 => [(11, 8, 0, 101), (15, 8, 1, 102), (18, 8, 2, 103), (22, 9, 8, 764), (27, 9, 1, 765), (37, 3, 6, 766), (51, 3, 2, 776), (58, 3, 3, 777), (77, 3, 1, 783)]
  | 9 => [(11, 9, 0, 36), (19, 9, 1, 38), (25, 9, 2, 40), (32, 9, 3, 44), (39, 9, 4, 48), (46, 9, 5, 52), (50, 9, 11, 53), (57, 9, 7, 195), (60, 9, 8, 249), (67, 3, 1, 244), (77, 2, 4, 836), (80, 2, 2, 837), (83, 9, 12, 699), (94, 9, 10, 1390), (107, 9, 6, 1125), (110, 9, 9, 1126), (113, 9, 13, 1127), (116, 9, 14, 1128), (119, 9, 15, 1129), (138, 3, 8, 1233)]
  | 10 => [(9, 10, 0, 116), (15, 10, 1, 117), (18, 10, 2, 118), (21, 10, 3, 119), (24, 10, 4, 120), (27, 10, 5, 479), (31, 10, 6, 463)]
  | 11 => [(10, 11, 0, 15), (16, 11, 1, 16), (19, 11, 2, 17), (25, 11, 3, 21), (32, 11, 4, 25), (39, 11, 5, 29), (43, 11, 6, 30), (51, 9, 7, 159), (55, 9, 0, 160), (69, 2, 3, 190), (72, 9, 8, 208), (75, 9, 1, 209), (93, 3, 8, 278), (99, 3, 13, 291), (104, 9, 9, 302), (107, 9, 2, 303), (111, 0, 0, 304), (116, 0, 1, 305), (119, 0, 2, 306), (122, 0, 3, 307), (125, 0, 4, 308), (128, 0, 5, 309), (131, 0, 6, 310), (140, 7, 4, 320), (143, 9, 10, 351), (150, 7, 5, 634), (153, 7, 6, 635), (156, 9, 11, 644), (173, 9, 6, 653), (174, 2, 0, 1042), (178, 2, 4, 1043), (181, 2, 5, 1044), (184, 2, 6, 1045), (187, 2, 7, 1046), (190, 3, 9, 1055), (191, 3, 6, 1056), (194, 3, 12, 1057), (197, 3, 7, 1058), (200, 3, 10, 1059), (203, 3, 11, 1060), (206, 3, 4, 1069), (211, 6, 0, 1079), (225, 9, 12, 1090), (228, 9, 13, 1091), (231, 9, 14, 1092), (234, 9, 15, 1093), (271, 9, 3, 1263), (282, 9, 4, 1296), (290, 5, 5, 1310), (294, 5, 4, 1311), (301, 9, 5, 1345), (309, 4, 1, 1359), (317, 1, 2, 1423)]
  | 12 => [(7, 12, 0, 125), (13, 12, 1, 126), (16, 12, 2, 127), (19, 12, 3, 129), (23, 12, 5, 130), (27, 12, 6, 131), (30, 12, 7, 132), (33, 12, 8, 133), (36, 12, 9, 134), (39, 12, 10, 135), (42, 12, 11, 136), (45, 12, 21, 137), (48, 12, 22, 138), (51, 12, 24, 139), (54, 12, 25, 140), (57, 12, 29, 141), (60, 12, 30, 142), (63, 12, 32, 143), (66, 12, 33, 144), (69, 12, 34, 145), (72, 12, 35, 147), (76, 12, 36, 149), (80, 12, 37, 150), (83, 12, 38, 151), (86, 12, 39, 152), (89, 12, 40, 153), (92, 12, 41, 154), (122, 12, 4, 334), (157, 12, 13, 510), (160, 12, 12, 509), (163, 12, 14, 524), (166, 12, 15, 519), (178, 12, 16, 526), (181, 12, 17, 511), (184, 12, 18, 512), (187, 12, 31, 518), (190, 12, 20, 514), (193, 12, 19, 513), (205, 12, 23, 515), (224, 12, 26, 516), (230, 12, 28, 571), (252, 12, 27, 517)]
  | _ => []
def xCl (ci : Nat) : vw_C := match ci with
  | 0 => (RX0, TX0, 7)
  | 1 => (RX1, TX1, 3)
  | 2 => (RX2, TX2, 9)
  | 3 => (RX3, TX3, 14)
  | 4 => (RX4, TX4, 2)
  | 5 => (RX5, TX5, 6)
  | 6 => (RX6, TX6, 2)
  | 7 => (RX7, TX7, 10)
  | 8 => (RX8, TX8, 3)
  | 9 => (RX9, TX9, 16)
  | 10 => (RX10, TX10, 7)
  | 11 => (RX11, TX11, 7)
  | 12 => (RX12, TX12, 42)
  | _ => ("", TX0, 0)
def xTy (ci : Nat) : Nat → FieldType := match ci with
  | 0 => tyX0
  | 1 => tyX1
  | 2 => tyX2
  | 3 => tyX3
  | 4 => tyX4
  | 5 => tyX5
  | 6 => tyX6
  | 7 => tyX7
  | 8 => tyX8
  | 9 => tyX9
  | 10 => tyX10
  | 11 => tyX11
  | 12 => tyX12
  | _ => tyX0
def xFld (o i : Nat) : Option (Nat × Nat × Nat × Nat) := (xFldL o).find? (fun r => r.1 == i)
def xFldOk (o : Nat) (r : Nat × Nat × Nat × Nat) : Bool := decide (wsL_law[r.2.2.2]? = some (.fieldLink (xoN o) r.1 ((xCl r.2.1).2.1 r.2.2.1).1 ((xCl r.2.1).2.1 r.2.2.1).2.1 ((xCl r.2.1).2.1 r.2.2.1).2.2.1)) && decide (r.2.2.1 < (xCl r.2.1).2.2) && decide (r.2.1 < 13)
theorem xFldOk_0 : (xFldL 0).all (xFldOk 0) = true := by decide +kernel
theorem xFldOk_1 : (xFldL 1).all (xFldOk 1) = true := by decide +kernel
theorem xFldOk_2 : (xFldL 2).all (xFldOk 2) = true := by decide +kernel
theorem xFldOk_3 : (xFldL 3).all (xFldOk 3) = true := by decide +kernel
theorem xFldOk_4 : (xFldL 4).all (xFldOk 4) = true := by decide +kernel
theorem xFldOk_5 : (xFldL 5).all (xFldOk 5) = true := by decide +kernel
theorem xFldOk_6 : (xFldL 6).all (xFldOk 6) = true := by decide +kernel
theorem xFldOk_7 : (xFldL 7).all (xFldOk 7) = true := by decide +kernel
theorem xFldOk_8 : (xFldL 8).all (xFldOk 8) = true := by decide +kernel
theorem xFldOk_9 : (xFldL 9).all (xFldOk 9) = true := by decide +kernel
theorem xFldOk_10 : (xFldL 10).all (xFldOk 10) = true := by decide +kernel
theorem xFldOk_11 : (xFldL 11).all (xFldOk 11) = true := by decide +kernel
theorem xFldOk_12 : (xFldL 12).all (xFldOk 12) = true := by decide +kernel
/-- calls: (place in the pool, method, word) by owner -/
def xCallL (o : Nat) : List (Nat × Nat × Nat) := match o with
  | 0 => [(1, 1005, 89)]
  | 1 => [(3, 1005, 62), (22, 1004, 1396)]
  | 2 => [(3, 1005, 80), (41, 16, 175), (47, 1004, 1134)]
  | 3 => [(3, 1005, 85), (56, 16, 227), (62, 1004, 1142), (68, 152, 861), (72, 154, 869), (76, 153, 865)]
  | 4 => [(3, 1005, 76), (19, 1004, 1406), (25, 1000, 1372), (31, 1001, 1373)]
  | 5 => [(3, 1005, 68), (31, 1004, 1401), (37, 1000, 1316), (43, 248, 1317), (47, 249, 1321)]
  | 6 => [(3, 1005, 92), (24, 119, 666), (27, 121, 675), (31, 130, 738), (34, 132, 751), (38, 133, 760), (41, 142, 804), (44, 160, 898), (60, 122, 688), (69, 20, 694), (85, 123, 695), (89, 125, 705), (100, 129, 734), (115, 126, 712), (128, 131, 745), (135, 1000, 750), (167, 143, 812), (171, 148, 839), (175, 150, 850), (179, 157, 883), (182, 158, 888), (186, 29, 819), (190, 144, 820), (194, 147, 832), (198, 124, 838), (207, 145, 824), (210, 146, 828), (217, 137, 844), (221, 149, 845), (231, 151, 857), (234, 155, 873), (241, 152, 877), (244, 156, 878), (247, 154, 882), (250, 153, 887), (254, 28, 892), (257, 134, 893), (261, 159, 894), (274, 161, 907), (279, 1002, 906)]
  | 7 => [(3, 1005, 106), (34, 52, 360), (51, 72, 446), (55, 73, 450), (59, 53, 364), (63, 69, 436), (67, 54, 372), (70, 55, 376), (74, 56, 379), (78, 70, 440), (81, 1000, 368), (87, 71, 443), (92, 57, 383), (96, 59, 395), (100, 68, 432), (107, 74, 455), (110, 75, 459), (113, 76, 464), (117, 77, 468), (121, 82, 489), (124, 85, 501), (127, 83, 493), (130, 78, 475), (133, 84, 497), (136, 81, 472), (139, 79, 485), (142, 80, 481)]
  | 8 => [(3, 1005, 100), (31, 134, 767), (40, 135, 771), (45, 16, 778), (54, 136, 779), (61, 138, 788), (65, 139, 792), (69, 140, 796), (73, 141, 800), (80, 137, 784)]
  | 9 => [(3, 1005, 34), (63, 29, 245), (70, 161, 1185), (74, 20, 700), (86, 124, 701), (90, 208, 1391), (97, 265, 1392), (101, 266, 1397), (104, 267, 1402), (122, 209, 1130), (125, 210, 1138), (128, 211, 1143), (131, 15, 1234), (135, 24, 1235), (141, 123, 1236)]
  | 10 => [(1, 1005, 115), (34, 127, 716), (38, 1000, 849), (44, 1001, 720), (47, 128, 731), (55, 1002, 725), (58, 1003, 728)]
  | 11 => [(1, 1005, 9), (9, 1, 31), (47, 14, 161), (59, 15, 164), (65, 20, 191), (79, 24, 210), (84, 28, 240), (87, 30, 250), (90, 37, 279), (96, 29, 292), (134, 44, 321), (137, 45, 326), (146, 51, 352), (159, 116, 654), (162, 117, 658), (166, 118, 662), (169, 120, 670), (207, 152, 1070), (215, 133, 1080), (221, 146, 1081), (237, 204, 1102), (240, 206, 1113), (243, 218, 1177), (246, 207, 1117), (249, 137, 1194), (253, 161, 1195), (258, 225, 1209), (261, 228, 1222), (265, 229, 1225), (275, 237, 1264), (279, 240, 1277), (286, 244, 1297), (291, 247, 1312), (297, 250, 1325), (305, 255, 1346), (310, 260, 1368), (314, 264, 1386), (318, 205, 1106), (323, 208, 1121), (326, 219, 1181), (329, 230, 1229), (333, 150, 1237), (337, 158, 1238)]
  | 12 => [(1, 1005, 124), (95, 18, 183), (99, 33, 262), (103, 34, 266), (107, 22, 200), (110, 26, 232), (114, 32, 258), (117, 35, 270), (125, 47, 335), (169, 88, 527), (174, 89, 530), (196, 93, 559), (199, 94, 563), (202, 87, 520), (208, 102, 596), (211, 96, 572), (215, 103, 599), (218, 91, 551), (221, 92, 555), (227, 97, 576), (233, 99, 584), (236, 98, 580), (240, 101, 592), (243, 104, 603), (246, 105, 606), (249, 106, 610), (255, 109, 622), (259, 90, 547), (262, 95, 567), (265, 100, 588), (268, 107, 614), (271, 108, 618), (274, 110, 626), (281, 173, 955), (285, 172, 952), (289, 169, 940), (292, 168, 936), (295, 170, 944), (298, 171, 948), (304, 178, 976), (309, 166, 928), (313, 167, 932), (318, 177, 972), (322, 179, 980), (325, 176, 968), (328, 189, 1022), (331, 185, 1006), (334, 183, 998), (337, 184, 1002), (340, 190, 1026), (344, 181, 988), (347, 182, 994), (350, 186, 1010), (353, 187, 1014), (356, 188, 1018), (359, 165, 924), (362, 174, 960), (365, 175, 964), (368, 180, 984), (371, 191, 1030), (374, 192, 1034), (377, 163, 915), (380, 164, 919), (383, 213, 1156), (386, 214, 1160), (389, 31, 1164), (392, 215, 1165), (395, 216, 1169), (398, 223, 1200), (402, 233, 1247), (405, 232, 1243), (409, 242, 1288), (414, 252, 1333), (417, 253, 1337), (420, 262, 1378)]
  | 13 => [(9, 0, 6), (12, 12, 121), (13, 13, 155), (17, 17, 179), (18, 19, 186), (22, 21, 196), (23, 23, 204), (27, 25, 228), (28, 27, 236), (31, 31, 254), (32, 36, 274), (35, 38, 283), (36, 39, 287), (40, 40, 293), (41, 41, 297), (45, 42, 311), (46, 43, 316), (49, 46, 330), (50, 48, 339), (53, 49, 343), (54, 50, 347), (58, 86, 505), (59, 111, 630), (62, 112, 636), (63, 113, 640), (66, 114, 645), (67, 115, 649), (70, 162, 911), (71, 193, 1038), (75, 194, 1047), (76, 195, 1051), (79, 196, 1061), (80, 197, 1065), (84, 198, 1071), (85, 199, 1075), (89, 200, 1082), (90, 201, 1086), (93, 202, 1094), (94, 203, 1098), (97, 212, 1152), (98, 217, 1173), (101, 220, 1186), (102, 221, 1190), (105, 222, 1196), (106, 224, 1204), (109, 226, 1213), (110, 227, 1218), (114, 231, 1239), (115, 234, 1251), (118, 235, 1255), (119, 236, 1259), (123, 238, 1269), (124, 239, 1273), (127, 241, 1283), (128, 243, 1292), (131, 245, 1302), (132, 246, 1306), (135, 251, 1329), (136, 254, 1341), (139, 256, 1351), (140, 257, 1355), (143, 258, 1360), (144, 259, 1364), (148, 261, 1374), (149, 263, 1382), (152, 268, 1407), (153, 269, 1411), (156, 270, 1415), (157, 271, 1419), (160, 272, 1424)]
  | 20 => [(335, 58, 389), (492, 60, 399), (495, 61, 403), (498, 64, 415), (1059, 63, 411)]
  | 21 => [(9, 62, 407)]
  | 22 => [(48, 66, 422), (67, 65, 419), (71, 67, 426), (414, 62, 425)]
  | _ => []
def xCall (o i : Nat) : Option (Nat × Nat × Nat) := (xCallL o).find? (fun r => r.1 == i)
/-- methods: name, code, locals, what it returns, owner, arguments, kind (0 static, 1 virtual, 2 made), words: code, kind, selects, initialized -/
abbrev xMrow : Type := MethodName × ByteArray × Nat × Option FieldType × Nat × Nat × Nat × Nat × Nat × Nat × Nat
def xMet_0 : List xMrow := [
  (yX11_init, cX11_init, 2, none, 11, 0, 2, 8, 7, 0, 2),
  (yX9_init, cX9_init, 2, none, 9, 0, 2, 33, 32, 0, 14),
  (yX1_init, cX1_init, 1, none, 1, 0, 2, 61, 60, 0, 43),
  (yX5_init, cX5_init, 1, none, 5, 0, 2, 67, 66, 0, 47),
  (yX4_init, cX4_init, 1, none, 4, 0, 2, 75, 74, 0, 51),
  (yX2_init, cX2_init, 1, none, 2, 0, 2, 79, 78, 0, 55),
  (yX3_init, cX3_init, 1, none, 3, 0, 2, 84, 83, 0, 57),
  (yX0_init, cX0_init, 1, none, 0, 0, 2, 88, 87, 0, 59),
  (yX6_init, cX6_init, 1, none, 6, 0, 2, 91, 90, 0, 20),
  (yX8_init, cX8_init, 1, none, 8, 0, 2, 99, 98, 0, 95),
  (yX7_init, cX7_init, 1, none, 7, 0, 2, 105, 104, 0, 24),
  (yX10_init, cX10_init, 1, none, 10, 0, 2, 114, 113, 0, 28),
  (yX12_init, cX12_init, 2, none, 12, 0, 2, 123, 122, 0, 5),
  (yX11_hall, cX11_hall, 2, (some .int), 11, 1, 1, 158, 156, 157, 2),
  (yX11_within, cX11_within, 3, (some .boolean), 11, 3, 0, 163, 162, 0, 2),
  (yX2_build, cX2_build, 2, none, 2, 1, 1, 167, 165, 166, 55),
  (yJ7_fill_53178, cJ7_fill_53178, 4, none, 27, 2, 0, 178, 176, 0, 177),
  (yX12_hall, cX12_hall, 4, (some .int), 12, 1, 1, 182, 180, 181, 5),
  (yX12_in, cX12_in, 3, (some .boolean), 12, 3, 0, 185, 184, 0, 5),
  (yX11_bar, cX11_bar, 3, (some .boolean), 11, 2, 1, 189, 187, 188, 2),
  (yX9_hasHall, cX9_hasHall, 2, (some .boolean), 9, 1, 1, 194, 192, 193, 14),
  (yX12_bar, cX12_bar, 3, (some .boolean), 12, 2, 1, 199, 197, 198, 5),
  (yX12_isHall, cX12_isHall, 2, (some .boolean), 12, 1, 1, 203, 201, 202, 5),
  (yX11_link, cX11_link, 8, (some .int), 11, 5, 1, 207, 205, 206, 2),
  (yX3_build, cX3_build, 6, none, 3, 5, 1, 213, 211, 212, 57),
  (yX12_link, cX12_link, 10, (some .int), 12, 5, 1, 231, 229, 230, 5),
  (yX12_tells, cX12_tells, 4, none, 12, 3, 1, 235, 233, 234, 5),
  (yX11_turn, cX11_turn, 3, (some .boolean), 11, 2, 1, 239, 237, 238, 2),
  (yX9_hasStepped, cX9_hasStepped, 2, (some .boolean), 9, 1, 1, 243, 241, 242, 14),
  (yX9_hasLink, cX9_hasLink, 2, (some .boolean), 9, 1, 1, 248, 246, 247, 14),
  (yX3_turnTo, cX3_turnTo, 2, none, 3, 1, 1, 253, 251, 252, 57),
  (yX12_turn, cX12_turn, 3, (some .boolean), 12, 2, 1, 257, 255, 256, 5),
  (yX12_isStairs, cX12_isStairs, 2, (some .boolean), 12, 1, 1, 261, 259, 260, 5),
  (yX12_isLink, cX12_isLink, 2, (some .boolean), 12, 1, 1, 265, 263, 264, 5),
  (yX12_linkOf, cX12_linkOf, 3, (some .int), 12, 2, 1, 269, 267, 268, 5),
  (yX12_loadOf, cX12_loadOf, 4, (some .int), 12, 1, 1, 273, 271, 272, 5),
  (yX11_mode, cX11_mode, 3, (some .boolean), 11, 2, 1, 277, 275, 276, 2),
  (yX9_hasStair, cX9_hasStair, 2, (some .boolean), 9, 1, 1, 282, 280, 281, 14),
  (yX12_mode, cX12_mode, 3, (some .boolean), 12, 2, 1, 286, 284, 285, 5),
  (yX11_reset, cX11_reset, 2, (some .boolean), 11, 1, 1, 290, 288, 289, 2)]
def xMet_1 : List xMrow := [
  (yX12_reset, cX12_reset, 2, (some .boolean), 12, 1, 1, 296, 294, 295, 5),
  (yX11_burst, cX11_burst, 11, (some .int), 11, 7, 1, 300, 298, 299, 2),
  (yX12_burst, cX12_burst, 10, (some .int), 12, 7, 1, 314, 312, 313, 5),
  (yX11_feed, cX11_feed, 6, (some .int), 11, 5, 1, 319, 317, 318, 2),
  (yX7_hasRoomFor, cX7_hasRoomFor, 2, (some .boolean), 7, 1, 1, 324, 322, 323, 24),
  (yX7_append, cX7_append, 3, none, 7, 1, 1, 329, 327, 328, 24),
  (yX12_feed, cX12_feed, 6, (some .int), 12, 5, 1, 333, 331, 332, 5),
  (yX12_put, cX12_put, 3, none, 12, 1, 1, 338, 336, 337, 5),
  (yX11_end, cX11_end, 2, (some .int), 11, 1, 1, 342, 340, 341, 2),
  (yX12_end, cX12_end, 2, (some .int), 12, 1, 1, 346, 344, 345, 5),
  (yX11_text, cX11_text, 1, (some .int), 11, 0, 1, 350, 348, 349, 2),
  (yX7_readInto, cX7_readInto, 3, (some .boolean), 7, 1, 1, 355, 353, 354, 24),
  (yX7_cut, cX7_cut, 3, none, 7, 0, 1, 363, 361, 362, 24),
  (yX7_cutOne, cX7_cutOne, 5, (some .int), 7, 1, 1, 367, 365, 366, 24),
  (yX7_byteAt, cX7_byteAt, 2, (some .int), 7, 1, 1, 375, 373, 374, 24),
  (yX7_isLetter, cX7_isLetter, 1, (some .boolean), 7, 1, 0, 378, 377, 0, 24),
  (yX7_addWord, cX7_addWord, 6, none, 7, 2, 1, 382, 380, 381, 24),
  (yJ0_length_8abf5, cJ0_length_8abf5, 1, (some .int), 20, 0, 1, 387, 384, 385, 386),
  (yJ0_coder_7d493, cJ0_coder_7d493, 1, (some .byte), 20, 0, 1, 392, 390, 391, 386),
  (yJ0_charAt_5068e, cJ0_charAt_5068e, 2, (some .char), 20, 1, 1, 398, 396, 397, 386),
  (yJ0_isLatin1_aae02, cJ0_isLatin1_aae02, 1, (some .boolean), 20, 0, 1, 402, 400, 401, 386),
  (yJ1_charAt_3b067, cJ1_charAt_3b067, 2, (some .char), 21, 2, 0, 406, 404, 0, 405),
  (yJ0_checkIndex_df160, cJ0_checkIndex_df160, 2, none, 20, 2, 0, 409, 408, 0, 386),
  (yJ3_checkIndex_8e157, cJ3_checkIndex_8e157, 3, (some .int), 23, 3, 0, 414, 412, 0, 413),
  (yJ2_charAt_3b067, cJ2_charAt_3b067, 2, (some .char), 22, 2, 0, 418, 416, 0, 417),
  (yJ2_checkIndex_2214a, cJ2_checkIndex_2214a, 2, none, 22, 2, 0, 421, 420, 0, 417),
  (yJ2_length_9d52b, cJ2_length_9d52b, 1, (some .int), 22, 1, 0, 424, 423, 0, 417),
  (yJ2_getChar_3b067, cJ2_getChar_3b067, 2, (some .char), 22, 2, 0, 428, 427, 0, 417),
  (yX7_isWord, cX7_isWord, 6, (some .boolean), 7, 4, 1, 435, 433, 434, 24),
  (yX7_addToken, cX7_addToken, 4, none, 7, 3, 1, 439, 437, 438, 24),
  (yX7_isDigit, cX7_isDigit, 1, (some .boolean), 7, 1, 0, 442, 441, 0, 24),
  (yX7_signOf, cX7_signOf, 1, (some .int), 7, 1, 0, 445, 444, 0, 24),
  (yX7_kind, cX7_kind, 1, (some .int), 7, 0, 1, 449, 447, 448, 24),
  (yX7_readClause, cX7_readClause, 3, (some .boolean), 7, 1, 1, 453, 451, 452, 24),
  (yX7_fails, cX7_fails, 2, (some .boolean), 7, 1, 1, 458, 456, 457, 24),
  (yX10_has, cX10_has, 3, (some .boolean), 10, 1, 1, 462, 460, 461, 28),
  (yX10_open, cX10_open, 2, none, 10, 1, 1, 467, 465, 466, 28),
  (yX7_readSum, cX7_readSum, 6, (some .boolean), 7, 2, 1, 471, 469, 470, 24),
  (yX10_add, cX10_add, 3, none, 10, 2, 1, 478, 476, 477, 28),
  (yX7_readOne, cX7_readOne, 5, (some .boolean), 7, 2, 1, 480, 486, 487, 24)]
def xMet_2 : List xMrow := [
  (yX7_value, cX7_value, 1, (some .int), 7, 0, 1, 484, 482, 483, 24),
  (yX7_readProduct, cX7_readProduct, 6, (some .boolean), 7, 2, 1, 488, 473, 474, 24),
  (yX7_readEither, cX7_readEither, 4, (some .boolean), 7, 1, 1, 492, 490, 491, 24),
  (yX7_readBoth, cX7_readBoth, 4, (some .boolean), 7, 1, 1, 496, 494, 495, 24),
  (yX7_readAsk, cX7_readAsk, 5, (some .boolean), 7, 2, 1, 500, 498, 499, 24),
  (yX10_close, cX10_close, 1, none, 10, 0, 1, 504, 502, 503, 28),
  (yX12_text, cX12_text, 1, (some .int), 12, 0, 1, 508, 506, 507, 5),
  (yX12_next, cX12_next, 5, none, 12, 0, 1, 523, 521, 522, 5),
  (yX12_isLetter, cX12_isLetter, 1, (some .boolean), 12, 1, 0, 529, 528, 0, 5),
  (yX12_wordOf, cX12_wordOf, 2, (some .int), 12, 1, 0, 532, 531, 0, 5),
  (yX12_asks, cX12_asks, 2, none, 12, 0, 1, 550, 548, 549, 5),
  (yX12_isWord, cX12_isWord, 2, (some .boolean), 12, 1, 1, 554, 552, 553, 5),
  (yX12_opensSign, cX12_opensSign, 2, (some .boolean), 12, 1, 1, 558, 556, 557, 5),
  (yX12_errs, cX12_errs, 2, none, 12, 1, 1, 562, 560, 561, 5),
  (yX12_opensFrame, cX12_opensFrame, 2, none, 12, 1, 1, 566, 564, 565, 5),
  (yX12_begins, cX12_begins, 2, none, 12, 0, 1, 570, 568, 569, 5),
  (yX12_emits, cX12_emits, 3, none, 12, 2, 1, 575, 573, 574, 5),
  (yX12_oneIsOver, cX12_oneIsOver, 1, none, 12, 0, 1, 579, 577, 578, 5),
  (yX12_top, cX12_top, 1, (some .int), 12, 0, 1, 583, 581, 582, 5),
  (yX12_isSign, cX12_isSign, 2, (some .boolean), 12, 1, 1, 587, 585, 586, 5),
  (yX12_goesOn, cX12_goesOn, 3, none, 12, 0, 1, 591, 589, 590, 5),
  (yX12_waitsFor, cX12_waitsFor, 2, none, 12, 1, 1, 595, 593, 594, 5),
  (yX12_rank, cX12_rank, 1, (some .int), 12, 1, 0, 598, 597, 0, 5),
  (yX12_works, cX12_works, 2, none, 12, 1, 1, 602, 600, 601, 5),
  (yX12_isAsking, cX12_isAsking, 1, (some .boolean), 12, 1, 0, 605, 604, 0, 5),
  (yX12_askIsOver, cX12_askIsOver, 1, none, 12, 0, 1, 609, 607, 608, 5),
  (yX12_clauseIsOver, cX12_clauseIsOver, 1, none, 12, 0, 1, 613, 611, 612, 5),
  (yX12_asksOn, cX12_asksOn, 1, none, 12, 0, 1, 617, 615, 616, 5),
  (yX12_clause, cX12_clause, 1, none, 12, 0, 1, 621, 619, 620, 5),
  (yX12_wasWalk, cX12_wasWalk, 3, (some .boolean), 12, 0, 1, 625, 623, 624, 5),
  (yX12_keepsText, cX12_keepsText, 3, none, 12, 1, 1, 629, 627, 628, 5),
  (yX11_fault, cX11_fault, 2, (some .int), 11, 1, 1, 633, 631, 632, 2),
  (yX12_fault, cX12_fault, 2, (some .int), 12, 1, 1, 639, 637, 638, 5),
  (yX11_by, cX11_by, 2, (some .boolean), 11, 1, 1, 643, 641, 642, 2),
  (yX12_by, cX12_by, 2, (some .boolean), 12, 1, 1, 648, 646, 647, 5),
  (yX11_run, cX11_run, 4, (some .int), 11, 1, 1, 652, 650, 651, 2),
  (yX11_mayRun, cX11_mayRun, 2, (some .boolean), 11, 1, 1, 657, 655, 656, 2),
  (yX11_law, cX11_law, 1, (some (.object "MovingStairs$Text")), 11, 0, 1, 661, 659, 660, 2),
  (yX6_forgetRoutes, cX6_forgetRoutes, 1, none, 6, 0, 1, 665, 663, 664, 20),
  (yX8_forget, cX8_forget, 1, none, 8, 0, 1, 669, 667, 668, 95)]
def xMet_3 : List xMrow := [
  (yX6_passSecond, cX6_passSecond, 3, none, 6, 2, 1, 673, 671, 672, 20),
  (yX6_comeInBursts, cX6_comeInBursts, 5, none, 6, 2, 1, 678, 676, 677, 20),
  (yX0_isDue, cX0_isDue, 2, (some .boolean), 0, 1, 1, 691, 689, 690, 59),
  (yX9_comeTo, cX9_comeTo, 5, none, 9, 4, 1, 698, 696, 697, 14),
  (yX2_change, cX2_change, 5, none, 2, 3, 1, 704, 702, 703, 55),
  (yX6_isSo, cX6_isSo, 6, (some .boolean), 6, 4, 1, 708, 706, 707, 20),
  (yX10_anySo, cX10_anySo, 5, (some .boolean), 10, 2, 1, 715, 713, 714, 28),
  (yX10_worth, cX10_worth, 10, (some .int), 10, 3, 1, 719, 717, 718, 28),
  (yX10_joined, cX10_joined, 5, (some .long), 10, 3, 0, 733, 732, 0, 28),
  (yX2_changeOutside, cX2_changeOutside, 5, none, 2, 3, 1, 737, 735, 736, 55),
  (yX6_openHalls, cX6_openHalls, 5, none, 6, 2, 1, 741, 739, 740, 20),
  (yX6_letIn, cX6_letIn, 8, none, 6, 2, 1, 748, 746, 747, 20),
  (yX6_turnEmptyLinks, cX6_turnEmptyLinks, 3, none, 6, 1, 1, 754, 752, 753, 20),
  (yX8_find, cX8_find, 5, none, 8, 1, 1, 763, 761, 762, 95),
  (yX3_takesNow, cX3_takesNow, 1, (some .boolean), 3, 0, 1, 770, 768, 769, 57),
  (yX8_findFor, cX8_findFor, 6, none, 8, 2, 1, 774, 772, 773, 95),
  (yX8_leads, cX8_leads, 4, (some .boolean), 8, 3, 1, 782, 780, 781, 95),
  (yX3_foot, cX3_foot, 1, (some .int), 3, 0, 1, 787, 785, 786, 57),
  (yX3_seconds, cX3_seconds, 1, (some .int), 3, 0, 1, 791, 789, 790, 57),
  (yX8_shorten, cX8_shorten, 5, none, 8, 3, 1, 795, 793, 794, 95),
  (yX8_between, cX8_between, 4, (some .int), 8, 2, 1, 799, 797, 798, 95),
  (yX8_lowestFirst, cX8_lowestFirst, 10, (some .int), 8, 4, 1, 803, 801, 802, 95),
  (yX6_moveLinks, cX6_moveLinks, 6, none, 6, 2, 1, 807, 805, 806, 20),
  (yX6_lift, cX6_lift, 8, none, 6, 4, 1, 815, 813, 814, 20),
  (yX6_goalOfMost, cX6_goalOfMost, 9, (some .int), 6, 4, 1, 823, 821, 822, 20),
  (yX2_waiting, cX2_waiting, 4, (some .int), 2, 2, 1, 827, 825, 826, 55),
  (yX8_firstLink, cX8_firstLink, 5, (some .int), 8, 3, 1, 831, 829, 830, 95),
  (yX9_admits, cX9_admits, 3, (some .boolean), 9, 2, 1, 835, 833, 834, 14),
  (yX6_walkOf, cX6_walkOf, 4, (some .int), 6, 3, 1, 842, 840, 841, 20),
  (yX10_walk, cX10_walk, 4, (some .int), 10, 1, 1, 848, 846, 847, 28),
  (yX6_moveStair, cX6_moveStair, 5, none, 6, 2, 1, 853, 851, 852, 20),
  (yX3_goesOn, cX3_goesOn, 4, (some .boolean), 3, 2, 1, 860, 858, 859, 57),
  (yX3_who, cX3_who, 4, (some .int), 3, 2, 1, 864, 862, 863, 57),
  (yX3_move, cX3_move, 3, none, 3, 2, 1, 868, 866, 867, 57),
  (yX3_put, cX3_put, 5, none, 3, 3, 1, 872, 870, 871, 57),
  (yX6_stepOff, cX6_stepOff, 7, (some .boolean), 6, 3, 1, 876, 874, 875, 20),
  (yX3_head, cX3_head, 1, (some .int), 3, 0, 1, 881, 879, 880, 57),
  (yX6_moveFixed, cX6_moveFixed, 5, none, 6, 2, 1, 886, 884, 885, 20),
  (yX6_takeUpToTwo, cX6_takeUpToTwo, 11, none, 6, 3, 1, 891, 889, 890, 20),
  (yX3_sideFor, cX3_sideFor, 4, (some .int), 3, 2, 1, 897, 895, 896, 57)]
def xMet_4 : List xMrow := [
  (yX6_countSecond, cX6_countSecond, 6, none, 6, 1, 1, 901, 899, 900, 20),
  (yX2_isOver, cX2_isOver, 1, (some .boolean), 2, 0, 1, 910, 908, 909, 55),
  (yX12_run, cX12_run, 3, (some .int), 12, 1, 1, 914, 912, 913, 5),
  (yX12_isRun, cX12_isRun, 2, (some .boolean), 12, 1, 1, 918, 916, 917, 5),
  (yX12_second, cX12_second, 4, none, 12, 0, 1, 922, 920, 921, 5),
  (yX12_bursts, cX12_bursts, 6, none, 12, 1, 1, 927, 925, 926, 5),
  (yX12_comes, cX12_comes, 5, none, 12, 4, 1, 931, 929, 930, 5),
  (yX12_isSome, cX12_isSome, 6, (some .boolean), 12, 2, 1, 935, 933, 934, 5),
  (yX12_inHall, cX12_inHall, 2, (some .int), 12, 1, 1, 939, 937, 938, 5),
  (yX12_countOf, cX12_countOf, 5, (some .int), 12, 2, 1, 943, 941, 942, 5),
  (yX12_hallOf, cX12_hallOf, 3, (some .int), 12, 2, 1, 947, 945, 946, 5),
  (yX12_saysOf, cX12_saysOf, 5, (some .long), 12, 1, 1, 951, 949, 950, 5),
  (yX12_worked, cX12_worked, 5, (some .long), 12, 3, 0, 954, 953, 0, 5),
  (yX12_bound, cX12_bound, 2, (some .long), 12, 1, 0, 957, 956, 0, 5),
  (yX12_lets, cX12_lets, 4, none, 12, 1, 1, 963, 961, 962, 5),
  (yX12_allRoutes, cX12_allRoutes, 2, none, 12, 0, 1, 967, 965, 966, 5),
  (yX12_routes, cX12_routes, 8, none, 12, 2, 1, 971, 969, 970, 5),
  (yX12_costFrom, cX12_costFrom, 5, (some .int), 12, 3, 1, 975, 973, 974, 5),
  (yX12_footOf, cX12_footOf, 2, (some .int), 12, 1, 1, 979, 977, 978, 5),
  (yX12_otherEnd, cX12_otherEnd, 3, (some .int), 12, 2, 1, 983, 981, 982, 5),
  (yX12_stairs, cX12_stairs, 5, none, 12, 2, 1, 987, 985, 986, 5),
  (yX12_walkOf, cX12_walkOf, 6, (some .int), 12, 1, 1, 991, 989, 990, 5),
  (yX12_climbs, cX12_climbs, 7, none, 12, 2, 1, 997, 995, 996, 5),
  (yX12_placeOf, cX12_placeOf, 4, (some .int), 12, 3, 1, 1001, 999, 1000, 5),
  (yX12_stepsOff, cX12_stepsOff, 5, (some .boolean), 12, 2, 1, 1005, 1003, 1004, 5),
  (yX12_headOf, cX12_headOf, 2, (some .int), 12, 1, 1, 1009, 1007, 1008, 5),
  (yX12_moves, cX12_moves, 7, (some .boolean), 12, 2, 1, 1013, 1011, 1012, 5),
  (yX12_trips, cX12_trips, 2, none, 12, 1, 1, 1017, 1015, 1016, 5),
  (yX12_takes, cX12_takes, 9, none, 12, 2, 1, 1021, 1019, 1020, 5),
  (yX12_mostOf, cX12_mostOf, 8, (some .int), 12, 3, 1, 1025, 1023, 1024, 5),
  (yX12_sideFor, cX12_sideFor, 4, (some .int), 12, 2, 1, 1029, 1027, 1028, 5),
  (yX12_lifts, cX12_lifts, 6, none, 12, 3, 1, 1033, 1031, 1032, 5),
  (yX12_isOver, cX12_isOver, 2, (some .boolean), 12, 1, 1, 1037, 1035, 1036, 5),
  (yX11_of, cX11_of, 4, (some .int), 11, 2, 1, 1041, 1039, 1040, 2),
  (yX12_of, cX12_of, 3, (some .int), 12, 2, 1, 1050, 1048, 1049, 5),
  (yX11_on, cX11_on, 4, (some .int), 11, 2, 1, 1054, 1052, 1053, 2),
  (yX12_on, cX12_on, 3, (some .int), 12, 2, 1, 1064, 1062, 1063, 5),
  (yX11_step, cX11_step, 4, (some .int), 11, 3, 1, 1068, 1066, 1067, 2),
  (yX12_step, cX12_step, 4, (some .int), 12, 3, 1, 1074, 1072, 1073, 5),
  (yX11_route, cX11_route, 4, (some .int), 11, 3, 1, 1078, 1076, 1077, 2)]
def xMet_5 : List xMrow := [
  (yX12_route, cX12_route, 4, (some .int), 12, 3, 1, 1085, 1083, 1084, 5),
  (yX11_all, cX11_all, 2, (some .int), 11, 1, 1, 1089, 1087, 1088, 2),
  (yX12_all, cX12_all, 2, (some .int), 12, 1, 1, 1097, 1095, 1096, 5),
  (yX11_ways, cX11_ways, 9, (some .int), 11, 3, 1, 1101, 1099, 1100, 2),
  (yX11_mayTurn, cX11_mayTurn, 4, (some .boolean), 11, 1, 1, 1105, 1103, 1104, 2),
  (yJ6_bitCount_0f7a4, cJ6_bitCount_0f7a4, 1, (some .int), 26, 1, 0, 1109, 1107, 0, 1108),
  (yX11_waitedByWays, cX11_waitedByWays, 6, (some .int), 11, 3, 1, 1116, 1114, 1115, 2),
  (yX11_beginTrial, cX11_beginTrial, 1, (some (.object "MovingStairs$Text")), 11, 0, 1, 1120, 1118, 1119, 2),
  (yX9_copyMoving, cX9_copyMoving, 3, none, 9, 1, 1, 1124, 1122, 1123, 14),
  (yX2_copy, cX2_copy, 2, none, 2, 1, 1, 1133, 1131, 1132, 55),
  (yX3_copy, cX3_copy, 2, none, 3, 1, 1, 1141, 1139, 1140, 57),
  (yX0_copy, cX0_copy, 2, none, 0, 1, 1, 1146, 1144, 1145, 59),
  (yX12_ways, cX12_ways, 9, (some .int), 12, 3, 1, 1155, 1153, 1154, 5),
  (yX12_areStairs, cX12_areStairs, 5, (some .boolean), 12, 1, 1, 1159, 1157, 1158, 5),
  (yX12_saves, cX12_saves, 2, none, 12, 0, 1, 1163, 1161, 1162, 5),
  (yX12_runs, cX12_runs, 3, none, 12, 1, 1, 1168, 1166, 1167, 5),
  (yX12_putsBack, cX12_putsBack, 2, none, 12, 0, 1, 1172, 1170, 1171, 5),
  (yX11_least, cX11_least, 6, (some .int), 11, 3, 1, 1176, 1174, 1175, 2),
  (yX11_shutByBar, cX11_shutByBar, 6, (some .int), 11, 3, 1, 1180, 1178, 1179, 2),
  (yX9_anyHallOver, cX9_anyHallOver, 2, (some .boolean), 9, 0, 1, 1184, 1182, 1183, 14),
  (yX12_least, cX12_least, 8, (some .int), 12, 3, 1, 1189, 1187, 1188, 5),
  (yX11_felt, cX11_felt, 6, (some .int), 11, 2, 1, 1193, 1191, 1192, 2),
  (yX12_felt, cX12_felt, 7, (some .int), 12, 2, 1, 1199, 1197, 1198, 5),
  (yX12_isStair, cX12_isStair, 2, (some .boolean), 12, 1, 1, 1203, 1201, 1202, 5),
  (yX11_standing, cX11_standing, 3, (some .int), 11, 2, 1, 1207, 1205, 1206, 2),
  (yX11_offByMode, cX11_offByMode, 6, (some .int), 11, 3, 1, 1212, 1210, 1211, 2),
  (yX12_standing, cX12_standing, 5, (some .int), 12, 2, 1, 1216, 1214, 1215, 5),
  (yX11_alone, cX11_alone, 5, (some .int), 11, 4, 1, 1221, 1219, 1220, 2),
  (yX11_mayStandAlone, cX11_mayStandAlone, 2, (some .boolean), 11, 2, 0, 1224, 1223, 0, 2),
  (yX11_carriedAlone, cX11_carriedAlone, 7, (some .int), 11, 4, 1, 1228, 1226, 1227, 2),
  (yX9_buildAlone, cX9_buildAlone, 4, none, 9, 3, 1, 1232, 1230, 1231, 14),
  (yX12_alone, cX12_alone, 5, (some .int), 12, 4, 1, 1242, 1240, 1241, 5),
  (yX12_carries, cX12_carries, 12, (some .int), 12, 4, 1, 1246, 1244, 1245, 5),
  (yX12_loneMoves, cX12_loneMoves, 8, (some .int), 12, 2, 1, 1250, 1248, 1249, 5),
  (yX11_crossing, cX11_crossing, 5, (some .int), 11, 2, 1, 1254, 1252, 1253, 2),
  (yX12_crossing, cX12_crossing, 5, (some .int), 12, 2, 1, 1258, 1256, 1257, 5),
  (yX11_day, cX11_day, 4, (some .int), 11, 3, 1, 1262, 1260, 1261, 2),
  (yX1_tell, cX1_tell, 5, (some .int), 1, 3, 1, 1267, 1265, 1266, 43),
  (yX12_day, cX12_day, 5, (some .int), 12, 3, 1, 1272, 1270, 1271, 5),
  (yX11_effect, cX11_effect, 1, (some .int), 11, 0, 1, 1276, 1274, 1275, 2)]
def xMet_6 : List xMrow := [
  (yX1_meanEffect, cX1_meanEffect, 11, (some .int), 1, 0, 1, 1280, 1278, 1279, 43),
  (yX12_effect, cX12_effect, 6, (some .int), 12, 0, 1, 1286, 1284, 1285, 5),
  (yX12_daysOf, cX12_daysOf, 7, (some .int), 12, 3, 1, 1291, 1289, 1290, 5),
  (yX11_mend, cX11_mend, 6, (some .int), 11, 4, 1, 1295, 1293, 1294, 2),
  (yX5_tell, cX5_tell, 5, (some .int), 5, 4, 1, 1300, 1298, 1299, 47),
  (yX12_mend, cX12_mend, 6, (some .int), 12, 4, 1, 1305, 1303, 1304, 5),
  (yX11_order, cX11_order, 2, (some .int), 11, 1, 1, 1309, 1307, 1308, 2),
  (yX5_weigh, cX5_weigh, 4, none, 5, 0, 1, 1315, 1313, 1314, 47),
  (yX5_bestNext, cX5_bestNext, 6, (some .int), 5, 1, 1, 1320, 1318, 1319, 47),
  (yX5_countBy, cX5_countBy, 8, (some .int), 5, 2, 1, 1324, 1322, 1323, 47),
  (yX5_inTurn, cX5_inTurn, 5, (some .int), 5, 1, 1, 1328, 1326, 1327, 47),
  (yX12_order, cX12_order, 8, (some .int), 12, 1, 1, 1332, 1330, 1331, 5),
  (yX12_countsBy, cX12_countsBy, 10, (some .int), 12, 3, 1, 1336, 1334, 1335, 5),
  (yX12_aboveOf, cX12_aboveOf, 6, (some .int), 12, 2, 1, 1340, 1338, 1339, 5),
  (yX11_load, cX11_load, 2, (some .int), 11, 1, 1, 1344, 1342, 1343, 2),
  (yX4_tell, cX4_tell, 2, (some .int), 4, 1, 1, 1349, 1347, 1348, 51),
  (yX12_load, cX12_load, 2, (some .int), 12, 1, 1, 1354, 1352, 1353, 5),
  (yX11_unload, cX11_unload, 2, (some .int), 11, 0, 1, 1358, 1356, 1357, 2),
  (yX12_unload, cX12_unload, 2, (some .int), 12, 0, 1, 1363, 1361, 1362, 5),
  (yX11_taken, cX11_taken, 3, (some .int), 11, 2, 1, 1367, 1365, 1366, 2),
  (yX4_steppedOn, cX4_steppedOn, 14, (some .int), 4, 2, 1, 1371, 1369, 1370, 51),
  (yX12_taken, cX12_taken, 9, (some .int), 12, 2, 1, 1377, 1375, 1376, 5),
  (yX12_chain, cX12_chain, 7, (some .int), 12, 3, 1, 1381, 1379, 1380, 5),
  (yX11_image, cX11_image, 1, (some .int), 11, 0, 1, 1385, 1383, 1384, 2),
  (yX9_copyAll, cX9_copyAll, 2, none, 9, 1, 1, 1389, 1387, 1388, 14),
  (yX1_copy, cX1_copy, 2, none, 1, 1, 1, 1395, 1393, 1394, 43),
  (yX5_copy, cX5_copy, 2, none, 5, 1, 1, 1400, 1398, 1399, 47),
  (yX4_copy, cX4_copy, 2, none, 4, 1, 1, 1405, 1403, 1404, 51),
  (yX12_image, cX12_image, 2, (some .int), 12, 0, 1, 1410, 1408, 1409, 5),
  (yX11_back, cX11_back, 1, (some .int), 11, 0, 1, 1414, 1412, 1413, 2),
  (yX12_back, cX12_back, 2, (some .int), 12, 0, 1, 1418, 1416, 1417, 5),
  (yX11_about, cX11_about, 2, (some .int), 11, 1, 1, 1422, 1420, 1421, 2),
  (yX12_about, cX12_about, 2, (some .int), 12, 1, 1, 1427, 1425, 1426, 5)]
def xMetL : List xMrow := xMet_0 ++ (xMet_1 ++ (xMet_2 ++ (xMet_3 ++ (xMet_4 ++ (xMet_5 ++ (xMet_6))))))
def xMet (z : Nat) : Option xMrow := xMetL[z]?
def xMetOk (r : xMrow) : Bool := match r with
  | (y, c, maxL, ret, o, n, kind, w1, w2, w3, w4) => decide (wsL_law[w1]? = some (.code y c maxL ret)) && (if kind = 0 then decide (wsL_law[w2]? = some (.static y)) else decide (wsL_law[w2]? = some (.instanceMethod y))) && (if kind = 1 then decide (wsL_law[w3]? = some (.selects y.cls y y)) else true) && decide (wsL_law[w4]? = some (.initialized y.cls)) && decide (y.cls = xoN o) && plainName y.cls && decide ((parseMethodDescriptor y.desc).map (fun d => d.parameters.length) = some n) && decide (y.cls ≠ "java/lang/invoke/MethodHandle") && decide (y.cls ≠ "java/lang/invoke/VarHandle") && (if kind = 2 then decide (y.name = "<init>") && decide (ret = none) else true) && decide (kind < 3) && decide (maxL ≤ 20) && (if kind = 0 then true else decide (o < 13) || decide (20 ≤ o))
theorem xMetOk_0 : xMet_0.all xMetOk = true := by decide +kernel
theorem xMetOk_1 : xMet_1.all xMetOk = true := by decide +kernel
theorem xMetOk_2 : xMet_2.all xMetOk = true := by decide +kernel
theorem xMetOk_3 : xMet_3.all xMetOk = true := by decide +kernel
theorem xMetOk_4 : xMet_4.all xMetOk = true := by decide +kernel
theorem xMetOk_5 : xMet_5.all xMetOk = true := by decide +kernel
theorem xMetOk_6 : xMet_6.all xMetOk = true := by decide +kernel
def xIntr (z : Nat) : Option MethodName := match z with
  | 1000 => some Lib.Math.min.name
  | 1001 => some Lib.Math.max.name
  | 1002 => some Lib.MathLoose.min_long.x
  | 1003 => some Lib.MathLoose.max_long.x
  | 1004 => some arraycopyName
  | 1005 => some Lib.objectInit
  | _ => none
def xCallOk (o : Nat) (r : Nat × Nat × Nat) : Bool := match xMet r.2.1 with
  | some row => decide (wsL_law[r.2.2]? = some (.methodLink (xoN o) r.1 row.1))
  | none => match xIntr r.2.1 with
    | some y => decide (wsL_law[r.2.2]? = some (.methodLink (xoN o) r.1 y))
    | none => false
theorem xCallOk_0 : (xCallL 0).all (xCallOk 0) = true := by decide +kernel
theorem xCallOk_1 : (xCallL 1).all (xCallOk 1) = true := by decide +kernel
theorem xCallOk_2 : (xCallL 2).all (xCallOk 2) = true := by decide +kernel
theorem xCallOk_3 : (xCallL 3).all (xCallOk 3) = true := by decide +kernel
theorem xCallOk_4 : (xCallL 4).all (xCallOk 4) = true := by decide +kernel
theorem xCallOk_5 : (xCallL 5).all (xCallOk 5) = true := by decide +kernel
theorem xCallOk_6 : (xCallL 6).all (xCallOk 6) = true := by decide +kernel
theorem xCallOk_7 : (xCallL 7).all (xCallOk 7) = true := by decide +kernel
theorem xCallOk_8 : (xCallL 8).all (xCallOk 8) = true := by decide +kernel
theorem xCallOk_9 : (xCallL 9).all (xCallOk 9) = true := by decide +kernel
theorem xCallOk_10 : (xCallL 10).all (xCallOk 10) = true := by decide +kernel
theorem xCallOk_11 : (xCallL 11).all (xCallOk 11) = true := by decide +kernel
theorem xCallOk_12 : (xCallL 12).all (xCallOk 12) = true := by decide +kernel
theorem xCallOk_13 : (xCallL 13).all (xCallOk 13) = true := by decide +kernel
theorem xCallOk_20 : (xCallL 20).all (xCallOk 20) = true := by decide +kernel
theorem xCallOk_21 : (xCallL 21).all (xCallOk 21) = true := by decide +kernel
theorem xCallOk_22 : (xCallL 22).all (xCallOk 22) = true := by decide +kernel
def xCstL (o : Nat) : List (Nat × Int32 × Nat) := match o with
  | 1 => [(30, (-1000000000), 1282)]
  | 8 => [(44, (1000000), 775)]
  | 11 => [(103, (99999), 301), (257, (-1000000), 1208)]
  | 12 => [(121, (99999), 315), (317, (1000000000), 923), (401, (-1000000), 1217), (413, (-1000000000), 1287)]
  | 26 => [(265, (1431655765), 1110), (266, (858993459), 1111), (267, (252645135), 1112)]
  | _ => []
def xCstOk (o : Nat) (r : Nat × Int32 × Nat) : Bool := decide (wsL_law[r.2.2]? = some (.constant (xoN o) r.1 r.2.1))
theorem xCstOk_1 : (xCstL 1).all (xCstOk 1) = true := by decide +kernel
theorem xCstOk_8 : (xCstL 8).all (xCstOk 8) = true := by decide +kernel
theorem xCstOk_11 : (xCstL 11).all (xCstOk 11) = true := by decide +kernel
theorem xCstOk_12 : (xCstL 12).all (xCstOk 12) = true := by decide +kernel
theorem xCstOk_26 : (xCstL 26).all (xCstOk 26) = true := by decide +kernel
def xCst (o i : Nat) : Option (Nat × Int32 × Nat) := (xCstL o).find? (fun r => r.1 == i)
def xCsLL (o : Nat) : List (Nat × Int64 × Nat) := match o with
  | 1 => [(28, (1000), 1281)]
  | 6 => [(277, (1000000000), 905)]
  | 10 => [(51, (-1000000), 723), (53, (1000000), 724)]
  | 12 => [(172, (64), 525), (129, (14555947), 533), (131, (13536628), 534), (133, (9050347), 535), (135, (3058), 536), (137, (138148), 537), (139, (191476), 538), (141, (55390960548), 539), (143, (10623788), 540), (145, (599743412), 541), (147, (13302765), 542), (149, (3287609678117), 543), (151, (869424179), 544), (153, (11728996), 545), (155, (14555764), 546), (277, (1000000), 958), (279, (-1000000), 959), (302, (4), 992), (307, (10), 993)]
  | _ => []
def xCsLOk (o : Nat) (r : Nat × Int64 × Nat) : Bool := decide (wsL_law[r.2.2]? = some (.constantLong (xoN o) r.1 r.2.1))
theorem xCsLOk_1 : (xCsLL 1).all (xCsLOk 1) = true := by decide +kernel
theorem xCsLOk_6 : (xCsLL 6).all (xCsLOk 6) = true := by decide +kernel
theorem xCsLOk_10 : (xCsLL 10).all (xCsLOk 10) = true := by decide +kernel
theorem xCsLOk_12 : (xCsLL 12).all (xCsLOk 12) = true := by decide +kernel
def xCsL (o i : Nat) : Option (Nat × Int64 × Nat) := (xCsLL o).find? (fun r => r.1 == i)
/-- classes: (place in the pool, class, words: link, instantiable, initialized) -/
def xNewL (o : Nat) : List (Nat × Nat × Nat × Nat × Nat) := match o with
  | 6 => [(9, 8, 93, 94, 95)]
  | 9 => [(9, 2, 35, 54, 55), (17, 3, 37, 56, 57), (23, 0, 39, 58, 59), (29, 1, 41, 42, 43), (36, 5, 45, 46, 47), (43, 4, 49, 50, 51)]
  | 11 => [(7, 9, 12, 13, 14), (22, 6, 18, 19, 20), (29, 7, 22, 23, 24), (36, 10, 26, 27, 28)]
  | 13 => [(7, 11, 0, 1, 2), (10, 12, 3, 4, 5)]
  | _ => []
def xNewOk (o : Nat) (r : Nat × Nat × Nat × Nat × Nat) : Bool := decide (wsL_law[r.2.2.1]? = some (.classLink (xoN o) r.1 (xCl r.2.1).1)) && decide (wsL_law[r.2.2.2.1]? = some (.instantiable (xCl r.2.1).1 (xCl r.2.1).2.2)) && decide (wsL_law[r.2.2.2.2]? = some (.initialized (xCl r.2.1).1)) && decide (r.2.1 < 13)
theorem xNewOk_6 : (xNewL 6).all (xNewOk 6) = true := by decide +kernel
theorem xNewOk_9 : (xNewL 9).all (xNewOk 9) = true := by decide +kernel
theorem xNewOk_11 : (xNewL 11).all (xNewOk 11) = true := by decide +kernel
theorem xNewOk_13 : (xNewL 13).all (xNewOk 13) = true := by decide +kernel
def xNew (o i : Nat) : Option (Nat × Nat × Nat × Nat × Nat) := (xNewL o).find? (fun r => r.1 == i)
theorem xGood : wsL_law.all goodWord = true := by decide +kernel
/-- what a method may make: cells, slots -/
def xMc (z : Nat) : Nat × Nat := match z with
  | 5 => (2, 24)
  | 6 => (1, 80)
  | 2 => (2, 24)
  | 3 => (5, 88)
  | 4 => (1, 60)
  | 1 => (82, 1577)
  | 9 => (2, 108)
  | 8 => (4, 119)
  | 10 => (4, 1203)
  | 11 => (5, 920)
  | 0 => (290, 10752)
  | 12 => (25, 10009)
  | _ => (0, 0)
theorem xFldOk_all (o : Nat) : (xFldL o).all (xFldOk o) = true := by
  by_cases h0 : o = 0
  · subst h0; exact xFldOk_0
  by_cases h1 : o = 1
  · subst h1; exact xFldOk_1
  by_cases h2 : o = 2
  · subst h2; exact xFldOk_2
  by_cases h3 : o = 3
  · subst h3; exact xFldOk_3
  by_cases h4 : o = 4
  · subst h4; exact xFldOk_4
  by_cases h5 : o = 5
  · subst h5; exact xFldOk_5
  by_cases h6 : o = 6
  · subst h6; exact xFldOk_6
  by_cases h7 : o = 7
  · subst h7; exact xFldOk_7
  by_cases h8 : o = 8
  · subst h8; exact xFldOk_8
  by_cases h9 : o = 9
  · subst h9; exact xFldOk_9
  by_cases h10 : o = 10
  · subst h10; exact xFldOk_10
  by_cases h11 : o = 11
  · subst h11; exact xFldOk_11
  by_cases h12 : o = 12
  · subst h12; exact xFldOk_12
  have e : xFldL o = [] := by
    unfold xFldL
    split <;> first | rfl | (exfalso; omega)
  rw [e]; rfl
theorem xCallOk_all (o : Nat) : (xCallL o).all (xCallOk o) = true := by
  by_cases h0 : o = 0
  · subst h0; exact xCallOk_0
  by_cases h1 : o = 1
  · subst h1; exact xCallOk_1
  by_cases h2 : o = 2
  · subst h2; exact xCallOk_2
  by_cases h3 : o = 3
  · subst h3; exact xCallOk_3
  by_cases h4 : o = 4
  · subst h4; exact xCallOk_4
  by_cases h5 : o = 5
  · subst h5; exact xCallOk_5
  by_cases h6 : o = 6
  · subst h6; exact xCallOk_6
  by_cases h7 : o = 7
  · subst h7; exact xCallOk_7
  by_cases h8 : o = 8
  · subst h8; exact xCallOk_8
  by_cases h9 : o = 9
  · subst h9; exact xCallOk_9
  by_cases h10 : o = 10
  · subst h10; exact xCallOk_10
  by_cases h11 : o = 11
  · subst h11; exact xCallOk_11
  by_cases h12 : o = 12
  · subst h12; exact xCallOk_12
  by_cases h13 : o = 13
  · subst h13; exact xCallOk_13
  by_cases h20 : o = 20
  · subst h20; exact xCallOk_20
  by_cases h21 : o = 21
  · subst h21; exact xCallOk_21
  by_cases h22 : o = 22
  · subst h22; exact xCallOk_22
  have e : xCallL o = [] := by
    unfold xCallL
    split <;> first | rfl | (exfalso; omega)
  rw [e]; rfl
theorem xCstOk_all (o : Nat) : (xCstL o).all (xCstOk o) = true := by
  by_cases h1 : o = 1
  · subst h1; exact xCstOk_1
  by_cases h8 : o = 8
  · subst h8; exact xCstOk_8
  by_cases h11 : o = 11
  · subst h11; exact xCstOk_11
  by_cases h12 : o = 12
  · subst h12; exact xCstOk_12
  by_cases h26 : o = 26
  · subst h26; exact xCstOk_26
  have e : xCstL o = [] := by
    unfold xCstL
    split <;> first | rfl | (exfalso; omega)
  rw [e]; rfl
theorem xCsLOk_all (o : Nat) : (xCsLL o).all (xCsLOk o) = true := by
  by_cases h1 : o = 1
  · subst h1; exact xCsLOk_1
  by_cases h6 : o = 6
  · subst h6; exact xCsLOk_6
  by_cases h10 : o = 10
  · subst h10; exact xCsLOk_10
  by_cases h12 : o = 12
  · subst h12; exact xCsLOk_12
  have e : xCsLL o = [] := by
    unfold xCsLL
    split <;> first | rfl | (exfalso; omega)
  rw [e]; rfl
theorem xNewOk_all (o : Nat) : (xNewL o).all (xNewOk o) = true := by
  by_cases h6 : o = 6
  · subst h6; exact xNewOk_6
  by_cases h9 : o = 9
  · subst h9; exact xNewOk_9
  by_cases h11 : o = 11
  · subst h11; exact xNewOk_11
  by_cases h13 : o = 13
  · subst h13; exact xNewOk_13
  have e : xNewL o = [] := by
    unfold xNewL
    split <;> first | rfl | (exfalso; omega)
  rw [e]; rfl
theorem xMetOk_all : xMetL.all xMetOk = true := by
  unfold xMetL
  simp only [List.all_append, xMetOk_0, xMetOk_1, xMetOk_2, xMetOk_3, xMetOk_4, xMetOk_5, xMetOk_6, Bool.and_self]
