/-! names of the owning classes, tables of fields, methods, calls, constants: with the places of the words in the tables of the Statement (1000 times the list, plus the row; list 0: the selects of the private ones) -/
def xoN (o : Nat) : String := match o with
  | 0 => RX0
  | 1 => RX1
  | 2 => RX2
  | 3 => RX3
  | 4 => RX4
  | 5 => RX5
  | 6 => RX6
  | 7 => RX7
  | 8 => RX8
  | 9 => RX9
  | 10 => RX10
  | 11 => RX11
  | 12 => RX12
  | 13 => RL
  | 20 => RJ0
  | 21 => RJ1
  | 22 => RJ2
  | 23 => RJ3
  | 26 => RJ6
  | 27 => RJ7
  | _ => ""
def xWd (n : Nat) : Option Cond := match n / 1000 with
  | 0 => (k2_sels lw_privs)[n % 1000]?
  | 1 => tables_1_1[n % 1000]?
  | 2 => tables_1_2[n % 1000]?
  | 3 => tables_1_3[n % 1000]?
  | 4 => tables_1_4[n % 1000]?
  | 5 => tables_1_5[n % 1000]?
  | 6 => tables_1_6[n % 1000]?
  | 7 => tables_1_7[n % 1000]?
  | 8 => tables_1_8[n % 1000]?
  | _ => none
def xWords : List Cond := lw_tbl.filter goodWord
def xWok (n : Nat) (w : Cond) : Bool := decide (xWd n = some w) && goodWord w
theorem xWok_in {n : Nat} {w : Cond} (h : xWok n w = true) : w ∈ xWords := by
  simp only [xWok, Bool.and_eq_true, decide_eq_true_eq] at h
  refine List.mem_filter.mpr ⟨?_, h.2⟩
  have h1 := h.1
  unfold lw_tbl tables_1
  simp only [List.mem_append]
  unfold xWd at h1
  split at h1
  · exact Or.inl (List.mem_of_getElem? h1)
  · exact Or.inr (Or.inl (List.mem_of_getElem? h1))
  · exact Or.inr (Or.inr (Or.inl (List.mem_of_getElem? h1)))
  · exact Or.inr (Or.inr (Or.inr (Or.inl (List.mem_of_getElem? h1))))
  · exact Or.inr (Or.inr (Or.inr (Or.inr (Or.inl (List.mem_of_getElem? h1)))))
  · exact Or.inr (Or.inr (Or.inr (Or.inr (Or.inr (Or.inl (List.mem_of_getElem? h1))))))
  · exact Or.inr (Or.inr (Or.inr (Or.inr (Or.inr (Or.inr (Or.inl (List.mem_of_getElem? h1)))))))
  · exact Or.inr (Or.inr (Or.inr (Or.inr (Or.inr (Or.inr (Or.inr (Or.inl (List.mem_of_getElem? h1))))))))
  · exact Or.inr (Or.inr (Or.inr (Or.inr (Or.inr (Or.inr (Or.inr (Or.inr (List.mem_of_getElem? h1))))))))
  · cases h1
theorem xWords_tbl {w : Cond} (h : w ∈ xWords) : w ∈ lw_tbl := (List.mem_filter.mp h).1
def xInOk (ws : List Cond) (ns : List Nat) : Bool := decide (ws.length = ns.length) && (ws.zip ns).all (fun q => xWok q.2 q.1)
theorem xInOk_in {ws : List Cond} {ns : List Nat} (h : xInOk ws ns = true) : ∀ w ∈ ws, w ∈ xWords := by
  simp only [xInOk, Bool.and_eq_true, decide_eq_true_eq] at h
  intro w hw
  obtain ⟨i, hi⟩ := List.getElem?_of_mem hw
  have hl : i < ns.length := by rw [← h.1]; exact (List.getElem?_eq_some_iff.mp hi).1
  have hz : (ws.zip ns)[i]? = some (w, ns[i]) := by rw [List.getElem?_zip_eq_some]; exact ⟨hi, List.getElem?_eq_getElem hl⟩
  exact xWok_in (List.all_eq_true.mp h.2 _ (List.mem_of_getElem? hz))
theorem xInX0 : ∀ w ∈ wsX00, w ∈ xWords := xInOk_in (ns := [2010, 2012, 2014, 2016, 2018, 2020, 2022]) (by decide +kernel)
theorem xInX1 : ∀ w ∈ wsX10, w ∈ xWords := xInOk_in (ns := [1052, 1054, 1056]) (by decide +kernel)
theorem xInX2 : ∀ w ∈ wsX20, w ∈ xWords := xInOk_in (ns := [1131, 1133, 1135, 1137, 1139, 1141, 1143, 1145, 1147]) (by decide +kernel)
theorem xInX3 : ∀ w ∈ wsX30, w ∈ xWords := xInOk_in (ns := [1197, 1199, 1201, 1203, 1205, 1207, 1209, 1211, 1213, 1215, 1217, 1219, 1221, 1223]) (by decide +kernel)
theorem xInX4 : ∀ w ∈ wsX40, w ∈ xWords := xInOk_in (ns := [1096, 1098]) (by decide +kernel)
theorem xInX5 : ∀ w ∈ wsX50, w ∈ xWords := xInOk_in (ns := [1074, 1076, 1078, 1080, 1082, 1084]) (by decide +kernel)
theorem xInX6 : ∀ w ∈ wsX60, w ∈ xWords := xInOk_in (ns := [2127, 2129]) (by decide +kernel)
theorem xInX7 : ∀ w ∈ wsX70, w ∈ xWords := xInOk_in (ns := [2151, 2153, 2155, 2157, 2159, 2161, 2163, 2165, 2167, 2169]) (by decide +kernel)
theorem xInX8 : ∀ w ∈ wsX80, w ∈ xWords := xInOk_in (ns := [2117, 2119, 2121]) (by decide +kernel)
theorem xInX9 : ∀ w ∈ wsX90, w ∈ xWords := xInOk_in (ns := [2069, 2071, 2073, 2075, 2077, 2079, 2081, 2083, 2085, 2087, 2089, 2091, 2093, 2095, 2097, 2099]) (by decide +kernel)
theorem xInX10 : ∀ w ∈ wsX100, w ∈ xWords := xInOk_in (ns := [2187, 2189, 2191, 2193, 2195, 2197, 2199]) (by decide +kernel)
theorem xInX11 : ∀ w ∈ wsX110, w ∈ xWords := xInOk_in (ns := [2210, 2212, 2214, 2216, 2218, 2220, 2222]) (by decide +kernel)
theorem xInX12 : ∀ w ∈ wsX120, w ∈ xWords := xInOk_in (ns := [5224, 5226, 5228, 5230, 5232, 5234, 5236, 5238, 6000, 6002, 6004, 6006, 6008, 6010, 6012, 6014, 6016, 6018, 6020, 6022, 6024, 6026, 6028, 6030, 6032, 6034, 6036, 6038, 6040, 6042, 6044, 6046, 6048, 6050, 6052, 6054, 6056, 6058, 6060, 6062, 6064, 6066]) (by decide +kernel)
def xCl (ci : Nat) : vw_C := match ci with
  | 0 => (RX0, TX0, 7)
  | 1 => (RX1, TX1, 3)
  | 2 => (RX2, TX2, 9)
  | 3 => (RX3, TX3, 14)
  | 4 => (RX4, TX4, 2)
  | 5 => (RX5, TX5, 6)
  | 6 => (RX6, TX6, 2)
  | 7 => (RX7, TX7, 10)
  | 8 => (RX8, TX8, 3)
  | 9 => (RX9, TX9, 16)
  | 10 => (RX10, TX10, 7)
  | 11 => (RX11, TX11, 7)
  | 12 => (RX12, TX12, 42)
  | _ => ("", TX0, 0)
def xTy (ci : Nat) : Nat → FieldType := match ci with
  | 0 => tyX0
  | 1 => tyX1
  | 2 => tyX2
  | 3 => tyX3
  | 4 => tyX4
  | 5 => tyX5
  | 6 => tyX6
  | 7 => tyX7
  | 8 => tyX8
  | 9 => tyX9
  | 10 => tyX10
  | 11 => tyX11
  | 12 => tyX12
  | _ => tyX0
/-- fields: (place in the pool, class, slot, word) by owner -/
def xFldL_0_0 : List (Nat × Nat × Nat × Nat) := [(7, 0, 0, 1231), (13, 0, 1, 1233), (16, 0, 2, 1235), (19, 0, 3, 1238), (22, 0, 4, 2001), (25, 0, 5, 2004), (28, 0, 6, 2007)]
def xFldL_1_0 : List (Nat × Nat × Nat × Nat) := [(11, 1, 0, 1048), (15, 1, 1, 1049), (18, 1, 2, 1050)]
def xFldL_2_0 : List (Nat × Nat × Nat × Nat) := [(9, 2, 0, 1106), (15, 2, 1, 1108), (18, 2, 2, 1110), (22, 2, 3, 1113), (25, 2, 4, 1116), (28, 2, 5, 1120), (31, 2, 6, 1123), (34, 2, 7, 1126), (37, 2, 8, 1129)]
def xFldL_3_0 : List (Nat × Nat × Nat × Nat) := [(9, 3, 0, 1155), (15, 3, 1, 1156), (19, 3, 2, 1160), (22, 3, 3, 1163), (25, 3, 4, 1166), (28, 3, 5, 1169), (31, 3, 6, 1171), (34, 3, 7, 1175), (37, 3, 8, 1178), (40, 3, 9, 1182), (43, 3, 10, 1185), (46, 3, 11, 1188), (49, 3, 12, 1191), (53, 3, 13, 1194)]
def xFldL_4_0 : List (Nat × Nat × Nat × Nat) := [(11, 4, 0, 1093), (15, 4, 1, 1094)]
def xFldL_5_0 : List (Nat × Nat × Nat × Nat) := [(11, 5, 0, 1066), (15, 5, 1, 1067), (18, 5, 2, 1068), (21, 5, 3, 1069), (24, 5, 4, 1070), (27, 5, 5, 1072)]
def xFldL_6_0 : List (Nat × Nat × Nat × Nat) := [(12, 6, 0, 2124), (20, 6, 1, 2126), (47, 9, 6, 2041), (53, 9, 9, 2051), (56, 9, 2, 2033), (66, 0, 2, 1236), (72, 0, 6, 2008), (76, 0, 3, 1239), (79, 0, 5, 2005), (82, 0, 4, 2002), (93, 9, 14, 2063), (96, 9, 0, 2027), (106, 2, 4, 1117), (109, 2, 2, 1111), (112, 2, 5, 1121)]
def xFldL_6_1 : List (Nat × Nat × Nat × Nat) := [(119, 9, 7, 2046), (122, 2, 3, 1115), (125, 2, 8, 1130), (132, 2, 1, 1109), (141, 9, 8, 2050), (144, 9, 1, 2031), (148, 3, 9, 1183), (151, 3, 7, 1176), (154, 3, 6, 1173), (157, 3, 1, 1159), (158, 3, 5, 1170), (161, 3, 2, 1162), (164, 3, 3, 1165), (189, 3, 4, 1167), (201, 3, 10, 1186)]
def xFldL_6_2 : List (Nat × Nat × Nat × Nat) := [(204, 3, 11, 1189), (214, 3, 8, 1181), (225, 3, 12, 1192), (228, 3, 13, 1196), (238, 9, 15, 2067), (265, 9, 13, 2061), (268, 2, 6, 1125), (271, 2, 7, 1128)]
def xFldL_7_0 : List (Nat × Nat × Nat × Nat) := [(11, 7, 0, 2138), (15, 7, 1, 2139), (18, 7, 2, 2140), (21, 7, 3, 2141), (24, 7, 5, 2144), (28, 7, 6, 2146), (31, 7, 4, 2142), (37, 7, 8, 2149), (40, 10, 5, 2184), (45, 10, 6, 2186), (48, 7, 7, 2148), (104, 7, 9, 2150)]
def xFldL_8_0 : List (Nat × Nat × Nat × Nat) := [(11, 8, 0, 2114), (15, 8, 1, 2115), (18, 8, 2, 2116), (22, 9, 8, 2048), (27, 9, 1, 2029), (37, 3, 6, 1172), (51, 3, 2, 1161), (58, 3, 3, 1164), (77, 3, 1, 1158)]
def xFldL_9_0 : List (Nat × Nat × Nat × Nat) := [(11, 9, 0, 2025), (19, 9, 1, 2028), (25, 9, 2, 2032), (32, 9, 3, 2035), (39, 9, 4, 2037), (46, 9, 5, 2039), (50, 9, 11, 2056), (57, 9, 7, 2044), (60, 9, 8, 2047), (67, 3, 1, 1157), (77, 2, 4, 1118), (80, 2, 2, 1112), (83, 9, 12, 2058), (94, 9, 10, 2054), (107, 9, 6, 2042)]
def xFldL_9_1 : List (Nat × Nat × Nat × Nat) := [(110, 9, 9, 2053), (113, 9, 13, 2060), (116, 9, 14, 2064), (119, 9, 15, 2066), (138, 3, 8, 1180)]
def xFldL_10_0 : List (Nat × Nat × Nat × Nat) := [(9, 10, 0, 2178), (15, 10, 1, 2179), (18, 10, 2, 2180), (21, 10, 3, 2181), (24, 10, 4, 2182), (27, 10, 5, 2183), (31, 10, 6, 2185)]
def xFldL_11_0 : List (Nat × Nat × Nat × Nat) := [(10, 11, 0, 2203), (16, 11, 1, 2204), (19, 11, 2, 2205), (25, 11, 3, 2206), (32, 11, 4, 2207), (39, 11, 5, 2208), (43, 11, 6, 2209), (51, 9, 7, 2045), (55, 9, 0, 2026), (69, 2, 3, 1114), (72, 9, 8, 2049), (75, 9, 1, 2030), (93, 3, 8, 1179), (99, 3, 13, 1195), (104, 9, 9, 2052)]
def xFldL_11_1 : List (Nat × Nat × Nat × Nat) := [(107, 9, 2, 2034), (111, 0, 0, 1232), (116, 0, 1, 1234), (119, 0, 2, 1237), (122, 0, 3, 2000), (125, 0, 4, 2003), (128, 0, 5, 2006), (131, 0, 6, 2009), (140, 7, 4, 2143), (143, 9, 10, 2055), (150, 7, 5, 2145), (153, 7, 6, 2147), (156, 9, 11, 2057), (173, 9, 6, 2043), (174, 2, 0, 1107)]
def xFldL_11_2 : List (Nat × Nat × Nat × Nat) := [(178, 2, 4, 1119), (181, 2, 5, 1122), (184, 2, 6, 1124), (187, 2, 7, 1127), (190, 3, 9, 1184), (191, 3, 6, 1174), (194, 3, 12, 1193), (197, 3, 7, 1177), (200, 3, 10, 1187), (203, 3, 11, 1190), (206, 3, 4, 1168), (211, 6, 0, 2125), (225, 9, 12, 2059), (228, 9, 13, 2062), (231, 9, 14, 2065)]
def xFldL_11_3 : List (Nat × Nat × Nat × Nat) := [(234, 9, 15, 2068), (271, 9, 3, 2036), (282, 9, 4, 2038), (290, 5, 5, 1073), (294, 5, 4, 1071), (301, 9, 5, 2040), (309, 4, 1, 1095), (317, 1, 2, 1051)]
def xFldL_12_0 : List (Nat × Nat × Nat × Nat) := [(7, 12, 0, 5182), (13, 12, 1, 5183), (16, 12, 2, 5184), (19, 12, 3, 5185), (23, 12, 5, 5187), (27, 12, 6, 5188), (30, 12, 7, 5189), (33, 12, 8, 5190), (36, 12, 9, 5191), (39, 12, 10, 5192), (42, 12, 11, 5193), (45, 12, 21, 5203), (48, 12, 22, 5204), (51, 12, 24, 5206), (54, 12, 25, 5207)]
def xFldL_12_1 : List (Nat × Nat × Nat × Nat) := [(57, 12, 29, 5211), (60, 12, 30, 5212), (63, 12, 32, 5214), (66, 12, 33, 5215), (69, 12, 34, 5216), (72, 12, 35, 5217), (76, 12, 36, 5218), (80, 12, 37, 5219), (83, 12, 38, 5220), (86, 12, 39, 5221), (89, 12, 40, 5222), (92, 12, 41, 5223), (122, 12, 4, 5186), (157, 12, 13, 5195), (160, 12, 12, 5194)]
def xFldL_12_2 : List (Nat × Nat × Nat × Nat) := [(163, 12, 14, 5196), (166, 12, 15, 5197), (178, 12, 16, 5198), (181, 12, 17, 5199), (184, 12, 18, 5200), (187, 12, 31, 5213), (190, 12, 20, 5202), (193, 12, 19, 5201), (205, 12, 23, 5205), (224, 12, 26, 5208), (230, 12, 28, 5210), (252, 12, 27, 5209)]
def xFldL (o : Nat) : List (Nat × Nat × Nat × Nat) := match o with
  | 0 => xFldL_0_0
  | 1 => xFldL_1_0
  | 2 => xFldL_2_0
  | 3 => xFldL_3_0
  | 4 => xFldL_4_0
  | 5 => xFldL_5_0
  | 6 => xFldL_6_0 ++ (xFldL_6_1 ++ (xFldL_6_2))
  | 7 => xFldL_7_0
  | 8 => xFldL_8_0
  | 9 => xFldL_9_0 ++ (xFldL_9_1)
  | 10 => xFldL_10_0
  | 11 => xFldL_11_0 ++ (xFldL_11_1 ++ (xFldL_11_2 ++ (xFldL_11_3)))
  | 12 => xFldL_12_0 ++ (xFldL_12_1 ++ (xFldL_12_2))
  | _ => []
def xFld (o i : Nat) : Option (Nat × Nat × Nat × Nat) := (xFldL o).find? (fun r => r.1 == i)
def xFldOk (o : Nat) (r : Nat × Nat × Nat × Nat) : Bool := xWok r.2.2.2 (.fieldLink (xoN o) r.1 ((xCl r.2.1).2.1 r.2.2.1).1 ((xCl r.2.1).2.1 r.2.2.1).2.1 ((xCl r.2.1).2.1 r.2.2.1).2.2.1) && decide (r.2.2.1 < (xCl r.2.1).2.2) && decide (r.2.1 < 13)
theorem xFldL_0_0_ok : xFldL_0_0.all (xFldOk 0) = true := by decide +kernel
theorem xFldL_1_0_ok : xFldL_1_0.all (xFldOk 1) = true := by decide +kernel
theorem xFldL_2_0_ok : xFldL_2_0.all (xFldOk 2) = true := by decide +kernel
theorem xFldL_3_0_ok : xFldL_3_0.all (xFldOk 3) = true := by decide +kernel
theorem xFldL_4_0_ok : xFldL_4_0.all (xFldOk 4) = true := by decide +kernel
theorem xFldL_5_0_ok : xFldL_5_0.all (xFldOk 5) = true := by decide +kernel
theorem xFldL_6_0_ok : xFldL_6_0.all (xFldOk 6) = true := by decide +kernel
theorem xFldL_6_1_ok : xFldL_6_1.all (xFldOk 6) = true := by decide +kernel
theorem xFldL_6_2_ok : xFldL_6_2.all (xFldOk 6) = true := by decide +kernel
theorem xFldL_7_0_ok : xFldL_7_0.all (xFldOk 7) = true := by decide +kernel
theorem xFldL_8_0_ok : xFldL_8_0.all (xFldOk 8) = true := by decide +kernel
theorem xFldL_9_0_ok : xFldL_9_0.all (xFldOk 9) = true := by decide +kernel
theorem xFldL_9_1_ok : xFldL_9_1.all (xFldOk 9) = true := by decide +kernel
theorem xFldL_10_0_ok : xFldL_10_0.all (xFldOk 10) = true := by decide +kernel
theorem xFldL_11_0_ok : xFldL_11_0.all (xFldOk 11) = true := by decide +kernel
theorem xFldL_11_1_ok : xFldL_11_1.all (xFldOk 11) = true := by decide +kernel
theorem xFldL_11_2_ok : xFldL_11_2.all (xFldOk 11) = true := by decide +kernel
theorem xFldL_11_3_ok : xFldL_11_3.all (xFldOk 11) = true := by decide +kernel
theorem xFldL_12_0_ok : xFldL_12_0.all (xFldOk 12) = true := by decide +kernel
theorem xFldL_12_1_ok : xFldL_12_1.all (xFldOk 12) = true := by decide +kernel
theorem xFldL_12_2_ok : xFldL_12_2.all (xFldOk 12) = true := by decide +kernel
theorem xFldL_all (o : Nat) : (xFldL o).all (xFldOk o) = true := by
  by_cases h0 : o = 0
  · subst h0
    show (xFldL_0_0).all (xFldOk 0) = true
    simp only [List.all_append, xFldL_0_0_ok, Bool.and_self]
  by_cases h1 : o = 1
  · subst h1
    show (xFldL_1_0).all (xFldOk 1) = true
    simp only [List.all_append, xFldL_1_0_ok, Bool.and_self]
  by_cases h2 : o = 2
  · subst h2
    show (xFldL_2_0).all (xFldOk 2) = true
    simp only [List.all_append, xFldL_2_0_ok, Bool.and_self]
  by_cases h3 : o = 3
  · subst h3
    show (xFldL_3_0).all (xFldOk 3) = true
    simp only [List.all_append, xFldL_3_0_ok, Bool.and_self]
  by_cases h4 : o = 4
  · subst h4
    show (xFldL_4_0).all (xFldOk 4) = true
    simp only [List.all_append, xFldL_4_0_ok, Bool.and_self]
  by_cases h5 : o = 5
  · subst h5
    show (xFldL_5_0).all (xFldOk 5) = true
    simp only [List.all_append, xFldL_5_0_ok, Bool.and_self]
  by_cases h6 : o = 6
  · subst h6
    show (xFldL_6_0 ++ (xFldL_6_1 ++ (xFldL_6_2))).all (xFldOk 6) = true
    simp only [List.all_append, xFldL_6_0_ok, xFldL_6_1_ok, xFldL_6_2_ok, Bool.and_self]
  by_cases h7 : o = 7
  · subst h7
    show (xFldL_7_0).all (xFldOk 7) = true
    simp only [List.all_append, xFldL_7_0_ok, Bool.and_self]
  by_cases h8 : o = 8
  · subst h8
    show (xFldL_8_0).all (xFldOk 8) = true
    simp only [List.all_append, xFldL_8_0_ok, Bool.and_self]
  by_cases h9 : o = 9
  · subst h9
    show (xFldL_9_0 ++ (xFldL_9_1)).all (xFldOk 9) = true
    simp only [List.all_append, xFldL_9_0_ok, xFldL_9_1_ok, Bool.and_self]
  by_cases h10 : o = 10
  · subst h10
    show (xFldL_10_0).all (xFldOk 10) = true
    simp only [List.all_append, xFldL_10_0_ok, Bool.and_self]
  by_cases h11 : o = 11
  · subst h11
    show (xFldL_11_0 ++ (xFldL_11_1 ++ (xFldL_11_2 ++ (xFldL_11_3)))).all (xFldOk 11) = true
    simp only [List.all_append, xFldL_11_0_ok, xFldL_11_1_ok, xFldL_11_2_ok, xFldL_11_3_ok, Bool.and_self]
  by_cases h12 : o = 12
  · subst h12
    show (xFldL_12_0 ++ (xFldL_12_1 ++ (xFldL_12_2))).all (xFldOk 12) = true
    simp only [List.all_append, xFldL_12_0_ok, xFldL_12_1_ok, xFldL_12_2_ok, Bool.and_self]
  have e : xFldL o = [] := by
    unfold xFldL
    split <;> first | rfl | (exfalso; omega)
  rw [e]; rfl
/-- calls: (place in the pool, method, word) by owner -/
def xCallL_0_0 : List (Nat × Nat × Nat) := [(1, 1005, 1230)]
def xCallL_1_0 : List (Nat × Nat × Nat) := [(3, 1005, 1047), (22, 1004, 5157)]
def xCallL_2_0 : List (Nat × Nat × Nat) := [(3, 1005, 1105), (41, 16, 2236), (47, 1004, 5011)]
def xCallL_3_0 : List (Nat × Nat × Nat) := [(3, 1005, 1154), (56, 16, 3015), (62, 1004, 5018), (68, 152, 4151), (72, 154, 4159), (76, 153, 4155)]
def xCallL_4_0 : List (Nat × Nat × Nat) := [(3, 1005, 1092), (19, 1004, 5167), (25, 1000, 5142), (31, 1001, 5143)]
def xCallL_5_0 : List (Nat × Nat × Nat) := [(3, 1005, 1065), (31, 1004, 5162), (37, 1000, 5109), (43, 248, 5110), (47, 249, 5114)]
def xCallL_6_0 : List (Nat × Nat × Nat) := [(3, 1005, 2107), (24, 119, 4000), (27, 121, 4008), (31, 130, 4056), (34, 132, 4065), (38, 133, 4069), (41, 142, 4107), (44, 160, 4188), (60, 122, 4012), (69, 20, 4016), (85, 123, 4017), (89, 125, 4026), (100, 129, 4052), (115, 126, 4030), (128, 131, 4060)]
def xCallL_6_1 : List (Nat × Nat × Nat) := [(135, 1000, 4064), (167, 143, 4111), (171, 148, 4133), (175, 150, 4143), (179, 157, 4173), (182, 158, 4178), (186, 29, 4115), (190, 144, 4116), (194, 147, 4128), (198, 124, 4132), (207, 145, 4120), (210, 146, 4124), (217, 137, 4137), (221, 149, 4138), (231, 151, 4147)]
def xCallL_6_2 : List (Nat × Nat × Nat) := [(234, 155, 4163), (241, 152, 4167), (244, 156, 4168), (247, 154, 4172), (250, 153, 4177), (254, 28, 4182), (257, 134, 4183), (261, 159, 4184), (274, 161, 4192), (279, 1002, 4197)]
def xCallL_7_0 : List (Nat × Nat × Nat) := [(3, 1005, 2137), (34, 52, 3074), (51, 72, 3159), (55, 73, 3163), (59, 53, 3078), (63, 69, 3149), (67, 54, 3082), (70, 55, 3086), (74, 56, 3089), (78, 70, 3153), (81, 1000, 3146), (87, 71, 3156), (92, 57, 3094), (96, 59, 3104), (100, 68, 3142)]
def xCallL_7_1 : List (Nat × Nat × Nat) := [(107, 74, 3167), (110, 75, 3171), (113, 76, 3175), (117, 77, 3179), (121, 82, 3199), (124, 85, 3211), (127, 83, 3203), (130, 78, 3195), (133, 84, 3207), (136, 81, 3183), (139, 79, 3187), (142, 80, 3191)]
def xCallL_8_0 : List (Nat × Nat × Nat) := [(3, 1005, 2113), (31, 134, 4073), (40, 135, 4077), (45, 16, 4082), (54, 136, 4083), (61, 138, 4091), (65, 139, 4095), (69, 140, 4099), (73, 141, 4103), (80, 137, 4087)]
def xCallL_9_0 : List (Nat × Nat × Nat) := [(3, 1005, 1035), (63, 29, 3024), (70, 161, 5035), (74, 20, 4021), (86, 124, 4022), (90, 208, 5152), (97, 265, 5153), (101, 266, 5158), (104, 267, 5163), (122, 209, 5007), (125, 210, 5014), (128, 211, 5019), (131, 15, 5066), (135, 24, 5067), (141, 123, 5068)]
def xCallL_10_0 : List (Nat × Nat × Nat) := [(1, 1005, 2177), (34, 127, 4034), (38, 1000, 4142), (44, 1001, 4038), (47, 128, 4041), (55, 1002, 4046), (58, 1003, 4049)]
def xCallL_11_0 : List (Nat × Nat × Nat) := [(1, 1005, 1027), (9, 1, 1032), (47, 14, 2229), (59, 15, 2232), (65, 20, 3003), (79, 24, 3011), (84, 28, 3020), (87, 30, 3028), (90, 37, 3036), (96, 29, 3044), (134, 44, 3054), (137, 45, 3058), (146, 51, 3070), (159, 116, 3228), (162, 117, 3232)]
def xCallL_11_1 : List (Nat × Nat × Nat) := [(166, 118, 3236), (169, 120, 4004), (207, 152, 4210), (215, 133, 4215), (221, 146, 4216), (237, 204, 4225), (240, 206, 4235), (243, 218, 5027), (246, 207, 4239), (249, 137, 5040), (253, 161, 5041), (258, 225, 5047), (261, 228, 5055), (265, 229, 5058), (275, 237, 5079)]
def xCallL_11_2 : List (Nat × Nat × Nat) := [(279, 240, 5087), (286, 244, 5097), (291, 247, 5105), (297, 250, 5118), (305, 255, 5126), (310, 260, 5138), (314, 264, 5148), (318, 205, 4229), (323, 208, 5003), (326, 219, 5031), (329, 230, 5062), (333, 150, 5069), (337, 158, 5070)]
def xCallL_12_0 : List (Nat × Nat × Nat) := [(1, 1005, 5181), (95, 18, 6075), (99, 33, 6102), (103, 34, 6106), (107, 22, 6082), (110, 26, 6090), (114, 32, 6098), (117, 35, 6110), (125, 47, 6131), (169, 88, 6147), (174, 89, 6151), (196, 93, 6180), (199, 94, 6184), (202, 87, 6143), (208, 102, 6216)]
def xCallL_12_1 : List (Nat × Nat × Nat) := [(211, 96, 6192), (215, 103, 6219), (218, 91, 6172), (221, 92, 6176), (227, 97, 6196), (233, 99, 6204), (236, 98, 6200), (240, 101, 6212), (243, 104, 6223), (246, 105, 6226), (249, 106, 6230), (255, 109, 7002), (259, 90, 6168), (262, 95, 6188), (265, 100, 6208)]
def xCallL_12_2 : List (Nat × Nat × Nat) := [(268, 107, 6234), (271, 108, 6238), (274, 110, 7006), (281, 173, 7082), (285, 172, 7079), (289, 169, 7067), (292, 168, 7063), (295, 170, 7071), (298, 171, 7075), (304, 178, 7031), (309, 166, 7055), (313, 167, 7059), (318, 177, 7027), (322, 179, 7035), (325, 176, 7022)]
def xCallL_12_3 : List (Nat × Nat × Nat) := [(328, 189, 7133), (331, 185, 7117), (334, 183, 7109), (337, 184, 7113), (340, 190, 7137), (344, 181, 7099), (347, 182, 7105), (350, 186, 7121), (353, 187, 7125), (356, 188, 7129), (359, 165, 7051), (362, 174, 7087), (365, 175, 7091), (368, 180, 7095), (371, 191, 7141)]
def xCallL_12_4 : List (Nat × Nat × Nat) := [(374, 192, 7145), (377, 163, 7043), (380, 164, 7047), (383, 213, 7169), (386, 214, 7173), (389, 31, 7177), (392, 215, 7178), (395, 216, 7182), (398, 223, 7194), (402, 233, 7211), (405, 232, 7207), (409, 242, 7227), (414, 252, 8000), (417, 253, 8004), (420, 262, 8020)]
def xCallL_13_0 : List (Nat × Nat × Nat) := [(9, 0, 1024), (12, 12, 5178), (13, 13, 2225), (17, 17, 6071), (18, 19, 2239), (22, 21, 6078), (23, 23, 3007), (27, 25, 6086), (28, 27, 3016), (31, 31, 6094), (32, 36, 3032), (35, 38, 6114), (36, 39, 3040), (40, 40, 6118), (41, 41, 3045)]
def xCallL_13_1 : List (Nat × Nat × Nat) := [(45, 42, 6122), (46, 43, 3050), (49, 46, 6127), (50, 48, 3062), (53, 49, 6135), (54, 50, 3066), (58, 86, 6139), (59, 111, 3216), (62, 112, 7010), (63, 113, 3220), (66, 114, 7014), (67, 115, 3224), (70, 162, 7039), (71, 193, 4198), (75, 194, 7149)]
def xCallL_13_2 : List (Nat × Nat × Nat) := [(76, 195, 4202), (79, 196, 7153), (80, 197, 4206), (84, 198, 7157), (85, 199, 4211), (89, 200, 7018), (90, 201, 4217), (93, 202, 7161), (94, 203, 4221), (97, 212, 7165), (98, 217, 5023), (101, 220, 7186), (102, 221, 5036), (105, 222, 7190), (106, 224, 5042)]
def xCallL_13_3 : List (Nat × Nat × Nat) := [(109, 226, 7198), (110, 227, 5051), (114, 231, 7203), (115, 234, 5071), (118, 235, 7215), (119, 236, 5075), (123, 238, 7219), (124, 239, 5083), (127, 241, 7223), (128, 243, 5093), (131, 245, 7232), (132, 246, 5101), (135, 251, 7236), (136, 254, 5122), (139, 256, 8008)]
def xCallL_13_4 : List (Nat × Nat × Nat) := [(140, 257, 5130), (143, 258, 8012), (144, 259, 5134), (148, 261, 8016), (149, 263, 5144), (152, 268, 8024), (153, 269, 5168), (156, 270, 8028), (157, 271, 5172), (160, 272, 8032)]
def xCallL_20_0 : List (Nat × Nat × Nat) := [(335, 58, 3098), (492, 60, 3108), (495, 61, 3112), (498, 64, 3123), (1059, 63, 3120)]
def xCallL_21_0 : List (Nat × Nat × Nat) := [(9, 62, 3115)]
def xCallL_22_0 : List (Nat × Nat × Nat) := [(48, 66, 3129), (67, 65, 3126), (71, 67, 3133), (414, 62, 3132)]
def xCallL (o : Nat) : List (Nat × Nat × Nat) := match o with
  | 0 => xCallL_0_0
  | 1 => xCallL_1_0
  | 2 => xCallL_2_0
  | 3 => xCallL_3_0
  | 4 => xCallL_4_0
  | 5 => xCallL_5_0
  | 6 => xCallL_6_0 ++ (xCallL_6_1 ++ (xCallL_6_2))
  | 7 => xCallL_7_0 ++ (xCallL_7_1)
  | 8 => xCallL_8_0
  | 9 => xCallL_9_0
  | 10 => xCallL_10_0
  | 11 => xCallL_11_0 ++ (xCallL_11_1 ++ (xCallL_11_2))
  | 12 => xCallL_12_0 ++ (xCallL_12_1 ++ (xCallL_12_2 ++ (xCallL_12_3 ++ (xCallL_12_4))))
  | 13 => xCallL_13_0 ++ (xCallL_13_1 ++ (xCallL_13_2 ++ (xCallL_13_3 ++ (xCallL_13_4))))
  | 20 => xCallL_20_0
  | 21 => xCallL_21_0
  | 22 => xCallL_22_0
  | _ => []
def xCall (o i : Nat) : Option (Nat × Nat × Nat) := (xCallL o).find? (fun r => r.1 == i)
/-- methods: name, code, locals, what it returns, owner, arguments, kind (0 static, 1 virtual, 2 made), words: code, kind, selects, initialized -/
abbrev xMrow : Type := MethodName × ByteArray × Nat × Option FieldType × Nat × Nat × Nat × Nat × Nat × Nat × Nat
def xMet_0 : List xMrow := [
  (yX11_init, cX11_init, 2, none, 11, 0, 2, 1026, 1025, 0, 1001),
  (yX9_init, cX9_init, 2, none, 9, 0, 2, 1034, 1033, 0, 1002),
  (yX1_init, cX1_init, 1, none, 1, 0, 2, 1046, 1045, 0, 1003),
  (yX5_init, cX5_init, 1, none, 5, 0, 2, 1064, 1063, 0, 1004),
  (yX4_init, cX4_init, 1, none, 4, 0, 2, 1091, 1090, 0, 1005),
  (yX2_init, cX2_init, 1, none, 2, 0, 2, 1104, 1103, 0, 1006),
  (yX3_init, cX3_init, 1, none, 3, 0, 2, 1153, 1152, 0, 1007)]
def xMet_1 : List xMrow := [
  (yX0_init, cX0_init, 1, none, 0, 0, 2, 1229, 1228, 0, 1008),
  (yX6_init, cX6_init, 1, none, 6, 0, 2, 2106, 2105, 0, 1009),
  (yX8_init, cX8_init, 1, none, 8, 0, 2, 2112, 2111, 0, 1010),
  (yX7_init, cX7_init, 1, none, 7, 0, 2, 2136, 2135, 0, 1011),
  (yX10_init, cX10_init, 1, none, 10, 0, 2, 2176, 2175, 0, 1012),
  (yX12_init, cX12_init, 2, none, 12, 0, 2, 5180, 5179, 0, 1013),
  (yX11_hall, cX11_hall, 2, (some .int), 11, 1, 1, 2228, 2226, 2227, 1001)]
def xMet_2 : List xMrow := [
  (yX11_within, cX11_within, 3, (some .boolean), 11, 3, 0, 2231, 2230, 0, 1001),
  (yX2_build, cX2_build, 2, none, 2, 1, 1, 2235, 2233, 2234, 1006),
  (yJ7_fill_53178, cJ7_fill_53178, 4, none, 27, 2, 0, 2238, 2237, 0, 1014),
  (yX12_hall, cX12_hall, 4, (some .int), 12, 1, 1, 6074, 6072, 6073, 1013),
  (yX12_in, cX12_in, 3, (some .boolean), 12, 3, 0, 6077, 6076, 0, 1013),
  (yX11_bar, cX11_bar, 3, (some .boolean), 11, 2, 1, 3002, 3000, 3001, 1001),
  (yX9_hasHall, cX9_hasHall, 2, (some .boolean), 9, 1, 1, 3006, 3004, 3005, 1002)]
def xMet_3 : List xMrow := [
  (yX12_bar, cX12_bar, 3, (some .boolean), 12, 2, 1, 6081, 6079, 6080, 1013),
  (yX12_isHall, cX12_isHall, 2, (some .boolean), 12, 1, 1, 6085, 6084, 44, 1013),
  (yX11_link, cX11_link, 8, (some .int), 11, 5, 1, 3010, 3008, 3009, 1001),
  (yX3_build, cX3_build, 6, none, 3, 5, 1, 3014, 3012, 3013, 1007),
  (yX12_link, cX12_link, 10, (some .int), 12, 5, 1, 6089, 6087, 6088, 1013),
  (yX12_tells, cX12_tells, 4, none, 12, 3, 1, 6093, 6092, 45, 1013),
  (yX11_turn, cX11_turn, 3, (some .boolean), 11, 2, 1, 3019, 3017, 3018, 1001)]
def xMet_4 : List xMrow := [
  (yX9_hasStepped, cX9_hasStepped, 2, (some .boolean), 9, 1, 1, 3023, 3021, 3022, 1002),
  (yX9_hasLink, cX9_hasLink, 2, (some .boolean), 9, 1, 1, 3027, 3025, 3026, 1002),
  (yX3_turnTo, cX3_turnTo, 2, none, 3, 1, 1, 3031, 3029, 3030, 1007),
  (yX12_turn, cX12_turn, 3, (some .boolean), 12, 2, 1, 6097, 6095, 6096, 1013),
  (yX12_isStairs, cX12_isStairs, 2, (some .boolean), 12, 1, 1, 6101, 6100, 46, 1013),
  (yX12_isLink, cX12_isLink, 2, (some .boolean), 12, 1, 1, 6105, 6104, 47, 1013),
  (yX12_linkOf, cX12_linkOf, 3, (some .int), 12, 2, 1, 6109, 6108, 48, 1013)]
def xMet_5 : List xMrow := [
  (yX12_loadOf, cX12_loadOf, 4, (some .int), 12, 1, 1, 6113, 6112, 49, 1013),
  (yX11_mode, cX11_mode, 3, (some .boolean), 11, 2, 1, 3035, 3033, 3034, 1001),
  (yX9_hasStair, cX9_hasStair, 2, (some .boolean), 9, 1, 1, 3039, 3037, 3038, 1002),
  (yX12_mode, cX12_mode, 3, (some .boolean), 12, 2, 1, 6117, 6115, 6116, 1013),
  (yX11_reset, cX11_reset, 2, (some .boolean), 11, 1, 1, 3043, 3041, 3042, 1001),
  (yX12_reset, cX12_reset, 2, (some .boolean), 12, 1, 1, 6121, 6119, 6120, 1013),
  (yX11_burst, cX11_burst, 11, (some .int), 11, 7, 1, 3048, 3046, 3047, 1001)]
def xMet_6 : List xMrow := [
  (yX12_burst, cX12_burst, 10, (some .int), 12, 7, 1, 6125, 6123, 6124, 1013),
  (yX11_feed, cX11_feed, 6, (some .int), 11, 5, 1, 3053, 3051, 3052, 1001),
  (yX7_hasRoomFor, cX7_hasRoomFor, 2, (some .boolean), 7, 1, 1, 3057, 3055, 3056, 1011),
  (yX7_append, cX7_append, 3, none, 7, 1, 1, 3061, 3059, 3060, 1011),
  (yX12_feed, cX12_feed, 6, (some .int), 12, 5, 1, 6130, 6128, 6129, 1013),
  (yX12_put, cX12_put, 3, none, 12, 1, 1, 6134, 6133, 50, 1013),
  (yX11_end, cX11_end, 2, (some .int), 11, 1, 1, 3065, 3063, 3064, 1001)]
def xMet_7 : List xMrow := [
  (yX12_end, cX12_end, 2, (some .int), 12, 1, 1, 6138, 6136, 6137, 1013),
  (yX11_text, cX11_text, 1, (some .int), 11, 0, 1, 3069, 3067, 3068, 1001),
  (yX7_readInto, cX7_readInto, 3, (some .boolean), 7, 1, 1, 3073, 3071, 3072, 1011),
  (yX7_cut, cX7_cut, 3, none, 7, 0, 1, 3077, 3076, 0, 1011),
  (yX7_cutOne, cX7_cutOne, 5, (some .int), 7, 1, 1, 3081, 3080, 1, 1011),
  (yX7_byteAt, cX7_byteAt, 2, (some .int), 7, 1, 1, 3085, 3084, 2, 1011),
  (yX7_isLetter, cX7_isLetter, 1, (some .boolean), 7, 1, 0, 3088, 3087, 0, 1011)]
def xMet_8 : List xMrow := [
  (yX7_addWord, cX7_addWord, 6, none, 7, 2, 1, 3092, 3091, 3, 1011),
  (yJ0_length_8abf5, cJ0_length_8abf5, 1, (some .int), 20, 0, 1, 3097, 3095, 3096, 1015),
  (yJ0_coder_7d493, cJ0_coder_7d493, 1, (some .byte), 20, 0, 1, 3101, 3099, 3100, 1015),
  (yJ0_charAt_5068e, cJ0_charAt_5068e, 2, (some .char), 20, 1, 1, 3107, 3105, 3106, 1015),
  (yJ0_isLatin1_aae02, cJ0_isLatin1_aae02, 1, (some .boolean), 20, 0, 1, 3111, 3109, 3110, 1015),
  (yJ1_charAt_3b067, cJ1_charAt_3b067, 2, (some .char), 21, 2, 0, 3114, 3113, 0, 1016),
  (yJ0_checkIndex_df160, cJ0_checkIndex_df160, 2, none, 20, 2, 0, 3117, 3116, 0, 1015)]
def xMet_9 : List xMrow := [
  (yJ3_checkIndex_8e157, cJ3_checkIndex_8e157, 3, (some .int), 23, 3, 0, 3122, 3121, 0, 1017),
  (yJ2_charAt_3b067, cJ2_charAt_3b067, 2, (some .char), 22, 2, 0, 3125, 3124, 0, 1018),
  (yJ2_checkIndex_2214a, cJ2_checkIndex_2214a, 2, none, 22, 2, 0, 3128, 3127, 0, 1018),
  (yJ2_length_9d52b, cJ2_length_9d52b, 1, (some .int), 22, 1, 0, 3131, 3130, 0, 1018),
  (yJ2_getChar_3b067, cJ2_getChar_3b067, 2, (some .char), 22, 2, 0, 3135, 3134, 0, 1018),
  (yX7_isWord, cX7_isWord, 6, (some .boolean), 7, 4, 1, 3145, 3144, 4, 1011),
  (yX7_addToken, cX7_addToken, 4, none, 7, 3, 1, 3152, 3151, 5, 1011)]
def xMet_10 : List xMrow := [
  (yX7_isDigit, cX7_isDigit, 1, (some .boolean), 7, 1, 0, 3155, 3154, 0, 1011),
  (yX7_signOf, cX7_signOf, 1, (some .int), 7, 1, 0, 3158, 3157, 0, 1011),
  (yX7_kind, cX7_kind, 1, (some .int), 7, 0, 1, 3162, 3161, 6, 1011),
  (yX7_readClause, cX7_readClause, 3, (some .boolean), 7, 1, 1, 3166, 3165, 7, 1011),
  (yX7_fails, cX7_fails, 2, (some .boolean), 7, 1, 1, 3170, 3169, 8, 1011),
  (yX10_has, cX10_has, 3, (some .boolean), 10, 1, 1, 3174, 3172, 3173, 1012),
  (yX10_open, cX10_open, 2, none, 10, 1, 1, 3178, 3176, 3177, 1012)]
def xMet_11 : List xMrow := [
  (yX7_readSum, cX7_readSum, 6, (some .boolean), 7, 2, 1, 3182, 3181, 9, 1011),
  (yX10_add, cX10_add, 3, none, 10, 2, 1, 3198, 3196, 3197, 1012),
  (yX7_readOne, cX7_readOne, 5, (some .boolean), 7, 2, 1, 3190, 3189, 11, 1011),
  (yX7_value, cX7_value, 1, (some .int), 7, 0, 1, 3194, 3193, 12, 1011),
  (yX7_readProduct, cX7_readProduct, 6, (some .boolean), 7, 2, 1, 3186, 3185, 10, 1011),
  (yX7_readEither, cX7_readEither, 4, (some .boolean), 7, 1, 1, 3202, 3201, 13, 1011),
  (yX7_readBoth, cX7_readBoth, 4, (some .boolean), 7, 1, 1, 3206, 3205, 14, 1011)]
def xMet_12 : List xMrow := [
  (yX7_readAsk, cX7_readAsk, 5, (some .boolean), 7, 2, 1, 3210, 3209, 15, 1011),
  (yX10_close, cX10_close, 1, none, 10, 0, 1, 3214, 3212, 3213, 1012),
  (yX12_text, cX12_text, 1, (some .int), 12, 0, 1, 6142, 6140, 6141, 1013),
  (yX12_next, cX12_next, 5, none, 12, 0, 1, 6146, 6145, 51, 1013),
  (yX12_isLetter, cX12_isLetter, 1, (some .boolean), 12, 1, 0, 6149, 6148, 0, 1013),
  (yX12_wordOf, cX12_wordOf, 2, (some .int), 12, 1, 0, 6153, 6152, 0, 1013),
  (yX12_asks, cX12_asks, 2, none, 12, 0, 1, 6171, 6170, 52, 1013)]
def xMet_13 : List xMrow := [
  (yX12_isWord, cX12_isWord, 2, (some .boolean), 12, 1, 1, 6175, 6174, 53, 1013),
  (yX12_opensSign, cX12_opensSign, 2, (some .boolean), 12, 1, 1, 6179, 6178, 54, 1013),
  (yX12_errs, cX12_errs, 2, none, 12, 1, 1, 6183, 6182, 55, 1013),
  (yX12_opensFrame, cX12_opensFrame, 2, none, 12, 1, 1, 6187, 6186, 56, 1013),
  (yX12_begins, cX12_begins, 2, none, 12, 0, 1, 6191, 6190, 57, 1013),
  (yX12_emits, cX12_emits, 3, none, 12, 2, 1, 6195, 6194, 58, 1013),
  (yX12_oneIsOver, cX12_oneIsOver, 1, none, 12, 0, 1, 6199, 6198, 59, 1013)]
def xMet_14 : List xMrow := [
  (yX12_top, cX12_top, 1, (some .int), 12, 0, 1, 6203, 6202, 60, 1013),
  (yX12_isSign, cX12_isSign, 2, (some .boolean), 12, 1, 1, 6207, 6206, 61, 1013),
  (yX12_goesOn, cX12_goesOn, 3, none, 12, 0, 1, 6211, 6210, 62, 1013),
  (yX12_waitsFor, cX12_waitsFor, 2, none, 12, 1, 1, 6215, 6214, 63, 1013),
  (yX12_rank, cX12_rank, 1, (some .int), 12, 1, 0, 6218, 6217, 0, 1013),
  (yX12_works, cX12_works, 2, none, 12, 1, 1, 6222, 6221, 64, 1013),
  (yX12_isAsking, cX12_isAsking, 1, (some .boolean), 12, 1, 0, 6225, 6224, 0, 1013)]
def xMet_15 : List xMrow := [
  (yX12_askIsOver, cX12_askIsOver, 1, none, 12, 0, 1, 6229, 6228, 65, 1013),
  (yX12_clauseIsOver, cX12_clauseIsOver, 1, none, 12, 0, 1, 6233, 6232, 66, 1013),
  (yX12_asksOn, cX12_asksOn, 1, none, 12, 0, 1, 6237, 6236, 67, 1013),
  (yX12_clause, cX12_clause, 1, none, 12, 0, 1, 7001, 7000, 68, 1013),
  (yX12_wasWalk, cX12_wasWalk, 3, (some .boolean), 12, 0, 1, 7005, 7004, 69, 1013),
  (yX12_keepsText, cX12_keepsText, 3, none, 12, 1, 1, 7009, 7008, 70, 1013),
  (yX11_fault, cX11_fault, 2, (some .int), 11, 1, 1, 3219, 3217, 3218, 1001)]
def xMet_16 : List xMrow := [
  (yX12_fault, cX12_fault, 2, (some .int), 12, 1, 1, 7013, 7011, 7012, 1013),
  (yX11_by, cX11_by, 2, (some .boolean), 11, 1, 1, 3223, 3221, 3222, 1001),
  (yX12_by, cX12_by, 2, (some .boolean), 12, 1, 1, 7017, 7015, 7016, 1013),
  (yX11_run, cX11_run, 4, (some .int), 11, 1, 1, 3227, 3225, 3226, 1001),
  (yX11_mayRun, cX11_mayRun, 2, (some .boolean), 11, 1, 1, 3231, 3230, 16, 1001),
  (yX11_law, cX11_law, 1, (some (.object "MovingStairs$Text")), 11, 0, 1, 3235, 3234, 17, 1001),
  (yX6_forgetRoutes, cX6_forgetRoutes, 1, none, 6, 0, 1, 3239, 3237, 3238, 1009)]
def xMet_17 : List xMrow := [
  (yX8_forget, cX8_forget, 1, none, 8, 0, 1, 4003, 4001, 4002, 1010),
  (yX6_passSecond, cX6_passSecond, 3, none, 6, 2, 1, 4007, 4005, 4006, 1009),
  (yX6_comeInBursts, cX6_comeInBursts, 5, none, 6, 2, 1, 4011, 4010, 18, 1009),
  (yX0_isDue, cX0_isDue, 2, (some .boolean), 0, 1, 1, 4015, 4013, 4014, 1008),
  (yX9_comeTo, cX9_comeTo, 5, none, 9, 4, 1, 4020, 4018, 4019, 1002),
  (yX2_change, cX2_change, 5, none, 2, 3, 1, 4025, 4023, 4024, 1006),
  (yX6_isSo, cX6_isSo, 6, (some .boolean), 6, 4, 1, 4029, 4028, 19, 1009)]
def xMet_18 : List xMrow := [
  (yX10_anySo, cX10_anySo, 5, (some .boolean), 10, 2, 1, 4033, 4031, 4032, 1012),
  (yX10_worth, cX10_worth, 10, (some .int), 10, 3, 1, 4037, 4036, 20, 1012),
  (yX10_joined, cX10_joined, 5, (some .long), 10, 3, 0, 4043, 4042, 0, 1012),
  (yX2_changeOutside, cX2_changeOutside, 5, none, 2, 3, 1, 4055, 4053, 4054, 1006),
  (yX6_openHalls, cX6_openHalls, 5, none, 6, 2, 1, 4059, 4058, 21, 1009),
  (yX6_letIn, cX6_letIn, 8, none, 6, 2, 1, 4063, 4062, 22, 1009),
  (yX6_turnEmptyLinks, cX6_turnEmptyLinks, 3, none, 6, 1, 1, 4068, 4067, 23, 1009)]
def xMet_19 : List xMrow := [
  (yX8_find, cX8_find, 5, none, 8, 1, 1, 4072, 4070, 4071, 1010),
  (yX3_takesNow, cX3_takesNow, 1, (some .boolean), 3, 0, 1, 4076, 4074, 4075, 1007),
  (yX8_findFor, cX8_findFor, 6, none, 8, 2, 1, 4080, 4079, 24, 1010),
  (yX8_leads, cX8_leads, 4, (some .boolean), 8, 3, 1, 4086, 4085, 25, 1010),
  (yX3_foot, cX3_foot, 1, (some .int), 3, 0, 1, 4090, 4088, 4089, 1007),
  (yX3_seconds, cX3_seconds, 1, (some .int), 3, 0, 1, 4094, 4092, 4093, 1007),
  (yX8_shorten, cX8_shorten, 5, none, 8, 3, 1, 4098, 4097, 26, 1010)]
def xMet_20 : List xMrow := [
  (yX8_between, cX8_between, 4, (some .int), 8, 2, 1, 4102, 4101, 27, 1010),
  (yX8_lowestFirst, cX8_lowestFirst, 10, (some .int), 8, 4, 1, 4106, 4105, 28, 1010),
  (yX6_moveLinks, cX6_moveLinks, 6, none, 6, 2, 1, 4110, 4109, 29, 1009),
  (yX6_lift, cX6_lift, 8, none, 6, 4, 1, 4114, 4113, 30, 1009),
  (yX6_goalOfMost, cX6_goalOfMost, 9, (some .int), 6, 4, 1, 4119, 4118, 31, 1009),
  (yX2_waiting, cX2_waiting, 4, (some .int), 2, 2, 1, 4123, 4121, 4122, 1006),
  (yX8_firstLink, cX8_firstLink, 5, (some .int), 8, 3, 1, 4127, 4125, 4126, 1010)]
def xMet_21 : List xMrow := [
  (yX9_admits, cX9_admits, 3, (some .boolean), 9, 2, 1, 4131, 4129, 4130, 1002),
  (yX6_walkOf, cX6_walkOf, 4, (some .int), 6, 3, 1, 4136, 4135, 32, 1009),
  (yX10_walk, cX10_walk, 4, (some .int), 10, 1, 1, 4141, 4139, 4140, 1012),
  (yX6_moveStair, cX6_moveStair, 5, none, 6, 2, 1, 4146, 4144, 4145, 1009),
  (yX3_goesOn, cX3_goesOn, 4, (some .boolean), 3, 2, 1, 4150, 4148, 4149, 1007),
  (yX3_who, cX3_who, 4, (some .int), 3, 2, 1, 4154, 4152, 4153, 1007),
  (yX3_move, cX3_move, 3, none, 3, 2, 1, 4158, 4156, 4157, 1007)]
def xMet_22 : List xMrow := [
  (yX3_put, cX3_put, 5, none, 3, 3, 1, 4162, 4160, 4161, 1007),
  (yX6_stepOff, cX6_stepOff, 7, (some .boolean), 6, 3, 1, 4166, 4165, 33, 1009),
  (yX3_head, cX3_head, 1, (some .int), 3, 0, 1, 4171, 4169, 4170, 1007),
  (yX6_moveFixed, cX6_moveFixed, 5, none, 6, 2, 1, 4176, 4175, 34, 1009),
  (yX6_takeUpToTwo, cX6_takeUpToTwo, 11, none, 6, 3, 1, 4181, 4179, 4180, 1009),
  (yX3_sideFor, cX3_sideFor, 4, (some .int), 3, 2, 1, 4187, 4185, 4186, 1007),
  (yX6_countSecond, cX6_countSecond, 6, none, 6, 1, 1, 4191, 4190, 35, 1009)]
def xMet_23 : List xMrow := [
  (yX2_isOver, cX2_isOver, 1, (some .boolean), 2, 0, 1, 4195, 4193, 4194, 1006),
  (yX12_run, cX12_run, 3, (some .int), 12, 1, 1, 7042, 7040, 7041, 1013),
  (yX12_isRun, cX12_isRun, 2, (some .boolean), 12, 1, 1, 7046, 7045, 75, 1013),
  (yX12_second, cX12_second, 4, none, 12, 0, 1, 7050, 7049, 76, 1013),
  (yX12_bursts, cX12_bursts, 6, none, 12, 1, 1, 7054, 7053, 77, 1013),
  (yX12_comes, cX12_comes, 5, none, 12, 4, 1, 7058, 7057, 78, 1013),
  (yX12_isSome, cX12_isSome, 6, (some .boolean), 12, 2, 1, 7062, 7061, 79, 1013)]
def xMet_24 : List xMrow := [
  (yX12_inHall, cX12_inHall, 2, (some .int), 12, 1, 1, 7066, 7065, 80, 1013),
  (yX12_countOf, cX12_countOf, 5, (some .int), 12, 2, 1, 7070, 7069, 81, 1013),
  (yX12_hallOf, cX12_hallOf, 3, (some .int), 12, 2, 1, 7074, 7073, 82, 1013),
  (yX12_saysOf, cX12_saysOf, 5, (some .long), 12, 1, 1, 7078, 7077, 83, 1013),
  (yX12_worked, cX12_worked, 5, (some .long), 12, 3, 0, 7081, 7080, 0, 1013),
  (yX12_bound, cX12_bound, 2, (some .long), 12, 1, 0, 7084, 7083, 0, 1013),
  (yX12_lets, cX12_lets, 4, none, 12, 1, 1, 7090, 7089, 84, 1013)]
def xMet_25 : List xMrow := [
  (yX12_allRoutes, cX12_allRoutes, 2, none, 12, 0, 1, 7094, 7093, 85, 1013),
  (yX12_routes, cX12_routes, 8, none, 12, 2, 1, 7025, 7024, 71, 1013),
  (yX12_costFrom, cX12_costFrom, 5, (some .int), 12, 3, 1, 7030, 7029, 72, 1013),
  (yX12_footOf, cX12_footOf, 2, (some .int), 12, 1, 1, 7034, 7033, 73, 1013),
  (yX12_otherEnd, cX12_otherEnd, 3, (some .int), 12, 2, 1, 7038, 7037, 74, 1013),
  (yX12_stairs, cX12_stairs, 5, none, 12, 2, 1, 7098, 7097, 86, 1013),
  (yX12_walkOf, cX12_walkOf, 6, (some .int), 12, 1, 1, 7102, 7101, 87, 1013)]
def xMet_26 : List xMrow := [
  (yX12_climbs, cX12_climbs, 7, none, 12, 2, 1, 7108, 7107, 88, 1013),
  (yX12_placeOf, cX12_placeOf, 4, (some .int), 12, 3, 1, 7112, 7111, 89, 1013),
  (yX12_stepsOff, cX12_stepsOff, 5, (some .boolean), 12, 2, 1, 7116, 7115, 90, 1013),
  (yX12_headOf, cX12_headOf, 2, (some .int), 12, 1, 1, 7120, 7119, 91, 1013),
  (yX12_moves, cX12_moves, 7, (some .boolean), 12, 2, 1, 7124, 7123, 92, 1013),
  (yX12_trips, cX12_trips, 2, none, 12, 1, 1, 7128, 7127, 93, 1013),
  (yX12_takes, cX12_takes, 9, none, 12, 2, 1, 7132, 7131, 94, 1013)]
def xMet_27 : List xMrow := [
  (yX12_mostOf, cX12_mostOf, 8, (some .int), 12, 3, 1, 7136, 7135, 95, 1013),
  (yX12_sideFor, cX12_sideFor, 4, (some .int), 12, 2, 1, 7140, 7139, 96, 1013),
  (yX12_lifts, cX12_lifts, 6, none, 12, 3, 1, 7144, 7143, 97, 1013),
  (yX12_isOver, cX12_isOver, 2, (some .boolean), 12, 1, 1, 7148, 7147, 98, 1013),
  (yX11_of, cX11_of, 4, (some .int), 11, 2, 1, 4201, 4199, 4200, 1001),
  (yX12_of, cX12_of, 3, (some .int), 12, 2, 1, 7152, 7150, 7151, 1013),
  (yX11_on, cX11_on, 4, (some .int), 11, 2, 1, 4205, 4203, 4204, 1001)]
def xMet_28 : List xMrow := [
  (yX12_on, cX12_on, 3, (some .int), 12, 2, 1, 7156, 7154, 7155, 1013),
  (yX11_step, cX11_step, 4, (some .int), 11, 3, 1, 4209, 4207, 4208, 1001),
  (yX12_step, cX12_step, 4, (some .int), 12, 3, 1, 7160, 7158, 7159, 1013),
  (yX11_route, cX11_route, 4, (some .int), 11, 3, 1, 4214, 4212, 4213, 1001),
  (yX12_route, cX12_route, 4, (some .int), 12, 3, 1, 7021, 7019, 7020, 1013),
  (yX11_all, cX11_all, 2, (some .int), 11, 1, 1, 4220, 4218, 4219, 1001),
  (yX12_all, cX12_all, 2, (some .int), 12, 1, 1, 7164, 7162, 7163, 1013)]
def xMet_29 : List xMrow := [
  (yX11_ways, cX11_ways, 9, (some .int), 11, 3, 1, 4224, 4222, 4223, 1001),
  (yX11_mayTurn, cX11_mayTurn, 4, (some .boolean), 11, 1, 1, 4228, 4227, 36, 1001),
  (yJ6_bitCount_0f7a4, cJ6_bitCount_0f7a4, 1, (some .int), 26, 1, 0, 4231, 4230, 0, 1020),
  (yX11_waitedByWays, cX11_waitedByWays, 6, (some .int), 11, 3, 1, 4238, 4237, 37, 1001),
  (yX11_beginTrial, cX11_beginTrial, 1, (some (.object "MovingStairs$Text")), 11, 0, 1, 5002, 5001, 38, 1001),
  (yX9_copyMoving, cX9_copyMoving, 3, none, 9, 1, 1, 5006, 5004, 5005, 1002),
  (yX2_copy, cX2_copy, 2, none, 2, 1, 1, 5010, 5008, 5009, 1006)]
def xMet_30 : List xMrow := [
  (yX3_copy, cX3_copy, 2, none, 3, 1, 1, 5017, 5015, 5016, 1007),
  (yX0_copy, cX0_copy, 2, none, 0, 1, 1, 5022, 5020, 5021, 1008),
  (yX12_ways, cX12_ways, 9, (some .int), 12, 3, 1, 7168, 7166, 7167, 1013),
  (yX12_areStairs, cX12_areStairs, 5, (some .boolean), 12, 1, 1, 7172, 7171, 99, 1013),
  (yX12_saves, cX12_saves, 2, none, 12, 0, 1, 7176, 7175, 100, 1013),
  (yX12_runs, cX12_runs, 3, none, 12, 1, 1, 7181, 7180, 101, 1013),
  (yX12_putsBack, cX12_putsBack, 2, none, 12, 0, 1, 7185, 7184, 102, 1013)]
def xMet_31 : List xMrow := [
  (yX11_least, cX11_least, 6, (some .int), 11, 3, 1, 5026, 5024, 5025, 1001),
  (yX11_shutByBar, cX11_shutByBar, 6, (some .int), 11, 3, 1, 5030, 5029, 39, 1001),
  (yX9_anyHallOver, cX9_anyHallOver, 2, (some .boolean), 9, 0, 1, 5034, 5032, 5033, 1002),
  (yX12_least, cX12_least, 8, (some .int), 12, 3, 1, 7189, 7187, 7188, 1013),
  (yX11_felt, cX11_felt, 6, (some .int), 11, 2, 1, 5039, 5037, 5038, 1001),
  (yX12_felt, cX12_felt, 7, (some .int), 12, 2, 1, 7193, 7191, 7192, 1013),
  (yX12_isStair, cX12_isStair, 2, (some .boolean), 12, 1, 1, 7197, 7196, 103, 1013)]
def xMet_32 : List xMrow := [
  (yX11_standing, cX11_standing, 3, (some .int), 11, 2, 1, 5045, 5043, 5044, 1001),
  (yX11_offByMode, cX11_offByMode, 6, (some .int), 11, 3, 1, 5050, 5049, 40, 1001),
  (yX12_standing, cX12_standing, 5, (some .int), 12, 2, 1, 7201, 7199, 7200, 1013),
  (yX11_alone, cX11_alone, 5, (some .int), 11, 4, 1, 5054, 5052, 5053, 1001),
  (yX11_mayStandAlone, cX11_mayStandAlone, 2, (some .boolean), 11, 2, 0, 5057, 5056, 0, 1001),
  (yX11_carriedAlone, cX11_carriedAlone, 7, (some .int), 11, 4, 1, 5061, 5060, 41, 1001),
  (yX9_buildAlone, cX9_buildAlone, 4, none, 9, 3, 1, 5065, 5063, 5064, 1002)]
def xMet_33 : List xMrow := [
  (yX12_alone, cX12_alone, 5, (some .int), 12, 4, 1, 7206, 7204, 7205, 1013),
  (yX12_carries, cX12_carries, 12, (some .int), 12, 4, 1, 7210, 7209, 104, 1013),
  (yX12_loneMoves, cX12_loneMoves, 8, (some .int), 12, 2, 1, 7214, 7213, 105, 1013),
  (yX11_crossing, cX11_crossing, 5, (some .int), 11, 2, 1, 5074, 5072, 5073, 1001),
  (yX12_crossing, cX12_crossing, 5, (some .int), 12, 2, 1, 7218, 7216, 7217, 1013),
  (yX11_day, cX11_day, 4, (some .int), 11, 3, 1, 5078, 5076, 5077, 1001),
  (yX1_tell, cX1_tell, 5, (some .int), 1, 3, 1, 5082, 5080, 5081, 1003)]
def xMet_34 : List xMrow := [
  (yX12_day, cX12_day, 5, (some .int), 12, 3, 1, 7222, 7220, 7221, 1013),
  (yX11_effect, cX11_effect, 1, (some .int), 11, 0, 1, 5086, 5084, 5085, 1001),
  (yX1_meanEffect, cX1_meanEffect, 11, (some .int), 1, 0, 1, 5090, 5088, 5089, 1003),
  (yX12_effect, cX12_effect, 6, (some .int), 12, 0, 1, 7226, 7224, 7225, 1013),
  (yX12_daysOf, cX12_daysOf, 7, (some .int), 12, 3, 1, 7230, 7229, 106, 1013),
  (yX11_mend, cX11_mend, 6, (some .int), 11, 4, 1, 5096, 5094, 5095, 1001),
  (yX5_tell, cX5_tell, 5, (some .int), 5, 4, 1, 5100, 5098, 5099, 1004)]
def xMet_35 : List xMrow := [
  (yX12_mend, cX12_mend, 6, (some .int), 12, 4, 1, 7235, 7233, 7234, 1013),
  (yX11_order, cX11_order, 2, (some .int), 11, 1, 1, 5104, 5102, 5103, 1001),
  (yX5_weigh, cX5_weigh, 4, none, 5, 0, 1, 5108, 5106, 5107, 1004),
  (yX5_bestNext, cX5_bestNext, 6, (some .int), 5, 1, 1, 5113, 5112, 42, 1004),
  (yX5_countBy, cX5_countBy, 8, (some .int), 5, 2, 1, 5117, 5116, 43, 1004),
  (yX5_inTurn, cX5_inTurn, 5, (some .int), 5, 1, 1, 5121, 5119, 5120, 1004),
  (yX12_order, cX12_order, 8, (some .int), 12, 1, 1, 7239, 7237, 7238, 1013)]
def xMet_36 : List xMrow := [
  (yX12_countsBy, cX12_countsBy, 10, (some .int), 12, 3, 1, 8003, 8002, 107, 1013),
  (yX12_aboveOf, cX12_aboveOf, 6, (some .int), 12, 2, 1, 8007, 8006, 108, 1013),
  (yX11_load, cX11_load, 2, (some .int), 11, 1, 1, 5125, 5123, 5124, 1001),
  (yX4_tell, cX4_tell, 2, (some .int), 4, 1, 1, 5129, 5127, 5128, 1005),
  (yX12_load, cX12_load, 2, (some .int), 12, 1, 1, 8011, 8009, 8010, 1013),
  (yX11_unload, cX11_unload, 2, (some .int), 11, 0, 1, 5133, 5131, 5132, 1001),
  (yX12_unload, cX12_unload, 2, (some .int), 12, 0, 1, 8015, 8013, 8014, 1013)]
def xMet_37 : List xMrow := [
  (yX11_taken, cX11_taken, 3, (some .int), 11, 2, 1, 5137, 5135, 5136, 1001),
  (yX4_steppedOn, cX4_steppedOn, 14, (some .int), 4, 2, 1, 5141, 5139, 5140, 1005),
  (yX12_taken, cX12_taken, 9, (some .int), 12, 2, 1, 8019, 8017, 8018, 1013),
  (yX12_chain, cX12_chain, 7, (some .int), 12, 3, 1, 8023, 8022, 109, 1013),
  (yX11_image, cX11_image, 1, (some .int), 11, 0, 1, 5147, 5145, 5146, 1001),
  (yX9_copyAll, cX9_copyAll, 2, none, 9, 1, 1, 5151, 5149, 5150, 1002),
  (yX1_copy, cX1_copy, 2, none, 1, 1, 1, 5156, 5154, 5155, 1003)]
def xMet_38 : List xMrow := [
  (yX5_copy, cX5_copy, 2, none, 5, 1, 1, 5161, 5159, 5160, 1004),
  (yX4_copy, cX4_copy, 2, none, 4, 1, 1, 5166, 5164, 5165, 1005),
  (yX12_image, cX12_image, 2, (some .int), 12, 0, 1, 8027, 8025, 8026, 1013),
  (yX11_back, cX11_back, 1, (some .int), 11, 0, 1, 5171, 5169, 5170, 1001),
  (yX12_back, cX12_back, 2, (some .int), 12, 0, 1, 8031, 8029, 8030, 1013),
  (yX11_about, cX11_about, 2, (some .int), 11, 1, 1, 5175, 5173, 5174, 1001),
  (yX12_about, cX12_about, 2, (some .int), 12, 1, 1, 8035, 8033, 8034, 1013)]
def xMet (z : Nat) : Option xMrow := match z / 7 with
  | 0 => xMet_0[z % 7]?
  | 1 => xMet_1[z % 7]?
  | 2 => xMet_2[z % 7]?
  | 3 => xMet_3[z % 7]?
  | 4 => xMet_4[z % 7]?
  | 5 => xMet_5[z % 7]?
  | 6 => xMet_6[z % 7]?
  | 7 => xMet_7[z % 7]?
  | 8 => xMet_8[z % 7]?
  | 9 => xMet_9[z % 7]?
  | 10 => xMet_10[z % 7]?
  | 11 => xMet_11[z % 7]?
  | 12 => xMet_12[z % 7]?
  | 13 => xMet_13[z % 7]?
  | 14 => xMet_14[z % 7]?
  | 15 => xMet_15[z % 7]?
  | 16 => xMet_16[z % 7]?
  | 17 => xMet_17[z % 7]?
  | 18 => xMet_18[z % 7]?
  | 19 => xMet_19[z % 7]?
  | 20 => xMet_20[z % 7]?
  | 21 => xMet_21[z % 7]?
  | 22 => xMet_22[z % 7]?
  | 23 => xMet_23[z % 7]?
  | 24 => xMet_24[z % 7]?
  | 25 => xMet_25[z % 7]?
  | 26 => xMet_26[z % 7]?
  | 27 => xMet_27[z % 7]?
  | 28 => xMet_28[z % 7]?
  | 29 => xMet_29[z % 7]?
  | 30 => xMet_30[z % 7]?
  | 31 => xMet_31[z % 7]?
  | 32 => xMet_32[z % 7]?
  | 33 => xMet_33[z % 7]?
  | 34 => xMet_34[z % 7]?
  | 35 => xMet_35[z % 7]?
  | 36 => xMet_36[z % 7]?
  | 37 => xMet_37[z % 7]?
  | 38 => xMet_38[z % 7]?
  | _ => none
def xMetOk (r : xMrow) : Bool := match r with
  | (y, c, maxL, ret, o, n, kind, w1, w2, w3, w4) => xWok w1 (.code y c maxL ret) && (if kind = 0 then xWok w2 (.static y) else xWok w2 (.instanceMethod y)) && (if kind = 1 then xWok w3 (.selects y.cls y y) else true) && xWok w4 (.initialized y.cls) && decide (y.cls = xoN o) && plainName y.cls && decide ((parseMethodDescriptor y.desc).map (fun d => d.parameters.length) = some n) && decide (y.cls ≠ "java/lang/invoke/MethodHandle") && decide (y.cls ≠ "java/lang/invoke/VarHandle") && (if kind = 2 then decide (y.name = "<init>") && decide (ret = none) else true) && decide (kind < 3) && decide (maxL ≤ 20)
theorem xMetOk_0 : xMet_0.all xMetOk = true := by decide +kernel
theorem xMetOk_1 : xMet_1.all xMetOk = true := by decide +kernel
theorem xMetOk_2 : xMet_2.all xMetOk = true := by decide +kernel
theorem xMetOk_3 : xMet_3.all xMetOk = true := by decide +kernel
theorem xMetOk_4 : xMet_4.all xMetOk = true := by decide +kernel
theorem xMetOk_5 : xMet_5.all xMetOk = true := by decide +kernel
theorem xMetOk_6 : xMet_6.all xMetOk = true := by decide +kernel
theorem xMetOk_7 : xMet_7.all xMetOk = true := by decide +kernel
theorem xMetOk_8 : xMet_8.all xMetOk = true := by decide +kernel
theorem xMetOk_9 : xMet_9.all xMetOk = true := by decide +kernel
theorem xMetOk_10 : xMet_10.all xMetOk = true := by decide +kernel
theorem xMetOk_11 : xMet_11.all xMetOk = true := by decide +kernel
theorem xMetOk_12 : xMet_12.all xMetOk = true := by decide +kernel
theorem xMetOk_13 : xMet_13.all xMetOk = true := by decide +kernel
theorem xMetOk_14 : xMet_14.all xMetOk = true := by decide +kernel
theorem xMetOk_15 : xMet_15.all xMetOk = true := by decide +kernel
theorem xMetOk_16 : xMet_16.all xMetOk = true := by decide +kernel
theorem xMetOk_17 : xMet_17.all xMetOk = true := by decide +kernel
theorem xMetOk_18 : xMet_18.all xMetOk = true := by decide +kernel
theorem xMetOk_19 : xMet_19.all xMetOk = true := by decide +kernel
theorem xMetOk_20 : xMet_20.all xMetOk = true := by decide +kernel
theorem xMetOk_21 : xMet_21.all xMetOk = true := by decide +kernel
theorem xMetOk_22 : xMet_22.all xMetOk = true := by decide +kernel
theorem xMetOk_23 : xMet_23.all xMetOk = true := by decide +kernel
theorem xMetOk_24 : xMet_24.all xMetOk = true := by decide +kernel
theorem xMetOk_25 : xMet_25.all xMetOk = true := by decide +kernel
theorem xMetOk_26 : xMet_26.all xMetOk = true := by decide +kernel
theorem xMetOk_27 : xMet_27.all xMetOk = true := by decide +kernel
theorem xMetOk_28 : xMet_28.all xMetOk = true := by decide +kernel
theorem xMetOk_29 : xMet_29.all xMetOk = true := by decide +kernel
theorem xMetOk_30 : xMet_30.all xMetOk = true := by decide +kernel
theorem xMetOk_31 : xMet_31.all xMetOk = true := by decide +kernel
theorem xMetOk_32 : xMet_32.all xMetOk = true := by decide +kernel
theorem xMetOk_33 : xMet_33.all xMetOk = true := by decide +kernel
theorem xMetOk_34 : xMet_34.all xMetOk = true := by decide +kernel
theorem xMetOk_35 : xMet_35.all xMetOk = true := by decide +kernel
theorem xMetOk_36 : xMet_36.all xMetOk = true := by decide +kernel
theorem xMetOk_37 : xMet_37.all xMetOk = true := by decide +kernel
theorem xMetOk_38 : xMet_38.all xMetOk = true := by decide +kernel
theorem xMet_ok {z : Nat} {r : xMrow} (h : xMet z = some r) : xMetOk r = true := by
  unfold xMet at h
  split at h
  · exact List.all_eq_true.mp xMetOk_0 r (List.mem_of_getElem? h)
  · exact List.all_eq_true.mp xMetOk_1 r (List.mem_of_getElem? h)
  · exact List.all_eq_true.mp xMetOk_2 r (List.mem_of_getElem? h)
  · exact List.all_eq_true.mp xMetOk_3 r (List.mem_of_getElem? h)
  · exact List.all_eq_true.mp xMetOk_4 r (List.mem_of_getElem? h)
  · exact List.all_eq_true.mp xMetOk_5 r (List.mem_of_getElem? h)
  · exact List.all_eq_true.mp xMetOk_6 r (List.mem_of_getElem? h)
  · exact List.all_eq_true.mp xMetOk_7 r (List.mem_of_getElem? h)
  · exact List.all_eq_true.mp xMetOk_8 r (List.mem_of_getElem? h)
  · exact List.all_eq_true.mp xMetOk_9 r (List.mem_of_getElem? h)
  · exact List.all_eq_true.mp xMetOk_10 r (List.mem_of_getElem? h)
  · exact List.all_eq_true.mp xMetOk_11 r (List.mem_of_getElem? h)
  · exact List.all_eq_true.mp xMetOk_12 r (List.mem_of_getElem? h)
  · exact List.all_eq_true.mp xMetOk_13 r (List.mem_of_getElem? h)
  · exact List.all_eq_true.mp xMetOk_14 r (List.mem_of_getElem? h)
  · exact List.all_eq_true.mp xMetOk_15 r (List.mem_of_getElem? h)
  · exact List.all_eq_true.mp xMetOk_16 r (List.mem_of_getElem? h)
  · exact List.all_eq_true.mp xMetOk_17 r (List.mem_of_getElem? h)
  · exact List.all_eq_true.mp xMetOk_18 r (List.mem_of_getElem? h)
  · exact List.all_eq_true.mp xMetOk_19 r (List.mem_of_getElem? h)
  · exact List.all_eq_true.mp xMetOk_20 r (List.mem_of_getElem? h)
  · exact List.all_eq_true.mp xMetOk_21 r (List.mem_of_getElem? h)
  · exact List.all_eq_true.mp xMetOk_22 r (List.mem_of_getElem? h)
  · exact List.all_eq_true.mp xMetOk_23 r (List.mem_of_getElem? h)
  · exact List.all_eq_true.mp xMetOk_24 r (List.mem_of_getElem? h)
  · exact List.all_eq_true.mp xMetOk_25 r (List.mem_of_getElem? h)
  · exact List.all_eq_true.mp xMetOk_26 r (List.mem_of_getElem? h)
  · exact List.all_eq_true.mp xMetOk_27 r (List.mem_of_getElem? h)
  · exact List.all_eq_true.mp xMetOk_28 r (List.mem_of_getElem? h)
  · exact List.all_eq_true.mp xMetOk_29 r (List.mem_of_getElem? h)
  · exact List.all_eq_true.mp xMetOk_30 r (List.mem_of_getElem? h)
  · exact List.all_eq_true.mp xMetOk_31 r (List.mem_of_getElem? h)
  · exact List.all_eq_true.mp xMetOk_32 r (List.mem_of_getElem? h)
  · exact List.all_eq_true.mp xMetOk_33 r (List.mem_of_getElem? h)
  · exact List.all_eq_true.mp xMetOk_34 r (List.mem_of_getElem? h)
  · exact List.all_eq_true.mp xMetOk_35 r (List.mem_of_getElem? h)
  · exact List.all_eq_true.mp xMetOk_36 r (List.mem_of_getElem? h)
  · exact List.all_eq_true.mp xMetOk_37 r (List.mem_of_getElem? h)
  · exact List.all_eq_true.mp xMetOk_38 r (List.mem_of_getElem? h)
  · cases h
def xIntr (z : Nat) : Option MethodName := match z with
  | 1000 => some Lib.Math.min.name
  | 1001 => some Lib.Math.max.name
  | 1002 => some Lib.MathLoose.min_long.x
  | 1003 => some Lib.MathLoose.max_long.x
  | 1004 => some arraycopyName
  | 1005 => some Lib.objectInit
  | _ => none
def xCallOk (o : Nat) (r : Nat × Nat × Nat) : Bool := match xMet r.2.1 with
  | some row => xWok r.2.2 (.methodLink (xoN o) r.1 row.1)
  | none => match xIntr r.2.1 with
    | some y => xWok r.2.2 (.methodLink (xoN o) r.1 y)
    | none => false
theorem xCallL_0_0_ok : xCallL_0_0.all (xCallOk 0) = true := by decide +kernel
theorem xCallL_1_0_ok : xCallL_1_0.all (xCallOk 1) = true := by decide +kernel
theorem xCallL_2_0_ok : xCallL_2_0.all (xCallOk 2) = true := by decide +kernel
theorem xCallL_3_0_ok : xCallL_3_0.all (xCallOk 3) = true := by decide +kernel
theorem xCallL_4_0_ok : xCallL_4_0.all (xCallOk 4) = true := by decide +kernel
theorem xCallL_5_0_ok : xCallL_5_0.all (xCallOk 5) = true := by decide +kernel
theorem xCallL_6_0_ok : xCallL_6_0.all (xCallOk 6) = true := by decide +kernel
theorem xCallL_6_1_ok : xCallL_6_1.all (xCallOk 6) = true := by decide +kernel
theorem xCallL_6_2_ok : xCallL_6_2.all (xCallOk 6) = true := by decide +kernel
theorem xCallL_7_0_ok : xCallL_7_0.all (xCallOk 7) = true := by decide +kernel
theorem xCallL_7_1_ok : xCallL_7_1.all (xCallOk 7) = true := by decide +kernel
theorem xCallL_8_0_ok : xCallL_8_0.all (xCallOk 8) = true := by decide +kernel
theorem xCallL_9_0_ok : xCallL_9_0.all (xCallOk 9) = true := by decide +kernel
theorem xCallL_10_0_ok : xCallL_10_0.all (xCallOk 10) = true := by decide +kernel
theorem xCallL_11_0_ok : xCallL_11_0.all (xCallOk 11) = true := by decide +kernel
theorem xCallL_11_1_ok : xCallL_11_1.all (xCallOk 11) = true := by decide +kernel
theorem xCallL_11_2_ok : xCallL_11_2.all (xCallOk 11) = true := by decide +kernel
theorem xCallL_12_0_ok : xCallL_12_0.all (xCallOk 12) = true := by decide +kernel
theorem xCallL_12_1_ok : xCallL_12_1.all (xCallOk 12) = true := by decide +kernel
theorem xCallL_12_2_ok : xCallL_12_2.all (xCallOk 12) = true := by decide +kernel
theorem xCallL_12_3_ok : xCallL_12_3.all (xCallOk 12) = true := by decide +kernel
theorem xCallL_12_4_ok : xCallL_12_4.all (xCallOk 12) = true := by decide +kernel
theorem xCallL_13_0_ok : xCallL_13_0.all (xCallOk 13) = true := by decide +kernel
theorem xCallL_13_1_ok : xCallL_13_1.all (xCallOk 13) = true := by decide +kernel
theorem xCallL_13_2_ok : xCallL_13_2.all (xCallOk 13) = true := by decide +kernel
theorem xCallL_13_3_ok : xCallL_13_3.all (xCallOk 13) = true := by decide +kernel
theorem xCallL_13_4_ok : xCallL_13_4.all (xCallOk 13) = true := by decide +kernel
theorem xCallL_20_0_ok : xCallL_20_0.all (xCallOk 20) = true := by decide +kernel
theorem xCallL_21_0_ok : xCallL_21_0.all (xCallOk 21) = true := by decide +kernel
theorem xCallL_22_0_ok : xCallL_22_0.all (xCallOk 22) = true := by decide +kernel
theorem xCallL_all (o : Nat) : (xCallL o).all (xCallOk o) = true := by
  by_cases h0 : o = 0
  · subst h0
    show (xCallL_0_0).all (xCallOk 0) = true
    simp only [List.all_append, xCallL_0_0_ok, Bool.and_self]
  by_cases h1 : o = 1
  · subst h1
    show (xCallL_1_0).all (xCallOk 1) = true
    simp only [List.all_append, xCallL_1_0_ok, Bool.and_self]
  by_cases h2 : o = 2
  · subst h2
    show (xCallL_2_0).all (xCallOk 2) = true
    simp only [List.all_append, xCallL_2_0_ok, Bool.and_self]
  by_cases h3 : o = 3
  · subst h3
    show (xCallL_3_0).all (xCallOk 3) = true
    simp only [List.all_append, xCallL_3_0_ok, Bool.and_self]
  by_cases h4 : o = 4
  · subst h4
    show (xCallL_4_0).all (xCallOk 4) = true
    simp only [List.all_append, xCallL_4_0_ok, Bool.and_self]
  by_cases h5 : o = 5
  · subst h5
    show (xCallL_5_0).all (xCallOk 5) = true
    simp only [List.all_append, xCallL_5_0_ok, Bool.and_self]
  by_cases h6 : o = 6
  · subst h6
    show (xCallL_6_0 ++ (xCallL_6_1 ++ (xCallL_6_2))).all (xCallOk 6) = true
    simp only [List.all_append, xCallL_6_0_ok, xCallL_6_1_ok, xCallL_6_2_ok, Bool.and_self]
  by_cases h7 : o = 7
  · subst h7
    show (xCallL_7_0 ++ (xCallL_7_1)).all (xCallOk 7) = true
    simp only [List.all_append, xCallL_7_0_ok, xCallL_7_1_ok, Bool.and_self]
  by_cases h8 : o = 8
  · subst h8
    show (xCallL_8_0).all (xCallOk 8) = true
    simp only [List.all_append, xCallL_8_0_ok, Bool.and_self]
  by_cases h9 : o = 9
  · subst h9
    show (xCallL_9_0).all (xCallOk 9) = true
    simp only [List.all_append, xCallL_9_0_ok, Bool.and_self]
  by_cases h10 : o = 10
  · subst h10
    show (xCallL_10_0).all (xCallOk 10) = true
    simp only [List.all_append, xCallL_10_0_ok, Bool.and_self]
  by_cases h11 : o = 11
  · subst h11
    show (xCallL_11_0 ++ (xCallL_11_1 ++ (xCallL_11_2))).all (xCallOk 11) = true
    simp only [List.all_append, xCallL_11_0_ok, xCallL_11_1_ok, xCallL_11_2_ok, Bool.and_self]
  by_cases h12 : o = 12
  · subst h12
    show (xCallL_12_0 ++ (xCallL_12_1 ++ (xCallL_12_2 ++ (xCallL_12_3 ++ (xCallL_12_4))))).all (xCallOk 12) = true
    simp only [List.all_append, xCallL_12_0_ok, xCallL_12_1_ok, xCallL_12_2_ok, xCallL_12_3_ok, xCallL_12_4_ok, Bool.and_self]
  by_cases h13 : o = 13
  · subst h13
    show (xCallL_13_0 ++ (xCallL_13_1 ++ (xCallL_13_2 ++ (xCallL_13_3 ++ (xCallL_13_4))))).all (xCallOk 13) = true
    simp only [List.all_append, xCallL_13_0_ok, xCallL_13_1_ok, xCallL_13_2_ok, xCallL_13_3_ok, xCallL_13_4_ok, Bool.and_self]
  by_cases h20 : o = 20
  · subst h20
    show (xCallL_20_0).all (xCallOk 20) = true
    simp only [List.all_append, xCallL_20_0_ok, Bool.and_self]
  by_cases h21 : o = 21
  · subst h21
    show (xCallL_21_0).all (xCallOk 21) = true
    simp only [List.all_append, xCallL_21_0_ok, Bool.and_self]
  by_cases h22 : o = 22
  · subst h22
    show (xCallL_22_0).all (xCallOk 22) = true
    simp only [List.all_append, xCallL_22_0_ok, Bool.and_self]
  have e : xCallL o = [] := by
    unfold xCallL
    split <;> first | rfl | (exfalso; omega)
  rw [e]; rfl
def xCstL_1_0 : List (Nat × Int32 × Nat) := [(30, (-1000000000), 5092)]
def xCstL_8_0 : List (Nat × Int32 × Nat) := [(44, (1000000), 4081)]
def xCstL_11_0 : List (Nat × Int32 × Nat) := [(103, (99999), 3049), (257, (-1000000), 5046)]
def xCstL_12_0 : List (Nat × Int32 × Nat) := [(121, (99999), 6126), (317, (1000000000), 7026), (401, (-1000000), 7202), (413, (-1000000000), 7231)]
def xCstL_26_0 : List (Nat × Int32 × Nat) := [(265, (1431655765), 4232), (266, (858993459), 4233), (267, (252645135), 4234)]
def xCstL (o : Nat) : List (Nat × Int32 × Nat) := match o with
  | 1 => xCstL_1_0
  | 8 => xCstL_8_0
  | 11 => xCstL_11_0
  | 12 => xCstL_12_0
  | 26 => xCstL_26_0
  | _ => []
def xCstOk (o : Nat) (r : Nat × Int32 × Nat) : Bool := xWok r.2.2 (.constant (xoN o) r.1 r.2.1)
theorem xCstL_1_0_ok : xCstL_1_0.all (xCstOk 1) = true := by decide +kernel
theorem xCstL_8_0_ok : xCstL_8_0.all (xCstOk 8) = true := by decide +kernel
theorem xCstL_11_0_ok : xCstL_11_0.all (xCstOk 11) = true := by decide +kernel
theorem xCstL_12_0_ok : xCstL_12_0.all (xCstOk 12) = true := by decide +kernel
theorem xCstL_26_0_ok : xCstL_26_0.all (xCstOk 26) = true := by decide +kernel
theorem xCstL_all (o : Nat) : (xCstL o).all (xCstOk o) = true := by
  by_cases h1 : o = 1
  · subst h1
    show (xCstL_1_0).all (xCstOk 1) = true
    simp only [List.all_append, xCstL_1_0_ok, Bool.and_self]
  by_cases h8 : o = 8
  · subst h8
    show (xCstL_8_0).all (xCstOk 8) = true
    simp only [List.all_append, xCstL_8_0_ok, Bool.and_self]
  by_cases h11 : o = 11
  · subst h11
    show (xCstL_11_0).all (xCstOk 11) = true
    simp only [List.all_append, xCstL_11_0_ok, Bool.and_self]
  by_cases h12 : o = 12
  · subst h12
    show (xCstL_12_0).all (xCstOk 12) = true
    simp only [List.all_append, xCstL_12_0_ok, Bool.and_self]
  by_cases h26 : o = 26
  · subst h26
    show (xCstL_26_0).all (xCstOk 26) = true
    simp only [List.all_append, xCstL_26_0_ok, Bool.and_self]
  have e : xCstL o = [] := by
    unfold xCstL
    split <;> first | rfl | (exfalso; omega)
  rw [e]; rfl
def xCst (o i : Nat) : Option (Nat × Int32 × Nat) := (xCstL o).find? (fun r => r.1 == i)
def xCsLL_1_0 : List (Nat × Int64 × Nat) := [(28, (1000), 5091)]
def xCsLL_6_0 : List (Nat × Int64 × Nat) := [(277, (1000000000), 4196)]
def xCsLL_10_0 : List (Nat × Int64 × Nat) := [(51, (-1000000), 4044), (53, (1000000), 4045)]
def xCsLL_12_0 : List (Nat × Int64 × Nat) := [(129, (14555947), 6154), (131, (13536628), 6155), (133, (9050347), 6156), (135, (3058), 6157), (137, (138148), 6158), (139, (191476), 6159), (141, (55390960548), 6160), (143, (10623788), 6161), (145, (599743412), 6162), (147, (13302765), 6163), (149, (3287609678117), 6164), (151, (869424179), 6165), (153, (11728996), 6166), (155, (14555764), 6167), (172, (64), 6150)]
def xCsLL_12_1 : List (Nat × Int64 × Nat) := [(277, (1000000), 7085), (279, (-1000000), 7086), (302, (4), 7103), (307, (10), 7104)]
def xCsLL (o : Nat) : List (Nat × Int64 × Nat) := match o with
  | 1 => xCsLL_1_0
  | 6 => xCsLL_6_0
  | 10 => xCsLL_10_0
  | 12 => xCsLL_12_0 ++ (xCsLL_12_1)
  | _ => []
def xCsLOk (o : Nat) (r : Nat × Int64 × Nat) : Bool := xWok r.2.2 (.constantLong (xoN o) r.1 r.2.1)
theorem xCsLL_1_0_ok : xCsLL_1_0.all (xCsLOk 1) = true := by decide +kernel
theorem xCsLL_6_0_ok : xCsLL_6_0.all (xCsLOk 6) = true := by decide +kernel
theorem xCsLL_10_0_ok : xCsLL_10_0.all (xCsLOk 10) = true := by decide +kernel
theorem xCsLL_12_0_ok : xCsLL_12_0.all (xCsLOk 12) = true := by decide +kernel
theorem xCsLL_12_1_ok : xCsLL_12_1.all (xCsLOk 12) = true := by decide +kernel
theorem xCsLL_all (o : Nat) : (xCsLL o).all (xCsLOk o) = true := by
  by_cases h1 : o = 1
  · subst h1
    show (xCsLL_1_0).all (xCsLOk 1) = true
    simp only [List.all_append, xCsLL_1_0_ok, Bool.and_self]
  by_cases h6 : o = 6
  · subst h6
    show (xCsLL_6_0).all (xCsLOk 6) = true
    simp only [List.all_append, xCsLL_6_0_ok, Bool.and_self]
  by_cases h10 : o = 10
  · subst h10
    show (xCsLL_10_0).all (xCsLOk 10) = true
    simp only [List.all_append, xCsLL_10_0_ok, Bool.and_self]
  by_cases h12 : o = 12
  · subst h12
    show (xCsLL_12_0 ++ (xCsLL_12_1)).all (xCsLOk 12) = true
    simp only [List.all_append, xCsLL_12_0_ok, xCsLL_12_1_ok, Bool.and_self]
  have e : xCsLL o = [] := by
    unfold xCsLL
    split <;> first | rfl | (exfalso; omega)
  rw [e]; rfl
def xCsL (o i : Nat) : Option (Nat × Int64 × Nat) := (xCsLL o).find? (fun r => r.1 == i)
/-- classes: (place in the pool, class, words: link, instantiable, initialized) -/
def xNewL_6_0 : List (Nat × Nat × Nat × Nat × Nat) := [(9, 8, 2108, 2109, 1010)]
def xNewL_9_0 : List (Nat × Nat × Nat × Nat × Nat) := [(9, 2, 1036, 1101, 1006), (17, 3, 1038, 1150, 1007), (23, 0, 1040, 1226, 1008), (29, 1, 1042, 1043, 1003), (36, 5, 1060, 1061, 1004), (43, 4, 1087, 1088, 1005)]
def xNewL_11_0 : List (Nat × Nat × Nat × Nat × Nat) := [(7, 9, 1030, 1031, 1002), (22, 6, 2102, 2103, 1009), (29, 7, 2132, 2133, 1011), (36, 10, 2172, 2173, 1012)]
def xNewL_13_0 : List (Nat × Nat × Nat × Nat × Nat) := [(7, 11, 1022, 1023, 1001), (10, 12, 5176, 5177, 1013)]
def xNewL (o : Nat) : List (Nat × Nat × Nat × Nat × Nat) := match o with
  | 6 => xNewL_6_0
  | 9 => xNewL_9_0
  | 11 => xNewL_11_0
  | 13 => xNewL_13_0
  | _ => []
def xNewOk (o : Nat) (r : Nat × Nat × Nat × Nat × Nat) : Bool := xWok r.2.2.1 (.classLink (xoN o) r.1 (xCl r.2.1).1) && xWok r.2.2.2.1 (.instantiable (xCl r.2.1).1 (xCl r.2.1).2.2) && xWok r.2.2.2.2 (.initialized (xCl r.2.1).1) && decide (r.2.1 < 13)
theorem xNewL_6_0_ok : xNewL_6_0.all (xNewOk 6) = true := by decide +kernel
theorem xNewL_9_0_ok : xNewL_9_0.all (xNewOk 9) = true := by decide +kernel
theorem xNewL_11_0_ok : xNewL_11_0.all (xNewOk 11) = true := by decide +kernel
theorem xNewL_13_0_ok : xNewL_13_0.all (xNewOk 13) = true := by decide +kernel
theorem xNewL_all (o : Nat) : (xNewL o).all (xNewOk o) = true := by
  by_cases h6 : o = 6
  · subst h6
    show (xNewL_6_0).all (xNewOk 6) = true
    simp only [List.all_append, xNewL_6_0_ok, Bool.and_self]
  by_cases h9 : o = 9
  · subst h9
    show (xNewL_9_0).all (xNewOk 9) = true
    simp only [List.all_append, xNewL_9_0_ok, Bool.and_self]
  by_cases h11 : o = 11
  · subst h11
    show (xNewL_11_0).all (xNewOk 11) = true
    simp only [List.all_append, xNewL_11_0_ok, Bool.and_self]
  by_cases h13 : o = 13
  · subst h13
    show (xNewL_13_0).all (xNewOk 13) = true
    simp only [List.all_append, xNewL_13_0_ok, Bool.and_self]
  have e : xNewL o = [] := by
    unfold xNewL
    split <;> first | rfl | (exfalso; omega)
  rw [e]; rfl
def xNew (o i : Nat) : Option (Nat × Nat × Nat × Nat × Nat) := (xNewL o).find? (fun r => r.1 == i)
theorem xOne_0 : Cond.static Lib.Math.min.name ∈ xWords := xWok_in (n := 3147) (by decide +kernel)
theorem xOne_1 : Cond.initialized "java/lang/Math" ∈ xWords := xWok_in (n := 1019) (by decide +kernel)
theorem xOne_2 : Cond.code Lib.Math.min.name Lib.Math.min.code 2 (some .int) ∈ xWords := xWok_in (n := 3148) (by decide +kernel)
theorem xOne_3 : Cond.static Lib.Math.max.name ∈ xWords := xWok_in (n := 4039) (by decide +kernel)
theorem xOne_4 : Cond.code Lib.Math.max.name Lib.Math.max.code 2 (some .int) ∈ xWords := xWok_in (n := 4040) (by decide +kernel)
theorem xOne_5 : Cond.static Lib.MathLoose.min_long.x ∈ xWords := xWok_in (n := 4047) (by decide +kernel)
theorem xOne_6 : Cond.code Lib.MathLoose.min_long.x Lib.MathLoose.min_long.code 4 (some .long) ∈ xWords := xWok_in (n := 4048) (by decide +kernel)
theorem xOne_7 : Cond.static Lib.MathLoose.max_long.x ∈ xWords := xWok_in (n := 4050) (by decide +kernel)
theorem xOne_8 : Cond.code Lib.MathLoose.max_long.x Lib.MathLoose.max_long.code 4 (some .long) ∈ xWords := xWok_in (n := 4051) (by decide +kernel)
theorem xOne_9 : Cond.native arraycopyName ∈ xWords := xWok_in (n := 5013) (by decide +kernel)
theorem xOne_10 : Cond.static arraycopyName ∈ xWords := xWok_in (n := 5012) (by decide +kernel)
theorem xOne_11 : Cond.initialized "java/lang/System" ∈ xWords := xWok_in (n := 1021) (by decide +kernel)
theorem xOne_12 : Cond.instanceMethod Lib.objectInit ∈ xWords := xWok_in (n := 1028) (by decide +kernel)
theorem xOne_13 : Cond.code Lib.objectInit ⟨#[0xb1]⟩ 1 none ∈ xWords := xWok_in (n := 1029) (by decide +kernel)
theorem xOne_14 : Cond.arrayClass .byte ∈ xWords := xWok_in (n := 3215) (by decide +kernel)
theorem xOne_15 : Cond.arrayClass .int ∈ xWords := xWok_in (n := 1059) (by decide +kernel)
theorem xOne_16 : Cond.arrayClass .long ∈ xWords := xWok_in (n := 6069) (by decide +kernel)
theorem xOne_17 : Cond.arrayClass .boolean ∈ xWords := xWok_in (n := 6070) (by decide +kernel)
/-- what a method makes: cells, slots -/
def xMc (z : Nat) : Nat × Nat := match z with
  | 5 => (2, 24)
  | 6 => (1, 80)
  | 2 => (2, 24)
  | 3 => (5, 88)
  | 4 => (1, 60)
  | 1 => (82, 1577)
  | 9 => (2, 108)
  | 8 => (4, 119)
  | 10 => (4, 1203)
  | 11 => (5, 920)
  | 0 => (290, 10752)
  | 12 => (25, 10009)
  | _ => (0, 0)
