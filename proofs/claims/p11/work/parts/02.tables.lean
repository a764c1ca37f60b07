/-! names of the owning classes, tables of fields, methods, calls, constants: with the places of the words in the tables of the Statement (1000 times the list, plus the row; list 0: the selects of the private ones) -/
def xoN (o : Nat) : String := match o with
  | 0 => RX0
  | 1 => RX1
  | 2 => RX2
  | 3 => RX3
  | 4 => RX4
  | 5 => RX5
  | 6 => RX6
  | 7 => RX7
  | 8 => RX8
  | 9 => RX9
  | 10 => RX10
  | 11 => RX11
  | 12 => RX12
  | 13 => RL
  | 20 => RJ0
  | 21 => RJ1
  | 22 => RJ2
  | 23 => RJ3
  | 26 => RJ6
  | 27 => RJ7
  | _ => ""
def xWd (n : Nat) : Option Cond := match n / 1000 with
  | 0 => (k2_sels lw_privs)[n % 1000]?
  | 1 => tables_1_1[n % 1000]?
  | 2 => tables_1_2[n % 1000]?
  | 3 => tables_1_3[n % 1000]?
  | 4 => tables_1_4[n % 1000]?
  | 5 => tables_1_5[n % 1000]?
  | 6 => tables_1_6[n % 1000]?
  | 7 => tables_1_7[n % 1000]?
  | 8 => tables_1_8[n % 1000]?
  | _ => none
def xWords : List Cond := lw_tbl.filter goodWord
def xWok (n : Nat) (w : Cond) : Bool := decide (xWd n = some w) && goodWord w
theorem xWok_in {n : Nat} {w : Cond} (h : xWok n w = true) : w ∈ xWords := by
  simp only [xWok, Bool.and_eq_true, decide_eq_true_eq] at h
  refine List.mem_filter.mpr ⟨?_, h.2⟩
  have h1 := h.1
  unfold lw_tbl tables_1
  simp only [List.mem_append]
  unfold xWd at h1
  split at h1
  · exact Or.inl (List.mem_of_getElem? h1)
  · exact Or.inr (Or.inl (List.mem_of_getElem? h1))
  · exact Or.inr (Or.inr (Or.inl (List.mem_of_getElem? h1)))
  · exact Or.inr (Or.inr (Or.inr (Or.inl (List.mem_of_getElem? h1))))
  · exact Or.inr (Or.inr (Or.inr (Or.inr (Or.inl (List.mem_of_getElem? h1)))))
  · exact Or.inr (Or.inr (Or.inr (Or.inr (Or.inr (Or.inl (List.mem_of_getElem? h1))))))
  · exact Or.inr (Or.inr (Or.inr (Or.inr (Or.inr (Or.inr (Or.inl (List.mem_of_getElem? h1)))))))
  · exact Or.inr (Or.inr (Or.inr (Or.inr (Or.inr (Or.inr (Or.inr (Or.inl (List.mem_of_getElem? h1))))))))
  · exact Or.inr (Or.inr (Or.inr (Or.inr (Or.inr (Or.inr (Or.inr (Or.inr (List.mem_of_getElem? h1))))))))
  · cases h1
theorem xWords_tbl {w : Cond} (h : w ∈ xWords) : w ∈ lw_tbl := (List.mem_filter.mp h).1
def xInOk (ws : List Cond) (ns : List Nat) : Bool := decide (ws.length = ns.length) && (ws.zip ns).all (fun q => xWok q.2 q.1)
theorem xInOk_in {ws : List Cond} {ns : List Nat} (h : xInOk ws ns = true) : ∀ w ∈ ws, w ∈ xWords := by
  simp only [xInOk, Bool.and_eq_true, decide_eq_true_eq] at h
  intro w hw
  obtain ⟨i, hi⟩ := List.getElem?_of_mem hw
  have hl : i < ns.length := by rw [← h.1]; exact (List.getElem?_eq_some_iff.mp hi).1
  have hz : (ws.zip ns)[i]? = some (w, ns[i]) := by rw [List.getElem?_zip_eq_some]; exact ⟨hi, List.getElem?_eq_getElem hl⟩
  exact xWok_in (List.all_eq_true.mp h.2 _ (List.mem_of_getElem? hz))
theorem xInX0 : ∀ w ∈ wsX00, w ∈ xWords := xInOk_in (ns := [2010, 2012, 2014, 2016, 2018, 2020, 2022]) (by decide +kernel)
theorem xInX1 : ∀ w ∈ wsX10, w ∈ xWords := xInOk_in (ns := [1052, 1054, 1056]) (by decide +kernel)
theorem xInX2 : ∀ w ∈ wsX20, w ∈ xWords := xInOk_in (ns := [1131, 1133, 1135, 1137, 1139, 1141, 1143, 1145, 1147]) (by decide +kernel)
theorem xInX3 : ∀ w ∈ wsX30, w ∈ xWords := xInOk_in (ns := [1197, 1199, 1201, 1203, 1205, 1207, 1209, 1211, 1213, 1215, 1217, 1219, 1221, 1223]) (by decide +kernel)
theorem xInX4 : ∀ w ∈ wsX40, w ∈ xWords := xInOk_in (ns := [1096, 1098]) (by decide +kernel)
theorem xInX5 : ∀ w ∈ wsX50, w ∈ xWords := xInOk_in (ns := [1074, 1076, 1078, 1080, 1082, 1084]) (by decide +kernel)
theorem xInX6 : ∀ w ∈ wsX60, w ∈ xWords := xInOk_in (ns := [2127, 2129]) (by decide +kernel)
theorem xInX7 : ∀ w ∈ wsX70, w ∈ xWords := xInOk_in (ns := [2151, 2153, 2155, 2157, 2159, 2161, 2163, 2165, 2167, 2169]) (by decide +kernel)
theorem xInX8 : ∀ w ∈ wsX80, w ∈ xWords := xInOk_in (ns := [2117, 2119, 2121]) (by decide +kernel)
theorem xInX9 : ∀ w ∈ wsX90, w ∈ xWords := xInOk_in (ns := [2069, 2071, 2073, 2075, 2077, 2079, 2081, 2083, 2085, 2087, 2089, 2091, 2093, 2095, 2097, 2099]) (by decide +kernel)
theorem xInX10 : ∀ w ∈ wsX100, w ∈ xWords := xInOk_in (ns := [2187, 2189, 2191, 2193, 2195, 2197, 2199]) (by decide +kernel)
theorem xInX11 : ∀ w ∈ wsX110, w ∈ xWords := xInOk_in (ns := [2210, 2212, 2214, 2216, 2218, 2220, 2222]) (by decide +kernel)
theorem xInX12 : ∀ w ∈ wsX120, w ∈ xWords := xInOk_in (ns := [5224, 5226, 5228, 5230, 5232, 5234, 5236, 5238, 6000, 6002, 6004, 6006, 6008, 6010, 6012, 6014, 6016, 6018, 6020, 6022, 6024, 6026, 6028, 6030, 6032, 6034, 6036, 6038, 6040, 6042, 6044, 6046, 6048, 6050, 6052, 6054, 6056, 6058, 6060, 6062, 6064, 6066]) (by decide +kernel)
def xCl (ci : Nat) : vw_C := match ci with
  | 0 => (RX0, TX0, 7)
  | 1 => (RX1, TX1, 3)
  | 2 => (RX2, TX2, 9)
  | 3 => (RX3, TX3, 14)
  | 4 => (RX4, TX4, 2)
  | 5 => (RX5, TX5, 6)
  | 6 => (RX6, TX6, 2)
  | 7 => (RX7, TX7, 10)
  | 8 => (RX8, TX8, 3)
  | 9 => (RX9, TX9, 16)
  | 10 => (RX10, TX10, 7)
  | 11 => (RX11, TX11, 7)
  | 12 => (RX12, TX12, 42)
  | _ => ("", TX0, 0)
def xTy (ci : Nat) : Nat → FieldType := match ci with
  | 0 => tyX0
  | 1 => tyX1
  | 2 => tyX2
  | 3 => tyX3
  | 4 => tyX4
  | 5 => tyX5
  | 6 => tyX6
  | 7 => tyX7
  | 8 => tyX8
  | 9 => tyX9
  | 10 => tyX10
  | 11 => tyX11
  | 12 => tyX12
  | _ => tyX0
