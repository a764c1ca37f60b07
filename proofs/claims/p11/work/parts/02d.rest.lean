def xCallOk (o : Nat) (r : Nat × Nat × Nat) : Bool := match xMet r.2.1 with
  | some row => xWok r.2.2 (.methodLink (xoN o) r.1 row.1)
  | none => match xIntr r.2.1 with
    | some y => xWok r.2.2 (.methodLink (xoN o) r.1 y)
    | none => false
theorem xCallL_0_0_ok : xCallL_0_0.all (xCallOk 0) = true := by decide +kernel
theorem xCallL_1_0_ok : xCallL_1_0.all (xCallOk 1) = true := by decide +kernel
theorem xCallL_2_0_ok : xCallL_2_0.all (xCallOk 2) = true := by decide +kernel
theorem xCallL_3_0_ok : xCallL_3_0.all (xCallOk 3) = true := by decide +kernel
theorem xCallL_4_0_ok : xCallL_4_0.all (xCallOk 4) = true := by decide +kernel
theorem xCallL_5_0_ok : xCallL_5_0.all (xCallOk 5) = true := by decide +kernel
theorem xCallL_6_0_ok : xCallL_6_0.all (xCallOk 6) = true := by decide +kernel
theorem xCallL_6_1_ok : xCallL_6_1.all (xCallOk 6) = true := by decide +kernel
theorem xCallL_6_2_ok : xCallL_6_2.all (xCallOk 6) = true := by decide +kernel
theorem xCallL_7_0_ok : xCallL_7_0.all (xCallOk 7) = true := by decide +kernel
theorem xCallL_7_1_ok : xCallL_7_1.all (xCallOk 7) = true := by decide +kernel
theorem xCallL_8_0_ok : xCallL_8_0.all (xCallOk 8) = true := by decide +kernel
theorem xCallL_9_0_ok : xCallL_9_0.all (xCallOk 9) = true := by decide +kernel
theorem xCallL_10_0_ok : xCallL_10_0.all (xCallOk 10) = true := by decide +kernel
theorem xCallL_11_0_ok : xCallL_11_0.all (xCallOk 11) = true := by decide +kernel
theorem xCallL_11_1_ok : xCallL_11_1.all (xCallOk 11) = true := by decide +kernel
theorem xCallL_11_2_ok : xCallL_11_2.all (xCallOk 11) = true := by decide +kernel
theorem xCallL_12_0_ok : xCallL_12_0.all (xCallOk 12) = true := by decide +kernel
theorem xCallL_12_1_ok : xCallL_12_1.all (xCallOk 12) = true := by decide +kernel
theorem xCallL_12_2_ok : xCallL_12_2.all (xCallOk 12) = true := by decide +kernel
theorem xCallL_12_3_ok : xCallL_12_3.all (xCallOk 12) = true := by decide +kernel
theorem xCallL_12_4_ok : xCallL_12_4.all (xCallOk 12) = true := by decide +kernel
theorem xCallL_13_0_ok : xCallL_13_0.all (xCallOk 13) = true := by decide +kernel
theorem xCallL_13_1_ok : xCallL_13_1.all (xCallOk 13) = true := by decide +kernel
theorem xCallL_13_2_ok : xCallL_13_2.all (xCallOk 13) = true := by decide +kernel
theorem xCallL_13_3_ok : xCallL_13_3.all (xCallOk 13) = true := by decide +kernel
theorem xCallL_13_4_ok : xCallL_13_4.all (xCallOk 13) = true := by decide +kernel
theorem xCallL_20_0_ok : xCallL_20_0.all (xCallOk 20) = true := by decide +kernel
theorem xCallL_21_0_ok : xCallL_21_0.all (xCallOk 21) = true := by decide +kernel
theorem xCallL_22_0_ok : xCallL_22_0.all (xCallOk 22) = true := by decide +kernel
theorem xCallL_all (o : Nat) : (xCallL o).all (xCallOk o) = true := by
  by_cases h0 : o = 0
  · subst h0
    show (xCallL_0_0).all (xCallOk 0) = true
    simp only [List.all_append, xCallL_0_0_ok, Bool.and_self]
  by_cases h1 : o = 1
  · subst h1
    show (xCallL_1_0).all (xCallOk 1) = true
    simp only [List.all_append, xCallL_1_0_ok, Bool.and_self]
  by_cases h2 : o = 2
  · subst h2
    show (xCallL_2_0).all (xCallOk 2) = true
    simp only [List.all_append, xCallL_2_0_ok, Bool.and_self]
  by_cases h3 : o = 3
  · subst h3
    show (xCallL_3_0).all (xCallOk 3) = true
    simp only [List.all_append, xCallL_3_0_ok, Bool.and_self]
  by_cases h4 : o = 4
  · subst h4
    show (xCallL_4_0).all (xCallOk 4) = true
    simp only [List.all_append, xCallL_4_0_ok, Bool.and_self]
  by_cases h5 : o = 5
  · subst h5
    show (xCallL_5_0).all (xCallOk 5) = true
    simp only [List.all_append, xCallL_5_0_ok, Bool.and_self]
  by_cases h6 : o = 6
  · subst h6
    show (xCallL_6_0 ++ (xCallL_6_1 ++ (xCallL_6_2))).all (xCallOk 6) = true
    simp only [List.all_append, xCallL_6_0_ok, xCallL_6_1_ok, xCallL_6_2_ok, Bool.and_self]
  by_cases h7 : o = 7
  · subst h7
    show (xCallL_7_0 ++ (xCallL_7_1)).all (xCallOk 7) = true
    simp only [List.all_append, xCallL_7_0_ok, xCallL_7_1_ok, Bool.and_self]
  by_cases h8 : o = 8
  · subst h8
    show (xCallL_8_0).all (xCallOk 8) = true
    simp only [List.all_append, xCallL_8_0_ok, Bool.and_self]
  by_cases h9 : o = 9
  · subst h9
    show (xCallL_9_0).all (xCallOk 9) = true
    simp only [List.all_append, xCallL_9_0_ok, Bool.and_self]
  by_cases h10 : o = 10
  · subst h10
    show (xCallL_10_0).all (xCallOk 10) = true
    simp only [List.all_append, xCallL_10_0_ok, Bool.and_self]
  by_cases h11 : o = 11
  · subst h11
    show (xCallL_11_0 ++ (xCallL_11_1 ++ (xCallL_11_2))).all (xCallOk 11) = true
    simp only [List.all_append, xCallL_11_0_ok, xCallL_11_1_ok, xCallL_11_2_ok, Bool.and_self]
  by_cases h12 : o = 12
  · subst h12
    show (xCallL_12_0 ++ (xCallL_12_1 ++ (xCallL_12_2 ++ (xCallL_12_3 ++ (xCallL_12_4))))).all (xCallOk 12) = true
    simp only [List.all_append, xCallL_12_0_ok, xCallL_12_1_ok, xCallL_12_2_ok, xCallL_12_3_ok, xCallL_12_4_ok, Bool.and_self]
  by_cases h13 : o = 13
  · subst h13
    show (xCallL_13_0 ++ (xCallL_13_1 ++ (xCallL_13_2 ++ (xCallL_13_3 ++ (xCallL_13_4))))).all (xCallOk 13) = true
    simp only [List.all_append, xCallL_13_0_ok, xCallL_13_1_ok, xCallL_13_2_ok, xCallL_13_3_ok, xCallL_13_4_ok, Bool.and_self]
  by_cases h20 : o = 20
  · subst h20
    show (xCallL_20_0).all (xCallOk 20) = true
    simp only [List.all_append, xCallL_20_0_ok, Bool.and_self]
  by_cases h21 : o = 21
  · subst h21
    show (xCallL_21_0).all (xCallOk 21) = true
    simp only [List.all_append, xCallL_21_0_ok, Bool.and_self]
  by_cases h22 : o = 22
  · subst h22
    show (xCallL_22_0).all (xCallOk 22) = true
    simp only [List.all_append, xCallL_22_0_ok, Bool.and_self]
  have e : xCallL o = [] := by
    unfold xCallL
    split <;> first | rfl | (exfalso; omega)
  rw [e]; rfl
def xCstL_1_0 : List (Nat × Int32 × Nat) := [(30, (-1000000000), 5092)]
def xCstL_8_0 : List (Nat × Int32 × Nat) := [(44, (1000000), 4081)]
def xCstL_11_0 : List (Nat × Int32 × Nat) := [(103, (99999), 3049), (257, (-1000000), 5046)]
def xCstL_12_0 : List (Nat × Int32 × Nat) := [(121, (99999), 6126), (317, (1000000000), 7026), (401, (-1000000), 7202), (413, (-1000000000), 7231)]
def xCstL_26_0 : List (Nat × Int32 × Nat) := [(265, (1431655765), 4232), (266, (858993459), 4233), (267, (252645135), 4234)]
def xCstL (o : Nat) : List (Nat × Int32 × Nat) := match o with
  | 1 => xCstL_1_0
  | 8 => xCstL_8_0
  | 11 => xCstL_11_0
  | 12 => xCstL_12_0
  | 26 => xCstL_26_0
  | _ => []
def xCstOk (o : Nat) (r : Nat × Int32 × Nat) : Bool := xWok r.2.2 (.constant (xoN o) r.1 r.2.1)
theorem xCstL_1_0_ok : xCstL_1_0.all (xCstOk 1) = true := by decide +kernel
theorem xCstL_8_0_ok : xCstL_8_0.all (xCstOk 8) = true := by decide +kernel
theorem xCstL_11_0_ok : xCstL_11_0.all (xCstOk 11) = true := by decide +kernel
theorem xCstL_12_0_ok : xCstL_12_0.all (xCstOk 12) = true := by decide +kernel
theorem xCstL_26_0_ok : xCstL_26_0.all (xCstOk 26) = true := by decide +kernel
theorem xCstL_all (o : Nat) : (xCstL o).all (xCstOk o) = true := by
  by_cases h1 : o = 1
  · subst h1
    show (xCstL_1_0).all (xCstOk 1) = true
    simp only [List.all_append, xCstL_1_0_ok, Bool.and_self]
  by_cases h8 : o = 8
  · subst h8
    show (xCstL_8_0).all (xCstOk 8) = true
    simp only [List.all_append, xCstL_8_0_ok, Bool.and_self]
  by_cases h11 : o = 11
  · subst h11
    show (xCstL_11_0).all (xCstOk 11) = true
    simp only [List.all_append, xCstL_11_0_ok, Bool.and_self]
  by_cases h12 : o = 12
  · subst h12
    show (xCstL_12_0).all (xCstOk 12) = true
    simp only [List.all_append, xCstL_12_0_ok, Bool.and_self]
  by_cases h26 : o = 26
  · subst h26
    show (xCstL_26_0).all (xCstOk 26) = true
    simp only [List.all_append, xCstL_26_0_ok, Bool.and_self]
  have e : xCstL o = [] := by
    unfold xCstL
    split <;> first | rfl | (exfalso; omega)
  rw [e]; rfl
def xCst (o i : Nat) : Option (Nat × Int32 × Nat) := (xCstL o).find? (fun r => r.1 == i)
def xCsLL_1_0 : List (Nat × Int64 × Nat) := [(28, (1000), 5091)]
def xCsLL_6_0 : List (Nat × Int64 × Nat) := [(277, (1000000000), 4196)]
def xCsLL_10_0 : List (Nat × Int64 × Nat) := [(51, (-1000000), 4044), (53, (1000000), 4045)]
def xCsLL_12_0 : List (Nat × Int64 × Nat) := [(129, (14555947), 6154), (131, (13536628), 6155), (133, (9050347), 6156), (135, (3058), 6157), (137, (138148), 6158), (139, (191476), 6159), (141, (55390960548), 6160), (143, (10623788), 6161), (145, (599743412), 6162), (147, (13302765), 6163), (149, (3287609678117), 6164), (151, (869424179), 6165), (153, (11728996), 6166), (155, (14555764), 6167), (172, (64), 6150)]
def xCsLL_12_1 : List (Nat × Int64 × Nat) := [(277, (1000000), 7085), (279, (-1000000), 7086), (302, (4), 7103), (307, (10), 7104)]
def xCsLL (o : Nat) : List (Nat × Int64 × Nat) := match o with
  | 1 => xCsLL_1_0
  | 6 => xCsLL_6_0
  | 10 => xCsLL_10_0
  | 12 => xCsLL_12_0 ++ (xCsLL_12_1)
  | _ => []
def xCsLOk (o : Nat) (r : Nat × Int64 × Nat) : Bool := xWok r.2.2 (.constantLong (xoN o) r.1 r.2.1)
theorem xCsLL_1_0_ok : xCsLL_1_0.all (xCsLOk 1) = true := by decide +kernel
theorem xCsLL_6_0_ok : xCsLL_6_0.all (xCsLOk 6) = true := by decide +kernel
theorem xCsLL_10_0_ok : xCsLL_10_0.all (xCsLOk 10) = true := by decide +kernel
theorem xCsLL_12_0_ok : xCsLL_12_0.all (xCsLOk 12) = true := by decide +kernel
theorem xCsLL_12_1_ok : xCsLL_12_1.all (xCsLOk 12) = true := by decide +kernel
theorem xCsLL_all (o : Nat) : (xCsLL o).all (xCsLOk o) = true := by
  by_cases h1 : o = 1
  · subst h1
    show (xCsLL_1_0).all (xCsLOk 1) = true
    simp only [List.all_append, xCsLL_1_0_ok, Bool.and_self]
  by_cases h6 : o = 6
  · subst h6
    show (xCsLL_6_0).all (xCsLOk 6) = true
    simp only [List.all_append, xCsLL_6_0_ok, Bool.and_self]
  by_cases h10 : o = 10
  · subst h10
    show (xCsLL_10_0).all (xCsLOk 10) = true
    simp only [List.all_append, xCsLL_10_0_ok, Bool.and_self]
  by_cases h12 : o = 12
  · subst h12
    show (xCsLL_12_0 ++ (xCsLL_12_1)).all (xCsLOk 12) = true
    simp only [List.all_append, xCsLL_12_0_ok, xCsLL_12_1_ok, Bool.and_self]
  have e : xCsLL o = [] := by
    unfold xCsLL
    split <;> first | rfl | (exfalso; omega)
  rw [e]; rfl
def xCsL (o i : Nat) : Option (Nat × Int64 × Nat) := (xCsLL o).find? (fun r => r.1 == i)
/-- classes: (place in the pool, class, words: link, instantiable, initialized) -/
def xNewL_6_0 : List (Nat × Nat × Nat × Nat × Nat) := [(9, 8, 2108, 2109, 1010)]
def xNewL_9_0 : List (Nat × Nat × Nat × Nat × Nat) := [(9, 2, 1036, 1101, 1006), (17, 3, 1038, 1150, 1007), (23, 0, 1040, 1226, 1008), (29, 1, 1042, 1043, 1003), (36, 5, 1060, 1061, 1004), (43, 4, 1087, 1088, 1005)]
def xNewL_11_0 : List (Nat × Nat × Nat × Nat × Nat) := [(7, 9, 1030, 1031, 1002), (22, 6, 2102, 2103, 1009), (29, 7, 2132, 2133, 1011), (36, 10, 2172, 2173, 1012)]
def xNewL_13_0 : List (Nat × Nat × Nat × Nat × Nat) := [(7, 11, 1022, 1023, 1001), (10, 12, 5176, 5177, 1013)]
def xNewL (o : Nat) : List (Nat × Nat × Nat × Nat × Nat) := match o with
  | 6 => xNewL_6_0
  | 9 => xNewL_9_0
  | 11 => xNewL_11_0
  | 13 => xNewL_13_0
  | _ => []
def xNewOk (o : Nat) (r : Nat × Nat × Nat × Nat × Nat) : Bool := xWok r.2.2.1 (.classLink (xoN o) r.1 (xCl r.2.1).1) && xWok r.2.2.2.1 (.instantiable (xCl r.2.1).1 (xCl r.2.1).2.2) && xWok r.2.2.2.2 (.initialized (xCl r.2.1).1) && decide (r.2.1 < 13)
theorem xNewL_6_0_ok : xNewL_6_0.all (xNewOk 6) = true := by decide +kernel
theorem xNewL_9_0_ok : xNewL_9_0.all (xNewOk 9) = true := by decide +kernel
theorem xNewL_11_0_ok : xNewL_11_0.all (xNewOk 11) = true := by decide +kernel
theorem xNewL_13_0_ok : xNewL_13_0.all (xNewOk 13) = true := by decide +kernel
theorem xNewL_all (o : Nat) : (xNewL o).all (xNewOk o) = true := by
  by_cases h6 : o = 6
  · subst h6
    show (xNewL_6_0).all (xNewOk 6) = true
    simp only [List.all_append, xNewL_6_0_ok, Bool.and_self]
  by_cases h9 : o = 9
  · subst h9
    show (xNewL_9_0).all (xNewOk 9) = true
    simp only [List.all_append, xNewL_9_0_ok, Bool.and_self]
  by_cases h11 : o = 11
  · subst h11
    show (xNewL_11_0).all (xNewOk 11) = true
    simp only [List.all_append, xNewL_11_0_ok, Bool.and_self]
  by_cases h13 : o = 13
  · subst h13
    show (xNewL_13_0).all (xNewOk 13) = true
    simp only [List.all_append, xNewL_13_0_ok, Bool.and_self]
  have e : xNewL o = [] := by
    unfold xNewL
    split <;> first | rfl | (exfalso; omega)
  rw [e]; rfl
def xNew (o i : Nat) : Option (Nat × Nat × Nat × Nat × Nat) := (xNewL o).find? (fun r => r.1 == i)
theorem xOne_0 : Cond.static Lib.Math.min.name ∈ xWords := xWok_in (n := 3147) (by decide +kernel)
theorem xOne_1 : Cond.initialized "java/lang/Math" ∈ xWords := xWok_in (n := 1019) (by decide +kernel)
theorem xOne_2 : Cond.code Lib.Math.min.name Lib.Math.min.code 2 (some .int) ∈ xWords := xWok_in (n := 3148) (by decide +kernel)
theorem xOne_3 : Cond.static Lib.Math.max.name ∈ xWords := xWok_in (n := 4039) (by decide +kernel)
theorem xOne_4 : Cond.code Lib.Math.max.name Lib.Math.max.code 2 (some .int) ∈ xWords := xWok_in (n := 4040) (by decide +kernel)
theorem xOne_5 : Cond.static Lib.MathLoose.min_long.x ∈ xWords := xWok_in (n := 4047) (by decide +kernel)
theorem xOne_6 : Cond.code Lib.MathLoose.min_long.x Lib.MathLoose.min_long.code 4 (some .long) ∈ xWords := xWok_in (n := 4048) (by decide +kernel)
theorem xOne_7 : Cond.static Lib.MathLoose.max_long.x ∈ xWords := xWok_in (n := 4050) (by decide +kernel)
theorem xOne_8 : Cond.code Lib.MathLoose.max_long.x Lib.MathLoose.max_long.code 4 (some .long) ∈ xWords := xWok_in (n := 4051) (by decide +kernel)
theorem xOne_9 : Cond.native arraycopyName ∈ xWords := xWok_in (n := 5013) (by decide +kernel)
theorem xOne_10 : Cond.static arraycopyName ∈ xWords := xWok_in (n := 5012) (by decide +kernel)
theorem xOne_11 : Cond.initialized "java/lang/System" ∈ xWords := xWok_in (n := 1021) (by decide +kernel)
theorem xOne_12 : Cond.instanceMethod Lib.objectInit ∈ xWords := xWok_in (n := 1028) (by decide +kernel)
theorem xOne_13 : Cond.code Lib.objectInit ⟨#[0xb1]⟩ 1 none ∈ xWords := xWok_in (n := 1029) (by decide +kernel)
theorem xOne_14 : Cond.arrayClass .byte ∈ xWords := xWok_in (n := 3215) (by decide +kernel)
theorem xOne_15 : Cond.arrayClass .int ∈ xWords := xWok_in (n := 1059) (by decide +kernel)
theorem xOne_16 : Cond.arrayClass .long ∈ xWords := xWok_in (n := 6069) (by decide +kernel)
theorem xOne_17 : Cond.arrayClass .boolean ∈ xWords := xWok_in (n := 6070) (by decide +kernel)
/-- what a method makes: cells, slots -/
def xMc (z : Nat) : Nat × Nat := match z with
  | 5 => (2, 24)
  | 6 => (1, 80)
  | 2 => (2, 24)
  | 3 => (5, 88)
  | 4 => (1, 60)
  | 1 => (82, 1577)
  | 9 => (2, 108)
  | 8 => (4, 119)
  | 10 => (4, 1203)
  | 11 => (5, 920)
  | 0 => (290, 10752)
  | 12 => (25, 10009)
  | _ => (0, 0)
