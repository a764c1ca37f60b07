/-! SAFETY of the class's methods, printed by wip/tools/vc.py -/
theorem fX11_within_s {R : xMem} {a0 : Int32} {a1 : Int32} {a2 : Int32} {m : xMem} (hI : IC R m) : vOk (PP m (fun x : Int32 => (0 ≤ x.toInt ∧ x.toInt ≤ 1) ∧ (x.toInt = 0 ∨ ((a1.toInt ≤ a0.toInt ∧ a0.toInt ≤ a2.toInt))))) (fX11_within a0 a1 a2 m) := by
  have ta0 := tiB a0
  have ta1 := tiB a1
  have ta2 := tiB a2
  have c0 : (0 : Int32).toInt = 0 := rfl
  have c1 : (1 : Int32).toInt = 1 := rfl
  unfold fX11_within
  unfold fX11_within_0
  refine vLt (fun h1 => ?_) (fun h2 => ?_)
  · unfold fX11_within_14
    unfold fX11_within_15
    refine vB (by omega) ?_
    refine rP ?_
    first | exact True.intro | omega
  · refine vLt (fun h3 => ?_) (fun h4 => ?_)
    · unfold fX11_within_14
      unfold fX11_within_15
      refine vB (by omega) ?_
      refine rP ?_
      first | exact True.intro | omega
    · unfold fX11_within_15
      refine vB (by omega) ?_
      refine rP ?_
      first | exact True.intro | omega
theorem fX2_build_s {R : xMem} {a0 : Nat} {a1 : Int32} {m : xMem} (ha0 : a0 ∈ pHall) (hI : IC R m) : vOk (IC R) (fX2_build a0 a1 m) := by
  have ta1 := tiB a1
  have cm1 : (-1 : Int32).toInt = -1 := rfl
  have c0 : (0 : Int32).toInt = 0 := rfl
  have c999 : (999 : Int32).toInt = 999 := rfl
  unfold fX2_build
  unfold fX2_build_0
  refine vR fun m1 em1 => ?_
  have hm1 : IC R m1 := by rw [em1]; exact IC_put hI (qHall_ok2 _ ha0)
  refine vR fun m2 em2 => ?_
  have hm2 : IC R m2 := by rw [em2]; exact IC_put hm1 (qHall_ok3 _ ha0)
  refine vR fun m3 em3 => ?_
  have hm3 : IC R m3 := by rw [em3]; exact IC_put hm2 (qHall_ok4 _ ha0)
  refine vR fun m4 em4 => ?_
  have hm4 : IC R m4 := by rw [em4]; exact IC_put hm3 (qHall_ok5 _ ha0)
  refine vR fun m5 em5 => ?_
  have hm5 : IC R m5 := by rw [em5]; exact IC_put hm4 (qHall_ok6 _ ha0)
  refine vR fun m6 em6 => ?_
  have hm6 : IC R m6 := by rw [em6]; exact IC_put hm5 (qHall_ok7 _ ha0)
  refine vR fun m7 em7 => ?_
  have hm7 : IC R m7 := by rw [em7]; exact IC_putB hm6 (qHall_kc8 _ ha0) (by omega)
  refine vOk_bind (Q := IC R) ⟨_, rfl, IC_fill hm7 (qHall_1_inArr _ ha0)⟩ fun m8 hm8 => ?_
  refine vOk_bind (Q := IC R) ⟨_, rfl, IC_fill hm8 (qHall_2_inArr _ ha0)⟩ fun m9 hm9 => ?_
  exact vOk_some hm9
theorem fX9_hasHall_s {R : xMem} {a0 : Nat} {a1 : Int32} {m : xMem} (ha0 : a0 ∈ pStation) (hI : IC R m) : vOk (PP m (fun x : Int32 => (0 ≤ x.toInt ∧ x.toInt ≤ 1) ∧ (x.toInt = 0 ∨ ((0 ≤ a1.toInt ∧ a1.toInt ≤ 5))))) (fX9_hasHall a0 a1 m) := by
  have ta1 := tiB a1
  have c0 : (0 : Int32).toInt = 0 := rfl
  have c1 : (1 : Int32).toInt = 1 := rfl
  have c6 : (6 : Int32).toInt = 6 := rfl
  unfold fX9_hasHall
  unfold fX9_hasHall_0
  refine vLt (fun h1 => ?_) (fun h2 => ?_)
  · unfold fX9_hasHall_22
    unfold fX9_hasHall_23
    refine vB (by omega) ?_
    refine rP ?_
    first | exact True.intro | omega
  · refine vR fun v3 ev3 => ?_
    have fv3 := tiB v3
    refine vLe (fun h4 => ?_) (fun h5 => ?_)
    · unfold fX9_hasHall_22
      unfold fX9_hasHall_23
      refine vB (by omega) ?_
      refine rP ?_
      first | exact True.intro | omega
    · refine vLe (fun h6 => ?_) (fun h7 => ?_)
      · unfold fX9_hasHall_22
        unfold fX9_hasHall_23
        refine vB (by omega) ?_
        refine rP ?_
        first | exact True.intro | omega
      · unfold fX9_hasHall_23
        refine vB (by omega) ?_
        refine rP ?_
        first | exact True.intro | omega
theorem fX11_bar_s {R : xMem} {a0 : Nat} {a1 : Int32} {a2 : Int32} {m : xMem} (ha0 : a0 ∈ pMS) (hI : IC R m) : vOk (PM (IC R) (fun x : Int32 => (0 ≤ x.toInt ∧ x.toInt ≤ 1) ∧ (x.toInt = 0 ∨ ((0 ≤ a1.toInt ∧ a1.toInt ≤ 5) ∧ (0 ≤ a2.toInt ∧ a2.toInt ≤ 999))))) (fX11_bar a0 a1 a2 m) := by
  have ta1 := tiB a1
  have ta2 := tiB a2
  have c0 : (0 : Int32).toInt = 0 := rfl
  have c1 : (1 : Int32).toInt = 1 := rfl
  have c999 : (999 : Int32).toInt = 999 := rfl
  unfold fX11_bar
  unfold fX11_bar_0
  refine vBindP (fX9_hasHall_s (qMS_1_inStation _ ha0) hI) fun v1 ev1 qv1 => ?_
  try dsimp only
  have fv1 := tiB v1
  refine vEq (fun h2 => ?_) (fun h3 => ?_)
  · unfold fX11_bar_22
    refine rM hI ?_
    first | exact True.intro | omega
  · have g4 := qv1.2.resolve_left (by omega)
    refine vBindP (fX11_within_s hI) fun v5 ev5 qv5 => ?_
    try dsimp only
    have fv5 := tiB v5
    refine vNe (fun h6 => ?_) (fun h7 => ?_)
    · have g8 := qv5.2.resolve_left (by omega)
      refine vIn (by omega) (by omega) fun n9 => ?_
      refine vR fun r10 er10 => ?_
      have hr10 : r10 ∈ pHall := by rw [er10]; exact (qMS_1_15_m3_6_inHall _ ha0 _ n9)
      refine vR fun m11 em11 => ?_
      have hm11 : IC R m11 := by rw [em11]; exact IC_put hI (qHall_ok3 _ hr10)
      refine rM hm11 ?_
      first | exact True.intro | omega
    · unfold fX11_bar_22
      refine rM hI ?_
      first | exact True.intro | omega
theorem fX3_build_sT {R : xMem} {a0 : Nat} {a1 : Int32} {a2 : Int32} {a3 : Int32} {a4 : Int32} {a5 : Int32} {m : xMem} (ha0 : a0 ∈ pLinkT) (hI : IC R m) : vOk (IC R) (fX3_build a0 a1 a2 a3 a4 a5 m) := by
  have ta1 := tiB a1
  have ta2 := tiB a2
  have ta3 := tiB a3
  have ta4 := tiB a4
  have ta5 := tiB a5
  have cm1 : (-1 : Int32).toInt = -1 := rfl
  have c0 : (0 : Int32).toInt = 0 := rfl
  have c1 : (1 : Int32).toInt = 1 := rfl
  have c2 : (2 : Int32).toInt = 2 := rfl
  unfold fX3_build
  unfold fX3_build_0
  refine vR fun m1 em1 => ?_
  have hm1 : IC R m1 := by rw [em1]; exact IC_put hI (qLinkT_ok1 _ ha0)
  refine vR fun m2 em2 => ?_
  have hm2 : IC R m2 := by rw [em2]; exact IC_put hm1 (qLinkT_ok2 _ ha0)
  refine vR fun m3 em3 => ?_
  have hm3 : IC R m3 := by rw [em3]; exact IC_put hm2 (qLinkT_ok3 _ ha0)
  refine vR fun m4 em4 => ?_
  have hm4 : IC R m4 := by rw [em4]; exact IC_put hm3 (qLinkT_ok4 _ ha0)
  refine vR fun m5 em5 => ?_
  have hm5 : IC R m5 := by rw [em5]; exact IC_put hm4 (qLinkT_ok5 _ ha0)
  refine vNe (fun h6 => ?_) (fun h7 => ?_)
  · unfold fX3_build_38
    refine vR fun m8 em8 => ?_
    have hm8 : IC R m8 := by rw [em8]; exact IC_put hm5 (qLinkT_ok6 _ ha0)
    refine vAl (xP_eqE em8) ?_
    refine vR fun m9 em9 => ?_
    have hm9 : IC R m9 := by rw [em9]; exact IC_put hm8 (qLinkT_ok7 _ ha0)
    refine vR fun m10 em10 => ?_
    have hm10 : IC R m10 := by rw [em10]; exact IC_put hm9 (qLinkT_ok8 _ ha0)
    refine vR fun m11 em11 => ?_
    have hm11 : IC R m11 := by rw [em11]; exact IC_put hm10 (qLinkT_ok9 _ ha0)
    refine vR fun m12 em12 => ?_
    have hm12 : IC R m12 := by rw [em12]; exact IC_put hm11 (qLinkT_ok10 _ ha0)
    refine vR fun m13 em13 => ?_
    have hm13 : IC R m13 := by rw [em13]; exact IC_put hm12 (qLinkT_ok11 _ ha0)
    refine vR fun m14 em14 => ?_
    have hm14 : IC R m14 := by rw [em14]; exact IC_putB hm13 (qLinkT_kc12 _ ha0) (by omega)
    refine vR fun m15 em15 => ?_
    have hm15 : IC R m15 := by rw [em15]; exact IC_putB hm14 (qLinkT_kc13 _ ha0) (by omega)
    refine vOk_bind (Q := IC R) ⟨_, rfl, IC_fill hm15 (qLinkT_1_inArr _ ha0)⟩ fun m16 hm16 => ?_
    exact vOk_some hm16
  · unfold fX3_build_38
    refine vR fun m17 em17 => ?_
    have hm17 : IC R m17 := by rw [em17]; exact IC_put hm5 (qLinkT_ok6 _ ha0)
    refine vAl (xP_eqE em17) ?_
    refine vR fun m18 em18 => ?_
    have hm18 : IC R m18 := by rw [em18]; exact IC_put hm17 (qLinkT_ok7 _ ha0)
    refine vR fun m19 em19 => ?_
    have hm19 : IC R m19 := by rw [em19]; exact IC_put hm18 (qLinkT_ok8 _ ha0)
    refine vR fun m20 em20 => ?_
    have hm20 : IC R m20 := by rw [em20]; exact IC_put hm19 (qLinkT_ok9 _ ha0)
    refine vR fun m21 em21 => ?_
    have hm21 : IC R m21 := by rw [em21]; exact IC_put hm20 (qLinkT_ok10 _ ha0)
    refine vR fun m22 em22 => ?_
    have hm22 : IC R m22 := by rw [em22]; exact IC_put hm21 (qLinkT_ok11 _ ha0)
    refine vR fun m23 em23 => ?_
    have hm23 : IC R m23 := by rw [em23]; exact IC_putB hm22 (qLinkT_kc12 _ ha0) (by omega)
    refine vR fun m24 em24 => ?_
    have hm24 : IC R m24 := by rw [em24]; exact IC_putB hm23 (qLinkT_kc13 _ ha0) (by omega)
    refine vOk_bind (Q := IC R) ⟨_, rfl, IC_fill hm24 (qLinkT_1_inArr _ ha0)⟩ fun m25 hm25 => ?_
    exact vOk_some hm25
theorem fX9_hasLink_s {R : xMem} {a0 : Nat} {a1 : Int32} {m : xMem} (ha0 : a0 ∈ pStation) (hI : IC R m) : vOk (PP m (fun x : Int32 => (0 ≤ x.toInt ∧ x.toInt ≤ 1) ∧ (x.toInt = 0 ∨ ((0 ≤ a1.toInt ∧ a1.toInt ≤ 9))))) (fX9_hasLink a0 a1 m) := by
  have ta1 := tiB a1
  have c0 : (0 : Int32).toInt = 0 := rfl
  have c1 : (1 : Int32).toInt = 1 := rfl
  have c10 : (10 : Int32).toInt = 10 := rfl
  unfold fX9_hasLink
  unfold fX9_hasLink_0
  refine vLt (fun h1 => ?_) (fun h2 => ?_)
  · unfold fX9_hasLink_22
    unfold fX9_hasLink_23
    refine vB (by omega) ?_
    refine rP ?_
    first | exact True.intro | omega
  · refine vR fun v3 ev3 => ?_
    have fv3 := tiB v3
    refine vLe (fun h4 => ?_) (fun h5 => ?_)
    · unfold fX9_hasLink_22
      unfold fX9_hasLink_23
      refine vB (by omega) ?_
      refine rP ?_
      first | exact True.intro | omega
    · refine vLe (fun h6 => ?_) (fun h7 => ?_)
      · unfold fX9_hasLink_22
        unfold fX9_hasLink_23
        refine vB (by omega) ?_
        refine rP ?_
        first | exact True.intro | omega
      · unfold fX9_hasLink_23
        refine vB (by omega) ?_
        refine rP ?_
        first | exact True.intro | omega
theorem fX9_hasStepped_s {R : xMem} {a0 : Nat} {a1 : Int32} {m : xMem} (ha0 : a0 ∈ pStation) (hI : IC R m) : vOk (PP m (fun x : Int32 => (0 ≤ x.toInt ∧ x.toInt ≤ 1) ∧ (x.toInt = 0 ∨ ((0 ≤ a1.toInt ∧ a1.toInt ≤ 9))))) (fX9_hasStepped a0 a1 m) := by
  have ta1 := tiB a1
  have c0 : (0 : Int32).toInt = 0 := rfl
  have c1 : (1 : Int32).toInt = 1 := rfl
  have c2 : (2 : Int32).toInt = 2 := rfl
  unfold fX9_hasStepped
  unfold fX9_hasStepped_0
  refine vBindP (fX9_hasLink_s ha0 hI) fun v1 ev1 qv1 => ?_
  try dsimp only
  have fv1 := tiB v1
  refine vEq (fun h2 => ?_) (fun h3 => ?_)
  · unfold fX9_hasStepped_25
    unfold fX9_hasStepped_26
    refine vB (by omega) ?_
    refine rP ?_
    first | exact True.intro | omega
  · have g4 := qv1.2.resolve_left (by omega)
    refine vIn (by omega) (by omega) fun n5 => ?_
    refine vR fun r6 er6 => ?_
    have hr6 : r6 ∈ pLink := by rw [er6]; exact (qStation_33_m2_10_inLink _ ha0 _ n5)
    refine vR fun v7 ev7 => ?_
    have fv7 := tiB v7
    refine vEq (fun h8 => ?_) (fun h9 => ?_)
    · unfold fX9_hasStepped_25
      unfold fX9_hasStepped_26
      refine vB (by omega) ?_
      refine rP ?_
      first | exact True.intro | omega
    · unfold fX9_hasStepped_26
      refine vB (by omega) ?_
      refine rP ?_
      first | exact True.intro | omega
theorem fX3_turnTo_s {R : xMem} {a0 : Nat} {a1 : Int32} {m : xMem} (ha0 : a0 ∈ pLink) (hI : IC R m) : vOk (IC R) (fX3_turnTo a0 a1 m) := by
  have ta1 := tiB a1
  have c0 : (0 : Int32).toInt = 0 := rfl
  have c1 : (1 : Int32).toInt = 1 := rfl
  unfold fX3_turnTo
  unfold fX3_turnTo_0
  refine vNe (fun h1 => ?_) (fun h2 => ?_)
  · refine vR fun m3 em3 => ?_
    have hm3 : IC R m3 := by rw [em3]; exact IC_put hI (qLink_ok7 _ ha0)
    refine vR fun v4 ev4 => ?_
    have fv4 := tiB v4
    refine vEq (fun h5 => ?_) (fun h6 => ?_)
    · unfold fX3_turnTo_30
      refine vR fun m7 em7 => ?_
      have hm7 : IC R m7 := by rw [em7]; exact IC_put hm3 (qLink_ok6 _ ha0)
      refine vR fun m8 em8 => ?_
      have hm8 : IC R m8 := by rw [em8]; exact IC_putB hm7 (qLink_kc12 _ ha0) (by omega)
      unfold fX3_turnTo_40
      exact vOk_some hm8
    · refine vR fun v9 ev9 => ?_
      have fv9 := tiB v9
      refine vNe (fun h10 => ?_) (fun h11 => ?_)
      · unfold fX3_turnTo_40
        exact vOk_some hm3
      · unfold fX3_turnTo_30
        refine vR fun m12 em12 => ?_
        have hm12 : IC R m12 := by rw [em12]; exact IC_put hm3 (qLink_ok6 _ ha0)
        refine vR fun m13 em13 => ?_
        have hm13 : IC R m13 := by rw [em13]; exact IC_putB hm12 (qLink_kc12 _ ha0) (by omega)
        unfold fX3_turnTo_40
        exact vOk_some hm13
  · refine vR fun m14 em14 => ?_
    have hm14 : IC R m14 := by rw [em14]; exact IC_putB hI (qLink_kc12 _ ha0) (by omega)
    exact vOk_some hm14
theorem fX11_turn_s {R : xMem} {a0 : Nat} {a1 : Int32} {a2 : Int32} {m : xMem} (ha0 : a0 ∈ pMS) (hI : IC R m) : vOk (PM (IC R) (fun x : Int32 => (0 ≤ x.toInt ∧ x.toInt ≤ 1) ∧ (x.toInt = 0 ∨ ((0 ≤ a1.toInt ∧ a1.toInt ≤ 9) ∧ (0 ≤ a2.toInt ∧ a2.toInt ≤ 2))))) (fX11_turn a0 a1 a2 m) := by
  have ta1 := tiB a1
  have ta2 := tiB a2
  have c0 : (0 : Int32).toInt = 0 := rfl
  have c1 : (1 : Int32).toInt = 1 := rfl
  have c2 : (2 : Int32).toInt = 2 := rfl
  unfold fX11_turn
  unfold fX11_turn_0
  refine vBindP (fX9_hasStepped_s (qMS_1_inStation _ ha0) hI) fun v1 ev1 qv1 => ?_
  try dsimp only
  have fv1 := tiB v1
  refine vEq (fun h2 => ?_) (fun h3 => ?_)
  · unfold fX11_turn_20
    refine rM hI ?_
    first | exact True.intro | omega
  · have g4 := qv1.2.resolve_left (by omega)
    refine vBindP (fX11_within_s hI) fun v5 ev5 qv5 => ?_
    try dsimp only
    have fv5 := tiB v5
    refine vNe (fun h6 => ?_) (fun h7 => ?_)
    · have g8 := qv5.2.resolve_left (by omega)
      refine vIn (by omega) (by omega) fun n9 => ?_
      refine vR fun r10 er10 => ?_
      have hr10 : r10 ∈ pLink := by rw [er10]; exact (qMS_1_33_m2_10_inLink _ ha0 _ n9)
      refine vOk_bind (fX3_turnTo_s hr10 hI) fun m11 hm11 => ?_
      refine rM hm11 ?_
      first | exact True.intro | omega
    · unfold fX11_turn_20
      refine rM hI ?_
      first | exact True.intro | omega
theorem fX9_hasStair_s {R : xMem} {a0 : Nat} {a1 : Int32} {m : xMem} (ha0 : a0 ∈ pStation) (hI : IC R m) : vOk (PP m (fun x : Int32 => (0 ≤ x.toInt ∧ x.toInt ≤ 1) ∧ (x.toInt = 0 ∨ ((0 ≤ a1.toInt ∧ a1.toInt ≤ 9))))) (fX9_hasStair a0 a1 m) := by
  have ta1 := tiB a1
  have c0 : (0 : Int32).toInt = 0 := rfl
  have c1 : (1 : Int32).toInt = 1 := rfl
  unfold fX9_hasStair
  unfold fX9_hasStair_0
  refine vBindP (fX9_hasLink_s ha0 hI) fun v1 ev1 qv1 => ?_
  try dsimp only
  have fv1 := tiB v1
  refine vEq (fun h2 => ?_) (fun h3 => ?_)
  · unfold fX9_hasStair_24
    unfold fX9_hasStair_25
    refine vB (by omega) ?_
    refine rP ?_
    first | exact True.intro | omega
  · have g4 := qv1.2.resolve_left (by omega)
    refine vIn (by omega) (by omega) fun n5 => ?_
    refine vR fun r6 er6 => ?_
    have hr6 : r6 ∈ pLink := by rw [er6]; exact (qStation_33_m2_10_inLink _ ha0 _ n5)
    refine vR fun v7 ev7 => ?_
    have fv7 := tiB v7
    refine vNe (fun h8 => ?_) (fun h9 => ?_)
    · unfold fX9_hasStair_24
      unfold fX9_hasStair_25
      refine vB (by omega) ?_
      refine rP ?_
      first | exact True.intro | omega
    · unfold fX9_hasStair_25
      refine vB (by omega) ?_
      refine rP ?_
      first | exact True.intro | omega
theorem fX11_mode_s {R : xMem} {a0 : Nat} {a1 : Int32} {a2 : Int32} {m : xMem} (ha0 : a0 ∈ pMS) (hI : IC R m) : vOk (PM (IC R) (fun x : Int32 => (0 ≤ x.toInt ∧ x.toInt ≤ 1) ∧ (x.toInt = 0 ∨ ((0 ≤ a1.toInt ∧ a1.toInt ≤ 9) ∧ (0 ≤ a2.toInt ∧ a2.toInt ≤ 1))))) (fX11_mode a0 a1 a2 m) := by
  have ta1 := tiB a1
  have ta2 := tiB a2
  have c0 : (0 : Int32).toInt = 0 := rfl
  have c1 : (1 : Int32).toInt = 1 := rfl
  unfold fX11_mode
  unfold fX11_mode_0
  refine vBindP (fX9_hasStair_s (qMS_1_inStation _ ha0) hI) fun v1 ev1 qv1 => ?_
  try dsimp only
  have fv1 := tiB v1
  refine vEq (fun h2 => ?_) (fun h3 => ?_)
  · unfold fX11_mode_20
    refine rM hI ?_
    first | exact True.intro | omega
  · have g4 := qv1.2.resolve_left (by omega)
    refine vBindP (fX11_within_s hI) fun v5 ev5 qv5 => ?_
    try dsimp only
    have fv5 := tiB v5
    refine vNe (fun h6 => ?_) (fun h7 => ?_)
    · have g8 := qv5.2.resolve_left (by omega)
      refine vIn (by omega) (by omega) fun n9 => ?_
      refine vR fun r10 er10 => ?_
      have hr10 : r10 ∈ pLink := by rw [er10]; exact (qMS_1_33_m2_10_inLink _ ha0 _ n9)
      refine vR fun m11 em11 => ?_
      have hm11 : IC R m11 := by rw [em11]; exact IC_put hI (qLink_ok8 _ hr10)
      refine rM hm11 ?_
      first | exact True.intro | omega
    · unfold fX11_mode_20
      refine rM hI ?_
      first | exact True.intro | omega
theorem fX11_reset_s {R : xMem} {a0 : Nat} {a1 : Int32} {m : xMem} (ha0 : a0 ∈ pMS) (hI : IC R m) : vOk (PM (IC R) (fun x : Int32 => (0 ≤ x.toInt ∧ x.toInt ≤ 1) ∧ (x.toInt = 0 ∨ ((0 ≤ a1.toInt ∧ a1.toInt ≤ 9))))) (fX11_reset a0 a1 m) := by
  have ta1 := tiB a1
  have c0 : (0 : Int32).toInt = 0 := rfl
  have c1 : (1 : Int32).toInt = 1 := rfl
  unfold fX11_reset
  unfold fX11_reset_0
  refine vBindP (fX9_hasLink_s (qMS_1_inStation _ ha0) hI) fun v1 ev1 qv1 => ?_
  try dsimp only
  have fv1 := tiB v1
  refine vEq (fun h2 => ?_) (fun h3 => ?_)
  · unfold fX11_reset_26
    refine rM hI ?_
    first | exact True.intro | omega
  · have g4 := qv1.2.resolve_left (by omega)
    refine vIn (by omega) (by omega) fun n5 => ?_
    refine vR fun r6 er6 => ?_
    have hr6 : r6 ∈ pLink := by rw [er6]; exact (qMS_1_33_m2_10_inLink _ ha0 _ n5)
    refine vR fun v7 ev7 => ?_
    have fv7 : 0 ≤ v7.toInt ∧ v7.toInt ≤ 1 := by rw [ev7]; exact IC.bc hI _ _ (qLink_bc13 _ hr6)
    refine vNe (fun h8 => ?_) (fun h9 => ?_)
    · refine vIn (by omega) (by omega) fun n10 => ?_
      refine vR fun r11 er11 => ?_
      have hr11 : r11 ∈ pLink := by rw [er11]; exact (qMS_1_33_m2_10_inLink _ ha0 _ n10)
      refine vR fun m12 em12 => ?_
      have hm12 : IC R m12 := by rw [em12]; exact IC_putB hI (qLink_kc13 _ hr11) (by omega)
      refine rM hm12 ?_
      first | exact True.intro | omega
    · unfold fX11_reset_26
      refine rM hI ?_
      first | exact True.intro | omega
theorem fX7_hasRoomFor_s {R : xMem} {a0 : Nat} {a1 : Int32} {m : xMem} (ha0 : a0 ∈ pReader) (hI : IC R m) : vOk (PP m (fun x : Int32 => (0 ≤ x.toInt ∧ x.toInt ≤ 1))) (fX7_hasRoomFor a0 a1 m) := by
  have ta1 := tiB a1
  have c0 : (0 : Int32).toInt = 0 := rfl
  have c1 : (1 : Int32).toInt = 1 := rfl
  have c300 : (300 : Int32).toInt = 300 := rfl
  unfold fX7_hasRoomFor
  unfold fX7_hasRoomFor_0
  refine vR fun v1 ev1 => ?_
  have fv1 := tiB v1
  refine vI fun v2 ev2 fv2 => ?_
  refine vLt (fun h3 => ?_) (fun h4 => ?_)
  · unfold fX7_hasRoomFor_17
    refine vB (by omega) ?_
    refine rP ?_
    first | exact True.intro | omega
  · unfold fX7_hasRoomFor_17
    refine vB (by omega) ?_
    refine rP ?_
    first | exact True.intro | omega
theorem fX7_kind_s {R : xMem} {a0 : Nat} {m : xMem} (ha0 : a0 ∈ pReader) (hI : IC R m) : vOk (PP m (fun _ : Int32 => True)) (fX7_kind a0 m) := by
  have c0 : (0 : Int32).toInt = 0 := rfl
  have c301 : (301 : Int32).toInt = 301 := rfl
  unfold fX7_kind
  unfold fX7_kind_0
  refine vR fun v1 ev1 => ?_
  have fv1 := tiB v1
  refine vLt (fun h2 => ?_) (fun h3 => ?_)
  · unfold fX7_kind_42
    unfold fX7_kind_43
    refine rP ?_
    first | exact True.intro | omega
  · refine vAl (ev1) ?_
    refine vR fun v4 ev4 => ?_
    have fv4 := tiB v4
    refine vLe (fun h5 => ?_) (fun h6 => ?_)
    · unfold fX7_kind_42
      unfold fX7_kind_43
      refine rP ?_
      first | exact True.intro | omega
    · refine vAl (ev1) ?_
      refine vLe (fun h7 => ?_) (fun h8 => ?_)
      · unfold fX7_kind_42
        unfold fX7_kind_43
        refine rP ?_
        first | exact True.intro | omega
      · refine vAl (ev1) ?_
        refine vIn (by omega) (by omega) fun n9 => ?_
        refine vR fun v10 ev10 => ?_
        have fv10 := tiB v10
        unfold fX7_kind_43
        refine rP ?_
        first | exact True.intro | omega
theorem fX10_has_2_s {R : xMem} {a0 : Nat} {a1 : Int32} {m : xMem} (ha0 : a0 ∈ pText) (hI : IC R m) : ∀ (fuel : Nat), ∀ (l2 : Int32), ((0 ≤ l2.toInt ∧ l2.toInt ≤ 10)) → 2147483648 - l2.toInt < (fuel : Int) → vOk (PP m (fun x : Int32 => (0 ≤ x.toInt ∧ x.toInt ≤ 1))) (fX10_has_2 a0 a1 fuel l2 m) := by
  intro fuel
  induction fuel with
  | zero =>
    intro l2 hp hmu
    have ta1 := tiB a1
    have tl2 := tiB l2
    exfalso; omega
  | succ fuel ih =>
    intro l2 hp hmu
    have ta1 := tiB a1
    have tl2 := tiB l2
    have c0 : (0 : Int32).toInt = 0 := rfl
    have c1 : (1 : Int32).toInt = 1 := rfl
    have c10 : (10 : Int32).toInt = 10 := rfl
    rw [fX10_has_2]
    refine vR fun v1 ev1 => ?_
    have fv1 := tiB v1
    refine vLe (fun h2 => ?_) (fun h3 => ?_)
    · unfold fX10_has_37
      refine rP ?_
      first | exact True.intro | omega
    · refine vLe (fun h4 => ?_) (fun h5 => ?_)
      · unfold fX10_has_37
        refine rP ?_
        first | exact True.intro | omega
      · refine vIn (by omega) (by omega) fun n6 => ?_
        refine vR fun v7 ev7 => ?_
        have fv7 := tiB v7
        refine vNe (fun h8 => ?_) (fun h9 => ?_)
        · refine vA (by omega) fun v10 ev10 fv10 => ?_
          exact ih _ (by omega) (by omega)
        · refine rP ?_
          first | exact True.intro | omega
theorem fX10_has_s {R : xMem} {a0 : Nat} {a1 : Int32} {m : xMem} (ha0 : a0 ∈ pText) (hI : IC R m) : vOk (PP m (fun x : Int32 => (0 ≤ x.toInt ∧ x.toInt ≤ 1))) (fX10_has a0 a1 m) := by
  have ta1 := tiB a1
  have c0 : (0 : Int32).toInt = 0 := rfl
  unfold fX10_has
  unfold fX10_has_0
  have cF := xFu
  exact fX10_has_2_s ha0 hI _ _ (by omega) (by omega)
theorem fX10_open_s {R : xMem} {a0 : Nat} {a1 : Int32} {m : xMem} (ha0 : a0 ∈ pText) (hI : IC R m) : vOk (IC R) (fX10_open a0 a1 m) := by
  have ta1 := tiB a1
  have c0 : (0 : Int32).toInt = 0 := rfl
  have c1 : (1 : Int32).toInt = 1 := rfl
  have c10 : (10 : Int32).toInt = 10 := rfl
  unfold fX10_open
  unfold fX10_open_0
  refine vR fun v1 ev1 => ?_
  have fv1 := tiB v1
  refine vLt (fun h2 => ?_) (fun h3 => ?_)
  · unfold fX10_open_39
    exact vOk_some hI
  · refine vAl (ev1) ?_
    refine vLe (fun h4 => ?_) (fun h5 => ?_)
    · unfold fX10_open_39
      exact vOk_some hI
    · refine vAl (ev1) ?_
      refine vIn (by omega) (by omega) fun n6 => ?_
      refine vR fun m7 em7 => ?_
      have hm7 : IC R m7 := by rw [em7]; exact IC_arr hI (qText_3_inArr _ ha0)
      refine vAl ((ev1).trans (xP_plE em7 (by omega))) ?_
      refine vA (by omega) fun v8 ev8 fv8 => ?_
      refine vR fun m9 em9 => ?_
      have hm9 : IC R m9 := by rw [em9]; exact IC_put hm7 (qText_ok6 _ ha0)
      unfold fX10_open_39
      exact vOk_some hm9
theorem fX10_add_s {R : xMem} {a0 : Nat} {a1 : Int32} {a2 : Int32} {m : xMem} (ha0 : a0 ∈ pText) (hI : IC R m) : vOk (IC R) (fX10_add a0 a1 a2 m) := by
  have ta1 := tiB a1
  have ta2 := tiB a2
  have c0 : (0 : Int32).toInt = 0 := rfl
  have c1 : (1 : Int32).toInt = 1 := rfl
  have c300 : (300 : Int32).toInt = 300 := rfl
  unfold fX10_add
  unfold fX10_add_0
  refine vR fun v1 ev1 => ?_
  have fv1 := tiB v1
  refine vLt (fun h2 => ?_) (fun h3 => ?_)
  · unfold fX10_add_49
    exact vOk_some hI
  · refine vAl (ev1) ?_
    refine vLe (fun h4 => ?_) (fun h5 => ?_)
    · unfold fX10_add_49
      exact vOk_some hI
    · refine vAl (ev1) ?_
      refine vIn (by omega) (by omega) fun n6 => ?_
      refine vR fun m7 em7 => ?_
      have hm7 : IC R m7 := by rw [em7]; exact IC_arr hI (qText_1_inArr _ ha0)
      refine vAl ((ev1).trans (xP_plE em7 (by omega))) ?_
      refine vIn (by omega) (by omega) fun n8 => ?_
      refine vR fun m9 em9 => ?_
      have hm9 : IC R m9 := by rw [em9]; exact IC_arr hm7 (qText_2_inArr _ ha0)
      refine vAl (((ev1).trans (xP_plE em7 (by omega))).trans (xP_plE em9 (by omega))) ?_
      refine vA (by omega) fun v10 ev10 fv10 => ?_
      refine vR fun m11 em11 => ?_
      have hm11 : IC R m11 := by rw [em11]; exact IC_put hm9 (qText_ok5 _ ha0)
      unfold fX10_add_49
      exact vOk_some hm11
theorem fX7_value_s {R : xMem} {a0 : Nat} {m : xMem} (ha0 : a0 ∈ pReader) (hI : IC R m) : vOk (PP m (fun _ : Int32 => True)) (fX7_value a0 m) := by
  have c0 : (0 : Int32).toInt = 0 := rfl
  have c301 : (301 : Int32).toInt = 301 := rfl
  unfold fX7_value
  unfold fX7_value_0
  refine vR fun v1 ev1 => ?_
  have fv1 := tiB v1
  refine vLt (fun h2 => ?_) (fun h3 => ?_)
  · unfold fX7_value_42
    unfold fX7_value_43
    refine rP ?_
    first | exact True.intro | omega
  · refine vAl (ev1) ?_
    refine vR fun v4 ev4 => ?_
    have fv4 := tiB v4
    refine vLe (fun h5 => ?_) (fun h6 => ?_)
    · unfold fX7_value_42
      unfold fX7_value_43
      refine rP ?_
      first | exact True.intro | omega
    · refine vAl (ev1) ?_
      refine vLe (fun h7 => ?_) (fun h8 => ?_)
      · unfold fX7_value_42
        unfold fX7_value_43
        refine rP ?_
        first | exact True.intro | omega
      · refine vAl (ev1) ?_
        refine vIn (by omega) (by omega) fun n9 => ?_
        refine vR fun v10 ev10 => ?_
        have fv10 := tiB v10
        unfold fX7_value_43
        refine rP ?_
        first | exact True.intro | omega
theorem fX10_close_s {R : xMem} {a0 : Nat} {m : xMem} (ha0 : a0 ∈ pText) (hI : IC R m) : vOk (IC R) (fX10_close a0 m) := by
  have c0 : (0 : Int32).toInt = 0 := rfl
  have c1 : (1 : Int32).toInt = 1 := rfl
  have c10 : (10 : Int32).toInt = 10 := rfl
  unfold fX10_close
  unfold fX10_close_0
  refine vR fun v1 ev1 => ?_
  have fv1 := tiB v1
  refine vLe (fun h2 => ?_) (fun h3 => ?_)
  · unfold fX10_close_34
    exact vOk_some hI
  · refine vAl (ev1) ?_
    refine vLt (fun h4 => ?_) (fun h5 => ?_)
    · unfold fX10_close_34
      exact vOk_some hI
    · refine vAl (ev1) ?_
      refine vS (by omega) fun v6 ev6 fv6 => ?_
      refine vR fun v7 ev7 => ?_
      have fv7 := tiB v7
      refine vIn (by omega) (by omega) fun n8 => ?_
      refine vR fun m9 em9 => ?_
      have hm9 : IC R m9 := by rw [em9]; exact IC_arr hI (qText_4_inArr _ ha0)
      unfold fX10_close_34
      exact vOk_some hm9
theorem fX7_addToken_s {R : xMem} {a0 : Nat} {a1 : Int32} {a2 : Int32} {a3 : Int32} {m : xMem} (ha0 : a0 ∈ pReader) (hI : IC R m) : vOk (IC R) (fX7_addToken a0 a1 a2 a3 m) := by
  have ta1 := tiB a1
  have ta2 := tiB a2
  have ta3 := tiB a3
  have c0 : (0 : Int32).toInt = 0 := rfl
  have c1 : (1 : Int32).toInt = 1 := rfl
  have c301 : (301 : Int32).toInt = 301 := rfl
  unfold fX7_addToken
  unfold fX7_addToken_0
  refine vR fun v1 ev1 => ?_
  have fv1 := tiB v1
  refine vLt (fun h2 => ?_) (fun h3 => ?_)
  · unfold fX7_addToken_59
    exact vOk_some hI
  · refine vAl (ev1) ?_
    refine vLe (fun h4 => ?_) (fun h5 => ?_)
    · unfold fX7_addToken_59
      exact vOk_some hI
    · refine vAl (ev1) ?_
      refine vIn (by omega) (by omega) fun n6 => ?_
      refine vR fun m7 em7 => ?_
      have hm7 : IC R m7 := by rw [em7]; exact IC_arr hI (qReader_2_inArr _ ha0)
      refine vAl ((ev1).trans (xP_plE em7 (by omega))) ?_
      refine vIn (by omega) (by omega) fun n8 => ?_
      refine vR fun m9 em9 => ?_
      have hm9 : IC R m9 := by rw [em9]; exact IC_arr hm7 (qReader_3_inArr _ ha0)
      refine vAl (((ev1).trans (xP_plE em7 (by omega))).trans (xP_plE em9 (by omega))) ?_
      refine vIn (by omega) (by omega) fun n10 => ?_
      refine vR fun m11 em11 => ?_
      have hm11 : IC R m11 := by rw [em11]; exact IC_arr hm9 (qReader_4_inArr _ ha0)
      refine vAl ((((ev1).trans (xP_plE em7 (by omega))).trans (xP_plE em9 (by omega))).trans (xP_plE em11 (by omega))) ?_
      refine vA (by omega) fun v12 ev12 fv12 => ?_
      refine vR fun m13 em13 => ?_
      have hm13 : IC R m13 := by rw [em13]; exact IC_put hm11 (qReader_ok7 _ ha0)
      unfold fX7_addToken_59
      exact vOk_some hm13
theorem fX7_isDigit_s {R : xMem} {a0 : Int32} {m : xMem} (hI : IC R m) : vOk (PP m (fun x : Int32 => (0 ≤ x.toInt ∧ x.toInt ≤ 1) ∧ (x.toInt = 0 ∨ ((48 ≤ a0.toInt ∧ a0.toInt ≤ 57))))) (fX7_isDigit a0 m) := by
  have ta0 := tiB a0
  have c0 : (0 : Int32).toInt = 0 := rfl
  have c1 : (1 : Int32).toInt = 1 := rfl
  have c48 : (48 : Int32).toInt = 48 := rfl
  have c57 : (57 : Int32).toInt = 57 := rfl
  unfold fX7_isDigit
  unfold fX7_isDigit_0
  refine vLt (fun h1 => ?_) (fun h2 => ?_)
  · unfold fX7_isDigit_16
    unfold fX7_isDigit_17
    refine vB (by omega) ?_
    refine rP ?_
    first | exact True.intro | omega
  · refine vLt (fun h3 => ?_) (fun h4 => ?_)
    · unfold fX7_isDigit_16
      unfold fX7_isDigit_17
      refine vB (by omega) ?_
      refine rP ?_
      first | exact True.intro | omega
    · unfold fX7_isDigit_17
      refine vB (by omega) ?_
      refine rP ?_
      first | exact True.intro | omega
theorem fX7_signOf_s {R : xMem} {a0 : Int32} {m : xMem} (hI : IC R m) : vOk (PP m (fun x : Int32 => (1 ≤ x.toInt ∧ x.toInt ≤ 15))) (fX7_signOf a0 m) := by
  have ta0 := tiB a0
  have c1 : (1 : Int32).toInt = 1 := rfl
  have c3 : (3 : Int32).toInt = 3 := rfl
  have c5 : (5 : Int32).toInt = 5 := rfl
  have c7 : (7 : Int32).toInt = 7 := rfl
  have c8 : (8 : Int32).toInt = 8 := rfl
  have c9 : (9 : Int32).toInt = 9 := rfl
  have c10 : (10 : Int32).toInt = 10 := rfl
  have c11 : (11 : Int32).toInt = 11 := rfl
  have c12 : (12 : Int32).toInt = 12 := rfl
  have c13 : (13 : Int32).toInt = 13 := rfl
  have c14 : (14 : Int32).toInt = 14 := rfl
  have c15 : (15 : Int32).toInt = 15 := rfl
  have c35 : (35 : Int32).toInt = 35 := rfl
  have c36 : (36 : Int32).toInt = 36 := rfl
  have c37 : (37 : Int32).toInt = 37 := rfl
  have c38 : (38 : Int32).toInt = 38 := rfl
  have c39 : (39 : Int32).toInt = 39 := rfl
  have c40 : (40 : Int32).toInt = 40 := rfl
  have c41 : (41 : Int32).toInt = 41 := rfl
  have c42 : (42 : Int32).toInt = 42 := rfl
  have c43 : (43 : Int32).toInt = 43 := rfl
  have c44 : (44 : Int32).toInt = 44 := rfl
  have c45 : (45 : Int32).toInt = 45 := rfl
  have c46 : (46 : Int32).toInt = 46 := rfl
  have c47 : (47 : Int32).toInt = 47 := rfl
  have c48 : (48 : Int32).toInt = 48 := rfl
  have c49 : (49 : Int32).toInt = 49 := rfl
  have c50 : (50 : Int32).toInt = 50 := rfl
  have c51 : (51 : Int32).toInt = 51 := rfl
  have c52 : (52 : Int32).toInt = 52 := rfl
  have c53 : (53 : Int32).toInt = 53 := rfl
  have c54 : (54 : Int32).toInt = 54 := rfl
  have c55 : (55 : Int32).toInt = 55 := rfl
  have c56 : (56 : Int32).toInt = 56 := rfl
  have c57 : (57 : Int32).toInt = 57 := rfl
  have c58 : (58 : Int32).toInt = 58 := rfl
  have c59 : (59 : Int32).toInt = 59 := rfl
  have c60 : (60 : Int32).toInt = 60 := rfl
  have c61 : (61 : Int32).toInt = 61 := rfl
  have c62 : (62 : Int32).toInt = 62 := rfl
  unfold fX7_signOf
  unfold fX7_signOf_0
  refine vEq (fun h1 => ?_) (fun h2 => ?_)
  · refine rP ?_
    first | exact True.intro | omega
  · refine vEq (fun h3 => ?_) (fun h4 => ?_)
    · refine rP ?_
      first | exact True.intro | omega
    · refine vEq (fun h5 => ?_) (fun h6 => ?_)
      · refine rP ?_
        first | exact True.intro | omega
      · refine vEq (fun h7 => ?_) (fun h8 => ?_)
        · refine rP ?_
          first | exact True.intro | omega
        · refine vEq (fun h9 => ?_) (fun h10 => ?_)
          · refine rP ?_
            first | exact True.intro | omega
          · refine vEq (fun h11 => ?_) (fun h12 => ?_)
            · refine rP ?_
              first | exact True.intro | omega
            · refine vEq (fun h13 => ?_) (fun h14 => ?_)
              · refine rP ?_
                first | exact True.intro | omega
              · refine vEq (fun h15 => ?_) (fun h16 => ?_)
                · refine rP ?_
                  first | exact True.intro | omega
                · refine vEq (fun h17 => ?_) (fun h18 => ?_)
                  · refine rP ?_
                    first | exact True.intro | omega
                  · refine vEq (fun h19 => ?_) (fun h20 => ?_)
                    · refine rP ?_
                      first | exact True.intro | omega
                    · refine vEq (fun h21 => ?_) (fun h22 => ?_)
                      · refine rP ?_
                        first | exact True.intro | omega
                      · refine vEq (fun h23 => ?_) (fun h24 => ?_)
                        · refine rP ?_
                          first | exact True.intro | omega
                        · refine vEq (fun h25 => ?_) (fun h26 => ?_)
                          · refine rP ?_
                            first | exact True.intro | omega
                          · refine vEq (fun h27 => ?_) (fun h28 => ?_)
                            · refine rP ?_
                              first | exact True.intro | omega
                            · refine vEq (fun h29 => ?_) (fun h30 => ?_)
                              · refine rP ?_
                                first | exact True.intro | omega
                              · refine vEq (fun h31 => ?_) (fun h32 => ?_)
                                · refine rP ?_
                                  first | exact True.intro | omega
                                · refine vEq (fun h33 => ?_) (fun h34 => ?_)
                                  · refine rP ?_
                                    first | exact True.intro | omega
                                  · refine vEq (fun h35 => ?_) (fun h36 => ?_)
                                    · refine rP ?_
                                      first | exact True.intro | omega
                                    · refine vEq (fun h37 => ?_) (fun h38 => ?_)
                                      · refine rP ?_
                                        first | exact True.intro | omega
                                      · refine vEq (fun h39 => ?_) (fun h40 => ?_)
                                        · refine rP ?_
                                          first | exact True.intro | omega
                                        · refine vEq (fun h41 => ?_) (fun h42 => ?_)
                                          · refine rP ?_
                                            first | exact True.intro | omega
                                          · refine vEq (fun h43 => ?_) (fun h44 => ?_)
                                            · refine rP ?_
                                              first | exact True.intro | omega
                                            · refine vEq (fun h45 => ?_) (fun h46 => ?_)
                                              · refine rP ?_
                                                first | exact True.intro | omega
                                              · refine vEq (fun h47 => ?_) (fun h48 => ?_)
                                                · refine rP ?_
                                                  first | exact True.intro | omega
                                                · refine vEq (fun h49 => ?_) (fun h50 => ?_)
                                                  · refine rP ?_
                                                    first | exact True.intro | omega
                                                  · refine vEq (fun h51 => ?_) (fun h52 => ?_)
                                                    · refine rP ?_
                                                      first | exact True.intro | omega
                                                    · refine vEq (fun h53 => ?_) (fun h54 => ?_)
                                                      · refine rP ?_
                                                        first | exact True.intro | omega
                                                      · refine vEq (fun h55 => ?_) (fun h56 => ?_)
                                                        · refine rP ?_
                                                          first | exact True.intro | omega
                                                        · refine rP ?_
                                                          first | exact True.intro | omega
theorem fX7_byteAt_s {R : xMem} {a0 : Nat} {a1 : Int32} {m : xMem} (ha0 : a0 ∈ pReader) (hI : IC R m) : vOk (PP m (fun x : Int32 => (x.toInt = -1 ∨ ((0 ≤ a1.toInt ∧ a1.toInt ≤ 299))))) (fX7_byteAt a0 a1 m) := by
  have ta1 := tiB a1
  have cm1 : (-1 : Int32).toInt = -1 := rfl
  have c0 : (0 : Int32).toInt = 0 := rfl
  have c300 : (300 : Int32).toInt = 300 := rfl
  unfold fX7_byteAt
  unfold fX7_byteAt_0
  refine vLt (fun h1 => ?_) (fun h2 => ?_)
  · unfold fX7_byteAt_30
    unfold fX7_byteAt_31
    refine rP ?_
    first | exact True.intro | omega
  · refine vR fun v3 ev3 => ?_
    have fv3 := tiB v3
    refine vLe (fun h4 => ?_) (fun h5 => ?_)
    · unfold fX7_byteAt_30
      unfold fX7_byteAt_31
      refine rP ?_
      first | exact True.intro | omega
    · refine vLe (fun h6 => ?_) (fun h7 => ?_)
      · unfold fX7_byteAt_30
        unfold fX7_byteAt_31
        refine rP ?_
        first | exact True.intro | omega
      · refine vIn (by omega) (by omega) fun n8 => ?_
        refine vR fun v9 ev9 => ?_
        have fv9 := tiB v9
        unfold fX7_byteAt_31
        refine rP ?_
        first | exact True.intro | omega
theorem fX7_isLetter_s {R : xMem} {a0 : Int32} {m : xMem} (hI : IC R m) : vOk (PP m (fun x : Int32 => (0 ≤ x.toInt ∧ x.toInt ≤ 1) ∧ (x.toInt = 0 ∨ ((65 ≤ a0.toInt ∧ a0.toInt ≤ 122))))) (fX7_isLetter a0 m) := by
  have ta0 := tiB a0
  have c0 : (0 : Int32).toInt = 0 := rfl
  have c1 : (1 : Int32).toInt = 1 := rfl
  have c65 : (65 : Int32).toInt = 65 := rfl
  have c90 : (90 : Int32).toInt = 90 := rfl
  have c97 : (97 : Int32).toInt = 97 := rfl
  have c122 : (122 : Int32).toInt = 122 := rfl
  unfold fX7_isLetter
  unfold fX7_isLetter_0
  refine vLt (fun h1 => ?_) (fun h2 => ?_)
  · unfold fX7_isLetter_12
    refine vLt (fun h3 => ?_) (fun h4 => ?_)
    · unfold fX7_isLetter_28
      unfold fX7_isLetter_29
      refine vB (by omega) ?_
      refine rP ?_
      first | exact True.intro | omega
    · refine vLt (fun h5 => ?_) (fun h6 => ?_)
      · unfold fX7_isLetter_28
        unfold fX7_isLetter_29
        refine vB (by omega) ?_
        refine rP ?_
        first | exact True.intro | omega
      · unfold fX7_isLetter_24
        unfold fX7_isLetter_29
        refine vB (by omega) ?_
        refine rP ?_
        first | exact True.intro | omega
  · refine vLe (fun h7 => ?_) (fun h8 => ?_)
    · unfold fX7_isLetter_24
      unfold fX7_isLetter_29
      refine vB (by omega) ?_
      refine rP ?_
      first | exact True.intro | omega
    · unfold fX7_isLetter_12
      refine vLt (fun h9 => ?_) (fun h10 => ?_)
      · exfalso; omega
      · refine vLt (fun h11 => ?_) (fun h12 => ?_)
        · unfold fX7_isLetter_28
          unfold fX7_isLetter_29
          refine vB (by omega) ?_
          refine rP ?_
          first | exact True.intro | omega
        · exfalso; omega
theorem fX7_isWord_29_s {R : xMem} {a0 : Nat} {a1 : Int32} {a2 : Int32} {a3 : Int32} {a4 : Int32} {m : xMem} (ha0 : a0 ∈ pReader) (hI : IC R m) : ∀ (fuel : Nat), ∀ (l5 : Int32), ((0 ≤ a3.toInt ∧ a3.toInt ≤ 2147483647) ∧ (-2147483648 ≤ a4.toInt ∧ a4.toInt ≤ 73) ∧ (0 ≤ l5.toInt ∧ l5.toInt ≤ 2147483647)) → 2147483648 - l5.toInt < (fuel : Int) → vOk (PP m (fun x : Int32 => (0 ≤ x.toInt ∧ x.toInt ≤ 1) ∧ (x.toInt = 0 ∨ ((0 ≤ a3.toInt ∧ a3.toInt ≤ 2147483647) ∧ (-2147483648 ≤ a4.toInt ∧ a4.toInt ≤ 73))))) (fX7_isWord_29 a0 a1 a2 a3 a4 fuel l5 m) := by
  intro fuel
  induction fuel with
  | zero =>
    intro l5 hp hmu
    have ta1 := tiB a1
    have ta2 := tiB a2
    have ta3 := tiB a3
    have ta4 := tiB a4
    have tl5 := tiB l5
    exfalso; omega
  | succ fuel ih =>
    intro l5 hp hmu
    have ta1 := tiB a1
    have ta2 := tiB a2
    have ta3 := tiB a3
    have ta4 := tiB a4
    have tl5 := tiB l5
    have c0 : (0 : Int32).toInt = 0 := rfl
    have c1 : (1 : Int32).toInt = 1 := rfl
    rw [fX7_isWord_29]
    refine vLe (fun h1 => ?_) (fun h2 => ?_)
    · refine rP ?_
      first | exact True.intro | omega
    · refine vIn (by omega) (by omega) fun n3 => ?_
      refine vI fun v4 ev4 fv4 => ?_
      refine vI fun v5 ev5 fv5 => ?_
      refine vI fun v6 ev6 fv6 => ?_
      refine vBindP (fX7_byteAt_s ha0 hI) fun v7 ev7 qv7 => ?_
      try dsimp only
      have fv7 := tiB v7
      refine vEq (fun h8 => ?_) (fun h9 => ?_)
      · refine vA (by omega) fun v10 ev10 fv10 => ?_
        exact ih _ (by omega) (by omega)
      · refine rP ?_
        first | exact True.intro | omega
theorem fX7_isWord_s {R : xMem} {a0 : Nat} {a1 : Int32} {a2 : Int32} {a3 : Int32} {a4 : Int32} {m : xMem} (ha0 : a0 ∈ pReader) (hI : IC R m) : vOk (PP m (fun x : Int32 => (0 ≤ x.toInt ∧ x.toInt ≤ 1) ∧ (x.toInt = 0 ∨ ((0 ≤ a3.toInt ∧ a3.toInt ≤ 2147483647) ∧ (-2147483648 ≤ a4.toInt ∧ a4.toInt ≤ 73))))) (fX7_isWord a0 a1 a2 a3 a4 m) := by
  have ta1 := tiB a1
  have ta2 := tiB a2
  have ta3 := tiB a3
  have ta4 := tiB a4
  have c0 : (0 : Int32).toInt = 0 := rfl
  have c73 : (73 : Int32).toInt = 73 := rfl
  unfold fX7_isWord
  unfold fX7_isWord_0
  refine vI fun v1 ev1 fv1 => ?_
  refine vI fun v2 ev2 fv2 => ?_
  refine vNe (fun h3 => ?_) (fun h4 => ?_)
  · unfold fX7_isWord_24
    refine rP ?_
    first | exact True.intro | omega
  · refine vLt (fun h5 => ?_) (fun h6 => ?_)
    · unfold fX7_isWord_24
      refine rP ?_
      first | exact True.intro | omega
    · refine vLe (fun h7 => ?_) (fun h8 => ?_)
      · have cF := xFu
        exact fX7_isWord_29_s ha0 hI _ _ (by omega) (by omega)
      · unfold fX7_isWord_24
        refine rP ?_
        first | exact True.intro | omega
theorem fX7_addWord_9_s {R : xMem} {a0 : Nat} {a1 : Int32} {a2 : Int32} (ha0 : a0 ∈ pReader) : ∀ (fuel : Nat), ∀ (l3 : Int32) (l4 : Int32) (l5 : Int32) (m : xMem), ((0 ≤ l4.toInt ∧ l4.toInt ≤ 73) ∧ (0 ≤ l5.toInt ∧ l5.toInt ≤ 73)) → IC R m → 2147483648 - l5.toInt < (fuel : Int) → vOk (IC R) (fX7_addWord_9 a0 a1 a2 fuel l3 l4 l5 m) := by
  intro fuel
  induction fuel with
  | zero =>
    intro l3 l4 l5 m hp hI hmu
    have ta1 := tiB a1
    have ta2 := tiB a2
    have tl3 := tiB l3
    have tl4 := tiB l4
    have tl5 := tiB l5
    exfalso; omega
  | succ fuel ih =>
    intro l3 l4 l5 m hp hI hmu
    have ta1 := tiB a1
    have ta2 := tiB a2
    have tl3 := tiB l3
    have tl4 := tiB l4
    have tl5 := tiB l5
    have c0 : (0 : Int32).toInt = 0 := rfl
    have c1 : (1 : Int32).toInt = 1 := rfl
    have c26 : (26 : Int32).toInt = 26 := rfl
    have c32 : (32 : Int32).toInt = 32 := rfl
    have c73 : (73 : Int32).toInt = 73 := rfl
    rw [fX7_addWord_9]
    refine vLe (fun h1 => ?_) (fun h2 => ?_)
    · refine vOk_bind (fX7_addToken_s ha0 hI) fun m3 hm3 => ?_
      exact vOk_some hm3
    · refine vIn (by omega) (by omega) fun n4 => ?_
      refine vI fun v5 ev5 fv5 => ?_
      refine vNe (fun h6 => ?_) (fun h7 => ?_)
      · unfold fX7_addWord_69
        refine vA (by omega) fun v8 ev8 fv8 => ?_
        exact ih _ _ _ _ (by omega) hI (by omega)
      · refine vBindP (fX7_isWord_s ha0 hI) fun v9 ev9 qv9 => ?_
        try dsimp only
        have fv9 := tiB v9
        refine vEq (fun h10 => ?_) (fun h11 => ?_)
        · refine vI fun v12 ev12 fv12 => ?_
          refine vA (by omega) fun v13 ev13 fv13 => ?_
          unfold fX7_addWord_69
          refine vAl ev13 ?_
          exact ih _ _ _ _ (by omega) hI (by omega)
        · have g14 := qv9.2.resolve_left (by omega)
          refine vMin fun v15 ev15 fv15 => ?_
          refine vI fun v16 ev16 fv16 => ?_
          refine vOk_bind (fX7_addToken_s ha0 hI) fun m17 hm17 => ?_
          exact vOk_some hm17
theorem fX7_addWord_s {R : xMem} {a0 : Nat} {a1 : Int32} {a2 : Int32} {m : xMem} (ha0 : a0 ∈ pReader) (hI : IC R m) : vOk (IC R) (fX7_addWord a0 a1 a2 m) := by
  have ta1 := tiB a1
  have ta2 := tiB a2
  have c0 : (0 : Int32).toInt = 0 := rfl
  have c20 : (20 : Int32).toInt = 20 := rfl
  unfold fX7_addWord
  unfold fX7_addWord_0
  have cF := xFu
  exact fX7_addWord_9_s ha0 _ _ _ _ _ (by omega) hI (by omega)
theorem fX7_cutOne_33_s {R : xMem} {a0 : Nat} {a1 : Int32} (ha0 : a0 ∈ pReader) : ∀ (fuel : Nat), ∀ (l3 : Int32) (m : xMem), IC R m → 2147483648 - l3.toInt < (fuel : Int) → vOk (PM (IC R) (fun _ : Int32 => True)) (fX7_cutOne_33 a0 a1 fuel l3 m) := by
  intro fuel
  induction fuel with
  | zero =>
    intro l3 m hI hmu
    have ta1 := tiB a1
    have tl3 := tiB l3
    exfalso; omega
  | succ fuel ih =>
    intro l3 m hI hmu
    have ta1 := tiB a1
    have tl3 := tiB l3
    have c0 : (0 : Int32).toInt = 0 := rfl
    have c1 : (1 : Int32).toInt = 1 := rfl
    rw [fX7_cutOne_33]
    refine vR fun v1 ev1 => ?_
    have fv1 := tiB v1
    refine vLe (fun h2 => ?_) (fun h3 => ?_)
    · unfold fX7_cutOne_58
      refine vOk_bind (fX7_addWord_s ha0 hI) fun m4 hm4 => ?_
      unfold fX7_cutOne_180
      refine rM hm4 ?_
      first | exact True.intro | omega
    · refine vBindP (fX7_byteAt_s ha0 hI) fun v5 ev5 qv5 => ?_
      try dsimp only
      have fv5 := tiB v5
      refine vBindP (fX7_isLetter_s hI) fun v6 ev6 qv6 => ?_
      try dsimp only
      have fv6 := tiB v6
      refine vEq (fun h7 => ?_) (fun h8 => ?_)
      · unfold fX7_cutOne_58
        refine vOk_bind (fX7_addWord_s ha0 hI) fun m9 hm9 => ?_
        unfold fX7_cutOne_180
        refine rM hm9 ?_
        first | exact True.intro | omega
      · have g10 := qv6.2.resolve_left (by omega)
        refine vA (by omega) fun v11 ev11 fv11 => ?_
        exact ih _ _ hI (by omega)
theorem fX7_cutOne_80_s {R : xMem} {a0 : Nat} {a1 : Int32} (ha0 : a0 ∈ pReader) : ∀ (fuel : Nat), ∀ (l3 : Int32) (l4 : Int32) (m : xMem), ((0 ≤ l4.toInt ∧ l4.toInt ≤ 10000)) → IC R m → 2147483648 - l3.toInt < (fuel : Int) → vOk (PM (IC R) (fun _ : Int32 => True)) (fX7_cutOne_80 a0 a1 fuel l3 l4 m) := by
  intro fuel
  induction fuel with
  | zero =>
    intro l3 l4 m hp hI hmu
    have ta1 := tiB a1
    have tl3 := tiB l3
    have tl4 := tiB l4
    exfalso; omega
  | succ fuel ih =>
    intro l3 l4 m hp hI hmu
    have ta1 := tiB a1
    have tl3 := tiB l3
    have tl4 := tiB l4
    have c0 : (0 : Int32).toInt = 0 := rfl
    have c1 : (1 : Int32).toInt = 1 := rfl
    have c2 : (2 : Int32).toInt = 2 := rfl
    have c10 : (10 : Int32).toInt = 10 := rfl
    have c48 : (48 : Int32).toInt = 48 := rfl
    have c10000 : (10000 : Int32).toInt = 10000 := rfl
    rw [fX7_cutOne_80]
    refine vR fun v1 ev1 => ?_
    have fv1 := tiB v1
    refine vLe (fun h2 => ?_) (fun h3 => ?_)
    · unfold fX7_cutOne_127
      refine vOk_bind (fX7_addToken_s ha0 hI) fun m4 hm4 => ?_
      unfold fX7_cutOne_180
      refine rM hm4 ?_
      first | exact True.intro | omega
    · refine vBindP (fX7_byteAt_s ha0 hI) fun v5 ev5 qv5 => ?_
      try dsimp only
      have fv5 := tiB v5
      refine vBindP (fX7_isDigit_s hI) fun v6 ev6 qv6 => ?_
      try dsimp only
      have fv6 := tiB v6
      refine vEq (fun h7 => ?_) (fun h8 => ?_)
      · unfold fX7_cutOne_127
        refine vOk_bind (fX7_addToken_s ha0 hI) fun m9 hm9 => ?_
        unfold fX7_cutOne_180
        refine rM hm9 ?_
        first | exact True.intro | omega
      · have g10 := qv6.2.resolve_left (by omega)
        refine vM (v := 10 * l4.toInt) (by rw [c10]; exact Int.mul_comm _ _) (by omega) fun v11 ev11 fv11 => ?_
        refine vAlB ev5 ?_
        try dsimp only
        refine vA (by omega) fun v13 ev13 fv13 => ?_
        refine vS (by omega) fun v14 ev14 fv14 => ?_
        refine vMin fun v15 ev15 fv15 => ?_
        refine vA (by omega) fun v16 ev16 fv16 => ?_
        exact ih _ _ _ (by omega) hI (by omega)
theorem fX7_cutOne_s {R : xMem} {a0 : Nat} {a1 : Int32} {m : xMem} (ha0 : a0 ∈ pReader) (hI : IC R m) : vOk (PM (IC R) (fun _ : Int32 => True)) (fX7_cutOne a0 a1 m) := by
  have ta1 := tiB a1
  have c0 : (0 : Int32).toInt = 0 := rfl
  have c1 : (1 : Int32).toInt = 1 := rfl
  have c3 : (3 : Int32).toInt = 3 := rfl
  have c5 : (5 : Int32).toInt = 5 := rfl
  have c10 : (10 : Int32).toInt = 10 := rfl
  have c32 : (32 : Int32).toInt = 32 := rfl
  have c48 : (48 : Int32).toInt = 48 := rfl
  have c61 : (61 : Int32).toInt = 61 := rfl
  unfold fX7_cutOne
  unfold fX7_cutOne_0
  refine vBindP (fX7_byteAt_s ha0 hI) fun v1 ev1 qv1 => ?_
  try dsimp only
  have fv1 := tiB v1
  refine vEq (fun h2 => ?_) (fun h3 => ?_)
  · have g4 := qv1.resolve_left (by omega)
    unfold fX7_cutOne_18
    refine vA (by omega) fun v5 ev5 fv5 => ?_
    refine rM hI ?_
    first | exact True.intro | omega
  · refine vNe (fun h6 => ?_) (fun h7 => ?_)
    · refine vI fun v8 ev8 fv8 => ?_
      refine vBindP (fX7_isLetter_s hI) fun v9 ev9 qv9 => ?_
      try dsimp only
      have fv9 := tiB v9
      refine vEq (fun h10 => ?_) (fun h11 => ?_)
      · refine vBindP (fX7_isDigit_s hI) fun v12 ev12 qv12 => ?_
        try dsimp only
        have fv12 := tiB v12
        refine vEq (fun h13 => ?_) (fun h14 => ?_)
        · refine vBindP (fX7_signOf_s hI) fun v15 ev15 qv15 => ?_
          try dsimp only
          have fv15 := tiB v15
          refine vEq (fun h16 => ?_) (fun h17 => ?_)
          · unfold fX7_cutOne_156
            refine vBindP (fX7_byteAt_s ha0 hI) fun v18 ev18 qv18 => ?_
            try dsimp only
            have fv18 := tiB v18
            refine vNe (fun h19 => ?_) (fun h20 => ?_)
            · unfold fX7_cutOne_172
              refine vOk_bind (fX7_addToken_s ha0 hI) fun m21 hm21 => ?_
              unfold fX7_cutOne_180
              refine rM hm21 ?_
              first | exact True.intro | omega
            · have g22 := qv18.resolve_left (by omega)
              refine vA (by omega) fun v23 ev23 fv23 => ?_
              refine vA (by omega) fun v24 ev24 fv24 => ?_
              unfold fX7_cutOne_172
              refine vOk_bind (fX7_addToken_s ha0 hI) fun m25 hm25 => ?_
              unfold fX7_cutOne_180
              refine rM hm25 ?_
              first | exact True.intro | omega
          · refine vNe (fun h26 => ?_) (fun h27 => ?_)
            · unfold fX7_cutOne_172
              refine vOk_bind (fX7_addToken_s ha0 hI) fun m28 hm28 => ?_
              unfold fX7_cutOne_180
              refine rM hm28 ?_
              first | exact True.intro | omega
            · unfold fX7_cutOne_156
              refine vBindP (fX7_byteAt_s ha0 hI) fun v29 ev29 qv29 => ?_
              try dsimp only
              have fv29 := tiB v29
              refine vNe (fun h30 => ?_) (fun h31 => ?_)
              · unfold fX7_cutOne_172
                refine vOk_bind (fX7_addToken_s ha0 hI) fun m32 hm32 => ?_
                unfold fX7_cutOne_180
                refine rM hm32 ?_
                first | exact True.intro | omega
              · have g33 := qv29.resolve_left (by omega)
                refine vA (by omega) fun v34 ev34 fv34 => ?_
                refine vA (by omega) fun v35 ev35 fv35 => ?_
                unfold fX7_cutOne_172
                refine vOk_bind (fX7_addToken_s ha0 hI) fun m36 hm36 => ?_
                unfold fX7_cutOne_180
                refine rM hm36 ?_
                first | exact True.intro | omega
        · have g37 := qv12.2.resolve_left (by omega)
          refine vS (by omega) fun v38 ev38 fv38 => ?_
          have cF := xFu
          exact fX7_cutOne_80_s ha0 _ _ _ _ (by omega) hI (by omega)
      · have g39 := qv9.2.resolve_left (by omega)
        have cF := xFu
        exact fX7_cutOne_33_s ha0 _ _ _ hI (by omega)
    · have g40 := qv1.resolve_left (by omega)
      unfold fX7_cutOne_18
      refine vA (by omega) fun v41 ev41 fv41 => ?_
      refine rM hI ?_
      first | exact True.intro | omega
theorem fX7_cut_9_s {R : xMem} {a0 : Nat} (ha0 : a0 ∈ pReader) : ∀ (fuel : Nat), ∀ (l1 : Int32) (l2 : Int32) (m : xMem), ((0 ≤ l2.toInt ∧ l2.toInt ≤ 300)) → IC R m → 2147483648 - l2.toInt < (fuel : Int) → vOk (IC R) (fX7_cut_9 a0 fuel l1 l2 m) := by
  intro fuel
  induction fuel with
  | zero =>
    intro l1 l2 m hp hI hmu
    have tl1 := tiB l1
    have tl2 := tiB l2
    exfalso; omega
  | succ fuel ih =>
    intro l1 l2 m hp hI hmu
    have tl1 := tiB l1
    have tl2 := tiB l2
    have c0 : (0 : Int32).toInt = 0 := rfl
    have c1 : (1 : Int32).toInt = 1 := rfl
    have c300 : (300 : Int32).toInt = 300 := rfl
    rw [fX7_cut_9]
    refine vLe (fun h1 => ?_) (fun h2 => ?_)
    · unfold fX7_cut_36
      refine vR fun v3 ev3 => ?_
      have fv3 := tiB v3
      refine vOk_bind (fX7_addToken_s ha0 hI) fun m4 hm4 => ?_
      exact vOk_some hm4
    · refine vR fun v5 ev5 => ?_
      have fv5 := tiB v5
      refine vLe (fun h6 => ?_) (fun h7 => ?_)
      · unfold fX7_cut_36
        refine vAl (ev5) ?_
        refine vOk_bind (fX7_addToken_s ha0 hI) fun m8 hm8 => ?_
        exact vOk_some hm8
      · refine vBindM (fX7_cutOne_s ha0 hI) fun v9 m10 hm10 qv9 => ?_
        try dsimp only
        have fv9 := tiB v9
        refine vA (by omega) fun v11 ev11 fv11 => ?_
        exact ih _ _ _ (by omega) hm10 (by omega)
theorem fX7_cut_s {R : xMem} {a0 : Nat} {m : xMem} (ha0 : a0 ∈ pReader) (hI : IC R m) : vOk (IC R) (fX7_cut a0 m) := by
  have c0 : (0 : Int32).toInt = 0 := rfl
  unfold fX7_cut
  unfold fX7_cut_0
  refine vR fun m1 em1 => ?_
  have hm1 : IC R m1 := by rw [em1]; exact IC_put hI (qReader_ok7 _ ha0)
  have cF := xFu
  exact fX7_cut_9_s ha0 _ _ _ _ (by omega) hm1 (by omega)
theorem fX11_fault_s {R : xMem} {a0 : Nat} {a1 : Int32} {m : xMem} (ha0 : a0 ∈ pMS) (hI : IC R m) : vOk (PP m (fun x : Int32 => (x.toInt = -1 ∨ ((0 ≤ a1.toInt ∧ a1.toInt ≤ 1))))) (fX11_fault a0 a1 m) := by
  have ta1 := tiB a1
  have cm1 : (-1 : Int32).toInt = -1 := rfl
  have c0 : (0 : Int32).toInt = 0 := rfl
  have c1 : (1 : Int32).toInt = 1 := rfl
  unfold fX11_fault
  unfold fX11_fault_0
  refine vNe (fun h1 => ?_) (fun h2 => ?_)
  · refine vNe (fun h3 => ?_) (fun h4 => ?_)
    · unfold fX11_fault_28
      refine rP ?_
      first | exact True.intro | omega
    · refine vR fun v5 ev5 => ?_
      have fv5 := tiB v5
      unfold fX11_fault_28
      refine rP ?_
      first | exact True.intro | omega
  · refine vR fun v6 ev6 => ?_
    have fv6 := tiB v6
    refine rP ?_
    first | exact True.intro | omega
theorem fX2_isOver_s {R : xMem} {a0 : Nat} {m : xMem} (ha0 : a0 ∈ pHall) (hI : IC R m) : vOk (PP m (fun x : Int32 => (0 ≤ x.toInt ∧ x.toInt ≤ 1))) (fX2_isOver a0 m) := by
  have c0 : (0 : Int32).toInt = 0 := rfl
  have c1 : (1 : Int32).toInt = 1 := rfl
  unfold fX2_isOver
  unfold fX2_isOver_0
  refine vR fun v1 ev1 => ?_
  have fv1 := tiB v1
  refine vR fun v2 ev2 => ?_
  have fv2 := tiB v2
  refine vLe (fun h3 => ?_) (fun h4 => ?_)
  · unfold fX2_isOver_16
    refine vB (by omega) ?_
    refine rP ?_
    first | exact True.intro | omega
  · unfold fX2_isOver_16
    refine vB (by omega) ?_
    refine rP ?_
    first | exact True.intro | omega
theorem fX6_countSecond_9_s {R : xMem} {a0 : Nat} {a1 : Nat} (ha0 : a0 ∈ pMover) (ha1 : a1 ∈ pStation) : ∀ (fuel : Nat), ∀ (l2 : Int64) (l4 : Int32) (m : xMem), ((0 ≤ l4.toInt ∧ l4.toInt ≤ 6)) → IC R m → 2147483648 - l4.toInt < (fuel : Int) → vOk (IC R) (fX6_countSecond_9 a0 a1 fuel l2 l4 m) := by
  intro fuel
  induction fuel with
  | zero =>
    intro l2 l4 m hp hI hmu
    have tl4 := tiB l4
    exfalso; omega
  | succ fuel ih =>
    intro l2 l4 m hp hI hmu
    have tl4 := tiB l4
    have cm1 : (-1 : Int32).toInt = -1 := rfl
    have c0 : (0 : Int32).toInt = 0 := rfl
    have c1 : (1 : Int32).toInt = 1 := rfl
    have c6 : (6 : Int32).toInt = 6 := rfl
    rw [fX6_countSecond_9]
    refine vR fun v1 ev1 => ?_
    have fv1 := tiB v1
    refine vLe (fun h2 => ?_) (fun h3 => ?_)
    · unfold fX6_countSecond_104
      refine vAny fun v4 => ?_
      refine vI fun v5 ev5 fv5 => ?_
      refine vR fun m6 em6 => ?_
      have hm6 : IC R m6 := by rw [em6]; exact IC_put hI (qStation_ok13 _ ha1)
      exact vOk_some hm6
    · refine vLe (fun h7 => ?_) (fun h8 => ?_)
      · unfold fX6_countSecond_104
        refine vAny fun v9 => ?_
        refine vI fun v10 ev10 fv10 => ?_
        refine vR fun m11 em11 => ?_
        have hm11 : IC R m11 := by rw [em11]; exact IC_put hI (qStation_ok13 _ ha1)
        exact vOk_some hm11
      · refine vIn (by omega) (by omega) fun n12 => ?_
        refine vR fun r13 er13 => ?_
        have hr13 : r13 ∈ pHall := by rw [er13]; exact (qStation_15_m3_6_inHall _ ha1 _ n12)
        refine vR fun v14 ev14 => ?_
        have fv14 := tiB v14
        refine vR fun v15 ev15 => ?_
        refine vR fun v16 ev16 => ?_
        have fv16 := tiB v16
        refine vR fun v17 ev17 => ?_
        refine vAny fun v18 => ?_
        refine vAny fun v19 => ?_
        refine vR fun v20 ev20 => ?_
        have fv20 : 0 ≤ v20.toInt ∧ v20.toInt ≤ 1 := by rw [ev20]; exact IC.bc hI _ _ (qHall_bc8 _ hr13)
        refine vEq (fun h21 => ?_) (fun h22 => ?_)
        · unfold fX6_countSecond_72
          refine vR fun v23 ev23 => ?_
          have fv23 := tiB v23
          refine vNe (fun h24 => ?_) (fun h25 => ?_)
          · unfold fX6_countSecond_98
            refine vA (by omega) fun v26 ev26 fv26 => ?_
            exact ih _ _ _ (by omega) hI (by omega)
          · refine vBindP (fX2_isOver_s hr13 hI) fun v27 ev27 qv27 => ?_
            try dsimp only
            have fv27 := tiB v27
            refine vEq (fun h28 => ?_) (fun h29 => ?_)
            · unfold fX6_countSecond_98
              refine vA (by omega) fun v30 ev30 fv30 => ?_
              exact ih _ _ _ (by omega) hI (by omega)
            · refine vR fun v31 ev31 => ?_
              have fv31 := tiB v31
              refine vR fun m32 em32 => ?_
              have hm32 : IC R m32 := by rw [em32]; exact IC_put hI (qHall_ok7 _ hr13)
              unfold fX6_countSecond_98
              refine vA (by omega) fun v33 ev33 fv33 => ?_
              exact ih _ _ _ (by omega) hm32 (by omega)
        · refine vR fun v34 ev34 => ?_
          have fv34 := tiB v34
          refine vI fun v35 ev35 fv35 => ?_
          refine vR fun m36 em36 => ?_
          have hm36 : IC R m36 := by rw [em36]; exact IC_put hI (qHall_ok6 _ hr13)
          unfold fX6_countSecond_72
          refine vR fun v37 ev37 => ?_
          have fv37 := tiB v37
          refine vNe (fun h38 => ?_) (fun h39 => ?_)
          · unfold fX6_countSecond_98
            refine vA (by omega) fun v40 ev40 fv40 => ?_
            exact ih _ _ _ (by omega) hm36 (by omega)
          · refine vBindP (fX2_isOver_s hr13 hm36) fun v41 ev41 qv41 => ?_
            try dsimp only
            have fv41 := tiB v41
            refine vEq (fun h42 => ?_) (fun h43 => ?_)
            · unfold fX6_countSecond_98
              refine vA (by omega) fun v44 ev44 fv44 => ?_
              exact ih _ _ _ (by omega) hm36 (by omega)
            · refine vR fun v45 ev45 => ?_
              have fv45 := tiB v45
              refine vR fun m46 em46 => ?_
              have hm46 : IC R m46 := by rw [em46]; exact IC_put hm36 (qHall_ok7 _ hr13)
              unfold fX6_countSecond_98
              refine vA (by omega) fun v47 ev47 fv47 => ?_
              exact ih _ _ _ (by omega) hm46 (by omega)
theorem fX6_countSecond_s {R : xMem} {a0 : Nat} {a1 : Nat} {m : xMem} (ha0 : a0 ∈ pMover) (ha1 : a1 ∈ pStation) (hI : IC R m) : vOk (IC R) (fX6_countSecond a0 a1 m) := by
  have c0 : (0 : Int32).toInt = 0 := rfl
  unfold fX6_countSecond
  unfold fX6_countSecond_0
  refine vR fun v1 ev1 => ?_
  have fv1 := tiB v1
  refine vR fun v2 ev2 => ?_
  have cF := xFu
  exact fX6_countSecond_9_s ha0 ha1 _ _ _ _ (by omega) hI (by omega)
theorem fX2_changeOutside_s {R : xMem} {a0 : Nat} {a1 : Int32} {a2 : Int32} {a3 : Int32} {m : xMem} (ha0 : a0 ∈ pHall) (hI : IC R m) : vOk (IC R) (fX2_changeOutside a0 a1 a2 a3 m) := by
  have ta1 := tiB a1
  have ta2 := tiB a2
  have ta3 := tiB a3
  have c0 : (0 : Int32).toInt = 0 := rfl
  have c6 : (6 : Int32).toInt = 6 := rfl
  have c12 : (12 : Int32).toInt = 12 := rfl
  unfold fX2_changeOutside
  unfold fX2_changeOutside_0
  refine vI fun v1 ev1 fv1 => ?_
  refine vI fun v2 ev2 fv2 => ?_
  refine vLt (fun h3 => ?_) (fun h4 => ?_)
  · unfold fX2_changeOutside_44
    exact vOk_some hI
  · refine vLe (fun h5 => ?_) (fun h6 => ?_)
    · unfold fX2_changeOutside_44
      exact vOk_some hI
    · refine vIn (by omega) (by omega) fun n7 => ?_
      refine vR fun v8 ev8 => ?_
      have fv8 := tiB v8
      refine vI fun v9 ev9 fv9 => ?_
      refine vIn (by omega) (by omega) fun n10 => ?_
      refine vR fun m11 em11 => ?_
      have hm11 : IC R m11 := by rw [em11]; exact IC_arr hI (qHall_2_inArr _ ha0)
      refine vR fun v12 ev12 => ?_
      have fv12 := tiB v12
      refine vI fun v13 ev13 fv13 => ?_
      refine vR fun m14 em14 => ?_
      have hm14 : IC R m14 := by rw [em14]; exact IC_put hm11 (qHall_ok5 _ ha0)
      unfold fX2_changeOutside_44
      exact vOk_some hm14
