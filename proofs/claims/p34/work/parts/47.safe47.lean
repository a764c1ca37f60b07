/-! SAFETY of the class's methods, printed by wip/tools/vc.py -/
theorem fX11_within_s {R : xMem} {a0 : Int32} {a1 : Int32} {a2 : Int32} {m : xMem} (hI : IC R m) : vOk (PP m (fun x : Int32 => (0 ≤ x.toInt ∧ x.toInt ≤ 1) ∧ (x.toInt = 0 ∨ ((a1.toInt ≤ a0.toInt ∧ a0.toInt ≤ a2.toInt))))) (fX11_within a0 a1 a2 m) := by
  have ta0 := tiB a0
  have ta1 := tiB a1
  have ta2 := tiB a2
  have c0 : (0 : Int32).toInt = 0 := rfl
  have c1 : (1 : Int32).toInt = 1 := rfl
  unfold fX11_within
  unfold fX11_within_0
  refine vLt (fun h1 => ?_) (fun h2 => ?_)
  · unfold fX11_within_14
    unfold fX11_within_15
    refine vB (by omega) ?_
    refine rP ?_
    first | exact True.intro | omega
  · refine vLt (fun h3 => ?_) (fun h4 => ?_)
    · unfold fX11_within_14
      unfold fX11_within_15
      refine vB (by omega) ?_
      refine rP ?_
      first | exact True.intro | omega
    · unfold fX11_within_15
      refine vB (by omega) ?_
      refine rP ?_
      first | exact True.intro | omega
theorem fX2_build_s {R : xMem} {a0 : Nat} {a1 : Int32} {m : xMem} (ha0 : a0 ∈ pHall) (hI : IC R m) : vOk (IC R) (fX2_build a0 a1 m) := by
  have ta1 := tiB a1
  have cm1 : (-1 : Int32).toInt = -1 := rfl
  have c0 : (0 : Int32).toInt = 0 := rfl
  have c999 : (999 : Int32).toInt = 999 := rfl
  unfold fX2_build
  unfold fX2_build_0
  refine vR fun m1 em1 => ?_
  have hm1 : IC R m1 := by rw [em1]; exact IC_put hI (qHall_ok2 _ ha0)
  refine vR fun m2 em2 => ?_
  have hm2 : IC R m2 := by rw [em2]; exact IC_put hm1 (qHall_ok3 _ ha0)
  refine vR fun m3 em3 => ?_
  have hm3 : IC R m3 := by rw [em3]; exact IC_put hm2 (qHall_ok4 _ ha0)
  refine vR fun m4 em4 => ?_
  have hm4 : IC R m4 := by rw [em4]; exact IC_put hm3 (qHall_ok5 _ ha0)
  refine vR fun m5 em5 => ?_
  have hm5 : IC R m5 := by rw [em5]; exact IC_put hm4 (qHall_ok6 _ ha0)
  refine vR fun m6 em6 => ?_
  have hm6 : IC R m6 := by rw [em6]; exact IC_put hm5 (qHall_ok7 _ ha0)
  refine vR fun m7 em7 => ?_
  have hm7 : IC R m7 := by rw [em7]; exact IC_putB hm6 (qHall_kc8 _ ha0) (by omega)
  refine vOk_bind (Q := IC R) ⟨_, rfl, IC_fill hm7 (qHall_1_inArr _ ha0)⟩ fun m8 hm8 => ?_
  refine vOk_bind (Q := IC R) ⟨_, rfl, IC_fill hm8 (qHall_2_inArr _ ha0)⟩ fun m9 hm9 => ?_
  exact vOk_some hm9
theorem fX9_hasHall_s {R : xMem} {a0 : Nat} {a1 : Int32} {m : xMem} (ha0 : a0 ∈ pStation) (hI : IC R m) : vOk (PP m (fun x : Int32 => (0 ≤ x.toInt ∧ x.toInt ≤ 1) ∧ (x.toInt = 0 ∨ ((0 ≤ a1.toInt ∧ a1.toInt ≤ 5))))) (fX9_hasHall a0 a1 m) := by
  have ta1 := tiB a1
  have c0 : (0 : Int32).toInt = 0 := rfl
  have c1 : (1 : Int32).toInt = 1 := rfl
  have c6 : (6 : Int32).toInt = 6 := rfl
  unfold fX9_hasHall
  unfold fX9_hasHall_0
  refine vLt (fun h1 => ?_) (fun h2 => ?_)
  · unfold fX9_hasHall_22
    unfold fX9_hasHall_23
    refine vB (by omega) ?_
    refine rP ?_
    first | exact True.intro | omega
  · refine vR fun v3 ev3 => ?_
    have fv3 := tiB v3
    refine vLe (fun h4 => ?_) (fun h5 => ?_)
    · unfold fX9_hasHall_22
      unfold fX9_hasHall_23
      refine vB (by omega) ?_
      refine rP ?_
      first | exact True.intro | omega
    · refine vLe (fun h6 => ?_) (fun h7 => ?_)
      · unfold fX9_hasHall_22
        unfold fX9_hasHall_23
        refine vB (by omega) ?_
        refine rP ?_
        first | exact True.intro | omega
      · unfold fX9_hasHall_23
        refine vB (by omega) ?_
        refine rP ?_
        first | exact True.intro | omega
theorem fX11_bar_s {R : xMem} {a0 : Nat} {a1 : Int32} {a2 : Int32} {m : xMem} (ha0 : a0 ∈ pMS) (hI : IC R m) : vOk (PM (IC R) (fun x : Int32 => (0 ≤ x.toInt ∧ x.toInt ≤ 1) ∧ (x.toInt = 0 ∨ ((0 ≤ a1.toInt ∧ a1.toInt ≤ 5) ∧ (0 ≤ a2.toInt ∧ a2.toInt ≤ 999))))) (fX11_bar a0 a1 a2 m) := by
  have ta1 := tiB a1
  have ta2 := tiB a2
  have c0 : (0 : Int32).toInt = 0 := rfl
  have c1 : (1 : Int32).toInt = 1 := rfl
  have c999 : (999 : Int32).toInt = 999 := rfl
  unfold fX11_bar
  unfold fX11_bar_0
  refine vBindP (fX9_hasHall_s (qMS_1_inStation _ ha0) hI) fun v1 ev1 qv1 => ?_
  try dsimp only
  have fv1 := tiB v1
  refine vEq (fun h2 => ?_) (fun h3 => ?_)
  · unfold fX11_bar_22
    refine rM hI ?_
    first | exact True.intro | omega
  · have g4 := qv1.2.resolve_left (by omega)
    refine vBindP (fX11_within_s hI) fun v5 ev5 qv5 => ?_
    try dsimp only
    have fv5 := tiB v5
    refine vNe (fun h6 => ?_) (fun h7 => ?_)
    · have g8 := qv5.2.resolve_left (by omega)
      refine vIn (by omega) (by omega) fun n9 => ?_
      refine vR fun r10 er10 => ?_
      have hr10 : r10 ∈ pHall := by rw [er10]; exact (qMS_1_15_m3_6_inHall _ ha0 _ n9)
      refine vR fun m11 em11 => ?_
      have hm11 : IC R m11 := by rw [em11]; exact IC_put hI (qHall_ok3 _ hr10)
      refine rM hm11 ?_
      first | exact True.intro | omega
    · unfold fX11_bar_22
      refine rM hI ?_
      first | exact True.intro | omega
theorem fX3_build_sT {R : xMem} {a0 : Nat} {a1 : Int32} {a2 : Int32} {a3 : Int32} {a4 : Int32} {a5 : Int32} {m : xMem} (ha0 : a0 ∈ pLinkT) (hI : IC R m) : vOk (IC R) (fX3_build a0 a1 a2 a3 a4 a5 m) := by
  have ta1 := tiB a1
  have ta2 := tiB a2
  have ta3 := tiB a3
  have ta4 := tiB a4
  have ta5 := tiB a5
  have cm1 : (-1 : Int32).toInt = -1 := rfl
  have c0 : (0 : Int32).toInt = 0 := rfl
  have c1 : (1 : Int32).toInt = 1 := rfl
  have c2 : (2 : Int32).toInt = 2 := rfl
  unfold fX3_build
  unfold fX3_build_0
  refine vR fun m1 em1 => ?_
  have hm1 : IC R m1 := by rw [em1]; exact IC_put hI (qLinkT_ok1 _ ha0)
  refine vR fun m2 em2 => ?_
  have hm2 : IC R m2 := by rw [em2]; exact IC_put hm1 (qLinkT_ok2 _ ha0)
  refine vR fun m3 em3 => ?_
  have hm3 : IC R m3 := by rw [em3]; exact IC_put hm2 (qLinkT_ok3 _ ha0)
  refine vR fun m4 em4 => ?_
  have hm4 : IC R m4 := by rw [em4]; exact IC_put hm3 (qLinkT_ok4 _ ha0)
  refine vR fun m5 em5 => ?_
  have hm5 : IC R m5 := by rw [em5]; exact IC_put hm4 (qLinkT_ok5 _ ha0)
  refine vNe (fun h6 => ?_) (fun h7 => ?_)
  · unfold fX3_build_38
    refine vR fun m8 em8 => ?_
    have hm8 : IC R m8 := by rw [em8]; exact IC_put hm5 (qLinkT_ok6 _ ha0)
    refine vAl (xP_eqE em8) ?_
    refine vR fun m9 em9 => ?_
    have hm9 : IC R m9 := by rw [em9]; exact IC_put hm8 (qLinkT_ok7 _ ha0)
    refine vR fun m10 em10 => ?_
    have hm10 : IC R m10 := by rw [em10]; exact IC_put hm9 (qLinkT_ok8 _ ha0)
    refine vR fun m11 em11 => ?_
    have hm11 : IC R m11 := by rw [em11]; exact IC_put hm10 (qLinkT_ok9 _ ha0)
    refine vR fun m12 em12 => ?_
    have hm12 : IC R m12 := by rw [em12]; exact IC_put hm11 (qLinkT_ok10 _ ha0)
    refine vR fun m13 em13 => ?_
    have hm13 : IC R m13 := by rw [em13]; exact IC_put hm12 (qLinkT_ok11 _ ha0)
    refine vR fun m14 em14 => ?_
    have hm14 : IC R m14 := by rw [em14]; exact IC_putB hm13 (qLinkT_kc12 _ ha0) (by omega)
    refine vR fun m15 em15 => ?_
    have hm15 : IC R m15 := by rw [em15]; exact IC_putB hm14 (qLinkT_kc13 _ ha0) (by omega)
    refine vOk_bind (Q := IC R) ⟨_, rfl, IC_fill hm15 (qLinkT_1_inArr _ ha0)⟩ fun m16 hm16 => ?_
    exact vOk_some hm16
  · unfold fX3_build_38
    refine vR fun m17 em17 => ?_
    have hm17 : IC R m17 := by rw [em17]; exact IC_put hm5 (qLinkT_ok6 _ ha0)
    refine vAl (xP_eqE em17) ?_
    refine vR fun m18 em18 => ?_
    have hm18 : IC R m18 := by rw [em18]; exact IC_put hm17 (qLinkT_ok7 _ ha0)
    refine vR fun m19 em19 => ?_
    have hm19 : IC R m19 := by rw [em19]; exact IC_put hm18 (qLinkT_ok8 _ ha0)
    refine vR fun m20 em20 => ?_
    have hm20 : IC R m20 := by rw [em20]; exact IC_put hm19 (qLinkT_ok9 _ ha0)
    refine vR fun m21 em21 => ?_
    have hm21 : IC R m21 := by rw [em21]; exact IC_put hm20 (qLinkT_ok10 _ ha0)
    refine vR fun m22 em22 => ?_
    have hm22 : IC R m22 := by rw [em22]; exact IC_put hm21 (qLinkT_ok11 _ ha0)
    refine vR fun m23 em23 => ?_
    have hm23 : IC R m23 := by rw [em23]; exact IC_putB hm22 (qLinkT_kc12 _ ha0) (by omega)
    refine vR fun m24 em24 => ?_
    have hm24 : IC R m24 := by rw [em24]; exact IC_putB hm23 (qLinkT_kc13 _ ha0) (by omega)
    refine vOk_bind (Q := IC R) ⟨_, rfl, IC_fill hm24 (qLinkT_1_inArr _ ha0)⟩ fun m25 hm25 => ?_
    exact vOk_some hm25
theorem fX9_hasLink_s {R : xMem} {a0 : Nat} {a1 : Int32} {m : xMem} (ha0 : a0 ∈ pStation) (hI : IC R m) : vOk (PP m (fun x : Int32 => (0 ≤ x.toInt ∧ x.toInt ≤ 1) ∧ (x.toInt = 0 ∨ ((0 ≤ a1.toInt ∧ a1.toInt ≤ 9))))) (fX9_hasLink a0 a1 m) := by
  have ta1 := tiB a1
  have c0 : (0 : Int32).toInt = 0 := rfl
  have c1 : (1 : Int32).toInt = 1 := rfl
  have c10 : (10 : Int32).toInt = 10 := rfl
  unfold fX9_hasLink
  unfold fX9_hasLink_0
  refine vLt (fun h1 => ?_) (fun h2 => ?_)
  · unfold fX9_hasLink_22
    unfold fX9_hasLink_23
    refine vB (by omega) ?_
    refine rP ?_
    first | exact True.intro | omega
  · refine vR fun v3 ev3 => ?_
    have fv3 := tiB v3
    refine vLe (fun h4 => ?_) (fun h5 => ?_)
    · unfold fX9_hasLink_22
      unfold fX9_hasLink_23
      refine vB (by omega) ?_
      refine rP ?_
      first | exact True.intro | omega
    · refine vLe (fun h6 => ?_) (fun h7 => ?_)
      · unfold fX9_hasLink_22
        unfold fX9_hasLink_23
        refine vB (by omega) ?_
        refine rP ?_
        first | exact True.intro | omega
      · unfold fX9_hasLink_23
        refine vB (by omega) ?_
        refine rP ?_
        first | exact True.intro | omega
theorem fX9_hasStepped_s {R : xMem} {a0 : Nat} {a1 : Int32} {m : xMem} (ha0 : a0 ∈ pStation) (hI : IC R m) : vOk (PP m (fun x : Int32 => (0 ≤ x.toInt ∧ x.toInt ≤ 1) ∧ (x.toInt = 0 ∨ ((0 ≤ a1.toInt ∧ a1.toInt ≤ 9))))) (fX9_hasStepped a0 a1 m) := by
  have ta1 := tiB a1
  have c0 : (0 : Int32).toInt = 0 := rfl
  have c1 : (1 : Int32).toInt = 1 := rfl
  have c2 : (2 : Int32).toInt = 2 := rfl
  unfold fX9_hasStepped
  unfold fX9_hasStepped_0
  refine vBindP (fX9_hasLink_s ha0 hI) fun v1 ev1 qv1 => ?_
  try dsimp only
  have fv1 := tiB v1
  refine vEq (fun h2 => ?_) (fun h3 => ?_)
  · unfold fX9_hasStepped_25
    unfold fX9_hasStepped_26
    refine vB (by omega) ?_
    refine rP ?_
    first | exact True.intro | omega
  · have g4 := qv1.2.resolve_left (by omega)
    refine vIn (by omega) (by omega) fun n5 => ?_
    refine vR fun r6 er6 => ?_
    have hr6 : r6 ∈ pLink := by rw [er6]; exact (qStation_33_m2_10_inLink _ ha0 _ n5)
    refine vR fun v7 ev7 => ?_
    have fv7 := tiB v7
    refine vEq (fun h8 => ?_) (fun h9 => ?_)
    · unfold fX9_hasStepped_25
      unfold fX9_hasStepped_26
      refine vB (by omega) ?_
      refine rP ?_
      first | exact True.intro | omega
    · unfold fX9_hasStepped_26
      refine vB (by omega) ?_
      refine rP ?_
      first | exact True.intro | omega
theorem fX3_turnTo_s {R : xMem} {a0 : Nat} {a1 : Int32} {m : xMem} (ha0 : a0 ∈ pLink) (hI : IC R m) : vOk (IC R) (fX3_turnTo a0 a1 m) := by
  have ta1 := tiB a1
  have c0 : (0 : Int32).toInt = 0 := rfl
  have c1 : (1 : Int32).toInt = 1 := rfl
  unfold fX3_turnTo
  unfold fX3_turnTo_0
  refine vNe (fun h1 => ?_) (fun h2 => ?_)
  · refine vR fun m3 em3 => ?_
    have hm3 : IC R m3 := by rw [em3]; exact IC_put hI (qLink_ok7 _ ha0)
    refine vR fun v4 ev4 => ?_
    have fv4 := tiB v4
    refine vEq (fun h5 => ?_) (fun h6 => ?_)
    · unfold fX3_turnTo_30
      refine vR fun m7 em7 => ?_
      have hm7 : IC R m7 := by rw [em7]; exact IC_put hm3 (qLink_ok6 _ ha0)
      refine vR fun m8 em8 => ?_
      have hm8 : IC R m8 := by rw [em8]; exact IC_putB hm7 (qLink_kc12 _ ha0) (by omega)
      unfold fX3_turnTo_40
      exact vOk_some hm8
    · refine vR fun v9 ev9 => ?_
      have fv9 := tiB v9
      refine vNe (fun h10 => ?_) (fun h11 => ?_)
      · unfold fX3_turnTo_40
        exact vOk_some hm3
      · unfold fX3_turnTo_30
        refine vR fun m12 em12 => ?_
        have hm12 : IC R m12 := by rw [em12]; exact IC_put hm3 (qLink_ok6 _ ha0)
        refine vR fun m13 em13 => ?_
        have hm13 : IC R m13 := by rw [em13]; exact IC_putB hm12 (qLink_kc12 _ ha0) (by omega)
        unfold fX3_turnTo_40
        exact vOk_some hm13
  · refine vR fun m14 em14 => ?_
    have hm14 : IC R m14 := by rw [em14]; exact IC_putB hI (qLink_kc12 _ ha0) (by omega)
    exact vOk_some hm14
theorem fX11_turn_s {R : xMem} {a0 : Nat} {a1 : Int32} {a2 : Int32} {m : xMem} (ha0 : a0 ∈ pMS) (hI : IC R m) : vOk (PM (IC R) (fun x : Int32 => (0 ≤ x.toInt ∧ x.toInt ≤ 1) ∧ (x.toInt = 0 ∨ ((0 ≤ a1.toInt ∧ a1.toInt ≤ 9) ∧ (0 ≤ a2.toInt ∧ a2.toInt ≤ 2))))) (fX11_turn a0 a1 a2 m) := by
  have ta1 := tiB a1
  have ta2 := tiB a2
  have c0 : (0 : Int32).toInt = 0 := rfl
  have c1 : (1 : Int32).toInt = 1 := rfl
  have c2 : (2 : Int32).toInt = 2 := rfl
  unfold fX11_turn
  unfold fX11_turn_0
  refine vBindP (fX9_hasStepped_s (qMS_1_inStation _ ha0) hI) fun v1 ev1 qv1 => ?_
  try dsimp only
  have fv1 := tiB v1
  refine vEq (fun h2 => ?_) (fun h3 => ?_)
  · unfold fX11_turn_20
    refine rM hI ?_
    first | exact True.intro | omega
  · have g4 := qv1.2.resolve_left (by omega)
    refine vBindP (fX11_within_s hI) fun v5 ev5 qv5 => ?_
    try dsimp only
    have fv5 := tiB v5
    refine vNe (fun h6 => ?_) (fun h7 => ?_)
    · have g8 := qv5.2.resolve_left (by omega)
      refine vIn (by omega) (by omega) fun n9 => ?_
      refine vR fun r10 er10 => ?_
      have hr10 : r10 ∈ pLink := by rw [er10]; exact (qMS_1_33_m2_10_inLink _ ha0 _ n9)
      refine vOk_bind (fX3_turnTo_s hr10 hI) fun m11 hm11 => ?_
      refine rM hm11 ?_
      first | exact True.intro | omega
    · unfold fX11_turn_20
      refine rM hI ?_
      first | exact True.intro | omega
theorem fX9_hasStair_s {R : xMem} {a0 : Nat} {a1 : Int32} {m : xMem} (ha0 : a0 ∈ pStation) (hI : IC R m) : vOk (PP m (fun x : Int32 => (0 ≤ x.toInt ∧ x.toInt ≤ 1) ∧ (x.toInt = 0 ∨ ((0 ≤ a1.toInt ∧ a1.toInt ≤ 9))))) (fX9_hasStair a0 a1 m) := by
  have ta1 := tiB a1
  have c0 : (0 : Int32).toInt = 0 := rfl
  have c1 : (1 : Int32).toInt = 1 := rfl
  unfold fX9_hasStair
  unfold fX9_hasStair_0
  refine vBindP (fX9_hasLink_s ha0 hI) fun v1 ev1 qv1 => ?_
  try dsimp only
  have fv1 := tiB v1
  refine vEq (fun h2 => ?_) (fun h3 => ?_)
  · unfold fX9_hasStair_24
    unfold fX9_hasStair_25
    refine vB (by omega) ?_
    refine rP ?_
    first | exact True.intro | omega
  · have g4 := qv1.2.resolve_left (by omega)
    refine vIn (by omega) (by omega) fun n5 => ?_
    refine vR fun r6 er6 => ?_
    have hr6 : r6 ∈ pLink := by rw [er6]; exact (qStation_33_m2_10_inLink _ ha0 _ n5)
    refine vR fun v7 ev7 => ?_
    have fv7 := tiB v7
    refine vNe (fun h8 => ?_) (fun h9 => ?_)
    · unfold fX9_hasStair_24
      unfold fX9_hasStair_25
      refine vB (by omega) ?_
      refine rP ?_
      first | exact True.intro | omega
    · unfold fX9_hasStair_25
      refine vB (by omega) ?_
      refine rP ?_
      first | exact True.intro | omega
theorem fX11_mode_s {R : xMem} {a0 : Nat} {a1 : Int32} {a2 : Int32} {m : xMem} (ha0 : a0 ∈ pMS) (hI : IC R m) : vOk (PM (IC R) (fun x : Int32 => (0 ≤ x.toInt ∧ x.toInt ≤ 1) ∧ (x.toInt = 0 ∨ ((0 ≤ a1.toInt ∧ a1.toInt ≤ 9) ∧ (0 ≤ a2.toInt ∧ a2.toInt ≤ 1))))) (fX11_mode a0 a1 a2 m) := by
  have ta1 := tiB a1
  have ta2 := tiB a2
  have c0 : (0 : Int32).toInt = 0 := rfl
  have c1 : (1 : Int32).toInt = 1 := rfl
  unfold fX11_mode
  unfold fX11_mode_0
  refine vBindP (fX9_hasStair_s (qMS_1_inStation _ ha0) hI) fun v1 ev1 qv1 => ?_
  try dsimp only
  have fv1 := tiB v1
  refine vEq (fun h2 => ?_) (fun h3 => ?_)
  · unfold fX11_mode_20
    refine rM hI ?_
    first | exact True.intro | omega
  · have g4 := qv1.2.resolve_left (by omega)
    refine vBindP (fX11_within_s hI) fun v5 ev5 qv5 => ?_
    try dsimp only
    have fv5 := tiB v5
    refine vNe (fun h6 => ?_) (fun h7 => ?_)
    · have g8 := qv5.2.resolve_left (by omega)
      refine vIn (by omega) (by omega) fun n9 => ?_
      refine vR fun r10 er10 => ?_
      have hr10 : r10 ∈ pLink := by rw [er10]; exact (qMS_1_33_m2_10_inLink _ ha0 _ n9)
      refine vR fun m11 em11 => ?_
      have hm11 : IC R m11 := by rw [em11]; exact IC_put hI (qLink_ok8 _ hr10)
      refine rM hm11 ?_
      first | exact True.intro | omega
    · unfold fX11_mode_20
      refine rM hI ?_
      first | exact True.intro | omega
theorem fX11_reset_s {R : xMem} {a0 : Nat} {a1 : Int32} {m : xMem} (ha0 : a0 ∈ pMS) (hI : IC R m) : vOk (PM (IC R) (fun x : Int32 => (0 ≤ x.toInt ∧ x.toInt ≤ 1) ∧ (x.toInt = 0 ∨ ((0 ≤ a1.toInt ∧ a1.toInt ≤ 9))))) (fX11_reset a0 a1 m) := by
  have ta1 := tiB a1
  have c0 : (0 : Int32).toInt = 0 := rfl
  have c1 : (1 : Int32).toInt = 1 := rfl
  unfold fX11_reset
  unfold fX11_reset_0
  refine vBindP (fX9_hasLink_s (qMS_1_inStation _ ha0) hI) fun v1 ev1 qv1 => ?_
  try dsimp only
  have fv1 := tiB v1
  refine vEq (fun h2 => ?_) (fun h3 => ?_)
  · unfold fX11_reset_26
    refine rM hI ?_
    first | exact True.intro | omega
  · have g4 := qv1.2.resolve_left (by omega)
    refine vIn (by omega) (by omega) fun n5 => ?_
    refine vR fun r6 er6 => ?_
    have hr6 : r6 ∈ pLink := by rw [er6]; exact (qMS_1_33_m2_10_inLink _ ha0 _ n5)
    refine vR fun v7 ev7 => ?_
    have fv7 : 0 ≤ v7.toInt ∧ v7.toInt ≤ 1 := by rw [ev7]; exact IC.bc hI _ _ (qLink_bc13 _ hr6)
    refine vNe (fun h8 => ?_) (fun h9 => ?_)
    · refine vIn (by omega) (by omega) fun n10 => ?_
      refine vR fun r11 er11 => ?_
      have hr11 : r11 ∈ pLink := by rw [er11]; exact (qMS_1_33_m2_10_inLink _ ha0 _ n10)
      refine vR fun m12 em12 => ?_
      have hm12 : IC R m12 := by rw [em12]; exact IC_putB hI (qLink_kc13 _ hr11) (by omega)
      refine rM hm12 ?_
      first | exact True.intro | omega
    · unfold fX11_reset_26
      refine rM hI ?_
      first | exact True.intro | omega
theorem fX7_hasRoomFor_s {R : xMem} {a0 : Nat} {a1 : Int32} {m : xMem} (ha0 : a0 ∈ pReader) (hI : IC R m) : vOk (PP m (fun x : Int32 => (0 ≤ x.toInt ∧ x.toInt ≤ 1))) (fX7_hasRoomFor a0 a1 m) := by
  have ta1 := tiB a1
  have c0 : (0 : Int32).toInt = 0 := rfl
  have c1 : (1 : Int32).toInt = 1 := rfl
  have c300 : (300 : Int32).toInt = 300 := rfl
  unfold fX7_hasRoomFor
  unfold fX7_hasRoomFor_0
  refine vR fun v1 ev1 => ?_
  have fv1 := tiB v1
  refine vI fun v2 ev2 fv2 => ?_
  refine vLt (fun h3 => ?_) (fun h4 => ?_)
  · unfold fX7_hasRoomFor_17
    refine vB (by omega) ?_
    refine rP ?_
    first | exact True.intro | omega
  · unfold fX7_hasRoomFor_17
    refine vB (by omega) ?_
    refine rP ?_
    first | exact True.intro | omega
theorem fX7_append_3_s {R : xMem} {a0 : Nat} {a1 : Int32} (ha0 : a0 ∈ pReader) : ∀ (fuel : Nat), ∀ (l2 : Int32) (m : xMem), ((-8 ≤ l2.toInt ∧ l2.toInt ≤ 24)) → IC R m → l2.toInt + 2147483649 < (fuel : Int) → vOk (IC R) (fX7_append_3 a0 a1 fuel l2 m) := by
  intro fuel
  induction fuel with
  | zero =>
    intro l2 m hp hI hmu
    have ta1 := tiB a1
    have tl2 := tiB l2
    exfalso; omega
  | succ fuel ih =>
    intro l2 m hp hI hmu
    have ta1 := tiB a1
    have tl2 := tiB l2
    have cm8 : (-8 : Int32).toInt = -8 := rfl
    have c0 : (0 : Int32).toInt = 0 := rfl
    have c1 : (1 : Int32).toInt = 1 := rfl
    have c255 : (255 : Int32).toInt = 255 := rfl
    have c300 : (300 : Int32).toInt = 300 := rfl
    rw [fX7_append_3]
    refine vLt (fun h1 => ?_) (fun h2 => ?_)
    · exact vOk_some hI
    · refine vR fun v3 ev3 => ?_
      have fv3 := tiB v3
      refine vLt (fun h4 => ?_) (fun h5 => ?_)
      · unfold fX7_append_52
        refine vA (by omega) fun v6 ev6 fv6 => ?_
        exact ih _ _ (by omega) hI (by omega)
      · refine vAl (ev3) ?_
        refine vLe (fun h7 => ?_) (fun h8 => ?_)
        · unfold fX7_append_52
          refine vA (by omega) fun v9 ev9 fv9 => ?_
          exact ih _ _ (by omega) hI (by omega)
        · refine vAl (ev3) ?_
          refine vI fun v10 ev10 fv10 => ?_
          refine vI fun v11 ev11 fv11 => ?_
          refine vIn (by omega) (by omega) fun n12 => ?_
          refine vR fun m13 em13 => ?_
          have hm13 : IC R m13 := by rw [em13]; exact IC_arr hI (qReader_1_inArr _ ha0)
          refine vAl ((ev3).trans (xP_plE em13 (by omega))) ?_
          refine vA (by omega) fun v14 ev14 fv14 => ?_
          refine vR fun m15 em15 => ?_
          have hm15 : IC R m15 := by rw [em15]; exact IC_put hm13 (qReader_ok4 _ ha0)
          unfold fX7_append_52
          refine vA (by omega) fun v16 ev16 fv16 => ?_
          exact ih _ _ (by omega) hm15 (by omega)
theorem fX7_append_s {R : xMem} {a0 : Nat} {a1 : Int32} {m : xMem} (ha0 : a0 ∈ pReader) (hI : IC R m) : vOk (IC R) (fX7_append a0 a1 m) := by
  have ta1 := tiB a1
  have c24 : (24 : Int32).toInt = 24 := rfl
  unfold fX7_append
  unfold fX7_append_0
  have cF := xFu
  exact fX7_append_3_s ha0 _ _ _ (by omega) hI (by omega)
theorem fX11_feed_s {R : xMem} {a0 : Nat} {a1 : Int32} {a2 : Int32} {a3 : Int32} {a4 : Int32} {a5 : Int32} {m : xMem} (ha0 : a0 ∈ pMS) (hI : IC R m) : vOk (PM (IC R) (fun _ : Int32 => True)) (fX11_feed a0 a1 a2 a3 a4 a5 m) := by
  have ta1 := tiB a1
  have ta2 := tiB a2
  have ta3 := tiB a3
  have ta4 := tiB a4
  have ta5 := tiB a5
  have cm1 : (-1 : Int32).toInt = -1 := rfl
  have c0 : (0 : Int32).toInt = 0 := rfl
  have c20 : (20 : Int32).toInt = 20 := rfl
  unfold fX11_feed
  unfold fX11_feed_0
  refine vBindP (fX7_hasRoomFor_s (qMS_255_inReader _ ha0) hI) fun v1 ev1 qv1 => ?_
  try dsimp only
  have fv1 := tiB v1
  refine vNe (fun h2 => ?_) (fun h3 => ?_)
  · refine vOk_bind (fX7_append_s (qMS_255_inReader _ ha0) hI) fun m4 hm4 => ?_
    refine vOk_bind (fX7_append_s (qMS_255_inReader _ ha0) hm4) fun m5 hm5 => ?_
    refine vOk_bind (fX7_append_s (qMS_255_inReader _ ha0) hm5) fun m6 hm6 => ?_
    refine vOk_bind (fX7_append_s (qMS_255_inReader _ ha0) hm6) fun m7 hm7 => ?_
    refine vOk_bind (fX7_append_s (qMS_255_inReader _ ha0) hm7) fun m8 hm8 => ?_
    refine vR fun v9 ev9 => ?_
    have fv9 := tiB v9
    refine rM hm8 ?_
    first | exact True.intro | omega
  · refine rM hI ?_
    first | exact True.intro | omega
theorem fX11_end_s {R : xMem} {a0 : Nat} {a1 : Int32} {m : xMem} (ha0 : a0 ∈ pMS) (hI : IC R m) : vOk (PM (IC R) (fun x : Int32 => (-1 ≤ x.toInt ∧ x.toInt ≤ 2147483647) ∧ (x.toInt = -1 ∨ ((0 ≤ a1.toInt ∧ a1.toInt ≤ 2147483647))))) (fX11_end a0 a1 m) := by
  have ta1 := tiB a1
  have cm1 : (-1 : Int32).toInt = -1 := rfl
  have c0 : (0 : Int32).toInt = 0 := rfl
  unfold fX11_end
  unfold fX11_end_0
  refine vR fun v1 ev1 => ?_
  have fv1 := tiB v1
  refine vBindP (fX11_within_s hI) fun v2 ev2 qv2 => ?_
  try dsimp only
  have fv2 := tiB v2
  refine vNe (fun h3 => ?_) (fun h4 => ?_)
  · have g5 := qv2.2.resolve_left (by omega)
    refine vR fun m6 em6 => ?_
    have hm6 : IC R m6 := by rw [em6]; exact IC_put hI (qMS_255_ok4 _ ha0)
    refine rM hm6 ?_
    first | exact True.intro | omega
  · refine rM hI ?_
    first | exact True.intro | omega
theorem fX7_kind_s {R : xMem} {a0 : Nat} {m : xMem} (ha0 : a0 ∈ pReader) (hI : IC R m) : vOk (PP m (fun _ : Int32 => True)) (fX7_kind a0 m) := by
  have c0 : (0 : Int32).toInt = 0 := rfl
  have c301 : (301 : Int32).toInt = 301 := rfl
  unfold fX7_kind
  unfold fX7_kind_0
  refine vR fun v1 ev1 => ?_
  have fv1 := tiB v1
  refine vLt (fun h2 => ?_) (fun h3 => ?_)
  · unfold fX7_kind_42
    unfold fX7_kind_43
    refine rP ?_
    first | exact True.intro | omega
  · refine vAl (ev1) ?_
    refine vR fun v4 ev4 => ?_
    have fv4 := tiB v4
    refine vLe (fun h5 => ?_) (fun h6 => ?_)
    · unfold fX7_kind_42
      unfold fX7_kind_43
      refine rP ?_
      first | exact True.intro | omega
    · refine vAl (ev1) ?_
      refine vLe (fun h7 => ?_) (fun h8 => ?_)
      · unfold fX7_kind_42
        unfold fX7_kind_43
        refine rP ?_
        first | exact True.intro | omega
      · refine vAl (ev1) ?_
        refine vIn (by omega) (by omega) fun n9 => ?_
        refine vR fun v10 ev10 => ?_
        have fv10 := tiB v10
        unfold fX7_kind_43
        refine rP ?_
        first | exact True.intro | omega
theorem fX7_fails_s {R : xMem} {a0 : Nat} {a1 : Int32} {m : xMem} (ha0 : a0 ∈ pReader) (hI : IC R m) : vOk (PM (IC R) (fun x : Int32 => (0 ≤ x.toInt ∧ x.toInt ≤ 0))) (fX7_fails a0 a1 m) := by
  have ta1 := tiB a1
  have c0 : (0 : Int32).toInt = 0 := rfl
  have c301 : (301 : Int32).toInt = 301 := rfl
  unfold fX7_fails
  unfold fX7_fails_0
  refine vR fun m1 em1 => ?_
  have hm1 : IC R m1 := by rw [em1]; exact IC_put hI (qReader_ok5 _ ha0)
  refine vR fun v2 ev2 => ?_
  have fv2 := tiB v2
  refine vLt (fun h3 => ?_) (fun h4 => ?_)
  · unfold fX7_fails_48
    unfold fX7_fails_49
    refine vR fun m5 em5 => ?_
    have hm5 : IC R m5 := by rw [em5]; exact IC_put hm1 (qReader_ok6 _ ha0)
    refine rM hm5 ?_
    first | exact True.intro | omega
  · refine vAl (ev2) ?_
    refine vR fun v6 ev6 => ?_
    have fv6 := tiB v6
    refine vLe (fun h7 => ?_) (fun h8 => ?_)
    · unfold fX7_fails_48
      unfold fX7_fails_49
      refine vR fun m9 em9 => ?_
      have hm9 : IC R m9 := by rw [em9]; exact IC_put hm1 (qReader_ok6 _ ha0)
      refine rM hm9 ?_
      first | exact True.intro | omega
    · refine vAl (ev2) ?_
      refine vLe (fun h10 => ?_) (fun h11 => ?_)
      · unfold fX7_fails_48
        unfold fX7_fails_49
        refine vR fun m12 em12 => ?_
        have hm12 : IC R m12 := by rw [em12]; exact IC_put hm1 (qReader_ok6 _ ha0)
        refine rM hm12 ?_
        first | exact True.intro | omega
      · refine vAl (ev2) ?_
        refine vIn (by omega) (by omega) fun n13 => ?_
        refine vR fun v14 ev14 => ?_
        have fv14 := tiB v14
        unfold fX7_fails_49
        refine vR fun m15 em15 => ?_
        have hm15 : IC R m15 := by rw [em15]; exact IC_put hm1 (qReader_ok6 _ ha0)
        refine rM hm15 ?_
        first | exact True.intro | omega
theorem fX10_has_2_s {R : xMem} {a0 : Nat} {a1 : Int32} {m : xMem} (ha0 : a0 ∈ pText) (hI : IC R m) : ∀ (fuel : Nat), ∀ (l2 : Int32), ((0 ≤ l2.toInt ∧ l2.toInt ≤ 10)) → 2147483648 - l2.toInt < (fuel : Int) → vOk (PP m (fun x : Int32 => (0 ≤ x.toInt ∧ x.toInt ≤ 1))) (fX10_has_2 a0 a1 fuel l2 m) := by
  intro fuel
  induction fuel with
  | zero =>
    intro l2 hp hmu
    have ta1 := tiB a1
    have tl2 := tiB l2
    exfalso; omega
  | succ fuel ih =>
    intro l2 hp hmu
    have ta1 := tiB a1
    have tl2 := tiB l2
    have c0 : (0 : Int32).toInt = 0 := rfl
    have c1 : (1 : Int32).toInt = 1 := rfl
    have c10 : (10 : Int32).toInt = 10 := rfl
    rw [fX10_has_2]
    refine vR fun v1 ev1 => ?_
    have fv1 := tiB v1
    refine vLe (fun h2 => ?_) (fun h3 => ?_)
    · unfold fX10_has_37
      refine rP ?_
      first | exact True.intro | omega
    · refine vLe (fun h4 => ?_) (fun h5 => ?_)
      · unfold fX10_has_37
        refine rP ?_
        first | exact True.intro | omega
      · refine vIn (by omega) (by omega) fun n6 => ?_
        refine vR fun v7 ev7 => ?_
        have fv7 := tiB v7
        refine vNe (fun h8 => ?_) (fun h9 => ?_)
        · refine vA (by omega) fun v10 ev10 fv10 => ?_
          exact ih _ (by omega) (by omega)
        · refine rP ?_
          first | exact True.intro | omega
theorem fX10_has_s {R : xMem} {a0 : Nat} {a1 : Int32} {m : xMem} (ha0 : a0 ∈ pText) (hI : IC R m) : vOk (PP m (fun x : Int32 => (0 ≤ x.toInt ∧ x.toInt ≤ 1))) (fX10_has a0 a1 m) := by
  have ta1 := tiB a1
  have c0 : (0 : Int32).toInt = 0 := rfl
  unfold fX10_has
  unfold fX10_has_0
  have cF := xFu
  exact fX10_has_2_s ha0 hI _ _ (by omega) (by omega)
theorem fX10_open_s {R : xMem} {a0 : Nat} {a1 : Int32} {m : xMem} (ha0 : a0 ∈ pText) (hI : IC R m) : vOk (IC R) (fX10_open a0 a1 m) := by
  have ta1 := tiB a1
  have c0 : (0 : Int32).toInt = 0 := rfl
  have c1 : (1 : Int32).toInt = 1 := rfl
  have c10 : (10 : Int32).toInt = 10 := rfl
  unfold fX10_open
  unfold fX10_open_0
  refine vR fun v1 ev1 => ?_
  have fv1 := tiB v1
  refine vLt (fun h2 => ?_) (fun h3 => ?_)
  · unfold fX10_open_39
    exact vOk_some hI
  · refine vAl (ev1) ?_
    refine vLe (fun h4 => ?_) (fun h5 => ?_)
    · unfold fX10_open_39
      exact vOk_some hI
    · refine vAl (ev1) ?_
      refine vIn (by omega) (by omega) fun n6 => ?_
      refine vR fun m7 em7 => ?_
      have hm7 : IC R m7 := by rw [em7]; exact IC_arr hI (qText_3_inArr _ ha0)
      refine vAl ((ev1).trans (xP_plE em7 (by omega))) ?_
      refine vA (by omega) fun v8 ev8 fv8 => ?_
      refine vR fun m9 em9 => ?_
      have hm9 : IC R m9 := by rw [em9]; exact IC_put hm7 (qText_ok6 _ ha0)
      unfold fX10_open_39
      exact vOk_some hm9
theorem fX10_add_s {R : xMem} {a0 : Nat} {a1 : Int32} {a2 : Int32} {m : xMem} (ha0 : a0 ∈ pText) (hI : IC R m) : vOk (IC R) (fX10_add a0 a1 a2 m) := by
  have ta1 := tiB a1
  have ta2 := tiB a2
  have c0 : (0 : Int32).toInt = 0 := rfl
  have c1 : (1 : Int32).toInt = 1 := rfl
  have c300 : (300 : Int32).toInt = 300 := rfl
  unfold fX10_add
  unfold fX10_add_0
  refine vR fun v1 ev1 => ?_
  have fv1 := tiB v1
  refine vLt (fun h2 => ?_) (fun h3 => ?_)
  · unfold fX10_add_49
    exact vOk_some hI
  · refine vAl (ev1) ?_
    refine vLe (fun h4 => ?_) (fun h5 => ?_)
    · unfold fX10_add_49
      exact vOk_some hI
    · refine vAl (ev1) ?_
      refine vIn (by omega) (by omega) fun n6 => ?_
      refine vR fun m7 em7 => ?_
      have hm7 : IC R m7 := by rw [em7]; exact IC_arr hI (qText_1_inArr _ ha0)
      refine vAl ((ev1).trans (xP_plE em7 (by omega))) ?_
      refine vIn (by omega) (by omega) fun n8 => ?_
      refine vR fun m9 em9 => ?_
      have hm9 : IC R m9 := by rw [em9]; exact IC_arr hm7 (qText_2_inArr _ ha0)
      refine vAl (((ev1).trans (xP_plE em7 (by omega))).trans (xP_plE em9 (by omega))) ?_
      refine vA (by omega) fun v10 ev10 fv10 => ?_
      refine vR fun m11 em11 => ?_
      have hm11 : IC R m11 := by rw [em11]; exact IC_put hm9 (qText_ok5 _ ha0)
      unfold fX10_add_49
      exact vOk_some hm11
theorem fX7_value_s {R : xMem} {a0 : Nat} {m : xMem} (ha0 : a0 ∈ pReader) (hI : IC R m) : vOk (PP m (fun _ : Int32 => True)) (fX7_value a0 m) := by
  have c0 : (0 : Int32).toInt = 0 := rfl
  have c301 : (301 : Int32).toInt = 301 := rfl
  unfold fX7_value
  unfold fX7_value_0
  refine vR fun v1 ev1 => ?_
  have fv1 := tiB v1
  refine vLt (fun h2 => ?_) (fun h3 => ?_)
  · unfold fX7_value_42
    unfold fX7_value_43
    refine rP ?_
    first | exact True.intro | omega
  · refine vAl (ev1) ?_
    refine vR fun v4 ev4 => ?_
    have fv4 := tiB v4
    refine vLe (fun h5 => ?_) (fun h6 => ?_)
    · unfold fX7_value_42
      unfold fX7_value_43
      refine rP ?_
      first | exact True.intro | omega
    · refine vAl (ev1) ?_
      refine vLe (fun h7 => ?_) (fun h8 => ?_)
      · unfold fX7_value_42
        unfold fX7_value_43
        refine rP ?_
        first | exact True.intro | omega
      · refine vAl (ev1) ?_
        refine vIn (by omega) (by omega) fun n9 => ?_
        refine vR fun v10 ev10 => ?_
        have fv10 := tiB v10
        unfold fX7_value_43
        refine rP ?_
        first | exact True.intro | omega
theorem fX7_readOneP_s {R : xMem} {g79 : Nat → Nat → Int32 → xMem → Option (Int32 × xMem)} {g77 : Nat → Nat → Int32 → xMem → Option (Int32 × xMem)} {a0 : Nat} {a1 : Nat} {a2 : Int32} {m : xMem} (ha0 : a0 ∈ pReader) (ha1 : a1 ∈ pText) (hp : (0 ≤ a2.toInt ∧ a2.toInt ≤ 8)) {G79 : Int} {G77 : Int} (hg79 : ∀ (b0 b1 : Nat) (b2 : Int32) (m : xMem), b0 ∈ pReader → b1 ∈ pText → ((0 ≤ b2.toInt ∧ b2.toInt ≤ 8) ∧ 9 - b2.toInt ≤ G79) → IC R m → vOk (PM (IC R) (fun x : Int32 => (0 ≤ x.toInt ∧ x.toInt ≤ 1))) (g79 b0 b1 b2 m)) (hG79 : 9 - a2.toInt ≤ G79 + 1) (hg77 : ∀ (b0 b1 : Nat) (b2 : Int32) (m : xMem), b0 ∈ pReader → b1 ∈ pText → ((0 ≤ b2.toInt ∧ b2.toInt ≤ 8) ∧ 9 - b2.toInt ≤ G77) → IC R m → vOk (PM (IC R) (fun x : Int32 => (0 ≤ x.toInt ∧ x.toInt ≤ 1))) (g77 b0 b1 b2 m)) (hG77 : 9 - a2.toInt ≤ G77 + 1) (hI : IC R m) : vOk (PM (IC R) (fun x : Int32 => (0 ≤ x.toInt ∧ x.toInt ≤ 1))) (fX7_readOneP g79 g77 a0 a1 a2 m) := by
  have ta2 := tiB a2
  have c0 : (0 : Int32).toInt = 0 := rfl
  have c1 : (1 : Int32).toInt = 1 := rfl
  have c2 : (2 : Int32).toInt = 2 := rfl
  have c3 : (3 : Int32).toInt = 3 := rfl
  have c5 : (5 : Int32).toInt = 5 := rfl
  have c8 : (8 : Int32).toInt = 8 := rfl
  have c10 : (10 : Int32).toInt = 10 := rfl
  have c13 : (13 : Int32).toInt = 13 := rfl
  have c14 : (14 : Int32).toInt = 14 := rfl
  have c16 : (16 : Int32).toInt = 16 := rfl
  have c26 : (26 : Int32).toInt = 26 := rfl
  have c9999 : (9999 : Int32).toInt = 9999 := rfl
  unfold fX7_readOneP
  unfold fX7_readOneP_0
  refine vBindP (fX7_kind_s ha0 hI) fun v1 ev1 qv1 => ?_
  try dsimp only
  have fv1 := tiB v1
  refine vEq (fun h2 => ?_) (fun h3 => ?_)
  · unfold fX7_readOneP_16
    refine vNe (fun h4 => ?_) (fun h5 => ?_)
    · exfalso; omega
    · refine vBindP (fX7_value_s ha0 hI) fun v6 ev6 qv6 => ?_
      try dsimp only
      have fv6 := tiB v6
      refine vLe (fun h7 => ?_) (fun h8 => ?_)
      · unfold fX7_readOneP_37
        refine vAlB ev6 ?_
        try dsimp only
        refine vLt (fun h10 => ?_) (fun h11 => ?_)
        · unfold fX7_readOneP_50
          refine vNe (fun h12 => ?_) (fun h13 => ?_)
          · unfold fX7_readOneP_88
            refine vAlB ev6 ?_
            try dsimp only
            refine vOk_bind (fX10_add_s ha1 hI) fun m15 hm15 => ?_
            refine vR fun v16 ev16 => ?_
            have fv16 := tiB v16
            refine vI fun v17 ev17 fv17 => ?_
            refine vR fun m18 em18 => ?_
            have hm18 : IC R m18 := by rw [em18]; exact IC_put hm15 (qReader_ok8 _ ha0)
            refine rM hm18 ?_
            first | exact True.intro | omega
          · exfalso; omega
        · unfold fX7_readOneP_50
          refine vNe (fun h19 => ?_) (fun h20 => ?_)
          · unfold fX7_readOneP_88
            refine vAlB ev6 ?_
            try dsimp only
            refine vOk_bind (fX10_add_s ha1 hI) fun m22 hm22 => ?_
            refine vR fun v23 ev23 => ?_
            have fv23 := tiB v23
            refine vI fun v24 ev24 fv24 => ?_
            refine vR fun m25 em25 => ?_
            have hm25 : IC R m25 := by rw [em25]; exact IC_put hm22 (qReader_ok8 _ ha0)
            refine rM hm25 ?_
            first | exact True.intro | omega
          · exfalso; omega
      · refine vBindM (fX7_fails_s ha0 hI) fun v26 m27 hm27 qv26 => ?_
        try dsimp only
        have fv26 := tiB v26
        refine vB (by omega) ?_
        refine rM hm27 ?_
        first | exact True.intro | omega
  · refine vNe (fun h28 => ?_) (fun h29 => ?_)
    · refine vEq (fun h30 => ?_) (fun h31 => ?_)
      · unfold fX7_readOneP_127
        refine vLt (fun h32 => ?_) (fun h33 => ?_)
        · refine vR fun v34 ev34 => ?_
          have fv34 := tiB v34
          refine vI fun v35 ev35 fv35 => ?_
          refine vR fun m36 em36 => ?_
          have hm36 : IC R m36 := by rw [em36]; exact IC_put hI (qReader_ok8 _ ha0)
          refine vNe (fun h37 => ?_) (fun h38 => ?_)
          · refine vA (by omega) fun v39 ev39 fv39 => ?_
            refine vBindM (hg77 _ _ _ _ ha0 ha1 (by omega) hm36) fun v40 m41 hm41 qv40 => ?_
            try dsimp only
            have fv40 := tiB v40
            refine vEq (fun h42 => ?_) (fun h43 => ?_)
            · unfold fX7_readOneP_205
              refine vR fun v44 ev44 => ?_
              have fv44 := tiB v44
              refine vI fun v45 ev45 fv45 => ?_
              refine vR fun m46 em46 => ?_
              have hm46 : IC R m46 := by rw [em46]; exact IC_put hm41 (qReader_ok8 _ ha0)
              refine vB (by omega) ?_
              refine rM hm46 ?_
              first | exact True.intro | omega
            · refine vBindP (fX7_kind_s ha0 hm41) fun v47 ev47 qv47 => ?_
              try dsimp only
              have fv47 := tiB v47
              refine vEq (fun h48 => ?_) (fun h49 => ?_)
              · unfold fX7_readOneP_205
                refine vR fun v50 ev50 => ?_
                have fv50 := tiB v50
                refine vI fun v51 ev51 fv51 => ?_
                refine vR fun m52 em52 => ?_
                have hm52 : IC R m52 := by rw [em52]; exact IC_put hm41 (qReader_ok8 _ ha0)
                refine vB (by omega) ?_
                refine rM hm52 ?_
                first | exact True.intro | omega
              · refine vBindM (fX7_fails_s ha0 hm41) fun v53 m54 hm54 qv53 => ?_
                try dsimp only
                have fv53 := tiB v53
                refine vB (by omega) ?_
                refine rM hm54 ?_
                first | exact True.intro | omega
          · exfalso; omega
        · refine vBindM (fX7_fails_s ha0 hI) fun v55 m56 hm56 qv55 => ?_
          try dsimp only
          have fv55 := tiB v55
          refine vB (by omega) ?_
          refine rM hm56 ?_
          first | exact True.intro | omega
      · refine vEq (fun h57 => ?_) (fun h58 => ?_)
        · unfold fX7_readOneP_127
          refine vLt (fun h59 => ?_) (fun h60 => ?_)
          · refine vR fun v61 ev61 => ?_
            have fv61 := tiB v61
            refine vI fun v62 ev62 fv62 => ?_
            refine vR fun m63 em63 => ?_
            have hm63 : IC R m63 := by rw [em63]; exact IC_put hI (qReader_ok8 _ ha0)
            refine vNe (fun h64 => ?_) (fun h65 => ?_)
            · exfalso; omega
            · refine vA (by omega) fun v66 ev66 fv66 => ?_
              refine vBindM (hg79 _ _ _ _ ha0 ha1 (by omega) hm63) fun v67 m68 hm68 qv67 => ?_
              try dsimp only
              have fv67 := tiB v67
              refine vOk_bind (fX10_add_s ha1 hm68) fun m69 hm69 => ?_
              refine vB (by omega) ?_
              refine rM hm69 ?_
              first | exact True.intro | omega
          · refine vBindM (fX7_fails_s ha0 hI) fun v70 m71 hm71 qv70 => ?_
            try dsimp only
            have fv70 := tiB v70
            refine vB (by omega) ?_
            refine rM hm71 ?_
            first | exact True.intro | omega
        · refine vBindM (fX7_fails_s ha0 hI) fun v72 m73 hm73 qv72 => ?_
          try dsimp only
          have fv72 := tiB v72
          refine vB (by omega) ?_
          refine rM hm73 ?_
          first | exact True.intro | omega
    · unfold fX7_readOneP_16
      refine vNe (fun h74 => ?_) (fun h75 => ?_)
      · unfold fX7_readOneP_37
        refine vBindP (fX7_value_s ha0 hI) fun v76 ev76 qv76 => ?_
        try dsimp only
        have fv76 := tiB v76
        refine vLt (fun h77 => ?_) (fun h78 => ?_)
        · unfold fX7_readOneP_50
          refine vNe (fun h79 => ?_) (fun h80 => ?_)
          · exfalso; omega
          · refine vAlB ev76 ?_
            try dsimp only
            refine vEq (fun h82 => ?_) (fun h83 => ?_)
            · unfold fX7_readOneP_88
              refine vAlB ev76 ?_
              try dsimp only
              refine vOk_bind (fX10_add_s ha1 hI) fun m85 hm85 => ?_
              refine vR fun v86 ev86 => ?_
              have fv86 := tiB v86
              refine vI fun v87 ev87 fv87 => ?_
              refine vR fun m88 em88 => ?_
              have hm88 : IC R m88 := by rw [em88]; exact IC_put hm85 (qReader_ok8 _ ha0)
              refine rM hm88 ?_
              first | exact True.intro | omega
            · refine vR fun v89 ev89 => ?_
              have fv89 := tiB v89
              refine vNe (fun h90 => ?_) (fun h91 => ?_)
              · unfold fX7_readOneP_79
                refine vEq (fun h92 => ?_) (fun h93 => ?_)
                · unfold fX7_readOneP_88
                  refine vAlB ev76 ?_
                  try dsimp only
                  refine vOk_bind (fX10_add_s ha1 hI) fun m95 hm95 => ?_
                  refine vR fun v96 ev96 => ?_
                  have fv96 := tiB v96
                  refine vI fun v97 ev97 fv97 => ?_
                  refine vR fun m98 em98 => ?_
                  have hm98 : IC R m98 := by rw [em98]; exact IC_put hm95 (qReader_ok8 _ ha0)
                  refine rM hm98 ?_
                  first | exact True.intro | omega
                · exfalso; omega
              · unfold fX7_readOneP_79
                refine vEq (fun h99 => ?_) (fun h100 => ?_)
                · exfalso; omega
                · refine vBindM (fX7_fails_s ha0 hI) fun v101 m102 hm102 qv101 => ?_
                  try dsimp only
                  have fv101 := tiB v101
                  refine vB (by omega) ?_
                  refine rM hm102 ?_
                  first | exact True.intro | omega
        · unfold fX7_readOneP_50
          refine vNe (fun h103 => ?_) (fun h104 => ?_)
          · exfalso; omega
          · refine vAlB ev76 ?_
            try dsimp only
            refine vEq (fun h106 => ?_) (fun h107 => ?_)
            · exfalso; omega
            · refine vR fun v108 ev108 => ?_
              have fv108 := tiB v108
              refine vNe (fun h109 => ?_) (fun h110 => ?_)
              · unfold fX7_readOneP_79
                refine vEq (fun h111 => ?_) (fun h112 => ?_)
                · exfalso; omega
                · refine vBindM (fX7_fails_s ha0 hI) fun v113 m114 hm114 qv113 => ?_
                  try dsimp only
                  have fv113 := tiB v113
                  refine vB (by omega) ?_
                  refine rM hm114 ?_
                  first | exact True.intro | omega
              · unfold fX7_readOneP_79
                refine vEq (fun h115 => ?_) (fun h116 => ?_)
                · unfold fX7_readOneP_88
                  refine vAlB ev76 ?_
                  try dsimp only
                  refine vOk_bind (fX10_add_s ha1 hI) fun m118 hm118 => ?_
                  refine vR fun v119 ev119 => ?_
                  have fv119 := tiB v119
                  refine vI fun v120 ev120 fv120 => ?_
                  refine vR fun m121 em121 => ?_
                  have hm121 : IC R m121 := by rw [em121]; exact IC_put hm118 (qReader_ok8 _ ha0)
                  refine rM hm121 ?_
                  first | exact True.intro | omega
                · exfalso; omega
      · exfalso; omega
theorem fX7_readProductP_10_s {R : xMem} {g79 : Nat → Nat → Int32 → xMem → Option (Int32 × xMem)} {a0 : Nat} {a1 : Nat} {a2 : Int32} (ha0 : a0 ∈ pReader) (ha1 : a1 ∈ pText) {G79 : Int} (hg79 : ∀ (b0 b1 : Nat) (b2 : Int32) (m : xMem), b0 ∈ pReader → b1 ∈ pText → ((0 ≤ b2.toInt ∧ b2.toInt ≤ 8) ∧ 9 - b2.toInt ≤ G79) → IC R m → vOk (PM (IC R) (fun x : Int32 => (0 ≤ x.toInt ∧ x.toInt ≤ 1))) (g79 b0 b1 b2 m)) (hG79 : 9 - a2.toInt ≤ G79) : ∀ (fuel : Nat), ∀ (l3 : Int32) (l4 : Int32) (m : xMem), ((0 ≤ a2.toInt ∧ a2.toInt ≤ 8) ∧ (0 ≤ l3.toInt ∧ l3.toInt ≤ 1) ∧ (0 ≤ l4.toInt ∧ l4.toInt ≤ 300)) → IC R m → 2147483648 - l4.toInt < (fuel : Int) → vOk (PM (IC R) (fun x : Int32 => (0 ≤ x.toInt ∧ x.toInt ≤ 1))) (fX7_readProductP_10 g79 a0 a1 a2 fuel l3 l4 m) := by
  intro fuel
  induction fuel with
  | zero =>
    intro l3 l4 m hp hI hmu
    have ta2 := tiB a2
    have tl3 := tiB l3
    have tl4 := tiB l4
    exfalso; omega
  | succ fuel ih =>
    intro l3 l4 m hp hI hmu
    have ta2 := tiB a2
    have tl3 := tiB l3
    have tl4 := tiB l4
    have c0 : (0 : Int32).toInt = 0 := rfl
    have c1 : (1 : Int32).toInt = 1 := rfl
    have c11 : (11 : Int32).toInt = 11 := rfl
    have c12 : (12 : Int32).toInt = 12 := rfl
    have c300 : (300 : Int32).toInt = 300 := rfl
    rw [fX7_readProductP_10]
    refine vLe (fun h1 => ?_) (fun h2 => ?_)
    · unfold fX7_readProductP_76
      refine vB (by omega) ?_
      refine rM hI ?_
      first | exact True.intro | omega
    · refine vEq (fun h3 => ?_) (fun h4 => ?_)
      · unfold fX7_readProductP_76
        refine vB (by omega) ?_
        refine rM hI ?_
        first | exact True.intro | omega
      · refine vBindP (fX7_kind_s ha0 hI) fun v5 ev5 qv5 => ?_
        try dsimp only
        have fv5 := tiB v5
        refine vEq (fun h6 => ?_) (fun h7 => ?_)
        · unfold fX7_readProductP_40
          refine vAlB ev5 ?_
          try dsimp only
          refine vR fun v9 ev9 => ?_
          have fv9 := tiB v9
          refine vI fun v10 ev10 fv10 => ?_
          refine vR fun m11 em11 => ?_
          have hm11 : IC R m11 := by rw [em11]; exact IC_put hI (qReader_ok8 _ ha0)
          refine vBindM (hg79 _ _ _ _ ha0 ha1 (by omega) hm11) fun v12 m13 hm13 qv12 => ?_
          try dsimp only
          have fv12 := tiB v12
          refine vOk_bind (fX10_add_s ha1 hm13) fun m14 hm14 => ?_
          refine vA (by omega) fun v15 ev15 fv15 => ?_
          exact ih _ _ _ (by omega) hm14 (by omega)
        · refine vAlB ev5 ?_
          try dsimp only
          refine vNe (fun h17 => ?_) (fun h18 => ?_)
          · unfold fX7_readProductP_76
            refine vB (by omega) ?_
            refine rM hI ?_
            first | exact True.intro | omega
          · unfold fX7_readProductP_40
            refine vAlB ev5 ?_
            try dsimp only
            refine vR fun v20 ev20 => ?_
            have fv20 := tiB v20
            refine vI fun v21 ev21 fv21 => ?_
            refine vR fun m22 em22 => ?_
            have hm22 : IC R m22 := by rw [em22]; exact IC_put hI (qReader_ok8 _ ha0)
            refine vBindM (hg79 _ _ _ _ ha0 ha1 (by omega) hm22) fun v23 m24 hm24 qv23 => ?_
            try dsimp only
            have fv23 := tiB v23
            refine vOk_bind (fX10_add_s ha1 hm24) fun m25 hm25 => ?_
            refine vA (by omega) fun v26 ev26 fv26 => ?_
            exact ih _ _ _ (by omega) hm25 (by omega)
theorem fX7_readProductP_s {R : xMem} {g79 : Nat → Nat → Int32 → xMem → Option (Int32 × xMem)} {a0 : Nat} {a1 : Nat} {a2 : Int32} {m : xMem} (ha0 : a0 ∈ pReader) (ha1 : a1 ∈ pText) (hp : (0 ≤ a2.toInt ∧ a2.toInt ≤ 8)) {G79 : Int} (hg79 : ∀ (b0 b1 : Nat) (b2 : Int32) (m : xMem), b0 ∈ pReader → b1 ∈ pText → ((0 ≤ b2.toInt ∧ b2.toInt ≤ 8) ∧ 9 - b2.toInt ≤ G79) → IC R m → vOk (PM (IC R) (fun x : Int32 => (0 ≤ x.toInt ∧ x.toInt ≤ 1))) (g79 b0 b1 b2 m)) (hG79 : 9 - a2.toInt ≤ G79) (hI : IC R m) : vOk (PM (IC R) (fun x : Int32 => (0 ≤ x.toInt ∧ x.toInt ≤ 1))) (fX7_readProductP g79 a0 a1 a2 m) := by
  have ta2 := tiB a2
  have c0 : (0 : Int32).toInt = 0 := rfl
  unfold fX7_readProductP
  unfold fX7_readProductP_0
  refine vBindM (hg79 _ _ _ _ ha0 ha1 (by omega) hI) fun v1 m2 hm2 qv1 => ?_
  try dsimp only
  have fv1 := tiB v1
  have cF := xFu
  exact fX7_readProductP_10_s ha0 ha1 hg79 hG79 _ _ _ _ (by omega) hm2 (by omega)
theorem fX7_readSumP_10_s {R : xMem} {g81 : Nat → Nat → Int32 → xMem → Option (Int32 × xMem)} {a0 : Nat} {a1 : Nat} {a2 : Int32} (ha0 : a0 ∈ pReader) (ha1 : a1 ∈ pText) {G81 : Int} (hg81 : ∀ (b0 b1 : Nat) (b2 : Int32) (m : xMem), b0 ∈ pReader → b1 ∈ pText → ((0 ≤ b2.toInt ∧ b2.toInt ≤ 8) ∧ 9 - b2.toInt ≤ G81) → IC R m → vOk (PM (IC R) (fun x : Int32 => (0 ≤ x.toInt ∧ x.toInt ≤ 1))) (g81 b0 b1 b2 m)) (hG81 : 9 - a2.toInt ≤ G81) : ∀ (fuel : Nat), ∀ (l3 : Int32) (l4 : Int32) (m : xMem), ((0 ≤ a2.toInt ∧ a2.toInt ≤ 8) ∧ (0 ≤ l3.toInt ∧ l3.toInt ≤ 1) ∧ (0 ≤ l4.toInt ∧ l4.toInt ≤ 300)) → IC R m → 2147483648 - l4.toInt < (fuel : Int) → vOk (PM (IC R) (fun x : Int32 => (0 ≤ x.toInt ∧ x.toInt ≤ 1))) (fX7_readSumP_10 g81 a0 a1 a2 fuel l3 l4 m) := by
  intro fuel
  induction fuel with
  | zero =>
    intro l3 l4 m hp hI hmu
    have ta2 := tiB a2
    have tl3 := tiB l3
    have tl4 := tiB l4
    exfalso; omega
  | succ fuel ih =>
    intro l3 l4 m hp hI hmu
    have ta2 := tiB a2
    have tl3 := tiB l3
    have tl4 := tiB l4
    have c0 : (0 : Int32).toInt = 0 := rfl
    have c1 : (1 : Int32).toInt = 1 := rfl
    have c9 : (9 : Int32).toInt = 9 := rfl
    have c10 : (10 : Int32).toInt = 10 := rfl
    have c300 : (300 : Int32).toInt = 300 := rfl
    rw [fX7_readSumP_10]
    refine vLe (fun h1 => ?_) (fun h2 => ?_)
    · unfold fX7_readSumP_76
      refine vB (by omega) ?_
      refine rM hI ?_
      first | exact True.intro | omega
    · refine vEq (fun h3 => ?_) (fun h4 => ?_)
      · unfold fX7_readSumP_76
        refine vB (by omega) ?_
        refine rM hI ?_
        first | exact True.intro | omega
      · refine vBindP (fX7_kind_s ha0 hI) fun v5 ev5 qv5 => ?_
        try dsimp only
        have fv5 := tiB v5
        refine vEq (fun h6 => ?_) (fun h7 => ?_)
        · unfold fX7_readSumP_40
          refine vAlB ev5 ?_
          try dsimp only
          refine vR fun v9 ev9 => ?_
          have fv9 := tiB v9
          refine vI fun v10 ev10 fv10 => ?_
          refine vR fun m11 em11 => ?_
          have hm11 : IC R m11 := by rw [em11]; exact IC_put hI (qReader_ok8 _ ha0)
          refine vBindM (hg81 _ _ _ _ ha0 ha1 (by omega) hm11) fun v12 m13 hm13 qv12 => ?_
          try dsimp only
          have fv12 := tiB v12
          refine vOk_bind (fX10_add_s ha1 hm13) fun m14 hm14 => ?_
          refine vA (by omega) fun v15 ev15 fv15 => ?_
          exact ih _ _ _ (by omega) hm14 (by omega)
        · refine vAlB ev5 ?_
          try dsimp only
          refine vNe (fun h17 => ?_) (fun h18 => ?_)
          · unfold fX7_readSumP_76
            refine vB (by omega) ?_
            refine rM hI ?_
            first | exact True.intro | omega
          · unfold fX7_readSumP_40
            refine vAlB ev5 ?_
            try dsimp only
            refine vR fun v20 ev20 => ?_
            have fv20 := tiB v20
            refine vI fun v21 ev21 fv21 => ?_
            refine vR fun m22 em22 => ?_
            have hm22 : IC R m22 := by rw [em22]; exact IC_put hI (qReader_ok8 _ ha0)
            refine vBindM (hg81 _ _ _ _ ha0 ha1 (by omega) hm22) fun v23 m24 hm24 qv23 => ?_
            try dsimp only
            have fv23 := tiB v23
            refine vOk_bind (fX10_add_s ha1 hm24) fun m25 hm25 => ?_
            refine vA (by omega) fun v26 ev26 fv26 => ?_
            exact ih _ _ _ (by omega) hm25 (by omega)
theorem fX7_readSumP_s {R : xMem} {g81 : Nat → Nat → Int32 → xMem → Option (Int32 × xMem)} {a0 : Nat} {a1 : Nat} {a2 : Int32} {m : xMem} (ha0 : a0 ∈ pReader) (ha1 : a1 ∈ pText) (hp : (0 ≤ a2.toInt ∧ a2.toInt ≤ 8)) {G81 : Int} (hg81 : ∀ (b0 b1 : Nat) (b2 : Int32) (m : xMem), b0 ∈ pReader → b1 ∈ pText → ((0 ≤ b2.toInt ∧ b2.toInt ≤ 8) ∧ 9 - b2.toInt ≤ G81) → IC R m → vOk (PM (IC R) (fun x : Int32 => (0 ≤ x.toInt ∧ x.toInt ≤ 1))) (g81 b0 b1 b2 m)) (hG81 : 9 - a2.toInt ≤ G81) (hI : IC R m) : vOk (PM (IC R) (fun x : Int32 => (0 ≤ x.toInt ∧ x.toInt ≤ 1))) (fX7_readSumP g81 a0 a1 a2 m) := by
  have ta2 := tiB a2
  have c0 : (0 : Int32).toInt = 0 := rfl
  unfold fX7_readSumP
  unfold fX7_readSumP_0
  refine vBindM (hg81 _ _ _ _ ha0 ha1 (by omega) hI) fun v1 m2 hm2 qv1 => ?_
  try dsimp only
  have fv1 := tiB v1
  have cF := xFu
  exact fX7_readSumP_10_s ha0 ha1 hg81 hG81 _ _ _ _ (by omega) hm2 (by omega)
theorem fX7_rec_s {R : xMem} : ∀ (n : Nat) (b0 b1 : Nat) (b2 : Int32) (m : xMem), b0 ∈ pReader → b1 ∈ pText → ((0 ≤ b2.toInt ∧ b2.toInt ≤ 8) ∧ 9 - b2.toInt ≤ (n : Int)) → IC R m → vOk (PM (IC R) (fun x : Int32 => (0 ≤ x.toInt ∧ x.toInt ≤ 1))) (fX7_rec n b0 b1 b2 m) := by
  intro n
  induction n with
  | zero => intro b0 b1 b2 m _ _ h _; exfalso; omega
  | succ n ih =>
    intro b0 b1 b2 m h0 h1 h hI
    refine fX7_readOneP_s h0 h1 h.1 (G79 := n) (G77 := n) ih (by omega) ?_ (by omega) hI
    intro c0 c1 c2 m' k0 k1 k hI'
    refine fX7_readSumP_s k0 k1 k.1 (G81 := n) ?_ (by omega) hI'
    intro d0 d1 d2 m'' l0 l1 l hI''
    exact fX7_readProductP_s l0 l1 l.1 (G79 := n) ih (by omega) hI''
theorem fX7_readSum_s {R : xMem} {a0 a1 : Nat} {a2 : Int32} {m : xMem} (h0 : a0 ∈ pReader) (h1 : a1 ∈ pText) (h : 0 ≤ a2.toInt ∧ a2.toInt ≤ 8) (hI : IC R m) : vOk (PM (IC R) (fun x : Int32 => (0 ≤ x.toInt ∧ x.toInt ≤ 1))) (fX7_readSum a0 a1 a2 m) := by
  unfold fX7_readSum
  refine fX7_readSumP_s h0 h1 h (G81 := 10) ?_ (by omega) hI
  intro d0 d1 d2 m'' l0 l1 l hJ
  exact fX7_readProductP_s l0 l1 l.1 (G79 := 10) (fX7_rec_s 10) (by omega) hJ
theorem fX7_readAskP_s {R : xMem} {g84 : Nat → Nat → Int32 → xMem → Option (Int32 × xMem)} {a0 : Nat} {a1 : Nat} {a2 : Int32} {m : xMem} (ha0 : a0 ∈ pReader) (ha1 : a1 ∈ pText) (hp : (0 ≤ a2.toInt ∧ a2.toInt ≤ 8)) {G84 : Int} (hg84 : ∀ (b0 b1 : Nat) (b2 : Int32) (m : xMem), b0 ∈ pReader → b1 ∈ pText → ((0 ≤ b2.toInt ∧ b2.toInt ≤ 8) ∧ 9 - b2.toInt ≤ G84) → IC R m → vOk (PM (IC R) (fun x : Int32 => (0 ≤ x.toInt ∧ x.toInt ≤ 1))) (g84 b0 b1 b2 m)) (hG84 : 9 - a2.toInt ≤ G84 + 1) (hI : IC R m) : vOk (PM (IC R) (fun x : Int32 => (0 ≤ x.toInt ∧ x.toInt ≤ 1))) (fX7_readAskP g84 a0 a1 a2 m) := by
  have ta2 := tiB a2
  have c0 : (0 : Int32).toInt = 0 := rfl
  have c1 : (1 : Int32).toInt = 1 := rfl
  have c3 : (3 : Int32).toInt = 3 := rfl
  have c8 : (8 : Int32).toInt = 8 := rfl
  have c25 : (25 : Int32).toInt = 25 := rfl
  unfold fX7_readAskP
  unfold fX7_readAskP_0
  refine vBindP (fX7_kind_s ha0 hI) fun v1 ev1 qv1 => ?_
  try dsimp only
  have fv1 := tiB v1
  refine vNe (fun h2 => ?_) (fun h3 => ?_)
  · refine vBindM (fX7_readSum_s ha0 ha1 (by omega) hI) fun v4 m5 hm5 qv4 => ?_
    try dsimp only
    have fv4 := tiB v4
    refine vNe (fun h6 => ?_) (fun h7 => ?_)
    · refine vBindP (fX7_kind_s ha0 hm5) fun v8 ev8 qv8 => ?_
      try dsimp only
      have fv8 := tiB v8
      refine vLt (fun h9 => ?_) (fun h10 => ?_)
      · unfold fX7_readAskP_76
        refine vBindM (fX7_fails_s ha0 hm5) fun v11 m12 hm12 qv11 => ?_
        try dsimp only
        have fv11 := tiB v11
        refine vB (by omega) ?_
        refine rM hm12 ?_
        first | exact True.intro | omega
      · refine vLe (fun h13 => ?_) (fun h14 => ?_)
        · refine vR fun v15 ev15 => ?_
          have fv15 := tiB v15
          refine vI fun v16 ev16 fv16 => ?_
          refine vR fun m17 em17 => ?_
          have hm17 : IC R m17 := by rw [em17]; exact IC_put hm5 (qReader_ok8 _ ha0)
          refine vBindM (fX7_readSum_s ha0 ha1 (by omega) hm17) fun v18 m19 hm19 qv18 => ?_
          try dsimp only
          have fv18 := tiB v18
          refine vOk_bind (fX10_add_s ha1 hm19) fun m20 hm20 => ?_
          refine vB (by omega) ?_
          refine rM hm20 ?_
          first | exact True.intro | omega
        · unfold fX7_readAskP_76
          refine vBindM (fX7_fails_s ha0 hm5) fun v21 m22 hm22 qv21 => ?_
          try dsimp only
          have fv21 := tiB v21
          refine vB (by omega) ?_
          refine rM hm22 ?_
          first | exact True.intro | omega
    · refine rM hm5 ?_
      first | exact True.intro | omega
  · refine vLt (fun h23 => ?_) (fun h24 => ?_)
    · refine vR fun v25 ev25 => ?_
      have fv25 := tiB v25
      refine vI fun v26 ev26 fv26 => ?_
      refine vR fun m27 em27 => ?_
      have hm27 : IC R m27 := by rw [em27]; exact IC_put hI (qReader_ok8 _ ha0)
      refine vA (by omega) fun v28 ev28 fv28 => ?_
      refine vBindM (hg84 _ _ _ _ ha0 ha1 (by omega) hm27) fun v29 m30 hm30 qv29 => ?_
      try dsimp only
      have fv29 := tiB v29
      refine vOk_bind (fX10_add_s ha1 hm30) fun m31 hm31 => ?_
      refine vB (by omega) ?_
      refine rM hm31 ?_
      first | exact True.intro | omega
    · refine vBindM (fX7_fails_s ha0 hI) fun v32 m33 hm33 qv32 => ?_
      try dsimp only
      have fv32 := tiB v32
      refine vB (by omega) ?_
      refine rM hm33 ?_
      first | exact True.intro | omega
theorem fX7_recA_s {R : xMem} : ∀ (n : Nat) (b0 b1 : Nat) (b2 : Int32) (m : xMem), b0 ∈ pReader → b1 ∈ pText → ((0 ≤ b2.toInt ∧ b2.toInt ≤ 8) ∧ 9 - b2.toInt ≤ (n : Int)) → IC R m → vOk (PM (IC R) (fun x : Int32 => (0 ≤ x.toInt ∧ x.toInt ≤ 1))) (fX7_recA n b0 b1 b2 m) := by
  intro n
  induction n with
  | zero => intro b0 b1 b2 m _ _ h _; exfalso; omega
  | succ n ih =>
    intro b0 b1 b2 m h0 h1 h hI
    exact fX7_readAskP_s h0 h1 h.1 (G84 := n) ih (by omega) hI
theorem fX7_readAsk_s {R : xMem} {a0 a1 : Nat} {a2 : Int32} {m : xMem} (h0 : a0 ∈ pReader) (h1 : a1 ∈ pText) (h : 0 ≤ a2.toInt ∧ a2.toInt ≤ 8) (hI : IC R m) : vOk (PM (IC R) (fun x : Int32 => (0 ≤ x.toInt ∧ x.toInt ≤ 1))) (fX7_readAsk a0 a1 a2 m) := by
  unfold fX7_readAsk
  exact fX7_recA_s 10 a0 a1 a2 m h0 h1 (by omega) hI
theorem fX7_readBoth_9_s {R : xMem} {a0 : Nat} {a1 : Nat} (ha0 : a0 ∈ pReader) (ha1 : a1 ∈ pText) : ∀ (fuel : Nat), ∀ (l2 : Int32) (l3 : Int32) (m : xMem), ((0 ≤ l2.toInt ∧ l2.toInt ≤ 1) ∧ (0 ≤ l3.toInt ∧ l3.toInt ≤ 300)) → IC R m → 2147483648 - l3.toInt < (fuel : Int) → vOk (PM (IC R) (fun x : Int32 => (0 ≤ x.toInt ∧ x.toInt ≤ 1))) (fX7_readBoth_9 a0 a1 fuel l2 l3 m) := by
  intro fuel
  induction fuel with
  | zero =>
    intro l2 l3 m hp hI hmu
    have tl2 := tiB l2
    have tl3 := tiB l3
    exfalso; omega
  | succ fuel ih =>
    intro l2 l3 m hp hI hmu
    have tl2 := tiB l2
    have tl3 := tiB l3
    have c0 : (0 : Int32).toInt = 0 := rfl
    have c1 : (1 : Int32).toInt = 1 := rfl
    have c24 : (24 : Int32).toInt = 24 := rfl
    have c300 : (300 : Int32).toInt = 300 := rfl
    rw [fX7_readBoth_9]
    refine vLe (fun h1 => ?_) (fun h2 => ?_)
    · unfold fX7_readBoth_59
      refine vB (by omega) ?_
      refine rM hI ?_
      first | exact True.intro | omega
    · refine vEq (fun h3 => ?_) (fun h4 => ?_)
      · unfold fX7_readBoth_59
        refine vB (by omega) ?_
        refine rM hI ?_
        first | exact True.intro | omega
      · refine vBindP (fX7_kind_s ha0 hI) fun v5 ev5 qv5 => ?_
        try dsimp only
        have fv5 := tiB v5
        refine vNe (fun h6 => ?_) (fun h7 => ?_)
        · unfold fX7_readBoth_59
          refine vB (by omega) ?_
          refine rM hI ?_
          first | exact True.intro | omega
        · refine vR fun v8 ev8 => ?_
          have fv8 := tiB v8
          refine vI fun v9 ev9 fv9 => ?_
          refine vR fun m10 em10 => ?_
          have hm10 : IC R m10 := by rw [em10]; exact IC_put hI (qReader_ok8 _ ha0)
          refine vBindM (fX7_readAsk_s ha0 ha1 (by omega) hm10) fun v11 m12 hm12 qv11 => ?_
          try dsimp only
          have fv11 := tiB v11
          refine vOk_bind (fX10_add_s ha1 hm12) fun m13 hm13 => ?_
          refine vA (by omega) fun v14 ev14 fv14 => ?_
          exact ih _ _ _ (by omega) hm13 (by omega)
theorem fX7_readBoth_s {R : xMem} {a0 : Nat} {a1 : Nat} {m : xMem} (ha0 : a0 ∈ pReader) (ha1 : a1 ∈ pText) (hI : IC R m) : vOk (PM (IC R) (fun x : Int32 => (0 ≤ x.toInt ∧ x.toInt ≤ 1))) (fX7_readBoth a0 a1 m) := by
  have c0 : (0 : Int32).toInt = 0 := rfl
  unfold fX7_readBoth
  unfold fX7_readBoth_0
  refine vBindM (fX7_readAsk_s ha0 ha1 (by omega) hI) fun v1 m2 hm2 qv1 => ?_
  try dsimp only
  have fv1 := tiB v1
  have cF := xFu
  exact fX7_readBoth_9_s ha0 ha1 _ _ _ _ (by omega) hm2 (by omega)
