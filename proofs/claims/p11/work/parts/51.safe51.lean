/-! SAFETY of the class's methods, printed by wip/tools/vc.py -/
theorem fX11_felt_56_s {R : xMem} {a0 : Nat} {a1 : Int32} {a2 : Int32} (ha0 : a0 ∈ pMS) : ∀ (fuel : Nat), ∀ (l3 : Nat) (l4 : Int32) (l5 : Int32) (m : xMem), l3 ∈ pText → ((0 ≤ a1.toInt ∧ a1.toInt ≤ 9) ∧ (1 ≤ a2.toInt ∧ a2.toInt ≤ 300) ∧ (0 ≤ l5.toInt ∧ l5.toInt ≤ 300)) → IC R m → 2147483648 - l5.toInt < (fuel : Int) → vOk (PM (IC R) (fun x : Int32 => (-1 ≤ x.toInt ∧ x.toInt ≤ 299) ∧ (x.toInt = -1 ∨ ((0 ≤ a1.toInt ∧ a1.toInt ≤ 9) ∧ (1 ≤ a2.toInt ∧ a2.toInt ≤ 300))))) (fX11_felt_56 a0 a1 a2 fuel l3 l4 l5 m) := by
  intro fuel
  induction fuel with
  | zero =>
    intro l3 l4 l5 m hl3 hp hI hmu
    have ta1 := tiB a1
    have ta2 := tiB a2
    have tl4 := tiB l4
    have tl5 := tiB l5
    exfalso; omega
  | succ fuel ih =>
    intro l3 l4 l5 m hl3 hp hI hmu
    have ta1 := tiB a1
    have ta2 := tiB a2
    have tl4 := tiB l4
    have tl5 := tiB l5
    have cm1 : (-1 : Int32).toInt = -1 := rfl
    have c0 : (0 : Int32).toInt = 0 := rfl
    have c1 : (1 : Int32).toInt = 1 := rfl
    rw [fX11_felt_56]
    refine vLe (fun h1 => ?_) (fun h2 => ?_)
    · refine rM hI ?_
      first | exact True.intro | omega
    · refine vOk_bind (fX6_passSecond_sT (qMS_250_inMover _ ha0) (qMS_167_inTried _ ha0) hl3 hI) fun m3 hm3 => ?_
      refine vBindP (fX9_hasHall_s (qMS_167_inStation _ ha0) hm3) fun v4 ev4 qv4 => ?_
      try dsimp only
      have fv4 := tiB v4
      refine vEq (fun h5 => ?_) (fun h6 => ?_)
      · unfold fX11_felt_105
        refine vA (by omega) fun v7 ev7 fv7 => ?_
        exact ih _ _ _ _ hl3 (by omega) hm3 (by omega)
      · have g8 := qv4.2.resolve_left (by omega)
        refine vIn (by omega) (by omega) fun n9 => ?_
        refine vR fun r10 er10 => ?_
        have hr10 : r10 ∈ pHall := by rw [er10]; exact (qMS_167_15_m3_6_inHall _ ha0 _ n9)
        refine vBindP (fX2_isOver_s hr10 hm3) fun v11 ev11 qv11 => ?_
        try dsimp only
        have fv11 := tiB v11
        refine vEq (fun h12 => ?_) (fun h13 => ?_)
        · unfold fX11_felt_105
          refine vA (by omega) fun v14 ev14 fv14 => ?_
          exact ih _ _ _ _ hl3 (by omega) hm3 (by omega)
        · refine rM hm3 ?_
          first | exact True.intro | omega
theorem fX11_felt_s {R : xMem} {a0 : Nat} {a1 : Int32} {a2 : Int32} {m : xMem} (ha0 : a0 ∈ pMS) (hI : IC R m) : vOk (PM (IC R) (fun x : Int32 => (-1 ≤ x.toInt ∧ x.toInt ≤ 299) ∧ (x.toInt = -1 ∨ ((0 ≤ a1.toInt ∧ a1.toInt ≤ 9) ∧ (1 ≤ a2.toInt ∧ a2.toInt ≤ 300))))) (fX11_felt a0 a1 a2 m) := by
  have ta1 := tiB a1
  have ta2 := tiB a2
  have cm1 : (-1 : Int32).toInt = -1 := rfl
  have c0 : (0 : Int32).toInt = 0 := rfl
  unfold fX11_felt
  unfold fX11_felt_0
  refine vBindP (fX11_mayRun_s ha0 hI) fun v1 ev1 qv1 => ?_
  try dsimp only
  have fv1 := tiB v1
  refine vEq (fun h2 => ?_) (fun h3 => ?_)
  · unfold fX11_felt_19
    refine rM hI ?_
    first | exact True.intro | omega
  · have g4 := qv1.2.resolve_left (by omega)
    refine vBindP (fX9_hasStair_s (qMS_1_inStation _ ha0) hI) fun v5 ev5 qv5 => ?_
    try dsimp only
    have fv5 := tiB v5
    refine vNe (fun h6 => ?_) (fun h7 => ?_)
    · have g8 := qv5.2.resolve_left (by omega)
      refine vBindM (fX11_beginTrial_s ha0 hI) fun v9 m10 hm10 qv9 => ?_
      try dsimp only
      refine vIn (by omega) (by omega) fun n11 => ?_
      refine vR fun r12 er12 => ?_
      have hr12 : r12 ∈ pLinkT := by rw [er12]; exact (qMS_167_33_m2_10_inLinkT _ ha0 _ n11)
      refine vFoot fun v13 ev13 fv13 => ?_
      try dsimp only
      refine vIn (by omega) (by omega) fun n14 => ?_
      refine vR fun r15 er15 => ?_
      have hr15 : r15 ∈ pLinkT := by rw [er15]; exact (qMS_167_33_m2_10_inLinkT _ ha0 _ n14)
      refine vOk_bind (fX3_turnTo_s (qLinkT_inLink _ hr15) hm10) fun m16 hm16 => ?_
      have cF := xFu
      exact fX11_felt_56_s ha0 _ _ _ _ _ qv9 (by omega) hm16 (by omega)
    · unfold fX11_felt_19
      refine rM hI ?_
      first | exact True.intro | omega
theorem fX11_offByMode_34_s {R : xMem} {a0 : Nat} {a1 : Int32} {a2 : Int32} {a3 : Int32} (ha0 : a0 ∈ pMS) : ∀ (fuel : Nat), ∀ (l4 : Nat) (l5 : Int32) (m : xMem), l4 ∈ pText → ((0 ≤ a1.toInt ∧ a1.toInt ≤ 9) ∧ (0 ≤ l5.toInt ∧ l5.toInt ≤ 2147483647)) → IC R m → 2147483648 - l5.toInt < (fuel : Int) → vOk (PM (IC R) (fun x : Int32 => (x.toInt = 0 ∨ ((0 ≤ a1.toInt ∧ a1.toInt ≤ 9))))) (fX11_offByMode_34 a0 a1 a2 a3 fuel l4 l5 m) := by
  intro fuel
  induction fuel with
  | zero =>
    intro l4 l5 m hl4 hp hI hmu
    have ta1 := tiB a1
    have ta2 := tiB a2
    have ta3 := tiB a3
    have tl5 := tiB l5
    exfalso; omega
  | succ fuel ih =>
    intro l4 l5 m hl4 hp hI hmu
    have ta1 := tiB a1
    have ta2 := tiB a2
    have ta3 := tiB a3
    have tl5 := tiB l5
    have c1 : (1 : Int32).toInt = 1 := rfl
    rw [fX11_offByMode_34]
    refine vLe (fun h1 => ?_) (fun h2 => ?_)
    · refine vIn (by omega) (by omega) fun n3 => ?_
      refine vR fun r4 er4 => ?_
      have hr4 : r4 ∈ pLinkT := by rw [er4]; exact (qMS_167_33_m2_10_inLinkT _ ha0 _ n3)
      refine vR fun v5 ev5 => ?_
      have fv5 := tiB v5
      refine vIn (by omega) (by omega) fun n6 => ?_
      refine vR fun r7 er7 => ?_
      have hr7 : r7 ∈ pLink := by rw [er7]; exact (qMS_1_33_m2_10_inLink _ ha0 _ n6)
      refine vR fun v8 ev8 => ?_
      have fv8 := tiB v8
      refine vI fun v9 ev9 fv9 => ?_
      refine rM hI ?_
      first | exact True.intro | omega
    · refine vOk_bind (fX6_passSecond_sT (qMS_250_inMover _ ha0) (qMS_167_inTried _ ha0) hl4 hI) fun m10 hm10 => ?_
      refine vA (by omega) fun v11 ev11 fv11 => ?_
      exact ih _ _ _ hl4 (by omega) hm10 (by omega)
theorem fX11_offByMode_s {R : xMem} {a0 : Nat} {a1 : Int32} {a2 : Int32} {a3 : Int32} {m : xMem} (ha0 : a0 ∈ pMS) (hI : IC R m) : vOk (PM (IC R) (fun x : Int32 => (x.toInt = 0 ∨ ((0 ≤ a1.toInt ∧ a1.toInt ≤ 9))))) (fX11_offByMode a0 a1 a2 a3 m) := by
  have ta1 := tiB a1
  have ta2 := tiB a2
  have ta3 := tiB a3
  have c0 : (0 : Int32).toInt = 0 := rfl
  have c9 : (9 : Int32).toInt = 9 := rfl
  unfold fX11_offByMode
  unfold fX11_offByMode_0
  refine vBindP (fX11_within_s hI) fun v1 ev1 qv1 => ?_
  try dsimp only
  have fv1 := tiB v1
  refine vNe (fun h2 => ?_) (fun h3 => ?_)
  · have g4 := qv1.2.resolve_left (by omega)
    refine vBindM (fX11_beginTrial_s ha0 hI) fun v5 m6 hm6 qv5 => ?_
    try dsimp only
    refine vIn (by omega) (by omega) fun n7 => ?_
    refine vR fun r8 er8 => ?_
    have hr8 : r8 ∈ pLinkT := by rw [er8]; exact (qMS_167_33_m2_10_inLinkT _ ha0 _ n7)
    refine vR fun m9 em9 => ?_
    have hm9 : IC R m9 := by rw [em9]; exact IC_put hm6 (qLinkT_ok8 _ hr8)
    have cF := xFu
    exact fX11_offByMode_34_s ha0 _ _ _ _ qv5 (by omega) hm9 (by omega)
  · refine rM hI ?_
    first | exact True.intro | omega
theorem fX11_standing_s {R : xMem} {a0 : Nat} {a1 : Int32} {a2 : Int32} {m : xMem} (ha0 : a0 ∈ pMS) (hI : IC R m) : vOk (PM (IC R) (fun _ : Int32 => True)) (fX11_standing a0 a1 a2 m) := by
  have ta1 := tiB a1
  have ta2 := tiB a2
  have cm1000000 : (-1000000 : Int32).toInt = -1000000 := rfl
  have c0 : (0 : Int32).toInt = 0 := rfl
  have c1 : (1 : Int32).toInt = 1 := rfl
  unfold fX11_standing
  unfold fX11_standing_0
  refine vBindP (fX11_mayRun_s ha0 hI) fun v1 ev1 qv1 => ?_
  try dsimp only
  have fv1 := tiB v1
  refine vEq (fun h2 => ?_) (fun h3 => ?_)
  · unfold fX11_standing_19
    refine rM hI ?_
    first | exact True.intro | omega
  · have g4 := qv1.2.resolve_left (by omega)
    refine vBindP (fX9_hasStair_s (qMS_1_inStation _ ha0) hI) fun v5 ev5 qv5 => ?_
    try dsimp only
    have fv5 := tiB v5
    refine vNe (fun h6 => ?_) (fun h7 => ?_)
    · have g8 := qv5.2.resolve_left (by omega)
      refine vBindM (fX11_offByMode_s ha0 hI) fun v9 m10 hm10 qv9 => ?_
      try dsimp only
      have fv9 := tiB v9
      refine vBindM (fX11_offByMode_s ha0 hm10) fun v11 m12 hm12 qv11 => ?_
      try dsimp only
      have fv11 := tiB v11
      refine vI fun v13 ev13 fv13 => ?_
      refine rM hm12 ?_
      first | exact True.intro | omega
    · unfold fX11_standing_19
      refine rM hI ?_
      first | exact True.intro | omega
theorem fX11_mayStandAlone_s {R : xMem} {a0 : Int32} {a1 : Int32} {m : xMem} (hI : IC R m) : vOk (PP m (fun x : Int32 => (0 ≤ x.toInt ∧ x.toInt ≤ 1) ∧ (x.toInt = 0 ∨ ((2 ≤ a0.toInt ∧ a0.toInt ≤ 40) ∧ (1 ≤ a1.toInt ∧ a1.toInt ≤ 999))))) (fX11_mayStandAlone a0 a1 m) := by
  have ta0 := tiB a0
  have ta1 := tiB a1
  have c0 : (0 : Int32).toInt = 0 := rfl
  have c1 : (1 : Int32).toInt = 1 := rfl
  have c2 : (2 : Int32).toInt = 2 := rfl
  have c40 : (40 : Int32).toInt = 40 := rfl
  have c999 : (999 : Int32).toInt = 999 := rfl
  unfold fX11_mayStandAlone
  unfold fX11_mayStandAlone_0
  refine vBindP (fX11_within_s hI) fun v1 ev1 qv1 => ?_
  try dsimp only
  have fv1 := tiB v1
  refine vEq (fun h2 => ?_) (fun h3 => ?_)
  · unfold fX11_mayStandAlone_25
    unfold fX11_mayStandAlone_26
    refine vB (by omega) ?_
    refine rP ?_
    first | exact True.intro | omega
  · have g4 := qv1.2.resolve_left (by omega)
    refine vBindP (fX11_within_s hI) fun v5 ev5 qv5 => ?_
    try dsimp only
    have fv5 := tiB v5
    refine vEq (fun h6 => ?_) (fun h7 => ?_)
    · unfold fX11_mayStandAlone_25
      unfold fX11_mayStandAlone_26
      refine vB (by omega) ?_
      refine rP ?_
      first | exact True.intro | omega
    · have g8 := qv5.2.resolve_left (by omega)
      unfold fX11_mayStandAlone_26
      refine vB (by omega) ?_
      refine rP ?_
      first | exact True.intro | omega
theorem fX9_buildAlone_sT {R : xMem} {a0 : Nat} {a1 : Int32} {a2 : Int32} {a3 : Int32} {m : xMem} (ha0 : a0 ∈ pTried) (hI : IC R m) : vOk (IC R) (fX9_buildAlone a0 a1 a2 a3 m) := by
  have ta1 := tiB a1
  have ta2 := tiB a2
  have ta3 := tiB a3
  have c0 : (0 : Int32).toInt = 0 := rfl
  have c1 : (1 : Int32).toInt = 1 := rfl
  have c2 : (2 : Int32).toInt = 2 := rfl
  unfold fX9_buildAlone
  unfold fX9_buildAlone_0
  refine vR fun m1 em1 => ?_
  have hm1 : IC R m1 := by rw [em1]; exact IC_put hI (qTried_ok7 _ ha0)
  refine vR fun m2 em2 => ?_
  have hm2 : IC R m2 := by rw [em2]; exact IC_put hm1 (qTried_ok8 _ ha0)
  refine vR fun m3 em3 => ?_
  have hm3 : IC R m3 := by rw [em3]; exact IC_put hm2 (qTried_ok9 _ ha0)
  refine vIn (by omega) (by omega) fun n4 => ?_
  refine vR fun r5 er5 => ?_
  have hr5 : r5 ∈ pHall := by rw [er5]; exact (qTried_15_m3_6_inHall _ ha0 _ n4)
  refine vOk_bind (fX2_build_s hr5 hm3) fun m6 hm6 => ?_
  refine vIn (by omega) (by omega) fun n7 => ?_
  refine vR fun r8 er8 => ?_
  have hr8 : r8 ∈ pHall := by rw [er8]; exact (qTried_15_m3_6_inHall _ ha0 _ n7)
  refine vOk_bind (fX2_build_s hr8 hm6) fun m9 hm9 => ?_
  refine vIn (by omega) (by omega) fun n10 => ?_
  refine vR fun r11 er11 => ?_
  have hr11 : r11 ∈ pLinkT := by rw [er11]; exact (qTried_33_m2_10_inLinkT _ ha0 _ n10)
  refine vOk_bind (fX3_build_sT hr11 hm9) fun m12 hm12 => ?_
  refine vIn (by omega) (by omega) fun n13 => ?_
  refine vR fun r14 er14 => ?_
  have hr14 : r14 ∈ pLinkT := by rw [er14]; exact (qTried_33_m2_10_inLinkT _ ha0 _ n13)
  refine vR fun m15 em15 => ?_
  have hm15 : IC R m15 := by rw [em15]; exact IC_put hm12 (qLinkT_ok8 _ hr14)
  refine vOk_bind (fX9_comeTo_s (qTried_inStation _ ha0) hm15) fun m16 hm16 => ?_
  exact vOk_some hm16
theorem fX11_carriedAlone_48_s {R : xMem} {a0 : Nat} {a1 : Int32} {a2 : Int32} {a3 : Int32} {a4 : Int32} (ha0 : a0 ∈ pMS) : ∀ (fuel : Nat), ∀ (l5 : Nat) (l6 : Int32) (m : xMem), l5 ∈ pLinkT → ((0 ≤ l6.toInt ∧ l6.toInt ≤ 2147483647)) → IC R m → 2147483648 - l6.toInt < (fuel : Int) → vOk (PM (IC R) (fun _ : Int32 => True)) (fX11_carriedAlone_48 a0 a1 a2 a3 a4 fuel l5 l6 m) := by
  intro fuel
  induction fuel with
  | zero =>
    intro l5 l6 m hl5 hp hI hmu
    have ta1 := tiB a1
    have ta2 := tiB a2
    have ta3 := tiB a3
    have ta4 := tiB a4
    have tl6 := tiB l6
    exfalso; omega
  | succ fuel ih =>
    intro l5 l6 m hl5 hp hI hmu
    have ta1 := tiB a1
    have ta2 := tiB a2
    have ta3 := tiB a3
    have ta4 := tiB a4
    have tl6 := tiB l6
    have c0 : (0 : Int32).toInt = 0 := rfl
    have c1 : (1 : Int32).toInt = 1 := rfl
    rw [fX11_carriedAlone_48]
    refine vLe (fun h1 => ?_) (fun h2 => ?_)
    · refine vR fun v3 ev3 => ?_
      have fv3 := tiB v3
      refine rM hI ?_
      first | exact True.intro | omega
    · refine vOk_bind (fX6_moveStair_s (qMS_250_inMover _ ha0) (qMS_167_inStation _ ha0) (qLinkT_inLink _ hl5) hI) fun m4 hm4 => ?_
      refine vOk_bind (fX6_takeUpToTwo_s (qMS_250_inMover _ ha0) (qMS_167_inStation _ ha0) hm4) fun m5 hm5 => ?_
      refine vA (by omega) fun v6 ev6 fv6 => ?_
      exact ih _ _ _ hl5 (by omega) hm5 (by omega)
theorem fX11_carriedAlone_s {R : xMem} {a0 : Nat} {a1 : Int32} {a2 : Int32} {a3 : Int32} {a4 : Int32} {m : xMem} (ha0 : a0 ∈ pMS) (hI : IC R m) : vOk (PM (IC R) (fun _ : Int32 => True)) (fX11_carriedAlone a0 a1 a2 a3 a4 m) := by
  have ta1 := tiB a1
  have ta2 := tiB a2
  have ta3 := tiB a3
  have ta4 := tiB a4
  have c0 : (0 : Int32).toInt = 0 := rfl
  have c2 : (2 : Int32).toInt = 2 := rfl
  unfold fX11_carriedAlone
  unfold fX11_carriedAlone_0
  refine vI fun v1 ev1 fv1 => ?_
  refine vOk_bind (fX9_buildAlone_sT (qMS_167_inTried _ ha0) hI) fun m2 hm2 => ?_
  refine vOk_bind (fX6_forgetRoutes_s (qMS_250_inMover _ ha0) hm2) fun m3 hm3 => ?_
  refine vOk_bind (fX8_find_s (qMS_250_1_inRoutes _ ha0) (qMS_167_inStation _ ha0) hm3) fun m4 hm4 => ?_
  refine vIn (by omega) (by omega) fun n5 => ?_
  refine vR fun r6 er6 => ?_
  have hr6 : r6 ∈ pLinkT := by rw [er6]; exact (qMS_167_33_m2_10_inLinkT _ ha0 _ n5)
  have cF := xFu
  exact fX11_carriedAlone_48_s ha0 _ _ _ _ hr6 (by omega) hm4 (by omega)
theorem fX11_alone_s {R : xMem} {a0 : Nat} {a1 : Int32} {a2 : Int32} {a3 : Int32} {a4 : Int32} {m : xMem} (ha0 : a0 ∈ pMS) (hI : IC R m) : vOk (PM (IC R) (fun x : Int32 => (x.toInt = -1 ∨ ((2 ≤ a1.toInt ∧ a1.toInt ≤ 40) ∧ (0 ≤ a2.toInt ∧ a2.toInt ≤ 10) ∧ (0 ≤ a3.toInt ∧ a3.toInt ≤ 1) ∧ (1 ≤ a4.toInt ∧ a4.toInt ≤ 999))))) (fX11_alone a0 a1 a2 a3 a4 m) := by
  have ta1 := tiB a1
  have ta2 := tiB a2
  have ta3 := tiB a3
  have ta4 := tiB a4
  have cm1 : (-1 : Int32).toInt = -1 := rfl
  have c0 : (0 : Int32).toInt = 0 := rfl
  have c1 : (1 : Int32).toInt = 1 := rfl
  have c10 : (10 : Int32).toInt = 10 := rfl
  unfold fX11_alone
  unfold fX11_alone_0
  refine vBindP (fX11_within_s hI) fun v1 ev1 qv1 => ?_
  try dsimp only
  have fv1 := tiB v1
  refine vEq (fun h2 => ?_) (fun h3 => ?_)
  · unfold fX11_alone_28
    refine rM hI ?_
    first | exact True.intro | omega
  · have g4 := qv1.2.resolve_left (by omega)
    refine vBindP (fX11_within_s hI) fun v5 ev5 qv5 => ?_
    try dsimp only
    have fv5 := tiB v5
    refine vEq (fun h6 => ?_) (fun h7 => ?_)
    · unfold fX11_alone_28
      refine rM hI ?_
      first | exact True.intro | omega
    · have g8 := qv5.2.resolve_left (by omega)
      refine vBindP (fX11_mayStandAlone_s hI) fun v9 ev9 qv9 => ?_
      try dsimp only
      have fv9 := tiB v9
      refine vNe (fun h10 => ?_) (fun h11 => ?_)
      · have g12 := qv9.2.resolve_left (by omega)
        refine vBindM (fX11_carriedAlone_s ha0 hI) fun v13 m14 hm14 qv13 => ?_
        try dsimp only
        have fv13 := tiB v13
        refine rM hm14 ?_
        first | exact True.intro | omega
      · unfold fX11_alone_28
        refine rM hI ?_
        first | exact True.intro | omega
theorem fX11_crossing_22_s {R : xMem} {a0 : Nat} {a1 : Int32} {a2 : Int32} (ha0 : a0 ∈ pMS) : ∀ (fuel : Nat), ∀ (l3 : Int32) (l4 : Int32) (m : xMem), ((2 ≤ a1.toInt ∧ a1.toInt ≤ 40) ∧ (1 ≤ a2.toInt ∧ a2.toInt ≤ 999) ∧ (0 ≤ l4.toInt ∧ l4.toInt ≤ 11)) → IC R m → 2147483648 - l4.toInt < (fuel : Int) → vOk (PM (IC R) (fun x : Int32 => (-1 ≤ x.toInt ∧ x.toInt ≤ 10) ∧ (x.toInt = -1 ∨ ((2 ≤ a1.toInt ∧ a1.toInt ≤ 40) ∧ (1 ≤ a2.toInt ∧ a2.toInt ≤ 999))))) (fX11_crossing_22 a0 a1 a2 fuel l3 l4 m) := by
  intro fuel
  induction fuel with
  | zero =>
    intro l3 l4 m hp hI hmu
    have ta1 := tiB a1
    have ta2 := tiB a2
    have tl3 := tiB l3
    have tl4 := tiB l4
    exfalso; omega
  | succ fuel ih =>
    intro l3 l4 m hp hI hmu
    have ta1 := tiB a1
    have ta2 := tiB a2
    have tl3 := tiB l3
    have tl4 := tiB l4
    have cm1 : (-1 : Int32).toInt = -1 := rfl
    have c0 : (0 : Int32).toInt = 0 := rfl
    have c1 : (1 : Int32).toInt = 1 := rfl
    have c10 : (10 : Int32).toInt = 10 := rfl
    rw [fX11_crossing_22]
    refine vLt (fun h1 => ?_) (fun h2 => ?_)
    · refine rM hI ?_
      first | exact True.intro | omega
    · refine vBindM (fX11_carriedAlone_s ha0 hI) fun v3 m4 hm4 qv3 => ?_
      try dsimp only
      have fv3 := tiB v3
      refine vLt (fun h5 => ?_) (fun h6 => ?_)
      · refine vA (by omega) fun v7 ev7 fv7 => ?_
        exact ih _ _ _ (by omega) hm4 (by omega)
      · refine rM hm4 ?_
        first | exact True.intro | omega
theorem fX11_crossing_s {R : xMem} {a0 : Nat} {a1 : Int32} {a2 : Int32} {m : xMem} (ha0 : a0 ∈ pMS) (hI : IC R m) : vOk (PM (IC R) (fun x : Int32 => (-1 ≤ x.toInt ∧ x.toInt ≤ 10) ∧ (x.toInt = -1 ∨ ((2 ≤ a1.toInt ∧ a1.toInt ≤ 40) ∧ (1 ≤ a2.toInt ∧ a2.toInt ≤ 999))))) (fX11_crossing a0 a1 a2 m) := by
  have ta1 := tiB a1
  have ta2 := tiB a2
  have cm1 : (-1 : Int32).toInt = -1 := rfl
  have c0 : (0 : Int32).toInt = 0 := rfl
  have c1 : (1 : Int32).toInt = 1 := rfl
  unfold fX11_crossing
  unfold fX11_crossing_0
  refine vBindP (fX11_mayStandAlone_s hI) fun v1 ev1 qv1 => ?_
  try dsimp only
  have fv1 := tiB v1
  refine vNe (fun h2 => ?_) (fun h3 => ?_)
  · have g4 := qv1.2.resolve_left (by omega)
    refine vBindM (fX11_carriedAlone_s ha0 hI) fun v5 m6 hm6 qv5 => ?_
    try dsimp only
    have fv5 := tiB v5
    have cF := xFu
    exact fX11_crossing_22_s ha0 _ _ _ _ (by omega) hm6 (by omega)
  · refine rM hI ?_
    first | exact True.intro | omega
theorem fX1_meanEffect_7_s {R : xMem} {a0 : Nat} {m : xMem} (ha0 : a0 ∈ pDays) (hI : IC R m) : ∀ (fuel : Nat), ∀ (l1 : Int64) (l3 : Int32) (l4 : Int32), ((0 ≤ l4.toInt ∧ l4.toInt ≤ 6)) → 2147483648 - l4.toInt < (fuel : Int) → vOk (PP m (fun _ : Int32 => True)) (fX1_meanEffect_7 a0 fuel l1 l3 l4 m) := by
  intro fuel
  induction fuel with
  | zero =>
    intro l1 l3 l4 hp hmu
    have tl3 := tiB l3
    have tl4 := tiB l4
    exfalso; omega
  | succ fuel ih =>
    intro l1 l3 l4 hp hmu
    have tl3 := tiB l3
    have tl4 := tiB l4
    have cm1000000000 : (-1000000000 : Int32).toInt = -1000000000 := rfl
    have c0 : (0 : Int32).toInt = 0 := rfl
    have c1 : (1 : Int32).toInt = 1 := rfl
    have c6 : (6 : Int32).toInt = 6 := rfl
    rw [fX1_meanEffect_7]
    refine vLe (fun h1 => ?_) (fun h2 => ?_)
    · refine vLe (fun h3 => ?_) (fun h4 => ?_)
      · unfold fX1_meanEffect_121
        refine rP ?_
        first | exact True.intro | omega
      · refine vR fun v5 ev5 => ?_
        refine vNzL (longZ ev5 (by omega)) ?_
        refine vAny fun v6 => ?_
        refine vI fun v7 ev7 fv7 => ?_
        unfold fX1_meanEffect_121
        refine rP ?_
        first | exact True.intro | omega
    · refine vA (by omega) fun v8 ev8 fv8 => ?_
      refine vIn (by omega) (by omega) fun n9 => ?_
      refine vR fun v10 ev10 => ?_
      have fv10 := tiB v10
      refine vIn (by omega) (by omega) fun n11 => ?_
      refine vR fun v12 ev12 => ?_
      have fv12 := tiB v12
      refine vLe (fun h13 => ?_) (fun h14 => ?_)
      · unfold fX1_meanEffect_101
        refine vA (by omega) fun v15 ev15 fv15 => ?_
        exact ih _ _ _ (by omega) (by omega)
      · refine vLe (fun h16 => ?_) (fun h17 => ?_)
        · unfold fX1_meanEffect_101
          refine vA (by omega) fun v18 ev18 fv18 => ?_
          exact ih _ _ _ (by omega) (by omega)
        · refine vAl ev8 ?_
          refine vIn (by omega) (by omega) fun n19 => ?_
          refine vR fun v20 ev20 => ?_
          have fv20 := tiB v20
          refine vR fun v21 ev21 => ?_
          refine vAny fun v22 => ?_
          refine vR fun v23 ev23 => ?_
          refine vNzL (longZ ev23 (by omega)) ?_
          refine vAny fun v24 => ?_
          refine vIn (by omega) (by omega) fun n25 => ?_
          refine vR fun v26 ev26 => ?_
          have fv26 := tiB v26
          refine vR fun v27 ev27 => ?_
          refine vAny fun v28 => ?_
          refine vR fun v29 ev29 => ?_
          refine vNzL (longZ ev29 (by omega)) ?_
          refine vAny fun v30 => ?_
          refine vAny fun v31 => ?_
          refine vR fun v32 ev32 => ?_
          refine vAny fun v33 => ?_
          refine vAny fun v34 => ?_
          refine vI fun v35 ev35 fv35 => ?_
          unfold fX1_meanEffect_101
          refine vA (by omega) fun v36 ev36 fv36 => ?_
          exact ih _ _ _ (by omega) (by omega)
theorem fX1_meanEffect_s {R : xMem} {a0 : Nat} {m : xMem} (ha0 : a0 ∈ pDays) (hI : IC R m) : vOk (PP m (fun _ : Int32 => True)) (fX1_meanEffect a0 m) := by
  have c0 : (0 : Int32).toInt = 0 := rfl
  unfold fX1_meanEffect
  unfold fX1_meanEffect_0
  have cF := xFu
  exact fX1_meanEffect_7_s ha0 hI _ _ _ _ (by omega) (by omega)
theorem fX11_effect_s {R : xMem} {a0 : Nat} {m : xMem} (ha0 : a0 ∈ pMS) (hI : IC R m) : vOk (PP m (fun _ : Int32 => True)) (fX11_effect a0 m) := by
  unfold fX11_effect
  unfold fX11_effect_0
  refine vBindP (fX1_meanEffect_s (qMS_1_4_inDays _ ha0) hI) fun v1 ev1 qv1 => ?_
  try dsimp only
  have fv1 := tiB v1
  refine rP ?_
  first | exact True.intro | omega
theorem fX5_countBy_107_s {R : xMem} {a0 : Nat} {a1 : Int32} {a2 : Int32} {rec87 : Int32 → Int32 → Int32 → Int32 → xMem → Option (Int32 × xMem)} {m : xMem} {M87 : Int} (ha0 : a0 ∈ pMends) (hI : IC R m) (hrec87 : ∀ (l3 : Int32) (l4 : Int32) (l5 : Int32) (l6 : Int32), ((0 ≤ a2.toInt ∧ a2.toInt ≤ 5) ∧ (0 ≤ l3.toInt ∧ l3.toInt ≤ 63) ∧ (0 ≤ l6.toInt ∧ l6.toInt ≤ 6)) → 2147483648 - l6.toInt < M87 → vOk (PP m (fun x : Int32 => (x.toInt = 0 ∨ ((0 ≤ a2.toInt ∧ a2.toInt ≤ 5))))) (rec87 l3 l4 l5 l6 m)) : ∀ (fuel : Nat), ∀ (l3 : Int32) (l4 : Int32) (l5 : Int32) (l6 : Int32) (l7 : Int32), ((0 ≤ a2.toInt ∧ a2.toInt ≤ 5) ∧ (0 ≤ l3.toInt ∧ l3.toInt ≤ 63) ∧ (0 ≤ l6.toInt ∧ l6.toInt ≤ 5)) → 2147483648 - l6.toInt ≤ M87 → 2147483648 - l7.toInt < (fuel : Int) → vOk (PP m (fun x : Int32 => (x.toInt = 0 ∨ ((0 ≤ a2.toInt ∧ a2.toInt ≤ 5))))) (fX5_countBy_107 a0 a1 a2 rec87 fuel l3 l4 l5 l6 l7 m) := by
  intro fuel
  induction fuel with
  | zero =>
    intro l3 l4 l5 l6 l7 hp hM87 hmu
    have ta1 := tiB a1
    have ta2 := tiB a2
    have tl3 := tiB l3
    have tl4 := tiB l4
    have tl5 := tiB l5
    have tl6 := tiB l6
    have tl7 := tiB l7
    exfalso; omega
  | succ fuel ih =>
    intro l3 l4 l5 l6 l7 hp hM87 hmu
    have ta1 := tiB a1
    have ta2 := tiB a2
    have tl3 := tiB l3
    have tl4 := tiB l4
    have tl5 := tiB l5
    have tl6 := tiB l6
    have tl7 := tiB l7
    have c0 : (0 : Int32).toInt = 0 := rfl
    have c1 : (1 : Int32).toInt = 1 := rfl
    rw [fX5_countBy_107]
    refine vIn (by omega) (by omega) fun n1 => ?_
    refine vR fun v2 ev2 => ?_
    have fv2 := tiB v2
    refine vI fun v3 ev3 fv3 => ?_
    refine vLe (fun h4 => ?_) (fun h5 => ?_)
    · refine vA (by omega) fun v6 ev6 fv6 => ?_
      exact hrec87 _ _ _ _ (by omega) (by omega)
    · refine vI fun v7 ev7 fv7 => ?_
      refine vI fun v8 ev8 fv8 => ?_
      refine vNe (fun h9 => ?_) (fun h10 => ?_)
      · unfold fX5_countBy_161
        refine vA (by omega) fun v11 ev11 fv11 => ?_
        exact ih _ _ _ _ _ (by omega) (by omega) (by omega)
      · refine vIn (by omega) (by omega) fun n12 => ?_
        refine vR fun v13 ev13 => ?_
        have fv13 := tiB v13
        refine vIn (by omega) (by omega) fun n14 => ?_
        refine vR fun v15 ev15 => ?_
        have fv15 := tiB v15
        refine vI fun v16 ev16 fv16 => ?_
        refine vI fun v17 ev17 fv17 => ?_
        refine vIn (by omega) (by omega) fun n18 => ?_
        refine vR fun v19 ev19 => ?_
        have fv19 := tiB v19
        refine vLe (fun h20 => ?_) (fun h21 => ?_)
        · unfold fX5_countBy_161
          refine vA (by omega) fun v22 ev22 fv22 => ?_
          exact ih _ _ _ _ _ (by omega) (by omega) (by omega)
        · refine vI fun v23 ev23 fv23 => ?_
          unfold fX5_countBy_161
          refine vA (by omega) fun v24 ev24 fv24 => ?_
          exact ih _ _ _ _ _ (by omega) (by omega) (by omega)
theorem fX5_countBy_87_s {R : xMem} {a0 : Nat} {a1 : Int32} {a2 : Int32} {m : xMem} (ha0 : a0 ∈ pMends) (hI : IC R m) : ∀ (fuel : Nat), ∀ (l3 : Int32) (l4 : Int32) (l5 : Int32) (l6 : Int32), ((0 ≤ a2.toInt ∧ a2.toInt ≤ 5) ∧ (0 ≤ l3.toInt ∧ l3.toInt ≤ 63) ∧ (0 ≤ l6.toInt ∧ l6.toInt ≤ 6)) → 2147483648 - l6.toInt < (fuel : Int) → vOk (PP m (fun x : Int32 => (x.toInt = 0 ∨ ((0 ≤ a2.toInt ∧ a2.toInt ≤ 5))))) (fX5_countBy_87 a0 a1 a2 fuel l3 l4 l5 l6 m) := by
  intro fuel
  induction fuel with
  | zero =>
    intro l3 l4 l5 l6 hp hmu
    have ta1 := tiB a1
    have ta2 := tiB a2
    have tl3 := tiB l3
    have tl4 := tiB l4
    have tl5 := tiB l5
    have tl6 := tiB l6
    exfalso; omega
  | succ fuel ih =>
    intro l3 l4 l5 l6 hp hmu
    have ta1 := tiB a1
    have ta2 := tiB a2
    have tl3 := tiB l3
    have tl4 := tiB l4
    have tl5 := tiB l5
    have tl6 := tiB l6
    have c6 : (6 : Int32).toInt = 6 := rfl
    rw [fX5_countBy_87]
    refine vR fun v1 ev1 => ?_
    have fv1 := tiB v1
    refine vLe (fun h2 => ?_) (fun h3 => ?_)
    · unfold fX5_countBy_173
      refine rP ?_
      first | exact True.intro | omega
    · refine vLe (fun h4 => ?_) (fun h5 => ?_)
      · unfold fX5_countBy_173
        refine rP ?_
        first | exact True.intro | omega
      · have cF := xFu
        exact fX5_countBy_107_s ha0 hI ih _ _ _ _ _ _ (by omega) (by omega) (by omega)
theorem fX5_countBy_37_s {R : xMem} {a0 : Nat} {a1 : Int32} {a2 : Int32} {m : xMem} (ha0 : a0 ∈ pMends) (hI : IC R m) : ∀ (fuel : Nat), ∀ (l3 : Int32) (l4 : Int32) (l5 : Int32), ((0 ≤ a2.toInt ∧ a2.toInt ≤ 5) ∧ (0 ≤ l3.toInt ∧ l3.toInt ≤ 63) ∧ (0 ≤ l5.toInt ∧ l5.toInt ≤ 6)) → 2147483648 - l5.toInt < (fuel : Int) → vOk (PP m (fun x : Int32 => (x.toInt = 0 ∨ ((0 ≤ a2.toInt ∧ a2.toInt ≤ 5))))) (fX5_countBy_37 a0 a1 a2 fuel l3 l4 l5 m) := by
  intro fuel
  induction fuel with
  | zero =>
    intro l3 l4 l5 hp hmu
    have ta1 := tiB a1
    have ta2 := tiB a2
    have tl3 := tiB l3
    have tl4 := tiB l4
    have tl5 := tiB l5
    exfalso; omega
  | succ fuel ih =>
    intro l3 l4 l5 hp hmu
    have ta1 := tiB a1
    have ta2 := tiB a2
    have tl3 := tiB l3
    have tl4 := tiB l4
    have tl5 := tiB l5
    have c0 : (0 : Int32).toInt = 0 := rfl
    have c1 : (1 : Int32).toInt = 1 := rfl
    have c6 : (6 : Int32).toInt = 6 := rfl
    rw [fX5_countBy_37]
    refine vLe (fun h1 => ?_) (fun h2 => ?_)
    · refine vIn (by omega) (by omega) fun n3 => ?_
      refine vR fun v4 ev4 => ?_
      have fv4 := tiB v4
      have cF := xFu
      exact fX5_countBy_87_s ha0 hI _ _ _ _ _ (by omega) (by omega)
    · refine vI fun v5 ev5 fv5 => ?_
      refine vI fun v6 ev6 fv6 => ?_
      refine vNe (fun h7 => ?_) (fun h8 => ?_)
      · unfold fX5_countBy_67
        refine vA (by omega) fun v9 ev9 fv9 => ?_
        refine vA (by omega) fun v10 ev10 fv10 => ?_
        exact ih _ _ _ (by omega) (by omega)
      · refine vIn (by omega) (by omega) fun n11 => ?_
        refine vR fun v12 ev12 => ?_
        have fv12 := tiB v12
        unfold fX5_countBy_67
        refine vI fun v13 ev13 fv13 => ?_
        refine vA (by omega) fun v14 ev14 fv14 => ?_
        exact ih _ _ _ (by omega) (by omega)
theorem fX5_countBy_s {R : xMem} {a0 : Nat} {a1 : Int32} {a2 : Int32} {m : xMem} (ha0 : a0 ∈ pMends) (hI : IC R m) : vOk (PP m (fun x : Int32 => (x.toInt = 0 ∨ ((0 ≤ a2.toInt ∧ a2.toInt ≤ 5))))) (fX5_countBy a0 a1 a2 m) := by
  have ta1 := tiB a1
  have ta2 := tiB a2
  have c0 : (0 : Int32).toInt = 0 := rfl
  have c1 : (1 : Int32).toInt = 1 := rfl
  have c6 : (6 : Int32).toInt = 6 := rfl
  have c64 : (64 : Int32).toInt = 64 := rfl
  unfold fX5_countBy
  unfold fX5_countBy_0
  refine vI fun v1 ev1 fv1 => ?_
  refine vI fun v2 ev2 fv2 => ?_
  refine vLt (fun h3 => ?_) (fun h4 => ?_)
  · unfold fX5_countBy_29
    refine rP ?_
    first | exact True.intro | omega
  · refine vLe (fun h5 => ?_) (fun h6 => ?_)
    · unfold fX5_countBy_29
      refine rP ?_
      first | exact True.intro | omega
    · refine vLt (fun h7 => ?_) (fun h8 => ?_)
      · unfold fX5_countBy_29
        refine rP ?_
        first | exact True.intro | omega
      · refine vLt (fun h9 => ?_) (fun h10 => ?_)
        · have cF := xFu
          exact fX5_countBy_37_s ha0 hI _ _ _ _ (by omega) (by omega)
        · unfold fX5_countBy_29
          refine rP ?_
          first | exact True.intro | omega
theorem fX5_bestNext_7_s {R : xMem} {a0 : Nat} {a1 : Int32} {m : xMem} (ha0 : a0 ∈ pMends) (hI : IC R m) : ∀ (fuel : Nat), ∀ (l2 : Int32) (l3 : Int32) (l4 : Int32), ((-1 ≤ l2.toInt ∧ l2.toInt ≤ 5) ∧ (0 ≤ l4.toInt ∧ l4.toInt ≤ 6)) → 2147483648 - l4.toInt < (fuel : Int) → vOk (PP m (fun x : Int32 => (-1 ≤ x.toInt ∧ x.toInt ≤ 5))) (fX5_bestNext_7 a0 a1 fuel l2 l3 l4 m) := by
  intro fuel
  induction fuel with
  | zero =>
    intro l2 l3 l4 hp hmu
    have ta1 := tiB a1
    have tl2 := tiB l2
    have tl3 := tiB l3
    have tl4 := tiB l4
    exfalso; omega
  | succ fuel ih =>
    intro l2 l3 l4 hp hmu
    have ta1 := tiB a1
    have tl2 := tiB l2
    have tl3 := tiB l3
    have tl4 := tiB l4
    have cm1 : (-1 : Int32).toInt = -1 := rfl
    have c0 : (0 : Int32).toInt = 0 := rfl
    have c1 : (1 : Int32).toInt = 1 := rfl
    have c6 : (6 : Int32).toInt = 6 := rfl
    rw [fX5_bestNext_7]
    refine vR fun v1 ev1 => ?_
    have fv1 := tiB v1
    refine vLe (fun h2 => ?_) (fun h3 => ?_)
    · unfold fX5_bestNext_64
      refine rP ?_
      first | exact True.intro | omega
    · refine vLe (fun h4 => ?_) (fun h5 => ?_)
      · unfold fX5_bestNext_64
        refine rP ?_
        first | exact True.intro | omega
      · refine vI fun v6 ev6 fv6 => ?_
        refine vI fun v7 ev7 fv7 => ?_
        refine vNe (fun h8 => ?_) (fun h9 => ?_)
        · unfold fX5_bestNext_58
          refine vA (by omega) fun v10 ev10 fv10 => ?_
          exact ih _ _ _ (by omega) (by omega)
        · refine vBindP (fX5_countBy_s ha0 hI) fun v11 ev11 qv11 => ?_
          try dsimp only
          have fv11 := tiB v11
          refine vEq (fun h12 => ?_) (fun h13 => ?_)
          · unfold fX5_bestNext_52
            unfold fX5_bestNext_58
            refine vA (by omega) fun v14 ev14 fv14 => ?_
            exact ih _ _ _ (by omega) (by omega)
          · refine vLe (fun h15 => ?_) (fun h16 => ?_)
            · unfold fX5_bestNext_58
              refine vA (by omega) fun v17 ev17 fv17 => ?_
              exact ih _ _ _ (by omega) (by omega)
            · unfold fX5_bestNext_52
              unfold fX5_bestNext_58
              refine vA (by omega) fun v18 ev18 fv18 => ?_
              exact ih _ _ _ (by omega) (by omega)
theorem fX5_bestNext_s {R : xMem} {a0 : Nat} {a1 : Int32} {m : xMem} (ha0 : a0 ∈ pMends) (hI : IC R m) : vOk (PP m (fun x : Int32 => (-1 ≤ x.toInt ∧ x.toInt ≤ 5))) (fX5_bestNext a0 a1 m) := by
  have ta1 := tiB a1
  have cm1 : (-1 : Int32).toInt = -1 := rfl
  have c0 : (0 : Int32).toInt = 0 := rfl
  unfold fX5_bestNext
  unfold fX5_bestNext_0
  have cF := xFu
  exact fX5_bestNext_7_s ha0 hI _ _ _ _ (by omega) (by omega)
theorem fX5_inTurn_4_s {R : xMem} {a0 : Nat} {a1 : Int32} {m : xMem} (ha0 : a0 ∈ pMends) (hI : IC R m) : ∀ (fuel : Nat), ∀ (l2 : Int32) (l3 : Int32), ((0 ≤ l3.toInt ∧ l3.toInt ≤ 6)) → 2147483648 - l3.toInt < (fuel : Int) → vOk (PP m (fun x : Int32 => (-1 ≤ x.toInt ∧ x.toInt ≤ 5))) (fX5_inTurn_4 a0 a1 fuel l2 l3 m) := by
  intro fuel
  induction fuel with
  | zero =>
    intro l2 l3 hp hmu
    have ta1 := tiB a1
    have tl2 := tiB l2
    have tl3 := tiB l3
    exfalso; omega
  | succ fuel ih =>
    intro l2 l3 hp hmu
    have ta1 := tiB a1
    have tl2 := tiB l2
    have tl3 := tiB l3
    have cm1 : (-1 : Int32).toInt = -1 := rfl
    have c1 : (1 : Int32).toInt = 1 := rfl
    have c6 : (6 : Int32).toInt = 6 := rfl
    rw [fX5_inTurn_4]
    refine vLe (fun h1 => ?_) (fun h2 => ?_)
    · unfold fX5_inTurn_41
      refine vBindP (fX5_bestNext_s ha0 hI) fun v3 ev3 qv3 => ?_
      try dsimp only
      have fv3 := tiB v3
      refine rP ?_
      first | exact True.intro | omega
    · refine vLe (fun h4 => ?_) (fun h5 => ?_)
      · unfold fX5_inTurn_41
        refine vBindP (fX5_bestNext_s ha0 hI) fun v6 ev6 qv6 => ?_
        try dsimp only
        have fv6 := tiB v6
        refine rP ?_
        first | exact True.intro | omega
      · refine vBindP (fX5_bestNext_s ha0 hI) fun v7 ev7 qv7 => ?_
        try dsimp only
        have fv7 := tiB v7
        refine vEq (fun h8 => ?_) (fun h9 => ?_)
        · unfold fX5_inTurn_35
          refine vA (by omega) fun v10 ev10 fv10 => ?_
          exact ih _ _ (by omega) (by omega)
        · refine vI fun v11 ev11 fv11 => ?_
          refine vI fun v12 ev12 fv12 => ?_
          unfold fX5_inTurn_35
          refine vA (by omega) fun v13 ev13 fv13 => ?_
          exact ih _ _ (by omega) (by omega)
theorem fX5_inTurn_s {R : xMem} {a0 : Nat} {a1 : Int32} {m : xMem} (ha0 : a0 ∈ pMends) (hI : IC R m) : vOk (PP m (fun x : Int32 => (-1 ≤ x.toInt ∧ x.toInt ≤ 5))) (fX5_inTurn a0 a1 m) := by
  have ta1 := tiB a1
  have c0 : (0 : Int32).toInt = 0 := rfl
  unfold fX5_inTurn
  unfold fX5_inTurn_0
  have cF := xFu
  exact fX5_inTurn_4_s ha0 hI _ _ _ (by omega) (by omega)
theorem fX5_weigh_21_s {R : xMem} {a0 : Nat} (ha0 : a0 ∈ pMends) : ∀ (fuel : Nat), ∀ (l2 : Int32) (m : xMem), ((-2147483648 ≤ l2.toInt ∧ l2.toInt ≤ 63)) → IC R m → l2.toInt + 2147483649 < (fuel : Int) → vOk (IC R) (fX5_weigh_21 a0 fuel l2 m) := by
  intro fuel
  induction fuel with
  | zero =>
    intro l2 m hp hI hmu
    have tl2 := tiB l2
    exfalso; omega
  | succ fuel ih =>
    intro l2 m hp hI hmu
    have tl2 := tiB l2
    have cm1 : (-1 : Int32).toInt = -1 := rfl
    have c0 : (0 : Int32).toInt = 0 := rfl
    rw [fX5_weigh_21]
    refine vLt (fun h1 => ?_) (fun h2 => ?_)
    · exact vOk_some hI
    · refine vBindP (fX5_bestNext_s ha0 hI) fun v3 ev3 qv3 => ?_
      try dsimp only
      have fv3 := tiB v3
      refine vNe (fun h4 => ?_) (fun h5 => ?_)
      · refine vBindP (fX5_countBy_s ha0 hI) fun v6 ev6 qv6 => ?_
        try dsimp only
        have fv6 := tiB v6
        unfold fX5_weigh_51
        refine vIn (by omega) (by omega) fun n7 => ?_
        refine vR fun m8 em8 => ?_
        have hm8 : IC R m8 := by rw [em8]; exact IC_arr hI (qMends_5_inArr _ ha0)
        refine vA (by omega) fun v9 ev9 fv9 => ?_
        exact ih _ _ (by omega) hm8 (by omega)
      · unfold fX5_weigh_51
        refine vIn (by omega) (by omega) fun n10 => ?_
        refine vR fun m11 em11 => ?_
        have hm11 : IC R m11 := by rw [em11]; exact IC_arr hI (qMends_5_inArr _ ha0)
        refine vA (by omega) fun v12 ev12 fv12 => ?_
        exact ih _ _ (by omega) hm11 (by omega)
theorem fX5_weigh_s {R : xMem} {a0 : Nat} {m : xMem} (ha0 : a0 ∈ pMends) (hI : IC R m) : vOk (IC R) (fX5_weigh a0 m) := by
  have c1 : (1 : Int32).toInt = 1 := rfl
  have c64 : (64 : Int32).toInt = 64 := rfl
  unfold fX5_weigh
  unfold fX5_weigh_0
  refine vR fun v1 ev1 => ?_
  have fv1 := tiB v1
  refine vI fun v2 ev2 fv2 => ?_
  refine vI fun v3 ev3 fv3 => ?_
  refine vS (by omega) fun v4 ev4 fv4 => ?_
  refine vMin fun v5 ev5 fv5 => ?_
  have cF := xFu
  exact fX5_weigh_21_s ha0 _ _ _ (by omega) hI (by omega)
theorem fX11_order_s {R : xMem} {a0 : Nat} {a1 : Int32} {m : xMem} (ha0 : a0 ∈ pMS) (hI : IC R m) : vOk (PM (IC R) (fun x : Int32 => (x.toInt = -1 ∨ ((-1 ≤ a1.toInt ∧ a1.toInt ≤ 2147483646))))) (fX11_order a0 a1 m) := by
  have ta1 := tiB a1
  have cm1 : (-1 : Int32).toInt = -1 := rfl
  have c0 : (0 : Int32).toInt = 0 := rfl
  have c1 : (1 : Int32).toInt = 1 := rfl
  unfold fX11_order
  unfold fX11_order_0
  refine vR fun v1 ev1 => ?_
  have fv1 := tiB v1
  refine vLe (fun h2 => ?_) (fun h3 => ?_)
  · unfold fX11_order_33
    refine rM hI ?_
    first | exact True.intro | omega
  · refine vAl (ev1) ?_
    refine vS (by omega) fun v4 ev4 fv4 => ?_
    refine vBindP (fX11_within_s hI) fun v5 ev5 qv5 => ?_
    try dsimp only
    have fv5 := tiB v5
    refine vNe (fun h6 => ?_) (fun h7 => ?_)
    · have g8 := qv5.2.resolve_left (by omega)
      refine vOk_bind (fX5_weigh_s (qMS_1_7_inMends _ ha0) hI) fun m9 hm9 => ?_
      refine vNe (fun h10 => ?_) (fun h11 => ?_)
      · refine vBindP (fX5_inTurn_s (qMS_1_7_inMends _ ha0) hm9) fun v12 ev12 qv12 => ?_
        try dsimp only
        have fv12 := tiB v12
        unfold fX11_order_76
        refine rM hm9 ?_
        first | exact True.intro | omega
      · refine vIn (by omega) (by omega) fun n13 => ?_
        refine vR fun v14 ev14 => ?_
        have fv14 := tiB v14
        unfold fX11_order_76
        refine rM hm9 ?_
        first | exact True.intro | omega
    · unfold fX11_order_33
      refine rM hI ?_
      first | exact True.intro | omega
theorem fX4_steppedOn_69_s {R : xMem} {a0 : Nat} {a1 : Int32} {a2 : Int32} {rec46 : Int32 → Int32 → Int32 → Int32 → Int32 → Int32 → xMem → Option (Int32 × xMem)} {m : xMem} {M46 : Int} (ha0 : a0 ∈ pLoads) (hI : IC R m) (hrec46 : ∀ (l3 : Int32) (l4 : Int32) (l5 : Int32) (l6 : Int32) (l7 : Int32) (l8 : Int32), ((2 ≤ a1.toInt ∧ a1.toInt ≤ 40) ∧ (-39 ≤ l8.toInt ∧ l8.toInt ≤ 1)) → 2147483648 - l8.toInt < M46 → vOk (PP m (fun _ : Int32 => True)) (rec46 l3 l4 l5 l6 l7 l8 m)) : ∀ (fuel : Nat), ∀ (l3 : Int32) (l4 : Int32) (l5 : Int32) (l6 : Int32) (l7 : Int32) (l8 : Int32) (l9 : Int32) (l10 : Int32) (l11 : Int32) (l12 : Int32) (l13 : Int32), ((2 ≤ a1.toInt ∧ a1.toInt ≤ 40) ∧ (-39 ≤ l8.toInt ∧ l8.toInt ≤ 0) ∧ (-2147483648 ≤ l10.toInt ∧ l10.toInt ≤ 0) ∧ (0 ≤ l11.toInt ∧ l11.toInt ≤ 2147483647) ∧ (-37 ≤ l13.toInt ∧ l13.toInt ≤ 99)) → 2147483648 - l8.toInt ≤ M46 → 2147483648 - l13.toInt < (fuel : Int) → vOk (PP m (fun _ : Int32 => True)) (fX4_steppedOn_69 a0 a1 a2 rec46 fuel l3 l4 l5 l6 l7 l8 l9 l10 l11 l12 l13 m) := by
  intro fuel
  induction fuel with
  | zero =>
    intro l3 l4 l5 l6 l7 l8 l9 l10 l11 l12 l13 hp hM46 hmu
    have ta1 := tiB a1
    have ta2 := tiB a2
    have tl3 := tiB l3
    have tl4 := tiB l4
    have tl5 := tiB l5
    have tl6 := tiB l6
    have tl7 := tiB l7
    have tl8 := tiB l8
    have tl9 := tiB l9
    have tl10 := tiB l10
    have tl11 := tiB l11
    have tl12 := tiB l12
    have tl13 := tiB l13
    exfalso; omega
  | succ fuel ih =>
    intro l3 l4 l5 l6 l7 l8 l9 l10 l11 l12 l13 hp hM46 hmu
    have ta1 := tiB a1
    have ta2 := tiB a2
    have tl3 := tiB l3
    have tl4 := tiB l4
    have tl5 := tiB l5
    have tl6 := tiB l6
    have tl7 := tiB l7
    have tl8 := tiB l8
    have tl9 := tiB l9
    have tl10 := tiB l10
    have tl11 := tiB l11
    have tl12 := tiB l12
    have tl13 := tiB l13
    have cm1 : (-1 : Int32).toInt = -1 := rfl
    have c0 : (0 : Int32).toInt = 0 := rfl
    have c1 : (1 : Int32).toInt = 1 := rfl
    have c2 : (2 : Int32).toInt = 2 := rfl
    have c60 : (60 : Int32).toInt = 60 := rfl
    rw [fX4_steppedOn_69]
    refine vR fun v1 ev1 => ?_
    have fv1 := tiB v1
    refine vLe (fun h2 => ?_) (fun h3 => ?_)
    · unfold fX4_steppedOn_153
      refine vS (by omega) fun v4 ev4 fv4 => ?_
      refine vI fun v5 ev5 fv5 => ?_
      refine vLe (fun h6 => ?_) (fun h7 => ?_)
      · refine vI fun v8 ev8 fv8 => ?_
        refine vI fun v9 ev9 fv9 => ?_
        refine vI fun v10 ev10 fv10 => ?_
        refine vLe (fun h11 => ?_) (fun h12 => ?_)
        · refine vI fun v13 ev13 fv13 => ?_
          unfold fX4_steppedOn_209
          refine vA (by omega) fun v14 ev14 fv14 => ?_
          exact hrec46 _ _ _ _ _ _ (by omega) (by omega)
        · refine vI fun v15 ev15 fv15 => ?_
          unfold fX4_steppedOn_209
          refine vA (by omega) fun v16 ev16 fv16 => ?_
          exact hrec46 _ _ _ _ _ _ (by omega) (by omega)
      · refine rP ?_
        first | exact True.intro | omega
    · refine vLe (fun h17 => ?_) (fun h18 => ?_)
      · unfold fX4_steppedOn_153
        refine vS (by omega) fun v19 ev19 fv19 => ?_
        refine vI fun v20 ev20 fv20 => ?_
        refine vLe (fun h21 => ?_) (fun h22 => ?_)
        · refine vI fun v23 ev23 fv23 => ?_
          refine vI fun v24 ev24 fv24 => ?_
          refine vI fun v25 ev25 fv25 => ?_
          refine vLe (fun h26 => ?_) (fun h27 => ?_)
          · refine vI fun v28 ev28 fv28 => ?_
            unfold fX4_steppedOn_209
            refine vA (by omega) fun v29 ev29 fv29 => ?_
            exact hrec46 _ _ _ _ _ _ (by omega) (by omega)
          · refine vI fun v30 ev30 fv30 => ?_
            unfold fX4_steppedOn_209
            refine vA (by omega) fun v31 ev31 fv31 => ?_
            exact hrec46 _ _ _ _ _ _ (by omega) (by omega)
        · refine rP ?_
          first | exact True.intro | omega
      · refine vLe (fun h32 => ?_) (fun h33 => ?_)
        · unfold fX4_steppedOn_113
          refine vA (by omega) fun v34 ev34 fv34 => ?_
          refine vMin fun v35 ev35 fv35 => ?_
          refine vMax fun v36 ev36 fv36 => ?_
          refine vI fun v37 ev37 fv37 => ?_
          refine vI fun v38 ev38 fv38 => ?_
          refine vA (by omega) fun v39 ev39 fv39 => ?_
          exact ih _ _ _ _ _ _ _ _ _ _ _ (by omega) (by omega) (by omega)
        · refine vIn (by omega) (by omega) fun n40 => ?_
          refine vR fun v41 ev41 => ?_
          have fv41 := tiB v41
          refine vS (by omega) fun v42 ev42 fv42 => ?_
          refine vIn (by omega) (by omega) fun n43 => ?_
          refine vR fun v44 ev44 => ?_
          have fv44 := tiB v44
          refine vI fun v45 ev45 fv45 => ?_
          unfold fX4_steppedOn_113
          refine vI fun v46 ev46 fv46 => ?_
          refine vMin fun v47 ev47 fv47 => ?_
          refine vMax fun v48 ev48 fv48 => ?_
          refine vI fun v49 ev49 fv49 => ?_
          refine vI fun v50 ev50 fv50 => ?_
          refine vA (by omega) fun v51 ev51 fv51 => ?_
          exact ih _ _ _ _ _ _ _ _ _ _ _ (by omega) (by omega) (by omega)
theorem fX4_steppedOn_46_s {R : xMem} {a0 : Nat} {a1 : Int32} {a2 : Int32} {m : xMem} (ha0 : a0 ∈ pLoads) (hI : IC R m) : ∀ (fuel : Nat), ∀ (l3 : Int32) (l4 : Int32) (l5 : Int32) (l6 : Int32) (l7 : Int32) (l8 : Int32), ((2 ≤ a1.toInt ∧ a1.toInt ≤ 40) ∧ (-39 ≤ l8.toInt ∧ l8.toInt ≤ 1)) → 2147483648 - l8.toInt < (fuel : Int) → vOk (PP m (fun _ : Int32 => True)) (fX4_steppedOn_46 a0 a1 a2 fuel l3 l4 l5 l6 l7 l8 m) := by
  intro fuel
  induction fuel with
  | zero =>
    intro l3 l4 l5 l6 l7 l8 hp hmu
    have ta1 := tiB a1
    have ta2 := tiB a2
    have tl3 := tiB l3
    have tl4 := tiB l4
    have tl5 := tiB l5
    have tl6 := tiB l6
    have tl7 := tiB l7
    have tl8 := tiB l8
    exfalso; omega
  | succ fuel ih =>
    intro l3 l4 l5 l6 l7 l8 hp hmu
    have ta1 := tiB a1
    have ta2 := tiB a2
    have tl3 := tiB l3
    have tl4 := tiB l4
    have tl5 := tiB l5
    have tl6 := tiB l6
    have tl7 := tiB l7
    have tl8 := tiB l8
    have cm1 : (-1 : Int32).toInt = -1 := rfl
    have c0 : (0 : Int32).toInt = 0 := rfl
    rw [fX4_steppedOn_46]
    refine vLt (fun h1 => ?_) (fun h2 => ?_)
    · refine vLt (fun h3 => ?_) (fun h4 => ?_)
      · unfold fX4_steppedOn_230
        refine rP ?_
        first | exact True.intro | omega
      · refine vI fun v5 ev5 fv5 => ?_
        refine vLe (fun h6 => ?_) (fun h7 => ?_)
        · refine vEq (fun h8 => ?_) (fun h9 => ?_)
          · refine vI fun v10 ev10 fv10 => ?_
            refine vMax fun v11 ev11 fv11 => ?_
            unfold fX4_steppedOn_255
            refine vI fun v12 ev12 fv12 => ?_
            refine vI fun v13 ev13 fv13 => ?_
            refine vI fun v14 ev14 fv14 => ?_
            refine rP ?_
            first | exact True.intro | omega
          · refine vMin fun v15 ev15 fv15 => ?_
            unfold fX4_steppedOn_255
            refine vI fun v16 ev16 fv16 => ?_
            refine vI fun v17 ev17 fv17 => ?_
            refine vI fun v18 ev18 fv18 => ?_
            refine rP ?_
            first | exact True.intro | omega
        · unfold fX4_steppedOn_230
          refine rP ?_
          first | exact True.intro | omega
    · refine vA (by omega) fun v19 ev19 fv19 => ?_
      have cF := xFu
      exact fX4_steppedOn_69_s ha0 hI ih _ _ _ _ _ _ _ _ _ _ _ _ (by omega) (by omega) (by omega)
theorem fX4_steppedOn_s {R : xMem} {a0 : Nat} {a1 : Int32} {a2 : Int32} {m : xMem} (ha0 : a0 ∈ pLoads) (hp : (2 ≤ a1.toInt ∧ a1.toInt ≤ 40)) (hI : IC R m) : vOk (PP m (fun _ : Int32 => True)) (fX4_steppedOn a0 a1 a2 m) := by
  have ta1 := tiB a1
  have ta2 := tiB a2
  have cm1 : (-1 : Int32).toInt = -1 := rfl
  have c0 : (0 : Int32).toInt = 0 := rfl
  have c1 : (1 : Int32).toInt = 1 := rfl
  unfold fX4_steppedOn
  unfold fX4_steppedOn_0
  refine vLt (fun h1 => ?_) (fun h2 => ?_)
  · exfalso; omega
  · refine vR fun v3 ev3 => ?_
    have fv3 := tiB v3
    refine vLe (fun h4 => ?_) (fun h5 => ?_)
    · refine vAl (ev3) ?_
      refine vS (by omega) fun v6 ev6 fv6 => ?_
      refine vNz (by omega) ?_
      refine vI fun v7 ev7 fv7 => ?_
      refine vIn (by omega) (by omega) fun n8 => ?_
      refine vR fun v9 ev9 => ?_
      have fv9 := tiB v9
      refine vS (by omega) fun v10 ev10 fv10 => ?_
      have cF := xFu
      exact fX4_steppedOn_46_s ha0 hI _ _ _ _ _ _ _ (by omega) (by omega)
    · unfold fX4_steppedOn_13
      refine rP ?_
      first | exact True.intro | omega
theorem fX11_taken_s {R : xMem} {a0 : Nat} {a1 : Int32} {a2 : Int32} {m : xMem} (ha0 : a0 ∈ pMS) (hI : IC R m) : vOk (PP m (fun x : Int32 => (x.toInt = -1 ∨ ((2 ≤ a1.toInt ∧ a1.toInt ≤ 40))))) (fX11_taken a0 a1 a2 m) := by
  have ta1 := tiB a1
  have ta2 := tiB a2
  have cm1 : (-1 : Int32).toInt = -1 := rfl
  have c0 : (0 : Int32).toInt = 0 := rfl
  have c2 : (2 : Int32).toInt = 2 := rfl
  have c40 : (40 : Int32).toInt = 40 := rfl
  unfold fX11_taken
  unfold fX11_taken_0
  refine vBindP (fX11_within_s hI) fun v1 ev1 qv1 => ?_
  try dsimp only
  have fv1 := tiB v1
  refine vEq (fun h2 => ?_) (fun h3 => ?_)
  · unfold fX11_taken_26
    refine rP ?_
    first | exact True.intro | omega
  · have g4 := qv1.2.resolve_left (by omega)
    refine vBindP (fX4_steppedOn_s (qMS_1_13_inLoads _ ha0) (by omega) hI) fun v5 ev5 qv5 => ?_
    try dsimp only
    have fv5 := tiB v5
    unfold fX11_taken_26
    refine rP ?_
    first | exact True.intro | omega
theorem fX11_about_s {R : xMem} {a0 : Nat} {a1 : Int32} {m : xMem} (ha0 : a0 ∈ pMS) (hI : IC R m) : vOk (PP m (fun x : Int32 => (x.toInt = -1 ∨ ((0 ≤ a1.toInt ∧ a1.toInt ≤ 9))))) (fX11_about a0 a1 m) := by
  have ta1 := tiB a1
  have cm1 : (-1 : Int32).toInt = -1 := rfl
  have c0 : (0 : Int32).toInt = 0 := rfl
  have c1 : (1 : Int32).toInt = 1 := rfl
  have c2 : (2 : Int32).toInt = 2 := rfl
  have c3 : (3 : Int32).toInt = 3 := rfl
  have c4 : (4 : Int32).toInt = 4 := rfl
  have c5 : (5 : Int32).toInt = 5 := rfl
  have c6 : (6 : Int32).toInt = 6 := rfl
  have c7 : (7 : Int32).toInt = 7 := rfl
  have c8 : (8 : Int32).toInt = 8 := rfl
  have c9 : (9 : Int32).toInt = 9 := rfl
  unfold fX11_about
  unfold fX11_about_0
  refine vEq (fun h1 => ?_) (fun h2 => ?_)
  · refine vR fun v3 ev3 => ?_
    have fv3 := tiB v3
    refine rP ?_
    first | exact True.intro | omega
  · refine vEq (fun h4 => ?_) (fun h5 => ?_)
    · refine vR fun v6 ev6 => ?_
      have fv6 := tiB v6
      refine rP ?_
      first | exact True.intro | omega
    · refine vEq (fun h7 => ?_) (fun h8 => ?_)
      · refine vR fun v9 ev9 => ?_
        have fv9 := tiB v9
        refine rP ?_
        first | exact True.intro | omega
      · refine vEq (fun h10 => ?_) (fun h11 => ?_)
        · refine vR fun v12 ev12 => ?_
          have fv12 := tiB v12
          refine rP ?_
          first | exact True.intro | omega
        · refine vEq (fun h13 => ?_) (fun h14 => ?_)
          · refine vR fun v15 ev15 => ?_
            have fv15 := tiB v15
            refine rP ?_
            first | exact True.intro | omega
          · refine vEq (fun h16 => ?_) (fun h17 => ?_)
            · refine vR fun v18 ev18 => ?_
              have fv18 := tiB v18
              refine rP ?_
              first | exact True.intro | omega
            · refine vEq (fun h19 => ?_) (fun h20 => ?_)
              · refine vR fun v21 ev21 => ?_
                have fv21 := tiB v21
                refine rP ?_
                first | exact True.intro | omega
              · refine vEq (fun h22 => ?_) (fun h23 => ?_)
                · refine vR fun v24 ev24 => ?_
                  have fv24 := tiB v24
                  refine rP ?_
                  first | exact True.intro | omega
                · refine vEq (fun h25 => ?_) (fun h26 => ?_)
                  · refine vR fun v27 ev27 => ?_
                    have fv27 := tiB v27
                    refine rP ?_
                    first | exact True.intro | omega
                  · refine vEq (fun h28 => ?_) (fun h29 => ?_)
                    · refine vR fun v30 ev30 => ?_
                      have fv30 := tiB v30
                      refine rP ?_
                      first | exact True.intro | omega
                    · refine rP ?_
                      first | exact True.intro | omega
