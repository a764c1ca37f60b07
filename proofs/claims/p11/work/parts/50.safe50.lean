/-! SAFETY of the class's methods, printed by wip/tools/vc.py -/
theorem fX6_moveLinks_2_s {R : xMem} {a0 : Nat} {a1 : Nat} {a2 : Nat} (ha0 : a0 ∈ pMover) (ha1 : a1 ∈ pStation) (ha2 : a2 ∈ pText) : ∀ (fuel : Nat), ∀ (l3 : Int32) (m : xMem), ((0 ≤ l3.toInt ∧ l3.toInt ≤ 10)) → IC R m → 2147483648 - l3.toInt < (fuel : Int) → vOk (IC R) (fX6_moveLinks_2 a0 a1 a2 fuel l3 m) := by
  intro fuel
  induction fuel with
  | zero =>
    intro l3 m hp hI hmu
    have tl3 := tiB l3
    exfalso; omega
  | succ fuel ih =>
    intro l3 m hp hI hmu
    have tl3 := tiB l3
    have c0 : (0 : Int32).toInt = 0 := rfl
    have c1 : (1 : Int32).toInt = 1 := rfl
    have c2 : (2 : Int32).toInt = 2 := rfl
    have c10 : (10 : Int32).toInt = 10 := rfl
    rw [fX6_moveLinks_2]
    refine vR fun v1 ev1 => ?_
    have fv1 := tiB v1
    refine vLe (fun h2 => ?_) (fun h3 => ?_)
    · unfold fX6_moveLinks_150
      exact vOk_some hI
    · refine vLe (fun h4 => ?_) (fun h5 => ?_)
      · unfold fX6_moveLinks_150
        exact vOk_some hI
      · refine vIn (by omega) (by omega) fun n6 => ?_
        refine vR fun r7 er7 => ?_
        have hr7 : r7 ∈ pLink := by rw [er7]; exact (qStation_33_m2_10_inLink _ ha1 _ n6)
        refine vR fun v8 ev8 => ?_
        have fv8 := tiB v8
        refine vNe (fun h9 => ?_) (fun h10 => ?_)
        · refine vBindM (fX6_walkOf_s ha0 ha1 ha2 hr7 hI) fun v11 m12 hm12 qv11 => ?_
          try dsimp only
          have fv11 := tiB v11
          refine vR fun v13 ev13 => ?_
          have fv13 := tiB v13
          refine vNe (fun h14 => ?_) (fun h15 => ?_)
          · refine vR fun v16 ev16 => ?_
            have fv16 := tiB v16
            refine vI fun v17 ev17 fv17 => ?_
            refine vNe (fun h18 => ?_) (fun h19 => ?_)
            · unfold fX6_moveLinks_136
              refine vOk_bind (fX6_takeUpToTwo_s ha0 ha1 hm12) fun m20 hm20 => ?_
              unfold fX6_moveLinks_144
              refine vA (by omega) fun v21 ev21 fv21 => ?_
              exact ih _ _ (by omega) hm20 (by omega)
            · refine vOk_bind (fX6_moveFixed_s ha0 ha1 hr7 hm12) fun m22 hm22 => ?_
              unfold fX6_moveLinks_136
              refine vOk_bind (fX6_takeUpToTwo_s ha0 ha1 hm22) fun m23 hm23 => ?_
              unfold fX6_moveLinks_144
              refine vA (by omega) fun v24 ev24 fv24 => ?_
              exact ih _ _ (by omega) hm23 (by omega)
          · refine vOk_bind (fX6_moveStair_s ha0 ha1 hr7 hm12) fun m25 hm25 => ?_
            unfold fX6_moveLinks_136
            refine vOk_bind (fX6_takeUpToTwo_s ha0 ha1 hm25) fun m26 hm26 => ?_
            unfold fX6_moveLinks_144
            refine vA (by omega) fun v27 ev27 fv27 => ?_
            exact ih _ _ (by omega) hm26 (by omega)
        · refine vR fun v28 ev28 => ?_
          have fv28 := tiB v28
          refine vLe (fun h29 => ?_) (fun h30 => ?_)
          · unfold fX6_moveLinks_144
            refine vA (by omega) fun v31 ev31 fv31 => ?_
            exact ih _ _ (by omega) hI (by omega)
          · refine vR fun v32 ev32 => ?_
            have fv32 := tiB v32
            refine vAl (ev28) ?_
            refine vNz (by omega) ?_
            refine vI fun v33 ev33 fv33 => ?_
            refine vNe (fun h34 => ?_) (fun h35 => ?_)
            · unfold fX6_moveLinks_144
              refine vA (by omega) fun v36 ev36 fv36 => ?_
              exact ih _ _ (by omega) hI (by omega)
            · refine vR fun v37 ev37 => ?_
              have fv37 := tiB v37
              refine vR fun v38 ev38 => ?_
              have fv38 := tiB v38
              refine vOk_bind (fX6_lift_s ha0 ha1 hI) fun m39 hm39 => ?_
              refine vR fun v40 ev40 => ?_
              have fv40 := tiB v40
              refine vR fun v41 ev41 => ?_
              have fv41 := tiB v41
              refine vOk_bind (fX6_lift_s ha0 ha1 hm39) fun m42 hm42 => ?_
              unfold fX6_moveLinks_144
              refine vA (by omega) fun v43 ev43 fv43 => ?_
              exact ih _ _ (by omega) hm42 (by omega)
theorem fX6_moveLinks_s {R : xMem} {a0 : Nat} {a1 : Nat} {a2 : Nat} {m : xMem} (ha0 : a0 ∈ pMover) (ha1 : a1 ∈ pStation) (ha2 : a2 ∈ pText) (hI : IC R m) : vOk (IC R) (fX6_moveLinks a0 a1 a2 m) := by
  have c0 : (0 : Int32).toInt = 0 := rfl
  unfold fX6_moveLinks
  unfold fX6_moveLinks_0
  have cF := xFu
  exact fX6_moveLinks_2_s ha0 ha1 ha2 _ _ _ (by omega) hI (by omega)
theorem fX0_isDue_s {R : xMem} {a0 : Nat} {a1 : Int32} {m : xMem} (ha0 : a0 ∈ pBurst) (hI : IC R m) : vOk (PP m (fun x : Int32 => (0 ≤ x.toInt ∧ x.toInt ≤ 1))) (fX0_isDue a0 a1 m) := by
  have ta1 := tiB a1
  have c0 : (0 : Int32).toInt = 0 := rfl
  have c1 : (1 : Int32).toInt = 1 := rfl
  unfold fX0_isDue
  unfold fX0_isDue_0
  refine vR fun v1 ev1 => ?_
  have fv1 := tiB v1
  refine vLe (fun h2 => ?_) (fun h3 => ?_)
  · unfold fX0_isDue_35
    refine vR fun v4 ev4 => ?_
    have fv4 := tiB v4
    refine vNe (fun h5 => ?_) (fun h6 => ?_)
    · unfold fX0_isDue_48
      refine vB (by omega) ?_
      refine rP ?_
      first | exact True.intro | omega
    · unfold fX0_isDue_48
      refine vB (by omega) ?_
      refine rP ?_
      first | exact True.intro | omega
  · refine vR fun v7 ev7 => ?_
    have fv7 := tiB v7
    refine vLe (fun h8 => ?_) (fun h9 => ?_)
    · unfold fX0_isDue_35
      refine vAl (ev7) ?_
      refine vNe (fun h10 => ?_) (fun h11 => ?_)
      · unfold fX0_isDue_48
        refine vB (by omega) ?_
        refine rP ?_
        first | exact True.intro | omega
      · unfold fX0_isDue_48
        refine vB (by omega) ?_
        refine rP ?_
        first | exact True.intro | omega
    · refine vAl (ev7) ?_
      refine vI fun v12 ev12 fv12 => ?_
      refine vAl (ev1) ?_
      refine vNz (by omega) ?_
      refine vI fun v13 ev13 fv13 => ?_
      refine vNe (fun h14 => ?_) (fun h15 => ?_)
      · unfold fX0_isDue_34
        refine vB (by omega) ?_
        refine rP ?_
        first | exact True.intro | omega
      · unfold fX0_isDue_34
        refine vB (by omega) ?_
        refine rP ?_
        first | exact True.intro | omega
theorem fX6_comeInBursts_2_s {R : xMem} {a0 : Nat} {a1 : Nat} {a2 : Nat} (ha0 : a0 ∈ pMover) (ha1 : a1 ∈ pStation) (ha2 : a2 ∈ pText) : ∀ (fuel : Nat), ∀ (l3 : Int32) (m : xMem), ((0 ≤ l3.toInt ∧ l3.toInt ≤ 30)) → IC R m → 2147483648 - l3.toInt < (fuel : Int) → vOk (IC R) (fX6_comeInBursts_2 a0 a1 a2 fuel l3 m) := by
  intro fuel
  induction fuel with
  | zero =>
    intro l3 m hp hI hmu
    have tl3 := tiB l3
    exfalso; omega
  | succ fuel ih =>
    intro l3 m hp hI hmu
    have tl3 := tiB l3
    have c0 : (0 : Int32).toInt = 0 := rfl
    have c1 : (1 : Int32).toInt = 1 := rfl
    have c2 : (2 : Int32).toInt = 2 := rfl
    have c30 : (30 : Int32).toInt = 30 := rfl
    rw [fX6_comeInBursts_2]
    refine vR fun v1 ev1 => ?_
    have fv1 := tiB v1
    refine vLe (fun h2 => ?_) (fun h3 => ?_)
    · unfold fX6_comeInBursts_155
      exact vOk_some hI
    · refine vLe (fun h4 => ?_) (fun h5 => ?_)
      · unfold fX6_comeInBursts_155
        exact vOk_some hI
      · refine vIn (by omega) (by omega) fun n6 => ?_
        refine vR fun r7 er7 => ?_
        have hr7 : r7 ∈ pBurst := by rw [er7]; exact (qStation_53_m1_30_inBurst _ ha1 _ n6)
        refine vR fun v8 ev8 => ?_
        have fv8 := tiB v8
        refine vBindP (fX0_isDue_s hr7 hI) fun v9 ev9 qv9 => ?_
        try dsimp only
        have fv9 := tiB v9
        refine vEq (fun h10 => ?_) (fun h11 => ?_)
        · unfold fX6_comeInBursts_149
          refine vA (by omega) fun v12 ev12 fv12 => ?_
          exact ih _ _ (by omega) hI (by omega)
        · refine vR fun v13 ev13 => ?_
          have fv13 := tiB v13
          refine vBindP (fX9_hasHall_s ha1 hI) fun v14 ev14 qv14 => ?_
          try dsimp only
          have fv14 := tiB v14
          refine vNe (fun h15 => ?_) (fun h16 => ?_)
          · have g17 := qv14.2.resolve_left (by omega)
            refine vR fun v18 ev18 => ?_
            have fv18 : 0 ≤ v18.toInt ∧ v18.toInt ≤ 1 := by rw [ev18]; exact IC.bc hI _ _ (qBurst_bc6 _ hr7)
            refine vNe (fun h19 => ?_) (fun h20 => ?_)
            · refine vAl (ev13) ?_
              refine vBindM (fX6_isSo_s ha0 ha1 ha2 hI) fun v21 m22 hm22 qv21 => ?_
              try dsimp only
              have fv21 := tiB v21
              refine vEq (fun h23 => ?_) (fun h24 => ?_)
              · refine vAl ((ev13).trans (show _ = _ from hm22.2 _ _ (qBurst_na _ hr7))) ?_
                refine vIn (by omega) (by omega) fun n25 => ?_
                refine vR fun r26 er26 => ?_
                have hr26 : r26 ∈ pHall := by rw [er26]; exact (qStation_15_m3_6_inHall _ ha1 _ n25)
                refine vR fun v27 ev27 => ?_
                have fv27 := tiB v27
                refine vR fun v28 ev28 => ?_
                have fv28 := tiB v28
                refine vR fun v29 ev29 => ?_
                have fv29 := tiB v29
                refine vOk_bind (fX2_changeOutside_s hr26 hm22.1) fun m30 hm30 => ?_
                unfold fX6_comeInBursts_149
                refine vA (by omega) fun v31 ev31 fv31 => ?_
                exact ih _ _ (by omega) hm30 (by omega)
              · have g32 := qv21.2.resolve_left (by omega)
                refine vR fun v33 ev33 => ?_
                have fv33 := tiB v33
                refine vR fun v34 ev34 => ?_
                have fv34 := tiB v34
                refine vI fun v35 ev35 fv35 => ?_
                refine vR fun m36 em36 => ?_
                have hm36 : IC R m36 := by rw [em36]; exact IC_put hm22.1 (qStation_ok14 _ ha1)
                unfold fX6_comeInBursts_149
                refine vA (by omega) fun v37 ev37 fv37 => ?_
                exact ih _ _ (by omega) hm36 (by omega)
            · refine vAl (ev13) ?_
              refine vR fun v38 ev38 => ?_
              have fv38 := tiB v38
              refine vR fun v39 ev39 => ?_
              have fv39 := tiB v39
              refine vR fun v40 ev40 => ?_
              have fv40 := tiB v40
              refine vOk_bind (fX9_comeTo_s ha1 hI) fun m41 hm41 => ?_
              unfold fX6_comeInBursts_149
              refine vA (by omega) fun v42 ev42 fv42 => ?_
              exact ih _ _ (by omega) hm41 (by omega)
          · unfold fX6_comeInBursts_149
            refine vA (by omega) fun v43 ev43 fv43 => ?_
            exact ih _ _ (by omega) hI (by omega)
theorem fX6_comeInBursts_s {R : xMem} {a0 : Nat} {a1 : Nat} {a2 : Nat} {m : xMem} (ha0 : a0 ∈ pMover) (ha1 : a1 ∈ pStation) (ha2 : a2 ∈ pText) (hI : IC R m) : vOk (IC R) (fX6_comeInBursts a0 a1 a2 m) := by
  have c0 : (0 : Int32).toInt = 0 := rfl
  unfold fX6_comeInBursts
  unfold fX6_comeInBursts_0
  have cF := xFu
  exact fX6_comeInBursts_2_s ha0 ha1 ha2 _ _ _ (by omega) hI (by omega)
theorem fX6_passSecond_sT {R : xMem} {a0 : Nat} {a1 : Nat} {a2 : Nat} {m : xMem} (ha0 : a0 ∈ pMover) (ha1 : a1 ∈ pTried) (ha2 : a2 ∈ pText) (hI : IC R m) : vOk (IC R) (fX6_passSecond a0 a1 a2 m) := by
  have c1 : (1 : Int32).toInt = 1 := rfl
  unfold fX6_passSecond
  unfold fX6_passSecond_0
  refine vOk_bind (fX6_comeInBursts_s ha0 (qTried_inStation _ ha1) ha2 hI) fun m1 hm1 => ?_
  refine vOk_bind (fX6_openHalls_s ha0 (qTried_inStation _ ha1) ha2 hm1) fun m2 hm2 => ?_
  refine vOk_bind (fX6_turnEmptyLinks_s ha0 (qTried_inStation _ ha1) hm2) fun m3 hm3 => ?_
  refine vOk_bind (fX8_find_s (qMover_1_inRoutes _ ha0) (qTried_inStation _ ha1) hm3) fun m4 hm4 => ?_
  refine vOk_bind (fX6_moveLinks_s ha0 (qTried_inStation _ ha1) ha2 hm4) fun m5 hm5 => ?_
  refine vOk_bind (fX6_countSecond_s ha0 (qTried_inStation _ ha1) hm5) fun m6 hm6 => ?_
  refine vR fun v7 ev7 => ?_
  have fv7 := tiB v7
  refine vI fun v8 ev8 fv8 => ?_
  refine vR fun m9 em9 => ?_
  have hm9 : IC R m9 := by rw [em9]; exact IC_put hm6 (qTried_ok6 _ ha1)
  exact vOk_some hm9
theorem fX11_mayRun_s {R : xMem} {a0 : Nat} {a1 : Int32} {m : xMem} (ha0 : a0 ∈ pMS) (hI : IC R m) : vOk (PP m (fun x : Int32 => (0 ≤ x.toInt ∧ x.toInt ≤ 1) ∧ (x.toInt = 0 ∨ ((1 ≤ a1.toInt ∧ a1.toInt ≤ 300))))) (fX11_mayRun a0 a1 m) := by
  have ta1 := tiB a1
  have c0 : (0 : Int32).toInt = 0 := rfl
  have c1 : (1 : Int32).toInt = 1 := rfl
  have c300 : (300 : Int32).toInt = 300 := rfl
  have c99999 : (99999 : Int32).toInt = 99999 := rfl
  unfold fX11_mayRun
  unfold fX11_mayRun_0
  refine vBindP (fX11_within_s hI) fun v1 ev1 qv1 => ?_
  try dsimp only
  have fv1 := tiB v1
  refine vEq (fun h2 => ?_) (fun h3 => ?_)
  · unfold fX11_mayRun_29
    unfold fX11_mayRun_30
    refine vB (by omega) ?_
    refine rP ?_
    first | exact True.intro | omega
  · have g4 := qv1.2.resolve_left (by omega)
    refine vR fun v5 ev5 => ?_
    have fv5 := tiB v5
    refine vI fun v6 ev6 fv6 => ?_
    refine vLt (fun h7 => ?_) (fun h8 => ?_)
    · unfold fX11_mayRun_29
      unfold fX11_mayRun_30
      refine vB (by omega) ?_
      refine rP ?_
      first | exact True.intro | omega
    · unfold fX11_mayRun_30
      refine vB (by omega) ?_
      refine rP ?_
      first | exact True.intro | omega
theorem fX11_law_s {R : xMem} {a0 : Nat} {m : xMem} (ha0 : a0 ∈ pMS) (hI : IC R m) : vOk (PP m (fun x : Nat => x ∈ pText)) (fX11_law a0 m) := by
  have c0 : (0 : Int32).toInt = 0 := rfl
  have c3 : (3 : Int32).toInt = 3 := rfl
  unfold fX11_law
  unfold fX11_law_0
  refine vR fun v1 ev1 => ?_
  have fv1 := tiB v1
  refine vBindP (fX11_within_s hI) fun v2 ev2 qv2 => ?_
  try dsimp only
  have fv2 := tiB v2
  refine vEq (fun h3 => ?_) (fun h4 => ?_)
  · unfold fX11_law_34
    exact rP (qMS_260_inText _ ha0)
  · have g5 := qv2.2.resolve_left (by omega)
    refine vAl (ev1) ?_
    refine vIn (by omega) (by omega) fun n6 => ?_
    refine vR fun r7 er7 => ?_
    have hr7 : r7 ∈ pText := by rw [er7]; exact (qMS_267_m6_4_inText _ ha0 _ n6)
    unfold fX11_law_34
    exact rP hr7
theorem fX8_forget_s {R : xMem} {a0 : Nat} {m : xMem} (ha0 : a0 ∈ pRoutes) (hI : IC R m) : vOk (IC R) (fX8_forget a0 m) := by
  have cm1 : (-1 : Int32).toInt = -1 := rfl
  unfold fX8_forget
  unfold fX8_forget_0
  refine vR fun m1 em1 => ?_
  have hm1 : IC R m1 := by rw [em1]; exact IC_put hI (qRoutes_ok2 _ ha0)
  exact vOk_some hm1
theorem fX6_forgetRoutes_s {R : xMem} {a0 : Nat} {m : xMem} (ha0 : a0 ∈ pMover) (hI : IC R m) : vOk (IC R) (fX6_forgetRoutes a0 m) := by
  unfold fX6_forgetRoutes
  unfold fX6_forgetRoutes_0
  refine vOk_bind (fX8_forget_s (qMover_1_inRoutes _ ha0) hI) fun m1 hm1 => ?_
  exact vOk_some hm1
theorem fX11_of_s {R : xMem} {a0 : Nat} {a1 : Int32} {a2 : Int32} {m : xMem} (ha0 : a0 ∈ pMS) (hI : IC R m) : vOk (PP m (fun x : Int32 => (x.toInt = -1 ∨ ((0 ≤ a1.toInt ∧ a1.toInt ≤ 5))))) (fX11_of a0 a1 a2 m) := by
  have ta1 := tiB a1
  have ta2 := tiB a2
  have cm1 : (-1 : Int32).toInt = -1 := rfl
  have c0 : (0 : Int32).toInt = 0 := rfl
  have c1 : (1 : Int32).toInt = 1 := rfl
  have c2 : (2 : Int32).toInt = 2 := rfl
  have c3 : (3 : Int32).toInt = 3 := rfl
  have c4 : (4 : Int32).toInt = 4 := rfl
  have c6 : (6 : Int32).toInt = 6 := rfl
  have c10 : (10 : Int32).toInt = 10 := rfl
  have c20 : (20 : Int32).toInt = 20 := rfl
  unfold fX11_of
  unfold fX11_of_0
  refine vBindP (fX9_hasHall_s (qMS_1_inStation _ ha0) hI) fun v1 ev1 qv1 => ?_
  try dsimp only
  have fv1 := tiB v1
  refine vNe (fun h2 => ?_) (fun h3 => ?_)
  · have g4 := qv1.2.resolve_left (by omega)
    refine vIn (by omega) (by omega) fun n5 => ?_
    refine vR fun r6 er6 => ?_
    have hr6 : r6 ∈ pHall := by rw [er6]; exact (qMS_1_15_m3_6_inHall _ ha0 _ n5)
    refine vSw fun v7 ev7 fv7 => ?_
    refine vBindP (fX9_hasHall_s (qMS_1_inStation _ ha0) hI) fun v8 ev8 qv8 => ?_
    try dsimp only
    have fv8 := tiB v8
    refine vEq (fun h9 => ?_) (fun h10 => ?_)
    · refine vSw fun v11 ev11 fv11 => ?_
      refine vBindP (fX9_hasHall_s (qMS_1_inStation _ ha0) hI) fun v12 ev12 qv12 => ?_
      try dsimp only
      have fv12 := tiB v12
      refine vEq (fun h13 => ?_) (fun h14 => ?_)
      · refine vEq (fun h15 => ?_) (fun h16 => ?_)
        · refine vR fun v17 ev17 => ?_
          have fv17 := tiB v17
          refine rP ?_
          first | exact True.intro | omega
        · refine vEq (fun h18 => ?_) (fun h19 => ?_)
          · refine vR fun v20 ev20 => ?_
            have fv20 := tiB v20
            refine rP ?_
            first | exact True.intro | omega
          · refine vEq (fun h21 => ?_) (fun h22 => ?_)
            · refine vR fun v23 ev23 => ?_
              have fv23 := tiB v23
              refine rP ?_
              first | exact True.intro | omega
            · refine vEq (fun h24 => ?_) (fun h25 => ?_)
              · refine vR fun v26 ev26 => ?_
                have fv26 := tiB v26
                refine rP ?_
                first | exact True.intro | omega
              · refine vEq (fun h27 => ?_) (fun h28 => ?_)
                · refine vR fun v29 ev29 => ?_
                  have fv29 := tiB v29
                  refine rP ?_
                  first | exact True.intro | omega
                · refine rP ?_
                  first | exact True.intro | omega
      · have g30 := qv12.2.resolve_left (by omega)
        refine vAw fun v31 ev31 fv31 => ?_
        refine vSw fun v32 ev32 fv32 => ?_
        refine vIn (by omega) (by omega) fun n33 => ?_
        refine vR fun v34 ev34 => ?_
        have fv34 := tiB v34
        refine rP ?_
        first | exact True.intro | omega
    · have g35 := qv8.2.resolve_left (by omega)
      refine vAl ev7 ?_
      refine vIn (by omega) (by omega) fun n36 => ?_
      refine vR fun v37 ev37 => ?_
      have fv37 := tiB v37
      refine rP ?_
      first | exact True.intro | omega
  · refine rP ?_
    first | exact True.intro | omega
theorem fX11_on_s {R : xMem} {a0 : Nat} {a1 : Int32} {a2 : Int32} {m : xMem} (ha0 : a0 ∈ pMS) (hI : IC R m) : vOk (PP m (fun _ : Int32 => True)) (fX11_on a0 a1 a2 m) := by
  have ta1 := tiB a1
  have ta2 := tiB a2
  have cm1 : (-1 : Int32).toInt = -1 := rfl
  have c0 : (0 : Int32).toInt = 0 := rfl
  have c1 : (1 : Int32).toInt = 1 := rfl
  have c2 : (2 : Int32).toInt = 2 := rfl
  have c3 : (3 : Int32).toInt = 3 := rfl
  have c4 : (4 : Int32).toInt = 4 := rfl
  have c5 : (5 : Int32).toInt = 5 := rfl
  have c6 : (6 : Int32).toInt = 6 := rfl
  have c7 : (7 : Int32).toInt = 7 := rfl
  unfold fX11_on
  unfold fX11_on_0
  refine vBindP (fX9_hasLink_s (qMS_1_inStation _ ha0) hI) fun v1 ev1 qv1 => ?_
  try dsimp only
  have fv1 := tiB v1
  refine vNe (fun h2 => ?_) (fun h3 => ?_)
  · have g4 := qv1.2.resolve_left (by omega)
    refine vIn (by omega) (by omega) fun n5 => ?_
    refine vR fun r6 er6 => ?_
    have hr6 : r6 ∈ pLink := by rw [er6]; exact (qMS_1_33_m2_10_inLink _ ha0 _ n5)
    refine vEq (fun h7 => ?_) (fun h8 => ?_)
    · refine vR fun v9 ev9 => ?_
      have fv9 := tiB v9
      refine rP ?_
      first | exact True.intro | omega
    · refine vEq (fun h10 => ?_) (fun h11 => ?_)
      · refine vR fun v12 ev12 => ?_
        have fv12 := tiB v12
        refine rP ?_
        first | exact True.intro | omega
      · refine vEq (fun h13 => ?_) (fun h14 => ?_)
        · refine vR fun v15 ev15 => ?_
          have fv15 : 0 ≤ v15.toInt ∧ v15.toInt ≤ 1 := by rw [ev15]; exact IC.bc hI _ _ (qLink_bc12 _ hr6)
          refine vEq (fun h16 => ?_) (fun h17 => ?_)
          · unfold fX11_on_94
            refine rP ?_
            first | exact True.intro | omega
          · unfold fX11_on_94
            refine rP ?_
            first | exact True.intro | omega
        · refine vEq (fun h18 => ?_) (fun h19 => ?_)
          · refine vR fun v20 ev20 => ?_
            have fv20 : 0 ≤ v20.toInt ∧ v20.toInt ≤ 1 := by rw [ev20]; exact IC.bc hI _ _ (qLink_bc13 _ hr6)
            refine vEq (fun h21 => ?_) (fun h22 => ?_)
            · unfold fX11_on_107
              refine rP ?_
              first | exact True.intro | omega
            · unfold fX11_on_107
              refine rP ?_
              first | exact True.intro | omega
          · refine vEq (fun h23 => ?_) (fun h24 => ?_)
            · refine vR fun v25 ev25 => ?_
              have fv25 := tiB v25
              refine rP ?_
              first | exact True.intro | omega
            · refine vEq (fun h26 => ?_) (fun h27 => ?_)
              · refine vR fun v28 ev28 => ?_
                have fv28 := tiB v28
                refine rP ?_
                first | exact True.intro | omega
              · refine vEq (fun h29 => ?_) (fun h30 => ?_)
                · refine vR fun v31 ev31 => ?_
                  have fv31 := tiB v31
                  refine rP ?_
                  first | exact True.intro | omega
                · refine vEq (fun h32 => ?_) (fun h33 => ?_)
                  · refine vR fun v34 ev34 => ?_
                    have fv34 := tiB v34
                    refine rP ?_
                    first | exact True.intro | omega
                  · refine rP ?_
                    first | exact True.intro | omega
  · refine rP ?_
    first | exact True.intro | omega
theorem fX11_step_s {R : xMem} {a0 : Nat} {a1 : Int32} {a2 : Int32} {a3 : Int32} {m : xMem} (ha0 : a0 ∈ pMS) (hI : IC R m) : vOk (PP m (fun x : Int32 => (x.toInt = -1 ∨ ((0 ≤ a1.toInt ∧ a1.toInt ≤ 9) ∧ (0 ≤ a2.toInt ∧ a2.toInt ≤ 1) ∧ (0 ≤ a3.toInt ∧ a3.toInt ≤ 2147483647))))) (fX11_step a0 a1 a2 a3 m) := by
  have ta1 := tiB a1
  have ta2 := tiB a2
  have ta3 := tiB a3
  have cm1 : (-1 : Int32).toInt = -1 := rfl
  have c0 : (0 : Int32).toInt = 0 := rfl
  have c1 : (1 : Int32).toInt = 1 := rfl
  unfold fX11_step
  unfold fX11_step_0
  refine vBindP (fX9_hasStepped_s (qMS_1_inStation _ ha0) hI) fun v1 ev1 qv1 => ?_
  try dsimp only
  have fv1 := tiB v1
  refine vEq (fun h2 => ?_) (fun h3 => ?_)
  · unfold fX11_step_42
    refine rP ?_
    first | exact True.intro | omega
  · have g4 := qv1.2.resolve_left (by omega)
    refine vBindP (fX11_within_s hI) fun v5 ev5 qv5 => ?_
    try dsimp only
    have fv5 := tiB v5
    refine vEq (fun h6 => ?_) (fun h7 => ?_)
    · unfold fX11_step_42
      refine rP ?_
      first | exact True.intro | omega
    · have g8 := qv5.2.resolve_left (by omega)
      refine vIn (by omega) (by omega) fun n9 => ?_
      refine vR fun r10 er10 => ?_
      have hr10 : r10 ∈ pLink := by rw [er10]; exact (qMS_1_33_m2_10_inLink _ ha0 _ n9)
      refine vR fun v11 ev11 => ?_
      have fv11 := tiB v11
      refine vI fun v12 ev12 fv12 => ?_
      refine vBindP (fX11_within_s hI) fun v13 ev13 qv13 => ?_
      try dsimp only
      have fv13 := tiB v13
      refine vNe (fun h14 => ?_) (fun h15 => ?_)
      · have g16 := qv13.2.resolve_left (by omega)
        refine vIn (by omega) (by omega) fun n17 => ?_
        refine vR fun r18 er18 => ?_
        have hr18 : r18 ∈ pLink := by rw [er18]; exact (qMS_1_33_m2_10_inLink _ ha0 _ n17)
        refine vBindP (fX3_who_s hr18 hI) fun v19 ev19 qv19 => ?_
        try dsimp only
        have fv19 := tiB v19
        refine rP ?_
        first | exact True.intro | omega
      · unfold fX11_step_42
        refine rP ?_
        first | exact True.intro | omega
theorem fX11_route_s {R : xMem} {a0 : Nat} {a1 : Int32} {a2 : Int32} {a3 : Int32} {m : xMem} (ha0 : a0 ∈ pMS) (hI : IC R m) : vOk (PM (IC R) (fun x : Int32 => (x.toInt = -1 ∨ ((0 ≤ a1.toInt ∧ a1.toInt ≤ 5) ∧ (0 ≤ a2.toInt ∧ a2.toInt ≤ 5))))) (fX11_route a0 a1 a2 a3 m) := by
  have ta1 := tiB a1
  have ta2 := tiB a2
  have ta3 := tiB a3
  have cm1 : (-1 : Int32).toInt = -1 := rfl
  have c0 : (0 : Int32).toInt = 0 := rfl
  have c1 : (1 : Int32).toInt = 1 := rfl
  unfold fX11_route
  unfold fX11_route_0
  refine vBindP (fX9_hasHall_s (qMS_1_inStation _ ha0) hI) fun v1 ev1 qv1 => ?_
  try dsimp only
  have fv1 := tiB v1
  refine vEq (fun h2 => ?_) (fun h3 => ?_)
  · unfold fX11_route_22
    refine rM hI ?_
    first | exact True.intro | omega
  · have g4 := qv1.2.resolve_left (by omega)
    refine vBindP (fX9_hasHall_s (qMS_1_inStation _ ha0) hI) fun v5 ev5 qv5 => ?_
    try dsimp only
    have fv5 := tiB v5
    refine vNe (fun h6 => ?_) (fun h7 => ?_)
    · have g8 := qv5.2.resolve_left (by omega)
      refine vOk_bind (fX6_forgetRoutes_s (qMS_250_inMover _ ha0) hI) fun m9 hm9 => ?_
      refine vOk_bind (fX8_find_s (qMS_250_1_inRoutes _ ha0) (qMS_1_inStation _ ha0) hm9) fun m10 hm10 => ?_
      refine vEq (fun h11 => ?_) (fun h12 => ?_)
      · unfold fX11_route_61
        refine vBindP (fX8_firstLink_s (qMS_250_1_inRoutes _ ha0) hm10) fun v13 ev13 qv13 => ?_
        try dsimp only
        have fv13 := tiB v13
        refine rM hm10 ?_
        first | exact True.intro | omega
      · unfold fX11_route_61
        refine vBindP (fX8_firstLink_s (qMS_250_1_inRoutes _ ha0) hm10) fun v14 ev14 qv14 => ?_
        try dsimp only
        have fv14 := tiB v14
        refine rM hm10 ?_
        first | exact True.intro | omega
    · unfold fX11_route_22
      refine rM hI ?_
      first | exact True.intro | omega
theorem fX11_all_s {R : xMem} {a0 : Nat} {a1 : Int32} {m : xMem} (ha0 : a0 ∈ pMS) (hI : IC R m) : vOk (PP m (fun x : Int32 => (x.toInt = -1 ∨ ((0 ≤ a1.toInt ∧ a1.toInt ≤ 3))))) (fX11_all a0 a1 m) := by
  have ta1 := tiB a1
  have cm1 : (-1 : Int32).toInt = -1 := rfl
  have c0 : (0 : Int32).toInt = 0 := rfl
  have c1 : (1 : Int32).toInt = 1 := rfl
  have c2 : (2 : Int32).toInt = 2 := rfl
  have c3 : (3 : Int32).toInt = 3 := rfl
  unfold fX11_all
  unfold fX11_all_0
  refine vEq (fun h1 => ?_) (fun h2 => ?_)
  · refine vR fun v3 ev3 => ?_
    have fv3 := tiB v3
    refine rP ?_
    first | exact True.intro | omega
  · refine vEq (fun h4 => ?_) (fun h5 => ?_)
    · refine vR fun v6 ev6 => ?_
      have fv6 := tiB v6
      refine rP ?_
      first | exact True.intro | omega
    · refine vEq (fun h7 => ?_) (fun h8 => ?_)
      · refine vR fun v9 ev9 => ?_
        have fv9 := tiB v9
        refine rP ?_
        first | exact True.intro | omega
      · refine vEq (fun h10 => ?_) (fun h11 => ?_)
        · refine vR fun v12 ev12 => ?_
          have fv12 := tiB v12
          refine rP ?_
          first | exact True.intro | omega
        · refine rP ?_
          first | exact True.intro | omega
theorem fJ6_bitCount_0f7a4_s {R : xMem} {a0 : Int32} {m : xMem} (hI : IC R m) : vOk (PP m (fun _ : Int32 => True)) (fJ6_bitCount_0f7a4 a0 m) := by
  have ta0 := tiB a0
  have c1 : (1 : Int32).toInt = 1 := rfl
  have c2 : (2 : Int32).toInt = 2 := rfl
  have c4 : (4 : Int32).toInt = 4 := rfl
  have c8 : (8 : Int32).toInt = 8 := rfl
  have c16 : (16 : Int32).toInt = 16 := rfl
  have c63 : (63 : Int32).toInt = 63 := rfl
  have c252645135 : (252645135 : Int32).toInt = 252645135 := rfl
  have c858993459 : (858993459 : Int32).toInt = 858993459 := rfl
  have c1431655765 : (1431655765 : Int32).toInt = 1431655765 := rfl
  unfold fJ6_bitCount_0f7a4
  unfold fJ6_bitCount_0f7a4_0
  refine vI fun v1 ev1 fv1 => ?_
  refine vI fun v2 ev2 fv2 => ?_
  refine vI fun v3 ev3 fv3 => ?_
  refine vI fun v4 ev4 fv4 => ?_
  refine vI fun v5 ev5 fv5 => ?_
  refine vI fun v6 ev6 fv6 => ?_
  refine vI fun v7 ev7 fv7 => ?_
  refine vI fun v8 ev8 fv8 => ?_
  refine vI fun v9 ev9 fv9 => ?_
  refine vI fun v10 ev10 fv10 => ?_
  refine vI fun v11 ev11 fv11 => ?_
  refine vI fun v12 ev12 fv12 => ?_
  refine vI fun v13 ev13 fv13 => ?_
  refine vI fun v14 ev14 fv14 => ?_
  refine vI fun v15 ev15 fv15 => ?_
  refine rP ?_
  first | exact True.intro | omega
theorem fX11_mayTurn_26_s {R : xMem} {a0 : Nat} {a1 : Int32} {m : xMem} (ha0 : a0 ∈ pMS) (hI : IC R m) : ∀ (fuel : Nat), ∀ (l3 : Int32), ((0 ≤ l3.toInt ∧ l3.toInt ≤ 10)) → 2147483648 - l3.toInt < (fuel : Int) → vOk (PP m (fun x : Int32 => (0 ≤ x.toInt ∧ x.toInt ≤ 1))) (fX11_mayTurn_26 a0 a1 fuel l3 m) := by
  intro fuel
  induction fuel with
  | zero =>
    intro l3 hp hmu
    have ta1 := tiB a1
    have tl3 := tiB l3
    exfalso; omega
  | succ fuel ih =>
    intro l3 hp hmu
    have ta1 := tiB a1
    have tl3 := tiB l3
    have c0 : (0 : Int32).toInt = 0 := rfl
    have c1 : (1 : Int32).toInt = 1 := rfl
    have c10 : (10 : Int32).toInt = 10 := rfl
    rw [fX11_mayTurn_26]
    refine vLe (fun h1 => ?_) (fun h2 => ?_)
    · refine rP ?_
      first | exact True.intro | omega
    · refine vI fun v3 ev3 fv3 => ?_
      refine vI fun v4 ev4 fv4 => ?_
      refine vNe (fun h5 => ?_) (fun h6 => ?_)
      · unfold fX11_mayTurn_54
        refine vA (by omega) fun v7 ev7 fv7 => ?_
        exact ih _ (by omega) (by omega)
      · refine vBindP (fX9_hasStepped_s (qMS_1_inStation _ ha0) hI) fun v8 ev8 qv8 => ?_
        try dsimp only
        have fv8 := tiB v8
        refine vNe (fun h9 => ?_) (fun h10 => ?_)
        · have g11 := qv8.2.resolve_left (by omega)
          unfold fX11_mayTurn_54
          refine vA (by omega) fun v12 ev12 fv12 => ?_
          exact ih _ (by omega) (by omega)
        · refine rP ?_
          first | exact True.intro | omega
theorem fX11_mayTurn_s {R : xMem} {a0 : Nat} {a1 : Int32} {m : xMem} (ha0 : a0 ∈ pMS) (hI : IC R m) : vOk (PP m (fun x : Int32 => (0 ≤ x.toInt ∧ x.toInt ≤ 1))) (fX11_mayTurn a0 a1 m) := by
  have ta1 := tiB a1
  have c0 : (0 : Int32).toInt = 0 := rfl
  have c1 : (1 : Int32).toInt = 1 := rfl
  have c5 : (5 : Int32).toInt = 5 := rfl
  have c10 : (10 : Int32).toInt = 10 := rfl
  unfold fX11_mayTurn
  unfold fX11_mayTurn_0
  refine vBindP (fJ6_bitCount_0f7a4_s hI) fun v1 ev1 qv1 => ?_
  try dsimp only
  have fv1 := tiB v1
  refine vLt (fun h2 => ?_) (fun h3 => ?_)
  · unfold fX11_mayTurn_22
    refine rP ?_
    first | exact True.intro | omega
  · refine vLt (fun h4 => ?_) (fun h5 => ?_)
    · unfold fX11_mayTurn_22
      refine rP ?_
      first | exact True.intro | omega
    · refine vI fun v6 ev6 fv6 => ?_
      refine vEq (fun h7 => ?_) (fun h8 => ?_)
      · have cF := xFu
        exact fX11_mayTurn_26_s ha0 hI _ _ (by omega) (by omega)
      · unfold fX11_mayTurn_22
        refine rP ?_
        first | exact True.intro | omega
theorem fX2_copy_s {R : xMem} {a0 : Nat} {a1 : Nat} {m : xMem} (ha0 : a0 ∈ pHall) (ha1 : a1 ∈ pHall) (hI : IC R m) : vOk (IC R) (fX2_copy a0 a1 m) := by
  unfold fX2_copy
  unfold fX2_copy_0
  refine vR fun v1 ev1 => ?_
  have fv1 := tiB v1
  refine vR fun m2 em2 => ?_
  have hm2 : IC R m2 := by rw [em2]; exact IC_put hI (qHall_ok2 _ ha0)
  refine vR fun v3 ev3 => ?_
  have fv3 := tiB v3
  refine vR fun m4 em4 => ?_
  have hm4 : IC R m4 := by rw [em4]; exact IC_put hm2 (qHall_ok3 _ ha0)
  refine vR fun v5 ev5 => ?_
  have fv5 := tiB v5
  refine vR fun m6 em6 => ?_
  have hm6 : IC R m6 := by rw [em6]; exact IC_put hm4 (qHall_ok4 _ ha0)
  refine vR fun v7 ev7 => ?_
  have fv7 := tiB v7
  refine vR fun m8 em8 => ?_
  have hm8 : IC R m8 := by rw [em8]; exact IC_put hm6 (qHall_ok5 _ ha0)
  refine vR fun v9 ev9 => ?_
  have fv9 := tiB v9
  refine vR fun m10 em10 => ?_
  have hm10 : IC R m10 := by rw [em10]; exact IC_put hm8 (qHall_ok6 _ ha0)
  refine vR fun v11 ev11 => ?_
  have fv11 := tiB v11
  refine vR fun m12 em12 => ?_
  have hm12 : IC R m12 := by rw [em12]; exact IC_put hm10 (qHall_ok7 _ ha0)
  refine vR fun v13 ev13 => ?_
  have fv13 : 0 ≤ v13.toInt ∧ v13.toInt ≤ 1 := by rw [ev13]; exact IC.bc hm12 _ _ (qHall_bc8 _ ha1)
  refine vB (by omega) ?_
  refine vR fun m14 em14 => ?_
  have hm14 : IC R m14 := by rw [em14]; exact IC_putB hm12 (qHall_kc8 _ ha0) (by omega)
  refine vR fun m15 em15 => ?_
  have hm15 : IC R m15 := by rw [em15]; exact IC_cpy hm14 (qHall_1_inArr _ ha0)
  refine vR fun m16 em16 => ?_
  have hm16 : IC R m16 := by rw [em16]; exact IC_cpy hm15 (qHall_2_inArr _ ha0)
  exact vOk_some hm16
theorem fX3_copy_sT {R : xMem} {a0 : Nat} {a1 : Nat} {m : xMem} (ha0 : a0 ∈ pLinkT) (ha1 : a1 ∈ pLink) (hI : IC R m) : vOk (IC R) (fX3_copy a0 a1 m) := by
  unfold fX3_copy
  unfold fX3_copy_0
  refine vR fun v1 ev1 => ?_
  have fv1 := tiB v1
  refine vR fun m2 em2 => ?_
  have hm2 : IC R m2 := by rw [em2]; exact IC_put hI (qLinkT_ok1 _ ha0)
  refine vR fun v3 ev3 => ?_
  have fv3 := tiB v3
  refine vR fun m4 em4 => ?_
  have hm4 : IC R m4 := by rw [em4]; exact IC_put hm2 (qLinkT_ok2 _ ha0)
  refine vR fun v5 ev5 => ?_
  have fv5 := tiB v5
  refine vR fun m6 em6 => ?_
  have hm6 : IC R m6 := by rw [em6]; exact IC_put hm4 (qLinkT_ok3 _ ha0)
  refine vR fun v7 ev7 => ?_
  have fv7 := tiB v7
  refine vR fun m8 em8 => ?_
  have hm8 : IC R m8 := by rw [em8]; exact IC_put hm6 (qLinkT_ok4 _ ha0)
  refine vR fun v9 ev9 => ?_
  have fv9 := tiB v9
  refine vR fun m10 em10 => ?_
  have hm10 : IC R m10 := by rw [em10]; exact IC_put hm8 (qLinkT_ok5 _ ha0)
  refine vR fun v11 ev11 => ?_
  have fv11 := tiB v11
  refine vR fun m12 em12 => ?_
  have hm12 : IC R m12 := by rw [em12]; exact IC_put hm10 (qLinkT_ok6 _ ha0)
  refine vR fun v13 ev13 => ?_
  have fv13 := tiB v13
  refine vR fun m14 em14 => ?_
  have hm14 : IC R m14 := by rw [em14]; exact IC_put hm12 (qLinkT_ok7 _ ha0)
  refine vR fun v15 ev15 => ?_
  have fv15 := tiB v15
  refine vR fun m16 em16 => ?_
  have hm16 : IC R m16 := by rw [em16]; exact IC_put hm14 (qLinkT_ok8 _ ha0)
  refine vR fun v17 ev17 => ?_
  have fv17 := tiB v17
  refine vR fun m18 em18 => ?_
  have hm18 : IC R m18 := by rw [em18]; exact IC_put hm16 (qLinkT_ok9 _ ha0)
  refine vR fun v19 ev19 => ?_
  have fv19 := tiB v19
  refine vR fun m20 em20 => ?_
  have hm20 : IC R m20 := by rw [em20]; exact IC_put hm18 (qLinkT_ok10 _ ha0)
  refine vR fun v21 ev21 => ?_
  have fv21 := tiB v21
  refine vR fun m22 em22 => ?_
  have hm22 : IC R m22 := by rw [em22]; exact IC_put hm20 (qLinkT_ok11 _ ha0)
  refine vR fun v23 ev23 => ?_
  have fv23 : 0 ≤ v23.toInt ∧ v23.toInt ≤ 1 := by rw [ev23]; exact IC.bc hm22 _ _ (qLink_bc12 _ ha1)
  refine vB (by omega) ?_
  refine vR fun m24 em24 => ?_
  have hm24 : IC R m24 := by rw [em24]; exact IC_putB hm22 (qLinkT_kc12 _ ha0) (by omega)
  refine vR fun v25 ev25 => ?_
  have fv25 : 0 ≤ v25.toInt ∧ v25.toInt ≤ 1 := by rw [ev25]; exact IC.bc hm24 _ _ (qLink_bc13 _ ha1)
  refine vB (by omega) ?_
  refine vR fun m26 em26 => ?_
  have hm26 : IC R m26 := by rw [em26]; exact IC_putB hm24 (qLinkT_kc13 _ ha0) (by omega)
  refine vR fun m27 em27 => ?_
  have hm27 : IC R m27 := by rw [em27]; exact IC_cpy hm26 (qLinkT_1_inArr _ ha0)
  exact vOk_some hm27
theorem fX0_copy_s {R : xMem} {a0 : Nat} {a1 : Nat} {m : xMem} (ha0 : a0 ∈ pBurst) (ha1 : a1 ∈ pBurst) (hI : IC R m) : vOk (IC R) (fX0_copy a0 a1 m) := by
  unfold fX0_copy
  unfold fX0_copy_0
  refine vR fun v1 ev1 => ?_
  have fv1 := tiB v1
  refine vR fun m2 em2 => ?_
  have hm2 : IC R m2 := by rw [em2]; exact IC_put hI (qBurst_ok0 _ ha0)
  refine vR fun v3 ev3 => ?_
  have fv3 := tiB v3
  refine vR fun m4 em4 => ?_
  have hm4 : IC R m4 := by rw [em4]; exact IC_put hm2 (qBurst_ok1 _ ha0)
  refine vR fun v5 ev5 => ?_
  have fv5 := tiB v5
  refine vR fun m6 em6 => ?_
  have hm6 : IC R m6 := by rw [em6]; exact IC_put hm4 (qBurst_ok2 _ ha0)
  refine vR fun v7 ev7 => ?_
  have fv7 := tiB v7
  refine vR fun m8 em8 => ?_
  have hm8 : IC R m8 := by rw [em8]; exact IC_put hm6 (qBurst_ok3 _ ha0)
  refine vR fun v9 ev9 => ?_
  have fv9 := tiB v9
  refine vR fun m10 em10 => ?_
  have hm10 : IC R m10 := by rw [em10]; exact IC_put hm8 (qBurst_ok4 _ ha0)
  refine vR fun v11 ev11 => ?_
  have fv11 := tiB v11
  refine vR fun m12 em12 => ?_
  have hm12 : IC R m12 := by rw [em12]; exact IC_put hm10 (qBurst_ok5 _ ha0)
  refine vR fun v13 ev13 => ?_
  have fv13 : 0 ≤ v13.toInt ∧ v13.toInt ≤ 1 := by rw [ev13]; exact IC.bc hm12 _ _ (qBurst_bc6 _ ha1)
  refine vB (by omega) ?_
  refine vR fun m14 em14 => ?_
  have hm14 : IC R m14 := by rw [em14]; exact IC_putB hm12 (qBurst_kc6 _ ha0) (by omega)
  exact vOk_some hm14
theorem fX9_copyMoving_140_sT {R : xMem} {a0 : Nat} {a1 : Nat} (ha0 : a0 ∈ pTried) (ha1 : a1 ∈ pStation) : ∀ (fuel : Nat), ∀ (l2 : Int32) (m : xMem), ((0 ≤ l2.toInt ∧ l2.toInt ≤ 30)) → IC R m → 2147483648 - l2.toInt < (fuel : Int) → vOk (IC R) (fX9_copyMoving_140 a0 a1 fuel l2 m) := by
  intro fuel
  induction fuel with
  | zero =>
    intro l2 m hp hI hmu
    have tl2 := tiB l2
    exfalso; omega
  | succ fuel ih =>
    intro l2 m hp hI hmu
    have tl2 := tiB l2
    have c1 : (1 : Int32).toInt = 1 := rfl
    have c30 : (30 : Int32).toInt = 30 := rfl
    rw [fX9_copyMoving_140]
    refine vR fun v1 ev1 => ?_
    have fv1 := tiB v1
    refine vLe (fun h2 => ?_) (fun h3 => ?_)
    · unfold fX9_copyMoving_175
      exact vOk_some hI
    · refine vLe (fun h4 => ?_) (fun h5 => ?_)
      · unfold fX9_copyMoving_175
        exact vOk_some hI
      · refine vIn (by omega) (by omega) fun n6 => ?_
        refine vR fun r7 er7 => ?_
        have hr7 : r7 ∈ pBurst := by rw [er7]; exact (qTried_53_m1_30_inBurst _ ha0 _ n6)
        refine vIn (by omega) (by omega) fun n8 => ?_
        refine vR fun r9 er9 => ?_
        have hr9 : r9 ∈ pBurst := by rw [er9]; exact (qStation_53_m1_30_inBurst _ ha1 _ n8)
        refine vOk_bind (fX0_copy_s hr7 hr9 hI) fun m10 hm10 => ?_
        refine vA (by omega) fun v11 ev11 fv11 => ?_
        exact ih _ _ (by omega) hm10 (by omega)
theorem fX9_copyMoving_103_sT {R : xMem} {a0 : Nat} {a1 : Nat} (ha0 : a0 ∈ pTried) (ha1 : a1 ∈ pStation) : ∀ (fuel : Nat), ∀ (l2 : Int32) (m : xMem), ((0 ≤ l2.toInt ∧ l2.toInt ≤ 10)) → IC R m → 2147483648 - l2.toInt < (fuel : Int) → vOk (IC R) (fX9_copyMoving_103 a0 a1 fuel l2 m) := by
  intro fuel
  induction fuel with
  | zero =>
    intro l2 m hp hI hmu
    have tl2 := tiB l2
    exfalso; omega
  | succ fuel ih =>
    intro l2 m hp hI hmu
    have tl2 := tiB l2
    have c0 : (0 : Int32).toInt = 0 := rfl
    have c1 : (1 : Int32).toInt = 1 := rfl
    have c10 : (10 : Int32).toInt = 10 := rfl
    rw [fX9_copyMoving_103]
    refine vR fun v1 ev1 => ?_
    have fv1 := tiB v1
    refine vLe (fun h2 => ?_) (fun h3 => ?_)
    · unfold fX9_copyMoving_138
      have cF := xFu
      exact fX9_copyMoving_140_sT ha0 ha1 _ _ _ (by omega) hI (by omega)
    · refine vLe (fun h4 => ?_) (fun h5 => ?_)
      · unfold fX9_copyMoving_138
        have cF := xFu
        exact fX9_copyMoving_140_sT ha0 ha1 _ _ _ (by omega) hI (by omega)
      · refine vIn (by omega) (by omega) fun n6 => ?_
        refine vR fun r7 er7 => ?_
        have hr7 : r7 ∈ pLinkT := by rw [er7]; exact (qTried_33_m2_10_inLinkT _ ha0 _ n6)
        refine vIn (by omega) (by omega) fun n8 => ?_
        refine vR fun r9 er9 => ?_
        have hr9 : r9 ∈ pLink := by rw [er9]; exact (qStation_33_m2_10_inLink _ ha1 _ n8)
        refine vOk_bind (fX3_copy_sT hr7 hr9 hI) fun m10 hm10 => ?_
        refine vA (by omega) fun v11 ev11 fv11 => ?_
        exact ih _ _ (by omega) hm10 (by omega)
theorem fX9_copyMoving_66_sT {R : xMem} {a0 : Nat} {a1 : Nat} (ha0 : a0 ∈ pTried) (ha1 : a1 ∈ pStation) : ∀ (fuel : Nat), ∀ (l2 : Int32) (m : xMem), ((0 ≤ l2.toInt ∧ l2.toInt ≤ 6)) → IC R m → 2147483648 - l2.toInt < (fuel : Int) → vOk (IC R) (fX9_copyMoving_66 a0 a1 fuel l2 m) := by
  intro fuel
  induction fuel with
  | zero =>
    intro l2 m hp hI hmu
    have tl2 := tiB l2
    exfalso; omega
  | succ fuel ih =>
    intro l2 m hp hI hmu
    have tl2 := tiB l2
    have c0 : (0 : Int32).toInt = 0 := rfl
    have c1 : (1 : Int32).toInt = 1 := rfl
    have c6 : (6 : Int32).toInt = 6 := rfl
    rw [fX9_copyMoving_66]
    refine vR fun v1 ev1 => ?_
    have fv1 := tiB v1
    refine vLe (fun h2 => ?_) (fun h3 => ?_)
    · unfold fX9_copyMoving_101
      have cF := xFu
      exact fX9_copyMoving_103_sT ha0 ha1 _ _ _ (by omega) hI (by omega)
    · refine vLe (fun h4 => ?_) (fun h5 => ?_)
      · unfold fX9_copyMoving_101
        have cF := xFu
        exact fX9_copyMoving_103_sT ha0 ha1 _ _ _ (by omega) hI (by omega)
      · refine vIn (by omega) (by omega) fun n6 => ?_
        refine vR fun r7 er7 => ?_
        have hr7 : r7 ∈ pHall := by rw [er7]; exact (qTried_15_m3_6_inHall _ ha0 _ n6)
        refine vIn (by omega) (by omega) fun n8 => ?_
        refine vR fun r9 er9 => ?_
        have hr9 : r9 ∈ pHall := by rw [er9]; exact (qStation_15_m3_6_inHall _ ha1 _ n8)
        refine vOk_bind (fX2_copy_s hr7 hr9 hI) fun m10 hm10 => ?_
        refine vA (by omega) fun v11 ev11 fv11 => ?_
        exact ih _ _ (by omega) hm10 (by omega)
theorem fX9_copyMoving_sT {R : xMem} {a0 : Nat} {a1 : Nat} {m : xMem} (ha0 : a0 ∈ pTried) (ha1 : a1 ∈ pStation) (hI : IC R m) : vOk (IC R) (fX9_copyMoving a0 a1 m) := by
  have c0 : (0 : Int32).toInt = 0 := rfl
  unfold fX9_copyMoving
  unfold fX9_copyMoving_0
  refine vR fun v1 ev1 => ?_
  have fv1 := tiB v1
  refine vR fun m2 em2 => ?_
  have hm2 : IC R m2 := by rw [em2]; exact IC_put hI (qTried_ok6 _ ha0)
  refine vR fun v3 ev3 => ?_
  have fv3 := tiB v3
  refine vR fun m4 em4 => ?_
  have hm4 : IC R m4 := by rw [em4]; exact IC_put hm2 (qTried_ok7 _ ha0)
  refine vR fun v5 ev5 => ?_
  have fv5 := tiB v5
  refine vR fun m6 em6 => ?_
  have hm6 : IC R m6 := by rw [em6]; exact IC_put hm4 (qTried_ok8 _ ha0)
  refine vR fun v7 ev7 => ?_
  have fv7 := tiB v7
  refine vR fun m8 em8 => ?_
  have hm8 : IC R m8 := by rw [em8]; exact IC_put hm6 (qTried_ok9 _ ha0)
  refine vR fun v9 ev9 => ?_
  have fv9 := tiB v9
  refine vR fun m10 em10 => ?_
  have hm10 : IC R m10 := by rw [em10]; exact IC_put hm8 (qTried_ok12 _ ha0)
  refine vR fun v11 ev11 => ?_
  have fv11 := tiB v11
  refine vR fun m12 em12 => ?_
  have hm12 : IC R m12 := by rw [em12]; exact IC_put hm10 (qTried_ok13 _ ha0)
  refine vR fun v13 ev13 => ?_
  have fv13 := tiB v13
  refine vR fun m14 em14 => ?_
  have hm14 : IC R m14 := by rw [em14]; exact IC_put hm12 (qTried_ok14 _ ha0)
  refine vR fun v15 ev15 => ?_
  have fv15 := tiB v15
  refine vR fun m16 em16 => ?_
  have hm16 : IC R m16 := by rw [em16]; exact IC_put hm14 (qTried_ok15 _ ha0)
  have cF := xFu
  exact fX9_copyMoving_66_sT ha0 ha1 _ _ _ (by omega) hm16 (by omega)
theorem fX11_beginTrial_s {R : xMem} {a0 : Nat} {m : xMem} (ha0 : a0 ∈ pMS) (hI : IC R m) : vOk (PM (IC R) (fun x : Nat => x ∈ pText)) (fX11_beginTrial a0 m) := by
  unfold fX11_beginTrial
  unfold fX11_beginTrial_0
  refine vOk_bind (fX9_copyMoving_sT (qMS_167_inTried _ ha0) (qMS_1_inStation _ ha0) hI) fun m1 hm1 => ?_
  refine vOk_bind (fX6_forgetRoutes_s (qMS_250_inMover _ ha0) hm1) fun m2 hm2 => ?_
  refine vBindP (fX11_law_s ha0 hm2) fun v3 ev3 qv3 => ?_
  try dsimp only
  exact rM hm2 qv3
theorem fX11_waitedByWays_63_s {R : xMem} {a0 : Nat} {a1 : Int32} {a2 : Int32} {a3 : Int32} (ha0 : a0 ∈ pMS) : ∀ (fuel : Nat), ∀ (l4 : Nat) (l5 : Int32) (m : xMem), l4 ∈ pText → ((0 ≤ l5.toInt ∧ l5.toInt ≤ 2147483647)) → IC R m → 2147483648 - l5.toInt < (fuel : Int) → vOk (PM (IC R) (fun _ : Int32 => True)) (fX11_waitedByWays_63 a0 a1 a2 a3 fuel l4 l5 m) := by
  intro fuel
  induction fuel with
  | zero =>
    intro l4 l5 m hl4 hp hI hmu
    have ta1 := tiB a1
    have ta2 := tiB a2
    have ta3 := tiB a3
    have tl5 := tiB l5
    exfalso; omega
  | succ fuel ih =>
    intro l4 l5 m hl4 hp hI hmu
    have ta1 := tiB a1
    have ta2 := tiB a2
    have ta3 := tiB a3
    have tl5 := tiB l5
    have c1 : (1 : Int32).toInt = 1 := rfl
    rw [fX11_waitedByWays_63]
    refine vLe (fun h1 => ?_) (fun h2 => ?_)
    · refine vR fun v3 ev3 => ?_
      have fv3 := tiB v3
      refine vR fun v4 ev4 => ?_
      have fv4 := tiB v4
      refine vI fun v5 ev5 fv5 => ?_
      refine rM hI ?_
      first | exact True.intro | omega
    · refine vOk_bind (fX6_passSecond_sT (qMS_250_inMover _ ha0) (qMS_167_inTried _ ha0) hl4 hI) fun m6 hm6 => ?_
      refine vA (by omega) fun v7 ev7 fv7 => ?_
      exact ih _ _ _ hl4 (by omega) hm6 (by omega)
theorem fX11_waitedByWays_9_s {R : xMem} {a0 : Nat} {a1 : Int32} {a2 : Int32} {a3 : Int32} (ha0 : a0 ∈ pMS) : ∀ (fuel : Nat), ∀ (l4 : Nat) (l5 : Int32) (m : xMem), l4 ∈ pText → ((0 ≤ l5.toInt ∧ l5.toInt ≤ 10)) → IC R m → 2147483648 - l5.toInt < (fuel : Int) → vOk (PM (IC R) (fun _ : Int32 => True)) (fX11_waitedByWays_9 a0 a1 a2 a3 fuel l4 l5 m) := by
  intro fuel
  induction fuel with
  | zero =>
    intro l4 l5 m hl4 hp hI hmu
    have ta1 := tiB a1
    have ta2 := tiB a2
    have ta3 := tiB a3
    have tl5 := tiB l5
    exfalso; omega
  | succ fuel ih =>
    intro l4 l5 m hl4 hp hI hmu
    have ta1 := tiB a1
    have ta2 := tiB a2
    have ta3 := tiB a3
    have tl5 := tiB l5
    have c0 : (0 : Int32).toInt = 0 := rfl
    have c1 : (1 : Int32).toInt = 1 := rfl
    have c2 : (2 : Int32).toInt = 2 := rfl
    have c10 : (10 : Int32).toInt = 10 := rfl
    rw [fX11_waitedByWays_9]
    refine vLe (fun h1 => ?_) (fun h2 => ?_)
    · have cF := xFu
      exact fX11_waitedByWays_63_s ha0 _ _ _ _ hl4 (by omega) hI (by omega)
    · refine vI fun v3 ev3 fv3 => ?_
      refine vI fun v4 ev4 fv4 => ?_
      refine vNe (fun h5 => ?_) (fun h6 => ?_)
      · unfold fX11_waitedByWays_54
        refine vA (by omega) fun v7 ev7 fv7 => ?_
        exact ih _ _ _ hl4 (by omega) hI (by omega)
      · refine vIn (by omega) (by omega) fun n8 => ?_
        refine vR fun r9 er9 => ?_
        have hr9 : r9 ∈ pLinkT := by rw [er9]; exact (qMS_167_33_m2_10_inLinkT _ ha0 _ n8)
        refine vI fun v10 ev10 fv10 => ?_
        refine vI fun v11 ev11 fv11 => ?_
        refine vNe (fun h12 => ?_) (fun h13 => ?_)
        · unfold fX11_waitedByWays_51
          refine vOk_bind (fX3_turnTo_s (qLinkT_inLink _ hr9) hI) fun m14 hm14 => ?_
          unfold fX11_waitedByWays_54
          refine vA (by omega) fun v15 ev15 fv15 => ?_
          exact ih _ _ _ hl4 (by omega) hm14 (by omega)
        · unfold fX11_waitedByWays_51
          refine vOk_bind (fX3_turnTo_s (qLinkT_inLink _ hr9) hI) fun m16 hm16 => ?_
          unfold fX11_waitedByWays_54
          refine vA (by omega) fun v17 ev17 fv17 => ?_
          exact ih _ _ _ hl4 (by omega) hm16 (by omega)
theorem fX11_waitedByWays_s {R : xMem} {a0 : Nat} {a1 : Int32} {a2 : Int32} {a3 : Int32} {m : xMem} (ha0 : a0 ∈ pMS) (hI : IC R m) : vOk (PM (IC R) (fun _ : Int32 => True)) (fX11_waitedByWays a0 a1 a2 a3 m) := by
  have ta1 := tiB a1
  have ta2 := tiB a2
  have ta3 := tiB a3
  have c0 : (0 : Int32).toInt = 0 := rfl
  unfold fX11_waitedByWays
  unfold fX11_waitedByWays_0
  refine vBindM (fX11_beginTrial_s ha0 hI) fun v1 m2 hm2 qv1 => ?_
  try dsimp only
  have cF := xFu
  exact fX11_waitedByWays_9_s ha0 _ _ _ _ qv1 (by omega) hm2 (by omega)
theorem fX11_ways_45_s {R : xMem} {a0 : Nat} {a1 : Int32} {a2 : Int32} {a3 : Int32} (ha0 : a0 ∈ pMS) : ∀ (fuel : Nat), ∀ (l4 : Int32) (l5 : Int32) (l6 : Int32) (l7 : Int32) (m : xMem), ((1 ≤ a2.toInt ∧ a2.toInt ≤ 300) ∧ (0 ≤ a3.toInt ∧ a3.toInt ≤ 1) ∧ (1 ≤ l7.toInt ∧ l7.toInt ≤ 32)) → IC R m → 2147483648 - l7.toInt < (fuel : Int) → vOk (PM (IC R) (fun x : Int32 => (x.toInt = -1 ∨ ((1 ≤ a2.toInt ∧ a2.toInt ≤ 300) ∧ (0 ≤ a3.toInt ∧ a3.toInt ≤ 1))))) (fX11_ways_45 a0 a1 a2 a3 fuel l4 l5 l6 l7 m) := by
  intro fuel
  induction fuel with
  | zero =>
    intro l4 l5 l6 l7 m hp hI hmu
    have ta1 := tiB a1
    have ta2 := tiB a2
    have ta3 := tiB a3
    have tl4 := tiB l4
    have tl5 := tiB l5
    have tl6 := tiB l6
    have tl7 := tiB l7
    exfalso; omega
  | succ fuel ih =>
    intro l4 l5 l6 l7 m hp hI hmu
    have ta1 := tiB a1
    have ta2 := tiB a2
    have ta3 := tiB a3
    have tl4 := tiB l4
    have tl5 := tiB l5
    have tl6 := tiB l6
    have tl7 := tiB l7
    have c0 : (0 : Int32).toInt = 0 := rfl
    have c1 : (1 : Int32).toInt = 1 := rfl
    have c32 : (32 : Int32).toInt = 32 := rfl
    rw [fX11_ways_45]
    refine vLe (fun h1 => ?_) (fun h2 => ?_)
    · unfold fX11_ways_99
      refine vNe (fun h3 => ?_) (fun h4 => ?_)
      · unfold fX11_ways_110
        refine rM hI ?_
        first | exact True.intro | omega
      · unfold fX11_ways_110
        refine rM hI ?_
        first | exact True.intro | omega
    · refine vI fun v5 ev5 fv5 => ?_
      refine vI fun v6 ev6 fv6 => ?_
      refine vNe (fun h7 => ?_) (fun h8 => ?_)
      · refine vBindM (fX11_waitedByWays_s ha0 hI) fun v9 m10 hm10 qv9 => ?_
        try dsimp only
        have fv9 := tiB v9
        refine vLe (fun h11 => ?_) (fun h12 => ?_)
        · unfold fX11_ways_93
          refine vA (by omega) fun v13 ev13 fv13 => ?_
          exact ih _ _ _ _ _ (by omega) hm10 (by omega)
        · unfold fX11_ways_93
          refine vA (by omega) fun v14 ev14 fv14 => ?_
          exact ih _ _ _ _ _ (by omega) hm10 (by omega)
      · unfold fX11_ways_99
        refine vNe (fun h15 => ?_) (fun h16 => ?_)
        · unfold fX11_ways_110
          refine rM hI ?_
          first | exact True.intro | omega
        · unfold fX11_ways_110
          refine rM hI ?_
          first | exact True.intro | omega
theorem fX11_ways_s {R : xMem} {a0 : Nat} {a1 : Int32} {a2 : Int32} {a3 : Int32} {m : xMem} (ha0 : a0 ∈ pMS) (hI : IC R m) : vOk (PM (IC R) (fun x : Int32 => (x.toInt = -1 ∨ ((1 ≤ a2.toInt ∧ a2.toInt ≤ 300) ∧ (0 ≤ a3.toInt ∧ a3.toInt ≤ 1))))) (fX11_ways a0 a1 a2 a3 m) := by
  have ta1 := tiB a1
  have ta2 := tiB a2
  have ta3 := tiB a3
  have cm1 : (-1 : Int32).toInt = -1 := rfl
  have c0 : (0 : Int32).toInt = 0 := rfl
  have c1 : (1 : Int32).toInt = 1 := rfl
  unfold fX11_ways
  unfold fX11_ways_0
  refine vBindP (fX11_within_s hI) fun v1 ev1 qv1 => ?_
  try dsimp only
  have fv1 := tiB v1
  refine vEq (fun h2 => ?_) (fun h3 => ?_)
  · unfold fX11_ways_25
    refine rM hI ?_
    first | exact True.intro | omega
  · have g4 := qv1.2.resolve_left (by omega)
    refine vBindP (fX11_mayRun_s ha0 hI) fun v5 ev5 qv5 => ?_
    try dsimp only
    have fv5 := tiB v5
    refine vEq (fun h6 => ?_) (fun h7 => ?_)
    · unfold fX11_ways_25
      refine rM hI ?_
      first | exact True.intro | omega
    · have g8 := qv5.2.resolve_left (by omega)
      refine vBindP (fX11_mayTurn_s ha0 hI) fun v9 ev9 qv9 => ?_
      try dsimp only
      have fv9 := tiB v9
      refine vNe (fun h10 => ?_) (fun h11 => ?_)
      · refine vBindM (fX11_waitedByWays_s ha0 hI) fun v12 m13 hm13 qv12 => ?_
        try dsimp only
        have fv12 := tiB v12
        have cF := xFu
        exact fX11_ways_45_s ha0 _ _ _ _ _ _ (by omega) hm13 (by omega)
      · unfold fX11_ways_25
        refine rM hI ?_
        first | exact True.intro | omega
theorem fX9_anyHallOver_2_s {R : xMem} {a0 : Nat} {m : xMem} (ha0 : a0 ∈ pStation) (hI : IC R m) : ∀ (fuel : Nat), ∀ (l1 : Int32), ((0 ≤ l1.toInt ∧ l1.toInt ≤ 6)) → 2147483648 - l1.toInt < (fuel : Int) → vOk (PP m (fun x : Int32 => (0 ≤ x.toInt ∧ x.toInt ≤ 1))) (fX9_anyHallOver_2 a0 fuel l1 m) := by
  intro fuel
  induction fuel with
  | zero =>
    intro l1 hp hmu
    have tl1 := tiB l1
    exfalso; omega
  | succ fuel ih =>
    intro l1 hp hmu
    have tl1 := tiB l1
    have c0 : (0 : Int32).toInt = 0 := rfl
    have c1 : (1 : Int32).toInt = 1 := rfl
    have c6 : (6 : Int32).toInt = 6 := rfl
    rw [fX9_anyHallOver_2]
    refine vR fun v1 ev1 => ?_
    have fv1 := tiB v1
    refine vLe (fun h2 => ?_) (fun h3 => ?_)
    · unfold fX9_anyHallOver_39
      refine rP ?_
      first | exact True.intro | omega
    · refine vLe (fun h4 => ?_) (fun h5 => ?_)
      · unfold fX9_anyHallOver_39
        refine rP ?_
        first | exact True.intro | omega
      · refine vIn (by omega) (by omega) fun n6 => ?_
        refine vR fun r7 er7 => ?_
        have hr7 : r7 ∈ pHall := by rw [er7]; exact (qStation_15_m3_6_inHall _ ha0 _ n6)
        refine vBindP (fX2_isOver_s hr7 hI) fun v8 ev8 qv8 => ?_
        try dsimp only
        have fv8 := tiB v8
        refine vEq (fun h9 => ?_) (fun h10 => ?_)
        · refine vA (by omega) fun v11 ev11 fv11 => ?_
          exact ih _ (by omega) (by omega)
        · refine rP ?_
          first | exact True.intro | omega
theorem fX9_anyHallOver_s {R : xMem} {a0 : Nat} {m : xMem} (ha0 : a0 ∈ pStation) (hI : IC R m) : vOk (PP m (fun x : Int32 => (0 ≤ x.toInt ∧ x.toInt ≤ 1))) (fX9_anyHallOver a0 m) := by
  have c0 : (0 : Int32).toInt = 0 := rfl
  unfold fX9_anyHallOver
  unfold fX9_anyHallOver_0
  have cF := xFu
  exact fX9_anyHallOver_2_s ha0 hI _ _ (by omega) (by omega)
theorem fX11_shutByBar_33_s {R : xMem} {a0 : Nat} {a1 : Int32} {a2 : Int32} {a3 : Int32} (ha0 : a0 ∈ pMS) : ∀ (fuel : Nat), ∀ (l4 : Nat) (l5 : Int32) (m : xMem), l4 ∈ pText → ((0 ≤ a1.toInt ∧ a1.toInt ≤ 5) ∧ (0 ≤ l5.toInt ∧ l5.toInt ≤ 2147483647)) → IC R m → 2147483648 - l5.toInt < (fuel : Int) → vOk (PM (IC R) (fun x : Int32 => (x.toInt = -1 ∨ ((0 ≤ a1.toInt ∧ a1.toInt ≤ 5))))) (fX11_shutByBar_33 a0 a1 a2 a3 fuel l4 l5 m) := by
  intro fuel
  induction fuel with
  | zero =>
    intro l4 l5 m hl4 hp hI hmu
    have ta1 := tiB a1
    have ta2 := tiB a2
    have ta3 := tiB a3
    have tl5 := tiB l5
    exfalso; omega
  | succ fuel ih =>
    intro l4 l5 m hl4 hp hI hmu
    have ta1 := tiB a1
    have ta2 := tiB a2
    have ta3 := tiB a3
    have tl5 := tiB l5
    have cm1 : (-1 : Int32).toInt = -1 := rfl
    have c0 : (0 : Int32).toInt = 0 := rfl
    have c1 : (1 : Int32).toInt = 1 := rfl
    rw [fX11_shutByBar_33]
    refine vLe (fun h1 => ?_) (fun h2 => ?_)
    · refine vIn (by omega) (by omega) fun n3 => ?_
      refine vR fun r4 er4 => ?_
      have hr4 : r4 ∈ pHall := by rw [er4]; exact (qMS_167_15_m3_6_inHall _ ha0 _ n3)
      refine vR fun v5 ev5 => ?_
      have fv5 := tiB v5
      refine vIn (by omega) (by omega) fun n6 => ?_
      refine vR fun r7 er7 => ?_
      have hr7 : r7 ∈ pHall := by rw [er7]; exact (qMS_1_15_m3_6_inHall _ ha0 _ n6)
      refine vR fun v8 ev8 => ?_
      have fv8 := tiB v8
      refine vI fun v9 ev9 fv9 => ?_
      refine rM hI ?_
      first | exact True.intro | omega
    · refine vOk_bind (fX6_passSecond_sT (qMS_250_inMover _ ha0) (qMS_167_inTried _ ha0) hl4 hI) fun m10 hm10 => ?_
      refine vR fun v11 ev11 => ?_
      have fv11 := tiB v11
      refine vR fun v12 ev12 => ?_
      have fv12 := tiB v12
      refine vNe (fun h13 => ?_) (fun h14 => ?_)
      · unfold fX11_shutByBar_79
        refine rM hm10 ?_
        first | exact True.intro | omega
      · refine vBindP (fX9_anyHallOver_s (qMS_167_inStation _ ha0) hm10) fun v15 ev15 qv15 => ?_
        try dsimp only
        have fv15 := tiB v15
        refine vEq (fun h16 => ?_) (fun h17 => ?_)
        · refine vA (by omega) fun v18 ev18 fv18 => ?_
          exact ih _ _ _ hl4 (by omega) hm10 (by omega)
        · unfold fX11_shutByBar_79
          refine rM hm10 ?_
          first | exact True.intro | omega
theorem fX11_shutByBar_s {R : xMem} {a0 : Nat} {a1 : Int32} {a2 : Int32} {a3 : Int32} {m : xMem} (ha0 : a0 ∈ pMS) (hI : IC R m) : vOk (PM (IC R) (fun x : Int32 => (x.toInt = -1 ∨ ((0 ≤ a1.toInt ∧ a1.toInt ≤ 5))))) (fX11_shutByBar a0 a1 a2 a3 m) := by
  have ta1 := tiB a1
  have ta2 := tiB a2
  have ta3 := tiB a3
  have cm1 : (-1 : Int32).toInt = -1 := rfl
  have c0 : (0 : Int32).toInt = 0 := rfl
  have c5 : (5 : Int32).toInt = 5 := rfl
  unfold fX11_shutByBar
  unfold fX11_shutByBar_0
  refine vBindP (fX11_within_s hI) fun v1 ev1 qv1 => ?_
  try dsimp only
  have fv1 := tiB v1
  refine vNe (fun h2 => ?_) (fun h3 => ?_)
  · have g4 := qv1.2.resolve_left (by omega)
    refine vBindM (fX11_beginTrial_s ha0 hI) fun v5 m6 hm6 qv5 => ?_
    try dsimp only
    refine vIn (by omega) (by omega) fun n7 => ?_
    refine vR fun r8 er8 => ?_
    have hr8 : r8 ∈ pHall := by rw [er8]; exact (qMS_167_15_m3_6_inHall _ ha0 _ n7)
    refine vR fun m9 em9 => ?_
    have hm9 : IC R m9 := by rw [em9]; exact IC_put hm6 (qHall_ok3 _ hr8)
    have cF := xFu
    exact fX11_shutByBar_33_s ha0 _ _ _ _ qv5 (by omega) hm9 (by omega)
  · refine rM hI ?_
    first | exact True.intro | omega
theorem fX11_least_34_s {R : xMem} {a0 : Nat} {a1 : Int32} {a2 : Int32} {a3 : Int32} (ha0 : a0 ∈ pMS) : ∀ (fuel : Nat), ∀ (l4 : Int32) (m : xMem), ((0 ≤ a1.toInt ∧ a1.toInt ≤ 5) ∧ (1 ≤ a2.toInt ∧ a2.toInt ≤ 300) ∧ (0 ≤ a3.toInt ∧ a3.toInt ≤ 1) ∧ (-1 ≤ l4.toInt ∧ l4.toInt ≤ 60)) → IC R m → l4.toInt + 2147483649 < (fuel : Int) → vOk (PM (IC R) (fun x : Int32 => (x.toInt = -1 ∨ ((0 ≤ a1.toInt ∧ a1.toInt ≤ 5) ∧ (1 ≤ a2.toInt ∧ a2.toInt ≤ 300) ∧ (0 ≤ a3.toInt ∧ a3.toInt ≤ 1))))) (fX11_least_34 a0 a1 a2 a3 fuel l4 m) := by
  intro fuel
  induction fuel with
  | zero =>
    intro l4 m hp hI hmu
    have ta1 := tiB a1
    have ta2 := tiB a2
    have ta3 := tiB a3
    have tl4 := tiB l4
    exfalso; omega
  | succ fuel ih =>
    intro l4 m hp hI hmu
    have ta1 := tiB a1
    have ta2 := tiB a2
    have ta3 := tiB a3
    have tl4 := tiB l4
    have cm1 : (-1 : Int32).toInt = -1 := rfl
    have c0 : (0 : Int32).toInt = 0 := rfl
    rw [fX11_least_34]
    refine vLt (fun h1 => ?_) (fun h2 => ?_)
    · refine rM hI ?_
      first | exact True.intro | omega
    · refine vBindM (fX11_shutByBar_s ha0 hI) fun v3 m4 hm4 qv3 => ?_
      try dsimp only
      have fv3 := tiB v3
      refine vEq (fun h5 => ?_) (fun h6 => ?_)
      · refine vA (by omega) fun v7 ev7 fv7 => ?_
        exact ih _ _ (by omega) hm4 (by omega)
      · have g8 := qv3.resolve_left (by omega)
        refine vNe (fun h9 => ?_) (fun h10 => ?_)
        · unfold fX11_least_66
          refine rM hm4 ?_
          first | exact True.intro | omega
        · unfold fX11_least_66
          refine rM hm4 ?_
          first | exact True.intro | omega
theorem fX11_least_s {R : xMem} {a0 : Nat} {a1 : Int32} {a2 : Int32} {a3 : Int32} {m : xMem} (ha0 : a0 ∈ pMS) (hI : IC R m) : vOk (PM (IC R) (fun x : Int32 => (x.toInt = -1 ∨ ((0 ≤ a1.toInt ∧ a1.toInt ≤ 5) ∧ (1 ≤ a2.toInt ∧ a2.toInt ≤ 300) ∧ (0 ≤ a3.toInt ∧ a3.toInt ≤ 1))))) (fX11_least a0 a1 a2 a3 m) := by
  have ta1 := tiB a1
  have ta2 := tiB a2
  have ta3 := tiB a3
  have cm1 : (-1 : Int32).toInt = -1 := rfl
  have c0 : (0 : Int32).toInt = 0 := rfl
  have c1 : (1 : Int32).toInt = 1 := rfl
  have c60 : (60 : Int32).toInt = 60 := rfl
  unfold fX11_least
  unfold fX11_least_0
  refine vBindP (fX11_within_s hI) fun v1 ev1 qv1 => ?_
  try dsimp only
  have fv1 := tiB v1
  refine vEq (fun h2 => ?_) (fun h3 => ?_)
  · unfold fX11_least_28
    refine rM hI ?_
    first | exact True.intro | omega
  · have g4 := qv1.2.resolve_left (by omega)
    refine vBindP (fX11_mayRun_s ha0 hI) fun v5 ev5 qv5 => ?_
    try dsimp only
    have fv5 := tiB v5
    refine vEq (fun h6 => ?_) (fun h7 => ?_)
    · unfold fX11_least_28
      refine rM hI ?_
      first | exact True.intro | omega
    · have g8 := qv5.2.resolve_left (by omega)
      refine vBindP (fX9_hasHall_s (qMS_1_inStation _ ha0) hI) fun v9 ev9 qv9 => ?_
      try dsimp only
      have fv9 := tiB v9
      refine vNe (fun h10 => ?_) (fun h11 => ?_)
      · have g12 := qv9.2.resolve_left (by omega)
        have cF := xFu
        exact fX11_least_34_s ha0 _ _ _ (by omega) hI (by omega)
      · unfold fX11_least_28
        refine rM hI ?_
        first | exact True.intro | omega
