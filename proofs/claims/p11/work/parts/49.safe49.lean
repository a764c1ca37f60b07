/-! SAFETY of the class's methods, printed by wip/tools/vc.py -/
theorem fX8_findFor_128_s {R : xMem} {a0 : Nat} {a1 : Nat} {a2 : Int32} {rec109 : Int32 → xMem → Option xMem} {rec118 : Int32 → Int32 → xMem → Option xMem} {M109 : Int} {M118 : Int} (ha0 : a0 ∈ pRoutes) (ha1 : a1 ∈ pStation) (hrec109 : ∀ (l3 : Int32) (m : xMem), ((0 ≤ a2.toInt ∧ a2.toInt ≤ 1) ∧ (0 ≤ l3.toInt ∧ l3.toInt ≤ 6)) → IC R m → 2147483648 - l3.toInt < M109 → vOk (IC R) (rec109 l3 m)) (hrec118 : ∀ (l3 : Int32) (l4 : Int32) (m : xMem), ((0 ≤ a2.toInt ∧ a2.toInt ≤ 1) ∧ (0 ≤ l3.toInt ∧ l3.toInt ≤ 5) ∧ (0 ≤ l4.toInt ∧ l4.toInt ≤ 6)) → IC R m → 2147483648 - l3.toInt ≤ M109 → 2147483648 - l4.toInt < M118 → vOk (IC R) (rec118 l3 l4 m)) : ∀ (fuel : Nat), ∀ (l3 : Int32) (l4 : Int32) (l5 : Int32) (m : xMem), ((0 ≤ a2.toInt ∧ a2.toInt ≤ 1) ∧ (0 ≤ l3.toInt ∧ l3.toInt ≤ 5) ∧ (0 ≤ l4.toInt ∧ l4.toInt ≤ 5) ∧ (0 ≤ l5.toInt ∧ l5.toInt ≤ 6)) → IC R m → 2147483648 - l3.toInt ≤ M109 → 2147483648 - l4.toInt ≤ M118 → 2147483648 - l5.toInt < (fuel : Int) → vOk (IC R) (fX8_findFor_128 a0 a1 a2 rec109 rec118 fuel l3 l4 l5 m) := by
  intro fuel
  induction fuel with
  | zero =>
    intro l3 l4 l5 m hp hI hM109 hM118 hmu
    have ta2 := tiB a2
    have tl3 := tiB l3
    have tl4 := tiB l4
    have tl5 := tiB l5
    exfalso; omega
  | succ fuel ih =>
    intro l3 l4 l5 m hp hI hM109 hM118 hmu
    have ta2 := tiB a2
    have tl3 := tiB l3
    have tl4 := tiB l4
    have tl5 := tiB l5
    have c1 : (1 : Int32).toInt = 1 := rfl
    have c6 : (6 : Int32).toInt = 6 := rfl
    rw [fX8_findFor_128]
    refine vLe (fun h1 => ?_) (fun h2 => ?_)
    · refine vA (by omega) fun v3 ev3 fv3 => ?_
      exact hrec118 _ _ _ (by omega) hI (by omega) (by omega)
    · refine vBindP (fX8_between_s ha0 hI) fun v4 ev4 qv4 => ?_
      try dsimp only
      have fv4 := tiB v4
      refine vBindP (fX8_between_s ha0 hI) fun v5 ev5 qv5 => ?_
      try dsimp only
      have fv5 := tiB v5
      refine vI fun v6 ev6 fv6 => ?_
      refine vOk_bind (fX8_shorten_s ha0 hI) fun m7 hm7 => ?_
      refine vA (by omega) fun v8 ev8 fv8 => ?_
      exact ih _ _ _ _ (by omega) hm7 (by omega) (by omega) (by omega)
theorem fX8_findFor_118_s {R : xMem} {a0 : Nat} {a1 : Nat} {a2 : Int32} {rec109 : Int32 → xMem → Option xMem} {M109 : Int} (ha0 : a0 ∈ pRoutes) (ha1 : a1 ∈ pStation) (hrec109 : ∀ (l3 : Int32) (m : xMem), ((0 ≤ a2.toInt ∧ a2.toInt ≤ 1) ∧ (0 ≤ l3.toInt ∧ l3.toInt ≤ 6)) → IC R m → 2147483648 - l3.toInt < M109 → vOk (IC R) (rec109 l3 m)) : ∀ (fuel : Nat), ∀ (l3 : Int32) (l4 : Int32) (m : xMem), ((0 ≤ a2.toInt ∧ a2.toInt ≤ 1) ∧ (0 ≤ l3.toInt ∧ l3.toInt ≤ 5) ∧ (0 ≤ l4.toInt ∧ l4.toInt ≤ 6)) → IC R m → 2147483648 - l3.toInt ≤ M109 → 2147483648 - l4.toInt < (fuel : Int) → vOk (IC R) (fX8_findFor_118 a0 a1 a2 rec109 fuel l3 l4 m) := by
  intro fuel
  induction fuel with
  | zero =>
    intro l3 l4 m hp hI hM109 hmu
    have ta2 := tiB a2
    have tl3 := tiB l3
    have tl4 := tiB l4
    exfalso; omega
  | succ fuel ih =>
    intro l3 l4 m hp hI hM109 hmu
    have ta2 := tiB a2
    have tl3 := tiB l3
    have tl4 := tiB l4
    have c0 : (0 : Int32).toInt = 0 := rfl
    have c1 : (1 : Int32).toInt = 1 := rfl
    have c6 : (6 : Int32).toInt = 6 := rfl
    rw [fX8_findFor_118]
    refine vLe (fun h1 => ?_) (fun h2 => ?_)
    · refine vA (by omega) fun v3 ev3 fv3 => ?_
      exact hrec109 _ _ (by omega) hI (by omega)
    · have cF := xFu
      exact fX8_findFor_128_s ha0 ha1 hrec109 ih _ _ _ _ _ (by omega) hI (by omega) (by omega) (by omega)
theorem fX8_findFor_187_s {R : xMem} {a0 : Nat} {a1 : Nat} {a2 : Int32} {rec178 : Int32 → xMem → Option xMem} {M178 : Int} (ha0 : a0 ∈ pRoutes) (ha1 : a1 ∈ pStation) (hrec178 : ∀ (l3 : Int32) (m : xMem), ((0 ≤ a2.toInt ∧ a2.toInt ≤ 1) ∧ (0 ≤ l3.toInt ∧ l3.toInt ≤ 6)) → IC R m → 2147483648 - l3.toInt < M178 → vOk (IC R) (rec178 l3 m)) : ∀ (fuel : Nat), ∀ (l3 : Int32) (l4 : Int32) (m : xMem), ((0 ≤ a2.toInt ∧ a2.toInt ≤ 1) ∧ (0 ≤ l3.toInt ∧ l3.toInt ≤ 5) ∧ (0 ≤ l4.toInt ∧ l4.toInt ≤ 6)) → IC R m → 2147483648 - l3.toInt ≤ M178 → 2147483648 - l4.toInt < (fuel : Int) → vOk (IC R) (fX8_findFor_187 a0 a1 a2 rec178 fuel l3 l4 m) := by
  intro fuel
  induction fuel with
  | zero =>
    intro l3 l4 m hp hI hM178 hmu
    have ta2 := tiB a2
    have tl3 := tiB l3
    have tl4 := tiB l4
    exfalso; omega
  | succ fuel ih =>
    intro l3 l4 m hp hI hM178 hmu
    have ta2 := tiB a2
    have tl3 := tiB l3
    have tl4 := tiB l4
    have c1 : (1 : Int32).toInt = 1 := rfl
    have c6 : (6 : Int32).toInt = 6 := rfl
    have c36 : (36 : Int32).toInt = 36 := rfl
    rw [fX8_findFor_187]
    refine vLe (fun h1 => ?_) (fun h2 => ?_)
    · refine vA (by omega) fun v3 ev3 fv3 => ?_
      exact hrec178 _ _ (by omega) hI (by omega)
    · refine vM (v := 36 * a2.toInt) (by rw [c36]; exact Int.mul_comm _ _) (by omega) fun v4 ev4 fv4 => ?_
      refine vM (v := 6 * l3.toInt) (by rw [c6]; exact Int.mul_comm _ _) (by omega) fun v5 ev5 fv5 => ?_
      refine vA (by omega) fun v6 ev6 fv6 => ?_
      refine vA (by omega) fun v7 ev7 fv7 => ?_
      refine vBindP (fX8_lowestFirst_s ha0 ha1 hI) fun v8 ev8 qv8 => ?_
      try dsimp only
      have fv8 := tiB v8
      refine vIn (by omega) (by omega) fun n9 => ?_
      refine vR fun m10 em10 => ?_
      have hm10 : IC R m10 := by rw [em10]; exact IC_arr hI (qRoutes_1_inArr _ ha0)
      refine vA (by omega) fun v11 ev11 fv11 => ?_
      exact ih _ _ _ (by omega) hm10 (by omega) (by omega)
theorem fX8_findFor_178_s {R : xMem} {a0 : Nat} {a1 : Nat} {a2 : Int32} (ha0 : a0 ∈ pRoutes) (ha1 : a1 ∈ pStation) : ∀ (fuel : Nat), ∀ (l3 : Int32) (m : xMem), ((0 ≤ a2.toInt ∧ a2.toInt ≤ 1) ∧ (0 ≤ l3.toInt ∧ l3.toInt ≤ 6)) → IC R m → 2147483648 - l3.toInt < (fuel : Int) → vOk (IC R) (fX8_findFor_178 a0 a1 a2 fuel l3 m) := by
  intro fuel
  induction fuel with
  | zero =>
    intro l3 m hp hI hmu
    have ta2 := tiB a2
    have tl3 := tiB l3
    exfalso; omega
  | succ fuel ih =>
    intro l3 m hp hI hmu
    have ta2 := tiB a2
    have tl3 := tiB l3
    have c0 : (0 : Int32).toInt = 0 := rfl
    have c6 : (6 : Int32).toInt = 6 := rfl
    rw [fX8_findFor_178]
    refine vLe (fun h1 => ?_) (fun h2 => ?_)
    · exact vOk_some hI
    · have cF := xFu
      exact fX8_findFor_187_s ha0 ha1 ih _ _ _ _ (by omega) hI (by omega) (by omega)
theorem fX8_findFor_109_s {R : xMem} {a0 : Nat} {a1 : Nat} {a2 : Int32} (ha0 : a0 ∈ pRoutes) (ha1 : a1 ∈ pStation) : ∀ (fuel : Nat), ∀ (l3 : Int32) (m : xMem), ((0 ≤ a2.toInt ∧ a2.toInt ≤ 1) ∧ (0 ≤ l3.toInt ∧ l3.toInt ≤ 6)) → IC R m → 2147483648 - l3.toInt < (fuel : Int) → vOk (IC R) (fX8_findFor_109 a0 a1 a2 fuel l3 m) := by
  intro fuel
  induction fuel with
  | zero =>
    intro l3 m hp hI hmu
    have ta2 := tiB a2
    have tl3 := tiB l3
    exfalso; omega
  | succ fuel ih =>
    intro l3 m hp hI hmu
    have ta2 := tiB a2
    have tl3 := tiB l3
    have c0 : (0 : Int32).toInt = 0 := rfl
    have c6 : (6 : Int32).toInt = 6 := rfl
    rw [fX8_findFor_109]
    refine vLe (fun h1 => ?_) (fun h2 => ?_)
    · have cF := xFu
      exact fX8_findFor_178_s ha0 ha1 _ _ _ (by omega) hI (by omega)
    · have cF := xFu
      exact fX8_findFor_118_s ha0 ha1 ih _ _ _ _ (by omega) hI (by omega) (by omega)
theorem fX8_findFor_11_s {R : xMem} {a0 : Nat} {a1 : Nat} {a2 : Int32} (ha0 : a0 ∈ pRoutes) (ha1 : a1 ∈ pStation) : ∀ (fuel : Nat), ∀ (l3 : Int32) (m : xMem), ((0 ≤ a2.toInt ∧ a2.toInt ≤ 1) ∧ (0 ≤ l3.toInt ∧ l3.toInt ≤ 10)) → IC R m → 2147483648 - l3.toInt < (fuel : Int) → vOk (IC R) (fX8_findFor_11 a0 a1 a2 fuel l3 m) := by
  intro fuel
  induction fuel with
  | zero =>
    intro l3 m hp hI hmu
    have ta2 := tiB a2
    have tl3 := tiB l3
    exfalso; omega
  | succ fuel ih =>
    intro l3 m hp hI hmu
    have ta2 := tiB a2
    have tl3 := tiB l3
    have c0 : (0 : Int32).toInt = 0 := rfl
    have c1 : (1 : Int32).toInt = 1 := rfl
    have c10 : (10 : Int32).toInt = 10 := rfl
    rw [fX8_findFor_11]
    refine vR fun v1 ev1 => ?_
    have fv1 := tiB v1
    refine vLe (fun h2 => ?_) (fun h3 => ?_)
    · unfold fX8_findFor_107
      have cF := xFu
      exact fX8_findFor_109_s ha0 ha1 _ _ _ (by omega) hI (by omega)
    · refine vLe (fun h4 => ?_) (fun h5 => ?_)
      · unfold fX8_findFor_107
        have cF := xFu
        exact fX8_findFor_109_s ha0 ha1 _ _ _ (by omega) hI (by omega)
      · refine vIn (by omega) (by omega) fun n6 => ?_
        refine vR fun r7 er7 => ?_
        have hr7 : r7 ∈ pLink := by rw [er7]; exact (qStation_33_m2_10_inLink _ ha1 _ n6)
        refine vR fun v8 ev8 => ?_
        have fv8 := tiB v8
        refine vBindP (fX8_leads_s ha0 hr7 hI) fun v9 ev9 qv9 => ?_
        try dsimp only
        have fv9 := tiB v9
        refine vEq (fun h10 => ?_) (fun h11 => ?_)
        · unfold fX8_findFor_67
          refine vR fun v12 ev12 => ?_
          have fv12 := tiB v12
          refine vBindP (fX8_leads_s ha0 hr7 hI) fun v13 ev13 qv13 => ?_
          try dsimp only
          have fv13 := tiB v13
          refine vEq (fun h14 => ?_) (fun h15 => ?_)
          · unfold fX8_findFor_101
            refine vA (by omega) fun v16 ev16 fv16 => ?_
            exact ih _ _ (by omega) hI (by omega)
          · have g17 := qv13.2.resolve_left (by omega)
            refine vAl (ev12) ?_
            refine vAl (ev8) ?_
            refine vBindP (fX3_seconds_s hr7 hI) fun v18 ev18 qv18 => ?_
            try dsimp only
            have fv18 := tiB v18
            refine vOk_bind (fX8_shorten_s ha0 hI) fun m19 hm19 => ?_
            unfold fX8_findFor_101
            refine vA (by omega) fun v20 ev20 fv20 => ?_
            exact ih _ _ (by omega) hm19 (by omega)
        · have g21 := qv9.2.resolve_left (by omega)
          refine vAl (ev8) ?_
          refine vR fun v22 ev22 => ?_
          have fv22 := tiB v22
          refine vBindP (fX3_seconds_s hr7 hI) fun v23 ev23 qv23 => ?_
          try dsimp only
          have fv23 := tiB v23
          refine vOk_bind (fX8_shorten_s ha0 hI) fun m24 hm24 => ?_
          unfold fX8_findFor_67
          refine vR fun v25 ev25 => ?_
          have fv25 := tiB v25
          refine vBindP (fX8_leads_s ha0 hr7 hm24) fun v26 ev26 qv26 => ?_
          try dsimp only
          have fv26 := tiB v26
          refine vEq (fun h27 => ?_) (fun h28 => ?_)
          · unfold fX8_findFor_101
            refine vA (by omega) fun v29 ev29 fv29 => ?_
            exact ih _ _ (by omega) hm24 (by omega)
          · have g30 := qv26.2.resolve_left (by omega)
            refine vAl (ev25) ?_
            refine vR fun v31 ev31 => ?_
            have fv31 := tiB v31
            refine vBindP (fX3_seconds_s hr7 hm24) fun v32 ev32 qv32 => ?_
            try dsimp only
            have fv32 := tiB v32
            refine vOk_bind (fX8_shorten_s ha0 hm24) fun m33 hm33 => ?_
            unfold fX8_findFor_101
            refine vA (by omega) fun v34 ev34 fv34 => ?_
            exact ih _ _ (by omega) hm33 (by omega)
theorem fX8_findFor_s {R : xMem} {a0 : Nat} {a1 : Nat} {a2 : Int32} {m : xMem} (ha0 : a0 ∈ pRoutes) (ha1 : a1 ∈ pStation) (hp : (0 ≤ a2.toInt ∧ a2.toInt ≤ 1)) (hI : IC R m) : vOk (IC R) (fX8_findFor a0 a1 a2 m) := by
  have ta2 := tiB a2
  have c0 : (0 : Int32).toInt = 0 := rfl
  have c1000000 : (1000000 : Int32).toInt = 1000000 := rfl
  unfold fX8_findFor
  unfold fX8_findFor_0
  refine vOk_bind (Q := IC R) ⟨_, rfl, IC_fill hI (qRoutes_2_inArr _ ha0)⟩ fun m1 hm1 => ?_
  have cF := xFu
  exact fX8_findFor_11_s ha0 ha1 _ _ _ (by omega) hm1 (by omega)
theorem fX8_find_4_s {R : xMem} {a0 : Nat} {a1 : Nat} (ha0 : a0 ∈ pRoutes) (ha1 : a1 ∈ pStation) : ∀ (fuel : Nat), ∀ (l2 : Int32) (l3 : Int32) (m : xMem), ((0 ≤ l3.toInt ∧ l3.toInt ≤ 10)) → IC R m → 2147483648 - l3.toInt < (fuel : Int) → vOk (IC R) (fX8_find_4 a0 a1 fuel l2 l3 m) := by
  intro fuel
  induction fuel with
  | zero =>
    intro l2 l3 m hp hI hmu
    have tl2 := tiB l2
    have tl3 := tiB l3
    exfalso; omega
  | succ fuel ih =>
    intro l2 l3 m hp hI hmu
    have tl2 := tiB l2
    have tl3 := tiB l3
    have c0 : (0 : Int32).toInt = 0 := rfl
    have c1 : (1 : Int32).toInt = 1 := rfl
    have c2 : (2 : Int32).toInt = 2 := rfl
    have c10 : (10 : Int32).toInt = 10 := rfl
    rw [fX8_find_4]
    refine vR fun v1 ev1 => ?_
    have fv1 := tiB v1
    refine vLe (fun h2 => ?_) (fun h3 => ?_)
    · unfold fX8_find_56
      refine vR fun v4 ev4 => ?_
      have fv4 := tiB v4
      refine vNe (fun h5 => ?_) (fun h6 => ?_)
      · refine vR fun m7 em7 => ?_
        have hm7 : IC R m7 := by rw [em7]; exact IC_put hI (qRoutes_ok2 _ ha0)
        refine vOk_bind (fX8_findFor_s ha0 ha1 (by omega) hm7) fun m8 hm8 => ?_
        refine vOk_bind (fX8_findFor_s ha0 ha1 (by omega) hm8) fun m9 hm9 => ?_
        exact vOk_some hm9
      · exact vOk_some hI
    · refine vLe (fun h10 => ?_) (fun h11 => ?_)
      · unfold fX8_find_56
        refine vR fun v12 ev12 => ?_
        have fv12 := tiB v12
        refine vNe (fun h13 => ?_) (fun h14 => ?_)
        · refine vR fun m15 em15 => ?_
          have hm15 : IC R m15 := by rw [em15]; exact IC_put hI (qRoutes_ok2 _ ha0)
          refine vOk_bind (fX8_findFor_s ha0 ha1 (by omega) hm15) fun m16 hm16 => ?_
          refine vOk_bind (fX8_findFor_s ha0 ha1 (by omega) hm16) fun m17 hm17 => ?_
          exact vOk_some hm17
        · exact vOk_some hI
      · refine vIn (by omega) (by omega) fun n18 => ?_
        refine vR fun r19 er19 => ?_
        have hr19 : r19 ∈ pLink := by rw [er19]; exact (qStation_33_m2_10_inLink _ ha1 _ n18)
        refine vI fun v20 ev20 fv20 => ?_
        refine vBindP (fX3_takesNow_s hr19 hI) fun v21 ev21 qv21 => ?_
        try dsimp only
        have fv21 := tiB v21
        refine vEq (fun h22 => ?_) (fun h23 => ?_)
        · unfold fX8_find_48
          refine vI fun v24 ev24 fv24 => ?_
          refine vA (by omega) fun v25 ev25 fv25 => ?_
          exact ih _ _ _ (by omega) hI (by omega)
        · refine vR fun v26 ev26 => ?_
          have fv26 := tiB v26
          refine vI fun v27 ev27 fv27 => ?_
          unfold fX8_find_48
          refine vI fun v28 ev28 fv28 => ?_
          refine vA (by omega) fun v29 ev29 fv29 => ?_
          exact ih _ _ _ (by omega) hI (by omega)
theorem fX8_find_s {R : xMem} {a0 : Nat} {a1 : Nat} {m : xMem} (ha0 : a0 ∈ pRoutes) (ha1 : a1 ∈ pStation) (hI : IC R m) : vOk (IC R) (fX8_find a0 a1 m) := by
  have c0 : (0 : Int32).toInt = 0 := rfl
  unfold fX8_find
  unfold fX8_find_0
  have cF := xFu
  exact fX8_find_4_s ha0 ha1 _ _ _ _ (by omega) hI (by omega)
theorem fX2_waiting_s {R : xMem} {a0 : Nat} {a1 : Int32} {a2 : Int32} {m : xMem} (ha0 : a0 ∈ pHall) (hI : IC R m) : vOk (PP m (fun _ : Int32 => True)) (fX2_waiting a0 a1 a2 m) := by
  have ta1 := tiB a1
  have ta2 := tiB a2
  have c0 : (0 : Int32).toInt = 0 := rfl
  have c6 : (6 : Int32).toInt = 6 := rfl
  have c12 : (12 : Int32).toInt = 12 := rfl
  unfold fX2_waiting
  unfold fX2_waiting_0
  refine vI fun v1 ev1 fv1 => ?_
  refine vI fun v2 ev2 fv2 => ?_
  refine vLt (fun h3 => ?_) (fun h4 => ?_)
  · unfold fX2_waiting_29
    unfold fX2_waiting_30
    refine rP ?_
    first | exact True.intro | omega
  · refine vLe (fun h5 => ?_) (fun h6 => ?_)
    · unfold fX2_waiting_29
      unfold fX2_waiting_30
      refine rP ?_
      first | exact True.intro | omega
    · refine vIn (by omega) (by omega) fun n7 => ?_
      refine vR fun v8 ev8 => ?_
      have fv8 := tiB v8
      unfold fX2_waiting_30
      refine rP ?_
      first | exact True.intro | omega
theorem fX8_firstLink_s {R : xMem} {a0 : Nat} {a1 : Int32} {a2 : Int32} {a3 : Int32} {m : xMem} (ha0 : a0 ∈ pRoutes) (hI : IC R m) : vOk (PP m (fun _ : Int32 => True)) (fX8_firstLink a0 a1 a2 a3 m) := by
  have ta1 := tiB a1
  have ta2 := tiB a2
  have ta3 := tiB a3
  have cm1 : (-1 : Int32).toInt = -1 := rfl
  have c0 : (0 : Int32).toInt = 0 := rfl
  have c6 : (6 : Int32).toInt = 6 := rfl
  have c36 : (36 : Int32).toInt = 36 := rfl
  have c72 : (72 : Int32).toInt = 72 := rfl
  unfold fX8_firstLink
  unfold fX8_firstLink_0
  refine vI fun v1 ev1 fv1 => ?_
  refine vI fun v2 ev2 fv2 => ?_
  refine vI fun v3 ev3 fv3 => ?_
  refine vI fun v4 ev4 fv4 => ?_
  refine vLt (fun h5 => ?_) (fun h6 => ?_)
  · unfold fX8_firstLink_38
    unfold fX8_firstLink_39
    refine rP ?_
    first | exact True.intro | omega
  · refine vLe (fun h7 => ?_) (fun h8 => ?_)
    · unfold fX8_firstLink_38
      unfold fX8_firstLink_39
      refine rP ?_
      first | exact True.intro | omega
    · refine vIn (by omega) (by omega) fun n9 => ?_
      refine vR fun v10 ev10 => ?_
      have fv10 := tiB v10
      unfold fX8_firstLink_39
      refine rP ?_
      first | exact True.intro | omega
theorem fX6_goalOfMost_31_s {R : xMem} {a0 : Nat} {a1 : Nat} {a2 : Int32} {a3 : Int32} {a4 : Int32} {m : xMem} (ha0 : a0 ∈ pMover) (ha1 : a1 ∈ pStation) (hI : IC R m) : ∀ (fuel : Nat), ∀ (l5 : Int32) (l6 : Int32) (l7 : Int32), ((0 ≤ a3.toInt ∧ a3.toInt ≤ 5) ∧ (-1 ≤ l5.toInt ∧ l5.toInt ≤ 5) ∧ (0 ≤ l6.toInt ∧ l6.toInt ≤ 2147483647) ∧ (0 ≤ l7.toInt ∧ l7.toInt ≤ 6)) → 2147483648 - l7.toInt < (fuel : Int) → vOk (PP m (fun x : Int32 => (-1 ≤ x.toInt ∧ x.toInt ≤ 5) ∧ (x.toInt = -1 ∨ ((0 ≤ a3.toInt ∧ a3.toInt ≤ 5))))) (fX6_goalOfMost_31 a0 a1 a2 a3 a4 fuel l5 l6 l7 m) := by
  intro fuel
  induction fuel with
  | zero =>
    intro l5 l6 l7 hp hmu
    have ta2 := tiB a2
    have ta3 := tiB a3
    have ta4 := tiB a4
    have tl5 := tiB l5
    have tl6 := tiB l6
    have tl7 := tiB l7
    exfalso; omega
  | succ fuel ih =>
    intro l5 l6 l7 hp hmu
    have ta2 := tiB a2
    have ta3 := tiB a3
    have ta4 := tiB a4
    have tl5 := tiB l5
    have tl6 := tiB l6
    have tl7 := tiB l7
    have c1 : (1 : Int32).toInt = 1 := rfl
    have c6 : (6 : Int32).toInt = 6 := rfl
    rw [fX6_goalOfMost_31]
    refine vLe (fun h1 => ?_) (fun h2 => ?_)
    · refine rP ?_
      first | exact True.intro | omega
    · refine vIn (by omega) (by omega) fun n3 => ?_
      refine vR fun r4 er4 => ?_
      have hr4 : r4 ∈ pHall := by rw [er4]; exact (qStation_15_m3_6_inHall _ ha1 _ n3)
      refine vBindP (fX2_waiting_s hr4 hI) fun v5 ev5 qv5 => ?_
      try dsimp only
      have fv5 := tiB v5
      refine vLe (fun h6 => ?_) (fun h7 => ?_)
      · unfold fX6_goalOfMost_84
        refine vA (by omega) fun v8 ev8 fv8 => ?_
        exact ih _ _ _ (by omega) (by omega)
      · refine vBindP (fX8_firstLink_s (qMover_1_inRoutes _ ha0) hI) fun v9 ev9 qv9 => ?_
        try dsimp only
        have fv9 := tiB v9
        refine vNe (fun h10 => ?_) (fun h11 => ?_)
        · unfold fX6_goalOfMost_84
          refine vA (by omega) fun v12 ev12 fv12 => ?_
          exact ih _ _ _ (by omega) (by omega)
        · unfold fX6_goalOfMost_84
          refine vA (by omega) fun v13 ev13 fv13 => ?_
          exact ih _ _ _ (by omega) (by omega)
theorem fX6_goalOfMost_s {R : xMem} {a0 : Nat} {a1 : Nat} {a2 : Int32} {a3 : Int32} {a4 : Int32} {m : xMem} (ha0 : a0 ∈ pMover) (ha1 : a1 ∈ pStation) (hI : IC R m) : vOk (PP m (fun x : Int32 => (-1 ≤ x.toInt ∧ x.toInt ≤ 5) ∧ (x.toInt = -1 ∨ ((0 ≤ a3.toInt ∧ a3.toInt ≤ 5))))) (fX6_goalOfMost a0 a1 a2 a3 a4 m) := by
  have ta2 := tiB a2
  have ta3 := tiB a3
  have ta4 := tiB a4
  have cm1 : (-1 : Int32).toInt = -1 := rfl
  have c0 : (0 : Int32).toInt = 0 := rfl
  unfold fX6_goalOfMost
  unfold fX6_goalOfMost_0
  refine vBindP (fX9_hasHall_s ha1 hI) fun v1 ev1 qv1 => ?_
  try dsimp only
  have fv1 := tiB v1
  refine vEq (fun h2 => ?_) (fun h3 => ?_)
  · unfold fX6_goalOfMost_20
    refine rP ?_
    first | exact True.intro | omega
  · have g4 := qv1.2.resolve_left (by omega)
    refine vIn (by omega) (by omega) fun n5 => ?_
    refine vR fun r6 er6 => ?_
    have hr6 : r6 ∈ pHall := by rw [er6]; exact (qStation_15_m3_6_inHall _ ha1 _ n5)
    refine vR fun v7 ev7 => ?_
    have fv7 := tiB v7
    refine vNe (fun h8 => ?_) (fun h9 => ?_)
    · have cF := xFu
      exact fX6_goalOfMost_31_s ha0 ha1 hI _ _ _ _ (by omega) (by omega)
    · unfold fX6_goalOfMost_20
      refine rP ?_
      first | exact True.intro | omega
theorem fX9_admits_s {R : xMem} {a0 : Nat} {a1 : Int32} {a2 : Int32} {m : xMem} (ha0 : a0 ∈ pStation) (hI : IC R m) : vOk (PP m (fun x : Int32 => (0 ≤ x.toInt ∧ x.toInt ≤ 1))) (fX9_admits a0 a1 a2 m) := by
  have ta1 := tiB a1
  have ta2 := tiB a2
  have c0 : (0 : Int32).toInt = 0 := rfl
  have c1 : (1 : Int32).toInt = 1 := rfl
  unfold fX9_admits
  unfold fX9_admits_0
  refine vEq (fun h1 => ?_) (fun h2 => ?_)
  · unfold fX9_admits_34
    unfold fX9_admits_39
    refine vB (by omega) ?_
    refine rP ?_
    first | exact True.intro | omega
  · refine vBindP (fX9_hasHall_s ha0 hI) fun v3 ev3 qv3 => ?_
    try dsimp only
    have fv3 := tiB v3
    refine vEq (fun h4 => ?_) (fun h5 => ?_)
    · unfold fX9_admits_38
      unfold fX9_admits_39
      refine vB (by omega) ?_
      refine rP ?_
      first | exact True.intro | omega
    · have g6 := qv3.2.resolve_left (by omega)
      refine vIn (by omega) (by omega) fun n7 => ?_
      refine vR fun r8 er8 => ?_
      have hr8 : r8 ∈ pHall := by rw [er8]; exact (qStation_15_m3_6_inHall _ ha0 _ n7)
      refine vR fun v9 ev9 => ?_
      have fv9 := tiB v9
      refine vIn (by omega) (by omega) fun n10 => ?_
      refine vR fun r11 er11 => ?_
      have hr11 : r11 ∈ pHall := by rw [er11]; exact (qStation_15_m3_6_inHall _ ha0 _ n10)
      refine vR fun v12 ev12 => ?_
      have fv12 := tiB v12
      refine vLe (fun h13 => ?_) (fun h14 => ?_)
      · unfold fX9_admits_38
        unfold fX9_admits_39
        refine vB (by omega) ?_
        refine rP ?_
        first | exact True.intro | omega
      · unfold fX9_admits_34
        unfold fX9_admits_39
        refine vB (by omega) ?_
        refine rP ?_
        first | exact True.intro | omega
theorem fX6_lift_28_s {R : xMem} {a0 : Nat} {a1 : Nat} {a2 : Int32} {a3 : Int32} {a4 : Int32} (ha0 : a0 ∈ pMover) (ha1 : a1 ∈ pStation) : ∀ (fuel : Nat), ∀ (l5 : Nat) (l6 : Int32) (m : xMem), l5 ∈ pLink → ((0 ≤ a2.toInt ∧ a2.toInt ≤ 9) ∧ (0 ≤ a3.toInt ∧ a3.toInt ≤ 5) ∧ (0 ≤ l6.toInt ∧ l6.toInt ≤ 2147483647)) → IC R m → 2147483648 - l6.toInt < (fuel : Int) → vOk (IC R) (fX6_lift_28 a0 a1 a2 a3 a4 fuel l5 l6 m) := by
  intro fuel
  induction fuel with
  | zero =>
    intro l5 l6 m hl5 hp hI hmu
    have ta2 := tiB a2
    have ta3 := tiB a3
    have ta4 := tiB a4
    have tl6 := tiB l6
    exfalso; omega
  | succ fuel ih =>
    intro l5 l6 m hl5 hp hI hmu
    have ta2 := tiB a2
    have ta3 := tiB a3
    have ta4 := tiB a4
    have tl6 := tiB l6
    have cm1 : (-1 : Int32).toInt = -1 := rfl
    have c0 : (0 : Int32).toInt = 0 := rfl
    have c1 : (1 : Int32).toInt = 1 := rfl
    rw [fX6_lift_28]
    refine vR fun v1 ev1 => ?_
    have fv1 := tiB v1
    refine vLe (fun h2 => ?_) (fun h3 => ?_)
    · exact vOk_some hI
    · refine vBindP (fX6_goalOfMost_s ha0 ha1 hI) fun v4 ev4 qv4 => ?_
      try dsimp only
      have fv4 := tiB v4
      refine vEq (fun h5 => ?_) (fun h6 => ?_)
      · unfold fX6_lift_65
        exact vOk_some hI
      · have g7 := qv4.2.resolve_left (by omega)
        refine vBindP (fX9_admits_s ha1 hI) fun v8 ev8 qv8 => ?_
        try dsimp only
        have fv8 := tiB v8
        refine vNe (fun h9 => ?_) (fun h10 => ?_)
        · refine vIn (by omega) (by omega) fun n11 => ?_
          refine vR fun r12 er12 => ?_
          have hr12 : r12 ∈ pHall := by rw [er12]; exact (qStation_15_m3_6_inHall _ ha1 _ n11)
          refine vOk_bind (fX2_change_s hr12 hI) fun m13 hm13 => ?_
          refine vOk_bind (fX9_comeTo_s ha1 hm13) fun m14 hm14 => ?_
          refine vR fun v15 ev15 => ?_
          have fv15 := tiB v15
          refine vI fun v16 ev16 fv16 => ?_
          refine vR fun m17 em17 => ?_
          have hm17 : IC R m17 := by rw [em17]; exact IC_put hm14 (qLink_ok10 _ hl5)
          refine vR fun v18 ev18 => ?_
          have fv18 := tiB v18
          refine vI fun v19 ev19 fv19 => ?_
          refine vR fun m20 em20 => ?_
          have hm20 : IC R m20 := by rw [em20]; exact IC_put hm17 (qLink_ok11 _ hl5)
          refine vA (by omega) fun v21 ev21 fv21 => ?_
          exact ih _ _ _ hl5 (by omega) hm20 (by omega)
        · unfold fX6_lift_65
          exact vOk_some hI
theorem fX6_lift_s {R : xMem} {a0 : Nat} {a1 : Nat} {a2 : Int32} {a3 : Int32} {a4 : Int32} {m : xMem} (ha0 : a0 ∈ pMover) (ha1 : a1 ∈ pStation) (hI : IC R m) : vOk (IC R) (fX6_lift a0 a1 a2 a3 a4 m) := by
  have ta2 := tiB a2
  have ta3 := tiB a3
  have ta4 := tiB a4
  have c0 : (0 : Int32).toInt = 0 := rfl
  unfold fX6_lift
  unfold fX6_lift_0
  refine vBindP (fX9_hasLink_s ha1 hI) fun v1 ev1 qv1 => ?_
  try dsimp only
  have fv1 := tiB v1
  refine vEq (fun h2 => ?_) (fun h3 => ?_)
  · unfold fX6_lift_16
    exact vOk_some hI
  · have g4 := qv1.2.resolve_left (by omega)
    refine vBindP (fX9_hasHall_s ha1 hI) fun v5 ev5 qv5 => ?_
    try dsimp only
    have fv5 := tiB v5
    refine vNe (fun h6 => ?_) (fun h7 => ?_)
    · have g8 := qv5.2.resolve_left (by omega)
      refine vIn (by omega) (by omega) fun n9 => ?_
      refine vR fun r10 er10 => ?_
      have hr10 : r10 ∈ pLink := by rw [er10]; exact (qStation_33_m2_10_inLink _ ha1 _ n9)
      have cF := xFu
      exact fX6_lift_28_s ha0 ha1 _ _ _ _ hr10 (by omega) hI (by omega)
    · unfold fX6_lift_16
      exact vOk_some hI
theorem fX10_walk_4_s {R : xMem} {a0 : Nat} {a1 : Nat} (ha0 : a0 ∈ pText) (ha1 : a1 ∈ pNames) : ∀ (fuel : Nat), ∀ (l2 : Int32) (l3 : Int32) (m : xMem), ((0 ≤ l3.toInt ∧ l3.toInt ≤ 10)) → IC R m → 2147483648 - l3.toInt < (fuel : Int) → vOk (PM (IC R) (fun x : Int32 => (0 ≤ x.toInt ∧ x.toInt ≤ 10))) (fX10_walk_4 a0 a1 fuel l2 l3 m) := by
  intro fuel
  induction fuel with
  | zero =>
    intro l2 l3 m hp hI hmu
    have tl2 := tiB l2
    have tl3 := tiB l3
    exfalso; omega
  | succ fuel ih =>
    intro l2 l3 m hp hI hmu
    have tl2 := tiB l2
    have tl3 := tiB l3
    have c0 : (0 : Int32).toInt = 0 := rfl
    have c1 : (1 : Int32).toInt = 1 := rfl
    have c4 : (4 : Int32).toInt = 4 := rfl
    have c10 : (10 : Int32).toInt = 10 := rfl
    rw [fX10_walk_4]
    refine vR fun v1 ev1 => ?_
    have fv1 := tiB v1
    refine vLe (fun h2 => ?_) (fun h3 => ?_)
    · unfold fX10_walk_65
      refine rM hI ?_
      first | exact True.intro | omega
    · refine vLe (fun h4 => ?_) (fun h5 => ?_)
      · unfold fX10_walk_65
        refine rM hI ?_
        first | exact True.intro | omega
      · refine vIn (by omega) (by omega) fun n6 => ?_
        refine vR fun v7 ev7 => ?_
        have fv7 := tiB v7
        refine vNe (fun h8 => ?_) (fun h9 => ?_)
        · refine vIn (by omega) (by omega) fun n10 => ?_
          refine vR fun v11 ev11 => ?_
          have fv11 := tiB v11
          refine vA (by omega) fun v12 ev12 fv12 => ?_
          exact ih _ _ _ (by omega) hI (by omega)
        · refine vIn (by omega) (by omega) fun n13 => ?_
          refine vR fun v14 ev14 => ?_
          have fv14 := tiB v14
          refine vBindM (fX10_worth_s ha0 ha1 hI) fun v15 m16 hm16 qv15 => ?_
          try dsimp only
          have fv15 := tiB v15
          refine vMin fun v17 ev17 fv17 => ?_
          refine vMax fun v18 ev18 fv18 => ?_
          refine rM hm16.1 ?_
          first | exact True.intro | omega
theorem fX10_walk_s {R : xMem} {a0 : Nat} {a1 : Nat} {m : xMem} (ha0 : a0 ∈ pText) (ha1 : a1 ∈ pNames) (hI : IC R m) : vOk (PM (IC R) (fun x : Int32 => (0 ≤ x.toInt ∧ x.toInt ≤ 10))) (fX10_walk a0 a1 m) := by
  have c0 : (0 : Int32).toInt = 0 := rfl
  unfold fX10_walk
  unfold fX10_walk_0
  have cF := xFu
  exact fX10_walk_4_s ha0 ha1 _ _ _ _ (by omega) hI (by omega)
theorem fX6_walkOf_s {R : xMem} {a0 : Nat} {a1 : Nat} {a2 : Nat} {a3 : Nat} {m : xMem} (ha0 : a0 ∈ pMover) (ha1 : a1 ∈ pStation) (ha2 : a2 ∈ pText) (ha3 : a3 ∈ pLink) (hI : IC R m) : vOk (PM (IC R) (fun x : Int32 => (0 ≤ x.toInt ∧ x.toInt ≤ 10))) (fX6_walkOf a0 a1 a2 a3 m) := by
  have c0 : (0 : Int32).toInt = 0 := rfl
  have c5 : (5 : Int32).toInt = 5 := rfl
  have c6 : (6 : Int32).toInt = 6 := rfl
  have c7 : (7 : Int32).toInt = 7 := rfl
  unfold fX6_walkOf
  unfold fX6_walkOf_0
  refine vR fun v1 ev1 => ?_
  have fv1 := tiB v1
  refine vNe (fun h2 => ?_) (fun h3 => ?_)
  · unfold fX6_walkOf_25
    refine rM hI ?_
    first | exact True.intro | omega
  · refine vR fun v4 ev4 => ?_
    have fv4 := tiB v4
    refine vNe (fun h5 => ?_) (fun h6 => ?_)
    · unfold fX6_walkOf_25
      refine rM hI ?_
      first | exact True.intro | omega
    · refine vFoot fun v7 ev7 fv7 => ?_
      try dsimp only
      refine vBindP (fX9_hasHall_s ha1 hI) fun v8 ev8 qv8 => ?_
      try dsimp only
      have fv8 := tiB v8
      refine vNe (fun h9 => ?_) (fun h10 => ?_)
      · have g11 := qv8.2.resolve_left (by omega)
        refine vR fun v12 ev12 => ?_
        have fv12 := tiB v12
        refine vIn (by omega) (by omega) fun n13 => ?_
        refine vR fun m14 em14 => ?_
        have hm14 : IC R m14 := by rw [em14]; exact IC_arr hI (qMover_4_inArr _ ha0)
        refine vR fun v15 ev15 => ?_
        have fv15 := tiB v15
        refine vIn (by omega) (by omega) fun n16 => ?_
        refine vR fun m17 em17 => ?_
        have hm17 : IC R m17 := by rw [em17]; exact IC_arr hm14 (qMover_4_inArr _ ha0)
        refine vR fun v18 ev18 => ?_
        have fv18 := tiB v18
        refine vIn (by omega) (by omega) fun n19 => ?_
        refine vR fun m20 em20 => ?_
        have hm20 : IC R m20 := by rw [em20]; exact IC_arr hm17 (qMover_4_inArr _ ha0)
        refine vFootA ((((ev7).trans (foot_plE em14 (dLink_Mover_4 _ ha3 _ ha0))).trans (foot_plE em17 (dLink_Mover_4 _ ha3 _ ha0))).trans (foot_plE em20 (dLink_Mover_4 _ ha3 _ ha0))) ?_
        try dsimp only
        refine vIn (by omega) (by omega) fun n21 => ?_
        refine vR fun r22 er22 => ?_
        have hr22 : r22 ∈ pHall := by rw [er22]; exact (qStation_15_m3_6_inHall _ ha1 _ n21)
        refine vR fun v23 ev23 => ?_
        have fv23 := tiB v23
        refine vIn (by omega) (by omega) fun n24 => ?_
        refine vR fun m25 em25 => ?_
        have hm25 : IC R m25 := by rw [em25]; exact IC_arr hm20 (qMover_4_inArr _ ha0)
        refine vBindM (fX10_walk_s ha2 (qMover_4_inNames _ ha0) hm25) fun v26 m27 hm27 qv26 => ?_
        try dsimp only
        have fv26 := tiB v26
        refine rM hm27 ?_
        first | exact True.intro | omega
      · unfold fX6_walkOf_25
        refine rM hI ?_
        first | exact True.intro | omega
theorem fX3_who_s {R : xMem} {a0 : Nat} {a1 : Int32} {a2 : Int32} {m : xMem} (ha0 : a0 ∈ pLink) (hI : IC R m) : vOk (PP m (fun _ : Int32 => True)) (fX3_who a0 a1 a2 m) := by
  have ta1 := tiB a1
  have ta2 := tiB a2
  have cm1 : (-1 : Int32).toInt = -1 := rfl
  have c0 : (0 : Int32).toInt = 0 := rfl
  have c40 : (40 : Int32).toInt = 40 := rfl
  have c80 : (80 : Int32).toInt = 80 := rfl
  unfold fX3_who
  unfold fX3_who_0
  refine vI fun v1 ev1 fv1 => ?_
  refine vI fun v2 ev2 fv2 => ?_
  refine vLt (fun h3 => ?_) (fun h4 => ?_)
  · unfold fX3_who_29
    unfold fX3_who_30
    refine rP ?_
    first | exact True.intro | omega
  · refine vLe (fun h5 => ?_) (fun h6 => ?_)
    · unfold fX3_who_29
      unfold fX3_who_30
      refine rP ?_
      first | exact True.intro | omega
    · refine vIn (by omega) (by omega) fun n7 => ?_
      refine vR fun v8 ev8 => ?_
      have fv8 := tiB v8
      unfold fX3_who_30
      refine rP ?_
      first | exact True.intro | omega
theorem fX3_put_s {R : xMem} {a0 : Nat} {a1 : Int32} {a2 : Int32} {a3 : Int32} {m : xMem} (ha0 : a0 ∈ pLink) (hI : IC R m) : vOk (IC R) (fX3_put a0 a1 a2 a3 m) := by
  have ta1 := tiB a1
  have ta2 := tiB a2
  have ta3 := tiB a3
  have c0 : (0 : Int32).toInt = 0 := rfl
  have c40 : (40 : Int32).toInt = 40 := rfl
  have c80 : (80 : Int32).toInt = 80 := rfl
  unfold fX3_put
  unfold fX3_put_0
  refine vI fun v1 ev1 fv1 => ?_
  refine vI fun v2 ev2 fv2 => ?_
  refine vLt (fun h3 => ?_) (fun h4 => ?_)
  · unfold fX3_put_31
    exact vOk_some hI
  · refine vLe (fun h5 => ?_) (fun h6 => ?_)
    · unfold fX3_put_31
      exact vOk_some hI
    · refine vIn (by omega) (by omega) fun n7 => ?_
      refine vR fun m8 em8 => ?_
      have hm8 : IC R m8 := by rw [em8]; exact IC_arr hI (qLink_1_inArr _ ha0)
      unfold fX3_put_31
      exact vOk_some hm8
theorem fX3_head_s {R : xMem} {a0 : Nat} {m : xMem} (ha0 : a0 ∈ pLink) (hI : IC R m) : vOk (PP m (fun _ : Int32 => True)) (fX3_head a0 m) := by
  have c2 : (2 : Int32).toInt = 2 := rfl
  unfold fX3_head
  unfold fX3_head_0
  refine vR fun v1 ev1 => ?_
  have fv1 := tiB v1
  refine vNe (fun h2 => ?_) (fun h3 => ?_)
  · refine vR fun v4 ev4 => ?_
    have fv4 := tiB v4
    unfold fX3_head_19
    refine rP ?_
    first | exact True.intro | omega
  · refine vR fun v5 ev5 => ?_
    have fv5 := tiB v5
    unfold fX3_head_19
    refine rP ?_
    first | exact True.intro | omega
theorem fX6_stepOff_s {R : xMem} {a0 : Nat} {a1 : Nat} {a2 : Nat} {a3 : Int32} {m : xMem} (ha0 : a0 ∈ pMover) (ha1 : a1 ∈ pStation) (ha2 : a2 ∈ pLink) (hI : IC R m) : vOk (PM (IC R) (fun x : Int32 => (0 ≤ x.toInt ∧ x.toInt ≤ 1))) (fX6_stepOff a0 a1 a2 a3 m) := by
  have ta3 := tiB a3
  have cm1 : (-1 : Int32).toInt = -1 := rfl
  have c0 : (0 : Int32).toInt = 0 := rfl
  have c1 : (1 : Int32).toInt = 1 := rfl
  have c10 : (10 : Int32).toInt = 10 := rfl
  unfold fX6_stepOff
  unfold fX6_stepOff_0
  refine vR fun v1 ev1 => ?_
  have fv1 := tiB v1
  refine vI fun v2 ev2 fv2 => ?_
  refine vBindP (fX3_who_s ha2 hI) fun v3 ev3 qv3 => ?_
  try dsimp only
  have fv3 := tiB v3
  refine vNe (fun h4 => ?_) (fun h5 => ?_)
  · refine vI fun v6 ev6 fv6 => ?_
    refine vBindP (fX3_head_s ha2 hI) fun v7 ev7 qv7 => ?_
    try dsimp only
    have fv7 := tiB v7
    refine vBindP (fX9_admits_s ha1 hI) fun v8 ev8 qv8 => ?_
    try dsimp only
    have fv8 := tiB v8
    refine vNe (fun h9 => ?_) (fun h10 => ?_)
    · refine vOk_bind (fX3_put_s ha2 hI) fun m11 hm11 => ?_
      refine vR fun v12 ev12 => ?_
      have fv12 := tiB v12
      refine vI fun v13 ev13 fv13 => ?_
      refine vR fun m14 em14 => ?_
      have hm14 : IC R m14 := by rw [em14]; exact IC_put hm11 (qLink_ok9 _ ha2)
      refine vR fun v15 ev15 => ?_
      have fv15 := tiB v15
      refine vI fun v16 ev16 fv16 => ?_
      refine vR fun m17 em17 => ?_
      have hm17 : IC R m17 := by rw [em17]; exact IC_put hm14 (qLink_ok11 _ ha2)
      refine vBindP (fX3_head_s ha2 hm17) fun v18 ev18 qv18 => ?_
      try dsimp only
      have fv18 := tiB v18
      refine vOk_bind (fX9_comeTo_s ha1 hm17) fun m19 hm19 => ?_
      refine rM hm19 ?_
      first | exact True.intro | omega
    · refine rM hI ?_
      first | exact True.intro | omega
  · refine rM hI ?_
    first | exact True.intro | omega
theorem fX3_move_s {R : xMem} {a0 : Nat} {a1 : Int32} {a2 : Int32} {m : xMem} (ha0 : a0 ∈ pLink) (hI : IC R m) : vOk (IC R) (fX3_move a0 a1 a2 m) := by
  have ta1 := tiB a1
  have ta2 := tiB a2
  have cm1 : (-1 : Int32).toInt = -1 := rfl
  have c1 : (1 : Int32).toInt = 1 := rfl
  unfold fX3_move
  unfold fX3_move_0
  refine vI fun v1 ev1 fv1 => ?_
  refine vBindP (fX3_who_s ha0 hI) fun v2 ev2 qv2 => ?_
  try dsimp only
  have fv2 := tiB v2
  refine vOk_bind (fX3_put_s ha0 hI) fun m3 hm3 => ?_
  refine vOk_bind (fX3_put_s ha0 hm3) fun m4 hm4 => ?_
  exact vOk_some hm4
theorem fX3_goesOn_s {R : xMem} {a0 : Nat} {a1 : Int32} {a2 : Int32} {m : xMem} (ha0 : a0 ∈ pLink) (hI : IC R m) : vOk (PM (IC R) (fun x : Int32 => (0 ≤ x.toInt ∧ x.toInt ≤ 1))) (fX3_goesOn a0 a1 a2 m) := by
  have ta1 := tiB a1
  have ta2 := tiB a2
  have cm1 : (-1 : Int32).toInt = -1 := rfl
  have c0 : (0 : Int32).toInt = 0 := rfl
  have c1 : (1 : Int32).toInt = 1 := rfl
  have c2 : (2 : Int32).toInt = 2 := rfl
  have c10 : (10 : Int32).toInt = 10 := rfl
  unfold fX3_goesOn
  unfold fX3_goesOn_0
  refine vBindP (fX3_who_s ha0 hI) fun v1 ev1 qv1 => ?_
  try dsimp only
  have fv1 := tiB v1
  refine vEq (fun h2 => ?_) (fun h3 => ?_)
  · unfold fX3_goesOn_22
    refine vEq (fun h4 => ?_) (fun h5 => ?_)
    · unfold fX3_goesOn_32
      refine vB (by omega) ?_
      refine rM hI ?_
      first | exact True.intro | omega
    · exfalso; omega
  · refine vR fun v6 ev6 => ?_
    have fv6 := tiB v6
    refine vI fun v7 ev7 fv7 => ?_
    refine vLt (fun h8 => ?_) (fun h9 => ?_)
    · refine vOk_bind (fX3_move_s ha0 hI) fun m10 hm10 => ?_
      refine vLe (fun h11 => ?_) (fun h12 => ?_)
      · refine vI fun v13 ev13 fv13 => ?_
        refine vR fun v14 ev14 => ?_
        have fv14 := tiB v14
        refine vLe (fun h15 => ?_) (fun h16 => ?_)
        · unfold fX3_goesOn_77
          refine vAl ev13 ?_
          refine vAl (ev14) ?_
          refine vLt (fun h17 => ?_) (fun h18 => ?_)
          · unfold fX3_goesOn_92
            refine vB (by omega) ?_
            refine rM hm10 ?_
            first | exact True.intro | omega
          · unfold fX3_goesOn_92
            refine vB (by omega) ?_
            refine rM hm10 ?_
            first | exact True.intro | omega
        · refine vAl ev13 ?_
          refine vBindP (fX3_who_s ha0 hm10) fun v19 ev19 qv19 => ?_
          try dsimp only
          have fv19 := tiB v19
          refine vNe (fun h20 => ?_) (fun h21 => ?_)
          · unfold fX3_goesOn_77
            refine vAl ev13 ?_
            refine vAl (ev14) ?_
            refine vLt (fun h22 => ?_) (fun h23 => ?_)
            · unfold fX3_goesOn_92
              refine vB (by omega) ?_
              refine rM hm10 ?_
              first | exact True.intro | omega
            · unfold fX3_goesOn_92
              refine vB (by omega) ?_
              refine rM hm10 ?_
              first | exact True.intro | omega
          · refine vA (by omega) fun v24 ev24 fv24 => ?_
            refine vOk_bind (fX3_move_s ha0 hm10) fun m25 hm25 => ?_
            unfold fX3_goesOn_77
            refine vAl ev13 ?_
            refine vR fun v26 ev26 => ?_
            have fv26 := tiB v26
            refine vLt (fun h27 => ?_) (fun h28 => ?_)
            · unfold fX3_goesOn_92
              refine vB (by omega) ?_
              refine rM hm25 ?_
              first | exact True.intro | omega
            · unfold fX3_goesOn_92
              refine vB (by omega) ?_
              refine rM hm25 ?_
              first | exact True.intro | omega
      · refine rM hm10 ?_
        first | exact True.intro | omega
    · unfold fX3_goesOn_22
      refine vEq (fun h29 => ?_) (fun h30 => ?_)
      · unfold fX3_goesOn_32
        refine vB (by omega) ?_
        refine rM hI ?_
        first | exact True.intro | omega
      · unfold fX3_goesOn_32
        refine vB (by omega) ?_
        refine rM hI ?_
        first | exact True.intro | omega
theorem fX6_moveStair_37_s {R : xMem} {a0 : Nat} {a1 : Nat} {a2 : Nat} {rec24 : Int32 → xMem → Option xMem} {M24 : Int} (ha0 : a0 ∈ pMover) (ha1 : a1 ∈ pStation) (ha2 : a2 ∈ pLink) (hrec24 : ∀ (l3 : Int32) (m : xMem), ((0 ≤ l3.toInt ∧ l3.toInt ≤ 2)) → IC R m → 2147483648 - l3.toInt < M24 → vOk (IC R) (rec24 l3 m)) : ∀ (fuel : Nat), ∀ (l3 : Int32) (l4 : Int32) (m : xMem), ((0 ≤ l3.toInt ∧ l3.toInt ≤ 1)) → IC R m → 2147483648 - l3.toInt ≤ M24 → l4.toInt + 2147483649 < (fuel : Int) → vOk (IC R) (fX6_moveStair_37 a0 a1 a2 rec24 fuel l3 l4 m) := by
  intro fuel
  induction fuel with
  | zero =>
    intro l3 l4 m hp hI hM24 hmu
    have tl3 := tiB l3
    have tl4 := tiB l4
    exfalso; omega
  | succ fuel ih =>
    intro l3 l4 m hp hI hM24 hmu
    have tl3 := tiB l3
    have tl4 := tiB l4
    have cm1 : (-1 : Int32).toInt = -1 := rfl
    have c0 : (0 : Int32).toInt = 0 := rfl
    have c1 : (1 : Int32).toInt = 1 := rfl
    rw [fX6_moveStair_37]
    refine vLt (fun h1 => ?_) (fun h2 => ?_)
    · refine vA (by omega) fun v3 ev3 fv3 => ?_
      exact hrec24 _ _ (by omega) hI (by omega)
    · refine vBindM (fX3_goesOn_s ha2 hI) fun v4 m5 hm5 qv4 => ?_
      try dsimp only
      have fv4 := tiB v4
      refine vEq (fun h6 => ?_) (fun h7 => ?_)
      · unfold fX6_moveStair_78
        refine vA (by omega) fun v8 ev8 fv8 => ?_
        exact ih _ _ _ (by omega) hm5 (by omega) (by omega)
      · refine vBindM (fX6_stepOff_s ha0 ha1 ha2 hm5) fun v9 m10 hm10 qv9 => ?_
        try dsimp only
        have fv9 := tiB v9
        refine vNe (fun h11 => ?_) (fun h12 => ?_)
        · unfold fX6_moveStair_78
          refine vA (by omega) fun v13 ev13 fv13 => ?_
          exact ih _ _ _ (by omega) hm10 (by omega) (by omega)
        · refine vR fun m14 em14 => ?_
          have hm14 : IC R m14 := by rw [em14]; exact IC_putB hm10 (qLink_kc13 _ ha2) (by omega)
          refine vR fun v15 ev15 => ?_
          have fv15 := tiB v15
          refine vI fun v16 ev16 fv16 => ?_
          refine vR fun m17 em17 => ?_
          have hm17 : IC R m17 := by rw [em17]; exact IC_put hm14 (qStation_ok15 _ ha1)
          exact vOk_some hm17
theorem fX6_moveStair_24_s {R : xMem} {a0 : Nat} {a1 : Nat} {a2 : Nat} (ha0 : a0 ∈ pMover) (ha1 : a1 ∈ pStation) (ha2 : a2 ∈ pLink) : ∀ (fuel : Nat), ∀ (l3 : Int32) (m : xMem), ((0 ≤ l3.toInt ∧ l3.toInt ≤ 2)) → IC R m → 2147483648 - l3.toInt < (fuel : Int) → vOk (IC R) (fX6_moveStair_24 a0 a1 a2 fuel l3 m) := by
  intro fuel
  induction fuel with
  | zero =>
    intro l3 m hp hI hmu
    have tl3 := tiB l3
    exfalso; omega
  | succ fuel ih =>
    intro l3 m hp hI hmu
    have tl3 := tiB l3
    have c1 : (1 : Int32).toInt = 1 := rfl
    have c2 : (2 : Int32).toInt = 2 := rfl
    rw [fX6_moveStair_24]
    refine vLe (fun h1 => ?_) (fun h2 => ?_)
    · exact vOk_some hI
    · refine vR fun v3 ev3 => ?_
      have fv3 := tiB v3
      refine vI fun v4 ev4 fv4 => ?_
      have cF := xFu
      exact fX6_moveStair_37_s ha0 ha1 ha2 ih _ _ _ _ (by omega) hI (by omega) (by omega)
theorem fX6_moveStair_s {R : xMem} {a0 : Nat} {a1 : Nat} {a2 : Nat} {m : xMem} (ha0 : a0 ∈ pMover) (ha1 : a1 ∈ pStation) (ha2 : a2 ∈ pLink) (hI : IC R m) : vOk (IC R) (fX6_moveStair a0 a1 a2 m) := by
  have c0 : (0 : Int32).toInt = 0 := rfl
  unfold fX6_moveStair
  unfold fX6_moveStair_0
  refine vR fun v1 ev1 => ?_
  have fv1 : 0 ≤ v1.toInt ∧ v1.toInt ≤ 1 := by rw [ev1]; exact IC.bc hI _ _ (qLink_bc12 _ ha2)
  refine vEq (fun h2 => ?_) (fun h3 => ?_)
  · unfold fX6_moveStair_21
    exact vOk_some hI
  · refine vR fun v4 ev4 => ?_
    have fv4 : 0 ≤ v4.toInt ∧ v4.toInt ≤ 1 := by rw [ev4]; exact IC.bc hI _ _ (qLink_bc13 _ ha2)
    refine vNe (fun h5 => ?_) (fun h6 => ?_)
    · unfold fX6_moveStair_21
      exact vOk_some hI
    · refine vR fun v7 ev7 => ?_
      have fv7 := tiB v7
      refine vNe (fun h8 => ?_) (fun h9 => ?_)
      · have cF := xFu
        exact fX6_moveStair_24_s ha0 ha1 ha2 _ _ _ (by omega) hI (by omega)
      · unfold fX6_moveStair_21
        exact vOk_some hI
theorem fX6_moveFixed_38_s {R : xMem} {a0 : Nat} {a1 : Nat} {a2 : Nat} {rec17 : Int32 → xMem → Option xMem} {M17 : Int} (ha0 : a0 ∈ pMover) (ha1 : a1 ∈ pStation) (ha2 : a2 ∈ pLink) (hrec17 : ∀ (l3 : Int32) (m : xMem), ((0 ≤ l3.toInt ∧ l3.toInt ≤ 2)) → IC R m → 2147483648 - l3.toInt < M17 → vOk (IC R) (rec17 l3 m)) : ∀ (fuel : Nat), ∀ (l3 : Int32) (l4 : Int32) (m : xMem), ((0 ≤ l3.toInt ∧ l3.toInt ≤ 1)) → IC R m → 2147483648 - l3.toInt ≤ M17 → l4.toInt + 2147483649 < (fuel : Int) → vOk (IC R) (fX6_moveFixed_38 a0 a1 a2 rec17 fuel l3 l4 m) := by
  intro fuel
  induction fuel with
  | zero =>
    intro l3 l4 m hp hI hM17 hmu
    have tl3 := tiB l3
    have tl4 := tiB l4
    exfalso; omega
  | succ fuel ih =>
    intro l3 l4 m hp hI hM17 hmu
    have tl3 := tiB l3
    have tl4 := tiB l4
    have cm1 : (-1 : Int32).toInt = -1 := rfl
    have c0 : (0 : Int32).toInt = 0 := rfl
    have c1 : (1 : Int32).toInt = 1 := rfl
    rw [fX6_moveFixed_38]
    refine vLt (fun h1 => ?_) (fun h2 => ?_)
    · refine vA (by omega) fun v3 ev3 fv3 => ?_
      exact hrec17 _ _ (by omega) hI (by omega)
    · refine vI fun v4 ev4 fv4 => ?_
      refine vBindP (fX3_who_s ha2 hI) fun v5 ev5 qv5 => ?_
      try dsimp only
      have fv5 := tiB v5
      refine vNe (fun h6 => ?_) (fun h7 => ?_)
      · unfold fX6_moveFixed_63
        refine vA (by omega) fun v8 ev8 fv8 => ?_
        exact ih _ _ _ (by omega) hI (by omega) (by omega)
      · refine vOk_bind (fX3_move_s ha2 hI) fun m9 hm9 => ?_
        unfold fX6_moveFixed_63
        refine vA (by omega) fun v10 ev10 fv10 => ?_
        exact ih _ _ _ (by omega) hm9 (by omega) (by omega)
theorem fX6_moveFixed_17_s {R : xMem} {a0 : Nat} {a1 : Nat} {a2 : Nat} (ha0 : a0 ∈ pMover) (ha1 : a1 ∈ pStation) (ha2 : a2 ∈ pLink) : ∀ (fuel : Nat), ∀ (l3 : Int32) (m : xMem), ((0 ≤ l3.toInt ∧ l3.toInt ≤ 2)) → IC R m → 2147483648 - l3.toInt < (fuel : Int) → vOk (IC R) (fX6_moveFixed_17 a0 a1 a2 fuel l3 m) := by
  intro fuel
  induction fuel with
  | zero =>
    intro l3 m hp hI hmu
    have tl3 := tiB l3
    exfalso; omega
  | succ fuel ih =>
    intro l3 m hp hI hmu
    have tl3 := tiB l3
    have c2 : (2 : Int32).toInt = 2 := rfl
    rw [fX6_moveFixed_17]
    refine vLe (fun h1 => ?_) (fun h2 => ?_)
    · exact vOk_some hI
    · refine vBindM (fX6_stepOff_s ha0 ha1 ha2 hI) fun v3 m4 hm4 qv3 => ?_
      try dsimp only
      have fv3 := tiB v3
      refine vR fun v5 ev5 => ?_
      have fv5 := tiB v5
      refine vI fun v6 ev6 fv6 => ?_
      have cF := xFu
      exact fX6_moveFixed_38_s ha0 ha1 ha2 ih _ _ _ _ (by omega) hm4 (by omega) (by omega)
theorem fX6_moveFixed_s {R : xMem} {a0 : Nat} {a1 : Nat} {a2 : Nat} {m : xMem} (ha0 : a0 ∈ pMover) (ha1 : a1 ∈ pStation) (ha2 : a2 ∈ pLink) (hI : IC R m) : vOk (IC R) (fX6_moveFixed a0 a1 a2 m) := by
  have c0 : (0 : Int32).toInt = 0 := rfl
  unfold fX6_moveFixed
  unfold fX6_moveFixed_0
  refine vR fun v1 ev1 => ?_
  have fv1 : 0 ≤ v1.toInt ∧ v1.toInt ≤ 1 := by rw [ev1]; exact IC.bc hI _ _ (qLink_bc12 _ ha2)
  refine vEq (fun h2 => ?_) (fun h3 => ?_)
  · unfold fX6_moveFixed_14
    exact vOk_some hI
  · refine vR fun v4 ev4 => ?_
    have fv4 := tiB v4
    refine vNe (fun h5 => ?_) (fun h6 => ?_)
    · have cF := xFu
      exact fX6_moveFixed_17_s ha0 ha1 ha2 _ _ _ (by omega) hI (by omega)
    · unfold fX6_moveFixed_14
      exact vOk_some hI
theorem fX3_sideFor_s {R : xMem} {a0 : Nat} {a1 : Int32} {a2 : Int32} {m : xMem} (ha0 : a0 ∈ pLink) (hI : IC R m) : vOk (PP m (fun x : Int32 => (-1 ≤ x.toInt ∧ x.toInt ≤ 1))) (fX3_sideFor a0 a1 a2 m) := by
  have ta1 := tiB a1
  have ta2 := tiB a2
  have cm1 : (-1 : Int32).toInt = -1 := rfl
  have c0 : (0 : Int32).toInt = 0 := rfl
  have c1 : (1 : Int32).toInt = 1 := rfl
  unfold fX3_sideFor
  unfold fX3_sideFor_0
  refine vEq (fun h1 => ?_) (fun h2 => ?_)
  · refine vBindP (fX3_who_s ha0 hI) fun v3 ev3 qv3 => ?_
    try dsimp only
    have fv3 := tiB v3
    refine vNe (fun h4 => ?_) (fun h5 => ?_)
    · refine vBindP (fX3_who_s ha0 hI) fun v6 ev6 qv6 => ?_
      try dsimp only
      have fv6 := tiB v6
      refine vNe (fun h7 => ?_) (fun h8 => ?_)
      · unfold fX3_sideFor_57
        refine rP ?_
        first | exact True.intro | omega
      · unfold fX3_sideFor_57
        refine rP ?_
        first | exact True.intro | omega
    · refine rP ?_
      first | exact True.intro | omega
  · refine vEq (fun h9 => ?_) (fun h10 => ?_)
    · unfold fX3_sideFor_13
      refine vBindP (fX3_who_s ha0 hI) fun v11 ev11 qv11 => ?_
      try dsimp only
      have fv11 := tiB v11
      refine vNe (fun h12 => ?_) (fun h13 => ?_)
      · unfold fX3_sideFor_29
        refine rP ?_
        first | exact True.intro | omega
      · unfold fX3_sideFor_29
        refine rP ?_
        first | exact True.intro | omega
    · unfold fX3_sideFor_13
      refine vBindP (fX3_who_s ha0 hI) fun v14 ev14 qv14 => ?_
      try dsimp only
      have fv14 := tiB v14
      refine vNe (fun h15 => ?_) (fun h16 => ?_)
      · unfold fX3_sideFor_29
        refine rP ?_
        first | exact True.intro | omega
      · unfold fX3_sideFor_29
        refine rP ?_
        first | exact True.intro | omega
theorem fX6_takeUpToTwo_71_s {R : xMem} {a0 : Nat} {a1 : Nat} {a2 : Int32} {a3 : Int32} (ha0 : a0 ∈ pMover) (ha1 : a1 ∈ pStation) : ∀ (fuel : Nat), ∀ (l4 : Nat) (l5 : Int32) (l6 : Int32) (m : xMem), l4 ∈ pLink → ((0 ≤ a2.toInt ∧ a2.toInt ≤ 9) ∧ (0 ≤ l5.toInt ∧ l5.toInt ≤ 1) ∧ (0 ≤ l6.toInt ∧ l6.toInt ≤ 2)) → IC R m → 2147483648 - l6.toInt < (fuel : Int) → vOk (IC R) (fX6_takeUpToTwo_71 a0 a1 a2 a3 fuel l4 l5 l6 m) := by
  intro fuel
  induction fuel with
  | zero =>
    intro l4 l5 l6 m hl4 hp hI hmu
    have ta2 := tiB a2
    have ta3 := tiB a3
    have tl5 := tiB l5
    have tl6 := tiB l6
    exfalso; omega
  | succ fuel ih =>
    intro l4 l5 l6 m hl4 hp hI hmu
    have ta2 := tiB a2
    have ta3 := tiB a3
    have tl5 := tiB l5
    have tl6 := tiB l6
    have cm1 : (-1 : Int32).toInt = -1 := rfl
    have c0 : (0 : Int32).toInt = 0 := rfl
    have c1 : (1 : Int32).toInt = 1 := rfl
    have c2 : (2 : Int32).toInt = 2 := rfl
    have c10 : (10 : Int32).toInt = 10 := rfl
    rw [fX6_takeUpToTwo_71]
    refine vLe (fun h1 => ?_) (fun h2 => ?_)
    · exact vOk_some hI
    · refine vFoot fun v3 ev3 fv3 => ?_
      try dsimp only
      refine vBindP (fX6_goalOfMost_s ha0 ha1 hI) fun v4 ev4 qv4 => ?_
      try dsimp only
      have fv4 := tiB v4
      refine vR fun v5 ev5 => ?_
      have fv5 := tiB v5
      refine vEq (fun h6 => ?_) (fun h7 => ?_)
      · unfold fX6_takeUpToTwo_126
        unfold fX6_takeUpToTwo_127
        refine vBindP (fX3_sideFor_s hl4 hI) fun v8 ev8 qv8 => ?_
        try dsimp only
        have fv8 := tiB v8
        refine vEq (fun h9 => ?_) (fun h10 => ?_)
        · unfold fX6_takeUpToTwo_152
          exact vOk_some hI
        · have g11 := qv4.2.resolve_left (by omega)
          refine vNe (fun h12 => ?_) (fun h13 => ?_)
          · refine vFootA (ev3) ?_
            try dsimp only
            refine vIn (by omega) (by omega) fun n14 => ?_
            refine vR fun r15 er15 => ?_
            have hr15 : r15 ∈ pHall := by rw [er15]; exact (qStation_15_m3_6_inHall _ ha1 _ n14)
            refine vOk_bind (fX2_change_s hr15 hI) fun m16 hm16 => ?_
            refine vEq (fun h17 => ?_) (fun h18 => ?_)
            · unfold fX6_takeUpToTwo_190
              refine vOk_bind (fX3_put_s hl4 hm16) fun m19 hm19 => ?_
              refine vR fun v20 ev20 => ?_
              have fv20 := tiB v20
              refine vI fun v21 ev21 fv21 => ?_
              refine vR fun m22 em22 => ?_
              have hm22 : IC R m22 := by rw [em22]; exact IC_put hm19 (qLink_ok9 _ hl4)
              refine vR fun v23 ev23 => ?_
              have fv23 := tiB v23
              refine vI fun v24 ev24 fv24 => ?_
              refine vR fun m25 em25 => ?_
              have hm25 : IC R m25 := by rw [em25]; exact IC_put hm22 (qLink_ok10 _ hl4)
              refine vA (by omega) fun v26 ev26 fv26 => ?_
              exact ih _ _ _ _ hl4 (by omega) hm25 (by omega)
            · exfalso; omega
          · unfold fX6_takeUpToTwo_152
            exact vOk_some hI
      · refine vI fun v27 ev27 fv27 => ?_
        refine vI fun v28 ev28 fv28 => ?_
        refine vI fun v29 ev29 fv29 => ?_
        refine vI fun v30 ev30 fv30 => ?_
        refine vI fun v31 ev31 fv31 => ?_
        refine vLe (fun h32 => ?_) (fun h33 => ?_)
        · unfold fX6_takeUpToTwo_126
          unfold fX6_takeUpToTwo_127
          refine vBindP (fX3_sideFor_s hl4 hI) fun v34 ev34 qv34 => ?_
          try dsimp only
          have fv34 := tiB v34
          refine vEq (fun h35 => ?_) (fun h36 => ?_)
          · unfold fX6_takeUpToTwo_152
            exact vOk_some hI
          · have g37 := qv4.2.resolve_left (by omega)
            refine vNe (fun h38 => ?_) (fun h39 => ?_)
            · refine vFootA (ev3) ?_
              try dsimp only
              refine vIn (by omega) (by omega) fun n40 => ?_
              refine vR fun r41 er41 => ?_
              have hr41 : r41 ∈ pHall := by rw [er41]; exact (qStation_15_m3_6_inHall _ ha1 _ n40)
              refine vOk_bind (fX2_change_s hr41 hI) fun m42 hm42 => ?_
              refine vEq (fun h43 => ?_) (fun h44 => ?_)
              · unfold fX6_takeUpToTwo_190
                refine vOk_bind (fX3_put_s hl4 hm42) fun m45 hm45 => ?_
                refine vR fun v46 ev46 => ?_
                have fv46 := tiB v46
                refine vI fun v47 ev47 fv47 => ?_
                refine vR fun m48 em48 => ?_
                have hm48 : IC R m48 := by rw [em48]; exact IC_put hm45 (qLink_ok9 _ hl4)
                refine vR fun v49 ev49 => ?_
                have fv49 := tiB v49
                refine vI fun v50 ev50 fv50 => ?_
                refine vR fun m51 em51 => ?_
                have hm51 : IC R m51 := by rw [em51]; exact IC_put hm48 (qLink_ok10 _ hl4)
                refine vA (by omega) fun v52 ev52 fv52 => ?_
                exact ih _ _ _ _ hl4 (by omega) hm51 (by omega)
              · exfalso; omega
            · unfold fX6_takeUpToTwo_152
              exact vOk_some hI
        · unfold fX6_takeUpToTwo_127
          refine vBindP (fX3_sideFor_s hl4 hI) fun v53 ev53 qv53 => ?_
          try dsimp only
          have fv53 := tiB v53
          refine vEq (fun h54 => ?_) (fun h55 => ?_)
          · unfold fX6_takeUpToTwo_152
            exact vOk_some hI
          · have g56 := qv4.2.resolve_left (by omega)
            refine vNe (fun h57 => ?_) (fun h58 => ?_)
            · refine vFootA (ev3) ?_
              try dsimp only
              refine vIn (by omega) (by omega) fun n59 => ?_
              refine vR fun r60 er60 => ?_
              have hr60 : r60 ∈ pHall := by rw [er60]; exact (qStation_15_m3_6_inHall _ ha1 _ n59)
              refine vOk_bind (fX2_change_s hr60 hI) fun m61 hm61 => ?_
              refine vEq (fun h62 => ?_) (fun h63 => ?_)
              · exfalso; omega
              · refine vA (by omega) fun v64 ev64 fv64 => ?_
                unfold fX6_takeUpToTwo_190
                refine vOk_bind (fX3_put_s hl4 hm61) fun m65 hm65 => ?_
                refine vR fun v66 ev66 => ?_
                have fv66 := tiB v66
                refine vI fun v67 ev67 fv67 => ?_
                refine vR fun m68 em68 => ?_
                have hm68 : IC R m68 := by rw [em68]; exact IC_put hm65 (qLink_ok9 _ hl4)
                refine vR fun v69 ev69 => ?_
                have fv69 := tiB v69
                refine vI fun v70 ev70 fv70 => ?_
                refine vR fun m71 em71 => ?_
                have hm71 : IC R m71 := by rw [em71]; exact IC_put hm68 (qLink_ok10 _ hl4)
                refine vA (by omega) fun v72 ev72 fv72 => ?_
                exact ih _ _ _ _ hl4 (by omega) hm71 (by omega)
            · unfold fX6_takeUpToTwo_152
              exact vOk_some hI
theorem fX6_takeUpToTwo_s {R : xMem} {a0 : Nat} {a1 : Nat} {a2 : Int32} {a3 : Int32} {m : xMem} (ha0 : a0 ∈ pMover) (ha1 : a1 ∈ pStation) (hI : IC R m) : vOk (IC R) (fX6_takeUpToTwo a0 a1 a2 a3 m) := by
  have ta2 := tiB a2
  have ta3 := tiB a3
  have c0 : (0 : Int32).toInt = 0 := rfl
  have c1 : (1 : Int32).toInt = 1 := rfl
  unfold fX6_takeUpToTwo
  unfold fX6_takeUpToTwo_0
  refine vBindP (fX9_hasStepped_s ha1 hI) fun v1 ev1 qv1 => ?_
  try dsimp only
  have fv1 := tiB v1
  refine vEq (fun h2 => ?_) (fun h3 => ?_)
  · unfold fX6_takeUpToTwo_36
    exact vOk_some hI
  · have g4 := qv1.2.resolve_left (by omega)
    refine vIn (by omega) (by omega) fun n5 => ?_
    refine vR fun r6 er6 => ?_
    have hr6 : r6 ∈ pLink := by rw [er6]; exact (qStation_33_m2_10_inLink _ ha1 _ n5)
    refine vBindP (fX3_takesNow_s hr6 hI) fun v7 ev7 qv7 => ?_
    try dsimp only
    have fv7 := tiB v7
    refine vEq (fun h8 => ?_) (fun h9 => ?_)
    · unfold fX6_takeUpToTwo_36
      exact vOk_some hI
    · refine vIn (by omega) (by omega) fun n10 => ?_
      refine vR fun r11 er11 => ?_
      have hr11 : r11 ∈ pLink := by rw [er11]; exact (qStation_33_m2_10_inLink _ ha1 _ n10)
      refine vFoot fun v12 ev12 fv12 => ?_
      try dsimp only
      refine vBindP (fX9_hasHall_s ha1 hI) fun v13 ev13 qv13 => ?_
      try dsimp only
      have fv13 := tiB v13
      refine vNe (fun h14 => ?_) (fun h15 => ?_)
      · have g16 := qv13.2.resolve_left (by omega)
        refine vIn (by omega) (by omega) fun n17 => ?_
        refine vR fun r18 er18 => ?_
        have hr18 : r18 ∈ pLink := by rw [er18]; exact (qStation_33_m2_10_inLink _ ha1 _ n17)
        refine vR fun v19 ev19 => ?_
        have fv19 := tiB v19
        refine vNe (fun h20 => ?_) (fun h21 => ?_)
        · unfold fX6_takeUpToTwo_65
          unfold fX6_takeUpToTwo_66
          have cF := xFu
          exact fX6_takeUpToTwo_71_s ha0 ha1 _ _ _ _ _ hr18 (by omega) hI (by omega)
        · refine vR fun v22 ev22 => ?_
          have fv22 := tiB v22
          refine vNe (fun h23 => ?_) (fun h24 => ?_)
          · unfold fX6_takeUpToTwo_65
            unfold fX6_takeUpToTwo_66
            have cF := xFu
            exact fX6_takeUpToTwo_71_s ha0 ha1 _ _ _ _ _ hr18 (by omega) hI (by omega)
          · unfold fX6_takeUpToTwo_66
            have cF := xFu
            exact fX6_takeUpToTwo_71_s ha0 ha1 _ _ _ _ _ hr18 (by omega) hI (by omega)
      · unfold fX6_takeUpToTwo_36
        exact vOk_some hI
