/-! SAFETY of the class's methods, printed by wip/tools/vc.py -/
theorem fX2_change_s {R : xMem} {a0 : Nat} {a1 : Int32} {a2 : Int32} {a3 : Int32} {m : xMem} (ha0 : a0 ∈ pHall) (hI : IC R m) : vOk (IC R) (fX2_change a0 a1 a2 a3 m) := by
  have ta1 := tiB a1
  have ta2 := tiB a2
  have ta3 := tiB a3
  have c0 : (0 : Int32).toInt = 0 := rfl
  have c6 : (6 : Int32).toInt = 6 := rfl
  have c12 : (12 : Int32).toInt = 12 := rfl
  unfold fX2_change
  unfold fX2_change_0
  refine vI fun v1 ev1 fv1 => ?_
  refine vI fun v2 ev2 fv2 => ?_
  refine vLt (fun h3 => ?_) (fun h4 => ?_)
  · unfold fX2_change_44
    exact vOk_some hI
  · refine vLe (fun h5 => ?_) (fun h6 => ?_)
    · unfold fX2_change_44
      exact vOk_some hI
    · refine vIn (by omega) (by omega) fun n7 => ?_
      refine vR fun v8 ev8 => ?_
      have fv8 := tiB v8
      refine vI fun v9 ev9 fv9 => ?_
      refine vIn (by omega) (by omega) fun n10 => ?_
      refine vR fun m11 em11 => ?_
      have hm11 : IC R m11 := by rw [em11]; exact IC_arr hI (qHall_1_inArr _ ha0)
      refine vR fun v12 ev12 => ?_
      have fv12 := tiB v12
      refine vI fun v13 ev13 fv13 => ?_
      refine vR fun m14 em14 => ?_
      have hm14 : IC R m14 := by rw [em14]; exact IC_put hm11 (qHall_ok4 _ ha0)
      unfold fX2_change_44
      exact vOk_some hm14
theorem fX9_comeTo_s {R : xMem} {a0 : Nat} {a1 : Int32} {a2 : Int32} {a3 : Int32} {a4 : Int32} {m : xMem} (ha0 : a0 ∈ pStation) (hI : IC R m) : vOk (IC R) (fX9_comeTo a0 a1 a2 a3 a4 m) := by
  have ta1 := tiB a1
  have ta2 := tiB a2
  have ta3 := tiB a3
  have ta4 := tiB a4
  have c0 : (0 : Int32).toInt = 0 := rfl
  unfold fX9_comeTo
  unfold fX9_comeTo_0
  refine vNe (fun h1 => ?_) (fun h2 => ?_)
  · refine vBindP (fX9_hasHall_s ha0 hI) fun v3 ev3 qv3 => ?_
    try dsimp only
    have fv3 := tiB v3
    refine vEq (fun h4 => ?_) (fun h5 => ?_)
    · unfold fX9_comeTo_40
      exact vOk_some hI
    · have g6 := qv3.2.resolve_left (by omega)
      refine vIn (by omega) (by omega) fun n7 => ?_
      refine vR fun r8 er8 => ?_
      have hr8 : r8 ∈ pHall := by rw [er8]; exact (qStation_15_m3_6_inHall _ ha0 _ n7)
      refine vOk_bind (fX2_change_s hr8 hI) fun m9 hm9 => ?_
      unfold fX9_comeTo_40
      exact vOk_some hm9
  · refine vR fun v10 ev10 => ?_
    have fv10 := tiB v10
    refine vI fun v11 ev11 fv11 => ?_
    refine vR fun m12 em12 => ?_
    have hm12 : IC R m12 := by rw [em12]; exact IC_put hI (qStation_ok12 _ ha0)
    unfold fX9_comeTo_40
    exact vOk_some hm12
theorem fX6_letIn_29_s {R : xMem} {a0 : Nat} {a1 : Nat} {a2 : Int32} {rec19 : Nat → Int32 → xMem → Option xMem} {M19 : Int} (ha0 : a0 ∈ pMover) (ha1 : a1 ∈ pStation) (hrec19 : ∀ (l3 : Nat) (l4 : Int32) (m : xMem), l3 ∈ pHall → ((0 ≤ a2.toInt ∧ a2.toInt ≤ 5) ∧ (0 ≤ l4.toInt ∧ l4.toInt ≤ 6)) → IC R m → 2147483648 - l4.toInt < M19 → vOk (IC R) (rec19 l3 l4 m)) : ∀ (fuel : Nat), ∀ (l3 : Nat) (l4 : Int32) (l5 : Int32) (m : xMem), l3 ∈ pHall → ((0 ≤ a2.toInt ∧ a2.toInt ≤ 5) ∧ (0 ≤ l4.toInt ∧ l4.toInt ≤ 5) ∧ (0 ≤ l5.toInt ∧ l5.toInt ≤ 2)) → IC R m → 2147483648 - l4.toInt ≤ M19 → 2147483648 - l5.toInt < (fuel : Int) → vOk (IC R) (fX6_letIn_29 a0 a1 a2 rec19 fuel l3 l4 l5 m) := by
  intro fuel
  induction fuel with
  | zero =>
    intro l3 l4 l5 m hl3 hp hI hM19 hmu
    have ta2 := tiB a2
    have tl4 := tiB l4
    have tl5 := tiB l5
    exfalso; omega
  | succ fuel ih =>
    intro l3 l4 l5 m hl3 hp hI hM19 hmu
    have ta2 := tiB a2
    have tl4 := tiB l4
    have tl5 := tiB l5
    have c0 : (0 : Int32).toInt = 0 := rfl
    have c1 : (1 : Int32).toInt = 1 := rfl
    have c6 : (6 : Int32).toInt = 6 := rfl
    rw [fX6_letIn_29]
    refine vLt (fun h1 => ?_) (fun h2 => ?_)
    · refine vA (by omega) fun v3 ev3 fv3 => ?_
      exact hrec19 _ _ _ hl3 (by omega) hI (by omega)
    · refine vR fun v4 ev4 => ?_
      have fv4 := tiB v4
      refine vR fun v5 ev5 => ?_
      have fv5 := tiB v5
      refine vI fun v6 ev6 fv6 => ?_
      refine vM (v := 6 * l5.toInt) (by rw [c6]; exact Int.mul_comm _ _) (by omega) fun v7 ev7 fv7 => ?_
      refine vA (by omega) fun v8 ev8 fv8 => ?_
      refine vIn (by omega) (by omega) fun n9 => ?_
      refine vR fun v10 ev10 => ?_
      have fv10 := tiB v10
      refine vEq (fun h11 => ?_) (fun h12 => ?_)
      · unfold fX6_letIn_76
        refine vLe (fun h13 => ?_) (fun h14 => ?_)
        · unfold fX6_letIn_108
          refine vA (by omega) fun v15 ev15 fv15 => ?_
          exact ih _ _ _ _ hl3 (by omega) hI (by omega) (by omega)
        · refine vLe (fun h16 => ?_) (fun h17 => ?_)
          · unfold fX6_letIn_108
            refine vA (by omega) fun v18 ev18 fv18 => ?_
            exact ih _ _ _ _ hl3 (by omega) hI (by omega) (by omega)
          · refine vI fun v19 ev19 fv19 => ?_
            refine vOk_bind (fX2_changeOutside_s hl3 hI) fun m20 hm20 => ?_
            refine vOk_bind (fX9_comeTo_s ha1 hm20) fun m21 hm21 => ?_
            unfold fX6_letIn_108
            refine vA (by omega) fun v22 ev22 fv22 => ?_
            exact ih _ _ _ _ hl3 (by omega) hm21 (by omega) (by omega)
      · refine vMin fun v23 ev23 fv23 => ?_
        unfold fX6_letIn_76
        refine vLe (fun h24 => ?_) (fun h25 => ?_)
        · unfold fX6_letIn_108
          refine vA (by omega) fun v26 ev26 fv26 => ?_
          exact ih _ _ _ _ hl3 (by omega) hI (by omega) (by omega)
        · refine vLe (fun h27 => ?_) (fun h28 => ?_)
          · unfold fX6_letIn_108
            refine vA (by omega) fun v29 ev29 fv29 => ?_
            exact ih _ _ _ _ hl3 (by omega) hI (by omega) (by omega)
          · refine vI fun v30 ev30 fv30 => ?_
            refine vOk_bind (fX2_changeOutside_s hl3 hI) fun m31 hm31 => ?_
            refine vOk_bind (fX9_comeTo_s ha1 hm31) fun m32 hm32 => ?_
            unfold fX6_letIn_108
            refine vA (by omega) fun v33 ev33 fv33 => ?_
            exact ih _ _ _ _ hl3 (by omega) hm32 (by omega) (by omega)
theorem fX6_letIn_19_s {R : xMem} {a0 : Nat} {a1 : Nat} {a2 : Int32} (ha0 : a0 ∈ pMover) (ha1 : a1 ∈ pStation) : ∀ (fuel : Nat), ∀ (l3 : Nat) (l4 : Int32) (m : xMem), l3 ∈ pHall → ((0 ≤ a2.toInt ∧ a2.toInt ≤ 5) ∧ (0 ≤ l4.toInt ∧ l4.toInt ≤ 6)) → IC R m → 2147483648 - l4.toInt < (fuel : Int) → vOk (IC R) (fX6_letIn_19 a0 a1 a2 fuel l3 l4 m) := by
  intro fuel
  induction fuel with
  | zero =>
    intro l3 l4 m hl3 hp hI hmu
    have ta2 := tiB a2
    have tl4 := tiB l4
    exfalso; omega
  | succ fuel ih =>
    intro l3 l4 m hl3 hp hI hmu
    have ta2 := tiB a2
    have tl4 := tiB l4
    have c0 : (0 : Int32).toInt = 0 := rfl
    have c6 : (6 : Int32).toInt = 6 := rfl
    rw [fX6_letIn_19]
    refine vLe (fun h1 => ?_) (fun h2 => ?_)
    · exact vOk_some hI
    · have cF := xFu
      exact fX6_letIn_29_s ha0 ha1 ih _ _ _ _ _ hl3 (by omega) hI (by omega) (by omega)
theorem fX6_letIn_s {R : xMem} {a0 : Nat} {a1 : Nat} {a2 : Int32} {m : xMem} (ha0 : a0 ∈ pMover) (ha1 : a1 ∈ pStation) (hI : IC R m) : vOk (IC R) (fX6_letIn a0 a1 a2 m) := by
  have ta2 := tiB a2
  have c0 : (0 : Int32).toInt = 0 := rfl
  unfold fX6_letIn
  unfold fX6_letIn_0
  refine vBindP (fX9_hasHall_s ha1 hI) fun v1 ev1 qv1 => ?_
  try dsimp only
  have fv1 := tiB v1
  refine vNe (fun h2 => ?_) (fun h3 => ?_)
  · have g4 := qv1.2.resolve_left (by omega)
    refine vIn (by omega) (by omega) fun n5 => ?_
    refine vR fun r6 er6 => ?_
    have hr6 : r6 ∈ pHall := by rw [er6]; exact (qStation_15_m3_6_inHall _ ha1 _ n5)
    have cF := xFu
    exact fX6_letIn_19_s ha0 ha1 _ _ _ _ hr6 (by omega) hI (by omega)
  · exact vOk_some hI
theorem fX10_joined_s {R : xMem} {a0 : Int32} {a1 : Int64} {a3 : Int64} {m : xMem} (hI : IC R m) : vOk (PP m (fun _ : Int64 => True)) (fX10_joined a0 a1 a3 m) := by
  have ta0 := tiB a0
  have c0 : (0 : Int32).toInt = 0 := rfl
  have c3 : (3 : Int32).toInt = 3 := rfl
  have c4 : (4 : Int32).toInt = 4 := rfl
  have c5 : (5 : Int32).toInt = 5 := rfl
  have c6 : (6 : Int32).toInt = 6 := rfl
  have c7 : (7 : Int32).toInt = 7 := rfl
  have c8 : (8 : Int32).toInt = 8 := rfl
  have c9 : (9 : Int32).toInt = 9 := rfl
  have c10 : (10 : Int32).toInt = 10 := rfl
  have c11 : (11 : Int32).toInt = 11 := rfl
  have c12 : (12 : Int32).toInt = 12 := rfl
  have c13 : (13 : Int32).toInt = 13 := rfl
  have c14 : (14 : Int32).toInt = 14 := rfl
  have c15 : (15 : Int32).toInt = 15 := rfl
  have c16 : (16 : Int32).toInt = 16 := rfl
  have c17 : (17 : Int32).toInt = 17 := rfl
  have c18 : (18 : Int32).toInt = 18 := rfl
  have c19 : (19 : Int32).toInt = 19 := rfl
  have c20 : (20 : Int32).toInt = 20 := rfl
  have c21 : (21 : Int32).toInt = 21 := rfl
  have c22 : (22 : Int32).toInt = 22 := rfl
  have c23 : (23 : Int32).toInt = 23 := rfl
  have c24 : (24 : Int32).toInt = 24 := rfl
  unfold fX10_joined
  unfold fX10_joined_0
  refine vEq (fun h1 => ?_) (fun h2 => ?_)
  · refine vI fun v3 ev3 fv3 => ?_
    refine vLe (fun h4 => ?_) (fun h5 => ?_)
    · unfold fX10_joined_141
      refine rP ?_
      first | exact True.intro | omega
    · unfold fX10_joined_141
      refine rP ?_
      first | exact True.intro | omega
  · refine vEq (fun h6 => ?_) (fun h7 => ?_)
    · refine vI fun v8 ev8 fv8 => ?_
      refine vLt (fun h9 => ?_) (fun h10 => ?_)
      · unfold fX10_joined_153
        refine rP ?_
        first | exact True.intro | omega
      · unfold fX10_joined_153
        refine rP ?_
        first | exact True.intro | omega
    · refine vEq (fun h11 => ?_) (fun h12 => ?_)
      · refine vI fun v13 ev13 fv13 => ?_
        refine vLe (fun h14 => ?_) (fun h15 => ?_)
        · unfold fX10_joined_165
          refine rP ?_
          first | exact True.intro | omega
        · unfold fX10_joined_165
          refine rP ?_
          first | exact True.intro | omega
      · refine vEq (fun h16 => ?_) (fun h17 => ?_)
        · refine vI fun v18 ev18 fv18 => ?_
          refine vLt (fun h19 => ?_) (fun h20 => ?_)
          · unfold fX10_joined_177
            refine rP ?_
            first | exact True.intro | omega
          · unfold fX10_joined_177
            refine rP ?_
            first | exact True.intro | omega
        · refine vEq (fun h21 => ?_) (fun h22 => ?_)
          · refine vI fun v23 ev23 fv23 => ?_
            refine vNe (fun h24 => ?_) (fun h25 => ?_)
            · unfold fX10_joined_189
              refine rP ?_
              first | exact True.intro | omega
            · unfold fX10_joined_189
              refine rP ?_
              first | exact True.intro | omega
          · refine vEq (fun h26 => ?_) (fun h27 => ?_)
            · refine vI fun v28 ev28 fv28 => ?_
              refine vEq (fun h29 => ?_) (fun h30 => ?_)
              · unfold fX10_joined_201
                refine rP ?_
                first | exact True.intro | omega
              · unfold fX10_joined_201
                refine rP ?_
                first | exact True.intro | omega
            · refine vEq (fun h31 => ?_) (fun h32 => ?_)
              · refine vAny fun v33 => ?_
                refine rP ?_
                first | exact True.intro | omega
              · refine vEq (fun h34 => ?_) (fun h35 => ?_)
                · refine vAny fun v36 => ?_
                  refine rP ?_
                  first | exact True.intro | omega
                · refine vEq (fun h37 => ?_) (fun h38 => ?_)
                  · refine vAny fun v39 => ?_
                    refine rP ?_
                    first | exact True.intro | omega
                  · refine vEq (fun h40 => ?_) (fun h41 => ?_)
                    · refine vR fun v42 ev42 => ?_
                      have fv42 := tiB v42
                      refine vNe (fun h43 => ?_) (fun h44 => ?_)
                      · refine vNzL (cmpZ ev42 (by omega)) ?_
                        refine vAny fun v45 => ?_
                        unfold fX10_joined_129
                        refine rP ?_
                        first | exact True.intro | omega
                      · unfold fX10_joined_129
                        refine rP ?_
                        first | exact True.intro | omega
                    · refine vEq (fun h46 => ?_) (fun h47 => ?_)
                      · refine rP ?_
                        first | exact True.intro | omega
                      · refine vEq (fun h48 => ?_) (fun h49 => ?_)
                        · refine rP ?_
                          first | exact True.intro | omega
                        · refine vEq (fun h50 => ?_) (fun h51 => ?_)
                          · refine rP ?_
                            first | exact True.intro | omega
                          · refine vEq (fun h52 => ?_) (fun h53 => ?_)
                            · refine rP ?_
                              first | exact True.intro | omega
                            · refine vEq (fun h54 => ?_) (fun h55 => ?_)
                              · refine rP ?_
                                first | exact True.intro | omega
                              · refine vEq (fun h56 => ?_) (fun h57 => ?_)
                                · refine rP ?_
                                  first | exact True.intro | omega
                                · refine vEq (fun h58 => ?_) (fun h59 => ?_)
                                  · refine rP ?_
                                    first | exact True.intro | omega
                                  · refine vEq (fun h60 => ?_) (fun h61 => ?_)
                                    · refine rP ?_
                                      first | exact True.intro | omega
                                    · refine vEq (fun h62 => ?_) (fun h63 => ?_)
                                      · refine rP ?_
                                        first | exact True.intro | omega
                                      · refine vEq (fun h64 => ?_) (fun h65 => ?_)
                                        · refine rP ?_
                                          first | exact True.intro | omega
                                        · refine vEq (fun h66 => ?_) (fun h67 => ?_)
                                          · refine vR fun v68 ev68 => ?_
                                            have fv68 := tiB v68
                                            refine vNe (fun h69 => ?_) (fun h70 => ?_)
                                            · unfold fX10_joined_232
                                              unfold fX10_joined_237
                                              refine rP ?_
                                              first | exact True.intro | omega
                                            · refine vR fun v71 ev71 => ?_
                                              have fv71 := tiB v71
                                              refine vEq (fun h72 => ?_) (fun h73 => ?_)
                                              · unfold fX10_joined_237
                                                refine rP ?_
                                                first | exact True.intro | omega
                                              · unfold fX10_joined_232
                                                unfold fX10_joined_237
                                                refine rP ?_
                                                first | exact True.intro | omega
                                          · refine vEq (fun h74 => ?_) (fun h75 => ?_)
                                            · refine vR fun v76 ev76 => ?_
                                              have fv76 := tiB v76
                                              refine vEq (fun h77 => ?_) (fun h78 => ?_)
                                              · unfold fX10_joined_218
                                                unfold fX10_joined_219
                                                refine rP ?_
                                                first | exact True.intro | omega
                                              · refine vR fun v79 ev79 => ?_
                                                have fv79 := tiB v79
                                                refine vEq (fun h80 => ?_) (fun h81 => ?_)
                                                · unfold fX10_joined_218
                                                  unfold fX10_joined_219
                                                  refine rP ?_
                                                  first | exact True.intro | omega
                                                · unfold fX10_joined_219
                                                  refine rP ?_
                                                  first | exact True.intro | omega
                                            · refine rP ?_
                                              first | exact True.intro | omega
theorem fX10_worth_10_s {R m0 : xMem} {a0 : Nat} {a1 : Int32} {a2 : Int32} {a3 : Nat} (ha0 : a0 ∈ pText) (ha3 : a3 ∈ pNames) : ∀ (fuel : Nat), ∀ (l4 : Int32) (l5 : Int32) (m : xMem), ((0 ≤ l4.toInt ∧ l4.toInt ≤ 300) ∧ (0 ≤ l5.toInt ∧ l5.toInt ≤ 2147483647)) → IA R m0 m → 2147483648 - l5.toInt < (fuel : Int) → vOk (PM (IA R m0) (fun _ : Int32 => True)) (fX10_worth_10 a0 a1 a2 a3 fuel l4 l5 m) := by
  intro fuel
  induction fuel with
  | zero =>
    intro l4 l5 m hp hI hmu
    have ta1 := tiB a1
    have ta2 := tiB a2
    have tl4 := tiB l4
    have tl5 := tiB l5
    exfalso; omega
  | succ fuel ih =>
    intro l4 l5 m hp hI hmu
    have ta1 := tiB a1
    have ta2 := tiB a2
    have tl4 := tiB l4
    have tl5 := tiB l5
    have cm2 : (-2 : Int32).toInt = -2 := rfl
    have cm1 : (-1 : Int32).toInt = -1 := rfl
    have c0 : (0 : Int32).toInt = 0 := rfl
    have c1 : (1 : Int32).toInt = 1 := rfl
    have c2 : (2 : Int32).toInt = 2 := rfl
    have c8 : (8 : Int32).toInt = 8 := rfl
    have c16 : (16 : Int32).toInt = 16 := rfl
    have c25 : (25 : Int32).toInt = 25 := rfl
    have c26 : (26 : Int32).toInt = 26 := rfl
    have c300 : (300 : Int32).toInt = 300 := rfl
    rw [fX10_worth_10]
    refine vLe (fun h1 => ?_) (fun h2 => ?_)
    · unfold fX10_worth_229
      refine vIn (by omega) (by omega) fun n3 => ?_
      refine vR fun v4 ev4 => ?_
      have fv4 := tiB v4
      refine rM hI ?_
      first | exact True.intro | omega
    · refine vLe (fun h5 => ?_) (fun h6 => ?_)
      · unfold fX10_worth_229
        refine vIn (by omega) (by omega) fun n7 => ?_
        refine vR fun v8 ev8 => ?_
        have fv8 := tiB v8
        refine rM hI ?_
        first | exact True.intro | omega
      · refine vIn (by omega) (by omega) fun n9 => ?_
        refine vR fun v10 ev10 => ?_
        have fv10 := tiB v10
        refine vIn (by omega) (by omega) fun n11 => ?_
        refine vR fun v12 ev12 => ?_
        have fv12 := tiB v12
        refine vR fun v13 ev13 => ?_
        refine vNe (fun h14 => ?_) (fun h15 => ?_)
        · refine vNe (fun h16 => ?_) (fun h17 => ?_)
          · unfold fX10_worth_118
            refine vNe (fun h18 => ?_) (fun h19 => ?_)
            · unfold fX10_worth_148
              refine vEq (fun h20 => ?_) (fun h21 => ?_)
              · unfold fX10_worth_188
                refine vLe (fun h22 => ?_) (fun h23 => ?_)
                · unfold fX10_worth_223
                  refine vA (by omega) fun v24 ev24 fv24 => ?_
                  exact ih _ _ _ (by omega) hI (by omega)
                · refine vAny fun v25 => ?_
                  refine vAny fun v26 => ?_
                  refine vI fun v27 ev27 fv27 => ?_
                  refine vIn (by omega) (by omega) fun n28 => ?_
                  refine vR fun m29 em29 => ?_
                  have hm29 : IA R m0 m29 := by rw [em29]; exact IA_arr hI (qText_5_inArr _ ha0)
                  refine vA (by omega) fun v30 ev30 fv30 => ?_
                  unfold fX10_worth_223
                  refine vA (by omega) fun v31 ev31 fv31 => ?_
                  exact ih _ _ _ (by omega) hm29 (by omega)
              · refine vLt (fun h32 => ?_) (fun h33 => ?_)
                · unfold fX10_worth_188
                  refine vLe (fun h34 => ?_) (fun h35 => ?_)
                  · exfalso; omega
                  · refine vAny fun v36 => ?_
                    refine vAny fun v37 => ?_
                    refine vI fun v38 ev38 fv38 => ?_
                    refine vIn (by omega) (by omega) fun n39 => ?_
                    refine vR fun m40 em40 => ?_
                    have hm40 : IA R m0 m40 := by rw [em40]; exact IA_arr hI (qText_5_inArr _ ha0)
                    refine vA (by omega) fun v41 ev41 fv41 => ?_
                    unfold fX10_worth_223
                    refine vA (by omega) fun v42 ev42 fv42 => ?_
                    exact ih _ _ _ (by omega) hm40 (by omega)
                · refine vA (by omega) fun v43 ev43 fv43 => ?_
                  refine vIn (by omega) (by omega) fun n44 => ?_
                  refine vR fun v45 ev45 => ?_
                  have fv45 := tiB v45
                  refine vR fun v46 ev46 => ?_
                  refine vA (by omega) fun v47 ev47 fv47 => ?_
                  refine vIn (by omega) (by omega) fun n48 => ?_
                  refine vR fun v49 ev49 => ?_
                  have fv49 := tiB v49
                  refine vR fun v50 ev50 => ?_
                  refine vBindP (fX10_joined_s hI.1) fun v51 ev51 qv51 => ?_
                  try dsimp only
                  unfold fX10_worth_188
                  refine vLe (fun h52 => ?_) (fun h53 => ?_)
                  · exfalso; omega
                  · refine vAny fun v54 => ?_
                    refine vAny fun v55 => ?_
                    refine vI fun v56 ev56 fv56 => ?_
                    refine vIn (by omega) (by omega) fun n57 => ?_
                    refine vR fun m58 em58 => ?_
                    have hm58 : IA R m0 m58 := by rw [em58]; exact IA_arr hI (qText_5_inArr _ ha0)
                    refine vAl ev47 ?_
                    unfold fX10_worth_223
                    refine vA (by omega) fun v59 ev59 fv59 => ?_
                    exact ih _ _ _ (by omega) hm58 (by omega)
            · refine vLt (fun h60 => ?_) (fun h61 => ?_)
              · unfold fX10_worth_148
                refine vEq (fun h62 => ?_) (fun h63 => ?_)
                · exfalso; omega
                · refine vLt (fun h64 => ?_) (fun h65 => ?_)
                  · unfold fX10_worth_188
                    refine vLe (fun h66 => ?_) (fun h67 => ?_)
                    · exfalso; omega
                    · refine vAny fun v68 => ?_
                      refine vAny fun v69 => ?_
                      refine vI fun v70 ev70 fv70 => ?_
                      refine vIn (by omega) (by omega) fun n71 => ?_
                      refine vR fun m72 em72 => ?_
                      have hm72 : IA R m0 m72 := by rw [em72]; exact IA_arr hI (qText_5_inArr _ ha0)
                      refine vA (by omega) fun v73 ev73 fv73 => ?_
                      unfold fX10_worth_223
                      refine vA (by omega) fun v74 ev74 fv74 => ?_
                      exact ih _ _ _ (by omega) hm72 (by omega)
                  · exfalso; omega
              · refine vA (by omega) fun v75 ev75 fv75 => ?_
                refine vIn (by omega) (by omega) fun n76 => ?_
                refine vR fun v77 ev77 => ?_
                have fv77 := tiB v77
                refine vI fun v78 ev78 fv78 => ?_
                refine vR fun v79 ev79 => ?_
                unfold fX10_worth_188
                refine vLe (fun h80 => ?_) (fun h81 => ?_)
                · exfalso; omega
                · refine vAny fun v82 => ?_
                  refine vAny fun v83 => ?_
                  refine vI fun v84 ev84 fv84 => ?_
                  refine vIn (by omega) (by omega) fun n85 => ?_
                  refine vR fun m86 em86 => ?_
                  have hm86 : IA R m0 m86 := by rw [em86]; exact IA_arr hI (qText_5_inArr _ ha0)
                  refine vA (by omega) fun v87 ev87 fv87 => ?_
                  unfold fX10_worth_223
                  refine vA (by omega) fun v88 ev88 fv88 => ?_
                  exact ih _ _ _ (by omega) hm86 (by omega)
          · refine vLt (fun h89 => ?_) (fun h90 => ?_)
            · unfold fX10_worth_118
              refine vNe (fun h91 => ?_) (fun h92 => ?_)
              · unfold fX10_worth_148
                refine vEq (fun h93 => ?_) (fun h94 => ?_)
                · exfalso; omega
                · refine vLt (fun h95 => ?_) (fun h96 => ?_)
                  · unfold fX10_worth_188
                    refine vLe (fun h97 => ?_) (fun h98 => ?_)
                    · exfalso; omega
                    · refine vAny fun v99 => ?_
                      refine vAny fun v100 => ?_
                      refine vI fun v101 ev101 fv101 => ?_
                      refine vIn (by omega) (by omega) fun n102 => ?_
                      refine vR fun m103 em103 => ?_
                      have hm103 : IA R m0 m103 := by rw [em103]; exact IA_arr hI (qText_5_inArr _ ha0)
                      refine vA (by omega) fun v104 ev104 fv104 => ?_
                      unfold fX10_worth_223
                      refine vA (by omega) fun v105 ev105 fv105 => ?_
                      exact ih _ _ _ (by omega) hm103 (by omega)
                  · exfalso; omega
              · exfalso; omega
            · refine vA (by omega) fun v106 ev106 fv106 => ?_
              refine vIn (by omega) (by omega) fun n107 => ?_
              refine vR fun v108 ev108 => ?_
              have fv108 := tiB v108
              refine vNe (fun h109 => ?_) (fun h110 => ?_)
              · unfold fX10_worth_113
                unfold fX10_worth_188
                refine vLe (fun h111 => ?_) (fun h112 => ?_)
                · exfalso; omega
                · refine vAny fun v113 => ?_
                  refine vAny fun v114 => ?_
                  refine vI fun v115 ev115 fv115 => ?_
                  refine vIn (by omega) (by omega) fun n116 => ?_
                  refine vR fun m117 em117 => ?_
                  have hm117 : IA R m0 m117 := by rw [em117]; exact IA_arr hI (qText_5_inArr _ ha0)
                  refine vA (by omega) fun v118 ev118 fv118 => ?_
                  unfold fX10_worth_223
                  refine vA (by omega) fun v119 ev119 fv119 => ?_
                  exact ih _ _ _ (by omega) hm117 (by omega)
              · unfold fX10_worth_113
                unfold fX10_worth_188
                refine vLe (fun h120 => ?_) (fun h121 => ?_)
                · exfalso; omega
                · refine vAny fun v122 => ?_
                  refine vAny fun v123 => ?_
                  refine vI fun v124 ev124 fv124 => ?_
                  refine vIn (by omega) (by omega) fun n125 => ?_
                  refine vR fun m126 em126 => ?_
                  have hm126 : IA R m0 m126 := by rw [em126]; exact IA_arr hI (qText_5_inArr _ ha0)
                  refine vA (by omega) fun v127 ev127 fv127 => ?_
                  unfold fX10_worth_223
                  refine vA (by omega) fun v128 ev128 fv128 => ?_
                  exact ih _ _ _ (by omega) hm126 (by omega)
        · refine vLt (fun h129 => ?_) (fun h130 => ?_)
          · unfold fX10_worth_76
            unfold fX10_worth_77
            unfold fX10_worth_188
            refine vLe (fun h131 => ?_) (fun h132 => ?_)
            · unfold fX10_worth_223
              refine vA (by omega) fun v133 ev133 fv133 => ?_
              exact ih _ _ _ (by omega) hI (by omega)
            · refine vAny fun v134 => ?_
              refine vAny fun v135 => ?_
              refine vI fun v136 ev136 fv136 => ?_
              refine vIn (by omega) (by omega) fun n137 => ?_
              refine vR fun m138 em138 => ?_
              have hm138 : IA R m0 m138 := by rw [em138]; exact IA_arr hI (qText_5_inArr _ ha0)
              refine vA (by omega) fun v139 ev139 fv139 => ?_
              unfold fX10_worth_223
              refine vA (by omega) fun v140 ev140 fv140 => ?_
              exact ih _ _ _ (by omega) hm138 (by omega)
          · refine vLe (fun h141 => ?_) (fun h142 => ?_)
            · unfold fX10_worth_76
              unfold fX10_worth_77
              unfold fX10_worth_188
              refine vLe (fun h143 => ?_) (fun h144 => ?_)
              · unfold fX10_worth_223
                refine vA (by omega) fun v145 ev145 fv145 => ?_
                exact ih _ _ _ (by omega) hI (by omega)
              · refine vAny fun v146 => ?_
                refine vAny fun v147 => ?_
                refine vI fun v148 ev148 fv148 => ?_
                refine vIn (by omega) (by omega) fun n149 => ?_
                refine vR fun m150 em150 => ?_
                have hm150 : IA R m0 m150 := by rw [em150]; exact IA_arr hI (qText_5_inArr _ ha0)
                refine vA (by omega) fun v151 ev151 fv151 => ?_
                unfold fX10_worth_223
                refine vA (by omega) fun v152 ev152 fv152 => ?_
                exact ih _ _ _ (by omega) hm150 (by omega)
            · refine vIn (by omega) (by omega) fun n153 => ?_
              refine vR fun v154 ev154 => ?_
              have fv154 := tiB v154
              refine vR fun v155 ev155 => ?_
              unfold fX10_worth_77
              unfold fX10_worth_188
              refine vLe (fun h156 => ?_) (fun h157 => ?_)
              · unfold fX10_worth_223
                refine vA (by omega) fun v158 ev158 fv158 => ?_
                exact ih _ _ _ (by omega) hI (by omega)
              · refine vAny fun v159 => ?_
                refine vAny fun v160 => ?_
                refine vI fun v161 ev161 fv161 => ?_
                refine vIn (by omega) (by omega) fun n162 => ?_
                refine vR fun m163 em163 => ?_
                have hm163 : IA R m0 m163 := by rw [em163]; exact IA_arr hI (qText_5_inArr _ ha0)
                refine vA (by omega) fun v164 ev164 fv164 => ?_
                unfold fX10_worth_223
                refine vA (by omega) fun v165 ev165 fv165 => ?_
                exact ih _ _ _ (by omega) hm163 (by omega)
theorem fX10_worth_s {R : xMem} {a0 : Nat} {a1 : Int32} {a2 : Int32} {a3 : Nat} {m : xMem} (ha0 : a0 ∈ pText) (ha3 : a3 ∈ pNames) (hI : IC R m) : vOk (PM (IA R m) (fun _ : Int32 => True)) (fX10_worth a0 a1 a2 a3 m) := by
  have ta1 := tiB a1
  have ta2 := tiB a2
  have c0 : (0 : Int32).toInt = 0 := rfl
  have hI : IA R m m := ⟨hI, fun _ _ _ => rfl⟩
  unfold fX10_worth
  unfold fX10_worth_0
  refine vMax fun v1 ev1 fv1 => ?_
  have cF := xFu
  exact fX10_worth_10_s ha0 ha3 _ _ _ _ (by omega) hI (by omega)
theorem fX10_anySo_5_s {R m0 : xMem} {a0 : Nat} {a1 : Int32} {a2 : Nat} (ha0 : a0 ∈ pText) (ha2 : a2 ∈ pNames) : ∀ (fuel : Nat), ∀ (l3 : Int32) (l4 : Int32) (m : xMem), ((0 ≤ l4.toInt ∧ l4.toInt ≤ 10)) → IA R m0 m → 2147483648 - l4.toInt < (fuel : Int) → vOk (PM (IA R m0) (fun x : Int32 => (0 ≤ x.toInt ∧ x.toInt ≤ 1))) (fX10_anySo_5 a0 a1 a2 fuel l3 l4 m) := by
  intro fuel
  induction fuel with
  | zero =>
    intro l3 l4 m hp hI hmu
    have ta1 := tiB a1
    have tl3 := tiB l3
    have tl4 := tiB l4
    exfalso; omega
  | succ fuel ih =>
    intro l3 l4 m hp hI hmu
    have ta1 := tiB a1
    have tl3 := tiB l3
    have tl4 := tiB l4
    have c0 : (0 : Int32).toInt = 0 := rfl
    have c1 : (1 : Int32).toInt = 1 := rfl
    have c10 : (10 : Int32).toInt = 10 := rfl
    rw [fX10_anySo_5]
    refine vR fun v1 ev1 => ?_
    have fv1 := tiB v1
    refine vLe (fun h2 => ?_) (fun h3 => ?_)
    · unfold fX10_anySo_67
      refine rM hI ?_
      first | exact True.intro | omega
    · refine vLe (fun h4 => ?_) (fun h5 => ?_)
      · unfold fX10_anySo_67
        refine rM hI ?_
        first | exact True.intro | omega
      · refine vIn (by omega) (by omega) fun n6 => ?_
        refine vR fun v7 ev7 => ?_
        have fv7 := tiB v7
        refine vNe (fun h8 => ?_) (fun h9 => ?_)
        · unfold fX10_anySo_53
          refine vIn (by omega) (by omega) fun n10 => ?_
          refine vR fun v11 ev11 => ?_
          have fv11 := tiB v11
          refine vA (by omega) fun v12 ev12 fv12 => ?_
          exact ih _ _ _ (by omega) hI (by omega)
        · refine vIn (by omega) (by omega) fun n13 => ?_
          refine vR fun v14 ev14 => ?_
          have fv14 := tiB v14
          refine vBindM (fX10_worth_s ha0 ha2 hI.1) fun v15 m16 hm16 qv15 => ?_
          have im16 := IA_tr hI hm16
          try dsimp only
          have fv15 := tiB v15
          refine vEq (fun h17 => ?_) (fun h18 => ?_)
          · unfold fX10_anySo_53
            refine vIn (by omega) (by omega) fun n19 => ?_
            refine vR fun v20 ev20 => ?_
            have fv20 := tiB v20
            refine vA (by omega) fun v21 ev21 fv21 => ?_
            exact ih _ _ _ (by omega) im16 (by omega)
          · refine rM im16 ?_
            first | exact True.intro | omega
theorem fX10_anySo_s {R : xMem} {a0 : Nat} {a1 : Int32} {a2 : Nat} {m : xMem} (ha0 : a0 ∈ pText) (ha2 : a2 ∈ pNames) (hI : IC R m) : vOk (PM (IA R m) (fun x : Int32 => (0 ≤ x.toInt ∧ x.toInt ≤ 1))) (fX10_anySo a0 a1 a2 m) := by
  have ta1 := tiB a1
  have c0 : (0 : Int32).toInt = 0 := rfl
  have hI : IA R m m := ⟨hI, fun _ _ _ => rfl⟩
  unfold fX10_anySo
  unfold fX10_anySo_0
  have cF := xFu
  exact fX10_anySo_5_s ha0 ha2 _ _ _ _ (by omega) hI (by omega)
theorem fX6_isSo_s {R : xMem} {a0 : Nat} {a1 : Nat} {a2 : Nat} {a3 : Int32} {a4 : Int32} {m : xMem} (ha0 : a0 ∈ pMover) (ha1 : a1 ∈ pStation) (ha2 : a2 ∈ pText) (hI : IC R m) : vOk (PM (IA R m) (fun x : Int32 => (0 ≤ x.toInt ∧ x.toInt ≤ 1) ∧ (x.toInt = 0 ∨ ((0 ≤ a4.toInt ∧ a4.toInt ≤ 5))))) (fX6_isSo a0 a1 a2 a3 a4 m) := by
  have ta3 := tiB a3
  have ta4 := tiB a4
  have c0 : (0 : Int32).toInt = 0 := rfl
  have c1 : (1 : Int32).toInt = 1 := rfl
  have c2 : (2 : Int32).toInt = 2 := rfl
  have c3 : (3 : Int32).toInt = 3 := rfl
  have c4 : (4 : Int32).toInt = 4 := rfl
  have hI : IA R m m := ⟨hI, fun _ _ _ => rfl⟩
  unfold fX6_isSo
  unfold fX6_isSo_0
  refine vBindP (fX9_hasHall_s ha1 hI.1) fun v1 ev1 qv1 => ?_
  try dsimp only
  have fv1 := tiB v1
  refine vNe (fun h2 => ?_) (fun h3 => ?_)
  · have g4 := qv1.2.resolve_left (by omega)
    refine vIn (by omega) (by omega) fun n5 => ?_
    refine vR fun r6 er6 => ?_
    have hr6 : r6 ∈ pHall := by rw [er6]; exact (qStation_15_m3_6_inHall _ ha1 _ n5)
    refine vR fun v7 ev7 => ?_
    have fv7 := tiB v7
    refine vIn (by omega) (by omega) fun n8 => ?_
    refine vR fun m9 em9 => ?_
    have hm9 : IA R m m9 := by rw [em9]; exact IA_arr hI (qMover_4_inArr _ ha0)
    refine vIn (by omega) (by omega) fun n10 => ?_
    refine vR fun m11 em11 => ?_
    have hm11 : IA R m m11 := by rw [em11]; exact IA_arr hm9 (qMover_4_inArr _ ha0)
    refine vR fun v12 ev12 => ?_
    have fv12 := tiB v12
    refine vIn (by omega) (by omega) fun n13 => ?_
    refine vR fun m14 em14 => ?_
    have hm14 : IA R m m14 := by rw [em14]; exact IA_arr hm11 (qMover_4_inArr _ ha0)
    refine vR fun v15 ev15 => ?_
    have fv15 := tiB v15
    refine vIn (by omega) (by omega) fun n16 => ?_
    refine vR fun m17 em17 => ?_
    have hm17 : IA R m m17 := by rw [em17]; exact IA_arr hm14 (qMover_4_inArr _ ha0)
    refine vR fun v18 ev18 => ?_
    have fv18 := tiB v18
    refine vIn (by omega) (by omega) fun n19 => ?_
    refine vR fun m20 em20 => ?_
    have hm20 : IA R m m20 := by rw [em20]; exact IA_arr hm17 (qMover_4_inArr _ ha0)
    refine vBindM (fX10_anySo_s ha2 (qMover_4_inNames _ ha0) hm20.1) fun v21 m22 hm22 qv21 => ?_
    have im22 := IA_tr hm20 hm22
    try dsimp only
    have fv21 := tiB v21
    refine vB (by omega) ?_
    refine rM im22 ?_
    first | exact True.intro | omega
  · refine rM hI ?_
    first | exact True.intro | omega
theorem fX6_openHalls_2_s {R : xMem} {a0 : Nat} {a1 : Nat} {a2 : Nat} (ha0 : a0 ∈ pMover) (ha1 : a1 ∈ pStation) (ha2 : a2 ∈ pText) : ∀ (fuel : Nat), ∀ (l3 : Int32) (m : xMem), ((0 ≤ l3.toInt ∧ l3.toInt ≤ 6)) → IC R m → 2147483648 - l3.toInt < (fuel : Int) → vOk (IC R) (fX6_openHalls_2 a0 a1 a2 fuel l3 m) := by
  intro fuel
  induction fuel with
  | zero =>
    intro l3 m hp hI hmu
    have tl3 := tiB l3
    exfalso; omega
  | succ fuel ih =>
    intro l3 m hp hI hmu
    have tl3 := tiB l3
    have c0 : (0 : Int32).toInt = 0 := rfl
    have c1 : (1 : Int32).toInt = 1 := rfl
    have c6 : (6 : Int32).toInt = 6 := rfl
    rw [fX6_openHalls_2]
    refine vR fun v1 ev1 => ?_
    have fv1 := tiB v1
    refine vLe (fun h2 => ?_) (fun h3 => ?_)
    · unfold fX6_openHalls_89
      exact vOk_some hI
    · refine vLe (fun h4 => ?_) (fun h5 => ?_)
      · unfold fX6_openHalls_89
        exact vOk_some hI
      · refine vIn (by omega) (by omega) fun n6 => ?_
        refine vR fun r7 er7 => ?_
        have hr7 : r7 ∈ pHall := by rw [er7]; exact (qStation_15_m3_6_inHall _ ha1 _ n6)
        refine vR fun v8 ev8 => ?_
        have fv8 := tiB v8
        refine vR fun v9 ev9 => ?_
        have fv9 := tiB v9
        refine vLe (fun h10 => ?_) (fun h11 => ?_)
        · unfold fX6_openHalls_53
          unfold fX6_openHalls_58
          refine vB (by omega) ?_
          refine vR fun m12 em12 => ?_
          have hm12 : IC R m12 := by rw [em12]; exact IC_putB hI (qHall_kc8 _ hr7) (by omega)
          refine vAl (xP_eqE em12) ?_
          refine vNe (fun h13 => ?_) (fun h14 => ?_)
          · unfold fX6_openHalls_83
            refine vA (by omega) fun v15 ev15 fv15 => ?_
            exact ih _ _ (by omega) hm12 (by omega)
          · exfalso; omega
        · refine vBindM (fX6_isSo_s ha0 ha1 ha2 hI) fun v16 m17 hm17 qv16 => ?_
          try dsimp only
          have fv16 := tiB v16
          refine vEq (fun h18 => ?_) (fun h19 => ?_)
          · unfold fX6_openHalls_58
            refine vB (by omega) ?_
            refine vR fun m20 em20 => ?_
            have hm20 : IC R m20 := by rw [em20]; exact IC_putB hm17.1 (qHall_kc8 _ hr7) (by omega)
            refine vAl (xP_eqE em20) ?_
            refine vNe (fun h21 => ?_) (fun h22 => ?_)
            · exfalso; omega
            · refine vR fun v23 ev23 => ?_
              have fv23 := tiB v23
              refine vLe (fun h24 => ?_) (fun h25 => ?_)
              · unfold fX6_openHalls_83
                refine vA (by omega) fun v26 ev26 fv26 => ?_
                exact ih _ _ (by omega) hm20 (by omega)
              · refine vOk_bind (fX6_letIn_s ha0 ha1 hm20) fun m27 hm27 => ?_
                unfold fX6_openHalls_83
                refine vA (by omega) fun v28 ev28 fv28 => ?_
                exact ih _ _ (by omega) hm27 (by omega)
          · have g29 := qv16.2.resolve_left (by omega)
            unfold fX6_openHalls_53
            unfold fX6_openHalls_58
            refine vB (by omega) ?_
            refine vR fun m30 em30 => ?_
            have hm30 : IC R m30 := by rw [em30]; exact IC_putB hm17.1 (qHall_kc8 _ hr7) (by omega)
            refine vAl (xP_eqE em30) ?_
            refine vNe (fun h31 => ?_) (fun h32 => ?_)
            · unfold fX6_openHalls_83
              refine vA (by omega) fun v33 ev33 fv33 => ?_
              exact ih _ _ (by omega) hm30 (by omega)
            · exfalso; omega
theorem fX6_openHalls_s {R : xMem} {a0 : Nat} {a1 : Nat} {a2 : Nat} {m : xMem} (ha0 : a0 ∈ pMover) (ha1 : a1 ∈ pStation) (ha2 : a2 ∈ pText) (hI : IC R m) : vOk (IC R) (fX6_openHalls a0 a1 a2 m) := by
  have c0 : (0 : Int32).toInt = 0 := rfl
  unfold fX6_openHalls
  unfold fX6_openHalls_0
  have cF := xFu
  exact fX6_openHalls_2_s ha0 ha1 ha2 _ _ _ (by omega) hI (by omega)
theorem fX6_turnEmptyLinks_2_s {R : xMem} {a0 : Nat} {a1 : Nat} (ha0 : a0 ∈ pMover) (ha1 : a1 ∈ pStation) : ∀ (fuel : Nat), ∀ (l2 : Int32) (m : xMem), ((0 ≤ l2.toInt ∧ l2.toInt ≤ 10)) → IC R m → 2147483648 - l2.toInt < (fuel : Int) → vOk (IC R) (fX6_turnEmptyLinks_2 a0 a1 fuel l2 m) := by
  intro fuel
  induction fuel with
  | zero =>
    intro l2 m hp hI hmu
    have tl2 := tiB l2
    exfalso; omega
  | succ fuel ih =>
    intro l2 m hp hI hmu
    have tl2 := tiB l2
    have c0 : (0 : Int32).toInt = 0 := rfl
    have c1 : (1 : Int32).toInt = 1 := rfl
    have c10 : (10 : Int32).toInt = 10 := rfl
    rw [fX6_turnEmptyLinks_2]
    refine vR fun v1 ev1 => ?_
    have fv1 := tiB v1
    refine vLe (fun h2 => ?_) (fun h3 => ?_)
    · unfold fX6_turnEmptyLinks_55
      exact vOk_some hI
    · refine vLe (fun h4 => ?_) (fun h5 => ?_)
      · unfold fX6_turnEmptyLinks_55
        exact vOk_some hI
      · refine vIn (by omega) (by omega) fun n6 => ?_
        refine vR fun r7 er7 => ?_
        have hr7 : r7 ∈ pLink := by rw [er7]; exact (qStation_33_m2_10_inLink _ ha1 _ n6)
        refine vR fun v8 ev8 => ?_
        have fv8 := tiB v8
        refine vNe (fun h9 => ?_) (fun h10 => ?_)
        · unfold fX6_turnEmptyLinks_49
          refine vA (by omega) fun v11 ev11 fv11 => ?_
          exact ih _ _ (by omega) hI (by omega)
        · refine vIn (by omega) (by omega) fun n12 => ?_
          refine vR fun r13 er13 => ?_
          have hr13 : r13 ∈ pLink := by rw [er13]; exact (qStation_33_m2_10_inLink _ ha1 _ n12)
          refine vIn (by omega) (by omega) fun n14 => ?_
          refine vR fun r15 er15 => ?_
          have hr15 : r15 ∈ pLink := by rw [er15]; exact (qStation_33_m2_10_inLink _ ha1 _ n14)
          refine vR fun v16 ev16 => ?_
          have fv16 := tiB v16
          refine vR fun m17 em17 => ?_
          have hm17 : IC R m17 := by rw [em17]; exact IC_put hI (qLink_ok6 _ hr13)
          unfold fX6_turnEmptyLinks_49
          refine vA (by omega) fun v18 ev18 fv18 => ?_
          exact ih _ _ (by omega) hm17 (by omega)
theorem fX6_turnEmptyLinks_s {R : xMem} {a0 : Nat} {a1 : Nat} {m : xMem} (ha0 : a0 ∈ pMover) (ha1 : a1 ∈ pStation) (hI : IC R m) : vOk (IC R) (fX6_turnEmptyLinks a0 a1 m) := by
  have c0 : (0 : Int32).toInt = 0 := rfl
  unfold fX6_turnEmptyLinks
  unfold fX6_turnEmptyLinks_0
  have cF := xFu
  exact fX6_turnEmptyLinks_2_s ha0 ha1 _ _ _ (by omega) hI (by omega)
theorem fX3_takesNow_s {R : xMem} {a0 : Nat} {m : xMem} (ha0 : a0 ∈ pLink) (hI : IC R m) : vOk (PP m (fun x : Int32 => (0 ≤ x.toInt ∧ x.toInt ≤ 1))) (fX3_takesNow a0 m) := by
  have c0 : (0 : Int32).toInt = 0 := rfl
  have c1 : (1 : Int32).toInt = 1 := rfl
  unfold fX3_takesNow
  unfold fX3_takesNow_0
  refine vR fun v1 ev1 => ?_
  have fv1 : 0 ≤ v1.toInt ∧ v1.toInt ≤ 1 := by rw [ev1]; exact IC.bc hI _ _ (qLink_bc12 _ ha0)
  refine vEq (fun h2 => ?_) (fun h3 => ?_)
  · unfold fX3_takesNow_29
    unfold fX3_takesNow_30
    refine vB (by omega) ?_
    refine rP ?_
    first | exact True.intro | omega
  · refine vR fun v4 ev4 => ?_
    have fv4 : 0 ≤ v4.toInt ∧ v4.toInt ≤ 1 := by rw [ev4]; exact IC.bc hI _ _ (qLink_bc13 _ ha0)
    refine vNe (fun h5 => ?_) (fun h6 => ?_)
    · unfold fX3_takesNow_29
      unfold fX3_takesNow_30
      refine vB (by omega) ?_
      refine rP ?_
      first | exact True.intro | omega
    · refine vR fun v7 ev7 => ?_
      have fv7 := tiB v7
      refine vR fun v8 ev8 => ?_
      have fv8 := tiB v8
      refine vNe (fun h9 => ?_) (fun h10 => ?_)
      · unfold fX3_takesNow_29
        unfold fX3_takesNow_30
        refine vB (by omega) ?_
        refine rP ?_
        first | exact True.intro | omega
      · unfold fX3_takesNow_30
        refine vB (by omega) ?_
        refine rP ?_
        first | exact True.intro | omega
theorem fX3_foot_s {R : xMem} {a0 : Nat} {m : xMem} (ha0 : a0 ∈ pLink) (hI : IC R m) : vOk (PP m (fun _ : Int32 => True)) (fX3_foot a0 m) := by
  have c2 : (2 : Int32).toInt = 2 := rfl
  unfold fX3_foot
  unfold fX3_foot_0
  refine vR fun v1 ev1 => ?_
  have fv1 := tiB v1
  refine vNe (fun h2 => ?_) (fun h3 => ?_)
  · refine vR fun v4 ev4 => ?_
    have fv4 := tiB v4
    unfold fX3_foot_19
    refine rP ?_
    first | exact True.intro | omega
  · refine vR fun v5 ev5 => ?_
    have fv5 := tiB v5
    unfold fX3_foot_19
    refine rP ?_
    first | exact True.intro | omega
theorem fX8_leads_s {R : xMem} {a0 : Nat} {a1 : Nat} {a2 : Int32} {a3 : Int32} {m : xMem} (ha0 : a0 ∈ pRoutes) (ha1 : a1 ∈ pLink) (hI : IC R m) : vOk (PP m (fun x : Int32 => (0 ≤ x.toInt ∧ x.toInt ≤ 1) ∧ (x.toInt = 0 ∨ ((0 ≤ a2.toInt ∧ a2.toInt ≤ 1))))) (fX8_leads a0 a1 a2 a3 m) := by
  have ta2 := tiB a2
  have ta3 := tiB a3
  have c0 : (0 : Int32).toInt = 0 := rfl
  have c1 : (1 : Int32).toInt = 1 := rfl
  have c2 : (2 : Int32).toInt = 2 := rfl
  unfold fX8_leads
  unfold fX8_leads_0
  refine vR fun v1 ev1 => ?_
  have fv1 := tiB v1
  refine vNe (fun h2 => ?_) (fun h3 => ?_)
  · refine vNe (fun h4 => ?_) (fun h5 => ?_)
    · unfold fX8_leads_42
      unfold fX8_leads_43
      refine vB (by omega) ?_
      refine rP ?_
      first | exact True.intro | omega
    · refine vBindP (fX3_takesNow_s ha1 hI) fun v6 ev6 qv6 => ?_
      try dsimp only
      have fv6 := tiB v6
      refine vEq (fun h7 => ?_) (fun h8 => ?_)
      · unfold fX8_leads_42
        unfold fX8_leads_43
        refine vB (by omega) ?_
        refine rP ?_
        first | exact True.intro | omega
      · refine vFoot fun v9 ev9 fv9 => ?_
        try dsimp only
        refine vNe (fun h10 => ?_) (fun h11 => ?_)
        · unfold fX8_leads_42
          unfold fX8_leads_43
          refine vB (by omega) ?_
          refine rP ?_
          first | exact True.intro | omega
        · unfold fX8_leads_43
          refine vB (by omega) ?_
          refine rP ?_
          first | exact True.intro | omega
  · refine vNe (fun h12 => ?_) (fun h13 => ?_)
    · unfold fX8_leads_18
      refine vB (by omega) ?_
      refine rP ?_
      first | exact True.intro | omega
    · unfold fX8_leads_18
      refine vB (by omega) ?_
      refine rP ?_
      first | exact True.intro | omega
theorem fX3_seconds_s {R : xMem} {a0 : Nat} {m : xMem} (ha0 : a0 ∈ pLink) (hI : IC R m) : vOk (PP m (fun _ : Int32 => True)) (fX3_seconds a0 m) := by
  have c1 : (1 : Int32).toInt = 1 := rfl
  have c2 : (2 : Int32).toInt = 2 := rfl
  unfold fX3_seconds
  unfold fX3_seconds_0
  refine vR fun v1 ev1 => ?_
  have fv1 := tiB v1
  refine vNe (fun h2 => ?_) (fun h3 => ?_)
  · refine vAl (ev1) ?_
    refine vNe (fun h4 => ?_) (fun h5 => ?_)
    · refine vR fun v6 ev6 => ?_
      have fv6 := tiB v6
      unfold fX3_seconds_34
      refine rP ?_
      first | exact True.intro | omega
    · refine vR fun v7 ev7 => ?_
      have fv7 := tiB v7
      refine vI fun v8 ev8 fv8 => ?_
      unfold fX3_seconds_34
      refine rP ?_
      first | exact True.intro | omega
  · refine vR fun v9 ev9 => ?_
    have fv9 := tiB v9
    refine rP ?_
    first | exact True.intro | omega
theorem fX8_shorten_s {R : xMem} {a0 : Nat} {a1 : Int32} {a2 : Int32} {a3 : Int32} {m : xMem} (ha0 : a0 ∈ pRoutes) (hI : IC R m) : vOk (IC R) (fX8_shorten a0 a1 a2 a3 m) := by
  have ta1 := tiB a1
  have ta2 := tiB a2
  have ta3 := tiB a3
  have c0 : (0 : Int32).toInt = 0 := rfl
  have c6 : (6 : Int32).toInt = 6 := rfl
  have c36 : (36 : Int32).toInt = 36 := rfl
  unfold fX8_shorten
  unfold fX8_shorten_0
  refine vI fun v1 ev1 fv1 => ?_
  refine vI fun v2 ev2 fv2 => ?_
  refine vLt (fun h3 => ?_) (fun h4 => ?_)
  · unfold fX8_shorten_42
    exact vOk_some hI
  · refine vLe (fun h5 => ?_) (fun h6 => ?_)
    · unfold fX8_shorten_42
      exact vOk_some hI
    · refine vIn (by omega) (by omega) fun n7 => ?_
      refine vR fun v8 ev8 => ?_
      have fv8 := tiB v8
      refine vLe (fun h9 => ?_) (fun h10 => ?_)
      · unfold fX8_shorten_42
        exact vOk_some hI
      · refine vIn (by omega) (by omega) fun n11 => ?_
        refine vR fun m12 em12 => ?_
        have hm12 : IC R m12 := by rw [em12]; exact IC_arr hI (qRoutes_2_inArr _ ha0)
        unfold fX8_shorten_42
        exact vOk_some hm12
theorem fX8_between_s {R : xMem} {a0 : Nat} {a1 : Int32} {a2 : Int32} {m : xMem} (ha0 : a0 ∈ pRoutes) (hI : IC R m) : vOk (PP m (fun _ : Int32 => True)) (fX8_between a0 a1 a2 m) := by
  have ta1 := tiB a1
  have ta2 := tiB a2
  have c0 : (0 : Int32).toInt = 0 := rfl
  have c6 : (6 : Int32).toInt = 6 := rfl
  have c36 : (36 : Int32).toInt = 36 := rfl
  have c1000000 : (1000000 : Int32).toInt = 1000000 := rfl
  unfold fX8_between
  unfold fX8_between_0
  refine vI fun v1 ev1 fv1 => ?_
  refine vI fun v2 ev2 fv2 => ?_
  refine vLt (fun h3 => ?_) (fun h4 => ?_)
  · unfold fX8_between_29
    unfold fX8_between_31
    refine rP ?_
    first | exact True.intro | omega
  · refine vLe (fun h5 => ?_) (fun h6 => ?_)
    · unfold fX8_between_29
      unfold fX8_between_31
      refine rP ?_
      first | exact True.intro | omega
    · refine vIn (by omega) (by omega) fun n7 => ?_
      refine vR fun v8 ev8 => ?_
      have fv8 := tiB v8
      unfold fX8_between_31
      refine rP ?_
      first | exact True.intro | omega
theorem fX8_lowestFirst_27_s {R : xMem} {a0 : Nat} {a1 : Nat} {a2 : Int32} {a3 : Int32} {a4 : Int32} {m : xMem} (ha0 : a0 ∈ pRoutes) (ha1 : a1 ∈ pStation) (hI : IC R m) : ∀ (fuel : Nat), ∀ (l5 : Int32) (l6 : Int32), ((-2147483648 ≤ l5.toInt ∧ l5.toInt ≤ 999999) ∧ (0 ≤ l6.toInt ∧ l6.toInt ≤ 10)) → 2147483648 - l6.toInt < (fuel : Int) → vOk (PP m (fun x : Int32 => (-1 ≤ x.toInt ∧ x.toInt ≤ 9) ∧ (x.toInt = -1 ∨ ((0 ≤ a2.toInt ∧ a2.toInt ≤ 1))))) (fX8_lowestFirst_27 a0 a1 a2 a3 a4 fuel l5 l6 m) := by
  intro fuel
  induction fuel with
  | zero =>
    intro l5 l6 hp hmu
    have ta2 := tiB a2
    have ta3 := tiB a3
    have ta4 := tiB a4
    have tl5 := tiB l5
    have tl6 := tiB l6
    exfalso; omega
  | succ fuel ih =>
    intro l5 l6 hp hmu
    have ta2 := tiB a2
    have ta3 := tiB a3
    have ta4 := tiB a4
    have tl5 := tiB l5
    have tl6 := tiB l6
    have cm1 : (-1 : Int32).toInt = -1 := rfl
    have c0 : (0 : Int32).toInt = 0 := rfl
    have c1 : (1 : Int32).toInt = 1 := rfl
    have c10 : (10 : Int32).toInt = 10 := rfl
    rw [fX8_lowestFirst_27]
    refine vR fun v1 ev1 => ?_
    have fv1 := tiB v1
    refine vLe (fun h2 => ?_) (fun h3 => ?_)
    · unfold fX8_lowestFirst_148
      refine rP ?_
      first | exact True.intro | omega
    · refine vLe (fun h4 => ?_) (fun h5 => ?_)
      · unfold fX8_lowestFirst_148
        refine rP ?_
        first | exact True.intro | omega
      · refine vIn (by omega) (by omega) fun n6 => ?_
        refine vR fun r7 er7 => ?_
        have hr7 : r7 ∈ pLink := by rw [er7]; exact (qStation_33_m2_10_inLink _ ha1 _ n6)
        refine vR fun v8 ev8 => ?_
        have fv8 := tiB v8
        refine vEq (fun h9 => ?_) (fun h10 => ?_)
        · unfold fX8_lowestFirst_70
          refine vBindP (fX8_leads_s ha0 hr7 hI) fun v11 ev11 qv11 => ?_
          try dsimp only
          have fv11 := tiB v11
          refine vEq (fun h12 => ?_) (fun h13 => ?_)
          · unfold fX8_lowestFirst_142
            refine vA (by omega) fun v14 ev14 fv14 => ?_
            exact ih _ _ (by omega) (by omega)
          · have g15 := qv11.2.resolve_left (by omega)
            refine vAl (ev8) ?_
            refine vNe (fun h16 => ?_) (fun h17 => ?_)
            · refine vAl (ev8) ?_
              unfold fX8_lowestFirst_103
              refine vNe (fun h18 => ?_) (fun h19 => ?_)
              · refine vBindP (fX8_between_s ha0 hI) fun v20 ev20 qv20 => ?_
                try dsimp only
                have fv20 := tiB v20
                unfold fX8_lowestFirst_124
                refine vBindP (fX3_seconds_s hr7 hI) fun v21 ev21 qv21 => ?_
                try dsimp only
                have fv21 := tiB v21
                refine vI fun v22 ev22 fv22 => ?_
                refine vNe (fun h23 => ?_) (fun h24 => ?_)
                · unfold fX8_lowestFirst_142
                  refine vA (by omega) fun v25 ev25 fv25 => ?_
                  exact ih _ _ (by omega) (by omega)
                · refine rP ?_
                  first | exact True.intro | omega
              · unfold fX8_lowestFirst_124
                refine vBindP (fX3_seconds_s hr7 hI) fun v26 ev26 qv26 => ?_
                try dsimp only
                have fv26 := tiB v26
                refine vA (by omega) fun v27 ev27 fv27 => ?_
                refine vNe (fun h28 => ?_) (fun h29 => ?_)
                · unfold fX8_lowestFirst_142
                  refine vA (by omega) fun v30 ev30 fv30 => ?_
                  exact ih _ _ (by omega) (by omega)
                · refine rP ?_
                  first | exact True.intro | omega
            · refine vR fun v31 ev31 => ?_
              have fv31 := tiB v31
              unfold fX8_lowestFirst_103
              refine vNe (fun h32 => ?_) (fun h33 => ?_)
              · refine vBindP (fX8_between_s ha0 hI) fun v34 ev34 qv34 => ?_
                try dsimp only
                have fv34 := tiB v34
                unfold fX8_lowestFirst_124
                refine vBindP (fX3_seconds_s hr7 hI) fun v35 ev35 qv35 => ?_
                try dsimp only
                have fv35 := tiB v35
                refine vI fun v36 ev36 fv36 => ?_
                refine vNe (fun h37 => ?_) (fun h38 => ?_)
                · unfold fX8_lowestFirst_142
                  refine vA (by omega) fun v39 ev39 fv39 => ?_
                  exact ih _ _ (by omega) (by omega)
                · refine rP ?_
                  first | exact True.intro | omega
              · unfold fX8_lowestFirst_124
                refine vBindP (fX3_seconds_s hr7 hI) fun v40 ev40 qv40 => ?_
                try dsimp only
                have fv40 := tiB v40
                refine vA (by omega) fun v41 ev41 fv41 => ?_
                refine vNe (fun h42 => ?_) (fun h43 => ?_)
                · unfold fX8_lowestFirst_142
                  refine vA (by omega) fun v44 ev44 fv44 => ?_
                  exact ih _ _ (by omega) (by omega)
                · refine rP ?_
                  first | exact True.intro | omega
        · refine vR fun v45 ev45 => ?_
          have fv45 := tiB v45
          refine vNe (fun h46 => ?_) (fun h47 => ?_)
          · unfold fX8_lowestFirst_142
            refine vA (by omega) fun v48 ev48 fv48 => ?_
            exact ih _ _ (by omega) (by omega)
          · unfold fX8_lowestFirst_70
            refine vBindP (fX8_leads_s ha0 hr7 hI) fun v49 ev49 qv49 => ?_
            try dsimp only
            have fv49 := tiB v49
            refine vEq (fun h50 => ?_) (fun h51 => ?_)
            · unfold fX8_lowestFirst_142
              refine vA (by omega) fun v52 ev52 fv52 => ?_
              exact ih _ _ (by omega) (by omega)
            · have g53 := qv49.2.resolve_left (by omega)
              refine vAl (ev8) ?_
              refine vNe (fun h54 => ?_) (fun h55 => ?_)
              · refine vAl (ev8) ?_
                unfold fX8_lowestFirst_103
                refine vNe (fun h56 => ?_) (fun h57 => ?_)
                · refine vBindP (fX8_between_s ha0 hI) fun v58 ev58 qv58 => ?_
                  try dsimp only
                  have fv58 := tiB v58
                  unfold fX8_lowestFirst_124
                  refine vBindP (fX3_seconds_s hr7 hI) fun v59 ev59 qv59 => ?_
                  try dsimp only
                  have fv59 := tiB v59
                  refine vI fun v60 ev60 fv60 => ?_
                  refine vNe (fun h61 => ?_) (fun h62 => ?_)
                  · unfold fX8_lowestFirst_142
                    refine vA (by omega) fun v63 ev63 fv63 => ?_
                    exact ih _ _ (by omega) (by omega)
                  · refine rP ?_
                    first | exact True.intro | omega
                · unfold fX8_lowestFirst_124
                  refine vBindP (fX3_seconds_s hr7 hI) fun v64 ev64 qv64 => ?_
                  try dsimp only
                  have fv64 := tiB v64
                  refine vA (by omega) fun v65 ev65 fv65 => ?_
                  refine vNe (fun h66 => ?_) (fun h67 => ?_)
                  · unfold fX8_lowestFirst_142
                    refine vA (by omega) fun v68 ev68 fv68 => ?_
                    exact ih _ _ (by omega) (by omega)
                  · refine rP ?_
                    first | exact True.intro | omega
              · refine vAl (ev45) ?_
                unfold fX8_lowestFirst_103
                refine vNe (fun h69 => ?_) (fun h70 => ?_)
                · refine vBindP (fX8_between_s ha0 hI) fun v71 ev71 qv71 => ?_
                  try dsimp only
                  have fv71 := tiB v71
                  unfold fX8_lowestFirst_124
                  refine vBindP (fX3_seconds_s hr7 hI) fun v72 ev72 qv72 => ?_
                  try dsimp only
                  have fv72 := tiB v72
                  refine vI fun v73 ev73 fv73 => ?_
                  refine vNe (fun h74 => ?_) (fun h75 => ?_)
                  · unfold fX8_lowestFirst_142
                    refine vA (by omega) fun v76 ev76 fv76 => ?_
                    exact ih _ _ (by omega) (by omega)
                  · refine rP ?_
                    first | exact True.intro | omega
                · unfold fX8_lowestFirst_124
                  refine vBindP (fX3_seconds_s hr7 hI) fun v77 ev77 qv77 => ?_
                  try dsimp only
                  have fv77 := tiB v77
                  refine vA (by omega) fun v78 ev78 fv78 => ?_
                  refine vNe (fun h79 => ?_) (fun h80 => ?_)
                  · unfold fX8_lowestFirst_142
                    refine vA (by omega) fun v81 ev81 fv81 => ?_
                    exact ih _ _ (by omega) (by omega)
                  · refine rP ?_
                    first | exact True.intro | omega
theorem fX8_lowestFirst_s {R : xMem} {a0 : Nat} {a1 : Nat} {a2 : Int32} {a3 : Int32} {a4 : Int32} {m : xMem} (ha0 : a0 ∈ pRoutes) (ha1 : a1 ∈ pStation) (hI : IC R m) : vOk (PP m (fun x : Int32 => (-1 ≤ x.toInt ∧ x.toInt ≤ 9) ∧ (x.toInt = -1 ∨ ((0 ≤ a2.toInt ∧ a2.toInt ≤ 1))))) (fX8_lowestFirst a0 a1 a2 a3 a4 m) := by
  have ta2 := tiB a2
  have ta3 := tiB a3
  have ta4 := tiB a4
  have cm1 : (-1 : Int32).toInt = -1 := rfl
  have c0 : (0 : Int32).toInt = 0 := rfl
  have c1000000 : (1000000 : Int32).toInt = 1000000 := rfl
  unfold fX8_lowestFirst
  unfold fX8_lowestFirst_0
  refine vBindP (fX8_between_s ha0 hI) fun v1 ev1 qv1 => ?_
  try dsimp only
  have fv1 := tiB v1
  refine vEq (fun h2 => ?_) (fun h3 => ?_)
  · unfold fX8_lowestFirst_22
    refine rP ?_
    first | exact True.intro | omega
  · refine vLt (fun h4 => ?_) (fun h5 => ?_)
    · have cF := xFu
      exact fX8_lowestFirst_27_s ha0 ha1 hI _ _ _ (by omega) (by omega)
    · unfold fX8_lowestFirst_22
      refine rP ?_
      first | exact True.intro | omega
