/-! SAFETY of the reference's methods, printed by wip/tools/vcref.py -/
theorem fX12_carries_64_s {R : xMem} {a1 : Int32} {a2 : Int32} {a3 : Int32} {a4 : Int32} {rec33 : Int32 → Int32 → Int32 → xMem → Option (Int32 × xMem)} {M33 : Int} (hG : GR R) (hrec33 : ∀ (l5 : Int32) (l6 : Int32) (l7 : Int32) (m : xMem), ((2 ≤ a1.toInt ∧ a1.toInt ≤ 40) ∧ (1 ≤ a4.toInt ∧ a4.toInt ≤ 999) ∧ (0 ≤ l7.toInt ∧ l7.toInt ≤ 999)) → IR R m → 2147483648 - l7.toInt < M33 → vOk (PM (IR R) (fun _ : Int32 => True)) (rec33 l5 l6 l7 m)) : ∀ (fuel : Nat), ∀ (l5 : Int32) (l6 : Int32) (l7 : Int32) (l8 : Int32) (l9 : Int32) (m : xMem), ((2 ≤ a1.toInt ∧ a1.toInt ≤ 40) ∧ (1 ≤ a4.toInt ∧ a4.toInt ≤ 999) ∧ (0 ≤ l7.toInt ∧ l7.toInt ≤ 998) ∧ (0 ≤ l8.toInt ∧ l8.toInt ≤ 1) ∧ (0 ≤ l9.toInt ∧ l9.toInt ≤ 2)) → IR R m → 2147483648 - l7.toInt ≤ M33 → 2147483648 - l9.toInt < (fuel : Int) → vOk (PM (IR R) (fun _ : Int32 => True)) (fX12_carries_64 291 a1 a2 a3 a4 rec33 fuel l5 l6 l7 l8 l9 m) := by
  intro fuel
  induction fuel with
  | zero =>
    intro l5 l6 l7 l8 l9 m hp hI hM33 hmu
    have ta1 := tiB a1
    have ta2 := tiB a2
    have ta3 := tiB a3
    have ta4 := tiB a4
    have tl5 := tiB l5
    have tl6 := tiB l6
    have tl7 := tiB l7
    have tl8 := tiB l8
    have tl9 := tiB l9
    exfalso; omega
  | succ fuel ih =>
    intro l5 l6 l7 l8 l9 m hp hI hM33 hmu
    have ta1 := tiB a1
    have ta2 := tiB a2
    have ta3 := tiB a3
    have ta4 := tiB a4
    have tl5 := tiB l5
    have tl6 := tiB l6
    have tl7 := tiB l7
    have tl8 := tiB l8
    have tl9 := tiB l9
    have c0 : (0 : Int32).toInt = 0 := rfl
    have c1 : (1 : Int32).toInt = 1 := rfl
    have c2 : (2 : Int32).toInt = 2 := rfl
    have c10 : (10 : Int32).toInt = 10 := rfl
    have c40 : (40 : Int32).toInt = 40 := rfl
    rw [fX12_carries_64]
    refine vLe (fun h1 => ?_) (fun h2 => ?_)
    · unfold fX12_carries_192
      refine vA (by omega) fun v3 ev3 fv3 => ?_
      exact hrec33 _ _ _ _ (by omega) hI (by omega)
    · refine vEq (fun h4 => ?_) (fun h5 => ?_)
      · unfold fX12_carries_192
        refine vA (by omega) fun v6 ev6 fv6 => ?_
        exact hrec33 _ _ _ _ (by omega) hI (by omega)
      · refine vNe (fun h7 => ?_) (fun h8 => ?_)
        · unfold fX12_carries_102
          unfold fX12_carries_103
          refine vNe (fun h9 => ?_) (fun h10 => ?_)
          · refine vIn (by omega) (by omega) fun n11 => ?_
            refine vR fun v12 ev12 => ?_
            have fv12 : bw (0) 2 v12 := by rw [ev12]; exact rdn hI
            refine vLe (fun h13 => ?_) (fun h14 => ?_)
            · unfold fX12_carries_136
              refine vM (v := 40 * (0 : Int32).toInt) (by rw [c40]) (by omega) fun v15 ev15 fv15 => ?_
              refine vIn (by omega) (by omega) fun n16 => ?_
              refine vR fun v17 ev17 => ?_
              have fv17 : bw (0) 2 v17 := by rw [ev17]; exact rdn hI
              refine vNe (fun h18 => ?_) (fun h19 => ?_)
              · unfold fX12_carries_156
                refine vEq (fun h20 => ?_) (fun h21 => ?_)
                · unfold fX12_carries_186
                  refine vA (by omega) fun v22 ev22 fv22 => ?_
                  exact ih _ _ _ _ _ _ (by omega) hI (by omega) (by omega)
                · exfalso; omega
              · unfold fX12_carries_156
                refine vEq (fun h23 => ?_) (fun h24 => ?_)
                · exfalso; omega
                · refine vAl ev15 ?_
                  refine vEq (fun h25 => ?_) (fun h26 => ?_)
                  · unfold fX12_carries_182
                    refine vIn (by omega) (by omega) fun n27 => ?_
                    refine vR fun m28 em28 => ?_
                    have hm28 : IR R m28 := by rw [em28]; exact IR_n hI (by omega)
                    refine vI fun v29 ev29 fv29 => ?_
                    unfold fX12_carries_186
                    refine vA (by omega) fun v30 ev30 fv30 => ?_
                    exact ih _ _ _ _ _ _ (by omega) hm28 (by omega) (by omega)
                  · exfalso; omega
            · unfold fX12_carries_136
              refine vM (v := 40 * (1 : Int32).toInt) (by rw [c40]) (by omega) fun v31 ev31 fv31 => ?_
              refine vIn (by omega) (by omega) fun n32 => ?_
              refine vR fun v33 ev33 => ?_
              have fv33 : bw (0) 2 v33 := by rw [ev33]; exact rdn hI
              refine vNe (fun h34 => ?_) (fun h35 => ?_)
              · unfold fX12_carries_156
                refine vEq (fun h36 => ?_) (fun h37 => ?_)
                · unfold fX12_carries_186
                  refine vA (by omega) fun v38 ev38 fv38 => ?_
                  exact ih _ _ _ _ _ _ (by omega) hI (by omega) (by omega)
                · exfalso; omega
              · unfold fX12_carries_156
                refine vEq (fun h39 => ?_) (fun h40 => ?_)
                · exfalso; omega
                · refine vAl ev31 ?_
                  refine vEq (fun h41 => ?_) (fun h42 => ?_)
                  · unfold fX12_carries_182
                    refine vIn (by omega) (by omega) fun n43 => ?_
                    refine vR fun m44 em44 => ?_
                    have hm44 : IR R m44 := by rw [em44]; exact IR_n hI (by omega)
                    refine vI fun v45 ev45 fv45 => ?_
                    unfold fX12_carries_186
                    refine vA (by omega) fun v46 ev46 fv46 => ?_
                    exact ih _ _ _ _ _ _ (by omega) hm44 (by omega) (by omega)
                  · exfalso; omega
          · refine vEq (fun h47 => ?_) (fun h48 => ?_)
            · unfold fX12_carries_136
              refine vM (v := 40 * (0 : Int32).toInt) (by rw [c40]) (by omega) fun v49 ev49 fv49 => ?_
              refine vIn (by omega) (by omega) fun n50 => ?_
              refine vR fun v51 ev51 => ?_
              have fv51 : bw (0) 2 v51 := by rw [ev51]; exact rdn hI
              refine vNe (fun h52 => ?_) (fun h53 => ?_)
              · unfold fX12_carries_156
                refine vEq (fun h54 => ?_) (fun h55 => ?_)
                · unfold fX12_carries_186
                  refine vA (by omega) fun v56 ev56 fv56 => ?_
                  exact ih _ _ _ _ _ _ (by omega) hI (by omega) (by omega)
                · exfalso; omega
              · unfold fX12_carries_156
                refine vEq (fun h57 => ?_) (fun h58 => ?_)
                · exfalso; omega
                · refine vAl ev49 ?_
                  refine vEq (fun h59 => ?_) (fun h60 => ?_)
                  · unfold fX12_carries_182
                    refine vIn (by omega) (by omega) fun n61 => ?_
                    refine vR fun m62 em62 => ?_
                    have hm62 : IR R m62 := by rw [em62]; exact IR_n hI (by omega)
                    refine vI fun v63 ev63 fv63 => ?_
                    unfold fX12_carries_186
                    refine vA (by omega) fun v64 ev64 fv64 => ?_
                    exact ih _ _ _ _ _ _ (by omega) hm62 (by omega) (by omega)
                  · exfalso; omega
            · exfalso; omega
        · refine vI fun v65 ev65 fv65 => ?_
          refine vI fun v66 ev66 fv66 => ?_
          refine vI fun v67 ev67 fv67 => ?_
          refine vI fun v68 ev68 fv68 => ?_
          refine vI fun v69 ev69 fv69 => ?_
          refine vLe (fun h70 => ?_) (fun h71 => ?_)
          · unfold fX12_carries_102
            unfold fX12_carries_103
            refine vNe (fun h72 => ?_) (fun h73 => ?_)
            · exfalso; omega
            · refine vEq (fun h74 => ?_) (fun h75 => ?_)
              · unfold fX12_carries_136
                refine vM (v := 40 * (0 : Int32).toInt) (by rw [c40]) (by omega) fun v76 ev76 fv76 => ?_
                refine vIn (by omega) (by omega) fun n77 => ?_
                refine vR fun v78 ev78 => ?_
                have fv78 : bw (0) 2 v78 := by rw [ev78]; exact rdn hI
                refine vNe (fun h79 => ?_) (fun h80 => ?_)
                · unfold fX12_carries_156
                  refine vEq (fun h81 => ?_) (fun h82 => ?_)
                  · unfold fX12_carries_186
                    refine vA (by omega) fun v83 ev83 fv83 => ?_
                    exact ih _ _ _ _ _ _ (by omega) hI (by omega) (by omega)
                  · exfalso; omega
                · unfold fX12_carries_156
                  refine vEq (fun h84 => ?_) (fun h85 => ?_)
                  · exfalso; omega
                  · refine vAl ev76 ?_
                    refine vEq (fun h86 => ?_) (fun h87 => ?_)
                    · unfold fX12_carries_182
                      refine vIn (by omega) (by omega) fun n88 => ?_
                      refine vR fun m89 em89 => ?_
                      have hm89 : IR R m89 := by rw [em89]; exact IR_n hI (by omega)
                      refine vAl ev65 ?_
                      unfold fX12_carries_186
                      refine vA (by omega) fun v90 ev90 fv90 => ?_
                      exact ih _ _ _ _ _ _ (by omega) hm89 (by omega) (by omega)
                    · exfalso; omega
              · exfalso; omega
          · unfold fX12_carries_103
            refine vNe (fun h91 => ?_) (fun h92 => ?_)
            · exfalso; omega
            · refine vEq (fun h93 => ?_) (fun h94 => ?_)
              · exfalso; omega
              · unfold fX12_carries_136
                refine vM (v := 40 * (1 : Int32).toInt) (by rw [c40]) (by omega) fun v95 ev95 fv95 => ?_
                refine vIn (by omega) (by omega) fun n96 => ?_
                refine vR fun v97 ev97 => ?_
                have fv97 : bw (0) 2 v97 := by rw [ev97]; exact rdn hI
                refine vNe (fun h98 => ?_) (fun h99 => ?_)
                · unfold fX12_carries_156
                  refine vEq (fun h100 => ?_) (fun h101 => ?_)
                  · unfold fX12_carries_186
                    refine vA (by omega) fun v102 ev102 fv102 => ?_
                    exact ih _ _ _ _ _ _ (by omega) hI (by omega) (by omega)
                  · exfalso; omega
                · unfold fX12_carries_156
                  refine vEq (fun h103 => ?_) (fun h104 => ?_)
                  · exfalso; omega
                  · refine vAl ev95 ?_
                    refine vEq (fun h105 => ?_) (fun h106 => ?_)
                    · exfalso; omega
                    · unfold fX12_carries_182
                      refine vIn (by omega) (by omega) fun n107 => ?_
                      refine vR fun m108 em108 => ?_
                      have hm108 : IR R m108 := by rw [em108]; exact IR_n hI (by omega)
                      refine vAl ev65 ?_
                      unfold fX12_carries_186
                      refine vA (by omega) fun v109 ev109 fv109 => ?_
                      exact ih _ _ _ _ _ _ (by omega) hm108 (by omega) (by omega)
theorem fX12_carries_33_s {R : xMem} {a1 : Int32} {a2 : Int32} {a3 : Int32} {a4 : Int32} (hG : GR R) : ∀ (fuel : Nat), ∀ (l5 : Int32) (l6 : Int32) (l7 : Int32) (m : xMem), ((2 ≤ a1.toInt ∧ a1.toInt ≤ 40) ∧ (1 ≤ a4.toInt ∧ a4.toInt ≤ 999) ∧ (0 ≤ l7.toInt ∧ l7.toInt ≤ 999)) → IR R m → 2147483648 - l7.toInt < (fuel : Int) → vOk (PM (IR R) (fun _ : Int32 => True)) (fX12_carries_33 291 a1 a2 a3 a4 fuel l5 l6 l7 m) := by
  intro fuel
  induction fuel with
  | zero =>
    intro l5 l6 l7 m hp hI hmu
    have ta1 := tiB a1
    have ta2 := tiB a2
    have ta3 := tiB a3
    have ta4 := tiB a4
    have tl5 := tiB l5
    have tl6 := tiB l6
    have tl7 := tiB l7
    exfalso; omega
  | succ fuel ih =>
    intro l5 l6 l7 m hp hI hmu
    have ta1 := tiB a1
    have ta2 := tiB a2
    have ta3 := tiB a3
    have ta4 := tiB a4
    have tl5 := tiB l5
    have tl6 := tiB l6
    have tl7 := tiB l7
    have c0 : (0 : Int32).toInt = 0 := rfl
    have c1 : (1 : Int32).toInt = 1 := rfl
    rw [fX12_carries_33]
    refine vLe (fun h1 => ?_) (fun h2 => ?_)
    · refine rM hI ?_
      first | exact True.intro | omega
    · refine vBindM (fX12_loneMoves_s hG (by omega) hI) fun v3 m4 hm4 qv3 => ?_
      try dsimp only
      have fv3 := tiB v3
      refine vBindM (fX12_loneMoves_s hG (by omega) hm4) fun v5 m6 hm6 qv5 => ?_
      try dsimp only
      have fv5 := tiB v5
      refine vI fun v7 ev7 fv7 => ?_
      refine vI fun v8 ev8 fv8 => ?_
      have cF := xFu
      exact fX12_carries_64_s hG ih _ _ _ _ _ _ _ (by omega) hm6 (by omega) (by omega)
theorem fX12_carries_3_s {R : xMem} {a1 : Int32} {a2 : Int32} {a3 : Int32} {a4 : Int32} (hG : GR R) : ∀ (fuel : Nat), ∀ (l5 : Int32) (m : xMem), ((2 ≤ a1.toInt ∧ a1.toInt ≤ 40) ∧ (1 ≤ a4.toInt ∧ a4.toInt ≤ 999) ∧ (0 ≤ l5.toInt ∧ l5.toInt ≤ 80)) → IR R m → 2147483648 - l5.toInt < (fuel : Int) → vOk (PM (IR R) (fun _ : Int32 => True)) (fX12_carries_3 291 a1 a2 a3 a4 fuel l5 m) := by
  intro fuel
  induction fuel with
  | zero =>
    intro l5 m hp hI hmu
    have ta1 := tiB a1
    have ta2 := tiB a2
    have ta3 := tiB a3
    have ta4 := tiB a4
    have tl5 := tiB l5
    exfalso; omega
  | succ fuel ih =>
    intro l5 m hp hI hmu
    have ta1 := tiB a1
    have ta2 := tiB a2
    have ta3 := tiB a3
    have ta4 := tiB a4
    have tl5 := tiB l5
    have c0 : (0 : Int32).toInt = 0 := rfl
    have c1 : (1 : Int32).toInt = 1 := rfl
    have c80 : (80 : Int32).toInt = 80 := rfl
    rw [fX12_carries_3]
    refine vLe (fun h1 => ?_) (fun h2 => ?_)
    · have cF := xFu
      exact fX12_carries_33_s hG _ _ _ _ _ (by omega) hI (by omega)
    · refine vIn (by omega) (by omega) fun n3 => ?_
      refine vR fun m4 em4 => ?_
      have hm4 : IR R m4 := by rw [em4]; exact IR_n hI (by omega)
      refine vA (by omega) fun v5 ev5 fv5 => ?_
      exact ih _ _ (by omega) hm4 (by omega)
theorem fX12_carries_s {R : xMem} {a1 : Int32} {a2 : Int32} {a3 : Int32} {a4 : Int32} {m : xMem} (hG : GR R) (hp : (2 ≤ a1.toInt ∧ a1.toInt ≤ 40) ∧ (1 ≤ a4.toInt ∧ a4.toInt ≤ 999)) (hI : IR R m) : vOk (PM (IR R) (fun _ : Int32 => True)) (fX12_carries 291 a1 a2 a3 a4 m) := by
  have ta1 := tiB a1
  have ta2 := tiB a2
  have ta3 := tiB a3
  have ta4 := tiB a4
  have c0 : (0 : Int32).toInt = 0 := rfl
  unfold fX12_carries
  unfold fX12_carries_0
  have cF := xFu
  exact fX12_carries_3_s hG _ _ _ (by omega) hI (by omega)
theorem fX12_alone_s {R : xMem} {a1 : Int32} {a2 : Int32} {a3 : Int32} {a4 : Int32} {m : xMem} (hG : GR R) (hI : IR R m) : vOk (PM (IR R) (fun x : Int32 => (x.toInt = -1 ∨ ((2 ≤ a1.toInt ∧ a1.toInt ≤ 40) ∧ (0 ≤ a2.toInt ∧ a2.toInt ≤ 10) ∧ (0 ≤ a3.toInt ∧ a3.toInt ≤ 1) ∧ (1 ≤ a4.toInt ∧ a4.toInt ≤ 999))))) (fX12_alone 291 a1 a2 a3 a4 m) := by
  have ta1 := tiB a1
  have ta2 := tiB a2
  have ta3 := tiB a3
  have ta4 := tiB a4
  have cm1 : (-1 : Int32).toInt = -1 := rfl
  have c0 : (0 : Int32).toInt = 0 := rfl
  have c1 : (1 : Int32).toInt = 1 := rfl
  have c2 : (2 : Int32).toInt = 2 := rfl
  have c10 : (10 : Int32).toInt = 10 := rfl
  have c40 : (40 : Int32).toInt = 40 := rfl
  have c999 : (999 : Int32).toInt = 999 := rfl
  unfold fX12_alone
  unfold fX12_alone_0
  refine vBindP (fX12_in_s hG hI) fun v1 ev1 qv1 => ?_
  try dsimp only
  have fv1 := tiB v1
  refine vEq (fun h2 => ?_) (fun h3 => ?_)
  · unfold fX12_alone_53
    unfold fX12_alone_54
    refine rM hI ?_
    first | exact True.intro | omega
  · have g4 := qv1.2.resolve_left (by omega)
    refine vBindP (fX12_in_s hG hI) fun v5 ev5 qv5 => ?_
    try dsimp only
    have fv5 := tiB v5
    refine vEq (fun h6 => ?_) (fun h7 => ?_)
    · unfold fX12_alone_53
      unfold fX12_alone_54
      refine rM hI ?_
      first | exact True.intro | omega
    · have g8 := qv5.2.resolve_left (by omega)
      refine vBindP (fX12_in_s hG hI) fun v9 ev9 qv9 => ?_
      try dsimp only
      have fv9 := tiB v9
      refine vEq (fun h10 => ?_) (fun h11 => ?_)
      · unfold fX12_alone_53
        unfold fX12_alone_54
        refine rM hI ?_
        first | exact True.intro | omega
      · have g12 := qv9.2.resolve_left (by omega)
        refine vBindP (fX12_in_s hG hI) fun v13 ev13 qv13 => ?_
        try dsimp only
        have fv13 := tiB v13
        refine vEq (fun h14 => ?_) (fun h15 => ?_)
        · unfold fX12_alone_53
          unfold fX12_alone_54
          refine rM hI ?_
          first | exact True.intro | omega
        · have g16 := qv13.2.resolve_left (by omega)
          refine vBindM (fX12_carries_s hG (by omega) hI) fun v17 m18 hm18 qv17 => ?_
          try dsimp only
          have fv17 := tiB v17
          unfold fX12_alone_54
          refine rM hm18 ?_
          first | exact True.intro | omega
theorem fX12_crossing_35_s {R : xMem} {a1 : Int32} {a2 : Int32} (hG : GR R) : ∀ (fuel : Nat), ∀ (l3 : Int32) (l4 : Int32) (m : xMem), ((2 ≤ a1.toInt ∧ a1.toInt ≤ 40) ∧ (1 ≤ a2.toInt ∧ a2.toInt ≤ 999) ∧ (0 ≤ l4.toInt ∧ l4.toInt ≤ 11)) → IR R m → 2147483648 - l4.toInt < (fuel : Int) → vOk (PM (IR R) (fun x : Int32 => (-1 ≤ x.toInt ∧ x.toInt ≤ 10) ∧ (x.toInt = -1 ∨ ((2 ≤ a1.toInt ∧ a1.toInt ≤ 40) ∧ (1 ≤ a2.toInt ∧ a2.toInt ≤ 999))))) (fX12_crossing_35 291 a1 a2 fuel l3 l4 m) := by
  intro fuel
  induction fuel with
  | zero =>
    intro l3 l4 m hp hI hmu
    have ta1 := tiB a1
    have ta2 := tiB a2
    have tl3 := tiB l3
    have tl4 := tiB l4
    exfalso; omega
  | succ fuel ih =>
    intro l3 l4 m hp hI hmu
    have ta1 := tiB a1
    have ta2 := tiB a2
    have tl3 := tiB l3
    have tl4 := tiB l4
    have cm1 : (-1 : Int32).toInt = -1 := rfl
    have c0 : (0 : Int32).toInt = 0 := rfl
    have c1 : (1 : Int32).toInt = 1 := rfl
    have c11 : (11 : Int32).toInt = 11 := rfl
    rw [fX12_crossing_35]
    refine vLe (fun h1 => ?_) (fun h2 => ?_)
    · refine rM hI ?_
      first | exact True.intro | omega
    · refine vBindM (fX12_carries_s hG (by omega) hI) fun v3 m4 hm4 qv3 => ?_
      try dsimp only
      have fv3 := tiB v3
      refine vLt (fun h5 => ?_) (fun h6 => ?_)
      · refine vA (by omega) fun v7 ev7 fv7 => ?_
        exact ih _ _ _ (by omega) hm4 (by omega)
      · refine rM hm4 ?_
        first | exact True.intro | omega
theorem fX12_crossing_s {R : xMem} {a1 : Int32} {a2 : Int32} {m : xMem} (hG : GR R) (hI : IR R m) : vOk (PM (IR R) (fun x : Int32 => (-1 ≤ x.toInt ∧ x.toInt ≤ 10) ∧ (x.toInt = -1 ∨ ((2 ≤ a1.toInt ∧ a1.toInt ≤ 40) ∧ (1 ≤ a2.toInt ∧ a2.toInt ≤ 999))))) (fX12_crossing 291 a1 a2 m) := by
  have ta1 := tiB a1
  have ta2 := tiB a2
  have cm1 : (-1 : Int32).toInt = -1 := rfl
  have c0 : (0 : Int32).toInt = 0 := rfl
  have c1 : (1 : Int32).toInt = 1 := rfl
  have c2 : (2 : Int32).toInt = 2 := rfl
  have c40 : (40 : Int32).toInt = 40 := rfl
  have c999 : (999 : Int32).toInt = 999 := rfl
  unfold fX12_crossing
  unfold fX12_crossing_0
  refine vBindP (fX12_in_s hG hI) fun v1 ev1 qv1 => ?_
  try dsimp only
  have fv1 := tiB v1
  refine vEq (fun h2 => ?_) (fun h3 => ?_)
  · unfold fX12_crossing_21
    refine rM hI ?_
    first | exact True.intro | omega
  · have g4 := qv1.2.resolve_left (by omega)
    refine vBindP (fX12_in_s hG hI) fun v5 ev5 qv5 => ?_
    try dsimp only
    have fv5 := tiB v5
    refine vNe (fun h6 => ?_) (fun h7 => ?_)
    · have g8 := qv5.2.resolve_left (by omega)
      refine vBindM (fX12_carries_s hG (by omega) hI) fun v9 m10 hm10 qv9 => ?_
      try dsimp only
      have fv9 := tiB v9
      have cF := xFu
      exact fX12_crossing_35_s hG _ _ _ _ (by omega) hm10 (by omega)
    · unfold fX12_crossing_21
      refine rM hI ?_
      first | exact True.intro | omega
theorem fX12_daysOf_6_s {R : xMem} {a1 : Int32} {a2 : Int32} {a3 : Int32} {m : xMem} (hG : GR R) (hI : IR R m) : ∀ (fuel : Nat), ∀ (l4 : Int32) (l5 : Int32), ((0 ≤ l5.toInt ∧ l5.toInt ≤ 40)) → 2147483648 - l5.toInt < (fuel : Int) → vOk (PP m (fun _ : Int32 => True)) (fX12_daysOf_6 291 a1 a2 a3 fuel l4 l5 m) := by
  intro fuel
  induction fuel with
  | zero =>
    intro l4 l5 hp hmu
    have ta1 := tiB a1
    have ta2 := tiB a2
    have ta3 := tiB a3
    have tl4 := tiB l4
    have tl5 := tiB l5
    exfalso; omega
  | succ fuel ih =>
    intro l4 l5 hp hmu
    have ta1 := tiB a1
    have ta2 := tiB a2
    have ta3 := tiB a3
    have tl4 := tiB l4
    have tl5 := tiB l5
    have c0 : (0 : Int32).toInt = 0 := rfl
    have c1 : (1 : Int32).toInt = 1 := rfl
    have c2 : (2 : Int32).toInt = 2 := rfl
    have c3 : (3 : Int32).toInt = 3 := rfl
    have c6 : (6 : Int32).toInt = 6 := rfl
    have c1390 : (1390 : Int32).toInt = 1390 := rfl
    rw [fX12_daysOf_6]
    refine vIn (by omega) (by omega) fun n1 => ?_
    refine vR fun v2 ev2 => ?_
    have fv2 : bw (0) 40 v2 := by rw [ev2]; exact rdc6 hG hI (by omega)
    refine vLe (fun h3 => ?_) (fun h4 => ?_)
    · refine rP ?_
      first | exact True.intro | omega
    · refine vM (v := 3 * l5.toInt) (by rw [c3]) (by omega) fun v5 ev5 fv5 => ?_
      refine vA (by omega) fun v6 ev6 fv6 => ?_
      refine vIn (by omega) (by omega) fun n7 => ?_
      refine vR fun v8 ev8 => ?_
      have fv8 := tiB v8
      refine vNe (fun h9 => ?_) (fun h10 => ?_)
      · unfold fX12_daysOf_74
        refine vA (by omega) fun v11 ev11 fv11 => ?_
        exact ih _ _ (by omega) (by omega)
      · refine vA (by omega) fun v12 ev12 fv12 => ?_
        refine vIn (by omega) (by omega) fun n13 => ?_
        refine vR fun v14 ev14 => ?_
        have fv14 := tiB v14
        refine vNe (fun h15 => ?_) (fun h16 => ?_)
        · unfold fX12_daysOf_74
          refine vA (by omega) fun v17 ev17 fv17 => ?_
          exact ih _ _ (by omega) (by omega)
        · refine vEq (fun h18 => ?_) (fun h19 => ?_)
          · unfold fX12_daysOf_71
            refine vI fun v20 ev20 fv20 => ?_
            unfold fX12_daysOf_74
            refine vA (by omega) fun v21 ev21 fv21 => ?_
            exact ih _ _ (by omega) (by omega)
          · refine vA (by omega) fun v22 ev22 fv22 => ?_
            refine vIn (by omega) (by omega) fun n23 => ?_
            refine vR fun v24 ev24 => ?_
            have fv24 := tiB v24
            unfold fX12_daysOf_71
            refine vI fun v25 ev25 fv25 => ?_
            unfold fX12_daysOf_74
            refine vA (by omega) fun v26 ev26 fv26 => ?_
            exact ih _ _ (by omega) (by omega)
theorem fX12_daysOf_s {R : xMem} {a1 : Int32} {a2 : Int32} {a3 : Int32} {m : xMem} (hG : GR R) (hI : IR R m) : vOk (PP m (fun _ : Int32 => True)) (fX12_daysOf 291 a1 a2 a3 m) := by
  have ta1 := tiB a1
  have ta2 := tiB a2
  have ta3 := tiB a3
  have c0 : (0 : Int32).toInt = 0 := rfl
  unfold fX12_daysOf
  unfold fX12_daysOf_0
  have cF := xFu
  exact fX12_daysOf_6_s hG hI _ _ _ (by omega) (by omega)
theorem fX12_effect_6_s {R : xMem} {m : xMem} (hG : GR R) (hI : IR R m) : ∀ (fuel : Nat), ∀ (l1 : Int32) (l2 : Int32) (l3 : Int32), ((0 ≤ l3.toInt ∧ l3.toInt ≤ 6)) → 2147483648 - l3.toInt < (fuel : Int) → vOk (PP m (fun _ : Int32 => True)) (fX12_effect_6 291 fuel l1 l2 l3 m) := by
  intro fuel
  induction fuel with
  | zero =>
    intro l1 l2 l3 hp hmu
    have tl1 := tiB l1
    have tl2 := tiB l2
    have tl3 := tiB l3
    exfalso; omega
  | succ fuel ih =>
    intro l1 l2 l3 hp hmu
    have tl1 := tiB l1
    have tl2 := tiB l2
    have tl3 := tiB l3
    have cm1000000000 : (-1000000000 : Int32).toInt = -1000000000 := rfl
    have c0 : (0 : Int32).toInt = 0 := rfl
    have c1 : (1 : Int32).toInt = 1 := rfl
    have c6 : (6 : Int32).toInt = 6 := rfl
    have c1000 : (1000 : Int32).toInt = 1000 := rfl
    rw [fX12_effect_6]
    refine vLe (fun h1 => ?_) (fun h2 => ?_)
    · refine vNe (fun h3 => ?_) (fun h4 => ?_)
      · refine vNz (by omega) ?_
        refine vI fun v5 ev5 fv5 => ?_
        unfold fX12_effect_99
        refine rP ?_
        first | exact True.intro | omega
      · unfold fX12_effect_99
        refine rP ?_
        first | exact True.intro | omega
    · refine vBindP (fX12_daysOf_s hG hI) fun v6 ev6 qv6 => ?_
      try dsimp only
      have fv6 := tiB v6
      refine vBindP (fX12_daysOf_s hG hI) fun v7 ev7 qv7 => ?_
      try dsimp only
      have fv7 := tiB v7
      refine vLe (fun h8 => ?_) (fun h9 => ?_)
      · unfold fX12_effect_80
        refine vA (by omega) fun v10 ev10 fv10 => ?_
        exact ih _ _ _ (by omega) (by omega)
      · refine vLe (fun h11 => ?_) (fun h12 => ?_)
        · unfold fX12_effect_80
          refine vA (by omega) fun v13 ev13 fv13 => ?_
          exact ih _ _ _ (by omega) (by omega)
        · refine vBindP (fX12_daysOf_s hG hI) fun v14 ev14 qv14 => ?_
          try dsimp only
          have fv14 := tiB v14
          refine vI fun v15 ev15 fv15 => ?_
          refine vNz (by omega) ?_
          refine vI fun v16 ev16 fv16 => ?_
          refine vBindP (fX12_daysOf_s hG hI) fun v17 ev17 qv17 => ?_
          try dsimp only
          have fv17 := tiB v17
          refine vI fun v18 ev18 fv18 => ?_
          refine vNz (by omega) ?_
          refine vI fun v19 ev19 fv19 => ?_
          refine vI fun v20 ev20 fv20 => ?_
          refine vI fun v21 ev21 fv21 => ?_
          refine vI fun v22 ev22 fv22 => ?_
          refine vI fun v23 ev23 fv23 => ?_
          unfold fX12_effect_80
          refine vA (by omega) fun v24 ev24 fv24 => ?_
          exact ih _ _ _ (by omega) (by omega)
theorem fX12_effect_s {R : xMem} {m : xMem} (hG : GR R) (hI : IR R m) : vOk (PP m (fun _ : Int32 => True)) (fX12_effect 291 m) := by
  have c0 : (0 : Int32).toInt = 0 := rfl
  unfold fX12_effect
  unfold fX12_effect_0
  have cF := xFu
  exact fX12_effect_6_s hG hI _ _ _ _ (by omega) (by omega)
theorem fX12_aboveOf_14_s {R : xMem} {a1 : Int32} {a2 : Int32} {m : xMem} (hG : GR R) (hI : IR R m) : ∀ (fuel : Nat), ∀ (l3 : Int32) (l4 : Int32) (l5 : Int32), ((0 ≤ a1.toInt ∧ a1.toInt ≤ 5) ∧ (1520 ≤ l3.toInt ∧ l3.toInt ≤ 1540) ∧ (0 ≤ l5.toInt ∧ l5.toInt ≤ 2147483647)) → 2147483648 - l5.toInt < (fuel : Int) → vOk (PP m (fun _ : Int32 => True)) (fX12_aboveOf_14 291 a1 a2 fuel l3 l4 l5 m) := by
  intro fuel
  induction fuel with
  | zero =>
    intro l3 l4 l5 hp hmu
    have ta1 := tiB a1
    have ta2 := tiB a2
    have tl3 := tiB l3
    have tl4 := tiB l4
    have tl5 := tiB l5
    exfalso; omega
  | succ fuel ih =>
    intro l3 l4 l5 hp hmu
    have ta1 := tiB a1
    have ta2 := tiB a2
    have tl3 := tiB l3
    have tl4 := tiB l4
    have tl5 := tiB l5
    have c0 : (0 : Int32).toInt = 0 := rfl
    have c1 : (1 : Int32).toInt = 1 := rfl
    have c2 : (2 : Int32).toInt = 2 := rfl
    rw [fX12_aboveOf_14]
    refine vLe (fun h1 => ?_) (fun h2 => ?_)
    · refine rP ?_
      first | exact True.intro | omega
    · refine vIn (by omega) (by omega) fun n3 => ?_
      refine vR fun v4 ev4 => ?_
      have fv4 := tiB v4
      refine vA (by omega) fun v5 ev5 fv5 => ?_
      refine vIn (by omega) (by omega) fun n6 => ?_
      refine vR fun v7 ev7 => ?_
      have fv7 := tiB v7
      refine vI fun v8 ev8 fv8 => ?_
      refine vI fun v9 ev9 fv9 => ?_
      refine vA (by omega) fun v10 ev10 fv10 => ?_
      refine vIn (by omega) (by omega) fun n11 => ?_
      refine vR fun v12 ev12 => ?_
      have fv12 := tiB v12
      refine vLe (fun h13 => ?_) (fun h14 => ?_)
      · unfold fX12_aboveOf_56
        refine vA (by omega) fun v15 ev15 fv15 => ?_
        refine vA (by omega) fun v16 ev16 fv16 => ?_
        exact ih _ _ _ (by omega) (by omega)
      · unfold fX12_aboveOf_56
        refine vI fun v17 ev17 fv17 => ?_
        refine vA (by omega) fun v18 ev18 fv18 => ?_
        exact ih _ _ _ (by omega) (by omega)
theorem fX12_aboveOf_s {R : xMem} {a1 : Int32} {a2 : Int32} {m : xMem} (hG : GR R) (hp : (0 ≤ a1.toInt ∧ a1.toInt ≤ 5)) (hI : IR R m) : vOk (PP m (fun _ : Int32 => True)) (fX12_aboveOf 291 a1 a2 m) := by
  have ta1 := tiB a1
  have ta2 := tiB a2
  have c0 : (0 : Int32).toInt = 0 := rfl
  have c4 : (4 : Int32).toInt = 4 := rfl
  have c1520 : (1520 : Int32).toInt = 1520 := rfl
  unfold fX12_aboveOf
  unfold fX12_aboveOf_0
  refine vM (v := 4 * a1.toInt) (by rw [c4]) (by omega) fun v1 ev1 fv1 => ?_
  refine vA (by omega) fun v2 ev2 fv2 => ?_
  have cF := xFu
  exact fX12_aboveOf_14_s hG hI _ _ _ _ (by omega) (by omega)
theorem fX12_chain_9_s {R : xMem} {a1 : Int32} {a2 : Int32} {a3 : Int32} {m : xMem} (hG : GR R) (hI : IR R m) : ∀ (fuel : Nat), ∀ (l4 : Int32) (l5 : Int32) (l6 : Int32), ((2 ≤ a1.toInt ∧ a1.toInt ≤ 40) ∧ (1 ≤ a2.toInt ∧ a2.toInt ≤ 40) ∧ (1 ≤ l6.toInt ∧ l6.toInt ≤ 99)) → 2147483648 - l6.toInt < (fuel : Int) → vOk (PP m (fun _ : Int32 => True)) (fX12_chain_9 291 a1 a2 a3 fuel l4 l5 l6 m) := by
  intro fuel
  induction fuel with
  | zero =>
    intro l4 l5 l6 hp hmu
    have ta1 := tiB a1
    have ta2 := tiB a2
    have ta3 := tiB a3
    have tl4 := tiB l4
    have tl5 := tiB l5
    have tl6 := tiB l6
    exfalso; omega
  | succ fuel ih =>
    intro l4 l5 l6 hp hmu
    have ta1 := tiB a1
    have ta2 := tiB a2
    have ta3 := tiB a3
    have tl4 := tiB l4
    have tl5 := tiB l5
    have tl6 := tiB l6
    have cm1 : (-1 : Int32).toInt = -1 := rfl
    have c0 : (0 : Int32).toInt = 0 := rfl
    have c1 : (1 : Int32).toInt = 1 := rfl
    have c2 : (2 : Int32).toInt = 2 := rfl
    have c8 : (8 : Int32).toInt = 8 := rfl
    have c1550 : (1550 : Int32).toInt = 1550 := rfl
    rw [fX12_chain_9]
    refine vIn (by omega) (by omega) fun n1 => ?_
    refine vR fun v2 ev2 => ?_
    have fv2 : bw (0) 60 v2 := by rw [ev2]; exact rdc8 hG hI (by omega)
    refine vLe (fun h3 => ?_) (fun h4 => ?_)
    · refine rP ?_
      first | exact True.intro | omega
    · refine vA (by omega) fun v5 ev5 fv5 => ?_
      refine vIn (by omega) (by omega) fun n6 => ?_
      refine vR fun v7 ev7 => ?_
      have fv7 : bw (0) 80 v7 := by rw [ev7]; exact rdo hG hI (by omega)
      refine vAl ev5 ?_
      refine vS (by omega) fun v8 ev8 fv8 => ?_
      refine vIn (by omega) (by omega) fun n9 => ?_
      refine vR fun v10 ev10 => ?_
      have fv10 : bw (0) 80 v10 := by rw [ev10]; exact rdo hG hI (by omega)
      refine vS (by omega) fun v11 ev11 fv11 => ?_
      refine vI fun v12 ev12 fv12 => ?_
      refine vBindP (fX12_in_s hG hI) fun v13 ev13 qv13 => ?_
      try dsimp only
      have fv13 := tiB v13
      refine vNe (fun h14 => ?_) (fun h15 => ?_)
      · have g16 := qv13.2.resolve_left (by omega)
        refine vI fun v17 ev17 fv17 => ?_
        refine vA (by omega) fun v18 ev18 fv18 => ?_
        exact ih _ _ _ (by omega) (by omega)
      · refine rP ?_
        first | exact True.intro | omega
theorem fX12_chain_s {R : xMem} {a1 : Int32} {a2 : Int32} {a3 : Int32} {m : xMem} (hG : GR R) (hp : (2 ≤ a1.toInt ∧ a1.toInt ≤ 40) ∧ (1 ≤ a2.toInt ∧ a2.toInt ≤ 40)) (hI : IR R m) : vOk (PP m (fun _ : Int32 => True)) (fX12_chain 291 a1 a2 a3 m) := by
  have ta1 := tiB a1
  have ta2 := tiB a2
  have ta3 := tiB a3
  have c0 : (0 : Int32).toInt = 0 := rfl
  unfold fX12_chain
  unfold fX12_chain_0
  have cF := xFu
  exact fX12_chain_9_s hG hI _ _ _ _ (by omega) (by omega)
theorem fX12_taken_104_s {R : xMem} {a1 : Int32} {a2 : Int32} {rec53 : Int32 → xMem → Option (Int32 × xMem)} {rec85 : Int32 → Int32 → xMem → Option (Int32 × xMem)} {M53 : Int} {M85 : Int} (hG : GR R) (hrec53 : ∀ (l3 : Int32) (m : xMem), ((2 ≤ a1.toInt ∧ a1.toInt ≤ 40) ∧ (1 ≤ l3.toInt ∧ l3.toInt ≤ 41)) → IR R m → 2147483648 - l3.toInt < M53 → vOk (PM (IR R) (fun x : Int32 => (x.toInt = -1 ∨ ((2 ≤ a1.toInt ∧ a1.toInt ≤ 40))))) (rec53 l3 m)) (hrec85 : ∀ (l3 : Int32) (l4 : Int32) (m : xMem), ((2 ≤ a1.toInt ∧ a1.toInt ≤ 40) ∧ (1 ≤ l3.toInt ∧ l3.toInt ≤ 40) ∧ (0 ≤ l4.toInt ∧ l4.toInt ≤ 3)) → IR R m → 2147483648 - l3.toInt ≤ M53 → 2147483648 - l4.toInt < M85 → vOk (PM (IR R) (fun x : Int32 => (x.toInt = -1 ∨ ((2 ≤ a1.toInt ∧ a1.toInt ≤ 40))))) (rec85 l3 l4 m)) : ∀ (fuel : Nat), ∀ (l3 : Int32) (l4 : Int32) (l5 : Int32) (l6 : Int32) (m : xMem), ((2 ≤ a1.toInt ∧ a1.toInt ≤ 40) ∧ (1 ≤ l3.toInt ∧ l3.toInt ≤ 40) ∧ (0 ≤ l4.toInt ∧ l4.toInt ≤ 2) ∧ (0 ≤ l6.toInt ∧ l6.toInt ≤ 81)) → IR R m → 2147483648 - l3.toInt ≤ M53 → 2147483648 - l4.toInt ≤ M85 → 2147483648 - l6.toInt < (fuel : Int) → vOk (PM (IR R) (fun x : Int32 => (x.toInt = -1 ∨ ((2 ≤ a1.toInt ∧ a1.toInt ≤ 40))))) (fX12_taken_104 291 a1 a2 rec53 rec85 fuel l3 l4 l5 l6 m) := by
  intro fuel
  induction fuel with
  | zero =>
    intro l3 l4 l5 l6 m hp hI hM53 hM85 hmu
    have ta1 := tiB a1
    have ta2 := tiB a2
    have tl3 := tiB l3
    have tl4 := tiB l4
    have tl5 := tiB l5
    have tl6 := tiB l6
    exfalso; omega
  | succ fuel ih =>
    intro l3 l4 l5 l6 m hp hI hM53 hM85 hmu
    have ta1 := tiB a1
    have ta2 := tiB a2
    have tl3 := tiB l3
    have tl4 := tiB l4
    have tl5 := tiB l5
    have tl6 := tiB l6
    have cm1 : (-1 : Int32).toInt = -1 := rfl
    have c0 : (0 : Int32).toInt = 0 := rfl
    have c1 : (1 : Int32).toInt = 1 := rfl
    have c81 : (81 : Int32).toInt = 81 := rfl
    rw [fX12_taken_104]
    refine vA (by omega) fun v1 ev1 fv1 => ?_
    refine vLe (fun h2 => ?_) (fun h3 => ?_)
    · unfold fX12_taken_205
      refine vA (by omega) fun v4 ev4 fv4 => ?_
      exact hrec85 _ _ _ (by omega) hI (by omega) (by omega)
    · refine vEq (fun h5 => ?_) (fun h6 => ?_)
      · unfold fX12_taken_205
        refine vA (by omega) fun v7 ev7 fv7 => ?_
        exact hrec85 _ _ _ (by omega) hI (by omega) (by omega)
      · refine vIn (by omega) (by omega) fun n8 => ?_
        refine vR fun v9 ev9 => ?_
        have fv9 := tiB v9
        refine vEq (fun h10 => ?_) (fun h11 => ?_)
        · unfold fX12_taken_199
          refine vA (by omega) fun v12 ev12 fv12 => ?_
          exact ih _ _ _ _ _ (by omega) hI (by omega) (by omega) (by omega)
        · refine vIn (by omega) (by omega) fun n13 => ?_
          refine vAl (ev9) ?_
          refine vI fun v14 ev14 fv14 => ?_
          refine vAl ev1 ?_
          refine vIn (by omega) (by omega) fun n15 => ?_
          refine vR fun v16 ev16 => ?_
          have fv16 := tiB v16
          refine vAl ev1 ?_
          refine vEq (fun h17 => ?_) (fun h18 => ?_)
          · unfold fX12_taken_191
            unfold fX12_taken_198
            refine vIn (by omega) (by omega) fun n19 => ?_
            refine vR fun m20 em20 => ?_
            have hm20 : IR R m20 := by rw [em20]; exact IR_f hI (by omega)
            unfold fX12_taken_199
            refine vA (by omega) fun v21 ev21 fv21 => ?_
            exact ih _ _ _ _ _ (by omega) hm20 (by omega) (by omega) (by omega)
          · refine vEq (fun h22 => ?_) (fun h23 => ?_)
            · refine vLe (fun h24 => ?_) (fun h25 => ?_)
              · unfold fX12_taken_196
                unfold fX12_taken_198
                refine vIn (by omega) (by omega) fun n26 => ?_
                refine vR fun m27 em27 => ?_
                have hm27 : IR R m27 := by rw [em27]; exact IR_f hI (by omega)
                unfold fX12_taken_199
                refine vA (by omega) fun v28 ev28 fv28 => ?_
                exact ih _ _ _ _ _ (by omega) hm27 (by omega) (by omega) (by omega)
              · unfold fX12_taken_191
                unfold fX12_taken_198
                refine vIn (by omega) (by omega) fun n29 => ?_
                refine vR fun m30 em30 => ?_
                have hm30 : IR R m30 := by rw [em30]; exact IR_f hI (by omega)
                unfold fX12_taken_199
                refine vA (by omega) fun v31 ev31 fv31 => ?_
                exact ih _ _ _ _ _ (by omega) hm30 (by omega) (by omega) (by omega)
            · refine vLe (fun h32 => ?_) (fun h33 => ?_)
              · unfold fX12_taken_196
                unfold fX12_taken_198
                refine vIn (by omega) (by omega) fun n34 => ?_
                refine vR fun m35 em35 => ?_
                have hm35 : IR R m35 := by rw [em35]; exact IR_f hI (by omega)
                unfold fX12_taken_199
                refine vA (by omega) fun v36 ev36 fv36 => ?_
                exact ih _ _ _ _ _ (by omega) hm35 (by omega) (by omega) (by omega)
              · unfold fX12_taken_191
                unfold fX12_taken_198
                refine vIn (by omega) (by omega) fun n37 => ?_
                refine vR fun m38 em38 => ?_
                have hm38 : IR R m38 := by rw [em38]; exact IR_f hI (by omega)
                unfold fX12_taken_199
                refine vA (by omega) fun v39 ev39 fv39 => ?_
                exact ih _ _ _ _ _ (by omega) hm38 (by omega) (by omega) (by omega)
theorem fX12_taken_214_s {R : xMem} {a1 : Int32} {a2 : Int32} {rec53 : Int32 → xMem → Option (Int32 × xMem)} {M53 : Int} (hG : GR R) (hrec53 : ∀ (l3 : Int32) (m : xMem), ((2 ≤ a1.toInt ∧ a1.toInt ≤ 40) ∧ (1 ≤ l3.toInt ∧ l3.toInt ≤ 41)) → IR R m → 2147483648 - l3.toInt < M53 → vOk (PM (IR R) (fun x : Int32 => (x.toInt = -1 ∨ ((2 ≤ a1.toInt ∧ a1.toInt ≤ 40))))) (rec53 l3 m)) : ∀ (fuel : Nat), ∀ (l3 : Int32) (l4 : Int32) (m : xMem), ((2 ≤ a1.toInt ∧ a1.toInt ≤ 40) ∧ (1 ≤ l3.toInt ∧ l3.toInt ≤ 40) ∧ (0 ≤ l4.toInt ∧ l4.toInt ≤ 81)) → IR R m → 2147483648 - l3.toInt ≤ M53 → 2147483648 - l4.toInt < (fuel : Int) → vOk (PM (IR R) (fun x : Int32 => (x.toInt = -1 ∨ ((2 ≤ a1.toInt ∧ a1.toInt ≤ 40))))) (fX12_taken_214 291 a1 a2 rec53 fuel l3 l4 m) := by
  intro fuel
  induction fuel with
  | zero =>
    intro l3 l4 m hp hI hM53 hmu
    have ta1 := tiB a1
    have ta2 := tiB a2
    have tl3 := tiB l3
    have tl4 := tiB l4
    exfalso; omega
  | succ fuel ih =>
    intro l3 l4 m hp hI hM53 hmu
    have ta1 := tiB a1
    have ta2 := tiB a2
    have tl3 := tiB l3
    have tl4 := tiB l4
    have c1 : (1 : Int32).toInt = 1 := rfl
    have c81 : (81 : Int32).toInt = 81 := rfl
    rw [fX12_taken_214]
    refine vLe (fun h1 => ?_) (fun h2 => ?_)
    · refine vA (by omega) fun v3 ev3 fv3 => ?_
      exact hrec53 _ _ (by omega) hI (by omega)
    · refine vIn (by omega) (by omega) fun n4 => ?_
      refine vR fun v5 ev5 => ?_
      have fv5 := tiB v5
      refine vIn (by omega) (by omega) fun n6 => ?_
      refine vR fun m7 em7 => ?_
      have hm7 : IR R m7 := by rw [em7]; exact IR_f hI (by omega)
      refine vA (by omega) fun v8 ev8 fv8 => ?_
      exact ih _ _ _ (by omega) hm7 (by omega) (by omega)
theorem fX12_taken_85_s {R : xMem} {a1 : Int32} {a2 : Int32} {rec53 : Int32 → xMem → Option (Int32 × xMem)} {M53 : Int} (hG : GR R) (hrec53 : ∀ (l3 : Int32) (m : xMem), ((2 ≤ a1.toInt ∧ a1.toInt ≤ 40) ∧ (1 ≤ l3.toInt ∧ l3.toInt ≤ 41)) → IR R m → 2147483648 - l3.toInt < M53 → vOk (PM (IR R) (fun x : Int32 => (x.toInt = -1 ∨ ((2 ≤ a1.toInt ∧ a1.toInt ≤ 40))))) (rec53 l3 m)) : ∀ (fuel : Nat), ∀ (l3 : Int32) (l4 : Int32) (m : xMem), ((2 ≤ a1.toInt ∧ a1.toInt ≤ 40) ∧ (1 ≤ l3.toInt ∧ l3.toInt ≤ 40) ∧ (0 ≤ l4.toInt ∧ l4.toInt ≤ 3)) → IR R m → 2147483648 - l3.toInt ≤ M53 → 2147483648 - l4.toInt < (fuel : Int) → vOk (PM (IR R) (fun x : Int32 => (x.toInt = -1 ∨ ((2 ≤ a1.toInt ∧ a1.toInt ≤ 40))))) (fX12_taken_85 291 a1 a2 rec53 fuel l3 l4 m) := by
  intro fuel
  induction fuel with
  | zero =>
    intro l3 l4 m hp hI hM53 hmu
    have ta1 := tiB a1
    have ta2 := tiB a2
    have tl3 := tiB l3
    have tl4 := tiB l4
    exfalso; omega
  | succ fuel ih =>
    intro l3 l4 m hp hI hM53 hmu
    have ta1 := tiB a1
    have ta2 := tiB a2
    have tl3 := tiB l3
    have tl4 := tiB l4
    have c0 : (0 : Int32).toInt = 0 := rfl
    have c3 : (3 : Int32).toInt = 3 := rfl
    rw [fX12_taken_85]
    refine vLe (fun h1 => ?_) (fun h2 => ?_)
    · have cF := xFu
      exact fX12_taken_214_s hG hrec53 _ _ _ _ (by omega) hI (by omega) (by omega)
    · refine vBindP (fX12_chain_s hG (by omega) hI) fun v3 ev3 qv3 => ?_
      try dsimp only
      have fv3 := tiB v3
      have cF := xFu
      exact fX12_taken_104_s hG hrec53 ih _ _ _ _ _ _ (by omega) hI (by omega) (by omega) (by omega)
theorem fX12_taken_61_s {R : xMem} {a1 : Int32} {a2 : Int32} {rec53 : Int32 → xMem → Option (Int32 × xMem)} {M53 : Int} (hG : GR R) (hrec53 : ∀ (l3 : Int32) (m : xMem), ((2 ≤ a1.toInt ∧ a1.toInt ≤ 40) ∧ (1 ≤ l3.toInt ∧ l3.toInt ≤ 41)) → IR R m → 2147483648 - l3.toInt < M53 → vOk (PM (IR R) (fun x : Int32 => (x.toInt = -1 ∨ ((2 ≤ a1.toInt ∧ a1.toInt ≤ 40))))) (rec53 l3 m)) : ∀ (fuel : Nat), ∀ (l3 : Int32) (l4 : Int32) (m : xMem), ((2 ≤ a1.toInt ∧ a1.toInt ≤ 40) ∧ (1 ≤ l3.toInt ∧ l3.toInt ≤ 40) ∧ (0 ≤ l4.toInt ∧ l4.toInt ≤ 81)) → IR R m → 2147483648 - l3.toInt ≤ M53 → 2147483648 - l4.toInt < (fuel : Int) → vOk (PM (IR R) (fun x : Int32 => (x.toInt = -1 ∨ ((2 ≤ a1.toInt ∧ a1.toInt ≤ 40))))) (fX12_taken_61 291 a1 a2 rec53 fuel l3 l4 m) := by
  intro fuel
  induction fuel with
  | zero =>
    intro l3 l4 m hp hI hM53 hmu
    have ta1 := tiB a1
    have ta2 := tiB a2
    have tl3 := tiB l3
    have tl4 := tiB l4
    exfalso; omega
  | succ fuel ih =>
    intro l3 l4 m hp hI hM53 hmu
    have ta1 := tiB a1
    have ta2 := tiB a2
    have tl3 := tiB l3
    have tl4 := tiB l4
    have cm1 : (-1 : Int32).toInt = -1 := rfl
    have c0 : (0 : Int32).toInt = 0 := rfl
    have c1 : (1 : Int32).toInt = 1 := rfl
    have c81 : (81 : Int32).toInt = 81 := rfl
    rw [fX12_taken_61]
    refine vLe (fun h1 => ?_) (fun h2 => ?_)
    · have cF := xFu
      exact fX12_taken_85_s hG hrec53 _ _ _ _ (by omega) hI (by omega) (by omega)
    · refine vIn (by omega) (by omega) fun n3 => ?_
      refine vR fun m4 em4 => ?_
      have hm4 : IR R m4 := by rw [em4]; exact IR_f hI (by omega)
      refine vA (by omega) fun v5 ev5 fv5 => ?_
      exact ih _ _ _ (by omega) hm4 (by omega) (by omega)
theorem fX12_taken_53_s {R : xMem} {a1 : Int32} {a2 : Int32} (hG : GR R) : ∀ (fuel : Nat), ∀ (l3 : Int32) (m : xMem), ((2 ≤ a1.toInt ∧ a1.toInt ≤ 40) ∧ (1 ≤ l3.toInt ∧ l3.toInt ≤ 41)) → IR R m → 2147483648 - l3.toInt < (fuel : Int) → vOk (PM (IR R) (fun x : Int32 => (x.toInt = -1 ∨ ((2 ≤ a1.toInt ∧ a1.toInt ≤ 40))))) (fX12_taken_53 291 a1 a2 fuel l3 m) := by
  intro fuel
  induction fuel with
  | zero =>
    intro l3 m hp hI hmu
    have ta1 := tiB a1
    have ta2 := tiB a2
    have tl3 := tiB l3
    exfalso; omega
  | succ fuel ih =>
    intro l3 m hp hI hmu
    have ta1 := tiB a1
    have ta2 := tiB a2
    have tl3 := tiB l3
    have c0 : (0 : Int32).toInt = 0 := rfl
    have c1550 : (1550 : Int32).toInt = 1550 := rfl
    rw [fX12_taken_53]
    refine vLt (fun h1 => ?_) (fun h2 => ?_)
    · refine vIn (by omega) (by omega) fun n3 => ?_
      refine vR fun v4 ev4 => ?_
      have fv4 : bw (0) 80 v4 := by rw [ev4]; exact rdo hG hI (by omega)
      refine vIn (by omega) (by omega) fun n5 => ?_
      refine vR fun v6 ev6 => ?_
      have fv6 := tiB v6
      refine rM hI ?_
      first | exact True.intro | omega
    · have cF := xFu
      exact fX12_taken_61_s hG ih _ _ _ _ (by omega) hI (by omega) (by omega)
theorem fX12_taken_24_s {R : xMem} {a1 : Int32} {a2 : Int32} (hG : GR R) : ∀ (fuel : Nat), ∀ (l3 : Int32) (m : xMem), ((2 ≤ a1.toInt ∧ a1.toInt ≤ 40) ∧ (0 ≤ l3.toInt ∧ l3.toInt ≤ 81)) → IR R m → 2147483648 - l3.toInt < (fuel : Int) → vOk (PM (IR R) (fun x : Int32 => (x.toInt = -1 ∨ ((2 ≤ a1.toInt ∧ a1.toInt ≤ 40))))) (fX12_taken_24 291 a1 a2 fuel l3 m) := by
  intro fuel
  induction fuel with
  | zero =>
    intro l3 m hp hI hmu
    have ta1 := tiB a1
    have ta2 := tiB a2
    have tl3 := tiB l3
    exfalso; omega
  | succ fuel ih =>
    intro l3 m hp hI hmu
    have ta1 := tiB a1
    have ta2 := tiB a2
    have tl3 := tiB l3
    have cm1 : (-1 : Int32).toInt = -1 := rfl
    have c0 : (0 : Int32).toInt = 0 := rfl
    have c1 : (1 : Int32).toInt = 1 := rfl
    have c81 : (81 : Int32).toInt = 81 := rfl
    rw [fX12_taken_24]
    refine vLe (fun h1 => ?_) (fun h2 => ?_)
    · have cF := xFu
      exact fX12_taken_53_s hG _ _ _ (by omega) hI (by omega)
    · refine vNe (fun h3 => ?_) (fun h4 => ?_)
      · unfold fX12_taken_44
        refine vIn (by omega) (by omega) fun n5 => ?_
        refine vR fun m6 em6 => ?_
        have hm6 : IR R m6 := by rw [em6]; exact IR_f hI (by omega)
        refine vA (by omega) fun v7 ev7 fv7 => ?_
        exact ih _ _ (by omega) hm6 (by omega)
      · unfold fX12_taken_44
        refine vIn (by omega) (by omega) fun n8 => ?_
        refine vR fun m9 em9 => ?_
        have hm9 : IR R m9 := by rw [em9]; exact IR_f hI (by omega)
        refine vA (by omega) fun v10 ev10 fv10 => ?_
        exact ih _ _ (by omega) hm9 (by omega)
theorem fX12_taken_s {R : xMem} {a1 : Int32} {a2 : Int32} {m : xMem} (hG : GR R) (hI : IR R m) : vOk (PM (IR R) (fun x : Int32 => (x.toInt = -1 ∨ ((2 ≤ a1.toInt ∧ a1.toInt ≤ 40))))) (fX12_taken 291 a1 a2 m) := by
  have ta1 := tiB a1
  have ta2 := tiB a2
  have cm1 : (-1 : Int32).toInt = -1 := rfl
  have c0 : (0 : Int32).toInt = 0 := rfl
  have c2 : (2 : Int32).toInt = 2 := rfl
  have c8 : (8 : Int32).toInt = 8 := rfl
  have c40 : (40 : Int32).toInt = 40 := rfl
  unfold fX12_taken
  unfold fX12_taken_0
  refine vBindP (fX12_in_s hG hI) fun v1 ev1 qv1 => ?_
  try dsimp only
  have fv1 := tiB v1
  refine vEq (fun h2 => ?_) (fun h3 => ?_)
  · unfold fX12_taken_20
    refine rM hI ?_
    first | exact True.intro | omega
  · have g4 := qv1.2.resolve_left (by omega)
    refine vIn (by omega) (by omega) fun n5 => ?_
    refine vR fun v6 ev6 => ?_
    have fv6 : bw (0) 60 v6 := by rw [ev6]; exact rdc8 hG hI (by omega)
    refine vNe (fun h7 => ?_) (fun h8 => ?_)
    · have cF := xFu
      exact fX12_taken_24_s hG _ _ _ (by omega) hI (by omega)
    · unfold fX12_taken_20
      refine rM hI ?_
      first | exact True.intro | omega
theorem fX12_about_s {R : xMem} {a1 : Int32} {m : xMem} (hG : GR R) (hI : IR R m) : vOk (PP m (fun x : Int32 => (x.toInt = -1 ∨ ((0 ≤ a1.toInt ∧ a1.toInt ≤ 9))))) (fX12_about 291 a1 m) := by
  have ta1 := tiB a1
  have cm1 : (-1 : Int32).toInt = -1 := rfl
  have c0 : (0 : Int32).toInt = 0 := rfl
  have c8 : (8 : Int32).toInt = 8 := rfl
  have c9 : (9 : Int32).toInt = 9 := rfl
  unfold fX12_about
  unfold fX12_about_0
  refine vBindP (fX12_in_s hG hI) fun v1 ev1 qv1 => ?_
  try dsimp only
  have fv1 := tiB v1
  refine vEq (fun h2 => ?_) (fun h3 => ?_)
  · refine vNe (fun h4 => ?_) (fun h5 => ?_)
    · unfold fX12_about_33
      refine rP ?_
      first | exact True.intro | omega
    · refine vR fun v6 ev6 => ?_
      have fv6 := tiB v6
      unfold fX12_about_33
      refine rP ?_
      first | exact True.intro | omega
  · have g7 := qv1.2.resolve_left (by omega)
    refine vIn (by omega) (by omega) fun n8 => ?_
    refine vR fun v9 ev9 => ?_
    have fv9 := tiB v9
    unfold fX12_about_33
    refine rP ?_
    first | exact True.intro | omega
