/-! SAFETY of the reference's methods, printed by wip/tools/vcref.py -/
theorem fX12_takes_9_s {R : xMem} {a1 : Int32} {a2 : Int32} (hG : GR R) : ∀ (fuel : Nat), ∀ (l3 : Int32) (l4 : Int32) (m : xMem), ((0 ≤ a1.toInt ∧ a1.toInt ≤ 9) ∧ (0 ≤ l3.toInt ∧ l3.toInt ≤ 5) ∧ (0 ≤ l4.toInt ∧ l4.toInt ≤ 2)) → IR R m → 2147483648 - l4.toInt < (fuel : Int) → vOk (IR R) (fX12_takes_9 291 a1 a2 fuel l3 l4 m) := by
  intro fuel
  induction fuel with
  | zero =>
    intro l3 l4 m hp hI hmu
    have ta1 := tiB a1
    have ta2 := tiB a2
    have tl3 := tiB l3
    have tl4 := tiB l4
    exfalso; omega
  | succ fuel ih =>
    intro l3 l4 m hp hI hmu
    have ta1 := tiB a1
    have ta2 := tiB a2
    have tl3 := tiB l3
    have tl4 := tiB l4
    have cm1 : (-1 : Int32).toInt = -1 := rfl
    have c0 : (0 : Int32).toInt = 0 := rfl
    have c1 : (1 : Int32).toInt = 1 := rfl
    have c2 : (2 : Int32).toInt = 2 := rfl
    have c8 : (8 : Int32).toInt = 8 := rfl
    have c10 : (10 : Int32).toInt = 10 := rfl
    have c12 : (12 : Int32).toInt = 12 := rfl
    have c50 : (50 : Int32).toInt = 50 := rfl
    rw [fX12_takes_9]
    refine vLe (fun h1 => ?_) (fun h2 => ?_)
    · exact vOk_some hI
    · refine vBindP (fX12_mostOf_s hG (by omega) hI) fun v3 ev3 qv3 => ?_
      try dsimp only
      have fv3 := tiB v3
      refine vBindP (fX12_linkOf_s hG (by omega) hI) fun v4 ev4 qv4 => ?_
      try dsimp only
      have fv4 := tiB v4
      refine vBindP (fX12_linkOf_c0 hG (by omega) hI) fun v5 ev5 qv5 => ?_
      try dsimp only
      have fv5 := tiB v5
      refine vNe (fun h6 => ?_) (fun h7 => ?_)
      · unfold fX12_takes_75
        unfold fX12_takes_76
        refine vNe (fun h8 => ?_) (fun h9 => ?_)
        · refine vBindP (fX12_sideFor_s hG (by omega) hI) fun v10 ev10 qv10 => ?_
          try dsimp only
          have fv10 := tiB v10
          unfold fX12_takes_95
          refine vNe (fun h11 => ?_) (fun h12 => ?_)
          · refine vBindP (fX12_placeOf_s hG (by omega) hI) fun v13 ev13 qv13 => ?_
            try dsimp only
            have fv13 := tiB v13
            refine vEq (fun h14 => ?_) (fun h15 => ?_)
            · unfold fX12_takes_131
              refine vIn (by omega) (by omega) fun n16 => ?_
              refine vR fun m17 em17 => ?_
              have hm17 : IR R m17 := by rw [em17]; exact IR_s hI (by omega) (by omega)
              refine vM (v := 12 * l3.toInt) (by rw [c12]) (by omega) fun v18 ev18 fv18 => ?_
              refine vA (by omega) fun v19 ev19 fv19 => ?_
              refine vM (v := 2 * v3.toInt) (by rw [c2]) (by omega) fun v20 ev20 fv20 => ?_
              refine vA (by omega) fun v21 ev21 fv21 => ?_
              refine vIn (by omega) (by omega) fun n22 => ?_
              refine vR fun v23 ev23 => ?_
              have fv23 := tiB v23
              refine vI fun v24 ev24 fv24 => ?_
              refine vIn (by omega) (by omega) fun n25 => ?_
              refine vR fun m26 em26 => ?_
              have hm26 : IR R m26 := by rw [em26]; exact IR_a hm17 (by omega)
              refine vI fun v27 ev27 fv27 => ?_
              refine vOk_bind (fX12_tells_s hG (by omega) hm26) fun m28 hm28 => ?_
              refine vA (by omega) fun v29 ev29 fv29 => ?_
              exact ih _ _ _ (by omega) hm28 (by omega)
            · exfalso; omega
          · exact vOk_some hI
        · unfold fX12_takes_95
          refine vNe (fun h30 => ?_) (fun h31 => ?_)
          · exfalso; omega
          · exact vOk_some hI
      · refine vBindP (fX12_linkOf_s hG (by omega) hI) fun v32 ev32 qv32 => ?_
        try dsimp only
        have fv32 := tiB v32
        refine vNe (fun h33 => ?_) (fun h34 => ?_)
        · unfold fX12_takes_75
          unfold fX12_takes_76
          refine vNe (fun h35 => ?_) (fun h36 => ?_)
          · refine vBindP (fX12_sideFor_s hG (by omega) hI) fun v37 ev37 qv37 => ?_
            try dsimp only
            have fv37 := tiB v37
            unfold fX12_takes_95
            refine vNe (fun h38 => ?_) (fun h39 => ?_)
            · refine vBindP (fX12_placeOf_s hG (by omega) hI) fun v40 ev40 qv40 => ?_
              try dsimp only
              have fv40 := tiB v40
              refine vEq (fun h41 => ?_) (fun h42 => ?_)
              · unfold fX12_takes_131
                refine vIn (by omega) (by omega) fun n43 => ?_
                refine vR fun m44 em44 => ?_
                have hm44 : IR R m44 := by rw [em44]; exact IR_s hI (by omega) (by omega)
                refine vM (v := 12 * l3.toInt) (by rw [c12]) (by omega) fun v45 ev45 fv45 => ?_
                refine vA (by omega) fun v46 ev46 fv46 => ?_
                refine vM (v := 2 * v3.toInt) (by rw [c2]) (by omega) fun v47 ev47 fv47 => ?_
                refine vA (by omega) fun v48 ev48 fv48 => ?_
                refine vIn (by omega) (by omega) fun n49 => ?_
                refine vR fun v50 ev50 => ?_
                have fv50 := tiB v50
                refine vI fun v51 ev51 fv51 => ?_
                refine vIn (by omega) (by omega) fun n52 => ?_
                refine vR fun m53 em53 => ?_
                have hm53 : IR R m53 := by rw [em53]; exact IR_a hm44 (by omega)
                refine vI fun v54 ev54 fv54 => ?_
                refine vOk_bind (fX12_tells_s hG (by omega) hm53) fun m55 hm55 => ?_
                refine vA (by omega) fun v56 ev56 fv56 => ?_
                exact ih _ _ _ (by omega) hm55 (by omega)
              · exfalso; omega
            · exact vOk_some hI
          · unfold fX12_takes_95
            refine vNe (fun h57 => ?_) (fun h58 => ?_)
            · exfalso; omega
            · exact vOk_some hI
        · refine vI fun v59 ev59 fv59 => ?_
          refine vI fun v60 ev60 fv60 => ?_
          refine vI fun v61 ev61 fv61 => ?_
          refine vI fun v62 ev62 fv62 => ?_
          refine vI fun v63 ev63 fv63 => ?_
          refine vLe (fun h64 => ?_) (fun h65 => ?_)
          · unfold fX12_takes_75
            unfold fX12_takes_76
            refine vNe (fun h66 => ?_) (fun h67 => ?_)
            · refine vBindP (fX12_sideFor_s hG (by omega) hI) fun v68 ev68 qv68 => ?_
              try dsimp only
              have fv68 := tiB v68
              unfold fX12_takes_95
              refine vNe (fun h69 => ?_) (fun h70 => ?_)
              · refine vBindP (fX12_placeOf_s hG (by omega) hI) fun v71 ev71 qv71 => ?_
                try dsimp only
                have fv71 := tiB v71
                refine vEq (fun h72 => ?_) (fun h73 => ?_)
                · unfold fX12_takes_131
                  refine vIn (by omega) (by omega) fun n74 => ?_
                  refine vR fun m75 em75 => ?_
                  have hm75 : IR R m75 := by rw [em75]; exact IR_s hI (by omega) (by omega)
                  refine vM (v := 12 * l3.toInt) (by rw [c12]) (by omega) fun v76 ev76 fv76 => ?_
                  refine vA (by omega) fun v77 ev77 fv77 => ?_
                  refine vM (v := 2 * v3.toInt) (by rw [c2]) (by omega) fun v78 ev78 fv78 => ?_
                  refine vA (by omega) fun v79 ev79 fv79 => ?_
                  refine vIn (by omega) (by omega) fun n80 => ?_
                  refine vR fun v81 ev81 => ?_
                  have fv81 := tiB v81
                  refine vI fun v82 ev82 fv82 => ?_
                  refine vIn (by omega) (by omega) fun n83 => ?_
                  refine vR fun m84 em84 => ?_
                  have hm84 : IR R m84 := by rw [em84]; exact IR_a hm75 (by omega)
                  refine vAl ev59 ?_
                  refine vOk_bind (fX12_tells_s hG (by omega) hm84) fun m85 hm85 => ?_
                  refine vA (by omega) fun v86 ev86 fv86 => ?_
                  exact ih _ _ _ (by omega) hm85 (by omega)
                · exfalso; omega
              · exact vOk_some hI
            · unfold fX12_takes_95
              refine vNe (fun h87 => ?_) (fun h88 => ?_)
              · exfalso; omega
              · exact vOk_some hI
          · unfold fX12_takes_76
            refine vNe (fun h89 => ?_) (fun h90 => ?_)
            · refine vBindP (fX12_sideFor_s hG (by omega) hI) fun v91 ev91 qv91 => ?_
              try dsimp only
              have fv91 := tiB v91
              unfold fX12_takes_95
              refine vNe (fun h92 => ?_) (fun h93 => ?_)
              · refine vBindP (fX12_placeOf_s hG (by omega) hI) fun v94 ev94 qv94 => ?_
                try dsimp only
                have fv94 := tiB v94
                refine vEq (fun h95 => ?_) (fun h96 => ?_)
                · exfalso; omega
                · refine vA (by omega) fun v97 ev97 fv97 => ?_
                  unfold fX12_takes_131
                  refine vIn (by omega) (by omega) fun n98 => ?_
                  refine vR fun m99 em99 => ?_
                  have hm99 : IR R m99 := by rw [em99]; exact IR_s hI (by omega) (by omega)
                  refine vM (v := 12 * l3.toInt) (by rw [c12]) (by omega) fun v100 ev100 fv100 => ?_
                  refine vA (by omega) fun v101 ev101 fv101 => ?_
                  refine vM (v := 2 * v3.toInt) (by rw [c2]) (by omega) fun v102 ev102 fv102 => ?_
                  refine vA (by omega) fun v103 ev103 fv103 => ?_
                  refine vIn (by omega) (by omega) fun n104 => ?_
                  refine vR fun v105 ev105 => ?_
                  have fv105 := tiB v105
                  refine vI fun v106 ev106 fv106 => ?_
                  refine vIn (by omega) (by omega) fun n107 => ?_
                  refine vR fun m108 em108 => ?_
                  have hm108 : IR R m108 := by rw [em108]; exact IR_a hm99 (by omega)
                  refine vAl ev59 ?_
                  refine vOk_bind (fX12_tells_s hG (by omega) hm108) fun m109 hm109 => ?_
                  refine vA (by omega) fun v110 ev110 fv110 => ?_
                  exact ih _ _ _ (by omega) hm109 (by omega)
              · exact vOk_some hI
            · unfold fX12_takes_95
              refine vNe (fun h111 => ?_) (fun h112 => ?_)
              · exfalso; omega
              · exact vOk_some hI
theorem fX12_takes_s {R : xMem} {a1 : Int32} {a2 : Int32} {m : xMem} (hG : GR R) (hp : (0 ≤ a1.toInt ∧ a1.toInt ≤ 9)) (hI : IR R m) : vOk (IR R) (fX12_takes 291 a1 a2 m) := by
  have ta1 := tiB a1
  have ta2 := tiB a2
  have c0 : (0 : Int32).toInt = 0 := rfl
  unfold fX12_takes
  unfold fX12_takes_0
  refine vBindP (fX12_footOf_s hG (by omega) hI) fun v1 ev1 qv1 => ?_
  try dsimp only
  have fv1 := tiB v1
  have cF := xFu
  exact fX12_takes_9_s hG _ _ _ _ (by omega) hI (by omega)
theorem fX12_stairs_41_s {R : xMem} {a1 : Int32} {a2 : Int32} (hG : GR R) : ∀ (fuel : Nat), ∀ (l3 : Int32) (l4 : Int32) (m : xMem), ((0 ≤ a1.toInt ∧ a1.toInt ≤ 9) ∧ (0 ≤ l4.toInt ∧ l4.toInt ≤ 2)) → IR R m → 2147483648 - l4.toInt < (fuel : Int) → vOk (IR R) (fX12_stairs_41 291 a1 a2 fuel l3 l4 m) := by
  intro fuel
  induction fuel with
  | zero =>
    intro l3 l4 m hp hI hmu
    have ta1 := tiB a1
    have ta2 := tiB a2
    have tl3 := tiB l3
    have tl4 := tiB l4
    exfalso; omega
  | succ fuel ih =>
    intro l3 l4 m hp hI hmu
    have ta1 := tiB a1
    have ta2 := tiB a2
    have tl3 := tiB l3
    have tl4 := tiB l4
    have c0 : (0 : Int32).toInt = 0 := rfl
    have c1 : (1 : Int32).toInt = 1 := rfl
    have c2 : (2 : Int32).toInt = 2 := rfl
    have c5 : (5 : Int32).toInt = 5 := rfl
    have c7 : (7 : Int32).toInt = 7 := rfl
    rw [fX12_stairs_41]
    refine vLe (fun h1 => ?_) (fun h2 => ?_)
    · unfold fX12_stairs_66
      unfold fX12_stairs_93
      refine vBindP (fX12_linkOf_s hG (by omega) hI) fun v3 ev3 qv3 => ?_
      try dsimp only
      have fv3 := tiB v3
      refine vBindP (fX12_linkOf_s hG (by omega) hI) fun v4 ev4 qv4 => ?_
      try dsimp only
      have fv4 := tiB v4
      refine vNe (fun h5 => ?_) (fun h6 => ?_)
      · unfold fX12_stairs_115
        exact vOk_some hI
      · refine vOk_bind (fX12_takes_s hG (by omega) hI) fun m7 hm7 => ?_
        unfold fX12_stairs_115
        exact vOk_some hm7
    · refine vI fun v8 ev8 fv8 => ?_
      refine vNe (fun h9 => ?_) (fun h10 => ?_)
      · unfold fX12_stairs_66
        unfold fX12_stairs_93
        refine vBindP (fX12_linkOf_s hG (by omega) hI) fun v11 ev11 qv11 => ?_
        try dsimp only
        have fv11 := tiB v11
        refine vBindP (fX12_linkOf_s hG (by omega) hI) fun v12 ev12 qv12 => ?_
        try dsimp only
        have fv12 := tiB v12
        refine vNe (fun h13 => ?_) (fun h14 => ?_)
        · unfold fX12_stairs_115
          exact vOk_some hI
        · refine vOk_bind (fX12_takes_s hG (by omega) hI) fun m15 hm15 => ?_
          unfold fX12_stairs_115
          exact vOk_some hm15
      · refine vOk_bind (fX12_climbs_s hG (by omega) hI) fun m16 hm16 => ?_
        refine vA (by omega) fun v17 ev17 fv17 => ?_
        exact ih _ _ _ (by omega) hm16 (by omega)
theorem fX12_stairs_s {R : xMem} {a1 : Int32} {a2 : Int32} {m : xMem} (hG : GR R) (hp : (0 ≤ a1.toInt ∧ a1.toInt ≤ 9)) (hI : IR R m) : vOk (IR R) (fX12_stairs 291 a1 a2 m) := by
  have ta1 := tiB a1
  have ta2 := tiB a2
  have c0 : (0 : Int32).toInt = 0 := rfl
  have c1 : (1 : Int32).toInt = 1 := rfl
  have c5 : (5 : Int32).toInt = 5 := rfl
  have c6 : (6 : Int32).toInt = 6 := rfl
  have c7 : (7 : Int32).toInt = 7 := rfl
  have c9 : (9 : Int32).toInt = 9 := rfl
  unfold fX12_stairs
  unfold fX12_stairs_0
  refine vBindP (fX12_linkOf_s hG (by omega) hI) fun v1 ev1 qv1 => ?_
  try dsimp only
  have fv1 := tiB v1
  refine vEq (fun h2 => ?_) (fun h3 => ?_)
  · unfold fX12_stairs_21
    exact vOk_some hI
  · refine vBindP (fX12_linkOf_s hG (by omega) hI) fun v4 ev4 qv4 => ?_
    try dsimp only
    have fv4 := tiB v4
    refine vNe (fun h5 => ?_) (fun h6 => ?_)
    · refine vBindM (fX12_walkOf_s hG (by omega) hI) fun v7 m8 hm8 qv7 => ?_
      try dsimp only
      have fv7 := tiB v7
      refine vBindP (fX12_linkOf_c0 hG (by omega) hm8) fun v9 ev9 qv9 => ?_
      try dsimp only
      have fv9 := tiB v9
      refine vNe (fun h10 => ?_) (fun h11 => ?_)
      · refine vBindM (fX12_moves_s hG (by omega) hm8) fun v12 m13 hm13 qv12 => ?_
        try dsimp only
        have fv12 := tiB v12
        refine vEq (fun h14 => ?_) (fun h15 => ?_)
        · unfold fX12_stairs_87
          refine vOk_bind (fX12_trips_s hG (by omega) hm13) fun m16 hm16 => ?_
          exact vOk_some hm16
        · refine vBindM (fX12_moves_s hG (by omega) hm13) fun v17 m18 hm18 qv17 => ?_
          try dsimp only
          have fv17 := tiB v17
          refine vNe (fun h19 => ?_) (fun h20 => ?_)
          · unfold fX12_stairs_93
            refine vBindP (fX12_linkOf_s hG (by omega) hm18) fun v21 ev21 qv21 => ?_
            try dsimp only
            have fv21 := tiB v21
            refine vBindP (fX12_linkOf_s hG (by omega) hm18) fun v22 ev22 qv22 => ?_
            try dsimp only
            have fv22 := tiB v22
            refine vNe (fun h23 => ?_) (fun h24 => ?_)
            · unfold fX12_stairs_115
              exact vOk_some hm18
            · refine vOk_bind (fX12_takes_s hG (by omega) hm18) fun m25 hm25 => ?_
              unfold fX12_stairs_115
              exact vOk_some hm25
          · unfold fX12_stairs_87
            refine vOk_bind (fX12_trips_s hG (by omega) hm18) fun m26 hm26 => ?_
            exact vOk_some hm26
      · have cF := xFu
        exact fX12_stairs_41_s hG _ _ _ _ (by omega) hm8 (by omega)
    · unfold fX12_stairs_21
      exact vOk_some hI
theorem fX12_lifts_3_s {R : xMem} {a1 : Int32} {a2 : Int32} {a3 : Int32} (hG : GR R) : ∀ (fuel : Nat), ∀ (l4 : Int32) (m : xMem), ((0 ≤ a1.toInt ∧ a1.toInt ≤ 9) ∧ (0 ≤ a2.toInt ∧ a2.toInt ≤ 5) ∧ (0 ≤ a3.toInt ∧ a3.toInt ≤ 5) ∧ (0 ≤ l4.toInt ∧ l4.toInt ≤ 40)) → IR R m → 2147483648 - l4.toInt < (fuel : Int) → vOk (IR R) (fX12_lifts_3 291 a1 a2 a3 fuel l4 m) := by
  intro fuel
  induction fuel with
  | zero =>
    intro l4 m hp hI hmu
    have ta1 := tiB a1
    have ta2 := tiB a2
    have ta3 := tiB a3
    have tl4 := tiB l4
    exfalso; omega
  | succ fuel ih =>
    intro l4 m hp hI hmu
    have ta1 := tiB a1
    have ta2 := tiB a2
    have ta3 := tiB a3
    have tl4 := tiB l4
    have cm1 : (-1 : Int32).toInt = -1 := rfl
    have c0 : (0 : Int32).toInt = 0 := rfl
    have c1 : (1 : Int32).toInt = 1 := rfl
    have c2 : (2 : Int32).toInt = 2 := rfl
    have c3 : (3 : Int32).toInt = 3 := rfl
    have c10 : (10 : Int32).toInt = 10 := rfl
    have c11 : (11 : Int32).toInt = 11 := rfl
    have c12 : (12 : Int32).toInt = 12 := rfl
    have c50 : (50 : Int32).toInt = 50 := rfl
    rw [fX12_lifts_3]
    refine vBindP (fX12_linkOf_c3 hG (by omega) hI) fun v1 ev1 qv1 => ?_
    try dsimp only
    have fv1 := tiB v1
    refine vLe (fun h2 => ?_) (fun h3 => ?_)
    · exact vOk_some hI
    · refine vBindP (fX12_mostOf_s hG (by omega) hI) fun v4 ev4 qv4 => ?_
      try dsimp only
      have fv4 := tiB v4
      refine vEq (fun h5 => ?_) (fun h6 => ?_)
      · unfold fX12_lifts_49
        exact vOk_some hI
      · refine vEq (fun h7 => ?_) (fun h8 => ?_)
        · unfold fX12_lifts_50
          refine vM (v := 12 * a2.toInt) (by rw [c12]) (by omega) fun v9 ev9 fv9 => ?_
          refine vA (by omega) fun v10 ev10 fv10 => ?_
          refine vM (v := 2 * v4.toInt) (by rw [c2]) (by omega) fun v11 ev11 fv11 => ?_
          refine vA (by omega) fun v12 ev12 fv12 => ?_
          refine vA (by omega) fun v13 ev13 fv13 => ?_
          refine vIn (by omega) (by omega) fun n14 => ?_
          refine vR fun v15 ev15 => ?_
          have fv15 := tiB v15
          refine vI fun v16 ev16 fv16 => ?_
          refine vIn (by omega) (by omega) fun n17 => ?_
          refine vR fun m18 em18 => ?_
          have hm18 : IR R m18 := by rw [em18]; exact IR_a hI (by omega)
          refine vOk_bind (fX12_comes_s hG (by omega) hm18) fun m19 hm19 => ?_
          refine vBindP (fX12_linkOf_s hG (by omega) hm19) fun v20 ev20 qv20 => ?_
          try dsimp only
          have fv20 := tiB v20
          refine vI fun v21 ev21 fv21 => ?_
          refine vOk_bind (fX12_tells_s hG (by omega) hm19) fun m22 hm22 => ?_
          refine vBindP (fX12_linkOf_s hG (by omega) hm22) fun v23 ev23 qv23 => ?_
          try dsimp only
          have fv23 := tiB v23
          refine vI fun v24 ev24 fv24 => ?_
          refine vOk_bind (fX12_tells_s hG (by omega) hm22) fun m25 hm25 => ?_
          refine vA (by omega) fun v26 ev26 fv26 => ?_
          exact ih _ _ (by omega) hm25 (by omega)
        · refine vBindP (fX12_inHall_s hG (by omega) hI) fun v27 ev27 qv27 => ?_
          try dsimp only
          have fv27 := tiB v27
          refine vBindP (fX12_hallOf_s hG (by omega) hI) fun v28 ev28 qv28 => ?_
          try dsimp only
          have fv28 := tiB v28
          refine vLt (fun h29 => ?_) (fun h30 => ?_)
          · unfold fX12_lifts_50
            refine vM (v := 12 * a2.toInt) (by rw [c12]) (by omega) fun v31 ev31 fv31 => ?_
            refine vA (by omega) fun v32 ev32 fv32 => ?_
            refine vM (v := 2 * v4.toInt) (by rw [c2]) (by omega) fun v33 ev33 fv33 => ?_
            refine vA (by omega) fun v34 ev34 fv34 => ?_
            refine vA (by omega) fun v35 ev35 fv35 => ?_
            refine vIn (by omega) (by omega) fun n36 => ?_
            refine vR fun v37 ev37 => ?_
            have fv37 := tiB v37
            refine vI fun v38 ev38 fv38 => ?_
            refine vIn (by omega) (by omega) fun n39 => ?_
            refine vR fun m40 em40 => ?_
            have hm40 : IR R m40 := by rw [em40]; exact IR_a hI (by omega)
            refine vOk_bind (fX12_comes_s hG (by omega) hm40) fun m41 hm41 => ?_
            refine vBindP (fX12_linkOf_s hG (by omega) hm41) fun v42 ev42 qv42 => ?_
            try dsimp only
            have fv42 := tiB v42
            refine vI fun v43 ev43 fv43 => ?_
            refine vOk_bind (fX12_tells_s hG (by omega) hm41) fun m44 hm44 => ?_
            refine vBindP (fX12_linkOf_s hG (by omega) hm44) fun v45 ev45 qv45 => ?_
            try dsimp only
            have fv45 := tiB v45
            refine vI fun v46 ev46 fv46 => ?_
            refine vOk_bind (fX12_tells_s hG (by omega) hm44) fun m47 hm47 => ?_
            refine vA (by omega) fun v48 ev48 fv48 => ?_
            exact ih _ _ (by omega) hm47 (by omega)
          · unfold fX12_lifts_49
            exact vOk_some hI
theorem fX12_lifts_s {R : xMem} {a1 : Int32} {a2 : Int32} {a3 : Int32} {m : xMem} (hG : GR R) (hp : (0 ≤ a1.toInt ∧ a1.toInt ≤ 9) ∧ (0 ≤ a2.toInt ∧ a2.toInt ≤ 5) ∧ (0 ≤ a3.toInt ∧ a3.toInt ≤ 5)) (hI : IR R m) : vOk (IR R) (fX12_lifts 291 a1 a2 a3 m) := by
  have ta1 := tiB a1
  have ta2 := tiB a2
  have ta3 := tiB a3
  have c0 : (0 : Int32).toInt = 0 := rfl
  unfold fX12_lifts
  unfold fX12_lifts_0
  have cF := xFu
  exact fX12_lifts_3_s hG _ _ _ (by omega) hI (by omega)
theorem fX12_second_172_s {R : xMem} (hG : GR R) : ∀ (fuel : Nat), ∀ (l1 : Int32) (l2 : Int32) (m : xMem), ((0 ≤ l2.toInt ∧ l2.toInt ≤ 6)) → IR R m → 2147483648 - l2.toInt < (fuel : Int) → vOk (IR2 R) (fX12_second_172 291 fuel l1 l2 m) := by
  intro fuel
  induction fuel with
  | zero =>
    intro l1 l2 m hp hI hmu
    have tl1 := tiB l1
    have tl2 := tiB l2
    exfalso; omega
  | succ fuel ih =>
    intro l1 l2 m hp hI hmu
    have tl1 := tiB l1
    have tl2 := tiB l2
    have cm1 : (-1 : Int32).toInt = -1 := rfl
    have c0 : (0 : Int32).toInt = 0 := rfl
    have c1 : (1 : Int32).toInt = 1 := rfl
    have c2 : (2 : Int32).toInt = 2 := rfl
    have c3 : (3 : Int32).toInt = 3 := rfl
    have c4 : (4 : Int32).toInt = 4 := rfl
    have c10 : (10 : Int32).toInt = 10 := rfl
    have c20 : (20 : Int32).toInt = 20 := rfl
    have c130 : (130 : Int32).toInt = 130 := rfl
    have c1000000000 : (1000000000 : Int32).toInt = 1000000000 := rfl
    rw [fX12_second_172]
    refine vIn (by omega) (by omega) fun n1 => ?_
    refine vR fun v2 ev2 => ?_
    have fv2 : bw (0) 6 v2 := by rw [ev2]; exact rdc1 hG hI (by omega)
    refine vLe (fun h3 => ?_) (fun h4 => ?_)
    · refine vIn (by omega) (by omega) fun n5 => ?_
      refine vR fun v6 ev6 => ?_
      have fv6 := tiB v6
      refine vI fun v7 ev7 fv7 => ?_
      refine vIn (by omega) (by omega) fun n8 => ?_
      refine vR fun m9 em9 => ?_
      have hm9 : IR2 R m9 := by rw [em9]; exact IR_0 hI ev6 ev7
      exact vOk_some hm9
    · refine vIn (by omega) (by omega) fun n10 => ?_
      refine vR fun v11 ev11 => ?_
      have fv11 := tiB v11
      refine vBindP (fX12_inHall_s hG (by omega) hI) fun v12 ev12 qv12 => ?_
      try dsimp only
      have fv12 := tiB v12
      refine vI fun v13 ev13 fv13 => ?_
      refine vBindP (fX12_countOf_s hG (by omega) hI) fun v14 ev14 qv14 => ?_
      try dsimp only
      have fv14 := tiB v14
      refine vI fun v15 ev15 fv15 => ?_
      refine vLe (fun h16 => ?_) (fun h17 => ?_)
      · unfold fX12_second_225
        refine vIn (by omega) (by omega) fun n18 => ?_
        refine vR fun m19 em19 => ?_
        have hm19 : IR R m19 := by rw [em19]; exact IR_a hI (by omega)
        refine vM (v := 4 * l2.toInt) (by rw [c4]) (by omega) fun v20 ev20 fv20 => ?_
        refine vA (by omega) fun v21 ev21 fv21 => ?_
        refine vA (by omega) fun v22 ev22 fv22 => ?_
        refine vIn (by omega) (by omega) fun n23 => ?_
        refine vR fun v24 ev24 => ?_
        have fv24 := tiB v24
        refine vIn (by omega) (by omega) fun n25 => ?_
        refine vR fun v26 ev26 => ?_
        have fv26 : bw (0) 1 v26 := by rw [ev26]; exact rdh hm19
        refine vEq (fun h27 => ?_) (fun h28 => ?_)
        · unfold fX12_second_254
          refine vA (by omega) fun v29 ev29 fv29 => ?_
          refine vIn (by omega) (by omega) fun n30 => ?_
          refine vR fun m31 em31 => ?_
          have hm31 : IR R m31 := by rw [em31]; exact IR_a hm19 (by omega)
          refine vBindP (fX12_isOver_s hG (by omega) hm31) fun v32 ev32 qv32 => ?_
          try dsimp only
          have fv32 := tiB v32
          refine vEq (fun h33 => ?_) (fun h34 => ?_)
          · unfold fX12_second_288
            refine vA (by omega) fun v35 ev35 fv35 => ?_
            exact ih _ _ _ (by omega) hm31 (by omega)
          · refine vBindP (fX12_hallOf_s hG (by omega) hm31) fun v36 ev36 qv36 => ?_
            try dsimp only
            have fv36 := tiB v36
            refine vNe (fun h37 => ?_) (fun h38 => ?_)
            · unfold fX12_second_288
              refine vA (by omega) fun v39 ev39 fv39 => ?_
              exact ih _ _ _ (by omega) hm31 (by omega)
            · refine vAl ev20 ?_
              refine vAl ev21 ?_
              refine vA (by omega) fun v40 ev40 fv40 => ?_
              refine vIn (by omega) (by omega) fun n41 => ?_
              refine vR fun m42 em42 => ?_
              have hm42 : IR R m42 := by rw [em42]; exact IR_a hm31 (by omega)
              unfold fX12_second_288
              refine vA (by omega) fun v43 ev43 fv43 => ?_
              exact ih _ _ _ (by omega) hm42 (by omega)
        · unfold fX12_second_254
          refine vI fun v44 ev44 fv44 => ?_
          refine vIn (by omega) (by omega) fun n45 => ?_
          refine vR fun m46 em46 => ?_
          have hm46 : IR R m46 := by rw [em46]; exact IR_a hm19 (by omega)
          refine vBindP (fX12_isOver_s hG (by omega) hm46) fun v47 ev47 qv47 => ?_
          try dsimp only
          have fv47 := tiB v47
          refine vEq (fun h48 => ?_) (fun h49 => ?_)
          · unfold fX12_second_288
            refine vA (by omega) fun v50 ev50 fv50 => ?_
            exact ih _ _ _ (by omega) hm46 (by omega)
          · refine vBindP (fX12_hallOf_s hG (by omega) hm46) fun v51 ev51 qv51 => ?_
            try dsimp only
            have fv51 := tiB v51
            refine vNe (fun h52 => ?_) (fun h53 => ?_)
            · unfold fX12_second_288
              refine vA (by omega) fun v54 ev54 fv54 => ?_
              exact ih _ _ _ (by omega) hm46 (by omega)
            · refine vAl ev20 ?_
              refine vAl ev21 ?_
              refine vA (by omega) fun v55 ev55 fv55 => ?_
              refine vIn (by omega) (by omega) fun n56 => ?_
              refine vR fun m57 em57 => ?_
              have hm57 : IR R m57 := by rw [em57]; exact IR_a hm46 (by omega)
              unfold fX12_second_288
              refine vA (by omega) fun v58 ev58 fv58 => ?_
              exact ih _ _ _ (by omega) hm57 (by omega)
      · unfold fX12_second_225
        refine vIn (by omega) (by omega) fun n59 => ?_
        refine vR fun m60 em60 => ?_
        have hm60 : IR R m60 := by rw [em60]; exact IR_a hI (by omega)
        refine vM (v := 4 * l2.toInt) (by rw [c4]) (by omega) fun v61 ev61 fv61 => ?_
        refine vA (by omega) fun v62 ev62 fv62 => ?_
        refine vA (by omega) fun v63 ev63 fv63 => ?_
        refine vIn (by omega) (by omega) fun n64 => ?_
        refine vR fun v65 ev65 => ?_
        have fv65 := tiB v65
        refine vIn (by omega) (by omega) fun n66 => ?_
        refine vR fun v67 ev67 => ?_
        have fv67 : bw (0) 1 v67 := by rw [ev67]; exact rdh hm60
        refine vEq (fun h68 => ?_) (fun h69 => ?_)
        · unfold fX12_second_254
          refine vA (by omega) fun v70 ev70 fv70 => ?_
          refine vIn (by omega) (by omega) fun n71 => ?_
          refine vR fun m72 em72 => ?_
          have hm72 : IR R m72 := by rw [em72]; exact IR_a hm60 (by omega)
          refine vBindP (fX12_isOver_s hG (by omega) hm72) fun v73 ev73 qv73 => ?_
          try dsimp only
          have fv73 := tiB v73
          refine vEq (fun h74 => ?_) (fun h75 => ?_)
          · unfold fX12_second_288
            refine vA (by omega) fun v76 ev76 fv76 => ?_
            exact ih _ _ _ (by omega) hm72 (by omega)
          · refine vBindP (fX12_hallOf_s hG (by omega) hm72) fun v77 ev77 qv77 => ?_
            try dsimp only
            have fv77 := tiB v77
            refine vNe (fun h78 => ?_) (fun h79 => ?_)
            · unfold fX12_second_288
              refine vA (by omega) fun v80 ev80 fv80 => ?_
              exact ih _ _ _ (by omega) hm72 (by omega)
            · refine vAl ev61 ?_
              refine vAl ev62 ?_
              refine vA (by omega) fun v81 ev81 fv81 => ?_
              refine vIn (by omega) (by omega) fun n82 => ?_
              refine vR fun m83 em83 => ?_
              have hm83 : IR R m83 := by rw [em83]; exact IR_a hm72 (by omega)
              unfold fX12_second_288
              refine vA (by omega) fun v84 ev84 fv84 => ?_
              exact ih _ _ _ (by omega) hm83 (by omega)
        · unfold fX12_second_254
          refine vI fun v85 ev85 fv85 => ?_
          refine vIn (by omega) (by omega) fun n86 => ?_
          refine vR fun m87 em87 => ?_
          have hm87 : IR R m87 := by rw [em87]; exact IR_a hm60 (by omega)
          refine vBindP (fX12_isOver_s hG (by omega) hm87) fun v88 ev88 qv88 => ?_
          try dsimp only
          have fv88 := tiB v88
          refine vEq (fun h89 => ?_) (fun h90 => ?_)
          · unfold fX12_second_288
            refine vA (by omega) fun v91 ev91 fv91 => ?_
            exact ih _ _ _ (by omega) hm87 (by omega)
          · refine vBindP (fX12_hallOf_s hG (by omega) hm87) fun v92 ev92 qv92 => ?_
            try dsimp only
            have fv92 := tiB v92
            refine vNe (fun h93 => ?_) (fun h94 => ?_)
            · unfold fX12_second_288
              refine vA (by omega) fun v95 ev95 fv95 => ?_
              exact ih _ _ _ (by omega) hm87 (by omega)
            · refine vAl ev61 ?_
              refine vAl ev62 ?_
              refine vA (by omega) fun v96 ev96 fv96 => ?_
              refine vIn (by omega) (by omega) fun n97 => ?_
              refine vR fun m98 em98 => ?_
              have hm98 : IR R m98 := by rw [em98]; exact IR_a hm87 (by omega)
              unfold fX12_second_288
              refine vA (by omega) fun v99 ev99 fv99 => ?_
              exact ih _ _ _ (by omega) hm98 (by omega)
theorem fX12_second_90_s {R : xMem} (hG : GR R) : ∀ (fuel : Nat), ∀ (l1 : Int32) (l2 : Int32) (m : xMem), ((0 ≤ l2.toInt ∧ l2.toInt ≤ 10)) → IR R m → 2147483648 - l2.toInt < (fuel : Int) → vOk (IR2 R) (fX12_second_90 291 fuel l1 l2 m) := by
  intro fuel
  induction fuel with
  | zero =>
    intro l1 l2 m hp hI hmu
    have tl1 := tiB l1
    have tl2 := tiB l2
    exfalso; omega
  | succ fuel ih =>
    intro l1 l2 m hp hI hmu
    have tl1 := tiB l1
    have tl2 := tiB l2
    have c0 : (0 : Int32).toInt = 0 := rfl
    have c1 : (1 : Int32).toInt = 1 := rfl
    have c2 : (2 : Int32).toInt = 2 := rfl
    have c4 : (4 : Int32).toInt = 4 := rfl
    rw [fX12_second_90]
    refine vIn (by omega) (by omega) fun n1 => ?_
    refine vR fun v2 ev2 => ?_
    have fv2 : bw (0) 10 v2 := by rw [ev2]; exact rdc2 hG hI (by omega)
    refine vLe (fun h3 => ?_) (fun h4 => ?_)
    · have cF := xFu
      exact fX12_second_172_s hG _ _ _ _ (by omega) hI (by omega)
    · refine vBindP (fX12_linkOf_c0 hG (by omega) hI) fun v5 ev5 qv5 => ?_
      try dsimp only
      have fv5 := tiB v5
      refine vLe (fun h6 => ?_) (fun h7 => ?_)
      · refine vBindP (fX12_linkOf_c4 hG (by omega) hI) fun v8 ev8 qv8 => ?_
        try dsimp only
        have fv8 := tiB v8
        refine vNz (cyc_nz hG hI ev2 qv5.2 qv8.2 (by omega) (by omega) (by omega)) ?_
        refine vI fun v9 ev9 fv9 => ?_
        refine vNe (fun h10 => ?_) (fun h11 => ?_)
        · unfold fX12_second_164
          refine vA (by omega) fun v12 ev12 fv12 => ?_
          exact ih _ _ _ (by omega) hI (by omega)
        · refine vBindP (fX12_linkOf_c1 hG (by omega) hI) fun v13 ev13 qv13 => ?_
          try dsimp only
          have fv13 := tiB v13
          refine vBindP (fX12_linkOf_c2 hG (by omega) hI) fun v14 ev14 qv14 => ?_
          try dsimp only
          have fv14 := tiB v14
          refine vOk_bind (fX12_lifts_s hG (by omega) hI) fun m15 hm15 => ?_
          refine vBindP (fX12_linkOf_c2 hG (by omega) hm15) fun v16 ev16 qv16 => ?_
          try dsimp only
          have fv16 := tiB v16
          refine vBindP (fX12_linkOf_c1 hG (by omega) hm15) fun v17 ev17 qv17 => ?_
          try dsimp only
          have fv17 := tiB v17
          refine vOk_bind (fX12_lifts_s hG (by omega) hm15) fun m18 hm18 => ?_
          unfold fX12_second_164
          refine vA (by omega) fun v19 ev19 fv19 => ?_
          exact ih _ _ _ (by omega) hm18 (by omega)
      · refine vOk_bind (fX12_stairs_s hG (by omega) hI) fun m20 hm20 => ?_
        unfold fX12_second_164
        refine vA (by omega) fun v21 ev21 fv21 => ?_
        exact ih _ _ _ (by omega) hm20 (by omega)
theorem fX12_second_37_s {R : xMem} (hG : GR R) : ∀ (fuel : Nat), ∀ (l1 : Int32) (l2 : Int32) (m : xMem), ((0 ≤ l2.toInt ∧ l2.toInt ≤ 10)) → IR R m → 2147483648 - l2.toInt < (fuel : Int) → vOk (IR2 R) (fX12_second_37 291 fuel l1 l2 m) := by
  intro fuel
  induction fuel with
  | zero =>
    intro l1 l2 m hp hI hmu
    have tl1 := tiB l1
    have tl2 := tiB l2
    exfalso; omega
  | succ fuel ih =>
    intro l1 l2 m hp hI hmu
    have tl1 := tiB l1
    have tl2 := tiB l2
    have c0 : (0 : Int32).toInt = 0 := rfl
    have c1 : (1 : Int32).toInt = 1 := rfl
    have c2 : (2 : Int32).toInt = 2 := rfl
    have c5 : (5 : Int32).toInt = 5 := rfl
    have c7 : (7 : Int32).toInt = 7 := rfl
    rw [fX12_second_37]
    refine vIn (by omega) (by omega) fun n1 => ?_
    refine vR fun v2 ev2 => ?_
    have fv2 : bw (0) 10 v2 := by rw [ev2]; exact rdc2 hG hI (by omega)
    refine vLe (fun h3 => ?_) (fun h4 => ?_)
    · refine vOk_bind (fX12_allRoutes_s hG hI) fun m5 hm5 => ?_
      have cF := xFu
      exact fX12_second_90_s hG _ _ _ _ (by omega) hm5 (by omega)
    · refine vBindP (fX12_linkOf_c0 hG (by omega) hI) fun v6 ev6 qv6 => ?_
      try dsimp only
      have fv6 := tiB v6
      refine vLe (fun h7 => ?_) (fun h8 => ?_)
      · unfold fX12_second_78
        refine vA (by omega) fun v9 ev9 fv9 => ?_
        exact ih _ _ _ (by omega) hI (by omega)
      · refine vBindP (fX12_loadOf_s hG (by omega) hI) fun v10 ev10 qv10 => ?_
        try dsimp only
        have fv10 := tiB v10
        refine vNe (fun h11 => ?_) (fun h12 => ?_)
        · unfold fX12_second_78
          refine vA (by omega) fun v13 ev13 fv13 => ?_
          exact ih _ _ _ (by omega) hI (by omega)
        · refine vBindP (fX12_linkOf_s hG (by omega) hI) fun v14 ev14 qv14 => ?_
          try dsimp only
          have fv14 := tiB v14
          refine vOk_bind (fX12_tells_s hG (by omega) hI) fun m15 hm15 => ?_
          unfold fX12_second_78
          refine vA (by omega) fun v16 ev16 fv16 => ?_
          exact ih _ _ _ (by omega) hm15 (by omega)
theorem fX12_second_14_s {R : xMem} (hG : GR R) : ∀ (fuel : Nat), ∀ (l1 : Int32) (l2 : Int32) (m : xMem), ((0 ≤ l2.toInt ∧ l2.toInt ≤ 6)) → IR R m → 2147483648 - l2.toInt < (fuel : Int) → vOk (IR2 R) (fX12_second_14 291 fuel l1 l2 m) := by
  intro fuel
  induction fuel with
  | zero =>
    intro l1 l2 m hp hI hmu
    have tl1 := tiB l1
    have tl2 := tiB l2
    exfalso; omega
  | succ fuel ih =>
    intro l1 l2 m hp hI hmu
    have tl1 := tiB l1
    have tl2 := tiB l2
    have c0 : (0 : Int32).toInt = 0 := rfl
    have c1 : (1 : Int32).toInt = 1 := rfl
    rw [fX12_second_14]
    refine vIn (by omega) (by omega) fun n1 => ?_
    refine vR fun v2 ev2 => ?_
    have fv2 : bw (0) 6 v2 := by rw [ev2]; exact rdc1 hG hI (by omega)
    refine vLe (fun h3 => ?_) (fun h4 => ?_)
    · have cF := xFu
      exact fX12_second_37_s hG _ _ _ _ (by omega) hI (by omega)
    · refine vOk_bind (fX12_lets_s hG (by omega) hI) fun m5 hm5 => ?_
      refine vA (by omega) fun v6 ev6 fv6 => ?_
      exact ih _ _ _ (by omega) hm5 (by omega)
theorem fX12_second_s {R : xMem} {m : xMem} (hG : GR R) (hI : IR R m) : vOk (IR2 R) (fX12_second 291 m) := by
  have c0 : (0 : Int32).toInt = 0 := rfl
  unfold fX12_second
  unfold fX12_second_0
  refine vIn (by omega) (by omega) fun n1 => ?_
  refine vR fun v2 ev2 => ?_
  have fv2 := tiB v2
  refine vOk_bind (fX12_bursts_s hG hI) fun m3 hm3 => ?_
  have cF := xFu
  exact fX12_second_14_s hG _ _ _ _ (by omega) hm3 (by omega)
theorem fX12_of_s {R : xMem} {a1 : Int32} {a2 : Int32} {m : xMem} (hG : GR R) (hI : IR R m) : vOk (PP m (fun x : Int32 => (x.toInt = -1 ∨ ((0 ≤ a1.toInt ∧ a1.toInt ≤ 5) ∧ (0 ≤ a2.toInt ∧ a2.toInt ≤ 2147483647))))) (fX12_of 291 a1 a2 m) := by
  have ta1 := tiB a1
  have ta2 := tiB a2
  have cm1 : (-1 : Int32).toInt = -1 := rfl
  have c0 : (0 : Int32).toInt = 0 := rfl
  have c1 : (1 : Int32).toInt = 1 := rfl
  have c2 : (2 : Int32).toInt = 2 := rfl
  have c3 : (3 : Int32).toInt = 3 := rfl
  have c4 : (4 : Int32).toInt = 4 := rfl
  have c10 : (10 : Int32).toInt = 10 := rfl
  have c12 : (12 : Int32).toInt = 12 := rfl
  have c20 : (20 : Int32).toInt = 20 := rfl
  have c50 : (50 : Int32).toInt = 50 := rfl
  have c130 : (130 : Int32).toInt = 130 := rfl
  unfold fX12_of
  unfold fX12_of_0
  refine vBindP (fX12_isHall_s hG hI) fun v1 ev1 qv1 => ?_
  try dsimp only
  have fv1 := tiB v1
  refine vNe (fun h2 => ?_) (fun h3 => ?_)
  · have g4 := qv1.2.resolve_left (by omega)
    refine vEq (fun h5 => ?_) (fun h6 => ?_)
    · refine vBindP (fX12_inHall_s hG (by omega) hI) fun v7 ev7 qv7 => ?_
      try dsimp only
      have fv7 := tiB v7
      refine rP ?_
      first | exact True.intro | omega
    · refine vEq (fun h8 => ?_) (fun h9 => ?_)
      · refine vBindP (fX12_countOf_s hG (by omega) hI) fun v10 ev10 qv10 => ?_
        try dsimp only
        have fv10 := tiB v10
        refine rP ?_
        first | exact True.intro | omega
      · refine vEq (fun h11 => ?_) (fun h12 => ?_)
        · refine vBindP (fX12_hallOf_s hG (by omega) hI) fun v13 ev13 qv13 => ?_
          try dsimp only
          have fv13 := tiB v13
          refine rP ?_
          first | exact True.intro | omega
        · refine vEq (fun h14 => ?_) (fun h15 => ?_)
          · refine vBindP (fX12_hallOf_s hG (by omega) hI) fun v16 ev16 qv16 => ?_
            try dsimp only
            have fv16 := tiB v16
            refine rP ?_
            first | exact True.intro | omega
          · refine vEq (fun h17 => ?_) (fun h18 => ?_)
            · refine vBindP (fX12_hallOf_s hG (by omega) hI) fun v19 ev19 qv19 => ?_
              try dsimp only
              have fv19 := tiB v19
              refine rP ?_
              first | exact True.intro | omega
            · refine vLt (fun h20 => ?_) (fun h21 => ?_)
              · unfold fX12_of_117
                refine vLt (fun h22 => ?_) (fun h23 => ?_)
                · unfold fX12_of_158
                  unfold fX12_of_159
                  refine rP ?_
                  first | exact True.intro | omega
                · exfalso; omega
              · refine vS (by omega) fun v24 ev24 fv24 => ?_
                refine vBindP (fX12_isHall_s hG hI) fun v25 ev25 qv25 => ?_
                try dsimp only
                have fv25 := tiB v25
                refine vEq (fun h26 => ?_) (fun h27 => ?_)
                · unfold fX12_of_117
                  refine vLt (fun h28 => ?_) (fun h29 => ?_)
                  · unfold fX12_of_158
                    unfold fX12_of_159
                    refine rP ?_
                    first | exact True.intro | omega
                  · refine vS (by omega) fun v30 ev30 fv30 => ?_
                    refine vBindP (fX12_isHall_s hG hI) fun v31 ev31 qv31 => ?_
                    try dsimp only
                    have fv31 := tiB v31
                    refine vEq (fun h32 => ?_) (fun h33 => ?_)
                    · unfold fX12_of_158
                      unfold fX12_of_159
                      refine rP ?_
                      first | exact True.intro | omega
                    · have g34 := qv31.2.resolve_left (by omega)
                      refine vM (v := 12 * a1.toInt) (by rw [c12]) (by omega) fun v35 ev35 fv35 => ?_
                      refine vA (by omega) fun v36 ev36 fv36 => ?_
                      refine vAl ev30 ?_
                      refine vM (v := 2 * v30.toInt) (by rw [c2]) (by omega) fun v37 ev37 fv37 => ?_
                      refine vA (by omega) fun v38 ev38 fv38 => ?_
                      refine vA (by omega) fun v39 ev39 fv39 => ?_
                      refine vIn (by omega) (by omega) fun n40 => ?_
                      refine vR fun v41 ev41 => ?_
                      have fv41 := tiB v41
                      unfold fX12_of_159
                      refine rP ?_
                      first | exact True.intro | omega
                · have g42 := qv25.2.resolve_left (by omega)
                  refine vM (v := 12 * a1.toInt) (by rw [c12]) (by omega) fun v43 ev43 fv43 => ?_
                  refine vA (by omega) fun v44 ev44 fv44 => ?_
                  refine vAl ev24 ?_
                  refine vM (v := 2 * v24.toInt) (by rw [c2]) (by omega) fun v45 ev45 fv45 => ?_
                  refine vA (by omega) fun v46 ev46 fv46 => ?_
                  refine vIn (by omega) (by omega) fun n47 => ?_
                  refine vR fun v48 ev48 => ?_
                  have fv48 := tiB v48
                  refine rP ?_
                  first | exact True.intro | omega
  · refine rP ?_
    first | exact True.intro | omega
theorem fX12_on_s {R : xMem} {a1 : Int32} {a2 : Int32} {m : xMem} (hG : GR R) (hI : IR R m) : vOk (PP m (fun x : Int32 => (x.toInt = -1 ∨ ((0 ≤ a1.toInt ∧ a1.toInt ≤ 9) ∧ (0 ≤ a2.toInt ∧ a2.toInt ≤ 7))))) (fX12_on 291 a1 a2 m) := by
  have ta1 := tiB a1
  have ta2 := tiB a2
  have cm1 : (-1 : Int32).toInt = -1 := rfl
  have c0 : (0 : Int32).toInt = 0 := rfl
  have c1 : (1 : Int32).toInt = 1 := rfl
  have c2 : (2 : Int32).toInt = 2 := rfl
  have c3 : (3 : Int32).toInt = 3 := rfl
  have c4 : (4 : Int32).toInt = 4 := rfl
  have c5 : (5 : Int32).toInt = 5 := rfl
  have c6 : (6 : Int32).toInt = 6 := rfl
  have c7 : (7 : Int32).toInt = 7 := rfl
  have c8 : (8 : Int32).toInt = 8 := rfl
  have c9 : (9 : Int32).toInt = 9 := rfl
  have c10 : (10 : Int32).toInt = 10 := rfl
  have c11 : (11 : Int32).toInt = 11 := rfl
  unfold fX12_on
  unfold fX12_on_0
  refine vBindP (fX12_isLink_s hG hI) fun v1 ev1 qv1 => ?_
  try dsimp only
  have fv1 := tiB v1
  refine vNe (fun h2 => ?_) (fun h3 => ?_)
  · have g4 := qv1.2.resolve_left (by omega)
    refine vEq (fun h5 => ?_) (fun h6 => ?_)
    · refine vBindP (fX12_loadOf_s hG (by omega) hI) fun v7 ev7 qv7 => ?_
      try dsimp only
      have fv7 := tiB v7
      refine rP ?_
      first | exact True.intro | omega
    · refine vEq (fun h8 => ?_) (fun h9 => ?_)
      · refine vBindP (fX12_linkOf_s hG (by omega) hI) fun v10 ev10 qv10 => ?_
        try dsimp only
        have fv10 := tiB v10
        refine rP ?_
        first | exact True.intro | omega
      · refine vEq (fun h11 => ?_) (fun h12 => ?_)
        · refine vBindP (fX12_linkOf_s hG (by omega) hI) fun v13 ev13 qv13 => ?_
          try dsimp only
          have fv13 := tiB v13
          refine rP ?_
          first | exact True.intro | omega
        · refine vEq (fun h14 => ?_) (fun h15 => ?_)
          · refine vBindP (fX12_linkOf_s hG (by omega) hI) fun v16 ev16 qv16 => ?_
            try dsimp only
            have fv16 := tiB v16
            refine rP ?_
            first | exact True.intro | omega
          · refine vEq (fun h17 => ?_) (fun h18 => ?_)
            · refine vBindP (fX12_linkOf_s hG (by omega) hI) fun v19 ev19 qv19 => ?_
              try dsimp only
              have fv19 := tiB v19
              refine rP ?_
              first | exact True.intro | omega
            · refine vEq (fun h20 => ?_) (fun h21 => ?_)
              · refine vBindP (fX12_linkOf_s hG (by omega) hI) fun v22 ev22 qv22 => ?_
                try dsimp only
                have fv22 := tiB v22
                refine rP ?_
                first | exact True.intro | omega
              · refine vEq (fun h23 => ?_) (fun h24 => ?_)
                · refine vBindP (fX12_linkOf_s hG (by omega) hI) fun v25 ev25 qv25 => ?_
                  try dsimp only
                  have fv25 := tiB v25
                  refine rP ?_
                  first | exact True.intro | omega
                · refine vEq (fun h26 => ?_) (fun h27 => ?_)
                  · refine vBindP (fX12_linkOf_s hG (by omega) hI) fun v28 ev28 qv28 => ?_
                    try dsimp only
                    have fv28 := tiB v28
                    refine rP ?_
                    first | exact True.intro | omega
                  · refine rP ?_
                    first | exact True.intro | omega
  · refine rP ?_
    first | exact True.intro | omega
theorem fX12_step_s {R : xMem} {a1 : Int32} {a2 : Int32} {a3 : Int32} {m : xMem} (hG : GR R) (hI : IR R m) : vOk (PP m (fun x : Int32 => (-1 ≤ x.toInt ∧ x.toInt ≤ 15) ∧ (x.toInt = -1 ∨ ((0 ≤ a1.toInt ∧ a1.toInt ≤ 9) ∧ (0 ≤ a2.toInt ∧ a2.toInt ≤ 1) ∧ (0 ≤ a3.toInt ∧ a3.toInt ≤ 39))))) (fX12_step 291 a1 a2 a3 m) := by
  have ta1 := tiB a1
  have ta2 := tiB a2
  have ta3 := tiB a3
  have cm1 : (-1 : Int32).toInt = -1 := rfl
  have c0 : (0 : Int32).toInt = 0 := rfl
  have c1 : (1 : Int32).toInt = 1 := rfl
  have c3 : (3 : Int32).toInt = 3 := rfl
  unfold fX12_step
  unfold fX12_step_0
  refine vBindP (fX12_isStairs_s hG hI) fun v1 ev1 qv1 => ?_
  try dsimp only
  have fv1 := tiB v1
  refine vEq (fun h2 => ?_) (fun h3 => ?_)
  · unfold fX12_step_48
    unfold fX12_step_49
    refine rP ?_
    first | exact True.intro | omega
  · have g4 := qv1.2.resolve_left (by omega)
    refine vBindP (fX12_in_s hG hI) fun v5 ev5 qv5 => ?_
    try dsimp only
    have fv5 := tiB v5
    refine vEq (fun h6 => ?_) (fun h7 => ?_)
    · unfold fX12_step_48
      unfold fX12_step_49
      refine rP ?_
      first | exact True.intro | omega
    · have g8 := qv5.2.resolve_left (by omega)
      refine vBindP (fX12_linkOf_c3 hG (by omega) hI) fun v9 ev9 qv9 => ?_
      try dsimp only
      have fv9 := tiB v9
      refine vS (by omega) fun v10 ev10 fv10 => ?_
      refine vBindP (fX12_in_s hG hI) fun v11 ev11 qv11 => ?_
      try dsimp only
      have fv11 := tiB v11
      refine vEq (fun h12 => ?_) (fun h13 => ?_)
      · unfold fX12_step_48
        unfold fX12_step_49
        refine rP ?_
        first | exact True.intro | omega
      · have g14 := qv11.2.resolve_left (by omega)
        refine vBindP (fX12_placeOf_s hG (by omega) hI) fun v15 ev15 qv15 => ?_
        try dsimp only
        have fv15 := tiB v15
        refine vIn (by omega) (by omega) fun n16 => ?_
        refine vR fun v17 ev17 => ?_
        have fv17 : bw (-1) 15 v17 := by rw [ev17]; exact rds hI (by omega)
        unfold fX12_step_49
        refine rP ?_
        first | exact True.intro | omega
theorem fX12_route_s {R : xMem} {a1 : Int32} {a2 : Int32} {a3 : Int32} {m : xMem} (hG : GR R) (hI : IR R m) : vOk (PM (IR R) (fun x : Int32 => (x.toInt = -1 ∨ ((0 ≤ a1.toInt ∧ a1.toInt ≤ 5) ∧ (0 ≤ a2.toInt ∧ a2.toInt ≤ 5))))) (fX12_route 291 a1 a2 a3 m) := by
  have ta1 := tiB a1
  have ta2 := tiB a2
  have ta3 := tiB a3
  have cm1 : (-1 : Int32).toInt = -1 := rfl
  have c0 : (0 : Int32).toInt = 0 := rfl
  have c1 : (1 : Int32).toInt = 1 := rfl
  have c6 : (6 : Int32).toInt = 6 := rfl
  have c36 : (36 : Int32).toInt = 36 := rfl
  unfold fX12_route
  unfold fX12_route_0
  refine vBindP (fX12_isHall_s hG hI) fun v1 ev1 qv1 => ?_
  try dsimp only
  have fv1 := tiB v1
  refine vEq (fun h2 => ?_) (fun h3 => ?_)
  · unfold fX12_route_16
    refine rM hI ?_
    first | exact True.intro | omega
  · have g4 := qv1.2.resolve_left (by omega)
    refine vBindP (fX12_isHall_s hG hI) fun v5 ev5 qv5 => ?_
    try dsimp only
    have fv5 := tiB v5
    refine vNe (fun h6 => ?_) (fun h7 => ?_)
    · have g8 := qv5.2.resolve_left (by omega)
      refine vEq (fun h9 => ?_) (fun h10 => ?_)
      · unfold fX12_route_29
        refine vOk_bind (fX12_routes_s hG (by omega) hI) fun m11 hm11 => ?_
        refine vEq (fun h12 => ?_) (fun h13 => ?_)
        · unfold fX12_route_46
          refine vM (v := 6 * a2.toInt) (by rw [c6]) (by omega) fun v14 ev14 fv14 => ?_
          refine vA (by omega) fun v15 ev15 fv15 => ?_
          refine vA (by omega) fun v16 ev16 fv16 => ?_
          refine vIn (by omega) (by omega) fun n17 => ?_
          refine vR fun v18 ev18 => ?_
          have fv18 := tiB v18
          refine rM hm11 ?_
          first | exact True.intro | omega
        · exfalso; omega
      · unfold fX12_route_29
        refine vOk_bind (fX12_routes_s hG (by omega) hI) fun m19 hm19 => ?_
        refine vEq (fun h20 => ?_) (fun h21 => ?_)
        · unfold fX12_route_46
          refine vM (v := 6 * a2.toInt) (by rw [c6]) (by omega) fun v22 ev22 fv22 => ?_
          refine vA (by omega) fun v23 ev23 fv23 => ?_
          refine vA (by omega) fun v24 ev24 fv24 => ?_
          refine vIn (by omega) (by omega) fun n25 => ?_
          refine vR fun v26 ev26 => ?_
          have fv26 := tiB v26
          refine rM hm19 ?_
          first | exact True.intro | omega
        · unfold fX12_route_46
          refine vM (v := 6 * a2.toInt) (by rw [c6]) (by omega) fun v27 ev27 fv27 => ?_
          refine vA (by omega) fun v28 ev28 fv28 => ?_
          refine vA (by omega) fun v29 ev29 fv29 => ?_
          refine vIn (by omega) (by omega) fun n30 => ?_
          refine vR fun v31 ev31 => ?_
          have fv31 := tiB v31
          refine rM hm19 ?_
          first | exact True.intro | omega
    · unfold fX12_route_16
      refine rM hI ?_
      first | exact True.intro | omega
theorem fX12_all_s {R : xMem} {a1 : Int32} {m : xMem} (hG : GR R) (hI : IR R m) : vOk (PP m (fun x : Int32 => (x.toInt = -1 ∨ ((0 ≤ a1.toInt ∧ a1.toInt ≤ 3))))) (fX12_all 291 a1 m) := by
  have ta1 := tiB a1
  have cm1 : (-1 : Int32).toInt = -1 := rfl
  have c0 : (0 : Int32).toInt = 0 := rfl
  have c3 : (3 : Int32).toInt = 3 := rfl
  have c9 : (9 : Int32).toInt = 9 := rfl
  unfold fX12_all
  unfold fX12_all_0
  refine vBindP (fX12_in_s hG hI) fun v1 ev1 qv1 => ?_
  try dsimp only
  have fv1 := tiB v1
  refine vEq (fun h2 => ?_) (fun h3 => ?_)
  · unfold fX12_all_22
    refine rP ?_
    first | exact True.intro | omega
  · have g4 := qv1.2.resolve_left (by omega)
    refine vA (by omega) fun v5 ev5 fv5 => ?_
    refine vIn (by omega) (by omega) fun n6 => ?_
    refine vR fun v7 ev7 => ?_
    have fv7 := tiB v7
    unfold fX12_all_22
    refine rP ?_
    first | exact True.intro | omega
theorem fX12_areStairs_27_s {R : xMem} {a1 : Int32} {m : xMem} (hG : GR R) (hI : IR R m) : ∀ (fuel : Nat), ∀ (l2 : Int32) (l3 : Int32) (l4 : Int32), ((0 ≤ l3.toInt ∧ l3.toInt ≤ 1) ∧ (0 ≤ l4.toInt ∧ l4.toInt ≤ 10)) → 2147483648 - l4.toInt < (fuel : Int) → vOk (PP m (fun x : Int32 => (0 ≤ x.toInt ∧ x.toInt ≤ 1))) (fX12_areStairs_27 291 a1 fuel l2 l3 l4 m) := by
  intro fuel
  induction fuel with
  | zero =>
    intro l2 l3 l4 hp hmu
    have ta1 := tiB a1
    have tl2 := tiB l2
    have tl3 := tiB l3
    have tl4 := tiB l4
    exfalso; omega
  | succ fuel ih =>
    intro l2 l3 l4 hp hmu
    have ta1 := tiB a1
    have tl2 := tiB l2
    have tl3 := tiB l3
    have tl4 := tiB l4
    have c0 : (0 : Int32).toInt = 0 := rfl
    have c1 : (1 : Int32).toInt = 1 := rfl
    have c6 : (6 : Int32).toInt = 6 := rfl
    have c10 : (10 : Int32).toInt = 10 := rfl
    rw [fX12_areStairs_27]
    refine vLe (fun h1 => ?_) (fun h2 => ?_)
    · unfold fX12_areStairs_64
      refine vEq (fun h3 => ?_) (fun h4 => ?_)
      · unfold fX12_areStairs_78
        unfold fX12_areStairs_79
        refine vB (by omega) ?_
        refine rP ?_
        first | exact True.intro | omega
      · refine vLe (fun h5 => ?_) (fun h6 => ?_)
        · unfold fX12_areStairs_78
          unfold fX12_areStairs_79
          refine vB (by omega) ?_
          refine rP ?_
          first | exact True.intro | omega
        · unfold fX12_areStairs_79
          refine vB (by omega) ?_
          refine rP ?_
          first | exact True.intro | omega
    · refine vEq (fun h7 => ?_) (fun h8 => ?_)
      · unfold fX12_areStairs_64
        refine vEq (fun h9 => ?_) (fun h10 => ?_)
        · unfold fX12_areStairs_78
          unfold fX12_areStairs_79
          refine vB (by omega) ?_
          refine rP ?_
          first | exact True.intro | omega
        · exfalso; omega
      · refine vI fun v11 ev11 fv11 => ?_
        refine vI fun v12 ev12 fv12 => ?_
        refine vNe (fun h13 => ?_) (fun h14 => ?_)
        · unfold fX12_areStairs_58
          refine vA (by omega) fun v15 ev15 fv15 => ?_
          exact ih _ _ _ (by omega) (by omega)
        · refine vBindP (fX12_isStairs_s hG hI) fun v16 ev16 qv16 => ?_
          try dsimp only
          have fv16 := tiB v16
          refine vI fun v17 ev17 fv17 => ?_
          unfold fX12_areStairs_58
          refine vA (by omega) fun v18 ev18 fv18 => ?_
          exact ih _ _ _ (by omega) (by omega)
theorem fX12_areStairs_s {R : xMem} {a1 : Int32} {m : xMem} (hG : GR R) (hI : IR R m) : vOk (PP m (fun x : Int32 => (0 ≤ x.toInt ∧ x.toInt ≤ 1))) (fX12_areStairs 291 a1 m) := by
  have ta1 := tiB a1
  have c0 : (0 : Int32).toInt = 0 := rfl
  have c1 : (1 : Int32).toInt = 1 := rfl
  have c2 : (2 : Int32).toInt = 2 := rfl
  unfold fX12_areStairs
  unfold fX12_areStairs_0
  refine vLe (fun h1 => ?_) (fun h2 => ?_)
  · unfold fX12_areStairs_22
    unfold fX12_areStairs_23
    have cF := xFu
    exact fX12_areStairs_27_s hG hI _ _ _ _ (by omega) (by omega)
  · refine vIn (by omega) (by omega) fun n3 => ?_
    refine vR fun v4 ev4 => ?_
    have fv4 : bw (0) 10 v4 := by rw [ev4]; exact rdc2 hG hI (by omega)
    refine vI fun v5 ev5 fv5 => ?_
    refine vLe (fun h6 => ?_) (fun h7 => ?_)
    · unfold fX12_areStairs_22
      unfold fX12_areStairs_23
      have cF := xFu
      exact fX12_areStairs_27_s hG hI _ _ _ _ (by omega) (by omega)
    · unfold fX12_areStairs_23
      have cF := xFu
      exact fX12_areStairs_27_s hG hI _ _ _ _ (by omega) (by omega)
theorem fX12_isStair_s {R : xMem} {a1 : Int32} {m : xMem} (hG : GR R) (hI : IR R m) : vOk (PP m (fun x : Int32 => (0 ≤ x.toInt ∧ x.toInt ≤ 1) ∧ (x.toInt = 0 ∨ ((0 ≤ a1.toInt ∧ a1.toInt ≤ 9))))) (fX12_isStair 291 a1 m) := by
  have ta1 := tiB a1
  have c0 : (0 : Int32).toInt = 0 := rfl
  have c1 : (1 : Int32).toInt = 1 := rfl
  unfold fX12_isStair
  unfold fX12_isStair_0
  refine vBindP (fX12_isLink_s hG hI) fun v1 ev1 qv1 => ?_
  try dsimp only
  have fv1 := tiB v1
  refine vEq (fun h2 => ?_) (fun h3 => ?_)
  · unfold fX12_isStair_21
    unfold fX12_isStair_22
    refine vB (by omega) ?_
    refine rP ?_
    first | exact True.intro | omega
  · have g4 := qv1.2.resolve_left (by omega)
    refine vBindP (fX12_linkOf_c0 hG (by omega) hI) fun v5 ev5 qv5 => ?_
    try dsimp only
    have fv5 := tiB v5
    refine vNe (fun h6 => ?_) (fun h7 => ?_)
    · unfold fX12_isStair_21
      unfold fX12_isStair_22
      refine vB (by omega) ?_
      refine rP ?_
      first | exact True.intro | omega
    · unfold fX12_isStair_22
      refine vB (by omega) ?_
      refine rP ?_
      first | exact True.intro | omega
theorem fX12_loneMoves_7_s {R : xMem} {a1 : Int32} {a2 : Int32} (hG : GR R) : ∀ (fuel : Nat), ∀ (l3 : Int32) (l4 : Int32) (m : xMem), ((2 ≤ a1.toInt ∧ a1.toInt ≤ 40) ∧ (0 ≤ a2.toInt ∧ a2.toInt ≤ 1) ∧ (-1 ≤ l4.toInt ∧ l4.toInt ≤ 39)) → IR R m → l4.toInt + 2147483649 < (fuel : Int) → vOk (PM (IR R) (fun _ : Int32 => True)) (fX12_loneMoves_7 291 a1 a2 fuel l3 l4 m) := by
  intro fuel
  induction fuel with
  | zero =>
    intro l3 l4 m hp hI hmu
    have ta1 := tiB a1
    have ta2 := tiB a2
    have tl3 := tiB l3
    have tl4 := tiB l4
    exfalso; omega
  | succ fuel ih =>
    intro l3 l4 m hp hI hmu
    have ta1 := tiB a1
    have ta2 := tiB a2
    have tl3 := tiB l3
    have tl4 := tiB l4
    have cm1 : (-1 : Int32).toInt = -1 := rfl
    have c0 : (0 : Int32).toInt = 0 := rfl
    have c1 : (1 : Int32).toInt = 1 := rfl
    have c2 : (2 : Int32).toInt = 2 := rfl
    have c40 : (40 : Int32).toInt = 40 := rfl
    rw [fX12_loneMoves_7]
    refine vLt (fun h1 => ?_) (fun h2 => ?_)
    · refine rM hI ?_
      first | exact True.intro | omega
    · refine vM (v := 40 * a2.toInt) (by rw [c40]) (by omega) fun v3 ev3 fv3 => ?_
      refine vA (by omega) fun v4 ev4 fv4 => ?_
      refine vIn (by omega) (by omega) fun n5 => ?_
      refine vR fun v6 ev6 => ?_
      have fv6 : bw (0) 2 v6 := by rw [ev6]; exact rdn hI
      refine vIn (by omega) (by omega) fun n7 => ?_
      refine vR fun m8 em8 => ?_
      have hm8 : IR R m8 := by rw [em8]; exact IR_n hI (by omega)
      refine vLe (fun h9 => ?_) (fun h10 => ?_)
      · unfold fX12_loneMoves_58
        refine vLe (fun h11 => ?_) (fun h12 => ?_)
        · unfold fX12_loneMoves_101
          refine vA (by omega) fun v13 ev13 fv13 => ?_
          exact ih _ _ _ (by omega) hm8 (by omega)
        · exfalso; omega
      · refine vA (by omega) fun v14 ev14 fv14 => ?_
        refine vLt (fun h15 => ?_) (fun h16 => ?_)
        · unfold fX12_loneMoves_58
          refine vLe (fun h17 => ?_) (fun h18 => ?_)
          · exfalso; omega
          · refine vNe (fun h19 => ?_) (fun h20 => ?_)
            · unfold fX12_loneMoves_85
              unfold fX12_loneMoves_87
              refine vA (by omega) fun v21 ev21 fv21 => ?_
              refine vIn (by omega) (by omega) fun n22 => ?_
              refine vR fun m23 em23 => ?_
              have hm23 : IR R m23 := by rw [em23]; exact IR_n hm8 (by omega)
              unfold fX12_loneMoves_101
              refine vA (by omega) fun v24 ev24 fv24 => ?_
              exact ih _ _ _ (by omega) hm23 (by omega)
            · refine vA (by omega) fun v25 ev25 fv25 => ?_
              refine vIn (by omega) (by omega) fun n26 => ?_
              refine vR fun v27 ev27 => ?_
              have fv27 : bw (0) 2 v27 := by rw [ev27]; exact rdn hm8
              refine vLe (fun h28 => ?_) (fun h29 => ?_)
              · unfold fX12_loneMoves_85
                unfold fX12_loneMoves_87
                refine vA (by omega) fun v30 ev30 fv30 => ?_
                refine vIn (by omega) (by omega) fun n31 => ?_
                refine vR fun m32 em32 => ?_
                have hm32 : IR R m32 := by rw [em32]; exact IR_n hm8 (by omega)
                unfold fX12_loneMoves_101
                refine vA (by omega) fun v33 ev33 fv33 => ?_
                exact ih _ _ _ (by omega) hm32 (by omega)
              · unfold fX12_loneMoves_87
                refine vA (by omega) fun v34 ev34 fv34 => ?_
                refine vIn (by omega) (by omega) fun n35 => ?_
                refine vR fun m36 em36 => ?_
                have hm36 : IR R m36 := by rw [em36]; exact IR_n hm8 (by omega)
                unfold fX12_loneMoves_101
                refine vA (by omega) fun v37 ev37 fv37 => ?_
                exact ih _ _ _ (by omega) hm36 (by omega)
        · refine vI fun v38 ev38 fv38 => ?_
          unfold fX12_loneMoves_101
          refine vA (by omega) fun v39 ev39 fv39 => ?_
          exact ih _ _ _ (by omega) hm8 (by omega)
theorem fX12_loneMoves_s {R : xMem} {a1 : Int32} {a2 : Int32} {m : xMem} (hG : GR R) (hp : (2 ≤ a1.toInt ∧ a1.toInt ≤ 40) ∧ (0 ≤ a2.toInt ∧ a2.toInt ≤ 1)) (hI : IR R m) : vOk (PM (IR R) (fun _ : Int32 => True)) (fX12_loneMoves 291 a1 a2 m) := by
  have ta1 := tiB a1
  have ta2 := tiB a2
  have c0 : (0 : Int32).toInt = 0 := rfl
  have c1 : (1 : Int32).toInt = 1 := rfl
  unfold fX12_loneMoves
  unfold fX12_loneMoves_0
  refine vS (by omega) fun v1 ev1 fv1 => ?_
  have cF := xFu
  exact fX12_loneMoves_7_s hG _ _ _ _ (by omega) hI (by omega)
