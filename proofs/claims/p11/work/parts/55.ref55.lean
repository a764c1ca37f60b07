/-! SAFETY of the reference's methods, printed by wip/tools/vcref.py -/
theorem fX12_lets_58_s {R : xMem} {a1 : Int32} {rec52 : Int32 → Int32 → xMem → Option xMem} {M52 : Int} (hG : GR R) (hrec52 : ∀ (l2 : Int32) (l3 : Int32) (m : xMem), ((0 ≤ a1.toInt ∧ a1.toInt ≤ 5) ∧ (0 ≤ l3.toInt ∧ l3.toInt ≤ 12)) → IR R m → 2147483648 - l3.toInt < M52 → vOk (IR R) (rec52 l2 l3 m)) : ∀ (fuel : Nat), ∀ (l2 : Int32) (l3 : Int32) (m : xMem), ((0 ≤ a1.toInt ∧ a1.toInt ≤ 5) ∧ (0 ≤ l3.toInt ∧ l3.toInt ≤ 11)) → IR R m → 2147483648 - l3.toInt ≤ M52 → (m.1 292 (130 + 12 * a1.toNatClampNeg + l3.toNatClampNeg)).toInt + 2147483649 < (fuel : Int) → vOk (IR R) (fX12_lets_58 291 a1 rec52 fuel l2 l3 m) := by
  intro fuel
  induction fuel with
  | zero =>
    intro l2 l3 m hp hI hM52 hmu
    have ta1 := tiB a1
    have tl2 := tiB l2
    have tl3 := tiB l3
    have tcell := tiB (m.1 292 (130 + 12 * a1.toNatClampNeg + l3.toNatClampNeg))
    exfalso; omega
  | succ fuel ih =>
    intro l2 l3 m hp hI hM52 hmu
    have ta1 := tiB a1
    have tl2 := tiB l2
    have tl3 := tiB l3
    have tcell := tiB (m.1 292 (130 + 12 * a1.toNatClampNeg + l3.toNatClampNeg))
    have c0 : (0 : Int32).toInt = 0 := rfl
    have c1 : (1 : Int32).toInt = 1 := rfl
    have c2 : (2 : Int32).toInt = 2 := rfl
    have c9 : (9 : Int32).toInt = 9 := rfl
    have c12 : (12 : Int32).toInt = 12 := rfl
    have c50 : (50 : Int32).toInt = 50 := rfl
    have c130 : (130 : Int32).toInt = 130 := rfl
    rw [fX12_lets_58]
    refine vM (v := 12 * a1.toInt) (by rw [c12]) (by omega) fun v1 ev1 fv1 => ?_
    refine vA (by omega) fun v2 ev2 fv2 => ?_
    refine vA (by omega) fun v3 ev3 fv3 => ?_
    refine vIn (by omega) (by omega) fun n4 => ?_
    refine vR fun v5 ev5 => ?_
    have fv5 := tiB v5
    refine vLe (fun h6 => ?_) (fun h7 => ?_)
    · unfold fX12_lets_150
      refine vA (by omega) fun v8 ev8 fv8 => ?_
      exact hrec52 _ _ _ (by omega) hI (by omega)
    · refine vBindP (fX12_hallOf_s hG (by omega) hI) fun v9 ev9 qv9 => ?_
      try dsimp only
      have fv9 := tiB v9
      refine vLe (fun h10 => ?_) (fun h11 => ?_)
      · unfold fX12_lets_150
        refine vA (by omega) fun v12 ev12 fv12 => ?_
        exact hrec52 _ _ _ (by omega) hI (by omega)
      · refine vAl ev1 ?_
        refine vAl ev2 ?_
        refine vAl ev3 ?_
        refine vIn (by omega) (by omega) fun n13 => ?_
        refine vAl (ev5) ?_
        refine vS (by omega) fun v14 ev14 fv14 => ?_
        refine vIn (by omega) (by omega) fun n15 => ?_
        refine vR fun m16 em16 => ?_
        have hm16 : IR R m16 := by rw [em16]; exact IR_a hI (by omega)
        refine vI fun v17 ev17 fv17 => ?_
        refine vNe (fun h18 => ?_) (fun h19 => ?_)
        · refine vAl ev1 ?_
          refine vA (by omega) fun v20 ev20 fv20 => ?_
          refine vA (by omega) fun v21 ev21 fv21 => ?_
          refine vIn (by omega) (by omega) fun n22 => ?_
          refine vR fun v23 ev23 => ?_
          have fv23 := tiB v23
          refine vI fun v24 ev24 fv24 => ?_
          refine vIn (by omega) (by omega) fun n25 => ?_
          refine vR fun m26 em26 => ?_
          have hm26 : IR R m26 := by rw [em26]; exact IR_a hm16 (by omega)
          refine vA (by omega) fun v27 ev27 fv27 => ?_
          have w29 : v3.toNatClampNeg = v3.toInt.toNat := rfl
          have w30 : l3.toNatClampNeg = l3.toInt.toNat := rfl
          have w31 : a1.toNatClampNeg = a1.toInt.toNat := rfl
          have w32 : v21.toNatClampNeg = v21.toInt.toNat := rfl
          have j28a : v3.toNatClampNeg = 130 + 12 * a1.toNatClampNeg + l3.toNatClampNeg := by omega
          have j28b : v14 = m26.1 292 (130 + 12 * a1.toNatClampNeg + l3.toNatClampNeg) := by rw [← j28a]; exact (xP_eqE em16).trans (xP_slE em26 (by omega))
          have j28c : v5 = m.1 292 (130 + 12 * a1.toNatClampNeg + l3.toNatClampNeg) := by rw [← j28a]; exact ev5
          have j28d := congrArg Int32.toInt j28b
          have j28e := congrArg Int32.toInt j28c
          exact ih _ _ _ (by omega) hm26 (by omega) (by omega)
        · refine vIn (by omega) (by omega) fun n33 => ?_
          refine vR fun v34 ev34 => ?_
          have fv34 := tiB v34
          refine vI fun v35 ev35 fv35 => ?_
          refine vIn (by omega) (by omega) fun n36 => ?_
          refine vR fun m37 em37 => ?_
          have hm37 : IR R m37 := by rw [em37]; exact IR_a hm16 (by omega)
          have w39 : v3.toNatClampNeg = v3.toInt.toNat := rfl
          have w40 : (9 : Int32).toNatClampNeg = (9 : Int32).toInt.toNat := rfl
          have w41 : a1.toNatClampNeg = a1.toInt.toNat := rfl
          have w42 : l3.toNatClampNeg = l3.toInt.toNat := rfl
          have j38a : v3.toNatClampNeg = 130 + 12 * a1.toNatClampNeg + l3.toNatClampNeg := by omega
          have j38b : v14 = m37.1 292 (130 + 12 * a1.toNatClampNeg + l3.toNatClampNeg) := by rw [← j38a]; exact (xP_eqE em16).trans (xP_slE em37 (by omega))
          have j38c : v5 = m.1 292 (130 + 12 * a1.toNatClampNeg + l3.toNatClampNeg) := by rw [← j38a]; exact ev5
          have j38d := congrArg Int32.toInt j38b
          have j38e := congrArg Int32.toInt j38c
          exact ih _ _ _ (by omega) hm37 (by omega) (by omega)
theorem fX12_lets_52_s {R : xMem} {a1 : Int32} (hG : GR R) : ∀ (fuel : Nat), ∀ (l2 : Int32) (l3 : Int32) (m : xMem), ((0 ≤ a1.toInt ∧ a1.toInt ≤ 5) ∧ (0 ≤ l3.toInt ∧ l3.toInt ≤ 12)) → IR R m → 2147483648 - l3.toInt < (fuel : Int) → vOk (IR R) (fX12_lets_52 291 a1 fuel l2 l3 m) := by
  intro fuel
  induction fuel with
  | zero =>
    intro l2 l3 m hp hI hmu
    have ta1 := tiB a1
    have tl2 := tiB l2
    have tl3 := tiB l3
    exfalso; omega
  | succ fuel ih =>
    intro l2 l3 m hp hI hmu
    have ta1 := tiB a1
    have tl2 := tiB l2
    have tl3 := tiB l3
    have c12 : (12 : Int32).toInt = 12 := rfl
    rw [fX12_lets_52]
    refine vLe (fun h1 => ?_) (fun h2 => ?_)
    · exact vOk_some hI
    · have cF := xFu
      have tcell := tiB (m.1 292 (130 + 12 * a1.toNatClampNeg + l3.toNatClampNeg))
      exact fX12_lets_58_s hG ih _ _ _ _ (by omega) hI (by omega) (by omega)
theorem fX12_lets_s {R : xMem} {a1 : Int32} {m : xMem} (hG : GR R) (hp : (0 ≤ a1.toInt ∧ a1.toInt ≤ 5)) (hI : IR R m) : vOk (IR R) (fX12_lets 291 a1 m) := by
  have ta1 := tiB a1
  have c0 : (0 : Int32).toInt = 0 := rfl
  have c1 : (1 : Int32).toInt = 1 := rfl
  unfold fX12_lets
  unfold fX12_lets_0
  refine vBindP (fX12_inHall_s hG (by omega) hI) fun v1 ev1 qv1 => ?_
  try dsimp only
  have fv1 := tiB v1
  refine vBindP (fX12_hallOf_s hG (by omega) hI) fun v2 ev2 qv2 => ?_
  try dsimp only
  have fv2 := tiB v2
  refine vLe (fun h3 => ?_) (fun h4 => ?_)
  · unfold fX12_lets_28
    unfold fX12_lets_33
    refine vIn (by omega) (by omega) fun n5 => ?_
    refine vAl (x := (1 : Int32)) (by rfl) ?_
    refine vR fun m6 em6 => ?_
    have hm6 : IR R m6 := by rw [em6]; exact IR_h hI (by omega)
    refine vIn (by omega) (by omega) fun n7 => ?_
    refine vAl (xP_eqE em6) ?_
    refine vEq (fun h8 => ?_) (fun h9 => ?_)
    · exfalso; omega
    · exact vOk_some hm6
  · refine vBindM (fX12_isSome_s hG (by omega) hI) fun v10 m11 hm11 qv10 => ?_
    try dsimp only
    have fv10 := tiB v10
    refine vEq (fun h12 => ?_) (fun h13 => ?_)
    · unfold fX12_lets_33
      refine vIn (by omega) (by omega) fun n14 => ?_
      refine vAl (x := (0 : Int32)) (by rfl) ?_
      refine vR fun m15 em15 => ?_
      have hm15 : IR R m15 := by rw [em15]; exact IR_h hm11 (by omega)
      refine vIn (by omega) (by omega) fun n16 => ?_
      refine vAl (xP_eqE em15) ?_
      refine vEq (fun h17 => ?_) (fun h18 => ?_)
      · refine vBindP (fX12_inHall_s hG (by omega) hm15) fun v19 ev19 qv19 => ?_
        try dsimp only
        have fv19 := tiB v19
        have cF := xFu
        exact fX12_lets_52_s hG _ _ _ _ (by omega) hm15 (by omega)
      · exfalso; omega
    · unfold fX12_lets_28
      unfold fX12_lets_33
      refine vIn (by omega) (by omega) fun n20 => ?_
      refine vAl (x := (1 : Int32)) (by rfl) ?_
      refine vR fun m21 em21 => ?_
      have hm21 : IR R m21 := by rw [em21]; exact IR_h hm11 (by omega)
      refine vIn (by omega) (by omega) fun n22 => ?_
      refine vAl (xP_eqE em21) ?_
      refine vEq (fun h23 => ?_) (fun h24 => ?_)
      · exfalso; omega
      · exact vOk_some hm21
theorem fX12_footOf_s {R : xMem} {a1 : Int32} {m : xMem} (hG : GR R) (hp : (0 ≤ a1.toInt ∧ a1.toInt ≤ 9)) (hI : IR R m) : vOk (PP m (fun x : Int32 => (0 ≤ x.toInt ∧ x.toInt ≤ 5))) (fX12_footOf 291 a1 m) := by
  have ta1 := tiB a1
  have c1 : (1 : Int32).toInt = 1 := rfl
  have c2 : (2 : Int32).toInt = 2 := rfl
  have c5 : (5 : Int32).toInt = 5 := rfl
  unfold fX12_footOf
  unfold fX12_footOf_0
  refine vBindP (fX12_linkOf_s hG (by omega) hI) fun v1 ev1 qv1 => ?_
  try dsimp only
  have fv1 := tiB v1
  refine vNe (fun h2 => ?_) (fun h3 => ?_)
  · unfold fX12_footOf_17
    refine vBindP (fX12_linkOf_c2 hG (by omega) hI) fun v4 ev4 qv4 => ?_
    try dsimp only
    have fv4 := tiB v4
    refine rP ?_
    first | exact True.intro | omega
  · unfold fX12_footOf_17
    refine vBindP (fX12_linkOf_c1 hG (by omega) hI) fun v5 ev5 qv5 => ?_
    try dsimp only
    have fv5 := tiB v5
    refine rP ?_
    first | exact True.intro | omega
theorem fX12_costFrom_s {R : xMem} {a1 : Int32} {a2 : Int32} {a3 : Int32} {m : xMem} (hG : GR R) (hp : (0 ≤ a1.toInt ∧ a1.toInt ≤ 9) ∧ (0 ≤ a3.toInt ∧ a3.toInt ≤ 1)) (hI : IR R m) : vOk (PP m (fun x : Int32 => (x.toInt = -1 ∨ ((0 ≤ a2.toInt ∧ a2.toInt ≤ 5))))) (fX12_costFrom 291 a1 a2 a3 m) := by
  have ta1 := tiB a1
  have ta2 := tiB a2
  have ta3 := tiB a3
  have cm1 : (-1 : Int32).toInt = -1 := rfl
  have c0 : (0 : Int32).toInt = 0 := rfl
  have c1 : (1 : Int32).toInt = 1 := rfl
  have c2 : (2 : Int32).toInt = 2 := rfl
  have c3 : (3 : Int32).toInt = 3 := rfl
  have c4 : (4 : Int32).toInt = 4 := rfl
  have c5 : (5 : Int32).toInt = 5 := rfl
  have c6 : (6 : Int32).toInt = 6 := rfl
  have c7 : (7 : Int32).toInt = 7 := rfl
  have c9 : (9 : Int32).toInt = 9 := rfl
  unfold fX12_costFrom
  unfold fX12_costFrom_0
  refine vNe (fun h1 => ?_) (fun h2 => ?_)
  · refine vBindP (fX12_linkOf_c0 hG (by omega) hI) fun v3 ev3 qv3 => ?_
    try dsimp only
    have fv3 := tiB v3
    refine vLe (fun h4 => ?_) (fun h5 => ?_)
    · unfold fX12_costFrom_97
      unfold fX12_costFrom_98
      refine vEq (fun h6 => ?_) (fun h7 => ?_)
      · unfold fX12_costFrom_132
        unfold fX12_costFrom_133
        refine rP ?_
        first | exact True.intro | omega
      · exfalso; omega
    · refine vBindP (fX12_linkOf_s hG (by omega) hI) fun v8 ev8 qv8 => ?_
      try dsimp only
      have fv8 := tiB v8
      refine vNe (fun h9 => ?_) (fun h10 => ?_)
      · unfold fX12_costFrom_97
        unfold fX12_costFrom_98
        refine vEq (fun h11 => ?_) (fun h12 => ?_)
        · unfold fX12_costFrom_132
          unfold fX12_costFrom_133
          refine rP ?_
          first | exact True.intro | omega
        · exfalso; omega
      · refine vBindP (fX12_linkOf_s hG (by omega) hI) fun v13 ev13 qv13 => ?_
        try dsimp only
        have fv13 := tiB v13
        refine vNe (fun h14 => ?_) (fun h15 => ?_)
        · unfold fX12_costFrom_97
          unfold fX12_costFrom_98
          refine vEq (fun h16 => ?_) (fun h17 => ?_)
          · unfold fX12_costFrom_132
            unfold fX12_costFrom_133
            refine rP ?_
            first | exact True.intro | omega
          · exfalso; omega
        · refine vBindP (fX12_linkOf_s hG (by omega) hI) fun v18 ev18 qv18 => ?_
          try dsimp only
          have fv18 := tiB v18
          refine vBindP (fX12_linkOf_s hG (by omega) hI) fun v19 ev19 qv19 => ?_
          try dsimp only
          have fv19 := tiB v19
          refine vNe (fun h20 => ?_) (fun h21 => ?_)
          · unfold fX12_costFrom_97
            unfold fX12_costFrom_98
            refine vEq (fun h22 => ?_) (fun h23 => ?_)
            · unfold fX12_costFrom_132
              unfold fX12_costFrom_133
              refine rP ?_
              first | exact True.intro | omega
            · exfalso; omega
          · unfold fX12_costFrom_98
            refine vEq (fun h24 => ?_) (fun h25 => ?_)
            · exfalso; omega
            · refine vBindP (fX12_footOf_s hG (by omega) hI) fun v26 ev26 qv26 => ?_
              try dsimp only
              have fv26 := tiB v26
              refine vNe (fun h27 => ?_) (fun h28 => ?_)
              · unfold fX12_costFrom_132
                unfold fX12_costFrom_133
                refine rP ?_
                first | exact True.intro | omega
              · refine vBindP (fX12_linkOf_c3 hG (by omega) hI) fun v29 ev29 qv29 => ?_
                try dsimp only
                have fv29 := tiB v29
                refine vAlB ev3 ?_
                try dsimp only
                refine vA (by omega) fun v31 ev31 fv31 => ?_
                refine vI fun v32 ev32 fv32 => ?_
                unfold fX12_costFrom_133
                refine rP ?_
                first | exact True.intro | omega
  · refine vBindP (fX12_linkOf_c0 hG (by omega) hI) fun v33 ev33 qv33 => ?_
    try dsimp only
    have fv33 := tiB v33
    refine vNe (fun h34 => ?_) (fun h35 => ?_)
    · unfold fX12_costFrom_44
      unfold fX12_costFrom_45
      refine rP ?_
      first | exact True.intro | omega
    · refine vBindP (fX12_linkOf_c1 hG (by omega) hI) fun v36 ev36 qv36 => ?_
      try dsimp only
      have fv36 := tiB v36
      refine vEq (fun h37 => ?_) (fun h38 => ?_)
      · unfold fX12_costFrom_35
        refine vBindP (fX12_linkOf_c4 hG (by omega) hI) fun v39 ev39 qv39 => ?_
        try dsimp only
        have fv39 := tiB v39
        unfold fX12_costFrom_45
        refine rP ?_
        first | exact True.intro | omega
      · refine vBindP (fX12_linkOf_c2 hG (by omega) hI) fun v40 ev40 qv40 => ?_
        try dsimp only
        have fv40 := tiB v40
        refine vNe (fun h41 => ?_) (fun h42 => ?_)
        · unfold fX12_costFrom_44
          unfold fX12_costFrom_45
          refine rP ?_
          first | exact True.intro | omega
        · unfold fX12_costFrom_35
          refine vBindP (fX12_linkOf_c4 hG (by omega) hI) fun v43 ev43 qv43 => ?_
          try dsimp only
          have fv43 := tiB v43
          unfold fX12_costFrom_45
          refine rP ?_
          first | exact True.intro | omega
theorem fX12_otherEnd_s {R : xMem} {a1 : Int32} {a2 : Int32} {m : xMem} (hG : GR R) (hp : (0 ≤ a1.toInt ∧ a1.toInt ≤ 9)) (hI : IR R m) : vOk (PP m (fun x : Int32 => (0 ≤ x.toInt ∧ x.toInt ≤ 5))) (fX12_otherEnd 291 a1 a2 m) := by
  have ta1 := tiB a1
  have ta2 := tiB a2
  have c1 : (1 : Int32).toInt = 1 := rfl
  have c2 : (2 : Int32).toInt = 2 := rfl
  unfold fX12_otherEnd
  unfold fX12_otherEnd_0
  refine vBindP (fX12_linkOf_c1 hG (by omega) hI) fun v1 ev1 qv1 => ?_
  try dsimp only
  have fv1 := tiB v1
  refine vNe (fun h2 => ?_) (fun h3 => ?_)
  · refine vAlB ev1 ?_
    try dsimp only
    unfold fX12_otherEnd_25
    refine rP ?_
    first | exact True.intro | omega
  · refine vBindP (fX12_linkOf_c2 hG (by omega) hI) fun v5 ev5 qv5 => ?_
    try dsimp only
    have fv5 := tiB v5
    unfold fX12_otherEnd_25
    refine rP ?_
    first | exact True.intro | omega
theorem fX12_routes_57_s {R : xMem} {a1 : Int32} {a2 : Int32} {rec34 : Int32 → xMem → Option xMem} {rec43 : Int32 → Int32 → xMem → Option xMem} {M34 : Int} {M43 : Int} (hG : GR R) (hrec34 : ∀ (l3 : Int32) (m : xMem), ((0 ≤ a1.toInt ∧ a1.toInt ≤ 5) ∧ (0 ≤ a2.toInt ∧ a2.toInt ≤ 1) ∧ (0 ≤ l3.toInt ∧ l3.toInt ≤ 6)) → IR R m → 2147483648 - l3.toInt < M34 → vOk (IR R) (rec34 l3 m)) (hrec43 : ∀ (l3 : Int32) (l4 : Int32) (m : xMem), ((0 ≤ a1.toInt ∧ a1.toInt ≤ 5) ∧ (0 ≤ a2.toInt ∧ a2.toInt ≤ 1) ∧ (0 ≤ l3.toInt ∧ l3.toInt ≤ 5) ∧ (0 ≤ l4.toInt ∧ l4.toInt ≤ 10)) → IR R m → 2147483648 - l3.toInt ≤ M34 → 2147483648 - l4.toInt < M43 → vOk (IR R) (rec43 l3 l4 m)) : ∀ (fuel : Nat), ∀ (l3 : Int32) (l4 : Int32) (l5 : Int32) (m : xMem), ((0 ≤ a1.toInt ∧ a1.toInt ≤ 5) ∧ (0 ≤ a2.toInt ∧ a2.toInt ≤ 1) ∧ (0 ≤ l3.toInt ∧ l3.toInt ≤ 5) ∧ (0 ≤ l4.toInt ∧ l4.toInt ≤ 9) ∧ (0 ≤ l5.toInt ∧ l5.toInt ≤ 6)) → IR R m → 2147483648 - l3.toInt ≤ M34 → 2147483648 - l4.toInt ≤ M43 → 2147483648 - l5.toInt < (fuel : Int) → vOk (IR R) (fX12_routes_57 291 a1 a2 rec34 rec43 fuel l3 l4 l5 m) := by
  intro fuel
  induction fuel with
  | zero =>
    intro l3 l4 l5 m hp hI hM34 hM43 hmu
    have ta1 := tiB a1
    have ta2 := tiB a2
    have tl3 := tiB l3
    have tl4 := tiB l4
    have tl5 := tiB l5
    exfalso; omega
  | succ fuel ih =>
    intro l3 l4 l5 m hp hI hM34 hM43 hmu
    have ta1 := tiB a1
    have ta2 := tiB a2
    have tl3 := tiB l3
    have tl4 := tiB l4
    have tl5 := tiB l5
    have cm1 : (-1 : Int32).toInt = -1 := rfl
    have c1 : (1 : Int32).toInt = 1 := rfl
    have c1000000000 : (1000000000 : Int32).toInt = 1000000000 := rfl
    rw [fX12_routes_57]
    refine vIn (by omega) (by omega) fun n1 => ?_
    refine vR fun v2 ev2 => ?_
    have fv2 : bw (0) 6 v2 := by rw [ev2]; exact rdc1 hG hI (by omega)
    refine vLe (fun h3 => ?_) (fun h4 => ?_)
    · refine vA (by omega) fun v5 ev5 fv5 => ?_
      exact hrec43 _ _ _ (by omega) hI (by omega) (by omega)
    · refine vBindP (fX12_costFrom_s hG (by omega) hI) fun v6 ev6 qv6 => ?_
      try dsimp only
      have fv6 := tiB v6
      refine vNe (fun h7 => ?_) (fun h8 => ?_)
      · have g9 := qv6.resolve_left (by omega)
        refine vBindP (fX12_otherEnd_s hG (by omega) hI) fun v10 ev10 qv10 => ?_
        try dsimp only
        have fv10 := tiB v10
        refine vIn (by omega) (by omega) fun n11 => ?_
        refine vR fun v12 ev12 => ?_
        have fv12 := tiB v12
        unfold fX12_routes_104
        refine vLe (fun h13 => ?_) (fun h14 => ?_)
        · unfold fX12_routes_141
          refine vA (by omega) fun v15 ev15 fv15 => ?_
          exact ih _ _ _ _ (by omega) hI (by omega) (by omega) (by omega)
        · refine vI fun v16 ev16 fv16 => ?_
          refine vIn (by omega) (by omega) fun n17 => ?_
          refine vR fun v18 ev18 => ?_
          have fv18 := tiB v18
          refine vLe (fun h19 => ?_) (fun h20 => ?_)
          · unfold fX12_routes_141
            refine vA (by omega) fun v21 ev21 fv21 => ?_
            exact ih _ _ _ _ (by omega) hI (by omega) (by omega) (by omega)
          · refine vAl ev16 ?_
            refine vIn (by omega) (by omega) fun n22 => ?_
            refine vR fun m23 em23 => ?_
            have hm23 : IR R m23 := by rw [em23]; exact IR_f hI (by omega)
            unfold fX12_routes_141
            refine vA (by omega) fun v24 ev24 fv24 => ?_
            exact ih _ _ _ _ (by omega) hm23 (by omega) (by omega) (by omega)
      · unfold fX12_routes_104
        refine vLe (fun h25 => ?_) (fun h26 => ?_)
        · unfold fX12_routes_141
          refine vA (by omega) fun v27 ev27 fv27 => ?_
          exact ih _ _ _ _ (by omega) hI (by omega) (by omega) (by omega)
        · exfalso; omega
theorem fX12_routes_43_s {R : xMem} {a1 : Int32} {a2 : Int32} {rec34 : Int32 → xMem → Option xMem} {M34 : Int} (hG : GR R) (hrec34 : ∀ (l3 : Int32) (m : xMem), ((0 ≤ a1.toInt ∧ a1.toInt ≤ 5) ∧ (0 ≤ a2.toInt ∧ a2.toInt ≤ 1) ∧ (0 ≤ l3.toInt ∧ l3.toInt ≤ 6)) → IR R m → 2147483648 - l3.toInt < M34 → vOk (IR R) (rec34 l3 m)) : ∀ (fuel : Nat), ∀ (l3 : Int32) (l4 : Int32) (m : xMem), ((0 ≤ a1.toInt ∧ a1.toInt ≤ 5) ∧ (0 ≤ a2.toInt ∧ a2.toInt ≤ 1) ∧ (0 ≤ l3.toInt ∧ l3.toInt ≤ 5) ∧ (0 ≤ l4.toInt ∧ l4.toInt ≤ 10)) → IR R m → 2147483648 - l3.toInt ≤ M34 → 2147483648 - l4.toInt < (fuel : Int) → vOk (IR R) (fX12_routes_43 291 a1 a2 rec34 fuel l3 l4 m) := by
  intro fuel
  induction fuel with
  | zero =>
    intro l3 l4 m hp hI hM34 hmu
    have ta1 := tiB a1
    have ta2 := tiB a2
    have tl3 := tiB l3
    have tl4 := tiB l4
    exfalso; omega
  | succ fuel ih =>
    intro l3 l4 m hp hI hM34 hmu
    have ta1 := tiB a1
    have ta2 := tiB a2
    have tl3 := tiB l3
    have tl4 := tiB l4
    have c0 : (0 : Int32).toInt = 0 := rfl
    have c1 : (1 : Int32).toInt = 1 := rfl
    have c2 : (2 : Int32).toInt = 2 := rfl
    rw [fX12_routes_43]
    refine vIn (by omega) (by omega) fun n1 => ?_
    refine vR fun v2 ev2 => ?_
    have fv2 : bw (0) 10 v2 := by rw [ev2]; exact rdc2 hG hI (by omega)
    refine vLe (fun h3 => ?_) (fun h4 => ?_)
    · refine vA (by omega) fun v5 ev5 fv5 => ?_
      exact hrec34 _ _ (by omega) hI (by omega)
    · have cF := xFu
      exact fX12_routes_57_s hG hrec34 ih _ _ _ _ _ (by omega) hI (by omega) (by omega) (by omega)
theorem fX12_routes_194_s {R : xMem} {a1 : Int32} {a2 : Int32} {rec161 : Int32 → xMem → Option xMem} {M161 : Int} (hG : GR R) (hrec161 : ∀ (l3 : Int32) (m : xMem), ((0 ≤ a1.toInt ∧ a1.toInt ≤ 5) ∧ (0 ≤ a2.toInt ∧ a2.toInt ≤ 1) ∧ (0 ≤ l3.toInt ∧ l3.toInt ≤ 6)) → IR R m → 2147483648 - l3.toInt < M161 → vOk (IR R) (rec161 l3 m)) : ∀ (fuel : Nat), ∀ (l3 : Int32) (l4 : Int32) (m : xMem), ((0 ≤ a1.toInt ∧ a1.toInt ≤ 5) ∧ (0 ≤ a2.toInt ∧ a2.toInt ≤ 1) ∧ (0 ≤ l3.toInt ∧ l3.toInt ≤ 5) ∧ (-1 ≤ l4.toInt ∧ l4.toInt ≤ 9)) → IR R m → 2147483648 - l3.toInt ≤ M161 → l4.toInt + 2147483649 < (fuel : Int) → vOk (IR R) (fX12_routes_194 291 a1 a2 rec161 fuel l3 l4 m) := by
  intro fuel
  induction fuel with
  | zero =>
    intro l3 l4 m hp hI hM161 hmu
    have ta1 := tiB a1
    have ta2 := tiB a2
    have tl3 := tiB l3
    have tl4 := tiB l4
    exfalso; omega
  | succ fuel ih =>
    intro l3 l4 m hp hI hM161 hmu
    have ta1 := tiB a1
    have ta2 := tiB a2
    have tl3 := tiB l3
    have tl4 := tiB l4
    have cm1 : (-1 : Int32).toInt = -1 := rfl
    have c0 : (0 : Int32).toInt = 0 := rfl
    have c1 : (1 : Int32).toInt = 1 := rfl
    have c6 : (6 : Int32).toInt = 6 := rfl
    have c36 : (36 : Int32).toInt = 36 := rfl
    have c1000000000 : (1000000000 : Int32).toInt = 1000000000 := rfl
    rw [fX12_routes_194]
    refine vLt (fun h1 => ?_) (fun h2 => ?_)
    · unfold fX12_routes_286
      refine vA (by omega) fun v3 ev3 fv3 => ?_
      exact hrec161 _ _ (by omega) hI (by omega)
    · refine vEq (fun h4 => ?_) (fun h5 => ?_)
      · unfold fX12_routes_286
        refine vA (by omega) fun v6 ev6 fv6 => ?_
        exact hrec161 _ _ (by omega) hI (by omega)
      · refine vBindP (fX12_costFrom_s hG (by omega) hI) fun v7 ev7 qv7 => ?_
        try dsimp only
        have fv7 := tiB v7
        refine vEq (fun h8 => ?_) (fun h9 => ?_)
        · unfold fX12_routes_280
          refine vA (by omega) fun v10 ev10 fv10 => ?_
          exact ih _ _ _ (by omega) hI (by omega) (by omega)
        · have g11 := qv7.resolve_left (by omega)
          refine vBindP (fX12_otherEnd_s hG (by omega) hI) fun v12 ev12 qv12 => ?_
          try dsimp only
          have fv12 := tiB v12
          refine vIn (by omega) (by omega) fun n13 => ?_
          refine vR fun v14 ev14 => ?_
          have fv14 := tiB v14
          refine vLe (fun h15 => ?_) (fun h16 => ?_)
          · unfold fX12_routes_280
            refine vA (by omega) fun v17 ev17 fv17 => ?_
            exact ih _ _ _ (by omega) hI (by omega) (by omega)
          · refine vAlB ev12 ?_
            try dsimp only
            refine vIn (by omega) (by omega) fun n19 => ?_
            refine vAl (ev14) ?_
            refine vI fun v20 ev20 fv20 => ?_
            refine vIn (by omega) (by omega) fun n21 => ?_
            refine vR fun v22 ev22 => ?_
            have fv22 := tiB v22
            refine vNe (fun h23 => ?_) (fun h24 => ?_)
            · unfold fX12_routes_280
              refine vA (by omega) fun v25 ev25 fv25 => ?_
              exact ih _ _ _ (by omega) hI (by omega) (by omega)
            · refine vM (v := 36 * a2.toInt) (by rw [c36]) (by omega) fun v26 ev26 fv26 => ?_
              refine vM (v := 6 * a1.toInt) (by rw [c6]) (by omega) fun v27 ev27 fv27 => ?_
              refine vA (by omega) fun v28 ev28 fv28 => ?_
              refine vA (by omega) fun v29 ev29 fv29 => ?_
              refine vIn (by omega) (by omega) fun n30 => ?_
              refine vR fun m31 em31 => ?_
              have hm31 : IR R m31 := by rw [em31]; exact IR_f hI (by omega)
              unfold fX12_routes_280
              refine vA (by omega) fun v32 ev32 fv32 => ?_
              exact ih _ _ _ (by omega) hm31 (by omega) (by omega)
theorem fX12_routes_161_s {R : xMem} {a1 : Int32} {a2 : Int32} (hG : GR R) : ∀ (fuel : Nat), ∀ (l3 : Int32) (m : xMem), ((0 ≤ a1.toInt ∧ a1.toInt ≤ 5) ∧ (0 ≤ a2.toInt ∧ a2.toInt ≤ 1) ∧ (0 ≤ l3.toInt ∧ l3.toInt ≤ 6)) → IR R m → 2147483648 - l3.toInt < (fuel : Int) → vOk (IR R) (fX12_routes_161 291 a1 a2 fuel l3 m) := by
  intro fuel
  induction fuel with
  | zero =>
    intro l3 m hp hI hmu
    have ta1 := tiB a1
    have ta2 := tiB a2
    have tl3 := tiB l3
    exfalso; omega
  | succ fuel ih =>
    intro l3 m hp hI hmu
    have ta1 := tiB a1
    have ta2 := tiB a2
    have tl3 := tiB l3
    have cm1 : (-1 : Int32).toInt = -1 := rfl
    have c1 : (1 : Int32).toInt = 1 := rfl
    have c2 : (2 : Int32).toInt = 2 := rfl
    have c6 : (6 : Int32).toInt = 6 := rfl
    have c36 : (36 : Int32).toInt = 36 := rfl
    rw [fX12_routes_161]
    refine vLe (fun h1 => ?_) (fun h2 => ?_)
    · exact vOk_some hI
    · refine vM (v := 36 * a2.toInt) (by rw [c36]) (by omega) fun v3 ev3 fv3 => ?_
      refine vM (v := 6 * a1.toInt) (by rw [c6]) (by omega) fun v4 ev4 fv4 => ?_
      refine vA (by omega) fun v5 ev5 fv5 => ?_
      refine vA (by omega) fun v6 ev6 fv6 => ?_
      refine vIn (by omega) (by omega) fun n7 => ?_
      refine vR fun m8 em8 => ?_
      have hm8 : IR R m8 := by rw [em8]; exact IR_f hI (by omega)
      refine vIn (by omega) (by omega) fun n9 => ?_
      refine vR fun v10 ev10 => ?_
      have fv10 : bw (0) 10 v10 := by rw [ev10]; exact rdc2 hG hm8 (by omega)
      refine vS (by omega) fun v11 ev11 fv11 => ?_
      have cF := xFu
      exact fX12_routes_194_s hG ih _ _ _ _ (by omega) hm8 (by omega) (by omega)
theorem fX12_routes_34_s {R : xMem} {a1 : Int32} {a2 : Int32} (hG : GR R) : ∀ (fuel : Nat), ∀ (l3 : Int32) (m : xMem), ((0 ≤ a1.toInt ∧ a1.toInt ≤ 5) ∧ (0 ≤ a2.toInt ∧ a2.toInt ≤ 1) ∧ (0 ≤ l3.toInt ∧ l3.toInt ≤ 6)) → IR R m → 2147483648 - l3.toInt < (fuel : Int) → vOk (IR R) (fX12_routes_34 291 a1 a2 fuel l3 m) := by
  intro fuel
  induction fuel with
  | zero =>
    intro l3 m hp hI hmu
    have ta1 := tiB a1
    have ta2 := tiB a2
    have tl3 := tiB l3
    exfalso; omega
  | succ fuel ih =>
    intro l3 m hp hI hmu
    have ta1 := tiB a1
    have ta2 := tiB a2
    have tl3 := tiB l3
    have c0 : (0 : Int32).toInt = 0 := rfl
    have c6 : (6 : Int32).toInt = 6 := rfl
    rw [fX12_routes_34]
    refine vLe (fun h1 => ?_) (fun h2 => ?_)
    · have cF := xFu
      exact fX12_routes_161_s hG _ _ _ (by omega) hI (by omega)
    · have cF := xFu
      exact fX12_routes_43_s hG ih _ _ _ _ (by omega) hI (by omega) (by omega)
theorem fX12_routes_2_s {R : xMem} {a1 : Int32} {a2 : Int32} (hG : GR R) : ∀ (fuel : Nat), ∀ (l3 : Int32) (m : xMem), ((0 ≤ a1.toInt ∧ a1.toInt ≤ 5) ∧ (0 ≤ a2.toInt ∧ a2.toInt ≤ 1) ∧ (0 ≤ l3.toInt ∧ l3.toInt ≤ 6)) → IR R m → 2147483648 - l3.toInt < (fuel : Int) → vOk (IR R) (fX12_routes_2 291 a1 a2 fuel l3 m) := by
  intro fuel
  induction fuel with
  | zero =>
    intro l3 m hp hI hmu
    have ta1 := tiB a1
    have ta2 := tiB a2
    have tl3 := tiB l3
    exfalso; omega
  | succ fuel ih =>
    intro l3 m hp hI hmu
    have ta1 := tiB a1
    have ta2 := tiB a2
    have tl3 := tiB l3
    have c0 : (0 : Int32).toInt = 0 := rfl
    have c1 : (1 : Int32).toInt = 1 := rfl
    have c6 : (6 : Int32).toInt = 6 := rfl
    have c1000000000 : (1000000000 : Int32).toInt = 1000000000 := rfl
    rw [fX12_routes_2]
    refine vLe (fun h1 => ?_) (fun h2 => ?_)
    · have cF := xFu
      exact fX12_routes_34_s hG _ _ _ (by omega) hI (by omega)
    · refine vNe (fun h3 => ?_) (fun h4 => ?_)
      · unfold fX12_routes_25
        refine vIn (by omega) (by omega) fun n5 => ?_
        refine vR fun m6 em6 => ?_
        have hm6 : IR R m6 := by rw [em6]; exact IR_f hI (by omega)
        refine vA (by omega) fun v7 ev7 fv7 => ?_
        exact ih _ _ (by omega) hm6 (by omega)
      · unfold fX12_routes_25
        refine vIn (by omega) (by omega) fun n8 => ?_
        refine vR fun m9 em9 => ?_
        have hm9 : IR R m9 := by rw [em9]; exact IR_f hI (by omega)
        refine vA (by omega) fun v10 ev10 fv10 => ?_
        exact ih _ _ (by omega) hm9 (by omega)
theorem fX12_routes_s {R : xMem} {a1 : Int32} {a2 : Int32} {m : xMem} (hG : GR R) (hp : (0 ≤ a1.toInt ∧ a1.toInt ≤ 5) ∧ (0 ≤ a2.toInt ∧ a2.toInt ≤ 1)) (hI : IR R m) : vOk (IR R) (fX12_routes 291 a1 a2 m) := by
  have ta1 := tiB a1
  have ta2 := tiB a2
  have c0 : (0 : Int32).toInt = 0 := rfl
  unfold fX12_routes
  unfold fX12_routes_0
  have cF := xFu
  exact fX12_routes_2_s hG _ _ _ (by omega) hI (by omega)
theorem fX12_allRoutes_2_s {R : xMem} (hG : GR R) : ∀ (fuel : Nat), ∀ (l1 : Int32) (m : xMem), ((0 ≤ l1.toInt ∧ l1.toInt ≤ 6)) → IR R m → 2147483648 - l1.toInt < (fuel : Int) → vOk (IR R) (fX12_allRoutes_2 291 fuel l1 m) := by
  intro fuel
  induction fuel with
  | zero =>
    intro l1 m hp hI hmu
    have tl1 := tiB l1
    exfalso; omega
  | succ fuel ih =>
    intro l1 m hp hI hmu
    have tl1 := tiB l1
    have c0 : (0 : Int32).toInt = 0 := rfl
    have c1 : (1 : Int32).toInt = 1 := rfl
    rw [fX12_allRoutes_2]
    refine vIn (by omega) (by omega) fun n1 => ?_
    refine vR fun v2 ev2 => ?_
    have fv2 : bw (0) 6 v2 := by rw [ev2]; exact rdc1 hG hI (by omega)
    refine vLe (fun h3 => ?_) (fun h4 => ?_)
    · exact vOk_some hI
    · refine vOk_bind (fX12_routes_s hG (by omega) hI) fun m5 hm5 => ?_
      refine vOk_bind (fX12_routes_s hG (by omega) hm5) fun m6 hm6 => ?_
      refine vA (by omega) fun v7 ev7 fv7 => ?_
      exact ih _ _ (by omega) hm6 (by omega)
theorem fX12_allRoutes_s {R : xMem} {m : xMem} (hG : GR R) (hI : IR R m) : vOk (IR R) (fX12_allRoutes 291 m) := by
  have c0 : (0 : Int32).toInt = 0 := rfl
  unfold fX12_allRoutes
  unfold fX12_allRoutes_0
  have cF := xFu
  exact fX12_allRoutes_2_s hG _ _ _ (by omega) hI (by omega)
theorem fX12_walkOf_66_s {R : xMem} {a1 : Int32} (hG : GR R) : ∀ (fuel : Nat), ∀ (l2 : Int32) (l3 : Int64) (l5 : Int32) (m : xMem), ((0 ≤ a1.toInt ∧ a1.toInt ≤ 9) ∧ (-1 ≤ l2.toInt ∧ l2.toInt ≤ 3) ∧ (0 ≤ l5.toInt ∧ l5.toInt ≤ 10)) → IR R m → 2147483648 - l5.toInt < (fuel : Int) → vOk (PM (IR R) (fun _ : Int32 => True)) (fX12_walkOf_66 291 a1 fuel l2 l3 l5 m) := by
  intro fuel
  induction fuel with
  | zero =>
    intro l2 l3 l5 m hp hI hmu
    have ta1 := tiB a1
    have tl2 := tiB l2
    have tl5 := tiB l5
    exfalso; omega
  | succ fuel ih =>
    intro l2 l3 l5 m hp hI hmu
    have ta1 := tiB a1
    have tl2 := tiB l2
    have tl5 := tiB l5
    have cm1 : (-1 : Int32).toInt = -1 := rfl
    have c0 : (0 : Int32).toInt = 0 := rfl
    have c1 : (1 : Int32).toInt = 1 := rfl
    have c10 : (10 : Int32).toInt = 10 := rfl
    rw [fX12_walkOf_66]
    refine vEq (fun h1 => ?_) (fun h2 => ?_)
    · unfold fX12_walkOf_124
      refine vR fun v3 ev3 => ?_
      have fv3 := tiB v3
      refine vLe (fun h4 => ?_) (fun h5 => ?_)
      · refine vI fun v6 ev6 fv6 => ?_
        refine vLe (fun h7 => ?_) (fun h8 => ?_)
        · refine vI fun v9 ev9 fv9 => ?_
          unfold fX12_walkOf_149
          refine rM hI ?_
          first | exact True.intro | omega
        · unfold fX12_walkOf_149
          refine rM hI ?_
          first | exact True.intro | omega
      · unfold fX12_walkOf_149
        refine rM hI ?_
        first | exact True.intro | omega
    · refine vIn (by omega) (by omega) fun n10 => ?_
      refine vR fun v11 ev11 => ?_
      have fv11 : bw (0) 10 v11 := by rw [ev11]; exact rdt hG hI
      refine vLe (fun h12 => ?_) (fun h13 => ?_)
      · unfold fX12_walkOf_124
        refine vR fun v14 ev14 => ?_
        have fv14 := tiB v14
        refine vLe (fun h15 => ?_) (fun h16 => ?_)
        · refine vI fun v17 ev17 fv17 => ?_
          refine vLe (fun h18 => ?_) (fun h19 => ?_)
          · refine vI fun v20 ev20 fv20 => ?_
            unfold fX12_walkOf_149
            refine rM hI ?_
            first | exact True.intro | omega
          · unfold fX12_walkOf_149
            refine rM hI ?_
            first | exact True.intro | omega
        · unfold fX12_walkOf_149
          refine rM hI ?_
          first | exact True.intro | omega
      · refine vM (v := 10 * l2.toInt) (by rw [c10]) (by omega) fun v21 ev21 fv21 => ?_
        refine vA (by omega) fun v22 ev22 fv22 => ?_
        refine vIn (by omega) (by omega) fun n23 => ?_
        refine vR fun v24 ev24 => ?_
        have fv24 := tiB v24
        refine vNe (fun h25 => ?_) (fun h26 => ?_)
        · unfold fX12_walkOf_117
          refine vA (by omega) fun v27 ev27 fv27 => ?_
          exact ih _ _ _ _ (by omega) hI (by omega)
        · refine vAl ev21 ?_
          refine vAl ev22 ?_
          refine vIn (by omega) (by omega) fun n28 => ?_
          refine vR fun v29 ev29 => ?_
          have fv29 := tiB v29
          have hvc : VC R v29 := vtc hG hI (t := l2) (i := v22) (k := l5) ev11 ev29 (by omega) (by omega) (by omega)
          refine vBindM (fX12_saysOf_s hG hvc hI) fun v30 m31 hm31 qv30 => ?_
          try dsimp only
          unfold fX12_walkOf_117
          refine vA (by omega) fun v32 ev32 fv32 => ?_
          exact ih _ _ _ _ (by omega) hm31 (by omega)
theorem fX12_walkOf_s {R : xMem} {a1 : Int32} {m : xMem} (hG : GR R) (hp : (0 ≤ a1.toInt ∧ a1.toInt ≤ 9)) (hI : IR R m) : vOk (PM (IR R) (fun _ : Int32 => True)) (fX12_walkOf 291 a1 m) := by
  have ta1 := tiB a1
  have c0 : (0 : Int32).toInt = 0 := rfl
  have c3 : (3 : Int32).toInt = 3 := rfl
  have c5 : (5 : Int32).toInt = 5 := rfl
  have c6 : (6 : Int32).toInt = 6 := rfl
  have c7 : (7 : Int32).toInt = 7 := rfl
  unfold fX12_walkOf
  unfold fX12_walkOf_0
  refine vIn (by omega) (by omega) fun n1 => ?_
  refine vR fun v2 ev2 => ?_
  have fv2 : bw (-1) 3 v2 := by rw [ev2]; exact rdc5 hG hI (by omega)
  refine vIn (by omega) (by omega) fun n3 => ?_
  refine vR fun v4 ev4 => ?_
  have fv4 := tiB v4
  refine vIn (by omega) (by omega) fun n5 => ?_
  refine vR fun m6 em6 => ?_
  have hm6 : IR R m6 := by rw [em6]; exact IR_f hI (by omega)
  refine vBindP (fX12_linkOf_c3 hG (by omega) hm6) fun v7 ev7 qv7 => ?_
  try dsimp only
  have fv7 := tiB v7
  refine vIn (by omega) (by omega) fun n8 => ?_
  refine vR fun m9 em9 => ?_
  have hm9 : IR R m9 := by rw [em9]; exact IR_f hm6 (by omega)
  refine vBindP (fX12_loadOf_s hG (by omega) hm9) fun v10 ev10 qv10 => ?_
  try dsimp only
  have fv10 := tiB v10
  refine vIn (by omega) (by omega) fun n11 => ?_
  refine vR fun m12 em12 => ?_
  have hm12 : IR R m12 := by rw [em12]; exact IR_f hm9 (by omega)
  refine vBindP (fX12_footOf_s hG (by omega) hm12) fun v13 ev13 qv13 => ?_
  try dsimp only
  have fv13 := tiB v13
  refine vBindP (fX12_inHall_s hG (by omega) hm12) fun v14 ev14 qv14 => ?_
  try dsimp only
  have fv14 := tiB v14
  refine vIn (by omega) (by omega) fun n15 => ?_
  refine vR fun m16 em16 => ?_
  have hm16 : IR R m16 := by rw [em16]; exact IR_f hm12 (by omega)
  have cF := xFu
  exact fX12_walkOf_66_s hG _ _ _ _ _ (by omega) hm16 (by omega)
theorem fX12_headOf_s {R : xMem} {a1 : Int32} {m : xMem} (hG : GR R) (hp : (0 ≤ a1.toInt ∧ a1.toInt ≤ 9)) (hI : IR R m) : vOk (PP m (fun x : Int32 => (0 ≤ x.toInt ∧ x.toInt ≤ 5))) (fX12_headOf 291 a1 m) := by
  have ta1 := tiB a1
  have c1 : (1 : Int32).toInt = 1 := rfl
  have c2 : (2 : Int32).toInt = 2 := rfl
  have c5 : (5 : Int32).toInt = 5 := rfl
  unfold fX12_headOf
  unfold fX12_headOf_0
  refine vBindP (fX12_linkOf_s hG (by omega) hI) fun v1 ev1 qv1 => ?_
  try dsimp only
  have fv1 := tiB v1
  refine vNe (fun h2 => ?_) (fun h3 => ?_)
  · unfold fX12_headOf_17
    refine vBindP (fX12_linkOf_c1 hG (by omega) hI) fun v4 ev4 qv4 => ?_
    try dsimp only
    have fv4 := tiB v4
    refine rP ?_
    first | exact True.intro | omega
  · unfold fX12_headOf_17
    refine vBindP (fX12_linkOf_c2 hG (by omega) hI) fun v5 ev5 qv5 => ?_
    try dsimp only
    have fv5 := tiB v5
    refine rP ?_
    first | exact True.intro | omega
theorem fX12_stepsOff_s {R : xMem} {a1 : Int32} {a2 : Int32} {m : xMem} (hG : GR R) (hp : (0 ≤ a1.toInt ∧ a1.toInt ≤ 9) ∧ (0 ≤ a2.toInt ∧ a2.toInt ≤ 15)) (hI : IR R m) : vOk (PM (IR R) (fun x : Int32 => (0 ≤ x.toInt ∧ x.toInt ≤ 1))) (fX12_stepsOff 291 a1 a2 m) := by
  have ta1 := tiB a1
  have ta2 := tiB a2
  have c0 : (0 : Int32).toInt = 0 := rfl
  have c1 : (1 : Int32).toInt = 1 := rfl
  have c10 : (10 : Int32).toInt = 10 := rfl
  have c11 : (11 : Int32).toInt = 11 := rfl
  unfold fX12_stepsOff
  unfold fX12_stepsOff_0
  refine vBindP (fX12_headOf_s hG (by omega) hI) fun v1 ev1 qv1 => ?_
  try dsimp only
  have fv1 := tiB v1
  refine vRem (n := 10) (by omega) (by rfl) (by decide) fun v2 ev2 fv2 => ?_
  refine vEq (fun h3 => ?_) (fun h4 => ?_)
  · unfold fX12_stepsOff_34
    refine vOk_bind (fX12_comes_s hG (by omega) hI) fun m5 hm5 => ?_
    refine vBindP (fX12_linkOf_s hG (by omega) hm5) fun v6 ev6 qv6 => ?_
    try dsimp only
    have fv6 := tiB v6
    refine vI fun v7 ev7 fv7 => ?_
    refine vOk_bind (fX12_tells_s hG (by omega) hm5) fun m8 hm8 => ?_
    refine rM hm8 ?_
    first | exact True.intro | omega
  · refine vBindP (fX12_inHall_s hG (by omega) hI) fun v9 ev9 qv9 => ?_
    try dsimp only
    have fv9 := tiB v9
    refine vBindP (fX12_hallOf_s hG (by omega) hI) fun v10 ev10 qv10 => ?_
    try dsimp only
    have fv10 := tiB v10
    refine vLt (fun h11 => ?_) (fun h12 => ?_)
    · unfold fX12_stepsOff_34
      refine vOk_bind (fX12_comes_s hG (by omega) hI) fun m13 hm13 => ?_
      refine vBindP (fX12_linkOf_s hG (by omega) hm13) fun v14 ev14 qv14 => ?_
      try dsimp only
      have fv14 := tiB v14
      refine vI fun v15 ev15 fv15 => ?_
      refine vOk_bind (fX12_tells_s hG (by omega) hm13) fun m16 hm16 => ?_
      refine rM hm16 ?_
      first | exact True.intro | omega
    · refine rM hI ?_
      first | exact True.intro | omega
theorem fX12_placeOf_s {R : xMem} {a1 : Int32} {a2 : Int32} {a3 : Int32} {m : xMem} (hG : GR R) (hp : (0 ≤ a1.toInt ∧ a1.toInt ≤ 9) ∧ (0 ≤ a2.toInt ∧ a2.toInt ≤ 1) ∧ (0 ≤ a3.toInt ∧ a3.toInt ≤ 39)) (hI : IR R m) : vOk (PP m (fun x : Int32 => (580 ≤ x.toInt ∧ x.toInt ≤ 1379) ∧ (x.toInt = 580 + 80 * a1.toInt + 40 * a2.toInt + a3.toInt))) (fX12_placeOf 291 a1 a2 a3 m) := by
  have ta1 := tiB a1
  have ta2 := tiB a2
  have ta3 := tiB a3
  have c40 : (40 : Int32).toInt = 40 := rfl
  have c80 : (80 : Int32).toInt = 80 := rfl
  have c580 : (580 : Int32).toInt = 580 := rfl
  unfold fX12_placeOf
  unfold fX12_placeOf_0
  refine vM (v := 80 * a1.toInt) (by rw [c80]) (by omega) fun v1 ev1 fv1 => ?_
  refine vA (by omega) fun v2 ev2 fv2 => ?_
  refine vM (v := 40 * a2.toInt) (by rw [c40]) (by omega) fun v3 ev3 fv3 => ?_
  refine vA (by omega) fun v4 ev4 fv4 => ?_
  refine vA (by omega) fun v5 ev5 fv5 => ?_
  refine rP ?_
  first | exact True.intro | omega
theorem fX12_climbs_12_s {R : xMem} {a1 : Int32} {a2 : Int32} (hG : GR R) : ∀ (fuel : Nat), ∀ (l3 : Int32) (l4 : Int32) (m : xMem), ((0 ≤ a1.toInt ∧ a1.toInt ≤ 9) ∧ (0 ≤ a2.toInt ∧ a2.toInt ≤ 1) ∧ (-1 ≤ l3.toInt ∧ l3.toInt ≤ 39) ∧ (-1 ≤ l4.toInt ∧ l4.toInt ≤ 39) ∧ l4.toInt ≤ l3.toInt ∧ l3.toInt ≤ 39) → IR R m → l4.toInt + 2147483649 < (fuel : Int) → vOk (IR R) (fX12_climbs_12 291 a1 a2 fuel l3 l4 m) := by
  intro fuel
  induction fuel with
  | zero =>
    intro l3 l4 m hp hI hmu
    have ta1 := tiB a1
    have ta2 := tiB a2
    have tl3 := tiB l3
    have tl4 := tiB l4
    exfalso; omega
  | succ fuel ih =>
    intro l3 l4 m hp hI hmu
    have ta1 := tiB a1
    have ta2 := tiB a2
    have tl3 := tiB l3
    have tl4 := tiB l4
    have cm1 : (-1 : Int32).toInt = -1 := rfl
    have c0 : (0 : Int32).toInt = 0 := rfl
    have c1 : (1 : Int32).toInt = 1 := rfl
    rw [fX12_climbs_12]
    refine vLt (fun h1 => ?_) (fun h2 => ?_)
    · exact vOk_some hI
    · refine vBindP (fX12_placeOf_s hG (by omega) hI) fun v3 ev3 qv3 => ?_
      try dsimp only
      have fv3 := tiB v3
      refine vIn (by omega) (by omega) fun n4 => ?_
      refine vR fun v5 ev5 => ?_
      have fv5 : bw (-1) 15 v5 := by rw [ev5]; exact rds hI (by omega)
      refine vEq (fun h6 => ?_) (fun h7 => ?_)
      · unfold fX12_climbs_74
        refine vEq (fun h8 => ?_) (fun h9 => ?_)
        · unfold fX12_climbs_112
          refine vA (by omega) fun v10 ev10 fv10 => ?_
          exact ih _ _ _ (by omega) hI (by omega)
        · exfalso; omega
      · refine vNe (fun h11 => ?_) (fun h12 => ?_)
        · unfold fX12_climbs_74
          refine vEq (fun h13 => ?_) (fun h14 => ?_)
          · exfalso; omega
          · refine vA (by omega) fun v15 ev15 fv15 => ?_
            refine vIn (by omega) (by omega) fun n16 => ?_
            refine vR fun v17 ev17 => ?_
            have fv17 : bw (-1) 15 v17 := by rw [ev17]; exact rds hI (by omega)
            refine vNe (fun h18 => ?_) (fun h19 => ?_)
            · unfold fX12_climbs_112
              refine vA (by omega) fun v20 ev20 fv20 => ?_
              exact ih _ _ _ (by omega) hI (by omega)
            · refine vIn (by omega) (by omega) fun n21 => ?_
              refine vR fun m22 em22 => ?_
              have hm22 : IR R m22 := by rw [em22]; exact IR_s hI (by omega) (by omega)
              refine vAl ev15 ?_
              refine vIn (by omega) (by omega) fun n23 => ?_
              refine vR fun m24 em24 => ?_
              have hm24 : IR R m24 := by rw [em24]; exact IR_s hm22 (by omega) (by omega)
              unfold fX12_climbs_112
              refine vA (by omega) fun v25 ev25 fv25 => ?_
              exact ih _ _ _ (by omega) hm24 (by omega)
        · refine vBindM (fX12_stepsOff_s hG (by omega) hI) fun v26 m27 hm27 qv26 => ?_
          try dsimp only
          have fv26 := tiB v26
          refine vEq (fun h28 => ?_) (fun h29 => ?_)
          · unfold fX12_climbs_70
            refine vIn (by omega) (by omega) fun n30 => ?_
            refine vR fun m31 em31 => ?_
            have hm31 : IR R m31 := by rw [em31]; exact IR_s hm27 (by omega) (by omega)
            unfold fX12_climbs_112
            refine vA (by omega) fun v32 ev32 fv32 => ?_
            exact ih _ _ _ (by omega) hm31 (by omega)
          · unfold fX12_climbs_70
            refine vIn (by omega) (by omega) fun n33 => ?_
            refine vR fun m34 em34 => ?_
            have hm34 : IR R m34 := by rw [em34]; exact IR_s hm27 (by omega) (by omega)
            unfold fX12_climbs_112
            refine vA (by omega) fun v35 ev35 fv35 => ?_
            exact ih _ _ _ (by omega) hm34 (by omega)
theorem fX12_climbs_s {R : xMem} {a1 : Int32} {a2 : Int32} {m : xMem} (hG : GR R) (hp : (0 ≤ a1.toInt ∧ a1.toInt ≤ 9) ∧ (0 ≤ a2.toInt ∧ a2.toInt ≤ 1)) (hI : IR R m) : vOk (IR R) (fX12_climbs 291 a1 a2 m) := by
  have ta1 := tiB a1
  have ta2 := tiB a2
  have c1 : (1 : Int32).toInt = 1 := rfl
  have c3 : (3 : Int32).toInt = 3 := rfl
  unfold fX12_climbs
  unfold fX12_climbs_0
  refine vBindP (fX12_linkOf_c3 hG (by omega) hI) fun v1 ev1 qv1 => ?_
  try dsimp only
  have fv1 := tiB v1
  refine vS (by omega) fun v2 ev2 fv2 => ?_
  have cF := xFu
  exact fX12_climbs_12_s hG _ _ _ _ (by omega) hI (by omega)
theorem fX12_moves_12_s {R : xMem} {a1 : Int32} {a2 : Int32} (hG : GR R) : ∀ (fuel : Nat), ∀ (l3 : Int32) (l4 : Int32) (m : xMem), ((0 ≤ a1.toInt ∧ a1.toInt ≤ 9) ∧ (0 ≤ a2.toInt ∧ a2.toInt ≤ 1) ∧ (-1 ≤ l3.toInt ∧ l3.toInt ≤ 39) ∧ (-1 ≤ l4.toInt ∧ l4.toInt ≤ 39) ∧ l4.toInt ≤ l3.toInt ∧ l3.toInt ≤ 39) → IR R m → l4.toInt + 2147483649 < (fuel : Int) → vOk (PM (IR R) (fun x : Int32 => (0 ≤ x.toInt ∧ x.toInt ≤ 1))) (fX12_moves_12 291 a1 a2 fuel l3 l4 m) := by
  intro fuel
  induction fuel with
  | zero =>
    intro l3 l4 m hp hI hmu
    have ta1 := tiB a1
    have ta2 := tiB a2
    have tl3 := tiB l3
    have tl4 := tiB l4
    exfalso; omega
  | succ fuel ih =>
    intro l3 l4 m hp hI hmu
    have ta1 := tiB a1
    have ta2 := tiB a2
    have tl3 := tiB l3
    have tl4 := tiB l4
    have cm1 : (-1 : Int32).toInt = -1 := rfl
    have c0 : (0 : Int32).toInt = 0 := rfl
    have c1 : (1 : Int32).toInt = 1 := rfl
    have c2 : (2 : Int32).toInt = 2 := rfl
    have c9 : (9 : Int32).toInt = 9 := rfl
    rw [fX12_moves_12]
    refine vLt (fun h1 => ?_) (fun h2 => ?_)
    · refine rM hI ?_
      first | exact True.intro | omega
    · refine vBindP (fX12_placeOf_s hG (by omega) hI) fun v3 ev3 qv3 => ?_
      try dsimp only
      have fv3 := tiB v3
      refine vIn (by omega) (by omega) fun n4 => ?_
      refine vR fun v5 ev5 => ?_
      have fv5 : bw (-1) 15 v5 := by rw [ev5]; exact rds hI (by omega)
      refine vEq (fun h6 => ?_) (fun h7 => ?_)
      · unfold fX12_moves_171
        refine vA (by omega) fun v8 ev8 fv8 => ?_
        exact ih _ _ _ (by omega) hI (by omega)
      · refine vNe (fun h9 => ?_) (fun h10 => ?_)
        · refine vIn (by omega) (by omega) fun n11 => ?_
          refine vR fun m12 em12 => ?_
          have hm12 : IR R m12 := by rw [em12]; exact IR_s hI (by omega) (by omega)
          refine vA (by omega) fun v13 ev13 fv13 => ?_
          refine vIn (by omega) (by omega) fun n14 => ?_
          refine vR fun m15 em15 => ?_
          have hm15 : IR R m15 := by rw [em15]; exact IR_s hm12 (by omega) (by omega)
          refine vLe (fun h16 => ?_) (fun h17 => ?_)
          · unfold fX12_moves_130
            refine vLe (fun h18 => ?_) (fun h19 => ?_)
            · unfold fX12_moves_171
              refine vA (by omega) fun v20 ev20 fv20 => ?_
              exact ih _ _ _ (by omega) hm15 (by omega)
            · exfalso; omega
          · refine vA (by omega) fun v21 ev21 fv21 => ?_
            refine vNe (fun h22 => ?_) (fun h23 => ?_)
            · unfold fX12_moves_130
              refine vLe (fun h24 => ?_) (fun h25 => ?_)
              · exfalso; omega
              · refine vA (by omega) fun v26 ev26 fv26 => ?_
                refine vIn (by omega) (by omega) fun n27 => ?_
                refine vR fun v28 ev28 => ?_
                have fv28 : bw (-1) 15 v28 := by rw [ev28]; exact rds hm15 (by omega)
                refine vNe (fun h29 => ?_) (fun h30 => ?_)
                · unfold fX12_moves_171
                  refine vA (by omega) fun v31 ev31 fv31 => ?_
                  exact ih _ _ _ (by omega) hm15 (by omega)
                · refine vAl ev13 ?_
                  refine vIn (by omega) (by omega) fun n32 => ?_
                  refine vR fun m33 em33 => ?_
                  have hm33 : IR R m33 := by rw [em33]; exact IR_s hm15 (by omega) (by omega)
                  refine vAl ev26 ?_
                  refine vIn (by omega) (by omega) fun n34 => ?_
                  refine vR fun m35 em35 => ?_
                  have hm35 : IR R m35 := by rw [em35]; exact IR_s hm33 (by omega) (by omega)
                  unfold fX12_moves_171
                  refine vA (by omega) fun v36 ev36 fv36 => ?_
                  exact ih _ _ _ (by omega) hm35 (by omega)
            · refine vBindM (fX12_stepsOff_s hG (by omega) hm15) fun v37 m38 hm38 qv37 => ?_
              try dsimp only
              have fv37 := tiB v37
              refine vNe (fun h39 => ?_) (fun h40 => ?_)
              · refine vAl ev13 ?_
                refine vIn (by omega) (by omega) fun n41 => ?_
                refine vR fun m42 em42 => ?_
                have hm42 : IR R m42 := by rw [em42]; exact IR_s hm38 (by omega) (by omega)
                unfold fX12_moves_171
                refine vA (by omega) fun v43 ev43 fv43 => ?_
                exact ih _ _ _ (by omega) hm42 (by omega)
              · refine rM hm38 ?_
                first | exact True.intro | omega
        · refine vBindM (fX12_stepsOff_s hG (by omega) hI) fun v44 m45 hm45 qv44 => ?_
          try dsimp only
          have fv44 := tiB v44
          refine vNe (fun h46 => ?_) (fun h47 => ?_)
          · refine vIn (by omega) (by omega) fun n48 => ?_
            refine vR fun m49 em49 => ?_
            have hm49 : IR R m49 := by rw [em49]; exact IR_s hm45 (by omega) (by omega)
            unfold fX12_moves_171
            refine vA (by omega) fun v50 ev50 fv50 => ?_
            exact ih _ _ _ (by omega) hm49 (by omega)
          · refine rM hm45 ?_
            first | exact True.intro | omega
theorem fX12_moves_s {R : xMem} {a1 : Int32} {a2 : Int32} {m : xMem} (hG : GR R) (hp : (0 ≤ a1.toInt ∧ a1.toInt ≤ 9) ∧ (0 ≤ a2.toInt ∧ a2.toInt ≤ 1)) (hI : IR R m) : vOk (PM (IR R) (fun x : Int32 => (0 ≤ x.toInt ∧ x.toInt ≤ 1))) (fX12_moves 291 a1 a2 m) := by
  have ta1 := tiB a1
  have ta2 := tiB a2
  have c1 : (1 : Int32).toInt = 1 := rfl
  have c3 : (3 : Int32).toInt = 3 := rfl
  unfold fX12_moves
  unfold fX12_moves_0
  refine vBindP (fX12_linkOf_c3 hG (by omega) hI) fun v1 ev1 qv1 => ?_
  try dsimp only
  have fv1 := tiB v1
  refine vS (by omega) fun v2 ev2 fv2 => ?_
  have cF := xFu
  exact fX12_moves_12_s hG _ _ _ _ (by omega) hI (by omega)
theorem fX12_trips_s {R : xMem} {a1 : Int32} {m : xMem} (hG : GR R) (hp : (0 ≤ a1.toInt ∧ a1.toInt ≤ 9)) (hI : IR R m) : vOk (IR R) (fX12_trips 291 a1 m) := by
  have ta1 := tiB a1
  have c1 : (1 : Int32).toInt = 1 := rfl
  have c9 : (9 : Int32).toInt = 9 := rfl
  have c12 : (12 : Int32).toInt = 12 := rfl
  unfold fX12_trips
  unfold fX12_trips_0
  refine vOk_bind (fX12_tells_s hG (by omega) hI) fun m1 hm1 => ?_
  refine vIn (by omega) (by omega) fun n2 => ?_
  refine vR fun v3 ev3 => ?_
  have fv3 := tiB v3
  refine vI fun v4 ev4 fv4 => ?_
  refine vIn (by omega) (by omega) fun n5 => ?_
  refine vR fun m6 em6 => ?_
  have hm6 : IR R m6 := by rw [em6]; exact IR_a hm1 (by omega)
  exact vOk_some hm6
theorem fX12_mostOf_9_s {R : xMem} {a1 : Int32} {a2 : Int32} {a3 : Int32} {m : xMem} (hG : GR R) (hI : IR R m) : ∀ (fuel : Nat), ∀ (l4 : Int32) (l5 : Int32) (l6 : Int32), ((0 ≤ a1.toInt ∧ a1.toInt ≤ 9) ∧ (0 ≤ a2.toInt ∧ a2.toInt ≤ 5) ∧ (0 ≤ a3.toInt ∧ a3.toInt ≤ 1) ∧ (-1 ≤ l4.toInt ∧ l4.toInt ≤ 5) ∧ (0 ≤ l5.toInt ∧ l5.toInt ≤ 2147483647) ∧ (0 ≤ l6.toInt ∧ l6.toInt ≤ 6)) → 2147483648 - l6.toInt < (fuel : Int) → vOk (PP m (fun x : Int32 => (-1 ≤ x.toInt ∧ x.toInt ≤ 5))) (fX12_mostOf_9 291 a1 a2 a3 fuel l4 l5 l6 m) := by
  intro fuel
  induction fuel with
  | zero =>
    intro l4 l5 l6 hp hmu
    have ta1 := tiB a1
    have ta2 := tiB a2
    have ta3 := tiB a3
    have tl4 := tiB l4
    have tl5 := tiB l5
    have tl6 := tiB l6
    exfalso; omega
  | succ fuel ih =>
    intro l4 l5 l6 hp hmu
    have ta1 := tiB a1
    have ta2 := tiB a2
    have ta3 := tiB a3
    have tl4 := tiB l4
    have tl5 := tiB l5
    have tl6 := tiB l6
    have c1 : (1 : Int32).toInt = 1 := rfl
    have c2 : (2 : Int32).toInt = 2 := rfl
    have c6 : (6 : Int32).toInt = 6 := rfl
    have c12 : (12 : Int32).toInt = 12 := rfl
    have c36 : (36 : Int32).toInt = 36 := rfl
    have c50 : (50 : Int32).toInt = 50 := rfl
    rw [fX12_mostOf_9]
    refine vIn (by omega) (by omega) fun n1 => ?_
    refine vR fun v2 ev2 => ?_
    have fv2 : bw (0) 6 v2 := by rw [ev2]; exact rdc1 hG hI (by omega)
    refine vLe (fun h3 => ?_) (fun h4 => ?_)
    · refine rP ?_
      first | exact True.intro | omega
    · refine vM (v := 12 * a2.toInt) (by rw [c12]) (by omega) fun v5 ev5 fv5 => ?_
      refine vA (by omega) fun v6 ev6 fv6 => ?_
      refine vM (v := 2 * l6.toInt) (by rw [c2]) (by omega) fun v7 ev7 fv7 => ?_
      refine vA (by omega) fun v8 ev8 fv8 => ?_
      refine vA (by omega) fun v9 ev9 fv9 => ?_
      refine vIn (by omega) (by omega) fun n10 => ?_
      refine vR fun v11 ev11 => ?_
      have fv11 := tiB v11
      refine vM (v := 36 * a3.toInt) (by rw [c36]) (by omega) fun v12 ev12 fv12 => ?_
      refine vM (v := 6 * l6.toInt) (by rw [c6]) (by omega) fun v13 ev13 fv13 => ?_
      refine vA (by omega) fun v14 ev14 fv14 => ?_
      refine vA (by omega) fun v15 ev15 fv15 => ?_
      refine vIn (by omega) (by omega) fun n16 => ?_
      refine vR fun v17 ev17 => ?_
      have fv17 := tiB v17
      refine vNe (fun h18 => ?_) (fun h19 => ?_)
      · unfold fX12_mostOf_77
        refine vA (by omega) fun v20 ev20 fv20 => ?_
        exact ih _ _ _ (by omega) (by omega)
      · refine vLe (fun h21 => ?_) (fun h22 => ?_)
        · unfold fX12_mostOf_77
          refine vA (by omega) fun v23 ev23 fv23 => ?_
          exact ih _ _ _ (by omega) (by omega)
        · unfold fX12_mostOf_77
          refine vA (by omega) fun v24 ev24 fv24 => ?_
          exact ih _ _ _ (by omega) (by omega)
theorem fX12_mostOf_s {R : xMem} {a1 : Int32} {a2 : Int32} {a3 : Int32} {m : xMem} (hG : GR R) (hp : (0 ≤ a1.toInt ∧ a1.toInt ≤ 9) ∧ (0 ≤ a2.toInt ∧ a2.toInt ≤ 5) ∧ (0 ≤ a3.toInt ∧ a3.toInt ≤ 1)) (hI : IR R m) : vOk (PP m (fun x : Int32 => (-1 ≤ x.toInt ∧ x.toInt ≤ 5))) (fX12_mostOf 291 a1 a2 a3 m) := by
  have ta1 := tiB a1
  have ta2 := tiB a2
  have ta3 := tiB a3
  have cm1 : (-1 : Int32).toInt = -1 := rfl
  have c0 : (0 : Int32).toInt = 0 := rfl
  unfold fX12_mostOf
  unfold fX12_mostOf_0
  have cF := xFu
  exact fX12_mostOf_9_s hG hI _ _ _ _ (by omega) (by omega)
theorem fX12_sideFor_s {R : xMem} {a1 : Int32} {a2 : Int32} {m : xMem} (hG : GR R) (hp : (0 ≤ a1.toInt ∧ a1.toInt ≤ 9)) (hI : IR R m) : vOk (PP m (fun x : Int32 => (-1 ≤ x.toInt ∧ x.toInt ≤ 1))) (fX12_sideFor 291 a1 a2 m) := by
  have ta1 := tiB a1
  have ta2 := tiB a2
  have cm1 : (-1 : Int32).toInt = -1 := rfl
  have c0 : (0 : Int32).toInt = 0 := rfl
  have c1 : (1 : Int32).toInt = 1 := rfl
  have c8 : (8 : Int32).toInt = 8 := rfl
  unfold fX12_sideFor
  unfold fX12_sideFor_0
  refine vBindP (fX12_linkOf_c0 hG (by omega) hI) fun v1 ev1 qv1 => ?_
  try dsimp only
  have fv1 := tiB v1
  refine vNe (fun h2 => ?_) (fun h3 => ?_)
  · unfold fX12_sideFor_51
    refine vBindP (fX12_placeOf_s hG (by omega) hI) fun v4 ev4 qv4 => ?_
    try dsimp only
    have fv4 := tiB v4
    refine vIn (by omega) (by omega) fun n5 => ?_
    refine vR fun v6 ev6 => ?_
    have fv6 : bw (-1) 15 v6 := by rw [ev6]; exact rds hI (by omega)
    refine vNe (fun h7 => ?_) (fun h8 => ?_)
    · refine vBindP (fX12_placeOf_s hG (by omega) hI) fun v9 ev9 qv9 => ?_
      try dsimp only
      have fv9 := tiB v9
      refine vIn (by omega) (by omega) fun n10 => ?_
      refine vR fun v11 ev11 => ?_
      have fv11 : bw (-1) 15 v11 := by rw [ev11]; exact rds hI (by omega)
      refine vNe (fun h12 => ?_) (fun h13 => ?_)
      · unfold fX12_sideFor_92
        refine rP ?_
        first | exact True.intro | omega
      · unfold fX12_sideFor_92
        refine rP ?_
        first | exact True.intro | omega
    · unfold fX12_sideFor_92
      refine rP ?_
      first | exact True.intro | omega
  · refine vBindP (fX12_linkOf_s hG (by omega) hI) fun v14 ev14 qv14 => ?_
    try dsimp only
    have fv14 := tiB v14
    refine vNe (fun h15 => ?_) (fun h16 => ?_)
    · unfold fX12_sideFor_51
      refine vBindP (fX12_placeOf_s hG (by omega) hI) fun v17 ev17 qv17 => ?_
      try dsimp only
      have fv17 := tiB v17
      refine vIn (by omega) (by omega) fun n18 => ?_
      refine vR fun v19 ev19 => ?_
      have fv19 : bw (-1) 15 v19 := by rw [ev19]; exact rds hI (by omega)
      refine vNe (fun h20 => ?_) (fun h21 => ?_)
      · refine vBindP (fX12_placeOf_s hG (by omega) hI) fun v22 ev22 qv22 => ?_
        try dsimp only
        have fv22 := tiB v22
        refine vIn (by omega) (by omega) fun n23 => ?_
        refine vR fun v24 ev24 => ?_
        have fv24 : bw (-1) 15 v24 := by rw [ev24]; exact rds hI (by omega)
        refine vNe (fun h25 => ?_) (fun h26 => ?_)
        · unfold fX12_sideFor_92
          refine rP ?_
          first | exact True.intro | omega
        · unfold fX12_sideFor_92
          refine rP ?_
          first | exact True.intro | omega
      · unfold fX12_sideFor_92
        refine rP ?_
        first | exact True.intro | omega
    · refine vEq (fun h27 => ?_) (fun h28 => ?_)
      · unfold fX12_sideFor_28
        refine vBindP (fX12_placeOf_s hG (by omega) hI) fun v29 ev29 qv29 => ?_
        try dsimp only
        have fv29 := tiB v29
        refine vIn (by omega) (by omega) fun n30 => ?_
        refine vR fun v31 ev31 => ?_
        have fv31 : bw (-1) 15 v31 := by rw [ev31]; exact rds hI (by omega)
        refine vNe (fun h32 => ?_) (fun h33 => ?_)
        · unfold fX12_sideFor_50
          refine rP ?_
          first | exact True.intro | omega
        · unfold fX12_sideFor_50
          refine rP ?_
          first | exact True.intro | omega
      · unfold fX12_sideFor_28
        refine vBindP (fX12_placeOf_s hG (by omega) hI) fun v34 ev34 qv34 => ?_
        try dsimp only
        have fv34 := tiB v34
        refine vIn (by omega) (by omega) fun n35 => ?_
        refine vR fun v36 ev36 => ?_
        have fv36 : bw (-1) 15 v36 := by rw [ev36]; exact rds hI (by omega)
        refine vNe (fun h37 => ?_) (fun h38 => ?_)
        · unfold fX12_sideFor_50
          refine rP ?_
          first | exact True.intro | omega
        · unfold fX12_sideFor_50
          refine rP ?_
          first | exact True.intro | omega
