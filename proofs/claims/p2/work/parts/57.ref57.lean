/-! SAFETY of the reference's methods, printed by wip/tools/vcref.py -/
theorem fX12_taken_104_s {R : xMem} {a1 : Int32} {a2 : Int32} {rec53 : Int32 → xMem → Option (Int32 × xMem)} {rec85 : Int32 → Int32 → xMem → Option (Int32 × xMem)} {M53 : Int} {M85 : Int} (hG : GR R) (hrec53 : ∀ (l3 : Int32) (m : xMem), ((1 ≤ l3.toInt ∧ l3.toInt ≤ 1)) → IR R m → 0 < M53 → vOk (PM (IR R) (fun x : Int32 => (x.toInt = -1 ∨ ((-2147483648 ≤ a1.toInt ∧ a1.toInt ≤ 0))))) (rec53 l3 m)) (hrec85 : ∀ (l3 : Int32) (l4 : Int32) (m : xMem), ((1 ≤ a1.toInt ∧ a1.toInt ≤ 2147483647) ∧ (1 ≤ l3.toInt ∧ l3.toInt ≤ 1) ∧ (0 ≤ l4.toInt ∧ l4.toInt ≤ 3)) → IR R m → 0 ≤ M53 → 2147483648 - l4.toInt < M85 → vOk (PM (IR R) (fun x : Int32 => (x.toInt = -1 ∨ ((-2147483648 ≤ a1.toInt ∧ a1.toInt ≤ 0))))) (rec85 l3 l4 m)) : ∀ (fuel : Nat), ∀ (l3 : Int32) (l4 : Int32) (l5 : Int32) (l6 : Int32) (m : xMem), ((1 ≤ a1.toInt ∧ a1.toInt ≤ 2147483647) ∧ (1 ≤ l3.toInt ∧ l3.toInt ≤ 1) ∧ (0 ≤ l4.toInt ∧ l4.toInt ≤ 2) ∧ (0 ≤ l6.toInt ∧ l6.toInt ≤ 82)) → IR R m → 0 ≤ M53 → 2147483648 - l4.toInt ≤ M85 → 2147483648 - l6.toInt < (fuel : Int) → vOk (PM (IR R) (fun x : Int32 => (x.toInt = -1 ∨ ((-2147483648 ≤ a1.toInt ∧ a1.toInt ≤ 0))))) (fX12_taken_104 291 a1 a2 rec53 rec85 fuel l3 l4 l5 l6 m) := by
  intro fuel
  induction fuel with
  | zero =>
    intro l3 l4 l5 l6 m hp hI hM53 hM85 hmu
    have ta1 := tiB a1
    have ta2 := tiB a2
    have tl3 := tiB l3
    have tl4 := tiB l4
    have tl5 := tiB l5
    have tl6 := tiB l6
    exfalso; omega
  | succ fuel ih =>
    intro l3 l4 l5 l6 m hp hI hM53 hM85 hmu
    have ta1 := tiB a1
    have ta2 := tiB a2
    have tl3 := tiB l3
    have tl4 := tiB l4
    have tl5 := tiB l5
    have tl6 := tiB l6
    have cm1 : (-1 : Int32).toInt = -1 := rfl
    have c0 : (0 : Int32).toInt = 0 := rfl
    have c1 : (1 : Int32).toInt = 1 := rfl
    have c81 : (81 : Int32).toInt = 81 := rfl
    rw [fX12_taken_104]
    refine vA (by omega) fun v1 ev1 fv1 => ?_
    refine vLe (fun h2 => ?_) (fun h3 => ?_)
    · unfold fX12_taken_205
      refine vA (by omega) fun v4 ev4 fv4 => ?_
      exact hrec85 _ _ _ (by omega) hI (by omega) (by omega)
    · refine vEq (fun h5 => ?_) (fun h6 => ?_)
      · unfold fX12_taken_205
        refine vA (by omega) fun v7 ev7 fv7 => ?_
        exact hrec85 _ _ _ (by omega) hI (by omega) (by omega)
      · refine vIn (by omega) (by omega) fun n8 => ?_
        refine vR fun v9 ev9 => ?_
        have fv9 := tiB v9
        refine vEq (fun h10 => ?_) (fun h11 => ?_)
        · unfold fX12_taken_199
          refine vA (by omega) fun v12 ev12 fv12 => ?_
          exact ih _ _ _ _ _ (by omega) hI (by omega) (by omega) (by omega)
        · refine vIn (by omega) (by omega) fun n13 => ?_
          refine vAl (ev9) ?_
          refine vI fun v14 ev14 fv14 => ?_
          refine vAl ev1 ?_
          refine vIn (by omega) (by omega) fun n15 => ?_
          refine vR fun v16 ev16 => ?_
          have fv16 := tiB v16
          refine vAl ev1 ?_
          refine vEq (fun h17 => ?_) (fun h18 => ?_)
          · unfold fX12_taken_191
            unfold fX12_taken_198
            refine vIn (by omega) (by omega) fun n19 => ?_
            refine vR fun m20 em20 => ?_
            have hm20 : IR R m20 := by rw [em20]; exact IR_f hI (by omega)
            unfold fX12_taken_199
            refine vA (by omega) fun v21 ev21 fv21 => ?_
            exact ih _ _ _ _ _ (by omega) hm20 (by omega) (by omega) (by omega)
          · refine vEq (fun h22 => ?_) (fun h23 => ?_)
            · refine vLe (fun h24 => ?_) (fun h25 => ?_)
              · unfold fX12_taken_196
                unfold fX12_taken_198
                refine vIn (by omega) (by omega) fun n26 => ?_
                refine vR fun m27 em27 => ?_
                have hm27 : IR R m27 := by rw [em27]; exact IR_f hI (by omega)
                unfold fX12_taken_199
                refine vA (by omega) fun v28 ev28 fv28 => ?_
                exact ih _ _ _ _ _ (by omega) hm27 (by omega) (by omega) (by omega)
              · unfold fX12_taken_191
                unfold fX12_taken_198
                refine vIn (by omega) (by omega) fun n29 => ?_
                refine vR fun m30 em30 => ?_
                have hm30 : IR R m30 := by rw [em30]; exact IR_f hI (by omega)
                unfold fX12_taken_199
                refine vA (by omega) fun v31 ev31 fv31 => ?_
                exact ih _ _ _ _ _ (by omega) hm30 (by omega) (by omega) (by omega)
            · refine vLe (fun h32 => ?_) (fun h33 => ?_)
              · unfold fX12_taken_196
                unfold fX12_taken_198
                refine vIn (by omega) (by omega) fun n34 => ?_
                refine vR fun m35 em35 => ?_
                have hm35 : IR R m35 := by rw [em35]; exact IR_f hI (by omega)
                unfold fX12_taken_199
                refine vA (by omega) fun v36 ev36 fv36 => ?_
                exact ih _ _ _ _ _ (by omega) hm35 (by omega) (by omega) (by omega)
              · unfold fX12_taken_191
                unfold fX12_taken_198
                refine vIn (by omega) (by omega) fun n37 => ?_
                refine vR fun m38 em38 => ?_
                have hm38 : IR R m38 := by rw [em38]; exact IR_f hI (by omega)
                unfold fX12_taken_199
                refine vA (by omega) fun v39 ev39 fv39 => ?_
                exact ih _ _ _ _ _ (by omega) hm38 (by omega) (by omega) (by omega)
theorem fX12_taken_214_s {R : xMem} {a1 : Int32} {a2 : Int32} {rec53 : Int32 → xMem → Option (Int32 × xMem)} {M53 : Int} (hG : GR R) (hrec53 : ∀ (l3 : Int32) (m : xMem), ((1 ≤ l3.toInt ∧ l3.toInt ≤ 1)) → IR R m → 0 < M53 → vOk (PM (IR R) (fun x : Int32 => (x.toInt = -1 ∨ ((-2147483648 ≤ a1.toInt ∧ a1.toInt ≤ 0))))) (rec53 l3 m)) : ∀ (fuel : Nat), ∀ (l3 : Int32) (l4 : Int32) (m : xMem), ((1 ≤ a1.toInt ∧ a1.toInt ≤ 2147483647) ∧ (1 ≤ l3.toInt ∧ l3.toInt ≤ 1) ∧ (0 ≤ l4.toInt ∧ l4.toInt ≤ 40)) → IR R m → 0 ≤ M53 → 2147483648 - l4.toInt < (fuel : Int) → vOk (PM (IR R) (fun x : Int32 => (x.toInt = -1 ∨ ((-2147483648 ≤ a1.toInt ∧ a1.toInt ≤ 0))))) (fX12_taken_214 291 a1 a2 rec53 fuel l3 l4 m) := by
  intro fuel
  induction fuel with
  | zero =>
    intro l3 l4 m hp hI hM53 hmu
    have ta1 := tiB a1
    have ta2 := tiB a2
    have tl3 := tiB l3
    have tl4 := tiB l4
    exfalso; omega
  | succ fuel ih =>
    intro l3 l4 m hp hI hM53 hmu
    have ta1 := tiB a1
    have ta2 := tiB a2
    have tl3 := tiB l3
    have tl4 := tiB l4
    have c1 : (1 : Int32).toInt = 1 := rfl
    have c81 : (81 : Int32).toInt = 81 := rfl
    rw [fX12_taken_214]
    refine vLe (fun h1 => ?_) (fun h2 => ?_)
    · exfalso; omega
    · refine vIn (by omega) (by omega) fun n3 => ?_
      refine vR fun v4 ev4 => ?_
      have fv4 := tiB v4
      refine vIn (by omega) (by omega) fun n5 => ?_
      refine vR fun m6 em6 => ?_
      have hm6 : IR R m6 := by rw [em6]; exact IR_f hI (by omega)
      refine vA (by omega) fun v7 ev7 fv7 => ?_
      exact ih _ _ _ (by omega) hm6 (by omega) (by omega)
theorem fX12_taken_85_s {R : xMem} {a1 : Int32} {a2 : Int32} {rec53 : Int32 → xMem → Option (Int32 × xMem)} {M53 : Int} (hG : GR R) (hrec53 : ∀ (l3 : Int32) (m : xMem), ((1 ≤ l3.toInt ∧ l3.toInt ≤ 1)) → IR R m → 0 < M53 → vOk (PM (IR R) (fun x : Int32 => (x.toInt = -1 ∨ ((-2147483648 ≤ a1.toInt ∧ a1.toInt ≤ 0))))) (rec53 l3 m)) : ∀ (fuel : Nat), ∀ (l3 : Int32) (l4 : Int32) (m : xMem), ((1 ≤ a1.toInt ∧ a1.toInt ≤ 2147483647) ∧ (1 ≤ l3.toInt ∧ l3.toInt ≤ 1) ∧ (0 ≤ l4.toInt ∧ l4.toInt ≤ 3)) → IR R m → 0 ≤ M53 → 2147483648 - l4.toInt < (fuel : Int) → vOk (PM (IR R) (fun x : Int32 => (x.toInt = -1 ∨ ((-2147483648 ≤ a1.toInt ∧ a1.toInt ≤ 0))))) (fX12_taken_85 291 a1 a2 rec53 fuel l3 l4 m) := by
  intro fuel
  induction fuel with
  | zero =>
    intro l3 l4 m hp hI hM53 hmu
    have ta1 := tiB a1
    have ta2 := tiB a2
    have tl3 := tiB l3
    have tl4 := tiB l4
    exfalso; omega
  | succ fuel ih =>
    intro l3 l4 m hp hI hM53 hmu
    have ta1 := tiB a1
    have ta2 := tiB a2
    have tl3 := tiB l3
    have tl4 := tiB l4
    have c0 : (0 : Int32).toInt = 0 := rfl
    have c3 : (3 : Int32).toInt = 3 := rfl
    rw [fX12_taken_85]
    refine vLe (fun h1 => ?_) (fun h2 => ?_)
    · have cF := xFu
      exact fX12_taken_214_s hG hrec53 _ _ _ _ (by omega) hI (by omega) (by omega)
    · refine vBindP (fX12_chain_s hG (by omega) hI) fun v3 ev3 qv3 => ?_
      try dsimp only
      have fv3 := tiB v3
      have cF := xFu
      exact fX12_taken_104_s hG hrec53 ih _ _ _ _ _ _ (by omega) hI (by omega) (by omega) (by omega)
theorem fX12_taken_61_s {R : xMem} {a1 : Int32} {a2 : Int32} {rec53 : Int32 → xMem → Option (Int32 × xMem)} {M53 : Int} (hG : GR R) (hrec53 : ∀ (l3 : Int32) (m : xMem), ((1 ≤ l3.toInt ∧ l3.toInt ≤ 1)) → IR R m → 0 < M53 → vOk (PM (IR R) (fun x : Int32 => (x.toInt = -1 ∨ ((-2147483648 ≤ a1.toInt ∧ a1.toInt ≤ 0))))) (rec53 l3 m)) : ∀ (fuel : Nat), ∀ (l3 : Int32) (l4 : Int32) (m : xMem), ((1 ≤ a1.toInt ∧ a1.toInt ≤ 2147483647) ∧ (1 ≤ l3.toInt ∧ l3.toInt ≤ 1) ∧ (0 ≤ l4.toInt ∧ l4.toInt ≤ 81)) → IR R m → 0 ≤ M53 → 2147483648 - l4.toInt < (fuel : Int) → vOk (PM (IR R) (fun x : Int32 => (x.toInt = -1 ∨ ((-2147483648 ≤ a1.toInt ∧ a1.toInt ≤ 0))))) (fX12_taken_61 291 a1 a2 rec53 fuel l3 l4 m) := by
  intro fuel
  induction fuel with
  | zero =>
    intro l3 l4 m hp hI hM53 hmu
    have ta1 := tiB a1
    have ta2 := tiB a2
    have tl3 := tiB l3
    have tl4 := tiB l4
    exfalso; omega
  | succ fuel ih =>
    intro l3 l4 m hp hI hM53 hmu
    have ta1 := tiB a1
    have ta2 := tiB a2
    have tl3 := tiB l3
    have tl4 := tiB l4
    have cm1 : (-1 : Int32).toInt = -1 := rfl
    have c0 : (0 : Int32).toInt = 0 := rfl
    have c1 : (1 : Int32).toInt = 1 := rfl
    have c81 : (81 : Int32).toInt = 81 := rfl
    rw [fX12_taken_61]
    refine vLe (fun h1 => ?_) (fun h2 => ?_)
    · have cF := xFu
      exact fX12_taken_85_s hG hrec53 _ _ _ _ (by omega) hI (by omega) (by omega)
    · refine vIn (by omega) (by omega) fun n3 => ?_
      refine vR fun m4 em4 => ?_
      have hm4 : IR R m4 := by rw [em4]; exact IR_f hI (by omega)
      refine vA (by omega) fun v5 ev5 fv5 => ?_
      exact ih _ _ _ (by omega) hm4 (by omega) (by omega)
theorem fX12_taken_53_s {R : xMem} {a1 : Int32} {a2 : Int32} (hG : GR R) : ∀ (fuel : Nat), ∀ (l3 : Int32) (m : xMem), ((1 ≤ l3.toInt ∧ l3.toInt ≤ 1)) → IR R m → 0 < (fuel : Int) → vOk (PM (IR R) (fun x : Int32 => (x.toInt = -1 ∨ ((-2147483648 ≤ a1.toInt ∧ a1.toInt ≤ 0))))) (fX12_taken_53 291 a1 a2 fuel l3 m) := by
  intro fuel
  induction fuel with
  | zero =>
    intro l3 m hp hI hmu
    have ta1 := tiB a1
    have ta2 := tiB a2
    have tl3 := tiB l3
    exfalso; omega
  | succ fuel ih =>
    intro l3 m hp hI hmu
    have ta1 := tiB a1
    have ta2 := tiB a2
    have tl3 := tiB l3
    have c0 : (0 : Int32).toInt = 0 := rfl
    have c1550 : (1550 : Int32).toInt = 1550 := rfl
    rw [fX12_taken_53]
    refine vLt (fun h1 => ?_) (fun h2 => ?_)
    · refine vIn (by omega) (by omega) fun n3 => ?_
      refine vR fun v4 ev4 => ?_
      have fv4 : bw (0) 80 v4 := by rw [ev4]; exact rdo hG hI (by omega)
      refine vIn (by omega) (by omega) fun n5 => ?_
      refine vR fun v6 ev6 => ?_
      have fv6 := tiB v6
      refine rM hI ?_
      first | exact True.intro | omega
    · have cF := xFu
      exact fX12_taken_61_s hG ih _ _ _ _ (by omega) hI (by omega) (by omega)
theorem fX12_taken_24_s {R : xMem} {a1 : Int32} {a2 : Int32} (hG : GR R) : ∀ (fuel : Nat), ∀ (l3 : Int32) (m : xMem), ((0 ≤ l3.toInt ∧ l3.toInt ≤ 81)) → IR R m → 2147483648 - l3.toInt < (fuel : Int) → vOk (PM (IR R) (fun x : Int32 => (x.toInt = -1 ∨ ((-2147483648 ≤ a1.toInt ∧ a1.toInt ≤ 0))))) (fX12_taken_24 291 a1 a2 fuel l3 m) := by
  intro fuel
  induction fuel with
  | zero =>
    intro l3 m hp hI hmu
    have ta1 := tiB a1
    have ta2 := tiB a2
    have tl3 := tiB l3
    exfalso; omega
  | succ fuel ih =>
    intro l3 m hp hI hmu
    have ta1 := tiB a1
    have ta2 := tiB a2
    have tl3 := tiB l3
    have cm1 : (-1 : Int32).toInt = -1 := rfl
    have c0 : (0 : Int32).toInt = 0 := rfl
    have c1 : (1 : Int32).toInt = 1 := rfl
    have c81 : (81 : Int32).toInt = 81 := rfl
    rw [fX12_taken_24]
    refine vLe (fun h1 => ?_) (fun h2 => ?_)
    · have cF := xFu
      exact fX12_taken_53_s hG _ _ _ (by omega) hI (by omega)
    · refine vNe (fun h3 => ?_) (fun h4 => ?_)
      · unfold fX12_taken_44
        refine vIn (by omega) (by omega) fun n5 => ?_
        refine vR fun m6 em6 => ?_
        have hm6 : IR R m6 := by rw [em6]; exact IR_f hI (by omega)
        refine vA (by omega) fun v7 ev7 fv7 => ?_
        exact ih _ _ (by omega) hm6 (by omega)
      · unfold fX12_taken_44
        refine vIn (by omega) (by omega) fun n8 => ?_
        refine vR fun m9 em9 => ?_
        have hm9 : IR R m9 := by rw [em9]; exact IR_f hI (by omega)
        refine vA (by omega) fun v10 ev10 fv10 => ?_
        exact ih _ _ (by omega) hm9 (by omega)
theorem fX12_taken_s {R : xMem} {a1 : Int32} {a2 : Int32} {m : xMem} (hG : GR R) (hI : IR R m) : vOk (PM (IR R) (fun x : Int32 => (x.toInt = -1 ∨ ((-2147483648 ≤ a1.toInt ∧ a1.toInt ≤ 0))))) (fX12_taken 291 a1 a2 m) := by
  have ta1 := tiB a1
  have ta2 := tiB a2
  have cm1 : (-1 : Int32).toInt = -1 := rfl
  have c0 : (0 : Int32).toInt = 0 := rfl
  have c2 : (2 : Int32).toInt = 2 := rfl
  have c8 : (8 : Int32).toInt = 8 := rfl
  have c40 : (40 : Int32).toInt = 40 := rfl
  unfold fX12_taken
  unfold fX12_taken_0
  refine vBindP (fX12_in_s hG hI) fun v1 ev1 qv1 => ?_
  try dsimp only
  have fv1 := tiB v1
  refine vEq (fun h2 => ?_) (fun h3 => ?_)
  · unfold fX12_taken_20
    refine rM hI ?_
    first | exact True.intro | omega
  · refine vIn (by omega) (by omega) fun n4 => ?_
    refine vR fun v5 ev5 => ?_
    have fv5 : bw (0) 60 v5 := by rw [ev5]; exact rdc8 hG hI (by omega)
    refine vNe (fun h6 => ?_) (fun h7 => ?_)
    · have cF := xFu
      exact fX12_taken_24_s hG _ _ _ (by omega) hI (by omega)
    · unfold fX12_taken_20
      refine rM hI ?_
      first | exact True.intro | omega
theorem fX12_about_s {R : xMem} {a1 : Int32} {m : xMem} (hG : GR R) (hI : IR R m) : vOk (PP m (fun _ : Int32 => True)) (fX12_about 291 a1 m) := by
  have ta1 := tiB a1
  have cm1 : (-1 : Int32).toInt = -1 := rfl
  have c0 : (0 : Int32).toInt = 0 := rfl
  have c8 : (8 : Int32).toInt = 8 := rfl
  have c9 : (9 : Int32).toInt = 9 := rfl
  unfold fX12_about
  unfold fX12_about_0
  refine vBindP (fX12_in_s hG hI) fun v1 ev1 qv1 => ?_
  try dsimp only
  have fv1 := tiB v1
  refine vEq (fun h2 => ?_) (fun h3 => ?_)
  · refine vNe (fun h4 => ?_) (fun h5 => ?_)
    · unfold fX12_about_33
      refine rP ?_
      first | exact True.intro | omega
    · refine vR fun v6 ev6 => ?_
      have fv6 := tiB v6
      unfold fX12_about_33
      refine rP ?_
      first | exact True.intro | omega
  · refine vIn (by omega) (by omega) fun n7 => ?_
    refine vR fun v8 ev8 => ?_
    have fv8 := tiB v8
    unfold fX12_about_33
    refine rP ?_
    first | exact True.intro | omega
