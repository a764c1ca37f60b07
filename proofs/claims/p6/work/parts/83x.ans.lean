/-! the answers of bar, turn and mode -/
section
variable {R m : xMem} {a1 a2 : Int32}
theorem hasLink_e {a0 : Nat} (h : 0 ≤ (m.1 a0 8).toInt ∧ (m.1 a0 8).toInt ≤ 10) : fX9_hasLink a0 a1 m = some (qH (m.1 a0 8) a1, m) := by
  have c0 : (0 : Int32).toInt = 0 := rfl
  have c10 : (10 : Int32).toInt = 10 := rfl
  refine of_vOk ?_
  unfold fX9_hasLink fX9_hasLink_0
  refine vLt (fun g1 => ?_) (fun g1 => ?_)
  · unfold fX9_hasLink_22 fX9_hasLink_23
    refine v00 (vOk_some ?_)
    rw [qH_0 (by omega)]
  · refine vR fun x ex => ?_
    refine vLe (fun g2 => ?_) (fun g2 => ?_)
    · unfold fX9_hasLink_22 fX9_hasLink_23
      refine v00 (vOk_some ?_)
      rw [qH_0 (by rw [← ex]; omega)]
    · refine vLe (fun g3 => ?_) (fun g3 => ?_)
      · exfalso; rw [← ex] at h; omega
      · unfold fX9_hasLink_23
        refine v01 (vOk_some ?_)
        rw [qH_1 (by rw [← ex]; omega)]
theorem kkN : ∀ k : Nat, k < 10 → KC (34 + 2 * k) 1 = true := by decide +kernel
theorem hasStepped_c (hI : IC R m) (hb : 0 ≤ (R.1 1 8).toInt ∧ (R.1 1 8).toInt ≤ 10) : vOk (fun p : Int32 × xMem => p.2 = m ∧ ((((0 ≤ a1.toInt ∧ a1.toInt < (R.1 1 8).toInt) ∧ ¬ (R.1 (34 + 2 * a1.toNatClampNeg) 1).toInt = 2) ∧ p.1 = 1) ∨ (¬ ((0 ≤ a1.toInt ∧ a1.toInt < (R.1 1 8).toInt) ∧ ¬ (R.1 (34 + 2 * a1.toNatClampNeg) 1).toInt = 2) ∧ p.1 = 0))) (fX9_hasStepped 1 a1 m) := by
  have c2 : (2 : Int32).toInt = 2 := rfl
  have k8 : m.1 1 8 = R.1 1 8 := hI.kc 1 8 (by decide)
  have wa : a1.toNatClampNeg = a1.toInt.toNat := rfl
  unfold fX9_hasStepped fX9_hasStepped_0
  refine vAlB (hasLink_e (by rw [k8]; exact hb)) ?_
  dsimp only
  rw [k8]
  by_cases g1 : 0 ≤ a1.toInt ∧ a1.toInt < (R.1 1 8).toInt
  · rw [qH_1 g1, if_neg (show ¬ (1 : Int32) = 0 by decide)]
    refine vIn (by omega) (by omega) fun n => ?_
    refine vR fun r er => ?_
    rw [show 1 + 33 + 2 * a1.toNatClampNeg = 34 + 2 * a1.toNatClampNeg by omega] at er
    refine vAl (x := R.1 (34 + 2 * a1.toNatClampNeg) 1) (by rw [er]; exact (hI.kc _ 1 (kkN _ n)).symm) ?_
    refine vEq (fun g2 => ?_) (fun g2 => ?_)
    · unfold fX9_hasStepped_25 fX9_hasStepped_26
      exact v00 (vOk_some ⟨rfl, Or.inr ⟨fun w => w.2 g2, rfl⟩⟩)
    · unfold fX9_hasStepped_26
      exact v01 (vOk_some ⟨rfl, Or.inl ⟨⟨g1, g2⟩, rfl⟩⟩)
  · rw [qH_0 g1, if_pos rfl]
    unfold fX9_hasStepped_25 fX9_hasStepped_26
    exact v00 (vOk_some ⟨rfl, Or.inr ⟨fun w => g1 w.1, rfl⟩⟩)
theorem hasStair_c (hI : IC R m) (hb : 0 ≤ (R.1 1 8).toInt ∧ (R.1 1 8).toInt ≤ 10) : vOk (fun p : Int32 × xMem => p.2 = m ∧ ((((0 ≤ a1.toInt ∧ a1.toInt < (R.1 1 8).toInt) ∧ (R.1 (34 + 2 * a1.toNatClampNeg) 1).toInt = 0) ∧ p.1 = 1) ∨ (¬ ((0 ≤ a1.toInt ∧ a1.toInt < (R.1 1 8).toInt) ∧ (R.1 (34 + 2 * a1.toNatClampNeg) 1).toInt = 0) ∧ p.1 = 0))) (fX9_hasStair 1 a1 m) := by
  have c0 : (0 : Int32).toInt = 0 := rfl
  have k8 : m.1 1 8 = R.1 1 8 := hI.kc 1 8 (by decide)
  have wa : a1.toNatClampNeg = a1.toInt.toNat := rfl
  unfold fX9_hasStair fX9_hasStair_0
  refine vAlB (hasLink_e (by rw [k8]; exact hb)) ?_
  dsimp only
  rw [k8]
  by_cases g1 : 0 ≤ a1.toInt ∧ a1.toInt < (R.1 1 8).toInt
  · rw [qH_1 g1, if_neg (show ¬ (1 : Int32) = 0 by decide)]
    refine vIn (by omega) (by omega) fun n => ?_
    refine vR fun r er => ?_
    rw [show 1 + 33 + 2 * a1.toNatClampNeg = 34 + 2 * a1.toNatClampNeg by omega] at er
    refine vAl (x := R.1 (34 + 2 * a1.toNatClampNeg) 1) (by rw [er]; exact (hI.kc _ 1 (kkN _ n)).symm) ?_
    refine vNe (fun g2 => ?_) (fun g2 => ?_)
    · unfold fX9_hasStair_24 fX9_hasStair_25
      exact v00 (vOk_some ⟨rfl, Or.inr ⟨fun w => g2 (w.2.trans c0.symm), rfl⟩⟩)
    · unfold fX9_hasStair_25
      exact v01 (vOk_some ⟨rfl, Or.inl ⟨⟨g1, g2.trans c0⟩, rfl⟩⟩)
  · rw [qH_0 g1, if_pos rfl]
    unfold fX9_hasStair_24 fX9_hasStair_25
    exact v00 (vOk_some ⟨rfl, Or.inr ⟨fun w => g1 w.1, rfl⟩⟩)
theorem isLink_e (hG : GR R) (hI : IR R m) : fX12_isLink 291 a1 m = some (qH (R.1 292 2) a1, m) := by
  have c0 : (0 : Int32).toInt = 0 := rfl
  have c1 : (1 : Int32).toInt = 1 := rfl
  have c2 : (2 : Int32).toInt = 2 := rfl
  have hb : 0 ≤ (R.1 292 2).toInt ∧ (R.1 292 2).toInt ≤ 10 := hG.1.1.2.1
  refine of_vOk ?_
  unfold fX12_isLink fX12_isLink_0
  refine vIn (by omega) (by omega) fun _ => ?_
  refine vAl (k292_2 hI) ?_
  refine vS (by omega) fun x3 e3 f3 => ?_
  refine vAlB (in_e _ _ _ _) ?_
  dsimp only
  by_cases g : 0 ≤ a1.toInt ∧ a1.toInt < (R.1 292 2).toInt
  · rw [wi_1 (by omega)]
    refine v01 (vOk_some ?_)
    rw [qH_1 g]
  · rw [wi_0 (by omega)]
    refine v00 (vOk_some ?_)
    rw [qH_0 g]
theorem kind_e (hI : IR R m) (h1 : 0 ≤ a1.toInt ∧ a1.toInt ≤ 9) : fX12_linkOf 291 a1 0 m = some (R.1 292 (210 + 14 * a1.toNatClampNeg), m) := by
  have c0 : (0 : Int32).toInt = 0 := rfl
  have c14 : (14 : Int32).toInt = 14 := rfl
  have c210 : (210 : Int32).toInt = 210 := rfl
  have wa : a1.toNatClampNeg = a1.toInt.toNat := rfl
  refine of_vOk ?_
  unfold fX12_linkOf fX12_linkOf_0
  refine vM (v := 14 * a1.toInt) (by rw [c14]) (by omega) fun x1 e1 f1 => ?_
  refine vA (by omega) fun x2 e2 f2 => ?_
  refine vA (by omega) fun x3 e3 f3 => ?_
  have w3 : x3.toNatClampNeg = 210 + 14 * a1.toNatClampNeg := clN (by omega)
  refine vIn (by omega) (by omega) fun _ => ?_
  rw [w3]
  refine vAl (x := R.1 292 (210 + 14 * a1.toNatClampNeg)) (kA hI (by omega)).symm ?_
  exact vOk_some rfl
theorem bar_c (hI : IC R m) (hb : 0 ≤ (R.1 1 7).toInt ∧ (R.1 1 7).toInt ≤ 6) : vOk (fun p : Int32 × xMem => IC R p.2 ∧ ((((0 ≤ a1.toInt ∧ a1.toInt < (R.1 1 7).toInt) ∧ (0 ≤ a2.toInt ∧ a2.toInt ≤ 999)) ∧ p.1 = 1) ∨ (¬ ((0 ≤ a1.toInt ∧ a1.toInt < (R.1 1 7).toInt) ∧ (0 ≤ a2.toInt ∧ a2.toInt ≤ 999)) ∧ p.1 = 0))) (fX11_bar 0 a1 a2 m) := by
  have c0 : (0 : Int32).toInt = 0 := rfl
  have c999 : (999 : Int32).toInt = 999 := rfl
  have k7 : m.1 1 7 = R.1 1 7 := hI.kc 1 7 (by decide)
  unfold fX11_bar fX11_bar_0
  rw [show (0 : Nat) + 1 = 1 from rfl]
  refine vAlB (hasHall_e (by rw [k7]; exact hb)) ?_
  dsimp only
  rw [k7]
  by_cases g1 : 0 ≤ a1.toInt ∧ a1.toInt < (R.1 1 7).toInt
  · rw [qH_1 g1, if_neg (show ¬ (1 : Int32) = 0 by decide)]
    refine vAlB (within_e _ _ _ _) ?_
    dsimp only
    by_cases g2 : 0 ≤ a2.toInt ∧ a2.toInt ≤ 999
    · rw [wi_1 (by omega), if_pos (show ¬ (1 : Int32) = 0 by decide)]
      refine vIn (by omega) (by omega) fun n => ?_
      refine vR fun r er => ?_
      have hr : r ∈ pHall := by rw [er]; exact qStation_15_m3_6_inHall _ (show 1 ∈ pStation by decide) _ n
      refine vR fun m7 e7 => ?_
      have h7 : IC R m7 := by rw [e7]; exact IC_put hI (qHall_ok3 _ hr)
      exact vOk_some ⟨h7, Or.inl ⟨⟨g1, g2⟩, rfl⟩⟩
    · rw [wi_0 (by omega), if_neg (not_not_intro rfl)]
      exact vOk_some ⟨hI, Or.inr ⟨fun w => g2 w.2, rfl⟩⟩
  · rw [qH_0 g1, if_pos rfl]
    exact vOk_some ⟨hI, Or.inr ⟨fun w => g1 w.1, rfl⟩⟩
theorem bar_r (hG : GR R) (hI : IR R m) : vOk (fun p : Int32 × xMem => IR R p.2 ∧ ((((0 ≤ a1.toInt ∧ a1.toInt < (R.1 292 1).toInt) ∧ (0 ≤ a2.toInt ∧ a2.toInt ≤ 999)) ∧ p.1 = 1) ∨ (¬ ((0 ≤ a1.toInt ∧ a1.toInt < (R.1 292 1).toInt) ∧ (0 ≤ a2.toInt ∧ a2.toInt ≤ 999)) ∧ p.1 = 0))) (fX12_bar 291 a1 a2 m) := by
  have c0 : (0 : Int32).toInt = 0 := rfl
  have c1 : (1 : Int32).toInt = 1 := rfl
  have c4 : (4 : Int32).toInt = 4 := rfl
  have c20 : (20 : Int32).toInt = 20 := rfl
  have c999 : (999 : Int32).toInt = 999 := rfl
  have hb : 0 ≤ (R.1 292 1).toInt ∧ (R.1 292 1).toInt ≤ 6 := hG.1.1.1
  unfold fX12_bar fX12_bar_0
  refine vAlB (isHall_e hG hI) ?_
  dsimp only
  by_cases g1 : 0 ≤ a1.toInt ∧ a1.toInt < (R.1 292 1).toInt
  · rw [qH_1 g1, if_neg (show ¬ (1 : Int32) = 0 by decide)]
    refine vAlB (in_e _ _ _ _) ?_
    dsimp only
    by_cases g2 : 0 ≤ a2.toInt ∧ a2.toInt ≤ 999
    · rw [wi_1 (by omega), if_pos (show ¬ (1 : Int32) = 0 by decide)]
      refine vM (v := 4 * a1.toInt) (by rw [c4]) (by omega) fun x5 e5 f5 => ?_
      refine vA (by omega) fun x6 e6 f6 => ?_
      refine vA (by omega) fun x7 e7 f7 => ?_
      refine vIn (by omega) (by omega) fun _ => ?_
      refine vR fun m8 e8 => ?_
      have h8 : IR R m8 := by rw [e8]; exact IR_a hI (by omega)
      exact vOk_some ⟨h8, Or.inl ⟨⟨g1, g2⟩, rfl⟩⟩
    · rw [wi_0 (by omega), if_neg (not_not_intro rfl)]
      exact vOk_some ⟨hI, Or.inr ⟨fun w => g2 w.2, rfl⟩⟩
  · rw [qH_0 g1, if_pos rfl]
    exact vOk_some ⟨hI, Or.inr ⟨fun w => g1 w.1, rfl⟩⟩
theorem turn_c (hI : IC R m) (hb : 0 ≤ (R.1 1 8).toInt ∧ (R.1 1 8).toInt ≤ 10) : vOk (fun p : Int32 × xMem => IC R p.2 ∧ (((((0 ≤ a1.toInt ∧ a1.toInt < (R.1 1 8).toInt) ∧ ¬ (R.1 (34 + 2 * a1.toNatClampNeg) 1).toInt = 2) ∧ (0 ≤ a2.toInt ∧ a2.toInt ≤ 2)) ∧ p.1 = 1) ∨ (¬ (((0 ≤ a1.toInt ∧ a1.toInt < (R.1 1 8).toInt) ∧ ¬ (R.1 (34 + 2 * a1.toNatClampNeg) 1).toInt = 2) ∧ (0 ≤ a2.toInt ∧ a2.toInt ≤ 2)) ∧ p.1 = 0))) (fX11_turn 0 a1 a2 m) := by
  have c0 : (0 : Int32).toInt = 0 := rfl
  have c2 : (2 : Int32).toInt = 2 := rfl
  unfold fX11_turn fX11_turn_0
  rw [show (0 : Nat) + 1 = 1 from rfl]
  refine vOk_bind (hasStepped_c (a1 := a1) hI hb) fun p hp => ?_
  obtain ⟨x, m1⟩ := p
  obtain ⟨rfl, ⟨q, rfl⟩ | ⟨q, rfl⟩⟩ := hp
  · dsimp only
    rw [if_neg (show ¬ (1 : Int32) = 0 by decide)]
    refine vAlB (within_e _ _ _ _) ?_
    dsimp only
    by_cases g2 : 0 ≤ a2.toInt ∧ a2.toInt ≤ 2
    · rw [wi_1 (by omega), if_pos (show ¬ (1 : Int32) = 0 by decide)]
      have q1 := q.1
      refine vIn (by omega) (by omega) fun n => ?_
      refine vR fun r er => ?_
      have hr : r ∈ pLink := by rw [er]; exact qStation_33_m2_10_inLink _ (show 1 ∈ pStation by decide) _ n
      refine vOk_bind (fX3_turnTo_s hr hI) fun m7 h7 => ?_
      exact vOk_some ⟨h7, Or.inl ⟨⟨q, g2⟩, rfl⟩⟩
    · rw [wi_0 (by omega), if_neg (not_not_intro rfl)]
      exact vOk_some ⟨hI, Or.inr ⟨fun w => g2 w.2, rfl⟩⟩
  · dsimp only
    rw [if_pos rfl]
    exact vOk_some ⟨hI, Or.inr ⟨fun w => q w.1, rfl⟩⟩
theorem isStairs_c (hG : GR R) (hI : IR R m) : vOk (fun p : Int32 × xMem => p.2 = m ∧ ((((0 ≤ a1.toInt ∧ a1.toInt < (R.1 292 2).toInt) ∧ (R.1 292 (210 + 14 * a1.toNatClampNeg)).toInt < 2) ∧ p.1 = 1) ∨ (¬ ((0 ≤ a1.toInt ∧ a1.toInt < (R.1 292 2).toInt) ∧ (R.1 292 (210 + 14 * a1.toNatClampNeg)).toInt < 2) ∧ p.1 = 0))) (fX12_isStairs 291 a1 m) := by
  have c2 : (2 : Int32).toInt = 2 := rfl
  have hb : 0 ≤ (R.1 292 2).toInt ∧ (R.1 292 2).toInt ≤ 10 := hG.1.1.2.1
  unfold fX12_isStairs fX12_isStairs_0
  refine vAlB (isLink_e hG hI) ?_
  dsimp only
  by_cases g1 : 0 ≤ a1.toInt ∧ a1.toInt < (R.1 292 2).toInt
  · rw [qH_1 g1, if_neg (show ¬ (1 : Int32) = 0 by decide)]
    refine vAlB (kind_e hI (by omega)) ?_
    dsimp only
    refine vLe (fun g2 => ?_) (fun g2 => ?_)
    · unfold fX12_isStairs_22 fX12_isStairs_23
      exact v00 (vOk_some ⟨rfl, Or.inr ⟨fun w => by omega, rfl⟩⟩)
    · unfold fX12_isStairs_23
      exact v01 (vOk_some ⟨rfl, Or.inl ⟨⟨g1, by omega⟩, rfl⟩⟩)
  · rw [qH_0 g1, if_pos rfl]
    unfold fX12_isStairs_22 fX12_isStairs_23
    exact v00 (vOk_some ⟨rfl, Or.inr ⟨fun w => g1 w.1, rfl⟩⟩)
theorem turn_r (hG : GR R) (hI : IR R m) : vOk (fun p : Int32 × xMem => IR R p.2 ∧ (((((0 ≤ a1.toInt ∧ a1.toInt < (R.1 292 2).toInt) ∧ (R.1 292 (210 + 14 * a1.toNatClampNeg)).toInt < 2) ∧ (0 ≤ a2.toInt ∧ a2.toInt ≤ 2)) ∧ p.1 = 1) ∨ (¬ (((0 ≤ a1.toInt ∧ a1.toInt < (R.1 292 2).toInt) ∧ (R.1 292 (210 + 14 * a1.toNatClampNeg)).toInt < 2) ∧ (0 ≤ a2.toInt ∧ a2.toInt ≤ 2)) ∧ p.1 = 0))) (fX12_turn 291 a1 a2 m) := by
  have c0 : (0 : Int32).toInt = 0 := rfl
  have c2 : (2 : Int32).toInt = 2 := rfl
  have c5 : (5 : Int32).toInt = 5 := rfl
  have c6 : (6 : Int32).toInt = 6 := rfl
  have c7 : (7 : Int32).toInt = 7 := rfl
  have hb : 0 ≤ (R.1 292 2).toInt ∧ (R.1 292 2).toInt ≤ 10 := hG.1.1.2.1
  unfold fX12_turn fX12_turn_0
  refine vOk_bind (isStairs_c (a1 := a1) hG hI) fun p hp => ?_
  obtain ⟨x, m1⟩ := p
  obtain ⟨rfl, ⟨q, rfl⟩ | ⟨q, rfl⟩⟩ := hp
  · dsimp only
    rw [if_neg (show ¬ (1 : Int32) = 0 by decide)]
    refine vAlB (in_e _ _ _ _) ?_
    dsimp only
    by_cases g2 : 0 ≤ a2.toInt ∧ a2.toInt ≤ 2
    · rw [wi_1 (by omega), if_pos (show ¬ (1 : Int32) = 0 by decide)]
      have q1 := q.1
      have r56 : ∀ m' : xMem, IR R m' → vOk (fun p : Int32 × xMem => IR R p.2 ∧ (((((0 ≤ a1.toInt ∧ a1.toInt < (R.1 292 2).toInt) ∧ (R.1 292 (210 + 14 * a1.toNatClampNeg)).toInt < 2) ∧ (0 ≤ a2.toInt ∧ a2.toInt ≤ 2)) ∧ p.1 = 1) ∨ (¬ (((0 ≤ a1.toInt ∧ a1.toInt < (R.1 292 2).toInt) ∧ (R.1 292 (210 + 14 * a1.toNatClampNeg)).toInt < 2) ∧ (0 ≤ a2.toInt ∧ a2.toInt ≤ 2)) ∧ p.1 = 0))) (fX12_turn_56 291 a1 a2 m') := by
        intro m' h'
        unfold fX12_turn_56
        refine vBindP (fX12_linkOf_s hG (by omega) h') fun v _ _ => ?_
        dsimp only
        refine vNe (fun _ => ?_) (fun _ => ?_)
        · exact vOk_some ⟨h', Or.inl ⟨⟨q, g2⟩, rfl⟩⟩
        · refine vOk_bind (fX12_tells_s hG (by omega) h') fun m3 h3 => ?_
          exact vOk_some ⟨h3, Or.inl ⟨⟨q, g2⟩, rfl⟩⟩
      refine vNe (fun _ => ?_) (fun _ => ?_)
      · refine vOk_bind (fX12_tells_s hG (by omega) hI) fun m6 h6 => ?_
        refine vBindP (fX12_loadOf_s hG (by omega) h6) fun v _ _ => ?_
        dsimp only
        refine vNe (fun _ => r56 _ h6) (fun _ => ?_)
        refine vOk_bind (fX12_tells_s hG (by omega) h6) fun m9 h9 => ?_
        exact r56 _ h9
      · refine vOk_bind (fX12_tells_s hG (by omega) hI) fun m6 h6 => ?_
        exact vOk_some ⟨h6, Or.inl ⟨⟨q, g2⟩, rfl⟩⟩
    · rw [wi_0 (by omega), if_neg (not_not_intro rfl)]
      exact vOk_some ⟨hI, Or.inr ⟨fun w => g2 w.2, rfl⟩⟩
  · dsimp only
    rw [if_pos rfl]
    exact vOk_some ⟨hI, Or.inr ⟨fun w => q w.1, rfl⟩⟩
theorem qLink_ok8' : ∀ a ∈ pLink, okW (a) 8 := by decide +kernel
theorem mode_c (hI : IC R m) (hb : 0 ≤ (R.1 1 8).toInt ∧ (R.1 1 8).toInt ≤ 10) : vOk (fun p : Int32 × xMem => IC R p.2 ∧ (((((0 ≤ a1.toInt ∧ a1.toInt < (R.1 1 8).toInt) ∧ (R.1 (34 + 2 * a1.toNatClampNeg) 1).toInt = 0) ∧ (0 ≤ a2.toInt ∧ a2.toInt ≤ 1)) ∧ p.1 = 1) ∨ (¬ (((0 ≤ a1.toInt ∧ a1.toInt < (R.1 1 8).toInt) ∧ (R.1 (34 + 2 * a1.toNatClampNeg) 1).toInt = 0) ∧ (0 ≤ a2.toInt ∧ a2.toInt ≤ 1)) ∧ p.1 = 0))) (fX11_mode 0 a1 a2 m) := by
  have c0 : (0 : Int32).toInt = 0 := rfl
  have c1 : (1 : Int32).toInt = 1 := rfl
  unfold fX11_mode fX11_mode_0
  rw [show (0 : Nat) + 1 = 1 from rfl]
  refine vOk_bind (hasStair_c (a1 := a1) hI hb) fun p hp => ?_
  obtain ⟨x, m1⟩ := p
  obtain ⟨rfl, ⟨q, rfl⟩ | ⟨q, rfl⟩⟩ := hp
  · dsimp only
    rw [if_neg (show ¬ (1 : Int32) = 0 by decide)]
    refine vAlB (within_e _ _ _ _) ?_
    dsimp only
    by_cases g2 : 0 ≤ a2.toInt ∧ a2.toInt ≤ 1
    · rw [wi_1 (by omega), if_pos (show ¬ (1 : Int32) = 0 by decide)]
      have q1 := q.1
      refine vIn (by omega) (by omega) fun n => ?_
      refine vR fun r er => ?_
      have hr : r ∈ pLink := by rw [er]; exact qStation_33_m2_10_inLink _ (show 1 ∈ pStation by decide) _ n
      refine vR fun m7 e7 => ?_
      have h7 : IC R m7 := by rw [e7]; exact IC_put hI (qLink_ok8' _ hr)
      exact vOk_some ⟨h7, Or.inl ⟨⟨q, g2⟩, rfl⟩⟩
    · rw [wi_0 (by omega), if_neg (not_not_intro rfl)]
      exact vOk_some ⟨hI, Or.inr ⟨fun w => g2 w.2, rfl⟩⟩
  · dsimp only
    rw [if_pos rfl]
    exact vOk_some ⟨hI, Or.inr ⟨fun w => q w.1, rfl⟩⟩
theorem mode_r (hG : GR R) (hI : IR R m) : vOk (fun p : Int32 × xMem => IR R p.2 ∧ (((((0 ≤ a1.toInt ∧ a1.toInt < (R.1 292 2).toInt) ∧ (R.1 292 (210 + 14 * a1.toNatClampNeg)).toInt = 0) ∧ (0 ≤ a2.toInt ∧ a2.toInt ≤ 1)) ∧ p.1 = 1) ∨ (¬ (((0 ≤ a1.toInt ∧ a1.toInt < (R.1 292 2).toInt) ∧ (R.1 292 (210 + 14 * a1.toNatClampNeg)).toInt = 0) ∧ (0 ≤ a2.toInt ∧ a2.toInt ≤ 1)) ∧ p.1 = 0))) (fX12_mode 291 a1 a2 m) := by
  have c0 : (0 : Int32).toInt = 0 := rfl
  have c1 : (1 : Int32).toInt = 1 := rfl
  have c8 : (8 : Int32).toInt = 8 := rfl
  have hb : 0 ≤ (R.1 292 2).toInt ∧ (R.1 292 2).toInt ≤ 10 := hG.1.1.2.1
  unfold fX12_mode fX12_mode_0
  refine vAlB (isLink_e hG hI) ?_
  dsimp only
  by_cases g1 : 0 ≤ a1.toInt ∧ a1.toInt < (R.1 292 2).toInt
  · rw [qH_1 g1, if_neg (show ¬ (1 : Int32) = 0 by decide)]
    refine vAlB (kind_e hI (by omega)) ?_
    dsimp only
    refine vNe (fun g2 => ?_) (fun g2 => ?_)
    · exact vOk_some ⟨hI, Or.inr ⟨fun w => g2 (w.1.2.trans c0.symm), rfl⟩⟩
    · refine vAlB (in_e _ _ _ _) ?_
      dsimp only
      by_cases g3 : 0 ≤ a2.toInt ∧ a2.toInt ≤ 1
      · rw [wi_1 (by omega), if_pos (show ¬ (1 : Int32) = 0 by decide)]
        refine vOk_bind (fX12_tells_s hG (by omega) hI) fun m7 h7 => ?_
        exact vOk_some ⟨h7, Or.inl ⟨⟨⟨g1, g2.trans c0⟩, g3⟩, rfl⟩⟩
      · rw [wi_0 (by omega), if_neg (not_not_intro rfl)]
        exact vOk_some ⟨hI, Or.inr ⟨fun w => g3 w.2, rfl⟩⟩
  · rw [qH_0 g1, if_pos rfl]
    exact vOk_some ⟨hI, Or.inr ⟨fun w => g1 w.1.1, rfl⟩⟩
theorem ca_bar (h : Inv m) : vOk (fun p : Int32 × xMem => IC m p.2 ∧ ((((0 ≤ a1.toInt ∧ a1.toInt < (m.1 1 7).toInt) ∧ (0 ≤ a2.toInt ∧ a2.toInt ≤ 999)) ∧ p.1 = 1) ∨ (¬ ((0 ≤ a1.toInt ∧ a1.toInt < (m.1 1 7).toInt) ∧ (0 ≤ a2.toInt ∧ a2.toInt ≤ 999)) ∧ p.1 = 0))) (fX11_bar 0 a1 a2 m) := bar_c (CI_IC h.1) (b1 h)
theorem ra_bar {p : Int32 × xMem} (h : Inv m) (hp : IC m p.2 ∧ ((((0 ≤ a1.toInt ∧ a1.toInt < (m.1 1 7).toInt) ∧ (0 ≤ a2.toInt ∧ a2.toInt ≤ 999)) ∧ p.1 = 1) ∨ (¬ ((0 ≤ a1.toInt ∧ a1.toInt < (m.1 1 7).toInt) ∧ (0 ≤ a2.toInt ∧ a2.toInt ≤ 999)) ∧ p.1 = 0))) : vOk (fun q : Int32 × xMem => Inv q.2 ∧ p.1 = q.1) (fX12_bar 291 a1 a2 p.2) := by
  have h1 := Inv_C h hp.1
  have e := cls_rows hp.1 (fun _ _ _ => rfl)
  have wa : a1.toNatClampNeg = a1.toInt.toNat := rfl
  have E : ((0 ≤ a1.toInt ∧ a1.toInt < (m.1 1 7).toInt) ∧ (0 ≤ a2.toInt ∧ a2.toInt ≤ 999)) ↔ ((0 ≤ a1.toInt ∧ a1.toInt < (p.2.1 292 1).toInt) ∧ (0 ≤ a2.toInt ∧ a2.toInt ≤ 999)) := by
    rw [e 292 (by omega) 1, ← h.2.2.1.1.2.1]
  refine vOk_mono (bar_r (a1 := a1) (a2 := a2) h1.2.1.2.1 h1.2.1.1) fun q hq => ⟨Inv_R0 h1 hq.1, ?_⟩
  rcases hp.2 with ⟨c, z⟩ | ⟨c, z⟩ <;> rcases hq.2 with ⟨d, w⟩ | ⟨d, w⟩
  · rw [z, w]
  · exact absurd (E.mp c) d
  · exact absurd (E.mpr d) c
  · rw [z, w]
theorem ca_turn (h : Inv m) : vOk (fun p : Int32 × xMem => IC m p.2 ∧ (((((0 ≤ a1.toInt ∧ a1.toInt < (m.1 1 8).toInt) ∧ ¬ (m.1 (34 + 2 * a1.toNatClampNeg) 1).toInt = 2) ∧ (0 ≤ a2.toInt ∧ a2.toInt ≤ 2)) ∧ p.1 = 1) ∨ (¬ (((0 ≤ a1.toInt ∧ a1.toInt < (m.1 1 8).toInt) ∧ ¬ (m.1 (34 + 2 * a1.toNatClampNeg) 1).toInt = 2) ∧ (0 ≤ a2.toInt ∧ a2.toInt ≤ 2)) ∧ p.1 = 0))) (fX11_turn 0 a1 a2 m) := turn_c (CI_IC h.1) (b2 h)
theorem ra_turn {p : Int32 × xMem} (h : Inv m) (hp : IC m p.2 ∧ (((((0 ≤ a1.toInt ∧ a1.toInt < (m.1 1 8).toInt) ∧ ¬ (m.1 (34 + 2 * a1.toNatClampNeg) 1).toInt = 2) ∧ (0 ≤ a2.toInt ∧ a2.toInt ≤ 2)) ∧ p.1 = 1) ∨ (¬ (((0 ≤ a1.toInt ∧ a1.toInt < (m.1 1 8).toInt) ∧ ¬ (m.1 (34 + 2 * a1.toNatClampNeg) 1).toInt = 2) ∧ (0 ≤ a2.toInt ∧ a2.toInt ≤ 2)) ∧ p.1 = 0))) : vOk (fun q : Int32 × xMem => Inv q.2 ∧ p.1 = q.1) (fX12_turn 291 a1 a2 p.2) := by
  have h1 := Inv_C h hp.1
  have e := cls_rows hp.1 (fun _ _ _ => rfl)
  have wa : a1.toNatClampNeg = a1.toInt.toNat := rfl
  have E : (((0 ≤ a1.toInt ∧ a1.toInt < (m.1 1 8).toInt) ∧ ¬ (m.1 (34 + 2 * a1.toNatClampNeg) 1).toInt = 2) ∧ (0 ≤ a2.toInt ∧ a2.toInt ≤ 2)) ↔ (((0 ≤ a1.toInt ∧ a1.toInt < (p.2.1 292 2).toInt) ∧ (p.2.1 292 (210 + 14 * a1.toNatClampNeg)).toInt < 2) ∧ (0 ≤ a2.toInt ∧ a2.toInt ≤ 2)) := by
    rw [e 292 (by omega) 2, e 292 (by omega), h.2.2.1.1.2.2.1]
    have hb : 0 ≤ (m.1 292 2).toInt ∧ (m.1 292 2).toInt ≤ 10 := h.2.1.2.1.1.1.2.1
    by_cases g : 0 ≤ a1.toInt ∧ a1.toInt < (m.1 292 2).toInt
    · have k := h.2.2.1.2 a1.toNatClampNeg (by omega) (by omega)
      have k2 : m.1 (34 + 2 * a1.toNatClampNeg) 1 = m.1 292 (210 + 14 * a1.toNatClampNeg) := by rw [← k, show 1 + 33 + 2 * a1.toNatClampNeg = 34 + 2 * a1.toNatClampNeg by omega]
      have b := (h.2.1.2.1.1.2.1 a1.toNatClampNeg (by omega)).1
      have b1 := b.1
      have b2 := b.2
      refine ⟨fun w => ?_, fun w => ?_⟩
      · rw [k2] at w; exact ⟨⟨g, by omega⟩, w.2⟩
      · rw [k2]; exact ⟨⟨g, by omega⟩, w.2⟩
    · exact ⟨fun w => absurd w.1.1 g, fun w => absurd w.1.1 g⟩
  refine vOk_mono (turn_r (a1 := a1) (a2 := a2) h1.2.1.2.1 h1.2.1.1) fun q hq => ⟨Inv_R0 h1 hq.1, ?_⟩
  rcases hp.2 with ⟨c, z⟩ | ⟨c, z⟩ <;> rcases hq.2 with ⟨d, w⟩ | ⟨d, w⟩
  · rw [z, w]
  · exact absurd (E.mp c) d
  · exact absurd (E.mpr d) c
  · rw [z, w]
theorem ca_mode (h : Inv m) : vOk (fun p : Int32 × xMem => IC m p.2 ∧ (((((0 ≤ a1.toInt ∧ a1.toInt < (m.1 1 8).toInt) ∧ (m.1 (34 + 2 * a1.toNatClampNeg) 1).toInt = 0) ∧ (0 ≤ a2.toInt ∧ a2.toInt ≤ 1)) ∧ p.1 = 1) ∨ (¬ (((0 ≤ a1.toInt ∧ a1.toInt < (m.1 1 8).toInt) ∧ (m.1 (34 + 2 * a1.toNatClampNeg) 1).toInt = 0) ∧ (0 ≤ a2.toInt ∧ a2.toInt ≤ 1)) ∧ p.1 = 0))) (fX11_mode 0 a1 a2 m) := mode_c (CI_IC h.1) (b2 h)
theorem ra_mode {p : Int32 × xMem} (h : Inv m) (hp : IC m p.2 ∧ (((((0 ≤ a1.toInt ∧ a1.toInt < (m.1 1 8).toInt) ∧ (m.1 (34 + 2 * a1.toNatClampNeg) 1).toInt = 0) ∧ (0 ≤ a2.toInt ∧ a2.toInt ≤ 1)) ∧ p.1 = 1) ∨ (¬ (((0 ≤ a1.toInt ∧ a1.toInt < (m.1 1 8).toInt) ∧ (m.1 (34 + 2 * a1.toNatClampNeg) 1).toInt = 0) ∧ (0 ≤ a2.toInt ∧ a2.toInt ≤ 1)) ∧ p.1 = 0))) : vOk (fun q : Int32 × xMem => Inv q.2 ∧ p.1 = q.1) (fX12_mode 291 a1 a2 p.2) := by
  have h1 := Inv_C h hp.1
  have e := cls_rows hp.1 (fun _ _ _ => rfl)
  have wa : a1.toNatClampNeg = a1.toInt.toNat := rfl
  have E : (((0 ≤ a1.toInt ∧ a1.toInt < (m.1 1 8).toInt) ∧ (m.1 (34 + 2 * a1.toNatClampNeg) 1).toInt = 0) ∧ (0 ≤ a2.toInt ∧ a2.toInt ≤ 1)) ↔ (((0 ≤ a1.toInt ∧ a1.toInt < (p.2.1 292 2).toInt) ∧ (p.2.1 292 (210 + 14 * a1.toNatClampNeg)).toInt = 0) ∧ (0 ≤ a2.toInt ∧ a2.toInt ≤ 1)) := by
    rw [e 292 (by omega) 2, e 292 (by omega), h.2.2.1.1.2.2.1]
    have hb : 0 ≤ (m.1 292 2).toInt ∧ (m.1 292 2).toInt ≤ 10 := h.2.1.2.1.1.1.2.1
    by_cases g : 0 ≤ a1.toInt ∧ a1.toInt < (m.1 292 2).toInt
    · have k := h.2.2.1.2 a1.toNatClampNeg (by omega) (by omega)
      have k2 : m.1 (34 + 2 * a1.toNatClampNeg) 1 = m.1 292 (210 + 14 * a1.toNatClampNeg) := by rw [← k, show 1 + 33 + 2 * a1.toNatClampNeg = 34 + 2 * a1.toNatClampNeg by omega]
      have b := (h.2.1.2.1.1.2.1 a1.toNatClampNeg (by omega)).1
      have b1 := b.1
      have b2 := b.2
      refine ⟨fun w => ?_, fun w => ?_⟩
      · rw [k2] at w; exact ⟨⟨g, by omega⟩, w.2⟩
      · rw [k2]; exact ⟨⟨g, by omega⟩, w.2⟩
    · exact ⟨fun w => absurd w.1.1 g, fun w => absurd w.1.1 g⟩
  refine vOk_mono (mode_r (a1 := a1) (a2 := a2) h1.2.1.2.1 h1.2.1.1) fun q hq => ⟨Inv_R0 h1 hq.1, ?_⟩
  rcases hp.2 with ⟨c, z⟩ | ⟨c, z⟩ <;> rcases hq.2 with ⟨d, w⟩ | ⟨d, w⟩
  · rw [z, w]
  · exact absurd (E.mp c) d
  · exact absurd (E.mpr d) c
  · rw [z, w]
end
