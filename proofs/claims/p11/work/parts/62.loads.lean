/-! load and unload, on both sides, from any memory -/
theorem load_c {R m : xMem} {a1 : Int32} (hI : IC R m) (h0 : 0 ≤ (R.1 14 1).toInt ∧ (R.1 14 1).toInt ≤ 60) : vOk (fun p : Int32 × xMem => if (0 ≤ a1.toInt ∧ a1.toInt ≤ 80) ∧ (R.1 14 1).toInt < 60 then p.1 = R.1 14 1 + 1 ∧ IC (xPut (xPut R 15 (R.1 14 1).toNatClampNeg a1) 14 1 (R.1 14 1 + 1)) p.2 else p.1 = -1 ∧ IC R p.2) (fX11_load 0 a1 m) := by
  have c0 : (0 : Int32).toInt = 0 := rfl
  have c60 : (60 : Int32).toInt = 60 := rfl
  have c80 : (80 : Int32).toInt = 80 := rfl
  have kc : m.1 14 1 = R.1 14 1 := hI.kc 14 1 (by decide)
  unfold fX11_load fX11_load_0
  refine vAlB (within_e _ _ _ _) ?_
  dsimp only
  by_cases g1 : 0 ≤ a1.toInt ∧ a1.toInt ≤ 80
  · rw [wi_1 (by omega), if_neg (show ¬ (1 : Int32) = 0 by decide)]
    refine vOk_bind (Q := fun p : Int32 × xMem => if (R.1 14 1).toInt < 60 then p.1 = R.1 14 1 + 1 ∧ IC (xPut (xPut R 15 (R.1 14 1).toNatClampNeg a1) 14 1 (R.1 14 1 + 1)) p.2 else p.1 = -1 ∧ IC R p.2) ?_ fun p hp => ?_
    · unfold fX4_tell fX4_tell_0
      refine vAl kc.symm ?_
      refine vLt (fun g => ?_) (fun g => ?_)
      · exfalso; omega
      · refine vAl kc.symm ?_
        refine vLt (fun g2 => ?_) (fun g2 => ?_)
        · refine vAl kc.symm ?_
          refine vIn (by omega) (by omega) fun n => ?_
          refine vR fun m6 e6 => ?_
          have h6 : IC (xPut R 15 (R.1 14 1).toNatClampNeg a1) m6 := by rw [e6]; exact IC_keep hI (by decide)
          have k6 : m6.1 14 1 = R.1 14 1 := (h6.kc 14 1 (by decide)).trans (xP_pl (by omega)).symm
          refine vAl k6.symm ?_
          refine vAl (x := R.1 14 1 + 1) rfl ?_
          refine vR fun m7 e7 => ?_
          have h7 : IC (xPut (xPut R 15 (R.1 14 1).toNatClampNeg a1) 14 1 (R.1 14 1 + 1)) m7 := by rw [e7]; exact IC_cfg h6 (by decide)
          refine vAl (x := R.1 14 1 + 1) (xP_eqE e7) ?_
          refine vOk_some ?_
          rw [if_pos (by omega)]
          exact ⟨rfl, h7⟩
        · refine vOk_some ?_
          rw [if_neg (by omega)]
          exact ⟨rfl, hI⟩
    · refine vOk_some ?_
      by_cases g2 : (R.1 14 1).toInt < 60
      · rw [if_pos g2] at hp
        rw [if_pos ⟨g1, g2⟩]
        exact hp
      · rw [if_neg g2] at hp
        rw [if_neg (fun q => g2 q.2)]
        exact hp
  · rw [wi_0 (by omega), if_pos rfl]
    refine vOk_some ?_
    rw [if_neg (fun q => g1 q.1)]
    exact ⟨rfl, hI⟩
theorem unload_c {R m : xMem} (hI : IC R m) : vOk (fun p : Int32 × xMem => p.1 = R.1 14 1 ∧ IC (xPut R 14 1 0) p.2) (fX11_unload 0 m) := by
  have kc : m.1 14 1 = R.1 14 1 := hI.kc 14 1 (by decide)
  unfold fX11_unload fX11_unload_0
  refine vAl kc.symm ?_
  refine vR fun m7 e7 => ?_
  have h7 : IC (xPut R 14 1 0) m7 := by rw [e7]; exact IC_cfg hI (by decide)
  exact vOk_some ⟨rfl, h7⟩
theorem k292_8 {R m : xMem} (h : IR R m) : R.1 292 8 = m.1 (291 + 1) (8 : Int32).toNatClampNeg := (kA h (j := 8) (by omega)).symm
theorem unload_r {R m : xMem} (hI : IR R m) : vOk (fun p : Int32 × xMem => p.1 = R.1 292 8 ∧ IR (xPut R 292 8 0) p.2) (fX12_unload 291 m) := by
  have c8 : (8 : Int32).toInt = 8 := rfl
  unfold fX12_unload fX12_unload_0
  refine vIn (by omega) (by omega) fun n1 => ?_
  refine vAl (k292_8 hI) ?_
  refine vIn (by omega) (by omega) fun n2 => ?_
  refine vR fun m7 e7 => ?_
  have h7 : IR (xPut R 292 8 0) m7 := by rw [e7]; exact IR_cfg hI (by omega)
  exact vOk_some ⟨rfl, h7⟩
theorem load_r {R m : xMem} {a1 : Int32} (hG : GR R) (hI : IR R m) : vOk (fun p : Int32 × xMem => if (0 ≤ a1.toInt ∧ a1.toInt ≤ 80) ∧ (R.1 292 8).toInt < 60 then p.1 = R.1 292 8 + 1 ∧ IR (xPut (xPut R 292 (1550 + (R.1 292 8).toNatClampNeg) a1) 292 8 (R.1 292 8 + 1)) p.2 else p.1 = -1 ∧ IR R p.2) (fX12_load 291 a1 m) := by
  have c0 : (0 : Int32).toInt = 0 := rfl
  have c1 : (1 : Int32).toInt = 1 := rfl
  have c8 : (8 : Int32).toInt = 8 := rfl
  have c60 : (60 : Int32).toInt = 60 := rfl
  have c80 : (80 : Int32).toInt = 80 := rfl
  have c1550 : (1550 : Int32).toInt = 1550 := rfl
  have hb : 0 ≤ (R.1 292 8).toInt ∧ (R.1 292 8).toInt ≤ 60 := hG.1.1.2.2.2.2.2.2.2
  have wb : (R.1 292 8).toNatClampNeg = (R.1 292 8).toInt.toNat := rfl
  unfold fX12_load fX12_load_0
  refine vAlB (in_e _ _ _ _) ?_
  dsimp only
  by_cases g1 : 0 ≤ a1.toInt ∧ a1.toInt ≤ 80
  · rw [wi_1 (by omega), if_neg (show ¬ (1 : Int32) = 0 by decide)]
    refine vIn (by omega) (by omega) fun n1 => ?_
    refine vAl (k292_8 hI) ?_
    refine vNe (fun g2 => ?_) (fun g2 => ?_)
    · refine vIn (by omega) (by omega) fun n2 => ?_
      refine vAl (k292_8 hI) ?_
      refine vA (by omega) fun v3 e3 f3 => ?_
      refine vIn (by omega) (by omega) fun n4 => ?_
      have w3 : v3.toNatClampNeg = v3.toInt.toNat := rfl
      rw [show v3.toNatClampNeg = 1550 + (R.1 292 8).toNatClampNeg by omega]
      refine vR fun m5 e5 => ?_
      have h5 : IR (xPut R 292 (1550 + (R.1 292 8).toNatClampNeg) a1) m5 := by rw [e5]; exact IR_cfg hI (by omega)
      have k5 : R.1 292 8 = m5.1 (291 + 1) (8 : Int32).toNatClampNeg := (xP_sl (show 8 ≠ 1550 + (R.1 292 8).toNatClampNeg by omega)).trans (k292_8 h5)
      refine vIn (by omega) (by omega) fun n6 => ?_
      refine vAl k5 ?_
      refine vAl (x := R.1 292 8 + 1) rfl ?_
      refine vIn (by omega) (by omega) fun n7 => ?_
      refine vR fun m8 e8 => ?_
      have h8 : IR (xPut (xPut R 292 (1550 + (R.1 292 8).toNatClampNeg) a1) 292 8 (R.1 292 8 + 1)) m8 := by rw [e8]; exact IR_cfg h5 (by omega)
      refine vIn (by omega) (by omega) fun n9 => ?_
      refine vAl (x := R.1 292 8 + 1) (xP_eqE e8) ?_
      refine vOk_some ?_
      rw [if_pos ⟨g1, by omega⟩]
      exact ⟨rfl, h8⟩
    · refine vOk_some ?_
      rw [if_neg (fun q => by omega)]
      exact ⟨rfl, hI⟩
  · rw [wi_0 (by omega), if_pos rfl]
    refine vOk_some ?_
    rw [if_neg (fun q => g1 q.1)]
    exact ⟨rfl, hI⟩
