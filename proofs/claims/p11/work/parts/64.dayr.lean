/-! day on the reference's side, from any memory -/
theorem k292_6 {R m : xMem} (h : IR R m) : R.1 292 6 = m.1 (291 + 1) (6 : Int32).toNatClampNeg := (kA h (j := 6) (by omega)).symm
theorem day_r {R m : xMem} {a1 a2 a3 : Int32} (hG : GR R) (hI : IR R m) : vOk (fun p : Int32 × xMem => if ((0 ≤ a2.toInt ∧ a2.toInt ≤ 5) ∧ (0 ≤ a3.toInt ∧ a3.toInt ≤ 9999)) ∧ (R.1 292 6).toInt < 40 then p.1 = R.1 292 6 + 1 ∧ IR (xPut (xPut (xPut (xPut R 292 (1390 + 3 * (R.1 292 6).toNatClampNeg) (if a1 = 0 then 0 else 1)) 292 (1391 + 3 * (R.1 292 6).toNatClampNeg) a2) 292 (1392 + 3 * (R.1 292 6).toNatClampNeg) a3) 292 6 (R.1 292 6 + 1)) p.2 else p.1 = -1 ∧ IR R p.2) (fX12_day 291 a1 a2 a3 m) := by
  have c0 : (0 : Int32).toInt = 0 := rfl
  have c1 : (1 : Int32).toInt = 1 := rfl
  have c2 : (2 : Int32).toInt = 2 := rfl
  have c3 : (3 : Int32).toInt = 3 := rfl
  have c5 : (5 : Int32).toInt = 5 := rfl
  have c6 : (6 : Int32).toInt = 6 := rfl
  have c40 : (40 : Int32).toInt = 40 := rfl
  have c1390 : (1390 : Int32).toInt = 1390 := rfl
  have c9999 : (9999 : Int32).toInt = 9999 := rfl
  have hb : 0 ≤ (R.1 292 6).toInt ∧ (R.1 292 6).toInt ≤ 40 := hG.1.1.2.2.2.2.2.1
  have wb : (R.1 292 6).toNatClampNeg = (R.1 292 6).toInt.toNat := rfl
  have body : ∀ (x : Int32), x.toInt = 1390 + 3 * (R.1 292 6).toInt → ∀ s : Int32, s = (if a1 = 0 then 0 else 1) → (R.1 292 6).toInt < 40 → vOk (fun p : Int32 × xMem => p.1 = R.1 292 6 + 1 ∧ IR (xPut (xPut (xPut (xPut R 292 (1390 + 3 * (R.1 292 6).toNatClampNeg) (if a1 = 0 then 0 else 1)) 292 (1391 + 3 * (R.1 292 6).toNatClampNeg) a2) 292 (1392 + 3 * (R.1 292 6).toNatClampNeg) a3) 292 6 (R.1 292 6 + 1)) p.2) (fX12_day_64 291 a1 a2 a3 x (291 + 1) x s m) := by
    intro x hx s hs hlt
    have wx : x.toNatClampNeg = x.toInt.toNat := rfl
    unfold fX12_day_64
    rw [← hs]
    refine vIn (by omega) (by omega) fun n1 => ?_
    refine vR fun m2 e2 => ?_
    rw [show x.toNatClampNeg = 1390 + 3 * (R.1 292 6).toNatClampNeg by omega] at e2
    have h2 : IR (xPut R 292 (1390 + 3 * (R.1 292 6).toNatClampNeg) s) m2 := by rw [e2]; exact IR_cfg hI (by omega)
    refine vA (by omega) fun v3 e3 f3 => ?_
    have w3 : v3.toNatClampNeg = v3.toInt.toNat := rfl
    refine vIn (by omega) (by omega) fun n4 => ?_
    refine vR fun m5 e5 => ?_
    rw [show v3.toNatClampNeg = 1391 + 3 * (R.1 292 6).toNatClampNeg by omega] at e5
    have h5 : IR (xPut (xPut R 292 (1390 + 3 * (R.1 292 6).toNatClampNeg) s) 292 (1391 + 3 * (R.1 292 6).toNatClampNeg) a2) m5 := by rw [e5]; exact IR_cfg h2 (by omega)
    refine vA (by omega) fun v6 e6 f6 => ?_
    have w6 : v6.toNatClampNeg = v6.toInt.toNat := rfl
    refine vIn (by omega) (by omega) fun n7 => ?_
    refine vR fun m8 e8 => ?_
    rw [show v6.toNatClampNeg = 1392 + 3 * (R.1 292 6).toNatClampNeg by omega] at e8
    have h8 : IR (xPut (xPut (xPut R 292 (1390 + 3 * (R.1 292 6).toNatClampNeg) s) 292 (1391 + 3 * (R.1 292 6).toNatClampNeg) a2) 292 (1392 + 3 * (R.1 292 6).toNatClampNeg) a3) m8 := by rw [e8]; exact IR_cfg h5 (by omega)
    have k8 : R.1 292 6 = m8.1 (291 + 1) (6 : Int32).toNatClampNeg := ((xP_sl (show 6 ≠ 1390 + 3 * (R.1 292 6).toNatClampNeg by omega)).trans ((xP_sl (show 6 ≠ 1391 + 3 * (R.1 292 6).toNatClampNeg by omega)).trans (xP_sl (show 6 ≠ 1392 + 3 * (R.1 292 6).toNatClampNeg by omega)))).trans (k292_6 h8)
    refine vIn (by omega) (by omega) fun n9 => ?_
    refine vAl k8 ?_
    refine vAl (x := R.1 292 6 + 1) rfl ?_
    refine vIn (by omega) (by omega) fun n10 => ?_
    refine vR fun m11 e11 => ?_
    have h11 : IR (xPut (xPut (xPut (xPut R 292 (1390 + 3 * (R.1 292 6).toNatClampNeg) s) 292 (1391 + 3 * (R.1 292 6).toNatClampNeg) a2) 292 (1392 + 3 * (R.1 292 6).toNatClampNeg) a3) 292 6 (R.1 292 6 + 1)) m11 := by rw [e11]; exact IR_cfg h8 (by omega)
    refine vIn (by omega) (by omega) fun n12 => ?_
    refine vAl (x := R.1 292 6 + 1) (xP_eqE e11) ?_
    exact vOk_some ⟨rfl, h11⟩
  unfold fX12_day fX12_day_0
  refine vAlB (in_e _ _ _ _) ?_
  dsimp only
  by_cases g1 : 0 ≤ a2.toInt ∧ a2.toInt ≤ 5
  · rw [wi_1 (by omega), if_neg (show ¬ (1 : Int32) = 0 by decide)]
    refine vAlB (in_e _ _ _ _) ?_
    dsimp only
    by_cases g2 : 0 ≤ a3.toInt ∧ a3.toInt ≤ 9999
    · rw [wi_1 (by omega), if_neg (show ¬ (1 : Int32) = 0 by decide)]
      refine vIn (by omega) (by omega) fun n1 => ?_
      refine vAl (k292_6 hI) ?_
      refine vNe (fun g3 => ?_) (fun g3 => ?_)
      · refine vIn (by omega) (by omega) fun n2 => ?_
        refine vAl (k292_6 hI) ?_
        refine vM (v := 3 * (R.1 292 6).toInt) (by rw [c3]) (by omega) fun v3 e3 f3 => ?_
        refine vA (by omega) fun v4 e4 f4 => ?_
        have gg : ((0 ≤ a2.toInt ∧ a2.toInt ≤ 5) ∧ (0 ≤ a3.toInt ∧ a3.toInt ≤ 9999)) ∧ (R.1 292 6).toInt < 40 := ⟨⟨g1, g2⟩, by omega⟩
        refine vEq (fun g4 => ?_) (fun g4 => ?_)
        · refine vOk_mono (body v4 (by omega) 0 (if_pos (Int32.toInt_inj.mp g4)).symm (by omega)) fun p hp => ?_
          rw [if_pos gg]
          exact hp
        · refine vOk_mono (body v4 (by omega) 1 (if_neg (fun q => g4 (congrArg _ q))).symm (by omega)) fun p hp => ?_
          rw [if_pos gg]
          exact hp
      · refine vOk_some ?_
        rw [if_neg (fun q => by omega)]
        exact ⟨rfl, hI⟩
    · rw [wi_0 (by omega), if_pos rfl]
      refine vOk_some ?_
      rw [if_neg (fun q => g2 q.1.2)]
      exact ⟨rfl, hI⟩
  · rw [wi_0 (by omega), if_pos rfl]
    refine vOk_some ?_
    rw [if_neg (fun q => g1 q.1.1)]
    exact ⟨rfl, hI⟩
