/-! mend, on the reference's side, from any memory -/
theorem k292_7 {R m : xMem} (h : IR R m) : R.1 292 7 = m.1 (291 + 1) (7 : Int32).toNatClampNeg := (kA h (j := 7) (by omega)).symm
def mendR (R : xMem) (a1 a2 a3 a4 : Int32) : xMem := xPut (xPut (xPut (xPut R 292 (1520 + 4 * (R.1 292 7).toNatClampNeg) a1) 292 (1521 + 4 * (R.1 292 7).toNatClampNeg) a2) 292 (1522 + 4 * (R.1 292 7).toNatClampNeg) a3) 292 (1523 + 4 * (R.1 292 7).toNatClampNeg) a4
theorem mend_r {R m : xMem} {a1 a2 a3 a4 : Int32} (hG : GR R) (hI : IR R m) : vOk (fun p : Int32 × xMem => ((okM a1 a2 a3 a4 ∧ (R.1 292 7).toInt < 6) ∧ p.1 = R.1 292 7 ∧ IR (xPut (mendR R a1 a2 a3 a4) 292 7 (R.1 292 7 + 1)) p.2) ∨ (¬ (okM a1 a2 a3 a4 ∧ (R.1 292 7).toInt < 6) ∧ p.1 = -1 ∧ IR R p.2)) (fX12_mend 291 a1 a2 a3 a4 m) := by
  have c0 : (0 : Int32).toInt = 0 := rfl
  have c1 : (1 : Int32).toInt = 1 := rfl
  have c2 : (2 : Int32).toInt = 2 := rfl
  have c3 : (3 : Int32).toInt = 3 := rfl
  have c4 : (4 : Int32).toInt = 4 := rfl
  have c6 : (6 : Int32).toInt = 6 := rfl
  have c7 : (7 : Int32).toInt = 7 := rfl
  have c9 : (9 : Int32).toInt = 9 := rfl
  have c99 : (99 : Int32).toInt = 99 := rfl
  have c999 : (999 : Int32).toInt = 999 := rfl
  have c1520 : (1520 : Int32).toInt = 1520 := rfl
  have hb : 0 ≤ (R.1 292 7).toInt ∧ (R.1 292 7).toInt ≤ 6 := hG.1.1.2.2.2.2.2.2.1
  have wb : (R.1 292 7).toNatClampNeg = (R.1 292 7).toInt.toNat := rfl
  have bad : ¬ (okM a1 a2 a3 a4 ∧ (R.1 292 7).toInt < 6) → vOk (fun p : Int32 × xMem => ((okM a1 a2 a3 a4 ∧ (R.1 292 7).toInt < 6) ∧ p.1 = R.1 292 7 ∧ IR (xPut (mendR R a1 a2 a3 a4) 292 7 (R.1 292 7 + 1)) p.2) ∨ (¬ (okM a1 a2 a3 a4 ∧ (R.1 292 7).toInt < 6) ∧ p.1 = -1 ∧ IR R p.2)) (fX12_mend_55 291 a1 a2 a3 a4 m) :=
    fun q => vOk_some (Or.inr ⟨q, rfl, hI⟩)
  unfold fX12_mend fX12_mend_0
  refine vAlB (in_e _ _ _ _) ?_
  dsimp only
  by_cases g1 : 0 ≤ a1.toInt ∧ a1.toInt ≤ 999
  · rw [wi_1 (by omega), if_neg (show ¬ (1 : Int32) = 0 by decide)]
    refine vAlB (in_e _ _ _ _) ?_
    dsimp only
    by_cases g2 : 0 ≤ a2.toInt ∧ a2.toInt ≤ 99
    · rw [wi_1 (by omega), if_neg (show ¬ (1 : Int32) = 0 by decide)]
      refine vAlB (in_e _ _ _ _) ?_
      dsimp only
      by_cases g3 : 0 ≤ a3.toInt ∧ a3.toInt ≤ 999
      · rw [wi_1 (by omega), if_neg (show ¬ (1 : Int32) = 0 by decide)]
        refine vAlB (in_e _ _ _ _) ?_
        dsimp only
        by_cases g4 : 1 ≤ a4.toInt ∧ a4.toInt ≤ 9
        · rw [wi_1 (by omega), if_neg (show ¬ (1 : Int32) = 0 by decide)]
          refine vIn (by omega) (by omega) fun n1 => ?_
          refine vAl (k292_7 hI) ?_
          refine vNe (fun g5 => ?_) (fun g5 => ?_)
          · refine vIn (by omega) (by omega) fun n2 => ?_
            refine vAl (k292_7 hI) ?_
            refine vM (v := 4 * (R.1 292 7).toInt) (by rw [c4]) (by omega) fun v3 e3 f3 => ?_
            refine vA (by omega) fun x ex fx => ?_
            have wx : x.toNatClampNeg = x.toInt.toNat := rfl
            refine vIn (by omega) (by omega) fun n4 => ?_
            refine vR fun m5 e5 => ?_
            rw [show x.toNatClampNeg = 1520 + 4 * (R.1 292 7).toNatClampNeg by omega] at e5
            have h5 := (IR_cfg (v := a1) hI (show ¬ (580 ≤ 1520 + 4 * (R.1 292 7).toNatClampNeg ∧ 1520 + 4 * (R.1 292 7).toNatClampNeg < 1380) by omega))
            rw [← e5] at h5
            refine vA (by omega) fun y1 ey1 fy1 => ?_
            have wy1 : y1.toNatClampNeg = y1.toInt.toNat := rfl
            refine vIn (by omega) (by omega) fun n6 => ?_
            refine vR fun m7 e7 => ?_
            rw [show y1.toNatClampNeg = 1521 + 4 * (R.1 292 7).toNatClampNeg by omega] at e7
            have h7 := (IR_cfg (v := a2) h5 (show ¬ (580 ≤ 1521 + 4 * (R.1 292 7).toNatClampNeg ∧ 1521 + 4 * (R.1 292 7).toNatClampNeg < 1380) by omega))
            rw [← e7] at h7
            refine vA (by omega) fun y2 ey2 fy2 => ?_
            have wy2 : y2.toNatClampNeg = y2.toInt.toNat := rfl
            refine vIn (by omega) (by omega) fun n8 => ?_
            refine vR fun m9 e9 => ?_
            rw [show y2.toNatClampNeg = 1522 + 4 * (R.1 292 7).toNatClampNeg by omega] at e9
            have h9 := (IR_cfg (v := a3) h7 (show ¬ (580 ≤ 1522 + 4 * (R.1 292 7).toNatClampNeg ∧ 1522 + 4 * (R.1 292 7).toNatClampNeg < 1380) by omega))
            rw [← e9] at h9
            refine vA (by omega) fun y3 ey3 fy3 => ?_
            have wy3 : y3.toNatClampNeg = y3.toInt.toNat := rfl
            refine vIn (by omega) (by omega) fun n10 => ?_
            refine vR fun m11 e11 => ?_
            rw [show y3.toNatClampNeg = 1523 + 4 * (R.1 292 7).toNatClampNeg by omega] at e11
            have h11 := (IR_cfg (v := a4) h9 (show ¬ (580 ≤ 1523 + 4 * (R.1 292 7).toNatClampNeg ∧ 1523 + 4 * (R.1 292 7).toNatClampNeg < 1380) by omega))
            rw [← e11] at h11
            have k11 : R.1 292 7 = m11.1 (291 + 1) (7 : Int32).toNatClampNeg := ((xP_sl (show 7 ≠ 1520 + 4 * (R.1 292 7).toNatClampNeg by omega)).trans ((xP_sl (show 7 ≠ 1521 + 4 * (R.1 292 7).toNatClampNeg by omega)).trans ((xP_sl (show 7 ≠ 1522 + 4 * (R.1 292 7).toNatClampNeg by omega)).trans (xP_sl (show 7 ≠ 1523 + 4 * (R.1 292 7).toNatClampNeg by omega))))).trans (k292_7 h11)
            refine vIn (by omega) (by omega) fun n12 => ?_
            refine vAl k11 ?_
            refine vAl (x := R.1 292 7 + 1) rfl ?_
            refine vIn (by omega) (by omega) fun n13 => ?_
            refine vR fun m14 e14 => ?_
            have h14 : IR (xPut (mendR R a1 a2 a3 a4) 292 7 (R.1 292 7 + 1)) m14 := by rw [e14]; exact IR_cfg h11 (by omega)
            refine vIn (by omega) (by omega) fun n15 => ?_
            refine vAl (x := R.1 292 7 + 1) (xP_eqE e14) ?_
            refine vAl (x := R.1 292 7) (Int32.add_sub_cancel _ _).symm ?_
            exact vOk_some (Or.inl ⟨⟨⟨g1, g2, g3, g4⟩, by omega⟩, rfl, h14⟩)
          · exact bad (fun w => by have := w.2; omega)
        · rw [wi_0 (by omega), if_pos rfl]
          exact bad (fun w => g4 w.1.2.2.2)
      · rw [wi_0 (by omega), if_pos rfl]
        exact bad (fun w => g3 w.1.2.2.1)
    · rw [wi_0 (by omega), if_pos rfl]
      exact bad (fun w => g2 w.1.2.1)
  · rw [wi_0 (by omega), if_pos rfl]
    exact bad (fun w => g1 w.1.1)
