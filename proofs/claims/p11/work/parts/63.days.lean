/-! day, on both sides, from any memory -/
def dayC (R : xMem) (s : Nat) (c : Int32) : xMem := xPut (xPut (xPut R 6 s (R.1 6 s + c)) 7 s (R.1 7 s + 1)) 5 2 (R.1 5 2 + 1)
def slotN (a1 a2 : Int32) : Nat := if a1 = 0 then a2.toNatClampNeg else 6 + a2.toNatClampNeg
theorem day_tell {R m : xMem} {a1 a2 a3 : Int32} (hI : IC R m) (h0 : 0 ≤ (R.1 5 2).toInt ∧ (R.1 5 2).toInt ≤ 40) (h2 : 0 ≤ a2.toInt ∧ a2.toInt ≤ 5) : vOk (fun p : Int32 × xMem => if (R.1 5 2).toInt < 40 then p.1 = R.1 5 2 + 1 ∧ IC (dayC R (slotN a1 a2) a3) p.2 else p.1 = -1 ∧ IC R p.2) (fX1_tell 5 a1 a2 a3 m) := by
  have c0 : (0 : Int32).toInt = 0 := rfl
  have c6 : (6 : Int32).toInt = 6 := rfl
  have c12 : (12 : Int32).toInt = 12 := rfl
  have c40 : (40 : Int32).toInt = 40 := rfl
  have kc : m.1 5 2 = R.1 5 2 := hI.kc 5 2 (by decide)
  have body : ∀ s : Int32, 0 ≤ s.toInt ∧ s.toInt < 12 → s.toNatClampNeg = slotN a1 a2 → vOk (fun p : Int32 × xMem => if (R.1 5 2).toInt < 40 then p.1 = R.1 5 2 + 1 ∧ IC (dayC R (slotN a1 a2) a3) p.2 else p.1 = -1 ∧ IC R p.2) (fX1_tell_12 5 a1 a2 a3 s m) := by
    intro s hs hsl
    rw [← hsl]
    unfold fX1_tell_12
    refine vAl kc.symm ?_
    refine vLe (fun g => ?_) (fun g => ?_)
    · refine vOk_some ?_
      rw [if_neg (by omega)]
      exact ⟨rfl, hI⟩
    · refine vLt (fun g2 => ?_) (fun g2 => ?_)
      · exfalso; omega
      · refine vLt (fun g3 => ?_) (fun g3 => ?_)
        · refine vIn (by omega) (by omega) fun n1 => ?_
          refine vAl (x := R.1 6 s.toNatClampNeg) (kcK hI (by decide) _) ?_
          refine vAl (x := R.1 6 s.toNatClampNeg + a3) rfl ?_
          refine vIn (by omega) (by omega) fun n4 => ?_
          refine vR fun m5 e5 => ?_
          have h5 : IC (xPut R 6 s.toNatClampNeg (R.1 6 s.toNatClampNeg + a3)) m5 := by rw [e5]; exact IC_keep hI (by decide)
          refine vIn (by omega) (by omega) fun n6 => ?_
          refine vAl (x := R.1 7 s.toNatClampNeg) ((xP_pl (by omega)).trans (kcK h5 (by decide) _)) ?_
          refine vAl (x := R.1 7 s.toNatClampNeg + 1) rfl ?_
          refine vIn (by omega) (by omega) fun n9 => ?_
          refine vR fun m10 e10 => ?_
          have h10 : IC (xPut (xPut R 6 s.toNatClampNeg (R.1 6 s.toNatClampNeg + a3)) 7 s.toNatClampNeg (R.1 7 s.toNatClampNeg + 1)) m10 := by rw [e10]; exact IC_keep h5 (by decide)
          have k10 : m10.1 5 2 = R.1 5 2 := (h10.kc 5 2 (by decide)).trans ((xP_pl (by omega)).trans (xP_pl (by omega))).symm
          refine vAl k10.symm ?_
          refine vAl (x := R.1 5 2 + 1) rfl ?_
          refine vR fun m11 e11 => ?_
          have h11 : IC (dayC R s.toNatClampNeg a3) m11 := by rw [e11]; exact IC_cfg h10 (by decide)
          refine vAl (x := R.1 5 2 + 1) (xP_eqE e11) ?_
          refine vOk_some ?_
          rw [if_pos (by omega)]
          exact ⟨rfl, h11⟩
        · exfalso; omega
  unfold fX1_tell fX1_tell_0
  refine vEq (fun g => ?_) (fun g => ?_)
  · exact body a2 (by omega) (if_pos (Int32.toInt_inj.mp g)).symm
  · refine vA (by omega) fun v1 e1 f1 => ?_
    refine body v1 (by omega) ?_
    have w1 : v1.toNatClampNeg = v1.toInt.toNat := rfl
    have w2 : a2.toNatClampNeg = a2.toInt.toNat := rfl
    unfold slotN
    rw [if_neg (fun q => g (congrArg _ q))]
    omega
theorem day_c {R m : xMem} {a1 a2 a3 : Int32} (hI : IC R m) (h0 : 0 ≤ (R.1 5 2).toInt ∧ (R.1 5 2).toInt ≤ 40) : vOk (fun p : Int32 × xMem => if ((0 ≤ a2.toInt ∧ a2.toInt ≤ 5) ∧ (0 ≤ a3.toInt ∧ a3.toInt ≤ 9999)) ∧ (R.1 5 2).toInt < 40 then p.1 = R.1 5 2 + 1 ∧ IC (dayC R (slotN a1 a2) a3) p.2 else p.1 = -1 ∧ IC R p.2) (fX11_day 0 a1 a2 a3 m) := by
  have c0 : (0 : Int32).toInt = 0 := rfl
  have c5 : (5 : Int32).toInt = 5 := rfl
  have c9999 : (9999 : Int32).toInt = 9999 := rfl
  unfold fX11_day fX11_day_0
  refine vAlB (within_e _ _ _ _) ?_
  dsimp only
  by_cases g1 : 0 ≤ a2.toInt ∧ a2.toInt ≤ 5
  · rw [wi_1 (by omega), if_neg (show ¬ (1 : Int32) = 0 by decide)]
    refine vAlB (within_e _ _ _ _) ?_
    dsimp only
    by_cases g2 : 0 ≤ a3.toInt ∧ a3.toInt ≤ 9999
    · rw [wi_1 (by omega), if_pos (show ¬ (1 : Int32) = 0 by decide)]
      refine vOk_bind (day_tell hI h0 g1) fun p hp => ?_
      refine vOk_some ?_
      by_cases g3 : (R.1 5 2).toInt < 40
      · rw [if_pos g3] at hp
        rw [if_pos ⟨⟨g1, g2⟩, g3⟩]
        exact hp
      · rw [if_neg g3] at hp
        rw [if_neg (fun q => g3 q.2)]
        exact hp
    · rw [wi_0 (by omega), if_neg (not_not_intro rfl)]
      refine vOk_some ?_
      rw [if_neg (fun q => g2 q.1.2)]
      exact ⟨rfl, hI⟩
  · rw [wi_0 (by omega), if_pos rfl]
    refine vOk_some ?_
    rw [if_neg (fun q => g1 q.1.1)]
    exact ⟨rfl, hI⟩
