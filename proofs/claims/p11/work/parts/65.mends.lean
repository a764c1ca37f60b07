/-! mend, on the class's side, from any memory -/
def okM (a1 a2 a3 a4 : Int32) : Prop := (0 ≤ a1.toInt ∧ a1.toInt ≤ 999) ∧ (0 ≤ a2.toInt ∧ a2.toInt ≤ 99) ∧ (0 ≤ a3.toInt ∧ a3.toInt ≤ 999) ∧ (1 ≤ a4.toInt ∧ a4.toInt ≤ 9)
def mendC (R : xMem) (a1 a2 a3 a4 : Int32) : xMem := xPut (xPut (xPut (xPut (xPut R 9 (R.1 8 5).toNatClampNeg a1) 10 (R.1 8 5).toNatClampNeg a2) 11 (R.1 8 5).toNatClampNeg a3) 12 (R.1 8 5).toNatClampNeg a4) 8 5 (R.1 8 5 + 1)
theorem mend_tell {R m : xMem} {a1 a2 a3 a4 : Int32} (hI : IC R m) (h0 : 0 ≤ (R.1 8 5).toInt ∧ (R.1 8 5).toInt ≤ 6) : vOk (fun p : Int32 × xMem => ((R.1 8 5).toInt < 6 ∧ p.1 = R.1 8 5 ∧ IC (mendC R a1 a2 a3 a4) p.2) ∨ (¬ (R.1 8 5).toInt < 6 ∧ p.1 = -1 ∧ IC R p.2)) (fX5_tell 8 a1 a2 a3 a4 m) := by
  have c0 : (0 : Int32).toInt = 0 := rfl
  have c6 : (6 : Int32).toInt = 6 := rfl
  have kc : ∀ {m' : xMem}, IC R m' → R.1 8 5 = m'.1 8 5 := fun h => (h.kc 8 5 (by decide)).symm
  have kc8 : ∀ {S m' : xMem}, IC S m' → S.1 8 5 = m'.1 8 5 := fun h => (h.kc 8 5 (by decide)).symm
  unfold fX5_tell fX5_tell_0
  refine vAl (kc hI) ?_
  refine vLt (fun g => ?_) (fun g => ?_)
  · exfalso; omega
  · refine vAl (kc hI) ?_
    refine vLt (fun g2 => ?_) (fun g2 => ?_)
    · refine vAl (kc hI) ?_
      refine vIn (by omega) (by omega) fun n1 => ?_
      refine vR fun m2 e2 => ?_
      have h2 : IC (xPut R 9 (R.1 8 5).toNatClampNeg a1) m2 := by rw [e2]; exact IC_keep hI (by decide)
      refine vAl ((xP_pl (by omega)).trans (kc8 h2)) ?_
      refine vIn (by omega) (by omega) fun n3 => ?_
      refine vR fun m4 e4 => ?_
      have h4 : IC (xPut (xPut R 9 (R.1 8 5).toNatClampNeg a1) 10 (R.1 8 5).toNatClampNeg a2) m4 := by rw [e4]; exact IC_keep h2 (by decide)
      refine vAl ((xP_pl (by omega)).trans ((xP_pl (by omega)).trans (kc8 h4))) ?_
      refine vIn (by omega) (by omega) fun n5 => ?_
      refine vR fun m6 e6 => ?_
      have h6 : IC (xPut (xPut (xPut R 9 (R.1 8 5).toNatClampNeg a1) 10 (R.1 8 5).toNatClampNeg a2) 11 (R.1 8 5).toNatClampNeg a3) m6 := by rw [e6]; exact IC_keep h4 (by decide)
      refine vAl ((xP_pl (by omega)).trans ((xP_pl (by omega)).trans ((xP_pl (by omega)).trans (kc8 h6)))) ?_
      refine vIn (by omega) (by omega) fun n7 => ?_
      refine vR fun m8 e8 => ?_
      have h8 : IC (xPut (xPut (xPut (xPut R 9 (R.1 8 5).toNatClampNeg a1) 10 (R.1 8 5).toNatClampNeg a2) 11 (R.1 8 5).toNatClampNeg a3) 12 (R.1 8 5).toNatClampNeg a4) m8 := by rw [e8]; exact IC_keep h6 (by decide)
      refine vAl ((xP_pl (by omega)).trans ((xP_pl (by omega)).trans ((xP_pl (by omega)).trans ((xP_pl (by omega)).trans (kc8 h8))))) ?_
      refine vAl (x := R.1 8 5 + 1) rfl ?_
      refine vR fun m9 e9 => ?_
      have h9 : IC (mendC R a1 a2 a3 a4) m9 := by rw [e9]; exact IC_cfg h8 (by decide)
      refine vAl (x := R.1 8 5 + 1) (xP_eqE e9) ?_
      refine vAl (x := R.1 8 5) (Int32.add_sub_cancel _ _).symm ?_
      exact vOk_some (Or.inl ⟨by omega, rfl, h9⟩)
    · exact vOk_some (Or.inr ⟨by omega, rfl, hI⟩)
theorem mend_c {R m : xMem} {a1 a2 a3 a4 : Int32} (hI : IC R m) (h0 : 0 ≤ (R.1 8 5).toInt ∧ (R.1 8 5).toInt ≤ 6) : vOk (fun p : Int32 × xMem => ((okM a1 a2 a3 a4 ∧ (R.1 8 5).toInt < 6) ∧ p.1 = R.1 8 5 ∧ IC (mendC R a1 a2 a3 a4) p.2) ∨ (¬ (okM a1 a2 a3 a4 ∧ (R.1 8 5).toInt < 6) ∧ p.1 = -1 ∧ IC R p.2)) (fX11_mend 0 a1 a2 a3 a4 m) := by
  have c0 : (0 : Int32).toInt = 0 := rfl
  have c1 : (1 : Int32).toInt = 1 := rfl
  have c9 : (9 : Int32).toInt = 9 := rfl
  have c99 : (99 : Int32).toInt = 99 := rfl
  have c999 : (999 : Int32).toInt = 999 := rfl
  have bad : ¬ okM a1 a2 a3 a4 → vOk (fun p : Int32 × xMem => ((okM a1 a2 a3 a4 ∧ (R.1 8 5).toInt < 6) ∧ p.1 = R.1 8 5 ∧ IC (mendC R a1 a2 a3 a4) p.2) ∨ (¬ (okM a1 a2 a3 a4 ∧ (R.1 8 5).toInt < 6) ∧ p.1 = -1 ∧ IC R p.2)) (fX11_mend_36 0 a1 a2 a3 a4 m) := by
    intro q
    unfold fX11_mend_36 fX11_mend_37
    rw [if_pos rfl]
    exact vOk_some (Or.inr ⟨fun w => q w.1, rfl, hI⟩)
  unfold fX11_mend fX11_mend_0
  refine vAlB (within_e _ _ _ _) ?_
  dsimp only
  by_cases g1 : 0 ≤ a1.toInt ∧ a1.toInt ≤ 999
  · rw [wi_1 (by omega), if_neg (show ¬ (1 : Int32) = 0 by decide)]
    refine vAlB (within_e _ _ _ _) ?_
    dsimp only
    by_cases g2 : 0 ≤ a2.toInt ∧ a2.toInt ≤ 99
    · rw [wi_1 (by omega), if_neg (show ¬ (1 : Int32) = 0 by decide)]
      refine vAlB (within_e _ _ _ _) ?_
      dsimp only
      by_cases g3 : 0 ≤ a3.toInt ∧ a3.toInt ≤ 999
      · rw [wi_1 (by omega), if_neg (show ¬ (1 : Int32) = 0 by decide)]
        unfold fX11_mend_37
        rw [if_neg (show ¬ (1 : Int32) = 0 by decide)]
        refine vAlB (within_e _ _ _ _) ?_
        dsimp only
        by_cases g4 : 1 ≤ a4.toInt ∧ a4.toInt ≤ 9
        · rw [wi_1 (by omega), if_pos (show ¬ (1 : Int32) = 0 by decide)]
          refine vOk_bind (mend_tell hI h0) fun p hp => ?_
          refine vOk_some ?_
          rcases hp with ⟨q, w⟩ | ⟨q, w⟩
          · exact Or.inl ⟨⟨⟨g1, g2, g3, g4⟩, q⟩, w⟩
          · exact Or.inr ⟨fun z => q z.2, w⟩
        · rw [wi_0 (by omega), if_neg (not_not_intro rfl)]
          exact vOk_some (Or.inr ⟨fun w => g4 w.1.2.2.2, rfl, hI⟩)
      · rw [wi_0 (by omega), if_pos rfl]
        exact bad (fun w => g3 w.2.2.1)
    · rw [wi_0 (by omega), if_pos rfl]
      exact bad (fun w => g2 w.2.1)
  · rw [wi_0 (by omega), if_pos rfl]
    exact bad (fun w => g1 w.1)
