/-! load on the fresh memory -/
theorem load1 {a : Int32} (h1 : ¬ a < 0) (h2 : ¬ 80 < a) : ∃ m1, fX11_load 0 a (mB 1610) = some (0 + 1, m1) ∧ m1.1 292 = (mB 1610).1 292 := by
  refine ⟨xPut (xPut (mB 1610) (0 + 1 + 13 + 1) (0 : Int32).toNatClampNeg a) (0 + 1 + 13) 1 (0 + 1), ?_, ?_⟩
  · rw [fX11_load, fX11_load_0, within_yes h1 h2, bind_e, if_neg (by decide), fX4_tell, fX4_tell_0, rB_14_1, xLet_e, if_neg (by decide), xLet_e, if_pos (by decide), xLet_e, show xIn (0 : Int32) 60 = true by decide, cond_e, xLet_e, put_ne (by decide), rB_14_1, xLet_e, xLet_e, xLet_e, put_at, xLet_e, bind_e, fX11_load_25]
  · rw [put_row (by decide), put_row (by decide)]
theorem load2 {a : Int32} {m : xMem} (h1 : ¬ a < 0) (h2 : ¬ 80 < a) (hm : m.1 292 8 = 0) : ∃ m2, fX12_load 291 a m = some (0 + 1, m2) := by
  have b0 : xIn ((1550 : Int32) + 0) 1610 = true := by decide
  have n0 : 8 ≠ ((1550 : Int32) + 0).toNatClampNeg := by decide
  rw [fX12_load, fX12_load_0, in_yes h1 h2, bind_e, if_neg (show ¬ (1 : Int32) = 0 by decide), in8, cond_e, cl8, r292, hm, xLet_e, if_pos (by decide), cond_e, xLet_e, xLet_e, b0, cond_e, xLet_e, cond_e, put_nk n0, hm, xLet_e, xLet_e, cond_e, xLet_e, cond_e, put_at, xLet_e]
  exact ⟨_, Eq.refl _⟩
theorem rB_292_8b : (mB 1610).1 292 8 = 0 := by decide +kernel
theorem alike_load {a : Int32} : Alike (fX11_load 0 a) (fX12_load 291 a) (mB 1610) := by
  by_cases h : a < 0 ∨ 80 < a
  · refine ⟨-1, mB 1610, mB 1610, ?_, ?_⟩
    · rw [fX11_load, fX11_load_0, within_no h, bind_e, if_pos rfl, fX11_load_25]
    · rw [fX12_load, fX12_load_0, in_no h, bind_e, if_pos rfl, fX12_load_22]
  · have h1 : ¬ a < 0 := fun q => h (Or.inl q)
    have h2 : ¬ 80 < a := fun q => h (Or.inr q)
    obtain ⟨m1, e1, q1⟩ := load1 h1 h2
    obtain ⟨m2, e2⟩ := load2 (m := m1) h1 h2 (by rw [q1]; exact rB_292_8b)
    exact ⟨0 + 1, m1, m2, e1, e2⟩
