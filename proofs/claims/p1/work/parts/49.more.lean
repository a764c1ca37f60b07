/-! reset, on, unload, by, fault, end on the fresh memory -/
theorem alike_reset {a : Int32} : Alike (fX11_reset 0 a) (fX12_reset 291 a) (mB 1610) := by
  refine ⟨0, mB 1610, mB 1610, ?_, ?_⟩
  · unfold fX11_reset fX11_reset_0
    rw [noLink]; rfl
  · unfold fX12_reset fX12_reset_0
    rw [noLink2]; rfl
theorem alike_on {a b : Int32} : Alike (fX11_on 0 a b) (fX12_on 291 a b) (mB 1610) := by
  refine ⟨-1, mB 1610, mB 1610, ?_, ?_⟩
  · unfold fX11_on fX11_on_0
    rw [noLink]; rfl
  · unfold fX12_on fX12_on_0
    rw [noLink2]; rfl
theorem rB_14_1 : (mB 1610).1 (0 + 1 + 13) 1 = 0 := by decide +kernel
theorem rB_292_8 : (mB 1610).1 (291 + 1) 8 = 0 := by decide +kernel
theorem in8 : xIn (8 : Int32) 1610 = true := by decide
theorem cl8 : (8 : Int32).toNatClampNeg = 8 := by decide
theorem alike_unload : Alike (fX11_unload 0) (fX12_unload 291) (mB 1610) := by
  refine ⟨0, xPut (mB 1610) (0 + 1 + 13) 1 0, xPut (xPut (mB 1610) (0 + 1 + 13) 1 0) (291 + 1) 8 0, ?_, ?_⟩
  · rw [fX11_unload, fX11_unload_0, xLet_e, xLet_e, rB_14_1]
  · rw [fX12_unload, fX12_unload_0, in8, cl8, cond_e, xLet_e, cond_e, xLet_e, put_ne (by decide), rB_292_8]
theorem rB_255_5 : (mB 1610).1 (0 + 255) 5 = -1 := by decide +kernel
theorem rB_255_6 : (mB 1610).1 (0 + 255) 6 = -1 := by decide +kernel
theorem rB_255_4 : (mB 1610).1 (0 + 255) 4 = 0 := by decide +kernel
theorem rB_291_5 : (mB 1610).1 291 5 = -1 := by decide +kernel
theorem rB_291_6 : (mB 1610).1 291 6 = -1 := by decide +kernel
theorem rB_291_4 : (mB 1610).1 291 4 = 0 := by decide +kernel
theorem alike_fault {a : Int32} : Alike (fX11_fault 0 a) (fX12_fault 291 a) (mB 1610) := by
  refine ⟨-1, mB 1610, mB 1610, ?_, ?_⟩
  · unfold fX11_fault fX11_fault_0
    rw [xLet_e, xLet_e, rB_255_5, rB_255_6]
    unfold fX11_fault_28
    by_cases h0 : ¬ a = 0
    · rw [if_pos h0]
      by_cases h1 : ¬ a = 1
      · rw [if_pos h1]
      · rw [if_neg h1]
    · rw [if_neg h0]
  · unfold fX12_fault fX12_fault_0
    rw [xLet_e, xLet_e, rB_291_5, rB_291_6]
    unfold fX12_fault_24
    by_cases h0 : ¬ a = 0
    · rw [if_pos h0]
      by_cases h1 : ¬ a = 1
      · rw [if_pos h1]
      · rw [if_neg h1]
    · rw [if_neg h0]
theorem i32_one (a b : Int32) (h1 : ¬ a < b) (h2 : ¬ b < a) : a = b := by
  rw [Int32.lt_iff_toInt_lt] at h1 h2
  exact Int32.toInt_inj.mp (by omega)
theorem alike_end {a : Int32} : Alike (fX11_end 0 a) (fX12_end 291 a) (mB 1610) := by
  by_cases h1 : a < 0 ∨ 0 < a
  · refine ⟨-1, mB 1610, mB 1610, ?_, ?_⟩
    · rw [fX11_end, fX11_end_0, xLet_e, rB_255_4, within_no h1]; rfl
    · rw [fX12_end, fX12_end_0, xLet_e, rB_291_4, in_no h1]; rfl
  · have h0 : ¬ a < 0 := fun q => h1 (Or.inl q)
    have h2 : ¬ 0 < a := fun q => h1 (Or.inr q)
    refine ⟨a, xPut (mB 1610) (0 + 255) 4 a, xPut (xPut (mB 1610) (0 + 255) 4 a) 291 4 a, ?_, ?_⟩
    · rw [fX11_end, fX11_end_0, xLet_e, rB_255_4, within_yes h0 h2]; rfl
    · rw [fX12_end, fX12_end_0, xLet_e, put_ne (by decide), rB_291_4, in_yes h0 h2]; rfl
theorem rB_1_10 : (mB 1610).1 (0 + 1) 10 = 0 := by decide +kernel
theorem rB_292_4 : (mB 1610).1 (291 + 1) 4 = 0 := by decide +kernel
theorem in4 : xIn (4 : Int32) 1610 = true := by decide
theorem cl4 : (4 : Int32).toNatClampNeg = 4 := by decide
theorem in5 : xIn (5 : Int32) 1610 = true := by decide
theorem cl5 : (5 : Int32).toNatClampNeg = 5 := by decide
theorem alike_by {a : Int32} : Alike (fX11_by 0 a) (fX12_by 291 a) (mB 1610) := by
  by_cases h : a = -1
  · subst h
    refine ⟨1, xPut (mB 1610) (0 + 1) 11 (-1), xPut (xPut (mB 1610) (0 + 1) 11 (-1)) (291 + 1) 5 (-1), ?_, ?_⟩
    · rw [fX11_by, fX11_by_0, xLet_e, xLet_e, rB_1_10, neg_one, within_yes (by decide) (by decide)]; rfl
    · rw [fX12_by, fX12_by_0, if_pos rfl, fX12_by_23, in5, cl5, cond_e, xLet_e]
  · have h1 : a < -1 ∨ -1 < a := by
      by_cases q : a < -1
      · exact Or.inl q
      · by_cases q2 : -1 < a
        · exact Or.inr q2
        · exact absurd (i32_one _ _ q q2) h
    refine ⟨0, mB 1610, mB 1610, ?_, ?_⟩
    · rw [fX11_by, fX11_by_0, xLet_e, xLet_e, rB_1_10, neg_one, within_no h1]; rfl
    · rw [fX12_by, fX12_by_0, if_neg h, in4, cl4, cond_e, xLet_e, xLet_e, rB_292_4, neg_one, in_no (i32_m a)]; rfl
