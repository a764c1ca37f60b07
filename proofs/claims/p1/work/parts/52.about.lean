/-! about and load on the fresh memory -/
theorem out9 {a : Int32} (h0 : ¬ a = 0) (h1 : ¬ a = 1) (h2 : ¬ a = 2) (h3 : ¬ a = 3) (h4 : ¬ a = 4) (h5 : ¬ a = 5) (h6 : ¬ a = 6) (h7 : ¬ a = 7) (h8 : ¬ a = 8) : a < 0 ∨ 8 < a := by
  have e0 : a.toInt ≠ 0 := fun q => h0 (Int32.toInt_inj.mp (q.trans (by decide)))
  have e1 : a.toInt ≠ 1 := fun q => h1 (Int32.toInt_inj.mp (q.trans (by decide)))
  have e2 : a.toInt ≠ 2 := fun q => h2 (Int32.toInt_inj.mp (q.trans (by decide)))
  have e3 : a.toInt ≠ 3 := fun q => h3 (Int32.toInt_inj.mp (q.trans (by decide)))
  have e4 : a.toInt ≠ 4 := fun q => h4 (Int32.toInt_inj.mp (q.trans (by decide)))
  have e5 : a.toInt ≠ 5 := fun q => h5 (Int32.toInt_inj.mp (q.trans (by decide)))
  have e6 : a.toInt ≠ 6 := fun q => h6 (Int32.toInt_inj.mp (q.trans (by decide)))
  have e7 : a.toInt ≠ 7 := fun q => h7 (Int32.toInt_inj.mp (q.trans (by decide)))
  have e8 : a.toInt ≠ 8 := fun q => h8 (Int32.toInt_inj.mp (q.trans (by decide)))
  rw [Int32.lt_iff_toInt_lt, Int32.lt_iff_toInt_lt, show (0 : Int32).toInt = 0 by decide, show (8 : Int32).toInt = 8 by decide]
  omega
theorem about2 {a z : Int32} (h1 : ¬ a < 0) (h2 : ¬ 8 < a) (h3 : xIn a 1610 = true) (h4 : (mB 1610).1 (291 + 1) a.toNatClampNeg = z) : fX12_about 291 a (mB 1610) = some (z, mB 1610) := by
  unfold fX12_about fX12_about_0
  rw [in_yes h1 h2, bind_e, if_neg (by decide), h3, cond_e, xLet_e, h4, fX12_about_33]
theorem rA_0 : (mB 1610).1 (0 + 1) 6 = 0 := by decide +kernel
theorem rA_1 : (mB 1610).1 (0 + 1) 7 = 0 := by decide +kernel
theorem rA_2 : (mB 1610).1 (0 + 1) 8 = 0 := by decide +kernel
theorem rA_3 : (mB 1610).1 (0 + 1) 9 = 0 := by decide +kernel
theorem rA_4 : (mB 1610).1 (0 + 1) 10 = 0 := by decide +kernel
theorem rA_5 : (mB 1610).1 (0 + 1) 11 = -1 := by decide +kernel
theorem rA_6 : (mB 1610).1 (0 + 1 + 4) 2 = 0 := by decide +kernel
theorem rA_7 : (mB 1610).1 (0 + 1 + 7) 5 = 0 := by decide +kernel
theorem rA_8 : (mB 1610).1 (0 + 1 + 13) 1 = 0 := by decide +kernel
theorem alike_about {a : Int32} : Alike (fX11_about 0 a) (fX12_about 291 a) (mB 1610) := by
  by_cases h0 : a = 0
  · subst h0
    exact ⟨0, mB 1610, mB 1610, by rw [fX11_about, fX11_about_0, if_pos rfl, xLet_e, rA_0], about2 (by decide) (by decide) (by decide) (by decide +kernel)⟩
  by_cases h1 : a = 1
  · subst h1
    exact ⟨0, mB 1610, mB 1610, by rw [fX11_about, fX11_about_0, if_neg (by decide), if_pos rfl, xLet_e, rA_1], about2 (by decide) (by decide) (by decide) (by decide +kernel)⟩
  by_cases h2 : a = 2
  · subst h2
    exact ⟨0, mB 1610, mB 1610, by rw [fX11_about, fX11_about_0, if_neg (by decide), if_neg (by decide), if_pos rfl, xLet_e, rA_2], about2 (by decide) (by decide) (by decide) (by decide +kernel)⟩
  by_cases h3 : a = 3
  · subst h3
    exact ⟨0, mB 1610, mB 1610, by rw [fX11_about, fX11_about_0, if_neg (by decide), if_neg (by decide), if_neg (by decide), if_pos rfl, xLet_e, rA_3], about2 (by decide) (by decide) (by decide) (by decide +kernel)⟩
  by_cases h4 : a = 4
  · subst h4
    exact ⟨0, mB 1610, mB 1610, by rw [fX11_about, fX11_about_0, if_neg (by decide), if_neg (by decide), if_neg (by decide), if_neg (by decide), if_pos rfl, xLet_e, rA_4], about2 (by decide) (by decide) (by decide) (by decide +kernel)⟩
  by_cases h5 : a = 5
  · subst h5
    exact ⟨-1, mB 1610, mB 1610, by rw [fX11_about, fX11_about_0, if_neg (by decide), if_neg (by decide), if_neg (by decide), if_neg (by decide), if_neg (by decide), if_pos rfl, xLet_e, rA_5], about2 (by decide) (by decide) (by decide) (by decide +kernel)⟩
  by_cases h6 : a = 6
  · subst h6
    exact ⟨0, mB 1610, mB 1610, by rw [fX11_about, fX11_about_0, if_neg (by decide), if_neg (by decide), if_neg (by decide), if_neg (by decide), if_neg (by decide), if_neg (by decide), if_pos rfl, xLet_e, rA_6], about2 (by decide) (by decide) (by decide) (by decide +kernel)⟩
  by_cases h7 : a = 7
  · subst h7
    exact ⟨0, mB 1610, mB 1610, by rw [fX11_about, fX11_about_0, if_neg (by decide), if_neg (by decide), if_neg (by decide), if_neg (by decide), if_neg (by decide), if_neg (by decide), if_neg (by decide), if_pos rfl, xLet_e, rA_7], about2 (by decide) (by decide) (by decide) (by decide +kernel)⟩
  by_cases h8 : a = 8
  · subst h8
    exact ⟨0, mB 1610, mB 1610, by rw [fX11_about, fX11_about_0, if_neg (by decide), if_neg (by decide), if_neg (by decide), if_neg (by decide), if_neg (by decide), if_neg (by decide), if_neg (by decide), if_neg (by decide), if_pos rfl, xLet_e, rA_8], about2 (by decide) (by decide) (by decide) (by decide +kernel)⟩
  by_cases h9 : a = 9
  · subst h9
    refine ⟨0, mB 1610, mB 1610, ?_, ?_⟩
    · rw [fX11_about, fX11_about_0, if_neg (by decide), if_neg (by decide), if_neg (by decide), if_neg (by decide), if_neg (by decide), if_neg (by decide), if_neg (by decide), if_neg (by decide), if_neg (by decide), if_pos rfl, xLet_e, rB_255_4]
    · unfold fX12_about fX12_about_0
      rw [in_no (Or.inr (by decide)), bind_e, if_pos rfl, if_neg (by decide), xLet_e, rB_291_4, fX12_about_33]
  refine ⟨-1, mB 1610, mB 1610, ?_, ?_⟩
  · rw [fX11_about, fX11_about_0, if_neg h0, if_neg h1, if_neg h2, if_neg h3, if_neg h4, if_neg h5, if_neg h6, if_neg h7, if_neg h8, if_neg h9]
  · unfold fX12_about fX12_about_0
    rw [in_no (out9 h0 h1 h2 h3 h4 h5 h6 h7 h8), bind_e, if_pos rfl, if_pos h9, fX12_about_33]
