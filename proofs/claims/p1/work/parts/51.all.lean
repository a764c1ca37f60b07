/-! all on the fresh memory; link -/
theorem out3 {a : Int32} (h0 : ¬ a = 0) (h1 : ¬ a = 1) (h2 : ¬ a = 2) (h3 : ¬ a = 3) : a < 0 ∨ 3 < a := by
  have e0 : a.toInt ≠ 0 := fun q => h0 (Int32.toInt_inj.mp (q.trans (by decide)))
  have e1 : a.toInt ≠ 1 := fun q => h1 (Int32.toInt_inj.mp (q.trans (by decide)))
  have e2 : a.toInt ≠ 2 := fun q => h2 (Int32.toInt_inj.mp (q.trans (by decide)))
  have e3 : a.toInt ≠ 3 := fun q => h3 (Int32.toInt_inj.mp (q.trans (by decide)))
  rw [Int32.lt_iff_toInt_lt, Int32.lt_iff_toInt_lt, show (0 : Int32).toInt = 0 by decide, show (3 : Int32).toInt = 3 by decide]
  omega
theorem rB_1_12 : (mB 1610).1 (0 + 1) 12 = 0 := by decide +kernel
theorem rB_1_13 : (mB 1610).1 (0 + 1) 13 = 0 := by decide +kernel
theorem rB_1_14 : (mB 1610).1 (0 + 1) 14 = 0 := by decide +kernel
theorem rB_1_15 : (mB 1610).1 (0 + 1) 15 = 0 := by decide +kernel
theorem all2 {a : Int32} (h1 : ¬ a < 0) (h2 : ¬ 3 < a) (h3 : xIn (9 + a) 1610 = true) (h4 : (mB 1610).1 (291 + 1) (9 + a).toNatClampNeg = 0) : fX12_all 291 a (mB 1610) = some (0, mB 1610) := by
  unfold fX12_all fX12_all_0
  rw [in_yes h1 h2, bind_e, if_neg (by decide), xLet_e, h3, cond_e, xLet_e, h4, fX12_all_22]
theorem alike_all {a : Int32} : Alike (fX11_all 0 a) (fX12_all 291 a) (mB 1610) := by
  by_cases h0 : a = 0
  · subst h0
    exact ⟨0, mB 1610, mB 1610, by rw [fX11_all, fX11_all_0, if_pos rfl, xLet_e, rB_1_12], all2 (by decide) (by decide) (by decide) (by decide +kernel)⟩
  by_cases h1 : a = 1
  · subst h1
    exact ⟨0, mB 1610, mB 1610, by rw [fX11_all, fX11_all_0, if_neg (by decide), if_pos rfl, xLet_e, rB_1_13], all2 (by decide) (by decide) (by decide) (by decide +kernel)⟩
  by_cases h2 : a = 2
  · subst h2
    exact ⟨0, mB 1610, mB 1610, by rw [fX11_all, fX11_all_0, if_neg (by decide), if_neg (by decide), if_pos rfl, xLet_e, rB_1_14], all2 (by decide) (by decide) (by decide) (by decide +kernel)⟩
  by_cases h3 : a = 3
  · subst h3
    exact ⟨0, mB 1610, mB 1610, by rw [fX11_all, fX11_all_0, if_neg (by decide), if_neg (by decide), if_neg (by decide), if_pos rfl, xLet_e, rB_1_15], all2 (by decide) (by decide) (by decide) (by decide +kernel)⟩
  refine ⟨-1, mB 1610, mB 1610, ?_, ?_⟩
  · rw [fX11_all, fX11_all_0, if_neg h0, if_neg h1, if_neg h2, if_neg h3]
  · unfold fX12_all fX12_all_0
    rw [in_no (out3 h0 h1 h2 h3), bind_e, if_pos rfl, fX12_all_22]
theorem in_or (a b c : Int32) (m : xMem) : fX12_in a b c m = some (0, m) ∨ fX12_in a b c m = some (1, m) := by
  by_cases h1 : a < b
  · exact Or.inl (in_no (Or.inl h1))
  · by_cases h2 : c < a
    · exact Or.inl (in_no (Or.inr h2))
    · exact Or.inr (in_yes h1 h2)
theorem link80 {a b c d e s : Int32} : fX12_link_80 291 a b c d e 0 s (mB 1610) = some (-1, mB 1610) := by
  unfold fX12_link_80
  rw [if_pos rfl, fX12_link_103]
theorem link34 {a b c d e : Int32} : fX12_link_34 291 a b c d e (mB 1610) = some (-1, mB 1610) := by
  unfold fX12_link_34 fX12_link_35
  by_cases h : ¬ a = 2
  · rw [if_pos h]
    rcases in_or d 2 40 (mB 1610) with q | q
    · rw [q, bind_e, link80]
    · rw [q, bind_e, link80]
  · rw [if_neg h]
    rcases in_or d 1 20 (mB 1610) with q | q
    · rw [q, bind_e, if_pos rfl, fX12_link_68, link80]
    · rw [q, bind_e, if_neg (by decide)]
      rcases in_or e 2 99 (mB 1610) with r | r
      · rw [r, bind_e, if_pos rfl, fX12_link_68, link80]
      · rw [r, bind_e, if_neg (by decide), link80]
theorem alike_link {a b c d e : Int32} : Alike (fX11_link 0 a b c d e) (fX12_link 291 a b c d e) (mB 1610) := by
  refine ⟨-1, mB 1610, mB 1610, ?_, ?_⟩
  · unfold fX11_link fX11_link_0
    rw [noHall, bind_e, if_pos rfl, fX11_link_27]
  · unfold fX12_link fX12_link_0
    rcases in_or a 0 2 (mB 1610) with q | q
    · rw [q, bind_e, if_pos rfl, link34]
    · rw [q, bind_e, if_neg (by decide), noHall2, bind_e, if_pos rfl, link34]
