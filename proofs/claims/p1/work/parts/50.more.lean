/-! of, order, step, felt, standing, least on the fresh memory -/
theorem within_or (a b c : Int32) (m : xMem) : fX11_within a b c m = some (0, m) ∨ fX11_within a b c m = some (1, m) := by
  by_cases h1 : a < b
  · exact Or.inl (within_no (Or.inl h1))
  · by_cases h2 : c < a
    · exact Or.inl (within_no (Or.inr h2))
    · exact Or.inr (within_yes h1 h2)
theorem mayRun_or (a : Int32) : fX11_mayRun 0 a (mB 1610) = some (0, mB 1610) ∨ fX11_mayRun 0 a (mB 1610) = some (1, mB 1610) := by
  unfold fX11_mayRun fX11_mayRun_0
  rcases within_or a 1 300 (mB 1610) with h | h
  · rw [h]; exact Or.inl rfl
  · rw [h, bind_e, if_neg (by decide), xLet_e, xLet_e]
    by_cases q : 99999 < (mB 1610).1 (0 + 1) 6 + a
    · rw [if_pos q]; exact Or.inl rfl
    · rw [if_neg q]; exact Or.inr rfl
theorem noStair2 (a : Int32) : fX12_isStair 291 a (mB 1610) = some (0, mB 1610) := by
  unfold fX12_isStair fX12_isStair_0
  rw [noLink2]; rfl
theorem alike_of2 {a b : Int32} : Alike (fX11_of 0 a b) (fX12_of 291 a b) (mB 1610) := by
  refine ⟨-1, mB 1610, mB 1610, ?_, ?_⟩
  · unfold fX11_of fX11_of_0
    rw [noHall]; rfl
  · unfold fX12_of fX12_of_0
    rw [noHall2]; rfl
theorem alike_step {a b c : Int32} : Alike (fX11_step 0 a b c) (fX12_step 291 a b c) (mB 1610) := by
  refine ⟨-1, mB 1610, mB 1610, ?_, ?_⟩
  · unfold fX11_step fX11_step_0
    rw [noStepped]; rfl
  · unfold fX12_step fX12_step_0
    rw [noStairs2]; rfl
theorem alike_felt {a b : Int32} : Alike (fX11_felt 0 a b) (fX12_felt 291 a b) (mB 1610) := by
  refine ⟨-1, mB 1610, mB 1610, ?_, ?_⟩
  · unfold fX11_felt fX11_felt_0
    rcases mayRun_or b with h | h
    · rw [h, bind_e, if_pos rfl, fX11_felt_19]
    · rw [h, bind_e, if_neg (by decide), noStair, bind_e, if_neg (by decide), fX11_felt_19]
  · unfold fX12_felt fX12_felt_0
    rw [noStair2, bind_e, if_pos rfl, fX12_felt_16]
theorem alike_standing {a b : Int32} : Alike (fX11_standing 0 a b) (fX12_standing 291 a b) (mB 1610) := by
  refine ⟨-1000000, mB 1610, mB 1610, ?_, ?_⟩
  · unfold fX11_standing fX11_standing_0
    rcases mayRun_or b with h | h
    · rw [h, bind_e, if_pos rfl, fX11_standing_19]
    · rw [h, bind_e, if_neg (by decide), noStair, bind_e, if_neg (by decide), fX11_standing_19]
  · unfold fX12_standing fX12_standing_0
    rw [noStair2, bind_e, if_pos rfl, fX12_standing_16]
theorem alike_least {a b c : Int32} : Alike (fX11_least 0 a b c) (fX12_least 291 a b c) (mB 1610) := by
  refine ⟨-1, mB 1610, mB 1610, ?_, ?_⟩
  · unfold fX11_least fX11_least_0
    rcases within_or c 0 1 (mB 1610) with h1 | h1
    · rw [h1, bind_e, if_pos rfl, fX11_least_28]
    · rw [h1, bind_e, if_neg (by decide)]
      rcases mayRun_or b with h | h
      · rw [h, bind_e, if_pos rfl, fX11_least_28]
      · rw [h, bind_e, if_neg (by decide), noHall, bind_e, if_neg (by decide), fX11_least_28]
  · unfold fX12_least fX12_least_0
    rw [noHall2, bind_e, if_pos rfl, fX12_least_25]
theorem rB_8_5 : (mB 1610).1 (0 + 1 + 7) 5 = 0 := by decide +kernel
theorem rB_292_7 : (mB 1610).1 (291 + 1) 7 = 0 := by decide +kernel
theorem in7 : xIn (7 : Int32) 1610 = true := by decide
theorem cl7 : (7 : Int32).toNatClampNeg = 7 := by decide
theorem alike_order {a : Int32} : Alike (fX11_order 0 a) (fX12_order 291 a) (mB 1610) := by
  refine ⟨-1, mB 1610, mB 1610, ?_, ?_⟩
  · unfold fX11_order fX11_order_0
    rw [xLet_e, rB_8_5, if_pos (by decide), fX11_order_33]
  · unfold fX12_order fX12_order_0
    rw [in7, cond_e, cl7, xLet_e, rB_292_7, if_pos rfl, fX12_order_23]
