/-! no hall and no link on the fresh memory: bar, turn, mode -/
theorem rB_1_8 : (mB 1610).1 (0 + 1) 8 = 0 := by decide +kernel
theorem rB_292_2 : (mB 1610).1 (291 + 1) 2 = 0 := by decide +kernel
theorem rB_292_1b : (mB 1610).1 (291 + 1) 1 = 0 := by decide +kernel
theorem in2 : xIn (2 : Int32) 1610 = true := by decide
theorem cl2 : (2 : Int32).toNatClampNeg = 2 := by decide
theorem neg_one : (0 : Int32) - 1 = -1 := by decide
theorem i32_0 (a : Int32) : a < 0 ∨ 0 ≤ a := by
  rw [Int32.lt_iff_toInt_lt, Int32.le_iff_toInt_le]
  omega
theorem i32_m (a : Int32) : a < 0 ∨ -1 < a := by
  rw [Int32.lt_iff_toInt_lt, Int32.lt_iff_toInt_lt, show (0 : Int32).toInt = 0 by decide, show (-1 : Int32).toInt = -1 by decide]
  omega
theorem noHall (a : Int32) : fX9_hasHall (0 + 1) a (mB 1610) = some (0, mB 1610) := by
  unfold fX9_hasHall fX9_hasHall_0
  rw [xLet_e, rB_1_7]
  rcases i32_0 a with h | h
  · rw [if_pos h]; rfl
  · rw [if_pos h]
    by_cases q : a < 0
    · rw [if_pos q]; rfl
    · rw [if_neg q]; rfl
theorem noLink (a : Int32) : fX9_hasLink (0 + 1) a (mB 1610) = some (0, mB 1610) := by
  unfold fX9_hasLink fX9_hasLink_0
  rw [xLet_e, rB_1_8]
  rcases i32_0 a with h | h
  · rw [if_pos h]; rfl
  · rw [if_pos h]
    by_cases q : a < 0
    · rw [if_pos q]; rfl
    · rw [if_neg q]; rfl
theorem noHall2 (a : Int32) : fX12_isHall 291 a (mB 1610) = some (0, mB 1610) := by
  unfold fX12_isHall fX12_isHall_0
  rw [in1, cl1, xLet_e, xLet_e, rB_292_1b, neg_one, in_no (i32_m a)]
  rfl
theorem noLink2 (a : Int32) : fX12_isLink 291 a (mB 1610) = some (0, mB 1610) := by
  unfold fX12_isLink fX12_isLink_0
  rw [in2, cl2, xLet_e, xLet_e, rB_292_2, neg_one, in_no (i32_m a)]
  rfl
theorem noStepped (a : Int32) : fX9_hasStepped (0 + 1) a (mB 1610) = some (0, mB 1610) := by
  unfold fX9_hasStepped fX9_hasStepped_0
  rw [noLink]; rfl
theorem noStair (a : Int32) : fX9_hasStair (0 + 1) a (mB 1610) = some (0, mB 1610) := by
  unfold fX9_hasStair fX9_hasStair_0
  rw [noLink]; rfl
theorem noStairs2 (a : Int32) : fX12_isStairs 291 a (mB 1610) = some (0, mB 1610) := by
  unfold fX12_isStairs fX12_isStairs_0
  rw [noLink2]; rfl
theorem alike_bar {a b : Int32} : Alike (fX11_bar 0 a b) (fX12_bar 291 a b) (mB 1610) := by
  refine ⟨0, mB 1610, mB 1610, ?_, ?_⟩
  · unfold fX11_bar fX11_bar_0
    rw [noHall]; rfl
  · unfold fX12_bar fX12_bar_0
    rw [noHall2]; rfl
theorem alike_turn {a b : Int32} : Alike (fX11_turn 0 a b) (fX12_turn 291 a b) (mB 1610) := by
  refine ⟨0, mB 1610, mB 1610, ?_, ?_⟩
  · unfold fX11_turn fX11_turn_0
    rw [noStepped]; rfl
  · unfold fX12_turn fX12_turn_0
    rw [noStairs2]; rfl
theorem alike_mode {a b : Int32} : Alike (fX11_mode 0 a b) (fX12_mode 291 a b) (mB 1610) := by
  refine ⟨0, mB 1610, mB 1610, ?_, ?_⟩
  · unfold fX11_mode fX11_mode_0
    rw [noStair]; rfl
  · unfold fX12_mode fX12_mode_0
    rw [noLink2]; rfl
