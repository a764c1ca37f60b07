/-! burst, route, taken on the fresh memory -/
theorem alike_burst {a b c e f g h : Int32} : Alike (fX11_burst 0 a b c e f g h) (fX12_burst 291 a b c e f g h) (mB 1610) := by
  have k62 : ∀ l8, fX11_burst_62 0 a b c e f g h l8 0 (mB 1610) = some (-1, mB 1610) := by
    intro l8
    rw [fX11_burst_62]
    by_cases q : l8 = 0
    · rw [if_pos q, fX11_burst_102]
    · rw [if_neg q, if_pos rfl, fX11_burst_102]
  have k26 : ∀ s0, fX11_burst_26 0 a b c e f g h s0 (mB 1610) = some (-1, mB 1610) := by
    intro s0
    rw [fX11_burst_26, noHall, bind_e, if_pos rfl, fX11_burst_61, k62]
  have q60 : fX12_burst_60 291 a b c e f g h (mB 1610) = some (-1, mB 1610) := by
    rw [fX12_burst_60, fX12_burst_61, if_pos rfl, fX12_burst_79]
  refine ⟨-1, mB 1610, mB 1610, ?_, ?_⟩
  · rw [fX11_burst, fX11_burst_0]
    rcases within_or a 0 99999 (mB 1610) with q | q
    · rw [q, bind_e, if_pos rfl, fX11_burst_25, k26]
    · rw [q, bind_e, if_neg (by decide)]
      rcases within_or b 0 999 (mB 1610) with q | q
      · rw [q, bind_e, if_pos rfl, fX11_burst_25, k26]
      · rw [q, bind_e, if_neg (by decide), k26]
  · rw [fX12_burst, fX12_burst_0]
    rcases in_or a 0 99999 (mB 1610) with q | q
    · rw [q, bind_e, if_pos rfl, q60]
    · rw [q, bind_e, if_neg (by decide)]
      rcases in_or b 0 999 (mB 1610) with q | q
      · rw [q, bind_e, if_pos rfl, q60]
      · rw [q, bind_e, if_neg (by decide), noHall2, bind_e, if_pos rfl, q60]
theorem alike_route {a b c : Int32} : Alike (fX11_route 0 a b c) (fX12_route 291 a b c) (mB 1610) := by
  refine ⟨-1, mB 1610, mB 1610, ?_, ?_⟩
  · rw [fX11_route, fX11_route_0, noHall, bind_e, if_pos rfl, fX11_route_22]
  · rw [fX12_route, fX12_route_0, noHall2, bind_e, if_pos rfl, fX12_route_16]
theorem stepped1 {a b : Int32} : fX4_steppedOn (0 + 1 + 13) a b (mB 1610) = some (-1, mB 1610) := by
  rw [fX4_steppedOn, fX4_steppedOn_0]
  by_cases q : a < 1
  · rw [if_pos q, fX4_steppedOn_13]
  · rw [if_neg q, rB_14_1, xLet_e, if_neg (by decide), fX4_steppedOn_13]
theorem alike_taken {a b : Int32} : Alike (fX11_taken 0 a b) (fX12_taken 291 a b) (mB 1610) := by
  refine ⟨-1, mB 1610, mB 1610, ?_, ?_⟩
  · rw [fX11_taken, fX11_taken_0]
    rcases within_or a 2 40 (mB 1610) with q | q
    · rw [q, bind_e, if_pos rfl, fX11_taken_26]
    · rw [q, bind_e, if_neg (by decide), stepped1, bind_e, fX11_taken_26]
  · rw [fX12_taken, fX12_taken_0]
    rcases in_or a 2 40 (mB 1610) with q | q
    · rw [q, bind_e, if_pos rfl, fX12_taken_20]
    · rw [q, bind_e, if_neg (by decide), in8, cond_e, cl8, rB_292_8, xLet_e, if_neg (by decide), fX12_taken_20]
