/-! hall, the reference's side -/
theorem rB_292_1 : (mB 1610).1 292 1 = 0 := by decide +kernel
theorem fuE (k : Nat) (hk : k ≤ 10000) : ∃ n, xFuel = n + 1 + k := by
  have h : xFuel = 5000000000 := rfl
  generalize xFuel = f at h
  exact ⟨f - 1 - k, by omega⟩
theorem bind_e {α β : Type} {x : α} {f : α → Option β} : (some x).bind f = f x := Eq.trans rfl rfl
theorem cond_e {α : Type} {x y : α} : (bif true then x else y) = x := Eq.trans rfl rfl
theorem r292 : 291 + 1 = 292 := Eq.trans rfl rfl
theorem of0 : Int32.ofNat 0 = (0 : Int32) := by decide
theorem e2_hall {a : Int32} {m : xMem} (h1 : ¬ a < 1) (h2 : ¬ 999 < a) (hm : m.1 292 1 = 0) : ∃ m2, fX12_hall 291 a m = some (0, m2) := by
  have b0 : xIn ((20 : Int32) + 4 * 0 + 0) 1610 = true := by decide
  have b1 : xIn ((20 : Int32) + 4 * 0 + 1) 1610 = true := by decide
  have b2 : xIn ((20 : Int32) + 4 * 0 + 2) 1610 = true := by decide
  have b3 : xIn ((20 : Int32) + 4 * 0 + 3) 1610 = true := by decide
  have n0 : 1 ≠ ((20 : Int32) + 4 * 0 + 0).toNatClampNeg := by decide
  have n1 : 1 ≠ ((20 : Int32) + 4 * 0 + 1).toNatClampNeg := by decide
  have n2 : 1 ≠ ((20 : Int32) + 4 * 0 + 2).toNatClampNeg := by decide
  have n3 : 1 ≠ ((20 : Int32) + 4 * 0 + 3).toNatClampNeg := by decide
  have o1 : ¬ (1 : Int32) = 0 := by decide
  have o6 : ¬ (0 : Int32) = 6 := by decide
  obtain ⟨n, hn⟩ := fuE 12 (by omega)
  rw [fX12_hall, fX12_hall_0, in_yes h1 h2]
  have key : ∀ X : xMem, X.1 292 1 = 0 → ∃ m2, fX12_hall_76 291 a xFuel 0 X = some (0, m2) := by
    intro X hX
    obtain ⟨m2, e2⟩ := h76 (a := a) (n := n) 12 0 X rfl hX
    rw [of0, ← hn] at e2
    exact ⟨m2, e2⟩
  clear hn
  generalize xFuel = f at key ⊢
  simp only [bind_e, xLet_e, if_neg o1, in1, cl1, cond_e, r292, hm, if_pos o6, b0, b1, b2, b3]
  refine key _ ?_
  rw [put_nk (by decide), put_nk (by decide), put_nk (by decide), put_nk (by decide), hm]
theorem alike_hall {a : Int32} : Alike (fX11_hall 0 a) (fX12_hall 291 a) (mB 1610) := by
  by_cases h1 : a < 1
  · exact alike_hall_no (Or.inl h1)
  · by_cases h2 : 999 < a
    · exact alike_hall_no (Or.inr h2)
    · obtain ⟨m1, e1, q1⟩ := e1_hall h1 h2
      obtain ⟨m2, e2⟩ := e2_hall (m := m1) h1 h2 (by rw [q1]; exact rB_292_1)
      exact ⟨0, m1, m2, e1, e2⟩
