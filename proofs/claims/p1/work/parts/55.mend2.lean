/-! mend, the reference's side -/
theorem mend2 {a b c e : Int32} {m : xMem} (ha : fX12_in a 0 999 m = some (1, m)) (hb : fX12_in b 0 99 m = some (1, m)) (hc : fX12_in c 0 999 m = some (1, m)) (he : fX12_in e 1 9 m = some (1, m)) (hm : m.1 292 7 = 0) : ∃ m2, fX12_mend 291 a b c e m = some (0 + 1 - 1, m2) := by
  have o1 : ¬ (1 : Int32) = 0 := by decide
  have o6 : ¬ (0 : Int32) = 6 := by decide
  have b0 : xIn ((1520 : Int32) + 4 * 0) 1610 = true := by decide
  have b1 : xIn ((1520 : Int32) + 4 * 0 + 1) 1610 = true := by decide
  have b2 : xIn ((1520 : Int32) + 4 * 0 + 2) 1610 = true := by decide
  have b3 : xIn ((1520 : Int32) + 4 * 0 + 3) 1610 = true := by decide
  have n0 : 7 ≠ ((1520 : Int32) + 4 * 0).toNatClampNeg := by decide
  have n1 : 7 ≠ ((1520 : Int32) + 4 * 0 + 1).toNatClampNeg := by decide
  have n2 : 7 ≠ ((1520 : Int32) + 4 * 0 + 2).toNatClampNeg := by decide
  have n3 : 7 ≠ ((1520 : Int32) + 4 * 0 + 3).toNatClampNeg := by decide
  rw [fX12_mend, fX12_mend_0, ha, bind_e, if_neg o1, hb, bind_e, if_neg o1, hc, bind_e, if_neg o1, he, bind_e, if_neg o1, in7, cond_e, cl7, r292, hm, xLet_e, if_pos o6, cond_e, xLet_e, xLet_e, xLet_e, b0, cond_e, xLet_e, xLet_e, b1, cond_e, xLet_e, xLet_e, b2, cond_e, xLet_e, xLet_e, b3, cond_e, xLet_e, cond_e, xLet_e, put_nk n3, put_nk n2, put_nk n1, put_nk n0, hm, xLet_e, cond_e, xLet_e, cond_e, xLet_e, put_at, xLet_e]
  exact ⟨_, Eq.refl _⟩
