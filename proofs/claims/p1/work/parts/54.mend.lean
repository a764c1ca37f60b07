/-! mend on the fresh memory -/
theorem mend1 {a b c e : Int32} (ha : fX11_within a 0 999 (mB 1610) = some (1, mB 1610)) (hb : fX11_within b 0 99 (mB 1610) = some (1, mB 1610)) (hc : fX11_within c 0 999 (mB 1610) = some (1, mB 1610)) (he : fX11_within e 1 9 (mB 1610) = some (1, mB 1610)) : ∃ m1, fX11_mend 0 a b c e (mB 1610) = some (0 + 1 - 1, m1) ∧ m1.1 292 = (mB 1610).1 292 := by
  have x6 : xIn (0 : Int32) 6 = true := by decide
  refine ⟨xPut (xPut (xPut (xPut (xPut (mB 1610) (0 + 1 + 7 + 1) (0 : Int32).toNatClampNeg a) (0 + 1 + 7 + 2) (0 : Int32).toNatClampNeg b) (0 + 1 + 7 + 3) (0 : Int32).toNatClampNeg c) (0 + 1 + 7 + 4) (0 : Int32).toNatClampNeg e) (0 + 1 + 7) 5 (0 + 1), ?_, ?_⟩
  · rw [fX11_mend, fX11_mend_0, ha, bind_e, if_neg (by decide), hb, bind_e, if_neg (by decide), hc, bind_e, if_neg (by decide), fX11_mend_37, if_neg (by decide), he, bind_e, if_pos (by decide), fX5_tell, fX5_tell_0]
    simp only [xLet_e]
    rw [rB_8_5, if_neg (by decide), if_pos (by decide), x6, cond_e, put_ne (by decide), rB_8_5, x6, cond_e, put_ne (by decide), put_ne (by decide), rB_8_5, x6, cond_e, put_ne (by decide), put_ne (by decide), put_ne (by decide), rB_8_5, x6, cond_e, put_at, put_ne (by decide), put_ne (by decide), put_ne (by decide), put_ne (by decide), rB_8_5, bind_e]
  · rw [put_row (by decide), put_row (by decide), put_row (by decide), put_row (by decide), put_row (by decide)]
