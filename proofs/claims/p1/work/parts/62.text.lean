/-! text: the empty tape -/
theorem addTok {m : xMem} {a b c : Int32} (h7 : m.1 (0 + 255) 7 = 0) : ∃ m1, fX7_addToken (0 + 255) a b c m = some m1 ∧ m1.1 (0 + 255) 7 = 1 ∧ m1.1 257 0 = a ∧ (∀ k, k ≠ 7 → m1.1 255 k = m.1 255 k) ∧ ∀ q, q < 255 ∨ 259 < q → m1.1 q = m.1 q := by
  have i0 : xIn (0 : Int32) 301 = true := by decide
  rw [fX7_addToken, fX7_addToken_0, h7, xLet_e, if_neg (by decide), xLet_e, if_neg (by decide), xLet_e, i0, cond_e, xLet_e, put_ne (by decide), h7, xLet_e, i0, cond_e, xLet_e, put_ne (by decide), put_ne (by decide), h7, xLet_e, i0, cond_e, xLet_e, put_ne (by decide), put_ne (by decide), put_ne (by decide), h7, xLet_e, xLet_e, xLet_e, fX7_addToken_59]
  refine ⟨_, Eq.refl _, ?_, ?_, ?_, ?_⟩
  · rw [put_at]; decide
  · rw [put_ne (by decide), put_ne (by decide), put_ne (by decide)]
    exact put_at
  · intro k hk
    rw [put_nk hk, put_ne (by decide), put_ne (by decide), put_ne (by decide)]
  · intro q hq
    rw [put_row (by omega), put_row (by omega), put_row (by omega), put_row (by omega)]
theorem read1 {m : xMem} (h4 : m.1 (0 + 255) 4 = 0) : ∃ m1, fX7_readInto (0 + 255) 267 m = some (1, m1) ∧ ∀ q, q < 255 ∨ 259 < q → q ≠ 267 → m1.1 q = m.1 q := by
  obtain ⟨k0, hk0⟩ := fuE0
  obtain ⟨m1, e1, q1, t1, s1, r1⟩ := addTok (m := xPut m (0 + 255) 7 0) (a := 0) (b := 0) (c := 0) put_at
  have ec : fX7_cut (0 + 255) m = some m1 := by
    rw [fX7_cut, fX7_cut_0, xLet_e, hk0, fX7_cut_9, if_neg (by decide), put_nk (by decide), h4, xLet_e, if_pos (by decide), fX7_cut_36, put_nk (by decide), h4, xLet_e, e1, bind_e]
  have kind : ∀ X : xMem, X.1 (0 + 255) 8 = 0 → X.1 (0 + 255) 7 = 1 → X.1 257 0 = 0 → fX7_kind (0 + 255) X = some (0, X) := by
    intro X x8 x7 x0
    have i0 : xIn (0 : Int32) 301 = true := by decide
    rw [fX7_kind, fX7_kind_0, x8, xLet_e, if_neg (by decide), xLet_e, x7, xLet_e, if_neg (by decide), xLet_e, if_neg (by decide), xLet_e, i0, cond_e, cl0, show 0 + 255 + 2 = 257 from rfl, x0, xLet_e, fX7_kind_43]
  have loop : ∀ X : xMem, X.1 (0 + 255) 8 = 0 → X.1 (0 + 255) 7 = 1 → X.1 257 0 = 0 → fX7_readInto_36 (0 + 255) 267 xFuel 0 X = some (1, X) := by
    intro X x8 x7 x0
    rw [hk0, fX7_readInto_36, x7, xLet_e, if_neg (by decide), kind X x8 x7 x0, bind_e, if_pos rfl, fX7_readInto_67]
  rw [fX7_readInto, fX7_readInto_0, ec, bind_e, xLet_e, xLet_e, xLet_e, xLet_e, xLet_e, xLet_e]
  rw [loop _ (by rw [put_ne (by decide), put_ne (by decide), put_nk (by decide), put_nk (by decide), put_at]) (by rw [put_ne (by decide), put_ne (by decide), put_nk (by decide), put_nk (by decide), put_nk (by decide), put_nk (by decide), q1]) (by rw [put_ne (by decide), put_ne (by decide), put_ne (by decide), put_ne (by decide), put_ne (by decide), put_ne (by decide), t1])]
  refine ⟨_, Eq.refl _, ?_⟩
  intro q hq h2
  rw [put_row h2, put_row h2, put_row (by omega), put_row (by omega), put_row (by omega), put_row (by omega), r1 q hq, put_row (by omega)]
theorem rB_1_10b : (mB 1610).1 1 10 = 0 := by decide +kernel
theorem text1 : ∃ m1, fX11_text 0 (mB 1610) = some (0 + 1 - 1, m1) ∧ m1.1 291 = (mB 1610).1 291 ∧ m1.1 292 = (mB 1610).1 292 := by
  have i0 : xIn (0 : Int32) 4 = true := by decide
  obtain ⟨m1, e1, r1⟩ := read1 (m := mB 1610) rB_255_4
  have h10 : m1.1 (0 + 1) 10 = 0 := by rw [r1 (0 + 1) (by omega) (by omega)]; exact rB_1_10
  rw [fX11_text, fX11_text_0, rB_1_10, xLet_e, within_yes (by decide) (by decide), bind_e, if_pos (show ¬ (1 : Int32) = 0 by decide), rB_1_10, xLet_e, i0, cond_e, cl0, xLet_e, show 0 + 267 + 6 * 0 = 267 from rfl, e1, bind_e, if_pos (show ¬ (1 : Int32) = 0 by decide), h10, xLet_e, xLet_e, xLet_e, put_at, xLet_e, xLet_e]
  refine ⟨_, Eq.refl _, ?_, ?_⟩
  · rw [put_row (by decide), r1 291 (by omega) (by omega)]
  · rw [put_row (by decide), r1 292 (by omega) (by omega)]
theorem next0 {m : xMem} (h12 : m.1 291 12 = 0) (h13 : m.1 291 13 = 0) : fX12_next 291 m = some (xPut (xPut m 291 14 0) 291 15 0) := by
  obtain ⟨k0, hk0⟩ := fuE0
  rw [fX12_next, hk0, fX12_next_0, h13, xLet_e, h12, xLet_e, if_pos (by decide), fX12_next_52, h13, xLet_e, xLet_e, put_nk (by decide), h13, xLet_e, put_nk (by decide), h12, xLet_e, if_neg (by decide), xLet_e]
theorem keeps0 {m : xMem} (h27 : m.1 291 27 = 0) (h31 : m.1 291 31 = 0) : fX12_keepsText 291 0 m = some (xPut m 296 0 0) := by
  obtain ⟨k0, hk0⟩ := fuE0
  have i0 : xIn (0 : Int32) 4 = true := by decide
  rw [fX12_keepsText, fX12_keepsText_0, h27, xLet_e, i0, cond_e, cl0, xLet_e, show 291 + 5 = 296 from rfl, hk0, fX12_keepsText_12, put_ne (by decide), h27, xLet_e, if_pos (by decide), hk0, fX12_keepsText_68, put_ne (by decide), h31, xLet_e, if_pos (by decide)]
theorem text2 {m : xMem} (hm : m.1 292 4 = 0) (h4 : m.1 291 4 = 0) : ∃ m2, fX12_text 291 m = some (0 + 1 - 1, m2) := by
  obtain ⟨k0, hk0⟩ := fuE0
  have t167 : ∀ X : xMem, X.1 291 17 = 0 → X.1 292 4 = 0 → X.1 291 27 = 0 → X.1 291 31 = 0 → ∃ m2, fX12_text_167 291 X = some (0 + 1 - 1, m2) := by
    intro X x17 x4 x27 x31
    rw [fX12_text_167, x17, xLet_e, xLet_e, xLet_e, xLet_e, put_nk (by decide), put_nk (by decide), x17, xLet_e, if_pos (by decide), in4, cond_e, cl4, r292, put_ne (by decide), put_ne (by decide), x4, xLet_e, keeps0 (by rw [put_nk (by decide), put_nk (by decide), x27]) (by rw [put_nk (by decide), put_nk (by decide), x31]), bind_e, cond_e, put_ne (by decide), put_ne (by decide), put_ne (by decide), x4, xLet_e, xLet_e, cond_e, xLet_e, cond_e, put_at, xLet_e, xLet_e]
    exact ⟨_, Eq.refl _⟩
  have t74 : ∀ X : xMem, X.1 291 17 = 0 → X.1 291 26 = 4 → X.1 291 15 = 0 → fX12_text_74 291 xFuel X = fX12_text_167 291 X := by
    intro X x17 x26 x15
    rw [hk0, fX12_text_74, x17, xLet_e, if_neg (by decide), x26, xLet_e, if_neg (by decide), x15, xLet_e, if_pos rfl]
  rw [fX12_text, fX12_text_0, in4, cond_e, cl4, r292, hm, xLet_e, if_pos (by decide), h4]
  simp only [xLet_e]
  rw [next0 (by rw [put_nk (by decide), put_nk (by decide), put_nk (by decide), put_nk (by decide), put_nk (by decide), put_nk (by decide), put_nk (by decide), put_nk (by decide), put_nk (by decide), put_nk (by decide), put_at]) (by rw [put_nk (by decide), put_nk (by decide), put_nk (by decide), put_nk (by decide), put_nk (by decide), put_nk (by decide), put_nk (by decide), put_nk (by decide), put_at]), bind_e]
  have n292 : ∀ (Y : xMem) (k : Nat) (x : Int32), (xPut Y 291 k x).1 292 = Y.1 292 := fun Y k x => put_row (by decide)
  have n291 : ∀ (Y : xMem) (j k : Nat) (x : Int32), j ≠ k → (xPut Y 291 k x).1 291 j = Y.1 291 j := fun Y j k x q => put_nk q
  rw [t74 _ (by rw [n291 _ _ _ _ (by decide), n291 _ _ _ _ (by decide), n291 _ _ _ _ (by decide), n291 _ _ _ _ (by decide), n291 _ _ _ _ (by decide), n291 _ _ _ _ (by decide), n291 _ _ _ _ (by decide), n291 _ _ _ _ (by decide), n291 _ _ _ _ (by decide), put_at]) (by rw [n291 _ _ _ _ (by decide), n291 _ _ _ _ (by decide), n291 _ _ _ _ (by decide), n291 _ _ _ _ (by decide), put_at]) put_at]
  refine t167 _ ?_ ?_ ?_ ?_
  · rw [n291 _ _ _ _ (by decide), n291 _ _ _ _ (by decide), n291 _ _ _ _ (by decide), n291 _ _ _ _ (by decide), n291 _ _ _ _ (by decide), n291 _ _ _ _ (by decide), n291 _ _ _ _ (by decide), n291 _ _ _ _ (by decide), n291 _ _ _ _ (by decide), put_at]
  · simp only [n292]
    exact hm
  · rw [n291 _ _ _ _ (by decide), n291 _ _ _ _ (by decide), n291 _ _ _ _ (by decide), put_at]
  · rw [n291 _ _ _ _ (by decide), n291 _ _ _ _ (by decide), put_at]
theorem rB_292_4b : (mB 1610).1 292 4 = 0 := by decide +kernel
theorem alike_text : Alike (fX11_text 0) (fX12_text 291) (mB 1610) := by
  obtain ⟨m1, e1, r1, r2⟩ := text1
  obtain ⟨m2, e2⟩ := text2 (m := m1) (by rw [r2]; exact rB_292_4b) (by rw [r1]; exact rB_291_4)
  exact ⟨0 + 1 - 1, m1, m2, e1, e2⟩
