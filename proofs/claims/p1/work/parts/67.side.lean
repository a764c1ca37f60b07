/-! a stair alone: a side's steps, the class's and the reference's -/
def enc (y x : Int32) : Prop := (y = 0 ∧ x = -1) ∨ (y = 1 ∧ x = 1) ∨ (y = 2 ∧ x = 11)
def RR (F G : Nat → Int32) : Prop := ∀ j, j < 80 → enc (G j) (F j)
def card (F : Nat → Int32) : Nat → Nat
  | 0 => 0
  | n + 1 => card F n + (if F n = -1 then 0 else 1)
theorem card_hi {F : Nat → Int32} {k : Nat} {v : Int32} : ∀ n, n ≤ k → card (upd F k v) n = card F n := by
  intro n
  induction n with
  | zero => intro _; rfl
  | succ n ih =>
    intro h
    show card (upd F k v) n + (if upd F k v n = -1 then 0 else 1) = card F n + (if F n = -1 then 0 else 1)
    rw [ih (by omega), upd_ne (by omega)]
theorem card_upd {F : Nat → Int32} {k : Nat} {v : Int32} : ∀ n, k < n → card (upd F k v) n + (if F k = -1 then 0 else 1) = card F n + (if v = -1 then 0 else 1) := by
  intro n
  induction n with
  | zero => intro h; omega
  | succ n ih =>
    intro h
    show card (upd F k v) n + (if upd F k v n = -1 then 0 else 1) + _ = card F n + (if F n = -1 then 0 else 1) + _
    by_cases q : n = k
    · subst q
      rw [card_hi n (Nat.le_refl n), upd_eq]
      omega
    · rw [upd_ne q]
      have := ih (by omega)
      omega
theorem card_move {F : Nat → Int32} {k i : Nat} {v : Int32} (hki : i ≠ k) (hk : k < 80) (hi : i < 80) (h1 : F k = -1) (h2 : ¬ F i = -1) (hv : ¬ v = -1) : card (upd (upd F k v) i (-1)) 80 = card F 80 := by
  have a := card_upd (F := upd F k v) (k := i) (v := -1) 80 hi
  have b := card_upd (F := F) (k := k) (v := v) 80 hk
  rw [upd_ne hki, if_neg h2, if_pos rfl] at a
  rw [if_pos h1, if_neg hv] at b
  omega
theorem card_off {F : Nat → Int32} {i : Nat} (hi : i < 80) (h2 : ¬ F i = -1) : card F 80 = card (upd F i (-1)) 80 + 1 := by
  have a := card_upd (F := F) (k := i) (v := -1) 80 hi
  rw [if_neg h2, if_pos rfl] at a
  omega
theorem card_on {F : Nat → Int32} {i : Nat} {v : Int32} (hi : i < 80) (h2 : F i = -1) (hv : ¬ v = -1) : card (upd F i v) 80 = card F 80 + 1 := by
  have a := card_upd (F := F) (k := i) (v := v) 80 hi
  rw [if_pos h2, if_neg hv] at a
  omega
theorem card_zero {F : Nat → Int32} : ∀ n, card F n = 0 → ∀ j, j < n → F j = -1 := by
  intro n
  induction n with
  | zero => intro _ j h; omega
  | succ n ih =>
    intro h j hj
    have h : card F n + (if F n = -1 then 0 else 1) = 0 := h
    by_cases q : F n = -1
    · by_cases e : j = n
      · rw [e]; exact q
      · exact ih (by omega) j (by omega)
    · rw [if_neg q] at h
      omega
theorem card_le {F : Nat → Int32} : ∀ n, card F n ≤ n := by
  intro n
  induction n with
  | zero => exact Nat.le_refl 0
  | succ n ih =>
    show card F n + (if F n = -1 then 0 else 1) ≤ n + 1
    by_cases q : F n = -1
    · rw [if_pos q]; omega
    · rw [if_neg q]; omega
theorem RR_upd {F G : Nat → Int32} {k : Nat} {y x : Int32} (h : RR F G) (e : enc y x) : RR (upd F k x) (upd G k y) := by
  intro j hj
  by_cases q : j = k
  · subst q
    rw [upd_eq, upd_eq]
    exact e
  · rw [upd_ne q, upd_ne q]
    exact h j hj
theorem upd_swap {F : Nat → Int32} {k i : Nat} {x y : Int32} (h : i ≠ k) : upd (upd F k x) i y = upd (upd F i y) k x := by
  funext j
  by_cases q : j = i
  · subst q
    rw [upd_eq, upd_ne h, upd_eq]
  · rw [upd_ne q]
    by_cases q2 : j = k
    · subst q2
      rw [upd_eq, upd_eq]
    · rw [upd_ne q2, upd_ne q2, upd_ne q]
theorem upd_same {F : Nat → Int32} {k : Nat} {x : Int32} (h : F k = x) : upd F k x = F := by
  funext j
  by_cases q : j = k
  · subst q
    rw [upd_eq, h]
  · rw [upd_ne q]
theorem upd_twice {F : Nat → Int32} {k : Nat} {x y : Int32} : upd (upd F k x) k y = upd F k y := by
  funext j
  by_cases q : j = k
  · subst q
    rw [upd_eq, upd_eq]
  · rw [upd_ne q, upd_ne q, upd_ne q]
theorem RR_swap {F G : Nat → Int32} {k i : Nat} {y x : Int32} (h : RR F G) (e : enc y x) (hki : i ≠ k) : RR (upd (upd F k x) i (-1)) (upd (upd G i 0) k y) := by
  rw [upd_swap hki]
  exact RR_upd (RR_upd h (Or.inl ⟨rfl, rfl⟩)) e
theorem walk_row {F : Nat → Int32} {i : Nat} (h : F (i + 1) = -1) : upd (upd (upd (upd F (i + 1) 11) i (-1)) (i + 2) 11) (i + 1) (-1) = upd (upd F (i + 2) 11) i (-1) := by
  rw [upd_swap (F := upd (upd F (i + 1) 11) i (-1)) (k := i + 2) (i := i + 1) (by omega), upd_swap (F := upd F (i + 1) 11) (k := i) (i := i + 1) (by omega), upd_twice, upd_same h, upd_swap (k := i) (i := i + 2) (by omega)]
theorem woff_row {F : Nat → Int32} {i : Nat} {v : Int32} (h : F (i + 1) = -1) : upd (upd (upd F (i + 1) v) i (-1)) (i + 1) (-1) = upd F i (-1) := by
  rw [upd_swap (F := upd F (i + 1) v) (k := i) (i := i + 1) (by omega), upd_twice, upd_same h]
def AlS (L : Nat) (md : Int32) (m : xMem) : Prop := m.1 167 7 = 2 ∧ m.1 167 8 = 1 ∧ m.1 200 1 = 0 ∧ m.1 200 2 = 0 ∧ m.1 200 3 = 1 ∧ m.1 200 4 = Int32.ofNat L ∧ m.1 200 6 = 1 ∧ m.1 200 7 = 1 ∧ m.1 200 8 = md ∧ m.1 200 12 = 1 ∧ m.1 200 13 = 0 ∧ m.1 252 1 = 0 ∧ (∀ k, k < 6 → k ≠ 1 → m.1 183 k = 0)
theorem put_out {m : xMem} {a k b j : Nat} {x : Int32} (h : ¬ (b = a ∧ j = k)) : (xPut m a k x).1 b j = m.1 b j := if_neg h
theorem AlS_put {L : Nat} {md : Int32} {m : xMem} {a k : Nat} {x : Int32} (h : AlS L md m) (hd : a = 201 ∨ (a = 200 ∧ (k = 9 ∨ k = 10 ∨ k = 11)) ∨ (a = 183 ∧ k = 1) ∨ a = 182 ∨ (a = 167 ∧ k = 12)) : AlS L md (xPut m a k x) := by
  obtain ⟨h1, h2, h3, h4, h5, h6, h7, h8, h9, h10, h11, h12, h13⟩ := h
  refine ⟨?_, ?_, ?_, ?_, ?_, ?_, ?_, ?_, ?_, ?_, ?_, ?_, ?_⟩
  · rw [put_out (by omega)]; exact h1
  · rw [put_out (by omega)]; exact h2
  · rw [put_out (by omega)]; exact h3
  · rw [put_out (by omega)]; exact h4
  · rw [put_out (by omega)]; exact h5
  · rw [put_out (by omega)]; exact h6
  · rw [put_out (by omega)]; exact h7
  · rw [put_out (by omega)]; exact h8
  · rw [put_out (by omega)]; exact h9
  · rw [put_out (by omega)]; exact h10
  · rw [put_out (by omega)]; exact h11
  · rw [put_out (by omega)]; exact h12
  · intro j hj hn
    rw [put_out (by omega)]
    exact h13 j hj hn
def AlM (L : Nat) (md c R off : Int32) (m q : xMem) : Prop := AlS L md m ∧ RR (m.1 201) (q.1 314) ∧ m.1 200 9 = Int32.ofNat (card (m.1 201) 80) ∧ m.1 200 10 = c ∧ m.1 183 1 = R ∧ m.1 182 4 = R ∧ m.1 200 11 = off
/-- two cells of the steps changed, the number the same -/
theorem AlM_two {L : Nat} {md c R off : Int32} {m q q' : xMem} {k i : Nat} {y x : Int32} (h : AlM L md c R off m q) (hq : q'.1 314 = upd (upd (q.1 314) i 0) k y) (hki : i ≠ k) (hk : k < 80) (hi : i < 80) (h1 : m.1 201 k = -1) (h2 : ¬ m.1 201 i = -1) (hv : ¬ x = -1) (e : enc y x) : AlM L md c R off (xPut (xPut m 201 k x) 201 i (-1)) q' := by
  obtain ⟨s, r, n, a, b1, b2, o⟩ := h
  have hrow : (xPut (xPut m 201 k x) 201 i (-1)).1 201 = upd (upd (m.1 201) k x) i (-1) := by rw [put_upd, put_upd]
  refine ⟨AlS_put (AlS_put s (Or.inl rfl)) (Or.inl rfl), ?_, ?_, ?_, ?_, ?_, ?_⟩
  · rw [hrow, hq]
    exact RR_swap r e hki
  · rw [hrow, card_move hki hk hi h1 h2 hv, put_ne (by decide), put_ne (by decide)]
    exact n
  · rw [put_ne (by decide), put_ne (by decide)]; exact a
  · rw [put_ne (by decide), put_ne (by decide)]; exact b1
  · rw [put_ne (by decide), put_ne (by decide)]; exact b2
  · rw [put_ne (by decide), put_ne (by decide)]; exact o
/-- one is off -/
theorem AlM_off {L : Nat} {md c R off : Int32} {m m1 q : xMem} {k i : Nat} {y : Int32} (h : AlM L md c R off m q) (hi : i < 80) (h2 : ¬ m.1 201 i = -1) (hs : AlS L md m1) (hr : ∀ b, b ≠ 201 → m1.1 b = m.1 b) (hrow : upd (m1.1 201) k (-1) = upd (m.1 201) i (-1)) : AlM L md c R (off + 1) (xPut (xPut (xPut (xPut m1 201 k (-1)) 200 9 (m1.1 200 9 - 1)) 200 11 (m1.1 200 11 + 1)) 167 12 y) (xPut q 314 i 0) := by
  obtain ⟨s, r, n, a, b1, b2, o⟩ := h
  have e : (xPut (xPut (xPut (xPut m1 201 k (-1)) 200 9 (m1.1 200 9 - 1)) 200 11 (m1.1 200 11 + 1)) 167 12 y).1 201 = upd (m.1 201) i (-1) := by
    rw [put_row (by decide), put_row (by decide), put_row (by decide), put_upd, hrow]
  refine ⟨AlS_put (AlS_put (AlS_put (AlS_put hs (by omega)) (by omega)) (by omega)) (by omega), ?_, ?_, ?_, ?_, ?_, ?_⟩
  · rw [e, put_upd]
    exact RR_upd r (Or.inl ⟨rfl, rfl⟩)
  · rw [e, put_ne (by decide), put_nk (by decide), put_at, hr 200 (by decide), n, card_off hi h2, subN1]
  · rw [put_ne (by decide), put_nk (by decide), put_nk (by decide), put_ne (by decide), hr 200 (by decide)]; exact a
  · rw [put_ne (by decide), put_ne (by decide), put_ne (by decide), put_ne (by decide), hr 183 (by decide)]; exact b1
  · rw [put_ne (by decide), put_ne (by decide), put_ne (by decide), put_ne (by decide), hr 182 (by decide)]; exact b2
  · rw [put_ne (by decide), put_at, hr 200 (by decide), o]
theorem u80 : ∀ d, d < 2 → ∀ s, s < 40 → xIn (40 * Int32.ofNat d + Int32.ofNat s) 80 = true ∧ (40 * Int32.ofNat d + Int32.ofNat s).toNatClampNeg = 40 * d + s := by decide +kernel
theorem nonneg {e : Nat} (h : e < 2 ^ 31) : ¬ Int32.ofNat e < 0 := by
  rw [← of0, ltN h (by omega)]
  omega
theorem ref_none {n d s : Nat} {Li o : Int32} {q : xMem} (hd : d < 2) (hs : s < 40) (hv : q.1 314 (40 * d + s) = 0) : fX12_loneMoves_7 291 Li (Int32.ofNat d) (n + 1) o (Int32.ofNat s) q = fX12_loneMoves_7 291 Li (Int32.ofNat d) n o (Int32.ofNat s - 1) (xPut q 314 (40 * d + s) 0) := by
  obtain ⟨u1, u2⟩ := u80 d hd s hs
  rw [fX12_loneMoves_7, if_neg (nonneg (by omega)), xLet_e, xLet_e, u1, cond_e, u2, show 291 + 23 = 314 from rfl, hv, xLet_e, cond_e, xLet_e, if_pos (by decide), fX12_loneMoves_58, if_pos (by decide), fX12_loneMoves_101, xLet_e, Int32.add_neg_eq_sub]
theorem ref_off {n d s L : Nat} {v o : Int32} {q : xMem} (hd : d < 2) (hs : s < 40) (hv : q.1 314 (40 * d + s) = v) (h0 : ¬ v ≤ 0) (hw : ¬ Int32.ofNat s + v < Int32.ofNat L) : fX12_loneMoves_7 291 (Int32.ofNat L) (Int32.ofNat d) (n + 1) o (Int32.ofNat s) q = fX12_loneMoves_7 291 (Int32.ofNat L) (Int32.ofNat d) n (o + 1) (Int32.ofNat s - 1) (xPut q 314 (40 * d + s) 0) := by
  obtain ⟨u1, u2⟩ := u80 d hd s hs
  rw [fX12_loneMoves_7, if_neg (nonneg (by omega)), xLet_e, xLet_e, u1, cond_e, u2, show 291 + 23 = 314 from rfl, hv, xLet_e, cond_e, xLet_e, if_neg h0, xLet_e, if_neg hw, xLet_e, fX12_loneMoves_101, xLet_e, Int32.add_neg_eq_sub]
theorem ref_one {n d s L : Nat} {o : Int32} {q : xMem} (hd : d < 2) (hs : s + 1 < L) (hL : L ≤ 40) (hv : q.1 314 (40 * d + s) = 1) : fX12_loneMoves_7 291 (Int32.ofNat L) (Int32.ofNat d) (n + 1) o (Int32.ofNat s) q = fX12_loneMoves_7 291 (Int32.ofNat L) (Int32.ofNat d) n o (Int32.ofNat s - 1) (xPut (xPut q 314 (40 * d + s) 0) 314 (40 * d + (s + 1)) 1) := by
  obtain ⟨u1, u2⟩ := u80 d hd s (by omega)
  obtain ⟨v1, v2⟩ := u80 d hd (s + 1) (by omega)
  rw [fX12_loneMoves_7, if_neg (nonneg (by omega)), xLet_e, xLet_e, u1, cond_e, u2, show 291 + 23 = 314 from rfl, hv, xLet_e, cond_e, xLet_e, if_neg (by decide), xLet_e, if_pos (by rw [addN1, ltN (by omega) (by omega)]; exact hs), fX12_loneMoves_58, if_neg (by decide), if_pos (by decide), fX12_loneMoves_85, fX12_loneMoves_87, Int32.add_assoc, addN1, xLet_e, v1, cond_e, v2, show 291 + 23 = 314 from rfl, xLet_e, fX12_loneMoves_101, xLet_e, Int32.add_neg_eq_sub]
theorem ref_two {n d s L : Nat} {o : Int32} {q : xMem} (hd : d < 2) (hs : s + 2 < L) (hL : L ≤ 40) (hv : q.1 314 (40 * d + s) = 2) (hw : q.1 314 (40 * d + (s + 2)) ≤ 0) : fX12_loneMoves_7 291 (Int32.ofNat L) (Int32.ofNat d) (n + 1) o (Int32.ofNat s) q = fX12_loneMoves_7 291 (Int32.ofNat L) (Int32.ofNat d) n o (Int32.ofNat s - 1) (xPut (xPut q 314 (40 * d + s) 0) 314 (40 * d + (s + 2)) 2) := by
  obtain ⟨u1, u2⟩ := u80 d hd s (by omega)
  obtain ⟨v1, v2⟩ := u80 d hd (s + 2) (by omega)
  rw [fX12_loneMoves_7, if_neg (nonneg (by omega)), xLet_e, xLet_e, u1, cond_e, u2, show 291 + 23 = 314 from rfl, hv, xLet_e, cond_e, xLet_e, if_neg (by decide), xLet_e, if_pos (by rw [addN2, ltN (by omega) (by omega)]; exact hs), fX12_loneMoves_58, if_neg (by decide), if_neg (by decide), Int32.add_assoc, addN2, xLet_e, v1, cond_e, v2, show 291 + 23 = 314 from rfl, put_nk (by omega), xLet_e, if_pos hw, fX12_loneMoves_85, fX12_loneMoves_87, Int32.add_assoc, addN2, xLet_e, v1, cond_e, v2, show 291 + 23 = 314 from rfl, xLet_e, fX12_loneMoves_101, xLet_e, Int32.add_neg_eq_sub]
theorem ref_blk {n d s L : Nat} {o : Int32} {q : xMem} (hd : d < 2) (hs : s + 2 < L) (hL : L ≤ 40) (hv : q.1 314 (40 * d + s) = 2) (hw : ¬ q.1 314 (40 * d + (s + 2)) ≤ 0) : fX12_loneMoves_7 291 (Int32.ofNat L) (Int32.ofNat d) (n + 1) o (Int32.ofNat s) q = fX12_loneMoves_7 291 (Int32.ofNat L) (Int32.ofNat d) n o (Int32.ofNat s - 1) (xPut (xPut q 314 (40 * d + s) 0) 314 (40 * d + (s + 1)) 2) := by
  obtain ⟨u1, u2⟩ := u80 d hd s (by omega)
  obtain ⟨v1, v2⟩ := u80 d hd (s + 2) (by omega)
  obtain ⟨w1, w2⟩ := u80 d hd (s + 1) (by omega)
  rw [fX12_loneMoves_7, if_neg (nonneg (by omega)), xLet_e, xLet_e, u1, cond_e, u2, show 291 + 23 = 314 from rfl, hv, xLet_e, cond_e, xLet_e, if_neg (by decide), xLet_e, if_pos (by rw [addN2, ltN (by omega) (by omega)]; exact hs), fX12_loneMoves_58, if_neg (by decide), if_neg (by decide), Int32.add_assoc, addN2, xLet_e, v1, cond_e, v2, show 291 + 23 = 314 from rfl, put_nk (by omega), xLet_e, if_neg hw, fX12_loneMoves_87, Int32.add_assoc, addN1, xLet_e, w1, cond_e, w2, show 291 + 23 = 314 from rfl, xLet_e, fX12_loneMoves_101, xLet_e, Int32.add_neg_eq_sub]
theorem cls_0 {n d s : Nat} {rec24 : Int32 → xMem → Option xMem} {m m1 : xMem} (hs : s < 40) (h : fX3_goesOn 200 (Int32.ofNat d) (Int32.ofNat s) m = some (0, m1)) : fX6_moveStair_37 250 167 200 rec24 (n + 1) (Int32.ofNat d) (Int32.ofNat s) m = fX6_moveStair_37 250 167 200 rec24 n (Int32.ofNat d) (Int32.ofNat s - 1) m1 := by
  rw [fX6_moveStair_37, if_neg (nonneg (by omega)), h, bind_e, if_pos rfl, fX6_moveStair_78, xLet_e, Int32.add_neg_eq_sub]
theorem cls_1 {n d s : Nat} {rec24 : Int32 → xMem → Option xMem} {m m1 m2 : xMem} (hs : s < 40) (h : fX3_goesOn 200 (Int32.ofNat d) (Int32.ofNat s) m = some (1, m1)) (h2 : fX6_stepOff 250 167 200 (Int32.ofNat d) m1 = some (1, m2)) : fX6_moveStair_37 250 167 200 rec24 (n + 1) (Int32.ofNat d) (Int32.ofNat s) m = fX6_moveStair_37 250 167 200 rec24 n (Int32.ofNat d) (Int32.ofNat s - 1) m2 := by
  rw [fX6_moveStair_37, if_neg (nonneg (by omega)), h, bind_e, if_neg (show ¬ (1 : Int32) = 0 by decide), h2, bind_e, if_pos (show ¬ (1 : Int32) = 0 by decide), fX6_moveStair_78, xLet_e, Int32.add_neg_eq_sub]
