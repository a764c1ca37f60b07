/-! a stair's steps: who, put, move, goesOn, stepOff by their place -/
theorem t80 : ∀ d, d < 2 → ∀ s, s < 40 → ¬ Int32.ofNat d * 40 + Int32.ofNat s < 0 ∧ ¬ 80 ≤ Int32.ofNat d * 40 + Int32.ofNat s ∧ xIn (Int32.ofNat d * 40 + Int32.ofNat s) 80 = true ∧ (Int32.ofNat d * 40 + Int32.ofNat s).toNatClampNeg = 40 * d + s := by decide +kernel
theorem ltN {a b : Nat} (ha : a < 2 ^ 31) (hb : b < 2 ^ 31) : Int32.ofNat a < Int32.ofNat b ↔ a < b := by
  rw [Int32.lt_iff_toInt_lt, Int32.toInt_ofNat_of_lt ha, Int32.toInt_ofNat_of_lt hb]
  omega
theorem leN {a b : Nat} (ha : a < 2 ^ 31) (hb : b < 2 ^ 31) : Int32.ofNat a ≤ Int32.ofNat b ↔ a ≤ b := by
  rw [Int32.le_iff_toInt_le, Int32.toInt_ofNat_of_lt ha, Int32.toInt_ofNat_of_lt hb]
  omega
theorem addN1 (a : Nat) : Int32.ofNat a + 1 = Int32.ofNat (a + 1) := (Int32.ofNat_add a 1).symm
theorem addN2 (a : Nat) : Int32.ofNat a + 2 = Int32.ofNat (a + 2) := (Int32.ofNat_add a 2).symm
theorem subN1 (a : Nat) : Int32.ofNat (a + 1) - 1 = Int32.ofNat a := by
  rw [← addN1]
  exact Int32.add_sub_cancel _ _
theorem negN1 (a : Nat) : Int32.ofNat (a + 1) + -1 = Int32.ofNat a := by
  rw [Int32.add_neg_eq_sub]
  exact subN1 a
theorem put_upd {m : xMem} {a k : Nat} {x : Int32} : (xPut m a k x).1 a = upd (m.1 a) k x := by
  funext j
  show (if a = a ∧ j = k then x else m.1 a j) = if j = k then x else m.1 a j
  by_cases h : j = k
  · rw [if_pos ⟨rfl, h⟩, if_pos h]
  · rw [if_neg (fun q => h q.2), if_neg h]
theorem upd_eq {f : Nat → Int32} {k : Nat} {x : Int32} : upd f k x k = x := if_pos rfl
theorem upd_ne {f : Nat → Int32} {k j : Nat} {x : Int32} (h : j ≠ k) : upd f k x j = f j := if_neg h
theorem who_ok {r d s : Nat} {m : xMem} (hd : d < 2) (hs : s < 40) : fX3_who r (Int32.ofNat d) (Int32.ofNat s) m = some (m.1 (r + 1) (40 * d + s), m) := by
  obtain ⟨h1, h2, h3, h4⟩ := t80 d hd s hs
  rw [fX3_who, fX3_who_0, xLet_e, xLet_e, if_neg h1, if_neg h2, h3, cond_e, h4, xLet_e, fX3_who_30]
theorem sput_ok {r d s : Nat} {v : Int32} {m : xMem} (hd : d < 2) (hs : s < 40) : fX3_put r (Int32.ofNat d) (Int32.ofNat s) v m = some (xPut m (r + 1) (40 * d + s) v) := by
  obtain ⟨h1, h2, h3, h4⟩ := t80 d hd s hs
  rw [fX3_put, fX3_put_0, xLet_e, xLet_e, if_neg h1, if_neg h2, h3, cond_e, h4, xLet_e, fX3_put_31]
theorem smove_ok {r d s : Nat} {m : xMem} (hd : d < 2) (hs : s + 1 < 40) : fX3_move r (Int32.ofNat d) (Int32.ofNat s) m = some (xPut (xPut m (r + 1) (40 * d + (s + 1)) (m.1 (r + 1) (40 * d + s))) (r + 1) (40 * d + s) (-1)) := by
  rw [fX3_move, fX3_move_0, addN1, xLet_e, who_ok hd (by omega), bind_e, sput_ok hd hs, bind_e, sput_ok hd (by omega), bind_e]
theorem go_none {r d s : Nat} {m : xMem} (hd : d < 2) (hs : s < 40) (hv : m.1 (r + 1) (40 * d + s) = -1) : fX3_goesOn r (Int32.ofNat d) (Int32.ofNat s) m = some (0, m) := by
  rw [fX3_goesOn, fX3_goesOn_0, who_ok hd hs, bind_e, hv, if_pos rfl, fX3_goesOn_22, if_pos rfl, fX3_goesOn_32]
  rfl
theorem go_last {r d s : Nat} {m : xMem} (hd : d < 2) (hs : s < 40) (hv : ¬ m.1 (r + 1) (40 * d + s) = -1) (hL : m.1 r 4 = Int32.ofNat (s + 1)) : fX3_goesOn r (Int32.ofNat d) (Int32.ofNat s) m = some (1, m) := by
  rw [fX3_goesOn, fX3_goesOn_0, who_ok hd hs, bind_e, if_neg hv, hL, xLet_e, subN1, xLet_e, if_neg (by rw [ltN (by omega) (by omega)]; omega), fX3_goesOn_22, if_neg hv, fX3_goesOn_32]
  rfl
theorem go_std {r d s L : Nat} {m : xMem} (hd : d < 2) (hs : s + 1 < L) (h40 : L ≤ 40) (hv : m.1 (r + 1) (40 * d + s) = 1) (hL : m.1 r 4 = Int32.ofNat L) : fX3_goesOn r (Int32.ofNat d) (Int32.ofNat s) m = some (0, xPut (xPut m (r + 1) (40 * d + (s + 1)) 1) (r + 1) (40 * d + s) (-1)) := by
  obtain ⟨K, hK⟩ : ∃ K, L = K + 1 := ⟨L - 1, by omega⟩
  subst hK
  rw [fX3_goesOn, fX3_goesOn_0, who_ok hd (by omega), bind_e, hv, if_neg (show ¬ (1 : Int32) = -1 by decide), hL, xLet_e, subN1, xLet_e, if_pos (by rw [ltN (by omega) (by omega)]; omega), smove_ok hd (by omega), bind_e, hv, if_neg (show ¬ (10 : Int32) ≤ 1 by decide)]
theorem go_77 {r d s L : Nat} {m : xMem} (hs : s + 1 < L) (h40 : L ≤ 40) (hL : m.1 r 4 = Int32.ofNat L) : fX3_goesOn_77 r (Int32.ofNat d) (Int32.ofNat s) m = some (if s + 2 < L then 0 else 1, m) := by
  rw [fX3_goesOn_77, addN2, xLet_e, hL, xLet_e]
  by_cases h : s + 2 < L
  · rw [if_pos (by rw [ltN (by omega) (by omega)]; omega), fX3_goesOn_92, if_pos h]
    rfl
  · rw [if_neg (by rw [ltN (by omega) (by omega)]; omega), fX3_goesOn_92, if_neg h]
    rfl
theorem go_off {r d s : Nat} {m : xMem} (hd : d < 2) (h40 : s + 2 ≤ 40) (hv : m.1 (r + 1) (40 * d + s) = 11) (hL : m.1 r 4 = Int32.ofNat (s + 2)) : fX3_goesOn r (Int32.ofNat d) (Int32.ofNat s) m = some (1, xPut (xPut m (r + 1) (40 * d + (s + 1)) 11) (r + 1) (40 * d + s) (-1)) := by
  have hr : r ≠ r + 1 := by omega
  rw [fX3_goesOn, fX3_goesOn_0, who_ok hd (by omega), bind_e, hv, if_neg (show ¬ (11 : Int32) = -1 by decide), hL, xLet_e, subN1, xLet_e, if_pos (by rw [ltN (by omega) (by omega)]; omega), smove_ok hd (by omega), bind_e, hv, if_pos (show (10 : Int32) ≤ 11 by decide), addN2, xLet_e, put_ne hr, put_ne hr, hL, xLet_e, if_pos (by rw [leN (by omega) (by omega)]; omega), go_77 (L := s + 2) (by omega) h40 (by rw [put_ne hr, put_ne hr, hL]), if_neg (by omega)]
theorem go_blk {r d s L : Nat} {m : xMem} (hd : d < 2) (hs : s + 2 < L) (h40 : L ≤ 40) (hv : m.1 (r + 1) (40 * d + s) = 11) (hw : ¬ m.1 (r + 1) (40 * d + (s + 2)) = -1) (hL : m.1 r 4 = Int32.ofNat L) : fX3_goesOn r (Int32.ofNat d) (Int32.ofNat s) m = some (0, xPut (xPut m (r + 1) (40 * d + (s + 1)) 11) (r + 1) (40 * d + s) (-1)) := by
  have hr : r ≠ r + 1 := by omega
  obtain ⟨K, hK⟩ : ∃ K, L = K + 1 := ⟨L - 1, by omega⟩
  subst hK
  rw [fX3_goesOn, fX3_goesOn_0, who_ok hd (by omega), bind_e, hv, if_neg (show ¬ (11 : Int32) = -1 by decide), hL, xLet_e, subN1, xLet_e, if_pos (by rw [ltN (by omega) (by omega)]; omega), smove_ok hd (by omega), bind_e, hv, if_pos (show (10 : Int32) ≤ 11 by decide), addN2, xLet_e, put_ne hr, put_ne hr, hL, xLet_e, if_neg (by rw [leN (by omega) (by omega)]; omega), xLet_e, who_ok hd (by omega), bind_e, if_pos (by rw [put_nk (by omega), put_nk (by omega)]; exact hw), go_77 (L := K + 1) (by omega) h40 (by rw [put_ne hr, put_ne hr, hL]), if_pos hs]
theorem go_walk {r d s L : Nat} {m : xMem} (hd : d < 2) (hs : s + 2 < L) (h40 : L ≤ 40) (hv : m.1 (r + 1) (40 * d + s) = 11) (hw : m.1 (r + 1) (40 * d + (s + 2)) = -1) (hL : m.1 r 4 = Int32.ofNat L) : fX3_goesOn r (Int32.ofNat d) (Int32.ofNat s) m = some (0, xPut (xPut (xPut (xPut m (r + 1) (40 * d + (s + 1)) 11) (r + 1) (40 * d + s) (-1)) (r + 1) (40 * d + (s + 2)) 11) (r + 1) (40 * d + (s + 1)) (-1)) := by
  have hr : r ≠ r + 1 := by omega
  obtain ⟨K, hK⟩ : ∃ K, L = K + 1 := ⟨L - 1, by omega⟩
  subst hK
  rw [fX3_goesOn, fX3_goesOn_0, who_ok hd (by omega), bind_e, hv, if_neg (show ¬ (11 : Int32) = -1 by decide), hL, xLet_e, subN1, xLet_e, if_pos (by rw [ltN (by omega) (by omega)]; omega), smove_ok hd (by omega), bind_e, hv, if_pos (show (10 : Int32) ≤ 11 by decide), addN2, xLet_e, put_ne hr, put_ne hr, hL, xLet_e, if_neg (by rw [leN (by omega) (by omega)]; omega), xLet_e, who_ok hd (by omega), bind_e, if_neg (by rw [put_nk (by omega), put_nk (by omega)]; exact fun f => f hw), addN1, xLet_e, smove_ok hd (by omega), bind_e]
  dsimp only
  rw [put_nk (j := 40 * d + (s + 1)) (k := 40 * d + s) (by omega), put_at, go_77 (L := K + 1) (by omega) h40 (by rw [put_ne hr, put_ne hr, put_ne hr, put_ne hr, hL]), if_pos hs]
/-- who steps off at the head: of the station at 167 with its stair at 200 -/
theorem off_ok {d L : Nat} {v : Int32} {m : xMem} (hd : d < 2) (hL : L + 1 ≤ 40) (h4 : m.1 200 4 = Int32.ofNat (L + 1)) (hv : m.1 201 (40 * d + L) = v) (hv1 : v = 1 ∨ v = 11) (h6 : m.1 200 6 = 1) (h3 : m.1 200 3 = 1) : ∃ y, fX6_stepOff 250 167 200 (Int32.ofNat d) m = some (1, xPut (xPut (xPut (xPut m 201 (40 * d + L) (-1)) 200 9 (m.1 200 9 - 1)) 200 11 (m.1 200 11 + 1)) 167 12 y) := by
  have hn : ¬ v = -1 := by rcases hv1 with h | h <;> (rw [h]; decide)
  have hr : xRem v 10 = 1 := by rcases hv1 with h | h <;> (rw [h]; decide)
  have head : ∀ X : xMem, X.1 200 6 = 1 → X.1 200 3 = 1 → fX3_head 200 X = some (1, X) := by
    intro X x6 x3
    rw [fX3_head, fX3_head_0, x6, xLet_e, if_pos (by decide), x3, xLet_e, fX3_head_19]
  have adm : fX9_admits 167 1 1 m = some (1, m) := by
    rw [fX9_admits, fX9_admits_0, if_pos rfl, fX9_admits_34, fX9_admits_39]
    rfl
  rw [fX6_stepOff, fX6_stepOff_0, h4, xLet_e, subN1, xLet_e, who_ok hd (by omega), bind_e, show 200 + 1 = 201 from rfl, hv, if_pos hn, hr, xLet_e, head m h6 h3, bind_e, adm, bind_e, if_pos (show ¬ (1 : Int32) = 0 by decide), sput_ok hd (by omega), bind_e, xLet_e, xLet_e, xLet_e, xLet_e, xLet_e, xLet_e]
  rw [head _ (by rw [put_nk (by decide), put_nk (by decide), put_ne (by decide)]; exact h6) (by rw [put_nk (by decide), put_nk (by decide), put_ne (by decide)]; exact h3), bind_e, fX9_comeTo, fX9_comeTo_0, if_neg (fun f => f rfl), xLet_e, xLet_e, xLet_e, fX9_comeTo_40, bind_e]
  rw [put_nk (show 11 ≠ 9 by decide), show 200 + 1 = 201 from rfl, put_ne (show 200 ≠ 201 by decide), put_ne (show 200 ≠ 201 by decide)]
  exact ⟨_, Eq.refl _⟩
