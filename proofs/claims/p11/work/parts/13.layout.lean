/-! THE LAYOUT behind both constructors: what stands at which place. A row: the class (or 100 and the array's type), how many, the references (none: a number). The numbers are a function of place and slot; the one array of longs apart. -/
def xTmL : List (Nat × Nat × List (Option Nat)) := [
  (11, 7, [some 1, some 84, some 167, some 250, some 255, some 260, some 266]), (9, 16, [some 2, some 3, some 4, some 5, some 8, some 14, none, none, none, none, none, none, none, none, none, none]), (104, 6, [some 16, some 19, some 22, some 25, some 28, some 31]), (105, 10, [some 34, some 36, some 38, some 40, some 42, some 44, some 46, some 48, some 50, some 52]), (106, 30, [some 54, some 55, some 56, some 57, some 58, some 59, some 60, some 61, some 62, some 63, some 64, some 65, some 66, some 67, some 68, some 69, some 70, some 71, some 72, some 73, some 74, some 75, some 76, some 77, some 78, some 79, some 80, some 81, some 82, some 83]), (1, 3, [some 6, some 7, none]), (101, 12, []), (101, 12, []), (5, 6, [some 9, some 10, some 11, some 12, some 13, none]), (101, 6, []), (101, 6, []), (101, 6, []),
  (101, 6, []), (101, 64, []), (4, 2, [some 15, none]), (101, 60, []), (2, 9, [some 17, some 18, none, none, none, none, none, none, none]), (101, 12, []), (101, 12, []), (2, 9, [some 20, some 21, none, none, none, none, none, none, none]), (101, 12, []), (101, 12, []), (2, 9, [some 23, some 24, none, none, none, none, none, none, none]), (101, 12, []),
  (101, 12, []), (2, 9, [some 26, some 27, none, none, none, none, none, none, none]), (101, 12, []), (101, 12, []), (2, 9, [some 29, some 30, none, none, none, none, none, none, none]), (101, 12, []), (101, 12, []), (2, 9, [some 32, some 33, none, none, none, none, none, none, none]), (101, 12, []), (101, 12, []), (3, 14, [some 35, none, none, none, none, none, none, none, none, none, none, none, none, none]), (101, 80, []),
  (3, 14, [some 37, none, none, none, none, none, none, none, none, none, none, none, none, none]), (101, 80, []), (3, 14, [some 39, none, none, none, none, none, none, none, none, none, none, none, none, none]), (101, 80, []), (3, 14, [some 41, none, none, none, none, none, none, none, none, none, none, none, none, none]), (101, 80, []), (3, 14, [some 43, none, none, none, none, none, none, none, none, none, none, none, none, none]), (101, 80, []), (3, 14, [some 45, none, none, none, none, none, none, none, none, none, none, none, none, none]), (101, 80, []), (3, 14, [some 47, none, none, none, none, none, none, none, none, none, none, none, none, none]), (101, 80, []),
  (3, 14, [some 49, none, none, none, none, none, none, none, none, none, none, none, none, none]), (101, 80, []), (3, 14, [some 51, none, none, none, none, none, none, none, none, none, none, none, none, none]), (101, 80, []), (3, 14, [some 53, none, none, none, none, none, none, none, none, none, none, none, none, none]), (101, 80, []), (0, 7, [none, none, none, none, none, none, none]), (0, 7, [none, none, none, none, none, none, none]), (0, 7, [none, none, none, none, none, none, none]), (0, 7, [none, none, none, none, none, none, none]), (0, 7, [none, none, none, none, none, none, none]), (0, 7, [none, none, none, none, none, none, none]),
  (0, 7, [none, none, none, none, none, none, none]), (0, 7, [none, none, none, none, none, none, none]), (0, 7, [none, none, none, none, none, none, none]), (0, 7, [none, none, none, none, none, none, none]), (0, 7, [none, none, none, none, none, none, none]), (0, 7, [none, none, none, none, none, none, none]), (0, 7, [none, none, none, none, none, none, none]), (0, 7, [none, none, none, none, none, none, none]), (0, 7, [none, none, none, none, none, none, none]), (0, 7, [none, none, none, none, none, none, none]), (0, 7, [none, none, none, none, none, none, none]), (0, 7, [none, none, none, none, none, none, none]),
  (0, 7, [none, none, none, none, none, none, none]), (0, 7, [none, none, none, none, none, none, none]), (0, 7, [none, none, none, none, none, none, none]), (0, 7, [none, none, none, none, none, none, none]), (0, 7, [none, none, none, none, none, none, none]), (0, 7, [none, none, none, none, none, none, none]), (0, 7, [none, none, none, none, none, none, none]), (0, 7, [none, none, none, none, none, none, none]), (0, 7, [none, none, none, none, none, none, none]), (0, 7, [none, none, none, none, none, none, none]), (0, 7, [none, none, none, none, none, none, none]), (0, 7, [none, none, none, none, none, none, none]),
  (9, 16, [some 85, some 86, some 87, some 88, some 91, some 97, none, none, none, none, none, none, none, none, none, none]), (104, 6, [some 99, some 102, some 105, some 108, some 111, some 114]), (105, 10, [some 117, some 119, some 121, some 123, some 125, some 127, some 129, some 131, some 133, some 135]), (106, 30, [some 137, some 138, some 139, some 140, some 141, some 142, some 143, some 144, some 145, some 146, some 147, some 148, some 149, some 150, some 151, some 152, some 153, some 154, some 155, some 156, some 157, some 158, some 159, some 160, some 161, some 162, some 163, some 164, some 165, some 166]), (1, 3, [some 89, some 90, none]), (101, 12, []), (101, 12, []), (5, 6, [some 92, some 93, some 94, some 95, some 96, none]), (101, 6, []), (101, 6, []), (101, 6, []), (101, 6, []),
  (101, 64, []), (4, 2, [some 98, none]), (101, 60, []), (2, 9, [some 100, some 101, none, none, none, none, none, none, none]), (101, 12, []), (101, 12, []), (2, 9, [some 103, some 104, none, none, none, none, none, none, none]), (101, 12, []), (101, 12, []), (2, 9, [some 106, some 107, none, none, none, none, none, none, none]), (101, 12, []), (101, 12, []),
  (2, 9, [some 109, some 110, none, none, none, none, none, none, none]), (101, 12, []), (101, 12, []), (2, 9, [some 112, some 113, none, none, none, none, none, none, none]), (101, 12, []), (101, 12, []), (2, 9, [some 115, some 116, none, none, none, none, none, none, none]), (101, 12, []), (101, 12, []), (3, 14, [some 118, none, none, none, none, none, none, none, none, none, none, none, none, none]), (101, 80, []), (3, 14, [some 120, none, none, none, none, none, none, none, none, none, none, none, none, none]),
  (101, 80, []), (3, 14, [some 122, none, none, none, none, none, none, none, none, none, none, none, none, none]), (101, 80, []), (3, 14, [some 124, none, none, none, none, none, none, none, none, none, none, none, none, none]), (101, 80, []), (3, 14, [some 126, none, none, none, none, none, none, none, none, none, none, none, none, none]), (101, 80, []), (3, 14, [some 128, none, none, none, none, none, none, none, none, none, none, none, none, none]), (101, 80, []), (3, 14, [some 130, none, none, none, none, none, none, none, none, none, none, none, none, none]), (101, 80, []), (3, 14, [some 132, none, none, none, none, none, none, none, none, none, none, none, none, none]),
  (101, 80, []), (3, 14, [some 134, none, none, none, none, none, none, none, none, none, none, none, none, none]), (101, 80, []), (3, 14, [some 136, none, none, none, none, none, none, none, none, none, none, none, none, none]), (101, 80, []), (0, 7, [none, none, none, none, none, none, none]), (0, 7, [none, none, none, none, none, none, none]), (0, 7, [none, none, none, none, none, none, none]), (0, 7, [none, none, none, none, none, none, none]), (0, 7, [none, none, none, none, none, none, none]), (0, 7, [none, none, none, none, none, none, none]), (0, 7, [none, none, none, none, none, none, none]),
  (0, 7, [none, none, none, none, none, none, none]), (0, 7, [none, none, none, none, none, none, none]), (0, 7, [none, none, none, none, none, none, none]), (0, 7, [none, none, none, none, none, none, none]), (0, 7, [none, none, none, none, none, none, none]), (0, 7, [none, none, none, none, none, none, none]), (0, 7, [none, none, none, none, none, none, none]), (0, 7, [none, none, none, none, none, none, none]), (0, 7, [none, none, none, none, none, none, none]), (0, 7, [none, none, none, none, none, none, none]), (0, 7, [none, none, none, none, none, none, none]), (0, 7, [none, none, none, none, none, none, none]),
  (0, 7, [none, none, none, none, none, none, none]), (0, 7, [none, none, none, none, none, none, none]), (0, 7, [none, none, none, none, none, none, none]), (0, 7, [none, none, none, none, none, none, none]), (0, 7, [none, none, none, none, none, none, none]), (0, 7, [none, none, none, none, none, none, none]), (0, 7, [none, none, none, none, none, none, none]), (0, 7, [none, none, none, none, none, none, none]), (0, 7, [none, none, none, none, none, none, none]), (0, 7, [none, none, none, none, none, none, none]), (0, 7, [none, none, none, none, none, none, none]), (9, 16, [some 168, some 169, some 170, some 171, some 174, some 180, none, none, none, none, none, none, none, none, none, none]),
  (104, 6, [some 182, some 185, some 188, some 191, some 194, some 197]), (105, 10, [some 200, some 202, some 204, some 206, some 208, some 210, some 212, some 214, some 216, some 218]), (106, 30, [some 220, some 221, some 222, some 223, some 224, some 225, some 226, some 227, some 228, some 229, some 230, some 231, some 232, some 233, some 234, some 235, some 236, some 237, some 238, some 239, some 240, some 241, some 242, some 243, some 244, some 245, some 246, some 247, some 248, some 249]), (1, 3, [some 172, some 173, none]), (101, 12, []), (101, 12, []), (5, 6, [some 175, some 176, some 177, some 178, some 179, none]), (101, 6, []), (101, 6, []), (101, 6, []), (101, 6, []), (101, 64, []),
  (4, 2, [some 181, none]), (101, 60, []), (2, 9, [some 183, some 184, none, none, none, none, none, none, none]), (101, 12, []), (101, 12, []), (2, 9, [some 186, some 187, none, none, none, none, none, none, none]), (101, 12, []), (101, 12, []), (2, 9, [some 189, some 190, none, none, none, none, none, none, none]), (101, 12, []), (101, 12, []), (2, 9, [some 192, some 193, none, none, none, none, none, none, none]),
  (101, 12, []), (101, 12, []), (2, 9, [some 195, some 196, none, none, none, none, none, none, none]), (101, 12, []), (101, 12, []), (2, 9, [some 198, some 199, none, none, none, none, none, none, none]), (101, 12, []), (101, 12, []), (3, 14, [some 201, none, none, none, none, none, none, none, none, none, none, none, none, none]), (101, 80, []), (3, 14, [some 203, none, none, none, none, none, none, none, none, none, none, none, none, none]), (101, 80, []),
  (3, 14, [some 205, none, none, none, none, none, none, none, none, none, none, none, none, none]), (101, 80, []), (3, 14, [some 207, none, none, none, none, none, none, none, none, none, none, none, none, none]), (101, 80, []), (3, 14, [some 209, none, none, none, none, none, none, none, none, none, none, none, none, none]), (101, 80, []), (3, 14, [some 211, none, none, none, none, none, none, none, none, none, none, none, none, none]), (101, 80, []), (3, 14, [some 213, none, none, none, none, none, none, none, none, none, none, none, none, none]), (101, 80, []), (3, 14, [some 215, none, none, none, none, none, none, none, none, none, none, none, none, none]), (101, 80, []),
  (3, 14, [some 217, none, none, none, none, none, none, none, none, none, none, none, none, none]), (101, 80, []), (3, 14, [some 219, none, none, none, none, none, none, none, none, none, none, none, none, none]), (101, 80, []), (0, 7, [none, none, none, none, none, none, none]), (0, 7, [none, none, none, none, none, none, none]), (0, 7, [none, none, none, none, none, none, none]), (0, 7, [none, none, none, none, none, none, none]), (0, 7, [none, none, none, none, none, none, none]), (0, 7, [none, none, none, none, none, none, none]), (0, 7, [none, none, none, none, none, none, none]), (0, 7, [none, none, none, none, none, none, none]),
  (0, 7, [none, none, none, none, none, none, none]), (0, 7, [none, none, none, none, none, none, none]), (0, 7, [none, none, none, none, none, none, none]), (0, 7, [none, none, none, none, none, none, none]), (0, 7, [none, none, none, none, none, none, none]), (0, 7, [none, none, none, none, none, none, none]), (0, 7, [none, none, none, none, none, none, none]), (0, 7, [none, none, none, none, none, none, none]), (0, 7, [none, none, none, none, none, none, none]), (0, 7, [none, none, none, none, none, none, none]), (0, 7, [none, none, none, none, none, none, none]), (0, 7, [none, none, none, none, none, none, none]),
  (0, 7, [none, none, none, none, none, none, none]), (0, 7, [none, none, none, none, none, none, none]), (0, 7, [none, none, none, none, none, none, none]), (0, 7, [none, none, none, none, none, none, none]), (0, 7, [none, none, none, none, none, none, none]), (0, 7, [none, none, none, none, none, none, none]), (0, 7, [none, none, none, none, none, none, none]), (0, 7, [none, none, none, none, none, none, none]), (0, 7, [none, none, none, none, none, none, none]), (0, 7, [none, none, none, none, none, none, none]), (6, 2, [some 251, some 254]), (8, 3, [some 252, some 253, none]),
  (101, 72, []), (101, 36, []), (101, 8, []), (7, 10, [some 256, some 257, some 258, some 259, none, none, none, none, none, none]), (101, 300, []), (101, 301, []), (101, 301, []), (101, 301, []), (10, 7, [some 261, some 262, some 263, some 264, some 265, none, none]), (101, 300, []), (101, 300, []), (101, 10, []),
  (101, 10, []), (101, 300, []), (107, 4, [some 267, some 273, some 279, some 285]), (10, 7, [some 268, some 269, some 270, some 271, some 272, none, none]), (101, 300, []), (101, 300, []), (101, 10, []), (101, 10, []), (101, 300, []), (10, 7, [some 274, some 275, some 276, some 277, some 278, none, none]), (101, 300, []), (101, 300, []),
  (101, 10, []), (101, 10, []), (101, 300, []), (10, 7, [some 280, some 281, some 282, some 283, some 284, none, none]), (101, 300, []), (101, 300, []), (101, 10, []), (101, 10, []), (101, 300, []), (10, 7, [some 286, some 287, some 288, some 289, some 290, none, none]), (101, 300, []), (101, 300, []),
  (101, 10, []), (101, 10, []), (101, 300, []), (12, 42, [some 292, some 293, some 294, some 295, none, none, none, some 296, some 297, some 298, some 299, some 300, none, none, none, none, none, none, none, none, none, some 301, some 302, none, some 303, some 304, none, none, none, some 305, some 306, none, some 307, some 308, some 309, some 310, some 311, some 312, some 313, some 314, some 315, some 316]), (101, 1610, []), (101, 1610, []), (101, 1610, []), (100, 300, []), (101, 4, []), (101, 40, []), (101, 40, []), (101, 1600, []),
  (101, 1600, []), (101, 40, []), (101, 41, []), (101, 80, []), (101, 80, []), (101, 10, []), (101, 10, []), (101, 400, []), (101, 400, []), (101, 8, []), (102, 200, []), (103, 6, []),
  (101, 72, []), (101, 6, []), (101, 80, []), (101, 81, []), (101, 81, [])
]
abbrev xMem : Type := (Nat → Nat → Int32) × (Nat → Int64)
def xFs (m : xMem) (a : Nat) (sl : List (Option Nat)) : List Value := sl.mapIdx (fun k o => match o with | some q => .ref q | none => .int (m.1 a k))
def xCellOf (m : xMem) (a : Nat) (t : Nat × Nat × List (Option Nat)) : xE :=
  if t.1 < 100 then .inr (t.1, xFs m a t.2.2)
  else if t.1 = 102 then .inl (2, t.2.1, .inr (.inl m.2))
  else if t.1 < 104 then .inl (t.1 - 100, t.2.1, .inl (m.1 a))
  else .inl (t.1 - 100, t.2.1, .inr (.inr (fun j => (t.2.2[j]?).join)))
def xLay (m : xMem) : xM := xTmL.mapIdx (fun a t => xCellOf m a t)
def xPut (m : xMem) (a k : Nat) (x : Int32) : xMem := (fun b j => if b = a ∧ j = k then x else m.1 b j, m.2)
def xCpy (m : xMem) (a0 a sp dp n : Nat) : xMem := (fun b j => if b = a then va_cpy (m.1 a0) (m.1 a) sp dp n j else m.1 b j, m.2)
def xPutL (m : xMem) (k : Nat) (x : Int64) : xMem := (m.1, vp_updL m.2 k x)
theorem xLay_get {m : xMem} {a : Nat} {t : Nat × Nat × List (Option Nat)} (h : xTmL[a]? = some t) : (xLay m)[a]? = some (xCellOf m a t) := by
  unfold xLay
  rw [List.getElem?_mapIdx, h]
  rfl
theorem xLay_obj {m : xMem} {a ci n : Nat} {sl : List (Option Nat)} (h : xTmL[a]? = some (ci, n, sl)) (hc : decide (ci < 100) = true) : (xLay m)[a]? = some (.inr (ci, xFs m a sl)) := by
  rw [xLay_get h]
  unfold xCellOf
  rw [if_pos (of_decide_eq_true hc)]
theorem xLay_int {m : xMem} {a t n : Nat} {sl : List (Option Nat)} (h : xTmL[a]? = some (t + 100, n, sl)) (hc : (decide (t < 4) && !decide (t = 2)) = true) : (xLay m)[a]? = some (.inl (t, n, .inl (m.1 a))) := by
  rw [xLay_get h]
  unfold xCellOf
  simp only [Bool.and_eq_true, Bool.not_eq_true', decide_eq_true_eq, decide_eq_false_iff_not] at hc
  simp only
  rw [if_neg (by omega), if_neg (by omega), if_pos (by omega), Nat.add_sub_cancel]
theorem xLay_long {m : xMem} {a n : Nat} {sl : List (Option Nat)} (h : xTmL[a]? = some (102, n, sl)) : (xLay m)[a]? = some (.inl (2, n, .inr (.inl m.2))) := by
  rw [xLay_get h]
  rfl
theorem xLay_ref {m : xMem} {a t n : Nat} {sl : List (Option Nat)} (h : xTmL[a]? = some (t + 100, n, sl)) (hc : decide (4 ≤ t) = true) : (xLay m)[a]? = some (.inl (t, n, .inr (.inr (fun j => (sl[j]?).join)))) := by
  rw [xLay_get h]
  unfold xCellOf
  have hc : 4 ≤ t := of_decide_eq_true hc
  simp only
  rw [if_neg (by omega), if_neg (by omega), if_neg (by omega), Nat.add_sub_cancel]
theorem xLay_len (m : xMem) : (xLay m).length = xTmL.length := by simp [xLay]
theorem xFs_set {m : xMem} {a k : Nat} {x : Int32} {sl : List (Option Nat)} (h : sl[k]? = some none) : (xFs m a sl).set k (.int x) = xFs (xPut m a k x) a sl := by
  unfold xFs
  apply List.ext_getElem?
  intro i
  rw [List.getElem?_set, List.getElem?_mapIdx, List.getElem?_mapIdx, List.length_mapIdx]
  have hk := (List.getElem?_eq_some_iff.mp h).1
  by_cases e : k = i
  · subst e
    rw [if_pos rfl, if_pos hk, h]
    simp [xPut]
  · rw [if_neg e]
    cases sl[i]? with
    | none => rfl
    | some o => cases o with
      | some q => rfl
      | none => simp [xPut, Ne.symm e]
theorem xCellOf_other {m m' : xMem} {b : Nat} {t : Nat × Nat × List (Option Nat)} (h1 : m'.1 b = m.1 b) (h2 : m'.2 = m.2) : xCellOf m' b t = xCellOf m b t := by
  unfold xCellOf xFs
  rw [h1, h2]
theorem xLay_set {m m' : xMem} {a : Nat} {e : xE} {t : Nat × Nat × List (Option Nat)} (h : xTmL[a]? = some t) (he : e = xCellOf m' a t) (h1 : ∀ b, b ≠ a → m'.1 b = m.1 b) (h2 : m'.2 = m.2) : (xLay m).set a e = xLay m' := by
  unfold xLay
  apply List.ext_getElem?
  intro i
  rw [List.getElem?_set, List.getElem?_mapIdx, List.getElem?_mapIdx, List.length_mapIdx]
  have hk := (List.getElem?_eq_some_iff.mp h).1
  by_cases q : a = i
  · subst q
    rw [if_pos rfl, if_pos hk, h, he]
    rfl
  · rw [if_neg q]
    cases xTmL[i]? with
    | none => rfl
    | some t => exact congrArg some (xCellOf_other (h1 i (Ne.symm q)) h2).symm
theorem xPut_other {m : xMem} {a k b : Nat} {x : Int32} (h : b ≠ a) : (xPut m a k x).1 b = m.1 b := by
  funext j
  simp [xPut, h]
theorem xLay_put {m : xMem} {a ci n k : Nat} {sl : List (Option Nat)} {x : Int32} (h : xTmL[a]? = some (ci, n, sl)) (hc : decide (ci < 100) = true) (hk : sl[k]? = some none) : (xLay m).set a (.inr (ci, (xFs m a sl).set k (.int x))) = xLay (xPut m a k x) := by
  refine xLay_set h ?_ (fun b hb => xPut_other hb) rfl
  unfold xCellOf
  rw [if_pos (of_decide_eq_true hc), xFs_set hk]
theorem xLay_upd {m : xMem} {a t n j : Nat} {sl : List (Option Nat)} {x : Int32} (h : xTmL[a]? = some (t + 100, n, sl)) (hc : (decide (t < 4) && !decide (t = 2)) = true) : (xLay m).set a (.inl (t, n, .inl (upd (m.1 a) j x))) = xLay (xPut m a j x) := by
  refine xLay_set h ?_ (fun b hb => xPut_other hb) rfl
  have h1 := xLay_int (m := xPut m a j x) h hc
  rw [xLay_get h] at h1
  rw [Option.some.inj h1]
  congr 4
  funext i
  simp [upd, xPut]
theorem xLay_cpy {m : xMem} {a a0 n sp dp k : Nat} {sl : List (Option Nat)} (h : xTmL[a]? = some (101, n, sl)) : (xLay m).set a (.inl (1, n, .inl (va_cpy (m.1 a0) (m.1 a) sp dp k))) = xLay (xCpy m a0 a sp dp k) := by
  refine xLay_set h ?_ (fun b hb => by funext j; simp [xCpy, hb]) rfl
  have h1 := xLay_int (t := 1) (m := xCpy m a0 a sp dp k) h rfl
  rw [xLay_get h] at h1
  rw [Option.some.inj h1]
  congr 4
  funext i
  simp [xCpy]
theorem xTmL_len : xTmL.length = 317 := by decide +kernel
theorem xLongOne : ∀ b, b < 317 → ∀ t, xTmL[b]? = some t → t.1 = 102 → b = 310 := by decide +kernel
theorem xLay_putL {m : xMem} {j : Nat} {x : Int64} : (xLay m).set 310 (.inl (2, 200, .inr (.inl (vp_updL m.2 j x)))) = xLay (xPutL m j x) := by
  unfold xLay
  apply List.ext_getElem?
  intro i
  rw [List.getElem?_set, List.getElem?_mapIdx, List.getElem?_mapIdx, List.length_mapIdx]
  by_cases q : 310 = i
  · subst q
    rw [if_pos rfl, if_pos (by decide +kernel)]
    rfl
  · rw [if_neg q]
    cases hx : xTmL[i]? with
    | none => rfl
    | some t =>
      have hi : i < 317 := by rw [← xTmL_len]; exact (List.getElem?_eq_some_iff.mp hx).1
      have ht : t.1 ≠ 102 := fun e => q (xLongOne i hi t hx e).symm
      show some (xCellOf m i t) = some (xCellOf (xPutL m j x) i t)
      unfold xCellOf
      rw [if_neg ht, if_neg ht]
      rfl
