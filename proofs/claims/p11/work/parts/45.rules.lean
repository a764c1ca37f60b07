/-! SAFETY: the places by kind, the cells that are bound, the rules -/
def pMS : List Nat := [0]
def pStation : List Nat := [1, 84, 167]
def pNow : List Nat := [1]
def pKept : List Nat := [84]
def pNK : List Nat := [1, 84]
def pTried : List Nat := [167]
def pHall : List Nat := [16, 19, 22, 25, 28, 31, 99, 102, 105, 108, 111, 114, 182, 185, 188, 191, 194, 197]
def pLink : List Nat := [34, 36, 38, 40, 42, 44, 46, 48, 50, 52, 117, 119, 121, 123, 125, 127, 129, 131, 133, 135, 200, 202, 204, 206, 208, 210, 212, 214, 216, 218]
def pLinkT : List Nat := [200, 202, 204, 206, 208, 210, 212, 214, 216, 218]
def pBurst : List Nat := [54, 55, 56, 57, 58, 59, 60, 61, 62, 63, 64, 65, 66, 67, 68, 69, 70, 71, 72, 73, 74, 75, 76, 77, 78, 79, 80, 81, 82, 83, 137, 138, 139, 140, 141, 142, 143, 144, 145, 146, 147, 148, 149, 150, 151, 152, 153, 154, 155, 156, 157, 158, 159, 160, 161, 162, 163, 164, 165, 166, 220, 221, 222, 223, 224, 225, 226, 227, 228, 229, 230, 231, 232, 233, 234, 235, 236, 237, 238, 239, 240, 241, 242, 243, 244, 245, 246, 247, 248, 249]
def pDays : List Nat := [5, 88, 171]
def pMends : List Nat := [8, 91, 174]
def pLoads : List Nat := [14, 97, 180]
def pMover : List Nat := [250]
def pRoutes : List Nat := [251]
def pReader : List Nat := [255]
def pText : List Nat := [260, 267, 273, 279, 285]
def pNames : List Nat := [254]
def pArr : List Nat := [13, 17, 18, 20, 21, 23, 24, 26, 27, 29, 30, 32, 33, 35, 37, 39, 41, 43, 45, 47, 49, 51, 53, 96, 100, 101, 103, 104, 106, 107, 109, 110, 112, 113, 115, 116, 118, 120, 122, 124, 126, 128, 130, 132, 134, 136, 172, 173, 175, 176, 177, 178, 179, 181, 183, 184, 186, 187, 189, 190, 192, 193, 195, 196, 198, 199, 201, 203, 205, 207, 209, 211, 213, 215, 217, 219, 252, 253, 254, 257, 258, 259, 261, 262, 263, 264, 265, 268, 269, 270, 271, 272, 274, 275, 276, 277, 278, 280, 281, 282, 283, 284, 286, 287, 288, 289, 290]
def pArrL : List Nat := []
def pKeep : List Nat := [6, 7, 9, 10, 11, 12, 15, 89, 90, 92, 93, 94, 95, 98, 256]
/-- a cell that calls which only look keep: of the two stations now and kept -/
def KC (b j : Nat) : Bool := Nat.ble 291 b || ((pNK.contains b && [6, 7, 8, 9, 10, 11].contains j) || (([34, 36, 38, 40, 42, 44, 46, 48, 50, 52, 117, 119, 121, 123, 125, 127, 129, 131, 133, 135] : List Nat).contains b && j == 1) || (([5, 88] : List Nat).contains b && j == 2) || (([8, 91] : List Nat).contains b && j == 5) || (([14, 97] : List Nat).contains b && j == 1) || (pKeep.contains b || (b == 255 && [4, 5, 6].contains j)))
/-- a cell of a boolean -/
def BC (b j : Nat) : Bool := (pHall.contains b && j == 8) || (pLink.contains b && (j == 12 || j == 13)) || (pBurst.contains b && j == 6)
abbrev okW (b j : Nat) : Prop := KC b j = false ∧ BC b j = false
def IC (R : xMem) (m : xMem) : Prop := (∀ b j, KC b j = true → m.1 b j = R.1 b j) ∧ (∀ b j, BC b j = true → 0 ≤ (m.1 b j).toInt ∧ (m.1 b j).toInt ≤ 1) ∧ m.2 = R.2
theorem IC.kc {R m : xMem} (h : IC R m) : ∀ b j, KC b j = true → m.1 b j = R.1 b j := h.1
theorem IC.bc {R m : xMem} (h : IC R m) : ∀ b j, BC b j = true → 0 ≤ (m.1 b j).toInt ∧ (m.1 b j).toInt ≤ 1 := h.2.1
theorem IC.pl {R m : xMem} (h : IC R m) : m.2 = R.2 := h.2.2
def vOk {α : Type} (P : α → Prop) (o : Option α) : Prop := ∃ r, o = some r ∧ P r
theorem vOk_some {α : Type} {P : α → Prop} {r : α} (h : P r) : vOk P (some r) := ⟨r, rfl, h⟩
theorem vOk_bind {α β : Type} {Q : α → Prop} {P : β → Prop} {o : Option α} {f : α → Option β} (h : vOk Q o) (k : ∀ r, Q r → vOk P (f r)) : vOk P (o.bind f) := by
  obtain ⟨r, rfl, hr⟩ := h
  exact k r hr
theorem vOk_mono {α : Type} {P Q : α → Prop} {o : Option α} (h : vOk P o) (k : ∀ r, P r → Q r) : vOk Q o := by
  obtain ⟨r, e, hr⟩ := h
  exact ⟨r, e, k r hr⟩
/-- a call that leaves the memory -/
def PP {α : Type} (m : xMem) (Q : α → Prop) (p : α × xMem) : Prop := p.2 = m ∧ Q p.1
def PM {α : Type} (C : xMem → Prop) (Q : α → Prop) (p : α × xMem) : Prop := C p.2 ∧ Q p.1
theorem rP {α : Type} {m : xMem} {Q : α → Prop} {v : α} (h : Q v) : vOk (PP m Q) (some (v, m)) := ⟨_, rfl, rfl, h⟩
theorem rM {α : Type} {C : xMem → Prop} {Q : α → Prop} {v : α} {m : xMem} (hC : C m) (h : Q v) : vOk (PM C Q) (some (v, m)) := ⟨_, rfl, hC, h⟩
theorem xFu : ((xFuel : Nat) : Int) = 5000000000 := rfl
theorem vBindP {α β : Type} {m : xMem} {Q : α → Prop} {P : β → Prop} {o : Option (α × xMem)} {f : α × xMem → Option β} (h : vOk (PP m Q) o) (k : ∀ x, o = some (x, m) → Q x → vOk P (f (x, m))) : vOk P (o.bind f) := by
  obtain ⟨⟨x, m'⟩, rfl, e, hr⟩ := h
  cases e
  exact k x rfl hr
theorem vAlB {α β : Type} {P : β → Prop} {o : Option α} {x : α} {f : α → Option β} (h : o = some x) (k : vOk P (f x)) : vOk P (o.bind f) := by
  rw [h]
  exact k
/-- a call that may change it -/
theorem vBindM {α β : Type} {C : xMem → Prop} {Q : α → Prop} {P : β → Prop} {o : Option (α × xMem)} {f : α × xMem → Option β} (h : vOk (PM C Q) o) (k : ∀ x m, C m → Q x → vOk P (f (x, m))) : vOk P (o.bind f) := by
  obtain ⟨⟨x, m'⟩, rfl, e, hr⟩ := h
  exact k x m' e hr
theorem tiB (x : Int32) : -2147483648 ≤ x.toInt ∧ x.toInt ≤ 2147483647 := by
  have h1 := Int32.le_toInt x
  have h2 := Int32.toInt_lt x
  omega
section
variable {β : Type} {P : β → Prop} {α : Type} {A B : Option β} {a b x y : Int32}
theorem vR {e : α} {F : α → Option β} (k : ∀ x, x = e → vOk P (F x)) : vOk P (xLet e F) := k e rfl
theorem vAny {e : α} {F : α → Option β} (k : ∀ x, vOk P (F x)) : vOk P (xLet e F) := k e
theorem vAl {e x : α} {F : α → Option β} (h : x = e) (k : vOk P (F x)) : vOk P (xLet e F) := by subst h; exact k
theorem vI {e : Int32} {F : Int32 → Option β} (k : ∀ x : Int32, x = e → -2147483648 ≤ x.toInt ∧ x.toInt ≤ 2147483647 → vOk P (F x)) : vOk P (xLet e F) := k e rfl (tiB e)
theorem vA {F : Int32 → Option β} (h : -2147483648 ≤ a.toInt + b.toInt ∧ a.toInt + b.toInt ≤ 2147483647) (k : ∀ x : Int32, x = a + b → x.toInt = a.toInt + b.toInt → vOk P (F x)) : vOk P (xLet (a + b) F) :=
  k _ rfl (by rw [Int32.toInt_add]; exact Int.bmod_eq_of_le (by omega) (by omega))
theorem vS {F : Int32 → Option β} (h : -2147483648 ≤ a.toInt - b.toInt ∧ a.toInt - b.toInt ≤ 2147483647) (k : ∀ x : Int32, x = a - b → x.toInt = a.toInt - b.toInt → vOk P (F x)) : vOk P (xLet (a - b) F) :=
  k _ rfl (by rw [Int32.toInt_sub]; exact Int.bmod_eq_of_le (by omega) (by omega))
theorem vM {F : Int32 → Option β} {v : Int} (e : a.toInt * b.toInt = v) (h : -2147483648 ≤ v ∧ v ≤ 2147483647) (k : ∀ x : Int32, x = a * b → x.toInt = v → vOk P (F x)) : vOk P (xLet (a * b) F) :=
  k _ rfl (by rw [Int32.toInt_mul, e]; exact Int.bmod_eq_of_le (by omega) (by omega))
theorem bm32 (z : Int) (h : -4294967296 ≤ z ∧ z < 4294967296) : Int.bmod z (2 ^ 32) = z ∨ Int.bmod z (2 ^ 32) = z + 4294967296 ∨ Int.bmod z (2 ^ 32) = z - 4294967296 := by
  have h1 := Int.le_bmod (x := z) (m := 2 ^ 32) (by decide)
  have h2 := Int.bmod_lt (x := z) (m := 2 ^ 32) (by decide)
  have h3 := Int.bmod_def z (2 ^ 32)
  omega
theorem vAw {F : Int32 → Option β} (k : ∀ x : Int32, x = a + b → (-2147483648 ≤ x.toInt ∧ x.toInt ≤ 2147483647) ∧ (x.toInt = a.toInt + b.toInt ∨ x.toInt = a.toInt + b.toInt + 4294967296 ∨ x.toInt = a.toInt + b.toInt - 4294967296) → vOk P (F x)) : vOk P (xLet (a + b) F) :=
  k _ rfl ⟨tiB _, by rw [Int32.toInt_add]; exact bm32 _ (by have := tiB a; have := tiB b; omega)⟩
theorem vSw {F : Int32 → Option β} (k : ∀ x : Int32, x = a - b → (-2147483648 ≤ x.toInt ∧ x.toInt ≤ 2147483647) ∧ (x.toInt = a.toInt - b.toInt ∨ x.toInt = a.toInt - b.toInt + 4294967296 ∨ x.toInt = a.toInt - b.toInt - 4294967296) → vOk P (F x)) : vOk P (xLet (a - b) F) :=
  k _ rfl ⟨tiB _, by rw [Int32.toInt_sub]; exact bm32 _ (by have := tiB a; have := tiB b; omega)⟩
theorem vMin {F : Int32 → Option β} (k : ∀ x : Int32, x = xMin a b → (x.toInt ≤ a.toInt ∧ x.toInt ≤ b.toInt) ∧ (x.toInt = a.toInt ∨ x.toInt = b.toInt) → vOk P (F x)) : vOk P (xLet (xMin a b) F) :=
  k _ rfl (by
    unfold xMin
    by_cases h : b < a
    · rw [if_pos h]; have := Int32.lt_iff_toInt_lt.mp h; omega
    · rw [if_neg h]; have : ¬ b.toInt < a.toInt := fun q => h (Int32.lt_iff_toInt_lt.mpr q); omega)
theorem vMax {F : Int32 → Option β} (k : ∀ x : Int32, x = xMax a b → (a.toInt ≤ x.toInt ∧ b.toInt ≤ x.toInt) ∧ (x.toInt = a.toInt ∨ x.toInt = b.toInt) → vOk P (F x)) : vOk P (xLet (xMax a b) F) :=
  k _ rfl (by
    unfold xMax
    by_cases h : a < b
    · rw [if_pos h]; have := Int32.lt_iff_toInt_lt.mp h; omega
    · rw [if_neg h]; have : ¬ a.toInt < b.toInt := fun q => h (Int32.lt_iff_toInt_lt.mpr q); omega)
theorem vIn {n : Nat} (h0 : 0 ≤ x.toInt) (h1 : x.toInt < n) (k : x.toNatClampNeg < n → vOk P A) : vOk P (bif xIn x n then A else B) := by
  have e : x.toNatClampNeg = x.toInt.toNat := rfl
  have h : xIn x n = true := by
    unfold xIn
    have hz : ¬ x < 0 := fun q => by
      have := Int32.lt_iff_toInt_lt.mp q
      have z : (0 : Int32).toInt = 0 := rfl
      omega
    simp only [Bool.and_eq_true, decide_eq_true_eq, Bool.not_eq_true', decide_eq_false_iff_not]
    exact ⟨hz, by omega⟩
  rw [h]
  exact k (by omega)
theorem vLt (h1 : x.toInt < y.toInt → vOk P A) (h2 : y.toInt ≤ x.toInt → vOk P B) : vOk P (if x < y then A else B) := by
  by_cases h : x < y
  · rw [if_pos h]; exact h1 (Int32.lt_iff_toInt_lt.mp h)
  · rw [if_neg h]; exact h2 (Int.not_lt.mp (fun q => h (Int32.lt_iff_toInt_lt.mpr q)))
theorem vLe (h1 : x.toInt ≤ y.toInt → vOk P A) (h2 : y.toInt < x.toInt → vOk P B) : vOk P (if x ≤ y then A else B) := by
  by_cases h : x ≤ y
  · rw [if_pos h]; exact h1 (Int32.le_iff_toInt_le.mp h)
  · rw [if_neg h]; exact h2 (Int.not_le.mp (fun q => h (Int32.le_iff_toInt_le.mpr q)))
theorem vEq (h1 : x.toInt = y.toInt → vOk P A) (h2 : ¬ x.toInt = y.toInt → vOk P B) : vOk P (if x = y then A else B) := by
  by_cases h : x = y
  · rw [if_pos h]; exact h1 (congrArg _ h)
  · rw [if_neg h]; exact h2 (fun q => h (Int32.toInt_inj.mp q))
theorem vNe (h1 : ¬ x.toInt = y.toInt → vOk P A) (h2 : x.toInt = y.toInt → vOk P B) : vOk P (if ¬ x = y then A else B) := by
  by_cases h : x = y
  · rw [if_neg (not_not_intro h)]; exact h2 (congrArg _ h)
  · rw [if_pos h]; exact h1 (fun q => h (Int32.toInt_inj.mp q))
theorem vB (h : 0 ≤ x.toInt ∧ x.toInt ≤ 1) (k : vOk P A) : vOk P (bif (decide (x = 0) || decide (x = 1)) then A else B) := by
  have e : (decide (x = 0) || decide (x = 1)) = true := by
    simp only [Bool.or_eq_true, decide_eq_true_eq]
    by_cases q : x.toInt = 0
    · exact Or.inl (Int32.toInt_inj.mp q)
    · exact Or.inr (Int32.toInt_inj.mp (show x.toInt = 1 by omega))
  rw [e]
  exact k
theorem vNz (h : ¬ x.toInt = 0) (k : vOk P A) : vOk P (bif !decide (x = 0) then A else B) := by
  have e : (!decide (x = 0)) = true := by
    simp only [Bool.not_eq_true', decide_eq_false_iff_not]
    exact fun q => h (congrArg Int32.toInt q)
  rw [e]
  exact k
theorem vNzL {x : Int64} (h : ¬ x = 0) (k : vOk P A) : vOk P (bif !decide (x = 0) then A else B) := by
  have e : (!decide (x = 0)) = true := by
    simp only [Bool.not_eq_true', decide_eq_false_iff_not]
    exact h
  rw [e]
  exact k
end
theorem cmpZ {a : Int64} {x : Int32} (hx : x = lg_cmp a 0) (h : ¬ x.toInt = 0) : ¬ a = 0 := by
  rintro rfl
  rw [hx] at h
  exact h (by decide)
theorem longZ {a : Int32} {x : Int64} (hx : x = a.toInt64) (h : ¬ a.toInt = 0) : ¬ x = 0 := by
  intro e
  rw [hx] at e
  have q := congrArg Int64.toInt e
  rw [Int32.toInt_toInt64] at q
  exact h q
theorem clampI {x : Int32} (h : 0 ≤ x.toInt) : (x.toNatClampNeg : Int) = x.toInt := Int.toNat_of_nonneg h
theorem xP_pl {m : xMem} {a j b i : Nat} {v : Int32} (h : b ≠ a) : m.1 b i = (xPut m a j v).1 b i := by
  show _ = (if b = a ∧ i = j then v else m.1 b i)
  rw [if_neg (fun q => h q.1)]
theorem xP_sl {m : xMem} {a j b i : Nat} {v : Int32} (h : i ≠ j) : m.1 b i = (xPut m a j v).1 b i := by
  show _ = (if b = a ∧ i = j then v else m.1 b i)
  rw [if_neg (fun q => h q.2)]
theorem xP_eq {m : xMem} {a j : Nat} {v : Int32} : v = (xPut m a j v).1 a j := by
  show _ = (if a = a ∧ j = j then v else m.1 a j)
  rw [if_pos ⟨rfl, rfl⟩]
theorem xP_plE {m m' : xMem} {a j b i : Nat} {v : Int32} (e : m' = xPut m a j v) (h : b ≠ a) : m.1 b i = m'.1 b i := e ▸ xP_pl h
theorem xP_slE {m m' : xMem} {a j b i : Nat} {v : Int32} (e : m' = xPut m a j v) (h : i ≠ j) : m.1 b i = m'.1 b i := e ▸ xP_sl h
theorem xP_eqE {m m' : xMem} {a j : Nat} {v : Int32} (e : m' = xPut m a j v) : v = m'.1 a j := e ▸ xP_eq
theorem IC_put {R m : xMem} {a j : Nat} {v : Int32} (h : IC R m) (w : okW a j) : IC R (xPut m a j v) := by
  refine ⟨fun b i hk => ?_, fun b i hk => ?_, h.pl⟩
  · show (if b = a ∧ i = j then v else m.1 b i) = _
    rw [if_neg (by rintro ⟨rfl, rfl⟩; rw [w.1] at hk; cases hk)]
    exact h.kc b i hk
  · show 0 ≤ (if b = a ∧ i = j then v else m.1 b i).toInt ∧ (if b = a ∧ i = j then v else m.1 b i).toInt ≤ 1
    rw [if_neg (by rintro ⟨rfl, rfl⟩; rw [w.2] at hk; cases hk)]
    exact h.bc b i hk
theorem IC_putB {R m : xMem} {a j : Nat} {v : Int32} (h : IC R m) (w : KC a j = false) (hv : 0 ≤ v.toInt ∧ v.toInt ≤ 1) : IC R (xPut m a j v) := by
  refine ⟨fun b i hk => ?_, fun b i hk => ?_, h.pl⟩
  · show (if b = a ∧ i = j then v else m.1 b i) = _
    rw [if_neg (by rintro ⟨rfl, rfl⟩; rw [w] at hk; cases hk)]
    exact h.kc b i hk
  · show 0 ≤ (if b = a ∧ i = j then v else m.1 b i).toInt ∧ (if b = a ∧ i = j then v else m.1 b i).toInt ≤ 1
    by_cases q : b = a ∧ i = j
    · rw [if_pos q]; exact hv
    · rw [if_neg q]; exact h.bc b i hk
theorem IC_row {R m m2 : xMem} {a : Nat} (h : IC R m) (w : ∀ j, okW a j) (h1 : ∀ b j, b ≠ a → m2.1 b j = m.1 b j) (h2 : m2.2 = m.2) : IC R m2 := by
  refine ⟨fun b i hk => ?_, fun b i hk => ?_, h2.trans h.pl⟩
  · rw [h1 b i (by rintro rfl; rw [(w i).1] at hk; cases hk)]
    exact h.kc b i hk
  · rw [h1 b i (by rintro rfl; rw [(w i).2] at hk; cases hk)]
    exact h.bc b i hk
theorem okArr : ∀ a ∈ pArr, ∀ j, okW a j := by
  intro a ha j
  have h1 : Nat.ble 291 a = false ∧ pNK.contains a = false ∧ ([34, 36, 38, 40, 42, 44, 46, 48, 50, 52, 117, 119, 121, 123, 125, 127, 129, 131, 133, 135] : List Nat).contains a = false ∧ ([5, 88] : List Nat).contains a = false ∧ ([8, 91] : List Nat).contains a = false ∧ ([14, 97] : List Nat).contains a = false ∧ pHall.contains a = false ∧ pLink.contains a = false ∧ pBurst.contains a = false ∧ pKeep.contains a = false ∧ (a == 255) = false :=
    (show ∀ a ∈ pArr, Nat.ble 291 a = false ∧ pNK.contains a = false ∧ ([34, 36, 38, 40, 42, 44, 46, 48, 50, 52, 117, 119, 121, 123, 125, 127, 129, 131, 133, 135] : List Nat).contains a = false ∧ ([5, 88] : List Nat).contains a = false ∧ ([8, 91] : List Nat).contains a = false ∧ ([14, 97] : List Nat).contains a = false ∧ pHall.contains a = false ∧ pLink.contains a = false ∧ pBurst.contains a = false ∧ pKeep.contains a = false ∧ (a == 255) = false by decide +kernel) a ha
  obtain ⟨e1, e2, e3, e4, e5, e6, e7, e8, e9, e10, e11⟩ := h1
  refine ⟨?_, ?_⟩
  · unfold KC; rw [e1, e2, e3, e4, e5, e6, e10, e11]; rfl
  · unfold BC; rw [e7, e8, e9]; rfl
theorem IC_arr {R m : xMem} {a j : Nat} {v : Int32} (h : IC R m) (w : a ∈ pArr) : IC R (xPut m a j v) := IC_put h (okArr a w j)
def IA (R m0 m : xMem) : Prop := IC R m ∧ ∀ b j, ¬ b ∈ pArr → m0.1 b j = m.1 b j
theorem IA_tr {R a b c : xMem} (h1 : IA R a b) (h2 : IA R b c) : IA R a c := ⟨h2.1, fun x j hx => (h1.2 x j hx).trans (h2.2 x j hx)⟩
theorem IA_arr {R m0 m : xMem} {a j : Nat} {v : Int32} (h : IA R m0 m) (w : a ∈ pArr) : IA R m0 (xPut m a j v) := by
  refine ⟨IC_arr h.1 w, fun b i hb => ?_⟩
  rw [h.2 b i hb]
  exact xP_pl (fun q => hb (q ▸ w))
def footV (m : xMem) (r : Nat) : Int32 := if m.1 r 6 = 2 then m.1 r 3 else m.1 r 2
theorem foot_e (r : Nat) (m : xMem) : fX3_foot r m = some (footV m r, m) := by
  unfold fX3_foot fX3_foot_0 footV
  show (if ¬ m.1 r 6 = (2 : Int32) then fX3_foot_19 r (m.1 r 2) m else fX3_foot_19 r (m.1 r 3) m) = _
  by_cases h : m.1 r 6 = 2
  · rw [if_neg (not_not_intro h), if_pos h]; rfl
  · rw [if_pos h, if_neg h]; rfl
theorem foot_pl {m : xMem} {a j r : Nat} {v : Int32} (h : r ≠ a) : footV m r = footV (xPut m a j v) r := by
  unfold footV
  rw [← xP_pl h, ← xP_pl h, ← xP_pl h]
theorem foot_plE {m m' : xMem} {a j r : Nat} {v : Int32} (e : m' = xPut m a j v) (h : r ≠ a) : footV m r = footV m' r := e ▸ foot_pl h
theorem vFoot {β : Type} {P : β → Prop} {r : Nat} {m : xMem} {F : Int32 × xMem → Option β} (k : ∀ x, x = footV m r → -2147483648 ≤ x.toInt ∧ x.toInt ≤ 2147483647 → vOk P (F (x, m))) : vOk P ((fX3_foot r m).bind F) := by
  rw [foot_e]
  exact k _ rfl (tiB _)
theorem vFootA {β : Type} {P : β → Prop} {r : Nat} {m : xMem} {x : Int32} {F : Int32 × xMem → Option β} (h : x = footV m r) (k : vOk P (F (x, m))) : vOk P ((fX3_foot r m).bind F) := by
  rw [foot_e, ← h]
  exact k
theorem IC_fill {R m : xMem} {a n : Nat} {x : Int32} (h : IC R m) (w : a ∈ pArr) : IC R (xFillM m a n x) := by
  refine IC_row h (okArr a w) (fun b j hb => ?_) rfl
  show (if b = a ∧ j < n then x else m.1 b j) = _
  rw [if_neg (fun q => hb q.1)]
theorem IC_cpy {R m : xMem} {a0 a sp dp n : Nat} (h : IC R m) (w : a ∈ pArr) : IC R (xCpy m a0 a sp dp n) := by
  refine IC_row h (okArr a w) (fun b j hb => ?_) rfl
  show (if b = a then va_cpy (m.1 a0) (m.1 a) sp dp n j else m.1 b j) = _
  rw [if_neg hb]
