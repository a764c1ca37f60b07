/-! a stair alone, a crossing: class and reference answer alike from any two memories (p1, parts 64 to 72) -/
theorem within_no {a b c : Int32} {m : xMem} (h : a < b ∨ c < a) : fX11_within a b c m = some (0, m) := by
  unfold fX11_within fX11_within_0
  by_cases h1 : a < b
  · rw [if_pos h1]; rfl
  · rw [if_neg h1, if_pos (h.resolve_left h1)]; rfl
theorem within_yes {a b c : Int32} {m : xMem} (h1 : ¬ a < b) (h2 : ¬ c < a) : fX11_within a b c m = some (1, m) := by
  unfold fX11_within fX11_within_0
  rw [if_neg h1, if_neg h2]; rfl
theorem in_no {a b c : Int32} {m : xMem} (h : a < b ∨ c < a) : fX12_in a b c m = some (0, m) := by
  unfold fX12_in fX12_in_0
  by_cases h1 : a < b
  · rw [if_pos h1]; rfl
  · rw [if_neg h1, if_pos (h.resolve_left h1)]; rfl
theorem in_yes {a b c : Int32} {m : xMem} (h1 : ¬ a < b) (h2 : ¬ c < a) : fX12_in a b c m = some (1, m) := by
  unfold fX12_in fX12_in_0
  rw [if_neg h1, if_neg h2]; rfl
theorem put_at {m : xMem} {a k : Nat} {x : Int32} : (xPut m a k x).1 a k = x := by
  show (if a = a ∧ k = k then x else m.1 a k) = x
  rw [if_pos ⟨rfl, rfl⟩]
theorem put_ne {m : xMem} {a k b j : Nat} {x : Int32} (h : b ≠ a) : (xPut m a k x).1 b j = m.1 b j := by
  show (if b = a ∧ j = k then x else m.1 b j) = m.1 b j
  rw [if_neg (fun q => h q.1)]
theorem put_nk {m : xMem} {a k b j : Nat} {x : Int32} (h : j ≠ k) : (xPut m a k x).1 b j = m.1 b j := by
  show (if b = a ∧ j = k then x else m.1 b j) = m.1 b j
  rw [if_neg (fun q => h q.2)]
theorem put_row {m : xMem} {a k b : Nat} {x : Int32} (h : b ≠ a) : (xPut m a k x).1 b = m.1 b := funext fun _ => put_ne h
theorem fill_row {m : xMem} {a n b : Nat} {x : Int32} (h : b ≠ a) : (xFillM m a n x).1 b = m.1 b := by
  funext j
  show (if b = a ∧ j < n then x else m.1 b j) = m.1 b j
  rw [if_neg (fun q => h q.1)]
theorem xLet_e {α β : Type} {a : α} {f : α → β} : xLet a f = f a := Eq.trans rfl rfl
theorem cl1 : (1 : Int32).toNatClampNeg = 1 := by decide
theorem fuE (k : Nat) (hk : k ≤ 10000) : ∃ n, xFuel = n + 1 + k := by
  have h : xFuel = 5000000000 := rfl
  generalize xFuel = f at h
  exact ⟨f - 1 - k, by omega⟩
theorem bind_e {α β : Type} {x : α} {f : α → Option β} : (some x).bind f = f x := Eq.trans rfl rfl
theorem cond_e {α : Type} {x y : α} : (bif true then x else y) = x := Eq.trans rfl rfl
theorem of0 : Int32.ofNat 0 = (0 : Int32) := by decide
theorem both (a b c : Int32) : ((∀ m, fX11_within a b c m = some (0, m)) ∧ ∀ m, fX12_in a b c m = some (0, m)) ∨ ((∀ m, fX11_within a b c m = some (1, m)) ∧ ∀ m, fX12_in a b c m = some (1, m)) := by
  by_cases h1 : a < b
  · exact Or.inl ⟨fun _ => within_no (Or.inl h1), fun _ => in_no (Or.inl h1)⟩
  · by_cases h2 : c < a
    · exact Or.inl ⟨fun _ => within_no (Or.inr h2), fun _ => in_no (Or.inr h2)⟩
    · exact Or.inr ⟨fun _ => within_yes h1 h2, fun _ => in_yes h1 h2⟩
theorem cl0 : (0 : Int32).toNatClampNeg = 0 := by decide
theorem fuE0 : ∃ n, xFuel = n + 1 := by
  obtain ⟨n, hn⟩ := fuE 0 (by omega)
  exact ⟨n, hn⟩
/-! effect on the fresh memory -/
theorem k6 : ∀ k, k < 6 → ¬ (6 : Int32) ≤ Int32.ofNat k ∧ xIn ((6 : Int32) + Int32.ofNat k) 12 = true ∧ xIn (Int32.ofNat k) 12 = true ∧ Int32.ofNat k + 1 = Int32.ofNat (k + 1) := by decide
theorem le66 : (6 : Int32) ≤ Int32.ofNat 6 := by decide
theorem ff128 {a0 a1 : Nat} {a2 : Int32} {rec109 : Int32 → xMem → Option xMem} {rec118 : Int32 → Int32 → xMem → Option xMem} {P I : xMem → Prop} {i j : Nat} (hj : j < 6)
    (hB : ∀ k m, k < 6 → I m → ∃ z1 z2 m', fX8_between a0 (Int32.ofNat j) (Int32.ofNat i) m = some (z1, m) ∧ fX8_between a0 (Int32.ofNat i) (Int32.ofNat k) m = some (z2, m) ∧ fX8_shorten a0 (Int32.ofNat j) (Int32.ofNat k) (z1 + z2) m = some m' ∧ I m')
    (hrec : ∀ m, I m → vOk P (rec118 (Int32.ofNat i) (Int32.ofNat (j + 1)) m)) :
    ∀ (e k n : Nat) (m : xMem), k + e = 6 → I m → vOk P (fX8_findFor_128 a0 a1 a2 rec109 rec118 (n + 1 + e) (Int32.ofNat i) (Int32.ofNat j) (Int32.ofNat k) m) := by
  intro e
  induction e with
  | zero =>
    intro k n m hk hI
    have hk : k = 6 := by omega
    subst hk
    rw [fX8_findFor_128, if_pos le66, xLet_e, (k6 j hj).2.2.2]
    exact hrec m hI
  | succ e ih =>
    intro k n m hk hI
    obtain ⟨a1, a2, a3, a4⟩ := k6 k (by omega)
    obtain ⟨z1, z2, m', e1, e2, e3, hI'⟩ := hB k m (by omega) hI
    rw [show n + 1 + (e + 1) = n + 1 + e + 1 from rfl, fX8_findFor_128, if_neg a1, e1, bind_e, e2, bind_e, xLet_e, e3, bind_e, xLet_e, a4]
    exact ih (k + 1) n m' (by omega) hI'
theorem ff118 {a0 a1 : Nat} {a2 : Int32} {rec109 : Int32 → xMem → Option xMem} {P I : xMem → Prop} {i : Nat} (hi : i < 6)
    (hB : ∀ j k m, j < 6 → k < 6 → I m → ∃ z1 z2 m', fX8_between a0 (Int32.ofNat j) (Int32.ofNat i) m = some (z1, m) ∧ fX8_between a0 (Int32.ofNat i) (Int32.ofNat k) m = some (z2, m) ∧ fX8_shorten a0 (Int32.ofNat j) (Int32.ofNat k) (z1 + z2) m = some m' ∧ I m')
    (hrec : ∀ m, I m → vOk P (rec109 (Int32.ofNat (i + 1)) m)) :
    ∀ (e j n : Nat) (m : xMem), j + e = 6 → I m → vOk P (fX8_findFor_118 a0 a1 a2 rec109 (n + 1 + e) (Int32.ofNat i) (Int32.ofNat j) m) := by
  intro e
  induction e with
  | zero =>
    intro j n m hk hI
    have hk : j = 6 := by omega
    subst hk
    rw [fX8_findFor_118, if_pos le66, xLet_e, (k6 i hi).2.2.2]
    exact hrec m hI
  | succ e ih =>
    intro j n m hk hI
    obtain ⟨a1, a2, a3, a4⟩ := k6 j (by omega)
    obtain ⟨n6, hn6⟩ := fuE 6 (by omega)
    rw [show n + 1 + (e + 1) = n + 1 + e + 1 from rfl, fX8_findFor_118, if_neg a1, hn6, ← of0]
    exact ff128 (by omega) (fun k m hk hI => hB j k m (by omega) hk hI) (fun m hI => ih (j + 1) n m (by omega) hI) 6 0 n6 m rfl hI
theorem ff109 {a0 a1 : Nat} {a2 : Int32} {P I : xMem → Prop}
    (hB : ∀ i j k m, i < 6 → j < 6 → k < 6 → I m → ∃ z1 z2 m', fX8_between a0 (Int32.ofNat j) (Int32.ofNat i) m = some (z1, m) ∧ fX8_between a0 (Int32.ofNat i) (Int32.ofNat k) m = some (z2, m) ∧ fX8_shorten a0 (Int32.ofNat j) (Int32.ofNat k) (z1 + z2) m = some m' ∧ I m')
    (hend : ∀ m, I m → vOk P (fX8_findFor_178 a0 a1 a2 xFuel 0 m)) :
    ∀ (e i n : Nat) (m : xMem), i + e = 6 → I m → vOk P (fX8_findFor_109 a0 a1 a2 (n + 1 + e) (Int32.ofNat i) m) := by
  intro e
  induction e with
  | zero =>
    intro i n m hk hI
    have hk : i = 6 := by omega
    subst hk
    rw [fX8_findFor_109, if_pos le66]
    exact hend m hI
  | succ e ih =>
    intro i n m hk hI
    obtain ⟨a1, a2, a3, a4⟩ := k6 i (by omega)
    obtain ⟨n6, hn6⟩ := fuE 6 (by omega)
    rw [show n + 1 + (e + 1) = n + 1 + e + 1 from rfl, fX8_findFor_109, if_neg a1, hn6, ← of0]
    exact ff118 (by omega) (fun j k m hj hk hI => hB i j k m (by omega) hj hk hI) (fun m hI => ih (i + 1) n m (by omega) hI) 6 0 n6 m rfl hI
theorem i72 : ∀ a, a < 2 → ∀ i, i < 6 → ∀ j, j < 6 → xIn (Int32.ofNat a * 36 + Int32.ofNat i * 6 + Int32.ofNat j) 72 = true ∧ (Int32.ofNat a * 36 + Int32.ofNat i * 6 + Int32.ofNat j).toNatClampNeg = 36 * a + 6 * i + j := by decide +kernel
theorem ff187 {a0 a1 a : Nat} (ha : a < 2) {rec178 : Int32 → xMem → Option xMem} {P : xMem → Prop} {I : Nat → xMem → Prop} {i : Nat} (hi : i < 6)
    (hL : ∀ j m, j < 6 → I j m → ∃ z, fX8_lowestFirst a0 a1 (Int32.ofNat a) (Int32.ofNat i) (Int32.ofNat j) m = some (z, m) ∧ I (j + 1) (xPut m (a0 + 1) (36 * a + 6 * i + j) z))
    (hrec : ∀ m, I 6 m → vOk P (rec178 (Int32.ofNat (i + 1)) m)) :
    ∀ (e j n : Nat) (m : xMem), j + e = 6 → I j m → vOk P (fX8_findFor_187 a0 a1 (Int32.ofNat a) rec178 (n + 1 + e) (Int32.ofNat i) (Int32.ofNat j) m) := by
  intro e
  induction e with
  | zero =>
    intro j n m hk hI
    have hk : j = 6 := by omega
    subst hk
    rw [fX8_findFor_187, if_pos le66, xLet_e, (k6 i hi).2.2.2]
    exact hrec m hI
  | succ e ih =>
    intro j n m hk hI
    obtain ⟨a1, a2, a3, a4⟩ := k6 j (by omega)
    obtain ⟨z, e1, hI'⟩ := hL j m (by omega) hI
    obtain ⟨b1, b2⟩ := i72 a ha i hi j (by omega)
    rw [show n + 1 + (e + 1) = n + 1 + e + 1 from rfl, fX8_findFor_187, if_neg a1, xLet_e, xLet_e, xLet_e, xLet_e, e1, bind_e, b1, cond_e, b2, xLet_e, xLet_e, a4]
    exact ih (j + 1) n _ (by omega) hI'
theorem ff178 {a0 a1 a : Nat} (ha : a < 2) {P : xMem → Prop} {I : Nat → Nat → xMem → Prop}
    (hL : ∀ i j m, i < 6 → j < 6 → I i j m → ∃ z, fX8_lowestFirst a0 a1 (Int32.ofNat a) (Int32.ofNat i) (Int32.ofNat j) m = some (z, m) ∧ I i (j + 1) (xPut m (a0 + 1) (36 * a + 6 * i + j) z))
    (hN : ∀ i m, i < 6 → I i 6 m → I (i + 1) 0 m) (hE : ∀ m, I 6 0 m → P m) :
    ∀ (e i n : Nat) (m : xMem), i + e = 6 → I i 0 m → vOk P (fX8_findFor_178 a0 a1 (Int32.ofNat a) (n + 1 + e) (Int32.ofNat i) m) := by
  intro e
  induction e with
  | zero =>
    intro i n m hk hI
    have hk : i = 6 := by omega
    subst hk
    rw [fX8_findFor_178, if_pos le66]
    exact vOk_some (hE m hI)
  | succ e ih =>
    intro i n m hk hI
    obtain ⟨a1, a2, a3, a4⟩ := k6 i (by omega)
    obtain ⟨n6, hn6⟩ := fuE 6 (by omega)
    rw [show n + 1 + (e + 1) = n + 1 + e + 1 from rfl, fX8_findFor_178, if_neg a1, hn6, ← of0]
    exact ff187 ha (by omega) (fun j m hj hI => hL i j m (by omega) hj hI) (fun m hI => ih (i + 1) n m (by omega) (hN i m (by omega) hI)) 6 0 n6 m rfl hI
def Sme (m0 m : xMem) : Prop := ∀ b, b < 251 ∨ 253 < b → m.1 b = m0.1 b
theorem ofNat_in {a : Int32} {lo hi : Int32} {p q : Nat} (hp : lo.toInt = p) (hq : hi.toInt = q) (h0 : ¬ a < lo) (h1 : ¬ hi < a) : ∃ k, p ≤ k ∧ k ≤ q ∧ a = Int32.ofNat k := by
  rw [Int32.lt_iff_toInt_lt, hp] at h0
  rw [Int32.lt_iff_toInt_lt, hq] at h1
  have hb : hi.toInt < 2 ^ 31 := Int32.toInt_lt hi
  refine ⟨a.toInt.toNat, by omega, by omega, ?_⟩
  apply Int32.toInt_inj.mp
  rw [Int32.toInt_ofNat_of_lt (by omega)]
  omega
theorem t80 : ∀ d, d < 2 → ∀ s, s < 40 → ¬ Int32.ofNat d * 40 + Int32.ofNat s < 0 ∧ ¬ 80 ≤ Int32.ofNat d * 40 + Int32.ofNat s ∧ xIn (Int32.ofNat d * 40 + Int32.ofNat s) 80 = true ∧ (Int32.ofNat d * 40 + Int32.ofNat s).toNatClampNeg = 40 * d + s := by decide +kernel
theorem ltN {a b : Nat} (ha : a < 2 ^ 31) (hb : b < 2 ^ 31) : Int32.ofNat a < Int32.ofNat b ↔ a < b := by
  rw [Int32.lt_iff_toInt_lt, Int32.toInt_ofNat_of_lt ha, Int32.toInt_ofNat_of_lt hb]
  omega
theorem leN {a b : Nat} (ha : a < 2 ^ 31) (hb : b < 2 ^ 31) : Int32.ofNat a ≤ Int32.ofNat b ↔ a ≤ b := by
  rw [Int32.le_iff_toInt_le, Int32.toInt_ofNat_of_lt ha, Int32.toInt_ofNat_of_lt hb]
  omega
theorem addN1 (a : Nat) : Int32.ofNat a + 1 = Int32.ofNat (a + 1) := (Int32.ofNat_add a 1).symm
theorem addN2 (a : Nat) : Int32.ofNat a + 2 = Int32.ofNat (a + 2) := (Int32.ofNat_add a 2).symm
theorem subN1 (a : Nat) : Int32.ofNat (a + 1) - 1 = Int32.ofNat a := by
  rw [← addN1]
  exact Int32.add_sub_cancel _ _
theorem negN1 (a : Nat) : Int32.ofNat (a + 1) + -1 = Int32.ofNat a := by
  rw [Int32.add_neg_eq_sub]
  exact subN1 a
theorem put_upd {m : xMem} {a k : Nat} {x : Int32} : (xPut m a k x).1 a = upd (m.1 a) k x := by
  funext j
  show (if a = a ∧ j = k then x else m.1 a j) = if j = k then x else m.1 a j
  by_cases h : j = k
  · rw [if_pos ⟨rfl, h⟩, if_pos h]
  · rw [if_neg (fun q => h q.2), if_neg h]
theorem upd_eq {f : Nat → Int32} {k : Nat} {x : Int32} : upd f k x k = x := if_pos rfl
theorem upd_ne {f : Nat → Int32} {k j : Nat} {x : Int32} (h : j ≠ k) : upd f k x j = f j := if_neg h
theorem who_ok {r d s : Nat} {m : xMem} (hd : d < 2) (hs : s < 40) : fX3_who r (Int32.ofNat d) (Int32.ofNat s) m = some (m.1 (r + 1) (40 * d + s), m) := by
  obtain ⟨h1, h2, h3, h4⟩ := t80 d hd s hs
  rw [fX3_who, fX3_who_0, xLet_e, xLet_e, if_neg h1, if_neg h2, h3, cond_e, h4, xLet_e, fX3_who_30]
theorem sput_ok {r d s : Nat} {v : Int32} {m : xMem} (hd : d < 2) (hs : s < 40) : fX3_put r (Int32.ofNat d) (Int32.ofNat s) v m = some (xPut m (r + 1) (40 * d + s) v) := by
  obtain ⟨h1, h2, h3, h4⟩ := t80 d hd s hs
  rw [fX3_put, fX3_put_0, xLet_e, xLet_e, if_neg h1, if_neg h2, h3, cond_e, h4, xLet_e, fX3_put_31]
theorem smove_ok {r d s : Nat} {m : xMem} (hd : d < 2) (hs : s + 1 < 40) : fX3_move r (Int32.ofNat d) (Int32.ofNat s) m = some (xPut (xPut m (r + 1) (40 * d + (s + 1)) (m.1 (r + 1) (40 * d + s))) (r + 1) (40 * d + s) (-1)) := by
  rw [fX3_move, fX3_move_0, addN1, xLet_e, who_ok hd (by omega), bind_e, sput_ok hd hs, bind_e, sput_ok hd (by omega), bind_e]
theorem go_none {r d s : Nat} {m : xMem} (hd : d < 2) (hs : s < 40) (hv : m.1 (r + 1) (40 * d + s) = -1) : fX3_goesOn r (Int32.ofNat d) (Int32.ofNat s) m = some (0, m) := by
  rw [fX3_goesOn, fX3_goesOn_0, who_ok hd hs, bind_e, hv, if_pos rfl, fX3_goesOn_22, if_pos rfl, fX3_goesOn_32]
  rfl
theorem go_last {r d s : Nat} {m : xMem} (hd : d < 2) (hs : s < 40) (hv : ¬ m.1 (r + 1) (40 * d + s) = -1) (hL : m.1 r 4 = Int32.ofNat (s + 1)) : fX3_goesOn r (Int32.ofNat d) (Int32.ofNat s) m = some (1, m) := by
  rw [fX3_goesOn, fX3_goesOn_0, who_ok hd hs, bind_e, if_neg hv, hL, xLet_e, subN1, xLet_e, if_neg (by rw [ltN (by omega) (by omega)]; omega), fX3_goesOn_22, if_neg hv, fX3_goesOn_32]
  rfl
theorem go_std {r d s L : Nat} {m : xMem} (hd : d < 2) (hs : s + 1 < L) (h40 : L ≤ 40) (hv : m.1 (r + 1) (40 * d + s) = 1) (hL : m.1 r 4 = Int32.ofNat L) : fX3_goesOn r (Int32.ofNat d) (Int32.ofNat s) m = some (0, xPut (xPut m (r + 1) (40 * d + (s + 1)) 1) (r + 1) (40 * d + s) (-1)) := by
  obtain ⟨K, hK⟩ : ∃ K, L = K + 1 := ⟨L - 1, by omega⟩
  subst hK
  rw [fX3_goesOn, fX3_goesOn_0, who_ok hd (by omega), bind_e, hv, if_neg (show ¬ (1 : Int32) = -1 by decide), hL, xLet_e, subN1, xLet_e, if_pos (by rw [ltN (by omega) (by omega)]; omega), smove_ok hd (by omega), bind_e, hv, if_neg (show ¬ (10 : Int32) ≤ 1 by decide)]
theorem go_77 {r d s L : Nat} {m : xMem} (hs : s + 1 < L) (h40 : L ≤ 40) (hL : m.1 r 4 = Int32.ofNat L) : fX3_goesOn_77 r (Int32.ofNat d) (Int32.ofNat s) m = some (if s + 2 < L then 0 else 1, m) := by
  rw [fX3_goesOn_77, addN2, xLet_e, hL, xLet_e]
  by_cases h : s + 2 < L
  · rw [if_pos (by rw [ltN (by omega) (by omega)]; omega), fX3_goesOn_92, if_pos h]
    rfl
  · rw [if_neg (by rw [ltN (by omega) (by omega)]; omega), fX3_goesOn_92, if_neg h]
    rfl
theorem go_off {r d s : Nat} {m : xMem} (hd : d < 2) (h40 : s + 2 ≤ 40) (hv : m.1 (r + 1) (40 * d + s) = 11) (hL : m.1 r 4 = Int32.ofNat (s + 2)) : fX3_goesOn r (Int32.ofNat d) (Int32.ofNat s) m = some (1, xPut (xPut m (r + 1) (40 * d + (s + 1)) 11) (r + 1) (40 * d + s) (-1)) := by
  have hr : r ≠ r + 1 := by omega
  rw [fX3_goesOn, fX3_goesOn_0, who_ok hd (by omega), bind_e, hv, if_neg (show ¬ (11 : Int32) = -1 by decide), hL, xLet_e, subN1, xLet_e, if_pos (by rw [ltN (by omega) (by omega)]; omega), smove_ok hd (by omega), bind_e, hv, if_pos (show (10 : Int32) ≤ 11 by decide), addN2, xLet_e, put_ne hr, put_ne hr, hL, xLet_e, if_pos (by rw [leN (by omega) (by omega)]; omega), go_77 (L := s + 2) (by omega) h40 (by rw [put_ne hr, put_ne hr, hL]), if_neg (by omega)]
theorem go_blk {r d s L : Nat} {m : xMem} (hd : d < 2) (hs : s + 2 < L) (h40 : L ≤ 40) (hv : m.1 (r + 1) (40 * d + s) = 11) (hw : ¬ m.1 (r + 1) (40 * d + (s + 2)) = -1) (hL : m.1 r 4 = Int32.ofNat L) : fX3_goesOn r (Int32.ofNat d) (Int32.ofNat s) m = some (0, xPut (xPut m (r + 1) (40 * d + (s + 1)) 11) (r + 1) (40 * d + s) (-1)) := by
  have hr : r ≠ r + 1 := by omega
  obtain ⟨K, hK⟩ : ∃ K, L = K + 1 := ⟨L - 1, by omega⟩
  subst hK
  rw [fX3_goesOn, fX3_goesOn_0, who_ok hd (by omega), bind_e, hv, if_neg (show ¬ (11 : Int32) = -1 by decide), hL, xLet_e, subN1, xLet_e, if_pos (by rw [ltN (by omega) (by omega)]; omega), smove_ok hd (by omega), bind_e, hv, if_pos (show (10 : Int32) ≤ 11 by decide), addN2, xLet_e, put_ne hr, put_ne hr, hL, xLet_e, if_neg (by rw [leN (by omega) (by omega)]; omega), xLet_e, who_ok hd (by omega), bind_e, if_pos (by rw [put_nk (by omega), put_nk (by omega)]; exact hw), go_77 (L := K + 1) (by omega) h40 (by rw [put_ne hr, put_ne hr, hL]), if_pos hs]
theorem go_walk {r d s L : Nat} {m : xMem} (hd : d < 2) (hs : s + 2 < L) (h40 : L ≤ 40) (hv : m.1 (r + 1) (40 * d + s) = 11) (hw : m.1 (r + 1) (40 * d + (s + 2)) = -1) (hL : m.1 r 4 = Int32.ofNat L) : fX3_goesOn r (Int32.ofNat d) (Int32.ofNat s) m = some (0, xPut (xPut (xPut (xPut m (r + 1) (40 * d + (s + 1)) 11) (r + 1) (40 * d + s) (-1)) (r + 1) (40 * d + (s + 2)) 11) (r + 1) (40 * d + (s + 1)) (-1)) := by
  have hr : r ≠ r + 1 := by omega
  obtain ⟨K, hK⟩ : ∃ K, L = K + 1 := ⟨L - 1, by omega⟩
  subst hK
  rw [fX3_goesOn, fX3_goesOn_0, who_ok hd (by omega), bind_e, hv, if_neg (show ¬ (11 : Int32) = -1 by decide), hL, xLet_e, subN1, xLet_e, if_pos (by rw [ltN (by omega) (by omega)]; omega), smove_ok hd (by omega), bind_e, hv, if_pos (show (10 : Int32) ≤ 11 by decide), addN2, xLet_e, put_ne hr, put_ne hr, hL, xLet_e, if_neg (by rw [leN (by omega) (by omega)]; omega), xLet_e, who_ok hd (by omega), bind_e, if_neg (by rw [put_nk (by omega), put_nk (by omega)]; exact fun f => f hw), addN1, xLet_e, smove_ok hd (by omega), bind_e]
  dsimp only
  rw [put_nk (j := 40 * d + (s + 1)) (k := 40 * d + s) (by omega), put_at, go_77 (L := K + 1) (by omega) h40 (by rw [put_ne hr, put_ne hr, put_ne hr, put_ne hr, hL]), if_pos hs]
/-- who steps off at the head: of the station at 167 with its stair at 200 -/
theorem off_ok {d L : Nat} {v : Int32} {m : xMem} (hd : d < 2) (hL : L + 1 ≤ 40) (h4 : m.1 200 4 = Int32.ofNat (L + 1)) (hv : m.1 201 (40 * d + L) = v) (hv1 : v = 1 ∨ v = 11) (h6 : m.1 200 6 = 1) (h3 : m.1 200 3 = 1) : ∃ y, fX6_stepOff 250 167 200 (Int32.ofNat d) m = some (1, xPut (xPut (xPut (xPut m 201 (40 * d + L) (-1)) 200 9 (m.1 200 9 - 1)) 200 11 (m.1 200 11 + 1)) 167 12 y) := by
  have hn : ¬ v = -1 := by rcases hv1 with h | h <;> (rw [h]; decide)
  have hr : xRem v 10 = 1 := by rcases hv1 with h | h <;> (rw [h]; decide)
  have head : ∀ X : xMem, X.1 200 6 = 1 → X.1 200 3 = 1 → fX3_head 200 X = some (1, X) := by
    intro X x6 x3
    rw [fX3_head, fX3_head_0, x6, xLet_e, if_pos (by decide), x3, xLet_e, fX3_head_19]
  have adm : fX9_admits 167 1 1 m = some (1, m) := by
    rw [fX9_admits, fX9_admits_0, if_pos rfl, fX9_admits_34, fX9_admits_39]
    rfl
  rw [fX6_stepOff, fX6_stepOff_0, h4, xLet_e, subN1, xLet_e, who_ok hd (by omega), bind_e, show 200 + 1 = 201 from rfl, hv, if_pos hn, hr, xLet_e, head m h6 h3, bind_e, adm, bind_e, if_pos (show ¬ (1 : Int32) = 0 by decide), sput_ok hd (by omega), bind_e, xLet_e, xLet_e, xLet_e, xLet_e, xLet_e, xLet_e]
  rw [head _ (by rw [put_nk (by decide), put_nk (by decide), put_ne (by decide)]; exact h6) (by rw [put_nk (by decide), put_nk (by decide), put_ne (by decide)]; exact h3), bind_e, fX9_comeTo, fX9_comeTo_0, if_neg (fun f => f rfl), xLet_e, xLet_e, xLet_e, fX9_comeTo_40, bind_e]
  rw [put_nk (show 11 ≠ 9 by decide), show 200 + 1 = 201 from rfl, put_ne (show 200 ≠ 201 by decide), put_ne (show 200 ≠ 201 by decide)]
  exact ⟨_, Eq.refl _⟩
def enc (y x : Int32) : Prop := (y = 0 ∧ x = -1) ∨ (y = 1 ∧ x = 1) ∨ (y = 2 ∧ x = 11)
def RR (F G : Nat → Int32) : Prop := ∀ j, j < 80 → enc (G j) (F j)
def card (F : Nat → Int32) : Nat → Nat
  | 0 => 0
  | n + 1 => card F n + (if F n = -1 then 0 else 1)
theorem card_hi {F : Nat → Int32} {k : Nat} {v : Int32} : ∀ n, n ≤ k → card (upd F k v) n = card F n := by
  intro n
  induction n with
  | zero => intro _; rfl
  | succ n ih =>
    intro h
    show card (upd F k v) n + (if upd F k v n = -1 then 0 else 1) = card F n + (if F n = -1 then 0 else 1)
    rw [ih (by omega), upd_ne (by omega)]
theorem card_upd {F : Nat → Int32} {k : Nat} {v : Int32} : ∀ n, k < n → card (upd F k v) n + (if F k = -1 then 0 else 1) = card F n + (if v = -1 then 0 else 1) := by
  intro n
  induction n with
  | zero => intro h; omega
  | succ n ih =>
    intro h
    show card (upd F k v) n + (if upd F k v n = -1 then 0 else 1) + _ = card F n + (if F n = -1 then 0 else 1) + _
    by_cases q : n = k
    · subst q
      rw [card_hi n (Nat.le_refl n), upd_eq]
      omega
    · rw [upd_ne q]
      have := ih (by omega)
      omega
theorem card_move {F : Nat → Int32} {k i : Nat} {v : Int32} (hki : i ≠ k) (hk : k < 80) (hi : i < 80) (h1 : F k = -1) (h2 : ¬ F i = -1) (hv : ¬ v = -1) : card (upd (upd F k v) i (-1)) 80 = card F 80 := by
  have a := card_upd (F := upd F k v) (k := i) (v := -1) 80 hi
  have b := card_upd (F := F) (k := k) (v := v) 80 hk
  rw [upd_ne hki, if_neg h2, if_pos rfl] at a
  rw [if_pos h1, if_neg hv] at b
  omega
theorem card_off {F : Nat → Int32} {i : Nat} (hi : i < 80) (h2 : ¬ F i = -1) : card F 80 = card (upd F i (-1)) 80 + 1 := by
  have a := card_upd (F := F) (k := i) (v := -1) 80 hi
  rw [if_neg h2, if_pos rfl] at a
  omega
theorem card_on {F : Nat → Int32} {i : Nat} {v : Int32} (hi : i < 80) (h2 : F i = -1) (hv : ¬ v = -1) : card (upd F i v) 80 = card F 80 + 1 := by
  have a := card_upd (F := F) (k := i) (v := v) 80 hi
  rw [if_pos h2, if_neg hv] at a
  omega
theorem card_zero {F : Nat → Int32} : ∀ n, card F n = 0 → ∀ j, j < n → F j = -1 := by
  intro n
  induction n with
  | zero => intro _ j h; omega
  | succ n ih =>
    intro h j hj
    have h : card F n + (if F n = -1 then 0 else 1) = 0 := h
    by_cases q : F n = -1
    · by_cases e : j = n
      · rw [e]; exact q
      · exact ih (by omega) j (by omega)
    · rw [if_neg q] at h
      omega
theorem card_le {F : Nat → Int32} : ∀ n, card F n ≤ n := by
  intro n
  induction n with
  | zero => exact Nat.le_refl 0
  | succ n ih =>
    show card F n + (if F n = -1 then 0 else 1) ≤ n + 1
    by_cases q : F n = -1
    · rw [if_pos q]; omega
    · rw [if_neg q]; omega
theorem RR_upd {F G : Nat → Int32} {k : Nat} {y x : Int32} (h : RR F G) (e : enc y x) : RR (upd F k x) (upd G k y) := by
  intro j hj
  by_cases q : j = k
  · subst q
    rw [upd_eq, upd_eq]
    exact e
  · rw [upd_ne q, upd_ne q]
    exact h j hj
theorem upd_swap {F : Nat → Int32} {k i : Nat} {x y : Int32} (h : i ≠ k) : upd (upd F k x) i y = upd (upd F i y) k x := by
  funext j
  by_cases q : j = i
  · subst q
    rw [upd_eq, upd_ne h, upd_eq]
  · rw [upd_ne q]
    by_cases q2 : j = k
    · subst q2
      rw [upd_eq, upd_eq]
    · rw [upd_ne q2, upd_ne q2, upd_ne q]
theorem upd_same {F : Nat → Int32} {k : Nat} {x : Int32} (h : F k = x) : upd F k x = F := by
  funext j
  by_cases q : j = k
  · subst q
    rw [upd_eq, h]
  · rw [upd_ne q]
theorem upd_twice {F : Nat → Int32} {k : Nat} {x y : Int32} : upd (upd F k x) k y = upd F k y := by
  funext j
  by_cases q : j = k
  · subst q
    rw [upd_eq, upd_eq]
  · rw [upd_ne q, upd_ne q, upd_ne q]
theorem RR_swap {F G : Nat → Int32} {k i : Nat} {y x : Int32} (h : RR F G) (e : enc y x) (hki : i ≠ k) : RR (upd (upd F k x) i (-1)) (upd (upd G i 0) k y) := by
  rw [upd_swap hki]
  exact RR_upd (RR_upd h (Or.inl ⟨rfl, rfl⟩)) e
theorem walk_row {F : Nat → Int32} {i : Nat} (h : F (i + 1) = -1) : upd (upd (upd (upd F (i + 1) 11) i (-1)) (i + 2) 11) (i + 1) (-1) = upd (upd F (i + 2) 11) i (-1) := by
  rw [upd_swap (F := upd (upd F (i + 1) 11) i (-1)) (k := i + 2) (i := i + 1) (by omega), upd_swap (F := upd F (i + 1) 11) (k := i) (i := i + 1) (by omega), upd_twice, upd_same h, upd_swap (k := i) (i := i + 2) (by omega)]
theorem woff_row {F : Nat → Int32} {i : Nat} {v : Int32} (h : F (i + 1) = -1) : upd (upd (upd F (i + 1) v) i (-1)) (i + 1) (-1) = upd F i (-1) := by
  rw [upd_swap (F := upd F (i + 1) v) (k := i) (i := i + 1) (by omega), upd_twice, upd_same h]
def AlS (L : Nat) (md : Int32) (m : xMem) : Prop := m.1 167 7 = 2 ∧ m.1 167 8 = 1 ∧ m.1 200 1 = 0 ∧ m.1 200 2 = 0 ∧ m.1 200 3 = 1 ∧ m.1 200 4 = Int32.ofNat L ∧ m.1 200 6 = 1 ∧ m.1 200 7 = 1 ∧ m.1 200 8 = md ∧ m.1 200 12 = 1 ∧ m.1 200 13 = 0 ∧ m.1 252 1 = 0 ∧ (∀ k, k < 6 → k ≠ 1 → m.1 183 k = 0)
theorem put_out {m : xMem} {a k b j : Nat} {x : Int32} (h : ¬ (b = a ∧ j = k)) : (xPut m a k x).1 b j = m.1 b j := if_neg h
theorem AlS_put {L : Nat} {md : Int32} {m : xMem} {a k : Nat} {x : Int32} (h : AlS L md m) (hd : a = 201 ∨ (a = 200 ∧ (k = 9 ∨ k = 10 ∨ k = 11)) ∨ (a = 183 ∧ k = 1) ∨ a = 182 ∨ (a = 167 ∧ k = 12)) : AlS L md (xPut m a k x) := by
  obtain ⟨h1, h2, h3, h4, h5, h6, h7, h8, h9, h10, h11, h12, h13⟩ := h
  refine ⟨?_, ?_, ?_, ?_, ?_, ?_, ?_, ?_, ?_, ?_, ?_, ?_, ?_⟩
  · rw [put_out (by omega)]; exact h1
  · rw [put_out (by omega)]; exact h2
  · rw [put_out (by omega)]; exact h3
  · rw [put_out (by omega)]; exact h4
  · rw [put_out (by omega)]; exact h5
  · rw [put_out (by omega)]; exact h6
  · rw [put_out (by omega)]; exact h7
  · rw [put_out (by omega)]; exact h8
  · rw [put_out (by omega)]; exact h9
  · rw [put_out (by omega)]; exact h10
  · rw [put_out (by omega)]; exact h11
  · rw [put_out (by omega)]; exact h12
  · intro j hj hn
    rw [put_out (by omega)]
    exact h13 j hj hn
def AlM (L : Nat) (md c R off : Int32) (m q : xMem) : Prop := AlS L md m ∧ RR (m.1 201) (q.1 314) ∧ m.1 200 9 = Int32.ofNat (card (m.1 201) 80) ∧ m.1 200 10 = c ∧ m.1 183 1 = R ∧ m.1 182 4 = R ∧ m.1 200 11 = off
/-- two cells of the steps changed, the number the same -/
theorem AlM_two {L : Nat} {md c R off : Int32} {m q q' : xMem} {k i : Nat} {y x : Int32} (h : AlM L md c R off m q) (hq : q'.1 314 = upd (upd (q.1 314) i 0) k y) (hki : i ≠ k) (hk : k < 80) (hi : i < 80) (h1 : m.1 201 k = -1) (h2 : ¬ m.1 201 i = -1) (hv : ¬ x = -1) (e : enc y x) : AlM L md c R off (xPut (xPut m 201 k x) 201 i (-1)) q' := by
  obtain ⟨s, r, n, a, b1, b2, o⟩ := h
  have hrow : (xPut (xPut m 201 k x) 201 i (-1)).1 201 = upd (upd (m.1 201) k x) i (-1) := by rw [put_upd, put_upd]
  refine ⟨AlS_put (AlS_put s (Or.inl rfl)) (Or.inl rfl), ?_, ?_, ?_, ?_, ?_, ?_⟩
  · rw [hrow, hq]
    exact RR_swap r e hki
  · rw [hrow, card_move hki hk hi h1 h2 hv, put_ne (by decide), put_ne (by decide)]
    exact n
  · rw [put_ne (by decide), put_ne (by decide)]; exact a
  · rw [put_ne (by decide), put_ne (by decide)]; exact b1
  · rw [put_ne (by decide), put_ne (by decide)]; exact b2
  · rw [put_ne (by decide), put_ne (by decide)]; exact o
/-- one is off -/
theorem AlM_off {L : Nat} {md c R off : Int32} {m m1 q : xMem} {k i : Nat} {y : Int32} (h : AlM L md c R off m q) (hi : i < 80) (h2 : ¬ m.1 201 i = -1) (hs : AlS L md m1) (hr : ∀ b, b ≠ 201 → m1.1 b = m.1 b) (hrow : upd (m1.1 201) k (-1) = upd (m.1 201) i (-1)) : AlM L md c R (off + 1) (xPut (xPut (xPut (xPut m1 201 k (-1)) 200 9 (m1.1 200 9 - 1)) 200 11 (m1.1 200 11 + 1)) 167 12 y) (xPut q 314 i 0) := by
  obtain ⟨s, r, n, a, b1, b2, o⟩ := h
  have e : (xPut (xPut (xPut (xPut m1 201 k (-1)) 200 9 (m1.1 200 9 - 1)) 200 11 (m1.1 200 11 + 1)) 167 12 y).1 201 = upd (m.1 201) i (-1) := by
    rw [put_row (by decide), put_row (by decide), put_row (by decide), put_upd, hrow]
  refine ⟨AlS_put (AlS_put (AlS_put (AlS_put hs (by omega)) (by omega)) (by omega)) (by omega), ?_, ?_, ?_, ?_, ?_, ?_⟩
  · rw [e, put_upd]
    exact RR_upd r (Or.inl ⟨rfl, rfl⟩)
  · rw [e, put_ne (by decide), put_nk (by decide), put_at, hr 200 (by decide), n, card_off hi h2, subN1]
  · rw [put_ne (by decide), put_nk (by decide), put_nk (by decide), put_ne (by decide), hr 200 (by decide)]; exact a
  · rw [put_ne (by decide), put_ne (by decide), put_ne (by decide), put_ne (by decide), hr 183 (by decide)]; exact b1
  · rw [put_ne (by decide), put_ne (by decide), put_ne (by decide), put_ne (by decide), hr 182 (by decide)]; exact b2
  · rw [put_ne (by decide), put_at, hr 200 (by decide), o]
theorem u80 : ∀ d, d < 2 → ∀ s, s < 40 → xIn (40 * Int32.ofNat d + Int32.ofNat s) 80 = true ∧ (40 * Int32.ofNat d + Int32.ofNat s).toNatClampNeg = 40 * d + s := by decide +kernel
theorem nonneg {e : Nat} (h : e < 2 ^ 31) : ¬ Int32.ofNat e < 0 := by
  rw [← of0, ltN h (by omega)]
  omega
theorem ref_none {n d s : Nat} {Li o : Int32} {q : xMem} (hd : d < 2) (hs : s < 40) (hv : q.1 314 (40 * d + s) = 0) : fX12_loneMoves_7 291 Li (Int32.ofNat d) (n + 1) o (Int32.ofNat s) q = fX12_loneMoves_7 291 Li (Int32.ofNat d) n o (Int32.ofNat s - 1) (xPut q 314 (40 * d + s) 0) := by
  obtain ⟨u1, u2⟩ := u80 d hd s hs
  rw [fX12_loneMoves_7, if_neg (nonneg (by omega)), xLet_e, xLet_e, u1, cond_e, u2, show 291 + 23 = 314 from rfl, hv, xLet_e, cond_e, xLet_e, if_pos (by decide), fX12_loneMoves_58, if_pos (by decide), fX12_loneMoves_101, xLet_e, Int32.add_neg_eq_sub]
theorem ref_off {n d s L : Nat} {v o : Int32} {q : xMem} (hd : d < 2) (hs : s < 40) (hv : q.1 314 (40 * d + s) = v) (h0 : ¬ v ≤ 0) (hw : ¬ Int32.ofNat s + v < Int32.ofNat L) : fX12_loneMoves_7 291 (Int32.ofNat L) (Int32.ofNat d) (n + 1) o (Int32.ofNat s) q = fX12_loneMoves_7 291 (Int32.ofNat L) (Int32.ofNat d) n (o + 1) (Int32.ofNat s - 1) (xPut q 314 (40 * d + s) 0) := by
  obtain ⟨u1, u2⟩ := u80 d hd s hs
  rw [fX12_loneMoves_7, if_neg (nonneg (by omega)), xLet_e, xLet_e, u1, cond_e, u2, show 291 + 23 = 314 from rfl, hv, xLet_e, cond_e, xLet_e, if_neg h0, xLet_e, if_neg hw, xLet_e, fX12_loneMoves_101, xLet_e, Int32.add_neg_eq_sub]
theorem ref_one {n d s L : Nat} {o : Int32} {q : xMem} (hd : d < 2) (hs : s + 1 < L) (hL : L ≤ 40) (hv : q.1 314 (40 * d + s) = 1) : fX12_loneMoves_7 291 (Int32.ofNat L) (Int32.ofNat d) (n + 1) o (Int32.ofNat s) q = fX12_loneMoves_7 291 (Int32.ofNat L) (Int32.ofNat d) n o (Int32.ofNat s - 1) (xPut (xPut q 314 (40 * d + s) 0) 314 (40 * d + (s + 1)) 1) := by
  obtain ⟨u1, u2⟩ := u80 d hd s (by omega)
  obtain ⟨v1, v2⟩ := u80 d hd (s + 1) (by omega)
  rw [fX12_loneMoves_7, if_neg (nonneg (by omega)), xLet_e, xLet_e, u1, cond_e, u2, show 291 + 23 = 314 from rfl, hv, xLet_e, cond_e, xLet_e, if_neg (by decide), xLet_e, if_pos (by rw [addN1, ltN (by omega) (by omega)]; exact hs), fX12_loneMoves_58, if_neg (by decide), if_pos (by decide), fX12_loneMoves_85, fX12_loneMoves_87, Int32.add_assoc, addN1, xLet_e, v1, cond_e, v2, show 291 + 23 = 314 from rfl, xLet_e, fX12_loneMoves_101, xLet_e, Int32.add_neg_eq_sub]
theorem ref_two {n d s L : Nat} {o : Int32} {q : xMem} (hd : d < 2) (hs : s + 2 < L) (hL : L ≤ 40) (hv : q.1 314 (40 * d + s) = 2) (hw : q.1 314 (40 * d + (s + 2)) ≤ 0) : fX12_loneMoves_7 291 (Int32.ofNat L) (Int32.ofNat d) (n + 1) o (Int32.ofNat s) q = fX12_loneMoves_7 291 (Int32.ofNat L) (Int32.ofNat d) n o (Int32.ofNat s - 1) (xPut (xPut q 314 (40 * d + s) 0) 314 (40 * d + (s + 2)) 2) := by
  obtain ⟨u1, u2⟩ := u80 d hd s (by omega)
  obtain ⟨v1, v2⟩ := u80 d hd (s + 2) (by omega)
  rw [fX12_loneMoves_7, if_neg (nonneg (by omega)), xLet_e, xLet_e, u1, cond_e, u2, show 291 + 23 = 314 from rfl, hv, xLet_e, cond_e, xLet_e, if_neg (by decide), xLet_e, if_pos (by rw [addN2, ltN (by omega) (by omega)]; exact hs), fX12_loneMoves_58, if_neg (by decide), if_neg (by decide), Int32.add_assoc, addN2, xLet_e, v1, cond_e, v2, show 291 + 23 = 314 from rfl, put_nk (by omega), xLet_e, if_pos hw, fX12_loneMoves_85, fX12_loneMoves_87, Int32.add_assoc, addN2, xLet_e, v1, cond_e, v2, show 291 + 23 = 314 from rfl, xLet_e, fX12_loneMoves_101, xLet_e, Int32.add_neg_eq_sub]
theorem ref_blk {n d s L : Nat} {o : Int32} {q : xMem} (hd : d < 2) (hs : s + 2 < L) (hL : L ≤ 40) (hv : q.1 314 (40 * d + s) = 2) (hw : ¬ q.1 314 (40 * d + (s + 2)) ≤ 0) : fX12_loneMoves_7 291 (Int32.ofNat L) (Int32.ofNat d) (n + 1) o (Int32.ofNat s) q = fX12_loneMoves_7 291 (Int32.ofNat L) (Int32.ofNat d) n o (Int32.ofNat s - 1) (xPut (xPut q 314 (40 * d + s) 0) 314 (40 * d + (s + 1)) 2) := by
  obtain ⟨u1, u2⟩ := u80 d hd s (by omega)
  obtain ⟨v1, v2⟩ := u80 d hd (s + 2) (by omega)
  obtain ⟨w1, w2⟩ := u80 d hd (s + 1) (by omega)
  rw [fX12_loneMoves_7, if_neg (nonneg (by omega)), xLet_e, xLet_e, u1, cond_e, u2, show 291 + 23 = 314 from rfl, hv, xLet_e, cond_e, xLet_e, if_neg (by decide), xLet_e, if_pos (by rw [addN2, ltN (by omega) (by omega)]; exact hs), fX12_loneMoves_58, if_neg (by decide), if_neg (by decide), Int32.add_assoc, addN2, xLet_e, v1, cond_e, v2, show 291 + 23 = 314 from rfl, put_nk (by omega), xLet_e, if_neg hw, fX12_loneMoves_87, Int32.add_assoc, addN1, xLet_e, w1, cond_e, w2, show 291 + 23 = 314 from rfl, xLet_e, fX12_loneMoves_101, xLet_e, Int32.add_neg_eq_sub]
theorem cls_0 {n d s : Nat} {rec24 : Int32 → xMem → Option xMem} {m m1 : xMem} (hs : s < 40) (h : fX3_goesOn 200 (Int32.ofNat d) (Int32.ofNat s) m = some (0, m1)) : fX6_moveStair_37 250 167 200 rec24 (n + 1) (Int32.ofNat d) (Int32.ofNat s) m = fX6_moveStair_37 250 167 200 rec24 n (Int32.ofNat d) (Int32.ofNat s - 1) m1 := by
  rw [fX6_moveStair_37, if_neg (nonneg (by omega)), h, bind_e, if_pos rfl, fX6_moveStair_78, xLet_e, Int32.add_neg_eq_sub]
theorem cls_1 {n d s : Nat} {rec24 : Int32 → xMem → Option xMem} {m m1 m2 : xMem} (hs : s < 40) (h : fX3_goesOn 200 (Int32.ofNat d) (Int32.ofNat s) m = some (1, m1)) (h2 : fX6_stepOff 250 167 200 (Int32.ofNat d) m1 = some (1, m2)) : fX6_moveStair_37 250 167 200 rec24 (n + 1) (Int32.ofNat d) (Int32.ofNat s) m = fX6_moveStair_37 250 167 200 rec24 n (Int32.ofNat d) (Int32.ofNat s - 1) m2 := by
  rw [fX6_moveStair_37, if_neg (nonneg (by omega)), h, bind_e, if_neg (show ¬ (1 : Int32) = 0 by decide), h2, bind_e, if_pos (show ¬ (1 : Int32) = 0 by decide), fX6_moveStair_78, xLet_e, Int32.add_neg_eq_sub]
theorem side_sim {L d : Nat} (hL2 : 2 ≤ L) (hL : L ≤ 40) (hd : d < 2) {md c R base : Int32} : ∀ (e n1 n2 : Nat) (m q : xMem) (o : Int32), e ≤ L → AlM L md c R (base + o) m q → (e < L → m.1 201 (40 * d + e) = -1) → ∃ m' q' o', (∀ rec24, fX6_moveStair_37 250 167 200 rec24 (n1 + 1 + e) (Int32.ofNat d) (Int32.ofNat e - 1) m = rec24 (Int32.ofNat d + 1) m') ∧ fX12_loneMoves_7 291 (Int32.ofNat L) (Int32.ofNat d) (n2 + 1 + e) o (Int32.ofNat e - 1) q = some (o', q') ∧ AlM L md c R (base + o') m' q' := by
  intro e
  induction e with
  | zero =>
    intro n1 n2 m q o _ hA _
    refine ⟨m, q, o, ?_, ?_, hA⟩
    · intro rec24
      rw [fX6_moveStair_37, if_pos (by decide), xLet_e]
    · rw [fX12_loneMoves_7, if_pos (by decide)]
  | succ e ih =>
    intro n1 n2 m q o he hA hfree
    rw [subN1, show n1 + 1 + (e + 1) = n1 + 1 + e + 1 from rfl, show n2 + 1 + (e + 1) = n2 + 1 + e + 1 from rfl]
    have hi : 40 * d + e < 80 := by omega
    have h4 : m.1 200 4 = Int32.ofNat L := hA.1.2.2.2.2.2.1
    have h6 : m.1 200 6 = 1 := hA.1.2.2.2.2.2.2.1
    have h3 : m.1 200 3 = 1 := hA.1.2.2.2.2.1
    have key : ∀ (m1 q1 : xMem) (o1 : Int32), (∀ rec24, fX6_moveStair_37 250 167 200 rec24 (n1 + 1 + e + 1) (Int32.ofNat d) (Int32.ofNat e) m = fX6_moveStair_37 250 167 200 rec24 (n1 + 1 + e) (Int32.ofNat d) (Int32.ofNat e - 1) m1) → fX12_loneMoves_7 291 (Int32.ofNat L) (Int32.ofNat d) (n2 + 1 + e + 1) o (Int32.ofNat e) q = fX12_loneMoves_7 291 (Int32.ofNat L) (Int32.ofNat d) (n2 + 1 + e) o1 (Int32.ofNat e - 1) q1 → AlM L md c R (base + o1) m1 q1 → m1.1 201 (40 * d + e) = -1 → ∃ m' q' o', (∀ rec24, fX6_moveStair_37 250 167 200 rec24 (n1 + 1 + e + 1) (Int32.ofNat d) (Int32.ofNat e) m = rec24 (Int32.ofNat d + 1) m') ∧ fX12_loneMoves_7 291 (Int32.ofNat L) (Int32.ofNat d) (n2 + 1 + e + 1) o (Int32.ofNat e) q = some (o', q') ∧ AlM L md c R (base + o') m' q' := by
      intro m1 q1 o1 e1 e2 hA1 hf1
      obtain ⟨m', q', o', g1, g2, g3⟩ := ih n1 n2 m1 q1 o1 (by omega) hA1 (fun _ => hf1)
      exact ⟨m', q', o', fun rec24 => (e1 rec24).trans (g1 rec24), e2.trans g2, g3⟩
    rcases hA.2.1 (40 * d + e) hi with ⟨hg, hf⟩ | ⟨hg, hf⟩ | ⟨hg, hf⟩
    · -- nobody
      refine key m (xPut q 314 (40 * d + e) 0) o (fun rec24 => cls_0 (by omega) (go_none hd (by omega) hf)) (ref_none hd (by omega) hg) ?_ hf
      obtain ⟨s, r, n, a, b1, b2, oo⟩ := hA
      refine ⟨s, ?_, n, a, b1, b2, oo⟩
      rw [put_upd, upd_same hg]
      exact r
    · -- one stands
      have hn : ¬ m.1 201 (40 * d + e) = -1 := by rw [hf]; decide
      by_cases hl : e + 1 = L
      · subst hl
        obtain ⟨y, hy⟩ := off_ok (v := 1) hd hL h4 hf (Or.inl rfl) h6 h3
        refine key _ _ (o + 1) (fun rec24 => cls_1 (by omega) (go_last hd (by omega) hn h4) hy) (ref_off hd (by omega) hg (by decide) (by rw [addN1, ltN (by omega) (by omega)]; omega)) ?_ ?_
        · rw [← Int32.add_assoc]
          exact AlM_off hA hi hn hA.1 (fun _ _ => rfl) rfl
        · rw [put_ne (by decide), put_ne (by decide), put_ne (by decide), put_at]
      · have hlt : e + 1 < L := by omega
        have hfr := hfree hlt
        refine key _ _ o (fun rec24 => cls_0 (by omega) (go_std hd hlt hL hf h4)) (ref_one hd hlt hL hg) ?_ put_at
        refine AlM_two (y := 1) hA ?_ (by omega) (by omega) hi hfr hn (by decide) (Or.inr (Or.inl ⟨rfl, rfl⟩))
        rw [put_upd, put_upd]
    · -- one walks
      have hn : ¬ m.1 201 (40 * d + e) = -1 := by rw [hf]; decide
      by_cases hl : e + 1 = L
      · subst hl
        obtain ⟨y, hy⟩ := off_ok (v := 11) hd hL h4 hf (Or.inr rfl) h6 h3
        refine key _ _ (o + 1) (fun rec24 => cls_1 (by omega) (go_last hd (by omega) hn h4) hy) (ref_off hd (by omega) hg (by decide) (by rw [addN2, ltN (by omega) (by omega)]; omega)) ?_ ?_
        · rw [← Int32.add_assoc]
          exact AlM_off hA hi hn hA.1 (fun _ _ => rfl) rfl
        · rw [put_ne (by decide), put_ne (by decide), put_ne (by decide), put_at]
      · have hlt : e + 1 < L := by omega
        have hfr : m.1 201 (40 * d + e + 1) = -1 := hfree hlt
        by_cases hl2 : e + 2 = L
        · subst hl2
          have hS1 : AlS (e + 2) md (xPut (xPut m 201 (40 * d + (e + 1)) 11) 201 (40 * d + e) (-1)) := AlS_put (AlS_put hA.1 (Or.inl rfl)) (Or.inl rfl)
          obtain ⟨y, hy⟩ := off_ok (d := d) (L := e + 1) (v := 11) (m := xPut (xPut m 201 (40 * d + (e + 1)) 11) 201 (40 * d + e) (-1)) hd hL hS1.2.2.2.2.2.1 (by rw [put_nk (by omega), put_at]) (Or.inr rfl) hS1.2.2.2.2.2.2.1 hS1.2.2.2.2.1
          refine key _ _ (o + 1) (fun rec24 => cls_1 (by omega) (go_off hd hL hf h4) hy) (ref_off hd (by omega) hg (by decide) (by rw [addN2, ltN (by omega) (by omega)]; omega)) ?_ ?_
          · rw [← Int32.add_assoc]
            refine AlM_off (k := 40 * d + (e + 1)) hA hi hn hS1 (fun b hb => by rw [put_row hb, put_row hb]) ?_
            rw [put_upd, put_upd]
            exact woff_row hfr
          · rw [put_ne (by decide), put_ne (by decide), put_ne (by decide), put_nk (by omega), put_at]
        · have hlt2 : e + 2 < L := by omega
          rcases hA.2.1 (40 * d + (e + 2)) (by omega) with ⟨wg, wf⟩ | ⟨wg, wf⟩ | ⟨wg, wf⟩
          · have em : xPut (xPut (xPut (xPut m 201 (40 * d + (e + 1)) 11) 201 (40 * d + e) (-1)) 201 (40 * d + (e + 2)) 11) 201 (40 * d + (e + 1)) (-1) = xPut (xPut m 201 (40 * d + (e + 2)) 11) 201 (40 * d + e) (-1) := by
              refine Prod.ext ?_ rfl
              funext b
              by_cases hb : b = 201
              · subst hb
                rw [put_upd, put_upd, put_upd, put_upd, put_upd, put_upd]
                exact walk_row hfr
              · rw [put_row hb, put_row hb, put_row hb, put_row hb, put_row hb, put_row hb]
            refine key _ _ o (fun rec24 => cls_0 (by omega) ((go_walk hd hlt2 hL hf wf h4).trans (by rw [show 200 + 1 = 201 from rfl, em]))) (ref_two hd hlt2 hL hg (by rw [wg]; decide)) ?_ put_at
            refine AlM_two (y := 2) hA ?_ (by omega) (by omega) hi wf hn (by decide) (Or.inr (Or.inr ⟨rfl, rfl⟩))
            rw [put_upd, put_upd]
          · refine key _ _ o (fun rec24 => cls_0 (by omega) (go_blk hd hlt2 hL hf (by show ¬ m.1 201 _ = -1; rw [wf]; decide) h4)) (ref_blk hd hlt2 hL hg (by rw [wg]; decide)) ?_ put_at
            refine AlM_two (y := 2) hA ?_ (by omega) (by omega) hi hfr hn (by decide) (Or.inr (Or.inr ⟨rfl, rfl⟩))
            rw [put_upd, put_upd]
          · refine key _ _ o (fun rec24 => cls_0 (by omega) (go_blk hd hlt2 hL hf (by show ¬ m.1 201 _ = -1; rw [wf]; decide) h4)) (ref_blk hd hlt2 hL hg (by rw [wg]; decide)) ?_ put_at
            refine AlM_two (y := 2) hA ?_ (by omega) (by omega) hi hfr hn (by decide) (Or.inr (Or.inr ⟨rfl, rfl⟩))
            rw [put_upd, put_upd]
/-- with nobody on it the reference's side leaves the steps -/
theorem lone_none {L d : Nat} (hL : L ≤ 40) (hd : d < 2) : ∀ (e n : Nat) (q : xMem) (o : Int32), e ≤ L → (∀ j, j < 80 → q.1 314 j = 0) → ∃ q', fX12_loneMoves_7 291 (Int32.ofNat L) (Int32.ofNat d) (n + 1 + e) o (Int32.ofNat e - 1) q = some (o, q') ∧ ∀ j, j < 80 → q'.1 314 j = 0 := by
  intro e
  induction e with
  | zero =>
    intro n q o _ hz
    exact ⟨q, by rw [fX12_loneMoves_7, if_pos (by decide)], hz⟩
  | succ e ih =>
    intro n q o he hz
    rw [subN1, show n + 1 + (e + 1) = n + 1 + e + 1 from rfl, ref_none hd (by omega) (hz _ (by omega))]
    refine ih n _ o (by omega) ?_
    intro j hj
    rw [put_upd, upd_same (hz _ (by omega))]
    exact hz j hj
/-- a stair's move: both sides -/
theorem move_sim {L : Nat} (hL2 : 2 ≤ L) (hL : L ≤ 40) {md c R off : Int32} {m q : xMem} (hA : AlM L md c R off m q) : ∃ m' q1 q' o1 o2, fX6_moveStair 250 167 200 m = some m' ∧ fX12_loneMoves 291 (Int32.ofNat L) 0 q = some (o1, q1) ∧ fX12_loneMoves 291 (Int32.ofNat L) 1 q1 = some (o2, q') ∧ AlM L md c R (off + (o1 + o2)) m' q' := by
  obtain ⟨nL, hnL⟩ := fuE L (by omega)
  obtain ⟨n2, hn2⟩ := fuE 2 (by omega)
  have lone : ∀ (d : Nat) (X : xMem), fX12_loneMoves 291 (Int32.ofNat L) (Int32.ofNat d) X = fX12_loneMoves_7 291 (Int32.ofNat L) (Int32.ofNat d) (nL + 1 + L) 0 (Int32.ofNat L - 1) X := by
    intro d X
    rw [fX12_loneMoves, fX12_loneMoves_0, xLet_e, hnL]
  have hgo : m.1 200 12 = 1 := hA.1.2.2.2.2.2.2.2.2.2.1
  have htr : m.1 200 13 = 0 := hA.1.2.2.2.2.2.2.2.2.2.2.1
  have h4 : m.1 200 4 = Int32.ofNat L := hA.1.2.2.2.2.2.1
  by_cases hc : m.1 200 9 = 0
  · have hz : card (m.1 201) 80 = 0 := by
      have h1 := hA.2.2.1
      rw [hc, ← of0] at h1
      have h2 := congrArg Int32.toInt h1
      have h3 := card_le (F := m.1 201) 80
      rw [Int32.toInt_ofNat_of_lt (by omega), Int32.toInt_ofNat_of_lt (by omega)] at h2
      omega
    have hf := card_zero (F := m.1 201) 80 hz
    have hg : ∀ j, j < 80 → q.1 314 j = 0 := by
      intro j hj
      rcases hA.2.1 j hj with ⟨g, _⟩ | ⟨_, f⟩ | ⟨_, f⟩
      · exact g
      · rw [hf j hj] at f; exact absurd f (by decide)
      · rw [hf j hj] at f; exact absurd f (by decide)
    obtain ⟨q1, e1, g1⟩ := lone_none (d := 0) hL (by omega) L nL q 0 (Nat.le_refl L) hg
    obtain ⟨q', e2, g2⟩ := lone_none (d := 1) hL (by omega) L nL q1 0 (Nat.le_refl L) g1
    refine ⟨m, q1, q', 0, 0, ?_, (lone 0 q).trans e1, (lone 1 q1).trans e2, ?_⟩
    · rw [fX6_moveStair, fX6_moveStair_0, hgo, xLet_e, if_neg (by decide), htr, xLet_e, if_neg (by decide), hc, xLet_e, if_neg (by decide), fX6_moveStair_21]
    · obtain ⟨s, r, n, a, b1, b2, oo⟩ := hA
      refine ⟨s, ?_, n, a, b1, b2, by rw [oo, Int32.add_zero, Int32.add_zero]⟩
      intro j hj
      exact Or.inl ⟨g2 j hj, hf j hj⟩
  · have hA0 : AlM L md c R (off + 0) m q := by rw [Int32.add_zero]; exact hA
    obtain ⟨m1, q1, o1, f1, e1, hA1⟩ := side_sim (d := 0) hL2 hL (by omega) L nL nL m q 0 (Nat.le_refl L) hA0 (fun h => absurd h (Nat.lt_irrefl L))
    have hA1' : AlM L md c R (off + o1 + 0) m1 q1 := by rw [Int32.add_zero]; exact hA1
    obtain ⟨m2, q2, o2, f2, e2, hA2⟩ := side_sim (d := 1) hL2 hL (by omega) L nL nL m1 q1 0 (Nat.le_refl L) hA1' (fun h => absurd h (Nat.lt_irrefl L))
    refine ⟨m2, q1, q2, o1, o2, ?_, (lone 0 q).trans e1, (lone 1 q1).trans e2, by rw [← Int32.add_assoc]; exact hA2⟩
    have h41 : m1.1 200 4 = Int32.ofNat L := hA1.1.2.2.2.2.2.1
    have l1 : (0 : Int32) = Int32.ofNat 0 := rfl
    have l2 : Int32.ofNat 0 + 1 = Int32.ofNat 1 := rfl
    have l3 : (2 : Int32) ≤ Int32.ofNat 1 + 1 := by decide
    rw [fX6_moveStair, fX6_moveStair_0, hgo, xLet_e, if_neg (by decide), htr, xLet_e, if_neg (by decide), xLet_e, if_pos hc, hn2, show n2 + 1 + 2 = n2 + 1 + 1 + 1 from rfl, fX6_moveStair_24, if_neg (by decide), h4, xLet_e, xLet_e, hnL, l1, f1, l2, fX6_moveStair_24, if_neg (by decide), h41, xLet_e, xLet_e, hnL, f2, fX6_moveStair_24, if_pos l3]
theorem g6 : ∀ g, g < 6 → ¬ (0 : Int32) * 6 + Int32.ofNat g < 0 ∧ ¬ 12 ≤ (0 : Int32) * 6 + Int32.ofNat g ∧ xIn ((0 : Int32) * 6 + Int32.ofNat g) 12 = true ∧ ((0 : Int32) * 6 + Int32.ofNat g).toNatClampNeg = g := by decide
theorem wait_ok {g : Nat} (hg : g < 6) {m : xMem} : fX2_waiting 182 (Int32.ofNat g) 0 m = some (m.1 183 g, m) := by
  obtain ⟨h1, h2, h3, h4⟩ := g6 g hg
  rw [fX2_waiting, fX2_waiting_0, xLet_e, xLet_e, if_neg h1, if_neg h2, h3, cond_e, h4, xLet_e, fX2_waiting_30]
theorem goal_skip {g n : Nat} (hg : g < 6) {m : xMem} {l5 l6 : Int32} (h : m.1 183 g ≤ l6) : fX6_goalOfMost_31 250 167 0 0 0 (n + 1) l5 l6 (Int32.ofNat g) m = fX6_goalOfMost_31 250 167 0 0 0 n l5 l6 (Int32.ofNat (g + 1)) m := by
  rw [fX6_goalOfMost_31, if_neg (k6 g hg).1, show xIn (0 : Int32) 6 = true by decide, cond_e, cl0, xLet_e, show 167 + 15 + 3 * 0 = 182 from rfl, wait_ok hg, bind_e, if_pos h, fX6_goalOfMost_84, xLet_e, addN1]
theorem hasH {m : xMem} (h : m.1 167 7 = 2) : fX9_hasHall 167 0 m = some (1, m) := by
  rw [fX9_hasHall, fX9_hasHall_0, if_neg (by decide), h, xLet_e, if_neg (by decide), if_neg (by decide), fX9_hasHall_23]
  rfl
theorem goal_one {L R : Nat} {md : Int32} {m : xMem} (hS : AlS L md m) (h1 : m.1 183 1 = Int32.ofNat R) (h4 : m.1 182 4 = Int32.ofNat R) (hR : 1 ≤ R) (hR2 : R ≤ 1998) : fX6_goalOfMost 250 167 0 0 0 m = some (1, m) := by
  obtain ⟨n, hn⟩ := fuE 6 (by omega)
  have z := hS.2.2.2.2.2.2.2.2.2.2.2.2
  have hfl : m.1 252 1 = 0 := hS.2.2.2.2.2.2.2.2.2.2.2.1
  have hpos : ¬ Int32.ofNat R = 0 := by
    intro q
    have := congrArg Int32.toInt q
    rw [Int32.toInt_ofNat_of_lt (by omega), show (0 : Int32).toInt = 0 by decide] at this
    omega
  have hp2 : ¬ Int32.ofNat R ≤ 0 := by
    rw [← of0, leN (by omega) (by omega)]
    omega
  have hp3 : (0 : Int32) ≤ Int32.ofNat R := by
    rw [← of0, leN (by omega) (by omega)]
    omega
  have fl : fX8_firstLink 251 0 0 (Int32.ofNat 1) m = some (0, m) := by
    rw [fX8_firstLink, fX8_firstLink_0, xLet_e, xLet_e, xLet_e, xLet_e, if_neg (by decide), if_neg (by decide), show xIn ((0 : Int32) * 36 + 0 * 6 + Int32.ofNat 1) 72 = true by decide, cond_e, show ((0 : Int32) * 36 + 0 * 6 + Int32.ofNat 1).toNatClampNeg = 1 by decide, show 251 + 1 = 252 from rfl, hfl, xLet_e, fX8_firstLink_39]
  have one : fX6_goalOfMost_31 250 167 0 0 0 (n + 1 + 4 + 1) (-1) 0 (Int32.ofNat 1) m = fX6_goalOfMost_31 250 167 0 0 0 (n + 1 + 4) 1 (Int32.ofNat R) (Int32.ofNat 2) m := by
    rw [fX6_goalOfMost_31, if_neg (by decide), show xIn (0 : Int32) 6 = true by decide, cond_e, cl0, xLet_e, show 167 + 15 + 3 * 0 = 182 from rfl, wait_ok (by omega), bind_e, h1, if_neg hp2, show 250 + 1 = 251 from rfl, fl, bind_e, if_neg (fun f => f rfl), fX6_goalOfMost_84, xLet_e, addN1]
    rfl
  rw [fX6_goalOfMost, fX6_goalOfMost_0, hasH hS.1, bind_e, if_neg (show ¬ (1 : Int32) = 0 by decide), show xIn (0 : Int32) 6 = true by decide, cond_e, cl0, xLet_e, show 167 + 15 + 3 * 0 = 182 from rfl, h4, xLet_e, if_pos hpos, hn]
  have s0 := goal_skip (g := 0) (n := n + 1 + 5) (by omega) (m := m) (l5 := -1) (l6 := 0) (by rw [z 0 (by omega) (by omega)]; decide)
  have s2 := goal_skip (g := 2) (n := n + 1 + 3) (by omega) (m := m) (l5 := 1) (l6 := Int32.ofNat R) (by rw [z 2 (by omega) (by omega)]; exact hp3)
  have s3 := goal_skip (g := 3) (n := n + 1 + 2) (by omega) (m := m) (l5 := 1) (l6 := Int32.ofNat R) (by rw [z 3 (by omega) (by omega)]; exact hp3)
  have s4 := goal_skip (g := 4) (n := n + 1 + 1) (by omega) (m := m) (l5 := 1) (l6 := Int32.ofNat R) (by rw [z 4 (by omega) (by omega)]; exact hp3)
  have s5 := goal_skip (g := 5) (n := n + 1) (by omega) (m := m) (l5 := 1) (l6 := Int32.ofNat R) (by rw [z 5 (by omega) (by omega)]; exact hp3)
  have s6 : fX6_goalOfMost_31 250 167 0 0 0 (n + 1) 1 (Int32.ofNat R) (Int32.ofNat 6) m = some (1, m) := by
    rw [fX6_goalOfMost_31, if_pos le66]
  exact s0.trans (one.trans (s2.trans (s3.trans (s4.trans (s5.trans s6)))))
theorem foot_ok {m : xMem} (h6 : m.1 200 6 = 1) (h2 : m.1 200 2 = 0) : fX3_foot 200 m = some (0, m) := by
  rw [fX3_foot, fX3_foot_0, h6, xLet_e, if_pos (by decide), h2, xLet_e, fX3_foot_19]
/-- what one taken changes -/
theorem taken_one {L s d cn R : Nat} {md off v y : Int32} {m q : xMem} (hA : AlM L md (Int32.ofNat cn) (Int32.ofNat (R + 1)) off m q) (hd : d < 2) (hf : m.1 201 (40 * d) = -1) (e : enc y v) (hv : ¬ v = -1) {rec71 : Nat → Int32 → Int32 → xMem → Option xMem} {w l5 l6 : Int32} (hs : s < 2) (hval : v = if s = 0 then 1 else 11) (hside : fX3_sideFor 200 (Int32.ofNat s) l5 m = some (Int32.ofNat d, m)) : ∃ m', fX6_takeUpToTwo_127 250 167 0 w rec71 200 l5 l6 1 (Int32.ofNat s) m = rec71 200 l5 (l6 + 1) m' ∧ AlM L md (Int32.ofNat (cn + 1)) (Int32.ofNat R) off m' (xPut q 314 (40 * d) y) := by
  obtain ⟨hS, hr, hn, hc, h1, h4, ho⟩ := hA
  have h6 : m.1 200 6 = 1 := hS.2.2.2.2.2.2.1
  have h2 : m.1 200 2 = 0 := hS.2.2.2.1
  have hdn : ¬ Int32.ofNat d = -1 := by
    have : d = 0 ∨ d = 1 := by omega
    rcases this with q | q <;> (subst q; decide)
  have ch : fX2_change 182 1 0 (-1) m = some (xPut (xPut m 183 1 (Int32.ofNat R)) 182 4 (Int32.ofNat R)) := by
    rw [fX2_change, fX2_change_0, xLet_e, xLet_e, if_neg (by decide), if_neg (by decide), show xIn ((0 : Int32) * 6 + 1) 12 = true by decide, cond_e, show ((0 : Int32) * 6 + 1).toNatClampNeg = 1 by decide, show 182 + 1 = 183 from rfl, h1, xLet_e, negN1, xLet_e, cond_e, xLet_e, put_ne (by decide), h4, xLet_e, negN1, xLet_e, xLet_e, fX2_change_44]
  have e190 : ∀ u : Int32, u = v → ∃ m', fX6_takeUpToTwo_190 250 167 0 w rec71 200 l5 l6 200 (Int32.ofNat d) 0 u (xPut (xPut m 183 1 (Int32.ofNat R)) 182 4 (Int32.ofNat R)) = rec71 200 l5 (l6 + 1) m' ∧ AlM L md (Int32.ofNat (cn + 1)) (Int32.ofNat R) off m' (xPut q 314 (40 * d) y) := by
    intro u hu
    subst hu
    rw [fX6_takeUpToTwo_190, ← of0, sput_ok hd (by omega), bind_e, xLet_e, xLet_e, xLet_e, xLet_e, xLet_e, xLet_e, xLet_e]
    refine ⟨_, Eq.refl _, ?_⟩
    have erow : (xPut (xPut m 183 1 (Int32.ofNat R)) 182 4 (Int32.ofNat R)).1 201 = m.1 201 := by rw [put_row (by decide), put_row (by decide)]
    have erow2 : (xPut (xPut m 183 1 (Int32.ofNat R)) 182 4 (Int32.ofNat R)).1 200 = m.1 200 := by rw [put_row (by decide), put_row (by decide)]
    refine ⟨AlS_put (AlS_put (AlS_put (AlS_put (AlS_put hS (by omega)) (by omega)) (by omega)) (by omega)) (by omega), ?_, ?_, ?_, ?_, ?_, ?_⟩
    · rw [put_row (by decide), put_row (by decide), put_upd, erow, put_upd]
      exact RR_upd hr e
    · rw [put_nk (by decide), put_at, put_ne (by decide), erow2, hn, addN1, put_row (by decide), put_row (by decide), put_upd, erow]
      rw [show 40 * d + 0 = 40 * d from rfl, card_on (by omega) hf hv]
    · rw [put_at, put_nk (by decide), put_ne (by decide), erow2, hc, addN1]
    · rw [put_ne (by decide), put_ne (by decide), put_ne (by decide), put_ne (by decide), put_at]
    · rw [put_ne (by decide), put_ne (by decide), put_ne (by decide), put_at]
    · rw [put_nk (by decide), put_nk (by decide), put_ne (by decide), erow2]; exact ho
  rw [fX6_takeUpToTwo_127, hside, bind_e, if_neg (show ¬ (1 : Int32) = -1 by decide), if_pos hdn, foot_ok h6 h2, bind_e, show xIn (0 : Int32) 6 = true by decide, cond_e, cl0, xLet_e, show 167 + 15 + 3 * 0 = 182 from rfl, ch, bind_e]
  by_cases q : s = 0
  · subst q
    rw [if_pos of0]
    exact e190 1 (by rw [hval, if_pos rfl])
  · have : s = 1 := by omega
    subst this
    rw [if_neg (show ¬ Int32.ofNat 1 = 0 by decide), xLet_e]
    exact e190 (1 + 10) (by rw [hval, if_neg q]; decide)
theorem by_ok {s : Nat} (hs : s < 2) {l5 : Int32} (h5 : ¬ l5 = 0) {m : xMem} : fX3_sideFor 200 (Int32.ofNat s) l5 m = some (if m.1 201 (40 * s) = -1 then Int32.ofNat s else -1, m) := by
  have t13 : fX3_sideFor_13 200 (Int32.ofNat s) l5 (Int32.ofNat s) m = some (if m.1 201 (40 * s) = -1 then Int32.ofNat s else -1, m) := by
    have w : fX3_who 200 (Int32.ofNat s) (Int32.ofNat 0) m = some (m.1 201 (40 * s), m) := who_ok hs (by omega)
    rw [fX3_sideFor_13, ← of0, w, bind_e]
    by_cases h : m.1 201 (40 * s) = -1
    · rw [if_neg (fun f => f h), fX3_sideFor_29, if_pos h]
    · rw [if_pos h, fX3_sideFor_29, if_neg h]
  rw [fX3_sideFor, fX3_sideFor_0, if_neg h5]
  have : s = 0 ∨ s = 1 := by omega
  rcases this with q | q
  · subst q
    rw [if_pos of0]
    exact t13
  · subst q
    rw [if_neg (show ¬ Int32.ofNat 1 = 0 by decide)]
    exact t13
theorem free_ok {a : Int32} {m : xMem} {d : Nat} (hd : d = if m.1 201 0 = -1 then 0 else 1) : fX3_sideFor 200 a 0 m = some (if m.1 201 (40 * d) = -1 then Int32.ofNat d else -1, m) := by
  have w0 : fX3_who 200 0 0 m = some (m.1 201 0, m) := who_ok (r := 200) (d := 0) (s := 0) (m := m) (by omega) (by omega)
  have w1 : fX3_who 200 1 0 m = some (m.1 201 40, m) := who_ok (r := 200) (d := 1) (s := 0) (m := m) (by omega) (by omega)
  rw [fX3_sideFor, fX3_sideFor_0, if_pos rfl, w0, bind_e]
  by_cases h : m.1 201 0 = -1
  · rw [if_pos h] at hd
    subst hd
    rw [if_neg (fun f => f h)]
    exact congrArg some (Prod.ext (by rw [if_pos h]; rfl) rfl)
  · rw [if_neg h] at hd
    subst hd
    rw [if_pos h, w1, bind_e]
    by_cases h2 : m.1 201 40 = -1
    · rw [if_neg (fun f => f h2), fX3_sideFor_57]
      exact congrArg some (Prod.ext (by rw [if_pos h2]; rfl) rfl)
    · rw [if_pos h2, fX3_sideFor_57]
      exact congrArg some (Prod.ext (by rw [if_neg h2]) rfl)
/-- the reference's taking: the side is tried -/
theorem ref_136 {L w md a4 : Int32} {rec33 : Int32 → Int32 → Int32 → xMem → Option (Int32 × xMem)} {rec64 : Int32 → Int32 → Int32 → Int32 → Int32 → xMem → Option (Int32 × xMem)} {l5 l6 l7 l9 : Int32} {s d : Nat} {q : xMem} (hd : d < 2) (hs : s < 2) : fX12_carries_136 291 L w md a4 rec33 rec64 l5 l6 l7 l9 (Int32.ofNat s) (Int32.ofNat d) q = if q.1 314 (40 * d) = 0 then rec64 l5 (l6 + 1) l7 1 (l9 + 1) (xPut q 314 (40 * d) (if s = 0 then 1 else 2)) else rec64 l5 l6 l7 0 (l9 + 1) q := by
  have u1 : xIn (40 * Int32.ofNat d) 80 = true ∧ (40 * Int32.ofNat d).toNatClampNeg = 40 * d := by
    have : ∀ d, d < 2 → xIn (40 * Int32.ofNat d) 80 = true ∧ (40 * Int32.ofNat d).toNatClampNeg = 40 * d := by decide
    exact this d hd
  rw [fX12_carries_136, xLet_e, u1.1, cond_e, u1.2, xLet_e, show 291 + 23 = 314 from rfl]
  by_cases h : q.1 314 (40 * d) = 0
  · rw [if_neg (fun f => f h), if_pos h, fX12_carries_156, if_neg (by decide), xLet_e]
    have : s = 0 ∨ s = 1 := by omega
    rcases this with z | z
    · subst z
      rw [if_pos of0, fX12_carries_182, u1.1, cond_e, u1.2, xLet_e, xLet_e, fX12_carries_186, xLet_e, if_pos rfl]
    · subst z
      rw [if_neg (show ¬ Int32.ofNat 1 = 0 by decide), fX12_carries_182, u1.1, cond_e, u1.2, xLet_e, xLet_e, fX12_carries_186, xLet_e, if_neg (by decide)]
  · rw [if_pos h, if_neg h, fX12_carries_156, if_pos rfl, fX12_carries_186, xLet_e]
theorem ref_103 {L w md a4 : Int32} {rec33 : Int32 → Int32 → Int32 → xMem → Option (Int32 × xMem)} {rec64 : Int32 → Int32 → Int32 → Int32 → Int32 → xMem → Option (Int32 × xMem)} {l5 l6 l7 l9 : Int32} {s d : Nat} {q : xMem} (hs : s < 2) (h : (md = 0 ∧ d = s) ∨ (¬ md = 0 ∧ d = if q.1 314 0 ≤ 0 then 0 else 1)) : fX12_carries_103 291 L w md a4 rec33 rec64 l5 l6 l7 l9 (Int32.ofNat s) q = fX12_carries_136 291 L w md a4 rec33 rec64 l5 l6 l7 l9 (Int32.ofNat s) (Int32.ofNat d) q := by
  rw [fX12_carries_103]
  rcases h with ⟨h, e⟩ | ⟨h, e⟩
  · subst e
    rw [if_neg (fun f => f h)]
    have : d = 0 ∨ d = 1 := by omega
    rcases this with z | z
    · subst z
      rw [if_pos of0, of0]
    · subst z
      rw [if_neg (show ¬ Int32.ofNat 1 = 0 by decide)]
      rfl
  · rw [if_pos h, show xIn (0 : Int32) 80 = true by decide, cond_e, cl0, show 291 + 23 = 314 from rfl, xLet_e]
    by_cases z : q.1 314 0 ≤ 0
    · rw [if_pos z]
      rw [if_pos z] at e
      subst e
      rw [of0]
    · rw [if_neg z]
      rw [if_neg z] at e
      subst e
      rfl
theorem walk71 {a0 a1 : Nat} {a2 w md l5 off L : Int32} {n1 n2 cn k : Nat} {m q : xMem} {g : Int32} (h5 : l5 = if md = 0 then 1 else 0) (hk : k < 2) (hc : m.1 200 10 = Int32.ofNat cn) (hg : fX6_goalOfMost a0 a1 a2 0 0 m = some (g, m)) (hf : fX3_foot 200 m = some (0, m)) : ∃ s, s < 2 ∧ (s = 1 → md = 0) ∧ fX6_takeUpToTwo_71 a0 a1 a2 w (n1 + 1) 200 l5 (Int32.ofNat k) m = fX6_takeUpToTwo_127 a0 a1 a2 w (fX6_takeUpToTwo_71 a0 a1 a2 w n1) 200 l5 (Int32.ofNat k) g (Int32.ofNat s) m ∧ ∀ (rec33 : Int32 → Int32 → Int32 → xMem → Option (Int32 × xMem)) (a4 l7 : Int32), fX12_carries_64 291 L w md a4 rec33 (n2 + 1) off (Int32.ofNat cn) l7 1 (Int32.ofNat k) q = fX12_carries_103 291 L w md a4 rec33 (fX12_carries_64 291 L w md a4 rec33 n2) off (Int32.ofNat cn) l7 (Int32.ofNat k) (Int32.ofNat s) q := by
  have h2 : ¬ (2 : Int32) ≤ Int32.ofNat k := by
    rw [show (2 : Int32) = Int32.ofNat 2 from rfl, leN (by omega) (by omega)]
    omega
  rw [fX6_takeUpToTwo_71, if_neg h2, hf, bind_e, hg, bind_e, hc, xLet_e]
  by_cases z : md = 0
  · rw [if_pos z] at h5
    subst h5
    rw [if_neg (show ¬ (1 : Int32) = 0 by decide), xLet_e, xLet_e, xLet_e, xLet_e, xLet_e]
    by_cases y : w * (Int32.ofNat cn + 1) / 10 ≤ w * Int32.ofNat cn / 10
    · rw [if_pos y, fX6_takeUpToTwo_126]
      refine ⟨0, by omega, fun h => absurd h (by omega), rfl, fun rec33 a4 l7 => ?_⟩
      rw [fX12_carries_64, if_neg h2, if_neg (show ¬ (1 : Int32) = 0 by decide), if_neg (fun f => f z), xLet_e, xLet_e, xLet_e, xLet_e, xLet_e, if_pos y, fX12_carries_102]
      rfl
    · rw [if_neg y]
      refine ⟨1, by omega, fun _ => z, rfl, fun rec33 a4 l7 => ?_⟩
      rw [fX12_carries_64, if_neg h2, if_neg (show ¬ (1 : Int32) = 0 by decide), if_neg (fun f => f z), xLet_e, xLet_e, xLet_e, xLet_e, xLet_e, if_neg y]
      rfl
  · rw [if_neg z] at h5
    subst h5
    rw [if_pos rfl, fX6_takeUpToTwo_126]
    refine ⟨0, by omega, fun h => absurd h (by omega), rfl, fun rec33 a4 l7 => ?_⟩
    rw [fX12_carries_64, if_neg h2, if_neg (show ¬ (1 : Int32) = 0 by decide), if_pos z, fX12_carries_102]
    rfl
theorem enc_zero {y x : Int32} (h : enc y x) : (y = 0 ↔ x = -1) ∧ (y ≤ 0 ↔ x = -1) := by
  rcases h with ⟨a, b⟩ | ⟨a, b⟩ | ⟨a, b⟩ <;> (subst a; subst b; decide)
theorem take_sim {L : Nat} {md w off l5 : Int32} (h5 : l5 = if md = 0 then 1 else 0) {B : Nat} (hB : B ≤ 1998) : ∀ (e k n1 n2 : Nat) (m q : xMem) (cn R : Nat), k + e = 2 → AlM L md (Int32.ofNat cn) (Int32.ofNat R) off m q → cn + R = B → e ≤ R → ∃ m' q' cn' R', fX6_takeUpToTwo_71 250 167 0 w (n1 + 1 + e) 200 l5 (Int32.ofNat k) m = some m' ∧ (∀ rec33 a4 l7, fX12_carries_64 291 (Int32.ofNat L) w md a4 rec33 (n2 + 1 + e) off (Int32.ofNat cn) l7 1 (Int32.ofNat k) q = rec33 off (Int32.ofNat cn') (l7 + 1) q') ∧ AlM L md (Int32.ofNat cn') (Int32.ofNat R') off m' q' ∧ cn' + R' = B ∧ R ≤ R' + e := by
  intro e
  induction e with
  | zero =>
    intro k n1 n2 m q cn R hk hA hR _
    have hk : k = 2 := by omega
    subst hk
    refine ⟨m, q, cn, R, ?_, ?_, hA, hR, Nat.le_refl R⟩
    · rw [fX6_takeUpToTwo_71, if_pos (by decide)]
    · intro rec33 a4 l7
      rw [fX12_carries_64, if_pos (by decide), fX12_carries_192, xLet_e]
  | succ e ih =>
    intro k n1 n2 m q cn R hk hA hR he
    obtain ⟨R', hR'⟩ : ∃ R', R = R' + 1 := ⟨R - 1, by omega⟩
    subst hR'
    have hS := hA.1
    have hgoal := goal_one hS hA.2.2.2.2.1 hA.2.2.2.2.2.1 (by omega) (by omega)
    have hfoot := foot_ok hS.2.2.2.2.2.2.1 hS.2.2.2.1
    rw [show n1 + 1 + (e + 1) = n1 + 1 + e + 1 from rfl, show n2 + 1 + (e + 1) = n2 + 1 + e + 1 from rfl]
    have fin : ∀ s d : Nat, s < 2 → d < 2 → (s = 1 → md = 0) → ((md = 0 ∧ d = s) ∨ (¬ md = 0 ∧ d = if q.1 314 0 ≤ 0 then 0 else 1)) → fX3_sideFor 200 (Int32.ofNat s) l5 m = some (if m.1 201 (40 * d) = -1 then Int32.ofNat d else -1, m) → fX6_takeUpToTwo_71 250 167 0 w (n1 + 1 + e + 1) 200 l5 (Int32.ofNat k) m = fX6_takeUpToTwo_127 250 167 0 w (fX6_takeUpToTwo_71 250 167 0 w (n1 + 1 + e)) 200 l5 (Int32.ofNat k) 1 (Int32.ofNat s) m → (∀ rec33 a4 l7, fX12_carries_64 291 (Int32.ofNat L) w md a4 rec33 (n2 + 1 + e + 1) off (Int32.ofNat cn) l7 1 (Int32.ofNat k) q = fX12_carries_103 291 (Int32.ofNat L) w md a4 rec33 (fX12_carries_64 291 (Int32.ofNat L) w md a4 rec33 (n2 + 1 + e)) off (Int32.ofNat cn) l7 (Int32.ofNat k) (Int32.ofNat s) q) → ∃ m' q' cn' R'', fX6_takeUpToTwo_71 250 167 0 w (n1 + 1 + e + 1) 200 l5 (Int32.ofNat k) m = some m' ∧ (∀ rec33 a4 l7, fX12_carries_64 291 (Int32.ofNat L) w md a4 rec33 (n2 + 1 + e + 1) off (Int32.ofNat cn) l7 1 (Int32.ofNat k) q = rec33 off (Int32.ofNat cn') (l7 + 1) q') ∧ AlM L md (Int32.ofNat cn') (Int32.ofNat R'') off m' q' ∧ cn' + R'' = B ∧ R' + 1 ≤ R'' + (e + 1) := by
      intro s d hs hd hsm hdd hside e1 e2
      have henc := hA.2.1 (40 * d) (by omega)
      have hz := enc_zero henc
      by_cases hfree : m.1 201 (40 * d) = -1
      · rw [if_pos hfree] at hside
        have hval : ∃ v : Int32, v = (if s = 0 then 1 else 11) ∧ ¬ v = -1 ∧ enc (if s = 0 then 1 else 2) v := by
          by_cases z : s = 0
          · refine ⟨1, by rw [if_pos z], by decide, ?_⟩
            rw [if_pos z]
            exact Or.inr (Or.inl ⟨rfl, rfl⟩)
          · refine ⟨11, by rw [if_neg z], by decide, ?_⟩
            rw [if_neg z]
            exact Or.inr (Or.inr ⟨rfl, rfl⟩)
        obtain ⟨v, hv1, hv2, hv3⟩ := hval
        obtain ⟨m1, t1, hA1⟩ := taken_one (y := if s = 0 then 1 else 2) hA hd hfree hv3 hv2 (rec71 := fX6_takeUpToTwo_71 250 167 0 w (n1 + 1 + e)) (w := w) (l5 := l5) (l6 := Int32.ofNat k) hs hv1 hside
        obtain ⟨m', q', cn', R'', f1, f2, f3, f4, f5⟩ := ih (k + 1) n1 n2 m1 _ (cn + 1) R' (by omega) hA1 (by omega) (by omega)
        refine ⟨m', q', cn', R'', ?_, ?_, f3, f4, by omega⟩
        · rw [e1, t1, addN1]
          exact f1
        · intro rec33 a4 l7
          rw [e2 rec33 a4 l7, ref_103 hs hdd, ref_136 hd hs, if_pos (hz.1.mpr hfree), addN1, addN1]
          exact f2 rec33 a4 l7
      · rw [if_neg hfree] at hside
        refine ⟨m, q, cn, R' + 1, ?_, ?_, hA, hR, by omega⟩
        · rw [e1, fX6_takeUpToTwo_127, hside, bind_e, if_neg (show ¬ (1 : Int32) = -1 by decide), if_neg (show ¬ ¬ (-1 : Int32) = -1 by decide), fX6_takeUpToTwo_152]
        · intro rec33 a4 l7
          rw [e2 rec33 a4 l7, ref_103 hs hdd, ref_136 hd hs, if_neg (fun f => hfree (hz.1.mp f)), show n2 + 1 + e = (n2 + e) + 1 by omega, fX12_carries_64]
          by_cases z : (2 : Int32) ≤ Int32.ofNat k + 1
          · rw [if_pos z, fX12_carries_192, xLet_e]
          · rw [if_neg z, if_pos rfl, fX12_carries_192, xLet_e]
    obtain ⟨s, hs, hsm, e1, e2⟩ := walk71 (a0 := 250) (a1 := 167) (a2 := 0) (w := w) (md := md) (off := off) (L := Int32.ofNat L) (n1 := n1 + 1 + e) (n2 := n2 + 1 + e) (m := m) (q := q) h5 (show k < 2 by omega) hA.2.2.2.1 hgoal hfoot
    by_cases z : md = 0
    · have hl : l5 = 1 := by rw [h5, if_pos z]
      exact fin s s hs hs hsm (Or.inl ⟨z, rfl⟩) (by_ok hs (by rw [hl]; decide)) e1 e2
    · have hl : l5 = 0 := by rw [h5, if_neg z]
      have hz0 := enc_zero (hA.2.1 0 (by omega))
      by_cases y : m.1 201 0 = -1
      · exact fin s 0 hs (by omega) hsm (Or.inr ⟨z, by rw [if_pos (hz0.2.mpr y)]⟩) (by rw [hl]; exact free_ok (by rw [if_pos y])) e1 e2
      · exact fin s 1 hs (by omega) hsm (Or.inr ⟨z, by rw [if_neg (fun f => y (hz0.2.mp f))]⟩) (by rw [hl]; exact free_ok (by rw [if_neg y])) e1 e2
theorem take_two {L : Nat} {md w off : Int32} {B : Nat} (hB : B ≤ 1998) {m q : xMem} {cn R : Nat} (hA : AlM L md (Int32.ofNat cn) (Int32.ofNat R) off m q) (hR : cn + R = B) (he : 2 ≤ R) : ∃ m' q' cn' R', fX6_takeUpToTwo 250 167 0 w m = some m' ∧ (∀ rec33 a4 l7, fX12_carries_64 291 (Int32.ofNat L) w md a4 rec33 xFuel off (Int32.ofNat cn) l7 1 0 q = rec33 off (Int32.ofNat cn') (l7 + 1) q') ∧ AlM L md (Int32.ofNat cn') (Int32.ofNat R') off m' q' ∧ cn' + R' = B ∧ R ≤ R' + 2 := by
  obtain ⟨n, hn⟩ := fuE 2 (by omega)
  have hS := hA.1
  obtain ⟨s1, s2, s3, s4, s5, s6, s7, s8, s9, s10, s11, s12, s13⟩ := hS
  have e0 : fX9_hasLink 167 0 m = some (1, m) := by
    rw [fX9_hasLink, fX9_hasLink_0, if_neg (by decide), s2, xLet_e, if_neg (by decide), if_neg (by decide), fX9_hasLink_23]
    rfl
  have x0 : xIn (0 : Int32) 10 = true := by decide
  have e1 : fX9_hasStepped 167 0 m = some (1, m) := by
    rw [fX9_hasStepped, fX9_hasStepped_0, e0, bind_e, if_neg (show ¬ (1 : Int32) = 0 by decide), x0, cond_e, cl0, xLet_e, show 167 + 33 + 2 * 0 = 200 from rfl, s3, xLet_e, if_neg (by decide), fX9_hasStepped_26]
    rfl
  have e2 : fX3_takesNow 200 m = some (1, m) := by
    rw [fX3_takesNow, fX3_takesNow_0, s10, xLet_e, if_neg (by decide), s11, xLet_e, if_neg (by decide), s8, xLet_e, s7, xLet_e, if_neg (by decide), fX3_takesNow_30]
    rfl
  have head : ∀ l5 : Int32, (l5 = if md = 0 then 1 else 0) → fX6_takeUpToTwo 250 167 0 w m = fX6_takeUpToTwo_71 250 167 0 w xFuel 200 l5 0 m := by
    intro l5 h5
    rw [fX6_takeUpToTwo, fX6_takeUpToTwo_0, e1, bind_e, if_neg (show ¬ (1 : Int32) = 0 by decide), x0, cond_e, cl0, xLet_e, show 167 + 33 + 2 * 0 = 200 from rfl, e2, bind_e, if_neg (show ¬ (1 : Int32) = 0 by decide), cond_e, xLet_e, foot_ok s7 s4, bind_e, hasH s1, bind_e, if_pos (show ¬ (1 : Int32) = 0 by decide), cond_e, xLet_e, s3, xLet_e, if_neg (show ¬ ¬ (0 : Int32) = 0 by decide), s9, xLet_e]
    by_cases z : md = 0
    · rw [if_pos z] at h5
      rw [if_neg (fun f => f z), fX6_takeUpToTwo_66, h5]
    · rw [if_neg z] at h5
      rw [if_pos z, fX6_takeUpToTwo_65, fX6_takeUpToTwo_66, h5]
  obtain ⟨m', q', cn', R', f1, f2, f3, f4, f5⟩ := take_sim (L := L) (md := md) (w := w) (off := off) rfl hB 2 0 n n m q cn R rfl hA hR he
  refine ⟨m', q', cn', R', ?_, ?_, f3, f4, f5⟩
  · rw [head _ rfl, hn]
    exact f1
  · rw [hn]
    exact f2
theorem loop_sim {L T : Nat} (hL2 : 2 ≤ L) (hL : L ≤ 40) (hT : T ≤ 999) {md w : Int32} : ∀ (e i n1 n2 : Nat) (m q : xMem) (cn R : Nat) (off : Int32), i + e = T → AlM L md (Int32.ofNat cn) (Int32.ofNat R) off m q → cn + R = 2 * T → 2 * e ≤ R → ∃ z m' q', fX11_carriedAlone_48 0 (Int32.ofNat L) w md (Int32.ofNat T) (n1 + 1 + e) 200 (Int32.ofNat i) m = some (z, m') ∧ fX12_carries_33 291 (Int32.ofNat L) w md (Int32.ofNat T) (n2 + 1 + e) off (Int32.ofNat cn) (Int32.ofNat i) q = some (z, q') := by
  intro e
  induction e with
  | zero =>
    intro i n1 n2 m q cn R off hi hA _ _
    have hi : i = T := by omega
    subst hi
    refine ⟨off, m, q, ?_, ?_⟩
    · rw [fX11_carriedAlone_48, if_pos ((leN (by omega) (by omega)).mpr (Nat.le_refl i)), hA.2.2.2.2.2.2, xLet_e]
    · rw [fX12_carries_33, if_pos ((leN (by omega) (by omega)).mpr (Nat.le_refl i))]
  | succ e ih =>
    intro i n1 n2 m q cn R off hi hA hR he
    have hne : ¬ Int32.ofNat T ≤ Int32.ofNat i := by
      rw [leN (by omega) (by omega)]
      omega
    obtain ⟨m1, qa, q1, o1, o2, a1, a2, a3, hA1⟩ := move_sim hL2 hL hA
    obtain ⟨m2, q2, cn', R', b1, b2, hA2, b4, b5⟩ := take_two (w := w) (B := 2 * T) (by omega) hA1 hR (by omega)
    obtain ⟨z, m', q', c1, c2⟩ := ih (i + 1) n1 n2 m2 q2 cn' R' _ (by omega) hA2 b4 (by omega)
    refine ⟨z, m', q', ?_, ?_⟩
    · rw [show n1 + 1 + (e + 1) = n1 + 1 + e + 1 from rfl, fX11_carriedAlone_48, if_neg hne, show 0 + 250 = 250 from rfl, show 0 + 167 = 167 from rfl, a1, bind_e, b1, bind_e, xLet_e, addN1]
      exact c1
    · rw [show n2 + 1 + (e + 1) = n2 + 1 + e + 1 from rfl, fX12_carries_33, if_neg hne, a2, bind_e, a3, bind_e, xLet_e, xLet_e]
      exact (b2 _ _ _).trans (by rw [addN1]; exact c2)
theorem fill_at {m : xMem} {a n j : Nat} {x : Int32} (h : j < n) : (xFillM m a n x).1 a j = x := if_pos ⟨rfl, h⟩
theorem build2 (r : Nat) (a : Int32) (m : xMem) : ∃ m1, fX2_build r a m = some m1 ∧ m1.1 r 4 = 0 ∧ (∀ k, k < 12 → m1.1 (r + 1) k = 0) ∧ ∀ b, b ≠ r → b ≠ r + 1 → b ≠ r + 2 → m1.1 b = m.1 b := by
  unfold fX2_build fX2_build_0 xLet fJ7_fill_53178
  refine ⟨_, rfl, ?_, ?_, ?_⟩
  · rw [fill_row (by omega), fill_row (by omega), put_nk (by decide), put_nk (by decide), put_nk (by decide), put_nk (by decide), put_at]
  · intro k hk
    rw [fill_row (by omega), fill_at hk]
  · intro b h0 h1 h2
    rw [fill_row h2, fill_row h1, put_row h0, put_row h0, put_row h0, put_row h0, put_row h0, put_row h0, put_row h0]
theorem buildL (z : Int32) (m : xMem) : ∃ m1, fX3_build 200 0 0 1 z 0 m = some m1 ∧ (m1.1 200 1 = 0 ∧ m1.1 200 2 = 0 ∧ m1.1 200 3 = 1 ∧ m1.1 200 4 = z ∧ m1.1 200 6 = 1 ∧ m1.1 200 7 = 1) ∧ (m1.1 200 9 = 0 ∧ m1.1 200 10 = 0 ∧ m1.1 200 11 = 0 ∧ m1.1 200 12 = 1 ∧ m1.1 200 13 = 0) ∧ (∀ j, j < 80 → m1.1 201 j = -1) ∧ ∀ b, b ≠ 200 → b ≠ 201 → m1.1 b = m.1 b := by
  rw [fX3_build, fX3_build_0, xLet_e, xLet_e, xLet_e, xLet_e, xLet_e, if_pos (by decide), fX3_build_38, xLet_e, put_at, xLet_e, xLet_e, xLet_e, xLet_e, xLet_e, xLet_e, xLet_e, xLet_e, show ∀ X, fJ7_fill_53178 (200 + 1) 80 (-1) X = some (xFillM X 201 80 (-1)) from fun _ => rfl, bind_e]
  refine ⟨_, rfl, ⟨?_, ?_, ?_, ?_, ?_, ?_⟩, ⟨?_, ?_, ?_, ?_, ?_⟩, ?_, ?_⟩
  · rw [fill_row (by decide), put_nk (by decide), put_nk (by decide), put_nk (by decide), put_nk (by decide), put_nk (by decide), put_nk (by decide), put_nk (by decide), put_nk (by decide), put_nk (by decide), put_nk (by decide), put_nk (by decide), put_nk (by decide), put_at]
  · rw [fill_row (by decide), put_nk (by decide), put_nk (by decide), put_nk (by decide), put_nk (by decide), put_nk (by decide), put_nk (by decide), put_nk (by decide), put_nk (by decide), put_nk (by decide), put_nk (by decide), put_nk (by decide), put_at]
  · rw [fill_row (by decide), put_nk (by decide), put_nk (by decide), put_nk (by decide), put_nk (by decide), put_nk (by decide), put_nk (by decide), put_nk (by decide), put_nk (by decide), put_nk (by decide), put_nk (by decide), put_at]
  · rw [fill_row (by decide), put_nk (by decide), put_nk (by decide), put_nk (by decide), put_nk (by decide), put_nk (by decide), put_nk (by decide), put_nk (by decide), put_nk (by decide), put_nk (by decide), put_at]
  · rw [fill_row (by decide), put_nk (by decide), put_nk (by decide), put_nk (by decide), put_nk (by decide), put_nk (by decide), put_nk (by decide), put_nk (by decide), put_at]
  · rw [fill_row (by decide), put_nk (by decide), put_nk (by decide), put_nk (by decide), put_nk (by decide), put_nk (by decide), put_nk (by decide), put_at]
  · rw [fill_row (by decide), put_nk (by decide), put_nk (by decide), put_nk (by decide), put_nk (by decide), put_at]
  · rw [fill_row (by decide), put_nk (by decide), put_nk (by decide), put_nk (by decide), put_at]
  · rw [fill_row (by decide), put_nk (by decide), put_nk (by decide), put_at]
  · rw [fill_row (by decide), put_nk (by decide), put_at]
  · rw [fill_row (by decide), put_at]
  · intro j hj
    exact fill_at hj
  · intro b h0 h1
    rw [fill_row h1, put_row h0, put_row h0, put_row h0, put_row h0, put_row h0, put_row h0, put_row h0, put_row h0, put_row h0, put_row h0, put_row h0, put_row h0, put_row h0]
/-- what the search for routes looks at -/
def AlF (L : Nat) (m : xMem) : Prop := m.1 167 8 = 1 ∧ m.1 200 1 = 0 ∧ m.1 200 2 = 0 ∧ m.1 200 3 = 1 ∧ m.1 200 4 = Int32.ofNat L ∧ m.1 200 6 = 1 ∧ m.1 200 7 = 1 ∧ m.1 200 12 = 1 ∧ m.1 200 13 = 0
theorem AlF_of {L : Nat} {m0 m : xMem} (h : AlF L m0) (hS : Sme m0 m) : AlF L m := by
  unfold AlF
  rw [hS 167 (by omega), hS 200 (by omega)]
  exact h
def DD (x : Int32) (m : xMem) : Prop := ∀ j, j < 36 → m.1 253 j = if j = 1 then x else 1000000
theorem t36 : ∀ j, j < 6 → ∀ i, i < 6 → ¬ Int32.ofNat j * 6 + Int32.ofNat i < 0 ∧ ¬ 36 ≤ Int32.ofNat j * 6 + Int32.ofNat i ∧ xIn (Int32.ofNat j * 6 + Int32.ofNat i) 36 = true ∧ (Int32.ofNat j * 6 + Int32.ofNat i).toNatClampNeg = 6 * j + i := by decide
theorem between_at {i j : Nat} (hj : j < 6) (hi : i < 6) {m : xMem} : fX8_between 251 (Int32.ofNat j) (Int32.ofNat i) m = some (m.1 253 (6 * j + i), m) := by
  obtain ⟨h1, h2, h3, h4⟩ := t36 j hj i hi
  rw [fX8_between, fX8_between_0, xLet_e, xLet_e, if_neg h1, if_neg h2, h3, cond_e, h4, xLet_e, fX8_between_31]
theorem shorten_no {j k : Nat} (hj : j < 6) (hk : k < 6) {m : xMem} {z : Int32} (h : m.1 253 (6 * j + k) ≤ z) : fX8_shorten 251 (Int32.ofNat j) (Int32.ofNat k) z m = some m := by
  obtain ⟨h1, h2, h3, h4⟩ := t36 j hj k hk
  rw [fX8_shorten, fX8_shorten_0, xLet_e, xLet_e, if_neg h1, if_neg h2, h3, cond_e, h4, xLet_e, show 251 + 2 = 253 from rfl, if_pos h, fX8_shorten_42]
def Ineq (x : Int32) : Prop := (x ≤ 1000000 + x ∧ x ≤ x + 1000000 ∧ x ≤ 1000000 + 1000000) ∧ (1000000 : Int32) ≤ 1000000 + x ∧ (1000000 : Int32) ≤ x + 1000000
theorem ineq_L : ∀ L, L ≤ 40 → Ineq (Int32.ofNat L) := by
  have h : ∀ L, L < 41 → (Int32.ofNat L ≤ 1000000 + Int32.ofNat L ∧ Int32.ofNat L ≤ Int32.ofNat L + 1000000 ∧ Int32.ofNat L ≤ 1000000 + 1000000) ∧ (1000000 : Int32) ≤ 1000000 + Int32.ofNat L ∧ (1000000 : Int32) ≤ Int32.ofNat L + 1000000 := by decide
  exact fun L hL => h L (by omega)
theorem ineq_F : Ineq 1000000 := by
  unfold Ineq
  decide
theorem floyd_no {x : Int32} (hx : Ineq x) {i j k : Nat} (hi : i < 6) (hj : j < 6) (hk : k < 6) {m : xMem} (h : DD x m) : m.1 253 (6 * j + k) ≤ m.1 253 (6 * j + i) + m.1 253 (6 * i + k) := by
  obtain ⟨⟨a, b, c⟩, e, f⟩ := hx
  rw [h _ (by omega), h _ (by omega), h _ (by omega)]
  by_cases p : 6 * j + i = 1
  · rw [if_pos p, if_neg (show ¬ 6 * i + k = 1 by omega)]
    by_cases r : 6 * j + k = 1
    · rw [if_pos r]; exact b
    · rw [if_neg r]; exact f
  · rw [if_neg p]
    by_cases q : 6 * i + k = 1
    · rw [if_pos q]
      by_cases r : 6 * j + k = 1
      · rw [if_pos r]; exact a
      · rw [if_neg r]; exact e
    · rw [if_neg q]
      by_cases r : 6 * j + k = 1
      · rw [if_pos r]; exact c
      · rw [if_neg r]; decide
theorem takesA {L : Nat} {m : xMem} (h : AlF L m) : fX3_takesNow 200 m = some (1, m) := by
  obtain ⟨s2, s3, s4, s5, s6, s7, s8, s10, s11⟩ := h
  rw [fX3_takesNow, fX3_takesNow_0, s10, xLet_e, if_neg (by decide), s11, xLet_e, if_neg (by decide), s8, xLet_e, s7, xLet_e, if_neg (by decide), fX3_takesNow_30]
  rfl
theorem leads0 {L : Nat} {m : xMem} (h : AlF L m) {a : Int32} : fX8_leads 251 200 0 a m = some (if a = 0 then 1 else 0, m) := by
  have ht := takesA h
  obtain ⟨s2, s3, s4, s5, s6, s7, s8, s10, s11⟩ := h
  rw [fX8_leads, fX8_leads_0, s3, xLet_e, if_pos (by decide), if_neg (by decide), ht, bind_e, if_neg (show ¬ (1 : Int32) = 0 by decide), foot_ok s7 s4, bind_e]
  by_cases q : a = 0
  · subst q
    rw [if_neg (fun f => f rfl), fX8_leads_43, if_pos rfl]
    rfl
  · rw [if_pos (fun f => q f.symm), fX8_leads_42, fX8_leads_43, if_neg q]
    rfl
theorem leads1 {L : Nat} {m : xMem} (h : AlF L m) {a : Int32} : fX8_leads 251 200 1 a m = some (0, m) := by
  obtain ⟨s2, s3, s4, s5, s6, s7, s8, s10, s11⟩ := h
  rw [fX8_leads, fX8_leads_0, s3, xLet_e, if_pos (by decide), if_pos (by decide), fX8_leads_42, fX8_leads_43]
  rfl
theorem secondsA {L : Nat} {m : xMem} (h : AlF L m) : fX3_seconds 200 m = some (Int32.ofNat L, m) := by
  obtain ⟨s2, s3, s4, s5, s6, s7, s8, s10, s11⟩ := h
  rw [fX3_seconds, fX3_seconds_0, s3, xLet_e, if_pos (by decide), xLet_e, if_pos (by decide), s6, xLet_e, fX3_seconds_34]
/-- the links of the kind 0: the one stair -/
theorem links0 {L : Nat} (hL : L ≤ 40) {m0 m : xMem} (h : AlF L m0) (hS : Sme m0 m) (hD : DD 1000000 m) : ∃ m1, fX8_findFor_11 251 167 0 xFuel 0 m = fX8_findFor_107 251 167 0 m1 ∧ Sme m0 m1 ∧ DD (Int32.ofNat L) m1 := by
  obtain ⟨n, hn⟩ := fuE 1 (by omega)
  have hm := AlF_of h hS
  have x0 : xIn (0 : Int32) 10 = true := by decide
  have far : ¬ (1000000 : Int32) ≤ Int32.ofNat L := by
    rw [show (1000000 : Int32) = Int32.ofNat 1000000 from rfl, leN (by omega) (by omega)]
    omega
  have sh : fX8_shorten 251 0 1 (Int32.ofNat L) m = some (xPut m 253 1 (Int32.ofNat L)) := by
    rw [fX8_shorten, fX8_shorten_0, xLet_e, xLet_e, if_neg (by decide), if_neg (by decide), show xIn ((0 : Int32) * 6 + 1) 36 = true by decide, cond_e, show ((0 : Int32) * 6 + 1).toNatClampNeg = 1 by decide, show 251 + 2 = 253 from rfl, show m.1 253 1 = 1000000 from (hD 1 (by omega)).trans (if_pos rfl), xLet_e, if_neg far, cond_e, xLet_e, fX8_shorten_42]
  have hS1 : Sme m0 (xPut m 253 1 (Int32.ofNat L)) := fun b hb => by rw [put_row (by omega)]; exact hS b hb
  have hm1 := AlF_of h hS1
  refine ⟨xPut m 253 1 (Int32.ofNat L), ?_, hS1, ?_⟩
  · obtain ⟨s2, s3, s4, s5, s6, s7, s8, s10, s11⟩ := id hm
    obtain ⟨p2, p3, p4, p5, p6, p7, p8, p10, p11⟩ := id hm1
    rw [hn, fX8_findFor_11, s2, xLet_e, if_neg (by decide), if_neg (by decide), x0, cond_e, cl0, xLet_e, show 167 + 33 + 2 * 0 = 200 from rfl, s4, xLet_e, leads0 hm, bind_e, if_pos rfl, if_neg (show ¬ (1 : Int32) = 0 by decide), s4, xLet_e, s5, xLet_e, secondsA hm, bind_e, sh, bind_e, fX8_findFor_67, p5, xLet_e, leads0 hm1, bind_e, if_neg (show ¬ (1 : Int32) = 0 by decide), if_pos rfl, fX8_findFor_101, xLet_e, fX8_findFor_11, p2, xLet_e, if_pos (by decide)]
  · intro j hj
    rw [put_upd]
    by_cases q : j = 1
    · subst q
      rw [upd_eq, if_pos rfl]
    · rw [upd_ne q, hD j hj, if_neg q, if_neg q]
theorem links1 {L : Nat} {m0 m : xMem} (h : AlF L m0) (hS : Sme m0 m) : fX8_findFor_11 251 167 1 xFuel 0 m = fX8_findFor_107 251 167 1 m := by
  obtain ⟨n, hn⟩ := fuE 1 (by omega)
  have hm := AlF_of h hS
  have x0 : xIn (0 : Int32) 10 = true := by decide
  obtain ⟨s2, s3, s4, s5, s6, s7, s8, s10, s11⟩ := id hm
  rw [hn, fX8_findFor_11, s2, xLet_e, if_neg (by decide), if_neg (by decide), x0, cond_e, cl0, xLet_e, show 167 + 33 + 2 * 0 = 200 from rfl, s4, xLet_e, leads1 hm, bind_e, if_pos rfl, fX8_findFor_67, s5, xLet_e, leads1 hm, bind_e, if_pos rfl, fX8_findFor_101, xLet_e, fX8_findFor_11, s2, xLet_e, if_pos (by decide)]
theorem low_no {a : Int32} {i j : Nat} (hi : i < 6) (hj : j < 6) {m : xMem} (h : i = j ∨ ¬ m.1 253 (6 * i + j) < 1000000) : fX8_lowestFirst 251 167 a (Int32.ofNat i) (Int32.ofNat j) m = some (-1, m) := by
  rw [fX8_lowestFirst, fX8_lowestFirst_0, between_at hi hj, bind_e]
  by_cases q : Int32.ofNat i = Int32.ofNat j
  · rw [if_pos q, fX8_lowestFirst_22]
  · rw [if_neg q]
    rcases h with h | h
    · exact absurd (congrArg Int32.ofNat h) q
    · rw [if_neg h, fX8_lowestFirst_22]
theorem low_01 {L : Nat} (hL : L ≤ 40) {m : xMem} (h : AlF L m) (hD : DD (Int32.ofNat L) m) : fX8_lowestFirst 251 167 0 (Int32.ofNat 0) (Int32.ofNat 1) m = some (0, m) := by
  obtain ⟨n, hn⟩ := fuE0
  have x0 : xIn (0 : Int32) 10 = true := by decide
  have hlt : Int32.ofNat L < 1000000 := by
    rw [show (1000000 : Int32) = Int32.ofNat 1000000 from rfl, ltN (by omega) (by omega)]
    omega
  have hl := leads0 h (a := Int32.ofNat 0)
  have hs := secondsA h
  obtain ⟨s2, s3, s4, s5, s6, s7, s8, s10, s11⟩ := h
  rw [fX8_lowestFirst, fX8_lowestFirst_0, between_at (by omega) (by omega), bind_e, if_neg (show ¬ Int32.ofNat 0 = Int32.ofNat 1 by decide), hD _ (by omega), if_pos (show 6 * 0 + 1 = 1 from rfl), if_pos hlt, hn, fX8_lowestFirst_27, s2, xLet_e, if_neg (by decide), if_neg (by decide), x0, cond_e, cl0, xLet_e, show 167 + 33 + 2 * 0 = 200 from rfl, s4, xLet_e, if_pos (show (0 : Int32) = Int32.ofNat 0 from rfl), fX8_lowestFirst_70, hl, bind_e, if_pos (show Int32.ofNat 0 = 0 from rfl), if_neg (show ¬ (1 : Int32) = 0 by decide), s4, xLet_e, if_neg (show ¬ ¬ (0 : Int32) = Int32.ofNat 0 from fun f => f rfl), s5, xLet_e, fX8_lowestFirst_103, if_neg (show ¬ ¬ (1 : Int32) = Int32.ofNat 1 from fun f => f rfl), fX8_lowestFirst_124, hs, bind_e, xLet_e, if_neg (show ¬ ¬ Int32.ofNat L + 0 = Int32.ofNat L from fun f => f (Int32.add_zero _))]
theorem floydB {x : Int32} (hx : Ineq x) {m0 : xMem} : ∀ i j k m, i < 6 → j < 6 → k < 6 → (Sme m0 m ∧ DD x m) → ∃ z1 z2 m', fX8_between 251 (Int32.ofNat j) (Int32.ofNat i) m = some (z1, m) ∧ fX8_between 251 (Int32.ofNat i) (Int32.ofNat k) m = some (z2, m) ∧ fX8_shorten 251 (Int32.ofNat j) (Int32.ofNat k) (z1 + z2) m = some m' ∧ (Sme m0 m' ∧ DD x m') :=
  fun i j k m hi hj hk h => ⟨_, _, m, between_at hj hi, between_at hi hk, shorten_no hj hk (floyd_no hx hi hj hk h.2), h⟩
theorem fillD {m : xMem} : DD 1000000 (xFillM m 253 36 1000000) := by
  intro j hj
  rw [fill_at hj]
  by_cases q : j = 1
  · rw [if_pos q]
  · rw [if_neg q]
theorem fillS {m0 m : xMem} (hS : Sme m0 m) : Sme m0 (xFillM m 253 36 1000000) := fun b hb => by rw [fill_row (by omega)]; exact hS b hb
theorem for0 {L : Nat} (hL : L ≤ 40) {m0 m : xMem} (h : AlF L m0) (hS : Sme m0 m) : vOk (fun m1 => Sme m0 m1 ∧ m1.1 252 1 = 0) (fX8_findFor 251 167 0 m) := by
  obtain ⟨n6, hn6⟩ := fuE 6 (by omega)
  obtain ⟨m1, e1, hS1, hD1⟩ := links0 hL h (fillS hS) (m := xFillM m 253 36 1000000) fillD
  rw [fX8_findFor, fX8_findFor_0, show fJ7_fill_53178 (251 + 2) 36 1000000 m = some (xFillM m 253 36 1000000) from rfl, bind_e, e1, fX8_findFor_107, hn6, ← of0]
  refine ff109 (I := fun X => Sme m0 X ∧ DD (Int32.ofNat L) X) (floydB (ineq_L L hL)) ?_ 6 0 n6 _ rfl ⟨hS1, hD1⟩
  intro X hX
  rw [hn6, ← of0]
  refine ff178 (a := 0) (by decide) (I := fun i j Y => Sme m0 Y ∧ DD (Int32.ofNat L) Y ∧ (1 < 6 * i + j → Y.1 252 1 = 0)) ?_ ?_ ?_ 6 0 n6 _ rfl ⟨hX.1, hX.2, fun q => absurd q (by omega)⟩
  · intro i j Y hi hj ⟨y1, y2, y3⟩
    have hp : ∀ z, Sme m0 (xPut Y (251 + 1) (36 * 0 + 6 * i + j) z) ∧ DD (Int32.ofNat L) (xPut Y (251 + 1) (36 * 0 + 6 * i + j) z) := fun z => ⟨fun b hb => by rw [put_row (by omega)]; exact y1 b hb, fun k hk => by rw [put_ne (by decide)]; exact y2 k hk⟩
    by_cases q : 6 * i + j = 1
    · have hi0 : i = 0 := by omega
      have hj1 : j = 1 := by omega
      subst hi0
      subst hj1
      exact ⟨0, low_01 hL (AlF_of h y1) y2, (hp 0).1, (hp 0).2, fun _ => put_at⟩
    · refine ⟨-1, low_no hi hj (Or.inr ?_), (hp (-1)).1, (hp (-1)).2, fun r => ?_⟩
      · rw [y2 _ (by omega), if_neg q]
        decide
      · rw [put_nk (by omega)]
        exact y3 (by omega)
  · intro i Y hi ⟨y1, y2, y3⟩
    exact ⟨y1, y2, fun _ => y3 (by omega)⟩
  · intro Y ⟨y1, y2, y3⟩
    exact ⟨y1, y3 (by omega)⟩
theorem for1 {L : Nat} {m0 m : xMem} (h : AlF L m0) (hS : Sme m0 m) (hf : m.1 252 1 = 0) : vOk (fun m1 => Sme m0 m1 ∧ m1.1 252 1 = 0) (fX8_findFor 251 167 1 m) := by
  obtain ⟨n6, hn6⟩ := fuE 6 (by omega)
  rw [fX8_findFor, fX8_findFor_0, show fJ7_fill_53178 (251 + 2) 36 1000000 m = some (xFillM m 253 36 1000000) from rfl, bind_e, links1 h (fillS hS), fX8_findFor_107, hn6, ← of0]
  refine ff109 (I := fun X => (Sme m0 X ∧ X.1 252 1 = 0) ∧ DD 1000000 X) ?_ ?_ 6 0 n6 _ rfl ⟨⟨fillS hS, by rw [fill_row (by decide)]; exact hf⟩, fillD⟩
  · intro i j k X hi hj hk hX
    exact ⟨_, _, X, between_at hj hi, between_at hi hk, shorten_no hj hk (floyd_no ineq_F hi hj hk hX.2), hX⟩
  · intro X hX
    rw [hn6, ← of0]
    refine ff178 (a := 1) (by decide) (I := fun _ _ Y => (Sme m0 Y ∧ Y.1 252 1 = 0) ∧ DD 1000000 Y) ?_ (fun _ _ _ h => h) (fun _ h => h.1) 6 0 n6 _ rfl hX
    intro i j Y hi hj ⟨⟨y1, y3⟩, y2⟩
    refine ⟨-1, low_no hi hj (Or.inr ?_), ⟨fun b hb => by rw [put_row (by omega)]; exact y1 b hb, by rw [put_nk (by omega)]; exact y3⟩, fun k hk => by rw [put_ne (by decide)]; exact y2 k hk⟩
    rw [y2 _ (by omega)]
    by_cases q : 6 * i + j = 1
    · rw [if_pos q]; decide
    · rw [if_neg q]; decide
theorem findA {L : Nat} (hL : L ≤ 40) {m : xMem} (h : AlF L m) (hk : m.1 251 2 = -1) : vOk (fun m1 => Sme m m1 ∧ m1.1 252 1 = 0) (fX8_find 251 167 m) := by
  obtain ⟨n, hn⟩ := fuE 1 (by omega)
  have x0 : xIn (0 : Int32) 10 = true := by decide
  have hp : Sme m (xPut m 251 2 2) := fun b hb => put_row (by omega)
  have ht := takesA h
  obtain ⟨s2, s3, s4, s5, s6, s7, s8, s10, s11⟩ := id h
  rw [fX8_find, fX8_find_0, hn, fX8_find_4, s2, xLet_e, if_neg (by decide), if_neg (by decide), x0, cond_e, cl0, xLet_e, show 167 + 33 + 2 * 0 = 200 from rfl, xLet_e, ht, bind_e, if_neg (show ¬ (1 : Int32) = 0 by decide), s7, xLet_e, xLet_e, fX8_find_48, xLet_e, xLet_e, show ((0 : Int32) <<< ((2 : Int32) &&& 31)) ||| (1 + 1) = 2 by decide, fX8_find_4, s2, xLet_e, if_pos (by decide), fX8_find_56, hk, xLet_e, if_pos (by decide), xLet_e]
  refine vOk_bind (for0 hL h hp) fun X hX => ?_
  refine vOk_bind (for1 h hX.1 hX.2) fun Y hY => ?_
  exact vOk_some hY
theorem card_all {F : Nat → Int32} : ∀ n, (∀ j, j < n → F j = -1) → card F n = 0 := by
  intro n
  induction n with
  | zero => intro _; rfl
  | succ n ih =>
    intro h
    show card F n + (if F n = -1 then 0 else 1) = 0
    rw [ih (fun j hj => h j (by omega)), if_pos (h n (by omega))]
theorem buildA {L T : Nat} {md : Int32} (m : xMem) : ∃ m1, fX9_buildAlone 167 (Int32.ofNat L) md (2 * Int32.ofNat T) m = some m1 ∧ m1.1 167 7 = 2 ∧ AlF L m1 ∧ m1.1 200 8 = md ∧ (∀ k, k < 6 → k ≠ 1 → m1.1 183 k = 0) ∧ m1.1 183 1 = Int32.ofNat (2 * T) ∧ m1.1 182 4 = Int32.ofNat (2 * T) ∧ m1.1 200 9 = 0 ∧ m1.1 200 10 = 0 ∧ m1.1 200 11 = 0 ∧ (∀ j, j < 80 → m1.1 201 j = -1) := by
  have x6 : xIn (0 : Int32) 6 = true := by decide
  have y6 : xIn (1 : Int32) 6 = true := by decide
  have x10 : xIn (0 : Int32) 10 = true := by decide
  have d2 : (2 : Int32) * Int32.ofNat T = Int32.ofNat (2 * T) := (Int32.ofNat_mul 2 T).symm
  obtain ⟨a1, e1, c1, f1, r1⟩ := build2 182 1 (xPut (xPut (xPut m 167 7 2) 167 8 1) 167 9 0)
  obtain ⟨a2, e2, c2, f2, r2⟩ := build2 185 1 a1
  obtain ⟨a3, e3, ⟨g1, g2, g3, g4, g6, g7⟩, ⟨h9, h10, h11, h12, h13⟩, hs, r3⟩ := buildL (Int32.ofNat L) a2
  have q167 : a3.1 167 = (xPut (xPut (xPut m 167 7 2) 167 8 1) 167 9 0).1 167 := by rw [r3 167 (by omega) (by omega), r2 167 (by omega) (by omega) (by omega), r1 167 (by omega) (by omega) (by omega)]
  have q7 : a3.1 167 7 = 2 := by rw [q167, put_nk (by decide), put_nk (by decide), put_at]
  have q8 : a3.1 167 8 = 1 := by rw [q167, put_nk (by decide), put_at]
  have q183 : a3.1 183 = a1.1 183 := by rw [r3 183 (by omega) (by omega), r2 183 (by omega) (by omega) (by omega)]
  have q182 : a3.1 182 4 = 0 := by rw [r3 182 (by omega) (by omega), r2 182 (by omega) (by omega) (by omega)]; exact c1
  have hh : fX9_hasHall 167 0 (xPut a3 200 8 md) = some (1, xPut a3 200 8 md) := hasH (by rw [put_ne (by decide)]; exact q7)
  have ch : fX2_change 182 1 0 (2 * Int32.ofNat T) (xPut a3 200 8 md) = some (xPut (xPut (xPut a3 200 8 md) 183 1 (Int32.ofNat (2 * T))) 182 4 (Int32.ofNat (2 * T))) := by
    rw [fX2_change, fX2_change_0, xLet_e, xLet_e, if_neg (by decide), if_neg (by decide), show xIn ((0 : Int32) * 6 + 1) 12 = true by decide, cond_e, show ((0 : Int32) * 6 + 1).toNatClampNeg = 1 by decide, show 182 + 1 = 183 from rfl, put_ne (by decide), q183, f1 1 (by omega), xLet_e, Int32.zero_add, d2, xLet_e, cond_e, xLet_e, put_ne (by decide), put_ne (by decide), q182, xLet_e, Int32.zero_add, xLet_e, xLet_e, fX2_change_44]
  have ct : fX9_comeTo 167 0 1 0 (2 * Int32.ofNat T) (xPut a3 200 8 md) = some (xPut (xPut (xPut a3 200 8 md) 183 1 (Int32.ofNat (2 * T))) 182 4 (Int32.ofNat (2 * T))) := by
    rw [fX9_comeTo, fX9_comeTo_0, if_pos (by decide), hh, bind_e, if_neg (show ¬ (1 : Int32) = 0 by decide), x6, cond_e, cl0, xLet_e, show 167 + 15 + 3 * 0 = 182 from rfl, ch, bind_e, fX9_comeTo_40]
  refine ⟨xPut (xPut (xPut a3 200 8 md) 183 1 (Int32.ofNat (2 * T))) 182 4 (Int32.ofNat (2 * T)), ?_, ?_, ⟨?_, ?_, ?_, ?_, ?_, ?_, ?_, ?_, ?_⟩, ?_, ?_, ?_, ?_, ?_, ?_, ?_, ?_⟩
  · rw [fX9_buildAlone, fX9_buildAlone_0, xLet_e, xLet_e, xLet_e, x6, cond_e, cl0, xLet_e, show 167 + 15 + 3 * 0 = 182 from rfl, e1, bind_e, y6, cond_e, cl1, xLet_e, show 167 + 15 + 3 * 1 = 185 from rfl, e2, bind_e, x10, cond_e, xLet_e, show 167 + 33 + 2 * 0 = 200 from rfl, e3, bind_e, cond_e, xLet_e, xLet_e, ct, bind_e]
  · rw [put_ne (by decide), put_ne (by decide), put_ne (by decide)]; exact q7
  · rw [put_ne (by decide), put_ne (by decide), put_ne (by decide)]; exact q8
  · rw [put_ne (by decide), put_ne (by decide), put_nk (by decide)]; exact g1
  · rw [put_ne (by decide), put_ne (by decide), put_nk (by decide)]; exact g2
  · rw [put_ne (by decide), put_ne (by decide), put_nk (by decide)]; exact g3
  · rw [put_ne (by decide), put_ne (by decide), put_nk (by decide)]; exact g4
  · rw [put_ne (by decide), put_ne (by decide), put_nk (by decide)]; exact g6
  · rw [put_ne (by decide), put_ne (by decide), put_nk (by decide)]; exact g7
  · rw [put_ne (by decide), put_ne (by decide), put_nk (by decide)]; exact h12
  · rw [put_ne (by decide), put_ne (by decide), put_nk (by decide)]; exact h13
  · rw [put_ne (by decide), put_ne (by decide), put_at]
  · intro k hk hn
    rw [put_ne (by decide), put_nk hn, put_ne (by decide), q183]
    exact f1 k (by omega)
  · rw [put_ne (by decide), put_at]
  · rw [put_at]
  · rw [put_ne (by decide), put_ne (by decide), put_nk (by decide)]; exact h9
  · rw [put_ne (by decide), put_ne (by decide), put_nk (by decide)]; exact h10
  · rw [put_ne (by decide), put_ne (by decide), put_nk (by decide)]; exact h11
  · intro j hj
    rw [put_ne (by decide), put_ne (by decide), put_ne (by decide)]
    exact hs j hj
theorem k80 : ∀ k, k < 80 → ¬ (80 : Int32) ≤ Int32.ofNat k ∧ xIn (Int32.ofNat k) 80 = true ∧ (Int32.ofNat k).toNatClampNeg = k := by decide
theorem clear80 {L w md a4 : Int32} : ∀ (e k n : Nat) (q : xMem), k + e = 80 → (∀ j, j < k → q.1 314 j = 0) → ∃ q', fX12_carries_3 291 L w md a4 (n + 1 + e) (Int32.ofNat k) q = fX12_carries_33 291 L w md a4 xFuel 0 0 0 q' ∧ ∀ j, j < 80 → q'.1 314 j = 0 := by
  intro e
  induction e with
  | zero =>
    intro k n q hk h
    have hk : k = 80 := by omega
    subst hk
    exact ⟨q, by rw [fX12_carries_3, if_pos (by decide)], h⟩
  | succ e ih =>
    intro k n q hk h
    obtain ⟨a, b, c⟩ := k80 k (by omega)
    rw [show n + 1 + (e + 1) = n + 1 + e + 1 from rfl, fX12_carries_3, if_neg a, b, cond_e, c, xLet_e, xLet_e, addN1]
    refine ih (k + 1) n _ (by omega) ?_
    intro j hj
    rw [show 291 + 23 = 314 from rfl, put_upd]
    by_cases z : j = k
    · subst z
      exact upd_eq
    · rw [upd_ne z]
      exact h j (by omega)
theorem carr_sim {L T : Nat} (hL2 : 2 ≤ L) (hL : L ≤ 40) (hT : T ≤ 999) (w md : Int32) (m q : xMem) : ∃ z m' q', fX11_carriedAlone 0 (Int32.ofNat L) w md (Int32.ofNat T) m = some (z, m') ∧ fX12_carries 291 (Int32.ofNat L) w md (Int32.ofNat T) q = some (z, q') := by
  obtain ⟨n, hn⟩ := fuE T (by omega)
  obtain ⟨n80, hn80⟩ := fuE 80 (by omega)
  have x10 : xIn (0 : Int32) 10 = true := by decide
  obtain ⟨a, e1, b7, hF, b8, b183, bR, bR4, b9, b10, b11, hs⟩ := buildA (L := L) (T := T) (md := md) m
  have hF1 : AlF L (xPut a 251 2 (-1)) := by
    unfold AlF
    rw [put_row (by decide), put_row (by decide)]
    exact hF
  obtain ⟨c, e2, hS, hfl⟩ := findA hL hF1 put_at
  have p167 : c.1 167 = a.1 167 := by rw [hS 167 (by omega), put_row (by decide)]
  have p200 : c.1 200 = a.1 200 := by rw [hS 200 (by omega), put_row (by decide)]
  have p201 : c.1 201 = a.1 201 := by rw [hS 201 (by omega), put_row (by decide)]
  have p182 : c.1 182 = a.1 182 := by rw [hS 182 (by omega), put_row (by decide)]
  have p183 : c.1 183 = a.1 183 := by rw [hS 183 (by omega), put_row (by decide)]
  obtain ⟨q1, f1, hz⟩ := clear80 (L := Int32.ofNat L) (w := w) (md := md) (a4 := Int32.ofNat T) 80 0 n80 q rfl (fun j h => absurd h (by omega))
  have hA : AlM L md (Int32.ofNat 0) (Int32.ofNat (2 * T)) 0 c q1 := by
    obtain ⟨s2, s3, s4, s5, s6, s7, s8, s10, s11⟩ := hF
    refine ⟨⟨?_, ?_, ?_, ?_, ?_, ?_, ?_, ?_, ?_, ?_, ?_, hfl, ?_⟩, ?_, ?_, ?_, ?_, ?_, ?_⟩
    · rw [p167]; exact b7
    · rw [p167]; exact s2
    · rw [p200]; exact s3
    · rw [p200]; exact s4
    · rw [p200]; exact s5
    · rw [p200]; exact s6
    · rw [p200]; exact s7
    · rw [p200]; exact s8
    · rw [p200]; exact b8
    · rw [p200]; exact s10
    · rw [p200]; exact s11
    · intro k hk hn
      rw [p183]
      exact b183 k hk hn
    · intro j hj
      rw [p201]
      exact Or.inl ⟨hz j hj, hs j hj⟩
    · rw [p200, p201, b9, card_all 80 hs]
      rfl
    · rw [p200, b10]; rfl
    · rw [p183, bR]
    · rw [p182, bR4]
    · rw [p200, b11]
  obtain ⟨z, m', q', g1, g2⟩ := loop_sim hL2 hL hT (w := w) T 0 n n c q1 0 (2 * T) 0 (by omega) hA (by omega) (by omega)
  refine ⟨z, m', q', ?_, ?_⟩
  · rw [fX11_carriedAlone, fX11_carriedAlone_0, xLet_e, show 0 + 167 = 167 from rfl, e1, bind_e, fX6_forgetRoutes, fX6_forgetRoutes_0, fX8_forget, fX8_forget_0, xLet_e, bind_e, bind_e, show 0 + 250 + 1 = 251 from rfl, e2, bind_e, x10, cond_e, cl0, xLet_e, show 167 + 33 + 2 * 0 = 200 from rfl, hn, ← of0]
    exact g1
  · rw [fX12_carries, fX12_carries_0, hn80, ← of0, f1, hn, ← of0]
    exact g2
/-- the two come to the same from any two memories -/
def Sim (F G : xMem → Option (Int32 × xMem)) : Prop := ∀ m q, ∃ z m' q', F m = some (z, m') ∧ G q = some (z, q')
theorem sim_no {F G : xMem → Option (Int32 × xMem)} {z : Int32} (h1 : ∀ m, F m = some (z, m)) (h2 : ∀ m, G m = some (z, m)) : Sim F G := fun m q => ⟨z, m, q, h1 m, h2 q⟩
theorem both2 (a lo hi : Int32) {p q : Nat} (hp : lo.toInt = p) (hq : hi.toInt = q) : ((∀ m, fX11_within a lo hi m = some (0, m)) ∧ ∀ m, fX12_in a lo hi m = some (0, m)) ∨ (((∀ m, fX11_within a lo hi m = some (1, m)) ∧ ∀ m, fX12_in a lo hi m = some (1, m)) ∧ ∃ k, p ≤ k ∧ k ≤ q ∧ a = Int32.ofNat k) := by
  by_cases h1 : a < lo
  · exact Or.inl ⟨fun _ => within_no (Or.inl h1), fun _ => in_no (Or.inl h1)⟩
  · by_cases h2 : hi < a
    · exact Or.inl ⟨fun _ => within_no (Or.inr h2), fun _ => in_no (Or.inr h2)⟩
    · exact Or.inr ⟨⟨fun _ => within_yes h1 h2, fun _ => in_yes h1 h2⟩, ofNat_in hp hq h1 h2⟩
theorem mayAlone0 {a b : Int32} (h : ∀ m, fX11_within a 2 40 m = some (0, m)) (m : xMem) : fX11_mayStandAlone a b m = some (0, m) := by
  rw [fX11_mayStandAlone, fX11_mayStandAlone_0, h, bind_e, if_pos rfl, fX11_mayStandAlone_25, fX11_mayStandAlone_26]
  rfl
theorem mayAlone1 {a b : Int32} (h : ∀ m, fX11_within a 2 40 m = some (1, m)) (h2 : ∀ m, fX11_within b 1 999 m = some (0, m)) (m : xMem) : fX11_mayStandAlone a b m = some (0, m) := by
  rw [fX11_mayStandAlone, fX11_mayStandAlone_0, h, bind_e, if_neg (show ¬ (1 : Int32) = 0 by decide), h2, bind_e, if_pos rfl, fX11_mayStandAlone_25, fX11_mayStandAlone_26]
  rfl
theorem mayAlone2 {a b : Int32} (h : ∀ m, fX11_within a 2 40 m = some (1, m)) (h2 : ∀ m, fX11_within b 1 999 m = some (1, m)) (m : xMem) : fX11_mayStandAlone a b m = some (1, m) := by
  rw [fX11_mayStandAlone, fX11_mayStandAlone_0, h, bind_e, if_neg (show ¬ (1 : Int32) = 0 by decide), h2, bind_e, if_neg (show ¬ (1 : Int32) = 0 by decide), fX11_mayStandAlone_26]
  rfl
theorem sim_alone (a b c e : Int32) : Sim (fX11_alone 0 a b c e) (fX12_alone 291 a b c e) := by
  have o1 : ¬ (1 : Int32) = 0 := by decide
  rcases both2 a 2 40 (p := 2) (q := 40) (by decide) (by decide) with ⟨p1, q1⟩ | ⟨⟨p1, q1⟩, L, hL2, hL, eL⟩
  · refine sim_no (z := -1) (fun m => ?_) (fun m => ?_)
    · rw [fX11_alone, fX11_alone_0]
      rcases both b 0 10 with ⟨x, _⟩ | ⟨x, _⟩
      · rw [x, bind_e, if_pos rfl, fX11_alone_28]
      · rw [x, bind_e, if_neg o1]
        rcases both c 0 1 with ⟨y, _⟩ | ⟨y, _⟩
        · rw [y, bind_e, if_pos rfl, fX11_alone_28]
        · rw [y, bind_e, if_neg o1, mayAlone0 p1, bind_e, if_neg (show ¬ ¬ (0 : Int32) = 0 from fun f => f rfl), fX11_alone_28]
    · rw [fX12_alone, fX12_alone_0, q1, bind_e, if_pos rfl, fX12_alone_53, fX12_alone_54]
  rcases both b 0 10 with ⟨p2, q2⟩ | ⟨p2, q2⟩
  · exact sim_no (z := -1) (fun m => by rw [fX11_alone, fX11_alone_0, p2, bind_e, if_pos rfl, fX11_alone_28]) (fun m => by rw [fX12_alone, fX12_alone_0, q1, bind_e, if_neg o1, q2, bind_e, if_pos rfl, fX12_alone_53, fX12_alone_54])
  rcases both c 0 1 with ⟨p3, q3⟩ | ⟨p3, q3⟩
  · exact sim_no (z := -1) (fun m => by rw [fX11_alone, fX11_alone_0, p2, bind_e, if_neg o1, p3, bind_e, if_pos rfl, fX11_alone_28]) (fun m => by rw [fX12_alone, fX12_alone_0, q1, bind_e, if_neg o1, q2, bind_e, if_neg o1, q3, bind_e, if_pos rfl, fX12_alone_53, fX12_alone_54])
  rcases both2 e 1 999 (p := 1) (q := 999) (by decide) (by decide) with ⟨p4, q4⟩ | ⟨⟨p4, q4⟩, T, hT1, hT, eT⟩
  · exact sim_no (z := -1) (fun m => by rw [fX11_alone, fX11_alone_0, p2, bind_e, if_neg o1, p3, bind_e, if_neg o1, mayAlone1 p1 p4, bind_e, if_neg (show ¬ ¬ (0 : Int32) = 0 from fun f => f rfl), fX11_alone_28]) (fun m => by rw [fX12_alone, fX12_alone_0, q1, bind_e, if_neg o1, q2, bind_e, if_neg o1, q3, bind_e, if_neg o1, q4, bind_e, if_pos rfl, fX12_alone_53, fX12_alone_54])
  · intro m q
    subst eL
    subst eT
    obtain ⟨z, m', q', g1, g2⟩ := carr_sim hL2 hL hT b c m q
    refine ⟨z, m', q', ?_, ?_⟩
    · rw [fX11_alone, fX11_alone_0, p2, bind_e, if_neg o1, p3, bind_e, if_neg o1, mayAlone2 p1 p4, bind_e, if_pos o1, g1, bind_e]
    · rw [fX12_alone, fX12_alone_0, q1, bind_e, if_neg o1, q2, bind_e, if_neg o1, q3, bind_e, if_neg o1, q4, bind_e, if_neg o1, g2, bind_e, fX12_alone_54]
theorem k11 : ∀ k, k < 11 → ¬ (10 : Int32) < Int32.ofNat k ∧ ¬ (11 : Int32) ≤ Int32.ofNat k := by decide
theorem cross_loop {L T : Nat} (hL2 : 2 ≤ L) (hL : L ≤ 40) (hT : T ≤ 999) {s : Int32} : ∀ (e k n1 n2 : Nat) (m q : xMem), k + e = 11 → ∃ z m' q', fX11_crossing_22 0 (Int32.ofNat L) (Int32.ofNat T) (n1 + 1 + e) s (Int32.ofNat k) m = some (z, m') ∧ fX12_crossing_35 291 (Int32.ofNat L) (Int32.ofNat T) (n2 + 1 + e) s (Int32.ofNat k) q = some (z, q') := by
  intro e
  induction e with
  | zero =>
    intro k n1 n2 m q hk
    have hk : k = 11 := by omega
    subst hk
    exact ⟨-1, m, q, by rw [fX11_crossing_22, if_pos (by decide)], by rw [fX12_crossing_35, if_pos (by decide)]⟩
  | succ e ih =>
    intro k n1 n2 m q hk
    obtain ⟨a, b⟩ := k11 k (by omega)
    obtain ⟨z, m1, q1, g1, g2⟩ := carr_sim hL2 hL hT (Int32.ofNat k) 0 m q
    rw [show n1 + 1 + (e + 1) = n1 + 1 + e + 1 from rfl, show n2 + 1 + (e + 1) = n2 + 1 + e + 1 from rfl, fX11_crossing_22, if_neg a, g1, bind_e, fX12_crossing_35, if_neg b, g2, bind_e]
    by_cases y : z < s
    · rw [if_pos y, if_pos y, xLet_e, xLet_e, addN1]
      exact ih (k + 1) n1 n2 m1 q1 (by omega)
    · rw [if_neg y, if_neg y]
      exact ⟨Int32.ofNat k, m1, q1, rfl, rfl⟩
theorem sim_crossing (a b : Int32) : Sim (fX11_crossing 0 a b) (fX12_crossing 291 a b) := by
  have o1 : ¬ (1 : Int32) = 0 := by decide
  have o0 : ¬ ¬ (0 : Int32) = 0 := fun f => f rfl
  rcases both2 a 2 40 (p := 2) (q := 40) (by decide) (by decide) with ⟨p1, q1⟩ | ⟨⟨p1, q1⟩, L, hL2, hL, eL⟩
  · exact sim_no (z := -1) (fun m => by rw [fX11_crossing, fX11_crossing_0, mayAlone0 p1, bind_e, if_neg o0]) (fun m => by rw [fX12_crossing, fX12_crossing_0, q1, bind_e, if_pos rfl, fX12_crossing_21])
  rcases both2 b 1 999 (p := 1) (q := 999) (by decide) (by decide) with ⟨p4, q4⟩ | ⟨⟨p4, q4⟩, T, hT1, hT, eT⟩
  · exact sim_no (z := -1) (fun m => by rw [fX11_crossing, fX11_crossing_0, mayAlone1 p1 p4, bind_e, if_neg o0]) (fun m => by rw [fX12_crossing, fX12_crossing_0, q1, bind_e, if_neg o1, q4, bind_e, if_neg o0, fX12_crossing_21])
  · intro m q
    subst eL
    subst eT
    obtain ⟨n, hn⟩ := fuE 11 (by omega)
    obtain ⟨s, m1, q1', g1, g2⟩ := carr_sim hL2 hL hT 0 1 m q
    obtain ⟨z, m', q', f1, f2⟩ := cross_loop hL2 hL hT (s := s) 11 0 n n m1 q1' rfl
    refine ⟨z, m', q', ?_, ?_⟩
    · rw [fX11_crossing, fX11_crossing_0, mayAlone2 p1 p4, bind_e, if_pos o1, g1, bind_e, hn]
      exact f1
    · rw [fX12_crossing, fX12_crossing_0, q1, bind_e, if_neg o1, q4, bind_e, if_pos o1, g2, bind_e, hn]
      exact f2
theorem ca_alone {m : xMem} {a1 a2 a3 a4 : Int32} (h : Inv m) : vOk (fun p : Int32 × xMem => Inv p.2 ∧ fX11_alone 0 a1 a2 a3 a4 m = some p) (fX11_alone 0 a1 a2 a3 a4 m) := by
  obtain ⟨p, e, hp⟩ := cn_alone (a1 := a1) (a2 := a2) (a3 := a3) (a4 := a4) h
  exact ⟨p, e, hp, e⟩
theorem ra_alone {m : xMem} {a1 a2 a3 a4 : Int32} {p : Int32 × xMem} (_h : Inv m) (hp : Inv p.2 ∧ fX11_alone 0 a1 a2 a3 a4 m = some p) : vOk (fun q : Int32 × xMem => Inv q.2 ∧ p.1 = q.1) (fX12_alone 291 a1 a2 a3 a4 p.2) := by
  obtain ⟨q, e, hq⟩ := rn_alone (a1 := a1) (a2 := a2) (a3 := a3) (a4 := a4) hp.1
  obtain ⟨z, m1, q1, e1, e2⟩ := sim_alone a1 a2 a3 a4 m p.2
  have w1 : p = (z, m1) := Option.some.inj (hp.2.symm.trans e1)
  have w2 : q = (z, q1) := Option.some.inj (e.symm.trans e2)
  exact ⟨q, e, hq, by rw [w1, w2]⟩
theorem ca_crossing {m : xMem} {a1 a2 : Int32} (h : Inv m) : vOk (fun p : Int32 × xMem => Inv p.2 ∧ fX11_crossing 0 a1 a2 m = some p) (fX11_crossing 0 a1 a2 m) := by
  obtain ⟨p, e, hp⟩ := cn_crossing (a1 := a1) (a2 := a2) h
  exact ⟨p, e, hp, e⟩
theorem ra_crossing {m : xMem} {a1 a2 : Int32} {p : Int32 × xMem} (_h : Inv m) (hp : Inv p.2 ∧ fX11_crossing 0 a1 a2 m = some p) : vOk (fun q : Int32 × xMem => Inv q.2 ∧ p.1 = q.1) (fX12_crossing 291 a1 a2 p.2) := by
  obtain ⟨q, e, hq⟩ := rn_crossing (a1 := a1) (a2 := a2) hp.1
  obtain ⟨z, m1, q1, e1, e2⟩ := sim_crossing a1 a2 m p.2
  have w1 : p = (z, m1) := Option.some.inj (hp.2.symm.trans e1)
  have w2 : q = (z, q1) := Option.some.inj (e.symm.trans e2)
  exact ⟨q, e, hq, by rw [w1, w2]⟩
