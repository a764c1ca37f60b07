/-! a small logic of what returns; the class's search for routes, its loops -/
def vOk {α : Type} (P : α → Prop) (o : Option α) : Prop := ∃ r, o = some r ∧ P r
theorem vOk_some {α : Type} {P : α → Prop} {r : α} (h : P r) : vOk P (some r) := ⟨r, rfl, h⟩
theorem vOk_eq {α : Type} {P : α → Prop} {o q : Option α} (e : o = q) (h : vOk P q) : vOk P o := e ▸ h
theorem vOk_bind {α β : Type} {Q : α → Prop} {P : β → Prop} {o : Option α} {f : α → Option β} (h : vOk Q o) (k : ∀ r, Q r → vOk P (f r)) : vOk P (o.bind f) := by
  obtain ⟨r, e, q⟩ := h
  rw [e]
  exact k r q
theorem vOk_mono {α : Type} {P Q : α → Prop} {o : Option α} (h : vOk P o) (k : ∀ r, P r → Q r) : vOk Q o := by
  obtain ⟨r, e, q⟩ := h
  exact ⟨r, e, k r q⟩
theorem vOk_let {α β : Type} {P : β → Prop} {a : α} {f : α → Option β} (h : ∀ x, x = a → vOk P (f x)) : vOk P (xLet a f) := h a rfl
theorem xIn_rng {x N : Int32} {n : Nat} (hN : N.toInt = n) (h0 : ¬ x < 0) (h1 : ¬ N ≤ x) : xIn x n = true := by
  rw [Int32.lt_iff_toInt_lt, show (0 : Int32).toInt = 0 by decide] at h0
  rw [Int32.le_iff_toInt_le, hN] at h1
  have e : x.toNatClampNeg = x.toInt.toNat := rfl
  unfold xIn
  rw [Bool.and_eq_true, Bool.not_eq_true', decide_eq_false_iff_not, decide_eq_true_eq, Int32.lt_iff_toInt_lt, show (0 : Int32).toInt = 0 by decide, e]
  exact ⟨h0, by omega⟩
theorem n36 : (36 : Int32).toInt = (36 : Nat) := by decide
theorem between_ok (r : Nat) (a b : Int32) (m : xMem) : ∃ z, fX8_between r a b m = some (z, m) := by
  rw [fX8_between, fX8_between_0, xLet_e, xLet_e]
  by_cases h0 : a * 6 + b < 0
  · rw [if_pos h0, fX8_between_29, fX8_between_31]
    exact ⟨_, Eq.refl _⟩
  · rw [if_neg h0]
    by_cases h1 : 36 ≤ a * 6 + b
    · rw [if_pos h1, fX8_between_29, fX8_between_31]
      exact ⟨_, Eq.refl _⟩
    · rw [if_neg h1, xIn_rng n36 h0 h1, cond_e, xLet_e, fX8_between_31]
      exact ⟨_, Eq.refl _⟩
theorem shorten_ok (r : Nat) (a b c : Int32) (m : xMem) : ∃ m1, fX8_shorten r a b c m = some m1 ∧ ∀ q, q ≠ r + 2 → m1.1 q = m.1 q := by
  rw [fX8_shorten, fX8_shorten_0, xLet_e, xLet_e]
  by_cases h0 : a * 6 + b < 0
  · rw [if_pos h0, fX8_shorten_42]
    exact ⟨_, Eq.refl _, fun _ _ => rfl⟩
  · rw [if_neg h0]
    by_cases h1 : 36 ≤ a * 6 + b
    · rw [if_pos h1, fX8_shorten_42]
      exact ⟨_, Eq.refl _, fun _ _ => rfl⟩
    · rw [if_neg h1, xIn_rng n36 h0 h1, cond_e, xLet_e]
      by_cases h2 : m.1 (r + 2) (a * 6 + b).toNatClampNeg ≤ c
      · rw [if_pos h2, fX8_shorten_42]
        exact ⟨_, Eq.refl _, fun _ _ => rfl⟩
      · rw [if_neg h2, cond_e, xLet_e, fX8_shorten_42]
        exact ⟨_, Eq.refl _, fun q hq => put_row hq⟩
theorem ff128 {a0 a1 : Nat} {a2 : Int32} {rec109 : Int32 → xMem → Option xMem} {rec118 : Int32 → Int32 → xMem → Option xMem} {P I : xMem → Prop} {i j : Nat} (hj : j < 6)
    (hB : ∀ k m, k < 6 → I m → ∃ z1 z2 m', fX8_between a0 (Int32.ofNat j) (Int32.ofNat i) m = some (z1, m) ∧ fX8_between a0 (Int32.ofNat i) (Int32.ofNat k) m = some (z2, m) ∧ fX8_shorten a0 (Int32.ofNat j) (Int32.ofNat k) (z1 + z2) m = some m' ∧ I m')
    (hrec : ∀ m, I m → vOk P (rec118 (Int32.ofNat i) (Int32.ofNat (j + 1)) m)) :
    ∀ (e k n : Nat) (m : xMem), k + e = 6 → I m → vOk P (fX8_findFor_128 a0 a1 a2 rec109 rec118 (n + 1 + e) (Int32.ofNat i) (Int32.ofNat j) (Int32.ofNat k) m) := by
  intro e
  induction e with
  | zero =>
    intro k n m hk hI
    have hk : k = 6 := by omega
    subst hk
    rw [fX8_findFor_128, if_pos le66, xLet_e, (k6 j hj).2.2.2]
    exact hrec m hI
  | succ e ih =>
    intro k n m hk hI
    obtain ⟨a1, a2, a3, a4⟩ := k6 k (by omega)
    obtain ⟨z1, z2, m', e1, e2, e3, hI'⟩ := hB k m (by omega) hI
    rw [show n + 1 + (e + 1) = n + 1 + e + 1 from rfl, fX8_findFor_128, if_neg a1, e1, bind_e, e2, bind_e, xLet_e, e3, bind_e, xLet_e, a4]
    exact ih (k + 1) n m' (by omega) hI'
theorem ff118 {a0 a1 : Nat} {a2 : Int32} {rec109 : Int32 → xMem → Option xMem} {P I : xMem → Prop} {i : Nat} (hi : i < 6)
    (hB : ∀ j k m, j < 6 → k < 6 → I m → ∃ z1 z2 m', fX8_between a0 (Int32.ofNat j) (Int32.ofNat i) m = some (z1, m) ∧ fX8_between a0 (Int32.ofNat i) (Int32.ofNat k) m = some (z2, m) ∧ fX8_shorten a0 (Int32.ofNat j) (Int32.ofNat k) (z1 + z2) m = some m' ∧ I m')
    (hrec : ∀ m, I m → vOk P (rec109 (Int32.ofNat (i + 1)) m)) :
    ∀ (e j n : Nat) (m : xMem), j + e = 6 → I m → vOk P (fX8_findFor_118 a0 a1 a2 rec109 (n + 1 + e) (Int32.ofNat i) (Int32.ofNat j) m) := by
  intro e
  induction e with
  | zero =>
    intro j n m hk hI
    have hk : j = 6 := by omega
    subst hk
    rw [fX8_findFor_118, if_pos le66, xLet_e, (k6 i hi).2.2.2]
    exact hrec m hI
  | succ e ih =>
    intro j n m hk hI
    obtain ⟨a1, a2, a3, a4⟩ := k6 j (by omega)
    obtain ⟨n6, hn6⟩ := fuE 6 (by omega)
    rw [show n + 1 + (e + 1) = n + 1 + e + 1 from rfl, fX8_findFor_118, if_neg a1, hn6, ← of0]
    exact ff128 (by omega) (fun k m hk hI => hB j k m (by omega) hk hI) (fun m hI => ih (j + 1) n m (by omega) hI) 6 0 n6 m rfl hI
theorem ff109 {a0 a1 : Nat} {a2 : Int32} {P I : xMem → Prop}
    (hB : ∀ i j k m, i < 6 → j < 6 → k < 6 → I m → ∃ z1 z2 m', fX8_between a0 (Int32.ofNat j) (Int32.ofNat i) m = some (z1, m) ∧ fX8_between a0 (Int32.ofNat i) (Int32.ofNat k) m = some (z2, m) ∧ fX8_shorten a0 (Int32.ofNat j) (Int32.ofNat k) (z1 + z2) m = some m' ∧ I m')
    (hend : ∀ m, I m → vOk P (fX8_findFor_178 a0 a1 a2 xFuel 0 m)) :
    ∀ (e i n : Nat) (m : xMem), i + e = 6 → I m → vOk P (fX8_findFor_109 a0 a1 a2 (n + 1 + e) (Int32.ofNat i) m) := by
  intro e
  induction e with
  | zero =>
    intro i n m hk hI
    have hk : i = 6 := by omega
    subst hk
    rw [fX8_findFor_109, if_pos le66]
    exact hend m hI
  | succ e ih =>
    intro i n m hk hI
    obtain ⟨a1, a2, a3, a4⟩ := k6 i (by omega)
    obtain ⟨n6, hn6⟩ := fuE 6 (by omega)
    rw [show n + 1 + (e + 1) = n + 1 + e + 1 from rfl, fX8_findFor_109, if_neg a1, hn6, ← of0]
    exact ff118 (by omega) (fun j k m hj hk hI => hB i j k m (by omega) hj hk hI) (fun m hI => ih (i + 1) n m (by omega) hI) 6 0 n6 m rfl hI
theorem i72 : ∀ a, a < 2 → ∀ i, i < 6 → ∀ j, j < 6 → xIn (Int32.ofNat a * 36 + Int32.ofNat i * 6 + Int32.ofNat j) 72 = true ∧ (Int32.ofNat a * 36 + Int32.ofNat i * 6 + Int32.ofNat j).toNatClampNeg = 36 * a + 6 * i + j := by decide +kernel
theorem ff187 {a0 a1 a : Nat} (ha : a < 2) {rec178 : Int32 → xMem → Option xMem} {P : xMem → Prop} {I : Nat → xMem → Prop} {i : Nat} (hi : i < 6)
    (hL : ∀ j m, j < 6 → I j m → ∃ z, fX8_lowestFirst a0 a1 (Int32.ofNat a) (Int32.ofNat i) (Int32.ofNat j) m = some (z, m) ∧ I (j + 1) (xPut m (a0 + 1) (36 * a + 6 * i + j) z))
    (hrec : ∀ m, I 6 m → vOk P (rec178 (Int32.ofNat (i + 1)) m)) :
    ∀ (e j n : Nat) (m : xMem), j + e = 6 → I j m → vOk P (fX8_findFor_187 a0 a1 (Int32.ofNat a) rec178 (n + 1 + e) (Int32.ofNat i) (Int32.ofNat j) m) := by
  intro e
  induction e with
  | zero =>
    intro j n m hk hI
    have hk : j = 6 := by omega
    subst hk
    rw [fX8_findFor_187, if_pos le66, xLet_e, (k6 i hi).2.2.2]
    exact hrec m hI
  | succ e ih =>
    intro j n m hk hI
    obtain ⟨a1, a2, a3, a4⟩ := k6 j (by omega)
    obtain ⟨z, e1, hI'⟩ := hL j m (by omega) hI
    obtain ⟨b1, b2⟩ := i72 a ha i hi j (by omega)
    rw [show n + 1 + (e + 1) = n + 1 + e + 1 from rfl, fX8_findFor_187, if_neg a1, xLet_e, xLet_e, xLet_e, xLet_e, e1, bind_e, b1, cond_e, b2, xLet_e, xLet_e, a4]
    exact ih (j + 1) n _ (by omega) hI'
theorem ff178 {a0 a1 a : Nat} (ha : a < 2) {P : xMem → Prop} {I : Nat → Nat → xMem → Prop}
    (hL : ∀ i j m, i < 6 → j < 6 → I i j m → ∃ z, fX8_lowestFirst a0 a1 (Int32.ofNat a) (Int32.ofNat i) (Int32.ofNat j) m = some (z, m) ∧ I i (j + 1) (xPut m (a0 + 1) (36 * a + 6 * i + j) z))
    (hN : ∀ i m, i < 6 → I i 6 m → I (i + 1) 0 m) (hE : ∀ m, I 6 0 m → P m) :
    ∀ (e i n : Nat) (m : xMem), i + e = 6 → I i 0 m → vOk P (fX8_findFor_178 a0 a1 (Int32.ofNat a) (n + 1 + e) (Int32.ofNat i) m) := by
  intro e
  induction e with
  | zero =>
    intro i n m hk hI
    have hk : i = 6 := by omega
    subst hk
    rw [fX8_findFor_178, if_pos le66]
    exact vOk_some (hE m hI)
  | succ e ih =>
    intro i n m hk hI
    obtain ⟨a1, a2, a3, a4⟩ := k6 i (by omega)
    obtain ⟨n6, hn6⟩ := fuE 6 (by omega)
    rw [show n + 1 + (e + 1) = n + 1 + e + 1 from rfl, fX8_findFor_178, if_neg a1, hn6, ← of0]
    exact ff187 ha (by omega) (fun j m hj hI => hL i j m (by omega) hj hI) (fun m hI => ih (i + 1) n m (by omega) (hN i m (by omega) hI)) 6 0 n6 m rfl hI
