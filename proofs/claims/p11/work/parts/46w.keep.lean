/-! the rows that are kept whole -/
theorem keepBC : ∀ a ∈ pKeep, ∀ j, BC a j = false := by
  intro a ha j
  have h := (show ∀ a ∈ pKeep, pHall.contains a = false ∧ pLink.contains a = false ∧ pBurst.contains a = false by decide +kernel) a ha
  unfold BC
  rw [h.1, h.2.1, h.2.2]
  rfl
theorem keepKC : ∀ a ∈ pKeep, ∀ j, KC a j = true := by
  intro a ha j
  unfold KC
  rw [show pKeep.contains a = true from List.contains_iff_mem.mpr ha, Bool.true_or, Bool.or_true, Bool.or_true]
theorem xC_pl {m : xMem} {a0 a b i sp dp n : Nat} (h : b ≠ a) : m.1 b i = (xCpy m a0 a sp dp n).1 b i := by
  show _ = (if b = a then va_cpy (m.1 a0) (m.1 a) sp dp n i else m.1 b i)
  rw [if_neg h]
theorem xC_eq {m : xMem} {a0 a n j : Nat} (h : j < n) : m.1 a0 j = (xCpy m a0 a 0 0 n).1 a j := by
  show _ = (if a = a then va_cpy (m.1 a0) (m.1 a) 0 0 n j else m.1 a j)
  rw [if_pos rfl]
  unfold va_cpy
  rw [if_pos (by omega)]
  show m.1 a0 j = m.1 a0 (0 + (j - 0))
  rw [Nat.sub_zero, Nat.zero_add]
