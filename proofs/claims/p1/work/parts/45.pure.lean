/-! THE PURE CLAIM: what the two answer alike on a fresh memory -/
def Alike (F G : xMem → Option (Int32 × xMem)) (m : xMem) : Prop := ∃ z m1 m2, F m = some (z, m1) ∧ G m1 = some (z, m2)
theorem alike_go {F G : xMem → Option (Int32 × xMem)} {m : xMem} {R : xMem → Option (Int32 × xMem)} (h : Alike F G m) (hR : ∀ q, ∃ m9, R q = some (1, m9)) : ∃ m9, ((F m).bind fun p => (G p.2).bind fun q => if p.1 = q.1 then R q.2 else some ((0 : Int32), q.2)) = some (1, m9) := by
  obtain ⟨z, m1, m2, h1, h2⟩ := h
  obtain ⟨m9, h3⟩ := hR m2
  exact ⟨m9, by rw [h1]; show ((G m1).bind _) = _; rw [h2]; show (if z = z then R m2 else _) = _; rw [if_pos rfl, h3]⟩
theorem fL_18_end {L : Nat} {xs : Nat → Int32} {n : Nat} {l3 : Int32} {m : xMem} (h : Int32.ofNat L - 8 < l3) : fL_18 L xs (n + 1) l3 m = some (1, m) := by
  unfold fL_18
  exact if_pos h
theorem fL_1390_to {L : Nat} {xs : Nat → Int32} {f : Int32 → xMem → Option (Int32 × xMem)} {l3 : Int32} {m : xMem} {r : Int32 × xMem} (h : f (l3 + 8) m = some r) : fL_1390 L xs f l3 m = some r := h
theorem end8 : Int32.ofNat 8 - 8 < (8 : Int32) := by decide
theorem add8 : (0 : Int32) + 8 = 8 := by decide
theorem fL_18_end8 {xs : Nat → Int32} {n : Nat} {m : xMem} {l3 : Int32} (h : l3 = 8) : fL_18 8 xs (n + 1) l3 m = some (1, m) := by
  subst h
  exact fL_18_end end8
theorem fL_1390_end {xs : Nat → Int32} {n : Nat} (m : xMem) : ∃ m9, fL_1390 8 xs (fL_18 8 xs (n + 1)) 0 m = some (1, m9) :=
  ⟨m, fL_1390_to (fL_18_end8 add8)⟩
theorem whole_short {L : Nat} {xs : Nat → Int32} (h : L < 8) : ∃ m9, fL_18 L xs xFuel 0 (mB 1610) = some (1, m9) := by
  refine ⟨mB 1610, ?_⟩
  show fL_18 L xs (4999999999 + 1) 0 (mB 1610) = _
  refine fL_18_end ?_
  have q : ∀ L, L < 8 → Int32.ofNat L - 8 < 0 := by decide
  exact q L h
