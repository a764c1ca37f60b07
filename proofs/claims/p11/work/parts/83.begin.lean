/-! the start: what holds behind both constructors -/
theorem mB_r (k b j : Nat) : (mB k).1 b j = if b = 293 ∧ j < k then (mA 800).1 292 j else (mA 800).1 b j := rfl
theorem mA_r (k b j : Nat) : (mA k).1 b j = if b = 292 ∧ (j = 5 ∨ (580 ≤ j ∧ j < 580 + k)) then -1 else m0.1 b j := rfl
theorem m0_r (b j : Nat) : m0.1 b j = if ((b = 1 ∨ b = 84 ∨ b = 167) ∧ j = 11) ∨ (b = 251 ∧ j = 2) ∨ ((b = 255 ∨ b = 291) ∧ (j = 5 ∨ j = 6)) then -1 else 0 := rfl
theorem s292 (j : Nat) : (mB 1610).1 292 j = if j = 5 ∨ (580 ≤ j ∧ j < 1380) then -1 else 0 := by
  rw [mB_r, if_neg (by omega), mA_r]
  by_cases h : j = 5 ∨ (580 ≤ j ∧ j < 1380)
  · rw [if_pos h, if_pos (by omega)]
  · rw [if_neg h, if_neg (by omega), m0_r, if_neg (by omega)]
theorem s293 (j : Nat) : (mB 1610).1 293 j = if j = 5 ∨ (580 ≤ j ∧ j < 1380) then -1 else 0 := by
  rw [mB_r]
  by_cases h : j = 5 ∨ (580 ≤ j ∧ j < 1380)
  · rw [if_pos h, if_pos (by omega), mA_r, if_pos (by omega)]
  · rw [if_neg h]
    by_cases q : j < 1610
    · rw [if_pos ⟨rfl, q⟩, mA_r, if_neg (by omega), m0_r, if_neg (by omega)]
    · rw [if_neg (fun w => q w.2), mA_r, if_neg (by omega), m0_r, if_neg (by omega)]
theorem s0 {b j : Nat} (h : ¬ (b = 292 ∨ b = 293 ∨ ((b = 1 ∨ b = 84 ∨ b = 167) ∧ j = 11) ∨ (b = 251 ∧ j = 2) ∨ ((b = 255 ∨ b = 291) ∧ (j = 5 ∨ j = 6)))) : (mB 1610).1 b j = 0 := by
  rw [mB_r, if_neg (by omega), mA_r, if_neg (by omega), m0_r, if_neg (by omega)]
theorem BC_ne {b j : Nat} (h : BC b j = true) : ¬ (b = 1 ∨ b = 84 ∨ b = 167 ∨ b = 251 ∨ b = 255) := by
  unfold BC at h
  rw [Bool.or_eq_true, Bool.or_eq_true, Bool.and_eq_true, Bool.and_eq_true, Bool.and_eq_true] at h
  rcases h with (⟨h, _⟩ | ⟨h, _⟩) | ⟨h, _⟩
  · exact (show ∀ b ∈ pHall, ¬ (b = 1 ∨ b = 84 ∨ b = 167 ∨ b = 251 ∨ b = 255) by decide +kernel) b (List.contains_iff_mem.mp h)
  · exact (show ∀ b ∈ pLink, ¬ (b = 1 ∨ b = 84 ∨ b = 167 ∨ b = 251 ∨ b = 255) by decide +kernel) b (List.contains_iff_mem.mp h)
  · exact (show ∀ b ∈ pBurst, ¬ (b = 1 ∨ b = 84 ∨ b = 167 ∨ b = 251 ∨ b = 255) by decide +kernel) b (List.contains_iff_mem.mp h)
theorem GA_s {g : Nat → Int32} (e : ∀ j, g j = if j = 5 ∨ (580 ≤ j ∧ j < 1380) then -1 else 0) : GA g := by
  have z : ∀ j, ¬ (j = 5 ∨ (580 ≤ j ∧ j < 1380)) → g j = 0 := fun j h => by rw [e, if_neg h]
  have n : ∀ j, (j = 5 ∨ (580 ≤ j ∧ j < 1380)) → g j = -1 := fun j h => by rw [e, if_pos h]
  refine ⟨⟨?_, ?_, ?_, ?_, ?_, ?_, ?_, ?_⟩, fun l hl => ⟨?_, ?_, ?_, ?_, ?_⟩, fun l hl hk => ?_, fun k hk => ⟨?_, ?_, ?_⟩, fun j hj => ?_, fun j hj => ?_⟩
  · rw [z 1 (by omega)]; decide
  · rw [z 2 (by omega)]; decide
  · rw [z 3 (by omega)]; decide
  · rw [z 4 (by omega)]; decide
  · rw [n 5 (by omega)]; decide
  · rw [z 6 (by omega)]; decide
  · rw [z 7 (by omega)]; decide
  · rw [z 8 (by omega)]; decide
  · rw [z _ (by omega)]; decide
  · rw [z _ (by omega)]; decide
  · rw [z _ (by omega)]; decide
  · rw [z _ (by omega)]; decide
  · rw [z _ (by omega)]; decide
  · rw [z 2 (by omega)] at hl
    have c0 : (0 : Int32).toInt = 0 := rfl
    exfalso; omega
  · rw [z _ (by omega)]; decide
  · rw [z _ (by omega)]; decide
  · rw [z _ (by omega)]; decide
  · rw [n _ (by omega)]; decide
  · rw [z _ (by omega)]; decide
theorem Rl_s {c0 : Nat} {g : Nat → Int32} (hc : c0 = 1 ∨ c0 = 84) (e : ∀ j, g j = if j = 5 ∨ (580 ≤ j ∧ j < 1380) then -1 else 0) : Rl c0 (mB 1610) g := by
  have z : ∀ j, ¬ (j = 5 ∨ (580 ≤ j ∧ j < 1380)) → g j = 0 := fun j h => by rw [e, if_neg h]
  refine ⟨⟨?_, ?_, ?_, ?_, ?_, ?_, ?_⟩, fun i hi hl => ?_⟩
  · rw [s0 (by omega), z 0 (by omega)]
  · rw [s0 (by omega), z 1 (by omega)]
  · rw [s0 (by omega), z 2 (by omega)]
  · rw [s0 (by omega), z 3 (by omega)]
  · rw [s0 (by omega), z 6 (by omega)]
  · rw [s0 (by omega), z 7 (by omega)]
  · rw [s0 (by omega), z 8 (by omega)]
  · rw [z 2 (by omega)] at hl
    have c0 : (0 : Int32).toInt = 0 := rfl
    exfalso; omega
theorem inv_start : Inv (mB 1610) := by
  have c0 : (0 : Int32).toInt = 0 := rfl
  have t296 : ∀ j, (mB 1610).1 296 j = 0 := fun j => s0 (by omega)
  have l : GL (mB 1610) := fun t ht k hk => by
    rw [t296] at hk
    exfalso; omega
  refine ⟨fun b j h => ?_, ⟨⟨fun _ _ _ => rfl, fun j hj => ?_, fun j => ?_, fun j => ?_⟩, ⟨GA_s s292, GT_of (fun j => ?_) l⟩, l, ?_, GA_s s293⟩, Rl_s (Or.inl rfl) s292, Rl_s (Or.inr rfl) s293⟩
  · have h1 := BC_lt h
    have h2 := BC_ne h
    rw [s0 (by omega)]
    decide
  · rw [s292, if_pos (by omega)]; decide
  · rw [s0 (by omega)]; decide
  · rw [s0 (by omega)]; decide
  · rw [t296]; decide
  · rw [s0 (by omega)]; decide
