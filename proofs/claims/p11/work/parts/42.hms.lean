/-! the skeleton's places at the start: by reckoning -/
theorem allZ {P : Nat → Prop} : ∀ i, i < 0 → P i := fun i h => absurd h (Nat.not_lt_zero i)
theorem allS {P : Nat → Prop} {n : Nat} (h : ∀ i, i < n → P i) (hn : P n) : ∀ i, i < n + 1 → P i := by
  intro i hi
  by_cases q : i = n
  · exact q ▸ hn
  · exact h i (by omega)
theorem hMS : isMS 0 := by
  repeat' first | refine And.intro ?_ ?_ | refine allS ?_ ?_ | exact allZ | decide +kernel
