/-! THE CLAIM, PURE: one call on the fresh memory -/
theorem vLet {α β : Type} {P : β → Prop} {a : α} {f : α → Option β} (h : vOk P (f a)) : vOk P (xLet a f) := h
theorem vBif {β : Type} {P : β → Prop} {c : Bool} {t e : Option β} (hc : c = true) (h : vOk P t) : vOk P (bif c then t else e) := by
  rw [hc]
  exact h
theorem vPos {β : Type} {P : β → Prop} {c : Prop} [Decidable c] {t e : Option β} (hc : c) (h : vOk P t) : vOk P (if c then t else e) := by
  rw [if_pos hc]
  exact h
theorem vNeg {β : Type} {P : β → Prop} {c : Prop} [Decidable c] {t e : Option β} (hc : ¬ c) (h : vOk P e) : vOk P (if c then t else e) := by
  rw [if_neg hc]
  exact h
theorem vIte {β : Type} {P : β → Prop} {c : Prop} [Decidable c] {t e : Option β} (h1 : c → vOk P t) (h2 : ¬ c → vOk P e) : vOk P (if c then t else e) := by
  by_cases hc : c
  · exact vPos hc (h1 hc)
  · exact vNeg hc (h2 hc)
theorem vGo {α β : Type} {P : β → Prop} {o : Option α} {r : α} {f : α → Option β} (e : o = some r) (h : vOk P (f r)) : vOk P (o.bind f) := by
  rw [e]
  exact h
theorem whole8 {xs : Nat → Int32} : ∃ m9, fL_18 8 xs xFuel 0 (mB 1610) = some (1, m9) := by
  suffices h : vOk (fun r => r.1 = 1) (fL_18 8 xs xFuel 0 (mB 1610)) by
    obtain ⟨⟨z, m9⟩, e, hz⟩ := h
    have hz : z = 1 := hz
    subst hz
    exact ⟨m9, e⟩
  obtain ⟨n, hn⟩ := fuE 1 (by omega)
  have fin : ∀ m : xMem, vOk (fun r => r.1 = 1) (fL_1390 8 xs (fL_18 8 xs (n + 1)) 0 m) := by
    intro m
    obtain ⟨m9, e⟩ := fL_1390_end (xs := xs) (n := n) m
    exact ⟨_, e, rfl⟩
  rw [hn, fL_18]
  refine vLet ?_
  refine vLet ?_
  refine vNeg (by decide) ?_
  refine vBif (by decide) ?_
  refine vLet ?_
  refine vLet ?_
  refine vIte (fun _ => ?_) (fun _ => ?_)
  · obtain ⟨z, m1, m2, e1, e2⟩ := @alike_hall (xs ((0 : Int32) + 1).toNatClampNeg)
    refine vLet ?_
    refine vBif (by decide) ?_
    refine vLet ?_
    refine vGo e1 ?_
    refine vLet ?_
    refine vBif (by decide) ?_
    refine vLet ?_
    refine vGo e2 ?_
    refine vPos rfl ?_
    exact fin _
  refine vIte (fun _ => ?_) (fun _ => ?_)
  · obtain ⟨z, m1, m2, e1, e2⟩ := @alike_bar (xs ((0 : Int32) + 1).toNatClampNeg) (xs ((0 : Int32) + 2).toNatClampNeg)
    refine vLet ?_
    refine vBif (by decide) ?_
    refine vLet ?_
    refine vLet ?_
    refine vBif (by decide) ?_
    refine vLet ?_
    refine vGo e1 ?_
    refine vLet ?_
    refine vBif (by decide) ?_
    refine vLet ?_
    refine vLet ?_
    refine vBif (by decide) ?_
    refine vLet ?_
    refine vGo e2 ?_
    refine vPos rfl ?_
    exact fin _
  refine vIte (fun _ => ?_) (fun _ => ?_)
  · obtain ⟨z, m1, m2, e1, e2⟩ := @alike_link (xs ((0 : Int32) + 1).toNatClampNeg) (xs ((0 : Int32) + 2).toNatClampNeg) (xs ((0 : Int32) + 3).toNatClampNeg) (xs ((0 : Int32) + 4).toNatClampNeg) (xs ((0 : Int32) + 5).toNatClampNeg)
    refine vLet ?_
    refine vBif (by decide) ?_
    refine vLet ?_
    refine vLet ?_
    refine vBif (by decide) ?_
    refine vLet ?_
    refine vLet ?_
    refine vBif (by decide) ?_
    refine vLet ?_
    refine vLet ?_
    refine vBif (by decide) ?_
    refine vLet ?_
    refine vLet ?_
    refine vBif (by decide) ?_
    refine vLet ?_
    refine vGo e1 ?_
    refine vLet ?_
    refine vBif (by decide) ?_
    refine vLet ?_
    refine vLet ?_
    refine vBif (by decide) ?_
    refine vLet ?_
    refine vLet ?_
    refine vBif (by decide) ?_
    refine vLet ?_
    refine vLet ?_
    refine vBif (by decide) ?_
    refine vLet ?_
    refine vLet ?_
    refine vBif (by decide) ?_
    refine vLet ?_
    refine vGo e2 ?_
    refine vPos rfl ?_
    exact fin _
  refine vIte (fun _ => ?_) (fun _ => ?_)
  · obtain ⟨z, m1, m2, e1, e2⟩ := @alike_turn (xs ((0 : Int32) + 1).toNatClampNeg) (xs ((0 : Int32) + 2).toNatClampNeg)
    refine vLet ?_
    refine vBif (by decide) ?_
    refine vLet ?_
    refine vLet ?_
    refine vBif (by decide) ?_
    refine vLet ?_
    refine vGo e1 ?_
    refine vLet ?_
    refine vBif (by decide) ?_
    refine vLet ?_
    refine vLet ?_
    refine vBif (by decide) ?_
    refine vLet ?_
    refine vGo e2 ?_
    refine vPos rfl ?_
    exact fin _
  refine vIte (fun _ => ?_) (fun _ => ?_)
  · obtain ⟨z, m1, m2, e1, e2⟩ := @alike_mode (xs ((0 : Int32) + 1).toNatClampNeg) (xs ((0 : Int32) + 2).toNatClampNeg)
    refine vLet ?_
    refine vBif (by decide) ?_
    refine vLet ?_
    refine vLet ?_
    refine vBif (by decide) ?_
    refine vLet ?_
    refine vGo e1 ?_
    refine vLet ?_
    refine vBif (by decide) ?_
    refine vLet ?_
    refine vLet ?_
    refine vBif (by decide) ?_
    refine vLet ?_
    refine vGo e2 ?_
    refine vPos rfl ?_
    exact fin _
  refine vIte (fun _ => ?_) (fun _ => ?_)
  · obtain ⟨z, m1, m2, e1, e2⟩ := @alike_reset (xs ((0 : Int32) + 1).toNatClampNeg)
    refine vLet ?_
    refine vBif (by decide) ?_
    refine vLet ?_
    refine vGo e1 ?_
    refine vLet ?_
    refine vBif (by decide) ?_
    refine vLet ?_
    refine vGo e2 ?_
    refine vPos rfl ?_
    exact fin _
  refine vIte (fun _ => ?_) (fun _ => ?_)
  · refine vLet ?_
    refine vBif (by decide) ?_
    refine vLet ?_
    refine vLet ?_
    refine vBif (by decide) ?_
    refine vLet ?_
    refine vLet ?_
    refine vBif (by decide) ?_
    refine vLet ?_
    refine vLet ?_
    refine vBif (by decide) ?_
    refine vLet ?_
    refine vLet ?_
    refine vBif (by decide) ?_
    refine vLet ?_
    refine vLet ?_
    refine vBif (by decide) ?_
    refine vLet ?_
    refine vIte (fun h6 => ?_) (fun h6 => ?_)
    · rw [fL_432]
      refine vLet ?_
      refine vBif (by decide) ?_
      refine vLet ?_
      refine vIte (fun h7 => ?_) (fun h7 => ?_)
      · obtain ⟨z, m1, m2, e1, e2⟩ := @alike_burst (xs ((0 : Int32) + 1).toNatClampNeg) (xs ((0 : Int32) + 2).toNatClampNeg) (xs ((0 : Int32) + 3).toNatClampNeg) (xs ((0 : Int32) + 4).toNatClampNeg) (xs ((0 : Int32) + 5).toNatClampNeg) 0 0
        rw [fL_446]
        refine vGo e1 ?_
        refine vLet ?_
        refine vBif (by decide) ?_
        refine vLet ?_
        refine vLet ?_
        refine vBif (by decide) ?_
        refine vLet ?_
        refine vLet ?_
        refine vBif (by decide) ?_
        refine vLet ?_
        refine vLet ?_
        refine vBif (by decide) ?_
        refine vLet ?_
        refine vLet ?_
        refine vBif (by decide) ?_
        refine vLet ?_
        refine vLet ?_
        refine vBif (by decide) ?_
        refine vLet ?_
        refine vPos h6 ?_
        rw [fL_489]
        refine vLet ?_
        refine vBif (by decide) ?_
        refine vLet ?_
        refine vPos h7 ?_
        rw [fL_503]
        refine vGo e2 ?_
        refine vPos rfl ?_
        exact fin _
      · obtain ⟨z, m1, m2, e1, e2⟩ := @alike_burst (xs ((0 : Int32) + 1).toNatClampNeg) (xs ((0 : Int32) + 2).toNatClampNeg) (xs ((0 : Int32) + 3).toNatClampNeg) (xs ((0 : Int32) + 4).toNatClampNeg) (xs ((0 : Int32) + 5).toNatClampNeg) 0 1
        rw [fL_446]
        refine vGo e1 ?_
        refine vLet ?_
        refine vBif (by decide) ?_
        refine vLet ?_
        refine vLet ?_
        refine vBif (by decide) ?_
        refine vLet ?_
        refine vLet ?_
        refine vBif (by decide) ?_
        refine vLet ?_
        refine vLet ?_
        refine vBif (by decide) ?_
        refine vLet ?_
        refine vLet ?_
        refine vBif (by decide) ?_
        refine vLet ?_
        refine vLet ?_
        refine vBif (by decide) ?_
        refine vLet ?_
        refine vPos h6 ?_
        rw [fL_489]
        refine vLet ?_
        refine vBif (by decide) ?_
        refine vLet ?_
        refine vNeg h7 ?_
        rw [fL_503]
        refine vGo e2 ?_
        refine vPos rfl ?_
        exact fin _
    · rw [fL_432]
      refine vLet ?_
      refine vBif (by decide) ?_
      refine vLet ?_
      refine vIte (fun h7 => ?_) (fun h7 => ?_)
      · obtain ⟨z, m1, m2, e1, e2⟩ := @alike_burst (xs ((0 : Int32) + 1).toNatClampNeg) (xs ((0 : Int32) + 2).toNatClampNeg) (xs ((0 : Int32) + 3).toNatClampNeg) (xs ((0 : Int32) + 4).toNatClampNeg) (xs ((0 : Int32) + 5).toNatClampNeg) 1 0
        rw [fL_446]
        refine vGo e1 ?_
        refine vLet ?_
        refine vBif (by decide) ?_
        refine vLet ?_
        refine vLet ?_
        refine vBif (by decide) ?_
        refine vLet ?_
        refine vLet ?_
        refine vBif (by decide) ?_
        refine vLet ?_
        refine vLet ?_
        refine vBif (by decide) ?_
        refine vLet ?_
        refine vLet ?_
        refine vBif (by decide) ?_
        refine vLet ?_
        refine vLet ?_
        refine vBif (by decide) ?_
        refine vLet ?_
        refine vNeg h6 ?_
        rw [fL_489]
        refine vLet ?_
        refine vBif (by decide) ?_
        refine vLet ?_
        refine vPos h7 ?_
        rw [fL_503]
        refine vGo e2 ?_
        refine vPos rfl ?_
        exact fin _
      · obtain ⟨z, m1, m2, e1, e2⟩ := @alike_burst (xs ((0 : Int32) + 1).toNatClampNeg) (xs ((0 : Int32) + 2).toNatClampNeg) (xs ((0 : Int32) + 3).toNatClampNeg) (xs ((0 : Int32) + 4).toNatClampNeg) (xs ((0 : Int32) + 5).toNatClampNeg) 1 1
        rw [fL_446]
        refine vGo e1 ?_
        refine vLet ?_
        refine vBif (by decide) ?_
        refine vLet ?_
        refine vLet ?_
        refine vBif (by decide) ?_
        refine vLet ?_
        refine vLet ?_
        refine vBif (by decide) ?_
        refine vLet ?_
        refine vLet ?_
        refine vBif (by decide) ?_
        refine vLet ?_
        refine vLet ?_
        refine vBif (by decide) ?_
        refine vLet ?_
        refine vLet ?_
        refine vBif (by decide) ?_
        refine vLet ?_
        refine vNeg h6 ?_
        rw [fL_489]
        refine vLet ?_
        refine vBif (by decide) ?_
        refine vLet ?_
        refine vNeg h7 ?_
        rw [fL_503]
        refine vGo e2 ?_
        refine vPos rfl ?_
        exact fin _
  refine vIte (fun _ => ?_) (fun _ => ?_)
  · obtain ⟨z, m1, m2, e1, e2⟩ := @alike_feed (xs ((0 : Int32) + 1).toNatClampNeg) (xs ((0 : Int32) + 2).toNatClampNeg) (xs ((0 : Int32) + 3).toNatClampNeg) (xs ((0 : Int32) + 4).toNatClampNeg) (xs ((0 : Int32) + 5).toNatClampNeg)
    refine vLet ?_
    refine vBif (by decide) ?_
    refine vLet ?_
    refine vLet ?_
    refine vBif (by decide) ?_
    refine vLet ?_
    refine vLet ?_
    refine vBif (by decide) ?_
    refine vLet ?_
    refine vLet ?_
    refine vBif (by decide) ?_
    refine vLet ?_
    refine vLet ?_
    refine vBif (by decide) ?_
    refine vLet ?_
    refine vGo e1 ?_
    refine vLet ?_
    refine vBif (by decide) ?_
    refine vLet ?_
    refine vLet ?_
    refine vBif (by decide) ?_
    refine vLet ?_
    refine vLet ?_
    refine vBif (by decide) ?_
    refine vLet ?_
    refine vLet ?_
    refine vBif (by decide) ?_
    refine vLet ?_
    refine vLet ?_
    refine vBif (by decide) ?_
    refine vLet ?_
    refine vGo e2 ?_
    refine vPos rfl ?_
    exact fin _
  refine vIte (fun _ => ?_) (fun _ => ?_)
  · obtain ⟨z, m1, m2, e1, e2⟩ := @alike_end (xs ((0 : Int32) + 1).toNatClampNeg)
    refine vLet ?_
    refine vBif (by decide) ?_
    refine vLet ?_
    refine vGo e1 ?_
    refine vLet ?_
    refine vBif (by decide) ?_
    refine vLet ?_
    refine vGo e2 ?_
    refine vPos rfl ?_
    exact fin _
  refine vIte (fun _ => ?_) (fun _ => ?_)
  · obtain ⟨z, m1, m2, e1, e2⟩ := alike_text
    refine vGo e1 ?_
    refine vGo e2 ?_
    refine vPos rfl ?_
    exact fin _
  refine vIte (fun _ => ?_) (fun _ => ?_)
  · obtain ⟨z, m1, m2, e1, e2⟩ := @alike_fault (xs ((0 : Int32) + 1).toNatClampNeg)
    refine vLet ?_
    refine vBif (by decide) ?_
    refine vLet ?_
    refine vGo e1 ?_
    refine vLet ?_
    refine vBif (by decide) ?_
    refine vLet ?_
    refine vGo e2 ?_
    refine vPos rfl ?_
    exact fin _
  refine vIte (fun _ => ?_) (fun _ => ?_)
  · obtain ⟨z, m1, m2, e1, e2⟩ := @alike_by (xs ((0 : Int32) + 1).toNatClampNeg)
    refine vLet ?_
    refine vBif (by decide) ?_
    refine vLet ?_
    refine vGo e1 ?_
    refine vLet ?_
    refine vBif (by decide) ?_
    refine vLet ?_
    refine vGo e2 ?_
    refine vPos rfl ?_
    exact fin _
  refine vIte (fun _ => ?_) (fun _ => ?_)
  · obtain ⟨z, m1, m2, e1, e2⟩ := @alike_run (xs ((0 : Int32) + 1).toNatClampNeg)
    refine vLet ?_
    refine vBif (by decide) ?_
    refine vLet ?_
    refine vGo e1 ?_
    refine vLet ?_
    refine vBif (by decide) ?_
    refine vLet ?_
    refine vGo e2 ?_
    refine vPos rfl ?_
    exact fin _
  refine vIte (fun _ => ?_) (fun _ => ?_)
  · obtain ⟨z, m1, m2, e1, e2⟩ := @alike_of2 (xs ((0 : Int32) + 1).toNatClampNeg) (xs ((0 : Int32) + 2).toNatClampNeg)
    refine vLet ?_
    refine vBif (by decide) ?_
    refine vLet ?_
    refine vLet ?_
    refine vBif (by decide) ?_
    refine vLet ?_
    refine vGo e1 ?_
    refine vLet ?_
    refine vBif (by decide) ?_
    refine vLet ?_
    refine vLet ?_
    refine vBif (by decide) ?_
    refine vLet ?_
    refine vGo e2 ?_
    refine vPos rfl ?_
    exact fin _
  refine vIte (fun _ => ?_) (fun _ => ?_)
  · obtain ⟨z, m1, m2, e1, e2⟩ := @alike_on (xs ((0 : Int32) + 1).toNatClampNeg) (xs ((0 : Int32) + 2).toNatClampNeg)
    refine vLet ?_
    refine vBif (by decide) ?_
    refine vLet ?_
    refine vLet ?_
    refine vBif (by decide) ?_
    refine vLet ?_
    refine vGo e1 ?_
    refine vLet ?_
    refine vBif (by decide) ?_
    refine vLet ?_
    refine vLet ?_
    refine vBif (by decide) ?_
    refine vLet ?_
    refine vGo e2 ?_
    refine vPos rfl ?_
    exact fin _
  refine vIte (fun _ => ?_) (fun _ => ?_)
  · obtain ⟨z, m1, m2, e1, e2⟩ := @alike_step (xs ((0 : Int32) + 1).toNatClampNeg) (xs ((0 : Int32) + 2).toNatClampNeg) (xs ((0 : Int32) + 3).toNatClampNeg)
    refine vLet ?_
    refine vBif (by decide) ?_
    refine vLet ?_
    refine vLet ?_
    refine vBif (by decide) ?_
    refine vLet ?_
    refine vLet ?_
    refine vBif (by decide) ?_
    refine vLet ?_
    refine vGo e1 ?_
    refine vLet ?_
    refine vBif (by decide) ?_
    refine vLet ?_
    refine vLet ?_
    refine vBif (by decide) ?_
    refine vLet ?_
    refine vLet ?_
    refine vBif (by decide) ?_
    refine vLet ?_
    refine vGo e2 ?_
    refine vPos rfl ?_
    exact fin _
  refine vIte (fun _ => ?_) (fun _ => ?_)
  · refine vLet ?_
    refine vBif (by decide) ?_
    refine vLet ?_
    refine vLet ?_
    refine vBif (by decide) ?_
    refine vLet ?_
    refine vLet ?_
    refine vBif (by decide) ?_
    refine vLet ?_
    refine vIte (fun hb => ?_) (fun hb => ?_)
    · obtain ⟨z, m1, m2, e1, e2⟩ := @alike_route (xs ((0 : Int32) + 1).toNatClampNeg) (xs ((0 : Int32) + 2).toNatClampNeg) 0
      rw [fL_812]
      refine vGo e1 ?_
      refine vLet ?_
      refine vBif (by decide) ?_
      refine vLet ?_
      refine vLet ?_
      refine vBif (by decide) ?_
      refine vLet ?_
      refine vLet ?_
      refine vBif (by decide) ?_
      refine vLet ?_
      refine vPos hb ?_
      rw [fL_839]
      refine vGo e2 ?_
      refine vPos rfl ?_
      exact fin _
    · obtain ⟨z, m1, m2, e1, e2⟩ := @alike_route (xs ((0 : Int32) + 1).toNatClampNeg) (xs ((0 : Int32) + 2).toNatClampNeg) 1
      rw [fL_812]
      refine vGo e1 ?_
      refine vLet ?_
      refine vBif (by decide) ?_
      refine vLet ?_
      refine vLet ?_
      refine vBif (by decide) ?_
      refine vLet ?_
      refine vLet ?_
      refine vBif (by decide) ?_
      refine vLet ?_
      refine vNeg hb ?_
      rw [fL_839]
      refine vGo e2 ?_
      refine vPos rfl ?_
      exact fin _
  refine vIte (fun _ => ?_) (fun _ => ?_)
  · obtain ⟨z, m1, m2, e1, e2⟩ := @alike_all (xs ((0 : Int32) + 1).toNatClampNeg)
    refine vLet ?_
    refine vBif (by decide) ?_
    refine vLet ?_
    refine vGo e1 ?_
    refine vLet ?_
    refine vBif (by decide) ?_
    refine vLet ?_
    refine vGo e2 ?_
    refine vPos rfl ?_
    exact fin _
  refine vIte (fun _ => ?_) (fun _ => ?_)
  · obtain ⟨z, m1, m2, e1, e2⟩ := @alike_ways (xs ((0 : Int32) + 1).toNatClampNeg) (xs ((0 : Int32) + 2).toNatClampNeg) (xs ((0 : Int32) + 3).toNatClampNeg)
    refine vLet ?_
    refine vBif (by decide) ?_
    refine vLet ?_
    refine vLet ?_
    refine vBif (by decide) ?_
    refine vLet ?_
    refine vLet ?_
    refine vBif (by decide) ?_
    refine vLet ?_
    refine vGo e1 ?_
    refine vLet ?_
    refine vBif (by decide) ?_
    refine vLet ?_
    refine vLet ?_
    refine vBif (by decide) ?_
    refine vLet ?_
    refine vLet ?_
    refine vBif (by decide) ?_
    refine vLet ?_
    refine vGo e2 ?_
    refine vPos rfl ?_
    exact fin _
  refine vIte (fun _ => ?_) (fun _ => ?_)
  · obtain ⟨z, m1, m2, e1, e2⟩ := @alike_least (xs ((0 : Int32) + 1).toNatClampNeg) (xs ((0 : Int32) + 2).toNatClampNeg) (xs ((0 : Int32) + 3).toNatClampNeg)
    refine vLet ?_
    refine vBif (by decide) ?_
    refine vLet ?_
    refine vLet ?_
    refine vBif (by decide) ?_
    refine vLet ?_
    refine vLet ?_
    refine vBif (by decide) ?_
    refine vLet ?_
    refine vGo e1 ?_
    refine vLet ?_
    refine vBif (by decide) ?_
    refine vLet ?_
    refine vLet ?_
    refine vBif (by decide) ?_
    refine vLet ?_
    refine vLet ?_
    refine vBif (by decide) ?_
    refine vLet ?_
    refine vGo e2 ?_
    refine vPos rfl ?_
    exact fin _
  refine vIte (fun _ => ?_) (fun _ => ?_)
  · obtain ⟨z, m1, m2, e1, e2⟩ := @alike_felt (xs ((0 : Int32) + 1).toNatClampNeg) (xs ((0 : Int32) + 2).toNatClampNeg)
    refine vLet ?_
    refine vBif (by decide) ?_
    refine vLet ?_
    refine vLet ?_
    refine vBif (by decide) ?_
    refine vLet ?_
    refine vGo e1 ?_
    refine vLet ?_
    refine vBif (by decide) ?_
    refine vLet ?_
    refine vLet ?_
    refine vBif (by decide) ?_
    refine vLet ?_
    refine vGo e2 ?_
    refine vPos rfl ?_
    exact fin _
  refine vIte (fun _ => ?_) (fun _ => ?_)
  · obtain ⟨z, m1, m2, e1, e2⟩ := @alike_standing (xs ((0 : Int32) + 1).toNatClampNeg) (xs ((0 : Int32) + 2).toNatClampNeg)
    refine vLet ?_
    refine vBif (by decide) ?_
    refine vLet ?_
    refine vLet ?_
    refine vBif (by decide) ?_
    refine vLet ?_
    refine vGo e1 ?_
    refine vLet ?_
    refine vBif (by decide) ?_
    refine vLet ?_
    refine vLet ?_
    refine vBif (by decide) ?_
    refine vLet ?_
    refine vGo e2 ?_
    refine vPos rfl ?_
    exact fin _
  refine vIte (fun _ => ?_) (fun _ => ?_)
  · obtain ⟨z, m1, m2, e1, e2⟩ := alike_sim (sim_alone (xs ((0 : Int32) + 1).toNatClampNeg) (xs ((0 : Int32) + 2).toNatClampNeg) (xs ((0 : Int32) + 3).toNatClampNeg) (xs ((0 : Int32) + 4).toNatClampNeg)) (mB 1610)
    refine vLet ?_
    refine vBif (by decide) ?_
    refine vLet ?_
    refine vLet ?_
    refine vBif (by decide) ?_
    refine vLet ?_
    refine vLet ?_
    refine vBif (by decide) ?_
    refine vLet ?_
    refine vLet ?_
    refine vBif (by decide) ?_
    refine vLet ?_
    refine vGo e1 ?_
    refine vLet ?_
    refine vBif (by decide) ?_
    refine vLet ?_
    refine vLet ?_
    refine vBif (by decide) ?_
    refine vLet ?_
    refine vLet ?_
    refine vBif (by decide) ?_
    refine vLet ?_
    refine vLet ?_
    refine vBif (by decide) ?_
    refine vLet ?_
    refine vGo e2 ?_
    refine vPos rfl ?_
    exact fin _
  refine vIte (fun _ => ?_) (fun _ => ?_)
  · obtain ⟨z, m1, m2, e1, e2⟩ := alike_sim (sim_crossing (xs ((0 : Int32) + 1).toNatClampNeg) (xs ((0 : Int32) + 2).toNatClampNeg)) (mB 1610)
    refine vLet ?_
    refine vBif (by decide) ?_
    refine vLet ?_
    refine vLet ?_
    refine vBif (by decide) ?_
    refine vLet ?_
    refine vGo e1 ?_
    refine vLet ?_
    refine vBif (by decide) ?_
    refine vLet ?_
    refine vLet ?_
    refine vBif (by decide) ?_
    refine vLet ?_
    refine vGo e2 ?_
    refine vPos rfl ?_
    exact fin _
  refine vIte (fun _ => ?_) (fun _ => ?_)
  · refine vLet ?_
    refine vBif (by decide) ?_
    refine vLet ?_
    refine vIte (fun hb => ?_) (fun hb => ?_)
    · obtain ⟨z, m1, m2, e1, e2⟩ := @alike_day 0 (xs ((0 : Int32) + 2).toNatClampNeg) (xs ((0 : Int32) + 3).toNatClampNeg)
      rw [fL_1122]
      refine vLet ?_
      refine vBif (by decide) ?_
      refine vLet ?_
      refine vLet ?_
      refine vBif (by decide) ?_
      refine vLet ?_
      refine vGo e1 ?_
      refine vLet ?_
      refine vBif (by decide) ?_
      refine vLet ?_
      refine vPos hb ?_
      rw [fL_1149]
      refine vLet ?_
      refine vBif (by decide) ?_
      refine vLet ?_
      refine vLet ?_
      refine vBif (by decide) ?_
      refine vLet ?_
      refine vGo e2 ?_
      refine vPos rfl ?_
      exact fin _
    · obtain ⟨z, m1, m2, e1, e2⟩ := @alike_day 1 (xs ((0 : Int32) + 2).toNatClampNeg) (xs ((0 : Int32) + 3).toNatClampNeg)
      rw [fL_1122]
      refine vLet ?_
      refine vBif (by decide) ?_
      refine vLet ?_
      refine vLet ?_
      refine vBif (by decide) ?_
      refine vLet ?_
      refine vGo e1 ?_
      refine vLet ?_
      refine vBif (by decide) ?_
      refine vLet ?_
      refine vNeg hb ?_
      rw [fL_1149]
      refine vLet ?_
      refine vBif (by decide) ?_
      refine vLet ?_
      refine vLet ?_
      refine vBif (by decide) ?_
      refine vLet ?_
      refine vGo e2 ?_
      refine vPos rfl ?_
      exact fin _
  refine vIte (fun _ => ?_) (fun _ => ?_)
  · obtain ⟨z, m1, m2, e1, e2⟩ := alike_effect
    refine vGo e1 ?_
    refine vGo e2 ?_
    refine vPos rfl ?_
    exact fin _
  refine vIte (fun _ => ?_) (fun _ => ?_)
  · obtain ⟨z, m1, m2, e1, e2⟩ := @alike_mend (xs ((0 : Int32) + 1).toNatClampNeg) (xs ((0 : Int32) + 2).toNatClampNeg) (xs ((0 : Int32) + 3).toNatClampNeg) (xs ((0 : Int32) + 4).toNatClampNeg)
    refine vLet ?_
    refine vBif (by decide) ?_
    refine vLet ?_
    refine vLet ?_
    refine vBif (by decide) ?_
    refine vLet ?_
    refine vLet ?_
    refine vBif (by decide) ?_
    refine vLet ?_
    refine vLet ?_
    refine vBif (by decide) ?_
    refine vLet ?_
    refine vGo e1 ?_
    refine vLet ?_
    refine vBif (by decide) ?_
    refine vLet ?_
    refine vLet ?_
    refine vBif (by decide) ?_
    refine vLet ?_
    refine vLet ?_
    refine vBif (by decide) ?_
    refine vLet ?_
    refine vLet ?_
    refine vBif (by decide) ?_
    refine vLet ?_
    refine vGo e2 ?_
    refine vPos rfl ?_
    exact fin _
  refine vIte (fun _ => ?_) (fun _ => ?_)
  · obtain ⟨z, m1, m2, e1, e2⟩ := @alike_order (xs ((0 : Int32) + 1).toNatClampNeg)
    refine vLet ?_
    refine vBif (by decide) ?_
    refine vLet ?_
    refine vGo e1 ?_
    refine vLet ?_
    refine vBif (by decide) ?_
    refine vLet ?_
    refine vGo e2 ?_
    refine vPos rfl ?_
    exact fin _
  refine vIte (fun _ => ?_) (fun _ => ?_)
  · obtain ⟨z, m1, m2, e1, e2⟩ := @alike_load (xs ((0 : Int32) + 1).toNatClampNeg)
    refine vLet ?_
    refine vBif (by decide) ?_
    refine vLet ?_
    refine vGo e1 ?_
    refine vLet ?_
    refine vBif (by decide) ?_
    refine vLet ?_
    refine vGo e2 ?_
    refine vPos rfl ?_
    exact fin _
  refine vIte (fun _ => ?_) (fun _ => ?_)
  · obtain ⟨z, m1, m2, e1, e2⟩ := alike_unload
    refine vGo e1 ?_
    refine vGo e2 ?_
    refine vPos rfl ?_
    exact fin _
  refine vIte (fun _ => ?_) (fun _ => ?_)
  · refine vLet ?_
    refine vBif (by decide) ?_
    refine vLet ?_
    refine vLet ?_
    refine vBif (by decide) ?_
    refine vLet ?_
    refine vIte (fun hb => ?_) (fun hb => ?_)
    · obtain ⟨z, m1, m2, e1, e2⟩ := @alike_taken (xs ((0 : Int32) + 1).toNatClampNeg) 0
      rw [fL_1311]
      refine vGo e1 ?_
      refine vLet ?_
      refine vBif (by decide) ?_
      refine vLet ?_
      refine vLet ?_
      refine vBif (by decide) ?_
      refine vLet ?_
      refine vPos hb ?_
      rw [fL_1333]
      refine vGo e2 ?_
      refine vPos rfl ?_
      exact fin _
    · obtain ⟨z, m1, m2, e1, e2⟩ := @alike_taken (xs ((0 : Int32) + 1).toNatClampNeg) 1
      rw [fL_1311]
      refine vGo e1 ?_
      refine vLet ?_
      refine vBif (by decide) ?_
      refine vLet ?_
      refine vLet ?_
      refine vBif (by decide) ?_
      refine vLet ?_
      refine vNeg hb ?_
      rw [fL_1333]
      refine vGo e2 ?_
      refine vPos rfl ?_
      exact fin _
  refine vIte (fun _ => ?_) (fun _ => ?_)
  · obtain ⟨z, m1, m2, e1, e2⟩ := alike_image
    refine vGo e1 ?_
    refine vGo e2 ?_
    refine vPos rfl ?_
    exact fin _
  refine vIte (fun _ => ?_) (fun _ => ?_)
  · obtain ⟨z, m1, m2, e1, e2⟩ := alike_back
    refine vGo e1 ?_
    refine vGo e2 ?_
    refine vPos rfl ?_
    exact fin _
  refine vIte (fun _ => ?_) (fun _ => ?_)
  · obtain ⟨z, m1, m2, e1, e2⟩ := @alike_about (xs ((0 : Int32) + 1).toNatClampNeg)
    refine vLet ?_
    refine vBif (by decide) ?_
    refine vLet ?_
    refine vGo e1 ?_
    refine vLet ?_
    refine vBif (by decide) ?_
    refine vLet ?_
    refine vGo e2 ?_
    refine vPos rfl ?_
    exact fin _
  exact fin _
theorem whole_pure {L : Nat} {xs : Nat → Int32} (hL : L ≤ 8) : ∃ m9, fL_18 L xs xFuel 0 (mB 1610) = some (1, m9) := by
  by_cases h : L < 8
  · exact whole_short h
  · have e : L = 8 := by omega
    subst e
    exact whole8
