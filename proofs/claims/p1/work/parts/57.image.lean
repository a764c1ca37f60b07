/-! image, the reference's side -/
theorem k1610 : ∀ k, k < 1610 → ¬ (1610 : Int32) ≤ Int32.ofNat k ∧ xIn (Int32.ofNat k) 1610 = true ∧ Int32.ofNat k + 1 = Int32.ofNat (k + 1) := by decide +kernel
theorem le1610 : (1610 : Int32) ≤ Int32.ofNat 1610 := by decide
theorem in0 : xIn (0 : Int32) 1610 = true := by decide
theorem cl0 : (0 : Int32).toNatClampNeg = 0 := by decide
theorem image_z {n : Nat} {m : xMem} {z : Int32} (hm : m.1 292 0 = z) : fX12_image_2 291 (n + 1) (Int32.ofNat 1610) m = some (z, m) := by
  rw [fX12_image_2, if_pos le1610, in0, cond_e, cl0, r292, hm, xLet_e]
theorem image_s {n k : Nat} {m : xMem} (hk : k < 1610) : ∃ m2, fX12_image_2 291 (n + 1) (Int32.ofNat k) m = fX12_image_2 291 n (Int32.ofNat (k + 1)) m2 ∧ m2.1 292 = m.1 292 := by
  obtain ⟨a1, a2, a3⟩ := k1610 k hk
  rw [fX12_image_2, if_neg a1, a2, cond_e, xLet_e, cond_e, xLet_e, xLet_e, a3]
  refine ⟨_, Eq.refl _, ?_⟩
  rw [put_row (by decide)]
theorem image_l {n : Nat} {z : Int32} : ∀ (e k : Nat) (m : xMem), k + e = 1610 → m.1 292 0 = z → ∃ m2, fX12_image_2 291 (n + 1 + e) (Int32.ofNat k) m = some (z, m2) := by
  intro e
  induction e with
  | zero =>
    intro k m hk hm
    have hk : k = 1610 := by omega
    rw [hk]
    exact ⟨m, image_z hm⟩
  | succ e ih =>
    intro k m hk hm
    obtain ⟨m1, e1, q1⟩ := image_s (n := n + 1 + e) (m := m) (show k < 1610 by omega)
    obtain ⟨m2, e2⟩ := ih (k + 1) m1 (by omega) (by rw [q1]; exact hm)
    exact ⟨m2, e1.trans e2⟩
theorem image2 {m : xMem} {z : Int32} (hm : m.1 292 0 = z) : ∃ m2, fX12_image 291 m = some (z, m2) := by
  obtain ⟨n, hn⟩ := fuE 1610 (by omega)
  obtain ⟨m2, e2⟩ := image_l (n := n) 1610 0 m rfl hm
  rw [of0, ← hn] at e2
  exact ⟨m2, by rw [fX12_image, fX12_image_0, e2]⟩
