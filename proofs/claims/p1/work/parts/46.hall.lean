/-! hall -/
def AlikeB (F G : xMem → Option (Int32 × xMem)) (m : xMem) : Option Int32 × Option Int32 := match F m with
  | none => (none, none)
  | some p => match G p.2 with
    | none => (none, none)
    | some q => (some p.1, some q.1)
theorem xAlike_of {F G : xMem → Option (Int32 × xMem)} {m : xMem} {z : Int32} (h : AlikeB F G m = (some z, some z)) : Alike F G m := by
  unfold AlikeB at h
  cases hF : F m with
  | none => rw [hF] at h; cases h
  | some p =>
    rw [hF] at h
    simp only [] at h
    cases hG : G p.2 with
    | none => rw [hG] at h; cases h
    | some q =>
      rw [hG] at h
      simp only [Prod.mk.injEq, Option.some.injEq] at h
      exact ⟨z, p.2, q.2, by rw [hF, ← h.1], by rw [hG, ← h.2]⟩
theorem within_no {a b c : Int32} {m : xMem} (h : a < b ∨ c < a) : fX11_within a b c m = some (0, m) := by
  unfold fX11_within fX11_within_0
  by_cases h1 : a < b
  · rw [if_pos h1]; rfl
  · rw [if_neg h1, if_pos (h.resolve_left h1)]; rfl
theorem within_yes {a b c : Int32} {m : xMem} (h1 : ¬ a < b) (h2 : ¬ c < a) : fX11_within a b c m = some (1, m) := by
  unfold fX11_within fX11_within_0
  rw [if_neg h1, if_neg h2]; rfl
theorem in_no {a b c : Int32} {m : xMem} (h : a < b ∨ c < a) : fX12_in a b c m = some (0, m) := by
  unfold fX12_in fX12_in_0
  by_cases h1 : a < b
  · rw [if_pos h1]; rfl
  · rw [if_neg h1, if_pos (h.resolve_left h1)]; rfl
theorem in_yes {a b c : Int32} {m : xMem} (h1 : ¬ a < b) (h2 : ¬ c < a) : fX12_in a b c m = some (1, m) := by
  unfold fX12_in fX12_in_0
  rw [if_neg h1, if_neg h2]; rfl
theorem alike_hall_no {a : Int32} (h : a < 1 ∨ 999 < a) : Alike (fX11_hall 0 a) (fX12_hall 291 a) (mB 1610) := by
  refine ⟨-1, mB 1610, mB 1610, ?_, ?_⟩
  · unfold fX11_hall fX11_hall_0
    rw [within_no h]; rfl
  · unfold fX12_hall fX12_hall_0
    rw [in_no h]; rfl
theorem rB_1_7 : (mB 1610).1 (0 + 1) 7 = 0 := by decide +kernel
theorem put_at {m : xMem} {a k : Nat} {x : Int32} : (xPut m a k x).1 a k = x := by
  show (if a = a ∧ k = k then x else m.1 a k) = x
  rw [if_pos ⟨rfl, rfl⟩]
theorem put_ne {m : xMem} {a k b j : Nat} {x : Int32} (h : b ≠ a) : (xPut m a k x).1 b j = m.1 b j := by
  show (if b = a ∧ j = k then x else m.1 b j) = m.1 b j
  rw [if_neg (fun q => h q.1)]
theorem put_nk {m : xMem} {a k b j : Nat} {x : Int32} (h : j ≠ k) : (xPut m a k x).1 b j = m.1 b j := by
  show (if b = a ∧ j = k then x else m.1 b j) = m.1 b j
  rw [if_neg (fun q => h q.2)]
theorem put_row {m : xMem} {a k b : Nat} {x : Int32} (h : b ≠ a) : (xPut m a k x).1 b = m.1 b := funext fun _ => put_ne h
theorem fill_row {m : xMem} {a n b : Nat} {x : Int32} (h : b ≠ a) : (xFillM m a n x).1 b = m.1 b := by
  funext j
  show (if b = a ∧ j < n then x else m.1 b j) = m.1 b j
  rw [if_neg (fun q => h q.1)]
theorem build_ok (r : Nat) (a : Int32) (m : xMem) : ∃ m1, fX2_build r a m = some m1 ∧ ∀ b, b ≠ r → b ≠ r + 1 → b ≠ r + 2 → m1.1 b = m.1 b := by
  unfold fX2_build fX2_build_0 xLet fJ7_fill_53178
  refine ⟨_, rfl, ?_⟩
  intro b h0 h1 h2
  rw [fill_row h2, fill_row h1, put_row h0, put_row h0, put_row h0, put_row h0, put_row h0, put_row h0, put_row h0]
theorem e1_hall {a : Int32} (h1 : ¬ a < 1) (h2 : ¬ 999 < a) : ∃ m1, fX11_hall 0 a (mB 1610) = some (0, m1) ∧ m1.1 292 = (mB 1610).1 292 := by
  unfold fX11_hall fX11_hall_0
  rw [within_yes h1 h2]
  simp only [Option.bind_some, xLet, rB_1_7]
  rw [if_neg (by decide), within_yes (by decide) (by decide)]
  simp only [Option.bind_some, rB_1_7]
  rw [if_pos (by decide)]
  obtain ⟨m1, e1, q1⟩ := build_ok (0 + 1 + 15 + 3 * (0 : Int32).toNatClampNeg) a (mB 1610)
  rw [show xIn (0 : Int32) 6 = true by decide]
  simp only [cond_true, e1, Option.bind_some]
  have e7 : m1.1 (0 + 1) 7 = 0 := by rw [q1 _ (by decide) (by decide) (by decide)]; exact rB_1_7
  rw [put_at, e7]
  refine ⟨_, rfl, ?_⟩
  rw [put_row (by decide), q1 _ (by decide) (by decide) (by decide)]
theorem xLet_e {α β : Type} {a : α} {f : α → β} : xLet a f = f a := Eq.trans rfl rfl
theorem i12 : ∀ k, k < 12 → xIn ((50 : Int32) + 12 * 0 + Int32.ofNat k) 1610 = true ∧ xIn ((130 : Int32) + 12 * 0 + Int32.ofNat k) 1610 = true ∧ 1 ≠ ((50 : Int32) + 12 * 0 + Int32.ofNat k).toNatClampNeg ∧ 1 ≠ ((130 : Int32) + 12 * 0 + Int32.ofNat k).toNatClampNeg ∧ ¬ (12 : Int32) ≤ Int32.ofNat k ∧ Int32.ofNat k + 1 = Int32.ofNat (k + 1) := by decide
theorem le12 : (12 : Int32) ≤ Int32.ofNat 12 := by decide
theorem in1 : xIn (1 : Int32) 1610 = true := by decide
theorem cl1 : (1 : Int32).toNatClampNeg = 1 := by decide
theorem h76z {a : Int32} {n : Nat} {m : xMem} (hm : m.1 292 1 = 0) : ∃ m2, fX12_hall_76 291 a (n + 1) (Int32.ofNat 12) m = some (0, m2) := by
  rw [fX12_hall_76, if_pos le12, in1, cl1, show (291 + 1) = 292 from rfl]
  simp only [cond_true, xLet_e, hm]
  rw [put_at]
  exact ⟨_, rfl⟩
theorem h76s {a : Int32} {n k : Nat} {m : xMem} (hk : k < 12) (hm : m.1 292 1 = 0) : ∃ m2, fX12_hall_76 291 a (n + 1) (Int32.ofNat k) m = fX12_hall_76 291 a n (Int32.ofNat (k + 1)) m2 ∧ m2.1 292 1 = 0 := by
  obtain ⟨a1, a2, a3, a4, a5, a6⟩ := i12 k hk
  rw [fX12_hall_76, if_neg a5, in1, cl1, show (291 + 1) = 292 from rfl]
  simp only [cond_true, xLet_e, hm, a1, put_nk a3, a2]
  rw [a6]
  refine ⟨_, Eq.refl _, ?_⟩
  rw [put_nk a4, put_nk a3, hm]
theorem h76 {a : Int32} {n : Nat} : ∀ (e k : Nat) (m : xMem), k + e = 12 → m.1 292 1 = 0 → ∃ m2, fX12_hall_76 291 a (n + 1 + e) (Int32.ofNat k) m = some (0, m2) := by
  intro e
  induction e with
  | zero =>
    intro k m hk hm
    have hk : k = 12 := by omega
    rw [hk]
    exact h76z hm
  | succ e ih =>
    intro k m hk hm
    obtain ⟨m1, e1, q1⟩ := h76s (a := a) (n := n + 1 + e) (show k < 12 by omega) hm
    obtain ⟨m2, e2⟩ := ih (k + 1) m1 (by omega) q1
    exact ⟨m2, e1.trans e2⟩
