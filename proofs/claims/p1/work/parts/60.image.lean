/-! image and back -/
theorem cpy_row {m : xMem} {a0 a sp dp n b : Nat} (h : b ≠ a) : (xCpy m a0 a sp dp n).1 b = m.1 b := by
  funext j
  show (if b = a then _ else m.1 b j) = m.1 b j
  rw [if_neg h]
theorem cp66 {r s n : Nat} {m : xMem} (h7 : m.1 r 7 = 0) (h8 : m.1 r 8 = 0) (h9 : m.1 r 9 = 0) : fX9_copyMoving_66 r s (n + 1) 0 m = some m := by
  obtain ⟨k, hk⟩ := fuE0
  rw [fX9_copyMoving_66, h7, xLet_e, if_pos (by decide), fX9_copyMoving_101, hk, fX9_copyMoving_103, h8, xLet_e, if_pos (by decide), fX9_copyMoving_138, hk, fX9_copyMoving_140, h9, xLet_e, if_pos (by decide), fX9_copyMoving_175]
theorem cpm {r s : Nat} {m : xMem} (hrs : s ≠ r) (h7 : m.1 s 7 = 0) (h8 : m.1 s 8 = 0) (h9 : m.1 s 9 = 0) : ∃ m1, fX9_copyMoving r s m = some m1 ∧ m1.1 r 6 = m.1 s 6 ∧ ∀ b, b ≠ r → m1.1 b = m.1 b := by
  obtain ⟨k, hk⟩ := fuE0
  rw [fX9_copyMoving, fX9_copyMoving_0, hk]
  simp only [xLet_e, put_ne hrs, h7, h8, h9]
  rw [cp66 (by rw [put_nk (by decide), put_nk (by decide), put_nk (by decide), put_nk (by decide), put_nk (by decide), put_nk (by decide), put_at]) (by rw [put_nk (by decide), put_nk (by decide), put_nk (by decide), put_nk (by decide), put_nk (by decide), put_at]) (by rw [put_nk (by decide), put_nk (by decide), put_nk (by decide), put_nk (by decide), put_at])]
  refine ⟨_, Eq.refl _, ?_, ?_⟩
  · rw [put_nk (by decide), put_nk (by decide), put_nk (by decide), put_nk (by decide), put_nk (by decide), put_nk (by decide), put_nk (by decide), put_at]
  · intro b hb
    rw [put_row hb, put_row hb, put_row hb, put_row hb, put_row hb, put_row hb, put_row hb, put_row hb]
theorem cp1 {r s : Nat} {m : xMem} : ∃ m1, fX1_copy r s m = some m1 ∧ ∀ b, b ≠ r → b ≠ r + 1 → b ≠ r + 2 → m1.1 b = m.1 b := by
  rw [fX1_copy, fX1_copy_0]
  simp only [xLet_e]
  refine ⟨_, Eq.refl _, ?_⟩
  intro b h0 h1 h2
  rw [cpy_row h2, cpy_row h1, put_row h0]
theorem cp5 {r s : Nat} {m : xMem} : ∃ m1, fX5_copy r s m = some m1 ∧ ∀ b, b ≠ r → b ≠ r + 1 → b ≠ r + 2 → b ≠ r + 3 → b ≠ r + 4 → m1.1 b = m.1 b := by
  rw [fX5_copy, fX5_copy_0]
  simp only [xLet_e]
  refine ⟨_, Eq.refl _, ?_⟩
  intro b h0 h1 h2 h3 h4
  rw [cpy_row h4, cpy_row h3, cpy_row h2, cpy_row h1, put_row h0]
theorem cp4 {r s : Nat} {m : xMem} : ∃ m1, fX4_copy r s m = some m1 ∧ ∀ b, b ≠ r → b ≠ r + 1 → m1.1 b = m.1 b := by
  rw [fX4_copy, fX4_copy_0]
  simp only [xLet_e]
  refine ⟨_, Eq.refl _, ?_⟩
  intro b h0 h1
  rw [cpy_row h1, put_row h0]
theorem cpa {r s : Nat} {m : xMem} (hrs : s ≠ r) (h7 : m.1 s 7 = 0) (h8 : m.1 s 8 = 0) (h9 : m.1 s 9 = 0) : ∃ m1, fX9_copyAll r s m = some m1 ∧ m1.1 r 6 = m.1 s 6 ∧ ∀ b, b < r ∨ r + 14 < b → m1.1 b = m.1 b := by
  obtain ⟨m1, e1, q1, r1⟩ := cpm (r := r) (s := s) (m := m) hrs h7 h8 h9
  rw [fX9_copyAll, fX9_copyAll_0, e1, bind_e, xLet_e, xLet_e, xLet_e, xLet_e]
  generalize ha : (xPut m1 r 10 (m1.1 s 10)).1 s 11 = a
  obtain ⟨m2, e2, r2⟩ := cp1 (r := r + 4) (s := s + 4) (m := xPut (xPut m1 r 10 (m1.1 s 10)) r 11 a)
  rw [e2, bind_e]
  obtain ⟨m3, e3, r3⟩ := cp5 (r := r + 7) (s := s + 7) (m := m2)
  rw [e3, bind_e]
  obtain ⟨m4, e4, r4⟩ := cp4 (r := r + 13) (s := s + 13) (m := m3)
  rw [e4, bind_e]
  refine ⟨m4, rfl, ?_, ?_⟩
  · rw [r4 r (by omega) (by omega), r3 r (by omega) (by omega) (by omega) (by omega) (by omega), r2 r (by omega) (by omega) (by omega), put_nk (by decide), put_nk (by decide), q1]
  · intro b hb
    rw [r4 b (by omega) (by omega), r3 b (by omega) (by omega) (by omega) (by omega) (by omega), r2 b (by omega) (by omega) (by omega), put_row (by omega), put_row (by omega), r1 b (by omega)]
theorem rB_84_7 : (mB 1610).1 84 7 = 0 := by decide +kernel
theorem rB_84_8 : (mB 1610).1 84 8 = 0 := by decide +kernel
theorem rB_84_9 : (mB 1610).1 84 9 = 0 := by decide +kernel
theorem rB_84_6 : (mB 1610).1 84 6 = 0 := by decide +kernel
theorem rB_292_0 : (mB 1610).1 292 0 = 0 := by decide +kernel
theorem rB_293_0 : (mB 1610).1 293 0 = 0 := by decide +kernel
theorem alike_image : Alike (fX11_image 0) (fX12_image 291) (mB 1610) := by
  obtain ⟨m1, e1, q1, r1⟩ := cpa (r := 0 + 84) (s := 0 + 1) (m := mB 1610) (by decide) rA_1 rA_2 rA_3
  obtain ⟨m2, e2⟩ := image2 (m := m1) (z := 0) (by rw [r1 292 (by omega)]; exact rB_292_0)
  refine ⟨0, m1, m2, ?_, e2⟩
  rw [fX11_image, fX11_image_0, e1, bind_e, xLet_e, q1, rA_0]
theorem back_z {n : Nat} {m : xMem} {z : Int32} (hm : m.1 292 0 = z) : fX12_back_2 291 (n + 1) (Int32.ofNat 1610) m = some (z, m) := by
  rw [fX12_back_2, if_pos le1610, in0, cond_e, cl0, r292, hm, xLet_e]
theorem back_s {n k : Nat} {m : xMem} {z : Int32} (hk : k < 1610) (h0 : m.1 292 0 = z) (h3 : m.1 293 0 = z) : ∃ m2, fX12_back_2 291 (n + 1) (Int32.ofNat k) m = fX12_back_2 291 n (Int32.ofNat (k + 1)) m2 ∧ m2.1 292 0 = z ∧ m2.1 293 0 = z := by
  obtain ⟨a1, a2, a3⟩ := k1610 k hk
  rw [fX12_back_2, if_neg a1, a2, cond_e, xLet_e, cond_e, xLet_e, xLet_e, a3]
  refine ⟨_, Eq.refl _, ?_, ?_⟩
  · by_cases q : 0 = (Int32.ofNat k).toNatClampNeg
    · rw [← q]
      show (xPut m 292 0 (m.1 293 0)).1 292 0 = z
      rw [put_at, h3]
    · rw [put_nk q]
      exact h0
  · rw [put_row (by decide)]
    exact h3
theorem back_l {n : Nat} {z : Int32} : ∀ (e k : Nat) (m : xMem), k + e = 1610 → m.1 292 0 = z → m.1 293 0 = z → ∃ m2, fX12_back_2 291 (n + 1 + e) (Int32.ofNat k) m = some (z, m2) := by
  intro e
  induction e with
  | zero =>
    intro k m hk hm _
    have hk : k = 1610 := by omega
    rw [hk]
    exact ⟨m, back_z hm⟩
  | succ e ih =>
    intro k m hk hm h3
    obtain ⟨m1, e1, q1, q3⟩ := back_s (n := n + 1 + e) (m := m) (show k < 1610 by omega) hm h3
    obtain ⟨m2, e2⟩ := ih (k + 1) m1 (by omega) q1 q3
    exact ⟨m2, e1.trans e2⟩
theorem back2 {m : xMem} {z : Int32} (hm : m.1 292 0 = z) (h3 : m.1 293 0 = z) : ∃ m2, fX12_back 291 m = some (z, m2) := by
  obtain ⟨n, hn⟩ := fuE 1610 (by omega)
  obtain ⟨m2, e2⟩ := back_l (n := n) 1610 0 m rfl hm h3
  rw [of0, ← hn] at e2
  exact ⟨m2, by rw [fX12_back, fX12_back_0, e2]⟩
theorem alike_back : Alike (fX11_back 0) (fX12_back 291) (mB 1610) := by
  obtain ⟨m1, e1, q1, r1⟩ := cpa (r := 0 + 1) (s := 0 + 84) (m := mB 1610) (by decide) rB_84_7 rB_84_8 rB_84_9
  obtain ⟨m2, e2⟩ := back2 (m := m1) (z := 0) (by rw [r1 292 (by omega)]; exact rB_292_0) (by rw [r1 293 (by omega)]; exact rB_293_0)
  refine ⟨0, m1, m2, ?_, e2⟩
  rw [fX11_back, fX11_back_0, e1, bind_e, xLet_e, q1, rB_84_6]
