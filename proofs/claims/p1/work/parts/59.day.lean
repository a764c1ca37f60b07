/-! day on the fresh memory -/
theorem rB_5_2 : (mB 1610).1 (0 + 1 + 4) 2 = 0 := by decide +kernel
theorem rB_292_6 : (mB 1610).1 (291 + 1) 6 = 0 := by decide +kernel
theorem rB_292_6b : (mB 1610).1 292 6 = 0 := by decide +kernel
theorem in6 : xIn (6 : Int32) 1610 = true := by decide
theorem cl6 : (6 : Int32).toNatClampNeg = 6 := by decide
theorem six {a : Int32} (h0 : ¬ a < 0) (h5 : ¬ 5 < a) : a = 0 ∨ a = 1 ∨ a = 2 ∨ a = 3 ∨ a = 4 ∨ a = 5 := by
  rw [Int32.lt_iff_toInt_lt, show (0 : Int32).toInt = 0 by decide] at h0
  rw [Int32.lt_iff_toInt_lt, show (5 : Int32).toInt = 5 by decide] at h5
  have q : a.toInt = 0 ∨ a.toInt = 1 ∨ a.toInt = 2 ∨ a.toInt = 3 ∨ a.toInt = 4 ∨ a.toInt = 5 := by omega
  rcases q with q | q | q | q | q | q
  · exact Or.inl (Int32.toInt_inj.mp (q.trans (by decide)))
  · exact Or.inr (Or.inl (Int32.toInt_inj.mp (q.trans (by decide))))
  · exact Or.inr (Or.inr (Or.inl (Int32.toInt_inj.mp (q.trans (by decide)))))
  · exact Or.inr (Or.inr (Or.inr (Or.inl (Int32.toInt_inj.mp (q.trans (by decide))))))
  · exact Or.inr (Or.inr (Or.inr (Or.inr (Or.inl (Int32.toInt_inj.mp (q.trans (by decide)))))))
  · exact Or.inr (Or.inr (Or.inr (Or.inr (Or.inr (Int32.toInt_inj.mp (q.trans (by decide)))))))
theorem tell12 {a b c s : Int32} (h0 : ¬ s < 0) (h1 : s < 12) (h2 : xIn s 12 = true) : ∃ m1, fX1_tell_12 (0 + 1 + 4) a b c s (mB 1610) = some (0 + 1, m1) ∧ m1.1 292 = (mB 1610).1 292 := by
  rw [fX1_tell_12, rB_5_2, xLet_e, if_neg (by decide), if_neg h0, if_pos h1, h2, cond_e, xLet_e, xLet_e, cond_e, xLet_e, cond_e, xLet_e, xLet_e, cond_e, xLet_e, put_ne (by decide), put_ne (by decide), rB_5_2, xLet_e, xLet_e, xLet_e, put_at, xLet_e]
  refine ⟨_, Eq.refl _, ?_⟩
  rw [put_row (by decide), put_row (by decide), put_row (by decide)]
theorem day1 {a b c : Int32} (h0 : ¬ b < 0) (h5 : ¬ 5 < b) : ∃ m1, fX1_tell (0 + 1 + 4) a b c (mB 1610) = some (0 + 1, m1) ∧ m1.1 292 = (mB 1610).1 292 := by
  rw [fX1_tell, fX1_tell_0]
  by_cases q : a = 0
  · rw [if_pos q]
    rcases six h0 h5 with e | e | e | e | e | e
    all_goals (subst e; exact tell12 (by decide) (by decide) (by decide))
  · rw [if_neg q, xLet_e]
    rcases six h0 h5 with e | e | e | e | e | e
    all_goals (subst e; exact tell12 (by decide) (by decide) (by decide))
theorem day64 {a b c s : Int32} {m : xMem} (hm : m.1 292 6 = 0) : ∃ m2, fX12_day_64 291 a b c (1390 + 3 * 0) (291 + 1) (1390 + 3 * 0) s m = some (0 + 1, m2) := by
  have b0 : xIn ((1390 : Int32) + 3 * 0) 1610 = true := by decide
  have b1 : xIn ((1390 : Int32) + 3 * 0 + 1) 1610 = true := by decide
  have b2 : xIn ((1390 : Int32) + 3 * 0 + 2) 1610 = true := by decide
  have n0 : 6 ≠ ((1390 : Int32) + 3 * 0).toNatClampNeg := by decide
  have n1 : 6 ≠ ((1390 : Int32) + 3 * 0 + 1).toNatClampNeg := by decide
  have n2 : 6 ≠ ((1390 : Int32) + 3 * 0 + 2).toNatClampNeg := by decide
  rw [fX12_day_64, b0, cond_e, xLet_e, xLet_e, b1, cond_e, xLet_e, xLet_e, b2, cond_e, xLet_e, in6, cond_e, cl6, r292, put_nk n2, put_nk n1, put_nk n0, hm, xLet_e, xLet_e, cond_e, xLet_e, cond_e, put_at, xLet_e]
  exact ⟨_, Eq.refl _⟩
theorem alike_day {a b c : Int32} : Alike (fX11_day 0 a b c) (fX12_day 291 a b c) (mB 1610) := by
  have o1 : ¬ (1 : Int32) = 0 := by decide
  by_cases h0 : b < 0
  · exact ⟨-1, mB 1610, mB 1610, by rw [fX11_day, fX11_day_0, within_no (Or.inl h0), bind_e, if_pos rfl, fX11_day_20], by rw [fX12_day, fX12_day_0, in_no (Or.inl h0), bind_e, if_pos rfl, fX12_day_32]⟩
  by_cases h5 : 5 < b
  · exact ⟨-1, mB 1610, mB 1610, by rw [fX11_day, fX11_day_0, within_no (Or.inr h5), bind_e, if_pos rfl, fX11_day_20], by rw [fX12_day, fX12_day_0, in_no (Or.inr h5), bind_e, if_pos rfl, fX12_day_32]⟩
  rcases both c 0 9999 with ⟨p1, q1⟩ | ⟨p1, q1⟩
  · exact ⟨-1, mB 1610, mB 1610, by rw [fX11_day, fX11_day_0, within_yes h0 h5, bind_e, if_neg o1, p1, bind_e, if_neg (by decide), fX11_day_20], by rw [fX12_day, fX12_day_0, in_yes h0 h5, bind_e, if_neg o1, q1, bind_e, if_pos rfl, fX12_day_32]⟩
  obtain ⟨m1, e1, r1⟩ := day1 (a := a) (c := c) h0 h5
  have hm : m1.1 292 6 = 0 := by rw [r1]; exact rB_292_6b
  have e2 : ∃ m2, fX12_day 291 a b c m1 = some (0 + 1, m2) := by
    rw [fX12_day, fX12_day_0, in_yes h0 h5, bind_e, if_neg o1, q1, bind_e, if_neg o1, in6, cond_e, cl6, r292, hm, xLet_e, if_pos (by decide), cond_e, xLet_e, xLet_e, xLet_e]
    by_cases q : a = 0
    · rw [if_pos q]; exact day64 hm
    · rw [if_neg q]; exact day64 hm
  obtain ⟨m2, e2⟩ := e2
  exact ⟨0 + 1, m1, m2, by rw [fX11_day, fX11_day_0, within_yes h0 h5, bind_e, if_neg o1, p1, bind_e, if_pos o1, e1, bind_e], e2⟩
theorem fuE0 : ∃ n, xFuel = n + 1 := by
  obtain ⟨n, hn⟩ := fuE 0 (by omega)
  exact ⟨n, hn⟩
/-! effect on the fresh memory -/
theorem k6 : ∀ k, k < 6 → ¬ (6 : Int32) ≤ Int32.ofNat k ∧ xIn ((6 : Int32) + Int32.ofNat k) 12 = true ∧ xIn (Int32.ofNat k) 12 = true ∧ Int32.ofNat k + 1 = Int32.ofNat (k + 1) := by decide
theorem z12 : ∀ k, k < 6 → (mB 1610).1 (0 + 1 + 4 + 2) ((6 : Int32) + Int32.ofNat k).toNatClampNeg = 0 := by decide +kernel
theorem le66 : (6 : Int32) ≤ Int32.ofNat 6 := by decide
theorem mean_s {n k : Nat} {l1 : Int64} {l3 : Int32} (hk : k < 6) : fX1_meanEffect_7 (0 + 1 + 4) (n + 1) l1 l3 (Int32.ofNat k) (mB 1610) = fX1_meanEffect_7 (0 + 1 + 4) n l1 l3 (Int32.ofNat (k + 1)) (mB 1610) := by
  obtain ⟨a1, a2, a3, a4⟩ := k6 k hk
  rw [fX1_meanEffect_7, if_neg a1, xLet_e, a2, cond_e, z12 k hk, xLet_e, a3, cond_e, xLet_e, if_pos (by decide), fX1_meanEffect_101, xLet_e, a4]
theorem mean_z {n : Nat} {l1 : Int64} : fX1_meanEffect_7 (0 + 1 + 4) (n + 1) l1 0 (Int32.ofNat 6) (mB 1610) = some (-1000000000, mB 1610) := by
  rw [fX1_meanEffect_7, if_pos le66, if_pos (by decide), fX1_meanEffect_121]
theorem days0 {a b c : Int32} : fX12_daysOf 291 a b c (mB 1610) = some (0, mB 1610) := by
  obtain ⟨k0, hk0⟩ := fuE0
  rw [fX12_daysOf, fX12_daysOf_0, hk0, fX12_daysOf_6, in6, cond_e, cl6, rB_292_6, xLet_e, if_pos (by decide)]
theorem eff_s {n k : Nat} {l1 l2 : Int32} (hk : k < 6) : fX12_effect_6 291 (n + 1) l1 l2 (Int32.ofNat k) (mB 1610) = fX12_effect_6 291 n l1 l2 (Int32.ofNat (k + 1)) (mB 1610) := by
  obtain ⟨a1, a2, a3, a4⟩ := k6 k hk
  rw [fX12_effect_6, if_neg a1, days0, bind_e, days0, bind_e, if_pos (by decide), fX12_effect_80, xLet_e, a4]
theorem eff_z {n : Nat} {l2 : Int32} : fX12_effect_6 291 (n + 1) 0 l2 (Int32.ofNat 6) (mB 1610) = some (-1000000000, mB 1610) := by
  rw [fX12_effect_6, if_pos le66, if_neg (by decide), fX12_effect_99]
theorem alike_effect : Alike (fX11_effect 0) (fX12_effect 291) (mB 1610) := by
  obtain ⟨n, hn⟩ := fuE 6 (by omega)
  refine ⟨-1000000000, mB 1610, mB 1610, ?_, ?_⟩
  · rw [fX11_effect, fX11_effect_0, fX1_meanEffect, fX1_meanEffect_0, hn, ← of0, mean_s (n := n + 1 + 5) (k := 0) (by decide), mean_s (n := n + 1 + 4) (k := 1) (by decide), mean_s (n := n + 1 + 3) (k := 2) (by decide), mean_s (n := n + 1 + 2) (k := 3) (by decide), mean_s (n := n + 1 + 1) (k := 4) (by decide), mean_s (n := n + 1) (k := 5) (by decide), of0, mean_z, bind_e]
  · rw [fX12_effect, fX12_effect_0, hn, ← of0, eff_s (n := n + 1 + 5) (k := 0) (by decide), eff_s (n := n + 1 + 4) (k := 1) (by decide), eff_s (n := n + 1 + 3) (k := 2) (by decide), eff_s (n := n + 1 + 2) (k := 3) (by decide), eff_s (n := n + 1 + 1) (k := 4) (by decide), eff_s (n := n + 1) (k := 5) (by decide), of0, eff_z]
