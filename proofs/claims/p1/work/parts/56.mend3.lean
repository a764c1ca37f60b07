/-! mend: alike -/
theorem both (a b c : Int32) : ((∀ m, fX11_within a b c m = some (0, m)) ∧ ∀ m, fX12_in a b c m = some (0, m)) ∨ ((∀ m, fX11_within a b c m = some (1, m)) ∧ ∀ m, fX12_in a b c m = some (1, m)) := by
  by_cases h1 : a < b
  · exact Or.inl ⟨fun _ => within_no (Or.inl h1), fun _ => in_no (Or.inl h1)⟩
  · by_cases h2 : c < a
    · exact Or.inl ⟨fun _ => within_no (Or.inr h2), fun _ => in_no (Or.inr h2)⟩
    · exact Or.inr ⟨fun _ => within_yes h1 h2, fun _ => in_yes h1 h2⟩
theorem rB_292_7b : (mB 1610).1 292 7 = 0 := by decide +kernel
theorem alike_mend {a b c e : Int32} : Alike (fX11_mend 0 a b c e) (fX12_mend 291 a b c e) (mB 1610) := by
  have o1 : ¬ (1 : Int32) = 0 := by decide
  have m36 : fX11_mend_36 0 a b c e (mB 1610) = some (-1, mB 1610) := by
    rw [fX11_mend_36, fX11_mend_37, if_pos rfl, fX11_mend_55]
  rcases both a 0 999 with ⟨p1, q1⟩ | ⟨p1, q1⟩
  · exact ⟨-1, mB 1610, mB 1610, by rw [fX11_mend, fX11_mend_0, p1, bind_e, if_pos rfl, m36], by rw [fX12_mend, fX12_mend_0, q1, bind_e, if_pos rfl, fX12_mend_55]⟩
  rcases both b 0 99 with ⟨p2, q2⟩ | ⟨p2, q2⟩
  · exact ⟨-1, mB 1610, mB 1610, by rw [fX11_mend, fX11_mend_0, p1, bind_e, if_neg o1, p2, bind_e, if_pos rfl, m36], by rw [fX12_mend, fX12_mend_0, q1, bind_e, if_neg o1, q2, bind_e, if_pos rfl, fX12_mend_55]⟩
  rcases both c 0 999 with ⟨p3, q3⟩ | ⟨p3, q3⟩
  · exact ⟨-1, mB 1610, mB 1610, by rw [fX11_mend, fX11_mend_0, p1, bind_e, if_neg o1, p2, bind_e, if_neg o1, p3, bind_e, if_pos rfl, m36], by rw [fX12_mend, fX12_mend_0, q1, bind_e, if_neg o1, q2, bind_e, if_neg o1, q3, bind_e, if_pos rfl, fX12_mend_55]⟩
  rcases both e 1 9 with ⟨p4, q4⟩ | ⟨p4, q4⟩
  · exact ⟨-1, mB 1610, mB 1610, by rw [fX11_mend, fX11_mend_0, p1, bind_e, if_neg o1, p2, bind_e, if_neg o1, p3, bind_e, if_neg o1, fX11_mend_37, if_neg o1, p4, bind_e, if_neg (by decide), fX11_mend_55], by rw [fX12_mend, fX12_mend_0, q1, bind_e, if_neg o1, q2, bind_e, if_neg o1, q3, bind_e, if_neg o1, q4, bind_e, if_pos rfl, fX12_mend_55]⟩
  obtain ⟨m1, e1, r1⟩ := mend1 (p1 _) (p2 _) (p3 _) (p4 _)
  obtain ⟨m2, e2⟩ := mend2 (m := m1) (q1 _) (q2 _) (q3 _) (q4 _) (by rw [r1]; exact rB_292_7b)
  exact ⟨0 + 1 - 1, m1, m2, e1, e2⟩
