/-! hall, on both sides, from any memory -/
def wi (a b c : Int32) : Int32 := if b.toInt ≤ a.toInt ∧ a.toInt ≤ c.toInt then 1 else 0
theorem within_e (a b c : Int32) (m : xMem) : fX11_within a b c m = some (wi a b c, m) := by
  unfold fX11_within fX11_within_0 wi
  by_cases h1 : a < b
  · have q := Int32.lt_iff_toInt_lt.mp h1
    rw [if_pos h1, if_neg (by omega)]; rfl
  · have q : ¬ a.toInt < b.toInt := fun w => h1 (Int32.lt_iff_toInt_lt.mpr w)
    rw [if_neg h1]
    by_cases h2 : c < a
    · have q := Int32.lt_iff_toInt_lt.mp h2
      rw [if_pos h2, if_neg (by omega)]; rfl
    · have q2 : ¬ c.toInt < a.toInt := fun w => h2 (Int32.lt_iff_toInt_lt.mpr w)
      rw [if_neg h2, if_pos (by omega)]; rfl
theorem in_e (a b c : Int32) (m : xMem) : fX12_in a b c m = some (wi a b c, m) := by
  unfold fX12_in fX12_in_0 wi
  by_cases h1 : a < b
  · have q := Int32.lt_iff_toInt_lt.mp h1
    rw [if_pos h1, if_neg (by omega)]; rfl
  · have q : ¬ a.toInt < b.toInt := fun w => h1 (Int32.lt_iff_toInt_lt.mpr w)
    rw [if_neg h1]
    by_cases h2 : c < a
    · have q := Int32.lt_iff_toInt_lt.mp h2
      rw [if_pos h2, if_neg (by omega)]; rfl
    · have q2 : ¬ c.toInt < a.toInt := fun w => h2 (Int32.lt_iff_toInt_lt.mpr w)
      rw [if_neg h2, if_pos (by omega)]; rfl
theorem wi_1 {a b c : Int32} (h : b.toInt ≤ a.toInt ∧ a.toInt ≤ c.toInt) : wi a b c = 1 := if_pos h
theorem wi_0 {a b c : Int32} (h : ¬ (b.toInt ≤ a.toInt ∧ a.toInt ≤ c.toInt)) : wi a b c = 0 := if_neg h
theorem IC_cfg {R m : xMem} {a j : Nat} {v : Int32} (h : IC R m) (w : BC a j = false) : IC (xPut R a j v) (xPut m a j v) := by
  refine ⟨fun b i hk => ?_, fun b i hk => ?_, h.pl⟩
  · show (if b = a ∧ i = j then v else m.1 b i) = (if b = a ∧ i = j then v else R.1 b i)
    by_cases q : b = a ∧ i = j
    · rw [if_pos q, if_pos q]
    · rw [if_neg q, if_neg q]; exact h.kc b i hk
  · show 0 ≤ (if b = a ∧ i = j then v else m.1 b i).toInt ∧ (if b = a ∧ i = j then v else m.1 b i).toInt ≤ 1
    rw [if_neg (by rintro ⟨rfl, rfl⟩; rw [w] at hk; cases hk)]
    exact h.bc b i hk
theorem hall_c {R m : xMem} {a1 : Int32} (hI : IC R m) (h0 : 0 ≤ (R.1 1 7).toInt ∧ (R.1 1 7).toInt ≤ 6) : vOk (fun p : Int32 × xMem => if (1 ≤ a1.toInt ∧ a1.toInt ≤ 999) ∧ (R.1 1 7).toInt ≤ 5 then p.1 = R.1 1 7 ∧ IC (xPut R 1 7 (R.1 1 7 + 1)) p.2 else p.1 = -1 ∧ IC R p.2) (fX11_hall 0 a1 m) := by
  have c0 : (0 : Int32).toInt = 0 := rfl
  have c1 : (1 : Int32).toInt = 1 := rfl
  have c5 : (5 : Int32).toInt = 5 := rfl
  have c999 : (999 : Int32).toInt = 999 := rfl
  have kc7 : m.1 1 7 = R.1 1 7 := hI.kc 1 7 (by decide)
  unfold fX11_hall fX11_hall_0
  refine vAlB (within_e _ _ _ _) ?_
  dsimp only
  by_cases g1 : 1 ≤ a1.toInt ∧ a1.toInt ≤ 999
  · rw [wi_1 (by omega), if_neg (show ¬ (1 : Int32) = 0 by decide)]
    refine vAl kc7.symm ?_
    refine vAlB (within_e _ _ _ _) ?_
    dsimp only
    by_cases g2 : (R.1 1 7).toInt ≤ 5
    · rw [wi_1 (by omega), if_pos (show ¬ (1 : Int32) = 0 by decide)]
      refine vAl kc7.symm ?_
      refine vIn (by omega) (by omega) fun n => ?_
      refine vR fun r8 er => ?_
      have hr : r8 ∈ pHall := by rw [er]; exact (show ∀ i, i < 6 → 0 + 1 + 15 + 3 * i ∈ pHall by decide) _ n
      refine vOk_bind (fX2_build_s hr hI) fun m9 h9 => ?_
      have k9 : m9.1 1 7 = R.1 1 7 := h9.kc 1 7 (by decide)
      refine vAl k9.symm ?_
      refine vAl (x := R.1 1 7 + 1) rfl ?_
      refine vR fun m12 e12 => ?_
      have h12 : IC (xPut R 1 7 (R.1 1 7 + 1)) m12 := by rw [e12]; exact IC_cfg h9 (by decide)
      refine vAl (x := R.1 1 7 + 1) (xP_eqE e12) ?_
      refine vAl (x := R.1 1 7) (Int32.add_sub_cancel _ _).symm ?_
      refine vOk_some ?_
      rw [if_pos ⟨g1, g2⟩]
      exact ⟨rfl, h12⟩
    · rw [wi_0 (by omega), if_neg (not_not_intro rfl)]
      refine vOk_some ?_
      rw [if_neg (fun q => g2 q.2)]
      exact ⟨rfl, hI⟩
  · rw [wi_0 (by omega), if_pos rfl]
    refine vOk_some ?_
    rw [if_neg (fun q => g1 q.1)]
    exact ⟨rfl, hI⟩
theorem IC_keep {R m : xMem} {a j : Nat} {v : Int32} (h : IC R m) (w : a ∈ pKeep) : IC (xPut R a j v) (xPut m a j v) := IC_cfg h (keepBC a w j)
theorem IC_kcpy {R m : xMem} {a0 a sp dp n : Nat} (h : IC R m) (w0 : a0 ∈ pKeep) (w : a ∈ pKeep) : IC (xCpy R a0 a sp dp n) (xCpy m a0 a sp dp n) := by
  have e0 : m.1 a0 = R.1 a0 := funext fun j => h.kc a0 j (keepKC a0 w0 j)
  have e1 : m.1 a = R.1 a := funext fun j => h.kc a j (keepKC a w j)
  refine ⟨fun b i hk => ?_, fun b i hk => ?_, h.pl⟩
  · show (if b = a then va_cpy (m.1 a0) (m.1 a) sp dp n i else m.1 b i) = (if b = a then va_cpy (R.1 a0) (R.1 a) sp dp n i else R.1 b i)
    rw [h.kc b i hk, e0, e1]
  · have hb : b ≠ a := by
      intro q
      rw [q, keepBC a w] at hk
      cases hk
    rw [← xC_pl hb]
    exact h.bc b i hk
theorem kcK {R m : xMem} {a : Nat} (h : IC R m) (w : a ∈ pKeep) (j : Nat) : R.1 a j = m.1 a j := (h.kc a j (keepKC a w j)).symm
