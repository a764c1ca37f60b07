/-! the reference's parser: the next token -/
def isLt (x : Int32) : Int32 := if (97 ≤ x.toInt ∧ x.toInt ≤ 122) ∨ (65 ≤ x.toInt ∧ x.toInt ≤ 90) then 1 else 0
theorem isLetter_e (x : Int32) (m : xMem) : fX12_isLetter x m = some (isLt x, m) := by
  have c97 : (97 : Int32).toInt = 97 := rfl
  have c122 : (122 : Int32).toInt = 122 := rfl
  have c65 : (65 : Int32).toInt = 65 := rfl
  have c90 : (90 : Int32).toInt = 90 := rfl
  refine of_vOk ?_
  unfold fX12_isLetter fX12_isLetter_0
  refine vAlB (in_e _ _ _ _) ?_
  dsimp only
  by_cases g1 : 97 ≤ x.toInt ∧ x.toInt ≤ 122
  · rw [wi_1 (by omega), if_pos (show ¬ (1 : Int32) = 0 by decide)]
    unfold fX12_isLetter_22 fX12_isLetter_27
    refine v01 (vOk_some ?_)
    unfold isLt
    rw [if_pos (Or.inl g1)]
  · rw [wi_0 (by omega), if_neg (not_not_intro rfl)]
    refine vAlB (in_e _ _ _ _) ?_
    dsimp only
    by_cases g2 : 65 ≤ x.toInt ∧ x.toInt ≤ 90
    · rw [wi_1 (by omega), if_neg (show ¬ (1 : Int32) = 0 by decide)]
      unfold fX12_isLetter_22 fX12_isLetter_27
      refine v01 (vOk_some ?_)
      unfold isLt
      rw [if_pos (Or.inr g2)]
    · rw [wi_0 (by omega), if_pos rfl]
      unfold fX12_isLetter_27
      refine v00 (vOk_some ?_)
      unfold isLt
      rw [if_neg (fun q => q.elim g1 g2)]
theorem wordOf_r (x : Int64) (m : xMem) : vOk (PP m (fun v : Int32 => -1 ≤ v.toInt ∧ v.toInt ≤ 13)) (fX12_wordOf x m) := by
  unfold fX12_wordOf fX12_wordOf_0
  refine vAny fun _ => ?_
  refine vNe (fun _ => ?_) (fun _ => rP (by decide))
  refine vAny fun _ => ?_
  refine vNe (fun _ => ?_) (fun _ => rP (by decide))
  refine vAny fun _ => ?_
  refine vNe (fun _ => ?_) (fun _ => rP (by decide))
  refine vAny fun _ => ?_
  refine vNe (fun _ => ?_) (fun _ => rP (by decide))
  refine vAny fun _ => ?_
  refine vNe (fun _ => ?_) (fun _ => rP (by decide))
  refine vAny fun _ => ?_
  refine vNe (fun _ => ?_) (fun _ => rP (by decide))
  refine vAny fun _ => ?_
  refine vNe (fun _ => ?_) (fun _ => rP (by decide))
  refine vAny fun _ => ?_
  refine vNe (fun _ => ?_) (fun _ => rP (by decide))
  refine vAny fun _ => ?_
  refine vNe (fun _ => ?_) (fun _ => rP (by decide))
  refine vAny fun _ => ?_
  refine vNe (fun _ => ?_) (fun _ => rP (by decide))
  refine vAny fun _ => ?_
  refine vNe (fun _ => ?_) (fun _ => rP (by decide))
  refine vAny fun _ => ?_
  refine vNe (fun _ => ?_) (fun _ => rP (by decide))
  refine vAny fun _ => ?_
  refine vNe (fun _ => ?_) (fun _ => rP (by decide))
  refine vAny fun _ => ?_
  refine vNe (fun _ => ?_) (fun _ => rP (by decide))
  exact rP (by decide)
def NF (m m1 : xMem) : Prop := m1.2 = m.2 ∧ ∀ b j, ¬ (b = 291 ∧ 13 ≤ j ∧ j ≤ 16) → m1.1 b j = m.1 b j
theorem NF_put {m0 m : xMem} {j : Nat} {v : Int32} (h : NF m0 m) (hj : 13 ≤ j ∧ j ≤ 16) : NF m0 (xPut m 291 j v) := by
  refine ⟨h.1, fun b i q => ?_⟩
  show (if b = 291 ∧ i = j then v else m.1 b i) = _
  rw [if_neg (by omega)]
  exact h.2 b i q
def TK (m : xMem) : Prop := (0 ≤ (m.1 291 14).toInt ∧ (m.1 291 14).toInt ≤ (m.1 291 13).toInt ∧ (m.1 291 13).toInt ≤ (m.1 291 12).toInt ∧ (m.1 291 12).toInt ≤ 300) ∧ ((m.1 291 15).toInt = 0 ∨ (1 ≤ (m.1 291 15).toInt ∧ (m.1 291 15).toInt ≤ 4 ∧ (m.1 291 14).toInt + 1 ≤ (m.1 291 13).toInt)) ∧ ((m.1 291 15).toInt = 1 → 0 ≤ (m.1 291 16).toInt ∧ (m.1 291 16).toInt ≤ 13)
def NP (m0 : xMem) (t : Int) (m1 : xMem) : Prop := NF m0 m1 ∧ TK m1 ∧ t ≤ (m1.1 291 14).toInt
def NS (m0 m : xMem) (tok at' : Int32) : Prop := NF m0 m ∧ m.1 291 13 = at' ∧ m.1 291 14 = tok
theorem NS_at {m0 m : xMem} {tok a v : Int32} (h : NS m0 m tok a) : NS m0 (xPut m 291 13 v) tok v := ⟨NF_put h.1 (by omega), xP_eq.symm, (xP_sl (by omega)).symm.trans h.2.2⟩
theorem NS_o {m0 m : xMem} {tok a v : Int32} {j : Nat} (h : NS m0 m tok a) (hj : 15 ≤ j ∧ j ≤ 16) : NS m0 (xPut m 291 j v) tok a := ⟨NF_put h.1 (by omega), (xP_sl (by omega)).symm.trans h.2.1, (xP_sl (by omega)).symm.trans h.2.2⟩
def NB (m0 : xMem) (t : Int) (tok a : Int32) : Prop := t ≤ tok.toInt ∧ 0 ≤ tok.toInt ∧ tok.toInt ≤ a.toInt ∧ a.toInt ≤ (m0.1 291 12).toInt ∧ (m0.1 291 12).toInt ≤ 300
section
variable {m0 : xMem} {t : Int} {tok : Int32}
theorem NS.L {m : xMem} {a : Int32} (h : NS m0 m tok a) : m0.1 291 12 = m.1 291 12 := (h.1.2 291 12 (by omega)).symm
theorem NS.tp {m : xMem} {a : Int32} (h : NS m0 m tok a) (j : Nat) : m.1 295 j = m0.1 295 j := h.1.2 295 j (by omega)
theorem NP_of {m : xMem} {a s w : Int32} (h : NS m0 m tok a) (b : NB m0 t tok a) (hs : m.1 291 15 = s) (hw : m.1 291 16 = w) (h1 : s.toInt = 0 ∨ (1 ≤ s.toInt ∧ s.toInt ≤ 4 ∧ tok.toInt + 1 ≤ a.toInt)) (h2 : s.toInt = 1 → 0 ≤ w.toInt ∧ w.toInt ≤ 13) : NP m0 t m := by
  unfold NB at b
  refine ⟨h.1, ?_, by rw [h.2.2]; omega⟩
  unfold TK
  rw [← h.L, h.2.1, h.2.2, hs, hw]
  exact ⟨⟨by omega, by omega, by omega, by omega⟩, h1, h2⟩
theorem next205_r {m : xMem} {a s v : Int32} (h : NS m0 m tok a) (b : NB m0 t tok a) (hw : m.1 291 16 = v) (hs : (s.toInt = 1 ∧ 0 ≤ v.toInt ∧ v.toInt ≤ 13) ∨ (2 ≤ s.toInt ∧ s.toInt ≤ 4)) (hl : tok.toInt + 1 ≤ a.toInt) : vOk (NP m0 t) (fX12_next_205 291 291 s m) := by
  unfold fX12_next_205 fX12_next_439
  refine vR fun m1 e1 => ?_
  refine vOk_some ?_
  refine NP_of (s := s) (w := v) (by rw [e1]; exact NS_o h (by omega)) b (by rw [e1]; exact xP_eq.symm) (by rw [e1]; exact (xP_sl (by omega)).symm.trans hw) (Or.inr ⟨by omega, by omega, hl⟩) (fun q => by omega)
theorem next189_r {m : xMem} {a v : Int32} (h : NS m0 m tok a) (b : NB m0 t tok a) (hv : -1 ≤ v.toInt ∧ v.toInt ≤ 13) (hl : tok.toInt + 1 ≤ a.toInt) : vOk (NP m0 t) (fX12_next_189 291 291 v m) := by
  have c0 : (0 : Int32).toInt = 0 := rfl
  have c1 : (1 : Int32).toInt = 1 := rfl
  have c4 : (4 : Int32).toInt = 4 := rfl
  unfold fX12_next_189
  refine vR fun m1 e1 => ?_
  have h1 : NS m0 m1 tok a := by rw [e1]; exact NS_o h (by omega)
  have w1 : m1.1 291 16 = v := by rw [e1]; exact xP_eq.symm
  refine vAl w1.symm ?_
  refine vLe (fun g => ?_) (fun g => ?_)
  · exact next205_r h1 b w1 (Or.inl ⟨by omega, by omega, by omega⟩) hl
  · exact next205_r h1 b w1 (Or.inr ⟨by omega, by omega⟩) hl
theorem next173_r {m : xMem} {a l4 : Int32} {l2 : Int64} (h : NS m0 m tok a) (b : NB m0 t tok a) (hl : tok.toInt + 1 ≤ a.toInt) : vOk (NP m0 t) (fX12_next_173 291 l2 l4 m) := by
  have cm : (-1 : Int32).toInt = -1 := rfl
  unfold fX12_next_173
  refine vLe (fun _ => ?_) (fun _ => ?_)
  · refine vBindP (wordOf_r l2 m) fun v _ hv => ?_
    dsimp only
    exact next189_r h b hv hl
  · exact next189_r h b (by omega) hl
theorem next99_r : ∀ (fuel : Nat) (l2 : Int64) (l4 a : Int32) (m : xMem), NS m0 m tok a → NB m0 t tok a → (tok.toInt + 1 ≤ a.toInt ∨ (a.toInt < (m0.1 291 12).toInt ∧ ¬ isLt (m0.1 295 a.toNatClampNeg) = 0)) → (m0.1 291 12).toInt - a.toInt < (fuel : Int) → vOk (NP m0 t) (fX12_next_99 291 fuel l2 l4 m) := by
  have c1 : (1 : Int32).toInt = 1 := rfl
  intro fuel
  induction fuel with
  | zero =>
    intro l2 l4 a m h b hf hmu
    unfold NB at b
    exfalso; omega
  | succ fuel ih =>
    intro l2 l4 a m h b hf hmu
    have b' := b
    unfold NB at b'
    have r156 : a.toInt < (m0.1 291 12).toInt → ∀ s0 : Int64, vOk (NP m0 t) (fX12_next_156 291 (fX12_next_99 291 fuel) l4 s0 m) := by
      intro q s0
      unfold fX12_next_156
      refine vAny fun x1 => ?_
      refine vAl h.2.1.symm ?_
      refine vA (by omega) fun x3 e3 f3 => ?_
      refine vR fun m4 e4 => ?_
      have h4 : NS m0 m4 tok x3 := by rw [e4]; exact NS_at h
      exact ih s0 x1 x3 m4 h4 (by unfold NB; omega) (Or.inl (by omega)) (by omega)
    rw [fX12_next_99]
    refine vAl h.2.1.symm ?_
    refine vAl h.L ?_
    refine vLe (fun g => ?_) (fun g => ?_)
    · exact next173_r h b (by omega)
    · refine vAl h.2.1.symm ?_
      refine vIn (by omega) (by omega) fun _ => ?_
      refine vAl (x := m0.1 295 a.toNatClampNeg) (h.tp _).symm ?_
      refine vAlB (isLetter_e _ _) ?_
      dsimp only
      refine vEq (fun g2 => ?_) (fun g2 => ?_)
      · refine next173_r h b (hf.resolve_right (fun q => q.2 (Int32.toInt_inj.mp g2)))
      · refine vLe (fun _ => r156 g _) (fun _ => ?_)
        refine vAny fun x10 => ?_
        refine vAl h.2.1.symm ?_
        refine vIn (by omega) (by omega) fun _ => ?_
        refine vAny fun x12 => ?_
        refine vAny fun x14 => ?_
        refine vAny fun x15 => ?_
        refine vAny fun x16 => ?_
        exact r156 g _
theorem next232_r : ∀ (fuel : Nat) (a : Int32) (m : xMem), NS m0 m tok a → NB m0 t tok a → (m.1 291 15).toInt = 2 → (tok.toInt + 1 ≤ a.toInt ∨ (a.toInt < (m0.1 291 12).toInt ∧ 48 ≤ (m0.1 295 a.toNatClampNeg).toInt ∧ (m0.1 295 a.toNatClampNeg).toInt ≤ 57)) → (m0.1 291 12).toInt - a.toInt < (fuel : Int) → vOk (NP m0 t) (fX12_next_232 291 fuel m) := by
  have c1 : (1 : Int32).toInt = 1 := rfl
  have c48 : (48 : Int32).toInt = 48 := rfl
  have c57 : (57 : Int32).toInt = 57 := rfl
  intro fuel
  induction fuel with
  | zero =>
    intro a m h b hs hf hmu
    unfold NB at b
    exfalso; omega
  | succ fuel ih =>
    intro a m h b hs hf hmu
    have b' := b
    unfold NB at b'
    have stop : tok.toInt + 1 ≤ a.toInt → vOk (NP m0 t) (fX12_next_439 291 m) := fun q =>
      vOk_some (NP_of h b rfl rfl (Or.inr ⟨by omega, by omega, q⟩) (fun w => by omega))
    have r299 : a.toInt < (m0.1 291 12).toInt → ∀ s1 : Int32, vOk (NP m0 t) (fX12_next_299 291 (fX12_next_232 291 fuel) 291 s1 m) := by
      intro q s1
      unfold fX12_next_299
      refine vR fun m1 e1 => ?_
      have h1 : NS m0 m1 tok a := by rw [e1]; exact NS_o h (by omega)
      have s15 : m1.1 291 15 = m.1 291 15 := by rw [e1]; exact (xP_sl (by omega)).symm
      refine vAl h1.2.1.symm ?_
      refine vA (by omega) fun x3 e3 f3 => ?_
      refine vR fun m4 e4 => ?_
      have h4 : NS m0 m4 tok x3 := by rw [e4]; exact NS_at h1
      have s4 : m4.1 291 15 = m1.1 291 15 := by rw [e4]; exact (xP_sl (by omega)).symm
      exact ih x3 m4 h4 (by unfold NB; omega) (by rw [s4, s15]; exact hs) (Or.inl (by omega)) (by omega)
    rw [fX12_next_232]
    refine vAl h.2.1.symm ?_
    refine vAl h.L ?_
    refine vLe (fun g => ?_) (fun g => ?_)
    · exact stop (by omega)
    · refine vAl h.2.1.symm ?_
      refine vIn (by omega) (by omega) fun _ => ?_
      refine vAl (x := m0.1 295 a.toNatClampNeg) (h.tp _).symm ?_
      refine vAlB (in_e _ _ _ _) ?_
      dsimp only
      by_cases g2 : 48 ≤ (m0.1 295 a.toNatClampNeg).toInt ∧ (m0.1 295 a.toNatClampNeg).toInt ≤ 57
      · rw [wi_1 (by omega), if_neg (show ¬ (1 : Int32) = 0 by decide)]
        refine vAny fun x9 => ?_
        refine vLe (fun _ => ?_) (fun _ => ?_)
        · refine vAny fun x11 => ?_
          refine vAny fun x12 => ?_
          refine vAl h.2.1.symm ?_
          refine vIn (by omega) (by omega) fun _ => ?_
          refine vAny fun x14 => ?_
          refine vAny fun x16 => ?_
          refine vAny fun x17 => ?_
          exact r299 g _
        · refine vAny fun x18 => ?_
          exact r299 g _
      · rw [wi_0 (by omega), if_pos rfl]
        exact stop (hf.resolve_right (fun q => g2 q.2))
theorem next385_r {m : xMem} {a x s : Int32} (h : NS m0 m tok a) (b : NB m0 t tok a) (hs : m.1 291 15 = s) (h3 : 2 ≤ s.toInt ∧ s.toInt ≤ 4) (hl : tok.toInt + 1 ≤ a.toInt) : vOk (NP m0 t) (fX12_next_385 291 x m) := by
  have c1 : (1 : Int32).toInt = 1 := rfl
  have b' := b
  unfold NB at b'
  have stop : vOk (NP m0 t) (fX12_next_439 291 m) :=
    vOk_some (NP_of h b hs rfl (Or.inr ⟨by omega, by omega, hl⟩) (fun w => by omega))
  have r426 : a.toInt < (m0.1 291 12).toInt → ∀ s1 : Int32, vOk (NP m0 t) (fX12_next_426 291 291 s1 m) := by
    intro q s1
    unfold fX12_next_426 fX12_next_439
    refine vR fun m1 e1 => ?_
    have h1 : NS m0 m1 tok a := by rw [e1]; exact NS_o h (by omega)
    have s15 : m1.1 291 15 = s := by rw [e1]; exact (xP_sl (by omega)).symm.trans hs
    refine vAl h1.2.1.symm ?_
    refine vA (by omega) fun x3 e3 f3 => ?_
    refine vR fun m4 e4 => ?_
    have h4 : NS m0 m4 tok x3 := by rw [e4]; exact NS_at h1
    have s4 : m4.1 291 15 = s := by rw [e4]; exact (xP_sl (by omega)).symm.trans s15
    exact vOk_some (NP_of h4 (by unfold NB; omega) s4 rfl (Or.inr ⟨by omega, by omega, by omega⟩) (fun w => by omega))
  unfold fX12_next_385
  refine vAl h.2.1.symm ?_
  refine vAl h.L ?_
  refine vLe (fun g => stop) (fun g => ?_)
  refine vAl h.2.1.symm ?_
  refine vIn (by omega) (by omega) fun _ => ?_
  refine vAny fun x5 => ?_
  refine vNe (fun _ => stop) (fun _ => ?_)
  refine vNe (fun _ => r426 g _) (fun _ => r426 g _)
theorem next370_r {m : xMem} {a x s : Int32} (h : NS m0 m tok a) (b : NB m0 t tok a) (h3 : 2 ≤ s.toInt ∧ s.toInt ≤ 4) (hl : tok.toInt + 1 ≤ a.toInt) : vOk (NP m0 t) (fX12_next_370 291 x 291 s m) := by
  unfold fX12_next_370
  refine vR fun m1 e1 => ?_
  have h1 : NS m0 m1 tok a := by rw [e1]; exact NS_o h (by omega)
  have s1 : m1.1 291 15 = s := by rw [e1]; exact xP_eq.symm
  refine vEq (fun _ => next385_r h1 b s1 h3 hl) (fun _ => ?_)
  refine vNe (fun _ => ?_) (fun _ => next385_r h1 b s1 h3 hl)
  exact vOk_some (NP_of h1 b s1 rfl (Or.inr ⟨by omega, by omega, hl⟩) (fun w => by omega))
end
theorem next52_r {m0 m : xMem} {t : Int} {a : Int32} (hF : NF m0 m) (ha : m.1 291 13 = a) (b : t ≤ a.toInt ∧ 0 ≤ a.toInt ∧ a.toInt ≤ (m0.1 291 12).toInt ∧ (m0.1 291 12).toInt ≤ 300) : vOk (NP m0 t) (fX12_next_52 291 m) := by
  have c0 : (0 : Int32).toInt = 0 := rfl
  have c1 : (1 : Int32).toInt = 1 := rfl
  have c2 : (2 : Int32).toInt = 2 := rfl
  have c3 : (3 : Int32).toInt = 3 := rfl
  have c4 : (4 : Int32).toInt = 4 := rfl
  have c48 : (48 : Int32).toInt = 48 := rfl
  have c57 : (57 : Int32).toInt = 57 := rfl
  have cF := xFu
  unfold fX12_next_52
  refine vAl ha.symm ?_
  refine vR fun m2 e2 => ?_
  have h2 : NS m0 m2 a a := by rw [e2]; exact ⟨NF_put hF (by omega), (xP_sl (by omega)).symm.trans ha, xP_eq.symm⟩
  have b2 : NB m0 t a a := by unfold NB; omega
  refine vAl h2.2.1.symm ?_
  refine vAl h2.L ?_
  refine vNe (fun g => ?_) (fun g => ?_)
  · refine vAl h2.2.1.symm ?_
    refine vIn (by omega) (by omega) fun _ => ?_
    refine vAl (x := m0.1 295 a.toNatClampNeg) (h2.tp _).symm ?_
    refine vAlB (isLetter_e _ _) ?_
    dsimp only
    refine vEq (fun g2 => ?_) (fun g2 => ?_)
    · refine vAlB (in_e _ _ _ _) ?_
      dsimp only
      by_cases g3 : 48 ≤ (m0.1 295 a.toNatClampNeg).toInt ∧ (m0.1 295 a.toNatClampNeg).toInt ≤ 57
      · rw [wi_1 (by omega), if_neg (show ¬ (1 : Int32) = 0 by decide)]
        refine vR fun m3 e3 => ?_
        have h3 : NS m0 m3 a a := by rw [e3]; exact NS_o h2 (by omega)
        have s3 : m3.1 291 15 = 2 := by rw [e3]; exact xP_eq.symm
        refine vR fun m4 e4 => ?_
        have h4 : NS m0 m4 a a := by rw [e4]; exact NS_o h3 (by omega)
        have s4 : m4.1 291 15 = 2 := by rw [e4]; exact (xP_sl (by omega)).symm.trans s3
        exact next232_r _ _ _ h4 b2 (by rw [s4]; rfl) (Or.inr ⟨by omega, g3⟩) (by omega)
      · rw [wi_0 (by omega), if_pos rfl]
        refine vAl h2.2.1.symm ?_
        refine vA (by omega) fun x3 e3 f3 => ?_
        refine vR fun m4 e4 => ?_
        have h4 : NS m0 m4 a x3 := by rw [e4]; exact NS_at h2
        have b4 : NB m0 t a x3 := by unfold NB; omega
        refine vR fun m5 e5 => ?_
        have h5 : NS m0 m5 a x3 := by rw [e5]; exact NS_o h4 (by omega)
        have r365 : vOk (NP m0 t) (fX12_next_365 291 (m0.1 295 a.toNatClampNeg) 291 m5) := by
          unfold fX12_next_365
          exact next370_r h5 b4 (by omega) (by omega)
        refine vAlB (in_e _ _ _ _) ?_
        dsimp only
        refine vNe (fun _ => r365) (fun _ => ?_)
        refine vAlB (in_e _ _ _ _) ?_
        dsimp only
        refine vNe (fun _ => r365) (fun _ => ?_)
        refine vEq (fun _ => r365) (fun _ => ?_)
        refine vNe (fun _ => ?_) (fun _ => r365)
        exact next370_r h5 b4 (by omega) (by omega)
    · exact next99_r _ _ _ _ _ h2 b2 (Or.inr ⟨by omega, fun q => g2 (congrArg Int32.toInt q)⟩) (by omega)
  · refine vR fun m3 e3 => ?_
    refine vOk_some (NP_of (s := 0) (by rw [e3]; exact NS_o h2 (by omega)) b2 (by rw [e3]; exact xP_eq.symm) rfl (Or.inl rfl) (fun w => by omega))
theorem next0_r {m0 : xMem} {t : Int} : ∀ (fuel : Nat) (a : Int32) (m : xMem), NF m0 m → m.1 291 13 = a → (t ≤ a.toInt ∧ 0 ≤ a.toInt ∧ a.toInt ≤ (m0.1 291 12).toInt ∧ (m0.1 291 12).toInt ≤ 300) → (m0.1 291 12).toInt - a.toInt < (fuel : Int) → vOk (NP m0 t) (fX12_next_0 291 fuel m) := by
  have c1 : (1 : Int32).toInt = 1 := rfl
  intro fuel
  induction fuel with
  | zero =>
    intro a m h ha b hmu
    exfalso; omega
  | succ fuel ih =>
    intro a m h ha b hmu
    have hL : m0.1 291 12 = m.1 291 12 := (h.2 291 12 (by omega)).symm
    have r39 : a.toInt < (m0.1 291 12).toInt → vOk (NP m0 t) (fX12_next_39 291 (fX12_next_0 291 fuel) m) := by
      intro q
      unfold fX12_next_39
      refine vAl ha.symm ?_
      refine vA (by omega) fun x2 e2 f2 => ?_
      refine vR fun m3 e3 => ?_
      exact ih x2 m3 (by rw [e3]; exact NF_put h (by omega)) (by rw [e3]; exact xP_eq.symm) (by omega) (by omega)
    rw [fX12_next_0]
    refine vAl ha.symm ?_
    refine vAl hL ?_
    refine vLe (fun _ => next52_r h ha b) (fun g => ?_)
    refine vAl ha.symm ?_
    refine vIn (by omega) (by omega) fun _ => ?_
    refine vAny fun x5 => ?_
    refine vEq (fun _ => r39 g) (fun _ => ?_)
    refine vAl ha.symm ?_
    refine vIn (by omega) (by omega) fun _ => ?_
    refine vAny fun x9 => ?_
    refine vNe (fun _ => next52_r h ha b) (fun _ => r39 g)
theorem next_r {m : xMem} (h : 0 ≤ (m.1 291 13).toInt ∧ (m.1 291 13).toInt ≤ (m.1 291 12).toInt ∧ (m.1 291 12).toInt ≤ 300) : vOk (NP m (m.1 291 13).toInt) (fX12_next 291 m) := by
  have cF := xFu
  unfold fX12_next
  exact next0_r _ _ _ ⟨rfl, fun _ _ _ => rfl⟩ rfl (by omega) (by omega)
