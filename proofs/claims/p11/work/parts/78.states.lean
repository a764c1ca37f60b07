/-! the reference's parser: its five states -/
def PF (m m1 : xMem) : Prop := m1.2 = m.2 ∧ ∀ b j, ¬ ((b = 291 ∧ 13 ≤ j) ∨ (301 ≤ b ∧ b ≤ 308)) → m1.1 b j = m.1 b j
theorem PF_refl {m : xMem} : PF m m := ⟨rfl, fun _ _ _ => rfl⟩
theorem PF_tr {a b c : xMem} (h1 : PF a b) (h2 : PF b c) : PF a c := ⟨h2.1.trans h1.1, fun x j q => (h2.2 x j q).trans (h1.2 x j q)⟩
theorem PF_N {a b : xMem} (h : EN a b) : PF a b := ⟨h.1, fun x j q => h.2 x j (by omega)⟩
theorem PF_put {m0 m : xMem} {b j : Nat} {v : Int32} (h : PF m0 m) (hb : (b = 291 ∧ 13 ≤ j) ∨ (301 ≤ b ∧ b ≤ 308)) : PF m0 (xPut m b j v) := by
  refine ⟨h.1, fun c i q => ?_⟩
  show (if c = b ∧ i = j then v else m.1 c i) = _
  rw [if_neg (by omega)]
  exact h.2 c i q
theorem EN_put {m0 m : xMem} {b j : Nat} {v : Int32} (h : EN m0 m) (hb : (b = 291 ∧ ((13 ≤ j ∧ j ≤ 16) ∨ j = 19 ∨ j = 20 ∨ j = 23 ∨ j = 26 ∨ j = 31)) ∨ (301 ≤ b ∧ b ≤ 304) ∨ b = 307 ∨ b = 308) : EN m0 (xPut m b j v) := by
  refine ⟨h.1, fun c i q => ?_⟩
  show (if c = b ∧ i = j then v else m.1 c i) = _
  rw [if_neg (by omega)]
  exact h.2 c i q
def PIs (m : xMem) (lv : List (Nat × List Nat)) (s O H C : Nat) : Prop :=
  ((m.1 291 26).toInt = 0 ∧ stC lv ∧ H = wsum lv ∧ C < 10 ∧ (m.1 306 C).toInt = (s : Int))
  ∨ ((m.1 291 26).toInt = 1 ∧ stN lv ∧ H = wsum lv + rgt lv ∧ C < 10 ∧ (m.1 306 C).toInt = (s : Int))
  ∨ ((m.1 291 26).toInt = 2 ∧ stN lv ∧ ¬ topK lv = 7 ∧ H = wsum lv + rgt lv + 1 ∧ C < 10 ∧ (m.1 306 C).toInt = (s : Int))
  ∨ ((m.1 291 26).toInt = 3 ∧ (∃ ops, lv = [(2, ops)] ∧ cndO ops) ∧ H = wsum lv + 1 ∧ C < 10 ∧ (m.1 306 C).toInt = (s : Int))
  ∨ ((m.1 291 26).toInt = 4 ∧ lv = [] ∧ H = 0 ∧ s = O ∧ C ≤ 10)
def PI (m : xMem) : Prop := ∃ lv s O H C, (m.1 291 17).toInt = 0 ∧ TK m ∧ Core m lv s O H C ∧ (m.1 291 19).toInt = (opn lv : Int) ∧ opn lv ≤ 8 ∧ ((O + wsum lv + pnd lv : Nat) : Int) ≤ (m.1 291 14).toInt ∧ PIs m lv s O H C
def MU (m : xMem) : Int := 2 * ((m.1 291 12).toInt - (m.1 291 13).toInt + (if (m.1 291 15).toInt = 0 then 0 else 1)) + (if (m.1 291 26).toInt = 0 ∨ (m.1 291 26).toInt = 2 then 1 else 0)
theorem MU_next {m m1 : xMem} (hL : m1.1 291 12 = m.1 291 12) (hs : ¬ (m.1 291 15).toInt = 0) (t : TK m1) (ha : (m.1 291 13).toInt ≤ (m1.1 291 14).toInt) : MU m1 < MU m := by
  unfold TK at t
  unfold MU
  rw [if_neg hs, hL]
  have w1 : (if (m1.1 291 26).toInt = 0 ∨ (m1.1 291 26).toInt = 2 then 1 else 0 : Int) ≤ 1 := by
    by_cases q : (m1.1 291 26).toInt = 0 ∨ (m1.1 291 26).toInt = 2
    · rw [if_pos q]; omega
    · rw [if_neg q]; omega
  have w0 : (0 : Int) ≤ (if (m.1 291 26).toInt = 0 ∨ (m.1 291 26).toInt = 2 then 1 else 0 : Int) := by
    by_cases q : (m.1 291 26).toInt = 0 ∨ (m.1 291 26).toInt = 2
    · rw [if_pos q]; omega
    · rw [if_neg q]; omega
  by_cases q : (m1.1 291 15).toInt = 0
  · rw [if_pos q]
    omega
  · rw [if_neg q]
    have := t.2.1.resolve_left q
    omega
theorem MU_w {m m1 : xMem} (e : ∀ j, 12 ≤ j → j ≤ 16 → m1.1 291 j = m.1 291 j) (h : (m.1 291 26).toInt = 0 ∨ (m.1 291 26).toInt = 2) (h1 : ¬ ((m1.1 291 26).toInt = 0 ∨ (m1.1 291 26).toInt = 2)) : MU m1 < MU m := by
  unfold MU
  rw [e 12 (by omega) (by omega), e 13 (by omega) (by omega), e 15 (by omega) (by omega), if_pos h, if_neg h1]
  omega
def ST (m m1 : xMem) : Prop := PF m m1 ∧ (0 < (m1.1 291 17).toInt ∨ (PI m1 ∧ MU m1 < MU m))
/-- a token was taken -/
def BN (m p : xMem) (lv : List (Nat × List Nat)) (s O H C : Nat) : Prop := Core p lv s O H C ∧ TK p ∧ EN m p ∧ (p.1 291 19).toInt = (opn lv : Int) ∧ (m.1 291 13).toInt ≤ (p.1 291 14).toInt
theorem BN_26 {m p : xMem} {lv : List (Nat × List Nat)} {s O H C : Nat} {v : Int32} (h : BN m p lv s O H C) : BN m (xPut p 291 26 v) lv s O H C := by
  obtain ⟨a, b, c, d, e⟩ := h
  have q : ∀ j, j ≠ 26 → (xPut p 291 26 v).1 291 j = p.1 291 j := fun j hj => (xP_sl hj).symm
  refine ⟨Core_x (fun b j w => ?_) a, TK_cong (fun j _ _ => q j (by omega)) b, EN_put c (by omega), by rw [q 19 (by omega)]; exact d, by rw [q 14 (by omega)]; exact e⟩
  show (if b = 291 ∧ j = 26 then _ else p.1 b j) = _
  rw [if_neg (by omega)]
theorem ST_BN {m p : xMem} {lv : List (Nat × List Nat)} {s O H C : Nat} (h : BN m p lv s O H C) (hw : (m.1 291 17).toInt = 0) (hs : ¬ (m.1 291 15).toInt = 0) (t : TK m) (o8 : opn lv ≤ 8) (hb : ((O + wsum lv + pnd lv : Nat) : Int) ≤ (m.1 291 14).toInt + 1) (hp : PIs p lv s O H C) : ST m p := by
  obtain ⟨a, b, c, d, e⟩ := h
  have t' := t
  unfold TK at t'
  have := t'.2.1.resolve_left hs
  refine ⟨PF_N c, Or.inr ⟨⟨lv, s, O, H, C, by rw [c.2 291 17 (by omega)]; exact hw, b, a, d, o8, by omega, hp⟩, MU_next (c.2 291 12 (by omega)) hs b e⟩⟩
theorem errs_c {m : xMem} {a : Int32} (hw : (m.1 291 17).toInt = 0) (ha : 0 < a.toInt) : vOk (ST m) (fX12_errs 291 a m) := by
  have c0 : (0 : Int32).toInt = 0 := rfl
  unfold fX12_errs fX12_errs_0
  refine vAl (x := m.1 291 17) rfl ?_
  refine vNe (fun g => by exfalso; omega) (fun _ => ?_)
  refine vR fun m3 e3 => ?_
  refine vR fun x4 e4 => ?_
  refine vR fun m5 e5 => ?_
  unfold fX12_errs_20
  refine vOk_some ⟨by rw [e5, e3]; exact PF_put (PF_put PF_refl (by omega)) (by omega), Or.inl ?_⟩
  have z : m5.1 291 17 = a := by rw [e5, e3]; exact (xP_eq.trans (xP_sl (by omega))).symm
  rw [z]
  exact ha
theorem isSign_c {m : xMem} {a : Int32} : vOk (PP m (fun x : Int32 => ¬ x.toInt = 0 → (m.1 291 15).toInt = 3)) (fX12_isSign 291 a m) := by
  have c3 : (3 : Int32).toInt = 3 := rfl
  unfold fX12_isSign fX12_isSign_0
  refine vAl (x := m.1 291 15) rfl ?_
  refine vNe (fun _ => ?_) (fun g => ?_)
  · unfold fX12_isSign_20 fX12_isSign_21
    exact v00 (rP (fun q => absurd rfl q))
  · refine vAl (x := m.1 291 16) rfl ?_
    refine vNe (fun _ => ?_) (fun _ => ?_)
    · unfold fX12_isSign_20 fX12_isSign_21
      exact v00 (rP (fun q => absurd rfl q))
    · unfold fX12_isSign_21
      exact v01 (rP (fun _ => by omega))
theorem isWord_c {m : xMem} {a : Int32} : vOk (PP m (fun x : Int32 => ¬ x.toInt = 0 → (m.1 291 15).toInt = 1)) (fX12_isWord 291 a m) := by
  have c1 : (1 : Int32).toInt = 1 := rfl
  unfold fX12_isWord fX12_isWord_0
  refine vAl (x := m.1 291 15) rfl ?_
  refine vNe (fun _ => ?_) (fun g => ?_)
  · unfold fX12_isWord_20 fX12_isWord_21
    exact v00 (rP (fun q => absurd rfl q))
  · refine vAl (x := m.1 291 16) rfl ?_
    refine vNe (fun _ => ?_) (fun _ => ?_)
    · unfold fX12_isWord_20 fX12_isWord_21
      exact v00 (rP (fun q => absurd rfl q))
    · unfold fX12_isWord_21
      exact v01 (rP (fun _ => by omega))
theorem isAsking_c {a : Int32} {m : xMem} : vOk (PP m (fun x : Int32 => ¬ x.toInt = 0 → isAsk a)) (fX12_isAsking a m) := by
  have c60 : (60 : Int32).toInt = 60 := rfl
  have c62 : (62 : Int32).toInt = 62 := rfl
  have c61 : (61 : Int32).toInt = 61 := rfl
  have c35 : (35 : Int32).toInt = 35 := rfl
  have c300 : (300 : Int32).toInt = 300 := rfl
  have c301 : (301 : Int32).toInt = 301 := rfl
  have yes : isAsk a → vOk (PP m (fun x : Int32 => ¬ x.toInt = 0 → isAsk a)) (fX12_isAsking_38 a m) := by
    intro q
    unfold fX12_isAsking_38 fX12_isAsking_43
    exact v01 (rP (fun _ => q))
  unfold fX12_isAsking fX12_isAsking_0
  refine vEq (fun g => yes (by unfold isAsk; omega)) (fun _ => ?_)
  refine vEq (fun g => yes (by unfold isAsk; omega)) (fun _ => ?_)
  refine vEq (fun g => yes (by unfold isAsk; omega)) (fun _ => ?_)
  refine vEq (fun g => yes (by unfold isAsk; omega)) (fun _ => ?_)
  refine vEq (fun g => yes (by unfold isAsk; omega)) (fun _ => ?_)
  refine vNe (fun _ => ?_) (fun g => yes (by unfold isAsk; omega))
  unfold fX12_isAsking_43
  exact v00 (rP (fun q => absurd rfl q))
section
variable {s C : Nat}
theorem opensFrame_c {m : xMem} {lv : List (Nat × List Nat)} {O H f : Nat} {a : Int32} (h : Core m lv s O H C) (hl40 : lv.length < 40) (ha : a.toInt = (f : Int)) (hf : ¬ f = 5) : vOk (fun m1 => Core m1 ((f, []) :: lv) s O H C ∧ EG m m1 ∧ m1.1 291 19 = m.1 291 19 ∧ m1.1 291 26 = m.1 291 26) (fX12_opensFrame 291 a m) := by
  obtain ⟨hl, ⟨h20, h23, h31, h27⟩, hs, hp, hv⟩ := h
  have c1 : (1 : Int32).toInt = 1 := rfl
  have w20 := wN h20
  unfold fX12_opensFrame fX12_opensFrame_0
  refine vAl (x := m.1 291 20) rfl ?_
  refine vIn (by omega) (by omega) fun _ => ?_
  rw [w20]
  refine vR fun m2 e2 => ?_
  refine vAl (x := m.1 291 20) (xP_plE e2 (by omega)) ?_
  refine vA (by omega) fun x5 e5 f5 => ?_
  refine vR fun m6 e6 => ?_
  have z20 : m6.1 291 20 = x5 := by rw [e6]; exact xP_eq.symm
  have fr : ∀ c i, ¬ ((c = 291 ∧ i = 20) ∨ c = 301) → m6.1 c i = m.1 c i := fun c i q => by
    rw [e6, e2]
    show (if c = 291 ∧ i = 20 then _ else if c = 291 + 10 ∧ i = lv.length then _ else m.1 c i) = _
    rw [if_neg (by omega), if_neg (by omega)]
  have q1 : m6.1 301 lv.length = a := by
    rw [e6, ← xP_pl (by omega), e2]
    exact xP_eq.symm
  have qj : ∀ j, j < lv.length → m6.1 301 j = m.1 301 j := fun j hj => by
    rw [e6, ← xP_pl (by omega), e2, ← xP_sl (by omega)]
  have l := LV_cong (h1 := m6.1 301) (h2 := m6.1 302) (h3 := m6.1 303) (h4 := m6.1 304) lv qj (fun j _ => fr 302 j (by omega)) (fun j _ => ⟨fr 303 j (by omega), fr 304 j (by omega)⟩) hl
  have e66 : m6.1 306 = m.1 306 := funext fun j => fr 306 j (by omega)
  have e7 : m6.1 307 = m.1 307 := funext fun j => fr 307 j (by omega)
  have e8 : m6.1 308 = m.1 308 := funext fun j => fr 308 j (by omega)
  have w : wsum ((f, []) :: lv) = wsum lv := Nat.zero_add _
  refine vOk_some ⟨⟨⟨by rw [q1]; exact ha, trivial, fun q => absurd q hf, l⟩, ⟨by rw [z20, List.length_cons]; omega, by rw [w, fr 291 23 (by omega)]; exact h23, by rw [fr 291 31 (by omega)]; exact h31, by rw [fr 291 27 (by omega)]; exact h27⟩, hs, by rw [e7, e8]; exact hp, by rw [e66, e7, e8]; exact hv⟩, ⟨by rw [e6, e2]; rfl, fun c i q => fr c i (by omega)⟩, fr 291 19 (by omega), fr 291 26 (by omega)⟩
theorem opensSign_c {m : xMem} {lv : List (Nat × List Nat)} {O H f : Nat} {a : Int32} (h : Core m lv s O H C) (t : TK m) (hw : (m.1 291 17).toInt = 0) (h19 : (m.1 291 19).toInt = (opn lv : Int)) (h8 : opn lv ≤ 8) (hl40 : lv.length < 40) (ha : a.toInt = (f : Int)) (hf : f = 3 ∨ f = 6 ∨ f = 7) : vOk (fun p : Int32 × xMem => ST m p.2 ∨ (opn lv < 8 ∧ BN m p.2 ((f, []) :: lv) s O H C ∧ p.2.1 291 26 = m.1 291 26)) (fX12_opensSign 291 a m) := by
  have c1 : (1 : Int32).toInt = 1 := rfl
  have c8 : (8 : Int32).toInt = 8 := rfl
  unfold fX12_opensSign fX12_opensSign_0
  refine vAl (x := m.1 291 19) rfl ?_
  refine vNe (fun g => ?_) (fun g => ?_)
  · refine vAl (x := m.1 291 19) rfl ?_
    refine vA (by omega) fun x4 e4 f4 => ?_
    refine vR fun m5 e5 => ?_
    have z5 : m5.1 291 19 = x4 := by rw [e5]; exact xP_eq.symm
    have z26 : m5.1 291 26 = m.1 291 26 := by rw [e5]; exact (xP_sl (by omega)).symm
    have i5 : Core m5 lv s O H C := Core_x (fun b j w => by rw [e5]; exact (show (if b = 291 ∧ j = 19 then _ else m.1 b j) = _ by rw [if_neg (by omega)])) h
    have g5 : EG m m5 := by rw [e5]; exact EG_put EG_refl (by omega)
    refine vOk_bind (opensFrame_c i5 hl40 ha (by omega)) fun m6 q => ?_
    obtain ⟨a1, a2, a3, a4⟩ := q
    have g6 := EG_tr g5 a2
    refine vOk_bind (next_c a1 (TK_G g6 t)) fun m7 q => ?_
    obtain ⟨b1, b2, b3, b4⟩ := q
    have o : opn ((f, []) :: lv) = 1 + opn lv := by
      show (if f = 3 ∨ f = 6 ∨ f = 7 then 1 else 0) + opn lv = _
      rw [if_pos hf]
    refine vOk_some (Or.inr ⟨by omega, ⟨b1, b2, EN_tr (EN_G g6) (EN_N b4), ?_, ?_⟩, ?_⟩)
    · rw [b4.2 291 19 (by omega), a3, z5, o]; omega
    · rw [g6.2 291 13 (by omega)] at b3
      exact b3
    · show m7.1 291 26 = _
      rw [b4.2 291 26 (by omega), a4, z26]
  · refine vOk_bind (errs_c hw (by decide)) fun m8 q => ?_
    exact vOk_some (Or.inl q)
theorem asks_c {m : xMem} {lv : List (Nat × List Nat)} {O H : Nat} (hw : (m.1 291 17).toInt = 0) (t : TK m) (h : Core m lv s O H C) (h19 : (m.1 291 19).toInt = (opn lv : Int)) (h8 : opn lv ≤ 8) (hb : ((O + wsum lv + pnd lv : Nat) : Int) ≤ (m.1 291 14).toInt) (hst : (m.1 291 26).toInt = 0) (hC : stC lv) (hH : H = wsum lv) (hc : C < 10) (cur : (m.1 306 C).toInt = (s : Int)) : vOk (ST m) (fX12_asks 291 m) := by
  have c0 : (0 : Int32).toInt = 0 := rfl
  have L := stC_len lv hC
  unfold fX12_asks fX12_asks_0
  refine vBindP isWord_c fun v _ hv => ?_
  dsimp only
  refine vEq (fun g => ?_) (fun g => ?_)
  · refine vOk_bind (opensFrame_c (f := 4) h (by omega) rfl (by omega)) fun m3 q => ?_
    obtain ⟨a1, a2, a3, a4⟩ := q
    refine vR fun m4 e4 => ?_
    unfold fX12_asks_27
    have z26 : m4.1 291 26 = 1 := by rw [e4]; exact xP_eq.symm
    have g4 : EG m m4 := by rw [e4]; exact EG_put a2 (by omega)
    have i4 : Core m4 ((4, []) :: lv) s O H C := Core_x (fun b j w => by rw [e4]; exact (show (if b = 291 ∧ j = 26 then _ else m3.1 b j) = _ by rw [if_neg (by omega)])) a1
    have o : opn ((4, []) :: lv) = 0 + opn lv := rfl
    have p : pnd ((4, []) :: lv) = 0 + pnd lv := rfl
    have w : wsum ((4, []) :: lv) = 0 + wsum lv := rfl
    have r : rgt ((4, []) :: lv) = 0 + rgt lv := rfl
    refine vOk_some ⟨PF_N (EN_G g4), Or.inr ⟨⟨(4, []) :: lv, s, O, H, C, by rw [g4.2 291 17 (by omega)]; exact hw, TK_G g4 t, i4, ?_, by omega, by rw [g4.2 291 14 (by omega)]; omega, Or.inr (Or.inl ⟨by rw [z26]; rfl, Or.inr (Or.inl ⟨Or.inl rfl, ⟨trivial, trivial⟩, hC⟩), by omega, hc, by rw [g4.2 306 C (by omega)]; exact cur⟩)⟩, MU_w (fun j _ _ => g4.2 291 j (by omega)) (Or.inl hst) (by rw [z26]; decide)⟩⟩
    rw [e4, ← xP_sl (by omega), a3]; omega
  · refine vOk_bind (opensSign_c (f := 3) h t hw h19 h8 (by omega) rfl (by omega)) fun p hp => ?_
    unfold fX12_asks_27
    refine vOk_some ?_
    rcases hp with q | ⟨q1, q2, q3⟩
    · exact q
    have o : opn ((3, []) :: lv) = 1 + opn lv := rfl
    have pp : pnd ((3, []) :: lv) = 1 + pnd lv := rfl
    have w : wsum ((3, []) :: lv) = 0 + wsum lv := rfl
    have hv1 := hv g
    refine ST_BN q2 hw (by omega) t (by omega) (by omega) (Or.inl ⟨by rw [q3]; exact hst, Or.inr ⟨rfl, rfl, hC⟩, by omega, hc, by rw [q2.2.2.1.2 306 C (by omega)]; exact cur⟩)
theorem begins_c {m : xMem} {lv : List (Nat × List Nat)} {O H : Nat} (hw : (m.1 291 17).toInt = 0) (t : TK m) (h : Core m lv s O H C) (h19 : (m.1 291 19).toInt = (opn lv : Int)) (h8 : opn lv ≤ 8) (hb : ((O + wsum lv + pnd lv : Nat) : Int) ≤ (m.1 291 14).toInt) (hst : (m.1 291 26).toInt = 1) (hN : stN lv) (hH : H = wsum lv + rgt lv) (hc : C < 10) (cur : (m.1 306 C).toInt = (s : Int)) : vOk (ST m) (fX12_begins 291 m) := by
  have c0 : (0 : Int32).toInt = 0 := rfl
  have c1 : (1 : Int32).toInt = 1 := rfl
  have c2 : (2 : Int32).toInt = 2 := rfl
  have c5 : (5 : Int32).toInt = 5 := rfl
  have c6 : (6 : Int32).toInt = 6 := rfl
  have c11 : (11 : Int32).toInt = 11 := rfl
  have L := stN_len lv hN
  have t' := t
  unfold TK at t'
  have cF := xFu
  have one : ∀ (a b : Int32), stepOK a b H (H + 1) → ¬ (m.1 291 15).toInt = 0 → vOk (ST m) ((fX12_emits 291 a b m).bind fun p4 => (fX12_next 291 p4).bind fun p5 => (fX12_oneIsOver 291 p5).bind fun p6 => fX12_begins_175 291 p6) := by
    intro a b so hs
    have := t'.2.1.resolve_left hs
    refine vOk_bind (emits_c h (by omega) so) fun m4 q => ?_
    obtain ⟨a1, a2, a3, a4⟩ := q
    refine vOk_bind (next_c a1 (TK_G a2 t)) fun m5 q => ?_
    obtain ⟨b1, b2, b3, b4⟩ := q
    unfold fX12_oneIsOver
    refine vOk_bind (oneIsOver_c lv xFuel (O + 1) (H + 1) m5 (by omega) (by omega) b1 (by rw [b4.2 291 19 (by omega), a3]; exact h19) hN (by omega) (by omega) (by omega)) fun m6 q => ?_
    obtain ⟨lv', O', d1, d2, d3, d4, d5, d6, d7, d8, d9, d10⟩ := q
    unfold fX12_begins_175
    have en : EN m m6 := EN_tr (EN_tr (EN_G a2) (EN_N b4)) (EN_G d10)
    refine vOk_some (ST_BN ⟨d1, TK_G d10 b2, en, d2, ?_⟩ hw hs t (by omega) (by omega) (Or.inr (Or.inr (Or.inl ⟨d9, d3, d4, by omega, hc, by rw [en.2 306 C (by omega)]; exact cur⟩))))
    rw [d10.2 291 14 (by omega)]
    rw [a2.2 291 13 (by omega)] at b3
    exact b3
  have r106 : (m.1 291 15).toInt = 1 → 6 ≤ (m.1 291 16).toInt → vOk (ST m) (fX12_begins_106 291 m) := by
    intro hs h6
    have q := t'.2.2 hs
    unfold fX12_begins_106
    refine vAl (x := m.1 291 16) rfl ?_
    refine vS (by omega) fun x2 e2 f2 => ?_
    refine vS (by omega) fun x3 e3 f3 => ?_
    exact one _ _ ⟨by decide, Or.inr (Or.inl ⟨rfl, by omega, ⟨by omega, by omega⟩, rfl⟩)⟩ (by omega)
  have r97 : (m.1 291 15).toInt = 1 → 6 ≤ (m.1 291 16).toInt → ∀ s0 s1 : Int32, vOk (ST m) (fX12_begins_97 291 s0 s1 m) := by
    intro hs h6 s0 s1
    unfold fX12_begins_97
    refine vNe (fun _ => r106 hs h6) (fun _ => ?_)
    refine vOk_bind (errs_c hw (by decide)) fun m2 q => ?_
    exact vOk_some q
  have r85 : (m.1 291 15).toInt = 1 → 6 ≤ (m.1 291 16).toInt → ∀ s0 : Int32, vOk (ST m) (fX12_begins_85 291 s0 m) := by
    intro hs h6 s0
    unfold fX12_begins_85
    refine vAny fun x1 => ?_
    refine vNe (fun _ => r97 hs h6 _ _) (fun _ => r97 hs h6 _ _)
  have rsig : ∀ (f : Nat) (p : Int32 × xMem), (f = 6 ∨ f = 7) → (m.1 291 15).toInt = 3 → (ST m p.2 ∨ (opn lv < 8 ∧ BN m p.2 ((f, []) :: lv) s O H C ∧ p.2.1 291 26 = m.1 291 26)) → vOk (ST m) (fX12_begins_175 291 p.2) := by
    intro f p hf hs hp
    unfold fX12_begins_175
    refine vOk_some ?_
    rcases hp with q | ⟨q1, q2, q3⟩
    · exact q
    have o : opn ((f, []) :: lv) = 1 + opn lv := by
      show (if f = 3 ∨ f = 6 ∨ f = 7 then 1 else 0) + opn lv = _
      rw [if_pos (by omega)]
    have pp : pnd ((f, []) :: lv) ≤ 1 + pnd lv := by
      show (if f = 3 ∨ f = 5 ∨ f = 7 then 1 else 0) + pnd lv ≤ _
      by_cases z : f = 3 ∨ f = 5 ∨ f = 7
      · rw [if_pos z]; omega
      · rw [if_neg z]; omega
    have w : wsum ((f, []) :: lv) = 0 + wsum lv := rfl
    have r : rgt ((f, []) :: lv) = rgt lv := by
      show (if f = 5 then 1 else 0) + rgt lv = _
      rw [if_neg (by omega)]; omega
    refine ST_BN q2 hw (by omega) t (by omega) (by omega) (Or.inr (Or.inl ⟨by rw [q3]; exact hst, ?_, by omega, hc, by rw [q2.2.2.1.2 306 C (by omega)]; exact cur⟩))
    rcases hf with rfl | rfl
    · exact Or.inr (Or.inr (Or.inl ⟨rfl, ⟨trivial, trivial⟩, hN⟩))
    · exact Or.inr (Or.inr (Or.inr ⟨rfl, rfl, hN⟩))
  have r132 : vOk (ST m) (fX12_begins_132 291 m) := by
    unfold fX12_begins_132
    refine vBindP isSign_c fun v _ hv => ?_
    dsimp only
    refine vEq (fun _ => ?_) (fun g => ?_)
    · refine vBindP isSign_c fun v2 _ hv2 => ?_
      dsimp only
      refine vEq (fun _ => ?_) (fun g => ?_)
      · refine vOk_bind (errs_c hw (by decide)) fun m2 q => ?_
        exact vOk_some q
      · refine vOk_bind (opensSign_c (f := 7) h t hw h19 h8 (by omega) rfl (by omega)) fun p hp => ?_
        exact rsig 7 p (by omega) (hv2 g) hp
    · refine vOk_bind (opensSign_c (f := 6) h t hw h19 h8 (by omega) rfl (by omega)) fun p hp => ?_
      exact rsig 6 p (by omega) (hv g) hp
  unfold fX12_begins fX12_begins_0
  refine vAl (x := m.1 291 15) rfl ?_
  refine vNe (fun _ => ?_) (fun g => ?_)
  · refine vAl (x := m.1 291 15) rfl ?_
    refine vNe (fun _ => r132) (fun g2 => ?_)
    refine vAl (x := m.1 291 16) rfl ?_
    refine vLe (fun _ => r132) (fun g3 => ?_)
    refine vAl (x := m.1 291 16) rfl ?_
    refine vLe (fun _ => r106 (by omega) (by omega)) (fun g4 => ?_)
    refine vAl (x := m.1 291 16) rfl ?_
    refine vLe (fun _ => r85 (by omega) (by omega) _) (fun _ => r85 (by omega) (by omega) _)
  · refine vAl (x := m.1 291 16) rfl ?_
    refine vLe (fun _ => ?_) (fun _ => ?_)
    · refine vAl (x := m.1 291 16) rfl ?_
      exact one _ _ ⟨by decide, Or.inl ⟨rfl, by omega, rfl⟩⟩ (by omega)
    · refine vOk_bind (errs_c hw (by decide)) fun m2 q => ?_
      exact vOk_some q
end
