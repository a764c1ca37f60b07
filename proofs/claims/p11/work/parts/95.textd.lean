/-! the reference's parser keeps to the machine: clause, text -/
section
variable {B : Nat → Int} {L : Nat} {Cn : Nat} {i k w : Nat} {fs : List Nat}
theorem wasWalk_d {m : xMem} (h27 : (m.1 291 27).toInt = (Cn : Int)) (hc : Cn ≤ 10) : ∀ (fuel : Nat) (l1 l2 : Int32), 0 ≤ l2.toInt → l2.toInt ≤ 10 → l2.toInt ≤ (Cn : Int) → ((l1.toInt = 1 ∧ ∃ t : Nat, t < Cn ∧ (m.1 305 t).toInt = 0) ∨ (l1.toInt = 0 ∧ ∀ t : Nat, (t : Int) < l2.toInt → ¬ (m.1 305 t).toInt = 0)) → 2147483648 - l2.toInt < (fuel : Int) → vOk (PP m (fun x : Int32 => (x.toInt = 1 ∧ ∃ t : Nat, t < Cn ∧ (m.1 305 t).toInt = 0) ∨ (x.toInt = 0 ∧ ∀ t : Nat, t < Cn → ¬ (m.1 305 t).toInt = 0))) (fX12_wasWalk_4 291 fuel l1 l2 m) := by
  have c0 : (0 : Int32).toInt = 0 := rfl
  have c1 : (1 : Int32).toInt = 1 := rfl
  intro fuel
  induction fuel with
  | zero => intro l1 l2 _ _ _ _ hmu; exfalso; omega
  | succ fuel ih =>
    intro l1 l2 h0 h10 hC h hmu
    have wl : l2.toNatClampNeg = l2.toInt.toNat := rfl
    have r30 : l2.toInt < (Cn : Int) → ∀ s0 : Int32, ((s0.toInt = 1 ∧ ∃ t : Nat, t < Cn ∧ (m.1 305 t).toInt = 0) ∨ (s0.toInt = 0 ∧ ∀ t : Nat, (t : Int) < l2.toInt + 1 → ¬ (m.1 305 t).toInt = 0)) → vOk (PP m (fun x : Int32 => (x.toInt = 1 ∧ ∃ t : Nat, t < Cn ∧ (m.1 305 t).toInt = 0) ∨ (x.toInt = 0 ∧ ∀ t : Nat, t < Cn → ¬ (m.1 305 t).toInt = 0))) (fX12_wasWalk_30 291 (fX12_wasWalk_4 291 fuel) l2 s0 m) := by
      intro hl s0 hs0
      unfold fX12_wasWalk_30
      refine vA (by omega) fun x e f => ?_
      refine ih s0 x (by omega) (by omega) (by omega) ?_ (by omega)
      rw [f, c1]
      exact hs0
    rw [fX12_wasWalk_4]
    refine vAl (x := m.1 291 27) rfl ?_
    refine vLe (fun g => ?_) (fun g => ?_)
    · refine vB (by omega) ?_
      refine rP ?_
      rcases h with q | q
      · exact Or.inl q
      · exact Or.inr ⟨q.1, fun t ht => q.2 t (by omega)⟩
    · refine vNe (fun g2 => ?_) (fun g2 => ?_)
      · unfold fX12_wasWalk_25
        exact r30 (by omega) 1 (Or.inl ⟨rfl, (h.resolve_right (fun q => g2 (q.1.trans c0.symm))).2⟩)
      · refine vIn (by omega) (by omega) fun _ => ?_
        refine vR fun x5 e5 => ?_
        have hz := (h.resolve_left (fun q => by have := q.1; omega)).2
        refine vNe (fun g3 => ?_) (fun g3 => ?_)
        · refine r30 (by omega) 0 (Or.inr ⟨rfl, fun t ht => ?_⟩)
          by_cases y : (t : Int) < l2.toInt
          · exact hz t y
          · rw [show t = l2.toNatClampNeg by omega, ← e5]
            exact fun q => g3 (q.trans c0.symm)
        · unfold fX12_wasWalk_25
          exact r30 (by omega) 1 (Or.inl ⟨rfl, l2.toNatClampNeg, by omega, by rw [← e5]; exact g3.trans c0⟩)
theorem clause_d {m : xMem} {O : Nat} (hw : (m.1 291 17).toInt = 0) (t : TK m) (hs0 : ¬ (m.1 291 15).toInt = 0) (h : Core m [] O O 0 Cn) (h19 : (m.1 291 19).toInt = 0) (hb : (O : Int) ≤ (m.1 291 14).toInt) (hc : Cn ≤ 10) (hi : TI B L m i) (hB : TB0 B L m) (kw : KW m 4 k Cn w Cn) : vOk (ST2 B L m (i, 4, [], k, Cn, w)) (fX12_clause 291 m) := by
  have c0 : (0 : Int32).toInt = 0 := rfl
  have c1 : (1 : Int32).toInt = 1 := rfl
  have c2 : (2 : Int32).toInt = 2 := rfl
  have c10 : (10 : Int32).toInt = 10 := rfl
  have t' := t
  unfold TK at t'
  have ts := t'.2.1.resolve_left hs0
  have cF := xFu
  have tr := hi.2.2
  have hK0 : ¬ KF' B L i = 0 := fun z => hs0 (TK_0' tr z)
  have eS : gS (KF' B L) (VF' B L) (i, 4, [], k, Cn, w) = aS4 (KF' B L) i [] k Cn w := rfl
  have er : ¬ (KF' B L i = 20 ∨ KF' B L i = 21 ∨ KF' B L i = 22) → vOk (ST2 B L m (i, 4, [], k, Cn, w)) (fX12_clause_16 291 m) := by
    intro n
    unfold fX12_clause_16
    refine vOk_bind (errs_d hw (f := 1) rfl (by decide) (eS.trans ?_)) fun m2 q => ?_
    · unfold aS4
      rw [if_neg hK0, if_pos n]
    exact vOk_some q
  unfold fX12_clause fX12_clause_0
  refine vAl (x := m.1 291 15) rfl ?_
  refine vNe (fun g => er (fun z => by have y := TK_w' tr (by omega) (by omega); omega)) (fun g => ?_)
  refine vAl (x := m.1 291 16) rfl ?_
  refine vLe (fun g2 => ?_) (fun g2 => er (fun z => by have y := TK_w' tr (by omega) (by omega); omega))
  have tb := t'.2.2 (by omega)
  have hKe : KF' B L i = 20 + (m.1 291 16).toInt := (TK_w tr (by omega) (by omega)).1
  have hK3 : KF' B L i = 20 ∨ KF' B L i = 21 ∨ KF' B L i = 22 := by omega
  refine vAl (x := m.1 291 16) rfl ?_
  refine vR fun m6 e6 => ?_
  have f6 : ∀ b j, ¬ (b = 291 ∧ j = 28) → m6.1 b j = m.1 b j := fun b j z => by
    rw [e6]
    show (if b = 291 ∧ j = 28 then _ else m.1 b j) = _
    rw [if_neg z]
  have z28 : m6.1 291 28 = m.1 291 16 := by rw [e6]; exact xP_eq.symm
  have p6 : PF m m6 := by rw [e6]; exact PF_put PF_refl (by omega)
  have i6 : Core m6 [] O O 0 Cn := Core_x (fun b j z => f6 b j (by omega)) h
  have t6 : TK m6 := TK_cong (fun j _ _ => f6 291 j (by omega)) t
  have w6 : (m6.1 291 17).toInt = 0 := by rw [f6 291 17 (by omega)]; exact hw
  have h27 := i6.2.1.2.2.2
  have bad67 : ∀ (f : Nat) (a : Int32), a.toInt = (f : Int) → (0 < f ∧ ¬ f = 9) → aS4 (KF' B L) i [] k Cn w = (f, (i, 4, [], k, Cn, w)) → vOk (ST2 B L m (i, 4, [], k, Cn, w)) ((fX12_errs 291 a m6).bind fun p => fX12_clause_67 291 p) := by
    intro f a ha hf hg
    refine vOk_bind (Q := fun m' => PF m6 m' ∧ (m'.1 291 17).toInt = (f : Int) ∧ m'.1 291 18 = m.1 291 14) ?_ fun m' q => ?_
    · unfold fX12_errs fX12_errs_0
      refine vAl (x := m6.1 291 17) rfl ?_
      refine vNe (fun g => by exfalso; omega) (fun _ => ?_)
      refine vR fun m3 e3 => ?_
      refine vAl (x := m.1 291 14) ((f6 291 14 (by omega)).symm.trans (xP_slE e3 (by omega))) ?_
      refine vR fun m5 e5 => ?_
      unfold fX12_errs_20
      refine vOk_some ⟨by rw [e5, e3]; exact PF_put (PF_put PF_refl (by omega)) (by omega), ?_, by rw [e5]; exact xP_eq.symm⟩
      have z : m5.1 291 17 = a := by rw [e5, e3]; exact (xP_eq.trans (xP_sl (by omega))).symm
      rw [z]; exact ha
    · obtain ⟨q1, q2, q3⟩ := q
      unfold fX12_clause_67
      refine vAl (x := m'.1 291 17) rfl ?_
      refine vLe (fun g => by exfalso; omega) (fun _ => ?_)
      exact vOk_some ⟨PF_tr p6 q1, Or.inl ⟨f, eS.trans hg, by omega, hf.2, q2, q3⟩⟩
  have good67 : Cn < 10 → ¬ (KF' B L i = 20 ∧ ¬ w = 0) → vOk (ST2 B L m (i, 4, [], k, Cn, w)) (fX12_clause_67 291 m6) := by
    intro hlt hw0
    have hg : gS (KF' B L) (VF' B L) (i, 4, [], k, Cn, w) = (0, (i + 1, if KF' B L i = 20 then 1 else 0, if KF' B L i = 20 then [1] else [2], if KF' B L i = 20 then 0 else 1, Cn + 1, if KF' B L i = 20 then 1 else w)) := by
      rw [eS]; unfold aS4
      rw [if_neg hK0, if_neg (not_not_intro hK3), if_neg hw0, if_neg (by omega)]
    have w27 := wN h27
    unfold fX12_clause_67
    refine vAl (x := m6.1 291 17) rfl ?_
    refine vLe (fun _ => ?_) (fun g => by exfalso; omega)
    refine vAl (x := m6.1 291 27) rfl ?_
    refine vAl (x := m.1 291 16) z28.symm ?_
    refine vIn (by omega) (by omega) fun _ => ?_
    rw [w27]
    refine vR fun m5 e5 => ?_
    have f5 : ∀ b j, ¬ (b = 305 ∧ j = Cn) → m5.1 b j = m6.1 b j := fun b j z => by
      rw [e5]
      show (if b = 291 + 14 ∧ j = Cn then _ else m6.1 b j) = _
      rw [if_neg (by omega)]
    have z305 : m5.1 305 Cn = m.1 291 16 := by rw [e5]; exact xP_eq.symm
    refine vAl (x := m6.1 291 27) (f5 291 27 (by omega)).symm ?_
    refine vAl (x := m6.1 291 31) (f5 291 31 (by omega)).symm ?_
    refine vIn (by omega) (by omega) fun _ => ?_
    rw [w27]
    refine vR fun m9 e9 => ?_
    have f9 : ∀ b j, ¬ (b = 306 ∧ j = Cn) → m9.1 b j = m5.1 b j := fun b j z => by
      rw [e9]
      show (if b = 291 + 15 ∧ j = Cn then _ else m5.1 b j) = _
      rw [if_neg (by omega)]
    have fr : ∀ b j, ¬ ((b = 305 ∧ j = Cn) ∨ (b = 306 ∧ j = Cn)) → m9.1 b j = m6.1 b j := fun b j z => by
      rw [f9 b j (by omega), f5 b j (by omega)]
    have z9 : m9.1 305 Cn = m.1 291 16 := by rw [f9 305 Cn (by omega)]; exact z305
    have cur9 : (m9.1 306 Cn).toInt = (O : Int) := by
      have z : m9.1 306 Cn = m6.1 291 31 := by rw [e9]; exact xP_eq.symm
      rw [z]; exact i6.2.1.2.2.1
    have i9 : Core m9 [] O O 0 Cn := by
      obtain ⟨hl, ⟨q20, q23, q31, q27⟩, hss, hp, hv⟩ := i6
      have r7 : m9.1 307 = m6.1 307 := funext fun j => fr 307 j (by omega)
      have r8 : m9.1 308 = m6.1 308 := funext fun j => fr 308 j (by omega)
      refine ⟨trivial, ⟨by rw [fr 291 20 (by omega)]; exact q20, by rw [fr 291 23 (by omega)]; exact q23, by rw [fr 291 31 (by omega)]; exact q31, by rw [fr 291 27 (by omega)]; exact q27⟩, hss, PRE_0, fun c hcc => ?_⟩
      rw [r7, r8, fr 306 c (by omega)]
      exact hv c hcc
    have t9 : TK m9 := TK_cong (fun j _ _ => fr 291 j (by omega)) t6
    have pf9 : PF m m9 := by
      refine PF_tr p6 ?_
      rw [e9, e5]
      exact PF_put (PF_put PF_refl (by omega)) (by omega)
    have ti9 : TI B L m9 i := TI_cg (fun j _ _ => by rw [fr 291 j (by omega), f6 291 j (by omega)]) hi
    refine vOk_bind (next_d i9 t9 (TB0_PF pf9 hB) ti9) fun m11 q => ?_
    obtain ⟨⟨b1, b2, b3, b4⟩, b5⟩ := q
    have z12 : m11.1 291 28 = m.1 291 16 := by rw [b4.2 291 28 (by omega), fr 291 28 (by omega)]; exact z28
    have at9 : m9.1 291 13 = m.1 291 13 := by rw [fr 291 13 (by omega), f6 291 13 (by omega)]
    rw [at9] at b3
    have s118 : ∀ (f : Nat) (x : Int32), x.toInt = (f : Int) → ((f = 2 ∧ ¬ (m.1 291 16).toInt = 0) ∨ (f = 1 ∧ (m.1 291 16).toInt = 0)) → vOk (ST2 B L m (i, 4, [], k, Cn, w)) (fX12_clause_118 291 291 x m11) := by
      intro f x hx hf
      unfold fX12_clause_118
      refine vOk_bind (opensFrame_c (f := f) b1 (by decide) hx (by omega)) fun m1 q => ?_
      obtain ⟨a1, a2, a3, a4⟩ := q
      have p1 : PF m m1 := PF_tr (PF_tr pf9 (PF_N (EN_N b4))) (PF_N (EN_G a2))
      have k1 : ∀ j, j = 12 ∨ j = 17 ∨ j = 18 ∨ j = 19 → m1.1 291 j = m.1 291 j := fun j hj => by
        by_cases q : j = 19
        · rw [q, a3, b4.2 291 19 (by omega), fr 291 19 (by omega), f6 291 19 (by omega)]
        · rw [a2.2 291 j (by omega), b4.2 291 j (by omega), fr 291 j (by omega), f6 291 j (by omega)]
      have c1' : (m1.1 306 Cn).toInt = (O : Int) := by rw [a2.2 306 Cn (by omega), b4.2 306 Cn (by omega)]; exact cur9
      have k305 : ∀ j, m1.1 305 j = m9.1 305 j := fun j => by rw [a2.2 305 j (by omega), b4.2 305 j (by omega)]
      have o1 : opn [(f, ([] : List Nat))] = 0 := by
        show (if f = 3 ∨ f = 6 ∨ f = 7 then 1 else 0) + 0 = 0
        rw [if_neg (by omega)]
      have p1' : pnd [(f, ([] : List Nat))] = 0 := by
        show (if f = 3 ∨ f = 5 ∨ f = 7 then 1 else 0) + 0 = 0
        rw [if_neg (by omega)]
      have g1 : rgt [(f, ([] : List Nat))] = 0 := by
        show (if f = 5 then 1 else 0) + 0 = 0
        rw [if_neg (by omega)]
      have w1 : wsum [(f, ([] : List Nat))] = 0 := rfl
      have fin : ∀ v : Int32, ((v.toInt = 0 ∧ f = 2) ∨ (v.toInt = 1 ∧ f = 1)) → vOk (ST2 B L m (i, 4, [], k, Cn, w)) (fX12_clause_134 291 291 v m1) := by
        intro v hv
        unfold fX12_clause_134
        refine vR fun m2 e2 => ?_
        have f2 : ∀ b j, ¬ (b = 291 ∧ j = 26) → m2.1 b j = m1.1 b j := fun b j z => by
          rw [e2]
          show (if b = 291 ∧ j = 26 then _ else m1.1 b j) = _
          rw [if_neg z]
        have z26 : m2.1 291 26 = v := by rw [e2]; exact xP_eq.symm
        have t2 : TK m2 := TK_cong (fun j _ _ => f2 291 j (by omega)) (TK_G a2 b2)
        have i2 : Core m2 [(f, [])] O O 0 Cn := Core_x (fun b j z => f2 b j (by omega)) a1
        have b14 : (m.1 291 13).toInt ≤ (m2.1 291 14).toInt := by rw [f2 291 14 (by omega), a2.2 291 14 (by omega)]; exact b3
        have cu : (m2.1 306 Cn).toInt = (O : Int) := by rw [f2 306 Cn (by omega)]; exact c1'
        have pf2 : PF m m2 := by rw [e2]; exact PF_put p1 (by omega)
        have ti2 : TI B L m2 (i + 1) := TI_cg (fun j _ _ => by rw [f2 291 j (by omega), a2.2 291 j (by omega)]) b5
        have e28 : (m2.1 291 28).toInt = (m.1 291 16).toInt := by rw [f2 291 28 (by omega), a2.2 291 28 (by omega), z12]
        have iff305 : (∃ x : Nat, x < Cn + 1 ∧ (m2.1 305 x).toInt = 0) ↔ ¬ (if KF' B L i = 20 then 1 else w) = 0 := by
          have ez : (m2.1 305 Cn).toInt = (m.1 291 16).toInt := by rw [f2 305 Cn (by omega), k305, z9]
          have eo : ∀ x, x ≠ Cn → (m2.1 305 x).toInt = (m.1 305 x).toInt := fun x hx => by rw [f2 305 x (by omega), k305, fr 305 x (by omega), f6 305 x (by omega)]
          by_cases y : KF' B L i = 20
          · rw [if_pos y]
            exact ⟨fun _ => by decide, fun _ => ⟨Cn, Nat.lt_succ_self Cn, by rw [ez]; omega⟩⟩
          · rw [if_neg y, ← kw.2.2.1]
            constructor
            · rintro ⟨x, x1, x2⟩
              by_cases z : x = Cn
              · rw [z, ez] at x2; exfalso; omega
              · exact ⟨x, by omega, by rw [← eo x z]; exact x2⟩
            · rintro ⟨x, x1, x2⟩
              exact ⟨x, by omega, by rw [eo x (by omega)]; exact x2⟩
        have st' : (v.toInt = ((if KF' B L i = 20 then 1 else 0 : Nat) : Int)) ∧ [f] = (if KF' B L i = 20 then [1] else [2]) := by
          by_cases y : KF' B L i = 20
          · rw [if_pos y, if_pos y]
            have : f = 1 := by clear iff305; omega
            subst this
            exact ⟨by omega, rfl⟩
          · rw [if_neg y, if_neg y]
            have : f = 2 := by clear iff305; omega
            subst this
            exact ⟨by omega, rfl⟩
        have n4 : ¬ (if KF' B L i = 20 then 1 else 0) = 4 := by
          by_cases y : KF' B L i = 20
          · rw [if_pos y]; decide
          · rw [if_neg y]; decide
        have kw2 : KW m2 (if KF' B L i = 20 then 1 else 0) (if KF' B L i = 20 then 0 else 1) (Cn + 1) (if KF' B L i = 20 then 1 else w) Cn := by
          refine ⟨by rw [if_neg n4], fun _ => ?_, iff305, by rw [f2 291 18 (by omega), k1 18 (by omega)]; exact kw.2.2.2⟩
          rw [e28]
          by_cases y : KF' B L i = 20
          · rw [if_pos y]; exact ⟨fun _ => rfl, fun _ => by omega⟩
          · rw [if_neg y]; exact ⟨fun z => by exfalso; omega, fun z => absurd z (by decide)⟩
        refine vOk_some ⟨pf2, Or.inr ⟨_, hg, ⟨[(f, [])], O, O, 0, Cn, ⟨by rw [f2 291 17 (by omega), k1 17 (by omega)]; exact hw, t2, i2, by rw [f2 291 19 (by omega), k1 19 (by omega), o1]; exact h19, by omega, by omega, ?_⟩, st'.2, by rw [z26]; exact st'.1, ti2, TB0_PF pf2 hB, kw2⟩, MU_next (by rw [f2 291 12 (by omega), k1 12 (by omega)]) hs0 t2 b14⟩⟩
        rcases hv with ⟨q1, rfl⟩ | ⟨q1, rfl⟩
        · exact Or.inl ⟨by rw [z26]; exact q1, Or.inl ⟨rfl, trivial, rfl⟩, rfl, hlt, cu⟩
        · exact Or.inr (Or.inl ⟨by rw [z26]; exact q1, Or.inl ⟨rfl, ⟨trivial, trivial⟩, rfl⟩, rfl, hlt, cu⟩)
      refine vAl (x := m.1 291 16) (by rw [a2.2 291 28 (by omega), z12]) ?_
      refine vNe (fun q => ?_) (fun q => ?_)
      · exact fin 0 (Or.inl ⟨rfl, by omega⟩)
      · exact fin 1 (Or.inr ⟨rfl, by omega⟩)
    refine vAl (x := m.1 291 16) z12.symm ?_
    refine vNe (fun q => ?_) (fun q => ?_)
    · exact s118 2 2 rfl (Or.inl ⟨rfl, q⟩)
    · exact s118 1 1 rfl (Or.inr ⟨rfl, q⟩)
  have r52 : ¬ (KF' B L i = 20 ∧ ¬ w = 0) → vOk (ST2 B L m (i, 4, [], k, Cn, w)) (fX12_clause_52 291 m6) := by
    intro hw0
    unfold fX12_clause_52
    refine vAl (x := m6.1 291 27) rfl ?_
    refine vNe (fun q => good67 (by omega) hw0) (fun q => ?_)
    refine bad67 6 6 rfl (by decide) ?_
    unfold aS4
    rw [if_neg hK0, if_neg (not_not_intro hK3), if_neg hw0, if_pos (by omega)]
  refine vAl (x := m.1 291 16) z28.symm ?_
  refine vNe (fun q => r52 (fun z => by omega)) (fun q => ?_)
  unfold fX12_wasWalk fX12_wasWalk_0
  refine vBindP (wasWalk_d h27 hc xFuel 0 0 (by decide) (by decide) (by omega) (Or.inr ⟨rfl, fun x hx => by exfalso; omega⟩) (by omega)) fun v _ hv => ?_
  dsimp only
  have kw3 := kw.2.2.1
  have e305 : ∀ x, m6.1 305 x = m.1 305 x := fun x => f6 305 x (by omega)
  refine vEq (fun g3 => ?_) (fun g3 => ?_)
  · refine r52 (fun z => ?_)
    have n := (hv.resolve_left (fun y => by have := y.1; omega)).2
    obtain ⟨x, x1, x2⟩ := kw3.mpr z.2
    exact n x x1 (by rw [e305]; exact x2)
  · have y := (hv.resolve_right (fun y => g3 (y.1.trans c0.symm))).2
    obtain ⟨x, x1, x2⟩ := y
    have hw1 : ¬ w = 0 := kw3.mp ⟨x, x1, by rw [← e305]; exact x2⟩
    refine bad67 4 4 rfl (by decide) ?_
    unfold aS4
    rw [if_neg hK0, if_neg (not_not_intro hK3), if_pos ⟨by omega, hw1⟩]
end
section
variable {B : Nat → Int} {L : Nat} {m0 : xMem}
/-- how the reference's text ends -/
def TE (B : Nat → Int) (L : Nat) (m0 : xMem) (f j : Nat) (p : Int32 × xMem) : Prop := (f = 9 ∧ p.1 = m0.1 292 4 ∧ p.2.1 292 4 = m0.1 292 4 + 1 ∧ (p.2.1 291 5).toInt = 0 ∧ (p.2.1 291 6).toInt = -1) ∨ (¬ f = 9 ∧ p.1 = -1 ∧ p.2.1 292 4 = m0.1 292 4 ∧ (p.2.1 291 5).toInt = (f : Int) ∧ (p.2.1 291 6).toInt = (pos B L j : Int))
theorem text167_d {m : xMem} {f j : Nat} (hb4 : 0 ≤ (m0.1 292 4).toInt ∧ (m0.1 292 4).toInt ≤ 4) (hn4 : ¬ (m0.1 292 4).toInt = 4) (pf : PF m0 m) (h : (¬ f = 9 ∧ 0 < f ∧ (m.1 291 17).toInt = (f : Int) ∧ (m.1 291 18).toInt = (pos B L j : Int)) ∨ (f = 9 ∧ (m.1 291 17).toInt = 0 ∧ (m.1 291 18).toInt = -1 ∧ ∃ O C, O ≤ 300 ∧ C ≤ 10 ∧ Core m [] O O 0 C)) : vOk (TE B L m0 f j) (fX12_text_167 291 m) := by
  have c0 : (0 : Int32).toInt = 0 := rfl
  have c1 : (1 : Int32).toInt = 1 := rfl
  have c4 : (4 : Int32).toInt = 4 := rfl
  unfold fX12_text_167
  refine vAl (x := m.1 291 17) rfl ?_
  refine vR fun m2 e2 => ?_
  refine vAl (x := m.1 291 18) (xP_slE e2 (by omega)) ?_
  refine vR fun m4 e4 => ?_
  have f4 : ∀ b j, ¬ (b = 291 ∧ (j = 5 ∨ j = 6)) → m4.1 b j = m.1 b j := fun b j w => by
    rw [e4, e2]
    show (if b = 291 ∧ j = 6 then _ else if b = 291 ∧ j = 5 then _ else m.1 b j) = _
    rw [if_neg (by omega), if_neg (by omega)]
  have z5 : m4.1 291 5 = m.1 291 17 := by rw [e4, ← xP_sl (by omega), e2]; exact xP_eq.symm
  have z6 : m4.1 291 6 = m.1 291 18 := by rw [e4]; exact xP_eq.symm
  have q292 : m4.1 292 4 = m0.1 292 4 := by rw [f4 292 4 (by omega), pf.2 292 4 (by omega)]
  refine vAl (x := m.1 291 17) (f4 291 17 (by omega)).symm ?_
  refine vLe (fun g => ?_) (fun g => ?_)
  · obtain ⟨f9, w0, w18, O, C, hO, hC, hcore⟩ := h.resolve_left (fun q => by have := q.2.1; have := q.2.2.1; omega)
    obtain ⟨hl, ⟨h20, h23, h31, h27⟩, hss, hp, hv⟩ := hcore
    refine vIn (by omega) (by omega) fun _ => ?_
    refine vAl (x := m0.1 292 4) q292.symm ?_
    have ht : (m0.1 292 4).toInt = ((m0.1 292 4).toInt.toNat : Int) := by omega
    have r6 : m4.1 306 = m.1 306 := funext fun j => f4 306 j (by omega)
    refine vOk_bind (keeps_r (O := O) (C := C) ht (by omega) (by rw [f4 291 31 (by omega)]; exact h31) hO (by rw [f4 291 27 (by omega)]; exact h27) hC (fun k hk => ?_)) fun p9 q => ?_
    · obtain ⟨s', a1, a2, a3⟩ := hv k hk
      rw [r6, a1]
      omega
    have kf := q.1
    have k4 : p9.1 292 4 = m0.1 292 4 := by rw [kf.2 292 4 (by omega), q292]
    refine vIn (by omega) (by omega) fun _ => ?_
    refine vAl (x := m0.1 292 4) k4.symm ?_
    refine vAl (x := m0.1 292 4 + 1) rfl ?_
    refine vIn (by omega) (by omega) fun _ => ?_
    refine vR fun m13 e13 => ?_
    refine vIn (by omega) (by omega) fun _ => ?_
    refine vAl (x := m0.1 292 4 + 1) (xP_eqE e13) ?_
    refine vAl (x := m0.1 292 4) (Int32.add_sub_cancel _ _).symm ?_
    refine vOk_some (Or.inl ⟨f9, rfl, by rw [e13]; exact xP_eq.symm, ?_, ?_⟩)
    · show (m13.1 291 5).toInt = 0
      rw [e13, ← xP_pl (by omega), kf.2 291 5 (by omega), z5, w0]
    · show (m13.1 291 6).toInt = -1
      rw [e13, ← xP_pl (by omega), kf.2 291 6 (by omega), z6, w18]
  · have h' := h.resolve_right (fun q => by have := q.2.1; omega)
    refine vOk_some (Or.inr ⟨h'.1, rfl, q292, ?_, ?_⟩)
    · show (m4.1 291 5).toInt = _
      rw [z5]; exact h'.2.2.1
    · show (m4.1 291 6).toInt = _
      rw [z6]; exact h'.2.2.2
theorem text74_d (hb4 : 0 ≤ (m0.1 292 4).toInt ∧ (m0.1 292 4).toInt ≤ 4) (hn4 : ¬ (m0.1 292 4).toInt = 4) : ∀ (fuel : Nat) (m : xMem), PF m0 m → ((∃ f j : Nat, VD B L f j ∧ ¬ f = 9 ∧ 0 < f ∧ (m.1 291 17).toInt = (f : Int) ∧ (m.1 291 18).toInt = (pos B L j : Int)) ∨ (∃ c, Rc (KF' B L) (VF' B L) (0, 4, [], 0, 0, 0) c ∧ MC B L m c ∧ MU m + 2 ≤ (fuel : Int))) → 1 ≤ fuel → vOk (fun p => ∃ f j, VD B L f j ∧ TE B L m0 f j p) (fX12_text_74 291 fuel m) := by
  have c0 : (0 : Int32).toInt = 0 := rfl
  have c1 : (1 : Int32).toInt = 1 := rfl
  have c2 : (2 : Int32).toInt = 2 := rfl
  have c3 : (3 : Int32).toInt = 3 := rfl
  have c4 : (4 : Int32).toInt = 4 := rfl
  intro fuel
  induction fuel with
  | zero => intro m _ _ h; exact absurd h (by decide)
  | succ fuel ih =>
    intro m pf h hf
    rw [fX12_text_74]
    refine vAl (x := m.1 291 17) rfl ?_
    rcases h with ⟨f, j, vd, h9, h0, h17, h18⟩ | ⟨c, rc, hM, hmu⟩
    · refine vNe (fun _ => ?_) (fun g => by exfalso; omega)
      exact vOk_mono (text167_d hb4 hn4 pf (Or.inl ⟨h9, h0, h17, h18⟩)) fun p q => ⟨f, j, vd, q⟩
    · obtain ⟨lv, s, O, H, Cn, ⟨hw, t, hc, h19, h8, hb, hp⟩, mp, hst, hi, hB, kw⟩ := hM
      obtain ⟨i, st, fs, k, C, w⟩ := c
      dsimp only at mp hst hi kw
      have mu := MU_0 t
      have t' := t
      unfold TK at t'
      have tr := hi.2.2
      refine vNe (fun g => by exfalso; omega) (fun _ => ?_)
      have go : ∀ m1, ST2 B L m (i, st, fs, k, C, w) m1 → vOk (fun p => ∃ f j, VD B L f j ∧ TE B L m0 f j p) (fX12_text_74 291 fuel m1) := by
        intro m1 q
        refine ih m1 (PF_tr pf q.1) ?_ (by omega)
        rcases q.2 with ⟨f, q1, q2, q3, q4, q5⟩ | ⟨d, q1, q2, q3⟩
        · exact Or.inl ⟨f, i, Er_tr rc (Er_1 q1 q2), q3, by omega, q4, by rw [q5]; exact hi.1⟩
        · exact Or.inr ⟨d, Rc_tr rc (Rc_1 q1), q2, by omega⟩
      have w0 : wsum ([] : List (Nat × List Nat)) = 0 := rfl
      have r96 : ¬ (st = 4 ∧ (m.1 291 15).toInt = 0) → vOk (fun p => ∃ f j, VD B L f j ∧ TE B L m0 f j p) (fX12_text_96 291 (fX12_text_74 291 fuel) m) := by
        intro nend
        unfold fX12_text_96
        refine vAl (x := m.1 291 26) rfl ?_
        rcases hp with ⟨p1, p2, p3, p4, p5⟩ | ⟨p1, p2, p3, p4, p5⟩ | ⟨p1, p2, p3, p4, p5, p6⟩ | ⟨p1, ⟨ops, rfl, p2⟩, p3, p4, p5⟩ | ⟨p1, rfl, rfl, rfl, p5⟩
        · have : st = 0 := by omega
          subst this
          refine vEq (fun _ => ?_) (fun g => by exfalso; omega)
          refine vOk_bind (asks_d hw t hc h19 h8 hb p1 p2 p3 p4 p5 mp hi hB kw) fun m1 q => go m1 q
        · have : st = 1 := by omega
          subst this
          refine vEq (fun g => by exfalso; omega) (fun _ => ?_)
          refine vEq (fun _ => ?_) (fun g => by exfalso; omega)
          refine vOk_bind (begins_d hw t hc h19 h8 hb p1 p2 p3 p4 p5 mp hi hB kw) fun m1 q => go m1 q
        · have : st = 2 := by omega
          subst this
          refine vEq (fun g => by exfalso; omega) (fun _ => ?_)
          refine vEq (fun g => by exfalso; omega) (fun _ => ?_)
          refine vEq (fun _ => ?_) (fun g => by exfalso; omega)
          refine vOk_bind (goesOn_d hw t hc h19 h8 hb p1 p2 p3 p4 p5 p6 mp hi hB kw) fun m1 q => go m1 q
        · have : st = 3 := by omega
          subst this
          have fe : fs = [2] := mp.symm
          subst fe
          have w2 : wsum [(2, ops)] = ops.length := rfl
          have o2 : opn [(2, ops)] = 0 := rfl
          have q2 : pnd [(2, ops)] = 0 := rfl
          refine vEq (fun g => by exfalso; omega) (fun _ => ?_)
          refine vEq (fun g => by exfalso; omega) (fun _ => ?_)
          refine vEq (fun g => by exfalso; omega) (fun _ => ?_)
          refine vEq (fun _ => ?_) (fun g => by exfalso; omega)
          refine vOk_bind (asksOn_d hw t hc (by omega) (by omega) p2 (by omega) p4 p5 p1 hi hB kw) fun m1 q => go m1 q
        · have : st = 4 := by omega
          subst this
          have fe : fs = [] := mp.symm
          subst fe
          have ce : C = Cn := by have := kw.1; rw [if_pos rfl] at this; exact this
          subst ce
          have o2 : opn ([] : List (Nat × List Nat)) = 0 := rfl
          have q2 : pnd ([] : List (Nat × List Nat)) = 0 := rfl
          refine vEq (fun g => by exfalso; omega) (fun _ => ?_)
          refine vEq (fun g => by exfalso; omega) (fun _ => ?_)
          refine vEq (fun g => by exfalso; omega) (fun _ => ?_)
          refine vEq (fun g => by exfalso; omega) (fun _ => ?_)
          refine vOk_bind (clause_d hw t (fun z => nend ⟨rfl, z⟩) hc (by omega) (by omega) p5 hi hB kw) fun m1 q => go m1 q
      refine vAl (x := m.1 291 26) rfl ?_
      refine vNe (fun g => r96 (fun z => by have := z.1; omega)) (fun g => ?_)
      refine vAl (x := m.1 291 15) rfl ?_
      refine vEq (fun g2 => ?_) (fun g2 => r96 (fun z => g2 (z.2.trans c0.symm)))
      have : st = 4 := by omega
      subst this
      rcases hp with q | q | q | q | ⟨_, rfl, rfl, rfl, p5⟩
      · exfalso; have := q.1; omega
      · exfalso; have := q.1; omega
      · exfalso; have := q.1; omega
      · exfalso; have := q.1; omega
      · have fe : fs = [] := mp.symm
        subst fe
        have hK0 : KF' B L i = 0 := TK_0 tr (by omega)
        refine vOk_mono (text167_d (f := 9) (j := i) hb4 hn4 pf (Or.inr ⟨rfl, hw, kw.2.2.2, s, Cn, by omega, p5, hc⟩)) fun p q => ⟨9, i, Er_tr rc (Er_1 (d := (i, 4, [], k, C, w)) ?_ (by decide)), q⟩
        show aS4 (KF' B L) i [] k C w = _
        unfold aS4
        rw [if_pos hK0]
end
/-! what a text leaves: how much is on the tape, and the tape -/
section
variable {m0 : xMem}
theorem text167_f {m : xMem} (pf : PF m0 m) (hb4 : 0 ≤ (m0.1 292 4).toInt ∧ (m0.1 292 4).toInt ≤ 4) (hn4 : ¬ (m0.1 292 4).toInt = 4) (h : 0 < (m.1 291 17).toInt ∨ ((m.1 291 17).toInt = 0 ∧ ∃ O C, O ≤ 300 ∧ C ≤ 10 ∧ Core m [] O O 0 C)) : vOk (fun p : Int32 × xMem => p.2.1 291 4 = m0.1 291 4 ∧ ∀ j, p.2.1 295 j = m0.1 295 j) (fX12_text_167 291 m) := by
  have c0 : (0 : Int32).toInt = 0 := rfl
  have c1 : (1 : Int32).toInt = 1 := rfl
  have c4 : (4 : Int32).toInt = 4 := rfl
  unfold fX12_text_167
  refine vAl (x := m.1 291 17) rfl ?_
  refine vR fun m2 e2 => ?_
  refine vAny fun x3 => ?_
  refine vR fun m4 e4 => ?_
  have f4 : ∀ b j, ¬ (b = 291 ∧ (j = 5 ∨ j = 6)) → m4.1 b j = m.1 b j := fun b j w => by
    rw [e4, e2]
    show (if b = 291 ∧ j = 6 then _ else if b = 291 ∧ j = 5 then _ else m.1 b j) = _
    rw [if_neg (by omega), if_neg (by omega)]
  have q4 : m4.1 291 4 = m0.1 291 4 := by rw [f4 291 4 (by omega), pf.2 291 4 (by omega)]
  have q5 : ∀ j, m4.1 295 j = m0.1 295 j := fun j => by rw [f4 295 j (by omega), pf.2 295 j (by omega)]
  have q292 : m4.1 292 4 = m0.1 292 4 := by rw [f4 292 4 (by omega), pf.2 292 4 (by omega)]
  refine vAl (x := m.1 291 17) (f4 291 17 (by omega)).symm ?_
  refine vLe (fun g => ?_) (fun g => vOk_some ⟨q4, q5⟩)
  obtain ⟨w0, O, C, hO, hC, hcore⟩ := h.resolve_left (by omega)
  obtain ⟨hl, ⟨h20, h23, h31, h27⟩, hss, hp, hv⟩ := hcore
  refine vIn (by omega) (by omega) fun _ => ?_
  refine vAl (x := m0.1 292 4) q292.symm ?_
  have ht : (m0.1 292 4).toInt = ((m0.1 292 4).toInt.toNat : Int) := by omega
  have r6 : m4.1 306 = m.1 306 := funext fun j => f4 306 j (by omega)
  refine vOk_bind (keeps_r (O := O) (C := C) ht (by omega) (by rw [f4 291 31 (by omega)]; exact h31) hO (by rw [f4 291 27 (by omega)]; exact h27) hC (fun k hk => ?_)) fun p9 q => ?_
  · obtain ⟨s', a1, a2, a3⟩ := hv k hk
    rw [r6, a1]
    omega
  have kf := q.1
  refine vIn (by omega) (by omega) fun _ => ?_
  refine vAny fun x10 => ?_
  refine vAny fun x12 => ?_
  refine vIn (by omega) (by omega) fun _ => ?_
  refine vR fun m13 e13 => ?_
  refine vIn (by omega) (by omega) fun _ => ?_
  refine vAny fun x15 => ?_
  refine vAny fun x17 => ?_
  refine vOk_some ⟨?_, fun j => ?_⟩
  · show m13.1 291 4 = _
    rw [e13, ← xP_pl (by omega), kf.2 291 4 (by omega), q4]
  · show m13.1 295 j = _
    rw [e13, ← xP_pl (by omega), kf.2 295 j (by omega), q5]
theorem text74_f : ∀ (fuel : Nat) (m : xMem), PF m0 m → (0 < (m.1 291 17).toInt ∨ (PI m ∧ MU m + 2 ≤ (fuel : Int))) → 1 ≤ fuel → 0 ≤ (m0.1 292 4).toInt ∧ (m0.1 292 4).toInt ≤ 4 → ¬ (m0.1 292 4).toInt = 4 → vOk (fun p : Int32 × xMem => p.2.1 291 4 = m0.1 291 4 ∧ ∀ j, p.2.1 295 j = m0.1 295 j) (fX12_text_74 291 fuel m) := by
  have c0 : (0 : Int32).toInt = 0 := rfl
  have c1 : (1 : Int32).toInt = 1 := rfl
  have c2 : (2 : Int32).toInt = 2 := rfl
  have c3 : (3 : Int32).toInt = 3 := rfl
  have c4 : (4 : Int32).toInt = 4 := rfl
  intro fuel
  induction fuel with
  | zero => intro m _ _ h; exact absurd h (by decide)
  | succ fuel ih =>
    intro m pf h hf hb4 hn4
    rw [fX12_text_74]
    refine vAl (x := m.1 291 17) rfl ?_
    rcases h with h | ⟨hP, hM⟩
    · refine vNe (fun _ => text167_f pf hb4 hn4 (Or.inl h)) (fun g => by exfalso; omega)
    · obtain ⟨lv, s, O, H, C, hw, t, hc, h19, h8, hb, hp⟩ := hP
      have mu := MU_0 t
      have t' := t
      unfold TK at t'
      refine vNe (fun g => by exfalso; omega) (fun _ => ?_)
      have go : ∀ m1, ST m m1 → vOk (fun p : Int32 × xMem => p.2.1 291 4 = m0.1 291 4 ∧ ∀ j, p.2.1 295 j = m0.1 295 j) (fX12_text_74 291 fuel m1) := by
        intro m1 q
        refine ih m1 (PF_tr pf q.1) ?_ (by omega) hb4 hn4
        rcases q.2 with q2 | ⟨q2, q3⟩
        · exact Or.inl q2
        · exact Or.inr ⟨q2, by omega⟩
      have w0 : wsum ([] : List (Nat × List Nat)) = 0 := rfl
      have r96 : vOk (fun p : Int32 × xMem => p.2.1 291 4 = m0.1 291 4 ∧ ∀ j, p.2.1 295 j = m0.1 295 j) (fX12_text_96 291 (fX12_text_74 291 fuel) m) := by
        unfold fX12_text_96
        refine vAl (x := m.1 291 26) rfl ?_
        rcases hp with ⟨p1, p2, p3, p4, p5⟩ | ⟨p1, p2, p3, p4, p5⟩ | ⟨p1, p2, p3, p4, p5, p6⟩ | ⟨p1, ⟨ops, rfl, p2⟩, p3, p4, p5⟩ | ⟨p1, rfl, rfl, rfl, p5⟩
        · refine vEq (fun _ => ?_) (fun g => by exfalso; omega)
          refine vOk_bind (asks_c hw t hc h19 h8 hb p1 p2 p3 p4 p5) fun m1 q => go m1 q
        · refine vEq (fun g => by exfalso; omega) (fun _ => ?_)
          refine vEq (fun _ => ?_) (fun g => by exfalso; omega)
          refine vOk_bind (begins_c hw t hc h19 h8 hb p1 p2 p3 p4 p5) fun m1 q => go m1 q
        · refine vEq (fun g => by exfalso; omega) (fun _ => ?_)
          refine vEq (fun g => by exfalso; omega) (fun _ => ?_)
          refine vEq (fun _ => ?_) (fun g => by exfalso; omega)
          refine vOk_bind (goesOn_c hw t hc h19 h8 hb p1 p2 p3 p4 p5 p6) fun m1 q => go m1 q
        · have w2 : wsum [(2, ops)] = ops.length := rfl
          have o2 : opn [(2, ops)] = 0 := rfl
          have q2 : pnd [(2, ops)] = 0 := rfl
          refine vEq (fun g => by exfalso; omega) (fun _ => ?_)
          refine vEq (fun g => by exfalso; omega) (fun _ => ?_)
          refine vEq (fun g => by exfalso; omega) (fun _ => ?_)
          refine vEq (fun _ => ?_) (fun g => by exfalso; omega)
          refine vOk_bind (asksOn_c hw t hc (by omega) (by omega) p2 (by omega) p4 p5) fun m1 q => go m1 q
        · have o2 : opn ([] : List (Nat × List Nat)) = 0 := rfl
          have q2 : pnd ([] : List (Nat × List Nat)) = 0 := rfl
          refine vEq (fun g => by exfalso; omega) (fun _ => ?_)
          refine vEq (fun g => by exfalso; omega) (fun _ => ?_)
          refine vEq (fun g => by exfalso; omega) (fun _ => ?_)
          refine vEq (fun g => by exfalso; omega) (fun _ => ?_)
          refine vOk_bind (clause_c hw t hc (by omega) (by omega) p5) fun m1 q => go m1 q
      refine vAl (x := m.1 291 26) rfl ?_
      refine vNe (fun _ => r96) (fun g => ?_)
      refine vAl (x := m.1 291 15) rfl ?_
      refine vEq (fun _ => ?_) (fun _ => r96)
      refine text167_f pf hb4 hn4 (Or.inr ⟨hw, O, C, by omega, ?_⟩)
      rcases hp with q | q | q | q | ⟨_, rfl, rfl, rfl, p5⟩
      · exfalso; have := q.1; omega
      · exfalso; have := q.1; omega
      · exfalso; have := q.1; omega
      · exfalso; have := q.1; omega
      · exact ⟨p5, hc⟩
end
theorem text_d {m : xMem} {B : Nat → Int} {L : Nat} (hG : GR m) (h4 : bw 0 300 (m.1 291 4)) (hL4 : (m.1 291 4).toInt = (L : Int)) (hBr : ∀ j, j < L → BR (B j) (m.1 295 j).toInt) : vOk (fun p : Int32 × xMem => ((m.1 292 4).toInt = 4 ∧ p.1 = -1 ∧ p.2 = m) ∨ (¬ (m.1 292 4).toInt = 4 ∧ (p.2.1 291 4).toInt = 0 ∧ (∀ j, p.2.1 295 j = m.1 295 j) ∧ ∃ f j, VD B L f j ∧ TE B L m f j p)) (fX12_text 291 m) := by
  have c0 : (0 : Int32).toInt = 0 := rfl
  have c4 : (4 : Int32).toInt = 4 := rfl
  have h4' : 0 ≤ (m.1 291 4).toInt ∧ (m.1 291 4).toInt ≤ 300 := h4
  have cF := xFu
  unfold fX12_text fX12_text_0
  refine vIn (by omega) (by omega) fun _ => ?_
  refine vAl (x := m.1 292 4) rfl ?_
  have hb4 : 0 ≤ (m.1 292 4).toInt ∧ (m.1 292 4).toInt ≤ 4 := hG.1.1.2.2.2.1
  refine vNe (fun g => ?_) (fun g => vOk_some (Or.inl ⟨g.trans c4, rfl, rfl⟩))
  refine vAl (x := m.1 291 4) rfl ?_
  refine vR fun m5 e5 => ?_
  refine vR fun m6 em6 => ?_
  refine vR fun m7 em7 => ?_
  refine vR fun m8 em8 => ?_
  refine vR fun m9 em9 => ?_
  refine vR fun m10 em10 => ?_
  refine vR fun m11 em11 => ?_
  refine vR fun m12 em12 => ?_
  refine vR fun m13 em13 => ?_
  refine vR fun m14 em14 => ?_
  refine vR fun m15 em15 => ?_
  have fr : ∀ b j, ¬ (b = 291 ∧ (j = 12 ∨ j = 4 ∨ j = 13 ∨ j = 17 ∨ j = 18 ∨ j = 19 ∨ j = 20 ∨ j = 23 ∨ j = 26 ∨ j = 27 ∨ j = 31)) → m15.1 b j = m.1 b j := fun b j w => by
    rw [em15, em14, em13, em12, em11, em10, em9, em8, em7, em6, e5]
    show (if b = 291 ∧ j = 31 then _ else if b = 291 ∧ j = 27 then _ else if b = 291 ∧ j = 26 then _ else if b = 291 ∧ j = 23 then _ else if b = 291 ∧ j = 20 then _ else if b = 291 ∧ j = 19 then _ else if b = 291 ∧ j = 18 then _ else if b = 291 ∧ j = 17 then _ else if b = 291 ∧ j = 13 then _ else if b = 291 ∧ j = 4 then _ else if b = 291 ∧ j = 12 then _ else m.1 b j) = _
    rw [if_neg (by omega), if_neg (by omega), if_neg (by omega), if_neg (by omega), if_neg (by omega), if_neg (by omega), if_neg (by omega), if_neg (by omega), if_neg (by omega), if_neg (by omega), if_neg (by omega)]
  have z12 : m15.1 291 12 = m.1 291 4 := by
    rw [em15, em14, em13, em12, em11, em10, em9, em8, em7, em6, e5, ← xP_sl (by omega), ← xP_sl (by omega), ← xP_sl (by omega), ← xP_sl (by omega), ← xP_sl (by omega), ← xP_sl (by omega), ← xP_sl (by omega), ← xP_sl (by omega), ← xP_sl (by omega), ← xP_sl (by omega)]
    exact xP_eq.symm
  have z4 : m15.1 291 4 = 0 := by
    rw [em15, em14, em13, em12, em11, em10, em9, em8, em7, em6, e5, ← xP_sl (by omega), ← xP_sl (by omega), ← xP_sl (by omega), ← xP_sl (by omega), ← xP_sl (by omega), ← xP_sl (by omega), ← xP_sl (by omega), ← xP_sl (by omega), ← xP_sl (by omega)]
    exact xP_eq.symm
  have z13 : m15.1 291 13 = 0 := by
    rw [em15, em14, em13, em12, em11, em10, em9, em8, em7, em6, e5, ← xP_sl (by omega), ← xP_sl (by omega), ← xP_sl (by omega), ← xP_sl (by omega), ← xP_sl (by omega), ← xP_sl (by omega), ← xP_sl (by omega), ← xP_sl (by omega)]
    exact xP_eq.symm
  have z17 : m15.1 291 17 = 0 := by
    rw [em15, em14, em13, em12, em11, em10, em9, em8, em7, em6, e5, ← xP_sl (by omega), ← xP_sl (by omega), ← xP_sl (by omega), ← xP_sl (by omega), ← xP_sl (by omega), ← xP_sl (by omega), ← xP_sl (by omega)]
    exact xP_eq.symm
  have z18 : m15.1 291 18 = -1 := by
    rw [em15, em14, em13, em12, em11, em10, em9, em8, em7, em6, e5, ← xP_sl (by omega), ← xP_sl (by omega), ← xP_sl (by omega), ← xP_sl (by omega), ← xP_sl (by omega), ← xP_sl (by omega)]
    exact xP_eq.symm
  have z19 : m15.1 291 19 = 0 := by
    rw [em15, em14, em13, em12, em11, em10, em9, em8, em7, em6, e5, ← xP_sl (by omega), ← xP_sl (by omega), ← xP_sl (by omega), ← xP_sl (by omega), ← xP_sl (by omega)]
    exact xP_eq.symm
  have z20 : m15.1 291 20 = 0 := by
    rw [em15, em14, em13, em12, em11, em10, em9, em8, em7, em6, e5, ← xP_sl (by omega), ← xP_sl (by omega), ← xP_sl (by omega), ← xP_sl (by omega)]
    exact xP_eq.symm
  have z23 : m15.1 291 23 = 0 := by
    rw [em15, em14, em13, em12, em11, em10, em9, em8, em7, em6, e5, ← xP_sl (by omega), ← xP_sl (by omega), ← xP_sl (by omega)]
    exact xP_eq.symm
  have z26 : m15.1 291 26 = 4 := by
    rw [em15, em14, em13, em12, em11, em10, em9, em8, em7, em6, e5, ← xP_sl (by omega), ← xP_sl (by omega)]
    exact xP_eq.symm
  have z27 : m15.1 291 27 = 0 := by
    rw [em15, em14, em13, em12, em11, em10, em9, em8, em7, em6, e5, ← xP_sl (by omega)]
    exact xP_eq.symm
  have z31 : m15.1 291 31 = 0 := by
    rw [em15, em14, em13, em12, em11, em10, em9, em8, em7, em6, e5]
    exact xP_eq.symm
  have z292 : m15.1 292 4 = m.1 292 4 := fr 292 4 (by omega)
  have i15 : Core m15 [] 0 0 0 0 := ⟨trivial, ⟨by rw [z20]; rfl, by rw [z23]; rfl, by rw [z31]; rfl, by rw [z27]; rfl⟩, Nat.le_refl _, PRE_0, fun c hc => absurd hc (Nat.not_lt_zero c)⟩
  have hB15 : TB0 B L m15 := ⟨by rw [z12]; exact hL4, by omega, fun j hj => by rw [fr 295 j (by omega)]; exact hBr j hj⟩
  refine vOk_bind (vOk_and (next_r (m := m15) (by rw [z12, z13]; omega)) (nextQ (n := 0) hB15 (by rw [z13]; rfl) (by omega))) fun p16 q => ?_
  obtain ⟨⟨n1, n2, n3⟩, nq⟩ := q
  have i16 : Core p16 [] 0 0 0 0 := Core_x (fun b j w => n1.2 b j (by omega)) i15
  have pf16 : PF m15 p16 := PF_N (EN_N n1)
  have ti : TI B L p16 0 := TI_NQ (m0 := m15) nq
  have kw : KW p16 4 0 0 0 0 := ⟨rfl, fun q => absurd rfl q, ⟨fun ⟨x, a, _⟩ => absurd a (Nat.not_lt_zero x), fun q => absurd rfl q⟩, by rw [n1.2 291 18 (by omega), z18]; rfl⟩
  have hM : MC B L p16 (0, 4, [], 0, 0, 0) := ⟨[], 0, 0, 0, 0, ⟨by rw [n1.2 291 17 (by omega), z17]; rfl, n2, i16, by rw [n1.2 291 19 (by omega), z19]; rfl, Nat.zero_le _, n2.1.1, Or.inr (Or.inr (Or.inr (Or.inr ⟨by rw [n1.2 291 26 (by omega), z26]; rfl, rfl, rfl, rfl, by omega⟩)))⟩, rfl, by rw [n1.2 291 26 (by omega), z26]; rfl, ti, TB0_PF pf16 hB15, kw⟩
  have mu := MU_0 n2
  have g' : ¬ (m15.1 292 4).toInt = 4 := by rw [z292]; exact fun q => g (q.trans c4.symm)
  have hB' : PF m15 p16 := pf16
  refine vOk_mono (vOk_and (text74_d (m0 := m15) (B := B) (L := L) (by rw [z292]; exact hb4) g' xFuel p16 pf16 (Or.inr ⟨_, Rc_refl, hM, by omega⟩) (by omega)) (text74_f (m0 := m15) xFuel p16 pf16 (Or.inr ⟨⟨[], 0, 0, 0, 0, hM.choose_spec.choose_spec.choose_spec.choose_spec.choose_spec.1.1, n2, i16, by rw [n1.2 291 19 (by omega), z19]; rfl, Nat.zero_le _, n2.1.1, Or.inr (Or.inr (Or.inr (Or.inr ⟨by rw [n1.2 291 26 (by omega), z26]; rfl, rfl, rfl, rfl, by omega⟩)))⟩, by omega⟩) (by omega) (by rw [z292]; exact hb4) g')) fun p hp => ?_
  obtain ⟨⟨f, j, vd, te⟩, fr4, fr295⟩ := hp
  refine Or.inr ⟨fun q => g (q.trans c4.symm), by rw [fr4, z4]; rfl, fun j => by rw [fr295, fr 295 j (by omega)], f, j, vd, ?_⟩
  unfold TE at te ⊢
  rw [z292] at te
  exact te
