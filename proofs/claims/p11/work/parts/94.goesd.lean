/-! the reference's parser keeps to the machine: goesOn, asksOn -/
section
variable {B : Nat → Int} {L : Nat} {s Cn : Nat} {i kd C w : Nat} {fs : List Nat}
theorem waitsFor_d {x : Int32} {f o O H : Nat} {ops : List Nat} {rest : List (Nat × List Nat)} {m : xMem} (h : Core m ((f, ops) :: rest) s O H Cn) (t : TK m) (hx : x.toInt = (o : Int)) (ho : allOp ops) (h1 : O + ops.length ≤ 399) (h2 : ops.length + 1 ≤ H) (h3 : H ≤ 200) (h4 : wsum rest + ops.length ≤ 78) (hi : TI B L m i) (hB : TB0 B L m) : vOk (fun m1 => (∃ k, k ≤ ops.length ∧ Core m1 ((f, o :: ops.drop k) :: rest) s (O + k) (H - k) Cn ∧ headLt (rk o) (ops.drop k) ∧ TK m1 ∧ (m.1 291 13).toInt ≤ (m1.1 291 14).toInt ∧ EN m m1 ∧ m1.1 291 19 = m.1 291 19) ∧ TI B L m1 (i + 1)) (fX12_waitsFor 291 x m) := by
  have c1 : (1 : Int32).toInt = 1 := rfl
  unfold fX12_waitsFor fX12_waitsFor_0
  refine vBindP (rank_c hx) fun v _ hv' => ?_
  dsimp only
  have cF := xFu
  unfold fX12_works
  refine vOk_bind (works_c hv' ops xFuel O H m (by omega) h ho h1 h2 h3 (by omega)) fun m2 q => ?_
  obtain ⟨k, k1, k2, k3, k4, k5⟩ := q
  have k2' := k2
  obtain ⟨hl, ⟨h20, h23, h31, h27⟩, hs, hp, hv⟩ := k2'
  rw [List.length_cons] at h20
  have ld : (ops.drop k).length = ops.length - k := List.length_drop
  have w : wsum ((f, ops.drop k) :: rest) = (ops.drop k).length + wsum rest := rfl
  rw [w] at h23
  have w23 := wN h23
  refine vAl (x := m2.1 291 23) rfl ?_
  refine vIn (by omega) (by omega) fun _ => ?_
  rw [w23]
  refine vR fun m4 e4 => ?_
  refine vAl (x := m2.1 291 23) (xP_plE e4 (by omega)) ?_
  refine vAl (x := m2.1 291 20) (xP_plE e4 (by omega)) ?_
  refine vIn (by omega) (by omega) fun _ => ?_
  rw [w23]
  refine vR fun m8 e8 => ?_
  refine vAl (x := m2.1 291 23) ((xP_plE e4 (by omega)).trans (xP_plE e8 (by omega))) ?_
  refine vA (by omega) fun x11 e11 f11 => ?_
  refine vR fun m12 e12 => ?_
  have h12 : Core m12 ((f, o :: ops.drop k) :: rest) s (O + k) (H - k) Cn := by
    rw [e12, e8, e4]
    exact Core_push k2 hx (by rw [h20]) (by omega)
  have g12 : EG m2 m12 := by
    rw [e12, e8, e4]
    exact EG_put (EG_put (EG_put EG_refl (by omega)) (by omega)) (by omega)
  have g := EG_tr k4 g12
  refine vOk_bind (next_d h12 (TK_G g t) (TB0_PF (PF_N (EN_G g)) hB) (TI_cg (fun j _ _ => g.2 291 j (by omega)) hi)) fun m13 q13 => ?_
  obtain ⟨⟨a1, a2, a3, a4⟩, a5⟩ := q13
  refine vOk_some ⟨⟨k, k1, a1, k3, a2, ?_, EN_tr (EN_G g) (EN_N a4), ?_⟩, a5⟩
  · rw [g.2 291 13 (by omega)] at a3
    exact a3
  · rw [a4.2 291 19 (by omega), ← k5, e12, e8, e4]
    exact ((xP_pl (by omega)).trans ((xP_pl (by omega)).trans (xP_sl (by omega)))).symm
theorem clauseIsOver_d {m : xMem} {f O H : Nat} {ops : List Nat} (hw : (m.1 291 17).toInt = 0) (t : TK m) (hs : ¬ (m.1 291 15).toInt = 0) (h : Core m [(f, ops)] s O H Cn) (ho : allOp ops) (h2 : ops.length ≤ 2) (hH : H = ops.length + 1) (h19 : (m.1 291 19).toInt = 0) (hb : ((O + ops.length : Nat) : Int) ≤ (m.1 291 14).toInt) (hc : Cn < 10) (cur : (m.1 306 Cn).toInt = (s : Int)) (hi : TI B L m i) (hB : TB0 B L m) {st : Nat} (kw : KW m st kd C w Cn) (st4 : ¬ st = 4) (hg : gS (KF' B L) (VF' B L) (i, st, fs, kd, C, w) = (0, (i + 1, 4, [], kd, C, w))) : vOk (ST2 B L m (i, st, fs, kd, C, w)) (fX12_clauseIsOver 291 m) := by
  have c0 : (0 : Int32).toInt = 0 := rfl
  have c1 : (1 : Int32).toInt = 1 := rfl
  have t' := t
  unfold TK at t'
  have ts := t'.2.1.resolve_left hs
  have cF := xFu
  have w0 : wsum ([] : List (Nat × List Nat)) = 0 := rfl
  unfold fX12_clauseIsOver fX12_clauseIsOver_0 fX12_works
  refine vOk_bind (works_c (r := 1) rfl ops xFuel O H m (by omega) h ho (by omega) (by omega) (by omega) (by omega)) fun p1 q => ?_
  obtain ⟨k, k1, k2, k3, k4, k5⟩ := q
  have dn := AL_nil (AL_1 _) k3
  have kl := drop_nil dn
  rw [dn] at k2
  refine vR fun m2 e2 => ?_
  have i2 : Core m2 [] s (O + k) (H - k) Cn := by rw [e2]; exact Core_pop k2 rfl
  have g2 : EG m m2 := by rw [e2]; exact EG_put k4 (by omega)
  obtain ⟨hl, ⟨h20, h23, h31, h27⟩, hss, hp, hv⟩ := i2
  refine vOk_bind (emits_x h31 (by omega)) fun m3 q => ?_
  obtain ⟨fr, q7, qk, q31, qp⟩ := q
  refine vAl (x := m3.1 291 27) rfl ?_
  have z27 : (m3.1 291 27).toInt = (Cn : Int) := by rw [fr 291 27 (by omega)]; exact h27
  refine vA (by omega) fun x5 e5 f5 => ?_
  refine vR fun m6 e6 => ?_
  have f6 : ∀ b j, ¬ (b = 291 ∧ j = 27) → m6.1 b j = m3.1 b j := fun b j w => by
    rw [e6]
    show (if b = 291 ∧ j = 27 then _ else m3.1 b j) = _
    rw [if_neg w]
  have r7 : m6.1 307 = m3.1 307 := funext fun j => f6 307 j (by omega)
  have r8 : m6.1 308 = m3.1 308 := funext fun j => f6 308 j (by omega)
  have i6 : Core m6 [] (O + k + 1) (O + k + 1) 0 (Cn + 1) := by
    refine ⟨trivial, ⟨?_, ?_, ?_, ?_⟩, Nat.le_refl _, PRE_0, fun c hcc => ?_⟩
    · rw [f6 291 20 (by omega), fr 291 20 (by omega)]; exact h20
    · rw [f6 291 23 (by omega), fr 291 23 (by omega)]; exact h23
    · rw [f6 291 31 (by omega), q31]; omega
    · have z : m6.1 291 27 = x5 := by rw [e6]; exact xP_eq.symm
      rw [z]; omega
    · rw [r7, r8, f6 306 c (by omega), fr 306 c (by omega)]
      by_cases q : c < Cn
      · obtain ⟨s', a1, a2, a3⟩ := hv c q
        exact ⟨s', a1, by omega, VAL_cong (by omega) qk a3⟩
      · have qc : c = Cn := by omega
        rw [qc, g2.2 306 Cn (by omega)]
        exact ⟨s, cur, by omega, PRE_end (PRE_cong qk hp) hss (by omega) (by rw [q7]; rfl)⟩
  have t6 : TK m6 := TK_cong (fun j _ _ => by rw [f6 291 j (by omega), fr 291 j (by omega), g2.2 291 j (by omega)]) t
  have p6 : PF m m6 := ⟨by rw [e6]; show m3.2 = m.2; rw [qp]; exact g2.1, fun b j w' => by rw [f6 b j (by omega), fr b j (by omega), g2.2 b j (by omega)]⟩
  have ti6 : TI B L m6 i := TI_cg (fun j _ _ => by rw [f6 291 j (by omega), fr 291 j (by omega), g2.2 291 j (by omega)]) hi
  refine vOk_bind (next_d i6 t6 (TB0_PF p6 hB) ti6) fun m7 q => ?_
  obtain ⟨⟨b1, b2, b3, b4⟩, b5⟩ := q
  refine vR fun m8 e8 => ?_
  have f8 : ∀ b j, ¬ (b = 291 ∧ j = 26) → m8.1 b j = m7.1 b j := fun b j w => by
    rw [e8]
    show (if b = 291 ∧ j = 26 then _ else m7.1 b j) = _
    rw [if_neg w]
  have z26 : m8.1 291 26 = 4 := by rw [e8]; exact xP_eq.symm
  have at6 : m6.1 291 13 = m.1 291 13 := by rw [f6 291 13 (by omega), fr 291 13 (by omega), g2.2 291 13 (by omega)]
  rw [at6] at b3
  have i8 : Core m8 [] (O + k + 1) (O + k + 1) 0 (Cn + 1) := Core_x (fun b j w => f8 b j (by omega)) b1
  have t8 : TK m8 := TK_cong (fun j _ _ => f8 291 j (by omega)) b2
  have pf : PF m m8 := by
    refine ⟨?_, fun b j w => ?_⟩
    · rw [e8]
      show m7.2 = m.2
      rw [b4.1, e6]
      show m3.2 = m.2
      rw [qp]; exact g2.1
    · rw [f8 b j (by omega), b4.2 b j (by omega), f6 b j (by omega), fr b j (by omega), g2.2 b j (by omega)]
  have kk : ∀ j, j = 12 ∨ j = 17 ∨ j = 18 → m8.1 291 j = m.1 291 j := fun j hj => by
    rw [f8 291 j (by omega), b4.2 291 j (by omega), f6 291 j (by omega), fr 291 j (by omega), g2.2 291 j (by omega)]
  have k19 : m8.1 291 19 = m.1 291 19 := by
    rw [f8 291 19 (by omega), b4.2 291 19 (by omega), f6 291 19 (by omega), fr 291 19 (by omega), e2, ← xP_sl (by omega), k5]
  have p0 : pnd ([] : List (Nat × List Nat)) = 0 := rfl
  have k28 : m8.1 291 28 = m.1 291 28 := by
    rw [f8 291 28 (by omega), b4.2 291 28 (by omega), f6 291 28 (by omega), fr 291 28 (by omega), g2.2 291 28 (by omega)]
  have k305 : ∀ j, m8.1 305 j = m.1 305 j := fun j => by
    rw [f8 305 j (by omega), b4.2 305 j (by omega), f6 305 j (by omega), fr 305 j (by omega), g2.2 305 j (by omega)]
  have kw8 : KW m8 4 kd C w (Cn + 1) := by
    unfold KW at kw ⊢
    rw [if_neg st4] at kw
    rw [if_pos rfl]
    refine ⟨kw.1, fun q => absurd rfl q, ?_, by rw [kk 18 (by omega)]; exact kw.2.2.2⟩
    rw [← kw.2.2.1]
    exact ⟨fun ⟨x, a, b⟩ => ⟨x, a, by rw [← k305]; exact b⟩, fun ⟨x, a, b⟩ => ⟨x, a, by rw [k305]; exact b⟩⟩
  refine vOk_some ⟨pf, Or.inr ⟨_, hg, ⟨[], O + k + 1, O + k + 1, 0, Cn + 1, ⟨by rw [kk 17 (by omega)]; exact hw, t8, i8, by rw [k19]; exact h19, Nat.zero_le _, ?_, Or.inr (Or.inr (Or.inr (Or.inr ⟨by rw [z26]; rfl, rfl, rfl, rfl, by omega⟩)))⟩, rfl, by rw [z26]; rfl, TI_cg (fun j _ _ => f8 291 j (by omega)) b5, TB0_PF pf hB, kw8⟩, MU_next (kk 12 (by omega)) hs t8 (by rw [f8 291 14 (by omega)]; exact b3)⟩⟩
  rw [w0, p0, f8 291 14 (by omega)]
  omega
theorem goesOn_d {m : xMem} {lv : List (Nat × List Nat)} {O H : Nat} (hw : (m.1 291 17).toInt = 0) (t : TK m) (h : Core m lv s O H Cn) (h19 : (m.1 291 19).toInt = (opn lv : Int)) (h8 : opn lv ≤ 8) (hb : ((O + wsum lv + pnd lv : Nat) : Int) ≤ (m.1 291 14).toInt) (hst : (m.1 291 26).toInt = 2) (hN : stN lv) (htop : ¬ topK lv = 7) (hH : H = wsum lv + rgt lv + 1) (hc : Cn < 10) (cur : (m.1 306 Cn).toInt = (s : Int)) (mp : lv.map Prod.fst = fs) (hi : TI B L m i) (hB : TB0 B L m) (kw : KW m 2 kd C w Cn) : vOk (ST2 B L m (i, 2, fs, kd, C, w)) (fX12_goesOn 291 m) := by
  have c0 : (0 : Int32).toInt = 0 := rfl
  have c1 : (1 : Int32).toInt = 1 := rfl
  have c3 : (3 : Int32).toInt = 3 := rfl
  have c4 : (4 : Int32).toInt = 4 := rfl
  have c5 : (5 : Int32).toInt = 5 := rfl
  have c6 : (6 : Int32).toInt = 6 := rfl
  have c41 : (41 : Int32).toInt = 41 := rfl
  have c59 : (59 : Int32).toInt = 59 := rfl
  have c43 : (43 : Int32).toInt = 43 := rfl
  have c45 : (45 : Int32).toInt = 45 := rfl
  have c42 : (42 : Int32).toInt = 42 := rfl
  have c47 : (47 : Int32).toInt = 47 := rfl
  have t' := t
  unfold TK at t'
  have cF := xFu
  cases lv with
  | nil => exact hN.elim
  | cons p r =>
  obtain ⟨f, ops⟩ := p
  have tr := hi.2.2
  have eS : gS (KF' B L) (VF' B L) (i, 2, fs, kd, C, w) = aS2 (KF' B L) i fs kd C w := rfl
  have fsE : fs = f :: r.map Prod.fst := mp.symm
  have tp : topF fs = f := by rw [fsE]; rfl
  have tl : fs.tail = r.map Prod.fst := by rw [fsE]; rfl
  have hL := stN_len _ hN
  rw [List.length_cons] at hL
  have wv : wsum ((f, ops) :: r) = ops.length + wsum r := rfl
  have pv : pnd ((f, ops) :: r) = (if f = 3 ∨ f = 5 ∨ f = 7 then 1 else 0) + pnd r := rfl
  have ov : opn ((f, ops) :: r) = (if f = 3 ∨ f = 6 ∨ f = 7 then 1 else 0) + opn r := rfl
  have rv : rgt ((f, ops) :: r) = (if f = 5 then 1 else 0) + rgt r := rfl
  have hf7 : ¬ f = 7 := htop
  have hnum : numO ops := by
    rcases hN with q | q | q | q
    · exact q.2.1
    · exact q.2.1
    · exact q.2.1
    · exact absurd q.1 hf7
  have rep : ∀ ops', numO ops' → stN ((f, ops') :: r) := by
    intro ops' hn
    rcases hN with q | q | q | q
    · exact Or.inl ⟨q.1, hn, q.2.2⟩
    · exact Or.inr (Or.inl ⟨q.1, hn, q.2.2⟩)
    · exact Or.inr (Or.inr (Or.inl ⟨q.1, hn, q.2.2⟩))
    · exact absurd q.1 hf7
  have hall := SO_all _ hnum.1
  have len2 := numO_len hnum
  have er : ¬ isOpr (KF' B L i) → ¬ (f = 6 ∧ KF' B L i = 14) → ¬ (f = 4 ∧ 3 ≤ KF' B L i ∧ KF' B L i ≤ 8) → ¬ f = 5 → ¬ (f = 1 ∧ KF' B L i = 15) → vOk (ST2 B L m (i, 2, fs, kd, C, w)) (fX12_goesOn_245 291 m) := by
    intro n1 n2 n3 n4 n5
    unfold fX12_goesOn_245 fX12_goesOn_250
    refine vOk_bind (errs_d hw (f := 1) rfl (by decide) (eS.trans ?_)) fun m2 q => ?_
    · unfold aS2
      rw [if_neg n1, if_neg (by rw [tp]; exact n2), if_neg (by rw [tp]; exact n3), if_neg (by rw [tp]; exact n4), if_neg (by rw [tp]; exact n5)]
    exact vOk_some q
  have r49 : ∀ o : Nat, (m.1 291 16).toInt = (o : Int) → isOp o → 3 ≤ rk o → rk o < 5 → (m.1 291 15).toInt = 3 → isOpr (KF' B L i) → vOk (ST2 B L m (i, 2, fs, kd, C, w)) (fX12_goesOn_49 291 m) := by
    intro o ho io r3 r5 hs hop
    have ts := t'.2.1.resolve_left (by omega)
    unfold fX12_goesOn_49 fX12_goesOn_250
    refine vAl (x := m.1 291 16) rfl ?_
    refine vOk_bind (waitsFor_d h t ho hall (by omega) (by omega) (by omega) (by omega) hi hB) fun m2 q => ?_
    obtain ⟨⟨k, k1, k2, k3, k4, k5, k6, k7⟩, k8⟩ := q
    refine vR fun m3 e3 => ?_
    have B' : BN m m3 ((f, o :: ops.drop k) :: r) s (O + k) (H - k) Cn := by
      rw [e3]
      exact BN_26 ⟨k2, k4, k6, by rw [k7]; exact h19, k5⟩
    have z26 : m3.1 291 26 = 1 := by rw [e3]; exact xP_eq.symm
    have wn : wsum ((f, o :: ops.drop k) :: r) = (ops.length - k) + 1 + wsum r := by
      show (o :: ops.drop k).length + wsum r = _
      rw [List.length_cons, List.length_drop]
    have pn : pnd ((f, o :: ops.drop k) :: r) = pnd ((f, ops) :: r) := rfl
    have on : opn ((f, o :: ops.drop k) :: r) = opn ((f, ops) :: r) := rfl
    have rn : rgt ((f, o :: ops.drop k) :: r) = rgt ((f, ops) :: r) := rfl
    exact vOk_some (ST2_BN B' hw (by omega) t (by omega) (by omega) (Or.inr (Or.inl ⟨by rw [z26]; rfl, rep _ ⟨SO_push (SO_drop _ _ hnum.1) r5 io k3, ⟨r3, AL_drop _ _ hnum.2⟩⟩, by omega, hc, by rw [B'.2.2.1.2 306 Cn (by omega)]; exact cur⟩)) hB (by rw [e3]; exact TI_cg (fun j _ _ => (xP_sl (by omega)).symm) k8) (by rw [z26]; rfl) (st := 2) (st' := 1) (fs' := fs) (by rw [fsE]; rfl) (by decide) kw (eS.trans (by unfold aS2; rw [if_pos hop])))
  have r181 : ¬ isOpr (KF' B L i) → ¬ (f = 6 ∧ KF' B L i = 14) → ¬ (f = 4 ∧ 3 ≤ KF' B L i ∧ KF' B L i ≤ 8) → ∀ v : Int32, v.toInt = (f : Int) → vOk (ST2 B L m (i, 2, fs, kd, C, w)) (fX12_goesOn_181 291 v m) := by
    intro n1 n2 n3 v hv
    unfold fX12_goesOn_181
    refine vNe (fun g => ?_) (fun g => ?_)
    · refine vNe (fun g2 => er n1 n2 n3 (by omega) (fun q => by have z := q.1; omega)) (fun g2 => ?_)
      have hf : f = 1 := by omega
      subst hf
      refine vBindP isSign_d fun w' _ hw' => ?_
      dsimp only
      refine vEq (fun g3 => er n1 n2 n3 (by omega) (fun q => by have z := TK_15' tr q.2; omega)) (fun g3 => ?_)
      have r0 : r = [] := by
        rcases hN with q | q | q | q
        · exact q.2.2
        · exfalso; have := q.1; dsimp only at this; omega
        · exfalso; have := q.1; dsimp only at this; omega
        · exfalso; have := q.1; dsimp only at this; omega
      subst r0
      have hs : (m.1 291 15).toInt = 3 := by omega
      have h15 : KF' B L i = 15 := TK_15 tr (by omega) (by omega)
      rw [if_neg (by omega)] at ov rv pv
      have q1 : opn ([] : List (Nat × List Nat)) = 0 := rfl
      have q2 : rgt ([] : List (Nat × List Nat)) = 0 := rfl
      have q3 : wsum ([] : List (Nat × List Nat)) = 0 := rfl
      unfold fX12_goesOn_250
      refine vOk_bind (clauseIsOver_d hw t (by omega) h hall len2 (by omega) (by omega) (by omega) hc cur hi hB kw (by decide) (eS.trans (by unfold aS2; rw [if_neg n1, if_neg (by rw [tp]; exact n2), if_neg (by rw [tp]; exact n3), if_neg (by rw [tp]; decide), if_pos ⟨tp, h15⟩]))) fun m5 q => ?_
      exact vOk_some q
    · have hf : f = 5 := by omega
      subst hf
      have hC : stC r := by
        rcases hN with q | q | q | q
        · exfalso; have := q.1; dsimp only at this; omega
        · exact q.2.2
        · exfalso; have := q.1; dsimp only at this; omega
        · exfalso; have := q.1; dsimp only at this; omega
      have LC := stC_len _ hC
      rw [if_neg (by omega)] at ov
      rw [if_pos rfl] at rv
      rw [if_pos (by omega)] at pv
      unfold fX12_works
      refine vOk_bind (works_c (r := 3) rfl ops xFuel O H m (by omega) h hall (by omega) (by omega) (by omega) (by omega)) fun p6 q => ?_
      obtain ⟨k, k1, k2, k3, k4, k5⟩ := q
      have dn := AL_nil (AL_drop _ _ hnum.2) k3
      have kl := drop_nil dn
      rw [dn] at k2
      have k2' := k2
      obtain ⟨hl, ⟨h20, h23, h31, h27⟩, hss, hp, hvv⟩ := k2'
      rw [List.length_cons] at h20
      have w20 := wN h20
      refine vAl (x := p6.1 291 20) rfl ?_
      refine vIn (by omega) (by omega) fun _ => ?_
      rw [w20]
      refine vR fun x8 e8 => ?_
      have a8 : isAsk x8 := by rw [e8]; exact hl.2.2.1 rfl
      refine vAl (x := p6.1 291 20) rfl ?_
      refine vS (by omega) fun x11 e11 f11 => ?_
      refine vR fun m12 e12 => ?_
      have i12 : Core m12 r s (O + k) (H - k) Cn := by rw [e12]; exact Core_pop k2 (by omega)
      have g12 : EG m m12 := by rw [e12]; exact EG_put k4 (by omega)
      have z19 : m12.1 291 19 = m.1 291 19 := by rw [e12, ← xP_sl (by omega), k5]
      have so : stepOK x8 0 (H - k) (H - k - 1) := by
        unfold isAsk at a8
        exact ⟨by omega, Or.inr (Or.inr (Or.inr ⟨by omega, by omega, by omega, rfl⟩))⟩
      refine vOk_bind (emits_c i12 (by omega) so) fun m13 q => ?_
      obtain ⟨a1, a2, a3, a4⟩ := q
      unfold fX12_askIsOver
      refine vOk_bind (askIsOver_c r xFuel (O + k + 1) (H - k - 1) m13 (by omega) (by omega) a1 (by rw [a3, z19]; omega) hC (by omega) (by omega) (by omega)) fun m14 q => ?_
      obtain ⟨ops', O', b1, b2, b3, b4, b5, b6, b7⟩ := q
      have g : EG m m14 := EG_tr (EG_tr g12 a2) b7
      unfold fX12_goesOn_250
      have o2 : opn [(2, ops')] = 0 := rfl
      have p2 : pnd [(2, ops')] = 0 := rfl
      have w2 : wsum [(2, ops')] = ops'.length := rfl
      exact vOk_some ⟨PF_N (EN_G g), Or.inr ⟨(i, 3, [2], kd, C, w), eS.trans (by unfold aS2; rw [if_neg n1, if_neg (by rw [tp]; exact n2), if_neg (by rw [tp]; exact n3), if_pos tp, tl, stC_dropN r hC]), ⟨[(2, ops')], s, O', H - k - 1, Cn, ⟨by rw [g.2 291 17 (by omega)]; exact hw, TK_G g t, b1, by rw [b2, o2]; rfl, by omega, by rw [g.2 291 14 (by omega)]; omega, Or.inr (Or.inr (Or.inr (Or.inl ⟨b6, ⟨ops', rfl, b3⟩, by omega, hc, by rw [g.2 306 Cn (by omega)]; exact cur⟩)))⟩, rfl, b6, TI_cg (fun j _ _ => g.2 291 j (by omega)) hi, TB0_PF (PF_N (EN_G g)) hB, KW_cg (g.2 291 18 (by omega)) (g.2 291 28 (by omega)) (fun j => g.2 305 j (by omega)) (by decide) (by show ¬ (3 : Nat) = 4; decide) kw⟩, MU_w (fun j _ _ => g.2 291 j (by omega)) (Or.inr hst) (by rw [b6]; decide)⟩⟩
  have r116 : ¬ isOpr (KF' B L i) → ¬ (f = 6 ∧ KF' B L i = 14) → ∀ v : Int32, v.toInt = (f : Int) → vOk (ST2 B L m (i, 2, fs, kd, C, w)) (fX12_goesOn_116 291 v m) := by
    intro n1 n2 v hv
    unfold fX12_goesOn_116
    refine vNe (fun g => r181 n1 n2 (fun q => by have z := q.1; omega) v hv) (fun g => ?_)
    refine vAl (x := m.1 291 15) rfl ?_
    refine vNe (fun g2 => r181 n1 n2 (fun q => by have z := (TK_a' tr q.2.1 q.2.2).1; omega) v hv) (fun g2 => ?_)
    refine vAl (x := m.1 291 16) rfl ?_
    refine vBindP isAsking_d fun w' _ hw' => ?_
    dsimp only
    refine vEq (fun g3 => r181 n1 n2 (fun q => by
      have na := (hw'.resolve_left (fun z => by omega)).2
      unfold isAsk at na
      have z := (TK_a' tr q.2.1 q.2.2).2
      omega) v hv) (fun g3 => ?_)
    have ask : isAsk (m.1 291 16) := (hw'.resolve_right (fun z => by omega)).2
    have ask38 : 3 ≤ KF' B L i ∧ KF' B L i ≤ 8 := TK_a tr (by omega) ask
    have hf : f = 4 := by omega
    subst hf
    have hC : stC r := by
      rcases hN with q | q | q | q
      · exfalso; have := q.1; dsimp only at this; omega
      · exact q.2.2
      · exfalso; have := q.1; dsimp only at this; omega
      · exfalso; have := q.1; dsimp only at this; omega
    have LC := stC_len _ hC
    rw [if_neg (by omega)] at ov rv pv
    have ts := t'.2.1.resolve_left (by omega)
    unfold fX12_works
    refine vOk_bind (works_c (r := 3) rfl ops xFuel O H m (by omega) h hall (by omega) (by omega) (by omega) (by omega)) fun p7 q => ?_
    obtain ⟨k, k1, k2, k3, k4, k5⟩ := q
    have dn := AL_nil (AL_drop _ _ hnum.2) k3
    have kl := drop_nil dn
    rw [dn] at k2
    have k2' := k2
    obtain ⟨hl, ⟨h20, h23, h31, h27⟩, hss, hp, hvv⟩ := k2'
    rw [List.length_cons] at h20
    have w20 := wN h20
    refine vAl (x := p7.1 291 20) rfl ?_
    refine vAl (x := m.1 291 16) (k4.2 291 16 (by omega)).symm ?_
    refine vIn (by omega) (by omega) fun _ => ?_
    rw [w20]
    refine vR fun m10 e10 => ?_
    refine vAl (x := p7.1 291 20) (xP_plE e10 (by omega)) ?_
    refine vS (by omega) fun x13 e13 f13 => ?_
    refine vIn (by omega) (by omega) fun _ => ?_
    rw [wN (x := x13) (n := r.length) (by omega)]
    refine vR fun m14 e14 => ?_
    have i14 : Core m14 ((5, []) :: r) s (O + k) (H - k) Cn := by rw [e14, e10]; exact Core_lr k2 ask
    have g14 : EG m m14 := by rw [e14, e10]; exact EG_put (EG_put k4 (by omega)) (by omega)
    have z19 : m14.1 291 19 = m.1 291 19 := by rw [e14, ← xP_pl (by omega), e10, ← xP_pl (by omega), k5]
    refine vOk_bind (next_d i14 (TK_G g14 t) (TB0_PF (PF_N (EN_G g14)) hB) (TI_cg (fun j _ _ => g14.2 291 j (by omega)) hi)) fun m16 q => ?_
    obtain ⟨⟨b1, b2, b3, b4⟩, b5⟩ := q
    refine vR fun m17 e17 => ?_
    unfold fX12_goesOn_250
    have o5 : opn ((5, []) :: r) = 0 + opn r := rfl
    have p5 : pnd ((5, []) :: r) = 1 + pnd r := rfl
    have w5 : wsum ((5, []) :: r) = 0 + wsum r := rfl
    have r5 : rgt ((5, []) :: r) = 1 + rgt r := rfl
    have B' : BN m m17 ((5, []) :: r) s (O + k) (H - k) Cn := by
      rw [e17]
      refine BN_26 ⟨b1, b2, EN_tr (EN_G g14) (EN_N b4), ?_, ?_⟩
      · rw [b4.2 291 19 (by omega), z19]; omega
      · rw [g14.2 291 13 (by omega)] at b3
        exact b3
    have z26 : m17.1 291 26 = 1 := by rw [e17]; exact xP_eq.symm
    exact vOk_some (ST2_BN B' hw (by omega) t (by omega) (by omega) (Or.inr (Or.inl ⟨by rw [z26]; rfl, Or.inr (Or.inl ⟨Or.inr rfl, ⟨trivial, trivial⟩, hC⟩), by omega, hc, by rw [B'.2.2.1.2 306 Cn (by omega)]; exact cur⟩)) hB (by rw [e17]; exact TI_cg (fun j _ _ => (xP_sl (by omega)).symm) b5) (by rw [z26]; rfl) (st := 2) (st' := 1) (fs' := 5 :: fs.tail) (by rw [tl]; rfl) (by decide) kw (eS.trans (by unfold aS2; rw [if_neg n1, if_neg (by rw [tp]; exact n2), if_pos ⟨tp, ask38⟩])))
  have r65 : ¬ isOpr (KF' B L i) → ∀ v : Int32, v.toInt = (f : Int) → vOk (ST2 B L m (i, 2, fs, kd, C, w)) (fX12_goesOn_65 291 v m) := by
    intro n1 v hv
    unfold fX12_goesOn_65
    refine vNe (fun g => r116 n1 (fun q => by have z := q.1; omega) v hv) (fun g => ?_)
    refine vBindP isSign_d fun w' _ hw' => ?_
    dsimp only
    refine vEq (fun g3 => r116 n1 (fun q => by have z := TK_14' tr q.2; omega) v hv) (fun g3 => ?_)
    have hs : (m.1 291 15).toInt = 3 := by omega
    have h14 : KF' B L i = 14 := TK_14 tr (by omega) (by omega)
    have hf : f = 6 := by omega
    subst hf
    have hN' : stN r := by
      rcases hN with q | q | q | q
      · exfalso; have := q.1; dsimp only at this; omega
      · exfalso; have := q.1; dsimp only at this; omega
      · exact q.2.2
      · exfalso; have := q.1; dsimp only at this; omega
    rw [if_pos (by omega)] at ov
    rw [if_neg (by omega)] at rv pv
    have ts := t'.2.1.resolve_left (by omega)
    unfold fX12_works
    refine vOk_bind (works_c (r := 3) rfl ops xFuel O H m (by omega) h hall (by omega) (by omega) (by omega) (by omega)) fun p4 q => ?_
    obtain ⟨k, k1, k2, k3, k4, k5⟩ := q
    have dn := AL_nil (AL_drop _ _ hnum.2) k3
    have kl := drop_nil dn
    rw [dn] at k2
    have k2' := k2
    obtain ⟨hl, ⟨h20, h23, h31, h27⟩, hss, hp, hvv⟩ := k2'
    rw [List.length_cons] at h20
    refine vAl (x := p4.1 291 20) rfl ?_
    refine vS (by omega) fun x6 e6 f6 => ?_
    refine vR fun m7 e7 => ?_
    have i7 : Core m7 r s (O + k) (H - k) Cn := by rw [e7]; exact Core_pop k2 (by omega)
    refine vAl (x := m.1 291 19) (k5.symm.trans (xP_slE e7 (by omega))) ?_
    refine vS (by omega) fun x9 e9 f9 => ?_
    refine vR fun m10 e10 => ?_
    have i10 : Core m10 r s (O + k) (H - k) Cn := Core_x (fun b j w => by rw [e10]; exact (show (if b = 291 ∧ j = 19 then _ else m7.1 b j) = _ by rw [if_neg (by omega)])) i7
    have g10 : EG m m10 := by rw [e10, e7]; exact EG_put (EG_put k4 (by omega)) (by omega)
    have z19 : m10.1 291 19 = x9 := by rw [e10]; exact xP_eq.symm
    refine vOk_bind (next_d i10 (TK_G g10 t) (TB0_PF (PF_N (EN_G g10)) hB) (TI_cg (fun j _ _ => g10.2 291 j (by omega)) hi)) fun m11 q => ?_
    obtain ⟨⟨b1, b2, b3, b4⟩, b5⟩ := q
    unfold fX12_oneIsOver
    refine vOk_bind (oneIsOver_d r xFuel (O + k) (H - k) m11 (by omega) (by omega) b1 (by rw [b4.2 291 19 (by omega), z19]; omega) hN' (by omega) (by omega) (by omega)) fun m12 q => ?_
    obtain ⟨lv', O', d1, d2, d3, d4, d5, d6, d7, d8, d9, d10, d11⟩ := q
    unfold fX12_goesOn_250
    have en : EN m m12 := EN_tr (EN_tr (EN_G g10) (EN_N b4)) (EN_G d10)
    refine vOk_some (ST2_BN ⟨d1, TK_G d10 b2, en, d2, ?_⟩ hw (by omega) t (by omega) (by omega) (Or.inr (Or.inr (Or.inl ⟨d9, d3, d4, by omega, hc, by rw [en.2 306 Cn (by omega)]; exact cur⟩))) hB (TI_cg (fun j _ _ => d10.2 291 j (by omega)) b5) d9 (st := 2) (st' := 2) (fs' := dropM fs.tail) (by rw [d11, tl]) (by decide) kw (eS.trans (by unfold aS2; rw [if_neg n1, if_pos ⟨tp, h14⟩])))
    rw [d10.2 291 14 (by omega)]
    rw [g10.2 291 13 (by omega)] at b3
    exact b3
  unfold fX12_goesOn fX12_goesOn_0
  refine vBindP (top_c h (by omega)) fun v _ hv => ?_
  dsimp only at hv ⊢
  refine vAl (x := m.1 291 15) rfl ?_
  refine vNe (fun g => r65 (fun z => by have y := (TK_o' tr z).1; omega) v hv) (fun g => ?_)
  refine vAl (x := m.1 291 16) rfl ?_
  refine vEq (fun g2 => r49 43 (by omega) (by unfold isOp; omega) (by decide) (by decide) (by omega) (TK_o tr (by omega) (by omega))) (fun g43 => ?_)
  refine vAl (x := m.1 291 16) rfl ?_
  refine vEq (fun g2 => r49 45 (by omega) (by unfold isOp; omega) (by decide) (by decide) (by omega) (TK_o tr (by omega) (by omega))) (fun g45 => ?_)
  refine vAl (x := m.1 291 16) rfl ?_
  refine vEq (fun g2 => r49 42 (by omega) (by unfold isOp; omega) (by decide) (by decide) (by omega) (TK_o tr (by omega) (by omega))) (fun g42 => ?_)
  refine vAl (x := m.1 291 16) rfl ?_
  refine vNe (fun g47 => r65 (fun z => by have y := (TK_o' tr z).2; omega) v hv) (fun g2 => r49 47 (by omega) (by unfold isOp; omega) (by decide) (by decide) (by omega) (TK_o tr (by omega) (by omega)))
theorem asksOn_d {m : xMem} {ops : List Nat} {O H : Nat} (hw : (m.1 291 17).toInt = 0) (t : TK m) (h : Core m [(2, ops)] s O H Cn) (h19 : (m.1 291 19).toInt = 0) (hb : ((O + ops.length : Nat) : Int) ≤ (m.1 291 14).toInt) (hO : cndO ops) (hH : H = ops.length + 1) (hc : Cn < 10) (cur : (m.1 306 Cn).toInt = (s : Int)) (hst : (m.1 291 26).toInt = 3) (hi : TI B L m i) (hB : TB0 B L m) (kw : KW m 3 kd C w Cn) : vOk (ST2 B L m (i, 3, [2], kd, C, w)) (fX12_asksOn 291 m) := by
  have c0 : (0 : Int32).toInt = 0 := rfl
  have c2 : (2 : Int32).toInt = 2 := rfl
  have c3 : (3 : Int32).toInt = 3 := rfl
  have c4 : (4 : Int32).toInt = 4 := rfl
  have c59 : (59 : Int32).toInt = 59 := rfl
  have tr := hi.2.2
  have eS : gS (KF' B L) (VF' B L) (i, 3, [2], kd, C, w) = aS3 (KF' B L) i [2] kd C w := rfl
  have c406 : (406 : Int32).toInt = 406 := rfl
  have c407 : (407 : Int32).toInt = 407 := rfl
  have t' := t
  unfold TK at t'
  have len2 := cndO_len hO
  have hall := SO_all _ hO
  have w0 : wsum ([] : List (Nat × List Nat)) = 0 := rfl
  have er : ¬ (KF' B L i = 23 ∨ KF' B L i = 24) → ¬ KF' B L i = 15 → vOk (ST2 B L m (i, 3, [2], kd, C, w)) (fX12_asksOn_69 291 m) := by
    intro n1 n2
    unfold fX12_asksOn_69 fX12_asksOn_74
    refine vOk_bind (errs_d hw (f := 1) rfl (by decide) (eS.trans ?_)) fun m2 q => ?_
    · unfold aS3
      rw [if_neg n1, if_neg (fun q => n2 q.2)]
    exact vOk_some q
  have r34 : ∀ (o : Nat) (x : Int32), x.toInt = (o : Int) → isOp o → rk o < 3 → (m.1 291 15).toInt = 1 → (KF' B L i = 23 ∨ KF' B L i = 24) → vOk (ST2 B L m (i, 3, [2], kd, C, w)) (fX12_asksOn_34 291 291 x m) := by
    intro o x ho io r3 hs hop
    have ts := t'.2.1.resolve_left (by omega)
    unfold fX12_asksOn_34 fX12_asksOn_74
    refine vOk_bind (waitsFor_d h t ho hall (by omega) (by omega) (by omega) (by omega) hi hB) fun m2 q => ?_
    obtain ⟨⟨k, k1, k2, k3, k4, k5, k6, k7⟩, k8⟩ := q
    refine vR fun m3 e3 => ?_
    have B' : BN m m3 [(2, o :: ops.drop k)] s (O + k) (H - k) Cn := by
      rw [e3]
      exact BN_26 ⟨k2, k4, k6, by rw [k7]; exact h19, k5⟩
    have z26 : m3.1 291 26 = 0 := by rw [e3]; exact xP_eq.symm
    have wn : wsum [(2, o :: ops.drop k)] = (ops.length - k) + 1 := by
      show (o :: ops.drop k).length + 0 = _
      rw [List.length_cons, List.length_drop]
    have pn : pnd [(2, o :: ops.drop k)] = 0 := rfl
    have on : opn [(2, o :: ops.drop k)] = 0 := rfl
    exact vOk_some (ST2_BN B' hw (by omega) t (by omega) (by omega) (Or.inl ⟨by rw [z26]; rfl, Or.inl ⟨rfl, SO_push (SO_drop _ _ hO) r3 io k3, rfl⟩, by omega, hc, by rw [B'.2.2.1.2 306 Cn (by omega)]; exact cur⟩) hB (by rw [e3]; exact TI_cg (fun j _ _ => (xP_sl (by omega)).symm) k8) (by rw [z26]; rfl) (st := 3) (st' := 0) (fs' := [2]) rfl (by decide) kw (eS.trans (by unfold aS3; rw [if_pos hop])))
  have r16 : (m.1 291 15).toInt = 1 → (KF' B L i = 23 ∨ KF' B L i = 24) → vOk (ST2 B L m (i, 3, [2], kd, C, w)) (fX12_asksOn_16 291 m) := by
    intro hs hop
    unfold fX12_asksOn_16
    refine vBindP isWord_c fun v _ _ => ?_
    dsimp only
    refine vEq (fun _ => ?_) (fun _ => ?_)
    · exact r34 406 406 rfl (by unfold isOp; omega) (by decide) hs hop
    · exact r34 407 407 rfl (by unfold isOp; omega) (by decide) hs hop
  unfold fX12_asksOn fX12_asksOn_0
  refine vBindP isWord_d fun v _ hv => ?_
  dsimp only
  refine vNe (fun g => r16 (by omega) (by have y := TK_w tr (by omega) (by omega); omega)) (fun g1 => ?_)
  refine vBindP isWord_d fun v2 _ hv2 => ?_
  dsimp only
  refine vEq (fun g2 => ?_) (fun g => r16 (by omega) (by have y := TK_w tr (by omega) (by omega); omega))
  have nop : ¬ (KF' B L i = 23 ∨ KF' B L i = 24) := fun z => by have y := TK_w' tr (by omega) (by omega); omega
  refine vBindP (top_c h (by decide)) fun v3 _ hv3 => ?_
  dsimp only at hv3 ⊢
  refine vNe (fun g3 => by exfalso; omega) (fun _ => ?_)
  refine vBindP isSign_d fun v4 _ hv4 => ?_
  dsimp only
  refine vEq (fun g4 => er nop (fun z => by have y := TK_15' tr z; omega)) (fun g4 => ?_)
  have h15 : KF' B L i = 15 := TK_15 tr (by omega) (by omega)
  unfold fX12_asksOn_74
  refine vOk_bind (clauseIsOver_d hw t (by omega) h hall len2 hH h19 hb hc cur hi hB kw (by decide) (eS.trans (by unfold aS3; rw [if_neg nop, if_pos ⟨rfl, h15⟩]))) fun m5 q => ?_
  exact vOk_some q
end
