/-! the reference's parser: goesOn, asksOn, clause -/
theorem drop_nil {ops : List Nat} {k : Nat} (h : ops.drop k = []) : ops.length ≤ k := by
  have := congrArg List.length h
  rw [List.length_drop, List.length_nil] at this
  omega
theorem emits_x {m : xMem} {O : Nat} {a b : Int32} (h31 : (m.1 291 31).toInt = (O : Int)) (hO : O < 400) : vOk (fun m9 => (∀ c i, ¬ ((c = 291 ∧ i = 31) ∨ c = 307 ∨ c = 308) → m9.1 c i = m.1 c i) ∧ m9.1 307 O = a ∧ (∀ k, k < O → m9.1 307 k = m.1 307 k ∧ m9.1 308 k = m.1 308 k) ∧ (m9.1 291 31).toInt = (O : Int) + 1 ∧ m9.2 = m.2) (fX12_emits 291 a b m) := by
  have c1 : (1 : Int32).toInt = 1 := rfl
  have w31 := wN h31
  unfold fX12_emits fX12_emits_0
  refine vAl (x := m.1 291 31) rfl ?_
  refine vIn (by omega) (by omega) fun _ => ?_
  rw [w31]
  refine vR fun m2 e2 => ?_
  refine vAl (x := m.1 291 31) (xP_plE e2 (by omega)) ?_
  refine vIn (by omega) (by omega) fun _ => ?_
  rw [w31]
  refine vR fun m5 e5 => ?_
  refine vAl (x := m.1 291 31) ((xP_plE e2 (by omega)).trans (xP_plE e5 (by omega))) ?_
  refine vA (by omega) fun x8 e8 f8 => ?_
  refine vR fun m9 e9 => ?_
  have fr : ∀ c i, ¬ ((c = 291 ∧ i = 31) ∨ c = 307 ∨ c = 308) → m9.1 c i = m.1 c i := fun c i q => by
    rw [e9, e5, e2]
    show (if c = 291 ∧ i = 31 then _ else if c = 291 + 17 ∧ i = O then _ else if c = 291 + 16 ∧ i = O then _ else m.1 c i) = _
    rw [if_neg (by omega), if_neg (by omega), if_neg (by omega)]
  have q7 : m9.1 307 O = a := by
    rw [e9, ← xP_pl (by omega), e5, ← xP_pl (by omega), e2]
    exact xP_eq.symm
  have q8 : m9.1 308 O = b := by
    rw [e9, ← xP_pl (by omega), e5]
    exact xP_eq.symm
  have qk : ∀ k, k < O → m9.1 307 k = m.1 307 k ∧ m9.1 308 k = m.1 308 k := fun k hk => by
    refine ⟨?_, ?_⟩
    · rw [e9, ← xP_pl (by omega), e5, ← xP_pl (by omega), e2, ← xP_sl (by omega)]
    · rw [e9, ← xP_pl (by omega), e5, ← xP_sl (by omega), e2, ← xP_pl (by omega)]
  have z31 : m9.1 291 31 = x8 := by rw [e9]; exact xP_eq.symm
  exact vOk_some ⟨fr, q7, qk, by rw [z31]; omega, by rw [e9, e5, e2]; rfl⟩
section
variable {s C : Nat}
theorem clauseIsOver_c {m : xMem} {f O H : Nat} {ops : List Nat} (hw : (m.1 291 17).toInt = 0) (t : TK m) (hs : ¬ (m.1 291 15).toInt = 0) (h : Core m [(f, ops)] s O H C) (ho : allOp ops) (h2 : ops.length ≤ 2) (hH : H = ops.length + 1) (h19 : (m.1 291 19).toInt = 0) (hb : ((O + ops.length : Nat) : Int) ≤ (m.1 291 14).toInt) (hc : C < 10) (cur : (m.1 306 C).toInt = (s : Int)) : vOk (ST m) (fX12_clauseIsOver 291 m) := by
  have c0 : (0 : Int32).toInt = 0 := rfl
  have c1 : (1 : Int32).toInt = 1 := rfl
  have t' := t
  unfold TK at t'
  have ts := t'.2.1.resolve_left hs
  have cF := xFu
  have w0 : wsum ([] : List (Nat × List Nat)) = 0 := rfl
  unfold fX12_clauseIsOver fX12_clauseIsOver_0 fX12_works
  refine vOk_bind (works_c (r := 1) rfl ops xFuel O H m (by omega) h ho (by omega) (by omega) (by omega) (by omega)) fun p1 q => ?_
  obtain ⟨k, k1, k2, k3, k4, k5⟩ := q
  have dn := AL_nil (AL_1 _) k3
  have kl := drop_nil dn
  rw [dn] at k2
  refine vR fun m2 e2 => ?_
  have i2 : Core m2 [] s (O + k) (H - k) C := by rw [e2]; exact Core_pop k2 rfl
  have g2 : EG m m2 := by rw [e2]; exact EG_put k4 (by omega)
  obtain ⟨hl, ⟨h20, h23, h31, h27⟩, hss, hp, hv⟩ := i2
  refine vOk_bind (emits_x h31 (by omega)) fun m3 q => ?_
  obtain ⟨fr, q7, qk, q31, qp⟩ := q
  refine vAl (x := m3.1 291 27) rfl ?_
  have z27 : (m3.1 291 27).toInt = (C : Int) := by rw [fr 291 27 (by omega)]; exact h27
  refine vA (by omega) fun x5 e5 f5 => ?_
  refine vR fun m6 e6 => ?_
  have f6 : ∀ b j, ¬ (b = 291 ∧ j = 27) → m6.1 b j = m3.1 b j := fun b j w => by
    rw [e6]
    show (if b = 291 ∧ j = 27 then _ else m3.1 b j) = _
    rw [if_neg w]
  have r7 : m6.1 307 = m3.1 307 := funext fun j => f6 307 j (by omega)
  have r8 : m6.1 308 = m3.1 308 := funext fun j => f6 308 j (by omega)
  have i6 : Core m6 [] (O + k + 1) (O + k + 1) 0 (C + 1) := by
    refine ⟨trivial, ⟨?_, ?_, ?_, ?_⟩, Nat.le_refl _, PRE_0, fun c hcc => ?_⟩
    · rw [f6 291 20 (by omega), fr 291 20 (by omega)]; exact h20
    · rw [f6 291 23 (by omega), fr 291 23 (by omega)]; exact h23
    · rw [f6 291 31 (by omega), q31]; omega
    · have z : m6.1 291 27 = x5 := by rw [e6]; exact xP_eq.symm
      rw [z]; omega
    · rw [r7, r8, f6 306 c (by omega), fr 306 c (by omega)]
      by_cases q : c < C
      · obtain ⟨s', a1, a2, a3⟩ := hv c q
        exact ⟨s', a1, by omega, VAL_cong (by omega) qk a3⟩
      · have qc : c = C := by omega
        rw [qc, g2.2 306 C (by omega)]
        exact ⟨s, cur, by omega, PRE_end (PRE_cong qk hp) hss (by omega) (by rw [q7]; rfl)⟩
  have t6 : TK m6 := TK_cong (fun j _ _ => by rw [f6 291 j (by omega), fr 291 j (by omega), g2.2 291 j (by omega)]) t
  refine vOk_bind (next_c i6 t6) fun m7 q => ?_
  obtain ⟨b1, b2, b3, b4⟩ := q
  refine vR fun m8 e8 => ?_
  have f8 : ∀ b j, ¬ (b = 291 ∧ j = 26) → m8.1 b j = m7.1 b j := fun b j w => by
    rw [e8]
    show (if b = 291 ∧ j = 26 then _ else m7.1 b j) = _
    rw [if_neg w]
  have z26 : m8.1 291 26 = 4 := by rw [e8]; exact xP_eq.symm
  have at6 : m6.1 291 13 = m.1 291 13 := by rw [f6 291 13 (by omega), fr 291 13 (by omega), g2.2 291 13 (by omega)]
  rw [at6] at b3
  have i8 : Core m8 [] (O + k + 1) (O + k + 1) 0 (C + 1) := Core_x (fun b j w => f8 b j (by omega)) b1
  have t8 : TK m8 := TK_cong (fun j _ _ => f8 291 j (by omega)) b2
  have pf : PF m m8 := by
    refine ⟨?_, fun b j w => ?_⟩
    · rw [e8]
      show m7.2 = m.2
      rw [b4.1, e6]
      show m3.2 = m.2
      rw [qp]; exact g2.1
    · rw [f8 b j (by omega), b4.2 b j (by omega), f6 b j (by omega), fr b j (by omega), g2.2 b j (by omega)]
  have kk : ∀ j, j = 12 ∨ j = 17 ∨ j = 18 → m8.1 291 j = m.1 291 j := fun j hj => by
    rw [f8 291 j (by omega), b4.2 291 j (by omega), f6 291 j (by omega), fr 291 j (by omega), g2.2 291 j (by omega)]
  have k19 : m8.1 291 19 = m.1 291 19 := by
    rw [f8 291 19 (by omega), b4.2 291 19 (by omega), f6 291 19 (by omega), fr 291 19 (by omega), e2, ← xP_sl (by omega), k5]
  refine vOk_some ⟨pf, Or.inr ⟨⟨[], O + k + 1, O + k + 1, 0, C + 1, by rw [kk 17 (by omega)]; exact hw, t8, i8, by rw [k19]; exact h19, Nat.zero_le _, ?_, Or.inr (Or.inr (Or.inr (Or.inr ⟨by rw [z26]; rfl, rfl, rfl, rfl, by omega⟩)))⟩, MU_next (kk 12 (by omega)) hs t8 (by rw [f8 291 14 (by omega)]; exact b3)⟩⟩
  have p0 : pnd ([] : List (Nat × List Nat)) = 0 := rfl
  rw [w0, p0, f8 291 14 (by omega)]
  omega
theorem Core_lr {m : xMem} {f O H : Nat} {r : List (Nat × List Nat)} {x : Int32} (h : Core m ((f, []) :: r) s O H C) (hx : isAsk x) : Core (xPut (xPut m 302 (r.length + 1) x) 301 r.length 5) ((5, []) :: r) s O H C := by
  obtain ⟨hl, ⟨h20, h23, h31, h27⟩, hs, hp, hv⟩ := h
  have z1 : (xPut (xPut m 302 (r.length + 1) x) 301 r.length 5).1 301 r.length = 5 := xP_eq.symm
  have z2 : (xPut (xPut m 302 (r.length + 1) x) 301 r.length 5).1 302 (r.length + 1) = x := (xP_eq.trans (xP_pl (by omega))).symm
  have l := LV_cong (h1 := (xPut (xPut m 302 (r.length + 1) x) 301 r.length 5).1 301) (h2 := (xPut (xPut m 302 (r.length + 1) x) 301 r.length 5).1 302) (h3 := (xPut (xPut m 302 (r.length + 1) x) 301 r.length 5).1 303) (h4 := (xPut (xPut m 302 (r.length + 1) x) 301 r.length 5).1 304) r (fun j hj => by rw [← xP_sl (by omega), ← xP_pl (by omega)]) (fun j hj => by rw [← xP_pl (by omega), ← xP_sl (by omega)]) (fun j _ => ⟨rfl, rfl⟩) hl.2.2.2
  exact ⟨⟨by rw [z1]; rfl, trivial, fun _ => by rw [z2]; exact hx, l⟩, ⟨h20, h23, h31, h27⟩, hs, hp, hv⟩
theorem goesOn_c {m : xMem} {lv : List (Nat × List Nat)} {O H : Nat} (hw : (m.1 291 17).toInt = 0) (t : TK m) (h : Core m lv s O H C) (h19 : (m.1 291 19).toInt = (opn lv : Int)) (h8 : opn lv ≤ 8) (hb : ((O + wsum lv + pnd lv : Nat) : Int) ≤ (m.1 291 14).toInt) (hst : (m.1 291 26).toInt = 2) (hN : stN lv) (htop : ¬ topK lv = 7) (hH : H = wsum lv + rgt lv + 1) (hc : C < 10) (cur : (m.1 306 C).toInt = (s : Int)) : vOk (ST m) (fX12_goesOn 291 m) := by
  have c0 : (0 : Int32).toInt = 0 := rfl
  have c1 : (1 : Int32).toInt = 1 := rfl
  have c3 : (3 : Int32).toInt = 3 := rfl
  have c4 : (4 : Int32).toInt = 4 := rfl
  have c5 : (5 : Int32).toInt = 5 := rfl
  have c6 : (6 : Int32).toInt = 6 := rfl
  have c43 : (43 : Int32).toInt = 43 := rfl
  have c45 : (45 : Int32).toInt = 45 := rfl
  have c42 : (42 : Int32).toInt = 42 := rfl
  have c47 : (47 : Int32).toInt = 47 := rfl
  have t' := t
  unfold TK at t'
  have cF := xFu
  cases lv with
  | nil => exact hN.elim
  | cons p r =>
  obtain ⟨f, ops⟩ := p
  have hL := stN_len _ hN
  rw [List.length_cons] at hL
  have wv : wsum ((f, ops) :: r) = ops.length + wsum r := rfl
  have pv : pnd ((f, ops) :: r) = (if f = 3 ∨ f = 5 ∨ f = 7 then 1 else 0) + pnd r := rfl
  have ov : opn ((f, ops) :: r) = (if f = 3 ∨ f = 6 ∨ f = 7 then 1 else 0) + opn r := rfl
  have rv : rgt ((f, ops) :: r) = (if f = 5 then 1 else 0) + rgt r := rfl
  have hf7 : ¬ f = 7 := htop
  have hnum : numO ops := by
    rcases hN with q | q | q | q
    · exact q.2.1
    · exact q.2.1
    · exact q.2.1
    · exact absurd q.1 hf7
  have rep : ∀ ops', numO ops' → stN ((f, ops') :: r) := by
    intro ops' hn
    rcases hN with q | q | q | q
    · exact Or.inl ⟨q.1, hn, q.2.2⟩
    · exact Or.inr (Or.inl ⟨q.1, hn, q.2.2⟩)
    · exact Or.inr (Or.inr (Or.inl ⟨q.1, hn, q.2.2⟩))
    · exact absurd q.1 hf7
  have hall := SO_all _ hnum.1
  have len2 := numO_len hnum
  have er : vOk (ST m) (fX12_goesOn_245 291 m) := by
    unfold fX12_goesOn_245 fX12_goesOn_250
    refine vOk_bind (errs_c hw (by decide)) fun m2 q => ?_
    exact vOk_some q
  have r49 : ∀ o : Nat, (m.1 291 16).toInt = (o : Int) → isOp o → 3 ≤ rk o → rk o < 5 → (m.1 291 15).toInt = 3 → vOk (ST m) (fX12_goesOn_49 291 m) := by
    intro o ho io r3 r5 hs
    have ts := t'.2.1.resolve_left (by omega)
    unfold fX12_goesOn_49 fX12_goesOn_250
    refine vAl (x := m.1 291 16) rfl ?_
    refine vOk_bind (waitsFor_c h t ho hall (by omega) (by omega) (by omega) (by omega)) fun m2 q => ?_
    obtain ⟨k, k1, k2, k3, k4, k5, k6, k7⟩ := q
    refine vR fun m3 e3 => ?_
    have B : BN m m3 ((f, o :: ops.drop k) :: r) s (O + k) (H - k) C := by
      rw [e3]
      exact BN_26 ⟨k2, k4, k6, by rw [k7]; exact h19, k5⟩
    have z26 : m3.1 291 26 = 1 := by rw [e3]; exact xP_eq.symm
    have wn : wsum ((f, o :: ops.drop k) :: r) = (ops.length - k) + 1 + wsum r := by
      show (o :: ops.drop k).length + wsum r = _
      rw [List.length_cons, List.length_drop]
    have pn : pnd ((f, o :: ops.drop k) :: r) = pnd ((f, ops) :: r) := rfl
    have on : opn ((f, o :: ops.drop k) :: r) = opn ((f, ops) :: r) := rfl
    have rn : rgt ((f, o :: ops.drop k) :: r) = rgt ((f, ops) :: r) := rfl
    exact vOk_some (ST_BN B hw (by omega) t (by omega) (by omega) (Or.inr (Or.inl ⟨by rw [z26]; rfl, rep _ ⟨SO_push (SO_drop _ _ hnum.1) r5 io k3, ⟨r3, AL_drop _ _ hnum.2⟩⟩, by omega, hc, by rw [B.2.2.1.2 306 C (by omega)]; exact cur⟩)))
  have r181 : ∀ v : Int32, v.toInt = (f : Int) → vOk (ST m) (fX12_goesOn_181 291 v m) := by
    intro v hv
    unfold fX12_goesOn_181
    refine vNe (fun g => ?_) (fun g => ?_)
    · refine vNe (fun _ => er) (fun g2 => ?_)
      have hf : f = 1 := by omega
      subst hf
      refine vBindP isSign_c fun w _ hw' => ?_
      dsimp only
      refine vEq (fun _ => er) (fun g3 => ?_)
      have r0 : r = [] := by
        rcases hN with q | q | q | q
        · exact q.2.2
        · exfalso; have := q.1; dsimp only at this; omega
        · exfalso; have := q.1; dsimp only at this; omega
        · exfalso; have := q.1; dsimp only at this; omega
      subst r0
      have hs := hw' g3
      rw [if_neg (by omega)] at ov rv pv
      have q1 : opn ([] : List (Nat × List Nat)) = 0 := rfl
      have q2 : rgt ([] : List (Nat × List Nat)) = 0 := rfl
      have q3 : wsum ([] : List (Nat × List Nat)) = 0 := rfl
      unfold fX12_goesOn_250
      refine vOk_bind (clauseIsOver_c hw t (by omega) h hall len2 (by omega) (by omega) (by omega) hc cur) fun m5 q => ?_
      exact vOk_some q
    · have hf : f = 5 := by omega
      subst hf
      have hC : stC r := by
        rcases hN with q | q | q | q
        · exfalso; have := q.1; dsimp only at this; omega
        · exact q.2.2
        · exfalso; have := q.1; dsimp only at this; omega
        · exfalso; have := q.1; dsimp only at this; omega
      have LC := stC_len _ hC
      rw [if_neg (by omega)] at ov
      rw [if_pos rfl] at rv
      rw [if_pos (by omega)] at pv
      unfold fX12_works
      refine vOk_bind (works_c (r := 3) rfl ops xFuel O H m (by omega) h hall (by omega) (by omega) (by omega) (by omega)) fun p6 q => ?_
      obtain ⟨k, k1, k2, k3, k4, k5⟩ := q
      have dn := AL_nil (AL_drop _ _ hnum.2) k3
      have kl := drop_nil dn
      rw [dn] at k2
      have k2' := k2
      obtain ⟨hl, ⟨h20, h23, h31, h27⟩, hss, hp, hvv⟩ := k2'
      rw [List.length_cons] at h20
      have w20 := wN h20
      refine vAl (x := p6.1 291 20) rfl ?_
      refine vIn (by omega) (by omega) fun _ => ?_
      rw [w20]
      refine vR fun x8 e8 => ?_
      have a8 : isAsk x8 := by rw [e8]; exact hl.2.2.1 rfl
      refine vAl (x := p6.1 291 20) rfl ?_
      refine vS (by omega) fun x11 e11 f11 => ?_
      refine vR fun m12 e12 => ?_
      have i12 : Core m12 r s (O + k) (H - k) C := by rw [e12]; exact Core_pop k2 (by omega)
      have g12 : EG m m12 := by rw [e12]; exact EG_put k4 (by omega)
      have z19 : m12.1 291 19 = m.1 291 19 := by rw [e12, ← xP_sl (by omega), k5]
      have so : stepOK x8 0 (H - k) (H - k - 1) := by
        unfold isAsk at a8
        exact ⟨by omega, Or.inr (Or.inr (Or.inr ⟨by omega, by omega, by omega, rfl⟩))⟩
      refine vOk_bind (emits_c i12 (by omega) so) fun m13 q => ?_
      obtain ⟨a1, a2, a3, a4⟩ := q
      unfold fX12_askIsOver
      refine vOk_bind (askIsOver_c r xFuel (O + k + 1) (H - k - 1) m13 (by omega) (by omega) a1 (by rw [a3, z19]; omega) hC (by omega) (by omega) (by omega)) fun m14 q => ?_
      obtain ⟨ops', O', b1, b2, b3, b4, b5, b6, b7⟩ := q
      have g : EG m m14 := EG_tr (EG_tr g12 a2) b7
      unfold fX12_goesOn_250
      have o2 : opn [(2, ops')] = 0 := rfl
      have p2 : pnd [(2, ops')] = 0 := rfl
      have w2 : wsum [(2, ops')] = ops'.length := rfl
      exact vOk_some ⟨PF_N (EN_G g), Or.inr ⟨⟨[(2, ops')], s, O', H - k - 1, C, by rw [g.2 291 17 (by omega)]; exact hw, TK_G g t, b1, by rw [b2, o2]; rfl, by omega, by rw [g.2 291 14 (by omega)]; omega, Or.inr (Or.inr (Or.inr (Or.inl ⟨b6, ⟨ops', rfl, b3⟩, by omega, hc, by rw [g.2 306 C (by omega)]; exact cur⟩)))⟩, MU_w (fun j _ _ => g.2 291 j (by omega)) (Or.inr hst) (by rw [b6]; decide)⟩⟩
  have r116 : ∀ v : Int32, v.toInt = (f : Int) → vOk (ST m) (fX12_goesOn_116 291 v m) := by
    intro v hv
    unfold fX12_goesOn_116
    refine vNe (fun _ => r181 v hv) (fun g => ?_)
    refine vAl (x := m.1 291 15) rfl ?_
    refine vNe (fun _ => r181 v hv) (fun g2 => ?_)
    refine vAl (x := m.1 291 16) rfl ?_
    refine vBindP isAsking_c fun w _ hw' => ?_
    dsimp only
    refine vEq (fun _ => r181 v hv) (fun g3 => ?_)
    have ask := hw' g3
    have hf : f = 4 := by omega
    subst hf
    have hC : stC r := by
      rcases hN with q | q | q | q
      · exfalso; have := q.1; dsimp only at this; omega
      · exact q.2.2
      · exfalso; have := q.1; dsimp only at this; omega
      · exfalso; have := q.1; dsimp only at this; omega
    have LC := stC_len _ hC
    rw [if_neg (by omega)] at ov rv pv
    have ts := t'.2.1.resolve_left (by omega)
    unfold fX12_works
    refine vOk_bind (works_c (r := 3) rfl ops xFuel O H m (by omega) h hall (by omega) (by omega) (by omega) (by omega)) fun p7 q => ?_
    obtain ⟨k, k1, k2, k3, k4, k5⟩ := q
    have dn := AL_nil (AL_drop _ _ hnum.2) k3
    have kl := drop_nil dn
    rw [dn] at k2
    have k2' := k2
    obtain ⟨hl, ⟨h20, h23, h31, h27⟩, hss, hp, hvv⟩ := k2'
    rw [List.length_cons] at h20
    have w20 := wN h20
    refine vAl (x := p7.1 291 20) rfl ?_
    refine vAl (x := m.1 291 16) (k4.2 291 16 (by omega)).symm ?_
    refine vIn (by omega) (by omega) fun _ => ?_
    rw [w20]
    refine vR fun m10 e10 => ?_
    refine vAl (x := p7.1 291 20) (xP_plE e10 (by omega)) ?_
    refine vS (by omega) fun x13 e13 f13 => ?_
    refine vIn (by omega) (by omega) fun _ => ?_
    rw [wN (x := x13) (n := r.length) (by omega)]
    refine vR fun m14 e14 => ?_
    have i14 : Core m14 ((5, []) :: r) s (O + k) (H - k) C := by rw [e14, e10]; exact Core_lr k2 ask
    have g14 : EG m m14 := by rw [e14, e10]; exact EG_put (EG_put k4 (by omega)) (by omega)
    have z19 : m14.1 291 19 = m.1 291 19 := by rw [e14, ← xP_pl (by omega), e10, ← xP_pl (by omega), k5]
    refine vOk_bind (next_c i14 (TK_G g14 t)) fun m16 q => ?_
    obtain ⟨b1, b2, b3, b4⟩ := q
    refine vR fun m17 e17 => ?_
    unfold fX12_goesOn_250
    have o5 : opn ((5, []) :: r) = 0 + opn r := rfl
    have p5 : pnd ((5, []) :: r) = 1 + pnd r := rfl
    have w5 : wsum ((5, []) :: r) = 0 + wsum r := rfl
    have r5 : rgt ((5, []) :: r) = 1 + rgt r := rfl
    have B : BN m m17 ((5, []) :: r) s (O + k) (H - k) C := by
      rw [e17]
      refine BN_26 ⟨b1, b2, EN_tr (EN_G g14) (EN_N b4), ?_, ?_⟩
      · rw [b4.2 291 19 (by omega), z19]; omega
      · rw [g14.2 291 13 (by omega)] at b3
        exact b3
    have z26 : m17.1 291 26 = 1 := by rw [e17]; exact xP_eq.symm
    exact vOk_some (ST_BN B hw (by omega) t (by omega) (by omega) (Or.inr (Or.inl ⟨by rw [z26]; rfl, Or.inr (Or.inl ⟨Or.inr rfl, ⟨trivial, trivial⟩, hC⟩), by omega, hc, by rw [B.2.2.1.2 306 C (by omega)]; exact cur⟩)))
  have r65 : ∀ v : Int32, v.toInt = (f : Int) → vOk (ST m) (fX12_goesOn_65 291 v m) := by
    intro v hv
    unfold fX12_goesOn_65
    refine vNe (fun _ => r116 v hv) (fun g => ?_)
    refine vBindP isSign_c fun w _ hw' => ?_
    dsimp only
    refine vEq (fun _ => r116 v hv) (fun g3 => ?_)
    have hs := hw' g3
    have hf : f = 6 := by omega
    subst hf
    have hN' : stN r := by
      rcases hN with q | q | q | q
      · exfalso; have := q.1; dsimp only at this; omega
      · exfalso; have := q.1; dsimp only at this; omega
      · exact q.2.2
      · exfalso; have := q.1; dsimp only at this; omega
    rw [if_pos (by omega)] at ov
    rw [if_neg (by omega)] at rv pv
    have ts := t'.2.1.resolve_left (by omega)
    unfold fX12_works
    refine vOk_bind (works_c (r := 3) rfl ops xFuel O H m (by omega) h hall (by omega) (by omega) (by omega) (by omega)) fun p4 q => ?_
    obtain ⟨k, k1, k2, k3, k4, k5⟩ := q
    have dn := AL_nil (AL_drop _ _ hnum.2) k3
    have kl := drop_nil dn
    rw [dn] at k2
    have k2' := k2
    obtain ⟨hl, ⟨h20, h23, h31, h27⟩, hss, hp, hvv⟩ := k2'
    rw [List.length_cons] at h20
    refine vAl (x := p4.1 291 20) rfl ?_
    refine vS (by omega) fun x6 e6 f6 => ?_
    refine vR fun m7 e7 => ?_
    have i7 : Core m7 r s (O + k) (H - k) C := by rw [e7]; exact Core_pop k2 (by omega)
    refine vAl (x := m.1 291 19) (k5.symm.trans (xP_slE e7 (by omega))) ?_
    refine vS (by omega) fun x9 e9 f9 => ?_
    refine vR fun m10 e10 => ?_
    have i10 : Core m10 r s (O + k) (H - k) C := Core_x (fun b j w => by rw [e10]; exact (show (if b = 291 ∧ j = 19 then _ else m7.1 b j) = _ by rw [if_neg (by omega)])) i7
    have g10 : EG m m10 := by rw [e10, e7]; exact EG_put (EG_put k4 (by omega)) (by omega)
    have z19 : m10.1 291 19 = x9 := by rw [e10]; exact xP_eq.symm
    refine vOk_bind (next_c i10 (TK_G g10 t)) fun m11 q => ?_
    obtain ⟨b1, b2, b3, b4⟩ := q
    unfold fX12_oneIsOver
    refine vOk_bind (oneIsOver_c r xFuel (O + k) (H - k) m11 (by omega) (by omega) b1 (by rw [b4.2 291 19 (by omega), z19]; omega) hN' (by omega) (by omega) (by omega)) fun m12 q => ?_
    obtain ⟨lv', O', d1, d2, d3, d4, d5, d6, d7, d8, d9, d10⟩ := q
    unfold fX12_goesOn_250
    have en : EN m m12 := EN_tr (EN_tr (EN_G g10) (EN_N b4)) (EN_G d10)
    refine vOk_some (ST_BN ⟨d1, TK_G d10 b2, en, d2, ?_⟩ hw (by omega) t (by omega) (by omega) (Or.inr (Or.inr (Or.inl ⟨d9, d3, d4, by omega, hc, by rw [en.2 306 C (by omega)]; exact cur⟩))))
    rw [d10.2 291 14 (by omega)]
    rw [g10.2 291 13 (by omega)] at b3
    exact b3
  unfold fX12_goesOn fX12_goesOn_0
  refine vBindP (top_c h (by omega)) fun v _ hv => ?_
  dsimp only at hv ⊢
  refine vAl (x := m.1 291 15) rfl ?_
  refine vNe (fun _ => r65 v hv) (fun g => ?_)
  refine vAl (x := m.1 291 16) rfl ?_
  refine vEq (fun g2 => r49 43 (by omega) (by unfold isOp; omega) (by decide) (by decide) (by omega)) (fun _ => ?_)
  refine vAl (x := m.1 291 16) rfl ?_
  refine vEq (fun g2 => r49 45 (by omega) (by unfold isOp; omega) (by decide) (by decide) (by omega)) (fun _ => ?_)
  refine vAl (x := m.1 291 16) rfl ?_
  refine vEq (fun g2 => r49 42 (by omega) (by unfold isOp; omega) (by decide) (by decide) (by omega)) (fun _ => ?_)
  refine vAl (x := m.1 291 16) rfl ?_
  refine vNe (fun _ => r65 v hv) (fun g2 => r49 47 (by omega) (by unfold isOp; omega) (by decide) (by decide) (by omega))
theorem asksOn_c {m : xMem} {ops : List Nat} {O H : Nat} (hw : (m.1 291 17).toInt = 0) (t : TK m) (h : Core m [(2, ops)] s O H C) (h19 : (m.1 291 19).toInt = 0) (hb : ((O + ops.length : Nat) : Int) ≤ (m.1 291 14).toInt) (hO : cndO ops) (hH : H = ops.length + 1) (hc : C < 10) (cur : (m.1 306 C).toInt = (s : Int)) : vOk (ST m) (fX12_asksOn 291 m) := by
  have c0 : (0 : Int32).toInt = 0 := rfl
  have c406 : (406 : Int32).toInt = 406 := rfl
  have c407 : (407 : Int32).toInt = 407 := rfl
  have t' := t
  unfold TK at t'
  have len2 := cndO_len hO
  have hall := SO_all _ hO
  have w0 : wsum ([] : List (Nat × List Nat)) = 0 := rfl
  have er : vOk (ST m) (fX12_asksOn_69 291 m) := by
    unfold fX12_asksOn_69 fX12_asksOn_74
    refine vOk_bind (errs_c hw (by decide)) fun m2 q => ?_
    exact vOk_some q
  have r34 : ∀ (o : Nat) (x : Int32), x.toInt = (o : Int) → isOp o → rk o < 3 → (m.1 291 15).toInt = 1 → vOk (ST m) (fX12_asksOn_34 291 291 x m) := by
    intro o x ho io r3 hs
    have ts := t'.2.1.resolve_left (by omega)
    unfold fX12_asksOn_34 fX12_asksOn_74
    refine vOk_bind (waitsFor_c h t ho hall (by omega) (by omega) (by omega) (by omega)) fun m2 q => ?_
    obtain ⟨k, k1, k2, k3, k4, k5, k6, k7⟩ := q
    refine vR fun m3 e3 => ?_
    have B : BN m m3 [(2, o :: ops.drop k)] s (O + k) (H - k) C := by
      rw [e3]
      exact BN_26 ⟨k2, k4, k6, by rw [k7]; exact h19, k5⟩
    have z26 : m3.1 291 26 = 0 := by rw [e3]; exact xP_eq.symm
    have wn : wsum [(2, o :: ops.drop k)] = (ops.length - k) + 1 := by
      show (o :: ops.drop k).length + 0 = _
      rw [List.length_cons, List.length_drop]
    have pn : pnd [(2, o :: ops.drop k)] = 0 := rfl
    have on : opn [(2, o :: ops.drop k)] = 0 := rfl
    exact vOk_some (ST_BN B hw (by omega) t (by omega) (by omega) (Or.inl ⟨by rw [z26]; rfl, Or.inl ⟨rfl, SO_push (SO_drop _ _ hO) r3 io k3, rfl⟩, by omega, hc, by rw [B.2.2.1.2 306 C (by omega)]; exact cur⟩))
  have r16 : (m.1 291 15).toInt = 1 → vOk (ST m) (fX12_asksOn_16 291 m) := by
    intro hs
    unfold fX12_asksOn_16
    refine vBindP isWord_c fun v _ _ => ?_
    dsimp only
    refine vEq (fun _ => ?_) (fun _ => ?_)
    · exact r34 406 406 rfl (by unfold isOp; omega) (by decide) hs
    · exact r34 407 407 rfl (by unfold isOp; omega) (by decide) hs
  unfold fX12_asksOn fX12_asksOn_0
  refine vBindP isWord_c fun v _ hv => ?_
  dsimp only
  refine vNe (fun g => r16 (hv g)) (fun _ => ?_)
  refine vBindP isWord_c fun v2 _ hv2 => ?_
  dsimp only
  refine vEq (fun _ => ?_) (fun g => r16 (hv2 g))
  refine vBindP (top_c h (by decide)) fun v3 _ _ => ?_
  dsimp only
  refine vNe (fun _ => er) (fun _ => ?_)
  refine vBindP isSign_c fun v4 _ hv4 => ?_
  dsimp only
  refine vEq (fun _ => er) (fun g => ?_)
  have hs := hv4 g
  unfold fX12_asksOn_74
  refine vOk_bind (clauseIsOver_c hw t (by omega) h hall len2 hH h19 hb hc cur) fun m5 q => ?_
  exact vOk_some q
theorem wasWalk_c {m : xMem} (h27 : (m.1 291 27).toInt = (C : Int)) (hc : C ≤ 10) : ∀ (fuel : Nat) (l1 l2 : Int32), (0 ≤ l1.toInt ∧ l1.toInt ≤ 1) → (0 ≤ l2.toInt ∧ l2.toInt ≤ 10) → 2147483648 - l2.toInt < (fuel : Int) → vOk (PP m (fun _ : Int32 => True)) (fX12_wasWalk_4 291 fuel l1 l2 m) := by
  have c0 : (0 : Int32).toInt = 0 := rfl
  have c1 : (1 : Int32).toInt = 1 := rfl
  intro fuel
  induction fuel with
  | zero =>
    intro l1 l2 h1 h2 hmu
    exfalso; omega
  | succ fuel ih =>
    intro l1 l2 h1 h2 hmu
    have r30 : l2.toInt < 10 → ∀ s0 : Int32, (0 ≤ s0.toInt ∧ s0.toInt ≤ 1) → vOk (PP m (fun _ : Int32 => True)) (fX12_wasWalk_30 291 (fX12_wasWalk_4 291 fuel) l2 s0 m) := by
      intro hl s0 hs0
      unfold fX12_wasWalk_30
      refine vA (by omega) fun x e f => ?_
      exact ih s0 x hs0 (by omega) (by omega)
    rw [fX12_wasWalk_4]
    refine vAl (x := m.1 291 27) rfl ?_
    refine vLe (fun g => ?_) (fun g => ?_)
    · refine vB h1 ?_
      exact rP True.intro
    · refine vNe (fun _ => ?_) (fun _ => ?_)
      · unfold fX12_wasWalk_25
        exact r30 (by omega) _ (by decide)
      · refine vIn (by omega) (by omega) fun _ => ?_
        refine vAny fun x5 => ?_
        refine vNe (fun _ => ?_) (fun _ => ?_)
        · exact r30 (by omega) _ (by decide)
        · unfold fX12_wasWalk_25
          exact r30 (by omega) _ (by decide)
theorem clause_c {m : xMem} {O : Nat} (hw : (m.1 291 17).toInt = 0) (t : TK m) (h : Core m [] O O 0 C) (h19 : (m.1 291 19).toInt = 0) (hb : (O : Int) ≤ (m.1 291 14).toInt) (hc : C ≤ 10) : vOk (ST m) (fX12_clause 291 m) := by
  have c0 : (0 : Int32).toInt = 0 := rfl
  have c1 : (1 : Int32).toInt = 1 := rfl
  have c2 : (2 : Int32).toInt = 2 := rfl
  have c10 : (10 : Int32).toInt = 10 := rfl
  have t' := t
  unfold TK at t'
  have cF := xFu
  have er : vOk (ST m) (fX12_clause_16 291 m) := by
    unfold fX12_clause_16
    refine vOk_bind (errs_c hw (by decide)) fun m2 q => ?_
    exact vOk_some q
  unfold fX12_clause fX12_clause_0
  refine vAl (x := m.1 291 15) rfl ?_
  refine vNe (fun _ => er) (fun g => ?_)
  refine vAl (x := m.1 291 16) rfl ?_
  refine vLe (fun g2 => ?_) (fun _ => er)
  have ts := t'.2.1.resolve_left (by omega)
  refine vAl (x := m.1 291 16) rfl ?_
  refine vR fun m6 e6 => ?_
  have f6 : ∀ b j, ¬ (b = 291 ∧ j = 28) → m6.1 b j = m.1 b j := fun b j w => by
    rw [e6]
    show (if b = 291 ∧ j = 28 then _ else m.1 b j) = _
    rw [if_neg w]
  have z28 : m6.1 291 28 = m.1 291 16 := by rw [e6]; exact xP_eq.symm
  have p6 : PF m m6 := by rw [e6]; exact PF_put PF_refl (by omega)
  have i6 : Core m6 [] O O 0 C := Core_x (fun b j w => f6 b j (by omega)) h
  have t6 : TK m6 := TK_cong (fun j _ _ => f6 291 j (by omega)) t
  have w6 : (m6.1 291 17).toInt = 0 := by rw [f6 291 17 (by omega)]; exact hw
  have h27 := i6.2.1.2.2.2
  have bad67 : ∀ m' : xMem, ST m6 m' → 0 < (m'.1 291 17).toInt → vOk (ST m) (fX12_clause_67 291 m') := by
    intro m' q q2
    unfold fX12_clause_67
    refine vAl (x := m'.1 291 17) rfl ?_
    refine vLe (fun g => by exfalso; omega) (fun _ => ?_)
    exact vOk_some ⟨PF_tr p6 q.1, Or.inl q2⟩
  have err67 : ∀ a : Int32, 0 < a.toInt → vOk (fun m' => ST m6 m' ∧ 0 < (m'.1 291 17).toInt) (fX12_errs 291 a m6) := by
    intro a ha
    unfold fX12_errs fX12_errs_0
    refine vAl (x := m6.1 291 17) rfl ?_
    refine vNe (fun g => by exfalso; omega) (fun _ => ?_)
    refine vR fun m3 e3 => ?_
    refine vR fun x4 e4 => ?_
    refine vR fun m5 e5 => ?_
    unfold fX12_errs_20
    have z : m5.1 291 17 = a := by rw [e5, e3]; exact (xP_eq.trans (xP_sl (by omega))).symm
    have z' : 0 < (m5.1 291 17).toInt := by rw [z]; exact ha
    exact vOk_some ⟨⟨by rw [e5, e3]; exact PF_put (PF_put PF_refl (by omega)) (by omega), Or.inl z'⟩, z'⟩
  have good67 : C < 10 → vOk (ST m) (fX12_clause_67 291 m6) := by
    intro hlt
    have w27 := wN h27
    unfold fX12_clause_67
    refine vAl (x := m6.1 291 17) rfl ?_
    refine vLe (fun _ => ?_) (fun g => by exfalso; omega)
    refine vAl (x := m6.1 291 27) rfl ?_
    refine vAl (x := m.1 291 16) z28.symm ?_
    refine vIn (by omega) (by omega) fun _ => ?_
    rw [w27]
    refine vR fun m5 e5 => ?_
    have f5 : ∀ b j, ¬ (b = 305) → m5.1 b j = m6.1 b j := fun b j w => by
      rw [e5]
      show (if b = 291 + 14 ∧ j = C then _ else m6.1 b j) = _
      rw [if_neg (by omega)]
    refine vAl (x := m6.1 291 27) (f5 291 27 (by omega)).symm ?_
    refine vAl (x := m6.1 291 31) (f5 291 31 (by omega)).symm ?_
    refine vIn (by omega) (by omega) fun _ => ?_
    rw [w27]
    refine vR fun m9 e9 => ?_
    have f9 : ∀ b j, ¬ (b = 306 ∧ j = C) → m9.1 b j = m5.1 b j := fun b j w => by
      rw [e9]
      show (if b = 291 + 15 ∧ j = C then _ else m5.1 b j) = _
      rw [if_neg (by omega)]
    have fr : ∀ b j, ¬ (b = 305 ∨ (b = 306 ∧ j = C)) → m9.1 b j = m6.1 b j := fun b j w => by
      rw [f9 b j (by omega), f5 b j (by omega)]
    have cur9 : (m9.1 306 C).toInt = (O : Int) := by
      have z : m9.1 306 C = m6.1 291 31 := by rw [e9]; exact xP_eq.symm
      rw [z]; exact i6.2.1.2.2.1
    have i9 : Core m9 [] O O 0 C := by
      obtain ⟨hl, ⟨q20, q23, q31, q27⟩, hss, hp, hv⟩ := i6
      have r7 : m9.1 307 = m6.1 307 := funext fun j => fr 307 j (by omega)
      have r8 : m9.1 308 = m6.1 308 := funext fun j => fr 308 j (by omega)
      refine ⟨trivial, ⟨by rw [fr 291 20 (by omega)]; exact q20, by rw [fr 291 23 (by omega)]; exact q23, by rw [fr 291 31 (by omega)]; exact q31, by rw [fr 291 27 (by omega)]; exact q27⟩, hss, PRE_0, fun c hcc => ?_⟩
      rw [r7, r8, fr 306 c (by omega)]
      exact hv c hcc
    have t9 : TK m9 := TK_cong (fun j _ _ => fr 291 j (by omega)) t6
    have pf9 : PF m m9 := by
      refine PF_tr p6 ?_
      rw [e9, e5]
      exact PF_put (PF_put PF_refl (by omega)) (by omega)
    refine vOk_bind (next_c i9 t9) fun m11 q => ?_
    obtain ⟨b1, b2, b3, b4⟩ := q
    have z12 : m11.1 291 28 = m.1 291 16 := by rw [b4.2 291 28 (by omega), fr 291 28 (by omega)]; exact z28
    have at9 : m9.1 291 13 = m.1 291 13 := by rw [fr 291 13 (by omega), f6 291 13 (by omega)]
    rw [at9] at b3
    have s118 : ∀ (f : Nat) (x : Int32), x.toInt = (f : Int) → ((f = 2 ∧ ¬ (m.1 291 16).toInt = 0) ∨ (f = 1 ∧ (m.1 291 16).toInt = 0)) → vOk (ST m) (fX12_clause_118 291 291 x m11) := by
      intro f x hx hf
      unfold fX12_clause_118
      refine vOk_bind (opensFrame_c (f := f) b1 (by decide) hx (by omega)) fun m1 q => ?_
      obtain ⟨a1, a2, a3, a4⟩ := q
      have p1 : PF m m1 := PF_tr (PF_tr pf9 (PF_N (EN_N b4))) (PF_N (EN_G a2))
      have k1 : ∀ j, j = 12 ∨ j = 17 ∨ j = 19 → m1.1 291 j = m.1 291 j := fun j hj => by
        by_cases q : j = 19
        · rw [q, a3, b4.2 291 19 (by omega), fr 291 19 (by omega), f6 291 19 (by omega)]
        · rw [a2.2 291 j (by omega), b4.2 291 j (by omega), fr 291 j (by omega), f6 291 j (by omega)]
      have c1' : (m1.1 306 C).toInt = (O : Int) := by rw [a2.2 306 C (by omega), b4.2 306 C (by omega)]; exact cur9
      have o1 : opn [(f, ([] : List Nat))] = 0 := by
        show (if f = 3 ∨ f = 6 ∨ f = 7 then 1 else 0) + 0 = 0
        rw [if_neg (by omega)]
      have p1' : pnd [(f, ([] : List Nat))] = 0 := by
        show (if f = 3 ∨ f = 5 ∨ f = 7 then 1 else 0) + 0 = 0
        rw [if_neg (by omega)]
      have g1 : rgt [(f, ([] : List Nat))] = 0 := by
        show (if f = 5 then 1 else 0) + 0 = 0
        rw [if_neg (by omega)]
      have w1 : wsum [(f, ([] : List Nat))] = 0 := rfl
      have fin : ∀ v : Int32, ((v.toInt = 0 ∧ f = 2) ∨ (v.toInt = 1 ∧ f = 1)) → vOk (ST m) (fX12_clause_134 291 291 v m1) := by
        intro v hv
        unfold fX12_clause_134
        refine vR fun m2 e2 => ?_
        have f2 : ∀ b j, ¬ (b = 291 ∧ j = 26) → m2.1 b j = m1.1 b j := fun b j w => by
          rw [e2]
          show (if b = 291 ∧ j = 26 then _ else m1.1 b j) = _
          rw [if_neg w]
        have z26 : m2.1 291 26 = v := by rw [e2]; exact xP_eq.symm
        have t2 : TK m2 := TK_cong (fun j _ _ => f2 291 j (by omega)) (TK_G a2 b2)
        have i2 : Core m2 [(f, [])] O O 0 C := Core_x (fun b j w => f2 b j (by omega)) a1
        have b14 : (m.1 291 13).toInt ≤ (m2.1 291 14).toInt := by rw [f2 291 14 (by omega), a2.2 291 14 (by omega)]; exact b3
        refine vOk_some ⟨by rw [e2]; exact PF_put p1 (by omega), Or.inr ⟨⟨[(f, [])], O, O, 0, C, by rw [f2 291 17 (by omega), k1 17 (by omega)]; exact hw, t2, i2, by rw [f2 291 19 (by omega), k1 19 (by omega), o1]; exact h19, by omega, by omega, ?_⟩, MU_next (by rw [f2 291 12 (by omega), k1 12 (by omega)]) (by omega) t2 b14⟩⟩
        have cu : (m2.1 306 C).toInt = (O : Int) := by rw [f2 306 C (by omega)]; exact c1'
        rcases hv with ⟨q1, rfl⟩ | ⟨q1, rfl⟩
        · exact Or.inl ⟨by rw [z26]; exact q1, Or.inl ⟨rfl, trivial, rfl⟩, rfl, hlt, cu⟩
        · exact Or.inr (Or.inl ⟨by rw [z26]; exact q1, Or.inl ⟨rfl, ⟨trivial, trivial⟩, rfl⟩, rfl, hlt, cu⟩)
      refine vAl (x := m.1 291 16) (by rw [a2.2 291 28 (by omega), z12]) ?_
      refine vNe (fun q => ?_) (fun q => ?_)
      · exact fin 0 (Or.inl ⟨rfl, by omega⟩)
      · exact fin 1 (Or.inr ⟨rfl, by omega⟩)
    refine vAl (x := m.1 291 16) z12.symm ?_
    refine vNe (fun q => ?_) (fun q => ?_)
    · exact s118 2 2 rfl (Or.inl ⟨rfl, q⟩)
    · exact s118 1 1 rfl (Or.inr ⟨rfl, q⟩)
  have r52 : vOk (ST m) (fX12_clause_52 291 m6) := by
    unfold fX12_clause_52
    refine vAl (x := m6.1 291 27) rfl ?_
    refine vNe (fun q => good67 (by omega)) (fun _ => ?_)
    refine vOk_bind (err67 6 (by decide)) fun m' q => ?_
    exact bad67 m' q.1 q.2
  refine vAl (x := m.1 291 16) z28.symm ?_
  refine vNe (fun _ => r52) (fun _ => ?_)
  unfold fX12_wasWalk fX12_wasWalk_0
  refine vBindP (wasWalk_c h27 hc xFuel 0 0 (by decide) (by decide) (by omega)) fun v _ _ => ?_
  dsimp only
  refine vEq (fun _ => r52) (fun _ => ?_)
  refine vOk_bind (err67 4 (by decide)) fun m' q => ?_
  exact bad67 m' q.1 q.2
end
