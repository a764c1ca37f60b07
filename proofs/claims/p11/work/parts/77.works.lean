/-! the reference's parser: works, waitsFor, oneIsOver, askIsOver -/
def Core (m : xMem) (lv : List (Nat × List Nat)) (s O H C : Nat) : Prop :=
  LV (m.1 301) (m.1 302) (m.1 303) (m.1 304) lv ∧ ((m.1 291 20).toInt = (lv.length : Int) ∧ (m.1 291 23).toInt = (wsum lv : Int) ∧ (m.1 291 31).toInt = (O : Int) ∧ (m.1 291 27).toInt = (C : Int)) ∧ s ≤ O ∧ PRE (m.1 307) (m.1 308) s O H ∧ (∀ c : Nat, c < C → ∃ s' : Nat, (m.1 306 c).toInt = (s' : Int) ∧ s' ≤ O ∧ VAL (m.1 307) (m.1 308) O s')
def EG (m m1 : xMem) : Prop := m1.2 = m.2 ∧ ∀ b j, ¬ ((b = 291 ∧ (j = 19 ∨ j = 20 ∨ j = 23 ∨ j = 26 ∨ j = 31)) ∨ (301 ≤ b ∧ b ≤ 304) ∨ b = 307 ∨ b = 308) → m1.1 b j = m.1 b j
def EN (m m1 : xMem) : Prop := m1.2 = m.2 ∧ ∀ b j, ¬ ((b = 291 ∧ ((13 ≤ j ∧ j ≤ 16) ∨ j = 19 ∨ j = 20 ∨ j = 23 ∨ j = 26 ∨ j = 31)) ∨ (301 ≤ b ∧ b ≤ 304) ∨ b = 307 ∨ b = 308) → m1.1 b j = m.1 b j
theorem EG_refl {m : xMem} : EG m m := ⟨rfl, fun _ _ _ => rfl⟩
theorem EN_refl {m : xMem} : EN m m := ⟨rfl, fun _ _ _ => rfl⟩
theorem EG_tr {a b c : xMem} (h1 : EG a b) (h2 : EG b c) : EG a c := ⟨h2.1.trans h1.1, fun x j q => (h2.2 x j q).trans (h1.2 x j q)⟩
theorem EN_tr {a b c : xMem} (h1 : EN a b) (h2 : EN b c) : EN a c := ⟨h2.1.trans h1.1, fun x j q => (h2.2 x j q).trans (h1.2 x j q)⟩
theorem EN_G {a b : xMem} (h : EG a b) : EN a b := ⟨h.1, fun x j q => h.2 x j (by omega)⟩
theorem EN_N {a b : xMem} (h : NF a b) : EN a b := ⟨h.1, fun x j q => h.2 x j (by omega)⟩
theorem EG_put {m0 m : xMem} {b j : Nat} {v : Int32} (h : EG m0 m) (hb : (b = 291 ∧ (j = 19 ∨ j = 20 ∨ j = 23 ∨ j = 26 ∨ j = 31)) ∨ (301 ≤ b ∧ b ≤ 304) ∨ b = 307 ∨ b = 308) : EG m0 (xPut m b j v) := by
  refine ⟨h.1, fun c i q => ?_⟩
  show (if c = b ∧ i = j then v else m.1 c i) = _
  rw [if_neg (by omega)]
  exact h.2 c i q
theorem TK_cong {m m1 : xMem} (e : ∀ j, 12 ≤ j → j ≤ 16 → m1.1 291 j = m.1 291 j) (h : TK m) : TK m1 := by
  unfold TK at h ⊢
  rw [e 12 (by omega) (by omega), e 13 (by omega) (by omega), e 14 (by omega) (by omega), e 15 (by omega) (by omega), e 16 (by omega) (by omega)]
  exact h
theorem TK_G {m m1 : xMem} (e : EG m m1) (h : TK m) : TK m1 := TK_cong (fun j _ _ => e.2 291 j (by omega)) h
theorem Core_x {m m1 : xMem} {lv : List (Nat × List Nat)} {s O H C : Nat} (e : ∀ b j, ¬ ((b = 291 ∧ ¬ (j = 20 ∨ j = 23 ∨ j = 27 ∨ j = 31)) ∨ b < 291 ∨ (292 ≤ b ∧ b ≤ 300) ∨ b = 305 ∨ 309 ≤ b) → m1.1 b j = m.1 b j) (h : Core m lv s O H C) : Core m1 lv s O H C := by
  have e1 : m1.1 301 = m.1 301 := funext fun j => e 301 j (by omega)
  have e2 : m1.1 302 = m.1 302 := funext fun j => e 302 j (by omega)
  have e3 : m1.1 303 = m.1 303 := funext fun j => e 303 j (by omega)
  have e4 : m1.1 304 = m.1 304 := funext fun j => e 304 j (by omega)
  have e6 : m1.1 306 = m.1 306 := funext fun j => e 306 j (by omega)
  have e7 : m1.1 307 = m.1 307 := funext fun j => e 307 j (by omega)
  have e8 : m1.1 308 = m.1 308 := funext fun j => e 308 j (by omega)
  unfold Core at h ⊢
  rw [e1, e2, e3, e4, e6, e7, e8, e 291 20 (by omega), e 291 23 (by omega), e 291 27 (by omega), e 291 31 (by omega)]
  exact h
theorem wN {x : Int32} {n : Nat} (h : x.toInt = (n : Int)) : x.toNatClampNeg = n := clN h
section
variable {s C : Nat}
theorem next_c {m : xMem} {lv : List (Nat × List Nat)} {O H : Nat} (h : Core m lv s O H C) (t : TK m) : vOk (fun m1 => Core m1 lv s O H C ∧ TK m1 ∧ (m.1 291 13).toInt ≤ (m1.1 291 14).toInt ∧ NF m m1) (fX12_next 291 m) := by
  have t' := t
  unfold TK at t'
  refine vOk_mono (next_r ⟨by omega, by omega, by omega⟩) fun m1 q => ?_
  exact ⟨Core_x (fun b j w => q.1.2 b j (by omega)) h, q.2.1, q.2.2, q.1⟩
theorem emits_c {m : xMem} {lv : List (Nat × List Nat)} {O H H' : Nat} {a b : Int32} (h : Core m lv s O H C) (hO : O < 400) (st : stepOK a b H H') : vOk (fun m1 => Core m1 lv s (O + 1) H' C ∧ EG m m1 ∧ m1.1 291 19 = m.1 291 19 ∧ m1.1 291 26 = m.1 291 26) (fX12_emits 291 a b m) := by
  obtain ⟨hl, ⟨h20, h23, h31, h27⟩, hs, hp, hv⟩ := h
  have c1 : (1 : Int32).toInt = 1 := rfl
  have w31 := wN h31
  unfold fX12_emits fX12_emits_0
  refine vAl (x := m.1 291 31) rfl ?_
  refine vIn (by omega) (by omega) fun _ => ?_
  rw [w31]
  refine vR fun m2 e2 => ?_
  refine vAl (x := m.1 291 31) (xP_plE e2 (by omega)) ?_
  refine vIn (by omega) (by omega) fun _ => ?_
  rw [w31]
  refine vR fun m5 e5 => ?_
  refine vAl (x := m.1 291 31) ((xP_plE e2 (by omega)).trans (xP_plE e5 (by omega))) ?_
  refine vA (by omega) fun x8 e8 f8 => ?_
  refine vR fun m9 e9 => ?_
  have fr : ∀ c i, ¬ ((c = 291 ∧ i = 31) ∨ c = 307 ∨ c = 308) → m9.1 c i = m.1 c i := fun c i q => by
    rw [e9, e5, e2]
    show (if c = 291 ∧ i = 31 then _ else if c = 291 + 17 ∧ i = O then _ else if c = 291 + 16 ∧ i = O then _ else m.1 c i) = _
    rw [if_neg (by omega), if_neg (by omega), if_neg (by omega)]
  have q7 : m9.1 307 O = a := by
    rw [e9, ← xP_pl (by omega), e5, ← xP_pl (by omega), e2]
    exact xP_eq.symm
  have q8 : m9.1 308 O = b := by
    rw [e9, ← xP_pl (by omega), e5]
    exact xP_eq.symm
  have qk : ∀ k, k < O → m9.1 307 k = m.1 307 k ∧ m9.1 308 k = m.1 308 k := fun k hk => by
    refine ⟨?_, ?_⟩
    · rw [e9, ← xP_pl (by omega), e5, ← xP_pl (by omega), e2, ← xP_sl (by omega)]
    · rw [e9, ← xP_pl (by omega), e5, ← xP_sl (by omega), e2, ← xP_pl (by omega)]
  have z31 : m9.1 291 31 = x8 := by rw [e9]; exact xP_eq.symm
  have e1 : m9.1 301 = m.1 301 := funext fun j => fr 301 j (by omega)
  have e22 : m9.1 302 = m.1 302 := funext fun j => fr 302 j (by omega)
  have e3 : m9.1 303 = m.1 303 := funext fun j => fr 303 j (by omega)
  have e4 : m9.1 304 = m.1 304 := funext fun j => fr 304 j (by omega)
  refine vOk_some ⟨⟨by rw [e1, e22, e3, e4]; exact hl, ⟨by rw [fr 291 20 (by omega)]; exact h20, by rw [fr 291 23 (by omega)]; exact h23, by rw [z31]; omega, by rw [fr 291 27 (by omega)]; exact h27⟩, by omega, ?_, fun c hc => ?_⟩, ⟨by rw [e9, e5, e2]; rfl, fun c i q => fr c i (by omega)⟩, fr 291 19 (by omega), fr 291 26 (by omega)⟩
  · exact PRE_ext (PRE_cong qk hp) hs hO (by rw [q7, q8]; exact st)
  · obtain ⟨s', a1, a2, a3⟩ := hv c hc
    exact ⟨s', by rw [fr 306 c (by omega)]; exact a1, by omega, VAL_cong (by omega) qk a3⟩
theorem top_c {m : xMem} {p : Nat × List Nat} {r : List (Nat × List Nat)} {O H : Nat} (h : Core m (p :: r) s O H C) (hr : r.length < 40) : vOk (PP m (fun x : Int32 => x.toInt = (p.1 : Int))) (fX12_top 291 m) := by
  obtain ⟨hl, ⟨h20, h23, h31, h27⟩, hs, hp, hv⟩ := h
  have c1 : (1 : Int32).toInt = 1 := rfl
  rw [List.length_cons] at h20
  unfold fX12_top fX12_top_0
  refine vAl (x := m.1 291 20) rfl ?_
  refine vS (by omega) fun x2 e2 f2 => ?_
  have w2 : x2.toNatClampNeg = r.length := wN (by omega)
  refine vIn (by omega) (by omega) fun _ => ?_
  refine vR fun x3 e3 => ?_
  refine rP ?_
  rw [e3, w2]
  exact hl.1
theorem rank_c {x : Int32} {m : xMem} {o : Nat} (h : x.toInt = (o : Int)) : vOk (PP m (fun v : Int32 => v.toInt = (rk o : Int))) (fX12_rank x m) := by
  have c407 : (407 : Int32).toInt = 407 := rfl
  have c406 : (406 : Int32).toInt = 406 := rfl
  have c43 : (43 : Int32).toInt = 43 := rfl
  have c45 : (45 : Int32).toInt = 45 := rfl
  unfold fX12_rank fX12_rank_0
  refine vNe (fun g1 => ?_) (fun g1 => ?_)
  · refine vNe (fun g2 => ?_) (fun g2 => ?_)
    · refine vEq (fun g3 => ?_) (fun g3 => ?_)
      · unfold fX12_rank_34 fX12_rank_39
        refine rP ?_
        unfold rk
        rw [if_neg (by omega), if_neg (by omega), if_pos (by omega)]
        rfl
      · refine vNe (fun g4 => ?_) (fun g4 => ?_)
        · unfold fX12_rank_39
          refine rP ?_
          unfold rk
          rw [if_neg (by omega), if_neg (by omega), if_neg (by omega)]
          rfl
        · unfold fX12_rank_34 fX12_rank_39
          refine rP ?_
          unfold rk
          rw [if_neg (by omega), if_neg (by omega), if_pos (by omega)]
          rfl
    · unfold fX12_rank_39
      refine rP ?_
      unfold rk
      rw [if_neg (by omega), if_pos (by omega)]
      rfl
  · unfold fX12_rank_39
    refine rP ?_
    unfold rk
    rw [if_pos (by omega)]
    rfl
theorem Core_w {m : xMem} {f o : Nat} {os : List Nat} {rest : List (Nat × List Nat)} {O H : Nat} {x : Int32} (h : Core m ((f, o :: os) :: rest) s O H C) (hx : x.toInt = ((wsum rest + os.length : Nat) : Int)) : Core (xPut m 291 23 x) ((f, os) :: rest) s O H C := by
  obtain ⟨hl, ⟨h20, h23, h31, h27⟩, hs, hp, hv⟩ := h
  refine ⟨⟨hl.1, hl.2.1.2, hl.2.2.1, hl.2.2.2⟩, ⟨h20, ?_, h31, h27⟩, hs, hp, hv⟩
  have z : (xPut m 291 23 x).1 291 23 = x := xP_eq.symm
  rw [z, hx]
  show _ = ((os.length + wsum rest : Nat) : Int)
  rw [Nat.add_comm]
theorem Core_pop {m : xMem} {f : Nat} {r : List (Nat × List Nat)} {O H : Nat} {x : Int32} (h : Core m ((f, []) :: r) s O H C) (hx : x.toInt = (r.length : Int)) : Core (xPut m 291 20 x) r s O H C := by
  obtain ⟨hl, ⟨h20, h23, h31, h27⟩, hs, hp, hv⟩ := h
  have w : wsum ((f, []) :: r) = wsum r := Nat.zero_add _
  rw [w] at h23
  have z : (xPut m 291 20 x).1 291 20 = x := xP_eq.symm
  exact ⟨hl.2.2.2, ⟨by rw [z]; exact hx, h23, h31, h27⟩, hs, hp, hv⟩
theorem works_c {a1 : Int32} {r f : Nat} {rest : List (Nat × List Nat)} (ha : a1.toInt = (r : Int)) : ∀ (ops : List Nat) (fuel O H : Nat) (m : xMem), ops.length < fuel → Core m ((f, ops) :: rest) s O H C → allOp ops → O + ops.length ≤ 399 → ops.length + 1 ≤ H → H ≤ 200 → wsum rest + ops.length ≤ 79 → vOk (fun m1 => ∃ k, k ≤ ops.length ∧ Core m1 ((f, ops.drop k) :: rest) s (O + k) (H - k) C ∧ headLt r (ops.drop k) ∧ EG m m1 ∧ m1.1 291 19 = m.1 291 19) (fX12_works_0 291 a1 fuel m) := by
  have c0 : (0 : Int32).toInt = 0 := rfl
  have c1 : (1 : Int32).toInt = 1 := rfl
  intro ops
  induction ops with
  | nil =>
    intro fuel O H m hf h ho h1 h2 h3 h4
    obtain ⟨n, rfl⟩ : ∃ n, fuel = n + 1 := ⟨fuel - 1, by rw [List.length_nil] at hf; omega⟩
    have h' := h
    obtain ⟨hl, ⟨h20, h23, h31, h27⟩, hs, hp, hv⟩ := h'
    rw [List.length_cons] at h20
    have w : wsum ((f, []) :: rest) = wsum rest := Nat.zero_add _
    rw [w] at h23
    rw [List.length_nil] at h4
    have ex : vOk (fun m1 => ∃ k, k ≤ ([] : List Nat).length ∧ Core m1 ((f, ([] : List Nat).drop k) :: rest) s (O + k) (H - k) C ∧ headLt r (([] : List Nat).drop k) ∧ EG m m1 ∧ m1.1 291 19 = m.1 291 19) (fX12_works_70 291 a1 m) :=
      vOk_some ⟨0, Nat.le_refl _, h, trivial, EG_refl, rfl⟩
    rw [fX12_works_0]
    refine vAl (x := m.1 291 23) rfl ?_
    refine vLe (fun _ => ex) (fun g => ?_)
    refine vAl (x := m.1 291 23) rfl ?_
    refine vS (by omega) fun x4 e4 f4 => ?_
    refine vIn (by omega) (by omega) fun _ => ?_
    refine vR fun x5 e5 => ?_
    refine vAl (x := m.1 291 20) rfl ?_
    refine vNe (fun _ => ex) (fun g2 => ?_)
    exfalso
    have q := LV_top rest hl.2.2.2 (by omega)
    rw [wN (x := x4) (n := wsum rest - 1) (by omega)] at e5
    rw [e5] at g2
    have g3 : (m.1 304 (wsum rest - 1)).toInt = (m.1 291 20).toInt := g2
    omega
  | cons o os ih =>
    intro fuel O H m hf h ho h1 h2 h3 h4
    obtain ⟨n, rfl⟩ : ∃ n, fuel = n + 1 := ⟨fuel - 1, by rw [List.length_cons] at hf; omega⟩
    have h' := h
    obtain ⟨hl, ⟨h20, h23, h31, h27⟩, hs, hp, hv⟩ := h'
    rw [List.length_cons] at h20 h1 h2 h4 hf
    have w : wsum ((f, o :: os) :: rest) = os.length + 1 + wsum rest := rfl
    rw [w] at h23
    have g3o : (m.1 303 (wsum rest + os.length)).toInt = (o : Int) := hl.2.1.1.1
    have g4o : (m.1 304 (wsum rest + os.length)).toInt = ((rest.length + 1 : Nat) : Int) := hl.2.1.1.2
    rw [fX12_works_0]
    refine vAl (x := m.1 291 23) rfl ?_
    refine vLe (fun g => by exfalso; omega) (fun g => ?_)
    refine vAl (x := m.1 291 23) rfl ?_
    refine vS (by omega) fun x4 e4 f4 => ?_
    have w4 : x4.toNatClampNeg = wsum rest + os.length := wN (by omega)
    refine vIn (by omega) (by omega) fun _ => ?_
    rw [w4]
    refine vR fun x5 e5 => ?_
    refine vAl (x := m.1 291 20) rfl ?_
    refine vNe (fun g2 => ?_) (fun _ => ?_)
    · exfalso
      rw [e5] at g2
      exact g2 (by rw [h20]; exact g4o)
    refine vAl (x := m.1 291 23) rfl ?_
    refine vAl (x := x4) e4 ?_
    refine vIn (by omega) (by omega) fun _ => ?_
    rw [w4]
    refine vR fun x11 e11 => ?_
    have f11 : x11.toInt = (o : Int) := by rw [e11]; exact g3o
    refine vBindP (rank_c f11) fun v _ hv' => ?_
    dsimp only
    refine vLt (fun g2 => ?_) (fun g2 => ?_)
    · exact vOk_some ⟨0, Nat.zero_le _, h, show rk o < r by omega, EG_refl, rfl⟩
    · refine vAl (x := m.1 291 23) rfl ?_
      refine vAl (x := x4) e4 ?_
      refine vR fun m17 e17 => ?_
      have h17 : Core m17 ((f, os) :: rest) s O H C := by rw [e17]; exact Core_w h (by omega)
      refine vAl (x := x4) (by rw [e17]; exact xP_eq) ?_
      refine vIn (by omega) (by omega) fun _ => ?_
      rw [w4]
      refine vAl (x := x11) (by rw [e11, e17]; exact xP_pl (by omega)) ?_
      have so : stepOK x11 0 H (H - 1) := by
        have q := ho.1
        unfold isOp at q
        exact ⟨by omega, Or.inr (Or.inr (Or.inr ⟨by omega, by omega, h3, rfl⟩))⟩
      refine vOk_bind (emits_c h17 (by omega) so) fun m21 q => ?_
      obtain ⟨q1, q2, q3, _⟩ := q
      refine vOk_mono (ih n (O + 1) (H - 1) m21 (by omega) q1 ho.2 (by omega) (by omega) (by omega) (by omega)) fun m1 w1 => ?_
      obtain ⟨k, k1, k2, k3, k4, k5⟩ := w1
      refine ⟨k + 1, by rw [List.length_cons]; omega, ?_, k3, EG_tr (EG_tr (by rw [e17]; exact EG_put EG_refl (by omega)) q2) k4, k5.trans (q3.trans (by rw [e17]; exact (xP_sl (by omega)).symm))⟩
      rw [show O + (k + 1) = O + 1 + k by omega, show H - (k + 1) = H - 1 - k by omega]
      exact k2
theorem Core_push {m : xMem} {f o : Nat} {ops : List Nat} {rest : List (Nat × List Nat)} {O H : Nat} {x y z : Int32} (h : Core m ((f, ops) :: rest) s O H C) (hx : x.toInt = (o : Int)) (hy : y.toInt = ((rest.length + 1 : Nat) : Int)) (hz : z.toInt = ((ops.length + wsum rest + 1 : Nat) : Int)) : Core (xPut (xPut (xPut m 303 (ops.length + wsum rest) x) 304 (ops.length + wsum rest) y) 291 23 z) ((f, o :: ops) :: rest) s O H C := by
  obtain ⟨hl, ⟨h20, h23, h31, h27⟩, hs, hp, hv⟩ := h
  have e3 : ∀ j, j ≠ ops.length + wsum rest → (xPut (xPut (xPut m 303 (ops.length + wsum rest) x) 304 (ops.length + wsum rest) y) 291 23 z).1 303 j = m.1 303 j := fun j hj => by
    rw [← xP_pl (by omega), ← xP_pl (by omega), ← xP_sl hj]
  have e4 : ∀ j, j ≠ ops.length + wsum rest → (xPut (xPut (xPut m 303 (ops.length + wsum rest) x) 304 (ops.length + wsum rest) y) 291 23 z).1 304 j = m.1 304 j := fun j hj => by
    rw [← xP_pl (by omega), ← xP_sl hj, ← xP_pl (by omega)]
  have v3 : (xPut (xPut (xPut m 303 (ops.length + wsum rest) x) 304 (ops.length + wsum rest) y) 291 23 z).1 303 (ops.length + wsum rest) = x := by
    rw [← xP_pl (by omega), ← xP_pl (by omega)]
    exact xP_eq.symm
  have v4 : (xPut (xPut (xPut m 303 (ops.length + wsum rest) x) 304 (ops.length + wsum rest) y) 291 23 z).1 304 (ops.length + wsum rest) = y := by
    rw [← xP_pl (by omega)]
    exact xP_eq.symm
  have l := LV_cong (h1 := (xPut (xPut (xPut m 303 (ops.length + wsum rest) x) 304 (ops.length + wsum rest) y) 291 23 z).1 301) (h2 := (xPut (xPut (xPut m 303 (ops.length + wsum rest) x) 304 (ops.length + wsum rest) y) 291 23 z).1 302) (h3 := (xPut (xPut (xPut m 303 (ops.length + wsum rest) x) 304 (ops.length + wsum rest) y) 291 23 z).1 303) (h4 := (xPut (xPut (xPut m 303 (ops.length + wsum rest) x) 304 (ops.length + wsum rest) y) 291 23 z).1 304) ((f, ops) :: rest) (fun j _ => rfl) (fun j _ => rfl) (fun j hj => by
    have hj' : j < ops.length + wsum rest := hj
    exact ⟨e3 j (by omega), e4 j (by omega)⟩) hl
  have zz : (xPut (xPut (xPut m 303 (ops.length + wsum rest) x) 304 (ops.length + wsum rest) y) 291 23 z).1 291 23 = z := xP_eq.symm
  refine ⟨⟨l.1, ⟨⟨?_, ?_⟩, l.2.1⟩, l.2.2.1, l.2.2.2⟩, ⟨h20, ?_, h31, h27⟩, hs, hp, hv⟩
  · rw [Nat.add_comm (wsum rest), v3]; exact hx
  · rw [Nat.add_comm (wsum rest), v4]; exact hy
  · rw [zz, hz]
    show _ = ((ops.length + 1 + wsum rest : Nat) : Int)
    rw [Nat.add_right_comm]
theorem waitsFor_c {x : Int32} {f o O H : Nat} {ops : List Nat} {rest : List (Nat × List Nat)} {m : xMem} (h : Core m ((f, ops) :: rest) s O H C) (t : TK m) (hx : x.toInt = (o : Int)) (ho : allOp ops) (h1 : O + ops.length ≤ 399) (h2 : ops.length + 1 ≤ H) (h3 : H ≤ 200) (h4 : wsum rest + ops.length ≤ 78) : vOk (fun m1 => ∃ k, k ≤ ops.length ∧ Core m1 ((f, o :: ops.drop k) :: rest) s (O + k) (H - k) C ∧ headLt (rk o) (ops.drop k) ∧ TK m1 ∧ (m.1 291 13).toInt ≤ (m1.1 291 14).toInt ∧ EN m m1 ∧ m1.1 291 19 = m.1 291 19) (fX12_waitsFor 291 x m) := by
  have c1 : (1 : Int32).toInt = 1 := rfl
  unfold fX12_waitsFor fX12_waitsFor_0
  refine vBindP (rank_c hx) fun v _ hv' => ?_
  dsimp only
  have cF := xFu
  unfold fX12_works
  refine vOk_bind (works_c hv' ops xFuel O H m (by omega) h ho h1 h2 h3 (by omega)) fun m2 q => ?_
  obtain ⟨k, k1, k2, k3, k4, k5⟩ := q
  have k2' := k2
  obtain ⟨hl, ⟨h20, h23, h31, h27⟩, hs, hp, hv⟩ := k2'
  rw [List.length_cons] at h20
  have ld : (ops.drop k).length = ops.length - k := List.length_drop
  have w : wsum ((f, ops.drop k) :: rest) = (ops.drop k).length + wsum rest := rfl
  rw [w] at h23
  have w23 := wN h23
  refine vAl (x := m2.1 291 23) rfl ?_
  refine vIn (by omega) (by omega) fun _ => ?_
  rw [w23]
  refine vR fun m4 e4 => ?_
  refine vAl (x := m2.1 291 23) (xP_plE e4 (by omega)) ?_
  refine vAl (x := m2.1 291 20) (xP_plE e4 (by omega)) ?_
  refine vIn (by omega) (by omega) fun _ => ?_
  rw [w23]
  refine vR fun m8 e8 => ?_
  refine vAl (x := m2.1 291 23) ((xP_plE e4 (by omega)).trans (xP_plE e8 (by omega))) ?_
  refine vA (by omega) fun x11 e11 f11 => ?_
  refine vR fun m12 e12 => ?_
  have h12 : Core m12 ((f, o :: ops.drop k) :: rest) s (O + k) (H - k) C := by
    rw [e12, e8, e4]
    exact Core_push k2 hx (by rw [h20]) (by omega)
  have g12 : EG m2 m12 := by
    rw [e12, e8, e4]
    exact EG_put (EG_put (EG_put EG_refl (by omega)) (by omega)) (by omega)
  have g := EG_tr k4 g12
  refine vOk_bind (next_c h12 (TK_G g t)) fun m13 q13 => ?_
  obtain ⟨a1, a2, a3, a4⟩ := q13
  refine vOk_some ⟨k, k1, a1, k3, a2, ?_, EN_tr (EN_G g) (EN_N a4), ?_⟩
  · rw [g.2 291 13 (by omega)] at a3
    exact a3
  · rw [a4.2 291 19 (by omega), ← k5, e12, e8, e4]
    exact ((xP_pl (by omega)).trans ((xP_pl (by omega)).trans (xP_sl (by omega)))).symm
def topK : List (Nat × List Nat) → Nat
  | [] => 0
  | p :: _ => p.1
theorem oneIsOver_c : ∀ (lv : List (Nat × List Nat)) (fuel O H : Nat) (m : xMem), lv.length < fuel → lv.length ≤ 40 → Core m lv s O H C → (m.1 291 19).toInt = (opn lv : Int) → stN lv → 1 ≤ H → H ≤ 200 → O + pnd lv ≤ 399 → vOk (fun m1 => ∃ lv' O', Core m1 lv' s O' H C ∧ (m1.1 291 19).toInt = (opn lv' : Int) ∧ stN lv' ∧ ¬ topK lv' = 7 ∧ O' + pnd lv' = O + pnd lv ∧ wsum lv' = wsum lv ∧ rgt lv' = rgt lv ∧ opn lv' ≤ opn lv ∧ (m1.1 291 26).toInt = 2 ∧ EG m m1) (fX12_oneIsOver_0 291 fuel m) := by
  have c0 : (0 : Int32).toInt = 0 := rfl
  have c1 : (1 : Int32).toInt = 1 := rfl
  have c7 : (7 : Int32).toInt = 7 := rfl
  intro lv
  induction lv with
  | nil => intro fuel O H m _ _ _ _ h; exact h.elim
  | cons p r ih =>
    intro fuel O H m hf h40 h h19 hN h1 h2 h3
    obtain ⟨f, ops⟩ := p
    obtain ⟨n, rfl⟩ : ∃ n, fuel = n + 1 := ⟨fuel - 1, by omega⟩
    rw [List.length_cons] at hf h40
    rw [fX12_oneIsOver_0]
    refine vBindP (top_c h (by omega)) fun v _ hv' => ?_
    dsimp only at hv' ⊢
    refine vNe (fun g => ?_) (fun g => ?_)
    · refine vR fun m3 e3 => ?_
      refine vOk_some ⟨(f, ops) :: r, O, Core_x (fun b j w => by rw [e3]; exact (show (if b = 291 ∧ j = 26 then _ else m.1 b j) = _ by rw [if_neg (by omega)])) h, by rw [e3, ← xP_sl (by omega)]; exact h19, hN, fun q => g (by rw [hv', show f = 7 from q]; rfl), rfl, rfl, rfl, Nat.le_refl _, by rw [e3]; exact (congrArg Int32.toInt xP_eq.symm).trans rfl, by rw [e3]; exact EG_put EG_refl (by omega)⟩
    · have hf7 : f = 7 := by omega
      subst hf7
      rcases hN with ⟨q, _⟩ | ⟨q, _⟩ | ⟨q, _⟩ | ⟨_, q2, q3⟩
      · exfalso; dsimp only at q; omega
      · exfalso; dsimp only at q; omega
      · exfalso; dsimp only at q; omega
      dsimp only at q2
      subst q2
      have h' := h
      obtain ⟨hl, ⟨h20, h23, h31, h27⟩, hs, hp, hv⟩ := h'
      rw [List.length_cons] at h20
      have o7 : opn ((7, []) :: r) = 1 + opn r := rfl
      have p7 : pnd ((7, []) :: r) = 1 + pnd r := rfl
      have w7 : wsum ((7, []) :: r) = wsum r := Nat.zero_add _
      have g7 : rgt ((7, []) :: r) = rgt r := Nat.zero_add _
      rw [o7] at h19
      rw [p7] at h3
      refine vAl (x := m.1 291 20) rfl ?_
      refine vS (by omega) fun x5 e5 f5 => ?_
      refine vR fun m6 e6 => ?_
      have i6 : Core m6 r s O H C := by rw [e6]; exact Core_pop h (by omega)
      refine vAl (x := m.1 291 19) (xP_slE e6 (by omega)) ?_
      have t19 := tiB (m.1 291 19)
      refine vS (by omega) fun x8 e8 f8 => ?_
      refine vR fun m9 e9 => ?_
      have i9 : Core m9 r s O H C := Core_x (fun b j w => by rw [e9]; exact (show (if b = 291 ∧ j = 19 then _ else m6.1 b j) = _ by rw [if_neg (by omega)])) i6
      have z19 : m9.1 291 19 = x8 := by rw [e9]; exact xP_eq.symm
      have g9 : EG m m9 := by rw [e9, e6]; exact EG_put (EG_put EG_refl (by omega)) (by omega)
      refine vOk_bind (emits_c (H' := H) i9 (by omega) ⟨by decide, Or.inr (Or.inr (Or.inl ⟨Or.inl rfl, h1, h2, rfl⟩))⟩) fun m10 q => ?_
      obtain ⟨a1, a2, a3, _⟩ := q
      refine vOk_mono (ih n (O + 1) H m10 (by omega) (by omega) a1 (by rw [a3, z19]; omega) q3 h1 h2 (by omega)) fun m1 w1 => ?_
      obtain ⟨lv', O', b1, b2, b3, b4, b5, b6, b7, b8, b9, b10⟩ := w1
      exact ⟨lv', O', b1, b2, b3, b4, by omega, by omega, by omega, by omega, b9, EG_tr (EG_tr g9 a2) b10⟩
theorem askIsOver_c : ∀ (lv : List (Nat × List Nat)) (fuel O H : Nat) (m : xMem), lv.length < fuel → lv.length ≤ 40 → Core m lv s O H C → (m.1 291 19).toInt = (opn lv : Int) → stC lv → 1 ≤ H → H ≤ 200 → O + pnd lv ≤ 399 → vOk (fun m1 => ∃ ops O', Core m1 [(2, ops)] s O' H C ∧ (m1.1 291 19).toInt = 0 ∧ cndO ops ∧ O' = O + pnd lv ∧ ops.length = wsum lv ∧ (m1.1 291 26).toInt = 3 ∧ EG m m1) (fX12_askIsOver_0 291 fuel m) := by
  have c0 : (0 : Int32).toInt = 0 := rfl
  have c1 : (1 : Int32).toInt = 1 := rfl
  have c3 : (3 : Int32).toInt = 3 := rfl
  intro lv
  induction lv with
  | nil => intro fuel O H m _ _ _ _ h; exact h.elim
  | cons p r ih =>
    intro fuel O H m hf h40 h h19 hN h1 h2 h3
    obtain ⟨f, ops⟩ := p
    obtain ⟨n, rfl⟩ : ∃ n, fuel = n + 1 := ⟨fuel - 1, by omega⟩
    rw [List.length_cons] at hf h40
    rw [fX12_askIsOver_0]
    refine vBindP (top_c h (by omega)) fun v _ hv' => ?_
    dsimp only at hv' ⊢
    rcases hN with ⟨q1, q2, q3⟩ | ⟨q1, q2, q3⟩
    · dsimp only at q1 q2
      subst q1 q3
      refine vNe (fun g => ?_) (fun g => by exfalso; omega)
      refine vR fun m3 e3 => ?_
      refine vOk_some ⟨ops, O, Core_x (fun b j w => by rw [e3]; exact (show (if b = 291 ∧ j = 26 then _ else m.1 b j) = _ by rw [if_neg (by omega)])) h, by rw [e3, ← xP_sl (by omega)]; exact h19, q2, rfl, rfl, by rw [e3]; exact (congrArg Int32.toInt xP_eq.symm).trans rfl, by rw [e3]; exact EG_put EG_refl (by omega)⟩
    · dsimp only at q1 q2
      subst q1 q2
      refine vNe (fun g => by exfalso; omega) (fun g => ?_)
      have h' := h
      obtain ⟨hl, ⟨h20, h23, h31, h27⟩, hs, hp, hv⟩ := h'
      rw [List.length_cons] at h20
      have o7 : opn ((3, []) :: r) = 1 + opn r := rfl
      have p7 : pnd ((3, []) :: r) = 1 + pnd r := rfl
      have w7 : wsum ((3, []) :: r) = wsum r := Nat.zero_add _
      rw [o7] at h19
      rw [p7] at h3
      refine vAl (x := m.1 291 20) rfl ?_
      refine vS (by omega) fun x5 e5 f5 => ?_
      refine vR fun m6 e6 => ?_
      have i6 : Core m6 r s O H C := by rw [e6]; exact Core_pop h (by omega)
      refine vAl (x := m.1 291 19) (xP_slE e6 (by omega)) ?_
      have t19 := tiB (m.1 291 19)
      refine vS (by omega) fun x8 e8 f8 => ?_
      refine vR fun m9 e9 => ?_
      have i9 : Core m9 r s O H C := Core_x (fun b j w => by rw [e9]; exact (show (if b = 291 ∧ j = 19 then _ else m6.1 b j) = _ by rw [if_neg (by omega)])) i6
      have z19 : m9.1 291 19 = x8 := by rw [e9]; exact xP_eq.symm
      have g9 : EG m m9 := by rw [e9, e6]; exact EG_put (EG_put EG_refl (by omega)) (by omega)
      refine vOk_bind (emits_c (H' := H) i9 (by omega) ⟨by decide, Or.inr (Or.inr (Or.inl ⟨Or.inr rfl, h1, h2, rfl⟩))⟩) fun m10 q => ?_
      obtain ⟨a1, a2, a3, _⟩ := q
      refine vOk_mono (ih n (O + 1) H m10 (by omega) (by omega) a1 (by rw [a3, z19]; omega) q3 h1 h2 (by omega)) fun m1 w1 => ?_
      obtain ⟨ops', O', b1, b2, b3, b4, b5, b6, b7⟩ := w1
      exact ⟨ops', O', b1, b2, b3, by omega, by omega, b6, EG_tr (EG_tr g9 a2) b7⟩
end
