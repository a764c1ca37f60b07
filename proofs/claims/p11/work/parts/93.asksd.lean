/-! the reference's parser keeps to the machine -/
theorem vOk_and {α : Type} {A B : α → Prop} {o : Option α} (h : vOk A o) (q : vOk B o) : vOk (fun r => A r ∧ B r) o := by
  obtain ⟨r, e, a⟩ := h
  obtain ⟨r2, e2, b⟩ := q
  have : r = r2 := Option.some.inj (e.symm.trans e2)
  subst this
  exact ⟨r, e, a, b⟩
theorem TK_0 {k v s t : Int} (h : TKR k v s t) (q : s = 0) : k = 0 := by unfold TKR at h; omega
theorem TK_0' {k v s t : Int} (h : TKR k v s t) (q : k = 0) : s = 0 := by unfold TKR at h; omega
theorem TK_2 {k v s t : Int} (h : TKR k v s t) (q : s = 2) : k = 2 ∧ 0 ≤ t ∧ (t ≤ 9999 → v = t) ∧ (9999 < t → 9999 < v) := by unfold TKR at h; omega
theorem TK_2' {k v s t : Int} (h : TKR k v s t) (q : k = 2) : s = 2 := by unfold TKR at h; omega
theorem TK_n {k v s t : Int} (h : TKR k v s t) (q : s = 1) (r : 6 ≤ t) : k = 26 ∧ v = t - 6 ∧ t ≤ 13 := by unfold TKR at h; omega
theorem TK_n' {k v s t : Int} (h : TKR k v s t) (q : k = 26) : s = 1 ∧ 6 ≤ t := by unfold TKR at h; omega
theorem TK_w {k v s t : Int} (h : TKR k v s t) (q : s = 1) (r : t ≤ 5) : k = 20 + t ∧ 0 ≤ t := by unfold TKR at h; omega
theorem TK_w' {k v s t : Int} (h : TKR k v s t) (q : 20 ≤ k) (r : k ≤ 25) : s = 1 ∧ t = k - 20 := by unfold TKR at h; omega
theorem TK_13 {k v s t : Int} (h : TKR k v s t) (q : s = 3) (r : t = 40) : k = 13 := by unfold TKR at h; omega
theorem TK_13' {k v s t : Int} (h : TKR k v s t) (q : k = 13) : s = 3 ∧ t = 40 := by unfold TKR at h; omega
theorem TK_10 {k v s t : Int} (h : TKR k v s t) (q : s = 3) (r : t = 45) : k = 10 := by unfold TKR at h; omega
theorem TK_10' {k v s t : Int} (h : TKR k v s t) (q : k = 10) : s = 3 ∧ t = 45 := by unfold TKR at h; omega
theorem TK_14 {k v s t : Int} (h : TKR k v s t) (q : s = 3) (r : t = 41) : k = 14 := by unfold TKR at h; omega
theorem TK_14' {k v s t : Int} (h : TKR k v s t) (q : k = 14) : s = 3 ∧ t = 41 := by unfold TKR at h; omega
theorem TK_15 {k v s t : Int} (h : TKR k v s t) (q : s = 3) (r : t = 59) : k = 15 := by unfold TKR at h; omega
theorem TK_15' {k v s t : Int} (h : TKR k v s t) (q : k = 15) : s = 3 ∧ t = 59 := by unfold TKR at h; omega
theorem TK_a {k v s t : Int} (h : TKR k v s t) (q : s = 3) (r : t = 60 ∨ t = 62 ∨ t = 61 ∨ t = 35 ∨ t = 300 ∨ t = 301) : 3 ≤ k ∧ k ≤ 8 := by unfold TKR at h; omega
theorem TK_a' {k v s t : Int} (h : TKR k v s t) (q : 3 ≤ k) (r : k ≤ 8) : s = 3 ∧ (t = 60 ∨ t = 62 ∨ t = 61 ∨ t = 35 ∨ t = 300 ∨ t = 301) := by unfold TKR at h; omega
theorem TK_o {k v s t : Int} (h : TKR k v s t) (q : s = 3) (r : t = 43 ∨ t = 45 ∨ t = 42 ∨ t = 47) : isOpr k := by unfold TKR at h; unfold isOpr; omega
theorem TK_o' {k v s t : Int} (h : TKR k v s t) (q : isOpr k) : s = 3 ∧ (t = 43 ∨ t = 45 ∨ t = 42 ∨ t = 47) := by unfold TKR at h; unfold isOpr at q; omega
theorem opc_map : ∀ (lv : List (Nat × List Nat)), opc (lv.map Prod.fst) = opn lv := by
  intro lv
  induction lv with
  | nil => rfl
  | cons p r ih =>
    show (if p.1 = 3 ∨ p.1 = 6 ∨ p.1 = 7 then 1 else 0) + opc (r.map Prod.fst) = _
    rw [ih]
    rfl
theorem topF_map {p : Nat × List Nat} {r : List (Nat × List Nat)} : topF ((p :: r).map Prod.fst) = p.1 := rfl
theorem stC_dropN : ∀ (lv : List (Nat × List Nat)), stC lv → dropN (lv.map Prod.fst) = [2] := by
  intro lv
  induction lv with
  | nil => intro h; exact h.elim
  | cons p r ih =>
    intro h
    rcases h with ⟨h1, h2, h3⟩ | ⟨h1, h2, h3⟩
    · show (if p.1 = 3 then dropN (r.map Prod.fst) else p.1 :: r.map Prod.fst) = _
      rw [if_neg (by omega), h1, h3]
      rfl
    · show (if p.1 = 3 then dropN (r.map Prod.fst) else p.1 :: r.map Prod.fst) = _
      rw [if_pos h1]
      exact ih h3
def KW (m : xMem) (st k C w Cn : Nat) : Prop := C = (if st = 4 then Cn else Cn + 1) ∧ (¬ st = 4 → ((m.1 291 28).toInt = 0 ↔ k = 0)) ∧ ((∃ t : Nat, t < C ∧ (m.1 305 t).toInt = 0) ↔ ¬ w = 0) ∧ (m.1 291 18).toInt = -1
theorem KW_cg {m m1 : xMem} {st st' k C w Cn : Nat} (e18 : m1.1 291 18 = m.1 291 18) (e8 : m1.1 291 28 = m.1 291 28) (e5 : ∀ j, m1.1 305 j = m.1 305 j) (h1 : ¬ st = 4) (h2 : ¬ st' = 4) (h : KW m st k C w Cn) : KW m1 st' k C w Cn := by
  unfold KW at h ⊢
  rw [if_neg h1] at h
  rw [if_neg h2, e8, e18]
  refine ⟨h.1, fun _ => h.2.1 h1, ?_, h.2.2.2⟩
  rw [← h.2.2.1]
  exact ⟨fun ⟨t, a, b⟩ => ⟨t, a, by rw [← e5]; exact b⟩, fun ⟨t, a, b⟩ => ⟨t, a, by rw [e5]; exact b⟩⟩
/-- a memory of the reference's at a state of the machine -/
def MC (B : Nat → Int) (L : Nat) (m : xMem) (c : Cf) : Prop := ∃ lv s O H Cn, ((m.1 291 17).toInt = 0 ∧ TK m ∧ Core m lv s O H Cn ∧ (m.1 291 19).toInt = (opn lv : Int) ∧ opn lv ≤ 8 ∧ ((O + wsum lv + pnd lv : Nat) : Int) ≤ (m.1 291 14).toInt ∧ PIs m lv s O H Cn) ∧ lv.map Prod.fst = c.2.2.1 ∧ (m.1 291 26).toInt = (c.2.1 : Int) ∧ TI B L m c.1 ∧ TB0 B L m ∧ KW m c.2.1 c.2.2.2.1 c.2.2.2.2.1 c.2.2.2.2.2 Cn
def ST2 (B : Nat → Int) (L : Nat) (m : xMem) (c : Cf) (m1 : xMem) : Prop := PF m m1 ∧ ((∃ f : Nat, gS (KF' B L) (VF' B L) c = (f, c) ∧ ¬ f = 0 ∧ ¬ f = 9 ∧ (m1.1 291 17).toInt = (f : Int) ∧ m1.1 291 18 = m.1 291 14) ∨ (∃ d, gS (KF' B L) (VF' B L) c = (0, d) ∧ MC B L m1 d ∧ MU m1 < MU m))
theorem TB0_PF {B : Nat → Int} {L : Nat} {m m1 : xMem} (f : PF m m1) (h : TB0 B L m) : TB0 B L m1 := by
  unfold TB0 at h ⊢
  rw [f.2 291 12 (by omega)]
  exact ⟨h.1, h.2.1, fun j hj => by rw [f.2 295 j (by omega)]; exact h.2.2 j hj⟩
theorem oneIsOver_d {s C : Nat} : ∀ (lv : List (Nat × List Nat)) (fuel O H : Nat) (m : xMem), lv.length < fuel → lv.length ≤ 40 → Core m lv s O H C → (m.1 291 19).toInt = (opn lv : Int) → stN lv → 1 ≤ H → H ≤ 200 → O + pnd lv ≤ 399 → vOk (fun m1 => ∃ lv' O', Core m1 lv' s O' H C ∧ (m1.1 291 19).toInt = (opn lv' : Int) ∧ stN lv' ∧ ¬ topK lv' = 7 ∧ O' + pnd lv' = O + pnd lv ∧ wsum lv' = wsum lv ∧ rgt lv' = rgt lv ∧ opn lv' ≤ opn lv ∧ (m1.1 291 26).toInt = 2 ∧ EG m m1 ∧ lv'.map Prod.fst = dropM (lv.map Prod.fst)) (fX12_oneIsOver_0 291 fuel m) := by
  have c0 : (0 : Int32).toInt = 0 := rfl
  have c1 : (1 : Int32).toInt = 1 := rfl
  have c7 : (7 : Int32).toInt = 7 := rfl
  intro lv
  induction lv with
  | nil => intro fuel O H m _ _ _ _ h; exact h.elim
  | cons p r ih =>
    intro fuel O H m hf h40 h h19 hN h1 h2 h3
    obtain ⟨f, ops⟩ := p
    obtain ⟨n, rfl⟩ : ∃ n, fuel = n + 1 := ⟨fuel - 1, by omega⟩
    rw [List.length_cons] at hf h40
    rw [fX12_oneIsOver_0]
    refine vBindP (top_c h (by omega)) fun v _ hv' => ?_
    dsimp only at hv' ⊢
    refine vNe (fun g => ?_) (fun g => ?_)
    · refine vR fun m3 e3 => ?_
      refine vOk_some ⟨(f, ops) :: r, O, Core_x (fun b j w => by rw [e3]; exact (show (if b = 291 ∧ j = 26 then _ else m.1 b j) = _ by rw [if_neg (by omega)])) h, by rw [e3, ← xP_sl (by omega)]; exact h19, hN, fun q => g (by rw [hv', show f = 7 from q]; rfl), rfl, rfl, rfl, Nat.le_refl _, by rw [e3]; exact (congrArg Int32.toInt xP_eq.symm).trans rfl, by rw [e3]; exact EG_put EG_refl (by omega), (dropM_id (fs := f :: r.map Prod.fst) (fun q => g (by rw [hv', show f = 7 from q]; rfl))).symm⟩
    · have hf7 : f = 7 := by omega
      subst hf7
      rcases hN with ⟨q, _⟩ | ⟨q, _⟩ | ⟨q, _⟩ | ⟨_, q2, q3⟩
      · exfalso; dsimp only at q; omega
      · exfalso; dsimp only at q; omega
      · exfalso; dsimp only at q; omega
      dsimp only at q2
      subst q2
      have h' := h
      obtain ⟨hl, ⟨h20, h23, h31, h27⟩, hs, hp, hv⟩ := h'
      rw [List.length_cons] at h20
      have o7 : opn ((7, []) :: r) = 1 + opn r := rfl
      have p7 : pnd ((7, []) :: r) = 1 + pnd r := rfl
      have w7 : wsum ((7, []) :: r) = wsum r := Nat.zero_add _
      have g7 : rgt ((7, []) :: r) = rgt r := Nat.zero_add _
      rw [o7] at h19
      rw [p7] at h3
      refine vAl (x := m.1 291 20) rfl ?_
      refine vS (by omega) fun x5 e5 f5 => ?_
      refine vR fun m6 e6 => ?_
      have i6 : Core m6 r s O H C := by rw [e6]; exact Core_pop h (by omega)
      refine vAl (x := m.1 291 19) (xP_slE e6 (by omega)) ?_
      have t19 := tiB (m.1 291 19)
      refine vS (by omega) fun x8 e8 f8 => ?_
      refine vR fun m9 e9 => ?_
      have i9 : Core m9 r s O H C := Core_x (fun b j w => by rw [e9]; exact (show (if b = 291 ∧ j = 19 then _ else m6.1 b j) = _ by rw [if_neg (by omega)])) i6
      have z19 : m9.1 291 19 = x8 := by rw [e9]; exact xP_eq.symm
      have g9 : EG m m9 := by rw [e9, e6]; exact EG_put (EG_put EG_refl (by omega)) (by omega)
      refine vOk_bind (emits_c (H' := H) i9 (by omega) ⟨by decide, Or.inr (Or.inr (Or.inl ⟨Or.inl rfl, h1, h2, rfl⟩))⟩) fun m10 q => ?_
      obtain ⟨a1, a2, a3, _⟩ := q
      refine vOk_mono (ih n (O + 1) H m10 (by omega) (by omega) a1 (by rw [a3, z19]; omega) q3 h1 h2 (by omega)) fun m1 w1 => ?_
      obtain ⟨lv', O', b1, b2, b3, b4, b5, b6, b7, b8, b9, b10, b11⟩ := w1
      exact ⟨lv', O', b1, b2, b3, b4, by omega, by omega, by omega, by omega, b9, EG_tr (EG_tr g9 a2) b10, b11.trans (if_pos (show (7 : Nat) = 7 from rfl)).symm⟩
section
variable {B : Nat → Int} {L : Nat} {s Cn : Nat} {i k C w : Nat} {fs : List Nat}
theorem ST2_BN {m p : xMem} {lv : List (Nat × List Nat)} {O H st st' i' : Nat} {fs' : List Nat} (h : BN m p lv s O H Cn) (hw : (m.1 291 17).toInt = 0) (hs : ¬ (m.1 291 15).toInt = 0) (t : TK m) (o8 : opn lv ≤ 8) (hb : ((O + wsum lv + pnd lv : Nat) : Int) ≤ (m.1 291 14).toInt + 1) (hp : PIs p lv s O H Cn) (hB : TB0 B L m) (ti : TI B L p i') (h26 : (p.1 291 26).toInt = (st' : Int)) (mp : lv.map Prod.fst = fs') (h4 : ¬ st = 4 ∧ ¬ st' = 4) (kw : KW m st k C w Cn) (hg : gS (KF' B L) (VF' B L) (i, st, fs, k, C, w) = (0, (i', st', fs', k, C, w))) : ST2 B L m (i, st, fs, k, C, w) p := by
  obtain ⟨a, b, c, d, e⟩ := h
  have t' := t
  unfold TK at t'
  have := t'.2.1.resolve_left hs
  refine ⟨PF_N c, Or.inr ⟨_, hg, ⟨lv, s, O, H, Cn, ⟨by rw [c.2 291 17 (by omega)]; exact hw, b, a, d, o8, by omega, hp⟩, mp, h26, ti, TB0_PF (PF_N c) hB, KW_cg (c.2 291 18 (by omega)) (c.2 291 28 (by omega)) (fun j => c.2 305 j (by omega)) h4.1 h4.2 kw⟩, MU_next (c.2 291 12 (by omega)) hs b e⟩⟩
theorem errs_d {m : xMem} {a : Int32} {c : Cf} {f : Nat} (hw : (m.1 291 17).toInt = 0) (ha : a.toInt = (f : Int)) (hf : ¬ f = 0 ∧ ¬ f = 9) (hg : gS (KF' B L) (VF' B L) c = (f, c)) : vOk (ST2 B L m c) (fX12_errs 291 a m) := by
  have c0 : (0 : Int32).toInt = 0 := rfl
  unfold fX12_errs fX12_errs_0
  refine vAl (x := m.1 291 17) rfl ?_
  refine vNe (fun g => by exfalso; omega) (fun _ => ?_)
  refine vR fun m3 e3 => ?_
  refine vAl (x := m.1 291 14) (xP_slE e3 (by omega)) ?_
  refine vR fun m5 e5 => ?_
  unfold fX12_errs_20
  refine vOk_some ⟨by rw [e5, e3]; exact PF_put (PF_put PF_refl (by omega)) (by omega), Or.inl ⟨f, hg, hf.1, hf.2, ?_, ?_⟩⟩
  · have z : m5.1 291 17 = a := by rw [e5, e3]; exact (xP_eq.trans (xP_sl (by omega))).symm
    rw [z]; exact ha
  · rw [e5]; exact xP_eq.symm
theorem isSign_d {m : xMem} {a : Int32} : vOk (PP m (fun x : Int32 => (x.toInt = 1 ∧ (m.1 291 15).toInt = 3 ∧ (m.1 291 16).toInt = a.toInt) ∨ (x.toInt = 0 ∧ ¬ ((m.1 291 15).toInt = 3 ∧ (m.1 291 16).toInt = a.toInt)))) (fX12_isSign 291 a m) := by
  have c3 : (3 : Int32).toInt = 3 := rfl
  unfold fX12_isSign fX12_isSign_0
  refine vAl (x := m.1 291 15) rfl ?_
  refine vNe (fun g => ?_) (fun g => ?_)
  · unfold fX12_isSign_20 fX12_isSign_21
    exact v00 (rP (Or.inr ⟨rfl, fun q => g (by omega)⟩))
  · refine vAl (x := m.1 291 16) rfl ?_
    refine vNe (fun g2 => ?_) (fun g2 => ?_)
    · unfold fX12_isSign_20 fX12_isSign_21
      exact v00 (rP (Or.inr ⟨rfl, fun q => g2 q.2⟩))
    · unfold fX12_isSign_21
      exact v01 (rP (Or.inl ⟨rfl, by omega, g2⟩))
theorem isWord_d {m : xMem} {a : Int32} : vOk (PP m (fun x : Int32 => (x.toInt = 1 ∧ (m.1 291 15).toInt = 1 ∧ (m.1 291 16).toInt = a.toInt) ∨ (x.toInt = 0 ∧ ¬ ((m.1 291 15).toInt = 1 ∧ (m.1 291 16).toInt = a.toInt)))) (fX12_isWord 291 a m) := by
  have c1 : (1 : Int32).toInt = 1 := rfl
  unfold fX12_isWord fX12_isWord_0
  refine vAl (x := m.1 291 15) rfl ?_
  refine vNe (fun g => ?_) (fun g => ?_)
  · unfold fX12_isWord_20 fX12_isWord_21
    exact v00 (rP (Or.inr ⟨rfl, fun q => g (by omega)⟩))
  · refine vAl (x := m.1 291 16) rfl ?_
    refine vNe (fun g2 => ?_) (fun g2 => ?_)
    · unfold fX12_isWord_20 fX12_isWord_21
      exact v00 (rP (Or.inr ⟨rfl, fun q => g2 q.2⟩))
    · unfold fX12_isWord_21
      exact v01 (rP (Or.inl ⟨rfl, by omega, g2⟩))
theorem isAsking_d {a : Int32} {m : xMem} : vOk (PP m (fun x : Int32 => (x.toInt = 1 ∧ isAsk a) ∨ (x.toInt = 0 ∧ ¬ isAsk a))) (fX12_isAsking a m) := by
  have c60 : (60 : Int32).toInt = 60 := rfl
  have c62 : (62 : Int32).toInt = 62 := rfl
  have c61 : (61 : Int32).toInt = 61 := rfl
  have c35 : (35 : Int32).toInt = 35 := rfl
  have c300 : (300 : Int32).toInt = 300 := rfl
  have c301 : (301 : Int32).toInt = 301 := rfl
  have yes : isAsk a → vOk (PP m (fun x : Int32 => (x.toInt = 1 ∧ isAsk a) ∨ (x.toInt = 0 ∧ ¬ isAsk a))) (fX12_isAsking_38 a m) := by
    intro q
    unfold fX12_isAsking_38 fX12_isAsking_43
    exact v01 (rP (Or.inl ⟨rfl, q⟩))
  unfold fX12_isAsking fX12_isAsking_0
  refine vEq (fun g => yes (by unfold isAsk; omega)) (fun g1 => ?_)
  refine vEq (fun g => yes (by unfold isAsk; omega)) (fun g2 => ?_)
  refine vEq (fun g => yes (by unfold isAsk; omega)) (fun g3 => ?_)
  refine vEq (fun g => yes (by unfold isAsk; omega)) (fun g4 => ?_)
  refine vEq (fun g => yes (by unfold isAsk; omega)) (fun g5 => ?_)
  refine vNe (fun g6 => ?_) (fun g => yes (by unfold isAsk; omega))
  unfold fX12_isAsking_43
  exact v00 (rP (Or.inr ⟨rfl, fun q => by unfold isAsk at q; omega⟩))
theorem next_d {m : xMem} {lv : List (Nat × List Nat)} {O H : Nat} (h : Core m lv s O H Cn) (t : TK m) (hB : TB0 B L m) (hi : TI B L m i) : vOk (fun m1 => (Core m1 lv s O H Cn ∧ TK m1 ∧ (m.1 291 13).toInt ≤ (m1.1 291 14).toInt ∧ NF m m1) ∧ TI B L m1 (i + 1)) (fX12_next 291 m) :=
  vOk_mono (vOk_and (next_c h t) (next_i hB hi)) fun _ q => ⟨q.1, q.2.2⟩
theorem TI_cg {m m1 : xMem} (e : ∀ j, 13 ≤ j → j ≤ 16 → m1.1 291 j = m.1 291 j) (h : TI B L m i) : TI B L m1 i := by
  unfold TI at h ⊢
  rw [e 13 (by omega) (by omega), e 14 (by omega) (by omega), e 15 (by omega) (by omega), e 16 (by omega) (by omega)]
  exact h
theorem opensSign_d {m : xMem} {lv : List (Nat × List Nat)} {O H f : Nat} {a : Int32} (h : Core m lv s O H Cn) (t : TK m) (hw : (m.1 291 17).toInt = 0) (h19 : (m.1 291 19).toInt = (opn lv : Int)) (h8 : opn lv ≤ 8) (hl40 : lv.length < 40) (ha : a.toInt = (f : Int)) (hf : f = 3 ∨ f = 6 ∨ f = 7) (hB : TB0 B L m) (hi : TI B L m i) {c : Cf} (hg : opn lv = 8 → gS (KF' B L) (VF' B L) c = (3, c)) : vOk (fun p : Int32 × xMem => (ST2 B L m c p.2 ∧ opn lv = 8) ∨ (opn lv < 8 ∧ BN m p.2 ((f, []) :: lv) s O H Cn ∧ p.2.1 291 26 = m.1 291 26 ∧ TI B L p.2 (i + 1))) (fX12_opensSign 291 a m) := by
  have c1 : (1 : Int32).toInt = 1 := rfl
  have c8 : (8 : Int32).toInt = 8 := rfl
  unfold fX12_opensSign fX12_opensSign_0
  refine vAl (x := m.1 291 19) rfl ?_
  refine vNe (fun g => ?_) (fun g => ?_)
  · refine vAl (x := m.1 291 19) rfl ?_
    refine vA (by omega) fun x4 e4 f4 => ?_
    refine vR fun m5 e5 => ?_
    have z5 : m5.1 291 19 = x4 := by rw [e5]; exact xP_eq.symm
    have z26 : m5.1 291 26 = m.1 291 26 := by rw [e5]; exact (xP_sl (by omega)).symm
    have i5 : Core m5 lv s O H Cn := Core_x (fun b j w => by rw [e5]; exact (show (if b = 291 ∧ j = 19 then _ else m.1 b j) = _ by rw [if_neg (by omega)])) h
    have g5 : EG m m5 := by rw [e5]; exact EG_put EG_refl (by omega)
    refine vOk_bind (opensFrame_c i5 hl40 ha (by omega)) fun m6 q => ?_
    obtain ⟨a1, a2, a3, a4⟩ := q
    have g6 := EG_tr g5 a2
    refine vOk_bind (next_d a1 (TK_G g6 t) (TB0_PF (PF_N (EN_G g6)) hB) (TI_cg (fun j _ _ => g6.2 291 j (by omega)) hi)) fun m7 q => ?_
    obtain ⟨⟨b1, b2, b3, b4⟩, b5⟩ := q
    have o : opn ((f, []) :: lv) = 1 + opn lv := by
      show (if f = 3 ∨ f = 6 ∨ f = 7 then 1 else 0) + opn lv = _
      rw [if_pos hf]
    refine vOk_some (Or.inr ⟨by omega, ⟨b1, b2, EN_tr (EN_G g6) (EN_N b4), ?_, ?_⟩, ?_, b5⟩)
    · rw [b4.2 291 19 (by omega), a3, z5, o]; omega
    · rw [g6.2 291 13 (by omega)] at b3
      exact b3
    · show m7.1 291 26 = _
      rw [b4.2 291 26 (by omega), a4, z26]
  · refine vOk_bind (errs_d hw (f := 3) rfl (by decide) (hg (by omega))) fun m8 q => ?_
    exact vOk_some (Or.inl ⟨q, by omega⟩)
theorem asks_d {m : xMem} {lv : List (Nat × List Nat)} {O H : Nat} (hw : (m.1 291 17).toInt = 0) (t : TK m) (h : Core m lv s O H Cn) (h19 : (m.1 291 19).toInt = (opn lv : Int)) (h8 : opn lv ≤ 8) (hb : ((O + wsum lv + pnd lv : Nat) : Int) ≤ (m.1 291 14).toInt) (hst : (m.1 291 26).toInt = 0) (hC : stC lv) (hH : H = wsum lv) (hc : Cn < 10) (cur : (m.1 306 Cn).toInt = (s : Int)) (mp : lv.map Prod.fst = fs) (hi : TI B L m i) (hB : TB0 B L m) (kw : KW m 0 k C w Cn) : vOk (ST2 B L m (i, 0, fs, k, C, w)) (fX12_asks 291 m) := by
  have c0 : (0 : Int32).toInt = 0 := rfl
  have c5 : (5 : Int32).toInt = 5 := rfl
  have LL := stC_len lv hC
  have tr := hi.2.2
  have oc : opc fs = opn lv := by rw [← mp]; exact opc_map lv
  have eS : gS (KF' B L) (VF' B L) (i, 0, fs, k, C, w) = aS0 (KF' B L) i fs k C w := rfl
  unfold fX12_asks fX12_asks_0
  refine vBindP isWord_d fun v _ hv => ?_
  dsimp only
  refine vEq (fun g => ?_) (fun g => ?_)
  · have hK : ¬ KF' B L i = 25 := fun z => by have y := TK_w' tr (by omega) (by omega); omega
    refine vOk_bind (opensFrame_c (f := 4) h (by omega) rfl (by omega)) fun m3 q => ?_
    obtain ⟨a1, a2, a3, a4⟩ := q
    refine vR fun m4 e4 => ?_
    unfold fX12_asks_27
    have z26 : m4.1 291 26 = 1 := by rw [e4]; exact xP_eq.symm
    have g4 : EG m m4 := by rw [e4]; exact EG_put a2 (by omega)
    have i4 : Core m4 ((4, []) :: lv) s O H Cn := Core_x (fun b j w => by rw [e4]; exact (show (if b = 291 ∧ j = 26 then _ else m3.1 b j) = _ by rw [if_neg (by omega)])) a1
    have o : opn ((4, []) :: lv) = 0 + opn lv := rfl
    have p : pnd ((4, []) :: lv) = 0 + pnd lv := rfl
    have ww : wsum ((4, []) :: lv) = 0 + wsum lv := rfl
    have r : rgt ((4, []) :: lv) = 0 + rgt lv := rfl
    refine vOk_some ⟨PF_N (EN_G g4), Or.inr ⟨(i, 1, 4 :: fs, k, C, w), by rw [eS]; unfold aS0; rw [if_neg hK], ⟨(4, []) :: lv, s, O, H, Cn, ⟨by rw [g4.2 291 17 (by omega)]; exact hw, TK_G g4 t, i4, ?_, by omega, by rw [g4.2 291 14 (by omega)]; omega, Or.inr (Or.inl ⟨by rw [z26]; rfl, Or.inr (Or.inl ⟨Or.inl rfl, ⟨trivial, trivial⟩, hC⟩), by omega, hc, by rw [g4.2 306 Cn (by omega)]; exact cur⟩)⟩, by rw [← mp]; rfl, by rw [z26]; rfl, TI_cg (fun j _ _ => g4.2 291 j (by omega)) hi, TB0_PF (PF_N (EN_G g4)) hB, KW_cg (g4.2 291 18 (by omega)) (g4.2 291 28 (by omega)) (fun j => g4.2 305 j (by omega)) (by decide) (by show ¬ (1 : Nat) = 4; decide) kw⟩, MU_w (fun j _ _ => g4.2 291 j (by omega)) (Or.inl hst) (by rw [z26]; decide)⟩⟩
    rw [e4, ← xP_sl (by omega), a3]; omega
  · have hK : KF' B L i = 25 := by have y := TK_w tr (by omega) (by omega); omega
    refine vOk_bind (opensSign_d (f := 3) (i := i) (c := (i, 0, fs, k, C, w)) h t hw h19 h8 (by omega) rfl (by omega) hB hi (fun z => by rw [eS]; unfold aS0; rw [if_pos hK, if_pos (by omega)])) fun p hp => ?_
    unfold fX12_asks_27
    refine vOk_some ?_
    rcases hp with q | ⟨q1, q2, q3, q4⟩
    · exact q.1
    have o : opn ((3, []) :: lv) = 1 + opn lv := rfl
    have pp : pnd ((3, []) :: lv) = 1 + pnd lv := rfl
    have ww : wsum ((3, []) :: lv) = 0 + wsum lv := rfl
    exact ST2_BN q2 hw (by omega) t (by omega) (by omega) (Or.inl ⟨by rw [q3]; exact hst, Or.inr ⟨rfl, rfl, hC⟩, by omega, hc, by rw [q2.2.2.1.2 306 Cn (by omega)]; exact cur⟩) hB q4 (by rw [q3]; exact hst) (st := 0) (st' := 0) (fs' := 3 :: fs) (by rw [← mp]; rfl) (by decide) kw (by rw [eS]; unfold aS0; rw [if_pos hK, if_neg (by omega)])
theorem begins_d {m : xMem} {lv : List (Nat × List Nat)} {O H : Nat} (hw : (m.1 291 17).toInt = 0) (t : TK m) (h : Core m lv s O H Cn) (h19 : (m.1 291 19).toInt = (opn lv : Int)) (h8 : opn lv ≤ 8) (hb : ((O + wsum lv + pnd lv : Nat) : Int) ≤ (m.1 291 14).toInt) (hst : (m.1 291 26).toInt = 1) (hN : stN lv) (hH : H = wsum lv + rgt lv) (hc : Cn < 10) (cur : (m.1 306 Cn).toInt = (s : Int)) (mp : lv.map Prod.fst = fs) (hi : TI B L m i) (hB : TB0 B L m) (kw : KW m 1 k C w Cn) : vOk (ST2 B L m (i, 1, fs, k, C, w)) (fX12_begins 291 m) := by
  have c0 : (0 : Int32).toInt = 0 := rfl
  have c1 : (1 : Int32).toInt = 1 := rfl
  have c2 : (2 : Int32).toInt = 2 := rfl
  have c5 : (5 : Int32).toInt = 5 := rfl
  have c6 : (6 : Int32).toInt = 6 := rfl
  have c11 : (11 : Int32).toInt = 11 := rfl
  have c40 : (40 : Int32).toInt = 40 := rfl
  have c45 : (45 : Int32).toInt = 45 := rfl
  have c9999 : (9999 : Int32).toInt = 9999 := rfl
  have LL := stN_len lv hN
  have t' := t
  unfold TK at t'
  have cF := xFu
  have tr := hi.2.2
  have oc : opc fs = opn lv := by rw [← mp]; exact opc_map lv
  have k28 := kw.2.1 (by decide)
  have eS : gS (KF' B L) (VF' B L) (i, 1, fs, k, C, w) = aS1 (KF' B L) (VF' B L) i fs k C w := rfl
  have er : ∀ (f : Nat) (a : Int32), a.toInt = (f : Int) → (¬ f = 0 ∧ ¬ f = 9) → aS1 (KF' B L) (VF' B L) i fs k C w = (f, (i, 1, fs, k, C, w)) → vOk (ST2 B L m (i, 1, fs, k, C, w)) ((fX12_errs 291 a m).bind fun p2 => some p2) := by
    intro f a ha hf hg
    refine vOk_bind (errs_d hw ha hf (eS.trans hg)) fun m2 q => ?_
    exact vOk_some q
  have one : ∀ (a b : Int32), stepOK a b H (H + 1) → ¬ (m.1 291 15).toInt = 0 → aS1 (KF' B L) (VF' B L) i fs k C w = (0, (i + 1, 2, dropM fs, k, C, w)) → vOk (ST2 B L m (i, 1, fs, k, C, w)) ((fX12_emits 291 a b m).bind fun p4 => (fX12_next 291 p4).bind fun p5 => (fX12_oneIsOver 291 p5).bind fun p6 => fX12_begins_175 291 p6) := by
    intro a b so hs hg
    have := t'.2.1.resolve_left hs
    refine vOk_bind (emits_c h (by omega) so) fun m4 q => ?_
    obtain ⟨a1, a2, a3, a4⟩ := q
    refine vOk_bind (next_d a1 (TK_G a2 t) (TB0_PF (PF_N (EN_G a2)) hB) (TI_cg (fun j _ _ => a2.2 291 j (by omega)) hi)) fun m5 q => ?_
    obtain ⟨⟨b1, b2, b3, b4⟩, b5⟩ := q
    unfold fX12_oneIsOver
    refine vOk_bind (oneIsOver_d lv xFuel (O + 1) (H + 1) m5 (by omega) (by omega) b1 (by rw [b4.2 291 19 (by omega), a3]; exact h19) hN (by omega) (by omega) (by omega)) fun m6 q => ?_
    obtain ⟨lv', O', d1, d2, d3, d4, d5, d6, d7, d8, d9, d10, d11⟩ := q
    unfold fX12_begins_175
    have en : EN m m6 := EN_tr (EN_tr (EN_G a2) (EN_N b4)) (EN_G d10)
    refine vOk_some (ST2_BN ⟨d1, TK_G d10 b2, en, d2, ?_⟩ hw hs t (by omega) (by omega) (Or.inr (Or.inr (Or.inl ⟨d9, d3, d4, by omega, hc, by rw [en.2 306 Cn (by omega)]; exact cur⟩))) hB (TI_cg (fun j _ _ => d10.2 291 j (by omega)) b5) d9 (st := 1) (st' := 2) (fs' := dropM fs) (by rw [d11, mp]) (by decide) kw (eS.trans hg))
    rw [d10.2 291 14 (by omega)]
    rw [a2.2 291 13 (by omega)] at b3
    exact b3
  have r106 : (m.1 291 15).toInt = 1 → 6 ≤ (m.1 291 16).toInt → ¬ bad5 (VF' B L i) k → vOk (ST2 B L m (i, 1, fs, k, C, w)) (fX12_begins_106 291 m) := by
    intro hs h6 nb
    have q := t'.2.2 hs
    unfold fX12_begins_106
    refine vAl (x := m.1 291 16) rfl ?_
    refine vS (by omega) fun x2 e2 f2 => ?_
    refine vS (by omega) fun x3 e3 f3 => ?_
    refine one _ _ ⟨by decide, Or.inr (Or.inl ⟨rfl, by omega, ⟨by omega, by omega⟩, rfl⟩)⟩ (by omega) ?_
    have y26 := (TK_n tr hs h6).1
    unfold aS1
    rw [if_neg (fun z => by rw [y26] at z; exact absurd z (by decide)), if_pos y26, if_neg nb]
  have r97 : (m.1 291 15).toInt = 1 → 6 ≤ (m.1 291 16).toInt → ∀ s0 s1 : Int32, ((s0 = s1 ∧ bad5 (VF' B L i) k) ∨ (¬ s0 = s1 ∧ ¬ bad5 (VF' B L i) k)) → vOk (ST2 B L m (i, 1, fs, k, C, w)) (fX12_begins_97 291 s0 s1 m) := by
    intro hs h6 s0 s1 hh
    unfold fX12_begins_97
    rcases hh with ⟨e, b⟩ | ⟨e, b⟩
    · rw [if_neg (not_not_intro e)]
      refine er 5 5 rfl (by decide) ?_
      have y26 := (TK_n tr hs h6).1
      unfold aS1
      rw [if_neg (fun z => by rw [y26] at z; exact absurd z (by decide)), if_pos y26, if_pos b]
    · rw [if_pos e]
      exact r106 hs h6 b
  have r85 : (m.1 291 15).toInt = 1 → 7 ≤ (m.1 291 16).toInt → ∀ s0 : Int32, ((s0 = 0 ∧ 11 ≤ (m.1 291 16).toInt) ∨ (s0 = 1 ∧ (m.1 291 16).toInt < 11)) → vOk (ST2 B L m (i, 1, fs, k, C, w)) (fX12_begins_85 291 s0 m) := by
    intro hs h7 s0 hh
    have yV := (TK_n tr hs (by omega)).2.1
    unfold fX12_begins_85
    refine vAl (x := m.1 291 28) rfl ?_
    refine vNe (fun g => ?_) (fun g => ?_)
    · have hk0 : ¬ k = 0 := fun q => g ((k28.mpr q).trans c0.symm)
      refine r97 hs (by omega) s0 0 ?_
      rcases hh with ⟨e, b⟩ | ⟨e, b⟩
      · exact Or.inl ⟨e, by omega, Or.inr ⟨by omega, hk0⟩⟩
      · exact Or.inr ⟨by rw [e]; decide, fun q => by omega⟩
    · have hk0 : k = 0 := k28.mp (g.trans c0)
      refine r97 hs (by omega) s0 1 ?_
      rcases hh with ⟨e, b⟩ | ⟨e, b⟩
      · exact Or.inr ⟨by rw [e]; decide, fun q => by omega⟩
      · exact Or.inl ⟨e, by omega, Or.inl ⟨by omega, hk0⟩⟩
  have rsig : ∀ (f : Nat) (p : Int32 × xMem), (f = 6 ∨ f = 7) → (m.1 291 15).toInt = 3 → (opn lv < 8 → aS1 (KF' B L) (VF' B L) i fs k C w = (0, (i + 1, 1, f :: fs, k, C, w))) → ((ST2 B L m (i, 1, fs, k, C, w) p.2 ∧ opn lv = 8) ∨ (opn lv < 8 ∧ BN m p.2 ((f, []) :: lv) s O H Cn ∧ p.2.1 291 26 = m.1 291 26 ∧ TI B L p.2 (i + 1))) → vOk (ST2 B L m (i, 1, fs, k, C, w)) (fX12_begins_175 291 p.2) := by
    intro f p hf hs hg hp
    unfold fX12_begins_175
    refine vOk_some ?_
    rcases hp with q | ⟨q1, q2, q3, q4⟩
    · exact q.1
    have o : opn ((f, []) :: lv) = 1 + opn lv := by
      show (if f = 3 ∨ f = 6 ∨ f = 7 then 1 else 0) + opn lv = _
      rw [if_pos (by omega)]
    have pp : pnd ((f, []) :: lv) ≤ 1 + pnd lv := by
      show (if f = 3 ∨ f = 5 ∨ f = 7 then 1 else 0) + pnd lv ≤ _
      by_cases z : f = 3 ∨ f = 5 ∨ f = 7
      · rw [if_pos z]; omega
      · rw [if_neg z]; omega
    have ww : wsum ((f, []) :: lv) = 0 + wsum lv := rfl
    have r : rgt ((f, []) :: lv) = rgt lv := by
      show (if f = 5 then 1 else 0) + rgt lv = _
      rw [if_neg (by omega)]; omega
    refine ST2_BN q2 hw (by omega) t (by omega) (by omega) (Or.inr (Or.inl ⟨by rw [q3]; exact hst, ?_, by omega, hc, by rw [q2.2.2.1.2 306 Cn (by omega)]; exact cur⟩)) hB q4 (by rw [q3]; exact hst) (st := 1) (st' := 1) (fs' := f :: fs) (by rw [← mp]; rfl) (by decide) kw (eS.trans (hg q1))
    rcases hf with rfl | rfl
    · exact Or.inr (Or.inr (Or.inl ⟨rfl, ⟨trivial, trivial⟩, hN⟩))
    · exact Or.inr (Or.inr (Or.inr ⟨rfl, rfl, hN⟩))
  have r132 : ¬ KF' B L i = 2 → ¬ KF' B L i = 26 → vOk (ST2 B L m (i, 1, fs, k, C, w)) (fX12_begins_132 291 m) := by
    intro n2 n26
    unfold fX12_begins_132
    refine vBindP isSign_d fun v _ hv => ?_
    dsimp only
    refine vEq (fun g => ?_) (fun g => ?_)
    · have n13 : ¬ KF' B L i = 13 := fun z => by have y := TK_13' tr z; omega
      refine vBindP isSign_d fun v2 _ hv2 => ?_
      dsimp only
      refine vEq (fun g2 => ?_) (fun g2 => ?_)
      · have n10 : ¬ KF' B L i = 10 := fun z => by have y := TK_10' tr z; omega
        unfold fX12_begins_175
        refine er 1 1 rfl (by decide) ?_
        unfold aS1
        rw [if_neg n2, if_neg n26, if_neg n13, if_neg n10]
      · have y10 : KF' B L i = 10 := TK_10 tr (by omega) (by omega)
        refine vOk_bind (opensSign_d (f := 7) (i := i) (c := (i, 1, fs, k, C, w)) h t hw h19 h8 (by omega) rfl (by omega) hB hi (fun z => by rw [eS]; unfold aS1; rw [if_neg n2, if_neg n26, if_neg n13, if_pos y10, if_pos (by omega)])) fun p hp => ?_
        exact rsig 7 p (by omega) (by omega) (fun z => by unfold aS1; rw [if_neg n2, if_neg n26, if_neg n13, if_pos y10, if_neg (by omega)]) hp
    · have y13 : KF' B L i = 13 := TK_13 tr (by omega) (by omega)
      refine vOk_bind (opensSign_d (f := 6) (i := i) (c := (i, 1, fs, k, C, w)) h t hw h19 h8 (by omega) rfl (by omega) hB hi (fun z => by rw [eS]; unfold aS1; rw [if_neg n2, if_neg n26, if_pos y13, if_pos (by omega)])) fun p hp => ?_
      exact rsig 6 p (by omega) (by omega) (fun z => by unfold aS1; rw [if_neg n2, if_neg n26, if_pos y13, if_neg (by omega)]) hp
  unfold fX12_begins fX12_begins_0
  refine vAl (x := m.1 291 15) rfl ?_
  refine vNe (fun g => ?_) (fun g => ?_)
  · refine vAl (x := m.1 291 15) rfl ?_
    refine vNe (fun g2 => r132 (fun z => by have y := TK_2' tr z; omega) (fun z => by have y := TK_n' tr z; omega)) (fun g2 => ?_)
    refine vAl (x := m.1 291 16) rfl ?_
    refine vLe (fun g3 => r132 (fun z => by have y := TK_2' tr z; omega) (fun z => by have y := TK_n' tr z; omega)) (fun g3 => ?_)
    refine vAl (x := m.1 291 16) rfl ?_
    refine vLe (fun g4 => r106 (by omega) (by omega) (fun q => by have := q.1; have y := TK_n tr (by omega) (by omega); omega)) (fun g4 => ?_)
    refine vAl (x := m.1 291 16) rfl ?_
    refine vLe (fun g5 => r85 (by omega) (by omega) _ (Or.inl ⟨rfl, by omega⟩)) (fun g5 => r85 (by omega) (by omega) _ (Or.inr ⟨rfl, by omega⟩))
  · have y2' := TK_2 tr (by omega)
    have y2 : KF' B L i = 2 := y2'.1
    have y3 := y2'.2.2.1
    have y4 := y2'.2.2.2
    clear y2'
    refine vAl (x := m.1 291 16) rfl ?_
    refine vLe (fun g2 => ?_) (fun g2 => ?_)
    · refine vAl (x := m.1 291 16) rfl ?_
      refine one _ _ ⟨by decide, Or.inl ⟨rfl, by omega, rfl⟩⟩ (by omega) ?_
      unfold aS1
      rw [if_pos y2, if_neg (by omega)]
    · refine er 2 2 rfl (by decide) ?_
      unfold aS1
      rw [if_pos y2, if_pos (by omega)]
end
