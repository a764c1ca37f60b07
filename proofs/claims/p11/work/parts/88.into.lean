/-! the class's reader of clauses and texts keeps to the machine -/
def FC (r : Nat) (m m1 : xMem) : Prop := m1.2 = m.2 ∧ ∀ b j, ¬ ((b = 255 ∧ (j = 5 ∨ j = 6 ∨ j = 8 ∨ j = 9)) ∨ (r ≤ b ∧ b ≤ r + 5)) → m1.1 b j = m.1 b j
theorem FC_refl {r : Nat} {m : xMem} : FC r m m := ⟨rfl, fun _ _ _ => rfl⟩
theorem FC_tr {r : Nat} {a b c : xMem} (h1 : FC r a b) (h2 : FC r b c) : FC r a c := ⟨h2.1.trans h1.1, fun x j q => (h2.2 x j q).trans (h1.2 x j q)⟩
theorem FC_FR {r : Nat} {a b : xMem} (h : FR r a b) : FC r a b := ⟨h.1, fun x j q => h.2 x j (by omega)⟩
theorem FC_put {r : Nat} {m0 m : xMem} {b j : Nat} {v : Int32} (h : FC r m0 m) (hb : (b = 255 ∧ (j = 5 ∨ j = 6 ∨ j = 8 ∨ j = 9)) ∨ (r ≤ b ∧ b ≤ r + 5)) : FC r m0 (xPut m b j v) := by
  refine ⟨h.1, fun c i q => ?_⟩
  show (if c = b ∧ i = j then v else m.1 c i) = _
  rw [if_neg (by omega)]
  exact h.2 c i q
def CW (m : xMem) (r C w : Nat) : Prop := (m.1 r 6).toInt = (C : Int) ∧ C ≤ 10 ∧ ((∃ c : Nat, c < C ∧ (m.1 (r + 3) c).toInt = 0) ↔ ¬ w = 0)
section
variable {K V P : Nat → Int} {n r k C w : Nat}
theorem TKN_FC {m m1 : xMem} (hr : 260 ≤ r) (f : FC r m m1) (t : TKN m K V P n) : TKN m1 K V P n := by
  obtain ⟨a, b, c, d⟩ := t
  refine ⟨by rw [f.2 255 7 (by omega)]; exact a, b, fun i hi => ?_, d⟩
  rw [f.2 257 i (by omega), f.2 258 i (by omega), f.2 259 i (by omega)]
  exact c i hi
theorem CW_FR {m m1 : xMem} (hr : 260 ≤ r) (f : FR r m m1) (h : CW m r C w) : CW m1 r C w := by
  unfold CW at h ⊢
  rw [f.2 r 6 (by omega)]
  refine ⟨h.1, h.2.1, ?_⟩
  have e : ∀ c, m1.1 (r + 3) c = m.1 (r + 3) c := fun c => f.2 (r + 3) c (by omega)
  rw [← h.2.2]
  exact ⟨fun ⟨c, h1, h2⟩ => ⟨c, h1, by rw [← e]; exact h2⟩, fun ⟨c, h1, h2⟩ => ⟨c, h1, by rw [e]; exact h2⟩⟩
theorem RD_any {m : xMem} {i : Nat} (t : TKN m K V P n) (hi : (m.1 255 8).toInt = (i : Int)) (h1 : i ≤ 1000) : RD m K V P n i (if (m.1 255 9).toInt = 0 then 0 else 1) := by
  refine ⟨t, hi, ?_, h1⟩
  by_cases q : (m.1 255 9).toInt = 0
  · rw [if_pos q]; exact ⟨fun _ => rfl, fun _ => q⟩
  · rw [if_neg q]; exact ⟨fun z => absurd z q, fun z => absurd z (by decide)⟩
theorem has_loop {m : xMem} (h6 : (m.1 r 6).toInt = (C : Int)) (hC : C ≤ 10) : ∀ (fuel : Nat) (l2 : Int32), 0 ≤ l2.toInt → l2.toInt ≤ 10 → (∀ c : Nat, (c : Int) < l2.toInt → ¬ (m.1 (r + 3) c).toInt = 0) → 11 - l2.toInt < (fuel : Int) → vOk (PP m (fun x : Int32 => (x.toInt = 1 ∧ ∃ c : Nat, c < C ∧ (m.1 (r + 3) c).toInt = 0) ∨ (x.toInt = 0 ∧ ∀ c : Nat, c < C → ¬ (m.1 (r + 3) c).toInt = 0))) (fX10_has_2 r 0 fuel l2 m) := by
  have c0 : (0 : Int32).toInt = 0 := rfl
  have c1 : (1 : Int32).toInt = 1 := rfl
  have c10 : (10 : Int32).toInt = 10 := rfl
  intro fuel
  induction fuel with
  | zero => intro l2 h0 h1 _ hmu; exfalso; omega
  | succ fuel ih =>
    intro l2 h0 h1 hz hmu
    have wl : l2.toNatClampNeg = l2.toInt.toNat := rfl
    rw [fX10_has_2]
    refine vAl (x := m.1 r 6) rfl ?_
    refine vLe (fun g => ?_) (fun g => ?_)
    · unfold fX10_has_37
      exact rP (Or.inr ⟨rfl, fun c hc => hz c (by omega)⟩)
    · refine vLe (fun g2 => by exfalso; omega) (fun g2 => ?_)
      refine vIn (by omega) (by omega) fun _ => ?_
      refine vR fun x4 e4 => ?_
      refine vNe (fun g3 => ?_) (fun g3 => ?_)
      · refine vA (by omega) fun x7 e7 f7 => ?_
        refine ih x7 (by omega) (by omega) (fun c hc => ?_) (by omega)
        by_cases q : (c : Int) < l2.toInt
        · exact hz c q
        · rw [show c = l2.toNatClampNeg by omega, ← e4]
          omega
      · refine rP (Or.inl ⟨rfl, l2.toNatClampNeg, by omega, ?_⟩)
        rw [← e4]; omega
theorem has_k {m : xMem} (h : CW m r C w) : vOk (PP m (fun x : Int32 => (x.toInt = 1 ∧ ¬ w = 0) ∨ (x.toInt = 0 ∧ w = 0))) (fX10_has r 0 m) := by
  have c0 : (0 : Int32).toInt = 0 := rfl
  have cF := xFu
  unfold fX10_has fX10_has_0
  refine vOk_mono (has_loop h.1 h.2.1 xFuel 0 (by omega) (by omega) (fun c hc => by exfalso; omega) (by omega)) fun p q => ⟨q.1, ?_⟩
  rcases q.2 with ⟨a, b⟩ | ⟨a, b⟩
  · exact Or.inl ⟨a, h.2.2.mp b⟩
  · refine Or.inr ⟨a, ?_⟩
    by_cases z : w = 0
    · exact z
    · obtain ⟨c, h1, h2⟩ := h.2.2.mpr z
      exact absurd h2 (b c h1)
theorem open_k {m : xMem} {x : Int32} (hr : 260 ≤ r) (h : CW m r C w) (hC : C < 10) : vOk (fun m1 : xMem => FC r m m1 ∧ m1.1 255 = m.1 255 ∧ CW m1 r (C + 1) (if x.toInt = 0 then 1 else w)) (fX10_open r x m) := by
  have c0 : (0 : Int32).toInt = 0 := rfl
  have c1 : (1 : Int32).toInt = 1 := rfl
  have c10 : (10 : Int32).toInt = 10 := rfl
  obtain ⟨h6, hC10, hw⟩ := h
  unfold fX10_open fX10_open_0
  refine vAl (x := m.1 r 6) rfl ?_
  refine vLt (fun g => by exfalso; omega) (fun _ => ?_)
  refine vAl (x := m.1 r 6) rfl ?_
  refine vLe (fun g => by exfalso; omega) (fun _ => ?_)
  refine vAl (x := m.1 r 6) rfl ?_
  refine vIn (by omega) (by omega) fun _ => ?_
  rw [wN h6]
  refine vR fun m6 e6 => ?_
  refine vAl (x := m.1 r 6) (xP_plE e6 (by omega)) ?_
  refine vA (by omega) fun x9 e9 f9 => ?_
  refine vR fun m10 e10 => ?_
  unfold fX10_open_39
  have z6 : m10.1 r 6 = x9 := by rw [e10]; exact xP_eq.symm
  have zC : m10.1 (r + 3) C = x := by rw [e10, ← xP_pl (by omega), e6]; exact xP_eq.symm
  have zo : ∀ c, c ≠ C → m10.1 (r + 3) c = m.1 (r + 3) c := fun c hc => by rw [e10, ← xP_pl (by omega), e6, ← xP_sl hc]
  refine vOk_some ⟨by rw [e10, e6]; exact FC_put (FC_put FC_refl (by omega)) (by omega), funext fun j => by rw [e10, ← xP_pl (by omega), e6, ← xP_pl (by omega)], by rw [z6]; omega, by omega, ?_⟩
  constructor
  · rintro ⟨c, h1, h2⟩
    by_cases q : c = C
    · rw [q, zC] at h2
      rw [if_pos h2]; decide
    · rw [zo c q] at h2
      have := hw.mp ⟨c, by omega, h2⟩
      by_cases y : x.toInt = 0
      · rw [if_pos y]; decide
      · rw [if_neg y]; exact this
  · intro q
    by_cases y : x.toInt = 0
    · exact ⟨C, Nat.lt_succ_self C, by rw [zC]; exact y⟩
    · rw [if_neg y] at q
      obtain ⟨c, h1, h2⟩ := hw.mpr q
      exact ⟨c, by omega, by rw [zo c (by omega)]; exact h2⟩
theorem close_k {m : xMem} (hr : 260 ≤ r) : vOk (fun m1 : xMem => FC r m m1 ∧ m1.1 255 = m.1 255 ∧ ∀ C w, CW m r C w → CW m1 r C w) (fX10_close r m) := by
  have c0 : (0 : Int32).toInt = 0 := rfl
  have c1 : (1 : Int32).toInt = 1 := rfl
  have c10 : (10 : Int32).toInt = 10 := rfl
  have id : FC r m m ∧ m.1 255 = m.1 255 ∧ ∀ C w, CW m r C w → CW m r C w := ⟨FC_refl, rfl, fun _ _ h => h⟩
  unfold fX10_close fX10_close_0
  refine vAl (x := m.1 r 6) rfl ?_
  refine vLe (fun g => vOk_some id) (fun _ => ?_)
  refine vAl (x := m.1 r 6) rfl ?_
  refine vLt (fun g => vOk_some id) (fun _ => ?_)
  refine vAl (x := m.1 r 6) rfl ?_
  refine vS (by omega) fun x6 e6 f6 => ?_
  refine vAny fun x7 => ?_
  refine vIn (by omega) (by omega) fun _ => ?_
  refine vR fun m8 e8 => ?_
  unfold fX10_close_34
  refine vOk_some ⟨by rw [e8]; exact FC_put FC_refl (by omega), funext fun j => by rw [e8, ← xP_pl (by omega)], fun C w h => ?_⟩
  unfold CW at h ⊢
  have e : ∀ c, m8.1 (r + 3) c = m.1 (r + 3) c := fun c => by rw [e8, ← xP_pl (by omega)]
  rw [e8, ← xP_pl (by omega)]
  refine ⟨h.1, h.2.1, ?_⟩
  rw [← h.2.2]
  exact ⟨fun ⟨c, h1, h2⟩ => ⟨c, h1, by rw [← e, e8]; exact h2⟩, fun ⟨c, h1, h2⟩ => ⟨c, h1, by rw [← e8, e]; exact h2⟩⟩
theorem clauseK_c {i : Nat} {m : xMem} (hr : 260 ≤ r) (hKr : ∀ i, 0 ≤ K i ∧ K i ≤ 26) (t : TKN m K V P n) (hi : (m.1 255 8).toInt = (i : Int)) (hi1 : i ≤ 1000) (cw : CW m r C w) (hK : ¬ K i = 0) : vOk (fun p : Int32 × xMem => FC r m p.2 ∧ ((p.1 = 1 ∧ ∃ i2 k2 w2 : Nat, (p.2.1 255 8).toInt = (i2 : Int) ∧ S56 m p.2 ∧ i + 1 ≤ i2 ∧ i2 ≤ 1000 ∧ CW p.2 r (C + 1) w2 ∧ Rc K V (i, 4, [], k, C, w) (i2, 4, [], k2, C + 1, w2)) ∨ (p.1 = 0 ∧ ∃ f j : Nat, Er K V (i, 4, [], k, C, w) f j ∧ ¬ f = 9 ∧ (p.2.1 255 5).toInt = (f : Int) ∧ (p.2.1 255 6).toInt = P j))) (fX7_readClause 255 r m) := by
  have c0 : (0 : Int32).toInt = 0 := rfl
  have c1 : (1 : Int32).toInt = 1 := rfl
  have c2 : (2 : Int32).toInt = 2 := rfl
  have c10 : (10 : Int32).toInt = 10 := rfl
  have c15 : (15 : Int32).toInt = 15 := rfl
  have c20 : (20 : Int32).toInt = 20 := rfl
  have hn : i < n := knz t.2.2.2 hK
  have tn := t.2.1
  have kr := hKr i
  have eS : gS K V (i, 4, [], k, C, w) = aS4 K i [] k C w := rfl
  unfold fX7_readClause fX7_readClause_0
  refine vBindP (kind_k (RD_any t hi hi1)) fun x _ hx => ?_
  dsimp only
  refine vS (by omega) fun x2 e2 f2 => ?_
  refine vR fun m3 e3 => ?_
  have z9 : m3.1 255 9 = x2 := by rw [e3]; exact xP_eq.symm
  have F3 : FC r m m3 := by rw [e3]; exact FC_put FC_refl (by omega)
  have S3 : S56 m m3 := by rw [e3]; exact S56_8 S56_refl (by omega)
  have t3 : TKN m3 K V P n := TKN_FC hr F3 t
  have cw3 : CW m3 r C w := by
    have e : ∀ c, m3.1 (r + 3) c = m.1 (r + 3) c := fun c => by rw [e3, ← xP_pl (by omega)]
    unfold CW at cw ⊢
    rw [show m3.1 r 6 = m.1 r 6 by rw [e3, ← xP_pl (by omega)]]
    refine ⟨cw.1, cw.2.1, ?_⟩
    rw [← cw.2.2]
    exact ⟨fun ⟨c, h1, h2⟩ => ⟨c, h1, by rw [← e]; exact h2⟩, fun ⟨c, h1, h2⟩ => ⟨c, h1, by rw [e]; exact h2⟩⟩
  have R3 : RD m3 K V P n i (if K i = 20 then 0 else 1) := by
    refine ⟨t3, by rw [e3, ← xP_sl (by omega)]; exact hi, ?_, hi1⟩
    rw [z9]
    by_cases q : K i = 20
    · rw [if_pos q]; exact ⟨fun _ => rfl, fun _ => by omega⟩
    · rw [if_neg q]; exact ⟨fun z => by exfalso; omega, fun z => absurd z (by decide)⟩
  have er : ∀ (f : Nat) (f' : Int32), f'.toInt = (f : Int) → (¬ f = 0 ∧ ¬ f = 9) → aS4 K i [] k C w = (f, (i, 4, [], k, C, w)) → vOk (fun p : Int32 × xMem => FC r m p.2 ∧ ((p.1 = 1 ∧ ∃ i2 k2 w2 : Nat, (p.2.1 255 8).toInt = (i2 : Int) ∧ S56 m p.2 ∧ i + 1 ≤ i2 ∧ i2 ≤ 1000 ∧ CW p.2 r (C + 1) w2 ∧ Rc K V (i, 4, [], k, C, w) (i2, 4, [], k2, C + 1, w2)) ∨ (p.1 = 0 ∧ ∃ f j : Nat, Er K V (i, 4, [], k, C, w) f j ∧ ¬ f = 9 ∧ (p.2.1 255 5).toInt = (f : Int) ∧ (p.2.1 255 6).toInt = P j))) ((fX7_fails 255 f' m3).bind fun p2 => bif (decide (p2.1 = 0) || decide (p2.1 = 1)) then some (p2.1, p2.2) else none) := by
    intro f f' hf' hf hs
    refine vOk_bind (fails_k (r := r) R3) fun p hp => ?_
    refine v01x (Or.inl hp.1) (vOk_some ⟨FC_tr F3 (FC_FR hp.2.2.2), Or.inr ⟨hp.1, f, i, Er_1 (eS.trans hs) hf.1, hf.2, ?_, hp.2.2.1⟩⟩)
    show (p.2.1 255 5).toInt = _
    rw [hp.2.1]; exact hf'
  have r140 : ∀ (l2 : Int32) (m1 : xMem), (l2 = 0 ∨ l2 = 1) → (∀ x : Int32, x = m1.1 255 8 + 1 → (FC r m (xPut m1 255 8 x) ∧ ((l2 = 1 ∧ ∃ i2 k2 w2 : Nat, ((xPut m1 255 8 x).1 255 8).toInt = (i2 : Int) ∧ S56 m (xPut m1 255 8 x) ∧ i + 1 ≤ i2 ∧ i2 ≤ 1000 ∧ CW (xPut m1 255 8 x) r (C + 1) w2 ∧ Rc K V (i, 4, [], k, C, w) (i2, 4, [], k2, C + 1, w2)) ∨ (l2 = 0 ∧ ∃ f j : Nat, Er K V (i, 4, [], k, C, w) f j ∧ ¬ f = 9 ∧ ((xPut m1 255 8 x).1 255 5).toInt = (f : Int) ∧ ((xPut m1 255 8 x).1 255 6).toInt = P j)))) → vOk (fun p : Int32 × xMem => FC r m p.2 ∧ ((p.1 = 1 ∧ ∃ i2 k2 w2 : Nat, (p.2.1 255 8).toInt = (i2 : Int) ∧ S56 m p.2 ∧ i + 1 ≤ i2 ∧ i2 ≤ 1000 ∧ CW p.2 r (C + 1) w2 ∧ Rc K V (i, 4, [], k, C, w) (i2, 4, [], k2, C + 1, w2)) ∨ (p.1 = 0 ∧ ∃ f j : Nat, Er K V (i, 4, [], k, C, w) f j ∧ ¬ f = 9 ∧ (p.2.1 255 5).toInt = (f : Int) ∧ (p.2.1 255 6).toInt = P j))) (fX7_readClause_140 255 r l2 m1) := by
    intro l2 m1 h q
    unfold fX7_readClause_140
    refine vAl (x := m1.1 255 8) rfl ?_
    refine vR fun x e => ?_
    refine vR fun y ey => ?_
    refine v01x h (vOk_some ?_)
    rw [ey]
    exact q x e
  have r61 : (K i = 20 ∨ K i = 21 ∨ K i = 22) → ¬ (K i = 20 ∧ ¬ w = 0) → vOk (fun p : Int32 × xMem => FC r m p.2 ∧ ((p.1 = 1 ∧ ∃ i2 k2 w2 : Nat, (p.2.1 255 8).toInt = (i2 : Int) ∧ S56 m p.2 ∧ i + 1 ≤ i2 ∧ i2 ≤ 1000 ∧ CW p.2 r (C + 1) w2 ∧ Rc K V (i, 4, [], k, C, w) (i2, 4, [], k2, C + 1, w2)) ∨ (p.1 = 0 ∧ ∃ f j : Nat, Er K V (i, 4, [], k, C, w) f j ∧ ¬ f = 9 ∧ (p.2.1 255 5).toInt = (f : Int) ∧ (p.2.1 255 6).toInt = P j))) (fX7_readClause_61 255 r m3) := by
    intro hk hw
    unfold fX7_readClause_61
    refine vAl (x := m3.1 r 6) rfl ?_
    have h6 := cw3.1
    have hC10 := cw3.2.1
    refine vLt (fun g => ?_) (fun g => ?_)
    · have hC : C < 10 := by omega
      have st : gS K V (i, 4, [], k, C, w) = (0, (i + 1, if K i = 20 then 1 else 0, if K i = 20 then [1] else [2], if K i = 20 then 0 else 1, C + 1, if K i = 20 then 1 else w)) := by
        rw [eS]; unfold aS4
        rw [if_neg hK, if_neg (not_not_intro hk), if_neg hw, if_neg (by omega)]
      refine vAl (x := m3.1 255 8) rfl ?_
      have h8 := R3.2.1
      refine vA (by omega) fun x4 e4 f4 => ?_
      refine vR fun m5 e5 => ?_
      have F5 : FR r m3 m5 := by rw [e5]; exact FR_put FR_refl (by omega)
      have R5 : RD m5 K V P n (i + 1) (if K i = 20 then 0 else 1) := by rw [e5]; exact RD_8 hr R3 (by omega) (by omega)
      have S5 : S56 m m5 := by rw [e5]; exact S56_8 S3 (by omega)
      refine vAl (x := x2) (by rw [F5.2 255 9 (by omega), z9]) ?_
      refine vOk_bind (open_k (x := x2) hr (CW_FR hr F5 cw3) hC) fun p7 q => ?_
      obtain ⟨q1, q2, q3⟩ := q
      have S7 : S56 m p7 := S56_r S5 q2
      have F7 : FC r m p7 := FC_tr (FC_tr F3 (FC_FR F5)) q1
      have R7 : RD p7 K V P n (i + 1) (if K i = 20 then 0 else 1) := ⟨TKN_FC hr q1 R5.1, by rw [congrFun q2 8]; exact R5.2.1, by rw [congrFun q2 9]; exact R5.2.2.1, by omega⟩
      have hw' : (if x2.toInt = 0 then 1 else w) = (if K i = 20 then 1 else w) := by
        by_cases y : K i = 20
        · rw [if_pos y, if_pos (by omega)]
        · rw [if_neg y, if_neg (by omega)]
      rw [hw'] at q3
      -- behind the clause's code
      have r116 : ∀ (c' : Cf) (e' : Nat → Cf) (p : Int32 × xMem), Rc K V (i, 4, [], k, C, w) c' → (∀ i', K i' = 15 → ¬ isOpr (K i') ∧ ¬ (K i' = 23 ∨ K i' = 24) → gS K V (e' i') = (0, (i' + 1, 4, [], if K i = 20 then 0 else 1, C + 1, if K i = 20 then 1 else w))) → (∀ i', (e' i').1 = i') → RS K V P r p7 c' (fun i' => i + 2 ≤ i' ∧ i' ≤ 1000 ∧ Rc K V c' (e' i') ∧ (¬ K i' = 15 → gS K V (e' i') = (1, e' i'))) p → vOk (fun p : Int32 × xMem => FC r m p.2 ∧ ((p.1 = 1 ∧ ∃ i2 k2 w2 : Nat, (p.2.1 255 8).toInt = (i2 : Int) ∧ S56 m p.2 ∧ i + 1 ≤ i2 ∧ i2 ≤ 1000 ∧ CW p.2 r (C + 1) w2 ∧ Rc K V (i, 4, [], k, C, w) (i2, 4, [], k2, C + 1, w2)) ∨ (p.1 = 0 ∧ ∃ f j : Nat, Er K V (i, 4, [], k, C, w) f j ∧ ¬ f = 9 ∧ (p.2.1 255 5).toInt = (f : Int) ∧ (p.2.1 255 6).toInt = P j))) (fX7_readClause_116 255 r p.1 p.2) := by
        intro c' e' p hc hg he hp
        obtain ⟨pF, hp⟩ := hp
        unfold fX7_readClause_116
        refine vOk_bind (close_k hr) fun p1 y => ?_
        obtain ⟨y1, y2, y3⟩ := y
        have Fp : FC r m p1 := FC_tr F7 (FC_tr (FC_FR pF) y1)
        rcases hp with ⟨a, i', b, bs, b1, b2, b3, b4⟩ | ⟨a, f, j, b, b1, b2, b3⟩
        · rw [a, if_neg (show ¬ (1 : Int32) = 0 by decide)]
          have cwp : CW p1 r (C + 1) (if K i = 20 then 1 else w) := y3 _ _ (CW_FR hr pF q3)
          have tp : TKN p1 K V P n := TKN_FC hr (FC_tr (FC_FR pF) y1) R7.1
          have h8p : (p1.1 255 8).toInt = (i' : Int) := by rw [congrFun y2 8]; exact b
          have Sp : S56 m p1 := S56_tr S7 (S56_r bs y2)
          refine vBindP (kind_k (RD_any tp h8p b2)) fun x _ hx => ?_
          dsimp only
          refine vEq (fun g3 => ?_) (fun g3 => ?_)
          · have h15 : K i' = 15 := by omega
            have hn' : i' < n := knz t.2.2.2 (by omega)
            refine r140 1 p1 (Or.inr rfl) fun x ex => ⟨FC_put Fp (by omega), Or.inl ⟨rfl, i' + 1, _, _, ?_, S56_8 Sp (by omega), by omega, by omega, ?_, Rc_tr hc (Rc_tr b3 (Rc_1 (hg i' h15 ⟨by unfold isOpr; omega, by omega⟩)))⟩⟩
            · rw [show (xPut p1 255 8 x).1 255 8 = x from xP_eq.symm, ex, add1 (n := 1000) (by omega) (by omega)]
              omega
            · exact CW_FR hr (FR_put (r := r) FR_refl (by omega)) cwp
          · refine vOk_bind (fails_k (r := r) (RD_any tp h8p b2)) fun q' hp' => ?_
            refine v01x (Or.inl hp'.1) (vOk_some ⟨FC_tr Fp (FC_FR hp'.2.2.2), Or.inr ⟨hp'.1, 1, i', ?_, by decide, ?_, hp'.2.2.1⟩⟩)
            · have z := Er_tr (Rc_tr hc b3) (Er_1 (b4 (by omega)) (by decide))
              rw [he i'] at z
              exact z
            · show (q'.2.1 255 5).toInt = _
              rw [hp'.2.1]; rfl
        · rw [a, if_pos rfl]
          refine r140 0 p1 (Or.inl rfl) fun x ex => ⟨FC_put Fp (by omega), Or.inr ⟨rfl, f, j, Er_tr hc b, b1, ?_, ?_⟩⟩
          · rw [← xP_sl (by omega), congrFun y2 5]; exact b2
          · rw [← xP_sl (by omega), congrFun y2 6]; exact b3
      refine vAl (x := x2) (by rw [congrFun q2 9, F5.2 255 9 (by omega), z9]) ?_
      refine vNe (fun g2 => ?_) (fun g2 => ?_)
      · have h20 : ¬ K i = 20 := by omega
        rw [if_neg h20, if_neg h20, if_neg h20, if_neg h20] at st
        rw [if_neg h20] at R7
        refine vOk_bind (either_c (C := C + 1) (w := w) hr R7) fun p10 hp => ?_
        refine r116 (i + 1, 0, [2], 1, C + 1, w) (fun i' => (i', 3, [2], 1, C + 1, w)) p10 (Rc_1 st) (fun i' h15 hh => ?_) (fun _ => rfl) ?_
        · rw [if_neg h20, if_neg h20]
          show aS3 K i' [2] 1 (C + 1) w = _
          unfold aS3
          rw [if_neg hh.2, if_pos ⟨rfl, h15⟩]
        · obtain ⟨pF, hp⟩ := hp
          refine ⟨pF, ?_⟩
          rcases hp with ⟨a, i', b, bs, b1, b2, b3, b4, b5⟩ | d
          · refine Or.inl ⟨a, i', b, bs, by omega, b2, b3, fun z => ?_⟩
            show aS3 K i' [2] 1 (C + 1) w = _
            unfold aS3
            rw [if_neg (by omega), if_neg (fun y => z y.2)]
          · exact Or.inr d
      · have h20 : K i = 20 := by omega
        rw [if_pos h20, if_pos h20, if_pos h20, if_pos h20] at st
        rw [if_pos h20] at R7
        refine vOk_bind (readSum_c (C := C + 1) (w := 1) hr (o := 0) (by omega) [1] (i + 1) p7 0 rfl rfl (by decide) R7) fun p11 hp => ?_
        refine r116 (i + 1, 1, [1], 0, C + 1, 1) (fun i' => (i', 2, [1], 0, C + 1, 1)) p11 (Rc_1 st) (fun i' h15 hh => ?_) (fun _ => rfl) ?_
        · rw [if_pos h20, if_pos h20]
          show aS2 K i' [1] 0 (C + 1) 1 = _
          unfold aS2
          rw [if_neg hh.1, if_neg (fun z => absurd z.1 (by show ¬ (1 : Nat) = 6; decide)), if_neg (fun z => absurd z.1 (by show ¬ (1 : Nat) = 4; decide)), if_neg (show ¬ topF [1] = 5 from by show ¬ (1 : Nat) = 5; decide), if_pos ⟨rfl, h15⟩]
        · obtain ⟨pF, hp⟩ := hp
          refine ⟨pF, ?_⟩
          rcases hp with ⟨a, i', b, bs, b1, b2, b3, b4⟩ | d
          · refine Or.inl ⟨a, i', b, bs, by omega, b2, b3, fun z => ?_⟩
            show aS2 K i' [1] 0 (C + 1) 1 = _
            unfold aS2
            rw [if_neg b4, if_neg (fun z => absurd z.1 (by show ¬ (1 : Nat) = 6; decide)), if_neg (fun z => absurd z.1 (by show ¬ (1 : Nat) = 4; decide)), if_neg (show ¬ topF [1] = 5 from by show ¬ (1 : Nat) = 5; decide), if_neg (fun y => z y.2)]
          · exact Or.inr d
    · refine er 6 6 rfl (by decide) ?_
      unfold aS4
      rw [if_neg hK, if_neg (not_not_intro hk), if_neg hw, if_pos (by omega)]
  have r40 : (K i = 20 ∨ K i = 21 ∨ K i = 22) → vOk (fun p : Int32 × xMem => FC r m p.2 ∧ ((p.1 = 1 ∧ ∃ i2 k2 w2 : Nat, (p.2.1 255 8).toInt = (i2 : Int) ∧ S56 m p.2 ∧ i + 1 ≤ i2 ∧ i2 ≤ 1000 ∧ CW p.2 r (C + 1) w2 ∧ Rc K V (i, 4, [], k, C, w) (i2, 4, [], k2, C + 1, w2)) ∨ (p.1 = 0 ∧ ∃ f j : Nat, Er K V (i, 4, [], k, C, w) f j ∧ ¬ f = 9 ∧ (p.2.1 255 5).toInt = (f : Int) ∧ (p.2.1 255 6).toInt = P j))) (fX7_readClause_40 255 r m3) := by
    intro hk
    unfold fX7_readClause_40
    refine vAl (x := x2) z9.symm ?_
    refine vNe (fun g2 => r61 hk (fun q => by omega)) (fun g2 => ?_)
    refine vBindP (has_k cw3) fun v _ hv => ?_
    dsimp only
    refine vEq (fun g3 => ?_) (fun g3 => ?_)
    · refine r61 hk (fun q => ?_)
      rcases hv with ⟨a, b⟩ | ⟨a, b⟩
      · omega
      · exact q.2 b
    · refine er 4 4 rfl (by decide) ?_
      have hw0 : ¬ w = 0 := by
        rcases hv with ⟨a, b⟩ | ⟨a, b⟩
        · exact b
        · omega
      unfold aS4
      rw [if_neg hK, if_neg (not_not_intro hk), if_pos ⟨by omega, hw0⟩]
  refine vAl (x := x2) z9.symm ?_
  refine vEq (fun g2 => r40 (by omega)) (fun g2 => ?_)
  refine vAl (x := x2) z9.symm ?_
  refine vEq (fun g3 => r40 (by omega)) (fun g3 => ?_)
  refine vAl (x := x2) z9.symm ?_
  refine vEq (fun g4 => r40 (by omega)) (fun g4 => ?_)
  refine er 1 1 rfl (by decide) ?_
  unfold aS4
  rw [if_neg hK, if_pos (by omega)]
/-- the end of a text -/
def RT (K V P : Nat → Int) (m : xMem) (p : Int32 × xMem) : Prop := ∃ f j : Nat, Er K V (0, 4, [], 0, 0, 0) f j ∧ ((p.1 = 1 ∧ f = 9 ∧ S56 m p.2) ∨ (p.1 = 0 ∧ ¬ f = 9 ∧ (p.2.1 255 5).toInt = (f : Int) ∧ (p.2.1 255 6).toInt = P j))
theorem into_loop (hr : 260 ≤ r) (hKr : ∀ i, 0 ≤ K i ∧ K i ≤ 26) {m0 : xMem} : ∀ (fuel : Nat) (l2 : Int32) (m : xMem) (i k C w : Nat), 0 ≤ l2.toInt → 1001 - l2.toInt < (fuel : Int) → TKN m K V P n → (m.1 255 8).toInt = (i : Int) → l2.toInt ≤ (i : Int) → i ≤ 1000 → CW m r C w → FC r m0 m → S56 m0 m → Rc K V (0, 4, [], 0, 0, 0) (i, 4, [], k, C, w) → vOk (fun p => FC r m0 p.2 ∧ RT K V P m0 p) (fX7_readInto_36 255 r fuel l2 m) := by
  have c0 : (0 : Int32).toInt = 0 := rfl
  have c1 : (1 : Int32).toInt = 1 := rfl
  intro fuel
  induction fuel with
  | zero =>
    intro l2 m i k C w h0 hmu t hi hl hi1 cw F S hc
    exfalso
    have := t.1
    have := t.2.1
    omega
  | succ fuel ih =>
    intro l2 m i k C w h0 hmu t hi hl hi1 cw F S hc
    have t7 := t.1
    have tn := t.2.1
    have done : K i = 0 → vOk (fun p => FC r m0 p.2 ∧ RT K V P m0 p) (fX7_readInto_67 255 r m) := by
      intro hK
      unfold fX7_readInto_67
      refine vOk_some ⟨F, 9, i, Er_tr hc (Er_1 (d := (i, 4, [], k, C, w)) ?_ (by decide)), Or.inl ⟨rfl, rfl, S⟩⟩
      show aS4 K i [] k C w = _
      unfold aS4
      rw [if_pos hK]
    rw [fX7_readInto_36]
    refine vAl (x := m.1 255 7) rfl ?_
    refine vLe (fun g => ?_) (fun g => ?_)
    · exact done (t.2.2.2 i (by omega)).1
    · refine vBindP (kind_k (RD_any t hi hi1)) fun x _ hx => ?_
      dsimp only
      refine vEq (fun g2 => done (by omega)) (fun g2 => ?_)
      refine vOk_bind (clauseK_c (k := k) hr hKr t hi hi1 cw (by omega)) fun p5 q => ?_
      obtain ⟨qF, q⟩ := q
      rcases q with ⟨a, i2, k2, w2, b1, b2, b3, b4, b5, b6⟩ | ⟨a, f, j, b1, b2, b3, b4⟩
      · rw [a, if_pos (show ¬ (1 : Int32) = 0 by decide)]
        refine vA (by omega) fun x7 e7 f7 => ?_
        exact ih x7 p5.2 i2 k2 (C + 1) w2 (by omega) (by omega) (TKN_FC hr qF t) b1 (by omega) b4 b5 (FC_tr F qF) (S56_tr S b2) (Rc_tr hc b6)
      · rw [a, if_neg (not_not_intro rfl)]
        exact vOk_some ⟨FC_tr F qF, f, j, Er_tr hc b1, Or.inr ⟨rfl, b2, b3, b4⟩⟩
end
