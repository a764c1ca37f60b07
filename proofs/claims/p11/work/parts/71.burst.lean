/-! the reference: run, by, burst; what keeps GR -/
theorem GA_cnt {g g' : Nat → Int32} (h : GA g) (e : ∀ j, 1 ≤ j → j ≤ 8 → g' j = g j) : bw 0 6 (g' 1) ∧ bw 0 10 (g' 2) ∧ bw 0 30 (g' 3) ∧ bw 0 4 (g' 4) ∧ bw (-1) 3 (g' 5) ∧ bw 0 40 (g' 6) ∧ bw 0 6 (g' 7) ∧ bw 0 60 (g' 8) := by
  rw [e 1 (by omega) (by omega), e 2 (by omega) (by omega), e 3 (by omega) (by omega), e 4 (by omega) (by omega), e 5 (by omega) (by omega), e 6 (by omega) (by omega), e 7 (by omega) (by omega), e 8 (by omega) (by omega)]
  exact h.1
theorem GA_rows {g g' : Nat → Int32} (h : GA g) (e : ∀ j, 210 ≤ j → j < 350 → g' j = g j) : ∀ l : Nat, l < 10 → bw 0 2 (g' (210 + 14 * l)) ∧ bw 0 5 (g' (211 + 14 * l)) ∧ bw 0 5 (g' (212 + 14 * l)) ∧ bw 0 40 (g' (213 + 14 * l)) ∧ bw 0 99 (g' (214 + 14 * l)) := by
  intro l hl
  rw [e (210 + 14 * l) (by omega) (by omega), e (211 + 14 * l) (by omega) (by omega), e (212 + 14 * l) (by omega) (by omega), e (213 + 14 * l) (by omega) (by omega), e (214 + 14 * l) (by omega) (by omega)]
  exact h.2.1 l hl
theorem GA_cyc {g g' : Nat → Int32} (h : GA g) (e : ∀ j, 210 ≤ j → j < 350 → g' j = g j) (e2 : g' 2 = g 2) : ∀ l : Nat, (l : Int) < (g' 2).toInt → (g' (210 + 14 * l)).toInt = 2 → 1 ≤ (g' (214 + 14 * l)).toInt := by
  intro l hl
  rw [e2] at hl
  have := h.1.2.1.2
  rw [e (210 + 14 * l) (by omega) (by omega), e (214 + 14 * l) (by omega) (by omega)]
  exact h.2.2.1 l hl
theorem GA_bur {g g' : Nat → Int32} (h : GA g) (e : ∀ j, 360 ≤ j → j < 570 → g' j = g j) : ∀ k : Nat, k < 30 → bw 0 5 (g' (362 + 7 * k)) ∧ bw 0 5 (g' (363 + 7 * k)) ∧ bw 0 1 (g' (365 + 7 * k)) := by
  intro l hl
  rw [e (362 + 7 * l) (by omega) (by omega), e (363 + 7 * l) (by omega) (by omega), e (365 + 7 * l) (by omega) (by omega)]
  exact h.2.2.2.1 l hl
theorem GA_stp {g g' : Nat → Int32} (h : GA g) (e : ∀ j, 580 ≤ j → j < 1380 → g' j = g j) : ∀ j : Nat, j < 800 → bw (-1) 15 (g' (580 + j)) := by
  intro j hj
  rw [e (580 + j) (by omega) (by omega)]
  exact h.2.2.2.2.1 j hj
theorem GA_lds {g g' : Nat → Int32} (h : GA g) (e : ∀ j, 1550 ≤ j → j < 1610 → g' j = g j) : ∀ j : Nat, j < 60 → bw 0 80 (g' (1550 + j)) := by
  intro j hj
  rw [e (1550 + j) (by omega) (by omega)]
  exact h.2.2.2.2.2 j hj
theorem GR_ofA {R S : xMem} (hG : GR R) (hA : GA (S.1 292)) (h2 : ∀ b, 293 ≤ b → ∀ j, S.1 b j = R.1 b j) : GR S := by
  obtain ⟨_, g, k⟩ := hG
  refine ⟨hA, fun j => ?_, fun t ht i hi => ?_⟩
  · rw [h2 296 (by omega)]; exact g j
  · rw [h2 296 (by omega)] at hi
    have e9 : S.1 299 = R.1 299 := funext (h2 299 (by omega))
    have e10 : S.1 300 = R.1 300 := funext (h2 300 (by omega))
    have q := k t ht i hi
    rw [h2 298 (by omega)]
    unfold VC at q ⊢
    rw [e9, e10]
    exact q
theorem isHall_e {R m : xMem} {a1 : Int32} (hG : GR R) (hI : IR R m) : fX12_isHall 291 a1 m = some (qH (R.1 292 1) a1, m) := by
  have c0 : (0 : Int32).toInt = 0 := rfl
  have c1 : (1 : Int32).toInt = 1 := rfl
  have hb : 0 ≤ (R.1 292 1).toInt ∧ (R.1 292 1).toInt ≤ 6 := hG.1.1.1
  refine of_vOk ?_
  unfold fX12_isHall fX12_isHall_0
  refine vIn (by omega) (by omega) fun _ => ?_
  refine vAl (k292_1 hI) ?_
  refine vS (by omega) fun x3 e3 f3 => ?_
  refine vAlB (in_e _ _ _ _) ?_
  dsimp only
  by_cases g : 0 ≤ a1.toInt ∧ a1.toInt < (R.1 292 1).toInt
  · rw [wi_1 (by omega)]
    refine v01 (vOk_some ?_)
    rw [qH_1 g]
  · rw [wi_0 (by omega)]
    refine v00 (vOk_some ?_)
    rw [qH_0 g]
theorem isRun_r {R m : xMem} {a1 : Int32} (hI : IR R m) : vOk (fun p : Int32 × xMem => p.2 = m ∧ ((mayC (R.1 292 0) a1 ∧ p.1 = 1) ∨ (¬ mayC (R.1 292 0) a1 ∧ p.1 = 0))) (fX12_isRun 291 a1 m) := by
  have c0 : (0 : Int32).toInt = 0 := rfl
  have c1 : (1 : Int32).toInt = 1 := rfl
  have c300 : (300 : Int32).toInt = 300 := rfl
  have c99999 : (99999 : Int32).toInt = 99999 := rfl
  unfold fX12_isRun fX12_isRun_0
  refine vAlB (in_e _ _ _ _) ?_
  dsimp only
  by_cases g1 : 1 ≤ a1.toInt ∧ a1.toInt ≤ 300
  · rw [wi_1 (by omega), if_neg (show ¬ (1 : Int32) = 0 by decide)]
    refine vIn (by omega) (by omega) fun _ => ?_
    refine vAl (k292_0 hI) ?_
    refine vR fun x ex => ?_
    refine vLt (fun g2 => ?_) (fun g2 => ?_)
    · unfold fX12_isRun_28 fX12_isRun_29
      refine v00 (vOk_some ⟨rfl, Or.inr ⟨fun w => ?_, rfl⟩⟩)
      have := w.2
      rw [← ex] at this
      omega
    · unfold fX12_isRun_29
      refine v01 (vOk_some ⟨rfl, Or.inl ⟨⟨g1, ?_⟩, rfl⟩⟩)
      rw [← ex]
      omega
  · rw [wi_0 (by omega), if_pos rfl]
    unfold fX12_isRun_28 fX12_isRun_29
    exact v00 (vOk_some ⟨rfl, Or.inr ⟨fun w => g1 w.1, rfl⟩⟩)
theorem run_r {R m : xMem} {a1 : Int32} (hG : GR R) (hI : IR R m) : vOk (fun p : Int32 × xMem => (mayC (R.1 292 0) a1 ∧ p.1 = (bumpN a1.toInt.toNat R).1 292 0 ∧ IR (bumpN a1.toInt.toNat R) p.2) ∨ (¬ mayC (R.1 292 0) a1 ∧ p.1 = -1 ∧ IR R p.2)) (fX12_run 291 a1 m) := by
  have c0 : (0 : Int32).toInt = 0 := rfl
  unfold fX12_run fX12_run_0
  refine vOk_bind (isRun_r (a1 := a1) hI) fun p hp => ?_
  obtain ⟨x, m1⟩ := p
  obtain ⟨rfl, ⟨q, rfl⟩ | ⟨q, rfl⟩⟩ := hp
  · dsimp only
    rw [if_pos (show ¬ (1 : Int32) = 0 by decide)]
    have h := run_loop (a1 := a1) a1.toInt.toNat (xFuel - 1 - a1.toInt.toNat) 0 R m1 (by have := q.1; omega) (by omega) hG hI
    rw [show xFuel - 1 - a1.toInt.toNat + 1 + a1.toInt.toNat = xFuel by have : xFuel = 5000000000 := rfl; have := q.1; omega] at h
    exact vOk_mono h fun p hp => Or.inl ⟨q, hp⟩
  · dsimp only
    rw [if_neg (not_not_intro rfl)]
    exact vOk_some (Or.inr ⟨q, rfl, hI⟩)
theorem k292_4 {R m : xMem} (h : IR R m) : R.1 292 4 = m.1 (291 + 1) (4 : Int32).toNatClampNeg := (kA h (j := 4) (by omega)).symm
theorem by_r {R m : xMem} {a1 : Int32} (hG : GR R) (hI : IR R m) : vOk (fun p : Int32 × xMem => ((a1.toInt = -1 ∨ (0 ≤ a1.toInt ∧ a1.toInt < (R.1 292 4).toInt)) ∧ p.1 = 1 ∧ IR (xPut R 292 5 a1) p.2) ∨ (¬ (a1.toInt = -1 ∨ (0 ≤ a1.toInt ∧ a1.toInt < (R.1 292 4).toInt)) ∧ p.1 = 0 ∧ IR R p.2)) (fX12_by 291 a1 m) := by
  have c0 : (0 : Int32).toInt = 0 := rfl
  have c1 : (1 : Int32).toInt = 1 := rfl
  have c4 : (4 : Int32).toInt = 4 := rfl
  have c5 : (5 : Int32).toInt = 5 := rfl
  have cm : (-1 : Int32).toInt = -1 := rfl
  have hb : 0 ≤ (R.1 292 4).toInt ∧ (R.1 292 4).toInt ≤ 4 := hG.1.1.2.2.2.1
  have fin : (a1.toInt = -1 ∨ (0 ≤ a1.toInt ∧ a1.toInt < (R.1 292 4).toInt)) → vOk (fun p : Int32 × xMem => ((a1.toInt = -1 ∨ (0 ≤ a1.toInt ∧ a1.toInt < (R.1 292 4).toInt)) ∧ p.1 = 1 ∧ IR (xPut R 292 5 a1) p.2) ∨ (¬ (a1.toInt = -1 ∨ (0 ≤ a1.toInt ∧ a1.toInt < (R.1 292 4).toInt)) ∧ p.1 = 0 ∧ IR R p.2)) (fX12_by_23 291 a1 m) := by
    intro q
    unfold fX12_by_23
    refine vIn (by omega) (by omega) fun _ => ?_
    refine vR fun m1 e1 => ?_
    have h1 : IR (xPut R 292 5 a1) m1 := by rw [e1]; exact IR_cfg hI (by omega)
    exact vOk_some (Or.inl ⟨q, rfl, h1⟩)
  unfold fX12_by fX12_by_0
  refine vEq (fun g1 => ?_) (fun g1 => ?_)
  · exact fin (Or.inl (by omega))
  · refine vIn (by omega) (by omega) fun _ => ?_
    refine vAl (k292_4 hI) ?_
    refine vS (by omega) fun x e f => ?_
    refine vAlB (in_e _ _ _ _) ?_
    dsimp only
    by_cases g : 0 ≤ a1.toInt ∧ a1.toInt < (R.1 292 4).toInt
    · rw [wi_1 (by omega), if_pos (show ¬ (1 : Int32) = 0 by decide)]
      exact fin (Or.inr g)
    · rw [wi_0 (by omega), if_neg (not_not_intro rfl)]
      exact vOk_some (Or.inr ⟨fun w => by omega, rfl, hI⟩)
theorem k292_3 {R m : xMem} (h : IR R m) : R.1 292 3 = m.1 (291 + 1) (3 : Int32).toNatClampNeg := (kA h (j := 3) (by omega)).symm
def BU (R S : xMem) : Prop := S.2 = R.2 ∧ (∀ b j, ¬ (b = 292 ∧ (j = 3 ∨ (360 ≤ j ∧ j < 570))) → S.1 b j = R.1 b j) ∧ S.1 292 3 = R.1 292 3 + 1
def burR (R : xMem) (c : Nat) (a1 a2 a3 a4 a5 s s2 : Int32) : xMem := xPut (xPut (xPut (xPut (xPut (xPut (xPut R 292 (360 + 7 * c) a1) 292 (361 + 7 * c) a2) 292 (362 + 7 * c) a3) 292 (363 + 7 * c) a4) 292 (364 + 7 * c) a5) 292 (365 + 7 * c) s) 292 (366 + 7 * c) s2
theorem GR_bur {R : xMem} {c : Nat} {a1 a2 a3 a4 a5 s s2 : Int32} (hG : GR R) (hc : (c : Int) = (R.1 292 3).toInt) (hlt : c < 30) (h3 : bw 0 5 a3) (h4 : bw 0 5 a4) (h5 : bw 0 1 s) : GR (xPut (burR R c a1 a2 a3 a4 a5 s s2) 292 3 (R.1 292 3 + 1)) ∧ BU R (xPut (burR R c a1 a2 a3 a4 a5 s s2) 292 3 (R.1 292 3 + 1)) := by
  have c1 : (1 : Int32).toInt = 1 := rfl
  have fr : ∀ b j, ¬ (b = 292 ∧ (j = 3 ∨ (360 + 7 * c ≤ j ∧ j < 367 + 7 * c))) → (xPut (burR R c a1 a2 a3 a4 a5 s s2) 292 3 (R.1 292 3 + 1)).1 b j = R.1 b j := by
    intro b j q
    unfold burR
    by_cases hb : b = 292
    · subst hb
      rw [← xP_sl (by omega), ← xP_sl (by omega), ← xP_sl (by omega), ← xP_sl (by omega), ← xP_sl (by omega), ← xP_sl (by omega), ← xP_sl (by omega), ← xP_sl (by omega)]
    · rw [← xP_pl hb, ← xP_pl hb, ← xP_pl hb, ← xP_pl hb, ← xP_pl hb, ← xP_pl hb, ← xP_pl hb, ← xP_pl hb]
  have e3 : (xPut (burR R c a1 a2 a3 a4 a5 s s2) 292 3 (R.1 292 3 + 1)).1 292 3 = R.1 292 3 + 1 := xP_eq.symm
  have t3 : (R.1 292 3 + 1).toInt = (R.1 292 3).toInt + 1 := by rw [Int32.toInt_add]; exact Int.bmod_eq_of_le (by omega) (by omega)
  have z2 : (xPut (burR R c a1 a2 a3 a4 a5 s s2) 292 3 (R.1 292 3 + 1)).1 292 (362 + 7 * c) = a3 := by
    unfold burR
    rw [← xP_sl (by omega), ← xP_sl (by omega), ← xP_sl (by omega), ← xP_sl (by omega), ← xP_sl (by omega)]
    exact xP_eq.symm
  have z3 : (xPut (burR R c a1 a2 a3 a4 a5 s s2) 292 3 (R.1 292 3 + 1)).1 292 (363 + 7 * c) = a4 := by
    unfold burR
    rw [← xP_sl (by omega), ← xP_sl (by omega), ← xP_sl (by omega), ← xP_sl (by omega)]
    exact xP_eq.symm
  have z5 : (xPut (burR R c a1 a2 a3 a4 a5 s s2) 292 3 (R.1 292 3 + 1)).1 292 (365 + 7 * c) = s := by
    unfold burR
    rw [← xP_sl (by omega), ← xP_sl (by omega)]
    exact xP_eq.symm
  have fr2 : ∀ j, ¬ (j = 3 ∨ (360 + 7 * c ≤ j ∧ j < 367 + 7 * c)) → (xPut (burR R c a1 a2 a3 a4 a5 s s2) 292 3 (R.1 292 3 + 1)).1 292 j = R.1 292 j := fun j q => fr 292 j (fun w => q w.2)
  refine ⟨GR_ofA hG ⟨?_, GA_rows hG.1 fun j _ _ => fr2 j (by omega), GA_cyc hG.1 (fun j _ _ => fr2 j (by omega)) (fr2 2 (by omega)), fun k hk => ?_, GA_stp hG.1 fun j _ _ => fr2 j (by omega), GA_lds hG.1 fun j _ _ => fr2 j (by omega)⟩ (fun b hb j => fr b j (by omega)), rfl, fun b j q => fr b j (by omega), e3⟩
  · obtain ⟨x1, x2, x3, x4, x5, x6, x7, x8⟩ := hG.1.1
    rw [e3, fr2 1 (by omega), fr2 2 (by omega), fr2 4 (by omega), fr2 5 (by omega), fr2 6 (by omega), fr2 7 (by omega), fr2 8 (by omega)]
    exact ⟨x1, x2, ⟨by omega, by omega⟩, x4, x5, x6, x7, x8⟩
  · by_cases q : k = c
    · rw [q, z2, z3, z5]
      exact ⟨h3, h4, h5⟩
    · rw [fr2 (362 + 7 * k) (by omega), fr2 (363 + 7 * k) (by omega), fr2 (365 + 7 * k) (by omega)]
      exact hG.1.2.2.2.1 k hk
theorem burst_r {R m : xMem} {a1 a2 a3 a4 a5 a6 a7 : Int32} (hG : GR R) (hI : IR R m) : vOk (fun p : Int32 × xMem => ((okBu (R.1 292 1) a1 a2 a3 a4 a5 ∧ (R.1 292 3).toInt < 30) ∧ p.1 = R.1 292 3 + 1 ∧ ∃ S, GR S ∧ BU R S ∧ IR S p.2) ∨ (¬ (okBu (R.1 292 1) a1 a2 a3 a4 a5 ∧ (R.1 292 3).toInt < 30) ∧ p.1 = -1 ∧ IR R p.2)) (fX12_burst 291 a1 a2 a3 a4 a5 a6 a7 m) := by
  have c0 : (0 : Int32).toInt = 0 := rfl
  have c1 : (1 : Int32).toInt = 1 := rfl
  have c2 : (2 : Int32).toInt = 2 := rfl
  have c3 : (3 : Int32).toInt = 3 := rfl
  have c4 : (4 : Int32).toInt = 4 := rfl
  have c5 : (5 : Int32).toInt = 5 := rfl
  have c6 : (6 : Int32).toInt = 6 := rfl
  have c7 : (7 : Int32).toInt = 7 := rfl
  have c30 : (30 : Int32).toInt = 30 := rfl
  have c200 : (200 : Int32).toInt = 200 := rfl
  have c360 : (360 : Int32).toInt = 360 := rfl
  have c999 : (999 : Int32).toInt = 999 := rfl
  have c99999 : (99999 : Int32).toInt = 99999 := rfl
  have hb : 0 ≤ (R.1 292 3).toInt ∧ (R.1 292 3).toInt ≤ 30 := hG.1.1.2.2.1
  have hb1 : 0 ≤ (R.1 292 1).toInt ∧ (R.1 292 1).toInt ≤ 6 := hG.1.1.1
  have wb : (R.1 292 3).toNatClampNeg = (R.1 292 3).toInt.toNat := rfl
  have bad : ¬ (okBu (R.1 292 1) a1 a2 a3 a4 a5 ∧ (R.1 292 3).toInt < 30) → vOk (fun p : Int32 × xMem => ((okBu (R.1 292 1) a1 a2 a3 a4 a5 ∧ (R.1 292 3).toInt < 30) ∧ p.1 = R.1 292 3 + 1 ∧ ∃ S, GR S ∧ BU R S ∧ IR S p.2) ∨ (¬ (okBu (R.1 292 1) a1 a2 a3 a4 a5 ∧ (R.1 292 3).toInt < 30) ∧ p.1 = -1 ∧ IR R p.2)) (some ((-1 : Int32), m)) :=
    fun q => vOk_some (Or.inr ⟨q, rfl, hI⟩)
  have fin : ∀ (x : Int32) (s s2 : Int32) (m' : xMem), x.toInt = 366 + 7 * (R.1 292 3).toInt → bw 0 1 s → IR (xPut (xPut (xPut (xPut (xPut (xPut R 292 (360 + 7 * (R.1 292 3).toNatClampNeg) a1) 292 (361 + 7 * (R.1 292 3).toNatClampNeg) a2) 292 (362 + 7 * (R.1 292 3).toNatClampNeg) a3) 292 (363 + 7 * (R.1 292 3).toNatClampNeg) a4) 292 (364 + 7 * (R.1 292 3).toNatClampNeg) a5) 292 (365 + 7 * (R.1 292 3).toNatClampNeg) s) m' → (okBu (R.1 292 1) a1 a2 a3 a4 a5 ∧ (R.1 292 3).toInt < 30) → vOk (fun p : Int32 × xMem => ((okBu (R.1 292 1) a1 a2 a3 a4 a5 ∧ (R.1 292 3).toInt < 30) ∧ p.1 = R.1 292 3 + 1 ∧ ∃ S, GR S ∧ BU R S ∧ IR S p.2) ∨ (¬ (okBu (R.1 292 1) a1 a2 a3 a4 a5 ∧ (R.1 292 3).toInt < 30) ∧ p.1 = -1 ∧ IR R p.2)) (fX12_burst_184 291 a1 a2 a3 a4 a5 a6 a7 (291 + 1) x s2 m') := by
    intro x s s2 m' hx hs h' q
    have wx : x.toNatClampNeg = x.toInt.toNat := rfl
    have hok := q.1.2.1
    unfold fX12_burst_184
    refine vIn (by omega) (by omega) fun _ => ?_
    refine vR fun n1 e1 => ?_
    rw [show x.toNatClampNeg = 366 + 7 * (R.1 292 3).toNatClampNeg by omega] at e1
    have i1 : IR (burR R (R.1 292 3).toNatClampNeg a1 a2 a3 a4 a5 s s2) n1 := by rw [e1]; exact IR_cfg h' (by omega)
    have k1 : R.1 292 3 = n1.1 (291 + 1) (3 : Int32).toNatClampNeg := by
      refine Eq.trans ?_ (k292_3 i1)
      unfold burR
      rw [← xP_sl (by omega), ← xP_sl (by omega), ← xP_sl (by omega), ← xP_sl (by omega), ← xP_sl (by omega), ← xP_sl (by omega), ← xP_sl (by omega)]
    refine vIn (by omega) (by omega) fun _ => ?_
    refine vAl k1 ?_
    refine vAl (x := R.1 292 3 + 1) rfl ?_
    refine vIn (by omega) (by omega) fun _ => ?_
    refine vR fun n6 e6 => ?_
    have i6 : IR (xPut (burR R (R.1 292 3).toNatClampNeg a1 a2 a3 a4 a5 s s2) 292 3 (R.1 292 3 + 1)) n6 := by rw [e6]; exact IR_cfg i1 (by omega)
    refine vIn (by omega) (by omega) fun _ => ?_
    refine vAl (x := R.1 292 3 + 1) (xP_eqE e6) ?_
    have g := GR_bur (R := R) (c := (R.1 292 3).toNatClampNeg) (a1 := a1) (a2 := a2) (a3 := a3) (a4 := a4) (a5 := a5) (s := s) (s2 := s2) hG (by omega) (by omega) ⟨by omega, by omega⟩ ⟨by omega, by omega⟩ hs
    exact vOk_some (Or.inl ⟨q, rfl, _, g.1, g.2, i6⟩)
  have mid : ∀ (x x5 : Int32) (s : Int32) (m' : xMem), x.toInt = 360 + 7 * (R.1 292 3).toInt → x5.toInt = 365 + 7 * (R.1 292 3).toInt → bw 0 1 s → IR (xPut (xPut (xPut (xPut (xPut R 292 (360 + 7 * (R.1 292 3).toNatClampNeg) a1) 292 (361 + 7 * (R.1 292 3).toNatClampNeg) a2) 292 (362 + 7 * (R.1 292 3).toNatClampNeg) a3) 292 (363 + 7 * (R.1 292 3).toNatClampNeg) a4) 292 (364 + 7 * (R.1 292 3).toNatClampNeg) a5) m' → (okBu (R.1 292 1) a1 a2 a3 a4 a5 ∧ (R.1 292 3).toInt < 30) → vOk (fun p : Int32 × xMem => ((okBu (R.1 292 1) a1 a2 a3 a4 a5 ∧ (R.1 292 3).toInt < 30) ∧ p.1 = R.1 292 3 + 1 ∧ ∃ S, GR S ∧ BU R S ∧ IR S p.2) ∨ (¬ (okBu (R.1 292 1) a1 a2 a3 a4 a5 ∧ (R.1 292 3).toInt < 30) ∧ p.1 = -1 ∧ IR R p.2)) (fX12_burst_164 291 a1 a2 a3 a4 a5 a6 a7 x (291 + 1) x5 s m') := by
    intro x x5 s m' hx hx5 hs h' q
    have wx5 : x5.toNatClampNeg = x5.toInt.toNat := rfl
    unfold fX12_burst_164
    refine vIn (by omega) (by omega) fun _ => ?_
    refine vR fun n1 e1 => ?_
    rw [show x5.toNatClampNeg = 365 + 7 * (R.1 292 3).toNatClampNeg by omega] at e1
    have i1 := IR_cfg (v := s) h' (show ¬ (580 ≤ 365 + 7 * (R.1 292 3).toNatClampNeg ∧ 365 + 7 * (R.1 292 3).toNatClampNeg < 1380) by omega)
    rw [← e1] at i1
    refine vA (by omega) fun x6 e6 f6 => ?_
    refine vEq (fun _ => ?_) (fun _ => ?_)
    · exact fin x6 s 0 n1 (by omega) hs i1 q
    · exact fin x6 s 1 n1 (by omega) hs i1 q
  have b61 : ∀ s : Int32, s = 0 → ¬ (okBu (R.1 292 1) a1 a2 a3 a4 a5 ∧ (R.1 292 3).toInt < 30) → vOk (fun p : Int32 × xMem => ((okBu (R.1 292 1) a1 a2 a3 a4 a5 ∧ (R.1 292 3).toInt < 30) ∧ p.1 = R.1 292 3 + 1 ∧ ∃ S, GR S ∧ BU R S ∧ IR S p.2) ∨ (¬ (okBu (R.1 292 1) a1 a2 a3 a4 a5 ∧ (R.1 292 3).toInt < 30) ∧ p.1 = -1 ∧ IR R p.2)) (fX12_burst_61 291 a1 a2 a3 a4 a5 a6 a7 s m) := by
    intro s hs q
    unfold fX12_burst_61
    rw [if_pos hs]
    unfold fX12_burst_79
    exact bad q
  unfold fX12_burst fX12_burst_0
  refine vAlB (in_e _ _ _ _) ?_
  dsimp only
  by_cases g1 : 0 ≤ a1.toInt ∧ a1.toInt ≤ 99999
  · rw [wi_1 (by omega), if_neg (show ¬ (1 : Int32) = 0 by decide)]
    refine vAlB (in_e _ _ _ _) ?_
    dsimp only
    by_cases g2 : 0 ≤ a2.toInt ∧ a2.toInt ≤ 999
    · rw [wi_1 (by omega), if_neg (show ¬ (1 : Int32) = 0 by decide)]
      refine vAlB (isHall_e hG hI) ?_
      dsimp only
      by_cases g3 : 0 ≤ a3.toInt ∧ a3.toInt < (R.1 292 1).toInt
      · rw [qH_1 g3, if_neg (show ¬ (1 : Int32) = 0 by decide)]
        refine vAlB (isHall_e hG hI) ?_
        dsimp only
        by_cases g4 : 0 ≤ a4.toInt ∧ a4.toInt < (R.1 292 1).toInt
        · rw [qH_1 g4, if_neg (show ¬ (1 : Int32) = 0 by decide)]
          refine vEq (fun g5 => ?_) (fun g5 => ?_)
          · unfold fX12_burst_60
            exact b61 0 rfl (fun w => w.1.2.1.2.2 g5)
          · refine vAlB (in_e _ _ _ _) ?_
            dsimp only
            by_cases g6 : 1 ≤ a5.toInt ∧ a5.toInt ≤ 200
            · rw [wi_1 (by omega), if_neg (show ¬ (1 : Int32) = 0 by decide)]
              unfold fX12_burst_61
              rw [if_neg (show ¬ (1 : Int32) = 0 by decide)]
              refine vIn (by omega) (by omega) fun _ => ?_
              refine vAl (k292_3 hI) ?_
              refine vNe (fun g7 => ?_) (fun g7 => ?_)
              · have q : okBu (R.1 292 1) a1 a2 a3 a4 a5 ∧ (R.1 292 3).toInt < 30 := ⟨⟨⟨g1, g2⟩, ⟨g3, g4, g5⟩, g6⟩, by omega⟩
                refine vIn (by omega) (by omega) fun _ => ?_
                refine vAl (k292_3 hI) ?_
                refine vM (v := 7 * (R.1 292 3).toInt) (by rw [c7]) (by omega) fun v1 ev1 f1 => ?_
                refine vA (by omega) fun x ex fx => ?_
                have wx : x.toNatClampNeg = x.toInt.toNat := rfl
                refine vIn (by omega) (by omega) fun _ => ?_
                refine vR fun n1 e1 => ?_
                rw [show x.toNatClampNeg = 360 + 7 * (R.1 292 3).toNatClampNeg by omega] at e1
                have i1 := IR_cfg (v := a1) hI (show ¬ (580 ≤ 360 + 7 * (R.1 292 3).toNatClampNeg ∧ 360 + 7 * (R.1 292 3).toNatClampNeg < 1380) by omega)
                rw [← e1] at i1
                refine vA (by omega) fun y1 ey1 fy1 => ?_
                have wy1 : y1.toNatClampNeg = y1.toInt.toNat := rfl
                refine vIn (by omega) (by omega) fun _ => ?_
                refine vR fun n2 e2 => ?_
                rw [show y1.toNatClampNeg = 361 + 7 * (R.1 292 3).toNatClampNeg by omega] at e2
                have i2 := IR_cfg (v := a2) i1 (show ¬ (580 ≤ 361 + 7 * (R.1 292 3).toNatClampNeg ∧ 361 + 7 * (R.1 292 3).toNatClampNeg < 1380) by omega)
                rw [← e2] at i2
                refine vA (by omega) fun y2 ey2 fy2 => ?_
                have wy2 : y2.toNatClampNeg = y2.toInt.toNat := rfl
                refine vIn (by omega) (by omega) fun _ => ?_
                refine vR fun n3 e3 => ?_
                rw [show y2.toNatClampNeg = 362 + 7 * (R.1 292 3).toNatClampNeg by omega] at e3
                have i3 := IR_cfg (v := a3) i2 (show ¬ (580 ≤ 362 + 7 * (R.1 292 3).toNatClampNeg ∧ 362 + 7 * (R.1 292 3).toNatClampNeg < 1380) by omega)
                rw [← e3] at i3
                refine vA (by omega) fun y3 ey3 fy3 => ?_
                have wy3 : y3.toNatClampNeg = y3.toInt.toNat := rfl
                refine vIn (by omega) (by omega) fun _ => ?_
                refine vR fun n4 e4 => ?_
                rw [show y3.toNatClampNeg = 363 + 7 * (R.1 292 3).toNatClampNeg by omega] at e4
                have i4 := IR_cfg (v := a4) i3 (show ¬ (580 ≤ 363 + 7 * (R.1 292 3).toNatClampNeg ∧ 363 + 7 * (R.1 292 3).toNatClampNeg < 1380) by omega)
                rw [← e4] at i4
                refine vA (by omega) fun y4 ey4 fy4 => ?_
                have wy4 : y4.toNatClampNeg = y4.toInt.toNat := rfl
                refine vIn (by omega) (by omega) fun _ => ?_
                refine vR fun n5 e5 => ?_
                rw [show y4.toNatClampNeg = 364 + 7 * (R.1 292 3).toNatClampNeg by omega] at e5
                have i5 := IR_cfg (v := a5) i4 (show ¬ (580 ≤ 364 + 7 * (R.1 292 3).toNatClampNeg ∧ 364 + 7 * (R.1 292 3).toNatClampNeg < 1380) by omega)
                rw [← e5] at i5
                refine vA (by omega) fun y5 ey5 fy5 => ?_
                refine vEq (fun _ => ?_) (fun _ => ?_)
                · exact mid x y5 0 n5 (by omega) (by omega) ⟨by decide, by decide⟩ i5 q
                · exact mid x y5 1 n5 (by omega) (by omega) ⟨by decide, by decide⟩ i5 q
              · unfold fX12_burst_79
                exact bad (fun w => by have := w.2; omega)
            · rw [wi_0 (by omega), if_pos rfl]
              unfold fX12_burst_60
              exact b61 0 rfl (fun w => g6 w.1.2.2)
        · rw [qH_0 g4, if_pos rfl]
          unfold fX12_burst_60
          exact b61 0 rfl (fun w => g4 w.1.2.1.2.1)
      · rw [qH_0 g3, if_pos rfl]
        unfold fX12_burst_60
        exact b61 0 rfl (fun w => g3 w.1.2.1.1)
    · rw [wi_0 (by omega), if_pos rfl]
      unfold fX12_burst_60
      exact b61 0 rfl (fun w => g2 w.1.1.2)
  · rw [wi_0 (by omega), if_pos rfl]
    unfold fX12_burst_60
    exact b61 0 rfl (fun w => g1 w.1.1.1)
