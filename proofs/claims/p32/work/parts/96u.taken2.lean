/-! TAKEN on the two machines -/
/-- how the load grows, below N -/
def ldv (r : Nat → Int32) (N j : Nat) : Int := if j < N then (r j).toInt else 0
def gOf (r : Nat → Int32) (N t : Nat) : Int := ldv r N t - ldv r N (t - 1)
theorem ldv_b {r : Nat → Int32} {N : Nat} (h : ∀ j, j < N → 0 ≤ (r j).toInt ∧ (r j).toInt ≤ 80) (j : Nat) : 0 ≤ ldv r N j ∧ ldv r N j ≤ 80 := by
  unfold ldv
  by_cases q : j < N
  · rw [if_pos q]; exact h j q
  · rw [if_neg q]; omega
theorem gOf_b {r : Nat → Int32} {N : Nat} (h : ∀ j, j < N → 0 ≤ (r j).toInt ∧ (r j).toInt ≤ 80) (t : Nat) : -80 ≤ gOf r N t ∧ gOf r N t ≤ 80 := by
  have a := ldv_b h t
  have b := ldv_b h (t - 1)
  unfold gOf
  omega
theorem gOf_e {r : Nat → Int32} {N t : Nat} (h1 : 1 ≤ t) (h : t < N) : gOf r N t = (r t).toInt - (r (t - 1)).toInt := by
  unfold gOf ldv
  rw [if_pos h, if_pos (by omega)]
theorem divQ {a b : Int32} {x y : Nat} (ha : a.toInt = (x : Int)) (hb : b.toInt = (y : Int)) (hy : 1 ≤ y) : (a / b).toInt = ((x / y : Nat) : Int) := by
  have t := tiB a
  have d : ((x / y : Nat) : Int) ≤ (x : Int) := Int.ofNat_le.mpr (Nat.div_le_self x y)
  have d0 : (0 : Int) ≤ ((x / y : Nat) : Int) := Int.natCast_nonneg _
  rw [Int32.toInt_div, ha, hb, ← Int.ofNat_tdiv]
  generalize ((x / y : Nat) : Int) = z at d d0 ⊢
  exact Int.bmod_eq_of_le (by omega) (by omega)
/-! the class -/
section
variable {m : xMem} {N n : Nat} {a1 a2 : Int32} {P : Int32 × xMem → Prop}
theorem so69 {rec46 : Int32 → Int32 → Int32 → Int32 → Int32 → Int32 → xMem → Option (Int32 × xMem)} {l3 l4 l5 l6 l8 : Int32} {f : Nat} {S0 : Int} (hN : (m.1 14 1).toInt = (N : Int)) (hN60 : N ≤ 60) (ha : a1.toInt = (n : Int)) (hn : 2 ≤ n ∧ n ≤ 40) (hf : 1 ≤ f ∧ f ≤ 40) (hld : ∀ j, j < N → 0 ≤ (m.1 15 j).toInt ∧ (m.1 15 j).toInt ≤ 80) (hS : -30000000 ≤ S0 ∧ S0 ≤ 30000000) (hk : ∀ (x7 x10 x11 x12 : Int32), x7.toInt = S0 + chU (gOf (m.1 15) N) n f (kF N n f) → x10.toInt = chL (gOf (m.1 15) N) n f (kF N n f) → x11.toInt = chH (gOf (m.1 15) N) n f (kF N n f) → x12.toInt = (kF N n f : Int) → vOk P (fX4_steppedOn_153 14 a1 a2 rec46 l3 l4 l5 l6 x7 l8 x10 x11 x12 m)) : ∀ (e k fuel : Nat) (l7 l9 l10 l11 l12 l13 : Int32), k + e = kF N n f → e < fuel → l7.toInt = S0 + chU (gOf (m.1 15) N) n f k → l9.toInt = chP (gOf (m.1 15) N) n f k → l10.toInt = chL (gOf (m.1 15) N) n f k → l11.toInt = chH (gOf (m.1 15) N) n f k → l12.toInt = (k : Int) → l13.toInt = ((f + n * k : Nat) : Int) → vOk P (fX4_steppedOn_69 14 a1 a2 rec46 fuel l3 l4 l5 l6 l7 l8 l9 l10 l11 l12 l13 m) := by
  have c0 : (0 : Int32).toInt = 0 := rfl
  have c1 : (1 : Int32).toInt = 1 := rfl
  have c60 : (60 : Int32).toInt = 60 := rfl
  obtain ⟨kb1, kb2⟩ := kF_ok (N := N) (f := f) (show 1 ≤ n by omega)
  have k60 := kF_60 (N := N) (f := f) (show 1 ≤ n by omega) hf.1 hN60
  have hg := gOf_b hld
  intro e
  induction e with
  | zero =>
    intro k fuel l7 l9 l10 l11 l12 l13 hke hfu h7 h9 h10 h11 h12 h13
    obtain ⟨fu, rfl⟩ : ∃ q, fuel = q + 1 := ⟨fuel - 1, by omega⟩
    have ek : k = kF N n f := by omega
    subst ek
    rw [fX4_steppedOn_69]
    refine vAl (x := m.1 14 1) rfl ?_
    refine vLe (fun _ => hk _ _ _ _ h7 h10 h11 h12) (fun g => ?_)
    exfalso
    rw [h13, hN] at g
    exact absurd kb1 (Nat.not_le.mpr (Int.ofNat_lt.mp g))
  | succ e ih =>
    intro k fuel l7 l9 l10 l11 l12 l13 hke hfu h7 h9 h10 h11 h12 h13
    obtain ⟨fu, rfl⟩ : ∃ q, fuel = q + 1 := ⟨fuel - 1, by omega⟩
    have tN := kb2 k (by omega)
    have b1 := ch_b (n := n) (f := f) hg k (by omega)
    have b2 := chP_b (n := n) (f := f) hg k
    have b3 := chP_b (n := n) (f := f) hg (k + 1)
    have eP : chP (gOf (m.1 15) N) n f (k + 1) = chP (gOf (m.1 15) N) n f k + gOf (m.1 15) N (f + n * k) := rfl
    have eL : chL (gOf (m.1 15) N) n f (k + 1) = min (chL (gOf (m.1 15) N) n f k) (chP (gOf (m.1 15) N) n f (k + 1)) := rfl
    have eH : chH (gOf (m.1 15) N) n f (k + 1) = max (chH (gOf (m.1 15) N) n f k) (chP (gOf (m.1 15) N) n f (k + 1)) := rfl
    have eU : chU (gOf (m.1 15) N) n f (k + 1) = chU (gOf (m.1 15) N) n f k + chP (gOf (m.1 15) N) n f (k + 1) := rfl
    have et : f + n * (k + 1) = f + n * k + n := by rw [Nat.mul_add, Nat.mul_one]; omega
    have ih' := ih (k + 1) fu
    rw [et] at ih'
    generalize ht : f + n * k = t at tN eP h13 ih'
    have t1 : 1 ≤ t := by rw [← ht]; exact Nat.le_trans hf.1 (Nat.le_add_right _ _)
    have ge := gOf_e (r := m.1 15) t1 tN
    rw [fX4_steppedOn_69]
    refine vAl (x := m.1 14 1) rfl ?_
    refine vLe (fun g => by exfalso; omega) (fun _ => ?_)
    refine vLe (fun g => by exfalso; omega) (fun _ => ?_)
    refine vLe (fun g => by exfalso; omega) (fun _ => ?_)
    refine vIn (by omega) (by omega) fun _ => ?_
    rw [wN h13]
    refine vAl (x := m.1 15 t) rfl ?_
    refine vS (by omega) fun x7 e7 f7 => ?_
    refine vIn (by omega) (by omega) fun _ => ?_
    rw [wN (x := x7) (n := t - 1) (by omega)]
    refine vAl (x := m.1 15 (t - 1)) rfl ?_
    have r1 := hld t tN
    have r2 := hld (t - 1) (by omega)
    refine vS (by omega) fun x10 e10 f10 => ?_
    unfold fX4_steppedOn_113
    refine vA (by omega) fun y1 q1 w1 => ?_
    have wP : y1.toInt = chP (gOf (m.1 15) N) n f (k + 1) := by omega
    refine vMin fun y2 n2 q2 => ?_
    refine vMax fun y3 n3 q3 => ?_
    refine vA (by omega) fun y4 q4 w4 => ?_
    refine vA (by omega) fun y5 q5 w5 => ?_
    refine vA (by omega) fun y6 q6 w6 => ?_
    exact ih' y4 y1 y2 y3 y5 y6 (by omega) (by omega) (by omega) wP (by omega) (by omega) (by omega) (by omega)
theorem so46 (hN : (m.1 14 1).toInt = (N : Int)) (hN1 : 1 ≤ N) (hN60 : N ≤ 60) (ha : a1.toInt = (n : Int)) (hn : 2 ≤ n ∧ n ≤ 40) (hld : ∀ j, j < N → 0 ≤ (m.1 15 j).toInt ∧ (m.1 15 j).toInt ≤ 80) {l3 : Int32} (h3 : l3.toInt = (((N - 1) / n : Nat) : Int)) : ∀ (e j fuel : Nat) (l4 l5 l6 l7 l8 : Int32), j + e = n → e < fuel → aG (gOf (m.1 15) N) N n j = true → l4.toInt = (m.1 15 0).toInt - aL (gOf (m.1 15) N) N n j → l5.toInt = aS (gOf (m.1 15) N) N n j → l6.toInt = aT (gOf (m.1 15) N) N n j → l7.toInt = aC (gOf (m.1 15) N) N n j → l8.toInt = 1 - (n : Int) + (j : Int) → vOk (PP m (fun x : Int32 => x.toInt = VBt (gOf (m.1 15) N) N n a2 n (m.1 15 0).toInt)) (fX4_steppedOn_46 14 a1 a2 fuel l3 l4 l5 l6 l7 l8 m) := by
  have c0 : (0 : Int32).toInt = 0 := rfl
  have c1 : (1 : Int32).toInt = 1 := rfl
  have c2 : (2 : Int32).toInt = 2 := rfl
  have cm1 : (-1 : Int32).toInt = -1 := rfl
  have cF := xFu
  have hg := gOf_b hld
  have ld0 := hld 0 (by omega)
  have s59 : (N - 1) / n ≤ 59 := by
    have := Nat.div_le_self (N - 1) n
    omega
  have l3b : 0 ≤ l3.toInt ∧ l3.toInt ≤ 59 := by rw [h3]; exact ⟨Int.natCast_nonneg _, Int.ofNat_le.mpr s59⟩
  intro e
  induction e with
  | zero =>
    intro j fuel l4 l5 l6 l7 l8 hje hfu hG h4 h5 h6 h7 h8
    obtain ⟨fu, rfl⟩ : ∃ q, fuel = q + 1 := ⟨fuel - 1, by omega⟩
    have ej : j = n := by omega
    subst ej
    obtain ⟨i1, i2, i3, i4⟩ := a_b hg (show 1 ≤ j by omega) hN60 j hG
    rw [show VBt (gOf (m.1 15) N) N j a2 j (m.1 15 0).toInt = tVal a2 (aS (gOf (m.1 15) N) N j j) (aT (gOf (m.1 15) N) N j j) (aC (gOf (m.1 15) N) N j j) (((N - 1) / j : Nat) : Int) ((m.1 15 0).toInt - aL (gOf (m.1 15) N) N j j) from if_pos hG]
    rw [← h4, ← h5, ← h6, ← h7, ← h3, tVal_e]
    generalize hV : (if 0 ≤ l4.toInt ∧ l4.toInt ≤ l5.toInt + l6.toInt then l7.toInt + l4.toInt * l3.toInt + (if a2 = 0 then max 0 (l4.toInt - l6.toInt) else min l4.toInt l5.toInt) else -1) = V
    rw [fX4_steppedOn_46]
    refine vLt (fun _ => ?_) (fun g => by exfalso; omega)
    refine vLt (fun g => ?_) (fun g => ?_)
    · unfold fX4_steppedOn_230
      refine rP ?_
      rw [← hV, if_neg (by omega)]
      exact cm1
    · refine vA (by omega) fun x3 e3 f3 => ?_
      refine vLe (fun g2 => ?_) (fun g2 => ?_)
      · have mm1 : 0 ≤ l4.toInt * l3.toInt := Int.mul_nonneg g (by omega)
        have mm2 : l4.toInt * l3.toInt ≤ 160 * l3.toInt := Int.mul_le_mul_of_nonneg_right (by omega) (by omega)
        have fin : ∀ x : Int32, (0 ≤ x.toInt ∧ x.toInt ≤ 1000) → vOk (PP m (fun y : Int32 => y.toInt = l7.toInt + l4.toInt * l3.toInt + x.toInt)) (fX4_steppedOn_255 14 a1 a2 l3 l4 l7 x m) := by
          intro x hx
          unfold fX4_steppedOn_255
          refine vM (v := l4.toInt * l3.toInt) rfl (by omega) fun y1 q1 w1 => ?_
          refine vA (by omega) fun y2 q2 w2 => ?_
          refine vA (by omega) fun y3 q3 w3 => ?_
          exact rP (by omega)
        refine vEq (fun g3 => ?_) (fun g3 => ?_)
        · refine vS (by omega) fun x6 e6 f6 => ?_
          refine vMax fun x7 n7 e7 => ?_
          refine vOk_mono (fin x7 (by omega)) fun p hp => ⟨hp.1, hp.2.trans ?_⟩
          rw [← hV, if_pos (by omega), if_pos (show a2 = 0 from Int32.toInt_inj.mp g3)]
          omega
        · refine vMin fun x8 n8 e8 => ?_
          refine vOk_mono (fin x8 (by omega)) fun p hp => ⟨hp.1, hp.2.trans ?_⟩
          rw [← hV, if_pos (by omega), if_neg (fun q => g3 (congrArg _ q))]
          omega
      · unfold fX4_steppedOn_230
        refine rP ?_
        rw [← hV, if_neg (by omega)]
        exact cm1
  | succ e ih =>
    intro j fuel l4 l5 l6 l7 l8 hje hfu hG h4 h5 h6 h7 h8
    obtain ⟨fu, rfl⟩ : ∃ q, fuel = q + 1 := ⟨fuel - 1, by omega⟩
    obtain ⟨i1, i2, i3, i4⟩ := a_b hg (show 1 ≤ n by omega) hN60 j hG
    have k60 := kF_60 (N := N) (f := j + 1) (show 1 ≤ n by omega) (by omega) hN60
    obtain ⟨b1, b2, b3, b4⟩ := ch_b (n := n) (f := j + 1) hg (kF N n (j + 1)) k60
    have eL : cL (gOf (m.1 15) N) N n j = chL (gOf (m.1 15) N) n (j + 1) (kF N n (j + 1)) := rfl
    have eH : cH (gOf (m.1 15) N) N n j = chH (gOf (m.1 15) N) n (j + 1) (kF N n (j + 1)) := rfl
    have eU : cU (gOf (m.1 15) N) N n j = chU (gOf (m.1 15) N) n (j + 1) (kF N n (j + 1)) := rfl
    have eS : cSp (gOf (m.1 15) N) N n j = 2 - cH (gOf (m.1 15) N) N n j + cL (gOf (m.1 15) N) N n j := rfl
    have q1 : aL (gOf (m.1 15) N) N n (j + 1) = aL (gOf (m.1 15) N) N n j - cL (gOf (m.1 15) N) N n j := rfl
    have q2 : aS (gOf (m.1 15) N) N n (j + 1) = aS (gOf (m.1 15) N) N n j + (if (N - 1) / n < kF N n (j + 1) then cSp (gOf (m.1 15) N) N n j else 0) := rfl
    have q3 : aT (gOf (m.1 15) N) N n (j + 1) = aT (gOf (m.1 15) N) N n j + (if (N - 1) / n < kF N n (j + 1) then 0 else cSp (gOf (m.1 15) N) N n j) := rfl
    have q4 : aC (gOf (m.1 15) N) N n (j + 1) = aC (gOf (m.1 15) N) N n j + (cU (gOf (m.1 15) N) N n j - cL (gOf (m.1 15) N) N n j * (kF N n (j + 1) : Int)) := rfl
    have q5 : aG (gOf (m.1 15) N) N n (j + 1) = (aG (gOf (m.1 15) N) N n j && decide (0 ≤ cSp (gOf (m.1 15) N) N n j)) := rfl
    rw [fX4_steppedOn_46]
    refine vLt (fun g => by exfalso; omega) (fun _ => ?_)
    refine vA (by omega) fun x9 e9 f9 => ?_
    refine so69 (S0 := aC (gOf (m.1 15) N) N n j) (f := j + 1) hN hN60 ha hn (by omega) hld (by omega) (fun x7 x10 x11 x12 w7 w10 w11 w12 => ?_) (kF N n (j + 1)) 0 xFuel l7 0 0 0 0 x9 (by omega) (by omega) (h7.trans (Int.add_zero _).symm) rfl rfl rfl rfl (by rw [Nat.mul_zero]; omega)
    rw [← eU] at w7
    rw [← eL] at w10
    rw [← eH] at w11
    rw [← eL] at b1 b4
    rw [← eH] at b2
    rw [← eU] at b3 b4
    have m1 : (-4800) * (kF N n (j + 1) : Int) ≤ cL (gOf (m.1 15) N) N n j * (kF N n (j + 1) : Int) := Int.mul_le_mul_of_nonneg_right (by omega) (by omega)
    have m2 : cL (gOf (m.1 15) N) N n j * (kF N n (j + 1) : Int) ≤ 0 * (kF N n (j + 1) : Int) := Int.mul_le_mul_of_nonneg_right (by omega) (by omega)
    unfold fX4_steppedOn_153
    refine vS (by omega) fun y1 z1 v1 => ?_
    refine vA (by omega) fun y2 z2 v2 => ?_
    have wS : y2.toInt = cSp (gOf (m.1 15) N) N n j := by omega
    refine vLe (fun g => ?_) (fun g => ?_)
    · have hG' : aG (gOf (m.1 15) N) N n (j + 1) = true := by rw [q5, hG, decide_eq_true (by omega)]; rfl
      refine vA (by omega) fun y4 z4 v4 => ?_
      refine vM (v := cL (gOf (m.1 15) N) N n j * (kF N n (j + 1) : Int)) (by rw [w10, w12]) (by omega) fun y5 z5 v5 => ?_
      refine vS (by omega) fun y6 z6 v6 => ?_
      refine vLe (fun g2 => ?_) (fun g2 => ?_)
      · have nl : ¬ (N - 1) / n < kF N n (j + 1) := by rw [w12, h3] at g2; exact Nat.not_lt.mpr (Int.ofNat_le.mp g2)
        rw [if_neg nl] at q2 q3
        refine vA (by omega) fun y8 z8 v8 => ?_
        unfold fX4_steppedOn_209
        refine vA (by omega) fun y9 z9 v9 => ?_
        exact ih (j + 1) fu y4 l5 y8 y6 y9 (by omega) (by omega) hG' (by omega) (by omega) (by omega) (by omega) (by omega)
      · have nl : (N - 1) / n < kF N n (j + 1) := by rw [w12, h3] at g2; exact Int.ofNat_lt.mp g2
        rw [if_pos nl] at q2 q3
        refine vA (by omega) fun y8 z8 v8 => ?_
        unfold fX4_steppedOn_209
        refine vA (by omega) fun y9 z9 v9 => ?_
        exact ih (j + 1) fu y4 y8 l6 y6 y9 (by omega) (by omega) hG' (by omega) (by omega) (by omega) (by omega) (by omega)
    · refine rP ?_
      have bad : aG (gOf (m.1 15) N) N n (j + 1) = false := by rw [q5, decide_eq_false (by omega), Bool.and_false]
      have bn := aG_mono e (j + 1) bad
      rw [show j + 1 + e = n by omega] at bn
      rw [show VBt (gOf (m.1 15) N) N n a2 n (m.1 15 0).toInt = -1 from if_neg (by rw [bn]; decide)]
      exact cm1
theorem so_e (hN : (m.1 14 1).toInt = (N : Int)) (hN60 : N ≤ 60) (ha : a1.toInt = (n : Int)) (hn : 2 ≤ n ∧ n ≤ 40) (hld : ∀ j, j < N → 0 ≤ (m.1 15 j).toInt ∧ (m.1 15 j).toInt ≤ 80) : vOk (PP m (fun x : Int32 => x.toInt = if N = 0 then -1 else VBt (gOf (m.1 15) N) N n a2 n (m.1 15 0).toInt)) (fX4_steppedOn 14 a1 a2 m) := by
  have c0 : (0 : Int32).toInt = 0 := rfl
  have c1 : (1 : Int32).toInt = 1 := rfl
  have cm1 : (-1 : Int32).toInt = -1 := rfl
  have cF := xFu
  generalize hV : (if N = 0 then -1 else VBt (gOf (m.1 15) N) N n a2 n (m.1 15 0).toInt) = V
  unfold fX4_steppedOn fX4_steppedOn_0
  refine vLt (fun g => by exfalso; omega) (fun _ => ?_)
  refine vAl (x := m.1 14 1) rfl ?_
  refine vLe (fun g => ?_) (fun g => ?_)
  · rw [if_neg (by omega)] at hV
    rw [← hV]
    refine vAl (x := m.1 14 1) rfl ?_
    refine vS (by omega) fun x5 e5 f5 => ?_
    refine vNz (by omega) ?_
    refine vR fun x6 e6 => ?_
    have w6 : x6.toInt = (((N - 1) / n : Nat) : Int) := by rw [e6]; exact divQ (x := N - 1) (y := n) (by omega) ha (by omega)
    refine vIn (by omega) (by omega) fun _ => ?_
    refine vAl (x := m.1 15 0) rfl ?_
    refine vS (by omega) fun x10 e10 f10 => ?_
    exact so46 hN (by omega) hN60 ha hn hld w6 n 0 xFuel (m.1 15 0) 0 0 0 x10 (by omega) (by omega) rfl (Int.sub_zero _).symm rfl rfl rfl (by omega)
  · unfold fX4_steppedOn_13
    refine rP ?_
    rw [← hV, if_pos (by omega)]
    exact cm1
end
/-! the reference -/
theorem cmb_m1 {a2 : Int32} {u : Int} : cmb a2 u (-1) = u := if_pos rfl
def FT (m m1 : xMem) : Prop := m1.2 = m.2 ∧ ∀ b j, b ≠ 315 → b ≠ 316 → m1.1 b j = m.1 b j
theorem FT_refl {m : xMem} : FT m m := ⟨rfl, fun _ _ _ _ => rfl⟩
theorem FT_put {m0 m : xMem} {b j : Nat} {v : Int32} (h : FT m0 m) (hb : b = 315 ∨ b = 316) : FT m0 (xPut m b j v) := by
  refine ⟨h.1, fun c i q1 q2 => ?_⟩
  show (if c = b ∧ i = j then v else m.1 c i) = _
  rw [if_neg (by omega)]
  exact h.2 c i q1 q2
def rwT (m : xMem) (N : Nat) : Nat → Int := gOf (fun j => m.1 292 (1550 + j)) N
section
variable {m0 : xMem} {N n : Nat} {a1 a2 a3 : Int32} {P : Int32 × xMem → Prop}
theorem ch9 {m : xMem} {f v : Nat} (hN : (m.1 292 8).toInt = (N : Int)) (hN60 : N ≤ 60) (ha : a1.toInt = (n : Int)) (hn : 2 ≤ n ∧ n ≤ 40) (hf : 1 ≤ f ∧ f ≤ 40) (hv : v ≤ 2) (hld : ∀ j, j < N → 0 ≤ (m.1 292 (1550 + j)).toInt ∧ (m.1 292 (1550 + j)).toInt ≤ 80) : ∀ (e k fuel : Nat) (l4 l5 l6 : Int32), k + e = kF N n f → e < fuel → l4.toInt = (v : Int) + chP (rwT m N) n f k → l5.toInt = (v : Int) * (k : Int) + chU (rwT m N) n f k → l6.toInt = ((f + n * k : Nat) : Int) → (0 ≤ (v : Int) + chL (rwT m N) n f k ∧ (v : Int) + chH (rwT m N) n f k ≤ 2) → vOk (PP m (fun x : Int32 => x.toInt = cVt (chL (rwT m N) n f (kF N n f)) (chH (rwT m N) n f (kF N n f)) (chU (rwT m N) n f (kF N n f)) (kF N n f : Int) (v : Int))) (fX12_chain_9 291 a1 a2 a3 fuel l4 l5 l6 m) := by
  have c0 : (0 : Int32).toInt = 0 := rfl
  have c1 : (1 : Int32).toInt = 1 := rfl
  have c2 : (2 : Int32).toInt = 2 := rfl
  have c8 : (8 : Int32).toInt = 8 := rfl
  have cm1 : (-1 : Int32).toInt = -1 := rfl
  have c1550 : (1550 : Int32).toInt = 1550 := rfl
  obtain ⟨kb1, kb2⟩ := kF_ok (N := N) (f := f) (show 1 ≤ n by omega)
  have k60 := kF_60 (N := N) (f := f) (show 1 ≤ n by omega) hf.1 hN60
  have hg : ∀ t, -80 ≤ rwT m N t ∧ rwT m N t ≤ 80 := gOf_b (r := fun j => m.1 292 (1550 + j)) hld
  intro e
  induction e with
  | zero =>
    intro k fuel l4 l5 l6 hke hfu h4 h5 h6 hok
    obtain ⟨fu, rfl⟩ : ∃ q, fuel = q + 1 := ⟨fuel - 1, by omega⟩
    have ek : k = kF N n f := by omega
    subst ek
    rw [fX12_chain_9]
    refine vIn (by omega) (by omega) fun _ => ?_
    refine vAl (x := m.1 292 8) rfl ?_
    refine vLe (fun _ => ?_) (fun g => ?_)
    · refine rP ?_
      rw [h5]
      exact (if_pos hok).symm
    · exfalso
      rw [h6, hN] at g
      exact absurd kb1 (Nat.not_le.mpr (Int.ofNat_lt.mp g))
  | succ e ih =>
    intro k fuel l4 l5 l6 hke hfu h4 h5 h6 hok
    obtain ⟨fu, rfl⟩ : ∃ q, fuel = q + 1 := ⟨fuel - 1, by omega⟩
    have tN := kb2 k (by omega)
    have b1 := ch_b (n := n) (f := f) hg k (by omega)
    have b2 := chP_b (n := n) (f := f) hg k
    have eP : chP (rwT m N) n f (k + 1) = chP (rwT m N) n f k + rwT m N (f + n * k) := rfl
    have eL : chL (rwT m N) n f (k + 1) = min (chL (rwT m N) n f k) (chP (rwT m N) n f (k + 1)) := rfl
    have eH : chH (rwT m N) n f (k + 1) = max (chH (rwT m N) n f k) (chP (rwT m N) n f (k + 1)) := rfl
    have eU : chU (rwT m N) n f (k + 1) = chU (rwT m N) n f k + chP (rwT m N) n f (k + 1) := rfl
    have et : f + n * (k + 1) = f + n * k + n := by rw [Nat.mul_add, Nat.mul_one]; omega
    have ev : (v : Int) * ((k + 1 : Nat) : Int) = (v : Int) * (k : Int) + (v : Int) := by rw [castS, Int.mul_add, Int.mul_one]
    have ih' := ih (k + 1) fu
    rw [et, ev] at ih'
    generalize ht : f + n * k = t at tN eP h6 ih'
    have t1 : 1 ≤ t := by rw [← ht]; exact Nat.le_trans hf.1 (Nat.le_add_right _ _)
    have ge : rwT m N t = (m.1 292 (1550 + t)).toInt - (m.1 292 (1550 + (t - 1))).toInt := gOf_e (r := fun j => m.1 292 (1550 + j)) t1 tN
    have vk0 : 0 ≤ (v : Int) * (k : Int) := Int.mul_nonneg (by omega) (by omega)
    have vk1 : (v : Int) * (k : Int) ≤ 2 * (k : Int) := Int.mul_le_mul_of_nonneg_right (by omega) (by omega)
    rw [fX12_chain_9]
    refine vIn (by omega) (by omega) fun _ => ?_
    refine vAl (x := m.1 292 8) rfl ?_
    refine vLe (fun g => by exfalso; omega) (fun _ => ?_)
    refine vA (by omega) fun x4 e4 f4 => ?_
    refine vIn (by omega) (by omega) fun _ => ?_
    rw [wN (x := x4) (n := 1550 + t) (by omega)]
    refine vAl (x := m.1 292 (1550 + t)) rfl ?_
    refine vA (by omega) fun x7 e7 f7 => ?_
    refine vS (by omega) fun x8 e8 f8 => ?_
    refine vIn (by omega) (by omega) fun _ => ?_
    rw [wN (x := x8) (n := 1550 + (t - 1)) (by omega)]
    refine vAl (x := m.1 292 (1550 + (t - 1))) rfl ?_
    have r1 := hld t tN
    have r2 := hld (t - 1) (by omega)
    refine vS (by omega) fun x11 e11 f11 => ?_
    refine vA (by omega) fun x12 e12 f12 => ?_
    refine vAlB (in_e _ _ _ _) ?_
    dsimp only
    by_cases q : 0 ≤ x12.toInt ∧ x12.toInt ≤ 2
    · rw [wi_1 (by omega), if_pos (show ¬ (1 : Int32) = 0 by decide)]
      refine vA (by omega) fun x15 e15 f15 => ?_
      refine vA (by omega) fun x16 e16 f16 => ?_
      exact ih' x12 x15 x16 (by omega) (by omega) (by omega) (by omega) (by omega) ⟨by omega, by omega⟩
    · rw [wi_0 (by omega), if_neg (not_not_intro rfl)]
      refine rP ?_
      have mo := ch_mono (g := rwT m N) (n := n) (f := f) e (k + 1)
      rw [show k + 1 + e = kF N n f by omega] at mo
      have bad : ¬ (0 ≤ (v : Int) + chL (rwT m N) n f (kF N n f) ∧ (v : Int) + chH (rwT m N) n f (kF N n f) ≤ 2) := by
        intro w
        omega
      rw [show cVt (chL (rwT m N) n f (kF N n f)) (chH (rwT m N) n f (kF N n f)) (chU (rwT m N) n f (kF N n f)) (kF N n f : Int) (v : Int) = -1 from if_neg bad]
      exact cm1
theorem ch_e {m : xMem} {f v : Nat} (hN : (m.1 292 8).toInt = (N : Int)) (hN60 : N ≤ 60) (ha : a1.toInt = (n : Int)) (hn : 2 ≤ n ∧ n ≤ 40) (hf : 1 ≤ f ∧ f ≤ 40) (hv : v ≤ 2) (h2 : a2.toInt = (f : Int)) (h3 : a3.toInt = (v : Int)) (hld : ∀ j, j < N → 0 ≤ (m.1 292 (1550 + j)).toInt ∧ (m.1 292 (1550 + j)).toInt ≤ 80) : vOk (PP m (fun x : Int32 => x.toInt = cVt (chL (rwT m N) n f (kF N n f)) (chH (rwT m N) n f (kF N n f)) (chU (rwT m N) n f (kF N n f)) (kF N n f : Int) (v : Int))) (fX12_chain 291 a1 a2 a3 m) := by
  have cF := xFu
  have c0 : (0 : Int32).toInt = 0 := rfl
  have k60 := kF_60 (N := N) (f := f) (show 1 ≤ n by omega) hf.1 hN60
  unfold fX12_chain fX12_chain_0
  refine ch9 hN hN60 ha hn hf hv hld (kF N n f) 0 xFuel a3 0 a2 (by omega) (by omega) (h3.trans (Int.add_zero _).symm) ?_ (by rw [Nat.mul_zero]; omega) ?_
  · show (0 : Int32).toInt = (v : Int) * ((0 : Nat) : Int) + 0
    omega
  · show 0 ≤ (v : Int) + 0 ∧ (v : Int) + 0 ≤ 2
    omega
/-- the table's two rows -/
def RwT (m : xMem) (b : Nat) (T : Nat → Int) : Prop := ∀ s, s < 81 → (m.1 b s).toInt = T s
theorem tk104 {rec53 : Int32 → xMem → Option (Int32 × xMem)} {rec85 : Int32 → Int32 → xMem → Option (Int32 × xMem)} {l3 l4 l5 : Int32} {v : Nat} {T U : Nat → Int} (hv : v ≤ 2) (h4 : l4.toInt = (v : Int)) (hT : ∀ s, s < 81 → -1 ≤ T s ∧ T s ≤ 1000000000) (h5 : -1 ≤ l5.toInt ∧ l5.toInt ≤ 1000000) (hk : ∀ m x, FT m0 m → RwT m 315 T → RwT m 316 (fun s => cmb a2 (U s) (tmt T l5.toInt v s)) → x.toInt = (v : Int) + 1 → vOk P (rec85 l3 x m)) : ∀ (e s fuel : Nat) (l6 : Int32) (m : xMem), s + e = 81 → e < fuel → l6.toInt = (s : Int) → FT m0 m → RwT m 315 T → (∀ z, z < 81 → (m.1 316 z).toInt = if z < s + v then cmb a2 (U z) (tmt T l5.toInt v z) else U z) → vOk P (fX12_taken_104 291 a1 a2 rec53 rec85 fuel l3 l4 l5 l6 m) := by
  have c0 : (0 : Int32).toInt = 0 := rfl
  have c1 : (1 : Int32).toInt = 1 := rfl
  have c81 : (81 : Int32).toInt = 81 := rfl
  have cm1 : (-1 : Int32).toInt = -1 := rfl
  have ex : ∀ m, FT m0 m → RwT m 315 T → RwT m 316 (fun s => cmb a2 (U s) (tmt T l5.toInt v s)) → vOk P (fX12_taken_205 291 a1 a2 rec53 rec85 l3 l4 m) := by
    intro m f1 f2 f3
    unfold fX12_taken_205
    refine vA (by omega) fun x e f => ?_
    exact hk m x f1 f2 f3 (by omega)
  intro e
  induction e with
  | zero =>
    intro s fuel l6 m hse hfu h6 hF h315 h316
    obtain ⟨fu, rfl⟩ : ∃ q, fuel = q + 1 := ⟨fuel - 1, by omega⟩
    rw [fX12_taken_104]
    refine vA (by omega) fun x1 e1 f1 => ?_
    refine vLe (fun _ => ?_) (fun g => by exfalso; omega)
    refine ex m hF h315 fun z hz => ?_
    rw [h316 z hz, if_pos (by omega)]
  | succ e ih =>
    intro s fuel l6 m hse hfu h6 hF h315 h316
    obtain ⟨fu, rfl⟩ : ∃ q, fuel = q + 1 := ⟨fuel - 1, by omega⟩
    have w6 := wN h6
    have hTs := hT s (by omega)
    have e315 := h315 s (by omega)
    have step : ∀ (m1 : xMem), FT m0 m1 → RwT m1 315 T → (∀ z, z < 81 → (m1.1 316 z).toInt = if z < s + 1 + v then cmb a2 (U z) (tmt T l5.toInt v z) else U z) → vOk P (fX12_taken_199 291 a1 a2 rec53 rec85 (fX12_taken_104 291 a1 a2 rec53 rec85 fu) l3 l4 l5 l6 m1) := by
      intro m1 f1 f2 f3
      unfold fX12_taken_199
      refine vA (by omega) fun x e' f => ?_
      exact ih (s + 1) fu x m1 (by omega) (by omega) (by omega) f1 f2 f3
    rw [fX12_taken_104]
    refine vA (by omega) fun x1 e1 f1 => ?_
    refine vLe (fun g => ?_) (fun g => ?_)
    · refine ex m hF h315 fun z hz => ?_
      rw [h316 z hz, if_pos (by omega)]
    · have tms : tmt T l5.toInt v (s + v) = if ¬ l5.toInt = -1 ∧ ¬ T s = -1 then T s + l5.toInt else -1 := by
        unfold tmt
        rw [show s + v - v = s by omega]
        by_cases q : ¬ l5.toInt = -1 ∧ ¬ T s = -1
        · rw [if_pos q, if_pos ⟨by omega, q.1, q.2⟩]
        · rw [if_neg q, if_neg (fun w => q w.2)]
      have u316 : (m.1 316 (s + v)).toInt = U (s + v) := by
        rw [h316 (s + v) (by omega), if_neg (by omega)]
      have low : ∀ z, z < v → cmb a2 (U z) (tmt T l5.toInt v z) = U z := by
        intro z hz
        rw [show tmt T l5.toInt v z = -1 from if_neg (fun w => by have := w.1; omega), cmb_m1]
      refine vEq (fun g2 => ?_) (fun g2 => ?_)
      · refine ex m hF h315 fun z hz => ?_
        rw [h316 z hz]
        by_cases q : z < s + v
        · rw [if_pos q]
        · rw [if_neg q]
          show U z = cmb a2 (U z) (tmt T l5.toInt v z)
          rw [show tmt T l5.toInt v z = -1 from if_neg (fun w => w.2.1 (g2.trans cm1)), cmb_m1]
      · refine vIn (by omega) (by omega) fun _ => ?_
        rw [w6]
        refine vAl (x := m.1 315 s) rfl ?_
        refine vEq (fun g3 => ?_) (fun g3 => ?_)
        · refine step m hF h315 fun z hz => ?_
          rw [h316 z hz]
          by_cases q : z < s + v
          · rw [if_pos q, if_pos (by omega)]
          · rw [if_neg q]
            by_cases q2 : z < s + 1 + v
            · rw [if_pos q2]
              have ez : z = s + v := by omega
              subst ez
              rw [tms, if_neg (fun w => w.2 (by omega)), cmb_m1]
            · rw [if_neg q2]
        · have tmv : tmt T l5.toInt v (s + v) = T s + l5.toInt := by rw [tms, if_pos ⟨by omega, by omega⟩]
          refine vIn (by omega) (by omega) fun _ => ?_
          refine vAl (x := m.1 315 s) rfl ?_
          refine vA (by omega) fun x9 e9 f9 => ?_
          refine vA (by omega) fun x10 e10 f10 => ?_
          refine vIn (by omega) (by omega) fun _ => ?_
          rw [wN (x := x10) (n := s + v) (by omega)]
          refine vAl (x := m.1 316 (s + v)) rfl ?_
          refine vA (by omega) fun x13 e13 f13 => ?_
          have w13 := wN (x := x13) (n := s + v) (by omega)
          have put : ∀ y : Int32, y.toInt = cmb a2 (U (s + v)) (T s + l5.toInt) → vOk P (fX12_taken_198 291 a1 a2 rec53 rec85 (fX12_taken_104 291 a1 a2 rec53 rec85 fu) l3 l4 l5 l6 (291 + 25) x13 y m) := by
            intro y hy
            unfold fX12_taken_198
            refine vIn (by omega) (by omega) fun _ => ?_
            rw [w13]
            refine vR fun m1 em => ?_
            have fm : ∀ b z, ¬ (b = 316 ∧ z = s + v) → m1.1 b z = m.1 b z := fun b z w => by
              rw [em]
              show (if b = 291 + 25 ∧ z = s + v then _ else m.1 b z) = _
              rw [if_neg (by omega)]
            have vm : m1.1 316 (s + v) = y := by rw [em]; exact xP_eq.symm
            refine step m1 (by rw [em]; exact FT_put hF (Or.inr rfl)) (fun z hz => by rw [fm 315 z (by omega)]; exact h315 z hz) fun z hz => ?_
            by_cases q : z = s + v
            · subst q
              rw [vm, hy, if_pos (by omega), tmv]
            · rw [fm 316 z (by omega), h316 z hz]
              by_cases q2 : z < s + v
              · rw [if_pos q2, if_pos (by omega)]
              · rw [if_neg q2, if_neg (by omega)]
          have n1 : ¬ T s + l5.toInt = -1 := by omega
          refine vEq (fun g4 => ?_) (fun g4 => ?_)
          · unfold fX12_taken_191
            refine put x9 ?_
            unfold cmb
            rw [if_neg n1, if_pos (by omega)]
            omega
          · refine vEq (fun g5 => ?_) (fun g5 => ?_)
            · have z2 : a2 = 0 := Int32.toInt_inj.mp g5
              refine vLe (fun g6 => ?_) (fun g6 => ?_)
              · unfold fX12_taken_196
                refine put (m.1 316 (s + v)) ?_
                unfold cmb
                rw [if_neg n1, if_neg (by omega), if_pos z2]
                omega
              · unfold fX12_taken_191
                refine put x9 ?_
                unfold cmb
                rw [if_neg n1, if_neg (by omega), if_pos z2]
                omega
            · have z2 : ¬ a2 = 0 := fun q => g5 (congrArg _ q)
              refine vLe (fun g6 => ?_) (fun g6 => ?_)
              · unfold fX12_taken_196
                refine put (m.1 316 (s + v)) ?_
                unfold cmb
                rw [if_neg n1, if_neg (by omega), if_neg z2]
                omega
              · unfold fX12_taken_191
                refine put x9 ?_
                unfold cmb
                rw [if_neg n1, if_neg (by omega), if_neg z2]
                omega
theorem tk214 {rec53 : Int32 → xMem → Option (Int32 × xMem)} {l3 : Int32} {T : Nat → Int} (h3 : 0 ≤ l3.toInt ∧ l3.toInt ≤ 100) (hk : ∀ m x, FT m0 m → RwT m 315 T → x.toInt = l3.toInt + 1 → vOk P (rec53 x m)) : ∀ (e s fuel : Nat) (l4 : Int32) (m : xMem), s + e = 81 → e < fuel → l4.toInt = (s : Int) → FT m0 m → RwT m 316 T → (∀ z, z < s → (m.1 315 z).toInt = T z) → vOk P (fX12_taken_214 291 a1 a2 rec53 fuel l3 l4 m) := by
  have c1 : (1 : Int32).toInt = 1 := rfl
  have c81 : (81 : Int32).toInt = 81 := rfl
  intro e
  induction e with
  | zero =>
    intro s fuel l4 m hse hfu h4 hF h316 h315
    obtain ⟨fu, rfl⟩ : ∃ q, fuel = q + 1 := ⟨fuel - 1, by omega⟩
    rw [fX12_taken_214]
    refine vLe (fun _ => ?_) (fun g => by exfalso; omega)
    refine vA (by omega) fun x e f => ?_
    exact hk m x hF (fun z hz => h315 z (by omega)) (by omega)
  | succ e ih =>
    intro s fuel l4 m hse hfu h4 hF h316 h315
    obtain ⟨fu, rfl⟩ : ∃ q, fuel = q + 1 := ⟨fuel - 1, by omega⟩
    rw [fX12_taken_214]
    refine vLe (fun g => by exfalso; omega) (fun _ => ?_)
    refine vIn (by omega) (by omega) fun _ => ?_
    rw [wN h4]
    refine vAl (x := m.1 316 s) rfl ?_
    refine vIn (by omega) (by omega) fun _ => ?_
    refine vR fun m5 e5 => ?_
    refine vA (by omega) fun x7 e7 f7 => ?_
    have fm : ∀ b z, ¬ (b = 315 ∧ z = s) → m5.1 b z = m.1 b z := fun b z w => by
      rw [e5]
      show (if b = 291 + 24 ∧ z = s then _ else m.1 b z) = _
      rw [if_neg (by omega)]
    have vm : m5.1 315 s = m.1 316 s := by rw [e5]; exact xP_eq.symm
    refine ih (s + 1) fu x7 m5 (by omega) (by omega) (by omega) (by rw [e5]; exact FT_put hF (Or.inl rfl)) (fun z hz => by rw [fm 316 z (by omega)]; exact h316 z hz) fun z hz => ?_
    by_cases q : z = s
    · subst q
      rw [vm]; exact h316 z (by omega)
    · rw [fm 315 z (by omega)]
      exact h315 z (by omega)
theorem tk85 {rec53 : Int32 → xMem → Option (Int32 × xMem)} {l3 : Int32} {f : Nat} {T : Nat → Int} (hN : (m0.1 292 8).toInt = (N : Int)) (hN60 : N ≤ 60) (ha : a1.toInt = (n : Int)) (hn : 2 ≤ n ∧ n ≤ 40) (hf : 1 ≤ f ∧ f ≤ 40) (h3 : l3.toInt = (f : Int)) (hld : ∀ j, j < N → 0 ≤ (m0.1 292 (1550 + j)).toInt ∧ (m0.1 292 (1550 + j)).toInt ≤ 80) (hT : ∀ s, s < 81 → -1 ≤ T s ∧ T s ≤ 1000000000) (hk : ∀ m x, FT m0 m → RwT m 315 (tUt a2 T (fun v => cVt (chL (rwT m0 N) n f (kF N n f)) (chH (rwT m0 N) n f (kF N n f)) (chU (rwT m0 N) n f (kF N n f)) (kF N n f : Int) (v : Int)) 3) → x.toInt = l3.toInt + 1 → vOk P (rec53 x m)) : ∀ (e v fuel : Nat) (l4 : Int32) (m : xMem), v + e = 3 → e < fuel → l4.toInt = (v : Int) → FT m0 m → RwT m 315 T → RwT m 316 (tUt a2 T (fun v => cVt (chL (rwT m0 N) n f (kF N n f)) (chH (rwT m0 N) n f (kF N n f)) (chU (rwT m0 N) n f (kF N n f)) (kF N n f : Int) (v : Int)) v) → vOk P (fX12_taken_85 291 a1 a2 rec53 fuel l3 l4 m) := by
  have c0 : (0 : Int32).toInt = 0 := rfl
  have c3 : (3 : Int32).toInt = 3 := rfl
  have cF := xFu
  have k60 := kF_60 (N := N) (f := f) (show 1 ≤ n by omega) hf.1 hN60
  have hg : ∀ t, -80 ≤ rwT m0 N t ∧ rwT m0 N t ≤ 80 := gOf_b (r := fun j => m0.1 292 (1550 + j)) hld
  obtain ⟨b1, b2, b3, b4⟩ := ch_b (n := n) (f := f) hg (kF N n f) k60
  intro e
  induction e with
  | zero =>
    intro v fuel l4 m hve hfu h4 hF h315 h316
    obtain ⟨fu, rfl⟩ : ∃ q, fuel = q + 1 := ⟨fuel - 1, by omega⟩
    have ev : v = 3 := by omega
    subst ev
    rw [fX12_taken_85]
    refine vLe (fun _ => ?_) (fun g => by exfalso; omega)
    exact tk214 (T := tUt a2 T (fun v => cVt (chL (rwT m0 N) n f (kF N n f)) (chH (rwT m0 N) n f (kF N n f)) (chU (rwT m0 N) n f (kF N n f)) (kF N n f : Int) (v : Int)) 3) (by omega) hk 81 0 xFuel 0 m (by omega) (by omega) rfl hF h316 (fun z hz => absurd hz (Nat.not_lt_zero z))
  | succ e ih =>
    intro v fuel l4 m hve hfu h4 hF h315 h316
    obtain ⟨fu, rfl⟩ : ∃ q, fuel = q + 1 := ⟨fuel - 1, by omega⟩
    have e292 : ∀ j, m.1 292 j = m0.1 292 j := fun j => hF.2 292 j (by omega) (by omega)
    have erw : rwT m N = rwT m0 N := by
      unfold rwT
      rw [show (fun j => m.1 292 (1550 + j)) = fun j => m0.1 292 (1550 + j) from funext fun j => e292 _]
    rw [fX12_taken_85]
    refine vLe (fun g => by exfalso; omega) (fun _ => ?_)
    refine vBindP (ch_e (m := m) (N := N) (n := n) (f := f) (v := v) (by rw [e292]; exact hN) hN60 ha hn hf (by omega) h3 h4 (fun j hj => by rw [e292]; exact hld j hj)) fun x _ hx => ?_
    dsimp only
    rw [erw] at hx
    have vk0 : 0 ≤ (v : Int) * (kF N n f : Int) := Int.mul_nonneg (by omega) (by omega)
    have vk1 : (v : Int) * (kF N n f : Int) ≤ 2 * (kF N n f : Int) := Int.mul_le_mul_of_nonneg_right (by omega) (by omega)
    have hx2 : -1 ≤ x.toInt ∧ x.toInt ≤ 1000000 := by
      rw [hx]
      unfold cVt
      by_cases q : 0 ≤ (v : Int) + chL (rwT m0 N) n f (kF N n f) ∧ (v : Int) + chH (rwT m0 N) n f (kF N n f) ≤ 2
      · rw [if_pos q]
        have n0 : 0 ≤ ((v : Int) + chL (rwT m0 N) n f (kF N n f)) * (kF N n f : Int) := Int.mul_nonneg q.1 (by omega)
        rw [Int.add_mul] at n0
        omega
      · rw [if_neg q]; omega
    refine tk104 (m0 := m0) (v := v) (T := T) (U := tUt a2 T (fun v => cVt (chL (rwT m0 N) n f (kF N n f)) (chH (rwT m0 N) n f (kF N n f)) (chU (rwT m0 N) n f (kF N n f)) (kF N n f : Int) (v : Int)) v) (by omega) h4 hT hx2 (fun m1 y f1 f2 f3 hy => ?_) 81 0 xFuel 0 m (by omega) (by omega) rfl hF h315 (fun z hz => ?_)
    · rw [hx] at f3
      exact ih (v + 1) fu y m1 (by omega) (by omega) (by omega) f1 f2 f3
    · rw [h316 z hz]
      by_cases q : z < 0 + v
      · rw [if_pos q]
        rw [show tmt T x.toInt v z = -1 from if_neg (fun w => by have := w.1; omega), cmb_m1]
      · rw [if_neg q]
theorem tk61 {rec53 : Int32 → xMem → Option (Int32 × xMem)} {l3 : Int32} {T : Nat → Int} (hk : ∀ m, FT m0 m → RwT m 315 T → RwT m 316 (fun _ => -1) → vOk P (fX12_taken_85 291 a1 a2 rec53 xFuel l3 0 m)) : ∀ (e s fuel : Nat) (l4 : Int32) (m : xMem), s + e = 81 → e < fuel → l4.toInt = (s : Int) → FT m0 m → RwT m 315 T → (∀ z, z < s → (m.1 316 z).toInt = -1) → vOk P (fX12_taken_61 291 a1 a2 rec53 fuel l3 l4 m) := by
  have c1 : (1 : Int32).toInt = 1 := rfl
  have c81 : (81 : Int32).toInt = 81 := rfl
  have cm1 : (-1 : Int32).toInt = -1 := rfl
  intro e
  induction e with
  | zero =>
    intro s fuel l4 m hse hfu h4 hF h315 h316
    obtain ⟨fu, rfl⟩ : ∃ q, fuel = q + 1 := ⟨fuel - 1, by omega⟩
    rw [fX12_taken_61]
    refine vLe (fun _ => ?_) (fun g => by exfalso; omega)
    exact hk m hF h315 fun z hz => h316 z (by omega)
  | succ e ih =>
    intro s fuel l4 m hse hfu h4 hF h315 h316
    obtain ⟨fu, rfl⟩ : ∃ q, fuel = q + 1 := ⟨fuel - 1, by omega⟩
    rw [fX12_taken_61]
    refine vLe (fun g => by exfalso; omega) (fun _ => ?_)
    refine vIn (by omega) (by omega) fun _ => ?_
    rw [wN h4]
    refine vR fun m2 e2 => ?_
    refine vA (by omega) fun x4 e4 f4 => ?_
    have fm : ∀ b z, ¬ (b = 316 ∧ z = s) → m2.1 b z = m.1 b z := fun b z w => by
      rw [e2]
      show (if b = 291 + 25 ∧ z = s then _ else m.1 b z) = _
      rw [if_neg (by omega)]
    have vm : m2.1 316 s = -1 := by rw [e2]; exact xP_eq.symm
    refine ih (s + 1) fu x4 m2 (by omega) (by omega) (by omega) (by rw [e2]; exact FT_put hF (Or.inr rfl)) (fun z hz => by rw [fm 315 z (by omega)]; exact h315 z hz) fun z hz => ?_
    by_cases q : z = s
    · subst q
      rw [vm]; exact cm1
    · rw [fm 316 z (by omega)]
      exact h316 z (by omega)
theorem tUt_cg {T T' : Nat → Int} {c : Nat → Int} (h : ∀ s, s < 81 → T s = T' s) : ∀ k s, s < 81 → tUt a2 T c k s = tUt a2 T' c k s := by
  intro k
  induction k with
  | zero => intro s _; rfl
  | succ k ih =>
    intro s hs
    show cmb a2 (tUt a2 T c k s) (tmt T (c k) k s) = cmb a2 (tUt a2 T' c k s) (tmt T' (c k) k s)
    rw [ih s hs]
    unfold tmt
    rw [h (s - k) (by omega)]
/-- the table behind j chains -/
theorem VB_step {r : Nat → Int32} {j : Nat} (hld : ∀ j, j < N → 0 ≤ (r j).toInt ∧ (r j).toInt ≤ 80) (hn : 1 ≤ n) (hN : 1 ≤ N ∧ N ≤ 60) (hj : j < n) {s : Nat} (hs : s < 81) : tUt a2 (fun s => VBt (gOf r N) N n a2 j (s : Int)) (fun v => cVt (chL (gOf r N) n (j + 1) (kF N n (j + 1))) (chH (gOf r N) n (j + 1) (kF N n (j + 1))) (chU (gOf r N) n (j + 1) (kF N n (j + 1))) (kF N n (j + 1) : Int) (v : Int)) 3 s = VBt (gOf r N) N n a2 (j + 1) (s : Int) := by
  have hg := gOf_b hld
  have k60 := kF_60 (N := N) (f := j + 1) hn (by omega) hN.2
  obtain ⟨b1, b2, b3, b4⟩ := ch_b (n := n) (f := j + 1) hg (kF N n (j + 1)) k60
  have k2 := kF_2 (N := N) (f := j + 1) hn (by omega) (by omega) hN.1
  by_cases hG : aG (gOf r N) N n j = true
  · obtain ⟨i1, i2, i3, i4⟩ := a_b hg hn hN.2 j hG
    have eT : (fun s : Nat => VBt (gOf r N) N n a2 j (s : Int)) = fun s : Nat => tVal a2 (aS (gOf r N) N n j) (aT (gOf r N) N n j) (aC (gOf r N) N n j) (((N - 1) / n : Nat) : Int) ((s : Int) - aL (gOf r N) N n j) := funext fun s => if_pos hG
    rw [eT, key_t i2.1 i3.1 i4.1 (Int.natCast_nonneg _) i1.1 b1.2 b2.1 b4 (k2.elim (fun e => Or.inl (by rw [e])) (fun e => Or.inr (by rw [e, castS])))]
    have e5 : aG (gOf r N) N n (j + 1) = (aG (gOf r N) N n j && decide (0 ≤ cSp (gOf r N) N n j)) := rfl
    by_cases sp : 0 ≤ cSp (gOf r N) N n j
    · have hG' : aG (gOf r N) N n (j + 1) = true := by rw [e5, hG, decide_eq_true sp]; rfl
      rw [if_pos (show 0 ≤ 2 - chH (gOf r N) n (j + 1) (kF N n (j + 1)) + chL (gOf r N) n (j + 1) (kF N n (j + 1)) from sp)]
      rw [show VBt (gOf r N) N n a2 (j + 1) (s : Int) = tVal a2 (aS (gOf r N) N n (j + 1)) (aT (gOf r N) N n (j + 1)) (aC (gOf r N) N n (j + 1)) (((N - 1) / n : Nat) : Int) ((s : Int) - aL (gOf r N) N n (j + 1)) from if_pos hG']
      have x2 : aS (gOf r N) N n (j + 1) = aS (gOf r N) N n j + (if ((((N - 1) / n : Nat)) : Int) < (kF N n (j + 1) : Int) then cSp (gOf r N) N n j else 0) := by
        show aS (gOf r N) N n j + (if (N - 1) / n < kF N n (j + 1) then cSp (gOf r N) N n j else 0) = _
        by_cases q : (N - 1) / n < kF N n (j + 1)
        · rw [if_pos q, if_pos (Int.ofNat_lt.mpr q)]
        · rw [if_neg q, if_neg (fun w => q (Int.ofNat_lt.mp w))]
      have x3 : aT (gOf r N) N n (j + 1) = aT (gOf r N) N n j + (if ((((N - 1) / n : Nat)) : Int) < (kF N n (j + 1) : Int) then 0 else cSp (gOf r N) N n j) := by
        show aT (gOf r N) N n j + (if (N - 1) / n < kF N n (j + 1) then 0 else cSp (gOf r N) N n j) = _
        by_cases q : (N - 1) / n < kF N n (j + 1)
        · rw [if_pos q, if_pos (Int.ofNat_lt.mpr q)]
        · rw [if_neg q, if_neg (fun w => q (Int.ofNat_lt.mp w))]
      rw [x2, x3]
      rfl
    · have hG' : aG (gOf r N) N n (j + 1) = false := by rw [e5, decide_eq_false sp, Bool.and_false]
      rw [if_neg (show ¬ 0 ≤ 2 - chH (gOf r N) n (j + 1) (kF N n (j + 1)) + chL (gOf r N) n (j + 1) (kF N n (j + 1)) from sp)]
      exact (if_neg (by rw [hG']; decide)).symm
  · have hG' : aG (gOf r N) N n (j + 1) = false := by
      show (aG (gOf r N) N n j && _) = false
      rw [Bool.eq_false_iff.mpr hG]
      rfl
    rw [show VBt (gOf r N) N n a2 (j + 1) (s : Int) = -1 from if_neg (by rw [hG']; decide)]
    rcases tU_opt (a2 := a2) (T := fun s => VBt (gOf r N) N n a2 j (s : Int)) (c := fun v => cVt (chL (gOf r N) n (j + 1) (kF N n (j + 1))) (chH (gOf r N) n (j + 1) (kF N n (j + 1))) (chU (gOf r N) n (j + 1) (kF N n (j + 1))) (kF N n (j + 1) : Int) (v : Int)) (s := s) 3 with q | ⟨q1, ⟨v, _, q2⟩, _⟩
    · exact q.1
    · refine absurd (q2.trans ?_) q1
      unfold tmt
      exact if_neg fun w => w.2.2 (if_neg hG)
theorem VB_b {r : Nat → Int32} {j : Nat} (hld : ∀ j, j < N → 0 ≤ (r j).toInt ∧ (r j).toInt ≤ 80) (hn : 1 ≤ n) (hN : 1 ≤ N ∧ N ≤ 60) (hj : j ≤ 40) (s : Int) : -1 ≤ VBt (gOf r N) N n a2 j s ∧ VBt (gOf r N) N n a2 j s ≤ 1000000000 := by
  have hg := gOf_b hld
  have s59 : (N - 1) / n ≤ 59 := by
    have := Nat.div_le_self (N - 1) n
    omega
  unfold VBt
  by_cases hG : aG (gOf r N) N n j = true
  · obtain ⟨i1, i2, i3, i4⟩ := a_b hg hn hN.2 j hG
    rw [if_pos hG, tVal_e]
    generalize (N - 1) / n = sg at s59
    generalize s - aL (gOf r N) N n j = x
    by_cases q : 0 ≤ x ∧ x ≤ aS (gOf r N) N n j + aT (gOf r N) N n j
    · rw [if_pos q]
      have mm1 : 0 ≤ x * (sg : Int) := Int.mul_nonneg q.1 (by omega)
      have mm2 : x * (sg : Int) ≤ 160 * (sg : Int) := Int.mul_le_mul_of_nonneg_right (by omega) (by omega)
      by_cases z : a2 = 0
      · rw [if_pos z]; omega
      · rw [if_neg z]; omega
    · rw [if_neg q]; omega
  · rw [if_neg hG]; omega
theorem tk53 (hN : (m0.1 292 8).toInt = (N : Int)) (hN1 : 1 ≤ N ∧ N ≤ 60) (ha : a1.toInt = (n : Int)) (hn : 2 ≤ n ∧ n ≤ 40) (hld : ∀ j, j < N → 0 ≤ (m0.1 292 (1550 + j)).toInt ∧ (m0.1 292 (1550 + j)).toInt ≤ 80) : ∀ (e j fuel : Nat) (l3 : Int32) (m : xMem), j + e = n → e < fuel → l3.toInt = (j : Int) + 1 → FT m0 m → RwT m 315 (fun s => VBt (rwT m0 N) N n a2 j (s : Int)) → vOk (fun p : Int32 × xMem => p.1.toInt = VBt (rwT m0 N) N n a2 n (m0.1 292 1550).toInt) (fX12_taken_53 291 a1 a2 fuel l3 m) := by
  have c0 : (0 : Int32).toInt = 0 := rfl
  have c1550 : (1550 : Int32).toInt = 1550 := rfl
  have cF := xFu
  have ld0 : 0 ≤ (m0.1 292 1550).toInt ∧ (m0.1 292 1550).toInt ≤ 80 := hld 0 (by omega)
  intro e
  induction e with
  | zero =>
    intro j fuel l3 m hje hfu h3 hF h315
    obtain ⟨fu, rfl⟩ : ∃ q, fuel = q + 1 := ⟨fuel - 1, by omega⟩
    have ej : j = n := by omega
    subst ej
    have ez : m.1 292 1550 = m0.1 292 1550 := hF.2 292 1550 (by omega) (by omega)
    rw [fX12_taken_53]
    refine vLt (fun _ => ?_) (fun g => by exfalso; omega)
    refine vIn (by omega) (by omega) fun _ => ?_
    refine vAl (x := m0.1 292 1550) ez.symm ?_
    refine vIn (by omega) (by omega) fun _ => ?_
    have wz : (m0.1 292 1550).toNatClampNeg = (m0.1 292 1550).toInt.toNat := rfl
    refine vAl (x := m.1 315 (m0.1 292 1550).toNatClampNeg) rfl ?_
    refine vOk_some ?_
    show (m.1 315 (m0.1 292 1550).toNatClampNeg).toInt = _
    rw [h315 _ (by omega)]
    show VBt (rwT m0 N) N j a2 j (((m0.1 292 1550).toNatClampNeg : Nat) : Int) = _
    rw [clampI ld0.1]
  | succ e ih =>
    intro j fuel l3 m hje hfu h3 hF h315
    obtain ⟨fu, rfl⟩ : ∃ q, fuel = q + 1 := ⟨fuel - 1, by omega⟩
    rw [fX12_taken_53]
    refine vLt (fun g => by exfalso; omega) (fun _ => ?_)
    refine tk61 (m0 := m0) (T := fun s => VBt (rwT m0 N) N n a2 j (s : Int)) (fun m1 f1 f2 f3 => ?_) 81 0 xFuel 0 m (by omega) (by omega) rfl hF h315 (fun z hz => absurd hz (Nat.not_lt_zero z))
    refine tk85 (m0 := m0) (N := N) (n := n) (f := j + 1) (T := fun s => VBt (rwT m0 N) N n a2 j (s : Int)) hN hN1.2 ha hn (by omega) (by omega) hld (fun s _ => VB_b (r := fun j => m0.1 292 (1550 + j)) hld (by omega) hN1 (by omega) _) (fun m2 x g1 g2 hx => ?_) 3 0 xFuel 0 m1 (by omega) (by omega) rfl f1 f2 f3
    refine ih (j + 1) fu x m2 (by omega) (by omega) (by omega) g1 fun s hs => ?_
    rw [g2 s hs]
    exact VB_step (r := fun j => m0.1 292 (1550 + j)) hld (by omega) hN1 (by omega) hs
theorem tk24 (hN : (m0.1 292 8).toInt = (N : Int)) (hN1 : 1 ≤ N ∧ N ≤ 60) (ha : a1.toInt = (n : Int)) (hn : 2 ≤ n ∧ n ≤ 40) (hld : ∀ j, j < N → 0 ≤ (m0.1 292 (1550 + j)).toInt ∧ (m0.1 292 (1550 + j)).toInt ≤ 80) : ∀ (e s fuel : Nat) (l3 : Int32) (m : xMem), s + e = 81 → e < fuel → l3.toInt = (s : Int) → FT m0 m → (∀ z, z < s → (m.1 315 z).toInt = if z = 0 then 0 else -1) → vOk (fun p : Int32 × xMem => p.1.toInt = VBt (rwT m0 N) N n a2 n (m0.1 292 1550).toInt) (fX12_taken_24 291 a1 a2 fuel l3 m) := by
  have c0 : (0 : Int32).toInt = 0 := rfl
  have c1 : (1 : Int32).toInt = 1 := rfl
  have c81 : (81 : Int32).toInt = 81 := rfl
  have cm1 : (-1 : Int32).toInt = -1 := rfl
  have cF := xFu
  intro e
  induction e with
  | zero =>
    intro s fuel l3 m hse hfu h3 hF h315
    obtain ⟨fu, rfl⟩ : ∃ q, fuel = q + 1 := ⟨fuel - 1, by omega⟩
    rw [fX12_taken_24]
    refine vLe (fun _ => ?_) (fun g => by exfalso; omega)
    refine tk53 hN hN1 ha hn hld n 0 xFuel 1 m (by omega) (by omega) rfl hF fun z hz => ?_
    rw [h315 z (by omega)]
    show _ = tVal a2 0 0 0 (((N - 1) / n : Nat) : Int) ((z : Int) - 0)
    rw [tVal_e]
    by_cases q : z = 0
    · subst q
      rw [if_pos rfl, if_pos (by omega)]
      by_cases y : a2 = 0
      · rw [if_pos y]; show (0 : Int) = 0 + (((0 : Nat) : Int) - 0) * _ + max 0 ((((0 : Nat) : Int) - 0) - 0); rw [show ((0 : Nat) : Int) - 0 = 0 by omega, Int.zero_mul]; omega
      · rw [if_neg y]; show (0 : Int) = 0 + (((0 : Nat) : Int) - 0) * _ + min (((0 : Nat) : Int) - 0) 0; rw [show ((0 : Nat) : Int) - 0 = 0 by omega, Int.zero_mul]; omega
    · rw [if_neg q, if_neg (by omega)]
  | succ e ih =>
    intro s fuel l3 m hse hfu h3 hF h315
    obtain ⟨fu, rfl⟩ : ∃ q, fuel = q + 1 := ⟨fuel - 1, by omega⟩
    have go : ∀ y : Int32, (y.toInt = if s = 0 then 0 else -1) → vOk (fun p : Int32 × xMem => p.1.toInt = VBt (rwT m0 N) N n a2 n (m0.1 292 1550).toInt) (fX12_taken_44 291 a1 a2 (fX12_taken_24 291 a1 a2 fu) l3 (291 + 24) l3 y m) := by
      intro y hy
      unfold fX12_taken_44
      refine vIn (by omega) (by omega) fun _ => ?_
      rw [wN h3]
      refine vR fun m1 e1 => ?_
      refine vA (by omega) fun x3 e3 f3 => ?_
      have fm : ∀ b z, ¬ (b = 315 ∧ z = s) → m1.1 b z = m.1 b z := fun b z w => by
        rw [e1]
        show (if b = 291 + 24 ∧ z = s then _ else m.1 b z) = _
        rw [if_neg (by omega)]
      have vm : m1.1 315 s = y := by rw [e1]; exact xP_eq.symm
      refine ih (s + 1) fu x3 m1 (by omega) (by omega) (by omega) (by rw [e1]; exact FT_put hF (Or.inl rfl)) fun z hz => ?_
      by_cases q : z = s
      · subst q
        rw [vm]; exact hy
      · rw [fm 315 z (by omega)]
        exact h315 z (by omega)
    rw [fX12_taken_24]
    refine vLe (fun g => by exfalso; omega) (fun _ => ?_)
    refine vNe (fun g => ?_) (fun g => ?_)
    · exact go (-1) (by rw [if_neg (by omega)]; exact cm1)
    · exact go 0 (by rw [if_pos (by omega)]; exact c0)
theorem taken_re {m : xMem} (hN : (m.1 292 8).toInt = (N : Int)) (hN60 : N ≤ 60) (hld : ∀ j, j < N → 0 ≤ (m.1 292 (1550 + j)).toInt ∧ (m.1 292 (1550 + j)).toInt ≤ 80) : vOk (fun p : Int32 × xMem => p.1.toInt = if 2 ≤ a1.toInt ∧ a1.toInt ≤ 40 then (if N = 0 then -1 else VBt (rwT m N) N a1.toInt.toNat a2 a1.toInt.toNat (m.1 292 1550).toInt) else -1) (fX12_taken 291 a1 a2 m) := by
  have c0 : (0 : Int32).toInt = 0 := rfl
  have c2 : (2 : Int32).toInt = 2 := rfl
  have c8 : (8 : Int32).toInt = 8 := rfl
  have c40 : (40 : Int32).toInt = 40 := rfl
  have cm1 : (-1 : Int32).toInt = -1 := rfl
  have cF := xFu
  generalize hV : (if 2 ≤ a1.toInt ∧ a1.toInt ≤ 40 then (if N = 0 then -1 else VBt (rwT m N) N a1.toInt.toNat a2 a1.toInt.toNat (m.1 292 1550).toInt) else -1) = V
  unfold fX12_taken fX12_taken_0
  refine vAlB (in_e _ _ _ _) ?_
  dsimp only
  by_cases g : 2 ≤ a1.toInt ∧ a1.toInt ≤ 40
  · rw [wi_1 (by omega), if_neg (show ¬ (1 : Int32) = 0 by decide)]
    rw [if_pos g] at hV
    refine vIn (by omega) (by omega) fun _ => ?_
    refine vAl (x := m.1 292 8) rfl ?_
    refine vNe (fun g2 => ?_) (fun g2 => ?_)
    · rw [if_neg (by omega)] at hV
      rw [← hV]
      exact tk24 hN (by omega) (by omega) (by omega) hld 81 0 xFuel 0 m (by omega) (by omega) rfl FT_refl (fun z hz => absurd hz (Nat.not_lt_zero z))
    · rw [if_pos (by omega)] at hV
      unfold fX12_taken_20
      refine vOk_some ?_
      rw [← hV]
      exact cm1
  · rw [wi_0 (by omega), if_pos rfl]
    rw [if_neg g] at hV
    unfold fX12_taken_20
    refine vOk_some ?_
    rw [← hV]
    exact cm1
end
/-! both -/
section
variable {m : xMem} {p : Int32 × xMem} {a1 a2 : Int32}
def TKN' (m : xMem) : Nat := (m.1 292 8).toInt.toNat
def TKA (m : xMem) (a1 a2 : Int32) : Int := if 2 ≤ a1.toInt ∧ a1.toInt ≤ 40 then (if TKN' m = 0 then -1 else VBt (rwT m (TKN' m)) (TKN' m) a1.toInt.toNat a2 a1.toInt.toNat (m.1 292 1550).toInt) else -1
theorem tk_facts (h : InvW m) : ((m.1 292 8).toInt = (TKN' m : Int) ∧ TKN' m ≤ 60) ∧ (∀ j, j < TKN' m → 0 ≤ (m.1 292 (1550 + j)).toInt ∧ (m.1 292 (1550 + j)).toInt ≤ 80) ∧ m.1 14 1 = m.1 292 8 ∧ ∀ j, j < TKN' m → m.1 15 j = m.1 292 (1550 + j) := by
  obtain ⟨⟨l0, l1⟩, l2⟩ := h.2.1.2.2.2
  have hl := h.1.2.1.2.1.1.2.2.2.2.2
  unfold TKN'
  refine ⟨⟨by omega, by omega⟩, fun j hj => hl j (by omega), h.1.2.2.1.1.2.2.2.2.2.2, fun j hj => l2 j (by omega)⟩
theorem ca_taken (h : InvW m) : vOk (fun p : Int32 × xMem => InvW p.2 ∧ (p.2 = m ∧ p.1.toInt = TKA m a1 a2)) (fX11_taken 0 a1 a2 m) := by
  have c2 : (2 : Int32).toInt = 2 := rfl
  have c40 : (40 : Int32).toInt = 40 := rfl
  have cm1 : (-1 : Int32).toInt = -1 := rfl
  obtain ⟨⟨k1, k2⟩, k3, k4, k5⟩ := tk_facts h
  unfold fX11_taken fX11_taken_0
  refine vAlB (within_e _ _ _ _) ?_
  dsimp only
  by_cases g : 2 ≤ a1.toInt ∧ a1.toInt ≤ 40
  · rw [wi_1 (by omega), if_neg (show ¬ (1 : Int32) = 0 by decide), show 0 + 1 + 13 = 14 from rfl]
    refine vBindP (so_e (m := m) (N := TKN' m) (n := a1.toInt.toNat) (a1 := a1) (a2 := a2) (by rw [k4]; exact k1) k2 (by omega) (by omega) (fun j hj => by rw [k5 j hj]; exact k3 j hj)) fun x _ hx => ?_
    dsimp only
    unfold fX11_taken_26
    refine vOk_some ⟨h, rfl, ?_⟩
    show x.toInt = _
    unfold TKA
    rw [hx, if_pos g]
    by_cases z : TKN' m = 0
    · rw [if_pos z, if_pos z]
    · rw [if_neg z, if_neg z]
      have e : gOf (m.1 15) (TKN' m) = rwT m (TKN' m) := by
        funext t
        unfold rwT gOf ldv
        by_cases q : t < TKN' m
        · rw [if_pos q, if_pos q, if_pos (by omega), if_pos (by omega), k5 t q, k5 (t - 1) (by omega)]
        · rw [if_neg q, if_neg q]
          by_cases q2 : t - 1 < TKN' m
          · rw [if_pos q2, if_pos q2, k5 (t - 1) q2]
          · rw [if_neg q2, if_neg q2]
      rw [e, k5 0 (by omega)]
  · rw [wi_0 (by omega), if_pos rfl]
    unfold fX11_taken_26
    refine vOk_some ⟨h, rfl, ?_⟩
    unfold TKA
    rw [if_neg g]
    exact cm1
theorem ra_taken (h : InvW m) (hp : InvW p.2 ∧ (p.2 = m ∧ p.1.toInt = TKA m a1 a2)) : vOk (fun q : Int32 × xMem => InvW q.2 ∧ p.1 = q.1) (fX12_taken 291 a1 a2 p.2) := by
  obtain ⟨⟨k1, k2⟩, k3, _, _⟩ := tk_facts h
  rw [hp.2.1]
  refine vOk_mono (vAnd2 (rw_taken h) (taken_re k1 k2 k3)) fun q hq => ⟨hq.1, ?_⟩
  refine Int32.toInt_inj.mp ?_
  rw [hp.2.2, hq.2]
  rfl
end
