/-! the reference: order, feed, end -/
theorem toNN {a : Int32} (h : 0 ≤ a.toInt) : (a.toInt.toNat : Int) = a.toInt := Int.toNat_of_nonneg h
theorem divP {a b : Int32} {n p : Nat} (ha : a.toInt = ((n ^ (p + 1) : Nat) : Int)) (hb : b.toInt = (n : Int)) (hn : 0 < n) : (a / b).toInt = ((n ^ p : Nat) : Int) := by
  have e : (((n ^ (p + 1) : Nat)) : Int).tdiv (n : Int) = ((n ^ p : Nat) : Int) := by
    rw [← Int.ofNat_tdiv, Nat.pow_succ, Nat.mul_div_cancel _ hn]
  have l : n ^ p ≤ n ^ (p + 1) := Nat.pow_le_pow_right hn (Nat.le_succ p)
  have t := tiB a
  rw [ha] at t
  rw [Int32.toInt_div, ha, hb, e]
  have l2 : ((n ^ p : Nat) : Int) ≤ ((n ^ (p + 1) : Nat) : Int) := Int.ofNat_le.mpr l
  have l3 : (0 : Int) ≤ ((n ^ p : Nat) : Int) := Int.natCast_nonneg _
  generalize ((n ^ p : Nat) : Int) = z at l2 l3 ⊢
  generalize ((n ^ (p + 1) : Nat) : Int) = y at t l2
  exact Int.bmod_eq_of_le (by omega) (by omega)
theorem divN {a b : Int32} (ha : 0 ≤ a.toInt) (hb : 0 ≤ b.toInt) : 0 ≤ (a / b).toInt ∧ (a / b).toInt ≤ a.toInt := by
  have h1 := Int.tdiv_nonneg ha hb
  have h2 := Int.tdiv_le_self b.toInt ha
  have t := tiB a
  have e : (a / b).toInt = a.toInt.tdiv b.toInt := by
    rw [Int32.toInt_div]
    exact Int.bmod_eq_of_le (by omega) (by omega)
  rw [e]
  exact ⟨h1, h2⟩
theorem powPos {n p : Nat} (hn : 0 < n) : (1 : Int) ≤ ((n ^ p : Nat) : Int) := by
  have := Nat.pow_pos (n := p) hn
  exact Int.ofNat_le.mpr this
section
variable {R m : xMem} {a1 a2 a3 : Int32}
theorem countsBy15_r (hG : GR R) (hI : IR R m) {n : Nat} (hn : 0 < n ∧ n ≤ 6) (ha2 : a2.toInt = (n : Int)) (ha1 : 0 ≤ a1.toInt) : ∀ (e : Nat) (f : Nat) (l4 l5 l6 l7 l8 : Int32), l8.toInt + e = n → 0 ≤ l8.toInt → l7.toInt = ((n ^ e : Nat) : Int) → vOk (PP m (fun _ : Int32 => True)) (fX12_countsBy_15 291 a1 a2 a3 (f + 1 + e) l4 l5 l6 l7 l8 m) := by
  have c0 : (0 : Int32).toInt = 0 := rfl
  have c1 : (1 : Int32).toInt = 1 := rfl
  have c3 : (3 : Int32).toInt = 3 := rfl
  have c4 : (4 : Int32).toInt = 4 := rfl
  have c1520 : (1520 : Int32).toInt = 1520 := rfl
  intro e
  induction e with
  | zero =>
    intro f l4 l5 l6 l7 l8 he h8 h7
    rw [show f + 1 + 0 = f + 1 from rfl, fX12_countsBy_15]
    refine vLe (fun _ => rP True.intro) (fun g => ?_)
    exfalso; omega
  | succ e ih =>
    intro f l4 l5 l6 l7 l8 he h8 h7
    rw [show f + 1 + (e + 1) = f + 1 + e + 1 from rfl, fX12_countsBy_15]
    refine vLe (fun g => by exfalso; omega) (fun g => ?_)
    refine vNz (by omega) ?_
    refine vR fun x2 e2 => ?_
    have f2 : x2.toInt = ((n ^ e : Nat) : Int) := by rw [e2]; exact divP h7 ha2 hn.1
    have p2 := powPos (p := e) hn.1
    rw [← f2] at p2
    refine vNz (by omega) ?_
    refine vR fun x4 e4 => ?_
    have f4 : 0 ≤ x4.toInt := by rw [e4]; exact (divN ha1 (by omega)).1
    refine vNz (by omega) ?_
    refine vRem f4 ha2 (by omega) fun x6 e6 g6 => ?_
    refine vAny fun x8 => ?_
    refine vAny fun x9 => ?_
    refine vNe (fun _ => ?_) (fun _ => rP True.intro)
    refine vAny fun x11 => ?_
    refine vAny fun x12 => ?_
    refine vBindP (fX12_aboveOf_s hG (by omega) hI) fun v _ _ => ?_
    dsimp only
    refine vAny fun x14 => ?_
    refine vM (v := 4 * x6.toInt) (by rw [c4]) (by omega) fun x15 e15 f15 => ?_
    refine vA (by omega) fun x16 e16 f16 => ?_
    refine vA (by omega) fun x17 e17 f17 => ?_
    refine vIn (by omega) (by omega) fun _ => ?_
    refine vAny fun x18 => ?_
    refine vAny fun x20 => ?_
    refine vA (by omega) fun x21 e21 f21 => ?_
    exact ih f _ _ _ _ _ (by omega) (by omega) f2
theorem countsBy_r (hG : GR R) (hI : IR R m) {n : Nat} (hn : 0 < n ∧ n ≤ 6) (ha2 : a2.toInt = (n : Int)) (ha1 : 0 ≤ a1.toInt) (h3 : a3.toInt = ((n ^ n : Nat) : Int)) : vOk (PP m (fun _ : Int32 => True)) (fX12_countsBy 291 a1 a2 a3 m) := by
  unfold fX12_countsBy fX12_countsBy_0
  have c0 : (0 : Int32).toInt = 0 := rfl
  have h := countsBy15_r (a3 := a3) hG hI hn ha2 ha1 n (xFuel - 1 - n) 0 0 0 a3 0 (by omega) (by omega) h3
  rw [show xFuel - 1 - n + 1 + n = xFuel by have : xFuel = 5000000000 := rfl; omega] at h
  exact h
theorem order117_r {l2 : Int32} (h2 : 1 ≤ l2.toInt ∧ l2.toInt ≤ 6) (h1 : -1 ≤ a1.toInt) : ∀ (fuel : Nat) (l5 l6 : Int32), (-1 ≤ l6.toInt ∧ l6.toInt ≤ 6) → l6.toInt + 2 < (fuel : Int) → vOk (PP m (fun _ : Int32 => True)) (fX12_order_117 291 a1 fuel l2 l5 l6 m) := by
  have cm : (-1 : Int32).toInt = -1 := rfl
  have c0 : (0 : Int32).toInt = 0 := rfl
  intro fuel
  induction fuel with
  | zero =>
    intro l5 l6 hp hmu
    exfalso; omega
  | succ fuel ih =>
    intro l5 l6 hp hmu
    rw [fX12_order_117]
    refine vLe (fun g => ?_) (fun g => ?_)
    · refine vNz (by omega) ?_
      refine vAny fun x => ?_
      exact rP True.intro
    · refine vNz (by omega) ?_
      refine vAny fun x => ?_
      refine vA (by omega) fun y e f => ?_
      exact ih _ _ (by omega) (by omega)
theorem order55_r (hG : GR R) (hI : IR R m) {n : Nat} {l2 l3 : Int32} (hn : 0 < n ∧ n ≤ 6) (h2 : l2.toInt = (n : Int)) (h3 : l3.toInt = ((n ^ n : Nat) : Int)) (h1 : -1 ≤ a1.toInt) : ∀ (fuel : Nat) (l4 l5 l6 : Int32), (0 ≤ l6.toInt ∧ l6.toInt ≤ l3.toInt) → 2147483648 - l6.toInt < (fuel : Int) → vOk (PP m (fun _ : Int32 => True)) (fX12_order_55 291 a1 fuel l2 l3 l4 l5 l6 m) := by
  have cm : (-1 : Int32).toInt = -1 := rfl
  have c0 : (0 : Int32).toInt = 0 := rfl
  have c1 : (1 : Int32).toInt = 1 := rfl
  have t3 := tiB l3
  intro fuel
  induction fuel with
  | zero =>
    intro l4 l5 l6 hp hmu
    exfalso; omega
  | succ fuel ih =>
    intro l4 l5 l6 hp hmu
    have r98 : l6.toInt < l3.toInt → ∀ l4 l5 : Int32, vOk (PP m (fun _ : Int32 => True)) (fX12_order_98 291 a1 (fX12_order_55 291 a1 fuel) l2 l3 l4 l5 l6 m) := by
      intro h l4 l5
      unfold fX12_order_98
      refine vA (by omega) fun y e f => ?_
      exact ih _ _ _ (by omega) (by omega)
    rw [fX12_order_55]
    refine vLe (fun g => ?_) (fun g => ?_)
    · refine vNe (fun _ => ?_) (fun _ => rP True.intro)
      refine vS (by omega) fun x e f => ?_
      have cF := xFu
      exact order117_r (by omega) h1 _ _ _ (by omega) (by omega)
    · refine vBindP (countsBy_r hG hI hn h2 (by omega) h3) fun v _ _ => ?_
      dsimp only
      refine vEq (fun _ => r98 g _ _) (fun _ => ?_)
      refine vEq (fun _ => ?_) (fun _ => ?_)
      · unfold fX12_order_90
        exact r98 g _ _
      · refine vLe (fun _ => r98 g _ _) (fun _ => ?_)
        unfold fX12_order_90
        exact r98 g _ _
theorem order30_r (hG : GR R) (hI : IR R m) {n : Nat} {l2 : Int32} (hn : 0 < n ∧ n ≤ 6) (h2 : l2.toInt = (n : Int)) (h1 : -1 ≤ a1.toInt) : ∀ (e f k : Nat) (l3 l4 : Int32), l4.toInt = (k : Int) → k + e = n → l3.toInt = ((n ^ k : Nat) : Int) → vOk (PP m (fun _ : Int32 => True)) (fX12_order_30 291 a1 (f + 1 + e) l2 l3 l4 m) := by
  have c0 : (0 : Int32).toInt = 0 := rfl
  have c1 : (1 : Int32).toInt = 1 := rfl
  intro e
  induction e with
  | zero =>
    intro f k l3 l4 h4 he h3
    rw [show f + 1 + 0 = f + 1 from rfl, fX12_order_30]
    have hk : k = n := by omega
    rw [hk] at h3
    refine vLe (fun g => ?_) (fun g => by exfalso; omega)
    have cF := xFu
    have p := powPos (p := n) hn.1
    rw [← h3] at p
    exact order55_r hG hI hn h2 h3 h1 _ _ _ _ (by omega) (by omega)
  | succ e ih =>
    intro f k l3 l4 h4 he h3
    rw [show f + 1 + (e + 1) = f + 1 + e + 1 from rfl, fX12_order_30]
    refine vLe (fun g => by exfalso; omega) (fun g => ?_)
    have q : n ^ (k + 1) ≤ 46656 := Nat.le_trans (Nat.pow_le_pow_left hn.2 (k + 1)) (Nat.le_trans (Nat.pow_le_pow_right (by omega) (show k + 1 ≤ 6 by omega)) (by decide))
    have q2 : ((n ^ (k + 1) : Nat) : Int) ≤ 46656 := Int.ofNat_le.mpr q
    have q3 := powPos (p := k + 1) hn.1
    refine vM (v := ((n ^ (k + 1) : Nat) : Int)) (by rw [h3, h2, Nat.pow_succ, Int.natCast_mul]) (by omega) fun x2 e2 f2 => ?_
    refine vA (by omega) fun x3 e3 f3 => ?_
    exact ih f (k + 1) _ _ (by omega) (by omega) f2
theorem order_r (hG : GR R) (hI : IR R m) : vOk (PP m (fun _ : Int32 => True)) (fX12_order 291 a1 m) := by
  have cm : (-1 : Int32).toInt = -1 := rfl
  have c0 : (0 : Int32).toInt = 0 := rfl
  have c1 : (1 : Int32).toInt = 1 := rfl
  have c7 : (7 : Int32).toInt = 7 := rfl
  have hb : 0 ≤ (R.1 292 7).toInt ∧ (R.1 292 7).toInt ≤ 6 := hG.1.1.2.2.2.2.2.2.1
  unfold fX12_order fX12_order_0
  refine vIn (by omega) (by omega) fun _ => ?_
  refine vAl (k292_7 hI) ?_
  refine vEq (fun _ => rP True.intro) (fun g => ?_)
  refine vS (by omega) fun x4 e4 f4 => ?_
  refine vAlB (in_e _ _ _ _) ?_
  dsimp only
  by_cases g1 : -1 ≤ a1.toInt ∧ a1.toInt ≤ x4.toInt
  · rw [wi_1 (by omega), if_pos (show ¬ (1 : Int32) = 0 by decide)]
    have h := order30_r (R := R) (m := m) (a1 := a1) hG hI (n := (R.1 292 7).toInt.toNat) (l2 := R.1 292 7) (by omega) (by omega) (by omega) (R.1 292 7).toInt.toNat (xFuel - 1 - (R.1 292 7).toInt.toNat) 0 1 0 (by omega) (by omega) (by rw [Nat.pow_zero]; rfl)
    rw [show xFuel - 1 - (R.1 292 7).toInt.toNat + 1 + (R.1 292 7).toInt.toNat = xFuel by have : xFuel = 5000000000 := rfl; omega] at h
    exact h
  · rw [wi_0 (by omega), if_neg (not_not_intro rfl)]
    exact rP True.intro
theorem IR_cfg2 {b j : Nat} {v : Int32} (h : IR R m) (hb : b ≠ 292 ∧ b ≠ 311 ∧ b ≠ 314) : IR (xPut R b j v) (xPut m b j v) := by
  refine ⟨fun c i hk => ?_, fun i hi => ?_, fun i => ?_, fun i => ?_⟩
  · show (if c = b ∧ i = j then v else m.1 c i) = (if c = b ∧ i = j then v else R.1 c i)
    by_cases q : c = b ∧ i = j
    · rw [if_pos q, if_pos q]
    · rw [if_neg q, if_neg q]; exact h.1 c i hk
  · show bw (-1) 15 (if 292 = b ∧ 580 + i = j then v else m.1 292 (580 + i))
    rw [if_neg (by omega)]; exact h.2.1 i hi
  · show bw 0 1 (if 311 = b ∧ i = j then v else m.1 311 i)
    rw [if_neg (by omega)]; exact h.2.2.1 i
  · show bw 0 2 (if 314 = b ∧ i = j then v else m.1 314 i)
    rw [if_neg (by omega)]; exact h.2.2.2 i
/-- only the tape and how much of it is written -/
def TF (R S : xMem) : Prop := S.2 = R.2 ∧ ∀ b j, b ≠ 295 → ¬ (b = 291 ∧ j = 4) → S.1 b j = R.1 b j
theorem TF_tr {A B C : xMem} (h1 : TF A B) (h2 : TF B C) : TF A C := ⟨h2.1.trans h1.1, fun b j h q => (h2.2 b j h q).trans (h1.2 b j h q)⟩
theorem k291_4 (h : IR R m) : R.1 291 4 = m.1 291 4 := (h.1 291 4 ⟨by omega, by omega⟩).symm
theorem put3_r : ∀ (e f : Nat) (l2 : Int32) (R m : xMem), l2.toInt + 8 = 8 * (e : Int) → e ≤ 4 → IR R m → 0 ≤ (R.1 291 4).toInt → (R.1 291 4).toInt + e ≤ 300 → vOk (fun m1 => ∃ S, TF R S ∧ IR S m1 ∧ (S.1 291 4).toInt = (R.1 291 4).toInt + e) (fX12_put_3 291 a1 (f + 1 + e) l2 m) := by
  have c0 : (0 : Int32).toInt = 0 := rfl
  have c1 : (1 : Int32).toInt = 1 := rfl
  have c8 : (8 : Int32).toInt = 8 := rfl
  intro e
  induction e with
  | zero =>
    intro f l2 R m he h4 hI h0 h1
    rw [show f + 1 + 0 = f + 1 from rfl, fX12_put_3]
    refine vLt (fun g => vOk_some ⟨R, ⟨rfl, fun _ _ _ _ => rfl⟩, hI, by omega⟩) (fun g => by exfalso; omega)
  | succ e ih =>
    intro f l2 R m he h4 hI h0 h1
    rw [show f + 1 + (e + 1) = f + 1 + e + 1 from rfl, fX12_put_3]
    refine vLt (fun g => by exfalso; omega) (fun g => ?_)
    refine vAl (k291_4 hI) ?_
    refine vAny fun x3 => ?_
    refine vAny fun x4 => ?_
    refine vIn (by omega) (by omega) fun _ => ?_
    refine vAny fun x7 => ?_
    refine vR fun m5 e5 => ?_
    have i5 : IR (xPut R 295 (R.1 291 4).toNatClampNeg x7) m5 := by rw [e5]; exact IR_cfg2 hI (by omega)
    refine vAl (x := R.1 291 4) ((xP_pl (show 291 ≠ 295 by omega)).trans (k291_4 i5)) ?_
    refine vA (by omega) fun x9 e9 f9 => ?_
    refine vR fun m10 e10 => ?_
    have i10 : IR (xPut (xPut R 295 (R.1 291 4).toNatClampNeg x7) 291 4 x9) m10 := by rw [e10]; exact IR_cfg2 i5 (by omega)
    refine vS (by omega) fun x11 e11 f11 => ?_
    have z : (xPut (xPut R 295 (R.1 291 4).toNatClampNeg x7) 291 4 x9).1 291 4 = x9 := xP_eq.symm
    refine vOk_mono (ih f x11 _ m10 (by omega) (by omega) i10 (by rw [z]; omega) (by rw [z]; omega)) fun m1 h => ?_
    obtain ⟨S, s1, s2, s3⟩ := h
    refine ⟨S, TF_tr (B := xPut (xPut R 295 (R.1 291 4).toNatClampNeg x7) 291 4 x9) ⟨rfl, fun b j hb hj => ?_⟩ s1, s2, by rw [s3, z]; omega⟩
    show (if b = 291 ∧ j = 4 then _ else if b = 295 ∧ j = _ then _ else R.1 b j) = _
    rw [if_neg hj, if_neg (fun q => hb q.1)]
theorem put_r (hI : IR R m) (h0 : 0 ≤ (R.1 291 4).toInt) (h1 : (R.1 291 4).toInt + 4 ≤ 300) : vOk (fun m1 => ∃ S, TF R S ∧ IR S m1 ∧ (S.1 291 4).toInt = (R.1 291 4).toInt + 4) (fX12_put 291 a1 m) := by
  unfold fX12_put fX12_put_0
  exact put3_r 4 4999999995 24 R m (by decide) (by omega) hI h0 (by omega)
theorem feed_r {a4 a5 : Int32} (hI : IR R m) (h0 : bw 0 300 (R.1 291 4)) : vOk (fun p : Int32 × xMem => ∃ S, TF R S ∧ IR S p.2 ∧ bw 0 300 (S.1 291 4)) (fX12_feed 291 a1 a2 a3 a4 a5 m) := by
  have c20 : (20 : Int32).toInt = 20 := rfl
  have c300 : (300 : Int32).toInt = 300 := rfl
  have h0' : 0 ≤ (R.1 291 4).toInt ∧ (R.1 291 4).toInt ≤ 300 := h0
  unfold fX12_feed fX12_feed_0
  refine vAl (k291_4 hI) ?_
  refine vA (by omega) fun x2 e2 f2 => ?_
  refine vLe (fun g => ?_) (fun g => vOk_some ⟨R, ⟨rfl, fun _ _ _ _ => rfl⟩, hI, h0⟩)
  refine vOk_bind (put_r hI (by omega) (by omega)) fun p4 h4 => ?_
  obtain ⟨S1, t1, i1, l1⟩ := h4
  refine vOk_bind (put_r i1 (by omega) (by omega)) fun p5 h5 => ?_
  obtain ⟨S2, t2, i2, l2⟩ := h5
  refine vOk_bind (put_r i2 (by omega) (by omega)) fun p6 h6 => ?_
  obtain ⟨S3, t3, i3, l3⟩ := h6
  refine vOk_bind (put_r i3 (by omega) (by omega)) fun p7 h7 => ?_
  obtain ⟨S4, t4, i4, l4⟩ := h7
  refine vOk_bind (put_r i4 (by omega) (by omega)) fun p8 h8 => ?_
  obtain ⟨S5, t5, i5, l5⟩ := h8
  refine vAny fun x9 => ?_
  exact vOk_some ⟨S5, TF_tr t1 (TF_tr t2 (TF_tr t3 (TF_tr t4 t5))), i5, by omega, by omega⟩
theorem end_r (hI : IR R m) (h0 : bw 0 300 (R.1 291 4)) : vOk (fun p : Int32 × xMem => ∃ S, TF R S ∧ IR S p.2 ∧ bw 0 300 (S.1 291 4)) (fX12_end 291 a1 m) := by
  have c0 : (0 : Int32).toInt = 0 := rfl
  have h0' : 0 ≤ (R.1 291 4).toInt ∧ (R.1 291 4).toInt ≤ 300 := h0
  unfold fX12_end fX12_end_0
  refine vAl (k291_4 hI) ?_
  refine vAlB (in_e _ _ _ _) ?_
  dsimp only
  by_cases g : 0 ≤ a1.toInt ∧ a1.toInt ≤ (R.1 291 4).toInt
  · rw [wi_1 (by omega), if_pos (show ¬ (1 : Int32) = 0 by decide)]
    refine vR fun m4 e4 => ?_
    have i4 : IR (xPut R 291 4 a1) m4 := by rw [e4]; exact IR_cfg2 hI (by omega)
    have z : (xPut R 291 4 a1).1 291 4 = a1 := xP_eq.symm
    refine vOk_some ⟨xPut R 291 4 a1, ⟨rfl, fun b j hb hj => ?_⟩, i4, by rw [z]; exact ⟨by omega, by omega⟩⟩
    show (if b = 291 ∧ j = 4 then _ else R.1 b j) = _
    rw [if_neg hj]
  · rw [wi_0 (by omega), if_neg (not_not_intro rfl)]
    exact vOk_some ⟨R, ⟨rfl, fun _ _ _ _ => rfl⟩, hI, h0⟩
end
