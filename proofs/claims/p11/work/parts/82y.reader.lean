/-! WIDE: the reader's calls -/
theorem and255 (x : Int32) : (x &&& 255).toInt = x.toInt % 256 := by
  have e : (x &&& 255).toBitVec.toNat = x.toBitVec.toNat % 256 := by
    rw [Int32.toBitVec_and, BitVec.toNat_and]
    exact Nat.and_two_pow_sub_one_eq_mod x.toBitVec.toNat 8
  have l := x.toBitVec.isLt
  have a : (x &&& 255).toInt = (x &&& 255).toBitVec.toInt := rfl
  have b : x.toInt = x.toBitVec.toInt := rfl
  rw [a, b, BitVec.toInt_eq_toNat_cond, BitVec.toInt_eq_toNat_cond, e]
  split <;> split <;> omega
theorem byteBR (x : Int32) : BR' (x &&& 255).toInt (vp_nar (xAty 0) (x.toInt8.toInt32)).toInt := by
  have e : vp_nar (xAty 0) (x.toInt8.toInt32) = (x.toInt8.toInt32).toInt8.toInt32 := rfl
  rw [e, and255, Int8.toInt_toInt32, Int32.toInt_toInt8, Int8.toInt_toInt32, Int32.toInt_toInt8]
  unfold BR'
  simp only [Int.bmod_def]
  omega
def lq (t : Nat) : Int32 := Int32.ofInt (24 - 8 * t)
theorem lq_f : ∀ t, t < 5 → (lq t).toInt = 24 - 8 * (t : Int) ∧ lq t + (-8) = lq (t + 1) ∧ lq t - 8 = lq (t + 1) := by decide
def bC (a : Int32) (t : Nat) : Int32 := (a >>> (lq t &&& 31)) &&& 255
def bR (a : Int32) (t : Nat) : Int32 := vp_nar (xAty 0) ((a >>> (lq t &&& 31)).toInt8.toInt32)
theorem bCR (a : Int32) (t : Nat) : BR' (bC a t).toInt (bR a t).toInt := byteBR _
def FrC (m m1 : xMem) : Prop := m1.2 = m.2 ∧ ∀ b j, ¬ (b = 255 ∧ j = 4) → b ≠ 256 → m1.1 b j = m.1 b j
def FrR (m m1 : xMem) : Prop := m1.2 = m.2 ∧ ∀ b j, ¬ (b = 291 ∧ j = 4) → b ≠ 295 → m1.1 b j = m.1 b j
theorem FrC_tr {a b c : xMem} (h1 : FrC a b) (h2 : FrC b c) : FrC a c := ⟨h2.1.trans h1.1, fun x j q w => (h2.2 x j q w).trans (h1.2 x j q w)⟩
theorem FrR_tr {a b c : xMem} (h1 : FrR a b) (h2 : FrR b c) : FrR a c := ⟨h2.1.trans h1.1, fun x j q w => (h2.2 x j q w).trans (h1.2 x j q w)⟩
section
variable {m q : xMem} {a1 a2 a3 a4 a5 : Int32}
/-- bytes from n on: those of a from its t-th on -/
def ApC (a : Int32) (t e n : Nat) (m m1 : xMem) : Prop := FrC m m1 ∧ (m1.1 255 4).toInt = (n : Int) + e ∧ (∀ j, j < n → m1.1 256 j = m.1 256 j) ∧ ∀ i, i < e → m1.1 256 (n + i) = bC a (t + i)
def ApR (a : Int32) (t e n : Nat) (m m1 : xMem) : Prop := FrR m m1 ∧ (m1.1 291 4).toInt = (n : Int) + e ∧ (∀ j, j < n → m1.1 295 j = m.1 295 j) ∧ ∀ i, i < e → m1.1 295 (n + i) = bR a (t + i)
theorem ap_loop : ∀ (e t f n : Nat) (m : xMem), t + e = 4 → (m.1 255 4).toInt = (n : Int) → n + e ≤ 300 → vOk (ApC a1 t e n m) (fX7_append_3 255 a1 (f + 1 + e) (lq t) m) := by
  have c0 : (0 : Int32).toInt = 0 := rfl
  have c1 : (1 : Int32).toInt = 1 := rfl
  have c300 : (300 : Int32).toInt = 300 := rfl
  intro e
  induction e with
  | zero =>
    intro t f n m ht hn hl
    have q := lq_f t (by omega)
    rw [show f + 1 + 0 = f + 1 from rfl, fX7_append_3]
    refine vLt (fun g => vOk_some ⟨⟨rfl, fun _ _ _ _ => rfl⟩, by omega, fun _ _ => rfl, fun i hi => absurd hi (Nat.not_lt_zero i)⟩) (fun g => by exfalso; omega)
  | succ e ih =>
    intro t f n m ht hn hl
    obtain ⟨q1, q2, _⟩ := lq_f t (by omega)
    have wn : (m.1 255 4).toNatClampNeg = n := wN hn
    rw [show f + 1 + (e + 1) = f + 1 + e + 1 from rfl, fX7_append_3]
    refine vLt (fun g => by exfalso; omega) (fun g => ?_)
    refine vAl (x := m.1 255 4) rfl ?_
    refine vLt (fun g => by exfalso; omega) (fun _ => ?_)
    refine vAl (x := m.1 255 4) rfl ?_
    refine vLe (fun g => by exfalso; omega) (fun _ => ?_)
    refine vAl (x := m.1 255 4) rfl ?_
    refine vAl (x := a1 >>> (lq t &&& 31)) rfl ?_
    refine vAl (x := bC a1 t) rfl ?_
    refine vIn (by omega) (by omega) fun _ => ?_
    rw [wn]
    refine vR fun m9 e9 => ?_
    refine vAl (x := m.1 255 4) (xP_plE e9 (by omega)) ?_
    refine vA (by omega) fun x12 e12 f12 => ?_
    refine vR fun m13 e13 => ?_
    unfold fX7_append_52
    refine vAl (x := lq (t + 1)) q2.symm ?_
    have z4 : (m13.1 255 4).toInt = ((n + 1 : Nat) : Int) := by
      rw [e13, show (xPut m9 255 4 x12).1 255 4 = x12 from xP_eq.symm]
      omega
    refine vOk_mono (ih (t + 1) f (n + 1) m13 (by omega) z4 (by omega)) fun m1 h => ?_
    obtain ⟨h1, h2, h3, h4⟩ := h
    have o13 : ∀ b j, ¬ (b = 255 ∧ j = 4) → ¬ (b = 256 ∧ j = n) → m13.1 b j = m.1 b j := fun b j w1 w2 => by
      rw [e13, e9]
      show (if b = 255 ∧ j = 4 then _ else if b = 256 ∧ j = n then _ else m.1 b j) = _
      rw [if_neg w1, if_neg w2]
    have z256 : m13.1 256 n = bC a1 t := by
      rw [e13, ← xP_pl (by omega), e9]
      exact xP_eq.symm
    refine ⟨⟨h1.1.trans (by rw [e13, e9]; rfl), fun b j w1 w2 => (h1.2 b j w1 w2).trans (o13 b j w1 (fun y => w2 y.1))⟩, by omega, fun j hj => ?_, fun i hi => ?_⟩
    · rw [h3 j (by omega)]
      exact o13 256 j (by omega) (by omega)
    · by_cases w : i = 0
      · subst w
        rw [show n + 0 = n by omega, h3 n (by omega), z256, show t + 0 = t by omega]
      · have y := h4 (i - 1) (by omega)
        rw [show n + 1 + (i - 1) = n + i by omega, show t + 1 + (i - 1) = t + i by omega] at y
        exact y
theorem put_loop : ∀ (e t f n : Nat) (m : xMem), t + e = 4 → (m.1 291 4).toInt = (n : Int) → n + e ≤ 300 → vOk (ApR a1 t e n m) (fX12_put_3 291 a1 (f + 1 + e) (lq t) m) := by
  have c0 : (0 : Int32).toInt = 0 := rfl
  have c1 : (1 : Int32).toInt = 1 := rfl
  intro e
  induction e with
  | zero =>
    intro t f n m ht hn hl
    have q := lq_f t (by omega)
    rw [show f + 1 + 0 = f + 1 from rfl, fX12_put_3]
    refine vLt (fun g => vOk_some ⟨⟨rfl, fun _ _ _ _ => rfl⟩, by omega, fun _ _ => rfl, fun i hi => absurd hi (Nat.not_lt_zero i)⟩) (fun g => by exfalso; omega)
  | succ e ih =>
    intro t f n m ht hn hl
    obtain ⟨q1, _, q2⟩ := lq_f t (by omega)
    have wn : (m.1 291 4).toNatClampNeg = n := wN hn
    rw [show f + 1 + (e + 1) = f + 1 + e + 1 from rfl, fX12_put_3]
    refine vLt (fun g => by exfalso; omega) (fun g => ?_)
    refine vAl (x := m.1 291 4) rfl ?_
    refine vAl (x := a1 >>> (lq t &&& 31)) rfl ?_
    refine vAl (x := (a1 >>> (lq t &&& 31)).toInt8.toInt32) rfl ?_
    refine vIn (by omega) (by omega) fun _ => ?_
    refine vAl (x := bR a1 t) rfl ?_
    rw [wn]
    refine vR fun m9 e9 => ?_
    refine vAl (x := m.1 291 4) (xP_plE e9 (by omega)) ?_
    refine vA (by omega) fun x12 e12 f12 => ?_
    refine vR fun m13 e13 => ?_
    refine vAl (x := lq (t + 1)) q2.symm ?_
    have z4 : (m13.1 291 4).toInt = ((n + 1 : Nat) : Int) := by
      rw [e13, show (xPut m9 291 4 x12).1 291 4 = x12 from xP_eq.symm]
      omega
    refine vOk_mono (ih (t + 1) f (n + 1) m13 (by omega) z4 (by omega)) fun m1 h => ?_
    obtain ⟨h1, h2, h3, h4⟩ := h
    have o13 : ∀ b j, ¬ (b = 291 ∧ j = 4) → ¬ (b = 295 ∧ j = n) → m13.1 b j = m.1 b j := fun b j w1 w2 => by
      rw [e13, e9]
      show (if b = 291 ∧ j = 4 then _ else if b = 295 ∧ j = n then _ else m.1 b j) = _
      rw [if_neg w1, if_neg w2]
    have z256 : m13.1 295 n = bR a1 t := by
      rw [e13, ← xP_pl (by omega), e9]
      exact xP_eq.symm
    refine ⟨⟨h1.1.trans (by rw [e13, e9]; rfl), fun b j w1 w2 => (h1.2 b j w1 w2).trans (o13 b j w1 (fun y => w2 y.1))⟩, by omega, fun j hj => ?_, fun i hi => ?_⟩
    · rw [h3 j (by omega)]
      exact o13 295 j (by omega) (by omega)
    · by_cases w : i = 0
      · subst w
        rw [show n + 0 = n by omega, h3 n (by omega), z256, show t + 0 = t by omega]
      · have y := h4 (i - 1) (by omega)
        rw [show n + 1 + (i - 1) = n + i by omega, show t + 1 + (i - 1) = t + i by omega] at y
        exact y
/-- the two tapes alike, n bytes long -/
def RB (n : Nat) (m q : xMem) : Prop := (m.1 255 4).toInt = (n : Int) ∧ (q.1 291 4).toInt = (n : Int) ∧ ∀ j, j < n → BR' (m.1 256 j).toInt (q.1 295 j).toInt
theorem ap_put {n : Nat} (h : RB n m q) (hn : n + 4 ≤ 300) : ∃ m1 q1, fX7_append 255 a1 m = some m1 ∧ fX12_put 291 a1 q = some q1 ∧ FrC m m1 ∧ FrR q q1 ∧ RB (n + 4) m1 q1 := by
  obtain ⟨h1, h2, h3⟩ := h
  obtain ⟨m1, e1, x1, x2, x3, x4⟩ := ap_loop (a1 := a1) 4 0 4999999995 n m (by omega) h1 (by omega)
  obtain ⟨q1, e2, y1, y2, y3, y4⟩ := put_loop (a1 := a1) 4 0 4999999995 n q (by omega) h2 (by omega)
  refine ⟨m1, q1, e1, e2, x1, y1, by omega, by omega, fun j hj => ?_⟩
  by_cases w : j < n
  · rw [x3 j w, y3 j w]; exact h3 j w
  · have a := x4 (j - n) (by omega)
    have b := y4 (j - n) (by omega)
    rw [show n + (j - n) = j by omega] at a b
    rw [a, b]
    exact bCR _ _
theorem feed_sim {n : Nat} (h : RB n m q) (hn : n ≤ 300) : ∃ x m1 q1 n1, fX11_feed 0 a1 a2 a3 a4 a5 m = some (x, m1) ∧ fX12_feed 291 a1 a2 a3 a4 a5 q = some (x, q1) ∧ FrC m m1 ∧ FrR q q1 ∧ RB n1 m1 q1 ∧ n1 ≤ 300 := by
  have c20 : (20 : Int32).toInt = 20 := rfl
  have c300 : (300 : Int32).toInt = 300 := rfl
  by_cases g : n + 20 ≤ 300
  · obtain ⟨m1, q1, e1, f1, k1, l1, h1⟩ := ap_put (a1 := a1) h (by omega)
    obtain ⟨m2, q2, e2, f2, k2, l2, h2⟩ := ap_put (a1 := a2) h1 (by omega)
    obtain ⟨m3, q3, e3, f3, k3, l3, h3⟩ := ap_put (a1 := a3) h2 (by omega)
    obtain ⟨m4, q4, e4, f4, k4, l4, h4⟩ := ap_put (a1 := a4) h3 (by omega)
    obtain ⟨m5, q5, e5, f5, k5, l5, h5⟩ := ap_put (a1 := a5) h4 (by omega)
    have hx : m5.1 255 4 = q5.1 291 4 := Int32.toInt_inj.mp (h5.1.trans h5.2.1.symm)
    have A : vOk (fun p : Int32 × xMem => p = (m5.1 255 4, m5)) (fX11_feed 0 a1 a2 a3 a4 a5 m) := by
      unfold fX11_feed fX11_feed_0
      refine vOk_bind (Q := fun p : Int32 × xMem => p = (1, m)) ?_ fun p hp => ?_
      · unfold fX7_hasRoomFor fX7_hasRoomFor_0
        refine vAl (x := m.1 255 4) rfl ?_
        have := h.1
        refine vA (by omega) fun x2 e2 f2 => ?_
        refine vLt (fun g => by exfalso; omega) (fun _ => ?_)
        unfold fX7_hasRoomFor_17
        exact v01 (vOk_some rfl)
      · rw [hp]
        dsimp only
        rw [if_pos (show ¬ (1 : Int32) = 0 by decide)]
        refine vAlB e1 ?_
        refine vAlB e2 ?_
        refine vAlB e3 ?_
        refine vAlB e4 ?_
        refine vAlB e5 ?_
        exact vOk_some rfl
    have B : vOk (fun p : Int32 × xMem => p = (q5.1 291 4, q5)) (fX12_feed 291 a1 a2 a3 a4 a5 q) := by
      unfold fX12_feed fX12_feed_0
      have := h.2.1
      refine vAl (x := q.1 291 4) rfl ?_
      refine vA (by omega) fun y2 ye yf => ?_
      refine vLe (fun _ => ?_) (fun g => by exfalso; omega)
      refine vAlB f1 ?_
      refine vAlB f2 ?_
      refine vAlB f3 ?_
      refine vAlB f4 ?_
      refine vAlB f5 ?_
      exact vOk_some rfl
    obtain ⟨p, ep, rfl⟩ := A
    obtain ⟨p2, ep2, rfl⟩ := B
    exact ⟨_, m5, q5, n + 4 + 4 + 4 + 4 + 4, ep, by rw [hx]; exact ep2, FrC_tr k1 (FrC_tr k2 (FrC_tr k3 (FrC_tr k4 k5))), FrR_tr l1 (FrR_tr l2 (FrR_tr l3 (FrR_tr l4 l5))), h5, by omega⟩
  · have A : vOk (fun p : Int32 × xMem => p = (-1, m)) (fX11_feed 0 a1 a2 a3 a4 a5 m) := by
      unfold fX11_feed fX11_feed_0
      refine vOk_bind (Q := fun p : Int32 × xMem => p = (0, m)) ?_ fun p hp => ?_
      · unfold fX7_hasRoomFor fX7_hasRoomFor_0
        refine vAl (x := m.1 255 4) rfl ?_
        have := h.1
        refine vA (by omega) fun x2 e2 f2 => ?_
        refine vLt (fun _ => ?_) (fun g => by exfalso; omega)
        unfold fX7_hasRoomFor_17
        exact v00 (vOk_some rfl)
      · rw [hp]
        dsimp only
        rw [if_neg (not_not_intro rfl)]
        exact vOk_some rfl
    have B : vOk (fun p : Int32 × xMem => p = (-1, q)) (fX12_feed 291 a1 a2 a3 a4 a5 q) := by
      unfold fX12_feed fX12_feed_0
      have := h.2.1
      refine vAl (x := q.1 291 4) rfl ?_
      refine vA (by omega) fun x2 e2 f2 => ?_
      refine vLe (fun g => by exfalso; omega) (fun _ => ?_)
      exact vOk_some rfl
    obtain ⟨p, ep, rfl⟩ := A
    obtain ⟨p2, ep2, rfl⟩ := B
    exact ⟨_, m, q, n, ep, ep2, ⟨rfl, fun _ _ _ _ => rfl⟩, ⟨rfl, fun _ _ _ _ => rfl⟩, h, hn⟩
end
theorem Inv_o {m m1 : xMem} (h : Inv m) (e : ∀ b j, KCo b j = true ∨ 291 ≤ b → m1.1 b j = m.1 b j) (c : CI m1) : Inv m1 := by
  have e2 : ∀ b, 291 ≤ b → ∀ j, m1.1 b j = m.1 b j := fun b hb j => e b j (Or.inr hb)
  exact ⟨c, RI_cong e2 h.2.1, Rl_mv (Or.inl rfl) (fun b j hk _ => e b j (Or.inl hk)) (fun j _ => e2 292 (by omega) j) h.2.2.1, Rl_mv (Or.inr rfl) (fun b j hk _ => e b j (Or.inl hk)) (fun j _ => e2 293 (by omega) j) h.2.2.2⟩
theorem KCo_255 : ∀ b, 254 ≤ b → b < 291 → ∀ j, KCo b j = false := by
  intro b h1 h2 j
  have k := (show ∀ d, d < 37 → Nat.ble 291 (254 + d) = false ∧ pNK.contains (254 + d) = false ∧ ([34, 36, 38, 40, 42, 44, 46, 48, 50, 52, 117, 119, 121, 123, 125, 127, 129, 131, 133, 135] : List Nat).contains (254 + d) = false ∧ ([5, 88] : List Nat).contains (254 + d) = false ∧ ([8, 91] : List Nat).contains (254 + d) = false ∧ ([14, 97] : List Nat).contains (254 + d) = false by decide +kernel) (b - 254) (by omega)
  rw [show 254 + (b - 254) = b by omega] at k
  unfold KCo
  rw [k.1, k.2.1, k.2.2.1, k.2.2.2.1, k.2.2.2.2.1, k.2.2.2.2.2]
  rfl
section
variable {m : xMem} {p : Int32 × xMem} {a1 a2 a3 a4 a5 : Int32}
theorem BC_255 {b j : Nat} (h : BC b j = true) : b < 254 := by
  unfold BC at h
  rw [Bool.or_eq_true, Bool.or_eq_true, Bool.and_eq_true, Bool.and_eq_true, Bool.and_eq_true] at h
  rcases h with (⟨h, _⟩ | ⟨h, _⟩) | ⟨h, _⟩
  · exact (show ∀ b ∈ pHall, b < 254 by decide +kernel) b (List.contains_iff_mem.mp h)
  · exact (show ∀ b ∈ pLink, b < 254 by decide +kernel) b (List.contains_iff_mem.mp h)
  · exact (show ∀ b ∈ pBurst, b < 254 by decide +kernel) b (List.contains_iff_mem.mp h)
theorem XI_RB (h : InvW m) : RB (m.1 291 4).toNatClampNeg m m ∧ (m.1 291 4).toNatClampNeg ≤ 300 := by
  have b := h.1.2.1.2.2.2.1
  obtain ⟨b0, b1⟩ := b
  have wn : (m.1 291 4).toNatClampNeg = (m.1 291 4).toInt.toNat := rfl
  obtain ⟨_, _, r1, r2, r3, r4⟩ := h.2
  exact ⟨⟨by rw [r1]; omega, by omega, fun j hj => r4 j (by omega)⟩, by omega⟩
theorem Inv_FrC (h : Inv m) {m1 : xMem} (f : FrC m m1) : Inv m1 := by
  refine Inv_o h (fun b j hb => f.2 b j ?_ ?_) fun b j hb => ?_
  · rintro ⟨rfl, _⟩
    rcases hb with hb | hb
    · rw [KCo_255 255 (by omega) (by omega)] at hb; cases hb
    · omega
  · rintro rfl
    rcases hb with hb | hb
    · rw [KCo_255 256 (by omega) (by omega)] at hb; cases hb
    · omega
  · have := BC_255 hb
    rw [f.2 b j (by omega) (by omega)]
    exact h.1 b j hb
theorem Inv_FrR (h : Inv m) {m1 : xMem} (f : FrR m m1) (b4 : bw 0 300 (m1.1 291 4)) : Inv m1 := by
  refine rn_TF h ⟨m1, ⟨f.1, fun b j h1 h2 => f.2 b j h2 h1⟩, ⟨fun _ _ _ => rfl, fun j hj => ?_, fun j => ?_, fun j => ?_⟩, b4⟩
  · rw [f.2 292 (580 + j) (by omega) (by omega)]; exact h.2.1.1.2.1 j hj
  · rw [f.2 311 j (by omega) (by omega)]; exact h.2.1.1.2.2.1 j
  · rw [f.2 314 j (by omega) (by omega)]; exact h.2.1.1.2.2.2 j
/-- both sides have run: what the two frames leave of XI -/
theorem XI_Fr {m1 q1 : xMem} {n1 : Nat} (h : XI m) (f : FrC m m1) (g : FrR m1 q1) (r : RB n1 m1 q1) : XI q1 := by
  obtain ⟨h1, h2, h3, h4, h5, h6⟩ := h
  have e : ∀ b j, ¬ (b = 255 ∧ j = 4) → b ≠ 256 → ¬ (b = 291 ∧ j = 4) → b ≠ 295 → q1.1 b j = m.1 b j := fun b j w1 w2 w3 w4 => (g.2 b j w3 w4).trans (f.2 b j w1 w2)
  refine ⟨XR_cg (Or.inl rfl) (fun b j _ l1 l2 => e b j (by omega) (by omega) (by omega) (by omega)) (fun j _ => e 292 j (by omega) (by omega) (by omega) (by omega)) h1, XR_cg (Or.inr rfl) (fun b j _ l1 l2 => e b j (by omega) (by omega) (by omega) (by omega)) (fun j _ => e 293 j (by omega) (by omega) (by omega) (by omega)) h2, ?_, ?_, ?_, fun j hj => ?_⟩
  · refine Int32.toInt_inj.mp ?_
    rw [g.2 255 4 (by omega) (by omega), r.1, r.2.1]
  · rw [e 255 5 (by omega) (by omega) (by omega) (by omega), e 291 5 (by omega) (by omega) (by omega) (by omega)]; exact h4
  · rw [e 255 6 (by omega) (by omega) (by omega) (by omega), e 291 6 (by omega) (by omega) (by omega) (by omega)]; exact h5
  · rw [g.2 256 j (by omega) (by omega)]
    exact r.2.2 j (by rw [r.2.1] at hj; omega)
theorem ca_feed (h : InvW m) : vOk (fun p : Int32 × xMem => fX11_feed 0 a1 a2 a3 a4 a5 m = some p ∧ FrC m p.2) (fX11_feed 0 a1 a2 a3 a4 a5 m) := by
  obtain ⟨x, m1, q1, n1, e1, e2, f, g, r, l⟩ := feed_sim (a1 := a1) (a2 := a2) (a3 := a3) (a4 := a4) (a5 := a5) (XI_RB h).1 (XI_RB h).2
  exact ⟨_, e1, e1, f⟩
theorem ra_feed (h : InvW m) (hp : fX11_feed 0 a1 a2 a3 a4 a5 m = some p ∧ FrC m p.2) : vOk (fun q : Int32 × xMem => InvW q.2 ∧ p.1 = q.1) (fX12_feed 291 a1 a2 a3 a4 a5 p.2) := by
  obtain ⟨k, kl⟩ := XI_RB h
  have rb : RB (m.1 291 4).toNatClampNeg m p.2 := ⟨k.1, by rw [hp.2.2 291 4 (by omega) (by omega)]; exact k.2.1, fun j hj => by rw [hp.2.2 295 j (by omega) (by omega)]; exact k.2.2 j hj⟩
  obtain ⟨x, m1, q1, n1, e1, e2, f, g, r, l⟩ := feed_sim (a1 := a1) (a2 := a2) (a3 := a3) (a4 := a4) (a5 := a5) rb kl
  have w : p = (x, m1) := Option.some.inj (hp.1.symm.trans e1)
  subst w
  have i1 := Inv_FrC h.1 f
  refine ⟨_, e2, ⟨Inv_FrR i1 g ⟨?_, ?_⟩, XI_Fr h.2 f g r⟩, rfl⟩
  · rw [r.2.1]; omega
  · rw [r.2.1]; omega
theorem ca_end (h : InvW m) : vOk (fun p : Int32 × xMem => ((0 ≤ a1.toInt ∧ a1.toInt ≤ (m.1 291 4).toInt) ∧ p = (a1, xPut m 255 4 a1)) ∨ (¬ (0 ≤ a1.toInt ∧ a1.toInt ≤ (m.1 291 4).toInt) ∧ p = (-1, m))) (fX11_end 0 a1 m) := by
  have c0 : (0 : Int32).toInt = 0 := rfl
  unfold fX11_end fX11_end_0
  refine vAl (x := m.1 291 4) h.2.2.2.1.symm ?_
  refine vAlB (within_e _ _ _ _) ?_
  dsimp only
  by_cases g : 0 ≤ a1.toInt ∧ a1.toInt ≤ (m.1 291 4).toInt
  · rw [wi_1 (by omega), if_pos (show ¬ (1 : Int32) = 0 by decide)]
    exact vOk_some (Or.inl ⟨g, rfl⟩)
  · rw [wi_0 (by omega), if_neg (not_not_intro rfl)]
    exact vOk_some (Or.inr ⟨g, rfl⟩)
theorem ra_end (h : InvW m) (hp : ((0 ≤ a1.toInt ∧ a1.toInt ≤ (m.1 291 4).toInt) ∧ p = (a1, xPut m 255 4 a1)) ∨ (¬ (0 ≤ a1.toInt ∧ a1.toInt ≤ (m.1 291 4).toInt) ∧ p = (-1, m))) : vOk (fun q : Int32 × xMem => InvW q.2 ∧ p.1 = q.1) (fX12_end 291 a1 p.2) := by
  have c0 : (0 : Int32).toInt = 0 := rfl
  have b := h.1.2.1.2.2.2.1
  obtain ⟨b0, b1⟩ := b
  have e4 : p.2.1 291 4 = m.1 291 4 := by
    rcases hp with ⟨_, rfl⟩ | ⟨_, rfl⟩
    · exact (xP_pl (by omega)).symm
    · rfl
  unfold fX12_end fX12_end_0
  refine vAl (x := m.1 291 4) e4.symm ?_
  refine vAlB (in_e _ _ _ _) ?_
  dsimp only
  rcases hp with ⟨g, rfl⟩ | ⟨g, rfl⟩
  · rw [wi_1 (by omega), if_pos (show ¬ (1 : Int32) = 0 by decide)]
    refine vOk_some ?_
    have f : FrC m (xPut m 255 4 a1) := ⟨rfl, fun b j w1 w2 => by
      show (if b = 255 ∧ j = 4 then _ else m.1 b j) = _
      rw [if_neg w1]⟩
    have g2 : FrR (xPut m 255 4 a1) (xPut (xPut m 255 4 a1) 291 4 a1) := ⟨rfl, fun b j w1 w2 => by
      show (if b = 291 ∧ j = 4 then _ else (xPut m 255 4 a1).1 b j) = _
      rw [if_neg w1]⟩
    have z1 : (xPut (xPut m 255 4 a1) 291 4 a1).1 291 4 = a1 := xP_eq.symm
    have z2 : (xPut m 255 4 a1).1 255 4 = a1 := xP_eq.symm
    have wn : a1.toNatClampNeg = a1.toInt.toNat := rfl
    have rb : RB a1.toNatClampNeg (xPut m 255 4 a1) (xPut (xPut m 255 4 a1) 291 4 a1) := ⟨by rw [z2]; omega, by rw [z1]; omega, fun j hj => by
      rw [← xP_pl (by omega), ← xP_pl (by omega), ← xP_pl (by omega)]
      exact h.2.2.2.2.2.2 j (by omega)⟩
    exact ⟨⟨Inv_FrR (Inv_FrC h.1 f) g2 (by rw [z1]; exact ⟨by omega, by omega⟩), XI_Fr h.2 f g2 rb⟩, rfl⟩
  · rw [wi_0 (by omega), if_neg (not_not_intro rfl)]
    exact vOk_some ⟨h, rfl⟩
theorem ca_by (h : InvW m) : vOk (fun p : Int32 × xMem => ((a1.toInt = -1 ∨ (0 ≤ a1.toInt ∧ a1.toInt < (m.1 292 4).toInt)) ∧ p = (1, xPut m 1 11 a1)) ∨ (¬ (a1.toInt = -1 ∨ (0 ≤ a1.toInt ∧ a1.toInt < (m.1 292 4).toInt)) ∧ p = (0, m))) (fX11_by 0 a1 m) := by
  have c1 : (1 : Int32).toInt = 1 := rfl
  have cm : (-1 : Int32).toInt = -1 := rfl
  have hb : 0 ≤ (m.1 292 4).toInt ∧ (m.1 292 4).toInt ≤ 4 := h.1.2.1.2.1.1.1.2.2.2.1
  unfold fX11_by fX11_by_0
  refine vAl (x := m.1 292 4) h.2.1.1.1.symm ?_
  refine vS (by omega) fun x2 e2 f2 => ?_
  refine vAlB (within_e _ _ _ _) ?_
  dsimp only
  by_cases g : a1.toInt = -1 ∨ (0 ≤ a1.toInt ∧ a1.toInt < (m.1 292 4).toInt)
  · rw [wi_1 (by omega), if_pos (show ¬ (1 : Int32) = 0 by decide)]
    exact vOk_some (Or.inl ⟨g, rfl⟩)
  · rw [wi_0 (by omega), if_neg (not_not_intro rfl)]
    exact vOk_some (Or.inr ⟨g, rfl⟩)
theorem ra_by (h : InvW m) (hp : ((a1.toInt = -1 ∨ (0 ≤ a1.toInt ∧ a1.toInt < (m.1 292 4).toInt)) ∧ p = (1, xPut m 1 11 a1)) ∨ (¬ (a1.toInt = -1 ∨ (0 ≤ a1.toInt ∧ a1.toInt < (m.1 292 4).toInt)) ∧ p = (0, m))) : vOk (fun q : Int32 × xMem => InvW q.2 ∧ p.1 = q.1) (fX12_by 291 a1 p.2) := by
  rcases hp with ⟨g, rfl⟩ | ⟨g, rfl⟩
  · have o : ∀ b j, ¬ (b = 1 ∧ j = 11) → (xPut m 1 11 a1).1 b j = m.1 b j := fun b j w => by
      show (if b = 1 ∧ j = 11 then _ else m.1 b j) = _
      rw [if_neg w]
    have i1 : Inv (xPut m 1 11 a1) := by
      refine Inv_o h.1 (fun b j hb => o b j ?_) fun b j hb => ?_
      · rintro ⟨rfl, rfl⟩
        rcases hb with hb | hb
        · exact absurd hb (by decide)
        · omega
      · rw [o b j ?_]
        · exact h.1.1 b j hb
        · rintro ⟨rfl, rfl⟩
          exact absurd hb (by decide)
    refine vOk_mono (vAnd2 (rn_by (a1 := a1) i1) (by_r (a1 := a1) i1.2.1.2.1 i1.2.1.1)) fun q hq => ?_
    obtain ⟨iq, hq⟩ := hq
    have e4 : (xPut m 1 11 a1).1 292 4 = m.1 292 4 := o 292 4 (by omega)
    rw [e4] at hq
    obtain ⟨_, q1, q2⟩ := hq.resolve_right (fun w => w.1 g)
    refine ⟨⟨iq, XI_now h.2 ⟨⟨?_, ?_⟩, ?_⟩ (fun b j hx hb => ?_) (fun b j hx hb => ?_)⟩, q1.symm⟩
    · rw [q2.1 1 10 ⟨by omega, by omega⟩, q2.1 292 4 ⟨by omega, by omega⟩, ← xP_pl (by omega), ← xP_sl (by omega), ← xP_sl (by omega), o 292 4 (by omega)]
      exact h.2.1.1.1
    · rw [q2.1 1 11 ⟨by omega, by omega⟩, q2.1 292 5 ⟨by omega, by omega⟩, ← xP_pl (by omega)]
      exact xP_eq.symm.trans xP_eq
    · have qe : ∀ b j, b < 291 → ¬ (b = 1 ∧ j = 11) → q.2.1 b j = m.1 b j := fun b j hb w => by
        rw [q2.1 b j ⟨by omega, by omega⟩, ← xP_pl (by omega), o b j w]
      have qg : ∀ j, (6 ≤ j ∧ j ≤ 8) ∨ (1390 ≤ j ∧ j < 1610) → q.2.1 292 j = m.1 292 j := fun j hj => by
        rw [q2.1 292 j ⟨by omega, by omega⟩, ← xP_sl (by omega), o 292 j (by omega)]
      obtain ⟨_, x2, x3, x4⟩ := h.2.1
      exact ⟨XD_cg (fun j _ => ⟨qe _ j (by omega) (by omega), qe _ j (by omega) (by omega)⟩) (fun j hj => qg j (by omega)) x2, XM_cg (fun j _ => ⟨qe _ j (by omega) (by omega), qe _ j (by omega) (by omega), qe _ j (by omega) (by omega), qe _ j (by omega) (by omega)⟩) (fun j hj => qg j (by omega)) x3, XL_cg (fun j _ => qe _ j (by omega) (by omega)) (fun j hj => qg j (by omega)) x4⟩
    · have lt := XC_lt hx
      rw [q2.1 b j ⟨by omega, by omega⟩, ← xP_pl (by omega), o b j (by omega)]
    · have hi := XF_hi hx
      rw [q2.1 b j (XF_KR hx), ← xP_pl hb, o b j (by omega)]
  · refine vOk_mono (vAnd2 (rn_by (a1 := a1) h.1) (by_r (a1 := a1) h.1.2.1.2.1 h.1.2.1.1)) fun q hq => ?_
    obtain ⟨iq, hq⟩ := hq
    obtain ⟨_, q1, q2⟩ := hq.resolve_left (fun w => g w.1)
    exact ⟨⟨iq, XI_R h.2 q2⟩, q1.symm⟩
theorem ca_fault (h : InvW m) : vOk (fun p : Int32 × xMem => p = (if a1 = 0 then m.1 291 5 else if a1 = 1 then m.1 291 6 else -1, m)) (fX11_fault 0 a1 m) := by
  unfold fX11_fault fX11_fault_0
  by_cases g : a1 = 0
  · rw [if_neg (not_not_intro g), if_pos g]
    refine vAl (x := m.1 291 5) h.2.2.2.2.1.symm ?_
    exact vOk_some rfl
  · rw [if_pos g, if_neg g]
    by_cases g2 : a1 = 1
    · rw [if_neg (not_not_intro g2), if_pos g2]
      refine vAl (x := m.1 291 6) h.2.2.2.2.2.1.symm ?_
      unfold fX11_fault_28
      exact vOk_some rfl
    · rw [if_pos g2, if_neg g2]
      unfold fX11_fault_28
      exact vOk_some rfl
theorem ra_fault (h : InvW m) (hp : p = (if a1 = 0 then m.1 291 5 else if a1 = 1 then m.1 291 6 else -1, m)) : vOk (fun q : Int32 × xMem => InvW q.2 ∧ p.1 = q.1) (fX12_fault 291 a1 p.2) := by
  subst hp
  dsimp only
  unfold fX12_fault fX12_fault_0
  by_cases g : a1 = 0
  · rw [if_neg (not_not_intro g), if_pos g]
    refine vAl (x := m.1 291 5) rfl ?_
    unfold fX12_fault_24
    exact vOk_some ⟨h, rfl⟩
  · rw [if_pos g, if_neg g]
    by_cases g2 : a1 = 1
    · rw [if_neg (not_not_intro g2), if_pos g2]
      refine vAl (x := m.1 291 6) rfl ?_
      unfold fX12_fault_24
      exact vOk_some ⟨h, rfl⟩
    · rw [if_pos g2, if_neg g2]
      unfold fX12_fault_24
      exact vOk_some ⟨h, rfl⟩
def abV (m : xMem) (a1 : Int32) : Int32 := (if a1 = 0 then m.1 292 0 else if a1 = 1 then m.1 292 1 else if a1 = 2 then m.1 292 2 else if a1 = 3 then m.1 292 3 else if a1 = 4 then m.1 292 4 else if a1 = 5 then m.1 292 5 else if a1 = 6 then m.1 292 6 else if a1 = 7 then m.1 292 7 else if a1 = 8 then m.1 292 8 else if a1 = 9 then m.1 291 4 else -1)
theorem ca_about (h : InvW m) : vOk (fun p : Int32 × xMem => p = (abV m a1, m)) (fX11_about 0 a1 m) := by
  unfold fX11_about fX11_about_0 abV
  by_cases g0 : a1 = 0
  · rw [if_pos g0, if_pos g0]
    refine vAl (x := m.1 292 0) h.1.2.2.1.1.1.symm ?_
    exact vOk_some rfl
  rw [if_neg g0, if_neg g0]
  by_cases g1 : a1 = 1
  · rw [if_pos g1, if_pos g1]
    refine vAl (x := m.1 292 1) h.1.2.2.1.1.2.1.symm ?_
    exact vOk_some rfl
  rw [if_neg g1, if_neg g1]
  by_cases g2 : a1 = 2
  · rw [if_pos g2, if_pos g2]
    refine vAl (x := m.1 292 2) h.1.2.2.1.1.2.2.1.symm ?_
    exact vOk_some rfl
  rw [if_neg g2, if_neg g2]
  by_cases g3 : a1 = 3
  · rw [if_pos g3, if_pos g3]
    refine vAl (x := m.1 292 3) h.1.2.2.1.1.2.2.2.1.symm ?_
    exact vOk_some rfl
  rw [if_neg g3, if_neg g3]
  by_cases g4 : a1 = 4
  · rw [if_pos g4, if_pos g4]
    refine vAl (x := m.1 292 4) h.2.1.1.1.symm ?_
    exact vOk_some rfl
  rw [if_neg g4, if_neg g4]
  by_cases g5 : a1 = 5
  · rw [if_pos g5, if_pos g5]
    refine vAl (x := m.1 292 5) h.2.1.1.2.symm ?_
    exact vOk_some rfl
  rw [if_neg g5, if_neg g5]
  by_cases g6 : a1 = 6
  · rw [if_pos g6, if_pos g6]
    refine vAl (x := m.1 292 6) h.1.2.2.1.1.2.2.2.2.1.symm ?_
    exact vOk_some rfl
  rw [if_neg g6, if_neg g6]
  by_cases g7 : a1 = 7
  · rw [if_pos g7, if_pos g7]
    refine vAl (x := m.1 292 7) h.1.2.2.1.1.2.2.2.2.2.1.symm ?_
    exact vOk_some rfl
  rw [if_neg g7, if_neg g7]
  by_cases g8 : a1 = 8
  · rw [if_pos g8, if_pos g8]
    refine vAl (x := m.1 292 8) h.1.2.2.1.1.2.2.2.2.2.2.symm ?_
    exact vOk_some rfl
  rw [if_neg g8, if_neg g8]
  by_cases g9 : a1 = 9
  · rw [if_pos g9, if_pos g9]
    refine vAl (x := m.1 291 4) h.2.2.2.1.symm ?_
    exact vOk_some rfl
  rw [if_neg g9, if_neg g9]
  exact vOk_some rfl
theorem ra_about (h : InvW m) (hp : p = (abV m a1, m)) : vOk (fun q : Int32 × xMem => InvW q.2 ∧ p.1 = q.1) (fX12_about 291 a1 p.2) := by
  subst hp
  dsimp only
  have c0 : (0 : Int32).toInt = 0 := rfl
  have c8 : (8 : Int32).toInt = 8 := rfl
  have c9 : (9 : Int32).toInt = 9 := rfl
  unfold fX12_about fX12_about_0 fX12_about_33
  refine vAlB (in_e _ _ _ _) ?_
  dsimp only
  by_cases g : 0 ≤ a1.toInt ∧ a1.toInt ≤ 8
  · rw [wi_1 (by omega), if_neg (show ¬ (1 : Int32) = 0 by decide)]
    refine vIn (by omega) (by omega) fun _ => ?_
    have wn : a1.toNatClampNeg = a1.toInt.toNat := rfl
    have z : abV m a1 = m.1 292 a1.toNatClampNeg := by
      have e : ∀ k : Nat, k ≤ 8 → a1.toInt = (k : Int) → a1 = Int32.ofNat k := fun k hk q => Int32.toInt_inj.mp (q.trans (Int32.toInt_ofNat_of_lt (by omega)).symm)
      have w : a1.toNatClampNeg = 0 ∨ a1.toNatClampNeg = 1 ∨ a1.toNatClampNeg = 2 ∨ a1.toNatClampNeg = 3 ∨ a1.toNatClampNeg = 4 ∨ a1.toNatClampNeg = 5 ∨ a1.toNatClampNeg = 6 ∨ a1.toNatClampNeg = 7 ∨ a1.toNatClampNeg = 8 := by omega
      rcases w with w | w | w | w | w | w | w | w | w
      · rw [w, e 0 (by omega) (by omega)]; rfl
      · rw [w, e 1 (by omega) (by omega)]; rfl
      · rw [w, e 2 (by omega) (by omega)]; rfl
      · rw [w, e 3 (by omega) (by omega)]; rfl
      · rw [w, e 4 (by omega) (by omega)]; rfl
      · rw [w, e 5 (by omega) (by omega)]; rfl
      · rw [w, e 6 (by omega) (by omega)]; rfl
      · rw [w, e 7 (by omega) (by omega)]; rfl
      · rw [w, e 8 (by omega) (by omega)]; rfl
    refine vAl (x := m.1 292 a1.toNatClampNeg) rfl ?_
    exact vOk_some ⟨h, z⟩
  · rw [wi_0 (by omega), if_pos rfl]
    have n : ∀ k : Nat, k ≤ 8 → ¬ a1 = Int32.ofNat k := fun k hk q => g (by rw [q, Int32.toInt_ofNat_of_lt (by omega)]; omega)
    unfold abV
    rw [if_neg (show ¬ a1 = 0 from n 0 (by omega)), if_neg (show ¬ a1 = 1 from n 1 (by omega)), if_neg (show ¬ a1 = 2 from n 2 (by omega)), if_neg (show ¬ a1 = 3 from n 3 (by omega)), if_neg (show ¬ a1 = 4 from n 4 (by omega)), if_neg (show ¬ a1 = 5 from n 5 (by omega)), if_neg (show ¬ a1 = 6 from n 6 (by omega)), if_neg (show ¬ a1 = 7 from n 7 (by omega)), if_neg (show ¬ a1 = 8 from n 8 (by omega))]
    by_cases g9 : a1 = 9
    · rw [if_neg (not_not_intro g9), if_pos g9]
      refine vAl (x := m.1 291 4) rfl ?_
      exact vOk_some ⟨h, rfl⟩
    · rw [if_pos g9, if_neg g9]
      exact vOk_some ⟨h, rfl⟩
end
