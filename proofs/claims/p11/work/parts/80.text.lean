/-! the reference's text -/
/-- what is kept of the texts, by their own cells alone -/
def GL (R : xMem) : Prop := ∀ t : Nat, t < 4 → ∀ k : Nat, (k : Int) < (R.1 296 t).toInt → ∃ s : Nat, (R.1 298 (10 * t + k)).toInt = ((400 * t + s : Nat) : Int) ∧ ∀ o v : Nat → Int32, (∀ i, i < 400 → o (400 * t + i) = R.1 299 (400 * t + i) ∧ v (400 * t + i) = R.1 300 (400 * t + i)) → okCode o v 400 (400 * t + s) 0
theorem GT_of {R : xMem} (h1 : ∀ j, bw 0 10 (R.1 296 j)) (h : GL R) : GT R := by
  refine ⟨h1, fun t ht k hk => ?_⟩
  obtain ⟨s, a, b⟩ := h t ht k hk
  refine ⟨by omega, ?_⟩
  rw [wN a]
  exact b _ _ (fun i _ => ⟨rfl, rfl⟩)
theorem GL_cong {R S : xMem} (e6 : ∀ j, S.1 296 j = R.1 296 j) (e8 : ∀ j, S.1 298 j = R.1 298 j) (e9 : ∀ j, S.1 299 j = R.1 299 j) (e0 : ∀ j, S.1 300 j = R.1 300 j) (h : GL R) : GL S := by
  intro t ht k hk
  rw [e6] at hk
  obtain ⟨s, a, b⟩ := h t ht k hk
  refine ⟨s, by rw [e8]; exact a, fun o v q => b o v (fun i hi => ?_)⟩
  rw [← e9, ← e0]
  exact q i hi
def KF (t : Nat) (m m1 : xMem) : Prop := m1.2 = m.2 ∧ ∀ b j, ¬ ((b = 296 ∧ j = t) ∨ b = 297 ∨ (b = 298 ∧ 10 * t ≤ j ∧ j < 10 * t + 10) ∨ ((b = 299 ∨ b = 300) ∧ 400 * t ≤ j ∧ j < 400 * t + 400)) → m1.1 b j = m.1 b j
theorem KF_put {t : Nat} {m0 m : xMem} {b j : Nat} {v : Int32} (h : KF t m0 m) (hb : (b = 296 ∧ j = t) ∨ b = 297 ∨ (b = 298 ∧ 10 * t ≤ j ∧ j < 10 * t + 10) ∨ ((b = 299 ∨ b = 300) ∧ 400 * t ≤ j ∧ j < 400 * t + 400)) : KF t m0 (xPut m b j v) := by
  refine ⟨h.1, fun c i q => ?_⟩
  show (if c = b ∧ i = j then v else m.1 c i) = _
  rw [if_neg (by rintro ⟨rfl, rfl⟩; exact q hb)]
  exact h.2 c i q
section
variable {m0 : xMem} {t C O : Nat} {a1 : Int32}
def KD (m0 : xMem) (t n1 n2 C : Nat) (m : xMem) : Prop := KF t m0 m ∧ (m.1 296 t).toInt = (C : Int) ∧ (∀ k, k < n1 → (m.1 298 (10 * t + k)).toInt = 400 * (t : Int) + (m0.1 306 k).toInt) ∧ (∀ k, k < n2 → m.1 299 (400 * t + k) = m0.1 307 k ∧ m.1 300 (400 * t + k) = m0.1 308 k)
theorem keeps68_r (ha : a1.toInt = (t : Int)) (ht : t < 4) (h31 : (m0.1 291 31).toInt = (O : Int)) (hO : O ≤ 300) : ∀ (fuel : Nat) (l2 : Int32) (m : xMem), (0 ≤ l2.toInt ∧ l2.toInt ≤ O) → KD m0 t C l2.toNatClampNeg C m → 2147483648 - l2.toInt < (fuel : Int) → vOk (KD m0 t C O C) (fX12_keepsText_68 291 a1 fuel l2 m) := by
  have c1 : (1 : Int32).toInt = 1 := rfl
  have c400 : (400 : Int32).toInt = 400 := rfl
  intro fuel
  induction fuel with
  | zero =>
    intro l2 m hp h hmu
    exfalso; omega
  | succ fuel ih =>
    intro l2 m hp h hmu
    have wl : l2.toNatClampNeg = l2.toInt.toNat := rfl
    obtain ⟨kf, k6, k8, k9⟩ := h
    rw [fX12_keepsText_68]
    refine vAl (x := m0.1 291 31) (kf.2 291 31 (by omega)).symm ?_
    refine vLe (fun g => ?_) (fun g => ?_)
    · refine vOk_some ⟨kf, k6, k8, fun k hk => k9 k (by omega)⟩
    · refine vM (v := 400 * (t : Int)) (by rw [c400, ha]) (by omega) fun x3 e3 f3 => ?_
      refine vA (by omega) fun x4 e4 f4 => ?_
      have w4 : x4.toNatClampNeg = 400 * t + l2.toNatClampNeg := wN (by omega)
      refine vIn (by omega) (by omega) fun _ => ?_
      refine vAl (x := m0.1 307 l2.toNatClampNeg) (kf.2 307 l2.toNatClampNeg (by omega)).symm ?_
      refine vIn (by omega) (by omega) fun _ => ?_
      rw [w4]
      refine vR fun m7 e7 => ?_
      have kf7 : KF t m0 m7 := by rw [e7]; exact KF_put kf (by omega)
      refine vM (v := 400 * (t : Int)) (by rw [c400, ha]) (by omega) fun x9 e9 f9 => ?_
      refine vA (by omega) fun x10 e10 f10 => ?_
      have w10 : x10.toNatClampNeg = 400 * t + l2.toNatClampNeg := wN (by omega)
      refine vIn (by omega) (by omega) fun _ => ?_
      refine vAl (x := m0.1 308 l2.toNatClampNeg) (kf7.2 308 l2.toNatClampNeg (by omega)).symm ?_
      refine vIn (by omega) (by omega) fun _ => ?_
      rw [w10]
      refine vR fun m13 e13 => ?_
      have kf13 : KF t m0 m13 := by rw [e13]; exact KF_put kf7 (by omega)
      refine vA (by omega) fun x15 e15 f15 => ?_
      have w15 : x15.toNatClampNeg = l2.toNatClampNeg + 1 := wN (by omega)
      refine ih x15 m13 (by omega) ⟨kf13, ?_, fun k hk => ?_, fun k hk => ?_⟩ (by omega)
      · rw [e13, e7, ← xP_pl (by omega), ← xP_pl (by omega)]; exact k6
      · rw [e13, e7, ← xP_pl (by omega), ← xP_pl (by omega)]; exact k8 k hk
      · by_cases q : k = l2.toNatClampNeg
        · rw [q, e13, e7]
          refine ⟨?_, xP_eq.symm⟩
          rw [← xP_pl (by omega)]
          exact xP_eq.symm
        · have z := k9 k (by omega)
          rw [e13, e7]
          refine ⟨?_, ?_⟩
          · rw [← xP_pl (by omega), ← xP_sl (by omega)]; exact z.1
          · rw [← xP_sl (by omega), ← xP_pl (by omega)]; exact z.2
theorem keeps12_r (ha : a1.toInt = (t : Int)) (ht : t < 4) (h31 : (m0.1 291 31).toInt = (O : Int)) (hO : O ≤ 300) (h27 : (m0.1 291 27).toInt = (C : Int)) (hC : C ≤ 10) (hs : ∀ k, k < C → 0 ≤ (m0.1 306 k).toInt ∧ (m0.1 306 k).toInt ≤ 300) : ∀ (fuel : Nat) (l2 : Int32) (m : xMem), (0 ≤ l2.toInt ∧ l2.toInt ≤ C) → KD m0 t l2.toNatClampNeg 0 C m → 2147483648 - l2.toInt < (fuel : Int) → vOk (KD m0 t C O C) (fX12_keepsText_12 291 a1 fuel l2 m) := by
  have c0 : (0 : Int32).toInt = 0 := rfl
  have c1 : (1 : Int32).toInt = 1 := rfl
  have c10 : (10 : Int32).toInt = 10 := rfl
  have c400 : (400 : Int32).toInt = 400 := rfl
  intro fuel
  induction fuel with
  | zero =>
    intro l2 m hp h hmu
    exfalso; omega
  | succ fuel ih =>
    intro l2 m hp h hmu
    have wl : l2.toNatClampNeg = l2.toInt.toNat := rfl
    obtain ⟨kf, k6, k8, k9⟩ := h
    rw [fX12_keepsText_12]
    refine vAl (x := m0.1 291 27) (kf.2 291 27 (by omega)).symm ?_
    refine vLe (fun g => ?_) (fun g => ?_)
    · have cF := xFu
      exact keeps68_r ha ht h31 hO xFuel 0 m (by omega) ⟨kf, k6, fun k hk => k8 k (by omega), fun k hk => absurd hk (Nat.not_lt_zero k)⟩ (by omega)
    · refine vM (v := 10 * (t : Int)) (by rw [c10, ha]) (by omega) fun x3 e3 f3 => ?_
      refine vA (by omega) fun x4 e4 f4 => ?_
      refine vIn (by omega) (by omega) fun _ => ?_
      refine vAny fun x5 => ?_
      refine vIn (by omega) (by omega) fun _ => ?_
      refine vR fun m7 e7 => ?_
      have kf7 : KF t m0 m7 := by rw [e7]; exact KF_put kf (by omega)
      refine vM (v := 10 * (t : Int)) (by rw [c10, ha]) (by omega) fun x9 e9 f9 => ?_
      refine vA (by omega) fun x10 e10 f10 => ?_
      have w10 : x10.toNatClampNeg = 10 * t + l2.toNatClampNeg := wN (by omega)
      refine vM (v := 400 * (t : Int)) (by rw [c400, ha]) (by omega) fun x11 e11 f11 => ?_
      refine vIn (by omega) (by omega) fun _ => ?_
      refine vAl (x := m0.1 306 l2.toNatClampNeg) (kf7.2 306 l2.toNatClampNeg (by omega)).symm ?_
      have b6 := hs l2.toNatClampNeg (by omega)
      refine vA (by omega) fun x14 e14 f14 => ?_
      refine vIn (by omega) (by omega) fun _ => ?_
      rw [w10]
      refine vR fun m15 e15 => ?_
      have kf15 : KF t m0 m15 := by rw [e15]; exact KF_put kf7 (by omega)
      refine vA (by omega) fun x17 e17 f17 => ?_
      have w17 : x17.toNatClampNeg = l2.toNatClampNeg + 1 := wN (by omega)
      refine ih x17 m15 (by omega) ⟨kf15, ?_, fun k hk => ?_, fun k hk => absurd hk (Nat.not_lt_zero k)⟩ (by omega)
      · rw [e15, e7, ← xP_pl (by omega), ← xP_pl (by omega)]; exact k6
      · by_cases q : k = l2.toNatClampNeg
        · rw [q, e15]
          have z : (xPut m7 (291 + 7) (10 * t + l2.toNatClampNeg) x14).1 298 (10 * t + l2.toNatClampNeg) = x14 := xP_eq.symm
          rw [z]; omega
        · rw [e15, ← xP_sl (by omega), e7, ← xP_pl (by omega)]; exact k8 k (by omega)
theorem keeps_r {m : xMem} (ha : a1.toInt = (t : Int)) (ht : t < 4) (h31 : (m.1 291 31).toInt = (O : Int)) (hO : O ≤ 300) (h27 : (m.1 291 27).toInt = (C : Int)) (hC : C ≤ 10) (hs : ∀ k, k < C → 0 ≤ (m.1 306 k).toInt ∧ (m.1 306 k).toInt ≤ 300) : vOk (KD m t C O C) (fX12_keepsText 291 a1 m) := by
  have c0 : (0 : Int32).toInt = 0 := rfl
  have cF := xFu
  unfold fX12_keepsText fX12_keepsText_0
  refine vAl (x := m.1 291 27) rfl ?_
  refine vIn (by omega) (by omega) fun _ => ?_
  rw [wN ha]
  refine vR fun m2 e2 => ?_
  refine keeps12_r ha ht h31 hO h27 hC hs xFuel 0 m2 (by omega) ⟨?_, ?_, fun k hk => absurd hk (Nat.not_lt_zero k), fun k hk => absurd hk (Nat.not_lt_zero k)⟩ (by omega)
  · rw [e2]; exact KF_put ⟨rfl, fun _ _ _ => rfl⟩ (by omega)
  · have z : m2.1 296 t = m.1 291 27 := by rw [e2]; exact xP_eq.symm
    rw [z]; exact h27
theorem GL_kept {m m1 : xMem} (hG : GL m) (hB : ∀ j, bw 0 10 (m.1 296 j)) (ht : t < 4) (hO : O ≤ 300) (h : KD m t C O C m1) (hv : ∀ c : Nat, c < C → ∃ s' : Nat, (m.1 306 c).toInt = (s' : Int) ∧ s' ≤ O ∧ VAL (m.1 307) (m.1 308) O s') : GL m1 := by
  obtain ⟨kf, k6, k8, k9⟩ := h
  intro t' ht' k hk
  by_cases q : t' = t
  · subst q
    rw [k6] at hk
    obtain ⟨s', a1, a2, a3⟩ := hv k (by omega)
    refine ⟨s', by rw [k8 k (by omega), a1]; omega, fun o v e => ?_⟩
    refine a3 (400 * t') o v (by omega) (fun i hi => ?_)
    rw [(e i (by omega)).1, (e i (by omega)).2]
    exact k9 i hi
  · rw [kf.2 296 t' (by omega)] at hk
    have := hB t'
    have hk10 : k < 10 := by
      have := this.2
      omega
    obtain ⟨s', a, b⟩ := hG t' ht' k hk
    refine ⟨s', by rw [kf.2 298 (10 * t' + k) (by omega)]; exact a, fun o v e => b o v (fun i hi => ?_)⟩
    rw [(e i hi).1, (e i hi).2, kf.2 299 (400 * t' + i) (by omega), kf.2 300 (400 * t' + i) (by omega)]
    exact ⟨rfl, rfl⟩
end
def TX (m m1 : xMem) : Prop := GR m1 ∧ GL m1 ∧ bw 0 300 (m1.1 291 4) ∧ ∀ b j, ¬ (b = 291 ∨ (b = 292 ∧ j = 4) ∨ (296 ≤ b ∧ b ≤ 308)) → m1.1 b j = m.1 b j
theorem GA_4 {g g' : Nat → Int32} (h : GA g) (e : ∀ j, j ≠ 4 → g' j = g j) (h4 : bw 0 4 (g' 4)) : GA g' := by
  obtain ⟨x1, x2, x3, x4, x5, x6, x7, x8⟩ := h.1
  refine ⟨?_, GA_rows h fun j _ _ => e j (by omega), GA_cyc h (fun j _ _ => e j (by omega)) (e 2 (by omega)), GA_bur h fun j _ _ => e j (by omega), GA_stp h fun j _ _ => e j (by omega), GA_lds h fun j _ _ => e j (by omega)⟩
  rw [e 1 (by omega), e 2 (by omega), e 3 (by omega), e 5 (by omega), e 6 (by omega), e 7 (by omega), e 8 (by omega)]
  exact ⟨x1, x2, x3, h4, x5, x6, x7, x8⟩
section
variable {m0 : xMem}
/-- where a text began: the calls up to there -/
def TB (m0 : xMem) : Prop := GR m0 ∧ GL m0 ∧ bw 0 300 (m0.1 291 4) ∧ ¬ (m0.1 292 4).toInt = 4
theorem text167_r {m : xMem} (hB : TB m0) (pf : PF m0 m) (h : 0 < (m.1 291 17).toInt ∨ ((m.1 291 17).toInt = 0 ∧ ∃ O C, O ≤ 300 ∧ C ≤ 10 ∧ Core m [] O O 0 C)) : vOk (fun p : Int32 × xMem => TX m0 p.2) (fX12_text_167 291 m) := by
  have c0 : (0 : Int32).toInt = 0 := rfl
  have c1 : (1 : Int32).toInt = 1 := rfl
  have c4 : (4 : Int32).toInt = 4 := rfl
  obtain ⟨hG, hL, h4, hn4⟩ := hB
  have hb4 : 0 ≤ (m0.1 292 4).toInt ∧ (m0.1 292 4).toInt ≤ 4 := hG.1.1.2.2.2.1
  unfold fX12_text_167
  refine vAl (x := m.1 291 17) rfl ?_
  refine vR fun m2 e2 => ?_
  refine vAny fun x3 => ?_
  refine vR fun m4 e4 => ?_
  have f4 : ∀ b j, ¬ (b = 291 ∧ (j = 5 ∨ j = 6)) → m4.1 b j = m.1 b j := fun b j w => by
    rw [e4, e2]
    show (if b = 291 ∧ j = 6 then _ else if b = 291 ∧ j = 5 then _ else m.1 b j) = _
    rw [if_neg (by omega), if_neg (by omega)]
  have q4 : ∀ b j, ¬ ((b = 291 ∧ (j = 5 ∨ j = 6 ∨ 13 ≤ j)) ∨ (301 ≤ b ∧ b ≤ 308)) → m4.1 b j = m0.1 b j := fun b j w => by
    rw [f4 b j (by omega), pf.2 b j (by omega)]
  refine vAl (x := m.1 291 17) (f4 291 17 (by omega)).symm ?_
  have g4 : GL m4 := GL_cong (fun j => q4 _ _ (by omega)) (fun j => q4 _ _ (by omega)) (fun j => q4 _ _ (by omega)) (fun j => q4 _ _ (by omega)) hL
  have r292 : m4.1 292 = m0.1 292 := funext fun j => q4 292 j (by omega)
  refine vLe (fun g => ?_) (fun g => ?_)
  · obtain ⟨w0, O, C, hO, hC, hcore⟩ := h.resolve_left (by omega)
    obtain ⟨hl, ⟨h20, h23, h31, h27⟩, hss, hp, hv⟩ := hcore
    refine vIn (by omega) (by omega) fun _ => ?_
    refine vAl (x := m0.1 292 4) (congrFun r292 4).symm ?_
    have ht : (m0.1 292 4).toInt = ((m0.1 292 4).toInt.toNat : Int) := by omega
    have r6 : m4.1 306 = m.1 306 := funext fun j => f4 306 j (by omega)
    have r7 : m4.1 307 = m.1 307 := funext fun j => f4 307 j (by omega)
    have r8 : m4.1 308 = m.1 308 := funext fun j => f4 308 j (by omega)
    refine vOk_bind (keeps_r (O := O) (C := C) ht (by omega) (by rw [f4 291 31 (by omega)]; exact h31) hO (by rw [f4 291 27 (by omega)]; exact h27) hC (fun k hk => ?_)) fun p9 q => ?_
    · obtain ⟨s', a1, a2, a3⟩ := hv k hk
      rw [r6, a1]
      omega
    have kf := q.1
    have b6 : ∀ j, bw 0 10 (m4.1 296 j) := fun j => by rw [q4 296 j (by omega)]; exact hG.2.1 j
    have g9 : GL p9 := GL_kept g4 b6 (by omega) hO q (fun c hc => by rw [r6, r7, r8]; exact hv c hc)
    have k4 : p9.1 292 4 = m0.1 292 4 := by rw [kf.2 292 4 (by omega), r292]
    refine vIn (by omega) (by omega) fun _ => ?_
    refine vAl (x := m0.1 292 4) k4.symm ?_
    refine vA (by omega) fun x12 e12 f12 => ?_
    refine vIn (by omega) (by omega) fun _ => ?_
    refine vR fun m13 e13 => ?_
    have z4 : m13.1 292 4 = x12 := by rw [e13]; exact xP_eq.symm
    have f13 : ∀ b j, ¬ (b = 292 ∧ j = 4) → m13.1 b j = p9.1 b j := fun b j w => by
      rw [e13]
      show (if b = 291 + 1 ∧ j = 4 then _ else p9.1 b j) = _
      rw [if_neg (by omega)]
    refine vIn (by omega) (by omega) fun _ => ?_
    refine vAny fun x15 => ?_
    refine vAny fun x17 => ?_
    have g13 : GL m13 := GL_cong (fun j => f13 _ _ (by omega)) (fun j => f13 _ _ (by omega)) (fun j => f13 _ _ (by omega)) (fun j => f13 _ _ (by omega)) g9
    have c13 : ∀ j, bw 0 10 (m13.1 296 j) := fun j => by
      rw [f13 296 j (by omega)]
      by_cases z : j = (m0.1 292 4).toInt.toNat
      · rw [z]
        have w := q.2.1
        exact ⟨by omega, by omega⟩
      · rw [kf.2 296 j (by omega)]; exact b6 j
    have fin : ∀ b j, ¬ (b = 291 ∨ (b = 292 ∧ j = 4) ∨ (296 ≤ b ∧ b ≤ 308)) → m13.1 b j = m0.1 b j := fun b j w => by
      rw [f13 b j (by omega), kf.2 b j (by omega), q4 b j (by omega)]
    have s4 : m13.1 291 4 = m0.1 291 4 := by
      rw [f13 291 4 (by omega), kf.2 291 4 (by omega), q4 291 4 (by omega)]
    exact vOk_some ⟨⟨GA_4 hG.1 (fun j hj => fin 292 j (by omega)) (by rw [z4]; exact ⟨by omega, by omega⟩), GT_of c13 g13⟩, g13, by rw [s4]; exact h4, fin⟩
  · refine vOk_some ⟨⟨by rw [r292]; exact hG.1, GT_of (fun j => by rw [q4 296 j (by omega)]; exact hG.2.1 j) g4⟩, g4, by rw [q4 291 4 (by omega)]; exact h4, fun b j w => q4 b j (by omega)⟩
theorem MU_0 {m : xMem} (t : TK m) : 0 ≤ MU m ∧ MU m ≤ 603 := by
  unfold TK at t
  unfold MU
  have w1 : (0 : Int) ≤ (if (m.1 291 26).toInt = 0 ∨ (m.1 291 26).toInt = 2 then 1 else 0 : Int) ∧ (if (m.1 291 26).toInt = 0 ∨ (m.1 291 26).toInt = 2 then 1 else 0 : Int) ≤ 1 := by
    by_cases q : (m.1 291 26).toInt = 0 ∨ (m.1 291 26).toInt = 2
    · rw [if_pos q]; omega
    · rw [if_neg q]; omega
  have w2 : (0 : Int) ≤ (if (m.1 291 15).toInt = 0 then 0 else 1 : Int) ∧ (if (m.1 291 15).toInt = 0 then 0 else 1 : Int) ≤ 1 := by
    by_cases q : (m.1 291 15).toInt = 0
    · rw [if_pos q]; omega
    · rw [if_neg q]; omega
  omega
theorem text74_r (hB : TB m0) : ∀ (fuel : Nat) (m : xMem), PF m0 m → (0 < (m.1 291 17).toInt ∨ (PI m ∧ MU m + 2 ≤ (fuel : Int))) → 1 ≤ fuel → vOk (fun p : Int32 × xMem => TX m0 p.2) (fX12_text_74 291 fuel m) := by
  have c0 : (0 : Int32).toInt = 0 := rfl
  have c1 : (1 : Int32).toInt = 1 := rfl
  have c2 : (2 : Int32).toInt = 2 := rfl
  have c3 : (3 : Int32).toInt = 3 := rfl
  have c4 : (4 : Int32).toInt = 4 := rfl
  intro fuel
  induction fuel with
  | zero => intro m _ _ h; exact absurd h (by decide)
  | succ fuel ih =>
    intro m pf h hf
    rw [fX12_text_74]
    refine vAl (x := m.1 291 17) rfl ?_
    rcases h with h | ⟨hP, hM⟩
    · refine vNe (fun _ => text167_r hB pf (Or.inl h)) (fun g => by exfalso; omega)
    · obtain ⟨lv, s, O, H, C, hw, t, hc, h19, h8, hb, hp⟩ := hP
      have mu := MU_0 t
      have t' := t
      unfold TK at t'
      refine vNe (fun g => by exfalso; omega) (fun _ => ?_)
      have go : ∀ m1, ST m m1 → vOk (fun p : Int32 × xMem => TX m0 p.2) (fX12_text_74 291 fuel m1) := by
        intro m1 q
        refine ih m1 (PF_tr pf q.1) ?_ (by omega)
        rcases q.2 with q2 | ⟨q2, q3⟩
        · exact Or.inl q2
        · exact Or.inr ⟨q2, by omega⟩
      have w0 : wsum ([] : List (Nat × List Nat)) = 0 := rfl
      have r96 : vOk (fun p : Int32 × xMem => TX m0 p.2) (fX12_text_96 291 (fX12_text_74 291 fuel) m) := by
        unfold fX12_text_96
        refine vAl (x := m.1 291 26) rfl ?_
        rcases hp with ⟨p1, p2, p3, p4, p5⟩ | ⟨p1, p2, p3, p4, p5⟩ | ⟨p1, p2, p3, p4, p5, p6⟩ | ⟨p1, ⟨ops, rfl, p2⟩, p3, p4, p5⟩ | ⟨p1, rfl, rfl, rfl, p5⟩
        · refine vEq (fun _ => ?_) (fun g => by exfalso; omega)
          refine vOk_bind (asks_c hw t hc h19 h8 hb p1 p2 p3 p4 p5) fun m1 q => go m1 q
        · refine vEq (fun g => by exfalso; omega) (fun _ => ?_)
          refine vEq (fun _ => ?_) (fun g => by exfalso; omega)
          refine vOk_bind (begins_c hw t hc h19 h8 hb p1 p2 p3 p4 p5) fun m1 q => go m1 q
        · refine vEq (fun g => by exfalso; omega) (fun _ => ?_)
          refine vEq (fun g => by exfalso; omega) (fun _ => ?_)
          refine vEq (fun _ => ?_) (fun g => by exfalso; omega)
          refine vOk_bind (goesOn_c hw t hc h19 h8 hb p1 p2 p3 p4 p5 p6) fun m1 q => go m1 q
        · have w2 : wsum [(2, ops)] = ops.length := rfl
          have o2 : opn [(2, ops)] = 0 := rfl
          have q2 : pnd [(2, ops)] = 0 := rfl
          refine vEq (fun g => by exfalso; omega) (fun _ => ?_)
          refine vEq (fun g => by exfalso; omega) (fun _ => ?_)
          refine vEq (fun g => by exfalso; omega) (fun _ => ?_)
          refine vEq (fun _ => ?_) (fun g => by exfalso; omega)
          refine vOk_bind (asksOn_c hw t hc (by omega) (by omega) p2 (by omega) p4 p5) fun m1 q => go m1 q
        · have o2 : opn ([] : List (Nat × List Nat)) = 0 := rfl
          have q2 : pnd ([] : List (Nat × List Nat)) = 0 := rfl
          refine vEq (fun g => by exfalso; omega) (fun _ => ?_)
          refine vEq (fun g => by exfalso; omega) (fun _ => ?_)
          refine vEq (fun g => by exfalso; omega) (fun _ => ?_)
          refine vEq (fun g => by exfalso; omega) (fun _ => ?_)
          refine vOk_bind (clause_c hw t hc (by omega) (by omega) p5) fun m1 q => go m1 q
      refine vAl (x := m.1 291 26) rfl ?_
      refine vNe (fun _ => r96) (fun g => ?_)
      refine vAl (x := m.1 291 15) rfl ?_
      refine vEq (fun _ => ?_) (fun _ => r96)
      refine text167_r hB pf (Or.inr ⟨hw, O, C, by omega, ?_⟩)
      rcases hp with q | q | q | q | ⟨_, rfl, rfl, rfl, p5⟩
      · exfalso; have := q.1; omega
      · exfalso; have := q.1; omega
      · exfalso; have := q.1; omega
      · exfalso; have := q.1; omega
      · exact ⟨p5, hc⟩
end
theorem text_r {m : xMem} (hG : GR m) (hL : GL m) (h4 : bw 0 300 (m.1 291 4)) : vOk (fun p : Int32 × xMem => TX m p.2) (fX12_text 291 m) := by
  have c0 : (0 : Int32).toInt = 0 := rfl
  have c4 : (4 : Int32).toInt = 4 := rfl
  have h4' : 0 ≤ (m.1 291 4).toInt ∧ (m.1 291 4).toInt ≤ 300 := h4
  have cF := xFu
  unfold fX12_text fX12_text_0
  refine vIn (by omega) (by omega) fun _ => ?_
  refine vAl (x := m.1 292 4) rfl ?_
  refine vNe (fun g => ?_) (fun _ => vOk_some ⟨hG, hL, h4, fun _ _ _ => rfl⟩)
  refine vAl (x := m.1 291 4) rfl ?_
  refine vR fun m5 e5 => ?_
  refine vR fun m6 em6 => ?_
  refine vR fun m7 em7 => ?_
  refine vR fun m8 em8 => ?_
  refine vR fun m9 em9 => ?_
  refine vR fun m10 em10 => ?_
  refine vR fun m11 em11 => ?_
  refine vR fun m12 em12 => ?_
  refine vR fun m13 em13 => ?_
  refine vR fun m14 em14 => ?_
  refine vR fun m15 em15 => ?_
  have fr : ∀ b j, ¬ (b = 291 ∧ (j = 12 ∨ j = 4 ∨ j = 13 ∨ j = 17 ∨ j = 18 ∨ j = 19 ∨ j = 20 ∨ j = 23 ∨ j = 26 ∨ j = 27 ∨ j = 31)) → m15.1 b j = m.1 b j := fun b j w => by
    rw [em15, em14, em13, em12, em11, em10, em9, em8, em7, em6, e5]
    show (if b = 291 ∧ j = 31 then _ else if b = 291 ∧ j = 27 then _ else if b = 291 ∧ j = 26 then _ else if b = 291 ∧ j = 23 then _ else if b = 291 ∧ j = 20 then _ else if b = 291 ∧ j = 19 then _ else if b = 291 ∧ j = 18 then _ else if b = 291 ∧ j = 17 then _ else if b = 291 ∧ j = 13 then _ else if b = 291 ∧ j = 4 then _ else if b = 291 ∧ j = 12 then _ else m.1 b j) = _
    rw [if_neg (by omega), if_neg (by omega), if_neg (by omega), if_neg (by omega), if_neg (by omega), if_neg (by omega), if_neg (by omega), if_neg (by omega), if_neg (by omega), if_neg (by omega), if_neg (by omega)]
  have z12 : m15.1 291 12 = m.1 291 4 := by
    rw [em15, em14, em13, em12, em11, em10, em9, em8, em7, em6, e5, ← xP_sl (by omega), ← xP_sl (by omega), ← xP_sl (by omega), ← xP_sl (by omega), ← xP_sl (by omega), ← xP_sl (by omega), ← xP_sl (by omega), ← xP_sl (by omega), ← xP_sl (by omega), ← xP_sl (by omega)]
    exact xP_eq.symm
  have z4 : m15.1 291 4 = 0 := by
    rw [em15, em14, em13, em12, em11, em10, em9, em8, em7, em6, e5, ← xP_sl (by omega), ← xP_sl (by omega), ← xP_sl (by omega), ← xP_sl (by omega), ← xP_sl (by omega), ← xP_sl (by omega), ← xP_sl (by omega), ← xP_sl (by omega), ← xP_sl (by omega)]
    exact xP_eq.symm
  have z13 : m15.1 291 13 = 0 := by
    rw [em15, em14, em13, em12, em11, em10, em9, em8, em7, em6, e5, ← xP_sl (by omega), ← xP_sl (by omega), ← xP_sl (by omega), ← xP_sl (by omega), ← xP_sl (by omega), ← xP_sl (by omega), ← xP_sl (by omega), ← xP_sl (by omega)]
    exact xP_eq.symm
  have z17 : m15.1 291 17 = 0 := by
    rw [em15, em14, em13, em12, em11, em10, em9, em8, em7, em6, e5, ← xP_sl (by omega), ← xP_sl (by omega), ← xP_sl (by omega), ← xP_sl (by omega), ← xP_sl (by omega), ← xP_sl (by omega), ← xP_sl (by omega)]
    exact xP_eq.symm
  have z18 : m15.1 291 18 = -1 := by
    rw [em15, em14, em13, em12, em11, em10, em9, em8, em7, em6, e5, ← xP_sl (by omega), ← xP_sl (by omega), ← xP_sl (by omega), ← xP_sl (by omega), ← xP_sl (by omega), ← xP_sl (by omega)]
    exact xP_eq.symm
  have z19 : m15.1 291 19 = 0 := by
    rw [em15, em14, em13, em12, em11, em10, em9, em8, em7, em6, e5, ← xP_sl (by omega), ← xP_sl (by omega), ← xP_sl (by omega), ← xP_sl (by omega), ← xP_sl (by omega)]
    exact xP_eq.symm
  have z20 : m15.1 291 20 = 0 := by
    rw [em15, em14, em13, em12, em11, em10, em9, em8, em7, em6, e5, ← xP_sl (by omega), ← xP_sl (by omega), ← xP_sl (by omega), ← xP_sl (by omega)]
    exact xP_eq.symm
  have z23 : m15.1 291 23 = 0 := by
    rw [em15, em14, em13, em12, em11, em10, em9, em8, em7, em6, e5, ← xP_sl (by omega), ← xP_sl (by omega), ← xP_sl (by omega)]
    exact xP_eq.symm
  have z26 : m15.1 291 26 = 4 := by
    rw [em15, em14, em13, em12, em11, em10, em9, em8, em7, em6, e5, ← xP_sl (by omega), ← xP_sl (by omega)]
    exact xP_eq.symm
  have z27 : m15.1 291 27 = 0 := by
    rw [em15, em14, em13, em12, em11, em10, em9, em8, em7, em6, e5, ← xP_sl (by omega)]
    exact xP_eq.symm
  have z31 : m15.1 291 31 = 0 := by
    rw [em15, em14, em13, em12, em11, em10, em9, em8, em7, em6, e5]
    exact xP_eq.symm
  have hB : TB m15 := by
    have r292 : m15.1 292 = m.1 292 := funext fun j => fr 292 j (by omega)
    have hL' : GL m15 := GL_cong (fun j => fr _ _ (by omega)) (fun j => fr _ _ (by omega)) (fun j => fr _ _ (by omega)) (fun j => fr _ _ (by omega)) hL
    exact ⟨⟨by rw [r292]; exact hG.1, GT_of (fun j => by rw [fr 296 j (by omega)]; exact hG.2.1 j) hL'⟩, hL', by rw [z4]; exact ⟨by decide, by decide⟩, by rw [r292]; exact g⟩
  have i15 : Core m15 [] 0 0 0 0 := ⟨trivial, ⟨by rw [z20]; rfl, by rw [z23]; rfl, by rw [z31]; rfl, by rw [z27]; rfl⟩, Nat.le_refl _, PRE_0, fun c hc => absurd hc (Nat.not_lt_zero c)⟩
  refine vOk_bind (next_r (by rw [z12, z13]; omega)) fun p16 q => ?_
  obtain ⟨n1, n2, n3⟩ := q
  have i16 : Core p16 [] 0 0 0 0 := Core_x (fun b j w => n1.2 b j (by omega)) i15
  have hP : PI p16 := ⟨[], 0, 0, 0, 0, by rw [n1.2 291 17 (by omega), z17]; rfl, n2, i16, by rw [n1.2 291 19 (by omega), z19]; rfl, Nat.zero_le _, n2.1.1, Or.inr (Or.inr (Or.inr (Or.inr ⟨by rw [n1.2 291 26 (by omega), z26]; rfl, rfl, rfl, rfl, by omega⟩)))⟩
  have mu := MU_0 n2
  refine vOk_mono (text74_r hB xFuel p16 (PF_N (EN_N n1)) (Or.inr ⟨hP, by omega⟩) (by omega)) fun p hp => ?_
  obtain ⟨a, b, c, d⟩ := hp
  exact ⟨a, b, c, fun x y w => by rw [d x y w, fr x y (by omega)]⟩
