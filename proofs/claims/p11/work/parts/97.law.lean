/-! THE LAW, call by call -/
section
variable {L : Nat} {xs : Nat → Int32} {rec18 : Int32 → xMem → Option (Int32 × xMem)} {l3 : Int32} {Q : Int32 × xMem → Prop}
abbrev okI (L : Nat) (l3 : Int32) : Prop := 0 ≤ l3.toInt ∧ l3.toInt + 8 ≤ (L : Int) ∧ L ≤ 4096
theorem iK (h : okI L l3) : (l3 + 1).toInt = l3.toInt + 1 ∧ (l3 + 2).toInt = l3.toInt + 2 ∧ (l3 + 3).toInt = l3.toInt + 3 ∧ (l3 + 4).toInt = l3.toInt + 4 ∧ (l3 + 5).toInt = l3.toInt + 5 ∧ (l3 + 6).toInt = l3.toInt + 6 ∧ (l3 + 7).toInt = l3.toInt + 7 ∧ (l3 + 8).toInt = l3.toInt + 8 := by
  have c1 : (1 : Int32).toInt = 1 := rfl
  have c2 : (2 : Int32).toInt = 2 := rfl
  have c3 : (3 : Int32).toInt = 3 := rfl
  have c4 : (4 : Int32).toInt = 4 := rfl
  have c5 : (5 : Int32).toInt = 5 := rfl
  have c6 : (6 : Int32).toInt = 6 := rfl
  have c7 : (7 : Int32).toInt = 7 := rfl
  have c8 : (8 : Int32).toInt = 8 := rfl
  refine ⟨?_, ?_, ?_, ?_, ?_, ?_, ?_, ?_⟩
  · rw [Int32.toInt_add, c1]; exact Int.bmod_eq_of_le (by omega) (by omega)
  · rw [Int32.toInt_add, c2]; exact Int.bmod_eq_of_le (by omega) (by omega)
  · rw [Int32.toInt_add, c3]; exact Int.bmod_eq_of_le (by omega) (by omega)
  · rw [Int32.toInt_add, c4]; exact Int.bmod_eq_of_le (by omega) (by omega)
  · rw [Int32.toInt_add, c5]; exact Int.bmod_eq_of_le (by omega) (by omega)
  · rw [Int32.toInt_add, c6]; exact Int.bmod_eq_of_le (by omega) (by omega)
  · rw [Int32.toInt_add, c7]; exact Int.bmod_eq_of_le (by omega) (by omega)
  · rw [Int32.toInt_add, c8]; exact Int.bmod_eq_of_le (by omega) (by omega)
theorem burst_go {m : xMem} (h : okI L l3) (hm : InvW m) (fin : ∀ m, InvW m → vOk Q (fL_1390 L xs rec18 l3 m)) : ∀ b6 : Int32, vOk Q (fL_432 L xs rec18 l3 0 (xs (l3 + 1).toNatClampNeg) (xs (l3 + 2).toNatClampNeg) (xs (l3 + 3).toNatClampNeg) (xs (l3 + 4).toNatClampNeg) (xs (l3 + 5).toNatClampNeg) b6 m) := by
  obtain ⟨k1, k2, k3, k4, k5, k6, k7, k8⟩ := iK h
  intro b6
  have s2 : ∀ (p : Int32 × xMem) (c6 c7 : Int32), (((okBu (m.1 1 7) (xs (l3 + 1).toNatClampNeg) (xs (l3 + 2).toNatClampNeg) (xs (l3 + 3).toNatClampNeg) (xs (l3 + 4).toNatClampNeg) (xs (l3 + 5).toNatClampNeg) ∧ (m.1 1 9).toInt < 30) ∧ p.1 = m.1 1 9 + 1 ∧ IC (xPut m 1 9 (m.1 1 9 + 1)) p.2) ∨ (¬ (okBu (m.1 1 7) (xs (l3 + 1).toNatClampNeg) (xs (l3 + 2).toNatClampNeg) (xs (l3 + 3).toNatClampNeg) (xs (l3 + 4).toNatClampNeg) (xs (l3 + 5).toNatClampNeg) ∧ (m.1 1 9).toInt < 30) ∧ p.1 = -1 ∧ IC m p.2)) → vOk Q (fL_504 L xs rec18 l3 291 (xs (l3 + 1).toNatClampNeg) (xs (l3 + 2).toNatClampNeg) (xs (l3 + 3).toNatClampNeg) (xs (l3 + 4).toNatClampNeg) (xs (l3 + 5).toNatClampNeg) c6 c7 p.2) := by
    intro p c6 c7 hp
    unfold fL_504
    refine vOk_bind (burst_w hm hp) fun q hq => ?_
    exact fin _ hq.1
  have sB : ∀ (p : Int32 × xMem) (c6 : Int32), (((okBu (m.1 1 7) (xs (l3 + 1).toNatClampNeg) (xs (l3 + 2).toNatClampNeg) (xs (l3 + 3).toNatClampNeg) (xs (l3 + 4).toNatClampNeg) (xs (l3 + 5).toNatClampNeg) ∧ (m.1 1 9).toInt < 30) ∧ p.1 = m.1 1 9 + 1 ∧ IC (xPut m 1 9 (m.1 1 9 + 1)) p.2) ∨ (¬ (okBu (m.1 1 7) (xs (l3 + 1).toNatClampNeg) (xs (l3 + 2).toNatClampNeg) (xs (l3 + 3).toNatClampNeg) (xs (l3 + 4).toNatClampNeg) (xs (l3 + 5).toNatClampNeg) ∧ (m.1 1 9).toInt < 30) ∧ p.1 = -1 ∧ IC m p.2)) → vOk Q (fL_490 L xs rec18 l3 291 (xs (l3 + 1).toNatClampNeg) (xs (l3 + 2).toNatClampNeg) (xs (l3 + 3).toNatClampNeg) (xs (l3 + 4).toNatClampNeg) (xs (l3 + 5).toNatClampNeg) c6 p.2) := by
    intro p c6 hp
    unfold fL_490
    refine vAl rfl ?_
    refine vIn (by omega) (by omega) fun _ => ?_
    refine vAl rfl ?_
    refine vEq (fun _ => ?_) (fun _ => ?_)
    · exact s2 p _ _ hp
    · exact s2 p _ _ hp
  have s1 : ∀ b7 : Int32, (0 ≤ b7.toInt ∧ b7.toInt ≤ 1) → vOk Q (fL_446 L xs rec18 l3 0 (xs (l3 + 1).toNatClampNeg) (xs (l3 + 2).toNatClampNeg) (xs (l3 + 3).toNatClampNeg) (xs (l3 + 4).toNatClampNeg) (xs (l3 + 5).toNatClampNeg) b6 b7 m) := by
    intro b7 h7
    unfold fL_446
    refine vOk_bind (burst_c (CI_IC hm.1.1) h7 (b1 hm.1) (b3 hm.1)) fun p hp => ?_
    refine vAl rfl ?_
    refine vIn (by omega) (by omega) fun _ => ?_
    refine vAl rfl ?_
    refine vAl rfl ?_
    refine vIn (by omega) (by omega) fun _ => ?_
    refine vAl rfl ?_
    refine vAl rfl ?_
    refine vIn (by omega) (by omega) fun _ => ?_
    refine vAl rfl ?_
    refine vAl rfl ?_
    refine vIn (by omega) (by omega) fun _ => ?_
    refine vAl rfl ?_
    refine vAl rfl ?_
    refine vIn (by omega) (by omega) fun _ => ?_
    refine vAl rfl ?_
    refine vAl rfl ?_
    refine vIn (by omega) (by omega) fun _ => ?_
    refine vAl rfl ?_
    refine vEq (fun _ => ?_) (fun _ => ?_)
    · exact sB p _ hp
    · exact sB p _ hp
  unfold fL_432
  refine vAl rfl ?_
  refine vIn (by omega) (by omega) fun _ => ?_
  refine vAl rfl ?_
  refine vEq (fun _ => ?_) (fun _ => ?_)
  · exact s1 0 (by decide)
  · exact s1 1 (by decide)
theorem route_go {m : xMem} (h : okI L l3) (hm : InvW m) (fin : ∀ m, InvW m → vOk Q (fL_1390 L xs rec18 l3 m)) : ∀ b3 : Int32, vOk Q (fL_812 L xs rec18 l3 0 (xs (l3 + 1).toNatClampNeg) (xs (l3 + 2).toNatClampNeg) b3 m) := by
  obtain ⟨k1, k2, k3, k4, k5, k6, k7, k8⟩ := iK h
  intro b3
  have s2 : ∀ (p : xMem) (c3 : Int32), InvW p → vOk Q (fL_840 L xs rec18 l3 291 (xs (l3 + 1).toNatClampNeg) (xs (l3 + 2).toNatClampNeg) c3 p) := by
    intro p c3 hp
    unfold fL_840
    refine vOk_bind (rw_route hp) fun q hq => ?_
    exact fin _ hq
  unfold fL_812
  refine vOk_bind (cw_route hm) fun p hp => ?_
  refine vAl rfl ?_
  refine vIn (by omega) (by omega) fun _ => ?_
  refine vAl rfl ?_
  refine vAl rfl ?_
  refine vIn (by omega) (by omega) fun _ => ?_
  refine vAl rfl ?_
  refine vAl rfl ?_
  refine vIn (by omega) (by omega) fun _ => ?_
  refine vAl rfl ?_
  refine vEq (fun _ => ?_) (fun _ => ?_)
  · exact s2 _ _ hp
  · exact s2 _ _ hp
theorem day_go {m : xMem} (h : okI L l3) (hm : InvW m) (fin : ∀ m, InvW m → vOk Q (fL_1390 L xs rec18 l3 m)) : ∀ b1 : Int32, (b1 = 0 ↔ (xs (l3 + 1).toNatClampNeg).toInt = (0 : Int32).toInt) → vOk Q (fL_1122 L xs rec18 l3 0 b1 m) := by
  obtain ⟨k1, k2, k3, k4, k5, k6, k7, k8⟩ := iK h
  intro b1 hb1
  have s2 : ∀ (p : Int32 × xMem) (c1 : Int32), (b1 = 0 ↔ c1 = 0) → (if ((0 ≤ (xs (l3 + 2).toNatClampNeg).toInt ∧ (xs (l3 + 2).toNatClampNeg).toInt ≤ 5) ∧ (0 ≤ (xs (l3 + 3).toNatClampNeg).toInt ∧ (xs (l3 + 3).toNatClampNeg).toInt ≤ 9999)) ∧ (m.1 5 2).toInt < 40 then p.1 = m.1 5 2 + 1 ∧ IC (dayC m (slotN b1 (xs (l3 + 2).toNatClampNeg)) (xs (l3 + 3).toNatClampNeg)) p.2 else p.1 = -1 ∧ IC m p.2) → vOk Q (fL_1150 L xs rec18 l3 291 c1 p.2) := by
    intro p c1 hbb hp
    unfold fL_1150
    refine vAl rfl ?_
    refine vIn (by omega) (by omega) fun _ => ?_
    refine vAl rfl ?_
    refine vAl rfl ?_
    refine vIn (by omega) (by omega) fun _ => ?_
    refine vAl rfl ?_
    refine vOk_bind (day_w hbb hm hp) fun q hq => ?_
    exact fin _ hq.1
  unfold fL_1122
  refine vAl rfl ?_
  refine vIn (by omega) (by omega) fun _ => ?_
  refine vAl rfl ?_
  refine vAl rfl ?_
  refine vIn (by omega) (by omega) fun _ => ?_
  refine vAl rfl ?_
  refine vOk_bind (day_c (CI_IC hm.1.1) (b6 hm.1)) fun p hp => ?_
  refine vAl rfl ?_
  refine vIn (by omega) (by omega) fun _ => ?_
  refine vAl rfl ?_
  refine vEq (fun g => ?_) (fun g => ?_)
  · exact s2 p _ ⟨fun _ => rfl, fun _ => hb1.mpr g⟩ hp
  · exact s2 p _ ⟨fun w => absurd (hb1.mp w) g, fun w => absurd w (by decide)⟩ hp
theorem taken_go {m : xMem} (h : okI L l3) (hm : InvW m) (fin : ∀ m, InvW m → vOk Q (fL_1390 L xs rec18 l3 m)) : ∀ b2 : Int32, vOk Q (fL_1311 L xs rec18 l3 0 (xs (l3 + 1).toNatClampNeg) b2 m) := by
  obtain ⟨k1, k2, k3, k4, k5, k6, k7, k8⟩ := iK h
  intro b2
  have s2 : ∀ (p : xMem) (c2 : Int32), InvW p → vOk Q (fL_1334 L xs rec18 l3 291 (xs (l3 + 1).toNatClampNeg) c2 p) := by
    intro p c2 hp
    unfold fL_1334
    refine vOk_bind (rw_taken hp) fun q hq => ?_
    exact fin _ hq
  unfold fL_1311
  refine vOk_bind (cw_taken hm) fun p hp => ?_
  refine vAl rfl ?_
  refine vIn (by omega) (by omega) fun _ => ?_
  refine vAl rfl ?_
  refine vAl rfl ?_
  refine vIn (by omega) (by omega) fun _ => ?_
  refine vAl rfl ?_
  refine vEq (fun _ => ?_) (fun _ => ?_)
  · exact s2 _ _ hp
  · exact s2 _ _ hp
end
theorem XR_s {c0 : Nat} {g : Nat → Int32} (hc : c0 = 1 ∨ c0 = 84) (e : ∀ j, g j = if j = 5 ∨ (580 ≤ j ∧ j < 1380) then -1 else 0) : XR c0 (mB 1610) g := by
  have z : ∀ j, ¬ (j = 5 ∨ (580 ≤ j ∧ j < 1380)) → g j = 0 := fun j h => by rw [e, if_neg h]
  have c0' : (0 : Int32).toInt = 0 := rfl
  have m11 : (mB 1610).1 c0 11 = -1 := by
    rw [mB_r, if_neg (by omega), mA_r, if_neg (by omega), m0_r, if_pos (by omega)]
  have w0 : (0 : Int32).toNatClampNeg = 0 := rfl
  refine ⟨⟨?_, ?_⟩, ⟨?_, fun s hs => ?_, fun n hn => ?_⟩, ⟨?_, fun k hk => ?_⟩, ⟨?_, fun k hk => ?_⟩⟩
  · rw [s0 (by omega), z 4 (by omega)]
  · rw [m11, e 5, if_pos (by omega)]
  · rw [z 6 (by omega)]; decide
  · rw [z 6 (by omega), w0]
    exact ⟨s0 (by omega), s0 (by omega)⟩
  · rw [z 6 (by omega)] at hn; exfalso; omega
  · rw [z 7 (by omega)]; decide
  · rw [z 7 (by omega)] at hk; exfalso; omega
  · rw [z 8 (by omega)]; decide
  · rw [z 8 (by omega)] at hk; exfalso; omega
theorem xi_start : XI (mB 1610) := by
  have c0' : (0 : Int32).toInt = 0 := rfl
  have n1 : ∀ b j, (b = 255 ∨ b = 291) → (j = 5 ∨ j = 6) → (mB 1610).1 b j = -1 := fun b j h1 h2 => by
    rw [mB_r, if_neg (by omega), mA_r, if_neg (by omega), m0_r, if_pos (by omega)]
  refine ⟨XR_s (Or.inl rfl) s292, XR_s (Or.inr rfl) s293, ?_, ?_, ?_, fun j hj => ?_⟩
  · rw [s0 (by omega), s0 (by omega)]
  · rw [n1 255 5 (by omega) (by omega), n1 291 5 (by omega) (by omega)]
  · rw [n1 255 6 (by omega) (by omega), n1 291 6 (by omega) (by omega)]
  · rw [s0 (by omega)] at hj; exfalso; omega
theorem law_go {L : Nat} {xs : Nat → Int32} (hL : L ≤ 4096) : ∀ (fuel : Nat) (l3 : Int32) (m : xMem), InvW m → 0 ≤ l3.toInt → l3.toInt ≤ 8192 → 9000 - l3.toInt < (fuel : Int) → vOk (fun r : Int32 × xMem => r.1 = 1) (fL_18 L xs fuel l3 m) := by
  have hLi : (Int32.ofNat L).toInt = (L : Int) := Int32.toInt_ofNat_of_lt (by omega)
  have c8 : (8 : Int32).toInt = 8 := rfl
  intro fuel
  induction fuel with
  | zero =>
    intro l3 m hm h0 h1 hmu
    exfalso; omega
  | succ fuel ih =>
    intro l3 m hm h0 h1 hmu
    rw [fL_18]
    refine vAl rfl ?_
    refine vS (by omega) fun x2 e2 f2 => ?_
    refine vLt (fun _ => vOk_some rfl) (fun g => ?_)
    have hk : okI L l3 := ⟨h0, by omega, hL⟩
    obtain ⟨k1, k2, k3, k4, k5, k6, k7, k8⟩ := iK hk
    have fin : ∀ m, InvW m → vOk (fun r : Int32 × xMem => r.1 = 1) (fL_1390 L xs (fL_18 L xs fuel) l3 m) := by
      intro m hm
      unfold fL_1390
      refine vAl rfl ?_
      exact ih (l3 + 8) m hm (by omega) (by omega) (by omega)
    refine vIn (by omega) (by omega) fun _ => ?_
    refine vAny fun x4 => ?_
    refine vAny fun x6 => ?_
    refine vEq (fun _ => ?_) (fun _ => ?_)
    · refine vAl rfl ?_
      refine vIn (by omega) (by omega) fun _ => ?_
      refine vAl rfl ?_
      refine vOk_bind (hall_c (CI_IC hm.1.1) (b1 hm.1)) fun p hp => ?_
      refine vAl rfl ?_
      refine vIn (by omega) (by omega) fun _ => ?_
      refine vAl rfl ?_
      refine vOk_bind (hall_w hm hp) fun q hq => ?_
      exact fin _ hq.1
    refine vEq (fun _ => ?_) (fun _ => ?_)
    · refine vAl rfl ?_
      refine vIn (by omega) (by omega) fun _ => ?_
      refine vAl rfl ?_
      refine vAl rfl ?_
      refine vIn (by omega) (by omega) fun _ => ?_
      refine vAl rfl ?_
      refine vOk_bind (cw_bar hm) fun p hp => ?_
      refine vAl rfl ?_
      refine vIn (by omega) (by omega) fun _ => ?_
      refine vAl rfl ?_
      refine vAl rfl ?_
      refine vIn (by omega) (by omega) fun _ => ?_
      refine vAl rfl ?_
      refine vOk_bind (rw_bar hp) fun q hq => ?_
      exact fin _ hq
    refine vEq (fun _ => ?_) (fun _ => ?_)
    · refine vAl rfl ?_
      refine vIn (by omega) (by omega) fun _ => ?_
      refine vAl rfl ?_
      refine vAl rfl ?_
      refine vIn (by omega) (by omega) fun _ => ?_
      refine vAl rfl ?_
      refine vAl rfl ?_
      refine vIn (by omega) (by omega) fun _ => ?_
      refine vAl rfl ?_
      refine vAl rfl ?_
      refine vIn (by omega) (by omega) fun _ => ?_
      refine vAl rfl ?_
      refine vAl rfl ?_
      refine vIn (by omega) (by omega) fun _ => ?_
      refine vAl rfl ?_
      refine vOk_bind (link_c (CI_IC hm.1.1) (b1 hm.1) (b2 hm.1)) fun p hp => ?_
      refine vAl rfl ?_
      refine vIn (by omega) (by omega) fun _ => ?_
      refine vAl rfl ?_
      refine vAl rfl ?_
      refine vIn (by omega) (by omega) fun _ => ?_
      refine vAl rfl ?_
      refine vAl rfl ?_
      refine vIn (by omega) (by omega) fun _ => ?_
      refine vAl rfl ?_
      refine vAl rfl ?_
      refine vIn (by omega) (by omega) fun _ => ?_
      refine vAl rfl ?_
      refine vAl rfl ?_
      refine vIn (by omega) (by omega) fun _ => ?_
      refine vAl rfl ?_
      refine vOk_bind (link_w hm hp) fun q hq => ?_
      exact fin _ hq.1
    refine vEq (fun _ => ?_) (fun _ => ?_)
    · refine vAl rfl ?_
      refine vIn (by omega) (by omega) fun _ => ?_
      refine vAl rfl ?_
      refine vAl rfl ?_
      refine vIn (by omega) (by omega) fun _ => ?_
      refine vAl rfl ?_
      refine vOk_bind (cw_turn hm) fun p hp => ?_
      refine vAl rfl ?_
      refine vIn (by omega) (by omega) fun _ => ?_
      refine vAl rfl ?_
      refine vAl rfl ?_
      refine vIn (by omega) (by omega) fun _ => ?_
      refine vAl rfl ?_
      refine vOk_bind (rw_turn hp) fun q hq => ?_
      exact fin _ hq
    refine vEq (fun _ => ?_) (fun _ => ?_)
    · refine vAl rfl ?_
      refine vIn (by omega) (by omega) fun _ => ?_
      refine vAl rfl ?_
      refine vAl rfl ?_
      refine vIn (by omega) (by omega) fun _ => ?_
      refine vAl rfl ?_
      refine vOk_bind (cw_mode hm) fun p hp => ?_
      refine vAl rfl ?_
      refine vIn (by omega) (by omega) fun _ => ?_
      refine vAl rfl ?_
      refine vAl rfl ?_
      refine vIn (by omega) (by omega) fun _ => ?_
      refine vAl rfl ?_
      refine vOk_bind (rw_mode hp) fun q hq => ?_
      exact fin _ hq
    refine vEq (fun _ => ?_) (fun _ => ?_)
    · refine vAl rfl ?_
      refine vIn (by omega) (by omega) fun _ => ?_
      refine vAl rfl ?_
      refine vOk_bind (cw_reset hm) fun p hp => ?_
      refine vAl rfl ?_
      refine vIn (by omega) (by omega) fun _ => ?_
      refine vAl rfl ?_
      refine vOk_bind (rw_reset hp) fun q hq => ?_
      exact fin _ hq
    refine vEq (fun _ => ?_) (fun _ => ?_)
    · refine vAl rfl ?_
      refine vIn (by omega) (by omega) fun _ => ?_
      refine vAl rfl ?_
      refine vAl rfl ?_
      refine vIn (by omega) (by omega) fun _ => ?_
      refine vAl rfl ?_
      refine vAl rfl ?_
      refine vIn (by omega) (by omega) fun _ => ?_
      refine vAl rfl ?_
      refine vAl rfl ?_
      refine vIn (by omega) (by omega) fun _ => ?_
      refine vAl rfl ?_
      refine vAl rfl ?_
      refine vIn (by omega) (by omega) fun _ => ?_
      refine vAl rfl ?_
      refine vAl rfl ?_
      refine vIn (by omega) (by omega) fun _ => ?_
      refine vAl rfl ?_
      refine vEq (fun _ => ?_) (fun _ => ?_)
      · exact burst_go hk hm fin _
      · exact burst_go hk hm fin _
    refine vEq (fun _ => ?_) (fun _ => ?_)
    · refine vAl rfl ?_
      refine vIn (by omega) (by omega) fun _ => ?_
      refine vAl rfl ?_
      refine vAl rfl ?_
      refine vIn (by omega) (by omega) fun _ => ?_
      refine vAl rfl ?_
      refine vAl rfl ?_
      refine vIn (by omega) (by omega) fun _ => ?_
      refine vAl rfl ?_
      refine vAl rfl ?_
      refine vIn (by omega) (by omega) fun _ => ?_
      refine vAl rfl ?_
      refine vAl rfl ?_
      refine vIn (by omega) (by omega) fun _ => ?_
      refine vAl rfl ?_
      refine vOk_bind (ca_feed hm) fun p hp => ?_
      refine vAl rfl ?_
      refine vIn (by omega) (by omega) fun _ => ?_
      refine vAl rfl ?_
      refine vAl rfl ?_
      refine vIn (by omega) (by omega) fun _ => ?_
      refine vAl rfl ?_
      refine vAl rfl ?_
      refine vIn (by omega) (by omega) fun _ => ?_
      refine vAl rfl ?_
      refine vAl rfl ?_
      refine vIn (by omega) (by omega) fun _ => ?_
      refine vAl rfl ?_
      refine vAl rfl ?_
      refine vIn (by omega) (by omega) fun _ => ?_
      refine vAl rfl ?_
      refine vOk_bind (ra_feed hm hp) fun q hq => ?_
      exact fin _ hq.1
    refine vEq (fun _ => ?_) (fun _ => ?_)
    · refine vAl rfl ?_
      refine vIn (by omega) (by omega) fun _ => ?_
      refine vAl rfl ?_
      refine vOk_bind (ca_end hm) fun p hp => ?_
      refine vAl rfl ?_
      refine vIn (by omega) (by omega) fun _ => ?_
      refine vAl rfl ?_
      refine vOk_bind (ra_end hm hp) fun q hq => ?_
      exact fin _ hq.1
    refine vEq (fun _ => ?_) (fun _ => ?_)
    · refine vOk_bind (ca_text hm) fun p hp => ?_
      refine vOk_bind (ra_text hm hp) fun q hq => ?_
      rw [if_pos hq.2]
      exact fin _ hq.1
    refine vEq (fun _ => ?_) (fun _ => ?_)
    · refine vAl rfl ?_
      refine vIn (by omega) (by omega) fun _ => ?_
      refine vAl rfl ?_
      refine vOk_bind (ca_fault hm) fun p hp => ?_
      refine vAl rfl ?_
      refine vIn (by omega) (by omega) fun _ => ?_
      refine vAl rfl ?_
      refine vOk_bind (ra_fault hm hp) fun q hq => ?_
      exact fin _ hq.1
    refine vEq (fun _ => ?_) (fun _ => ?_)
    · refine vAl rfl ?_
      refine vIn (by omega) (by omega) fun _ => ?_
      refine vAl rfl ?_
      refine vOk_bind (ca_by hm) fun p hp => ?_
      refine vAl rfl ?_
      refine vIn (by omega) (by omega) fun _ => ?_
      refine vAl rfl ?_
      refine vOk_bind (ra_by hm hp) fun q hq => ?_
      exact fin _ hq.1
    refine vEq (fun _ => ?_) (fun _ => ?_)
    · refine vAl rfl ?_
      refine vIn (by omega) (by omega) fun _ => ?_
      refine vAl rfl ?_
      refine vOk_bind (run_c (CI_IC hm.1.1)) fun p hp => ?_
      refine vAl rfl ?_
      refine vIn (by omega) (by omega) fun _ => ?_
      refine vAl rfl ?_
      refine vOk_bind (run_w hm hp) fun q hq => ?_
      exact fin _ hq.1
    refine vEq (fun _ => ?_) (fun _ => ?_)
    · refine vAl rfl ?_
      refine vIn (by omega) (by omega) fun _ => ?_
      refine vAl rfl ?_
      refine vAl rfl ?_
      refine vIn (by omega) (by omega) fun _ => ?_
      refine vAl rfl ?_
      refine vOk_bind (cw_of hm) fun p hp => ?_
      refine vAl rfl ?_
      refine vIn (by omega) (by omega) fun _ => ?_
      refine vAl rfl ?_
      refine vAl rfl ?_
      refine vIn (by omega) (by omega) fun _ => ?_
      refine vAl rfl ?_
      refine vOk_bind (rw_of hp) fun q hq => ?_
      exact fin _ hq
    refine vEq (fun _ => ?_) (fun _ => ?_)
    · refine vAl rfl ?_
      refine vIn (by omega) (by omega) fun _ => ?_
      refine vAl rfl ?_
      refine vAl rfl ?_
      refine vIn (by omega) (by omega) fun _ => ?_
      refine vAl rfl ?_
      refine vOk_bind (cw_on hm) fun p hp => ?_
      refine vAl rfl ?_
      refine vIn (by omega) (by omega) fun _ => ?_
      refine vAl rfl ?_
      refine vAl rfl ?_
      refine vIn (by omega) (by omega) fun _ => ?_
      refine vAl rfl ?_
      refine vOk_bind (rw_on hp) fun q hq => ?_
      exact fin _ hq
    refine vEq (fun _ => ?_) (fun _ => ?_)
    · refine vAl rfl ?_
      refine vIn (by omega) (by omega) fun _ => ?_
      refine vAl rfl ?_
      refine vAl rfl ?_
      refine vIn (by omega) (by omega) fun _ => ?_
      refine vAl rfl ?_
      refine vAl rfl ?_
      refine vIn (by omega) (by omega) fun _ => ?_
      refine vAl rfl ?_
      refine vOk_bind (cw_step hm) fun p hp => ?_
      refine vAl rfl ?_
      refine vIn (by omega) (by omega) fun _ => ?_
      refine vAl rfl ?_
      refine vAl rfl ?_
      refine vIn (by omega) (by omega) fun _ => ?_
      refine vAl rfl ?_
      refine vAl rfl ?_
      refine vIn (by omega) (by omega) fun _ => ?_
      refine vAl rfl ?_
      refine vOk_bind (rw_step hp) fun q hq => ?_
      exact fin _ hq
    refine vEq (fun _ => ?_) (fun _ => ?_)
    · refine vAl rfl ?_
      refine vIn (by omega) (by omega) fun _ => ?_
      refine vAl rfl ?_
      refine vAl rfl ?_
      refine vIn (by omega) (by omega) fun _ => ?_
      refine vAl rfl ?_
      refine vAl rfl ?_
      refine vIn (by omega) (by omega) fun _ => ?_
      refine vAl rfl ?_
      refine vEq (fun _ => ?_) (fun _ => ?_)
      · exact route_go hk hm fin _
      · exact route_go hk hm fin _
    refine vEq (fun _ => ?_) (fun _ => ?_)
    · refine vAl rfl ?_
      refine vIn (by omega) (by omega) fun _ => ?_
      refine vAl rfl ?_
      refine vOk_bind (cw_all hm) fun p hp => ?_
      refine vAl rfl ?_
      refine vIn (by omega) (by omega) fun _ => ?_
      refine vAl rfl ?_
      refine vOk_bind (rw_all hp) fun q hq => ?_
      exact fin _ hq
    refine vEq (fun _ => ?_) (fun _ => ?_)
    · refine vAl rfl ?_
      refine vIn (by omega) (by omega) fun _ => ?_
      refine vAl rfl ?_
      refine vAl rfl ?_
      refine vIn (by omega) (by omega) fun _ => ?_
      refine vAl rfl ?_
      refine vAl rfl ?_
      refine vIn (by omega) (by omega) fun _ => ?_
      refine vAl rfl ?_
      refine vOk_bind (cw_ways hm) fun p hp => ?_
      refine vAl rfl ?_
      refine vIn (by omega) (by omega) fun _ => ?_
      refine vAl rfl ?_
      refine vAl rfl ?_
      refine vIn (by omega) (by omega) fun _ => ?_
      refine vAl rfl ?_
      refine vAl rfl ?_
      refine vIn (by omega) (by omega) fun _ => ?_
      refine vAl rfl ?_
      refine vOk_bind (rw_ways hp) fun q hq => ?_
      exact fin _ hq
    refine vEq (fun _ => ?_) (fun _ => ?_)
    · refine vAl rfl ?_
      refine vIn (by omega) (by omega) fun _ => ?_
      refine vAl rfl ?_
      refine vAl rfl ?_
      refine vIn (by omega) (by omega) fun _ => ?_
      refine vAl rfl ?_
      refine vAl rfl ?_
      refine vIn (by omega) (by omega) fun _ => ?_
      refine vAl rfl ?_
      refine vOk_bind (cw_least hm) fun p hp => ?_
      refine vAl rfl ?_
      refine vIn (by omega) (by omega) fun _ => ?_
      refine vAl rfl ?_
      refine vAl rfl ?_
      refine vIn (by omega) (by omega) fun _ => ?_
      refine vAl rfl ?_
      refine vAl rfl ?_
      refine vIn (by omega) (by omega) fun _ => ?_
      refine vAl rfl ?_
      refine vOk_bind (rw_least hp) fun q hq => ?_
      exact fin _ hq
    refine vEq (fun _ => ?_) (fun _ => ?_)
    · refine vAl rfl ?_
      refine vIn (by omega) (by omega) fun _ => ?_
      refine vAl rfl ?_
      refine vAl rfl ?_
      refine vIn (by omega) (by omega) fun _ => ?_
      refine vAl rfl ?_
      refine vOk_bind (cw_felt hm) fun p hp => ?_
      refine vAl rfl ?_
      refine vIn (by omega) (by omega) fun _ => ?_
      refine vAl rfl ?_
      refine vAl rfl ?_
      refine vIn (by omega) (by omega) fun _ => ?_
      refine vAl rfl ?_
      refine vOk_bind (rw_felt hp) fun q hq => ?_
      exact fin _ hq
    refine vEq (fun _ => ?_) (fun _ => ?_)
    · refine vAl rfl ?_
      refine vIn (by omega) (by omega) fun _ => ?_
      refine vAl rfl ?_
      refine vAl rfl ?_
      refine vIn (by omega) (by omega) fun _ => ?_
      refine vAl rfl ?_
      refine vOk_bind (cw_standing hm) fun p hp => ?_
      refine vAl rfl ?_
      refine vIn (by omega) (by omega) fun _ => ?_
      refine vAl rfl ?_
      refine vAl rfl ?_
      refine vIn (by omega) (by omega) fun _ => ?_
      refine vAl rfl ?_
      refine vOk_bind (rw_standing hp) fun q hq => ?_
      exact fin _ hq
    refine vEq (fun _ => ?_) (fun _ => ?_)
    · refine vAl rfl ?_
      refine vIn (by omega) (by omega) fun _ => ?_
      refine vAl rfl ?_
      refine vAl rfl ?_
      refine vIn (by omega) (by omega) fun _ => ?_
      refine vAl rfl ?_
      refine vAl rfl ?_
      refine vIn (by omega) (by omega) fun _ => ?_
      refine vAl rfl ?_
      refine vAl rfl ?_
      refine vIn (by omega) (by omega) fun _ => ?_
      refine vAl rfl ?_
      refine vOk_bind (cw_alone hm) fun p hp => ?_
      refine vAl rfl ?_
      refine vIn (by omega) (by omega) fun _ => ?_
      refine vAl rfl ?_
      refine vAl rfl ?_
      refine vIn (by omega) (by omega) fun _ => ?_
      refine vAl rfl ?_
      refine vAl rfl ?_
      refine vIn (by omega) (by omega) fun _ => ?_
      refine vAl rfl ?_
      refine vAl rfl ?_
      refine vIn (by omega) (by omega) fun _ => ?_
      refine vAl rfl ?_
      refine vOk_bind (rw_alone hp) fun q hq => ?_
      exact fin _ hq
    refine vEq (fun _ => ?_) (fun _ => ?_)
    · refine vAl rfl ?_
      refine vIn (by omega) (by omega) fun _ => ?_
      refine vAl rfl ?_
      refine vAl rfl ?_
      refine vIn (by omega) (by omega) fun _ => ?_
      refine vAl rfl ?_
      refine vOk_bind (cw_crossing hm) fun p hp => ?_
      refine vAl rfl ?_
      refine vIn (by omega) (by omega) fun _ => ?_
      refine vAl rfl ?_
      refine vAl rfl ?_
      refine vIn (by omega) (by omega) fun _ => ?_
      refine vAl rfl ?_
      refine vOk_bind (rw_crossing hp) fun q hq => ?_
      exact fin _ hq
    refine vEq (fun _ => ?_) (fun _ => ?_)
    · refine vAl rfl ?_
      refine vIn (by omega) (by omega) fun _ => ?_
      refine vAl rfl ?_
      refine vEq (fun g => ?_) (fun g => ?_)
      · exact day_go hk hm fin _ ⟨fun _ => g, fun _ => rfl⟩
      · exact day_go hk hm fin _ ⟨fun w => absurd w (by decide), fun w => absurd w g⟩
    refine vEq (fun _ => ?_) (fun _ => ?_)
    · refine vOk_bind (cw_effect hm) fun p hp => ?_
      refine vOk_bind (rw_effect hp) fun q hq => ?_
      exact fin _ hq
    refine vEq (fun _ => ?_) (fun _ => ?_)
    · refine vAl rfl ?_
      refine vIn (by omega) (by omega) fun _ => ?_
      refine vAl rfl ?_
      refine vAl rfl ?_
      refine vIn (by omega) (by omega) fun _ => ?_
      refine vAl rfl ?_
      refine vAl rfl ?_
      refine vIn (by omega) (by omega) fun _ => ?_
      refine vAl rfl ?_
      refine vAl rfl ?_
      refine vIn (by omega) (by omega) fun _ => ?_
      refine vAl rfl ?_
      refine vOk_bind (mend_c (CI_IC hm.1.1) (b7 hm.1)) fun p hp => ?_
      refine vAl rfl ?_
      refine vIn (by omega) (by omega) fun _ => ?_
      refine vAl rfl ?_
      refine vAl rfl ?_
      refine vIn (by omega) (by omega) fun _ => ?_
      refine vAl rfl ?_
      refine vAl rfl ?_
      refine vIn (by omega) (by omega) fun _ => ?_
      refine vAl rfl ?_
      refine vAl rfl ?_
      refine vIn (by omega) (by omega) fun _ => ?_
      refine vAl rfl ?_
      refine vOk_bind (mend_w hm hp) fun q hq => ?_
      exact fin _ hq.1
    refine vEq (fun _ => ?_) (fun _ => ?_)
    · refine vAl rfl ?_
      refine vIn (by omega) (by omega) fun _ => ?_
      refine vAl rfl ?_
      refine vOk_bind (cw_order hm) fun p hp => ?_
      refine vAl rfl ?_
      refine vIn (by omega) (by omega) fun _ => ?_
      refine vAl rfl ?_
      refine vOk_bind (rw_order hp) fun q hq => ?_
      exact fin _ hq
    refine vEq (fun _ => ?_) (fun _ => ?_)
    · refine vAl rfl ?_
      refine vIn (by omega) (by omega) fun _ => ?_
      refine vAl rfl ?_
      refine vOk_bind (load_c (CI_IC hm.1.1) (b8 hm.1)) fun p hp => ?_
      refine vAl rfl ?_
      refine vIn (by omega) (by omega) fun _ => ?_
      refine vAl rfl ?_
      refine vOk_bind (load_w hm hp) fun q hq => ?_
      exact fin _ hq.1
    refine vEq (fun _ => ?_) (fun _ => ?_)
    · refine vOk_bind (unload_c (CI_IC hm.1.1)) fun p hp => ?_
      refine vOk_bind (unload_w hm hp) fun q hq => ?_
      exact fin _ hq.1
    refine vEq (fun _ => ?_) (fun _ => ?_)
    · refine vAl rfl ?_
      refine vIn (by omega) (by omega) fun _ => ?_
      refine vAl rfl ?_
      refine vAl rfl ?_
      refine vIn (by omega) (by omega) fun _ => ?_
      refine vAl rfl ?_
      refine vEq (fun _ => ?_) (fun _ => ?_)
      · exact taken_go hk hm fin _
      · exact taken_go hk hm fin _
    refine vEq (fun _ => ?_) (fun _ => ?_)
    · refine vOk_bind (image_c (CI_IC hm.1.1)) fun p hp => ?_
      refine vOk_bind (image_w hm hp) fun q hq => ?_
      exact fin _ hq.1
    refine vEq (fun _ => ?_) (fun _ => ?_)
    · refine vOk_bind (back_c (CI_IC hm.1.1)) fun p hp => ?_
      refine vOk_bind (back_w hm hp) fun q hq => ?_
      exact fin _ hq.1
    refine vEq (fun _ => ?_) (fun _ => ?_)
    · refine vAl rfl ?_
      refine vIn (by omega) (by omega) fun _ => ?_
      refine vAl rfl ?_
      refine vOk_bind (ca_about hm) fun p hp => ?_
      refine vAl rfl ?_
      refine vIn (by omega) (by omega) fun _ => ?_
      refine vAl rfl ?_
      refine vOk_bind (ra_about hm hp) fun q hq => ?_
      exact fin _ hq.1
    exact fin m hm
theorem whole_p {L : Nat} {xs : Nat → Int32} (hL : L ≤ 4096) : ∃ m9, fL_18 L xs xFuel 0 (mB 1610) = some (1, m9) := by
  have cF := xFu
  have c0 : (0 : Int32).toInt = 0 := rfl
  obtain ⟨⟨z, m9⟩, e, hz⟩ := law_go (xs := xs) hL xFuel 0 (mB 1610) ⟨inv_start, xi_start⟩ (by decide) (by decide) (by omega)
  have hz : z = 1 := hz
  subst hz
  exact ⟨m9, e⟩
