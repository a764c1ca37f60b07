/-! the reference: links; the rows of 1610 that are copied -/
def LK (R S : xMem) (a1 : Int32) : Prop := S.2 = R.2 ∧ (∀ b j, ¬ (b = 292 ∧ (j = 2 ∨ (210 + 14 * (R.1 292 2).toNatClampNeg ≤ j ∧ j < 224 + 14 * (R.1 292 2).toNatClampNeg))) → S.1 b j = R.1 b j) ∧ S.1 292 2 = R.1 292 2 + 1 ∧ S.1 292 (210 + 14 * (R.1 292 2).toNatClampNeg) = a1
def RowC (c : Nat) (R S : xMem) : Prop := S.2 = R.2 ∧ ∀ b j, ¬ (b = 292 ∧ 210 + 14 * c ≤ j ∧ j < 224 + 14 * c) → S.1 b j = R.1 b j
theorem tells_cfg {S m : xMem} {a1 k v : Int32} {j : Nat} (hI : IR S m) (h1 : 0 ≤ a1.toInt ∧ a1.toInt ≤ 9) (h2 : 0 ≤ k.toInt ∧ k.toInt ≤ 13) (hj : (j : Int) = 210 + 14 * a1.toInt + k.toInt) : vOk (IR (xPut S 292 j v)) (fX12_tells 291 a1 k v m) := by
  have c14 : (14 : Int32).toInt = 14 := rfl
  have c210 : (210 : Int32).toInt = 210 := rfl
  unfold fX12_tells fX12_tells_0
  refine vM (v := 14 * a1.toInt) (by rw [c14]) (by omega) fun x1 e1 f1 => ?_
  refine vA (by omega) fun x2 e2 f2 => ?_
  refine vA (by omega) fun x3 e3 f3 => ?_
  have w3 : x3.toNatClampNeg = x3.toInt.toNat := rfl
  refine vIn (by omega) (by omega) fun _ => ?_
  refine vR fun m4 e4 => ?_
  rw [show x3.toNatClampNeg = j by omega] at e4
  have h4 : IR (xPut S 292 j v) m4 := by rw [e4]; exact IR_cfg hI (by omega)
  exact vOk_some h4
theorem tells_mov {S m : xMem} {a1 k v : Int32} (hI : IR S m) (h1 : 0 ≤ a1.toInt ∧ a1.toInt ≤ 9) (h2 : 5 ≤ k.toInt ∧ k.toInt ≤ 13) : vOk (IR S) (fX12_tells 291 a1 k v m) := by
  have c14 : (14 : Int32).toInt = 14 := rfl
  have c210 : (210 : Int32).toInt = 210 := rfl
  unfold fX12_tells fX12_tells_0
  refine vM (v := 14 * a1.toInt) (by rw [c14]) (by omega) fun x1 e1 f1 => ?_
  refine vA (by omega) fun x2 e2 f2 => ?_
  refine vA (by omega) fun x3 e3 f3 => ?_
  refine vIn (by omega) (by omega) fun _ => ?_
  refine vR fun m4 e4 => ?_
  have h4 : IR S m4 := by rw [e4]; exact IR_a hI (by omega)
  exact vOk_some h4
theorem k292_2 {R m : xMem} (h : IR R m) : R.1 292 2 = m.1 (291 + 1) (2 : Int32).toNatClampNeg := (kA h (j := 2) (by omega)).symm
def lkR (S : xMem) (c : Nat) (a1 a2 a3 a4 cy : Int32) : xMem := xPut (xPut (xPut (xPut (xPut S 292 (210 + 14 * c) a1) 292 (211 + 14 * c) a2) 292 (212 + 14 * c) a3) 292 (213 + 14 * c) a4) 292 (214 + 14 * c) cy
theorem GR_lk {R S0 : xMem} {c : Nat} {a1 a2 a3 a4 cy : Int32} (hG : GR R) (hS : RowC c R S0) (hc : c = (R.1 292 2).toNatClampNeg) (hlt : (R.1 292 2).toInt < 10) (h1 : bw 0 2 a1) (h2 : bw 0 5 a2) (h3 : bw 0 5 a3) (h4 : bw 0 40 a4) (h5 : bw 0 99 cy) (h6 : a1.toInt = 2 → 1 ≤ cy.toInt) : GR (xPut (lkR S0 c a1 a2 a3 a4 cy) 292 2 (R.1 292 2 + 1)) ∧ LK R (xPut (lkR S0 c a1 a2 a3 a4 cy) 292 2 (R.1 292 2 + 1)) a1 := by
  have c1 : (1 : Int32).toInt = 1 := rfl
  have hb := hG.1.1.2.1
  have wc : (R.1 292 2).toNatClampNeg = (R.1 292 2).toInt.toNat := rfl
  have fr : ∀ b j, ¬ (b = 292 ∧ (j = 2 ∨ (210 + 14 * c ≤ j ∧ j < 224 + 14 * c))) → (xPut (lkR S0 c a1 a2 a3 a4 cy) 292 2 (R.1 292 2 + 1)).1 b j = R.1 b j := by
    intro b j q
    rw [← hS.2 b j (fun w => q ⟨w.1, Or.inr w.2⟩)]
    unfold lkR
    by_cases hb : b = 292
    · subst hb
      rw [← xP_sl (by omega), ← xP_sl (by omega), ← xP_sl (by omega), ← xP_sl (by omega), ← xP_sl (by omega), ← xP_sl (by omega)]
    · rw [← xP_pl hb, ← xP_pl hb, ← xP_pl hb, ← xP_pl hb, ← xP_pl hb, ← xP_pl hb]
  have e2 : (xPut (lkR S0 c a1 a2 a3 a4 cy) 292 2 (R.1 292 2 + 1)).1 292 2 = R.1 292 2 + 1 := xP_eq.symm
  have t2 : (R.1 292 2 + 1).toInt = (R.1 292 2).toInt + 1 := by rw [Int32.toInt_add]; exact Int.bmod_eq_of_le (by omega) (by omega)
  have z0 : (xPut (lkR S0 c a1 a2 a3 a4 cy) 292 2 (R.1 292 2 + 1)).1 292 (210 + 14 * c) = a1 := by
    unfold lkR
    rw [← xP_sl (by omega), ← xP_sl (by omega), ← xP_sl (by omega), ← xP_sl (by omega), ← xP_sl (by omega)]
    exact xP_eq.symm
  have z1 : (xPut (lkR S0 c a1 a2 a3 a4 cy) 292 2 (R.1 292 2 + 1)).1 292 (211 + 14 * c) = a2 := by
    unfold lkR
    rw [← xP_sl (by omega), ← xP_sl (by omega), ← xP_sl (by omega), ← xP_sl (by omega)]
    exact xP_eq.symm
  have z2 : (xPut (lkR S0 c a1 a2 a3 a4 cy) 292 2 (R.1 292 2 + 1)).1 292 (212 + 14 * c) = a3 := by
    unfold lkR
    rw [← xP_sl (by omega), ← xP_sl (by omega), ← xP_sl (by omega)]
    exact xP_eq.symm
  have z3 : (xPut (lkR S0 c a1 a2 a3 a4 cy) 292 2 (R.1 292 2 + 1)).1 292 (213 + 14 * c) = a4 := by
    unfold lkR
    rw [← xP_sl (by omega), ← xP_sl (by omega)]
    exact xP_eq.symm
  have z4 : (xPut (lkR S0 c a1 a2 a3 a4 cy) 292 2 (R.1 292 2 + 1)).1 292 (214 + 14 * c) = cy := by
    unfold lkR
    rw [← xP_sl (by omega)]
    exact xP_eq.symm
  have fr2 : ∀ j, ¬ (j = 2 ∨ (210 + 14 * c ≤ j ∧ j < 224 + 14 * c)) → (xPut (lkR S0 c a1 a2 a3 a4 cy) 292 2 (R.1 292 2 + 1)).1 292 j = R.1 292 j := fun j q => fr 292 j (fun w => q w.2)
  refine ⟨GR_ofA hG ⟨?_, fun l hl => ?_, fun l hl hk => ?_, GA_bur hG.1 fun j _ _ => fr2 j (by omega), GA_stp hG.1 fun j _ _ => fr2 j (by omega), GA_lds hG.1 fun j _ _ => fr2 j (by omega)⟩ (fun b hb j => fr b j (by omega)), hS.1, fun b j q => fr b j (by rw [hc]; exact q), e2, by rw [← hc]; exact z0⟩
  · obtain ⟨x1, x2, x3, x4, x5, x6, x7, x8⟩ := hG.1.1
    rw [e2, fr2 1 (by omega), fr2 3 (by omega), fr2 4 (by omega), fr2 5 (by omega), fr2 6 (by omega), fr2 7 (by omega), fr2 8 (by omega)]
    exact ⟨x1, ⟨by omega, by omega⟩, x3, x4, x5, x6, x7, x8⟩
  · by_cases q : l = c
    · rw [q, z0, z1, z2, z3, z4]
      exact ⟨h1, h2, h3, h4, h5⟩
    · rw [fr2 (210 + 14 * l) (by omega), fr2 (211 + 14 * l) (by omega), fr2 (212 + 14 * l) (by omega), fr2 (213 + 14 * l) (by omega), fr2 (214 + 14 * l) (by omega)]
      exact hG.1.2.1 l hl
  · rw [e2] at hl
    by_cases q : l = c
    · rw [q, z0] at hk
      rw [q, z4]
      exact h6 hk
    · rw [fr2 (210 + 14 * l) (by omega)] at hk
      rw [fr2 (214 + 14 * l) (by omega)]
      exact hG.1.2.2.1 l (by omega) hk
section
variable {R : xMem} {a1 a2 a3 a4 a5 : Int32}
theorem link254_r {S0 m : xMem} {cy : Int32} (hG : GR R) (hS : RowC (R.1 292 2).toNatClampNeg R S0) (hlt : (R.1 292 2).toInt < 10) (ok : okLk (R.1 292 1) a1 a2 a3 a4 a5) (hcy : cy = if a1.toInt = 2 then a5 else 0) (hI : IR (lkR S0 (R.1 292 2).toNatClampNeg a1 a2 a3 a4 cy) m) : vOk (fun p : Int32 × xMem => ((okLk (R.1 292 1) a1 a2 a3 a4 a5 ∧ (R.1 292 2).toInt < 10) ∧ p.1 = R.1 292 2 ∧ ∃ S, GR S ∧ LK R S a1 ∧ IR S p.2) ∨ (¬ (okLk (R.1 292 1) a1 a2 a3 a4 a5 ∧ (R.1 292 2).toInt < 10) ∧ p.1 = -1 ∧ IR R p.2)) (fX12_link_254 291 a1 a2 a3 a4 a5 (R.1 292 2) m) := by
  have c0 : (0 : Int32).toInt = 0 := rfl
  have c2 : (2 : Int32).toInt = 2 := rfl
  have hb := hG.1.1.2.1
  have hb1 := hG.1.1.1
  have wc : (R.1 292 2).toNatClampNeg = (R.1 292 2).toInt.toNat := rfl
  have k2 : R.1 292 2 = m.1 (291 + 1) (2 : Int32).toNatClampNeg := by
    refine Eq.trans ?_ (k292_2 hI)
    unfold lkR
    rw [← xP_sl (by omega), ← xP_sl (by omega), ← xP_sl (by omega), ← xP_sl (by omega), ← xP_sl (by omega), hS.2 _ _ (by omega)]
  obtain ⟨⟨o1, o2, o3, o4⟩, o5, o6⟩ := id ok
  have bc : bw 0 99 cy ∧ (a1.toInt = 2 → 1 ≤ cy.toInt) := by
    by_cases q : a1.toInt = 2
    · have := o5 q
      rw [if_pos q] at hcy
      subst hcy
      exact ⟨⟨by omega, by omega⟩, fun _ => by omega⟩
    · rw [if_neg q] at hcy
      subst hcy
      exact ⟨⟨by omega, by omega⟩, fun w => absurd w q⟩
  have b4 : bw 0 40 a4 := by
    by_cases q : a1.toInt = 2
    · have := o5 q
      exact ⟨by omega, by omega⟩
    · have := o6 q
      exact ⟨by omega, by omega⟩
  have g := GR_lk (R := R) (S0 := S0) (a1 := a1) (a2 := a2) (a3 := a3) (a4 := a4) (cy := cy) hG hS rfl hlt ⟨by omega, by omega⟩ ⟨by omega, by omega⟩ ⟨by omega, by omega⟩ b4 bc.1 bc.2
  unfold fX12_link_254
  refine vIn (by omega) (by omega) fun _ => ?_
  refine vAl k2 ?_
  refine vAl (x := R.1 292 2 + 1) rfl ?_
  refine vIn (by omega) (by omega) fun _ => ?_
  refine vR fun n6 e6 => ?_
  have i6 : IR (xPut (lkR S0 (R.1 292 2).toNatClampNeg a1 a2 a3 a4 cy) 292 2 (R.1 292 2 + 1)) n6 := by rw [e6]; exact IR_cfg hI (by omega)
  exact vOk_some (Or.inl ⟨⟨ok, hlt⟩, rfl, _, g.1, g.2, i6⟩)
theorem link220_r {S0 m : xMem} {cy : Int32} (hG : GR R) (hS : RowC (R.1 292 2).toNatClampNeg R S0) (hlt : (R.1 292 2).toInt < 10) (ok : okLk (R.1 292 1) a1 a2 a3 a4 a5) (hcy : cy = if a1.toInt = 2 then a5 else 0) (hI : IR (xPut (xPut (xPut (xPut S0 292 (210 + 14 * (R.1 292 2).toNatClampNeg) a1) 292 (211 + 14 * (R.1 292 2).toNatClampNeg) a2) 292 (212 + 14 * (R.1 292 2).toNatClampNeg) a3) 292 (213 + 14 * (R.1 292 2).toNatClampNeg) a4) m) : vOk (fun p : Int32 × xMem => ((okLk (R.1 292 1) a1 a2 a3 a4 a5 ∧ (R.1 292 2).toInt < 10) ∧ p.1 = R.1 292 2 ∧ ∃ S, GR S ∧ LK R S a1 ∧ IR S p.2) ∨ (¬ (okLk (R.1 292 1) a1 a2 a3 a4 a5 ∧ (R.1 292 2).toInt < 10) ∧ p.1 = -1 ∧ IR R p.2)) (fX12_link_220 291 a1 a2 a3 a4 a5 (R.1 292 2) 291 (R.1 292 2) (4 : Int32) cy m) := by
  have c1 : (1 : Int32).toInt = 1 := rfl
  have c2 : (2 : Int32).toInt = 2 := rfl
  have c4 : (4 : Int32).toInt = 4 := rfl
  have c5 : (5 : Int32).toInt = 5 := rfl
  have c6 : (6 : Int32).toInt = 6 := rfl
  have c7 : (7 : Int32).toInt = 7 := rfl
  have hb := hG.1.1.2.1
  have wc : (R.1 292 2).toNatClampNeg = (R.1 292 2).toInt.toNat := rfl
  unfold fX12_link_220
  refine vOk_bind (tells_cfg (j := 214 + 14 * (R.1 292 2).toNatClampNeg) hI (by omega) (by omega) (by omega)) fun m1 h1 => ?_
  refine vOk_bind (tells_mov h1 (by omega) (by omega)) fun m2 h2 => ?_
  refine vLe (fun _ => ?_) (fun _ => ?_)
  · exact link254_r hG hS hlt ok hcy h2
  · refine vOk_bind (tells_mov h2 (by omega) (by omega)) fun m3 h3 => ?_
    refine vOk_bind (tells_mov h3 (by omega) (by omega)) fun m4 h4 => ?_
    exact link254_r hG hS hlt ok hcy h4
theorem link141_r {S0 : xMem} (hG : GR R) (hS : RowC (R.1 292 2).toNatClampNeg R S0) (hlt : (R.1 292 2).toInt < 10) (ok : okLk (R.1 292 1) a1 a2 a3 a4 a5) : ∀ (fuel : Nat), ∀ (l9 : Int32) (m : xMem), (0 ≤ l9.toInt ∧ l9.toInt ≤ 80) → IR S0 m → 2147483648 - l9.toInt < (fuel : Int) → vOk (fun p : Int32 × xMem => ((okLk (R.1 292 1) a1 a2 a3 a4 a5 ∧ (R.1 292 2).toInt < 10) ∧ p.1 = R.1 292 2 ∧ ∃ S, GR S ∧ LK R S a1 ∧ IR S p.2) ∨ (¬ (okLk (R.1 292 1) a1 a2 a3 a4 a5 ∧ (R.1 292 2).toInt < 10) ∧ p.1 = -1 ∧ IR R p.2)) (fX12_link_141 291 a1 a2 a3 a4 a5 fuel (R.1 292 2) l9 m) := by
  have cm : (-1 : Int32).toInt = -1 := rfl
  have c0 : (0 : Int32).toInt = 0 := rfl
  have c1 : (1 : Int32).toInt = 1 := rfl
  have c2 : (2 : Int32).toInt = 2 := rfl
  have c3 : (3 : Int32).toInt = 3 := rfl
  have c80 : (80 : Int32).toInt = 80 := rfl
  have c580 : (580 : Int32).toInt = 580 := rfl
  have hb := hG.1.1.2.1
  have wc : (R.1 292 2).toNatClampNeg = (R.1 292 2).toInt.toNat := rfl
  intro fuel
  induction fuel with
  | zero =>
    intro l9 m hp hI hmu
    exfalso; omega
  | succ fuel ih =>
    intro l9 m hp hI hmu
    rw [fX12_link_141]
    refine vLe (fun _ => ?_) (fun g => ?_)
    · refine vOk_bind (tells_cfg (j := 210 + 14 * (R.1 292 2).toNatClampNeg) hI (by omega) (by omega) (by omega)) fun m1 h1 => ?_
      refine vOk_bind (tells_cfg (j := 211 + 14 * (R.1 292 2).toNatClampNeg) h1 (by omega) (by omega) (by omega)) fun m2 h2 => ?_
      refine vOk_bind (tells_cfg (j := 212 + 14 * (R.1 292 2).toNatClampNeg) h2 (by omega) (by omega) (by omega)) fun m3 h3 => ?_
      refine vOk_bind (tells_cfg (j := 213 + 14 * (R.1 292 2).toNatClampNeg) h3 (by omega) (by omega) (by omega)) fun m4 h4 => ?_
      refine vNe (fun q => ?_) (fun q => ?_)
      · exact link220_r hG hS hlt ok (by rw [if_neg (by omega)]) h4
      · exact link220_r hG hS hlt ok (by rw [if_pos (by omega)]) h4
    · refine vM (v := 80 * (R.1 292 2).toInt) (by rw [c80]) (by omega) fun x1 e1 f1 => ?_
      refine vA (by omega) fun x2 e2 f2 => ?_
      refine vA (by omega) fun x3 e3 f3 => ?_
      refine vIn (by omega) (by omega) fun _ => ?_
      refine vR fun n4 e4 => ?_
      have i4 : IR S0 n4 := by rw [e4]; exact IR_s hI (by omega) (by omega)
      refine vA (by omega) fun x5 e5 f5 => ?_
      exact ih _ _ (by omega) i4 (by omega)
theorem link116_r (hG : GR R) (hlt : (R.1 292 2).toInt < 10) (ok : okLk (R.1 292 1) a1 a2 a3 a4 a5) : ∀ (fuel : Nat), ∀ (l9 : Int32) (S0 m : xMem), (0 ≤ l9.toInt ∧ l9.toInt ≤ 14) → RowC (R.1 292 2).toNatClampNeg R S0 → IR S0 m → 2147483648 - l9.toInt < (fuel : Int) → vOk (fun p : Int32 × xMem => ((okLk (R.1 292 1) a1 a2 a3 a4 a5 ∧ (R.1 292 2).toInt < 10) ∧ p.1 = R.1 292 2 ∧ ∃ S, GR S ∧ LK R S a1 ∧ IR S p.2) ∨ (¬ (okLk (R.1 292 1) a1 a2 a3 a4 a5 ∧ (R.1 292 2).toInt < 10) ∧ p.1 = -1 ∧ IR R p.2)) (fX12_link_116 291 a1 a2 a3 a4 a5 fuel (R.1 292 2) l9 m) := by
  have c0 : (0 : Int32).toInt = 0 := rfl
  have c1 : (1 : Int32).toInt = 1 := rfl
  have c14 : (14 : Int32).toInt = 14 := rfl
  have hb := hG.1.1.2.1
  have wc : (R.1 292 2).toNatClampNeg = (R.1 292 2).toInt.toNat := rfl
  intro fuel
  induction fuel with
  | zero =>
    intro l9 S0 m hp hS hI hmu
    exfalso; omega
  | succ fuel ih =>
    intro l9 S0 m hp hS hI hmu
    have w9 : l9.toNatClampNeg = l9.toInt.toNat := rfl
    rw [fX12_link_116]
    refine vLe (fun _ => ?_) (fun g => ?_)
    · have cF := xFu
      exact link141_r hG hS hlt ok _ _ _ (by omega) hI (by omega)
    · refine vOk_bind (tells_cfg (j := 210 + 14 * (R.1 292 2).toNatClampNeg + l9.toNatClampNeg) hI (by omega) (by omega) (by omega)) fun m1 h1 => ?_
      refine vA (by omega) fun x5 e5 f5 => ?_
      refine ih _ (xPut S0 292 (210 + 14 * (R.1 292 2).toNatClampNeg + l9.toNatClampNeg) 0) _ (by omega) ⟨hS.1, fun b j q => ?_⟩ h1 (by omega)
      rw [← hS.2 b j q]
      show (if b = 292 ∧ j = 210 + 14 * (R.1 292 2).toNatClampNeg + l9.toNatClampNeg then _ else S0.1 b j) = _
      rw [if_neg (by omega)]
theorem link_r {m : xMem} (hG : GR R) (hI : IR R m) : vOk (fun p : Int32 × xMem => ((okLk (R.1 292 1) a1 a2 a3 a4 a5 ∧ (R.1 292 2).toInt < 10) ∧ p.1 = R.1 292 2 ∧ ∃ S, GR S ∧ LK R S a1 ∧ IR S p.2) ∨ (¬ (okLk (R.1 292 1) a1 a2 a3 a4 a5 ∧ (R.1 292 2).toInt < 10) ∧ p.1 = -1 ∧ IR R p.2)) (fX12_link 291 a1 a2 a3 a4 a5 m) := by
  have c0 : (0 : Int32).toInt = 0 := rfl
  have c1 : (1 : Int32).toInt = 1 := rfl
  have c2 : (2 : Int32).toInt = 2 := rfl
  have c10 : (10 : Int32).toInt = 10 := rfl
  have c20 : (20 : Int32).toInt = 20 := rfl
  have c40 : (40 : Int32).toInt = 40 := rfl
  have c99 : (99 : Int32).toInt = 99 := rfl
  have hb := hG.1.1.2.1
  have bad : ¬ (okLk (R.1 292 1) a1 a2 a3 a4 a5 ∧ (R.1 292 2).toInt < 10) → vOk (fun p : Int32 × xMem => ((okLk (R.1 292 1) a1 a2 a3 a4 a5 ∧ (R.1 292 2).toInt < 10) ∧ p.1 = R.1 292 2 ∧ ∃ S, GR S ∧ LK R S a1 ∧ IR S p.2) ∨ (¬ (okLk (R.1 292 1) a1 a2 a3 a4 a5 ∧ (R.1 292 2).toInt < 10) ∧ p.1 = -1 ∧ IR R p.2)) (fX12_link_103 291 a1 a2 a3 a4 a5 m) :=
    fun q => vOk_some (Or.inr ⟨q, rfl, hI⟩)
  have b80 : ∀ l6 s : Int32, (l6 = 0 ∨ s = 0) → ¬ (okLk (R.1 292 1) a1 a2 a3 a4 a5 ∧ (R.1 292 2).toInt < 10) → vOk (fun p : Int32 × xMem => ((okLk (R.1 292 1) a1 a2 a3 a4 a5 ∧ (R.1 292 2).toInt < 10) ∧ p.1 = R.1 292 2 ∧ ∃ S, GR S ∧ LK R S a1 ∧ IR S p.2) ∨ (¬ (okLk (R.1 292 1) a1 a2 a3 a4 a5 ∧ (R.1 292 2).toInt < 10) ∧ p.1 = -1 ∧ IR R p.2)) (fX12_link_80 291 a1 a2 a3 a4 a5 l6 s m) := by
    intro l6 s h q
    unfold fX12_link_80
    refine vEq (fun _ => bad q) (fun g => ?_)
    have hs : s = 0 := h.resolve_left (fun w => g (congrArg Int32.toInt w))
    rw [if_pos hs]
    exact bad q
  have g80 : okLk (R.1 292 1) a1 a2 a3 a4 a5 → vOk (fun p : Int32 × xMem => ((okLk (R.1 292 1) a1 a2 a3 a4 a5 ∧ (R.1 292 2).toInt < 10) ∧ p.1 = R.1 292 2 ∧ ∃ S, GR S ∧ LK R S a1 ∧ IR S p.2) ∨ (¬ (okLk (R.1 292 1) a1 a2 a3 a4 a5 ∧ (R.1 292 2).toInt < 10) ∧ p.1 = -1 ∧ IR R p.2)) (fX12_link_80 291 a1 a2 a3 a4 a5 (1 : Int32) (1 : Int32) m) := by
    intro q
    unfold fX12_link_80
    rw [if_neg (show ¬ (1 : Int32) = 0 by decide), if_neg (show ¬ (1 : Int32) = 0 by decide)]
    refine vIn (by omega) (by omega) fun _ => ?_
    refine vAl (k292_2 hI) ?_
    refine vNe (fun g => ?_) (fun g => ?_)
    · refine vIn (by omega) (by omega) fun _ => ?_
      refine vAl (k292_2 hI) ?_
      have cF := xFu
      exact link116_r hG (by omega) q _ _ R m (by omega) ⟨rfl, fun _ _ _ => rfl⟩ hI (by omega)
    · exact bad (fun w => by have := w.2; omega)
  have b35 : ∀ s : Int32, s = 0 → ¬ okLk (R.1 292 1) a1 a2 a3 a4 a5 → vOk (fun p : Int32 × xMem => ((okLk (R.1 292 1) a1 a2 a3 a4 a5 ∧ (R.1 292 2).toInt < 10) ∧ p.1 = R.1 292 2 ∧ ∃ S, GR S ∧ LK R S a1 ∧ IR S p.2) ∨ (¬ (okLk (R.1 292 1) a1 a2 a3 a4 a5 ∧ (R.1 292 2).toInt < 10) ∧ p.1 = -1 ∧ IR R p.2)) (fX12_link_35 291 a1 a2 a3 a4 a5 s m) := by
    intro s hs q
    have q2 : ¬ (okLk (R.1 292 1) a1 a2 a3 a4 a5 ∧ (R.1 292 2).toInt < 10) := fun w => q w.1
    unfold fX12_link_35
    refine vNe (fun _ => ?_) (fun _ => ?_)
    · refine vAlB (in_e _ _ _ _) ?_
      exact b80 _ _ (Or.inl hs) q2
    · refine vAlB (in_e _ _ _ _) ?_
      dsimp only
      refine vEq (fun _ => ?_) (fun _ => ?_)
      · unfold fX12_link_68
        exact b80 _ _ (Or.inr rfl) q2
      · refine vAlB (in_e _ _ _ _) ?_
        dsimp only
        refine vEq (fun _ => ?_) (fun _ => ?_)
        · unfold fX12_link_68
          exact b80 _ _ (Or.inr rfl) q2
        · exact b80 _ _ (Or.inl hs) q2
  unfold fX12_link fX12_link_0
  refine vAlB (in_e _ _ _ _) ?_
  dsimp only
  by_cases g1 : 0 ≤ a1.toInt ∧ a1.toInt ≤ 2
  · rw [wi_1 (by omega), if_neg (show ¬ (1 : Int32) = 0 by decide)]
    refine vAlB (isHall_e hG hI) ?_
    dsimp only
    by_cases g3 : 0 ≤ a2.toInt ∧ a2.toInt < (R.1 292 1).toInt
    · rw [qH_1 g3, if_neg (show ¬ (1 : Int32) = 0 by decide)]
      refine vAlB (isHall_e hG hI) ?_
      dsimp only
      by_cases g4 : 0 ≤ a3.toInt ∧ a3.toInt < (R.1 292 1).toInt
      · rw [qH_1 g4, if_neg (show ¬ (1 : Int32) = 0 by decide)]
        refine vEq (fun g5 => ?_) (fun g5 => ?_)
        · unfold fX12_link_34
          exact b35 0 rfl (fun w => w.1.2.2.2 g5)
        · unfold fX12_link_35
          refine vNe (fun g6 => ?_) (fun g6 => ?_)
          · refine vAlB (in_e _ _ _ _) ?_
            dsimp only
            by_cases g7 : 2 ≤ a4.toInt ∧ a4.toInt ≤ 40
            · rw [wi_1 (by omega)]
              exact g80 ⟨⟨g1, g3, g4, g5⟩, fun q => absurd q (by omega), fun _ => g7⟩
            · rw [wi_0 (by omega)]
              exact b80 _ _ (Or.inr rfl) (fun w => g7 (w.1.2.2 (by omega)))
          · refine vAlB (in_e _ _ _ _) ?_
            dsimp only
            by_cases g7 : 1 ≤ a4.toInt ∧ a4.toInt ≤ 20
            · rw [wi_1 (by omega), if_neg (show ¬ (1 : Int32) = 0 by decide)]
              refine vAlB (in_e _ _ _ _) ?_
              dsimp only
              by_cases g8 : 2 ≤ a5.toInt ∧ a5.toInt ≤ 99
              · rw [wi_1 (by omega), if_neg (show ¬ (1 : Int32) = 0 by decide)]
                exact g80 ⟨⟨g1, g3, g4, g5⟩, fun _ => ⟨g7, g8⟩, fun q => by omega⟩
              · rw [wi_0 (by omega), if_pos rfl]
                unfold fX12_link_68
                exact b80 _ _ (Or.inr rfl) (fun w => g8 (w.1.2.1 (by omega)).2)
            · rw [wi_0 (by omega), if_pos rfl]
              unfold fX12_link_68
              exact b80 _ _ (Or.inr rfl) (fun w => g7 (w.1.2.1 (by omega)).1)
      · rw [qH_0 g4, if_pos rfl]
        unfold fX12_link_34
        exact b35 0 rfl (fun w => g4 w.1.2.2.1)
    · rw [qH_0 g3, if_pos rfl]
      unfold fX12_link_34
      exact b35 0 rfl (fun w => g3 w.1.2.1)
  · rw [wi_0 (by omega), if_pos rfl]
    unfold fX12_link_34
    exact b35 0 rfl (fun w => g1 w.1.1)
end
def cpRow (m : xMem) (s d n : Nat) : xMem := (fun b j => if b = d ∧ j < n then m.1 s j else m.1 b j, m.2)
theorem cpRow_0 {m : xMem} {s d : Nat} : cpRow m s d 0 = m := by
  refine Prod.ext (funext fun b => funext fun i => ?_) rfl
  show (if b = d ∧ i < 0 then _ else m.1 b i) = _
  rw [if_neg (by omega)]
theorem cpRow_s {m : xMem} {s d k : Nat} : xPut (cpRow m s d k) d k (m.1 s k) = cpRow m s d (k + 1) := by
  refine Prod.ext (funext fun b => funext fun i => ?_) rfl
  show (if b = d ∧ i = k then m.1 s k else if b = d ∧ i < k then m.1 s i else m.1 b i) = (if b = d ∧ i < k + 1 then m.1 s i else m.1 b i)
  by_cases h1 : b = d
  · by_cases h2 : i = k
    · rw [if_pos ⟨h1, h2⟩, if_pos ⟨h1, by omega⟩, h2]
    · rw [if_neg (fun q => h2 q.2)]
      by_cases h3 : i < k
      · rw [if_pos ⟨h1, h3⟩, if_pos ⟨h1, by omega⟩]
      · rw [if_neg (fun q => h3 q.2), if_neg (fun q => by omega)]
  · rw [if_neg (fun q => h1 q.1), if_neg (fun q => h1 q.1), if_neg (fun q => h1 q.1)]
theorem cpRow_src {m : xMem} {s d n i : Nat} (h : s ≠ d) : (cpRow m s d n).1 s i = m.1 s i := by
  show (if s = d ∧ i < n then _ else m.1 s i) = _
  rw [if_neg (fun q => h q.1)]
theorem cpRow_o {m : xMem} {s d n b i : Nat} (h : b ≠ d ∨ n ≤ i) : (cpRow m s d n).1 b i = m.1 b i := by
  show (if b = d ∧ i < n then _ else m.1 b i) = _
  rw [if_neg (by omega)]
theorem cpRow_d {m : xMem} {s d n i : Nat} (h : i < n) : (cpRow m s d n).1 d i = m.1 s i := by
  show (if d = d ∧ i < n then m.1 s i else _) = _
  rw [if_pos ⟨rfl, h⟩]
theorem saves_loop {m0 : xMem} : ∀ (e n : Nat) (l : Int32), l.toInt + e = 1610 → 0 ≤ l.toInt → fX12_saves_2 291 (n + 1 + e) l (cpRow m0 292 294 l.toNatClampNeg) = some (cpRow m0 292 294 1610) := by
  have c0 : (0 : Int32).toInt = 0 := rfl
  have c1 : (1 : Int32).toInt = 1 := rfl
  have c1610 : (1610 : Int32).toInt = 1610 := rfl
  intro e
  induction e with
  | zero =>
    intro n l he h0
    have w : l.toNatClampNeg = l.toInt.toNat := rfl
    refine of_vOk ?_
    rw [show n + 1 + 0 = n + 1 from rfl, fX12_saves_2, show l.toNatClampNeg = 1610 by omega]
    refine vLe (fun g => ?_) (fun g => ?_)
    · exact vOk_some rfl
    · exfalso; omega
  | succ e ih =>
    intro n l he h0
    have w : l.toNatClampNeg = l.toInt.toNat := rfl
    refine of_vOk ?_
    rw [show n + 1 + (e + 1) = n + 1 + e + 1 from rfl, fX12_saves_2]
    refine vLe (fun g => ?_) (fun g => ?_)
    · exfalso; omega
    · refine vIn (by omega) (by omega) fun _ => ?_
      refine vR fun x ex => ?_
      refine vIn (by omega) (by omega) fun _ => ?_
      refine vR fun m4 e4 => ?_
      refine vA (by omega) fun v5 e5 f5 => ?_
      have w5 : v5.toNatClampNeg = v5.toInt.toNat := rfl
      have e6 : m4 = cpRow m0 292 294 v5.toNatClampNeg := by
        rw [show v5.toNatClampNeg = l.toNatClampNeg + 1 by omega, ← cpRow_s, e4, ex]
        exact congrArg (xPut (cpRow m0 292 294 l.toNatClampNeg) 294 l.toNatClampNeg) (cpRow_src (by omega))
      rw [e6]
      exact ⟨_, ih n v5 (by omega) (by omega), rfl⟩
theorem saves_e {m0 : xMem} : fX12_saves 291 m0 = some (cpRow m0 292 294 1610) := by
  unfold fX12_saves fX12_saves_0
  have h := saves_loop (m0 := m0) 1610 4999998389 0 rfl (by decide)
  rw [show (0 : Int32).toNatClampNeg = 0 from rfl, cpRow_0] at h
  exact h
theorem putsBack_loop {m0 : xMem} : ∀ (e n : Nat) (l : Int32), l.toInt + e = 1610 → 0 ≤ l.toInt → fX12_putsBack_2 291 (n + 1 + e) l (cpRow m0 294 292 l.toNatClampNeg) = some (cpRow m0 294 292 1610) := by
  have c0 : (0 : Int32).toInt = 0 := rfl
  have c1 : (1 : Int32).toInt = 1 := rfl
  have c1610 : (1610 : Int32).toInt = 1610 := rfl
  intro e
  induction e with
  | zero =>
    intro n l he h0
    have w : l.toNatClampNeg = l.toInt.toNat := rfl
    refine of_vOk ?_
    rw [show n + 1 + 0 = n + 1 from rfl, fX12_putsBack_2, show l.toNatClampNeg = 1610 by omega]
    refine vLe (fun g => ?_) (fun g => ?_)
    · exact vOk_some rfl
    · exfalso; omega
  | succ e ih =>
    intro n l he h0
    have w : l.toNatClampNeg = l.toInt.toNat := rfl
    refine of_vOk ?_
    rw [show n + 1 + (e + 1) = n + 1 + e + 1 from rfl, fX12_putsBack_2]
    refine vLe (fun g => ?_) (fun g => ?_)
    · exfalso; omega
    · refine vIn (by omega) (by omega) fun _ => ?_
      refine vR fun x ex => ?_
      refine vIn (by omega) (by omega) fun _ => ?_
      refine vR fun m4 e4 => ?_
      refine vA (by omega) fun v5 e5 f5 => ?_
      have w5 : v5.toNatClampNeg = v5.toInt.toNat := rfl
      have e6 : m4 = cpRow m0 294 292 v5.toNatClampNeg := by
        rw [show v5.toNatClampNeg = l.toNatClampNeg + 1 by omega, ← cpRow_s, e4, ex]
        exact congrArg (xPut (cpRow m0 294 292 l.toNatClampNeg) 292 l.toNatClampNeg) (cpRow_src (by omega))
      rw [e6]
      exact ⟨_, ih n v5 (by omega) (by omega), rfl⟩
theorem putsBack_e {m0 : xMem} : fX12_putsBack 291 m0 = some (cpRow m0 294 292 1610) := by
  unfold fX12_putsBack fX12_putsBack_0
  have h := putsBack_loop (m0 := m0) 1610 4999998389 0 rfl (by decide)
  rw [show (0 : Int32).toNatClampNeg = 0 from rfl, cpRow_0] at h
  exact h
theorem image_loop {m0 : xMem} : ∀ (e n : Nat) (l : Int32), l.toInt + e = 1610 → 0 ≤ l.toInt → fX12_image_2 291 (n + 1 + e) l (cpRow m0 292 293 l.toNatClampNeg) = some ((cpRow m0 292 293 1610).1 292 0, cpRow m0 292 293 1610) := by
  have c0 : (0 : Int32).toInt = 0 := rfl
  have c1 : (1 : Int32).toInt = 1 := rfl
  have c1610 : (1610 : Int32).toInt = 1610 := rfl
  intro e
  induction e with
  | zero =>
    intro n l he h0
    have w : l.toNatClampNeg = l.toInt.toNat := rfl
    refine of_vOk ?_
    rw [show n + 1 + 0 = n + 1 from rfl, fX12_image_2, show l.toNatClampNeg = 1610 by omega]
    refine vLe (fun g => ?_) (fun g => ?_)
    · refine vIn (by omega) (by omega) fun _ => ?_
      exact vOk_some rfl
    · exfalso; omega
  | succ e ih =>
    intro n l he h0
    have w : l.toNatClampNeg = l.toInt.toNat := rfl
    refine of_vOk ?_
    rw [show n + 1 + (e + 1) = n + 1 + e + 1 from rfl, fX12_image_2]
    refine vLe (fun g => ?_) (fun g => ?_)
    · exfalso; omega
    · refine vIn (by omega) (by omega) fun _ => ?_
      refine vR fun x ex => ?_
      refine vIn (by omega) (by omega) fun _ => ?_
      refine vR fun m4 e4 => ?_
      refine vA (by omega) fun v5 e5 f5 => ?_
      have w5 : v5.toNatClampNeg = v5.toInt.toNat := rfl
      have e6 : m4 = cpRow m0 292 293 v5.toNatClampNeg := by
        rw [show v5.toNatClampNeg = l.toNatClampNeg + 1 by omega, ← cpRow_s, e4, ex]
        exact congrArg (xPut (cpRow m0 292 293 l.toNatClampNeg) 293 l.toNatClampNeg) (cpRow_src (by omega))
      rw [e6]
      exact ⟨_, ih n v5 (by omega) (by omega), rfl⟩
theorem image_e {m0 : xMem} : fX12_image 291 m0 = some ((cpRow m0 292 293 1610).1 292 0, cpRow m0 292 293 1610) := by
  unfold fX12_image fX12_image_0
  have h := image_loop (m0 := m0) 1610 4999998389 0 rfl (by decide)
  rw [show (0 : Int32).toNatClampNeg = 0 from rfl, cpRow_0] at h
  exact h
theorem back_loop {m0 : xMem} : ∀ (e n : Nat) (l : Int32), l.toInt + e = 1610 → 0 ≤ l.toInt → fX12_back_2 291 (n + 1 + e) l (cpRow m0 293 292 l.toNatClampNeg) = some ((cpRow m0 293 292 1610).1 292 0, cpRow m0 293 292 1610) := by
  have c0 : (0 : Int32).toInt = 0 := rfl
  have c1 : (1 : Int32).toInt = 1 := rfl
  have c1610 : (1610 : Int32).toInt = 1610 := rfl
  intro e
  induction e with
  | zero =>
    intro n l he h0
    have w : l.toNatClampNeg = l.toInt.toNat := rfl
    refine of_vOk ?_
    rw [show n + 1 + 0 = n + 1 from rfl, fX12_back_2, show l.toNatClampNeg = 1610 by omega]
    refine vLe (fun g => ?_) (fun g => ?_)
    · refine vIn (by omega) (by omega) fun _ => ?_
      exact vOk_some rfl
    · exfalso; omega
  | succ e ih =>
    intro n l he h0
    have w : l.toNatClampNeg = l.toInt.toNat := rfl
    refine of_vOk ?_
    rw [show n + 1 + (e + 1) = n + 1 + e + 1 from rfl, fX12_back_2]
    refine vLe (fun g => ?_) (fun g => ?_)
    · exfalso; omega
    · refine vIn (by omega) (by omega) fun _ => ?_
      refine vR fun x ex => ?_
      refine vIn (by omega) (by omega) fun _ => ?_
      refine vR fun m4 e4 => ?_
      refine vA (by omega) fun v5 e5 f5 => ?_
      have w5 : v5.toNatClampNeg = v5.toInt.toNat := rfl
      have e6 : m4 = cpRow m0 293 292 v5.toNatClampNeg := by
        rw [show v5.toNatClampNeg = l.toNatClampNeg + 1 by omega, ← cpRow_s, e4, ex]
        exact congrArg (xPut (cpRow m0 293 292 l.toNatClampNeg) 292 l.toNatClampNeg) (cpRow_src (by omega))
      rw [e6]
      exact ⟨_, ih n v5 (by omega) (by omega), rfl⟩
theorem back_e {m0 : xMem} : fX12_back 291 m0 = some ((cpRow m0 293 292 1610).1 292 0, cpRow m0 293 292 1610) := by
  unfold fX12_back fX12_back_0
  have h := back_loop (m0 := m0) 1610 4999998389 0 rfl (by decide)
  rw [show (0 : Int32).toNatClampNeg = 0 from rfl, cpRow_0] at h
  exact h
