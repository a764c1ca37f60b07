/-! the class: bursts; the copies now to kept and back -/
def okBu (n se ev ha go k : Int32) : Prop := ((0 ≤ se.toInt ∧ se.toInt ≤ 99999) ∧ (0 ≤ ev.toInt ∧ ev.toInt ≤ 999)) ∧ ((0 ≤ ha.toInt ∧ ha.toInt < n.toInt) ∧ (0 ≤ go.toInt ∧ go.toInt < n.toInt) ∧ ¬ ha.toInt = go.toInt) ∧ (1 ≤ k.toInt ∧ k.toInt ≤ 200)
theorem burst_c {R m : xMem} {a1 a2 a3 a4 a5 a6 a7 : Int32} (hI : IC R m) (h7 : 0 ≤ a7.toInt ∧ a7.toInt ≤ 1) (hh0 : 0 ≤ (R.1 1 7).toInt ∧ (R.1 1 7).toInt ≤ 6) (h0 : 0 ≤ (R.1 1 9).toInt ∧ (R.1 1 9).toInt ≤ 30) : vOk (fun p : Int32 × xMem => ((okBu (R.1 1 7) a1 a2 a3 a4 a5 ∧ (R.1 1 9).toInt < 30) ∧ p.1 = R.1 1 9 + 1 ∧ IC (xPut R 1 9 (R.1 1 9 + 1)) p.2) ∨ (¬ (okBu (R.1 1 7) a1 a2 a3 a4 a5 ∧ (R.1 1 9).toInt < 30) ∧ p.1 = -1 ∧ IC R p.2)) (fX11_burst 0 a1 a2 a3 a4 a5 a6 a7 m) := by
  have c0 : (0 : Int32).toInt = 0 := rfl
  have c1 : (1 : Int32).toInt = 1 := rfl
  have c29 : (29 : Int32).toInt = 29 := rfl
  have c200 : (200 : Int32).toInt = 200 := rfl
  have c999 : (999 : Int32).toInt = 999 := rfl
  have c99999 : (99999 : Int32).toInt = 99999 := rfl
  have k7 : m.1 1 7 = R.1 1 7 := hI.kc 1 7 (by decide)
  have kc : ∀ {m' : xMem}, IC R m' → R.1 1 9 = m'.1 1 9 := fun h => (h.kc 1 9 (by decide)).symm
  have bad : ¬ (okBu (R.1 1 7) a1 a2 a3 a4 a5 ∧ (R.1 1 9).toInt < 30) → vOk (fun p : Int32 × xMem => ((okBu (R.1 1 7) a1 a2 a3 a4 a5 ∧ (R.1 1 9).toInt < 30) ∧ p.1 = R.1 1 9 + 1 ∧ IC (xPut R 1 9 (R.1 1 9 + 1)) p.2) ∨ (¬ (okBu (R.1 1 7) a1 a2 a3 a4 a5 ∧ (R.1 1 9).toInt < 30) ∧ p.1 = -1 ∧ IC R p.2)) (some ((-1 : Int32), m)) :=
    fun q => vOk_some (Or.inr ⟨q, rfl, hI⟩)
  have fin : ∀ (r : Nat) (s : Int32) (m15 : xMem), r ∈ pBurst → IC R m15 → (okBu (R.1 1 7) a1 a2 a3 a4 a5 ∧ (R.1 1 9).toInt < 30) → vOk (fun p : Int32 × xMem => ((okBu (R.1 1 7) a1 a2 a3 a4 a5 ∧ (R.1 1 9).toInt < 30) ∧ p.1 = R.1 1 9 + 1 ∧ IC (xPut R 1 9 (R.1 1 9 + 1)) p.2) ∨ (¬ (okBu (R.1 1 7) a1 a2 a3 a4 a5 ∧ (R.1 1 9).toInt < 30) ∧ p.1 = -1 ∧ IC R p.2)) (fX11_burst_165 0 a1 a2 a3 a4 a5 a6 a7 r r s m15) := by
    intro r s m15 hr h15 q
    unfold fX11_burst_165
    refine vR fun n1 e1 => ?_
    have i1 : IC R n1 := by rw [e1]; exact IC_put h15 (qBurst_ok5 _ hr)
    refine vB h7 ?_
    refine vR fun n2 e2 => ?_
    have i2 : IC R n2 := by rw [e2]; exact IC_putB i1 (qBurst_kc6 _ hr) h7
    refine vAl (kc i2) ?_
    refine vAl (x := R.1 1 9 + 1) rfl ?_
    refine vR fun n6 e6 => ?_
    have i6 : IC (xPut R 1 9 (R.1 1 9 + 1)) n6 := by rw [e6]; exact IC_cfg i2 (by decide)
    refine vAl (x := R.1 1 9 + 1) (xP_eqE e6) ?_
    exact vOk_some (Or.inl ⟨q, rfl, i6⟩)
  have b62 : ∀ s : Int32, s = 0 → ¬ (okBu (R.1 1 7) a1 a2 a3 a4 a5 ∧ (R.1 1 9).toInt < 30) → ∀ l8 : Int32, vOk (fun p : Int32 × xMem => ((okBu (R.1 1 7) a1 a2 a3 a4 a5 ∧ (R.1 1 9).toInt < 30) ∧ p.1 = R.1 1 9 + 1 ∧ IC (xPut R 1 9 (R.1 1 9 + 1)) p.2) ∨ (¬ (okBu (R.1 1 7) a1 a2 a3 a4 a5 ∧ (R.1 1 9).toInt < 30) ∧ p.1 = -1 ∧ IC R p.2)) (fX11_burst_62 0 a1 a2 a3 a4 a5 a6 a7 l8 s m) := by
    intro s hs q l8
    unfold fX11_burst_62
    refine vEq (fun _ => bad q) (fun _ => ?_)
    rw [if_pos hs]
    exact bad q
  have b26 : ∀ s : Int32, (s = 0 ∧ ¬ ((0 ≤ a1.toInt ∧ a1.toInt ≤ 99999) ∧ (0 ≤ a2.toInt ∧ a2.toInt ≤ 999))) ∨ (s = 1 ∧ ((0 ≤ a1.toInt ∧ a1.toInt ≤ 99999) ∧ (0 ≤ a2.toInt ∧ a2.toInt ≤ 999))) → vOk (fun p : Int32 × xMem => ((okBu (R.1 1 7) a1 a2 a3 a4 a5 ∧ (R.1 1 9).toInt < 30) ∧ p.1 = R.1 1 9 + 1 ∧ IC (xPut R 1 9 (R.1 1 9 + 1)) p.2) ∨ (¬ (okBu (R.1 1 7) a1 a2 a3 a4 a5 ∧ (R.1 1 9).toInt < 30) ∧ p.1 = -1 ∧ IC R p.2)) (fX11_burst_26 0 a1 a2 a3 a4 a5 a6 a7 s m) := by
    intro s hs
    unfold fX11_burst_26
    rw [show (0 : Nat) + 1 = 1 from rfl]
    refine vAlB (hasHall_e (by rw [k7]; exact hh0)) ?_
    dsimp only
    rw [k7]
    by_cases g1 : 0 ≤ a3.toInt ∧ a3.toInt < (R.1 1 7).toInt
    · rw [qH_1 g1, if_neg (show ¬ (1 : Int32) = 0 by decide)]
      refine vAlB (hasHall_e (by rw [k7]; exact hh0)) ?_
      dsimp only
      rw [k7]
      by_cases g2 : 0 ≤ a4.toInt ∧ a4.toInt < (R.1 1 7).toInt
      · rw [qH_1 g2, if_neg (show ¬ (1 : Int32) = 0 by decide)]
        refine vEq (fun g3 => ?_) (fun g3 => ?_)
        · unfold fX11_burst_61
          exact b62 0 rfl (fun w => w.1.2.1.2.2 g3) s
        · unfold fX11_burst_62
          rcases hs with ⟨rfl, q⟩ | ⟨rfl, q⟩
          · rw [if_pos rfl]
            exact bad (fun w => q w.1.1)
          · rw [if_neg (show ¬ (1 : Int32) = 0 by decide), if_neg (show ¬ (1 : Int32) = 0 by decide)]
            refine vAlB (within_e _ _ _ _) ?_
            dsimp only
            by_cases g4 : 1 ≤ a5.toInt ∧ a5.toInt ≤ 200
            · rw [wi_1 (by omega), if_neg (show ¬ (1 : Int32) = 0 by decide)]
              refine vAl (kc hI) ?_
              refine vAlB (within_e _ _ _ _) ?_
              dsimp only
              by_cases g5 : (R.1 1 9).toInt < 30
              · rw [wi_1 (by omega), if_pos (show ¬ (1 : Int32) = 0 by decide)]
                refine vAl (kc hI) ?_
                refine vIn (by omega) (by omega) fun n => ?_
                refine vR fun r er => ?_
                have hr : r ∈ pBurst := by rw [er]; exact qStation_53_m1_30_inBurst _ (show 1 ∈ pStation by decide) _ n
                refine vR fun n1 e1 => ?_
                have i1 : IC R n1 := by rw [e1]; exact IC_put hI (qBurst_ok0 _ hr)
                refine vR fun n2 e2 => ?_
                have i2 : IC R n2 := by rw [e2]; exact IC_put i1 (qBurst_ok1 _ hr)
                refine vR fun n3 e3 => ?_
                have i3 : IC R n3 := by rw [e3]; exact IC_put i2 (qBurst_ok2 _ hr)
                refine vR fun n4 e4 => ?_
                have i4 : IC R n4 := by rw [e4]; exact IC_put i3 (qBurst_ok3 _ hr)
                refine vR fun n5 e5 => ?_
                have i5 : IC R n5 := by rw [e5]; exact IC_put i4 (qBurst_ok4 _ hr)
                have q2 : okBu (R.1 1 7) a1 a2 a3 a4 a5 ∧ (R.1 1 9).toInt < 30 := ⟨⟨q, ⟨g1, g2, g3⟩, g4⟩, g5⟩
                refine vEq (fun _ => ?_) (fun _ => ?_)
                · exact fin r 0 n5 hr i5 q2
                · exact fin r 1 n5 hr i5 q2
              · rw [wi_0 (by omega), if_neg (not_not_intro rfl)]
                exact bad (fun w => g5 w.2)
            · rw [wi_0 (by omega), if_pos rfl]
              exact bad (fun w => g4 w.1.2.2)
      · rw [qH_0 g2, if_pos rfl]
        unfold fX11_burst_61
        exact b62 0 rfl (fun w => g2 w.1.2.1.2.1) s
    · rw [qH_0 g1, if_pos rfl]
      unfold fX11_burst_61
      exact b62 0 rfl (fun w => g1 w.1.2.1.1) s
  unfold fX11_burst fX11_burst_0
  refine vAlB (within_e _ _ _ _) ?_
  dsimp only
  by_cases g1 : 0 ≤ a1.toInt ∧ a1.toInt ≤ 99999
  · rw [wi_1 (by omega), if_neg (show ¬ (1 : Int32) = 0 by decide)]
    refine vAlB (within_e _ _ _ _) ?_
    dsimp only
    by_cases g2 : 0 ≤ a2.toInt ∧ a2.toInt ≤ 999
    · rw [wi_1 (by omega), if_neg (show ¬ (1 : Int32) = 0 by decide)]
      exact b26 1 (Or.inr ⟨rfl, g1, g2⟩)
    · rw [wi_0 (by omega), if_pos rfl]
      unfold fX11_burst_25
      exact b26 0 (Or.inl ⟨rfl, fun w => g2 w.2⟩)
  · rw [wi_0 (by omega), if_pos rfl]
    unfold fX11_burst_25
    exact b26 0 (Or.inl ⟨rfl, fun w => g1 w.1⟩)
theorem copy3_c {R : xMem} {a0 : Nat} {a1 : Nat} {m : xMem} (ha0 : a0 ∈ pLink) (ha1 : a1 ∈ pLink) (hI : IC R m) : vOk (IC (xPut R a0 1 (m.1 a1 1))) (fX3_copy a0 a1 m) := by
  unfold fX3_copy
  unfold fX3_copy_0
  refine vR fun v1 ev1 => ?_
  have fv1 := tiB v1
  refine vR fun m2 em2 => ?_
  have hm2 : IC (xPut R a0 1 (m.1 a1 1)) m2 := by rw [em2, ev1]; exact IC_cfg hI (qLink_bc1 _ ha0)
  refine vR fun v3 ev3 => ?_
  have fv3 := tiB v3
  refine vR fun m4 em4 => ?_
  have hm4 : IC (xPut R a0 1 (m.1 a1 1)) m4 := by rw [em4]; exact IC_put hm2 (qLink_ok2 _ ha0)
  refine vR fun v5 ev5 => ?_
  have fv5 := tiB v5
  refine vR fun m6 em6 => ?_
  have hm6 : IC (xPut R a0 1 (m.1 a1 1)) m6 := by rw [em6]; exact IC_put hm4 (qLink_ok3 _ ha0)
  refine vR fun v7 ev7 => ?_
  have fv7 := tiB v7
  refine vR fun m8 em8 => ?_
  have hm8 : IC (xPut R a0 1 (m.1 a1 1)) m8 := by rw [em8]; exact IC_put hm6 (qLink_ok4 _ ha0)
  refine vR fun v9 ev9 => ?_
  have fv9 := tiB v9
  refine vR fun m10 em10 => ?_
  have hm10 : IC (xPut R a0 1 (m.1 a1 1)) m10 := by rw [em10]; exact IC_put hm8 (qLink_ok5 _ ha0)
  refine vR fun v11 ev11 => ?_
  have fv11 := tiB v11
  refine vR fun m12 em12 => ?_
  have hm12 : IC (xPut R a0 1 (m.1 a1 1)) m12 := by rw [em12]; exact IC_put hm10 (qLink_ok6 _ ha0)
  refine vR fun v13 ev13 => ?_
  have fv13 := tiB v13
  refine vR fun m14 em14 => ?_
  have hm14 : IC (xPut R a0 1 (m.1 a1 1)) m14 := by rw [em14]; exact IC_put hm12 (qLink_ok7 _ ha0)
  refine vR fun v15 ev15 => ?_
  have fv15 := tiB v15
  refine vR fun m16 em16 => ?_
  have hm16 : IC (xPut R a0 1 (m.1 a1 1)) m16 := by rw [em16]; exact IC_put hm14 (qLink_ok8 _ ha0)
  refine vR fun v17 ev17 => ?_
  have fv17 := tiB v17
  refine vR fun m18 em18 => ?_
  have hm18 : IC (xPut R a0 1 (m.1 a1 1)) m18 := by rw [em18]; exact IC_put hm16 (qLink_ok9 _ ha0)
  refine vR fun v19 ev19 => ?_
  have fv19 := tiB v19
  refine vR fun m20 em20 => ?_
  have hm20 : IC (xPut R a0 1 (m.1 a1 1)) m20 := by rw [em20]; exact IC_put hm18 (qLink_ok10 _ ha0)
  refine vR fun v21 ev21 => ?_
  have fv21 := tiB v21
  refine vR fun m22 em22 => ?_
  have hm22 : IC (xPut R a0 1 (m.1 a1 1)) m22 := by rw [em22]; exact IC_put hm20 (qLink_ok11 _ ha0)
  refine vR fun v23 ev23 => ?_
  have fv23 : 0 ≤ v23.toInt ∧ v23.toInt ≤ 1 := by rw [ev23]; exact IC.bc hm22 _ _ (qLink_bc12 _ ha1)
  refine vB (by omega) ?_
  refine vR fun m24 em24 => ?_
  have hm24 : IC (xPut R a0 1 (m.1 a1 1)) m24 := by rw [em24]; exact IC_putB hm22 (qLink_kc12 _ ha0) (by omega)
  refine vR fun v25 ev25 => ?_
  have fv25 : 0 ≤ v25.toInt ∧ v25.toInt ≤ 1 := by rw [ev25]; exact IC.bc hm24 _ _ (qLink_bc13 _ ha1)
  refine vB (by omega) ?_
  refine vR fun m26 em26 => ?_
  have hm26 : IC (xPut R a0 1 (m.1 a1 1)) m26 := by rw [em26]; exact IC_putB hm24 (qLink_kc13 _ ha0) (by omega)
  refine vR fun m27 em27 => ?_
  have hm27 : IC (xPut R a0 1 (m.1 a1 1)) m27 := by rw [em27]; exact IC_cpy hm26 (qLink_1_inArr _ ha0)
  exact vOk_some hm27
theorem cm140_s {R : xMem} {a0 : Nat} {a1 : Nat} (ha0 : a0 ∈ pStation) (ha1 : a1 ∈ pStation) : ∀ (fuel : Nat), ∀ (l2 : Int32) (m : xMem), ((0 ≤ l2.toInt ∧ l2.toInt ≤ 30)) → IC R m → 2147483648 - l2.toInt < (fuel : Int) → vOk (IC R) (fX9_copyMoving_140 a0 a1 fuel l2 m) := by
  intro fuel
  induction fuel with
  | zero =>
    intro l2 m hp hI hmu
    have tl2 := tiB l2
    exfalso; omega
  | succ fuel ih =>
    intro l2 m hp hI hmu
    have tl2 := tiB l2
    have c1 : (1 : Int32).toInt = 1 := rfl
    have c30 : (30 : Int32).toInt = 30 := rfl
    rw [fX9_copyMoving_140]
    refine vR fun v1 ev1 => ?_
    have fv1 := tiB v1
    refine vLe (fun h2 => ?_) (fun h3 => ?_)
    · unfold fX9_copyMoving_175
      exact vOk_some hI
    · refine vLe (fun h4 => ?_) (fun h5 => ?_)
      · unfold fX9_copyMoving_175
        exact vOk_some hI
      · refine vIn (by omega) (by omega) fun n6 => ?_
        refine vR fun r7 er7 => ?_
        have hr7 : r7 ∈ pBurst := by rw [er7]; exact (qStation_53_m1_30_inBurst _ ha0 _ n6)
        refine vIn (by omega) (by omega) fun n8 => ?_
        refine vR fun r9 er9 => ?_
        have hr9 : r9 ∈ pBurst := by rw [er9]; exact (qStation_53_m1_30_inBurst _ ha1 _ n8)
        refine vOk_bind (fX0_copy_s hr7 hr9 hI) fun m10 hm10 => ?_
        refine vA (by omega) fun v11 ev11 fv11 => ?_
        exact ih _ _ (by omega) hm10 (by omega)
def CX (a0 a1 : Nat) (R T : xMem) : Prop := (T.1 a0 10 = R.1 a1 10 ∧ T.1 a0 11 = R.1 a1 11) ∧ (∀ j, j < 12 → T.1 (a0 + 5) j = R.1 (a1 + 5) j ∧ T.1 (a0 + 6) j = R.1 (a1 + 6) j) ∧ (∀ j, j < 6 → T.1 (a0 + 8) j = R.1 (a1 + 8) j ∧ T.1 (a0 + 9) j = R.1 (a1 + 9) j ∧ T.1 (a0 + 10) j = R.1 (a1 + 10) j ∧ T.1 (a0 + 11) j = R.1 (a1 + 11) j) ∧ (∀ j, j < 60 → T.1 (a0 + 14) j = R.1 (a1 + 14) j)
def CL (a0 a1 i : Nat) (R m1 : xMem) : Prop := ∃ S : xMem, IC S m1 ∧ S.2 = R.2 ∧ (∀ b j, ¬ (j = 1 ∧ a0 + 33 ≤ b ∧ b < a0 + 53) → S.1 b j = R.1 b j) ∧ (∀ k : Nat, i ≤ k → k < 10 → (k : Int) < (R.1 a0 8).toInt → S.1 (a0 + 33 + 2 * k) 1 = R.1 (a1 + 33 + 2 * k) 1) ∧ (∀ k : Nat, k < i → S.1 (a0 + 33 + 2 * k) 1 = R.1 (a0 + 33 + 2 * k) 1)
def cpS (a0 a1 : Nat) (R : xMem) : xMem := xPut (xPut (xPut (xPut R a0 6 (R.1 a1 6)) a0 7 (R.1 a1 7)) a0 8 (R.1 a1 8)) a0 9 (R.1 a1 9)
def CA (a0 a1 : Nat) (R T : xMem) : Prop := T.2 = R.2 ∧ (∀ b j, ¬ (a0 ≤ b ∧ b < a0 + 83) → T.1 b j = R.1 b j) ∧ (T.1 a0 6 = R.1 a1 6 ∧ T.1 a0 7 = R.1 a1 7 ∧ T.1 a0 8 = R.1 a1 8 ∧ T.1 a0 9 = R.1 a1 9 ∧ T.1 (a0 + 4) 2 = R.1 (a1 + 4) 2 ∧ T.1 (a0 + 7) 5 = R.1 (a1 + 7) 5 ∧ T.1 (a0 + 13) 1 = R.1 (a1 + 13) 1) ∧ ∀ k : Nat, k < 10 → (k : Int) < (R.1 a1 8).toInt → T.1 (a0 + 33 + 2 * k) 1 = R.1 (a1 + 33 + 2 * k) 1
theorem kckI : ∀ k : Nat, k < 10 → KC (1 + 33 + 2 * k) 1 = true := by decide +kernel
theorem cm103_I : ∀ (fuel : Nat), ∀ (l2 : Int32) (R m : xMem), ((0 ≤ l2.toInt ∧ l2.toInt ≤ 10)) → IC R m → 2147483648 - l2.toInt < (fuel : Int) → vOk (CL 84 1 l2.toNatClampNeg R) (fX9_copyMoving_103 84 1 fuel l2 m) := by
  intro fuel
  induction fuel with
  | zero =>
    intro l2 R m hp hI hmu
    exfalso; omega
  | succ fuel ih =>
    intro l2 R m hp hI hmu
    have tl2 := tiB l2
    have c0 : (0 : Int32).toInt = 0 := rfl
    have c1 : (1 : Int32).toInt = 1 := rfl
    have c10 : (10 : Int32).toInt = 10 := rfl
    have w2 : l2.toNatClampNeg = l2.toInt.toNat := rfl
    rw [fX9_copyMoving_103]
    refine vAl (x := R.1 84 8) (hI.kc 84 8 (by decide)).symm ?_
    refine vLe (fun h2 => ?_) (fun h3 => ?_)
    · unfold fX9_copyMoving_138
      have cF := xFu
      refine vOk_mono (cm140_s (show 84 ∈ pStation by decide) (show 1 ∈ pStation by decide) _ _ _ (by omega) hI (by omega)) fun m1 h1 => ?_
      exact ⟨R, h1, rfl, fun _ _ _ => rfl, fun k _ _ _ => by exfalso; omega, fun _ _ => rfl⟩
    · refine vLe (fun h4 => ?_) (fun h5 => ?_)
      · unfold fX9_copyMoving_138
        have cF := xFu
        refine vOk_mono (cm140_s (show 84 ∈ pStation by decide) (show 1 ∈ pStation by decide) _ _ _ (by omega) hI (by omega)) fun m1 h1 => ?_
        exact ⟨R, h1, rfl, fun _ _ _ => rfl, fun k _ _ _ => by exfalso; omega, fun _ _ => rfl⟩
      · refine vIn (by omega) (by omega) fun n6 => ?_
        refine vR fun r7 er7 => ?_
        have hr7 : r7 ∈ pLink := by rw [er7]; exact (qStation_33_m2_10_inLink _ (show 84 ∈ pStation by decide) _ n6)
        refine vIn (by omega) (by omega) fun n8 => ?_
        refine vR fun r9 er9 => ?_
        have hr9 : r9 ∈ pLink := by rw [er9]; exact (qStation_33_m2_10_inLink _ (show 1 ∈ pStation by decide) _ n8)
        have k9 : m.1 r9 1 = R.1 r9 1 := hI.kc r9 1 (by rw [er9]; exact kckI _ n8)
        refine vOk_bind (copy3_c hr7 hr9 hI) fun m10 hm10 => ?_
        rw [k9] at hm10
        refine vA (by omega) fun v11 ev11 fv11 => ?_
        have w11 : v11.toNatClampNeg = v11.toInt.toNat := rfl
        refine vOk_mono (ih v11 _ m10 (by omega) hm10 (by omega)) fun m1 h1 => ?_
        obtain ⟨S, hS, s0, s1, s2, s3⟩ := h1
        refine ⟨S, hS, s0, fun b j hb => ?_, fun k k1 k2 k3 => ?_, fun k k1 => ?_⟩
        · rw [s1 b j hb]
          show (if b = r7 ∧ j = 1 then _ else R.1 b j) = _
          rw [if_neg (by omega)]
        · by_cases q : k = l2.toNatClampNeg
          · rw [s3 k (by omega)]
            show (if 84 + 33 + 2 * k = r7 ∧ 1 = 1 then R.1 r9 1 else _) = _
            rw [if_pos (by omega), show r9 = 1 + 33 + 2 * k by omega]
          · have z8 : (xPut R r7 1 (R.1 r9 1)).1 84 8 = R.1 84 8 := (xP_pl (by omega)).symm
            rw [s2 k (by omega) k2 (by rw [z8]; exact k3)]
            show (if 1 + 33 + 2 * k = r7 ∧ 1 = 1 then _ else R.1 (1 + 33 + 2 * k) 1) = _
            rw [if_neg (by omega)]
        · rw [s3 k (by omega)]
          show (if 84 + 33 + 2 * k = r7 ∧ 1 = 1 then _ else R.1 (84 + 33 + 2 * k) 1) = _
          rw [if_neg (by omega)]
theorem cm66_I {R : xMem} : ∀ (fuel : Nat), ∀ (l2 : Int32) (m : xMem), ((0 ≤ l2.toInt ∧ l2.toInt ≤ 6)) → IC R m → 2147483648 - l2.toInt < (fuel : Int) → vOk (CL 84 1 0 R) (fX9_copyMoving_66 84 1 fuel l2 m) := by
  intro fuel
  induction fuel with
  | zero =>
    intro l2 m hp hI hmu
    exfalso; omega
  | succ fuel ih =>
    intro l2 m hp hI hmu
    have tl2 := tiB l2
    have c0 : (0 : Int32).toInt = 0 := rfl
    have c1 : (1 : Int32).toInt = 1 := rfl
    have c6 : (6 : Int32).toInt = 6 := rfl
    rw [fX9_copyMoving_66]
    refine vR fun v1 ev1 => ?_
    have fv1 := tiB v1
    have cF := xFu
    refine vLe (fun h2 => ?_) (fun h3 => ?_)
    · unfold fX9_copyMoving_101
      exact cm103_I xFuel 0 R m (by omega) hI (by omega)
    · refine vLe (fun h4 => ?_) (fun h5 => ?_)
      · unfold fX9_copyMoving_101
        exact cm103_I xFuel 0 R m (by omega) hI (by omega)
      · refine vIn (by omega) (by omega) fun n6 => ?_
        refine vR fun r7 er7 => ?_
        have hr7 : r7 ∈ pHall := by rw [er7]; exact (qStation_15_m3_6_inHall _ (show 84 ∈ pStation by decide) _ n6)
        refine vIn (by omega) (by omega) fun n8 => ?_
        refine vR fun r9 er9 => ?_
        have hr9 : r9 ∈ pHall := by rw [er9]; exact (qStation_15_m3_6_inHall _ (show 1 ∈ pStation by decide) _ n8)
        refine vOk_bind (fX2_copy_s hr7 hr9 hI) fun m10 hm10 => ?_
        refine vA (by omega) fun v11 ev11 fv11 => ?_
        exact ih _ _ (by omega) hm10 (by omega)
theorem cm_I {R m : xMem} (hI : IC R m) : vOk (CL 84 1 0 (cpS 84 1 R)) (fX9_copyMoving 84 1 m) := by
  have c0 : (0 : Int32).toInt = 0 := rfl
  unfold fX9_copyMoving fX9_copyMoving_0
  refine vAl (x := R.1 1 6) (hI.kc 1 6 (by decide)).symm ?_
  refine vR fun m2 e2 => ?_
  have h2 : IC (xPut R 84 6 (R.1 1 6)) m2 := by rw [e2]; exact IC_cfg hI (by decide)
  refine vAl (x := R.1 1 7) (by rw [h2.kc 1 7 (by decide)]; exact xP_pl (by omega)) ?_
  refine vR fun m4 e4 => ?_
  have h4 : IC (xPut (xPut R 84 6 (R.1 1 6)) 84 7 (R.1 1 7)) m4 := by rw [e4]; exact IC_cfg h2 (by decide)
  refine vAl (x := R.1 1 8) (by rw [h4.kc 1 8 (by decide)]; exact (xP_pl (by omega)).trans (xP_pl (by omega))) ?_
  refine vR fun m6 e6 => ?_
  have h6 : IC (xPut (xPut (xPut R 84 6 (R.1 1 6)) 84 7 (R.1 1 7)) 84 8 (R.1 1 8)) m6 := by rw [e6]; exact IC_cfg h4 (by decide)
  refine vAl (x := R.1 1 9) (by rw [h6.kc 1 9 (by decide)]; exact (xP_pl (by omega)).trans ((xP_pl (by omega)).trans (xP_pl (by omega)))) ?_
  refine vR fun m8 e8 => ?_
  have h8 : IC (cpS 84 1 R) m8 := by rw [e8]; exact IC_cfg h6 (by decide)
  refine vAny fun v9 => ?_
  refine vR fun m10 e10 => ?_
  have h10 : IC (cpS 84 1 R) m10 := by rw [e10]; exact IC_put h8 (qStation_ok12 _ (show 84 ∈ pStation by decide))
  refine vAny fun v11 => ?_
  refine vR fun m12 e12 => ?_
  have h12 : IC (cpS 84 1 R) m12 := by rw [e12]; exact IC_put h10 (qStation_ok13 _ (show 84 ∈ pStation by decide))
  refine vAny fun v13 => ?_
  refine vR fun m14 e14 => ?_
  have h14 : IC (cpS 84 1 R) m14 := by rw [e14]; exact IC_put h12 (qStation_ok14 _ (show 84 ∈ pStation by decide))
  refine vAny fun v15 => ?_
  refine vR fun m16 e16 => ?_
  have h16 : IC (cpS 84 1 R) m16 := by rw [e16]; exact IC_put h14 (qStation_ok15 _ (show 84 ∈ pStation by decide))
  have cF := xFu
  exact cm66_I _ _ _ (by omega) h16 (by omega)
theorem copyAll_I {R m : xMem} (hI : IC R m) : vOk (fun m1 => ∃ T, CA 84 1 R T ∧ CX 84 1 R T ∧ IC T m1) (fX9_copyAll 84 1 m) := by
  unfold fX9_copyAll fX9_copyAll_0
  refine vOk_bind (cm_I hI) fun m1 h1 => ?_
  obtain ⟨S, hS, s0, s1, s2, _⟩ := h1
  have sR : ∀ b j, ¬ (b = 84 ∧ 6 ≤ j ∧ j ≤ 9) → ¬ (j = 1 ∧ 84 + 33 ≤ b ∧ b < 84 + 53) → S.1 b j = R.1 b j := fun b j hb hj => by
    rw [s1 b j hj]
    show (if b = 84 ∧ j = 9 then _ else if b = 84 ∧ j = 8 then _ else if b = 84 ∧ j = 7 then _ else if b = 84 ∧ j = 6 then _ else R.1 b j) = _
    rw [if_neg (by omega), if_neg (by omega), if_neg (by omega), if_neg (by omega)]
  refine vAl (x := R.1 1 10) (by rw [hS.kc 1 10 (by decide)]; exact (sR 1 10 (by omega) (by omega)).symm) ?_
  refine vR fun m3 e3 => ?_
  have h3 : IC (xPut S 84 10 (R.1 1 10)) m3 := by rw [e3]; exact IC_cfg hS (by decide)
  refine vAl (x := R.1 1 11) (by rw [h3.kc 1 11 (by decide), ← xP_pl (by omega)]; exact (sR 1 11 (by omega) (by omega)).symm) ?_
  refine vR fun m5 e5 => ?_
  have h5 : IC (xPut (xPut S 84 10 (R.1 1 10)) 84 11 (R.1 1 11)) m5 := by rw [e5]; exact IC_cfg h3 (by decide)
  refine vOk_bind (Q := IC (xCpy (xCpy (xPut (xPut (xPut S 84 10 (R.1 1 10)) 84 11 (R.1 1 11)) (84 + 4) 2 (R.1 (1 + 4) 2)) (1 + 4 + 1) (84 + 4 + 1) 0 0 12) (1 + 4 + 2) (84 + 4 + 2) 0 0 12)) ?_ fun m6 h6 => ?_
  · unfold fX1_copy fX1_copy_0
    refine vAl (x := R.1 (1 + 4) 2) (by rw [h5.kc (1 + 4) 2 (by decide), ← xP_pl (by omega), ← xP_pl (by omega)]; exact (sR (1 + 4) 2 (by omega) (by omega)).symm) ?_
    refine vR fun n2 q2 => ?_
    have i2 : IC (xPut (xPut (xPut S 84 10 (R.1 1 10)) 84 11 (R.1 1 11)) (84 + 4) 2 (R.1 (1 + 4) 2)) n2 := by rw [q2]; exact IC_cfg h5 (by decide)
    refine vR fun n3 q3 => ?_
    have i3 : IC (xCpy (xPut (xPut (xPut S 84 10 (R.1 1 10)) 84 11 (R.1 1 11)) (84 + 4) 2 (R.1 (1 + 4) 2)) (1 + 4 + 1) (84 + 4 + 1) 0 0 12) n3 := by rw [q3]; exact IC_kcpy i2 (by decide) (by decide)
    refine vR fun n4 q4 => ?_
    have i4 : IC (xCpy (xCpy (xPut (xPut (xPut S 84 10 (R.1 1 10)) 84 11 (R.1 1 11)) (84 + 4) 2 (R.1 (1 + 4) 2)) (1 + 4 + 1) (84 + 4 + 1) 0 0 12) (1 + 4 + 2) (84 + 4 + 2) 0 0 12) n4 := by rw [q4]; exact IC_kcpy i3 (by decide) (by decide)
    exact vOk_some i4
  refine vOk_bind (Q := IC (xCpy (xCpy (xCpy (xCpy (xPut (xCpy (xCpy (xPut (xPut (xPut S 84 10 (R.1 1 10)) 84 11 (R.1 1 11)) (84 + 4) 2 (R.1 (1 + 4) 2)) (1 + 4 + 1) (84 + 4 + 1) 0 0 12) (1 + 4 + 2) (84 + 4 + 2) 0 0 12) (84 + 7) 5 (R.1 (1 + 7) 5)) (1 + 7 + 1) (84 + 7 + 1) 0 0 6) (1 + 7 + 2) (84 + 7 + 2) 0 0 6) (1 + 7 + 3) (84 + 7 + 3) 0 0 6) (1 + 7 + 4) (84 + 7 + 4) 0 0 6)) ?_ fun m7 h7 => ?_
  · unfold fX5_copy fX5_copy_0
    refine vAl (x := R.1 (1 + 7) 5) (by rw [h6.kc (1 + 7) 5 (by decide), ← xC_pl (by omega), ← xC_pl (by omega), ← xP_pl (by omega), ← xP_pl (by omega), ← xP_pl (by omega)]; exact (sR (1 + 7) 5 (by omega) (by omega)).symm) ?_
    refine vR fun n2 q2 => ?_
    have i2 : IC (xPut (xCpy (xCpy (xPut (xPut (xPut S 84 10 (R.1 1 10)) 84 11 (R.1 1 11)) (84 + 4) 2 (R.1 (1 + 4) 2)) (1 + 4 + 1) (84 + 4 + 1) 0 0 12) (1 + 4 + 2) (84 + 4 + 2) 0 0 12) (84 + 7) 5 (R.1 (1 + 7) 5)) n2 := by rw [q2]; exact IC_cfg h6 (by decide)
    refine vR fun n3 q3 => ?_
    have i3 : IC (xCpy (xPut (xCpy (xCpy (xPut (xPut (xPut S 84 10 (R.1 1 10)) 84 11 (R.1 1 11)) (84 + 4) 2 (R.1 (1 + 4) 2)) (1 + 4 + 1) (84 + 4 + 1) 0 0 12) (1 + 4 + 2) (84 + 4 + 2) 0 0 12) (84 + 7) 5 (R.1 (1 + 7) 5)) (1 + 7 + 1) (84 + 7 + 1) 0 0 6) n3 := by rw [q3]; exact IC_kcpy i2 (by decide) (by decide)
    refine vR fun n4 q4 => ?_
    have i4 : IC (xCpy (xCpy (xPut (xCpy (xCpy (xPut (xPut (xPut S 84 10 (R.1 1 10)) 84 11 (R.1 1 11)) (84 + 4) 2 (R.1 (1 + 4) 2)) (1 + 4 + 1) (84 + 4 + 1) 0 0 12) (1 + 4 + 2) (84 + 4 + 2) 0 0 12) (84 + 7) 5 (R.1 (1 + 7) 5)) (1 + 7 + 1) (84 + 7 + 1) 0 0 6) (1 + 7 + 2) (84 + 7 + 2) 0 0 6) n4 := by rw [q4]; exact IC_kcpy i3 (by decide) (by decide)
    refine vR fun n5 q5 => ?_
    have i5 : IC (xCpy (xCpy (xCpy (xPut (xCpy (xCpy (xPut (xPut (xPut S 84 10 (R.1 1 10)) 84 11 (R.1 1 11)) (84 + 4) 2 (R.1 (1 + 4) 2)) (1 + 4 + 1) (84 + 4 + 1) 0 0 12) (1 + 4 + 2) (84 + 4 + 2) 0 0 12) (84 + 7) 5 (R.1 (1 + 7) 5)) (1 + 7 + 1) (84 + 7 + 1) 0 0 6) (1 + 7 + 2) (84 + 7 + 2) 0 0 6) (1 + 7 + 3) (84 + 7 + 3) 0 0 6) n5 := by rw [q5]; exact IC_kcpy i4 (by decide) (by decide)
    refine vR fun n6 q6 => ?_
    have i6 : IC (xCpy (xCpy (xCpy (xCpy (xPut (xCpy (xCpy (xPut (xPut (xPut S 84 10 (R.1 1 10)) 84 11 (R.1 1 11)) (84 + 4) 2 (R.1 (1 + 4) 2)) (1 + 4 + 1) (84 + 4 + 1) 0 0 12) (1 + 4 + 2) (84 + 4 + 2) 0 0 12) (84 + 7) 5 (R.1 (1 + 7) 5)) (1 + 7 + 1) (84 + 7 + 1) 0 0 6) (1 + 7 + 2) (84 + 7 + 2) 0 0 6) (1 + 7 + 3) (84 + 7 + 3) 0 0 6) (1 + 7 + 4) (84 + 7 + 4) 0 0 6) n6 := by rw [q6]; exact IC_kcpy i5 (by decide) (by decide)
    exact vOk_some i6
  refine vOk_bind (Q := IC (xCpy (xPut (xCpy (xCpy (xCpy (xCpy (xPut (xCpy (xCpy (xPut (xPut (xPut S 84 10 (R.1 1 10)) 84 11 (R.1 1 11)) (84 + 4) 2 (R.1 (1 + 4) 2)) (1 + 4 + 1) (84 + 4 + 1) 0 0 12) (1 + 4 + 2) (84 + 4 + 2) 0 0 12) (84 + 7) 5 (R.1 (1 + 7) 5)) (1 + 7 + 1) (84 + 7 + 1) 0 0 6) (1 + 7 + 2) (84 + 7 + 2) 0 0 6) (1 + 7 + 3) (84 + 7 + 3) 0 0 6) (1 + 7 + 4) (84 + 7 + 4) 0 0 6) (84 + 13) 1 (R.1 (1 + 13) 1)) (1 + 13 + 1) (84 + 13 + 1) 0 0 60)) ?_ fun m8 h8 => ?_
  · unfold fX4_copy fX4_copy_0
    refine vAl (x := R.1 (1 + 13) 1) (by rw [h7.kc (1 + 13) 1 (by decide), ← xC_pl (by omega), ← xC_pl (by omega), ← xC_pl (by omega), ← xC_pl (by omega), ← xP_pl (by omega), ← xC_pl (by omega), ← xC_pl (by omega), ← xP_pl (by omega), ← xP_pl (by omega), ← xP_pl (by omega)]; exact (sR (1 + 13) 1 (by omega) (by omega)).symm) ?_
    refine vR fun n2 q2 => ?_
    have i2 : IC (xPut (xCpy (xCpy (xCpy (xCpy (xPut (xCpy (xCpy (xPut (xPut (xPut S 84 10 (R.1 1 10)) 84 11 (R.1 1 11)) (84 + 4) 2 (R.1 (1 + 4) 2)) (1 + 4 + 1) (84 + 4 + 1) 0 0 12) (1 + 4 + 2) (84 + 4 + 2) 0 0 12) (84 + 7) 5 (R.1 (1 + 7) 5)) (1 + 7 + 1) (84 + 7 + 1) 0 0 6) (1 + 7 + 2) (84 + 7 + 2) 0 0 6) (1 + 7 + 3) (84 + 7 + 3) 0 0 6) (1 + 7 + 4) (84 + 7 + 4) 0 0 6) (84 + 13) 1 (R.1 (1 + 13) 1)) n2 := by rw [q2]; exact IC_cfg h7 (by decide)
    refine vR fun n3 q3 => ?_
    have i3 : IC (xCpy (xPut (xCpy (xCpy (xCpy (xCpy (xPut (xCpy (xCpy (xPut (xPut (xPut S 84 10 (R.1 1 10)) 84 11 (R.1 1 11)) (84 + 4) 2 (R.1 (1 + 4) 2)) (1 + 4 + 1) (84 + 4 + 1) 0 0 12) (1 + 4 + 2) (84 + 4 + 2) 0 0 12) (84 + 7) 5 (R.1 (1 + 7) 5)) (1 + 7 + 1) (84 + 7 + 1) 0 0 6) (1 + 7 + 2) (84 + 7 + 2) 0 0 6) (1 + 7 + 3) (84 + 7 + 3) 0 0 6) (1 + 7 + 4) (84 + 7 + 4) 0 0 6) (84 + 13) 1 (R.1 (1 + 13) 1)) (1 + 13 + 1) (84 + 13 + 1) 0 0 60) n3 := by rw [q3]; exact IC_kcpy i2 (by decide) (by decide)
    exact vOk_some i3
  have zS : ∀ b j, ¬ (b = 84 ∧ (j = 10 ∨ j = 11)) → ¬ (84 + 4 ≤ b ∧ b ≤ 84 + 14) → (xCpy (xPut (xCpy (xCpy (xCpy (xCpy (xPut (xCpy (xCpy (xPut (xPut (xPut S 84 10 (R.1 1 10)) 84 11 (R.1 1 11)) (84 + 4) 2 (R.1 (1 + 4) 2)) (1 + 4 + 1) (84 + 4 + 1) 0 0 12) (1 + 4 + 2) (84 + 4 + 2) 0 0 12) (84 + 7) 5 (R.1 (1 + 7) 5)) (1 + 7 + 1) (84 + 7 + 1) 0 0 6) (1 + 7 + 2) (84 + 7 + 2) 0 0 6) (1 + 7 + 3) (84 + 7 + 3) 0 0 6) (1 + 7 + 4) (84 + 7 + 4) 0 0 6) (84 + 13) 1 (R.1 (1 + 13) 1)) (1 + 13 + 1) (84 + 13 + 1) 0 0 60).1 b j = S.1 b j := fun b j hb hc => by
    rw [← xC_pl (by omega), ← xP_pl (by omega), ← xC_pl (by omega), ← xC_pl (by omega), ← xC_pl (by omega), ← xC_pl (by omega), ← xP_pl (by omega), ← xC_pl (by omega), ← xC_pl (by omega), ← xP_pl (by omega)]
    show (if b = 84 ∧ j = 11 then _ else if b = 84 ∧ j = 10 then _ else S.1 b j) = _
    rw [if_neg (by omega), if_neg (by omega)]
  have cS : ∀ j, 6 ≤ j → j ≤ 9 → S.1 84 j = R.1 1 j := fun j h1 h2 => by
    rw [s1 84 j (by omega)]
    show (if 84 = 84 ∧ j = 9 then R.1 1 9 else if 84 = 84 ∧ j = 8 then R.1 1 8 else if 84 = 84 ∧ j = 7 then R.1 1 7 else if 84 = 84 ∧ j = 6 then R.1 1 6 else R.1 84 j) = _
    rcases (show j = 6 ∨ j = 7 ∨ j = 8 ∨ j = 9 by omega) with rfl | rfl | rfl | rfl
    · rw [if_neg (by omega), if_neg (by omega), if_neg (by omega), if_pos ⟨rfl, rfl⟩]
    · rw [if_neg (by omega), if_neg (by omega), if_pos ⟨rfl, rfl⟩]
    · rw [if_neg (by omega), if_pos ⟨rfl, rfl⟩]
    · rw [if_pos ⟨rfl, rfl⟩]
  refine vOk_some ⟨(xCpy (xPut (xCpy (xCpy (xCpy (xCpy (xPut (xCpy (xCpy (xPut (xPut (xPut S 84 10 (R.1 1 10)) 84 11 (R.1 1 11)) (84 + 4) 2 (R.1 (1 + 4) 2)) (1 + 4 + 1) (84 + 4 + 1) 0 0 12) (1 + 4 + 2) (84 + 4 + 2) 0 0 12) (84 + 7) 5 (R.1 (1 + 7) 5)) (1 + 7 + 1) (84 + 7 + 1) 0 0 6) (1 + 7 + 2) (84 + 7 + 2) 0 0 6) (1 + 7 + 3) (84 + 7 + 3) 0 0 6) (1 + 7 + 4) (84 + 7 + 4) 0 0 6) (84 + 13) 1 (R.1 (1 + 13) 1)) (1 + 13 + 1) (84 + 13 + 1) 0 0 60), ⟨s0, fun b j hb => ?_, ⟨?_, ?_, ?_, ?_, ?_, ?_, ?_⟩, fun k hk hc => ?_⟩, ⟨⟨?_, ?_⟩, fun j hj => ⟨?_, ?_⟩, fun j hj => ⟨?_, ?_, ?_, ?_⟩, fun j hj => ?_⟩, h8⟩
  · rw [zS b j (by omega) (by omega)]
    exact sR b j (by omega) (by omega)
  · rw [zS _ _ (by omega) (by omega)]; exact cS 6 (by omega) (by omega)
  · rw [zS _ _ (by omega) (by omega)]; exact cS 7 (by omega) (by omega)
  · rw [zS _ _ (by omega) (by omega)]; exact cS 8 (by omega) (by omega)
  · rw [zS _ _ (by omega) (by omega)]; exact cS 9 (by omega) (by omega)
  · rw [← xC_pl (by omega), ← xP_pl (by omega), ← xC_pl (by omega), ← xC_pl (by omega), ← xC_pl (by omega), ← xC_pl (by omega), ← xP_pl (by omega), ← xC_pl (by omega), ← xC_pl (by omega)]
    exact xP_eq.symm
  · rw [← xC_pl (by omega), ← xP_pl (by omega), ← xC_pl (by omega), ← xC_pl (by omega), ← xC_pl (by omega), ← xC_pl (by omega)]
    exact xP_eq.symm
  · rw [← xC_pl (by omega)]
    exact xP_eq.symm
  · have c8 : (cpS 84 1 R).1 84 8 = R.1 1 8 := (xP_eq.trans (xP_sl (by omega))).symm
    rw [zS _ _ (by omega) (by omega), s2 k (by omega) hk (by rw [c8]; exact hc)]
    have hb : 1 + 33 + 2 * k ≠ 84 := by omega
    exact ((xP_pl hb).trans ((xP_pl hb).trans ((xP_pl hb).trans (xP_pl hb)))).symm
  · rw [← xC_pl (by omega), ← xP_pl (by omega), ← xC_pl (by omega), ← xC_pl (by omega), ← xC_pl (by omega), ← xC_pl (by omega), ← xP_pl (by omega), ← xC_pl (by omega), ← xC_pl (by omega), ← xP_pl (by omega), ← xP_sl (by omega)]
    exact xP_eq.symm
  · rw [← xC_pl (by omega), ← xP_pl (by omega), ← xC_pl (by omega), ← xC_pl (by omega), ← xC_pl (by omega), ← xC_pl (by omega), ← xP_pl (by omega), ← xC_pl (by omega), ← xC_pl (by omega), ← xP_pl (by omega)]
    exact xP_eq.symm
  · show (xCpy (xPut (xCpy (xCpy (xCpy (xCpy (xPut (xCpy (xCpy (xPut (xPut (xPut S 84 10 (R.1 1 10)) 84 11 (R.1 1 11)) (84 + 4) 2 (R.1 (1 + 4) 2)) (1 + 4 + 1) (84 + 4 + 1) 0 0 12) (1 + 4 + 2) (84 + 4 + 2) 0 0 12) (84 + 7) 5 (R.1 (1 + 7) 5)) (1 + 7 + 1) (84 + 7 + 1) 0 0 6) (1 + 7 + 2) (84 + 7 + 2) 0 0 6) (1 + 7 + 3) (84 + 7 + 3) 0 0 6) (1 + 7 + 4) (84 + 7 + 4) 0 0 6) (84 + 13) 1 (R.1 (1 + 13) 1)) (1 + 13 + 1) (84 + 13 + 1) 0 0 60).1 (84 + 4 + 1) j = R.1 (1 + 4 + 1) j
    rw [← xC_pl (by omega), ← xP_pl (by omega), ← xC_pl (by omega), ← xC_pl (by omega), ← xC_pl (by omega), ← xC_pl (by omega), ← xP_pl (by omega), ← xC_pl (by omega), ← xC_eq hj, ← xP_pl (by omega), ← xP_pl (by omega), ← xP_pl (by omega)]
    exact sR _ _ (by omega) (by omega)
  · show (xCpy (xPut (xCpy (xCpy (xCpy (xCpy (xPut (xCpy (xCpy (xPut (xPut (xPut S 84 10 (R.1 1 10)) 84 11 (R.1 1 11)) (84 + 4) 2 (R.1 (1 + 4) 2)) (1 + 4 + 1) (84 + 4 + 1) 0 0 12) (1 + 4 + 2) (84 + 4 + 2) 0 0 12) (84 + 7) 5 (R.1 (1 + 7) 5)) (1 + 7 + 1) (84 + 7 + 1) 0 0 6) (1 + 7 + 2) (84 + 7 + 2) 0 0 6) (1 + 7 + 3) (84 + 7 + 3) 0 0 6) (1 + 7 + 4) (84 + 7 + 4) 0 0 6) (84 + 13) 1 (R.1 (1 + 13) 1)) (1 + 13 + 1) (84 + 13 + 1) 0 0 60).1 (84 + 4 + 2) j = R.1 (1 + 4 + 2) j
    rw [← xC_pl (by omega), ← xP_pl (by omega), ← xC_pl (by omega), ← xC_pl (by omega), ← xC_pl (by omega), ← xC_pl (by omega), ← xP_pl (by omega), ← xC_eq hj, ← xC_pl (by omega), ← xP_pl (by omega), ← xP_pl (by omega), ← xP_pl (by omega)]
    exact sR _ _ (by omega) (by omega)
  · show (xCpy (xPut (xCpy (xCpy (xCpy (xCpy (xPut (xCpy (xCpy (xPut (xPut (xPut S 84 10 (R.1 1 10)) 84 11 (R.1 1 11)) (84 + 4) 2 (R.1 (1 + 4) 2)) (1 + 4 + 1) (84 + 4 + 1) 0 0 12) (1 + 4 + 2) (84 + 4 + 2) 0 0 12) (84 + 7) 5 (R.1 (1 + 7) 5)) (1 + 7 + 1) (84 + 7 + 1) 0 0 6) (1 + 7 + 2) (84 + 7 + 2) 0 0 6) (1 + 7 + 3) (84 + 7 + 3) 0 0 6) (1 + 7 + 4) (84 + 7 + 4) 0 0 6) (84 + 13) 1 (R.1 (1 + 13) 1)) (1 + 13 + 1) (84 + 13 + 1) 0 0 60).1 (84 + 7 + 1) j = R.1 (1 + 7 + 1) j
    rw [← xC_pl (by omega), ← xP_pl (by omega), ← xC_pl (by omega), ← xC_pl (by omega), ← xC_pl (by omega), ← xC_eq hj, ← xP_pl (by omega), ← xC_pl (by omega), ← xC_pl (by omega), ← xP_pl (by omega), ← xP_pl (by omega), ← xP_pl (by omega)]
    exact sR _ _ (by omega) (by omega)
  · show (xCpy (xPut (xCpy (xCpy (xCpy (xCpy (xPut (xCpy (xCpy (xPut (xPut (xPut S 84 10 (R.1 1 10)) 84 11 (R.1 1 11)) (84 + 4) 2 (R.1 (1 + 4) 2)) (1 + 4 + 1) (84 + 4 + 1) 0 0 12) (1 + 4 + 2) (84 + 4 + 2) 0 0 12) (84 + 7) 5 (R.1 (1 + 7) 5)) (1 + 7 + 1) (84 + 7 + 1) 0 0 6) (1 + 7 + 2) (84 + 7 + 2) 0 0 6) (1 + 7 + 3) (84 + 7 + 3) 0 0 6) (1 + 7 + 4) (84 + 7 + 4) 0 0 6) (84 + 13) 1 (R.1 (1 + 13) 1)) (1 + 13 + 1) (84 + 13 + 1) 0 0 60).1 (84 + 7 + 2) j = R.1 (1 + 7 + 2) j
    rw [← xC_pl (by omega), ← xP_pl (by omega), ← xC_pl (by omega), ← xC_pl (by omega), ← xC_eq hj, ← xC_pl (by omega), ← xP_pl (by omega), ← xC_pl (by omega), ← xC_pl (by omega), ← xP_pl (by omega), ← xP_pl (by omega), ← xP_pl (by omega)]
    exact sR _ _ (by omega) (by omega)
  · show (xCpy (xPut (xCpy (xCpy (xCpy (xCpy (xPut (xCpy (xCpy (xPut (xPut (xPut S 84 10 (R.1 1 10)) 84 11 (R.1 1 11)) (84 + 4) 2 (R.1 (1 + 4) 2)) (1 + 4 + 1) (84 + 4 + 1) 0 0 12) (1 + 4 + 2) (84 + 4 + 2) 0 0 12) (84 + 7) 5 (R.1 (1 + 7) 5)) (1 + 7 + 1) (84 + 7 + 1) 0 0 6) (1 + 7 + 2) (84 + 7 + 2) 0 0 6) (1 + 7 + 3) (84 + 7 + 3) 0 0 6) (1 + 7 + 4) (84 + 7 + 4) 0 0 6) (84 + 13) 1 (R.1 (1 + 13) 1)) (1 + 13 + 1) (84 + 13 + 1) 0 0 60).1 (84 + 7 + 3) j = R.1 (1 + 7 + 3) j
    rw [← xC_pl (by omega), ← xP_pl (by omega), ← xC_pl (by omega), ← xC_eq hj, ← xC_pl (by omega), ← xC_pl (by omega), ← xP_pl (by omega), ← xC_pl (by omega), ← xC_pl (by omega), ← xP_pl (by omega), ← xP_pl (by omega), ← xP_pl (by omega)]
    exact sR _ _ (by omega) (by omega)
  · show (xCpy (xPut (xCpy (xCpy (xCpy (xCpy (xPut (xCpy (xCpy (xPut (xPut (xPut S 84 10 (R.1 1 10)) 84 11 (R.1 1 11)) (84 + 4) 2 (R.1 (1 + 4) 2)) (1 + 4 + 1) (84 + 4 + 1) 0 0 12) (1 + 4 + 2) (84 + 4 + 2) 0 0 12) (84 + 7) 5 (R.1 (1 + 7) 5)) (1 + 7 + 1) (84 + 7 + 1) 0 0 6) (1 + 7 + 2) (84 + 7 + 2) 0 0 6) (1 + 7 + 3) (84 + 7 + 3) 0 0 6) (1 + 7 + 4) (84 + 7 + 4) 0 0 6) (84 + 13) 1 (R.1 (1 + 13) 1)) (1 + 13 + 1) (84 + 13 + 1) 0 0 60).1 (84 + 7 + 4) j = R.1 (1 + 7 + 4) j
    rw [← xC_pl (by omega), ← xP_pl (by omega), ← xC_eq hj, ← xC_pl (by omega), ← xC_pl (by omega), ← xC_pl (by omega), ← xP_pl (by omega), ← xC_pl (by omega), ← xC_pl (by omega), ← xP_pl (by omega), ← xP_pl (by omega), ← xP_pl (by omega)]
    exact sR _ _ (by omega) (by omega)
  · show (xCpy (xPut (xCpy (xCpy (xCpy (xCpy (xPut (xCpy (xCpy (xPut (xPut (xPut S 84 10 (R.1 1 10)) 84 11 (R.1 1 11)) (84 + 4) 2 (R.1 (1 + 4) 2)) (1 + 4 + 1) (84 + 4 + 1) 0 0 12) (1 + 4 + 2) (84 + 4 + 2) 0 0 12) (84 + 7) 5 (R.1 (1 + 7) 5)) (1 + 7 + 1) (84 + 7 + 1) 0 0 6) (1 + 7 + 2) (84 + 7 + 2) 0 0 6) (1 + 7 + 3) (84 + 7 + 3) 0 0 6) (1 + 7 + 4) (84 + 7 + 4) 0 0 6) (84 + 13) 1 (R.1 (1 + 13) 1)) (1 + 13 + 1) (84 + 13 + 1) 0 0 60).1 (84 + 13 + 1) j = R.1 (1 + 13 + 1) j
    rw [← xC_eq hj, ← xP_pl (by omega), ← xC_pl (by omega), ← xC_pl (by omega), ← xC_pl (by omega), ← xC_pl (by omega), ← xP_pl (by omega), ← xC_pl (by omega), ← xC_pl (by omega), ← xP_pl (by omega), ← xP_pl (by omega), ← xP_pl (by omega)]
    exact sR _ _ (by omega) (by omega)
theorem kckB : ∀ k : Nat, k < 10 → KC (84 + 33 + 2 * k) 1 = true := by decide +kernel
theorem cm103_B : ∀ (fuel : Nat), ∀ (l2 : Int32) (R m : xMem), ((0 ≤ l2.toInt ∧ l2.toInt ≤ 10)) → IC R m → 2147483648 - l2.toInt < (fuel : Int) → vOk (CL 1 84 l2.toNatClampNeg R) (fX9_copyMoving_103 1 84 fuel l2 m) := by
  intro fuel
  induction fuel with
  | zero =>
    intro l2 R m hp hI hmu
    exfalso; omega
  | succ fuel ih =>
    intro l2 R m hp hI hmu
    have tl2 := tiB l2
    have c0 : (0 : Int32).toInt = 0 := rfl
    have c1 : (1 : Int32).toInt = 1 := rfl
    have c10 : (10 : Int32).toInt = 10 := rfl
    have w2 : l2.toNatClampNeg = l2.toInt.toNat := rfl
    rw [fX9_copyMoving_103]
    refine vAl (x := R.1 1 8) (hI.kc 1 8 (by decide)).symm ?_
    refine vLe (fun h2 => ?_) (fun h3 => ?_)
    · unfold fX9_copyMoving_138
      have cF := xFu
      refine vOk_mono (cm140_s (show 1 ∈ pStation by decide) (show 84 ∈ pStation by decide) _ _ _ (by omega) hI (by omega)) fun m1 h1 => ?_
      exact ⟨R, h1, rfl, fun _ _ _ => rfl, fun k _ _ _ => by exfalso; omega, fun _ _ => rfl⟩
    · refine vLe (fun h4 => ?_) (fun h5 => ?_)
      · unfold fX9_copyMoving_138
        have cF := xFu
        refine vOk_mono (cm140_s (show 1 ∈ pStation by decide) (show 84 ∈ pStation by decide) _ _ _ (by omega) hI (by omega)) fun m1 h1 => ?_
        exact ⟨R, h1, rfl, fun _ _ _ => rfl, fun k _ _ _ => by exfalso; omega, fun _ _ => rfl⟩
      · refine vIn (by omega) (by omega) fun n6 => ?_
        refine vR fun r7 er7 => ?_
        have hr7 : r7 ∈ pLink := by rw [er7]; exact (qStation_33_m2_10_inLink _ (show 1 ∈ pStation by decide) _ n6)
        refine vIn (by omega) (by omega) fun n8 => ?_
        refine vR fun r9 er9 => ?_
        have hr9 : r9 ∈ pLink := by rw [er9]; exact (qStation_33_m2_10_inLink _ (show 84 ∈ pStation by decide) _ n8)
        have k9 : m.1 r9 1 = R.1 r9 1 := hI.kc r9 1 (by rw [er9]; exact kckB _ n8)
        refine vOk_bind (copy3_c hr7 hr9 hI) fun m10 hm10 => ?_
        rw [k9] at hm10
        refine vA (by omega) fun v11 ev11 fv11 => ?_
        have w11 : v11.toNatClampNeg = v11.toInt.toNat := rfl
        refine vOk_mono (ih v11 _ m10 (by omega) hm10 (by omega)) fun m1 h1 => ?_
        obtain ⟨S, hS, s0, s1, s2, s3⟩ := h1
        refine ⟨S, hS, s0, fun b j hb => ?_, fun k k1 k2 k3 => ?_, fun k k1 => ?_⟩
        · rw [s1 b j hb]
          show (if b = r7 ∧ j = 1 then _ else R.1 b j) = _
          rw [if_neg (by omega)]
        · by_cases q : k = l2.toNatClampNeg
          · rw [s3 k (by omega)]
            show (if 1 + 33 + 2 * k = r7 ∧ 1 = 1 then R.1 r9 1 else _) = _
            rw [if_pos (by omega), show r9 = 84 + 33 + 2 * k by omega]
          · have z8 : (xPut R r7 1 (R.1 r9 1)).1 1 8 = R.1 1 8 := (xP_pl (by omega)).symm
            rw [s2 k (by omega) k2 (by rw [z8]; exact k3)]
            show (if 84 + 33 + 2 * k = r7 ∧ 1 = 1 then _ else R.1 (84 + 33 + 2 * k) 1) = _
            rw [if_neg (by omega)]
        · rw [s3 k (by omega)]
          show (if 1 + 33 + 2 * k = r7 ∧ 1 = 1 then _ else R.1 (1 + 33 + 2 * k) 1) = _
          rw [if_neg (by omega)]
theorem cm66_B {R : xMem} : ∀ (fuel : Nat), ∀ (l2 : Int32) (m : xMem), ((0 ≤ l2.toInt ∧ l2.toInt ≤ 6)) → IC R m → 2147483648 - l2.toInt < (fuel : Int) → vOk (CL 1 84 0 R) (fX9_copyMoving_66 1 84 fuel l2 m) := by
  intro fuel
  induction fuel with
  | zero =>
    intro l2 m hp hI hmu
    exfalso; omega
  | succ fuel ih =>
    intro l2 m hp hI hmu
    have tl2 := tiB l2
    have c0 : (0 : Int32).toInt = 0 := rfl
    have c1 : (1 : Int32).toInt = 1 := rfl
    have c6 : (6 : Int32).toInt = 6 := rfl
    rw [fX9_copyMoving_66]
    refine vR fun v1 ev1 => ?_
    have fv1 := tiB v1
    have cF := xFu
    refine vLe (fun h2 => ?_) (fun h3 => ?_)
    · unfold fX9_copyMoving_101
      exact cm103_B xFuel 0 R m (by omega) hI (by omega)
    · refine vLe (fun h4 => ?_) (fun h5 => ?_)
      · unfold fX9_copyMoving_101
        exact cm103_B xFuel 0 R m (by omega) hI (by omega)
      · refine vIn (by omega) (by omega) fun n6 => ?_
        refine vR fun r7 er7 => ?_
        have hr7 : r7 ∈ pHall := by rw [er7]; exact (qStation_15_m3_6_inHall _ (show 1 ∈ pStation by decide) _ n6)
        refine vIn (by omega) (by omega) fun n8 => ?_
        refine vR fun r9 er9 => ?_
        have hr9 : r9 ∈ pHall := by rw [er9]; exact (qStation_15_m3_6_inHall _ (show 84 ∈ pStation by decide) _ n8)
        refine vOk_bind (fX2_copy_s hr7 hr9 hI) fun m10 hm10 => ?_
        refine vA (by omega) fun v11 ev11 fv11 => ?_
        exact ih _ _ (by omega) hm10 (by omega)
theorem cm_B {R m : xMem} (hI : IC R m) : vOk (CL 1 84 0 (cpS 1 84 R)) (fX9_copyMoving 1 84 m) := by
  have c0 : (0 : Int32).toInt = 0 := rfl
  unfold fX9_copyMoving fX9_copyMoving_0
  refine vAl (x := R.1 84 6) (hI.kc 84 6 (by decide)).symm ?_
  refine vR fun m2 e2 => ?_
  have h2 : IC (xPut R 1 6 (R.1 84 6)) m2 := by rw [e2]; exact IC_cfg hI (by decide)
  refine vAl (x := R.1 84 7) (by rw [h2.kc 84 7 (by decide)]; exact xP_pl (by omega)) ?_
  refine vR fun m4 e4 => ?_
  have h4 : IC (xPut (xPut R 1 6 (R.1 84 6)) 1 7 (R.1 84 7)) m4 := by rw [e4]; exact IC_cfg h2 (by decide)
  refine vAl (x := R.1 84 8) (by rw [h4.kc 84 8 (by decide)]; exact (xP_pl (by omega)).trans (xP_pl (by omega))) ?_
  refine vR fun m6 e6 => ?_
  have h6 : IC (xPut (xPut (xPut R 1 6 (R.1 84 6)) 1 7 (R.1 84 7)) 1 8 (R.1 84 8)) m6 := by rw [e6]; exact IC_cfg h4 (by decide)
  refine vAl (x := R.1 84 9) (by rw [h6.kc 84 9 (by decide)]; exact (xP_pl (by omega)).trans ((xP_pl (by omega)).trans (xP_pl (by omega)))) ?_
  refine vR fun m8 e8 => ?_
  have h8 : IC (cpS 1 84 R) m8 := by rw [e8]; exact IC_cfg h6 (by decide)
  refine vAny fun v9 => ?_
  refine vR fun m10 e10 => ?_
  have h10 : IC (cpS 1 84 R) m10 := by rw [e10]; exact IC_put h8 (qStation_ok12 _ (show 1 ∈ pStation by decide))
  refine vAny fun v11 => ?_
  refine vR fun m12 e12 => ?_
  have h12 : IC (cpS 1 84 R) m12 := by rw [e12]; exact IC_put h10 (qStation_ok13 _ (show 1 ∈ pStation by decide))
  refine vAny fun v13 => ?_
  refine vR fun m14 e14 => ?_
  have h14 : IC (cpS 1 84 R) m14 := by rw [e14]; exact IC_put h12 (qStation_ok14 _ (show 1 ∈ pStation by decide))
  refine vAny fun v15 => ?_
  refine vR fun m16 e16 => ?_
  have h16 : IC (cpS 1 84 R) m16 := by rw [e16]; exact IC_put h14 (qStation_ok15 _ (show 1 ∈ pStation by decide))
  have cF := xFu
  exact cm66_B _ _ _ (by omega) h16 (by omega)
theorem copyAll_B {R m : xMem} (hI : IC R m) : vOk (fun m1 => ∃ T, CA 1 84 R T ∧ CX 1 84 R T ∧ IC T m1) (fX9_copyAll 1 84 m) := by
  unfold fX9_copyAll fX9_copyAll_0
  refine vOk_bind (cm_B hI) fun m1 h1 => ?_
  obtain ⟨S, hS, s0, s1, s2, _⟩ := h1
  have sR : ∀ b j, ¬ (b = 1 ∧ 6 ≤ j ∧ j ≤ 9) → ¬ (j = 1 ∧ 1 + 33 ≤ b ∧ b < 1 + 53) → S.1 b j = R.1 b j := fun b j hb hj => by
    rw [s1 b j hj]
    show (if b = 1 ∧ j = 9 then _ else if b = 1 ∧ j = 8 then _ else if b = 1 ∧ j = 7 then _ else if b = 1 ∧ j = 6 then _ else R.1 b j) = _
    rw [if_neg (by omega), if_neg (by omega), if_neg (by omega), if_neg (by omega)]
  refine vAl (x := R.1 84 10) (by rw [hS.kc 84 10 (by decide)]; exact (sR 84 10 (by omega) (by omega)).symm) ?_
  refine vR fun m3 e3 => ?_
  have h3 : IC (xPut S 1 10 (R.1 84 10)) m3 := by rw [e3]; exact IC_cfg hS (by decide)
  refine vAl (x := R.1 84 11) (by rw [h3.kc 84 11 (by decide), ← xP_pl (by omega)]; exact (sR 84 11 (by omega) (by omega)).symm) ?_
  refine vR fun m5 e5 => ?_
  have h5 : IC (xPut (xPut S 1 10 (R.1 84 10)) 1 11 (R.1 84 11)) m5 := by rw [e5]; exact IC_cfg h3 (by decide)
  refine vOk_bind (Q := IC (xCpy (xCpy (xPut (xPut (xPut S 1 10 (R.1 84 10)) 1 11 (R.1 84 11)) (1 + 4) 2 (R.1 (84 + 4) 2)) (84 + 4 + 1) (1 + 4 + 1) 0 0 12) (84 + 4 + 2) (1 + 4 + 2) 0 0 12)) ?_ fun m6 h6 => ?_
  · unfold fX1_copy fX1_copy_0
    refine vAl (x := R.1 (84 + 4) 2) (by rw [h5.kc (84 + 4) 2 (by decide), ← xP_pl (by omega), ← xP_pl (by omega)]; exact (sR (84 + 4) 2 (by omega) (by omega)).symm) ?_
    refine vR fun n2 q2 => ?_
    have i2 : IC (xPut (xPut (xPut S 1 10 (R.1 84 10)) 1 11 (R.1 84 11)) (1 + 4) 2 (R.1 (84 + 4) 2)) n2 := by rw [q2]; exact IC_cfg h5 (by decide)
    refine vR fun n3 q3 => ?_
    have i3 : IC (xCpy (xPut (xPut (xPut S 1 10 (R.1 84 10)) 1 11 (R.1 84 11)) (1 + 4) 2 (R.1 (84 + 4) 2)) (84 + 4 + 1) (1 + 4 + 1) 0 0 12) n3 := by rw [q3]; exact IC_kcpy i2 (by decide) (by decide)
    refine vR fun n4 q4 => ?_
    have i4 : IC (xCpy (xCpy (xPut (xPut (xPut S 1 10 (R.1 84 10)) 1 11 (R.1 84 11)) (1 + 4) 2 (R.1 (84 + 4) 2)) (84 + 4 + 1) (1 + 4 + 1) 0 0 12) (84 + 4 + 2) (1 + 4 + 2) 0 0 12) n4 := by rw [q4]; exact IC_kcpy i3 (by decide) (by decide)
    exact vOk_some i4
  refine vOk_bind (Q := IC (xCpy (xCpy (xCpy (xCpy (xPut (xCpy (xCpy (xPut (xPut (xPut S 1 10 (R.1 84 10)) 1 11 (R.1 84 11)) (1 + 4) 2 (R.1 (84 + 4) 2)) (84 + 4 + 1) (1 + 4 + 1) 0 0 12) (84 + 4 + 2) (1 + 4 + 2) 0 0 12) (1 + 7) 5 (R.1 (84 + 7) 5)) (84 + 7 + 1) (1 + 7 + 1) 0 0 6) (84 + 7 + 2) (1 + 7 + 2) 0 0 6) (84 + 7 + 3) (1 + 7 + 3) 0 0 6) (84 + 7 + 4) (1 + 7 + 4) 0 0 6)) ?_ fun m7 h7 => ?_
  · unfold fX5_copy fX5_copy_0
    refine vAl (x := R.1 (84 + 7) 5) (by rw [h6.kc (84 + 7) 5 (by decide), ← xC_pl (by omega), ← xC_pl (by omega), ← xP_pl (by omega), ← xP_pl (by omega), ← xP_pl (by omega)]; exact (sR (84 + 7) 5 (by omega) (by omega)).symm) ?_
    refine vR fun n2 q2 => ?_
    have i2 : IC (xPut (xCpy (xCpy (xPut (xPut (xPut S 1 10 (R.1 84 10)) 1 11 (R.1 84 11)) (1 + 4) 2 (R.1 (84 + 4) 2)) (84 + 4 + 1) (1 + 4 + 1) 0 0 12) (84 + 4 + 2) (1 + 4 + 2) 0 0 12) (1 + 7) 5 (R.1 (84 + 7) 5)) n2 := by rw [q2]; exact IC_cfg h6 (by decide)
    refine vR fun n3 q3 => ?_
    have i3 : IC (xCpy (xPut (xCpy (xCpy (xPut (xPut (xPut S 1 10 (R.1 84 10)) 1 11 (R.1 84 11)) (1 + 4) 2 (R.1 (84 + 4) 2)) (84 + 4 + 1) (1 + 4 + 1) 0 0 12) (84 + 4 + 2) (1 + 4 + 2) 0 0 12) (1 + 7) 5 (R.1 (84 + 7) 5)) (84 + 7 + 1) (1 + 7 + 1) 0 0 6) n3 := by rw [q3]; exact IC_kcpy i2 (by decide) (by decide)
    refine vR fun n4 q4 => ?_
    have i4 : IC (xCpy (xCpy (xPut (xCpy (xCpy (xPut (xPut (xPut S 1 10 (R.1 84 10)) 1 11 (R.1 84 11)) (1 + 4) 2 (R.1 (84 + 4) 2)) (84 + 4 + 1) (1 + 4 + 1) 0 0 12) (84 + 4 + 2) (1 + 4 + 2) 0 0 12) (1 + 7) 5 (R.1 (84 + 7) 5)) (84 + 7 + 1) (1 + 7 + 1) 0 0 6) (84 + 7 + 2) (1 + 7 + 2) 0 0 6) n4 := by rw [q4]; exact IC_kcpy i3 (by decide) (by decide)
    refine vR fun n5 q5 => ?_
    have i5 : IC (xCpy (xCpy (xCpy (xPut (xCpy (xCpy (xPut (xPut (xPut S 1 10 (R.1 84 10)) 1 11 (R.1 84 11)) (1 + 4) 2 (R.1 (84 + 4) 2)) (84 + 4 + 1) (1 + 4 + 1) 0 0 12) (84 + 4 + 2) (1 + 4 + 2) 0 0 12) (1 + 7) 5 (R.1 (84 + 7) 5)) (84 + 7 + 1) (1 + 7 + 1) 0 0 6) (84 + 7 + 2) (1 + 7 + 2) 0 0 6) (84 + 7 + 3) (1 + 7 + 3) 0 0 6) n5 := by rw [q5]; exact IC_kcpy i4 (by decide) (by decide)
    refine vR fun n6 q6 => ?_
    have i6 : IC (xCpy (xCpy (xCpy (xCpy (xPut (xCpy (xCpy (xPut (xPut (xPut S 1 10 (R.1 84 10)) 1 11 (R.1 84 11)) (1 + 4) 2 (R.1 (84 + 4) 2)) (84 + 4 + 1) (1 + 4 + 1) 0 0 12) (84 + 4 + 2) (1 + 4 + 2) 0 0 12) (1 + 7) 5 (R.1 (84 + 7) 5)) (84 + 7 + 1) (1 + 7 + 1) 0 0 6) (84 + 7 + 2) (1 + 7 + 2) 0 0 6) (84 + 7 + 3) (1 + 7 + 3) 0 0 6) (84 + 7 + 4) (1 + 7 + 4) 0 0 6) n6 := by rw [q6]; exact IC_kcpy i5 (by decide) (by decide)
    exact vOk_some i6
  refine vOk_bind (Q := IC (xCpy (xPut (xCpy (xCpy (xCpy (xCpy (xPut (xCpy (xCpy (xPut (xPut (xPut S 1 10 (R.1 84 10)) 1 11 (R.1 84 11)) (1 + 4) 2 (R.1 (84 + 4) 2)) (84 + 4 + 1) (1 + 4 + 1) 0 0 12) (84 + 4 + 2) (1 + 4 + 2) 0 0 12) (1 + 7) 5 (R.1 (84 + 7) 5)) (84 + 7 + 1) (1 + 7 + 1) 0 0 6) (84 + 7 + 2) (1 + 7 + 2) 0 0 6) (84 + 7 + 3) (1 + 7 + 3) 0 0 6) (84 + 7 + 4) (1 + 7 + 4) 0 0 6) (1 + 13) 1 (R.1 (84 + 13) 1)) (84 + 13 + 1) (1 + 13 + 1) 0 0 60)) ?_ fun m8 h8 => ?_
  · unfold fX4_copy fX4_copy_0
    refine vAl (x := R.1 (84 + 13) 1) (by rw [h7.kc (84 + 13) 1 (by decide), ← xC_pl (by omega), ← xC_pl (by omega), ← xC_pl (by omega), ← xC_pl (by omega), ← xP_pl (by omega), ← xC_pl (by omega), ← xC_pl (by omega), ← xP_pl (by omega), ← xP_pl (by omega), ← xP_pl (by omega)]; exact (sR (84 + 13) 1 (by omega) (by omega)).symm) ?_
    refine vR fun n2 q2 => ?_
    have i2 : IC (xPut (xCpy (xCpy (xCpy (xCpy (xPut (xCpy (xCpy (xPut (xPut (xPut S 1 10 (R.1 84 10)) 1 11 (R.1 84 11)) (1 + 4) 2 (R.1 (84 + 4) 2)) (84 + 4 + 1) (1 + 4 + 1) 0 0 12) (84 + 4 + 2) (1 + 4 + 2) 0 0 12) (1 + 7) 5 (R.1 (84 + 7) 5)) (84 + 7 + 1) (1 + 7 + 1) 0 0 6) (84 + 7 + 2) (1 + 7 + 2) 0 0 6) (84 + 7 + 3) (1 + 7 + 3) 0 0 6) (84 + 7 + 4) (1 + 7 + 4) 0 0 6) (1 + 13) 1 (R.1 (84 + 13) 1)) n2 := by rw [q2]; exact IC_cfg h7 (by decide)
    refine vR fun n3 q3 => ?_
    have i3 : IC (xCpy (xPut (xCpy (xCpy (xCpy (xCpy (xPut (xCpy (xCpy (xPut (xPut (xPut S 1 10 (R.1 84 10)) 1 11 (R.1 84 11)) (1 + 4) 2 (R.1 (84 + 4) 2)) (84 + 4 + 1) (1 + 4 + 1) 0 0 12) (84 + 4 + 2) (1 + 4 + 2) 0 0 12) (1 + 7) 5 (R.1 (84 + 7) 5)) (84 + 7 + 1) (1 + 7 + 1) 0 0 6) (84 + 7 + 2) (1 + 7 + 2) 0 0 6) (84 + 7 + 3) (1 + 7 + 3) 0 0 6) (84 + 7 + 4) (1 + 7 + 4) 0 0 6) (1 + 13) 1 (R.1 (84 + 13) 1)) (84 + 13 + 1) (1 + 13 + 1) 0 0 60) n3 := by rw [q3]; exact IC_kcpy i2 (by decide) (by decide)
    exact vOk_some i3
  have zS : ∀ b j, ¬ (b = 1 ∧ (j = 10 ∨ j = 11)) → ¬ (1 + 4 ≤ b ∧ b ≤ 1 + 14) → (xCpy (xPut (xCpy (xCpy (xCpy (xCpy (xPut (xCpy (xCpy (xPut (xPut (xPut S 1 10 (R.1 84 10)) 1 11 (R.1 84 11)) (1 + 4) 2 (R.1 (84 + 4) 2)) (84 + 4 + 1) (1 + 4 + 1) 0 0 12) (84 + 4 + 2) (1 + 4 + 2) 0 0 12) (1 + 7) 5 (R.1 (84 + 7) 5)) (84 + 7 + 1) (1 + 7 + 1) 0 0 6) (84 + 7 + 2) (1 + 7 + 2) 0 0 6) (84 + 7 + 3) (1 + 7 + 3) 0 0 6) (84 + 7 + 4) (1 + 7 + 4) 0 0 6) (1 + 13) 1 (R.1 (84 + 13) 1)) (84 + 13 + 1) (1 + 13 + 1) 0 0 60).1 b j = S.1 b j := fun b j hb hc => by
    rw [← xC_pl (by omega), ← xP_pl (by omega), ← xC_pl (by omega), ← xC_pl (by omega), ← xC_pl (by omega), ← xC_pl (by omega), ← xP_pl (by omega), ← xC_pl (by omega), ← xC_pl (by omega), ← xP_pl (by omega)]
    show (if b = 1 ∧ j = 11 then _ else if b = 1 ∧ j = 10 then _ else S.1 b j) = _
    rw [if_neg (by omega), if_neg (by omega)]
  have cS : ∀ j, 6 ≤ j → j ≤ 9 → S.1 1 j = R.1 84 j := fun j h1 h2 => by
    rw [s1 1 j (by omega)]
    show (if 1 = 1 ∧ j = 9 then R.1 84 9 else if 1 = 1 ∧ j = 8 then R.1 84 8 else if 1 = 1 ∧ j = 7 then R.1 84 7 else if 1 = 1 ∧ j = 6 then R.1 84 6 else R.1 1 j) = _
    rcases (show j = 6 ∨ j = 7 ∨ j = 8 ∨ j = 9 by omega) with rfl | rfl | rfl | rfl
    · rw [if_neg (by omega), if_neg (by omega), if_neg (by omega), if_pos ⟨rfl, rfl⟩]
    · rw [if_neg (by omega), if_neg (by omega), if_pos ⟨rfl, rfl⟩]
    · rw [if_neg (by omega), if_pos ⟨rfl, rfl⟩]
    · rw [if_pos ⟨rfl, rfl⟩]
  refine vOk_some ⟨(xCpy (xPut (xCpy (xCpy (xCpy (xCpy (xPut (xCpy (xCpy (xPut (xPut (xPut S 1 10 (R.1 84 10)) 1 11 (R.1 84 11)) (1 + 4) 2 (R.1 (84 + 4) 2)) (84 + 4 + 1) (1 + 4 + 1) 0 0 12) (84 + 4 + 2) (1 + 4 + 2) 0 0 12) (1 + 7) 5 (R.1 (84 + 7) 5)) (84 + 7 + 1) (1 + 7 + 1) 0 0 6) (84 + 7 + 2) (1 + 7 + 2) 0 0 6) (84 + 7 + 3) (1 + 7 + 3) 0 0 6) (84 + 7 + 4) (1 + 7 + 4) 0 0 6) (1 + 13) 1 (R.1 (84 + 13) 1)) (84 + 13 + 1) (1 + 13 + 1) 0 0 60), ⟨s0, fun b j hb => ?_, ⟨?_, ?_, ?_, ?_, ?_, ?_, ?_⟩, fun k hk hc => ?_⟩, ⟨⟨?_, ?_⟩, fun j hj => ⟨?_, ?_⟩, fun j hj => ⟨?_, ?_, ?_, ?_⟩, fun j hj => ?_⟩, h8⟩
  · rw [zS b j (by omega) (by omega)]
    exact sR b j (by omega) (by omega)
  · rw [zS _ _ (by omega) (by omega)]; exact cS 6 (by omega) (by omega)
  · rw [zS _ _ (by omega) (by omega)]; exact cS 7 (by omega) (by omega)
  · rw [zS _ _ (by omega) (by omega)]; exact cS 8 (by omega) (by omega)
  · rw [zS _ _ (by omega) (by omega)]; exact cS 9 (by omega) (by omega)
  · rw [← xC_pl (by omega), ← xP_pl (by omega), ← xC_pl (by omega), ← xC_pl (by omega), ← xC_pl (by omega), ← xC_pl (by omega), ← xP_pl (by omega), ← xC_pl (by omega), ← xC_pl (by omega)]
    exact xP_eq.symm
  · rw [← xC_pl (by omega), ← xP_pl (by omega), ← xC_pl (by omega), ← xC_pl (by omega), ← xC_pl (by omega), ← xC_pl (by omega)]
    exact xP_eq.symm
  · rw [← xC_pl (by omega)]
    exact xP_eq.symm
  · have c8 : (cpS 1 84 R).1 1 8 = R.1 84 8 := (xP_eq.trans (xP_sl (by omega))).symm
    rw [zS _ _ (by omega) (by omega), s2 k (by omega) hk (by rw [c8]; exact hc)]
    have hb : 84 + 33 + 2 * k ≠ 1 := by omega
    exact ((xP_pl hb).trans ((xP_pl hb).trans ((xP_pl hb).trans (xP_pl hb)))).symm
  · rw [← xC_pl (by omega), ← xP_pl (by omega), ← xC_pl (by omega), ← xC_pl (by omega), ← xC_pl (by omega), ← xC_pl (by omega), ← xP_pl (by omega), ← xC_pl (by omega), ← xC_pl (by omega), ← xP_pl (by omega), ← xP_sl (by omega)]
    exact xP_eq.symm
  · rw [← xC_pl (by omega), ← xP_pl (by omega), ← xC_pl (by omega), ← xC_pl (by omega), ← xC_pl (by omega), ← xC_pl (by omega), ← xP_pl (by omega), ← xC_pl (by omega), ← xC_pl (by omega), ← xP_pl (by omega)]
    exact xP_eq.symm
  · show (xCpy (xPut (xCpy (xCpy (xCpy (xCpy (xPut (xCpy (xCpy (xPut (xPut (xPut S 1 10 (R.1 84 10)) 1 11 (R.1 84 11)) (1 + 4) 2 (R.1 (84 + 4) 2)) (84 + 4 + 1) (1 + 4 + 1) 0 0 12) (84 + 4 + 2) (1 + 4 + 2) 0 0 12) (1 + 7) 5 (R.1 (84 + 7) 5)) (84 + 7 + 1) (1 + 7 + 1) 0 0 6) (84 + 7 + 2) (1 + 7 + 2) 0 0 6) (84 + 7 + 3) (1 + 7 + 3) 0 0 6) (84 + 7 + 4) (1 + 7 + 4) 0 0 6) (1 + 13) 1 (R.1 (84 + 13) 1)) (84 + 13 + 1) (1 + 13 + 1) 0 0 60).1 (1 + 4 + 1) j = R.1 (84 + 4 + 1) j
    rw [← xC_pl (by omega), ← xP_pl (by omega), ← xC_pl (by omega), ← xC_pl (by omega), ← xC_pl (by omega), ← xC_pl (by omega), ← xP_pl (by omega), ← xC_pl (by omega), ← xC_eq hj, ← xP_pl (by omega), ← xP_pl (by omega), ← xP_pl (by omega)]
    exact sR _ _ (by omega) (by omega)
  · show (xCpy (xPut (xCpy (xCpy (xCpy (xCpy (xPut (xCpy (xCpy (xPut (xPut (xPut S 1 10 (R.1 84 10)) 1 11 (R.1 84 11)) (1 + 4) 2 (R.1 (84 + 4) 2)) (84 + 4 + 1) (1 + 4 + 1) 0 0 12) (84 + 4 + 2) (1 + 4 + 2) 0 0 12) (1 + 7) 5 (R.1 (84 + 7) 5)) (84 + 7 + 1) (1 + 7 + 1) 0 0 6) (84 + 7 + 2) (1 + 7 + 2) 0 0 6) (84 + 7 + 3) (1 + 7 + 3) 0 0 6) (84 + 7 + 4) (1 + 7 + 4) 0 0 6) (1 + 13) 1 (R.1 (84 + 13) 1)) (84 + 13 + 1) (1 + 13 + 1) 0 0 60).1 (1 + 4 + 2) j = R.1 (84 + 4 + 2) j
    rw [← xC_pl (by omega), ← xP_pl (by omega), ← xC_pl (by omega), ← xC_pl (by omega), ← xC_pl (by omega), ← xC_pl (by omega), ← xP_pl (by omega), ← xC_eq hj, ← xC_pl (by omega), ← xP_pl (by omega), ← xP_pl (by omega), ← xP_pl (by omega)]
    exact sR _ _ (by omega) (by omega)
  · show (xCpy (xPut (xCpy (xCpy (xCpy (xCpy (xPut (xCpy (xCpy (xPut (xPut (xPut S 1 10 (R.1 84 10)) 1 11 (R.1 84 11)) (1 + 4) 2 (R.1 (84 + 4) 2)) (84 + 4 + 1) (1 + 4 + 1) 0 0 12) (84 + 4 + 2) (1 + 4 + 2) 0 0 12) (1 + 7) 5 (R.1 (84 + 7) 5)) (84 + 7 + 1) (1 + 7 + 1) 0 0 6) (84 + 7 + 2) (1 + 7 + 2) 0 0 6) (84 + 7 + 3) (1 + 7 + 3) 0 0 6) (84 + 7 + 4) (1 + 7 + 4) 0 0 6) (1 + 13) 1 (R.1 (84 + 13) 1)) (84 + 13 + 1) (1 + 13 + 1) 0 0 60).1 (1 + 7 + 1) j = R.1 (84 + 7 + 1) j
    rw [← xC_pl (by omega), ← xP_pl (by omega), ← xC_pl (by omega), ← xC_pl (by omega), ← xC_pl (by omega), ← xC_eq hj, ← xP_pl (by omega), ← xC_pl (by omega), ← xC_pl (by omega), ← xP_pl (by omega), ← xP_pl (by omega), ← xP_pl (by omega)]
    exact sR _ _ (by omega) (by omega)
  · show (xCpy (xPut (xCpy (xCpy (xCpy (xCpy (xPut (xCpy (xCpy (xPut (xPut (xPut S 1 10 (R.1 84 10)) 1 11 (R.1 84 11)) (1 + 4) 2 (R.1 (84 + 4) 2)) (84 + 4 + 1) (1 + 4 + 1) 0 0 12) (84 + 4 + 2) (1 + 4 + 2) 0 0 12) (1 + 7) 5 (R.1 (84 + 7) 5)) (84 + 7 + 1) (1 + 7 + 1) 0 0 6) (84 + 7 + 2) (1 + 7 + 2) 0 0 6) (84 + 7 + 3) (1 + 7 + 3) 0 0 6) (84 + 7 + 4) (1 + 7 + 4) 0 0 6) (1 + 13) 1 (R.1 (84 + 13) 1)) (84 + 13 + 1) (1 + 13 + 1) 0 0 60).1 (1 + 7 + 2) j = R.1 (84 + 7 + 2) j
    rw [← xC_pl (by omega), ← xP_pl (by omega), ← xC_pl (by omega), ← xC_pl (by omega), ← xC_eq hj, ← xC_pl (by omega), ← xP_pl (by omega), ← xC_pl (by omega), ← xC_pl (by omega), ← xP_pl (by omega), ← xP_pl (by omega), ← xP_pl (by omega)]
    exact sR _ _ (by omega) (by omega)
  · show (xCpy (xPut (xCpy (xCpy (xCpy (xCpy (xPut (xCpy (xCpy (xPut (xPut (xPut S 1 10 (R.1 84 10)) 1 11 (R.1 84 11)) (1 + 4) 2 (R.1 (84 + 4) 2)) (84 + 4 + 1) (1 + 4 + 1) 0 0 12) (84 + 4 + 2) (1 + 4 + 2) 0 0 12) (1 + 7) 5 (R.1 (84 + 7) 5)) (84 + 7 + 1) (1 + 7 + 1) 0 0 6) (84 + 7 + 2) (1 + 7 + 2) 0 0 6) (84 + 7 + 3) (1 + 7 + 3) 0 0 6) (84 + 7 + 4) (1 + 7 + 4) 0 0 6) (1 + 13) 1 (R.1 (84 + 13) 1)) (84 + 13 + 1) (1 + 13 + 1) 0 0 60).1 (1 + 7 + 3) j = R.1 (84 + 7 + 3) j
    rw [← xC_pl (by omega), ← xP_pl (by omega), ← xC_pl (by omega), ← xC_eq hj, ← xC_pl (by omega), ← xC_pl (by omega), ← xP_pl (by omega), ← xC_pl (by omega), ← xC_pl (by omega), ← xP_pl (by omega), ← xP_pl (by omega), ← xP_pl (by omega)]
    exact sR _ _ (by omega) (by omega)
  · show (xCpy (xPut (xCpy (xCpy (xCpy (xCpy (xPut (xCpy (xCpy (xPut (xPut (xPut S 1 10 (R.1 84 10)) 1 11 (R.1 84 11)) (1 + 4) 2 (R.1 (84 + 4) 2)) (84 + 4 + 1) (1 + 4 + 1) 0 0 12) (84 + 4 + 2) (1 + 4 + 2) 0 0 12) (1 + 7) 5 (R.1 (84 + 7) 5)) (84 + 7 + 1) (1 + 7 + 1) 0 0 6) (84 + 7 + 2) (1 + 7 + 2) 0 0 6) (84 + 7 + 3) (1 + 7 + 3) 0 0 6) (84 + 7 + 4) (1 + 7 + 4) 0 0 6) (1 + 13) 1 (R.1 (84 + 13) 1)) (84 + 13 + 1) (1 + 13 + 1) 0 0 60).1 (1 + 7 + 4) j = R.1 (84 + 7 + 4) j
    rw [← xC_pl (by omega), ← xP_pl (by omega), ← xC_eq hj, ← xC_pl (by omega), ← xC_pl (by omega), ← xC_pl (by omega), ← xP_pl (by omega), ← xC_pl (by omega), ← xC_pl (by omega), ← xP_pl (by omega), ← xP_pl (by omega), ← xP_pl (by omega)]
    exact sR _ _ (by omega) (by omega)
  · show (xCpy (xPut (xCpy (xCpy (xCpy (xCpy (xPut (xCpy (xCpy (xPut (xPut (xPut S 1 10 (R.1 84 10)) 1 11 (R.1 84 11)) (1 + 4) 2 (R.1 (84 + 4) 2)) (84 + 4 + 1) (1 + 4 + 1) 0 0 12) (84 + 4 + 2) (1 + 4 + 2) 0 0 12) (1 + 7) 5 (R.1 (84 + 7) 5)) (84 + 7 + 1) (1 + 7 + 1) 0 0 6) (84 + 7 + 2) (1 + 7 + 2) 0 0 6) (84 + 7 + 3) (1 + 7 + 3) 0 0 6) (84 + 7 + 4) (1 + 7 + 4) 0 0 6) (1 + 13) 1 (R.1 (84 + 13) 1)) (84 + 13 + 1) (1 + 13 + 1) 0 0 60).1 (1 + 13 + 1) j = R.1 (84 + 13 + 1) j
    rw [← xC_eq hj, ← xP_pl (by omega), ← xC_pl (by omega), ← xC_pl (by omega), ← xC_pl (by omega), ← xC_pl (by omega), ← xP_pl (by omega), ← xC_pl (by omega), ← xC_pl (by omega), ← xP_pl (by omega), ← xP_pl (by omega), ← xP_pl (by omega)]
    exact sR _ _ (by omega) (by omega)
theorem image_c {R m : xMem} (hI : IC R m) : vOk (fun p : Int32 × xMem => p.1 = R.1 1 6 ∧ ∃ T, CA 84 1 R T ∧ CX 84 1 R T ∧ IC T p.2) (fX11_image 0 m) := by
  unfold fX11_image fX11_image_0
  refine vOk_bind (copyAll_I hI) fun m1 h1 => ?_
  obtain ⟨T, hT, hX, h⟩ := h1
  refine vAl (x := R.1 1 6) (by rw [h.kc 84 6 (by decide)]; exact hT.2.2.1.1.symm) ?_
  exact vOk_some ⟨rfl, T, hT, hX, h⟩
theorem back_c {R m : xMem} (hI : IC R m) : vOk (fun p : Int32 × xMem => p.1 = R.1 84 6 ∧ ∃ T, CA 1 84 R T ∧ CX 1 84 R T ∧ IC T p.2) (fX11_back 0 m) := by
  unfold fX11_back fX11_back_0
  refine vOk_bind (copyAll_B hI) fun m1 h1 => ?_
  obtain ⟨T, hT, hX, h⟩ := h1
  refine vAl (x := R.1 84 6) (by rw [h.kc 1 6 (by decide)]; exact hT.2.2.1.1.symm) ?_
  exact vOk_some ⟨rfl, T, hT, hX, h⟩
