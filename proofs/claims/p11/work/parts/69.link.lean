/-! the class: its configuration is written (links, bursts, seconds) -/
theorem of_vOk {α : Type} {o : Option α} {v : α} (h : vOk (fun p => p = v) o) : o = some v := by
  obtain ⟨r, e, rfl⟩ := h
  exact e
def qH (n x : Int32) : Int32 := if 0 ≤ x.toInt ∧ x.toInt < n.toInt then 1 else 0
theorem qH_1 {n x : Int32} (h : 0 ≤ x.toInt ∧ x.toInt < n.toInt) : qH n x = 1 := if_pos h
theorem qH_0 {n x : Int32} (h : ¬ (0 ≤ x.toInt ∧ x.toInt < n.toInt)) : qH n x = 0 := if_neg h
theorem v01 {β : Type} {P : β → Prop} {A B : Option β} (k : vOk P A) : vOk P (bif (decide ((1 : Int32) = 0) || decide ((1 : Int32) = 1)) then A else B) := k
theorem v00 {β : Type} {P : β → Prop} {A B : Option β} (k : vOk P A) : vOk P (bif (decide ((0 : Int32) = 0) || decide ((0 : Int32) = 1)) then A else B) := k
theorem hasHall_e {a0 : Nat} {a1 : Int32} {m : xMem} (h : 0 ≤ (m.1 a0 7).toInt ∧ (m.1 a0 7).toInt ≤ 6) : fX9_hasHall a0 a1 m = some (qH (m.1 a0 7) a1, m) := by
  have c0 : (0 : Int32).toInt = 0 := rfl
  have c6 : (6 : Int32).toInt = 6 := rfl
  refine of_vOk ?_
  unfold fX9_hasHall fX9_hasHall_0
  refine vLt (fun g1 => ?_) (fun g1 => ?_)
  · unfold fX9_hasHall_22 fX9_hasHall_23
    refine v00 (vOk_some ?_)
    rw [qH_0 (by omega)]
  · refine vR fun x ex => ?_
    refine vLe (fun g2 => ?_) (fun g2 => ?_)
    · unfold fX9_hasHall_22 fX9_hasHall_23
      refine v00 (vOk_some ?_)
      rw [qH_0 (by rw [← ex]; omega)]
    · refine vLe (fun g3 => ?_) (fun g3 => ?_)
      · exfalso; rw [← ex] at h; omega
      · unfold fX9_hasHall_23
        refine v01 (vOk_some ?_)
        rw [qH_1 (by rw [← ex]; omega)]
theorem qLink_ok2 : ∀ a ∈ pLink, okW (a) 2 := by decide +kernel
theorem qLink_ok3 : ∀ a ∈ pLink, okW (a) 3 := by decide +kernel
theorem qLink_ok4 : ∀ a ∈ pLink, okW (a) 4 := by decide +kernel
theorem qLink_ok5 : ∀ a ∈ pLink, okW (a) 5 := by decide +kernel
theorem qLink_bc1 : ∀ a ∈ pLink, BC (a) 1 = false := by decide +kernel
theorem build3_c {R : xMem} {a0 : Nat} {a1 : Int32} {a2 : Int32} {a3 : Int32} {a4 : Int32} {a5 : Int32} {m : xMem} (ha0 : a0 ∈ pLink) (hI : IC R m) : vOk (IC (xPut R a0 1 a1)) (fX3_build a0 a1 a2 a3 a4 a5 m) := by
  have ta1 := tiB a1
  have ta2 := tiB a2
  have ta3 := tiB a3
  have ta4 := tiB a4
  have ta5 := tiB a5
  have cm1 : (-1 : Int32).toInt = -1 := rfl
  have c0 : (0 : Int32).toInt = 0 := rfl
  have c1 : (1 : Int32).toInt = 1 := rfl
  have c2 : (2 : Int32).toInt = 2 := rfl
  unfold fX3_build
  unfold fX3_build_0
  refine vR fun m1 em1 => ?_
  have hm1 : IC (xPut R a0 1 a1) m1 := by rw [em1]; exact IC_cfg hI (qLink_bc1 _ ha0)
  refine vR fun m2 em2 => ?_
  have hm2 : IC (xPut R a0 1 a1) m2 := by rw [em2]; exact IC_put hm1 (qLink_ok2 _ ha0)
  refine vR fun m3 em3 => ?_
  have hm3 : IC (xPut R a0 1 a1) m3 := by rw [em3]; exact IC_put hm2 (qLink_ok3 _ ha0)
  refine vR fun m4 em4 => ?_
  have hm4 : IC (xPut R a0 1 a1) m4 := by rw [em4]; exact IC_put hm3 (qLink_ok4 _ ha0)
  refine vR fun m5 em5 => ?_
  have hm5 : IC (xPut R a0 1 a1) m5 := by rw [em5]; exact IC_put hm4 (qLink_ok5 _ ha0)
  refine vNe (fun h6 => ?_) (fun h7 => ?_)
  · unfold fX3_build_38
    refine vR fun m8 em8 => ?_
    have hm8 : IC (xPut R a0 1 a1) m8 := by rw [em8]; exact IC_put hm5 (qLink_ok6 _ ha0)
    refine vAl (xP_eqE em8) ?_
    refine vR fun m9 em9 => ?_
    have hm9 : IC (xPut R a0 1 a1) m9 := by rw [em9]; exact IC_put hm8 (qLink_ok7 _ ha0)
    refine vR fun m10 em10 => ?_
    have hm10 : IC (xPut R a0 1 a1) m10 := by rw [em10]; exact IC_put hm9 (qLink_ok8 _ ha0)
    refine vR fun m11 em11 => ?_
    have hm11 : IC (xPut R a0 1 a1) m11 := by rw [em11]; exact IC_put hm10 (qLink_ok9 _ ha0)
    refine vR fun m12 em12 => ?_
    have hm12 : IC (xPut R a0 1 a1) m12 := by rw [em12]; exact IC_put hm11 (qLink_ok10 _ ha0)
    refine vR fun m13 em13 => ?_
    have hm13 : IC (xPut R a0 1 a1) m13 := by rw [em13]; exact IC_put hm12 (qLink_ok11 _ ha0)
    refine vR fun m14 em14 => ?_
    have hm14 : IC (xPut R a0 1 a1) m14 := by rw [em14]; exact IC_putB hm13 (qLink_kc12 _ ha0) (by omega)
    refine vR fun m15 em15 => ?_
    have hm15 : IC (xPut R a0 1 a1) m15 := by rw [em15]; exact IC_putB hm14 (qLink_kc13 _ ha0) (by omega)
    refine vOk_bind (Q := IC (xPut R a0 1 a1)) ⟨_, rfl, IC_fill hm15 (qLink_1_inArr _ ha0)⟩ fun m16 hm16 => ?_
    exact vOk_some hm16
  · unfold fX3_build_38
    refine vR fun m17 em17 => ?_
    have hm17 : IC (xPut R a0 1 a1) m17 := by rw [em17]; exact IC_put hm5 (qLink_ok6 _ ha0)
    refine vAl (xP_eqE em17) ?_
    refine vR fun m18 em18 => ?_
    have hm18 : IC (xPut R a0 1 a1) m18 := by rw [em18]; exact IC_put hm17 (qLink_ok7 _ ha0)
    refine vR fun m19 em19 => ?_
    have hm19 : IC (xPut R a0 1 a1) m19 := by rw [em19]; exact IC_put hm18 (qLink_ok8 _ ha0)
    refine vR fun m20 em20 => ?_
    have hm20 : IC (xPut R a0 1 a1) m20 := by rw [em20]; exact IC_put hm19 (qLink_ok9 _ ha0)
    refine vR fun m21 em21 => ?_
    have hm21 : IC (xPut R a0 1 a1) m21 := by rw [em21]; exact IC_put hm20 (qLink_ok10 _ ha0)
    refine vR fun m22 em22 => ?_
    have hm22 : IC (xPut R a0 1 a1) m22 := by rw [em22]; exact IC_put hm21 (qLink_ok11 _ ha0)
    refine vR fun m23 em23 => ?_
    have hm23 : IC (xPut R a0 1 a1) m23 := by rw [em23]; exact IC_putB hm22 (qLink_kc12 _ ha0) (by omega)
    refine vR fun m24 em24 => ?_
    have hm24 : IC (xPut R a0 1 a1) m24 := by rw [em24]; exact IC_putB hm23 (qLink_kc13 _ ha0) (by omega)
    refine vOk_bind (Q := IC (xPut R a0 1 a1)) ⟨_, rfl, IC_fill hm24 (qLink_1_inArr _ ha0)⟩ fun m25 hm25 => ?_
    exact vOk_some hm25
theorem pass_c {R : xMem} {a0 : Nat} {a2 : Nat} {m : xMem} (ha0 : a0 ∈ pMover) (ha2 : a2 ∈ pText) (hI : IC R m) : vOk (IC (xPut R 1 6 (R.1 1 6 + 1))) (fX6_passSecond a0 1 a2 m) := by
  have c1 : (1 : Int32).toInt = 1 := rfl
  unfold fX6_passSecond
  unfold fX6_passSecond_0
  refine vOk_bind (fX6_comeInBursts_s ha0 (show 1 ∈ pStation by decide) ha2 hI) fun m1 hm1 => ?_
  refine vOk_bind (fX6_openHalls_s ha0 (show 1 ∈ pStation by decide) ha2 hm1) fun m2 hm2 => ?_
  refine vOk_bind (fX6_turnEmptyLinks_s ha0 (show 1 ∈ pStation by decide) hm2) fun m3 hm3 => ?_
  refine vOk_bind (fX8_find_s (qMover_1_inRoutes _ ha0) (show 1 ∈ pStation by decide) hm3) fun m4 hm4 => ?_
  refine vOk_bind (fX6_moveLinks_s ha0 (show 1 ∈ pStation by decide) ha2 hm4) fun m5 hm5 => ?_
  refine vOk_bind (fX6_countSecond_s ha0 (show 1 ∈ pStation by decide) hm5) fun m6 hm6 => ?_
  refine vAl (x := R.1 1 6) (hm6.kc 1 6 (by decide)).symm ?_
  refine vAl (x := R.1 1 6 + 1) rfl ?_
  refine vR fun m9 em9 => ?_
  have hm9 : IC (xPut R 1 6 (R.1 1 6 + 1)) m9 := by rw [em9]; exact IC_cfg hm6 (by decide)
  exact vOk_some hm9
def bumpC : Nat → xMem → xMem
  | 0, R => R
  | k + 1, R => bumpC k (xPut R 1 6 (R.1 1 6 + 1))
def mayC (s n : Int32) : Prop := (1 ≤ n.toInt ∧ n.toInt ≤ 300) ∧ (s + n).toInt ≤ 99999
theorem run24_c {a1 : Int32} {l2 : Nat} (hl : l2 ∈ pText) : ∀ (e n : Nat) (l3 : Int32) (R m : xMem), l3.toInt + e = a1.toInt → 0 ≤ l3.toInt → IC R m → vOk (fun p : Int32 × xMem => p.1 = (bumpC e R).1 1 6 ∧ IC (bumpC e R) p.2) (fX11_run_24 0 a1 (n + 1 + e) l2 l3 m) := by
  have c1 : (1 : Int32).toInt = 1 := rfl
  intro e
  induction e with
  | zero =>
    intro n l3 R m he h3 hI
    rw [show n + 1 + 0 = n + 1 from rfl, fX11_run_24]
    refine vLe (fun g => ?_) (fun g => ?_)
    · refine vAl (x := R.1 1 6) (hI.kc 1 6 (by decide)).symm ?_
      exact vOk_some ⟨rfl, hI⟩
    · exfalso; omega
  | succ e ih =>
    intro n l3 R m he h3 hI
    have ta := tiB a1
    rw [show n + 1 + (e + 1) = n + 1 + e + 1 from rfl, fX11_run_24]
    refine vLe (fun g => ?_) (fun g => ?_)
    · exfalso; omega
    · refine vOk_bind (pass_c (show 250 ∈ pMover by decide) hl hI) fun m2 h => ?_
      refine vA (by omega) fun v3 e3 f3 => ?_
      exact ih n v3 _ m2 (by omega) (by omega) h
theorem mayRun_c {R m : xMem} {a1 : Int32} (hI : IC R m) : vOk (fun p : Int32 × xMem => p.2 = m ∧ ((mayC (R.1 1 6) a1 ∧ p.1 = 1) ∨ (¬ mayC (R.1 1 6) a1 ∧ p.1 = 0))) (fX11_mayRun 0 a1 m) := by
  have c1 : (1 : Int32).toInt = 1 := rfl
  have c300 : (300 : Int32).toInt = 300 := rfl
  have c99999 : (99999 : Int32).toInt = 99999 := rfl
  unfold fX11_mayRun fX11_mayRun_0
  refine vAlB (within_e _ _ _ _) ?_
  dsimp only
  by_cases g1 : 1 ≤ a1.toInt ∧ a1.toInt ≤ 300
  · rw [wi_1 (by omega), if_neg (show ¬ (1 : Int32) = 0 by decide)]
    refine vAl (x := R.1 1 6) (hI.kc 1 6 (by decide)).symm ?_
    refine vR fun x ex => ?_
    refine vLt (fun g2 => ?_) (fun g2 => ?_)
    · unfold fX11_mayRun_29 fX11_mayRun_30
      refine v00 (vOk_some ⟨rfl, Or.inr ⟨fun w => ?_, rfl⟩⟩)
      have := w.2
      rw [← ex] at this
      omega
    · unfold fX11_mayRun_30
      refine v01 (vOk_some ⟨rfl, Or.inl ⟨⟨g1, ?_⟩, rfl⟩⟩)
      rw [← ex]
      omega
  · rw [wi_0 (by omega), if_pos rfl]
    unfold fX11_mayRun_29 fX11_mayRun_30
    exact v00 (vOk_some ⟨rfl, Or.inr ⟨fun w => g1 w.1, rfl⟩⟩)
theorem run_c {R m : xMem} {a1 : Int32} (hI : IC R m) : vOk (fun p : Int32 × xMem => (mayC (R.1 1 6) a1 ∧ p.1 = (bumpC a1.toInt.toNat R).1 1 6 ∧ IC (bumpC a1.toInt.toNat R) p.2) ∨ (¬ mayC (R.1 1 6) a1 ∧ p.1 = -1 ∧ IC R p.2)) (fX11_run 0 a1 m) := by
  have c0 : (0 : Int32).toInt = 0 := rfl
  unfold fX11_run fX11_run_0
  refine vOk_bind (mayRun_c (a1 := a1) hI) fun p hp => ?_
  obtain ⟨x, m1⟩ := p
  obtain ⟨rfl, ⟨q, rfl⟩ | ⟨q, rfl⟩⟩ := hp
  · dsimp only
    rw [if_pos (show ¬ (1 : Int32) = 0 by decide)]
    refine vBindP (fX11_law_s (show 0 ∈ pMS by decide) hI) fun x e hx => ?_
    dsimp only
    refine vOk_bind (fX6_forgetRoutes_s (show 250 ∈ pMover by decide) hI) fun m2 h2 => ?_
    have h := run24_c (a1 := a1) hx a1.toInt.toNat (xFuel - 1 - a1.toInt.toNat) 0 R m2 (by have := q.1; omega) (by omega) h2
    rw [show xFuel - 1 - a1.toInt.toNat + 1 + a1.toInt.toNat = xFuel by have : xFuel = 5000000000 := rfl; have := q.1; omega] at h
    exact vOk_mono h fun p hp => Or.inl ⟨q, hp⟩
  · dsimp only
    rw [if_neg (not_not_intro rfl)]
    exact vOk_some (Or.inr ⟨q, rfl, hI⟩)
/-- whether a link may be told, there being n halls -/
def okLk (n k lo hi sz cy : Int32) : Prop := ((0 ≤ k.toInt ∧ k.toInt ≤ 2) ∧ (0 ≤ lo.toInt ∧ lo.toInt < n.toInt) ∧ (0 ≤ hi.toInt ∧ hi.toInt < n.toInt) ∧ ¬ lo.toInt = hi.toInt) ∧ (k.toInt = 2 → (1 ≤ sz.toInt ∧ sz.toInt ≤ 20) ∧ (2 ≤ cy.toInt ∧ cy.toInt ≤ 99)) ∧ (¬ k.toInt = 2 → 2 ≤ sz.toInt ∧ sz.toInt ≤ 40)
theorem link100_c {R m : xMem} {a1 a2 a3 a4 a5 : Int32} {Z : Prop} (hI : IC R m) (h0 : 0 ≤ (R.1 1 8).toInt ∧ (R.1 1 8).toInt ≤ 10) (hz : Z) : vOk (fun p : Int32 × xMem => ((Z ∧ (R.1 1 8).toInt < 10) ∧ p.1 = R.1 1 8 ∧ IC (xPut (xPut R (34 + 2 * (R.1 1 8).toNatClampNeg) 1 a1) 1 8 (R.1 1 8 + 1)) p.2) ∨ (¬ (Z ∧ (R.1 1 8).toInt < 10) ∧ p.1 = -1 ∧ IC R p.2)) (fX11_link_100 0 a1 a2 a3 a4 a5 m) := by
  have c0 : (0 : Int32).toInt = 0 := rfl
  have c9 : (9 : Int32).toInt = 9 := rfl
  have kc : R.1 1 8 = m.1 1 8 := (hI.kc 1 8 (by decide)).symm
  unfold fX11_link_100
  refine vAl kc ?_
  refine vAlB (within_e _ _ _ _) ?_
  dsimp only
  by_cases g : (R.1 1 8).toInt < 10
  · rw [wi_1 (by omega), if_pos (show ¬ (1 : Int32) = 0 by decide)]
    refine vAl kc ?_
    refine vIn (by omega) (by omega) fun n => ?_
    refine vR fun r er => ?_
    have hr : r ∈ pLink := by rw [er]; exact qStation_33_m2_10_inLink _ (show 1 ∈ pStation by decide) _ n
    have er2 : r = 34 + 2 * (R.1 1 8).toNatClampNeg := by omega
    refine vOk_bind (build3_c hr hI) fun m7 h7 => ?_
    rw [er2] at h7
    have k7 : R.1 1 8 = m7.1 1 8 := by rw [h7.kc 1 8 (by decide)]; exact xP_pl (by omega)
    refine vAl k7 ?_
    refine vAl (x := R.1 1 8 + 1) rfl ?_
    refine vR fun m10 e10 => ?_
    have h10 : IC (xPut (xPut R (34 + 2 * (R.1 1 8).toNatClampNeg) 1 a1) 1 8 (R.1 1 8 + 1)) m10 := by rw [e10]; exact IC_cfg h7 (by decide)
    refine vAl (x := R.1 1 8 + 1) (xP_eqE e10) ?_
    refine vAl (x := R.1 1 8) (Int32.add_sub_cancel _ _).symm ?_
    exact vOk_some (Or.inl ⟨⟨hz, g⟩, rfl, h10⟩)
  · rw [wi_0 (by omega), if_neg (not_not_intro rfl)]
    exact vOk_some (Or.inr ⟨fun q => g q.2, rfl, hI⟩)
theorem link_c {R m : xMem} {a1 a2 a3 a4 a5 : Int32} (hI : IC R m) (hh0 : 0 ≤ (R.1 1 7).toInt ∧ (R.1 1 7).toInt ≤ 6) (h0 : 0 ≤ (R.1 1 8).toInt ∧ (R.1 1 8).toInt ≤ 10) : vOk (fun p : Int32 × xMem => ((okLk (R.1 1 7) a1 a2 a3 a4 a5 ∧ (R.1 1 8).toInt < 10) ∧ p.1 = R.1 1 8 ∧ IC (xPut (xPut R (34 + 2 * (R.1 1 8).toNatClampNeg) 1 a1) 1 8 (R.1 1 8 + 1)) p.2) ∨ (¬ (okLk (R.1 1 7) a1 a2 a3 a4 a5 ∧ (R.1 1 8).toInt < 10) ∧ p.1 = -1 ∧ IC R p.2)) (fX11_link 0 a1 a2 a3 a4 a5 m) := by
  have c0 : (0 : Int32).toInt = 0 := rfl
  have c1 : (1 : Int32).toInt = 1 := rfl
  have c2 : (2 : Int32).toInt = 2 := rfl
  have c20 : (20 : Int32).toInt = 20 := rfl
  have c40 : (40 : Int32).toInt = 40 := rfl
  have c99 : (99 : Int32).toInt = 99 := rfl
  have k7 : m.1 1 7 = R.1 1 7 := hI.kc 1 7 (by decide)
  have bad : ¬ okLk (R.1 1 7) a1 a2 a3 a4 a5 → vOk (fun p : Int32 × xMem => ((okLk (R.1 1 7) a1 a2 a3 a4 a5 ∧ (R.1 1 8).toInt < 10) ∧ p.1 = R.1 1 8 ∧ IC (xPut (xPut R (34 + 2 * (R.1 1 8).toNatClampNeg) 1 a1) 1 8 (R.1 1 8 + 1)) p.2) ∨ (¬ (okLk (R.1 1 7) a1 a2 a3 a4 a5 ∧ (R.1 1 8).toInt < 10) ∧ p.1 = -1 ∧ IC R p.2)) (some ((-1 : Int32), m)) :=
    fun q => vOk_some (Or.inr ⟨fun w => q w.1, rfl, hI⟩)
  unfold fX11_link fX11_link_0
  rw [show (0 : Nat) + 1 = 1 from rfl]
  refine vAlB (hasHall_e (by rw [k7]; exact hh0)) ?_
  dsimp only
  rw [k7]
  by_cases g1 : 0 ≤ a2.toInt ∧ a2.toInt < (R.1 1 7).toInt
  · rw [qH_1 g1, if_neg (show ¬ (1 : Int32) = 0 by decide)]
    refine vAlB (hasHall_e (by rw [k7]; exact hh0)) ?_
    dsimp only
    rw [k7]
    by_cases g2 : 0 ≤ a3.toInt ∧ a3.toInt < (R.1 1 7).toInt
    · rw [qH_1 g2, if_neg (show ¬ (1 : Int32) = 0 by decide)]
      refine vNe (fun g3 => ?_) (fun g3 => ?_)
      · have mid : ¬ a1.toInt = 2 → 0 ≤ a1.toInt ∧ a1.toInt ≤ 2 → vOk (fun p : Int32 × xMem => ((okLk (R.1 1 7) a1 a2 a3 a4 a5 ∧ (R.1 1 8).toInt < 10) ∧ p.1 = R.1 1 8 ∧ IC (xPut (xPut R (34 + 2 * (R.1 1 8).toNatClampNeg) 1 a1) 1 8 (R.1 1 8 + 1)) p.2) ∨ (¬ (okLk (R.1 1 7) a1 a2 a3 a4 a5 ∧ (R.1 1 8).toInt < 10) ∧ p.1 = -1 ∧ IC R p.2)) (fX11_link_38 0 a1 a2 a3 a4 a5 m) := by
          intro n2 h2
          unfold fX11_link_38
          refine vAlB (within_e _ _ _ _) ?_
          dsimp only
          have n2' : ¬ a1 = 2 := fun q => n2 (congrArg Int32.toInt q)
          by_cases g4 : 2 ≤ a4.toInt ∧ a4.toInt ≤ 40
          · rw [wi_1 (by omega), if_neg (show ¬ (1 : Int32) = 0 by decide)]
            unfold fX11_link_54
            rw [if_pos n2']
            unfold fX11_link_87 fX11_link_88
            rw [if_pos (show ¬ (1 : Int32) = 0 by decide)]
            exact link100_c hI h0 ⟨⟨h2, g1, g2, g3⟩, fun q => absurd q n2, fun _ => g4⟩
          · rw [wi_0 (by omega), if_pos rfl]
            unfold fX11_link_53 fX11_link_54
            rw [if_pos n2']
            unfold fX11_link_87 fX11_link_88
            rw [if_neg (not_not_intro rfl), if_pos rfl]
            exact bad (fun w => g4 (w.2.2 n2))
        have hi : ¬ (a1.toInt = 0 ∨ a1.toInt = 1) → vOk (fun p : Int32 × xMem => ((okLk (R.1 1 7) a1 a2 a3 a4 a5 ∧ (R.1 1 8).toInt < 10) ∧ p.1 = R.1 1 8 ∧ IC (xPut (xPut R (34 + 2 * (R.1 1 8).toNatClampNeg) 1 a1) 1 8 (R.1 1 8 + 1)) p.2) ∨ (¬ (okLk (R.1 1 7) a1 a2 a3 a4 a5 ∧ (R.1 1 8).toInt < 10) ∧ p.1 = -1 ∧ IC R p.2)) (fX11_link_53 0 a1 a2 a3 a4 a5 m) := by
          intro h01
          unfold fX11_link_53 fX11_link_54
          refine vNe (fun g4 => ?_) (fun g4 => ?_)
          · unfold fX11_link_87 fX11_link_88
            rw [if_neg (not_not_intro rfl), if_pos rfl]
            exact bad (fun w => by have := w.1.1; omega)
          · refine vAlB (within_e _ _ _ _) ?_
            dsimp only
            by_cases g5 : 1 ≤ a4.toInt ∧ a4.toInt ≤ 20
            · rw [wi_1 (by omega), if_neg (show ¬ (1 : Int32) = 0 by decide)]
              refine vAlB (within_e _ _ _ _) ?_
              dsimp only
              by_cases g6 : 2 ≤ a5.toInt ∧ a5.toInt ≤ 99
              · rw [wi_1 (by omega), if_neg (show ¬ (1 : Int32) = 0 by decide)]
                unfold fX11_link_88
                rw [if_neg (not_not_intro rfl), if_neg (show ¬ (1 : Int32) = 0 by decide)]
                exact link100_c hI h0 ⟨⟨by omega, g1, g2, g3⟩, fun _ => ⟨g5, g6⟩, fun q => by omega⟩
              · rw [wi_0 (by omega), if_pos rfl]
                unfold fX11_link_87 fX11_link_88
                rw [if_neg (not_not_intro rfl), if_pos rfl]
                exact bad (fun w => g6 (w.2.1 (by omega)).2)
            · rw [wi_0 (by omega), if_pos rfl]
              unfold fX11_link_87 fX11_link_88
              rw [if_neg (not_not_intro rfl), if_pos rfl]
              exact bad (fun w => g5 (w.2.1 (by omega)).1)
        refine vEq (fun g4 => ?_) (fun g4 => ?_)
        · exact mid (by omega) (by omega)
        · refine vNe (fun g5 => ?_) (fun g5 => ?_)
          · exact hi (by omega)
          · exact mid (by omega) (by omega)
      · exact bad (fun w => w.1.2.2.2 g3)
    · rw [qH_0 g2, if_pos rfl]
      exact bad (fun w => g2 w.1.2.2.1)
  · rw [qH_0 g1, if_pos rfl]
    exact bad (fun w => g1 w.1.2.1)
