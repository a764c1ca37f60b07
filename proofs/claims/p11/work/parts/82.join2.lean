/-! the two together: links, images, texts, and the calls that write no configuration -/
theorem GA_lt {g g' : Nat → Int32} (h : GA g) (e : ∀ j, j < 1610 → g' j = g j) : GA g' :=
  ⟨GA_cnt h fun j _ _ => e j (by omega), GA_rows h fun j _ _ => e j (by omega), GA_cyc h (fun j _ _ => e j (by omega)) (e 2 (by omega)), GA_bur h fun j _ _ => e j (by omega), GA_stp h fun j _ _ => e j (by omega), GA_lds h fun j _ _ => e j (by omega)⟩
theorem Rl_mw {c0 : Nat} {S M : xMem} {g g' : Nat → Int32} (hc : c0 = 1 ∨ c0 = 84) (e : ∀ b j, KCo b j = true → c0 ≤ b → b < c0 + 83 → M.1 b j = S.1 b j) (eg : ∀ j, cfgJ j → j ≠ 4 → j ≠ 5 → g' j = g j) (h : Rl c0 S g) : Rl c0 M g' := by
  obtain ⟨⟨a0, a1, a2, a3, a4, a5, a6⟩, k⟩ := h
  rcases hc with rfl | rfl
  · refine ⟨⟨?_, ?_, ?_, ?_, ?_, ?_, ?_⟩, fun i hi hl => ?_⟩
    · rw [e 1 6 (by decide) (by omega) (by omega), eg 0 (by omega) (by omega) (by omega)]; exact a0
    · rw [e 1 7 (by decide) (by omega) (by omega), eg 1 (by omega) (by omega) (by omega)]; exact a1
    · rw [e 1 8 (by decide) (by omega) (by omega), eg 2 (by omega) (by omega) (by omega)]; exact a2
    · rw [e 1 9 (by decide) (by omega) (by omega), eg 3 (by omega) (by omega) (by omega)]; exact a3
    · rw [e (1 + 4) 2 (by decide) (by omega) (by omega), eg 6 (by omega) (by omega) (by omega)]; exact a4
    · rw [e (1 + 7) 5 (by decide) (by omega) (by omega), eg 7 (by omega) (by omega) (by omega)]; exact a5
    · rw [e (1 + 13) 1 (by decide) (by omega) (by omega), eg 8 (by omega) (by omega) (by omega)]; exact a6
    · rw [eg 2 (by omega) (by omega) (by omega)] at hl
      rw [e (1 + 33 + 2 * i) 1 (koI i hi) (by omega) (by omega), eg (210 + 14 * i) (by omega) (by omega) (by omega)]
      exact k i hi hl
  · refine ⟨⟨?_, ?_, ?_, ?_, ?_, ?_, ?_⟩, fun i hi hl => ?_⟩
    · rw [e 84 6 (by decide) (by omega) (by omega), eg 0 (by omega) (by omega) (by omega)]; exact a0
    · rw [e 84 7 (by decide) (by omega) (by omega), eg 1 (by omega) (by omega) (by omega)]; exact a1
    · rw [e 84 8 (by decide) (by omega) (by omega), eg 2 (by omega) (by omega) (by omega)]; exact a2
    · rw [e 84 9 (by decide) (by omega) (by omega), eg 3 (by omega) (by omega) (by omega)]; exact a3
    · rw [e (84 + 4) 2 (by decide) (by omega) (by omega), eg 6 (by omega) (by omega) (by omega)]; exact a4
    · rw [e (84 + 7) 5 (by decide) (by omega) (by omega), eg 7 (by omega) (by omega) (by omega)]; exact a5
    · rw [e (84 + 13) 1 (by decide) (by omega) (by omega), eg 8 (by omega) (by omega) (by omega)]; exact a6
    · rw [eg 2 (by omega) (by omega) (by omega)] at hl
      rw [e (84 + 33 + 2 * i) 1 (koB i hi) (by omega) (by omega), eg (210 + 14 * i) (by omega) (by omega) (by omega)]
      exact k i hi hl
theorem Rl_cp {a0 a1 : Nat} {m T : xMem} {g : Nat → Int32} (hT : CA a0 a1 m T) (h : Rl a1 m g) : Rl a0 T g := by
  obtain ⟨_, _, ⟨t0, t1, t2, t3, t4, t5, t6⟩, t7⟩ := hT
  obtain ⟨⟨b0, b1, b2, b3, b4, b5, b6⟩, k⟩ := h
  exact ⟨⟨t0.trans b0, t1.trans b1, t2.trans b2, t3.trans b3, t4.trans b4, t5.trans b5, t6.trans b6⟩, fun i hi hl => (t7 i hi (by rw [b2]; exact hl)).trans (k i hi hl)⟩
section
variable {m : xMem} {p : Int32 × xMem} {a1 a2 a3 a4 a5 a6 a7 : Int32}
theorem link_j (h : Inv m) (hp : ((okLk (m.1 1 7) a1 a2 a3 a4 a5 ∧ (m.1 1 8).toInt < 10) ∧ p.1 = m.1 1 8 ∧ IC (xPut (xPut m (34 + 2 * (m.1 1 8).toNatClampNeg) 1 a1) 1 8 (m.1 1 8 + 1)) p.2) ∨ (¬ (okLk (m.1 1 7) a1 a2 a3 a4 a5 ∧ (m.1 1 8).toInt < 10) ∧ p.1 = -1 ∧ IC m p.2)) : vOk (fun q : Int32 × xMem => Inv q.2 ∧ p.1 = q.1) (fX12_link 291 a1 a2 a3 a4 a5 p.2) := by
  have E : m.1 1 8 = m.1 292 2 := h.2.2.1.1.2.2.1
  have E1 : m.1 1 7 = m.1 292 1 := h.2.2.1.1.2.1
  rcases hp with ⟨c, hp⟩ | ⟨c, hp⟩
  · have wn : (m.1 1 8).toNatClampNeg = (m.1 1 8).toInt.toNat := rfl
    have e := cls_rows (m := m) hp.2 (fun b hb j => by rw [← xP_pl (by omega), ← xP_pl (by omega)])
    have r := RI_cong e h.2.1
    have e1 : p.2.1 292 2 = m.1 1 8 := (e 292 (by omega) 2).trans E.symm
    have e2 : p.2.1 292 1 = m.1 1 7 := (e 292 (by omega) 1).trans E1.symm
    have hb : 0 ≤ (p.2.1 292 2).toInt ∧ (p.2.1 292 2).toInt ≤ 10 := r.2.1.1.1.2.1
    refine vOk_mono (link_r (a1 := a1) (a2 := a2) (a3 := a3) (a4 := a4) (a5 := a5) r.2.1 r.1) fun q hq => ?_
    rw [e1, e2] at hq
    rw [e1] at hb
    obtain ⟨q1, S, q2, ⟨s1, s2, s3, s4⟩, q3⟩ := (hq.resolve_right (fun w => w.1 c)).2
    rw [e1] at s2 s3 s4
    have t2 := add1 (x := m.1 1 8) (n := 9) (by omega) (by omega)
    have l : GL S := GL_cong (fun j => s2 _ _ (by omega)) (fun j => s2 _ _ (by omega)) (fun j => s2 _ _ (by omega)) (fun j => s2 _ _ (by omega)) r.2.2.1
    have r3 : S.1 293 = p.2.1 293 := funext fun j => s2 293 j (by omega)
    have g292 : ∀ j, ¬ (j = 2 ∨ (210 + 14 * (m.1 1 8).toNatClampNeg ≤ j ∧ j < 224 + 14 * (m.1 1 8).toNatClampNeg)) → S.1 292 j = m.1 292 j := fun j w => by
      rw [s2 292 j (by omega), e 292 (by omega) j]
    refine ⟨Inv_R hp.2.bc q3 ⟨q2, l, by rw [s2 291 4 (by omega)]; exact r.2.2.2.1, by rw [r3]; exact r.2.2.2.2⟩ (fun b j hb => s2 b j (by omega)) ?_ ?_, hp.1.trans q1.symm⟩
    · refine Rl_mv (Or.inl rfl) (fun b j hk _ => hp.2.kc b j (KCo_KC hk)) (fun _ _ => rfl) ?_
      obtain ⟨⟨a0, a1', a2', a3', a4', a5', a6'⟩, k⟩ := h.2.2.1
      refine ⟨⟨?_, ?_, ?_, ?_, ?_, ?_, ?_⟩, fun i hi hl => ?_⟩
      · rw [← xP_sl (by omega), ← xP_pl (by omega), g292 0 (by omega)]; exact a0
      · rw [← xP_sl (by omega), ← xP_pl (by omega), g292 1 (by omega)]; exact a1'
      · rw [s3]; exact xP_eq.symm
      · rw [← xP_sl (by omega), ← xP_pl (by omega), g292 3 (by omega)]; exact a3'
      · rw [← xP_pl (by omega), ← xP_pl (by omega), g292 6 (by omega)]; exact a4'
      · rw [← xP_pl (by omega), ← xP_pl (by omega), g292 7 (by omega)]; exact a5'
      · rw [← xP_pl (by omega), ← xP_pl (by omega), g292 8 (by omega)]; exact a6'
      · rw [s3] at hl
        rw [← xP_pl (by omega)]
        by_cases q : i = (m.1 1 8).toNatClampNeg
        · rw [q, s4, show 1 + 33 + 2 * (m.1 1 8).toNatClampNeg = 34 + 2 * (m.1 1 8).toNatClampNeg by omega]
          exact xP_eq.symm
        · rw [← xP_pl (by omega), g292 (210 + 14 * i) (by omega)]
          exact k i hi (by rw [← E]; omega)
    · refine Rl_mv (Or.inr rfl) (fun b j hk _ => hp.2.kc b j (KCo_KC hk)) (fun j _ => ?_) (Rl_keep (by omega) (Rl_keep (by omega) h.2.2.2))
      rw [s2 293 j (by omega), e 293 (by omega) j]
  · have h1 := Inv_C h hp.2
    have e := cls_rows hp.2 (fun _ _ _ => rfl)
    have e1 : p.2.1 292 2 = m.1 1 8 := (e 292 (by omega) 2).trans E.symm
    have e2 : p.2.1 292 1 = m.1 1 7 := (e 292 (by omega) 1).trans E1.symm
    refine vOk_mono (link_r (a1 := a1) (a2 := a2) (a3 := a3) (a4 := a4) (a5 := a5) h1.2.1.2.1 h1.2.1.1) fun q hq => ?_
    rw [e1, e2] at hq
    have hq := (hq.resolve_left (fun w => c w.1)).2
    exact ⟨Inv_R0 h1 hq.2, hp.1.trans hq.1.symm⟩
theorem image_j (h : Inv m) (hp : p.1 = m.1 1 6 ∧ ∃ T, CA 84 1 m T ∧ CX 84 1 m T ∧ IC T p.2) : vOk (fun q : Int32 × xMem => Inv q.2 ∧ p.1 = q.1) (fX12_image 291 p.2) := by
  obtain ⟨hp1, T, hT, _, hI⟩ := hp
  have e := cls_rows (m := m) hI (fun b hb j => hT.2.1 b j (by omega))
  have r := RI_cong e h.2.1
  have r2 : p.2.1 292 = m.1 292 := funext (e 292 (by omega))
  have r3 : p.2.1 293 = m.1 293 := funext (e 293 (by omega))
  have o : ∀ b, b ≠ 293 → ∀ j, (cpRow p.2 292 293 1610).1 b j = p.2.1 b j := fun b hb j => cpRow_o (Or.inl hb)
  have d : ∀ j, j < 1610 → (cpRow p.2 292 293 1610).1 293 j = p.2.1 292 j := fun j hj => cpRow_d hj
  have o2 : (cpRow p.2 292 293 1610).1 292 = p.2.1 292 := funext (o 292 (by omega))
  obtain ⟨⟨_, i1, i2, i3⟩, g, l, b4, b3⟩ := r
  have hP : RP (cpRow p.2 292 293 1610) := ⟨GR_ofB g (by rw [o2]; exact g.1) (o 296 (by omega)) (o 298 (by omega)) (o 299 (by omega)) (o 300 (by omega)), GL_cong (o 296 (by omega)) (o 298 (by omega)) (o 299 (by omega)) (o 300 (by omega)) l, by rw [o 291 (by omega)]; exact b4, GA_lt g.1 d⟩
  refine ⟨_, image_e, Inv_R hI.bc (S' := cpRow p.2 292 293 1610) ⟨fun _ _ _ => rfl, fun j hj => by rw [o2]; exact i1 j hj, fun j => by rw [o 311 (by omega)]; exact i2 j, fun j => by rw [o 314 (by omega)]; exact i3 j⟩ hP (fun b j hb => o b (by omega) j) ?_ ?_, ?_⟩
  · refine Rl_mw (Or.inl rfl) (fun b j hk h1 h2 => (hI.kc b j (KCo_KC hk)).trans (hT.2.1 b j (by omega))) (fun j _ _ _ => ?_) h.2.2.1
    rw [o2, r2]
  · refine Rl_mw (Or.inr rfl) (fun b j hk _ _ => hI.kc b j (KCo_KC hk)) (fun j hj _ _ => ?_) (Rl_cp hT h.2.2.1)
    rw [d j (by omega), r2]
  · show p.1 = (cpRow p.2 292 293 1610).1 292 0
    rw [hp1, o2, r2]
    exact h.2.2.1.1.1
theorem back_j (h : Inv m) (hp : p.1 = m.1 84 6 ∧ ∃ T, CA 1 84 m T ∧ CX 1 84 m T ∧ IC T p.2) : vOk (fun q : Int32 × xMem => Inv q.2 ∧ p.1 = q.1) (fX12_back 291 p.2) := by
  obtain ⟨hp1, T, hT, _, hI⟩ := hp
  have e := cls_rows (m := m) hI (fun b hb j => hT.2.1 b j (by omega))
  have r := RI_cong e h.2.1
  have r2 : p.2.1 292 = m.1 292 := funext (e 292 (by omega))
  have r3 : p.2.1 293 = m.1 293 := funext (e 293 (by omega))
  have o : ∀ b, b ≠ 292 → ∀ j, (cpRow p.2 293 292 1610).1 b j = p.2.1 b j := fun b hb j => cpRow_o (Or.inl hb)
  have d : ∀ j, j < 1610 → (cpRow p.2 293 292 1610).1 292 j = p.2.1 293 j := fun j hj => cpRow_d hj
  have o2 : (cpRow p.2 293 292 1610).1 293 = p.2.1 293 := funext (o 293 (by omega))
  obtain ⟨⟨_, i1, i2, i3⟩, g, l, b4, b3⟩ := r
  have g2 : GA ((cpRow p.2 293 292 1610).1 292) := GA_lt b3 d
  have hP : RP (cpRow p.2 293 292 1610) := ⟨GR_ofB g g2 (o 296 (by omega)) (o 298 (by omega)) (o 299 (by omega)) (o 300 (by omega)), GL_cong (o 296 (by omega)) (o 298 (by omega)) (o 299 (by omega)) (o 300 (by omega)) l, by rw [o 291 (by omega)]; exact b4, by rw [o2]; exact b3⟩
  refine ⟨_, back_e, Inv_R hI.bc (S' := cpRow p.2 293 292 1610) ⟨fun _ _ _ => rfl, g2.2.2.2.2.1, fun j => by rw [o 311 (by omega)]; exact i2 j, fun j => by rw [o 314 (by omega)]; exact i3 j⟩ hP (fun b j hb => o b (by omega) j) ?_ ?_, ?_⟩
  · refine Rl_mw (Or.inl rfl) (fun b j hk _ _ => hI.kc b j (KCo_KC hk)) (fun j hj _ _ => ?_) (Rl_cp hT h.2.2.2)
    rw [d j (by omega), r3]
  · refine Rl_mw (Or.inr rfl) (fun b j hk h1 h2 => (hI.kc b j (KCo_KC hk)).trans (hT.2.1 b j (by omega))) (fun j _ _ _ => ?_) h.2.2.2
    rw [o2, r3]
  · show p.1 = (cpRow p.2 293 292 1610).1 292 0
    rw [hp1, d 0 (by omega), r3]
    exact h.2.2.2.1.1
theorem rn_text (h : Inv m) : vOk (fun q : Int32 × xMem => Inv q.2) (fX12_text 291 m) := by
  obtain ⟨⟨_, i1, i2, i3⟩, g, l, b4, b3⟩ := h.2.1
  refine vOk_mono (text_r g l b4) fun q hq => ?_
  obtain ⟨t1, t2, t3, t4⟩ := hq
  have r3 : q.2.1 293 = m.1 293 := funext fun j => t4 293 j (by omega)
  refine Inv_R h.1 (S' := q.2) ⟨fun _ _ _ => rfl, fun j hj => by rw [t4 292 (580 + j) (by omega)]; exact i1 j hj, fun j => by rw [t4 311 j (by omega)]; exact i2 j, fun j => by rw [t4 314 j (by omega)]; exact i3 j⟩ ⟨t1, t2, t3, by rw [r3]; exact b3⟩ (fun b j hb => t4 b j (by omega)) ?_ ?_
  · exact Rl_mw (Or.inl rfl) (fun _ _ _ _ _ => rfl) (fun j hj h4 _ => t4 292 j (by omega)) h.2.2.1
  · exact Rl_mw (Or.inr rfl) (fun _ _ _ _ _ => rfl) (fun j hj _ _ => by rw [r3]) h.2.2.2
theorem rn_by (h : Inv m) : vOk (fun q : Int32 × xMem => Inv q.2) (fX12_by 291 a1 m) := by
  have g := h.2.1.2.1
  have hb : 0 ≤ (m.1 292 4).toInt ∧ (m.1 292 4).toInt ≤ 4 := g.1.1.2.2.2.1
  refine vOk_mono (by_r (a1 := a1) g h.2.1.1) fun q hq => ?_
  rcases hq with ⟨c, _, hq⟩ | ⟨_, _, hq⟩
  · refine Inv_R h.1 hq (RP_292 h.2.1.2 (GR_put g (by omega) (fun q => by omega) (fun q => by omega) (fun q => by omega) (fun _ => ⟨by omega, by omega⟩) (fun q => by omega) (fun q => by omega) (fun q => by omega))) (fun b j hb => (xP_pl (by omega)).symm) ?_ h.2.2.2
    exact Rl_mw (Or.inl rfl) (fun _ _ _ _ _ => rfl) (fun j _ _ h5 => (xP_sl h5).symm) h.2.2.1
  · exact Inv_R0 h hq
theorem rn_TP {q : xMem} (h : Inv m) (hq : TP m q) : Inv q := by
  obtain ⟨A, g, i, e⟩ := hq
  obtain ⟨_, _, l, b4, b3⟩ := h.2.1
  have r3 : A.1 293 = m.1 293 := funext fun j => e 293 j (by omega) ⟨by omega, by omega⟩
  refine Inv_R h.1 i ⟨g, GL_cong (fun j => e _ _ (by omega) ⟨by omega, by omega⟩) (fun j => e _ _ (by omega) ⟨by omega, by omega⟩) (fun j => e _ _ (by omega) ⟨by omega, by omega⟩) (fun j => e _ _ (by omega) ⟨by omega, by omega⟩) l, by rw [e 291 4 (by omega) ⟨by omega, by omega⟩]; exact b4, by rw [r3]; exact b3⟩ (fun b j hb => e b j (by omega) ⟨by omega, by omega⟩) ?_ ?_
  · exact Rl_mw (Or.inl rfl) (fun _ _ _ _ _ => rfl) (fun j hj _ _ => e 292 j (by omega) ⟨by omega, by omega⟩) h.2.2.1
  · exact Rl_mw (Or.inr rfl) (fun _ _ _ _ _ => rfl) (fun j hj _ _ => by rw [r3]) h.2.2.2
theorem rn_TF {q : xMem} (h : Inv m) (hq : ∃ S, TF m S ∧ IR S q ∧ bw 0 300 (S.1 291 4)) : Inv q := by
  obtain ⟨A, ⟨_, e⟩, i, b4⟩ := hq
  obtain ⟨_, g, l, _, b3⟩ := h.2.1
  have r2 : A.1 292 = m.1 292 := funext fun j => e 292 j (by omega) (by omega)
  have r3 : A.1 293 = m.1 293 := funext fun j => e 293 j (by omega) (by omega)
  refine Inv_R h.1 i ⟨GR_ofB g (by rw [r2]; exact g.1) (fun j => e 296 j (by omega) (by omega)) (fun j => e 298 j (by omega) (by omega)) (fun j => e 299 j (by omega) (by omega)) (fun j => e 300 j (by omega) (by omega)), GL_cong (fun j => e 296 j (by omega) (by omega)) (fun j => e 298 j (by omega) (by omega)) (fun j => e 299 j (by omega) (by omega)) (fun j => e 300 j (by omega) (by omega)) l, b4, by rw [r3]; exact b3⟩ (fun b j hb => e b j (by omega) (by omega)) ?_ ?_
  · rw [r2]; exact h.2.2.1
  · rw [r3]; exact h.2.2.2
theorem cn_about (h : Inv m) : vOk (fun q : Int32 × xMem => Inv q.2) (fX11_about 0 a1 m) := vOk_mono (fX11_about_s (show 0 ∈ pMS by decide) (CI_IC h.1)) fun q hq => by rw [hq.1]; exact h
theorem rn_about (h : Inv m) : vOk (fun q : Int32 × xMem => Inv q.2) (fX12_about 291 a1 m) := vOk_mono (fX12_about_s h.2.1.2.1 h.2.1.1) fun q hq => by rw [hq.1]; exact h
theorem cn_all (h : Inv m) : vOk (fun q : Int32 × xMem => Inv q.2) (fX11_all 0 a1 m) := vOk_mono (fX11_all_s (show 0 ∈ pMS by decide) (CI_IC h.1)) fun q hq => by rw [hq.1]; exact h
theorem rn_all (h : Inv m) : vOk (fun q : Int32 × xMem => Inv q.2) (fX12_all 291 a1 m) := vOk_mono (fX12_all_s h.2.1.2.1 h.2.1.1) fun q hq => by rw [hq.1]; exact h
theorem cn_alone (h : Inv m) : vOk (fun q : Int32 × xMem => Inv q.2) (fX11_alone 0 a1 a2 a3 a4 m) := vOk_mono (fX11_alone_s (show 0 ∈ pMS by decide) (CI_IC h.1)) fun q hq => Inv_C h hq.1
theorem rn_alone (h : Inv m) : vOk (fun q : Int32 × xMem => Inv q.2) (fX12_alone 291 a1 a2 a3 a4 m) := vOk_mono (fX12_alone_s h.2.1.2.1 h.2.1.1) fun q hq => Inv_R0 h hq.1
theorem cn_bar (h : Inv m) : vOk (fun q : Int32 × xMem => Inv q.2) (fX11_bar 0 a1 a2 m) := vOk_mono (fX11_bar_s (show 0 ∈ pMS by decide) (CI_IC h.1)) fun q hq => Inv_C h hq.1
theorem rn_bar (h : Inv m) : vOk (fun q : Int32 × xMem => Inv q.2) (fX12_bar 291 a1 a2 m) := vOk_mono (fX12_bar_s h.2.1.2.1 h.2.1.1) fun q hq => Inv_R0 h hq.1
theorem cn_crossing (h : Inv m) : vOk (fun q : Int32 × xMem => Inv q.2) (fX11_crossing 0 a1 a2 m) := vOk_mono (fX11_crossing_s (show 0 ∈ pMS by decide) (CI_IC h.1)) fun q hq => Inv_C h hq.1
theorem rn_crossing (h : Inv m) : vOk (fun q : Int32 × xMem => Inv q.2) (fX12_crossing 291 a1 a2 m) := vOk_mono (fX12_crossing_s h.2.1.2.1 h.2.1.1) fun q hq => Inv_R0 h hq.1
theorem cn_effect (h : Inv m) : vOk (fun q : Int32 × xMem => Inv q.2) (fX11_effect 0 m) := vOk_mono (fX11_effect_s (show 0 ∈ pMS by decide) (CI_IC h.1)) fun q hq => by rw [hq.1]; exact h
theorem rn_effect (h : Inv m) : vOk (fun q : Int32 × xMem => Inv q.2) (fX12_effect 291 m) := vOk_mono (fX12_effect_s h.2.1.2.1 h.2.1.1) fun q hq => by rw [hq.1]; exact h
theorem cn_fault (h : Inv m) : vOk (fun q : Int32 × xMem => Inv q.2) (fX11_fault 0 a1 m) := vOk_mono (fX11_fault_s (show 0 ∈ pMS by decide) (CI_IC h.1)) fun q hq => by rw [hq.1]; exact h
theorem rn_fault (h : Inv m) : vOk (fun q : Int32 × xMem => Inv q.2) (fX12_fault 291 a1 m) := vOk_mono (fault_r h.2.1.1) fun q hq => Inv_R0 h hq
theorem cn_felt (h : Inv m) : vOk (fun q : Int32 × xMem => Inv q.2) (fX11_felt 0 a1 a2 m) := vOk_mono (fX11_felt_s (show 0 ∈ pMS by decide) (CI_IC h.1)) fun q hq => Inv_C h hq.1
theorem rn_felt (h : Inv m) : vOk (fun q : Int32 × xMem => Inv q.2) (fX12_felt 291 a1 a2 m) := vOk_mono (felt_r h.2.1.2.1 h.2.1.1) fun q hq => rn_TP h hq
theorem cn_least (h : Inv m) : vOk (fun q : Int32 × xMem => Inv q.2) (fX11_least 0 a1 a2 a3 m) := vOk_mono (fX11_least_s (show 0 ∈ pMS by decide) (CI_IC h.1)) fun q hq => Inv_C h hq.1
theorem rn_least (h : Inv m) : vOk (fun q : Int32 × xMem => Inv q.2) (fX12_least 291 a1 a2 a3 m) := vOk_mono (least_r h.2.1.2.1 h.2.1.1) fun q hq => rn_TP h hq
theorem cn_mode (h : Inv m) : vOk (fun q : Int32 × xMem => Inv q.2) (fX11_mode 0 a1 a2 m) := vOk_mono (fX11_mode_s (show 0 ∈ pMS by decide) (CI_IC h.1)) fun q hq => Inv_C h hq.1
theorem rn_mode (h : Inv m) : vOk (fun q : Int32 × xMem => Inv q.2) (fX12_mode 291 a1 a2 m) := vOk_mono (fX12_mode_s h.2.1.2.1 h.2.1.1) fun q hq => Inv_R0 h hq.1
theorem cn_of (h : Inv m) : vOk (fun q : Int32 × xMem => Inv q.2) (fX11_of 0 a1 a2 m) := vOk_mono (fX11_of_s (show 0 ∈ pMS by decide) (CI_IC h.1)) fun q hq => by rw [hq.1]; exact h
theorem rn_of (h : Inv m) : vOk (fun q : Int32 × xMem => Inv q.2) (fX12_of 291 a1 a2 m) := vOk_mono (fX12_of_s h.2.1.2.1 h.2.1.1) fun q hq => by rw [hq.1]; exact h
theorem cn_on (h : Inv m) : vOk (fun q : Int32 × xMem => Inv q.2) (fX11_on 0 a1 a2 m) := vOk_mono (fX11_on_s (show 0 ∈ pMS by decide) (CI_IC h.1)) fun q hq => by rw [hq.1]; exact h
theorem rn_on (h : Inv m) : vOk (fun q : Int32 × xMem => Inv q.2) (fX12_on 291 a1 a2 m) := vOk_mono (fX12_on_s h.2.1.2.1 h.2.1.1) fun q hq => by rw [hq.1]; exact h
theorem cn_order (h : Inv m) : vOk (fun q : Int32 × xMem => Inv q.2) (fX11_order 0 a1 m) := vOk_mono (fX11_order_s (show 0 ∈ pMS by decide) (CI_IC h.1)) fun q hq => Inv_C h hq.1
theorem rn_order (h : Inv m) : vOk (fun q : Int32 × xMem => Inv q.2) (fX12_order 291 a1 m) := vOk_mono (order_r h.2.1.2.1 h.2.1.1) fun q hq => by rw [hq.1]; exact h
theorem cn_reset (h : Inv m) : vOk (fun q : Int32 × xMem => Inv q.2) (fX11_reset 0 a1 m) := vOk_mono (fX11_reset_s (show 0 ∈ pMS by decide) (CI_IC h.1)) fun q hq => Inv_C h hq.1
theorem rn_reset (h : Inv m) : vOk (fun q : Int32 × xMem => Inv q.2) (fX12_reset 291 a1 m) := vOk_mono (fX12_reset_s h.2.1.2.1 h.2.1.1) fun q hq => Inv_R0 h hq.1
theorem cn_route (h : Inv m) : vOk (fun q : Int32 × xMem => Inv q.2) (fX11_route 0 a1 a2 a3 m) := vOk_mono (fX11_route_s (show 0 ∈ pMS by decide) (CI_IC h.1)) fun q hq => Inv_C h hq.1
theorem rn_route (h : Inv m) : vOk (fun q : Int32 × xMem => Inv q.2) (fX12_route 291 a1 a2 a3 m) := vOk_mono (fX12_route_s h.2.1.2.1 h.2.1.1) fun q hq => Inv_R0 h hq.1
theorem cn_standing (h : Inv m) : vOk (fun q : Int32 × xMem => Inv q.2) (fX11_standing 0 a1 a2 m) := vOk_mono (fX11_standing_s (show 0 ∈ pMS by decide) (CI_IC h.1)) fun q hq => Inv_C h hq.1
theorem rn_standing (h : Inv m) : vOk (fun q : Int32 × xMem => Inv q.2) (fX12_standing 291 a1 a2 m) := vOk_mono (standing_r h.2.1.2.1 h.2.1.1) fun q hq => rn_TP h hq
theorem cn_step (h : Inv m) : vOk (fun q : Int32 × xMem => Inv q.2) (fX11_step 0 a1 a2 a3 m) := vOk_mono (fX11_step_s (show 0 ∈ pMS by decide) (CI_IC h.1)) fun q hq => by rw [hq.1]; exact h
theorem rn_step (h : Inv m) : vOk (fun q : Int32 × xMem => Inv q.2) (fX12_step 291 a1 a2 a3 m) := vOk_mono (fX12_step_s h.2.1.2.1 h.2.1.1) fun q hq => by rw [hq.1]; exact h
theorem cn_taken (h : Inv m) : vOk (fun q : Int32 × xMem => Inv q.2) (fX11_taken 0 a1 a2 m) := vOk_mono (fX11_taken_s (show 0 ∈ pMS by decide) (CI_IC h.1)) fun q hq => by rw [hq.1]; exact h
theorem rn_taken (h : Inv m) : vOk (fun q : Int32 × xMem => Inv q.2) (fX12_taken 291 a1 a2 m) := vOk_mono (fX12_taken_s h.2.1.2.1 h.2.1.1) fun q hq => Inv_R0 h hq.1
theorem cn_turn (h : Inv m) : vOk (fun q : Int32 × xMem => Inv q.2) (fX11_turn 0 a1 a2 m) := vOk_mono (fX11_turn_s (show 0 ∈ pMS by decide) (CI_IC h.1)) fun q hq => Inv_C h hq.1
theorem rn_turn (h : Inv m) : vOk (fun q : Int32 × xMem => Inv q.2) (fX12_turn 291 a1 a2 m) := vOk_mono (fX12_turn_s h.2.1.2.1 h.2.1.1) fun q hq => Inv_R0 h hq.1
theorem cn_ways (h : Inv m) : vOk (fun q : Int32 × xMem => Inv q.2) (fX11_ways 0 a1 a2 a3 m) := vOk_mono (fX11_ways_s (show 0 ∈ pMS by decide) (CI_IC h.1)) fun q hq => Inv_C h hq.1
theorem rn_ways (h : Inv m) : vOk (fun q : Int32 × xMem => Inv q.2) (fX12_ways 291 a1 a2 a3 m) := vOk_mono (ways_r h.2.1.2.1 h.2.1.1) fun q hq => rn_TP h hq
theorem rn_end (h : Inv m) : vOk (fun q : Int32 × xMem => Inv q.2) (fX12_end 291 a1 m) := vOk_mono (end_r h.2.1.1 h.2.1.2.2.2.1) fun q hq => rn_TF h hq
theorem rn_feed (h : Inv m) : vOk (fun q : Int32 × xMem => Inv q.2) (fX12_feed 291 a1 a2 a3 a4 a5 m) := vOk_mono (feed_r h.2.1.1 h.2.1.2.2.2.1) fun q hq => rn_TF h hq
theorem b1 (h : Inv m) : 0 ≤ (m.1 1 7).toInt ∧ (m.1 1 7).toInt ≤ 6 := by rw [h.2.2.1.1.2.1]; exact h.2.1.2.1.1.1.1
theorem b2 (h : Inv m) : 0 ≤ (m.1 1 8).toInt ∧ (m.1 1 8).toInt ≤ 10 := by rw [h.2.2.1.1.2.2.1]; exact h.2.1.2.1.1.1.2.1
theorem b3 (h : Inv m) : 0 ≤ (m.1 1 9).toInt ∧ (m.1 1 9).toInt ≤ 30 := by rw [h.2.2.1.1.2.2.2.1]; exact h.2.1.2.1.1.1.2.2.1
theorem b6 (h : Inv m) : 0 ≤ (m.1 5 2).toInt ∧ (m.1 5 2).toInt ≤ 40 := by rw [show m.1 5 2 = m.1 292 6 from h.2.2.1.1.2.2.2.2.1]; exact h.2.1.2.1.1.1.2.2.2.2.2.1
theorem b7 (h : Inv m) : 0 ≤ (m.1 8 5).toInt ∧ (m.1 8 5).toInt ≤ 6 := by rw [show m.1 8 5 = m.1 292 7 from h.2.2.1.1.2.2.2.2.2.1]; exact h.2.1.2.1.1.1.2.2.2.2.2.2.1
theorem b8 (h : Inv m) : 0 ≤ (m.1 14 1).toInt ∧ (m.1 14 1).toInt ≤ 60 := by rw [show m.1 14 1 = m.1 292 8 from h.2.2.1.1.2.2.2.2.2.2]; exact h.2.1.2.1.1.1.2.2.2.2.2.2.2
end
