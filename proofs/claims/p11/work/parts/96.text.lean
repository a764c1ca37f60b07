/-! a text: class and reference alike -/
section
variable {K V : Nat → Int}
theorem gN_un : ∀ (n1 n2 : Nat) (c d1 d2 : Cf), gN K V n1 c = some d1 → gN K V n2 c = some d2 → ¬ (gS K V d1).1 = 0 → ¬ (gS K V d2).1 = 0 → d1 = d2 := by
  intro n1
  induction n1 with
  | zero =>
    intro n2 c d1 d2 h1 h2 t1 t2
    have e1 : c = d1 := Option.some.inj h1
    subst e1
    cases n2 with
    | zero => exact Option.some.inj h2
    | succ k =>
      have h2' : (if (gS K V c).1 = 0 then gN K V k (gS K V c).2 else none) = some d2 := h2
      rw [if_neg t1] at h2'
      exact absurd h2' (by simp)
  | succ n1 ih =>
    intro n2 c d1 d2 h1 h2 t1 t2
    have h1' : (if (gS K V c).1 = 0 then gN K V n1 (gS K V c).2 else none) = some d1 := h1
    by_cases z : (gS K V c).1 = 0
    · rw [if_pos z] at h1'
      cases n2 with
      | zero =>
        have e2 : c = d2 := Option.some.inj h2
        subst e2
        exact absurd z t2
      | succ k =>
        have h2' : (if (gS K V c).1 = 0 then gN K V k (gS K V c).2 else none) = some d2 := h2
        rw [if_pos z] at h2'
        exact ih k _ d1 d2 h1' h2' t1 t2
    · rw [if_neg z] at h1'
      exact absurd h1' (by simp)
theorem Er_un {c : Cf} {f j f2 j2 : Nat} (h1 : Er K V c f j) (h2 : Er K V c f2 j2) : f = f2 ∧ j = j2 := by
  obtain ⟨d1, ⟨n1, r1⟩, a1, b1, c1⟩ := h1
  obtain ⟨d2, ⟨n2, r2⟩, a2, b2, c2⟩ := h2
  have e : d1 = d2 := gN_un n1 n2 c d1 d2 r1 r2 (by rw [a1]; exact b1) (by rw [a2]; exact b2)
  subst e
  exact ⟨a1.symm.trans a2, c1.symm.trans c2⟩
theorem gS_i {c : Cf} (h : (gS K V c).1 = 0) : (gS K V c).2.1 = c.1 ∨ ((gS K V c).2.1 = c.1 + 1 ∧ ¬ K c.1 = 0) := by
  obtain ⟨i, st, fs, k, C, w⟩ := c
  revert h
  unfold gS aS0 aS1 aS2 aS3 aS4 isOpr
  dsimp only
  repeat' split
  all_goals first
    | (intro _; exact Or.inl rfl)
    | (intro _; refine Or.inr ⟨rfl, ?_⟩; omega)
    | (intro h; exact absurd h (by decide))
theorem gN_i : ∀ (n : Nat) (c d : Cf), gN K V n c = some d → (∀ i, i < c.1 → ¬ K i = 0) → ∀ i, i < d.1 → ¬ K i = 0 := by
  intro n
  induction n with
  | zero =>
    intro c d h hc
    have e : c = d := Option.some.inj h
    subst e
    exact hc
  | succ n ih =>
    intro c d h hc
    have h' : (if (gS K V c).1 = 0 then gN K V n (gS K V c).2 else none) = some d := h
    by_cases z : (gS K V c).1 = 0
    · rw [if_pos z] at h'
      refine ih _ d h' fun i hi => ?_
      rcases gS_i z with q | ⟨q, q2⟩
      · exact hc i (by omega)
      · by_cases y : i = c.1
        · rw [y]; exact q2
        · exact hc i (by omega)
    · rw [if_neg z] at h'
      exact absurd h' (by simp)
end
theorem VD_lt {B : Nat → Int} {L f j n : Nat} (h : VD B L f j) (h1 : 1 ≤ n) (hp : pos B L (n - 1) = L) : j < n := by
  obtain ⟨d, ⟨k, r⟩, _, _, e⟩ := h
  have q := gN_i k _ d r (fun i hi => absurd hi (Nat.not_lt_zero i))
  by_cases z : n - 1 < d.1
  · have y := q (n - 1) z
    unfold KF' at y
    rw [if_neg (by omega)] at y
    exact absurd rfl y
  · omega
section
variable {m : xMem} {p : Int32 × xMem}
def TXC (m : xMem) (p : Int32 × xMem) : Prop := ((m.1 292 4).toInt = 4 ∧ p = (-1, m)) ∨ (¬ (m.1 292 4).toInt = 4 ∧ (p.2.1 255 4).toInt = 0 ∧ (∀ b j, ¬ (255 ≤ b ∧ b ≤ 290) → ¬ (b = 1 ∧ j = 10) → p.2.1 b j = m.1 b j) ∧ ∃ f j n : Nat, VD (bB m) (m.1 291 4).toNatClampNeg f j ∧ 1 ≤ n ∧ pos (bB m) (m.1 291 4).toNatClampNeg (n - 1) = (m.1 291 4).toNatClampNeg ∧ ((f = 9 ∧ p.1 = m.1 292 4 ∧ p.2.1 1 10 = m.1 292 4 + 1 ∧ (p.2.1 255 5).toInt = 0 ∧ (p.2.1 255 6).toInt = -1) ∨ (¬ f = 9 ∧ p.1 = -1 ∧ p.2.1 1 10 = m.1 292 4 ∧ (p.2.1 255 5).toInt = (f : Int) ∧ (p.2.1 255 6).toInt = PQ (bB m) (m.1 291 4).toNatClampNeg n j)))
theorem ca_text (h : InvW m) : vOk (TXC m) (fX11_text 0 m) := by
  have c0 : (0 : Int32).toInt = 0 := rfl
  have c3 : (3 : Int32).toInt = 3 := rfl
  have hb : 0 ≤ (m.1 292 4).toInt ∧ (m.1 292 4).toInt ≤ 4 := h.1.2.1.2.1.1.1.2.2.2.1
  have E : m.1 1 10 = m.1 292 4 := h.2.1.1.1
  obtain ⟨k, kl⟩ := XI_RB h
  unfold fX11_text fX11_text_0
  refine vAl (x := m.1 292 4) E.symm ?_
  refine vAlB (within_e _ _ _ _) ?_
  dsimp only
  by_cases g : (m.1 292 4).toInt = 4
  · rw [wi_0 (by omega), if_neg (not_not_intro rfl)]
    exact vOk_some (Or.inl ⟨g, rfl⟩)
  · rw [wi_1 (by omega), if_pos (show ¬ (1 : Int32) = 0 by decide)]
    refine vAl (x := m.1 292 4) E.symm ?_
    refine vIn (by omega) (by omega) fun _ => ?_
    have wn : (m.1 292 4).toNatClampNeg = (m.1 292 4).toInt.toNat := rfl
    refine vR fun r er => ?_
    have hr : 260 ≤ r ∧ r + 5 ≤ 290 := by omega
    refine vOk_bind (into_k (m := m) (L := (m.1 291 4).toNatClampNeg) hr.1 ⟨k.1, kl⟩) fun p7 q => ?_
    obtain ⟨q1, q2, q3, f, j, n, q4, q5, q6, q7⟩ := q
    have o : ∀ b j, ¬ (255 ≤ b ∧ b ≤ 290) → p7.2.1 b j = m.1 b j := fun b j w => q2 b j (by omega) (by omega)
    have e10 : p7.2.1 1 10 = m.1 292 4 := (o 1 10 (by omega)).trans E
    rcases q7 with ⟨a, f9, a5, a6⟩ | ⟨a, f9, a5, a6⟩
    · rw [a, if_pos (show ¬ (1 : Int32) = 0 by decide)]
      refine vAl (x := m.1 292 4) e10.symm ?_
      refine vAl (x := m.1 292 4 + 1) rfl ?_
      refine vR fun m11 e11 => ?_
      refine vAl (x := m.1 292 4 + 1) (xP_eqE e11) ?_
      refine vAl (x := m.1 292 4) (Int32.add_sub_cancel _ _).symm ?_
      refine vOk_some (Or.inr ⟨g, ?_, fun b j w1 w2 => ?_, f, j, n, q4, q5, q6, Or.inl ⟨f9, rfl, ?_, ?_, ?_⟩⟩)
      · show (m11.1 255 4).toInt = 0
        rw [e11, ← xP_pl (by omega)]; exact q1
      · show m11.1 b j = _
        rw [e11]
        show (if b = 1 ∧ j = 10 then _ else p7.2.1 b j) = _
        rw [if_neg w2]
        exact o b j w1
      · rw [e11]; exact xP_eq.symm
      · show (m11.1 255 5).toInt = 0
        rw [e11, ← xP_pl (by omega)]; exact a5
      · show (m11.1 255 6).toInt = -1
        rw [e11, ← xP_pl (by omega)]; exact a6
    · rw [a, if_neg (not_not_intro rfl)]
      exact vOk_some (Or.inr ⟨g, q1, fun b j w1 _ => o b j w1, f, j, n, q4, q5, q6, Or.inr ⟨f9, rfl, e10, a5, a6⟩⟩)
theorem ra_text (h : InvW m) (hp : TXC m p) : vOk (fun q : Int32 × xMem => InvW q.2 ∧ p.1 = q.1) (fX12_text 291 p.2) := by
  have hb : 0 ≤ (m.1 292 4).toInt ∧ (m.1 292 4).toInt ≤ 4 := h.1.2.1.2.1.1.1.2.2.2.1
  obtain ⟨k, kl⟩ := XI_RB h
  rcases hp with ⟨g, rfl⟩ | ⟨g, l4, o, f, j, n, vd, n1, pn, hv⟩
  · have g1 := h.1.2.1.2.1
    refine vOk_mono (vAnd2 (rn_text h.1) (text_d (m := m) (B := bB m) (L := (m.1 291 4).toNatClampNeg) g1 h.1.2.1.2.2.2.1 k.2.1 k.2.2)) fun q hq => ?_
    rcases hq.2 with ⟨_, a1, a2⟩ | ⟨a, _⟩
    · rw [a2]
      exact ⟨h, a1.symm⟩
    · exact absurd g a
  · have i1 : Inv p.2 := by
      refine Inv_o h.1 (fun b j hb => ?_) fun b j hb => ?_
      · refine o b j ?_ ?_
        · rintro ⟨w1, w2⟩
          rcases hb with hb | hb
          · rw [KCo_255 b (by omega) (by omega)] at hb; cases hb
          · omega
        · rintro ⟨rfl, rfl⟩
          rcases hb with hb | hb
          · exact absurd hb (by decide)
          · omega
      · have := BC_255 hb
        rw [o b j (by omega) ?_]
        · exact h.1.1 b j hb
        · rintro ⟨rfl, rfl⟩
          exact absurd hb (by decide)
    have hi : ∀ b, 291 ≤ b → ∀ j, p.2.1 b j = m.1 b j := fun b hb j => o b j (by omega) (by omega)
    have tx := text_r i1.2.1.2.1 i1.2.1.2.2.1 i1.2.1.2.2.2.1
    refine vOk_mono (vAnd2 (vAnd2 (rn_text i1) tx) (text_d (m := p.2) (B := bB m) (L := (m.1 291 4).toNatClampNeg) i1.2.1.2.1 i1.2.1.2.2.2.1 (by rw [hi 291 (by omega)]; exact k.2.1) (fun j hj => by rw [hi 295 (by omega)]; exact k.2.2 j hj))) fun q hq => ?_
    obtain ⟨⟨iq, _, _, _, fr⟩, td⟩ := hq
    rw [hi 292 (by omega) 4] at td
    obtain ⟨_, t4, t295, f2, j2, vd2, te⟩ := td.resolve_left (fun w => g w.1)
    obtain ⟨e1, e2⟩ := Er_un vd vd2
    subst e1
    subst e2
    have jn := VD_lt vd n1 pn
    have pq : PQ (bB m) (m.1 291 4).toNatClampNeg n j = (pos (bB m) (m.1 291 4).toNatClampNeg j : Int) := by
      unfold PQ
      rw [if_pos jn]
    rw [pq] at hv
    unfold TE at te
    rw [hi 292 (by omega) 4] at te
    have lo : ∀ b j, b < 291 → q.2.1 b j = p.2.1 b j := fun b j hb => fr b j (by omega)
    have all : p.1 = q.1 ∧ p.2.1 1 10 = q.2.1 292 4 ∧ p.2.1 255 5 = q.2.1 291 5 ∧ p.2.1 255 6 = q.2.1 291 6 := by
      rcases hv with ⟨f9, v1, v2, v3, v4⟩ | ⟨f9, v1, v2, v3, v4⟩
      · obtain ⟨_, u1, u2, u3, u4⟩ := te.resolve_right (fun w => w.1 f9)
        exact ⟨v1.trans u1.symm, v2.trans u2.symm, Int32.toInt_inj.mp (v3.trans u3.symm), Int32.toInt_inj.mp (v4.trans u4.symm)⟩
      · obtain ⟨_, u1, u2, u3, u4⟩ := te.resolve_left (fun w => f9 w.1)
        exact ⟨v1.trans u1.symm, v2.trans u2.symm, Int32.toInt_inj.mp (v3.trans u3.symm), Int32.toInt_inj.mp (v4.trans u4.symm)⟩
    have kp : ∀ b j, b < 255 → ¬ (b = 1 ∧ j = 10) → q.2.1 b j = m.1 b j := fun b j hb w => (lo b j (by omega)).trans (o b j (by omega) w)
    have q292 : ∀ j, j ≠ 4 → q.2.1 292 j = m.1 292 j := fun j hj => (fr 292 j (by omega)).trans (hi 292 (by omega) j)
    have q293 : ∀ j, q.2.1 293 j = m.1 293 j := fun j => (fr 293 j (by omega)).trans (hi 293 (by omega) j)
    obtain ⟨⟨x1, x2, x3, x4⟩, y, z1, z2, z3, z4⟩ := h.2
    refine ⟨⟨iq, ⟨⟨?_, ?_⟩, XD_cg (fun j _ => ⟨kp _ j (by omega) (by omega), kp _ j (by omega) (by omega)⟩) (fun j hj => q292 j (by omega)) x2, XM_cg (fun j _ => ⟨kp _ j (by omega) (by omega), kp _ j (by omega) (by omega), kp _ j (by omega) (by omega), kp _ j (by omega) (by omega)⟩) (fun j hj => q292 j (by omega)) x3, XL_cg (fun j _ => kp _ j (by omega) (by omega)) (fun j hj => q292 j (by omega)) x4⟩, XR_cg (Or.inr rfl) (fun b j _ l1 l2 => kp b j (by omega) (by omega)) (fun j _ => q293 j) y, ?_, ?_, ?_, fun j hj => ?_⟩, all.1⟩
    · rw [lo 1 10 (by omega)]; exact all.2.1
    · rw [kp 1 11 (by omega) (by omega), q292 5 (by omega)]; exact x1.2
    · refine Int32.toInt_inj.mp ?_
      rw [lo 255 4 (by omega), l4, t4]
    · rw [lo 255 5 (by omega)]; exact all.2.2.1
    · rw [lo 255 6 (by omega)]; exact all.2.2.2
    · rw [t4] at hj
      exfalso; omega
end
