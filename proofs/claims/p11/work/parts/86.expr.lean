/-! the class's readers of expressions keep to the machine -/
section
variable {K V P : Nat → Int} {n r k C w : Nat}
theorem knz (t : ∀ i, n ≤ i → K i = 0 ∧ V i = 0 ∧ P i = 0) {i : Nat} (h : ¬ K i = 0) : i < n := by
  by_cases q : i < n
  · exact q
  · exact absurd (t i (by omega)).1 h
theorem RD_8 {i j : Nat} {m : xMem} {x : Int32} (hr : 260 ≤ r) (h : RD m K V P n i k) (hx : x.toInt = (j : Int)) (hj : j ≤ 1000) : RD (xPut m 255 8 x) K V P n j k := by
  obtain ⟨t, hi, hk, hi1⟩ := h
  refine ⟨TKN_FR hr (FR_put (r := r) FR_refl (by omega)) t, ?_, ?_, hj⟩
  · rw [show (xPut m 255 8 x).1 255 8 = x from xP_eq.symm]; exact hx
  · rw [← xP_sl (by omega)]; exact hk
theorem RD_FR {i j : Nat} {m m1 : xMem} (hr : 260 ≤ r) (h : RD m K V P n i k) (f : FR r m m1) (hx : (m1.1 255 8).toInt = (j : Int)) (hj : j ≤ 1000) : RD m1 K V P n j k := by
  obtain ⟨t, hi, hk, hi1⟩ := h
  exact ⟨TKN_FR hr f t, hx, by rw [f.2 255 9 (by omega)]; exact hk, hj⟩
theorem RS_fail {m : xMem} {i : Nat} {c d : Cf} {f : Nat} {f' : Int32} {gd : Nat → Prop} {p : Int32 × xMem} (hc : Rc K V c d) (hd : d.1 = i) (h : ∃ d', gS K V d = (f, d')) (hf : ¬ f = 0 ∧ ¬ f = 9) (hf' : f'.toInt = (f : Int)) (q : p.1 = 0 ∧ p.2.1 255 5 = f' ∧ (p.2.1 255 6).toInt = P i ∧ FR r m p.2) : RS K V P r m c gd p := by
  obtain ⟨d', hs⟩ := h
  obtain ⟨q1, q2, q3, q4⟩ := q
  refine ⟨q4, Or.inr ⟨q1, f, i, ?_, hf.2, by rw [q2]; exact hf', q3⟩⟩
  have := Er_tr hc (Er_1 hs hf.1)
  rw [hd] at this
  exact this
theorem RS_mono {m m0 : xMem} {c c0 : Cf} {gd gd0 : Nat → Prop} {p : Int32 × xMem} (f : FR r m0 m) (h5 : S56 m0 m) (hc : Rc K V c0 c) (hg : ∀ i', gd i' → gd0 i') (q : RS K V P r m c gd p) : RS K V P r m0 c0 gd0 p := by
  obtain ⟨q1, q2⟩ := q
  refine ⟨FR_tr f q1, ?_⟩
  rcases q2 with ⟨a, i', b, z, c⟩ | ⟨a, f, j, b, c⟩
  · exact Or.inl ⟨a, i', b, S56_tr h5 z, hg i' c⟩
  · exact Or.inr ⟨a, f, j, Er_tr hc b, c⟩
theorem v01x {β : Type} {Q : β → Prop} {A B : Option β} {x : Int32} (h : x = 0 ∨ x = 1) (k : vOk Q A) : vOk Q (bif (decide (x = 0) || decide (x = 1)) then A else B) := by
  rcases h with rfl | rfl
  · exact k
  · exact k
theorem one_c {g79 g77 : Nat → Nat → Int32 → xMem → Option (Int32 × xMem)} {o : Nat} (hr : 260 ≤ r) (ho : o ≤ 8) (h1 : o < 8 → cOne K V P n r k C w g79 (o + 1)) (h2 : o < 8 → cSum K V P n r k C w g77 (o + 1)) : cOne K V P n r k C w (fX7_readOneP g79 g77) o := by
  intro fs i m a2 ha hfs hR
  have c0 : (0 : Int32).toInt = 0 := rfl
  have c1 : (1 : Int32).toInt = 1 := rfl
  have c2 : (2 : Int32).toInt = 2 := rfl
  have c5 : (5 : Int32).toInt = 5 := rfl
  have c8 : (8 : Int32).toInt = 8 := rfl
  have c10 : (10 : Int32).toInt = 10 := rfl
  have c13 : (13 : Int32).toInt = 13 := rfl
  have c14 : (14 : Int32).toInt = 14 := rfl
  have c26 : (26 : Int32).toInt = 26 := rfl
  have c9999 : (9999 : Int32).toInt = 9999 := rfl
  have hR' := hR
  obtain ⟨⟨t7, tn, ta, tb⟩, hi, hk, hi1⟩ := hR'
  have eS : gS K V (i, 1, fs, k, C, w) = aS1 K V i fs k C w := rfl
  have er : ∀ (f : Nat) (f' : Int32), f'.toInt = (f : Int) → (¬ f = 0 ∧ ¬ f = 9) → aS1 K V i fs k C w = (f, (i, 1, fs, k, C, w)) → vOk (RS K V P r m (i, 1, fs, k, C, w) (fun i' => i + 1 ≤ i' ∧ i' ≤ 1000 ∧ Rc K V (i, 1, fs, k, C, w) (i', 2, dropM fs, k, C, w))) ((fX7_fails 255 f' m).bind fun p2 => bif (decide (p2.1 = 0) || decide (p2.1 = 1)) then some (p2.1, p2.2) else none) := by
    intro f f' hf' hf hs
    refine vOk_bind (fails_k (r := r) hR) fun p hp => ?_
    refine v01x (Or.inl hp.1) (vOk_some ?_)
    exact RS_fail (d := (i, 1, fs, k, C, w)) Rc_refl rfl ⟨_, eS.trans hs⟩ hf hf' hp
  have r88 : ∀ l3 : Int32, ¬ K i = 0 → aS1 K V i fs k C w = (0, (i + 1, 2, dropM fs, k, C, w)) → vOk (RS K V P r m (i, 1, fs, k, C, w) (fun i' => i + 1 ≤ i' ∧ i' ≤ 1000 ∧ Rc K V (i, 1, fs, k, C, w) (i', 2, dropM fs, k, C, w))) (fX7_readOneP_88 g79 g77 255 r a2 l3 m) := by
    intro l3 hK hs
    have hn := knz tb hK
    unfold fX7_readOneP_88
    refine vBindP (value_k hR) fun v _ _ => ?_
    dsimp only
    refine vOk_bind (add_k hr) fun p2 q => ?_
    refine vAl (x := m.1 255 8) (congrFun q.2 8).symm ?_
    refine vA (by omega) fun x4 e4 f4 => ?_
    refine vR fun m5 e5 => ?_
    refine vOk_some ⟨?_, Or.inl ⟨rfl, i + 1, ?_, by rw [e5]; exact S56_8 (S56_r S56_refl q.2) (by omega), Nat.le_refl _, by omega, Rc_1 (eS.trans hs)⟩⟩
    · show FR r m m5
      rw [e5]; exact FR_put q.1 (by omega)
    · show (m5.1 255 8).toInt = _
      rw [e5, show (xPut p2 255 8 x4).1 255 8 = x4 from xP_eq.symm]; omega
  have r79 : ∀ (l3 s0 s1 : Int32), K i = 26 → ((s0 = s1 ∧ ¬ bad5 (V i) k) ∨ (¬ s0 = s1 ∧ bad5 (V i) k)) → vOk (RS K V P r m (i, 1, fs, k, C, w) (fun i' => i + 1 ≤ i' ∧ i' ≤ 1000 ∧ Rc K V (i, 1, fs, k, C, w) (i', 2, dropM fs, k, C, w))) (fX7_readOneP_79 g79 g77 255 r a2 l3 s0 s1 m) := by
    intro l3 s0 s1 hK h
    unfold fX7_readOneP_79
    have g26 : ∀ (q : Nat × Cf), (if bad5 (V i) k then ((5, (i, 1, fs, k, C, w)) : Nat × Cf) else (0, (i + 1, 2, dropM fs, k, C, w))) = q → aS1 K V i fs k C w = q := by
      intro q hq
      unfold aS1
      rw [if_neg (by omega), if_pos hK]
      exact hq
    rcases h with ⟨e, b⟩ | ⟨e, b⟩
    · rw [if_pos e]
      exact r88 l3 (by omega) (g26 _ (if_neg b))
    · rw [if_neg e]
      exact er 5 5 rfl (by decide) (g26 _ (if_pos b))
  have r50 : ∀ (l3 s0 : Int32), (l3.toInt = 2 ∧ K i = 2 ∧ V i ≤ 9999) ∨ (l3.toInt = 26 ∧ K i = 26 ∧ ((s0 = 0 ∧ V i < 5) ∨ (s0 = 1 ∧ 5 ≤ V i))) → vOk (RS K V P r m (i, 1, fs, k, C, w) (fun i' => i + 1 ≤ i' ∧ i' ≤ 1000 ∧ Rc K V (i, 1, fs, k, C, w) (i', 2, dropM fs, k, C, w))) (fX7_readOneP_50 g79 g77 255 r a2 l3 s0 m) := by
    intro l3 s0 h
    unfold fX7_readOneP_50
    refine vNe (fun g => ?_) (fun g => ?_)
    · have h' := h.resolve_right (fun q => by have := q.1; omega)
      refine r88 l3 (by have := h'.2.1; omega) ?_
      unfold aS1
      rw [if_pos h'.2.1, if_neg (by have := h'.2.2; omega)]
    · have h' := h.resolve_left (fun q => by have := q.1; omega)
      refine vBindP (value_k hR) fun v _ hv => ?_
      dsimp only
      refine vEq (fun g2 => ?_) (fun g2 => ?_)
      · refine r88 l3 (by have := h'.2.1; omega) ?_
        unfold aS1
        rw [if_neg (by have := h'.2.1; omega), if_pos h'.2.1, if_neg (fun q => q.1 (by omega))]
      · refine vAl (x := m.1 255 9) rfl ?_
        refine vNe (fun g3 => ?_) (fun g3 => ?_)
        · have hk0 : ¬ k = 0 := fun q => g3 (hk.mpr q)
          refine r79 l3 s0 0 h'.2.1 ?_
          rcases h'.2.2 with ⟨e, b⟩ | ⟨e, b⟩
          · exact Or.inl ⟨e, fun q => by omega⟩
          · exact Or.inr ⟨by rw [e]; decide, by omega, Or.inr ⟨b, hk0⟩⟩
        · have hk0 : k = 0 := hk.mp (by omega)
          refine r79 l3 s0 1 h'.2.1 ?_
          rcases h'.2.2 with ⟨e, b⟩ | ⟨e, b⟩
          · exact Or.inr ⟨by rw [e]; decide, by omega, Or.inl ⟨b, hk0⟩⟩
          · exact Or.inl ⟨e, fun q => by omega⟩
  have r37 : ∀ l3 : Int32, (l3.toInt = 2 ∧ K i = 2 ∧ V i ≤ 9999) ∨ (l3.toInt = 26 ∧ K i = 26) → vOk (RS K V P r m (i, 1, fs, k, C, w) (fun i' => i + 1 ≤ i' ∧ i' ≤ 1000 ∧ Rc K V (i, 1, fs, k, C, w) (i', 2, dropM fs, k, C, w))) (fX7_readOneP_37 g79 g77 255 r a2 l3 m) := by
    intro l3 h
    unfold fX7_readOneP_37
    refine vBindP (value_k hR) fun v _ hv => ?_
    dsimp only
    refine vLt (fun g => ?_) (fun g => ?_)
    · refine r50 l3 0 ?_
      rcases h with q | q
      · exact Or.inl q
      · exact Or.inr ⟨q.1, q.2, Or.inl ⟨rfl, by omega⟩⟩
    · refine r50 l3 1 ?_
      rcases h with q | q
      · exact Or.inl q
      · exact Or.inr ⟨q.1, q.2, Or.inr ⟨rfl, by omega⟩⟩
  have r16 : ∀ l3 : Int32, (l3.toInt = 2 ∧ K i = 2) ∨ (l3.toInt = 26 ∧ K i = 26) → vOk (RS K V P r m (i, 1, fs, k, C, w) (fun i' => i + 1 ≤ i' ∧ i' ≤ 1000 ∧ Rc K V (i, 1, fs, k, C, w) (i', 2, dropM fs, k, C, w))) (fX7_readOneP_16 g79 g77 255 r a2 l3 m) := by
    intro l3 h
    unfold fX7_readOneP_16
    refine vNe (fun g => ?_) (fun g => ?_)
    · exact r37 l3 (Or.inr (h.resolve_left (fun q => by have := q.1; omega)))
    · have h' := h.resolve_right (fun q => by have := q.1; omega)
      refine vBindP (value_k hR) fun v _ hv => ?_
      dsimp only
      refine vLe (fun g2 => ?_) (fun g2 => ?_)
      · exact r37 l3 (Or.inl ⟨h'.1, h'.2, by omega⟩)
      · refine er 2 2 rfl (by decide) ?_
        unfold aS1
        rw [if_pos h'.2, if_pos (by omega)]
  have r205 : ∀ (l4 : Int32) (m1 : xMem), (l4 = 0 ∨ l4 = 1) → (∀ x : Int32, x = m1.1 255 8 + 1 → RS K V P r m (i, 1, fs, k, C, w) (fun i' => i + 1 ≤ i' ∧ i' ≤ 1000 ∧ Rc K V (i, 1, fs, k, C, w) (i', 2, dropM fs, k, C, w)) (l4, xPut m1 255 8 x)) → vOk (RS K V P r m (i, 1, fs, k, C, w) (fun i' => i + 1 ≤ i' ∧ i' ≤ 1000 ∧ Rc K V (i, 1, fs, k, C, w) (i', 2, dropM fs, k, C, w))) (fX7_readOneP_205 g79 g77 255 r a2 l4 m1) := by
    intro l4 m1 h q
    unfold fX7_readOneP_205
    refine vAl (x := m1.1 255 8) rfl ?_
    refine vR fun x e => ?_
    refine vR fun m3 e3 => ?_
    refine v01x h (vOk_some ?_)
    rw [e3]
    exact q x e
  have r127 : ∀ l3 : Int32, (l3.toInt = 13 ∧ K i = 13) ∨ (l3.toInt = 10 ∧ K i = 10) → vOk (RS K V P r m (i, 1, fs, k, C, w) (fun i' => i + 1 ≤ i' ∧ i' ≤ 1000 ∧ Rc K V (i, 1, fs, k, C, w) (i', 2, dropM fs, k, C, w))) (fX7_readOneP_127 g79 g77 255 r a2 l3 m) := by
    intro l3 h
    have hn : i < n := knz tb (by omega)
    unfold fX7_readOneP_127
    refine vLt (fun g => ?_) (fun g => ?_)
    · have ho8 : ¬ opc fs = 8 := by omega
      refine vAl (x := m.1 255 8) rfl ?_
      refine vA (by omega) fun x3 e3 f3 => ?_
      refine vR fun m4 e4 => ?_
      have R4 : RD m4 K V P n (i + 1) k := by rw [e4]; exact RD_8 hr hR (by omega) (by omega)
      have F4 : FR r m m4 := by rw [e4]; exact FR_put FR_refl (by omega)
      have S4 : S56 m m4 := by rw [e4]; exact S56_8 S56_refl (by omega)
      refine vNe (fun g2 => ?_) (fun g2 => ?_)
      · have h' := h.resolve_right (fun q => by have := q.1; omega)
        have s6 : gS K V (i, 1, fs, k, C, w) = (0, (i + 1, 1, 6 :: fs, k, C, w)) := by
          rw [eS]; unfold aS1
          rw [if_neg (by omega), if_neg (by omega), if_pos h'.2, if_neg ho8]
        have o6 : opc (6 :: fs) = o + 1 := by
          show (if 6 = 3 ∨ 6 = 6 ∨ 6 = 7 then 1 else 0) + opc fs = _
          rw [if_pos (by omega)]; omega
        refine vA (by omega) fun x6 e6 f6 => ?_
        refine vOk_bind (h2 (by omega) (6 :: fs) (i + 1) m4 x6 (by omega) o6 (show ¬ 6 = 7 by decide) R4) fun p7 q => ?_
        obtain ⟨qF, q⟩ := q
        rcases q with ⟨q1, i', q2, qs, q3, q4, q5, q6⟩ | ⟨q1, f, j, q2, q3, q4, q5⟩
        · rw [q1, if_neg (show ¬ (1 : Int32) = 0 by decide)]
          have R7 : RD p7.2 K V P n i' k := RD_FR hr R4 qF q2 q4
          have F7 := FR_tr F4 qF
          refine vBindP (kind_k R7) fun x _ hx => ?_
          dsimp only
          refine vEq (fun g3 => ?_) (fun g3 => ?_)
          · have hn' : i' < n := knz tb (by omega)
            refine r205 1 p7.2 (Or.inr rfl) fun x ex => ⟨FR_put F7 (by omega), Or.inl ⟨rfl, i' + 1, ?_, S56_8 (S56_tr S4 qs) (by omega), by omega, by omega, ?_⟩⟩
            · show ((xPut p7.2 255 8 x).1 255 8).toInt = _
              have t8 := tiB (p7.2.1 255 8)
              rw [show (xPut p7.2 255 8 x).1 255 8 = x from xP_eq.symm, ex, add1 (n := 1000) (by omega) (by omega)]
              omega
            · refine Rc_tr (Rc_step s6 q5) (Rc_1 ?_)
              show aS2 K i' (6 :: fs) k C w = _
              unfold aS2
              rw [if_neg q6, if_pos ⟨rfl, by omega⟩]
              rfl
          · refine vOk_bind (fails_k (r := r) R7) fun p hp => ?_
            refine v01x (Or.inl hp.1) (vOk_some ?_)
            refine RS_fail (d := (i', 2, 6 :: fs, k, C, w)) (Rc_step s6 q5) rfl ⟨(i', 2, 6 :: fs, k, C, w), ?_⟩ (f := 1) (by decide) rfl ⟨hp.1, hp.2.1, hp.2.2.1, FR_tr F7 hp.2.2.2⟩
            show aS2 K i' (6 :: fs) k C w = _
            unfold aS2
            rw [if_neg q6, if_neg (fun z => by have := z.2; omega), if_neg (fun z => absurd z.1 (by show ¬ (6 : Nat) = 4; decide)), if_neg (show ¬ topF (6 :: fs) = 5 from by show ¬ (6 : Nat) = 5; decide), if_neg (fun z => absurd z.1 (by show ¬ (6 : Nat) = 1; decide))]
        · rw [q1, if_pos rfl]
          refine r205 0 p7.2 (Or.inl rfl) fun x ex => ⟨FR_put (FR_tr F4 qF) (by omega), Or.inr ⟨rfl, f, j, Er_tr (Rc_1 s6) q2, q3, ?_, ?_⟩⟩
          · show ((xPut p7.2 255 8 x).1 255 5).toInt = _
            rw [← xP_sl (by omega)]; exact q4
          · show ((xPut p7.2 255 8 x).1 255 6).toInt = _
            rw [← xP_sl (by omega)]; exact q5
      · have h' := h.resolve_left (fun q => by have := q.1; omega)
        have s7 : gS K V (i, 1, fs, k, C, w) = (0, (i + 1, 1, 7 :: fs, k, C, w)) := by
          rw [eS]; unfold aS1
          rw [if_neg (by omega), if_neg (by omega), if_neg (by omega), if_pos h'.2, if_neg ho8]
        have o7 : opc (7 :: fs) = o + 1 := by
          show (if 7 = 3 ∨ 7 = 6 ∨ 7 = 7 then 1 else 0) + opc fs = _
          rw [if_pos (by omega)]; omega
        refine vA (by omega) fun x6 e6 f6 => ?_
        refine vOk_bind (h1 (by omega) (7 :: fs) (i + 1) m4 x6 (by omega) o7 R4) fun p14 q => ?_
        refine vOk_bind (add_k hr) fun p15 qa => ?_
        have q' := RS_mono (gd0 := fun i' => i + 1 ≤ i' ∧ i' ≤ 1000 ∧ Rc K V (i, 1, fs, k, C, w) (i', 2, dropM fs, k, C, w)) F4 S4 (Rc_1 s7) (fun i' z => ⟨by omega, z.2.1, Rc_step s7 z.2.2⟩) q
        obtain ⟨qF, q'⟩ := q'
        have c255 : ∀ j, p15.1 255 j = p14.2.1 255 j := fun j => congrFun qa.2 j
        rcases q' with ⟨a, i', b, z, c⟩ | ⟨a, f, j, b, c, d, e⟩
        · refine v01x (Or.inr a) (vOk_some ⟨FR_tr qF qa.1, Or.inl ⟨a, i', ?_, S56_r z qa.2, c⟩⟩)
          show (p15.1 255 8).toInt = _
          rw [c255]; exact b
        · refine v01x (Or.inl a) (vOk_some ⟨FR_tr qF qa.1, Or.inr ⟨a, f, j, b, c, ?_, ?_⟩⟩)
          · show (p15.1 255 5).toInt = _
            rw [c255]; exact d
          · show (p15.1 255 6).toInt = _
            rw [c255]; exact e
    · have ho8 : opc fs = 8 := by omega
      refine er 3 3 rfl (by decide) ?_
      unfold aS1
      rcases h with ⟨_, q⟩ | ⟨_, q⟩
      · rw [if_neg (by omega), if_neg (by omega), if_pos q, if_pos ho8]
      · rw [if_neg (by omega), if_neg (by omega), if_neg (by omega), if_pos q, if_pos ho8]
  unfold fX7_readOneP fX7_readOneP_0
  refine vBindP (kind_k hR) fun x _ hx => ?_
  dsimp only
  refine vEq (fun g => r16 x (Or.inl ⟨by omega, by omega⟩)) (fun g => ?_)
  refine vNe (fun g2 => ?_) (fun g2 => r16 x (Or.inr ⟨by omega, by omega⟩))
  refine vEq (fun g3 => r127 x (Or.inl ⟨by omega, by omega⟩)) (fun g3 => ?_)
  refine vEq (fun g4 => r127 x (Or.inr ⟨by omega, by omega⟩)) (fun g4 => ?_)
  refine er 1 1 rfl (by decide) ?_
  unfold aS1
  rw [if_neg (by omega), if_neg (by omega), if_neg (by omega), if_neg (by omega)]
theorem prod_loop {ff : Nat → Nat → Int32 → xMem → Option (Int32 × xMem)} {o : Nat} (hr : 260 ≤ r) (hg : cOne K V P n r k C w ff o) {fs : List Nat} (hfs : opc fs = o) (h7 : ¬ topF fs = 7) {a2 : Int32} (ha : a2.toInt = (o : Int)) {i0 : Nat} {m0 : xMem} : ∀ (fuel : Nat) (l3 l4 : Int32) (m : xMem), 0 ≤ l4.toInt → 301 - l4.toInt < (fuel : Int) → 1 ≤ fuel → TKN m K V P n → ((m.1 255 9).toInt = 0 ↔ k = 0) → FR r m0 m → ((l3 = 1 ∧ ∃ i : Nat, (m.1 255 8).toInt = (i : Int) ∧ S56 m0 m ∧ l4.toInt + 1 ≤ (i : Int) ∧ i0 + 1 ≤ i ∧ i ≤ 1000 ∧ Rc K V (i0, 1, fs, k, C, w) (i, 2, fs, k, C, w)) ∨ (l3 = 0 ∧ ∃ f j : Nat, Er K V (i0, 1, fs, k, C, w) f j ∧ ¬ f = 9 ∧ (m.1 255 5).toInt = (f : Int) ∧ (m.1 255 6).toInt = P j)) → vOk (RS K V P r m0 (i0, 1, fs, k, C, w) (fun i' => i0 + 1 ≤ i' ∧ i' ≤ 1000 ∧ Rc K V (i0, 1, fs, k, C, w) (i', 2, fs, k, C, w) ∧ ¬ (K i' = 11 ∨ K i' = 12))) (fX7_readProductP_10 ff 255 r a2 fuel l3 l4 m) := by
  have c0 : (0 : Int32).toInt = 0 := rfl
  have c1 : (1 : Int32).toInt = 1 := rfl
  have c11 : (11 : Int32).toInt = 11 := rfl
  have c12 : (12 : Int32).toInt = 12 := rfl
  have c300 : (300 : Int32).toInt = 300 := rfl
  intro fuel
  induction fuel with
  | zero => intro l3 l4 m _ _ h; exact absurd h (by decide)
  | succ fuel ih =>
    intro l3 l4 m h4 hmu _ t hk F h
    have stop : (l3 = 1 → ∀ i : Nat, (m.1 255 8).toInt = (i : Int) → ¬ (K i = 11 ∨ K i = 12)) → vOk (RS K V P r m0 (i0, 1, fs, k, C, w) (fun i' => i0 + 1 ≤ i' ∧ i' ≤ 1000 ∧ Rc K V (i0, 1, fs, k, C, w) (i', 2, fs, k, C, w) ∧ ¬ (K i' = 11 ∨ K i' = 12))) (fX7_readProductP_76 ff 255 r a2 l3 m) := by
      intro z
      unfold fX7_readProductP_76
      rcases h with ⟨a, i, b, bs, b1, b2, b3, b4⟩ | ⟨a, f, j, b⟩
      · refine v01x (Or.inr a) (vOk_some ⟨F, Or.inl ⟨a, i, b, bs, b2, b3, b4, ?_⟩⟩)
        have z' := z a i b
        exact z'
      · exact v01x (Or.inl a) (vOk_some ⟨F, Or.inr ⟨a, f, j, b⟩⟩)
    rw [fX7_readProductP_10]
    refine vLe (fun g => ?_) (fun g => ?_)
    · refine stop fun a i b => ?_
      obtain ⟨_, i2, b', _, b1, _⟩ := h.resolve_right (fun q => absurd (a.symm.trans q.1) (by decide))
      have hi : n ≤ i := by have := t.2.1; omega
      have := (t.2.2.2 i hi).1
      omega
    · refine vEq (fun g2 => ?_) (fun g2 => ?_)
      · refine stop fun a => ?_
        rw [a] at g2
        exact absurd g2 (by decide)
      · obtain ⟨a, i, b, bs, b1, b2, b3, b4⟩ := h.resolve_right (fun q => g2 (by rw [q.1]))
        have R : RD m K V P n i k := ⟨t, b, hk, b3⟩
        have r40 : (K i = 11 ∨ K i = 12) → vOk (RS K V P r m0 (i0, 1, fs, k, C, w) (fun i' => i0 + 1 ≤ i' ∧ i' ≤ 1000 ∧ Rc K V (i0, 1, fs, k, C, w) (i', 2, fs, k, C, w) ∧ ¬ (K i' = 11 ∨ K i' = 12))) (fX7_readProductP_40 ff 255 r a2 (fX7_readProductP_10 ff 255 r a2 fuel) l4 m) := by
          intro hK
          have hn : i < n := knz t.2.2.2 (by omega)
          have tn := t.2.1
          unfold fX7_readProductP_40
          refine vBindP (kind_k R) fun x _ hx => ?_
          dsimp only
          refine vAl (x := m.1 255 8) rfl ?_
          refine vA (by omega) fun x3 e3 f3 => ?_
          refine vR fun m4 e4 => ?_
          have R4 : RD m4 K V P n (i + 1) k := by rw [e4]; exact RD_8 hr R (by omega) (by omega)
          have F4 : FR r m m4 := by rw [e4]; exact FR_put FR_refl (by omega)
          have S4 : S56 m m4 := by rw [e4]; exact S56_8 S56_refl (by omega)
          have s1 : gS K V (i, 2, fs, k, C, w) = (0, (i + 1, 1, fs, k, C, w)) := by
            show aS2 K i fs k C w = _
            unfold aS2
            rw [if_pos (by unfold isOpr; omega)]
          refine vOk_bind (hg fs (i + 1) m4 a2 ha hfs R4) fun p5 q => ?_
          refine vOk_bind (add_k hr) fun p6 qa => ?_
          obtain ⟨qF, q⟩ := q
          refine vA (by omega) fun x7 e7 f7 => ?_
          have F6 := FR_tr F (FR_tr F4 (FR_tr qF qa.1))
          have t6 : TKN p6 K V P n := TKN_FR hr (FR_tr F4 (FR_tr qF qa.1)) t
          have k6 : (p6.1 255 9).toInt = 0 ↔ k = 0 := by rw [(FR_tr F4 (FR_tr qF qa.1)).2 255 9 (by omega)]; exact hk
          have c255 : ∀ j, p6.1 255 j = p5.2.1 255 j := fun j => congrFun qa.2 j
          refine ih p5.1 x7 p6 (by omega) (by omega) (by omega) t6 k6 F6 ?_
          rcases q with ⟨d1, i', d2, ds, d3, d4, d5⟩ | ⟨d1, f, j, d2, d3, d4, d5⟩
          · refine Or.inl ⟨d1, i', by rw [c255]; exact d2, S56_tr bs (S56_tr S4 (S56_r ds qa.2)), by omega, by omega, d4, Rc_tr b4 (Rc_step s1 (by rw [dropM_id h7] at d5; exact d5))⟩
          · exact Or.inr ⟨d1, f, j, Er_tr b4 (Er_tr (Rc_1 s1) d2), d3, by rw [c255]; exact d4, by rw [c255]; exact d5⟩
        refine vBindP (kind_k R) fun x _ hx => ?_
        dsimp only
        refine vEq (fun g3 => r40 (by omega)) (fun g3 => ?_)
        refine vBindP (kind_k R) fun x5 _ hx5 => ?_
        dsimp only
        refine vNe (fun g4 => ?_) (fun g4 => r40 (by omega))
        refine stop fun _ j hj => ?_
        have : j = i := by omega
        subst this
        omega
theorem prod_c {ff : Nat → Nat → Int32 → xMem → Option (Int32 × xMem)} {o : Nat} (hr : 260 ≤ r) (hg : cOne K V P n r k C w ff o) : cProd K V P n r k C w (fX7_readProductP ff) o := by
  intro fs i m a2 ha hfs h7 hR
  have c0 : (0 : Int32).toInt = 0 := rfl
  have hR' := hR
  obtain ⟨t, hi, hk, hi1⟩ := hR'
  have cF := xFu
  unfold fX7_readProductP fX7_readProductP_0
  refine vOk_bind (hg fs i m a2 ha hfs hR) fun p q => ?_
  obtain ⟨qF, q⟩ := q
  refine prod_loop hr hg hfs h7 ha xFuel p.1 0 p.2 (by omega) (by omega) (by omega) (TKN_FR hr qF t) (by rw [qF.2 255 9 (by omega)]; exact hk) qF ?_
  rcases q with ⟨d1, i', d2, ds, d3, d4, d5⟩ | d
  · exact Or.inl ⟨d1, i', d2, ds, by omega, d3, d4, by rw [dropM_id h7] at d5; exact d5⟩
  · exact Or.inr d
theorem sum_loop {ff : Nat → Nat → Int32 → xMem → Option (Int32 × xMem)} {o : Nat} (hr : 260 ≤ r) (hg : cProd K V P n r k C w ff o) {fs : List Nat} (hfs : opc fs = o) (h7 : ¬ topF fs = 7) {a2 : Int32} (ha : a2.toInt = (o : Int)) {i0 : Nat} {m0 : xMem} : ∀ (fuel : Nat) (l3 l4 : Int32) (m : xMem), 0 ≤ l4.toInt → 301 - l4.toInt < (fuel : Int) → 1 ≤ fuel → TKN m K V P n → ((m.1 255 9).toInt = 0 ↔ k = 0) → FR r m0 m → ((l3 = 1 ∧ ∃ i : Nat, (m.1 255 8).toInt = (i : Int) ∧ S56 m0 m ∧ l4.toInt + 1 ≤ (i : Int) ∧ i0 + 1 ≤ i ∧ i ≤ 1000 ∧ Rc K V (i0, 1, fs, k, C, w) (i, 2, fs, k, C, w) ∧ ¬ (K i = 11 ∨ K i = 12)) ∨ (l3 = 0 ∧ ∃ f j : Nat, Er K V (i0, 1, fs, k, C, w) f j ∧ ¬ f = 9 ∧ (m.1 255 5).toInt = (f : Int) ∧ (m.1 255 6).toInt = P j)) → vOk (RS K V P r m0 (i0, 1, fs, k, C, w) (fun i' => i0 + 1 ≤ i' ∧ i' ≤ 1000 ∧ Rc K V (i0, 1, fs, k, C, w) (i', 2, fs, k, C, w) ∧ ¬ isOpr (K i'))) (fX7_readSumP_10 ff 255 r a2 fuel l3 l4 m) := by
  have c0 : (0 : Int32).toInt = 0 := rfl
  have c1 : (1 : Int32).toInt = 1 := rfl
  have c9 : (9 : Int32).toInt = 9 := rfl
  have c10 : (10 : Int32).toInt = 10 := rfl
  have c300 : (300 : Int32).toInt = 300 := rfl
  intro fuel
  induction fuel with
  | zero => intro l3 l4 m _ _ h; exact absurd h (by decide)
  | succ fuel ih =>
    intro l3 l4 m h4 hmu _ t hk F h
    have stop : (l3 = 1 → ∀ i : Nat, (m.1 255 8).toInt = (i : Int) → ¬ (K i = 9 ∨ K i = 10)) → vOk (RS K V P r m0 (i0, 1, fs, k, C, w) (fun i' => i0 + 1 ≤ i' ∧ i' ≤ 1000 ∧ Rc K V (i0, 1, fs, k, C, w) (i', 2, fs, k, C, w) ∧ ¬ isOpr (K i'))) (fX7_readSumP_76 ff 255 r a2 l3 m) := by
      intro z
      unfold fX7_readSumP_76
      rcases h with ⟨a, i, b, bs, b1, b2, b3, b4, b5⟩ | ⟨a, f, j, b⟩
      · refine v01x (Or.inr a) (vOk_some ⟨F, Or.inl ⟨a, i, b, bs, b2, b3, b4, ?_⟩⟩)
        have z' := z a i b
        unfold isOpr; omega
      · exact v01x (Or.inl a) (vOk_some ⟨F, Or.inr ⟨a, f, j, b⟩⟩)
    rw [fX7_readSumP_10]
    refine vLe (fun g => ?_) (fun g => ?_)
    · refine stop fun a i b => ?_
      obtain ⟨_, i2, b', _, b1, _⟩ := h.resolve_right (fun q => absurd (a.symm.trans q.1) (by decide))
      have hi : n ≤ i := by have := t.2.1; omega
      have := (t.2.2.2 i hi).1
      omega
    · refine vEq (fun g2 => ?_) (fun g2 => ?_)
      · refine stop fun a => ?_
        rw [a] at g2
        exact absurd g2 (by decide)
      · obtain ⟨a, i, b, bs, b1, b2, b3, b4, b5⟩ := h.resolve_right (fun q => g2 (by rw [q.1]))
        have R : RD m K V P n i k := ⟨t, b, hk, b3⟩
        have r40 : (K i = 9 ∨ K i = 10) → vOk (RS K V P r m0 (i0, 1, fs, k, C, w) (fun i' => i0 + 1 ≤ i' ∧ i' ≤ 1000 ∧ Rc K V (i0, 1, fs, k, C, w) (i', 2, fs, k, C, w) ∧ ¬ isOpr (K i'))) (fX7_readSumP_40 ff 255 r a2 (fX7_readSumP_10 ff 255 r a2 fuel) l4 m) := by
          intro hK
          have hn : i < n := knz t.2.2.2 (by omega)
          have tn := t.2.1
          unfold fX7_readSumP_40
          refine vBindP (kind_k R) fun x _ hx => ?_
          dsimp only
          refine vAl (x := m.1 255 8) rfl ?_
          refine vA (by omega) fun x3 e3 f3 => ?_
          refine vR fun m4 e4 => ?_
          have R4 : RD m4 K V P n (i + 1) k := by rw [e4]; exact RD_8 hr R (by omega) (by omega)
          have F4 : FR r m m4 := by rw [e4]; exact FR_put FR_refl (by omega)
          have S4 : S56 m m4 := by rw [e4]; exact S56_8 S56_refl (by omega)
          have s1 : gS K V (i, 2, fs, k, C, w) = (0, (i + 1, 1, fs, k, C, w)) := by
            show aS2 K i fs k C w = _
            unfold aS2
            rw [if_pos (by unfold isOpr; omega)]
          refine vOk_bind (hg fs (i + 1) m4 a2 ha hfs h7 R4) fun p5 q => ?_
          refine vOk_bind (add_k hr) fun p6 qa => ?_
          obtain ⟨qF, q⟩ := q
          refine vA (by omega) fun x7 e7 f7 => ?_
          have F6 := FR_tr F (FR_tr F4 (FR_tr qF qa.1))
          have t6 : TKN p6 K V P n := TKN_FR hr (FR_tr F4 (FR_tr qF qa.1)) t
          have k6 : (p6.1 255 9).toInt = 0 ↔ k = 0 := by rw [(FR_tr F4 (FR_tr qF qa.1)).2 255 9 (by omega)]; exact hk
          have c255 : ∀ j, p6.1 255 j = p5.2.1 255 j := fun j => congrFun qa.2 j
          refine ih p5.1 x7 p6 (by omega) (by omega) (by omega) t6 k6 F6 ?_
          rcases q with ⟨d1, i', d2, ds, d3, d4, d5, d6⟩ | ⟨d1, f, j, d2, d3, d4, d5⟩
          · refine Or.inl ⟨d1, i', by rw [c255]; exact d2, S56_tr bs (S56_tr S4 (S56_r ds qa.2)), by omega, by omega, d4, Rc_tr b4 (Rc_step s1 d5), d6⟩
          · exact Or.inr ⟨d1, f, j, Er_tr b4 (Er_tr (Rc_1 s1) d2), d3, by rw [c255]; exact d4, by rw [c255]; exact d5⟩
        refine vBindP (kind_k R) fun x _ hx => ?_
        dsimp only
        refine vEq (fun g3 => r40 (by omega)) (fun g3 => ?_)
        refine vBindP (kind_k R) fun x5 _ hx5 => ?_
        dsimp only
        refine vNe (fun g4 => ?_) (fun g4 => r40 (by omega))
        refine stop fun _ j hj => ?_
        have : j = i := by omega
        subst this
        omega
theorem sum_c {ff : Nat → Nat → Int32 → xMem → Option (Int32 × xMem)} {o : Nat} (hr : 260 ≤ r) (hg : cProd K V P n r k C w ff o) : cSum K V P n r k C w (fX7_readSumP ff) o := by
  intro fs i m a2 ha hfs h7 hR
  have c0 : (0 : Int32).toInt = 0 := rfl
  have hR' := hR
  obtain ⟨t, hi, hk, hi1⟩ := hR'
  have cF := xFu
  unfold fX7_readSumP fX7_readSumP_0
  refine vOk_bind (hg fs i m a2 ha hfs h7 hR) fun p q => ?_
  obtain ⟨qF, q⟩ := q
  refine sum_loop hr hg hfs h7 ha xFuel p.1 0 p.2 (by omega) (by omega) (by omega) (TKN_FR hr qF t) (by rw [qF.2 255 9 (by omega)]; exact hk) qF ?_
  rcases q with ⟨d1, i', d2, ds, d3, d4, d5, d6⟩ | d
  · exact Or.inl ⟨d1, i', d2, ds, by omega, d3, d4, d5, d6⟩
  · exact Or.inr d
theorem rec_c (hr : 260 ≤ r) : ∀ (lev o : Nat), 9 ≤ lev + o → o ≤ 8 → cOne K V P n r k C w (fX7_rec lev) o := by
  intro lev
  induction lev with
  | zero => intro o h1 h2; exfalso; omega
  | succ lev ih =>
    intro o h1 h2
    have q := one_c (K := K) (V := V) (P := P) (n := n) (k := k) (C := C) (w := w) (g79 := fX7_rec lev) (g77 := fX7_readSumP (fX7_readProductP (fX7_rec lev))) hr h2 (fun h => ih (o + 1) (by omega) (by omega)) (fun h => sum_c hr (prod_c hr (ih (o + 1) (by omega) (by omega))))
    exact q
theorem readSum_c (hr : 260 ≤ r) {o : Nat} (ho : o ≤ 8) : cSum K V P n r k C w fX7_readSum o := sum_c hr (prod_c hr (rec_c hr 10 o (by omega) ho))
end
