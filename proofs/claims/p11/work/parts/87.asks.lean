/-! the class's readers of asks and clauses keep to the machine -/
section
variable {K V P : Nat → Int} {n r k C w : Nat}
def cAsk (K V P : Nat → Int) (n r k C w : Nat) (g : Nat → Nat → Int32 → xMem → Option (Int32 × xMem)) (o : Nat) : Prop := ∀ (fs : List Nat) (i : Nat) (m : xMem) (a2 : Int32), a2.toInt = (o : Int) → opc fs = o → RD m K V P n i k → vOk (RS K V P r m (i, 0, fs, k, C, w) (fun i' => i + 1 ≤ i' ∧ i' ≤ 1000 ∧ Rc K V (i, 0, fs, k, C, w) (i', 3, dropN fs, k, C, w))) (g 255 r a2 m)
theorem ask_c {g84 : Nat → Nat → Int32 → xMem → Option (Int32 × xMem)} {o : Nat} (hr : 260 ≤ r) (ho : o ≤ 8) (h1 : o < 8 → cAsk K V P n r k C w g84 (o + 1)) : cAsk K V P n r k C w (fX7_readAskP g84) o := by
  intro fs i m a2 ha hfs hR
  have c0 : (0 : Int32).toInt = 0 := rfl
  have c1 : (1 : Int32).toInt = 1 := rfl
  have c3 : (3 : Int32).toInt = 3 := rfl
  have c8 : (8 : Int32).toInt = 8 := rfl
  have c25 : (25 : Int32).toInt = 25 := rfl
  have hR' := hR
  obtain ⟨⟨t7, tn, ta, tb⟩, hi, hk, hi1⟩ := hR'
  have eS : gS K V (i, 0, fs, k, C, w) = aS0 K i fs k C w := rfl
  unfold fX7_readAskP fX7_readAskP_0
  refine vBindP (kind_k hR) fun x _ hx => ?_
  dsimp only
  refine vNe (fun g => ?_) (fun g => ?_)
  · have s0 : gS K V (i, 0, fs, k, C, w) = (0, (i, 1, 4 :: fs, k, C, w)) := by
      rw [eS]; unfold aS0
      rw [if_neg (by omega)]
    have o4 : opc (4 :: fs) = o := by
      show (if 4 = 3 ∨ 4 = 6 ∨ 4 = 7 then 1 else 0) + opc fs = _
      rw [if_neg (by omega)]; omega
    refine vOk_bind (readSum_c (C := C) (w := w) hr ho (4 :: fs) i m a2 ha o4 (show ¬ 4 = 7 by decide) hR) fun p3 q => ?_
    obtain ⟨qF, q⟩ := q
    rcases q with ⟨q1, i', q2, qs, q3, q4, q5, q6⟩ | ⟨q1, f, j, q2, q3, q4, q5⟩
    · rw [q1, if_pos (show ¬ (1 : Int32) = 0 by decide)]
      have R3 : RD p3.2 K V P n i' k := RD_FR hr hR qF q2 q4
      have r76 : ¬ (3 ≤ K i' ∧ K i' ≤ 8) → vOk (RS K V P r m (i, 0, fs, k, C, w) (fun i' => i + 1 ≤ i' ∧ i' ≤ 1000 ∧ Rc K V (i, 0, fs, k, C, w) (i', 3, dropN fs, k, C, w))) (fX7_readAskP_76 g84 255 r a2 p3.2) := by
        intro z
        unfold fX7_readAskP_76
        refine vOk_bind (fails_k (r := r) R3) fun p hp => ?_
        refine v01x (Or.inl hp.1) (vOk_some ?_)
        refine RS_fail (d := (i', 2, 4 :: fs, k, C, w)) (Rc_step s0 q5) rfl ⟨(i', 2, 4 :: fs, k, C, w), ?_⟩ (f := 1) (by decide) rfl ⟨hp.1, hp.2.1, hp.2.2.1, FR_tr qF hp.2.2.2⟩
        show aS2 K i' (4 :: fs) k C w = _
        unfold aS2
        rw [if_neg q6, if_neg (fun z => absurd z.1 (by show ¬ (4 : Nat) = 6; decide)), if_neg (fun y => z y.2), if_neg (show ¬ topF (4 :: fs) = 5 from by show ¬ (4 : Nat) = 5; decide), if_neg (fun z => absurd z.1 (by show ¬ (4 : Nat) = 1; decide))]
      refine vBindP (kind_k R3) fun x5 _ hx5 => ?_
      dsimp only
      refine vLt (fun g2 => r76 (by omega)) (fun g2 => ?_)
      refine vLe (fun g3 => ?_) (fun g3 => r76 (by omega))
      have hn' : i' < n := knz tb (by omega)
      refine vAl (x := p3.2.1 255 8) rfl ?_
      refine vA (by omega) fun x9 e9 f9 => ?_
      refine vR fun m10 e10 => ?_
      have R10 : RD m10 K V P n (i' + 1) k := by rw [e10]; exact RD_8 hr R3 (by omega) (by omega)
      have F10 : FR r m m10 := by rw [e10]; exact FR_put qF (by omega)
      have S10 : S56 m m10 := by rw [e10]; exact S56_8 qs (by omega)
      have s2 : gS K V (i', 2, 4 :: fs, k, C, w) = (0, (i' + 1, 1, 5 :: fs, k, C, w)) := by
        show aS2 K i' (4 :: fs) k C w = _
        unfold aS2
        rw [if_neg q6, if_neg (fun z => absurd z.1 (by show ¬ (4 : Nat) = 6; decide)), if_pos ⟨rfl, by omega, by omega⟩]
        rfl
      have o5 : opc (5 :: fs) = o := by
        show (if 5 = 3 ∨ 5 = 6 ∨ 5 = 7 then 1 else 0) + opc fs = _
        rw [if_neg (by omega)]; omega
      have rc5 := Rc_tr (Rc_step s0 q5) (Rc_1 s2)
      refine vOk_bind (readSum_c (C := C) (w := w) hr ho (5 :: fs) (i' + 1) m10 a2 ha o5 (show ¬ 5 = 7 by decide) R10) fun p11 y => ?_
      refine vOk_bind (add_k hr) fun p12 qa => ?_
      obtain ⟨yF, y⟩ := y
      have c255 : ∀ j, p12.1 255 j = p11.2.1 255 j := fun j => congrFun qa.2 j
      have F12 := FR_tr F10 (FR_tr yF qa.1)
      rcases y with ⟨y1, i2, y2, ys, y3, y4, y5, y6⟩ | ⟨y1, f, j, y2, y3, y4, y5⟩
      · refine v01x (Or.inr y1) (vOk_some ⟨F12, Or.inl ⟨y1, i2, ?_, S56_tr S10 (S56_r ys qa.2), by omega, y4, ?_⟩⟩)
        · show (p12.1 255 8).toInt = _
          rw [c255]; exact y2
        · refine Rc_tr rc5 (Rc_tr y5 (Rc_1 ?_))
          show aS2 K i2 (5 :: fs) k C w = _
          unfold aS2
          rw [if_neg y6, if_neg (fun z => absurd z.1 (by show ¬ (5 : Nat) = 6; decide)), if_neg (fun z => absurd z.1 (by show ¬ (5 : Nat) = 4; decide)), if_pos (show topF (5 :: fs) = 5 from rfl)]
          rfl
      · refine v01x (Or.inl y1) (vOk_some ⟨F12, Or.inr ⟨y1, f, j, Er_tr rc5 y2, y3, ?_, ?_⟩⟩)
        · show (p12.1 255 5).toInt = _
          rw [c255]; exact y4
        · show (p12.1 255 6).toInt = _
          rw [c255]; exact y5
    · rw [q1, if_neg (not_not_intro rfl)]
      exact vOk_some ⟨qF, Or.inr ⟨rfl, f, j, Er_tr (Rc_1 s0) q2, q3, q4, q5⟩⟩
  · have hK : K i = 25 := by omega
    have hn : i < n := knz tb (by omega)
    refine vLt (fun g2 => ?_) (fun g2 => ?_)
    · have s3 : gS K V (i, 0, fs, k, C, w) = (0, (i + 1, 0, 3 :: fs, k, C, w)) := by
        rw [eS]; unfold aS0
        rw [if_pos hK, if_neg (by omega)]
      have o3 : opc (3 :: fs) = o + 1 := by
        show (if 3 = 3 ∨ 3 = 6 ∨ 3 = 7 then 1 else 0) + opc fs = _
        rw [if_pos (by omega)]; omega
      refine vAl (x := m.1 255 8) rfl ?_
      refine vA (by omega) fun x16 e16 f16 => ?_
      refine vR fun m17 e17 => ?_
      have R17 : RD m17 K V P n (i + 1) k := by rw [e17]; exact RD_8 hr hR (by omega) (by omega)
      have F17 : FR r m m17 := by rw [e17]; exact FR_put FR_refl (by omega)
      have S17 : S56 m m17 := by rw [e17]; exact S56_8 S56_refl (by omega)
      refine vA (by omega) fun x18 e18 f18 => ?_
      refine vOk_bind (h1 (by omega) (3 :: fs) (i + 1) m17 x18 (by omega) o3 R17) fun p19 q => ?_
      refine vOk_bind (add_k hr) fun p20 qa => ?_
      obtain ⟨qF, q⟩ := RS_mono (gd0 := fun i' => i + 1 ≤ i' ∧ i' ≤ 1000 ∧ Rc K V (i, 0, fs, k, C, w) (i', 3, dropN fs, k, C, w)) F17 S17 (Rc_1 s3) (fun i' z => ⟨by omega, z.2.1, Rc_step s3 z.2.2⟩) q
      have c255 : ∀ j, p20.1 255 j = p19.2.1 255 j := fun j => congrFun qa.2 j
      rcases q with ⟨a, i', b, z, c⟩ | ⟨a, f, j, b, c, d, e⟩
      · refine v01x (Or.inr a) (vOk_some ⟨FR_tr qF qa.1, Or.inl ⟨a, i', ?_, S56_r z qa.2, c⟩⟩)
        show (p20.1 255 8).toInt = _
        rw [c255]; exact b
      · refine v01x (Or.inl a) (vOk_some ⟨FR_tr qF qa.1, Or.inr ⟨a, f, j, b, c, ?_, ?_⟩⟩)
        · show (p20.1 255 5).toInt = _
          rw [c255]; exact d
        · show (p20.1 255 6).toInt = _
          rw [c255]; exact e
    · refine vOk_bind (fails_k (r := r) hR) fun p hp => ?_
      refine v01x (Or.inl hp.1) (vOk_some ?_)
      refine RS_fail (d := (i, 0, fs, k, C, w)) Rc_refl rfl ⟨(i, 0, fs, k, C, w), ?_⟩ (f := 3) (by decide) rfl hp
      rw [eS]; unfold aS0
      rw [if_pos hK, if_pos (by omega)]
theorem recA_c (hr : 260 ≤ r) : ∀ (lev o : Nat), 9 ≤ lev + o → o ≤ 8 → cAsk K V P n r k C w (fX7_recA lev) o := by
  intro lev
  induction lev with
  | zero => intro o h1 h2; exfalso; omega
  | succ lev ih =>
    intro o h1 h2
    have q := ask_c (K := K) (V := V) (P := P) (n := n) (k := k) (C := C) (w := w) (g84 := fX7_recA lev) hr h2 (fun h => ih (o + 1) (by omega) (by omega))
    exact q
theorem readAsk_c (hr : 260 ≤ r) {i : Nat} {m : xMem} (hR : RD m K V P n i k) : vOk (RS K V P r m (i, 0, [2], k, C, w) (fun i' => i + 1 ≤ i' ∧ i' ≤ 1000 ∧ Rc K V (i, 0, [2], k, C, w) (i', 3, [2], k, C, w))) (fX7_readAsk 255 r 0 m) := recA_c hr 10 0 (by omega) (by omega) [2] i m 0 rfl rfl hR
theorem both_loop (hr : 260 ≤ r) {i0 : Nat} {m0 : xMem} : ∀ (fuel : Nat) (l2 l3 : Int32) (m : xMem), 0 ≤ l3.toInt → 301 - l3.toInt < (fuel : Int) → 1 ≤ fuel → TKN m K V P n → ((m.1 255 9).toInt = 0 ↔ k = 0) → FR r m0 m → ((l2 = 1 ∧ ∃ i : Nat, (m.1 255 8).toInt = (i : Int) ∧ S56 m0 m ∧ l3.toInt + 1 ≤ (i : Int) ∧ i0 + 1 ≤ i ∧ i ≤ 1000 ∧ Rc K V (i0, 0, [2], k, C, w) (i, 3, [2], k, C, w)) ∨ (l2 = 0 ∧ ∃ f j : Nat, Er K V (i0, 0, [2], k, C, w) f j ∧ ¬ f = 9 ∧ (m.1 255 5).toInt = (f : Int) ∧ (m.1 255 6).toInt = P j)) → vOk (RS K V P r m0 (i0, 0, [2], k, C, w) (fun i' => i0 + 1 ≤ i' ∧ i' ≤ 1000 ∧ Rc K V (i0, 0, [2], k, C, w) (i', 3, [2], k, C, w) ∧ ¬ K i' = 24)) (fX7_readBoth_9 255 r fuel l2 l3 m) := by
  have c0 : (0 : Int32).toInt = 0 := rfl
  have c1 : (1 : Int32).toInt = 1 := rfl
  have c24 : (24 : Int32).toInt = 24 := rfl
  have c300 : (300 : Int32).toInt = 300 := rfl
  intro fuel
  induction fuel with
  | zero => intro l2 l3 m _ _ h; exact absurd h (by decide)
  | succ fuel ih =>
    intro l2 l3 m h4 hmu _ t hk F h
    have stop : (l2 = 1 → ∀ i : Nat, (m.1 255 8).toInt = (i : Int) → ¬ K i = 24) → vOk (RS K V P r m0 (i0, 0, [2], k, C, w) (fun i' => i0 + 1 ≤ i' ∧ i' ≤ 1000 ∧ Rc K V (i0, 0, [2], k, C, w) (i', 3, [2], k, C, w) ∧ ¬ K i' = 24)) (fX7_readBoth_59 255 r l2 m) := by
      intro z
      unfold fX7_readBoth_59
      rcases h with ⟨a, i, b, bs, b1, b2, b3, b4⟩ | ⟨a, f, j, b⟩
      · exact v01x (Or.inr a) (vOk_some ⟨F, Or.inl ⟨a, i, b, bs, b2, b3, b4, z a i b⟩⟩)
      · exact v01x (Or.inl a) (vOk_some ⟨F, Or.inr ⟨a, f, j, b⟩⟩)
    rw [fX7_readBoth_9]
    refine vLe (fun g => ?_) (fun g => ?_)
    · refine stop fun a i b => ?_
      obtain ⟨_, i2, b', _, b1, _⟩ := h.resolve_right (fun q => absurd (a.symm.trans q.1) (by decide))
      have hi : n ≤ i := by have := t.2.1; omega
      have := (t.2.2.2 i hi).1
      omega
    · refine vEq (fun g2 => ?_) (fun g2 => ?_)
      · refine stop fun a => ?_
        rw [a] at g2
        exact absurd g2 (by decide)
      · obtain ⟨a, i, b, bs, b1, b2, b3, b4⟩ := h.resolve_right (fun q => g2 (by rw [q.1]))
        have R : RD m K V P n i k := ⟨t, b, hk, b3⟩
        refine vBindP (kind_k R) fun x _ hx => ?_
        dsimp only
        refine vNe (fun g3 => ?_) (fun g3 => ?_)
        · refine stop fun _ j hj => ?_
          have : j = i := by omega
          subst this
          omega
        · have hn : i < n := knz t.2.2.2 (by omega)
          have tn := t.2.1
          refine vAl (x := m.1 255 8) rfl ?_
          refine vA (by omega) fun x6 e6 f6 => ?_
          refine vR fun m7 e7 => ?_
          have R7 : RD m7 K V P n (i + 1) k := by rw [e7]; exact RD_8 hr R (by omega) (by omega)
          have F7 : FR r m m7 := by rw [e7]; exact FR_put FR_refl (by omega)
          have S7 : S56 m m7 := by rw [e7]; exact S56_8 S56_refl (by omega)
          have s3 : gS K V (i, 3, [2], k, C, w) = (0, (i + 1, 0, [2], k, C, w)) := by
            show aS3 K i [2] k C w = _
            unfold aS3
            rw [if_pos (by omega)]
          refine vOk_bind (readAsk_c (C := C) (w := w) hr R7) fun p8 q => ?_
          refine vOk_bind (add_k hr) fun p9 qa => ?_
          obtain ⟨qF, q⟩ := q
          refine vA (by omega) fun x10 e10 f10 => ?_
          have FF := FR_tr F7 (FR_tr qF qa.1)
          have c255 : ∀ j, p9.1 255 j = p8.2.1 255 j := fun j => congrFun qa.2 j
          refine ih p8.1 x10 p9 (by omega) (by omega) (by omega) (TKN_FR hr FF t) (by rw [FF.2 255 9 (by omega)]; exact hk) (FR_tr F FF) ?_
          rcases q with ⟨d1, i', d2, ds, d3, d4, d5⟩ | ⟨d1, f, j, d2, d3, d4, d5⟩
          · exact Or.inl ⟨d1, i', by rw [c255]; exact d2, S56_tr bs (S56_tr S7 (S56_r ds qa.2)), by omega, by omega, d4, Rc_tr b4 (Rc_step s3 d5)⟩
          · exact Or.inr ⟨d1, f, j, Er_tr b4 (Er_tr (Rc_1 s3) d2), d3, by rw [c255]; exact d4, by rw [c255]; exact d5⟩
theorem both_c (hr : 260 ≤ r) {i : Nat} {m : xMem} (hR : RD m K V P n i k) : vOk (RS K V P r m (i, 0, [2], k, C, w) (fun i' => i + 1 ≤ i' ∧ i' ≤ 1000 ∧ Rc K V (i, 0, [2], k, C, w) (i', 3, [2], k, C, w) ∧ ¬ K i' = 24)) (fX7_readBoth 255 r m) := by
  have c0 : (0 : Int32).toInt = 0 := rfl
  have hR' := hR
  obtain ⟨t, hi, hk, hi1⟩ := hR'
  have cF := xFu
  unfold fX7_readBoth fX7_readBoth_0
  refine vOk_bind (readAsk_c (C := C) (w := w) hr hR) fun p q => ?_
  obtain ⟨qF, q⟩ := q
  refine both_loop hr xFuel p.1 0 p.2 (by omega) (by omega) (by omega) (TKN_FR hr qF t) (by rw [qF.2 255 9 (by omega)]; exact hk) qF ?_
  rcases q with ⟨d1, i', d2, ds, d3, d4, d5⟩ | d
  · exact Or.inl ⟨d1, i', d2, ds, by omega, d3, d4, d5⟩
  · exact Or.inr d
theorem either_loop (hr : 260 ≤ r) {i0 : Nat} {m0 : xMem} : ∀ (fuel : Nat) (l2 l3 : Int32) (m : xMem), 0 ≤ l3.toInt → 301 - l3.toInt < (fuel : Int) → 1 ≤ fuel → TKN m K V P n → ((m.1 255 9).toInt = 0 ↔ k = 0) → FR r m0 m → ((l2 = 1 ∧ ∃ i : Nat, (m.1 255 8).toInt = (i : Int) ∧ S56 m0 m ∧ l3.toInt + 1 ≤ (i : Int) ∧ i0 + 1 ≤ i ∧ i ≤ 1000 ∧ Rc K V (i0, 0, [2], k, C, w) (i, 3, [2], k, C, w) ∧ ¬ K i = 24) ∨ (l2 = 0 ∧ ∃ f j : Nat, Er K V (i0, 0, [2], k, C, w) f j ∧ ¬ f = 9 ∧ (m.1 255 5).toInt = (f : Int) ∧ (m.1 255 6).toInt = P j)) → vOk (RS K V P r m0 (i0, 0, [2], k, C, w) (fun i' => i0 + 1 ≤ i' ∧ i' ≤ 1000 ∧ Rc K V (i0, 0, [2], k, C, w) (i', 3, [2], k, C, w) ∧ ¬ K i' = 23 ∧ ¬ K i' = 24)) (fX7_readEither_8 255 r fuel l2 l3 m) := by
  have c0 : (0 : Int32).toInt = 0 := rfl
  have c1 : (1 : Int32).toInt = 1 := rfl
  have c23 : (23 : Int32).toInt = 23 := rfl
  have c300 : (300 : Int32).toInt = 300 := rfl
  intro fuel
  induction fuel with
  | zero => intro l2 l3 m _ _ h; exact absurd h (by decide)
  | succ fuel ih =>
    intro l2 l3 m h4 hmu _ t hk F h
    have stop : (l2 = 1 → ∀ i : Nat, (m.1 255 8).toInt = (i : Int) → ¬ K i = 23) → vOk (RS K V P r m0 (i0, 0, [2], k, C, w) (fun i' => i0 + 1 ≤ i' ∧ i' ≤ 1000 ∧ Rc K V (i0, 0, [2], k, C, w) (i', 3, [2], k, C, w) ∧ ¬ K i' = 23 ∧ ¬ K i' = 24)) (fX7_readEither_57 255 r l2 m) := by
      intro z
      unfold fX7_readEither_57
      rcases h with ⟨a, i, b, bs, b1, b2, b3, b4, b5⟩ | ⟨a, f, j, b⟩
      · exact v01x (Or.inr a) (vOk_some ⟨F, Or.inl ⟨a, i, b, bs, b2, b3, b4, z a i b, b5⟩⟩)
      · exact v01x (Or.inl a) (vOk_some ⟨F, Or.inr ⟨a, f, j, b⟩⟩)
    rw [fX7_readEither_8]
    refine vLe (fun g => ?_) (fun g => ?_)
    · refine stop fun a i b => ?_
      obtain ⟨_, i2, b', _, b1, _⟩ := h.resolve_right (fun q => absurd (a.symm.trans q.1) (by decide))
      have hi : n ≤ i := by have := t.2.1; omega
      have := (t.2.2.2 i hi).1
      omega
    · refine vEq (fun g2 => ?_) (fun g2 => ?_)
      · refine stop fun a => ?_
        rw [a] at g2
        exact absurd g2 (by decide)
      · obtain ⟨a, i, b, bs, b1, b2, b3, b4, b5⟩ := h.resolve_right (fun q => g2 (by rw [q.1]))
        have R : RD m K V P n i k := ⟨t, b, hk, b3⟩
        refine vBindP (kind_k R) fun x _ hx => ?_
        dsimp only
        refine vNe (fun g3 => ?_) (fun g3 => ?_)
        · refine stop fun _ j hj => ?_
          have : j = i := by omega
          subst this
          omega
        · have hn : i < n := knz t.2.2.2 (by omega)
          have tn := t.2.1
          refine vAl (x := m.1 255 8) rfl ?_
          refine vA (by omega) fun x6 e6 f6 => ?_
          refine vR fun m7 e7 => ?_
          have R7 : RD m7 K V P n (i + 1) k := by rw [e7]; exact RD_8 hr R (by omega) (by omega)
          have F7 : FR r m m7 := by rw [e7]; exact FR_put FR_refl (by omega)
          have S7 : S56 m m7 := by rw [e7]; exact S56_8 S56_refl (by omega)
          have s3 : gS K V (i, 3, [2], k, C, w) = (0, (i + 1, 0, [2], k, C, w)) := by
            show aS3 K i [2] k C w = _
            unfold aS3
            rw [if_pos (by omega)]
          refine vOk_bind (both_c (C := C) (w := w) hr R7) fun p8 q => ?_
          refine vOk_bind (add_k hr) fun p9 qa => ?_
          obtain ⟨qF, q⟩ := q
          refine vA (by omega) fun x10 e10 f10 => ?_
          have FF := FR_tr F7 (FR_tr qF qa.1)
          have c255 : ∀ j, p9.1 255 j = p8.2.1 255 j := fun j => congrFun qa.2 j
          refine ih p8.1 x10 p9 (by omega) (by omega) (by omega) (TKN_FR hr FF t) (by rw [FF.2 255 9 (by omega)]; exact hk) (FR_tr F FF) ?_
          rcases q with ⟨d1, i', d2, ds, d3, d4, d5, d6⟩ | ⟨d1, f, j, d2, d3, d4, d5⟩
          · exact Or.inl ⟨d1, i', by rw [c255]; exact d2, S56_tr bs (S56_tr S7 (S56_r ds qa.2)), by omega, by omega, d4, Rc_tr b4 (Rc_step s3 d5), d6⟩
          · exact Or.inr ⟨d1, f, j, Er_tr b4 (Er_tr (Rc_1 s3) d2), d3, by rw [c255]; exact d4, by rw [c255]; exact d5⟩
theorem either_c (hr : 260 ≤ r) {i : Nat} {m : xMem} (hR : RD m K V P n i k) : vOk (RS K V P r m (i, 0, [2], k, C, w) (fun i' => i + 1 ≤ i' ∧ i' ≤ 1000 ∧ Rc K V (i, 0, [2], k, C, w) (i', 3, [2], k, C, w) ∧ ¬ K i' = 23 ∧ ¬ K i' = 24)) (fX7_readEither 255 r m) := by
  have c0 : (0 : Int32).toInt = 0 := rfl
  have hR' := hR
  obtain ⟨t, hi, hk, hi1⟩ := hR'
  have cF := xFu
  unfold fX7_readEither fX7_readEither_0
  refine vOk_bind (both_c (C := C) (w := w) hr hR) fun p q => ?_
  obtain ⟨qF, q⟩ := q
  refine either_loop hr xFuel p.1 0 p.2 (by omega) (by omega) (by omega) (TKN_FR hr qF t) (by rw [qF.2 255 9 (by omega)]; exact hk) qF ?_
  rcases q with ⟨d1, i', d2, ds, d3, d4, d5, d6⟩ | d
  · exact Or.inl ⟨d1, i', d2, ds, by omega, d3, d4, d5, d6⟩
  · exact Or.inr d
end
