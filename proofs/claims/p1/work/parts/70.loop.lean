/-! a stair alone: second by second; alone, crossing -/
theorem walk71 {a0 a1 : Nat} {a2 w md l5 off L : Int32} {n1 n2 cn k : Nat} {m q : xMem} {g : Int32} (h5 : l5 = if md = 0 then 1 else 0) (hk : k < 2) (hc : m.1 200 10 = Int32.ofNat cn) (hg : fX6_goalOfMost a0 a1 a2 0 0 m = some (g, m)) (hf : fX3_foot 200 m = some (0, m)) : ∃ s, s < 2 ∧ (s = 1 → md = 0) ∧ fX6_takeUpToTwo_71 a0 a1 a2 w (n1 + 1) 200 l5 (Int32.ofNat k) m = fX6_takeUpToTwo_127 a0 a1 a2 w (fX6_takeUpToTwo_71 a0 a1 a2 w n1) 200 l5 (Int32.ofNat k) g (Int32.ofNat s) m ∧ ∀ (rec33 : Int32 → Int32 → Int32 → xMem → Option (Int32 × xMem)) (a4 l7 : Int32), fX12_carries_64 291 L w md a4 rec33 (n2 + 1) off (Int32.ofNat cn) l7 1 (Int32.ofNat k) q = fX12_carries_103 291 L w md a4 rec33 (fX12_carries_64 291 L w md a4 rec33 n2) off (Int32.ofNat cn) l7 (Int32.ofNat k) (Int32.ofNat s) q := by
  have h2 : ¬ (2 : Int32) ≤ Int32.ofNat k := by
    rw [show (2 : Int32) = Int32.ofNat 2 from rfl, leN (by omega) (by omega)]
    omega
  rw [fX6_takeUpToTwo_71, if_neg h2, hf, bind_e, hg, bind_e, hc, xLet_e]
  by_cases z : md = 0
  · rw [if_pos z] at h5
    subst h5
    rw [if_neg (show ¬ (1 : Int32) = 0 by decide), xLet_e, xLet_e, xLet_e, xLet_e, xLet_e]
    by_cases y : w * (Int32.ofNat cn + 1) / 10 ≤ w * Int32.ofNat cn / 10
    · rw [if_pos y, fX6_takeUpToTwo_126]
      refine ⟨0, by omega, fun h => absurd h (by omega), rfl, fun rec33 a4 l7 => ?_⟩
      rw [fX12_carries_64, if_neg h2, if_neg (show ¬ (1 : Int32) = 0 by decide), if_neg (fun f => f z), xLet_e, xLet_e, xLet_e, xLet_e, xLet_e, if_pos y, fX12_carries_102]
      rfl
    · rw [if_neg y]
      refine ⟨1, by omega, fun _ => z, rfl, fun rec33 a4 l7 => ?_⟩
      rw [fX12_carries_64, if_neg h2, if_neg (show ¬ (1 : Int32) = 0 by decide), if_neg (fun f => f z), xLet_e, xLet_e, xLet_e, xLet_e, xLet_e, if_neg y]
      rfl
  · rw [if_neg z] at h5
    subst h5
    rw [if_pos rfl, fX6_takeUpToTwo_126]
    refine ⟨0, by omega, fun h => absurd h (by omega), rfl, fun rec33 a4 l7 => ?_⟩
    rw [fX12_carries_64, if_neg h2, if_neg (show ¬ (1 : Int32) = 0 by decide), if_pos z, fX12_carries_102]
    rfl
theorem enc_zero {y x : Int32} (h : enc y x) : (y = 0 ↔ x = -1) ∧ (y ≤ 0 ↔ x = -1) := by
  rcases h with ⟨a, b⟩ | ⟨a, b⟩ | ⟨a, b⟩ <;> (subst a; subst b; decide)
theorem take_sim {L : Nat} {md w off l5 : Int32} (h5 : l5 = if md = 0 then 1 else 0) {B : Nat} (hB : B ≤ 1998) : ∀ (e k n1 n2 : Nat) (m q : xMem) (cn R : Nat), k + e = 2 → AlM L md (Int32.ofNat cn) (Int32.ofNat R) off m q → cn + R = B → e ≤ R → ∃ m' q' cn' R', fX6_takeUpToTwo_71 250 167 0 w (n1 + 1 + e) 200 l5 (Int32.ofNat k) m = some m' ∧ (∀ rec33 a4 l7, fX12_carries_64 291 (Int32.ofNat L) w md a4 rec33 (n2 + 1 + e) off (Int32.ofNat cn) l7 1 (Int32.ofNat k) q = rec33 off (Int32.ofNat cn') (l7 + 1) q') ∧ AlM L md (Int32.ofNat cn') (Int32.ofNat R') off m' q' ∧ cn' + R' = B ∧ R ≤ R' + e := by
  intro e
  induction e with
  | zero =>
    intro k n1 n2 m q cn R hk hA hR _
    have hk : k = 2 := by omega
    subst hk
    refine ⟨m, q, cn, R, ?_, ?_, hA, hR, Nat.le_refl R⟩
    · rw [fX6_takeUpToTwo_71, if_pos (by decide)]
    · intro rec33 a4 l7
      rw [fX12_carries_64, if_pos (by decide), fX12_carries_192, xLet_e]
  | succ e ih =>
    intro k n1 n2 m q cn R hk hA hR he
    obtain ⟨R', hR'⟩ : ∃ R', R = R' + 1 := ⟨R - 1, by omega⟩
    subst hR'
    have hS := hA.1
    have hgoal := goal_one hS hA.2.2.2.2.1 hA.2.2.2.2.2.1 (by omega) (by omega)
    have hfoot := foot_ok hS.2.2.2.2.2.2.1 hS.2.2.2.1
    rw [show n1 + 1 + (e + 1) = n1 + 1 + e + 1 from rfl, show n2 + 1 + (e + 1) = n2 + 1 + e + 1 from rfl]
    have fin : ∀ s d : Nat, s < 2 → d < 2 → (s = 1 → md = 0) → ((md = 0 ∧ d = s) ∨ (¬ md = 0 ∧ d = if q.1 314 0 ≤ 0 then 0 else 1)) → fX3_sideFor 200 (Int32.ofNat s) l5 m = some (if m.1 201 (40 * d) = -1 then Int32.ofNat d else -1, m) → fX6_takeUpToTwo_71 250 167 0 w (n1 + 1 + e + 1) 200 l5 (Int32.ofNat k) m = fX6_takeUpToTwo_127 250 167 0 w (fX6_takeUpToTwo_71 250 167 0 w (n1 + 1 + e)) 200 l5 (Int32.ofNat k) 1 (Int32.ofNat s) m → (∀ rec33 a4 l7, fX12_carries_64 291 (Int32.ofNat L) w md a4 rec33 (n2 + 1 + e + 1) off (Int32.ofNat cn) l7 1 (Int32.ofNat k) q = fX12_carries_103 291 (Int32.ofNat L) w md a4 rec33 (fX12_carries_64 291 (Int32.ofNat L) w md a4 rec33 (n2 + 1 + e)) off (Int32.ofNat cn) l7 (Int32.ofNat k) (Int32.ofNat s) q) → ∃ m' q' cn' R'', fX6_takeUpToTwo_71 250 167 0 w (n1 + 1 + e + 1) 200 l5 (Int32.ofNat k) m = some m' ∧ (∀ rec33 a4 l7, fX12_carries_64 291 (Int32.ofNat L) w md a4 rec33 (n2 + 1 + e + 1) off (Int32.ofNat cn) l7 1 (Int32.ofNat k) q = rec33 off (Int32.ofNat cn') (l7 + 1) q') ∧ AlM L md (Int32.ofNat cn') (Int32.ofNat R'') off m' q' ∧ cn' + R'' = B ∧ R' + 1 ≤ R'' + (e + 1) := by
      intro s d hs hd hsm hdd hside e1 e2
      have henc := hA.2.1 (40 * d) (by omega)
      have hz := enc_zero henc
      by_cases hfree : m.1 201 (40 * d) = -1
      · rw [if_pos hfree] at hside
        have hval : ∃ v : Int32, v = (if s = 0 then 1 else 11) ∧ ¬ v = -1 ∧ enc (if s = 0 then 1 else 2) v := by
          by_cases z : s = 0
          · refine ⟨1, by rw [if_pos z], by decide, ?_⟩
            rw [if_pos z]
            exact Or.inr (Or.inl ⟨rfl, rfl⟩)
          · refine ⟨11, by rw [if_neg z], by decide, ?_⟩
            rw [if_neg z]
            exact Or.inr (Or.inr ⟨rfl, rfl⟩)
        obtain ⟨v, hv1, hv2, hv3⟩ := hval
        obtain ⟨m1, t1, hA1⟩ := taken_one (y := if s = 0 then 1 else 2) hA hd hfree hv3 hv2 (rec71 := fX6_takeUpToTwo_71 250 167 0 w (n1 + 1 + e)) (w := w) (l5 := l5) (l6 := Int32.ofNat k) hs hv1 hside
        obtain ⟨m', q', cn', R'', f1, f2, f3, f4, f5⟩ := ih (k + 1) n1 n2 m1 _ (cn + 1) R' (by omega) hA1 (by omega) (by omega)
        refine ⟨m', q', cn', R'', ?_, ?_, f3, f4, by omega⟩
        · rw [e1, t1, addN1]
          exact f1
        · intro rec33 a4 l7
          rw [e2 rec33 a4 l7, ref_103 hs hdd, ref_136 hd hs, if_pos (hz.1.mpr hfree), addN1, addN1]
          exact f2 rec33 a4 l7
      · rw [if_neg hfree] at hside
        refine ⟨m, q, cn, R' + 1, ?_, ?_, hA, hR, by omega⟩
        · rw [e1, fX6_takeUpToTwo_127, hside, bind_e, if_neg (show ¬ (1 : Int32) = -1 by decide), if_neg (show ¬ ¬ (-1 : Int32) = -1 by decide), fX6_takeUpToTwo_152]
        · intro rec33 a4 l7
          rw [e2 rec33 a4 l7, ref_103 hs hdd, ref_136 hd hs, if_neg (fun f => hfree (hz.1.mp f)), show n2 + 1 + e = (n2 + e) + 1 by omega, fX12_carries_64]
          by_cases z : (2 : Int32) ≤ Int32.ofNat k + 1
          · rw [if_pos z, fX12_carries_192, xLet_e]
          · rw [if_neg z, if_pos rfl, fX12_carries_192, xLet_e]
    obtain ⟨s, hs, hsm, e1, e2⟩ := walk71 (a0 := 250) (a1 := 167) (a2 := 0) (w := w) (md := md) (off := off) (L := Int32.ofNat L) (n1 := n1 + 1 + e) (n2 := n2 + 1 + e) (m := m) (q := q) h5 (show k < 2 by omega) hA.2.2.2.1 hgoal hfoot
    by_cases z : md = 0
    · have hl : l5 = 1 := by rw [h5, if_pos z]
      exact fin s s hs hs hsm (Or.inl ⟨z, rfl⟩) (by_ok hs (by rw [hl]; decide)) e1 e2
    · have hl : l5 = 0 := by rw [h5, if_neg z]
      have hz0 := enc_zero (hA.2.1 0 (by omega))
      by_cases y : m.1 201 0 = -1
      · exact fin s 0 hs (by omega) hsm (Or.inr ⟨z, by rw [if_pos (hz0.2.mpr y)]⟩) (by rw [hl]; exact free_ok (by rw [if_pos y])) e1 e2
      · exact fin s 1 hs (by omega) hsm (Or.inr ⟨z, by rw [if_neg (fun f => y (hz0.2.mp f))]⟩) (by rw [hl]; exact free_ok (by rw [if_neg y])) e1 e2
theorem take_two {L : Nat} {md w off : Int32} {B : Nat} (hB : B ≤ 1998) {m q : xMem} {cn R : Nat} (hA : AlM L md (Int32.ofNat cn) (Int32.ofNat R) off m q) (hR : cn + R = B) (he : 2 ≤ R) : ∃ m' q' cn' R', fX6_takeUpToTwo 250 167 0 w m = some m' ∧ (∀ rec33 a4 l7, fX12_carries_64 291 (Int32.ofNat L) w md a4 rec33 xFuel off (Int32.ofNat cn) l7 1 0 q = rec33 off (Int32.ofNat cn') (l7 + 1) q') ∧ AlM L md (Int32.ofNat cn') (Int32.ofNat R') off m' q' ∧ cn' + R' = B ∧ R ≤ R' + 2 := by
  obtain ⟨n, hn⟩ := fuE 2 (by omega)
  have hS := hA.1
  obtain ⟨s1, s2, s3, s4, s5, s6, s7, s8, s9, s10, s11, s12, s13⟩ := hS
  have e0 : fX9_hasLink 167 0 m = some (1, m) := by
    rw [fX9_hasLink, fX9_hasLink_0, if_neg (by decide), s2, xLet_e, if_neg (by decide), if_neg (by decide), fX9_hasLink_23]
    rfl
  have x0 : xIn (0 : Int32) 10 = true := by decide
  have e1 : fX9_hasStepped 167 0 m = some (1, m) := by
    rw [fX9_hasStepped, fX9_hasStepped_0, e0, bind_e, if_neg (show ¬ (1 : Int32) = 0 by decide), x0, cond_e, cl0, xLet_e, show 167 + 33 + 2 * 0 = 200 from rfl, s3, xLet_e, if_neg (by decide), fX9_hasStepped_26]
    rfl
  have e2 : fX3_takesNow 200 m = some (1, m) := by
    rw [fX3_takesNow, fX3_takesNow_0, s10, xLet_e, if_neg (by decide), s11, xLet_e, if_neg (by decide), s8, xLet_e, s7, xLet_e, if_neg (by decide), fX3_takesNow_30]
    rfl
  have head : ∀ l5 : Int32, (l5 = if md = 0 then 1 else 0) → fX6_takeUpToTwo 250 167 0 w m = fX6_takeUpToTwo_71 250 167 0 w xFuel 200 l5 0 m := by
    intro l5 h5
    rw [fX6_takeUpToTwo, fX6_takeUpToTwo_0, e1, bind_e, if_neg (show ¬ (1 : Int32) = 0 by decide), x0, cond_e, cl0, xLet_e, show 167 + 33 + 2 * 0 = 200 from rfl, e2, bind_e, if_neg (show ¬ (1 : Int32) = 0 by decide), cond_e, xLet_e, foot_ok s7 s4, bind_e, hasH s1, bind_e, if_pos (show ¬ (1 : Int32) = 0 by decide), cond_e, xLet_e, s3, xLet_e, if_neg (show ¬ ¬ (0 : Int32) = 0 by decide), s9, xLet_e]
    by_cases z : md = 0
    · rw [if_pos z] at h5
      rw [if_neg (fun f => f z), fX6_takeUpToTwo_66, h5]
    · rw [if_neg z] at h5
      rw [if_pos z, fX6_takeUpToTwo_65, fX6_takeUpToTwo_66, h5]
  obtain ⟨m', q', cn', R', f1, f2, f3, f4, f5⟩ := take_sim (L := L) (md := md) (w := w) (off := off) rfl hB 2 0 n n m q cn R rfl hA hR he
  refine ⟨m', q', cn', R', ?_, ?_, f3, f4, f5⟩
  · rw [head _ rfl, hn]
    exact f1
  · rw [hn]
    exact f2
theorem loop_sim {L T : Nat} (hL2 : 2 ≤ L) (hL : L ≤ 40) (hT : T ≤ 999) {md w : Int32} : ∀ (e i n1 n2 : Nat) (m q : xMem) (cn R : Nat) (off : Int32), i + e = T → AlM L md (Int32.ofNat cn) (Int32.ofNat R) off m q → cn + R = 2 * T → 2 * e ≤ R → ∃ z m' q', fX11_carriedAlone_48 0 (Int32.ofNat L) w md (Int32.ofNat T) (n1 + 1 + e) 200 (Int32.ofNat i) m = some (z, m') ∧ fX12_carries_33 291 (Int32.ofNat L) w md (Int32.ofNat T) (n2 + 1 + e) off (Int32.ofNat cn) (Int32.ofNat i) q = some (z, q') := by
  intro e
  induction e with
  | zero =>
    intro i n1 n2 m q cn R off hi hA _ _
    have hi : i = T := by omega
    subst hi
    refine ⟨off, m, q, ?_, ?_⟩
    · rw [fX11_carriedAlone_48, if_pos ((leN (by omega) (by omega)).mpr (Nat.le_refl i)), hA.2.2.2.2.2.2, xLet_e]
    · rw [fX12_carries_33, if_pos ((leN (by omega) (by omega)).mpr (Nat.le_refl i))]
  | succ e ih =>
    intro i n1 n2 m q cn R off hi hA hR he
    have hne : ¬ Int32.ofNat T ≤ Int32.ofNat i := by
      rw [leN (by omega) (by omega)]
      omega
    obtain ⟨m1, qa, q1, o1, o2, a1, a2, a3, hA1⟩ := move_sim hL2 hL hA
    obtain ⟨m2, q2, cn', R', b1, b2, hA2, b4, b5⟩ := take_two (w := w) (B := 2 * T) (by omega) hA1 hR (by omega)
    obtain ⟨z, m', q', c1, c2⟩ := ih (i + 1) n1 n2 m2 q2 cn' R' _ (by omega) hA2 b4 (by omega)
    refine ⟨z, m', q', ?_, ?_⟩
    · rw [show n1 + 1 + (e + 1) = n1 + 1 + e + 1 from rfl, fX11_carriedAlone_48, if_neg hne, show 0 + 250 = 250 from rfl, show 0 + 167 = 167 from rfl, a1, bind_e, b1, bind_e, xLet_e, addN1]
      exact c1
    · rw [show n2 + 1 + (e + 1) = n2 + 1 + e + 1 from rfl, fX12_carries_33, if_neg hne, a2, bind_e, a3, bind_e, xLet_e, xLet_e]
      exact (b2 _ _ _).trans (by rw [addN1]; exact c2)
