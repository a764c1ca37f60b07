/-! a stair alone: a side, both sides, alike -/
theorem side_sim {L d : Nat} (hL2 : 2 ≤ L) (hL : L ≤ 40) (hd : d < 2) {md c R base : Int32} : ∀ (e n1 n2 : Nat) (m q : xMem) (o : Int32), e ≤ L → AlM L md c R (base + o) m q → (e < L → m.1 201 (40 * d + e) = -1) → ∃ m' q' o', (∀ rec24, fX6_moveStair_37 250 167 200 rec24 (n1 + 1 + e) (Int32.ofNat d) (Int32.ofNat e - 1) m = rec24 (Int32.ofNat d + 1) m') ∧ fX12_loneMoves_7 291 (Int32.ofNat L) (Int32.ofNat d) (n2 + 1 + e) o (Int32.ofNat e - 1) q = some (o', q') ∧ AlM L md c R (base + o') m' q' := by
  intro e
  induction e with
  | zero =>
    intro n1 n2 m q o _ hA _
    refine ⟨m, q, o, ?_, ?_, hA⟩
    · intro rec24
      rw [fX6_moveStair_37, if_pos (by decide), xLet_e]
    · rw [fX12_loneMoves_7, if_pos (by decide)]
  | succ e ih =>
    intro n1 n2 m q o he hA hfree
    rw [subN1, show n1 + 1 + (e + 1) = n1 + 1 + e + 1 from rfl, show n2 + 1 + (e + 1) = n2 + 1 + e + 1 from rfl]
    have hi : 40 * d + e < 80 := by omega
    have h4 : m.1 200 4 = Int32.ofNat L := hA.1.2.2.2.2.2.1
    have h6 : m.1 200 6 = 1 := hA.1.2.2.2.2.2.2.1
    have h3 : m.1 200 3 = 1 := hA.1.2.2.2.2.1
    have key : ∀ (m1 q1 : xMem) (o1 : Int32), (∀ rec24, fX6_moveStair_37 250 167 200 rec24 (n1 + 1 + e + 1) (Int32.ofNat d) (Int32.ofNat e) m = fX6_moveStair_37 250 167 200 rec24 (n1 + 1 + e) (Int32.ofNat d) (Int32.ofNat e - 1) m1) → fX12_loneMoves_7 291 (Int32.ofNat L) (Int32.ofNat d) (n2 + 1 + e + 1) o (Int32.ofNat e) q = fX12_loneMoves_7 291 (Int32.ofNat L) (Int32.ofNat d) (n2 + 1 + e) o1 (Int32.ofNat e - 1) q1 → AlM L md c R (base + o1) m1 q1 → m1.1 201 (40 * d + e) = -1 → ∃ m' q' o', (∀ rec24, fX6_moveStair_37 250 167 200 rec24 (n1 + 1 + e + 1) (Int32.ofNat d) (Int32.ofNat e) m = rec24 (Int32.ofNat d + 1) m') ∧ fX12_loneMoves_7 291 (Int32.ofNat L) (Int32.ofNat d) (n2 + 1 + e + 1) o (Int32.ofNat e) q = some (o', q') ∧ AlM L md c R (base + o') m' q' := by
      intro m1 q1 o1 e1 e2 hA1 hf1
      obtain ⟨m', q', o', g1, g2, g3⟩ := ih n1 n2 m1 q1 o1 (by omega) hA1 (fun _ => hf1)
      exact ⟨m', q', o', fun rec24 => (e1 rec24).trans (g1 rec24), e2.trans g2, g3⟩
    rcases hA.2.1 (40 * d + e) hi with ⟨hg, hf⟩ | ⟨hg, hf⟩ | ⟨hg, hf⟩
    · -- nobody
      refine key m (xPut q 314 (40 * d + e) 0) o (fun rec24 => cls_0 (by omega) (go_none hd (by omega) hf)) (ref_none hd (by omega) hg) ?_ hf
      obtain ⟨s, r, n, a, b1, b2, oo⟩ := hA
      refine ⟨s, ?_, n, a, b1, b2, oo⟩
      rw [put_upd, upd_same hg]
      exact r
    · -- one stands
      have hn : ¬ m.1 201 (40 * d + e) = -1 := by rw [hf]; decide
      by_cases hl : e + 1 = L
      · subst hl
        obtain ⟨y, hy⟩ := off_ok (v := 1) hd hL h4 hf (Or.inl rfl) h6 h3
        refine key _ _ (o + 1) (fun rec24 => cls_1 (by omega) (go_last hd (by omega) hn h4) hy) (ref_off hd (by omega) hg (by decide) (by rw [addN1, ltN (by omega) (by omega)]; omega)) ?_ ?_
        · rw [← Int32.add_assoc]
          exact AlM_off hA hi hn hA.1 (fun _ _ => rfl) rfl
        · rw [put_ne (by decide), put_ne (by decide), put_ne (by decide), put_at]
      · have hlt : e + 1 < L := by omega
        have hfr := hfree hlt
        refine key _ _ o (fun rec24 => cls_0 (by omega) (go_std hd hlt hL hf h4)) (ref_one hd hlt hL hg) ?_ put_at
        refine AlM_two (y := 1) hA ?_ (by omega) (by omega) hi hfr hn (by decide) (Or.inr (Or.inl ⟨rfl, rfl⟩))
        rw [put_upd, put_upd]
    · -- one walks
      have hn : ¬ m.1 201 (40 * d + e) = -1 := by rw [hf]; decide
      by_cases hl : e + 1 = L
      · subst hl
        obtain ⟨y, hy⟩ := off_ok (v := 11) hd hL h4 hf (Or.inr rfl) h6 h3
        refine key _ _ (o + 1) (fun rec24 => cls_1 (by omega) (go_last hd (by omega) hn h4) hy) (ref_off hd (by omega) hg (by decide) (by rw [addN2, ltN (by omega) (by omega)]; omega)) ?_ ?_
        · rw [← Int32.add_assoc]
          exact AlM_off hA hi hn hA.1 (fun _ _ => rfl) rfl
        · rw [put_ne (by decide), put_ne (by decide), put_ne (by decide), put_at]
      · have hlt : e + 1 < L := by omega
        have hfr : m.1 201 (40 * d + e + 1) = -1 := hfree hlt
        by_cases hl2 : e + 2 = L
        · subst hl2
          have hS1 : AlS (e + 2) md (xPut (xPut m 201 (40 * d + (e + 1)) 11) 201 (40 * d + e) (-1)) := AlS_put (AlS_put hA.1 (Or.inl rfl)) (Or.inl rfl)
          obtain ⟨y, hy⟩ := off_ok (d := d) (L := e + 1) (v := 11) (m := xPut (xPut m 201 (40 * d + (e + 1)) 11) 201 (40 * d + e) (-1)) hd hL hS1.2.2.2.2.2.1 (by rw [put_nk (by omega), put_at]) (Or.inr rfl) hS1.2.2.2.2.2.2.1 hS1.2.2.2.2.1
          refine key _ _ (o + 1) (fun rec24 => cls_1 (by omega) (go_off hd hL hf h4) hy) (ref_off hd (by omega) hg (by decide) (by rw [addN2, ltN (by omega) (by omega)]; omega)) ?_ ?_
          · rw [← Int32.add_assoc]
            refine AlM_off (k := 40 * d + (e + 1)) hA hi hn hS1 (fun b hb => by rw [put_row hb, put_row hb]) ?_
            rw [put_upd, put_upd]
            exact woff_row hfr
          · rw [put_ne (by decide), put_ne (by decide), put_ne (by decide), put_nk (by omega), put_at]
        · have hlt2 : e + 2 < L := by omega
          rcases hA.2.1 (40 * d + (e + 2)) (by omega) with ⟨wg, wf⟩ | ⟨wg, wf⟩ | ⟨wg, wf⟩
          · have em : xPut (xPut (xPut (xPut m 201 (40 * d + (e + 1)) 11) 201 (40 * d + e) (-1)) 201 (40 * d + (e + 2)) 11) 201 (40 * d + (e + 1)) (-1) = xPut (xPut m 201 (40 * d + (e + 2)) 11) 201 (40 * d + e) (-1) := by
              refine Prod.ext ?_ rfl
              funext b
              by_cases hb : b = 201
              · subst hb
                rw [put_upd, put_upd, put_upd, put_upd, put_upd, put_upd]
                exact walk_row hfr
              · rw [put_row hb, put_row hb, put_row hb, put_row hb, put_row hb, put_row hb]
            refine key _ _ o (fun rec24 => cls_0 (by omega) ((go_walk hd hlt2 hL hf wf h4).trans (by rw [show 200 + 1 = 201 from rfl, em]))) (ref_two hd hlt2 hL hg (by rw [wg]; decide)) ?_ put_at
            refine AlM_two (y := 2) hA ?_ (by omega) (by omega) hi wf hn (by decide) (Or.inr (Or.inr ⟨rfl, rfl⟩))
            rw [put_upd, put_upd]
          · refine key _ _ o (fun rec24 => cls_0 (by omega) (go_blk hd hlt2 hL hf (by show ¬ m.1 201 _ = -1; rw [wf]; decide) h4)) (ref_blk hd hlt2 hL hg (by rw [wg]; decide)) ?_ put_at
            refine AlM_two (y := 2) hA ?_ (by omega) (by omega) hi hfr hn (by decide) (Or.inr (Or.inr ⟨rfl, rfl⟩))
            rw [put_upd, put_upd]
          · refine key _ _ o (fun rec24 => cls_0 (by omega) (go_blk hd hlt2 hL hf (by show ¬ m.1 201 _ = -1; rw [wf]; decide) h4)) (ref_blk hd hlt2 hL hg (by rw [wg]; decide)) ?_ put_at
            refine AlM_two (y := 2) hA ?_ (by omega) (by omega) hi hfr hn (by decide) (Or.inr (Or.inr ⟨rfl, rfl⟩))
            rw [put_upd, put_upd]
/-- with nobody on it the reference's side leaves the steps -/
theorem lone_none {L d : Nat} (hL : L ≤ 40) (hd : d < 2) : ∀ (e n : Nat) (q : xMem) (o : Int32), e ≤ L → (∀ j, j < 80 → q.1 314 j = 0) → ∃ q', fX12_loneMoves_7 291 (Int32.ofNat L) (Int32.ofNat d) (n + 1 + e) o (Int32.ofNat e - 1) q = some (o, q') ∧ ∀ j, j < 80 → q'.1 314 j = 0 := by
  intro e
  induction e with
  | zero =>
    intro n q o _ hz
    exact ⟨q, by rw [fX12_loneMoves_7, if_pos (by decide)], hz⟩
  | succ e ih =>
    intro n q o he hz
    rw [subN1, show n + 1 + (e + 1) = n + 1 + e + 1 from rfl, ref_none hd (by omega) (hz _ (by omega))]
    refine ih n _ o (by omega) ?_
    intro j hj
    rw [put_upd, upd_same (hz _ (by omega))]
    exact hz j hj
/-- a stair's move: both sides -/
theorem move_sim {L : Nat} (hL2 : 2 ≤ L) (hL : L ≤ 40) {md c R off : Int32} {m q : xMem} (hA : AlM L md c R off m q) : ∃ m' q1 q' o1 o2, fX6_moveStair 250 167 200 m = some m' ∧ fX12_loneMoves 291 (Int32.ofNat L) 0 q = some (o1, q1) ∧ fX12_loneMoves 291 (Int32.ofNat L) 1 q1 = some (o2, q') ∧ AlM L md c R (off + (o1 + o2)) m' q' := by
  obtain ⟨nL, hnL⟩ := fuE L (by omega)
  obtain ⟨n2, hn2⟩ := fuE 2 (by omega)
  have lone : ∀ (d : Nat) (X : xMem), fX12_loneMoves 291 (Int32.ofNat L) (Int32.ofNat d) X = fX12_loneMoves_7 291 (Int32.ofNat L) (Int32.ofNat d) (nL + 1 + L) 0 (Int32.ofNat L - 1) X := by
    intro d X
    rw [fX12_loneMoves, fX12_loneMoves_0, xLet_e, hnL]
  have hgo : m.1 200 12 = 1 := hA.1.2.2.2.2.2.2.2.2.2.1
  have htr : m.1 200 13 = 0 := hA.1.2.2.2.2.2.2.2.2.2.2.1
  have h4 : m.1 200 4 = Int32.ofNat L := hA.1.2.2.2.2.2.1
  by_cases hc : m.1 200 9 = 0
  · have hz : card (m.1 201) 80 = 0 := by
      have h1 := hA.2.2.1
      rw [hc, ← of0] at h1
      have h2 := congrArg Int32.toInt h1
      have h3 := card_le (F := m.1 201) 80
      rw [Int32.toInt_ofNat_of_lt (by omega), Int32.toInt_ofNat_of_lt (by omega)] at h2
      omega
    have hf := card_zero (F := m.1 201) 80 hz
    have hg : ∀ j, j < 80 → q.1 314 j = 0 := by
      intro j hj
      rcases hA.2.1 j hj with ⟨g, _⟩ | ⟨_, f⟩ | ⟨_, f⟩
      · exact g
      · rw [hf j hj] at f; exact absurd f (by decide)
      · rw [hf j hj] at f; exact absurd f (by decide)
    obtain ⟨q1, e1, g1⟩ := lone_none (d := 0) hL (by omega) L nL q 0 (Nat.le_refl L) hg
    obtain ⟨q', e2, g2⟩ := lone_none (d := 1) hL (by omega) L nL q1 0 (Nat.le_refl L) g1
    refine ⟨m, q1, q', 0, 0, ?_, (lone 0 q).trans e1, (lone 1 q1).trans e2, ?_⟩
    · rw [fX6_moveStair, fX6_moveStair_0, hgo, xLet_e, if_neg (by decide), htr, xLet_e, if_neg (by decide), hc, xLet_e, if_neg (by decide), fX6_moveStair_21]
    · obtain ⟨s, r, n, a, b1, b2, oo⟩ := hA
      refine ⟨s, ?_, n, a, b1, b2, by rw [oo, Int32.add_zero, Int32.add_zero]⟩
      intro j hj
      exact Or.inl ⟨g2 j hj, hf j hj⟩
  · have hA0 : AlM L md c R (off + 0) m q := by rw [Int32.add_zero]; exact hA
    obtain ⟨m1, q1, o1, f1, e1, hA1⟩ := side_sim (d := 0) hL2 hL (by omega) L nL nL m q 0 (Nat.le_refl L) hA0 (fun h => absurd h (Nat.lt_irrefl L))
    have hA1' : AlM L md c R (off + o1 + 0) m1 q1 := by rw [Int32.add_zero]; exact hA1
    obtain ⟨m2, q2, o2, f2, e2, hA2⟩ := side_sim (d := 1) hL2 hL (by omega) L nL nL m1 q1 0 (Nat.le_refl L) hA1' (fun h => absurd h (Nat.lt_irrefl L))
    refine ⟨m2, q1, q2, o1, o2, ?_, (lone 0 q).trans e1, (lone 1 q1).trans e2, by rw [← Int32.add_assoc]; exact hA2⟩
    have h41 : m1.1 200 4 = Int32.ofNat L := hA1.1.2.2.2.2.2.1
    have l1 : (0 : Int32) = Int32.ofNat 0 := rfl
    have l2 : Int32.ofNat 0 + 1 = Int32.ofNat 1 := rfl
    have l3 : (2 : Int32) ≤ Int32.ofNat 1 + 1 := by decide
    rw [fX6_moveStair, fX6_moveStair_0, hgo, xLet_e, if_neg (by decide), htr, xLet_e, if_neg (by decide), xLet_e, if_pos hc, hn2, show n2 + 1 + 2 = n2 + 1 + 1 + 1 from rfl, fX6_moveStair_24, if_neg (by decide), h4, xLet_e, xLet_e, hnL, l1, f1, l2, fX6_moveStair_24, if_neg (by decide), h41, xLet_e, xLet_e, hnL, f2, fX6_moveStair_24, if_pos l3]
