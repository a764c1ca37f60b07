/-! the class's cut of a tape -/
section
variable {m : xMem} {L : Nat}
theorem cutW_loop (h : TPE m L) {q a e : Nat} (h7 : (m.1 255 7).toInt = (q : Int)) (hq : q < 301) {a1 : Int32} (h1 : a1.toInt = (a : Int)) (hw : isLt' (bB m a) = true) (hs : isSp' (bB m a) = false) (he : run (bB m) L isLt' (a + 1) = e) : ∀ (fuel : Nat) (l3 : Int32) (j : Nat), l3.toInt = (j : Int) → a + 1 ≤ j → j ≤ L → run (bB m) L isLt' j = e → L - j < fuel → vOk (fun p : Int32 × xMem => (isSp' (bB m a) = true ∧ p.2 = m ∧ p.1.toInt = (a : Int) + 1) ∨ (isSp' (bB m a) = false ∧ TA m p.2 q (tkK (bB m) L a) (tkV (bB m) L a) a ∧ p.1.toInt = (tkE (bB m) L a : Int))) (fX7_cutOne_33 255 a1 fuel l3 m) := by
  have c0 : (0 : Int32).toInt = 0 := rfl
  have c1 : (1 : Int32).toInt = 1 := rfl
  have h4 := h.1
  have hL := h.2
  intro fuel
  induction fuel with
  | zero => intro l3 j _ _ _ _ hmu; exact absurd hmu (Nat.not_lt_zero _)
  | succ fuel ih =>
    intro l3 j hj haj hjL hr hmu
    have stop : j = e → vOk (fun p : Int32 × xMem => (isSp' (bB m a) = true ∧ p.2 = m ∧ p.1.toInt = (a : Int) + 1) ∨ (isSp' (bB m a) = false ∧ TA m p.2 q (tkK (bB m) L a) (tkV (bB m) L a) a ∧ p.1.toInt = (tkE (bB m) L a : Int))) (fX7_cutOne_58 255 a1 l3 m) := by
      intro z
      unfold fX7_cutOne_58 fX7_cutOne_180
      refine vOk_bind (addWord_k h h7 hq h1 hj (by omega) hjL) fun p1 y => ?_
      refine vOk_some (Or.inr ⟨hs, ?_, ?_⟩)
      · unfold tkK tkV
        rw [if_pos hw, if_pos hw, he, ← z]
        exact y
      · unfold tkE
        rw [if_pos hw, he, ← z]
        exact hj
    rw [fX7_cutOne_33]
    refine vAl (x := m.1 255 4) rfl ?_
    refine vLe (fun g => ?_) (fun g => ?_)
    · refine stop ?_
      rw [← hr, run_0 (fun z => by omega)]
    · refine vBindP (byteAt_k h hj) fun v _ hv => ?_
      dsimp only
      rw [bAt_in (by omega)] at hv
      refine vAlB (isLetterC_e _ _) ?_
      dsimp only
      rcases isLt_b v with ⟨z1, z2⟩ | ⟨z1, z2⟩
      · rw [z1, if_neg (show ¬ (1 : Int32) = 0 by decide)]
        rw [hv] at z2
        refine vA (by omega) fun x6 e6 f6 => ?_
        exact ih x6 (j + 1) (by omega) (by omega) (by omega) (by rw [← hr, run_s (a := j) (by omega) z2]) (by omega)
      · rw [z1, if_pos rfl]
        rw [hv] at z2
        refine stop ?_
        rw [← hr, run_0 (fun z => by rw [z2] at z; exact absurd z.2 (by decide))]
theorem cutN_loop (h : TPE m L) {q a e : Nat} {N : Int} (h7 : (m.1 255 7).toInt = (q : Int)) (hq : q < 301) {a1 : Int32} (h1 : a1.toInt = (a : Int)) (hw : isLt' (bB m a) = false) (hd : isDg' (bB m a) = true) (hs : isSp' (bB m a) = false) (he : run (bB m) L isDg' (a + 1) = e) (hN : num (bB m) L a 0 = N) : ∀ (fuel : Nat) (l3 l4 : Int32) (j : Nat), l3.toInt = (j : Int) → a + 1 ≤ j → j ≤ L → run (bB m) L isDg' j = e → num (bB m) L j l4.toInt = N → (0 ≤ l4.toInt ∧ l4.toInt ≤ 10000) → L - j < fuel → vOk (fun p : Int32 × xMem => (isSp' (bB m a) = true ∧ p.2 = m ∧ p.1.toInt = (a : Int) + 1) ∨ (isSp' (bB m a) = false ∧ TA m p.2 q (tkK (bB m) L a) (tkV (bB m) L a) a ∧ p.1.toInt = (tkE (bB m) L a : Int))) (fX7_cutOne_80 255 a1 fuel l3 l4 m) := by
  have c0 : (0 : Int32).toInt = 0 := rfl
  have c1 : (1 : Int32).toInt = 1 := rfl
  have c2 : (2 : Int32).toInt = 2 := rfl
  have c10 : (10 : Int32).toInt = 10 := rfl
  have c48 : (48 : Int32).toInt = 48 := rfl
  have c10000 : (10000 : Int32).toInt = 10000 := rfl
  have h4 := h.1
  have hL := h.2
  intro fuel
  induction fuel with
  | zero => intro l3 l4 j _ _ _ _ _ _ hmu; exact absurd hmu (Nat.not_lt_zero _)
  | succ fuel ih =>
    intro l3 l4 j hj haj hjL hr hn hl4 hmu
    have stop : j = e → l4.toInt = N → vOk (fun p : Int32 × xMem => (isSp' (bB m a) = true ∧ p.2 = m ∧ p.1.toInt = (a : Int) + 1) ∨ (isSp' (bB m a) = false ∧ TA m p.2 q (tkK (bB m) L a) (tkV (bB m) L a) a ∧ p.1.toInt = (tkE (bB m) L a : Int))) (fX7_cutOne_127 255 a1 l3 l4 m) := by
      intro z zn
      unfold fX7_cutOne_127 fX7_cutOne_180
      refine vOk_bind (addToken_k (a := 2) (b := l4) (c := a1) h7 hq) fun p1 y => ?_
      refine vOk_some (Or.inr ⟨hs, ?_, ?_⟩)
      · unfold tkK tkV
        rw [if_neg (show ¬ isLt' (bB m a) = true by rw [hw]; decide), if_neg (show ¬ isLt' (bB m a) = true by rw [hw]; decide), if_pos hd, if_pos hd, hN, ← zn, ← h1]
        exact y
      · unfold tkE
        rw [if_neg (by rw [hw]; decide), if_pos hd, he, ← z]
        exact hj
    rw [fX7_cutOne_80]
    refine vAl (x := m.1 255 4) rfl ?_
    refine vLe (fun g => ?_) (fun g => ?_)
    · refine stop ?_ ?_
      · rw [← hr, run_0 (fun z => by omega)]
      · rw [← hn, num_0 (fun z => by omega)]
    · refine vBindP (byteAt_k h hj) fun v _ hv => ?_
      dsimp only
      rw [bAt_in (by omega)] at hv
      refine vBindP (isDigit_k v m) fun d _ hd' => ?_
      dsimp only
      refine vEq (fun g2 => ?_) (fun g2 => ?_)
      · have z2 := (hd'.resolve_left (fun y => by have := y.1; omega)).2
        rw [hv] at z2
        refine stop ?_ ?_
        · rw [← hr, run_0 (fun z => by rw [z2] at z; exact absurd z.2 (by decide))]
        · rw [← hn, num_0 (fun z => by rw [z2] at z; exact absurd z.2 (by decide))]
      · have z2 := (hd'.resolve_right (fun y => g2 (y.1.trans c0.symm))).2
        have zr : 48 ≤ v.toInt ∧ v.toInt ≤ 57 := of_decide_eq_true z2
        rw [hv] at z2
        refine vM (v := 10 * l4.toInt) (by rw [c10]; omega) (by omega) fun x6 e6 f6 => ?_
        refine vBindP (byteAt_k h hj) fun v7 _ hv7 => ?_
        dsimp only
        rw [bAt_in (by omega)] at hv7
        refine vA (by omega) fun x8 e8 f8 => ?_
        refine vS (by omega) fun x9 e9 f9 => ?_
        refine vMin fun x10 e10 f10 => ?_
        refine vA (by omega) fun x11 e11 f11 => ?_
        have hx10 : x10.toInt = min 10000 (l4.toInt * 10 + bB m j - 48) := by omega
        refine ih x11 x10 (j + 1) (by omega) (by omega) (by omega) (by rw [← hr, run_s (a := j) (by omega) z2]) ?_ (by omega) (by omega)
        rw [← hn, num_s (a := j) (by omega) z2, hx10]
theorem cutOne_k (h : TPE m L) {q a : Nat} (h7 : (m.1 255 7).toInt = (q : Int)) (hq : q < 301) {a1 : Int32} (h1 : a1.toInt = (a : Int)) (ha : a < L) : vOk (fun p : Int32 × xMem => (isSp' (bB m a) = true ∧ p.2 = m ∧ p.1.toInt = (a : Int) + 1) ∨ (isSp' (bB m a) = false ∧ TA m p.2 q (tkK (bB m) L a) (tkV (bB m) L a) a ∧ p.1.toInt = (tkE (bB m) L a : Int))) (fX7_cutOne 255 a1 m) := by
  have c0 : (0 : Int32).toInt = 0 := rfl
  have c1 : (1 : Int32).toInt = 1 := rfl
  have c3 : (3 : Int32).toInt = 3 := rfl
  have c5 : (5 : Int32).toInt = 5 := rfl
  have c10 : (10 : Int32).toInt = 10 := rfl
  have c32 : (32 : Int32).toInt = 32 := rfl
  have c48 : (48 : Int32).toInt = 48 := rfl
  have c61 : (61 : Int32).toInt = 61 := rfl
  have h4 := h.1
  have hL := h.2
  have cF := xFu
  have sp : (bB m a = 32 ∨ bB m a = 10) → vOk (fun p : Int32 × xMem => (isSp' (bB m a) = true ∧ p.2 = m ∧ p.1.toInt = (a : Int) + 1) ∨ (isSp' (bB m a) = false ∧ TA m p.2 q (tkK (bB m) L a) (tkV (bB m) L a) a ∧ p.1.toInt = (tkE (bB m) L a : Int))) (fX7_cutOne_18 255 a1 m) := by
    intro z
    unfold fX7_cutOne_18
    refine vA (by omega) fun x e f => ?_
    exact vOk_some (Or.inl ⟨decide_eq_true z, rfl, by show x.toInt = _; omega⟩)
  unfold fX7_cutOne fX7_cutOne_0
  refine vBindP (byteAt_k h h1) fun v _ hv => ?_
  dsimp only
  rw [bAt_in (by omega)] at hv
  refine vEq (fun g => sp (by omega)) (fun g => ?_)
  refine vNe (fun g2 => ?_) (fun g2 => sp (by omega))
  have hs : isSp' (bB m a) = false := decide_eq_false (by omega)
  refine vA (by omega) fun x4 e4 f4 => ?_
  refine vAlB (isLetterC_e _ _) ?_
  dsimp only
  rcases isLt_b v with ⟨z1, z2⟩ | ⟨z1, z2⟩
  · rw [z1, if_neg (show ¬ (1 : Int32) = 0 by decide)]
    rw [hv] at z2
    exact cutW_loop h h7 hq h1 z2 hs rfl xFuel x4 (a + 1) (by omega) (by omega) (by omega) rfl (by omega)
  · rw [z1, if_pos rfl]
    rw [hv] at z2
    refine vBindP (isDigit_k v m) fun d _ hd' => ?_
    dsimp only
    refine vEq (fun g3 => ?_) (fun g3 => ?_)
    · have z3 := (hd'.resolve_left (fun y => by have := y.1; omega)).2
      rw [hv] at z3
      refine vBindP (signOf_k v m) fun s _ hs' => ?_
      dsimp only
      rw [hv] at hs'
      have r172 : ∀ (l3 l4 : Int32), l3.toInt = (tkE (bB m) L a : Int) → l4.toInt = tkK (bB m) L a → vOk (fun p : Int32 × xMem => (isSp' (bB m a) = true ∧ p.2 = m ∧ p.1.toInt = (a : Int) + 1) ∨ (isSp' (bB m a) = false ∧ TA m p.2 q (tkK (bB m) L a) (tkV (bB m) L a) a ∧ p.1.toInt = (tkE (bB m) L a : Int))) (fX7_cutOne_172 255 a1 l3 l4 m) := by
        intro l3 l4 y3 y4
        unfold fX7_cutOne_172 fX7_cutOne_180
        refine vOk_bind (addToken_k (a := l4) (b := 0) (c := a1) h7 hq) fun p1 y => ?_
        refine vOk_some (Or.inr ⟨hs, ?_, y3⟩)
        rw [y4, h1] at y
        unfold tkV
        rw [if_neg (by rw [z2]; decide), if_neg (by rw [z3]; decide)]
        exact y
      have r156 : (sgn (bB m a) = 3 ∨ sgn (bB m a) = 5) → vOk (fun p : Int32 × xMem => (isSp' (bB m a) = true ∧ p.2 = m ∧ p.1.toInt = (a : Int) + 1) ∨ (isSp' (bB m a) = false ∧ TA m p.2 q (tkK (bB m) L a) (tkV (bB m) L a) a ∧ p.1.toInt = (tkE (bB m) L a : Int))) (fX7_cutOne_156 255 a1 x4 s m) := by
        intro y
        unfold fX7_cutOne_156
        refine vBindP (byteAt_k h (j := a + 1) (by omega)) fun b _ hb => ?_
        dsimp only
        refine vNe (fun g4 => ?_) (fun g4 => ?_)
        · have n61 : ¬ ((sgn (bB m a) = 3 ∨ sgn (bB m a) = 5) ∧ bAt (bB m) L (a + 1) = 61) := fun w => g4 (by omega)
          refine r172 _ _ ?_ ?_
          · unfold tkE
            rw [if_neg (by rw [z2]; decide), if_neg (by rw [z3]; decide), if_neg n61]; omega
          · unfold tkK
            rw [if_neg (by rw [z2]; decide), if_neg (by rw [z3]; decide), if_neg n61]; exact hs'
        · have y61 : (sgn (bB m a) = 3 ∨ sgn (bB m a) = 5) ∧ bAt (bB m) L (a + 1) = 61 := ⟨y, by omega⟩
          refine vA (by omega) fun x3 e3 f3 => ?_
          refine vA (by omega) fun x5 e5 f5 => ?_
          refine r172 _ _ ?_ ?_
          · unfold tkE
            rw [if_neg (by rw [z2]; decide), if_neg (by rw [z3]; decide), if_pos y61]; omega
          · unfold tkK
            rw [if_neg (by rw [z2]; decide), if_neg (by rw [z3]; decide), if_pos y61]; omega
      refine vEq (fun g4 => r156 (Or.inl (by omega))) (fun g4 => ?_)
      refine vNe (fun g5 => ?_) (fun g5 => r156 (Or.inr (by omega)))
      have n35 : ¬ ((sgn (bB m a) = 3 ∨ sgn (bB m a) = 5) ∧ bAt (bB m) L (a + 1) = 61) := fun w => by have := w.1; omega
      refine r172 _ _ ?_ ?_
      · unfold tkE
        rw [if_neg (by rw [z2]; decide), if_neg (by rw [z3]; decide), if_neg n35]; omega
      · unfold tkK
        rw [if_neg (by rw [z2]; decide), if_neg (by rw [z3]; decide), if_neg n35]; exact hs'
    · have z3 := (hd'.resolve_right (fun y => g3 (y.1.trans c0.symm))).2
      have zr : 48 ≤ v.toInt ∧ v.toInt ≤ 57 := of_decide_eq_true z3
      rw [hv] at z3
      refine vS (by omega) fun x12 e12 f12 => ?_
      refine cutN_loop h h7 hq h1 z2 z3 hs rfl rfl xFuel x4 x12 (a + 1) (by omega) (by omega) (by omega) rfl ?_ (by omega) (by omega)
      rw [num_s (a := a) ha z3, show x12.toInt = min 10000 (0 * 10 + bB m a - 48) by omega]
end
/-- only the tokens -/
def CT (m m1 : xMem) : Prop := m1.2 = m.2 ∧ ∀ b j, ¬ ((b = 255 ∧ j = 7) ∨ (257 ≤ b ∧ b ≤ 259)) → m1.1 b j = m.1 b j
def PQ (B : Nat → Int) (L n : Nat) (i : Nat) : Int := if i < n then (pos B L i : Int) else 0
section
variable {m0 : xMem} {L : Nat}
theorem cut_loop (h0 : TPE m0 L) : ∀ (fuel : Nat) (l1 l2 : Int32) (m : xMem) (a q : Nat), l1.toInt = (a : Int) → a ≤ L → 0 ≤ l2.toInt → l2.toInt ≤ (a : Int) → L - a < fuel → CT m0 m → (m.1 255 7).toInt = (q : Int) → pos (bB m0) L q = run (bB m0) L isSp' a → (∀ i, i < q → pos (bB m0) L i < L ∧ (m.1 257 i).toInt = KF' (bB m0) L i ∧ (m.1 258 i).toInt = VF' (bB m0) L i ∧ (m.1 259 i).toInt = (pos (bB m0) L i : Int)) → vOk (fun m1 => ∃ n, TKN m1 (KF' (bB m0) L) (VF' (bB m0) L) (PQ (bB m0) L n) n ∧ CT m0 m1 ∧ 1 ≤ n ∧ pos (bB m0) L (n - 1) = L ∧ ∀ i, i + 1 < n → pos (bB m0) L i < L) (fX7_cut_9 255 fuel l1 l2 m) := by
  have c0 : (0 : Int32).toInt = 0 := rfl
  have c1 : (1 : Int32).toInt = 1 := rfl
  have c300 : (300 : Int32).toInt = 300 := rfl
  intro fuel
  induction fuel with
  | zero => intro l1 l2 m a q _ _ _ _ hmu; exact absurd hmu (Nat.not_lt_zero _)
  | succ fuel ih =>
    intro l1 l2 m a q h1 haL h20 h2 hmu F h7 hp hr
    have hL := h0.2
    have t4 : (m.1 255 4).toInt = (L : Int) := by rw [F.2 255 4 (by omega)]; exact h0.1
    have tm : TPE m L := ⟨t4, hL⟩
    have bm : bB m = bB m0 := funext fun j => by
      show (m.1 256 j).toInt = (m0.1 256 j).toInt
      rw [F.2 256 j (by omega)]
    have hq : q ≤ L := by
      by_cases z : q = 0
      · omega
      · have y := (hr (q - 1) (by omega)).1
        have := pos_i y
        omega
    have stop : a = L → vOk (fun m1 => ∃ n, TKN m1 (KF' (bB m0) L) (VF' (bB m0) L) (PQ (bB m0) L n) n ∧ CT m0 m1 ∧ 1 ≤ n ∧ pos (bB m0) L (n - 1) = L ∧ ∀ i, i + 1 < n → pos (bB m0) L i < L) (fX7_cut_36 255 m) := by
      intro z
      have pq : pos (bB m0) L q = L := by rw [hp, z, run_0 (fun y => by omega)]
      unfold fX7_cut_36
      refine vAl (x := m.1 255 4) rfl ?_
      refine vOk_bind (addToken_k (q := q) (a := 0) (b := 0) (c := m.1 255 4) h7 (by omega)) fun p2 y => ?_
      obtain ⟨y0, y1, y2, y3, y4, y5⟩ := y
      refine vOk_some ⟨q + 1, ⟨by rw [y1]; omega, by omega, fun i hi => ?_, fun i hi => ?_⟩, ⟨y0.trans F.1, fun b j w => by rw [y5 b j (by omega), F.2 b j w]⟩, by omega, pq, fun i hi => (hr i (by omega)).1⟩
      · by_cases w : i = q
        · rw [w, y2, y3, y4]
          unfold KF' VF' PQ
          rw [if_neg (by omega), if_neg (by omega), if_pos (by omega), pq]
          exact ⟨rfl, rfl, t4⟩
        · have k := hr i (by omega)
          rw [y5 257 i (by omega), y5 258 i (by omega), y5 259 i (by omega)]
          unfold PQ
          rw [if_pos hi]
          exact k.2
      · have pe := pos_end (B := bB m0) (L := L) (i := q) (by omega) i (by omega)
        unfold KF' VF' PQ
        rw [if_neg (by omega), if_neg (by omega), if_neg (by omega)]
        exact ⟨rfl, rfl, rfl⟩
    rw [fX7_cut_9]
    refine vLe (fun g => stop (by omega)) (fun g => ?_)
    refine vAl (x := m.1 255 4) rfl ?_
    refine vLe (fun g2 => stop (by omega)) (fun g2 => ?_)
    refine vOk_bind (cutOne_k tm (q := q) (a := a) h7 (by omega) h1 (by omega)) fun p4 y => ?_
    refine vA (by omega) fun x5 e5 f5 => ?_
    rw [bm] at y
    rcases y with ⟨s1, s2, s3⟩ | ⟨s1, s2, s3⟩
    · refine ih p4.1 x5 p4.2 (a + 1) q (by omega) (by omega) (by omega) (by omega) (by omega) (by rw [s2]; exact F) (by rw [s2]; exact h7) ?_ (by rw [s2]; exact hr)
      rw [hp, run_s (a := a) (by omega) s1]
    · obtain ⟨y0, y1, y2, y3, y4, y5⟩ := s2
      have pq : pos (bB m0) L q = a := by rw [hp, run_0 (fun z => by rw [s1] at z; exact absurd z.2 (by decide))]
      have te := tkE_gt (B := bB m0) (L := L) (q := a) (by omega)
      refine ih p4.1 x5 p4.2 (tkE (bB m0) L a) (q + 1) s3 te.2 (by omega) (by omega) (by omega) ⟨y0.trans F.1, fun b j w => by rw [y5 b j (by omega), F.2 b j w]⟩ (by rw [y1]; omega) ?_ (fun i hi => ?_)
      · show (if pos (bB m0) L q < L then run (bB m0) L isSp' (tkE (bB m0) L (pos (bB m0) L q)) else L) = _
        rw [if_pos (by omega), pq]
      · by_cases w : i = q
        · rw [w, y2, y3, y4, pq]
          refine ⟨by omega, ?_, ?_, rfl⟩
          · unfold KF'; rw [if_pos (by omega), pq]
          · unfold VF'; rw [if_pos (by omega), pq]
        · have k := hr i (by omega)
          rw [y5 257 i (by omega), y5 258 i (by omega), y5 259 i (by omega)]
          exact k
theorem cut_k (h0 : TPE m0 L) : vOk (fun m1 => ∃ n, TKN m1 (KF' (bB m0) L) (VF' (bB m0) L) (PQ (bB m0) L n) n ∧ CT m0 m1 ∧ 1 ≤ n ∧ pos (bB m0) L (n - 1) = L ∧ ∀ i, i + 1 < n → pos (bB m0) L i < L) (fX7_cut 255 m0) := by
  have c0 : (0 : Int32).toInt = 0 := rfl
  have cF := xFu
  have hL := h0.2
  unfold fX7_cut fX7_cut_0
  refine vR fun m1 e1 => ?_
  have F1 : CT m0 m1 := by
    refine ⟨by rw [e1]; rfl, fun b j w => ?_⟩
    rw [e1]
    show (if b = 255 ∧ j = 7 then _ else m0.1 b j) = _
    rw [if_neg (by omega)]
  exact cut_loop h0 xFuel 0 0 m1 0 0 rfl (by omega) (by omega) (by omega) (by omega) F1 (by rw [show m1.1 255 7 = 0 by rw [e1]; exact xP_eq.symm]; rfl) rfl (fun i hi => absurd hi (Nat.not_lt_zero i))
/-- kinds are few -/
theorem KF_r {B : Nat → Int} {L : Nat} (i : Nat) : 0 ≤ KF' B L i ∧ KF' B L i ≤ 26 := by
  have sr : ∀ c, 1 ≤ sgn c ∧ sgn c ≤ 15 := by
    intro c
    unfold sgn
    repeat' split
    all_goals omega
  have s35 : ∀ c, (sgn c = 3 ∨ sgn c = 5) → sgn c ≤ 5 := fun c h => by omega
  unfold KF' tkK
  by_cases h : pos B L i < L
  · rw [if_pos h]
    by_cases h1 : isLt' (B (pos B L i)) = true
    · rw [if_pos h1]
      by_cases h2 : wdx B (pos B L i) (run B L isLt' (pos B L i + 1)) = 14
      · rw [if_pos h2]; omega
      · rw [if_neg h2]; omega
    · rw [if_neg h1]
      by_cases h2 : isDg' (B (pos B L i)) = true
      · rw [if_pos h2]; omega
      · rw [if_neg h2]
        have := sr (B (pos B L i))
        by_cases h3 : (sgn (B (pos B L i)) = 3 ∨ sgn (B (pos B L i)) = 5) ∧ bAt B L (pos B L i + 1) = 61
        · rw [if_pos h3]; have := h3.1; omega
        · rw [if_neg h3]; omega
  · rw [if_neg h]; omega
end
/-! the class's text -/
/-- what the machine says of a tape: f at token j (9: no fault) -/
def VD (B : Nat → Int) (L : Nat) (f j : Nat) : Prop := Er (KF' B L) (VF' B L) (0, 4, [], 0, 0, 0) f j
theorem into_k {m : xMem} {L r : Nat} (hr : 260 ≤ r) (h : TPE m L) : vOk (fun p : Int32 × xMem => (p.2.1 255 4).toInt = 0 ∧ (∀ b j, ¬ (255 ≤ b ∧ b ≤ 259) → ¬ (r ≤ b ∧ b ≤ r + 5) → p.2.1 b j = m.1 b j) ∧ (∀ j, p.2.1 256 j = m.1 256 j) ∧ ∃ f j n : Nat, VD (bB m) L f j ∧ 1 ≤ n ∧ pos (bB m) L (n - 1) = L ∧ ((p.1 = 1 ∧ f = 9 ∧ (p.2.1 255 5).toInt = 0 ∧ (p.2.1 255 6).toInt = -1) ∨ (p.1 = 0 ∧ ¬ f = 9 ∧ (p.2.1 255 5).toInt = (f : Int) ∧ (p.2.1 255 6).toInt = PQ (bB m) L n j))) (fX7_readInto 255 r m) := by
  have c0 : (0 : Int32).toInt = 0 := rfl
  have cF := xFu
  unfold fX7_readInto fX7_readInto_0
  refine vOk_bind (cut_k h) fun p1 y => ?_
  obtain ⟨n, t, F, hn1, hpn, hpi⟩ := y
  refine vR fun m2 e2 => ?_
  refine vR fun m3 e3 => ?_
  refine vR fun m4 e4 => ?_
  refine vR fun m5 e5 => ?_
  refine vR fun m6 e6 => ?_
  refine vR fun m7 e7 => ?_
  have fr : ∀ b j, ¬ ((b = 255 ∧ (j = 4 ∨ j = 5 ∨ j = 6 ∨ j = 8)) ∨ (b = r ∧ (j = 5 ∨ j = 6))) → m7.1 b j = p1.1 b j := fun b j w => by
    rw [e7, e6, e5, e4, e3, e2]
    show (if b = r ∧ j = 6 then _ else if b = r ∧ j = 5 then _ else if b = 255 ∧ j = 6 then _ else if b = 255 ∧ j = 5 then _ else if b = 255 ∧ j = 8 then _ else if b = 255 ∧ j = 4 then _ else p1.1 b j) = _
    rw [if_neg (by omega), if_neg (by omega), if_neg (by omega), if_neg (by omega), if_neg (by omega), if_neg (by omega)]
  have z4 : m7.1 255 4 = 0 := by
    rw [e7, ← xP_pl (by omega), e6, ← xP_pl (by omega), e5, ← xP_sl (by omega), e4, ← xP_sl (by omega), e3, ← xP_sl (by omega), e2]
    exact xP_eq.symm
  have z8 : m7.1 255 8 = 0 := by
    rw [e7, ← xP_pl (by omega), e6, ← xP_pl (by omega), e5, ← xP_sl (by omega), e4, ← xP_sl (by omega), e3]
    exact xP_eq.symm
  have z5 : m7.1 255 5 = 0 := by
    rw [e7, ← xP_pl (by omega), e6, ← xP_pl (by omega), e5, ← xP_sl (by omega), e4]
    exact xP_eq.symm
  have z6 : m7.1 255 6 = -1 := by
    rw [e7, ← xP_pl (by omega), e6, ← xP_pl (by omega), e5]
    exact xP_eq.symm
  have zr : m7.1 r 6 = 0 := by rw [e7]; exact xP_eq.symm
  have t7 : TKN m7 (KF' (bB m) L) (VF' (bB m) L) (PQ (bB m) L n) n := by
    obtain ⟨a, b, c, d⟩ := t
    refine ⟨by rw [fr 255 7 (by omega)]; exact a, b, fun i hi => ?_, d⟩
    rw [fr 257 i (by omega), fr 258 i (by omega), fr 259 i (by omega)]
    exact c i hi
  have cw : CW m7 r 0 0 := ⟨by rw [zr]; rfl, by omega, ⟨fun ⟨c, h1, _⟩ => absurd h1 (Nat.not_lt_zero c), fun q => absurd rfl q⟩⟩
  refine vOk_mono (into_loop (m0 := m7) hr (fun i => KF_r i) xFuel 0 m7 0 0 0 0 (by omega) (by omega) t7 (by rw [z8]; rfl) (by omega) (by omega) cw FC_refl S56_refl Rc_refl) fun p q => ?_
  obtain ⟨G, f, j, q1, q2⟩ := q
  refine ⟨by rw [G.2 255 4 (by omega), z4]; rfl, fun b j w1 w2 => by rw [G.2 b j (by omega), fr b j (by omega), F.2 b j (by omega)], fun j => by rw [G.2 256 j (by omega), fr 256 j (by omega), F.2 256 j (by omega)], f, j, n, q1, hn1, hpn, ?_⟩
  rcases q2 with ⟨a, b, c⟩ | ⟨a, b, c, d⟩
  · exact Or.inl ⟨a, b, by rw [c.1, z5]; rfl, by rw [c.2, z6]; rfl⟩
  · exact Or.inr ⟨a, b, c, d⟩
