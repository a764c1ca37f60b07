/-! the reference: what is tried and put back -/
theorem IR_self {R m : xMem} (h : IR R m) : IR m m := ⟨fun _ _ _ => rfl, h.2⟩
theorem IC_self {R m : xMem} (h : IC R m) : IC m m := ⟨fun _ _ _ => rfl, h.2.1, rfl⟩
theorem GR_ofB {R S : xMem} (hG : GR R) (hA : GA (S.1 292)) (h6 : ∀ j, S.1 296 j = R.1 296 j) (h8 : ∀ j, S.1 298 j = R.1 298 j) (h9 : ∀ j, S.1 299 j = R.1 299 j) (h0 : ∀ j, S.1 300 j = R.1 300 j) : GR S := by
  obtain ⟨_, g, k⟩ := hG
  refine ⟨hA, fun j => ?_, fun t ht i hi => ?_⟩
  · rw [h6]; exact g j
  · rw [h6] at hi
    have e9 : S.1 299 = R.1 299 := funext h9
    have e10 : S.1 300 = R.1 300 := funext h0
    have q := k t ht i hi
    rw [h8]
    unfold VC at q ⊢
    rw [e9, e10]
    exact q
theorem GR_mem {R m : xMem} (hG : GR R) (hI : IR R m) : GR m := by
  have e : ∀ j, ¬ ((9 ≤ j ∧ j ≤ 12) ∨ (20 ≤ j ∧ j < 202) ∨ (210 ≤ j ∧ j < 350 ∧ 5 ≤ (j - 210) % 14) ∨ (580 ≤ j ∧ j < 1380)) → m.1 292 j = R.1 292 j := fun j hj => kA hI hj
  refine GR_ofB hG ⟨GA_cnt hG.1 fun j _ _ => e j (by omega), fun l hl => ?_, fun l hl hk => ?_, GA_bur hG.1 fun j _ _ => e j (by omega), hI.2.1, GA_lds hG.1 fun j _ _ => e j (by omega)⟩ (fun j => hI.1 _ _ ⟨by omega, by omega⟩) (fun j => hI.1 _ _ ⟨by omega, by omega⟩) (fun j => hI.1 _ _ ⟨by omega, by omega⟩) (fun j => hI.1 _ _ ⟨by omega, by omega⟩)
  · rw [e (210 + 14 * l) (by omega), e (211 + 14 * l) (by omega), e (212 + 14 * l) (by omega), e (213 + 14 * l) (by omega), e (214 + 14 * l) (by omega)]
    exact hG.1.2.1 l hl
  · rw [e 2 (by omega)] at hl
    have := hG.1.1.2.1.2
    rw [e (210 + 14 * l) (by omega)] at hk
    rw [e (214 + 14 * l) (by omega)]
    exact hG.1.2.2.1 l hl hk
def TR (A : xMem) : Prop := GR A ∧ IR A A ∧ ∀ j : Nat, j < 1610 → A.1 294 j = A.1 292 j
def TP (R p : xMem) : Prop := ∃ A, GR A ∧ IR A p ∧ ∀ b j, b ≠ 294 → KR b j → A.1 b j = R.1 b j
theorem TR_saves {R m : xMem} (hG : GR R) (hI : IR R m) : TR (cpRow m 292 294 1610) := by
  have e : (cpRow m 292 294 1610).1 292 = m.1 292 := funext fun i => cpRow_src (by omega)
  have o : ∀ b, b ≠ 294 → ∀ j, (cpRow m 292 294 1610).1 b j = m.1 b j := fun b hb j => cpRow_o (Or.inl hb)
  refine ⟨GR_ofB (GR_mem hG hI) (by rw [e]; exact (GR_mem hG hI).1) (o 296 (by omega)) (o 298 (by omega)) (o 299 (by omega)) (o 300 (by omega)), ⟨fun _ _ _ => rfl, fun j hj => ?_, fun j => ?_, fun j => ?_⟩, fun j hj => ?_⟩
  · rw [e]; exact hI.2.1 j hj
  · rw [o 311 (by omega)]; exact hI.2.2.1 j
  · rw [o 314 (by omega)]; exact hI.2.2.2 j
  · rw [cpRow_d hj, e]
theorem TP_of {R m p : xMem} (hG : GR R) (hI : IR R m) (h : IR (cpRow m 292 294 1610) p) : TP R p := by
  refine ⟨_, (TR_saves hG hI).1, h, fun b j hb hk => ?_⟩
  rw [cpRow_o (Or.inl hb)]
  exact hI.1 b j hk
theorem TP_self {R p : xMem} (hG : GR R) (hI : IR R p) : TP R p := ⟨R, hG, hI, fun _ _ _ _ => rfl⟩
theorem bumpN_o {e : Nat} : ∀ {R : xMem} {b j : Nat}, ¬ (b = 292 ∧ j = 0) → (bumpN e R).1 b j = R.1 b j := by
  induction e with
  | zero => intro R b j _; rfl
  | succ e ih =>
    intro R b j h
    show (bumpN e (xPut R 292 0 (R.1 292 0 + 1))).1 b j = _
    rw [ih h]
    show (if b = 292 ∧ j = 0 then _ else R.1 b j) = _
    rw [if_neg h]
theorem bumpN_r {k : Nat} : ∀ {A : xMem}, bumpN (k + 1) A = xPut (bumpN k A) 292 0 ((bumpN k A).1 292 0 + 1) := by
  induction k with
  | zero => intro A; rfl
  | succ k ih =>
    intro A
    show bumpN (k + 1) (xPut A 292 0 (A.1 292 0 + 1)) = _
    rw [ih]
    rfl
theorem GR_bumpN {e : Nat} : ∀ {R : xMem}, GR R → GR (bumpN e R) := by
  induction e with
  | zero => intro R h; exact h
  | succ e ih => intro R h; exact ih (GR_bump h)
theorem back_IR {A m' : xMem} {e : Nat} (hA : TR A) (h : IR (bumpN e A) m') : IR A (cpRow m' 294 292 1610) := by
  have k4 : ∀ j : Nat, j < 1610 → m'.1 294 j = A.1 292 j := fun j hj => by
    rw [h.1 294 j ⟨by omega, by omega⟩, bumpN_o (by omega)]
    exact hA.2.2 j hj
  refine ⟨fun b j hk => ?_, fun j hj => ?_, fun j => ?_, fun j => ?_⟩
  · by_cases hb : b = 292
    · subst hb
      by_cases hj : j < 1610
      · rw [cpRow_d hj]; exact k4 j hj
      · rw [cpRow_o (Or.inr (by omega)), h.1 292 j hk, bumpN_o (by omega)]
    · rw [cpRow_o (Or.inl hb), h.1 b j hk, bumpN_o (by omega)]
  · rw [cpRow_d (by omega), k4 _ (by omega)]; exact hA.2.1.2.1 j hj
  · rw [cpRow_o (Or.inl (by omega))]; exact h.2.2.1 j
  · rw [cpRow_o (Or.inl (by omega))]; exact h.2.2.2 j
theorem areStairs_b {R m : xMem} {a1 : Int32} (hG : GR R) (hI : IR R m) : vOk (PP m (fun x : Int32 => x.toInt = 0 ∨ (0 < a1.toInt ∧ a1.toInt < 2147483647))) (fX12_areStairs 291 a1 m) := by
  have c0 : (0 : Int32).toInt = 0 := rfl
  have c1 : (1 : Int32).toInt = 1 := rfl
  have c2 : (2 : Int32).toInt = 2 := rfl
  have c10 : (10 : Int32).toInt = 10 := rfl
  have no : vOk (PP m (fun x : Int32 => x.toInt = 0 ∨ (0 < a1.toInt ∧ a1.toInt < 2147483647))) (fX12_areStairs_22 291 a1 (0 : Int32) m) := by
    unfold fX12_areStairs_22 fX12_areStairs_23
    rw [show xFuel = 4999999999 + 1 from rfl, fX12_areStairs_27]
    rw [if_neg (show ¬ (10 : Int32) ≤ 0 by decide), if_pos rfl]
    unfold fX12_areStairs_64
    rw [if_pos rfl]
    unfold fX12_areStairs_78 fX12_areStairs_79
    exact v00 (rP (Or.inl rfl))
  unfold fX12_areStairs fX12_areStairs_0
  refine vLe (fun h1 => no) (fun h2 => ?_)
  refine vIn (by omega) (by omega) fun n3 => ?_
  refine vR fun v4 ev4 => ?_
  refine vI fun v5 ev5 fv5 => ?_
  refine vLe (fun h6 => no) (fun h7 => ?_)
  unfold fX12_areStairs_23
  have cF := xFu
  refine vOk_mono (fX12_areStairs_27_s hG hI _ _ _ _ (by omega) (by omega)) fun p hp => ⟨hp.1, Or.inr ⟨by omega, by omega⟩⟩
section
variable {A : xMem} {a1 a2 a3 : Int32} {Q : Int32 × xMem → Prop}
theorem ways58_r {rec40 : Int32 → Int32 → Int32 → xMem → Option (Int32 × xMem)} {l6 : Int32} (hA : TR A) (h2 : 0 ≤ a2.toInt ∧ a2.toInt ≤ 300) (h6 : l6.toInt < 2147483647) (hrec : ∀ (l4 l5 x : Int32) (m : xMem), x.toInt = l6.toInt + 1 → IR A m → vOk Q (rec40 l4 l5 x m)) : ∀ (fuel : Nat), ∀ (l4 l5 l7 : Int32) (m : xMem), (0 ≤ l7.toInt ∧ l7.toInt ≤ 10) → IR A m → 2147483648 - l7.toInt < (fuel : Int) → vOk Q (fX12_ways_58 291 a1 a2 a3 rec40 fuel l4 l5 l6 l7 m) := by
  have c0 : (0 : Int32).toInt = 0 := rfl
  have c1 : (1 : Int32).toInt = 1 := rfl
  have c2 : (2 : Int32).toInt = 2 := rfl
  have c10 : (10 : Int32).toInt = 10 := rfl
  have hb := hA.1.1.1.2.1
  have t6 := tiB l6
  have r156 : ∀ (l4 l5 : Int32) (m : xMem), IR A m → vOk Q (fX12_ways_156 291 a1 a2 a3 rec40 l4 l5 l6 m) := by
    intro l4 l5 m hI
    unfold fX12_ways_156
    refine vA (by omega) fun x e f => ?_
    exact hrec _ _ x m (by omega) hI
  intro fuel
  induction fuel with
  | zero =>
    intro l4 l5 l7 m hp hI hmu
    exfalso; omega
  | succ fuel ih =>
    intro l4 l5 l7 m hp hI hmu
    have r103 : ∀ m : xMem, l7.toInt < 10 → IR A m → vOk Q (fX12_ways_103 291 a1 a2 a3 rec40 (fX12_ways_58 291 a1 a2 a3 rec40 fuel) l4 l5 l6 l7 m) := by
      intro m h hI
      unfold fX12_ways_103
      refine vA (by omega) fun x e f => ?_
      exact ih _ _ _ _ (by omega) hI (by omega)
    rw [fX12_ways_58]
    refine vIn (by omega) (by omega) fun _ => ?_
    refine vAl (k292_2 hI) ?_
    refine vLe (fun g => ?_) (fun g => ?_)
    · refine vOk_bind (runs_r h2 hA.1 hI) fun m2 i2 => ?_
      refine vIn (by omega) (by omega) fun _ => ?_
      refine vAny fun x5 => ?_
      refine vIn (by omega) (by omega) fun _ => ?_
      refine vAny fun x7 => ?_
      refine vAny fun x9 => ?_
      refine vAlB putsBack_e ?_
      have i3 := back_IR hA i2
      refine vEq (fun _ => ?_) (fun _ => ?_)
      · unfold fX12_ways_148
        exact r156 _ _ _ i3
      · refine vLe (fun _ => ?_) (fun _ => ?_)
        · exact r156 _ _ _ i3
        · unfold fX12_ways_148
          exact r156 _ _ _ i3
    · refine vAny fun x13 => ?_
      refine vAny fun x14 => ?_
      refine vNe (fun _ => ?_) (fun _ => ?_)
      · exact r103 m (by omega) hI
      · refine vAny fun x16 => ?_
        refine vAny fun x17 => ?_
        refine vNe (fun _ => ?_) (fun _ => ?_)
        · unfold fX12_ways_98
          refine vBindM (fX12_turn_s hA.1 hI) fun v m3 i3 _ => ?_
          exact r103 m3 (by omega) i3
        · unfold fX12_ways_98
          refine vBindM (fX12_turn_s hA.1 hI) fun v m3 i3 _ => ?_
          exact r103 m3 (by omega) i3
theorem ways40_r (hA : TR A) (h1 : 0 < a1.toInt ∧ a1.toInt < 2147483647) (h2 : 0 ≤ a2.toInt ∧ a2.toInt ≤ 300) : ∀ (fuel : Nat), ∀ (l4 l5 l6 : Int32) (m : xMem), (0 ≤ l6.toInt ∧ l6.toInt ≤ a1.toInt + 1) → IR A m → 2147483648 - l6.toInt < (fuel : Int) → vOk (fun p : Int32 × xMem => IR A p.2) (fX12_ways_40 291 a1 a2 a3 fuel l4 l5 l6 m) := by
  have c0 : (0 : Int32).toInt = 0 := rfl
  have c1 : (1 : Int32).toInt = 1 := rfl
  intro fuel
  induction fuel with
  | zero =>
    intro l4 l5 l6 m hp hI hmu
    exfalso; omega
  | succ fuel ih =>
    intro l4 l5 l6 m hp hI hmu
    rw [fX12_ways_40]
    refine vLt (fun g => ?_) (fun g => ?_)
    · refine vNe (fun _ => ?_) (fun _ => ?_)
      · exact vOk_some hI
      · exact vOk_some hI
    · refine vAny fun x3 => ?_
      refine vAny fun x4 => ?_
      refine vNe (fun _ => ?_) (fun _ => ?_)
      · unfold fX12_ways_156
        refine vA (by omega) fun x e f => ?_
        exact ih _ _ x m (by omega) hI (by omega)
      · have cF := xFu
        refine ways58_r hA h2 (by omega) (fun l4 l5 x m hx hI => ?_) _ _ _ _ _ (by omega) hI (by omega)
        exact ih _ _ x m (by omega) hI (by omega)
theorem ways_r {R m : xMem} (hG : GR R) (hI : IR R m) : vOk (fun p : Int32 × xMem => TP R p.2) (fX12_ways 291 a1 a2 a3 m) := by
  have c0 : (0 : Int32).toInt = 0 := rfl
  have no : vOk (fun p : Int32 × xMem => TP R p.2) (fX12_ways_25 291 a1 a2 a3 m) := vOk_some (TP_self hG hI)
  unfold fX12_ways fX12_ways_0
  refine vBindP (areStairs_b hG hI) fun v _ hv => ?_
  dsimp only
  refine vEq (fun _ => no) (fun g => ?_)
  refine vBindP (fX12_isRun_s hG hI) fun w _ hw => ?_
  dsimp only
  refine vEq (fun _ => no) (fun g2 => ?_)
  refine vAlB (in_e _ _ _ _) ?_
  dsimp only
  refine vNe (fun _ => ?_) (fun _ => no)
  refine vAlB saves_e ?_
  have hA := TR_saves hG hI
  have cF := xFu
  refine vOk_mono (ways40_r hA (hv.resolve_left (by omega)) (by have := hw.2.resolve_left (by omega); omega) _ _ _ _ _ (by have := hv.resolve_left (by omega); omega) hA.2.1 (by omega)) fun p hp => TP_of hG hI hp
theorem standing29_r (hA : TR A) (h1 : 0 ≤ a1.toInt ∧ a1.toInt ≤ 9) (h2 : 0 ≤ a2.toInt ∧ a2.toInt ≤ 300) : ∀ (fuel : Nat), ∀ (l3 l4 : Int32) (m : xMem), (0 ≤ l4.toInt ∧ l4.toInt ≤ 2) → IR A m → 2147483648 - l4.toInt < (fuel : Int) → vOk (fun p : Int32 × xMem => IR A p.2) (fX12_standing_29 291 a1 a2 fuel l3 l4 m) := by
  have c0 : (0 : Int32).toInt = 0 := rfl
  have c1 : (1 : Int32).toInt = 1 := rfl
  have c2 : (2 : Int32).toInt = 2 := rfl
  have c8 : (8 : Int32).toInt = 8 := rfl
  have c11 : (11 : Int32).toInt = 11 := rfl
  intro fuel
  induction fuel with
  | zero =>
    intro l3 l4 m hp hI hmu
    exfalso; omega
  | succ fuel ih =>
    intro l3 l4 m hp hI hmu
    rw [fX12_standing_29]
    refine vLe (fun _ => vOk_some hI) (fun g => ?_)
    refine vOk_bind (fX12_tells_s hA.1 (by omega) hI) fun m2 i2 => ?_
    refine vOk_bind (runs_r h2 hA.1 i2) fun m3 i3 => ?_
    have r74 : ∀ s0 s1 : Int32, vOk (fun p : Int32 × xMem => IR A p.2) (fX12_standing_74 291 a1 a2 (fX12_standing_29 291 a1 a2 fuel) l4 s0 s1 m3) := by
      intro s0 s1
      unfold fX12_standing_74
      refine vAny fun x => ?_
      refine vAlB putsBack_e ?_
      refine vA (by omega) fun y e f => ?_
      exact ih _ _ _ (by omega) (back_IR hA i3) (by omega)
    refine vNe (fun _ => ?_) (fun _ => ?_)
    · refine vBindP (fX12_linkOf_s (GR_bumpN hA.1) (by omega) i3) fun v _ _ => ?_
      dsimp only
      refine vAny fun x => ?_
      exact r74 _ _
    · refine vBindP (fX12_linkOf_s (GR_bumpN hA.1) (by omega) i3) fun v _ _ => ?_
      exact r74 _ _
theorem standing_r {R m : xMem} (hG : GR R) (hI : IR R m) : vOk (fun p : Int32 × xMem => TP R p.2) (fX12_standing 291 a1 a2 m) := by
  have c0 : (0 : Int32).toInt = 0 := rfl
  have no : vOk (fun p : Int32 × xMem => TP R p.2) (fX12_standing_16 291 a1 a2 m) := vOk_some (TP_self hG hI)
  unfold fX12_standing fX12_standing_0
  refine vBindP (fX12_isStair_s hG hI) fun v _ hv => ?_
  dsimp only
  refine vEq (fun _ => no) (fun g => ?_)
  refine vBindP (fX12_isRun_s hG hI) fun w _ hw => ?_
  dsimp only
  refine vNe (fun _ => ?_) (fun _ => no)
  refine vAlB saves_e ?_
  have hA := TR_saves hG hI
  have cF := xFu
  refine vOk_mono (standing29_r hA (hv.2.resolve_left (by omega)) (by have := hw.2.resolve_left (by omega); omega) _ _ _ _ (by omega) hA.2.1 (by omega)) fun p hp => TP_of hG hI hp
theorem felt42_r (hA : TR A) : ∀ (fuel : Nat), ∀ (l3 l5 l6 : Int32) (k : Nat) (m : xMem), (0 ≤ l3.toInt ∧ l3.toInt ≤ 5) → (0 ≤ l6.toInt ∧ l6.toInt ≤ 2147483647) → IR (bumpN k A) m → 2147483648 - l6.toInt < (fuel : Int) → vOk (fun p : Int32 × xMem => IR A p.2) (fX12_felt_42 291 a1 a2 fuel l3 l5 l6 m) := by
  have c0 : (0 : Int32).toInt = 0 := rfl
  have c1 : (1 : Int32).toInt = 1 := rfl
  have ta2 := tiB a2
  intro fuel
  induction fuel with
  | zero =>
    intro l3 l5 l6 k m h3 hp hI hmu
    exfalso; omega
  | succ fuel ih =>
    intro l3 l5 l6 k m h3 hp hI hmu
    have r80 : vOk (fun p : Int32 × xMem => IR A p.2) (fX12_felt_80 291 a1 a2 l5 m) := by
      unfold fX12_felt_80
      refine vAlB putsBack_e ?_
      exact vOk_some (back_IR hA hI)
    rw [fX12_felt_42]
    refine vLe (fun _ => r80) (fun g => ?_)
    refine vNe (fun _ => r80) (fun g2 => ?_)
    refine vOk_bind (fX12_second_s (GR_bumpN hA.1) hI) fun m2 i2 => ?_
    have i2' : IR (bumpN (k + 1) A) m2 := by rw [bumpN_r]; exact i2
    refine vBindP (fX12_isOver_s (GR_bumpN hA.1) h3 i2') fun v _ hv => ?_
    dsimp only
    refine vEq (fun _ => ?_) (fun _ => ?_)
    · unfold fX12_felt_72
      refine vA (by omega) fun x e f => ?_
      exact ih _ _ _ (k + 1) _ h3 (by omega) i2' (by omega)
    · unfold fX12_felt_72
      refine vA (by omega) fun x e f => ?_
      exact ih _ _ _ (k + 1) _ h3 (by omega) i2' (by omega)
theorem felt_r {R m : xMem} (hG : GR R) (hI : IR R m) : vOk (fun p : Int32 × xMem => TP R p.2) (fX12_felt 291 a1 a2 m) := by
  have c0 : (0 : Int32).toInt = 0 := rfl
  have no : vOk (fun p : Int32 × xMem => TP R p.2) (fX12_felt_16 291 a1 a2 m) := vOk_some (TP_self hG hI)
  unfold fX12_felt fX12_felt_0
  refine vBindP (fX12_isStair_s hG hI) fun v _ hv => ?_
  dsimp only
  refine vEq (fun _ => no) (fun g => ?_)
  refine vBindP (fX12_isRun_s hG hI) fun w _ hw => ?_
  dsimp only
  refine vNe (fun _ => ?_) (fun _ => no)
  refine vAlB saves_e ?_
  have hA := TR_saves hG hI
  have cF := xFu
  refine vBindP (fX12_footOf_s hA.1 (hv.2.resolve_left (by omega)) hA.2.1) fun f _ hf => ?_
  dsimp only
  refine vBindM (fX12_turn_s hA.1 hA.2.1) fun v m3 i3 _ => ?_
  refine vOk_mono (felt42_r hA _ _ _ _ 0 _ hf (by omega) i3 (by omega)) fun p hp => TP_of hG hI hp
theorem least103_r {rec35 : Int32 → xMem → Option (Int32 × xMem)} {rec61 : Int32 → Int32 → Int32 → xMem → Option (Int32 × xMem)} {l4 l6 : Int32} {B : xMem} (hB : GR B) (h6 : l6.toInt < 2147483647) (hrec : ∀ (l5 x : Int32) (m : xMem), x.toInt = l6.toInt + 1 → IR B m → vOk Q (rec61 l4 l5 x m)) : ∀ (fuel : Nat), ∀ (l5 l7 : Int32) (m : xMem), (0 ≤ l7.toInt ∧ l7.toInt ≤ 6) → IR B m → 2147483648 - l7.toInt < (fuel : Int) → vOk Q (fX12_least_103 291 a1 a2 a3 rec35 rec61 fuel l4 l5 l6 l7 m) := by
  have c0 : (0 : Int32).toInt = 0 := rfl
  have c1 : (1 : Int32).toInt = 1 := rfl
  have hb := hB.1.1.1
  have t6 := tiB l6
  intro fuel
  induction fuel with
  | zero =>
    intro l5 l7 m hp hI hmu
    exfalso; omega
  | succ fuel ih =>
    intro l5 l7 m hp hI hmu
    have r133 : ∀ s0 : Int32, l7.toInt < 6 → vOk Q (fX12_least_133 291 a1 a2 a3 rec35 rec61 (fX12_least_103 291 a1 a2 a3 rec35 rec61 fuel) l4 l6 l7 s0 m) := by
      intro s0 h
      unfold fX12_least_133
      refine vA (by omega) fun x e f => ?_
      exact ih _ _ _ (by omega) hI (by omega)
    rw [fX12_least_103]
    refine vIn (by omega) (by omega) fun _ => ?_
    refine vAl (k292_1 hI) ?_
    refine vLe (fun g => ?_) (fun g => ?_)
    · refine vA (by omega) fun x e f => ?_
      exact hrec _ x m (by omega) hI
    · refine vEq (fun _ => ?_) (fun _ => ?_)
      · unfold fX12_least_132
        exact r133 _ (by omega)
      · refine vBindP (fX12_isOver_s hB (by omega) hI) fun v _ hv => ?_
        dsimp only
        refine vNe (fun _ => ?_) (fun _ => ?_)
        · unfold fX12_least_132
          exact r133 _ (by omega)
        · exact r133 _ (by omega)
theorem least61_r {rec35 : Int32 → xMem → Option (Int32 × xMem)} {l4 : Int32} (hA : TR A) (h1 : 0 ≤ a1.toInt ∧ a1.toInt ≤ 5) (h4 : 0 ≤ l4.toInt ∧ l4.toInt ≤ 60) (hrec : ∀ (x : Int32) (m : xMem), x.toInt = l4.toInt - 1 → IR A m → vOk Q (rec35 x m)) (hend : ∀ (v : Int32) (m : xMem), IR A m → Q (v, m)) : ∀ (fuel : Nat), ∀ (l5 l6 : Int32) (k : Nat) (m : xMem), (0 ≤ l6.toInt ∧ l6.toInt ≤ 2147483647) → IR (bumpN k A) m → 2147483648 - l6.toInt < (fuel : Int) → vOk Q (fX12_least_61 291 a1 a2 a3 rec35 fuel l4 l5 l6 m) := by
  have cm : (-1 : Int32).toInt = -1 := rfl
  have c0 : (0 : Int32).toInt = 0 := rfl
  have c1 : (1 : Int32).toInt = 1 := rfl
  have c2 : (2 : Int32).toInt = 2 := rfl
  have c4 : (4 : Int32).toInt = 4 := rfl
  have c12 : (12 : Int32).toInt = 12 := rfl
  have c20 : (20 : Int32).toInt = 20 := rfl
  have ta2 := tiB a2
  intro fuel
  induction fuel with
  | zero =>
    intro l5 l6 k m hp hI hmu
    exfalso; omega
  | succ fuel ih =>
    intro l5 l6 k m hp hI hmu
    have r147 : vOk Q (fX12_least_147 291 a1 a2 a3 rec35 l4 l5 m) := by
      unfold fX12_least_147
      refine vBindP (fX12_hallOf_s (GR_bumpN hA.1) (by omega) hI) fun v _ _ => ?_
      dsimp only
      refine vM (v := 4 * a1.toInt) (by rw [c4]) (by omega) fun x2 e2 f2 => ?_
      refine vA (by omega) fun x3 e3 f3 => ?_
      refine vA (by omega) fun x4 e4 f4 => ?_
      refine vIn (by omega) (by omega) fun _ => ?_
      refine vAny fun x5 => ?_
      refine vAny fun x7 => ?_
      refine vAlB putsBack_e ?_
      have i8 := back_IR hA hI
      refine vEq (fun _ => ?_) (fun _ => ?_)
      · refine vA (by omega) fun x e f => ?_
        exact hrec x _ (by omega) i8
      · refine vNe (fun _ => ?_) (fun _ => ?_)
        · exact vOk_some (hend _ _ i8)
        · exact vOk_some (hend _ _ i8)
    rw [fX12_least_61]
    refine vLe (fun _ => r147) (fun g => ?_)
    refine vEq (fun _ => r147) (fun g2 => ?_)
    refine vOk_bind (fX12_second_s (GR_bumpN hA.1) hI) fun m2 i2 => ?_
    have i2' : IR (bumpN (k + 1) A) m2 := by rw [bumpN_r]; exact i2
    have r98 : ∀ s0 : Int32, vOk Q (fX12_least_98 291 a1 a2 a3 rec35 (fX12_least_61 291 a1 a2 a3 rec35 fuel) l4 l6 s0 m2) := by
      intro s0
      unfold fX12_least_98
      have cF := xFu
      refine least103_r (GR_bumpN (e := k + 1) hA.1) (by omega) (fun l5 x m hx hI => ?_) _ _ _ _ (by omega) i2' (by omega)
      exact ih _ _ (k + 1) _ (by omega) hI (by omega)
    refine vIn (by omega) (by omega) fun _ => ?_
    refine vAny fun x4 => ?_
    refine vIn (by omega) (by omega) fun _ => ?_
    refine vAny fun x6 => ?_
    refine vNe (fun _ => ?_) (fun _ => ?_)
    · exact r98 _
    · exact r98 _
theorem least35_r (hA : TR A) (h1 : 0 ≤ a1.toInt ∧ a1.toInt ≤ 5) : ∀ (fuel : Nat), ∀ (l4 : Int32) (m : xMem), (-1 ≤ l4.toInt ∧ l4.toInt ≤ 60) → IR A m → l4.toInt + 2 < (fuel : Int) → vOk (fun p : Int32 × xMem => IR A p.2) (fX12_least_35 291 a1 a2 a3 fuel l4 m) := by
  have c0 : (0 : Int32).toInt = 0 := rfl
  have c1 : (1 : Int32).toInt = 1 := rfl
  have c4 : (4 : Int32).toInt = 4 := rfl
  have c20 : (20 : Int32).toInt = 20 := rfl
  intro fuel
  induction fuel with
  | zero =>
    intro l4 m hp hI hmu
    exfalso; omega
  | succ fuel ih =>
    intro l4 m hp hI hmu
    rw [fX12_least_35]
    refine vLt (fun _ => vOk_some hI) (fun g => ?_)
    refine vM (v := 4 * a1.toInt) (by rw [c4]) (by omega) fun x2 e2 f2 => ?_
    refine vA (by omega) fun x3 e3 f3 => ?_
    refine vA (by omega) fun x4 e4 f4 => ?_
    refine vIn (by omega) (by omega) fun _ => ?_
    refine vR fun m5 e5 => ?_
    have i5 : IR A m5 := by rw [e5]; exact IR_a hI (by omega)
    have cF := xFu
    refine least61_r hA h1 (by omega) (fun x m hx hI => ?_) (fun v m hI => hI) _ _ _ 0 _ (by omega) i5 (by omega)
    exact ih x m (by omega) hI (by omega)
theorem least_r {R m : xMem} (hG : GR R) (hI : IR R m) : vOk (fun p : Int32 × xMem => TP R p.2) (fX12_least 291 a1 a2 a3 m) := by
  have c0 : (0 : Int32).toInt = 0 := rfl
  have c60 : (60 : Int32).toInt = 60 := rfl
  have no : vOk (fun p : Int32 × xMem => TP R p.2) (fX12_least_25 291 a1 a2 a3 m) := vOk_some (TP_self hG hI)
  unfold fX12_least fX12_least_0
  refine vBindP (fX12_isHall_s hG hI) fun v _ hv => ?_
  dsimp only
  refine vEq (fun _ => no) (fun g => ?_)
  refine vBindP (fX12_isRun_s hG hI) fun w _ hw => ?_
  dsimp only
  refine vEq (fun _ => no) (fun g2 => ?_)
  refine vAlB (in_e _ _ _ _) ?_
  dsimp only
  refine vNe (fun _ => ?_) (fun _ => no)
  refine vAlB saves_e ?_
  have hA := TR_saves hG hI
  have cF := xFu
  refine vOk_mono (least35_r hA (hv.2.resolve_left (by omega)) _ _ _ (by omega) hA.2.1 (by omega)) fun p hp => TP_of hG hI hp
end
