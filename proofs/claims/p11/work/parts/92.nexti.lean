/-! the reference's next token, by the tape: signs, spaces -/
section
variable {B : Nat → Int} {L : Nat} {m0 : xMem}
theorem sgn_1 {c : Int} (h : ¬ (c = 35 ∨ c = 40 ∨ c = 41 ∨ c = 42 ∨ c = 43 ∨ c = 45 ∨ c = 47 ∨ c = 59 ∨ c = 60 ∨ c = 61 ∨ c = 62)) : sgn c = 1 := by
  unfold sgn
  rw [if_neg (by omega), if_neg (by omega), if_neg (by omega), if_neg (by omega), if_neg (by omega), if_neg (by omega), if_neg (by omega), if_neg (by omega), if_neg (by omega), if_neg (by omega), if_neg (by omega)]
theorem sgn_35 {c : Int} : (sgn c = 3 ↔ c = 60) ∧ (sgn c = 5 ↔ c = 62) := by
  by_cases h : c = 35 ∨ c = 40 ∨ c = 41 ∨ c = 42 ∨ c = 43 ∨ c = 45 ∨ c = 47 ∨ c = 59 ∨ c = 60 ∨ c = 61 ∨ c = 62
  · rcases h with rfl | rfl | rfl | rfl | rfl | rfl | rfl | rfl | rfl | rfl | rfl <;> decide
  · rw [sgn_1 h]
    exact ⟨⟨fun q => absurd q (by decide), fun q => by omega⟩, ⟨fun q => absurd q (by decide), fun q => by omega⟩⟩
/-- what a sign's code is, by what the reference tells -/
theorem sgn_T {c v : Int} (h : BR c v) : TKR (sgn c) 0 (if (59 ≤ v ∧ v ≤ 62) ∨ (40 ≤ v ∧ v ≤ 45) ∨ v = 47 ∨ v = 35 then 3 else 4) v := by
  unfold BR at h
  by_cases q : c = 35 ∨ c = 40 ∨ c = 41 ∨ c = 42 ∨ c = 43 ∨ c = 45 ∨ c = 47 ∨ c = 59 ∨ c = 60 ∨ c = 61 ∨ c = 62
  · have e : v = c := by omega
    rw [if_pos (by omega), e]
    refine Or.inr (Or.inr (Or.inr (Or.inl ⟨rfl, ?_⟩)))
    rcases q with rfl | rfl | rfl | rfl | rfl | rfl | rfl | rfl | rfl | rfl | rfl <;> decide
  · rw [sgn_1 q]
    refine Or.inr (Or.inl ⟨rfl, ?_⟩)
    by_cases z : v = 44
    · rw [if_pos (by omega)]; exact Or.inr ⟨rfl, z⟩
    · rw [if_neg (by omega)]; exact Or.inl rfl
theorem nq385 (hb : TB0 B L m0) {tok : Int32} {q : Nat} (hq : q < L) (ht : tok.toInt = (q : Int)) (hnl : isLt' (B q) = false) (hnd : isDg' (B q) = false) {m : xMem} {a x s : Int32} (h : NS m0 m tok a) (ha : a.toInt = (q : Int) + 1) (hs : m.1 291 15 = s) (hs3 : s.toInt = 3) (hx : m.1 291 16 = x) (hxx : x.toInt = B q) (h62 : B q = 60 ∨ B q = 62) (hk : TKR (sgn (B q)) 0 s.toInt x.toInt) : vOk (NQ B L m0 q) (fX12_next_385 291 x m) := by
  have c1 : (1 : Int32).toInt = 1 := rfl
  have c60 : (60 : Int32).toInt = 60 := rfl
  have c61 : (61 : Int32).toInt = 61 := rfl
  obtain ⟨h12, hL, hB⟩ := hb
  have eV : tkV B L q = 0 := by unfold tkV; rw [if_neg (by rw [hnl]; decide), if_neg (by rw [hnd]; decide)]
  have stop : ¬ bAt B L (q + 1) = 61 → vOk (NQ B L m0 q) (fX12_next_439 291 m) := by
    intro z
    have n61 : ¬ ((sgn (B q) = 3 ∨ sgn (B q) = 5) ∧ bAt B L (q + 1) = 61) := fun w => z w.2
    unfold fX12_next_439
    refine vOk_some ⟨h.1, by rw [h.2.2]; exact ht, ?_, ?_⟩
    · rw [h.2.1, if_pos hq]
      unfold tkE
      rw [if_neg (by rw [hnl]; decide), if_neg (by rw [hnd]; decide), if_neg n61]
      omega
    · rw [if_pos hq, if_pos hq, eV, hs, hx]
      unfold tkK
      rw [if_neg (by rw [hnl]; decide), if_neg (by rw [hnd]; decide), if_neg n61]
      exact hk
  have r426 : bAt B L (q + 1) = 61 → q + 1 < L → ∀ (s1 : Int32), ((B q = 60 ∧ s1.toInt = 300) ∨ (B q = 62 ∧ s1.toInt = 301)) → vOk (NQ B L m0 q) (fX12_next_426 291 291 s1 m) := by
    intro z zl s1 y
    have y61 : (sgn (B q) = 3 ∨ sgn (B q) = 5) ∧ bAt B L (q + 1) = 61 := ⟨by have := sgn_35 (c := B q); omega, z⟩
    unfold fX12_next_426 fX12_next_439
    refine vR fun m1 e1 => ?_
    have h1 : NS m0 m1 tok a := by rw [e1]; exact NS_o h (by omega)
    refine vAl h1.2.1.symm ?_
    refine vA (by omega) fun x3 e3 f3 => ?_
    refine vR fun m4 e4 => ?_
    have h4 : NS m0 m4 tok x3 := by rw [e4]; exact NS_at h1
    refine vOk_some ⟨h4.1, by rw [h4.2.2]; exact ht, ?_, ?_⟩
    · rw [h4.2.1, if_pos hq]
      unfold tkE
      rw [if_neg (by rw [hnl]; decide), if_neg (by rw [hnd]; decide), if_pos y61]
      omega
    · rw [if_pos hq, if_pos hq, eV, show m4.1 291 15 = s by rw [e4, ← xP_sl (by omega), e1, ← xP_sl (by omega)]; exact hs, show m4.1 291 16 = s1 by rw [e4, ← xP_sl (by omega), e1]; exact xP_eq.symm]
      unfold tkK
      rw [if_neg (by rw [hnl]; decide), if_neg (by rw [hnd]; decide), if_pos y61]
      have := sgn_35 (c := B q)
      refine Or.inr (Or.inr (Or.inr (Or.inl ⟨hs3, ?_⟩)))
      rcases y with ⟨y1, y2⟩ | ⟨y1, y2⟩
      · exact Or.inr (Or.inl ⟨by omega, y2⟩)
      · exact Or.inr (Or.inr (Or.inr (Or.inl ⟨by omega, y2⟩)))
  unfold fX12_next_385
  refine vAl h.2.1.symm ?_
  refine vAl h.L ?_
  refine vLe (fun g => stop (by rw [bAt_out (by omega)]; decide)) (fun g => ?_)
  refine vAl h.2.1.symm ?_
  refine vIn (by omega) (by omega) fun _ => ?_
  rw [wN (x := a) (n := q + 1) (by omega)]
  refine vAl (x := m0.1 295 (q + 1)) (h.tp _).symm ?_
  have br := hB (q + 1) (by omega)
  unfold BR at br
  refine vNe (fun g2 => stop (by rw [bAt_in (by omega)]; omega)) (fun g2 => ?_)
  have z61 : bAt B L (q + 1) = 61 := by rw [bAt_in (by omega)]; omega
  refine vNe (fun g3 => r426 z61 (by omega) _ (Or.inr ⟨by omega, rfl⟩)) (fun g3 => r426 z61 (by omega) _ (Or.inl ⟨by omega, rfl⟩))
theorem nq370 (hb : TB0 B L m0) {tok : Int32} {q : Nat} (hq : q < L) (ht : tok.toInt = (q : Int)) (hnl : isLt' (B q) = false) (hnd : isDg' (B q) = false) {m : xMem} {a x s : Int32} (h : NS m0 m tok a) (ha : a.toInt = (q : Int) + 1) (hx : m.1 291 16 = x) (hxx : BR (B q) x.toInt) (hs : s.toInt = if (59 ≤ x.toInt ∧ x.toInt ≤ 62) ∨ (40 ≤ x.toInt ∧ x.toInt ≤ 45) ∨ x.toInt = 47 ∨ x.toInt = 35 then 3 else 4) : vOk (NQ B L m0 q) (fX12_next_370 291 x 291 s m) := by
  have c60 : (60 : Int32).toInt = 60 := rfl
  have c62 : (62 : Int32).toInt = 62 := rfl
  have hk := sgn_T hxx
  rw [← hs] at hk
  have eV : tkV B L q = 0 := by unfold tkV; rw [if_neg (by rw [hnl]; decide), if_neg (by rw [hnd]; decide)]
  have bq : BR (B q) x.toInt := hxx
  unfold BR at bq
  unfold fX12_next_370
  refine vR fun m1 e1 => ?_
  have h1 : NS m0 m1 tok a := by rw [e1]; exact NS_o h (by omega)
  have s1 : m1.1 291 15 = s := by rw [e1]; exact xP_eq.symm
  have x1 : m1.1 291 16 = x := by rw [e1]; exact (xP_sl (by omega)).symm.trans hx
  refine vEq (fun g => ?_) (fun g => ?_)
  · exact nq385 hb hq ht hnl hnd h1 ha s1 (by rw [hs, if_pos (by omega)]) x1 (by omega) (Or.inl (by omega)) hk
  · refine vNe (fun g2 => ?_) (fun g2 => ?_)
    · have n61 : ¬ ((sgn (B q) = 3 ∨ sgn (B q) = 5) ∧ bAt B L (q + 1) = 61) := fun w => by
        have := sgn_35 (c := B q)
        have := w.1
        omega
      unfold fX12_next_439
      refine vOk_some ⟨h1.1, by rw [h1.2.2]; exact ht, ?_, ?_⟩
      · rw [h1.2.1, if_pos hq]
        unfold tkE
        rw [if_neg (by rw [hnl]; decide), if_neg (by rw [hnd]; decide), if_neg n61]
        omega
      · rw [if_pos hq, if_pos hq, eV, s1, x1]
        unfold tkK
        rw [if_neg (by rw [hnl]; decide), if_neg (by rw [hnd]; decide), if_neg n61]
        exact hk
    · exact nq385 hb hq ht hnl hnd h1 ha s1 (by rw [hs, if_pos (by omega)]) x1 (by omega) (Or.inr (by omega)) hk
theorem nq52 (hb : TB0 B L m0) {m : xMem} {a : Int32} {q : Nat} (hF : NF m0 m) (ha : m.1 291 13 = a) (haq : a.toInt = (q : Int)) (hq : q ≤ L) : vOk (NQ B L m0 q) (fX12_next_52 291 m) := by
  have c0 : (0 : Int32).toInt = 0 := rfl
  have c1 : (1 : Int32).toInt = 1 := rfl
  have c35 : (35 : Int32).toInt = 35 := rfl
  have c40 : (40 : Int32).toInt = 40 := rfl
  have c45 : (45 : Int32).toInt = 45 := rfl
  have c47 : (47 : Int32).toInt = 47 := rfl
  have c48 : (48 : Int32).toInt = 48 := rfl
  have c57 : (57 : Int32).toInt = 57 := rfl
  have c59 : (59 : Int32).toInt = 59 := rfl
  have c62 : (62 : Int32).toInt = 62 := rfl
  have cF := xFu
  have hb' := hb
  obtain ⟨h12, hL, hB⟩ := hb'
  unfold fX12_next_52
  refine vAl ha.symm ?_
  refine vR fun m2 e2 => ?_
  have h2 : NS m0 m2 a a := by rw [e2]; exact ⟨NF_put hF (by omega), (xP_sl (by omega)).symm.trans ha, xP_eq.symm⟩
  refine vAl h2.2.1.symm ?_
  refine vAl h2.L ?_
  refine vNe (fun g => ?_) (fun g => ?_)
  · have hlt : q < L := by omega
    refine vAl h2.2.1.symm ?_
    refine vIn (by omega) (by omega) fun _ => ?_
    rw [wN haq]
    refine vAl (x := m0.1 295 q) (h2.tp _).symm ?_
    have br := hB q hlt
    refine vAlB (isLetter_e _ _) ?_
    dsimp only
    rcases BR_lt br rfl with ⟨z1, z2, z3, z4⟩ | ⟨z1, z2⟩
    · rw [z1, if_neg (show ¬ (1 : Int32) = 0 by decide)]
      exact nq99 hb hlt haq z2 xFuel 0 0 a m2 0 h2 haq (by omega) rfl (fun j hj => absurd hj (Nat.not_lt_zero j)) (fun _ => rfl) (fun y => absurd y (by decide)) (by omega)
    · rw [z1, if_pos rfl]
      refine vAlB (in_e _ _ _ _) ?_
      dsimp only
      have br' := br
      unfold BR at br'
      by_cases g3 : 48 ≤ (m0.1 295 q).toInt ∧ (m0.1 295 q).toInt ≤ 57
      · rw [wi_1 (by omega), if_neg (show ¬ (1 : Int32) = 0 by decide)]
        refine vR fun m3 e3 => ?_
        have h3 : NS m0 m3 a a := by rw [e3]; exact NS_o h2 (by omega)
        refine vR fun m4 e4 => ?_
        have h4 : NS m0 m4 a a := by rw [e4]; exact NS_o h3 (by omega)
        exact nq232 hb hlt haq z2 (decide_eq_true (by omega)) xFuel a 0 m4 0 h4 (by rw [e4, ← xP_sl (by omega), e3]; exact xP_eq.symm) (by rw [e4]; exact xP_eq.symm) haq (by omega) (by decide) (by rw [show min 10000 (Int32.toInt 0) = 0 from rfl]; rfl) (fun y => absurd y (by decide)) (by omega)
      · rw [wi_0 (by omega), if_pos rfl]
        have hnd : isDg' (B q) = false := decide_eq_false (by omega)
        refine vAl h2.2.1.symm ?_
        refine vA (by omega) fun x3 e3 f3 => ?_
        refine vR fun m4 e4 => ?_
        have h4 : NS m0 m4 a x3 := by rw [e4]; exact NS_at h2
        refine vR fun m5 e5 => ?_
        have h5 : NS m0 m5 a x3 := by rw [e5]; exact NS_o h4 (by omega)
        have x5 : m5.1 291 16 = m0.1 295 q := by rw [e5]; exact xP_eq.symm
        have r : ∀ s : Int32, s.toInt = (if (59 ≤ (m0.1 295 q).toInt ∧ (m0.1 295 q).toInt ≤ 62) ∨ (40 ≤ (m0.1 295 q).toInt ∧ (m0.1 295 q).toInt ≤ 45) ∨ (m0.1 295 q).toInt = 47 ∨ (m0.1 295 q).toInt = 35 then 3 else 4) → vOk (NQ B L m0 q) (fX12_next_370 291 (m0.1 295 q) 291 s m5) := fun s hs => nq370 hb hlt haq z2 hnd h5 (by omega) x5 br hs
        refine vAlB (in_e _ _ _ _) ?_
        dsimp only
        by_cases g4 : 59 ≤ (m0.1 295 q).toInt ∧ (m0.1 295 q).toInt ≤ 62
        · rw [wi_1 (by omega), if_pos (show ¬ (1 : Int32) = 0 by decide)]
          unfold fX12_next_365
          exact r 3 (by rw [if_pos (Or.inl g4)]; rfl)
        · rw [wi_0 (by omega), if_neg (not_not_intro rfl)]
          refine vAlB (in_e _ _ _ _) ?_
          dsimp only
          by_cases g5 : 40 ≤ (m0.1 295 q).toInt ∧ (m0.1 295 q).toInt ≤ 45
          · rw [wi_1 (by omega), if_pos (show ¬ (1 : Int32) = 0 by decide)]
            unfold fX12_next_365
            exact r 3 (by rw [if_pos (Or.inr (Or.inl g5))]; rfl)
          · rw [wi_0 (by omega), if_neg (not_not_intro rfl)]
            refine vEq (fun g6 => ?_) (fun g6 => ?_)
            · unfold fX12_next_365
              exact r 3 (by rw [if_pos (Or.inr (Or.inr (Or.inl (by omega))))]; rfl)
            · refine vNe (fun g7 => ?_) (fun g7 => ?_)
              · exact r 4 (by rw [if_neg (by omega)]; rfl)
              · unfold fX12_next_365
                exact r 3 (by rw [if_pos (Or.inr (Or.inr (Or.inr (by omega))))]; rfl)
  · have hqL : q = L := by omega
    refine vR fun m3 e3 => ?_
    have h3 : NS m0 m3 a a := by rw [e3]; exact NS_o h2 (by omega)
    refine vOk_some ⟨h3.1, by rw [h3.2.2]; exact haq, by rw [h3.2.1, if_neg (by omega)]; omega, ?_⟩
    rw [if_neg (by omega), if_neg (by omega), show m3.1 291 15 = 0 by rw [e3]; exact xP_eq.symm]
    exact Or.inl ⟨rfl, rfl⟩
theorem nq0 (hb : TB0 B L m0) {q : Nat} : ∀ (fuel : Nat) (a : Int32) (m : xMem) (n : Nat), NF m0 m → m.1 291 13 = a → a.toInt = (n : Int) → n ≤ L → run B L isSp' n = q → L - n < fuel → vOk (NQ B L m0 q) (fX12_next_0 291 fuel m) := by
  have c1 : (1 : Int32).toInt = 1 := rfl
  have c10 : (10 : Int32).toInt = 10 := rfl
  have c32 : (32 : Int32).toInt = 32 := rfl
  have hb' := hb
  obtain ⟨h12, hL, hB⟩ := hb'
  intro fuel
  induction fuel with
  | zero => intro a m n _ _ _ _ _ hmu; exact absurd hmu (Nat.not_lt_zero _)
  | succ fuel ih =>
    intro a m n h ha hn hnL hr hmu
    have hLm : m0.1 291 12 = m.1 291 12 := (h.2 291 12 (by omega)).symm
    have stop : ¬ (n < L ∧ isSp' (B n) = true) → vOk (NQ B L m0 q) (fX12_next_52 291 m) := by
      intro z
      refine nq52 hb h ha (hn.trans ?_) ?_
      · rw [← hr, run_0 z]
      · rw [← hr, run_0 z]; exact hnL
    have r39 : n < L → isSp' (B n) = true → vOk (NQ B L m0 q) (fX12_next_39 291 (fX12_next_0 291 fuel) m) := by
      intro y1 y2
      unfold fX12_next_39
      refine vAl ha.symm ?_
      refine vA (by omega) fun x2 e2 f2 => ?_
      refine vR fun m3 e3 => ?_
      exact ih x2 m3 (n + 1) (by rw [e3]; exact NF_put h (by omega)) (by rw [e3]; exact xP_eq.symm) (by omega) (by omega) (by rw [← hr, run_s (a := n) y1 y2]) (by omega)
    rw [fX12_next_0]
    refine vAl ha.symm ?_
    refine vAl hLm ?_
    refine vLe (fun g => stop (fun z => by omega)) (fun g => ?_)
    refine vAl ha.symm ?_
    refine vIn (by omega) (by omega) fun _ => ?_
    rw [wN hn]
    have tp : m.1 295 n = m0.1 295 n := h.2 295 n (by omega)
    refine vAl (x := m0.1 295 n) tp.symm ?_
    have br := hB n (by omega)
    unfold BR at br
    refine vEq (fun g2 => r39 (by omega) (decide_eq_true (by omega))) (fun g2 => ?_)
    refine vAl ha.symm ?_
    refine vIn (by omega) (by omega) fun _ => ?_
    rw [wN hn]
    refine vAl (x := m0.1 295 n) tp.symm ?_
    refine vNe (fun g3 => ?_) (fun g3 => r39 (by omega) (decide_eq_true (by omega)))
    refine stop (fun z => ?_)
    have z2 : B n = 32 ∨ B n = 10 := of_decide_eq_true z.2
    omega
theorem nextQ (hb : TB0 B L m0) {n : Nat} (hn : (m0.1 291 13).toInt = (n : Int)) (hnL : n ≤ L) : vOk (NQ B L m0 (run B L isSp' n)) (fX12_next 291 m0) := by
  have cF := xFu
  have hL := hb.2.1
  unfold fX12_next
  exact nq0 hb xFuel _ m0 n ⟨rfl, fun _ _ _ => rfl⟩ rfl hn hnL rfl (by omega)
/-- the token ahead is the i-th -/
def TI (B : Nat → Int) (L : Nat) (m : xMem) (i : Nat) : Prop := (m.1 291 14).toInt = (pos B L i : Int) ∧ (m.1 291 13).toInt = ((if pos B L i < L then tkE B L (pos B L i) else L : Nat) : Int) ∧ TKR (KF' B L i) (VF' B L i) (m.1 291 15).toInt (m.1 291 16).toInt
theorem TI_NQ {i : Nat} {m1 : xMem} (h : NQ B L m0 (pos B L i) m1) : TI B L m1 i := ⟨h.2.1, h.2.2.1, h.2.2.2⟩
/-- the next token behind the i-th -/
theorem next_i {i : Nat} (hb : TB0 B L m0) (h : TI B L m0 i) : vOk (fun m1 => NF m0 m1 ∧ TI B L m1 (i + 1)) (fX12_next 291 m0) := by
  have q := nextQ hb h.2.1 (by
    by_cases z : pos B L i < L
    · rw [if_pos z]; exact (tkE_gt z).2
    · rw [if_neg z]; exact Nat.le_refl _)
  refine vOk_mono q fun m1 z => ⟨z.1, TI_NQ (m0 := m0) ?_⟩
  have e : run B L isSp' (if pos B L i < L then tkE B L (pos B L i) else L) = pos B L (i + 1) := by
    show _ = (if pos B L i < L then run B L isSp' (tkE B L (pos B L i)) else L)
    by_cases y : pos B L i < L
    · rw [if_pos y, if_pos y]
    · rw [if_neg y, if_neg y, run_0 (fun w => by omega)]
  rw [e] at z
  exact z
end
