/-! a stair alone: how it is built, its route -/
theorem fill_at {m : xMem} {a n j : Nat} {x : Int32} (h : j < n) : (xFillM m a n x).1 a j = x := if_pos ⟨rfl, h⟩
theorem build2 (r : Nat) (a : Int32) (m : xMem) : ∃ m1, fX2_build r a m = some m1 ∧ m1.1 r 4 = 0 ∧ (∀ k, k < 12 → m1.1 (r + 1) k = 0) ∧ ∀ b, b ≠ r → b ≠ r + 1 → b ≠ r + 2 → m1.1 b = m.1 b := by
  unfold fX2_build fX2_build_0 xLet fJ7_fill_53178
  refine ⟨_, rfl, ?_, ?_, ?_⟩
  · rw [fill_row (by omega), fill_row (by omega), put_nk (by decide), put_nk (by decide), put_nk (by decide), put_nk (by decide), put_at]
  · intro k hk
    rw [fill_row (by omega), fill_at hk]
  · intro b h0 h1 h2
    rw [fill_row h2, fill_row h1, put_row h0, put_row h0, put_row h0, put_row h0, put_row h0, put_row h0, put_row h0]
theorem buildL (z : Int32) (m : xMem) : ∃ m1, fX3_build 200 0 0 1 z 0 m = some m1 ∧ (m1.1 200 1 = 0 ∧ m1.1 200 2 = 0 ∧ m1.1 200 3 = 1 ∧ m1.1 200 4 = z ∧ m1.1 200 6 = 1 ∧ m1.1 200 7 = 1) ∧ (m1.1 200 9 = 0 ∧ m1.1 200 10 = 0 ∧ m1.1 200 11 = 0 ∧ m1.1 200 12 = 1 ∧ m1.1 200 13 = 0) ∧ (∀ j, j < 80 → m1.1 201 j = -1) ∧ ∀ b, b ≠ 200 → b ≠ 201 → m1.1 b = m.1 b := by
  rw [fX3_build, fX3_build_0, xLet_e, xLet_e, xLet_e, xLet_e, xLet_e, if_pos (by decide), fX3_build_38, xLet_e, put_at, xLet_e, xLet_e, xLet_e, xLet_e, xLet_e, xLet_e, xLet_e, xLet_e, show ∀ X, fJ7_fill_53178 (200 + 1) 80 (-1) X = some (xFillM X 201 80 (-1)) from fun _ => rfl, bind_e]
  refine ⟨_, rfl, ⟨?_, ?_, ?_, ?_, ?_, ?_⟩, ⟨?_, ?_, ?_, ?_, ?_⟩, ?_, ?_⟩
  · rw [fill_row (by decide), put_nk (by decide), put_nk (by decide), put_nk (by decide), put_nk (by decide), put_nk (by decide), put_nk (by decide), put_nk (by decide), put_nk (by decide), put_nk (by decide), put_nk (by decide), put_nk (by decide), put_nk (by decide), put_at]
  · rw [fill_row (by decide), put_nk (by decide), put_nk (by decide), put_nk (by decide), put_nk (by decide), put_nk (by decide), put_nk (by decide), put_nk (by decide), put_nk (by decide), put_nk (by decide), put_nk (by decide), put_nk (by decide), put_at]
  · rw [fill_row (by decide), put_nk (by decide), put_nk (by decide), put_nk (by decide), put_nk (by decide), put_nk (by decide), put_nk (by decide), put_nk (by decide), put_nk (by decide), put_nk (by decide), put_nk (by decide), put_at]
  · rw [fill_row (by decide), put_nk (by decide), put_nk (by decide), put_nk (by decide), put_nk (by decide), put_nk (by decide), put_nk (by decide), put_nk (by decide), put_nk (by decide), put_nk (by decide), put_at]
  · rw [fill_row (by decide), put_nk (by decide), put_nk (by decide), put_nk (by decide), put_nk (by decide), put_nk (by decide), put_nk (by decide), put_nk (by decide), put_at]
  · rw [fill_row (by decide), put_nk (by decide), put_nk (by decide), put_nk (by decide), put_nk (by decide), put_nk (by decide), put_nk (by decide), put_at]
  · rw [fill_row (by decide), put_nk (by decide), put_nk (by decide), put_nk (by decide), put_nk (by decide), put_at]
  · rw [fill_row (by decide), put_nk (by decide), put_nk (by decide), put_nk (by decide), put_at]
  · rw [fill_row (by decide), put_nk (by decide), put_nk (by decide), put_at]
  · rw [fill_row (by decide), put_nk (by decide), put_at]
  · rw [fill_row (by decide), put_at]
  · intro j hj
    exact fill_at hj
  · intro b h0 h1
    rw [fill_row h1, put_row h0, put_row h0, put_row h0, put_row h0, put_row h0, put_row h0, put_row h0, put_row h0, put_row h0, put_row h0, put_row h0, put_row h0, put_row h0]
/-- what the search for routes looks at -/
def AlF (L : Nat) (m : xMem) : Prop := m.1 167 8 = 1 ∧ m.1 200 1 = 0 ∧ m.1 200 2 = 0 ∧ m.1 200 3 = 1 ∧ m.1 200 4 = Int32.ofNat L ∧ m.1 200 6 = 1 ∧ m.1 200 7 = 1 ∧ m.1 200 12 = 1 ∧ m.1 200 13 = 0
theorem AlF_of {L : Nat} {m0 m : xMem} (h : AlF L m0) (hS : Sme m0 m) : AlF L m := by
  unfold AlF
  rw [hS 167 (by omega), hS 200 (by omega)]
  exact h
def DD (x : Int32) (m : xMem) : Prop := ∀ j, j < 36 → m.1 253 j = if j = 1 then x else 1000000
theorem t36 : ∀ j, j < 6 → ∀ i, i < 6 → ¬ Int32.ofNat j * 6 + Int32.ofNat i < 0 ∧ ¬ 36 ≤ Int32.ofNat j * 6 + Int32.ofNat i ∧ xIn (Int32.ofNat j * 6 + Int32.ofNat i) 36 = true ∧ (Int32.ofNat j * 6 + Int32.ofNat i).toNatClampNeg = 6 * j + i := by decide
theorem between_at {i j : Nat} (hj : j < 6) (hi : i < 6) {m : xMem} : fX8_between 251 (Int32.ofNat j) (Int32.ofNat i) m = some (m.1 253 (6 * j + i), m) := by
  obtain ⟨h1, h2, h3, h4⟩ := t36 j hj i hi
  rw [fX8_between, fX8_between_0, xLet_e, xLet_e, if_neg h1, if_neg h2, h3, cond_e, h4, xLet_e, fX8_between_31]
theorem shorten_no {j k : Nat} (hj : j < 6) (hk : k < 6) {m : xMem} {z : Int32} (h : m.1 253 (6 * j + k) ≤ z) : fX8_shorten 251 (Int32.ofNat j) (Int32.ofNat k) z m = some m := by
  obtain ⟨h1, h2, h3, h4⟩ := t36 j hj k hk
  rw [fX8_shorten, fX8_shorten_0, xLet_e, xLet_e, if_neg h1, if_neg h2, h3, cond_e, h4, xLet_e, show 251 + 2 = 253 from rfl, if_pos h, fX8_shorten_42]
def Ineq (x : Int32) : Prop := (x ≤ 1000000 + x ∧ x ≤ x + 1000000 ∧ x ≤ 1000000 + 1000000) ∧ (1000000 : Int32) ≤ 1000000 + x ∧ (1000000 : Int32) ≤ x + 1000000
theorem ineq_L : ∀ L, L ≤ 40 → Ineq (Int32.ofNat L) := by
  have h : ∀ L, L < 41 → (Int32.ofNat L ≤ 1000000 + Int32.ofNat L ∧ Int32.ofNat L ≤ Int32.ofNat L + 1000000 ∧ Int32.ofNat L ≤ 1000000 + 1000000) ∧ (1000000 : Int32) ≤ 1000000 + Int32.ofNat L ∧ (1000000 : Int32) ≤ Int32.ofNat L + 1000000 := by decide
  exact fun L hL => h L (by omega)
theorem ineq_F : Ineq 1000000 := by
  unfold Ineq
  decide
theorem floyd_no {x : Int32} (hx : Ineq x) {i j k : Nat} (hi : i < 6) (hj : j < 6) (hk : k < 6) {m : xMem} (h : DD x m) : m.1 253 (6 * j + k) ≤ m.1 253 (6 * j + i) + m.1 253 (6 * i + k) := by
  obtain ⟨⟨a, b, c⟩, e, f⟩ := hx
  rw [h _ (by omega), h _ (by omega), h _ (by omega)]
  by_cases p : 6 * j + i = 1
  · rw [if_pos p, if_neg (show ¬ 6 * i + k = 1 by omega)]
    by_cases r : 6 * j + k = 1
    · rw [if_pos r]; exact b
    · rw [if_neg r]; exact f
  · rw [if_neg p]
    by_cases q : 6 * i + k = 1
    · rw [if_pos q]
      by_cases r : 6 * j + k = 1
      · rw [if_pos r]; exact a
      · rw [if_neg r]; exact e
    · rw [if_neg q]
      by_cases r : 6 * j + k = 1
      · rw [if_pos r]; exact c
      · rw [if_neg r]; decide
theorem takesA {L : Nat} {m : xMem} (h : AlF L m) : fX3_takesNow 200 m = some (1, m) := by
  obtain ⟨s2, s3, s4, s5, s6, s7, s8, s10, s11⟩ := h
  rw [fX3_takesNow, fX3_takesNow_0, s10, xLet_e, if_neg (by decide), s11, xLet_e, if_neg (by decide), s8, xLet_e, s7, xLet_e, if_neg (by decide), fX3_takesNow_30]
  rfl
theorem leads0 {L : Nat} {m : xMem} (h : AlF L m) {a : Int32} : fX8_leads 251 200 0 a m = some (if a = 0 then 1 else 0, m) := by
  have ht := takesA h
  obtain ⟨s2, s3, s4, s5, s6, s7, s8, s10, s11⟩ := h
  rw [fX8_leads, fX8_leads_0, s3, xLet_e, if_pos (by decide), if_neg (by decide), ht, bind_e, if_neg (show ¬ (1 : Int32) = 0 by decide), foot_ok s7 s4, bind_e]
  by_cases q : a = 0
  · subst q
    rw [if_neg (fun f => f rfl), fX8_leads_43, if_pos rfl]
    rfl
  · rw [if_pos (fun f => q f.symm), fX8_leads_42, fX8_leads_43, if_neg q]
    rfl
theorem leads1 {L : Nat} {m : xMem} (h : AlF L m) {a : Int32} : fX8_leads 251 200 1 a m = some (0, m) := by
  obtain ⟨s2, s3, s4, s5, s6, s7, s8, s10, s11⟩ := h
  rw [fX8_leads, fX8_leads_0, s3, xLet_e, if_pos (by decide), if_pos (by decide), fX8_leads_42, fX8_leads_43]
  rfl
theorem secondsA {L : Nat} {m : xMem} (h : AlF L m) : fX3_seconds 200 m = some (Int32.ofNat L, m) := by
  obtain ⟨s2, s3, s4, s5, s6, s7, s8, s10, s11⟩ := h
  rw [fX3_seconds, fX3_seconds_0, s3, xLet_e, if_pos (by decide), xLet_e, if_pos (by decide), s6, xLet_e, fX3_seconds_34]
/-- the links of the kind 0: the one stair -/
theorem links0 {L : Nat} (hL : L ≤ 40) {m0 m : xMem} (h : AlF L m0) (hS : Sme m0 m) (hD : DD 1000000 m) : ∃ m1, fX8_findFor_11 251 167 0 xFuel 0 m = fX8_findFor_107 251 167 0 m1 ∧ Sme m0 m1 ∧ DD (Int32.ofNat L) m1 := by
  obtain ⟨n, hn⟩ := fuE 1 (by omega)
  have hm := AlF_of h hS
  have x0 : xIn (0 : Int32) 10 = true := by decide
  have far : ¬ (1000000 : Int32) ≤ Int32.ofNat L := by
    rw [show (1000000 : Int32) = Int32.ofNat 1000000 from rfl, leN (by omega) (by omega)]
    omega
  have sh : fX8_shorten 251 0 1 (Int32.ofNat L) m = some (xPut m 253 1 (Int32.ofNat L)) := by
    rw [fX8_shorten, fX8_shorten_0, xLet_e, xLet_e, if_neg (by decide), if_neg (by decide), show xIn ((0 : Int32) * 6 + 1) 36 = true by decide, cond_e, show ((0 : Int32) * 6 + 1).toNatClampNeg = 1 by decide, show 251 + 2 = 253 from rfl, show m.1 253 1 = 1000000 from (hD 1 (by omega)).trans (if_pos rfl), xLet_e, if_neg far, cond_e, xLet_e, fX8_shorten_42]
  have hS1 : Sme m0 (xPut m 253 1 (Int32.ofNat L)) := fun b hb => by rw [put_row (by omega)]; exact hS b hb
  have hm1 := AlF_of h hS1
  refine ⟨xPut m 253 1 (Int32.ofNat L), ?_, hS1, ?_⟩
  · obtain ⟨s2, s3, s4, s5, s6, s7, s8, s10, s11⟩ := id hm
    obtain ⟨p2, p3, p4, p5, p6, p7, p8, p10, p11⟩ := id hm1
    rw [hn, fX8_findFor_11, s2, xLet_e, if_neg (by decide), if_neg (by decide), x0, cond_e, cl0, xLet_e, show 167 + 33 + 2 * 0 = 200 from rfl, s4, xLet_e, leads0 hm, bind_e, if_pos rfl, if_neg (show ¬ (1 : Int32) = 0 by decide), s4, xLet_e, s5, xLet_e, secondsA hm, bind_e, sh, bind_e, fX8_findFor_67, p5, xLet_e, leads0 hm1, bind_e, if_neg (show ¬ (1 : Int32) = 0 by decide), if_pos rfl, fX8_findFor_101, xLet_e, fX8_findFor_11, p2, xLet_e, if_pos (by decide)]
  · intro j hj
    rw [put_upd]
    by_cases q : j = 1
    · subst q
      rw [upd_eq, if_pos rfl]
    · rw [upd_ne q, hD j hj, if_neg q, if_neg q]
theorem links1 {L : Nat} {m0 m : xMem} (h : AlF L m0) (hS : Sme m0 m) : fX8_findFor_11 251 167 1 xFuel 0 m = fX8_findFor_107 251 167 1 m := by
  obtain ⟨n, hn⟩ := fuE 1 (by omega)
  have hm := AlF_of h hS
  have x0 : xIn (0 : Int32) 10 = true := by decide
  obtain ⟨s2, s3, s4, s5, s6, s7, s8, s10, s11⟩ := id hm
  rw [hn, fX8_findFor_11, s2, xLet_e, if_neg (by decide), if_neg (by decide), x0, cond_e, cl0, xLet_e, show 167 + 33 + 2 * 0 = 200 from rfl, s4, xLet_e, leads1 hm, bind_e, if_pos rfl, fX8_findFor_67, s5, xLet_e, leads1 hm, bind_e, if_pos rfl, fX8_findFor_101, xLet_e, fX8_findFor_11, s2, xLet_e, if_pos (by decide)]
theorem low_no {a : Int32} {i j : Nat} (hi : i < 6) (hj : j < 6) {m : xMem} (h : i = j ∨ ¬ m.1 253 (6 * i + j) < 1000000) : fX8_lowestFirst 251 167 a (Int32.ofNat i) (Int32.ofNat j) m = some (-1, m) := by
  rw [fX8_lowestFirst, fX8_lowestFirst_0, between_at hi hj, bind_e]
  by_cases q : Int32.ofNat i = Int32.ofNat j
  · rw [if_pos q, fX8_lowestFirst_22]
  · rw [if_neg q]
    rcases h with h | h
    · exact absurd (congrArg Int32.ofNat h) q
    · rw [if_neg h, fX8_lowestFirst_22]
theorem low_01 {L : Nat} (hL : L ≤ 40) {m : xMem} (h : AlF L m) (hD : DD (Int32.ofNat L) m) : fX8_lowestFirst 251 167 0 (Int32.ofNat 0) (Int32.ofNat 1) m = some (0, m) := by
  obtain ⟨n, hn⟩ := fuE0
  have x0 : xIn (0 : Int32) 10 = true := by decide
  have hlt : Int32.ofNat L < 1000000 := by
    rw [show (1000000 : Int32) = Int32.ofNat 1000000 from rfl, ltN (by omega) (by omega)]
    omega
  have hl := leads0 h (a := Int32.ofNat 0)
  have hs := secondsA h
  obtain ⟨s2, s3, s4, s5, s6, s7, s8, s10, s11⟩ := h
  rw [fX8_lowestFirst, fX8_lowestFirst_0, between_at (by omega) (by omega), bind_e, if_neg (show ¬ Int32.ofNat 0 = Int32.ofNat 1 by decide), hD _ (by omega), if_pos (show 6 * 0 + 1 = 1 from rfl), if_pos hlt, hn, fX8_lowestFirst_27, s2, xLet_e, if_neg (by decide), if_neg (by decide), x0, cond_e, cl0, xLet_e, show 167 + 33 + 2 * 0 = 200 from rfl, s4, xLet_e, if_pos (show (0 : Int32) = Int32.ofNat 0 from rfl), fX8_lowestFirst_70, hl, bind_e, if_pos (show Int32.ofNat 0 = 0 from rfl), if_neg (show ¬ (1 : Int32) = 0 by decide), s4, xLet_e, if_neg (show ¬ ¬ (0 : Int32) = Int32.ofNat 0 from fun f => f rfl), s5, xLet_e, fX8_lowestFirst_103, if_neg (show ¬ ¬ (1 : Int32) = Int32.ofNat 1 from fun f => f rfl), fX8_lowestFirst_124, hs, bind_e, xLet_e, if_neg (show ¬ ¬ Int32.ofNat L + 0 = Int32.ofNat L from fun f => f (Int32.add_zero _))]
theorem floydB {x : Int32} (hx : Ineq x) {m0 : xMem} : ∀ i j k m, i < 6 → j < 6 → k < 6 → (Sme m0 m ∧ DD x m) → ∃ z1 z2 m', fX8_between 251 (Int32.ofNat j) (Int32.ofNat i) m = some (z1, m) ∧ fX8_between 251 (Int32.ofNat i) (Int32.ofNat k) m = some (z2, m) ∧ fX8_shorten 251 (Int32.ofNat j) (Int32.ofNat k) (z1 + z2) m = some m' ∧ (Sme m0 m' ∧ DD x m') :=
  fun i j k m hi hj hk h => ⟨_, _, m, between_at hj hi, between_at hi hk, shorten_no hj hk (floyd_no hx hi hj hk h.2), h⟩
theorem fillD {m : xMem} : DD 1000000 (xFillM m 253 36 1000000) := by
  intro j hj
  rw [fill_at hj]
  by_cases q : j = 1
  · rw [if_pos q]
  · rw [if_neg q]
theorem fillS {m0 m : xMem} (hS : Sme m0 m) : Sme m0 (xFillM m 253 36 1000000) := fun b hb => by rw [fill_row (by omega)]; exact hS b hb
theorem for0 {L : Nat} (hL : L ≤ 40) {m0 m : xMem} (h : AlF L m0) (hS : Sme m0 m) : vOk (fun m1 => Sme m0 m1 ∧ m1.1 252 1 = 0) (fX8_findFor 251 167 0 m) := by
  obtain ⟨n6, hn6⟩ := fuE 6 (by omega)
  obtain ⟨m1, e1, hS1, hD1⟩ := links0 hL h (fillS hS) (m := xFillM m 253 36 1000000) fillD
  rw [fX8_findFor, fX8_findFor_0, show fJ7_fill_53178 (251 + 2) 36 1000000 m = some (xFillM m 253 36 1000000) from rfl, bind_e, e1, fX8_findFor_107, hn6, ← of0]
  refine ff109 (I := fun X => Sme m0 X ∧ DD (Int32.ofNat L) X) (floydB (ineq_L L hL)) ?_ 6 0 n6 _ rfl ⟨hS1, hD1⟩
  intro X hX
  rw [hn6, ← of0]
  refine ff178 (a := 0) (by decide) (I := fun i j Y => Sme m0 Y ∧ DD (Int32.ofNat L) Y ∧ (1 < 6 * i + j → Y.1 252 1 = 0)) ?_ ?_ ?_ 6 0 n6 _ rfl ⟨hX.1, hX.2, fun q => absurd q (by omega)⟩
  · intro i j Y hi hj ⟨y1, y2, y3⟩
    have hp : ∀ z, Sme m0 (xPut Y (251 + 1) (36 * 0 + 6 * i + j) z) ∧ DD (Int32.ofNat L) (xPut Y (251 + 1) (36 * 0 + 6 * i + j) z) := fun z => ⟨fun b hb => by rw [put_row (by omega)]; exact y1 b hb, fun k hk => by rw [put_ne (by decide)]; exact y2 k hk⟩
    by_cases q : 6 * i + j = 1
    · have hi0 : i = 0 := by omega
      have hj1 : j = 1 := by omega
      subst hi0
      subst hj1
      exact ⟨0, low_01 hL (AlF_of h y1) y2, (hp 0).1, (hp 0).2, fun _ => put_at⟩
    · refine ⟨-1, low_no hi hj (Or.inr ?_), (hp (-1)).1, (hp (-1)).2, fun r => ?_⟩
      · rw [y2 _ (by omega), if_neg q]
        decide
      · rw [put_nk (by omega)]
        exact y3 (by omega)
  · intro i Y hi ⟨y1, y2, y3⟩
    exact ⟨y1, y2, fun _ => y3 (by omega)⟩
  · intro Y ⟨y1, y2, y3⟩
    exact ⟨y1, y3 (by omega)⟩
theorem for1 {L : Nat} {m0 m : xMem} (h : AlF L m0) (hS : Sme m0 m) (hf : m.1 252 1 = 0) : vOk (fun m1 => Sme m0 m1 ∧ m1.1 252 1 = 0) (fX8_findFor 251 167 1 m) := by
  obtain ⟨n6, hn6⟩ := fuE 6 (by omega)
  rw [fX8_findFor, fX8_findFor_0, show fJ7_fill_53178 (251 + 2) 36 1000000 m = some (xFillM m 253 36 1000000) from rfl, bind_e, links1 h (fillS hS), fX8_findFor_107, hn6, ← of0]
  refine ff109 (I := fun X => (Sme m0 X ∧ X.1 252 1 = 0) ∧ DD 1000000 X) ?_ ?_ 6 0 n6 _ rfl ⟨⟨fillS hS, by rw [fill_row (by decide)]; exact hf⟩, fillD⟩
  · intro i j k X hi hj hk hX
    exact ⟨_, _, X, between_at hj hi, between_at hi hk, shorten_no hj hk (floyd_no ineq_F hi hj hk hX.2), hX⟩
  · intro X hX
    rw [hn6, ← of0]
    refine ff178 (a := 1) (by decide) (I := fun _ _ Y => (Sme m0 Y ∧ Y.1 252 1 = 0) ∧ DD 1000000 Y) ?_ (fun _ _ _ h => h) (fun _ h => h.1) 6 0 n6 _ rfl hX
    intro i j Y hi hj ⟨⟨y1, y3⟩, y2⟩
    refine ⟨-1, low_no hi hj (Or.inr ?_), ⟨fun b hb => by rw [put_row (by omega)]; exact y1 b hb, by rw [put_nk (by omega)]; exact y3⟩, fun k hk => by rw [put_ne (by decide)]; exact y2 k hk⟩
    rw [y2 _ (by omega)]
    by_cases q : 6 * i + j = 1
    · rw [if_pos q]; decide
    · rw [if_neg q]; decide
theorem findA {L : Nat} (hL : L ≤ 40) {m : xMem} (h : AlF L m) (hk : m.1 251 2 = -1) : vOk (fun m1 => Sme m m1 ∧ m1.1 252 1 = 0) (fX8_find 251 167 m) := by
  obtain ⟨n, hn⟩ := fuE 1 (by omega)
  have x0 : xIn (0 : Int32) 10 = true := by decide
  have hp : Sme m (xPut m 251 2 2) := fun b hb => put_row (by omega)
  have ht := takesA h
  obtain ⟨s2, s3, s4, s5, s6, s7, s8, s10, s11⟩ := id h
  rw [fX8_find, fX8_find_0, hn, fX8_find_4, s2, xLet_e, if_neg (by decide), if_neg (by decide), x0, cond_e, cl0, xLet_e, show 167 + 33 + 2 * 0 = 200 from rfl, xLet_e, ht, bind_e, if_neg (show ¬ (1 : Int32) = 0 by decide), s7, xLet_e, xLet_e, fX8_find_48, xLet_e, xLet_e, show ((0 : Int32) <<< ((2 : Int32) &&& 31)) ||| (1 + 1) = 2 by decide, fX8_find_4, s2, xLet_e, if_pos (by decide), fX8_find_56, hk, xLet_e, if_pos (by decide), xLet_e]
  refine vOk_bind (for0 hL h hp) fun X hX => ?_
  refine vOk_bind (for1 h hX.1 hX.2) fun Y hY => ?_
  exact vOk_some hY
