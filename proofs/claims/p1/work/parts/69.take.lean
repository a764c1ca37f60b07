/-! a stair alone: who is taken -/
theorem g6 : ∀ g, g < 6 → ¬ (0 : Int32) * 6 + Int32.ofNat g < 0 ∧ ¬ 12 ≤ (0 : Int32) * 6 + Int32.ofNat g ∧ xIn ((0 : Int32) * 6 + Int32.ofNat g) 12 = true ∧ ((0 : Int32) * 6 + Int32.ofNat g).toNatClampNeg = g := by decide
theorem wait_ok {g : Nat} (hg : g < 6) {m : xMem} : fX2_waiting 182 (Int32.ofNat g) 0 m = some (m.1 183 g, m) := by
  obtain ⟨h1, h2, h3, h4⟩ := g6 g hg
  rw [fX2_waiting, fX2_waiting_0, xLet_e, xLet_e, if_neg h1, if_neg h2, h3, cond_e, h4, xLet_e, fX2_waiting_30]
theorem goal_skip {g n : Nat} (hg : g < 6) {m : xMem} {l5 l6 : Int32} (h : m.1 183 g ≤ l6) : fX6_goalOfMost_31 250 167 0 0 0 (n + 1) l5 l6 (Int32.ofNat g) m = fX6_goalOfMost_31 250 167 0 0 0 n l5 l6 (Int32.ofNat (g + 1)) m := by
  rw [fX6_goalOfMost_31, if_neg (k6 g hg).1, show xIn (0 : Int32) 6 = true by decide, cond_e, cl0, xLet_e, show 167 + 15 + 3 * 0 = 182 from rfl, wait_ok hg, bind_e, if_pos h, fX6_goalOfMost_84, xLet_e, addN1]
theorem hasH {m : xMem} (h : m.1 167 7 = 2) : fX9_hasHall 167 0 m = some (1, m) := by
  rw [fX9_hasHall, fX9_hasHall_0, if_neg (by decide), h, xLet_e, if_neg (by decide), if_neg (by decide), fX9_hasHall_23]
  rfl
theorem goal_one {L R : Nat} {md : Int32} {m : xMem} (hS : AlS L md m) (h1 : m.1 183 1 = Int32.ofNat R) (h4 : m.1 182 4 = Int32.ofNat R) (hR : 1 ≤ R) (hR2 : R ≤ 1998) : fX6_goalOfMost 250 167 0 0 0 m = some (1, m) := by
  obtain ⟨n, hn⟩ := fuE 6 (by omega)
  have z := hS.2.2.2.2.2.2.2.2.2.2.2.2
  have hfl : m.1 252 1 = 0 := hS.2.2.2.2.2.2.2.2.2.2.2.1
  have hpos : ¬ Int32.ofNat R = 0 := by
    intro q
    have := congrArg Int32.toInt q
    rw [Int32.toInt_ofNat_of_lt (by omega), show (0 : Int32).toInt = 0 by decide] at this
    omega
  have hp2 : ¬ Int32.ofNat R ≤ 0 := by
    rw [← of0, leN (by omega) (by omega)]
    omega
  have hp3 : (0 : Int32) ≤ Int32.ofNat R := by
    rw [← of0, leN (by omega) (by omega)]
    omega
  have fl : fX8_firstLink 251 0 0 (Int32.ofNat 1) m = some (0, m) := by
    rw [fX8_firstLink, fX8_firstLink_0, xLet_e, xLet_e, xLet_e, xLet_e, if_neg (by decide), if_neg (by decide), show xIn ((0 : Int32) * 36 + 0 * 6 + Int32.ofNat 1) 72 = true by decide, cond_e, show ((0 : Int32) * 36 + 0 * 6 + Int32.ofNat 1).toNatClampNeg = 1 by decide, show 251 + 1 = 252 from rfl, hfl, xLet_e, fX8_firstLink_39]
  have one : fX6_goalOfMost_31 250 167 0 0 0 (n + 1 + 4 + 1) (-1) 0 (Int32.ofNat 1) m = fX6_goalOfMost_31 250 167 0 0 0 (n + 1 + 4) 1 (Int32.ofNat R) (Int32.ofNat 2) m := by
    rw [fX6_goalOfMost_31, if_neg (by decide), show xIn (0 : Int32) 6 = true by decide, cond_e, cl0, xLet_e, show 167 + 15 + 3 * 0 = 182 from rfl, wait_ok (by omega), bind_e, h1, if_neg hp2, show 250 + 1 = 251 from rfl, fl, bind_e, if_neg (fun f => f rfl), fX6_goalOfMost_84, xLet_e, addN1]
    rfl
  rw [fX6_goalOfMost, fX6_goalOfMost_0, hasH hS.1, bind_e, if_neg (show ¬ (1 : Int32) = 0 by decide), show xIn (0 : Int32) 6 = true by decide, cond_e, cl0, xLet_e, show 167 + 15 + 3 * 0 = 182 from rfl, h4, xLet_e, if_pos hpos, hn]
  have s0 := goal_skip (g := 0) (n := n + 1 + 5) (by omega) (m := m) (l5 := -1) (l6 := 0) (by rw [z 0 (by omega) (by omega)]; decide)
  have s2 := goal_skip (g := 2) (n := n + 1 + 3) (by omega) (m := m) (l5 := 1) (l6 := Int32.ofNat R) (by rw [z 2 (by omega) (by omega)]; exact hp3)
  have s3 := goal_skip (g := 3) (n := n + 1 + 2) (by omega) (m := m) (l5 := 1) (l6 := Int32.ofNat R) (by rw [z 3 (by omega) (by omega)]; exact hp3)
  have s4 := goal_skip (g := 4) (n := n + 1 + 1) (by omega) (m := m) (l5 := 1) (l6 := Int32.ofNat R) (by rw [z 4 (by omega) (by omega)]; exact hp3)
  have s5 := goal_skip (g := 5) (n := n + 1) (by omega) (m := m) (l5 := 1) (l6 := Int32.ofNat R) (by rw [z 5 (by omega) (by omega)]; exact hp3)
  have s6 : fX6_goalOfMost_31 250 167 0 0 0 (n + 1) 1 (Int32.ofNat R) (Int32.ofNat 6) m = some (1, m) := by
    rw [fX6_goalOfMost_31, if_pos le66]
  exact s0.trans (one.trans (s2.trans (s3.trans (s4.trans (s5.trans s6)))))
theorem foot_ok {m : xMem} (h6 : m.1 200 6 = 1) (h2 : m.1 200 2 = 0) : fX3_foot 200 m = some (0, m) := by
  rw [fX3_foot, fX3_foot_0, h6, xLet_e, if_pos (by decide), h2, xLet_e, fX3_foot_19]
/-- what one taken changes -/
theorem taken_one {L s d cn R : Nat} {md off v y : Int32} {m q : xMem} (hA : AlM L md (Int32.ofNat cn) (Int32.ofNat (R + 1)) off m q) (hd : d < 2) (hf : m.1 201 (40 * d) = -1) (e : enc y v) (hv : ¬ v = -1) {rec71 : Nat → Int32 → Int32 → xMem → Option xMem} {w l5 l6 : Int32} (hs : s < 2) (hval : v = if s = 0 then 1 else 11) (hside : fX3_sideFor 200 (Int32.ofNat s) l5 m = some (Int32.ofNat d, m)) : ∃ m', fX6_takeUpToTwo_127 250 167 0 w rec71 200 l5 l6 1 (Int32.ofNat s) m = rec71 200 l5 (l6 + 1) m' ∧ AlM L md (Int32.ofNat (cn + 1)) (Int32.ofNat R) off m' (xPut q 314 (40 * d) y) := by
  obtain ⟨hS, hr, hn, hc, h1, h4, ho⟩ := hA
  have h6 : m.1 200 6 = 1 := hS.2.2.2.2.2.2.1
  have h2 : m.1 200 2 = 0 := hS.2.2.2.1
  have hdn : ¬ Int32.ofNat d = -1 := by
    have : d = 0 ∨ d = 1 := by omega
    rcases this with q | q <;> (subst q; decide)
  have ch : fX2_change 182 1 0 (-1) m = some (xPut (xPut m 183 1 (Int32.ofNat R)) 182 4 (Int32.ofNat R)) := by
    rw [fX2_change, fX2_change_0, xLet_e, xLet_e, if_neg (by decide), if_neg (by decide), show xIn ((0 : Int32) * 6 + 1) 12 = true by decide, cond_e, show ((0 : Int32) * 6 + 1).toNatClampNeg = 1 by decide, show 182 + 1 = 183 from rfl, h1, xLet_e, negN1, xLet_e, cond_e, xLet_e, put_ne (by decide), h4, xLet_e, negN1, xLet_e, xLet_e, fX2_change_44]
  have e190 : ∀ u : Int32, u = v → ∃ m', fX6_takeUpToTwo_190 250 167 0 w rec71 200 l5 l6 200 (Int32.ofNat d) 0 u (xPut (xPut m 183 1 (Int32.ofNat R)) 182 4 (Int32.ofNat R)) = rec71 200 l5 (l6 + 1) m' ∧ AlM L md (Int32.ofNat (cn + 1)) (Int32.ofNat R) off m' (xPut q 314 (40 * d) y) := by
    intro u hu
    subst hu
    rw [fX6_takeUpToTwo_190, ← of0, sput_ok hd (by omega), bind_e, xLet_e, xLet_e, xLet_e, xLet_e, xLet_e, xLet_e, xLet_e]
    refine ⟨_, Eq.refl _, ?_⟩
    have erow : (xPut (xPut m 183 1 (Int32.ofNat R)) 182 4 (Int32.ofNat R)).1 201 = m.1 201 := by rw [put_row (by decide), put_row (by decide)]
    have erow2 : (xPut (xPut m 183 1 (Int32.ofNat R)) 182 4 (Int32.ofNat R)).1 200 = m.1 200 := by rw [put_row (by decide), put_row (by decide)]
    refine ⟨AlS_put (AlS_put (AlS_put (AlS_put (AlS_put hS (by omega)) (by omega)) (by omega)) (by omega)) (by omega), ?_, ?_, ?_, ?_, ?_, ?_⟩
    · rw [put_row (by decide), put_row (by decide), put_upd, erow, put_upd]
      exact RR_upd hr e
    · rw [put_nk (by decide), put_at, put_ne (by decide), erow2, hn, addN1, put_row (by decide), put_row (by decide), put_upd, erow]
      rw [show 40 * d + 0 = 40 * d from rfl, card_on (by omega) hf hv]
    · rw [put_at, put_nk (by decide), put_ne (by decide), erow2, hc, addN1]
    · rw [put_ne (by decide), put_ne (by decide), put_ne (by decide), put_ne (by decide), put_at]
    · rw [put_ne (by decide), put_ne (by decide), put_ne (by decide), put_at]
    · rw [put_nk (by decide), put_nk (by decide), put_ne (by decide), erow2]; exact ho
  rw [fX6_takeUpToTwo_127, hside, bind_e, if_neg (show ¬ (1 : Int32) = -1 by decide), if_pos hdn, foot_ok h6 h2, bind_e, show xIn (0 : Int32) 6 = true by decide, cond_e, cl0, xLet_e, show 167 + 15 + 3 * 0 = 182 from rfl, ch, bind_e]
  by_cases q : s = 0
  · subst q
    rw [if_pos of0]
    exact e190 1 (by rw [hval, if_pos rfl])
  · have : s = 1 := by omega
    subst this
    rw [if_neg (show ¬ Int32.ofNat 1 = 0 by decide), xLet_e]
    exact e190 (1 + 10) (by rw [hval, if_neg q]; decide)
theorem by_ok {s : Nat} (hs : s < 2) {l5 : Int32} (h5 : ¬ l5 = 0) {m : xMem} : fX3_sideFor 200 (Int32.ofNat s) l5 m = some (if m.1 201 (40 * s) = -1 then Int32.ofNat s else -1, m) := by
  have t13 : fX3_sideFor_13 200 (Int32.ofNat s) l5 (Int32.ofNat s) m = some (if m.1 201 (40 * s) = -1 then Int32.ofNat s else -1, m) := by
    have w : fX3_who 200 (Int32.ofNat s) (Int32.ofNat 0) m = some (m.1 201 (40 * s), m) := who_ok hs (by omega)
    rw [fX3_sideFor_13, ← of0, w, bind_e]
    by_cases h : m.1 201 (40 * s) = -1
    · rw [if_neg (fun f => f h), fX3_sideFor_29, if_pos h]
    · rw [if_pos h, fX3_sideFor_29, if_neg h]
  rw [fX3_sideFor, fX3_sideFor_0, if_neg h5]
  have : s = 0 ∨ s = 1 := by omega
  rcases this with q | q
  · subst q
    rw [if_pos of0]
    exact t13
  · subst q
    rw [if_neg (show ¬ Int32.ofNat 1 = 0 by decide)]
    exact t13
theorem free_ok {a : Int32} {m : xMem} {d : Nat} (hd : d = if m.1 201 0 = -1 then 0 else 1) : fX3_sideFor 200 a 0 m = some (if m.1 201 (40 * d) = -1 then Int32.ofNat d else -1, m) := by
  have w0 : fX3_who 200 0 0 m = some (m.1 201 0, m) := who_ok (r := 200) (d := 0) (s := 0) (m := m) (by omega) (by omega)
  have w1 : fX3_who 200 1 0 m = some (m.1 201 40, m) := who_ok (r := 200) (d := 1) (s := 0) (m := m) (by omega) (by omega)
  rw [fX3_sideFor, fX3_sideFor_0, if_pos rfl, w0, bind_e]
  by_cases h : m.1 201 0 = -1
  · rw [if_pos h] at hd
    subst hd
    rw [if_neg (fun f => f h)]
    exact congrArg some (Prod.ext (by rw [if_pos h]; rfl) rfl)
  · rw [if_neg h] at hd
    subst hd
    rw [if_pos h, w1, bind_e]
    by_cases h2 : m.1 201 40 = -1
    · rw [if_neg (fun f => f h2), fX3_sideFor_57]
      exact congrArg some (Prod.ext (by rw [if_pos h2]; rfl) rfl)
    · rw [if_pos h2, fX3_sideFor_57]
      exact congrArg some (Prod.ext (by rw [if_neg h2]) rfl)
/-- the reference's taking: the side is tried -/
theorem ref_136 {L w md a4 : Int32} {rec33 : Int32 → Int32 → Int32 → xMem → Option (Int32 × xMem)} {rec64 : Int32 → Int32 → Int32 → Int32 → Int32 → xMem → Option (Int32 × xMem)} {l5 l6 l7 l9 : Int32} {s d : Nat} {q : xMem} (hd : d < 2) (hs : s < 2) : fX12_carries_136 291 L w md a4 rec33 rec64 l5 l6 l7 l9 (Int32.ofNat s) (Int32.ofNat d) q = if q.1 314 (40 * d) = 0 then rec64 l5 (l6 + 1) l7 1 (l9 + 1) (xPut q 314 (40 * d) (if s = 0 then 1 else 2)) else rec64 l5 l6 l7 0 (l9 + 1) q := by
  have u1 : xIn (40 * Int32.ofNat d) 80 = true ∧ (40 * Int32.ofNat d).toNatClampNeg = 40 * d := by
    have : ∀ d, d < 2 → xIn (40 * Int32.ofNat d) 80 = true ∧ (40 * Int32.ofNat d).toNatClampNeg = 40 * d := by decide
    exact this d hd
  rw [fX12_carries_136, xLet_e, u1.1, cond_e, u1.2, xLet_e, show 291 + 23 = 314 from rfl]
  by_cases h : q.1 314 (40 * d) = 0
  · rw [if_neg (fun f => f h), if_pos h, fX12_carries_156, if_neg (by decide), xLet_e]
    have : s = 0 ∨ s = 1 := by omega
    rcases this with z | z
    · subst z
      rw [if_pos of0, fX12_carries_182, u1.1, cond_e, u1.2, xLet_e, xLet_e, fX12_carries_186, xLet_e, if_pos rfl]
    · subst z
      rw [if_neg (show ¬ Int32.ofNat 1 = 0 by decide), fX12_carries_182, u1.1, cond_e, u1.2, xLet_e, xLet_e, fX12_carries_186, xLet_e, if_neg (by decide)]
  · rw [if_pos h, if_neg h, fX12_carries_156, if_pos rfl, fX12_carries_186, xLet_e]
theorem ref_103 {L w md a4 : Int32} {rec33 : Int32 → Int32 → Int32 → xMem → Option (Int32 × xMem)} {rec64 : Int32 → Int32 → Int32 → Int32 → Int32 → xMem → Option (Int32 × xMem)} {l5 l6 l7 l9 : Int32} {s d : Nat} {q : xMem} (hs : s < 2) (h : (md = 0 ∧ d = s) ∨ (¬ md = 0 ∧ d = if q.1 314 0 ≤ 0 then 0 else 1)) : fX12_carries_103 291 L w md a4 rec33 rec64 l5 l6 l7 l9 (Int32.ofNat s) q = fX12_carries_136 291 L w md a4 rec33 rec64 l5 l6 l7 l9 (Int32.ofNat s) (Int32.ofNat d) q := by
  rw [fX12_carries_103]
  rcases h with ⟨h, e⟩ | ⟨h, e⟩
  · subst e
    rw [if_neg (fun f => f h)]
    have : d = 0 ∨ d = 1 := by omega
    rcases this with z | z
    · subst z
      rw [if_pos of0, of0]
    · subst z
      rw [if_neg (show ¬ Int32.ofNat 1 = 0 by decide)]
      rfl
  · rw [if_pos h, show xIn (0 : Int32) 80 = true by decide, cond_e, cl0, show 291 + 23 = 314 from rfl, xLet_e]
    by_cases z : q.1 314 0 ≤ 0
    · rw [if_pos z]
      rw [if_pos z] at e
      subst e
      rw [of0]
    · rw [if_neg z]
      rw [if_neg z] at e
      subst e
      rfl
