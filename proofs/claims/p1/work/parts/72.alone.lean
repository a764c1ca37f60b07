/-! alone and crossing, alike from every memory -/
theorem card_all {F : Nat → Int32} : ∀ n, (∀ j, j < n → F j = -1) → card F n = 0 := by
  intro n
  induction n with
  | zero => intro _; rfl
  | succ n ih =>
    intro h
    show card F n + (if F n = -1 then 0 else 1) = 0
    rw [ih (fun j hj => h j (by omega)), if_pos (h n (by omega))]
theorem buildA {L T : Nat} {md : Int32} (m : xMem) : ∃ m1, fX9_buildAlone 167 (Int32.ofNat L) md (2 * Int32.ofNat T) m = some m1 ∧ m1.1 167 7 = 2 ∧ AlF L m1 ∧ m1.1 200 8 = md ∧ (∀ k, k < 6 → k ≠ 1 → m1.1 183 k = 0) ∧ m1.1 183 1 = Int32.ofNat (2 * T) ∧ m1.1 182 4 = Int32.ofNat (2 * T) ∧ m1.1 200 9 = 0 ∧ m1.1 200 10 = 0 ∧ m1.1 200 11 = 0 ∧ (∀ j, j < 80 → m1.1 201 j = -1) := by
  have x6 : xIn (0 : Int32) 6 = true := by decide
  have y6 : xIn (1 : Int32) 6 = true := by decide
  have x10 : xIn (0 : Int32) 10 = true := by decide
  have d2 : (2 : Int32) * Int32.ofNat T = Int32.ofNat (2 * T) := (Int32.ofNat_mul 2 T).symm
  obtain ⟨a1, e1, c1, f1, r1⟩ := build2 182 1 (xPut (xPut (xPut m 167 7 2) 167 8 1) 167 9 0)
  obtain ⟨a2, e2, c2, f2, r2⟩ := build2 185 1 a1
  obtain ⟨a3, e3, ⟨g1, g2, g3, g4, g6, g7⟩, ⟨h9, h10, h11, h12, h13⟩, hs, r3⟩ := buildL (Int32.ofNat L) a2
  have q167 : a3.1 167 = (xPut (xPut (xPut m 167 7 2) 167 8 1) 167 9 0).1 167 := by rw [r3 167 (by omega) (by omega), r2 167 (by omega) (by omega) (by omega), r1 167 (by omega) (by omega) (by omega)]
  have q7 : a3.1 167 7 = 2 := by rw [q167, put_nk (by decide), put_nk (by decide), put_at]
  have q8 : a3.1 167 8 = 1 := by rw [q167, put_nk (by decide), put_at]
  have q183 : a3.1 183 = a1.1 183 := by rw [r3 183 (by omega) (by omega), r2 183 (by omega) (by omega) (by omega)]
  have q182 : a3.1 182 4 = 0 := by rw [r3 182 (by omega) (by omega), r2 182 (by omega) (by omega) (by omega)]; exact c1
  have hh : fX9_hasHall 167 0 (xPut a3 200 8 md) = some (1, xPut a3 200 8 md) := hasH (by rw [put_ne (by decide)]; exact q7)
  have ch : fX2_change 182 1 0 (2 * Int32.ofNat T) (xPut a3 200 8 md) = some (xPut (xPut (xPut a3 200 8 md) 183 1 (Int32.ofNat (2 * T))) 182 4 (Int32.ofNat (2 * T))) := by
    rw [fX2_change, fX2_change_0, xLet_e, xLet_e, if_neg (by decide), if_neg (by decide), show xIn ((0 : Int32) * 6 + 1) 12 = true by decide, cond_e, show ((0 : Int32) * 6 + 1).toNatClampNeg = 1 by decide, show 182 + 1 = 183 from rfl, put_ne (by decide), q183, f1 1 (by omega), xLet_e, Int32.zero_add, d2, xLet_e, cond_e, xLet_e, put_ne (by decide), put_ne (by decide), q182, xLet_e, Int32.zero_add, xLet_e, xLet_e, fX2_change_44]
  have ct : fX9_comeTo 167 0 1 0 (2 * Int32.ofNat T) (xPut a3 200 8 md) = some (xPut (xPut (xPut a3 200 8 md) 183 1 (Int32.ofNat (2 * T))) 182 4 (Int32.ofNat (2 * T))) := by
    rw [fX9_comeTo, fX9_comeTo_0, if_pos (by decide), hh, bind_e, if_neg (show ¬ (1 : Int32) = 0 by decide), x6, cond_e, cl0, xLet_e, show 167 + 15 + 3 * 0 = 182 from rfl, ch, bind_e, fX9_comeTo_40]
  refine ⟨xPut (xPut (xPut a3 200 8 md) 183 1 (Int32.ofNat (2 * T))) 182 4 (Int32.ofNat (2 * T)), ?_, ?_, ⟨?_, ?_, ?_, ?_, ?_, ?_, ?_, ?_, ?_⟩, ?_, ?_, ?_, ?_, ?_, ?_, ?_, ?_⟩
  · rw [fX9_buildAlone, fX9_buildAlone_0, xLet_e, xLet_e, xLet_e, x6, cond_e, cl0, xLet_e, show 167 + 15 + 3 * 0 = 182 from rfl, e1, bind_e, y6, cond_e, cl1, xLet_e, show 167 + 15 + 3 * 1 = 185 from rfl, e2, bind_e, x10, cond_e, xLet_e, show 167 + 33 + 2 * 0 = 200 from rfl, e3, bind_e, cond_e, xLet_e, xLet_e, ct, bind_e]
  · rw [put_ne (by decide), put_ne (by decide), put_ne (by decide)]; exact q7
  · rw [put_ne (by decide), put_ne (by decide), put_ne (by decide)]; exact q8
  · rw [put_ne (by decide), put_ne (by decide), put_nk (by decide)]; exact g1
  · rw [put_ne (by decide), put_ne (by decide), put_nk (by decide)]; exact g2
  · rw [put_ne (by decide), put_ne (by decide), put_nk (by decide)]; exact g3
  · rw [put_ne (by decide), put_ne (by decide), put_nk (by decide)]; exact g4
  · rw [put_ne (by decide), put_ne (by decide), put_nk (by decide)]; exact g6
  · rw [put_ne (by decide), put_ne (by decide), put_nk (by decide)]; exact g7
  · rw [put_ne (by decide), put_ne (by decide), put_nk (by decide)]; exact h12
  · rw [put_ne (by decide), put_ne (by decide), put_nk (by decide)]; exact h13
  · rw [put_ne (by decide), put_ne (by decide), put_at]
  · intro k hk hn
    rw [put_ne (by decide), put_nk hn, put_ne (by decide), q183]
    exact f1 k (by omega)
  · rw [put_ne (by decide), put_at]
  · rw [put_at]
  · rw [put_ne (by decide), put_ne (by decide), put_nk (by decide)]; exact h9
  · rw [put_ne (by decide), put_ne (by decide), put_nk (by decide)]; exact h10
  · rw [put_ne (by decide), put_ne (by decide), put_nk (by decide)]; exact h11
  · intro j hj
    rw [put_ne (by decide), put_ne (by decide), put_ne (by decide)]
    exact hs j hj
theorem k80 : ∀ k, k < 80 → ¬ (80 : Int32) ≤ Int32.ofNat k ∧ xIn (Int32.ofNat k) 80 = true ∧ (Int32.ofNat k).toNatClampNeg = k := by decide
theorem clear80 {L w md a4 : Int32} : ∀ (e k n : Nat) (q : xMem), k + e = 80 → (∀ j, j < k → q.1 314 j = 0) → ∃ q', fX12_carries_3 291 L w md a4 (n + 1 + e) (Int32.ofNat k) q = fX12_carries_33 291 L w md a4 xFuel 0 0 0 q' ∧ ∀ j, j < 80 → q'.1 314 j = 0 := by
  intro e
  induction e with
  | zero =>
    intro k n q hk h
    have hk : k = 80 := by omega
    subst hk
    exact ⟨q, by rw [fX12_carries_3, if_pos (by decide)], h⟩
  | succ e ih =>
    intro k n q hk h
    obtain ⟨a, b, c⟩ := k80 k (by omega)
    rw [show n + 1 + (e + 1) = n + 1 + e + 1 from rfl, fX12_carries_3, if_neg a, b, cond_e, c, xLet_e, xLet_e, addN1]
    refine ih (k + 1) n _ (by omega) ?_
    intro j hj
    rw [show 291 + 23 = 314 from rfl, put_upd]
    by_cases z : j = k
    · subst z
      exact upd_eq
    · rw [upd_ne z]
      exact h j (by omega)
theorem carr_sim {L T : Nat} (hL2 : 2 ≤ L) (hL : L ≤ 40) (hT : T ≤ 999) (w md : Int32) (m q : xMem) : ∃ z m' q', fX11_carriedAlone 0 (Int32.ofNat L) w md (Int32.ofNat T) m = some (z, m') ∧ fX12_carries 291 (Int32.ofNat L) w md (Int32.ofNat T) q = some (z, q') := by
  obtain ⟨n, hn⟩ := fuE T (by omega)
  obtain ⟨n80, hn80⟩ := fuE 80 (by omega)
  have x10 : xIn (0 : Int32) 10 = true := by decide
  obtain ⟨a, e1, b7, hF, b8, b183, bR, bR4, b9, b10, b11, hs⟩ := buildA (L := L) (T := T) (md := md) m
  have hF1 : AlF L (xPut a 251 2 (-1)) := by
    unfold AlF
    rw [put_row (by decide), put_row (by decide)]
    exact hF
  obtain ⟨c, e2, hS, hfl⟩ := findA hL hF1 put_at
  have p167 : c.1 167 = a.1 167 := by rw [hS 167 (by omega), put_row (by decide)]
  have p200 : c.1 200 = a.1 200 := by rw [hS 200 (by omega), put_row (by decide)]
  have p201 : c.1 201 = a.1 201 := by rw [hS 201 (by omega), put_row (by decide)]
  have p182 : c.1 182 = a.1 182 := by rw [hS 182 (by omega), put_row (by decide)]
  have p183 : c.1 183 = a.1 183 := by rw [hS 183 (by omega), put_row (by decide)]
  obtain ⟨q1, f1, hz⟩ := clear80 (L := Int32.ofNat L) (w := w) (md := md) (a4 := Int32.ofNat T) 80 0 n80 q rfl (fun j h => absurd h (by omega))
  have hA : AlM L md (Int32.ofNat 0) (Int32.ofNat (2 * T)) 0 c q1 := by
    obtain ⟨s2, s3, s4, s5, s6, s7, s8, s10, s11⟩ := hF
    refine ⟨⟨?_, ?_, ?_, ?_, ?_, ?_, ?_, ?_, ?_, ?_, ?_, hfl, ?_⟩, ?_, ?_, ?_, ?_, ?_, ?_⟩
    · rw [p167]; exact b7
    · rw [p167]; exact s2
    · rw [p200]; exact s3
    · rw [p200]; exact s4
    · rw [p200]; exact s5
    · rw [p200]; exact s6
    · rw [p200]; exact s7
    · rw [p200]; exact s8
    · rw [p200]; exact b8
    · rw [p200]; exact s10
    · rw [p200]; exact s11
    · intro k hk hn
      rw [p183]
      exact b183 k hk hn
    · intro j hj
      rw [p201]
      exact Or.inl ⟨hz j hj, hs j hj⟩
    · rw [p200, p201, b9, card_all 80 hs]
      rfl
    · rw [p200, b10]; rfl
    · rw [p183, bR]
    · rw [p182, bR4]
    · rw [p200, b11]
  obtain ⟨z, m', q', g1, g2⟩ := loop_sim hL2 hL hT (w := w) T 0 n n c q1 0 (2 * T) 0 (by omega) hA (by omega) (by omega)
  refine ⟨z, m', q', ?_, ?_⟩
  · rw [fX11_carriedAlone, fX11_carriedAlone_0, xLet_e, show 0 + 167 = 167 from rfl, e1, bind_e, fX6_forgetRoutes, fX6_forgetRoutes_0, fX8_forget, fX8_forget_0, xLet_e, bind_e, bind_e, show 0 + 250 + 1 = 251 from rfl, e2, bind_e, x10, cond_e, cl0, xLet_e, show 167 + 33 + 2 * 0 = 200 from rfl, hn, ← of0]
    exact g1
  · rw [fX12_carries, fX12_carries_0, hn80, ← of0, f1, hn, ← of0]
    exact g2
/-- the two come to the same from any two memories -/
def Sim (F G : xMem → Option (Int32 × xMem)) : Prop := ∀ m q, ∃ z m' q', F m = some (z, m') ∧ G q = some (z, q')
theorem alike_sim {F G : xMem → Option (Int32 × xMem)} (h : Sim F G) (m : xMem) : Alike F G m := by
  obtain ⟨z, m1, q1, a1, _⟩ := h m m
  obtain ⟨z2, m2, q2, b1, b2⟩ := h m m1
  rw [a1] at b1
  have e := Option.some.inj b1
  have ez : z = z2 := congrArg Prod.fst e
  subst ez
  exact ⟨z, m1, q2, a1, b2⟩
theorem sim_no {F G : xMem → Option (Int32 × xMem)} {z : Int32} (h1 : ∀ m, F m = some (z, m)) (h2 : ∀ m, G m = some (z, m)) : Sim F G := fun m q => ⟨z, m, q, h1 m, h2 q⟩
theorem both2 (a lo hi : Int32) {p q : Nat} (hp : lo.toInt = p) (hq : hi.toInt = q) : ((∀ m, fX11_within a lo hi m = some (0, m)) ∧ ∀ m, fX12_in a lo hi m = some (0, m)) ∨ (((∀ m, fX11_within a lo hi m = some (1, m)) ∧ ∀ m, fX12_in a lo hi m = some (1, m)) ∧ ∃ k, p ≤ k ∧ k ≤ q ∧ a = Int32.ofNat k) := by
  by_cases h1 : a < lo
  · exact Or.inl ⟨fun _ => within_no (Or.inl h1), fun _ => in_no (Or.inl h1)⟩
  · by_cases h2 : hi < a
    · exact Or.inl ⟨fun _ => within_no (Or.inr h2), fun _ => in_no (Or.inr h2)⟩
    · exact Or.inr ⟨⟨fun _ => within_yes h1 h2, fun _ => in_yes h1 h2⟩, ofNat_in hp hq h1 h2⟩
theorem mayAlone0 {a b : Int32} (h : ∀ m, fX11_within a 2 40 m = some (0, m)) (m : xMem) : fX11_mayStandAlone a b m = some (0, m) := by
  rw [fX11_mayStandAlone, fX11_mayStandAlone_0, h, bind_e, if_pos rfl, fX11_mayStandAlone_25, fX11_mayStandAlone_26]
  rfl
theorem mayAlone1 {a b : Int32} (h : ∀ m, fX11_within a 2 40 m = some (1, m)) (h2 : ∀ m, fX11_within b 1 999 m = some (0, m)) (m : xMem) : fX11_mayStandAlone a b m = some (0, m) := by
  rw [fX11_mayStandAlone, fX11_mayStandAlone_0, h, bind_e, if_neg (show ¬ (1 : Int32) = 0 by decide), h2, bind_e, if_pos rfl, fX11_mayStandAlone_25, fX11_mayStandAlone_26]
  rfl
theorem mayAlone2 {a b : Int32} (h : ∀ m, fX11_within a 2 40 m = some (1, m)) (h2 : ∀ m, fX11_within b 1 999 m = some (1, m)) (m : xMem) : fX11_mayStandAlone a b m = some (1, m) := by
  rw [fX11_mayStandAlone, fX11_mayStandAlone_0, h, bind_e, if_neg (show ¬ (1 : Int32) = 0 by decide), h2, bind_e, if_neg (show ¬ (1 : Int32) = 0 by decide), fX11_mayStandAlone_26]
  rfl
theorem sim_alone (a b c e : Int32) : Sim (fX11_alone 0 a b c e) (fX12_alone 291 a b c e) := by
  have o1 : ¬ (1 : Int32) = 0 := by decide
  rcases both2 a 2 40 (p := 2) (q := 40) (by decide) (by decide) with ⟨p1, q1⟩ | ⟨⟨p1, q1⟩, L, hL2, hL, eL⟩
  · refine sim_no (z := -1) (fun m => ?_) (fun m => ?_)
    · rw [fX11_alone, fX11_alone_0]
      rcases both b 0 10 with ⟨x, _⟩ | ⟨x, _⟩
      · rw [x, bind_e, if_pos rfl, fX11_alone_28]
      · rw [x, bind_e, if_neg o1]
        rcases both c 0 1 with ⟨y, _⟩ | ⟨y, _⟩
        · rw [y, bind_e, if_pos rfl, fX11_alone_28]
        · rw [y, bind_e, if_neg o1, mayAlone0 p1, bind_e, if_neg (show ¬ ¬ (0 : Int32) = 0 from fun f => f rfl), fX11_alone_28]
    · rw [fX12_alone, fX12_alone_0, q1, bind_e, if_pos rfl, fX12_alone_53, fX12_alone_54]
  rcases both b 0 10 with ⟨p2, q2⟩ | ⟨p2, q2⟩
  · exact sim_no (z := -1) (fun m => by rw [fX11_alone, fX11_alone_0, p2, bind_e, if_pos rfl, fX11_alone_28]) (fun m => by rw [fX12_alone, fX12_alone_0, q1, bind_e, if_neg o1, q2, bind_e, if_pos rfl, fX12_alone_53, fX12_alone_54])
  rcases both c 0 1 with ⟨p3, q3⟩ | ⟨p3, q3⟩
  · exact sim_no (z := -1) (fun m => by rw [fX11_alone, fX11_alone_0, p2, bind_e, if_neg o1, p3, bind_e, if_pos rfl, fX11_alone_28]) (fun m => by rw [fX12_alone, fX12_alone_0, q1, bind_e, if_neg o1, q2, bind_e, if_neg o1, q3, bind_e, if_pos rfl, fX12_alone_53, fX12_alone_54])
  rcases both2 e 1 999 (p := 1) (q := 999) (by decide) (by decide) with ⟨p4, q4⟩ | ⟨⟨p4, q4⟩, T, hT1, hT, eT⟩
  · exact sim_no (z := -1) (fun m => by rw [fX11_alone, fX11_alone_0, p2, bind_e, if_neg o1, p3, bind_e, if_neg o1, mayAlone1 p1 p4, bind_e, if_neg (show ¬ ¬ (0 : Int32) = 0 from fun f => f rfl), fX11_alone_28]) (fun m => by rw [fX12_alone, fX12_alone_0, q1, bind_e, if_neg o1, q2, bind_e, if_neg o1, q3, bind_e, if_neg o1, q4, bind_e, if_pos rfl, fX12_alone_53, fX12_alone_54])
  · intro m q
    subst eL
    subst eT
    obtain ⟨z, m', q', g1, g2⟩ := carr_sim hL2 hL hT b c m q
    refine ⟨z, m', q', ?_, ?_⟩
    · rw [fX11_alone, fX11_alone_0, p2, bind_e, if_neg o1, p3, bind_e, if_neg o1, mayAlone2 p1 p4, bind_e, if_pos o1, g1, bind_e]
    · rw [fX12_alone, fX12_alone_0, q1, bind_e, if_neg o1, q2, bind_e, if_neg o1, q3, bind_e, if_neg o1, q4, bind_e, if_neg o1, g2, bind_e, fX12_alone_54]
theorem k11 : ∀ k, k < 11 → ¬ (10 : Int32) < Int32.ofNat k ∧ ¬ (11 : Int32) ≤ Int32.ofNat k := by decide
theorem cross_loop {L T : Nat} (hL2 : 2 ≤ L) (hL : L ≤ 40) (hT : T ≤ 999) {s : Int32} : ∀ (e k n1 n2 : Nat) (m q : xMem), k + e = 11 → ∃ z m' q', fX11_crossing_22 0 (Int32.ofNat L) (Int32.ofNat T) (n1 + 1 + e) s (Int32.ofNat k) m = some (z, m') ∧ fX12_crossing_35 291 (Int32.ofNat L) (Int32.ofNat T) (n2 + 1 + e) s (Int32.ofNat k) q = some (z, q') := by
  intro e
  induction e with
  | zero =>
    intro k n1 n2 m q hk
    have hk : k = 11 := by omega
    subst hk
    exact ⟨-1, m, q, by rw [fX11_crossing_22, if_pos (by decide)], by rw [fX12_crossing_35, if_pos (by decide)]⟩
  | succ e ih =>
    intro k n1 n2 m q hk
    obtain ⟨a, b⟩ := k11 k (by omega)
    obtain ⟨z, m1, q1, g1, g2⟩ := carr_sim hL2 hL hT (Int32.ofNat k) 0 m q
    rw [show n1 + 1 + (e + 1) = n1 + 1 + e + 1 from rfl, show n2 + 1 + (e + 1) = n2 + 1 + e + 1 from rfl, fX11_crossing_22, if_neg a, g1, bind_e, fX12_crossing_35, if_neg b, g2, bind_e]
    by_cases y : z < s
    · rw [if_pos y, if_pos y, xLet_e, xLet_e, addN1]
      exact ih (k + 1) n1 n2 m1 q1 (by omega)
    · rw [if_neg y, if_neg y]
      exact ⟨Int32.ofNat k, m1, q1, rfl, rfl⟩
theorem sim_crossing (a b : Int32) : Sim (fX11_crossing 0 a b) (fX12_crossing 291 a b) := by
  have o1 : ¬ (1 : Int32) = 0 := by decide
  have o0 : ¬ ¬ (0 : Int32) = 0 := fun f => f rfl
  rcases both2 a 2 40 (p := 2) (q := 40) (by decide) (by decide) with ⟨p1, q1⟩ | ⟨⟨p1, q1⟩, L, hL2, hL, eL⟩
  · exact sim_no (z := -1) (fun m => by rw [fX11_crossing, fX11_crossing_0, mayAlone0 p1, bind_e, if_neg o0]) (fun m => by rw [fX12_crossing, fX12_crossing_0, q1, bind_e, if_pos rfl, fX12_crossing_21])
  rcases both2 b 1 999 (p := 1) (q := 999) (by decide) (by decide) with ⟨p4, q4⟩ | ⟨⟨p4, q4⟩, T, hT1, hT, eT⟩
  · exact sim_no (z := -1) (fun m => by rw [fX11_crossing, fX11_crossing_0, mayAlone1 p1 p4, bind_e, if_neg o0]) (fun m => by rw [fX12_crossing, fX12_crossing_0, q1, bind_e, if_neg o1, q4, bind_e, if_neg o0, fX12_crossing_21])
  · intro m q
    subst eL
    subst eT
    obtain ⟨n, hn⟩ := fuE 11 (by omega)
    obtain ⟨s, m1, q1', g1, g2⟩ := carr_sim hL2 hL hT 0 1 m q
    obtain ⟨z, m', q', f1, f2⟩ := cross_loop hL2 hL hT (s := s) 11 0 n n m1 q1' rfl
    refine ⟨z, m', q', ?_, ?_⟩
    · rw [fX11_crossing, fX11_crossing_0, mayAlone2 p1 p4, bind_e, if_pos o1, g1, bind_e, hn]
      exact f1
    · rw [fX12_crossing, fX12_crossing_0, q1, bind_e, if_neg o1, q4, bind_e, if_pos o1, g2, bind_e, hn]
      exact f2
