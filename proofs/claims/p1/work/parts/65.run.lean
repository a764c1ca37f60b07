/-! run: an empty station, second by second -/
def Sme (m0 m : xMem) : Prop := ∀ b, b < 251 ∨ 253 < b → m.1 b = m0.1 b
theorem low0 {a i j : Int32} {m : xMem} (h8 : m.1 1 8 = 0) : ∃ z, fX8_lowestFirst 251 1 a i j m = some (z, m) := by
  obtain ⟨k0, hk0⟩ := fuE0
  obtain ⟨z, e⟩ := between_ok 251 i j m
  rw [fX8_lowestFirst, fX8_lowestFirst_0, e, bind_e]
  by_cases q : i = j
  · rw [if_pos q, fX8_lowestFirst_22]
    exact ⟨_, Eq.refl _⟩
  · rw [if_neg q]
    by_cases q : z < 1000000
    · rw [if_pos q, hk0, fX8_lowestFirst_27, h8, xLet_e, if_pos (by decide), fX8_lowestFirst_148]
      exact ⟨_, Eq.refl _⟩
    · rw [if_neg q, fX8_lowestFirst_22]
      exact ⟨_, Eq.refl _⟩
theorem findFor0 {a : Nat} (ha : a < 2) {m0 m : xMem} (h8 : m0.1 1 8 = 0) (hS : Sme m0 m) : vOk (Sme m0) (fX8_findFor 251 1 (Int32.ofNat a) m) := by
  obtain ⟨k0, hk0⟩ := fuE0
  obtain ⟨n6, hn6⟩ := fuE 6 (by omega)
  have hf : Sme m0 (xFillM m 253 36 1000000) := by
    intro b hb
    rw [fill_row (by omega)]
    exact hS b hb
  have h8' : ∀ X, Sme m0 X → X.1 1 8 = 0 := fun X hX => by rw [hX 1 (by omega)]; exact h8
  rw [fX8_findFor, fX8_findFor_0, show fJ7_fill_53178 (251 + 2) 36 1000000 m = some (xFillM m 253 36 1000000) from rfl, bind_e, hk0, fX8_findFor_11, h8' _ hf, xLet_e, if_pos (by decide), fX8_findFor_107, hn6, ← of0]
  refine ff109 (I := Sme m0) ?_ ?_ 6 0 n6 _ rfl hf
  · intro i j k X hi hj hk hX
    obtain ⟨z1, e1⟩ := between_ok 251 (Int32.ofNat j) (Int32.ofNat i) X
    obtain ⟨z2, e2⟩ := between_ok 251 (Int32.ofNat i) (Int32.ofNat k) X
    obtain ⟨X', e3, r3⟩ := shorten_ok 251 (Int32.ofNat j) (Int32.ofNat k) (z1 + z2) X
    exact ⟨z1, z2, X', e1, e2, e3, fun b hb => by rw [r3 b (by omega)]; exact hX b hb⟩
  · intro X hX
    rw [hn6, ← of0]
    refine ff178 ha (I := fun _ _ => Sme m0) ?_ (fun _ _ _ h => h) (fun _ h => h) 6 0 n6 _ rfl hX
    intro i j Y hi hj hY
    obtain ⟨z, e⟩ := low0 (a := Int32.ofNat a) (i := Int32.ofNat i) (j := Int32.ofNat j) (h8' Y hY)
    exact ⟨z, e, fun b hb => by rw [put_row (by omega)]; exact hY b hb⟩
theorem find0 {m : xMem} (h8 : m.1 1 8 = 0) : vOk (Sme m) (fX8_find 251 1 m) := by
  obtain ⟨k0, hk0⟩ := fuE0
  have h0 : Sme m m := fun _ _ => rfl
  have hp : Sme m (xPut m 251 2 0) := fun b hb => put_row (by omega)
  rw [fX8_find, fX8_find_0, hk0, fX8_find_4, h8, xLet_e, if_pos (by decide), fX8_find_56, xLet_e]
  by_cases q : 0 = m.1 251 2
  · rw [if_neg (fun f => f q)]
    exact vOk_some h0
  · rw [if_pos q, xLet_e]
    refine vOk_bind (findFor0 (a := 0) (by decide) h8 hp) fun X hX => ?_
    refine vOk_bind (findFor0 (a := 1) (by decide) h8 hX) fun Y hY => ?_
    exact vOk_some hY
theorem count0 {m : xMem} (h7 : m.1 1 7 = 0) : ∃ x, fX6_countSecond 250 1 m = some (xPut m 1 13 x) := by
  obtain ⟨k0, hk0⟩ := fuE0
  rw [fX6_countSecond, fX6_countSecond_0, xLet_e, xLet_e, hk0, fX6_countSecond_9, h7, xLet_e, if_pos (by decide), fX6_countSecond_104, xLet_e, xLet_e, xLet_e]
  exact ⟨_, Eq.refl _⟩
/-- what a second leaves as it was, at the class's side -/
def Emp (m0 m : xMem) : Prop := m.1 1 7 = 0 ∧ m.1 1 8 = 0 ∧ m.1 1 9 = 0 ∧ ∀ b, 253 < b → m.1 b = m0.1 b
theorem pass0 {m0 m : xMem} {t : Nat} (h : Emp m0 m) : vOk (fun m1 => Emp m0 m1 ∧ m1.1 1 6 = m.1 1 6 + 1) (fX6_passSecond 250 1 t m) := by
  obtain ⟨k0, hk0⟩ := fuE0
  obtain ⟨h7, h8, h9, hr⟩ := h
  have e1 : fX6_comeInBursts 250 1 t m = some m := by
    rw [fX6_comeInBursts, fX6_comeInBursts_0, hk0, fX6_comeInBursts_2, h9, xLet_e, if_pos (by decide), fX6_comeInBursts_155]
  have e2 : fX6_openHalls 250 1 t m = some m := by
    rw [fX6_openHalls, fX6_openHalls_0, hk0, fX6_openHalls_2, h7, xLet_e, if_pos (by decide), fX6_openHalls_89]
  have e3 : fX6_turnEmptyLinks 250 1 m = some m := by
    rw [fX6_turnEmptyLinks, fX6_turnEmptyLinks_0, hk0, fX6_turnEmptyLinks_2, h8, xLet_e, if_pos (by decide), fX6_turnEmptyLinks_55]
  obtain ⟨X, e4, hX⟩ := find0 h8
  have x1 : X.1 1 = m.1 1 := hX 1 (by omega)
  have e5 : fX6_moveLinks 250 1 t X = some X := by
    rw [fX6_moveLinks, fX6_moveLinks_0, hk0, fX6_moveLinks_2, x1, h8, xLet_e, if_pos (by decide), fX6_moveLinks_150]
  obtain ⟨x, e6⟩ := count0 (m := X) (by rw [x1]; exact h7)
  rw [fX6_passSecond, fX6_passSecond_0, e1, bind_e, e2, bind_e, e3, bind_e, show 250 + 1 = 251 from rfl, e4, bind_e, e5, bind_e, e6, bind_e, xLet_e, xLet_e, xLet_e]
  refine vOk_some ⟨⟨?_, ?_, ?_, ?_⟩, ?_⟩
  · rw [put_nk (by decide), put_nk (by decide), x1]; exact h7
  · rw [put_nk (by decide), put_nk (by decide), x1]; exact h8
  · rw [put_nk (by decide), put_nk (by decide), x1]; exact h9
  · intro b hb
    rw [put_row (by omega), put_row (by omega), hX b (by omega)]
    exact hr b hb
  · rw [put_at, put_nk (by decide), x1]
theorem k301 (k : Nat) (hk : k < 301) (j : Nat) (hj : j < 301) : Int32.ofNat k ≤ Int32.ofNat j ↔ k ≤ j := by
  rw [Int32.le_iff_toInt_le, Int32.toInt_ofNat_of_lt (by omega), Int32.toInt_ofNat_of_lt (by omega)]
  omega
theorem kp1 : ∀ k, k < 301 → Int32.ofNat k + 1 = Int32.ofNat (k + 1) := by decide +kernel
theorem run24 {m0 : xMem} {t N : Nat} (hN : N < 301) : ∀ (e k n : Nat) (m : xMem), k + e = N → Emp m0 m → m.1 1 6 = Int32.ofNat k → vOk (fun r => r.1 = Int32.ofNat N ∧ Emp m0 r.2) (fX11_run_24 0 (Int32.ofNat N) (n + 1 + e) t (Int32.ofNat k) m) := by
  intro e
  induction e with
  | zero =>
    intro k n m hk h h6
    have hk : k = N := by omega
    subst hk
    rw [fX11_run_24, if_pos ((k301 k hN k hN).mpr (Nat.le_refl k)), xLet_e]
    exact vOk_some ⟨h6, h⟩
  | succ e ih =>
    intro k n m hk h h6
    rw [show n + 1 + (e + 1) = n + 1 + e + 1 from rfl, fX11_run_24, if_neg (fun q => by have := (k301 N hN k (by omega)).mp q; omega)]
    refine vOk_bind (pass0 h) fun X hX => ?_
    rw [xLet_e, kp1 k (by omega)]
    exact ih (k + 1) n X (by omega) hX.1 (by rw [hX.2, h6]; exact kp1 k (by omega))
theorem sec0 {m : xMem} (h1 : m.1 292 1 = 0) (h2 : m.1 292 2 = 0) (h3 : m.1 292 3 = 0) : fX12_second 291 m = some (xPut m 292 0 (m.1 292 0 + 1)) := by
  obtain ⟨k0, hk0⟩ := fuE0
  have in3 : xIn (3 : Int32) 1610 = true := by decide
  have cl3 : (3 : Int32).toNatClampNeg = 3 := by decide
  rw [fX12_second, fX12_second_0, in0, cond_e, cl0, r292, xLet_e, fX12_bursts, fX12_bursts_0, hk0, fX12_bursts_2, in3, cond_e, cl3, r292, h3, xLet_e, if_pos (by decide), bind_e, fX12_second_14, in1, cond_e, cl1, r292, h1, xLet_e, if_pos (by decide), hk0, fX12_second_37, in2, cond_e, cl2, r292, h2, xLet_e, if_pos (by decide), fX12_allRoutes, fX12_allRoutes_0, hk0, fX12_allRoutes_2, in1, cond_e, cl1, r292, h1, xLet_e, if_pos (by decide), bind_e, fX12_second_90, in2, cond_e, cl2, r292, h2, xLet_e, if_pos (by decide), hk0, fX12_second_172, in1, cond_e, cl1, r292, h1, xLet_e, if_pos (by decide), in0, cond_e, cl0, xLet_e, xLet_e, cond_e, xLet_e]
theorem run12 {N : Nat} (hN : N < 301) : ∀ (e k n : Nat) (m : xMem), k + e = N → m.1 292 1 = 0 → m.1 292 2 = 0 → m.1 292 3 = 0 → m.1 292 0 = Int32.ofNat k → ∃ m2, fX12_run_12 291 (Int32.ofNat N) (n + 1 + e) (Int32.ofNat k) m = some (Int32.ofNat N, m2) := by
  intro e
  induction e with
  | zero =>
    intro k n m hk h1 h2 h3 h0
    have hk : k = N := by omega
    subst hk
    rw [fX12_run_12, if_pos ((k301 k hN k hN).mpr (Nat.le_refl k)), in0, cond_e, cl0, r292, h0, xLet_e]
    exact ⟨m, rfl⟩
  | succ e ih =>
    intro k n m hk h1 h2 h3 h0
    rw [show n + 1 + (e + 1) = n + 1 + e + 1 from rfl, fX12_run_12, if_neg (fun q => by have := (k301 N hN k (by omega)).mp q; omega), sec0 h1 h2 h3, bind_e, xLet_e, kp1 k (by omega)]
    exact ih (k + 1) n _ (by omega) (by rw [put_nk (by decide)]; exact h1) (by rw [put_nk (by decide)]; exact h2) (by rw [put_nk (by decide)]; exact h3) (by rw [put_at, h0]; exact kp1 k (by omega))
theorem ofNat_in {a : Int32} {lo hi : Int32} {p q : Nat} (hp : lo.toInt = p) (hq : hi.toInt = q) (h0 : ¬ a < lo) (h1 : ¬ hi < a) : ∃ k, p ≤ k ∧ k ≤ q ∧ a = Int32.ofNat k := by
  rw [Int32.lt_iff_toInt_lt, hp] at h0
  rw [Int32.lt_iff_toInt_lt, hq] at h1
  have hb : hi.toInt < 2 ^ 31 := Int32.toInt_lt hi
  refine ⟨a.toInt.toNat, by omega, by omega, ?_⟩
  apply Int32.toInt_inj.mp
  rw [Int32.toInt_ofNat_of_lt (by omega)]
  omega
theorem rB_1_11 : (mB 1610).1 1 11 = -1 := by decide +kernel
theorem rB_1_6 : (mB 1610).1 1 6 = 0 := by decide +kernel
theorem rB_292_2b : (mB 1610).1 292 2 = 0 := by decide +kernel
theorem rB_292_3b : (mB 1610).1 292 3 = 0 := by decide +kernel
theorem law0 : fX11_law 0 (mB 1610) = some (260, mB 1610) := by
  rw [fX11_law, fX11_law_0, show (0 + 1) = 1 from rfl, rB_1_11, xLet_e, within_no (by decide), bind_e, if_pos rfl, fX11_law_34]
theorem k301b : ∀ k, k < 301 → ¬ (99999 : Int32) < 0 + Int32.ofNat k := by decide +kernel
theorem alike_run {a : Int32} : Alike (fX11_run 0 a) (fX12_run 291 a) (mB 1610) := by
  by_cases h1 : a < 1 ∨ 300 < a
  · refine ⟨-1, mB 1610, mB 1610, ?_, ?_⟩
    · rw [fX11_run, fX11_run_0, fX11_mayRun, fX11_mayRun_0, within_no h1, bind_e, if_pos rfl, fX11_mayRun_29, fX11_mayRun_30]
      rfl
    · rw [fX12_run, fX12_run_0, fX12_isRun, fX12_isRun_0, in_no h1, bind_e, if_pos rfl, fX12_isRun_28, fX12_isRun_29]
      rfl
  · obtain ⟨N, hN1, hN2, e⟩ := ofNat_in (a := a) (lo := 1) (hi := 300) (p := 1) (q := 300) (by decide) (by decide) (fun q => h1 (Or.inl q)) (fun q => h1 (Or.inr q))
    subst e
    have hw : ¬ Int32.ofNat N < 1 := fun q => h1 (Or.inl q)
    have hw2 : ¬ 300 < Int32.ofNat N := fun q => h1 (Or.inr q)
    obtain ⟨n, hn⟩ := fuE N (by omega)
    have c1 : vOk (fun r => r.1 = Int32.ofNat N ∧ Emp (mB 1610) r.2) (fX11_run 0 (Int32.ofNat N) (mB 1610)) := by
      have hmay : fX11_mayRun 0 (Int32.ofNat N) (mB 1610) = some (1, mB 1610) := by
        rw [fX11_mayRun, fX11_mayRun_0, within_yes hw hw2, bind_e, if_neg (by decide), show (0 + 1) = 1 from rfl, rB_1_6, xLet_e, xLet_e, if_neg (k301b N (by omega)), fX11_mayRun_30]
        rfl
      rw [fX11_run, fX11_run_0, hmay, bind_e, if_pos (show ¬ (1 : Int32) = 0 by decide), law0, bind_e, fX6_forgetRoutes, fX6_forgetRoutes_0, fX8_forget, fX8_forget_0]
      refine vOk_bind (Q := fun m => Emp (mB 1610) m ∧ m.1 1 6 = 0) ?_ fun X hX => ?_
      · refine ⟨_, Eq.refl _, ⟨?_, ?_, ?_, ?_⟩, ?_⟩
        · rw [put_ne (by decide)]; exact rB_1_7
        · rw [put_ne (by decide)]; exact rB_1_8
        · rw [put_ne (by decide)]; exact rA_3
        · intro b hb
          rw [put_row (by omega)]
        · rw [put_ne (by decide)]; exact rB_1_6
      · rw [hn, ← of0]
        exact run24 (by omega) N 0 n X (by omega) hX.1 hX.2
    obtain ⟨⟨z, m1⟩, e1, ez, hE⟩ := c1
    have ez : z = Int32.ofNat N := ez
    subst ez
    have hr : m1.1 292 = (mB 1610).1 292 := hE.2.2.2 292 (by omega)
    have c2 : ∃ m2, fX12_run 291 (Int32.ofNat N) m1 = some (Int32.ofNat N, m2) := by
      have hmay : fX12_isRun 291 (Int32.ofNat N) m1 = some (1, m1) := by
        rw [fX12_isRun, fX12_isRun_0, in_yes hw hw2, bind_e, if_neg (show ¬ (1 : Int32) = 0 by decide), in0, cond_e, cl0, r292, hr, rB_292_0, xLet_e, xLet_e, if_neg (k301b N (by omega)), fX12_isRun_29]
        rfl
      rw [fX12_run, fX12_run_0, hmay, bind_e, if_pos (show ¬ (1 : Int32) = 0 by decide), hn, ← of0]
      exact run12 (by omega) N 0 n m1 (by omega) (by rw [hr]; exact rB_292_1) (by rw [hr]; exact rB_292_2b) (by rw [hr]; exact rB_292_3b) (by rw [hr, rB_292_0]; rfl)
    obtain ⟨m2, e2⟩ := c2
    exact ⟨Int32.ofNat N, m1, m2, e1, e2⟩
