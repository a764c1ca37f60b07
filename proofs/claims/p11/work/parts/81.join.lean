/-! the two together: what holds between two calls -/
/-- the cells that the relation of the parts before speaks of -/
def KCo (b j : Nat) : Bool := Nat.ble 291 b || ((pNK.contains b && [6, 7, 8, 9].contains j) || (([34, 36, 38, 40, 42, 44, 46, 48, 50, 52, 117, 119, 121, 123, 125, 127, 129, 131, 133, 135] : List Nat).contains b && j == 1) || (([5, 88] : List Nat).contains b && j == 2) || (([8, 91] : List Nat).contains b && j == 5) || (([14, 97] : List Nat).contains b && j == 1))
theorem KCo_KC {b j : Nat} (h : KCo b j = true) : KC b j = true := by
  unfold KCo at h
  unfold KC
  rw [Bool.or_eq_true] at h
  rcases h with h | h
  · rw [h]; rfl
  · rw [Bool.or_eq_true, Bool.or_eq_true, Bool.or_eq_true, Bool.or_eq_true] at h
    rcases h with (((h | h) | h) | h) | h
    · have z : (pNK.contains b && [6, 7, 8, 9, 10, 11].contains j) = true := by
        rw [Bool.and_eq_true] at h ⊢
        refine ⟨h.1, List.contains_iff_mem.mpr ?_⟩
        exact (show ∀ j ∈ [6, 7, 8, 9], j ∈ [6, 7, 8, 9, 10, 11] by decide) j (List.contains_iff_mem.mp h.2)
      rw [z]; simp
    · rw [h]; simp
    · rw [h]; simp
    · rw [h]; simp
    · rw [h]; simp
theorem koI : ∀ k : Nat, k < 10 → KCo (1 + 33 + 2 * k) 1 = true := by decide +kernel
theorem koB : ∀ k : Nat, k < 10 → KCo (84 + 33 + 2 * k) 1 = true := by decide +kernel
theorem BC_lt {b j : Nat} (h : BC b j = true) : b < 291 := by
  unfold BC at h
  rw [Bool.or_eq_true, Bool.or_eq_true, Bool.and_eq_true, Bool.and_eq_true, Bool.and_eq_true] at h
  rcases h with (⟨h, _⟩ | ⟨h, _⟩) | ⟨h, _⟩
  · exact (show ∀ b ∈ pHall, b < 291 by decide +kernel) b (List.contains_iff_mem.mp h)
  · exact (show ∀ b ∈ pLink, b < 291 by decide +kernel) b (List.contains_iff_mem.mp h)
  · exact (show ∀ b ∈ pBurst, b < 291 by decide +kernel) b (List.contains_iff_mem.mp h)
theorem KC_hi {b j : Nat} (h : 291 ≤ b) : KC b j = true := by
  unfold KC
  rw [Nat.ble_eq_true_of_le h]
  rfl
def CI (m : xMem) : Prop := ∀ b j, BC b j = true → 0 ≤ (m.1 b j).toInt ∧ (m.1 b j).toInt ≤ 1
def RP (m : xMem) : Prop := GR m ∧ GL m ∧ bw 0 300 (m.1 291 4) ∧ GA (m.1 293)
def Rl (c0 : Nat) (M : xMem) (g : Nat → Int32) : Prop := (M.1 c0 6 = g 0 ∧ M.1 c0 7 = g 1 ∧ M.1 c0 8 = g 2 ∧ M.1 c0 9 = g 3 ∧ M.1 (c0 + 4) 2 = g 6 ∧ M.1 (c0 + 7) 5 = g 7 ∧ M.1 (c0 + 13) 1 = g 8) ∧ ∀ k : Nat, k < 10 → (k : Int) < (g 2).toInt → M.1 (c0 + 33 + 2 * k) 1 = g (210 + 14 * k)
def Inv (m : xMem) : Prop := CI m ∧ (IR m m ∧ RP m) ∧ Rl 1 m (m.1 292) ∧ Rl 84 m (m.1 293)
abbrev cfgJ (j : Nat) : Prop := j ≤ 8 ∨ (210 ≤ j ∧ j < 350 ∧ (j - 210) % 14 = 0)
theorem CI_IC {m : xMem} (h : CI m) : IC m m := ⟨fun _ _ _ => rfl, h, rfl⟩
theorem RI_cong {m m1 : xMem} (e : ∀ b, 291 ≤ b → ∀ j, m1.1 b j = m.1 b j) (h : IR m m ∧ RP m) : IR m1 m1 ∧ RP m1 := by
  have r2 : m1.1 292 = m.1 292 := funext (e 292 (by omega))
  have r3 : m1.1 293 = m.1 293 := funext (e 293 (by omega))
  obtain ⟨⟨_, i1, i2, i3⟩, g, l, b, a⟩ := h
  refine ⟨⟨fun _ _ _ => rfl, fun j hj => by rw [r2]; exact i1 j hj, fun j => by rw [e 311 (by omega)]; exact i2 j, fun j => by rw [e 314 (by omega)]; exact i3 j⟩, GR_ofB g (by rw [r2]; exact g.1) (e 296 (by omega)) (e 298 (by omega)) (e 299 (by omega)) (e 300 (by omega)), GL_cong (e 296 (by omega)) (e 298 (by omega)) (e 299 (by omega)) (e 300 (by omega)) l, by rw [e 291 (by omega)]; exact b, by rw [r3]; exact a⟩
theorem Rl_mv {c0 : Nat} {S M : xMem} {g g' : Nat → Int32} (hc : c0 = 1 ∨ c0 = 84) (e : ∀ b j, KCo b j = true → b < 291 → M.1 b j = S.1 b j) (eg : ∀ j, cfgJ j → g' j = g j) (h : Rl c0 S g) : Rl c0 M g' := by
  obtain ⟨⟨a0, a1, a2, a3, a4, a5, a6⟩, k⟩ := h
  rcases hc with rfl | rfl
  · refine ⟨⟨?_, ?_, ?_, ?_, ?_, ?_, ?_⟩, fun i hi hl => ?_⟩
    · rw [e 1 6 (by decide) (by omega), eg 0 (by omega)]; exact a0
    · rw [e 1 7 (by decide) (by omega), eg 1 (by omega)]; exact a1
    · rw [e 1 8 (by decide) (by omega), eg 2 (by omega)]; exact a2
    · rw [e 1 9 (by decide) (by omega), eg 3 (by omega)]; exact a3
    · rw [e (1 + 4) 2 (by decide) (by omega), eg 6 (by omega)]; exact a4
    · rw [e (1 + 7) 5 (by decide) (by omega), eg 7 (by omega)]; exact a5
    · rw [e (1 + 13) 1 (by decide) (by omega), eg 8 (by omega)]; exact a6
    · rw [eg 2 (by omega)] at hl
      rw [e (1 + 33 + 2 * i) 1 (koI i hi) (by omega), eg (210 + 14 * i) (by omega)]
      exact k i hi hl
  · refine ⟨⟨?_, ?_, ?_, ?_, ?_, ?_, ?_⟩, fun i hi hl => ?_⟩
    · rw [e 84 6 (by decide) (by omega), eg 0 (by omega)]; exact a0
    · rw [e 84 7 (by decide) (by omega), eg 1 (by omega)]; exact a1
    · rw [e 84 8 (by decide) (by omega), eg 2 (by omega)]; exact a2
    · rw [e 84 9 (by decide) (by omega), eg 3 (by omega)]; exact a3
    · rw [e (84 + 4) 2 (by decide) (by omega), eg 6 (by omega)]; exact a4
    · rw [e (84 + 7) 5 (by decide) (by omega), eg 7 (by omega)]; exact a5
    · rw [e (84 + 13) 1 (by decide) (by omega), eg 8 (by omega)]; exact a6
    · rw [eg 2 (by omega)] at hl
      rw [e (84 + 33 + 2 * i) 1 (koB i hi) (by omega), eg (210 + 14 * i) (by omega)]
      exact k i hi hl
theorem cls_rows {S m m1 : xMem} (hI : IC S m1) (e : ∀ b, 291 ≤ b → ∀ j, S.1 b j = m.1 b j) : ∀ b, 291 ≤ b → ∀ j, m1.1 b j = m.1 b j :=
  fun b hb j => (hI.kc b j (KC_hi hb)).trans (e b hb j)
theorem Inv_C {m m1 : xMem} (h : Inv m) (hI : IC m m1) : Inv m1 := by
  have e := cls_rows hI (fun _ _ _ => rfl)
  obtain ⟨a, b, c, d⟩ := h
  refine ⟨hI.bc, RI_cong e b, Rl_mv (Or.inl rfl) (fun b j hk _ => hI.kc b j (KCo_KC hk)) (fun j _ => e 292 (by omega) j) c, Rl_mv (Or.inr rfl) (fun b j hk _ => hI.kc b j (KCo_KC hk)) (fun j _ => e 293 (by omega) j) d⟩
theorem Inv_R {m1 S' m2 : xMem} (hc : CI m1) (hI : IR S' m2) (hP : RP S') (fr : ∀ b j, b < 291 → S'.1 b j = m1.1 b j) (r1 : Rl 1 m1 (S'.1 292)) (r2 : Rl 84 m1 (S'.1 293)) : Inv m2 := by
  obtain ⟨g, l, b, a⟩ := hP
  have lo : ∀ b j, b < 291 → m2.1 b j = m1.1 b j := fun b j hb => (hI.1 b j ⟨by omega, by omega⟩).trans (fr b j hb)
  have r3 : m2.1 293 = S'.1 293 := funext fun j => hI.1 293 j ⟨by omega, by omega⟩
  refine ⟨fun b j hk => ?_, ⟨IR_self hI, GR_mem g hI, GL_cong (fun j => hI.1 296 j ⟨by omega, by omega⟩) (fun j => hI.1 298 j ⟨by omega, by omega⟩) (fun j => hI.1 299 j ⟨by omega, by omega⟩) (fun j => hI.1 300 j ⟨by omega, by omega⟩) l, by rw [hI.1 291 4 ⟨by omega, by omega⟩]; exact b, by rw [r3]; exact a⟩, ?_, ?_⟩
  · rw [lo b j (BC_lt hk)]; exact hc b j hk
  · exact Rl_mv (Or.inl rfl) (fun b j _ hb => lo b j hb) (fun j hj => hI.1 292 j ⟨by omega, by omega⟩) r1
  · exact Rl_mv (Or.inr rfl) (fun b j _ hb => lo b j hb) (fun j _ => by rw [r3]) r2
theorem Inv_R0 {m m2 : xMem} (h : Inv m) (hI : IR m m2) : Inv m2 := Inv_R h.1 hI h.2.1.2 (fun _ _ _ => rfl) h.2.2.1 h.2.2.2
theorem Rl_keep {m : xMem} {x y : Nat} {v : Int32} {g : Nat → Int32} (hx : x < 84) (h : Rl 84 m g) : Rl 84 (xPut m x y v) g := by
  obtain ⟨⟨a0, a1, a2, a3, a4, a5, a6⟩, k⟩ := h
  refine ⟨⟨?_, ?_, ?_, ?_, ?_, ?_, ?_⟩, fun i hi hl => ?_⟩
  · rw [← xP_pl (by omega)]; exact a0
  · rw [← xP_pl (by omega)]; exact a1
  · rw [← xP_pl (by omega)]; exact a2
  · rw [← xP_pl (by omega)]; exact a3
  · rw [← xP_pl (by omega)]; exact a4
  · rw [← xP_pl (by omega)]; exact a5
  · rw [← xP_pl (by omega)]; exact a6
  · rw [← xP_pl (by omega)]; exact k i hi hl
theorem Rl_now {m : xMem} {x y z : Nat} {v : Int32} {g g' : Nat → Int32} (hx : (x = 1 ∧ y = 6 ∧ z = 0) ∨ (x = 1 ∧ y = 7 ∧ z = 1) ∨ (x = 1 ∧ y = 9 ∧ z = 3) ∨ (x = 5 ∧ y = 2 ∧ z = 6) ∨ (x = 8 ∧ y = 5 ∧ z = 7) ∨ (x = 14 ∧ y = 1 ∧ z = 8)) (h : Rl 1 m g) (hz : g' z = v) (eg : ∀ j, j ≠ z → cfgJ j → g' j = g j) : Rl 1 (xPut m x y v) g' := by
  obtain ⟨⟨a0, a1, a2, a3, a4, a5, a6⟩, k⟩ := h
  rcases hx with ⟨rfl, rfl, rfl⟩ | ⟨rfl, rfl, rfl⟩ | ⟨rfl, rfl, rfl⟩ | ⟨rfl, rfl, rfl⟩ | ⟨rfl, rfl, rfl⟩ | ⟨rfl, rfl, rfl⟩
  · refine ⟨⟨?_, ?_, ?_, ?_, ?_, ?_, ?_⟩, fun i hi hl => ?_⟩
    · rw [hz]; exact xP_eq.symm
    · rw [← xP_sl (by omega), eg 1 (by omega) (by omega)]; exact a1
    · rw [← xP_sl (by omega), eg 2 (by omega) (by omega)]; exact a2
    · rw [← xP_sl (by omega), eg 3 (by omega) (by omega)]; exact a3
    · rw [← xP_pl (by omega), eg 6 (by omega) (by omega)]; exact a4
    · rw [← xP_pl (by omega), eg 7 (by omega) (by omega)]; exact a5
    · rw [← xP_pl (by omega), eg 8 (by omega) (by omega)]; exact a6
    · rw [eg 2 (by omega) (by omega)] at hl
      rw [← xP_pl (by omega), eg (210 + 14 * i) (by omega) (by omega)]
      exact k i hi hl
  · refine ⟨⟨?_, ?_, ?_, ?_, ?_, ?_, ?_⟩, fun i hi hl => ?_⟩
    · rw [← xP_sl (by omega), eg 0 (by omega) (by omega)]; exact a0
    · rw [hz]; exact xP_eq.symm
    · rw [← xP_sl (by omega), eg 2 (by omega) (by omega)]; exact a2
    · rw [← xP_sl (by omega), eg 3 (by omega) (by omega)]; exact a3
    · rw [← xP_pl (by omega), eg 6 (by omega) (by omega)]; exact a4
    · rw [← xP_pl (by omega), eg 7 (by omega) (by omega)]; exact a5
    · rw [← xP_pl (by omega), eg 8 (by omega) (by omega)]; exact a6
    · rw [eg 2 (by omega) (by omega)] at hl
      rw [← xP_pl (by omega), eg (210 + 14 * i) (by omega) (by omega)]
      exact k i hi hl
  · refine ⟨⟨?_, ?_, ?_, ?_, ?_, ?_, ?_⟩, fun i hi hl => ?_⟩
    · rw [← xP_sl (by omega), eg 0 (by omega) (by omega)]; exact a0
    · rw [← xP_sl (by omega), eg 1 (by omega) (by omega)]; exact a1
    · rw [← xP_sl (by omega), eg 2 (by omega) (by omega)]; exact a2
    · rw [hz]; exact xP_eq.symm
    · rw [← xP_pl (by omega), eg 6 (by omega) (by omega)]; exact a4
    · rw [← xP_pl (by omega), eg 7 (by omega) (by omega)]; exact a5
    · rw [← xP_pl (by omega), eg 8 (by omega) (by omega)]; exact a6
    · rw [eg 2 (by omega) (by omega)] at hl
      rw [← xP_pl (by omega), eg (210 + 14 * i) (by omega) (by omega)]
      exact k i hi hl
  · refine ⟨⟨?_, ?_, ?_, ?_, ?_, ?_, ?_⟩, fun i hi hl => ?_⟩
    · rw [← xP_pl (by omega), eg 0 (by omega) (by omega)]; exact a0
    · rw [← xP_pl (by omega), eg 1 (by omega) (by omega)]; exact a1
    · rw [← xP_pl (by omega), eg 2 (by omega) (by omega)]; exact a2
    · rw [← xP_pl (by omega), eg 3 (by omega) (by omega)]; exact a3
    · rw [hz]; exact xP_eq.symm
    · rw [← xP_pl (by omega), eg 7 (by omega) (by omega)]; exact a5
    · rw [← xP_pl (by omega), eg 8 (by omega) (by omega)]; exact a6
    · rw [eg 2 (by omega) (by omega)] at hl
      rw [← xP_pl (by omega), eg (210 + 14 * i) (by omega) (by omega)]
      exact k i hi hl
  · refine ⟨⟨?_, ?_, ?_, ?_, ?_, ?_, ?_⟩, fun i hi hl => ?_⟩
    · rw [← xP_pl (by omega), eg 0 (by omega) (by omega)]; exact a0
    · rw [← xP_pl (by omega), eg 1 (by omega) (by omega)]; exact a1
    · rw [← xP_pl (by omega), eg 2 (by omega) (by omega)]; exact a2
    · rw [← xP_pl (by omega), eg 3 (by omega) (by omega)]; exact a3
    · rw [← xP_pl (by omega), eg 6 (by omega) (by omega)]; exact a4
    · rw [hz]; exact xP_eq.symm
    · rw [← xP_pl (by omega), eg 8 (by omega) (by omega)]; exact a6
    · rw [eg 2 (by omega) (by omega)] at hl
      rw [← xP_pl (by omega), eg (210 + 14 * i) (by omega) (by omega)]
      exact k i hi hl
  · refine ⟨⟨?_, ?_, ?_, ?_, ?_, ?_, ?_⟩, fun i hi hl => ?_⟩
    · rw [← xP_pl (by omega), eg 0 (by omega) (by omega)]; exact a0
    · rw [← xP_pl (by omega), eg 1 (by omega) (by omega)]; exact a1
    · rw [← xP_pl (by omega), eg 2 (by omega) (by omega)]; exact a2
    · rw [← xP_pl (by omega), eg 3 (by omega) (by omega)]; exact a3
    · rw [← xP_pl (by omega), eg 6 (by omega) (by omega)]; exact a4
    · rw [← xP_pl (by omega), eg 7 (by omega) (by omega)]; exact a5
    · rw [hz]; exact xP_eq.symm
    · rw [eg 2 (by omega) (by omega)] at hl
      rw [← xP_pl (by omega), eg (210 + 14 * i) (by omega) (by omega)]
      exact k i hi hl
theorem cnt_j {m m1 S' m2 : xMem} {x y z : Nat} {v : Int32} (h : Inv m) (hx : (x = 1 ∧ y = 6 ∧ z = 0) ∨ (x = 1 ∧ y = 7 ∧ z = 1) ∨ (x = 1 ∧ y = 9 ∧ z = 3) ∨ (x = 5 ∧ y = 2 ∧ z = 6) ∨ (x = 8 ∧ y = 5 ∧ z = 7) ∨ (x = 14 ∧ y = 1 ∧ z = 8)) (hI : IC (xPut m x y v) m1) (hR : IR S' m2) (hP : RP S') (hz : S'.1 292 z = v) (eg : ∀ j, j ≠ z → cfgJ j → S'.1 292 j = m1.1 292 j) (e3 : ∀ j, S'.1 293 j = m1.1 293 j) (fr : ∀ b j, b < 291 → S'.1 b j = m1.1 b j) : Inv m2 := by
  have e := cls_rows (m := m) hI (fun b hb j => (xP_pl (by omega)).symm)
  refine Inv_R hI.bc hR hP fr ?_ ?_
  · refine Rl_mv (Or.inl rfl) (fun b j hk _ => hI.kc b j (KCo_KC hk)) (fun _ _ => rfl) (Rl_now hx h.2.2.1 hz fun j hj hc => ?_)
    rw [eg j hj hc, e 292 (by omega) j]
  · refine Rl_mv (Or.inr rfl) (fun b j hk _ => hI.kc b j (KCo_KC hk)) (fun j _ => ?_) (Rl_keep (by omega) h.2.2.2)
    rw [e3 j, e 293 (by omega) j]
theorem cnt_w {m m1 S S' m2 : xMem} {x y z : Nat} {v : Int32} (h : Inv m) (hx : (x = 1 ∧ y = 6 ∧ z = 0) ∨ (x = 1 ∧ y = 7 ∧ z = 1) ∨ (x = 1 ∧ y = 9 ∧ z = 3) ∨ (x = 5 ∧ y = 2 ∧ z = 6) ∨ (x = 8 ∧ y = 5 ∧ z = 7) ∨ (x = 14 ∧ y = 1 ∧ z = 8)) (hI : IC S m1) (hS : ∀ b j, (KCo b j = true ∨ 291 ≤ b) → S.1 b j = (xPut m x y v).1 b j) (hR : IR S' m2) (hP : RP S') (hz : S'.1 292 z = v) (eg : ∀ j, j ≠ z → cfgJ j → S'.1 292 j = m1.1 292 j) (e3 : ∀ j, S'.1 293 j = m1.1 293 j) (fr : ∀ b j, b < 291 → S'.1 b j = m1.1 b j) : Inv m2 := by
  have e := cls_rows (m := m) hI (fun b hb j => (hS b j (Or.inr hb)).trans (xP_pl (by omega)).symm)
  refine Inv_R hI.bc hR hP fr ?_ ?_
  · refine Rl_mv (Or.inl rfl) (fun b j hk _ => (hI.kc b j (KCo_KC hk)).trans (hS b j (Or.inl hk))) (fun _ _ => rfl) (Rl_now hx h.2.2.1 hz fun j hj hc => ?_)
    rw [eg j hj hc, e 292 (by omega) j]
  · refine Rl_mv (Or.inr rfl) (fun b j hk _ => (hI.kc b j (KCo_KC hk)).trans (hS b j (Or.inl hk))) (fun j _ => ?_) (Rl_keep (by omega) h.2.2.2)
    rw [e3 j, e 293 (by omega) j]
theorem RP_w {m m1 S : xMem} (h : Inv m) (hI : IC S m1) (hS : ∀ b, 291 ≤ b → ∀ j, S.1 b j = m.1 b j) : (IR m1 m1 ∧ RP m1) ∧ ∀ b, 291 ≤ b → ∀ j, m1.1 b j = m.1 b j := by
  have e := cls_rows (m := m) hI hS
  exact ⟨RI_cong e h.2.1, e⟩
theorem ko_keep : ∀ a ∈ pKeep, ∀ b j, KCo b j = true → b ≠ a := by
  intro a ha b j h q
  subst q
  have k := (show ∀ a ∈ pKeep, Nat.ble 291 a = false ∧ pNK.contains a = false ∧ ([34, 36, 38, 40, 42, 44, 46, 48, 50, 52, 117, 119, 121, 123, 125, 127, 129, 131, 133, 135] : List Nat).contains a = false ∧ ([5, 88] : List Nat).contains a = false ∧ ([8, 91] : List Nat).contains a = false ∧ ([14, 97] : List Nat).contains a = false by decide +kernel) b ha
  unfold KCo at h
  rw [k.1, k.2.1, k.2.2.1, k.2.2.2.1, k.2.2.2.2.1, k.2.2.2.2.2] at h
  cases h
theorem loadC_o {m : xMem} {n : Nat} {c v : Int32} (b j : Nat) (h : KCo b j = true ∨ 291 ≤ b) : (xPut (xPut m 15 n c) 14 1 v).1 b j = (xPut m 14 1 v).1 b j := by
  have h1 : b ≠ 15 := h.elim (fun q => ko_keep 15 (by decide) b j q) (fun q => by omega)
  show (if b = 14 ∧ j = 1 then v else if b = 15 ∧ j = n then c else m.1 b j) = (if b = 14 ∧ j = 1 then v else m.1 b j)
  rw [if_neg (c := b = 15 ∧ j = n) (fun w => h1 w.1)]
theorem dayC_o {m : xMem} {n : Nat} {c : Int32} (b j : Nat) (h : KCo b j = true ∨ 291 ≤ b) : (dayC m n c).1 b j = (xPut m 5 2 (m.1 5 2 + 1)).1 b j := by
  have h1 : b ≠ 6 := h.elim (fun q => ko_keep 6 (by decide) b j q) (fun q => by omega)
  have h2 : b ≠ 7 := h.elim (fun q => ko_keep 7 (by decide) b j q) (fun q => by omega)
  show (if b = 5 ∧ j = 2 then _ else if b = 7 ∧ j = n then _ else if b = 6 ∧ j = n then _ else m.1 b j) = (if b = 5 ∧ j = 2 then _ else m.1 b j)
  rw [if_neg (c := b = 7 ∧ j = n) (fun w => h2 w.1), if_neg (c := b = 6 ∧ j = n) (fun w => h1 w.1)]
theorem mendC_o {m : xMem} {a1 a2 a3 a4 : Int32} (b j : Nat) (h : KCo b j = true ∨ 291 ≤ b) : (mendC m a1 a2 a3 a4).1 b j = (xPut m 8 5 (m.1 8 5 + 1)).1 b j := by
  have h1 : b ≠ 9 := h.elim (fun q => ko_keep 9 (by decide) b j q) (fun q => by omega)
  have h2 : b ≠ 10 := h.elim (fun q => ko_keep 10 (by decide) b j q) (fun q => by omega)
  have h3 : b ≠ 11 := h.elim (fun q => ko_keep 11 (by decide) b j q) (fun q => by omega)
  have h4 : b ≠ 12 := h.elim (fun q => ko_keep 12 (by decide) b j q) (fun q => by omega)
  show (if b = 8 ∧ j = 5 then _ else if b = 12 ∧ j = (m.1 8 5).toNatClampNeg then _ else if b = 11 ∧ j = (m.1 8 5).toNatClampNeg then _ else if b = 10 ∧ j = (m.1 8 5).toNatClampNeg then _ else if b = 9 ∧ j = (m.1 8 5).toNatClampNeg then _ else m.1 b j) = (if b = 8 ∧ j = 5 then _ else m.1 b j)
  rw [if_neg (c := b = 12 ∧ j = (m.1 8 5).toNatClampNeg) (fun w => h4 w.1), if_neg (c := b = 11 ∧ j = (m.1 8 5).toNatClampNeg) (fun w => h3 w.1), if_neg (c := b = 10 ∧ j = (m.1 8 5).toNatClampNeg) (fun w => h2 w.1), if_neg (c := b = 9 ∧ j = (m.1 8 5).toNatClampNeg) (fun w => h1 w.1)]
theorem RP_cls {m m1 : xMem} {x y : Nat} {v : Int32} (h : Inv m) (hx : x < 291) (hI : IC (xPut m x y v) m1) : (IR m1 m1 ∧ RP m1) ∧ ∀ b, 291 ≤ b → ∀ j, m1.1 b j = m.1 b j := by
  have e := cls_rows (m := m) hI (fun b hb j => (xP_pl (by omega)).symm)
  exact ⟨RI_cong e h.2.1, e⟩
theorem GR_put {R : xMem} {z : Nat} {v : Int32} (hG : GR R) (hz : z ≠ 2 ∧ z ≤ 8) (h1 : z = 1 → bw 0 6 v) (h3 : z = 3 → bw 0 30 v) (h4 : z = 4 → bw 0 4 v) (h5 : z = 5 → bw (-1) 3 v) (h6 : z = 6 → bw 0 40 v) (h7 : z = 7 → bw 0 6 v) (h8 : z = 8 → bw 0 60 v) : GR (xPut R 292 z v) := by
  have e : ∀ j, j ≠ z → (xPut R 292 z v).1 292 j = R.1 292 j := fun j hj => (xP_sl hj).symm
  have q : (xPut R 292 z v).1 292 z = v := xP_eq.symm
  obtain ⟨x1, x2, x3, x4, x5, x6, x7, x8⟩ := hG.1.1
  refine GR_ofB hG ⟨⟨?_, ?_, ?_, ?_, ?_, ?_, ?_, ?_⟩, GA_rows hG.1 fun j _ _ => e j (by omega), GA_cyc hG.1 (fun j _ _ => e j (by omega)) (e 2 (by omega)), GA_bur hG.1 fun j _ _ => e j (by omega), GA_stp hG.1 fun j _ _ => e j (by omega), GA_lds hG.1 fun j _ _ => e j (by omega)⟩ (fun _ => rfl) (fun _ => rfl) (fun _ => rfl) (fun _ => rfl)
  · by_cases w : z = 1
    · subst w; rw [q]; exact h1 rfl
    · rw [e 1 (by omega)]; exact x1
  · rw [e 2 (by omega)]; exact x2
  · by_cases w : z = 3
    · subst w; rw [q]; exact h3 rfl
    · rw [e 3 (by omega)]; exact x3
  · by_cases w : z = 4
    · subst w; rw [q]; exact h4 rfl
    · rw [e 4 (by omega)]; exact x4
  · by_cases w : z = 5
    · subst w; rw [q]; exact h5 rfl
    · rw [e 5 (by omega)]; exact x5
  · by_cases w : z = 6
    · subst w; rw [q]; exact h6 rfl
    · rw [e 6 (by omega)]; exact x6
  · by_cases w : z = 7
    · subst w; rw [q]; exact h7 rfl
    · rw [e 7 (by omega)]; exact x7
  · by_cases w : z = 8
    · subst w; rw [q]; exact h8 rfl
    · rw [e 8 (by omega)]; exact x8
theorem GR_putX {R : xMem} {j : Nat} {v : Int32} (hG : GR R) (hj : 1380 ≤ j) (hl : 1550 ≤ j → bw 0 80 v) : GR (xPut R 292 j v) := by
  have e : ∀ i, i < 1380 → (xPut R 292 j v).1 292 i = R.1 292 i := fun i hi => (xP_sl (by omega)).symm
  refine GR_ofB hG ⟨GA_cnt hG.1 fun i _ _ => e i (by omega), GA_rows hG.1 fun i _ _ => e i (by omega), GA_cyc hG.1 (fun i _ _ => e i (by omega)) (e 2 (by omega)), GA_bur hG.1 fun i _ _ => e i (by omega), GA_stp hG.1 fun i _ _ => e i (by omega), fun i hi => ?_⟩ (fun _ => rfl) (fun _ => rfl) (fun _ => rfl) (fun _ => rfl)
  by_cases q : 1550 + i = j
  · rw [q, show (xPut R 292 j v).1 292 j = v from xP_eq.symm]; exact hl (by omega)
  · rw [← xP_sl q]; exact hG.1.2.2.2.2.2 i hi
theorem RP_292 {R : xMem} {j : Nat} {v : Int32} (h : RP R) (g : GR (xPut R 292 j v)) : RP (xPut R 292 j v) := ⟨g, h.2.1, h.2.2.1, h.2.2.2⟩
theorem add1 {x : Int32} {n : Int} (h : x.toInt ≤ n) (hn : n < 2147483647) : (x + 1).toInt = x.toInt + 1 := by
  have c1 : (1 : Int32).toInt = 1 := rfl
  have t := tiB x
  rw [Int32.toInt_add, c1]
  exact Int.bmod_eq_of_le (by omega) (by omega)
section
variable {m : xMem} {p : Int32 × xMem} {a1 a2 a3 a4 a5 a6 a7 : Int32}
theorem hall_j (h : Inv m) (hp : if (1 ≤ a1.toInt ∧ a1.toInt ≤ 999) ∧ (m.1 1 7).toInt ≤ 5 then p.1 = m.1 1 7 ∧ IC (xPut m 1 7 (m.1 1 7 + 1)) p.2 else p.1 = -1 ∧ IC m p.2) : vOk (fun q : Int32 × xMem => Inv q.2 ∧ p.1 = q.1) (fX12_hall 291 a1 p.2) := by
  have E : m.1 1 7 = m.1 292 1 := h.2.2.1.1.2.1
  by_cases c : (1 ≤ a1.toInt ∧ a1.toInt ≤ 999) ∧ (m.1 1 7).toInt ≤ 5
  · rw [if_pos c] at hp
    obtain ⟨r, e⟩ := RP_cls h (by omega) hp.2
    have e1 : p.2.1 292 1 = m.1 1 7 := (e 292 (by omega) 1).trans E.symm
    have hb : 0 ≤ (p.2.1 292 1).toInt ∧ (p.2.1 292 1).toInt ≤ 6 := r.2.1.1.1.1
    refine vOk_mono (hall_r r.2.1 r.1) fun q hq => ?_
    rw [e1, if_pos c] at hq
    rw [e1] at hb
    refine ⟨cnt_j h (by omega) hp.2 hq.2 (RP_292 r.2 (GR_put r.2.1 (by omega) (fun _ => ?_) (fun q => by omega) (fun q => by omega) (fun q => by omega) (fun q => by omega) (fun q => by omega) (fun q => by omega))) xP_eq.symm (fun j hj _ => (xP_sl hj).symm) (fun _ => rfl) (fun b j hb => (xP_pl (by omega)).symm), hp.1.trans hq.1.symm⟩
    have := add1 (n := 5) c.2 (by omega)
    exact ⟨by omega, by omega⟩
  · rw [if_neg c] at hp
    have h1 := Inv_C h hp.2
    have e := cls_rows hp.2 (fun _ _ _ => rfl)
    have e1 : p.2.1 292 1 = m.1 1 7 := (e 292 (by omega) 1).trans E.symm
    refine vOk_mono (hall_r h1.2.1.2.1 h1.2.1.1) fun q hq => ?_
    rw [e1, if_neg c] at hq
    exact ⟨Inv_R0 h1 hq.2, hp.1.trans hq.1.symm⟩
theorem load_j (h : Inv m) (hp : if (0 ≤ a1.toInt ∧ a1.toInt ≤ 80) ∧ (m.1 14 1).toInt < 60 then p.1 = m.1 14 1 + 1 ∧ IC (xPut (xPut m 15 (m.1 14 1).toNatClampNeg a1) 14 1 (m.1 14 1 + 1)) p.2 else p.1 = -1 ∧ IC m p.2) : vOk (fun q : Int32 × xMem => Inv q.2 ∧ p.1 = q.1) (fX12_load 291 a1 p.2) := by
  have E : m.1 14 1 = m.1 292 8 := h.2.2.1.1.2.2.2.2.2.2
  by_cases c : (0 ≤ a1.toInt ∧ a1.toInt ≤ 80) ∧ (m.1 14 1).toInt < 60
  · rw [if_pos c] at hp
    obtain ⟨r, e⟩ := RP_w h hp.2 (fun b hb j => (loadC_o b j (Or.inr hb)).trans (xP_pl (by omega)).symm)
    have e1 : p.2.1 292 8 = m.1 14 1 := (e 292 (by omega) 8).trans E.symm
    have hb : 0 ≤ (p.2.1 292 8).toInt ∧ (p.2.1 292 8).toInt ≤ 60 := r.2.1.1.1.2.2.2.2.2.2.2
    refine vOk_mono (load_r r.2.1 r.1) fun q hq => ?_
    rw [e1, if_pos c] at hq
    rw [e1] at hb
    have wn : (m.1 14 1).toNatClampNeg = (m.1 14 1).toInt.toNat := rfl
    have g1 : GR (xPut p.2 292 (1550 + (m.1 14 1).toNatClampNeg) a1) := GR_putX r.2.1 (by omega) (fun _ => ⟨by omega, by omega⟩)
    refine ⟨cnt_w h (by omega) hp.2 loadC_o hq.2 (RP_292 (RP_292 r.2 g1) (GR_put g1 (by omega) (fun q => by omega) (fun q => by omega) (fun q => by omega) (fun q => by omega) (fun q => by omega) (fun q => by omega) (fun _ => ?_))) xP_eq.symm (fun j hj hc => by rw [← xP_sl hj, ← xP_sl (by omega)]) (fun _ => rfl) (fun b j hb => by rw [← xP_pl (by omega), ← xP_pl (by omega)]), hp.1.trans hq.1.symm⟩
    have := add1 (x := m.1 14 1) (n := 59) (by omega) (by omega)
    exact ⟨by omega, by omega⟩
  · rw [if_neg c] at hp
    have h1 := Inv_C h hp.2
    have e := cls_rows hp.2 (fun _ _ _ => rfl)
    have e1 : p.2.1 292 8 = m.1 14 1 := (e 292 (by omega) 8).trans E.symm
    refine vOk_mono (load_r h1.2.1.2.1 h1.2.1.1) fun q hq => ?_
    rw [e1, if_neg c] at hq
    exact ⟨Inv_R0 h1 hq.2, hp.1.trans hq.1.symm⟩
theorem unload_j (h : Inv m) (hp : p.1 = m.1 14 1 ∧ IC (xPut m 14 1 0) p.2) : vOk (fun q : Int32 × xMem => Inv q.2 ∧ p.1 = q.1) (fX12_unload 291 p.2) := by
  have E : m.1 14 1 = m.1 292 8 := h.2.2.1.1.2.2.2.2.2.2
  obtain ⟨r, e⟩ := RP_cls h (by omega) hp.2
  have e1 : p.2.1 292 8 = m.1 14 1 := (e 292 (by omega) 8).trans E.symm
  refine vOk_mono (unload_r r.1) fun q hq => ?_
  refine ⟨cnt_j h (by omega) hp.2 hq.2 (RP_292 r.2 (GR_put r.2.1 (by omega) (fun q => by omega) (fun q => by omega) (fun q => by omega) (fun q => by omega) (fun q => by omega) (fun q => by omega) (fun _ => ⟨by decide, by decide⟩))) xP_eq.symm (fun j hj _ => (xP_sl hj).symm) (fun _ => rfl) (fun b j hb => (xP_pl (by omega)).symm), ?_⟩
  rw [hp.1, hq.1, e1]
theorem day_j {b0 b1 : Int32} (h : Inv m) (hp : if ((0 ≤ a2.toInt ∧ a2.toInt ≤ 5) ∧ (0 ≤ a3.toInt ∧ a3.toInt ≤ 9999)) ∧ (m.1 5 2).toInt < 40 then p.1 = m.1 5 2 + 1 ∧ IC (dayC m (slotN b0 a2) a3) p.2 else p.1 = -1 ∧ IC m p.2) : vOk (fun q : Int32 × xMem => Inv q.2 ∧ p.1 = q.1) (fX12_day 291 b1 a2 a3 p.2) := by
  have E : m.1 5 2 = m.1 292 6 := h.2.2.1.1.2.2.2.2.1
  by_cases c : ((0 ≤ a2.toInt ∧ a2.toInt ≤ 5) ∧ (0 ≤ a3.toInt ∧ a3.toInt ≤ 9999)) ∧ (m.1 5 2).toInt < 40
  · rw [if_pos c] at hp
    obtain ⟨r, e⟩ := RP_w h hp.2 (fun b hb j => (dayC_o b j (Or.inr hb)).trans (xP_pl (by omega)).symm)
    have e1 : p.2.1 292 6 = m.1 5 2 := (e 292 (by omega) 6).trans E.symm
    have hb : 0 ≤ (p.2.1 292 6).toInt ∧ (p.2.1 292 6).toInt ≤ 40 := r.2.1.1.1.2.2.2.2.2.1
    refine vOk_mono (day_r (a1 := b1) r.2.1 r.1) fun q hq => ?_
    rw [e1, if_pos c] at hq
    rw [e1] at hb
    have wn : (m.1 5 2).toNatClampNeg = (m.1 5 2).toInt.toNat := rfl
    have g1 : GR (xPut p.2 292 (1390 + 3 * (m.1 5 2).toNatClampNeg) (if b1 = 0 then 0 else 1)) := GR_putX r.2.1 (by omega) (fun q => by omega)
    have g2 : GR (xPut (xPut p.2 292 (1390 + 3 * (m.1 5 2).toNatClampNeg) (if b1 = 0 then 0 else 1)) 292 (1391 + 3 * (m.1 5 2).toNatClampNeg) a2) := GR_putX g1 (by omega) (fun q => by omega)
    have g3 : GR (xPut (xPut (xPut p.2 292 (1390 + 3 * (m.1 5 2).toNatClampNeg) (if b1 = 0 then 0 else 1)) 292 (1391 + 3 * (m.1 5 2).toNatClampNeg) a2) 292 (1392 + 3 * (m.1 5 2).toNatClampNeg) a3) := GR_putX g2 (by omega) (fun q => by omega)
    refine ⟨cnt_w h (by omega) hp.2 dayC_o hq.2 (RP_292 (RP_292 (RP_292 (RP_292 r.2 g1) g2) g3) (GR_put g3 (by omega) (fun q => by omega) (fun q => by omega) (fun q => by omega) (fun q => by omega) (fun _ => ?_) (fun q => by omega) (fun q => by omega))) xP_eq.symm (fun j hj hc => by rw [← xP_sl hj, ← xP_sl (by omega), ← xP_sl (by omega), ← xP_sl (by omega)]) (fun _ => rfl) (fun b j hb => by rw [← xP_pl (by omega), ← xP_pl (by omega), ← xP_pl (by omega), ← xP_pl (by omega)]), hp.1.trans hq.1.symm⟩
    have := add1 (x := m.1 5 2) (n := 39) (by omega) (by omega)
    exact ⟨by omega, by omega⟩
  · rw [if_neg c] at hp
    have h1 := Inv_C h hp.2
    have e := cls_rows hp.2 (fun _ _ _ => rfl)
    have e1 : p.2.1 292 6 = m.1 5 2 := (e 292 (by omega) 6).trans E.symm
    refine vOk_mono (day_r (a1 := b1) h1.2.1.2.1 h1.2.1.1) fun q hq => ?_
    rw [e1, if_neg c] at hq
    exact ⟨Inv_R0 h1 hq.2, hp.1.trans hq.1.symm⟩
theorem mend_j (h : Inv m) (hp : ((okM a1 a2 a3 a4 ∧ (m.1 8 5).toInt < 6) ∧ p.1 = m.1 8 5 ∧ IC (mendC m a1 a2 a3 a4) p.2) ∨ (¬ (okM a1 a2 a3 a4 ∧ (m.1 8 5).toInt < 6) ∧ p.1 = -1 ∧ IC m p.2)) : vOk (fun q : Int32 × xMem => Inv q.2 ∧ p.1 = q.1) (fX12_mend 291 a1 a2 a3 a4 p.2) := by
  have E : m.1 8 5 = m.1 292 7 := h.2.2.1.1.2.2.2.2.2.1
  rcases hp with ⟨c, hp⟩ | ⟨c, hp⟩
  · obtain ⟨r, e⟩ := RP_w h hp.2 (fun b hb j => (mendC_o b j (Or.inr hb)).trans (xP_pl (by omega)).symm)
    have e1 : p.2.1 292 7 = m.1 8 5 := (e 292 (by omega) 7).trans E.symm
    have hb : 0 ≤ (p.2.1 292 7).toInt ∧ (p.2.1 292 7).toInt ≤ 6 := r.2.1.1.1.2.2.2.2.2.2.1
    refine vOk_mono (mend_r (a1 := a1) (a2 := a2) (a3 := a3) (a4 := a4) r.2.1 r.1) fun q hq => ?_
    rw [e1] at hq hb
    have hq := (hq.resolve_right (fun w => w.1 c)).2
    have wn : (p.2.1 292 7).toNatClampNeg = (m.1 8 5).toInt.toNat := by rw [e1]; rfl
    unfold mendR at hq
    have g1 : GR (xPut p.2 292 (1520 + 4 * (p.2.1 292 7).toNatClampNeg) a1) := GR_putX r.2.1 (by omega) (fun q => by omega)
    have g2 : GR (xPut (xPut p.2 292 (1520 + 4 * (p.2.1 292 7).toNatClampNeg) a1) 292 (1521 + 4 * (p.2.1 292 7).toNatClampNeg) a2) := GR_putX g1 (by omega) (fun q => by omega)
    have g3 : GR (xPut (xPut (xPut p.2 292 (1520 + 4 * (p.2.1 292 7).toNatClampNeg) a1) 292 (1521 + 4 * (p.2.1 292 7).toNatClampNeg) a2) 292 (1522 + 4 * (p.2.1 292 7).toNatClampNeg) a3) := GR_putX g2 (by omega) (fun q => by omega)
    have g4 : GR (xPut (xPut (xPut (xPut p.2 292 (1520 + 4 * (p.2.1 292 7).toNatClampNeg) a1) 292 (1521 + 4 * (p.2.1 292 7).toNatClampNeg) a2) 292 (1522 + 4 * (p.2.1 292 7).toNatClampNeg) a3) 292 (1523 + 4 * (p.2.1 292 7).toNatClampNeg) a4) := GR_putX g3 (by omega) (fun q => by omega)
    refine ⟨cnt_w h (by omega) hp.2 mendC_o hq.2 (RP_292 (RP_292 (RP_292 (RP_292 (RP_292 r.2 g1) g2) g3) g4) (GR_put g4 (by omega) (fun q => by omega) (fun q => by omega) (fun q => by omega) (fun q => by omega) (fun q => by omega) (fun _ => ?_) (fun q => by omega))) xP_eq.symm (fun j hj hc => by rw [← xP_sl hj, ← xP_sl (by omega), ← xP_sl (by omega), ← xP_sl (by omega), ← xP_sl (by omega)]) (fun _ => rfl) (fun b j hb => by rw [← xP_pl (by omega), ← xP_pl (by omega), ← xP_pl (by omega), ← xP_pl (by omega), ← xP_pl (by omega)]), hp.1.trans hq.1.symm⟩
    have := add1 (x := m.1 8 5) (n := 5) (by omega) (by omega)
    exact ⟨by omega, by omega⟩
  · have h1 := Inv_C h hp.2
    have e := cls_rows hp.2 (fun _ _ _ => rfl)
    have e1 : p.2.1 292 7 = m.1 8 5 := (e 292 (by omega) 7).trans E.symm
    refine vOk_mono (mend_r (a1 := a1) (a2 := a2) (a3 := a3) (a4 := a4) h1.2.1.2.1 h1.2.1.1) fun q hq => ?_
    rw [e1] at hq
    have hq := (hq.resolve_left (fun w => c w.1)).2
    exact ⟨Inv_R0 h1 hq.2, hp.1.trans hq.1.symm⟩
theorem burst_j {b6 b7 : Int32} (h : Inv m) (hp : ((okBu (m.1 1 7) a1 a2 a3 a4 a5 ∧ (m.1 1 9).toInt < 30) ∧ p.1 = m.1 1 9 + 1 ∧ IC (xPut m 1 9 (m.1 1 9 + 1)) p.2) ∨ (¬ (okBu (m.1 1 7) a1 a2 a3 a4 a5 ∧ (m.1 1 9).toInt < 30) ∧ p.1 = -1 ∧ IC m p.2)) : vOk (fun q : Int32 × xMem => Inv q.2 ∧ p.1 = q.1) (fX12_burst 291 a1 a2 a3 a4 a5 b6 b7 p.2) := by
  have E : m.1 1 9 = m.1 292 3 := h.2.2.1.1.2.2.2.1
  have E1 : m.1 1 7 = m.1 292 1 := h.2.2.1.1.2.1
  rcases hp with ⟨c, hp⟩ | ⟨c, hp⟩
  · obtain ⟨r, e⟩ := RP_cls h (by omega) hp.2
    have e1 : p.2.1 292 3 = m.1 1 9 := (e 292 (by omega) 3).trans E.symm
    have e2 : p.2.1 292 1 = m.1 1 7 := (e 292 (by omega) 1).trans E1.symm
    refine vOk_mono (burst_r (a1 := a1) (a2 := a2) (a3 := a3) (a4 := a4) (a5 := a5) (a6 := b6) (a7 := b7) r.2.1 r.1) fun q hq => ?_
    rw [e1, e2] at hq
    obtain ⟨q1, S, q2, ⟨s1, s2, s3⟩, q3⟩ := (hq.resolve_right (fun w => w.1 c)).2
    have l : GL S := GL_cong (fun j => s2 _ _ (by omega)) (fun j => s2 _ _ (by omega)) (fun j => s2 _ _ (by omega)) (fun j => s2 _ _ (by omega)) r.2.2.1
    have r3 : S.1 293 = p.2.1 293 := funext fun j => s2 293 j (by omega)
    exact ⟨cnt_j (z := 3) h (by omega) hp.2 q3 ⟨q2, l, by rw [s2 291 4 (by omega)]; exact r.2.2.2.1, by rw [r3]; exact r.2.2.2.2⟩ (by rw [s3, e1]) (fun j hj hc => s2 292 j (by omega)) (fun j => s2 293 j (by omega)) (fun b j hb => s2 b j (by omega)), hp.1.trans q1.symm⟩
  · have h1 := Inv_C h hp.2
    have e := cls_rows hp.2 (fun _ _ _ => rfl)
    have e1 : p.2.1 292 3 = m.1 1 9 := (e 292 (by omega) 3).trans E.symm
    have e2 : p.2.1 292 1 = m.1 1 7 := (e 292 (by omega) 1).trans E1.symm
    refine vOk_mono (burst_r (a1 := a1) (a2 := a2) (a3 := a3) (a4 := a4) (a5 := a5) (a6 := b6) (a7 := b7) h1.2.1.2.1 h1.2.1.1) fun q hq => ?_
    rw [e1, e2] at hq
    have hq := (hq.resolve_left (fun w => c w.1)).2
    exact ⟨Inv_R0 h1 hq.2, hp.1.trans hq.1.symm⟩
theorem bumpC_o {e : Nat} : ∀ {R : xMem} {b j : Nat}, ¬ (b = 1 ∧ j = 6) → (bumpC e R).1 b j = R.1 b j := by
  induction e with
  | zero => intro R b j _; rfl
  | succ e ih =>
    intro R b j h
    show (bumpC e (xPut R 1 6 (R.1 1 6 + 1))).1 b j = _
    rw [ih h]
    show (if b = 1 ∧ j = 6 then _ else R.1 b j) = _
    rw [if_neg h]
theorem bumpC_2 {e : Nat} : ∀ {R : xMem}, (bumpC e R).2 = R.2 := by
  induction e with
  | zero => intro R; rfl
  | succ e ih => intro R; exact (ih (R := xPut R 1 6 (R.1 1 6 + 1)))
theorem bumpC_put {e : Nat} {R : xMem} : bumpC e R = xPut R 1 6 ((bumpC e R).1 1 6) := by
  refine Prod.ext (funext fun b => funext fun j => ?_) bumpC_2
  show _ = (if b = 1 ∧ j = 6 then (bumpC e R).1 1 6 else R.1 b j)
  by_cases q : b = 1 ∧ j = 6
  · rw [if_pos q, q.1, q.2]
  · rw [if_neg q, bumpC_o q]
theorem bump_alike {e : Nat} : ∀ {R S : xMem}, R.1 1 6 = S.1 292 0 → (bumpC e R).1 1 6 = (bumpN e S).1 292 0 := by
  induction e with
  | zero => intro R S h; exact h
  | succ e ih =>
    intro R S h
    refine ih ?_
    show R.1 1 6 + 1 = S.1 292 0 + 1
    rw [h]
theorem run_j (h : Inv m) (hp : (mayC (m.1 1 6) a1 ∧ p.1 = (bumpC a1.toInt.toNat m).1 1 6 ∧ IC (bumpC a1.toInt.toNat m) p.2) ∨ (¬ mayC (m.1 1 6) a1 ∧ p.1 = -1 ∧ IC m p.2)) : vOk (fun q : Int32 × xMem => Inv q.2 ∧ p.1 = q.1) (fX12_run 291 a1 p.2) := by
  have E : m.1 1 6 = m.1 292 0 := h.2.2.1.1.1
  rcases hp with ⟨c, hp⟩ | ⟨c, hp⟩
  · have hI := hp.2
    rw [bumpC_put] at hI
    obtain ⟨r, e⟩ := RP_cls h (by omega) hI
    have e1 : p.2.1 292 0 = m.1 1 6 := (e 292 (by omega) 0).trans E.symm
    refine vOk_mono (run_r (a1 := a1) r.2.1 r.1) fun q hq => ?_
    rw [e1] at hq
    obtain ⟨q1, q2⟩ := (hq.resolve_right (fun w => w.1 c)).2
    have al := bump_alike (e := a1.toInt.toNat) (R := m) (S := p.2) e1.symm
    have o : ∀ b j, ¬ (b = 292 ∧ j = 0) → (bumpN a1.toInt.toNat p.2).1 b j = p.2.1 b j := fun b j w => bumpN_o w
    have l : GL (bumpN a1.toInt.toNat p.2) := GL_cong (fun j => o _ _ (by omega)) (fun j => o _ _ (by omega)) (fun j => o _ _ (by omega)) (fun j => o _ _ (by omega)) r.2.2.1
    have r3 : (bumpN a1.toInt.toNat p.2).1 293 = p.2.1 293 := funext fun j => o 293 j (by omega)
    exact ⟨cnt_j (z := 0) h (by omega) hI q2 ⟨GR_bumpN r.2.1, l, by rw [o 291 4 (by omega)]; exact r.2.2.2.1, by rw [r3]; exact r.2.2.2.2⟩ al.symm (fun j hj hc => o 292 j (by omega)) (fun j => o 293 j (by omega)) (fun b j hb => o b j (by omega)), hp.1.trans (al.trans q1.symm)⟩
  · have h1 := Inv_C h hp.2
    have e := cls_rows hp.2 (fun _ _ _ => rfl)
    have e1 : p.2.1 292 0 = m.1 1 6 := (e 292 (by omega) 0).trans E.symm
    refine vOk_mono (run_r (a1 := a1) h1.2.1.2.1 h1.2.1.1) fun q hq => ?_
    rw [e1] at hq
    have hq := (hq.resolve_left (fun w => c w.1)).2
    exact ⟨Inv_R0 h1 hq.2, hp.1.trans hq.1.symm⟩
end
