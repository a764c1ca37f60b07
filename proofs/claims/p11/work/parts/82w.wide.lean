/-! WIDE: texts, days, mends, loads and the reader, on both sides -/
theorem vAnd2 {α : Type} {P Q : α → Prop} {o : Option α} (h : vOk P o) (k : vOk Q o) : vOk (fun r => P r ∧ Q r) o := by
  obtain ⟨r, e, hr⟩ := h
  obtain ⟨r2, e2, hr2⟩ := k
  have q : r = r2 := Option.some.inj (e.symm.trans e2)
  exact ⟨r, e, hr, by rw [q]; exact hr2⟩
def XC (b j : Nat) : Bool := (pNK.contains b && [10, 11].contains j) || (pKeep.contains b || (b == 255 && [4, 5, 6].contains j))
def XF (b j : Nat) : Prop := ((b = 292 ∨ b = 293) ∧ ((4 ≤ j ∧ j ≤ 8) ∨ (1390 ≤ j ∧ j < 1610))) ∨ (b = 291 ∧ (j = 4 ∨ j = 5 ∨ j = 6)) ∨ b = 295
theorem XC_p {b j : Nat} (h : XC b j = true) : ((b = 1 ∨ b = 84) ∧ (j = 10 ∨ j = 11)) ∨ b ∈ pKeep ∨ (b = 255 ∧ (j = 4 ∨ j = 5 ∨ j = 6)) := by
  unfold XC at h
  rw [Bool.or_eq_true, Bool.or_eq_true, Bool.and_eq_true, Bool.and_eq_true] at h
  rcases h with ⟨h1, h2⟩ | h | ⟨h1, h2⟩
  · refine Or.inl ⟨?_, ?_⟩
    · have := List.contains_iff_mem.mp h1
      simpa [pNK] using this
    · have := List.contains_iff_mem.mp h2
      simpa using this
  · exact Or.inr (Or.inl (List.contains_iff_mem.mp h))
  · refine Or.inr (Or.inr ⟨by simpa using h1, ?_⟩)
    have := List.contains_iff_mem.mp h2
    simpa using this
theorem XC_lt {b j : Nat} (h : XC b j = true) : b < 291 := by
  rcases XC_p h with h | h | h
  · omega
  · exact (show ∀ b ∈ pKeep, b < 291 by decide) b h
  · omega
theorem XC_k {a j : Nat} (ha : a ∈ pKeep) : XC a j = true := by
  unfold XC
  rw [show pKeep.contains a = true from List.contains_iff_mem.mpr ha, Bool.true_or, Bool.or_true]
theorem XC5 (j : Nat) : ¬ XC 5 j = true := by
  intro h
  rcases XC_p h with h | h | h
  · omega
  · exact absurd h (by decide)
  · omega
theorem XC8 (j : Nat) : ¬ XC 8 j = true := by
  intro h
  rcases XC_p h with h | h | h
  · omega
  · exact absurd h (by decide)
  · omega
theorem XC14 (j : Nat) : ¬ XC 14 j = true := by
  intro h
  rcases XC_p h with h | h | h
  · omega
  · exact absurd h (by decide)
  · omega
theorem XC_KC {b j : Nat} (h : XC b j = true) : KC b j = true := by
  rcases XC_p h with ⟨h1 | h1, h2 | h2⟩ | h | ⟨h1, h2 | h2 | h2⟩
  · subst h1; subst h2; decide
  · subst h1; subst h2; decide
  · subst h1; subst h2; decide
  · subst h1; subst h2; decide
  · exact keepKC b h j
  · subst h1; subst h2; decide
  · subst h1; subst h2; decide
  · subst h1; subst h2; decide
def slotG (g : Nat → Int32) (n : Nat) : Nat := if g (1390 + 3 * n) = 0 then (g (1391 + 3 * n)).toNatClampNeg else 6 + (g (1391 + 3 * n)).toNatClampNeg
def dS (g : Nat → Int32) (s : Nat) : Nat → Int32
  | 0 => 0
  | n + 1 => if slotG g n = s then dS g s n + g (1392 + 3 * n) else dS g s n
def dC (g : Nat → Int32) (s : Nat) : Nat → Int32
  | 0 => 0
  | n + 1 => if slotG g n = s then dC g s n + 1 else dC g s n
theorem dS_cg {g g' : Nat → Int32} {s : Nat} : ∀ n, (∀ j, 1390 ≤ j → j < 1390 + 3 * n → g' j = g j) → dS g' s n = dS g s n ∧ dC g' s n = dC g s n := by
  intro n
  induction n with
  | zero => intro _; exact ⟨rfl, rfl⟩
  | succ n ih =>
    intro e
    have q := ih (fun j h1 h2 => e j h1 (by omega))
    have sl : slotG g' n = slotG g n := by
      unfold slotG
      rw [e (1390 + 3 * n) (by omega) (by omega), e (1391 + 3 * n) (by omega) (by omega)]
    refine ⟨?_, ?_⟩
    · show (if slotG g' n = s then dS g' s n + g' (1392 + 3 * n) else dS g' s n) = (if slotG g n = s then dS g s n + g (1392 + 3 * n) else dS g s n)
      rw [sl, q.1, e (1392 + 3 * n) (by omega) (by omega)]
    · show (if slotG g' n = s then dC g' s n + 1 else dC g' s n) = (if slotG g n = s then dC g s n + 1 else dC g s n)
      rw [sl, q.2]
/-- a day, a mend that may stand there -/
def dOk (g : Nat → Int32) (n : Nat) : Prop := (g (1390 + 3 * n) = 0 ∨ g (1390 + 3 * n) = 1) ∧ bw 0 5 (g (1391 + 3 * n)) ∧ bw 0 9999 (g (1392 + 3 * n))
def mOk (g : Nat → Int32) (k : Nat) : Prop := okM (g (1520 + 4 * k)) (g (1521 + 4 * k)) (g (1522 + 4 * k)) (g (1523 + 4 * k))
def XT (c0 : Nat) (M : xMem) (g : Nat → Int32) : Prop := M.1 c0 10 = g 4 ∧ M.1 c0 11 = g 5
def XD (c0 : Nat) (M : xMem) (g : Nat → Int32) : Prop := bw 0 40 (g 6) ∧ (∀ s, s < 12 → M.1 (c0 + 5) s = dS g s (g 6).toNatClampNeg ∧ M.1 (c0 + 6) s = dC g s (g 6).toNatClampNeg) ∧ ∀ n : Nat, (n : Int) < (g 6).toInt → dOk g n
def XM (c0 : Nat) (M : xMem) (g : Nat → Int32) : Prop := bw 0 6 (g 7) ∧ ∀ k : Nat, (k : Int) < (g 7).toInt → (M.1 (c0 + 8) k = g (1520 + 4 * k) ∧ M.1 (c0 + 9) k = g (1521 + 4 * k) ∧ M.1 (c0 + 10) k = g (1522 + 4 * k) ∧ M.1 (c0 + 11) k = g (1523 + 4 * k)) ∧ mOk g k
def XL (c0 : Nat) (M : xMem) (g : Nat → Int32) : Prop := bw 0 60 (g 8) ∧ ∀ k : Nat, (k : Int) < (g 8).toInt → M.1 (c0 + 14) k = g (1550 + k)
def XR (c0 : Nat) (M : xMem) (g : Nat → Int32) : Prop := XT c0 M g ∧ XD c0 M g ∧ XM c0 M g ∧ XL c0 M g
def BR' (c v : Int) : Prop := (0 ≤ c ∧ c < 128 ∧ v = c) ∨ (128 ≤ c ∧ c ≤ 255 ∧ v = c - 256)
def RdR (m : xMem) : Prop := m.1 255 4 = m.1 291 4 ∧ m.1 255 5 = m.1 291 5 ∧ m.1 255 6 = m.1 291 6 ∧ ∀ j : Nat, (j : Int) < (m.1 291 4).toInt → BR' (m.1 256 j).toInt (m.1 295 j).toInt
def XI (m : xMem) : Prop := XR 1 m (m.1 292) ∧ XR 84 m (m.1 293) ∧ RdR m
theorem XT_cg {c0 : Nat} {S M : xMem} {g g' : Nat → Int32} (e1 : M.1 c0 10 = S.1 c0 10) (e2 : M.1 c0 11 = S.1 c0 11) (eg : ∀ j, j = 4 ∨ j = 5 → g' j = g j) (h : XT c0 S g) : XT c0 M g' := by
  unfold XT at h ⊢
  rw [e1, e2, eg 4 (by omega), eg 5 (by omega)]
  exact h
theorem XD_cg {c0 : Nat} {S M : xMem} {g g' : Nat → Int32} (e : ∀ j, j < 12 → M.1 (c0 + 5) j = S.1 (c0 + 5) j ∧ M.1 (c0 + 6) j = S.1 (c0 + 6) j) (eg : ∀ j, j = 6 ∨ (1390 ≤ j ∧ j < 1510) → g' j = g j) (h : XD c0 S g) : XD c0 M g' := by
  obtain ⟨h0, h1, h2⟩ := h
  have wn : (g 6).toNatClampNeg = (g 6).toInt.toNat := rfl
  obtain ⟨l0, l1⟩ := h0
  unfold XD
  rw [eg 6 (by omega)]
  refine ⟨⟨l0, l1⟩, fun s hs => ?_, fun n hn => ?_⟩
  · have q := dS_cg (g := g) (g' := g') (s := s) (g 6).toNatClampNeg (fun j a b => eg j (by omega))
    rw [(e s hs).1, (e s hs).2, q.1, q.2]
    exact h1 s hs
  · have q := h2 n hn
    unfold dOk at q ⊢
    rw [eg (1390 + 3 * n) (by omega), eg (1391 + 3 * n) (by omega), eg (1392 + 3 * n) (by omega)]
    exact q
theorem XM_cg {c0 : Nat} {S M : xMem} {g g' : Nat → Int32} (e : ∀ j, j < 6 → M.1 (c0 + 8) j = S.1 (c0 + 8) j ∧ M.1 (c0 + 9) j = S.1 (c0 + 9) j ∧ M.1 (c0 + 10) j = S.1 (c0 + 10) j ∧ M.1 (c0 + 11) j = S.1 (c0 + 11) j) (eg : ∀ j, j = 7 ∨ (1520 ≤ j ∧ j < 1544) → g' j = g j) (h : XM c0 S g) : XM c0 M g' := by
  obtain ⟨⟨l0, l1⟩, h1⟩ := h
  unfold XM
  rw [eg 7 (by omega)]
  refine ⟨⟨l0, l1⟩, fun k hk => ?_⟩
  obtain ⟨q1, q2⟩ := h1 k hk
  obtain ⟨e1, e2, e3, e4⟩ := e k (by omega)
  unfold mOk at q2 ⊢
  rw [e1, e2, e3, e4, eg (1520 + 4 * k) (by omega), eg (1521 + 4 * k) (by omega), eg (1522 + 4 * k) (by omega), eg (1523 + 4 * k) (by omega)]
  exact ⟨q1, q2⟩
theorem XL_cg {c0 : Nat} {S M : xMem} {g g' : Nat → Int32} (e : ∀ j, j < 60 → M.1 (c0 + 14) j = S.1 (c0 + 14) j) (eg : ∀ j, j = 8 ∨ (1550 ≤ j ∧ j < 1610) → g' j = g j) (h : XL c0 S g) : XL c0 M g' := by
  obtain ⟨⟨l0, l1⟩, h1⟩ := h
  unfold XL
  rw [eg 8 (by omega)]
  refine ⟨⟨l0, l1⟩, fun k hk => ?_⟩
  rw [e k (by omega), eg (1550 + k) (by omega)]
  exact h1 k hk
theorem XR_cg {c0 : Nat} {S M : xMem} {g g' : Nat → Int32} (hc : c0 = 1 ∨ c0 = 84) (e : ∀ b j, XC b j = true → c0 ≤ b → b < c0 + 83 → M.1 b j = S.1 b j) (eg : ∀ j, (4 ≤ j ∧ j ≤ 8) ∨ (1390 ≤ j ∧ j < 1610) → g' j = g j) (h : XR c0 S g) : XR c0 M g' := by
  obtain ⟨h1, h2, h3, h4⟩ := h
  have kp : ∀ a ∈ pKeep, c0 ≤ a → a < c0 + 83 → ∀ j, M.1 a j = S.1 a j := fun a ha l1 l2 j => e a j (XC_k ha) l1 l2
  rcases hc with rfl | rfl
  · exact ⟨XT_cg (e 1 10 (by decide) (by omega) (by omega)) (e 1 11 (by decide) (by omega) (by omega)) (fun j hj => eg j (by omega)) h1, XD_cg (fun j _ => ⟨kp _ (by decide) (by omega) (by omega) j, kp _ (by decide) (by omega) (by omega) j⟩) (fun j hj => eg j (by omega)) h2, XM_cg (fun j _ => ⟨kp _ (by decide) (by omega) (by omega) j, kp _ (by decide) (by omega) (by omega) j, kp _ (by decide) (by omega) (by omega) j, kp _ (by decide) (by omega) (by omega) j⟩) (fun j hj => eg j (by omega)) h3, XL_cg (fun j _ => kp _ (by decide) (by omega) (by omega) j) (fun j hj => eg j (by omega)) h4⟩
  · exact ⟨XT_cg (e 84 10 (by decide) (by omega) (by omega)) (e 84 11 (by decide) (by omega) (by omega)) (fun j hj => eg j (by omega)) h1, XD_cg (fun j _ => ⟨kp _ (by decide) (by omega) (by omega) j, kp _ (by decide) (by omega) (by omega) j⟩) (fun j hj => eg j (by omega)) h2, XM_cg (fun j _ => ⟨kp _ (by decide) (by omega) (by omega) j, kp _ (by decide) (by omega) (by omega) j, kp _ (by decide) (by omega) (by omega) j, kp _ (by decide) (by omega) (by omega) j⟩) (fun j hj => eg j (by omega)) h3, XL_cg (fun j _ => kp _ (by decide) (by omega) (by omega) j) (fun j hj => eg j (by omega)) h4⟩
theorem XI_cg {S M : xMem} (e : ∀ b j, XC b j = true → M.1 b j = S.1 b j) (ef : ∀ b j, XF b j → M.1 b j = S.1 b j) (h : XI S) : XI M := by
  obtain ⟨h1, h2, h3, h4, h5, h6⟩ := h
  refine ⟨XR_cg (Or.inl rfl) (fun b j hx _ _ => e b j hx) (fun j hj => ef 292 j (Or.inl ⟨Or.inl rfl, hj⟩)) h1, XR_cg (Or.inr rfl) (fun b j hx _ _ => e b j hx) (fun j hj => ef 293 j (Or.inl ⟨Or.inr rfl, hj⟩)) h2, ?_, ?_, ?_, fun j hj => ?_⟩
  · rw [e 255 4 (by decide), ef 291 4 (Or.inr (Or.inl ⟨rfl, by omega⟩))]; exact h3
  · rw [e 255 5 (by decide), ef 291 5 (Or.inr (Or.inl ⟨rfl, by omega⟩))]; exact h4
  · rw [e 255 6 (by decide), ef 291 6 (Or.inr (Or.inl ⟨rfl, by omega⟩))]; exact h5
  · rw [ef 291 4 (Or.inr (Or.inl ⟨rfl, by omega⟩))] at hj
    rw [e 256 j (XC_k (by decide)), ef 295 j (Or.inr (Or.inr rfl))]
    exact h6 j hj
/-- a step of the class, of the reference, that leaves these cells -/
def CS (m m1 : xMem) : Prop := (∀ b j, XC b j = true → m1.1 b j = m.1 b j) ∧ ∀ b, 291 ≤ b → ∀ j, m1.1 b j = m.1 b j
def RS2 (m m1 : xMem) : Prop := (∀ b j, b < 291 → m1.1 b j = m.1 b j) ∧ ∀ b j, XF b j → m1.1 b j = m.1 b j
theorem XF_hi {b j : Nat} (h : XF b j) : 291 ≤ b := by unfold XF at h; omega
theorem XF_KR {b j : Nat} (h : XF b j) : KR b j := by unfold XF at h; unfold KR; omega
theorem XI_CS {m m1 : xMem} (s : CS m m1) (h : XI m) : XI m1 := XI_cg s.1 (fun b j hx => s.2 b (XF_hi hx) j) h
theorem XI_RS {m m1 : xMem} (s : RS2 m m1) (h : XI m) : XI m1 := XI_cg (fun b j hx => s.1 b j (XC_lt hx)) s.2 h
theorem CS_IC {m m1 : xMem} (h : IC m m1) : CS m m1 := ⟨fun b j hx => h.kc b j (XC_KC hx), fun b hb j => h.kc b j (KC_hi hb)⟩
theorem CS_S {m S m1 : xMem} (h : IC S m1) (e : ∀ b j, XC b j = true ∨ 291 ≤ b → S.1 b j = m.1 b j) : CS m m1 := ⟨fun b j hx => (h.kc b j (XC_KC hx)).trans (e b j (Or.inl hx)), fun b hb j => (h.kc b j (KC_hi hb)).trans (e b j (Or.inr hb))⟩
theorem CS_put {m m1 : xMem} {x y : Nat} {v : Int32} (h : IC (xPut m x y v) m1) (hx : XC x y = false) (hl : x < 291) : CS m m1 := by
  refine CS_S h fun b j hb => ?_
  show (if b = x ∧ j = y then v else m.1 b j) = _
  rw [if_neg]
  rintro ⟨rfl, rfl⟩
  rcases hb with hb | hb
  · rw [hx] at hb; cases hb
  · omega
theorem RS_S {m S m1 : xMem} (h : IR S m1) (e : ∀ b j, b < 291 ∨ XF b j → S.1 b j = m.1 b j) : RS2 m m1 := ⟨fun b j hb => (h.1 b j ⟨by omega, by omega⟩).trans (e b j (Or.inl hb)), fun b j hx => (h.1 b j (XF_KR hx)).trans (e b j (Or.inr hx))⟩
theorem RS_IR {m m1 : xMem} (h : IR m m1) : RS2 m m1 := RS_S h fun _ _ _ => rfl
theorem RS_put {m m1 : xMem} {z : Nat} {v : Int32} (h : IR (xPut m 292 z v) m1) (hz : ¬ XF 292 z) : RS2 m m1 := by
  refine RS_S h fun b j hb => ?_
  show (if b = 292 ∧ j = z then v else m.1 b j) = _
  rw [if_neg]
  rintro ⟨rfl, rfl⟩
  rcases hb with hb | hb
  · omega
  · exact hz hb
def InvW (m : xMem) : Prop := Inv m ∧ XI m
section
variable {m : xMem} {p : Int32 × xMem} {a1 a2 a3 a4 a5 a6 a7 : Int32}
theorem XI_C {m1 : xMem} (h : XI m) (k : IC m m1) : XI m1 := XI_CS (CS_IC k) h
theorem XI_R {m1 : xMem} (h : XI m) (k : IR m m1) : XI m1 := XI_RS (RS_IR k) h
theorem XI_TP {q : xMem} (h : XI m) (k : TP m q) : XI q := by
  obtain ⟨A, _, i, e⟩ := k
  exact XI_RS (RS_S i fun b j hb => by
    rcases hb with hb | hb
    · exact e b j (by omega) ⟨by omega, by omega⟩
    · have := XF_KR hb
      unfold XF at hb
      exact e b j (by omega) this) h
theorem cw_about (h : InvW m) : vOk (fun q : Int32 × xMem => InvW q.2) (fX11_about 0 a1 m) := vOk_mono (fX11_about_s (show 0 ∈ pMS by decide) (CI_IC h.1.1)) fun q hq => by rw [hq.1]; exact h
theorem rw_about (h : InvW m) : vOk (fun q : Int32 × xMem => InvW q.2) (fX12_about 291 a1 m) := vOk_mono (fX12_about_s h.1.2.1.2.1 h.1.2.1.1) fun q hq => by rw [hq.1]; exact h
theorem cw_all (h : InvW m) : vOk (fun q : Int32 × xMem => InvW q.2) (fX11_all 0 a1 m) := vOk_mono (fX11_all_s (show 0 ∈ pMS by decide) (CI_IC h.1.1)) fun q hq => by rw [hq.1]; exact h
theorem rw_all (h : InvW m) : vOk (fun q : Int32 × xMem => InvW q.2) (fX12_all 291 a1 m) := vOk_mono (fX12_all_s h.1.2.1.2.1 h.1.2.1.1) fun q hq => by rw [hq.1]; exact h
theorem cw_alone (h : InvW m) : vOk (fun q : Int32 × xMem => InvW q.2) (fX11_alone 0 a1 a2 a3 a4 m) := vOk_mono (fX11_alone_s (show 0 ∈ pMS by decide) (CI_IC h.1.1)) fun q hq => ⟨Inv_C h.1 hq.1, XI_C h.2 hq.1⟩
theorem rw_alone (h : InvW m) : vOk (fun q : Int32 × xMem => InvW q.2) (fX12_alone 291 a1 a2 a3 a4 m) := vOk_mono (fX12_alone_s h.1.2.1.2.1 h.1.2.1.1) fun q hq => ⟨Inv_R0 h.1 hq.1, XI_R h.2 hq.1⟩
theorem cw_bar (h : InvW m) : vOk (fun q : Int32 × xMem => InvW q.2) (fX11_bar 0 a1 a2 m) := vOk_mono (fX11_bar_s (show 0 ∈ pMS by decide) (CI_IC h.1.1)) fun q hq => ⟨Inv_C h.1 hq.1, XI_C h.2 hq.1⟩
theorem rw_bar (h : InvW m) : vOk (fun q : Int32 × xMem => InvW q.2) (fX12_bar 291 a1 a2 m) := vOk_mono (fX12_bar_s h.1.2.1.2.1 h.1.2.1.1) fun q hq => ⟨Inv_R0 h.1 hq.1, XI_R h.2 hq.1⟩
theorem cw_crossing (h : InvW m) : vOk (fun q : Int32 × xMem => InvW q.2) (fX11_crossing 0 a1 a2 m) := vOk_mono (fX11_crossing_s (show 0 ∈ pMS by decide) (CI_IC h.1.1)) fun q hq => ⟨Inv_C h.1 hq.1, XI_C h.2 hq.1⟩
theorem rw_crossing (h : InvW m) : vOk (fun q : Int32 × xMem => InvW q.2) (fX12_crossing 291 a1 a2 m) := vOk_mono (fX12_crossing_s h.1.2.1.2.1 h.1.2.1.1) fun q hq => ⟨Inv_R0 h.1 hq.1, XI_R h.2 hq.1⟩
theorem cw_effect (h : InvW m) : vOk (fun q : Int32 × xMem => InvW q.2) (fX11_effect 0 m) := vOk_mono (fX11_effect_s (show 0 ∈ pMS by decide) (CI_IC h.1.1)) fun q hq => by rw [hq.1]; exact h
theorem rw_effect (h : InvW m) : vOk (fun q : Int32 × xMem => InvW q.2) (fX12_effect 291 m) := vOk_mono (fX12_effect_s h.1.2.1.2.1 h.1.2.1.1) fun q hq => by rw [hq.1]; exact h
theorem cw_fault (h : InvW m) : vOk (fun q : Int32 × xMem => InvW q.2) (fX11_fault 0 a1 m) := vOk_mono (fX11_fault_s (show 0 ∈ pMS by decide) (CI_IC h.1.1)) fun q hq => by rw [hq.1]; exact h
theorem rw_fault (h : InvW m) : vOk (fun q : Int32 × xMem => InvW q.2) (fX12_fault 291 a1 m) := vOk_mono (fault_r h.1.2.1.1) fun q hq => ⟨Inv_R0 h.1 hq, XI_R h.2 hq⟩
theorem cw_felt (h : InvW m) : vOk (fun q : Int32 × xMem => InvW q.2) (fX11_felt 0 a1 a2 m) := vOk_mono (fX11_felt_s (show 0 ∈ pMS by decide) (CI_IC h.1.1)) fun q hq => ⟨Inv_C h.1 hq.1, XI_C h.2 hq.1⟩
theorem rw_felt (h : InvW m) : vOk (fun q : Int32 × xMem => InvW q.2) (fX12_felt 291 a1 a2 m) := vOk_mono (felt_r h.1.2.1.2.1 h.1.2.1.1) fun q hq => ⟨rn_TP h.1 hq, XI_TP h.2 hq⟩
theorem cw_least (h : InvW m) : vOk (fun q : Int32 × xMem => InvW q.2) (fX11_least 0 a1 a2 a3 m) := vOk_mono (fX11_least_s (show 0 ∈ pMS by decide) (CI_IC h.1.1)) fun q hq => ⟨Inv_C h.1 hq.1, XI_C h.2 hq.1⟩
theorem rw_least (h : InvW m) : vOk (fun q : Int32 × xMem => InvW q.2) (fX12_least 291 a1 a2 a3 m) := vOk_mono (least_r h.1.2.1.2.1 h.1.2.1.1) fun q hq => ⟨rn_TP h.1 hq, XI_TP h.2 hq⟩
theorem cw_mode (h : InvW m) : vOk (fun q : Int32 × xMem => InvW q.2) (fX11_mode 0 a1 a2 m) := vOk_mono (fX11_mode_s (show 0 ∈ pMS by decide) (CI_IC h.1.1)) fun q hq => ⟨Inv_C h.1 hq.1, XI_C h.2 hq.1⟩
theorem rw_mode (h : InvW m) : vOk (fun q : Int32 × xMem => InvW q.2) (fX12_mode 291 a1 a2 m) := vOk_mono (fX12_mode_s h.1.2.1.2.1 h.1.2.1.1) fun q hq => ⟨Inv_R0 h.1 hq.1, XI_R h.2 hq.1⟩
theorem cw_of (h : InvW m) : vOk (fun q : Int32 × xMem => InvW q.2) (fX11_of 0 a1 a2 m) := vOk_mono (fX11_of_s (show 0 ∈ pMS by decide) (CI_IC h.1.1)) fun q hq => by rw [hq.1]; exact h
theorem rw_of (h : InvW m) : vOk (fun q : Int32 × xMem => InvW q.2) (fX12_of 291 a1 a2 m) := vOk_mono (fX12_of_s h.1.2.1.2.1 h.1.2.1.1) fun q hq => by rw [hq.1]; exact h
theorem cw_on (h : InvW m) : vOk (fun q : Int32 × xMem => InvW q.2) (fX11_on 0 a1 a2 m) := vOk_mono (fX11_on_s (show 0 ∈ pMS by decide) (CI_IC h.1.1)) fun q hq => by rw [hq.1]; exact h
theorem rw_on (h : InvW m) : vOk (fun q : Int32 × xMem => InvW q.2) (fX12_on 291 a1 a2 m) := vOk_mono (fX12_on_s h.1.2.1.2.1 h.1.2.1.1) fun q hq => by rw [hq.1]; exact h
theorem cw_order (h : InvW m) : vOk (fun q : Int32 × xMem => InvW q.2) (fX11_order 0 a1 m) := vOk_mono (fX11_order_s (show 0 ∈ pMS by decide) (CI_IC h.1.1)) fun q hq => ⟨Inv_C h.1 hq.1, XI_C h.2 hq.1⟩
theorem rw_order (h : InvW m) : vOk (fun q : Int32 × xMem => InvW q.2) (fX12_order 291 a1 m) := vOk_mono (order_r h.1.2.1.2.1 h.1.2.1.1) fun q hq => by rw [hq.1]; exact h
theorem cw_reset (h : InvW m) : vOk (fun q : Int32 × xMem => InvW q.2) (fX11_reset 0 a1 m) := vOk_mono (fX11_reset_s (show 0 ∈ pMS by decide) (CI_IC h.1.1)) fun q hq => ⟨Inv_C h.1 hq.1, XI_C h.2 hq.1⟩
theorem rw_reset (h : InvW m) : vOk (fun q : Int32 × xMem => InvW q.2) (fX12_reset 291 a1 m) := vOk_mono (fX12_reset_s h.1.2.1.2.1 h.1.2.1.1) fun q hq => ⟨Inv_R0 h.1 hq.1, XI_R h.2 hq.1⟩
theorem cw_route (h : InvW m) : vOk (fun q : Int32 × xMem => InvW q.2) (fX11_route 0 a1 a2 a3 m) := vOk_mono (fX11_route_s (show 0 ∈ pMS by decide) (CI_IC h.1.1)) fun q hq => ⟨Inv_C h.1 hq.1, XI_C h.2 hq.1⟩
theorem rw_route (h : InvW m) : vOk (fun q : Int32 × xMem => InvW q.2) (fX12_route 291 a1 a2 a3 m) := vOk_mono (fX12_route_s h.1.2.1.2.1 h.1.2.1.1) fun q hq => ⟨Inv_R0 h.1 hq.1, XI_R h.2 hq.1⟩
theorem cw_standing (h : InvW m) : vOk (fun q : Int32 × xMem => InvW q.2) (fX11_standing 0 a1 a2 m) := vOk_mono (fX11_standing_s (show 0 ∈ pMS by decide) (CI_IC h.1.1)) fun q hq => ⟨Inv_C h.1 hq.1, XI_C h.2 hq.1⟩
theorem rw_standing (h : InvW m) : vOk (fun q : Int32 × xMem => InvW q.2) (fX12_standing 291 a1 a2 m) := vOk_mono (standing_r h.1.2.1.2.1 h.1.2.1.1) fun q hq => ⟨rn_TP h.1 hq, XI_TP h.2 hq⟩
theorem cw_step (h : InvW m) : vOk (fun q : Int32 × xMem => InvW q.2) (fX11_step 0 a1 a2 a3 m) := vOk_mono (fX11_step_s (show 0 ∈ pMS by decide) (CI_IC h.1.1)) fun q hq => by rw [hq.1]; exact h
theorem rw_step (h : InvW m) : vOk (fun q : Int32 × xMem => InvW q.2) (fX12_step 291 a1 a2 a3 m) := vOk_mono (fX12_step_s h.1.2.1.2.1 h.1.2.1.1) fun q hq => by rw [hq.1]; exact h
theorem cw_taken (h : InvW m) : vOk (fun q : Int32 × xMem => InvW q.2) (fX11_taken 0 a1 a2 m) := vOk_mono (fX11_taken_s (show 0 ∈ pMS by decide) (CI_IC h.1.1)) fun q hq => by rw [hq.1]; exact h
theorem rw_taken (h : InvW m) : vOk (fun q : Int32 × xMem => InvW q.2) (fX12_taken 291 a1 a2 m) := vOk_mono (fX12_taken_s h.1.2.1.2.1 h.1.2.1.1) fun q hq => ⟨Inv_R0 h.1 hq.1, XI_R h.2 hq.1⟩
theorem cw_turn (h : InvW m) : vOk (fun q : Int32 × xMem => InvW q.2) (fX11_turn 0 a1 a2 m) := vOk_mono (fX11_turn_s (show 0 ∈ pMS by decide) (CI_IC h.1.1)) fun q hq => ⟨Inv_C h.1 hq.1, XI_C h.2 hq.1⟩
theorem rw_turn (h : InvW m) : vOk (fun q : Int32 × xMem => InvW q.2) (fX12_turn 291 a1 a2 m) := vOk_mono (fX12_turn_s h.1.2.1.2.1 h.1.2.1.1) fun q hq => ⟨Inv_R0 h.1 hq.1, XI_R h.2 hq.1⟩
theorem cw_ways (h : InvW m) : vOk (fun q : Int32 × xMem => InvW q.2) (fX11_ways 0 a1 a2 a3 m) := vOk_mono (fX11_ways_s (show 0 ∈ pMS by decide) (CI_IC h.1.1)) fun q hq => ⟨Inv_C h.1 hq.1, XI_C h.2 hq.1⟩
theorem rw_ways (h : InvW m) : vOk (fun q : Int32 × xMem => InvW q.2) (fX12_ways 291 a1 a2 a3 m) := vOk_mono (ways_r h.1.2.1.2.1 h.1.2.1.1) fun q hq => ⟨rn_TP h.1 hq, XI_TP h.2 hq⟩
theorem RI_CS {m1 : xMem} (h : Inv m) (s : CS m m1) : IR m1 m1 ∧ RP m1 := RI_cong s.2 h.2.1
theorem hall_w (h : InvW m) (hp : if (1 ≤ a1.toInt ∧ a1.toInt ≤ 999) ∧ (m.1 1 7).toInt ≤ 5 then p.1 = m.1 1 7 ∧ IC (xPut m 1 7 (m.1 1 7 + 1)) p.2 else p.1 = -1 ∧ IC m p.2) : vOk (fun q : Int32 × xMem => InvW q.2 ∧ p.1 = q.1) (fX12_hall 291 a1 p.2) := by
  have s : CS m p.2 := by
    split at hp
    · exact CS_put hp.2 (by decide) (by omega)
    · exact CS_IC hp.2
  refine vOk_mono (vAnd2 (hall_j h.1 hp) (?_ : vOk (fun q : Int32 × xMem => XI q.2) (fX12_hall 291 a1 p.2))) fun q hq => ⟨⟨hq.1.1, hq.2⟩, hq.1.2⟩
  have r := RI_CS h.1 s
  refine vOk_mono (hall_r r.2.1 r.1) fun q hq => XI_RS ?_ (XI_CS s h.2)
  split at hq
  · exact RS_put hq.2 (by unfold XF; omega)
  · exact RS_IR hq.2
theorem burst_w {b6 b7 : Int32} (h : InvW m) (hp : ((okBu (m.1 1 7) a1 a2 a3 a4 a5 ∧ (m.1 1 9).toInt < 30) ∧ p.1 = m.1 1 9 + 1 ∧ IC (xPut m 1 9 (m.1 1 9 + 1)) p.2) ∨ (¬ (okBu (m.1 1 7) a1 a2 a3 a4 a5 ∧ (m.1 1 9).toInt < 30) ∧ p.1 = -1 ∧ IC m p.2)) : vOk (fun q : Int32 × xMem => InvW q.2 ∧ p.1 = q.1) (fX12_burst 291 a1 a2 a3 a4 a5 b6 b7 p.2) := by
  have s : CS m p.2 := by
    rcases hp with ⟨_, _, hp⟩ | ⟨_, _, hp⟩
    · exact CS_put hp (by decide) (by omega)
    · exact CS_IC hp
  refine vOk_mono (vAnd2 (burst_j h.1 hp) (?_ : vOk (fun q : Int32 × xMem => XI q.2) (fX12_burst 291 a1 a2 a3 a4 a5 b6 b7 p.2))) fun q hq => ⟨⟨hq.1.1, hq.2⟩, hq.1.2⟩
  have r := RI_CS h.1 s
  refine vOk_mono (burst_r r.2.1 r.1) fun q hq => XI_RS ?_ (XI_CS s h.2)
  rcases hq with ⟨_, _, S, _, ⟨_, s2, _⟩, q3⟩ | ⟨_, _, hq⟩
  · refine RS_S q3 fun b j hb => s2 b j ?_
    unfold XF at hb
    omega
  · exact RS_IR hq
theorem run_w (h : InvW m) (hp : (mayC (m.1 1 6) a1 ∧ p.1 = (bumpC a1.toInt.toNat m).1 1 6 ∧ IC (bumpC a1.toInt.toNat m) p.2) ∨ (¬ mayC (m.1 1 6) a1 ∧ p.1 = -1 ∧ IC m p.2)) : vOk (fun q : Int32 × xMem => InvW q.2 ∧ p.1 = q.1) (fX12_run 291 a1 p.2) := by
  have s : CS m p.2 := by
    rcases hp with ⟨_, _, hp⟩ | ⟨_, _, hp⟩
    · rw [bumpC_put] at hp
      exact CS_put hp (by decide) (by omega)
    · exact CS_IC hp
  refine vOk_mono (vAnd2 (run_j h.1 hp) (?_ : vOk (fun q : Int32 × xMem => XI q.2) (fX12_run 291 a1 p.2))) fun q hq => ⟨⟨hq.1.1, hq.2⟩, hq.1.2⟩
  have r := RI_CS h.1 s
  refine vOk_mono (run_r r.2.1 r.1) fun q hq => XI_RS ?_ (XI_CS s h.2)
  rcases hq with ⟨_, _, hq⟩ | ⟨_, _, hq⟩
  · refine RS_S hq fun b j hb => bumpN_o ?_
    unfold XF at hb
    omega
  · exact RS_IR hq
theorem link_w (h : InvW m) (hp : ((okLk (m.1 1 7) a1 a2 a3 a4 a5 ∧ (m.1 1 8).toInt < 10) ∧ p.1 = m.1 1 8 ∧ IC (xPut (xPut m (34 + 2 * (m.1 1 8).toNatClampNeg) 1 a1) 1 8 (m.1 1 8 + 1)) p.2) ∨ (¬ (okLk (m.1 1 7) a1 a2 a3 a4 a5 ∧ (m.1 1 8).toInt < 10) ∧ p.1 = -1 ∧ IC m p.2)) : vOk (fun q : Int32 × xMem => InvW q.2 ∧ p.1 = q.1) (fX12_link 291 a1 a2 a3 a4 a5 p.2) := by
  have s : CS m p.2 := by
    rcases hp with ⟨c, _, hp⟩ | ⟨_, _, hp⟩
    · have hb := b2 h.1
      have wn : (m.1 1 8).toNatClampNeg = (m.1 1 8).toInt.toNat := rfl
      refine CS_S hp fun b j hx => ?_
      have n1 : ¬ (b = 1 ∧ j = 8) := by
        rintro ⟨rfl, rfl⟩
        rcases hx with hx | hx
        · exact absurd hx (by decide)
        · omega
      have n2 : ¬ (b = 34 + 2 * (m.1 1 8).toNatClampNeg ∧ j = 1) := by
        rintro ⟨rfl, rfl⟩
        have c2 := c.2
        rcases hx with hx | hx
        · exact absurd hx (by rw [(show ∀ k : Nat, k < 10 → XC (34 + 2 * k) 1 = false by decide) _ (by omega)]; decide)
        · omega
      show (if b = 1 ∧ j = 8 then _ else if b = 34 + 2 * (m.1 1 8).toNatClampNeg ∧ j = 1 then _ else m.1 b j) = _
      rw [if_neg n1, if_neg n2]
    · exact CS_IC hp
  refine vOk_mono (vAnd2 (link_j h.1 hp) (?_ : vOk (fun q : Int32 × xMem => XI q.2) (fX12_link 291 a1 a2 a3 a4 a5 p.2))) fun q hq => ⟨⟨hq.1.1, hq.2⟩, hq.1.2⟩
  have r := RI_CS h.1 s
  refine vOk_mono (link_r r.2.1 r.1) fun q hq => XI_RS ?_ (XI_CS s h.2)
  have hb : 0 ≤ (p.2.1 292 2).toInt ∧ (p.2.1 292 2).toInt ≤ 10 := r.2.1.1.1.2.1
  have wn : (p.2.1 292 2).toNatClampNeg = (p.2.1 292 2).toInt.toNat := rfl
  rcases hq with ⟨_, _, S, _, ⟨_, s2, _, _⟩, q3⟩ | ⟨_, _, hq⟩
  · refine RS_S q3 fun b j hb => s2 b j ?_
    unfold XF at hb
    omega
  · exact RS_IR hq
theorem XI_now {q : xMem} (h : XI m) (hx : XR 1 q (q.1 292)) (e : ∀ b j, XC b j = true → 84 ≤ b → q.1 b j = m.1 b j) (ef : ∀ b j, XF b j → b ≠ 292 → q.1 b j = m.1 b j) : XI q := by
  obtain ⟨_, h2, h3, h4, h5, h6⟩ := h
  refine ⟨hx, XR_cg (Or.inr rfl) (fun b j hx hl _ => e b j hx hl) (fun j hj => ef 293 j (Or.inl ⟨Or.inr rfl, hj⟩) (by omega)) h2, ?_, ?_, ?_, fun j hj => ?_⟩
  · rw [e 255 4 (by decide) (by omega), ef 291 4 (Or.inr (Or.inl ⟨rfl, by omega⟩)) (by omega)]; exact h3
  · rw [e 255 5 (by decide) (by omega), ef 291 5 (Or.inr (Or.inl ⟨rfl, by omega⟩)) (by omega)]; exact h4
  · rw [e 255 6 (by decide) (by omega), ef 291 6 (Or.inr (Or.inl ⟨rfl, by omega⟩)) (by omega)]; exact h5
  · rw [ef 291 4 (Or.inr (Or.inl ⟨rfl, by omega⟩)) (by omega)] at hj
    rw [e 256 j (XC_k (by decide)) (by omega), ef 295 j (Or.inr (Or.inr rfl)) (by omega)]
    exact h6 j hj
theorem load_w (h : InvW m) (hp : if (0 ≤ a1.toInt ∧ a1.toInt ≤ 80) ∧ (m.1 14 1).toInt < 60 then p.1 = m.1 14 1 + 1 ∧ IC (xPut (xPut m 15 (m.1 14 1).toNatClampNeg a1) 14 1 (m.1 14 1 + 1)) p.2 else p.1 = -1 ∧ IC m p.2) : vOk (fun q : Int32 × xMem => InvW q.2 ∧ p.1 = q.1) (fX12_load 291 a1 p.2) := by
  have E : m.1 14 1 = m.1 292 8 := h.1.2.2.1.1.2.2.2.2.2.2
  have hb := b8 h.1
  have wn : (m.1 14 1).toNatClampNeg = (m.1 14 1).toInt.toNat := rfl
  refine vOk_mono (vAnd2 (load_j h.1 hp) (?_ : vOk (fun q : Int32 × xMem => XI q.2) (fX12_load 291 a1 p.2))) fun q hq => ⟨⟨hq.1.1, hq.2⟩, hq.1.2⟩
  by_cases c : (0 ≤ a1.toInt ∧ a1.toInt ≤ 80) ∧ (m.1 14 1).toInt < 60
  · rw [if_pos c] at hp
    obtain ⟨r, e⟩ := RP_w h.1 hp.2 (fun b hb j => (loadC_o b j (Or.inr hb)).trans (xP_pl (by omega)).symm)
    have e1 : p.2.1 292 8 = m.1 14 1 := (e 292 (by omega) 8).trans E.symm
    refine vOk_mono (load_r (a1 := a1) r.2.1 r.1) fun q hq => ?_
    rw [e1, if_pos c] at hq
    have add := add1 (x := m.1 14 1) (n := 59) (by omega) (by omega)
    have qc : ∀ b j, b < 291 → KC b j = true → q.2.1 b j = (xPut (xPut m 15 (m.1 14 1).toNatClampNeg a1) 14 1 (m.1 14 1 + 1)).1 b j := fun b j hb hk => (hq.2.1 b j ⟨by omega, by omega⟩).trans (((xP_pl (by omega)).trans (xP_pl (by omega))).symm.trans (hp.2.kc b j hk))
    have qo : ∀ b j, XC b j = true → b ≠ 15 → q.2.1 b j = m.1 b j := fun b j hx hb => by
      rw [qc b j (XC_lt hx) (XC_KC hx), ← xP_pl (fun w => by rw [w] at hx; exact absurd hx (XC14 j)), ← xP_pl hb]
    have g8 : q.2.1 292 8 = m.1 14 1 + 1 := (hq.2.1 292 8 ⟨by omega, by omega⟩).trans xP_eq.symm
    have gn : q.2.1 292 (1550 + (m.1 14 1).toNatClampNeg) = a1 := (hq.2.1 292 _ ⟨by omega, by omega⟩).trans ((xP_sl (by omega)).symm.trans xP_eq.symm)
    have go : ∀ j, XF 292 j → j ≠ 8 → j ≠ 1550 + (m.1 14 1).toNatClampNeg → q.2.1 292 j = m.1 292 j := fun j hx h1 h2 => (hq.2.1 292 j (XF_KR hx)).trans (((xP_sl h2).trans (xP_sl h1)).symm.trans (e 292 (by omega) j))
    have k15 : ∀ j, q.2.1 15 j = (xPut (xPut m 15 (m.1 14 1).toNatClampNeg a1) 14 1 (m.1 14 1 + 1)).1 15 j := fun j => qc 15 j (by omega) (keepKC 15 (by decide) j)
    obtain ⟨x1, x2, x3, ⟨l0, l1⟩, x4⟩ := h.2.1
    refine XI_now h.2 ⟨XT_cg (qo 1 10 (by decide) (by omega)) (qo 1 11 (by decide) (by omega)) (fun j hj => go j (Or.inl ⟨Or.inl rfl, by omega⟩) (by omega) (by omega)) x1, XD_cg (fun j _ => ⟨qo _ j (XC_k (by decide)) (by omega), qo _ j (XC_k (by decide)) (by omega)⟩) (fun j hj => go j (Or.inl ⟨Or.inl rfl, by omega⟩) (by omega) (by omega)) x2, XM_cg (fun j _ => ⟨qo _ j (XC_k (by decide)) (by omega), qo _ j (XC_k (by decide)) (by omega), qo _ j (XC_k (by decide)) (by omega), qo _ j (XC_k (by decide)) (by omega)⟩) (fun j hj => go j (Or.inl ⟨Or.inl rfl, by omega⟩) (by omega) (by omega)) x3, ⟨by rw [g8]; omega, by rw [g8]; omega⟩, fun k hk => ?_⟩ (fun b j hx hb => qo b j hx (by omega)) (fun b j hx hb => ?_)
    · rw [g8] at hk
      show q.2.1 15 k = _
      rw [k15, ← xP_pl (by omega)]
      by_cases w : k = (m.1 14 1).toNatClampNeg
      · rw [w, gn]
        exact xP_eq.symm
      · rw [← xP_sl w, go (1550 + k) (Or.inl ⟨Or.inl rfl, by omega⟩) (by omega) (by omega)]
        exact x4 k (by rw [← E]; omega)
    · have hi := XF_hi hx
      exact (hq.2.1 b j (XF_KR hx)).trans (((xP_pl hb).trans (xP_pl hb)).symm.trans (e b hi j))
  · rw [if_neg c] at hp
    have s := CS_IC hp.2
    have r := RI_CS h.1 s
    refine vOk_mono (load_r (a1 := a1) r.2.1 r.1) fun q hq => XI_RS ?_ (XI_CS s h.2)
    have e1 : p.2.1 292 8 = m.1 14 1 := (s.2 292 (by omega) 8).trans E.symm
    rw [e1, if_neg c] at hq
    exact RS_IR hq.2
theorem unload_w (h : InvW m) (hp : p.1 = m.1 14 1 ∧ IC (xPut m 14 1 0) p.2) : vOk (fun q : Int32 × xMem => InvW q.2 ∧ p.1 = q.1) (fX12_unload 291 p.2) := by
  refine vOk_mono (vAnd2 (unload_j h.1 hp) (?_ : vOk (fun q : Int32 × xMem => XI q.2) (fX12_unload 291 p.2))) fun q hq => ⟨⟨hq.1.1, hq.2⟩, hq.1.2⟩
  have s : CS m p.2 := CS_put hp.2 (by decide) (by omega)
  have r := RI_CS h.1 s
  refine vOk_mono (unload_r r.1) fun q hq => ?_
  have c0 : (0 : Int32).toInt = 0 := rfl
  have qo : ∀ b j, XC b j = true → q.2.1 b j = m.1 b j := fun b j hx => (hq.2.1 b j ⟨by have := XC_lt hx; omega, by have := XC_lt hx; omega⟩).trans ((xP_pl (by have := XC_lt hx; omega)).symm.trans (s.1 b j hx))
  have g8 : q.2.1 292 8 = 0 := (hq.2.1 292 8 ⟨by omega, by omega⟩).trans xP_eq.symm
  have go : ∀ j, XF 292 j → j ≠ 8 → q.2.1 292 j = m.1 292 j := fun j hx h1 => (hq.2.1 292 j (XF_KR hx)).trans ((xP_sl h1).symm.trans (s.2 292 (by omega) j))
  obtain ⟨x1, x2, x3, x4⟩ := h.2.1
  refine XI_now h.2 ⟨XT_cg (qo 1 10 (by decide)) (qo 1 11 (by decide)) (fun j hj => go j (Or.inl ⟨Or.inl rfl, by omega⟩) (by omega)) x1, XD_cg (fun j _ => ⟨qo _ j (XC_k (by decide)), qo _ j (XC_k (by decide))⟩) (fun j hj => go j (Or.inl ⟨Or.inl rfl, by omega⟩) (by omega)) x2, XM_cg (fun j _ => ⟨qo _ j (XC_k (by decide)), qo _ j (XC_k (by decide)), qo _ j (XC_k (by decide)), qo _ j (XC_k (by decide))⟩) (fun j hj => go j (Or.inl ⟨Or.inl rfl, by omega⟩) (by omega)) x3, ⟨by rw [g8]; decide, by rw [g8]; decide⟩, fun k hk => by rw [g8] at hk; exfalso; omega⟩ (fun b j hx hb => qo b j hx) (fun b j hx hb => ?_)
  exact (hq.2.1 b j (XF_KR hx)).trans ((xP_pl hb).symm.trans (s.2 b (XF_hi hx) j))
theorem day_w {b0 b1 : Int32} (hbb : b0 = 0 ↔ b1 = 0) (h : InvW m) (hp : if ((0 ≤ a2.toInt ∧ a2.toInt ≤ 5) ∧ (0 ≤ a3.toInt ∧ a3.toInt ≤ 9999)) ∧ (m.1 5 2).toInt < 40 then p.1 = m.1 5 2 + 1 ∧ IC (dayC m (slotN b0 a2) a3) p.2 else p.1 = -1 ∧ IC m p.2) : vOk (fun q : Int32 × xMem => InvW q.2 ∧ p.1 = q.1) (fX12_day 291 b1 a2 a3 p.2) := by
  have E : m.1 5 2 = m.1 292 6 := h.1.2.2.1.1.2.2.2.2.1
  have hb := b6 h.1
  have wn : (m.1 5 2).toNatClampNeg = (m.1 5 2).toInt.toNat := rfl
  refine vOk_mono (vAnd2 (day_j (b0 := b0) h.1 hp) (?_ : vOk (fun q : Int32 × xMem => XI q.2) (fX12_day 291 b1 a2 a3 p.2))) fun q hq => ⟨⟨hq.1.1, hq.2⟩, hq.1.2⟩
  by_cases c : ((0 ≤ a2.toInt ∧ a2.toInt ≤ 5) ∧ (0 ≤ a3.toInt ∧ a3.toInt ≤ 9999)) ∧ (m.1 5 2).toInt < 40
  · rw [if_pos c] at hp
    obtain ⟨r, e⟩ := RP_w h.1 hp.2 (fun b hb j => (dayC_o b j (Or.inr hb)).trans (xP_pl (by omega)).symm)
    have e1 : p.2.1 292 6 = m.1 5 2 := (e 292 (by omega) 6).trans E.symm
    refine vOk_mono (day_r (a1 := b1) (a2 := a2) (a3 := a3) r.2.1 r.1) fun q hq => ?_
    rw [e1, if_pos c] at hq
    have add := add1 (x := m.1 5 2) (n := 39) (by omega) (by omega)
    have qc : ∀ b j, b < 291 → KC b j = true → q.2.1 b j = (dayC m (slotN b0 a2) a3).1 b j := fun b j hb hk => (hq.2.1 b j ⟨by omega, by omega⟩).trans (((xP_pl (by omega)).trans ((xP_pl (by omega)).trans ((xP_pl (by omega)).trans (xP_pl (by omega))))).symm.trans (hp.2.kc b j hk))
    have qo : ∀ b j, XC b j = true → b ≠ 6 → b ≠ 7 → q.2.1 b j = m.1 b j := fun b j hx h6 h7 => by
      rw [qc b j (XC_lt hx) (XC_KC hx)]
      unfold dayC
      rw [← xP_pl (fun w => by rw [w] at hx; exact absurd hx (XC5 j)), ← xP_pl h7, ← xP_pl h6]
    have g6 : q.2.1 292 6 = m.1 5 2 + 1 := (hq.2.1 292 6 ⟨by omega, by omega⟩).trans xP_eq.symm
    have gc : q.2.1 292 (1392 + 3 * (m.1 5 2).toNatClampNeg) = a3 := (hq.2.1 292 _ ⟨by omega, by omega⟩).trans ((xP_sl (by omega)).symm.trans xP_eq.symm)
    have gb : q.2.1 292 (1391 + 3 * (m.1 5 2).toNatClampNeg) = a2 := (hq.2.1 292 _ ⟨by omega, by omega⟩).trans (((xP_sl (by omega)).trans (xP_sl (by omega))).symm.trans xP_eq.symm)
    have ga : q.2.1 292 (1390 + 3 * (m.1 5 2).toNatClampNeg) = (if b1 = 0 then 0 else 1) := (hq.2.1 292 _ ⟨by omega, by omega⟩).trans (((xP_sl (by omega)).trans ((xP_sl (by omega)).trans (xP_sl (by omega)))).symm.trans xP_eq.symm)
    have go : ∀ j, XF 292 j → j ≠ 6 → ¬ (1390 + 3 * (m.1 5 2).toNatClampNeg ≤ j ∧ j ≤ 1392 + 3 * (m.1 5 2).toNatClampNeg) → q.2.1 292 j = m.1 292 j := fun j hx h1 h2 => (hq.2.1 292 j (XF_KR hx)).trans (((xP_sl (by omega)).trans ((xP_sl (by omega)).trans ((xP_sl (by omega)).trans (xP_sl h1)))).symm.trans (e 292 (by omega) j))
    have k6 : ∀ j, q.2.1 6 j = (if j = slotN b0 a2 then m.1 6 (slotN b0 a2) + a3 else m.1 6 j) := fun j => by
      rw [qc 6 j (by omega) (keepKC 6 (by decide) j)]
      unfold dayC
      rw [← xP_pl (by omega), ← xP_pl (by omega)]
      by_cases w : j = slotN b0 a2
      · rw [w, if_pos rfl]; exact xP_eq.symm
      · rw [if_neg w, ← xP_sl w]
    have k7 : ∀ j, q.2.1 7 j = (if j = slotN b0 a2 then m.1 7 (slotN b0 a2) + 1 else m.1 7 j) := fun j => by
      rw [qc 7 j (by omega) (keepKC 7 (by decide) j)]
      unfold dayC
      rw [← xP_pl (by omega)]
      by_cases w : j = slotN b0 a2
      · rw [w, if_pos rfl]; exact xP_eq.symm
      · rw [if_neg w, ← xP_sl w, ← xP_pl (by omega)]
    obtain ⟨x1, ⟨⟨l0, l1⟩, x2, x5⟩, x3, x4⟩ := h.2.1
    have w9 : (q.2.1 292 6).toNatClampNeg = (m.1 5 2).toNatClampNeg + 1 := by
      have : (q.2.1 292 6).toNatClampNeg = (q.2.1 292 6).toInt.toNat := rfl
      rw [this, g6]
      omega
    have sl : slotG (q.2.1 292) (m.1 5 2).toNatClampNeg = slotN b0 a2 := by
      unfold slotG slotN
      rw [ga, gb]
      by_cases w : b0 = 0
      · rw [if_pos (hbb.mp w), if_pos rfl, if_pos w]
      · rw [if_neg (fun y => w (hbb.mpr y)), if_neg (by decide), if_neg w]
    refine XI_now h.2 ⟨XT_cg (qo 1 10 (by decide) (by omega) (by omega)) (qo 1 11 (by decide) (by omega) (by omega)) (fun j hj => go j (Or.inl ⟨Or.inl rfl, by omega⟩) (by omega) (by omega)) x1, ⟨⟨by rw [g6]; omega, by rw [g6]; omega⟩, fun s hs => ?_, fun k hk => ?_⟩, XM_cg (fun j _ => ⟨qo _ j (XC_k (by decide)) (by omega) (by omega), qo _ j (XC_k (by decide)) (by omega) (by omega), qo _ j (XC_k (by decide)) (by omega) (by omega), qo _ j (XC_k (by decide)) (by omega) (by omega)⟩) (fun j hj => go j (Or.inl ⟨Or.inl rfl, by omega⟩) (by omega) (by omega)) x3, XL_cg (fun j _ => qo _ j (XC_k (by decide)) (by omega) (by omega)) (fun j hj => go j (Or.inl ⟨Or.inl rfl, by omega⟩) (by omega) (by omega)) x4⟩ (fun b j hx hb => qo b j hx (by omega) (by omega)) (fun b j hx hb => ?_)
    · have q1 := dS_cg (g := m.1 292) (g' := q.2.1 292) (s := s) (m.1 5 2).toNatClampNeg (fun j h1 h2 => go j (Or.inl ⟨Or.inl rfl, by omega⟩) (by omega) (by omega))
      have x6 := x2 s hs
      rw [← E] at x6
      rw [w9]
      show q.2.1 6 s = (if slotG (q.2.1 292) (m.1 5 2).toNatClampNeg = s then dS (q.2.1 292) s (m.1 5 2).toNatClampNeg + q.2.1 292 (1392 + 3 * (m.1 5 2).toNatClampNeg) else dS (q.2.1 292) s (m.1 5 2).toNatClampNeg) ∧ q.2.1 7 s = (if slotG (q.2.1 292) (m.1 5 2).toNatClampNeg = s then dC (q.2.1 292) s (m.1 5 2).toNatClampNeg + 1 else dC (q.2.1 292) s (m.1 5 2).toNatClampNeg)
      rw [sl, q1.1, q1.2, gc, k6, k7]
      by_cases w : s = slotN b0 a2
      · rw [if_pos w, if_pos w, if_pos w.symm, if_pos w.symm, ← w, ← x6.1, ← x6.2]
        exact ⟨rfl, rfl⟩
      · rw [if_neg w, if_neg w, if_neg (Ne.symm w), if_neg (Ne.symm w), ← x6.1, ← x6.2]
        exact ⟨rfl, rfl⟩
    · rw [g6] at hk
      by_cases w : k = (m.1 5 2).toNatClampNeg
      · rw [w]
        unfold dOk
        rw [ga, gb, gc]
        refine ⟨?_, c.1.1, c.1.2⟩
        by_cases y : b1 = 0
        · rw [if_pos y]; exact Or.inl rfl
        · rw [if_neg y]; exact Or.inr rfl
      · have x6 := x5 k (by rw [← E]; omega)
        unfold dOk at x6 ⊢
        rw [go (1390 + 3 * k) (Or.inl ⟨Or.inl rfl, by omega⟩) (by omega) (by omega), go (1391 + 3 * k) (Or.inl ⟨Or.inl rfl, by omega⟩) (by omega) (by omega), go (1392 + 3 * k) (Or.inl ⟨Or.inl rfl, by omega⟩) (by omega) (by omega)]
        exact x6
    · have hi := XF_hi hx
      exact (hq.2.1 b j (XF_KR hx)).trans (((xP_pl hb).trans ((xP_pl hb).trans ((xP_pl hb).trans (xP_pl hb)))).symm.trans (e b hi j))
  · rw [if_neg c] at hp
    have s := CS_IC hp.2
    have r := RI_CS h.1 s
    refine vOk_mono (day_r (a1 := b1) (a2 := a2) (a3 := a3) r.2.1 r.1) fun q hq => XI_RS ?_ (XI_CS s h.2)
    have e1 : p.2.1 292 6 = m.1 5 2 := (s.2 292 (by omega) 6).trans E.symm
    rw [e1, if_neg c] at hq
    exact RS_IR hq.2
theorem mend_w (h : InvW m) (hp : ((okM a1 a2 a3 a4 ∧ (m.1 8 5).toInt < 6) ∧ p.1 = m.1 8 5 ∧ IC (mendC m a1 a2 a3 a4) p.2) ∨ (¬ (okM a1 a2 a3 a4 ∧ (m.1 8 5).toInt < 6) ∧ p.1 = -1 ∧ IC m p.2)) : vOk (fun q : Int32 × xMem => InvW q.2 ∧ p.1 = q.1) (fX12_mend 291 a1 a2 a3 a4 p.2) := by
  have E : m.1 8 5 = m.1 292 7 := h.1.2.2.1.1.2.2.2.2.2.1
  have hb := b7 h.1
  have wn : (m.1 8 5).toNatClampNeg = (m.1 8 5).toInt.toNat := rfl
  refine vOk_mono (vAnd2 (mend_j h.1 hp) (?_ : vOk (fun q : Int32 × xMem => XI q.2) (fX12_mend 291 a1 a2 a3 a4 p.2))) fun q hq => ⟨⟨hq.1.1, hq.2⟩, hq.1.2⟩
  rcases hp with ⟨c, hp⟩ | ⟨c, hp⟩
  · obtain ⟨r, e⟩ := RP_w h.1 hp.2 (fun b hb j => (mendC_o b j (Or.inr hb)).trans (xP_pl (by omega)).symm)
    have e1 : p.2.1 292 7 = m.1 8 5 := (e 292 (by omega) 7).trans E.symm
    refine vOk_mono (mend_r (a1 := a1) (a2 := a2) (a3 := a3) (a4 := a4) r.2.1 r.1) fun q hq => ?_
    unfold mendR at hq
    rw [e1] at hq
    have hq := (hq.resolve_right (fun w => w.1 c)).2
    have add := add1 (x := m.1 8 5) (n := 5) (by omega) (by omega)
    have x5 : ∀ b j (v1 v2 v3 v4 v5 : Int32) (i1 i2 i3 i4 i5 : Nat), b ≠ 292 → (xPut (xPut (xPut (xPut (xPut p.2 292 i1 v1) 292 i2 v2) 292 i3 v3) 292 i4 v4) 292 i5 v5).1 b j = p.2.1 b j := fun b j _ _ _ _ _ _ _ _ _ _ h => ((xP_pl h).trans ((xP_pl h).trans ((xP_pl h).trans ((xP_pl h).trans (xP_pl h))))).symm
    have qc : ∀ b j, b < 291 → KC b j = true → q.2.1 b j = (mendC m a1 a2 a3 a4).1 b j := fun b j hb hk => (hq.2.1 b j ⟨by omega, by omega⟩).trans ((x5 b j _ _ _ _ _ _ _ _ _ _ (by omega)).trans (hp.2.kc b j hk))
    have qo : ∀ b j, XC b j = true → ¬ (9 ≤ b ∧ b ≤ 12) → q.2.1 b j = m.1 b j := fun b j hx h6 => by
      rw [qc b j (XC_lt hx) (XC_KC hx)]
      unfold mendC
      rw [← xP_pl (fun w => by rw [w] at hx; exact absurd hx (XC8 j)), ← xP_pl (by omega), ← xP_pl (by omega), ← xP_pl (by omega), ← xP_pl (by omega)]
    have g7 : q.2.1 292 7 = m.1 8 5 + 1 := (hq.2.1 292 7 ⟨by omega, by omega⟩).trans xP_eq.symm
    have gd : q.2.1 292 (1523 + 4 * (m.1 8 5).toNatClampNeg) = a4 := (hq.2.1 292 _ ⟨by omega, by omega⟩).trans ((xP_sl (by omega)).symm.trans xP_eq.symm)
    have gc : q.2.1 292 (1522 + 4 * (m.1 8 5).toNatClampNeg) = a3 := (hq.2.1 292 _ ⟨by omega, by omega⟩).trans (((xP_sl (by omega)).trans (xP_sl (by omega))).symm.trans xP_eq.symm)
    have gb : q.2.1 292 (1521 + 4 * (m.1 8 5).toNatClampNeg) = a2 := (hq.2.1 292 _ ⟨by omega, by omega⟩).trans (((xP_sl (by omega)).trans ((xP_sl (by omega)).trans (xP_sl (by omega)))).symm.trans xP_eq.symm)
    have ga : q.2.1 292 (1520 + 4 * (m.1 8 5).toNatClampNeg) = a1 := (hq.2.1 292 _ ⟨by omega, by omega⟩).trans (((xP_sl (by omega)).trans ((xP_sl (by omega)).trans ((xP_sl (by omega)).trans (xP_sl (by omega))))).symm.trans xP_eq.symm)
    have go : ∀ j, XF 292 j → j ≠ 7 → ¬ (1520 + 4 * (m.1 8 5).toNatClampNeg ≤ j ∧ j ≤ 1523 + 4 * (m.1 8 5).toNatClampNeg) → q.2.1 292 j = m.1 292 j := fun j hx h1 h2 => (hq.2.1 292 j (XF_KR hx)).trans (((xP_sl (by omega)).trans ((xP_sl (by omega)).trans ((xP_sl (by omega)).trans ((xP_sl (by omega)).trans (xP_sl h1))))).symm.trans (e 292 (by omega) j))
    have kk : ∀ a ∈ pKeep, ∀ j, q.2.1 a j = (mendC m a1 a2 a3 a4).1 a j := fun a ha j => qc a j ((show ∀ a ∈ pKeep, a < 291 by decide) a ha) (keepKC a ha j)
    obtain ⟨x1, x2, ⟨⟨l0, l1⟩, x3⟩, x4⟩ := h.2.1
    refine XI_now h.2 ⟨XT_cg (qo 1 10 (by decide) (by omega)) (qo 1 11 (by decide) (by omega)) (fun j hj => go j (Or.inl ⟨Or.inl rfl, by omega⟩) (by omega) (by omega)) x1, XD_cg (fun j _ => ⟨qo _ j (XC_k (by decide)) (by omega), qo _ j (XC_k (by decide)) (by omega)⟩) (fun j hj => go j (Or.inl ⟨Or.inl rfl, by omega⟩) (by omega) (by omega)) x2, ⟨⟨by rw [g7]; omega, by rw [g7]; omega⟩, fun k hk => ?_⟩, XL_cg (fun j _ => qo _ j (XC_k (by decide)) (by omega)) (fun j hj => go j (Or.inl ⟨Or.inl rfl, by omega⟩) (by omega) (by omega)) x4⟩ (fun b j hx hb => qo b j hx (by omega)) (fun b j hx hb => ?_)
    · rw [g7] at hk
      unfold mOk
      show (q.2.1 9 k = _ ∧ q.2.1 10 k = _ ∧ q.2.1 11 k = _ ∧ q.2.1 12 k = _) ∧ _
      rw [kk 9 (by decide), kk 10 (by decide), kk 11 (by decide), kk 12 (by decide)]
      unfold mendC
      by_cases w : k = (m.1 8 5).toNatClampNeg
      · rw [w, ga, gb, gc, gd]
        refine ⟨⟨?_, ?_, ?_, ?_⟩, c.1⟩
        · rw [← xP_pl (by omega), ← xP_pl (by omega), ← xP_pl (by omega), ← xP_pl (by omega)]; exact xP_eq.symm
        · rw [← xP_pl (by omega), ← xP_pl (by omega), ← xP_pl (by omega)]; exact xP_eq.symm
        · rw [← xP_pl (by omega), ← xP_pl (by omega)]; exact xP_eq.symm
        · rw [← xP_pl (by omega)]; exact xP_eq.symm
      · have x6 := x3 k (by rw [← E]; omega)
        unfold mOk at x6
        rw [go (1520 + 4 * k) (Or.inl ⟨Or.inl rfl, by omega⟩) (by omega) (by omega), go (1521 + 4 * k) (Or.inl ⟨Or.inl rfl, by omega⟩) (by omega) (by omega), go (1522 + 4 * k) (Or.inl ⟨Or.inl rfl, by omega⟩) (by omega) (by omega), go (1523 + 4 * k) (Or.inl ⟨Or.inl rfl, by omega⟩) (by omega) (by omega)]
        refine ⟨⟨?_, ?_, ?_, ?_⟩, x6.2⟩
        · rw [← xP_pl (by omega), ← xP_pl (by omega), ← xP_pl (by omega), ← xP_pl (by omega), ← xP_sl w]; exact x6.1.1
        · rw [← xP_pl (by omega), ← xP_pl (by omega), ← xP_pl (by omega), ← xP_sl w, ← xP_pl (by omega)]; exact x6.1.2.1
        · rw [← xP_pl (by omega), ← xP_pl (by omega), ← xP_sl w, ← xP_pl (by omega), ← xP_pl (by omega)]; exact x6.1.2.2.1
        · rw [← xP_pl (by omega), ← xP_sl w, ← xP_pl (by omega), ← xP_pl (by omega), ← xP_pl (by omega)]; exact x6.1.2.2.2
    · have hi := XF_hi hx
      exact (hq.2.1 b j (XF_KR hx)).trans ((x5 b j _ _ _ _ _ _ _ _ _ _ hb).trans (e b hi j))
  · have s := CS_IC hp.2
    have r := RI_CS h.1 s
    refine vOk_mono (mend_r (a1 := a1) (a2 := a2) (a3 := a3) (a4 := a4) r.2.1 r.1) fun q hq => XI_RS ?_ (XI_CS s h.2)
    have e1 : p.2.1 292 7 = m.1 8 5 := (s.2 292 (by omega) 7).trans E.symm
    rw [e1] at hq
    exact RS_IR (hq.resolve_left (fun w => c w.1)).2.2
theorem image_w (h : InvW m) (hp : p.1 = m.1 1 6 ∧ ∃ T, CA 84 1 m T ∧ CX 84 1 m T ∧ IC T p.2) : vOk (fun q : Int32 × xMem => InvW q.2 ∧ p.1 = q.1) (fX12_image 291 p.2) := by
  refine vOk_mono (vAnd2 (image_j h.1 hp) (?_ : vOk (fun q : Int32 × xMem => XI q.2) (fX12_image 291 p.2))) fun q hq => ⟨⟨hq.1.1, hq.2⟩, hq.1.2⟩
  obtain ⟨_, T, hT, hX, hI⟩ := hp
  have e := cls_rows (m := m) hI (fun b hb j => hT.2.1 b j (by omega))
  refine ⟨_, image_e, ?_⟩
  show XI (cpRow p.2 292 293 1610)
  have o : ∀ b, b ≠ 293 → ∀ j, (cpRow p.2 292 293 1610).1 b j = p.2.1 b j := fun b hb j => cpRow_o (Or.inl hb)
  have d : ∀ j, j < 1610 → (cpRow p.2 292 293 1610).1 293 j = p.2.1 292 j := fun j hj => cpRow_d hj
  have lo : ∀ b j, XC b j = true → (cpRow p.2 292 293 1610).1 b j = T.1 b j := fun b j hx => (o b (by have := XC_lt hx; omega) j).trans (hI.kc b j (XC_KC hx))
  have oo : ∀ b j, XC b j = true → ¬ (84 ≤ b ∧ b < 84 + 83) → (cpRow p.2 292 293 1610).1 b j = m.1 b j := fun b j hx hb => (lo b j hx).trans (hT.2.1 b j hb)
  obtain ⟨y1, y2, y3, y4⟩ := hX
  obtain ⟨z1, z2, z3, z4, z5, z6⟩ := h.2
  have src' : XR 1 (cpRow p.2 292 293 1610) ((cpRow p.2 292 293 1610).1 292) := XR_cg (Or.inl rfl) (fun b j hx h1 h2 => oo b j hx (by omega)) (fun j hj => (o 292 (by omega) j).trans (e 292 (by omega) j)) z1
  have dst' : XR 84 (cpRow p.2 292 293 1610) ((cpRow p.2 292 293 1610).1 293) := by
    have gg : ∀ j, j < 1610 → (cpRow p.2 292 293 1610).1 293 j = m.1 292 j := fun j hj => (d j hj).trans (e 292 (by omega) j)
    obtain ⟨w1, ⟨w20, w2, w21⟩, ⟨w30, w3⟩, ⟨w40, w4⟩⟩ := z1
    refine ⟨⟨?_, ?_⟩, ⟨?_, fun s hs => ?_, fun k hk => ?_⟩, ⟨?_, fun k hk => ?_⟩, ⟨?_, fun k hk => ?_⟩⟩
    · rw [lo 84 10 (by decide), gg 4 (by omega), y1.1]; exact w1.1
    · rw [lo 84 11 (by decide), gg 5 (by omega), y1.2]; exact w1.2
    · rw [gg 6 (by omega)]; exact w20
    · have l1 := w20.2
      have wn : (m.1 292 6).toNatClampNeg = (m.1 292 6).toInt.toNat := rfl
      have q := dS_cg (g := m.1 292) (g' := (cpRow p.2 292 293 1610).1 293) (s := s) (m.1 292 6).toNatClampNeg (fun j h1 h2 => gg j (by omega))
      rw [gg 6 (by omega), q.1, q.2, lo (84 + 5) s (XC_k (by decide)), lo (84 + 6) s (XC_k (by decide)), (y2 s hs).1, (y2 s hs).2]
      exact w2 s hs
    · have l1 := w20.2
      rw [gg 6 (by omega)] at hk
      have q := w21 k hk
      unfold dOk at q ⊢
      rw [gg (1390 + 3 * k) (by omega), gg (1391 + 3 * k) (by omega), gg (1392 + 3 * k) (by omega)]
      exact q
    · rw [gg 7 (by omega)]; exact w30
    · have l1 := w30.2
      rw [gg 7 (by omega)] at hk
      have q := w3 k hk
      have y := y3 k (by omega)
      unfold mOk at q ⊢
      rw [gg (1520 + 4 * k) (by omega), gg (1521 + 4 * k) (by omega), gg (1522 + 4 * k) (by omega), gg (1523 + 4 * k) (by omega), lo (84 + 8) k (XC_k (by decide)), lo (84 + 9) k (XC_k (by decide)), lo (84 + 10) k (XC_k (by decide)), lo (84 + 11) k (XC_k (by decide)), y.1, y.2.1, y.2.2.1, y.2.2.2]
      exact q
    · rw [gg 8 (by omega)]; exact w40
    · have l1 := w40.2
      rw [gg 8 (by omega)] at hk
      rw [gg (1550 + k) (by omega), lo (84 + 14) k (XC_k (by decide)), y4 k (by omega)]
      exact w4 k hk
  have f291 : ∀ j, (cpRow p.2 292 293 1610).1 291 j = m.1 291 j := fun j => (o 291 (by omega) j).trans (e 291 (by omega) j)
  refine ⟨src', dst', ?_, ?_, ?_, fun j hj => ?_⟩
  · rw [oo 255 4 (by decide) (by omega), f291]; exact z3
  · rw [oo 255 5 (by decide) (by omega), f291]; exact z4
  · rw [oo 255 6 (by decide) (by omega), f291]; exact z5
  · rw [f291] at hj
    rw [oo 256 j (XC_k (by decide)) (by omega), (o 295 (by omega) j).trans (e 295 (by omega) j)]
    exact z6 j hj
theorem back_w (h : InvW m) (hp : p.1 = m.1 84 6 ∧ ∃ T, CA 1 84 m T ∧ CX 1 84 m T ∧ IC T p.2) : vOk (fun q : Int32 × xMem => InvW q.2 ∧ p.1 = q.1) (fX12_back 291 p.2) := by
  refine vOk_mono (vAnd2 (back_j h.1 hp) (?_ : vOk (fun q : Int32 × xMem => XI q.2) (fX12_back 291 p.2))) fun q hq => ⟨⟨hq.1.1, hq.2⟩, hq.1.2⟩
  obtain ⟨_, T, hT, hX, hI⟩ := hp
  have e := cls_rows (m := m) hI (fun b hb j => hT.2.1 b j (by omega))
  refine ⟨_, back_e, ?_⟩
  show XI (cpRow p.2 293 292 1610)
  have o : ∀ b, b ≠ 292 → ∀ j, (cpRow p.2 293 292 1610).1 b j = p.2.1 b j := fun b hb j => cpRow_o (Or.inl hb)
  have d : ∀ j, j < 1610 → (cpRow p.2 293 292 1610).1 292 j = p.2.1 293 j := fun j hj => cpRow_d hj
  have lo : ∀ b j, XC b j = true → (cpRow p.2 293 292 1610).1 b j = T.1 b j := fun b j hx => (o b (by have := XC_lt hx; omega) j).trans (hI.kc b j (XC_KC hx))
  have oo : ∀ b j, XC b j = true → ¬ (1 ≤ b ∧ b < 1 + 83) → (cpRow p.2 293 292 1610).1 b j = m.1 b j := fun b j hx hb => (lo b j hx).trans (hT.2.1 b j hb)
  obtain ⟨y1, y2, y3, y4⟩ := hX
  obtain ⟨z1, z2, z3, z4, z5, z6⟩ := h.2
  have src' : XR 84 (cpRow p.2 293 292 1610) ((cpRow p.2 293 292 1610).1 293) := XR_cg (Or.inr rfl) (fun b j hx h1 h2 => oo b j hx (by omega)) (fun j hj => (o 293 (by omega) j).trans (e 293 (by omega) j)) z2
  have dst' : XR 1 (cpRow p.2 293 292 1610) ((cpRow p.2 293 292 1610).1 292) := by
    have gg : ∀ j, j < 1610 → (cpRow p.2 293 292 1610).1 292 j = m.1 293 j := fun j hj => (d j hj).trans (e 293 (by omega) j)
    obtain ⟨w1, ⟨w20, w2, w21⟩, ⟨w30, w3⟩, ⟨w40, w4⟩⟩ := z2
    refine ⟨⟨?_, ?_⟩, ⟨?_, fun s hs => ?_, fun k hk => ?_⟩, ⟨?_, fun k hk => ?_⟩, ⟨?_, fun k hk => ?_⟩⟩
    · rw [lo 1 10 (by decide), gg 4 (by omega), y1.1]; exact w1.1
    · rw [lo 1 11 (by decide), gg 5 (by omega), y1.2]; exact w1.2
    · rw [gg 6 (by omega)]; exact w20
    · have l1 := w20.2
      have wn : (m.1 293 6).toNatClampNeg = (m.1 293 6).toInt.toNat := rfl
      have q := dS_cg (g := m.1 293) (g' := (cpRow p.2 293 292 1610).1 292) (s := s) (m.1 293 6).toNatClampNeg (fun j h1 h2 => gg j (by omega))
      rw [gg 6 (by omega), q.1, q.2, lo (1 + 5) s (XC_k (by decide)), lo (1 + 6) s (XC_k (by decide)), (y2 s hs).1, (y2 s hs).2]
      exact w2 s hs
    · have l1 := w20.2
      rw [gg 6 (by omega)] at hk
      have q := w21 k hk
      unfold dOk at q ⊢
      rw [gg (1390 + 3 * k) (by omega), gg (1391 + 3 * k) (by omega), gg (1392 + 3 * k) (by omega)]
      exact q
    · rw [gg 7 (by omega)]; exact w30
    · have l1 := w30.2
      rw [gg 7 (by omega)] at hk
      have q := w3 k hk
      have y := y3 k (by omega)
      unfold mOk at q ⊢
      rw [gg (1520 + 4 * k) (by omega), gg (1521 + 4 * k) (by omega), gg (1522 + 4 * k) (by omega), gg (1523 + 4 * k) (by omega), lo (1 + 8) k (XC_k (by decide)), lo (1 + 9) k (XC_k (by decide)), lo (1 + 10) k (XC_k (by decide)), lo (1 + 11) k (XC_k (by decide)), y.1, y.2.1, y.2.2.1, y.2.2.2]
      exact q
    · rw [gg 8 (by omega)]; exact w40
    · have l1 := w40.2
      rw [gg 8 (by omega)] at hk
      rw [gg (1550 + k) (by omega), lo (1 + 14) k (XC_k (by decide)), y4 k (by omega)]
      exact w4 k hk
  have f291 : ∀ j, (cpRow p.2 293 292 1610).1 291 j = m.1 291 j := fun j => (o 291 (by omega) j).trans (e 291 (by omega) j)
  refine ⟨dst', src', ?_, ?_, ?_, fun j hj => ?_⟩
  · rw [oo 255 4 (by decide) (by omega), f291]; exact z3
  · rw [oo 255 5 (by decide) (by omega), f291]; exact z4
  · rw [oo 255 6 (by decide) (by omega), f291]; exact z5
  · rw [f291] at hj
    rw [oo 256 j (XC_k (by decide)) (by omega), (o 295 (by omega) j).trans (e 295 (by omega) j)]
    exact z6 j hj
end
