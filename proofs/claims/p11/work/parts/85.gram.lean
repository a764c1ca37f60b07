/-! the grammar as a machine over tokens -/
def topF : List Nat → Nat
  | [] => 0
  | f :: _ => f
def dropM : List Nat → List Nat
  | [] => []
  | f :: r => if f = 7 then dropM r else f :: r
def dropN : List Nat → List Nat
  | [] => []
  | f :: r => if f = 3 then dropN r else f :: r
def opc : List Nat → Nat
  | [] => 0
  | f :: r => (if f = 3 ∨ f = 6 ∨ f = 7 then 1 else 0) + opc r
theorem dropM_id {fs : List Nat} (h : ¬ topF fs = 7) : dropM fs = fs := by
  cases fs with
  | nil => rfl
  | cons f r => exact if_neg h
abbrev Cf : Type := Nat × Nat × List Nat × Nat × Nat × Nat
abbrev isOpr (x : Int) : Prop := x = 9 ∨ x = 10 ∨ x = 11 ∨ x = 12
abbrev bad5 (v : Int) (k : Nat) : Prop := ¬ v = 0 ∧ ((v < 5 ∧ k = 0) ∨ (5 ≤ v ∧ ¬ k = 0))
def aS0 (K : Nat → Int) (i : Nat) (fs : List Nat) (k C w : Nat) : Nat × Cf := if K i = 25 then (if opc fs = 8 then (3, (i, 0, fs, k, C, w)) else (0, (i + 1, 0, 3 :: fs, k, C, w))) else (0, (i, 1, 4 :: fs, k, C, w))
def aS1 (K V : Nat → Int) (i : Nat) (fs : List Nat) (k C w : Nat) : Nat × Cf :=
  if K i = 2 then (if 9999 < V i then (2, (i, 1, fs, k, C, w)) else (0, (i + 1, 2, dropM fs, k, C, w)))
  else if K i = 26 then (if bad5 (V i) k then (5, (i, 1, fs, k, C, w)) else (0, (i + 1, 2, dropM fs, k, C, w)))
  else if K i = 13 then (if opc fs = 8 then (3, (i, 1, fs, k, C, w)) else (0, (i + 1, 1, 6 :: fs, k, C, w)))
  else if K i = 10 then (if opc fs = 8 then (3, (i, 1, fs, k, C, w)) else (0, (i + 1, 1, 7 :: fs, k, C, w)))
  else (1, (i, 1, fs, k, C, w))
def aS2 (K : Nat → Int) (i : Nat) (fs : List Nat) (k C w : Nat) : Nat × Cf :=
  if isOpr (K i) then (0, (i + 1, 1, fs, k, C, w))
  else if topF fs = 6 ∧ K i = 14 then (0, (i + 1, 2, dropM fs.tail, k, C, w))
  else if topF fs = 4 ∧ 3 ≤ K i ∧ K i ≤ 8 then (0, (i + 1, 1, 5 :: fs.tail, k, C, w))
  else if topF fs = 5 then (0, (i, 3, dropN fs.tail, k, C, w))
  else if topF fs = 1 ∧ K i = 15 then (0, (i + 1, 4, [], k, C, w))
  else (1, (i, 2, fs, k, C, w))
def aS3 (K : Nat → Int) (i : Nat) (fs : List Nat) (k C w : Nat) : Nat × Cf :=
  if K i = 23 ∨ K i = 24 then (0, (i + 1, 0, fs, k, C, w))
  else if topF fs = 2 ∧ K i = 15 then (0, (i + 1, 4, [], k, C, w))
  else (1, (i, 3, fs, k, C, w))
def aS4 (K : Nat → Int) (i : Nat) (fs : List Nat) (k C w : Nat) : Nat × Cf :=
  if K i = 0 then (9, (i, 4, fs, k, C, w))
  else if ¬ (K i = 20 ∨ K i = 21 ∨ K i = 22) then (1, (i, 4, fs, k, C, w))
  else if K i = 20 ∧ ¬ w = 0 then (4, (i, 4, fs, k, C, w))
  else if C = 10 then (6, (i, 4, fs, k, C, w))
  else (0, (i + 1, if K i = 20 then 1 else 0, if K i = 20 then [1] else [2], if K i = 20 then 0 else 1, C + 1, if K i = 20 then 1 else w))
def gS (K V : Nat → Int) (c : Cf) : Nat × Cf :=
  if c.2.1 = 0 then aS0 K c.1 c.2.2.1 c.2.2.2.1 c.2.2.2.2.1 c.2.2.2.2.2
  else if c.2.1 = 1 then aS1 K V c.1 c.2.2.1 c.2.2.2.1 c.2.2.2.2.1 c.2.2.2.2.2
  else if c.2.1 = 2 then aS2 K c.1 c.2.2.1 c.2.2.2.1 c.2.2.2.2.1 c.2.2.2.2.2
  else if c.2.1 = 3 then aS3 K c.1 c.2.2.1 c.2.2.2.1 c.2.2.2.2.1 c.2.2.2.2.2
  else aS4 K c.1 c.2.2.1 c.2.2.2.1 c.2.2.2.2.1 c.2.2.2.2.2
def gN (K V : Nat → Int) : Nat → Cf → Option Cf
  | 0, c => some c
  | n + 1, c => if (gS K V c).1 = 0 then gN K V n (gS K V c).2 else none
section
variable {K V P : Nat → Int}
def Rc (K V : Nat → Int) (c d : Cf) : Prop := ∃ n, gN K V n c = some d
def Er (K V : Nat → Int) (c : Cf) (f j : Nat) : Prop := ∃ d, Rc K V c d ∧ (gS K V d).1 = f ∧ ¬ f = 0 ∧ d.1 = j
theorem Rc_refl {c : Cf} : Rc K V c c := ⟨0, rfl⟩
theorem Rc_step {c d e : Cf} (h : gS K V c = (0, d)) (q : Rc K V d e) : Rc K V c e := by
  obtain ⟨n, q⟩ := q
  refine ⟨n + 1, ?_⟩
  show (if (gS K V c).1 = 0 then gN K V n (gS K V c).2 else none) = _
  rw [h]
  exact (if_pos rfl).trans q
theorem Rc_1 {c d : Cf} (h : gS K V c = (0, d)) : Rc K V c d := Rc_step h Rc_refl
theorem Rc_trN {d e : Cf} (q : Rc K V d e) : ∀ (n : Nat) (c : Cf), gN K V n c = some d → Rc K V c e := by
  intro n
  induction n with
  | zero =>
    intro c h
    have : c = d := Option.some.inj h
    rw [this]; exact q
  | succ n ih =>
    intro c h
    have h' : (if (gS K V c).1 = 0 then gN K V n (gS K V c).2 else none) = some d := h
    by_cases z : (gS K V c).1 = 0
    · rw [if_pos z] at h'
      exact Rc_step (Prod.ext z rfl) (ih _ h')
    · rw [if_neg z] at h'
      exact absurd h' (by simp)
theorem Rc_tr {c d e : Cf} (p : Rc K V c d) (q : Rc K V d e) : Rc K V c e := by
  obtain ⟨n, p⟩ := p
  exact Rc_trN q n c p
theorem Er_1 {c d : Cf} {f : Nat} (h : gS K V c = (f, d)) (hf : ¬ f = 0) : Er K V c f c.1 := ⟨c, Rc_refl, by rw [h], hf, rfl⟩
theorem Er_tr {c d : Cf} {f j : Nat} (p : Rc K V c d) (q : Er K V d f j) : Er K V c f j := by
  obtain ⟨e, a, b⟩ := q
  exact ⟨e, Rc_tr p a, b⟩
/-! the class's reader: what its rows of tokens hold -/
def TKN (m : xMem) (K V P : Nat → Int) (n : Nat) : Prop := (m.1 255 7).toInt = (n : Int) ∧ n ≤ 301 ∧ (∀ i, i < n → (m.1 257 i).toInt = K i ∧ (m.1 258 i).toInt = V i ∧ (m.1 259 i).toInt = P i) ∧ (∀ i, n ≤ i → K i = 0 ∧ V i = 0 ∧ P i = 0)
def FR (r : Nat) (m m1 : xMem) : Prop := m1.2 = m.2 ∧ ∀ b j, ¬ ((b = 255 ∧ (j = 5 ∨ j = 6 ∨ j = 8)) ∨ (b = r ∧ j = 5) ∨ b = r + 1 ∨ b = r + 2) → m1.1 b j = m.1 b j
theorem FR_refl {r : Nat} {m : xMem} : FR r m m := ⟨rfl, fun _ _ _ => rfl⟩
theorem FR_tr {r : Nat} {a b c : xMem} (h1 : FR r a b) (h2 : FR r b c) : FR r a c := ⟨h2.1.trans h1.1, fun x j q => (h2.2 x j q).trans (h1.2 x j q)⟩
theorem FR_put {r : Nat} {m0 m : xMem} {b j : Nat} {v : Int32} (h : FR r m0 m) (hb : (b = 255 ∧ (j = 5 ∨ j = 6 ∨ j = 8)) ∨ (b = r ∧ j = 5) ∨ b = r + 1 ∨ b = r + 2) : FR r m0 (xPut m b j v) := by
  refine ⟨h.1, fun c i q => ?_⟩
  show (if c = b ∧ i = j then v else m.1 c i) = _
  rw [if_neg (by omega)]
  exact h.2 c i q
theorem TKN_FR {r n : Nat} {m m1 : xMem} (hr : 260 ≤ r) (f : FR r m m1) (t : TKN m K V P n) : TKN m1 K V P n := by
  obtain ⟨a, b, c, d⟩ := t
  refine ⟨by rw [f.2 255 7 (by omega)]; exact a, b, fun i hi => ?_, d⟩
  rw [f.2 257 i (by omega), f.2 258 i (by omega), f.2 259 i (by omega)]
  exact c i hi
def RD (m : xMem) (K V P : Nat → Int) (n i k : Nat) : Prop := TKN m K V P n ∧ (m.1 255 8).toInt = (i : Int) ∧ ((m.1 255 9).toInt = 0 ↔ k = 0) ∧ i ≤ 1000
variable {n i k : Nat} {m : xMem}
theorem kind_k (h : RD m K V P n i k) : vOk (PP m (fun x : Int32 => x.toInt = K i)) (fX7_kind 255 m) := by
  obtain ⟨⟨t7, tn, ta, tb⟩, hi, hk, hi1⟩ := h
  have c0 : (0 : Int32).toInt = 0 := rfl
  have c301 : (301 : Int32).toInt = 301 := rfl
  unfold fX7_kind fX7_kind_0
  refine vAl (x := m.1 255 8) rfl ?_
  refine vLt (fun g => by exfalso; omega) (fun _ => ?_)
  refine vAl (x := m.1 255 8) rfl ?_
  refine vAl (x := m.1 255 7) rfl ?_
  refine vLe (fun g => ?_) (fun g => ?_)
  · unfold fX7_kind_42 fX7_kind_43
    exact rP (c0.trans (tb i (by omega)).1.symm)
  · refine vAl (x := m.1 255 8) rfl ?_
    refine vLe (fun g2 => by exfalso; omega) (fun g2 => ?_)
    refine vAl (x := m.1 255 8) rfl ?_
    refine vIn (by omega) (by omega) fun _ => ?_
    rw [wN hi]
    refine vR fun x e => ?_
    unfold fX7_kind_43
    exact rP (by rw [e]; exact (ta i (by omega)).1)
theorem value_k (h : RD m K V P n i k) : vOk (PP m (fun x : Int32 => x.toInt = V i)) (fX7_value 255 m) := by
  obtain ⟨⟨t7, tn, ta, tb⟩, hi, hk, hi1⟩ := h
  have c0 : (0 : Int32).toInt = 0 := rfl
  have c301 : (301 : Int32).toInt = 301 := rfl
  unfold fX7_value fX7_value_0
  refine vAl (x := m.1 255 8) rfl ?_
  refine vLt (fun g => by exfalso; omega) (fun _ => ?_)
  refine vAl (x := m.1 255 8) rfl ?_
  refine vAl (x := m.1 255 7) rfl ?_
  refine vLe (fun g => ?_) (fun g => ?_)
  · unfold fX7_value_42 fX7_value_43
    exact rP (c0.trans (tb i (by omega)).2.1.symm)
  · refine vAl (x := m.1 255 8) rfl ?_
    refine vLe (fun g2 => by exfalso; omega) (fun g2 => ?_)
    refine vAl (x := m.1 255 8) rfl ?_
    refine vIn (by omega) (by omega) fun _ => ?_
    rw [wN hi]
    refine vR fun x e => ?_
    unfold fX7_value_43
    exact rP (by rw [e]; exact (ta i (by omega)).2.1)
theorem fails_k {r : Nat} {f : Int32} (h : RD m K V P n i k) : vOk (fun p : Int32 × xMem => p.1 = 0 ∧ p.2.1 255 5 = f ∧ (p.2.1 255 6).toInt = P i ∧ FR r m p.2) (fX7_fails 255 f m) := by
  obtain ⟨⟨t7, tn, ta, tb⟩, hi, hk, hi1⟩ := h
  have c0 : (0 : Int32).toInt = 0 := rfl
  have c301 : (301 : Int32).toInt = 301 := rfl
  unfold fX7_fails fX7_fails_0
  refine vR fun m1 e1 => ?_
  have fin : ∀ x : Int32, x.toInt = P i → vOk (fun p : Int32 × xMem => p.1 = 0 ∧ p.2.1 255 5 = f ∧ (p.2.1 255 6).toInt = P i ∧ FR r m p.2) (fX7_fails_49 255 f 255 x m1) := by
    intro x hx
    unfold fX7_fails_49
    refine vR fun m2 e2 => ?_
    refine vOk_some ⟨rfl, ?_, ?_, ?_⟩
    · show m2.1 255 5 = f
      rw [e2, e1, ← xP_sl (by omega)]
      exact xP_eq.symm
    · show (m2.1 255 6).toInt = P i
      rw [e2, show (xPut m1 255 6 x).1 255 6 = x from xP_eq.symm]
      exact hx
    · show FR r m m2
      rw [e2, e1]
      exact FR_put (FR_put FR_refl (by omega)) (by omega)
  refine vAl (x := m.1 255 8) (xP_slE e1 (by omega)) ?_
  refine vLt (fun g => by exfalso; omega) (fun _ => ?_)
  refine vAl (x := m.1 255 8) (xP_slE e1 (by omega)) ?_
  refine vAl (x := m.1 255 7) (xP_slE e1 (by omega)) ?_
  refine vLe (fun g => ?_) (fun g => ?_)
  · unfold fX7_fails_48
    exact fin 0 (c0.trans (tb i (by omega)).2.2.symm)
  · refine vAl (x := m.1 255 8) (xP_slE e1 (by omega)) ?_
    refine vLe (fun g2 => by exfalso; omega) (fun g2 => ?_)
    refine vAl (x := m.1 255 8) (xP_slE e1 (by omega)) ?_
    refine vIn (by omega) (by omega) fun _ => ?_
    rw [wN hi]
    refine vAl (x := m.1 259 i) (xP_plE e1 (by omega)) ?_
    exact fin _ (ta i (by omega)).2.2
theorem add_k {r : Nat} {a b : Int32} (hr : 260 ≤ r) : vOk (fun m1 : xMem => FR r m m1 ∧ m1.1 255 = m.1 255) (fX10_add r a b m) := by
  have c0 : (0 : Int32).toInt = 0 := rfl
  have c300 : (300 : Int32).toInt = 300 := rfl
  have c1 : (1 : Int32).toInt = 1 := rfl
  unfold fX10_add fX10_add_0
  refine vAl (x := m.1 r 5) rfl ?_
  refine vLt (fun _ => vOk_some ⟨FR_refl, rfl⟩) (fun g => ?_)
  refine vAl (x := m.1 r 5) rfl ?_
  refine vLe (fun _ => vOk_some ⟨FR_refl, rfl⟩) (fun g2 => ?_)
  refine vAl (x := m.1 r 5) rfl ?_
  refine vIn (by omega) (by omega) fun _ => ?_
  refine vR fun m6 e6 => ?_
  refine vAl (x := m.1 r 5) (xP_plE e6 (by omega)) ?_
  refine vIn (by omega) (by omega) fun _ => ?_
  refine vR fun m9 e9 => ?_
  refine vAny fun x11 => ?_
  refine vAny fun x12 => ?_
  refine vR fun m13 e13 => ?_
  unfold fX10_add_49
  refine vOk_some ⟨?_, funext fun j => ?_⟩
  · rw [e13, e9, e6]
    exact FR_put (FR_put (FR_put FR_refl (by omega)) (by omega)) (by omega)
  · rw [e13, ← xP_pl (by omega), e9, ← xP_pl (by omega), e6, ← xP_pl (by omega)]
/-- the end of a reader: it stands behind what it read, or the fault is told -/
def S56 (m m1 : xMem) : Prop := m1.1 255 5 = m.1 255 5 ∧ m1.1 255 6 = m.1 255 6
theorem S56_refl {m : xMem} : S56 m m := ⟨rfl, rfl⟩
theorem S56_tr {a b c : xMem} (h : S56 a b) (q : S56 b c) : S56 a c := ⟨q.1.trans h.1, q.2.trans h.2⟩
theorem S56_8 {m0 m : xMem} {j : Nat} {v : Int32} (h : S56 m0 m) (hj : 7 ≤ j) : S56 m0 (xPut m 255 j v) := ⟨(xP_sl (by omega)).symm.trans h.1, (xP_sl (by omega)).symm.trans h.2⟩
theorem S56_r {m0 m m1 : xMem} (h : S56 m0 m) (e : m1.1 255 = m.1 255) : S56 m0 m1 := ⟨(congrFun e 5).trans h.1, (congrFun e 6).trans h.2⟩
def RS (K V P : Nat → Int) (r : Nat) (m : xMem) (c : Cf) (gd : Nat → Prop) (p : Int32 × xMem) : Prop := FR r m p.2 ∧ ((p.1 = 1 ∧ ∃ i' : Nat, (p.2.1 255 8).toInt = (i' : Int) ∧ S56 m p.2 ∧ gd i') ∨ (p.1 = 0 ∧ ∃ f j : Nat, Er K V c f j ∧ ¬ f = 9 ∧ (p.2.1 255 5).toInt = (f : Int) ∧ (p.2.1 255 6).toInt = P j))
def cOne (K V P : Nat → Int) (n r k C w : Nat) (g : Nat → Nat → Int32 → xMem → Option (Int32 × xMem)) (o : Nat) : Prop := ∀ (fs : List Nat) (i : Nat) (m : xMem) (a2 : Int32), a2.toInt = (o : Int) → opc fs = o → RD m K V P n i k → vOk (RS K V P r m (i, 1, fs, k, C, w) (fun i' => i + 1 ≤ i' ∧ i' ≤ 1000 ∧ Rc K V (i, 1, fs, k, C, w) (i', 2, dropM fs, k, C, w))) (g 255 r a2 m)
def cProd (K V P : Nat → Int) (n r k C w : Nat) (g : Nat → Nat → Int32 → xMem → Option (Int32 × xMem)) (o : Nat) : Prop := ∀ (fs : List Nat) (i : Nat) (m : xMem) (a2 : Int32), a2.toInt = (o : Int) → opc fs = o → ¬ topF fs = 7 → RD m K V P n i k → vOk (RS K V P r m (i, 1, fs, k, C, w) (fun i' => i + 1 ≤ i' ∧ i' ≤ 1000 ∧ Rc K V (i, 1, fs, k, C, w) (i', 2, fs, k, C, w) ∧ ¬ (K i' = 11 ∨ K i' = 12))) (g 255 r a2 m)
def cSum (K V P : Nat → Int) (n r k C w : Nat) (g : Nat → Nat → Int32 → xMem → Option (Int32 × xMem)) (o : Nat) : Prop := ∀ (fs : List Nat) (i : Nat) (m : xMem) (a2 : Int32), a2.toInt = (o : Int) → opc fs = o → ¬ topF fs = 7 → RD m K V P n i k → vOk (RS K V P r m (i, 1, fs, k, C, w) (fun i' => i + 1 ≤ i' ∧ i' ≤ 1000 ∧ Rc K V (i, 1, fs, k, C, w) (i', 2, fs, k, C, w) ∧ ¬ isOpr (K i'))) (g 255 r a2 m)
end
