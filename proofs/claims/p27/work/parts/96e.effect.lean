/-! effect: class and reference alike -/
section
variable {g : Nat → Int32} {s n : Nat}
def dN (g : Nat → Int32) (s : Nat) : Nat → Nat
  | 0 => 0
  | n + 1 => if slotG g n = s then dN g s n + 1 else dN g s n
def dT (g : Nat → Int32) (s : Nat) : Nat → Nat
  | 0 => 0
  | n + 1 => if slotG g n = s then dT g s n + (g (1392 + 3 * n)).toInt.toNat else dT g s n
theorem dNT : ∀ n, n ≤ 40 → (∀ k, k < n → dOk g k) → (dC g s n).toInt = (dN g s n : Int) ∧ (dS g s n).toInt = (dT g s n : Int) ∧ dT g s n ≤ 9999 * dN g s n ∧ dN g s n ≤ n := by
  intro n
  have c0 : (0 : Int32).toInt = 0 := rfl
  have c1 : (1 : Int32).toInt = 1 := rfl
  induction n with
  | zero => intro _ _; exact ⟨rfl, rfl, Nat.le_refl _, Nat.le_refl _⟩
  | succ n ih =>
    intro h ok
    obtain ⟨i1, i2, i3, i4⟩ := ih (by omega) (fun k hk => ok k (by omega))
    obtain ⟨_, _, b0, b1⟩ := ok n (by omega)
    unfold dC dS dN dT
    by_cases q : slotG g n = s
    · rw [if_pos q, if_pos q, if_pos q, if_pos q]
      refine ⟨?_, ?_, by omega, by omega⟩
      · rw [Int32.toInt_add, c1, i1]
        rw [Int.bmod_eq_of_le (by omega) (by omega)]
        omega
      · rw [Int32.toInt_add, i2]
        rw [Int.bmod_eq_of_le (by omega) (by omega)]
        omega
    · rw [if_neg q, if_neg q, if_neg q, if_neg q]
      exact ⟨i1, i2, i3, by omega⟩
def cN (g : Nat → Int32) (n : Nat) : Nat → Nat
  | 0 => 0
  | k + 1 => cN g n k + dN g (6 + k) n
theorem cN_0 : ∀ k, cN g 0 k = 0 := by
  intro k
  induction k with
  | zero => rfl
  | succ k ih => show cN g 0 k + 0 = 0; omega
theorem cN_s : ∀ k, cN g (n + 1) k = cN g n k + (if 6 ≤ slotG g n ∧ slotG g n < 6 + k then 1 else 0) := by
  intro k
  induction k with
  | zero => rw [if_neg (by omega)]; rfl
  | succ k ih =>
    show cN g (n + 1) k + (if slotG g n = 6 + k then dN g (6 + k) n + 1 else dN g (6 + k) n) = cN g n k + dN g (6 + k) n + _
    rw [ih]
    by_cases q : slotG g n = 6 + k
    · rw [if_pos q, if_neg (by omega), if_pos (by omega)]; omega
    · rw [if_neg q]
      by_cases w : 6 ≤ slotG g n ∧ slotG g n < 6 + k
      · rw [if_pos w, if_pos (by omega)]; omega
      · rw [if_neg w, if_neg (by omega)]; omega
theorem cN_le : ∀ n k, cN g n k ≤ n := by
  intro n
  induction n with
  | zero => intro k; rw [cN_0]; omega
  | succ n ih =>
    intro k
    rw [cN_s]
    have := ih k
    split <;> omega
def eOk (g : Nat → Int32) (n k : Nat) : Prop := 0 < dN g (6 + k) n ∧ 0 < dN g k n
def eMn (g : Nat → Int32) (n s : Nat) : Nat := 1000 * dT g s n / dN g s n
theorem eMn_le (h : n ≤ 40) (ok : ∀ k, k < n → dOk g k) : eMn g n s ≤ 9999000 := by
  unfold eMn
  refine Nat.div_le_of_le_mul ?_
  have := (dNT (s := s) n h ok).2.2.1
  omega
def eT (g : Nat → Int32) (n : Nat) : Nat → Int
  | 0 => 0
  | k + 1 => if 0 < dN g (6 + k) n ∧ 0 < dN g k n then eT g n k + (dN g (6 + k) n : Int) * ((eMn g n (6 + k) : Int) - (eMn g n k : Int)) else eT g n k
def eD (g : Nat → Int32) (n : Nat) : Nat → Nat
  | 0 => 0
  | k + 1 => if 0 < dN g (6 + k) n ∧ 0 < dN g k n then eD g n k + dN g (6 + k) n else eD g n k
theorem eD_le : ∀ k, eD g n k ≤ cN g n k := by
  intro k
  induction k with
  | zero => exact Nat.le_refl _
  | succ k ih =>
    show (if 0 < dN g (6 + k) n ∧ 0 < dN g k n then eD g n k + dN g (6 + k) n else eD g n k) ≤ cN g n k + dN g (6 + k) n
    split <;> omega
theorem mulB {a : Nat} {x : Int} (h1 : -9999000 ≤ x) (h2 : x ≤ 9999000) : -(9999000 * (a : Int)) ≤ (a : Int) * x ∧ (a : Int) * x ≤ 9999000 * (a : Int) := by
  have p : (0 : Int) ≤ (a : Int) := by omega
  have q1 := Int.mul_le_mul_of_nonneg_left h1 p
  have q2 := Int.mul_le_mul_of_nonneg_left h2 p
  omega
theorem eT_le (h : n ≤ 40) (ok : ∀ k, k < n → dOk g k) : ∀ k, -(9999000 * (eD g n k : Int)) ≤ eT g n k ∧ eT g n k ≤ 9999000 * (eD g n k : Int) := by
  intro k
  induction k with
  | zero =>
    show -(9999000 * ((0 : Nat) : Int)) ≤ (0 : Int) ∧ (0 : Int) ≤ 9999000 * ((0 : Nat) : Int)
    omega
  | succ k ih =>
    have a := eMn_le (s := 6 + k) h ok
    have b := eMn_le (s := k) h ok
    have q := mulB (a := dN g (6 + k) n) (x := (eMn g n (6 + k) : Int) - (eMn g n k : Int)) (by omega) (by omega)
    by_cases c : 0 < dN g (6 + k) n ∧ 0 < dN g k n
    · rw [show eT g n (k + 1) = eT g n k + (dN g (6 + k) n : Int) * ((eMn g n (6 + k) : Int) - (eMn g n k : Int)) from if_pos c, show eD g n (k + 1) = eD g n k + dN g (6 + k) n from if_pos c]
      have : ((eD g n k + dN g (6 + k) n : Nat) : Int) = (eD g n k : Int) + (dN g (6 + k) n : Int) := by omega
      rw [this]
      omega
    · rw [show eT g n (k + 1) = eT g n k from if_neg c, show eD g n (k + 1) = eD g n k from if_neg c]
      exact ih
def eV (g : Nat → Int32) (n : Nat) : Int := if eD g n 6 = 0 then -1000000000 else (eT g n 6).tdiv (eD g n 6 : Int)
end
/-! the reference -/
section
variable {m : xMem}
theorem daysOf_loop {a2 : Int32} {k st n : Nat} (hst : st = 0 ∨ st = 1) (hk : k < 6) (hn : n ≤ 40) (h6 : (m.1 292 6).toInt = (n : Int)) (ok : ∀ k, k < n → dOk (m.1 292) k) (h2 : a2.toInt = (k : Int)) {a1 a3 : Int32} (h1 : a1.toInt = (st : Int)) : ∀ (e i f : Nat) (l4 l5 : Int32), i + e = n → l5.toInt = (i : Int) → (l4.toInt = if a3 = 0 then (dN (m.1 292) (6 * st + k) i : Int) else (dT (m.1 292) (6 * st + k) i : Int)) → vOk (PP m (fun x : Int32 => x.toInt = if a3 = 0 then (dN (m.1 292) (6 * st + k) n : Int) else (dT (m.1 292) (6 * st + k) n : Int))) (fX12_daysOf_6 291 a1 a2 a3 (f + 1 + e) l4 l5 m) := by
  have c0 : (0 : Int32).toInt = 0 := rfl
  have c1 : (1 : Int32).toInt = 1 := rfl
  have c2 : (2 : Int32).toInt = 2 := rfl
  have c3 : (3 : Int32).toInt = 3 := rfl
  have c6 : (6 : Int32).toInt = 6 := rfl
  have c1390 : (1390 : Int32).toInt = 1390 := rfl
  intro e
  induction e with
  | zero =>
    intro i f l4 l5 he hi hl
    have : i = n := by omega
    subst this
    rw [show f + 1 + 0 = f + 1 from rfl, fX12_daysOf_6]
    refine vIn (by omega) (by omega) fun _ => ?_
    refine vAl (x := m.1 292 6) rfl ?_
    refine vLe (fun _ => rP hl) (fun g => by exfalso; omega)
  | succ e ih =>
    intro i f l4 l5 he hi hl
    obtain ⟨o1, ⟨o2, o3⟩, o4, o5⟩ := ok i (by omega)
    have q := dNT (g := m.1 292) (s := 6 * st + k) i (by omega) (fun k hk => ok k (by omega))
    have wi : l5.toNatClampNeg = i := wN hi
    rw [show f + 1 + (e + 1) = f + 1 + e + 1 from rfl, fX12_daysOf_6]
    refine vIn (by omega) (by omega) fun _ => ?_
    refine vAl (x := m.1 292 6) rfl ?_
    refine vLe (fun g => by exfalso; omega) (fun _ => ?_)
    refine vM (v := 3 * l5.toInt) (by rw [c3]) (by omega) fun x4 e4 f4 => ?_
    refine vA (by omega) fun x5 e5 f5 => ?_
    refine vIn (by omega) (by omega) fun _ => ?_
    rw [show x5.toNatClampNeg = 1390 + 3 * i from wN (by omega)]
    refine vAl (x := m.1 292 (1390 + 3 * i)) rfl ?_
    have gi : ∀ x : Int32, (x = 0 ∨ x = 1) → x.toInt = 0 ∨ x.toInt = 1 := fun x h => by rcases h with rfl | rfl <;> decide
    have gv := gi _ o1
    have sl : slotG (m.1 292) i = 6 * st + k ↔ ((m.1 292 (1390 + 3 * i)).toInt = (st : Int) ∧ (m.1 292 (1391 + 3 * i)).toInt = (k : Int)) := by
      have w2 : (m.1 292 (1391 + 3 * i)).toNatClampNeg = (m.1 292 (1391 + 3 * i)).toInt.toNat := rfl
      unfold slotG
      rcases o1 with z | z
      · rw [if_pos z, z, c0]
        constructor
        · intro y; omega
        · intro y; omega
      · rw [if_neg (by rw [z]; decide), z, c1]
        constructor
        · intro y; omega
        · intro y; omega
    have skip : ¬ slotG (m.1 292) i = 6 * st + k → vOk (PP m (fun x : Int32 => x.toInt = if a3 = 0 then (dN (m.1 292) (6 * st + k) n : Int) else (dT (m.1 292) (6 * st + k) n : Int))) (fX12_daysOf_74 291 a1 a2 a3 (fX12_daysOf_6 291 a1 a2 a3 (f + 1 + e)) l4 l5 m) := by
      intro ns
      unfold fX12_daysOf_74
      refine vA (by omega) fun x1 e1 f1 => ?_
      refine ih (i + 1) f l4 x1 (by omega) (by omega) ?_
      rw [hl]
      rw [show dN (m.1 292) (6 * st + k) (i + 1) = dN (m.1 292) (6 * st + k) i from if_neg ns, show dT (m.1 292) (6 * st + k) (i + 1) = dT (m.1 292) (6 * st + k) i from if_neg ns]
    refine vNe (fun g => skip (fun y => by have := (sl.mp y).1; omega)) (fun g => ?_)
    refine vA (by omega) fun x9 e9 f9 => ?_
    refine vIn (by omega) (by omega) fun _ => ?_
    rw [show x9.toNatClampNeg = 1391 + 3 * i from wN (by omega)]
    refine vAl (x := m.1 292 (1391 + 3 * i)) rfl ?_
    refine vNe (fun g2 => skip (fun y => by have := (sl.mp y).2; omega)) (fun g2 => ?_)
    have ys := sl.mpr ⟨by omega, by omega⟩
    have r71 : ∀ v : Int32, (v.toInt = if a3 = 0 then 1 else ((m.1 292 (1392 + 3 * i)).toInt.toNat : Int)) → vOk (PP m (fun x : Int32 => x.toInt = if a3 = 0 then (dN (m.1 292) (6 * st + k) n : Int) else (dT (m.1 292) (6 * st + k) n : Int))) (fX12_daysOf_71 291 a1 a2 a3 (fX12_daysOf_6 291 a1 a2 a3 (f + 1 + e)) l5 l4 v m) := by
      intro v hv
      unfold fX12_daysOf_71 fX12_daysOf_74
      have hb : 0 ≤ l4.toInt ∧ l4.toInt ≤ 399960 ∧ 0 ≤ v.toInt ∧ v.toInt ≤ 9999 := by
        by_cases z : a3 = 0
        · rw [if_pos z] at hl hv; omega
        · rw [if_neg z] at hl hv; omega
      refine vA (by omega) fun x1 e1 f1 => ?_
      refine vA (by omega) fun x2 e2 f2 => ?_
      refine ih (i + 1) f x1 x2 (by omega) (by omega) ?_
      unfold dN dT
      rw [if_pos ys, if_pos ys]
      by_cases z : a3 = 0
      · rw [if_pos z] at hl hv ⊢; omega
      · rw [if_neg z] at hl hv ⊢; omega
    refine vEq (fun g3 => ?_) (fun g3 => ?_)
    · refine r71 1 ?_
      rw [if_pos (Int32.toInt_inj.mp g3)]; rfl
    · refine vA (by omega) fun x14 e14 f14 => ?_
      refine vIn (by omega) (by omega) fun _ => ?_
      rw [show x14.toNatClampNeg = 1392 + 3 * i from wN (by omega)]
      refine vAl (x := m.1 292 (1392 + 3 * i)) rfl ?_
      refine r71 _ ?_
      rw [if_neg (fun y => g3 (congrArg _ y))]
      omega
end

theorem tdB (a b : Int) : -(a.natAbs : Int) ≤ a.tdiv b ∧ a.tdiv b ≤ (a.natAbs : Int) := by
  have h := Int.natAbs_tdiv a b
  have k : (a.natAbs).div b.natAbs ≤ a.natAbs := Nat.div_le_self a.natAbs b.natAbs
  rw [← h] at k
  omega
theorem divT {a b : Int32} (h1 : -2147483647 ≤ a.toInt ∧ a.toInt ≤ 2147483647) : (a / b).toInt = a.toInt.tdiv b.toInt := by
  have k := tdB a.toInt b.toInt
  rw [Int32.toInt_div]
  exact Int.bmod_eq_of_le (by omega) (by omega)
theorem divL {a b : Int64} (h1 : -2147483648000 ≤ a.toInt ∧ a.toInt ≤ 2147483648000) : (a / b).toInt = a.toInt.tdiv b.toInt := by
  have k := tdB a.toInt b.toInt
  rw [Int64.toInt_div]
  exact Int.bmod_eq_of_le (by omega) (by omega)
theorem addL {a b : Int64} (h1 : -2147483648000 ≤ a.toInt ∧ a.toInt ≤ 2147483648000) (h2 : -2147483648000 ≤ b.toInt ∧ b.toInt ≤ 2147483648000) : (a + b).toInt = a.toInt + b.toInt := by
  rw [Int64.toInt_add]
  exact Int.bmod_eq_of_le (by omega) (by omega)
theorem subL {a b : Int64} (h1 : -2147483648000 ≤ a.toInt ∧ a.toInt ≤ 2147483648000) (h2 : -2147483648000 ≤ b.toInt ∧ b.toInt ≤ 2147483648000) : (a - b).toInt = a.toInt - b.toInt := by
  rw [Int64.toInt_sub]
  exact Int.bmod_eq_of_le (by omega) (by omega)
theorem mulL {a b : Int64} {v : Int} (e : a.toInt * b.toInt = v) (h : -2147483648000 ≤ v ∧ v ≤ 2147483648000) : (a * b).toInt = v := by
  rw [Int64.toInt_mul, e]
  exact Int.bmod_eq_of_le (by omega) (by omega)
theorem cutL {a : Int64} (h : -2147483648 ≤ a.toInt ∧ a.toInt ≤ 2147483647) : a.toInt32.toInt = a.toInt := by
  rw [Int64.toInt_toInt32]
  exact Int.bmod_eq_of_le (by omega) (by omega)
section
variable {m : xMem} {n : Nat}
theorem mean_loop (hn : n ≤ 40) (hm : ∀ s, s < 12 → m.1 6 s = dS (m.1 292) s n ∧ m.1 7 s = dC (m.1 292) s n) (ok : ∀ k, k < n → dOk (m.1 292) k) : ∀ (e i f : Nat) (l1 : Int64) (l3 l4 : Int32), i + e = 6 → l4.toInt = (i : Int) → l3.toInt = (eD (m.1 292) n i : Int) → l1.toInt = eT (m.1 292) n i → vOk (PP m (fun x : Int32 => x.toInt = eV (m.1 292) n)) (fX1_meanEffect_7 5 (f + 1 + e) l1 l3 l4 m) := by
  have c0 : (0 : Int32).toInt = 0 := rfl
  have c1 : (1 : Int32).toInt = 1 := rfl
  have c6 : (6 : Int32).toInt = 6 := rfl
  have k1000 : (1000 : Int64).toInt = 1000 := rfl
  intro e
  induction e with
  | zero =>
    intro i f l1 l3 l4 he hi h3 h1
    have : i = 6 := by omega
    subst this
    have dl := Nat.le_trans (eD_le (g := m.1 292) (n := n) 6) (cN_le (g := m.1 292) n 6)
    have tl := eT_le (g := m.1 292) hn ok 6
    rw [show f + 1 + 0 = f + 1 from rfl, fX1_meanEffect_7]
    refine vLe (fun _ => ?_) (fun g => by exfalso; omega)
    refine vLe (fun g => ?_) (fun g => ?_)
    · unfold fX1_meanEffect_121
      refine rP ?_
      unfold eV
      rw [if_pos (by omega)]
      rfl
    · refine vR fun x3 e3 => ?_
      refine vNzL (longZ e3 (by omega)) ?_
      refine vR fun x4 e4 => ?_
      refine vR fun x6 e6 => ?_
      unfold fX1_meanEffect_121
      refine rP ?_
      have w3 : x3.toInt = l3.toInt := by rw [e3]; exact Int32.toInt_toInt64 l3
      have w4 : x4.toInt = (eT (m.1 292) n 6).tdiv (eD (m.1 292) n 6 : Int) := by
        rw [e4, divL (by omega), w3, h3, h1]
      have k := tdB (eT (m.1 292) n 6) (eD (m.1 292) n 6 : Int)
      unfold eV
      rw [if_neg (by omega), e6, cutL (by omega), w4]
  | succ e ih =>
    intro i f l1 l3 l4 he hi h3 h1
    have wi : l4.toNatClampNeg = i := wN hi
    have qa := dNT (g := m.1 292) (s := 6 + i) n hn ok
    have qb := dNT (g := m.1 292) (s := i) n hn ok
    have dl := Nat.le_trans (eD_le (g := m.1 292) (n := n) i) (cN_le (g := m.1 292) n i)
    have dl2 := Nat.le_trans (eD_le (g := m.1 292) (n := n) (i + 1)) (cN_le (g := m.1 292) n (i + 1))
    have tl := eT_le (g := m.1 292) hn ok i
    have tl2 := eT_le (g := m.1 292) hn ok (i + 1)
    have ha := eMn_le (g := m.1 292) (s := 6 + i) hn ok
    have hb := eMn_le (g := m.1 292) (s := i) hn ok
    have skip : ¬ (0 < dN (m.1 292) (6 + i) n ∧ 0 < dN (m.1 292) i n) → vOk (PP m (fun x : Int32 => x.toInt = eV (m.1 292) n)) (fX1_meanEffect_101 5 (fX1_meanEffect_7 5 (f + 1 + e)) l1 l3 l4 m) := by
      intro ns
      unfold fX1_meanEffect_101
      refine vA (by omega) fun x1 e1 f1 => ?_
      refine ih (i + 1) f l1 l3 x1 (by omega) (by omega) ?_ ?_
      · rw [h3, show eD (m.1 292) n (i + 1) = eD (m.1 292) n i from if_neg ns]
      · rw [h1, show eT (m.1 292) n (i + 1) = eT (m.1 292) n i from if_neg ns]
    rw [show f + 1 + (e + 1) = f + 1 + e + 1 from rfl, fX1_meanEffect_7]
    refine vLe (fun g => by exfalso; omega) (fun _ => ?_)
    refine vA (by omega) fun x7 e7 f7 => ?_
    have w7 : x7.toNatClampNeg = 6 + i := wN (by omega)
    refine vIn (by omega) (by omega) fun _ => ?_
    rw [w7]
    refine vAl (x := m.1 7 (6 + i)) rfl ?_
    refine vIn (by omega) (by omega) fun _ => ?_
    rw [wi]
    refine vAl (x := m.1 7 i) rfl ?_
    have z1 := hm (6 + i) (by omega)
    have z2 := hm i (by omega)
    have y1 : (m.1 7 (6 + i)).toInt = (dN (m.1 292) (6 + i) n : Int) := by rw [z1.2]; exact qa.1
    have y2 : (m.1 7 i).toInt = (dN (m.1 292) i n : Int) := by rw [z2.2]; exact qb.1
    have y3 : (m.1 6 (6 + i)).toInt = (dT (m.1 292) (6 + i) n : Int) := by rw [z1.1]; exact qa.2.1
    have y4 : (m.1 6 i).toInt = (dT (m.1 292) i n : Int) := by rw [z2.1]; exact qb.2.1
    refine vLe (fun g => skip (by omega)) (fun g1 => ?_)
    refine vLe (fun g => skip (by omega)) (fun g2 => ?_)
    have yes : 0 < dN (m.1 292) (6 + i) n ∧ 0 < dN (m.1 292) i n := by omega
    have eTs : eT (m.1 292) n (i + 1) = eT (m.1 292) n i + (dN (m.1 292) (6 + i) n : Int) * ((eMn (m.1 292) n (6 + i) : Int) - (eMn (m.1 292) n i : Int)) := if_pos yes
    have eDs : eD (m.1 292) n (i + 1) = eD (m.1 292) n i + dN (m.1 292) (6 + i) n := if_pos yes
    have mb := mulB (a := dN (m.1 292) (6 + i) n) (x := (eMn (m.1 292) n (6 + i) : Int) - (eMn (m.1 292) n i : Int)) (by omega) (by omega)
    refine vAl (x := x7) e7 ?_
    refine vIn (by omega) (by omega) fun _ => ?_
    rw [w7]
    refine vAl (x := m.1 6 (6 + i)) rfl ?_
    refine vR fun x17 e17 => ?_
    refine vR fun x18 e18 => ?_
    refine vR fun x19 e19 => ?_
    refine vNzL (longZ e19 (by omega)) ?_
    refine vR fun x20 e20 => ?_
    have u17 : x17.toInt = (dT (m.1 292) (6 + i) n : Int) := by rw [e17]; exact (Int32.toInt_toInt64 _).trans y3
    have u18 : x18.toInt = (dT (m.1 292) (6 + i) n : Int) * 1000 := by rw [e18]; exact mulL (by rw [u17, k1000]) (by omega)
    have u19 : x19.toInt = (dN (m.1 292) (6 + i) n : Int) := by rw [e19]; exact (Int32.toInt_toInt64 _).trans y1
    have u20 : x20.toInt = (eMn (m.1 292) n (6 + i) : Int) := by
      rw [e20, divL (by omega), u18, u19]
      unfold eMn
      rw [show (dT (m.1 292) (6 + i) n : Int) * 1000 = ((1000 * dT (m.1 292) (6 + i) n : Nat) : Int) by omega]
      exact (Int.ofNat_tdiv _ _).symm
    refine vIn (by omega) (by omega) fun _ => ?_
    refine vAl (x := m.1 6 i) rfl ?_
    refine vR fun x24 e24 => ?_
    refine vR fun x25 e25 => ?_
    refine vR fun x26 e26 => ?_
    refine vNzL (longZ e26 (by omega)) ?_
    refine vR fun x27 e27 => ?_
    have u24 : x24.toInt = (dT (m.1 292) i n : Int) := by rw [e24]; exact (Int32.toInt_toInt64 _).trans y4
    have u25 : x25.toInt = (dT (m.1 292) i n : Int) * 1000 := by rw [e25]; exact mulL (by rw [u24, k1000]) (by omega)
    have u26 : x26.toInt = (dN (m.1 292) i n : Int) := by rw [e26]; exact (Int32.toInt_toInt64 _).trans y2
    have u27 : x27.toInt = (eMn (m.1 292) n i : Int) := by
      rw [e27, divL (by omega), u25, u26]
      unfold eMn
      rw [show (dT (m.1 292) i n : Int) * 1000 = ((1000 * dT (m.1 292) i n : Nat) : Int) by omega]
      exact (Int.ofNat_tdiv _ _).symm
    refine vR fun x29 e29 => ?_
    have u29 : x29.toInt = (eMn (m.1 292) n (6 + i) : Int) - (eMn (m.1 292) n i : Int) := by rw [e29, subL (by omega) (by omega), u20, u27]
    refine vR fun x30 e30 => ?_
    have u30 : x30.toInt = (dN (m.1 292) (6 + i) n : Int) := by rw [e30]; exact (Int32.toInt_toInt64 _).trans y1
    refine vR fun x31 e31 => ?_
    have u31 : x31.toInt = (dN (m.1 292) (6 + i) n : Int) * ((eMn (m.1 292) n (6 + i) : Int) - (eMn (m.1 292) n i : Int)) := by
      rw [e31]
      refine mulL ?_ (by omega)
      rw [u29, u30, Int.mul_comm]
    refine vR fun x32 e32 => ?_
    have u32 : x32.toInt = eT (m.1 292) n (i + 1) := by rw [e32, addL (by omega) (by omega), h1, u31, eTs]
    refine vA (by omega) fun x33 e33 f33 => ?_
    unfold fX1_meanEffect_101
    refine vA (by omega) fun x1 e1 f1 => ?_
    exact ih (i + 1) f x32 x33 x1 (by omega) (by omega) (by omega) u32
theorem effect_loop (hn : n ≤ 40) (h6 : (m.1 292 6).toInt = (n : Int)) (ok : ∀ k, k < n → dOk (m.1 292) k) : ∀ (e i f : Nat) (l1 l2 l3 : Int32), i + e = 6 → l3.toInt = (i : Int) → l1.toInt = (eD (m.1 292) n i : Int) → l2.toInt = eT (m.1 292) n i → vOk (PP m (fun x : Int32 => x.toInt = eV (m.1 292) n)) (fX12_effect_6 291 (f + 1 + e) l1 l2 l3 m) := by
  have c0 : (0 : Int32).toInt = 0 := rfl
  have c1 : (1 : Int32).toInt = 1 := rfl
  have c6 : (6 : Int32).toInt = 6 := rfl
  have c1000 : (1000 : Int32).toInt = 1000 := rfl
  have z0 : (0 : Int32) = 0 := rfl
  have z1 : ¬ (1 : Int32) = 0 := by decide
  intro e
  induction e with
  | zero =>
    intro i f l1 l2 l3 he hi h1 h2
    have : i = 6 := by omega
    subst this
    have dl := Nat.le_trans (eD_le (g := m.1 292) (n := n) 6) (cN_le (g := m.1 292) n 6)
    have tl := eT_le (g := m.1 292) hn ok 6
    rw [show f + 1 + 0 = f + 1 from rfl, fX12_effect_6]
    refine vLe (fun _ => ?_) (fun g => by exfalso; omega)
    refine vNe (fun g => ?_) (fun g => ?_)
    · refine vNz (by omega) ?_
      refine vR fun x3 e3 => ?_
      unfold fX12_effect_99
      refine rP ?_
      unfold eV
      rw [if_neg (by omega), e3, divT (by omega), h1, h2]
    · unfold fX12_effect_99
      refine rP ?_
      unfold eV
      rw [if_pos (by omega)]
      rfl
  | succ e ih =>
    intro i f l1 l2 l3 he hi h1 h2
    have qa := dNT (g := m.1 292) (s := 6 + i) n hn ok
    have qb := dNT (g := m.1 292) (s := i) n hn ok
    have dl := Nat.le_trans (eD_le (g := m.1 292) (n := n) i) (cN_le (g := m.1 292) n i)
    have dl2 := Nat.le_trans (eD_le (g := m.1 292) (n := n) (i + 1)) (cN_le (g := m.1 292) n (i + 1))
    have tl := eT_le (g := m.1 292) hn ok i
    have tl2 := eT_le (g := m.1 292) hn ok (i + 1)
    have ha := eMn_le (g := m.1 292) (s := 6 + i) hn ok
    have hb := eMn_le (g := m.1 292) (s := i) hn ok
    have cF := xFu
    have dof : ∀ (st : Nat) (a1 a3 : Int32), (st = 0 ∨ st = 1) → a1.toInt = (st : Int) → vOk (PP m (fun x : Int32 => x.toInt = if a3 = 0 then (dN (m.1 292) (6 * st + i) n : Int) else (dT (m.1 292) (6 * st + i) n : Int))) (fX12_daysOf 291 a1 l3 a3 m) := by
      intro st a1 a3 h h'
      unfold fX12_daysOf fX12_daysOf_0
      have q := daysOf_loop (m := m) (a2 := l3) (k := i) (st := st) (n := n) h (by omega) hn h6 ok hi (a1 := a1) (a3 := a3) h' n 0 (5000000000 - 1 - n) 0 0 (by omega) rfl (by split <;> rfl)
      rwa [show 5000000000 - 1 - n + 1 + n = xFuel from by show _ = 5000000000; omega] at q
    have skip : ¬ (0 < dN (m.1 292) (6 + i) n ∧ 0 < dN (m.1 292) i n) → vOk (PP m (fun x : Int32 => x.toInt = eV (m.1 292) n)) (fX12_effect_80 291 (fX12_effect_6 291 (f + 1 + e)) l1 l2 l3 m) := by
      intro ns
      unfold fX12_effect_80
      refine vA (by omega) fun x1 e1 f1 => ?_
      refine ih (i + 1) f l1 l2 x1 (by omega) (by omega) ?_ ?_
      · rw [h1, show eD (m.1 292) n (i + 1) = eD (m.1 292) n i from if_neg ns]
      · rw [h2, show eT (m.1 292) n (i + 1) = eT (m.1 292) n i from if_neg ns]
    rw [show f + 1 + (e + 1) = f + 1 + e + 1 from rfl, fX12_effect_6]
    refine vLe (fun g => by exfalso; omega) (fun _ => ?_)
    refine vBindP (dof 1 1 0 (Or.inr rfl) rfl) fun x5 _ y1 => ?_
    rw [if_pos rfl, show 6 * 1 + i = 6 + i by omega] at y1
    refine vBindP (dof 0 0 0 (Or.inl rfl) rfl) fun x6 _ y2 => ?_
    rw [if_pos rfl, show 6 * 0 + i = i by omega] at y2
    dsimp only
    refine vLe (fun g => skip (by omega)) (fun g1 => ?_)
    refine vLe (fun g => skip (by omega)) (fun g2 => ?_)
    have yes : 0 < dN (m.1 292) (6 + i) n ∧ 0 < dN (m.1 292) i n := by omega
    have eTs : eT (m.1 292) n (i + 1) = eT (m.1 292) n i + (dN (m.1 292) (6 + i) n : Int) * ((eMn (m.1 292) n (6 + i) : Int) - (eMn (m.1 292) n i : Int)) := if_pos yes
    have eDs : eD (m.1 292) n (i + 1) = eD (m.1 292) n i + dN (m.1 292) (6 + i) n := if_pos yes
    have mb := mulB (a := dN (m.1 292) (6 + i) n) (x := (eMn (m.1 292) n (6 + i) : Int) - (eMn (m.1 292) n i : Int)) (by omega) (by omega)
    refine vBindP (dof 1 1 1 (Or.inr rfl) rfl) fun x9 _ y3 => ?_
    rw [if_neg z1, show 6 * 1 + i = 6 + i by omega] at y3
    dsimp only
    refine vM (v := 1000 * (dT (m.1 292) (6 + i) n : Int)) (by rw [c1000, y3]) (by omega) fun x10 e10 f10 => ?_
    refine vNz (by omega) ?_
    refine vR fun x11 e11 => ?_
    have u11 : x11.toInt = (eMn (m.1 292) n (6 + i) : Int) := by
      rw [e11, divT (by omega), f10, y1]
      unfold eMn
      rw [show 1000 * (dT (m.1 292) (6 + i) n : Int) = ((1000 * dT (m.1 292) (6 + i) n : Nat) : Int) by omega]
      exact (Int.ofNat_tdiv _ _).symm
    refine vBindP (dof 0 0 1 (Or.inl rfl) rfl) fun x13 _ y4 => ?_
    rw [if_neg z1, show 6 * 0 + i = i by omega] at y4
    dsimp only
    refine vM (v := 1000 * (dT (m.1 292) i n : Int)) (by rw [c1000, y4]) (by omega) fun x14 e14 f14 => ?_
    refine vNz (by omega) ?_
    refine vR fun x15 e15 => ?_
    have u15 : x15.toInt = (eMn (m.1 292) n i : Int) := by
      rw [e15, divT (by omega), f14, y2]
      unfold eMn
      rw [show 1000 * (dT (m.1 292) i n : Int) = ((1000 * dT (m.1 292) i n : Nat) : Int) by omega]
      exact (Int.ofNat_tdiv _ _).symm
    refine vS (by omega) fun x17 e17 f17 => ?_
    refine vM (v := (dN (m.1 292) (6 + i) n : Int) * ((eMn (m.1 292) n (6 + i) : Int) - (eMn (m.1 292) n i : Int))) (by rw [y1, f17, u11, u15]) (by omega) fun x18 e18 f18 => ?_
    refine vA (by omega) fun x19 e19 f19 => ?_
    refine vA (by omega) fun x20 e20 f20 => ?_
    unfold fX12_effect_80
    refine vA (by omega) fun x1 e1 f1 => ?_
    exact ih (i + 1) f x20 x19 x1 (by omega) (by omega) (by omega) (by omega)
end
section
variable {m : xMem} {p : Int32 × xMem}
theorem ca_effect (h : InvW m) : vOk (fun p : Int32 × xMem => p.2 = m ∧ p.1.toInt = eV (m.1 292) (m.1 292 6).toNatClampNeg) (fX11_effect 0 m) := by
  obtain ⟨⟨_, ⟨⟨l0, l1⟩, x2, x3⟩, _, _⟩, _, _⟩ := h.2
  have wn : (m.1 292 6).toNatClampNeg = (m.1 292 6).toInt.toNat := rfl
  unfold fX11_effect fX11_effect_0 fX1_meanEffect fX1_meanEffect_0
  refine vBindP (mean_loop (m := m) (n := (m.1 292 6).toNatClampNeg) (by omega) (fun s hs => x2 s hs) (fun k hk => x3 k (by omega)) 6 0 4999999993 0 0 0 (by omega) rfl rfl rfl) fun x _ hx => ?_
  exact vOk_some ⟨rfl, hx⟩
theorem ra_effect (h : InvW m) (hp : p.2 = m ∧ p.1.toInt = eV (m.1 292) (m.1 292 6).toNatClampNeg) : vOk (fun q : Int32 × xMem => InvW q.2 ∧ p.1 = q.1) (fX12_effect 291 p.2) := by
  obtain ⟨⟨_, ⟨⟨l0, l1⟩, _, x3⟩, _, _⟩, _, _⟩ := h.2
  have wn : (m.1 292 6).toNatClampNeg = (m.1 292 6).toInt.toNat := rfl
  rw [hp.1]
  unfold fX12_effect fX12_effect_0
  refine vOk_mono (effect_loop (m := m) (n := (m.1 292 6).toNatClampNeg) (by omega) (by omega) (fun k hk => x3 k (by omega)) 6 0 4999999993 0 0 0 (by omega) rfl rfl rfl) fun q hq => ?_
  rw [hq.1]
  exact ⟨h, Int32.toInt_inj.mp (hp.2.trans hq.2.symm)⟩
end
