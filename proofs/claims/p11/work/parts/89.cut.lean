/-! the tokens of a tape -/
def isLt' (c : Int) : Bool := decide ((97 ≤ c ∧ c ≤ 122) ∨ (65 ≤ c ∧ c ≤ 90))
def isDg' (c : Int) : Bool := decide (48 ≤ c ∧ c ≤ 57)
def isSp' (c : Int) : Bool := decide (c = 32 ∨ c = 10)
section
variable (B : Nat → Int) (L : Nat)
def runF (p : Int → Bool) : Nat → Nat → Nat
  | 0, a => a
  | n + 1, a => if a < L ∧ p (B a) = true then runF p n (a + 1) else a
def run (p : Int → Bool) (a : Nat) : Nat := runF B L p (L - a) a
def numF : Nat → Nat → Int → Int
  | 0, _, v => v
  | n + 1, a, v => if a < L ∧ isDg' (B a) = true then numF n (a + 1) (min 10000 (v * 10 + B a - 48)) else v
def num (a : Nat) (v : Int) : Int := numF B L (L - a) a v
def bAt (j : Nat) : Int := if j < L then B j else -1
end
def xCI (j : Nat) : Int := (xChr (Int32.ofNat j)).toInt
abbrev isWd (B : Nat → Int) (a e s t : Nat) : Prop := e - a = t - s ∧ ∀ j, j < t - s → B (a + j) = xCI (s + j)
def wdx (B : Nat → Int) (a e : Nat) : Nat :=
  if isWd B a e 0 4 then 0 else if isWd B a e 5 9 then 1 else if isWd B a e 10 14 then 2 else if isWd B a e 15 17 then 3 else if isWd B a e 18 21 then 4 else if isWd B a e 22 25 then 5 else if isWd B a e 26 32 then 6 else if isWd B a e 33 37 then 7 else if isWd B a e 38 43 then 8 else if isWd B a e 44 48 then 9 else if isWd B a e 49 56 then 10 else if isWd B a e 57 62 then 11 else if isWd B a e 63 67 then 12 else if isWd B a e 68 72 then 13 else 14
def sgn (c : Int) : Int := if c = 35 then 8 else if c = 40 then 13 else if c = 41 then 14 else if c = 42 then 11 else if c = 43 then 9 else if c = 45 then 10 else if c = 47 then 12 else if c = 59 then 15 else if c = 60 then 3 else if c = 61 then 7 else if c = 62 then 5 else 1
section
variable (B : Nat → Int) (L : Nat)
def tkE (p : Nat) : Nat := if isLt' (B p) = true then run B L isLt' (p + 1) else if isDg' (B p) = true then run B L isDg' (p + 1) else if (sgn (B p) = 3 ∨ sgn (B p) = 5) ∧ bAt B L (p + 1) = 61 then p + 2 else p + 1
def tkK (p : Nat) : Int := if isLt' (B p) = true then (if wdx B p (run B L isLt' (p + 1)) = 14 then 1 else min (20 + (wdx B p (run B L isLt' (p + 1)) : Int)) 26) else if isDg' (B p) = true then 2 else if (sgn (B p) = 3 ∨ sgn (B p) = 5) ∧ bAt B L (p + 1) = 61 then sgn (B p) + 1 else sgn (B p)
def tkV (p : Nat) : Int := if isLt' (B p) = true then (if wdx B p (run B L isLt' (p + 1)) = 14 then 0 else (wdx B p (run B L isLt' (p + 1)) : Int) - 6) else if isDg' (B p) = true then num B L p 0 else 0
def pos : Nat → Nat
  | 0 => run B L isSp' 0
  | i + 1 => if pos i < L then run B L isSp' (tkE B L (pos i)) else L
def KF' (i : Nat) : Int := if pos B L i < L then tkK B L (pos B L i) else 0
def VF' (i : Nat) : Int := if pos B L i < L then tkV B L (pos B L i) else 0
end
section
variable {B : Nat → Int} {L : Nat} {p : Int → Bool}
theorem run_s {a : Nat} (h : a < L) (hp : p (B a) = true) : run B L p a = run B L p (a + 1) := by
  unfold run
  rw [show L - a = (L - (a + 1)) + 1 by omega, runF, if_pos ⟨h, hp⟩]
theorem run_0 {a : Nat} (h : ¬ (a < L ∧ p (B a) = true)) : run B L p a = a := by
  unfold run
  by_cases q : a < L
  · rw [show L - a = (L - (a + 1)) + 1 by omega, runF, if_neg h]
  · rw [show L - a = 0 by omega, runF]
theorem num_s {a : Nat} {v : Int} (h : a < L) (hp : isDg' (B a) = true) : num B L a v = num B L (a + 1) (min 10000 (v * 10 + B a - 48)) := by
  unfold num
  rw [show L - a = (L - (a + 1)) + 1 by omega, numF, if_pos ⟨h, hp⟩]
theorem num_0 {a : Nat} {v : Int} (h : ¬ (a < L ∧ isDg' (B a) = true)) : num B L a v = v := by
  unfold num
  by_cases q : a < L
  · rw [show L - a = (L - (a + 1)) + 1 by omega, numF, if_neg h]
  · rw [show L - a = 0 by omega, numF]
theorem runF_ge : ∀ (n a : Nat), a ≤ runF B L p n a ∧ (a ≤ L → runF B L p n a ≤ L) := by
  intro n
  induction n with
  | zero => intro a; exact ⟨Nat.le_refl _, fun h => h⟩
  | succ n ih =>
    intro a
    rw [runF]
    by_cases q : a < L ∧ p (B a) = true
    · rw [if_pos q]
      have := ih (a + 1)
      exact ⟨by omega, fun _ => this.2 (by omega)⟩
    · rw [if_neg q]
      exact ⟨Nat.le_refl _, fun h => h⟩
theorem run_ge {a : Nat} : a ≤ run B L p a := (runF_ge _ a).1
theorem run_le {a : Nat} (h : a ≤ L) : run B L p a ≤ L := (runF_ge _ a).2 h
theorem bAt_in {j : Nat} (h : j < L) : bAt B L j = B j := if_pos h
theorem bAt_out {j : Nat} (h : ¬ j < L) : bAt B L j = -1 := if_neg h
theorem tkE_gt {q : Nat} (h : q < L) : q + 1 ≤ tkE B L q ∧ tkE B L q ≤ L := by
  unfold tkE
  by_cases h1 : isLt' (B q) = true
  · rw [if_pos h1]; exact ⟨run_ge, run_le (by omega)⟩
  · rw [if_neg h1]
    by_cases h2 : isDg' (B q) = true
    · rw [if_pos h2]; exact ⟨run_ge, run_le (by omega)⟩
    · rw [if_neg h2]
      by_cases h3 : (sgn (B q) = 3 ∨ sgn (B q) = 5) ∧ bAt B L (q + 1) = 61
      · rw [if_pos h3]
        by_cases h4 : q + 1 < L
        · exact ⟨by omega, by omega⟩
        · have := h3.2
          rw [bAt_out h4] at this
          exact absurd this (by decide)
      · rw [if_neg h3]; exact ⟨by omega, by omega⟩
theorem pos_le : ∀ i, pos B L i ≤ L := by
  intro i
  induction i with
  | zero => exact run_le (by omega)
  | succ i ih =>
    show (if pos B L i < L then run B L isSp' (tkE B L (pos B L i)) else L) ≤ L
    by_cases h : pos B L i < L
    · rw [if_pos h]; exact run_le (tkE_gt h).2
    · rw [if_neg h]; omega
theorem pos_gt {i : Nat} (h : pos B L i < L) : pos B L i + 1 ≤ pos B L (i + 1) := by
  show _ ≤ (if pos B L i < L then run B L isSp' (tkE B L (pos B L i)) else L)
  rw [if_pos h]
  exact Nat.le_trans (tkE_gt h).1 run_ge
theorem pos_end {i : Nat} (h : ¬ pos B L i < L) : ∀ j, i ≤ j → pos B L j = L := by
  intro j
  induction j with
  | zero =>
    intro q
    have : i = 0 := by omega
    have := pos_le (B := B) (L := L) 0
    subst i
    omega
  | succ j ih =>
    intro q
    by_cases z : i = j + 1
    · have := pos_le (B := B) (L := L) i
      rw [← z]; omega
    · have e := ih (by omega)
      show (if pos B L j < L then run B L isSp' (tkE B L (pos B L j)) else L) = L
      rw [if_neg (by omega)]
theorem pos_i {i : Nat} : pos B L i < L → i ≤ pos B L i := by
  induction i with
  | zero => intro _; omega
  | succ i ih =>
    intro h
    by_cases q : pos B L i < L
    · have := ih q
      have := pos_gt q
      omega
    · have := pos_end q (i + 1) (by omega)
      omega
/-- is the byte a letter -/
theorem isLt_b (x : Int32) : (isLt x = 1 ∧ isLt' x.toInt = true) ∨ (isLt x = 0 ∧ isLt' x.toInt = false) := by
  unfold isLt isLt'
  by_cases h : (97 ≤ x.toInt ∧ x.toInt ≤ 122) ∨ (65 ≤ x.toInt ∧ x.toInt ≤ 90)
  · rw [if_pos h]; exact Or.inl ⟨rfl, decide_eq_true h⟩
  · rw [if_neg h]; exact Or.inr ⟨rfl, decide_eq_false h⟩
end
/-! the class's cut -/
theorem isLetterC_e (x : Int32) (m : xMem) : fX7_isLetter x m = some (isLt x, m) := by
  have c97 : (97 : Int32).toInt = 97 := rfl
  have c122 : (122 : Int32).toInt = 122 := rfl
  have c65 : (65 : Int32).toInt = 65 := rfl
  have c90 : (90 : Int32).toInt = 90 := rfl
  have yes : ((97 ≤ x.toInt ∧ x.toInt ≤ 122) ∨ (65 ≤ x.toInt ∧ x.toInt ≤ 90)) → vOk (fun p => p = (isLt x, m)) (fX7_isLetter_24 x m) := by
    intro h
    unfold fX7_isLetter_24 fX7_isLetter_29
    refine v01 (vOk_some ?_)
    unfold isLt
    rw [if_pos h]
  have no : ¬ ((97 ≤ x.toInt ∧ x.toInt ≤ 122) ∨ (65 ≤ x.toInt ∧ x.toInt ≤ 90)) → vOk (fun p => p = (isLt x, m)) (fX7_isLetter_28 x m) := by
    intro h
    unfold fX7_isLetter_28 fX7_isLetter_29
    refine v00 (vOk_some ?_)
    unfold isLt
    rw [if_neg h]
  have r12 : ¬ (97 ≤ x.toInt ∧ x.toInt ≤ 122) → vOk (fun p => p = (isLt x, m)) (fX7_isLetter_12 x m) := by
    intro h
    unfold fX7_isLetter_12
    refine vLt (fun g => no (by omega)) (fun g => ?_)
    refine vLt (fun g2 => no (by omega)) (fun g2 => yes (by omega))
  refine of_vOk ?_
  unfold fX7_isLetter fX7_isLetter_0
  refine vLt (fun g => r12 (by omega)) (fun g => ?_)
  refine vLe (fun g2 => yes (by omega)) (fun g2 => r12 (by omega))
theorem isDigit_k (x : Int32) (m : xMem) : vOk (PP m (fun v : Int32 => (v.toInt = 1 ∧ isDg' x.toInt = true) ∨ (v.toInt = 0 ∧ isDg' x.toInt = false))) (fX7_isDigit x m) := by
  have c48 : (48 : Int32).toInt = 48 := rfl
  have c57 : (57 : Int32).toInt = 57 := rfl
  unfold fX7_isDigit fX7_isDigit_0 isDg'
  refine vLt (fun g => ?_) (fun g => ?_)
  · unfold fX7_isDigit_16 fX7_isDigit_17
    exact v00 (rP (Or.inr ⟨rfl, decide_eq_false (by omega)⟩))
  · refine vLt (fun g2 => ?_) (fun g2 => ?_)
    · unfold fX7_isDigit_16 fX7_isDigit_17
      exact v00 (rP (Or.inr ⟨rfl, decide_eq_false (by omega)⟩))
    · unfold fX7_isDigit_17
      exact v01 (rP (Or.inl ⟨rfl, decide_eq_true (by omega)⟩))
theorem signOf_k (x : Int32) (m : xMem) : vOk (PP m (fun v : Int32 => v.toInt = sgn x.toInt)) (fX7_signOf x m) := by
  have c35 : (35 : Int32).toInt = 35 := rfl
  have c36 : (36 : Int32).toInt = 36 := rfl
  have c37 : (37 : Int32).toInt = 37 := rfl
  have c38 : (38 : Int32).toInt = 38 := rfl
  have c39 : (39 : Int32).toInt = 39 := rfl
  have c40 : (40 : Int32).toInt = 40 := rfl
  have c41 : (41 : Int32).toInt = 41 := rfl
  have c42 : (42 : Int32).toInt = 42 := rfl
  have c43 : (43 : Int32).toInt = 43 := rfl
  have c44 : (44 : Int32).toInt = 44 := rfl
  have c45 : (45 : Int32).toInt = 45 := rfl
  have c46 : (46 : Int32).toInt = 46 := rfl
  have c47 : (47 : Int32).toInt = 47 := rfl
  have c48 : (48 : Int32).toInt = 48 := rfl
  have c49 : (49 : Int32).toInt = 49 := rfl
  have c50 : (50 : Int32).toInt = 50 := rfl
  have c51 : (51 : Int32).toInt = 51 := rfl
  have c52 : (52 : Int32).toInt = 52 := rfl
  have c53 : (53 : Int32).toInt = 53 := rfl
  have c54 : (54 : Int32).toInt = 54 := rfl
  have c55 : (55 : Int32).toInt = 55 := rfl
  have c56 : (56 : Int32).toInt = 56 := rfl
  have c57 : (57 : Int32).toInt = 57 := rfl
  have c58 : (58 : Int32).toInt = 58 := rfl
  have c59 : (59 : Int32).toInt = 59 := rfl
  have c60 : (60 : Int32).toInt = 60 := rfl
  have c61 : (61 : Int32).toInt = 61 := rfl
  have c62 : (62 : Int32).toInt = 62 := rfl
  unfold fX7_signOf fX7_signOf_0
  refine vEq (fun g => rP ?_) (fun g35 => ?_)
  · rw [show x.toInt = 35 from g.trans c35]; decide
  refine vEq (fun g => rP ?_) (fun g36 => ?_)
  · rw [show x.toInt = 36 from g.trans c36]; decide
  refine vEq (fun g => rP ?_) (fun g37 => ?_)
  · rw [show x.toInt = 37 from g.trans c37]; decide
  refine vEq (fun g => rP ?_) (fun g38 => ?_)
  · rw [show x.toInt = 38 from g.trans c38]; decide
  refine vEq (fun g => rP ?_) (fun g39 => ?_)
  · rw [show x.toInt = 39 from g.trans c39]; decide
  refine vEq (fun g => rP ?_) (fun g40 => ?_)
  · rw [show x.toInt = 40 from g.trans c40]; decide
  refine vEq (fun g => rP ?_) (fun g41 => ?_)
  · rw [show x.toInt = 41 from g.trans c41]; decide
  refine vEq (fun g => rP ?_) (fun g42 => ?_)
  · rw [show x.toInt = 42 from g.trans c42]; decide
  refine vEq (fun g => rP ?_) (fun g43 => ?_)
  · rw [show x.toInt = 43 from g.trans c43]; decide
  refine vEq (fun g => rP ?_) (fun g44 => ?_)
  · rw [show x.toInt = 44 from g.trans c44]; decide
  refine vEq (fun g => rP ?_) (fun g45 => ?_)
  · rw [show x.toInt = 45 from g.trans c45]; decide
  refine vEq (fun g => rP ?_) (fun g46 => ?_)
  · rw [show x.toInt = 46 from g.trans c46]; decide
  refine vEq (fun g => rP ?_) (fun g47 => ?_)
  · rw [show x.toInt = 47 from g.trans c47]; decide
  refine vEq (fun g => rP ?_) (fun g48 => ?_)
  · rw [show x.toInt = 48 from g.trans c48]; decide
  refine vEq (fun g => rP ?_) (fun g49 => ?_)
  · rw [show x.toInt = 49 from g.trans c49]; decide
  refine vEq (fun g => rP ?_) (fun g50 => ?_)
  · rw [show x.toInt = 50 from g.trans c50]; decide
  refine vEq (fun g => rP ?_) (fun g51 => ?_)
  · rw [show x.toInt = 51 from g.trans c51]; decide
  refine vEq (fun g => rP ?_) (fun g52 => ?_)
  · rw [show x.toInt = 52 from g.trans c52]; decide
  refine vEq (fun g => rP ?_) (fun g53 => ?_)
  · rw [show x.toInt = 53 from g.trans c53]; decide
  refine vEq (fun g => rP ?_) (fun g54 => ?_)
  · rw [show x.toInt = 54 from g.trans c54]; decide
  refine vEq (fun g => rP ?_) (fun g55 => ?_)
  · rw [show x.toInt = 55 from g.trans c55]; decide
  refine vEq (fun g => rP ?_) (fun g56 => ?_)
  · rw [show x.toInt = 56 from g.trans c56]; decide
  refine vEq (fun g => rP ?_) (fun g57 => ?_)
  · rw [show x.toInt = 57 from g.trans c57]; decide
  refine vEq (fun g => rP ?_) (fun g58 => ?_)
  · rw [show x.toInt = 58 from g.trans c58]; decide
  refine vEq (fun g => rP ?_) (fun g59 => ?_)
  · rw [show x.toInt = 59 from g.trans c59]; decide
  refine vEq (fun g => rP ?_) (fun g60 => ?_)
  · rw [show x.toInt = 60 from g.trans c60]; decide
  refine vEq (fun g => rP ?_) (fun g61 => ?_)
  · rw [show x.toInt = 61 from g.trans c61]; decide
  refine vEq (fun g => rP ?_) (fun g62 => ?_)
  · rw [show x.toInt = 62 from g.trans c62]; decide
  refine rP ?_
  unfold sgn
  rw [if_neg (by omega), if_neg (by omega), if_neg (by omega), if_neg (by omega), if_neg (by omega), if_neg (by omega), if_neg (by omega), if_neg (by omega), if_neg (by omega), if_neg (by omega), if_neg (by omega)]
  rfl
section
variable {m : xMem} {L : Nat}
def TPE (m : xMem) (L : Nat) : Prop := (m.1 255 4).toInt = (L : Int) ∧ L ≤ 300
abbrev bB (m : xMem) : Nat → Int := fun j => (m.1 256 j).toInt
theorem byteAt_k (h : TPE m L) {x : Int32} {j : Nat} (hx : x.toInt = (j : Int)) : vOk (PP m (fun v : Int32 => v.toInt = bAt (bB m) L j)) (fX7_byteAt 255 x m) := by
  obtain ⟨h4, hL⟩ := h
  have c0 : (0 : Int32).toInt = 0 := rfl
  have cm : (-1 : Int32).toInt = -1 := rfl
  have c300 : (300 : Int32).toInt = 300 := rfl
  unfold fX7_byteAt fX7_byteAt_0
  refine vLt (fun g => by exfalso; omega) (fun _ => ?_)
  refine vAl (x := m.1 255 4) rfl ?_
  refine vLe (fun g => ?_) (fun g => ?_)
  · unfold fX7_byteAt_30 fX7_byteAt_31
    exact rP (by rw [bAt_out (by omega)]; exact cm)
  · refine vLe (fun g2 => by exfalso; omega) (fun g2 => ?_)
    refine vIn (by omega) (by omega) fun _ => ?_
    rw [wN hx]
    refine vR fun x5 e5 => ?_
    unfold fX7_byteAt_31
    exact rP (by rw [bAt_in (by omega), e5])
/-- one more token -/
def TA (m m1 : xMem) (q : Nat) (k v p : Int) : Prop := m1.2 = m.2 ∧ (m1.1 255 7).toInt = (q : Int) + 1 ∧ (m1.1 257 q).toInt = k ∧ (m1.1 258 q).toInt = v ∧ (m1.1 259 q).toInt = p ∧ ∀ b j, ¬ ((b = 255 ∧ j = 7) ∨ ((b = 257 ∨ b = 258 ∨ b = 259) ∧ j = q)) → m1.1 b j = m.1 b j
theorem addToken_k {q : Nat} {a b c : Int32} (h7 : (m.1 255 7).toInt = (q : Int)) (hq : q < 301) : vOk (fun m1 => TA m m1 q a.toInt b.toInt c.toInt) (fX7_addToken 255 a b c m) := by
  have c0 : (0 : Int32).toInt = 0 := rfl
  have c1 : (1 : Int32).toInt = 1 := rfl
  have c301 : (301 : Int32).toInt = 301 := rfl
  unfold fX7_addToken fX7_addToken_0
  refine vAl (x := m.1 255 7) rfl ?_
  refine vLt (fun g => by exfalso; omega) (fun _ => ?_)
  refine vAl (x := m.1 255 7) rfl ?_
  refine vLe (fun g => by exfalso; omega) (fun _ => ?_)
  refine vAl (x := m.1 255 7) rfl ?_
  refine vIn (by omega) (by omega) fun _ => ?_
  rw [wN h7]
  refine vR fun m6 e6 => ?_
  refine vAl (x := m.1 255 7) (xP_plE e6 (by omega)) ?_
  refine vIn (by omega) (by omega) fun _ => ?_
  rw [wN h7]
  refine vR fun m9 e9 => ?_
  refine vAl (x := m.1 255 7) ((xP_plE e6 (by omega)).trans (xP_plE e9 (by omega))) ?_
  refine vIn (by omega) (by omega) fun _ => ?_
  rw [wN h7]
  refine vR fun m12 e12 => ?_
  refine vAl (x := m.1 255 7) ((xP_plE e6 (by omega)).trans ((xP_plE e9 (by omega)).trans (xP_plE e12 (by omega)))) ?_
  refine vA (by omega) fun x15 e15 f15 => ?_
  refine vR fun m16 e16 => ?_
  unfold fX7_addToken_59
  refine vOk_some ⟨by rw [e16, e12, e9, e6]; rfl, ?_, ?_, ?_, ?_, fun x j w => ?_⟩
  · rw [show m16.1 255 7 = x15 by rw [e16]; exact xP_eq.symm]; omega
  · rw [show m16.1 257 q = a by rw [e16, ← xP_pl (by omega), e12, ← xP_pl (by omega), e9, ← xP_pl (by omega), e6]; exact xP_eq.symm]
  · rw [show m16.1 258 q = b by rw [e16, ← xP_pl (by omega), e12, ← xP_pl (by omega), e9]; exact xP_eq.symm]
  · rw [show m16.1 259 q = c by rw [e16, ← xP_pl (by omega), e12]; exact xP_eq.symm]
  · rw [e16, e12, e9, e6]
    show (if x = 255 ∧ j = 7 then _ else if x = 255 + 4 ∧ j = q then _ else if x = 255 + 3 ∧ j = q then _ else if x = 255 + 2 ∧ j = q then _ else m.1 x j) = _
    rw [if_neg (by omega), if_neg (by omega), if_neg (by omega), if_neg (by omega)]
theorem isWord_loop (h : TPE m L) {a e s t : Nat} (hae : e - a = t - s) (hst : s ≤ t) (ht : t ≤ 73) {a1 a2 a3 a4 : Int32} (h1 : a1.toInt = (a : Int)) (h3 : a3.toInt = (s : Int)) (h4 : a4.toInt = (t : Int)) (he : a ≤ e) (heL : e ≤ L) : ∀ (fuel : Nat) (l5 : Int32) (d : Nat), l5.toInt = (s + d : Nat) → d ≤ t - s → (∀ j, j < d → bB m (a + j) = xCI (s + j)) → (t - s - d : Int) < (fuel : Int) → vOk (PP m (fun x : Int32 => (x.toInt = 1 ∧ isWd (bB m) a e s t) ∨ (x.toInt = 0 ∧ ¬ isWd (bB m) a e s t))) (fX7_isWord_29 255 a1 a2 a3 a4 fuel l5 m) := by
  have c0 : (0 : Int32).toInt = 0 := rfl
  have c1 : (1 : Int32).toInt = 1 := rfl
  have hL := h.2
  intro fuel
  induction fuel with
  | zero => intro l5 d _ _ _ hmu; exfalso; omega
  | succ fuel ih =>
    intro l5 d hd hdt hz hmu
    rw [fX7_isWord_29]
    refine vLe (fun g => ?_) (fun g => ?_)
    · exact rP (Or.inl ⟨rfl, hae, fun j hj => hz j (by omega)⟩)
    · refine vIn (by omega) (by omega) fun _ => ?_
      refine vR fun x2 e2 => ?_
      refine vA (by omega) fun x4 e4 f4 => ?_
      refine vS (by omega) fun x5 e5 f5 => ?_
      refine vBindP (byteAt_k h (j := a + d) (by omega)) fun v _ hv => ?_
      dsimp only
      rw [bAt_in (by omega)] at hv
      have hx2 : x2.toInt = xCI (s + d) := by
        rw [e2]
        unfold xCI
        rw [show Int32.ofNat (s + d) = l5 from Int32.toInt_inj.mp (by rw [Int32.toInt_ofNat_of_lt (by omega), hd])]
      refine vEq (fun g2 => ?_) (fun g2 => ?_)
      · refine vA (by omega) fun x8 e8 f8 => ?_
        refine ih x8 (d + 1) (by omega) (by omega) (fun j hj => ?_) (by omega)
        by_cases q : j < d
        · exact hz j q
        · rw [show j = d by omega]
          omega
      · refine rP (Or.inr ⟨rfl, fun w => g2 ?_⟩)
        rw [hx2, hv]
        exact (w.2 d (by omega)).symm
theorem isWord_k (h : TPE m L) {a e s t : Nat} (hst : s ≤ t) (ht : t ≤ 73) {a1 a2 a3 a4 : Int32} (h1 : a1.toInt = (a : Int)) (h2 : a2.toInt = (e : Int)) (h3 : a3.toInt = (s : Int)) (h4 : a4.toInt = (t : Int)) (he : a ≤ e) (heL : e ≤ L) : vOk (PP m (fun x : Int32 => (x.toInt = 1 ∧ isWd (bB m) a e s t) ∨ (x.toInt = 0 ∧ ¬ isWd (bB m) a e s t))) (fX7_isWord 255 a1 a2 a3 a4 m) := by
  have c0 : (0 : Int32).toInt = 0 := rfl
  have c73 : (73 : Int32).toInt = 73 := rfl
  have hL := h.2
  have cF := xFu
  unfold fX7_isWord fX7_isWord_0
  refine vS (by omega) fun x1 e1 f1 => ?_
  refine vS (by omega) fun x2 e2 f2 => ?_
  refine vNe (fun g => ?_) (fun g => ?_)
  · unfold fX7_isWord_24
    exact rP (Or.inr ⟨rfl, fun w => by have := w.1; omega⟩)
  · refine vLt (fun g2 => by exfalso; omega) (fun _ => ?_)
    refine vLe (fun _ => ?_) (fun g2 => by exfalso; omega)
    exact isWord_loop h (by omega) hst ht h1 h3 h4 he heL xFuel a3 0 (by omega) (by omega) (fun j hj => absurd hj (Nat.not_lt_zero j)) (by omega)
theorem addWord_step {a1 a2 l3 l4 l5 : Int32} {f : Nat} (h : (bif xIn l5 73 then decide (¬ xChr l5 = 32) else false) = true) (h2 : l5 < 73) : fX7_addWord_9 255 a1 a2 (f + 1) l3 l4 l5 m = fX7_addWord_9 255 a1 a2 f l3 l4 (l5 + 1) m := by
  rw [fX7_addWord_9, if_neg (by
    intro q
    have q1 := Int32.le_iff_toInt_le.mp q
    have q2 := Int32.lt_iff_toInt_lt.mp h2
    omega)]
  by_cases z : xIn l5 73 = true
  · rw [z] at h ⊢
    have h' : ¬ xChr l5 = 32 := of_decide_eq_true h
    show (if ¬ xChr l5 = 32 then _ else _) = _
    rw [if_pos h']
    rfl
  · have z' : xIn l5 73 = false := by
      cases hz : xIn l5 73 with
      | true => exact absurd hz z
      | false => rfl
    rw [z'] at h
    exact Bool.noConfusion (show false = true from h)
theorem addWord_0 {a1 a2 : Int32} {f : Nat} : fX7_addWord_9 255 a1 a2 (f + 5) 20 0 0 m = (fX7_isWord 255 a1 a2 0 4 m).bind fun p6 => if p6.1 = (0 : Int32) then fX7_addWord_9 255 a1 a2 f 21 5 5 p6.2 else (fX7_addToken 255 20 (-6) a1 p6.2).bind fun p12 => some p12 := by
  rw [addWord_step (l5 := 0) (by decide +kernel) (by decide), show (0 : Int32) + 1 = 1 from by decide]
  rw [addWord_step (l5 := 1) (by decide +kernel) (by decide), show (1 : Int32) + 1 = 2 from by decide]
  rw [addWord_step (l5 := 2) (by decide +kernel) (by decide), show (2 : Int32) + 1 = 3 from by decide]
  rw [addWord_step (l5 := 3) (by decide +kernel) (by decide), show (3 : Int32) + 1 = 4 from by decide]
  rw [fX7_addWord_9, if_neg (by decide)]
  rfl
theorem addWord_1 {a1 a2 : Int32} {f : Nat} : fX7_addWord_9 255 a1 a2 (f + 5) 21 5 5 m = (fX7_isWord 255 a1 a2 5 9 m).bind fun p6 => if p6.1 = (0 : Int32) then fX7_addWord_9 255 a1 a2 f 22 10 10 p6.2 else (fX7_addToken 255 21 (-5) a1 p6.2).bind fun p12 => some p12 := by
  rw [addWord_step (l5 := 5) (by decide +kernel) (by decide), show (5 : Int32) + 1 = 6 from by decide]
  rw [addWord_step (l5 := 6) (by decide +kernel) (by decide), show (6 : Int32) + 1 = 7 from by decide]
  rw [addWord_step (l5 := 7) (by decide +kernel) (by decide), show (7 : Int32) + 1 = 8 from by decide]
  rw [addWord_step (l5 := 8) (by decide +kernel) (by decide), show (8 : Int32) + 1 = 9 from by decide]
  rw [fX7_addWord_9, if_neg (by decide)]
  rfl
theorem addWord_2 {a1 a2 : Int32} {f : Nat} : fX7_addWord_9 255 a1 a2 (f + 5) 22 10 10 m = (fX7_isWord 255 a1 a2 10 14 m).bind fun p6 => if p6.1 = (0 : Int32) then fX7_addWord_9 255 a1 a2 f 23 15 15 p6.2 else (fX7_addToken 255 22 (-4) a1 p6.2).bind fun p12 => some p12 := by
  rw [addWord_step (l5 := 10) (by decide +kernel) (by decide), show (10 : Int32) + 1 = 11 from by decide]
  rw [addWord_step (l5 := 11) (by decide +kernel) (by decide), show (11 : Int32) + 1 = 12 from by decide]
  rw [addWord_step (l5 := 12) (by decide +kernel) (by decide), show (12 : Int32) + 1 = 13 from by decide]
  rw [addWord_step (l5 := 13) (by decide +kernel) (by decide), show (13 : Int32) + 1 = 14 from by decide]
  rw [fX7_addWord_9, if_neg (by decide)]
  rfl
theorem addWord_3 {a1 a2 : Int32} {f : Nat} : fX7_addWord_9 255 a1 a2 (f + 3) 23 15 15 m = (fX7_isWord 255 a1 a2 15 17 m).bind fun p6 => if p6.1 = (0 : Int32) then fX7_addWord_9 255 a1 a2 f 24 18 18 p6.2 else (fX7_addToken 255 23 (-3) a1 p6.2).bind fun p12 => some p12 := by
  rw [addWord_step (l5 := 15) (by decide +kernel) (by decide), show (15 : Int32) + 1 = 16 from by decide]
  rw [addWord_step (l5 := 16) (by decide +kernel) (by decide), show (16 : Int32) + 1 = 17 from by decide]
  rw [fX7_addWord_9, if_neg (by decide)]
  rfl
theorem addWord_4 {a1 a2 : Int32} {f : Nat} : fX7_addWord_9 255 a1 a2 (f + 4) 24 18 18 m = (fX7_isWord 255 a1 a2 18 21 m).bind fun p6 => if p6.1 = (0 : Int32) then fX7_addWord_9 255 a1 a2 f 25 22 22 p6.2 else (fX7_addToken 255 24 (-2) a1 p6.2).bind fun p12 => some p12 := by
  rw [addWord_step (l5 := 18) (by decide +kernel) (by decide), show (18 : Int32) + 1 = 19 from by decide]
  rw [addWord_step (l5 := 19) (by decide +kernel) (by decide), show (19 : Int32) + 1 = 20 from by decide]
  rw [addWord_step (l5 := 20) (by decide +kernel) (by decide), show (20 : Int32) + 1 = 21 from by decide]
  rw [fX7_addWord_9, if_neg (by decide)]
  rfl
theorem addWord_5 {a1 a2 : Int32} {f : Nat} : fX7_addWord_9 255 a1 a2 (f + 4) 25 22 22 m = (fX7_isWord 255 a1 a2 22 25 m).bind fun p6 => if p6.1 = (0 : Int32) then fX7_addWord_9 255 a1 a2 f 26 26 26 p6.2 else (fX7_addToken 255 25 (-1) a1 p6.2).bind fun p12 => some p12 := by
  rw [addWord_step (l5 := 22) (by decide +kernel) (by decide), show (22 : Int32) + 1 = 23 from by decide]
  rw [addWord_step (l5 := 23) (by decide +kernel) (by decide), show (23 : Int32) + 1 = 24 from by decide]
  rw [addWord_step (l5 := 24) (by decide +kernel) (by decide), show (24 : Int32) + 1 = 25 from by decide]
  rw [fX7_addWord_9, if_neg (by decide)]
  rfl
theorem addWord_6 {a1 a2 : Int32} {f : Nat} : fX7_addWord_9 255 a1 a2 (f + 7) 26 26 26 m = (fX7_isWord 255 a1 a2 26 32 m).bind fun p6 => if p6.1 = (0 : Int32) then fX7_addWord_9 255 a1 a2 f 27 33 33 p6.2 else (fX7_addToken 255 26 (0) a1 p6.2).bind fun p12 => some p12 := by
  rw [addWord_step (l5 := 26) (by decide +kernel) (by decide), show (26 : Int32) + 1 = 27 from by decide]
  rw [addWord_step (l5 := 27) (by decide +kernel) (by decide), show (27 : Int32) + 1 = 28 from by decide]
  rw [addWord_step (l5 := 28) (by decide +kernel) (by decide), show (28 : Int32) + 1 = 29 from by decide]
  rw [addWord_step (l5 := 29) (by decide +kernel) (by decide), show (29 : Int32) + 1 = 30 from by decide]
  rw [addWord_step (l5 := 30) (by decide +kernel) (by decide), show (30 : Int32) + 1 = 31 from by decide]
  rw [addWord_step (l5 := 31) (by decide +kernel) (by decide), show (31 : Int32) + 1 = 32 from by decide]
  rw [fX7_addWord_9, if_neg (by decide)]
  rfl
theorem addWord_7 {a1 a2 : Int32} {f : Nat} : fX7_addWord_9 255 a1 a2 (f + 5) 27 33 33 m = (fX7_isWord 255 a1 a2 33 37 m).bind fun p6 => if p6.1 = (0 : Int32) then fX7_addWord_9 255 a1 a2 f 28 38 38 p6.2 else (fX7_addToken 255 26 (1) a1 p6.2).bind fun p12 => some p12 := by
  rw [addWord_step (l5 := 33) (by decide +kernel) (by decide), show (33 : Int32) + 1 = 34 from by decide]
  rw [addWord_step (l5 := 34) (by decide +kernel) (by decide), show (34 : Int32) + 1 = 35 from by decide]
  rw [addWord_step (l5 := 35) (by decide +kernel) (by decide), show (35 : Int32) + 1 = 36 from by decide]
  rw [addWord_step (l5 := 36) (by decide +kernel) (by decide), show (36 : Int32) + 1 = 37 from by decide]
  rw [fX7_addWord_9, if_neg (by decide)]
  rfl
theorem addWord_8 {a1 a2 : Int32} {f : Nat} : fX7_addWord_9 255 a1 a2 (f + 6) 28 38 38 m = (fX7_isWord 255 a1 a2 38 43 m).bind fun p6 => if p6.1 = (0 : Int32) then fX7_addWord_9 255 a1 a2 f 29 44 44 p6.2 else (fX7_addToken 255 26 (2) a1 p6.2).bind fun p12 => some p12 := by
  rw [addWord_step (l5 := 38) (by decide +kernel) (by decide), show (38 : Int32) + 1 = 39 from by decide]
  rw [addWord_step (l5 := 39) (by decide +kernel) (by decide), show (39 : Int32) + 1 = 40 from by decide]
  rw [addWord_step (l5 := 40) (by decide +kernel) (by decide), show (40 : Int32) + 1 = 41 from by decide]
  rw [addWord_step (l5 := 41) (by decide +kernel) (by decide), show (41 : Int32) + 1 = 42 from by decide]
  rw [addWord_step (l5 := 42) (by decide +kernel) (by decide), show (42 : Int32) + 1 = 43 from by decide]
  rw [fX7_addWord_9, if_neg (by decide)]
  rfl
theorem addWord_9 {a1 a2 : Int32} {f : Nat} : fX7_addWord_9 255 a1 a2 (f + 5) 29 44 44 m = (fX7_isWord 255 a1 a2 44 48 m).bind fun p6 => if p6.1 = (0 : Int32) then fX7_addWord_9 255 a1 a2 f 30 49 49 p6.2 else (fX7_addToken 255 26 (3) a1 p6.2).bind fun p12 => some p12 := by
  rw [addWord_step (l5 := 44) (by decide +kernel) (by decide), show (44 : Int32) + 1 = 45 from by decide]
  rw [addWord_step (l5 := 45) (by decide +kernel) (by decide), show (45 : Int32) + 1 = 46 from by decide]
  rw [addWord_step (l5 := 46) (by decide +kernel) (by decide), show (46 : Int32) + 1 = 47 from by decide]
  rw [addWord_step (l5 := 47) (by decide +kernel) (by decide), show (47 : Int32) + 1 = 48 from by decide]
  rw [fX7_addWord_9, if_neg (by decide)]
  rfl
theorem addWord_10 {a1 a2 : Int32} {f : Nat} : fX7_addWord_9 255 a1 a2 (f + 8) 30 49 49 m = (fX7_isWord 255 a1 a2 49 56 m).bind fun p6 => if p6.1 = (0 : Int32) then fX7_addWord_9 255 a1 a2 f 31 57 57 p6.2 else (fX7_addToken 255 26 (4) a1 p6.2).bind fun p12 => some p12 := by
  rw [addWord_step (l5 := 49) (by decide +kernel) (by decide), show (49 : Int32) + 1 = 50 from by decide]
  rw [addWord_step (l5 := 50) (by decide +kernel) (by decide), show (50 : Int32) + 1 = 51 from by decide]
  rw [addWord_step (l5 := 51) (by decide +kernel) (by decide), show (51 : Int32) + 1 = 52 from by decide]
  rw [addWord_step (l5 := 52) (by decide +kernel) (by decide), show (52 : Int32) + 1 = 53 from by decide]
  rw [addWord_step (l5 := 53) (by decide +kernel) (by decide), show (53 : Int32) + 1 = 54 from by decide]
  rw [addWord_step (l5 := 54) (by decide +kernel) (by decide), show (54 : Int32) + 1 = 55 from by decide]
  rw [addWord_step (l5 := 55) (by decide +kernel) (by decide), show (55 : Int32) + 1 = 56 from by decide]
  rw [fX7_addWord_9, if_neg (by decide)]
  rfl
theorem addWord_11 {a1 a2 : Int32} {f : Nat} : fX7_addWord_9 255 a1 a2 (f + 6) 31 57 57 m = (fX7_isWord 255 a1 a2 57 62 m).bind fun p6 => if p6.1 = (0 : Int32) then fX7_addWord_9 255 a1 a2 f 32 63 63 p6.2 else (fX7_addToken 255 26 (5) a1 p6.2).bind fun p12 => some p12 := by
  rw [addWord_step (l5 := 57) (by decide +kernel) (by decide), show (57 : Int32) + 1 = 58 from by decide]
  rw [addWord_step (l5 := 58) (by decide +kernel) (by decide), show (58 : Int32) + 1 = 59 from by decide]
  rw [addWord_step (l5 := 59) (by decide +kernel) (by decide), show (59 : Int32) + 1 = 60 from by decide]
  rw [addWord_step (l5 := 60) (by decide +kernel) (by decide), show (60 : Int32) + 1 = 61 from by decide]
  rw [addWord_step (l5 := 61) (by decide +kernel) (by decide), show (61 : Int32) + 1 = 62 from by decide]
  rw [fX7_addWord_9, if_neg (by decide)]
  rfl
theorem addWord_12 {a1 a2 : Int32} {f : Nat} : fX7_addWord_9 255 a1 a2 (f + 5) 32 63 63 m = (fX7_isWord 255 a1 a2 63 67 m).bind fun p6 => if p6.1 = (0 : Int32) then fX7_addWord_9 255 a1 a2 f 33 68 68 p6.2 else (fX7_addToken 255 26 (6) a1 p6.2).bind fun p12 => some p12 := by
  rw [addWord_step (l5 := 63) (by decide +kernel) (by decide), show (63 : Int32) + 1 = 64 from by decide]
  rw [addWord_step (l5 := 64) (by decide +kernel) (by decide), show (64 : Int32) + 1 = 65 from by decide]
  rw [addWord_step (l5 := 65) (by decide +kernel) (by decide), show (65 : Int32) + 1 = 66 from by decide]
  rw [addWord_step (l5 := 66) (by decide +kernel) (by decide), show (66 : Int32) + 1 = 67 from by decide]
  rw [fX7_addWord_9, if_neg (by decide)]
  rfl
theorem addWord_13 {a1 a2 : Int32} {f : Nat} : fX7_addWord_9 255 a1 a2 (f + 5) 33 68 68 m = (fX7_isWord 255 a1 a2 68 72 m).bind fun p6 => if p6.1 = (0 : Int32) then fX7_addWord_9 255 a1 a2 f 34 73 73 p6.2 else (fX7_addToken 255 26 (7) a1 p6.2).bind fun p12 => some p12 := by
  rw [addWord_step (l5 := 68) (by decide +kernel) (by decide), show (68 : Int32) + 1 = 69 from by decide]
  rw [addWord_step (l5 := 69) (by decide +kernel) (by decide), show (69 : Int32) + 1 = 70 from by decide]
  rw [addWord_step (l5 := 70) (by decide +kernel) (by decide), show (70 : Int32) + 1 = 71 from by decide]
  rw [addWord_step (l5 := 71) (by decide +kernel) (by decide), show (71 : Int32) + 1 = 72 from by decide]
  rw [fX7_addWord_9, if_neg (by decide)]
  rfl
theorem addWord_k (h : TPE m L) {q a e : Nat} {a1 a2 : Int32} (h7 : (m.1 255 7).toInt = (q : Int)) (hq : q < 301) (h1 : a1.toInt = (a : Int)) (h2 : a2.toInt = (e : Int)) (he : a ≤ e) (heL : e ≤ L) : vOk (fun m1 => TA m m1 q (if wdx (bB m) a e = 14 then 1 else min (20 + (wdx (bB m) a e : Int)) 26) (if wdx (bB m) a e = 14 then 0 else (wdx (bB m) a e : Int) - 6) a) (fX7_addWord 255 a1 a2 m) := by
  have fin : ∀ (k v : Int32) (kk vv : Int), k.toInt = kk → v.toInt = vv → vOk (fun m1 => TA m m1 q kk vv a) ((fX7_addToken 255 k v a1 m).bind fun p12 => some p12) := by
    intro k v kk vv hk hv
    refine vOk_bind (addToken_k h7 hq) fun m1 z => vOk_some ?_
    rw [hk, hv, h1] at z
    exact z
  unfold fX7_addWord fX7_addWord_0
  rw [show xFuel = 4999999926 + 1 + 5 + 5 + 6 + 8 + 5 + 6 + 5 + 7 + 4 + 4 + 3 + 5 + 5 + 5 from rfl]
  rw [addWord_0]
  refine vBindP (isWord_k h (s := 0) (t := 4) (by omega) (by omega) h1 h2 rfl rfl he heL) fun x0 _ g0 => ?_
  dsimp only
  refine vEq (fun z0 => ?_) (fun z0 => ?_)
  rotate_left
  · have w : wdx (bB m) a e = 0 := by
      unfold wdx
      rw [if_pos ((g0.resolve_right (fun y => z0 y.1)).2)]
    rw [w]
    exact fin _ _ _ _ (by decide) (by decide)
  have n0 : ¬ isWd (bB m) a e 0 4 := (g0.resolve_left (fun y => by have := y.1; rw [show (0 : Int32).toInt = 0 from rfl] at z0; omega)).2
  rw [addWord_1]
  refine vBindP (isWord_k h (s := 5) (t := 9) (by omega) (by omega) h1 h2 rfl rfl he heL) fun x1 _ g1 => ?_
  dsimp only
  refine vEq (fun z1 => ?_) (fun z1 => ?_)
  rotate_left
  · have w : wdx (bB m) a e = 1 := by
      unfold wdx
      rw [if_neg n0, if_pos ((g1.resolve_right (fun y => z1 y.1)).2)]
    rw [w]
    exact fin _ _ _ _ (by decide) (by decide)
  have n1 : ¬ isWd (bB m) a e 5 9 := (g1.resolve_left (fun y => by have := y.1; rw [show (0 : Int32).toInt = 0 from rfl] at z1; omega)).2
  rw [addWord_2]
  refine vBindP (isWord_k h (s := 10) (t := 14) (by omega) (by omega) h1 h2 rfl rfl he heL) fun x2 _ g2 => ?_
  dsimp only
  refine vEq (fun z2 => ?_) (fun z2 => ?_)
  rotate_left
  · have w : wdx (bB m) a e = 2 := by
      unfold wdx
      rw [if_neg n0, if_neg n1, if_pos ((g2.resolve_right (fun y => z2 y.1)).2)]
    rw [w]
    exact fin _ _ _ _ (by decide) (by decide)
  have n2 : ¬ isWd (bB m) a e 10 14 := (g2.resolve_left (fun y => by have := y.1; rw [show (0 : Int32).toInt = 0 from rfl] at z2; omega)).2
  rw [addWord_3]
  refine vBindP (isWord_k h (s := 15) (t := 17) (by omega) (by omega) h1 h2 rfl rfl he heL) fun x3 _ g3 => ?_
  dsimp only
  refine vEq (fun z3 => ?_) (fun z3 => ?_)
  rotate_left
  · have w : wdx (bB m) a e = 3 := by
      unfold wdx
      rw [if_neg n0, if_neg n1, if_neg n2, if_pos ((g3.resolve_right (fun y => z3 y.1)).2)]
    rw [w]
    exact fin _ _ _ _ (by decide) (by decide)
  have n3 : ¬ isWd (bB m) a e 15 17 := (g3.resolve_left (fun y => by have := y.1; rw [show (0 : Int32).toInt = 0 from rfl] at z3; omega)).2
  rw [addWord_4]
  refine vBindP (isWord_k h (s := 18) (t := 21) (by omega) (by omega) h1 h2 rfl rfl he heL) fun x4 _ g4 => ?_
  dsimp only
  refine vEq (fun z4 => ?_) (fun z4 => ?_)
  rotate_left
  · have w : wdx (bB m) a e = 4 := by
      unfold wdx
      rw [if_neg n0, if_neg n1, if_neg n2, if_neg n3, if_pos ((g4.resolve_right (fun y => z4 y.1)).2)]
    rw [w]
    exact fin _ _ _ _ (by decide) (by decide)
  have n4 : ¬ isWd (bB m) a e 18 21 := (g4.resolve_left (fun y => by have := y.1; rw [show (0 : Int32).toInt = 0 from rfl] at z4; omega)).2
  rw [addWord_5]
  refine vBindP (isWord_k h (s := 22) (t := 25) (by omega) (by omega) h1 h2 rfl rfl he heL) fun x5 _ g5 => ?_
  dsimp only
  refine vEq (fun z5 => ?_) (fun z5 => ?_)
  rotate_left
  · have w : wdx (bB m) a e = 5 := by
      unfold wdx
      rw [if_neg n0, if_neg n1, if_neg n2, if_neg n3, if_neg n4, if_pos ((g5.resolve_right (fun y => z5 y.1)).2)]
    rw [w]
    exact fin _ _ _ _ (by decide) (by decide)
  have n5 : ¬ isWd (bB m) a e 22 25 := (g5.resolve_left (fun y => by have := y.1; rw [show (0 : Int32).toInt = 0 from rfl] at z5; omega)).2
  rw [addWord_6]
  refine vBindP (isWord_k h (s := 26) (t := 32) (by omega) (by omega) h1 h2 rfl rfl he heL) fun x6 _ g6 => ?_
  dsimp only
  refine vEq (fun z6 => ?_) (fun z6 => ?_)
  rotate_left
  · have w : wdx (bB m) a e = 6 := by
      unfold wdx
      rw [if_neg n0, if_neg n1, if_neg n2, if_neg n3, if_neg n4, if_neg n5, if_pos ((g6.resolve_right (fun y => z6 y.1)).2)]
    rw [w]
    exact fin _ _ _ _ (by decide) (by decide)
  have n6 : ¬ isWd (bB m) a e 26 32 := (g6.resolve_left (fun y => by have := y.1; rw [show (0 : Int32).toInt = 0 from rfl] at z6; omega)).2
  rw [addWord_7]
  refine vBindP (isWord_k h (s := 33) (t := 37) (by omega) (by omega) h1 h2 rfl rfl he heL) fun x7 _ g7 => ?_
  dsimp only
  refine vEq (fun z7 => ?_) (fun z7 => ?_)
  rotate_left
  · have w : wdx (bB m) a e = 7 := by
      unfold wdx
      rw [if_neg n0, if_neg n1, if_neg n2, if_neg n3, if_neg n4, if_neg n5, if_neg n6, if_pos ((g7.resolve_right (fun y => z7 y.1)).2)]
    rw [w]
    exact fin _ _ _ _ (by decide) (by decide)
  have n7 : ¬ isWd (bB m) a e 33 37 := (g7.resolve_left (fun y => by have := y.1; rw [show (0 : Int32).toInt = 0 from rfl] at z7; omega)).2
  rw [addWord_8]
  refine vBindP (isWord_k h (s := 38) (t := 43) (by omega) (by omega) h1 h2 rfl rfl he heL) fun x8 _ g8 => ?_
  dsimp only
  refine vEq (fun z8 => ?_) (fun z8 => ?_)
  rotate_left
  · have w : wdx (bB m) a e = 8 := by
      unfold wdx
      rw [if_neg n0, if_neg n1, if_neg n2, if_neg n3, if_neg n4, if_neg n5, if_neg n6, if_neg n7, if_pos ((g8.resolve_right (fun y => z8 y.1)).2)]
    rw [w]
    exact fin _ _ _ _ (by decide) (by decide)
  have n8 : ¬ isWd (bB m) a e 38 43 := (g8.resolve_left (fun y => by have := y.1; rw [show (0 : Int32).toInt = 0 from rfl] at z8; omega)).2
  rw [addWord_9]
  refine vBindP (isWord_k h (s := 44) (t := 48) (by omega) (by omega) h1 h2 rfl rfl he heL) fun x9 _ g9 => ?_
  dsimp only
  refine vEq (fun z9 => ?_) (fun z9 => ?_)
  rotate_left
  · have w : wdx (bB m) a e = 9 := by
      unfold wdx
      rw [if_neg n0, if_neg n1, if_neg n2, if_neg n3, if_neg n4, if_neg n5, if_neg n6, if_neg n7, if_neg n8, if_pos ((g9.resolve_right (fun y => z9 y.1)).2)]
    rw [w]
    exact fin _ _ _ _ (by decide) (by decide)
  have n9 : ¬ isWd (bB m) a e 44 48 := (g9.resolve_left (fun y => by have := y.1; rw [show (0 : Int32).toInt = 0 from rfl] at z9; omega)).2
  rw [addWord_10]
  refine vBindP (isWord_k h (s := 49) (t := 56) (by omega) (by omega) h1 h2 rfl rfl he heL) fun x10 _ g10 => ?_
  dsimp only
  refine vEq (fun z10 => ?_) (fun z10 => ?_)
  rotate_left
  · have w : wdx (bB m) a e = 10 := by
      unfold wdx
      rw [if_neg n0, if_neg n1, if_neg n2, if_neg n3, if_neg n4, if_neg n5, if_neg n6, if_neg n7, if_neg n8, if_neg n9, if_pos ((g10.resolve_right (fun y => z10 y.1)).2)]
    rw [w]
    exact fin _ _ _ _ (by decide) (by decide)
  have n10 : ¬ isWd (bB m) a e 49 56 := (g10.resolve_left (fun y => by have := y.1; rw [show (0 : Int32).toInt = 0 from rfl] at z10; omega)).2
  rw [addWord_11]
  refine vBindP (isWord_k h (s := 57) (t := 62) (by omega) (by omega) h1 h2 rfl rfl he heL) fun x11 _ g11 => ?_
  dsimp only
  refine vEq (fun z11 => ?_) (fun z11 => ?_)
  rotate_left
  · have w : wdx (bB m) a e = 11 := by
      unfold wdx
      rw [if_neg n0, if_neg n1, if_neg n2, if_neg n3, if_neg n4, if_neg n5, if_neg n6, if_neg n7, if_neg n8, if_neg n9, if_neg n10, if_pos ((g11.resolve_right (fun y => z11 y.1)).2)]
    rw [w]
    exact fin _ _ _ _ (by decide) (by decide)
  have n11 : ¬ isWd (bB m) a e 57 62 := (g11.resolve_left (fun y => by have := y.1; rw [show (0 : Int32).toInt = 0 from rfl] at z11; omega)).2
  rw [addWord_12]
  refine vBindP (isWord_k h (s := 63) (t := 67) (by omega) (by omega) h1 h2 rfl rfl he heL) fun x12 _ g12 => ?_
  dsimp only
  refine vEq (fun z12 => ?_) (fun z12 => ?_)
  rotate_left
  · have w : wdx (bB m) a e = 12 := by
      unfold wdx
      rw [if_neg n0, if_neg n1, if_neg n2, if_neg n3, if_neg n4, if_neg n5, if_neg n6, if_neg n7, if_neg n8, if_neg n9, if_neg n10, if_neg n11, if_pos ((g12.resolve_right (fun y => z12 y.1)).2)]
    rw [w]
    exact fin _ _ _ _ (by decide) (by decide)
  have n12 : ¬ isWd (bB m) a e 63 67 := (g12.resolve_left (fun y => by have := y.1; rw [show (0 : Int32).toInt = 0 from rfl] at z12; omega)).2
  rw [addWord_13]
  refine vBindP (isWord_k h (s := 68) (t := 72) (by omega) (by omega) h1 h2 rfl rfl he heL) fun x13 _ g13 => ?_
  dsimp only
  refine vEq (fun z13 => ?_) (fun z13 => ?_)
  rotate_left
  · have w : wdx (bB m) a e = 13 := by
      unfold wdx
      rw [if_neg n0, if_neg n1, if_neg n2, if_neg n3, if_neg n4, if_neg n5, if_neg n6, if_neg n7, if_neg n8, if_neg n9, if_neg n10, if_neg n11, if_neg n12, if_pos ((g13.resolve_right (fun y => z13 y.1)).2)]
    rw [w]
    exact fin _ _ _ _ (by decide) (by decide)
  have n13 : ¬ isWd (bB m) a e 68 72 := (g13.resolve_left (fun y => by have := y.1; rw [show (0 : Int32).toInt = 0 from rfl] at z13; omega)).2
  have w : wdx (bB m) a e = 14 := by
    unfold wdx
    rw [if_neg n0, if_neg n1, if_neg n2, if_neg n3, if_neg n4, if_neg n5, if_neg n6, if_neg n7, if_neg n8, if_neg n9, if_neg n10, if_neg n11, if_neg n12, if_neg n13]
  rw [w, fX7_addWord_9, if_pos (by decide)]
  exact fin 1 0 _ _ (by decide) (by decide)
end
