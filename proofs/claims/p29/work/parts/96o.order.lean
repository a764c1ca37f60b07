/-! THE ORDER of mends: the best next one each time, against all orders by their codes (p29). -/
/-- the least of f over those below n that p lets in, and the lowest such (n: none) -/
def lwm (p : Nat → Bool) (f : Nat → Nat) : Nat → Option (Nat × Nat)
  | 0 => none
  | k + 1 => match lwm p f k with
    | none => if p k then some (k, f k) else none
    | some (b, v) => if p k && decide (f k < v) then some (k, f k) else some (b, v)
theorem lwm_spec (p : Nat → Bool) (f : Nat → Nat) : ∀ n, (match lwm p f n with
    | none => ∀ i, i < n → p i = false
    | some (b, v) => b < n ∧ p b = true ∧ v = f b ∧ (∀ i, i < n → p i = true → v ≤ f i) ∧ ∀ i, i < b → p i = true → v < f i) := by
  intro n
  induction n with
  | zero => intro i hi; exact absurd hi (Nat.not_lt_zero i)
  | succ k ih =>
    unfold lwm
    cases e : lwm p f k with
    | none =>
      rw [e] at ih
      dsimp only at ih ⊢
      by_cases q : p k = true
      · rw [if_pos q]
        refine ⟨by omega, q, rfl, fun i hi hp => ?_, fun i hi hp => ?_⟩
        · by_cases w : i = k
          · rw [w]; exact Nat.le_refl _
          · have := ih i (by omega); rw [this] at hp; cases hp
        · have := ih i (by omega); rw [this] at hp; cases hp
      · rw [if_neg q]
        intro i hi
        by_cases w : i = k
        · rw [w]; exact Bool.eq_false_iff.mpr q
        · exact ih i (by omega)
    | some bv =>
      obtain ⟨b, v⟩ := bv
      rw [e] at ih
      dsimp only at ih ⊢
      obtain ⟨h1, h2, h3, h4, h5⟩ := ih
      by_cases q : (p k && decide (f k < v)) = true
      · rw [if_pos q]
        rw [Bool.and_eq_true, decide_eq_true_eq] at q
        refine ⟨by omega, q.1, rfl, fun i hi hp => ?_, fun i hi hp => ?_⟩
        · by_cases w : i = k
          · rw [w]; exact Nat.le_refl _
          · have := h4 i (by omega) hp; omega
        · have := h4 i hi hp; omega
      · rw [if_neg q]
        rw [Bool.and_eq_true, decide_eq_true_eq] at q
        refine ⟨by omega, h2, h3, fun i hi hp => ?_, h5⟩
        by_cases w : i = k
        · rw [w] at hp ⊢
          have : ¬ f k < v := fun z => q ⟨hp, z⟩
          omega
        · exact h4 i (by omega) hp
section
variable {n : Nat} {c : Nat → Nat → Nat}
def adS (S b : Nat) : Nat := S ||| (1 <<< b)
/-- how many count from S on, k being still to come -/
def Fm (n : Nat) (c : Nat → Nat → Nat) : Nat → Nat → Nat
  | 0, _ => 0
  | k + 1, S => match lwm (fun b => !S.testBit b) (fun b => c S b + Fm n c k (adS S b)) n with
    | none => 0
    | some (_, v) => v
def bN (n : Nat) (c : Nat → Nat → Nat) (k S : Nat) : Option (Nat × Nat) := lwm (fun b => !S.testBit b) (fun b => c S b + Fm n c k (adS S b)) n
/-- the code of the best order -/
def gC (n : Nat) (c : Nat → Nat → Nat) : Nat → Nat → Nat
  | 0, _ => 0
  | k + 1, S => match bN n c k S with
    | none => 0
    | some (b, _) => b * n ^ k + gC n c k (adS S b)
def dg (n k q : Nat) : Nat := q / n ^ k % n
/-- the code's last k digits are an order of those that aren't in S -/
def vld (n : Nat) : Nat → Nat → Nat → Prop
  | 0, _, _ => True
  | k + 1, S, q => S.testBit (dg n k q) = false ∧ vld n k (adS S (dg n k q)) q
def cst (n : Nat) (c : Nat → Nat → Nat) : Nat → Nat → Nat → Nat
  | 0, _, _ => 0
  | k + 1, S, q => c S (dg n k q) + cst n c k (adS S (dg n k q)) q
theorem mod_s {q k : Nat} (hn : 0 < n) : q % n ^ (k + 1) = dg n k q * n ^ k + q % n ^ k := by
  unfold dg
  rw [Nat.pow_succ, Nat.mod_mul, Nat.mul_comm, Nat.add_comm]
theorem gC_lt (hn : 0 < n) : ∀ k S, gC n c k S < n ^ k := by
  intro k
  induction k with
  | zero => intro S; exact Nat.lt_of_lt_of_le Nat.zero_lt_one (Nat.le_of_eq (Nat.pow_zero n).symm)
  | succ k ih =>
    intro S
    have sp := lwm_spec (fun b => !S.testBit b) (fun b => c S b + Fm n c k (adS S b)) n
    unfold gC bN
    cases e : lwm (fun b => !S.testBit b) (fun b => c S b + Fm n c k (adS S b)) n with
    | none => exact Nat.pow_pos hn
    | some bv =>
      obtain ⟨b, v⟩ := bv
      rw [e] at sp
      dsimp only at sp ⊢
      have h1 := ih (adS S b)
      have h2 : (b + 1) * n ^ k ≤ n * n ^ k := Nat.mul_le_mul_right _ sp.1
      rw [Nat.add_mul, Nat.one_mul] at h2
      rw [Nat.pow_succ, Nat.mul_comm (n ^ k) n]
      omega
theorem best (hn : 0 < n) : ∀ k S q, vld n k S q → Fm n c k S ≤ cst n c k S q ∧ (cst n c k S q = Fm n c k S → gC n c k S ≤ q % n ^ k) := by
  intro k
  induction k with
  | zero => intro S q _; exact ⟨Nat.le_refl _, fun _ => Nat.zero_le _⟩
  | succ k ih =>
    intro S q hv
    obtain ⟨v1, v2⟩ := hv
    obtain ⟨i1, i2⟩ := ih _ q v2
    have dl : dg n k q < n := Nat.mod_lt _ hn
    have sp := lwm_spec (fun b => !S.testBit b) (fun b => c S b + Fm n c k (adS S b)) n
    rw [mod_s hn]
    unfold Fm gC cst bN
    cases e : lwm (fun b => !S.testBit b) (fun b => c S b + Fm n c k (adS S b)) n with
    | none =>
      rw [e] at sp
      dsimp only at sp
      have := sp _ dl
      rw [v1] at this
      exact absurd this (by decide)
    | some bv =>
      obtain ⟨b, v⟩ := bv
      rw [e] at sp
      dsimp only at sp ⊢
      obtain ⟨s1, s2, s3, s4, s5⟩ := sp
      have m1 := s4 _ dl (by rw [v1]; rfl)
      refine ⟨by omega, fun he => ?_⟩
      have eq1 : c S (dg n k q) + Fm n c k (adS S (dg n k q)) = v := by omega
      have hb : b ≤ dg n k q := by
        by_cases w : b ≤ dg n k q
        · exact w
        · have := s5 (dg n k q) (by omega) (by rw [v1]; rfl)
          omega
      by_cases w : b = dg n k q
      · have := i2 (by omega)
        rw [w]
        omega
      · have g := gC_lt (c := c) hn k (adS S b)
        have h2 : (b + 1) * n ^ k ≤ dg n k q * n ^ k := Nat.mul_le_mul_right _ (by omega)
        rw [Nat.add_mul, Nat.one_mul] at h2
        omega
theorem split_eq {a b x y m : Nat} (hx : x < m) (hy : y < m) (h : a * m + x = b * m + y) : a = b ∧ x = y := by
  rcases Nat.lt_trichotomy a b with q | q | q
  · have z := Nat.mul_le_mul_right m q
    rw [Nat.succ_mul] at z
    omega
  · subst q
    exact ⟨rfl, by omega⟩
  · have z := Nat.mul_le_mul_right m q
    rw [Nat.succ_mul] at z
    omega
/-- how many below m aren't in S -/
def fr (S : Nat) : Nat → Nat
  | 0 => 0
  | m + 1 => fr S m + (if S.testBit m then 0 else 1)
theorem adS_bit {S b i : Nat} : (adS S b).testBit i = (S.testBit i || decide (b = i)) := by
  unfold adS
  rw [Nat.testBit_or, Nat.one_shiftLeft, Nat.testBit_two_pow]
theorem fr_ad {S b : Nat} (hb : S.testBit b = false) : ∀ m, fr (adS S b) m + (if b < m then 1 else 0) = fr S m := by
  intro m
  induction m with
  | zero => rfl
  | succ m ih =>
    unfold fr
    rw [adS_bit]
    by_cases w : b = m
    · subst w
      rw [hb]
      rw [if_neg (Nat.lt_irrefl b)] at ih
      rw [if_pos (Nat.lt_succ_self b)]
      simp
      omega
    · have d : decide (b = m) = false := decide_eq_false w
      rw [d, Bool.or_false]
      by_cases y : b < m
      · rw [if_pos y] at ih
        rw [if_pos (show b < m + 1 by omega)]
        omega
      · rw [if_neg y] at ih
        rw [if_neg (show ¬ b < m + 1 by omega)]
        omega
theorem fr_pos {S : Nat} : ∀ m, 0 < fr S m → ∃ i, i < m ∧ S.testBit i = false := by
  intro m
  induction m with
  | zero => intro h; exact absurd h (Nat.lt_irrefl 0)
  | succ m ih =>
    intro h
    by_cases q : S.testBit m = true
    · have : fr S (m + 1) = fr S m + (if S.testBit m then 0 else 1) := rfl
      rw [if_pos q] at this
      obtain ⟨i, h1, h2⟩ := ih (by omega)
      exact ⟨i, by omega, h2⟩
    · exact ⟨m, Nat.lt_succ_self m, Bool.eq_false_iff.mpr q⟩
/-- the best order's code is an order, and counts the least -/
theorem gC_ok (hn : 0 < n) : ∀ k S q, fr S n = k → q % n ^ k = gC n c k S → vld n k S q ∧ cst n c k S q = Fm n c k S := by
  intro k
  induction k with
  | zero => intro S q _ _; exact ⟨trivial, rfl⟩
  | succ k ih =>
    intro S q hf hq
    have sp := lwm_spec (fun b => !S.testBit b) (fun b => c S b + Fm n c k (adS S b)) n
    rw [mod_s hn] at hq
    unfold gC bN at hq
    unfold vld cst Fm
    cases e : lwm (fun b => !S.testBit b) (fun b => c S b + Fm n c k (adS S b)) n with
    | none =>
      rw [e] at sp
      dsimp only at sp
      obtain ⟨i, h1, h2⟩ := fr_pos n (by omega : 0 < fr S n)
      have := sp i h1
      rw [h2] at this
      exact absurd this (by decide)
    | some bv =>
      obtain ⟨b, v⟩ := bv
      rw [e] at sp hq
      dsimp only at sp hq ⊢
      obtain ⟨s1, s2, s3, s4, s5⟩ := sp
      have hb : S.testBit b = false := by
        cases z : S.testBit b with
        | false => rfl
        | true => rw [z] at s2; cases s2
      obtain ⟨q1, q2⟩ := split_eq (Nat.mod_lt _ (Nat.pow_pos hn)) (gC_lt hn k (adS S b)) hq
      have f := fr_ad hb n
      rw [if_pos s1] at f
      obtain ⟨i1, i2⟩ := ih (adS S b) q (by omega) q2
      rw [q1]
      exact ⟨⟨hb, i1⟩, by omega⟩
end
/-! the reference counts by the mend (months until it is begun), the class by the month (mends not begun): the same -/
section
variable {n : Nat} {u : Nat → Nat → Nat} {mo : Nat → Nat}
/-- the sum of f over those below m that aren't in S -/
def sF (S : Nat) (f : Nat → Nat) : Nat → Nat
  | 0 => 0
  | m + 1 => sF S f m + (if S.testBit m then 0 else f m)
theorem sF_ad {S b : Nat} {f : Nat → Nat} (hb : S.testBit b = false) : ∀ m, sF (adS S b) f m + (if b < m then f b else 0) = sF S f m := by
  intro m
  induction m with
  | zero => rfl
  | succ m ih =>
    unfold sF
    rw [adS_bit]
    by_cases w : b = m
    · subst w
      rw [hb]
      rw [if_neg (Nat.lt_irrefl b)] at ih
      rw [if_pos (Nat.lt_succ_self b)]
      simp
      omega
    · have d : decide (b = m) = false := decide_eq_false w
      rw [d, Bool.or_false]
      by_cases y : b < m
      · rw [if_pos y] at ih
        rw [if_pos (show b < m + 1 by omega)]
        omega
      · rw [if_neg y] at ih
        rw [if_neg (show ¬ b < m + 1 by omega)]
        omega
theorem sF_0 {S : Nat} {f : Nat → Nat} : ∀ m, fr S m = 0 → sF S f m = 0 := by
  intro m
  induction m with
  | zero => intro _; rfl
  | succ m ih =>
    intro h
    have e : fr S (m + 1) = fr S m + (if S.testBit m then 0 else 1) := rfl
    unfold sF
    by_cases q : S.testBit m = true
    · rw [if_pos q] at e ⊢
      rw [ih (by omega)]
    · rw [if_neg q] at e
      omega
theorem sF_add {S : Nat} {f g : Nat → Nat} : ∀ m, sF S (fun i => f i + g i) m = sF S f m + sF S g m := by
  intro m
  induction m with
  | zero => rfl
  | succ m ih =>
    unfold sF
    rw [ih]
    by_cases q : S.testBit m = true
    · rw [if_pos q, if_pos q, if_pos q]; omega
    · rw [if_neg q, if_neg q, if_neg q]; omega
/-- the sum of f over the code's last k digits -/
def sD (n : Nat) (f : Nat → Nat) : Nat → Nat → Nat
  | 0, _ => 0
  | k + 1, q => f (dg n k q) + sD n f k q
theorem sD_sF (hn : 0 < n) {f : Nat → Nat} : ∀ k S q, fr S n = k → vld n k S q → sD n f k q = sF S f n := by
  intro k
  induction k with
  | zero => intro S q h _; exact (sF_0 n h).symm
  | succ k ih =>
    intro S q h hv
    obtain ⟨v1, v2⟩ := hv
    have dl : dg n k q < n := Nat.mod_lt _ hn
    have a := fr_ad v1 n
    have b := sF_ad (f := f) v1 n
    rw [if_pos dl] at a b
    show f (dg n k q) + sD n f k q = _
    rw [ih _ q (by omega) v2]
    omega
/-- u i a: how many months before a in which i is above its limit. The reference's count, months told from base on -/
def rst (n : Nat) (u : Nat → Nat → Nat) (mo : Nat → Nat) : Nat → Nat → Nat → Nat
  | 0, _, _ => 0
  | k + 1, a, q => u (dg n k q) a + rst n u mo k (a + mo (dg n k q)) q
/-- the class's: those of the step's months, over all not begun -/
def cS (n : Nat) (u : Nat → Nat → Nat) (mo : Nat → Nat) (fi : Nat → Nat) (S b : Nat) : Nat := sF (adS S b) (fun i => u i (fi S + mo b) - u i (fi S)) n
theorem rst_cst (hn : 0 < n) {fi : Nat → Nat} (hfi : ∀ S b, b < n → S.testBit b = false → fi (adS S b) = fi S + mo b) (hu : ∀ i a b, a ≤ b → u i a ≤ u i b) : ∀ k S q, fr S n = k → vld n k S q → rst n u mo k (fi S) q = cst n (cS n u mo fi) k S q + sD n (fun i => u i (fi S)) k q := by
  intro k
  induction k with
  | zero => intro S q _ _; rfl
  | succ k ih =>
    intro S q h hv
    obtain ⟨v1, v2⟩ := hv
    have dl : dg n k q < n := Nat.mod_lt _ hn
    have a := fr_ad v1 n
    rw [if_pos dl] at a
    have f := hfi S _ dl v1
    have i1 := ih (adS S (dg n k q)) q (by omega) v2
    rw [f] at i1
    show u (dg n k q) (fi S) + rst n u mo k (fi S + mo (dg n k q)) q = (cS n u mo fi S (dg n k q) + cst n (cS n u mo fi) k (adS S (dg n k q)) q) + (u (dg n k q) (fi S) + sD n (fun i => u i (fi S)) k q)
    rw [i1, sD_sF hn k _ q (by omega) v2, sD_sF hn k _ q (by omega) v2]
    unfold cS
    have e : sF (adS S (dg n k q)) (fun i => u i (fi S + mo (dg n k q)) - u i (fi S) + u i (fi S)) n = sF (adS S (dg n k q)) (fun i => u i (fi S + mo (dg n k q))) n := by
      congr 1
      funext i
      have := hu i (fi S) (fi S + mo (dg n k q)) (by omega)
      omega
    rw [sF_add] at e
    omega
end
