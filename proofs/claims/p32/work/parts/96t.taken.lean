/-! TAKEN: the least and the greatest that can have stepped on: chains of loads; class's shares against the reference's table (p32) -/
section
variable {g : Nat → Int} {n f : Nat}
def chP (g : Nat → Int) (n f : Nat) : Nat → Int
  | 0 => 0
  | k + 1 => chP g n f k + g (f + n * k)
def chL (g : Nat → Int) (n f : Nat) : Nat → Int
  | 0 => 0
  | k + 1 => min (chL g n f k) (chP g n f (k + 1))
def chH (g : Nat → Int) (n f : Nat) : Nat → Int
  | 0 => 0
  | k + 1 => max (chH g n f k) (chP g n f (k + 1))
def chU (g : Nat → Int) (n f : Nat) : Nat → Int
  | 0 => 0
  | k + 1 => chU g n f k + chP g n f (k + 1)
theorem castS (k : Nat) : ((k + 1 : Nat) : Int) = (k : Int) + 1 := by omega
theorem chP_b (hg : ∀ t, -80 ≤ g t ∧ g t ≤ 80) : ∀ k : Nat, -(80 * (k : Int)) ≤ chP g n f k ∧ chP g n f k ≤ 80 * (k : Int) := by
  intro k
  induction k with
  | zero =>
    show -(80 * ((0 : Nat) : Int)) ≤ (0 : Int) ∧ (0 : Int) ≤ 80 * ((0 : Nat) : Int)
    omega
  | succ k ih =>
    have q := hg (f + n * k)
    show -(80 * ((k + 1 : Nat) : Int)) ≤ chP g n f k + g (f + n * k) ∧ chP g n f k + g (f + n * k) ≤ 80 * ((k + 1 : Nat) : Int)
    generalize g (f + n * k) = y at q ⊢
    omega
theorem ch_b (hg : ∀ t, -80 ≤ g t ∧ g t ≤ 80) : ∀ k : Nat, k ≤ 60 → (-4800 ≤ chL g n f k ∧ chL g n f k ≤ 0) ∧ (0 ≤ chH g n f k ∧ chH g n f k ≤ 4800) ∧ (-(4800 * (k : Int)) ≤ chU g n f k ∧ chU g n f k ≤ 4800 * (k : Int)) ∧ chL g n f k * (k : Int) ≤ chU g n f k := by
  intro k
  induction k with
  | zero =>
    intro _
    show (-4800 ≤ (0 : Int) ∧ (0 : Int) ≤ 0) ∧ (0 ≤ (0 : Int) ∧ (0 : Int) ≤ 4800) ∧ (-(4800 * ((0 : Nat) : Int)) ≤ (0 : Int) ∧ (0 : Int) ≤ 4800 * ((0 : Nat) : Int)) ∧ (0 : Int) * ((0 : Nat) : Int) ≤ 0
    omega
  | succ k ih =>
    intro hk
    have p := chP_b (n := n) (f := f) hg (k + 1)
    obtain ⟨i1, i2, i3, i4⟩ := ih (by omega)
    have eL : chL g n f (k + 1) = min (chL g n f k) (chP g n f (k + 1)) := rfl
    have eH : chH g n f (k + 1) = max (chH g n f k) (chP g n f (k + 1)) := rfl
    have eU : chU g n f (k + 1) = chU g n f k + chP g n f (k + 1) := rfl
    have m1 : chL g n f (k + 1) * (k : Int) ≤ chL g n f k * (k : Int) := Int.mul_le_mul_of_nonneg_right (by omega) (by omega)
    have m2 : chL g n f (k + 1) * ((k + 1 : Nat) : Int) = chL g n f (k + 1) * (k : Int) + chL g n f (k + 1) := by rw [castS, Int.mul_add, Int.mul_one]
    rw [m2]
    refine ⟨by omega, by omega, by omega, by omega⟩
theorem ch_mono : ∀ e k : Nat, chL g n f (k + e) ≤ chL g n f k ∧ chH g n f k ≤ chH g n f (k + e) := by
  intro e
  induction e with
  | zero => intro k; exact ⟨Int.le_refl _, Int.le_refl _⟩
  | succ e ih =>
    intro k
    have q := ih k
    have eL : chL g n f (k + (e + 1)) = min (chL g n f (k + e)) (chP g n f (k + e + 1)) := rfl
    have eH : chH g n f (k + (e + 1)) = max (chH g n f (k + e)) (chP g n f (k + e + 1)) := rfl
    omega
def kF (N n f : Nat) : Nat := (N - f + (n - 1)) / n
theorem kF_ok {N : Nat} (hn : 1 ≤ n) : N ≤ f + n * kF N n f ∧ ∀ i, i < kF N n f → f + n * i < N := by
  unfold kF
  have d := Nat.div_add_mod (N - f + (n - 1)) n
  have l := Nat.mod_lt (N - f + (n - 1)) (show 0 < n by omega)
  generalize (N - f + (n - 1)) / n = q at d ⊢
  generalize (N - f + (n - 1)) % n = r at d l
  refine ⟨by generalize n * q = z at d ⊢; omega, fun i hi => ?_⟩
  have m := Nat.mul_le_mul_left n (show i + 1 ≤ q by omega)
  rw [Nat.mul_add, Nat.mul_one] at m
  generalize n * q = z at d m
  generalize n * i = w at m ⊢
  omega
theorem kF_2 {N : Nat} (hn : 1 ≤ n) (h1 : 1 ≤ f) (h2 : f ≤ n) (hN : 1 ≤ N) : kF N n f = (N - 1) / n ∨ kF N n f = (N - 1) / n + 1 := by
  obtain ⟨a, b⟩ := kF_ok (N := N) (f := f) hn
  have d := Nat.div_add_mod (N - 1) n
  have l := Nat.mod_lt (N - 1) (show 0 < n by omega)
  generalize kF N n f = K at a b ⊢
  generalize (N - 1) / n = s at d ⊢
  generalize (N - 1) % n = r at d l
  by_cases q : K < s
  · have m := Nat.mul_le_mul_left n (show K + 1 ≤ s by omega)
    rw [Nat.mul_add, Nat.mul_one] at m
    generalize n * s = z at d m
    generalize n * K = w at a m
    omega
  · by_cases q2 : s + 1 < K
    · have m := b (s + 1) q2
      rw [Nat.mul_add, Nat.mul_one] at m
      generalize n * s = z at d m
      omega
    · omega
theorem kF_60 {N : Nat} (hn : 1 ≤ n) (h1 : 1 ≤ f) (hN : N ≤ 60) : kF N n f ≤ 60 := by
  obtain ⟨a, b⟩ := kF_ok (N := N) (f := f) hn
  by_cases q : kF N n f ≤ 60
  · exact q
  · have m := b 60 (by omega)
    have m2 := Nat.mul_le_mul_right 60 hn
    omega
end
/-! what is free in a chain, how much a chain begins with, over the chains below j; all chains may be -/
section
variable (g : Nat → Int) (N n : Nat)
def cL (j : Nat) : Int := chL g n (j + 1) (kF N n (j + 1))
def cU (j : Nat) : Int := chU g n (j + 1) (kF N n (j + 1))
def cH (j : Nat) : Int := chH g n (j + 1) (kF N n (j + 1))
def cSp (j : Nat) : Int := 2 - cH g N n j + cL g N n j
def aL : Nat → Int
  | 0 => 0
  | j + 1 => aL j - cL g N n j
def aS : Nat → Int
  | 0 => 0
  | j + 1 => aS j + (if (N - 1) / n < kF N n (j + 1) then cSp g N n j else 0)
def aT : Nat → Int
  | 0 => 0
  | j + 1 => aT j + (if (N - 1) / n < kF N n (j + 1) then 0 else cSp g N n j)
def aC : Nat → Int
  | 0 => 0
  | j + 1 => aC j + (cU g N n j - cL g N n j * (kF N n (j + 1) : Int))
def aG : Nat → Bool
  | 0 => true
  | j + 1 => aG j && decide (0 ≤ cSp g N n j)
end
def tVal (a2 : Int32) (SL SS C s r : Int) : Int := if 0 ≤ r ∧ r ≤ SL + SS then C + r * s + (if a2 = 0 then max 0 (r - SS) else min r SL) else -1
def VBt (g : Nat → Int) (N n : Nat) (a2 : Int32) (j : Nat) (s : Int) : Int := if aG g N n j = true then tVal a2 (aS g N n j) (aT g N n j) (aC g N n j) (((N - 1) / n : Nat) : Int) (s - aL g N n j) else -1
theorem tVal_e {a2 : Int32} {SL SS C s r : Int} : tVal a2 SL SS C s r = if 0 ≤ r ∧ r ≤ SL + SS then C + r * s + (if a2 = 0 then max 0 (r - SS) else min r SL) else -1 := rfl
theorem aG_mono {g : Nat → Int} {N n : Nat} : ∀ e j, aG g N n j = false → aG g N n (j + e) = false := by
  intro e
  induction e with
  | zero => intro j h; exact h
  | succ e ih =>
    intro j h
    show (aG g N n (j + e) && _) = false
    rw [ih j h]
    rfl
theorem a_b {g : Nat → Int} {N n : Nat} (hg : ∀ t, -80 ≤ g t ∧ g t ≤ 80) (hn : 1 ≤ n) (hN : N ≤ 60) : ∀ j : Nat, aG g N n j = true → (0 ≤ aL g N n j ∧ aL g N n j ≤ 4800 * (j : Int)) ∧ (0 ≤ aS g N n j ∧ aS g N n j ≤ 2 * (j : Int)) ∧ (0 ≤ aT g N n j ∧ aT g N n j ≤ 2 * (j : Int)) ∧ (0 ≤ aC g N n j ∧ aC g N n j ≤ 576000 * (j : Int)) := by
  intro j
  induction j with
  | zero =>
    intro _
    show (0 ≤ (0 : Int) ∧ (0 : Int) ≤ 4800 * ((0 : Nat) : Int)) ∧ (0 ≤ (0 : Int) ∧ (0 : Int) ≤ 2 * ((0 : Nat) : Int)) ∧ (0 ≤ (0 : Int) ∧ (0 : Int) ≤ 2 * ((0 : Nat) : Int)) ∧ (0 ≤ (0 : Int) ∧ (0 : Int) ≤ 576000 * ((0 : Nat) : Int))
    omega
  | succ j ih =>
    intro h
    have h' : (aG g N n j && decide (0 ≤ cSp g N n j)) = true := h
    rw [Bool.and_eq_true, decide_eq_true_eq] at h'
    obtain ⟨h1, h2⟩ := h'
    obtain ⟨i1, i2, i3, i4⟩ := ih h1
    have k60 := kF_60 (N := N) (f := j + 1) hn (by omega) hN
    obtain ⟨b1, b2, b3, b4⟩ := ch_b (n := n) (f := j + 1) hg (kF N n (j + 1)) k60
    have e1 : aL g N n (j + 1) = aL g N n j - cL g N n j := rfl
    have e2 : aS g N n (j + 1) = aS g N n j + (if (N - 1) / n < kF N n (j + 1) then cSp g N n j else 0) := rfl
    have e3 : aT g N n (j + 1) = aT g N n j + (if (N - 1) / n < kF N n (j + 1) then 0 else cSp g N n j) := rfl
    have e4 : aC g N n (j + 1) = aC g N n j + (cU g N n j - cL g N n j * (kF N n (j + 1) : Int)) := rfl
    have eL : cL g N n j = chL g n (j + 1) (kF N n (j + 1)) := rfl
    have eH : cH g N n j = chH g n (j + 1) (kF N n (j + 1)) := rfl
    have eU : cU g N n j = chU g n (j + 1) (kF N n (j + 1)) := rfl
    have eS : cSp g N n j = 2 - cH g N n j + cL g N n j := rfl
    rw [← eL] at b1 b4
    rw [← eH] at b2
    rw [← eU] at b3 b4
    have m1 : (-4800) * (kF N n (j + 1) : Int) ≤ cL g N n j * (kF N n (j + 1) : Int) := Int.mul_le_mul_of_nonneg_right (by omega) (by omega)
    generalize cL g N n j * (kF N n (j + 1) : Int) = z at m1 b4 e4
    refine ⟨by omega, ?_, ?_, by omega⟩
    · by_cases q : (N - 1) / n < kF N n (j + 1)
      · rw [if_pos q] at e2; omega
      · rw [if_neg q] at e2; omega
    · by_cases q : (N - 1) / n < kF N n (j + 1)
      · rw [if_pos q] at e3; omega
      · rw [if_neg q] at e3; omega
/-! the table's step: the best of three -/
def cmb (a2 : Int32) (u t : Int) : Int := if t = -1 then u else if u = -1 then t else if a2 = 0 then min u t else max u t
def oPt (a2 : Int32) (w : Int) (A : Int → Prop) : Prop := (w = -1 ∧ ∀ t, A t → t = -1) ∨ (¬ w = -1 ∧ A w ∧ ∀ t, A t → ¬ t = -1 → if a2 = 0 then w ≤ t else t ≤ w)
theorem oPt_un {a2 : Int32} {w w' : Int} {A : Int → Prop} (h : oPt a2 w A) (h' : oPt a2 w' A) : w = w' := by
  rcases h with ⟨h1, h2⟩ | ⟨h1, h2, h3⟩ <;> rcases h' with ⟨k1, k2⟩ | ⟨k1, k2, k3⟩
  · omega
  · exact absurd (h2 _ k2) k1
  · exact absurd (k2 _ h2) h1
  · have a := h3 _ k2 k1
    have b := k3 _ h2 h1
    by_cases q : a2 = 0
    · rw [if_pos q] at a b; omega
    · rw [if_neg q] at a b; omega
theorem oPt_cmb {a2 : Int32} {u t : Int} {A B : Int → Prop} (h : oPt a2 u A) (hB : ∀ x, B x ↔ (A x ∨ x = t)) : oPt a2 (cmb a2 u t) B := by
  unfold cmb
  by_cases q : t = -1
  · rw [if_pos q]
    rcases h with ⟨h1, h2⟩ | ⟨h1, h2, h3⟩
    · refine Or.inl ⟨h1, fun x hx => ?_⟩
      rcases (hB x).mp hx with y | y
      · exact h2 x y
      · omega
    · refine Or.inr ⟨h1, (hB _).mpr (Or.inl h2), fun x hx hn => ?_⟩
      rcases (hB x).mp hx with y | y
      · exact h3 x y hn
      · omega
  · rw [if_neg q]
    rcases h with ⟨h1, h2⟩ | ⟨h1, h2, h3⟩
    · rw [if_pos h1]
      refine Or.inr ⟨q, (hB _).mpr (Or.inr rfl), fun x hx hn => ?_⟩
      rcases (hB x).mp hx with y | y
      · exact absurd (h2 x y) hn
      · subst y
        by_cases z : a2 = 0
        · rw [if_pos z]; exact Int.le_refl _
        · rw [if_neg z]; exact Int.le_refl _
    · rw [if_neg h1]
      by_cases z : a2 = 0
      · rw [if_pos z]
        refine Or.inr ⟨by omega, (hB _).mpr ?_, fun x hx hn => ?_⟩
        · rcases Int.le_total u t with y | y
          · left; have e : min u t = u := by omega
            rw [e]; exact h2
          · right; omega
        · rw [if_pos z]
          rcases (hB x).mp hx with y | y
          · have := h3 x y hn
            rw [if_pos z] at this
            omega
          · omega
      · rw [if_neg z]
        refine Or.inr ⟨by omega, (hB _).mpr ?_, fun x hx hn => ?_⟩
        · rcases Int.le_total u t with y | y
          · right; omega
          · left; have e : max u t = u := by omega
            rw [e]; exact h2
        · rw [if_neg z]
          rcases (hB x).mp hx with y | y
          · have := h3 x y hn
            rw [if_neg z] at this
            omega
          · omega
/-- one chain more: begin with v -/
def tmt (T : Nat → Int) (c : Int) (v s : Nat) : Int := if v ≤ s ∧ ¬ c = -1 ∧ ¬ T (s - v) = -1 then T (s - v) + c else -1
def tUt (a2 : Int32) (T : Nat → Int) (c : Nat → Int) : Nat → Nat → Int
  | 0, _ => -1
  | v + 1, s => cmb a2 (tUt a2 T c v s) (tmt T (c v) v s)
theorem tU_opt {a2 : Int32} {T : Nat → Int} {c : Nat → Int} {s : Nat} : ∀ k, oPt a2 (tUt a2 T c k s) (fun x => ∃ v, v < k ∧ x = tmt T (c v) v s) := by
  intro k
  induction k with
  | zero => exact Or.inl ⟨rfl, fun t ⟨v, hv, _⟩ => absurd hv (Nat.not_lt_zero v)⟩
  | succ k ih =>
    refine oPt_cmb ih fun x => ⟨fun ⟨v, hv, e⟩ => ?_, fun h => ?_⟩
    · by_cases q : v = k
      · subst q; exact Or.inr e
      · exact Or.inl ⟨v, by omega, e⟩
    · rcases h with ⟨v, hv, e⟩ | e
      · exact ⟨v, by omega, e⟩
      · exact ⟨k, Nat.lt_succ_self k, e⟩
def cVt (lo hi su kk v : Int) : Int := if 0 ≤ v + lo ∧ v + hi ≤ 2 then v * kk + su else -1
/-- a chain's part of the worth, as it stands with x above the lowest -/
def hX (a2 : Int32) (SL SS r x : Int) (lg : Prop) [Decidable lg] : Int := (if a2 = 0 then max 0 (r - x - SS) else min (r - x) SL) + (if lg then x else 0)
theorem tmt_n {a2 : Int32} {SL SS C σ L lo hi su kk : Int} {v s : Nat} (hSL : 0 ≤ SL) (hSS : 0 ≤ SS) (hC : 0 ≤ C) (hσ : 0 ≤ σ) (hL : 0 ≤ L) (hcu : lo * kk ≤ su) (hk : kk = σ ∨ kk = σ + 1) : (((0 ≤ (v : Int) + lo ∧ (v : Int) + hi ≤ 2) ∧ 0 ≤ (s : Int) - v - L ∧ (s : Int) - v - L ≤ SL + SS) ∧ tmt (fun s => tVal a2 SL SS C σ ((s : Int) - L)) (cVt lo hi su kk v) v s = C + (su - lo * kk) + ((s : Int) - L + lo) * σ + hX a2 SL SS ((s : Int) - L + lo) (v + lo) (σ < kk) ∧ 0 ≤ C + (su - lo * kk) + ((s : Int) - L + lo) * σ + hX a2 SL SS ((s : Int) - L + lo) (v + lo) (σ < kk)) ∨ (¬ ((0 ≤ (v : Int) + lo ∧ (v : Int) + hi ≤ 2) ∧ 0 ≤ (s : Int) - v - L ∧ (s : Int) - v - L ≤ SL + SS) ∧ tmt (fun s => tVal a2 SL SS C σ ((s : Int) - L)) (cVt lo hi su kk v) v s = -1) := by
  by_cases q : (0 ≤ (v : Int) + lo ∧ (v : Int) + hi ≤ 2) ∧ 0 ≤ (s : Int) - v - L ∧ (s : Int) - v - L ≤ SL + SS
  · left
    obtain ⟨q1, q2, q3⟩ := q
    have n0 : 0 ≤ ((v : Int) + lo) * kk := Int.mul_nonneg q1.1 (by omega)
    rw [Int.add_mul] at n0
    have n1 : 0 ≤ ((s : Int) - v - L) * σ := Int.mul_nonneg q2 hσ
    have n2 : ((s : Int) - L + lo) * σ = ((s : Int) - v - L) * σ + v * σ + lo * σ := by
      rw [← Int.add_mul, ← Int.add_mul]
      congr 1
      omega
    have cv : cVt lo hi su kk v = v * kk + su := if_pos q1
    have hv : v ≤ s := by omega
    have tv : tVal a2 SL SS C σ (((s - v : Nat) : Int) - L) = C + ((s : Int) - v - L) * σ + (if a2 = 0 then max 0 ((s : Int) - v - L - SS) else min ((s : Int) - v - L) SL) := by
      have e : ((s - v : Nat) : Int) - L = (s : Int) - v - L := by omega
      rw [e]
      exact if_pos ⟨q2, q3⟩
    have x0 : 0 ≤ (if a2 = 0 then max 0 ((s : Int) - v - L - SS) else min ((s : Int) - v - L) SL) := by
      by_cases z : a2 = 0
      · rw [if_pos z]; omega
      · rw [if_neg z]; omega
    have hx : hX a2 SL SS ((s : Int) - L + lo) (v + lo) (σ < kk) = (if a2 = 0 then max 0 ((s : Int) - v - L - SS) else min ((s : Int) - v - L) SL) + (if σ < kk then (v : Int) + lo else 0) := by
      unfold hX
      rw [show (s : Int) - L + lo - (v + lo) = (s : Int) - v - L by omega]
    have tm : tmt (fun s => tVal a2 SL SS C σ ((s : Int) - L)) (cVt lo hi su kk v) v s = tVal a2 SL SS C σ (((s - v : Nat) : Int) - L) + cVt lo hi su kk v := by
      unfold tmt
      refine if_pos ⟨hv, by rw [cv]; omega, ?_⟩
      show ¬ tVal a2 SL SS C σ (((s - v : Nat) : Int) - L) = -1
      rw [tv]
      omega
    rw [tm, tv, cv, hx, n2]
    generalize (if a2 = 0 then max 0 ((s : Int) - v - L - SS) else min ((s : Int) - v - L) SL) = X at x0 ⊢
    refine ⟨⟨q1, q2, q3⟩, ?_⟩
    rcases hk with e | e
    · subst e
      rw [if_neg (Int.lt_irrefl _)]
      generalize ((s : Int) - v - L) * kk = A at n1 ⊢
      generalize (v : Int) * kk = B at n0 ⊢
      generalize lo * kk = D at n0 hcu ⊢
      omega
    · subst e
      rw [if_pos (by omega)]
      rw [Int.mul_add, Int.mul_one, Int.mul_add, Int.mul_one] at n0
      rw [Int.mul_add, Int.mul_one] at hcu
      rw [Int.mul_add, Int.mul_one, Int.mul_add, Int.mul_one]
      generalize ((s : Int) - v - L) * σ = A at n1 ⊢
      generalize (v : Int) * σ = B at n0 ⊢
      generalize lo * σ = D at n0 hcu ⊢
      omega
  · right
    refine ⟨q, ?_⟩
    unfold tmt
    refine if_neg fun w => ?_
    obtain ⟨w1, w2, w3⟩ := w
    have c1 : 0 ≤ (v : Int) + lo ∧ (v : Int) + hi ≤ 2 := by
      by_cases z : 0 ≤ (v : Int) + lo ∧ (v : Int) + hi ≤ 2
      · exact z
      · exact (w2 (if_neg z)).elim
    have c2 : 0 ≤ ((s - v : Nat) : Int) - L ∧ ((s - v : Nat) : Int) - L ≤ SL + SS := by
      by_cases z : 0 ≤ ((s - v : Nat) : Int) - L ∧ ((s - v : Nat) : Int) - L ≤ SL + SS
      · exact z
      · exact (w3 (if_neg z)).elim
    exact q ⟨c1, by omega, by omega⟩
theorem key_t {a2 : Int32} {SL SS C σ L lo hi su kk : Int} {s : Nat} (hSL : 0 ≤ SL) (hSS : 0 ≤ SS) (hC : 0 ≤ C) (hσ : 0 ≤ σ) (hL : 0 ≤ L) (hlo : lo ≤ 0) (hhi : 0 ≤ hi) (hcu : lo * kk ≤ su) (hk : kk = σ ∨ kk = σ + 1) : tUt a2 (fun s => tVal a2 SL SS C σ ((s : Int) - L)) (fun v => cVt lo hi su kk v) 3 s = if 0 ≤ 2 - hi + lo then tVal a2 (SL + (if σ < kk then 2 - hi + lo else 0)) (SS + (if σ < kk then 0 else 2 - hi + lo)) (C + (su - lo * kk)) σ ((s : Int) - (L - lo)) else -1 := by
  refine oPt_un (tU_opt 3) ?_
  have nf := fun v => tmt_n (a2 := a2) (SL := SL) (SS := SS) (C := C) (σ := σ) (L := L) (lo := lo) (hi := hi) (su := su) (kk := kk) (v := v) (s := s) hSL hSS hC hσ hL hcu hk
  by_cases sp : 0 ≤ 2 - hi + lo
  · rw [if_pos sp]
    rw [tVal_e]
    have er : (s : Int) - (L - lo) = (s : Int) - L + lo := by omega
    rw [er]
    generalize hr : (s : Int) - L + lo = r at nf ⊢
    generalize C + (su - lo * kk) + r * σ = B at nf ⊢
    have es : SL + (if σ < kk then 2 - hi + lo else 0) + (SS + (if σ < kk then 0 else 2 - hi + lo)) = SL + SS + (2 - hi + lo) := by
      by_cases z : σ < kk
      · rw [if_pos z, if_pos z]; omega
      · rw [if_neg z, if_neg z]; omega
    rw [es]
    by_cases rg : 0 ≤ r ∧ r ≤ SL + SS + (2 - hi + lo)
    · rw [if_pos rg]
      -- the best beginning
      have go : ∀ x : Int, 0 ≤ x → x ≤ 2 - hi + lo → 0 ≤ r - x → r - x ≤ SL + SS → (∀ y : Int, 0 ≤ y → y ≤ 2 - hi + lo → 0 ≤ r - y → r - y ≤ SL + SS → if a2 = 0 then hX a2 SL SS r x (σ < kk) ≤ hX a2 SL SS r y (σ < kk) else hX a2 SL SS r y (σ < kk) ≤ hX a2 SL SS r x (σ < kk)) → oPt a2 (B + hX a2 SL SS r x (σ < kk)) (fun t => ∃ v : Nat, v < 3 ∧ t = tmt (fun s => tVal a2 SL SS C σ ((s : Int) - L)) (cVt lo hi su kk v) v s) := by
        intro x x1 x2 x3 x4 hy
        have hv : (((x - lo).toNat : Nat) : Int) + lo = x := by omega
        have hv2 : (x - lo).toNat < 3 := by omega
        rcases nf (x - lo).toNat with ⟨_, a, b⟩ | ⟨a, _⟩
        · rw [hv] at a b
          refine Or.inr ⟨by omega, ⟨_, hv2, a.symm⟩, fun t ht hn => ?_⟩
          obtain ⟨v, v3, rfl⟩ := ht
          rcases nf v with ⟨c, d, e⟩ | ⟨c, d⟩
          · have q := hy (v + lo) (by omega) (by omega) (by omega) (by omega)
            rw [d]
            by_cases z : a2 = 0
            · rw [if_pos z] at q ⊢; omega
            · rw [if_neg z] at q ⊢; omega
          · exact absurd d hn
        · exact absurd ⟨⟨by omega, by omega⟩, by omega, by omega⟩ a
      by_cases z : a2 = 0
      · rw [if_pos z]
        by_cases l : σ < kk
        · rw [if_pos l]
          have q := go (max 0 (r - SL - SS)) (by omega) (by omega) (by omega) (by omega) (fun y y1 y2 y3 y4 => by
            rw [if_pos z]; unfold hX; rw [if_pos z, if_pos z, if_pos l, if_pos l]; omega)
          have e : hX a2 SL SS r (max 0 (r - SL - SS)) (σ < kk) = max 0 (r - (SS + 0)) := by
            unfold hX; rw [if_pos z, if_pos l]; omega
          rw [e] at q
          exact q
        · rw [if_neg l]
          have q := go (min r (2 - hi + lo)) (by omega) (by omega) (by omega) (by omega) (fun y y1 y2 y3 y4 => by
            rw [if_pos z]; unfold hX; rw [if_pos z, if_pos z, if_neg l, if_neg l]; omega)
          have e : hX a2 SL SS r (min r (2 - hi + lo)) (σ < kk) = max 0 (r - (SS + (2 - hi + lo))) := by
            unfold hX; rw [if_pos z, if_neg l]; omega
          rw [e] at q
          exact q
      · rw [if_neg z]
        by_cases l : σ < kk
        · rw [if_pos l]
          have q := go (min r (2 - hi + lo)) (by omega) (by omega) (by omega) (by omega) (fun y y1 y2 y3 y4 => by
            rw [if_neg z]; unfold hX; rw [if_neg z, if_neg z, if_pos l, if_pos l]; omega)
          have e : hX a2 SL SS r (min r (2 - hi + lo)) (σ < kk) = min r (SL + (2 - hi + lo)) := by
            unfold hX; rw [if_neg z, if_pos l]; omega
          rw [e] at q
          exact q
        · rw [if_neg l]
          have q := go (max 0 (r - SL - SS)) (by omega) (by omega) (by omega) (by omega) (fun y y1 y2 y3 y4 => by
            rw [if_neg z]; unfold hX; rw [if_neg z, if_neg z, if_neg l, if_neg l]; omega)
          have e : hX a2 SL SS r (max 0 (r - SL - SS)) (σ < kk) = min r (SL + 0) := by
            unfold hX; rw [if_neg z, if_neg l]; omega
          rw [e] at q
          exact q
    · rw [if_neg rg]
      refine Or.inl ⟨rfl, fun t ht => ?_⟩
      obtain ⟨v, v3, rfl⟩ := ht
      rcases nf v with ⟨c, _⟩ | ⟨_, d⟩
      · exfalso; omega
      · exact d
  · rw [if_neg sp]
    refine Or.inl ⟨rfl, fun t ht => ?_⟩
    obtain ⟨v, v3, rfl⟩ := ht
    rcases nf v with ⟨c, _⟩ | ⟨_, d⟩
    · exfalso; omega
    · exact d
