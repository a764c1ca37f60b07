/-! the reference's next token, by the tape -/
/-- a byte as the class has it, and as the reference has it -/
def BR (c v : Int) : Prop := (0 ≤ c ∧ c < 128 ∧ v = c) ∨ (128 ≤ c ∧ c ≤ 255 ∧ v = c - 256)
def TKR (k v s t : Int) : Prop := (k = 0 ∧ s = 0) ∨ (k = 1 ∧ (s = 4 ∨ (s = 3 ∧ t = 44))) ∨ (k = 2 ∧ s = 2 ∧ v = min 10000 t ∧ 0 ≤ t) ∨ (s = 3 ∧ ((k = 3 ∧ t = 60) ∨ (k = 4 ∧ t = 300) ∨ (k = 5 ∧ t = 62) ∨ (k = 6 ∧ t = 301) ∨ (k = 7 ∧ t = 61) ∨ (k = 8 ∧ t = 35) ∨ (k = 9 ∧ t = 43) ∨ (k = 10 ∧ t = 45) ∨ (k = 11 ∧ t = 42) ∨ (k = 12 ∧ t = 47) ∨ (k = 13 ∧ t = 40) ∨ (k = 14 ∧ t = 41) ∨ (k = 15 ∧ t = 59))) ∨ (s = 1 ∧ 0 ≤ t ∧ t ≤ 5 ∧ k = 20 + t) ∨ (s = 1 ∧ 6 ≤ t ∧ t ≤ 13 ∧ k = 26 ∧ v = t - 6)
def hsh (B : Nat → Int) (a : Nat) : Nat → Int
  | 0 => 0
  | n + 1 => 64 * hsh B a n + B (a + n) - 64
def wv (x : Int) : Int := if x = 14555947 then 0 else if x = 13536628 then 1 else if x = 9050347 then 2 else if x = 3058 then 3 else if x = 138148 then 4 else if x = 191476 then 5 else if x = 55390960548 then 6 else if x = 10623788 then 7 else if x = 599743412 then 8 else if x = 13302765 then 9 else if x = 3287609678117 then 10 else if x = 869424179 then 11 else if x = 11728996 then 12 else if x = 14555764 then 13 else -1
theorem hsh_b {B : Nat → Int} {a : Nat} : ∀ n, (∀ j, j < n → 65 ≤ B (a + j) ∧ B (a + j) ≤ 127) → 0 ≤ hsh B a n ∧ hsh B a n + 1 ≤ ((64 ^ n : Nat) : Int) := by
  intro n
  induction n with
  | zero => intro _; exact ⟨Int.le_refl _, by show (0 : Int) + 1 ≤ ((64 ^ 0 : Nat) : Int); decide⟩
  | succ n ih =>
    intro h
    have q := ih (fun j hj => h j (by omega))
    have d := h n (by omega)
    have e : ((64 ^ (n + 1) : Nat) : Int) = ((64 ^ n : Nat) : Int) * 64 := by rw [Nat.pow_succ, Int.natCast_mul]; rfl
    rw [e]
    generalize ((64 ^ n : Nat) : Int) = z at q
    show 0 ≤ 64 * hsh B a n + B (a + n) - 64 ∧ 64 * hsh B a n + B (a + n) - 64 + 1 ≤ z * 64
    omega
theorem hsh_pos {B : Nat → Int} {a n : Nat} (h : ∀ j, j < n + 1 → 65 ≤ B (a + j) ∧ B (a + j) ≤ 127) : 1 ≤ hsh B a (n + 1) := by
  have q := (hsh_b n (fun j hj => h j (by omega))).1
  have d := h n (by omega)
  show 1 ≤ 64 * hsh B a n + B (a + n) - 64
  omega
theorem hsh_inj {B C : Nat → Int} {a s : Nat} : ∀ n n', (∀ j, j < n → 65 ≤ B (a + j) ∧ B (a + j) ≤ 127) → (∀ j, j < n' → 65 ≤ C (s + j) ∧ C (s + j) ≤ 127) → hsh B a n = hsh C s n' → n = n' ∧ ∀ j, j < n → B (a + j) = C (s + j) := by
  intro n
  induction n with
  | zero =>
    intro n' _ h2 e
    cases n' with
    | zero => exact ⟨rfl, fun j hj => absurd hj (Nat.not_lt_zero j)⟩
    | succ n' =>
      have := hsh_pos h2
      have z : hsh B a 0 = 0 := rfl
      omega
  | succ n ih =>
    intro n' h1 h2 e
    cases n' with
    | zero =>
      have := hsh_pos h1
      have z : hsh C s 0 = 0 := rfl
      omega
    | succ n' =>
      have e' : 64 * hsh B a n + B (a + n) - 64 = 64 * hsh C s n' + C (s + n') - 64 := e
      have d1 := h1 n (by omega)
      have d2 := h2 n' (by omega)
      obtain ⟨r1, r2⟩ := ih n' (fun j hj => h1 j (by omega)) (fun j hj => h2 j (by omega)) (by omega)
      subst r1
      refine ⟨rfl, fun j hj => ?_⟩
      by_cases q : j < n
      · exact r2 j q
      · rw [show j = n by omega]; omega
theorem hsh_cg {B C : Nat → Int} {a s : Nat} : ∀ n, (∀ j, j < n → B (a + j) = C (s + j)) → hsh B a n = hsh C s n := by
  intro n
  induction n with
  | zero => intro _; rfl
  | succ n ih =>
    intro h
    show 64 * hsh B a n + B (a + n) - 64 = 64 * hsh C s n + C (s + n) - 64
    rw [ih (fun j hj => h j (by omega)), h n (by omega)]
theorem xw_0 : hsh xCI 0 4 = 14555947 ∧ ∀ j, j < 4 → 65 ≤ xCI (0 + j) ∧ xCI (0 + j) ≤ 127 := by decide +kernel
theorem wd_0 {B : Nat → Int} {a e : Nat} (he : a ≤ e) (hl : ∀ j, j < e - a → 65 ≤ B (a + j) ∧ B (a + j) ≤ 127) : hsh B a (e - a) = 14555947 ↔ isWd B a e 0 4 := by
  constructor
  · intro z
    obtain ⟨r1, r2⟩ := hsh_inj (e - a) 4 hl xw_0.2 (z.trans xw_0.1.symm)
    exact ⟨r1, fun j hj => r2 j (by omega)⟩
  · intro w
    rw [hsh_cg (C := xCI) (s := 0) (e - a) (fun j hj => w.2 j (by have := w.1; omega)), w.1]
    exact xw_0.1
theorem xw_1 : hsh xCI 5 4 = 13536628 ∧ ∀ j, j < 4 → 65 ≤ xCI (5 + j) ∧ xCI (5 + j) ≤ 127 := by decide +kernel
theorem wd_1 {B : Nat → Int} {a e : Nat} (he : a ≤ e) (hl : ∀ j, j < e - a → 65 ≤ B (a + j) ∧ B (a + j) ≤ 127) : hsh B a (e - a) = 13536628 ↔ isWd B a e 5 9 := by
  constructor
  · intro z
    obtain ⟨r1, r2⟩ := hsh_inj (e - a) 4 hl xw_1.2 (z.trans xw_1.1.symm)
    exact ⟨r1, fun j hj => r2 j (by omega)⟩
  · intro w
    rw [hsh_cg (C := xCI) (s := 5) (e - a) (fun j hj => w.2 j (by have := w.1; omega)), w.1]
    exact xw_1.1
theorem xw_2 : hsh xCI 10 4 = 9050347 ∧ ∀ j, j < 4 → 65 ≤ xCI (10 + j) ∧ xCI (10 + j) ≤ 127 := by decide +kernel
theorem wd_2 {B : Nat → Int} {a e : Nat} (he : a ≤ e) (hl : ∀ j, j < e - a → 65 ≤ B (a + j) ∧ B (a + j) ≤ 127) : hsh B a (e - a) = 9050347 ↔ isWd B a e 10 14 := by
  constructor
  · intro z
    obtain ⟨r1, r2⟩ := hsh_inj (e - a) 4 hl xw_2.2 (z.trans xw_2.1.symm)
    exact ⟨r1, fun j hj => r2 j (by omega)⟩
  · intro w
    rw [hsh_cg (C := xCI) (s := 10) (e - a) (fun j hj => w.2 j (by have := w.1; omega)), w.1]
    exact xw_2.1
theorem xw_3 : hsh xCI 15 2 = 3058 ∧ ∀ j, j < 2 → 65 ≤ xCI (15 + j) ∧ xCI (15 + j) ≤ 127 := by decide +kernel
theorem wd_3 {B : Nat → Int} {a e : Nat} (he : a ≤ e) (hl : ∀ j, j < e - a → 65 ≤ B (a + j) ∧ B (a + j) ≤ 127) : hsh B a (e - a) = 3058 ↔ isWd B a e 15 17 := by
  constructor
  · intro z
    obtain ⟨r1, r2⟩ := hsh_inj (e - a) 2 hl xw_3.2 (z.trans xw_3.1.symm)
    exact ⟨r1, fun j hj => r2 j (by omega)⟩
  · intro w
    rw [hsh_cg (C := xCI) (s := 15) (e - a) (fun j hj => w.2 j (by have := w.1; omega)), w.1]
    exact xw_3.1
theorem xw_4 : hsh xCI 18 3 = 138148 ∧ ∀ j, j < 3 → 65 ≤ xCI (18 + j) ∧ xCI (18 + j) ≤ 127 := by decide +kernel
theorem wd_4 {B : Nat → Int} {a e : Nat} (he : a ≤ e) (hl : ∀ j, j < e - a → 65 ≤ B (a + j) ∧ B (a + j) ≤ 127) : hsh B a (e - a) = 138148 ↔ isWd B a e 18 21 := by
  constructor
  · intro z
    obtain ⟨r1, r2⟩ := hsh_inj (e - a) 3 hl xw_4.2 (z.trans xw_4.1.symm)
    exact ⟨r1, fun j hj => r2 j (by omega)⟩
  · intro w
    rw [hsh_cg (C := xCI) (s := 18) (e - a) (fun j hj => w.2 j (by have := w.1; omega)), w.1]
    exact xw_4.1
theorem xw_5 : hsh xCI 22 3 = 191476 ∧ ∀ j, j < 3 → 65 ≤ xCI (22 + j) ∧ xCI (22 + j) ≤ 127 := by decide +kernel
theorem wd_5 {B : Nat → Int} {a e : Nat} (he : a ≤ e) (hl : ∀ j, j < e - a → 65 ≤ B (a + j) ∧ B (a + j) ≤ 127) : hsh B a (e - a) = 191476 ↔ isWd B a e 22 25 := by
  constructor
  · intro z
    obtain ⟨r1, r2⟩ := hsh_inj (e - a) 3 hl xw_5.2 (z.trans xw_5.1.symm)
    exact ⟨r1, fun j hj => r2 j (by omega)⟩
  · intro w
    rw [hsh_cg (C := xCI) (s := 22) (e - a) (fun j hj => w.2 j (by have := w.1; omega)), w.1]
    exact xw_5.1
theorem xw_6 : hsh xCI 26 6 = 55390960548 ∧ ∀ j, j < 6 → 65 ≤ xCI (26 + j) ∧ xCI (26 + j) ≤ 127 := by decide +kernel
theorem wd_6 {B : Nat → Int} {a e : Nat} (he : a ≤ e) (hl : ∀ j, j < e - a → 65 ≤ B (a + j) ∧ B (a + j) ≤ 127) : hsh B a (e - a) = 55390960548 ↔ isWd B a e 26 32 := by
  constructor
  · intro z
    obtain ⟨r1, r2⟩ := hsh_inj (e - a) 6 hl xw_6.2 (z.trans xw_6.1.symm)
    exact ⟨r1, fun j hj => r2 j (by omega)⟩
  · intro w
    rw [hsh_cg (C := xCI) (s := 26) (e - a) (fun j hj => w.2 j (by have := w.1; omega)), w.1]
    exact xw_6.1
theorem xw_7 : hsh xCI 33 4 = 10623788 ∧ ∀ j, j < 4 → 65 ≤ xCI (33 + j) ∧ xCI (33 + j) ≤ 127 := by decide +kernel
theorem wd_7 {B : Nat → Int} {a e : Nat} (he : a ≤ e) (hl : ∀ j, j < e - a → 65 ≤ B (a + j) ∧ B (a + j) ≤ 127) : hsh B a (e - a) = 10623788 ↔ isWd B a e 33 37 := by
  constructor
  · intro z
    obtain ⟨r1, r2⟩ := hsh_inj (e - a) 4 hl xw_7.2 (z.trans xw_7.1.symm)
    exact ⟨r1, fun j hj => r2 j (by omega)⟩
  · intro w
    rw [hsh_cg (C := xCI) (s := 33) (e - a) (fun j hj => w.2 j (by have := w.1; omega)), w.1]
    exact xw_7.1
theorem xw_8 : hsh xCI 38 5 = 599743412 ∧ ∀ j, j < 5 → 65 ≤ xCI (38 + j) ∧ xCI (38 + j) ≤ 127 := by decide +kernel
theorem wd_8 {B : Nat → Int} {a e : Nat} (he : a ≤ e) (hl : ∀ j, j < e - a → 65 ≤ B (a + j) ∧ B (a + j) ≤ 127) : hsh B a (e - a) = 599743412 ↔ isWd B a e 38 43 := by
  constructor
  · intro z
    obtain ⟨r1, r2⟩ := hsh_inj (e - a) 5 hl xw_8.2 (z.trans xw_8.1.symm)
    exact ⟨r1, fun j hj => r2 j (by omega)⟩
  · intro w
    rw [hsh_cg (C := xCI) (s := 38) (e - a) (fun j hj => w.2 j (by have := w.1; omega)), w.1]
    exact xw_8.1
theorem xw_9 : hsh xCI 44 4 = 13302765 ∧ ∀ j, j < 4 → 65 ≤ xCI (44 + j) ∧ xCI (44 + j) ≤ 127 := by decide +kernel
theorem wd_9 {B : Nat → Int} {a e : Nat} (he : a ≤ e) (hl : ∀ j, j < e - a → 65 ≤ B (a + j) ∧ B (a + j) ≤ 127) : hsh B a (e - a) = 13302765 ↔ isWd B a e 44 48 := by
  constructor
  · intro z
    obtain ⟨r1, r2⟩ := hsh_inj (e - a) 4 hl xw_9.2 (z.trans xw_9.1.symm)
    exact ⟨r1, fun j hj => r2 j (by omega)⟩
  · intro w
    rw [hsh_cg (C := xCI) (s := 44) (e - a) (fun j hj => w.2 j (by have := w.1; omega)), w.1]
    exact xw_9.1
theorem xw_10 : hsh xCI 49 7 = 3287609678117 ∧ ∀ j, j < 7 → 65 ≤ xCI (49 + j) ∧ xCI (49 + j) ≤ 127 := by decide +kernel
theorem wd_10 {B : Nat → Int} {a e : Nat} (he : a ≤ e) (hl : ∀ j, j < e - a → 65 ≤ B (a + j) ∧ B (a + j) ≤ 127) : hsh B a (e - a) = 3287609678117 ↔ isWd B a e 49 56 := by
  constructor
  · intro z
    obtain ⟨r1, r2⟩ := hsh_inj (e - a) 7 hl xw_10.2 (z.trans xw_10.1.symm)
    exact ⟨r1, fun j hj => r2 j (by omega)⟩
  · intro w
    rw [hsh_cg (C := xCI) (s := 49) (e - a) (fun j hj => w.2 j (by have := w.1; omega)), w.1]
    exact xw_10.1
theorem xw_11 : hsh xCI 57 5 = 869424179 ∧ ∀ j, j < 5 → 65 ≤ xCI (57 + j) ∧ xCI (57 + j) ≤ 127 := by decide +kernel
theorem wd_11 {B : Nat → Int} {a e : Nat} (he : a ≤ e) (hl : ∀ j, j < e - a → 65 ≤ B (a + j) ∧ B (a + j) ≤ 127) : hsh B a (e - a) = 869424179 ↔ isWd B a e 57 62 := by
  constructor
  · intro z
    obtain ⟨r1, r2⟩ := hsh_inj (e - a) 5 hl xw_11.2 (z.trans xw_11.1.symm)
    exact ⟨r1, fun j hj => r2 j (by omega)⟩
  · intro w
    rw [hsh_cg (C := xCI) (s := 57) (e - a) (fun j hj => w.2 j (by have := w.1; omega)), w.1]
    exact xw_11.1
theorem xw_12 : hsh xCI 63 4 = 11728996 ∧ ∀ j, j < 4 → 65 ≤ xCI (63 + j) ∧ xCI (63 + j) ≤ 127 := by decide +kernel
theorem wd_12 {B : Nat → Int} {a e : Nat} (he : a ≤ e) (hl : ∀ j, j < e - a → 65 ≤ B (a + j) ∧ B (a + j) ≤ 127) : hsh B a (e - a) = 11728996 ↔ isWd B a e 63 67 := by
  constructor
  · intro z
    obtain ⟨r1, r2⟩ := hsh_inj (e - a) 4 hl xw_12.2 (z.trans xw_12.1.symm)
    exact ⟨r1, fun j hj => r2 j (by omega)⟩
  · intro w
    rw [hsh_cg (C := xCI) (s := 63) (e - a) (fun j hj => w.2 j (by have := w.1; omega)), w.1]
    exact xw_12.1
theorem xw_13 : hsh xCI 68 4 = 14555764 ∧ ∀ j, j < 4 → 65 ≤ xCI (68 + j) ∧ xCI (68 + j) ≤ 127 := by decide +kernel
theorem wd_13 {B : Nat → Int} {a e : Nat} (he : a ≤ e) (hl : ∀ j, j < e - a → 65 ≤ B (a + j) ∧ B (a + j) ≤ 127) : hsh B a (e - a) = 14555764 ↔ isWd B a e 68 72 := by
  constructor
  · intro z
    obtain ⟨r1, r2⟩ := hsh_inj (e - a) 4 hl xw_13.2 (z.trans xw_13.1.symm)
    exact ⟨r1, fun j hj => r2 j (by omega)⟩
  · intro w
    rw [hsh_cg (C := xCI) (s := 68) (e - a) (fun j hj => w.2 j (by have := w.1; omega)), w.1]
    exact xw_13.1
theorem wv_wdx {B : Nat → Int} {a e : Nat} (he : a ≤ e) (hl : ∀ j, j < e - a → 65 ≤ B (a + j) ∧ B (a + j) ≤ 127) : (wdx B a e = 14 ∧ wv (hsh B a (e - a)) = -1) ∨ (wdx B a e ≤ 13 ∧ wv (hsh B a (e - a)) = (wdx B a e : Int)) := by
  unfold wdx wv
  by_cases z0 : isWd B a e 0 4
  · rw [if_pos z0, if_pos ((wd_0 he hl).mpr z0)]; exact Or.inr ⟨by decide, rfl⟩
  rw [if_neg z0, if_neg (fun y => z0 ((wd_0 he hl).mp y))]
  by_cases z1 : isWd B a e 5 9
  · rw [if_pos z1, if_pos ((wd_1 he hl).mpr z1)]; exact Or.inr ⟨by decide, rfl⟩
  rw [if_neg z1, if_neg (fun y => z1 ((wd_1 he hl).mp y))]
  by_cases z2 : isWd B a e 10 14
  · rw [if_pos z2, if_pos ((wd_2 he hl).mpr z2)]; exact Or.inr ⟨by decide, rfl⟩
  rw [if_neg z2, if_neg (fun y => z2 ((wd_2 he hl).mp y))]
  by_cases z3 : isWd B a e 15 17
  · rw [if_pos z3, if_pos ((wd_3 he hl).mpr z3)]; exact Or.inr ⟨by decide, rfl⟩
  rw [if_neg z3, if_neg (fun y => z3 ((wd_3 he hl).mp y))]
  by_cases z4 : isWd B a e 18 21
  · rw [if_pos z4, if_pos ((wd_4 he hl).mpr z4)]; exact Or.inr ⟨by decide, rfl⟩
  rw [if_neg z4, if_neg (fun y => z4 ((wd_4 he hl).mp y))]
  by_cases z5 : isWd B a e 22 25
  · rw [if_pos z5, if_pos ((wd_5 he hl).mpr z5)]; exact Or.inr ⟨by decide, rfl⟩
  rw [if_neg z5, if_neg (fun y => z5 ((wd_5 he hl).mp y))]
  by_cases z6 : isWd B a e 26 32
  · rw [if_pos z6, if_pos ((wd_6 he hl).mpr z6)]; exact Or.inr ⟨by decide, rfl⟩
  rw [if_neg z6, if_neg (fun y => z6 ((wd_6 he hl).mp y))]
  by_cases z7 : isWd B a e 33 37
  · rw [if_pos z7, if_pos ((wd_7 he hl).mpr z7)]; exact Or.inr ⟨by decide, rfl⟩
  rw [if_neg z7, if_neg (fun y => z7 ((wd_7 he hl).mp y))]
  by_cases z8 : isWd B a e 38 43
  · rw [if_pos z8, if_pos ((wd_8 he hl).mpr z8)]; exact Or.inr ⟨by decide, rfl⟩
  rw [if_neg z8, if_neg (fun y => z8 ((wd_8 he hl).mp y))]
  by_cases z9 : isWd B a e 44 48
  · rw [if_pos z9, if_pos ((wd_9 he hl).mpr z9)]; exact Or.inr ⟨by decide, rfl⟩
  rw [if_neg z9, if_neg (fun y => z9 ((wd_9 he hl).mp y))]
  by_cases z10 : isWd B a e 49 56
  · rw [if_pos z10, if_pos ((wd_10 he hl).mpr z10)]; exact Or.inr ⟨by decide, rfl⟩
  rw [if_neg z10, if_neg (fun y => z10 ((wd_10 he hl).mp y))]
  by_cases z11 : isWd B a e 57 62
  · rw [if_pos z11, if_pos ((wd_11 he hl).mpr z11)]; exact Or.inr ⟨by decide, rfl⟩
  rw [if_neg z11, if_neg (fun y => z11 ((wd_11 he hl).mp y))]
  by_cases z12 : isWd B a e 63 67
  · rw [if_pos z12, if_pos ((wd_12 he hl).mpr z12)]; exact Or.inr ⟨by decide, rfl⟩
  rw [if_neg z12, if_neg (fun y => z12 ((wd_12 he hl).mp y))]
  by_cases z13 : isWd B a e 68 72
  · rw [if_pos z13, if_pos ((wd_13 he hl).mpr z13)]; exact Or.inr ⟨by decide, rfl⟩
  rw [if_neg z13, if_neg (fun y => z13 ((wd_13 he hl).mp y))]
  exact Or.inl ⟨rfl, rfl⟩
theorem wdx_long {B : Nat → Int} {a e : Nat} (h : 7 < e - a) : wdx B a e = 14 := by
  unfold wdx
  rw [if_neg (fun w => by have := w.1; omega), if_neg (fun w => by have := w.1; omega), if_neg (fun w => by have := w.1; omega), if_neg (fun w => by have := w.1; omega), if_neg (fun w => by have := w.1; omega), if_neg (fun w => by have := w.1; omega), if_neg (fun w => by have := w.1; omega), if_neg (fun w => by have := w.1; omega), if_neg (fun w => by have := w.1; omega), if_neg (fun w => by have := w.1; omega), if_neg (fun w => by have := w.1; omega), if_neg (fun w => by have := w.1; omega), if_neg (fun w => by have := w.1; omega), if_neg (fun w => by have := w.1; omega)]
theorem cmp0 {a b : Int64} (h : (lg_cmp a b).toInt = 0) : a = b := by
  unfold lg_cmp at h
  by_cases q : a > b
  · rw [if_pos q] at h; exact absurd h (by decide)
  · rw [if_neg q] at h
    by_cases z : a = b
    · exact z
    · rw [if_neg z] at h; exact absurd h (by decide)
theorem cmp1 {a b : Int64} (h : ¬ (lg_cmp a b).toInt = 0) : ¬ a.toInt = b.toInt := by
  intro z
  have z' := Int64.toInt_inj.mp z
  subst z'
  apply h
  unfold lg_cmp
  rw [if_neg (fun q => by have := Int64.lt_iff_toInt_lt.mp q; omega), if_pos rfl]
  rfl
theorem wordOf_k (a : Int64) (m : xMem) : vOk (PP m (fun v : Int32 => v.toInt = wv a.toInt)) (fX12_wordOf a m) := by
  have c0 : (0 : Int32).toInt = 0 := rfl
  unfold fX12_wordOf fX12_wordOf_0
  refine vR fun x0 e0 => ?_
  refine vNe (fun g => ?_) (fun g => ?_)
  rotate_left
  · have z : a.toInt = 14555947 := by rw [cmp0 (a := a) (b := 14555947) (by rw [← e0]; exact g)]; rfl
    refine rP ?_
    unfold wv
    rw [if_pos z]
    rfl
  have n0 : ¬ a.toInt = 14555947 := cmp1 (b := 14555947) (by rw [← e0]; exact g)
  refine vR fun x1 e1 => ?_
  refine vNe (fun g => ?_) (fun g => ?_)
  rotate_left
  · have z : a.toInt = 13536628 := by rw [cmp0 (a := a) (b := 13536628) (by rw [← e1]; exact g)]; rfl
    refine rP ?_
    unfold wv
    rw [if_neg n0, if_pos z]
    rfl
  have n1 : ¬ a.toInt = 13536628 := cmp1 (b := 13536628) (by rw [← e1]; exact g)
  refine vR fun x2 e2 => ?_
  refine vNe (fun g => ?_) (fun g => ?_)
  rotate_left
  · have z : a.toInt = 9050347 := by rw [cmp0 (a := a) (b := 9050347) (by rw [← e2]; exact g)]; rfl
    refine rP ?_
    unfold wv
    rw [if_neg n0, if_neg n1, if_pos z]
    rfl
  have n2 : ¬ a.toInt = 9050347 := cmp1 (b := 9050347) (by rw [← e2]; exact g)
  refine vR fun x3 e3 => ?_
  refine vNe (fun g => ?_) (fun g => ?_)
  rotate_left
  · have z : a.toInt = 3058 := by rw [cmp0 (a := a) (b := 3058) (by rw [← e3]; exact g)]; rfl
    refine rP ?_
    unfold wv
    rw [if_neg n0, if_neg n1, if_neg n2, if_pos z]
    rfl
  have n3 : ¬ a.toInt = 3058 := cmp1 (b := 3058) (by rw [← e3]; exact g)
  refine vR fun x4 e4 => ?_
  refine vNe (fun g => ?_) (fun g => ?_)
  rotate_left
  · have z : a.toInt = 138148 := by rw [cmp0 (a := a) (b := 138148) (by rw [← e4]; exact g)]; rfl
    refine rP ?_
    unfold wv
    rw [if_neg n0, if_neg n1, if_neg n2, if_neg n3, if_pos z]
    rfl
  have n4 : ¬ a.toInt = 138148 := cmp1 (b := 138148) (by rw [← e4]; exact g)
  refine vR fun x5 e5 => ?_
  refine vNe (fun g => ?_) (fun g => ?_)
  rotate_left
  · have z : a.toInt = 191476 := by rw [cmp0 (a := a) (b := 191476) (by rw [← e5]; exact g)]; rfl
    refine rP ?_
    unfold wv
    rw [if_neg n0, if_neg n1, if_neg n2, if_neg n3, if_neg n4, if_pos z]
    rfl
  have n5 : ¬ a.toInt = 191476 := cmp1 (b := 191476) (by rw [← e5]; exact g)
  refine vR fun x6 e6 => ?_
  refine vNe (fun g => ?_) (fun g => ?_)
  rotate_left
  · have z : a.toInt = 55390960548 := by rw [cmp0 (a := a) (b := 55390960548) (by rw [← e6]; exact g)]; rfl
    refine rP ?_
    unfold wv
    rw [if_neg n0, if_neg n1, if_neg n2, if_neg n3, if_neg n4, if_neg n5, if_pos z]
    rfl
  have n6 : ¬ a.toInt = 55390960548 := cmp1 (b := 55390960548) (by rw [← e6]; exact g)
  refine vR fun x7 e7 => ?_
  refine vNe (fun g => ?_) (fun g => ?_)
  rotate_left
  · have z : a.toInt = 10623788 := by rw [cmp0 (a := a) (b := 10623788) (by rw [← e7]; exact g)]; rfl
    refine rP ?_
    unfold wv
    rw [if_neg n0, if_neg n1, if_neg n2, if_neg n3, if_neg n4, if_neg n5, if_neg n6, if_pos z]
    rfl
  have n7 : ¬ a.toInt = 10623788 := cmp1 (b := 10623788) (by rw [← e7]; exact g)
  refine vR fun x8 e8 => ?_
  refine vNe (fun g => ?_) (fun g => ?_)
  rotate_left
  · have z : a.toInt = 599743412 := by rw [cmp0 (a := a) (b := 599743412) (by rw [← e8]; exact g)]; rfl
    refine rP ?_
    unfold wv
    rw [if_neg n0, if_neg n1, if_neg n2, if_neg n3, if_neg n4, if_neg n5, if_neg n6, if_neg n7, if_pos z]
    rfl
  have n8 : ¬ a.toInt = 599743412 := cmp1 (b := 599743412) (by rw [← e8]; exact g)
  refine vR fun x9 e9 => ?_
  refine vNe (fun g => ?_) (fun g => ?_)
  rotate_left
  · have z : a.toInt = 13302765 := by rw [cmp0 (a := a) (b := 13302765) (by rw [← e9]; exact g)]; rfl
    refine rP ?_
    unfold wv
    rw [if_neg n0, if_neg n1, if_neg n2, if_neg n3, if_neg n4, if_neg n5, if_neg n6, if_neg n7, if_neg n8, if_pos z]
    rfl
  have n9 : ¬ a.toInt = 13302765 := cmp1 (b := 13302765) (by rw [← e9]; exact g)
  refine vR fun x10 e10 => ?_
  refine vNe (fun g => ?_) (fun g => ?_)
  rotate_left
  · have z : a.toInt = 3287609678117 := by rw [cmp0 (a := a) (b := 3287609678117) (by rw [← e10]; exact g)]; rfl
    refine rP ?_
    unfold wv
    rw [if_neg n0, if_neg n1, if_neg n2, if_neg n3, if_neg n4, if_neg n5, if_neg n6, if_neg n7, if_neg n8, if_neg n9, if_pos z]
    rfl
  have n10 : ¬ a.toInt = 3287609678117 := cmp1 (b := 3287609678117) (by rw [← e10]; exact g)
  refine vR fun x11 e11 => ?_
  refine vNe (fun g => ?_) (fun g => ?_)
  rotate_left
  · have z : a.toInt = 869424179 := by rw [cmp0 (a := a) (b := 869424179) (by rw [← e11]; exact g)]; rfl
    refine rP ?_
    unfold wv
    rw [if_neg n0, if_neg n1, if_neg n2, if_neg n3, if_neg n4, if_neg n5, if_neg n6, if_neg n7, if_neg n8, if_neg n9, if_neg n10, if_pos z]
    rfl
  have n11 : ¬ a.toInt = 869424179 := cmp1 (b := 869424179) (by rw [← e11]; exact g)
  refine vR fun x12 e12 => ?_
  refine vNe (fun g => ?_) (fun g => ?_)
  rotate_left
  · have z : a.toInt = 11728996 := by rw [cmp0 (a := a) (b := 11728996) (by rw [← e12]; exact g)]; rfl
    refine rP ?_
    unfold wv
    rw [if_neg n0, if_neg n1, if_neg n2, if_neg n3, if_neg n4, if_neg n5, if_neg n6, if_neg n7, if_neg n8, if_neg n9, if_neg n10, if_neg n11, if_pos z]
    rfl
  have n12 : ¬ a.toInt = 11728996 := cmp1 (b := 11728996) (by rw [← e12]; exact g)
  refine vR fun x13 e13 => ?_
  refine vNe (fun g => ?_) (fun g => ?_)
  rotate_left
  · have z : a.toInt = 14555764 := by rw [cmp0 (a := a) (b := 14555764) (by rw [← e13]; exact g)]; rfl
    refine rP ?_
    unfold wv
    rw [if_neg n0, if_neg n1, if_neg n2, if_neg n3, if_neg n4, if_neg n5, if_neg n6, if_neg n7, if_neg n8, if_neg n9, if_neg n10, if_neg n11, if_neg n12, if_pos z]
    rfl
  have n13 : ¬ a.toInt = 14555764 := cmp1 (b := 14555764) (by rw [← e13]; exact g)
  refine rP ?_
  unfold wv
  rw [if_neg n0, if_neg n1, if_neg n2, if_neg n3, if_neg n4, if_neg n5, if_neg n6, if_neg n7, if_neg n8, if_neg n9, if_neg n10, if_neg n11, if_neg n12, if_neg n13]
  rfl
section
variable {B : Nat → Int} {L : Nat} {m0 : xMem}
/-- the tape lies there -/
def TB0 (B : Nat → Int) (L : Nat) (m0 : xMem) : Prop := (m0.1 291 12).toInt = (L : Int) ∧ L ≤ 300 ∧ ∀ j, j < L → BR (B j) (m0.1 295 j).toInt
/-- the token that begins at q is the one ahead -/
def NQ (B : Nat → Int) (L : Nat) (m0 : xMem) (q : Nat) (m1 : xMem) : Prop := NF m0 m1 ∧ (m1.1 291 14).toInt = (q : Int) ∧ (m1.1 291 13).toInt = ((if q < L then tkE B L q else L : Nat) : Int) ∧ TKR (if q < L then tkK B L q else 0) (if q < L then tkV B L q else 0) (m1.1 291 15).toInt (m1.1 291 16).toInt
theorem BR_lt {c v : Int} {x : Int32} (h : BR c v) (hx : x.toInt = v) : (isLt x = 1 ∧ isLt' c = true ∧ v = c ∧ 65 ≤ c ∧ c ≤ 127) ∨ (isLt x = 0 ∧ isLt' c = false) := by
  unfold BR at h
  rcases isLt_b x with ⟨a, b⟩ | ⟨a, b⟩
  · have b' : (97 ≤ x.toInt ∧ x.toInt ≤ 122) ∨ (65 ≤ x.toInt ∧ x.toInt ≤ 90) := of_decide_eq_true b
    refine Or.inl ⟨a, ?_, by omega, by omega, by omega⟩
    exact decide_eq_true (by omega)
  · have b' : ¬ ((97 ≤ x.toInt ∧ x.toInt ≤ 122) ∨ (65 ≤ x.toInt ∧ x.toInt ≤ 90)) := of_decide_eq_false b
    exact Or.inr ⟨a, decide_eq_false (by omega)⟩
theorem nq205 {m : xMem} {tok a s v : Int32} {q : Nat} (h : NS m0 m tok a) (ht : tok.toInt = (q : Int)) (hw : m.1 291 16 = v) (ha : a.toInt = ((if q < L then tkE B L q else L : Nat) : Int)) (hk : TKR (if q < L then tkK B L q else 0) (if q < L then tkV B L q else 0) s.toInt v.toInt) : vOk (NQ B L m0 q) (fX12_next_205 291 291 s m) := by
  unfold fX12_next_205 fX12_next_439
  refine vR fun m1 e1 => ?_
  have h1 : NS m0 m1 tok a := by rw [e1]; exact NS_o h (by omega)
  refine vOk_some ⟨h1.1, by rw [h1.2.2]; exact ht, by rw [h1.2.1]; exact ha, ?_⟩
  rw [show m1.1 291 15 = s by rw [e1]; exact xP_eq.symm, show m1.1 291 16 = v by rw [e1]; exact (xP_sl (by omega)).symm.trans hw]
  exact hk
theorem nq189 {m : xMem} {tok a v : Int32} {q : Nat} (h : NS m0 m tok a) (ht : tok.toInt = (q : Int)) (ha : a.toInt = ((if q < L then tkE B L q else L : Nat) : Int)) (hv : -1 ≤ v.toInt ∧ v.toInt ≤ 13) (hk : if 0 ≤ v.toInt then TKR (if q < L then tkK B L q else 0) (if q < L then tkV B L q else 0) 1 v.toInt else (if q < L then tkK B L q else 0) = 1) : vOk (NQ B L m0 q) (fX12_next_189 291 291 v m) := by
  have c0 : (0 : Int32).toInt = 0 := rfl
  unfold fX12_next_189
  refine vR fun m1 e1 => ?_
  have h1 : NS m0 m1 tok a := by rw [e1]; exact NS_o h (by omega)
  have w1 : m1.1 291 16 = v := by rw [e1]; exact xP_eq.symm
  refine vAl w1.symm ?_
  refine vLe (fun g => ?_) (fun g => ?_)
  · rw [if_pos (by omega)] at hk
    exact nq205 h1 ht w1 ha hk
  · rw [if_neg (by omega)] at hk
    exact nq205 h1 ht w1 ha (Or.inr (Or.inl ⟨hk, Or.inl rfl⟩))
theorem nq99 (hb : TB0 B L m0) {tok : Int32} {q : Nat} (hq : q < L) (ht : tok.toInt = (q : Int)) (hlq : isLt' (B q) = true) : ∀ (fuel : Nat) (l2 : Int64) (l4 a : Int32) (m : xMem) (n : Nat), NS m0 m tok a → a.toInt = ((q + n : Nat) : Int) → q + n ≤ L → l4.toInt = (n : Int) → (∀ j, j < n → isLt' (B (q + j)) = true ∧ 65 ≤ B (q + j) ∧ B (q + j) ≤ 127) → (n ≤ 8 → l2.toInt = hsh B q n) → (1 ≤ n → run B L isLt' (q + 1) = run B L isLt' (q + n)) → L - (q + n) < fuel → vOk (NQ B L m0 q) (fX12_next_99 291 fuel l2 l4 m) := by
  have c1 : (1 : Int32).toInt = 1 := rfl
  have c7 : (7 : Int32).toInt = 7 := rfl
  have c8 : (8 : Int32).toInt = 8 := rfl
  have cm : (-1 : Int32).toInt = -1 := rfl
  obtain ⟨h12, hL, hB⟩ := hb
  intro fuel
  induction fuel with
  | zero => intro l2 l4 a m n _ _ _ _ _ _ _ hmu; exact absurd hmu (Nat.not_lt_zero _)
  | succ fuel ih =>
    intro l2 l4 a m n h ha hn h4 hl h2 hr hmu
    have stop : 1 ≤ n → ¬ (q + n < L ∧ isLt' (B (q + n)) = true) → vOk (NQ B L m0 q) (fX12_next_173 291 l2 l4 m) := by
      intro n1 z
      have e1 : run B L isLt' (q + 1) = q + n := by rw [hr n1, run_0 z]
      have eE : tkE B L q = q + n := by unfold tkE; rw [if_pos hlq, e1]
      have eK : tkK B L q = if wdx B q (q + n) = 14 then 1 else min (20 + (wdx B q (q + n) : Int)) 26 := by unfold tkK; rw [if_pos hlq, e1]
      have eV : tkV B L q = if wdx B q (q + n) = 14 then 0 else (wdx B q (q + n) : Int) - 6 := by unfold tkV; rw [if_pos hlq, e1]
      have ha' : a.toInt = ((if q < L then tkE B L q else L : Nat) : Int) := by rw [if_pos hq, eE]; exact ha
      unfold fX12_next_173
      refine vLe (fun g => ?_) (fun g => ?_)
      · refine vBindP (wordOf_k l2 m) fun v _ hv => ?_
        dsimp only
        have W := wv_wdx (B := B) (a := q) (e := q + n) (by omega) (fun j hj => (hl j (by omega)).2)
        rw [show q + n - q = n by omega, ← h2 (by omega), ← hv] at W
        rcases W with ⟨w1, w2⟩ | ⟨w1, w2⟩
        · refine nq189 h ht ha' (by omega) ?_
          rw [if_neg (by omega), if_pos hq, eK, if_pos w1]
        · refine nq189 h ht ha' (by omega) ?_
          rw [if_pos (by omega), if_pos hq, if_pos hq, eK, eV, if_neg (by omega), if_neg (by omega)]
          by_cases y : v.toInt ≤ 5
          · exact Or.inr (Or.inr (Or.inr (Or.inr (Or.inl ⟨rfl, by omega, y, by omega⟩))))
          · exact Or.inr (Or.inr (Or.inr (Or.inr (Or.inr ⟨rfl, by omega, by omega, by omega, by omega⟩))))
      · refine nq189 h ht ha' (by omega) ?_
        rw [if_neg (by omega), if_pos hq, eK, if_pos (wdx_long (by omega))]
    have step : q + n < L → isLt' (B (q + n)) = true → (65 ≤ B (q + n) ∧ B (q + n) ≤ 127) → ∀ s0 : Int64, (n < 8 → s0.toInt = hsh B q (n + 1)) → vOk (NQ B L m0 q) (fX12_next_156 291 (fX12_next_99 291 fuel) l4 s0 m) := by
      intro y1 y2 y3 s0 ys
      unfold fX12_next_156
      refine vA (by omega) fun x1 e1 f1 => ?_
      refine vAl h.2.1.symm ?_
      refine vA (by omega) fun x3 e3 f3 => ?_
      refine vR fun m4 e4 => ?_
      have h4' : NS m0 m4 tok x3 := by rw [e4]; exact NS_at h
      refine ih s0 x1 x3 m4 (n + 1) h4' (by omega) (by omega) (by omega) (fun j hj => ?_) (fun z => ys (by omega)) (fun _ => ?_) (by omega)
      · by_cases w : j < n
        · exact hl j w
        · rw [show j = n by omega]; exact ⟨y2, y3⟩
      · by_cases w : n = 0
        · rw [w]
        · rw [hr (by omega), run_s (a := q + n) y1 y2, Nat.add_assoc]
    rw [fX12_next_99]
    refine vAl h.2.1.symm ?_
    refine vAl h.L ?_
    refine vLe (fun g => ?_) (fun g => ?_)
    · exact stop (by omega) (fun z => by omega)
    · refine vAl h.2.1.symm ?_
      refine vIn (by omega) (by omega) fun _ => ?_
      rw [wN ha]
      refine vAl (x := m0.1 295 (q + n)) (h.tp _).symm ?_
      refine vAlB (isLetter_e _ _) ?_
      dsimp only
      rcases BR_lt (hB (q + n) (by omega)) rfl with ⟨z1, z2, z3, z4⟩ | ⟨z1, z2⟩
      · rw [z1, if_neg (show ¬ (1 : Int32) = 0 by decide)]
        refine vLe (fun g2 => step (by omega) z2 z4 l2 (fun y => by omega)) (fun g2 => ?_)
        refine vR fun x10 e10 => ?_
        refine vAl h.2.1.symm ?_
        refine vIn (by omega) (by omega) fun _ => ?_
        rw [wN ha]
        refine vAl (x := m0.1 295 (q + n)) (h.tp _).symm ?_
        refine vR fun x14 e14 => ?_
        refine vR fun x15 e15 => ?_
        refine vR fun x16 e16 => ?_
        refine step (by omega) z2 z4 x16 (fun y => ?_)
        have hh := h2 (by omega)
        have hb' := hsh_b (B := B) (a := q) n (fun j hj => (hl j hj).2)
        have pw : ((64 ^ n : Nat) : Int) ≤ 4398046511104 := Int.ofNat_le.mpr (Nat.le_trans (Nat.pow_le_pow_right (by decide) (show n ≤ 7 by omega)) (by decide))
        have t64 : (64 : Int64).toInt = 64 := rfl
        have t14 : x14.toInt = B (q + n) := by rw [e14, Int32.toInt_toInt64]; exact z3
        have t10 : x10.toInt = 64 * hsh B q n := by
          rw [e10, Int64.toInt_mul, t64, hh]
          exact Int.bmod_eq_of_le (by omega) (by omega)
        have t15 : x15.toInt = 64 * hsh B q n + B (q + n) := by
          rw [e15, Int64.toInt_add, t10, t14]
          exact Int.bmod_eq_of_le (by omega) (by omega)
        rw [e16, Int64.toInt_sub, t15, t64]
        exact Int.bmod_eq_of_le (by omega) (by omega)
      · rw [z1, if_pos rfl]
        by_cases w : n = 0
        · rw [w] at z2
          rw [show q + 0 = q from rfl, hlq] at z2
          exact absurd z2 (by decide)
        · exact stop (by omega) (fun y => by rw [z2] at y; exact absurd y.2 (by decide))
theorem nq232 (hb : TB0 B L m0) {tok : Int32} {q : Nat} (hq : q < L) (ht : tok.toInt = (q : Int)) (hnl : isLt' (B q) = false) (hdq : isDg' (B q) = true) : ∀ (fuel : Nat) (a w : Int32) (m : xMem) (n : Nat), NS m0 m tok a → m.1 291 15 = 2 → m.1 291 16 = w → a.toInt = ((q + n : Nat) : Int) → q + n ≤ L → (0 ≤ w.toInt ∧ w.toInt ≤ 1000000) → num B L (q + n) (min 10000 w.toInt) = num B L q 0 → (1 ≤ n → run B L isDg' (q + 1) = run B L isDg' (q + n)) → L - (q + n) < fuel → vOk (NQ B L m0 q) (fX12_next_232 291 fuel m) := by
  have c1 : (1 : Int32).toInt = 1 := rfl
  have c2 : (2 : Int32).toInt = 2 := rfl
  have c10 : (10 : Int32).toInt = 10 := rfl
  have c48 : (48 : Int32).toInt = 48 := rfl
  have c57 : (57 : Int32).toInt = 57 := rfl
  have c99999 : (99999 : Int32).toInt = 99999 := rfl
  obtain ⟨h12, hL, hB⟩ := hb
  intro fuel
  induction fuel with
  | zero => intro a w m n _ _ _ _ _ _ _ _ hmu; exact absurd hmu (Nat.not_lt_zero _)
  | succ fuel ih =>
    intro a w m n h hs hw ha hn hwb hN hr hmu
    have stop : 1 ≤ n → ¬ (q + n < L ∧ isDg' (B (q + n)) = true) → vOk (NQ B L m0 q) (fX12_next_439 291 m) := by
      intro n1 z
      have e1 : run B L isDg' (q + 1) = q + n := by rw [hr n1, run_0 z]
      have eE : tkE B L q = q + n := by unfold tkE; rw [if_neg (by rw [hnl]; decide), if_pos hdq, e1]
      have eK : tkK B L q = 2 := by unfold tkK; rw [if_neg (by rw [hnl]; decide), if_pos hdq]
      have eV : tkV B L q = min 10000 w.toInt := by
        unfold tkV
        rw [if_neg (by rw [hnl]; decide), if_pos hdq, ← hN, num_0 z]
      unfold fX12_next_439
      refine vOk_some ⟨h.1, by rw [h.2.2]; exact ht, by rw [h.2.1, if_pos hq, eE]; exact ha, ?_⟩
      rw [if_pos hq, if_pos hq, eK, eV, hs, hw]
      exact Or.inr (Or.inr (Or.inl ⟨rfl, rfl, rfl, hwb.1⟩))
    have step : q + n < L → isDg' (B (q + n)) = true → ∀ s1 : Int32, (0 ≤ s1.toInt ∧ s1.toInt ≤ 1000000) → min 10000 s1.toInt = min 10000 (min 10000 w.toInt * 10 + B (q + n) - 48) → vOk (NQ B L m0 q) (fX12_next_299 291 (fX12_next_232 291 fuel) 291 s1 m) := by
      intro y1 y2 s1 ys ye
      unfold fX12_next_299
      refine vR fun m1 e1 => ?_
      have h1 : NS m0 m1 tok a := by rw [e1]; exact NS_o h (by omega)
      refine vAl h1.2.1.symm ?_
      refine vA (by omega) fun x3 e3 f3 => ?_
      refine vR fun m4 e4 => ?_
      have h4 : NS m0 m4 tok x3 := by rw [e4]; exact NS_at h1
      refine ih x3 s1 m4 (n + 1) h4 (by rw [e4, ← xP_sl (by omega), e1, ← xP_sl (by omega)]; exact hs) (by rw [e4, ← xP_sl (by omega), e1]; exact xP_eq.symm) (by omega) (by omega) ys ?_ (fun _ => ?_) (by omega)
      · rw [ye, ← hN, num_s (a := q + n) y1 y2]
        rfl
      · by_cases z : n = 0
        · rw [z]
        · rw [hr (by omega), run_s (a := q + n) y1 y2, Nat.add_assoc]
    rw [fX12_next_232]
    refine vAl h.2.1.symm ?_
    refine vAl h.L ?_
    refine vLe (fun g => ?_) (fun g => ?_)
    · exact stop (by omega) (fun z => by omega)
    · refine vAl h.2.1.symm ?_
      refine vIn (by omega) (by omega) fun _ => ?_
      rw [wN ha]
      refine vAl (x := m0.1 295 (q + n)) (h.tp _).symm ?_
      refine vAlB (in_e _ _ _ _) ?_
      dsimp only
      have br := hB (q + n) (by omega)
      unfold BR at br
      by_cases g2 : 48 ≤ (m0.1 295 (q + n)).toInt ∧ (m0.1 295 (q + n)).toInt ≤ 57
      · have dg : isDg' (B (q + n)) = true := decide_eq_true (by omega)
        have ve : (m0.1 295 (q + n)).toInt = B (q + n) := by omega
        rw [wi_1 (by omega), if_neg (show ¬ (1 : Int32) = 0 by decide)]
        refine vAl hw.symm ?_
        refine vLe (fun g3 => ?_) (fun g3 => ?_)
        · refine vAl hw.symm ?_
          refine vM (v := 10 * w.toInt) (by rw [c10]) (by omega) fun x12 e12 f12 => ?_
          refine vAl h.2.1.symm ?_
          refine vIn (by omega) (by omega) fun _ => ?_
          rw [wN ha]
          refine vAl (x := m0.1 295 (q + n)) (h.tp _).symm ?_
          refine vA (by omega) fun x16 e16 f16 => ?_
          refine vS (by omega) fun x17 e17 f17 => ?_
          exact step (by omega) dg x17 (by omega) (by omega)
        · refine vAl hw.symm ?_
          exact step (by omega) dg w hwb (by omega)
      · rw [wi_0 (by omega), if_pos rfl]
        have dg : isDg' (B (q + n)) = false := decide_eq_false (by omega)
        by_cases z : n = 0
        · rw [z] at dg
          rw [show q + 0 = q from rfl, hdq] at dg
          exact absurd dg (by decide)
        · exact stop (by omega) (fun y => by rw [dg] at y; exact absurd y.2 (by decide))
end
