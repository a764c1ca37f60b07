/-! ORDER on the two machines -/
section
variable (g : Nat → Int32)
def moN (i : Nat) : Nat := (g (1523 + 4 * i)).toNatClampNeg
def abN (i k : Nat) : Bool := decide ((g (1522 + 4 * i)).toInt < (g (1520 + 4 * i)).toInt + (g (1521 + 4 * i)).toInt * (k : Int))
def uN (i : Nat) : Nat → Nat
  | 0 => 0
  | a + 1 => uN i a + (if abN g i a = true then 1 else 0)
def fiN (S : Nat) : Nat → Nat
  | 0 => 0
  | k + 1 => fiN S k + (if S.testBit k = true then moN g k else 0)
def fiS (S : Nat) : Nat := fiN g S 6
def cM (n : Nat) : Nat → Nat → Nat := cS n (uN g) (moN g) (fiS g)
def FM (n S : Nat) : Nat := Fm n (cM g n) (fr S n) S
end
section
variable {g : Nat → Int32} {n : Nat}
theorem uN_s {i a : Nat} : uN g i a ≤ uN g i (a + 1) ∧ uN g i (a + 1) ≤ uN g i a + 1 := by
  have e : uN g i (a + 1) = uN g i a + (if abN g i a = true then 1 else 0) := rfl
  by_cases q : abN g i a = true
  · rw [if_pos q] at e; omega
  · rw [if_neg q] at e; omega
theorem uN_d {i a : Nat} : ∀ d, uN g i a ≤ uN g i (a + d) ∧ uN g i (a + d) ≤ uN g i a + d := by
  intro d
  induction d with
  | zero => exact ⟨Nat.le_refl _, Nat.le_refl _⟩
  | succ d ih =>
    have q := uN_s (g := g) (i := i) (a := a + d)
    rw [show a + (d + 1) = a + d + 1 from rfl]
    omega
theorem uN_mono : ∀ i a b, a ≤ b → uN g i a ≤ uN g i b := by
  intro i a b h
  have q := uN_d (g := g) (i := i) (a := a) (b - a)
  rw [show a + (b - a) = b by omega] at q
  exact q.1
theorem fiN_ad {S b : Nat} (hb : S.testBit b = false) : ∀ k, fiN g (adS S b) k = fiN g S k + (if b < k then moN g b else 0) := by
  intro k
  induction k with
  | zero => rfl
  | succ k ih =>
    show fiN g (adS S b) k + (if (adS S b).testBit k = true then moN g k else 0) = fiN g S k + (if S.testBit k = true then moN g k else 0) + _
    rw [adS_bit, ih]
    by_cases w : b = k
    · subst w
      rw [hb, Bool.false_or, decide_eq_true rfl, if_pos rfl, if_neg (Nat.lt_irrefl b), if_neg (by decide), if_pos (Nat.lt_succ_self b)]
    · rw [decide_eq_false w, Bool.or_false]
      by_cases y : b < k
      · rw [if_pos y, if_pos (show b < k + 1 by omega)]
        omega
      · rw [if_neg y, if_neg (show ¬ b < k + 1 by omega)]
        omega
theorem fiS_ad {S b : Nat} (hb : S.testBit b = false) (h6 : b < 6) : fiS g (adS S b) = fiS g S + moN g b := by
  unfold fiS
  rw [fiN_ad hb, if_pos h6]
theorem fiN_0 : ∀ k, fiN g 0 k = 0 := by
  intro k
  induction k with
  | zero => rfl
  | succ k ih =>
    show fiN g 0 k + (if (0 : Nat).testBit k = true then moN g k else 0) = 0
    rw [ih, Nat.zero_testBit, if_neg (by decide)]
theorem sF_le {S : Nat} {f : Nat → Nat} {c : Nat} (h : ∀ i, f i ≤ c) : ∀ m, sF S f m ≤ c * m := by
  intro m
  induction m with
  | zero => exact Nat.zero_le _
  | succ m ih =>
    show sF S f m + (if S.testBit m then 0 else f m) ≤ _
    have q := h m
    rw [Nat.mul_succ]
    by_cases z : S.testBit m = true
    · rw [if_pos z]; omega
    · rw [if_neg z]; omega
/-- what may stand in the rows of mends -/
def mdOk (g : Nat → Int32) (n : Nat) : Prop := n ≤ 6 ∧ ∀ i, i < n → mOk g i
theorem moN_b (h : mdOk g n) {i : Nat} (hi : i < n) : 1 ≤ moN g i ∧ moN g i ≤ 9 ∧ (g (1523 + 4 * i)).toInt = (moN g i : Int) := by
  have q := (h.2 i hi).2.2.2
  have e : (g (1523 + 4 * i)).toNatClampNeg = (g (1523 + 4 * i)).toInt.toNat := rfl
  unfold moN
  omega
theorem cM_b (h : mdOk g n) {S b : Nat} (hb : b < n) : cM g n S b ≤ 54 := by
  have m := moN_b h hb
  have q := sF_le (S := adS S b) (f := fun i => uN g i (fiS g S + moN g b) - uN g i (fiS g S)) (c := 9) (fun i => by
    have d := uN_d (g := g) (i := i) (a := fiS g S) (moN g b)
    show uN g i (fiS g S + moN g b) - uN g i (fiS g S) ≤ 9
    omega) n
  have n6 := h.1
  unfold cM cS
  omega
theorem Fm_b (h : mdOk g n) : ∀ k S, Fm n (cM g n) k S ≤ 54 * k := by
  intro k
  induction k with
  | zero => intro S; exact Nat.zero_le _
  | succ k ih =>
    intro S
    have sp := lwm_spec (fun b => !S.testBit b) (fun b => cM g n S b + Fm n (cM g n) k (adS S b)) n
    unfold Fm
    cases e : lwm (fun b => !S.testBit b) (fun b => cM g n S b + Fm n (cM g n) k (adS S b)) n with
    | none => exact Nat.zero_le _
    | some bv =>
      obtain ⟨b, v⟩ := bv
      rw [e] at sp
      dsimp only at sp ⊢
      have a := cM_b h (S := S) sp.1
      have c := ih (adS S b)
      omega
theorem fr_le (S : Nat) : ∀ m, fr S m ≤ m := by
  intro m
  induction m with
  | zero => exact Nat.le_refl _
  | succ m ih =>
    show fr S m + (if S.testBit m then 0 else 1) ≤ _
    by_cases z : S.testBit m = true
    · rw [if_pos z]; omega
    · rw [if_neg z]; omega
theorem fr_0 : ∀ m, fr 0 m = m := by
  intro m
  induction m with
  | zero => rfl
  | succ m ih =>
    show fr 0 m + (if (0 : Nat).testBit m then 0 else 1) = _
    rw [ih, Nat.zero_testBit, if_neg (by decide)]
theorem FM_b (h : mdOk g n) (S : Nat) : FM g n S ≤ 324 := by
  have a := Fm_b h (fr S n) S
  have b := fr_le S n
  have c := h.1
  unfold FM
  omega
theorem bit_lt {S i : Nat} (hS : S < 2 ^ n) (hi : S.testBit i = true) : i < n := by
  by_cases q : i < n
  · exact q
  · have l : S < 2 ^ i := Nat.lt_of_lt_of_le hS (Nat.pow_le_pow_right (by decide) (by omega))
    rw [Nat.testBit_lt_two_pow l] at hi
    cases hi
theorem adS_lt {S b : Nat} (hS : S < 2 ^ n) (hb : b < n) : adS S b < 2 ^ n := by
  unfold adS
  refine Nat.or_lt_two_pow hS ?_
  rw [Nat.one_shiftLeft]
  exact Nat.pow_lt_pow_right (by decide) hb
theorem two6 (hn : n ≤ 6) : 2 ^ n ≤ 64 := Nat.pow_le_pow_right (by decide) hn
theorem fiN_b (h : mdOk g n) {S : Nat} (hS : S < 2 ^ n) : ∀ k, fiN g S k ≤ 9 * k := by
  intro k
  induction k with
  | zero => exact Nat.le_refl _
  | succ k ih =>
    show fiN g S k + (if S.testBit k = true then moN g k else 0) ≤ _
    by_cases z : S.testBit k = true
    · have q := moN_b h (bit_lt hS z)
      rw [if_pos z]; omega
    · rw [if_neg z]; omega
theorem i32N {x : Int32} {k : Nat} (h : x.toInt = (k : Int)) (hk : k < 2000) : x = Int32.ofNat k := Int32.toInt_inj.mp (h.trans (Int32.toInt_ofNat_of_lt (by omega)).symm)
theorem bit_I : ∀ S, S < 64 → ∀ i, i < 6 → ((Int32.ofNat S >>> (Int32.ofNat i &&& 31)) &&& 1) = (if S.testBit i = true then 1 else 0) := by decide +kernel
theorem bit_J : ∀ S, S < 64 → ∀ i, i < 6 → (Int32.ofNat S ||| ((1 : Int32) <<< (Int32.ofNat i &&& 31))) = Int32.ofNat (adS S i) := by decide +kernel
theorem bit_K : ∀ S, S < 64 → ∀ i, i < 6 → S.testBit i = false → S < adS S i := by decide +kernel
theorem bit_L : ∀ i, i ≤ 6 → ((1 : Int32) <<< (Int32.ofNat i &&& 31)) = Int32.ofNat (2 ^ i) := by decide +kernel
end
/-! the class -/
section
variable {m : xMem} {g : Nat → Int32} {n : Nat} {a1 a2 : Int32} {P : Int32 × xMem → Prop}
def MH (m : xMem) (g : Nat → Int32) (n : Nat) : Prop := mdOk g n ∧ (m.1 8 5).toInt = (n : Int) ∧ ∀ i, i < n → m.1 9 i = g (1520 + 4 * i) ∧ m.1 10 i = g (1521 + 4 * i) ∧ m.1 11 i = g (1522 + 4 * i) ∧ m.1 12 i = g (1523 + 4 * i)
theorem cb107 {rec87 : Int32 → Int32 → Int32 → Int32 → xMem → Option (Int32 × xMem)} {l3 l4 l6 : Int32} {B F b i : Nat} {C0 : Int} (h : MH m g n) (hb : b < n) (hi : i < n) (h2 : a2.toInt = (b : Int)) (hB : B < 64) (h3 : l3.toInt = (B : Int)) (hF : F ≤ 54) (h4 : l4.toInt = (F : Int)) (h6 : l6.toInt = (i : Int)) (hC : 0 ≤ C0 ∧ C0 ≤ 1000) (hk : ∀ x5 x6 : Int32, x5.toInt = C0 + (if B.testBit i = true then 0 else (uN g i (F + moN g b) : Int) - (uN g i F : Int)) → x6.toInt = (i : Int) + 1 → vOk P (rec87 l3 l4 x5 x6 m)) : ∀ (e d fuel : Nat) (l5 l7 : Int32), d + e = moN g b → e < fuel → l7.toInt = (F : Int) + (d : Int) → l5.toInt = C0 + (if B.testBit i = true then 0 else (uN g i (F + d) : Int) - (uN g i F : Int)) → vOk P (fX5_countBy_107 8 a1 a2 rec87 fuel l3 l4 l5 l6 l7 m) := by
  have c0 : (0 : Int32).toInt = 0 := rfl
  have c1 : (1 : Int32).toInt = 1 := rfl
  have n6 := h.1.1
  obtain ⟨w1, w2, w3, w4⟩ := h.2.2 i hi
  obtain ⟨v1, v2, v3, v4⟩ := h.2.2 b hb
  have mb := moN_b h.1 hb
  obtain ⟨o1, o2, o3, o4⟩ := h.1.2 i hi
  have wb : a2.toNatClampNeg = b := wN h2
  have wi' : l6.toNatClampNeg = i := wN h6
  have e3 := i32N h3 (by omega)
  have e6 := i32N h6 (by omega)
  intro e
  induction e with
  | zero =>
    intro d fuel l5 l7 hde hfu h7 h5
    obtain ⟨fu, rfl⟩ : ∃ q, fuel = q + 1 := ⟨fuel - 1, by omega⟩
    have ed : d = moN g b := by omega
    subst ed
    rw [fX5_countBy_107]
    refine vIn (by omega) (by omega) fun _ => ?_
    rw [wb]
    refine vAl (x := g (1523 + 4 * b)) v4.symm ?_
    refine vA (by omega) fun x3 q3 f3 => ?_
    refine vLe (fun _ => ?_) (fun g' => by exfalso; omega)
    refine vA (by omega) fun x5 q5 f5 => ?_
    exact hk l5 x5 h5 (by omega)
  | succ e ih =>
    intro d fuel l5 l7 hde hfu h7 h5
    obtain ⟨fu, rfl⟩ : ∃ q, fuel = q + 1 := ⟨fuel - 1, by omega⟩
    have us := uN_s (g := g) (i := i) (a := F + d)
    have ud := uN_d (g := g) (i := i) (a := F) d
    have ue : uN g i (F + d + 1) = uN g i (F + d) + (if abN g i (F + d) = true then 1 else 0) := rfl
    have go : ∀ x5 : Int32, x5.toInt = C0 + (if B.testBit i = true then 0 else (uN g i (F + d + 1) : Int) - (uN g i F : Int)) → vOk P (fX5_countBy_161 8 a1 a2 rec87 (fX5_countBy_107 8 a1 a2 rec87 fu) l3 l4 x5 l6 l7 m) := by
      intro x5 hx
      unfold fX5_countBy_161
      refine vA (by omega) fun x1 q1 f1 => ?_
      exact ih (d + 1) fu x5 x1 (by omega) (by omega) (by omega) hx
    rw [fX5_countBy_107]
    refine vIn (by omega) (by omega) fun _ => ?_
    rw [wb]
    refine vAl (x := g (1523 + 4 * b)) v4.symm ?_
    refine vA (by omega) fun x3 q3 f3 => ?_
    refine vLe (fun g' => by exfalso; omega) (fun _ => ?_)
    refine vAl (x := l3 >>> (l6 &&& 31)) rfl ?_
    refine vAl (x := if B.testBit i = true then 1 else 0) (by rw [e3, e6]; exact (bit_I B hB i (by omega)).symm) ?_
    by_cases z : B.testBit i = true
    · rw [if_pos z] at h5
      rw [if_pos z, if_pos (show ¬ (1 : Int32) = 0 by decide)]
      exact go l5 (by rw [if_pos z]; exact h5)
    · rw [if_neg z] at h5
      rw [if_neg z, if_neg (show ¬ ¬ (0 : Int32) = 0 from not_not_intro rfl)]
      refine vIn (by omega) (by omega) fun _ => ?_
      rw [wi']
      refine vAl (x := g (1520 + 4 * i)) w1.symm ?_
      refine vIn (by omega) (by omega) fun _ => ?_
      refine vAl (x := g (1521 + 4 * i)) w2.symm ?_
      have mm0 : 0 ≤ (g (1521 + 4 * i)).toInt * ((F : Int) + (d : Int)) := Int.mul_nonneg o2.1 (by omega)
      have mm1 : (g (1521 + 4 * i)).toInt * ((F : Int) + (d : Int)) ≤ 99 * ((F : Int) + (d : Int)) := Int.mul_le_mul_of_nonneg_right o2.2 (by omega)
      refine vM (v := (g (1521 + 4 * i)).toInt * ((F : Int) + (d : Int))) (by rw [h7]) (by omega) fun x13 q13 f13 => ?_
      refine vA (by omega) fun x14 q14 f14 => ?_
      refine vIn (by omega) (by omega) fun _ => ?_
      refine vAl (x := g (1522 + 4 * i)) w3.symm ?_
      have ab : abN g i (F + d) = decide ((g (1522 + 4 * i)).toInt < (g (1520 + 4 * i)).toInt + (g (1521 + 4 * i)).toInt * ((F + d : Nat) : Int)) := rfl
      rw [show ((F + d : Nat) : Int) = (F : Int) + (d : Int) by omega] at ab
      refine vLe (fun g' => ?_) (fun g' => ?_)
      · rw [decide_eq_false (by omega)] at ab
        rw [ab, if_neg (by decide)] at ue
        exact go l5 (by rw [if_neg z, ue]; exact h5)
      · rw [decide_eq_true (by omega)] at ab
        rw [ab, if_pos rfl] at ue
        refine vA (by omega) fun x18 q18 f18 => ?_
        exact go x18 (by rw [if_neg z, ue]; omega)
theorem cb87 {l3 l4 : Int32} {B F b : Nat} {C0 : Int} (h : MH m g n) (hb : b < n) (h2 : a2.toInt = (b : Int)) (hB : B < 64) (h3 : l3.toInt = (B : Int)) (hF : F ≤ 54) (h4 : l4.toInt = (F : Int)) (hC : 0 ≤ C0 ∧ C0 ≤ 400) : ∀ (e i fuel : Nat) (l5 l6 : Int32), i + e = n → e < fuel → l6.toInt = (i : Int) → l5.toInt = C0 + (sF B (fun i => uN g i (F + moN g b) - uN g i F) i : Int) → vOk (PP m (fun x : Int32 => x.toInt = C0 + (sF B (fun i => uN g i (F + moN g b) - uN g i F) n : Int))) (fX5_countBy_87 8 a1 a2 fuel l3 l4 l5 l6 m) := by
  have c0 : (0 : Int32).toInt = 0 := rfl
  have c6 : (6 : Int32).toInt = 6 := rfl
  have cF := xFu
  have n6 := h.1.1
  have hN := h.2.1
  have mb := moN_b h.1 hb
  intro e
  induction e with
  | zero =>
    intro i fuel l5 l6 hie hfu h6 h5
    obtain ⟨fu, rfl⟩ : ∃ q, fuel = q + 1 := ⟨fuel - 1, by omega⟩
    have ei : i = n := by omega
    subst ei
    rw [fX5_countBy_87]
    refine vAl (x := m.1 8 5) rfl ?_
    refine vLe (fun _ => ?_) (fun g' => by exfalso; omega)
    unfold fX5_countBy_173
    exact rP h5
  | succ e ih =>
    intro i fuel l5 l6 hie hfu h6 h5
    obtain ⟨fu, rfl⟩ : ∃ q, fuel = q + 1 := ⟨fuel - 1, by omega⟩
    have sl := sF_le (S := B) (f := fun i => uN g i (F + moN g b) - uN g i F) (c := 9) (fun i => by
      have d := uN_d (g := g) (i := i) (a := F) (moN g b)
      show uN g i (F + moN g b) - uN g i F ≤ 9
      omega) i
    have se : sF B (fun i => uN g i (F + moN g b) - uN g i F) (i + 1) = sF B (fun i => uN g i (F + moN g b) - uN g i F) i + (if B.testBit i then 0 else uN g i (F + moN g b) - uN g i F) := rfl
    have um := (uN_d (g := g) (i := i) (a := F) (moN g b)).1
    rw [fX5_countBy_87]
    refine vAl (x := m.1 8 5) rfl ?_
    refine vLe (fun g' => by exfalso; omega) (fun _ => ?_)
    refine vLe (fun g' => by exfalso; omega) (fun _ => ?_)
    refine cb107 (C0 := l5.toInt) h hb (show i < n by omega) h2 hB h3 hF h4 h6 (by omega) (fun x5 x6 w5 w6 => ?_) (moN g b) 0 xFuel l5 l4 (by omega) (by omega) (by omega) ?_
    · refine ih (i + 1) fu x5 x6 (by omega) (by omega) (by omega) ?_
      by_cases z : B.testBit i = true
      · rw [if_pos z] at w5 se
        rw [se]; omega
      · rw [if_neg z] at w5 se
        rw [se]; omega
    · by_cases z : B.testBit i = true
      · rw [if_pos z]; omega
      · rw [if_neg z]
        show l5.toInt = l5.toInt + ((uN g i F : Int) - (uN g i F : Int))
        omega
theorem cb37 {l3 : Int32} {S b : Nat} (h : MH m g n) (hS : S < 2 ^ n) (hb : b < n) (h1 : a1.toInt = (S : Int)) (h2 : a2.toInt = (b : Int)) (h3 : l3.toInt = (adS S b : Int)) (hC : 0 ≤ (m.1 13 (adS S b)).toInt ∧ (m.1 13 (adS S b)).toInt ≤ 400) : ∀ (e i fuel : Nat) (l4 l5 : Int32), i + e = 6 → e < fuel → l5.toInt = (i : Int) → l4.toInt = (fiN g S i : Int) → vOk (PP m (fun x : Int32 => x.toInt = (m.1 13 (adS S b)).toInt + (cM g n S b : Int))) (fX5_countBy_37 8 a1 a2 fuel l3 l4 l5 m) := by
  have c0 : (0 : Int32).toInt = 0 := rfl
  have c1 : (1 : Int32).toInt = 1 := rfl
  have c6 : (6 : Int32).toInt = 6 := rfl
  have cF := xFu
  have n6 := h.1.1
  have t6 := two6 n6
  have al := adS_lt hS hb
  have e1 := i32N h1 (by omega)
  intro e
  induction e with
  | zero =>
    intro i fuel l4 l5 hie hfu h5 h4
    obtain ⟨fu, rfl⟩ : ∃ q, fuel = q + 1 := ⟨fuel - 1, by omega⟩
    have ei : i = 6 := by omega
    subst ei
    have fb := fiN_b h.1 hS 6
    rw [fX5_countBy_37]
    refine vLe (fun _ => ?_) (fun g' => by exfalso; omega)
    refine vIn (by omega) (by omega) fun _ => ?_
    rw [wN h3]
    refine vAl (x := m.1 13 (adS S b)) rfl ?_
    exact cb87 (C0 := (m.1 13 (adS S b)).toInt) h hb h2 (by omega) h3 fb h4 hC n 0 xFuel (m.1 13 (adS S b)) 0 (by omega) (by omega) rfl (Int.add_zero _).symm
  | succ e ih =>
    intro i fuel l4 l5 hie hfu h5 h4
    obtain ⟨fu, rfl⟩ : ∃ q, fuel = q + 1 := ⟨fuel - 1, by omega⟩
    have e5 := i32N h5 (by omega)
    have fb := fiN_b h.1 hS i
    have fe : fiN g S (i + 1) = fiN g S i + (if S.testBit i = true then moN g i else 0) := rfl
    have go : ∀ y : Int32, y.toInt = ((if S.testBit i = true then moN g i else 0 : Nat) : Int) → 0 ≤ y.toInt ∧ y.toInt ≤ 9 → vOk (PP m (fun x : Int32 => x.toInt = (m.1 13 (adS S b)).toInt + (cM g n S b : Int))) (fX5_countBy_67 8 a1 a2 (fX5_countBy_37 8 a1 a2 fu) l3 l5 l4 y m) := by
      intro y hy hy2
      unfold fX5_countBy_67
      refine vA (by omega) fun x1 q1 f1 => ?_
      refine vA (by omega) fun x2 q2 f2 => ?_
      exact ih (i + 1) fu x1 x2 (by omega) (by omega) (by omega) (by rw [fe]; omega)
    rw [fX5_countBy_37]
    refine vLe (fun g' => by exfalso; omega) (fun _ => ?_)
    refine vAl (x := a1 >>> (l5 &&& 31)) rfl ?_
    refine vAl (x := if S.testBit i = true then 1 else 0) (by rw [e1, e5]; exact (bit_I S (by omega) i (by omega)).symm) ?_
    by_cases z : S.testBit i = true
    · rw [if_pos z, if_neg (show ¬ ¬ (1 : Int32) = 1 from not_not_intro rfl)]
      have hi := bit_lt hS z
      have mb := moN_b h.1 hi
      refine vIn (by omega) (by omega) fun _ => ?_
      rw [wN h5]
      refine vAl (x := g (1523 + 4 * i)) (h.2.2 i hi).2.2.2.symm ?_
      exact go _ (by rw [if_pos z]; exact mb.2.2) (by omega)
    · rw [if_neg z, if_pos (show ¬ (0 : Int32) = 1 by decide)]
      exact go 0 (by rw [if_neg z]; rfl) (by omega)
theorem cb_e {S b : Nat} (h : MH m g n) (hS : S < 2 ^ n) (hb : b < n) (h1 : a1.toInt = (S : Int)) (h2 : a2.toInt = (b : Int)) (hC : 0 ≤ (m.1 13 (adS S b)).toInt ∧ (m.1 13 (adS S b)).toInt ≤ 400) : vOk (PP m (fun x : Int32 => x.toInt = (m.1 13 (adS S b)).toInt + (cM g n S b : Int))) (fX5_countBy 8 a1 a2 m) := by
  have c0 : (0 : Int32).toInt = 0 := rfl
  have c6 : (6 : Int32).toInt = 6 := rfl
  have c64 : (64 : Int32).toInt = 64 := rfl
  have cF := xFu
  have n6 := h.1.1
  have t6 := two6 n6
  have al := adS_lt hS hb
  have e1 := i32N h1 (by omega)
  have e2 := i32N h2 (by omega)
  have k3 : (Int32.ofNat (adS S b)).toInt = (adS S b : Int) := Int32.toInt_ofNat_of_lt (by omega)
  unfold fX5_countBy fX5_countBy_0
  refine vAl (x := (1 : Int32) <<< (a2 &&& 31)) rfl ?_
  refine vAl (x := Int32.ofNat (adS S b)) (by rw [e1, e2]; exact (bit_J S (by omega) b (by omega)).symm) ?_
  refine vLt (fun g' => by exfalso; omega) (fun _ => ?_)
  refine vLe (fun g' => by exfalso; omega) (fun _ => ?_)
  refine vLt (fun g' => by exfalso; omega) (fun _ => ?_)
  refine vLt (fun _ => ?_) (fun g' => by exfalso; omega)
  exact cb37 h hS hb h1 h2 k3 hC 6 0 xFuel 0 0 (by omega) (by omega) rfl rfl
/-- the best next one behind S -/
def nxW (g : Nat → Int32) (n S i : Nat) : Option (Nat × Nat) := lwm (fun b => !S.testBit b) (fun b => cM g n S b + FM g n (adS S b)) i
def rB (o : Option (Nat × Nat)) (l2 l3 : Int32) : Prop := match o with
  | none => l2.toInt = -1
  | some (b, v) => l2.toInt = (b : Int) ∧ l3.toInt = (v : Int)
def rA (o : Option (Nat × Nat)) : Int := match o with
  | none => -1
  | some (b, _) => (b : Int)
theorem bn7 {S : Nat} (h : MH m g n) (hS : S < 2 ^ n) (h1 : a1.toInt = (S : Int)) (hM : ∀ S', S < S' → S' < 2 ^ n → (m.1 13 S').toInt = (FM g n S' : Int)) : ∀ (e i fuel : Nat) (l2 l3 l4 : Int32), i + e = n → e < fuel → l4.toInt = (i : Int) → rB (nxW g n S i) l2 l3 → vOk (PP m (fun x : Int32 => x.toInt = rA (nxW g n S n))) (fX5_bestNext_7 8 a1 fuel l2 l3 l4 m) := by
  have c0 : (0 : Int32).toInt = 0 := rfl
  have c1 : (1 : Int32).toInt = 1 := rfl
  have c6 : (6 : Int32).toInt = 6 := rfl
  have cm1 : (-1 : Int32).toInt = -1 := rfl
  have n6 := h.1.1
  have hN := h.2.1
  have t6 := two6 n6
  have e1 := i32N h1 (by omega)
  intro e
  induction e with
  | zero =>
    intro i fuel l2 l3 l4 hie hfu h4 hR
    obtain ⟨fu, rfl⟩ : ∃ q, fuel = q + 1 := ⟨fuel - 1, by omega⟩
    have ei : i = n := by omega
    subst ei
    rw [fX5_bestNext_7]
    refine vAl (x := m.1 8 5) rfl ?_
    refine vLe (fun _ => ?_) (fun g' => by exfalso; omega)
    unfold fX5_bestNext_64
    refine rP ?_
    cases o : nxW g i S i with
    | none => rw [o] at hR; exact hR
    | some bv => rw [o] at hR; exact hR.1
  | succ e ih =>
    intro i fuel l2 l3 l4 hie hfu h4 hR
    obtain ⟨fu, rfl⟩ : ∃ q, fuel = q + 1 := ⟨fuel - 1, by omega⟩
    have e4 := i32N h4 (by omega)
    have nx : nxW g n S (i + 1) = match nxW g n S i with
        | none => if (!S.testBit i) = true then some (i, cM g n S i + FM g n (adS S i)) else none
        | some (b, v) => if ((!S.testBit i) && decide (cM g n S i + FM g n (adS S i) < v)) = true then some (i, cM g n S i + FM g n (adS S i)) else some (b, v) := rfl
    have go : ∀ x2 x3 : Int32, rB (nxW g n S (i + 1)) x2 x3 → vOk (PP m (fun x : Int32 => x.toInt = rA (nxW g n S n))) (fX5_bestNext_58 8 a1 (fX5_bestNext_7 8 a1 fu) x2 x3 l4 m) := by
      intro x2 x3 hx
      unfold fX5_bestNext_58
      refine vA (by omega) fun x1 q1 f1 => ?_
      exact ih (i + 1) fu x2 x3 x1 (by omega) (by omega) (by omega) hx
    rw [fX5_bestNext_7]
    refine vAl (x := m.1 8 5) rfl ?_
    refine vLe (fun g' => by exfalso; omega) (fun _ => ?_)
    refine vLe (fun g' => by exfalso; omega) (fun _ => ?_)
    refine vAl (x := a1 >>> (l4 &&& 31)) rfl ?_
    refine vAl (x := if S.testBit i = true then 1 else 0) (by rw [e1, e4]; exact (bit_I S (by omega) i (by omega)).symm) ?_
    by_cases z : S.testBit i = true
    · rw [if_pos z, if_pos (show ¬ (1 : Int32) = 0 by decide)]
      refine go l2 l3 ?_
      rw [nx, z]
      cases o : nxW g n S i with
      | none => rw [o] at hR; exact hR
      | some bv => obtain ⟨b, v⟩ := bv; rw [o] at hR; exact hR
    · rw [if_neg z, if_neg (show ¬ ¬ (0 : Int32) = 0 from not_not_intro rfl)]
      have zf : S.testBit i = false := Bool.eq_false_iff.mpr z
      have up := bit_K S (by omega) i (by omega) zf
      have al := adS_lt hS (show i < n by omega)
      have mv := hM (adS S i) up al
      have fb := FM_b h.1 (adS S i)
      have cb := cM_b h.1 (S := S) (show i < n by omega)
      refine vBindP (cb_e h hS (show i < n by omega) h1 h4 (by omega)) fun x _ hx => ?_
      dsimp only
      rw [mv] at hx
      cases o : nxW g n S i with
      | none =>
        rw [o] at hR
        have hR' : l2.toInt = -1 := hR
        refine vEq (fun _ => ?_) (fun g' => by exfalso; omega)
        unfold fX5_bestNext_52
        refine go l4 x ?_
        rw [nx, o, zf]
        exact ⟨h4, by omega⟩
      | some bv =>
        obtain ⟨b, v⟩ := bv
        rw [o] at hR
        obtain ⟨hR1, hR2⟩ : l2.toInt = (b : Int) ∧ l3.toInt = (v : Int) := hR
        refine vEq (fun g' => by exfalso; omega) (fun _ => ?_)
        refine vLe (fun g' => ?_) (fun g' => ?_)
        · refine go l2 l3 ?_
          rw [nx, o, zf]
          show rB (if ((!false) && decide (cM g n S i + FM g n (adS S i) < v)) = true then _ else _) l2 l3
          rw [decide_eq_false (by omega)]
          exact ⟨hR1, hR2⟩
        · unfold fX5_bestNext_52
          refine go l4 x ?_
          rw [nx, o, zf]
          show rB (if ((!false) && decide (cM g n S i + FM g n (adS S i) < v)) = true then _ else _) l4 x
          rw [decide_eq_true (by omega)]
          exact ⟨h4, by omega⟩
theorem bn_e {S : Nat} (h : MH m g n) (hS : S < 2 ^ n) (h1 : a1.toInt = (S : Int)) (hM : ∀ S', S < S' → S' < 2 ^ n → (m.1 13 S').toInt = (FM g n S' : Int)) : vOk (PP m (fun x : Int32 => x.toInt = rA (nxW g n S n))) (fX5_bestNext 8 a1 m) := by
  have cF := xFu
  have n6 := h.1.1
  unfold fX5_bestNext fX5_bestNext_0
  exact bn7 h hS h1 hM n 0 xFuel (-1) 0 0 (by omega) (by omega) rfl rfl
theorem lwm_cg {p : Nat → Bool} {f f' : Nat → Nat} : ∀ n, (∀ i, i < n → p i = true → f i = f' i) → lwm p f n = lwm p f' n := by
  intro n
  induction n with
  | zero => intro _; rfl
  | succ k ih =>
    intro h
    unfold lwm
    rw [ih (fun i hi => h i (by omega))]
    by_cases z : p k = true
    · rw [h k (by omega) z]
    · rw [Bool.eq_false_iff.mpr z]
      cases lwm p f' k with
      | none => rfl
      | some bv => rfl
/-- what the best next one counts: as the rows of the best have it -/
theorem nx_b (h : mdOk g n) {S : Nat} : ∀ k, fr S n = k + 1 → nxW g n S n = bN n (cM g n) k S := by
  intro k hk
  unfold nxW bN
  refine lwm_cg n fun i hi hp => ?_
  have zf : S.testBit i = false := by
    cases z : S.testBit i with
    | false => rfl
    | true => rw [z] at hp; cases hp
  have a := fr_ad zf n
  rw [if_pos hi] at a
  have e : FM g n (adS S i) = Fm n (cM g n) k (adS S i) := by
    unfold FM
    rw [show fr (adS S i) n = k by omega]
  rw [e]
theorem nx_0 {S : Nat} (hf : fr S n = 0) : nxW g n S n = none := by
  have sp := lwm_spec (fun b => !S.testBit b) (fun b => cM g n S b + FM g n (adS S b)) n
  unfold nxW
  cases e : lwm (fun b => !S.testBit b) (fun b => cM g n S b + FM g n (adS S b)) n with
  | none => rfl
  | some bv =>
    obtain ⟨b, v⟩ := bv
    rw [e] at sp
    dsimp only at sp
    have zf : S.testBit b = false := by
      cases z : S.testBit b with
      | false => rfl
      | true => have := sp.2.1; rw [z] at this; cases this
    have a := fr_ad zf n
    rw [if_pos sp.1] at a
    omega
theorem FM_nx (h : mdOk g n) {S : Nat} : FM g n S = match nxW g n S n with
    | none => 0
    | some (b, _) => cM g n S b + FM g n (adS S b) := by
  have sp := lwm_spec (fun b => !S.testBit b) (fun b => cM g n S b + FM g n (adS S b)) n
  cases hf : fr S n with
  | zero =>
    rw [nx_0 hf]
    unfold FM
    rw [hf]
    rfl
  | succ k =>
    have q := nx_b h k hf
    have e1 : FM g n S = match bN n (cM g n) k S with
        | none => 0
        | some (_, v) => v := by
      unfold FM
      rw [hf]
      rfl
    rw [e1, ← q]
    unfold nxW at *
    cases e : lwm (fun b => !S.testBit b) (fun b => cM g n S b + FM g n (adS S b)) n with
    | none => rfl
    | some bv =>
      obtain ⟨b, v⟩ := bv
      rw [e] at sp
      exact sp.2.2.1
theorem nx_in {S b v : Nat} (h : nxW g n S n = some (b, v)) : b < n ∧ S.testBit b = false := by
  have sp := lwm_spec (fun b => !S.testBit b) (fun b => cM g n S b + FM g n (adS S b)) n
  unfold nxW at h
  rw [h] at sp
  dsimp only at sp
  refine ⟨sp.1, ?_⟩
  cases z : S.testBit b with
  | false => rfl
  | true => have := sp.2.1; rw [z] at this; cases this
/-! the class weighs -/
def FW (m m1 : xMem) : Prop := m1.2 = m.2 ∧ ∀ b j, b ≠ 13 → m1.1 b j = m.1 b j
theorem MH_FW {m1 : xMem} (f : FW m m1) (h : MH m g n) : MH m1 g n := by
  refine ⟨h.1, by rw [f.2 8 5 (by omega)]; exact h.2.1, fun i hi => ?_⟩
  rw [f.2 9 i (by omega), f.2 10 i (by omega), f.2 11 i (by omega), f.2 12 i (by omega)]
  exact h.2.2 i hi
theorem wg21 {m0 : xMem} (h : MH m0 g n) : ∀ (d fuel : Nat) (l2 : Int32) (m : xMem), d ≤ 2 ^ n → d < fuel → l2.toInt = (d : Int) - 1 → FW m0 m → (∀ S, d ≤ S → S < 2 ^ n → (m.1 13 S).toInt = (FM g n S : Int)) → vOk (fun m1 => FW m0 m1 ∧ ∀ S, S < 2 ^ n → (m1.1 13 S).toInt = (FM g n S : Int)) (fX5_weigh_21 8 fuel l2 m) := by
  have c0 : (0 : Int32).toInt = 0 := rfl
  have cm1 : (-1 : Int32).toInt = -1 := rfl
  have n6 := h.1.1
  have t6 := two6 n6
  intro d
  induction d with
  | zero =>
    intro fuel l2 m hd hfu h2 f hM
    obtain ⟨fu, rfl⟩ : ∃ q, fuel = q + 1 := ⟨fuel - 1, by omega⟩
    rw [fX5_weigh_21]
    refine vLt (fun _ => vOk_some ⟨f, fun S hS => hM S (Nat.zero_le S) hS⟩) (fun g' => by exfalso; omega)
  | succ d ih =>
    intro fuel l2 m hd hfu h2 f hM
    obtain ⟨fu, rfl⟩ : ∃ q, fuel = q + 1 := ⟨fuel - 1, by omega⟩
    have hm := MH_FW f h
    have h2' : l2.toInt = (d : Int) := by omega
    have hS : d < 2 ^ n := by omega
    have fx := FM_nx h.1 (S := d)
    have go : ∀ y : Int32, y.toInt = (FM g n d : Int) → vOk (fun m1 => FW m0 m1 ∧ ∀ S, S < 2 ^ n → (m1.1 13 S).toInt = (FM g n S : Int)) (fX5_weigh_51 8 (fX5_weigh_21 8 fu) l2 (8 + 5) l2 y m) := by
      intro y hy
      unfold fX5_weigh_51
      refine vIn (by omega) (by omega) fun _ => ?_
      rw [wN h2']
      refine vR fun m1 e1 => ?_
      refine vA (by omega) fun x3 e3 f3 => ?_
      have fm : ∀ b z, ¬ (b = 13 ∧ z = d) → m1.1 b z = m.1 b z := fun b z w => by
        rw [e1]
        show (if b = 8 + 5 ∧ z = d then _ else m.1 b z) = _
        rw [if_neg (by omega)]
      have vm : m1.1 13 d = y := by rw [e1]; exact xP_eq.symm
      refine ih fu x3 m1 (by omega) (by omega) (by omega) ⟨by rw [e1]; exact f.1, fun b j hb => by rw [fm b j (by omega)]; exact f.2 b j hb⟩ fun S h1 h3 => ?_
      by_cases q : S = d
      · subst q
        rw [vm]; exact hy
      · rw [fm 13 S (by omega)]
        exact hM S (by omega) h3
    rw [fX5_weigh_21]
    refine vLt (fun g' => by exfalso; omega) (fun _ => ?_)
    refine vBindP (bn_e hm hS h2' (fun S' a b => hM S' (by omega) b)) fun x _ hx => ?_
    dsimp only
    cases o : nxW g n d n with
    | none =>
      rw [o] at hx fx
      have hx' : x.toInt = -1 := hx
      refine vNe (fun g' => by exfalso; omega) (fun _ => ?_)
      exact go 0 (by rw [fx]; rfl)
    | some bv =>
      obtain ⟨b, v⟩ := bv
      rw [o] at hx fx
      have hx' : x.toInt = (b : Int) := hx
      obtain ⟨bl, bt⟩ := nx_in o
      have up := bit_K d (by omega) b (by omega) bt
      have al := adS_lt hS bl
      have mv := hM (adS d b) (by omega) al
      have fb := FM_b h.1 (adS d b)
      refine vNe (fun _ => ?_) (fun g' => by exfalso; omega)
      refine vBindP (cb_e hm hS bl h2' hx' (by omega)) fun y _ hy => ?_
      dsimp only
      refine go y ?_
      have fx' : FM g n d = cM g n d b + FM g n (adS d b) := fx
      rw [hy, mv, fx']
      omega
theorem wg_e (h : MH m g n) (hn : 1 ≤ n) : vOk (fun m1 => FW m m1 ∧ ∀ S, S < 2 ^ n → (m1.1 13 S).toInt = (FM g n S : Int)) (fX5_weigh 8 m) := by
  have c0 : (0 : Int32).toInt = 0 := rfl
  have c1 : (1 : Int32).toInt = 1 := rfl
  have c64 : (64 : Int32).toInt = 64 := rfl
  have cF := xFu
  have n6 := h.1.1
  have t6 := two6 n6
  have p1 : 1 ≤ 2 ^ n := Nat.one_le_two_pow
  have e1 := i32N h.2.1 (by omega)
  have k2 : (Int32.ofNat (2 ^ n)).toInt = ((2 ^ n : Nat) : Int) := Int32.toInt_ofNat_of_lt (by omega)
  unfold fX5_weigh fX5_weigh_0
  refine vAl (x := m.1 8 5) rfl ?_
  refine vAl (x := Int32.ofNat (2 ^ n)) (by rw [e1]; exact (bit_L n n6).symm) ?_
  obtain ⟨z, hz⟩ : ∃ z, z = 2 ^ n := ⟨_, rfl⟩
  rw [← hz] at t6 p1
  have k3 : (Int32.ofNat (2 ^ n)).toInt = (z : Int) := by rw [hz]; exact k2
  refine vS (by omega) fun x3 q3 f3 => ?_
  refine vS (by omega) fun x4 q4 f4 => ?_
  refine vMin fun x5 q5 f5 => ?_
  exact wg21 h z xFuel x5 m (Nat.le_of_eq hz) (by omega) (by omega) ⟨rfl, fun _ _ _ => rfl⟩ fun S h1 h2 => absurd h2 (by omega)
/-- the digits of the best order -/
theorem gC_dig (hn : 0 < n) (h : mdOk g n) {k S q b v : Nat} (hf : fr S n = k + 1) (hq : q % n ^ (k + 1) = gC n (cM g n) (k + 1) S) (o : nxW g n S n = some (b, v)) : dg n k q = b ∧ q % n ^ k = gC n (cM g n) k (adS S b) ∧ fr (adS S b) n = k := by
  rw [nx_b h k hf] at o
  rw [mod_s hn] at hq
  unfold gC at hq
  rw [o] at hq
  dsimp only at hq
  obtain ⟨a1, a2⟩ := split_eq (Nat.mod_lt _ (Nat.pow_pos hn)) (gC_lt hn k (adS S b)) hq
  have o' : nxW g n S n = some (b, v) := (nx_b h k hf).trans o
  obtain ⟨bl, bt⟩ := nx_in o'
  have a := fr_ad bt n
  rw [if_pos bl] at a
  exact ⟨a1, a2, by omega⟩
theorem nx_some (h : mdOk g n) {S : Nat} (hf : 0 < fr S n) : ∃ b v, nxW g n S n = some (b, v) := by
  have sp := lwm_spec (fun b => !S.testBit b) (fun b => cM g n S b + FM g n (adS S b)) n
  unfold nxW
  cases e : lwm (fun b => !S.testBit b) (fun b => cM g n S b + FM g n (adS S b)) n with
  | none =>
    rw [e] at sp
    dsimp only at sp
    obtain ⟨i, h1, h2⟩ := fr_pos n hf
    have := sp i h1
    rw [h2] at this
    cases this
  | some bv => exact ⟨bv.1, bv.2, rfl⟩
theorem it4 (hn : 1 ≤ n) (h : MH m g n) (hM : ∀ S, S < 2 ^ n → (m.1 13 S).toInt = (FM g n S : Int)) {q i : Nat} (hi : i < n) (h1 : a1.toInt = (i : Int)) : ∀ (e k S fuel : Nat) (l2 l3 : Int32), k + e = i → e < fuel → l3.toInt = (k : Int) → l2.toInt = (S : Int) → S < 2 ^ n → fr S n = n - k → q % n ^ (n - k) = gC n (cM g n) (n - k) S → vOk (PP m (fun x : Int32 => x.toInt = (dg n (n - 1 - i) q : Int))) (fX5_inTurn_4 8 a1 fuel l2 l3 m) := by
  have c0 : (0 : Int32).toInt = 0 := rfl
  have c1 : (1 : Int32).toInt = 1 := rfl
  have c6 : (6 : Int32).toInt = 6 := rfl
  have cm1 : (-1 : Int32).toInt = -1 := rfl
  have n6 := h.1.1
  have t6 := two6 n6
  intro e
  induction e with
  | zero =>
    intro k S fuel l2 l3 hke hfu h3 h2 hS hf hq
    obtain ⟨fu, rfl⟩ : ∃ q, fuel = q + 1 := ⟨fuel - 1, by omega⟩
    have ek : k = i := by omega
    subst ek
    obtain ⟨b, v, o⟩ := nx_some h.1 (S := S) (by omega)
    obtain ⟨d1, _, _⟩ := gC_dig (q := q) (k := n - 1 - k) (by omega) h.1 (by omega) (by rw [show n - 1 - k + 1 = n - k by omega]; exact hq) o
    rw [fX5_inTurn_4]
    refine vLe (fun _ => ?_) (fun g' => by exfalso; omega)
    unfold fX5_inTurn_41
    refine vBindP (bn_e h hS h2 (fun S' _ c => hM S' c)) fun x _ hx => ?_
    dsimp only
    rw [o] at hx
    exact rP (by rw [d1]; exact hx)
  | succ e ih =>
    intro k S fuel l2 l3 hke hfu h3 h2 hS hf hq
    obtain ⟨fu, rfl⟩ : ∃ q, fuel = q + 1 := ⟨fuel - 1, by omega⟩
    obtain ⟨b, v, o⟩ := nx_some h.1 (S := S) (by omega)
    obtain ⟨d1, d2, d3⟩ := gC_dig (q := q) (k := n - 1 - k) (by omega) h.1 (by omega) (by rw [show n - 1 - k + 1 = n - k by omega]; exact hq) o
    obtain ⟨bl, bt⟩ := nx_in o
    have al := adS_lt hS bl
    have e2 := i32N h2 (by omega)
    have k3 : (Int32.ofNat (adS S b)).toInt = (adS S b : Int) := Int32.toInt_ofNat_of_lt (by omega)
    rw [fX5_inTurn_4]
    refine vLe (fun g' => by exfalso; omega) (fun _ => ?_)
    refine vLe (fun g' => by exfalso; omega) (fun _ => ?_)
    refine vBindP (bn_e h hS h2 (fun S' _ c => hM S' c)) fun x _ hx => ?_
    dsimp only
    rw [o] at hx
    have hx' : x.toInt = (b : Int) := hx
    have ex := i32N hx' (by omega)
    refine vEq (fun g' => by exfalso; omega) (fun _ => ?_)
    refine vAl (x := (1 : Int32) <<< (x &&& 31)) rfl ?_
    refine vAl (x := Int32.ofNat (adS S b)) (by rw [e2, ex]; exact (bit_J S (by omega) b (by omega)).symm) ?_
    unfold fX5_inTurn_35
    refine vA (by omega) fun x1 q1 f1 => ?_
    exact ih (k + 1) (adS S b) fu _ x1 (by omega) (by omega) (by omega) k3 al (by omega) (by rw [show n - (k + 1) = n - 1 - k by omega]; exact d2)
/-- what order answers -/
def ordV (g : Nat → Int32) (n : Nat) (a1 : Int32) : Int := if n = 0 ∨ ¬ (-1 ≤ a1.toInt ∧ a1.toInt ≤ (n : Int) - 1) then -1 else if a1 = -1 then (FM g n 0 : Int) else (dg n (n - 1 - a1.toInt.toNat) (gC n (cM g n) n 0) : Int)
theorem order_c (h : MH m g n) : vOk (fun p : Int32 × xMem => FW m p.2 ∧ p.1.toInt = ordV g n a1) (fX11_order 0 a1 m) := by
  have c0 : (0 : Int32).toInt = 0 := rfl
  have c1 : (1 : Int32).toInt = 1 := rfl
  have cm1 : (-1 : Int32).toInt = -1 := rfl
  have cF := xFu
  have n6 := h.1.1
  generalize hV : ordV g n a1 = V
  unfold ordV at hV
  unfold fX11_order fX11_order_0
  rw [show 0 + 1 + 7 = 8 from rfl]
  refine vAl (x := m.1 8 5) rfl ?_
  refine vLe (fun g' => ?_) (fun g' => ?_)
  · rw [if_pos (Or.inl (by have := h.2.1; omega))] at hV
    unfold fX11_order_33
    exact vOk_some ⟨⟨rfl, fun _ _ _ => rfl⟩, by rw [← hV]; exact cm1⟩
  · have hN := h.2.1
    refine vAl (x := m.1 8 5) rfl ?_
    refine vS (by omega) fun x4 e4 f4 => ?_
    refine vAlB (within_e _ _ _ _) ?_
    dsimp only
    by_cases g1 : -1 ≤ a1.toInt ∧ a1.toInt ≤ (n : Int) - 1
    · rw [if_neg (fun w => w.elim (fun w => by omega) (fun w => w g1))] at hV
      rw [wi_1 (by omega), if_pos (show ¬ (1 : Int32) = 0 by decide)]
      refine vOk_bind (wg_e h (by omega)) fun m7 q7 => ?_
      obtain ⟨f7, hM⟩ := q7
      have h7 := MH_FW f7 h
      have p2 : 0 < 2 ^ n := Nat.two_pow_pos n
      refine vNe (fun g2 => ?_) (fun g2 => ?_)
      · rw [if_neg (fun w => g2 (congrArg _ w))] at hV
        have ln := gC_lt (n := n) (c := cM g n) (by omega) n 0
        unfold fX5_inTurn fX5_inTurn_0
        refine vBindP (it4 (by omega) h7 hM (q := gC n (cM g n) n 0) (i := a1.toInt.toNat) (by omega) (by omega) a1.toInt.toNat 0 0 xFuel 0 0 (by omega) (by omega) rfl rfl p2 (by rw [Nat.sub_zero]; exact fr_0 n) (by rw [Nat.sub_zero]; exact Nat.mod_eq_of_lt ln)) fun x _ hx => ?_
        dsimp only
        unfold fX11_order_76
        exact vOk_some ⟨f7, hx.trans hV⟩
      · rw [if_pos (show a1 = -1 from Int32.toInt_inj.mp g2)] at hV
        refine vIn (by omega) (by omega) fun _ => ?_
        refine vAl (x := m7.1 13 0) rfl ?_
        unfold fX11_order_76
        exact vOk_some ⟨f7, (hM 0 p2).trans hV⟩
    · rw [if_pos (Or.inr g1)] at hV
      rw [wi_0 (by omega), if_neg (not_not_intro rfl)]
      unfold fX11_order_33
      exact vOk_some ⟨⟨rfl, fun _ _ _ => rfl⟩, by rw [← hV]; exact cm1⟩
end
/-! the reference -/
section
variable {m : xMem} {n : Nat} {a1 a2 a3 : Int32}
theorem ab14 {g : Nat → Int32} (hg : m.1 292 = g) (h : mdOk g n) {i a : Nat} (hi : i < n) (ha : a ≤ 54) (h2 : a2.toInt = (a : Int)) : ∀ (e d fuel : Nat) (l3 l4 l5 : Int32), d + e = a → e < fuel → l3.toInt = 1520 + 4 * (i : Int) → l5.toInt = (d : Int) → l4.toInt = (uN g i d : Int) → vOk (PP m (fun x : Int32 => x.toInt = (uN g i a : Int))) (fX12_aboveOf_14 291 a1 a2 fuel l3 l4 l5 m) := by
  have c0 : (0 : Int32).toInt = 0 := rfl
  have c1 : (1 : Int32).toInt = 1 := rfl
  have c2 : (2 : Int32).toInt = 2 := rfl
  have n6 := h.1
  obtain ⟨o1, o2, o3, o4⟩ := h.2 i hi
  intro e
  induction e with
  | zero =>
    intro d fuel l3 l4 l5 hde hfu h3 h5 h4
    obtain ⟨fu, rfl⟩ : ∃ q, fuel = q + 1 := ⟨fuel - 1, by omega⟩
    have ed : d = a := by omega
    subst ed
    rw [fX12_aboveOf_14]
    refine vLe (fun _ => rP h4) (fun g' => by exfalso; omega)
  | succ e ih =>
    intro d fuel l3 l4 l5 hde hfu h3 h5 h4
    obtain ⟨fu, rfl⟩ : ∃ q, fuel = q + 1 := ⟨fuel - 1, by omega⟩
    have ud := uN_d (g := g) (i := i) (a := 0) d
    rw [Nat.zero_add, show uN g i 0 = 0 from rfl] at ud
    have ue : uN g i (d + 1) = uN g i d + (if abN g i d = true then 1 else 0) := rfl
    have ab : abN g i d = decide ((g (1522 + 4 * i)).toInt < (g (1520 + 4 * i)).toInt + (g (1521 + 4 * i)).toInt * (d : Int)) := rfl
    have go : ∀ y : Int32, y.toInt = ((if abN g i d = true then 1 else 0 : Nat) : Int) → 0 ≤ y.toInt ∧ y.toInt ≤ 1 → vOk (PP m (fun x : Int32 => x.toInt = (uN g i a : Int))) (fX12_aboveOf_56 291 a1 a2 (fX12_aboveOf_14 291 a1 a2 fu) l3 l5 l4 y m) := by
      intro y hy hy2
      unfold fX12_aboveOf_56
      refine vA (by omega) fun x1 q1 f1 => ?_
      refine vA (by omega) fun x2 q2 f2 => ?_
      exact ih (d + 1) fu l3 x1 x2 (by omega) (by omega) h3 (by omega) (by rw [ue]; omega)
    rw [fX12_aboveOf_14]
    refine vLe (fun g' => by exfalso; omega) (fun _ => ?_)
    refine vIn (by omega) (by omega) fun _ => ?_
    rw [wN (x := l3) (n := 1520 + 4 * i) (by omega)]
    refine vAl (x := g (1520 + 4 * i)) (by rw [← hg]) ?_
    refine vA (by omega) fun x4 q4 f4 => ?_
    refine vIn (by omega) (by omega) fun _ => ?_
    rw [wN (x := x4) (n := 1521 + 4 * i) (by omega)]
    refine vAl (x := g (1521 + 4 * i)) (by rw [← hg]) ?_
    have mm0 : 0 ≤ (g (1521 + 4 * i)).toInt * (d : Int) := Int.mul_nonneg o2.1 (by omega)
    have mm1 : (g (1521 + 4 * i)).toInt * (d : Int) ≤ 99 * (d : Int) := Int.mul_le_mul_of_nonneg_right o2.2 (by omega)
    refine vM (v := (g (1521 + 4 * i)).toInt * (d : Int)) (by rw [h5]) (by omega) fun x7 q7 f7 => ?_
    refine vA (by omega) fun x8 q8 f8 => ?_
    refine vA (by omega) fun x9 q9 f9 => ?_
    refine vIn (by omega) (by omega) fun _ => ?_
    rw [wN (x := x9) (n := 1522 + 4 * i) (by omega)]
    refine vAl (x := g (1522 + 4 * i)) (by rw [← hg]) ?_
    refine vLe (fun g' => ?_) (fun g' => ?_)
    · rw [decide_eq_false (by omega)] at ab
      exact go 0 (by rw [ab, if_neg (by decide)]; rfl) (by omega)
    · rw [decide_eq_true (by omega)] at ab
      exact go 1 (by rw [ab, if_pos rfl]; rfl) (by omega)
theorem ab_e {g : Nat → Int32} (hg : m.1 292 = g) (h : mdOk g n) {i a : Nat} (hi : i < n) (ha : a ≤ 54) (h1 : a1.toInt = (i : Int)) (h2 : a2.toInt = (a : Int)) : vOk (PP m (fun x : Int32 => x.toInt = (uN g i a : Int))) (fX12_aboveOf 291 a1 a2 m) := by
  have c0 : (0 : Int32).toInt = 0 := rfl
  have c4 : (4 : Int32).toInt = 4 := rfl
  have c1520 : (1520 : Int32).toInt = 1520 := rfl
  have cF := xFu
  have n6 := h.1
  unfold fX12_aboveOf fX12_aboveOf_0
  refine vM (v := 4 * (i : Int)) (by rw [c4, h1]) (by omega) fun x1 q1 f1 => ?_
  refine vA (by omega) fun x2 q2 f2 => ?_
  exact ab14 hg h hi ha h2 a 0 xFuel x2 0 0 (by omega) (by omega) (by omega) rfl rfl
/-- a code's digit on the machine -/
theorem digI {a b : Int32} {q n e : Nat} (ha : a.toInt = (q : Int)) (hb : b.toInt = ((n ^ e : Nat) : Int)) (hn : 0 < n) {c : Int32} (hc : c.toInt = (n : Int)) : (xRem (a / b) c).toInt = (dg n e q : Int) := by
  have t := tiB a
  have e1 : (a / b).toInt = ((q / n ^ e : Nat) : Int) := by
    have d : ((q / n ^ e : Nat) : Int) ≤ (q : Int) := Int.ofNat_le.mpr (Nat.div_le_self q (n ^ e))
    have d0 : (0 : Int) ≤ ((q / n ^ e : Nat) : Int) := Int.natCast_nonneg _
    rw [Int32.toInt_div, ha, hb, ← Int.ofNat_tdiv]
    generalize ((q / n ^ e : Nat) : Int) = y at d d0 ⊢
    exact Int.bmod_eq_of_le (by omega) (by omega)
  rw [show xRem (a / b) c = (a / b) % c from rem_e _ _, Int32.toInt_mod, e1, hc, Int.tmod_eq_emod_of_nonneg (Int.natCast_nonneg _), ← Int.natCast_emod]
  rfl
theorem cb15 {g : Nat → Int32} (hg : m.1 292 = g) (h : mdOk g n) (hn : 1 ≤ n) {q : Nat} (h2 : a2.toInt = (n : Int)) (h1 : a1.toInt = (q : Int)) : ∀ (e S k acc fuel : Nat) (l4 l5 l6 l7 l8 : Int32), k + e = n → e < fuel → S < 2 ^ n → l4.toInt = (S : Int) → l5.toInt = (fiS g S : Int) → l6.toInt = (acc : Int) → acc ≤ 54 * k → l7.toInt = ((n ^ e : Nat) : Int) → l8.toInt = (k : Int) → vOk (PP m (fun x : Int32 => (vld n e S q ∧ x.toInt = ((acc + rst n (uN g) (moN g) e (fiS g S) q : Nat) : Int)) ∨ (¬ vld n e S q ∧ x.toInt = -1))) (fX12_countsBy_15 291 a1 a2 a3 fuel l4 l5 l6 l7 l8 m) := by
  have c0 : (0 : Int32).toInt = 0 := rfl
  have c1 : (1 : Int32).toInt = 1 := rfl
  have c3 : (3 : Int32).toInt = 3 := rfl
  have c4 : (4 : Int32).toInt = 4 := rfl
  have c1520 : (1520 : Int32).toInt = 1520 := rfl
  have cm1 : (-1 : Int32).toInt = -1 := rfl
  have n6 := h.1
  have t6 := two6 n6
  intro e
  induction e with
  | zero =>
    intro S k acc fuel l4 l5 l6 l7 l8 hke hfu hS h4 h5 h6 hac h7 h8
    obtain ⟨fu, rfl⟩ : ∃ q, fuel = q + 1 := ⟨fuel - 1, by omega⟩
    rw [fX12_countsBy_15]
    refine vLe (fun _ => rP (Or.inl ⟨trivial, h6⟩)) (fun g' => by exfalso; omega)
  | succ e ih =>
    intro S k acc fuel l4 l5 l6 l7 l8 hke hfu hS h4 h5 h6 hac h7 h8
    obtain ⟨fu, rfl⟩ : ∃ q, fuel = q + 1 := ⟨fuel - 1, by omega⟩
    have dl : dg n e q < n := Nat.mod_lt _ (by omega)
    have fb := fiN_b h hS 6
    have fb' : fiS g S ≤ 54 := fb
    have mb := moN_b h dl
    have ub := uN_d (g := g) (i := dg n e q) (a := 0) (fiS g S)
    rw [Nat.zero_add, show uN g (dg n e q) 0 = 0 from rfl] at ub
    have e4 := i32N h4 (by omega)
    rw [fX12_countsBy_15]
    refine vLe (fun g' => by exfalso; omega) (fun _ => ?_)
    refine vNz (by omega) ?_
    refine vR fun x2 e2 => ?_
    have f2 : x2.toInt = ((n ^ e : Nat) : Int) := by rw [e2]; exact divP h7 h2 (by omega)
    have p2 := powPos (n := n) (p := e) (by omega)
    rw [← f2] at p2
    refine vNz (by omega) ?_
    refine vR fun x4 e4' => ?_
    refine vNz (by omega) ?_
    refine vR fun x6 e6 => ?_
    have f6 : x6.toInt = (dg n e q : Int) := by rw [e6, e4']; exact digI h1 f2 (by omega) h2
    have i6 := i32N f6 (by omega)
    refine vAl (x := l4 >>> (x6 &&& 31)) rfl ?_
    refine vAl (x := if S.testBit (dg n e q) = true then 1 else 0) (by rw [e4, i6]; exact (bit_I S (by omega) _ (by omega)).symm) ?_
    by_cases z : S.testBit (dg n e q) = true
    · rw [if_pos z, if_neg (show ¬ ¬ (1 : Int32) = 1 from not_not_intro rfl)]
      exact rP (Or.inr ⟨fun w => (by have := w.1; rw [z] at this; cases this), cm1⟩)
    · rw [if_neg z, if_pos (show ¬ (0 : Int32) = 1 by decide)]
      have zf : S.testBit (dg n e q) = false := Bool.eq_false_iff.mpr z
      have al := adS_lt hS dl
      have k3 : (Int32.ofNat (adS S (dg n e q))).toInt = (adS S (dg n e q) : Int) := Int32.toInt_ofNat_of_lt (by omega)
      have fa := fiS_ad (g := g) zf (show dg n e q < 6 by omega)
      refine vAl (x := (1 : Int32) <<< (x6 &&& 31)) rfl ?_
      refine vAl (x := Int32.ofNat (adS S (dg n e q))) (by rw [e4, i6]; exact (bit_J S (by omega) _ (by omega)).symm) ?_
      refine vBindP (ab_e hg h dl fb' f6 h5) fun x _ hx => ?_
      dsimp only
      refine vA (by omega) fun x14 q14 f14 => ?_
      refine vM (v := 4 * (dg n e q : Int)) (by rw [c4, f6]) (by omega) fun x15 q15 f15 => ?_
      refine vA (by omega) fun x16 q16 f16 => ?_
      refine vA (by omega) fun x17 q17 f17 => ?_
      refine vIn (by omega) (by omega) fun _ => ?_
      rw [wN (x := x17) (n := 1523 + 4 * dg n e q) (by omega)]
      refine vAl (x := g (1523 + 4 * dg n e q)) (by rw [← hg]) ?_
      refine vA (by omega) fun x20 q20 f20 => ?_
      refine vA (by omega) fun x21 q21 f21 => ?_
      refine vOk_mono (ih (adS S (dg n e q)) (k + 1) (acc + uN g (dg n e q) (fiS g S)) fu _ x20 x14 x2 x21 (by omega) (by omega) al k3 (by omega) (by omega) (by omega) f2 (by omega)) fun p hp => ⟨hp.1, ?_⟩
      rcases hp.2 with ⟨w1, w2⟩ | ⟨w1, w2⟩
      · refine Or.inl ⟨⟨zf, w1⟩, ?_⟩
        rw [w2, fa]
        show ((acc + uN g (dg n e q) (fiS g S) + rst n (uN g) (moN g) e (fiS g S + moN g (dg n e q)) q : Nat) : Int) = ((acc + (uN g (dg n e q) (fiS g S) + rst n (uN g) (moN g) e (fiS g S + moN g (dg n e q)) q) : Nat) : Int)
        rw [Nat.add_assoc]
      · exact Or.inr ⟨fun w => w1 w.2, w2⟩
/-- what an order counts -/
theorem ct_e {g : Nat → Int32} (hg : m.1 292 = g) (h : mdOk g n) (hn : 1 ≤ n) {q : Nat} (h1 : a1.toInt = (q : Int)) (h2 : a2.toInt = (n : Int)) (h3 : a3.toInt = ((n ^ n : Nat) : Int)) : vOk (PP m (fun x : Int32 => (vld n n 0 q ∧ x.toInt = (cst n (cM g n) n 0 q : Int)) ∨ (¬ vld n n 0 q ∧ x.toInt = -1))) (fX12_countsBy 291 a1 a2 a3 m) := by
  have cF := xFu
  have n6 := h.1
  have f0 : fiS g 0 = 0 := fiN_0 6
  unfold fX12_countsBy fX12_countsBy_0
  refine vOk_mono (cb15 hg h hn h2 h1 n 0 0 0 xFuel 0 0 0 a3 0 (by omega) (by omega) (Nat.two_pow_pos n) rfl (by rw [f0]; rfl) rfl (Nat.zero_le _) h3 rfl) fun p hp => ⟨hp.1, ?_⟩
  rcases hp.2 with ⟨w1, w2⟩ | w
  · refine Or.inl ⟨w1, ?_⟩
    have r := rst_cst (n := n) (u := uN g) (mo := moN g) (fi := fiS g) (by omega) (fun S b hb ht => fiS_ad ht (by omega)) uN_mono n 0 q (fr_0 n) w1
    have z : ∀ k, sD n (fun i => uN g i (fiS g 0)) k q = 0 := by
      intro k
      rw [f0]
      induction k with
      | zero => rfl
      | succ k ih =>
        show uN g (dg n k q) 0 + sD n (fun i => uN g i 0) k q = 0
        rw [ih]
        rfl
    rw [w2, r, z n, Nat.zero_add, Nat.add_zero]
    rfl
  · exact Or.inr w
/-- the best of the codes below q -/
def bst (g : Nat → Int32) (n q : Nat) (l4 l5 : Int32) : Prop := (l4.toInt = -1 ∧ l5.toInt = 0 ∧ ∀ q', q' < q → ¬ vld n n 0 q') ∨ ∃ f, f < q ∧ l5.toInt = (f : Int) ∧ vld n n 0 f ∧ l4.toInt = (cst n (cM g n) n 0 f : Int) ∧ (∀ q', q' < q → vld n n 0 q' → cst n (cM g n) n 0 f ≤ cst n (cM g n) n 0 q') ∧ ∀ q', q' < f → vld n n 0 q' → cst n (cM g n) n 0 f < cst n (cM g n) n 0 q'
theorem bst_end {g : Nat → Int32} (h : mdOk g n) (hn : 1 ≤ n) {l4 l5 : Int32} (hb : bst g n (n ^ n) l4 l5) : l4.toInt = (FM g n 0 : Int) ∧ l5.toInt = (gC n (cM g n) n 0 : Int) := by
  have gl := gC_lt (n := n) (c := cM g n) (by omega) n 0
  obtain ⟨gv, gc⟩ := gC_ok (n := n) (c := cM g n) (by omega) n 0 (gC n (cM g n) n 0) (fr_0 n) (Nat.mod_eq_of_lt gl)
  have fm : FM g n 0 = Fm n (cM g n) n 0 := by unfold FM; rw [fr_0]
  rcases hb with ⟨_, _, b⟩ | ⟨f, f1, f2, f3, f4, f5, f6⟩
  · exact absurd gv (b _ gl)
  · obtain ⟨x1, x2⟩ := best (n := n) (c := cM g n) (by omega) n 0 f f3
    have a := f5 _ gl gv
    have eq : cst n (cM g n) n 0 f = Fm n (cM g n) n 0 := by omega
    have b := x2 eq
    rw [Nat.mod_eq_of_lt f1] at b
    have c : f = gC n (cM g n) n 0 := by
      by_cases z : gC n (cM g n) n 0 < f
      · have := f6 _ z gv
        omega
      · omega
    exact ⟨by rw [f4, eq, fm], by rw [f2, c]⟩
theorem or117 (hn : 1 ≤ n) (n6 : n ≤ 6) {l2 : Int32} (h2 : l2.toInt = (n : Int)) {i f : Nat} (hi : i < n) (h1 : a1.toInt = (i : Int)) : ∀ (e fuel : Nat) (l5 l6 : Int32), e < fuel → l6.toInt = (i : Int) + (e : Int) → e ≤ 6 → l5.toInt = ((f / n ^ (n - 1 - i - e) : Nat) : Int) → e ≤ n - 1 - i → vOk (PP m (fun x : Int32 => x.toInt = (dg n (n - 1 - i) f : Int))) (fX12_order_117 291 a1 fuel l2 l5 l6 m) := by
  have c0 : (0 : Int32).toInt = 0 := rfl
  have cm1 : (-1 : Int32).toInt = -1 := rfl
  intro e
  induction e with
  | zero =>
    intro fuel l5 l6 hfu h6 _ h5 _
    obtain ⟨fu, rfl⟩ : ∃ q, fuel = q + 1 := ⟨fuel - 1, by omega⟩
    rw [Nat.sub_zero] at h5
    rw [fX12_order_117]
    refine vLe (fun _ => ?_) (fun g' => by exfalso; omega)
    refine vNz (by omega) ?_
    refine vR fun x2 e2 => ?_
    refine rP ?_
    have t := tiB l5
    rw [e2, show xRem l5 l2 = l5 % l2 from rem_e _ _, Int32.toInt_mod, h5, h2, Int.tmod_eq_emod_of_nonneg (Int.natCast_nonneg _), ← Int.natCast_emod]
    rfl
  | succ e ih =>
    intro fuel l5 l6 hfu h6 h66 h5 hel
    obtain ⟨fu, rfl⟩ : ∃ q, fuel = q + 1 := ⟨fuel - 1, by omega⟩
    have t := tiB l5
    rw [fX12_order_117]
    refine vLe (fun g' => by exfalso; omega) (fun _ => ?_)
    refine vNz (by omega) ?_
    refine vR fun x4 e4 => ?_
    refine vA (by omega) fun x6 q6 f6 => ?_
    refine ih fu x4 x6 (by omega) (by omega) (by omega) ?_ (by omega)
    have d : ((f / n ^ (n - 1 - i - (e + 1)) / n : Nat) : Int) ≤ ((f / n ^ (n - 1 - i - (e + 1)) : Nat) : Int) := Int.ofNat_le.mpr (Nat.div_le_self _ n)
    have d0 : (0 : Int) ≤ ((f / n ^ (n - 1 - i - (e + 1)) / n : Nat) : Int) := Int.natCast_nonneg _
    have e1 : x4.toInt = ((f / n ^ (n - 1 - i - (e + 1)) / n : Nat) : Int) := by
      rw [e4, Int32.toInt_div, h5, h2, ← Int.ofNat_tdiv]
      rw [h5] at t
      generalize ((f / n ^ (n - 1 - i - (e + 1)) / n : Nat) : Int) = y at d d0 ⊢
      generalize ((f / n ^ (n - 1 - i - (e + 1)) : Nat) : Int) = z at d t
      exact Int.bmod_eq_of_le (by omega) (by omega)
    rw [e1, Nat.div_div_eq_div_mul, ← Nat.pow_succ, show (n - 1 - i - (e + 1)).succ = n - 1 - i - e by omega]
theorem or55 {g : Nat → Int32} (hg : m.1 292 = g) (h : mdOk g n) (hn : 1 ≤ n) {l2 l3 : Int32} (h2 : l2.toInt = (n : Int)) (h3 : l3.toInt = ((n ^ n : Nat) : Int)) (hr : -1 ≤ a1.toInt ∧ a1.toInt ≤ (n : Int) - 1) : ∀ (e q fuel : Nat) (l4 l5 l6 : Int32), q + e = n ^ n → e < fuel → l6.toInt = (q : Int) → bst g n q l4 l5 → vOk (PP m (fun x : Int32 => x.toInt = ordV g n a1)) (fX12_order_55 291 a1 fuel l2 l3 l4 l5 l6 m) := by
  have c0 : (0 : Int32).toInt = 0 := rfl
  have c1 : (1 : Int32).toInt = 1 := rfl
  have cm1 : (-1 : Int32).toInt = -1 := rfl
  have cF := xFu
  have n6 := h.1
  have t3 := tiB l3
  have ov : ordV g n a1 = if a1 = -1 then (FM g n 0 : Int) else (dg n (n - 1 - a1.toInt.toNat) (gC n (cM g n) n 0) : Int) := if_neg (fun w => w.elim (fun w => by omega) (fun w => w hr))
  intro e
  induction e with
  | zero =>
    intro q fuel l4 l5 l6 hqe hfu h6 hb
    obtain ⟨fu, rfl⟩ : ∃ q, fuel = q + 1 := ⟨fuel - 1, by omega⟩
    have eq : q = n ^ n := by omega
    subst eq
    obtain ⟨b1, b2⟩ := bst_end h hn hb
    rw [ov]
    rw [fX12_order_55]
    refine vLe (fun _ => ?_) (fun g' => by exfalso; omega)
    refine vNe (fun g2 => ?_) (fun g2 => ?_)
    · refine vS (by omega) fun x3 q3 f3 => ?_
      refine vOk_mono (or117 (a1 := a1) (f := gC n (cM g n) n 0) hn n6 h2 (i := a1.toInt.toNat) (by omega) (by omega) (n - 1 - a1.toInt.toNat) xFuel l5 x3 (by omega) (by omega) (by omega) (by rw [Nat.sub_self, Nat.pow_zero, Nat.div_one]; exact b2) (Nat.le_refl _)) fun p hp => ⟨hp.1, ?_⟩
      rw [if_neg (fun w => g2 (congrArg _ w))]
      exact hp.2
    · refine rP ?_
      rw [if_pos (show a1 = -1 from Int32.toInt_inj.mp g2)]
      exact b1
  | succ e ih =>
    intro q fuel l4 l5 l6 hqe hfu h6 hb
    obtain ⟨fu, rfl⟩ : ∃ q, fuel = q + 1 := ⟨fuel - 1, by omega⟩
    have ql : (q : Int) + 1 ≤ ((n ^ n : Nat) : Int) := by omega
    have r98 : ∀ x4 x5 : Int32, bst g n (q + 1) x4 x5 → vOk (PP m (fun x : Int32 => x.toInt = ordV g n a1)) (fX12_order_98 291 a1 (fX12_order_55 291 a1 fu) l2 l3 x4 x5 l6 m) := by
      intro x4 x5 hx
      unfold fX12_order_98
      refine vA (by omega) fun y q1 f1 => ?_
      exact ih (q + 1) fu x4 x5 y (by omega) (by omega) (by omega) hx
    rw [fX12_order_55]
    refine vLe (fun g' => by exfalso; omega) (fun _ => ?_)
    refine vBindP (ct_e hg h hn h6 h2 h3) fun x _ hx => ?_
    dsimp only
    rcases hx with ⟨w1, w2⟩ | ⟨w1, w2⟩
    · refine vEq (fun g' => by exfalso; omega) (fun _ => ?_)
      have new : (∀ q', q' < q → vld n n 0 q' → cst n (cM g n) n 0 q < cst n (cM g n) n 0 q') → bst g n (q + 1) x l6 := by
        intro lo
        refine Or.inr ⟨q, Nat.lt_succ_self q, h6, w1, w2, fun q' hq' hv => ?_, lo⟩
        by_cases z : q' = q
        · rw [z]; exact Nat.le_refl _
        · exact Nat.le_of_lt (lo q' (by omega) hv)
      rcases hb with ⟨b1, b2, b3⟩ | ⟨f, b1, b2, b3, b4, b5, b6⟩
      · refine vEq (fun _ => ?_) (fun g' => by exfalso; omega)
        unfold fX12_order_90
        exact r98 x l6 (new fun q' hq' hv => absurd hv (b3 q' hq'))
      · refine vEq (fun g' => by exfalso; omega) (fun _ => ?_)
        refine vLe (fun g' => ?_) (fun g' => ?_)
        · refine r98 l4 l5 (Or.inr ⟨f, by omega, b2, b3, b4, fun q' hq' hv => ?_, b6⟩)
          by_cases z : q' = q
          · rw [z]; omega
          · exact b5 q' (by omega) hv
        · unfold fX12_order_90
          refine r98 x l6 (new fun q' hq' hv => ?_)
          have := b5 q' hq' hv
          omega
    · refine vEq (fun _ => ?_) (fun g' => by exfalso; omega)
      refine r98 l4 l5 ?_
      rcases hb with ⟨b1, b2, b3⟩ | ⟨f, b1, b2, b3, b4, b5, b6⟩
      · refine Or.inl ⟨b1, b2, fun q' hq' => ?_⟩
        by_cases z : q' = q
        · rw [z]; exact w1
        · exact b3 q' (by omega)
      · refine Or.inr ⟨f, by omega, b2, b3, b4, fun q' hq' hv => ?_, b6⟩
        by_cases z : q' = q
        · rw [z] at hv; exact absurd hv w1
        · exact b5 q' (by omega) hv
theorem or30 {g : Nat → Int32} (hg : m.1 292 = g) (h : mdOk g n) (hn : 1 ≤ n) {l2 : Int32} (h2 : l2.toInt = (n : Int)) (hr : -1 ≤ a1.toInt ∧ a1.toInt ≤ (n : Int) - 1) : ∀ (e k fuel : Nat) (l3 l4 : Int32), k + e = n → e < fuel → l4.toInt = (k : Int) → l3.toInt = ((n ^ k : Nat) : Int) → vOk (PP m (fun x : Int32 => x.toInt = ordV g n a1)) (fX12_order_30 291 a1 fuel l2 l3 l4 m) := by
  have c0 : (0 : Int32).toInt = 0 := rfl
  have c1 : (1 : Int32).toInt = 1 := rfl
  have cm1 : (-1 : Int32).toInt = -1 := rfl
  have cF := xFu
  have n6 := h.1
  intro e
  induction e with
  | zero =>
    intro k fuel l3 l4 hke hfu h4 h3
    obtain ⟨fu, rfl⟩ : ∃ q, fuel = q + 1 := ⟨fuel - 1, by omega⟩
    have ek : k = n := by omega
    subst ek
    have q : k ^ k ≤ 46656 := Nat.le_trans (Nat.pow_le_pow_left n6 k) (Nat.le_trans (Nat.pow_le_pow_right (by omega) n6) (by decide))
    rw [fX12_order_30]
    refine vLe (fun _ => ?_) (fun g' => by exfalso; omega)
    exact or55 hg h hn h2 h3 hr (k ^ k) 0 xFuel (-1) 0 0 (by omega) (by omega) rfl (Or.inl ⟨rfl, rfl, fun q' hq' => absurd hq' (Nat.not_lt_zero q')⟩)
  | succ e ih =>
    intro k fuel l3 l4 hke hfu h4 h3
    obtain ⟨fu, rfl⟩ : ∃ q, fuel = q + 1 := ⟨fuel - 1, by omega⟩
    have q : n ^ (k + 1) ≤ 46656 := Nat.le_trans (Nat.pow_le_pow_left n6 (k + 1)) (Nat.le_trans (Nat.pow_le_pow_right (by omega) (show k + 1 ≤ 6 by omega)) (by decide))
    have q2 : ((n ^ (k + 1) : Nat) : Int) ≤ 46656 := Int.ofNat_le.mpr q
    have q3 := powPos (n := n) (p := k + 1) (by omega)
    rw [fX12_order_30]
    refine vLe (fun g' => by exfalso; omega) (fun _ => ?_)
    refine vM (v := ((n ^ (k + 1) : Nat) : Int)) (by rw [h3, h2, Nat.pow_succ, Int.natCast_mul]) (by omega) fun x2 e2 f2 => ?_
    refine vA (by omega) fun x3 e3 f3 => ?_
    exact ih (k + 1) fu x2 x3 (by omega) (by omega) (by omega) f2
theorem order_re {g : Nat → Int32} (hg : m.1 292 = g) (h : mdOk g n) (h7 : (g 7).toInt = (n : Int)) : vOk (PP m (fun x : Int32 => x.toInt = ordV g n a1)) (fX12_order 291 a1 m) := by
  have c0 : (0 : Int32).toInt = 0 := rfl
  have c1 : (1 : Int32).toInt = 1 := rfl
  have c7 : (7 : Int32).toInt = 7 := rfl
  have cm1 : (-1 : Int32).toInt = -1 := rfl
  have cF := xFu
  have n6 := h.1
  unfold fX12_order fX12_order_0
  refine vIn (by omega) (by omega) fun _ => ?_
  refine vAl (x := g 7) (by rw [← hg]; rfl) ?_
  refine vEq (fun g' => ?_) (fun g' => ?_)
  · unfold fX12_order_23
    refine rP ?_
    rw [show ordV g n a1 = -1 from if_pos (Or.inl (by omega))]
    exact cm1
  · refine vS (by omega) fun x4 e4 f4 => ?_
    refine vAlB (in_e _ _ _ _) ?_
    dsimp only
    by_cases g1 : -1 ≤ a1.toInt ∧ a1.toInt ≤ (n : Int) - 1
    · rw [wi_1 (by omega), if_pos (show ¬ (1 : Int32) = 0 by decide)]
      exact or30 hg h (by omega) h7 g1 n 0 xFuel 1 0 (by omega) (by omega) rfl (by rw [Nat.pow_zero]; rfl)
    · rw [wi_0 (by omega), if_neg (not_not_intro rfl)]
      unfold fX12_order_23
      refine rP ?_
      rw [show ordV g n a1 = -1 from if_pos (Or.inr g1)]
      exact cm1
end
/-! both -/
section
variable {m : xMem} {p : Int32 × xMem} {a1 : Int32}
theorem or_facts (h : InvW m) : MH m (m.1 292) (m.1 292 7).toNatClampNeg ∧ ((m.1 292 7).toInt = ((m.1 292 7).toNatClampNeg : Int)) := by
  obtain ⟨⟨l0, l1⟩, l2⟩ := h.2.1.2.2.1
  have e := clampI l0
  have k : m.1 8 5 = m.1 292 7 := h.1.2.2.1.1.2.2.2.2.2.1
  refine ⟨⟨⟨by omega, fun i hi => (l2 i (by omega)).2⟩, by rw [k]; omega, fun i hi => (l2 i (by omega)).1⟩, e.symm⟩
theorem ca_order (h : InvW m) : vOk (fun p : Int32 × xMem => InvW p.2 ∧ ((∀ j, p.2.1 292 j = m.1 292 j) ∧ p.1.toInt = ordV (m.1 292) (m.1 292 7).toNatClampNeg a1)) (fX11_order 0 a1 m) := by
  obtain ⟨k1, k2⟩ := or_facts h
  refine vOk_mono (vAnd2 (cw_order (a1 := a1) h) (order_c (a1 := a1) k1)) fun q hq => ⟨hq.1, fun j => hq.2.1.2 292 j (by omega), hq.2.2⟩
theorem ra_order (h : InvW m) (hp : InvW p.2 ∧ ((∀ j, p.2.1 292 j = m.1 292 j) ∧ p.1.toInt = ordV (m.1 292) (m.1 292 7).toNatClampNeg a1)) : vOk (fun q : Int32 × xMem => InvW q.2 ∧ p.1 = q.1) (fX12_order 291 a1 p.2) := by
  obtain ⟨k1, k2⟩ := or_facts h
  have e : p.2.1 292 = m.1 292 := funext hp.2.1
  refine vOk_mono (vAnd2 (rw_order (a1 := a1) hp.1) (order_re (m := p.2) (a1 := a1) e k1.1 k2)) fun q hq => ⟨hq.1, ?_⟩
  refine Int32.toInt_inj.mp ?_
  rw [hp.2.2, hq.2.2]
end
