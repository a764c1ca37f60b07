/-! SAFETY of the reference: what is bound, what is kept -/
abbrev bw (lo hi : Int) (x : Int32) : Prop := lo ≤ x.toInt ∧ x.toInt ≤ hi
/-- a row of 1610 that the reference may hold -/
def GA (g : Nat → Int32) : Prop :=
  (bw 0 6 (g 1) ∧ bw 0 10 (g 2) ∧ bw 0 30 (g 3) ∧ bw 0 4 (g 4) ∧ bw (-1) 3 (g 5) ∧ bw 0 40 (g 6) ∧ bw 0 6 (g 7) ∧ bw 0 60 (g 8))
  ∧ (∀ l : Nat, l < 10 → bw 0 2 (g (210 + 14 * l)) ∧ bw 0 5 (g (211 + 14 * l)) ∧ bw 0 5 (g (212 + 14 * l)) ∧ bw 0 40 (g (213 + 14 * l)) ∧ bw 0 99 (g (214 + 14 * l)))
  ∧ (∀ l : Nat, (l : Int) < (g 2).toInt → (g (210 + 14 * l)).toInt = 2 → 1 ≤ (g (214 + 14 * l)).toInt)
  ∧ (∀ k : Nat, k < 30 → bw 0 5 (g (362 + 7 * k)) ∧ bw 0 5 (g (363 + 7 * k)) ∧ bw 0 1 (g (365 + 7 * k)))
  ∧ (∀ j : Nat, j < 800 → bw (-1) 15 (g (580 + j)))
  ∧ (∀ j : Nat, j < 60 → bw 0 80 (g (1550 + j)))
/-- cells that a second, and calls that only look, leave -/
def KR (b j : Nat) : Prop := ¬ (309 ≤ b ∧ b ≤ 316) ∧ ¬ (b = 292 ∧ ((9 ≤ j ∧ j ≤ 12) ∨ (20 ≤ j ∧ j < 202) ∨ (210 ≤ j ∧ j < 350 ∧ 5 ≤ (j - 210) % 14) ∨ (580 ≤ j ∧ j < 1380)))
def IR (R m : xMem) : Prop := (∀ b j, KR b j → m.1 b j = R.1 b j) ∧ (∀ j : Nat, j < 800 → bw (-1) 15 (m.1 292 (580 + j))) ∧ (∀ j, bw 0 1 (m.1 311 j)) ∧ (∀ j, bw 0 2 (m.1 314 j))
/-- the code from place i on, with h on the pile, comes to its end: e orders at most -/
def okCode (o v : Nat → Int32) : Nat → Nat → Nat → Prop
  | 0, _, _ => False
  | e + 1, i, h => i < 1600 ∧ ((o i).toInt = 408 ∨ (¬ (o i).toInt = 408 ∧
      (((o i).toInt = 400 ∧ h < 200 ∧ okCode o v e (i + 1) (h + 1))
      ∨ ((o i).toInt = 401 ∧ h < 200 ∧ (0 ≤ (v i).toInt ∧ (v i).toInt ≤ 7) ∧ okCode o v e (i + 1) (h + 1))
      ∨ (((o i).toInt = 402 ∨ (o i).toInt = 405) ∧ 1 ≤ h ∧ h ≤ 200 ∧ okCode o v e (i + 1) h)
      ∨ (¬ ((o i).toInt = 400 ∨ (o i).toInt = 401 ∨ (o i).toInt = 402 ∨ (o i).toInt = 405) ∧ 2 ≤ h ∧ h ≤ 200 ∧ okCode o v e (i + 1) (h - 1)))))
def VC (R : xMem) (x : Int32) : Prop := 0 ≤ x.toInt ∧ okCode (R.1 299) (R.1 300) 400 x.toNatClampNeg 0
def GT (R : xMem) : Prop := (∀ j, bw 0 10 (R.1 296 j)) ∧ ∀ t : Nat, t < 4 → ∀ k : Nat, (k : Int) < (R.1 296 t).toInt → VC R (R.1 298 (10 * t + k))
def GR (R : xMem) : Prop := GA (R.1 292) ∧ GT R
theorem kA {R m : xMem} (h : IR R m) {j : Nat} (hj : ¬ ((9 ≤ j ∧ j ≤ 12) ∨ (20 ≤ j ∧ j < 202) ∨ (210 ≤ j ∧ j < 350 ∧ 5 ≤ (j - 210) % 14) ∨ (580 ≤ j ∧ j < 1380))) : m.1 292 j = R.1 292 j :=
  h.1 292 j ⟨by omega, fun q => hj q.2⟩
section
variable {R m : xMem} {x v : Int32} {b : Nat}
theorem clN {n : Nat} (h : x.toInt = (n : Int)) : x.toNatClampNeg = n := by
  have e : x.toNatClampNeg = x.toInt.toNat := rfl
  omega
theorem rdc1 (hG : GR R) (h : IR R m) (hx : x.toInt = 1) : bw (0) 6 (m.1 292 x.toNatClampNeg) := by
  rw [clN (n := 1) hx, kA h (by omega)]
  exact hG.1.1.1
theorem rdc2 (hG : GR R) (h : IR R m) (hx : x.toInt = 2) : bw (0) 10 (m.1 292 x.toNatClampNeg) := by
  rw [clN (n := 2) hx, kA h (by omega)]
  exact hG.1.1.2.1
theorem rdc3 (hG : GR R) (h : IR R m) (hx : x.toInt = 3) : bw (0) 30 (m.1 292 x.toNatClampNeg) := by
  rw [clN (n := 3) hx, kA h (by omega)]
  exact hG.1.1.2.2.1
theorem rdc4 (hG : GR R) (h : IR R m) (hx : x.toInt = 4) : bw (0) 4 (m.1 292 x.toNatClampNeg) := by
  rw [clN (n := 4) hx, kA h (by omega)]
  exact hG.1.1.2.2.2.1
theorem rdc5 (hG : GR R) (h : IR R m) (hx : x.toInt = 5) : bw (-1) 3 (m.1 292 x.toNatClampNeg) := by
  rw [clN (n := 5) hx, kA h (by omega)]
  exact hG.1.1.2.2.2.2.1
theorem rdc6 (hG : GR R) (h : IR R m) (hx : x.toInt = 6) : bw (0) 40 (m.1 292 x.toNatClampNeg) := by
  rw [clN (n := 6) hx, kA h (by omega)]
  exact hG.1.1.2.2.2.2.2.1
theorem rdc7 (hG : GR R) (h : IR R m) (hx : x.toInt = 7) : bw (0) 6 (m.1 292 x.toNatClampNeg) := by
  rw [clN (n := 7) hx, kA h (by omega)]
  exact hG.1.1.2.2.2.2.2.2.1
theorem rdc8 (hG : GR R) (h : IR R m) (hx : x.toInt = 8) : bw (0) 60 (m.1 292 x.toNatClampNeg) := by
  rw [clN (n := 8) hx, kA h (by omega)]
  exact hG.1.1.2.2.2.2.2.2.2
theorem rdl0 (hG : GR R) (h : IR R m) (hx : 210 ≤ x.toInt ∧ x.toInt < 350 ∧ (x.toInt - 210) % 14 = 0) : bw 0 2 (m.1 292 x.toNatClampNeg) := by
  have e : x.toNatClampNeg = x.toInt.toNat := rfl
  have q : x.toNatClampNeg = 210 + 14 * ((x.toInt - 210) / 14).toNat := by omega
  rw [kA h (by omega), q]
  exact (hG.1.2.1 _ (by omega)).1
theorem rdl1 (hG : GR R) (h : IR R m) (hx : 210 ≤ x.toInt ∧ x.toInt < 350 ∧ (x.toInt - 210) % 14 = 1) : bw 0 5 (m.1 292 x.toNatClampNeg) := by
  have e : x.toNatClampNeg = x.toInt.toNat := rfl
  have q : x.toNatClampNeg = 211 + 14 * ((x.toInt - 210) / 14).toNat := by omega
  rw [kA h (by omega), q]
  exact (hG.1.2.1 _ (by omega)).2.1
theorem rdl2 (hG : GR R) (h : IR R m) (hx : 210 ≤ x.toInt ∧ x.toInt < 350 ∧ (x.toInt - 210) % 14 = 2) : bw 0 5 (m.1 292 x.toNatClampNeg) := by
  have e : x.toNatClampNeg = x.toInt.toNat := rfl
  have q : x.toNatClampNeg = 212 + 14 * ((x.toInt - 210) / 14).toNat := by omega
  rw [kA h (by omega), q]
  exact (hG.1.2.1 _ (by omega)).2.2.1
theorem rdl3 (hG : GR R) (h : IR R m) (hx : 210 ≤ x.toInt ∧ x.toInt < 350 ∧ (x.toInt - 210) % 14 = 3) : bw 0 40 (m.1 292 x.toNatClampNeg) := by
  have e : x.toNatClampNeg = x.toInt.toNat := rfl
  have q : x.toNatClampNeg = 213 + 14 * ((x.toInt - 210) / 14).toNat := by omega
  rw [kA h (by omega), q]
  exact (hG.1.2.1 _ (by omega)).2.2.2.1
theorem rdl4 (hG : GR R) (h : IR R m) (hx : 210 ≤ x.toInt ∧ x.toInt < 350 ∧ (x.toInt - 210) % 14 = 4) : bw 0 99 (m.1 292 x.toNatClampNeg) := by
  have e : x.toNatClampNeg = x.toInt.toNat := rfl
  have q : x.toNatClampNeg = 214 + 14 * ((x.toInt - 210) / 14).toNat := by omega
  rw [kA h (by omega), q]
  exact (hG.1.2.1 _ (by omega)).2.2.2.2
theorem rdcyc (hG : GR R) (h : IR R m) {y z w : Int32} (hw : w.toInt = 2) (hx : 210 ≤ x.toInt ∧ x.toInt < 350) {l : Int} (h0 : x.toInt = 210 + 14 * l) (hl : l < (m.1 292 w.toNatClampNeg).toInt) (hy : y.toInt = x.toInt + 4) (hk : 2 ≤ (m.1 292 x.toNatClampNeg).toInt) : ¬ (m.1 292 y.toNatClampNeg).toInt = 0 := by
  have e : x.toNatClampNeg = x.toInt.toNat := rfl
  have e2 : y.toNatClampNeg = y.toInt.toNat := rfl
  rw [clN (n := 2) hw, kA h (by omega)] at hl
  have q : x.toNatClampNeg = 210 + 14 * l.toNat := by omega
  have q2 : y.toNatClampNeg = 214 + 14 * l.toNat := by omega
  rw [kA h (by omega), q] at hk
  rw [kA h (by omega), q2]
  have := (hG.1.2.1 l.toNat (by omega)).1.2
  have := hG.1.2.2.1 l.toNat (by omega) (by omega)
  omega
theorem rdb2 (hG : GR R) (h : IR R m) (hx : 360 ≤ x.toInt ∧ x.toInt < 570 ∧ (x.toInt - 360) % 7 = 2) : bw 0 5 (m.1 292 x.toNatClampNeg) := by
  have e : x.toNatClampNeg = x.toInt.toNat := rfl
  have q : x.toNatClampNeg = 362 + 7 * ((x.toInt - 360) / 7).toNat := by omega
  rw [kA h (by omega), q]
  exact (hG.1.2.2.2.1 _ (by omega)).1
theorem rdb3 (hG : GR R) (h : IR R m) (hx : 360 ≤ x.toInt ∧ x.toInt < 570 ∧ (x.toInt - 360) % 7 = 3) : bw 0 5 (m.1 292 x.toNatClampNeg) := by
  have e : x.toNatClampNeg = x.toInt.toNat := rfl
  have q : x.toNatClampNeg = 363 + 7 * ((x.toInt - 360) / 7).toNat := by omega
  rw [kA h (by omega), q]
  exact (hG.1.2.2.2.1 _ (by omega)).2.1
theorem rdb5 (hG : GR R) (h : IR R m) (hx : 360 ≤ x.toInt ∧ x.toInt < 570 ∧ (x.toInt - 360) % 7 = 5) : bw 0 1 (m.1 292 x.toNatClampNeg) := by
  have e : x.toNatClampNeg = x.toInt.toNat := rfl
  have q : x.toNatClampNeg = 365 + 7 * ((x.toInt - 360) / 7).toNat := by omega
  rw [kA h (by omega), q]
  exact (hG.1.2.2.2.1 _ (by omega)).2.2
theorem rds (h : IR R m) (hx : 580 ≤ x.toInt ∧ x.toInt < 1380) : bw (-1) 15 (m.1 292 x.toNatClampNeg) := by
  have e : x.toNatClampNeg = x.toInt.toNat := rfl
  have q : x.toNatClampNeg = 580 + (x.toInt - 580).toNat := by omega
  rw [q]
  exact h.2.1 _ (by omega)
theorem rdo (hG : GR R) (h : IR R m) (hx : 1550 ≤ x.toInt ∧ x.toInt < 1610) : bw 0 80 (m.1 292 x.toNatClampNeg) := by
  have e : x.toNatClampNeg = x.toInt.toNat := rfl
  have q : x.toNatClampNeg = 1550 + (x.toInt - 1550).toNat := by omega
  rw [kA h (by omega), q]
  exact hG.1.2.2.2.2.2 _ (by omega)
theorem rdt (hG : GR R) (h : IR R m) {j : Nat} : bw 0 10 (m.1 296 j) := by
  rw [h.1 296 j ⟨by omega, by omega⟩]
  exact hG.2.1 j
theorem rdh (h : IR R m) {j : Nat} : bw 0 1 (m.1 311 j) := h.2.2.1 j
theorem rdn (h : IR R m) {j : Nat} : bw 0 2 (m.1 314 j) := h.2.2.2 j
theorem IR_of {j : Nat} (h : IR R m) (hb : 309 ≤ b ∧ b ≤ 316 ∨ b = 292 ∧ ((9 ≤ j ∧ j ≤ 12) ∨ (20 ≤ j ∧ j < 202) ∨ (210 ≤ j ∧ j < 350 ∧ 5 ≤ (j - 210) % 14) ∨ (580 ≤ j ∧ j < 1380))) (h1 : b = 292 → 580 ≤ j → j < 1380 → bw (-1) 15 v) (h2 : b = 311 → bw 0 1 v) (h3 : b = 314 → bw 0 2 v) : IR R (xPut m b j v) := by
  refine ⟨fun c i hk => ?_, fun i hi => ?_, fun i => ?_, fun i => ?_⟩
  · show (if c = b ∧ i = j then v else m.1 c i) = _
    rw [if_neg (by rintro ⟨rfl, rfl⟩; unfold KR at hk; omega)]
    exact h.1 c i hk
  · show bw (-1) 15 (if 292 = b ∧ 580 + i = j then v else m.1 292 (580 + i))
    by_cases q : 292 = b ∧ 580 + i = j
    · rw [if_pos q]; exact h1 q.1.symm (by omega) (by omega)
    · rw [if_neg q]; exact h.2.1 i hi
  · show bw 0 1 (if 311 = b ∧ i = j then v else m.1 311 i)
    by_cases q : 311 = b ∧ i = j
    · rw [if_pos q]; exact h2 q.1.symm
    · rw [if_neg q]; exact h.2.2.1 i
  · show bw 0 2 (if 314 = b ∧ i = j then v else m.1 314 i)
    by_cases q : 314 = b ∧ i = j
    · rw [if_pos q]; exact h3 q.1.symm
    · rw [if_neg q]; exact h.2.2.2 i
theorem IR_a (h : IR R m) (hx : (9 ≤ x.toInt ∧ x.toInt ≤ 12) ∨ (20 ≤ x.toInt ∧ x.toInt < 202) ∨ (210 ≤ x.toInt ∧ x.toInt < 350 ∧ 5 ≤ (x.toInt - 210) % 14)) : IR R (xPut m 292 x.toNatClampNeg v) := by
  have e : x.toNatClampNeg = x.toInt.toNat := rfl
  refine IR_of h (Or.inr ⟨rfl, ?_⟩) (fun _ _ _ => ?_) (fun q => by omega) (fun q => by omega)
  · omega
  · omega
theorem IR_s (h : IR R m) (hx : 580 ≤ x.toInt ∧ x.toInt < 1380) (hv : -1 ≤ v.toInt ∧ v.toInt ≤ 15) : IR R (xPut m 292 x.toNatClampNeg v) := by
  have e : x.toNatClampNeg = x.toInt.toNat := rfl
  refine IR_of h (Or.inr ⟨rfl, ?_⟩) (fun _ _ _ => hv) (fun q => by omega) (fun q => by omega)
  omega
theorem IR_f {j : Nat} (h : IR R m) (hb : b = 309 ∨ b = 312 ∨ b = 313 ∨ b = 315 ∨ b = 316) : IR R (xPut m b j v) :=
  IR_of h (Or.inl (by omega)) (fun q => by omega) (fun q => by omega) (fun q => by omega)
theorem IR_h {j : Nat} (h : IR R m) (hv : 0 ≤ v.toInt ∧ v.toInt ≤ 1) : IR R (xPut m 311 j v) :=
  IR_of h (Or.inl (by omega)) (fun q => by omega) (fun _ => hv) (fun q => by omega)
theorem IR_n {j : Nat} (h : IR R m) (hv : 0 ≤ v.toInt ∧ v.toInt ≤ 2) : IR R (xPut m 314 j v) :=
  IR_of h (Or.inl (by omega)) (fun q => by omega) (fun q => by omega) (fun _ => hv)
theorem IR_l {j : Nat} {z : Int64} (h : IR R m) : IR R (xPutL m j z) := h
end
