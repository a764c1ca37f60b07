/-! by, fault and runs on the reference's side -/
theorem GR_of {R S : xMem} (h : ∀ j, 1 ≤ j → S.1 292 j = R.1 292 j) (h2 : ∀ b, 293 ≤ b → ∀ j, S.1 b j = R.1 b j) (hG : GR R) : GR S := by
  obtain ⟨⟨⟨a1, a2, a3, a4, a5, a6, a7, a8⟩, b, c, d, e, f⟩, g, k⟩ := hG
  refine ⟨⟨⟨?_, ?_, ?_, ?_, ?_, ?_, ?_, ?_⟩, fun l hl => ?_, fun l hl hk => ?_, fun i hi => ?_, fun j hj => ?_, fun j hj => ?_⟩, fun j => ?_, fun t ht i hi => ?_⟩
  · rw [h 1 (by omega)]; exact a1
  · rw [h 2 (by omega)]; exact a2
  · rw [h 3 (by omega)]; exact a3
  · rw [h 4 (by omega)]; exact a4
  · rw [h 5 (by omega)]; exact a5
  · rw [h 6 (by omega)]; exact a6
  · rw [h 7 (by omega)]; exact a7
  · rw [h 8 (by omega)]; exact a8
  · rw [h (210 + 14 * l) (by omega), h (211 + 14 * l) (by omega), h (212 + 14 * l) (by omega), h (213 + 14 * l) (by omega), h (214 + 14 * l) (by omega)]; exact b l hl
  · rw [h 2 (by omega)] at hl
    rw [h (210 + 14 * l) (by omega)] at hk
    rw [h (214 + 14 * l) (by omega)]; exact c l hl hk
  · rw [h (362 + 7 * i) (by omega), h (363 + 7 * i) (by omega), h (365 + 7 * i) (by omega)]; exact d i hi
  · rw [h (580 + j) (by omega)]; exact e j hj
  · rw [h (1550 + j) (by omega)]; exact f j hj
  · rw [h2 296 (by omega)]; exact g j
  · rw [h2 296 (by omega)] at hi
    have e9 : S.1 299 = R.1 299 := funext (h2 299 (by omega))
    have e10 : S.1 300 = R.1 300 := funext (h2 300 (by omega))
    have q := k t ht i hi
    rw [h2 298 (by omega)]
    unfold VC at q ⊢
    rw [e9, e10]
    exact q
def bumpN : Nat → xMem → xMem
  | 0, R => R
  | k + 1, R => bumpN k (xPut R 292 0 (R.1 292 0 + 1))
theorem GR_bump {R : xMem} {v : Int32} (hG : GR R) : GR (xPut R 292 0 v) :=
  GR_of (fun j hj => (xP_sl (show j ≠ 0 by omega)).symm) (fun b hb j => (xP_pl (show b ≠ 292 by omega)).symm) hG
theorem runs_loop {a1 : Int32} : ∀ (e n : Nat) (l2 : Int32) (R m : xMem), l2.toInt + e = a1.toInt → 0 ≤ l2.toInt → GR R → IR R m → vOk (IR (bumpN e R)) (fX12_runs_2 291 a1 (n + 1 + e) l2 m) := by
  have c1 : (1 : Int32).toInt = 1 := rfl
  intro e
  induction e with
  | zero =>
    intro n l2 R m he h2 hG hI
    rw [show n + 1 + 0 = n + 1 from rfl, fX12_runs_2]
    refine vLe (fun g => ?_) (fun g => ?_)
    · exact vOk_some hI
    · exfalso; omega
  | succ e ih =>
    intro n l2 R m he h2 hG hI
    have ta := tiB a1
    rw [show n + 1 + (e + 1) = n + 1 + e + 1 from rfl, fX12_runs_2]
    refine vLe (fun g => ?_) (fun g => ?_)
    · exfalso; omega
    · refine vOk_bind (fX12_second_s hG hI) fun m2 h => ?_
      refine vA (by omega) fun v3 e3 f3 => ?_
      exact ih n v3 _ m2 (by omega) (by omega) (GR_bump hG) h
theorem runs_r {R m : xMem} {a1 : Int32} (hn : 0 ≤ a1.toInt ∧ a1.toInt ≤ 300) (hG : GR R) (hI : IR R m) : vOk (IR (bumpN a1.toInt.toNat R)) (fX12_runs 291 a1 m) := by
  unfold fX12_runs fX12_runs_0
  have c0 : (0 : Int32).toInt = 0 := rfl
  have h := runs_loop (a1 := a1) a1.toInt.toNat (xFuel - 1 - a1.toInt.toNat) 0 R m (by omega) (by omega) hG hI
  rw [show xFuel - 1 - a1.toInt.toNat + 1 + a1.toInt.toNat = xFuel by have : xFuel = 5000000000 := rfl; omega] at h
  exact h
theorem fault_r {R m : xMem} {a1 : Int32} (hI : IR R m) : vOk (fun p : Int32 × xMem => IR R p.2) (fX12_fault 291 a1 m) := by
  unfold fX12_fault fX12_fault_0
  refine vNe (fun g => ?_) (fun g => ?_)
  · refine vNe (fun g2 => ?_) (fun g2 => ?_)
    · exact vOk_some hI
    · refine vAny fun v => ?_
      exact vOk_some hI
  · refine vAny fun v => ?_
    exact vOk_some hI
