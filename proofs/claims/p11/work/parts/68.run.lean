/-! run on the reference's side: its answer -/
theorem k292_0 {R m : xMem} (h : IR R m) : R.1 292 0 = m.1 (291 + 1) (0 : Int32).toNatClampNeg := (kA h (j := 0) (by omega)).symm
theorem run_loop {a1 : Int32} : ∀ (e n : Nat) (l2 : Int32) (R m : xMem), l2.toInt + e = a1.toInt → 0 ≤ l2.toInt → GR R → IR R m → vOk (fun p : Int32 × xMem => p.1 = (bumpN e R).1 292 0 ∧ IR (bumpN e R) p.2) (fX12_run_12 291 a1 (n + 1 + e) l2 m) := by
  have c1 : (1 : Int32).toInt = 1 := rfl
  have c0 : (0 : Int32).toInt = 0 := rfl
  intro e
  induction e with
  | zero =>
    intro n l2 R m he h2 hG hI
    rw [show n + 1 + 0 = n + 1 from rfl, fX12_run_12]
    refine vLe (fun g => ?_) (fun g => ?_)
    · refine vIn (by omega) (by omega) fun n1 => ?_
      refine vAl (k292_0 hI) ?_
      exact vOk_some ⟨rfl, hI⟩
    · exfalso; omega
  | succ e ih =>
    intro n l2 R m he h2 hG hI
    have ta := tiB a1
    rw [show n + 1 + (e + 1) = n + 1 + e + 1 from rfl, fX12_run_12]
    refine vLe (fun g => ?_) (fun g => ?_)
    · exfalso; omega
    · refine vOk_bind (fX12_second_s hG hI) fun m2 h => ?_
      refine vA (by omega) fun v3 e3 f3 => ?_
      exact ih n v3 _ m2 (by omega) (by omega) (GR_bump hG) h
/-- whether it may run, by the second -/
def mayR (s n : Int32) : Prop := (1 ≤ n.toInt ∧ n.toInt ≤ 300) ∧ (s + n).toInt ≤ 99999
