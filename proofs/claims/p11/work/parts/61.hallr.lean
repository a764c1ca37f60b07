/-! hall on the reference's side, from any memory -/
theorem IR_cfg {R m : xMem} {j : Nat} {v : Int32} (h : IR R m) (hj : ¬ (580 ≤ j ∧ j < 1380)) : IR (xPut R 292 j v) (xPut m 292 j v) := by
  refine ⟨fun b i hk => ?_, fun i hi => ?_, fun i => ?_, fun i => ?_⟩
  · show (if b = 292 ∧ i = j then v else m.1 b i) = (if b = 292 ∧ i = j then v else R.1 b i)
    by_cases q : b = 292 ∧ i = j
    · rw [if_pos q, if_pos q]
    · rw [if_neg q, if_neg q]; exact h.1 b i hk
  · show bw (-1) 15 (if 292 = 292 ∧ 580 + i = j then v else m.1 292 (580 + i))
    rw [if_neg (by omega)]; exact h.2.1 i hi
  · show bw 0 1 (if 311 = 292 ∧ i = j then v else m.1 311 i)
    rw [if_neg (by omega)]; exact h.2.2.1 i
  · show bw 0 2 (if 314 = 292 ∧ i = j then v else m.1 314 i)
    rw [if_neg (by omega)]; exact h.2.2.2 i
theorem k292_1 {R m : xMem} (h : IR R m) : R.1 292 1 = m.1 (291 + 1) (1 : Int32).toNatClampNeg := (kA h (j := 1) (by omega)).symm
theorem hall76 {R : xMem} {a1 : Int32} {Q : Int32 × xMem → Prop} (hr : 0 ≤ (R.1 292 1).toInt ∧ (R.1 292 1).toInt ≤ 5) (hQ : ∀ m, IR (xPut R 292 1 (R.1 292 1 + 1)) m → Q (R.1 292 1, m)) : ∀ (e n : Nat) (l3 : Int32) (m : xMem), l3.toInt + e = 12 → 0 ≤ l3.toInt → IR R m → vOk Q (fX12_hall_76 291 a1 (n + 1 + e) l3 m) := by
  have c1 : (1 : Int32).toInt = 1 := rfl
  have c12 : (12 : Int32).toInt = 12 := rfl
  have c50 : (50 : Int32).toInt = 50 := rfl
  have c130 : (130 : Int32).toInt = 130 := rfl
  intro e
  induction e with
  | zero =>
    intro n l3 m he h3 hI
    rw [show n + 1 + 0 = n + 1 from rfl, fX12_hall_76]
    refine vLe (fun g => ?_) (fun g => ?_)
    · refine vIn (by omega) (by omega) fun n1 => ?_
      refine vAl (k292_1 hI) ?_
      refine vAl (x := R.1 292 1 + 1) rfl ?_
      refine vIn (by omega) (by omega) fun n2 => ?_
      refine vR fun m5 e5 => ?_
      have h5 : IR (xPut R 292 1 (R.1 292 1 + 1)) m5 := by rw [e5]; exact IR_cfg hI (by omega)
      refine vIn (by omega) (by omega) fun n3 => ?_
      refine vAl (x := R.1 292 1 + 1) (xP_eqE e5) ?_
      refine vAl (x := R.1 292 1) (Int32.add_sub_cancel _ _).symm ?_
      exact vOk_some (hQ _ h5)
    · exfalso; omega
  | succ e ih =>
    intro n l3 m he h3 hI
    rw [show n + 1 + (e + 1) = n + 1 + e + 1 from rfl, fX12_hall_76]
    refine vLe (fun g => ?_) (fun g => ?_)
    · exfalso; omega
    · refine vIn (by omega) (by omega) fun n1 => ?_
      refine vAl (k292_1 hI) ?_
      refine vM (v := 12 * (R.1 292 1).toInt) (by rw [c12]) (by omega) fun v1 e1 f1 => ?_
      refine vA (by omega) fun v2 e2 f2 => ?_
      refine vA (by omega) fun v3 e3 f3 => ?_
      refine vIn (by omega) (by omega) fun n2 => ?_
      refine vR fun m4 e4 => ?_
      have h4 : IR R m4 := by rw [e4]; exact IR_a hI (by omega)
      refine vIn (by omega) (by omega) fun n5 => ?_
      refine vAl (k292_1 h4) ?_
      refine vAl e1 ?_
      refine vA (by omega) fun v6 e6 f6 => ?_
      refine vA (by omega) fun v7 e7 f7 => ?_
      refine vIn (by omega) (by omega) fun n8 => ?_
      refine vR fun m9 e9 => ?_
      have h9 : IR R m9 := by rw [e9]; exact IR_a h4 (by omega)
      refine vA (by omega) fun v10 e10 f10 => ?_
      exact ih n v10 m9 (by omega) (by omega) h9
theorem hall_r {R m : xMem} {a1 : Int32} (hG : GR R) (hI : IR R m) : vOk (fun p : Int32 × xMem => if (1 ≤ a1.toInt ∧ a1.toInt ≤ 999) ∧ (R.1 292 1).toInt ≤ 5 then p.1 = R.1 292 1 ∧ IR (xPut R 292 1 (R.1 292 1 + 1)) p.2 else p.1 = -1 ∧ IR R p.2) (fX12_hall 291 a1 m) := by
  have c0 : (0 : Int32).toInt = 0 := rfl
  have c1 : (1 : Int32).toInt = 1 := rfl
  have c2 : (2 : Int32).toInt = 2 := rfl
  have c3 : (3 : Int32).toInt = 3 := rfl
  have c4 : (4 : Int32).toInt = 4 := rfl
  have c6 : (6 : Int32).toInt = 6 := rfl
  have c20 : (20 : Int32).toInt = 20 := rfl
  have c999 : (999 : Int32).toInt = 999 := rfl
  have hb : 0 ≤ (R.1 292 1).toInt ∧ (R.1 292 1).toInt ≤ 6 := hG.1.1.1
  unfold fX12_hall fX12_hall_0
  refine vAlB (in_e _ _ _ _) ?_
  dsimp only
  by_cases g1 : 1 ≤ a1.toInt ∧ a1.toInt ≤ 999
  · rw [wi_1 (by omega), if_neg (show ¬ (1 : Int32) = 0 by decide)]
    refine vIn (by omega) (by omega) fun n1 => ?_
    refine vAl (k292_1 hI) ?_
    refine vNe (fun g2 => ?_) (fun g2 => ?_)
    · refine vIn (by omega) (by omega) fun n2 => ?_
      refine vAl (k292_1 hI) ?_
      refine vM (v := 4 * (R.1 292 1).toInt) (by rw [c4]) (by omega) fun v1 e1 f1 => ?_
      refine vA (by omega) fun v2 e2 f2 => ?_
      refine vA (by omega) fun v3 e3 f3 => ?_
      refine vIn (by omega) (by omega) fun n3 => ?_
      refine vR fun m4 e4 => ?_
      have h4 : IR R m4 := by rw [e4]; exact IR_a hI (by omega)
      refine vA (by omega) fun v5 e5 f5 => ?_
      refine vIn (by omega) (by omega) fun n5 => ?_
      refine vR fun m6 e6 => ?_
      have h6 : IR R m6 := by rw [e6]; exact IR_a h4 (by omega)
      refine vA (by omega) fun v7 e7 f7 => ?_
      refine vIn (by omega) (by omega) fun n7 => ?_
      refine vR fun m8 e8 => ?_
      have h8 : IR R m8 := by rw [e8]; exact IR_a h6 (by omega)
      refine vA (by omega) fun v9 e9 f9 => ?_
      refine vIn (by omega) (by omega) fun n9 => ?_
      refine vR fun m10 e10 => ?_
      have h10 : IR R m10 := by rw [e10]; exact IR_a h8 (by omega)
      refine hall76 (by omega) (fun m' hm => ?_) 12 4999999987 0 m10 (by omega) (by omega) h10
      rw [if_pos ⟨g1, by omega⟩]
      exact ⟨rfl, hm⟩
    · refine vOk_some ?_
      rw [if_neg (fun q => by omega)]
      exact ⟨rfl, hI⟩
  · rw [wi_0 (by omega), if_pos rfl]
    refine vOk_some ?_
    rw [if_neg (fun q => g1 q.1)]
    exact ⟨rfl, hI⟩
