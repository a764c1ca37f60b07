/-! SAFETY of the reference's methods, printed by wip/tools/vcref.py -/
theorem rem_e (a b : Int32) : a - a / b * b = a % b := by
  apply Int32.toInt_inj.mp
  have q := tiB (a % b)
  have q2 := Int32.toInt_mod a b
  rw [Int32.toInt_sub, Int32.toInt_mul, Int32.toInt_div, Int32.toInt_mod]
  have e := Int.mul_tdiv_add_tmod a.toInt b.toInt
  simp only [Int.bmod_mul_bmod, Int.sub_bmod_bmod]
  rw [show a.toInt - a.toInt.tdiv b.toInt * b.toInt = a.toInt.tmod b.toInt by rw [Int.mul_comm]; omega]
  rw [q2] at q
  exact Int.bmod_eq_of_le (by omega) (by omega)
theorem vRem {β : Type} {P : β → Prop} {a b : Int32} {n : Int} {F : Int32 → Option β} (h : 0 ≤ a.toInt) (hb : b.toInt = n) (hn : 0 < n) (k : ∀ x : Int32, x = xRem a b → 0 ≤ x.toInt ∧ x.toInt ≤ n - 1 → vOk P (F x)) : vOk P (xLet (xRem a b) F) :=
  k _ rfl (by
    have e : xRem a b = a % b := rem_e a b
    rw [e, Int32.toInt_mod, hb, Int.tmod_eq_emod_of_nonneg h]
    have h1 := Int.emod_nonneg a.toInt (show n ≠ 0 by omega)
    have h2 := Int.emod_lt_of_pos a.toInt hn
    omega)
theorem vtc {R m : xMem} {t i k n x : Int32} (hG : GR R) (h : IR R m) (en : n = m.1 296 t.toNatClampNeg) (ex : x = m.1 298 i.toNatClampNeg) (ht : 0 ≤ t.toInt ∧ t.toInt ≤ 3) (hk : 0 ≤ k.toInt ∧ k.toInt < n.toInt) (hi : i.toInt = 10 * t.toInt + k.toInt) : VC R x := by
  have e1 : t.toNatClampNeg = t.toInt.toNat := rfl
  have e2 : i.toNatClampNeg = i.toInt.toNat := rfl
  have e3 : i.toNatClampNeg = 10 * t.toNatClampNeg + k.toInt.toNat := by omega
  rw [h.1 296 _ ⟨by omega, by omega⟩] at en
  rw [h.1 298 _ ⟨by omega, by omega⟩, e3] at ex
  rw [ex]
  refine hG.2.2 t.toNatClampNeg (by omega) _ ?_
  rw [← en]
  omega
theorem cyc_nz {R m : xMem} {l k y z : Int32} (hG : GR R) (h : IR R m) (ez : z = m.1 292 (2 : Int32).toNatClampNeg) (e0 : k = m.1 292 (210 + 14 * l.toNatClampNeg + 0)) (e4 : y = m.1 292 (210 + 14 * l.toNatClampNeg + 4)) (hl : 0 ≤ l.toInt) (hz : l.toInt < z.toInt) (hk : 2 ≤ k.toInt) : ¬ y.toInt = 0 := by
  have e1 : l.toNatClampNeg = l.toInt.toNat := rfl
  have e2 : (2 : Int32).toNatClampNeg = 2 := rfl
  rw [e2, kA h (by omega)] at ez
  have hz2 : (R.1 292 2).toInt ≤ 10 := hG.1.1.2.1.2
  rw [ez] at hz
  rw [kA h (by omega)] at e0 e4
  have q := (hG.1.2.1 l.toNatClampNeg (by omega)).1.2
  have q2 := hG.1.2.2.1 l.toNatClampNeg (by omega)
  rw [show 210 + 14 * l.toNatClampNeg + 0 = 210 + 14 * l.toNatClampNeg from rfl] at e0
  rw [show 210 + 14 * l.toNatClampNeg + 4 = 214 + 14 * l.toNatClampNeg by omega] at e4
  rw [← e0] at q q2
  rw [← e4] at q2
  have := q2 (by omega)
  omega
/-- a second on -/
def IR2 (R m : xMem) : Prop := IR (xPut R 292 0 (R.1 292 0 + 1)) m
theorem IR_0 {R m : xMem} {x y : Int32} (h : IR R m) (e1 : x = m.1 292 (0 : Int32).toNatClampNeg) (e2 : y = x + 1) : IR2 R (xPut m 292 (0 : Int32).toNatClampNeg y) := by
  have z : (0 : Int32).toNatClampNeg = 0 := rfl
  rw [z] at e1 ⊢
  have k0 : m.1 292 0 = R.1 292 0 := kA h (by omega)
  subst e2; subst e1
  rw [k0]
  refine ⟨fun b j hk => ?_, fun j hj => ?_, fun j => h.2.2.1 j, fun j => h.2.2.2 j⟩
  · show (if b = 292 ∧ j = 0 then _ else m.1 b j) = (if b = 292 ∧ j = 0 then _ else R.1 b j)
    by_cases q : b = 292 ∧ j = 0
    · rw [if_pos q, if_pos q]
    · rw [if_neg q, if_neg q]; exact h.1 b j hk
  · show bw (-1) 15 (if 292 = 292 ∧ 580 + j = 0 then _ else m.1 292 (580 + j))
    rw [if_neg (by omega)]
    exact h.2.1 j hj

theorem fX12_in_s {R : xMem} {a0 : Int32} {a1 : Int32} {a2 : Int32} {m : xMem} (hG : GR R) (hI : IR R m) : vOk (PP m (fun x : Int32 => (0 ≤ x.toInt ∧ x.toInt ≤ 1) ∧ (x.toInt = 0 ∨ ((a1.toInt ≤ a0.toInt ∧ a0.toInt ≤ a2.toInt))))) (fX12_in a0 a1 a2 m) := by
  have ta0 := tiB a0
  have ta1 := tiB a1
  have ta2 := tiB a2
  have c0 : (0 : Int32).toInt = 0 := rfl
  have c1 : (1 : Int32).toInt = 1 := rfl
  unfold fX12_in
  unfold fX12_in_0
  refine vLt (fun h1 => ?_) (fun h2 => ?_)
  · unfold fX12_in_14
    unfold fX12_in_15
    refine vB (by omega) ?_
    refine rP ?_
    first | exact True.intro | omega
  · refine vLt (fun h3 => ?_) (fun h4 => ?_)
    · unfold fX12_in_14
      unfold fX12_in_15
      refine vB (by omega) ?_
      refine rP ?_
      first | exact True.intro | omega
    · unfold fX12_in_15
      refine vB (by omega) ?_
      refine rP ?_
      first | exact True.intro | omega
theorem fX12_isHall_s {R : xMem} {a1 : Int32} {m : xMem} (hG : GR R) (hI : IR R m) : vOk (PP m (fun x : Int32 => (0 ≤ x.toInt ∧ x.toInt ≤ 1) ∧ (x.toInt = 0 ∨ ((0 ≤ a1.toInt ∧ a1.toInt ≤ 5))))) (fX12_isHall 291 a1 m) := by
  have ta1 := tiB a1
  have c0 : (0 : Int32).toInt = 0 := rfl
  have c1 : (1 : Int32).toInt = 1 := rfl
  unfold fX12_isHall
  unfold fX12_isHall_0
  refine vIn (by omega) (by omega) fun n1 => ?_
  refine vR fun v2 ev2 => ?_
  have fv2 : bw (0) 6 v2 := by rw [ev2]; exact rdc1 hG hI (by omega)
  refine vS (by omega) fun v3 ev3 fv3 => ?_
  refine vBindP (fX12_in_s hG hI) fun v4 ev4 qv4 => ?_
  try dsimp only
  have fv4 := tiB v4
  refine vB (by omega) ?_
  refine rP ?_
  first | exact True.intro | omega
theorem fX12_bar_s {R : xMem} {a1 : Int32} {a2 : Int32} {m : xMem} (hG : GR R) (hI : IR R m) : vOk (PM (IR R) (fun x : Int32 => (0 ≤ x.toInt ∧ x.toInt ≤ 1) ∧ (x.toInt = 0 ∨ ((0 ≤ a1.toInt ∧ a1.toInt ≤ 5) ∧ (0 ≤ a2.toInt ∧ a2.toInt ≤ 999))))) (fX12_bar 291 a1 a2 m) := by
  have ta1 := tiB a1
  have ta2 := tiB a2
  have c0 : (0 : Int32).toInt = 0 := rfl
  have c1 : (1 : Int32).toInt = 1 := rfl
  have c4 : (4 : Int32).toInt = 4 := rfl
  have c20 : (20 : Int32).toInt = 20 := rfl
  have c999 : (999 : Int32).toInt = 999 := rfl
  unfold fX12_bar
  unfold fX12_bar_0
  refine vBindP (fX12_isHall_s hG hI) fun v1 ev1 qv1 => ?_
  try dsimp only
  have fv1 := tiB v1
  refine vEq (fun h2 => ?_) (fun h3 => ?_)
  · unfold fX12_bar_19
    refine rM hI ?_
    first | exact True.intro | omega
  · have g4 := qv1.2.resolve_left (by omega)
    refine vBindP (fX12_in_s hG hI) fun v5 ev5 qv5 => ?_
    try dsimp only
    have fv5 := tiB v5
    refine vNe (fun h6 => ?_) (fun h7 => ?_)
    · have g8 := qv5.2.resolve_left (by omega)
      refine vM (v := 4 * a1.toInt) (by rw [c4]) (by omega) fun v9 ev9 fv9 => ?_
      refine vA (by omega) fun v10 ev10 fv10 => ?_
      refine vA (by omega) fun v11 ev11 fv11 => ?_
      refine vIn (by omega) (by omega) fun n12 => ?_
      refine vR fun m13 em13 => ?_
      have hm13 : IR R m13 := by rw [em13]; exact IR_a hI (by omega)
      refine rM hm13 ?_
      first | exact True.intro | omega
    · unfold fX12_bar_19
      refine rM hI ?_
      first | exact True.intro | omega
theorem fX12_tells_s {R : xMem} {a1 : Int32} {a2 : Int32} {a3 : Int32} {m : xMem} (hG : GR R) (hp : (0 ≤ a1.toInt ∧ a1.toInt ≤ 9) ∧ (5 ≤ a2.toInt ∧ a2.toInt ≤ 11)) (hI : IR R m) : vOk (IR R) (fX12_tells 291 a1 a2 a3 m) := by
  have ta1 := tiB a1
  have ta2 := tiB a2
  have ta3 := tiB a3
  have c14 : (14 : Int32).toInt = 14 := rfl
  have c210 : (210 : Int32).toInt = 210 := rfl
  unfold fX12_tells
  unfold fX12_tells_0
  refine vM (v := 14 * a1.toInt) (by rw [c14]) (by omega) fun v1 ev1 fv1 => ?_
  refine vA (by omega) fun v2 ev2 fv2 => ?_
  refine vA (by omega) fun v3 ev3 fv3 => ?_
  refine vIn (by omega) (by omega) fun n4 => ?_
  refine vR fun m5 em5 => ?_
  have hm5 : IR R m5 := by rw [em5]; exact IR_a hI (by omega)
  exact vOk_some hm5
theorem fX12_isLink_s {R : xMem} {a1 : Int32} {m : xMem} (hG : GR R) (hI : IR R m) : vOk (PP m (fun x : Int32 => (0 ≤ x.toInt ∧ x.toInt ≤ 1) ∧ (x.toInt = 0 ∨ ((0 ≤ a1.toInt ∧ a1.toInt ≤ 9))))) (fX12_isLink 291 a1 m) := by
  have ta1 := tiB a1
  have c0 : (0 : Int32).toInt = 0 := rfl
  have c1 : (1 : Int32).toInt = 1 := rfl
  have c2 : (2 : Int32).toInt = 2 := rfl
  unfold fX12_isLink
  unfold fX12_isLink_0
  refine vIn (by omega) (by omega) fun n1 => ?_
  refine vR fun v2 ev2 => ?_
  have fv2 : bw (0) 10 v2 := by rw [ev2]; exact rdc2 hG hI (by omega)
  refine vS (by omega) fun v3 ev3 fv3 => ?_
  refine vBindP (fX12_in_s hG hI) fun v4 ev4 qv4 => ?_
  try dsimp only
  have fv4 := tiB v4
  refine vB (by omega) ?_
  refine rP ?_
  first | exact True.intro | omega
theorem fX12_linkOf_s {R : xMem} {a1 : Int32} {a2 : Int32} {m : xMem} (hG : GR R) (hp : (0 ≤ a1.toInt ∧ a1.toInt ≤ 9) ∧ (0 ≤ a2.toInt ∧ a2.toInt ≤ 13)) (hI : IR R m) : vOk (PP m (fun _ : Int32 => True)) (fX12_linkOf 291 a1 a2 m) := by
  have ta1 := tiB a1
  have ta2 := tiB a2
  have c14 : (14 : Int32).toInt = 14 := rfl
  have c210 : (210 : Int32).toInt = 210 := rfl
  unfold fX12_linkOf
  unfold fX12_linkOf_0
  refine vM (v := 14 * a1.toInt) (by rw [c14]) (by omega) fun v1 ev1 fv1 => ?_
  refine vA (by omega) fun v2 ev2 fv2 => ?_
  refine vA (by omega) fun v3 ev3 fv3 => ?_
  refine vIn (by omega) (by omega) fun n4 => ?_
  refine vR fun v5 ev5 => ?_
  have fv5 := tiB v5
  refine rP ?_
  first | exact True.intro | omega
theorem fX12_linkOf_c0 {R : xMem} {a1 : Int32} {m : xMem} (hG : GR R) (hp : 0 ≤ a1.toInt ∧ a1.toInt ≤ 9) (hI : IR R m) : vOk (PP m (fun x : Int32 => (0 ≤ x.toInt ∧ x.toInt ≤ 2) ∧ x = m.1 292 (210 + 14 * a1.toNatClampNeg + 0))) (fX12_linkOf 291 a1 0 m) := by
  have c14 : (14 : Int32).toInt = 14 := rfl
  have c210 : (210 : Int32).toInt = 210 := rfl
  have cc : (0 : Int32).toInt = 0 := rfl
  unfold fX12_linkOf fX12_linkOf_0
  refine vM (v := 14 * a1.toInt) (by rw [c14]) (by omega) fun v1 ev1 fv1 => ?_
  refine vA (by omega) fun v2 ev2 fv2 => ?_
  refine vA (by omega) fun v3 ev3 fv3 => ?_
  refine vIn (by omega) (by omega) fun n4 => ?_
  refine vR fun v5 ev5 => ?_
  refine rP ?_
  have q : bw 0 2 v5 := by rw [ev5]; exact rdl0 hG hI (by omega)
  refine ⟨q, ?_⟩
  have e1 : v3.toNatClampNeg = v3.toInt.toNat := rfl
  have e2 : a1.toNatClampNeg = a1.toInt.toNat := rfl
  rw [ev5, show v3.toNatClampNeg = 210 + 14 * a1.toNatClampNeg + 0 by omega]
theorem fX12_linkOf_c1 {R : xMem} {a1 : Int32} {m : xMem} (hG : GR R) (hp : 0 ≤ a1.toInt ∧ a1.toInt ≤ 9) (hI : IR R m) : vOk (PP m (fun x : Int32 => (0 ≤ x.toInt ∧ x.toInt ≤ 5))) (fX12_linkOf 291 a1 1 m) := by
  have c14 : (14 : Int32).toInt = 14 := rfl
  have c210 : (210 : Int32).toInt = 210 := rfl
  have cc : (1 : Int32).toInt = 1 := rfl
  unfold fX12_linkOf fX12_linkOf_0
  refine vM (v := 14 * a1.toInt) (by rw [c14]) (by omega) fun v1 ev1 fv1 => ?_
  refine vA (by omega) fun v2 ev2 fv2 => ?_
  refine vA (by omega) fun v3 ev3 fv3 => ?_
  refine vIn (by omega) (by omega) fun n4 => ?_
  refine vR fun v5 ev5 => ?_
  refine rP ?_
  have q : bw 0 5 v5 := by rw [ev5]; exact rdl1 hG hI (by omega)
  exact q
theorem fX12_linkOf_c2 {R : xMem} {a1 : Int32} {m : xMem} (hG : GR R) (hp : 0 ≤ a1.toInt ∧ a1.toInt ≤ 9) (hI : IR R m) : vOk (PP m (fun x : Int32 => (0 ≤ x.toInt ∧ x.toInt ≤ 5))) (fX12_linkOf 291 a1 2 m) := by
  have c14 : (14 : Int32).toInt = 14 := rfl
  have c210 : (210 : Int32).toInt = 210 := rfl
  have cc : (2 : Int32).toInt = 2 := rfl
  unfold fX12_linkOf fX12_linkOf_0
  refine vM (v := 14 * a1.toInt) (by rw [c14]) (by omega) fun v1 ev1 fv1 => ?_
  refine vA (by omega) fun v2 ev2 fv2 => ?_
  refine vA (by omega) fun v3 ev3 fv3 => ?_
  refine vIn (by omega) (by omega) fun n4 => ?_
  refine vR fun v5 ev5 => ?_
  refine rP ?_
  have q : bw 0 5 v5 := by rw [ev5]; exact rdl2 hG hI (by omega)
  exact q
theorem fX12_linkOf_c3 {R : xMem} {a1 : Int32} {m : xMem} (hG : GR R) (hp : 0 ≤ a1.toInt ∧ a1.toInt ≤ 9) (hI : IR R m) : vOk (PP m (fun x : Int32 => (0 ≤ x.toInt ∧ x.toInt ≤ 40))) (fX12_linkOf 291 a1 3 m) := by
  have c14 : (14 : Int32).toInt = 14 := rfl
  have c210 : (210 : Int32).toInt = 210 := rfl
  have cc : (3 : Int32).toInt = 3 := rfl
  unfold fX12_linkOf fX12_linkOf_0
  refine vM (v := 14 * a1.toInt) (by rw [c14]) (by omega) fun v1 ev1 fv1 => ?_
  refine vA (by omega) fun v2 ev2 fv2 => ?_
  refine vA (by omega) fun v3 ev3 fv3 => ?_
  refine vIn (by omega) (by omega) fun n4 => ?_
  refine vR fun v5 ev5 => ?_
  refine rP ?_
  have q : bw 0 40 v5 := by rw [ev5]; exact rdl3 hG hI (by omega)
  exact q
theorem fX12_linkOf_c4 {R : xMem} {a1 : Int32} {m : xMem} (hG : GR R) (hp : 0 ≤ a1.toInt ∧ a1.toInt ≤ 9) (hI : IR R m) : vOk (PP m (fun x : Int32 => (0 ≤ x.toInt ∧ x.toInt ≤ 99) ∧ x = m.1 292 (210 + 14 * a1.toNatClampNeg + 4))) (fX12_linkOf 291 a1 4 m) := by
  have c14 : (14 : Int32).toInt = 14 := rfl
  have c210 : (210 : Int32).toInt = 210 := rfl
  have cc : (4 : Int32).toInt = 4 := rfl
  unfold fX12_linkOf fX12_linkOf_0
  refine vM (v := 14 * a1.toInt) (by rw [c14]) (by omega) fun v1 ev1 fv1 => ?_
  refine vA (by omega) fun v2 ev2 fv2 => ?_
  refine vA (by omega) fun v3 ev3 fv3 => ?_
  refine vIn (by omega) (by omega) fun n4 => ?_
  refine vR fun v5 ev5 => ?_
  refine rP ?_
  have q : bw 0 99 v5 := by rw [ev5]; exact rdl4 hG hI (by omega)
  refine ⟨q, ?_⟩
  have e1 : v3.toNatClampNeg = v3.toInt.toNat := rfl
  have e2 : a1.toNatClampNeg = a1.toInt.toNat := rfl
  rw [ev5, show v3.toNatClampNeg = 210 + 14 * a1.toNatClampNeg + 4 by omega]
theorem fX12_isStairs_s {R : xMem} {a1 : Int32} {m : xMem} (hG : GR R) (hI : IR R m) : vOk (PP m (fun x : Int32 => (0 ≤ x.toInt ∧ x.toInt ≤ 1) ∧ (x.toInt = 0 ∨ ((0 ≤ a1.toInt ∧ a1.toInt ≤ 9))))) (fX12_isStairs 291 a1 m) := by
  have ta1 := tiB a1
  have c0 : (0 : Int32).toInt = 0 := rfl
  have c1 : (1 : Int32).toInt = 1 := rfl
  have c2 : (2 : Int32).toInt = 2 := rfl
  unfold fX12_isStairs
  unfold fX12_isStairs_0
  refine vBindP (fX12_isLink_s hG hI) fun v1 ev1 qv1 => ?_
  try dsimp only
  have fv1 := tiB v1
  refine vEq (fun h2 => ?_) (fun h3 => ?_)
  · unfold fX12_isStairs_22
    unfold fX12_isStairs_23
    refine vB (by omega) ?_
    refine rP ?_
    first | exact True.intro | omega
  · have g4 := qv1.2.resolve_left (by omega)
    refine vBindP (fX12_linkOf_c0 hG (by omega) hI) fun v5 ev5 qv5 => ?_
    try dsimp only
    have fv5 := tiB v5
    refine vLe (fun h6 => ?_) (fun h7 => ?_)
    · unfold fX12_isStairs_22
      unfold fX12_isStairs_23
      refine vB (by omega) ?_
      refine rP ?_
      first | exact True.intro | omega
    · unfold fX12_isStairs_23
      refine vB (by omega) ?_
      refine rP ?_
      first | exact True.intro | omega
theorem fX12_loadOf_4_s {R : xMem} {a1 : Int32} {m : xMem} (hG : GR R) (hI : IR R m) : ∀ (fuel : Nat), ∀ (l2 : Int32) (l3 : Int32), ((0 ≤ a1.toInt ∧ a1.toInt ≤ 9) ∧ (0 ≤ l3.toInt ∧ l3.toInt ≤ 80)) → 2147483648 - l3.toInt < (fuel : Int) → vOk (PP m (fun _ : Int32 => True)) (fX12_loadOf_4 291 a1 fuel l2 l3 m) := by
  intro fuel
  induction fuel with
  | zero =>
    intro l2 l3 hp hmu
    have ta1 := tiB a1
    have tl2 := tiB l2
    have tl3 := tiB l3
    exfalso; omega
  | succ fuel ih =>
    intro l2 l3 hp hmu
    have ta1 := tiB a1
    have tl2 := tiB l2
    have tl3 := tiB l3
    have cm1 : (-1 : Int32).toInt = -1 := rfl
    have c0 : (0 : Int32).toInt = 0 := rfl
    have c1 : (1 : Int32).toInt = 1 := rfl
    have c80 : (80 : Int32).toInt = 80 := rfl
    have c580 : (580 : Int32).toInt = 580 := rfl
    rw [fX12_loadOf_4]
    refine vLe (fun h1 => ?_) (fun h2 => ?_)
    · refine rP ?_
      first | exact True.intro | omega
    · refine vM (v := 80 * a1.toInt) (by rw [c80]) (by omega) fun v3 ev3 fv3 => ?_
      refine vA (by omega) fun v4 ev4 fv4 => ?_
      refine vA (by omega) fun v5 ev5 fv5 => ?_
      refine vIn (by omega) (by omega) fun n6 => ?_
      refine vR fun v7 ev7 => ?_
      have fv7 : bw (-1) 15 v7 := by rw [ev7]; exact rds hI (by omega)
      refine vEq (fun h8 => ?_) (fun h9 => ?_)
      · unfold fX12_loadOf_35
        refine vA (by omega) fun v10 ev10 fv10 => ?_
        refine vA (by omega) fun v11 ev11 fv11 => ?_
        exact ih _ _ (by omega) (by omega)
      · unfold fX12_loadOf_35
        refine vI fun v12 ev12 fv12 => ?_
        refine vA (by omega) fun v13 ev13 fv13 => ?_
        exact ih _ _ (by omega) (by omega)
theorem fX12_loadOf_s {R : xMem} {a1 : Int32} {m : xMem} (hG : GR R) (hp : (0 ≤ a1.toInt ∧ a1.toInt ≤ 9)) (hI : IR R m) : vOk (PP m (fun _ : Int32 => True)) (fX12_loadOf 291 a1 m) := by
  have ta1 := tiB a1
  have c0 : (0 : Int32).toInt = 0 := rfl
  unfold fX12_loadOf
  unfold fX12_loadOf_0
  have cF := xFu
  exact fX12_loadOf_4_s hG hI _ _ _ (by omega) (by omega)
theorem fX12_turn_s {R : xMem} {a1 : Int32} {a2 : Int32} {m : xMem} (hG : GR R) (hI : IR R m) : vOk (PM (IR R) (fun x : Int32 => (0 ≤ x.toInt ∧ x.toInt ≤ 1) ∧ (x.toInt = 0 ∨ ((0 ≤ a1.toInt ∧ a1.toInt ≤ 9) ∧ (0 ≤ a2.toInt ∧ a2.toInt ≤ 2))))) (fX12_turn 291 a1 a2 m) := by
  have ta1 := tiB a1
  have ta2 := tiB a2
  have c0 : (0 : Int32).toInt = 0 := rfl
  have c1 : (1 : Int32).toInt = 1 := rfl
  have c2 : (2 : Int32).toInt = 2 := rfl
  have c5 : (5 : Int32).toInt = 5 := rfl
  have c6 : (6 : Int32).toInt = 6 := rfl
  have c7 : (7 : Int32).toInt = 7 := rfl
  unfold fX12_turn
  unfold fX12_turn_0
  refine vBindP (fX12_isStairs_s hG hI) fun v1 ev1 qv1 => ?_
  try dsimp only
  have fv1 := tiB v1
  refine vEq (fun h2 => ?_) (fun h3 => ?_)
  · unfold fX12_turn_17
    refine rM hI ?_
    first | exact True.intro | omega
  · have g4 := qv1.2.resolve_left (by omega)
    refine vBindP (fX12_in_s hG hI) fun v5 ev5 qv5 => ?_
    try dsimp only
    have fv5 := tiB v5
    refine vNe (fun h6 => ?_) (fun h7 => ?_)
    · have g8 := qv5.2.resolve_left (by omega)
      refine vNe (fun h9 => ?_) (fun h10 => ?_)
      · refine vOk_bind (fX12_tells_s hG (by omega) hI) fun m11 hm11 => ?_
        refine vBindP (fX12_loadOf_s hG (by omega) hm11) fun v12 ev12 qv12 => ?_
        try dsimp only
        have fv12 := tiB v12
        refine vNe (fun h13 => ?_) (fun h14 => ?_)
        · unfold fX12_turn_56
          refine vBindP (fX12_linkOf_s hG (by omega) hm11) fun v15 ev15 qv15 => ?_
          try dsimp only
          have fv15 := tiB v15
          refine vNe (fun h16 => ?_) (fun h17 => ?_)
          · unfold fX12_turn_74
            refine rM hm11 ?_
            first | exact True.intro | omega
          · refine vOk_bind (fX12_tells_s hG (by omega) hm11) fun m18 hm18 => ?_
            unfold fX12_turn_74
            refine rM hm18 ?_
            first | exact True.intro | omega
        · refine vOk_bind (fX12_tells_s hG (by omega) hm11) fun m19 hm19 => ?_
          unfold fX12_turn_56
          refine vBindP (fX12_linkOf_s hG (by omega) hm19) fun v20 ev20 qv20 => ?_
          try dsimp only
          have fv20 := tiB v20
          refine vNe (fun h21 => ?_) (fun h22 => ?_)
          · unfold fX12_turn_74
            refine rM hm19 ?_
            first | exact True.intro | omega
          · refine vOk_bind (fX12_tells_s hG (by omega) hm19) fun m23 hm23 => ?_
            unfold fX12_turn_74
            refine rM hm23 ?_
            first | exact True.intro | omega
      · refine vOk_bind (fX12_tells_s hG (by omega) hI) fun m24 hm24 => ?_
        refine rM hm24 ?_
        first | exact True.intro | omega
    · unfold fX12_turn_17
      refine rM hI ?_
      first | exact True.intro | omega
theorem fX12_mode_s {R : xMem} {a1 : Int32} {a2 : Int32} {m : xMem} (hG : GR R) (hI : IR R m) : vOk (PM (IR R) (fun x : Int32 => (0 ≤ x.toInt ∧ x.toInt ≤ 1) ∧ (x.toInt = 0 ∨ ((0 ≤ a1.toInt ∧ a1.toInt ≤ 9) ∧ (0 ≤ a2.toInt ∧ a2.toInt ≤ 1))))) (fX12_mode 291 a1 a2 m) := by
  have ta1 := tiB a1
  have ta2 := tiB a2
  have c0 : (0 : Int32).toInt = 0 := rfl
  have c1 : (1 : Int32).toInt = 1 := rfl
  have c8 : (8 : Int32).toInt = 8 := rfl
  unfold fX12_mode
  unfold fX12_mode_0
  refine vBindP (fX12_isLink_s hG hI) fun v1 ev1 qv1 => ?_
  try dsimp only
  have fv1 := tiB v1
  refine vEq (fun h2 => ?_) (fun h3 => ?_)
  · unfold fX12_mode_26
    refine rM hI ?_
    first | exact True.intro | omega
  · have g4 := qv1.2.resolve_left (by omega)
    refine vBindP (fX12_linkOf_c0 hG (by omega) hI) fun v5 ev5 qv5 => ?_
    try dsimp only
    have fv5 := tiB v5
    refine vNe (fun h6 => ?_) (fun h7 => ?_)
    · unfold fX12_mode_26
      refine rM hI ?_
      first | exact True.intro | omega
    · refine vBindP (fX12_in_s hG hI) fun v8 ev8 qv8 => ?_
      try dsimp only
      have fv8 := tiB v8
      refine vNe (fun h9 => ?_) (fun h10 => ?_)
      · have g11 := qv8.2.resolve_left (by omega)
        refine vOk_bind (fX12_tells_s hG (by omega) hI) fun m12 hm12 => ?_
        refine rM hm12 ?_
        first | exact True.intro | omega
      · unfold fX12_mode_26
        refine rM hI ?_
        first | exact True.intro | omega
theorem fX12_reset_s {R : xMem} {a1 : Int32} {m : xMem} (hG : GR R) (hI : IR R m) : vOk (PM (IR R) (fun x : Int32 => (0 ≤ x.toInt ∧ x.toInt ≤ 1) ∧ (x.toInt = 0 ∨ ((0 ≤ a1.toInt ∧ a1.toInt ≤ 9))))) (fX12_reset 291 a1 m) := by
  have ta1 := tiB a1
  have c0 : (0 : Int32).toInt = 0 := rfl
  have c1 : (1 : Int32).toInt = 1 := rfl
  have c9 : (9 : Int32).toInt = 9 := rfl
  unfold fX12_reset
  unfold fX12_reset_0
  refine vBindP (fX12_isLink_s hG hI) fun v1 ev1 qv1 => ?_
  try dsimp only
  have fv1 := tiB v1
  refine vEq (fun h2 => ?_) (fun h3 => ?_)
  · unfold fX12_reset_18
    refine rM hI ?_
    first | exact True.intro | omega
  · have g4 := qv1.2.resolve_left (by omega)
    refine vBindP (fX12_linkOf_s hG (by omega) hI) fun v5 ev5 qv5 => ?_
    try dsimp only
    have fv5 := tiB v5
    refine vNe (fun h6 => ?_) (fun h7 => ?_)
    · refine vOk_bind (fX12_tells_s hG (by omega) hI) fun m8 hm8 => ?_
      refine rM hm8 ?_
      first | exact True.intro | omega
    · unfold fX12_reset_18
      refine rM hI ?_
      first | exact True.intro | omega
theorem fX12_isLetter_s {R : xMem} {a0 : Int32} {m : xMem} (hG : GR R) (hI : IR R m) : vOk (PP m (fun x : Int32 => (0 ≤ x.toInt ∧ x.toInt ≤ 1) ∧ (x.toInt = 0 ∨ ((65 ≤ a0.toInt ∧ a0.toInt ≤ 122))))) (fX12_isLetter a0 m) := by
  have ta0 := tiB a0
  have c0 : (0 : Int32).toInt = 0 := rfl
  have c1 : (1 : Int32).toInt = 1 := rfl
  have c65 : (65 : Int32).toInt = 65 := rfl
  have c90 : (90 : Int32).toInt = 90 := rfl
  have c97 : (97 : Int32).toInt = 97 := rfl
  have c122 : (122 : Int32).toInt = 122 := rfl
  unfold fX12_isLetter
  unfold fX12_isLetter_0
  refine vBindP (fX12_in_s hG hI) fun v1 ev1 qv1 => ?_
  try dsimp only
  have fv1 := tiB v1
  refine vNe (fun h2 => ?_) (fun h3 => ?_)
  · have g4 := qv1.2.resolve_left (by omega)
    unfold fX12_isLetter_22
    unfold fX12_isLetter_27
    refine vB (by omega) ?_
    refine rP ?_
    first | exact True.intro | omega
  · refine vBindP (fX12_in_s hG hI) fun v5 ev5 qv5 => ?_
    try dsimp only
    have fv5 := tiB v5
    refine vEq (fun h6 => ?_) (fun h7 => ?_)
    · unfold fX12_isLetter_27
      refine vB (by omega) ?_
      refine rP ?_
      first | exact True.intro | omega
    · have g8 := qv5.2.resolve_left (by omega)
      unfold fX12_isLetter_22
      unfold fX12_isLetter_27
      refine vB (by omega) ?_
      refine rP ?_
      first | exact True.intro | omega
theorem fX12_rank_s {R : xMem} {a0 : Int32} {m : xMem} (hG : GR R) (hI : IR R m) : vOk (PP m (fun x : Int32 => (1 ≤ x.toInt ∧ x.toInt ≤ 4))) (fX12_rank a0 m) := by
  have ta0 := tiB a0
  have c1 : (1 : Int32).toInt = 1 := rfl
  have c2 : (2 : Int32).toInt = 2 := rfl
  have c3 : (3 : Int32).toInt = 3 := rfl
  have c4 : (4 : Int32).toInt = 4 := rfl
  have c43 : (43 : Int32).toInt = 43 := rfl
  have c45 : (45 : Int32).toInt = 45 := rfl
  have c406 : (406 : Int32).toInt = 406 := rfl
  have c407 : (407 : Int32).toInt = 407 := rfl
  unfold fX12_rank
  unfold fX12_rank_0
  refine vNe (fun h1 => ?_) (fun h2 => ?_)
  · refine vNe (fun h3 => ?_) (fun h4 => ?_)
    · refine vEq (fun h5 => ?_) (fun h6 => ?_)
      · unfold fX12_rank_34
        unfold fX12_rank_39
        refine rP ?_
        first | exact True.intro | omega
      · refine vNe (fun h7 => ?_) (fun h8 => ?_)
        · unfold fX12_rank_39
          refine rP ?_
          first | exact True.intro | omega
        · unfold fX12_rank_34
          unfold fX12_rank_39
          refine rP ?_
          first | exact True.intro | omega
    · unfold fX12_rank_39
      refine rP ?_
      first | exact True.intro | omega
  · unfold fX12_rank_39
    refine rP ?_
    first | exact True.intro | omega
theorem fX12_isAsking_s {R : xMem} {a0 : Int32} {m : xMem} (hG : GR R) (hI : IR R m) : vOk (PP m (fun x : Int32 => (0 ≤ x.toInt ∧ x.toInt ≤ 1) ∧ (x.toInt = 0 ∨ ((35 ≤ a0.toInt ∧ a0.toInt ≤ 301))))) (fX12_isAsking a0 m) := by
  have ta0 := tiB a0
  have c0 : (0 : Int32).toInt = 0 := rfl
  have c1 : (1 : Int32).toInt = 1 := rfl
  have c35 : (35 : Int32).toInt = 35 := rfl
  have c60 : (60 : Int32).toInt = 60 := rfl
  have c61 : (61 : Int32).toInt = 61 := rfl
  have c62 : (62 : Int32).toInt = 62 := rfl
  have c300 : (300 : Int32).toInt = 300 := rfl
  have c301 : (301 : Int32).toInt = 301 := rfl
  unfold fX12_isAsking
  unfold fX12_isAsking_0
  refine vEq (fun h1 => ?_) (fun h2 => ?_)
  · unfold fX12_isAsking_38
    unfold fX12_isAsking_43
    refine vB (by omega) ?_
    refine rP ?_
    first | exact True.intro | omega
  · refine vEq (fun h3 => ?_) (fun h4 => ?_)
    · unfold fX12_isAsking_38
      unfold fX12_isAsking_43
      refine vB (by omega) ?_
      refine rP ?_
      first | exact True.intro | omega
    · refine vEq (fun h5 => ?_) (fun h6 => ?_)
      · unfold fX12_isAsking_38
        unfold fX12_isAsking_43
        refine vB (by omega) ?_
        refine rP ?_
        first | exact True.intro | omega
      · refine vEq (fun h7 => ?_) (fun h8 => ?_)
        · unfold fX12_isAsking_38
          unfold fX12_isAsking_43
          refine vB (by omega) ?_
          refine rP ?_
          first | exact True.intro | omega
        · refine vEq (fun h9 => ?_) (fun h10 => ?_)
          · unfold fX12_isAsking_38
            unfold fX12_isAsking_43
            refine vB (by omega) ?_
            refine rP ?_
            first | exact True.intro | omega
          · refine vNe (fun h11 => ?_) (fun h12 => ?_)
            · unfold fX12_isAsking_43
              refine vB (by omega) ?_
              refine rP ?_
              first | exact True.intro | omega
            · unfold fX12_isAsking_38
              unfold fX12_isAsking_43
              refine vB (by omega) ?_
              refine rP ?_
              first | exact True.intro | omega
theorem fX12_isRun_s {R : xMem} {a1 : Int32} {m : xMem} (hG : GR R) (hI : IR R m) : vOk (PP m (fun x : Int32 => (0 ≤ x.toInt ∧ x.toInt ≤ 1) ∧ (x.toInt = 0 ∨ ((1 ≤ a1.toInt ∧ a1.toInt ≤ 300))))) (fX12_isRun 291 a1 m) := by
  have ta1 := tiB a1
  have c0 : (0 : Int32).toInt = 0 := rfl
  have c1 : (1 : Int32).toInt = 1 := rfl
  have c300 : (300 : Int32).toInt = 300 := rfl
  have c99999 : (99999 : Int32).toInt = 99999 := rfl
  unfold fX12_isRun
  unfold fX12_isRun_0
  refine vBindP (fX12_in_s hG hI) fun v1 ev1 qv1 => ?_
  try dsimp only
  have fv1 := tiB v1
  refine vEq (fun h2 => ?_) (fun h3 => ?_)
  · unfold fX12_isRun_28
    unfold fX12_isRun_29
    refine vB (by omega) ?_
    refine rP ?_
    first | exact True.intro | omega
  · have g4 := qv1.2.resolve_left (by omega)
    refine vIn (by omega) (by omega) fun n5 => ?_
    refine vR fun v6 ev6 => ?_
    have fv6 := tiB v6
    refine vI fun v7 ev7 fv7 => ?_
    refine vLt (fun h8 => ?_) (fun h9 => ?_)
    · unfold fX12_isRun_28
      unfold fX12_isRun_29
      refine vB (by omega) ?_
      refine rP ?_
      first | exact True.intro | omega
    · unfold fX12_isRun_29
      refine vB (by omega) ?_
      refine rP ?_
      first | exact True.intro | omega
theorem fX12_countOf_5_s {R : xMem} {a1 : Int32} {a2 : Int32} {m : xMem} (hG : GR R) (hI : IR R m) : ∀ (fuel : Nat), ∀ (l3 : Int32) (l4 : Int32), ((50 ≤ a1.toInt ∧ a1.toInt ≤ 130) ∧ (0 ≤ a2.toInt ∧ a2.toInt ≤ 5) ∧ (0 ≤ l4.toInt ∧ l4.toInt ≤ 12)) → 2147483648 - l4.toInt < (fuel : Int) → vOk (PP m (fun _ : Int32 => True)) (fX12_countOf_5 291 a1 a2 fuel l3 l4 m) := by
  intro fuel
  induction fuel with
  | zero =>
    intro l3 l4 hp hmu
    have ta1 := tiB a1
    have ta2 := tiB a2
    have tl3 := tiB l3
    have tl4 := tiB l4
    exfalso; omega
  | succ fuel ih =>
    intro l3 l4 hp hmu
    have ta1 := tiB a1
    have ta2 := tiB a2
    have tl3 := tiB l3
    have tl4 := tiB l4
    have c1 : (1 : Int32).toInt = 1 := rfl
    have c12 : (12 : Int32).toInt = 12 := rfl
    rw [fX12_countOf_5]
    refine vLe (fun h1 => ?_) (fun h2 => ?_)
    · refine rP ?_
      first | exact True.intro | omega
    · refine vM (v := 12 * a2.toInt) (by rw [c12]) (by omega) fun v3 ev3 fv3 => ?_
      refine vA (by omega) fun v4 ev4 fv4 => ?_
      refine vA (by omega) fun v5 ev5 fv5 => ?_
      refine vIn (by omega) (by omega) fun n6 => ?_
      refine vR fun v7 ev7 => ?_
      have fv7 := tiB v7
      refine vI fun v8 ev8 fv8 => ?_
      refine vA (by omega) fun v9 ev9 fv9 => ?_
      exact ih _ _ (by omega) (by omega)
theorem fX12_countOf_s {R : xMem} {a1 : Int32} {a2 : Int32} {m : xMem} (hG : GR R) (hp : (50 ≤ a1.toInt ∧ a1.toInt ≤ 130) ∧ (0 ≤ a2.toInt ∧ a2.toInt ≤ 5)) (hI : IR R m) : vOk (PP m (fun _ : Int32 => True)) (fX12_countOf 291 a1 a2 m) := by
  have ta1 := tiB a1
  have ta2 := tiB a2
  have c0 : (0 : Int32).toInt = 0 := rfl
  unfold fX12_countOf
  unfold fX12_countOf_0
  have cF := xFu
  exact fX12_countOf_5_s hG hI _ _ _ (by omega) (by omega)
theorem fX12_inHall_s {R : xMem} {a1 : Int32} {m : xMem} (hG : GR R) (hp : (0 ≤ a1.toInt ∧ a1.toInt ≤ 5)) (hI : IR R m) : vOk (PP m (fun _ : Int32 => True)) (fX12_inHall 291 a1 m) := by
  have ta1 := tiB a1
  have c50 : (50 : Int32).toInt = 50 := rfl
  unfold fX12_inHall
  unfold fX12_inHall_0
  refine vBindP (fX12_countOf_s hG (by omega) hI) fun v1 ev1 qv1 => ?_
  try dsimp only
  have fv1 := tiB v1
  refine rP ?_
  first | exact True.intro | omega
theorem fX12_hallOf_s {R : xMem} {a1 : Int32} {a2 : Int32} {m : xMem} (hG : GR R) (hp : (0 ≤ a1.toInt ∧ a1.toInt ≤ 5) ∧ (0 ≤ a2.toInt ∧ a2.toInt ≤ 3)) (hI : IR R m) : vOk (PP m (fun _ : Int32 => True)) (fX12_hallOf 291 a1 a2 m) := by
  have ta1 := tiB a1
  have ta2 := tiB a2
  have c4 : (4 : Int32).toInt = 4 := rfl
  have c20 : (20 : Int32).toInt = 20 := rfl
  unfold fX12_hallOf
  unfold fX12_hallOf_0
  refine vM (v := 4 * a1.toInt) (by rw [c4]) (by omega) fun v1 ev1 fv1 => ?_
  refine vA (by omega) fun v2 ev2 fv2 => ?_
  refine vA (by omega) fun v3 ev3 fv3 => ?_
  refine vIn (by omega) (by omega) fun n4 => ?_
  refine vR fun v5 ev5 => ?_
  have fv5 := tiB v5
  refine rP ?_
  first | exact True.intro | omega
theorem fX12_isOver_s {R : xMem} {a1 : Int32} {m : xMem} (hG : GR R) (hp : (0 ≤ a1.toInt ∧ a1.toInt ≤ 5)) (hI : IR R m) : vOk (PP m (fun x : Int32 => (0 ≤ x.toInt ∧ x.toInt ≤ 1))) (fX12_isOver 291 a1 m) := by
  have ta1 := tiB a1
  have c0 : (0 : Int32).toInt = 0 := rfl
  have c1 : (1 : Int32).toInt = 1 := rfl
  unfold fX12_isOver
  unfold fX12_isOver_0
  refine vBindP (fX12_inHall_s hG (by omega) hI) fun v1 ev1 qv1 => ?_
  try dsimp only
  have fv1 := tiB v1
  refine vBindP (fX12_hallOf_s hG (by omega) hI) fun v2 ev2 qv2 => ?_
  try dsimp only
  have fv2 := tiB v2
  refine vLe (fun h3 => ?_) (fun h4 => ?_)
  · unfold fX12_isOver_19
    refine vB (by omega) ?_
    refine rP ?_
    first | exact True.intro | omega
  · unfold fX12_isOver_19
    refine vB (by omega) ?_
    refine rP ?_
    first | exact True.intro | omega
theorem fX12_comes_s {R : xMem} {a1 : Int32} {a2 : Int32} {a3 : Int32} {a4 : Int32} {m : xMem} (hG : GR R) (hp : (0 ≤ a1.toInt ∧ a1.toInt ≤ 5) ∧ (0 ≤ a2.toInt ∧ a2.toInt ≤ 9) ∧ (0 ≤ a3.toInt ∧ a3.toInt ≤ 1)) (hI : IR R m) : vOk (IR R) (fX12_comes 291 a1 a2 a3 a4 m) := by
  have ta1 := tiB a1
  have ta2 := tiB a2
  have ta3 := tiB a3
  have ta4 := tiB a4
  have c2 : (2 : Int32).toInt = 2 := rfl
  have c9 : (9 : Int32).toInt = 9 := rfl
  have c12 : (12 : Int32).toInt = 12 := rfl
  have c50 : (50 : Int32).toInt = 50 := rfl
  unfold fX12_comes
  unfold fX12_comes_0
  refine vNe (fun h1 => ?_) (fun h2 => ?_)
  · refine vM (v := 12 * a1.toInt) (by rw [c12]) (by omega) fun v3 ev3 fv3 => ?_
    refine vA (by omega) fun v4 ev4 fv4 => ?_
    refine vM (v := 2 * a2.toInt) (by rw [c2]) (by omega) fun v5 ev5 fv5 => ?_
    refine vA (by omega) fun v6 ev6 fv6 => ?_
    refine vA (by omega) fun v7 ev7 fv7 => ?_
    refine vIn (by omega) (by omega) fun n8 => ?_
    refine vR fun v9 ev9 => ?_
    have fv9 := tiB v9
    refine vI fun v10 ev10 fv10 => ?_
    refine vIn (by omega) (by omega) fun n11 => ?_
    refine vR fun m12 em12 => ?_
    have hm12 : IR R m12 := by rw [em12]; exact IR_a hI (by omega)
    unfold fX12_comes_43
    exact vOk_some hm12
  · refine vIn (by omega) (by omega) fun n13 => ?_
    refine vR fun v14 ev14 => ?_
    have fv14 := tiB v14
    refine vI fun v15 ev15 fv15 => ?_
    refine vIn (by omega) (by omega) fun n16 => ?_
    refine vR fun m17 em17 => ?_
    have hm17 : IR R m17 := by rw [em17]; exact IR_a hI (by omega)
    unfold fX12_comes_43
    exact vOk_some hm17
theorem fX12_bound_s {R : xMem} {a0 : Int64} {m : xMem} (hG : GR R) (hI : IR R m) : vOk (PP m (fun _ : Int64 => True)) (fX12_bound a0 m) := by
  have c0 : (0 : Int32).toInt = 0 := rfl
  unfold fX12_bound
  unfold fX12_bound_0
  refine vI fun v1 ev1 fv1 => ?_
  refine vLe (fun h2 => ?_) (fun h3 => ?_)
  · refine vI fun v4 ev4 fv4 => ?_
    refine vLe (fun h5 => ?_) (fun h6 => ?_)
    · unfold fX12_bound_29
      refine rP ?_
      first | exact True.intro | omega
    · unfold fX12_bound_29
      refine rP ?_
      first | exact True.intro | omega
  · unfold fX12_bound_29
    refine rP ?_
    first | exact True.intro | omega
theorem fX12_worked_s {R : xMem} {a0 : Int32} {a1 : Int64} {a3 : Int64} {m : xMem} (hG : GR R) (hI : IR R m) : vOk (PP m (fun _ : Int64 => True)) (fX12_worked a0 a1 a3 m) := by
  have ta0 := tiB a0
  have c0 : (0 : Int32).toInt = 0 := rfl
  have c35 : (35 : Int32).toInt = 35 := rfl
  have c42 : (42 : Int32).toInt = 42 := rfl
  have c43 : (43 : Int32).toInt = 43 := rfl
  have c45 : (45 : Int32).toInt = 45 := rfl
  have c47 : (47 : Int32).toInt = 47 := rfl
  have c60 : (60 : Int32).toInt = 60 := rfl
  have c61 : (61 : Int32).toInt = 61 := rfl
  have c62 : (62 : Int32).toInt = 62 := rfl
  have c300 : (300 : Int32).toInt = 300 := rfl
  have c301 : (301 : Int32).toInt = 301 := rfl
  have c406 : (406 : Int32).toInt = 406 := rfl
  unfold fX12_worked
  unfold fX12_worked_0
  refine vEq (fun h1 => ?_) (fun h2 => ?_)
  · refine vI fun v3 ev3 fv3 => ?_
    refine vEq (fun h4 => ?_) (fun h5 => ?_)
    · unfold fX12_worked_182
      refine rP ?_
      first | exact True.intro | omega
    · unfold fX12_worked_182
      refine rP ?_
      first | exact True.intro | omega
  · refine vEq (fun h6 => ?_) (fun h7 => ?_)
    · refine vAny fun v8 => ?_
      refine vBindP (fX12_bound_s hG hI) fun v9 ev9 qv9 => ?_
      try dsimp only
      refine rP ?_
      first | exact True.intro | omega
    · refine vEq (fun h10 => ?_) (fun h11 => ?_)
      · refine vAny fun v12 => ?_
        refine vBindP (fX12_bound_s hG hI) fun v13 ev13 qv13 => ?_
        try dsimp only
        refine rP ?_
        first | exact True.intro | omega
      · refine vEq (fun h14 => ?_) (fun h15 => ?_)
        · refine vAny fun v16 => ?_
          refine vBindP (fX12_bound_s hG hI) fun v17 ev17 qv17 => ?_
          try dsimp only
          refine rP ?_
          first | exact True.intro | omega
        · refine vEq (fun h18 => ?_) (fun h19 => ?_)
          · refine vR fun v20 ev20 => ?_
            have fv20 := tiB v20
            refine vNe (fun h21 => ?_) (fun h22 => ?_)
            · refine vNzL (cmpZ ev20 (by omega)) ?_
              refine vAny fun v23 => ?_
              unfold fX12_worked_134
              refine rP ?_
              first | exact True.intro | omega
            · unfold fX12_worked_134
              refine rP ?_
              first | exact True.intro | omega
          · refine vEq (fun h24 => ?_) (fun h25 => ?_)
            · refine vI fun v26 ev26 fv26 => ?_
              refine vLe (fun h27 => ?_) (fun h28 => ?_)
              · unfold fX12_worked_146
                refine rP ?_
                first | exact True.intro | omega
              · unfold fX12_worked_146
                refine rP ?_
                first | exact True.intro | omega
            · refine vEq (fun h29 => ?_) (fun h30 => ?_)
              · refine vI fun v31 ev31 fv31 => ?_
                refine vNe (fun h32 => ?_) (fun h33 => ?_)
                · unfold fX12_worked_170
                  refine rP ?_
                  first | exact True.intro | omega
                · unfold fX12_worked_170
                  refine rP ?_
                  first | exact True.intro | omega
              · refine vEq (fun h34 => ?_) (fun h35 => ?_)
                · refine vI fun v36 ev36 fv36 => ?_
                  refine vLe (fun h37 => ?_) (fun h38 => ?_)
                  · unfold fX12_worked_158
                    refine rP ?_
                    first | exact True.intro | omega
                  · unfold fX12_worked_158
                    refine rP ?_
                    first | exact True.intro | omega
                · refine vEq (fun h39 => ?_) (fun h40 => ?_)
                  · refine vI fun v41 ev41 fv41 => ?_
                    refine vLt (fun h42 => ?_) (fun h43 => ?_)
                    · unfold fX12_worked_194
                      refine rP ?_
                      first | exact True.intro | omega
                    · unfold fX12_worked_194
                      refine rP ?_
                      first | exact True.intro | omega
                  · refine vEq (fun h44 => ?_) (fun h45 => ?_)
                    · refine vI fun v46 ev46 fv46 => ?_
                      refine vLt (fun h47 => ?_) (fun h48 => ?_)
                      · unfold fX12_worked_206
                        refine rP ?_
                        first | exact True.intro | omega
                      · unfold fX12_worked_206
                        refine rP ?_
                        first | exact True.intro | omega
                    · refine vEq (fun h49 => ?_) (fun h50 => ?_)
                      · refine vAny fun v51 => ?_
                        refine rP ?_
                        first | exact True.intro | omega
                      · refine vAny fun v52 => ?_
                        refine vR fun v53 ev53 => ?_
                        have fv53 := tiB v53
                        refine vLe (fun h54 => ?_) (fun h55 => ?_)
                        · unfold fX12_worked_224
                          refine rP ?_
                          first | exact True.intro | omega
                        · unfold fX12_worked_224
                          refine rP ?_
                          first | exact True.intro | omega
theorem says_75 {R : xMem} {a1 l2 l3 : Int32} {m : xMem} {s : Int64} {g : Int32 → Int32 → xMem → Option (Int64 × xMem)} (hI : IR R m) (h2 : 0 ≤ l2.toInt ∧ l2.toInt < 200) (h3 : 0 ≤ l3.toInt ∧ l3.toInt < 1600) (k : ∀ x y m', x.toInt = l2.toInt + 1 → y.toInt = l3.toInt + 1 → IR R m' → vOk (PM (IR R) (fun _ : Int64 => True)) (g x y m')) : vOk (PM (IR R) (fun _ : Int64 => True)) (fX12_saysOf_75 291 a1 g l2 l3 (291 + 19) l2 s m) := by
  have c1 : (1 : Int32).toInt = 1 := rfl
  unfold fX12_saysOf_75
  refine vIn (by omega) (by omega) fun n1 => ?_
  refine vR fun m2 e2 => ?_
  have hm2 : IR R m2 := by rw [e2]; exact IR_l hI
  refine vA (by omega) fun v3 ev3 fv3 => ?_
  unfold fX12_saysOf_169
  refine vA (by omega) fun v4 ev4 fv4 => ?_
  exact k _ _ _ (by omega) (by omega) hm2
theorem says_169 {R : xMem} {a1 l2 l3 : Int32} {m : xMem} {g : Int32 → Int32 → xMem → Option (Int64 × xMem)} (hI : IR R m) (h3 : 0 ≤ l3.toInt ∧ l3.toInt < 1600) (k : ∀ y m', y.toInt = l3.toInt + 1 → IR R m' → vOk (PM (IR R) (fun _ : Int64 => True)) (g l2 y m')) : vOk (PM (IR R) (fun _ : Int64 => True)) (fX12_saysOf_169 291 a1 g l2 l3 m) := by
  have c1 : (1 : Int32).toInt = 1 := rfl
  unfold fX12_saysOf_169
  refine vA (by omega) fun v4 ev4 fv4 => ?_
  exact k _ _ (by omega) hI
theorem says_loop {R : xMem} {a1 : Int32} (hG : GR R) : ∀ (e n : Nat) (l2 l3 : Int32) (m : xMem), okCode (R.1 299) (R.1 300) e l3.toNatClampNeg l2.toNatClampNeg → 0 ≤ l2.toInt → 0 ≤ l3.toInt → IR R m → vOk (PM (IR R) (fun _ : Int64 => True)) (fX12_saysOf_4 291 a1 (n + e) l2 l3 m) := by
  intro e
  induction e with
  | zero => intro n l2 l3 m hok; exact absurd hok (fun q => q)
  | succ e ih =>
    intro n l2 l3 m hok h2 h3 hI
    obtain ⟨hi, hok⟩ := hok
    have w2 : l2.toNatClampNeg = l2.toInt.toNat := rfl
    have w3 : l3.toNatClampNeg = l3.toInt.toNat := rfl
    have c0 : (0 : Int32).toInt = 0 := rfl
    have c1 : (1 : Int32).toInt = 1 := rfl
    have cm1 : (-1 : Int32).toInt = -1 := rfl
    have c400 : (400 : Int32).toInt = 400 := rfl
    have c401 : (401 : Int32).toInt = 401 := rfl
    have c402 : (402 : Int32).toInt = 402 := rfl
    have c405 : (405 : Int32).toInt = 405 := rfl
    have c408 : (408 : Int32).toInt = 408 := rfl
    have st : ∀ (x y : Int32) (m' : xMem), okCode (R.1 299) (R.1 300) e y.toNatClampNeg x.toNatClampNeg → 0 ≤ x.toInt → 0 ≤ y.toInt → IR R m' → vOk (PM (IR R) (fun _ : Int64 => True)) (fX12_saysOf_4 291 a1 (n + e) x y m') := fun x y m' q1 q2 q3 q4 => ih n x y m' q1 q2 q3 q4
    rw [show n + (e + 1) = n + e + 1 from rfl, fX12_saysOf_4]
    refine vIn (by omega) (by omega) fun n1 => ?_
    refine vR fun v1 ev1 => ?_
    have k1 : v1 = R.1 299 l3.toNatClampNeg := ev1.trans (hI.1 299 _ ⟨by omega, by omega⟩)
    rw [← k1] at hok
    refine vEq (fun h4 => ?_) (fun h4 => ?_)
    · refine vIn (by omega) (by omega) fun n5 => ?_
      refine vAny fun v6 => ?_
      exact rM hI True.intro
    · have hok := hok.resolve_left (by omega)
      obtain ⟨_, hok⟩ := hok
      refine vIn (by omega) (by omega) fun n5 => ?_
      refine vAl ev1 ?_
      refine vEq (fun h6 => ?_) (fun h6 => ?_)
      · rcases hok with ⟨_, hh, hk⟩ | ⟨q, _⟩ | ⟨q, _⟩ | ⟨q, _⟩
        · unfold fX12_saysOf_40
          refine vNe (fun h7 => ?_) (fun h7 => ?_)
          · exfalso; omega
          · refine vIn (by omega) (by omega) fun n8 => ?_
            refine vAny fun v9 => ?_
            refine vAny fun v10 => ?_
            refine says_75 hI (by omega) (by omega) fun x y m' hx hy hm' => ?_
            have wx : x.toNatClampNeg = x.toInt.toNat := rfl
            have wy : y.toNatClampNeg = y.toInt.toNat := rfl
            refine st x y m' ?_ (by omega) (by omega) hm'
            rw [show y.toNatClampNeg = l3.toNatClampNeg + 1 by omega, show x.toNatClampNeg = l2.toNatClampNeg + 1 by omega]
            exact hk
        · exfalso; omega
        · exfalso; omega
        · exfalso; omega
      · refine vNe (fun h7 => ?_) (fun h7 => ?_)
        · refine vNe (fun h8 => ?_) (fun h8 => ?_)
          · refine vNe (fun h9 => ?_) (fun h9 => ?_)
            · rcases hok with ⟨q, _⟩ | ⟨q, _⟩ | ⟨q, _⟩ | ⟨q, hh, hh2, hk⟩
              · exfalso; omega
              · exfalso; omega
              · exfalso; omega
              · refine vA (by omega) fun v11 ev11 fv11 => ?_
                refine vS (by omega) fun v12 ev12 fv12 => ?_
                refine vAl ev12 ?_
                refine vIn (by omega) (by omega) fun n13 => ?_
                refine vAny fun v14 => ?_
                refine vIn (by omega) (by omega) fun n15 => ?_
                refine vAny fun v16 => ?_
                refine vBindP (fX12_worked_s hG hI) fun v17 ev17 qv17 => ?_
                try dsimp only
                refine vIn (by omega) (by omega) fun n18 => ?_
                refine vR fun m19 em19 => ?_
                have hm19 : IR R m19 := by rw [em19]; exact IR_l hI
                refine says_169 hm19 (by omega) fun y m' hy hm' => ?_
                have wx : v11.toNatClampNeg = v11.toInt.toNat := rfl
                have wy : y.toNatClampNeg = y.toInt.toNat := rfl
                refine st v11 y m' ?_ (by omega) (by omega) hm'
                rw [show y.toNatClampNeg = l3.toNatClampNeg + 1 by omega, show v11.toNatClampNeg = l2.toNatClampNeg - 1 by omega]
                exact hk
            · rcases hok with ⟨q, _⟩ | ⟨q, _⟩ | ⟨q, hh, hh2, hk⟩ | ⟨q, _⟩
              · exfalso; omega
              · exfalso; omega
              · refine vS (by omega) fun v11 ev11 fv11 => ?_
                refine vAl ev11 ?_
                refine vIn (by omega) (by omega) fun n13 => ?_
                refine vAny fun v14 => ?_
                refine vAny fun v15 => ?_
                refine vIn (by omega) (by omega) fun n16 => ?_
                refine vR fun m19 em19 => ?_
                have hm19 : IR R m19 := by rw [em19]; exact IR_l hI
                refine says_169 hm19 (by omega) fun y m' hy hm' => ?_
                have wy : y.toNatClampNeg = y.toInt.toNat := rfl
                refine st l2 y m' ?_ (by omega) (by omega) hm'
                rw [show y.toNatClampNeg = l3.toNatClampNeg + 1 by omega]
                exact hk
              · exfalso; omega
          · rcases hok with ⟨q, _⟩ | ⟨q, _⟩ | ⟨q, hh, hh2, hk⟩ | ⟨q, _⟩
            · exfalso; omega
            · exfalso; omega
            · refine vS (by omega) fun v11 ev11 fv11 => ?_
              refine vAl ev11 ?_
              refine vIn (by omega) (by omega) fun n13 => ?_
              refine vAny fun v14 => ?_
              refine vAny fun v15 => ?_
              refine vIn (by omega) (by omega) fun n16 => ?_
              refine vR fun m19 em19 => ?_
              have hm19 : IR R m19 := by rw [em19]; exact IR_l hI
              refine says_169 hm19 (by omega) fun y m' hy hm' => ?_
              have wy : y.toNatClampNeg = y.toInt.toNat := rfl
              refine st l2 y m' ?_ (by omega) (by omega) hm'
              rw [show y.toNatClampNeg = l3.toNatClampNeg + 1 by omega]
              exact hk
            · exfalso; omega
        · rcases hok with ⟨q, _⟩ | ⟨_, hh, hv, hk⟩ | ⟨q, _⟩ | ⟨q, _⟩
          · exfalso; omega
          · unfold fX12_saysOf_40
            refine vNe (fun h8 => ?_) (fun h8 => ?_)
            · refine vIn (by omega) (by omega) fun n9 => ?_
              refine vR fun v10 ev10 => ?_
              have k10 : v10 = R.1 300 l3.toNatClampNeg := ev10.trans (hI.1 300 _ ⟨by omega, by omega⟩)
              rw [← k10] at hv
              refine vIn (by omega) (by omega) fun n11 => ?_
              refine vAny fun v12 => ?_
              refine vAny fun v13 => ?_
              refine says_75 hI (by omega) (by omega) fun x y m' hx hy hm' => ?_
              have wx : x.toNatClampNeg = x.toInt.toNat := rfl
              have wy : y.toNatClampNeg = y.toInt.toNat := rfl
              refine st x y m' ?_ (by omega) (by omega) hm'
              rw [show y.toNatClampNeg = l3.toNatClampNeg + 1 by omega, show x.toNatClampNeg = l2.toNatClampNeg + 1 by omega]
              exact hk
            · exfalso; omega
          · exfalso; omega
          · exfalso; omega
theorem fX12_saysOf_s {R : xMem} {a1 : Int32} {m : xMem} (hG : GR R) (hv : VC R a1) (hI : IR R m) : vOk (PM (IR R) (fun _ : Int64 => True)) (fX12_saysOf 291 a1 m) := by
  unfold fX12_saysOf fX12_saysOf_0
  exact says_loop hG 400 4999999600 0 a1 m hv.2 (Int.le_refl 0) hv.1 hI
theorem fX12_isSome_76_s {R : xMem} {a1 : Int32} {a2 : Int32} (hG : GR R) : ∀ (fuel : Nat), ∀ (l3 : Int32) (l4 : Int32) (l5 : Int32) (m : xMem), ((0 ≤ a2.toInt ∧ a2.toInt ≤ 5) ∧ (0 ≤ l3.toInt ∧ l3.toInt ≤ 3) ∧ (0 ≤ l4.toInt ∧ l4.toInt ≤ 1) ∧ (0 ≤ l5.toInt ∧ l5.toInt ≤ 10)) → IR R m → 2147483648 - l5.toInt < (fuel : Int) → vOk (PM (IR R) (fun x : Int32 => (0 ≤ x.toInt ∧ x.toInt ≤ 1))) (fX12_isSome_76 291 a1 a2 fuel l3 l4 l5 m) := by
  intro fuel
  induction fuel with
  | zero =>
    intro l3 l4 l5 m hp hI hmu
    have ta1 := tiB a1
    have ta2 := tiB a2
    have tl3 := tiB l3
    have tl4 := tiB l4
    have tl5 := tiB l5
    exfalso; omega
  | succ fuel ih =>
    intro l3 l4 l5 m hp hI hmu
    have ta1 := tiB a1
    have ta2 := tiB a2
    have tl3 := tiB l3
    have tl4 := tiB l4
    have tl5 := tiB l5
    have c0 : (0 : Int32).toInt = 0 := rfl
    have c1 : (1 : Int32).toInt = 1 := rfl
    have c10 : (10 : Int32).toInt = 10 := rfl
    rw [fX12_isSome_76]
    refine vIn (by omega) (by omega) fun n1 => ?_
    refine vR fun v2 ev2 => ?_
    have fv2 : bw (0) 10 v2 := by rw [ev2]; exact rdt hG hI
    refine vLe (fun h3 => ?_) (fun h4 => ?_)
    · refine vB (by omega) ?_
      refine rM hI ?_
      first | exact True.intro | omega
    · refine vNe (fun h5 => ?_) (fun h6 => ?_)
      · unfold fX12_isSome_129
        unfold fX12_isSome_134
        refine vA (by omega) fun v7 ev7 fv7 => ?_
        exact ih _ _ _ _ (by omega) hI (by omega)
      · refine vM (v := 10 * l3.toInt) (by rw [c10]) (by omega) fun v8 ev8 fv8 => ?_
        refine vA (by omega) fun v9 ev9 fv9 => ?_
        refine vIn (by omega) (by omega) fun n10 => ?_
        refine vR fun v11 ev11 => ?_
        have fv11 := tiB v11
        refine vNe (fun h12 => ?_) (fun h13 => ?_)
        · unfold fX12_isSome_133
          unfold fX12_isSome_134
          refine vA (by omega) fun v14 ev14 fv14 => ?_
          exact ih _ _ _ _ (by omega) hI (by omega)
        · refine vAl ev8 ?_
          refine vAl ev9 ?_
          refine vIn (by omega) (by omega) fun n15 => ?_
          refine vR fun v16 ev16 => ?_
          have fv16 := tiB v16
          have hvc : VC R v16 := vtc hG hI (t := l3) (i := v9) (k := l5) ev2 ev16 (by omega) (by omega) (by omega)
          refine vBindM (fX12_saysOf_s hG hvc hI) fun v17 m18 hm18 qv17 => ?_
          try dsimp only
          refine vR fun v19 ev19 => ?_
          have fv19 := tiB v19
          refine vLe (fun h20 => ?_) (fun h21 => ?_)
          · unfold fX12_isSome_133
            unfold fX12_isSome_134
            refine vA (by omega) fun v22 ev22 fv22 => ?_
            exact ih _ _ _ _ (by omega) hm18 (by omega)
          · unfold fX12_isSome_129
            unfold fX12_isSome_134
            refine vA (by omega) fun v23 ev23 fv23 => ?_
            exact ih _ _ _ _ (by omega) hm18 (by omega)
theorem fX12_isSome_s {R : xMem} {a1 : Int32} {a2 : Int32} {m : xMem} (hG : GR R) (hp : (0 ≤ a2.toInt ∧ a2.toInt ≤ 5)) (hI : IR R m) : vOk (PM (IR R) (fun x : Int32 => (0 ≤ x.toInt ∧ x.toInt ≤ 1))) (fX12_isSome 291 a1 a2 m) := by
  have ta1 := tiB a1
  have ta2 := tiB a2
  have cm1 : (-1 : Int32).toInt = -1 := rfl
  have c0 : (0 : Int32).toInt = 0 := rfl
  have c1 : (1 : Int32).toInt = 1 := rfl
  have c2 : (2 : Int32).toInt = 2 := rfl
  have c3 : (3 : Int32).toInt = 3 := rfl
  have c4 : (4 : Int32).toInt = 4 := rfl
  have c5 : (5 : Int32).toInt = 5 := rfl
  have c130 : (130 : Int32).toInt = 130 := rfl
  unfold fX12_isSome
  unfold fX12_isSome_0
  refine vIn (by omega) (by omega) fun n1 => ?_
  refine vR fun v2 ev2 => ?_
  have fv2 : bw (-1) 3 v2 := by rw [ev2]; exact rdc5 hG hI (by omega)
  refine vNe (fun h3 => ?_) (fun h4 => ?_)
  · refine vIn (by omega) (by omega) fun n5 => ?_
    refine vR fun v6 ev6 => ?_
    have fv6 := tiB v6
    refine vIn (by omega) (by omega) fun n7 => ?_
    refine vR fun m8 em8 => ?_
    have hm8 : IR R m8 := by rw [em8]; exact IR_f hI (by omega)
    refine vIn (by omega) (by omega) fun n9 => ?_
    refine vR fun m10 em10 => ?_
    have hm10 : IR R m10 := by rw [em10]; exact IR_f hm8 (by omega)
    refine vBindP (fX12_inHall_s hG (by omega) hm10) fun v11 ev11 qv11 => ?_
    try dsimp only
    have fv11 := tiB v11
    refine vIn (by omega) (by omega) fun n12 => ?_
    refine vR fun m13 em13 => ?_
    have hm13 : IR R m13 := by rw [em13]; exact IR_f hm10 (by omega)
    refine vBindP (fX12_hallOf_s hG (by omega) hm13) fun v14 ev14 qv14 => ?_
    try dsimp only
    have fv14 := tiB v14
    refine vIn (by omega) (by omega) fun n15 => ?_
    refine vR fun m16 em16 => ?_
    have hm16 : IR R m16 := by rw [em16]; exact IR_f hm13 (by omega)
    refine vBindP (fX12_countOf_s hG (by omega) hm16) fun v17 ev17 qv17 => ?_
    try dsimp only
    have fv17 := tiB v17
    refine vIn (by omega) (by omega) fun n18 => ?_
    refine vR fun m19 em19 => ?_
    have hm19 : IR R m19 := by rw [em19]; exact IR_f hm16 (by omega)
    have cF := xFu
    exact fX12_isSome_76_s hG _ _ _ _ _ (by omega) hm19 (by omega)
  · refine rM hI ?_
    first | exact True.intro | omega
theorem fX12_bursts_2_s {R : xMem} {a1 : Int32} (hG : GR R) : ∀ (fuel : Nat), ∀ (l2 : Int32) (m : xMem), ((0 ≤ l2.toInt ∧ l2.toInt ≤ 30)) → IR R m → 2147483648 - l2.toInt < (fuel : Int) → vOk (IR R) (fX12_bursts_2 291 a1 fuel l2 m) := by
  intro fuel
  induction fuel with
  | zero =>
    intro l2 m hp hI hmu
    have ta1 := tiB a1
    have tl2 := tiB l2
    exfalso; omega
  | succ fuel ih =>
    intro l2 m hp hI hmu
    have ta1 := tiB a1
    have tl2 := tiB l2
    have c0 : (0 : Int32).toInt = 0 := rfl
    have c1 : (1 : Int32).toInt = 1 := rfl
    have c2 : (2 : Int32).toInt = 2 := rfl
    have c3 : (3 : Int32).toInt = 3 := rfl
    have c4 : (4 : Int32).toInt = 4 := rfl
    have c5 : (5 : Int32).toInt = 5 := rfl
    have c6 : (6 : Int32).toInt = 6 := rfl
    have c7 : (7 : Int32).toInt = 7 := rfl
    have c11 : (11 : Int32).toInt = 11 := rfl
    have c12 : (12 : Int32).toInt = 12 := rfl
    have c130 : (130 : Int32).toInt = 130 := rfl
    have c360 : (360 : Int32).toInt = 360 := rfl
    rw [fX12_bursts_2]
    refine vIn (by omega) (by omega) fun n1 => ?_
    refine vR fun v2 ev2 => ?_
    have fv2 : bw (0) 30 v2 := by rw [ev2]; exact rdc3 hG hI (by omega)
    refine vLe (fun h3 => ?_) (fun h4 => ?_)
    · exact vOk_some hI
    · refine vM (v := 7 * l2.toInt) (by rw [c7]) (by omega) fun v5 ev5 fv5 => ?_
      refine vA (by omega) fun v6 ev6 fv6 => ?_
      refine vIn (by omega) (by omega) fun n7 => ?_
      refine vR fun v8 ev8 => ?_
      have fv8 := tiB v8
      refine vI fun v9 ev9 fv9 => ?_
      refine vEq (fun h10 => ?_) (fun h11 => ?_)
      · unfold fX12_bursts_66
        refine vA (by omega) fun v12 ev12 fv12 => ?_
        refine vIn (by omega) (by omega) fun n13 => ?_
        refine vR fun v14 ev14 => ?_
        have fv14 : bw (0) 5 v14 := by rw [ev14]; exact rdb2 hG hI (by omega)
        refine vA (by omega) fun v15 ev15 fv15 => ?_
        refine vIn (by omega) (by omega) fun n16 => ?_
        refine vR fun v17 ev17 => ?_
        have fv17 := tiB v17
        refine vNe (fun h18 => ?_) (fun h19 => ?_)
        · refine vBindM (fX12_isSome_s hG (by omega) hI) fun v20 m21 hm21 qv20 => ?_
          try dsimp only
          have fv20 := tiB v20
          refine vEq (fun h22 => ?_) (fun h23 => ?_)
          · refine vM (v := 12 * v14.toInt) (by rw [c12]) (by omega) fun v24 ev24 fv24 => ?_
            refine vA (by omega) fun v25 ev25 fv25 => ?_
            refine vA (by omega) fun v26 ev26 fv26 => ?_
            refine vIn (by omega) (by omega) fun n27 => ?_
            refine vR fun v28 ev28 => ?_
            have fv28 : bw (0) 5 v28 := by rw [ev28]; exact rdb3 hG hm21 (by omega)
            refine vM (v := 2 * v28.toInt) (by rw [c2]) (by omega) fun v29 ev29 fv29 => ?_
            refine vA (by omega) fun v30 ev30 fv30 => ?_
            refine vA (by omega) fun v31 ev31 fv31 => ?_
            refine vIn (by omega) (by omega) fun n32 => ?_
            refine vR fun v33 ev33 => ?_
            have fv33 : bw (0) 1 v33 := by rw [ev33]; exact rdb5 hG hm21 (by omega)
            refine vA (by omega) fun v34 ev34 fv34 => ?_
            refine vIn (by omega) (by omega) fun n35 => ?_
            refine vR fun v36 ev36 => ?_
            have fv36 := tiB v36
            refine vA (by omega) fun v37 ev37 fv37 => ?_
            refine vIn (by omega) (by omega) fun n38 => ?_
            refine vR fun v39 ev39 => ?_
            have fv39 := tiB v39
            refine vI fun v40 ev40 fv40 => ?_
            refine vIn (by omega) (by omega) fun n41 => ?_
            refine vR fun m42 em42 => ?_
            have hm42 : IR R m42 := by rw [em42]; exact IR_a hm21 (by omega)
            unfold fX12_bursts_197
            refine vA (by omega) fun v43 ev43 fv43 => ?_
            exact ih _ _ (by omega) hm42 (by omega)
          · refine vIn (by omega) (by omega) fun n44 => ?_
            refine vR fun v45 ev45 => ?_
            have fv45 := tiB v45
            refine vA (by omega) fun v46 ev46 fv46 => ?_
            refine vIn (by omega) (by omega) fun n47 => ?_
            refine vR fun v48 ev48 => ?_
            have fv48 := tiB v48
            refine vI fun v49 ev49 fv49 => ?_
            refine vIn (by omega) (by omega) fun n50 => ?_
            refine vR fun m51 em51 => ?_
            have hm51 : IR R m51 := by rw [em51]; exact IR_a hm21 (by omega)
            unfold fX12_bursts_197
            refine vA (by omega) fun v52 ev52 fv52 => ?_
            exact ih _ _ (by omega) hm51 (by omega)
        · refine vA (by omega) fun v53 ev53 fv53 => ?_
          refine vIn (by omega) (by omega) fun n54 => ?_
          refine vR fun v55 ev55 => ?_
          have fv55 : bw (0) 5 v55 := by rw [ev55]; exact rdb3 hG hI (by omega)
          refine vA (by omega) fun v56 ev56 fv56 => ?_
          refine vIn (by omega) (by omega) fun n57 => ?_
          refine vR fun v58 ev58 => ?_
          have fv58 : bw (0) 1 v58 := by rw [ev58]; exact rdb5 hG hI (by omega)
          refine vA (by omega) fun v59 ev59 fv59 => ?_
          refine vIn (by omega) (by omega) fun n60 => ?_
          refine vR fun v61 ev61 => ?_
          have fv61 := tiB v61
          refine vOk_bind (fX12_comes_s hG (by omega) hI) fun m62 hm62 => ?_
          unfold fX12_bursts_197
          refine vA (by omega) fun v63 ev63 fv63 => ?_
          exact ih _ _ (by omega) hm62 (by omega)
      · refine vLe (fun h64 => ?_) (fun h65 => ?_)
        · unfold fX12_bursts_197
          refine vA (by omega) fun v66 ev66 fv66 => ?_
          exact ih _ _ (by omega) hI (by omega)
        · refine vA (by omega) fun v67 ev67 fv67 => ?_
          refine vIn (by omega) (by omega) fun n68 => ?_
          refine vR fun v69 ev69 => ?_
          have fv69 := tiB v69
          refine vLe (fun h70 => ?_) (fun h71 => ?_)
          · unfold fX12_bursts_197
            refine vA (by omega) fun v72 ev72 fv72 => ?_
            exact ih _ _ (by omega) hI (by omega)
          · refine vAl ev67 ?_
            refine vIn (by omega) (by omega) fun n73 => ?_
            refine vAl (ev69) ?_
            refine vNz (by omega) ?_
            refine vI fun v74 ev74 fv74 => ?_
            refine vNe (fun h75 => ?_) (fun h76 => ?_)
            · unfold fX12_bursts_197
              refine vA (by omega) fun v77 ev77 fv77 => ?_
              exact ih _ _ (by omega) hI (by omega)
            · unfold fX12_bursts_66
              refine vA (by omega) fun v78 ev78 fv78 => ?_
              refine vIn (by omega) (by omega) fun n79 => ?_
              refine vR fun v80 ev80 => ?_
              have fv80 : bw (0) 5 v80 := by rw [ev80]; exact rdb2 hG hI (by omega)
              refine vA (by omega) fun v81 ev81 fv81 => ?_
              refine vIn (by omega) (by omega) fun n82 => ?_
              refine vR fun v83 ev83 => ?_
              have fv83 := tiB v83
              refine vNe (fun h84 => ?_) (fun h85 => ?_)
              · refine vBindM (fX12_isSome_s hG (by omega) hI) fun v86 m87 hm87 qv86 => ?_
                try dsimp only
                have fv86 := tiB v86
                refine vEq (fun h88 => ?_) (fun h89 => ?_)
                · refine vM (v := 12 * v80.toInt) (by rw [c12]) (by omega) fun v90 ev90 fv90 => ?_
                  refine vA (by omega) fun v91 ev91 fv91 => ?_
                  refine vA (by omega) fun v92 ev92 fv92 => ?_
                  refine vIn (by omega) (by omega) fun n93 => ?_
                  refine vR fun v94 ev94 => ?_
                  have fv94 : bw (0) 5 v94 := by rw [ev94]; exact rdb3 hG hm87 (by omega)
                  refine vM (v := 2 * v94.toInt) (by rw [c2]) (by omega) fun v95 ev95 fv95 => ?_
                  refine vA (by omega) fun v96 ev96 fv96 => ?_
                  refine vA (by omega) fun v97 ev97 fv97 => ?_
                  refine vIn (by omega) (by omega) fun n98 => ?_
                  refine vR fun v99 ev99 => ?_
                  have fv99 : bw (0) 1 v99 := by rw [ev99]; exact rdb5 hG hm87 (by omega)
                  refine vA (by omega) fun v100 ev100 fv100 => ?_
                  refine vIn (by omega) (by omega) fun n101 => ?_
                  refine vR fun v102 ev102 => ?_
                  have fv102 := tiB v102
                  refine vA (by omega) fun v103 ev103 fv103 => ?_
                  refine vIn (by omega) (by omega) fun n104 => ?_
                  refine vR fun v105 ev105 => ?_
                  have fv105 := tiB v105
                  refine vI fun v106 ev106 fv106 => ?_
                  refine vIn (by omega) (by omega) fun n107 => ?_
                  refine vR fun m108 em108 => ?_
                  have hm108 : IR R m108 := by rw [em108]; exact IR_a hm87 (by omega)
                  unfold fX12_bursts_197
                  refine vA (by omega) fun v109 ev109 fv109 => ?_
                  exact ih _ _ (by omega) hm108 (by omega)
                · refine vIn (by omega) (by omega) fun n110 => ?_
                  refine vR fun v111 ev111 => ?_
                  have fv111 := tiB v111
                  refine vA (by omega) fun v112 ev112 fv112 => ?_
                  refine vIn (by omega) (by omega) fun n113 => ?_
                  refine vR fun v114 ev114 => ?_
                  have fv114 := tiB v114
                  refine vI fun v115 ev115 fv115 => ?_
                  refine vIn (by omega) (by omega) fun n116 => ?_
                  refine vR fun m117 em117 => ?_
                  have hm117 : IR R m117 := by rw [em117]; exact IR_a hm87 (by omega)
                  unfold fX12_bursts_197
                  refine vA (by omega) fun v118 ev118 fv118 => ?_
                  exact ih _ _ (by omega) hm117 (by omega)
              · refine vA (by omega) fun v119 ev119 fv119 => ?_
                refine vIn (by omega) (by omega) fun n120 => ?_
                refine vR fun v121 ev121 => ?_
                have fv121 : bw (0) 5 v121 := by rw [ev121]; exact rdb3 hG hI (by omega)
                refine vA (by omega) fun v122 ev122 fv122 => ?_
                refine vIn (by omega) (by omega) fun n123 => ?_
                refine vR fun v124 ev124 => ?_
                have fv124 : bw (0) 1 v124 := by rw [ev124]; exact rdb5 hG hI (by omega)
                refine vA (by omega) fun v125 ev125 fv125 => ?_
                refine vIn (by omega) (by omega) fun n126 => ?_
                refine vR fun v127 ev127 => ?_
                have fv127 := tiB v127
                refine vOk_bind (fX12_comes_s hG (by omega) hI) fun m128 hm128 => ?_
                unfold fX12_bursts_197
                refine vA (by omega) fun v129 ev129 fv129 => ?_
                exact ih _ _ (by omega) hm128 (by omega)
theorem fX12_bursts_s {R : xMem} {a1 : Int32} {m : xMem} (hG : GR R) (hI : IR R m) : vOk (IR R) (fX12_bursts 291 a1 m) := by
  have ta1 := tiB a1
  have c0 : (0 : Int32).toInt = 0 := rfl
  unfold fX12_bursts
  unfold fX12_bursts_0
  have cF := xFu
  exact fX12_bursts_2_s hG _ _ _ (by omega) hI (by omega)
