/-! the reference's parser: the stack, the orders written -/
def wsum : List (Nat × List Nat) → Nat
  | [] => 0
  | p :: r => p.2.length + wsum r
def opn : List (Nat × List Nat) → Nat
  | [] => 0
  | p :: r => (if p.1 = 3 ∨ p.1 = 6 ∨ p.1 = 7 then 1 else 0) + opn r
def pnd : List (Nat × List Nat) → Nat
  | [] => 0
  | p :: r => (if p.1 = 3 ∨ p.1 = 5 ∨ p.1 = 7 then 1 else 0) + pnd r
def rgt : List (Nat × List Nat) → Nat
  | [] => 0
  | p :: r => (if p.1 = 5 then 1 else 0) + rgt r
def isAsk (x : Int32) : Prop := x.toInt = 60 ∨ x.toInt = 62 ∨ x.toInt = 61 ∨ x.toInt = 35 ∨ x.toInt = 300 ∨ x.toInt = 301
def WV (g3 g4 : Nat → Int32) (F base : Nat) : List Nat → Prop
  | [] => True
  | o :: os => ((g3 (base + os.length)).toInt = (o : Int) ∧ (g4 (base + os.length)).toInt = (F : Int)) ∧ WV g3 g4 F base os
def LV (g1 g2 g3 g4 : Nat → Int32) : List (Nat × List Nat) → Prop
  | [] => True
  | p :: r => (g1 r.length).toInt = (p.1 : Int) ∧ WV g3 g4 (r.length + 1) (wsum r) p.2 ∧ (p.1 = 5 → isAsk (g2 (r.length + 1))) ∧ LV g1 g2 g3 g4 r
theorem WV_cong {g3 g4 h3 h4 : Nat → Int32} {F base : Nat} : ∀ (ops : List Nat), (∀ j, j < base + ops.length → h3 j = g3 j ∧ h4 j = g4 j) → WV g3 g4 F base ops → WV h3 h4 F base ops := by
  intro ops
  induction ops with
  | nil => intro _ _; trivial
  | cons o os ih =>
    intro e h
    have q := e (base + os.length) (by rw [List.length_cons]; omega)
    refine ⟨⟨by rw [q.1]; exact h.1.1, by rw [q.2]; exact h.1.2⟩, ih (fun j hj => e j (by rw [List.length_cons]; omega)) h.2⟩
theorem LV_cong {g1 g2 g3 g4 h1 h2 h3 h4 : Nat → Int32} : ∀ (lv : List (Nat × List Nat)), (∀ j, j < lv.length → h1 j = g1 j) → (∀ j, j ≤ lv.length → h2 j = g2 j) → (∀ j, j < wsum lv → h3 j = g3 j ∧ h4 j = g4 j) → LV g1 g2 g3 g4 lv → LV h1 h2 h3 h4 lv := by
  intro lv
  induction lv with
  | nil => intro _ _ _ _; trivial
  | cons p r ih =>
    intro e1 e2 e3 h
    have l : (p :: r).length = r.length + 1 := List.length_cons
    have w : wsum (p :: r) = p.2.length + wsum r := rfl
    refine ⟨by rw [e1 r.length (by omega)]; exact h.1, WV_cong _ (fun j hj => e3 j (by omega)) h.2.1, fun q => by rw [e2 (r.length + 1) (by omega)]; exact h.2.2.1 q, ih (fun j hj => e1 j (by omega)) (fun j hj => e2 j (by omega)) (fun j hj => e3 j (by omega)) h.2.2.2⟩
theorem LV_top {g1 g2 g3 g4 : Nat → Int32} : ∀ (lv : List (Nat × List Nat)), LV g1 g2 g3 g4 lv → 0 < wsum lv → (g4 (wsum lv - 1)).toInt ≤ (lv.length : Int) := by
  intro lv
  induction lv with
  | nil => intro _ h; exact absurd h (by decide)
  | cons p r ih =>
    intro h hw
    obtain ⟨f, ops⟩ := p
    have l : ((f, ops) :: r).length = r.length + 1 := List.length_cons
    cases ops with
    | nil =>
      have w : wsum ((f, []) :: r) = wsum r := Nat.zero_add _
      rw [w] at hw ⊢
      have := ih h.2.2.2 hw
      rw [l]
      omega
    | cons o os =>
      have w : wsum ((f, o :: os) :: r) - 1 = wsum r + os.length := by
        show (o :: os).length + wsum r - 1 = _
        rw [List.length_cons]; omega
      rw [w, h.2.1.1.2, l]
      exact Int.le_refl _
/-- a strict order of ranks -/
def rk (o : Nat) : Nat := if o = 407 then 1 else if o = 406 then 2 else if o = 43 ∨ o = 45 then 3 else 4
def isOp (o : Nat) : Prop := o = 407 ∨ o = 406 ∨ o = 43 ∨ o = 45 ∨ o = 42 ∨ o = 47
def SO : Nat → List Nat → Prop
  | _, [] => True
  | b, o :: os => rk o < b ∧ isOp o ∧ SO (rk o) os
def AL (lo : Nat) : List Nat → Prop
  | [] => True
  | o :: os => lo ≤ rk o ∧ AL lo os
theorem rk_1 (o : Nat) : 1 ≤ rk o := by
  unfold rk
  by_cases h1 : o = 407
  · rw [if_pos h1]; omega
  · rw [if_neg h1]
    by_cases h2 : o = 406
    · rw [if_pos h2]; omega
    · rw [if_neg h2]
      by_cases h3 : o = 43 ∨ o = 45
      · rw [if_pos h3]; omega
      · rw [if_neg h3]; omega
theorem SO_mono : ∀ (ops : List Nat) {b c : Nat}, b ≤ c → SO b ops → SO c ops := by
  intro ops
  cases ops with
  | nil => intro b c _ _; trivial
  | cons o os => intro b c h q; exact ⟨Nat.lt_of_lt_of_le q.1 h, q.2.1, q.2.2⟩
theorem SO_drop : ∀ (ops : List Nat) (k : Nat) {b : Nat}, SO b ops → SO b (ops.drop k) := by
  intro ops
  induction ops with
  | nil => intro k b _; rw [List.drop_nil]; trivial
  | cons o os ih =>
    intro k b h
    cases k with
    | zero => exact h
    | succ k => exact SO_mono _ (Nat.le_of_lt h.1) (ih k h.2.2)
theorem AL_drop : ∀ (ops : List Nat) (k : Nat) {b : Nat}, AL b ops → AL b (ops.drop k) := by
  intro ops
  induction ops with
  | nil => intro k b _; rw [List.drop_nil]; trivial
  | cons o os ih =>
    intro k b h
    cases k with
    | zero => exact h
    | succ k => exact ih k h.2
theorem SO_len : ∀ (ops : List Nat) {b lo : Nat}, lo ≤ b → SO b ops → AL lo ops → ops.length + lo ≤ b := by
  intro ops
  induction ops with
  | nil => intro b lo h _ _; rw [List.length_nil]; omega
  | cons o os ih =>
    intro b lo h q a
    have := ih a.1 q.2.2 a.2
    have := q.1
    rw [List.length_cons]
    omega
/-- what is left on top ends a run of works -/
def headLt (r : Nat) : List Nat → Prop
  | [] => True
  | o :: _ => rk o < r
theorem SO_push {ops : List Nat} {b o : Nat} (h : SO b ops) (hr : rk o < b) (ho : isOp o) (he : headLt (rk o) ops) : SO b (o :: ops) := by
  cases ops with
  | nil => exact ⟨hr, ho, trivial⟩
  | cons x xs => exact ⟨hr, ho, he, h.2.1, h.2.2⟩
theorem AL_nil {r : Nat} {ops : List Nat} (h : AL r ops) (q : headLt r ops) : ops = [] := by
  cases ops with
  | nil => rfl
  | cons o os => exact absurd q (Nat.not_lt.mpr h.1)
theorem AL_1 : ∀ (ops : List Nat), AL 1 ops := by
  intro ops
  induction ops with
  | nil => trivial
  | cons o os ih => exact ⟨rk_1 o, ih⟩
def numO (ops : List Nat) : Prop := SO 5 ops ∧ AL 3 ops
def cndO (ops : List Nat) : Prop := SO 3 ops
theorem numO_len {ops : List Nat} (h : numO ops) : ops.length ≤ 2 := by
  have := SO_len _ (by omega) h.1 h.2
  omega
theorem cndO_len {ops : List Nat} (h : cndO ops) : ops.length ≤ 2 := by
  have := SO_len _ (by omega) h (AL_1 _)
  omega
def allOp : List Nat → Prop
  | [] => True
  | o :: os => isOp o ∧ allOp os
theorem SO_all : ∀ (ops : List Nat) {b : Nat}, SO b ops → allOp ops := by
  intro ops
  induction ops with
  | nil => intro b _; trivial
  | cons o os ih => intro b h; exact ⟨h.2.1, ih h.2.2⟩
def stC : List (Nat × List Nat) → Prop
  | [] => False
  | p :: r => (p.1 = 2 ∧ cndO p.2 ∧ r = []) ∨ (p.1 = 3 ∧ p.2 = [] ∧ stC r)
def stN : List (Nat × List Nat) → Prop
  | [] => False
  | p :: r => (p.1 = 1 ∧ numO p.2 ∧ r = []) ∨ ((p.1 = 4 ∨ p.1 = 5) ∧ numO p.2 ∧ stC r) ∨ (p.1 = 6 ∧ numO p.2 ∧ stN r) ∨ (p.1 = 7 ∧ p.2 = [] ∧ stN r)
theorem stC_len : ∀ (lv : List (Nat × List Nat)), stC lv → lv.length = opn lv + 1 ∧ wsum lv ≤ 2 ∧ rgt lv = 0 := by
  intro lv
  induction lv with
  | nil => intro h; exact h.elim
  | cons p r ih =>
    intro h
    obtain ⟨f, ops⟩ := p
    have l : ((f, ops) :: r).length = r.length + 1 := List.length_cons
    rcases h with ⟨h1, h2, h3⟩ | ⟨h1, h2, h3⟩
    · dsimp only at h1 h2
      subst h1 h3
      have := cndO_len h2
      exact ⟨rfl, this, rfl⟩
    · dsimp only at h1 h2
      subst h1 h2
      obtain ⟨i1, i2, i3⟩ := ih h3
      have o : opn ((3, []) :: r) = 1 + opn r := rfl
      have w : wsum ((3, []) :: r) = 0 + wsum r := rfl
      have g : rgt ((3, []) :: r) = 0 + rgt r := rfl
      rw [l]
      exact ⟨by omega, by omega, by omega⟩
theorem stN_len : ∀ (lv : List (Nat × List Nat)), stN lv → lv.length ≤ opn lv + 2 ∧ wsum lv ≤ 2 * lv.length ∧ rgt lv ≤ 1 := by
  intro lv
  induction lv with
  | nil => intro h; exact h.elim
  | cons p r ih =>
    intro h
    obtain ⟨f, ops⟩ := p
    have l : ((f, ops) :: r).length = r.length + 1 := List.length_cons
    rcases h with ⟨h1, h2, h3⟩ | ⟨h1, h2, h3⟩ | ⟨h1, h2, h3⟩ | ⟨h1, h2, h3⟩
    · dsimp only at h1 h2
      subst h1 h3
      have := numO_len h2
      exact ⟨by rw [l]; exact Nat.le_add_left _ _, this, Nat.zero_le _⟩
    · dsimp only at h1 h2
      obtain ⟨i1, i2, i3⟩ := stC_len r h3
      have := numO_len h2
      have w : wsum ((f, ops) :: r) = ops.length + wsum r := rfl
      have o : opn r ≤ opn ((f, ops) :: r) := Nat.le_add_left _ _
      have g : rgt ((f, ops) :: r) = (if f = 5 then 1 else 0) + rgt r := rfl
      have : (if f = 5 then 1 else 0) ≤ 1 := by
        by_cases q : f = 5
        · rw [if_pos q]; exact Nat.le_refl _
        · rw [if_neg q]; exact Nat.zero_le _
      rw [l]
      exact ⟨by omega, by omega, by omega⟩
    · dsimp only at h1 h2
      subst h1
      obtain ⟨i1, i2, i3⟩ := ih h3
      have := numO_len h2
      have w : wsum ((6, ops) :: r) = ops.length + wsum r := rfl
      have o : opn ((6, ops) :: r) = 1 + opn r := rfl
      have g : rgt ((6, ops) :: r) = 0 + rgt r := rfl
      rw [l]
      exact ⟨by omega, by omega, by omega⟩
    · dsimp only at h1 h2
      subst h1 h2
      obtain ⟨i1, i2, i3⟩ := ih h3
      have w : wsum ((7, []) :: r) = 0 + wsum r := rfl
      have o : opn ((7, []) :: r) = 1 + opn r := rfl
      have g : rgt ((7, []) :: r) = 0 + rgt r := rfl
      rw [l]
      exact ⟨by omega, by omega, by omega⟩
/-! the code as it is written -/
theorem okMono1 {o v : Nat → Int32} : ∀ (e i h : Nat), okCode o v e i h → okCode o v (e + 1) i h := by
  intro e
  induction e with
  | zero => intro i h q; exact q.elim
  | succ e ih =>
    intro i h q
    refine ⟨q.1, q.2.elim Or.inl (fun w => Or.inr ⟨w.1, ?_⟩)⟩
    rcases w.2 with ⟨a, b, c⟩ | ⟨a, b, c, d⟩ | ⟨a, b, c, d⟩ | ⟨a, b, c, d⟩
    · exact Or.inl ⟨a, b, ih _ _ c⟩
    · exact Or.inr (Or.inl ⟨a, b, c, ih _ _ d⟩)
    · exact Or.inr (Or.inr (Or.inl ⟨a, b, c, ih _ _ d⟩))
    · exact Or.inr (Or.inr (Or.inr ⟨a, b, c, ih _ _ d⟩))
theorem okMono {o v : Nat → Int32} {i h e : Nat} : ∀ (k : Nat), okCode o v e i h → okCode o v (e + k) i h := by
  intro k
  induction k with
  | zero => intro q; exact q
  | succ k ih => intro q; exact okMono1 _ _ _ (ih q)
def agr (no nv : Nat → Int32) (O d : Nat) (o v : Nat → Int32) : Prop := ∀ k, k < O → o (d + k) = no k ∧ v (d + k) = nv k
def PRE (no nv : Nat → Int32) (s O H : Nat) : Prop := ∀ (d : Nat) (o v : Nat → Int32), d ≤ 1200 → agr no nv O d o v → ∀ e, okCode o v e (d + O) H → okCode o v (e + (O - s)) (d + s) 0
def VAL (no nv : Nat → Int32) (O s : Nat) : Prop := ∀ (d : Nat) (o v : Nat → Int32), d ≤ 1200 → agr no nv O d o v → okCode o v 400 (d + s) 0
theorem PRE_0 {no nv : Nat → Int32} {s : Nat} : PRE no nv s s 0 := by
  intro d o v hd ha e h
  rw [Nat.sub_self]
  exact h
theorem PRE_cong {no nv no' nv' : Nat → Int32} {s O H : Nat} (e : ∀ k, k < O → no' k = no k ∧ nv' k = nv k) (h : PRE no nv s O H) : PRE no' nv' s O H := by
  intro d o v hd ha e2 q
  refine h d o v hd (fun k hk => ?_) e2 q
  rw [← (e k hk).1, ← (e k hk).2]
  exact ha k hk
theorem VAL_cong {no nv no' nv' : Nat → Int32} {s O O' : Nat} (l : O ≤ O') (e : ∀ k, k < O → no' k = no k ∧ nv' k = nv k) (h : VAL no nv O s) : VAL no' nv' O' s := by
  intro d o v hd ha
  refine h d o v hd (fun k hk => ?_)
  rw [← (e k hk).1, ← (e k hk).2]
  exact ha k (by omega)
def stepOK (a v : Int32) (H H' : Nat) : Prop := ¬ a.toInt = 408 ∧ ((a.toInt = 400 ∧ H < 200 ∧ H' = H + 1) ∨ (a.toInt = 401 ∧ H < 200 ∧ (0 ≤ v.toInt ∧ v.toInt ≤ 7) ∧ H' = H + 1) ∨ ((a.toInt = 402 ∨ a.toInt = 405) ∧ 1 ≤ H ∧ H ≤ 200 ∧ H' = H) ∨ (¬ (a.toInt = 400 ∨ a.toInt = 401 ∨ a.toInt = 402 ∨ a.toInt = 405) ∧ 2 ≤ H ∧ H ≤ 200 ∧ H' = H - 1))
theorem PRE_ext {no nv : Nat → Int32} {s O H H' : Nat} (h : PRE no nv s O H) (hs : s ≤ O) (hO : O < 400) (st : stepOK (no O) (nv O) H H') : PRE no nv s (O + 1) H' := by
  intro d o v hd ha e q
  have a0 := ha O (Nat.lt_succ_self O)
  have q' : okCode o v e (d + O + 1) H' := q
  have w : okCode o v (e + 1) (d + O) H := by
    refine ⟨by omega, Or.inr ?_⟩
    rw [a0.1, a0.2]
    refine ⟨st.1, ?_⟩
    rcases st.2 with ⟨a, b, rfl⟩ | ⟨a, b, c, rfl⟩ | ⟨a, b, c, rfl⟩ | ⟨a, b, c, rfl⟩
    · exact Or.inl ⟨a, b, q'⟩
    · exact Or.inr (Or.inl ⟨a, b, c, q'⟩)
    · exact Or.inr (Or.inr (Or.inl ⟨a, b, c, q'⟩))
    · exact Or.inr (Or.inr (Or.inr ⟨a, b, c, q'⟩))
  have r := h d o v hd (fun k hk => ha k (by omega)) _ w
  rw [show e + (O + 1 - s) = e + 1 + (O - s) by omega]
  exact r
theorem PRE_end {no nv : Nat → Int32} {s O H : Nat} (h : PRE no nv s O H) (hs : s ≤ O) (hO : O < 399) (he : (no O).toInt = 408) : VAL no nv (O + 1) s := by
  intro d o v hd ha
  have a0 := ha O (Nat.lt_succ_self O)
  have w : okCode o v 1 (d + O) H := ⟨by omega, Or.inl (by rw [a0.1]; exact he)⟩
  have r := h d o v hd (fun k hk => ha k (by omega)) _ w
  have r2 := okMono (399 - (O - s)) r
  rw [show 1 + (O - s) + (399 - (O - s)) = 400 by omega] at r2
  exact r2
