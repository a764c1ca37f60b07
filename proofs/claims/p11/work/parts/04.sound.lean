/-! THE SMALL MACHINE IS THE MACHINE'S: what it comes to, the machine comes to. -/
theorem xG_of {b : Bool} {P : Prop} (h : xG b P) : b = true ∧ P := by
  cases b with
  | true => exact ⟨rfl, h⟩
  | false => exact h.elim
theorem xOp_of {α : Type} {o : Option α} {f : α → Prop} (h : xOp o f) : ∃ x, o = some x ∧ f x := by
  cases o with
  | none => exact h.elim
  | some x => exact ⟨x, rfl, h⟩
theorem xJ_of {pc : Nat} {off : Int} {f : Nat → Prop} (h : xJ pc off f) : ∃ t : Nat, (pc : Int) + off = (t : Int) ∧ f t := by
  unfold xJ at h
  cases e : (pc : Int) + off with
  | ofNat t => rw [e] at h; exact ⟨t, rfl, h⟩
  | negSucc t => rw [e] at h; exact h.elim
theorem xI1_of {st : List Value} {f : Int32 → List Value → Prop} (h : xI1 st f) : ∃ x r, st = .int x :: r ∧ f x r := by
  unfold xI1 at h; split at h
  · exact ⟨_, _, rfl, h⟩
  · exact h.elim
theorem xI2_of {st : List Value} {f : Int32 → Int32 → List Value → Prop} (h : xI2 st f) : ∃ x y r, st = .int y :: .int x :: r ∧ f x y r := by
  unfold xI2 at h; split at h
  · exact ⟨_, _, _, rfl, h⟩
  · exact h.elim
theorem xL1_of {st : List Value} {f : Int64 → List Value → Prop} (h : xL1 st f) : ∃ x r, st = .long x :: r ∧ f x r := by
  unfold xL1 at h; split at h
  · exact ⟨_, _, rfl, h⟩
  · exact h.elim
theorem xL2_of {st : List Value} {f : Int64 → Int64 → List Value → Prop} (h : xL2 st f) : ∃ x y r, st = .long y :: .long x :: r ∧ f x y r := by
  unfold xL2 at h; split at h
  · exact ⟨_, _, _, rfl, h⟩
  · exact h.elim
theorem xR1_of {st : List Value} {f : Nat → List Value → Prop} (h : xR1 st f) : ∃ x r, st = .ref x :: r ∧ f x r := by
  unfold xR1 at h; split at h
  · exact ⟨_, _, rfl, h⟩
  · exact h.elim
theorem xRI_of {st : List Value} {f : Nat → Int32 → List Value → Prop} (h : xRI st f) : ∃ a j r, st = .int j :: .ref a :: r ∧ f a j r := by
  unfold xRI at h; split at h
  · exact ⟨_, _, _, rfl, h⟩
  · exact h.elim
theorem xVRI_of {st : List Value} {f : Nat → Int32 → Value → List Value → Prop} (h : xVRI st f) : ∃ a j v r, st = v :: .int j :: .ref a :: r ∧ f a j v r := by
  unfold xVRI at h; split at h
  · exact ⟨_, _, _, _, rfl, h⟩
  · exact h.elim
theorem xVR_of {st : List Value} {f : Nat → Value → List Value → Prop} (h : xVR st f) : ∃ a v r, st = v :: .ref a :: r ∧ f a v r := by
  unfold xVR at h; split at h
  · exact ⟨_, _, _, rfl, h⟩
  · exact h.elim
theorem xV1_of {st : List Value} {f : Value → List Value → Prop} (h : xV1 st f) : ∃ v r, st = v :: r ∧ f v r := by
  unfold xV1 at h; split at h
  · exact ⟨_, _, rfl, h⟩
  · exact h.elim
theorem xV2_of {st : List Value} {f : Value → Value → List Value → Prop} (h : xV2 st f) : ∃ v w r, st = v :: w :: r ∧ f v w r := by
  unfold xV2 at h; split at h
  · exact ⟨_, _, _, rfl, h⟩
  · exact h.elim
theorem xLd_of {ls : xL} {i : Nat} {f : Value → Prop} (h : xLd ls i f) : ∃ v, ls[i]? = some (some v) ∧ f v := by
  unfold xLd at h; split at h
  · exact ⟨_, by assumption, h⟩
  · exact h.elim
theorem xArI_of {M : xM} {a : Nat} {f : Nat → Nat → (Nat → Int32) → Prop} (h : xArI M a f) : ∃ t n g, M[a]? = some (.inl (t, n, .inl g)) ∧ f t n g := by
  unfold xArI at h; split at h
  · exact ⟨_, _, _, by assumption, h⟩
  · exact h.elim
theorem xArL_of {M : xM} {a : Nat} {f : Nat → Nat → (Nat → Int64) → Prop} (h : xArL M a f) : ∃ t n g, M[a]? = some (.inl (t, n, .inr (.inl g))) ∧ f t n g := by
  unfold xArL at h; split at h
  · exact ⟨_, _, _, by assumption, h⟩
  · exact h.elim
theorem xArR_of {M : xM} {a : Nat} {f : Nat → Nat → (Nat → Option Nat) → Prop} (h : xArR M a f) : ∃ t n g, M[a]? = some (.inl (t, n, .inr (.inr g))) ∧ f t n g := by
  unfold xArR at h; split at h
  · exact ⟨_, _, _, by assumption, h⟩
  · exact h.elim
theorem xArr_of {M : xM} {a : Nat} {f : Nat → Nat → xC → Prop} (h : xArr M a f) : ∃ t n g, M[a]? = some (.inl (t, n, g)) ∧ f t n g := by
  unfold xArr at h; split at h
  · exact ⟨_, _, _, by assumption, h⟩
  · exact h.elim
theorem xObj_of {M : xM} {a : Nat} {f : Nat → List Value → Prop} (h : xObj M a f) : ∃ ci fs, M[a]? = some (.inr (ci, fs)) ∧ f ci fs := by
  unfold xObj at h; split at h
  · exact ⟨_, _, by assumption, h⟩
  · exact h.elim
theorem xObS_of {M : xM} {a : Nat} {f : Nat → List Value → Prop} {g : Prop} (h : xObS M a f g) : (∃ ci fs, M[a]? = some (.inr (ci, fs)) ∧ f ci fs) ∨ g := by
  unfold xObS at h; split at h
  · exact Or.inl ⟨_, _, by assumption, h⟩
  · exact Or.inr h
  · exact h.elim
theorem xCsS_of {α : Type} {o : Option α} {f : α → Prop} {g : Prop} (h : xCsS o f g) : (∃ x, o = some x ∧ f x) ∨ g := by
  cases o with
  | none => exact Or.inr h
  | some x => exact Or.inl ⟨x, rfl, h⟩
theorem xIf_of {b : Bool} {P Q : Prop} (h : xIf b P Q) : (b = true ∧ P) ∨ (b = false ∧ Q) := by
  cases b with
  | true => exact Or.inl ⟨rfl, h⟩
  | false => exact Or.inr ⟨rfl, h⟩
theorem xIn_of {j : Int32} {n : Nat} (h : xIn j n = true) : vp_in j n := by
  unfold xIn at h
  simp only [Bool.and_eq_true, Bool.not_eq_true', decide_eq_false_iff_not, decide_eq_true_eq] at h
  rintro (q | q)
  · exact h.1 q
  · omega
/-! the pictures -/
def xA (b0 : Nat) (bs : Nat × Nat) (k : Nat) : Nat := if k = xSc then bs.1 else if k = xSc + 1 then bs.2 else b0 + k
/-- the text constant's cells, and the statics that its methods read -/
def xStg (b0 : Nat) (bs : Nat × Nat) (U : State) (H : Heap) : Prop := (∃ adK adV : Nat → Nat, adK 0 = bs.2 ∧ vk_S 1 [73] [xWb] adK adV (fun q => b0 ≤ q) U H) ∧ va_Z "java/lang/String" "COMPACT_STRINGS" "Z" (.int 1) (fun q => b0 ≤ q) U H ∧ va_Zq "jdk/internal/util/Preconditions" "SIOOBE_FORMATTER" "Ljava/util/function/BiFunction;" (fun q => b0 ≤ q) U H ∧ vk_R RX7 90 xWtx bs.2 U
theorem xStg_moved {b0 : Nat} {bs : Nat × Nat} {s U : State} {H H1 : Heap} (hW : s.WarmedH U.vm) (hq : ∀ a : Nat, a < H.size → ¬ b0 ≤ a → H1[a]? = H[a]?) (h : xStg b0 bs s H) : xStg b0 bs U H1 := by
  obtain ⟨⟨adK, adV, h1, h2⟩, h3, h4, h5⟩ := h
  exact ⟨⟨adK, adV, h1, (vk_S.moved hW.alike h2).kept hq⟩, (va_Z.moved hW.alike h3).kept hq, (va_Zq.moved hW.alike h4).kept hq, vk_R.warm hW h5⟩
theorem xStg_same {b0 : Nat} {bs : Nat × Nat} {u U : State} {H : Heap} (hvm : U.vm = u.vm) (h : xStg b0 bs u H) : xStg b0 bs U H := by
  have hA : u.vm.Alike U.vm := by rw [hvm]; exact Vm.Alike.refl _
  obtain ⟨⟨adK, adV, h1, h2⟩, h3, h4, h5⟩ := h
  exact ⟨⟨adK, adV, h1, vk_S.moved hA h2⟩, va_Z.moved hA h3, va_Zq.moved hA h4, vk_R.same hvm h5⟩
def xV (b0 : Nat) (bs : Nat × Nat) (v : Value) : Value := match v with
  | .ref k => .ref (xA b0 bs k)
  | v => v
def xT (b0 : Nat) (bs : Nat × Nat) (cA : Nat → ClassId) (e : xE) : va_E := match e with
  | .inl (t, n, .inl f) => .inl (cA t, n, .inl f)
  | .inl (t, n, .inr (.inl f)) => .inl (cA t, n, .inr (.inl f))
  | .inl (t, n, .inr (.inr f)) => .inl (cA t, n, .inr (.inr (.inr (.inr (fun j => (f j).map (xA b0 bs))))))
  | .inr (ci, fs) => .inr (ci, fs.map (xV b0 bs))
def xWs (b0 : Nat) (bs : Nat × Nat) (cA : Nat → ClassId) (M : xM) : va_W := M.mapIdx (fun k e => (b0 + k, xT b0 bs cA e))
def xTys (cA : Nat → ClassId) : List (ClassId × FieldType) := (List.range 8).map (fun t => (cA t, xAty t))
def xAO (U : State) : Prop := (∀ ci t, xAoc ci = some t → va_AO (xCl ci).1 U) ∧ ∀ (o i z : Nat) (r : xMrow), xNst o i = some z → xMet z = some r → va_Nw (.methodLinkNest (xoN o) i r.1 RX11) U
theorem xV_cat (b0 : Nat) (bs : Nat × Nat) (v : Value) : (xV b0 bs v).category = v.category := by cases v <;> rfl
theorem xV_null (b0 : Nat) (bs : Nat × Nat) : xV b0 bs .null = .null := rfl
theorem xWs_get {b0 : Nat} {bs : Nat × Nat} {cA : Nat → ClassId} {M : xM} {a : Nat} {e : xE} (h : M[a]? = some e) : (xWs b0 bs cA M)[a]? = some (b0 + a, xT b0 bs cA e) := by
  unfold xWs
  rw [List.getElem?_mapIdx, h]
  rfl
theorem xWs_set {b0 : Nat} {bs : Nat × Nat} {cA : Nat → ClassId} {M : xM} {a : Nat} {e : xE} : (xWs b0 bs cA M).set a (b0 + a, xT b0 bs cA e) = xWs b0 bs cA (M.set a e) := by
  unfold xWs
  apply List.ext_getElem?
  intro i
  rw [List.getElem?_set, List.getElem?_mapIdx, List.getElem?_mapIdx, List.getElem?_set]
  by_cases h : a = i
  · subst h
    simp only [if_true, List.length_mapIdx]
    by_cases h2 : a < M.length <;> simp [h2]
  · simp only [if_neg h]
theorem xWs_push {b0 : Nat} {bs : Nat × Nat} {cA : Nat → ClassId} {M : xM} {e : xE} : xWs b0 bs cA M ++ [(b0 + M.length, xT b0 bs cA e)] = xWs b0 bs cA (M ++ [e]) := by
  unfold xWs
  apply List.ext_getElem?
  intro i
  rw [List.getElem?_mapIdx, List.getElem?_append, List.getElem?_append, List.getElem?_mapIdx, List.length_mapIdx]
  by_cases h : i < M.length
  · simp [h]
  · rw [if_neg h, if_neg h]
    by_cases h2 : i = M.length
    · subst h2; simp
    · rw [List.getElem?_eq_none (by simp; omega), List.getElem?_eq_none (by simp; omega)]; rfl
theorem xWs_len {b0 : Nat} {bs : Nat × Nat} {cA : Nat → ClassId} {M : xM} : (xWs b0 bs cA M).length = M.length := by simp [xWs]
theorem xD {b0 : Nat} {bs : Nat × Nat} {cA : Nat → ClassId} {M : xM} : va_D (fun q => b0 ≤ q) (xWs b0 bs cA M) := by
  have key : ∀ (k : Nat) (q : Nat × va_E), (xWs b0 bs cA M)[k]? = some q → q.1 = b0 + k := by
    intro k q h
    unfold xWs at h
    rw [List.getElem?_mapIdx] at h
    cases e : M[k]? with
    | none => rw [e] at h; cases h
    | some x => rw [e] at h; cases h; rfl
  refine ⟨fun i j p q hi hj hpq => ?_, fun k q h => ?_⟩
  · have := key i p hi; have := key j q hj; omega
  · have := key k q h; show b0 ≤ q.1; omega
theorem xTys_get {cA : Nat → ClassId} {t : Nat} (h : t < 8) : (xTys cA)[t]? = some (cA t, xAty t) := by
  unfold xTys
  rw [List.getElem?_map, List.getElem?_range h]
  rfl
theorem xCl_get {ci : Nat} (h : ci < 13) : vwCl[ci]? = some (xCl ci) := by
  match ci, h with
  | 0, _ | 1, _ | 2, _ | 3, _ | 4, _ | 5, _ | 6, _ | 7, _ | 8, _ | 9, _ | 10, _ | 11, _ | 12, _ => rfl
theorem xTy_ok {ci : Nat} (h : ci < 13) : ∀ k, k < (xCl ci).2.2 → parseFieldDescriptor ((xCl ci).2.1 k).2.2.1 = some (xTy ci k) := by
  match ci, h with
  | 0, _ => exact tyX0_ok
  | 1, _ => exact tyX1_ok
  | 2, _ => exact tyX2_ok
  | 3, _ => exact tyX3_ok
  | 4, _ => exact tyX4_ok
  | 5, _ => exact tyX5_ok
  | 6, _ => exact tyX6_ok
  | 7, _ => exact tyX7_ok
  | 8, _ => exact tyX8_ok
  | 9, _ => exact tyX9_ok
  | 10, _ => exact tyX10_ok
  | 11, _ => exact tyX11_ok
  | 12, _ => exact tyX12_ok
theorem xNm_ok {ci : Nat} (h : ci < 13) : ∀ a, a < (xCl ci).2.2 → ∀ b, b < (xCl ci).2.2 → a ≠ b → ((xCl ci).2.1 a).2.1 ≠ ((xCl ci).2.1 b).2.1 := by
  match ci, h with
  | 0, _ => exact nmX0
  | 1, _ => exact nmX1
  | 2, _ => exact nmX2
  | 3, _ => exact nmX3
  | 4, _ => exact nmX4
  | 5, _ => exact nmX5
  | 6, _ => exact nmX6
  | 7, _ => exact nmX7
  | 8, _ => exact nmX8
  | 9, _ => exact nmX9
  | 10, _ => exact nmX10
  | 11, _ => exact nmX11
  | 12, _ => exact nmX12
theorem xIn_law {ci : Nat} (h : ci < 13) : ∀ w ∈ u_ws (xCl ci).1 (xCl ci).2.1 (xCl ci).2.2, w ∈ xWords := by
  match ci, h with
  | 0, _ => exact xInX0
  | 1, _ => exact xInX1
  | 2, _ => exact xInX2
  | 3, _ => exact xInX3
  | 4, _ => exact xInX4
  | 5, _ => exact xInX5
  | 6, _ => exact xInX6
  | 7, _ => exact xInX7
  | 8, _ => exact xInX8
  | 9, _ => exact xInX9
  | 10, _ => exact xInX10
  | 11, _ => exact xInX11
  | 12, _ => exact xInX12
theorem xFind {α : Type} {l : List (Nat × α)} {i : Nat} {r : Nat × α} (h : l.find? (fun r => r.1 == i) = some r) : r ∈ l ∧ r.1 = i :=
  ⟨List.mem_of_find?_eq_some h, by have := List.find?_some h; simpa using this⟩
/-! locals -/
def xLv (b0 : Nat) (bs : Nat × Nat) (ls : xL) : List (Nat × Value) := (List.range ls.length).filterMap (fun i => (ls[i]?.join).map (fun v => (i, xV b0 bs v)))
theorem xLv_mem {b0 : Nat} {bs : Nat × Nat} {ls : xL} {q : Nat × Value} : q ∈ xLv b0 bs ls ↔ ∃ v, ls[q.1]? = some (some v) ∧ q.2 = xV b0 bs v := by
  unfold xLv
  rw [List.mem_filterMap]
  constructor
  · rintro ⟨i, -, h⟩
    cases e : ls[i]? with
    | none => rw [e] at h; cases h
    | some o => cases o with
      | none => rw [e] at h; cases h
      | some v =>
        rw [e] at h
        cases h
        exact ⟨v, e, rfl⟩
  · rintro ⟨v, h1, h2⟩
    have hl : q.1 < ls.length := (List.getElem?_eq_some_iff.mp h1).1
    refine ⟨q.1, List.mem_range.mpr hl, ?_⟩
    rw [h1]
    show some (q.1, xV b0 bs v) = some q
    rw [← h2]
def xHas (b0 : Nat) (bs : Nat × Nat) (lsA : Array Slot) (ls : xL) : Prop := lv_has lsA ls.length (xLv b0 bs ls)
theorem xHas_at {b0 : Nat} {bs : Nat × Nat} {lsA : Array Slot} {ls : xL} (h : xHas b0 bs lsA ls) {i : Nat} {v : Value} (hi : ls[i]? = some (some v)) : lsA[i]? = some (.val (xV b0 bs v)) :=
  h.2.2 (i, xV b0 bs v) (xLv_mem.mpr ⟨v, hi, rfl⟩)
theorem xHas_set1 {b0 : Nat} {bs : Nat × Nat} {lsA : Array Slot} {ls : xL} {i : Nat} {v : Value} (h2 : xNo2 ls i = true) (hi : i < ls.length)
    (h : lv_has lsA ls.length ((i, xV b0 bs v) :: (xLv b0 bs ls).filter (fun q => !(q.1 == i) && !(q.1 + 1 == i && q.2.category == 2)))) : xHas b0 bs lsA (ls.set i (some v)) := by
  refine ⟨by rw [List.length_set]; exact h.1, h.2.1, fun q hq => h.2.2 q ?_⟩
  obtain ⟨w, hw1, hw2⟩ := xLv_mem.mp hq
  rw [List.getElem?_set] at hw1
  by_cases e : i = q.1
  · rw [if_pos e, if_pos hi] at hw1
    cases hw1
    rw [show q = (i, xV b0 bs v) from Prod.ext e.symm hw2]
    exact List.mem_cons_self
  · rw [if_neg e] at hw1
    refine List.mem_cons_of_mem _ (List.mem_filter.mpr ⟨xLv_mem.mpr ⟨w, hw1, hw2⟩, ?_⟩)
    have h3 : (q.1 + 1 == i && q.2.category == 2) = false := by
      by_cases e2 : q.1 + 1 = i
      · subst e2
        have h2 : (match ls[q.1]? with
          | some (some v) => v.category == 1
          | _ => true) = true := h2
        rw [hw1] at h2
        have h2 : (w.category == 1) = true := h2
        rw [hw2, xV_cat]
        simp only [beq_iff_eq] at h2
        simp [h2]
      · simp [e2]
    rw [h3]
    simp [Ne.symm e]
theorem xHas_set2 {b0 : Nat} {bs : Nat × Nat} {lsA : Array Slot} {ls : xL} {i : Nat} {v : Value} (h2 : xNo2 ls i = true) (hi : i + 1 < ls.length)
    (h : lv_has lsA ls.length ((i, xV b0 bs v) :: (xLv b0 bs ls).filter (fun q => !(q.1 == i) && (!(q.1 == i + 1) && !(q.1 + 1 == i && q.2.category == 2))))) : xHas b0 bs lsA ((ls.set i (some v)).set (i + 1) none) := by
  refine ⟨by rw [List.length_set, List.length_set]; exact h.1, h.2.1, fun q hq => h.2.2 q ?_⟩
  obtain ⟨w, hw1, hw2⟩ := xLv_mem.mp hq
  rw [List.getElem?_set] at hw1
  by_cases e1 : i + 1 = q.1
  · rw [if_pos e1, if_pos (by rw [List.length_set]; exact hi)] at hw1
    cases hw1
  rw [if_neg e1, List.getElem?_set] at hw1
  by_cases e : i = q.1
  · rw [if_pos e, if_pos (by omega)] at hw1
    cases hw1
    rw [show q = (i, xV b0 bs v) from Prod.ext e.symm hw2]
    exact List.mem_cons_self
  · rw [if_neg e] at hw1
    refine List.mem_cons_of_mem _ (List.mem_filter.mpr ⟨xLv_mem.mpr ⟨w, hw1, hw2⟩, ?_⟩)
    have h3 : (q.1 + 1 == i && q.2.category == 2) = false := by
      by_cases e2 : q.1 + 1 = i
      · subst e2
        have h2 : (match ls[q.1]? with
          | some (some v) => v.category == 1
          | _ => true) = true := h2
        rw [hw1] at h2
        have h2 : (w.category == 1) = true := h2
        rw [hw2, xV_cat]
        simp only [beq_iff_eq] at h2
        simp [h2]
      · simp [e2]
    rw [h3]
    simp [Ne.symm e, Ne.symm e1]
theorem xSt1_of {ls : xL} {i : Nat} {v : Value} {f : xL → Prop} (h : xSt1 ls i v f) : xNo2 ls i = true ∧ i < ls.length ∧ f (ls.set i (some v)) := by
  obtain ⟨h1, h2⟩ := xG_of h
  simp only [Bool.and_eq_true, decide_eq_true_eq] at h1
  exact ⟨h1.1, h1.2, h2⟩
theorem xSt2_of {ls : xL} {i : Nat} {v : Value} {f : xL → Prop} (h : xSt2 ls i v f) : xNo2 ls i = true ∧ i + 1 < ls.length ∧ f ((ls.set i (some v)).set (i + 1) none) := by
  obtain ⟨h1, h2⟩ := xG_of h
  simp only [Bool.and_eq_true, decide_eq_true_eq] at h1
  exact ⟨h1.1, h1.2, h2⟩
/-! contracts -/
def xB (D : va_G) (b0 : Nat) (bs : Nat × Nat) (cA : Nat → ClassId) (M : xM) (U : State) : Prop := U.heap.size = b0 + M.length ∧ M.length ≤ xSc ∧ va_P D vwCl (xWs b0 bs cA M) U.heap ∧ va_K D vwCl (xTys cA) U ∧ xAO U ∧ xStg b0 bs U U.heap
def xQ (D : va_G) (b0 : Nat) (bs : Nat × Nat) (cA : Nat → ClassId) (z : Nat) (M : xM) (post : xPost) : Array Value → State → Outcome → State → Prop := fun _ st o t =>
  (∃ (v : Option Value) (M' : xM), o = .returned (v.map (xV b0 bs)) ∧ post v M' ∧ M'.length = M.length + (xMc z).1 ∧ xB D b0 bs cA M' t) ∧ va_F (fun q => b0 ≤ q) st t
def xWz (r : xMrow) : List Cond := .code r.1 r.2.1 r.2.2.1 r.2.2.2.1 :: xWords
def xRm (d z : Nat) : Room := { frames := d, cells := (xMc z).1, slots := (xMc z).2, locals := 60 * d }
def xOk (l : Launch) (D : va_G) (b0 : Nat) (bs : Nat × Nat) (cA : Nat → ClassId) (d z : Nat) (r : xMrow) (as : List Value) (M : xM) (post : xPost) : Prop :=
  Met l r.1 (xWz r) (xRm d z) (va_Pc (as.map (xV b0 bs)) (xB D b0 bs cA M)) (xQ D b0 bs cA z M post) (xMc z).1 (xMc z).2 (fun q => b0 ≤ q)
theorem xAO_moved {u U : State} (hW : u.WarmedH U.vm) (h : xAO u) : xAO U := ⟨fun ci t e => va_AO.moved hW.alike (h.1 ci t e), fun o i z r e1 e2 => va_Nw.warmM hW (h.2 o i z r e1 e2)⟩
theorem xAO_same {u U : State} (hvm : u.vm = U.vm) (h : xAO u) : xAO U := ⟨fun ci t e => va_AO.moved (by rw [hvm]; exact Vm.Alike.refl U.vm) (h.1 ci t e), fun o i z r e1 e2 => va_Nw.same rfl hvm (h.2 o i z r e1 e2)⟩
theorem xBlind {D : va_G} {b0 : Nat} {bs : Nat × Nat} {cA : Nat → ClassId} {av : List Value} {M : xM} : FrameBlind (va_Pc av (xB D b0 bs cA M)) := by
  intro a U g mk h
  obtain ⟨q0, q1, q2, q3, q4, q5⟩ := h
  exact ⟨q0, q1, q2, q3, va_K.moved (u := U) (U := U.calling g mk a) (Vm.Alike.refl U.vm) q4, xAO_same (u := U) (U := U.calling g mk a) rfl q5.1, xStg_same (u := U) (U := U.calling g mk a) rfl q5.2⟩
theorem xGoodW {w : Cond} (h : w ∈ xWords) : (w.onTables && w.keeps) = true ∨ ∃ ty, w = .arrayClass ty := good_of_word (List.mem_filter.mp h).2
/-! what the tables say -/
theorem xMet_say {y : MethodName} {cb : ByteArray} {maxL : Nat} {ret : Option FieldType} {o n kind w1 w2 w3 w4 : Nat} (h : xMetOk (y, cb, maxL, ret, o, n, kind, w1, w2, w3, w4) = true) :
    Cond.code y cb maxL ret ∈ xWords ∧ (kind = 0 → Cond.static y ∈ xWords) ∧ (¬ kind = 0 → Cond.instanceMethod y ∈ xWords) ∧ (kind = 1 → Cond.selects y.cls y y ∈ xWords) ∧ Cond.initialized y.cls ∈ xWords ∧ y.cls = xoN o ∧ plainName y.cls = true ∧ (parseMethodDescriptor y.desc).map (fun d => d.parameters.length) = some n ∧ y.cls ≠ "java/lang/invoke/MethodHandle" ∧ y.cls ≠ "java/lang/invoke/VarHandle" ∧ (kind = 2 → y.name = "<init>" ∧ ret = none) ∧ kind < 3 ∧ maxL ≤ 20 := by
  simp only [xMetOk, Bool.and_eq_true, decide_eq_true_eq] at h
  obtain ⟨⟨⟨⟨⟨⟨⟨⟨⟨⟨⟨a1, a2⟩, a3⟩, a4⟩, a5⟩, a6⟩, a7⟩, a8⟩, a9⟩, a10⟩, a11⟩, a12⟩ := h
  refine ⟨xWok_in a1, fun e => ?_, fun e => ?_, fun e => ?_, xWok_in a4, a5, a6, a7, a8, a9, fun e => ?_, a11, a12⟩
  · rw [if_pos e] at a2; exact xWok_in a2
  · rw [if_neg e] at a2; exact xWok_in a2
  · rw [if_pos e] at a3; exact xWok_in a3
  · rw [if_pos e] at a10
    simp only [Bool.and_eq_true, decide_eq_true_eq] at a10
    exact a10
theorem xGoodIn (r : xMrow) (hr : xMetOk r = true) : GoodIn xWords (xWz r) := by
  intro w hw
  rcases List.mem_cons.mp hw with e | e
  · subst e
    obtain ⟨y, c, maxL, ret, o, n, kind, w1, w2, w3, w4⟩ := r
    have h := (xMet_say hr).1
    exact ⟨h, xGoodW h⟩
  · exact ⟨e, xGoodW e⟩
theorem xFld_say {o i : Nat} {row : Nat × Nat × Nat × Nat} (h : xFld o i = some row) : Cond.fieldLink (xoN o) i ((xCl row.2.1).2.1 row.2.2.1).1 ((xCl row.2.1).2.1 row.2.2.1).2.1 ((xCl row.2.1).2.1 row.2.2.1).2.2.1 ∈ xWords ∧ row.2.2.1 < (xCl row.2.1).2.2 ∧ row.2.1 < 13 := by
  obtain ⟨h1, h2⟩ := xFind h
  have h3 := List.all_eq_true.mp (xFldL_all o) row h1
  simp only [xFldOk, Bool.and_eq_true, decide_eq_true_eq, h2] at h3
  exact ⟨xWok_in h3.1.1, h3.1.2, h3.2⟩
theorem xCst_say {o i : Nat} {row : Nat × Int32 × Nat} (h : xCst o i = some row) : Cond.constant (xoN o) i row.2.1 ∈ xWords := by
  obtain ⟨h1, h2⟩ := xFind h
  have h3 := List.all_eq_true.mp (xCstL_all o) row h1
  simp only [xCstOk, h2] at h3
  exact xWok_in h3
theorem xCsL_say {o i : Nat} {row : Nat × Int64 × Nat} (h : xCsL o i = some row) : Cond.constantLong (xoN o) i row.2.1 ∈ xWords := by
  obtain ⟨h1, h2⟩ := xFind h
  have h3 := List.all_eq_true.mp (xCsLL_all o) row h1
  simp only [xCsLOk, h2] at h3
  exact xWok_in h3
theorem xNew_say {o i : Nat} {row : Nat × Nat × Nat × Nat × Nat} (h : xNew o i = some row) : Cond.classLink (xoN o) i (xCl row.2.1).1 ∈ xWords ∧ Cond.instantiable (xCl row.2.1).1 (xCl row.2.1).2.2 ∈ xWords ∧ Cond.initialized (xCl row.2.1).1 ∈ xWords ∧ row.2.1 < 13 := by
  obtain ⟨h1, h2⟩ := xFind h
  have h3 := List.all_eq_true.mp (xNewL_all o) row h1
  simp only [xNewOk, Bool.and_eq_true, decide_eq_true_eq, h2] at h3
  exact ⟨xWok_in h3.1.1.1, xWok_in h3.1.1.2, xWok_in h3.1.2, h3.2⟩
theorem xCall_met {o i : Nat} {row : Nat × Nat × Nat} {met : xMrow} (h : xCall o i = some row) (hm : xMet row.2.1 = some met) : Cond.methodLink (xoN o) i met.1 ∈ xWords := by
  obtain ⟨h1, h2⟩ := xFind h
  have h3 := List.all_eq_true.mp (xCallL_all o) row h1
  simp only [xCallOk, hm, h2] at h3
  exact xWok_in h3
theorem xCall_intr {o i : Nat} {row : Nat × Nat × Nat} {y : MethodName} (h : xCall o i = some row) (hm : xMet row.2.1 = none) (hy : xIntr row.2.1 = some y) : Cond.methodLink (xoN o) i y ∈ xWords := by
  obtain ⟨h1, h2⟩ := xFind h
  have h3 := List.all_eq_true.mp (xCallL_all o) row h1
  simp only [xCallOk, hm, hy, h2] at h3
  exact xWok_in h3
/-! one frame -/
def xCtx (p : Program) (l : Launch) (R : Room) (s : State) (m : MethodId) (args : Array Value) (meth : Method) (c : Code) (cc : ByteArray) (nL : Nat) (D : va_G) (b0 : Nat) (bs : Nat × Nat) (cA : Nat → ClassId) (h : xH) (E : xEv) : Prop :=
  (p.tables.exec = Jvm.exec ∧ c.code = cc ∧ c.maxLocals = nL ∧ (∀ w ∈ xWords, w.before args s = true) ∧ s.vm.findClass (xoN h.2.2.1) = some m.cls) ∧ (va_K D vwCl (xTys cA) s ∧ xAO s ∧ xStg b0 bs s s.heap) ∧ (h.2.1 = true → meth.name = "<init>") ∧ b0 ≤ s.heap.size ∧
  (∀ X : Nat × (Nat → Int32), h.1 = some X → va_X bs.1 X.1 X.2 s s.heap ∧ bs.1 < s.heap.size ∧ bs.1 < b0) ∧ (h.2.2.2.2.1 ≤ R.cells ∧ h.2.2.2.2.2 ≤ R.slots ∧ 1 ≤ R.frames ∧ 60 ≤ R.locals) ∧
  (∀ (z : Nat) (r : xMrow) (as : List Value) (M : xM) (post : xPost), xMet z = some r → E z as M post → ∃ d, xOk l D b0 bs cA d z r as M post ∧ d + 1 ≤ R.frames ∧ 60 * (d + 1) ≤ R.locals)
def xWld (D : va_G) (b0 : Nat) (bs : Nat × Nat) (cA : Nat → ClassId) (s : State) (M : xM) (H : Heap) (locs : List Loc) (c : Nat) (lsA : Array Slot) (ls : xL) : Prop :=
  s.heap.size + c = b0 + M.length ∧ M.length ≤ xSc ∧ va_P D vwCl (xWs b0 bs cA M) H ∧ va_S (fun q => b0 ≤ q) s.heap H locs ∧ xHas b0 bs lsA ls
def xRetI (h : xH) (i : Instr) (v : Option Value) : Prop :=
  (∃ x, i = .ireturn ∧ v = some (.int x) ∧ xRet h x = true) ∨ (∃ x, i = .lreturn ∧ v = some (.long x) ∧ h.2.2.2.1 = some .long) ∨ (∃ a n, i = .areturn ∧ v = some (.ref a) ∧ h.2.2.2.1 = some (.object n)) ∨ (i = .return_ ∧ v = none ∧ h.2.2.2.1 = none)
/-- what a step goes on with -/
def xGo (p : Program) (l : Launch) (e : Env) (R : Room) (s : State) (m : MethodId) (args : Array Value) (below : List Frame) (meth : Method) (c0 : Code) (Q : State → Prop) (nL : Nat) (D : va_G) (b0 : Nat) (bs : Nat × Nat) (cA : Nat → ClassId) (k : xK) : Prop :=
  ∀ (pc : Nat) (ls : xL) (st : List Value) (M : xM) (c sl : Nat) (H : Heap) (locs : List Loc) (lsA : Array Slot), ls.length = nL → k pc ls st M c sl → xWld D b0 bs cA s M H locs c lsA ls → W p l e R s m args below meth c0 H locs c sl Q (F0 m pc lsA (st.map (xV b0 bs)))
def xFin (p : Program) (l : Launch) (e : Env) (R : Room) (s : State) (m : MethodId) (args : Array Value) (below : List Frame) (meth : Method) (c0 : Code) (Q : State → Prop) (cc : ByteArray) (D : va_G) (b0 : Nat) (bs : Nat × Nat) (cA : Nat → ClassId) (h : xH) (post : xPost) : Prop :=
  ∀ (i : Instr) (v : Option Value) (pc : Nat) (ls : xL) (M : xM) (c sl : Nat) (H : Heap) (locs : List Loc) (lsA : Array Slot), xRetI h i v → decode cc pc = .ok (i, 1) → post v M → c = h.2.2.2.2.1 → sl ≤ h.2.2.2.2.2 → xWld D b0 bs cA s M H locs c lsA ls → W p l e R s m args below meth c0 H locs c sl Q (F0 m pc lsA (v.toList.map (xV b0 bs)))
