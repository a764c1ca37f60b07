section XSIM
variable {p : Program} {l : Launch} {e : Env} {R : Room} {s : State} {m : MethodId} {args : Array Value} {below : List Frame} {meth : Method} {c0 : Code} {H : Heap} {locs : List Loc} {Q : State → Prop}
variable {cc : ByteArray} {nL : Nat} {D : va_G} {b0 : Nat} {bs : Nat × Nat} {cA : Nat → ClassId} {h : xH} {E : xEv} {len pc : Nat} {ls : xL} {st : List Value} {M : xM} {c sl : Nat} {k : xK} {post : xPost} {lsA : Array Slot}
theorem xz_W {cells slots : Nat} {g : JFrame} (k : H.size ≤ s.heap.size + cells → W p l e R s m args below meth c0 H locs cells slots Q g) : W p l e R s m args below meth c0 H locs cells slots Q g := fun T hT X => k (by rw [← hT]; exact X.heapSize) T hT X
theorem xSize (hb : b0 ≤ s.heap.size) (I : xWld D b0 bs cA s M H locs c lsA ls) (hu : H.size ≤ s.heap.size + c) : H.size = b0 + M.length := by
  obtain ⟨i1, i2, hP, hS, -⟩ := I
  have h1 := hS.1
  by_cases h0 : M.length = 0
  · omega
  · have hg : M[M.length - 1]? = some (M[M.length - 1]'(by omega)) := List.getElem?_eq_getElem (by omega)
    have := (hP _ _ (xWs_get hg)).lt
    simp only at this
    omega
/-- the cell that was made stands at the end -/
theorem xLast {q : Nat} {e : va_E} {H1 : Heap} (I : xWld D b0 bs cA s M H locs c lsA ls) (hP1 : va_P D vwCl (xWs b0 bs cA M ++ [(q, e)]) H1) (hD1 : va_D (fun q => b0 ≤ q) (xWs b0 bs cA M ++ [(q, e)])) (hu : H1.size ≤ s.heap.size + (c + 1)) : q = b0 + M.length := by
  obtain ⟨i1, i2, -, -, -⟩ := I
  have hq : (xWs b0 bs cA M ++ [(q, e)])[M.length]? = some (q, e) := by
    rw [List.getElem?_append_right (by rw [xWs_len]; exact Nat.le_refl _), xWs_len, Nat.sub_self]
    rfl
  have h1 := (hP1 _ _ hq).lt
  have h2 := hD1.2 _ _ hq
  simp only at h1 h2
  have h2 : b0 ≤ q := h2
  by_cases h3 : q = b0 + M.length
  · exact h3
  · exfalso
    have hk : q - b0 < M.length := by omega
    have hg : M[q - b0]? = some (M[q - b0]'hk) := List.getElem?_eq_getElem hk
    have hw := xWs_get (b0 := b0) (bs := bs) (cA := cA) hg
    have hw2 : (xWs b0 bs cA M ++ [(q, e)])[q - b0]? = some (b0 + (q - b0), xT b0 bs cA (M[q - b0]'hk)) := by
      rw [List.getElem?_append_left (by rw [xWs_len]; exact hk)]; exact hw
    have := hD1.1 _ _ _ _ hw2 hq (by show b0 + (q - b0) = q; omega)
    omega
theorem xStep_new (C : xCtx p l R s m args meth c0 cc nL D b0 bs cA h E) {ix : Nat} (hs : xS h E (.new ix) len pc ls st M c sl k post) (hdg : decode cc pc = .ok (.new ix, len)) (hn : ls.length = nL) (I : xWld D b0 bs cA s M H locs c lsA ls)
    (kk : xGo p l e R s m args below meth c0 Q nL D b0 bs cA k) : W p l e R s m args below meth c0 H locs c sl Q (F0 m pc lsA (st.map (xV b0 bs))) := by
  obtain ⟨hx, hb, hml, hts, hown⟩ := C.1
  obtain ⟨hK, hAO, -⟩ := C.2.1
  have hb0 := C.2.2.2.1
  obtain ⟨hR1, hR2, -, -⟩ := C.2.2.2.2.2.1
  obtain ⟨i1, i2, hP, hS, hl5⟩ := id I
  have hD := xD (b0 := b0) (bs := bs) (cA := cA) (M := M)
  obtain ⟨hl, hq1⟩ := xG_of hs
  have el := xlen hl
  subst el
  have hs := hq1
  obtain ⟨row, hrow, hs⟩ := xOp_of hs
  obtain ⟨hg, hs⟩ := xG_of hs
  simp only [Bool.and_eq_true, decide_eq_true_eq] at hg
  obtain ⟨g1, g2, g3⟩ := hg
  obtain ⟨n1, n2, n3, n4⟩ := xNew_say hrow
  have hfs : ∀ j, j < (xCl row.2.1).2.2 → defaultValue (xTy row.2.1 j) = vp_V ((xNewO row.2.1).map (xV b0 bs)) j := by
    intro j hj
    unfold vp_V xNewO
    rw [List.map_map, List.getD_eq_getElem?_getD, List.getElem?_map, List.getElem?_range hj]
    show _ = xV b0 bs (defaultValue (xTy row.2.1 j))
    cases xTy row.2.1 j <;> rfl
  refine va_new (fs := (xNewO row.2.1).map (xV b0 bs)) hx hb hts (xIn_law n4) (xTy row.2.1) (xTy_ok n4) hown (hts _ n1) (hts _ n2) (hts _ n3) hK hP hD hS (fun q hq => Nat.le_trans hb0 hq) (xCl_get n4) hfs (Nat.le_trans g1 hR1) (Nat.le_trans g2 hR2) hdg fun q H1 hP1 hD1 hS1 => ?_
  refine xz_W fun hu => ?_
  have hq := xLast I hP1 hD1 hu
  subst hq
  have e1 : (b0 + M.length, (.inr (row.2.1, (xNewO row.2.1).map (xV b0 bs)) : va_E)) = (b0 + M.length, xT b0 bs cA (.inr (row.2.1, xNewO row.2.1))) := rfl
  rw [e1, xWs_push] at hP1
  have e2 : xA b0 bs M.length = b0 + M.length := by unfold xA; rw [if_neg (by omega), if_neg (by omega)]
  have kw := kk _ _ _ _ _ _ H1 locs lsA hn hs ⟨by rw [List.length_append, List.length_singleton]; omega, by rw [List.length_append, List.length_singleton]; omega, hP1, hS1, hl5⟩
  rw [List.map_cons, show xV b0 bs (.ref M.length) = .ref (xA b0 bs M.length) from rfl, e2] at kw
  exact kw
theorem xNaT_of {t : ArrayType} {t0 : Nat} (h : xNaT t = some t0) : newarray.typeOf t = xAty t0 ∧ t0 < 4 ∧ (Cond.arrayClass (newarray.typeOf t) ∈ xWords) := by
  cases t <;> simp only [xNaT, Option.some.injEq, reduceCtorEq] at h <;> subst h
  · exact ⟨rfl, by decide, xOne_17⟩
  · exact ⟨rfl, by decide, xOne_14⟩
  · exact ⟨rfl, by decide, xOne_15⟩
  · exact ⟨rfl, by decide, xOne_16⟩
theorem xStep_newa (C : xCtx p l R s m args meth c0 cc nL D b0 bs cA h E) {ty : ArrayType} (hs : xS h E (.newarray ty) len pc ls st M c sl k post) (hdg : decode cc pc = .ok (.newarray ty, len)) (hn : ls.length = nL) (I : xWld D b0 bs cA s M H locs c lsA ls)
    (kk : xGo p l e R s m args below meth c0 Q nL D b0 bs cA k) : W p l e R s m args below meth c0 H locs c sl Q (F0 m pc lsA (st.map (xV b0 bs))) := by
  obtain ⟨hx, hb, hml, hts, hown⟩ := C.1
  obtain ⟨hK, hAO, -⟩ := C.2.1
  have hb0 := C.2.2.2.1
  obtain ⟨hR1, hR2, -, -⟩ := C.2.2.2.2.2.1
  obtain ⟨i1, i2, hP, hS, hl5⟩ := id I
  have hD := xD (b0 := b0) (bs := bs) (cA := cA) (M := M)
  obtain ⟨hl, hq2⟩ := xG_of hs
  have el := xlen hl
  subst el
  have hs := hq2
  obtain ⟨n, r, e0, hq3⟩ := xI1_of hs
  subst e0
  have hs := hq3
  obtain ⟨t0, ht0, hs⟩ := xOp_of hs
  obtain ⟨hg, hs⟩ := xG_of hs
  simp only [Bool.and_eq_true, Bool.not_eq_true', decide_eq_true_eq, decide_eq_false_iff_not] at hg
  obtain ⟨g1, g2, g3, g4, g5⟩ := hg
  obtain ⟨n1, n2, n3⟩ := xNaT_of ht0
  have key : ∀ (a0 : vp_A), (∀ cA : ClassId, vp_cell cA a0 = arrV cA n.toNatClampNeg (fun _ => defaultValue (xAty t0))) → xT b0 bs cA (.inl (t0, n.toNatClampNeg, xNew0 t0)) = .inl (cA t0, a0) → W p l e R s m args below meth c0 H locs c sl Q (F0 m pc lsA (.int n :: r.map (xV b0 bs))) := by
    intro a0 ha hT
    refine va_newa hx hb (hts _ n3) n1 hK hP hD hS (fun q hq => Nat.le_trans hb0 hq) ha g4 rfl ?_ (Nat.le_trans g1 hR1) (Nat.le_trans g2 hR2) hdg fun q cA' H1 hK1 hP1 hD1 hS1 => ?_
    · have : componentBytes (xAty t0) ≤ 8 := by
        rcases (show t0 = 0 ∨ t0 = 1 ∨ t0 = 2 ∨ t0 = 3 by omega) with rfl | rfl | rfl | rfl <;> decide
      calc n.toNatClampNeg * componentBytes (xAty t0) ≤ 10000 * 8 := Nat.mul_le_mul g5 this
        _ ≤ 536870912 := by decide
    refine xz_W fun hu => ?_
    have hq := xLast I hP1 hD1 hu
    subst hq
    have hcA : cA' = cA t0 := by
      have h1 := (hK.2 t0 _ (xTys_get (by omega))).2
      have h2 := (hK1.2 8 (cA', xAty t0) (by rw [List.getElem?_append_right (by simp [xTys])]; simp [xTys])).2
      simp only at h1 h2
      rcases (show t0 = 0 ∨ t0 = 1 ∨ t0 = 2 ∨ t0 = 3 by omega) with rfl | rfl | rfl | rfl <;> exact Option.some.inj (h2.symm.trans h1)
    subst hcA
    rw [← hT, xWs_push] at hP1
    have e2 : xA b0 bs M.length = b0 + M.length := by unfold xA; rw [if_neg (by omega), if_neg (by omega)]
    have kw := kk _ _ _ _ _ _ H1 locs lsA hn hs ⟨by rw [List.length_append, List.length_singleton]; omega, by rw [List.length_append, List.length_singleton]; omega, hP1, hS1, hl5⟩
    rw [List.map_cons, show xV b0 bs (.ref M.length) = .ref (xA b0 bs M.length) from rfl, e2] at kw
    exact kw
  show W p l e R s m args below meth c0 H locs c sl Q (F0 m pc lsA (.int n :: r.map (xV b0 bs)))
  rcases (show t0 = 0 ∨ t0 = 1 ∨ t0 = 2 ∨ t0 = 3 by omega) with rfl | rfl | rfl | rfl
  · exact key (n.toNatClampNeg, .inl (fun _ => 0)) (fun _ => rfl) rfl
  · exact key (n.toNatClampNeg, .inl (fun _ => 0)) (fun _ => rfl) rfl
  · exact key (n.toNatClampNeg, .inr (.inl (fun _ => 0))) (fun _ => rfl) rfl
  · exact key (n.toNatClampNeg, .inl (fun _ => 0)) (fun _ => rfl) rfl
theorem xStep_anew (C : xCtx p l R s m args meth c0 cc nL D b0 bs cA h E) {ix : Nat} (hs : xS h E (.anewarray ix) len pc ls st M c sl k post) (hdg : decode cc pc = .ok (.anewarray ix, len)) (hn : ls.length = nL) (I : xWld D b0 bs cA s M H locs c lsA ls)
    (kk : xGo p l e R s m args below meth c0 Q nL D b0 bs cA k) : W p l e R s m args below meth c0 H locs c sl Q (F0 m pc lsA (st.map (xV b0 bs))) := by
  obtain ⟨hx, hb, hml, hts, hown⟩ := C.1
  obtain ⟨hK, hAO, -⟩ := C.2.1
  have hb0 := C.2.2.2.1
  obtain ⟨hR1, hR2, -, -⟩ := C.2.2.2.2.2.1
  obtain ⟨i1, i2, hP, hS, hl5⟩ := id I
  have hD := xD (b0 := b0) (bs := bs) (cA := cA) (M := M)
  obtain ⟨hl, hq4⟩ := xG_of hs
  have el := xlen hl
  subst el
  have hs := hq4
  obtain ⟨n, r, e0, hq5⟩ := xI1_of hs
  subst e0
  have hs := hq5
  obtain ⟨row, hrow, hs⟩ := xOp_of hs
  obtain ⟨t0, ht0, hs⟩ := xOp_of hs
  obtain ⟨hg, hs⟩ := xG_of hs
  simp only [Bool.and_eq_true, Bool.not_eq_true', decide_eq_true_eq, decide_eq_false_iff_not] at hg
  obtain ⟨g1, g2, g3, g4, g5⟩ := hg
  obtain ⟨n1, n2, n3, n4⟩ := xNew_say hrow
  have ht8 : 4 ≤ t0 ∧ t0 < 8 := by
    unfold xAoc at ht0
    split at ht0 <;> first | (cases ht0; omega) | cases ht0
  have hty : xAty t0 = .object (xCl row.2.1).1 := by
    generalize row.2.1 = ci at ht0
    unfold xAoc at ht0
    split at ht0 <;> first | (cases ht0; rfl) | cases ht0
  show W p l e R s m args below meth c0 H locs c sl Q (F0 m pc lsA (.int n :: r.map (xV b0 bs)))
  refine va_newq hx hb hown (hts _ n1) (hAO.1 _ _ ht0) hK hP hD hS (fun q hq => Nat.le_trans hb0 hq) g4 rfl ?_ (Nat.le_trans g1 hR1) (Nat.le_trans g2 hR2) hdg fun q cA' H1 hK1 hP1 hD1 hS1 => ?_
  · calc n.toNatClampNeg * 4 ≤ 10000 * 4 := Nat.mul_le_mul_right 4 g5
      _ ≤ 536870912 := by decide
  refine xz_W fun hu => ?_
  have hq := xLast I hP1 hD1 hu
  subst hq
  have hcA : cA' = cA t0 := by
    have h1 := (hK.2 t0 _ (xTys_get ht8.2)).2
    have h2 := (hK1.2 8 (cA', .object (xCl row.2.1).1) (by rw [List.getElem?_append_right (by simp [xTys])]; simp [xTys])).2
    rw [hty] at h1
    obtain ⟨_, _, -, -, -, a1⟩ := h1
    obtain ⟨_, _, -, -, -, a2⟩ := h2
    exact Option.some.inj (a2.symm.trans a1)
  subst hcA
  have hT : xT b0 bs cA (.inl (t0, n.toNatClampNeg, xNew0 t0)) = .inl (cA t0, n.toNatClampNeg, .inr (.inr (.inr (.inr (fun _ => none))))) := by
    rcases (show t0 = 4 ∨ t0 = 5 ∨ t0 = 6 ∨ t0 = 7 by omega) with rfl | rfl | rfl | rfl <;> rfl
  rw [← hT, xWs_push] at hP1
  have e2 : xA b0 bs M.length = b0 + M.length := by unfold xA; rw [if_neg (by omega), if_neg (by omega)]
  have kw := kk _ _ _ _ _ _ H1 locs lsA hn hs ⟨by rw [List.length_append, List.length_singleton]; omega, by rw [List.length_append, List.length_singleton]; omega, hP1, hS1, hl5⟩
  rw [List.map_cons, show xV b0 bs (.ref M.length) = .ref (xA b0 bs M.length) from rfl, e2] at kw
  exact kw
end XSIM
