section XSIM
variable {p : Program} {l : Launch} {e : Env} {R : Room} {s : State} {m : MethodId} {args : Array Value} {below : List Frame} {meth : Method} {c0 : Code} {H : Heap} {locs : List Loc} {Q : State → Prop}
variable {cc : ByteArray} {nL : Nat} {D : va_G} {b0 : Nat} {bs : Nat × Nat} {cA : Nat → ClassId} {h : xH} {E : xEv} {len pc : Nat} {ls : xL} {st : List Value} {M : xM} {c sl : Nat} {k : xK} {post : xPost} {lsA : Array Slot}
theorem xStep_arrays (C : xCtx p l R s m args meth c0 cc nL D b0 bs cA h E) {i : Instr} (hi : i = .iaload ∨ i = .baload ∨ i = .laload ∨ i = .aaload ∨ i = .iastore ∨ i = .bastore ∨ i = .lastore ∨ i = .arraylength) (hs : xS h E i len pc ls st M c sl k post) (hdg : decode cc pc = .ok (i, len)) (hn : ls.length = nL) (I : xWld D b0 bs cA s M H locs c lsA ls)
    (kk : xGo p l e R s m args below meth c0 Q nL D b0 bs cA k) : W p l e R s m args below meth c0 H locs c sl Q (F0 m pc lsA (st.map (xV b0 bs))) := by
  obtain ⟨hx, hb, hml, hts, hown⟩ := C.1
  obtain ⟨hK, hAO, -⟩ := C.2.1
  have hX := C.2.2.2.2.1
  obtain ⟨i1, i2, hP, hS, hl5⟩ := id I
  have hD := xD (b0 := b0) (bs := bs) (cA := cA) (M := M)
  have small : ∀ {a : Nat} {e : xE}, M[a]? = some e → xA b0 bs a = b0 + a := fun {a e} h => by
    have := (List.getElem?_eq_some_iff.mp h).1
    unfold xA
    rw [if_neg (by omega), if_neg (by omega)]
  rcases hi with rfl | rfl | rfl | rfl | rfl | rfl | rfl | rfl
  · obtain ⟨hl, hq1⟩ := xG_of hs
    have el := xlen hl
    subst el
    have hs := hq1
    obtain ⟨a, j, r, e0, hq2⟩ := xRI_of hs
    subst e0
    have hs := hq2
    rcases xIf_of hs with ⟨q, hs⟩ | ⟨q, hs⟩
    · obtain ⟨X, hX1, hs⟩ := xOp_of hs
      obtain ⟨hj, hz1⟩ := xG_of hs
      obtain ⟨x1, x2, x3⟩ := hX X hX1
      have ea : xA b0 bs a = bs.1 := by unfold xA; rw [if_pos (of_decide_eq_true q)]
      show W p l e R s m args below meth c0 H locs c sl Q (F0 m pc lsA (.int j :: .ref (xA b0 bs a) :: r.map (xV b0 bs)))
      rw [ea]
      exact va_sld hx hb x1 x2 (Nat.not_le.mpr x3) hS (xIn_of hj) hdg (kk _ _ _ _ _ _ _ _ _ hn hz1 I)
    · obtain ⟨t, n, f, hM, hs⟩ := xArI_of hs
      obtain ⟨hj, hz2⟩ := xG_of hs
      simp only [Bool.and_eq_true, decide_eq_true_eq] at hj
      obtain ⟨rfl, hj⟩ := hj
      show W p l e R s m args below meth c0 H locs c sl Q (F0 m pc lsA (.int j :: .ref (xA b0 bs a) :: r.map (xV b0 bs)))
      rw [small hM]
      exact va_iald hx hb hK hP a 1 (xWs_get hM) (xTys_get (by decide)) (xIn_of hj) hdg (kk _ _ _ _ _ _ _ _ _ hn hz2 I)
  · obtain ⟨hl, hq3⟩ := xG_of hs
    have el := xlen hl
    subst el
    have hs := hq3
    obtain ⟨a, j, r, e0, hq4⟩ := xRI_of hs
    subst e0
    have hs := hq4
    obtain ⟨t, n, f, hM, hs⟩ := xArI_of hs
    obtain ⟨hj, hz3⟩ := xG_of hs
    simp only [Bool.and_eq_true, Bool.or_eq_true, decide_eq_true_eq] at hj
    obtain ⟨ht, hj⟩ := hj
    show W p l e R s m args below meth c0 H locs c sl Q (F0 m pc lsA (.int j :: .ref (xA b0 bs a) :: r.map (xV b0 bs)))
    rw [small hM]
    rcases ht with rfl | rfl
    · exact va_bald hx hb hK hP a 0 (xWs_get hM) (xTys_get (by decide)) (xIn_of hj) hdg (kk _ _ _ _ _ _ _ _ _ hn hz3 I)
    · exact va_zald hx hb hK hP a 3 (xWs_get hM) (xTys_get (by decide)) (xIn_of hj) hdg (kk _ _ _ _ _ _ _ _ _ hn hz3 I)
  · obtain ⟨hl, hq5⟩ := xG_of hs
    have el := xlen hl
    subst el
    have hs := hq5
    obtain ⟨a, j, r, e0, hq6⟩ := xRI_of hs
    subst e0
    have hs := hq6
    obtain ⟨t, n, f, hM, hs⟩ := xArL_of hs
    obtain ⟨hj, hz4⟩ := xG_of hs
    simp only [Bool.and_eq_true, decide_eq_true_eq] at hj
    obtain ⟨rfl, hj⟩ := hj
    show W p l e R s m args below meth c0 H locs c sl Q (F0 m pc lsA (.int j :: .ref (xA b0 bs a) :: r.map (xV b0 bs)))
    rw [small hM]
    exact va_lald hx hb hK hP a 2 (xWs_get hM) (xTys_get (by decide)) (xIn_of hj) hdg (kk _ _ _ _ _ _ _ _ _ hn hz4 I)
  · obtain ⟨hl, hq7⟩ := xG_of hs
    have el := xlen hl
    subst el
    have hs := hq7
    obtain ⟨a, j, r, e0, hq8⟩ := xRI_of hs
    subst e0
    have hs := hq8
    obtain ⟨t, n, f, hM, hs⟩ := xArR_of hs
    obtain ⟨hj, hz5⟩ := xG_of hs
    simp only [Bool.and_eq_true, decide_eq_true_eq] at hj
    obtain ⟨ht, ht2, hj⟩ := hj
    obtain ⟨q, hq, hs⟩ := xOp_of hz5
    have kw := kk _ _ _ _ _ _ _ _ _ hn hs I
    have e1 : va_rf (((fun j => (f j).map (xA b0 bs)) : Nat → Option Nat) j.toNatClampNeg) = xV b0 bs (.ref q) := by
      show va_rf ((f j.toNatClampNeg).map (xA b0 bs)) = _
      rw [hq]; rfl
    show W p l e R s m args below meth c0 H locs c sl Q (F0 m pc lsA (.int j :: .ref (xA b0 bs a) :: r.map (xV b0 bs)))
    rw [small hM]
    obtain ⟨C1, hC1⟩ : ∃ C1, xAty t = .object C1 := by
      rcases (show t = 4 ∨ t = 5 ∨ t = 6 ∨ t = 7 by omega) with rfl | rfl | rfl | rfl <;> exact ⟨_, rfl⟩
    have hty : (xTys cA)[t]? = some (cA t, .object C1) := by rw [← hC1]; exact xTys_get ht2
    refine va_aldq hx hb hK hP a t (xWs_get hM) hty (xIn_of hj) hdg ?_
    rw [e1]
    exact kw
  · obtain ⟨hl, hq9⟩ := xG_of hs
    have el := xlen hl
    subst el
    have hs := hq9
    obtain ⟨a, j, v, r, e0, hq10⟩ := xVRI_of hs
    subst e0
    have hs := hq10
    obtain ⟨x, r2, ev, hq11⟩ := xI1_of hs
    cases ev
    have hs := hq11
    obtain ⟨t, n, f, hM, hs⟩ := xArI_of hs
    obtain ⟨hj, hz6⟩ := xG_of hs
    simp only [Bool.and_eq_true, decide_eq_true_eq] at hj
    obtain ⟨rfl, hj⟩ := hj
    show W p l e R s m args below meth c0 H locs c sl Q (F0 m pc lsA (.int x :: .int j :: .ref (xA b0 bs a) :: r.map (xV b0 bs)))
    rw [small hM]
    refine va_iast hx hb hK hP hD hS a 1 (xWs_get hM) (xTys_get (by decide)) (xIn_of hj) hdg fun H1 locs1 hP1 _ hS1 => ?_
    exact kk _ _ _ _ _ _ _ _ _ hn hz6 ⟨by rw [List.length_set]; exact i1, by rw [List.length_set]; exact i2, by rw [← xWs_set]; exact hP1, hS1, hl5⟩
  · obtain ⟨hl, hq12⟩ := xG_of hs
    have el := xlen hl
    subst el
    have hs := hq12
    obtain ⟨a, j, v, r, e0, hq13⟩ := xVRI_of hs
    subst e0
    have hs := hq13
    obtain ⟨x, r2, ev, hq14⟩ := xI1_of hs
    cases ev
    have hs := hq14
    obtain ⟨t, n, f, hM, hs⟩ := xArI_of hs
    obtain ⟨hj, hz7⟩ := xG_of hs
    simp only [Bool.and_eq_true, Bool.or_eq_true, decide_eq_true_eq] at hj
    obtain ⟨ht, hj⟩ := hj
    show W p l e R s m args below meth c0 H locs c sl Q (F0 m pc lsA (.int x :: .int j :: .ref (xA b0 bs a) :: r.map (xV b0 bs)))
    rw [small hM]
    rcases ht with rfl | rfl
    · refine va_bast hx hb hK hP hD hS a 0 (xWs_get hM) (xTys_get (by decide)) (xIn_of hj) hdg fun H1 locs1 hP1 _ hS1 => ?_
      exact kk _ _ _ _ _ _ _ _ _ hn hz7 ⟨by rw [List.length_set]; exact i1, by rw [List.length_set]; exact i2, by rw [← xWs_set]; exact hP1, hS1, hl5⟩
    · refine va_zast hx hb hK hP hD hS a 3 (xWs_get hM) (xTys_get (by decide)) (xIn_of hj) hdg fun H1 locs1 hP1 _ hS1 => ?_
      exact kk _ _ _ _ _ _ _ _ _ hn hz7 ⟨by rw [List.length_set]; exact i1, by rw [List.length_set]; exact i2, by rw [← xWs_set]; exact hP1, hS1, hl5⟩
  · obtain ⟨hl, hq15⟩ := xG_of hs
    have el := xlen hl
    subst el
    have hs := hq15
    obtain ⟨a, j, v, r, e0, hq16⟩ := xVRI_of hs
    subst e0
    have hs := hq16
    obtain ⟨x, r2, ev, hq17⟩ := xL1_of hs
    cases ev
    have hs := hq17
    obtain ⟨t, n, f, hM, hs⟩ := xArL_of hs
    obtain ⟨hj, hz8⟩ := xG_of hs
    simp only [Bool.and_eq_true, decide_eq_true_eq] at hj
    obtain ⟨rfl, hj⟩ := hj
    show W p l e R s m args below meth c0 H locs c sl Q (F0 m pc lsA (.long x :: .int j :: .ref (xA b0 bs a) :: r.map (xV b0 bs)))
    rw [small hM]
    refine va_last hx hb hK hP hD hS a 2 (xWs_get hM) (xTys_get (by decide)) (xIn_of hj) hdg fun H1 locs1 hP1 _ hS1 => ?_
    exact kk _ _ _ _ _ _ _ _ _ hn hz8 ⟨by rw [List.length_set]; exact i1, by rw [List.length_set]; exact i2, by rw [← xWs_set]; exact hP1, hS1, hl5⟩
  · obtain ⟨hl, hq18⟩ := xG_of hs
    have el := xlen hl
    subst el
    have hs := hq18
    obtain ⟨a, r, e0, hq19⟩ := xR1_of hs
    subst e0
    have hs := hq19
    rcases xIf_of hs with ⟨q, hs⟩ | ⟨q, hs⟩
    · obtain ⟨X, hX1, hs⟩ := xOp_of hs
      obtain ⟨x1, x2, x3⟩ := hX X hX1
      have ea : xA b0 bs a = bs.1 := by unfold xA; rw [if_pos (of_decide_eq_true q)]
      show W p l e R s m args below meth c0 H locs c sl Q (F0 m pc lsA (.ref (xA b0 bs a) :: r.map (xV b0 bs)))
      rw [ea]
      exact va_slen hx hb x1 x2 (Nat.not_le.mpr x3) hS hdg (kk _ _ _ _ _ _ _ _ _ hn hs I)
    · obtain ⟨t, n, f, hM, hs⟩ := xArr_of hs
      obtain ⟨ht, hs⟩ := xG_of hs
      have kw := kk _ _ _ _ _ _ _ _ _ hn hs I
      show W p l e R s m args below meth c0 H locs c sl Q (F0 m pc lsA (.ref (xA b0 bs a) :: r.map (xV b0 bs)))
      rw [small hM]
      have g := xWs_get (b0 := b0) (bs := bs) (cA := cA) hM
      have ht8 : t < 8 := of_decide_eq_true ht
      obtain f | f | f := f
      · exact va_alen (x := (n, .inl f)) hx hb hK hP a t g (xTys_get ht8) rfl hdg kw
      · exact va_alen (x := (n, .inr (.inl f))) hx hb hK hP a t g (xTys_get ht8) rfl hdg kw
      · exact va_alen (x := (n, .inr (.inr (.inr (.inr (fun j => (f j).map (xA b0 bs))))))) hx hb hK hP a t g (xTys_get ht8) rfl hdg kw
theorem xStep_aastore (C : xCtx p l R s m args meth c0 cc nL D b0 bs cA h E) (hs : xS h E .aastore len pc ls st M c sl k post) (hdg : decode cc pc = .ok (.aastore, len)) (hn : ls.length = nL) (I : xWld D b0 bs cA s M H locs c lsA ls)
    (kk : xGo p l e R s m args below meth c0 Q nL D b0 bs cA k) : W p l e R s m args below meth c0 H locs c sl Q (F0 m pc lsA (st.map (xV b0 bs))) := by
  obtain ⟨hx, hb, hml, hts, hown⟩ := C.1
  obtain ⟨hK, hAO, -⟩ := C.2.1
  obtain ⟨i1, i2, hP, hS, hl5⟩ := id I
  have hD := xD (b0 := b0) (bs := bs) (cA := cA) (M := M)
  have small : ∀ {a : Nat} {e : xE}, M[a]? = some e → xA b0 bs a = b0 + a := fun {a e} h => by
    have := (List.getElem?_eq_some_iff.mp h).1
    unfold xA
    rw [if_neg (by omega), if_neg (by omega)]
  obtain ⟨hl, hq20⟩ := xG_of hs
  have el := xlen hl
  subst el
  have hs := hq20
  obtain ⟨a, j, v, r, e0, hq21⟩ := xVRI_of hs
  subst e0
  have hs := hq21
  obtain ⟨q, r2, ev, hq22⟩ := xR1_of hs
  cases ev
  have hs := hq22
  obtain ⟨t, n, f, hM, hs⟩ := xArR_of hs
  obtain ⟨ci, fs, hM2, hs⟩ := xObj_of hs
  obtain ⟨hj, hz9⟩ := xG_of hs
  simp only [Bool.and_eq_true, decide_eq_true_eq] at hj
  obtain ⟨hci, hne, hj⟩ := hj
  have hci13 : ci < 13 := by
    unfold xAoc at hci
    split at hci <;> first | omega | cases hci
  have ht8 : t < 8 := by
    unfold xAoc at hci
    split at hci <;> first | (cases hci; omega) | cases hci
  have hty : xAty t = .object (xCl ci).1 := by
    unfold xAoc at hci
    split at hci <;> first | (cases hci; rfl) | cases hci
  have hty2 : (xTys cA)[t]? = some (cA t, .object (xCl ci).1) := by rw [← hty]; exact xTys_get ht8
  show W p l e R s m args below meth c0 H locs c sl Q (F0 m pc lsA (.ref (xA b0 bs q) :: .int j :: .ref (xA b0 bs a) :: r.map (xV b0 bs)))
  rw [small hM, small hM2]
  refine va_astq hx hb hK hP hD hS a t q ci (xWs_get hM) hty2 (xWs_get hM2) (xCl_get hci13) (xIn_of hj) hdg fun H1 locs1 hP1 _ hS1 => ?_
  refine kk _ _ _ _ _ _ _ _ _ hn hz9 ⟨by rw [List.length_set]; exact i1, by rw [List.length_set]; exact i2, ?_, hS1, hl5⟩
  rw [← xWs_set]
  have e1 : xT b0 bs cA (.inl (t, n, .inr (.inr (va_up f j.toNatClampNeg (some q))))) = .inl (cA t, n, .inr (.inr (.inr (.inr (va_up (fun j => (f j).map (xA b0 bs)) j.toNatClampNeg (some (b0 + q))))))) := by
    show (Sum.inl _ : va_E) = _
    have e2 : (fun i => ((va_up f j.toNatClampNeg (some q)) i).map (xA b0 bs)) = va_up (fun j => (f j).map (xA b0 bs)) j.toNatClampNeg (some (b0 + q)) := by
      funext i
      unfold va_up
      by_cases hi : i = j.toNatClampNeg
      · simp [hi, small hM2]
      · simp [hi]
    rw [e2]
  rw [e1]
  exact hP1
theorem xFit_of {b0 : Nat} {bs : Nat × Nat} {ty : FieldType} {v : Value} (h : xFit ty v = true) : narrow ty (xV b0 bs v) = xV b0 bs v ∧ fits ty (xV b0 bs v) = true := by
  unfold xFit at h
  split at h
  · exact ⟨rfl, rfl⟩
  · rename_i x
    simp only [Bool.or_eq_true, decide_eq_true_eq] at h
    rcases h with rfl | rfl
    · show narrow FieldType.boolean (Value.int 0) = Value.int 0 ∧ fits FieldType.boolean (Value.int 0) = true
      exact ⟨by decide, by decide⟩
    · show narrow FieldType.boolean (Value.int 1) = Value.int 1 ∧ fits FieldType.boolean (Value.int 1) = true
      exact ⟨by decide, by decide⟩
  · exact ⟨rfl, rfl⟩
  · exact ⟨rfl, rfl⟩
  · cases h
theorem xTy_parse {ci : Nat} (h : ci < 13) {k : Nat} (hk : k < (xCl ci).2.2) : parseFieldDescriptor ((xCl ci).2.1 k).2.2.1 = some (xTy ci k) := xTy_ok h k hk
theorem xDecl {ci : Nat} (h : ci < 13) {k : Nat} : ((xCl ci).2.1 k).1 = xoN ci := by
  match ci, h with
  | 0, _ | 1, _ | 2, _ | 3, _ | 4, _ | 5, _ | 6, _ | 7, _ | 8, _ | 9, _ | 10, _ | 11, _ | 12, _ =>
    show (_ : String × String × String × Bool).1 = _
    first
    | (unfold xCl; simp only []; first | (unfold TX0; split <;> rfl) | (unfold TX1; split <;> rfl) | (unfold TX2; split <;> rfl) | (unfold TX3; split <;> rfl) | (unfold TX4; split <;> rfl) | (unfold TX5; split <;> rfl) | (unfold TX6; split <;> rfl) | (unfold TX7; split <;> rfl) | (unfold TX8; split <;> rfl) | (unfold TX9; split <;> rfl) | (unfold TX10; split <;> rfl) | (unfold TX11; split <;> rfl) | (unfold TX12; split <;> rfl))
theorem xStep_get (C : xCtx p l R s m args meth c0 cc nL D b0 bs cA h E) {ix : Nat} (hs : xS h E (.getfield ix) len pc ls st M c sl k post) (hdg : decode cc pc = .ok (.getfield ix, len)) (hn : ls.length = nL) (I : xWld D b0 bs cA s M H locs c lsA ls)
    (kk : xGo p l e R s m args below meth c0 Q nL D b0 bs cA k) : W p l e R s m args below meth c0 H locs c sl Q (F0 m pc lsA (st.map (xV b0 bs))) := by
  obtain ⟨hx, hb, hml, hts, hown⟩ := C.1
  obtain ⟨hK, hAO, -⟩ := C.2.1
  obtain ⟨i1, i2, hP, hS, hl5⟩ := id I
  have small : ∀ {a : Nat} {e : xE}, M[a]? = some e → xA b0 bs a = b0 + a := fun {a e} h => by
    have := (List.getElem?_eq_some_iff.mp h).1
    unfold xA
    rw [if_neg (by omega), if_neg (by omega)]
  obtain ⟨hl, hq23⟩ := xG_of hs
  have el := xlen hl
  subst el
  have hs := hq23
  obtain ⟨a, r, e0, hq24⟩ := xR1_of hs
  subst e0
  have hs := hq24
  obtain ⟨row, hrow, hs⟩ := xOp_of hs
  obtain ⟨ci, fs, hM, hs⟩ := xObj_of hs
  obtain ⟨hci, hs⟩ := xG_of hs
  obtain ⟨v, hv, hs⟩ := xOp_of hs
  have hci : ci = row.2.1 := of_decide_eq_true hci
  obtain ⟨f1, f2, f3⟩ := xFld_say hrow
  rw [← hci] at f1 f2 f3
  have kw := kk _ _ _ _ _ _ _ _ _ hn hs I
  show W p l e R s m args below meth c0 H locs c sl Q (F0 m pc lsA (.ref (xA b0 bs a) :: r.map (xV b0 bs)))
  rw [small hM]
  exact va_get hx hb hts (xIn_law f3) hown hK hP a (xWs_get hM) (xCl_get f3) row.2.2.1 f2 (hts _ f1) (fun _ h9 => h9) (by rw [List.getElem?_map, hv]; rfl) hdg kw
theorem xStep_put (C : xCtx p l R s m args meth c0 cc nL D b0 bs cA h E) {ix : Nat} (hs : xS h E (.putfield ix) len pc ls st M c sl k post) (hdg : decode cc pc = .ok (.putfield ix, len)) (hn : ls.length = nL) (I : xWld D b0 bs cA s M H locs c lsA ls)
    (kk : xGo p l e R s m args below meth c0 Q nL D b0 bs cA k) : W p l e R s m args below meth c0 H locs c sl Q (F0 m pc lsA (st.map (xV b0 bs))) := by
  obtain ⟨hx, hb, hml, hts, hown⟩ := C.1
  obtain ⟨hK, hAO, -⟩ := C.2.1
  have hini := C.2.2.1
  obtain ⟨i1, i2, hP, hS, hl5⟩ := id I
  have hD := xD (b0 := b0) (bs := bs) (cA := cA) (M := M)
  have small : ∀ {a : Nat} {e : xE}, M[a]? = some e → xA b0 bs a = b0 + a := fun {a e} h => by
    have := (List.getElem?_eq_some_iff.mp h).1
    unfold xA
    rw [if_neg (by omega), if_neg (by omega)]
  obtain ⟨hl, hq25⟩ := xG_of hs
  have el := xlen hl
  subst el
  have hs := hq25
  obtain ⟨a, v, r, e0, hq26⟩ := xVR_of hs
  subst e0
  have hs := hq26
  obtain ⟨row, hrow, hs⟩ := xOp_of hs
  obtain ⟨ci, fs, hM, hs⟩ := xObj_of hs
  obtain ⟨hg, hs⟩ := xG_of hs
  simp only [Bool.and_eq_true, Bool.or_eq_true, Bool.not_eq_true', decide_eq_true_eq] at hg
  obtain ⟨hci, hlt, hfit, hfin⟩ := hg
  obtain ⟨f1, f2, f3⟩ := xFld_say hrow
  rw [← hci] at f1 f2 f3
  obtain ⟨g1, g2⟩ := xFit_of (b0 := b0) (bs := bs) hfit
  have e1 : (xWs b0 bs cA M).set a (b0 + a, .inr (ci, (fs.map (xV b0 bs)).set row.2.2.1 (xV b0 bs v))) = xWs b0 bs cA (M.set a (.inr (ci, fs.set row.2.2.1 v))) := by
    rw [← xWs_set]
    show _ = (xWs b0 bs cA M).set a (b0 + a, .inr (ci, (fs.set row.2.2.1 v).map (xV b0 bs)))
    rw [List.map_set]
  have done : ∀ (H1 : Heap) (locs1 : List Loc), va_P D vwCl ((xWs b0 bs cA M).set a (b0 + a, .inr (ci, (fs.map (xV b0 bs)).set row.2.2.1 (xV b0 bs v)))) H1 → va_D (fun q => b0 ≤ q) ((xWs b0 bs cA M).set a (b0 + a, .inr (ci, (fs.map (xV b0 bs)).set row.2.2.1 (xV b0 bs v)))) → va_S (fun q => b0 ≤ q) s.heap H1 locs1 → W p l e R s m args below meth c0 H1 locs1 c sl Q (F0 m (pc + 3) lsA (r.map (xV b0 bs))) := fun H1 locs1 hP1 _ hS1 =>
    kk _ _ _ _ _ _ _ _ _ hn hs ⟨by rw [List.length_set]; exact i1, by rw [List.length_set]; exact i2, by rw [← e1]; exact hP1, hS1, hl5⟩
  show W p l e R s m args below meth c0 H locs c sl Q (F0 m pc lsA (xV b0 bs v :: .ref (xA b0 bs a) :: r.map (xV b0 bs)))
  rw [small hM]
  cases hff : ((xCl ci).2.1 row.2.2.1).2.2.2 with
  | false => exact va_put hx hb hts (xIn_law f3) (xTy ci) (xTy_ok f3) (xNm_ok f3) hown hK hP hD hS a (xWs_get hM) (xCl_get f3) row.2.2.1 f2 (hts _ f1) (fun _ h9 => h9) hff (xTy_ok f3 _ f2) g1 g2 (by rw [List.length_map]; exact hlt) hdg done
  | true =>
    rw [hff] at hfin
    rcases hfin with q | ⟨q1, q2⟩
    · cases q
    · exact va_putF hx hb hts (xIn_law f3) (xTy ci) (xTy_ok f3) (xNm_ok f3) hown hK hP hD hS a (xWs_get hM) (xCl_get f3) row.2.2.1 f2 (hts _ f1) (fun _ h9 => h9) hff (hini q1) ((xDecl f3).trans (by rw [q2])) (xTy_ok f3 _ f2) g1 g2 (by rw [List.length_map]; exact hlt) hdg done
end XSIM
