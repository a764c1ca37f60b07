/-! THE CONSTRUCTORS, RUN BY THE KERNEL: cells as data (an array of numbers is blank), a step as a function; what it comes to, a run comes to. -/
abbrev eC : Type := (Nat × Nat × List (Option Nat)) ⊕ (Nat × List Value)
abbrev eM : Type := List eC
def eCell (e : eC) : xE := match e with
  | .inl (t, n, L) => .inl (t, n, if t < 4 then xNew0 t else .inr (.inr (fun j => (L[j]?).join)))
  | .inr o => .inr o
def eMem (D : eM) : xM := D.map eCell
abbrev eS : Type := Nat × xL × List Value × eM × Nat × Nat
theorem eMem_len (D : eM) : (eMem D).length = D.length := List.length_map _
theorem eMem_push (D : eM) (e : eC) : eMem (D ++ [e]) = eMem D ++ [eCell e] := by simp [eMem]
theorem eMem_get {D : eM} {a : Nat} {e : eC} (h : D[a]? = some e) : (eMem D)[a]? = some (eCell e) := by
  unfold eMem; rw [List.getElem?_map, h]; rfl
theorem eMem_set {D : eM} {a : Nat} {e : eC} : eMem (D.set a e) = (eMem D).set a (eCell e) := by
  unfold eMem; rw [List.map_set]
theorem eNewR {t n : Nat} (h : ¬ t < 4) (h2 : t ≠ 2) : eCell (.inl (t, n, List.replicate n none)) = .inl (t, n, xNew0 t) := by
  unfold eCell
  simp only [if_neg h]
  have e : xNew0 t = .inr (.inr (fun _ => none)) := by
    unfold xNew0
    split <;> first | omega | rfl
  rw [e]
  congr 5
  funext j
  by_cases hj : j < n
  · simp [hj]
  · rw [List.getElem?_eq_none (by simp; omega)]; rfl
theorem eNewP {t n : Nat} (h : t < 4) (L : List (Option Nat)) : eCell (.inl (t, n, L)) = .inl (t, n, xNew0 t) := by
  unfold eCell
  simp only [if_pos h]
theorem eUp {L : List (Option Nat)} {j q : Nat} (h : j < L.length) : va_up (fun i => (L[i]?).join) j (some q) = fun i => ((L.set j (some q))[i]?).join := by
  funext i
  unfold va_up
  rw [List.getElem?_set]
  by_cases e : i = j
  · subst e; simp [h]
  · rw [if_neg e, if_neg (Ne.symm e)]
/-- one instruction; a constructor's call by 'call' -/
def eStep (h : xH) (cc : ByteArray) (call : Nat → Nat → eM → Option eM) (S : eS) : Option eS := match S with
  | (pc, ls, st, D, c, s) => match decode cc pc with
    | .ok (i, len) => match i, len, st with
      | .aload_n n, 1, st => match ls[(n : Nat)]? with
        | some (some (.ref a)) => some (pc + 1, ls, .ref a :: st, D, c, s)
        | _ => none
      | .iload_n n, 1, st => match ls[(n : Nat)]? with
        | some (some (.int a)) => some (pc + 1, ls, .int a :: st, D, c, s)
        | _ => none
      | .istore_n n, 1, .int x :: st => bif xNo2 ls (n : Nat) && decide ((n : Nat) < ls.length) then some (pc + 1, ls.set (n : Nat) (some (.int x)), st, D, c, s) else none
      | .iconst n, 1, st => some (pc + 1, ls, .int (Int32.ofInt n) :: st, D, c, s)
      | .bipush n, 2, st => some (pc + 2, ls, .int (Int8.ofInt n).toInt32 :: st, D, c, s)
      | .sipush n, 3, st => some (pc + 3, ls, .int (Int16.ofInt n).toInt32 :: st, D, c, s)
      | .dup, 1, w :: st => bif xOne w then some (pc + 1, ls, w :: w :: st, D, c, s) else none
      | .iinc n z, 3, st => match ls[n]? with
        | some (some (.int a)) => bif xNo2 ls n && decide (n < ls.length) then some (pc + 3, ls.set n (some (.int (a + Int32.ofInt z))), st, D, c, s) else none
        | _ => none
      | .goto off, 3, st => match (pc : Int) + off with
        | .ofNat t => some (t, ls, st, D, c, s)
        | _ => none
      | .if_icmp .ge off, 3, .int y :: .int x :: st => match (pc : Int) + off with
        | .ofNat t => some (bif decide (y ≤ x) then t else pc + 3, ls, st, D, c, s)
        | _ => none
      | .arraylength, 1, .ref a :: st => match D[a]? with
        | some (.inl (t, n, _)) => bif !decide (a = xSc) && decide (t < 8) then some (pc + 1, ls, .int (Int32.ofNat n) :: st, D, c, s) else none
        | _ => none
      | .getfield i, 3, .ref a :: st => match xFld h.2.2.1 i with
        | some row => match D[a]? with
          | some (.inr (ci, fs)) => match fs[row.2.2.1]? with
            | some v => bif decide (row.1 = i) && decide (ci = row.2.1) then some (pc + 3, ls, v :: st, D, c, s) else none
            | none => none
          | _ => none
        | none => none
      | .putfield i, 3, v :: .ref a :: st => match xFld h.2.2.1 i with
        | some row => match D[a]? with
          | some (.inr (ci, fs)) => bif decide (row.1 = i) && (decide (ci = row.2.1) && (decide (row.2.2.1 < fs.length) && (xFit (xTy ci row.2.2.1) v && (!((xCl ci).2.1 row.2.2.1).2.2.2 || (h.2.1 && decide (ci = h.2.2.1)))))) then some (pc + 3, ls, st, D.set a (.inr (ci, fs.set row.2.2.1 v)), c, s) else none
          | _ => none
        | none => none
      | .new i, 3, st => match xNew h.2.2.1 i with
        | some row => bif decide (row.1 = i) && (decide (c + 1 ≤ h.2.2.2.2.1) && (decide (s + (xCl row.2.1).2.2 ≤ h.2.2.2.2.2) && decide (D.length < xSc))) then some (pc + 3, ls, .ref D.length :: st, D ++ [.inr (row.2.1, xNewO row.2.1)], c + 1, s + (xCl row.2.1).2.2) else none
        | none => none
      | .newarray t, 2, .int n :: st => match xNaT t with
        | some t0 => bif decide (c + 1 ≤ h.2.2.2.2.1) && (decide (s + n.toNatClampNeg ≤ h.2.2.2.2.2) && (decide (D.length < xSc) && (!decide (n < 0) && (decide (n.toNatClampNeg ≤ 10000) && decide (t0 < 4))))) then some (pc + 2, ls, .ref D.length :: st, D ++ [.inl (t0, n.toNatClampNeg, [])], c + 1, s + n.toNatClampNeg) else none
        | none => none
      | .anewarray i, 3, .int n :: st => match xNew h.2.2.1 i with
        | some row => match xAoc row.2.1 with
          | some t0 => bif decide (row.1 = i) && (decide (c + 1 ≤ h.2.2.2.2.1) && (decide (s + n.toNatClampNeg ≤ h.2.2.2.2.2) && (decide (D.length < xSc) && (!decide (n < 0) && (decide (n.toNatClampNeg ≤ 10000) && decide (4 ≤ t0)))))) then some (pc + 3, ls, .ref D.length :: st, D ++ [.inl (t0, n.toNatClampNeg, List.replicate n.toNatClampNeg none)], c + 1, s + n.toNatClampNeg) else none
          | none => none
        | none => none
      | .aastore, 1, .ref y :: .int j :: .ref a :: st => match D[a]?, D[y]? with
        | some (.inl (t, n, L)), some (.inr (ci, _)) => bif decide (xAoc ci = some t) && (decide (a ≠ y) && (xIn j n && (decide (4 ≤ t) && decide (L.length = n)))) then some (pc + 1, ls, st, D.set a (.inl (t, n, L.set j.toNatClampNeg (some y))), c, s) else none
        | _, _ => none
      | .invokespecial i, 3, .ref a :: st => bif xRoom st then (match xNst h.2.2.1 i with
        | some z => (match xMet z, D[a]? with
          | some met, some (.inr (ci, _)) => bif decide (z < 1000) && (decide (met.2.2.2.2.2.2.1 = 2) && (decide (c + (xMc z).1 ≤ h.2.2.2.2.1) && (decide (s + (xMc z).2 ≤ h.2.2.2.2.2) && (decide (met.2.2.2.2.2.1 = 0) && (decide (ci = met.2.2.2.2.1) && decide (ci < 13)))))) then (match call z a D with
            | some D2 => some (pc + 3, ls, st, D2, c + (xMc z).1, s + (xMc z).2)
            | none => none) else none
          | _, _ => none)
        | none => (match xCall h.2.2.1 i with
          | some row => bif decide (row.1 = i) && decide (row.2.1 = 1005) then some (pc + 3, ls, st, D, c, s) else (match xMet row.2.1, D[a]? with
            | some met, some (.inr (ci, _)) => bif decide (row.1 = i) && (decide (row.2.1 < 1000) && (decide (met.2.2.2.2.2.2.1 = 2) && (decide (c + (xMc row.2.1).1 ≤ h.2.2.2.2.1) && (decide (s + (xMc row.2.1).2 ≤ h.2.2.2.2.2) && (decide (met.2.2.2.2.2.1 = 0) && (decide (ci = met.2.2.2.2.1) && decide (ci < 13))))))) then (match call row.2.1 a D with
              | some D2 => some (pc + 3, ls, st, D2, c + (xMc row.2.1).1, s + (xMc row.2.1).2)
              | none => none) else none
            | _, _ => none)
          | none => none)) else none
      | _, _, _ => none
    | _ => none
section EX
variable {h : xH} {cc : ByteArray} {d pc : Nat} {ls : xL} {st : List Value} {D : eM} {c s : Nat} {v : Option Value} {M9 : xM} {call : Nat → Nat → eM → Option eM}
theorem eStep_ok (hcall : ∀ z a D D2, call z a D = some D2 → xEx d z [.ref a] (eMem D) none (eMem D2)) {S2 : eS} (he : eStep h cc call (pc, ls, st, D, c, s) = some S2) (k : xFx h cc d S2.1 S2.2.1 S2.2.2.1 (eMem S2.2.2.2.1) S2.2.2.2.2.1 S2.2.2.2.2.2 v M9) : xFx h cc d pc ls st (eMem D) c s v M9 := by
  unfold eStep at he
  simp only at he
  split at he
  · rename_i i len hd
    split at he
    · rename_i n st
      split at he
      · rename_i a hl
        cases he
        exact fx_aload_n hd rfl hl k
      · cases he
    · rename_i n st
      split at he
      · rename_i a hl
        cases he
        exact fx_iload_n hd rfl hl k
      · cases he
    · rename_i n x st
      obtain ⟨hb, he⟩ := xChk_el he
      cases he
      exact fx_istore_n hd rfl hb rfl k
    · rename_i n st
      cases he
      exact fx_iconst hd rfl rfl k
    · rename_i n st
      cases he
      exact fx_bipush hd rfl rfl k
    · rename_i n st
      cases he
      exact fx_sipush hd rfl rfl k
    · rename_i w st
      obtain ⟨hb, he⟩ := xChk_el he
      cases he
      exact fx_dup hd rfl hb k
    · rename_i n z st
      split at he
      · rename_i a hl
        obtain ⟨hb, he⟩ := xChk_el he
        cases he
        exact fx_iinc hd rfl hl hb rfl rfl k
      · cases he
    · rename_i off st
      split at he
      · rename_i t hj
        cases he
        exact fx_goto hd rfl hj k
      · cases he
    · rename_i off y x st
      split at he
      · rename_i t hj
        cases he
        refine fx_icmp_ge hd rfl hj (fun hc => ?_) (fun hc => ?_)
        · simp only [decide_eq_true hc, cond_true] at k
          exact k
        · simp only [decide_eq_false hc, cond_false] at k
          exact k
      · cases he
    · rename_i a st
      split at he
      · rename_i t n L hD
        obtain ⟨hb, he⟩ := xChk_el he
        cases he
        simp only [Bool.and_eq_true, Bool.not_eq_true'] at hb
        exact fx_alen hd rfl (eMem_get hD) hb.1 hb.2 rfl k
      · cases he
    · rename_i ix a st
      split at he
      · rename_i row hf
        split at he
        · rename_i ci fs hD
          split at he
          · rename_i w hv
            obtain ⟨hb, he⟩ := xChk_el he
            cases he
            simp only [Bool.and_eq_true, decide_eq_true_eq] at hb
            obtain ⟨r1, r2, r3, r4⟩ := row
            obtain ⟨hb1, hb2⟩ := hb
            simp only at hb1 hb2 hv
            subst hb1; subst hb2
            exact fx_get hd rfl hf (eMem_get hD) hv k
          · cases he
        · cases he
      · cases he
    · rename_i ix w a st
      split at he
      · rename_i row hf
        split at he
        · rename_i ci fs hD
          obtain ⟨hb, he⟩ := xChk_el he
          cases he
          obtain ⟨r1, r2, r3, r4⟩ := row
          simp only [Bool.and_eq_true, decide_eq_true_eq] at hb
          obtain ⟨hb1, hb2, hb3, hb4, hb5⟩ := hb
          subst hb1; subst hb2
          exact fx_put hd rfl hf (eMem_get hD) (by simp only [Bool.and_eq_true, decide_eq_true_eq]; exact ⟨hb3, hb4, hb5⟩) (eMem_set (e := .inr (ci, fs.set r3 w))).symm k
        · cases he
      · cases he
    · rename_i ix st
      split at he
      · rename_i row hf
        obtain ⟨hb, he⟩ := xChk_el he
        cases he
        obtain ⟨r1, r2, r3, r4, r5⟩ := row
        simp only [Bool.and_eq_true, decide_eq_true_eq] at hb
        obtain ⟨hb1, hb2, hb3, hb4⟩ := hb
        subst hb1
        refine fx_new hd rfl hf (by simp only [Bool.and_eq_true, decide_eq_true_eq, eMem_len]; exact ⟨hb2, hb3, hb4⟩) ?_
        simp only [eMem_push] at k
        rw [eMem_len]
        exact k
      · cases he
    · rename_i t n st
      split at he
      · rename_i t0 hf
        obtain ⟨hb, he⟩ := xChk_el he
        cases he
        simp only [Bool.and_eq_true, decide_eq_true_eq, Bool.not_eq_true', decide_eq_false_iff_not] at hb
        obtain ⟨hb2, hb3, hb4, hb5, hb6, hb7⟩ := hb
        refine fx_newarray hd rfl hf (by simp only [Bool.and_eq_true, decide_eq_true_eq, eMem_len, Bool.not_eq_true', decide_eq_false_iff_not]; exact ⟨hb2, hb3, hb4, hb5, hb6⟩) ?_
        simp only [eMem_push, eNewP hb7] at k
        rw [eMem_len]
        exact k
      · cases he
    · rename_i ix n st
      split at he
      · rename_i row hf
        split at he
        · rename_i t0 ht
          obtain ⟨hb, he⟩ := xChk_el he
          cases he
          obtain ⟨r1, r2, r3, r4, r5⟩ := row
          simp only [Bool.and_eq_true, decide_eq_true_eq, Bool.not_eq_true', decide_eq_false_iff_not] at hb
          obtain ⟨hb1, hb2, hb3, hb4, hb5, hb6, hb7⟩ := hb
          subst hb1
          refine fx_anewarray hd rfl hf ht (by simp only [Bool.and_eq_true, decide_eq_true_eq, eMem_len, Bool.not_eq_true', decide_eq_false_iff_not]; exact ⟨hb2, hb3, hb4, hb5, hb6⟩) ?_
          simp only [eMem_push, eNewR (show ¬ t0 < 4 by omega) (show t0 ≠ 2 by omega)] at k
          rw [eMem_len]
          exact k
        · cases he
      · cases he
    · rename_i y j a st
      split at he
      · rename_i t n L ci fs hD hD2
        obtain ⟨hb, he⟩ := xChk_el he
        cases he
        simp only [Bool.and_eq_true, decide_eq_true_eq] at hb
        obtain ⟨hb1, hb2, hb3, hb4, hb5⟩ := hb
        have g := eMem_get hD
        have e0 : eCell (.inl (t, n, L)) = .inl (t, n, .inr (.inr (fun j => (L[j]?).join))) := by
          unfold eCell
          simp only [if_neg (show ¬ t < 4 by omega)]
        rw [e0] at g
        have hjl : j.toNatClampNeg < L.length := by
          unfold xIn at hb3
          simp only [Bool.and_eq_true, decide_eq_true_eq] at hb3
          rw [hb5]; exact hb3.2
        refine fx_aastore hd rfl g (eMem_get hD2) (by simp only [Bool.and_eq_true, decide_eq_true_eq]; exact ⟨hb1, hb2, hb3⟩) ?_ k
        rw [eMem_set, eUp hjl]
        unfold eCell
        simp only [if_neg (show ¬ t < 4 by omega)]
      · cases he
    · rename_i ix a st
      obtain ⟨hr, he⟩ := xChk_el he
      split at he
      · rename_i z hz
        split at he
        · rename_i met ci fs hm hD
          obtain ⟨hb, he⟩ := xChk_el he
          split at he
          · rename_i D2 hcl
            cases he
            simp only [Bool.and_eq_true, decide_eq_true_eq] at hb
            obtain ⟨hb1, hb2, hb3, hb4, hb5, hb6, hb7⟩ := hb
            exact fx_callv (virt := 2) (n := 0) (as := []) (r := st) rfl (Or.inr ⟨rfl, hd, Or.inl hz⟩) hb1 hm (w := 0) (by simp only [Bool.and_eq_true, decide_eq_true_eq]; exact ⟨hb2, hb3, hb4⟩) hb5 rfl hr (eMem_get hD) (by simp only [Bool.and_eq_true, decide_eq_true_eq]; exact ⟨hb6, hb7⟩) (hcall _ _ _ _ hcl) rfl rfl k
          · cases he
        · cases he
      · rename_i hz
        split at he
        · rename_i row hc
          cases hq : (decide (row.1 = ix) && decide (row.2.1 = 1005)) with
          | true =>
            rw [hq] at he
            cases he
            simp only [Bool.and_eq_true, decide_eq_true_eq] at hq
            obtain ⟨r1, r2, r3⟩ := row
            obtain ⟨hq1, hq2⟩ := hq
            simp only at hq1 hq2
            subst hq1; subst hq2
            exact fx_objInit rfl hd hz hc hr k
          | false =>
            rw [hq] at he
            simp only [cond_false] at he
            split at he
            · rename_i met ci fs hm hD
              obtain ⟨hb, he⟩ := xChk_el he
              split at he
              · rename_i D2 hcl
                cases he
                obtain ⟨r1, r2, r3⟩ := row
                simp only [Bool.and_eq_true, decide_eq_true_eq] at hb
                obtain ⟨hb0, hb1, hb2, hb3, hb4, hb5, hb6, hb7⟩ := hb
                subst hb0
                exact fx_callv (virt := 2) (n := 0) (as := []) (r := st) rfl (Or.inr ⟨rfl, hd, Or.inr ⟨hz, hc⟩⟩) hb1 hm (by simp only [Bool.and_eq_true, decide_eq_true_eq]; exact ⟨hb2, hb3, hb4⟩) hb5 rfl hr (eMem_get hD) (by simp only [Bool.and_eq_true, decide_eq_true_eq]; exact ⟨hb6, hb7⟩) (hcall _ _ _ _ hcl) rfl rfl k
              · cases he
            · cases he
        · cases he
    · cases he
  · cases he
end EX
/-- steps till the frame stands at place P -/
def eTo (h : xH) (cc : ByteArray) (call : Nat → Nat → eM → Option eM) (P : Nat) : Nat → eS → Option eS
  | 0, S => bif decide (S.1 = P) then some S else none
  | n + 1, S => bif decide (S.1 = P) then some S else match eStep h cc call S with
    | some S2 => eTo h cc call P n S2
    | none => none
theorem eTo_ok {h : xH} {cc : ByteArray} {d : Nat} {v : Option Value} {M9 : xM} {call : Nat → Nat → eM → Option eM} {P : Nat} (hcall : ∀ z a D D2, call z a D = some D2 → xEx d z [.ref a] (eMem D) none (eMem D2)) : ∀ (n : Nat) (S S2 : eS), eTo h cc call P n S = some S2 → xFx h cc d S2.1 S2.2.1 S2.2.2.1 (eMem S2.2.2.2.1) S2.2.2.2.2.1 S2.2.2.2.2.2 v M9 → xFx h cc d S.1 S.2.1 S.2.2.1 (eMem S.2.2.2.1) S.2.2.2.2.1 S.2.2.2.2.2 v M9 := by
  intro n
  induction n with
  | zero =>
    intro S S2 he k
    unfold eTo at he
    obtain ⟨-, he⟩ := xChk_el he
    cases he
    exact k
  | succ n ih =>
    intro S S2 he k
    unfold eTo at he
    cases hq : decide (S.1 = P) with
    | true =>
      rw [hq] at he
      cases he
      exact k
    | false =>
      rw [hq] at he
      simp only [cond_false] at he
      split at he
      · rename_i S3 hs
        obtain ⟨pc, ls, st, D, c, s⟩ := S
        exact eStep_ok hcall hs (ih S3 S2 he k)
      · cases he
/-- a constructor -/
def eCall (n : Nat) : Nat → Nat → Nat → eM → Option eM
  | 0 => fun _ _ _ => none
  | d + 1 => fun z a D => match xMet z with
    | some r => match eTo (xHd z r) r.2.1 (eCall n d) (r.2.1.size - 1) n (0, xEnt [.ref a] r.2.2.1, [], D, 0, 0) with
      | some (pc, _, [], D2, c, s) => match decode r.2.1 pc with
        | .ok (.return_, 1) => bif (!(decide (z = 57) || decide (z = 59))) && (decide ((xSl [.ref a]).length ≤ r.2.2.1) && (decide ((xHd z r).2.2.2.1 = none) && (decide (c = (xHd z r).2.2.2.2.1) && decide (s ≤ (xHd z r).2.2.2.2.2)))) then some D2 else none
        | _ => none
      | _ => none
    | none => none
theorem eCall_ok (n : Nat) : ∀ (d z a : Nat) (D D2 : eM), eCall n d z a D = some D2 → xEx d z [.ref a] (eMem D) none (eMem D2) := by
  intro d
  induction d with
  | zero => intro z a D D2 he; cases he
  | succ d ih =>
    intro z a D D2 he
    unfold eCall at he
    split at he
    · rename_i r hm
      split at he
      · rename_i pc ls D3 c s ht
        split at he
        · rename_i hd
          obtain ⟨hb, he⟩ := xChk_el he
          cases he
          obtain ⟨hz, hb⟩ := (Bool.and_eq_true _ _).mp hb
          simp only [Bool.and_eq_true, decide_eq_true_eq] at hb
          refine xEx_of hm (decide_eq_true hb.1) ?_ (by simpa using hz)
          refine eTo_ok (P := r.2.1.size - 1) (ih) n (0, xEnt [.ref a] r.2.2.1, [], D, 0, 0) _ ht ?_
          exact fx_return hd rfl (by simp only [Bool.and_eq_true, decide_eq_true_eq]; exact hb.2)
        · cases he
      · cases he
    · cases he
