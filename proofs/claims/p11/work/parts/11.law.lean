/-! THE LAW'S FRAME: what its run comes to, the claim comes to. -/
theorem xInst_0 : Cond.instantiable (xCl 0).1 (xCl 0).2.2 ∈ xWords := xWok_in (n := 1226) (by decide +kernel)
theorem xInst_1 : Cond.instantiable (xCl 1).1 (xCl 1).2.2 ∈ xWords := xWok_in (n := 1043) (by decide +kernel)
theorem xInst_2 : Cond.instantiable (xCl 2).1 (xCl 2).2.2 ∈ xWords := xWok_in (n := 1101) (by decide +kernel)
theorem xInst_3 : Cond.instantiable (xCl 3).1 (xCl 3).2.2 ∈ xWords := xWok_in (n := 1150) (by decide +kernel)
theorem xInst_4 : Cond.instantiable (xCl 4).1 (xCl 4).2.2 ∈ xWords := xWok_in (n := 1088) (by decide +kernel)
theorem xInst_5 : Cond.instantiable (xCl 5).1 (xCl 5).2.2 ∈ xWords := xWok_in (n := 1061) (by decide +kernel)
theorem xInst_6 : Cond.instantiable (xCl 6).1 (xCl 6).2.2 ∈ xWords := xWok_in (n := 2103) (by decide +kernel)
theorem xInst_7 : Cond.instantiable (xCl 7).1 (xCl 7).2.2 ∈ xWords := xWok_in (n := 2133) (by decide +kernel)
theorem xInst_8 : Cond.instantiable (xCl 8).1 (xCl 8).2.2 ∈ xWords := xWok_in (n := 2109) (by decide +kernel)
theorem xInst_9 : Cond.instantiable (xCl 9).1 (xCl 9).2.2 ∈ xWords := xWok_in (n := 1031) (by decide +kernel)
theorem xInst_10 : Cond.instantiable (xCl 10).1 (xCl 10).2.2 ∈ xWords := xWok_in (n := 2173) (by decide +kernel)
theorem xInst_11 : Cond.instantiable (xCl 11).1 (xCl 11).2.2 ∈ xWords := xWok_in (n := 1023) (by decide +kernel)
theorem xInst_12 : Cond.instantiable (xCl 12).1 (xCl 12).2.2 ∈ xWords := xWok_in (n := 5177) (by decide +kernel)
theorem xInst {ci : Nat} (h : ci < 13) : Cond.instantiable (xCl ci).1 (xCl ci).2.2 ∈ xWords := by
  match ci, h with
  | 0, _ => exact xInst_0
  | 1, _ => exact xInst_1
  | 2, _ => exact xInst_2
  | 3, _ => exact xInst_3
  | 4, _ => exact xInst_4
  | 5, _ => exact xInst_5
  | 6, _ => exact xInst_6
  | 7, _ => exact xInst_7
  | 8, _ => exact xInst_8
  | 9, _ => exact xInst_9
  | 10, _ => exact xInst_10
  | 11, _ => exact xInst_11
  | 12, _ => exact xInst_12
def xTbl (n : Nat) (w : Cond) : Bool := decide (xWd n = some w)
theorem xTbl_in {n : Nat} {w : Cond} (h : xTbl n w = true) : w ∈ lw_tbl := by
  have h1 : xWd n = some w := of_decide_eq_true h
  unfold lw_tbl tables_1
  simp only [List.mem_append]
  unfold xWd at h1
  split at h1
  · exact Or.inl (List.mem_of_getElem? h1)
  · exact Or.inr (Or.inl (List.mem_of_getElem? h1))
  · exact Or.inr (Or.inr (Or.inl (List.mem_of_getElem? h1)))
  · exact Or.inr (Or.inr (Or.inr (Or.inl (List.mem_of_getElem? h1))))
  · exact Or.inr (Or.inr (Or.inr (Or.inr (Or.inl (List.mem_of_getElem? h1)))))
  · exact Or.inr (Or.inr (Or.inr (Or.inr (Or.inr (Or.inl (List.mem_of_getElem? h1))))))
  · exact Or.inr (Or.inr (Or.inr (Or.inr (Or.inr (Or.inr (Or.inl (List.mem_of_getElem? h1)))))))
  · exact Or.inr (Or.inr (Or.inr (Or.inr (Or.inr (Or.inr (Or.inr (Or.inl (List.mem_of_getElem? h1))))))))
  · exact Or.inr (Or.inr (Or.inr (Or.inr (Or.inr (Or.inr (Or.inr (Or.inr (List.mem_of_getElem? h1))))))))
  · cases h1
theorem xOver_2 : Cond.arrayOver (.object RX2) ∈ lw_tbl := xTbl_in (n := 1037) (by decide +kernel)
theorem xOver_3 : Cond.arrayOver (.object RX3) ∈ lw_tbl := xTbl_in (n := 1039) (by decide +kernel)
theorem xOver_0 : Cond.arrayOver (.object RX0) ∈ lw_tbl := xTbl_in (n := 1041) (by decide +kernel)
theorem xOver_10 : Cond.arrayOver (.object RX10) ∈ lw_tbl := xTbl_in (n := 2202) (by decide +kernel)
theorem xPrim {args : Array Value} {s : State} {ty : FieldType} (h : (Cond.arrayClass ty).before args s = true) : ∃ cA : ClassId, ArrOfT s cA ty ∧ s.vm.findClass ("[" ++ ty.toString) = some cA := by
  obtain ⟨cA, kA, comp, h1, h2, h3⟩ := Cond.arrayClass_spec h
  exact ⟨cA, fun n z => ⟨fun k h => (by cases h), kA, h2, comp, h3⟩, h1⟩
theorem xOverT {args : Array Value} {s : State} {C : String} (h : (Cond.arrayOver (.object C)).before args s = true) : ∃ cA : ClassId, ArrOfT s cA (.object C) ∧ va_RA s cA (.object C) := by
  obtain ⟨comp, cA, kA, h1, h2, h3, h4, h5⟩ := Cond.arrayOver_spec h
  exact ⟨cA, fun n z => ⟨fun k h => (by cases h), kA, h3, comp, h4⟩, kA, comp, h3, h4, h1, h5⟩
theorem xNw_9_31 : Cond.methodLinkNest (xoN 9) 31 yX1_init RX11 ∈ lw_tbl := xTbl_in (n := 1044) (by decide +kernel)
theorem xNw_9_38 : Cond.methodLinkNest (xoN 9) 38 yX5_init RX11 ∈ lw_tbl := xTbl_in (n := 1062) (by decide +kernel)
theorem xNw_9_45 : Cond.methodLinkNest (xoN 9) 45 yX4_init RX11 ∈ lw_tbl := xTbl_in (n := 1089) (by decide +kernel)
theorem xNw_9_54 : Cond.methodLinkNest (xoN 9) 54 yX2_init RX11 ∈ lw_tbl := xTbl_in (n := 1102) (by decide +kernel)
theorem xNw_9_55 : Cond.methodLinkNest (xoN 9) 55 yX3_init RX11 ∈ lw_tbl := xTbl_in (n := 1151) (by decide +kernel)
theorem xNw_9_56 : Cond.methodLinkNest (xoN 9) 56 yX0_init RX11 ∈ lw_tbl := xTbl_in (n := 1227) (by decide +kernel)
theorem xNw_11_24 : Cond.methodLinkNest (xoN 11) 24 yX6_init RX11 ∈ lw_tbl := xTbl_in (n := 2104) (by decide +kernel)
theorem xNw_6_11 : Cond.methodLinkNest (xoN 6) 11 yX8_init RX11 ∈ lw_tbl := xTbl_in (n := 2110) (by decide +kernel)
theorem xNw_11_31 : Cond.methodLinkNest (xoN 11) 31 yX7_init RX11 ∈ lw_tbl := xTbl_in (n := 2134) (by decide +kernel)
theorem xNw_11_38 : Cond.methodLinkNest (xoN 11) 38 yX10_init RX11 ∈ lw_tbl := xTbl_in (n := 2174) (by decide +kernel)
theorem xNwAll {args : Array Value} {s : State} (hts : ∀ w ∈ lw_tbl, w.before args s = true) : ∀ (o i z : Nat) (r : xMrow), xNst o i = some z → xMet z = some r → va_Nw (.methodLinkNest (xoN o) i r.1 RX11) s := by
  intro o i z r h hm
  unfold xNst at h
  cases hf : xNstL.find? (fun r => r.1 == o && r.2.1 == i) with
  | none => rw [hf] at h; cases h
  | some q =>
    rw [hf] at h
    have h : q.2.2 = z := Option.some.inj h
    have h1 := List.mem_of_find?_eq_some hf
    have h2 := List.find?_some hf
    simp only [Bool.and_eq_true, beq_iff_eq] at h2
    obtain ⟨rfl, rfl⟩ := h2
    subst h
    unfold xNstL at h1
    simp only [List.mem_cons, List.not_mem_nil, or_false] at h1
    rcases h1 with rfl | rfl | rfl | rfl | rfl | rfl | rfl | rfl | rfl | rfl
    · cases hm; exact va_Nw.of rfl (hts _ xNw_9_31)
    · cases hm; exact va_Nw.of rfl (hts _ xNw_9_38)
    · cases hm; exact va_Nw.of rfl (hts _ xNw_9_45)
    · cases hm; exact va_Nw.of rfl (hts _ xNw_9_54)
    · cases hm; exact va_Nw.of rfl (hts _ xNw_9_55)
    · cases hm; exact va_Nw.of rfl (hts _ xNw_9_56)
    · cases hm; exact va_Nw.of rfl (hts _ xNw_11_24)
    · cases hm; exact va_Nw.of rfl (hts _ xNw_6_11)
    · cases hm; exact va_Nw.of rfl (hts _ xNw_11_31)
    · cases hm; exact va_Nw.of rfl (hts _ xNw_11_38)
theorem xTypes {args : Array Value} {s : State} (hts : ∀ w ∈ lw_tbl, w.before args s = true) : (∃ cA : Nat → ClassId, ∀ t, t < 8 → ArrOfT s (cA t) (xAty t) ∧ va_RA s (cA t) (xAty t)) ∧ xAO s := by
  obtain ⟨c0, a0, b0⟩ := xPrim (hts _ (xWords_tbl xOne_14))
  obtain ⟨c1, a1, b1⟩ := xPrim (hts _ (xWords_tbl xOne_15))
  obtain ⟨c2, a2, b2⟩ := xPrim (hts _ (xWords_tbl xOne_16))
  obtain ⟨c3, a3, b3⟩ := xPrim (hts _ (xWords_tbl xOne_17))
  obtain ⟨c4, a4, b4⟩ := xOverT (hts _ xOver_2)
  obtain ⟨c5, a5, b5⟩ := xOverT (hts _ xOver_3)
  obtain ⟨c6, a6, b6⟩ := xOverT (hts _ xOver_0)
  obtain ⟨c7, a7, b7⟩ := xOverT (hts _ xOver_10)
  refine ⟨⟨fun t => match t with | 0 => c0 | 1 => c1 | 2 => c2 | 3 => c3 | 4 => c4 | 5 => c5 | 6 => c6 | _ => c7, fun t ht => ?_⟩, fun ci t h => ?_, xNwAll hts⟩
  · match t, ht with
    | 0, _ => exact ⟨a0, b0⟩
    | 1, _ => exact ⟨a1, b1⟩
    | 2, _ => exact ⟨a2, b2⟩
    | 3, _ => exact ⟨a3, b3⟩
    | 4, _ => exact ⟨a4, b4⟩
    | 5, _ => exact ⟨a5, b5⟩
    | 6, _ => exact ⟨a6, b6⟩
    | 7, _ => exact ⟨a7, b7⟩
  · unfold xAoc at h
    split at h
    · exact va_AO.of (hts _ xOver_2)
    · exact va_AO.of (hts _ xOver_3)
    · exact va_AO.of (hts _ xOver_0)
    · exact va_AO.of (hts _ xOver_10)
    · cases h
theorem xKnown {args : Array Value} {s : State} (hts : ∀ w ∈ xWords, w.before args s = true) : ∃ D : va_G, ∀ (k : Nat) (q : vw_C), vwCl[k]? = some q → u_Kn s q.1 q.2.1 q.2.2 (D.1 k) (D.2 k) := by
  have X : ∀ ci : Nat, ci < 13 → ∃ (cC : ClassId) (iS : Nat → Nat), u_Kn s (xCl ci).1 (xCl ci).2.1 (xCl ci).2.2 cC iS := fun ci h => u_known hts (xIn_law h) (hts _ (xInst h))
  refine ⟨⟨fun ci => if h : ci < 13 then (X ci h).choose else (X 0 (by decide)).choose, fun ci => if h : ci < 13 then (X ci h).choose_spec.choose else fun _ => 0⟩, fun k q hq => ?_⟩
  have hk : k < 13 := (List.getElem?_eq_some_iff.mp hq).1
  have e : q = xCl k := Option.some.inj (hq.symm.trans (xCl_get hk))
  subst e
  show u_Kn s _ _ _ (dite _ _ _) (dite _ _ _)
  rw [dif_pos hk, dif_pos hk]
  exact (X k hk).choose_spec.choose_spec
/-! the text constant at the law's start -/
theorem xTw_str : Cond.stringRef RX7 90 xWtx ∈ lw_tbl := xTbl_in (n := 3093) (by decide +kernel)
theorem xTw_cmp : Cond.laysStatic "java/lang/String" "COMPACT_STRINGS" "Z" ∈ lw_tbl := xTbl_in (n := 3103) (by decide +kernel)
theorem xTw_fmt : Cond.laysStatic "jdk/internal/util/Preconditions" "SIOOBE_FORMATTER" "Ljava/util/function/BiFunction;" ∈ lw_tbl := xTbl_in (n := 3119) (by decide +kernel)
theorem xTw_i1 : Cond.initialized "java/lang/String" ∈ lw_tbl := xTbl_in (n := 1015) (by decide +kernel)
theorem xTw_i3 : Cond.initialized "jdk/internal/util/Preconditions" ∈ lw_tbl := xTbl_in (n := 1017) (by decide +kernel)
def xTs : Term := .string RX7 90
def xTv : Term := .field xTs "java/lang/String" "value" "[B"
theorem xTf_el {args : Array Value} {s : State} (h : (Jvm.Cond.and given_1 narrow_1).before args s = true) : ∀ j, j < 73 → (Cond.eq (.elem xTv (.int (Int32.ofNat j))) (.int (xWb.getD j 0))).before args s = true := by
  have hs := flat_of_before _ h
  exact fun j hj => hs _ (by
    have all : ∀ j, j < 73 → (Cond.eq (.elem xTv (.int (Int32.ofNat j))) (.int (xWb.getD j 0))) ∈ flatC (Jvm.Cond.and given_1 narrow_1) := by decide +kernel
    exact all j hj)
theorem xStg0 {b : Nat} {s : State} (hts : ∀ w ∈ lw_tbl, w.before #[Value.ref b] s = true) (h : (Jvm.Cond.and given_1 narrow_1).before #[Value.ref b] s = true) : ∃ bz, xStg s.heap.size (b, bz) s s.heap := by
  have hs := flat_of_before _ h
  have hA : ∀ a : Nat, a < s.heap.size → ¬ s.heap.size ≤ a := fun a h => by omega
  have h1 : (Cond.exactly xTs "java/lang/String").before #[Value.ref b] s = true := hs _ (by decide +kernel)
  have h2 : (Cond.eq (.field xTs "java/lang/String" "coder" "B") (.int 0)).before #[Value.ref b] s = true := hs _ (by decide +kernel)
  have h3 : (Cond.arrayOf xTv .byte).before #[Value.ref b] s = true := hs _ (by decide +kernel)
  have h4 : (Cond.eq (.length xTv) (.int 73)).before #[Value.ref b] s = true := hs _ (by decide +kernel)
  have h5 : (Cond.eq (.static "java/lang/String" "COMPACT_STRINGS" "Z") (.int 1)).before #[Value.ref b] s = true := hs _ (by decide +kernel)
  have h6 : (Cond.isRef (.static "jdk/internal/util/Preconditions" "SIOOBE_FORMATTER" "Ljava/util/function/BiFunction;")).before #[Value.ref b] s = true := hs _ (by decide +kernel)
  have i0 : ∀ i : Nat, i < 1 → i = 0 := fun i h => by omega
  obtain ⟨adK, adV, g1, g2⟩ := vk_Sof (N := 1) (tm := fun _ => xTs) (len := [73]) (byt := [xWb]) (A := fun q => s.heap.size ≤ q) (args := #[Value.ref b]) (s := s) (fun i hi => by rw [i0 i hi]; decide) (fun _ _ => h1) (fun _ _ => h2) (fun _ _ => h3) (fun i hi => by rw [i0 i hi]; exact h4) (fun i hi j hj => by rw [i0 i hi] at hj ⊢; exact xTf_el h j hj) (fun i j hi hj e => absurd ((i0 i hi).trans (i0 j hj).symm) e) hA
  exact ⟨adK 0, ⟨adK, adV, rfl, g1⟩, va_Zof (hts _ xTw_cmp) (hts _ xTw_i1) (va_eqt h5) hA, va_Zqof (hts _ xTw_fmt) (hts _ xTw_i3) h6 hA, vk_R.of (hts _ xTw_str) (g2 0 (by omega))⟩
/-- the law's frame: the script, its owner, what it returns, what it makes -/
def xHL (L : Nat) (xs : Nat → Int32) : xH := (some (L, xs), false, 13, some .boolean, 317, 20810)
theorem xStart {p : Program} {e : Env} {s : State} {m : MethodId} {below : List Frame} {meth : Method} {c : Code} (l : Launch) {b L : Nat} {xs : Nat → Int32} (C0 : lw_At p s m meth c b L xs) {d : Nat} (hd : d ≤ 1000) {M' : xM} (hrun : xFx (xHL L xs) code d 0 [some (.ref xSc), none, none, none] [] [] 0 0 (some (.int 1)) M') : W p l e room_1 s m #[Value.ref b] below meth c s.heap [] 0 0 (lw_Z below #[Value.ref b] s) (entryFrame m ([Value.ref b] : List Value).toArray 4) := by
  obtain ⟨hx, hb, hr, hml, hown, hts, hX, hbl, hlocks, hgv⟩ := id C0
  have hts2 : ∀ w ∈ xWords, w.before #[Value.ref b] s = true := fun w hw => hts w (xWords_tbl hw)
  obtain ⟨⟨cA, hcA⟩, hAO⟩ := xTypes hts
  obtain ⟨D, hKn⟩ := xKnown hts2
  have hK : va_K D vwCl (xTys cA) s := ⟨hKn, fun k q hq => by
    have hk : k < 8 := by have := (List.getElem?_eq_some_iff.mp hq).1; simpa [xTys] using this
    rw [xTys_get hk] at hq
    cases hq
    exact hcA k hk⟩
  obtain ⟨N, n, hF⟩ := hrun
  obtain ⟨bz, hStg⟩ := xStg0 hts hgv
  have C : xCtx p l room_1 s m #[Value.ref b] meth c code 4 D s.heap.size (b, bz) cA (xHL L xs) (xW N d) :=
    ⟨⟨hx, hb, hml, hts2, hown⟩, ⟨hK, hAO, hStg⟩, fun q => (by cases q), Nat.le_refl _, fun X hX1 => (by cases hX1; exact ⟨hX, hbl, hbl⟩), ⟨Nat.le_of_ble_eq_true rfl, Nat.le_of_ble_eq_true rfl, Nat.le_of_ble_eq_true rfl, Nat.le_of_ble_eq_true rfl⟩,
      fun z r as M post hm hw => ⟨d, xSound l D s.heap.size (b, bz) cA N d z r as M post hm hw, by show d + 1 ≤ 2048; omega, by show 60 * (d + 1) ≤ 84000; omega⟩⟩
  have hl := lv_entry ([.ref b]) (n := 4) (Nat.le_of_ble_eq_true rfl)
  rw [lg_entry_eq]
  refine xFrame C ?_ n 0 [some (.ref xSc), none, none, none] [] [] 0 0 s.heap [] _ rfl hF ⟨rfl, Nat.zero_le _, fun k q h => by simp [xWs] at h, va_S.rf, ⟨hl.1, hl.2.1, fun q hq => ?_⟩⟩
  · intro i v pc ls M c' sl H locs lsA hi hdg hp hc hsl I
    obtain ⟨rfl, -⟩ := hp
    rcases hi with ⟨x, rfl, hv, -⟩ | ⟨x, rfl, hv, -⟩ | ⟨a, nm, rfl, hv, -⟩ | ⟨rfl, hv, -⟩
    · cases hv
      have hc : c' = 317 := hc
      have hsl : sl ≤ 20810 := hsl
      refine va_forget I.2.2.2.1.2.2 (W.widen (k := 600000) (n := 7302250) (by rw [hc]; exact Nat.le_of_ble_eq_true rfl) (Nat.le_trans hsl (Nat.le_of_ble_eq_true rfl)) ?_)
      exact lw_ret hx hb hr hlocks hdg
    · cases hv
    · cases hv
    · cases hv
  · obtain ⟨v, hv, hq2⟩ := xLv_mem.mp hq
    have h0 : q.1 = 0 := by
      match h : q.1 with
      | 0 => rfl
      | 1 => rw [h] at hv; cases hv
      | 2 => rw [h] at hv; cases hv
      | 3 => rw [h] at hv; cases hv
      | n + 4 => rw [h] at hv; cases hv
    rw [h0] at hv
    cases hv
    have e2 : q = (0, .ref b) := Prod.ext h0 (by rw [hq2]; show Value.ref (xA s.heap.size (b, bz) xSc) = _; unfold xA; rw [if_pos rfl])
    rw [e2]
    exact hl.2.2 (0, .ref b) (by simp [lv_args])
