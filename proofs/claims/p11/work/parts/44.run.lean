theorem nw_13_7 : xNew 13 7 = some (7, 11, 1022, 1023, 1001) := by decide +kernel
theorem nw_13_10 : xNew 13 10 = some (10, 12, 5176, 5177, 1013) := by decide +kernel
/-! the law from its first row to its loop -/
theorem eD1_len : (eMem eD1).length = 291 := by rw [eMem_len]; decide +kernel
/-- the law's run is its function's -/
theorem xLawRun {L : Nat} {xs : Nat → Int32} {d : Nat} (hd : 60 ≤ d) {r : Int32 × xMem} (h : fL_18 L xs xFuel 0 (mB 1610) = some r) : xFx (xHL L xs) code d 0 [some (.ref xSc), none, none, none] [] [] 0 0 (some (.int r.1)) (xLay r.2) := by
  refine fx_new dL_law_0 rfl nw_13_7 rfl ?_
  show xFx (xHL L xs) code d 3 [some (.ref xSc), none, none, none] [.ref 0] (eMem [.inr (11, xNewO 11)]) 1 7 _ _
  refine fx_dup dL_law_3 rfl rfl ?_
  refine fx_callv (virt := 2) (n := 0) (as := []) (r := [.ref 0]) (c2 := 291) (s2 := 10759) rfl (Or.inr ⟨rfl, dL_law_4, Or.inr ⟨(show xNst 13 9 = none by decide +kernel), ca_13_9⟩⟩) (by decide) me_0 rfl rfl rfl rfl (eMem_get (e := .inr (11, xNewO 11)) rfl) rfl (xEx_deep (show 6 ≤ d by omega) sMS) rfl rfl ?_
  refine fx_astore_n (ls2 := [some (.ref xSc), some (.ref 0), none, none]) dL_law_7 rfl rfl rfl ?_
  refine fx_new dL_law_8 rfl nw_13_10 (by rw [eD1_len]; rfl) ?_
  rw [eD1_len, show eMem eD1 ++ [.inr (12, xNewO 12)] = eMem (eD1 ++ [.inr (12, xNewO 12)]) from (eMem_push eD1 (.inr (12, xNewO 12))).symm]
  show xFx (xHL L xs) code d 11 [some (.ref xSc), some (.ref 0), none, none] [.ref 291] (eMem (eD1 ++ [.inr (12, xNewO 12)])) 292 10801 _ _
  refine fx_dup dL_law_11 rfl rfl ?_
  refine fx_callv (virt := 2) (n := 0) (as := []) (r := [.ref 291]) (c2 := 317) (s2 := 20810) rfl (Or.inr ⟨rfl, dL_law_12, Or.inr ⟨(show xNst 13 12 = none by decide +kernel), ca_13_12⟩⟩) (by decide) me_12 rfl rfl rfl rfl (eMem_get (e := .inr (12, xNewO 12)) (by decide +kernel)) rfl (xEx_deep (show 1 ≤ d by omega) (sModel (d := 0))) rfl rfl ?_
  refine fx_astore_n (ls2 := [some (.ref xSc), some (.ref 0), some (.ref 291), none]) dL_law_15 rfl rfl rfl ?_
  refine fx_iconst (x := 0) dL_law_16 rfl (by decide) ?_
  refine fx_istore_n (ls2 := [some (.ref xSc), some (.ref 0), some (.ref 291), some (.int 0)]) dL_law_17 rfl rfl rfl ?_
  exact fL_18_ok (by omega) xFuel 0 (mB 1610) r h
/-- THE CLAIM, PURE: what the law's function comes to on every script -/
theorem whole_of {p : Program} {e : Env} {s : State} {m : MethodId} {below : List Frame} {meth : Method} {c : Code} (l : Launch) {b L : Nat} {xs : Nat → Int32} (hf : ∃ m9, fL_18 L xs xFuel 0 (mB 1610) = some (1, m9)) (C0 : lw_At p s m meth c b L xs) : W p l e room_1 s m #[Value.ref b] below meth c s.heap [] 0 0 (lw_Z below #[Value.ref b] s) (entryFrame m ([Value.ref b] : List Value).toArray 4) := by
  obtain ⟨m9, h⟩ := hf
  exact xStart l C0 (d := 60) (by decide) (xLawRun (by decide) h)
