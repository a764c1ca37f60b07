section XSIM
variable {p : Program} {l : Launch} {e : Env} {R : Room} {s : State} {m : MethodId} {args : Array Value} {below : List Frame} {meth : Method} {c0 : Code} {H : Heap} {locs : List Loc} {Q : State → Prop}
variable {cc : ByteArray} {nL : Nat} {D : va_G} {b0 : Nat} {bs : Nat × Nat} {cA : Nat → ClassId} {h : xH} {E : xEv} {len pc : Nat} {ls : xL} {st : List Value} {M : xM} {c sl : Nat} {k : xK} {post : xPost} {lsA : Array Slot}
theorem xMapCat (b0 : Nat) (bs : Nat × Nat) (r : List Value) : ((r.map (xV b0 bs)).map fun v => v.category) = r.map fun v => v.category := by
  rw [List.map_map]
  exact List.map_congr_left fun v _ => xV_cat b0 bs v
theorem xRoom_of {r : List Value} (b0 : Nat) (bs : Nat × Nat) (h : xRoom r = true) : ((r.map (xV b0 bs)).map fun v => v.category).sum ≤ 8 := by
  rw [xMapCat]; exact of_decide_eq_true h
theorem xCallGo {z : Nat} {rest st0 : List Value} {a : Array Value} {post : xPost} (hr : va_Run p l e R s m args below meth c0 H locs c sl (xMc z).1 (xMc z).2 (F0 m pc lsA st0) (rest.map (xV b0 bs)) (xQ D b0 bs cA z M post a) (fun q => b0 ≤ q)) (I : xWld D b0 bs cA s M H locs c lsA ls)
    (kk : ∀ (v : Option Value) (M' : xM) (H1 : Heap) (locs1 : List Loc), post v M' → xWld D b0 bs cA s M' H1 locs1 (c + (xMc z).1) lsA ls → W p l e R s m args below meth c0 H1 locs1 (c + (xMc z).1) (sl + (xMc z).2) Q (F0 m (pc + 3) lsA ((v.toList ++ rest).map (xV b0 bs)))) : W p l e R s m args below meth c0 H locs c sl Q (F0 m pc lsA st0) := by
  intro T hT X
  obtain ⟨v, st₀, t, T', L, h0, X', hL, e1, e2, ⟨⟨v', M', hv, hp, hlen, hB⟩, hz, hk⟩, st⟩ := hr T hT X
  obtain ⟨i1, i2, hP, hS, hl5⟩ := I
  have hv : v = v'.map (xV b0 bs) := by cases hv; rfl
  subst hv
  rw [h0] at hz hk
  obtain ⟨b1, b2, b3, b4, b5⟩ := hB
  obtain ⟨t2, a1, b1⟩ := kk v' M' T'.heap (locs ++ L) hp ⟨by omega, b2, by rw [e1]; exact b3, ⟨Nat.le_trans hS.1 (by rw [e1]; exact hz), fun q h1 h2 => by rw [e1, hk q (Nat.lt_of_lt_of_le h1 hS.1) h2]; exact hS.2.1 q h1 h2, fun q hq => by
      rcases List.mem_append.mp hq with h | h
      · exact hS.2.2 q h
      · exact hL q h⟩, hl5⟩ T' rfl X'
  have e3 : (v'.toList ++ rest).map (xV b0 bs) = (v'.map (xV b0 bs)).toList ++ rest.map (xV b0 bs) := by cases v' <;> rfl
  rw [e3] at a1
  exact ⟨t2, st t2 a1, b1⟩
theorem xCl13 {ci : Nat} (h : ci < 13) : (xCl ci).1 = xoN ci := by
  match ci, h with
  | 0, _ | 1, _ | 2, _ | 3, _ | 4, _ | 5, _ | 6, _ | 7, _ | 8, _ | 9, _ | 10, _ | 11, _ | 12, _ => rfl
theorem xArgs_of {n : Nat} {st : List Value} {f : List Value → List Value → Prop} (h : xArgs n st f) : ∃ as r0, as.length = n ∧ st = as.reverse ++ r0 ∧ f as r0 := by
  obtain ⟨h1, h2⟩ := xG_of h
  have h1 : n ≤ st.length := of_decide_eq_true h1
  refine ⟨_, _, ?_, ?_, h2⟩
  · rw [List.length_reverse, List.length_take]; omega
  · rw [List.reverse_reverse, List.take_append_drop]
/-- the world at a call -/
theorem xAtCall (C : xCtx p l R s m args meth c0 cc nL D b0 bs cA h E) (I : xWld D b0 bs cA s M H locs c lsA ls) (hz : H.size = b0 + M.length) (U : State) (hU : U.heap = H) (hW : s.WarmedH U.vm) : xB D b0 bs cA M U :=
  ⟨by rw [hU]; exact hz, I.2.1, by rw [hU]; exact I.2.2.1, va_K.moved hW.alike C.2.1.1, xAO_moved hW C.2.1.2.1, by rw [hU]; exact xStg_moved hW I.2.2.2.1.2.1 C.2.1.2.2⟩
theorem xStep_invS (C : xCtx p l R s m args meth c0 cc nL D b0 bs cA h E) {ix : Nat} (hdg : decode cc pc = .ok (.invokestatic ix, 3)) (hs : xInvS h E ix pc ls st M c sl k) (hn : ls.length = nL) (I : xWld D b0 bs cA s M H locs c lsA ls)
    (kk : xGo p l e R s m args below meth c0 Q nL D b0 bs cA k) : W p l e R s m args below meth c0 H locs c sl Q (F0 m pc lsA (st.map (xV b0 bs))) := by
  obtain ⟨hx, hb, hml, hts, hown⟩ := C.1
  have hK := C.2.1.1
  have hb0 := C.2.2.2.1
  obtain ⟨hR1, hR2, -, -⟩ := C.2.2.2.2.2.1
  have hE := C.2.2.2.2.2.2
  have small : ∀ {a : Nat} {e : xE}, M[a]? = some e → xA b0 bs a = b0 + a := fun {a e} h => by
    have := (List.getElem?_eq_some_iff.mp h).1
    have := I.2.1
    unfold xA
    rw [if_neg (by omega), if_neg (by omega)]
  obtain ⟨row, hrow, g1⟩ := xOp_of hs
  obtain ⟨met, hmet, g2⟩ := xOp_of g1
  obtain ⟨hg, g3⟩ := xG_of g2
  simp only [Bool.and_eq_true, decide_eq_true_eq] at hg
  obtain ⟨hkind, hc, hsl⟩ := hg
  obtain ⟨as, r0, hlen, hst, g4⟩ := xArgs_of g3
  have hlink := xCall_met hrow hmet
  have hok := xMet_ok hmet
  refine xz_W fun hu => ?_
  have hz := xSize hb0 I hu
  have hAt := xAtCall C I hz
  have hsz : lsA.size = nL := I.2.2.2.2.1.trans hn
  obtain ⟨y, cb, maxL, ret, o, n, kind, w1, w2, w3, w4⟩ := met
  obtain ⟨m1, m2, m3, m4, m5, m6, m7, m8, m9, m10, m11, m12, m13⟩ := xMet_say hok
  simp only at hkind hlen hlink
  obtain ⟨hroom, g5⟩ := xG_of g4
  obtain ⟨d, hd, hd1, hd2⟩ := hE _ _ _ _ _ hmet g5
  have est : st.map (xV b0 bs) = (as.map (xV b0 bs)).reverse ++ r0.map (xV b0 bs) := by rw [hst, List.map_append, List.map_reverse]
  rw [est]
  exact xCallGo (va_runS (As := as.map (xV b0 bs)) (rest := r0.map (xV b0 bs)) (Ts := xWords) ⟨hx, hb, hml, hown, hts⟩ hd ⟨callB_of n hts (xGoodIn _ hok) rfl rfl rfl (hts _ m5) (hts _ hlink) ⟨m9, m10, m8⟩ ⟨hd1, by show 8 + (maxL + 11) + 60 * d ≤ R.locals; omega⟩, hts _ (m2 hkind)⟩ ⟨xBlind, fun U hU hW => ⟨rfl, hAt U hU hW⟩⟩ rfl (by rw [List.length_map]; exact hlen) hsz rfl (lv_room (xRoom_of b0 bs hroom)) hdg ⟨Nat.le_trans hc hR1, Nat.le_trans hsl hR2⟩) I
    fun v M' H1 locs1 hp W1 => kk _ _ _ _ _ _ _ _ _ hn hp W1
theorem xStep_inv (C : xCtx p l R s m args meth c0 cc nL D b0 bs cA h E) {ix z virt : Nat} (hv : virt = 1 ∧ decode cc pc = .ok (.invokevirtual ix, 3) ∨ virt = 2 ∧ decode cc pc = .ok (.invokespecial ix, 3)) (hlk : ∀ met, xMet z = some met → Cond.methodLink (xoN h.2.2.1) ix met.1 ∈ xWords ∨ (virt = 2 ∧ va_Nw (.methodLinkNest (xoN h.2.2.1) ix met.1 RX11) s)) (hs : xInv h E z virt pc ls st M c sl k) (hn : ls.length = nL) (I : xWld D b0 bs cA s M H locs c lsA ls)
    (kk : xGo p l e R s m args below meth c0 Q nL D b0 bs cA k) : W p l e R s m args below meth c0 H locs c sl Q (F0 m pc lsA (st.map (xV b0 bs))) := by
  obtain ⟨hx, hb, hml, hts, hown⟩ := C.1
  have hK := C.2.1.1
  have hb0 := C.2.2.2.1
  obtain ⟨hR1, hR2, -, -⟩ := C.2.2.2.2.2.1
  have hE := C.2.2.2.2.2.2
  have small : ∀ {a : Nat} {e : xE}, M[a]? = some e → xA b0 bs a = b0 + a := fun {a e} h => by
    have := (List.getElem?_eq_some_iff.mp h).1
    have := I.2.1
    unfold xA
    rw [if_neg (by omega), if_neg (by omega)]
  obtain ⟨met, hmet, g2⟩ := xOp_of hs
  obtain ⟨hg, g3⟩ := xG_of g2
  simp only [Bool.and_eq_true, decide_eq_true_eq] at hg
  obtain ⟨hkind, hc, hsl⟩ := hg
  obtain ⟨as, r0, hlen, hst, g4⟩ := xArgs_of g3
  have hlink := hlk met hmet
  have hok := xMet_ok hmet
  refine xz_W fun hu => ?_
  have hz := xSize hb0 I hu
  have hAt := xAtCall C I hz
  have hsz : lsA.size = nL := I.2.2.2.2.1.trans hn
  obtain ⟨y, cb, maxL, ret, o, n, kind, w1, w2, w3, w4⟩ := met
  obtain ⟨m1, m2, m3, m4, m5, m6, m7, m8, m9, m10, m11, m12, m13⟩ := xMet_say hok
  simp only at hkind hlen hlink
  rcases hv with ⟨rfl, hdg⟩ | ⟨rfl, hdg⟩
  · replace hlink : Cond.methodLink (xoN h.2.2.1) ix y ∈ xWords := hlink.elim id (fun q => absurd q.1 (by decide))
    obtain ⟨a, r, hr0, g5⟩ := xR1_of g4
    obtain ⟨hroom, g6⟩ := xG_of g5
    rcases xObS_of g6 with ⟨ci, fs, hM, g7⟩ | g7
    rotate_left
    · obtain ⟨ho, g8⟩ := xG_of g7
      simp only [Bool.and_eq_true, decide_eq_true_eq] at ho
      obtain ⟨q6, ho⟩ := ho
      obtain ⟨d, hd, hd1, hd2⟩ := hE _ _ _ _ _ hmet g8
      have ea : xA b0 bs a = bs.2 := by unfold xA; rw [if_neg (by omega), if_pos q6]
      have est : st.map (xV b0 bs) = (as.map (xV b0 bs)).reverse ++ .ref bs.2 :: r.map (xV b0 bs) := by
        rw [hst, hr0, List.map_append, List.map_reverse, List.map_cons, ← ea]; rfl
      have eas : (Value.ref a :: as).map (xV b0 bs) = .ref bs.2 :: as.map (xV b0 bs) := by rw [List.map_cons, ← ea]; rfl
      unfold xOk at hd
      rw [eas] at hd
      rw [est]
      obtain ⟨adK, adV, hz0, hE0⟩ := C.2.1.2.2.1
      have hrecv := vk_recv hE0 (i := 0) (by omega) I.2.2.2.1
      rw [hz0, show ("java/lang/String" : String) = xoN 20 from rfl, ← ho.1, ← m6] at hrecv
      exact xCallGo (va_runV (As := as.map (xV b0 bs)) (rest := r.map (xV b0 bs)) (Ts := xWords) ⟨hx, hb, hml, hown, hts⟩ hd ⟨callB_of n hts (xGoodIn _ hok) rfl rfl rfl (hts _ m5) (hts _ hlink) ⟨m9, m10, m8⟩ ⟨hd1, by show 8 + (maxL + 11) + 60 * d ≤ R.locals; omega⟩, hts _ (m3 (by omega)), hts _ (m4 hkind)⟩ ⟨xBlind, hrecv, fun U hU hW => ⟨rfl, hAt U hU hW⟩⟩ rfl (by rw [List.length_map]; exact hlen) hsz rfl (lv_room (xRoom_of b0 bs hroom)) hdg ⟨Nat.le_trans hc hR1, Nat.le_trans hsl hR2⟩) I
        fun v M' H1 locs1 hp W1 => kk _ _ _ _ _ _ _ _ _ hn hp W1
    obtain ⟨hci, g8⟩ := xG_of g7
    simp only [Bool.and_eq_true, decide_eq_true_eq] at hci
    obtain ⟨hci, hci13⟩ := hci
    obtain ⟨d, hd, hd1, hd2⟩ := hE _ _ _ _ _ hmet g8
    have est : st.map (xV b0 bs) = (as.map (xV b0 bs)).reverse ++ .ref (b0 + a) :: r.map (xV b0 bs) := by
      rw [hst, hr0, List.map_append, List.map_reverse, List.map_cons, ← small hM]; rfl
    have eas : (Value.ref a :: as).map (xV b0 bs) = .ref (b0 + a) :: as.map (xV b0 bs) := by rw [List.map_cons, ← small hM]; rfl
    unfold xOk at hd
    rw [eas] at hd
    rw [est]
    have hrecv := va_recv hK I.2.2.1 (xCl_get hci13) (xWs_get hM)
    rw [xCl13 hci13, show ci = o from hci, ← m6] at hrecv
    exact xCallGo (va_runV (As := as.map (xV b0 bs)) (rest := r.map (xV b0 bs)) (Ts := xWords) ⟨hx, hb, hml, hown, hts⟩ hd ⟨callB_of n hts (xGoodIn _ hok) rfl rfl rfl (hts _ m5) (hts _ hlink) ⟨m9, m10, m8⟩ ⟨hd1, by show 8 + (maxL + 11) + 60 * d ≤ R.locals; omega⟩, hts _ (m3 (by omega)), hts _ (m4 hkind)⟩ ⟨xBlind, hrecv, fun U hU hW => ⟨rfl, hAt U hU hW⟩⟩ rfl (by rw [List.length_map]; exact hlen) hsz rfl (lv_room (xRoom_of b0 bs hroom)) hdg ⟨Nat.le_trans hc hR1, Nat.le_trans hsl hR2⟩) I
      fun v M' H1 locs1 hp W1 => kk _ _ _ _ _ _ _ _ _ hn hp W1
  · obtain ⟨a, r, hr0, g5⟩ := xR1_of g4
    obtain ⟨hroom, g6⟩ := xG_of g5
    rcases xObS_of g6 with ⟨ci, fs, hM, g7⟩ | g7
    rotate_left
    · obtain ⟨ho, g8⟩ := xG_of g7
      simp only [Bool.and_eq_true, decide_eq_true_eq] at ho
      exact absurd ho.2.2 (by decide)
    obtain ⟨hci, g8⟩ := xG_of g7
    obtain ⟨d, hd, hd1, hd2⟩ := hE _ _ _ _ _ hmet g8
    have est : st.map (xV b0 bs) = (as.map (xV b0 bs)).reverse ++ .ref (b0 + a) :: r.map (xV b0 bs) := by
      rw [hst, hr0, List.map_append, List.map_reverse, List.map_cons, ← small hM]; rfl
    have eas : (Value.ref a :: as).map (xV b0 bs) = .ref (b0 + a) :: as.map (xV b0 bs) := by rw [List.map_cons, ← small hM]; rfl
    unfold xOk at hd
    rw [eas] at hd
    rw [est]
    obtain ⟨hname, rfl⟩ := m11 hkind
    rcases hlink with hlink | ⟨-, hnest⟩
    · exact xCallGo (va_runI (As := as.map (xV b0 bs)) (rest := r.map (xV b0 bs)) (Ts := xWords) ⟨hx, hb, hml, hown, hts⟩ hd ⟨callB_of n hts (xGoodIn _ hok) rfl rfl rfl (hts _ m5) (hts _ hlink) ⟨m9, m10, m8⟩ ⟨hd1, by show 8 + (maxL + 11) + 60 * d ≤ R.locals; omega⟩, hname, hts _ (m3 (by omega))⟩ ⟨xBlind, fun U hU hW => ⟨rfl, hAt U hU hW⟩⟩ rfl (by rw [List.length_map]; exact hlen) hsz rfl (lv_room (xRoom_of b0 bs hroom)) hdg ⟨Nat.le_trans hc hR1, Nat.le_trans hsl hR2⟩) I
        fun v M' H1 locs1 hp W1 => kk _ _ _ _ _ _ _ _ _ hn hp W1
    · exact xCallGo (va_runIN (As := as.map (xV b0 bs)) (rest := r.map (xV b0 bs)) (Ts := xWords) ⟨hx, hb, hml, hown, hts⟩ hd ⟨va_cnB n hts (xGoodIn _ hok) rfl rfl rfl hnest (hts _ m5) ⟨m9, m10, m8⟩ ⟨hd1, by show 8 + (maxL + 11) + 60 * d ≤ R.locals; omega⟩, hname, hts _ (m3 (by omega))⟩ ⟨xBlind, fun U hU hW => ⟨rfl, hAt U hU hW⟩⟩ rfl (by rw [List.length_map]; exact hlen) hsz rfl (lv_room (xRoom_of b0 bs hroom)) hdg ⟨Nat.le_trans hc hR1, Nat.le_trans hsl hR2⟩) I
        fun v M' H1 locs1 hp W1 => kk _ _ _ _ _ _ _ _ _ hn hp W1
theorem xStep_spec (C : xCtx p l R s m args meth c0 cc nL D b0 bs cA h E) {ix : Nat} (hs : xS h E (.invokespecial ix) len pc ls st M c sl k post) (hdg : decode cc pc = .ok (.invokespecial ix, len)) (hn : ls.length = nL) (I : xWld D b0 bs cA s M H locs c lsA ls)
    (kk : xGo p l e R s m args below meth c0 Q nL D b0 bs cA k) : W p l e R s m args below meth c0 H locs c sl Q (F0 m pc lsA (st.map (xV b0 bs))) := by
  obtain ⟨hx, hb, hml, hts, hown⟩ := C.1
  obtain ⟨-, -, hR3, hR4⟩ := C.2.2.2.2.2.1
  have hsz : lsA.size = c0.maxLocals := (I.2.2.2.2.1.trans hn).trans hml.symm
  obtain ⟨hl, hq1⟩ := xG_of hs
  have el := xlen hl
  subst el
  have hs := hq1
  rcases xIf_of hs with ⟨-, hs⟩ | ⟨-, hs⟩
  · obtain ⟨z, hz, hs⟩ := xOp_of hs
    exact xStep_inv C (Or.inr ⟨rfl, hdg⟩) (fun met hm => Or.inr ⟨rfl, C.2.1.2.1.2 _ _ _ _ hz hm⟩) hs hn I kk
  obtain ⟨row, hrow, hs⟩ := xOp_of hs
  rcases xIf_of hs with ⟨q, hs⟩ | ⟨q, hs⟩
  · have h1005 := of_decide_eq_true q
    obtain ⟨a, r, e0, hq2⟩ := xR1_of hs
    subst e0
    have hs := hq2
    obtain ⟨hroom, hs⟩ := xG_of hs
    have hm : xMet row.2.1 = none := by rw [h1005]; rfl
    have hlink := xCall_intr hrow hm (by rw [h1005]; rfl)
    have hr8 := xRoom_of b0 bs hroom
    exact W.objInit hx hb hown (hts _ hlink) (hts _ xOne_12) (hts _ xOne_13) rfl hsz rfl hdg hR3 (by show 2 * 0 + ((r.map (xV b0 bs)).map fun v => v.category).sum + 12 ≤ R.locals; omega) (kk _ _ _ _ _ _ _ _ _ hn hs I)
  · exact xStep_inv C (Or.inr ⟨rfl, hdg⟩) (fun met hm => Or.inl (xCall_met hrow hm)) hs hn I kk
theorem xCp_of {st : List Value} {f : Int32 → Int32 → Nat → Int32 → Nat → List Value → Prop} (h : xCp st f) : ∃ n dp a sp a0 r, st = .int n :: .int dp :: .ref a :: .int sp :: .ref a0 :: r ∧ f n dp a sp a0 r := by
  unfold xCp at h; split at h
  · exact ⟨_, _, _, _, _, _, rfl, h⟩
  · exact h.elim
theorem xStep_stat (C : xCtx p l R s m args meth c0 cc nL D b0 bs cA h E) {ix : Nat} (hs : xS h E (.invokestatic ix) len pc ls st M c sl k post) (hdg : decode cc pc = .ok (.invokestatic ix, len)) (hn : ls.length = nL) (I : xWld D b0 bs cA s M H locs c lsA ls)
    (kk : xGo p l e R s m args below meth c0 Q nL D b0 bs cA k) : W p l e R s m args below meth c0 H locs c sl Q (F0 m pc lsA (st.map (xV b0 bs))) := by
  obtain ⟨hx, hb, hml, hts, hown⟩ := C.1
  obtain ⟨hR1, hR2, hR3, hR4⟩ := C.2.2.2.2.2.1
  have hK := C.2.1.1
  have hml2 : c0.maxLocals = lsA.size := ((I.2.2.2.2.1.trans hn).trans hml.symm).symm
  have hD := xD (b0 := b0) (bs := bs) (cA := cA) (M := M)
  have small : ∀ {a : Nat} {e : xE}, M[a]? = some e → xA b0 bs a = b0 + a := fun {a e} h => by
    have := (List.getElem?_eq_some_iff.mp h).1
    have := I.2.1
    unfold xA
    rw [if_neg (by omega), if_neg (by omega)]
  obtain ⟨hl, hq3⟩ := xG_of hs
  have el := xlen hl
  subst el
  have hs := hq3
  obtain ⟨row, hrow, hs⟩ := xOp_of hs
  rcases xIf_of hs with ⟨q, hs⟩ | ⟨-, hs⟩
  · have hz := of_decide_eq_true q
    obtain ⟨x, y, r, e0, hq4⟩ := xI2_of hs
    subst e0
    have hs := hq4
    obtain ⟨hroom, hs⟩ := xG_of hs
    simp only [Bool.and_eq_true, decide_eq_true_eq] at hroom
    have hlink := xCall_intr hrow (by rw [hz]; rfl) (show xIntr row.2.1 = some Lib.Math.min.name by rw [hz]; rfl)
    have hr8 := xRoom_of b0 bs hroom.1
    exact va_mmin hx hb hml2 hown (hts _ hlink) (hts _ xOne_0) (hts _ xOne_1) (hts _ xOne_2) hR3 (by omega) (Nat.le_trans hroom.2.1 hR1) (Nat.le_trans hroom.2.2 hR2) hdg (kk _ _ _ _ _ _ _ _ _ hn hs I)
  rcases xIf_of hs with ⟨q, hs⟩ | ⟨-, hs⟩
  · have hz := of_decide_eq_true q
    obtain ⟨x, y, r, e0, hq5⟩ := xI2_of hs
    subst e0
    have hs := hq5
    obtain ⟨hroom, hs⟩ := xG_of hs
    simp only [Bool.and_eq_true, decide_eq_true_eq] at hroom
    have hlink := xCall_intr hrow (by rw [hz]; rfl) (show xIntr row.2.1 = some Lib.Math.max.name by rw [hz]; rfl)
    have hr8 := xRoom_of b0 bs hroom.1
    exact va_mmax hx hb hml2 hown (hts _ hlink) (hts _ xOne_3) (hts _ xOne_1) (hts _ xOne_4) hR3 (by omega) (Nat.le_trans hroom.2.1 hR1) (Nat.le_trans hroom.2.2 hR2) hdg (kk _ _ _ _ _ _ _ _ _ hn hs I)
  rcases xIf_of hs with ⟨q, hs⟩ | ⟨-, hs⟩
  · have hz := of_decide_eq_true q
    obtain ⟨x, y, r, e0, hq6⟩ := xL2_of hs
    subst e0
    have hs := hq6
    obtain ⟨hroom, hs⟩ := xG_of hs
    simp only [Bool.and_eq_true, decide_eq_true_eq] at hroom
    have hlink := xCall_intr hrow (by rw [hz]; rfl) (show xIntr row.2.1 = some Lib.MathLoose.min_long.x by rw [hz]; rfl)
    have hr8 := xRoom_of b0 bs hroom.1
    exact va_mmin_long hx hb hml2 hown (hts _ hlink) (hts _ xOne_5) (hts _ xOne_1) (hts _ xOne_6) hR3 (by omega) (Nat.le_trans hroom.2.1 hR1) (Nat.le_trans hroom.2.2 hR2) hdg (kk _ _ _ _ _ _ _ _ _ hn hs I)
  rcases xIf_of hs with ⟨q, hs⟩ | ⟨-, hs⟩
  · have hz := of_decide_eq_true q
    obtain ⟨x, y, r, e0, hq7⟩ := xL2_of hs
    subst e0
    have hs := hq7
    obtain ⟨hroom, hs⟩ := xG_of hs
    simp only [Bool.and_eq_true, decide_eq_true_eq] at hroom
    have hlink := xCall_intr hrow (by rw [hz]; rfl) (show xIntr row.2.1 = some Lib.MathLoose.max_long.x by rw [hz]; rfl)
    have hr8 := xRoom_of b0 bs hroom.1
    exact va_mmax_long hx hb hml2 hown (hts _ hlink) (hts _ xOne_7) (hts _ xOne_1) (hts _ xOne_8) hR3 (by omega) (Nat.le_trans hroom.2.1 hR1) (Nat.le_trans hroom.2.2 hR2) hdg (kk _ _ _ _ _ _ _ _ _ hn hs I)
  rcases xIf_of hs with ⟨q, hs⟩ | ⟨-, hs⟩
  · have hz := of_decide_eq_true q
    obtain ⟨n, dp, a, sp, a0, r, e0, hq8⟩ := xCp_of hs
    subst e0
    have hs := hq8
    obtain ⟨hroom, hs⟩ := xG_of hs
    obtain ⟨t0, n0, f, hM0, hs⟩ := xArI_of hs
    obtain ⟨t1, n1, g, hM1, hs⟩ := xArI_of hs
    obtain ⟨hg, hcp⟩ := xG_of hs
    simp only [Bool.and_eq_true, Bool.not_eq_true', decide_eq_true_eq, decide_eq_false_iff_not] at hg
    obtain ⟨rfl, rfl, g1, g2, g3, g4, g5⟩ := hg
    have hlink := xCall_intr hrow (by rw [hz]; rfl) (show xIntr row.2.1 = some arraycopyName by rw [hz]; rfl)
    have hr8 := xRoom_of b0 bs hroom
    obtain ⟨i1, i2, hP, hS, hl5⟩ := I
    have hnf : nativeFrameWords "java/lang/System" "arraycopy" 5 ≤ 30 := by decide +kernel
    show W p l e R s m args below meth c0 H locs c sl Q (F0 m pc lsA (.int n :: .int dp :: .ref (xA b0 bs a) :: .int sp :: .ref (xA b0 bs a0) :: r.map (xV b0 bs)))
    rw [small hM0, small hM1]
    refine va_copyi hx hb hml2 hown (hts _ hlink) (hts _ xOne_9) (hts _ xOne_10) (hts _ xOne_11) hK hP hD hS a0 a 1 1 (xWs_get hM0) (xWs_get hM1) (xTys_get (by decide)) (xTys_get (by decide)) rfl g1 g2 g3 g4 g5 (fun i _ => rfl) hR3 (by omega) hdg fun H1 locs1 hP1 _ hS1 => ?_
    exact kk _ _ _ _ _ _ _ _ _ hn hcp ⟨by rw [List.length_set]; exact i1, by rw [List.length_set]; exact i2, by rw [← xWs_set]; exact hP1, hS1, hl5⟩
  exact xStep_invS C hdg hs hn I kk
theorem xRtI_of {st : List Value} {f : Int32 → Prop} (h : xRtI st f) : ∃ v, st = [.int v] ∧ f v := by
  unfold xRtI at h; split at h
  · exact ⟨_, rfl, h⟩
  · exact h.elim
theorem xRtL_of {st : List Value} {f : Int64 → Prop} (h : xRtL st f) : ∃ v, st = [.long v] ∧ f v := by
  unfold xRtL at h; split at h
  · exact ⟨_, rfl, h⟩
  · exact h.elim
theorem xRtR_of {st : List Value} {f : Nat → Prop} (h : xRtR st f) : ∃ v, st = [.ref v] ∧ f v := by
  unfold xRtR at h; split at h
  · exact ⟨_, rfl, h⟩
  · exact h.elim
theorem xRtV_of {st : List Value} {P : Prop} (h : xRtV st P) : st = [] ∧ P := by
  unfold xRtV at h; split at h
  · exact ⟨rfl, h⟩
  · exact h.elim
theorem xStep_ret (C : xCtx p l R s m args meth c0 cc nL D b0 bs cA h E) {i : Instr} (hi : i = .ireturn ∨ i = .lreturn ∨ i = .areturn ∨ i = .return_) (hs : xS h E i len pc ls st M c sl k post) (hdg : decode cc pc = .ok (i, len)) (hn : ls.length = nL) (I : xWld D b0 bs cA s M H locs c lsA ls)
    (hfin : xFin p l e R s m args below meth c0 Q cc D b0 bs cA h post) : W p l e R s m args below meth c0 H locs c sl Q (F0 m pc lsA (st.map (xV b0 bs))) := by
  rcases hi with rfl | rfl | rfl | rfl
  · obtain ⟨hl, hq9⟩ := xG_of hs
    have el := xlen hl
    subst el
    have hs := hq9
    · obtain ⟨v, e0, hq10⟩ := xRtI_of hs
      subst e0
      have hs := hq10
      obtain ⟨hg, hs⟩ := xG_of hs
      simp only [Bool.and_eq_true, decide_eq_true_eq] at hg
      exact hfin _ (some (.int v)) _ _ _ _ _ _ _ _ (Or.inl ⟨v, rfl, rfl, hg.1⟩) hdg hs hg.2.1 hg.2.2 I
  · obtain ⟨hl, hq11⟩ := xG_of hs
    have el := xlen hl
    subst el
    have hs := hq11
    · obtain ⟨v, e0, hq12⟩ := xRtL_of hs
      subst e0
      have hs := hq12
      obtain ⟨hg, hs⟩ := xG_of hs
      simp only [Bool.and_eq_true, decide_eq_true_eq] at hg
      exact hfin _ (some (.long v)) _ _ _ _ _ _ _ _ (Or.inr (Or.inl ⟨v, rfl, rfl, hg.1⟩)) hdg hs hg.2.1 hg.2.2 I
  · obtain ⟨hl, hq13⟩ := xG_of hs
    have el := xlen hl
    subst el
    have hs := hq13
    · obtain ⟨a, e0, hq14⟩ := xRtR_of hs
      subst e0
      have hs := hq14
      obtain ⟨hg, hs⟩ := xG_of hs
      simp only [Bool.and_eq_true, decide_eq_true_eq] at hg
      obtain ⟨n, hn2⟩ : ∃ n, h.2.2.2.1 = some (.object n) := by
        have := hg.1
        unfold xIsO at this
        split at this
        · rename_i n q; exact ⟨n, q⟩
        · cases this
      exact hfin _ (some (.ref a)) _ _ _ _ _ _ _ _ (Or.inr (Or.inr (Or.inl ⟨a, n, rfl, rfl, hn2⟩))) hdg hs hg.2.1 hg.2.2 I
  · obtain ⟨hl, hq15⟩ := xG_of hs
    have el := xlen hl
    subst el
    have hs := hq15
    · obtain ⟨e0, hq16⟩ := xRtV_of hs
      subst e0
      have hs := hq16
      obtain ⟨hg, hs⟩ := xG_of hs
      simp only [Bool.and_eq_true, decide_eq_true_eq] at hg
      exact hfin _ none _ _ _ _ _ _ _ _ (Or.inr (Or.inr (Or.inr ⟨rfl, rfl, hg.1⟩))) hdg hs hg.2.1 hg.2.2 I
theorem xStep (C : xCtx p l R s m args meth c0 cc nL D b0 bs cA h E) {i : Instr} (hs : xS h E i len pc ls st M c sl k post) (hdg : decode cc pc = .ok (i, len)) (hn : ls.length = nL) (I : xWld D b0 bs cA s M H locs c lsA ls)
    (kk : xGo p l e R s m args below meth c0 Q nL D b0 bs cA k) (hfin : xFin p l e R s m args below meth c0 Q cc D b0 bs cA h post) : W p l e R s m args below meth c0 H locs c sl Q (F0 m pc lsA (st.map (xV b0 bs))) := by
  cases i with
  | aload n => exact xStep_load C (Or.inl ⟨n, rfl⟩) hs hdg hn I kk
  | aload_n n => exact xStep_load C (Or.inr (Or.inl ⟨n, rfl⟩)) hs hdg hn I kk
  | iload n => exact xStep_load C (Or.inr (Or.inr (Or.inl ⟨n, rfl⟩))) hs hdg hn I kk
  | iload_n n => exact xStep_load C (Or.inr (Or.inr (Or.inr (Or.inl ⟨n, rfl⟩)))) hs hdg hn I kk
  | lload n => exact xStep_load C (Or.inr (Or.inr (Or.inr (Or.inr (Or.inl ⟨n, rfl⟩))))) hs hdg hn I kk
  | lload_n n => exact xStep_load C (Or.inr (Or.inr (Or.inr (Or.inr (Or.inr ⟨n, rfl⟩))))) hs hdg hn I kk
  | astore n => exact xStep_store C (Or.inl ⟨n, rfl⟩) hs hdg hn I kk
  | astore_n n => exact xStep_store C (Or.inr (Or.inl ⟨n, rfl⟩)) hs hdg hn I kk
  | istore n => exact xStep_store C (Or.inr (Or.inr (Or.inl ⟨n, rfl⟩))) hs hdg hn I kk
  | istore_n n => exact xStep_store C (Or.inr (Or.inr (Or.inr (Or.inl ⟨n, rfl⟩)))) hs hdg hn I kk
  | lstore n => exact xStep_store C (Or.inr (Or.inr (Or.inr (Or.inr (Or.inl ⟨n, rfl⟩))))) hs hdg hn I kk
  | lstore_n n => exact xStep_store C (Or.inr (Or.inr (Or.inr (Or.inr (Or.inr (Or.inl ⟨n, rfl⟩)))))) hs hdg hn I kk
  | iinc n z => exact xStep_store C (Or.inr (Or.inr (Or.inr (Or.inr (Or.inr (Or.inr ⟨n, z, rfl⟩)))))) hs hdg hn I kk
  | iconst n => exact xStep_const C (Or.inl ⟨n, rfl⟩) hs hdg hn I kk
  | bipush n => exact xStep_const C (Or.inr (Or.inl ⟨n, rfl⟩)) hs hdg hn I kk
  | sipush n => exact xStep_const C (Or.inr (Or.inr (Or.inl ⟨n, rfl⟩))) hs hdg hn I kk
  | lconst n => exact xStep_const C (Or.inr (Or.inr (Or.inr (Or.inl ⟨n, rfl⟩)))) hs hdg hn I kk
  | ldc n => exact xStep_const C (Or.inr (Or.inr (Or.inr (Or.inr (Or.inl ⟨n, rfl⟩))))) hs hdg hn I kk
  | ldc_w n => exact xStep_const C (Or.inr (Or.inr (Or.inr (Or.inr (Or.inr (Or.inl ⟨n, rfl⟩)))))) hs hdg hn I kk
  | ldc2_w n => exact xStep_const C (Or.inr (Or.inr (Or.inr (Or.inr (Or.inr (Or.inr ⟨n, rfl⟩)))))) hs hdg hn I kk
  | iadd => exact xStep_arith C (by simp) hs hdg hn I kk
  | isub => exact xStep_arith C (by simp) hs hdg hn I kk
  | imul => exact xStep_arith C (by simp) hs hdg hn I kk
  | iand => exact xStep_arith C (by simp) hs hdg hn I kk
  | ior => exact xStep_arith C (by simp) hs hdg hn I kk
  | ixor => exact xStep_arith C (by simp) hs hdg hn I kk
  | ishl => exact xStep_arith C (by simp) hs hdg hn I kk
  | ishr => exact xStep_arith C (by simp) hs hdg hn I kk
  | iushr => exact xStep_arith C (by simp) hs hdg hn I kk
  | idiv => exact xStep_arith C (by simp) hs hdg hn I kk
  | irem => exact xStep_arith C (by simp) hs hdg hn I kk
  | ineg => exact xStep_arith C (by simp) hs hdg hn I kk
  | i2l => exact xStep_arith C (by simp) hs hdg hn I kk
  | i2b => exact xStep_arith C (by simp) hs hdg hn I kk
  | i2c => exact xStep_arith C (by simp) hs hdg hn I kk
  | l2i => exact xStep_arith C (by simp) hs hdg hn I kk
  | ladd => exact xStep_arith C (by simp) hs hdg hn I kk
  | lsub => exact xStep_arith C (by simp) hs hdg hn I kk
  | lmul => exact xStep_arith C (by simp) hs hdg hn I kk
  | ldiv => exact xStep_arith C (by simp) hs hdg hn I kk
  | lneg => exact xStep_arith C (by simp) hs hdg hn I kk
  | lcmp => exact xStep_arith C (by simp) hs hdg hn I kk
  | dup => exact xStep_stack C (Or.inl rfl) hs hdg hn I kk
  | pop => exact xStep_stack C (Or.inr (Or.inl rfl)) hs hdg hn I kk
  | dup2 => exact xStep_stack C (Or.inr (Or.inr (Or.inl rfl))) hs hdg hn I kk
  | goto off => exact xStep_stack C (Or.inr (Or.inr (Or.inr ⟨off, rfl⟩))) hs hdg hn I kk
  | ifCond cd off => exact xStep_if C ⟨cd, off, rfl⟩ hs hdg hn I kk
  | if_icmp cd off => exact xStep_icmp C ⟨cd, off, rfl⟩ hs hdg hn I kk
  | tableswitch d lo hi offs => exact xStep_switch C (Or.inl ⟨d, lo, hi, offs, rfl⟩) hs hdg hn I kk
  | lookupswitch d ps => exact xStep_switch C (Or.inr ⟨d, ps, rfl⟩) hs hdg hn I kk
  | iaload => exact xStep_arrays C (by simp) hs hdg hn I kk
  | baload => exact xStep_arrays C (by simp) hs hdg hn I kk
  | laload => exact xStep_arrays C (by simp) hs hdg hn I kk
  | aaload => exact xStep_arrays C (by simp) hs hdg hn I kk
  | iastore => exact xStep_arrays C (by simp) hs hdg hn I kk
  | bastore => exact xStep_arrays C (by simp) hs hdg hn I kk
  | lastore => exact xStep_arrays C (by simp) hs hdg hn I kk
  | arraylength => exact xStep_arrays C (by simp) hs hdg hn I kk
  | aastore => exact xStep_aastore C hs hdg hn I kk
  | getfield ix => exact xStep_get C hs hdg hn I kk
  | putfield ix => exact xStep_put C hs hdg hn I kk
  | new ix => exact xStep_new C hs hdg hn I kk
  | newarray ty => exact xStep_newa C hs hdg hn I kk
  | anewarray ix => exact xStep_anew C hs hdg hn I kk
  | invokevirtual ix =>
    obtain ⟨hl, hq17⟩ := xG_of hs
    have el := xlen hl
    subst el
    have hs := hq17
    obtain ⟨row, hrow, hs⟩ := xOp_of hs
    exact xStep_inv C (Or.inl ⟨rfl, hdg⟩) (fun met hm => Or.inl (xCall_met hrow hm)) hs hn I kk
  | invokestatic ix => exact xStep_stat C hs hdg hn I kk
  | invokespecial ix => exact xStep_spec C hs hdg hn I kk
  | ireturn => exact xStep_ret C (Or.inl rfl) hs hdg hn I hfin
  | lreturn => exact xStep_ret C (Or.inr (Or.inl rfl)) hs hdg hn I hfin
  | areturn => exact xStep_ret C (Or.inr (Or.inr (Or.inl rfl))) hs hdg hn I hfin
  | return_ => exact xStep_ret C (Or.inr (Or.inr (Or.inr rfl))) hs hdg hn I hfin
  | _ => exact hs.elim
theorem xFrame (C : xCtx p l R s m args meth c0 cc nL D b0 bs cA h E) (hfin : xFin p l e R s m args below meth c0 Q cc D b0 bs cA h post) : ∀ (n pc : Nat) (ls : xL) (st : List Value) (M : xM) (c sl : Nat) (H : Heap) (locs : List Loc) (lsA : Array Slot), ls.length = nL → xF h cc E n pc ls st M c sl post → xWld D b0 bs cA s M H locs c lsA ls → W p l e R s m args below meth c0 H locs c sl Q (F0 m pc lsA (st.map (xV b0 bs))) := by
  intro n
  induction n with
  | zero => intro pc ls st M c sl H locs lsA hn hs; exact hs.elim
  | succ n ih =>
    intro pc ls st M c sl H locs lsA hn hs I
    unfold xF at hs
    split at hs
    · rename_i i len hdg
      exact xStep C hs hdg hn I (fun pc ls st M c sl H locs lsA hn hk I => ih pc ls st M c sl H locs lsA hn hk I) hfin
    · exact hs.elim
end XSIM
/-! methods -/
theorem xSl_sl (b0 : Nat) (bs : Nat × Nat) (as : List Value) : lg_sl (as.map (xV b0 bs)) = (xSl as).map (fun o => match o with | some v => Slot.val (xV b0 bs v) | none => Slot.second) := by
  unfold lg_sl xSl
  induction as with
  | nil => rfl
  | cons v vs ih =>
    rw [List.map_cons, List.flatMap_cons, List.flatMap_cons, ih, List.map_append, xV_cat]
    congr 1
    by_cases h : v.category = 2
    · rw [if_pos h, if_pos h]; rfl
    · rw [if_neg h, if_neg h]; rfl
theorem xEnt_len {as : List Value} {n : Nat} (h : (xSl as).length ≤ n) : (xEnt as n).length = n := by
  unfold xEnt
  rw [List.length_append, List.length_replicate]; omega
theorem xEnt_has (b0 : Nat) (bs : Nat × Nat) {as : List Value} {n : Nat} (h : (xSl as).length ≤ n) : xHas b0 bs ((lg_sl (as.map (xV b0 bs)) ++ List.replicate (n - (lg_sl (as.map (xV b0 bs))).length) Slot.unset).toArray) (xEnt as n) := by
  have hl : (lg_sl (as.map (xV b0 bs))).length = (xSl as).length := by rw [xSl_sl, List.length_map]
  have h0 := lv_entry (as.map (xV b0 bs)) (n := n) (by rw [hl]; exact h)
  refine ⟨by rw [xEnt_len h]; exact h0.1, h0.2.1, fun q hq => ?_⟩
  obtain ⟨v, hv, hq2⟩ := xLv_mem.mp hq
  unfold xEnt at hv
  by_cases hi : q.1 < (xSl as).length
  · rw [List.getElem?_append_left hi] at hv
    rw [List.getElem?_toArray, List.getElem?_append_left (by rw [hl]; exact hi), xSl_sl, List.getElem?_map, hv, hq2]
    rfl
  · rw [List.getElem?_append_right (by omega)] at hv
    have := List.getElem?_replicate (a := (none : Option Value)) (n := n - (xSl as).length) (i := q.1 - (xSl as).length)
    rw [this] at hv
    split at hv <;> cases hv
theorem xSound (l : Launch) (D : va_G) (b0 : Nat) (bs : Nat × Nat) (cA : Nat → ClassId) (N : Nat) : ∀ (d z : Nat) (r : xMrow) (as : List Value) (M : xM) (post : xPost), xMet z = some r → xW N d z as M post → xOk l D b0 bs cA d z r as M post := by
  intro d
  induction d with
  | zero => intro z r as M post hm hw; exact hw.elim
  | succ d ih =>
    intro z r as M post hm hw
    rcases xIf_of hw with ⟨-, hw⟩ | ⟨-, hw⟩
    · exact yStr hm hw
    obtain ⟨r', hr', hw⟩ := xOp_of hw
    cases hm.symm.trans hr'
    obtain ⟨hlen, hw⟩ := xG_of hw
    have hlen : (xSl as).length ≤ r.2.2.1 := of_decide_eq_true hlen
    have hok := xMet_ok hm
    obtain ⟨y, cb, maxL, ret, o, n, kind, w1, w2, w3, w4⟩ := r
    obtain ⟨m1, m2, m3, m4, m5, m6, m7, m8, m9, m10, m11, m12, m13⟩ := xMet_say hok
    unfold xOk
    refine Met.ofW (cc := cb) (maxL := maxL) (ret := ret) m7 rfl ?_
    intro p e s m args below meth c s₁ B hml hv
    obtain ⟨rfl, hB⟩ := hv
    have hr := B.returns
    have hlocks := B.notSynchronized
    have hts : ∀ w ∈ xWords, w.before ((as.map (xV b0 bs)).toArray) s = true := fun w hw => atoms_spec (ws := xWz (y, cb, maxL, ret, o, n, kind, w1, w2, w3, w4)) B.pre w (List.mem_cons_of_mem _ hw)
    have hown : s.vm.findClass (xoN o) = some m.cls := by rw [← m6]; exact findClass_of_methodNamed B.named
    have C : xCtx p l (xRm (d + 1) z) s m ((as.map (xV b0 bs)).toArray) meth c cb maxL D b0 bs cA (xHd z (y, cb, maxL, ret, o, n, kind, w1, w2, w3, w4)) (xW N d) :=
      ⟨⟨B.exec, B.bytes, hml, hts, hown⟩, ⟨hB.2.2.2.1, hB.2.2.2.2.1, hB.2.2.2.2.2⟩, fun q => (name_of_methodNamed B.named B.method).1.trans (m11 (of_decide_eq_true q)).1, by rw [hB.1]; omega, fun X hX => (by cases hX), ⟨Nat.le_refl _, Nat.le_refl _, Nat.le_add_left 1 d, by show 60 ≤ 60 * (d + 1); omega⟩,
        fun z' r' as' M' post' hm' hw' => ⟨d, ih z' r' as' M' post' hm' hw', Nat.le_refl _, Nat.le_refl _⟩⟩
    rw [lg_entry_eq]
    refine xFrame C ?_ N 0 _ [] M 0 0 s.heap [] _ (xEnt_len hlen) hw ⟨by rw [hB.1]; rfl, hB.2.1, hB.2.2.1, va_S.rf, xEnt_has b0 bs hlen⟩
    intro i v pc ls M' c' sl H locs lsA hi hdg hp hc hsl I
    have hc : c' = (xMc z).1 := hc
    subst hc
    refine xz_W fun hu => ?_
    have hz := xSize (by rw [hB.1]; omega) I hu
    refine W.widen (Nat.le_refl _) hsl ?_
    have hq : ∀ t : State, t.heap = H → s.WarmedH t.vm → xQ D b0 bs cA z M post ((as.map (xV b0 bs)).toArray) s (.returned (v.map (xV b0 bs))) t := fun t ht hW =>
      ⟨⟨v, M', rfl, hp, by have := I.1; rw [hB.1] at this; omega, by rw [ht]; exact hz, I.2.1, by rw [ht]; exact I.2.2.1, va_K.moved hW.alike hB.2.2.2.1, xAO_moved hW hB.2.2.2.2.1, by rw [ht]; exact xStg_moved hW I.2.2.2.1.2.1 hB.2.2.2.2.2⟩, I.2.2.2.1.F ht⟩
    rcases hi with ⟨x, rfl, rfl, hx⟩ | ⟨x, rfl, rfl, hx⟩ | ⟨a, nm, rfl, rfl, hx⟩ | ⟨rfl, rfl, hx⟩
    · obtain ⟨ty, hty, hnar⟩ : ∃ ty, ret = some ty ∧ narrow ty (.int x) = .int x := by
        unfold xRet at hx
        split at hx
        · rename_i q; exact ⟨_, q, rfl⟩
        · rename_i q
          simp only [Bool.or_eq_true, decide_eq_true_eq] at hx
          rcases hx with rfl | rfl
          · exact ⟨_, q, by decide⟩
          · exact ⟨_, q, by decide⟩
        · cases hx
      exact W.zret (v := x) B.exec B.bytes (hr.trans hty) hnar hq I.2.2.2.1.2.2 hdg
    · exact W.lret (v := x) B.exec B.bytes (hr.trans hx) hq I.2.2.2.1.2.2 hdg
    · exact W.aret (v := .ref (xA b0 bs a)) B.exec B.bytes (hr.trans hx) (Or.inl ⟨nm, rfl⟩) (Or.inr ⟨_, rfl⟩) hq I.2.2.2.1.2.2 hdg
    · exact W.vret B.exec B.bytes (hr.trans hx) hq I.2.2.2.1.2.2 hdg
