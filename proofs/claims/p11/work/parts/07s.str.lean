/-! the text constant's methods: length() and charAt(int), by the kit's rows -/
def y57 : xMrow := (yJ0_length_8abf5, cJ0_length_8abf5, 1, (some .int), 20, 0, 1, 3097, 3095, 3096, 1015)
def y58 : xMrow := (yJ0_coder_7d493, cJ0_coder_7d493, 1, (some .byte), 20, 0, 1, 3101, 3099, 3100, 1015)
def y59 : xMrow := (yJ0_charAt_5068e, cJ0_charAt_5068e, 2, (some .char), 20, 1, 1, 3107, 3105, 3106, 1015)
def y60 : xMrow := (yJ0_isLatin1_aae02, cJ0_isLatin1_aae02, 1, (some .boolean), 20, 0, 1, 3111, 3109, 3110, 1015)
def y61 : xMrow := (yJ1_charAt_3b067, cJ1_charAt_3b067, 2, (some .char), 21, 2, 0, 3114, 3113, 0, 1016)
def y62 : xMrow := (yJ0_checkIndex_df160, cJ0_checkIndex_df160, 2, none, 20, 2, 0, 3117, 3116, 0, 1015)
def y63 : xMrow := (yJ3_checkIndex_8e157, cJ3_checkIndex_8e157, 3, (some .int), 23, 3, 0, 3122, 3121, 0, 1017)
theorem yok57 : xMetOk y57 = true := xMet_ok (z := 57) rfl
theorem yok58 : xMetOk y58 = true := xMet_ok (z := 58) rfl
theorem yok59 : xMetOk y59 = true := xMet_ok (z := 59) rfl
theorem yok60 : xMetOk y60 = true := xMet_ok (z := 60) rfl
theorem yok61 : xMetOk y61 = true := xMet_ok (z := 61) rfl
theorem yok62 : xMetOk y62 = true := xMet_ok (z := 62) rfl
theorem yok63 : xMetOk y63 = true := xMet_ok (z := 63) rfl
theorem yw_335 : Cond.methodLink (xoN 20) 335 y58.1 ∈ xWords := xWok_in (n := 3098) (by decide +kernel)
theorem yw_492 : Cond.methodLink (xoN 20) 492 y60.1 ∈ xWords := xWok_in (n := 3108) (by decide +kernel)
theorem yw_495 : Cond.methodLink (xoN 20) 495 y61.1 ∈ xWords := xWok_in (n := 3112) (by decide +kernel)
theorem yw_9 : Cond.methodLink (xoN 21) 9 y62.1 ∈ xWords := xWok_in (n := 3115) (by decide +kernel)
theorem yw_1059 : Cond.methodLink (xoN 20) 1059 y63.1 ∈ xWords := xWok_in (n := 3120) (by decide +kernel)
theorem yw_38 : Cond.fieldLink (xoN 20) 38 "java/lang/String" "COMPACT_STRINGS" "Z" ∈ xWords := xWok_in (n := 3102) (by decide +kernel)
theorem yw_1053 : Cond.fieldLink (xoN 20) 1053 "jdk/internal/util/Preconditions" "SIOOBE_FORMATTER" "Ljava/util/function/BiFunction;" ∈ xWords := xWok_in (n := 3118) (by decide +kernel)
theorem yw_f9 : Cond.fieldLink (xoN 20) 9 "java/lang/String" "value" "[B" ∈ xWords := xWok_in (n := 8036) (by decide +kernel)
theorem yw_f15 : Cond.fieldLink (xoN 20) 15 "java/lang/String" "coder" "B" ∈ xWords := xWok_in (n := 8037) (by decide +kernel)
/-- what they look at: q is the place of its bytes -/
def yG (b0 : Nat) (bs : Nat × Nat) (q : Nat) (U : State) : Prop := xStg b0 bs U U.heap ∧ va_OF "java/lang/String" "value" "[B" (.ref q) bs.2 (fun a => b0 ≤ a) U U.heap ∧ va_OF "java/lang/String" "coder" "B" (.int 0) bs.2 (fun a => b0 ≤ a) U U.heap ∧ va_T .byte q 73 (fun j => .int (xWb.getD j 0)) (fun a => b0 ≤ a) U U.heap
theorem yG_of {b0 : Nat} {bs : Nat × Nat} {U : State} (h : xStg b0 bs U U.heap) : ∃ q, yG b0 bs q U := by
  obtain ⟨⟨adK, adV, h1, h2⟩, -⟩ := id h
  obtain ⟨-, g2, g3, g4⟩ := h2.1 0 (by omega)
  rw [h1] at g2 g3
  exact ⟨adV 0, h, g3, g2, g4⟩
theorem yG_same {b0 q : Nat} {bs : Nat × Nat} {u U : State} (hvm : U.vm = u.vm) (hh : U.heap = u.heap) (h : yG b0 bs q u) : yG b0 bs q U := by
  have hA : u.vm.Alike U.vm := by rw [hvm]; exact Vm.Alike.refl _
  obtain ⟨h1, h2, h3, h4⟩ := h
  unfold yG
  rw [hh]
  exact ⟨xStg_same hvm h1, va_OF.moved hA h2, va_OF.moved hA h3, va_T.moved hA h4⟩
theorem yG_warm {b0 q : Nat} {bs : Nat × Nat} {s U : State} (hU : U.heap = s.heap) (hW : s.WarmedH U.vm) (h : yG b0 bs q s) : yG b0 bs q U := by
  obtain ⟨h1, h2, h3, h4⟩ := h
  unfold yG
  rw [hU]
  exact ⟨xStg_moved hW (fun _ _ _ => rfl) h1, va_OF.moved hW.alike h2, va_OF.moved hW.alike h3, va_T.moved hW.alike h4⟩
theorem yBlind {b0 q : Nat} {bs : Nat × Nat} {av : List Value} : FrameBlind (va_Pc av (yG b0 bs q)) := by
  intro a U g mk h
  exact ⟨h.1, yG_same (u := U) (U := U.calling g mk a) rfl rfl h.2⟩
/-- an answer, the heap as it was -/
def yQ (post : Option Value → Prop) : Array Value → State → Outcome → State → Prop := fun _ st o t => ∃ v, o = .returned v ∧ post v ∧ t.heap = st.heap
def yMet (l : Launch) (b0 : Nat) (bs : Nat × Nat) (q d z : Nat) (r : xMrow) (av : List Value) (post : Option Value → Prop) : Prop := Met l r.1 (xWz r) (xRm d z) (va_Pc av (yG b0 bs q)) (yQ post) 0 0 (fun _ => False)
/-- a method's frame -/
def yC (p : Program) (s : State) (m : MethodId) (args : Array Value) (meth : Method) (c : Code) (r : xMrow) : Prop := p.tables.exec = Jvm.exec ∧ c.code = r.2.1 ∧ c.maxLocals = r.2.2.1 ∧ (∀ w ∈ xWords, w.before args s = true) ∧ s.vm.findClass (xoN r.2.2.2.2.1) = some m.cls ∧ meth.sig.returnType = r.2.2.2.1 ∧ meth.locks = false
theorem yEnter {l : Launch} {r : xMrow} (hok : xMetOk r = true) {rm : Room} {Pc : Array Value → State → Prop} {Qc : Array Value → State → Outcome → State → Prop} {mc ms : Nat} {free : Addr → Prop} (h : ∀ (p : Program) (e : Env) (s : State) (m : MethodId) (args : Array Value) (below : List Frame) (meth : Method) (c : Code), yC p s m args meth c r → Pc args s → W p l e rm s m args below meth c s.heap [] 0 0 (MQ below Qc args s mc ms free) (entryFrame m args r.2.2.1)) : Met l r.1 (xWz r) rm Pc Qc mc ms free := by
  obtain ⟨y, cb, maxL, ret, o, n, kind, w1, w2, w3, w4⟩ := r
  obtain ⟨m1, m2, m3, m4, m5, m6, m7, m8, m9, m10, m11, m12, m13⟩ := xMet_say hok
  refine Met.ofW (cc := cb) (maxL := maxL) (ret := ret) m7 rfl ?_
  intro p e s m args below meth c s₁ B hml hv
  have hts : ∀ w ∈ xWords, w.before args s = true := fun w hw => atoms_spec (ws := xWz (y, cb, maxL, ret, o, n, kind, w1, w2, w3, w4)) B.pre w (List.mem_cons_of_mem _ hw)
  have hown : s.vm.findClass (xoN o) = some m.cls := by rw [← m6]; exact findClass_of_methodNamed B.named
  exact h p e s m args below meth c ⟨B.exec, B.bytes, hml, hts, hown, B.returns, B.notSynchronized⟩ hv
section YW
variable {p : Program} {l : Launch} {e : Env} {R : Room} {s : State} {m : MethodId} {args : Array Value} {below : List Frame} {meth : Method} {c : Code} {Q : State → Prop} {pc : Nat} {ls : Array Slot} {rest st0 : List Value} {b0 q : Nat} {bs : Nat × Nat}
theorem yGo {post : Option Value → Prop} {a : Array Value} (hr : va_Run p l e R s m args below meth c s.heap [] 0 0 0 0 (F0 m pc ls st0) rest (yQ post a) (fun _ => False)) (kk : ∀ v, post v → W p l e R s m args below meth c s.heap [] 0 0 Q (F0 m (pc + 3) ls (v.toList ++ rest))) : W p l e R s m args below meth c s.heap [] 0 0 Q (F0 m pc ls st0) := by
  intro T hT X
  obtain ⟨v, st₀, t, T', L, h0, X', hL, e1, -, ⟨v', hv, hp, hh⟩, st⟩ := hr T hT X
  cases hv
  obtain ⟨t2, a1, b1⟩ := kk v hp T' (by rw [e1, hh, h0]) (Stand.forget X' (fun q h => (hL q h).elim))
  exact ⟨t2, st t2 a1, b1⟩
theorem yV {r r' : xMrow} (C : yC p s m args meth c r) (hG : yG b0 bs q s) {d z : Nat} {As : List Value} {post : Option Value → Prop} (hok : xMetOk r' = true) (ho : r'.2.2.2.2.1 = 20) (hk : r'.2.2.2.2.2.2.1 = 1) (hM : yMet l b0 bs q d z r' (.ref bs.2 :: As) post) (hmc : (xMc z).1 = 0 ∧ (xMc z).2 = 0) (hR : d + 1 ≤ R.frames ∧ 60 * (d + 1) ≤ R.locals) {ix : Nat} (hlink : Cond.methodLink (xoN r.2.2.2.2.1) ix r'.1 ∈ xWords) (hn : As.length = r'.2.2.2.2.2.1) (hsz : ls.size = r.2.2.1) (hroom : (rest.map fun v => v.category).sum ≤ 8) (hdg : decode r.2.1 pc = .ok (.invokevirtual ix, 3))
    (kk : ∀ v, post v → W p l e R s m args below meth c s.heap [] 0 0 Q (F0 m (pc + 3) ls (v.toList ++ rest))) : W p l e R s m args below meth c s.heap [] 0 0 Q (F0 m pc ls (As.reverse ++ .ref bs.2 :: rest)) := by
  obtain ⟨hx, hb, hml, hts, hown, -, -⟩ := C
  obtain ⟨y, cb, maxL, ret, o, n, kind, w1, w2, w3, w4⟩ := r'
  obtain ⟨m1, m2, m3, m4, m5, m6, m7, m8, m9, m10, m11, m12, m13⟩ := xMet_say hok
  simp only at ho hk hn hlink
  obtain ⟨adK, adV, hz0, hE0⟩ := hG.1.1
  have hrecv := vk_recv hE0 (i := 0) (by omega) va_S.rf
  rw [hz0, show ("java/lang/String" : String) = xoN 20 from rfl, ← ho, ← m6] at hrecv
  exact yGo (va_runV (As := As) (rest := rest) (Ts := xWords) ⟨hx, hb, hml, hown, hts⟩ hM ⟨callB_of n hts (xGoodIn _ hok) rfl hmc.1 hmc.2 (hts _ m5) (hts _ hlink) ⟨m9, m10, m8⟩ ⟨hR.1, by show 8 + (maxL + 11) + 60 * d ≤ R.locals; omega⟩, hts _ (m3 (by omega)), hts _ (m4 hk)⟩ ⟨yBlind, hrecv, fun U hU hW => ⟨rfl, yG_warm hU hW hG⟩⟩ rfl hn hsz rfl (lv_room hroom) hdg ⟨Nat.zero_le _, Nat.zero_le _⟩) kk
theorem yS {r r' : xMrow} (C : yC p s m args meth c r) (hG : yG b0 bs q s) {d z : Nat} {As : List Value} {post : Option Value → Prop} (hok : xMetOk r' = true) (hk : r'.2.2.2.2.2.2.1 = 0) (hM : yMet l b0 bs q d z r' As post) (hmc : (xMc z).1 = 0 ∧ (xMc z).2 = 0) (hR : d + 1 ≤ R.frames ∧ 60 * (d + 1) ≤ R.locals) {ix : Nat} (hlink : Cond.methodLink (xoN r.2.2.2.2.1) ix r'.1 ∈ xWords) (hn : As.length = r'.2.2.2.2.2.1) (hsz : ls.size = r.2.2.1) (hroom : (rest.map fun v => v.category).sum ≤ 8) (hdg : decode r.2.1 pc = .ok (.invokestatic ix, 3))
    (kk : ∀ v, post v → W p l e R s m args below meth c s.heap [] 0 0 Q (F0 m (pc + 3) ls (v.toList ++ rest))) : W p l e R s m args below meth c s.heap [] 0 0 Q (F0 m pc ls (As.reverse ++ rest)) := by
  obtain ⟨hx, hb, hml, hts, hown, -, -⟩ := C
  obtain ⟨y, cb, maxL, ret, o, n, kind, w1, w2, w3, w4⟩ := r'
  obtain ⟨m1, m2, m3, m4, m5, m6, m7, m8, m9, m10, m11, m12, m13⟩ := xMet_say hok
  simp only at hk hn hlink
  exact yGo (va_runS (As := As) (rest := rest) (Ts := xWords) ⟨hx, hb, hml, hown, hts⟩ hM ⟨callB_of n hts (xGoodIn _ hok) rfl hmc.1 hmc.2 (hts _ m5) (hts _ hlink) ⟨m9, m10, m8⟩ ⟨hR.1, by show 8 + (maxL + 11) + 60 * d ≤ R.locals; omega⟩, hts _ (m2 hk)⟩ ⟨yBlind, fun U hU hW => ⟨rfl, yG_warm hU hW hG⟩⟩ rfl hn hsz rfl (lv_room hroom) hdg ⟨Nat.zero_le _, Nat.zero_le _⟩) kk
end YW
theorem yd58_0 : decode cJ0_coder_7d493 0 = .ok (.getstatic 38, 3) := by decide +kernel
theorem yd58_3 : decode cJ0_coder_7d493 3 = .ok (.ifCond .eq 10, 3) := by decide +kernel
theorem yd58_6 : decode cJ0_coder_7d493 6 = .ok (.aload_n 0, 1) := by decide +kernel
theorem yd58_7 : decode cJ0_coder_7d493 7 = .ok (.getfield 15, 3) := by decide +kernel
theorem yd58_10 : decode cJ0_coder_7d493 10 = .ok (.goto 4, 3) := by decide +kernel
theorem yd58_14 : decode cJ0_coder_7d493 14 = .ok (.ireturn, 1) := by decide +kernel
theorem yMc0 (z : Nat) (h1 : 57 ≤ z) (h2 : z < 64) : (xMc z).1 = 0 ∧ (xMc z).2 = 0 := by
  have h : ∀ z, z < 64 → 57 ≤ z → (xMc z).1 = 0 ∧ (xMc z).2 = 0 := by decide +kernel
  exact h z h2 h1
set_option maxHeartbeats 4000000 in
theorem y_coder (l : Launch) (b0 : Nat) (bs : Nat × Nat) (q d : Nat) : yMet l b0 bs q d 58 y58 [.ref bs.2] (fun v => v = some (.int 0)) := by
  refine yEnter yok58 ?_
  intro p e s m args below meth c C hv
  obtain ⟨hx, hb, hml, hts, hown, hr, hlocks⟩ := id C
  obtain ⟨rfl, hG⟩ := hv
  have hl := lv_entry ([.ref bs.2]) (n := 1) (Nat.le_of_ble_eq_true rfl)
  show W _ _ _ _ _ _ _ _ _ _ _ _ _ _ _ (entryFrame m ([.ref bs.2] : List Value).toArray 1)
  rw [lg_entry_eq]
  generalize (lg_sl ([.ref bs.2]) ++ List.replicate (1 - (lg_sl ([.ref bs.2])).length) Slot.unset).toArray = ls at hl ⊢
  refine va_gets hx hb hG.1.2.1 va_S.rf hown (hts _ yw_38) (fun _ h => h) yd58_0 ?_
  refine lv_if_eq hx hb yd58_3 (tgt := 13) rfl (fun h => absurd h (by decide)) (fun _ => ?_)
  refine lv_aload_n hx hb yd58_6 rfl (lv_at hl 0 rfl) ?_
  refine vk_getf hx hb hG.2.2.1 va_S.rf hown (hts _ yw_f15) (fun _ h => h) yd58_7 ?_
  refine lv_goto hx hb yd58_10 (tgt := 14) rfl ?_
  exact W.zret (v := 0) hx hb hr (by decide) (fun t ht _ => ⟨_, rfl, rfl, ht⟩) (fun _ h => by cases h) yd58_14 hlocks
theorem yd57_0 : decode cJ0_length_8abf5 0 = .ok (.aload_n 0, 1) := by decide +kernel
theorem yd57_1 : decode cJ0_length_8abf5 1 = .ok (.getfield 9, 3) := by decide +kernel
theorem yd57_4 : decode cJ0_length_8abf5 4 = .ok (.arraylength, 1) := by decide +kernel
theorem yd57_5 : decode cJ0_length_8abf5 5 = .ok (.aload_n 0, 1) := by decide +kernel
theorem yd57_6 : decode cJ0_length_8abf5 6 = .ok (.invokevirtual 335, 3) := by decide +kernel
theorem yd57_9 : decode cJ0_length_8abf5 9 = .ok (.ishr, 1) := by decide +kernel
theorem yd57_10 : decode cJ0_length_8abf5 10 = .ok (.ireturn, 1) := by decide +kernel
set_option maxHeartbeats 4000000 in
/-- length(): the walk -/
theorem yw_len {p : Program} {l : Launch} {e : Env} {s : State} {m : MethodId} {below : List Frame} {meth : Method} {c : Code} {b0 q d : Nat} {bs : Nat × Nat} {Qc : Array Value → State → Outcome → State → Prop} {free : Addr → Prop} (C : yC p s m ([Value.ref bs.2] : List Value).toArray meth c y57) (hG : yG b0 bs q s) (hq : ∀ t : State, t.heap = s.heap → s.WarmedH t.vm → Qc ([Value.ref bs.2] : List Value).toArray s (.returned (some (.int 73))) t) : W p l e (xRm (d + 1) 57) s m ([Value.ref bs.2] : List Value).toArray below meth c s.heap [] 0 0 (MQ below Qc ([Value.ref bs.2] : List Value).toArray s 0 0 free) (entryFrame m ([Value.ref bs.2] : List Value).toArray 1) := by
  obtain ⟨hx, hb, hml, hts, hown, hr, hlocks⟩ := id C
  have hl := lv_entry ([.ref bs.2]) (n := 1) (Nat.le_of_ble_eq_true rfl)
  rw [lg_entry_eq]
  generalize (lg_sl ([.ref bs.2]) ++ List.replicate (1 - (lg_sl ([.ref bs.2])).length) Slot.unset).toArray = ls at hl ⊢
  refine lv_aload_n hx hb yd57_0 rfl (lv_at hl 0 rfl) ?_
  refine vk_getf hx hb hG.2.1 va_S.rf hown (hts _ yw_f9) (fun _ h => h) yd57_1 ?_
  refine va_tlen hx hb hG.2.2.2 va_S.rf (v := 73) rfl yd57_4 ?_
  refine lv_aload_n hx hb yd57_5 rfl (lv_at hl 0 rfl) ?_
  refine yV (As := []) (rest := [.int 73]) C hG yok58 rfl rfl (y_coder l b0 bs q d) (yMc0 58 (by omega) (by omega)) ⟨Nat.le_refl _, Nat.le_refl _⟩ yw_335 rfl hl.1 (by decide) yd57_6 (fun v hv => ?_)
  subst hv
  refine lv_ishr hx hb yd57_9 ?_
  exact W.zret (v := 73) hx hb hr (by decide) hq (fun _ h => by cases h) yd57_10 hlocks
theorem yd60_0 : decode cJ0_isLatin1_aae02 0 = .ok (.getstatic 38, 3) := by decide +kernel
theorem yd60_3 : decode cJ0_isLatin1_aae02 3 = .ok (.ifCond .eq 14, 3) := by decide +kernel
theorem yd60_6 : decode cJ0_isLatin1_aae02 6 = .ok (.aload_n 0, 1) := by decide +kernel
theorem yd60_7 : decode cJ0_isLatin1_aae02 7 = .ok (.getfield 15, 3) := by decide +kernel
theorem yd60_10 : decode cJ0_isLatin1_aae02 10 = .ok (.ifCond .ne 7, 3) := by decide +kernel
theorem yd60_13 : decode cJ0_isLatin1_aae02 13 = .ok (.iconst 1, 1) := by decide +kernel
theorem yd60_14 : decode cJ0_isLatin1_aae02 14 = .ok (.goto 4, 3) := by decide +kernel
theorem yd60_18 : decode cJ0_isLatin1_aae02 18 = .ok (.ireturn, 1) := by decide +kernel
set_option maxHeartbeats 4000000 in
theorem y_latin (l : Launch) (b0 : Nat) (bs : Nat × Nat) (q d : Nat) : yMet l b0 bs q d 60 y60 [.ref bs.2] (fun v => v = some (.int 1)) := by
  refine yEnter yok60 ?_
  intro p e s m args below meth c C hv
  obtain ⟨hx, hb, hml, hts, hown, hr, hlocks⟩ := id C
  obtain ⟨rfl, hG⟩ := hv
  have hl := lv_entry ([.ref bs.2]) (n := 1) (Nat.le_of_ble_eq_true rfl)
  show W _ _ _ _ _ _ _ _ _ _ _ _ _ _ _ (entryFrame m ([.ref bs.2] : List Value).toArray 1)
  rw [lg_entry_eq]
  generalize (lg_sl ([.ref bs.2]) ++ List.replicate (1 - (lg_sl ([.ref bs.2])).length) Slot.unset).toArray = ls at hl ⊢
  refine va_gets hx hb hG.1.2.1 va_S.rf hown (hts _ yw_38) (fun _ h => h) yd60_0 ?_
  refine lv_if_eq hx hb yd60_3 (tgt := 17) rfl (fun h => absurd h (by decide)) (fun _ => ?_)
  refine lv_aload_n hx hb yd60_6 rfl (lv_at hl 0 rfl) ?_
  refine vk_getf hx hb hG.2.2.1 va_S.rf hown (hts _ yw_f15) (fun _ h => h) yd60_7 ?_
  refine lv_if_ne hx hb yd60_10 (tgt := 17) rfl (fun h => absurd rfl h) (fun _ => ?_)
  refine lv_iconst hx hb yd60_13 (v := 1) rfl ?_
  refine lv_goto hx hb yd60_14 (tgt := 18) rfl ?_
  exact W.zret (v := 1) hx hb hr (by decide) (fun t ht _ => ⟨_, rfl, rfl, ht⟩) (fun _ h => by cases h) yd60_18 hlocks
theorem yd63_0 : decode cJ3_checkIndex_8e157 0 = .ok (.iload_n 0, 1) := by decide +kernel
theorem yd63_1 : decode cJ3_checkIndex_8e157 1 = .ok (.ifCond .lt 8, 3) := by decide +kernel
theorem yd63_4 : decode cJ3_checkIndex_8e157 4 = .ok (.iload_n 0, 1) := by decide +kernel
theorem yd63_5 : decode cJ3_checkIndex_8e157 5 = .ok (.iload_n 1, 1) := by decide +kernel
theorem yd63_6 : decode cJ3_checkIndex_8e157 6 = .ok (.if_icmp .lt 10, 3) := by decide +kernel
theorem yd63_16 : decode cJ3_checkIndex_8e157 16 = .ok (.iload_n 0, 1) := by decide +kernel
theorem yd63_17 : decode cJ3_checkIndex_8e157 17 = .ok (.ireturn, 1) := by decide +kernel
set_option maxHeartbeats 4000000 in
theorem y_pre (l : Launch) (b0 : Nat) (bs : Nat × Nat) (q d : Nat) {j : Int32} (h0 : ¬ j < 0) (h1 : j < 73) {f : Value} (hf : f.category = 1) : yMet l b0 bs q d 63 y63 [.int j, .int 73, f] (fun v => v = some (.int j)) := by
  refine yEnter yok63 ?_
  intro p e s m args below meth c C hv
  obtain ⟨hx, hb, hml, hts, hown, hr, hlocks⟩ := id C
  obtain ⟨rfl, hG⟩ := hv
  have hsl : (lg_sl ([.int j, .int 73, f] : List Value)).length ≤ 3 := by
    have c1 : (Value.int j).category = 1 := rfl
    have c2 : (Value.int 73).category = 1 := rfl
    simp [lg_sl, hf, c1, c2]
  have hl := lv_entry ([.int j, .int 73, f]) (n := 3) hsl
  show W _ _ _ _ _ _ _ _ _ _ _ _ _ _ _ (entryFrame m ([.int j, .int 73, f] : List Value).toArray 3)
  rw [lg_entry_eq]
  generalize (lg_sl ([.int j, .int 73, f]) ++ List.replicate (3 - (lg_sl ([.int j, .int 73, f])).length) Slot.unset).toArray = ls at hl ⊢
  refine lv_iload_n hx hb yd63_0 rfl (lv_at hl 0 rfl) ?_
  refine lv_if_lt hx hb yd63_1 (tgt := 9) rfl (fun h => absurd h h0) (fun _ => ?_)
  refine lv_iload_n hx hb yd63_4 rfl (lv_at hl 0 rfl) ?_
  refine lv_iload_n hx hb yd63_5 rfl (lv_at hl 1 rfl) ?_
  refine lv_icmp_lt hx hb yd63_6 (tgt := 16) rfl (fun _ => ?_) (fun h => absurd h1 h)
  refine lv_iload_n hx hb yd63_16 rfl (lv_at hl 0 rfl) ?_
  exact W.zret (v := j) hx hb hr rfl (fun t ht _ => ⟨_, rfl, rfl, ht⟩) (fun _ h => by cases h) yd63_17 hlocks
theorem yd62_0 : decode cJ0_checkIndex_df160 0 = .ok (.iload_n 0, 1) := by decide +kernel
theorem yd62_1 : decode cJ0_checkIndex_df160 1 = .ok (.iload_n 1, 1) := by decide +kernel
theorem yd62_2 : decode cJ0_checkIndex_df160 2 = .ok (.getstatic 1053, 3) := by decide +kernel
theorem yd62_5 : decode cJ0_checkIndex_df160 5 = .ok (.invokestatic 1059, 3) := by decide +kernel
theorem yd62_8 : decode cJ0_checkIndex_df160 8 = .ok (.pop, 1) := by decide +kernel
theorem yd62_9 : decode cJ0_checkIndex_df160 9 = .ok (.return_, 1) := by decide +kernel
set_option maxHeartbeats 4000000 in
theorem y_check (l : Launch) (b0 : Nat) (bs : Nat × Nat) (q d : Nat) {j : Int32} (h0 : ¬ j < 0) (h1 : j < 73) : yMet l b0 bs q (d + 1) 62 y62 [.int j, .int 73] (fun v => v = none) := by
  refine yEnter yok62 ?_
  intro p e s m args below meth c C hv
  obtain ⟨hx, hb, hml, hts, hown, hr, hlocks⟩ := id C
  obtain ⟨rfl, hG⟩ := hv
  have hl := lv_entry ([.int j, .int 73]) (n := 2) (Nat.le_of_ble_eq_true rfl)
  show W _ _ _ _ _ _ _ _ _ _ _ _ _ _ _ (entryFrame m ([.int j, .int 73] : List Value).toArray 2)
  rw [lg_entry_eq]
  generalize (lg_sl ([.int j, .int 73]) ++ List.replicate (2 - (lg_sl ([.int j, .int 73])).length) Slot.unset).toArray = ls at hl ⊢
  have tail : ∀ f : Value, f.category = 1 → va_Z "jdk/internal/util/Preconditions" "SIOOBE_FORMATTER" "Ljava/util/function/BiFunction;" f (fun a => b0 ≤ a) s s.heap → W p l e (xRm (d + 1) 62) s m ([.int j, .int 73] : List Value).toArray below meth c s.heap [] 0 0 (MQ below (yQ fun v => v = none) ([.int j, .int 73] : List Value).toArray s 0 0 fun _ => False) (F0 m 0 ls []) := by
    intro f hf hZ
    refine lv_iload_n hx hb yd62_0 rfl (lv_at hl 0 rfl) ?_
    refine lv_iload_n hx hb yd62_1 rfl (lv_at hl 1 rfl) ?_
    refine va_gets hx hb hZ va_S.rf hown (hts _ yw_1053) (fun _ h => h) yd62_2 ?_
    refine yS (As := [.int j, .int 73, f]) (rest := []) C hG yok63 rfl (y_pre l b0 bs q d h0 h1 hf) (yMc0 63 (by omega) (by omega)) ⟨Nat.le_refl _, Nat.le_refl _⟩ yw_1059 rfl hl.1 (by decide) yd62_5 (fun v hv => ?_)
    subst hv
    refine lv_pop hx hb yd62_8 rfl ?_
    exact W.vret hx hb hr (fun t ht _ => ⟨_, rfl, rfl, ht⟩) (fun _ h => by cases h) yd62_9 hlocks
  rcases hG.1.2.2.1 with hZ | ⟨t, hZ⟩
  · exact tail _ rfl hZ
  · exact tail _ rfl hZ
theorem yd61_0 : decode cJ1_charAt_3b067 0 = .ok (.iload_n 1, 1) := by decide +kernel
theorem yd61_1 : decode cJ1_charAt_3b067 1 = .ok (.aload_n 0, 1) := by decide +kernel
theorem yd61_2 : decode cJ1_charAt_3b067 2 = .ok (.arraylength, 1) := by decide +kernel
theorem yd61_3 : decode cJ1_charAt_3b067 3 = .ok (.invokestatic 9, 3) := by decide +kernel
theorem yd61_6 : decode cJ1_charAt_3b067 6 = .ok (.aload_n 0, 1) := by decide +kernel
theorem yd61_7 : decode cJ1_charAt_3b067 7 = .ok (.iload_n 1, 1) := by decide +kernel
theorem yd61_8 : decode cJ1_charAt_3b067 8 = .ok (.baload, 1) := by decide +kernel
theorem yd61_9 : decode cJ1_charAt_3b067 9 = .ok (.sipush 255, 3) := by decide +kernel
theorem yd61_12 : decode cJ1_charAt_3b067 12 = .ok (.iand, 1) := by decide +kernel
theorem yd61_13 : decode cJ1_charAt_3b067 13 = .ok (.i2c, 1) := by decide +kernel
theorem yd61_14 : decode cJ1_charAt_3b067 14 = .ok (.ireturn, 1) := by decide +kernel
theorem yChr : ∀ k, k < 73 → ((xWb.getD k 0 &&& 255).toUInt32 % 65536).toInt32 = xWb.getD k 0 ∧ narrow .char (.int (xWb.getD k 0)) = .int (xWb.getD k 0) := by decide +kernel
theorem yIn {j : Int32} (h : xIn j 73 = true) : ¬ j < 0 ∧ j < 73 ∧ j.toNatClampNeg < 73 := by
  unfold xIn at h
  simp only [Bool.and_eq_true, Bool.not_eq_true', decide_eq_false_iff_not, decide_eq_true_eq] at h
  refine ⟨h.1, ?_, h.2⟩
  have h1 := h.1
  have h2 : j.toInt.toNat < 73 := h.2
  rw [Int32.lt_iff_toInt_lt, show (0 : Int32).toInt = 0 by decide] at h1
  rw [Int32.lt_iff_toInt_lt, show (73 : Int32).toInt = 73 by decide]
  omega
set_option maxHeartbeats 4000000 in
theorem y_char1 (l : Launch) (b0 : Nat) (bs : Nat × Nat) (q d : Nat) {j : Int32} (hj : xIn j 73 = true) : yMet l b0 bs q (d + 2) 61 y61 [.ref q, .int j] (fun v => v = some (.int (xChr j))) := by
  refine yEnter yok61 ?_
  intro p e s m args below meth c C hv
  obtain ⟨hx, hb, hml, hts, hown, hr, hlocks⟩ := id C
  obtain ⟨rfl, hG⟩ := hv
  obtain ⟨j0, j1, j2⟩ := yIn hj
  obtain ⟨c1, c2⟩ := yChr _ j2
  have hl := lv_entry ([.ref q, .int j]) (n := 2) (Nat.le_of_ble_eq_true rfl)
  show W _ _ _ _ _ _ _ _ _ _ _ _ _ _ _ (entryFrame m ([.ref q, .int j] : List Value).toArray 2)
  rw [lg_entry_eq]
  generalize (lg_sl ([.ref q, .int j]) ++ List.replicate (2 - (lg_sl ([.ref q, .int j])).length) Slot.unset).toArray = ls at hl ⊢
  refine lv_iload_n hx hb yd61_0 rfl (lv_at hl 1 rfl) ?_
  refine lv_aload_n hx hb yd61_1 rfl (lv_at hl 0 rfl) ?_
  refine va_tlen hx hb hG.2.2.2 va_S.rf (v := 73) rfl yd61_2 ?_
  refine yS (As := [.int j, .int 73]) (rest := []) C hG yok62 rfl (y_check l b0 bs q d j0 j1) (yMc0 62 (by omega) (by omega)) ⟨Nat.le_refl _, Nat.le_refl _⟩ yw_9 rfl hl.1 (by decide) yd61_3 (fun v hv => ?_)
  subst hv
  refine lv_aload_n hx hb yd61_6 rfl (lv_at hl 0 rfl) ?_
  refine lv_iload_n hx hb yd61_7 rfl (lv_at hl 1 rfl) ?_
  refine va_tb hx hb hG.2.2.2 va_S.rf (xIn_of hj) (v := .int (xWb.getD j.toNatClampNeg 0)) rfl yd61_8 ?_
  refine lv_sipush hx hb yd61_9 (v := 255) rfl ?_
  refine lv_iand hx hb yd61_12 ?_
  refine lv_i2c hx hb yd61_13 c1 ?_
  exact W.zret (v := xWb.getD j.toNatClampNeg 0) hx hb hr c2 (fun t ht _ => ⟨_, rfl, rfl, ht⟩) (fun _ h => by cases h) yd61_14 hlocks
theorem yd59_0 : decode cJ0_charAt_5068e 0 = .ok (.aload_n 0, 1) := by decide +kernel
theorem yd59_1 : decode cJ0_charAt_5068e 1 = .ok (.invokevirtual 492, 3) := by decide +kernel
theorem yd59_4 : decode cJ0_charAt_5068e 4 = .ok (.ifCond .eq 12, 3) := by decide +kernel
theorem yd59_7 : decode cJ0_charAt_5068e 7 = .ok (.aload_n 0, 1) := by decide +kernel
theorem yd59_8 : decode cJ0_charAt_5068e 8 = .ok (.getfield 9, 3) := by decide +kernel
theorem yd59_11 : decode cJ0_charAt_5068e 11 = .ok (.iload_n 1, 1) := by decide +kernel
theorem yd59_12 : decode cJ0_charAt_5068e 12 = .ok (.invokestatic 495, 3) := by decide +kernel
theorem yd59_15 : decode cJ0_charAt_5068e 15 = .ok (.ireturn, 1) := by decide +kernel
set_option maxHeartbeats 4000000 in
/-- charAt(int): the walk -/
theorem yw_chr {p : Program} {l : Launch} {e : Env} {s : State} {m : MethodId} {below : List Frame} {meth : Method} {c : Code} {b0 q d : Nat} {bs : Nat × Nat} {j : Int32} (hj : xIn j 73 = true) {Qc : Array Value → State → Outcome → State → Prop} {free : Addr → Prop} (C : yC p s m ([Value.ref bs.2, .int j] : List Value).toArray meth c y59) (hG : yG b0 bs q s) (hq : ∀ t : State, t.heap = s.heap → s.WarmedH t.vm → Qc ([Value.ref bs.2, .int j] : List Value).toArray s (.returned (some (.int (xChr j)))) t) : W p l e (xRm (d + 3) 59) s m ([Value.ref bs.2, .int j] : List Value).toArray below meth c s.heap [] 0 0 (MQ below Qc ([Value.ref bs.2, .int j] : List Value).toArray s 0 0 free) (entryFrame m ([Value.ref bs.2, .int j] : List Value).toArray 2) := by
  obtain ⟨hx, hb, hml, hts, hown, hr, hlocks⟩ := id C
  obtain ⟨-, c2⟩ := yChr _ (yIn hj).2.2
  have hl := lv_entry ([.ref bs.2, .int j]) (n := 2) (Nat.le_of_ble_eq_true rfl)
  rw [lg_entry_eq]
  generalize (lg_sl ([.ref bs.2, .int j]) ++ List.replicate (2 - (lg_sl ([.ref bs.2, .int j])).length) Slot.unset).toArray = ls at hl ⊢
  refine lv_aload_n hx hb yd59_0 rfl (lv_at hl 0 rfl) ?_
  refine yV (As := []) (rest := []) C hG yok60 rfl rfl (y_latin l b0 bs q (d + 2)) (yMc0 60 (by omega) (by omega)) ⟨Nat.le_refl _, Nat.le_refl _⟩ yw_492 rfl hl.1 (by decide) yd59_1 (fun v hv => ?_)
  subst hv
  refine lv_if_eq hx hb yd59_4 (tgt := 16) rfl (fun h => absurd h (by decide)) (fun _ => ?_)
  refine lv_aload_n hx hb yd59_7 rfl (lv_at hl 0 rfl) ?_
  refine vk_getf hx hb hG.2.1 va_S.rf hown (hts _ yw_f9) (fun _ h => h) yd59_8 ?_
  refine lv_iload_n hx hb yd59_11 rfl (lv_at hl 1 rfl) ?_
  refine yS (As := [.ref q, .int j]) (rest := []) C hG yok61 rfl (y_char1 l b0 bs q d hj) (yMc0 61 (by omega) (by omega)) ⟨Nat.le_refl _, Nat.le_refl _⟩ yw_495 rfl hl.1 (by decide) yd59_12 (fun v hv => ?_)
  subst hv
  exact W.zret (v := xChr j) hx hb hr c2 hq (fun _ h => by cases h) yd59_15 hlocks
/-- the two, as the small machine has them -/
theorem yStr {l : Launch} {D : va_G} {b0 : Nat} {bs : Nat × Nat} {cA : Nat → ClassId} {d z : Nat} {r : xMrow} {as : List Value} {M : xM} {post : xPost} (hm : xMet z = some r) (hw : xStrI d z as M post) : xOk l D b0 bs cA (d + 1) z r as M post := by
  have ea : ∀ a : Nat, a = xSc + 1 → xV b0 bs (.ref a) = .ref bs.2 := by
    intro a h
    show Value.ref (xA b0 bs a) = _
    unfold xA
    rw [if_neg (by omega), if_pos h]
  have hB0 : ∀ U : State, xB D b0 bs cA M U → ∃ q, yG b0 bs q U := fun U h => yG_of h.2.2.2.2.2
  have hQ : ∀ (v : Option Value) (a : Array Value) (s t : State), post v M → v.map (xV b0 bs) = v → (xMc z).1 = 0 → xB D b0 bs cA M s → t.heap = s.heap → s.WarmedH t.vm → xQ D b0 bs cA z M post a s (.returned v) t := by
    intro v a s t hp hv hz hB ht hW
    refine ⟨⟨v, M, by rw [hv], hp, by rw [hz]; rfl, by rw [ht]; exact hB.1, hB.2.1, by rw [ht]; exact hB.2.2.1, va_K.moved hW.alike hB.2.2.2.1, xAO_moved hW hB.2.2.2.2.1, by rw [ht]; exact xStg_moved hW (fun _ _ _ => rfl) hB.2.2.2.2.2⟩, by rw [ht]; exact Nat.le_refl _, fun q _ _ => by rw [ht]⟩
  unfold xStrI at hw
  split at hw
  · rename_i a
    obtain ⟨g, hw2⟩ := xG_of hw
    simp only [Bool.and_eq_true, decide_eq_true_eq] at g
    obtain ⟨g1, g2, g3⟩ := g
    subst g2
    cases (show some y57 = some r from hm)
    unfold xOk
    rw [List.map_cons, ea a g1]
    refine yEnter yok57 ?_
    intro p e s m args below meth c C hv
    obtain ⟨rfl, hB⟩ := hv
    obtain ⟨q, hG⟩ := hB0 s hB
    exact yw_len C hG (fun t ht hW => hQ (some (.int 73)) _ s t hw2 rfl rfl hB ht hW)
  · rename_i a j
    obtain ⟨g, hw2⟩ := xG_of hw
    simp only [Bool.and_eq_true, decide_eq_true_eq] at g
    obtain ⟨g1, g2, g3, g4⟩ := g
    subst g2
    cases (show some y59 = some r from hm)
    obtain ⟨d', hd'⟩ : ∃ d', d + 1 = d' + 3 := ⟨d - 2, by omega⟩
    unfold xOk
    rw [List.map_cons, ea a g1, hd']
    refine yEnter yok59 ?_
    intro p e s m args below meth c C hv
    obtain ⟨rfl, hB⟩ := hv
    obtain ⟨q, hG⟩ := hB0 s hB
    exact yw_chr g4 C hG (fun t ht hW => hQ (some (.int (xChr j))) _ s t hw2 rfl rfl hB ht hW)
  · exact hw.elim
