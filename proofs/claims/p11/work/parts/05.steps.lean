section XSIM
variable {p : Program} {l : Launch} {e : Env} {R : Room} {s : State} {m : MethodId} {args : Array Value} {below : List Frame} {meth : Method} {c0 : Code} {H : Heap} {locs : List Loc} {Q : State → Prop}
variable {cc : ByteArray} {nL : Nat} {D : va_G} {b0 : Nat} {bs : Nat × Nat} {cA : Nat → ClassId} {h : xH} {E : xEv} {len pc : Nat} {ls : xL} {st : List Value} {M : xM} {c sl : Nat} {k : xK} {post : xPost} {lsA : Array Slot}
theorem xlen {n len : Nat} (h : decide (len = n) = true) : len = n := of_decide_eq_true h
theorem xStep_load (C : xCtx p l R s m args meth c0 cc nL D b0 bs cA h E) {i : Instr} (hi : (∃ n, i = .aload n) ∨ (∃ n, i = .aload_n n) ∨ (∃ n, i = .iload n) ∨ (∃ n, i = .iload_n n) ∨ (∃ n, i = .lload n) ∨ (∃ n, i = .lload_n n)) (hs : xS h E i len pc ls st M c sl k post) (hdg : decode cc pc = .ok (i, len)) (hn : ls.length = nL) (I : xWld D b0 bs cA s M H locs c lsA ls)
    (kk : xGo p l e R s m args below meth c0 Q nL D b0 bs cA k) : W p l e R s m args below meth c0 H locs c sl Q (F0 m pc lsA (st.map (xV b0 bs))) := by
  obtain ⟨hx, hb, -, -, -⟩ := C.1
  rcases hi with ⟨n, rfl⟩ | ⟨n, rfl⟩ | ⟨n, rfl⟩ | ⟨n, rfl⟩ | ⟨n, rfl⟩ | ⟨n, rfl⟩
  · obtain ⟨hl, hq1⟩ := xG_of hs
    have el := xlen hl
    subst el
    have hs := hq1
    obtain ⟨v, hv, hs⟩ := xLd_of hs
    obtain ⟨a, r, ev, hq2⟩ := xR1_of hs
    cases ev
    have hs := hq2
    exact lv_aload hx hb hdg (xHas_at I.2.2.2.2 hv) (kk _ _ _ _ _ _ _ _ _ hn hs I)
  · obtain ⟨hl, hq3⟩ := xG_of hs
    have el := xlen hl
    subst el
    have hs := hq3
    obtain ⟨v, hv, hs⟩ := xLd_of hs
    obtain ⟨a, r, ev, hq4⟩ := xR1_of hs
    cases ev
    have hs := hq4
    exact lv_aload_n hx hb hdg rfl (xHas_at I.2.2.2.2 hv) (kk _ _ _ _ _ _ _ _ _ hn hs I)
  · obtain ⟨hl, hq5⟩ := xG_of hs
    have el := xlen hl
    subst el
    have hs := hq5
    obtain ⟨v, hv, hs⟩ := xLd_of hs
    obtain ⟨a, r, ev, hq6⟩ := xI1_of hs
    cases ev
    have hs := hq6
    exact lv_iload hx hb hdg (xHas_at I.2.2.2.2 hv) (kk _ _ _ _ _ _ _ _ _ hn hs I)
  · obtain ⟨hl, hq7⟩ := xG_of hs
    have el := xlen hl
    subst el
    have hs := hq7
    obtain ⟨v, hv, hs⟩ := xLd_of hs
    obtain ⟨a, r, ev, hq8⟩ := xI1_of hs
    cases ev
    have hs := hq8
    exact lv_iload_n hx hb hdg rfl (xHas_at I.2.2.2.2 hv) (kk _ _ _ _ _ _ _ _ _ hn hs I)
  · obtain ⟨hl, hq9⟩ := xG_of hs
    have el := xlen hl
    subst el
    have hs := hq9
    obtain ⟨v, hv, hs⟩ := xLd_of hs
    obtain ⟨a, r, ev, hq10⟩ := xL1_of hs
    cases ev
    have hs := hq10
    exact lv_lload hx hb hdg (xHas_at I.2.2.2.2 hv) (kk _ _ _ _ _ _ _ _ _ hn hs I)
  · obtain ⟨hl, hq11⟩ := xG_of hs
    have el := xlen hl
    subst el
    have hs := hq11
    obtain ⟨v, hv, hs⟩ := xLd_of hs
    obtain ⟨a, r, ev, hq12⟩ := xL1_of hs
    cases ev
    have hs := hq12
    exact lv_lload_n hx hb hdg rfl (xHas_at I.2.2.2.2 hv) (kk _ _ _ _ _ _ _ _ _ hn hs I)
theorem xStep_store (C : xCtx p l R s m args meth c0 cc nL D b0 bs cA h E) {i : Instr} (hi : (∃ n, i = .astore n) ∨ (∃ n, i = .astore_n n) ∨ (∃ n, i = .istore n) ∨ (∃ n, i = .istore_n n) ∨ (∃ n, i = .lstore n) ∨ (∃ n, i = .lstore_n n) ∨ (∃ n z, i = .iinc n z)) (hs : xS h E i len pc ls st M c sl k post) (hdg : decode cc pc = .ok (i, len)) (hn : ls.length = nL) (I : xWld D b0 bs cA s M H locs c lsA ls)
    (kk : xGo p l e R s m args below meth c0 Q nL D b0 bs cA k) : W p l e R s m args below meth c0 H locs c sl Q (F0 m pc lsA (st.map (xV b0 bs))) := by
  obtain ⟨hx, hb, -, -, -⟩ := C.1
  obtain ⟨i1, i2, i3, i4, i5⟩ := I
  rcases hi with ⟨n, rfl⟩ | ⟨n, rfl⟩ | ⟨n, rfl⟩ | ⟨n, rfl⟩ | ⟨n, rfl⟩ | ⟨n, rfl⟩ | ⟨n, z, rfl⟩
  · obtain ⟨hl, hq13⟩ := xG_of hs
    have el := xlen hl
    subst el
    have hs := hq13
    obtain ⟨x, r, e0, hq14⟩ := xR1_of hs
    subst e0
    have hs := hq14
    obtain ⟨g1, g2, hs⟩ := xSt1_of hs
    exact lv_astore hx hb hdg i5 g2 rfl fun ls' h' => kk _ _ _ _ _ _ _ _ _ (by rw [List.length_set]; exact hn) hs ⟨i1, i2, i3, i4, xHas_set1 g1 g2 h'⟩
  · obtain ⟨hl, hq15⟩ := xG_of hs
    have el := xlen hl
    subst el
    have hs := hq15
    obtain ⟨x, r, e0, hq16⟩ := xR1_of hs
    subst e0
    have hs := hq16
    obtain ⟨g1, g2, hs⟩ := xSt1_of hs
    exact lv_astore_n hx hb hdg rfl i5 g2 rfl fun ls' h' => kk _ _ _ _ _ _ _ _ _ (by rw [List.length_set]; exact hn) hs ⟨i1, i2, i3, i4, xHas_set1 g1 g2 h'⟩
  · obtain ⟨hl, hq17⟩ := xG_of hs
    have el := xlen hl
    subst el
    have hs := hq17
    obtain ⟨x, r, e0, hq18⟩ := xI1_of hs
    subst e0
    have hs := hq18
    obtain ⟨g1, g2, hs⟩ := xSt1_of hs
    exact lv_istore hx hb hdg i5 g2 rfl fun ls' h' => kk _ _ _ _ _ _ _ _ _ (by rw [List.length_set]; exact hn) hs ⟨i1, i2, i3, i4, xHas_set1 (v := .int x) g1 g2 h'⟩
  · obtain ⟨hl, hq19⟩ := xG_of hs
    have el := xlen hl
    subst el
    have hs := hq19
    obtain ⟨x, r, e0, hq20⟩ := xI1_of hs
    subst e0
    have hs := hq20
    obtain ⟨g1, g2, hs⟩ := xSt1_of hs
    exact lv_istore_n hx hb hdg rfl i5 g2 rfl fun ls' h' => kk _ _ _ _ _ _ _ _ _ (by rw [List.length_set]; exact hn) hs ⟨i1, i2, i3, i4, xHas_set1 (v := .int x) g1 g2 h'⟩
  · obtain ⟨hl, hq21⟩ := xG_of hs
    have el := xlen hl
    subst el
    have hs := hq21
    obtain ⟨x, r, e0, hq22⟩ := xL1_of hs
    subst e0
    have hs := hq22
    obtain ⟨g1, g2, hs⟩ := xSt2_of hs
    exact lv_lstore hx hb hdg i5 g2 rfl fun ls' h' => kk _ _ _ _ _ _ _ _ _ (by rw [List.length_set, List.length_set]; exact hn) hs ⟨i1, i2, i3, i4, xHas_set2 (v := .long x) g1 g2 h'⟩
  · obtain ⟨hl, hq23⟩ := xG_of hs
    have el := xlen hl
    subst el
    have hs := hq23
    obtain ⟨x, r, e0, hq24⟩ := xL1_of hs
    subst e0
    have hs := hq24
    obtain ⟨g1, g2, hs⟩ := xSt2_of hs
    exact lv_lstore_n hx hb hdg rfl i5 g2 rfl fun ls' h' => kk _ _ _ _ _ _ _ _ _ (by rw [List.length_set, List.length_set]; exact hn) hs ⟨i1, i2, i3, i4, xHas_set2 (v := .long x) g1 g2 h'⟩
  · obtain ⟨hl, hq25⟩ := xG_of hs
    have el := xlen hl
    subst el
    have hs := hq25
    obtain ⟨v, hv, hs⟩ := xLd_of hs
    obtain ⟨x, r, ev, hq26⟩ := xI1_of hs
    cases ev
    have hs := hq26
    obtain ⟨g1, g2, hs⟩ := xSt1_of hs
    obtain ⟨j, hj⟩ := List.getElem?_of_mem (xLv_mem (b0 := b0) (bs := bs) (q := (n, .int x)).mpr ⟨.int x, hv, rfl⟩)
    exact lv_iinc hx hb hdg i5 hj rfl g2 rfl fun ls' h' => kk _ _ _ _ _ _ _ _ _ (by rw [List.length_set]; exact hn) hs ⟨i1, i2, i3, i4, xHas_set1 (v := .int _) g1 g2 h'⟩
theorem xStep_const (C : xCtx p l R s m args meth c0 cc nL D b0 bs cA h E) {i : Instr} (hi : (∃ n, i = .iconst n) ∨ (∃ n, i = .bipush n) ∨ (∃ n, i = .sipush n) ∨ (∃ n, i = .lconst n) ∨ (∃ n, i = .ldc n) ∨ (∃ n, i = .ldc_w n) ∨ (∃ n, i = .ldc2_w n)) (hs : xS h E i len pc ls st M c sl k post) (hdg : decode cc pc = .ok (i, len)) (hn : ls.length = nL) (I : xWld D b0 bs cA s M H locs c lsA ls)
    (kk : xGo p l e R s m args below meth c0 Q nL D b0 bs cA k) : W p l e R s m args below meth c0 H locs c sl Q (F0 m pc lsA (st.map (xV b0 bs))) := by
  obtain ⟨hx, hb, -, hts, hown⟩ := C.1
  rcases hi with ⟨n, rfl⟩ | ⟨n, rfl⟩ | ⟨n, rfl⟩ | ⟨n, rfl⟩ | ⟨n, rfl⟩ | ⟨n, rfl⟩ | ⟨n, rfl⟩
  · obtain ⟨hl, hq27⟩ := xG_of hs
    have el := xlen hl
    subst el
    have hs := hq27
    exact lv_iconst hx hb hdg rfl (kk _ _ _ _ _ _ _ _ _ hn hs I)
  · obtain ⟨hl, hq28⟩ := xG_of hs
    have el := xlen hl
    subst el
    have hs := hq28
    exact lv_bipush hx hb hdg rfl (kk _ _ _ _ _ _ _ _ _ hn hs I)
  · obtain ⟨hl, hq29⟩ := xG_of hs
    have el := xlen hl
    subst el
    have hs := hq29
    exact lv_sipush hx hb hdg rfl (kk _ _ _ _ _ _ _ _ _ hn hs I)
  · obtain ⟨hl, hq30⟩ := xG_of hs
    have el := xlen hl
    subst el
    have hs := hq30
    exact lv_lconst hx hb hdg rfl (kk _ _ _ _ _ _ _ _ _ hn hs I)
  · obtain ⟨hl, hq31⟩ := xG_of hs
    have el := xlen hl
    subst el
    have hs := hq31
    rcases xCsS_of hs with ⟨row, hrow, hs⟩ | hs
    · exact lv_ldc hx hb hown (hts _ (xCst_say hrow)) hdg (kk _ _ _ _ _ _ _ _ _ hn hs I)
    · obtain ⟨q, hs⟩ := xG_of hs
      simp only [xStC, Bool.and_eq_true, decide_eq_true_eq] at q
      have e9 := kk _ _ _ _ _ _ _ _ _ hn hs I
      have ea : xA b0 bs (xSc + 1) = bs.2 := by unfold xA; rw [if_neg (by omega), if_pos rfl]
      have e9 : W p l e R s m args below meth c0 H locs c sl Q (F0 m (pc + 2) lsA (.ref (xA b0 bs (xSc + 1)) :: st.map (xV b0 bs))) := e9
      rw [ea] at e9
      have hR := C.2.1.2.2.2.2.2
      have hown7 : s.vm.findClass RX7 = some m.cls := by rw [q.1] at hown; exact hown
      have hdg9 := hdg
      rw [q.2] at hdg9
      exact va_ldcS hx hb hown7 hR hdg9 e9
  · obtain ⟨hl, hq32⟩ := xG_of hs
    have el := xlen hl
    subst el
    have hs := hq32
    obtain ⟨row, hrow, hs⟩ := xOp_of hs
    exact lv_ldcw hx hb hown (hts _ (xCst_say hrow)) hdg (kk _ _ _ _ _ _ _ _ _ hn hs I)
  · obtain ⟨hl, hq33⟩ := xG_of hs
    have el := xlen hl
    subst el
    have hs := hq33
    obtain ⟨row, hrow, hs⟩ := xOp_of hs
    exact lv_ldc2 hx hb hown (hts _ (xCsL_say hrow)) hdg (kk _ _ _ _ _ _ _ _ _ hn hs I)
theorem xStep_arith (C : xCtx p l R s m args meth c0 cc nL D b0 bs cA h E) {i : Instr} (hi : i = .iadd ∨ i = .isub ∨ i = .imul ∨ i = .iand ∨ i = .ior ∨ i = .ixor ∨ i = .ishl ∨ i = .ishr ∨ i = .iushr ∨ i = .idiv ∨ i = .irem ∨ i = .ineg ∨ i = .i2l ∨ i = .i2b ∨ i = .i2c ∨ i = .l2i ∨ i = .ladd ∨ i = .lsub ∨ i = .lmul ∨ i = .ldiv ∨ i = .lneg ∨ i = .lcmp) (hs : xS h E i len pc ls st M c sl k post) (hdg : decode cc pc = .ok (i, len)) (hn : ls.length = nL) (I : xWld D b0 bs cA s M H locs c lsA ls)
    (kk : xGo p l e R s m args below meth c0 Q nL D b0 bs cA k) : W p l e R s m args below meth c0 H locs c sl Q (F0 m pc lsA (st.map (xV b0 bs))) := by
  obtain ⟨hx, hb, hml, hts, hown⟩ := C.1
  rcases hi with rfl | rfl | rfl | rfl | rfl | rfl | rfl | rfl | rfl | rfl | rfl | rfl | rfl | rfl | rfl | rfl | rfl | rfl | rfl | rfl | rfl | rfl
  · obtain ⟨hl, hq34⟩ := xG_of hs
    have el := xlen hl
    subst el
    have hs := hq34
    obtain ⟨f, hf, hq35⟩ := xOp_of hs
    cases hf
    have hs := hq35
    obtain ⟨x, y, r, e0, hq36⟩ := xI2_of hs
    subst e0
    have hs := hq36
    exact lv_iadd hx hb hdg (kk _ _ _ _ _ _ _ _ _ hn hs I)
  · obtain ⟨hl, hq37⟩ := xG_of hs
    have el := xlen hl
    subst el
    have hs := hq37
    obtain ⟨f, hf, hq38⟩ := xOp_of hs
    cases hf
    have hs := hq38
    obtain ⟨x, y, r, e0, hq39⟩ := xI2_of hs
    subst e0
    have hs := hq39
    exact lv_isub hx hb hdg (kk _ _ _ _ _ _ _ _ _ hn hs I)
  · obtain ⟨hl, hq40⟩ := xG_of hs
    have el := xlen hl
    subst el
    have hs := hq40
    obtain ⟨f, hf, hq41⟩ := xOp_of hs
    cases hf
    have hs := hq41
    obtain ⟨x, y, r, e0, hq42⟩ := xI2_of hs
    subst e0
    have hs := hq42
    exact lv_imul hx hb hdg (kk _ _ _ _ _ _ _ _ _ hn hs I)
  · obtain ⟨hl, hq43⟩ := xG_of hs
    have el := xlen hl
    subst el
    have hs := hq43
    obtain ⟨f, hf, hq44⟩ := xOp_of hs
    cases hf
    have hs := hq44
    obtain ⟨x, y, r, e0, hq45⟩ := xI2_of hs
    subst e0
    have hs := hq45
    exact lv_iand hx hb hdg (kk _ _ _ _ _ _ _ _ _ hn hs I)
  · obtain ⟨hl, hq46⟩ := xG_of hs
    have el := xlen hl
    subst el
    have hs := hq46
    obtain ⟨f, hf, hq47⟩ := xOp_of hs
    cases hf
    have hs := hq47
    obtain ⟨x, y, r, e0, hq48⟩ := xI2_of hs
    subst e0
    have hs := hq48
    exact lv_ior hx hb hdg (kk _ _ _ _ _ _ _ _ _ hn hs I)
  · obtain ⟨hl, hq49⟩ := xG_of hs
    have el := xlen hl
    subst el
    have hs := hq49
    obtain ⟨f, hf, hq50⟩ := xOp_of hs
    cases hf
    have hs := hq50
    obtain ⟨x, y, r, e0, hq51⟩ := xI2_of hs
    subst e0
    have hs := hq51
    exact lv_ixor hx hb hdg (kk _ _ _ _ _ _ _ _ _ hn hs I)
  · obtain ⟨hl, hq52⟩ := xG_of hs
    have el := xlen hl
    subst el
    have hs := hq52
    obtain ⟨f, hf, hq53⟩ := xOp_of hs
    cases hf
    have hs := hq53
    obtain ⟨x, y, r, e0, hq54⟩ := xI2_of hs
    subst e0
    have hs := hq54
    exact lv_ishl hx hb hdg (kk _ _ _ _ _ _ _ _ _ hn hs I)
  · obtain ⟨hl, hq55⟩ := xG_of hs
    have el := xlen hl
    subst el
    have hs := hq55
    obtain ⟨f, hf, hq56⟩ := xOp_of hs
    cases hf
    have hs := hq56
    obtain ⟨x, y, r, e0, hq57⟩ := xI2_of hs
    subst e0
    have hs := hq57
    exact lv_ishr hx hb hdg (kk _ _ _ _ _ _ _ _ _ hn hs I)
  · obtain ⟨hl, hq58⟩ := xG_of hs
    have el := xlen hl
    subst el
    have hs := hq58
    obtain ⟨f, hf, hq59⟩ := xOp_of hs
    cases hf
    have hs := hq59
    obtain ⟨x, y, r, e0, hq60⟩ := xI2_of hs
    subst e0
    have hs := hq60
    exact lv_iushr hx hb hdg rfl (kk _ _ _ _ _ _ _ _ _ hn hs I)
  · obtain ⟨hl, hq61⟩ := xG_of hs
    have el := xlen hl
    subst el
    have hs := hq61
    obtain ⟨x, y, r, e0, hq62⟩ := xI2_of hs
    subst e0
    have hs := hq62
    obtain ⟨h0, hs⟩ := xG_of hs
    exact lv_idiv hx hb hdg (by simpa using h0) (kk _ _ _ _ _ _ _ _ _ hn hs I)
  · obtain ⟨hl, hq63⟩ := xG_of hs
    have el := xlen hl
    subst el
    have hs := hq63
    obtain ⟨x, y, r, e0, hq64⟩ := xI2_of hs
    subst e0
    have hs := hq64
    obtain ⟨h0, hs⟩ := xG_of hs
    exact lv_irem hx hb hdg (by simpa using h0) (kk _ _ _ _ _ _ _ _ _ hn hs I)
  · obtain ⟨hl, hq65⟩ := xG_of hs
    have el := xlen hl
    subst el
    have hs := hq65
    obtain ⟨x, r, e0, hq66⟩ := xI1_of hs
    subst e0
    have hs := hq66
    exact lv_ineg hx hb hdg (kk _ _ _ _ _ _ _ _ _ hn hs I)
  · obtain ⟨hl, hq67⟩ := xG_of hs
    have el := xlen hl
    subst el
    have hs := hq67
    obtain ⟨x, r, e0, hq68⟩ := xI1_of hs
    subst e0
    have hs := hq68
    exact lv_i2l hx hb hdg rfl (kk _ _ _ _ _ _ _ _ _ hn hs I)
  · obtain ⟨hl, hq69⟩ := xG_of hs
    have el := xlen hl
    subst el
    have hs := hq69
    obtain ⟨x, r, e0, hq70⟩ := xI1_of hs
    subst e0
    have hs := hq70
    exact lv_i2b hx hb hdg rfl (kk _ _ _ _ _ _ _ _ _ hn hs I)
  · obtain ⟨hl, hq71⟩ := xG_of hs
    have el := xlen hl
    subst el
    have hs := hq71
    obtain ⟨x, r, e0, hq72⟩ := xI1_of hs
    subst e0
    have hs := hq72
    exact lv_i2c hx hb hdg rfl (kk _ _ _ _ _ _ _ _ _ hn hs I)
  · obtain ⟨hl, hq73⟩ := xG_of hs
    have el := xlen hl
    subst el
    have hs := hq73
    obtain ⟨x, r, e0, hq74⟩ := xL1_of hs
    subst e0
    have hs := hq74
    exact lv_l2i hx hb hdg rfl (kk _ _ _ _ _ _ _ _ _ hn hs I)
  · obtain ⟨hl, hq75⟩ := xG_of hs
    have el := xlen hl
    subst el
    have hs := hq75
    obtain ⟨x, y, r, e0, hq76⟩ := xL2_of hs
    subst e0
    have hs := hq76
    exact lv_ladd hx hb hdg (kk _ _ _ _ _ _ _ _ _ hn hs I)
  · obtain ⟨hl, hq77⟩ := xG_of hs
    have el := xlen hl
    subst el
    have hs := hq77
    obtain ⟨x, y, r, e0, hq78⟩ := xL2_of hs
    subst e0
    have hs := hq78
    exact lv_lsub hx hb hdg (kk _ _ _ _ _ _ _ _ _ hn hs I)
  · obtain ⟨hl, hq79⟩ := xG_of hs
    have el := xlen hl
    subst el
    have hs := hq79
    obtain ⟨x, y, r, e0, hq80⟩ := xL2_of hs
    subst e0
    have hs := hq80
    exact lv_lmul hx hb hdg (kk _ _ _ _ _ _ _ _ _ hn hs I)
  · obtain ⟨hl, hq81⟩ := xG_of hs
    have el := xlen hl
    subst el
    have hs := hq81
    obtain ⟨x, y, r, e0, hq82⟩ := xL2_of hs
    subst e0
    have hs := hq82
    obtain ⟨h0, hs⟩ := xG_of hs
    exact lv_ldiv hx hb hdg (by simpa using h0) (kk _ _ _ _ _ _ _ _ _ hn hs I)
  · obtain ⟨hl, hq83⟩ := xG_of hs
    have el := xlen hl
    subst el
    have hs := hq83
    obtain ⟨x, r, e0, hq84⟩ := xL1_of hs
    subst e0
    have hs := hq84
    exact lv_lneg hx hb hdg (kk _ _ _ _ _ _ _ _ _ hn hs I)
  · obtain ⟨hl, hq85⟩ := xG_of hs
    have el := xlen hl
    subst el
    have hs := hq85
    obtain ⟨x, y, r, e0, hq86⟩ := xL2_of hs
    subst e0
    have hs := hq86
    exact W.lcmp hx hb hdg (kk _ _ _ _ _ _ _ _ _ hn hs I)
theorem xOne_of {b0 : Nat} {bs : Nat × Nat} {v : Value} (h : xOne v = true) : (xV b0 bs v).category = 1 := by
  rw [xV_cat]; simpa [xOne] using h
theorem xStep_stack (C : xCtx p l R s m args meth c0 cc nL D b0 bs cA h E) {i : Instr} (hi : i = .dup ∨ i = .pop ∨ i = .dup2 ∨ (∃ off, i = .goto off)) (hs : xS h E i len pc ls st M c sl k post) (hdg : decode cc pc = .ok (i, len)) (hn : ls.length = nL) (I : xWld D b0 bs cA s M H locs c lsA ls)
    (kk : xGo p l e R s m args below meth c0 Q nL D b0 bs cA k) : W p l e R s m args below meth c0 H locs c sl Q (F0 m pc lsA (st.map (xV b0 bs))) := by
  obtain ⟨hx, hb, hml, hts, hown⟩ := C.1
  rcases hi with rfl | rfl | rfl | ⟨off, rfl⟩
  · obtain ⟨hl, hq87⟩ := xG_of hs
    have el := xlen hl
    subst el
    have hs := hq87
    obtain ⟨v, r, e0, hq88⟩ := xV1_of hs
    subst e0
    have hs := hq88
    obtain ⟨h0, hs⟩ := xG_of hs
    exact lv_dup hx hb hdg (xOne_of h0) (kk _ _ _ _ _ _ _ _ _ hn hs I)
  · obtain ⟨hl, hq89⟩ := xG_of hs
    have el := xlen hl
    subst el
    have hs := hq89
    obtain ⟨v, r, e0, hq90⟩ := xV1_of hs
    subst e0
    have hs := hq90
    obtain ⟨h0, hs⟩ := xG_of hs
    exact lv_pop hx hb hdg (xOne_of h0) (kk _ _ _ _ _ _ _ _ _ hn hs I)
  · obtain ⟨hl, hq91⟩ := xG_of hs
    have el := xlen hl
    subst el
    have hs := hq91
    obtain ⟨v, w, r, e0, hq92⟩ := xV2_of hs
    subst e0
    have hs := hq92
    obtain ⟨h0, hs⟩ := xG_of hs
    simp only [Bool.and_eq_true] at h0
    exact lv_dup2_11 hx hb hdg (xOne_of h0.1) (xOne_of h0.2) (kk _ _ _ _ _ _ _ _ _ hn hs I)
  · obtain ⟨hl, hq93⟩ := xG_of hs
    have el := xlen hl
    subst el
    have hs := hq93
    obtain ⟨t, ht, hs⟩ := xJ_of hs
    exact lv_goto hx hb hdg ht (kk _ _ _ _ _ _ _ _ _ hn hs I)
theorem xStep_if (C : xCtx p l R s m args meth c0 cc nL D b0 bs cA h E) {i : Instr} (hi : ∃ cd off, i = .ifCond cd off) (hs : xS h E i len pc ls st M c sl k post) (hdg : decode cc pc = .ok (i, len)) (hn : ls.length = nL) (I : xWld D b0 bs cA s M H locs c lsA ls)
    (kk : xGo p l e R s m args below meth c0 Q nL D b0 bs cA k) : W p l e R s m args below meth c0 H locs c sl Q (F0 m pc lsA (st.map (xV b0 bs))) := by
  obtain ⟨hx, hb, hml, hts, hown⟩ := C.1
  obtain ⟨cd, off, rfl⟩ := hi
  obtain ⟨hl, hq94⟩ := xG_of hs
  have el := xlen hl
  subst el
  have hs := hq94
  obtain ⟨x, r, e0, hq95⟩ := xI1_of hs
  subst e0
  have hs := hq95
  obtain ⟨t, ht, hs⟩ := xJ_of hs
  have kt : xCmp cd x 0 = true → W p l e R s m args below meth c0 H locs c sl Q (F0 m t lsA (r.map (xV b0 bs))) := fun q => by
    rw [q] at hs; exact kk _ _ _ _ _ _ _ _ _ hn hs I
  have kf : xCmp cd x 0 = false → W p l e R s m args below meth c0 H locs c sl Q (F0 m (pc + 3) lsA (r.map (xV b0 bs))) := fun q => by
    rw [q] at hs; exact kk _ _ _ _ _ _ _ _ _ hn hs I
  cases cd with
  | eq => exact lv_if_eq hx hb hdg ht (fun q => kt (by simp only [xCmp, q, decide_true, decide_false, Bool.not_true, Bool.not_false])) (fun q => kf (by simp only [xCmp, q, decide_true, decide_false, Bool.not_true, Bool.not_false]))
  | ne => exact lv_if_ne hx hb hdg ht (fun q => kt (by simp only [xCmp, q, decide_true, decide_false, Bool.not_true, Bool.not_false])) (fun q => kf (by simp only [xCmp, q, decide_true, decide_false, Bool.not_true, Bool.not_false]))
  | lt => exact lv_if_lt hx hb hdg ht (fun q => kt (by simp only [xCmp, q, decide_true, decide_false, Bool.not_true, Bool.not_false])) (fun q => kf (by simp only [xCmp, q, decide_true, decide_false, Bool.not_true, Bool.not_false]))
  | ge => exact lv_if_ge hx hb hdg ht (fun q => kt (by simp only [xCmp, q, decide_true, decide_false, Bool.not_true, Bool.not_false])) (fun q => kf (by simp only [xCmp, q, decide_true, decide_false, Bool.not_true, Bool.not_false]))
  | gt => exact lv_if_gt hx hb hdg ht (fun q => kt (by simp only [xCmp, q, decide_true, decide_false, Bool.not_true, Bool.not_false])) (fun q => kf (by simp only [xCmp, q, decide_true, decide_false, Bool.not_true, Bool.not_false]))
  | le => exact lv_if_le hx hb hdg ht (fun q => kt (by simp only [xCmp, q, decide_true, decide_false, Bool.not_true, Bool.not_false])) (fun q => kf (by simp only [xCmp, q, decide_true, decide_false, Bool.not_true, Bool.not_false]))
theorem xStep_icmp (C : xCtx p l R s m args meth c0 cc nL D b0 bs cA h E) {i : Instr} (hi : ∃ cd off, i = .if_icmp cd off) (hs : xS h E i len pc ls st M c sl k post) (hdg : decode cc pc = .ok (i, len)) (hn : ls.length = nL) (I : xWld D b0 bs cA s M H locs c lsA ls)
    (kk : xGo p l e R s m args below meth c0 Q nL D b0 bs cA k) : W p l e R s m args below meth c0 H locs c sl Q (F0 m pc lsA (st.map (xV b0 bs))) := by
  obtain ⟨hx, hb, hml, hts, hown⟩ := C.1
  obtain ⟨cd, off, rfl⟩ := hi
  obtain ⟨hl, hq96⟩ := xG_of hs
  have el := xlen hl
  subst el
  have hs := hq96
  obtain ⟨x, y, r, e0, hq97⟩ := xI2_of hs
  subst e0
  have hs := hq97
  obtain ⟨t, ht, hs⟩ := xJ_of hs
  have kt : xCmp cd x y = true → W p l e R s m args below meth c0 H locs c sl Q (F0 m t lsA (r.map (xV b0 bs))) := fun q => by
    rw [q] at hs; exact kk _ _ _ _ _ _ _ _ _ hn hs I
  have kf : xCmp cd x y = false → W p l e R s m args below meth c0 H locs c sl Q (F0 m (pc + 3) lsA (r.map (xV b0 bs))) := fun q => by
    rw [q] at hs; exact kk _ _ _ _ _ _ _ _ _ hn hs I
  cases cd with
  | eq => exact lv_icmp_eq hx hb hdg ht (fun q => kt (by simp only [xCmp, q, decide_true, decide_false, Bool.not_true, Bool.not_false])) (fun q => kf (by simp only [xCmp, q, decide_true, decide_false, Bool.not_true, Bool.not_false]))
  | ne => exact lv_icmp_ne hx hb hdg ht (fun q => kt (by simp only [xCmp, q, decide_true, decide_false, Bool.not_true, Bool.not_false])) (fun q => kf (by simp only [xCmp, q, decide_true, decide_false, Bool.not_true, Bool.not_false]))
  | lt => exact lv_icmp_lt hx hb hdg ht (fun q => kt (by simp only [xCmp, q, decide_true, decide_false, Bool.not_true, Bool.not_false])) (fun q => kf (by simp only [xCmp, q, decide_true, decide_false, Bool.not_true, Bool.not_false]))
  | ge => exact lv_icmp_ge hx hb hdg ht (fun q => kt (by simp only [xCmp, q, decide_true, decide_false, Bool.not_true, Bool.not_false])) (fun q => kf (by simp only [xCmp, q, decide_true, decide_false, Bool.not_true, Bool.not_false]))
  | gt => exact lv_icmp_gt hx hb hdg ht (fun q => kt (by simp only [xCmp, q, decide_true, decide_false, Bool.not_true, Bool.not_false])) (fun q => kf (by simp only [xCmp, q, decide_true, decide_false, Bool.not_true, Bool.not_false]))
  | le => exact lv_icmp_le hx hb hdg ht (fun q => kt (by simp only [xCmp, q, decide_true, decide_false, Bool.not_true, Bool.not_false])) (fun q => kf (by simp only [xCmp, q, decide_true, decide_false, Bool.not_true, Bool.not_false]))
theorem xStep_switch (C : xCtx p l R s m args meth c0 cc nL D b0 bs cA h E) {i : Instr} (hi : (∃ d lo hi offs, i = .tableswitch d lo hi offs) ∨ (∃ d ps, i = .lookupswitch d ps)) (hs : xS h E i len pc ls st M c sl k post) (hdg : decode cc pc = .ok (i, len)) (hn : ls.length = nL) (I : xWld D b0 bs cA s M H locs c lsA ls)
    (kk : xGo p l e R s m args below meth c0 Q nL D b0 bs cA k) : W p l e R s m args below meth c0 H locs c sl Q (F0 m pc lsA (st.map (xV b0 bs))) := by
  obtain ⟨hx, hb, hml, hts, hown⟩ := C.1
  rcases hi with ⟨d, lo, hi, offs, rfl⟩ | ⟨d, ps, rfl⟩
  · obtain ⟨x, r, e0, hq98⟩ := xI1_of hs
    subst e0
    have hs := hq98
    rcases xIf_of hs with ⟨q, hs⟩ | ⟨q, hs⟩
    · obtain ⟨t, ht, hs⟩ := xJ_of hs
      exact lv_tableOut hx hb hdg (by simpa using q) ht (kk _ _ _ _ _ _ _ _ _ hn hs I)
    · obtain ⟨off, ho, hs⟩ := xOp_of hs
      obtain ⟨t, ht, hs⟩ := xJ_of hs
      simp only [Bool.or_eq_false_iff, decide_eq_false_iff_not] at q
      exact lv_tableIn hx hb hdg q.1 q.2 ho ht (kk _ _ _ _ _ _ _ _ _ hn hs I)
  · obtain ⟨x, r, e0, hq99⟩ := xI1_of hs
    subst e0
    have hs := hq99
    obtain ⟨q, hs⟩ := xG_of hs
    obtain ⟨t, ht, hs⟩ := xJ_of hs
    exact lv_lookup hx hb hdg (by simpa using q) rfl ht (kk _ _ _ _ _ _ _ _ _ hn hs I)
end XSIM
