section XSIM
variable {p : Program} {l : Launch} {e : Env} {R : Room} {s : State} {m : MethodId} {args : Array Value} {below : List Frame} {meth : Method} {c0 : Code} {H : Heap} {locs : List Loc} {Q : State → Prop}
variable {cc : ByteArray} {nL : Nat} {D : va_G} {b0 bs : Nat} {cA : Nat → ClassId} {h : xH} {E : xEv} {len pc : Nat} {ls : xL} {st : List Value} {M : xM} {c sl : Nat} {k : xK} {post : xPost} {lsA : Array Slot}
theorem xlen {n len : Nat} (h : decide (len = n) = true) : len = n := of_decide_eq_true h
theorem xStep_load (C : xCtx p l R s m args meth c0 cc nL D b0 bs cA h E) {i : Instr} (hi : (∃ n, i = .aload n) ∨ (∃ n, i = .aload_n n) ∨ (∃ n, i = .iload n) ∨ (∃ n, i = .iload_n n) ∨ (∃ n, i = .lload n) ∨ (∃ n, i = .lload_n n)) (hs : xS h E i len pc ls st M c sl k post) (hdg : decode cc pc = .ok (i, len)) (hn : ls.length = nL) (I : xWld D b0 bs cA s M H locs c lsA ls)
    (kk : xGo p l e R s m args below meth c0 Q nL D b0 bs cA k) : W p l e R s m args below meth c0 H locs c sl Q (F0 m pc lsA (st.map (xV b0 bs))) := by
  obtain ⟨hx, hb, -, -, -⟩ := C.1
  rcases hi with ⟨n, rfl⟩ | ⟨n, rfl⟩ | ⟨n, rfl⟩ | ⟨n, rfl⟩ | ⟨n, rfl⟩ | ⟨n, rfl⟩
  · obtain ⟨hl, hs⟩ := xG_of hs
    cases xlen hl
    obtain ⟨v, hv, hs⟩ := xLd_of hs
    obtain ⟨a, r, ev, hs⟩ := xR1_of hs
    cases ev
    exact lv_aload hx hb hdg (xHas_at I.2.2.2.2 hv) (kk _ _ _ _ _ _ _ _ _ hn hs I)
  · obtain ⟨hl, hs⟩ := xG_of hs
    cases xlen hl
    obtain ⟨v, hv, hs⟩ := xLd_of hs
    obtain ⟨a, r, ev, hs⟩ := xR1_of hs
    cases ev
    exact lv_aload_n hx hb hdg rfl (xHas_at I.2.2.2.2 hv) (kk _ _ _ _ _ _ _ _ _ hn hs I)
  · obtain ⟨hl, hs⟩ := xG_of hs
    cases xlen hl
    obtain ⟨v, hv, hs⟩ := xLd_of hs
    obtain ⟨a, r, ev, hs⟩ := xI1_of hs
    cases ev
    exact lv_iload hx hb hdg (xHas_at I.2.2.2.2 hv) (kk _ _ _ _ _ _ _ _ _ hn hs I)
  · obtain ⟨hl, hs⟩ := xG_of hs
    cases xlen hl
    obtain ⟨v, hv, hs⟩ := xLd_of hs
    obtain ⟨a, r, ev, hs⟩ := xI1_of hs
    cases ev
    exact lv_iload_n hx hb hdg rfl (xHas_at I.2.2.2.2 hv) (kk _ _ _ _ _ _ _ _ _ hn hs I)
  · obtain ⟨hl, hs⟩ := xG_of hs
    cases xlen hl
    obtain ⟨v, hv, hs⟩ := xLd_of hs
    obtain ⟨a, r, ev, hs⟩ := xL1_of hs
    cases ev
    exact lv_lload hx hb hdg (xHas_at I.2.2.2.2 hv) (kk _ _ _ _ _ _ _ _ _ hn hs I)
  · obtain ⟨hl, hs⟩ := xG_of hs
    cases xlen hl
    obtain ⟨v, hv, hs⟩ := xLd_of hs
    obtain ⟨a, r, ev, hs⟩ := xL1_of hs
    cases ev
    exact lv_lload_n hx hb hdg rfl (xHas_at I.2.2.2.2 hv) (kk _ _ _ _ _ _ _ _ _ hn hs I)
theorem xStep_store (C : xCtx p l R s m args meth c0 cc nL D b0 bs cA h E) {i : Instr} (hi : (∃ n, i = .astore n) ∨ (∃ n, i = .astore_n n) ∨ (∃ n, i = .istore n) ∨ (∃ n, i = .istore_n n) ∨ (∃ n, i = .lstore n) ∨ (∃ n, i = .lstore_n n) ∨ (∃ n z, i = .iinc n z)) (hs : xS h E i len pc ls st M c sl k post) (hdg : decode cc pc = .ok (i, len)) (hn : ls.length = nL) (I : xWld D b0 bs cA s M H locs c lsA ls)
    (kk : xGo p l e R s m args below meth c0 Q nL D b0 bs cA k) : W p l e R s m args below meth c0 H locs c sl Q (F0 m pc lsA (st.map (xV b0 bs))) := by
  obtain ⟨hx, hb, -, -, -⟩ := C.1
  obtain ⟨i1, i2, i3, i4, i5⟩ := I
  rcases hi with ⟨n, rfl⟩ | ⟨n, rfl⟩ | ⟨n, rfl⟩ | ⟨n, rfl⟩ | ⟨n, rfl⟩ | ⟨n, rfl⟩ | ⟨n, z, rfl⟩
  · obtain ⟨hl, hs⟩ := xG_of hs
    cases xlen hl
    obtain ⟨x, r, rfl, hs⟩ := xR1_of hs
    obtain ⟨g1, g2, hs⟩ := xSt1_of hs
    exact lv_astore hx hb hdg i5 g2 rfl fun ls' h' => kk _ _ _ _ _ _ _ _ _ (by rw [List.length_set]; exact hn) hs ⟨i1, i2, i3, i4, xHas_set1 g1 g2 h'⟩
  · obtain ⟨hl, hs⟩ := xG_of hs
    cases xlen hl
    obtain ⟨x, r, rfl, hs⟩ := xR1_of hs
    obtain ⟨g1, g2, hs⟩ := xSt1_of hs
    exact lv_astore_n hx hb hdg rfl i5 g2 rfl fun ls' h' => kk _ _ _ _ _ _ _ _ _ (by rw [List.length_set]; exact hn) hs ⟨i1, i2, i3, i4, xHas_set1 g1 g2 h'⟩
  · obtain ⟨hl, hs⟩ := xG_of hs
    cases xlen hl
    obtain ⟨x, r, rfl, hs⟩ := xI1_of hs
    obtain ⟨g1, g2, hs⟩ := xSt1_of hs
    exact lv_istore hx hb hdg i5 g2 rfl fun ls' h' => kk _ _ _ _ _ _ _ _ _ (by rw [List.length_set]; exact hn) hs ⟨i1, i2, i3, i4, xHas_set1 (v := .int x) g1 g2 h'⟩
  · obtain ⟨hl, hs⟩ := xG_of hs
    cases xlen hl
    obtain ⟨x, r, rfl, hs⟩ := xI1_of hs
    obtain ⟨g1, g2, hs⟩ := xSt1_of hs
    exact lv_istore_n hx hb hdg rfl i5 g2 rfl fun ls' h' => kk _ _ _ _ _ _ _ _ _ (by rw [List.length_set]; exact hn) hs ⟨i1, i2, i3, i4, xHas_set1 (v := .int x) g1 g2 h'⟩
  · obtain ⟨hl, hs⟩ := xG_of hs
    cases xlen hl
    obtain ⟨x, r, rfl, hs⟩ := xL1_of hs
    obtain ⟨g1, g2, hs⟩ := xSt2_of hs
    exact lv_lstore hx hb hdg i5 g2 rfl fun ls' h' => kk _ _ _ _ _ _ _ _ _ (by rw [List.length_set, List.length_set]; exact hn) hs ⟨i1, i2, i3, i4, xHas_set2 (v := .long x) g1 g2 h'⟩
  · obtain ⟨hl, hs⟩ := xG_of hs
    cases xlen hl
    obtain ⟨x, r, rfl, hs⟩ := xL1_of hs
    obtain ⟨g1, g2, hs⟩ := xSt2_of hs
    exact lv_lstore_n hx hb hdg rfl i5 g2 rfl fun ls' h' => kk _ _ _ _ _ _ _ _ _ (by rw [List.length_set, List.length_set]; exact hn) hs ⟨i1, i2, i3, i4, xHas_set2 (v := .long x) g1 g2 h'⟩
  · obtain ⟨hl, hs⟩ := xG_of hs
    cases xlen hl
    obtain ⟨v, hv, hs⟩ := xLd_of hs
    obtain ⟨x, r, ev, hs⟩ := xI1_of hs
    cases ev
    obtain ⟨g1, g2, hs⟩ := xSt1_of hs
    obtain ⟨j, hj⟩ := List.getElem?_of_mem (xLv_mem (b0 := b0) (bs := bs) (q := (n, .int x)).mpr ⟨.int x, hv, rfl⟩)
    exact lv_iinc hx hb hdg i5 hj rfl g2 rfl fun ls' h' => kk _ _ _ _ _ _ _ _ _ (by rw [List.length_set]; exact hn) hs ⟨i1, i2, i3, i4, xHas_set1 (v := .int _) g1 g2 h'⟩
theorem xStep_const (C : xCtx p l R s m args meth c0 cc nL D b0 bs cA h E) {i : Instr} (hi : (∃ n, i = .iconst n) ∨ (∃ n, i = .bipush n) ∨ (∃ n, i = .sipush n) ∨ (∃ n, i = .lconst n) ∨ (∃ n, i = .ldc n) ∨ (∃ n, i = .ldc_w n) ∨ (∃ n, i = .ldc2_w n)) (hs : xS h E i len pc ls st M c sl k post) (hdg : decode cc pc = .ok (i, len)) (hn : ls.length = nL) (I : xWld D b0 bs cA s M H locs c lsA ls)
    (kk : xGo p l e R s m args below meth c0 Q nL D b0 bs cA k) : W p l e R s m args below meth c0 H locs c sl Q (F0 m pc lsA (st.map (xV b0 bs))) := by
  obtain ⟨hx, hb, -, hts, hown⟩ := C.1
  rcases hi with ⟨n, rfl⟩ | ⟨n, rfl⟩ | ⟨n, rfl⟩ | ⟨n, rfl⟩ | ⟨n, rfl⟩ | ⟨n, rfl⟩ | ⟨n, rfl⟩
  · obtain ⟨hl, hs⟩ := xG_of hs
    cases xlen hl
    exact lv_iconst hx hb hdg rfl (kk _ _ _ _ _ _ _ _ _ hn hs I)
  · obtain ⟨hl, hs⟩ := xG_of hs
    cases xlen hl
    exact lv_bipush hx hb hdg rfl (kk _ _ _ _ _ _ _ _ _ hn hs I)
  · obtain ⟨hl, hs⟩ := xG_of hs
    cases xlen hl
    exact lv_sipush hx hb hdg rfl (kk _ _ _ _ _ _ _ _ _ hn hs I)
  · obtain ⟨hl, hs⟩ := xG_of hs
    cases xlen hl
    exact lv_lconst hx hb hdg rfl (kk _ _ _ _ _ _ _ _ _ hn hs I)
  · obtain ⟨hl, hs⟩ := xG_of hs
    cases xlen hl
    obtain ⟨row, hrow, hs⟩ := xOp_of hs
    exact lv_ldc hx hb hown (hts _ (xCst_say hrow)) hdg (kk _ _ _ _ _ _ _ _ _ hn hs I)
  · obtain ⟨hl, hs⟩ := xG_of hs
    cases xlen hl
    obtain ⟨row, hrow, hs⟩ := xOp_of hs
    exact lv_ldcw hx hb hown (hts _ (xCst_say hrow)) hdg (kk _ _ _ _ _ _ _ _ _ hn hs I)
  · obtain ⟨hl, hs⟩ := xG_of hs
    cases xlen hl
    obtain ⟨row, hrow, hs⟩ := xOp_of hs
    exact lv_ldc2 hx hb hown (hts _ (xCsL_say hrow)) hdg (kk _ _ _ _ _ _ _ _ _ hn hs I)
theorem xStep_arith (C : xCtx p l R s m args meth c0 cc nL D b0 bs cA h E) {i : Instr} (hi : i = .iadd ∨ i = .isub ∨ i = .imul ∨ i = .iand ∨ i = .ior ∨ i = .ixor ∨ i = .ishl ∨ i = .ishr ∨ i = .iushr ∨ i = .idiv ∨ i = .irem ∨ i = .ineg ∨ i = .i2l ∨ i = .i2b ∨ i = .i2c ∨ i = .l2i ∨ i = .ladd ∨ i = .lsub ∨ i = .lmul ∨ i = .ldiv ∨ i = .lneg ∨ i = .lcmp) (hs : xS h E i len pc ls st M c sl k post) (hdg : decode cc pc = .ok (i, len)) (hn : ls.length = nL) (I : xWld D b0 bs cA s M H locs c lsA ls)
    (kk : xGo p l e R s m args below meth c0 Q nL D b0 bs cA k) : W p l e R s m args below meth c0 H locs c sl Q (F0 m pc lsA (st.map (xV b0 bs))) := by
  obtain ⟨hx, hb, hml, hts, hown⟩ := C.1
  rcases hi with rfl | rfl | rfl | rfl | rfl | rfl | rfl | rfl | rfl | rfl | rfl | rfl | rfl | rfl | rfl | rfl | rfl | rfl | rfl | rfl | rfl | rfl
  · obtain ⟨hl, hs⟩ := xG_of hs
    cases xlen hl
    obtain ⟨f, hf, hs⟩ := xOp_of hs
    cases hf
    obtain ⟨x, y, r, rfl, hs⟩ := xI2_of hs
    exact lv_iadd hx hb hdg (kk _ _ _ _ _ _ _ _ _ hn hs I)
  · obtain ⟨hl, hs⟩ := xG_of hs
    cases xlen hl
    obtain ⟨f, hf, hs⟩ := xOp_of hs
    cases hf
    obtain ⟨x, y, r, rfl, hs⟩ := xI2_of hs
    exact lv_isub hx hb hdg (kk _ _ _ _ _ _ _ _ _ hn hs I)
  · obtain ⟨hl, hs⟩ := xG_of hs
    cases xlen hl
    obtain ⟨f, hf, hs⟩ := xOp_of hs
    cases hf
    obtain ⟨x, y, r, rfl, hs⟩ := xI2_of hs
    exact lv_imul hx hb hdg (kk _ _ _ _ _ _ _ _ _ hn hs I)
  · obtain ⟨hl, hs⟩ := xG_of hs
    cases xlen hl
    obtain ⟨f, hf, hs⟩ := xOp_of hs
    cases hf
    obtain ⟨x, y, r, rfl, hs⟩ := xI2_of hs
    exact lv_iand hx hb hdg (kk _ _ _ _ _ _ _ _ _ hn hs I)
  · obtain ⟨hl, hs⟩ := xG_of hs
    cases xlen hl
    obtain ⟨f, hf, hs⟩ := xOp_of hs
    cases hf
    obtain ⟨x, y, r, rfl, hs⟩ := xI2_of hs
    exact lv_ior hx hb hdg (kk _ _ _ _ _ _ _ _ _ hn hs I)
  · obtain ⟨hl, hs⟩ := xG_of hs
    cases xlen hl
    obtain ⟨f, hf, hs⟩ := xOp_of hs
    cases hf
    obtain ⟨x, y, r, rfl, hs⟩ := xI2_of hs
    exact lv_ixor hx hb hdg (kk _ _ _ _ _ _ _ _ _ hn hs I)
  · obtain ⟨hl, hs⟩ := xG_of hs
    cases xlen hl
    obtain ⟨f, hf, hs⟩ := xOp_of hs
    cases hf
    obtain ⟨x, y, r, rfl, hs⟩ := xI2_of hs
    exact lv_ishl hx hb hdg (kk _ _ _ _ _ _ _ _ _ hn hs I)
  · obtain ⟨hl, hs⟩ := xG_of hs
    cases xlen hl
    obtain ⟨f, hf, hs⟩ := xOp_of hs
    cases hf
    obtain ⟨x, y, r, rfl, hs⟩ := xI2_of hs
    exact lv_ishr hx hb hdg (kk _ _ _ _ _ _ _ _ _ hn hs I)
  · obtain ⟨hl, hs⟩ := xG_of hs
    cases xlen hl
    obtain ⟨f, hf, hs⟩ := xOp_of hs
    cases hf
    obtain ⟨x, y, r, rfl, hs⟩ := xI2_of hs
    exact lv_iushr hx hb hdg rfl (kk _ _ _ _ _ _ _ _ _ hn hs I)
  · obtain ⟨hl, hs⟩ := xG_of hs
    cases xlen hl
    obtain ⟨x, y, r, rfl, hs⟩ := xI2_of hs
    obtain ⟨h0, hs⟩ := xG_of hs
    exact lv_idiv hx hb hdg (by simpa using h0) (kk _ _ _ _ _ _ _ _ _ hn hs I)
  · obtain ⟨hl, hs⟩ := xG_of hs
    cases xlen hl
    obtain ⟨x, y, r, rfl, hs⟩ := xI2_of hs
    obtain ⟨h0, hs⟩ := xG_of hs
    exact lv_irem hx hb hdg (by simpa using h0) (kk _ _ _ _ _ _ _ _ _ hn hs I)
  · obtain ⟨hl, hs⟩ := xG_of hs
    cases xlen hl
    obtain ⟨x, r, rfl, hs⟩ := xI1_of hs
    exact lv_ineg hx hb hdg (kk _ _ _ _ _ _ _ _ _ hn hs I)
  · obtain ⟨hl, hs⟩ := xG_of hs
    cases xlen hl
    obtain ⟨x, r, rfl, hs⟩ := xI1_of hs
    exact lv_i2l hx hb hdg rfl (kk _ _ _ _ _ _ _ _ _ hn hs I)
  · obtain ⟨hl, hs⟩ := xG_of hs
    cases xlen hl
    obtain ⟨x, r, rfl, hs⟩ := xI1_of hs
    exact lv_i2b hx hb hdg rfl (kk _ _ _ _ _ _ _ _ _ hn hs I)
  · obtain ⟨hl, hs⟩ := xG_of hs
    cases xlen hl
    obtain ⟨x, r, rfl, hs⟩ := xI1_of hs
    exact lv_i2c hx hb hdg rfl (kk _ _ _ _ _ _ _ _ _ hn hs I)
  · obtain ⟨hl, hs⟩ := xG_of hs
    cases xlen hl
    obtain ⟨x, r, rfl, hs⟩ := xL1_of hs
    exact lv_l2i hx hb hdg rfl (kk _ _ _ _ _ _ _ _ _ hn hs I)
  · obtain ⟨hl, hs⟩ := xG_of hs
    cases xlen hl
    obtain ⟨x, y, r, rfl, hs⟩ := xL2_of hs
    exact lv_ladd hx hb hdg (kk _ _ _ _ _ _ _ _ _ hn hs I)
  · obtain ⟨hl, hs⟩ := xG_of hs
    cases xlen hl
    obtain ⟨x, y, r, rfl, hs⟩ := xL2_of hs
    exact lv_lsub hx hb hdg (kk _ _ _ _ _ _ _ _ _ hn hs I)
  · obtain ⟨hl, hs⟩ := xG_of hs
    cases xlen hl
    obtain ⟨x, y, r, rfl, hs⟩ := xL2_of hs
    exact lv_lmul hx hb hdg (kk _ _ _ _ _ _ _ _ _ hn hs I)
  · obtain ⟨hl, hs⟩ := xG_of hs
    cases xlen hl
    obtain ⟨x, y, r, rfl, hs⟩ := xL2_of hs
    obtain ⟨h0, hs⟩ := xG_of hs
    exact lv_ldiv hx hb hdg (by simpa using h0) (kk _ _ _ _ _ _ _ _ _ hn hs I)
  · obtain ⟨hl, hs⟩ := xG_of hs
    cases xlen hl
    obtain ⟨x, r, rfl, hs⟩ := xL1_of hs
    exact lv_lneg hx hb hdg (kk _ _ _ _ _ _ _ _ _ hn hs I)
  · obtain ⟨hl, hs⟩ := xG_of hs
    cases xlen hl
    obtain ⟨x, y, r, rfl, hs⟩ := xL2_of hs
    exact W.lcmp hx hb hdg (kk _ _ _ _ _ _ _ _ _ hn hs I)
theorem xOne_of {b0 bs : Nat} {v : Value} (h : xOne v = true) : (xV b0 bs v).category = 1 := by
  rw [xV_cat]; simpa [xOne] using h
theorem xStep_stack (C : xCtx p l R s m args meth c0 cc nL D b0 bs cA h E) {i : Instr} (hi : i = .dup ∨ i = .pop ∨ i = .dup2 ∨ (∃ off, i = .goto off)) (hs : xS h E i len pc ls st M c sl k post) (hdg : decode cc pc = .ok (i, len)) (hn : ls.length = nL) (I : xWld D b0 bs cA s M H locs c lsA ls)
    (kk : xGo p l e R s m args below meth c0 Q nL D b0 bs cA k) : W p l e R s m args below meth c0 H locs c sl Q (F0 m pc lsA (st.map (xV b0 bs))) := by
  obtain ⟨hx, hb, hml, hts, hown⟩ := C.1
  rcases hi with rfl | rfl | rfl | ⟨off, rfl⟩
  · obtain ⟨hl, hs⟩ := xG_of hs
    cases xlen hl
    obtain ⟨v, r, rfl, hs⟩ := xV1_of hs
    obtain ⟨h0, hs⟩ := xG_of hs
    exact lv_dup hx hb hdg (xOne_of h0) (kk _ _ _ _ _ _ _ _ _ hn hs I)
  · obtain ⟨hl, hs⟩ := xG_of hs
    cases xlen hl
    obtain ⟨v, r, rfl, hs⟩ := xV1_of hs
    obtain ⟨h0, hs⟩ := xG_of hs
    exact lv_pop hx hb hdg (xOne_of h0) (kk _ _ _ _ _ _ _ _ _ hn hs I)
  · obtain ⟨hl, hs⟩ := xG_of hs
    cases xlen hl
    obtain ⟨v, w, r, rfl, hs⟩ := xV2_of hs
    obtain ⟨h0, hs⟩ := xG_of hs
    simp only [Bool.and_eq_true] at h0
    exact lv_dup2_11 hx hb hdg (xOne_of h0.1) (xOne_of h0.2) (kk _ _ _ _ _ _ _ _ _ hn hs I)
  · obtain ⟨hl, hs⟩ := xG_of hs
    cases xlen hl
    obtain ⟨t, ht, hs⟩ := xJ_of hs
    exact lv_goto hx hb hdg ht (kk _ _ _ _ _ _ _ _ _ hn hs I)
theorem xStep_if (C : xCtx p l R s m args meth c0 cc nL D b0 bs cA h E) {i : Instr} (hi : ∃ cd off, i = .ifCond cd off) (hs : xS h E i len pc ls st M c sl k post) (hdg : decode cc pc = .ok (i, len)) (hn : ls.length = nL) (I : xWld D b0 bs cA s M H locs c lsA ls)
    (kk : xGo p l e R s m args below meth c0 Q nL D b0 bs cA k) : W p l e R s m args below meth c0 H locs c sl Q (F0 m pc lsA (st.map (xV b0 bs))) := by
  obtain ⟨hx, hb, hml, hts, hown⟩ := C.1
  obtain ⟨cd, off, rfl⟩ := hi
  obtain ⟨hl, hs⟩ := xG_of hs
  cases xlen hl
  obtain ⟨x, r, rfl, hs⟩ := xI1_of hs
  obtain ⟨t, ht, hs⟩ := xJ_of hs
  have kt : xCmp cd x 0 = true → W p l e R s m args below meth c0 H locs c sl Q (F0 m t lsA (r.map (xV b0 bs))) := fun q => by
    rw [q] at hs; exact kk _ _ _ _ _ _ _ _ _ hn hs I
  have kf : xCmp cd x 0 = false → W p l e R s m args below meth c0 H locs c sl Q (F0 m (pc + 3) lsA (r.map (xV b0 bs))) := fun q => by
    rw [q] at hs; exact kk _ _ _ _ _ _ _ _ _ hn hs I
  cases cd with
  | eq => exact lv_if_eq hx hb hdg ht (fun q => kt (by simp only [xCmp, q, decide_true, decide_false, Bool.not_true, Bool.not_false])) (fun q => kf (by simp only [xCmp, q, decide_true, decide_false, Bool.not_true, Bool.not_false]))
  | ne => exact lv_if_ne hx hb hdg ht (fun q => kt (by simp only [xCmp, q, decide_true, decide_false, Bool.not_true, Bool.not_false])) (fun q => kf (by simp only [xCmp, q, decide_true, decide_false, Bool.not_true, Bool.not_false]))
  | lt => exact lv_if_lt hx hb hdg ht (fun q => kt (by simp only [xCmp, q, decide_true, decide_false, Bool.not_true, Bool.not_false])) (fun q => kf (by simp only [xCmp, q, decide_true, decide_false, Bool.not_true, Bool.not_false]))
  | ge => exact lv_if_ge hx hb hdg ht (fun q => kt (by simp only [xCmp, q, decide_true, decide_false, Bool.not_true, Bool.not_false])) (fun q => kf (by simp only [xCmp, q, decide_true, decide_false, Bool.not_true, Bool.not_false]))
  | gt => exact lv_if_gt hx hb hdg ht (fun q => kt (by simp only [xCmp, q, decide_true, decide_false, Bool.not_true, Bool.not_false])) (fun q => kf (by simp only [xCmp, q, decide_true, decide_false, Bool.not_true, Bool.not_false]))
  | le => exact lv_if_le hx hb hdg ht (fun q => kt (by simp only [xCmp, q, decide_true, decide_false, Bool.not_true, Bool.not_false])) (fun q => kf (by simp only [xCmp, q, decide_true, decide_false, Bool.not_true, Bool.not_false]))
theorem xStep_icmp (C : xCtx p l R s m args meth c0 cc nL D b0 bs cA h E) {i : Instr} (hi : ∃ cd off, i = .if_icmp cd off) (hs : xS h E i len pc ls st M c sl k post) (hdg : decode cc pc = .ok (i, len)) (hn : ls.length = nL) (I : xWld D b0 bs cA s M H locs c lsA ls)
    (kk : xGo p l e R s m args below meth c0 Q nL D b0 bs cA k) : W p l e R s m args below meth c0 H locs c sl Q (F0 m pc lsA (st.map (xV b0 bs))) := by
  obtain ⟨hx, hb, hml, hts, hown⟩ := C.1
  obtain ⟨cd, off, rfl⟩ := hi
  obtain ⟨hl, hs⟩ := xG_of hs
  cases xlen hl
  obtain ⟨x, y, r, rfl, hs⟩ := xI2_of hs
  obtain ⟨t, ht, hs⟩ := xJ_of hs
  have kt : xCmp cd x y = true → W p l e R s m args below meth c0 H locs c sl Q (F0 m t lsA (r.map (xV b0 bs))) := fun q => by
    rw [q] at hs; exact kk _ _ _ _ _ _ _ _ _ hn hs I
  have kf : xCmp cd x y = false → W p l e R s m args below meth c0 H locs c sl Q (F0 m (pc + 3) lsA (r.map (xV b0 bs))) := fun q => by
    rw [q] at hs; exact kk _ _ _ _ _ _ _ _ _ hn hs I
  cases cd with
  | eq => exact lv_icmp_eq hx hb hdg ht (fun q => kt (by simp only [xCmp, q, decide_true, decide_false, Bool.not_true, Bool.not_false])) (fun q => kf (by simp only [xCmp, q, decide_true, decide_false, Bool.not_true, Bool.not_false]))
  | ne => exact lv_icmp_ne hx hb hdg ht (fun q => kt (by simp only [xCmp, q, decide_true, decide_false, Bool.not_true, Bool.not_false])) (fun q => kf (by simp only [xCmp, q, decide_true, decide_false, Bool.not_true, Bool.not_false]))
  | lt => exact lv_icmp_lt hx hb hdg ht (fun q => kt (by simp only [xCmp, q, decide_true, decide_false, Bool.not_true, Bool.not_false])) (fun q => kf (by simp only [xCmp, q, decide_true, decide_false, Bool.not_true, Bool.not_false]))
  | ge => exact lv_icmp_ge hx hb hdg ht (fun q => kt (by simp only [xCmp, q, decide_true, decide_false, Bool.not_true, Bool.not_false])) (fun q => kf (by simp only [xCmp, q, decide_true, decide_false, Bool.not_true, Bool.not_false]))
  | gt => exact lv_icmp_gt hx hb hdg ht (fun q => kt (by simp only [xCmp, q, decide_true, decide_false, Bool.not_true, Bool.not_false])) (fun q => kf (by simp only [xCmp, q, decide_true, decide_false, Bool.not_true, Bool.not_false]))
  | le => exact lv_icmp_le hx hb hdg ht (fun q => kt (by simp only [xCmp, q, decide_true, decide_false, Bool.not_true, Bool.not_false])) (fun q => kf (by simp only [xCmp, q, decide_true, decide_false, Bool.not_true, Bool.not_false]))
theorem xStep_switch (C : xCtx p l R s m args meth c0 cc nL D b0 bs cA h E) {i : Instr} (hi : (∃ d lo hi offs, i = .tableswitch d lo hi offs) ∨ (∃ d ps, i = .lookupswitch d ps)) (hs : xS h E i len pc ls st M c sl k post) (hdg : decode cc pc = .ok (i, len)) (hn : ls.length = nL) (I : xWld D b0 bs cA s M H locs c lsA ls)
    (kk : xGo p l e R s m args below meth c0 Q nL D b0 bs cA k) : W p l e R s m args below meth c0 H locs c sl Q (F0 m pc lsA (st.map (xV b0 bs))) := by
  obtain ⟨hx, hb, hml, hts, hown⟩ := C.1
  rcases hi with ⟨d, lo, hi, offs, rfl⟩ | ⟨d, ps, rfl⟩
  · obtain ⟨x, r, rfl, hs⟩ := xI1_of hs
    rcases xIf_of hs with ⟨q, hs⟩ | ⟨q, hs⟩
    · obtain ⟨t, ht, hs⟩ := xJ_of hs
      exact lv_tableOut hx hb hdg (by simpa using q) ht (kk _ _ _ _ _ _ _ _ _ hn hs I)
    · obtain ⟨off, ho, hs⟩ := xOp_of hs
      obtain ⟨t, ht, hs⟩ := xJ_of hs
      simp only [Bool.or_eq_false_iff, decide_eq_false_iff_not] at q
      exact lv_tableIn hx hb hdg q.1 q.2 ho ht (kk _ _ _ _ _ _ _ _ _ hn hs I)
  · obtain ⟨x, r, rfl, hs⟩ := xI1_of hs
    obtain ⟨q, hs⟩ := xG_of hs
    obtain ⟨t, ht, hs⟩ := xJ_of hs
    exact lv_lookup hx hb hdg (by simpa using q) rfl ht (kk _ _ _ _ _ _ _ _ _ hn hs I)
end XSIM
