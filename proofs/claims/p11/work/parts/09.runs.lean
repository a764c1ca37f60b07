/-! RUNS: what a method comes to (xEx), what a frame comes to (xFx): one answer, one memory behind it. -/
theorem xG_mono {b : Bool} {P Q : Prop} (f : P → Q) : xG b P → xG b Q := by
  cases b with
  | true => exact f
  | false => exact id
theorem xG_in {b : Bool} {P : Prop} (h : b = true) (p : P) : xG b P := by subst h; exact p
theorem xOp_mono {α : Type} {o : Option α} {f g : α → Prop} (h : ∀ x, f x → g x) : xOp o f → xOp o g := by
  cases o with
  | none => exact id
  | some x => exact h x
theorem xJ_mono {pc : Nat} {off : Int} {f g : Nat → Prop} (h : ∀ t, f t → g t) : xJ pc off f → xJ pc off g := by
  unfold xJ
  cases (pc : Int) + off with
  | ofNat t => exact h t
  | negSucc t => exact id
theorem xI1_mono {st : List Value} {f g : Int32 → List Value → Prop} (h : ∀ x r, f x r → g x r) : xI1 st f → xI1 st g := by
  intro q; obtain ⟨x, r, e0, q2⟩ := xI1_of q; subst e0; replace q := q2; exact h _ _ q
theorem xI2_mono {st : List Value} {f g : Int32 → Int32 → List Value → Prop} (h : ∀ x y r, f x y r → g x y r) : xI2 st f → xI2 st g := by
  intro q; obtain ⟨x, y, r, e0, q2⟩ := xI2_of q; subst e0; replace q := q2; exact h _ _ _ q
theorem xL1_mono {st : List Value} {f g : Int64 → List Value → Prop} (h : ∀ x r, f x r → g x r) : xL1 st f → xL1 st g := by
  intro q; obtain ⟨x, r, e0, q2⟩ := xL1_of q; subst e0; replace q := q2; exact h _ _ q
theorem xL2_mono {st : List Value} {f g : Int64 → Int64 → List Value → Prop} (h : ∀ x y r, f x y r → g x y r) : xL2 st f → xL2 st g := by
  intro q; obtain ⟨x, y, r, e0, q2⟩ := xL2_of q; subst e0; replace q := q2; exact h _ _ _ q
theorem xR1_mono {st : List Value} {f g : Nat → List Value → Prop} (h : ∀ x r, f x r → g x r) : xR1 st f → xR1 st g := by
  intro q; obtain ⟨x, r, e0, q2⟩ := xR1_of q; subst e0; replace q := q2; exact h _ _ q
theorem xRI_mono {st : List Value} {f g : Nat → Int32 → List Value → Prop} (h : ∀ a j r, f a j r → g a j r) : xRI st f → xRI st g := by
  intro q; obtain ⟨a, j, r, e0, q2⟩ := xRI_of q; subst e0; replace q := q2; exact h _ _ _ q
theorem xVRI_mono {st : List Value} {f g : Nat → Int32 → Value → List Value → Prop} (h : ∀ a j v r, f a j v r → g a j v r) : xVRI st f → xVRI st g := by
  intro q; obtain ⟨a, j, v, r, e0, q2⟩ := xVRI_of q; subst e0; replace q := q2; exact h _ _ _ _ q
theorem xVR_mono {st : List Value} {f g : Nat → Value → List Value → Prop} (h : ∀ a v r, f a v r → g a v r) : xVR st f → xVR st g := by
  intro q; obtain ⟨a, v, r, e0, q2⟩ := xVR_of q; subst e0; replace q := q2; exact h _ _ _ q
theorem xV1_mono {st : List Value} {f g : Value → List Value → Prop} (h : ∀ v r, f v r → g v r) : xV1 st f → xV1 st g := by
  intro q; obtain ⟨v, r, e0, q2⟩ := xV1_of q; subst e0; replace q := q2; exact h _ _ q
theorem xV2_mono {st : List Value} {f g : Value → Value → List Value → Prop} (h : ∀ v w r, f v w r → g v w r) : xV2 st f → xV2 st g := by
  intro q; obtain ⟨v, w, r, e0, q2⟩ := xV2_of q; subst e0; replace q := q2; exact h _ _ _ q
theorem xLd_mono {ls : xL} {i : Nat} {f g : Value → Prop} (h : ∀ v, f v → g v) : xLd ls i f → xLd ls i g := by
  unfold xLd; split
  · exact h _
  · exact id
theorem xSt1_mono {ls : xL} {i : Nat} {v : Value} {f g : xL → Prop} (h : ∀ l, f l → g l) : xSt1 ls i v f → xSt1 ls i v g := xG_mono (h _)
theorem xSt2_mono {ls : xL} {i : Nat} {v : Value} {f g : xL → Prop} (h : ∀ l, f l → g l) : xSt2 ls i v f → xSt2 ls i v g := xG_mono (h _)
theorem xIf_mono {b : Bool} {P Q P' Q' : Prop} (f : P → P') (g : Q → Q') : xIf b P Q → xIf b P' Q' := by
  cases b with
  | true => exact f
  | false => exact g
theorem xArr_mono {M : xM} {a : Nat} {f g : Nat → Nat → xC → Prop} (h : ∀ t n c, f t n c → g t n c) : xArr M a f → xArr M a g := by
  unfold xArr; split
  · exact h _ _ _
  · exact id
theorem xArI_mono {M : xM} {a : Nat} {f g : Nat → Nat → (Nat → Int32) → Prop} (h : ∀ t n c, f t n c → g t n c) : xArI M a f → xArI M a g := by
  unfold xArI; split
  · exact h _ _ _
  · exact id
theorem xArL_mono {M : xM} {a : Nat} {f g : Nat → Nat → (Nat → Int64) → Prop} (h : ∀ t n c, f t n c → g t n c) : xArL M a f → xArL M a g := by
  unfold xArL; split
  · exact h _ _ _
  · exact id
theorem xArR_mono {M : xM} {a : Nat} {f g : Nat → Nat → (Nat → Option Nat) → Prop} (h : ∀ t n c, f t n c → g t n c) : xArR M a f → xArR M a g := by
  unfold xArR; split
  · exact h _ _ _
  · exact id
theorem xObj_mono {M : xM} {a : Nat} {f g : Nat → List Value → Prop} (h : ∀ ci fs, f ci fs → g ci fs) : xObj M a f → xObj M a g := by
  unfold xObj; split
  · exact h _ _
  · exact id
theorem xObS_mono {M : xM} {a : Nat} {f f' : Nat → List Value → Prop} {g g' : Prop} (h : ∀ ci fs, f ci fs → f' ci fs) (h2 : g → g') : xObS M a f g → xObS M a f' g' := by
  unfold xObS; split
  · exact h _ _
  · exact h2
  · exact id
theorem xCsS_mono {α : Type} {o : Option α} {f f' : α → Prop} {g g' : Prop} (h : ∀ x, f x → f' x) (h2 : g → g') : xCsS o f g → xCsS o f' g' := by
  cases o with
  | none => exact h2
  | some x => exact h x
theorem xCp_mono {st : List Value} {f g : Int32 → Int32 → Nat → Int32 → Nat → List Value → Prop} (h : ∀ n dp a sp a0 r, f n dp a sp a0 r → g n dp a sp a0 r) : xCp st f → xCp st g := by
  intro q; obtain ⟨n, dp, a, sp, a0, r, e0, q2⟩ := xCp_of q; subst e0; replace q := q2; exact h _ _ _ _ _ _ q
theorem xRtI_mono {st : List Value} {f g : Int32 → Prop} (h : ∀ v, f v → g v) : xRtI st f → xRtI st g := by
  intro q; obtain ⟨v, e0, q2⟩ := xRtI_of q; subst e0; replace q := q2; exact h _ q
theorem xRtL_mono {st : List Value} {f g : Int64 → Prop} (h : ∀ v, f v → g v) : xRtL st f → xRtL st g := by
  intro q; obtain ⟨v, e0, q2⟩ := xRtL_of q; subst e0; replace q := q2; exact h _ q
theorem xRtR_mono {st : List Value} {f g : Nat → Prop} (h : ∀ v, f v → g v) : xRtR st f → xRtR st g := by
  intro q; obtain ⟨v, e0, q2⟩ := xRtR_of q; subst e0; replace q := q2; exact h _ q
theorem xRtV_mono {st : List Value} {P Q : Prop} (h : P → Q) : xRtV st P → xRtV st Q := by
  intro q; obtain ⟨e0, q2⟩ := xRtV_of q; subst e0; replace q := q2; exact h q
theorem xArgs_mono {n : Nat} {st : List Value} {f g : List Value → List Value → Prop} (h : ∀ a r, f a r → g a r) : xArgs n st f → xArgs n st g := xG_mono (h _ _)
def xLe (E E' : xEv) : Prop := ∀ (z : Nat) (as : List Value) (M : xM) (p q : xPost), (∀ v M', p v M' → q v M') → E z as M p → E' z as M q
section XMON
variable {h : xH} {E E' : xEv} {len pc : Nat} {ls : xL} {st : List Value} {M : xM} {c s : Nat} {k k' : xK} {post post' : xPost}
theorem xInv_mono {z virt : Nat} (hE : xLe E E') (hk : ∀ pc ls st M c s, k pc ls st M c s → k' pc ls st M c s) : xInv h E z virt pc ls st M c s k → xInv h E' z virt pc ls st M c s k' :=
  xOp_mono fun _ => xG_mono (xArgs_mono fun _ _ => xR1_mono fun _ _ => xG_mono (xObS_mono (fun _ _ => xG_mono (hE _ _ _ _ _ fun _ _ => hk _ _ _ _ _ _)) (xG_mono (hE _ _ _ _ _ fun _ _ => hk _ _ _ _ _ _))))
theorem xInvS_mono {i : Nat} (hE : xLe E E') (hk : ∀ pc ls st M c s, k pc ls st M c s → k' pc ls st M c s) : xInvS h E i pc ls st M c s k → xInvS h E' i pc ls st M c s k' :=
  xOp_mono fun _ => xOp_mono fun _ => xG_mono (xArgs_mono fun _ _ => xG_mono (hE _ _ _ _ _ fun _ _ => hk _ _ _ _ _ _))
theorem xS_mono {i : Instr} (hE : xLe E E') (hk : ∀ pc ls st M c s, k pc ls st M c s → k' pc ls st M c s) (hp : ∀ v M, post v M → post' v M) : xS h E i len pc ls st M c s k post → xS h E' i len pc ls st M c s k' post' := by
  cases i with
  | aload n => exact xG_mono (xLd_mono fun _ => xR1_mono fun _ _ => hk _ _ _ _ _ _)
  | aload_n n => exact xG_mono (xLd_mono fun _ => xR1_mono fun _ _ => hk _ _ _ _ _ _)
  | iload n => exact xG_mono (xLd_mono fun _ => xI1_mono fun _ _ => hk _ _ _ _ _ _)
  | iload_n n => exact xG_mono (xLd_mono fun _ => xI1_mono fun _ _ => hk _ _ _ _ _ _)
  | lload n => exact xG_mono (xLd_mono fun _ => xL1_mono fun _ _ => hk _ _ _ _ _ _)
  | lload_n n => exact xG_mono (xLd_mono fun _ => xL1_mono fun _ _ => hk _ _ _ _ _ _)
  | astore n => exact xG_mono (xR1_mono fun _ _ => xSt1_mono fun _ => hk _ _ _ _ _ _)
  | astore_n n => exact xG_mono (xR1_mono fun _ _ => xSt1_mono fun _ => hk _ _ _ _ _ _)
  | istore n => exact xG_mono (xI1_mono fun _ _ => xSt1_mono fun _ => hk _ _ _ _ _ _)
  | istore_n n => exact xG_mono (xI1_mono fun _ _ => xSt1_mono fun _ => hk _ _ _ _ _ _)
  | lstore n => exact xG_mono (xL1_mono fun _ _ => xSt2_mono fun _ => hk _ _ _ _ _ _)
  | lstore_n n => exact xG_mono (xL1_mono fun _ _ => xSt2_mono fun _ => hk _ _ _ _ _ _)
  | iinc n z => exact xG_mono (xLd_mono fun _ => xI1_mono fun _ _ => xSt1_mono fun _ => hk _ _ _ _ _ _)
  | iconst n => exact xG_mono (hk _ _ _ _ _ _)
  | bipush n => exact xG_mono (hk _ _ _ _ _ _)
  | sipush n => exact xG_mono (hk _ _ _ _ _ _)
  | lconst n => exact xG_mono (hk _ _ _ _ _ _)
  | ldc n => exact xG_mono (xCsS_mono (fun _ => hk _ _ _ _ _ _) (xG_mono (hk _ _ _ _ _ _)))
  | ldc_w n => exact xG_mono (xOp_mono fun _ => hk _ _ _ _ _ _)
  | ldc2_w n => exact xG_mono (xOp_mono fun _ => hk _ _ _ _ _ _)
  | iadd => exact xG_mono (xOp_mono fun _ => xI2_mono fun _ _ _ => hk _ _ _ _ _ _)
  | isub => exact xG_mono (xOp_mono fun _ => xI2_mono fun _ _ _ => hk _ _ _ _ _ _)
  | imul => exact xG_mono (xOp_mono fun _ => xI2_mono fun _ _ _ => hk _ _ _ _ _ _)
  | iand => exact xG_mono (xOp_mono fun _ => xI2_mono fun _ _ _ => hk _ _ _ _ _ _)
  | ior => exact xG_mono (xOp_mono fun _ => xI2_mono fun _ _ _ => hk _ _ _ _ _ _)
  | ixor => exact xG_mono (xOp_mono fun _ => xI2_mono fun _ _ _ => hk _ _ _ _ _ _)
  | ishl => exact xG_mono (xOp_mono fun _ => xI2_mono fun _ _ _ => hk _ _ _ _ _ _)
  | ishr => exact xG_mono (xOp_mono fun _ => xI2_mono fun _ _ _ => hk _ _ _ _ _ _)
  | iushr => exact xG_mono (xOp_mono fun _ => xI2_mono fun _ _ _ => hk _ _ _ _ _ _)
  | idiv => exact xG_mono (xI2_mono fun _ _ _ => xG_mono (hk _ _ _ _ _ _))
  | irem => exact xG_mono (xI2_mono fun _ _ _ => xG_mono (hk _ _ _ _ _ _))
  | ineg => exact xG_mono (xI1_mono fun _ _ => hk _ _ _ _ _ _)
  | i2l => exact xG_mono (xI1_mono fun _ _ => hk _ _ _ _ _ _)
  | i2b => exact xG_mono (xI1_mono fun _ _ => hk _ _ _ _ _ _)
  | i2c => exact xG_mono (xI1_mono fun _ _ => hk _ _ _ _ _ _)
  | l2i => exact xG_mono (xL1_mono fun _ _ => hk _ _ _ _ _ _)
  | ladd => exact xG_mono (xL2_mono fun _ _ _ => hk _ _ _ _ _ _)
  | lsub => exact xG_mono (xL2_mono fun _ _ _ => hk _ _ _ _ _ _)
  | lmul => exact xG_mono (xL2_mono fun _ _ _ => hk _ _ _ _ _ _)
  | ldiv => exact xG_mono (xL2_mono fun _ _ _ => xG_mono (hk _ _ _ _ _ _))
  | lneg => exact xG_mono (xL1_mono fun _ _ => hk _ _ _ _ _ _)
  | lcmp => exact xG_mono (xL2_mono fun _ _ _ => hk _ _ _ _ _ _)
  | dup => exact xG_mono (xV1_mono fun _ _ => xG_mono (hk _ _ _ _ _ _))
  | pop => exact xG_mono (xV1_mono fun _ _ => xG_mono (hk _ _ _ _ _ _))
  | dup2 => exact xG_mono (xV2_mono fun _ _ _ => xG_mono (hk _ _ _ _ _ _))
  | goto off => exact xG_mono (xJ_mono fun _ => hk _ _ _ _ _ _)
  | ifCond cd off => exact xG_mono (xI1_mono fun _ _ => xJ_mono fun _ => xIf_mono (hk _ _ _ _ _ _) (hk _ _ _ _ _ _))
  | if_icmp cd off => exact xG_mono (xI2_mono fun _ _ _ => xJ_mono fun _ => xIf_mono (hk _ _ _ _ _ _) (hk _ _ _ _ _ _))
  | tableswitch d lo hi offs => exact xI1_mono fun _ _ => xIf_mono (xJ_mono fun _ => hk _ _ _ _ _ _) (xOp_mono fun _ => xJ_mono fun _ => hk _ _ _ _ _ _)
  | lookupswitch d ps => exact xI1_mono fun _ _ => xG_mono (xJ_mono fun _ => hk _ _ _ _ _ _)
  | iaload => exact xG_mono (xRI_mono fun _ _ _ => xIf_mono (xOp_mono fun _ => xG_mono (hk _ _ _ _ _ _)) (xArI_mono fun _ _ _ => xG_mono (hk _ _ _ _ _ _)))
  | baload => exact xG_mono (xRI_mono fun _ _ _ => xArI_mono fun _ _ _ => xG_mono (hk _ _ _ _ _ _))
  | laload => exact xG_mono (xRI_mono fun _ _ _ => xArL_mono fun _ _ _ => xG_mono (hk _ _ _ _ _ _))
  | aaload => exact xG_mono (xRI_mono fun _ _ _ => xArR_mono fun _ _ _ => xG_mono (xOp_mono fun _ => hk _ _ _ _ _ _))
  | iastore => exact xG_mono (xVRI_mono fun _ _ _ _ => xI1_mono fun _ _ => xArI_mono fun _ _ _ => xG_mono (hk _ _ _ _ _ _))
  | bastore => exact xG_mono (xVRI_mono fun _ _ _ _ => xI1_mono fun _ _ => xArI_mono fun _ _ _ => xG_mono (hk _ _ _ _ _ _))
  | lastore => exact xG_mono (xVRI_mono fun _ _ _ _ => xL1_mono fun _ _ => xArL_mono fun _ _ _ => xG_mono (hk _ _ _ _ _ _))
  | aastore => exact xG_mono (xVRI_mono fun _ _ _ _ => xR1_mono fun _ _ => xArR_mono fun _ _ _ => xObj_mono fun _ _ => xG_mono (hk _ _ _ _ _ _))
  | arraylength => exact xG_mono (xR1_mono fun _ _ => xIf_mono (xOp_mono fun _ => hk _ _ _ _ _ _) (xArr_mono fun _ _ _ => xG_mono (hk _ _ _ _ _ _)))
  | getfield ix => exact xG_mono (xR1_mono fun _ _ => xOp_mono fun _ => xObj_mono fun _ _ => xG_mono (xOp_mono fun _ => hk _ _ _ _ _ _))
  | putfield ix => exact xG_mono (xVR_mono fun _ _ _ => xOp_mono fun _ => xObj_mono fun _ _ => xG_mono (hk _ _ _ _ _ _))
  | new ix => exact xG_mono (xOp_mono fun _ => xG_mono (hk _ _ _ _ _ _))
  | newarray ty => exact xG_mono (xI1_mono fun _ _ => xOp_mono fun _ => xG_mono (hk _ _ _ _ _ _))
  | anewarray ix => exact xG_mono (xI1_mono fun _ _ => xOp_mono fun _ => xOp_mono fun _ => xG_mono (hk _ _ _ _ _ _))
  | invokevirtual ix => exact xG_mono (xOp_mono fun _ => xInv_mono hE hk)
  | invokestatic ix => exact xG_mono (xOp_mono fun _ => xIf_mono (xI2_mono fun _ _ _ => xG_mono (hk _ _ _ _ _ _)) (xIf_mono (xI2_mono fun _ _ _ => xG_mono (hk _ _ _ _ _ _)) (xIf_mono (xL2_mono fun _ _ _ => xG_mono (hk _ _ _ _ _ _)) (xIf_mono (xL2_mono fun _ _ _ => xG_mono (hk _ _ _ _ _ _)) (xIf_mono (xCp_mono fun _ _ _ _ _ _ => xG_mono (xArI_mono fun _ _ _ => xArI_mono fun _ _ _ => xG_mono (hk _ _ _ _ _ _))) (xInvS_mono hE hk))))))
  | invokespecial ix => exact xG_mono (xIf_mono (xOp_mono fun _ => xInv_mono hE hk) (xOp_mono fun _ => xIf_mono (xR1_mono fun _ _ => xG_mono (hk _ _ _ _ _ _)) (xInv_mono hE hk)))
  | ireturn => exact xG_mono (xRtI_mono fun _ => xG_mono (hp _ _))
  | lreturn => exact xG_mono (xRtL_mono fun _ => xG_mono (hp _ _))
  | areturn => exact xG_mono (xRtR_mono fun _ => xG_mono (hp _ _))
  | return_ => exact xG_mono (xRtV_mono (xG_mono (hp _ _)))
  | _ => exact id
end XMON
theorem xF_mono {h : xH} {cc : ByteArray} {E E' : xEv} {post post' : xPost} (hE : xLe E E') (hp : ∀ v M, post v M → post' v M) : ∀ (n n' : Nat) (pc : Nat) (ls : xL) (st : List Value) (M : xM) (c s : Nat), n ≤ n' → xF h cc E n pc ls st M c s post → xF h cc E' n' pc ls st M c s post' := by
  intro n
  induction n with
  | zero => intro n' pc ls st M c s hn hs; exact hs.elim
  | succ n ih =>
    intro n' pc ls st M c s hn hs
    obtain ⟨n', rfl⟩ : ∃ q, n' = q + 1 := ⟨n' - 1, by omega⟩
    unfold xF at hs ⊢
    split at hs
    · exact xS_mono hE (fun pc ls st M c s => ih n' pc ls st M c s (by omega)) hp hs
    · exact hs.elim
theorem xStrI_mono {d d' z : Nat} {as : List Value} {M : xM} {p q : xPost} (hd : d ≤ d') (hpq : ∀ v M', p v M' → q v M') : xStrI d z as M p → xStrI d' z as M q := by
  intro h
  unfold xStrI at h ⊢
  split at h
  · obtain ⟨g, h⟩ := xG_of h
    simp only [Bool.and_eq_true, decide_eq_true_eq] at g
    refine xG_in ?_ (hpq _ _ h)
    simp only [Bool.and_eq_true, decide_eq_true_eq]
    exact ⟨g.1, g.2.1, Nat.le_trans g.2.2 hd⟩
  · obtain ⟨g, h⟩ := xG_of h
    simp only [Bool.and_eq_true, decide_eq_true_eq] at g
    refine xG_in ?_ (hpq _ _ h)
    simp only [Bool.and_eq_true, decide_eq_true_eq]
    exact ⟨g.1, g.2.1, Nat.le_trans g.2.2.1 hd, g.2.2.2⟩
  · exact h.elim
theorem xW_mono : ∀ (d d' N N' : Nat), d ≤ d' → N ≤ N' → xLe (xW N d) (xW N' d') := by
  intro d
  induction d with
  | zero => intro d' N N' hd hN z as M p q hpq hs; exact hs.elim
  | succ d ih =>
    intro d' N N' hd hN z as M p q hpq hs
    obtain ⟨d', rfl⟩ : ∃ x, d' = x + 1 := ⟨d' - 1, by omega⟩
    exact xIf_mono (xStrI_mono (by omega) hpq) (xOp_mono (fun _ => xG_mono (xF_mono (ih d' N N' (by omega) hN) hpq N N' _ _ _ _ _ _ hN))) hs
/-- method z with these arguments over memory M comes to answer v and memory M', its calls less than d deep -/
def xEx (d z : Nat) (as : List Value) (M : xM) (v : Option Value) (M' : xM) : Prop := ∃ N, xW N d z as M (fun v' M'' => v' = v ∧ M'' = M')
/-- a frame, with calls less than d deep, comes to answer v and memory M' -/
def xFx (h : xH) (cc : ByteArray) (d pc : Nat) (ls : xL) (st : List Value) (M : xM) (c s : Nat) (v : Option Value) (M' : xM) : Prop := ∃ N n, xF h cc (xW N d) n pc ls st M c s (fun v' M'' => v' = v ∧ M'' = M')
/-- calls by what they come to -/
def xC1 (d : Nat) : xEv := fun z as M p => ∃ v M', xEx d z as M v M' ∧ p v M'
/-! the ways of a step, one of which is taken: 'there is an m' goes through -/
theorem xG_ex {b : Bool} {P : Prop} {Q : Nat → Prop} (f : P → ∃ m, Q m) : xG b P → ∃ m, xG b (Q m) := by
  intro h
  obtain ⟨hb, h⟩ := xG_of h
  subst hb
  exact f h
theorem xOp_ex {α : Type} {o : Option α} {f : α → Prop} {g : Nat → α → Prop} (h : ∀ x, f x → ∃ m, g m x) : xOp o f → ∃ m, xOp o (g m) := by
  intro q; obtain ⟨x, e0, q2⟩ := xOp_of q; subst e0; replace q := q2; exact h x q
theorem xJ_ex {pc : Nat} {off : Int} {f : Nat → Prop} {g : Nat → Nat → Prop} (h : ∀ t, f t → ∃ m, g m t) : xJ pc off f → ∃ m, xJ pc off (g m) := by
  unfold xJ
  cases (pc : Int) + off with
  | ofNat t => exact h t
  | negSucc t => exact fun q => q.elim
theorem xI1_ex {st : List Value} {f : Int32 → List Value → Prop} {g : Nat → Int32 → List Value → Prop} (h : ∀ x r, f x r → ∃ m, g m x r) : xI1 st f → ∃ m, xI1 st (g m) := by
  intro q; obtain ⟨x, r, e0, q2⟩ := xI1_of q; subst e0; replace q := q2; exact h _ _ q
theorem xI2_ex {st : List Value} {f : Int32 → Int32 → List Value → Prop} {g : Nat → Int32 → Int32 → List Value → Prop} (h : ∀ x y r, f x y r → ∃ m, g m x y r) : xI2 st f → ∃ m, xI2 st (g m) := by
  intro q; obtain ⟨x, y, r, e0, q2⟩ := xI2_of q; subst e0; replace q := q2; exact h _ _ _ q
theorem xL1_ex {st : List Value} {f : Int64 → List Value → Prop} {g : Nat → Int64 → List Value → Prop} (h : ∀ x r, f x r → ∃ m, g m x r) : xL1 st f → ∃ m, xL1 st (g m) := by
  intro q; obtain ⟨x, r, e0, q2⟩ := xL1_of q; subst e0; replace q := q2; exact h _ _ q
theorem xL2_ex {st : List Value} {f : Int64 → Int64 → List Value → Prop} {g : Nat → Int64 → Int64 → List Value → Prop} (h : ∀ x y r, f x y r → ∃ m, g m x y r) : xL2 st f → ∃ m, xL2 st (g m) := by
  intro q; obtain ⟨x, y, r, e0, q2⟩ := xL2_of q; subst e0; replace q := q2; exact h _ _ _ q
theorem xR1_ex {st : List Value} {f : Nat → List Value → Prop} {g : Nat → Nat → List Value → Prop} (h : ∀ x r, f x r → ∃ m, g m x r) : xR1 st f → ∃ m, xR1 st (g m) := by
  intro q; obtain ⟨x, r, e0, q2⟩ := xR1_of q; subst e0; replace q := q2; exact h _ _ q
theorem xRI_ex {st : List Value} {f : Nat → Int32 → List Value → Prop} {g : Nat → Nat → Int32 → List Value → Prop} (h : ∀ a j r, f a j r → ∃ m, g m a j r) : xRI st f → ∃ m, xRI st (g m) := by
  intro q; obtain ⟨a, j, r, e0, q2⟩ := xRI_of q; subst e0; replace q := q2; exact h _ _ _ q
theorem xVRI_ex {st : List Value} {f : Nat → Int32 → Value → List Value → Prop} {g : Nat → Nat → Int32 → Value → List Value → Prop} (h : ∀ a j v r, f a j v r → ∃ m, g m a j v r) : xVRI st f → ∃ m, xVRI st (g m) := by
  intro q; obtain ⟨a, j, v, r, e0, q2⟩ := xVRI_of q; subst e0; replace q := q2; exact h _ _ _ _ q
theorem xVR_ex {st : List Value} {f : Nat → Value → List Value → Prop} {g : Nat → Nat → Value → List Value → Prop} (h : ∀ a v r, f a v r → ∃ m, g m a v r) : xVR st f → ∃ m, xVR st (g m) := by
  intro q; obtain ⟨a, v, r, e0, q2⟩ := xVR_of q; subst e0; replace q := q2; exact h _ _ _ q
theorem xV1_ex {st : List Value} {f : Value → List Value → Prop} {g : Nat → Value → List Value → Prop} (h : ∀ v r, f v r → ∃ m, g m v r) : xV1 st f → ∃ m, xV1 st (g m) := by
  intro q; obtain ⟨v, r, e0, q2⟩ := xV1_of q; subst e0; replace q := q2; exact h _ _ q
theorem xV2_ex {st : List Value} {f : Value → Value → List Value → Prop} {g : Nat → Value → Value → List Value → Prop} (h : ∀ v w r, f v w r → ∃ m, g m v w r) : xV2 st f → ∃ m, xV2 st (g m) := by
  intro q; obtain ⟨v, w, r, e0, q2⟩ := xV2_of q; subst e0; replace q := q2; exact h _ _ _ q
theorem xCp_ex {st : List Value} {f : Int32 → Int32 → Nat → Int32 → Nat → List Value → Prop} {g : Nat → Int32 → Int32 → Nat → Int32 → Nat → List Value → Prop} (h : ∀ n dp a sp a0 r, f n dp a sp a0 r → ∃ m, g m n dp a sp a0 r) : xCp st f → ∃ m, xCp st (g m) := by
  intro q; obtain ⟨n, dp, a, sp, a0, r, e0, q2⟩ := xCp_of q; subst e0; replace q := q2; exact h _ _ _ _ _ _ q
theorem xRtI_ex {st : List Value} {f : Int32 → Prop} {g : Nat → Int32 → Prop} (h : ∀ v, f v → ∃ m, g m v) : xRtI st f → ∃ m, xRtI st (g m) := by
  intro q; obtain ⟨v, e0, q2⟩ := xRtI_of q; subst e0; replace q := q2; exact h _ q
theorem xRtL_ex {st : List Value} {f : Int64 → Prop} {g : Nat → Int64 → Prop} (h : ∀ v, f v → ∃ m, g m v) : xRtL st f → ∃ m, xRtL st (g m) := by
  intro q; obtain ⟨v, e0, q2⟩ := xRtL_of q; subst e0; replace q := q2; exact h _ q
theorem xRtR_ex {st : List Value} {f : Nat → Prop} {g : Nat → Nat → Prop} (h : ∀ v, f v → ∃ m, g m v) : xRtR st f → ∃ m, xRtR st (g m) := by
  intro q; obtain ⟨v, e0, q2⟩ := xRtR_of q; subst e0; replace q := q2; exact h _ q
theorem xRtV_ex {st : List Value} {P : Prop} {Q : Nat → Prop} (h : P → ∃ m, Q m) : xRtV st P → ∃ m, xRtV st (Q m) := by
  intro q; obtain ⟨e0, q2⟩ := xRtV_of q; subst e0; replace q := q2; exact h q
theorem xLd_ex {ls : xL} {i : Nat} {f : Value → Prop} {g : Nat → Value → Prop} (h : ∀ v, f v → ∃ m, g m v) : xLd ls i f → ∃ m, xLd ls i (g m) := by
  intro q
  obtain ⟨v, hv, q⟩ := xLd_of q
  obtain ⟨m, q⟩ := h v q
  exact ⟨m, by unfold xLd; rw [hv]; exact q⟩
theorem xSt1_ex {ls : xL} {i : Nat} {v : Value} {f : xL → Prop} {g : Nat → xL → Prop} (h : ∀ l, f l → ∃ m, g m l) : xSt1 ls i v f → ∃ m, xSt1 ls i v (g m) := xG_ex (h _)
theorem xSt2_ex {ls : xL} {i : Nat} {v : Value} {f : xL → Prop} {g : Nat → xL → Prop} (h : ∀ l, f l → ∃ m, g m l) : xSt2 ls i v f → ∃ m, xSt2 ls i v (g m) := xG_ex (h _)
theorem xArgs_ex {n : Nat} {st : List Value} {f : List Value → List Value → Prop} {g : Nat → List Value → List Value → Prop} (h : ∀ a r, f a r → ∃ m, g m a r) : xArgs n st f → ∃ m, xArgs n st (g m) := xG_ex (h _ _)
theorem xIf_ex {b : Bool} {P Q : Prop} {P' Q' : Nat → Prop} (f : P → ∃ m, P' m) (g : Q → ∃ m, Q' m) : xIf b P Q → ∃ m, xIf b (P' m) (Q' m) := by
  cases b with
  | true => exact f
  | false => exact g
theorem xArr_ex {M : xM} {a : Nat} {f : Nat → Nat → xC → Prop} {g : Nat → Nat → Nat → xC → Prop} (h : ∀ t n c, f t n c → ∃ m, g m t n c) : xArr M a f → ∃ m, xArr M a (g m) := by
  intro q
  obtain ⟨t, n, c, hM, q⟩ := xArr_of q
  obtain ⟨m, q⟩ := h t n c q
  exact ⟨m, by unfold xArr; rw [hM]; exact q⟩
theorem xArI_ex {M : xM} {a : Nat} {f : Nat → Nat → (Nat → Int32) → Prop} {g : Nat → Nat → Nat → (Nat → Int32) → Prop} (h : ∀ t n c, f t n c → ∃ m, g m t n c) : xArI M a f → ∃ m, xArI M a (g m) := by
  intro q
  obtain ⟨t, n, c, hM, q⟩ := xArI_of q
  obtain ⟨m, q⟩ := h t n c q
  exact ⟨m, by unfold xArI; rw [hM]; exact q⟩
theorem xArL_ex {M : xM} {a : Nat} {f : Nat → Nat → (Nat → Int64) → Prop} {g : Nat → Nat → Nat → (Nat → Int64) → Prop} (h : ∀ t n c, f t n c → ∃ m, g m t n c) : xArL M a f → ∃ m, xArL M a (g m) := by
  intro q
  obtain ⟨t, n, c, hM, q⟩ := xArL_of q
  obtain ⟨m, q⟩ := h t n c q
  exact ⟨m, by unfold xArL; rw [hM]; exact q⟩
theorem xArR_ex {M : xM} {a : Nat} {f : Nat → Nat → (Nat → Option Nat) → Prop} {g : Nat → Nat → Nat → (Nat → Option Nat) → Prop} (h : ∀ t n c, f t n c → ∃ m, g m t n c) : xArR M a f → ∃ m, xArR M a (g m) := by
  intro q
  obtain ⟨t, n, c, hM, q⟩ := xArR_of q
  obtain ⟨m, q⟩ := h t n c q
  exact ⟨m, by unfold xArR; rw [hM]; exact q⟩
theorem xObj_ex {M : xM} {a : Nat} {f : Nat → List Value → Prop} {g : Nat → Nat → List Value → Prop} (h : ∀ ci fs, f ci fs → ∃ m, g m ci fs) : xObj M a f → ∃ m, xObj M a (g m) := by
  intro q
  obtain ⟨t, n, hM, q⟩ := xObj_of q
  obtain ⟨m, q⟩ := h t n q
  exact ⟨m, by unfold xObj; rw [hM]; exact q⟩
theorem xObS_ex {M : xM} {a : Nat} {f : Nat → List Value → Prop} {g : Nat → Nat → List Value → Prop} {P : Prop} {Q : Nat → Prop} (h : ∀ ci fs, f ci fs → ∃ m, g m ci fs) (h2 : P → ∃ m, Q m) : xObS M a f P → ∃ m, xObS M a (g m) (Q m) := by
  intro q
  unfold xObS at q ⊢
  split at q
  · exact h _ _ q
  · exact h2 q
  · exact q.elim
theorem xCsS_ex {α : Type} {o : Option α} {f : α → Prop} {g : Nat → α → Prop} {P : Prop} {Q : Nat → Prop} (h : ∀ x, f x → ∃ m, g m x) (h2 : P → ∃ m, Q m) : xCsS o f P → ∃ m, xCsS o (g m) (Q m) := by
  cases o with
  | none => exact h2
  | some x => exact h x
/-- monotone in m -/
def xMo (k : Nat → xK) : Prop := ∀ (m m' : Nat) (pc : Nat) (ls : xL) (st : List Value) (M : xM) (c s : Nat), m ≤ m' → k m pc ls st M c s → k m' pc ls st M c s
theorem xC1_ex {d z : Nat} {as : List Value} {M : xM} {p : Nat → xPost} (hp : ∀ m m' v M', m ≤ m' → p m v M' → p m' v M') (h : xC1 d z as M (fun v M' => ∃ m, p m v M')) : ∃ m, xW m d z as M (p m) := by
  obtain ⟨v, M', ⟨N, hw⟩, m, hm⟩ := h
  refine ⟨N + m, xW_mono d d N (N + m) (Nat.le_refl _) (by omega) z as M _ _ (fun v' M'' q => ?_) hw⟩
  obtain ⟨rfl, rfl⟩ := q
  exact hp m _ _ _ (by omega) hm
section XEX
variable {h : xH} {d len pc : Nat} {ls : xL} {st : List Value} {M : xM} {c s : Nat} {k : Nat → xK} {post : xPost}
theorem xInv_ex {z virt : Nat} (hk : xMo k) : xInv h (xC1 d) z virt pc ls st M c s (fun pc ls st M c s => ∃ m, k m pc ls st M c s) → ∃ m, xInv h (xW m d) z virt pc ls st M c s (k m) :=
  xOp_ex fun _ => xG_ex (xArgs_ex fun _ _ => xR1_ex fun _ _ => xG_ex (xObS_ex (fun _ _ => xG_ex (xC1_ex fun _ _ _ _ hm q => hk _ _ _ _ _ _ _ _ hm q)) (xG_ex (xC1_ex fun _ _ _ _ hm q => hk _ _ _ _ _ _ _ _ hm q))))
theorem xInvS_ex {i : Nat} (hk : xMo k) : xInvS h (xC1 d) i pc ls st M c s (fun pc ls st M c s => ∃ m, k m pc ls st M c s) → ∃ m, xInvS h (xW m d) i pc ls st M c s (k m) :=
  xOp_ex fun _ => xOp_ex fun _ => xG_ex (xArgs_ex fun _ _ => xG_ex (xC1_ex fun _ _ _ _ hm q => hk _ _ _ _ _ _ _ _ hm q))
theorem xS_ex {i : Instr} (hk : xMo k) : xS h (xC1 d) i len pc ls st M c s (fun pc ls st M c s => ∃ m, k m pc ls st M c s) post → ∃ m, xS h (xW m d) i len pc ls st M c s (k m) post := by
  cases i with
  | aload n => exact xG_ex (xLd_ex fun _ => xR1_ex fun _ _ => id)
  | aload_n n => exact xG_ex (xLd_ex fun _ => xR1_ex fun _ _ => id)
  | iload n => exact xG_ex (xLd_ex fun _ => xI1_ex fun _ _ => id)
  | iload_n n => exact xG_ex (xLd_ex fun _ => xI1_ex fun _ _ => id)
  | lload n => exact xG_ex (xLd_ex fun _ => xL1_ex fun _ _ => id)
  | lload_n n => exact xG_ex (xLd_ex fun _ => xL1_ex fun _ _ => id)
  | astore n => exact xG_ex (xR1_ex fun _ _ => xSt1_ex fun _ => id)
  | astore_n n => exact xG_ex (xR1_ex fun _ _ => xSt1_ex fun _ => id)
  | istore n => exact xG_ex (xI1_ex fun _ _ => xSt1_ex fun _ => id)
  | istore_n n => exact xG_ex (xI1_ex fun _ _ => xSt1_ex fun _ => id)
  | lstore n => exact xG_ex (xL1_ex fun _ _ => xSt2_ex fun _ => id)
  | lstore_n n => exact xG_ex (xL1_ex fun _ _ => xSt2_ex fun _ => id)
  | iinc n z => exact xG_ex (xLd_ex fun _ => xI1_ex fun _ _ => xSt1_ex fun _ => id)
  | iconst n => exact xG_ex (id)
  | bipush n => exact xG_ex (id)
  | sipush n => exact xG_ex (id)
  | lconst n => exact xG_ex (id)
  | ldc n => exact xG_ex (xCsS_ex (fun _ => id) (xG_ex id))
  | ldc_w n => exact xG_ex (xOp_ex fun _ => id)
  | ldc2_w n => exact xG_ex (xOp_ex fun _ => id)
  | iadd => exact xG_ex (xOp_ex fun _ => xI2_ex fun _ _ _ => id)
  | isub => exact xG_ex (xOp_ex fun _ => xI2_ex fun _ _ _ => id)
  | imul => exact xG_ex (xOp_ex fun _ => xI2_ex fun _ _ _ => id)
  | iand => exact xG_ex (xOp_ex fun _ => xI2_ex fun _ _ _ => id)
  | ior => exact xG_ex (xOp_ex fun _ => xI2_ex fun _ _ _ => id)
  | ixor => exact xG_ex (xOp_ex fun _ => xI2_ex fun _ _ _ => id)
  | ishl => exact xG_ex (xOp_ex fun _ => xI2_ex fun _ _ _ => id)
  | ishr => exact xG_ex (xOp_ex fun _ => xI2_ex fun _ _ _ => id)
  | iushr => exact xG_ex (xOp_ex fun _ => xI2_ex fun _ _ _ => id)
  | idiv => exact xG_ex (xI2_ex fun _ _ _ => xG_ex (id))
  | irem => exact xG_ex (xI2_ex fun _ _ _ => xG_ex (id))
  | ineg => exact xG_ex (xI1_ex fun _ _ => id)
  | i2l => exact xG_ex (xI1_ex fun _ _ => id)
  | i2b => exact xG_ex (xI1_ex fun _ _ => id)
  | i2c => exact xG_ex (xI1_ex fun _ _ => id)
  | l2i => exact xG_ex (xL1_ex fun _ _ => id)
  | ladd => exact xG_ex (xL2_ex fun _ _ _ => id)
  | lsub => exact xG_ex (xL2_ex fun _ _ _ => id)
  | lmul => exact xG_ex (xL2_ex fun _ _ _ => id)
  | ldiv => exact xG_ex (xL2_ex fun _ _ _ => xG_ex (id))
  | lneg => exact xG_ex (xL1_ex fun _ _ => id)
  | lcmp => exact xG_ex (xL2_ex fun _ _ _ => id)
  | dup => exact xG_ex (xV1_ex fun _ _ => xG_ex (id))
  | pop => exact xG_ex (xV1_ex fun _ _ => xG_ex (id))
  | dup2 => exact xG_ex (xV2_ex fun _ _ _ => xG_ex (id))
  | goto off => exact xG_ex (xJ_ex fun _ => id)
  | ifCond cd off => exact xG_ex (xI1_ex fun _ _ => xJ_ex fun _ => xIf_ex (id) (id))
  | if_icmp cd off => exact xG_ex (xI2_ex fun _ _ _ => xJ_ex fun _ => xIf_ex (id) (id))
  | tableswitch d lo hi offs => exact xI1_ex fun _ _ => xIf_ex (xJ_ex fun _ => id) (xOp_ex fun _ => xJ_ex fun _ => id)
  | lookupswitch d ps => exact xI1_ex fun _ _ => xG_ex (xJ_ex fun _ => id)
  | iaload => exact xG_ex (xRI_ex fun _ _ _ => xIf_ex (xOp_ex fun _ => xG_ex (id)) (xArI_ex fun _ _ _ => xG_ex (id)))
  | baload => exact xG_ex (xRI_ex fun _ _ _ => xArI_ex fun _ _ _ => xG_ex (id))
  | laload => exact xG_ex (xRI_ex fun _ _ _ => xArL_ex fun _ _ _ => xG_ex (id))
  | aaload => exact xG_ex (xRI_ex fun _ _ _ => xArR_ex fun _ _ _ => xG_ex (xOp_ex fun _ => id))
  | iastore => exact xG_ex (xVRI_ex fun _ _ _ _ => xI1_ex fun _ _ => xArI_ex fun _ _ _ => xG_ex (id))
  | bastore => exact xG_ex (xVRI_ex fun _ _ _ _ => xI1_ex fun _ _ => xArI_ex fun _ _ _ => xG_ex (id))
  | lastore => exact xG_ex (xVRI_ex fun _ _ _ _ => xL1_ex fun _ _ => xArL_ex fun _ _ _ => xG_ex (id))
  | aastore => exact xG_ex (xVRI_ex fun _ _ _ _ => xR1_ex fun _ _ => xArR_ex fun _ _ _ => xObj_ex fun _ _ => xG_ex (id))
  | arraylength => exact xG_ex (xR1_ex fun _ _ => xIf_ex (xOp_ex fun _ => id) (xArr_ex fun _ _ _ => xG_ex (id)))
  | getfield ix => exact xG_ex (xR1_ex fun _ _ => xOp_ex fun _ => xObj_ex fun _ _ => xG_ex (xOp_ex fun _ => id))
  | putfield ix => exact xG_ex (xVR_ex fun _ _ _ => xOp_ex fun _ => xObj_ex fun _ _ => xG_ex (id))
  | new ix => exact xG_ex (xOp_ex fun _ => xG_ex (id))
  | newarray ty => exact xG_ex (xI1_ex fun _ _ => xOp_ex fun _ => xG_ex (id))
  | anewarray ix => exact xG_ex (xI1_ex fun _ _ => xOp_ex fun _ => xOp_ex fun _ => xG_ex (id))
  | invokevirtual ix => exact xG_ex (xOp_ex fun _ => xInv_ex hk)
  | invokestatic ix => exact xG_ex (xOp_ex fun _ => xIf_ex (xI2_ex fun _ _ _ => xG_ex (id)) (xIf_ex (xI2_ex fun _ _ _ => xG_ex (id)) (xIf_ex (xL2_ex fun _ _ _ => xG_ex (id)) (xIf_ex (xL2_ex fun _ _ _ => xG_ex (id)) (xIf_ex (xCp_ex fun _ _ _ _ _ _ => xG_ex (xArI_ex fun _ _ _ => xArI_ex fun _ _ _ => xG_ex (id))) (xInvS_ex hk))))))
  | invokespecial ix => exact xG_ex (xIf_ex (xOp_ex fun _ => xInv_ex hk) (xOp_ex fun _ => xIf_ex (xR1_ex fun _ _ => xG_ex (id)) (xInv_ex hk)))
  | ireturn => exact xG_ex (xRtI_ex fun _ => xG_ex (fun q => ⟨0, q⟩))
  | lreturn => exact xG_ex (xRtL_ex fun _ => xG_ex (fun q => ⟨0, q⟩))
  | areturn => exact xG_ex (xRtR_ex fun _ => xG_ex (fun q => ⟨0, q⟩))
  | return_ => exact xG_ex (xRtV_ex (xG_ex (fun q => ⟨0, q⟩)))
  | _ => exact fun q => q.elim
end XEX
/-- A STEP OF A RUN -/
theorem xFx_of {h : xH} {cc : ByteArray} {i : Instr} {d len pc : Nat} {ls : xL} {st : List Value} {M : xM} {c s : Nat} {v : Option Value} {M' : xM} (hd : decode cc pc = .ok (i, len))
    (hs : xS h (xC1 d) i len pc ls st M c s (fun pc ls st M c s => xFx h cc d pc ls st M c s v M') (fun v' M'' => v' = v ∧ M'' = M')) : xFx h cc d pc ls st M c s v M' := by
  have h1 := xS_ex (d := d) (h := h) (len := len) (pc := pc) (ls := ls) (st := st) (M := M) (c := c) (s := s) (i := i) (post := fun v' M'' => v' = v ∧ M'' = M')
    (k := fun m pc ls st M c s => xF h cc (xW m d) m pc ls st M c s (fun v' M'' => v' = v ∧ M'' = M'))
    (fun m m' pc ls st M c s hm q => xF_mono (xW_mono d d m m' (Nat.le_refl _) hm) (fun _ _ z => z) m m' pc ls st M c s hm q)
    (xS_mono (fun z as M p q hpq hw => by obtain ⟨v, M1, a, b⟩ := hw; exact ⟨v, M1, a, hpq _ _ b⟩) (fun pc ls st M c s q => by
      obtain ⟨N, n, q⟩ := q
      exact ⟨N + n, xF_mono (xW_mono d d N _ (Nat.le_refl _) (by omega)) (fun _ _ z => z) n _ pc ls st M c s (by omega) q⟩) (fun _ _ z => z) hs)
  obtain ⟨m, h1⟩ := h1
  refine ⟨m, m + 1, ?_⟩
  unfold xF
  rw [hd]
  exact h1
/-- A METHOD FROM ITS FIRST INSTRUCTION -/
theorem xEx_of {d z : Nat} {r : xMrow} {as : List Value} {M : xM} {v : Option Value} {M' : xM} (hm : xMet z = some r) (hl : decide ((xSl as).length ≤ r.2.2.1) = true) (h : xFx (xHd z r) r.2.1 d 0 (xEnt as r.2.2.1) [] M 0 0 v M') (hz : (decide (z = 57) || decide (z = 59)) = false := by decide) : xEx (d + 1) z as M v M' := by
  obtain ⟨N, n, h⟩ := h
  refine ⟨N + n, ?_⟩
  show xIf (decide (z = 57) || decide (z = 59)) _ (xOp (xMet z) _)
  rw [hz]
  show xOp (xMet z) _
  rw [hm]
  exact xG_in hl (xF_mono (xW_mono d d N (N + n) (Nat.le_refl _) (by omega)) (fun _ _ q => q) n (N + n) _ _ _ _ _ _ (by omega) h)
theorem xEx_deep {d d' z : Nat} {as : List Value} {M : xM} {v : Option Value} {M' : xM} (hd : d ≤ d') (h : xEx d z as M v M') : xEx d' z as M v M' := by
  obtain ⟨N, h⟩ := h
  exact ⟨N, xW_mono d d' N N hd (Nat.le_refl _) z as M _ _ (fun _ _ q => q) h⟩
theorem xEx_len {d : Nat} {M : xM} (hd : 5 ≤ d) : xEx d 57 [.ref (xSc + 1)] M (some (.int 73)) M := by
  obtain ⟨e, rfl⟩ : ∃ e, d = e + 1 := ⟨d - 1, by omega⟩
  refine ⟨0, ?_⟩
  show xG (decide (xSc + 1 = xSc + 1) && (decide (57 = 57) && decide (4 ≤ e))) _
  refine xG_in ?_ ⟨rfl, rfl⟩
  simp only [Bool.and_eq_true, decide_eq_true_eq]
  exact ⟨trivial, trivial, by omega⟩
theorem xEx_chr {d : Nat} {M : xM} {j : Int32} (hd : 5 ≤ d) (hj : xIn j 73 = true) : xEx d 59 [.ref (xSc + 1), .int j] M (some (.int (xChr j))) M := by
  obtain ⟨e, rfl⟩ : ∃ e, d = e + 1 := ⟨d - 1, by omega⟩
  refine ⟨0, ?_⟩
  show xG (decide (xSc + 1 = xSc + 1) && (decide (59 = 59) && (decide (4 ≤ e) && xIn j 73))) _
  refine xG_in ?_ ⟨rfl, rfl⟩
  simp only [Bool.and_eq_true, decide_eq_true_eq]
  exact ⟨trivial, trivial, by omega, hj⟩
