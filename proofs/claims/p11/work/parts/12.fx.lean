/-! STEPS OF A RUN, an instruction each: the decode row (at place q), the place itself, what the instruction wants, and how the run goes on. -/
section XFX
variable {h : xH} {cc : ByteArray} {d q pc : Nat} {ls ls2 : xL} {st r : List Value} {M M2 : xM} {c s c2 s2 : Nat} {v : Option Value} {M9 : xM}
theorem fx_iload {i : Nat} {x : Int32} (hd : decode cc q = .ok (.iload i, 2)) (hp : pc = q) (hl : ls[i]? = some (some (.int x))) (k : xFx h cc d (q + 2) ls (.int x :: st) M c s v M9) : xFx h cc d pc ls st M c s v M9 := by
  subst hp
  refine xFx_of hd ?_
  show xLd _ _ _
  unfold xLd
  rw [hl]
  exact k
theorem fx_iload_n {i : Fin 4} {x : Int32} (hd : decode cc q = .ok (.iload_n i, 1)) (hp : pc = q) (hl : ls[(i : Nat)]? = some (some (.int x))) (k : xFx h cc d (q + 1) ls (.int x :: st) M c s v M9) : xFx h cc d pc ls st M c s v M9 := by
  subst hp
  refine xFx_of hd ?_
  show xLd _ _ _
  unfold xLd
  rw [hl]
  exact k
theorem fx_aload {i : Nat} {x : Nat} (hd : decode cc q = .ok (.aload i, 2)) (hp : pc = q) (hl : ls[i]? = some (some (.ref x))) (k : xFx h cc d (q + 2) ls (.ref x :: st) M c s v M9) : xFx h cc d pc ls st M c s v M9 := by
  subst hp
  refine xFx_of hd ?_
  show xLd _ _ _
  unfold xLd
  rw [hl]
  exact k
theorem fx_aload_n {i : Fin 4} {x : Nat} (hd : decode cc q = .ok (.aload_n i, 1)) (hp : pc = q) (hl : ls[(i : Nat)]? = some (some (.ref x))) (k : xFx h cc d (q + 1) ls (.ref x :: st) M c s v M9) : xFx h cc d pc ls st M c s v M9 := by
  subst hp
  refine xFx_of hd ?_
  show xLd _ _ _
  unfold xLd
  rw [hl]
  exact k
theorem fx_lload {i : Nat} {x : Int64} (hd : decode cc q = .ok (.lload i, 2)) (hp : pc = q) (hl : ls[i]? = some (some (.long x))) (k : xFx h cc d (q + 2) ls (.long x :: st) M c s v M9) : xFx h cc d pc ls st M c s v M9 := by
  subst hp
  refine xFx_of hd ?_
  show xLd _ _ _
  unfold xLd
  rw [hl]
  exact k
theorem fx_lload_n {i : Fin 4} {x : Int64} (hd : decode cc q = .ok (.lload_n i, 1)) (hp : pc = q) (hl : ls[(i : Nat)]? = some (some (.long x))) (k : xFx h cc d (q + 1) ls (.long x :: st) M c s v M9) : xFx h cc d pc ls st M c s v M9 := by
  subst hp
  refine xFx_of hd ?_
  show xLd _ _ _
  unfold xLd
  rw [hl]
  exact k
theorem fx_istore {i : Nat} {x : Int32} (hd : decode cc q = .ok (.istore i, 2)) (hp : pc = q) (hg : (xNo2 ls i && decide (i < ls.length)) = true) (hs : ls.set i (some (.int x)) = ls2) (k : xFx h cc d (q + 2) ls2 st M c s v M9) : xFx h cc d pc ls (.int x :: st) M c s v M9 := by
  subst hp
  refine xFx_of hd ?_
  subst hs
  exact xG_in hg k
theorem fx_istore_n {i : Fin 4} {x : Int32} (hd : decode cc q = .ok (.istore_n i, 1)) (hp : pc = q) (hg : (xNo2 ls (i : Nat) && decide ((i : Nat) < ls.length)) = true) (hs : ls.set (i : Nat) (some (.int x)) = ls2) (k : xFx h cc d (q + 1) ls2 st M c s v M9) : xFx h cc d pc ls (.int x :: st) M c s v M9 := by
  subst hp
  refine xFx_of hd ?_
  subst hs
  exact xG_in hg k
theorem fx_astore {i : Nat} {x : Nat} (hd : decode cc q = .ok (.astore i, 2)) (hp : pc = q) (hg : (xNo2 ls i && decide (i < ls.length)) = true) (hs : ls.set i (some (.ref x)) = ls2) (k : xFx h cc d (q + 2) ls2 st M c s v M9) : xFx h cc d pc ls (.ref x :: st) M c s v M9 := by
  subst hp
  refine xFx_of hd ?_
  subst hs
  exact xG_in hg k
theorem fx_astore_n {i : Fin 4} {x : Nat} (hd : decode cc q = .ok (.astore_n i, 1)) (hp : pc = q) (hg : (xNo2 ls (i : Nat) && decide ((i : Nat) < ls.length)) = true) (hs : ls.set (i : Nat) (some (.ref x)) = ls2) (k : xFx h cc d (q + 1) ls2 st M c s v M9) : xFx h cc d pc ls (.ref x :: st) M c s v M9 := by
  subst hp
  refine xFx_of hd ?_
  subst hs
  exact xG_in hg k
theorem fx_lstore {i : Nat} {x : Int64} (hd : decode cc q = .ok (.lstore i, 2)) (hp : pc = q) (hg : (xNo2 ls i && decide (i + 1 < ls.length)) = true) (hs : (ls.set i (some (.long x))).set (i + 1) none = ls2) (k : xFx h cc d (q + 2) ls2 st M c s v M9) : xFx h cc d pc ls (.long x :: st) M c s v M9 := by
  subst hp
  refine xFx_of hd ?_
  subst hs
  exact xG_in hg k
theorem fx_lstore_n {i : Fin 4} {x : Int64} (hd : decode cc q = .ok (.lstore_n i, 1)) (hp : pc = q) (hg : (xNo2 ls (i : Nat) && decide ((i : Nat) + 1 < ls.length)) = true) (hs : (ls.set (i : Nat) (some (.long x))).set ((i : Nat) + 1) none = ls2) (k : xFx h cc d (q + 1) ls2 st M c s v M9) : xFx h cc d pc ls (.long x :: st) M c s v M9 := by
  subst hp
  refine xFx_of hd ?_
  subst hs
  exact xG_in hg k
theorem fx_iinc {i : Nat} {z : Int} {x y : Int32} (hd : decode cc q = .ok (.iinc i z, 3)) (hp : pc = q) (hl : ls[i]? = some (some (.int x))) (hg : (xNo2 ls i && decide (i < ls.length)) = true) (hv : x + Int32.ofInt z = y) (hs : ls.set i (some (.int y)) = ls2) (k : xFx h cc d (q + 3) ls2 st M c s v M9) : xFx h cc d pc ls st M c s v M9 := by
  subst hp
  refine xFx_of hd ?_
  subst hv
  subst hs
  show xLd _ _ _
  unfold xLd
  rw [hl]
  exact xG_in hg k
theorem fx_iconst {n : Int} {x : Int32} (hd : decode cc q = .ok (.iconst n, 1)) (hp : pc = q) (hv : Int32.ofInt n = x) (k : xFx h cc d (q + 1) ls (.int x :: st) M c s v M9) : xFx h cc d pc ls st M c s v M9 := by
  subst hp
  refine xFx_of hd ?_
  subst hv
  exact k
theorem fx_bipush {n : Int} {x : Int32} (hd : decode cc q = .ok (.bipush n, 2)) (hp : pc = q) (hv : (Int8.ofInt n).toInt32 = x) (k : xFx h cc d (q + 2) ls (.int x :: st) M c s v M9) : xFx h cc d pc ls st M c s v M9 := by
  subst hp
  refine xFx_of hd ?_
  subst hv
  exact k
theorem fx_sipush {n : Int} {x : Int32} (hd : decode cc q = .ok (.sipush n, 3)) (hp : pc = q) (hv : (Int16.ofInt n).toInt32 = x) (k : xFx h cc d (q + 3) ls (.int x :: st) M c s v M9) : xFx h cc d pc ls st M c s v M9 := by
  subst hp
  refine xFx_of hd ?_
  subst hv
  exact k
theorem fx_lconst {n : Fin 2} {x : Int64} (hd : decode cc q = .ok (.lconst n, 1)) (hp : pc = q) (hv : Int64.ofNat n = x) (k : xFx h cc d (q + 1) ls (.long x :: st) M c s v M9) : xFx h cc d pc ls st M c s v M9 := by
  subst hp
  refine xFx_of hd ?_
  subst hv
  exact k
theorem fx_ldc {n : Nat} {x : Int32} {w : Nat} (hd : decode cc q = .ok (.ldc n, 2)) (hp : pc = q) (hv : xCst h.2.2.1 n = some (n, x, w)) (k : xFx h cc d (q + 2) ls (.int x :: st) M c s v M9) : xFx h cc d pc ls st M c s v M9 := by
  subst hp
  refine xFx_of hd ?_
  show xCsS _ _ _
  rw [hv]
  exact k
theorem fx_ldc_w {n : Nat} {x : Int32} {w : Nat} (hd : decode cc q = .ok (.ldc_w n, 3)) (hp : pc = q) (hv : xCst h.2.2.1 n = some (n, x, w)) (k : xFx h cc d (q + 3) ls (.int x :: st) M c s v M9) : xFx h cc d pc ls st M c s v M9 := by
  subst hp
  refine xFx_of hd ?_
  show xOp _ _
  rw [hv]
  exact k
theorem fx_ldc2_w {n : Nat} {x : Int64} {w : Nat} (hd : decode cc q = .ok (.ldc2_w n, 3)) (hp : pc = q) (hv : xCsL h.2.2.1 n = some (n, x, w)) (k : xFx h cc d (q + 3) ls (.long x :: st) M c s v M9) : xFx h cc d pc ls st M c s v M9 := by
  subst hp
  refine xFx_of hd ?_
  show xOp _ _
  rw [hv]
  exact k
theorem fx_iadd {x y z : Int32} (hd : decode cc q = .ok (.iadd, 1)) (hp : pc = q) (hv : x + y = z) (k : xFx h cc d (q + 1) ls (.int z :: st) M c s v M9) : xFx h cc d pc ls (.int y :: .int x :: st) M c s v M9 := by
  subst hp
  refine xFx_of hd ?_
  subst hv
  exact k
theorem fx_isub {x y z : Int32} (hd : decode cc q = .ok (.isub, 1)) (hp : pc = q) (hv : x - y = z) (k : xFx h cc d (q + 1) ls (.int z :: st) M c s v M9) : xFx h cc d pc ls (.int y :: .int x :: st) M c s v M9 := by
  subst hp
  refine xFx_of hd ?_
  subst hv
  exact k
theorem fx_imul {x y z : Int32} (hd : decode cc q = .ok (.imul, 1)) (hp : pc = q) (hv : x * y = z) (k : xFx h cc d (q + 1) ls (.int z :: st) M c s v M9) : xFx h cc d pc ls (.int y :: .int x :: st) M c s v M9 := by
  subst hp
  refine xFx_of hd ?_
  subst hv
  exact k
theorem fx_iand {x y z : Int32} (hd : decode cc q = .ok (.iand, 1)) (hp : pc = q) (hv : x &&& y = z) (k : xFx h cc d (q + 1) ls (.int z :: st) M c s v M9) : xFx h cc d pc ls (.int y :: .int x :: st) M c s v M9 := by
  subst hp
  refine xFx_of hd ?_
  subst hv
  exact k
theorem fx_ior {x y z : Int32} (hd : decode cc q = .ok (.ior, 1)) (hp : pc = q) (hv : x ||| y = z) (k : xFx h cc d (q + 1) ls (.int z :: st) M c s v M9) : xFx h cc d pc ls (.int y :: .int x :: st) M c s v M9 := by
  subst hp
  refine xFx_of hd ?_
  subst hv
  exact k
theorem fx_ixor {x y z : Int32} (hd : decode cc q = .ok (.ixor, 1)) (hp : pc = q) (hv : x ^^^ y = z) (k : xFx h cc d (q + 1) ls (.int z :: st) M c s v M9) : xFx h cc d pc ls (.int y :: .int x :: st) M c s v M9 := by
  subst hp
  refine xFx_of hd ?_
  subst hv
  exact k
theorem fx_ishl {x y z : Int32} (hd : decode cc q = .ok (.ishl, 1)) (hp : pc = q) (hv : x <<< (y &&& 31) = z) (k : xFx h cc d (q + 1) ls (.int z :: st) M c s v M9) : xFx h cc d pc ls (.int y :: .int x :: st) M c s v M9 := by
  subst hp
  refine xFx_of hd ?_
  subst hv
  exact k
theorem fx_ishr {x y z : Int32} (hd : decode cc q = .ok (.ishr, 1)) (hp : pc = q) (hv : x >>> (y &&& 31) = z) (k : xFx h cc d (q + 1) ls (.int z :: st) M c s v M9) : xFx h cc d pc ls (.int y :: .int x :: st) M c s v M9 := by
  subst hp
  refine xFx_of hd ?_
  subst hv
  exact k
theorem fx_iushr {x y z : Int32} (hd : decode cc q = .ok (.iushr, 1)) (hp : pc = q) (hv : (x.toUInt32 >>> (y.toUInt32 &&& Int32.toUInt32 31)).toInt32 = z) (k : xFx h cc d (q + 1) ls (.int z :: st) M c s v M9) : xFx h cc d pc ls (.int y :: .int x :: st) M c s v M9 := by
  subst hp
  refine xFx_of hd ?_
  subst hv
  exact k
theorem fx_idiv {x y z : Int32} (hd : decode cc q = .ok (.idiv, 1)) (hp : pc = q) (h0 : ¬ y = 0) (hv : x / y = z) (k : xFx h cc d (q + 1) ls (.int z :: st) M c s v M9) : xFx h cc d pc ls (.int y :: .int x :: st) M c s v M9 := by
  subst hp
  refine xFx_of hd ?_
  subst hv
  exact xG_in (by simp [h0]) k
theorem fx_irem {x y z : Int32} (hd : decode cc q = .ok (.irem, 1)) (hp : pc = q) (h0 : ¬ y = 0) (hv : xRem x y = z) (k : xFx h cc d (q + 1) ls (.int z :: st) M c s v M9) : xFx h cc d pc ls (.int y :: .int x :: st) M c s v M9 := by
  subst hp
  refine xFx_of hd ?_
  subst hv
  exact xG_in (by simp [h0]) k
theorem fx_ineg {x : Int32} {z : Int32} (hd : decode cc q = .ok (.ineg, 1)) (hp : pc = q) (hv : -x = z) (k : xFx h cc d (q + 1) ls (.int z :: st) M c s v M9) : xFx h cc d pc ls (.int x :: st) M c s v M9 := by
  subst hp
  refine xFx_of hd ?_
  subst hv
  exact k
theorem fx_i2l {x : Int32} {z : Int64} (hd : decode cc q = .ok (.i2l, 1)) (hp : pc = q) (hv : x.toInt64 = z) (k : xFx h cc d (q + 1) ls (.long z :: st) M c s v M9) : xFx h cc d pc ls (.int x :: st) M c s v M9 := by
  subst hp
  refine xFx_of hd ?_
  subst hv
  exact k
theorem fx_i2b {x : Int32} {z : Int32} (hd : decode cc q = .ok (.i2b, 1)) (hp : pc = q) (hv : x.toInt8.toInt32 = z) (k : xFx h cc d (q + 1) ls (.int z :: st) M c s v M9) : xFx h cc d pc ls (.int x :: st) M c s v M9 := by
  subst hp
  refine xFx_of hd ?_
  subst hv
  exact k
theorem fx_i2c {x : Int32} {z : Int32} (hd : decode cc q = .ok (.i2c, 1)) (hp : pc = q) (hv : (x.toUInt32 % 65536).toInt32 = z) (k : xFx h cc d (q + 1) ls (.int z :: st) M c s v M9) : xFx h cc d pc ls (.int x :: st) M c s v M9 := by
  subst hp
  refine xFx_of hd ?_
  subst hv
  exact k
theorem fx_l2i {x : Int64} {z : Int32} (hd : decode cc q = .ok (.l2i, 1)) (hp : pc = q) (hv : x.toInt32 = z) (k : xFx h cc d (q + 1) ls (.int z :: st) M c s v M9) : xFx h cc d pc ls (.long x :: st) M c s v M9 := by
  subst hp
  refine xFx_of hd ?_
  subst hv
  exact k
theorem fx_lneg {x : Int64} {z : Int64} (hd : decode cc q = .ok (.lneg, 1)) (hp : pc = q) (hv : -x = z) (k : xFx h cc d (q + 1) ls (.long z :: st) M c s v M9) : xFx h cc d pc ls (.long x :: st) M c s v M9 := by
  subst hp
  refine xFx_of hd ?_
  subst hv
  exact k
theorem fx_ladd {x y z : Int64} (hd : decode cc q = .ok (.ladd, 1)) (hp : pc = q) (hv : x + y = z) (k : xFx h cc d (q + 1) ls (.long z :: st) M c s v M9) : xFx h cc d pc ls (.long y :: .long x :: st) M c s v M9 := by
  subst hp
  refine xFx_of hd ?_
  subst hv
  exact k
theorem fx_lsub {x y z : Int64} (hd : decode cc q = .ok (.lsub, 1)) (hp : pc = q) (hv : x - y = z) (k : xFx h cc d (q + 1) ls (.long z :: st) M c s v M9) : xFx h cc d pc ls (.long y :: .long x :: st) M c s v M9 := by
  subst hp
  refine xFx_of hd ?_
  subst hv
  exact k
theorem fx_lmul {x y z : Int64} (hd : decode cc q = .ok (.lmul, 1)) (hp : pc = q) (hv : x * y = z) (k : xFx h cc d (q + 1) ls (.long z :: st) M c s v M9) : xFx h cc d pc ls (.long y :: .long x :: st) M c s v M9 := by
  subst hp
  refine xFx_of hd ?_
  subst hv
  exact k
theorem fx_ldiv {x y z : Int64} (hd : decode cc q = .ok (.ldiv, 1)) (hp : pc = q) (h0 : ¬ y = 0) (hv : x / y = z) (k : xFx h cc d (q + 1) ls (.long z :: st) M c s v M9) : xFx h cc d pc ls (.long y :: .long x :: st) M c s v M9 := by
  subst hp
  refine xFx_of hd ?_
  subst hv
  exact xG_in (by simp [h0]) k
theorem fx_lcmp {x y : Int64} {z : Int32} (hd : decode cc q = .ok (.lcmp, 1)) (hp : pc = q) (hv : lg_cmp x y = z) (k : xFx h cc d (q + 1) ls (.int z :: st) M c s v M9) : xFx h cc d pc ls (.long y :: .long x :: st) M c s v M9 := by
  subst hp
  refine xFx_of hd ?_
  subst hv
  exact k
theorem fx_dup {w : Value} (hd : decode cc q = .ok (.dup, 1)) (hp : pc = q) (h1 : xOne w = true) (k : xFx h cc d (q + 1) ls (w :: w :: st) M c s v M9) : xFx h cc d pc ls (w :: st) M c s v M9 := by
  subst hp
  refine xFx_of hd ?_
  exact xG_in h1 k
theorem fx_pop {w : Value} (hd : decode cc q = .ok (.pop, 1)) (hp : pc = q) (h1 : xOne w = true) (k : xFx h cc d (q + 1) ls st M c s v M9) : xFx h cc d pc ls (w :: st) M c s v M9 := by
  subst hp
  refine xFx_of hd ?_
  exact xG_in h1 k
theorem fx_dup2 {w u : Value} (hd : decode cc q = .ok (.dup2, 1)) (hp : pc = q) (h1 : (xOne w && xOne u) = true) (k : xFx h cc d (q + 1) ls (w :: u :: w :: u :: st) M c s v M9) : xFx h cc d pc ls (w :: u :: st) M c s v M9 := by
  subst hp
  refine xFx_of hd ?_
  exact xG_in h1 k
theorem xJ_in {pc t : Nat} {off : Int} {f : Nat → Prop} (hj : (pc : Int) + off = (t : Int)) (k : f t) : xJ pc off f := by
  unfold xJ; rw [hj]; exact k
theorem fx_goto {off : Int} {t : Nat} (hd : decode cc q = .ok (.goto off, 3)) (hp : pc = q) (hj : (q : Int) + off = (t : Int)) (k : xFx h cc d t ls st M c s v M9) : xFx h cc d pc ls st M c s v M9 := by
  subst hp
  refine xFx_of hd ?_
  show xJ _ _ _
  exact xJ_in hj k
theorem fx_icmp_eq {off : Int} {t : Nat} {x y : Int32} (hd : decode cc q = .ok (.if_icmp .eq off, 3)) (hp : pc = q) (hj : (q : Int) + off = (t : Int)) (kt : x = y → xFx h cc d t ls st M c s v M9) (kf : ¬ (x = y) → xFx h cc d (q + 3) ls st M c s v M9) : xFx h cc d pc ls (.int y :: .int x :: st) M c s v M9 := by
  subst hp
  refine xFx_of hd ?_
  show xJ _ _ _
  refine xJ_in hj ?_
  by_cases hc : x = y
  · have e : xCmp .eq x y = true := by simp [xCmp, hc]
    rw [e]; exact kt hc
  · have e : xCmp .eq x y = false := by simp [xCmp] at hc ⊢; exact hc
    rw [e]; exact kf hc
theorem fx_if_eq {off : Int} {t : Nat} {x : Int32} (hd : decode cc q = .ok (.ifCond .eq off, 3)) (hp : pc = q) (hj : (q : Int) + off = (t : Int)) (kt : x = 0 → xFx h cc d t ls st M c s v M9) (kf : ¬ (x = 0) → xFx h cc d (q + 3) ls st M c s v M9) : xFx h cc d pc ls (.int x :: st) M c s v M9 := by
  subst hp
  refine xFx_of hd ?_
  show xJ _ _ _
  refine xJ_in hj ?_
  by_cases hc : x = 0
  · have e : xCmp .eq x 0 = true := by simp [xCmp, hc]
    rw [e]; exact kt hc
  · have e : xCmp .eq x 0 = false := by simp [xCmp] at hc ⊢; exact hc
    rw [e]; exact kf hc
theorem fx_icmp_ne {off : Int} {t : Nat} {x y : Int32} (hd : decode cc q = .ok (.if_icmp .ne off, 3)) (hp : pc = q) (hj : (q : Int) + off = (t : Int)) (kt : ¬ x = y → xFx h cc d t ls st M c s v M9) (kf : ¬ (¬ x = y) → xFx h cc d (q + 3) ls st M c s v M9) : xFx h cc d pc ls (.int y :: .int x :: st) M c s v M9 := by
  subst hp
  refine xFx_of hd ?_
  show xJ _ _ _
  refine xJ_in hj ?_
  by_cases hc : ¬ x = y
  · have e : xCmp .ne x y = true := by simp [xCmp, hc]
    rw [e]; exact kt hc
  · have e : xCmp .ne x y = false := by simp [xCmp] at hc ⊢; exact hc
    rw [e]; exact kf hc
theorem fx_if_ne {off : Int} {t : Nat} {x : Int32} (hd : decode cc q = .ok (.ifCond .ne off, 3)) (hp : pc = q) (hj : (q : Int) + off = (t : Int)) (kt : ¬ x = 0 → xFx h cc d t ls st M c s v M9) (kf : ¬ (¬ x = 0) → xFx h cc d (q + 3) ls st M c s v M9) : xFx h cc d pc ls (.int x :: st) M c s v M9 := by
  subst hp
  refine xFx_of hd ?_
  show xJ _ _ _
  refine xJ_in hj ?_
  by_cases hc : ¬ x = 0
  · have e : xCmp .ne x 0 = true := by simp [xCmp, hc]
    rw [e]; exact kt hc
  · have e : xCmp .ne x 0 = false := by simp [xCmp] at hc ⊢; exact hc
    rw [e]; exact kf hc
theorem fx_icmp_lt {off : Int} {t : Nat} {x y : Int32} (hd : decode cc q = .ok (.if_icmp .lt off, 3)) (hp : pc = q) (hj : (q : Int) + off = (t : Int)) (kt : x < y → xFx h cc d t ls st M c s v M9) (kf : ¬ (x < y) → xFx h cc d (q + 3) ls st M c s v M9) : xFx h cc d pc ls (.int y :: .int x :: st) M c s v M9 := by
  subst hp
  refine xFx_of hd ?_
  show xJ _ _ _
  refine xJ_in hj ?_
  by_cases hc : x < y
  · have e : xCmp .lt x y = true := by simp [xCmp, hc]
    rw [e]; exact kt hc
  · have e : xCmp .lt x y = false := by simp [xCmp] at hc ⊢; exact hc
    rw [e]; exact kf hc
theorem fx_if_lt {off : Int} {t : Nat} {x : Int32} (hd : decode cc q = .ok (.ifCond .lt off, 3)) (hp : pc = q) (hj : (q : Int) + off = (t : Int)) (kt : x < 0 → xFx h cc d t ls st M c s v M9) (kf : ¬ (x < 0) → xFx h cc d (q + 3) ls st M c s v M9) : xFx h cc d pc ls (.int x :: st) M c s v M9 := by
  subst hp
  refine xFx_of hd ?_
  show xJ _ _ _
  refine xJ_in hj ?_
  by_cases hc : x < 0
  · have e : xCmp .lt x 0 = true := by simp [xCmp, hc]
    rw [e]; exact kt hc
  · have e : xCmp .lt x 0 = false := by simp [xCmp] at hc ⊢; exact hc
    rw [e]; exact kf hc
theorem fx_icmp_ge {off : Int} {t : Nat} {x y : Int32} (hd : decode cc q = .ok (.if_icmp .ge off, 3)) (hp : pc = q) (hj : (q : Int) + off = (t : Int)) (kt : y ≤ x → xFx h cc d t ls st M c s v M9) (kf : ¬ (y ≤ x) → xFx h cc d (q + 3) ls st M c s v M9) : xFx h cc d pc ls (.int y :: .int x :: st) M c s v M9 := by
  subst hp
  refine xFx_of hd ?_
  show xJ _ _ _
  refine xJ_in hj ?_
  by_cases hc : y ≤ x
  · have e : xCmp .ge x y = true := by simp [xCmp, hc]
    rw [e]; exact kt hc
  · have e : xCmp .ge x y = false := by simp [xCmp] at hc ⊢; exact hc
    rw [e]; exact kf hc
theorem fx_if_ge {off : Int} {t : Nat} {x : Int32} (hd : decode cc q = .ok (.ifCond .ge off, 3)) (hp : pc = q) (hj : (q : Int) + off = (t : Int)) (kt : 0 ≤ x → xFx h cc d t ls st M c s v M9) (kf : ¬ (0 ≤ x) → xFx h cc d (q + 3) ls st M c s v M9) : xFx h cc d pc ls (.int x :: st) M c s v M9 := by
  subst hp
  refine xFx_of hd ?_
  show xJ _ _ _
  refine xJ_in hj ?_
  by_cases hc : 0 ≤ x
  · have e : xCmp .ge x 0 = true := by simp [xCmp, hc]
    rw [e]; exact kt hc
  · have e : xCmp .ge x 0 = false := by simp [xCmp] at hc ⊢; exact hc
    rw [e]; exact kf hc
theorem fx_icmp_gt {off : Int} {t : Nat} {x y : Int32} (hd : decode cc q = .ok (.if_icmp .gt off, 3)) (hp : pc = q) (hj : (q : Int) + off = (t : Int)) (kt : y < x → xFx h cc d t ls st M c s v M9) (kf : ¬ (y < x) → xFx h cc d (q + 3) ls st M c s v M9) : xFx h cc d pc ls (.int y :: .int x :: st) M c s v M9 := by
  subst hp
  refine xFx_of hd ?_
  show xJ _ _ _
  refine xJ_in hj ?_
  by_cases hc : y < x
  · have e : xCmp .gt x y = true := by simp [xCmp, hc]
    rw [e]; exact kt hc
  · have e : xCmp .gt x y = false := by simp [xCmp] at hc ⊢; exact hc
    rw [e]; exact kf hc
theorem fx_if_gt {off : Int} {t : Nat} {x : Int32} (hd : decode cc q = .ok (.ifCond .gt off, 3)) (hp : pc = q) (hj : (q : Int) + off = (t : Int)) (kt : 0 < x → xFx h cc d t ls st M c s v M9) (kf : ¬ (0 < x) → xFx h cc d (q + 3) ls st M c s v M9) : xFx h cc d pc ls (.int x :: st) M c s v M9 := by
  subst hp
  refine xFx_of hd ?_
  show xJ _ _ _
  refine xJ_in hj ?_
  by_cases hc : 0 < x
  · have e : xCmp .gt x 0 = true := by simp [xCmp, hc]
    rw [e]; exact kt hc
  · have e : xCmp .gt x 0 = false := by simp [xCmp] at hc ⊢; exact hc
    rw [e]; exact kf hc
theorem fx_icmp_le {off : Int} {t : Nat} {x y : Int32} (hd : decode cc q = .ok (.if_icmp .le off, 3)) (hp : pc = q) (hj : (q : Int) + off = (t : Int)) (kt : x ≤ y → xFx h cc d t ls st M c s v M9) (kf : ¬ (x ≤ y) → xFx h cc d (q + 3) ls st M c s v M9) : xFx h cc d pc ls (.int y :: .int x :: st) M c s v M9 := by
  subst hp
  refine xFx_of hd ?_
  show xJ _ _ _
  refine xJ_in hj ?_
  by_cases hc : x ≤ y
  · have e : xCmp .le x y = true := by simp [xCmp, hc]
    rw [e]; exact kt hc
  · have e : xCmp .le x y = false := by simp [xCmp] at hc ⊢; exact hc
    rw [e]; exact kf hc
theorem fx_if_le {off : Int} {t : Nat} {x : Int32} (hd : decode cc q = .ok (.ifCond .le off, 3)) (hp : pc = q) (hj : (q : Int) + off = (t : Int)) (kt : x ≤ 0 → xFx h cc d t ls st M c s v M9) (kf : ¬ (x ≤ 0) → xFx h cc d (q + 3) ls st M c s v M9) : xFx h cc d pc ls (.int x :: st) M c s v M9 := by
  subst hp
  refine xFx_of hd ?_
  show xJ _ _ _
  refine xJ_in hj ?_
  by_cases hc : x ≤ 0
  · have e : xCmp .le x 0 = true := by simp [xCmp, hc]
    rw [e]; exact kt hc
  · have e : xCmp .le x 0 = false := by simp [xCmp] at hc ⊢; exact hc
    rw [e]; exact kf hc
theorem fx_iaload {a n : Nat} {j y : Int32} {f : Nat → Int32} (hd : decode cc q = .ok (.iaload, 1)) (hp : pc = q) (hM : M[a]? = some (.inl (1, n, .inl f))) (hz : decide (a = xSc) = false) (hj : xIn j n = true) (hv : f j.toNatClampNeg = y) (k : xFx h cc d (q + 1) ls (.int y :: st) M c s v M9) : xFx h cc d pc ls (.int j :: .ref a :: st) M c s v M9 := by
  subst hp; subst hv
  refine xFx_of hd ?_
  show xIf _ _ _
  rw [hz]
  show xArI _ _ _
  unfold xArI
  rw [hM]
  exact xG_in (by rw [hj]; rfl) k
theorem fx_sload {L : Nat} {j y : Int32} {f : Nat → Int32} (hd : decode cc q = .ok (.iaload, 1)) (hp : pc = q) (hX : h.1 = some (L, f)) (hj : xIn j L = true) (hv : f j.toNatClampNeg = y) (k : xFx h cc d (q + 1) ls (.int y :: st) M c s v M9) : xFx h cc d pc ls (.int j :: .ref xSc :: st) M c s v M9 := by
  subst hp; subst hv
  refine xFx_of hd ?_
  show xOp _ _
  rw [hX]
  exact (xG_in hj k)
theorem fx_slen {L : Nat} {y : Int32} {f : Nat → Int32} (hd : decode cc q = .ok (.arraylength, 1)) (hp : pc = q) (hX : h.1 = some (L, f)) (hv : Int32.ofNat L = y) (k : xFx h cc d (q + 1) ls (.int y :: st) M c s v M9) : xFx h cc d pc ls (.ref xSc :: st) M c s v M9 := by
  subst hp; subst hv
  refine xFx_of hd ?_
  show xOp _ _
  rw [hX]
  exact k
theorem fx_alen {a t n : Nat} {y : Int32} {f : xC} (hd : decode cc q = .ok (.arraylength, 1)) (hp : pc = q) (hM : M[a]? = some (.inl (t, n, f))) (hz : decide (a = xSc) = false) (ht : decide (t < 8) = true) (hv : Int32.ofNat n = y) (k : xFx h cc d (q + 1) ls (.int y :: st) M c s v M9) : xFx h cc d pc ls (.ref a :: st) M c s v M9 := by
  subst hp; subst hv
  refine xFx_of hd ?_
  show xIf _ _ _
  rw [hz]
  show xArr _ _ _
  unfold xArr
  rw [hM]
  exact xG_in ht k
theorem fx_baload {a t n : Nat} {j y : Int32} {f : Nat → Int32} (hd : decode cc q = .ok (.baload, 1)) (hp : pc = q) (hM : M[a]? = some (.inl (t, n, .inl f))) (ht : (decide (t = 0) || decide (t = 3)) = true) (hj : xIn j n = true) (hv : f j.toNatClampNeg = y) (k : xFx h cc d (q + 1) ls (.int y :: st) M c s v M9) : xFx h cc d pc ls (.int j :: .ref a :: st) M c s v M9 := by
  subst hp; subst hv
  refine xFx_of hd ?_
  show xArI _ _ _
  unfold xArI
  rw [hM]
  exact xG_in (by rw [ht, hj]; rfl) k
theorem fx_laload {a n : Nat} {j : Int32} {y : Int64} {f : Nat → Int64} (hd : decode cc q = .ok (.laload, 1)) (hp : pc = q) (hM : M[a]? = some (.inl (2, n, .inr (.inl f)))) (hj : xIn j n = true) (hv : f j.toNatClampNeg = y) (k : xFx h cc d (q + 1) ls (.long y :: st) M c s v M9) : xFx h cc d pc ls (.int j :: .ref a :: st) M c s v M9 := by
  subst hp; subst hv
  refine xFx_of hd ?_
  show xArL _ _ _
  unfold xArL
  rw [hM]
  exact xG_in (by rw [hj]; rfl) k
theorem fx_aaload {a t n y : Nat} {j : Int32} {f : Nat → Option Nat} (hd : decode cc q = .ok (.aaload, 1)) (hp : pc = q) (hM : M[a]? = some (.inl (t, n, .inr (.inr f)))) (ht : (decide (4 ≤ t) && decide (t < 8)) = true) (hj : xIn j n = true) (hv : f j.toNatClampNeg = some y) (k : xFx h cc d (q + 1) ls (.ref y :: st) M c s v M9) : xFx h cc d pc ls (.int j :: .ref a :: st) M c s v M9 := by
  subst hp
  refine xFx_of hd ?_
  show xArR _ _ _
  unfold xArR
  rw [hM]
  simp only [Bool.and_eq_true] at ht
  refine xG_in (by rw [ht.1, ht.2, hj]; rfl) ?_
  rw [hv]
  exact k
theorem fx_iastore {a n : Nat} {j x : Int32} {f : Nat → Int32} (hd : decode cc q = .ok (.iastore, 1)) (hp : pc = q) (hM : M[a]? = some (.inl (1, n, .inl f))) (hj : xIn j n = true) (hv : M.set a (.inl (1, n, .inl (upd f j.toNatClampNeg x))) = M2) (k : xFx h cc d (q + 1) ls st M2 c s v M9) : xFx h cc d pc ls (.int x :: .int j :: .ref a :: st) M c s v M9 := by
  subst hp; subst hv
  refine xFx_of hd ?_
  show xArI _ _ _
  unfold xArI
  rw [hM]
  exact xG_in (by rw [hj]; rfl) k
theorem fx_bastore {a t n : Nat} {j x : Int32} {f : Nat → Int32} (hd : decode cc q = .ok (.bastore, 1)) (hp : pc = q) (hM : M[a]? = some (.inl (t, n, .inl f))) (ht : (decide (t = 0) || decide (t = 3)) = true) (hj : xIn j n = true) (hv : M.set a (.inl (t, n, .inl (upd f j.toNatClampNeg (vp_nar (xAty t) x)))) = M2) (k : xFx h cc d (q + 1) ls st M2 c s v M9) : xFx h cc d pc ls (.int x :: .int j :: .ref a :: st) M c s v M9 := by
  subst hp; subst hv
  refine xFx_of hd ?_
  show xArI _ _ _
  unfold xArI
  rw [hM]
  exact xG_in (by rw [ht, hj]; rfl) k
theorem fx_lastore {a n : Nat} {j : Int32} {x : Int64} {f : Nat → Int64} (hd : decode cc q = .ok (.lastore, 1)) (hp : pc = q) (hM : M[a]? = some (.inl (2, n, .inr (.inl f)))) (hj : xIn j n = true) (hv : M.set a (.inl (2, n, .inr (.inl (vp_updL f j.toNatClampNeg x)))) = M2) (k : xFx h cc d (q + 1) ls st M2 c s v M9) : xFx h cc d pc ls (.long x :: .int j :: .ref a :: st) M c s v M9 := by
  subst hp; subst hv
  refine xFx_of hd ?_
  show xArL _ _ _
  unfold xArL
  rw [hM]
  exact xG_in (by rw [hj]; rfl) k
theorem fx_aastore {a t n y ci : Nat} {j : Int32} {f : Nat → Option Nat} {fs : List Value} (hd : decode cc q = .ok (.aastore, 1)) (hp : pc = q) (hM : M[a]? = some (.inl (t, n, .inr (.inr f)))) (hM2 : M[y]? = some (.inr (ci, fs))) (ht : (decide (xAoc ci = some t) && (decide (a ≠ y) && xIn j n)) = true) (hv : M.set a (.inl (t, n, .inr (.inr (va_up f j.toNatClampNeg (some y))))) = M2) (k : xFx h cc d (q + 1) ls st M2 c s v M9) : xFx h cc d pc ls (.ref y :: .int j :: .ref a :: st) M c s v M9 := by
  subst hp; subst hv
  refine xFx_of hd ?_
  show xArR _ _ _
  unfold xArR
  rw [hM]
  show xObj _ _ _
  unfold xObj
  rw [hM2]
  exact xG_in ht k
theorem fx_get {i a ci kk w : Nat} {fs : List Value} {y : Value} (hd : decode cc q = .ok (.getfield i, 3)) (hp : pc = q) (hf : xFld h.2.2.1 i = some (i, ci, kk, w)) (hM : M[a]? = some (.inr (ci, fs))) (hv : fs[kk]? = some y) (k : xFx h cc d (q + 3) ls (y :: st) M c s v M9) : xFx h cc d pc ls (.ref a :: st) M c s v M9 := by
  subst hp
  refine xFx_of hd ?_
  show xOp _ _
  rw [hf]
  show xObj _ _ _
  unfold xObj
  rw [hM]
  refine xG_in (by simp) ?_
  rw [hv]
  exact k
theorem fx_put {i a ci kk w : Nat} {fs : List Value} {y : Value} (hd : decode cc q = .ok (.putfield i, 3)) (hp : pc = q) (hf : xFld h.2.2.1 i = some (i, ci, kk, w)) (hM : M[a]? = some (.inr (ci, fs))) (hg : (decide (kk < fs.length) && (xFit (xTy ci kk) y && (!((xCl ci).2.1 kk).2.2.2 || (h.2.1 && decide (ci = h.2.2.1))))) = true) (hv : M.set a (.inr (ci, fs.set kk y)) = M2) (k : xFx h cc d (q + 3) ls st M2 c s v M9) : xFx h cc d pc ls (y :: .ref a :: st) M c s v M9 := by
  subst hp; subst hv
  refine xFx_of hd ?_
  show xOp _ _
  rw [hf]
  show xObj _ _ _
  unfold xObj
  rw [hM]
  exact xG_in (by simpa using hg) k
theorem fx_new {i ci w1 w2 w3 : Nat} (hd : decode cc q = .ok (.new i, 3)) (hp : pc = q) (hf : xNew h.2.2.1 i = some (i, ci, w1, w2, w3)) (hg : (decide (c + 1 ≤ h.2.2.2.2.1) && (decide (s + (xCl ci).2.2 ≤ h.2.2.2.2.2) && decide (M.length < xSc))) = true) (k : xFx h cc d (q + 3) ls (.ref M.length :: st) (M ++ [.inr (ci, xNewO ci)]) (c + 1) (s + (xCl ci).2.2) v M9) : xFx h cc d pc ls st M c s v M9 := by
  subst hp
  refine xFx_of hd ?_
  show xOp _ _
  rw [hf]
  exact (xG_in hg k)
theorem fx_newarray {t : ArrayType} {t0 : Nat} {n : Int32} (hd : decode cc q = .ok (.newarray t, 2)) (hp : pc = q) (hf : xNaT t = some t0) (hg : (decide (c + 1 ≤ h.2.2.2.2.1) && (decide (s + n.toNatClampNeg ≤ h.2.2.2.2.2) && (decide (M.length < xSc) && (!decide (n < 0) && decide (n.toNatClampNeg ≤ 10000))))) = true) (k : xFx h cc d (q + 2) ls (.ref M.length :: st) (M ++ [.inl (t0, n.toNatClampNeg, xNew0 t0)]) (c + 1) (s + n.toNatClampNeg) v M9) : xFx h cc d pc ls (.int n :: st) M c s v M9 := by
  subst hp
  refine xFx_of hd ?_
  show xOp _ _
  rw [hf]
  exact (xG_in hg k)
theorem fx_anewarray {i ci t0 w1 w2 w3 : Nat} {n : Int32} (hd : decode cc q = .ok (.anewarray i, 3)) (hp : pc = q) (hf : xNew h.2.2.1 i = some (i, ci, w1, w2, w3)) (ht : xAoc ci = some t0) (hg : (decide (c + 1 ≤ h.2.2.2.2.1) && (decide (s + n.toNatClampNeg ≤ h.2.2.2.2.2) && (decide (M.length < xSc) && (!decide (n < 0) && decide (n.toNatClampNeg ≤ 10000))))) = true) (k : xFx h cc d (q + 3) ls (.ref M.length :: st) (M ++ [.inl (t0, n.toNatClampNeg, xNew0 t0)]) (c + 1) (s + n.toNatClampNeg) v M9) : xFx h cc d pc ls (.int n :: st) M c s v M9 := by
  subst hp
  refine xFx_of hd ?_
  show xOp _ _
  rw [hf]
  show xOp (xAoc ci) _
  rw [ht]
  exact xG_in hg k
/-- a call of an object's method: its link, its row, its arguments as they lie on the stack, the object, what the method comes to -/
theorem fx_callv {i z w a ci n : Nat} {met : xMrow} {fs as : List Value} {v1 : Option Value} {M1 : xM} {virt : Nat} (hp : pc = q) (hd : virt = 1 ∧ decode cc q = .ok (.invokevirtual i, 3) ∧ xCall h.2.2.1 i = some (i, z, w) ∨ virt = 2 ∧ decode cc q = .ok (.invokespecial i, 3) ∧ (xNst h.2.2.1 i = some z ∨ xNst h.2.2.1 i = none ∧ xCall h.2.2.1 i = some (i, z, w))) (hz : z < 1000) (hm : xMet z = some met) (hg : (decide (met.2.2.2.2.2.2.1 = virt) && (decide (c + (xMc z).1 ≤ h.2.2.2.2.1) && decide (s + (xMc z).2 ≤ h.2.2.2.2.2))) = true) (hn : met.2.2.2.2.2.1 = as.length) (hst : st = as.reverse ++ .ref a :: r) (hr : xRoom r = true) (hM : M[a]? = some (.inr (ci, fs))) (hci : (decide (ci = met.2.2.2.2.1) && decide (ci < 13)) = true) (hE : xEx d z (.ref a :: as) M v1 M1) (h1 : c + (xMc z).1 = c2) (h2 : s + (xMc z).2 = s2) (k : xFx h cc d (q + 3) ls (v1.toList ++ r) M1 c2 s2 v M9) : xFx h cc d pc ls st M c s v M9 := by
  subst hp; subst h1; subst h2
  have hI : xInv h (xC1 d) z virt pc ls st M c s (fun pc ls st M c s => xFx h cc d pc ls st M c s v M9) := by
    unfold xInv
    rw [hm]
    refine xG_in hg ?_
    unfold xArgs
    rw [hn]
    refine xG_in (by rw [hst]; simp) ?_
    have e1 : (st.take as.length).reverse = as := by rw [hst, List.take_left' (by simp)]; simp
    have e2 : st.drop as.length = .ref a :: r := by rw [hst, List.drop_left' (by simp)]
    rw [e1, e2]
    refine xG_in hr ?_
    unfold xObS
    rw [hM]
    exact xG_in hci ⟨v1, M1, hE, k⟩
  rcases hd with ⟨rfl, hd, hc⟩ | ⟨rfl, hd, hc⟩
  · refine xFx_of hd ?_
    show xOp (xCall h.2.2.1 i) _
    rw [hc]
    exact hI
  · refine xFx_of hd ?_
    show xIf (xNst h.2.2.1 i).isSome _ _
    rcases hc with hc | ⟨hc, hc2⟩
    · rw [hc]; exact hI
    · rw [hc]
      show xOp (xCall h.2.2.1 i) _
      rw [hc2]
      show xIf (decide (z = 1005)) _ _
      rw [show decide (z = 1005) = false from decide_eq_false (by omega)]
      exact hI
theorem fx_ldcT {n : Nat} (hd : decode cc q = .ok (.ldc n, 2)) (hp : pc = q) (h0 : xCst h.2.2.1 n = none) (hv : xStC h.2.2.1 n = true) (k : xFx h cc d (q + 2) ls (.ref (xSc + 1) :: st) M c s v M9) : xFx h cc d pc ls st M c s v M9 := by
  subst hp
  refine xFx_of hd ?_
  show xCsS _ _ _
  rw [h0]
  exact xG_in hv k
theorem fx_strv {i z w : Nat} {met : xMrow} {as : List Value} {v1 : Option Value} {M1 : xM} (hp : pc = q) (hd : decode cc q = .ok (.invokevirtual i, 3)) (hc : xCall h.2.2.1 i = some (i, z, w)) (hm : xMet z = some met) (hg : (decide (met.2.2.2.2.2.2.1 = 1) && (decide (c + (xMc z).1 ≤ h.2.2.2.2.1) && decide (s + (xMc z).2 ≤ h.2.2.2.2.2))) = true) (hn : met.2.2.2.2.2.1 = as.length) (hst : st = as.reverse ++ .ref (xSc + 1) :: r) (hr : xRoom r = true) (hM : M[xSc + 1]? = none) (ho : met.2.2.2.2.1 = 20) (hE : xEx d z (.ref (xSc + 1) :: as) M v1 M1) (h1 : c + (xMc z).1 = c2) (h2 : s + (xMc z).2 = s2) (k : xFx h cc d (q + 3) ls (v1.toList ++ r) M1 c2 s2 v M9) : xFx h cc d pc ls st M c s v M9 := by
  subst hp; subst h1; subst h2
  have hI : xInv h (xC1 d) z 1 pc ls st M c s (fun pc ls st M c s => xFx h cc d pc ls st M c s v M9) := by
    unfold xInv
    rw [hm]
    refine xG_in hg ?_
    unfold xArgs
    rw [hn]
    refine xG_in (by rw [hst]; simp) ?_
    have e1 : (st.take as.length).reverse = as := by rw [hst, List.take_left' (by simp)]; simp
    have e2 : st.drop as.length = .ref (xSc + 1) :: r := by rw [hst, List.drop_left' (by simp)]
    rw [e1, e2]
    refine xG_in hr ?_
    unfold xObS
    rw [hM]
    refine xG_in ?_ ⟨v1, M1, hE, k⟩
    simp only [ho, Bool.and_eq_true, decide_eq_true_eq]
    exact ⟨trivial, trivial, trivial⟩
  refine xFx_of hd ?_
  show xOp (xCall h.2.2.1 i) _
  rw [hc]
  exact hI
theorem fx_look {dd : Int} {ps : Array (Int × Int)} {len t : Nat} {x : Int32} (hd : decode cc q = .ok (.lookupswitch dd ps, len)) (hp : pc = q) (hs : ((ps.toList.zip (ps.toList.drop 1)).all (fun (a, next) => decide (a.1 < next.1))) = true) (hj : (q : Int) + Op.lookupswitch.offset ps.toList dd x.toInt = (t : Int)) (k : xFx h cc d t ls st M c s v M9) : xFx h cc d pc ls (.int x :: st) M c s v M9 := by
  subst hp
  refine xFx_of hd ?_
  show xG _ _
  exact xG_in hs (xJ_in hj k)
theorem fx_calls {i z w n : Nat} {met : xMrow} {as : List Value} {v1 : Option Value} {M1 : xM} (hp : pc = q) (hd : decode cc q = .ok (.invokestatic i, 3)) (hc : xCall h.2.2.1 i = some (i, z, w)) (hz : z < 1000) (hm : xMet z = some met) (hg : (decide (met.2.2.2.2.2.2.1 = 0) && (decide (c + (xMc z).1 ≤ h.2.2.2.2.1) && decide (s + (xMc z).2 ≤ h.2.2.2.2.2))) = true) (hn : met.2.2.2.2.2.1 = as.length) (hst : st = as.reverse ++ r) (hr : xRoom r = true) (hE : xEx d z as M v1 M1) (h1 : c + (xMc z).1 = c2) (h2 : s + (xMc z).2 = s2) (k : xFx h cc d (q + 3) ls (v1.toList ++ r) M1 c2 s2 v M9) : xFx h cc d pc ls st M c s v M9 := by
  subst hp; subst h1; subst h2
  refine xFx_of hd ?_
  show xOp (xCall h.2.2.1 i) _
  rw [hc]
  show xIf (decide (z = 1000)) _ _
  rw [show decide (z = 1000) = false from decide_eq_false (by omega)]
  show xIf (decide (z = 1001)) _ _
  rw [show decide (z = 1001) = false from decide_eq_false (by omega)]
  show xIf (decide (z = 1002)) _ _
  rw [show decide (z = 1002) = false from decide_eq_false (by omega)]
  show xIf (decide (z = 1003)) _ _
  rw [show decide (z = 1003) = false from decide_eq_false (by omega)]
  show xIf (decide (z = 1004)) _ _
  rw [show decide (z = 1004) = false from decide_eq_false (by omega)]
  show xOp (xCall h.2.2.1 i) _
  rw [hc]
  show xOp (xMet z) _
  rw [hm]
  refine xG_in hg ?_
  unfold xArgs
  rw [hn]
  refine xG_in (by rw [hst]; simp) ?_
  have e1 : (st.take as.length).reverse = as := by rw [hst, List.take_left' (by simp)]; simp
  have e2 : st.drop as.length = r := by rw [hst, List.drop_left' (by simp)]
  rw [e1, e2]
  exact xG_in hr ⟨v1, M1, hE, k⟩
theorem fx_objInit {i w a : Nat} (hp : pc = q) (hd : decode cc q = .ok (.invokespecial i, 3)) (hn : xNst h.2.2.1 i = none) (hc : xCall h.2.2.1 i = some (i, 1005, w)) (hr : xRoom st = true) (k : xFx h cc d (q + 3) ls st M c s v M9) : xFx h cc d pc ls (.ref a :: st) M c s v M9 := by
  subst hp
  refine xFx_of hd ?_
  show xIf (xNst h.2.2.1 i).isSome _ _
  rw [hn]
  show xOp (xCall h.2.2.1 i) _
  rw [hc]
  exact xG_in hr k
theorem fx_ireturn {x : Int32} (hd : decode cc q = .ok (.ireturn, 1)) (hp : pc = q) (hg : (xRet h x && (decide (c = h.2.2.2.2.1) && decide (s ≤ h.2.2.2.2.2))) = true) : xFx h cc d pc ls [.int x] M c s (some (.int x)) M := by
  subst hp
  exact xFx_of hd (xG_in hg ⟨rfl, rfl⟩)
theorem fx_lreturn {x : Int64} (hd : decode cc q = .ok (.lreturn, 1)) (hp : pc = q) (hg : (decide (h.2.2.2.1 = some .long) && (decide (c = h.2.2.2.2.1) && decide (s ≤ h.2.2.2.2.2))) = true) : xFx h cc d pc ls [.long x] M c s (some (.long x)) M := by
  subst hp
  exact xFx_of hd (xG_in hg ⟨rfl, rfl⟩)
theorem fx_areturn {a : Nat} (hd : decode cc q = .ok (.areturn, 1)) (hp : pc = q) (hg : (xIsO h.2.2.2.1 && (decide (c = h.2.2.2.2.1) && decide (s ≤ h.2.2.2.2.2))) = true) : xFx h cc d pc ls [.ref a] M c s (some (.ref a)) M := by
  subst hp
  exact xFx_of hd (xG_in hg ⟨rfl, rfl⟩)
theorem fx_return (hd : decode cc q = .ok (.return_, 1)) (hp : pc = q) (hg : (decide (h.2.2.2.1 = none) && (decide (c = h.2.2.2.2.1) && decide (s ≤ h.2.2.2.2.2))) = true) : xFx h cc d pc ls [] M c s none M := by
  subst hp
  exact xFx_of hd (xG_in hg ⟨rfl, rfl⟩)
theorem fx_imin {i w : Nat} {x y u : Int32} (hd : decode cc q = .ok (.invokestatic i, 3)) (hp : pc = q) (hc : xCall h.2.2.1 i = some (i, 1000, w)) (hg : (xRoom st && (decide (c ≤ h.2.2.2.2.1) && decide (s ≤ h.2.2.2.2.2))) = true) (hv : xMin x y = u) (k : xFx h cc d (q + 3) ls (.int u :: st) M c s v M9) : xFx h cc d pc ls (.int y :: .int x :: st) M c s v M9 := by
  subst hp; subst hv
  refine xFx_of hd ?_
  show xOp (xCall h.2.2.1 i) _
  rw [hc]
  exact xG_in hg k
theorem fx_imax {i w : Nat} {x y u : Int32} (hd : decode cc q = .ok (.invokestatic i, 3)) (hp : pc = q) (hc : xCall h.2.2.1 i = some (i, 1001, w)) (hg : (xRoom st && (decide (c ≤ h.2.2.2.2.1) && decide (s ≤ h.2.2.2.2.2))) = true) (hv : xMax x y = u) (k : xFx h cc d (q + 3) ls (.int u :: st) M c s v M9) : xFx h cc d pc ls (.int y :: .int x :: st) M c s v M9 := by
  subst hp; subst hv
  refine xFx_of hd ?_
  show xOp (xCall h.2.2.1 i) _
  rw [hc]
  exact xG_in hg k
theorem fx_lmin {i w : Nat} {x y u : Int64} (hd : decode cc q = .ok (.invokestatic i, 3)) (hp : pc = q) (hc : xCall h.2.2.1 i = some (i, 1002, w)) (hg : (xRoom st && (decide (c ≤ h.2.2.2.2.1) && decide (s ≤ h.2.2.2.2.2))) = true) (hv : xMinL x y = u) (k : xFx h cc d (q + 3) ls (.long u :: st) M c s v M9) : xFx h cc d pc ls (.long y :: .long x :: st) M c s v M9 := by
  subst hp; subst hv
  refine xFx_of hd ?_
  show xOp (xCall h.2.2.1 i) _
  rw [hc]
  exact xG_in hg k
theorem fx_lmax {i w : Nat} {x y u : Int64} (hd : decode cc q = .ok (.invokestatic i, 3)) (hp : pc = q) (hc : xCall h.2.2.1 i = some (i, 1003, w)) (hg : (xRoom st && (decide (c ≤ h.2.2.2.2.1) && decide (s ≤ h.2.2.2.2.2))) = true) (hv : xMaxL x y = u) (k : xFx h cc d (q + 3) ls (.long u :: st) M c s v M9) : xFx h cc d pc ls (.long y :: .long x :: st) M c s v M9 := by
  subst hp; subst hv
  refine xFx_of hd ?_
  show xOp (xCall h.2.2.1 i) _
  rw [hc]
  exact xG_in hg k
theorem fx_copy {i w a a0 n0 n1 : Nat} {n dp sp : Int32} {f g : Nat → Int32} (hd : decode cc q = .ok (.invokestatic i, 3)) (hp : pc = q) (hc : xCall h.2.2.1 i = some (i, 1004, w)) (hr : xRoom st = true) (hM0 : M[a0]? = some (.inl (1, n0, .inl f))) (hM1 : M[a]? = some (.inl (1, n1, .inl g))) (hg : (!decide (sp < 0) && (!decide (dp < 0) && (!decide (n < 0) && (decide (sp.toNatClampNeg + n.toNatClampNeg ≤ n0) && decide (dp.toNatClampNeg + n.toNatClampNeg ≤ n1))))) = true) (hv : M.set a (.inl (1, n1, .inl (va_cpy f g sp.toNatClampNeg dp.toNatClampNeg n.toNatClampNeg))) = M2) (k : xFx h cc d (q + 3) ls st M2 c s v M9) : xFx h cc d pc ls (.int n :: .int dp :: .ref a :: .int sp :: .ref a0 :: st) M c s v M9 := by
  subst hp; subst hv
  refine xFx_of hd ?_
  show xOp (xCall h.2.2.1 i) _
  rw [hc]
  show xG _ (xArI M a0 _)
  refine xG_in hr ?_
  unfold xArI
  rw [hM0]
  show xArI M a _
  unfold xArI
  rw [hM1]
  exact xG_in hg k
theorem fx_tabOut {dd lo hi : Int} {offs : Array Int} {len t : Nat} {x : Int32} (hd : decode cc q = .ok (.tableswitch dd lo hi offs, len)) (hp : pc = q) (hc : x.toInt < lo ∨ hi < x.toInt) (hj : (q : Int) + dd = (t : Int)) (k : xFx h cc d t ls st M c s v M9) : xFx h cc d pc ls (.int x :: st) M c s v M9 := by
  subst hp
  refine xFx_of hd ?_
  show xIf _ _ _
  rw [show (decide (x.toInt < lo) || decide (hi < x.toInt)) = true by simpa using hc]
  exact xJ_in hj k
theorem fx_tabIn {dd lo hi off : Int} {offs : Array Int} {len t : Nat} {x : Int32} (hd : decode cc q = .ok (.tableswitch dd lo hi offs, len)) (hp : pc = q) (h1 : ¬ x.toInt < lo) (h2 : ¬ hi < x.toInt) (ho : offs[(x.toInt - lo).toNat]? = some off) (hj : (q : Int) + off = (t : Int)) (k : xFx h cc d t ls st M c s v M9) : xFx h cc d pc ls (.int x :: st) M c s v M9 := by
  subst hp
  refine xFx_of hd ?_
  show xIf _ _ _
  rw [show (decide (x.toInt < lo) || decide (hi < x.toInt)) = false by simp only [Bool.or_eq_false_iff, decide_eq_false_iff_not]; exact ⟨h1, h2⟩]
  show xOp _ _
  rw [ho]
  exact xJ_in hj k
end XFX
