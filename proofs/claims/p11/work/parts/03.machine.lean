/-! THE SMALL MACHINE. Memory: a list of cells; a cell is an array (its type's number, length, contents) or an object (its class' number, its fields). A reference is a place in that list; place xSc is the script. What a run must come to is a predicate: xF (n steps of a frame), xE (a method). -/
abbrev xC : Type := (Nat → Int32) ⊕ (Nat → Int64) ⊕ (Nat → Option Nat)
abbrev xE : Type := (Nat × Nat × xC) ⊕ (Nat × List Value)
abbrev xM : Type := List xE
abbrev xL : Type := List (Option Value)
abbrev xPost : Type := Option Value → xM → Prop
abbrev xK : Type := Nat → xL → List Value → xM → Nat → Nat → Prop
abbrev xEv : Type := Nat → List Value → xM → xPost → Prop
abbrev xScr : Type := Option (Nat × (Nat → Int32))
def xSc : Nat := 1000000000
/-- the one text constant: its bytes; its place is xSc + 1 -/
def xWb : List Int32 := [119, 97, 108, 107, 32, 115, 104, 117, 116, 32, 98, 97, 99, 107, 32, 111, 114, 32, 97, 110, 100, 32, 110, 111, 116, 32, 115, 101, 99, 111, 110, 100, 32, 104, 97, 108, 108, 32, 99, 111, 117, 110, 116, 32, 114, 111, 111, 109, 32, 111, 117, 116, 115, 105, 100, 101, 32, 115, 116, 101, 112, 115, 32, 108, 111, 97, 100, 32, 119, 97, 105, 116, 32]
def xChr (j : Int32) : Int32 := xWb.getD j.toNatClampNeg 0
def xWtx : String := "walk shut back or and not second hall count room outside steps load wait "
/-- its load -/
def xStC (o n : Nat) : Bool := decide (o = 7) && decide (n = 90)
def xG (b : Bool) (P : Prop) : Prop := match b with
  | true => P
  | false => False
def xJ (pc : Nat) (off : Int) (f : Nat → Prop) : Prop := match (pc : Int) + off with
  | .ofNat t => f t
  | .negSucc _ => False
def xI1 (st : List Value) (f : Int32 → List Value → Prop) : Prop := match st with
  | .int x :: r => f x r
  | _ => False
/-- the lower one, the upper one, the rest -/
def xI2 (st : List Value) (f : Int32 → Int32 → List Value → Prop) : Prop := match st with
  | .int y :: .int x :: r => f x y r
  | _ => False
def xL1 (st : List Value) (f : Int64 → List Value → Prop) : Prop := match st with
  | .long x :: r => f x r
  | _ => False
def xL2 (st : List Value) (f : Int64 → Int64 → List Value → Prop) : Prop := match st with
  | .long y :: .long x :: r => f x y r
  | _ => False
def xR1 (st : List Value) (f : Nat → List Value → Prop) : Prop := match st with
  | .ref a :: r => f a r
  | _ => False
/-- a reference, an index above it -/
def xRI (st : List Value) (f : Nat → Int32 → List Value → Prop) : Prop := match st with
  | .int j :: .ref a :: r => f a j r
  | _ => False
def xVRI (st : List Value) (f : Nat → Int32 → Value → List Value → Prop) : Prop := match st with
  | v :: .int j :: .ref a :: r => f a j v r
  | _ => False
def xVR (st : List Value) (f : Nat → Value → List Value → Prop) : Prop := match st with
  | v :: .ref a :: r => f a v r
  | _ => False
def xV1 (st : List Value) (f : Value → List Value → Prop) : Prop := match st with
  | v :: r => f v r
  | _ => False
def xV2 (st : List Value) (f : Value → Value → List Value → Prop) : Prop := match st with
  | v :: w :: r => f v w r
  | _ => False
def xLd (ls : xL) (i : Nat) (f : Value → Prop) : Prop := match ls[i]? with
  | some (some v) => f v
  | _ => False
def xOne (v : Value) : Bool := v.category == 1
/-- the place before i holds nothing of two -/
def xNo2 (ls : xL) (i : Nat) : Bool := match i with
  | 0 => true
  | j + 1 => match ls[j]? with
    | some (some v) => v.category == 1
    | _ => true
def xSt1 (ls : xL) (i : Nat) (v : Value) (f : xL → Prop) : Prop := xG (xNo2 ls i && decide (i < ls.length)) (f (ls.set i (some v)))
def xSt2 (ls : xL) (i : Nat) (v : Value) (f : xL → Prop) : Prop := xG (xNo2 ls i && decide (i + 1 < ls.length)) (f ((ls.set i (some v)).set (i + 1) none))
def xIn (j : Int32) (n : Nat) : Bool := !decide (j < 0) && decide (j.toNatClampNeg < n)
def xCmp (c : ClassFile.Cond) (x y : Int32) : Bool := match c with
  | .eq => decide (x = y)
  | .ne => !decide (x = y)
  | .lt => decide (x < y)
  | .ge => decide (y ≤ x)
  | .gt => decide (y < x)
  | .le => decide (x ≤ y)
def xIf (b : Bool) (P Q : Prop) : Prop := match b with
  | true => P
  | false => Q
def xArr (M : xM) (a : Nat) (f : Nat → Nat → xC → Prop) : Prop := match M[a]? with
  | some (.inl (t, n, c)) => f t n c
  | _ => False
def xArI (M : xM) (a : Nat) (f : Nat → Nat → (Nat → Int32) → Prop) : Prop := match M[a]? with
  | some (.inl (t, n, .inl c)) => f t n c
  | _ => False
def xArL (M : xM) (a : Nat) (f : Nat → Nat → (Nat → Int64) → Prop) : Prop := match M[a]? with
  | some (.inl (t, n, .inr (.inl c))) => f t n c
  | _ => False
def xArR (M : xM) (a : Nat) (f : Nat → Nat → (Nat → Option Nat) → Prop) : Prop := match M[a]? with
  | some (.inl (t, n, .inr (.inr c))) => f t n c
  | _ => False
def xObj (M : xM) (a : Nat) (f : Nat → List Value → Prop) : Prop := match M[a]? with
  | some (.inr (ci, fs)) => f ci fs
  | _ => False
/-- an object, or what is no cell -/
def xObS (M : xM) (a : Nat) (f : Nat → List Value → Prop) (g : Prop) : Prop := match M[a]? with
  | some (.inr (ci, fs)) => f ci fs
  | none => g
  | _ => False
/-- a number of the table, or what is none -/
def xCsS {α : Type} (o : Option α) (f : α → Prop) (g : Prop) : Prop := match o with
  | some x => f x
  | none => g
def xOp {α : Type} (o : Option α) (f : α → Prop) : Prop := match o with
  | some x => f x
  | none => False
def xFit (ty : FieldType) (v : Value) : Bool := match ty, v with
  | .int, .int _ => true
  | .boolean, .int x => decide (x = 0) || decide (x = 1)
  | .object _, .ref _ => true
  | .array _, .ref _ => true
  | _, _ => false
/-- what an array's type's number stands for -/
def xAty (t : Nat) : FieldType := match t with
  | 0 => .byte
  | 1 => .int
  | 2 => .long
  | 3 => .boolean
  | 4 => .object RX2
  | 5 => .object RX3
  | 6 => .object RX0
  | _ => .object RX10
def xAoc (ci : Nat) : Option Nat := match ci with
  | 2 => some 4
  | 3 => some 5
  | 0 => some 6
  | 10 => some 7
  | _ => none
def xNaT (t : ArrayType) : Option Nat := match t with
  | .byte => some 0
  | .int => some 1
  | .long => some 2
  | .boolean => some 3
  | _ => none
def xNew0 (t : Nat) : xC := match t with
  | 2 => .inr (.inl (fun _ => 0))
  | 0 => .inl (fun _ => 0)
  | 1 => .inl (fun _ => 0)
  | 3 => .inl (fun _ => 0)
  | _ => .inr (.inr (fun _ => none))
def xNewO (ci : Nat) : List Value := (List.range (xCl ci).2.2).map (fun k => defaultValue (xTy ci k))
def xBin (i : Instr) : Option (Int32 → Int32 → Int32) := match i with
  | .iadd => some (fun x y => x + y)
  | .isub => some (fun x y => x - y)
  | .imul => some (fun x y => x * y)
  | .iand => some (fun x y => x &&& y)
  | .ior => some (fun x y => x ||| y)
  | .ixor => some (fun x y => x ^^^ y)
  | .ishl => some (fun x y => x <<< (y &&& 31))
  | .ishr => some (fun x y => x >>> (y &&& 31))
  | .iushr => some (fun x y => (x.toUInt32 >>> (y.toUInt32 &&& Int32.toUInt32 31)).toInt32)
  | _ => none
def xRem (x y : Int32) : Int32 := x - x / y * y
def xMin (x y : Int32) : Int32 := if y < x then y else x
def xMax (x y : Int32) : Int32 := if x < y then y else x
def xMinL (x y : Int64) : Int64 := if y < x then y else x
def xMaxL (x y : Int64) : Int64 := if y < x then x else y
/-- a method's frame: which script it sees, whether it is a constructor, its owner, what it returns, what it may make -/
abbrev xH : Type := xScr × Bool × Nat × Option FieldType × Nat × Nat
def xRoom (st : List Value) : Bool := decide ((st.map fun v => v.category).sum ≤ 8)
/-- the stack of a call: arguments (the last on top), the rest -/
def xArgs (n : Nat) (st : List Value) (f : List Value → List Value → Prop) : Prop := xG (decide (n ≤ st.length)) (f (st.take n).reverse (st.drop n))
/-- a call of a static method -/
def xInvS (h : xH) (E : xEv) (i : Nat) (pc : Nat) (ls : xL) (st : List Value) (M : xM) (c s : Nat) (k : xK) : Prop :=
  xOp (xCall h.2.2.1 i) fun row => xOp (xMet row.2.1) fun met =>
    xG (decide (met.2.2.2.2.2.2.1 = 0) && (decide (c + (xMc row.2.1).1 ≤ h.2.2.2.2.1) && decide (s + (xMc row.2.1).2 ≤ h.2.2.2.2.2))) <|
    xArgs met.2.2.2.2.2.1 st fun as r0 => xG (xRoom r0) (E row.2.1 as M fun v M' => k (pc + 3) ls (v.toList ++ r0) M' (c + (xMc row.2.1).1) (s + (xMc row.2.1).2))
/-- links to a nest mate's constructor: owner, place, method -/
def xNstL : List (Nat × Nat × Nat) := [(9, 31, 2), (9, 38, 3), (9, 45, 4), (9, 54, 5), (9, 55, 6), (9, 56, 7), (11, 24, 8), (6, 11, 9), (11, 31, 10), (11, 38, 11)]
def xNst (o i : Nat) : Option Nat := (xNstL.find? (fun r => r.1 == o && r.2.1 == i)).map (fun r => r.2.2)
/-- a call of an object's method -/
def xInv (h : xH) (E : xEv) (z virt : Nat) (pc : Nat) (ls : xL) (st : List Value) (M : xM) (c s : Nat) (k : xK) : Prop :=
  xOp (xMet z) fun met =>
    xG (decide (met.2.2.2.2.2.2.1 = virt) && (decide (c + (xMc z).1 ≤ h.2.2.2.2.1) && decide (s + (xMc z).2 ≤ h.2.2.2.2.2))) <|
    xArgs met.2.2.2.2.2.1 st fun as r0 => xR1 r0 fun a r => xG (xRoom r) <| xObS M a (fun ci _ => xG (decide (ci = met.2.2.2.2.1) && decide (ci < 13)) (E z (.ref a :: as) M fun v M' => k (pc + 3) ls (v.toList ++ r) M' (c + (xMc z).1) (s + (xMc z).2))) (xG (decide (a = xSc + 1) && (decide (met.2.2.2.2.1 = 20) && decide (virt = 1))) (E z (.ref a :: as) M fun v M' => k (pc + 3) ls (v.toList ++ r) M' (c + (xMc z).1) (s + (xMc z).2)))
def xCp (st : List Value) (f : Int32 → Int32 → Nat → Int32 → Nat → List Value → Prop) : Prop := match st with
  | .int n :: .int dp :: .ref a :: .int sp :: .ref a0 :: r => f n dp a sp a0 r
  | _ => False
def xRtI (st : List Value) (f : Int32 → Prop) : Prop := match st with
  | [.int v] => f v
  | _ => False
def xRtL (st : List Value) (f : Int64 → Prop) : Prop := match st with
  | [.long v] => f v
  | _ => False
def xRtR (st : List Value) (f : Nat → Prop) : Prop := match st with
  | [.ref v] => f v
  | _ => False
def xRtV (st : List Value) (P : Prop) : Prop := match st with
  | [] => P
  | _ => False
/-- the JDK's own: min, max, arraycopy -/
def xStat (h : xH) (E : xEv) (i : Nat) (pc : Nat) (ls : xL) (st : List Value) (M : xM) (c s : Nat) (k : xK) : Prop :=
  xOp (xCall h.2.2.1 i) fun row =>
    xIf (decide (row.2.1 = 1000)) (xI2 st fun x y r => xG (xRoom r && (decide (c ≤ h.2.2.2.2.1) && decide (s ≤ h.2.2.2.2.2))) (k (pc + 3) ls (.int (xMin x y) :: r) M c s)) <|
    xIf (decide (row.2.1 = 1001)) (xI2 st fun x y r => xG (xRoom r && (decide (c ≤ h.2.2.2.2.1) && decide (s ≤ h.2.2.2.2.2))) (k (pc + 3) ls (.int (xMax x y) :: r) M c s)) <|
    xIf (decide (row.2.1 = 1002)) (xL2 st fun x y r => xG (xRoom r && (decide (c ≤ h.2.2.2.2.1) && decide (s ≤ h.2.2.2.2.2))) (k (pc + 3) ls (.long (xMinL x y) :: r) M c s)) <|
    xIf (decide (row.2.1 = 1003)) (xL2 st fun x y r => xG (xRoom r && (decide (c ≤ h.2.2.2.2.1) && decide (s ≤ h.2.2.2.2.2))) (k (pc + 3) ls (.long (xMaxL x y) :: r) M c s)) <|
    xIf (decide (row.2.1 = 1004)) (xCp st fun n dp a sp a0 r => xG (xRoom r) <| xArI M a0 fun t0 n0 f => xArI M a fun t1 n1 g =>
          xG (decide (t0 = 1) && (decide (t1 = 1) && (!decide (sp < 0) && (!decide (dp < 0) && (!decide (n < 0) && (decide (sp.toNatClampNeg + n.toNatClampNeg ≤ n0) && decide (dp.toNatClampNeg + n.toNatClampNeg ≤ n1))))))) (k (pc + 3) ls r (M.set a (.inl (t1, n1, .inl (va_cpy f g sp.toNatClampNeg dp.toNatClampNeg n.toNatClampNeg)))) c s)) <|
    xInvS h E i pc ls st M c s k
def xSpec (h : xH) (E : xEv) (i : Nat) (pc : Nat) (ls : xL) (st : List Value) (M : xM) (c s : Nat) (k : xK) : Prop :=
  xIf (xNst h.2.2.1 i).isSome (xOp (xNst h.2.2.1 i) fun z => xInv h E z 2 pc ls st M c s k) <|
  xOp (xCall h.2.2.1 i) fun row => xIf (decide (row.2.1 = 1005)) (xR1 st fun _ r => xG (xRoom r) (k (pc + 3) ls r M c s)) (xInv h E row.2.1 2 pc ls st M c s k)
def xRet (h : xH) (v : Int32) : Bool := match h.2.2.2.1 with
  | some .int => true
  | some .boolean => decide (v = 0) || decide (v = 1)
  | _ => false
def xIsO (r : Option FieldType) : Bool := match r with
  | some (.object _) => true
  | _ => false
def xTab (pc : Nat) (d lo hi : Int) (offs : Array Int) (x : Int32) (f : Nat → Prop) : Prop :=
  xIf (decide (x.toInt < lo) || decide (hi < x.toInt)) (xJ pc d f) (xOp (offs[(x.toInt - lo).toNat]?) fun off => xJ pc off f)
def xLook (pc : Nat) (d : Int) (ps : Array (Int × Int)) (x : Int32) (f : Nat → Prop) : Prop :=
  xG ((ps.toList.zip (ps.toList.drop 1)).all (fun (a, next) => decide (a.1 < next.1))) (xJ pc (Op.lookupswitch.offset ps.toList d x.toInt) f)
/-- one instruction -/
def xS (h : xH) (E : xEv) (i : Instr) (len : Nat) (pc : Nat) (ls : xL) (st : List Value) (M : xM) (c s : Nat) (k : xK) (post : xPost) : Prop :=
  match i with
  | .aload n => xG (decide (len = 2)) <| xLd ls n fun v => xR1 [v] fun a _ => k (pc + 2) ls (.ref a :: st) M c s
  | .aload_n n => xG (decide (len = 1)) <| xLd ls n fun v => xR1 [v] fun a _ => k (pc + 1) ls (.ref a :: st) M c s
  | .iload n => xG (decide (len = 2)) <| xLd ls n fun v => xI1 [v] fun a _ => k (pc + 2) ls (.int a :: st) M c s
  | .iload_n n => xG (decide (len = 1)) <| xLd ls n fun v => xI1 [v] fun a _ => k (pc + 1) ls (.int a :: st) M c s
  | .lload n => xG (decide (len = 2)) <| xLd ls n fun v => xL1 [v] fun a _ => k (pc + 2) ls (.long a :: st) M c s
  | .lload_n n => xG (decide (len = 1)) <| xLd ls n fun v => xL1 [v] fun a _ => k (pc + 1) ls (.long a :: st) M c s
  | .astore n => xG (decide (len = 2)) <| xR1 st fun a r => xSt1 ls n (.ref a) fun l => k (pc + 2) l r M c s
  | .astore_n n => xG (decide (len = 1)) <| xR1 st fun a r => xSt1 ls n (.ref a) fun l => k (pc + 1) l r M c s
  | .istore n => xG (decide (len = 2)) <| xI1 st fun a r => xSt1 ls n (.int a) fun l => k (pc + 2) l r M c s
  | .istore_n n => xG (decide (len = 1)) <| xI1 st fun a r => xSt1 ls n (.int a) fun l => k (pc + 1) l r M c s
  | .lstore n => xG (decide (len = 2)) <| xL1 st fun a r => xSt2 ls n (.long a) fun l => k (pc + 2) l r M c s
  | .lstore_n n => xG (decide (len = 1)) <| xL1 st fun a r => xSt2 ls n (.long a) fun l => k (pc + 1) l r M c s
  | .iinc n z => xG (decide (len = 3)) <| xLd ls n fun v => xI1 [v] fun a _ => xSt1 ls n (.int (a + Int32.ofInt z)) fun l => k (pc + 3) l st M c s
  | .iconst n => xG (decide (len = 1)) <| k (pc + 1) ls (.int (Int32.ofInt n) :: st) M c s
  | .bipush n => xG (decide (len = 2)) <| k (pc + 2) ls (.int (Int8.ofInt n).toInt32 :: st) M c s
  | .sipush n => xG (decide (len = 3)) <| k (pc + 3) ls (.int (Int16.ofInt n).toInt32 :: st) M c s
  | .lconst n => xG (decide (len = 1)) <| k (pc + 1) ls (.long (Int64.ofNat n) :: st) M c s
  | .ldc n => xG (decide (len = 2)) <| xCsS (xCst h.2.2.1 n) (fun r => k (pc + 2) ls (.int r.2.1 :: st) M c s) (xG (xStC h.2.2.1 n) (k (pc + 2) ls (.ref (xSc + 1) :: st) M c s))
  | .ldc_w n => xG (decide (len = 3)) <| xOp (xCst h.2.2.1 n) fun r => k (pc + 3) ls (.int r.2.1 :: st) M c s
  | .ldc2_w n => xG (decide (len = 3)) <| xOp (xCsL h.2.2.1 n) fun r => k (pc + 3) ls (.long r.2.1 :: st) M c s
  | .iadd | .isub | .imul | .iand | .ior | .ixor | .ishl | .ishr | .iushr => xG (decide (len = 1)) <| xOp (xBin i) fun f => xI2 st fun x y r => k (pc + 1) ls (.int (f x y) :: r) M c s
  | .idiv => xG (decide (len = 1)) <| xI2 st fun x y r => xG (!decide (y = 0)) <| k (pc + 1) ls (.int (x / y) :: r) M c s
  | .irem => xG (decide (len = 1)) <| xI2 st fun x y r => xG (!decide (y = 0)) <| k (pc + 1) ls (.int (xRem x y) :: r) M c s
  | .ineg => xG (decide (len = 1)) <| xI1 st fun x r => k (pc + 1) ls (.int (-x) :: r) M c s
  | .i2l => xG (decide (len = 1)) <| xI1 st fun x r => k (pc + 1) ls (.long x.toInt64 :: r) M c s
  | .i2b => xG (decide (len = 1)) <| xI1 st fun x r => k (pc + 1) ls (.int x.toInt8.toInt32 :: r) M c s
  | .i2c => xG (decide (len = 1)) <| xI1 st fun x r => k (pc + 1) ls (.int (x.toUInt32 % 65536).toInt32 :: r) M c s
  | .l2i => xG (decide (len = 1)) <| xL1 st fun x r => k (pc + 1) ls (.int x.toInt32 :: r) M c s
  | .ladd => xG (decide (len = 1)) <| xL2 st fun x y r => k (pc + 1) ls (.long (x + y) :: r) M c s
  | .lsub => xG (decide (len = 1)) <| xL2 st fun x y r => k (pc + 1) ls (.long (x - y) :: r) M c s
  | .lmul => xG (decide (len = 1)) <| xL2 st fun x y r => k (pc + 1) ls (.long (x * y) :: r) M c s
  | .ldiv => xG (decide (len = 1)) <| xL2 st fun x y r => xG (!decide (y = 0)) <| k (pc + 1) ls (.long (x / y) :: r) M c s
  | .lneg => xG (decide (len = 1)) <| xL1 st fun x r => k (pc + 1) ls (.long (-x) :: r) M c s
  | .lcmp => xG (decide (len = 1)) <| xL2 st fun x y r => k (pc + 1) ls (.int (lg_cmp x y) :: r) M c s
  | .dup => xG (decide (len = 1)) <| xV1 st fun v r => xG (xOne v) <| k (pc + 1) ls (v :: v :: r) M c s
  | .pop => xG (decide (len = 1)) <| xV1 st fun v r => xG (xOne v) <| k (pc + 1) ls r M c s
  | .dup2 => xG (decide (len = 1)) <| xV2 st fun v w r => xG (xOne v && xOne w) <| k (pc + 1) ls (v :: w :: v :: w :: r) M c s
  | .goto off => xG (decide (len = 3)) <| xJ pc off fun t => k t ls st M c s
  | .ifCond cd off => xG (decide (len = 3)) <| xI1 st fun x r => xJ pc off fun t => xIf (xCmp cd x 0) (k t ls r M c s) (k (pc + 3) ls r M c s)
  | .if_icmp cd off => xG (decide (len = 3)) <| xI2 st fun x y r => xJ pc off fun t => xIf (xCmp cd x y) (k t ls r M c s) (k (pc + 3) ls r M c s)
  | .tableswitch d lo hi offs => xI1 st fun x r => xTab pc d lo hi offs x fun t => k t ls r M c s
  | .lookupswitch d ps => xI1 st fun x r => xLook pc d ps x fun t => k t ls r M c s
  | .iaload => xG (decide (len = 1)) <| xRI st fun a j r => xIf (decide (a = xSc)) (xOp h.1 fun X => xG (xIn j X.1) <| k (pc + 1) ls (.int (X.2 j.toNatClampNeg) :: r) M c s) (xArI M a fun t n f => xG (decide (t = 1) && xIn j n) <| k (pc + 1) ls (.int (f j.toNatClampNeg) :: r) M c s)
  | .baload => xG (decide (len = 1)) <| xRI st fun a j r => xArI M a fun t n f => xG ((decide (t = 0) || decide (t = 3)) && xIn j n) <| k (pc + 1) ls (.int (f j.toNatClampNeg) :: r) M c s
  | .laload => xG (decide (len = 1)) <| xRI st fun a j r => xArL M a fun t n f => xG (decide (t = 2) && xIn j n) <| k (pc + 1) ls (.long (f j.toNatClampNeg) :: r) M c s
  | .aaload => xG (decide (len = 1)) <| xRI st fun a j r => xArR M a fun t n f => xG (decide (4 ≤ t) && (decide (t < 8) && xIn j n)) <| xOp (f j.toNatClampNeg) fun q => k (pc + 1) ls (.ref q :: r) M c s
  | .iastore => xG (decide (len = 1)) <| xVRI st fun a j v r => xI1 [v] fun x _ => xArI M a fun t n f => xG (decide (t = 1) && xIn j n) <| k (pc + 1) ls r (M.set a (.inl (t, n, .inl (upd f j.toNatClampNeg x)))) c s
  | .bastore => xG (decide (len = 1)) <| xVRI st fun a j v r => xI1 [v] fun x _ => xArI M a fun t n f => xG ((decide (t = 0) || decide (t = 3)) && xIn j n) <| k (pc + 1) ls r (M.set a (.inl (t, n, .inl (upd f j.toNatClampNeg (vp_nar (xAty t) x))))) c s
  | .lastore => xG (decide (len = 1)) <| xVRI st fun a j v r => xL1 [v] fun x _ => xArL M a fun t n f => xG (decide (t = 2) && xIn j n) <| k (pc + 1) ls r (M.set a (.inl (t, n, .inr (.inl (vp_updL f j.toNatClampNeg x))))) c s
  | .aastore => xG (decide (len = 1)) <| xVRI st fun a j v r => xR1 [v] fun q _ => xArR M a fun t n f => xObj M q fun ci _ => xG (decide (xAoc ci = some t) && (decide (a ≠ q) && xIn j n)) <| k (pc + 1) ls r (M.set a (.inl (t, n, .inr (.inr (va_up f j.toNatClampNeg (some q)))))) c s
  | .arraylength => xG (decide (len = 1)) <| xR1 st fun a r => xIf (decide (a = xSc)) (xOp h.1 fun X => k (pc + 1) ls (.int (Int32.ofNat X.1) :: r) M c s) (xArr M a fun t n _ => xG (decide (t < 8)) <| k (pc + 1) ls (.int (Int32.ofNat n) :: r) M c s)
  | .getfield i => xG (decide (len = 3)) <| xR1 st fun a r => xOp (xFld h.2.2.1 i) fun row => xObj M a fun ci fs => xG (decide (ci = row.2.1)) <| xOp (fs[row.2.2.1]?) fun v => k (pc + 3) ls (v :: r) M c s
  | .putfield i => xG (decide (len = 3)) <| xVR st fun a v r => xOp (xFld h.2.2.1 i) fun row => xObj M a fun ci fs => xG (decide (ci = row.2.1) && (decide (row.2.2.1 < fs.length) && (xFit (xTy ci row.2.2.1) v && (!((xCl ci).2.1 row.2.2.1).2.2.2 || (h.2.1 && decide (ci = h.2.2.1)))))) <| k (pc + 3) ls r (M.set a (.inr (ci, fs.set row.2.2.1 v))) c s
  | .new i => xG (decide (len = 3)) <| xOp (xNew h.2.2.1 i) fun row => xG (decide (c + 1 ≤ h.2.2.2.2.1) && (decide (s + (xCl row.2.1).2.2 ≤ h.2.2.2.2.2) && decide (M.length < xSc))) <| k (pc + 3) ls (.ref M.length :: st) (M ++ [.inr (row.2.1, xNewO row.2.1)]) (c + 1) (s + (xCl row.2.1).2.2)
  | .newarray t => xG (decide (len = 2)) <| xI1 st fun n r => xOp (xNaT t) fun t0 => xG (decide (c + 1 ≤ h.2.2.2.2.1) && (decide (s + n.toNatClampNeg ≤ h.2.2.2.2.2) && (decide (M.length < xSc) && (!decide (n < 0) && decide (n.toNatClampNeg ≤ 10000))))) <| k (pc + 2) ls (.ref M.length :: r) (M ++ [.inl (t0, n.toNatClampNeg, xNew0 t0)]) (c + 1) (s + n.toNatClampNeg)
  | .anewarray i => xG (decide (len = 3)) <| xI1 st fun n r => xOp (xNew h.2.2.1 i) fun row => xOp (xAoc row.2.1) fun t0 => xG (decide (c + 1 ≤ h.2.2.2.2.1) && (decide (s + n.toNatClampNeg ≤ h.2.2.2.2.2) && (decide (M.length < xSc) && (!decide (n < 0) && decide (n.toNatClampNeg ≤ 10000))))) <| k (pc + 3) ls (.ref M.length :: r) (M ++ [.inl (t0, n.toNatClampNeg, xNew0 t0)]) (c + 1) (s + n.toNatClampNeg)
  | .invokevirtual i => xG (decide (len = 3)) <| xOp (xCall h.2.2.1 i) fun row => xInv h E row.2.1 1 pc ls st M c s k
  | .invokestatic i => xG (decide (len = 3)) <| xStat h E i pc ls st M c s k
  | .invokespecial i => xG (decide (len = 3)) <| xSpec h E i pc ls st M c s k
  | .ireturn => xG (decide (len = 1)) <| xRtI st fun v => xG (xRet h v && (decide (c = h.2.2.2.2.1) && decide (s ≤ h.2.2.2.2.2))) (post (some (.int v)) M)
  | .lreturn => xG (decide (len = 1)) <| xRtL st fun v => xG (decide (h.2.2.2.1 = some .long) && (decide (c = h.2.2.2.2.1) && decide (s ≤ h.2.2.2.2.2))) (post (some (.long v)) M)
  | .areturn => xG (decide (len = 1)) <| xRtR st fun a => xG (xIsO h.2.2.2.1 && (decide (c = h.2.2.2.2.1) && decide (s ≤ h.2.2.2.2.2))) (post (some (.ref a)) M)
  | .return_ => xG (decide (len = 1)) <| xRtV st (xG (decide (h.2.2.2.1 = none) && (decide (c = h.2.2.2.2.1) && decide (s ≤ h.2.2.2.2.2))) (post none M))
  | _ => False
/-- n instructions of a frame -/
def xF (h : xH) (cc : ByteArray) (E : xEv) : Nat → Nat → xL → List Value → xM → Nat → Nat → xPost → Prop
  | 0, _, _, _, _, _, _, _ => False
  | n + 1, pc, ls, st, M, c, s, post => match decode cc pc with
    | .ok (i, len) => xS h E i len pc ls st M c s (fun pc ls st M c s => xF h cc E n pc ls st M c s post) post
    | _ => False
/-- the locals that a method begins with -/
def xSl (vs : List Value) : xL := vs.flatMap fun v => if v.category = 2 then [some v, none] else [some v]
def xEnt (vs : List Value) (n : Nat) : xL := xSl vs ++ List.replicate (n - (xSl vs).length) none
def xHd (z : Nat) (r : xMrow) : xH := (none, decide (r.2.2.2.2.2.2.1 = 2), r.2.2.2.2.1, r.2.2.2.1, (xMc z).1, (xMc z).2)
/-- the text constant's length() and charAt(int) -/
def xStrI (d z : Nat) (as : List Value) (M : xM) (post : xPost) : Prop := match as with
  | [.ref a] => xG (decide (a = xSc + 1) && (decide (z = 57) && decide (4 ≤ d))) (post (some (.int 73)) M)
  | [.ref a, .int j] => xG (decide (a = xSc + 1) && (decide (z = 59) && (decide (4 ≤ d) && xIn j 73))) (post (some (.int (xChr j))) M)
  | _ => False
/-- a method, its calls at most d deep, each frame of at most N instructions -/
def xW (N : Nat) : Nat → xEv
  | 0 => fun _ _ _ _ => False
  | d + 1 => fun z as M post => xIf (decide (z = 57) || decide (z = 59)) (xStrI d z as M post) <| xOp (xMet z) fun r => xG (decide ((xSl as).length ≤ r.2.2.1)) (xF (xHd z r) r.2.1 (xW N d) N 0 (xEnt as r.2.2.1) [] M 0 0 post)
