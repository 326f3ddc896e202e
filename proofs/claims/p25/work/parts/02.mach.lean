/-! THE PURE MACHINE: a memory of logical addresses (address = 64 * number + code of its kind), a step, a run by fuel, and 'Ex': the run ends with what Q says. No fact of the kit is in it. -/
abbrev jM : Type := (Nat → Nat → Int32) × (Nat → Nat → Int64) × (Nat → Nat → Option Nat) × List Nat × Nat × Nat × Nat
def jI (μ : jM) : Nat → Nat → Int32 := μ.1
def jL (μ : jM) : Nat → Nat → Int64 := μ.2.1
def jQ (μ : jM) : Nat → Nat → Option Nat := μ.2.2.1
def jA (μ : jM) : List Nat := μ.2.2.2.1
def jX (μ : jM) : Nat := μ.2.2.2.2.1
/-- how many objects of the class, of the law there are -/
def jC (μ : jM) : Nat := μ.2.2.2.2.2.1
def jY (μ : jM) : Nat := μ.2.2.2.2.2.2
/-- codes of what the law makes -/
def jlaw (c : Nat) : Bool := bif Nat.blt c 10 then false else bif Nat.blt c 15 then true else Nat.blt 33 c
def j2 {α : Type} (f : Nat → Nat → α) (a k : Nat) (v : α) : Nat → Nat → α := fun b j => if b = a then (if j = k then v else f b j) else f b j
def jrow {α : Type} (f : Nat → Nat → α) (a : Nat) (g : Nat → α) : Nat → Nat → α := fun b => if b = a then g else f b
def jsI (μ : jM) (a k : Nat) (v : Int32) : jM := (j2 (jI μ) a k v, jL μ, jQ μ, jA μ, jX μ, jC μ, jY μ)
def jsL (μ : jM) (a k : Nat) (v : Int64) : jM := (jI μ, j2 (jL μ) a k v, jQ μ, jA μ, jX μ, jC μ, jY μ)
def jsQ (μ : jM) (a k : Nat) (v : Option Nat) : jM := (jI μ, jL μ, j2 (jQ μ) a k v, jA μ, jX μ, jC μ, jY μ)
def jsR (μ : jM) (a : Nat) (g : Nat → Int32) : jM := (jrow (jI μ) a g, jL μ, jQ μ, jA μ, jX μ, jC μ, jY μ)
def jsP (μ : jM) (a : Nat) (g : Nat → Option Nat) : jM := (jI μ, jL μ, jrow (jQ μ) a g, jA μ, jX μ, jC μ, jY μ)
def jadr (μ : jM) (c : Nat) : Nat := 64 * (bif jlaw c then jY μ else jC μ) + c
def jnew (μ : jM) (c : Nat) : jM := (jrow (jI μ) (jadr μ c) (fun _ => 0), jrow (jL μ) (jadr μ c) (fun _ => 0), jrow (jQ μ) (jadr μ c) (fun _ => none), jA μ ++ [jadr μ c], jX μ, bif jlaw c then jC μ else jC μ + 1, bif jlaw c then jY μ + 1 else jY μ)
/-- an array of n places -/
def jnewD (μ : jM) (c n : Nat) : jM := jsL (jnew μ c) (jadr μ c) 0 (Int64.ofNat n)
def jthr (μ : jM) : jM := (jI μ, jL μ, jQ μ, jA μ, jX μ + 1, jC μ, jY μ)
abbrev jO : Type := Option Value ⊕ Nat
abbrev jF : Type := Nat × List (Option Value) × List Value × jM
abbrev jT : Type := jF ⊕ (jO × jM) ⊕ (Nat × List Value × Nat × List (Option Value) × List Value)
def jN (pc : Nat) (ls : List (Option Value)) (st : List Value) (μ : jM) : Option jT := some (.inl (pc, ls, st, μ))
def jclr (ls : List (Option Value)) : Nat → List (Option Value)
  | 0 => ls
  | a + 1 => match ls[a]? with
    | some (some (.long _)) => ls.set a none
    | some (some (.double _)) => ls.set a none
    | _ => ls
def jst (ls : List (Option Value)) (a : Nat) (v : Value) : List (Option Value) := (jclr ls a).set a (some v)
def jst2 (ls : List (Option Value)) (a : Nat) (v : Value) : List (Option Value) := ((jclr ls a).set a (some v)).set (a + 1) none
def jcat (st : List Value) : Nat := (st.map fun v => v.category).sum
def jget (c b x : Nat) (μ : jM) : Value :=
  bif Nat.beq c 40 then (bif Nat.beq b 0 then .int (Int32.ofNat (x / 64)) else .ref (jktx (x / 64)))
  else bif Nat.beq c 41 && Nat.beq (x % 64) 41 then (bif Nat.beq b 2 then .ref (x + 2) else .int 0)
  else bif Nat.beq c 45 then .int (Int32.ofNat (x / 64) - 128)
  else bif Nat.beq (b % 4) 0 then .int (jI μ x (b / 4)) else bif Nat.beq (b % 4) 1 then .long (jL μ x (b / 4)) else va_rf (jQ μ x (b / 4))
/-- arrays: what their elements are (8: constants of Integer), how many, what is read; constants among them -/
def jty (x : Nat) : Nat :=
  match jak (x % 64) with
  | some (t, _) => t
  | none => match jdk (x % 64) with
    | some t => t
    | none => bif Nat.beq (x % 64) 44 then 0 else bif Nat.beq (x % 64) 43 then 1 else bif Nat.beq x 42 then 0 else bif Nat.beq x 106 then 3 else bif Nat.beq x 170 then 8 else bif Nat.beq x 234 then 1 else bif Nat.beq x 298 then 1 else bif Nat.beq x 362 then 6 else 9
/-- how many places an array of any length has -/
def jdn (μ : jM) (x : Nat) : Nat := (jL μ x 0).toInt.toNat
def jln (x : Nat) (μ : jM) : Nat :=
  match jak (x % 64) with
  | some (_, n) => n
  | none => match jdk (x % 64) with
    | some _ => jdn μ x
    | none => bif Nat.beq (x % 64) 44 then (jI μ 45 0).toNatClampNeg else bif Nat.beq (x % 64) 43 then (jstr (x / 64)).length else bif Nat.beq x 170 then 256 else bif Nat.beq x 234 then 100 else bif Nat.beq x 298 then 100 else bif Nat.beq x 362 then 0 else 42
def jmade (x : Nat) : Bool := (jak (x % 64)).isSome || (jdk (x % 64)).isSome
def jrdI (x i : Nat) (μ : jM) : Int32 := bif Nat.beq (x % 64) 42 then (bif Nat.beq x 234 then jtens i else bif Nat.beq x 298 then jones i else jswm i) else bif Nat.beq (x % 64) 43 then (jstr (x / 64)).getD i 0 else jI μ x i
def jrdQ (x i : Nat) (μ : jM) : Option Nat := bif Nat.beq x 106 then some (40 + 64 * i) else bif Nat.beq x 170 then some (45 + 64 * i) else jQ μ x i
/-- references that can be compared: both constants of Kind, or one of them made -/
def jacm (x y : Nat) : Bool := Nat.beq x y || ((Nat.beq (x % 64) 40 && Nat.beq (y % 64) 40) || (Nat.blt (x % 64) 40 || Nat.blt (y % 64) 40))
/-- what can stand in an array of references -/
def jast (t : Nat) (v : Value) : Bool := match v with
  | .ref u => bif Nat.beq t 3 then Nat.beq (u % 64) 40 else bif Nat.beq t 4 then Nat.beq (u % 64) 35 else bif Nat.beq t 5 then Nat.beq (u % 64) 41 || Nat.beq (u % 64) 14 else Nat.beq t 6 && (Nat.beq (u % 64) 45 || Nat.beq (u % 64) 37)
  | .null => Nat.beq t 6
  | _ => false
def jrq (v : Value) : Option Nat := match v with
  | .ref u => some u
  | _ => none
def jin (i : Int32) (n : Nat) : Bool := !(decide (i < 0) || Nat.ble n i.toNatClampNeg)
def jsw (sw : List (Int32 × Nat)) (d : Nat) (x : Int32) : Nat := match sw with
  | [] => d
  | (v, t) :: r => if x = v then t else jsw r d x
def jcnd (c : ClassFile.Cond) (x y : Int32) : Bool := match c with
  | .eq => decide (x = y)
  | .ne => decide (¬ x = y)
  | .lt => decide (x < y)
  | .ge => decide (y ≤ x)
  | .gt => decide (y < x)
  | .le => decide (x ≤ y)
def jpush (E : jE) (pc : Nat) (ls : List (Option Value)) (st : List Value) (μ : jM) (v : Value) : Option jT := jN (pc + E.2.1) ls (v :: st) μ
def jload (E : jE) (pc : Nat) (ls : List (Option Value)) (st : List Value) (μ : jM) (ok : Value → Bool) : Option jT :=
  match ls[E.2.2.1]? with
  | some (some v) => bif ok v then jN (pc + E.2.1) ls (v :: st) μ else none
  | _ => none
def jisI (v : Value) : Bool := match v with | .int _ => true | _ => false
def jisL (v : Value) : Bool := match v with | .long _ => true | _ => false
def jisD (v : Value) : Bool := match v with | .double _ => true | _ => false
def jisR (v : Value) : Bool := match v with | .ref _ => true | .null => true | _ => false
def jop2 (E : jE) (pc : Nat) (ls : List (Option Value)) (st : List Value) (μ : jM) (f : Int32 → Int32 → Int32) : Option jT :=
  match st with
  | .int y :: .int x :: r => jN (pc + E.2.1) ls (.int (f x y) :: r) μ
  | _ => none
def jopL (E : jE) (pc : Nat) (ls : List (Option Value)) (st : List Value) (μ : jM) (f : Int64 → Int64 → Value) : Option jT :=
  match st with
  | .long y :: .long x :: r => jN (pc + E.2.1) ls (f x y :: r) μ
  | _ => none
def jop1 (E : jE) (pc : Nat) (ls : List (Option Value)) (st : List Value) (μ : jM) (f : Int32 → Value) : Option jT :=
  match st with
  | .int x :: r => jN (pc + E.2.1) ls (f x :: r) μ
  | _ => none
def jspr : List Value → List (Option Value)
  | [] => []
  | .long x :: r => some (.long x) :: none :: jspr r
  | .double x :: r => some (.double x) :: none :: jspr r
  | v :: r => some v :: jspr r
/-- the receiver is there, and of the callee's class -/
def jrcv (j : Nat) (as : List Value) : Bool := match as with
  | .ref x :: _ => Nat.beq (x % 64) (jmC j) || (Nat.beq (jmC j) 41 && Nat.beq (x % 64) 14)
  | _ => false
def jcall (E : jE) (pc : Nat) (ls : List (Option Value)) (st : List Value) (virt : Bool) : Option jT :=
  let as := (st.take E.2.2.2.1).reverse
  let r := st.drop E.2.2.2.1
  bif Nat.ble E.2.2.2.1 st.length && (Nat.ble (jcat r) 8 && ((!virt || jrcv E.2.2.1 as) && Nat.ble (jspr as).length (jmL E.2.2.1))) then some (.inr (.inr (E.2.2.1, as, pc + 3, ls, r))) else none
/-- a call by an interface: five bytes long -/
def jcall5 (E : jE) (pc : Nat) (ls : List (Option Value)) (st : List Value) : Option jT :=
  let as := (st.take E.2.2.2.1).reverse
  let r := st.drop E.2.2.2.1
  bif Nat.ble E.2.2.2.1 st.length && (Nat.ble (jcat r) 8 && (jrcv E.2.2.1 as && Nat.ble (jspr as).length (jmL E.2.2.1))) then some (.inr (.inr (E.2.2.1, as, pc + 5, ls, r))) else none
/-- a virtual call that looks at the receiver's class -/
def jdsp (E : jE) (st : List Value) : jE := match (st.take E.2.2.2.1).reverse with
  | .ref x :: _ => (E.1, E.2.1, jsw E.2.2.2.2.2 1000 (Int32.ofNat (x % 64)), E.2.2.2)
  | _ => (E.1, E.2.1, 1000, E.2.2.2)
def jret (o : Option Value) (μ : jM) : Option jT := some (.inr (.inl (.inl o, μ)))
def jrok (t : Nat) (v : Int32) : Bool := bif Nat.beq t 0 then true else bif Nat.beq t 1 then decide (v = 0) || decide (v = 1) else bif Nat.beq t 2 then decide (v.toInt8.toInt32 = v) else decide ((v.toUInt32 % 65536).toInt32 = v)
def jcpt (x y : Nat) : Bool := jmade y && ((Nat.beq (jty x) 0 && Nat.beq (jty y) 0) || (Nat.beq (jty x) 1 && Nat.beq (jty y) 1)) && (jmade x || Nat.beq (x % 64) 43)
def jcpq (x y : Nat) : Bool := Nat.beq (x % 64) 39 && Nat.beq (y % 64) 39
def jcopy (pc : Nat) (ls : List (Option Value)) (st : List Value) (μ : jM) : Option jT := match st with
  | .int n :: .int dp :: .ref y :: .int sp :: .ref x :: r =>
    bif !decide (sp < 0) && (!decide (dp < 0) && (!decide (n < 0) && (Nat.ble (sp.toNatClampNeg + n.toNatClampNeg) (jln x μ) && (Nat.ble (dp.toNatClampNeg + n.toNatClampNeg) (jln y μ) && Nat.ble (jcat r) 8)))) then
      bif jcpt x y then jN (pc + 3) ls r (jsR μ y (va_cpy (fun k => jrdI x k μ) (jI μ y) sp.toNatClampNeg dp.toNatClampNeg n.toNatClampNeg))
      else bif jcpq x y then jN (pc + 3) ls r (jsP μ y (va_cpy (jQ μ x) (jQ μ y) sp.toNatClampNeg dp.toNatClampNeg n.toNatClampNeg)) else none
    else none
  | _ => none
/-- a copy of an array of bytes -/
def jclone (pc : Nat) (ls : List (Option Value)) (st : List Value) (μ : jM) : Option jT := match st with
  | .ref x :: r => bif Nat.beq (x % 64) 36 && Nat.ble (jcat r) 8 then jN (pc + 3) ls (.ref (jadr μ 36) :: r) (jsR (jnewD μ 36 (jdn μ x)) (jadr μ 36) (jI μ x)) else none
  | _ => none
/-- casts that hold: to what, from which -/
def jcast (a : Nat) (v : Value) : Bool := match v with
  | .null => true
  | .ref x => Nat.beq (x % 64) a || (Nat.beq a 41 && Nat.beq (x % 64) 14)
  | _ => false
def jmm (pc : Nat) (ls : List (Option Value)) (st : List Value) (μ : jM) (f : Int32 → Int32 → Int32) : Option jT := match st with
  | .int y :: .int x :: r => bif Nat.ble (jcat r) 8 then jN (pc + 3) ls (.int (f x y) :: r) μ else none
  | _ => none
def jstep (E : jE) (pc : Nat) (ls : List (Option Value)) (st : List Value) (μ : jM) : Option jT :=
  match E.1 with
  | .iconst _ | .bipush _ | .sipush _ => jpush E pc ls st μ (.int E.2.2.2.2.1)
  | .lconst _ | .ldc2_w _ => jpush E pc ls st μ (.long (Int64.ofNat E.2.2.1))
  | .dconst _ => jpush E pc ls st μ (.double FP.dconst0)
  | .ldc _ | .ldc_w _ => jpush E pc ls st μ (bif Nat.beq E.2.2.1 0 then .int E.2.2.2.2.1 else .ref E.2.2.1)
  | .aconst_null => jpush E pc ls st μ .null
  | .iload_n _ | .iload _ => jload E pc ls st μ jisI
  | .lload_n _ | .lload _ => jload E pc ls st μ jisL
  | .dload_n _ | .dload _ => jload E pc ls st μ jisD
  | .aload_n _ | .aload _ => jload E pc ls st μ jisR
  | .istore_n _ | .istore _ => match st with
    | .int x :: r => bif Nat.blt E.2.2.1 ls.length then jN (pc + E.2.1) (jst ls E.2.2.1 (.int x)) r μ else none
    | _ => none
  | .lstore_n _ | .lstore _ => match st with
    | .long x :: r => bif Nat.blt (E.2.2.1 + 1) ls.length then jN (pc + E.2.1) (jst2 ls E.2.2.1 (.long x)) r μ else none
    | _ => none
  | .dstore_n _ | .dstore _ => match st with
    | .double x :: r => bif Nat.blt (E.2.2.1 + 1) ls.length then jN (pc + E.2.1) (jst2 ls E.2.2.1 (.double x)) r μ else none
    | _ => none
  | .astore_n _ | .astore _ => match st with
    | .ref x :: r => bif Nat.blt E.2.2.1 ls.length then jN (pc + E.2.1) (jst ls E.2.2.1 (.ref x)) r μ else none
    | .null :: r => bif Nat.blt E.2.2.1 ls.length then jN (pc + E.2.1) (jst ls E.2.2.1 .null) r μ else none
    | _ => none
  | .iinc _ _ => match ls[E.2.2.1]? with
    | some (some (.int x)) => jN (pc + E.2.1) (jst ls E.2.2.1 (.int (x + E.2.2.2.2.1))) st μ
    | _ => none
  | .iadd => jop2 E pc ls st μ fun x y => x + y
  | .isub => jop2 E pc ls st μ fun x y => x - y
  | .imul => jop2 E pc ls st μ fun x y => x * y
  | .iand => jop2 E pc ls st μ fun x y => x &&& y
  | .ior => jop2 E pc ls st μ fun x y => x ||| y
  | .ixor => jop2 E pc ls st μ fun x y => x ^^^ y
  | .ishl => jop2 E pc ls st μ fun x y => x <<< (y &&& 31)
  | .ishr => jop2 E pc ls st μ fun x y => x >>> (y &&& 31)
  | .iushr => jop2 E pc ls st μ fun x y => (x.toUInt32 >>> (y.toUInt32 &&& Int32.toUInt32 31)).toInt32
  | .idiv => match st with
    | .int y :: .int x :: r => bif decide (y = 0) then none else jN (pc + E.2.1) ls (.int (x / y) :: r) μ
    | _ => none
  | .irem => match st with
    | .int y :: .int x :: r => bif decide (y = 0) then none else jN (pc + E.2.1) ls (.int (x - x / y * y) :: r) μ
    | _ => none
  | .ineg => jop1 E pc ls st μ fun x => .int (-x)
  | .i2l => jop1 E pc ls st μ fun x => .long x.toInt64
  | .i2b => jop1 E pc ls st μ fun x => .int x.toInt8.toInt32
  | .i2c => jop1 E pc ls st μ fun x => .int (x.toUInt32 % 65536).toInt32
  | .i2d => jop1 E pc ls st μ fun x => .double (FP.i2d x)
  | .ladd => jopL E pc ls st μ fun x y => .long (x + y)
  | .lmul => jopL E pc ls st μ fun x y => .long (x * y)
  | .lcmp => jopL E pc ls st μ fun x y => .int (lg_cmp x y)
  | .ddiv => match st with
    | .double y :: .double x :: r => bif decide (FP.ddiv x y &&& 0x7fffffffffffffff ≤ 0x7ff0000000000000) then jN (pc + E.2.1) ls (.double (FP.ddiv x y) :: r) μ else none
    | _ => none
  | .dcmp o => match st with
    | .double y :: .double x :: r => jN (pc + E.2.1) ls (.int (Op.cmpValue (FP.dcmp x y) o) :: r) μ
    | _ => none
  | .dup => match st with
    | v :: r => bif Nat.beq v.category 1 then jN (pc + E.2.1) ls (v :: v :: r) μ else none
    | _ => none
  | .pop => match st with
    | v :: r => bif Nat.beq v.category 1 then jN (pc + E.2.1) ls r μ else none
    | _ => none
  | .dup_x1 => match st with
    | v :: w :: r => bif Nat.beq v.category 1 && Nat.beq w.category 1 then jN (pc + E.2.1) ls (v :: w :: v :: r) μ else none
    | _ => none
  | .dup2 => match st with
    | v :: w :: r => bif Nat.beq v.category 1 && Nat.beq w.category 1 then jN (pc + E.2.1) ls (v :: w :: v :: w :: r) μ else none
    | _ => none
  | .dup2_x1 => match st with
    | u :: v :: w :: r => bif Nat.beq u.category 1 && (Nat.beq v.category 1 && Nat.beq w.category 1) then jN (pc + E.2.1) ls (u :: v :: w :: u :: v :: r) μ else none
    | _ => none
  | .ifnull _ => match st with
    | .ref _ :: r => jN (pc + 3) ls r μ
    | .null :: r => jN E.2.2.1 ls r μ
    | _ => none
  | .ifnonnull _ => match st with
    | .ref _ :: r => jN E.2.2.1 ls r μ
    | .null :: r => jN (pc + 3) ls r μ
    | _ => none
  | .ifCond c _ => match st with
    | .int x :: r => jN (bif jcnd c x 0 then E.2.2.1 else pc + 3) ls r μ
    | _ => none
  | .if_icmp c _ => match st with
    | .int y :: .int x :: r => jN (bif jcnd c x y then E.2.2.1 else pc + 3) ls r μ
    | _ => none
  | .if_acmp .eq _ => match st with
    | .ref y :: .ref x :: r => bif jacm x y then jN (bif Nat.beq x y then E.2.2.1 else pc + 3) ls r μ else none
    | _ => none
  | .if_acmp .ne _ => match st with
    | .ref y :: .ref x :: r => bif jacm x y then jN (bif Nat.beq x y then pc + 3 else E.2.2.1) ls r μ else none
    | _ => none
  | .goto _ => jN E.2.2.1 ls st μ
  | .tableswitch _ _ _ _ | .lookupswitch _ _ => match st with
    | .int x :: r => jN (jsw E.2.2.2.2.2 E.2.2.1 x) ls r μ
    | _ => none
  | .getfield _ => match st with
    | .ref x :: r => bif Nat.beq (x % 64) E.2.2.1 || (Nat.beq E.2.2.1 41 && Nat.beq (x % 64) 14) then jN (pc + 3) ls (jget E.2.2.1 E.2.2.2.1 x μ :: r) μ else none
    | _ => none
  | .putfield _ => match st with
    | .int v :: .ref x :: r => bif Nat.beq (x % 64) E.2.2.1 && Nat.beq (E.2.2.2.1 % 4) 0 then jN (pc + 3) ls r (jsI μ x (E.2.2.2.1 / 4) v) else none
    | .ref y :: .ref x :: r => bif Nat.beq (x % 64) E.2.2.1 && Nat.beq (E.2.2.2.1 % 4) 2 then jN (pc + 3) ls r (jsQ μ x (E.2.2.2.1 / 4) (some y)) else none
    | _ => none
  | .getstatic _ => jN (pc + 3) ls ((bif Nat.beq E.2.2.2.1 0 then .ref E.2.2.1 else bif Nat.beq E.2.2.2.1 1 then .int E.2.2.2.2.1 else .retAddr 0) :: st) μ
  | .arraylength => match st with
    | .ref x :: r => bif Nat.blt (jty x) 9 then jN (pc + 1) ls (.int (Int32.ofNat (jln x μ)) :: r) μ else none
    | _ => none
  | .iaload => match st with
    | .int i :: .ref x :: r => bif Nat.beq (jty x) 0 && jin i (jln x μ) then jN (pc + 1) ls (.int (jrdI x i.toNatClampNeg μ) :: r) μ else none
    | _ => none
  | .baload => match st with
    | .int i :: .ref x :: r => bif (Nat.beq (jty x) 1 || Nat.beq (jty x) 7) && jin i (jln x μ) then jN (pc + 1) ls (.int (jrdI x i.toNatClampNeg μ) :: r) μ else none
    | _ => none
  | .laload => match st with
    | .int i :: .ref x :: r => bif Nat.beq (jty x) 2 && jin i (jln x μ) then jN (pc + 1) ls (.long (jL μ x i.toNatClampNeg) :: r) μ else none
    | _ => none
  | .aaload => match st with
    | .int i :: .ref x :: r => bif (Nat.ble 3 (jty x) && (Nat.ble (jty x) 6 || Nat.beq (jty x) 8)) && jin i (jln x μ) then jN (pc + 1) ls (va_rf (jrdQ x i.toNatClampNeg μ) :: r) μ else none
    | _ => none
  | .iastore => match st with
    | .int v :: .int i :: .ref x :: r => bif jmade x && (Nat.beq (jty x) 0 && jin i (jln x μ)) then jN (pc + 1) ls r (jsI μ x i.toNatClampNeg v) else none
    | _ => none
  | .bastore => match st with
    | .int v :: .int i :: .ref x :: r => bif jmade x && (Nat.beq (jty x) 1 && jin i (jln x μ)) then jN (pc + 1) ls r (jsI μ x i.toNatClampNeg v.toInt8.toInt32) else bif jmade x && (Nat.beq (jty x) 7 && (decide (v = 1) && jin i (jln x μ))) then jN (pc + 1) ls r (jsI μ x i.toNatClampNeg 1) else none
    | _ => none
  | .lastore => match st with
    | .long v :: .int i :: .ref x :: r => bif jmade x && (Nat.beq (jty x) 2 && jin i (jln x μ)) then jN (pc + 1) ls r (jsL μ x i.toNatClampNeg v) else none
    | _ => none
  | .aastore => match st with
    | v :: .int i :: .ref x :: r => bif jmade x && (jast (jty x) v && jin i (jln x μ)) then jN (pc + 1) ls r (jsQ μ x i.toNatClampNeg (jrq v)) else none
    | _ => none
  | .new _ => bif Nat.ble 1000 E.2.2.1 then (bif Nat.ble (jcat st) 8 then some (.inr (.inl (.inr (E.2.2.1 - 1000), jthr μ))) else none) else jN (pc + 3) ls (.ref (jadr μ E.2.2.1) :: st) (jnew μ E.2.2.1)
  | .newarray _ | .anewarray _ => match st with
    | .int n :: r => bif (jdk E.2.2.1).isSome then (bif decide (n < 0) then none else jN (pc + E.2.1) ls (.ref (jadr μ E.2.2.1) :: r) (jnewD μ E.2.2.1 n.toNatClampNeg)) else bif decide (n = E.2.2.2.2.1) then jN (pc + E.2.1) ls (.ref (jadr μ E.2.2.1) :: r) (jnew μ E.2.2.1) else none
    | _ => none
  | .invokevirtual _ => bif Nat.beq E.2.2.1 1005 then jclone pc ls st μ else bif Nat.beq E.2.2.1 1006 then jcall (jdsp E st) pc ls st true else jcall E pc ls st true
  | .invokeinterface _ _ => jcall5 E pc ls st
  | .checkcast _ => match st with
    | v :: r => bif jcast E.2.2.1 v then jN (pc + 3) ls (v :: r) μ else none
    | _ => none
  | .instanceof _ => match st with
    | .ref x :: r => bif jcast E.2.2.1 (.ref x) then jN (pc + 3) ls (.int 1 :: r) μ else bif Nat.beq (x % 64) 13 && Nat.beq E.2.2.1 41 then jN (pc + 3) ls (.int 0 :: r) μ else none
    | _ => none
  | .invokespecial _ => bif Nat.beq E.2.2.1 1001 then (match st with
      | .ref _ :: r => bif Nat.ble (jcat r) 8 then jN (pc + 3) ls r μ else none
      | _ => none) else jcall E pc ls st true
  | .invokestatic _ => bif Nat.beq E.2.2.1 1002 then jcopy pc ls st μ else bif Nat.beq E.2.2.1 1003 then jmm pc ls st μ (fun x y => if y < x then y else x) else bif Nat.beq E.2.2.1 1004 then jmm pc ls st μ (fun x y => if x < y then y else x) else jcall E pc ls st false
  | .ireturn => match st with
    | [.int v] => bif jrok E.2.2.1 v then jret (some (.int v)) μ else none
    | _ => none
  | .lreturn => match st with
    | [.long v] => jret (some (.long v)) μ
    | _ => none
  | .dreturn => match st with
    | [.double v] => jret (some (.double v)) μ
    | _ => none
  | .areturn => match st with
    | [.ref v] => jret (some (.ref v)) μ
    | [.null] => jret (some .null) μ
    | _ => none
  | .return_ => match st with
    | [] => jret none μ
    | _ => none
  | _ => none
def jent (j : Nat) (as : List Value) : List (Option Value) := jspr as ++ List.replicate (jmL j - (jspr as).length) none
def jhnd (hs : List (Nat × Nat × Nat × Nat × Nat)) (pc c : Nat) : Option (Nat × Nat) := match hs with
  | [] => none
  | (a, b, k, t, x) :: r => bif Nat.ble a pc && (Nat.blt pc b && Nat.beq k c) then some (t, x) else jhnd r pc c
/-- not caught: it goes on to the caller (of a method without handlers) -/
def jun (i c : Nat) (μ : jM) : Option (jO × jM) := match jhs i with
  | [] => some (.inr c, μ)
  | _ => none
def jev : Nat → Nat → Nat → Nat → List (Option Value) → List Value → jM → Option (jO × jM)
  | 0, _, _, _, _, _, _ => none
  | n + 1, d, i, pc, ls, st, μ => match jcode i pc with
    | none => none
    | some E => match jstep E pc ls st μ with
      | none => none
      | some (.inl (pc', ls', st', μ')) => jev n d i pc' ls' st' μ'
      | some (.inr (.inl r)) => some r
      | some (.inr (.inr (j, as, pc', ls', st'))) => match d with
        | 0 => none
        | d' + 1 => match jev n d' j 0 (jent j as) [] μ with
          | none => none
          | some (.inl v, μ') => jev n (d' + 1) i pc' ls' (v.toList ++ st') μ'
          | some (.inr c, μ') => match jhnd (jhs i) pc c with
            | none => jun i c μ'
            | some (t, k) => jev n (d' + 1) i t ((jclr ls' k).set k none) [] μ'
theorem jev_mono : ∀ (n d i pc : Nat) (ls : List (Option Value)) (st : List Value) (μ : jM) (r : jO × jM), jev n d i pc ls st μ = some r → jev (n + 1) d i pc ls st μ = some r := by
  intro n
  induction n with
  | zero => intro d i pc ls st μ r h; cases h
  | succ n ih =>
    intro d i pc ls st μ r h
    rw [jev] at h ⊢
    cases hc : jcode i pc with
    | none => rw [hc] at h; cases h
    | some E =>
      rw [hc] at h
      simp only at h ⊢
      rcases hs : jstep E pc ls st μ with _ | ⟨pc', ls', st', μ'⟩ | r' | ⟨j, as, pc', ls', st'⟩
      · rw [hs] at h; cases h
      · rw [hs] at h; exact ih _ _ _ _ _ _ _ h
      · rw [hs] at h; exact h
      · rw [hs] at h
        cases d with
        | zero => cases h
        | succ d' =>
          simp only at h ⊢
          cases hv : jev n d' j 0 (jent j as) [] μ with
          | none => rw [hv] at h; cases h
          | some q =>
            rw [ih _ _ _ _ _ _ _ hv]
            rw [hv] at h
            obtain ⟨o, μ'⟩ := q
            cases o with
            | inl v => exact ih _ _ _ _ _ _ _ h
            | inr c =>
              simp only at h ⊢
              cases hh : jhnd (jhs i) pc c with
              | none => rw [hh] at h; exact h
              | some q => rw [hh] at h; exact ih _ _ _ _ _ _ _ h
theorem jev_le {n n' d i pc : Nat} {ls : List (Option Value)} {st : List Value} {μ : jM} {r : jO × jM} (hn : n ≤ n') (h : jev n d i pc ls st μ = some r) : jev n' d i pc ls st μ = some r := by
  induction hn with
  | refl => exact h
  | step _ ih => exact jev_mono _ _ _ _ _ _ _ _ ih
/-- the run ends, and Q holds of its end -/
def Ex (d i pc : Nat) (ls : List (Option Value)) (st : List Value) (μ : jM) (Q : jO → jM → Prop) : Prop := ∃ (n : Nat) (o : jO) (μ' : jM), jev n d i pc ls st μ = some (o, μ') ∧ Q o μ'
theorem Ex.mono {d i pc : Nat} {ls : List (Option Value)} {st : List Value} {μ : jM} {Q Q' : jO → jM → Prop} (h : Ex d i pc ls st μ Q) (hQ : ∀ o μ', Q o μ' → Q' o μ') : Ex d i pc ls st μ Q' := by
  obtain ⟨n, o, μ', h1, h2⟩ := h
  exact ⟨n, o, μ', h1, hQ _ _ h2⟩
theorem Ex.step {d i pc pc' : Nat} {ls ls' : List (Option Value)} {st st' : List Value} {μ μ' : jM} {Q : jO → jM → Prop} {E : jE} (hc : jcode i pc = some E) (hs : jstep E pc ls st μ = some (.inl (pc', ls', st', μ'))) (k : Ex d i pc' ls' st' μ' Q) : Ex d i pc ls st μ Q := by
  obtain ⟨n, o, μ2, h1, h2⟩ := k
  refine ⟨n + 1, o, μ2, ?_, h2⟩
  rw [jev, hc]
  simp only [hs]
  exact h1
theorem Ex.done {d i pc : Nat} {ls : List (Option Value)} {st : List Value} {μ μ' : jM} {o : jO} {Q : jO → jM → Prop} {E : jE} (hc : jcode i pc = some E) (hs : jstep E pc ls st μ = some (.inr (.inl (o, μ')))) (k : Q o μ') : Ex d i pc ls st μ Q := by
  refine ⟨1, o, μ', ?_, k⟩
  rw [jev, hc]
  simp only [hs]
/-- what goes on behind a call: Q of the whole, by what the callee answers -/
def jK (d i pc pc' : Nat) (ls' : List (Option Value)) (st' : List Value) (Q : jO → jM → Prop) : jO → jM → Prop := fun o μ' => match o with
  | .inl v => Ex d i pc' ls' (v.toList ++ st') μ' Q
  | .inr c => match jhnd (jhs i) pc c with
    | none => jhs i = [] ∧ Q (.inr c) μ'
    | some (t, k) => Ex d i t ((jclr ls' k).set k none) [] μ' Q
theorem Ex.call {d i pc pc' j : Nat} {ls ls' : List (Option Value)} {as st st' : List Value} {μ : jM} {Q : jO → jM → Prop} {E : jE} (hc : jcode i pc = some E) (hs : jstep E pc ls st μ = some (.inr (.inr (j, as, pc', ls', st'))))
    (k : Ex d j 0 (jent j as) [] μ (jK (d + 1) i pc pc' ls' st' Q)) : Ex (d + 1) i pc ls st μ Q := by
  obtain ⟨n, o, μ2, h1, h2⟩ := k
  cases o with
  | inl v =>
    obtain ⟨n2, o, μ3, h3, h4⟩ := h2
    refine ⟨max n n2 + 1, o, μ3, ?_, h4⟩
    rw [jev, hc]
    simp only [hs, jev_le (Nat.le_max_left n n2) h1]
    exact jev_le (Nat.le_max_right n n2) h3
  | inr c =>
    unfold jK at h2
    simp only at h2
    cases hh : jhnd (jhs i) pc c with
    | none =>
      rw [hh] at h2
      refine ⟨n + 1, .inr c, μ2, ?_, h2.2⟩
      rw [jev, hc]
      simp only [hs, h1, hh]
      unfold jun
      rw [h2.1]
    | some q =>
      rw [hh] at h2
      obtain ⟨t, kk⟩ := q
      obtain ⟨n2, o, μ3, h3, h4⟩ := h2
      refine ⟨max n n2 + 1, o, μ3, ?_, h4⟩
      rw [jev, hc]
      simp only [hs, jev_le (Nat.le_max_left n n2) h1, hh]
      exact jev_le (Nat.le_max_right n n2) h3
/-- several steps at once -/
def jrun : Nat → Nat → Nat → List (Option Value) → List Value → jM → Option jF
  | 0, _, pc, ls, st, μ => some (pc, ls, st, μ)
  | k + 1, i, pc, ls, st, μ => match jcode i pc with
    | none => none
    | some E => match jstep E pc ls st μ with
      | some (.inl (pc', ls', st', μ')) => jrun k i pc' ls' st' μ'
      | _ => none
theorem Ex.run (k : Nat) {d i pc : Nat} (pc' : Nat) {ls : List (Option Value)} (ls' : List (Option Value)) {st : List Value} (st' : List Value) {μ : jM} (μ' : jM) {Q : jO → jM → Prop} (h : jrun k i pc ls st μ = some (pc', ls', st', μ')) (kk : Ex d i pc' ls' st' μ' Q) : Ex d i pc ls st μ Q := by
  induction k generalizing pc ls st μ with
  | zero => cases h; exact kk
  | succ k ih =>
    rw [jrun] at h
    cases hc : jcode i pc with
    | none => rw [hc] at h; cases h
    | some E =>
      rw [hc] at h
      simp only at h
      rcases hs : jstep E pc ls st μ with _ | ⟨pc1, ls1, st1, μ1⟩ | r' | r'
      · rw [hs] at h; cases h
      · rw [hs] at h; exact Ex.step hc hs (ih h)
      · rw [hs] at h; cases h
      · rw [hs] at h; cases h
