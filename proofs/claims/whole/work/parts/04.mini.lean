/-! THE SMALL MACHINE: objects and arrays by (tag, number), ints as Int; 'mmStep' is what an instruction asks, goal first -/
abbrev mmO : Type := Nat × Nat
abbrev mmV : Type := Int ⊕ Int ⊕ Option mmO
abbrev mmX : Type := (Nat → Nat) × Nat × Nat
abbrev mmM : Type := (Nat → Nat → Int → Int) × (Nat → Nat → Int → Option mmO) × mmX
abbrev mmP : Type := Instr × List Nat × Int
def mmR32 (z : Int) : Prop := -2147483648 ≤ z ∧ z ≤ 2147483647
def mmR64 (z : Int) : Prop := -9223372036854775808 ≤ z ∧ z ≤ 9223372036854775807
def mmU {α : Type} (f : Nat → Nat → Int → α) (t i : Nat) (k : Int) (v : α) (t' i' : Nat) (k' : Int) : α := if t' = t ∧ i' = i ∧ k' = k then v else f t' i' k'
/-- a whole row of cells -/
def mmUr {α : Type} (f : Nat → Nat → Int → α) (t i : Nat) (g : Int → α) (t' i' : Nat) (k' : Int) : α := if t' = t ∧ i' = i then g k' else f t' i' k'
def mmAnd (x y : Int) : Int := (Int32.ofInt x &&& Int32.ofInt y).toInt
def mmOr (x y : Int) : Int := (Int32.ofInt x ||| Int32.ofInt y).toInt
def mmShl (x y : Int) : Int := (Int32.ofInt x <<< (Int32.ofInt y &&& 31)).toInt
def mmShr (x y : Int) : Int := (Int32.ofInt x >>> (Int32.ofInt y &&& 31)).toInt
def mmLand (x y : Int) : Int := (Int64.ofInt x &&& Int64.ofInt y).toInt
def mmLor (x y : Int) : Int := (Int64.ofInt x ||| Int64.ofInt y).toInt
def mmLshl (x y : Int) : Int := (Int64.ofInt x <<< ((Int32.ofInt y).toInt64 &&& 63)).toInt
def mmCmp (x y : Int) : Int := if y < x then 1 else if x = y then 0 else -1
def mmG : List (Option mmV) → Nat → Option mmV
  | [], _ => none
  | v :: _, 0 => v
  | _ :: r, i + 1 => mmG r i
def mmKl : Option mmV → Option mmV
  | some (.inr (.inl _)) => none
  | v => v
def mmS1 : List (Option mmV) → Nat → mmV → List (Option mmV)
  | [], _, _ => []
  | _ :: r, 0, v => some v :: r
  | a :: r, 1, v => mmKl a :: mmS1 r 0 v
  | a :: r, i + 2, v => a :: mmS1 r (i + 1) v
def mmS2 : List (Option mmV) → Nat → mmV → List (Option mmV)
  | [], _, _ => []
  | [_], 0, _ => [none]
  | _ :: _ :: r, 0, v => some v :: none :: r
  | a :: r, 1, v => mmKl a :: mmS2 r 0 v
  | a :: r, i + 2, v => a :: mmS2 r (i + 1) v
def mmI1 (o : Option mmV) (f : Int → Prop) : Prop := match o with
  | some (.inl z) => f z
  | _ => False
def mmL1 (o : Option mmV) (f : Int → Prop) : Prop := match o with
  | some (.inr (.inl z)) => f z
  | _ => False
def mmA1 (o : Option mmV) (f : Option mmO → Prop) : Prop := match o with
  | some (.inr (.inr r)) => f r
  | _ => False
def mmPi (st : List mmV) (f : Int → List mmV → Prop) : Prop := match st with
  | .inl z :: r => f z r
  | _ => False
def mmPl (st : List mmV) (f : Int → List mmV → Prop) : Prop := match st with
  | .inr (.inl z) :: r => f z r
  | _ => False
def mmPa (st : List mmV) (f : Option mmO → List mmV → Prop) : Prop := match st with
  | .inr (.inr o) :: r => f o r
  | _ => False
def mmPo (st : List mmV) (f : mmO → List mmV → Prop) : Prop := match st with
  | .inr (.inr (some o)) :: r => f o r
  | _ => False
/-- a value of one word -/
def mmP1 (st : List mmV) (f : mmV → List mmV → Prop) : Prop := match st with
  | .inl z :: r => f (.inl z) r
  | .inr (.inr o) :: r => f (.inr (.inr o)) r
  | _ => False
def mmTk : Nat → List mmV → List mmV → (List mmV → List mmV → Prop) → Prop
  | 0, st, acc, f => f acc st
  | n + 1, v :: st, acc, f => mmTk n st (v :: acc) f
  | _ + 1, [], _, _ => False
def mmPush (r : Option mmV) (st : List mmV) : List mmV := match r with
  | some v => v :: st
  | none => st
def mmSw (z : Int) (K : Nat → Prop) : Int → List Nat → Prop
  | _, [] => True
  | lo, t :: ts => (z = lo → K t) ∧ mmSw z K (lo + 1) ts
def mmLk (z : Int) (K : Nat → Prop) (d : Nat) : List Int → List Nat → Prop
  | [], _ => K d
  | k :: ks, t :: ts => (z = k → K t) ∧ (¬ z = k → mmLk z K d ks ts)
  | _ :: _, [] => False
def mmIf (c : Jvm.ClassFile.Cond) (x y : Int) (a b : Prop) : Prop := match c with
  | .eq => (x = y → a) ∧ (¬ x = y → b)
  | .ne => (¬ x = y → a) ∧ (x = y → b)
  | .lt => (x < y → a) ∧ (y ≤ x → b)
  | .ge => (y ≤ x → a) ∧ (x < y → b)
  | .gt => (y < x → a) ∧ (x ≤ y → b)
  | .le => (x ≤ y → a) ∧ (y < x → b)
/-- the receiver of a call is an object of the class -/
def mmRcv (cls : Nat) (a : List mmV) : Prop := match a with
  | .inr (.inr (some o)) :: _ => mmKo o.1 = some cls
  | _ => False
/-- what an instruction asks: C the callees, J the labels, Q the end, k the next instruction -/
def mmStep (C : Nat → List mmV → mmM → (Option mmV → mmM → Prop) → Prop) (J : Nat → List (Option mmV) → List mmV → mmM → Prop) (Q : Option mmV → mmM → Prop) (op : mmP)
    (k : List (Option mmV) → List mmV → mmM → Prop) (ls : List (Option mmV)) (st : List mmV) (μ : mmM) : Prop :=
  match op.1 with
  | .aload i => mmA1 (mmG ls i) fun r => k ls (.inr (.inr r) :: st) μ
  | .aload_n i => mmA1 (mmG ls i.val) fun r => k ls (.inr (.inr r) :: st) μ
  | .astore i => mmPa st fun r st => k (mmS1 ls i (.inr (.inr r))) st μ
  | .astore_n i => mmPa st fun r st => k (mmS1 ls i.val (.inr (.inr r))) st μ
  | .iload i => mmI1 (mmG ls i) fun z => k ls (.inl z :: st) μ
  | .iload_n i => mmI1 (mmG ls i.val) fun z => k ls (.inl z :: st) μ
  | .istore i => mmPi st fun z st => k (mmS1 ls i (.inl z)) st μ
  | .istore_n i => mmPi st fun z st => k (mmS1 ls i.val (.inl z)) st μ
  | .lload i => mmL1 (mmG ls i) fun z => k ls (.inr (.inl z) :: st) μ
  | .lload_n i => mmL1 (mmG ls i.val) fun z => k ls (.inr (.inl z) :: st) μ
  | .lstore i => mmPl st fun z st => k (mmS2 ls i (.inr (.inl z))) st μ
  | .lstore_n i => mmPl st fun z st => k (mmS2 ls i.val (.inr (.inl z))) st μ
  | .iconst n => k ls (.inl n :: st) μ
  | .bipush n => k ls (.inl n :: st) μ
  | .sipush n => k ls (.inl n :: st) μ
  | .ldc _ => k ls (.inl op.2.2 :: st) μ
  | .ldc_w _ => k ls (.inl op.2.2 :: st) μ
  | .ldc2_w _ => k ls (.inr (.inl op.2.2) :: st) μ
  | .lconst i => k ls (.inr (.inl (i.val : Int)) :: st) μ
  | .aconst_null => k ls (.inr (.inr none) :: st) μ
  | .iinc i n => mmI1 (mmG ls i) fun z => mmR32 (z + n) ∧ k (mmS1 ls i (.inl (z + n))) st μ
  | .iadd => mmPi st fun y st => mmPi st fun x st => mmR32 (x + y) ∧ k ls (.inl (x + y) :: st) μ
  | .isub => mmPi st fun y st => mmPi st fun x st => mmR32 (x - y) ∧ k ls (.inl (x - y) :: st) μ
  | .imul => mmPi st fun y st => mmPi st fun x st => mmR32 (x * y) ∧ k ls (.inl (x * y) :: st) μ
  | .ineg => mmPi st fun x st => mmR32 (-x) ∧ k ls (.inl (-x) :: st) μ
  | .idiv => mmPi st fun y st => mmPi st fun x st => 0 ≤ x ∧ 0 < y ∧ k ls (.inl (x / y) :: st) μ
  | .irem => mmPi st fun y st => mmPi st fun x st => 0 ≤ x ∧ 0 < y ∧ k ls (.inl (x % y) :: st) μ
  | .iand => mmPi st fun y st => mmPi st fun x st => k ls (.inl (mmAnd x y) :: st) μ
  | .ior => mmPi st fun y st => mmPi st fun x st => k ls (.inl (mmOr x y) :: st) μ
  | .ishl => mmPi st fun y st => mmPi st fun x st => k ls (.inl (mmShl x y) :: st) μ
  | .ishr => mmPi st fun y st => mmPi st fun x st => k ls (.inl (mmShr x y) :: st) μ
  | .ladd => mmPl st fun y st => mmPl st fun x st => mmR64 (x + y) ∧ k ls (.inr (.inl (x + y)) :: st) μ
  | .lsub => mmPl st fun y st => mmPl st fun x st => mmR64 (x - y) ∧ k ls (.inr (.inl (x - y)) :: st) μ
  | .lmul => mmPl st fun y st => mmPl st fun x st => mmR64 (x * y) ∧ k ls (.inr (.inl (x * y)) :: st) μ
  | .lneg => mmPl st fun x st => mmR64 (-x) ∧ k ls (.inr (.inl (-x)) :: st) μ
  | .ldiv => mmPl st fun y st => mmPl st fun x st => y ≠ 0 ∧ mmR64 (x.tdiv y) ∧ k ls (.inr (.inl (x.tdiv y)) :: st) μ
  | .lrem => mmPl st fun y st => mmPl st fun x st => 0 ≤ x ∧ 0 < y ∧ k ls (.inr (.inl (x % y)) :: st) μ
  | .land => mmPl st fun y st => mmPl st fun x st => k ls (.inr (.inl (mmLand x y)) :: st) μ
  | .lor => mmPl st fun y st => mmPl st fun x st => k ls (.inr (.inl (mmLor x y)) :: st) μ
  | .lshl => mmPi st fun y st => mmPl st fun x st => k ls (.inr (.inl (mmLshl x y)) :: st) μ
  | .lcmp => mmPl st fun y st => mmPl st fun x st => k ls (.inl (mmCmp x y) :: st) μ
  | .i2l => mmPi st fun x st => k ls (.inr (.inl x) :: st) μ
  | .l2i => mmPl st fun x st => mmR32 x ∧ k ls (.inl x :: st) μ
  | .dup => mmP1 st fun v r => k ls (v :: v :: r) μ
  | .dup2 => mmP1 st fun v r => mmP1 r fun w r => k ls (v :: w :: v :: w :: r) μ
  | .pop => mmP1 st fun _ r => k ls r μ
  | .getfield _ => mmPo st fun o st => match op.2.1 with
    | [c, f, ty, _] => mmKo o.1 = some c ∧ k ls ((if ty = 3 then .inr (.inr (μ.2.1 o.1 o.2 f)) else .inl (μ.1 o.1 o.2 f)) :: st) μ
    | _ => False
  | .putfield _ => match op.2.1 with
    | [c, f, 3, _] => mmPa st fun r st => mmPo st fun o st => mmKo o.1 = some c ∧ k ls st (μ.1, mmU μ.2.1 o.1 o.2 f r, μ.2.2)
    | [c, f, 0, _] => mmPi st fun z st => mmPo st fun o st => mmKo o.1 = some c ∧ k ls st (mmU μ.1 o.1 o.2 f z, μ.2)
    | [c, f, 1, _] => mmPi st fun z st => mmPo st fun o st => mmKo o.1 = some c ∧ (z = 0 ∨ z = 1) ∧ k ls st (mmU μ.1 o.1 o.2 f z, μ.2)
    | _ => False
  | .iaload => mmPi st fun i st => mmPo st fun o st => match op.2.1 with
    | [] => mmKe o.1 = 0 ∧ 0 ≤ i ∧ i < mmLen o.1 ∧ k ls (.inl (μ.1 o.1 o.2 i) :: st) μ
    | _ => o = (1301, 0) ∧ 0 ≤ i ∧ i < μ.1 1302 0 0 ∧ k ls (.inl (μ.1 1301 0 i) :: st) μ
  | .baload => mmPi st fun i st => mmPo st fun o st => mmKe o.1 = 1 ∧ 0 ≤ i ∧ i < mmLen o.1 ∧ k ls (.inl (μ.1 o.1 o.2 i) :: st) μ
  | .laload => mmPi st fun i st => mmPo st fun o st => mmKe o.1 = 2 ∧ 0 ≤ i ∧ i < mmLen o.1 ∧ k ls (.inr (.inl (μ.1 o.1 o.2 i)) :: st) μ
  | .aaload => mmPi st fun i st => mmPo st fun o st => (mmKe o.1 = 3 ∨ mmKe o.1 = 4) ∧ 0 ≤ i ∧ i < mmLen o.1 ∧ k ls (.inr (.inr (μ.2.1 o.1 o.2 i)) :: st) μ
  | .iastore => mmPi st fun z st => mmPi st fun i st => mmPo st fun o st => mmKe o.1 = 0 ∧ 0 ≤ i ∧ i < mmLen o.1 ∧ k ls st (mmU μ.1 o.1 o.2 i z, μ.2)
  | .bastore => mmPi st fun z st => mmPi st fun i st => mmPo st fun o st => mmKe o.1 = 1 ∧ 0 ≤ i ∧ i < mmLen o.1 ∧ (z = 0 ∨ z = 1) ∧ k ls st (mmU μ.1 o.1 o.2 i z, μ.2)
  | .lastore => mmPl st fun z st => mmPi st fun i st => mmPo st fun o st => mmKe o.1 = 2 ∧ 0 ≤ i ∧ i < mmLen o.1 ∧ k ls st (mmU μ.1 o.1 o.2 i z, μ.2)
  | .aastore => mmPo st fun v st => mmPi st fun i st => mmPo st fun o st => mmKe o.1 = 3 ∧ mmKo v.1 = some 5 ∧ 0 ≤ i ∧ i < mmLen o.1 ∧ k ls st (μ.1, mmU μ.2.1 o.1 o.2 i (some v), μ.2.2)
  | .arraylength => mmPo st fun o st => match op.2.1 with
    | [] => mmKe o.1 < 5 ∧ k ls (.inl (mmLen o.1) :: st) μ
    | _ => o = (1301, 0) ∧ k ls (.inl (μ.1 1302 0 0) :: st) μ
  | .ifCond c _ => mmPi st fun z st => mmIf c z 0 (J (op.2.1.headD 0) ls st μ) (k ls st μ)
  | .if_icmp c _ => mmPi st fun y st => mmPi st fun x st => mmIf c x y (J (op.2.1.headD 0) ls st μ) (k ls st μ)
  | .ifnull _ => mmPa st fun r st => (r = none → J (op.2.1.headD 0) ls st μ) ∧ (¬ r = none → k ls st μ)
  | .goto _ => J (op.2.1.headD 0) ls st μ
  | .tableswitch _ lo hi _ => mmPi st fun z st => mmSw z (fun t => J t ls st μ) lo op.2.1.tail ∧ (z < lo ∨ hi < z → J (op.2.1.headD 0) ls st μ)
  | .lookupswitch _ ps => mmPi st fun z st => mmLk z (fun t => J t ls st μ) (op.2.1.headD 0) (ps.toList.map Prod.fst) op.2.1.tail
  | .ireturn => match st with
    | [.inl z] => (op.2.1.headD 0 = 1 → z = 0 ∨ z = 1) ∧ Q (some (.inl z)) μ
    | _ => False
  | .lreturn => match st with
    | [.inr (.inl z)] => Q (some (.inr (.inl z))) μ
    | _ => False
  | .areturn => match st with
    | [.inr (.inr r)] => Q (some (.inr (.inr r))) μ
    | _ => False
  | .return_ => match st with
    | [] => Q none μ
    | _ => False
  | .invokevirtual _ => match op.2.1 with
    | [_, y, n, mc, ms, _, cls] => mmTk n st [] fun a r => r.length ≤ 4 ∧ mmRcv cls a ∧ mc ≤ μ.2.2.2.1 ∧ ms ≤ μ.2.2.2.2 ∧ C y a (μ.1, μ.2.1, μ.2.2.1, mc, ms) fun v w => k ls (mmPush v r) (w.1, w.2.1, w.2.2.1, μ.2.2.2.1 - mc, μ.2.2.2.2 - ms)
    | _ => False
  | .invokestatic _ => match op.2.1 with
    | [_, y, n, mc, ms, _] => mmTk n st [] fun a r => r.length ≤ 4 ∧ mc ≤ μ.2.2.2.1 ∧ ms ≤ μ.2.2.2.2 ∧ C y a (μ.1, μ.2.1, μ.2.2.1, mc, ms) fun v w => k ls (mmPush v r) (w.1, w.2.1, w.2.2.1, μ.2.2.2.1 - mc, μ.2.2.2.2 - ms)
    | [10, _] => mmPi st fun y st => mmPi st fun x st => st.length ≤ 4 ∧ k ls (.inl (if x < y then y else x) :: st) μ
    | [11, _] => mmPi st fun y st => mmPi st fun x st => st.length ≤ 4 ∧ k ls (.inl (if y < x then y else x) :: st) μ
    | [12, _] => mmPi st fun n st => mmPi st fun dp st => mmPo st fun d st => mmPi st fun sp st => mmPo st fun o st =>
        st.length ≤ 4 ∧ mmKe d.1 = 0 ∧ mmKe o.1 = 0 ∧ 0 ≤ sp ∧ 0 ≤ dp ∧ 0 ≤ n ∧ sp + n ≤ mmLen o.1 ∧ dp + n ≤ mmLen d.1 ∧ d ≠ o ∧ k ls st (mmUr μ.1 d.1 d.2 (fun j => if dp ≤ j ∧ j < dp + n then μ.1 o.1 o.2 (sp + (j - dp)) else μ.1 d.1 d.2 j), μ.2)
    | _ => False
  | .invokespecial _ => match op.2.1 with
    | [_, y, n, mc, ms, _, cls] => mmTk n st [] fun a r => r.length ≤ 4 ∧ mmRcv cls a ∧ mc ≤ μ.2.2.2.1 ∧ ms ≤ μ.2.2.2.2 ∧ C y a (μ.1, μ.2.1, μ.2.2.1, mc, ms) fun v w => k ls (mmPush v r) (w.1, w.2.1, w.2.2.1, μ.2.2.2.1 - mc, μ.2.2.2.2 - ms)
    | [13, _] => mmPo st fun _ st => st.length ≤ 4 ∧ k ls st μ
    | _ => False
  | .new _ => match op.2.1 with
    | [t, _] => 1 ≤ μ.2.2.2.1 ∧ mmKn t ≤ μ.2.2.2.2 ∧ mmKo t = some t ∧ k ls (.inr (.inr (some (t, μ.2.2.1 t))) :: st) (mmUr μ.1 t (μ.2.2.1 t) (fun _ => 0), mmUr μ.2.1 t (μ.2.2.1 t) (fun _ => none), va_up μ.2.2.1 t (μ.2.2.1 t + 1), μ.2.2.2.1 - 1, μ.2.2.2.2 - mmKn t)
    | _ => False
  | .newarray _ => match op.2.1 with
    | [t] => mmPi st fun n st => n = mmLen t ∧ 1 ≤ μ.2.2.2.1 ∧ (mmLen t).toNat ≤ μ.2.2.2.2 ∧ k ls (.inr (.inr (some (t, μ.2.2.1 t))) :: st) (mmUr μ.1 t (μ.2.2.1 t) (fun _ => 0), mmUr μ.2.1 t (μ.2.2.1 t) (fun _ => none), va_up μ.2.2.1 t (μ.2.2.1 t + 1), μ.2.2.2.1 - 1, μ.2.2.2.2 - (mmLen t).toNat)
    | _ => False
  | .anewarray _ => mmPi st fun n st => n = mmLen 1107 ∧ 1 ≤ μ.2.2.2.1 ∧ (mmLen 1107).toNat ≤ μ.2.2.2.2 ∧ k ls (.inr (.inr (some (1107, μ.2.2.1 1107))) :: st) (mmUr μ.1 1107 (μ.2.2.1 1107) (fun _ => 0), mmUr μ.2.1 1107 (μ.2.2.1 1107) (fun _ => none), va_up μ.2.2.1 1107 (μ.2.2.1 1107 + 1), μ.2.2.2.1 - 1, μ.2.2.2.2 - (mmLen 1107).toNat)
  | _ => False
