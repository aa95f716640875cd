/-- a word of the tables, among nest mates -/
def mmNb (k : Nat) (w : Cond) : Bool := decide (lw_tbl[k]? = some w)
theorem mmNb_in {k : Nat} {w : Cond} (h : mmNb k w = true) : w ∈ lw_tbl := List.mem_of_getElem? (of_decide_eq_true h)
def mmDc (cc : ByteArray) (pc nx : Nat) (i : Instr) (len : Nat) : Bool := decide (decode cc pc = .ok (i, len)) && decide (nx = pc + len)
theorem mmDc_inv {cc : ByteArray} {pc nx : Nat} {i : Instr} {len : Nat} (h : mmDc cc pc nx i len = true) : decode cc pc = .ok (i, len) ∧ nx = pc + len := by
  simpa only [mmDc, Bool.and_eq_true, decide_eq_true_eq] using h
def mmB32 (z : Int) : Bool := decide (-2147483648 ≤ z) && decide (z ≤ 2147483647)
theorem mmB32_inv {z : Int} (h : mmB32 z = true) : mmR32 z := by
  simp only [mmB32, Bool.and_eq_true, decide_eq_true_eq] at h
  exact h
def mmB64 (z : Int) : Bool := decide (-9223372036854775808 ≤ z) && decide (z ≤ 9223372036854775807)
theorem mmB64_inv {z : Int} (h : mmB64 z = true) : mmR64 z := by
  simp only [mmB64, Bool.and_eq_true, decide_eq_true_eq] at h
  exact h
def mmJb (pcs : List Nat) (pc : Nat) (off : Int) (t : Nat) : Bool := decide ((pc : Int) + off = (pcs.getD t 0 : Nat))
theorem mmJb_inv {pcs : List Nat} {pc : Nat} {off : Int} {t : Nat} (h : mmJb pcs pc off t = true) : (pc : Int) + off = (pcs.getD t 0 : Nat) := by
  simpa only [mmJb, decide_eq_true_eq] using h
def mmRefT : FieldType → Bool
  | .object _ => true
  | .array _ => true
  | _ => false
theorem mmRefT_inv {t : FieldType} (h : mmRefT t = true) : (∃ n, t = .object n) ∨ ∃ u, t = .array u := by
  cases t <;> first | exact Or.inl ⟨_, rfl⟩ | exact Or.inr ⟨_, rfl⟩ | cases h

theorem mw_obj1 : Cond.instanceMethod Lib.objectInit ∈ mmTs := by decide +kernel
theorem mw_obj2 : Cond.code Lib.objectInit ⟨#[0xb1]⟩ 1 none ∈ mmTs := by decide +kernel
theorem mw_math : Cond.initialized "java/lang/Math" ∈ mmTs := by decide +kernel
theorem mw_max1 : Cond.static Lib.Math.max.name ∈ mmTs := by decide +kernel
theorem mw_max2 : Cond.code Lib.Math.max.name Lib.Math.max.code 2 (some .int) ∈ mmTs := by decide +kernel
theorem mw_min1 : Cond.static Lib.Math.min.name ∈ mmTs := by decide +kernel
theorem mw_min2 : Cond.code Lib.Math.min.name Lib.Math.min.code 2 (some .int) ∈ mmTs := by decide +kernel
theorem mw_cp1 : Cond.native arraycopyName ∈ mmTs := by decide +kernel
theorem mw_cp2 : Cond.static arraycopyName ∈ mmTs := by decide +kernel
theorem mw_cp3 : Cond.initialized "java/lang/System" ∈ mmTs := by decide +kernel
theorem mw_arrI : Cond.arrayClass .int ∈ mmTs := by decide +kernel
theorem mw_arrZ : Cond.arrayClass .boolean ∈ mmTs := by decide +kernel
theorem mw_arrJ : Cond.arrayClass .long ∈ mmTs := by decide +kernel
theorem mw_inst0 : Cond.instantiable RX0 7 ∈ mmTs ∧ Cond.initialized RX0 ∈ mmTs := by decide +kernel
theorem mw_inst1 : Cond.instantiable RX1 3 ∈ mmTs ∧ Cond.initialized RX1 ∈ mmTs := by decide +kernel
theorem mw_inst2 : Cond.instantiable RX2 4 ∈ mmTs ∧ Cond.initialized RX2 ∈ mmTs := by decide +kernel
theorem mw_inst3 : Cond.instantiable RX3 15 ∈ mmTs ∧ Cond.initialized RX3 ∈ mmTs := by decide +kernel
theorem mw_inst4 : Cond.instantiable RX4 3 ∈ mmTs ∧ Cond.initialized RX4 ∈ mmTs := by decide +kernel
theorem mw_inst5 : Cond.instantiable RX5 13 ∈ mmTs ∧ Cond.initialized RX5 ∈ mmTs := by decide +kernel
theorem mw_inst6 : Cond.instantiable RX6 17 ∈ mmTs ∧ Cond.initialized RX6 ∈ mmTs := by decide +kernel
theorem mw_inst7 : Cond.instantiable RX7 1 ∈ mmTs ∧ Cond.initialized RX7 ∈ mmTs := by decide +kernel
theorem mw_inst8 : Cond.instantiable RX8 9 ∈ mmTs ∧ Cond.initialized RX8 ∈ mmTs := by decide +kernel
theorem mw_inst10 : Cond.instantiable RX10 12 ∈ mmTs ∧ Cond.initialized RX10 ∈ mmTs := by decide +kernel
theorem mw_inst11 : Cond.instantiable RX11 89 ∈ mmTs ∧ Cond.initialized RX11 ∈ mmTs := by decide +kernel
theorem mw_inst9 : Cond.instantiable RX9 0 ∈ mmTs ∧ Cond.initialized RX9 ∈ mmTs ∨ True := Or.inr trivial

theorem mw_inst : ∀ (c : Nat) (q : vw_C), mmCl[c]? = some q → c ≠ 9 → Cond.instantiable q.1 q.2.2 ∈ mmTs ∧ Cond.initialized q.1 ∈ mmTs
  | 0, _, h, _ => by cases h; exact mw_inst0
  | 1, _, h, _ => by cases h; exact mw_inst1
  | 2, _, h, _ => by cases h; exact mw_inst2
  | 3, _, h, _ => by cases h; exact mw_inst3
  | 4, _, h, _ => by cases h; exact mw_inst4
  | 5, _, h, _ => by cases h; exact mw_inst5
  | 6, _, h, _ => by cases h; exact mw_inst6
  | 7, _, h, _ => by cases h; exact mw_inst7
  | 8, _, h, _ => by cases h; exact mw_inst8
  | 9, _, _, h => absurd rfl h
  | 10, _, h, _ => by cases h; exact mw_inst10
  | 11, _, h, _ => by cases h; exact mw_inst11
  | _ + 12, _, h, _ => by simp at h

/-- what is looked at of an instruction, by program -/
def mmOpB (own : String) (cc : ByteArray) (nL : Nat) (rt : Option FieldType) (ini law : Bool) (pcs : List Nat) (n : Nat) (op : mmP) : Bool :=
  let pc := pcs.getD n 0
  let nx := pcs.getD (n + 1) 0
  let dc := mmDc cc pc nx op.1
  match op.1 with
  | .iadd => dc 1
  | .isub => dc 1
  | .imul => dc 1
  | .ineg => dc 1
  | .idiv => dc 1
  | .irem => dc 1
  | .iand => dc 1
  | .ior => dc 1
  | .ishl => dc 1
  | .ishr => dc 1
  | .ladd => dc 1
  | .lsub => dc 1
  | .lmul => dc 1
  | .lneg => dc 1
  | .ldiv => dc 1
  | .lrem => dc 1
  | .land => dc 1
  | .lor => dc 1
  | .lshl => dc 1
  | .lcmp => dc 1
  | .i2l => dc 1
  | .l2i => dc 1
  | .dup => dc 1
  | .dup2 => dc 1
  | .pop => dc 1
  | .baload => dc 1
  | .laload => dc 1
  | .aaload => dc 1
  | .iastore => dc 1
  | .bastore => dc 1
  | .lastore => dc 1
  | .aconst_null => dc 1
  | .aload i => dc 2
  | .aload_n i => dc 1
  | .iload i => dc 2
  | .iload_n i => dc 1
  | .lload i => dc 2
  | .lload_n i => dc 1
  | .astore i => dc 2 && decide (i < nL)
  | .astore_n i => dc 1 && decide (i.val < nL)
  | .istore i => dc 2 && decide (i < nL)
  | .istore_n i => dc 1 && decide (i.val < nL)
  | .lstore i => dc 2 && decide (i + 1 < nL)
  | .lstore_n i => dc 1 && decide (i.val + 1 < nL)
  | .iconst z => dc 1 && mmB32 z
  | .bipush z => dc 2 && mmB32 z && decide ((Int8.ofInt z).toInt32 = Int32.ofInt z)
  | .sipush z => dc 3 && mmB32 z && decide ((Int16.ofInt z).toInt32 = Int32.ofInt z)
  | .lconst z => dc 1
  | .ldc i => dc 2 && mmB32 op.2.2 && mmWb (op.2.1.headD 0) (.constant own i (Int32.ofInt op.2.2))
  | .ldc_w i => dc 3 && mmB32 op.2.2 && mmWb (op.2.1.headD 0) (.constant own i (Int32.ofInt op.2.2))
  | .ldc2_w i => dc 3 && mmB64 op.2.2 && mmWb (op.2.1.headD 0) (.constantLong own i (Int64.ofInt op.2.2))
  | .iinc i z => dc 3 && decide (i < nL)
  | .getfield i => dc 3 && (match op.2.1 with
    | [cx, f, ty, pl] => (match mmCl[cx]? with
      | some cl => decide (f < mmKn cx) && decide (mmKt cx f = ty) && mmWb pl (.fieldLink own i (cl.2.1 f).1 (cl.2.1 f).2.1 (cl.2.1 f).2.2.1)
      | none => false)
    | _ => false)
  | .putfield i => dc 3 && (match op.2.1 with
    | [cx, f, ty, pl] => (match mmCl[cx]? with
      | some cl => decide (f < mmKn cx) && decide (mmKt cx f = ty) && mmWb pl (.fieldLink own i (cl.2.1 f).1 (cl.2.1 f).2.1 (cl.2.1 f).2.2.1) && (decide ((cl.2.1 f).2.2.2 = false) || (ini && decide ((cl.2.1 f).2.2.2 = true ∧ (cl.2.1 f).1 = own))) &&
          (match ty with
          | 0 => decide (mmTy cx f = .int)
          | 1 => decide (mmTy cx f = .boolean)
          | 3 => mmRefT (mmTy cx f)
          | _ => false)
      | none => false)
    | _ => false)
  | .iaload => dc 1 && (match op.2.1 with
    | [] => true
    | _ => law)
  | .arraylength => dc 1 && (match op.2.1 with
    | [] => true
    | _ => law)
  | .ifCond cd off => dc 3 && mmJb pcs pc off (op.2.1.headD 0)
  | .if_icmp cd off => dc 3 && mmJb pcs pc off (op.2.1.headD 0)
  | .ifnull off => dc 3 && mmJb pcs pc off (op.2.1.headD 0)
  | .goto off => dc 3 && mmJb pcs pc off (op.2.1.headD 0)
  | .tableswitch df lo hi offs => dc (nx - pc) && mmJb pcs pc df (op.2.1.headD 0) && (List.range (hi - lo + 1).toNat).all (fun i => match offs[i]?, op.2.1.tail[i]? with
    | some off, some t => mmJb pcs pc off t
    | _, _ => false)
  | .lookupswitch df ps => dc (nx - pc) && mmJb pcs pc df (op.2.1.headD 0) && (ps.toList.zip (ps.toList.drop 1)).all (fun (a, next) => a.1 < next.1) && (List.range ps.toList.length).all (fun i => match ps.toList[i]?, op.2.1.tail[i]? with
    | some q, some t => mmJb pcs pc q.2 t
    | _, _ => false)
  | .ireturn => dc 1 && (decide (rt = some .int) || decide (rt = some .boolean ∧ op.2.1.headD 0 = 1))
  | .lreturn => dc 1 && decide (rt = some .long)
  | .areturn => dc 1 && (match rt with
    | some (.object _) => true
    | _ => false)
  | .return_ => dc 1 && decide (rt = none)
  | .invokevirtual i => dc 3 && (match op.2.1 with
    | [0, y, k + 1, _, _, pl, cls] => decide (k = mmNa y) && mmMB y && decide (mmKd y = 0) && mmWb pl (.methodLink own i (mmNm y)) && (match mmCl[cls]? with
      | some cl => decide ((mmNm y).cls = cl.1)
      | none => false)
    | [3, y, k + 1, _, _, pl, cls] => decide (k = mmNa y) && mmMB y && decide (mmKd y = 0) && mmNb pl (.methodLinkNest own i (mmNm y) "PostStones") && (match mmCl[cls]? with
      | some cl => decide ((mmNm y).cls = cl.1)
      | none => false)
    | _ => false)
  | .invokespecial i => dc 3 && (match op.2.1 with
    | [2, y, k + 1, _, _, pl, _] => decide (k = mmNa y) && mmMB y && decide (mmKd y = 2) && mmWb pl (.methodLink own i (mmNm y))
    | [4, y, k + 1, _, _, pl, _] => decide (k = mmNa y) && mmMB y && decide (mmKd y = 2) && mmNb pl (.methodLinkNest own i (mmNm y) "PostStones")
    | [13, pl] => mmWb pl (.methodLink own i Lib.objectInit)
    | _ => false)
  | .invokestatic i => dc 3 && (match op.2.1 with
    | [1, y, k, _, _, pl] => decide (k = mmNa y) && mmMB y && decide (mmKd y = 1) && mmWb pl (.methodLink own i (mmNm y))
    | [20, y, k, mc, ms, _] => law && decide (y = 256) && decide (k = 4) && decide (i = 39) && decide (mc = 1) && decide (ms = 8)
    | [10, pl] => mmWb pl (.methodLink own i Lib.Math.max.name)
    | [11, pl] => mmWb pl (.methodLink own i Lib.Math.min.name)
    | [12, pl] => mmWb pl (.methodLink own i arraycopyName)
    | _ => false)
  | .new i => dc 3 && (match op.2.1 with
    | [t, pl] => (match mmCl[t]? with
      | some cl => mmWb pl (.classLink own i cl.1)
      | none => false)
    | _ => false)
  | .newarray ty => dc 2 && (match op.2.1 with
    | [t] => (match ty with
      | .int => decide (mmKe t = 0)
      | .boolean => decide (mmKe t = 1)
      | .long => decide (mmKe t = 2)
      | _ => false)
    | _ => false)
  | .anewarray i => dc 3 && mmWb (op.2.1.getD 1 0) (.classLink own i "PostStones$Row")
  | .aastore => dc 1
  | _ => false
section MMX
variable {p : Program} {l : Launch} {e : Env} {R : Room} {s : State} {m : MethodId} {args : Array Value} {below : List Frame} {meth : Method} {c : Code} {QW : State → Prop}
variable {cc : ByteArray} {own : String} {nL : Nat} {D : va_G} {A : Nat → Prop} {b : Nat} {X1 X2 : Int → Int} {ids0 : List mmO} {ad0 : mmO → Nat}
variable {C : Nat → List mmV → mmM → (Option mmV → mmM → Prop) → Prop} {J : Nat → List (Option mmV) → List mmV → mmM → Prop} {Q : Option mmV → mmM → Prop} {κ : List (Option mmV) → List mmV → mmM → Prop}
variable {ls : List (Option mmV)} {st : List mmV} {μ : mmM} {s00 : State} {d : Nat} {rt : Option FieldType} {ini law : Bool} {pcs : List Nat} {n : Nat} {op : mmP}
set_option maxHeartbeats 4000000 in
theorem mm_disp (hE : mmEn p s m args c cc own nL) (hX : mmCtx s00 s A) (h00 : va_AO "PostStones$Row" s00) (hR : d + 1 ≤ R.frames ∧ 64 * (d + 1) ≤ R.locals) (hRt : mmRet p l e R s m args below meth c QW cc D A b X1 X2 ids0 ad0 rt Q) (hSc : law = true → mmScr s A b X1 X2) (hin : ini = true → meth.name = "<init>")
    (hMt : ∀ y, mmMB y = true → mmMt l s00 d C y (mmNm y) (mmBy y) (mmMl y) (mmRt y))
    (hLk : law = true → ∀ (pl : Nat) (cst : Int) (κ : List (Option mmV) → List mmV → mmM → Prop) (ls : List (Option mmV)) (st : List mmV) (μ : mmM) (pc : Nat), decode cc pc = .ok (.invokestatic 39, 3) → (∀ ls st μ, κ ls st μ → mmPt p l e R s m args below meth c QW nL D A b X1 X2 ids0 ad0 (pc + 3) ls st μ) → mmStep C J Q (.invokestatic 39, [20, 256, 4, 1, 8, pl], cst) κ ls st μ → mmPt p l e R s m args below meth c QW nL D A b X1 X2 ids0 ad0 pc ls st μ)
    (hB : mmOpB own cc nL rt ini law pcs n op = true) (hJ : ∀ t ls st μ, J t ls st μ → mmPt p l e R s m args below meth c QW nL D A b X1 X2 ids0 ad0 (pcs.getD t 0) ls st μ) (hk : ∀ ls st μ, κ ls st μ → mmPt p l e R s m args below meth c QW nL D A b X1 X2 ids0 ad0 (pcs.getD (n + 1) 0) ls st μ) (h : mmStep C J Q op κ ls st μ) : mmPt p l e R s m args below meth c QW nL D A b X1 X2 ids0 ad0 (pcs.getD n 0) ls st μ := by
  obtain ⟨i, pay, cst⟩ := op
  cases i with
  | iadd =>
    simp only [mmOpB] at hB
    obtain ⟨hd, hn⟩ := mmDc_inv hB
    exact mo_iadd hE hd (by rw [← hn]; exact hk) h
  | isub =>
    simp only [mmOpB] at hB
    obtain ⟨hd, hn⟩ := mmDc_inv hB
    exact mo_isub hE hd (by rw [← hn]; exact hk) h
  | imul =>
    simp only [mmOpB] at hB
    obtain ⟨hd, hn⟩ := mmDc_inv hB
    exact mo_imul hE hd (by rw [← hn]; exact hk) h
  | ineg =>
    simp only [mmOpB] at hB
    obtain ⟨hd, hn⟩ := mmDc_inv hB
    exact mo_ineg hE hd (by rw [← hn]; exact hk) h
  | idiv =>
    simp only [mmOpB] at hB
    obtain ⟨hd, hn⟩ := mmDc_inv hB
    exact mo_idiv hE hd (by rw [← hn]; exact hk) h
  | irem =>
    simp only [mmOpB] at hB
    obtain ⟨hd, hn⟩ := mmDc_inv hB
    exact mo_irem hE hd (by rw [← hn]; exact hk) h
  | iand =>
    simp only [mmOpB] at hB
    obtain ⟨hd, hn⟩ := mmDc_inv hB
    exact mo_iand hE hd (by rw [← hn]; exact hk) h
  | ior =>
    simp only [mmOpB] at hB
    obtain ⟨hd, hn⟩ := mmDc_inv hB
    exact mo_ior hE hd (by rw [← hn]; exact hk) h
  | ishl =>
    simp only [mmOpB] at hB
    obtain ⟨hd, hn⟩ := mmDc_inv hB
    exact mo_ishl hE hd (by rw [← hn]; exact hk) h
  | ishr =>
    simp only [mmOpB] at hB
    obtain ⟨hd, hn⟩ := mmDc_inv hB
    exact mo_ishr hE hd (by rw [← hn]; exact hk) h
  | ladd =>
    simp only [mmOpB] at hB
    obtain ⟨hd, hn⟩ := mmDc_inv hB
    exact mo_ladd hE hd (by rw [← hn]; exact hk) h
  | lsub =>
    simp only [mmOpB] at hB
    obtain ⟨hd, hn⟩ := mmDc_inv hB
    exact mo_lsub hE hd (by rw [← hn]; exact hk) h
  | lmul =>
    simp only [mmOpB] at hB
    obtain ⟨hd, hn⟩ := mmDc_inv hB
    exact mo_lmul hE hd (by rw [← hn]; exact hk) h
  | lneg =>
    simp only [mmOpB] at hB
    obtain ⟨hd, hn⟩ := mmDc_inv hB
    exact mo_lneg hE hd (by rw [← hn]; exact hk) h
  | ldiv =>
    simp only [mmOpB] at hB
    obtain ⟨hd, hn⟩ := mmDc_inv hB
    exact mo_ldiv hE hd (by rw [← hn]; exact hk) h
  | lrem =>
    simp only [mmOpB] at hB
    obtain ⟨hd, hn⟩ := mmDc_inv hB
    exact mo_lrem hE hd (by rw [← hn]; exact hk) h
  | land =>
    simp only [mmOpB] at hB
    obtain ⟨hd, hn⟩ := mmDc_inv hB
    exact mo_land hE hd (by rw [← hn]; exact hk) h
  | lor =>
    simp only [mmOpB] at hB
    obtain ⟨hd, hn⟩ := mmDc_inv hB
    exact mo_lor hE hd (by rw [← hn]; exact hk) h
  | lshl =>
    simp only [mmOpB] at hB
    obtain ⟨hd, hn⟩ := mmDc_inv hB
    exact mo_lshl hE hd (by rw [← hn]; exact hk) h
  | lcmp =>
    simp only [mmOpB] at hB
    obtain ⟨hd, hn⟩ := mmDc_inv hB
    exact mo_lcmp hE hd (by rw [← hn]; exact hk) h
  | i2l =>
    simp only [mmOpB] at hB
    obtain ⟨hd, hn⟩ := mmDc_inv hB
    exact mo_i2l hE hd (by rw [← hn]; exact hk) h
  | l2i =>
    simp only [mmOpB] at hB
    obtain ⟨hd, hn⟩ := mmDc_inv hB
    exact mo_l2i hE hd (by rw [← hn]; exact hk) h
  | dup =>
    simp only [mmOpB] at hB
    obtain ⟨hd, hn⟩ := mmDc_inv hB
    exact mo_dup hE hd (by rw [← hn]; exact hk) h
  | dup2 =>
    simp only [mmOpB] at hB
    obtain ⟨hd, hn⟩ := mmDc_inv hB
    exact mo_dup2 hE hd (by rw [← hn]; exact hk) h
  | pop =>
    simp only [mmOpB] at hB
    obtain ⟨hd, hn⟩ := mmDc_inv hB
    exact mo_pop hE hd (by rw [← hn]; exact hk) h
  | baload =>
    simp only [mmOpB] at hB
    obtain ⟨hd, hn⟩ := mmDc_inv hB
    exact mo_baload hE hd (by rw [← hn]; exact hk) h
  | laload =>
    simp only [mmOpB] at hB
    obtain ⟨hd, hn⟩ := mmDc_inv hB
    exact mo_laload hE hd (by rw [← hn]; exact hk) h
  | aaload =>
    simp only [mmOpB] at hB
    obtain ⟨hd, hn⟩ := mmDc_inv hB
    exact mo_aaload hE hd (by rw [← hn]; exact hk) h
  | iastore =>
    simp only [mmOpB] at hB
    obtain ⟨hd, hn⟩ := mmDc_inv hB
    exact mo_iastore hE hd (by rw [← hn]; exact hk) h
  | bastore =>
    simp only [mmOpB] at hB
    obtain ⟨hd, hn⟩ := mmDc_inv hB
    exact mo_bastore hE hd (by rw [← hn]; exact hk) h
  | lastore =>
    simp only [mmOpB] at hB
    obtain ⟨hd, hn⟩ := mmDc_inv hB
    exact mo_lastore hE hd (by rw [← hn]; exact hk) h
  | aconst_null =>
    simp only [mmOpB] at hB
    obtain ⟨hd, hn⟩ := mmDc_inv hB
    exact mo_aconst_null hE hd (by rw [← hn]; exact hk) h
  | aload i =>
    simp only [mmOpB] at hB
    obtain ⟨hd, hn⟩ := mmDc_inv hB
    exact mo_aload hE hd (by rw [← hn]; exact hk) h
  | aload_n i =>
    simp only [mmOpB] at hB
    obtain ⟨hd, hn⟩ := mmDc_inv hB
    exact mo_aload_n hE hd (by rw [← hn]; exact hk) h
  | iload i =>
    simp only [mmOpB] at hB
    obtain ⟨hd, hn⟩ := mmDc_inv hB
    exact mo_iload hE hd (by rw [← hn]; exact hk) h
  | iload_n i =>
    simp only [mmOpB] at hB
    obtain ⟨hd, hn⟩ := mmDc_inv hB
    exact mo_iload_n hE hd (by rw [← hn]; exact hk) h
  | lload i =>
    simp only [mmOpB] at hB
    obtain ⟨hd, hn⟩ := mmDc_inv hB
    exact mo_lload hE hd (by rw [← hn]; exact hk) h
  | lload_n i =>
    simp only [mmOpB] at hB
    obtain ⟨hd, hn⟩ := mmDc_inv hB
    exact mo_lload_n hE hd (by rw [← hn]; exact hk) h
  | astore i =>
    simp only [mmOpB] at hB
    simp only [Bool.and_eq_true, decide_eq_true_eq] at hB
    obtain ⟨hd, hn⟩ := mmDc_inv hB.1
    exact mo_astore hE hd hB.2 (by rw [← hn]; exact hk) h
  | astore_n i =>
    simp only [mmOpB] at hB
    simp only [Bool.and_eq_true, decide_eq_true_eq] at hB
    obtain ⟨hd, hn⟩ := mmDc_inv hB.1
    exact mo_astore_n hE hd hB.2 (by rw [← hn]; exact hk) h
  | istore i =>
    simp only [mmOpB] at hB
    simp only [Bool.and_eq_true, decide_eq_true_eq] at hB
    obtain ⟨hd, hn⟩ := mmDc_inv hB.1
    exact mo_istore hE hd hB.2 (by rw [← hn]; exact hk) h
  | istore_n i =>
    simp only [mmOpB] at hB
    simp only [Bool.and_eq_true, decide_eq_true_eq] at hB
    obtain ⟨hd, hn⟩ := mmDc_inv hB.1
    exact mo_istore_n hE hd hB.2 (by rw [← hn]; exact hk) h
  | lstore i =>
    simp only [mmOpB] at hB
    simp only [Bool.and_eq_true, decide_eq_true_eq] at hB
    obtain ⟨hd, hn⟩ := mmDc_inv hB.1
    exact mo_lstore hE hd hB.2 (by rw [← hn]; exact hk) h
  | lstore_n i =>
    simp only [mmOpB] at hB
    simp only [Bool.and_eq_true, decide_eq_true_eq] at hB
    obtain ⟨hd, hn⟩ := mmDc_inv hB.1
    exact mo_lstore_n hE hd hB.2 (by rw [← hn]; exact hk) h
  | iconst z =>
    simp only [mmOpB] at hB
    simp only [Bool.and_eq_true, decide_eq_true_eq] at hB
    obtain ⟨hd, hn⟩ := mmDc_inv hB.1
    exact mo_iconst hE hd (mmB32_inv hB.2) (by rw [← hn]; exact hk) h
  | bipush z =>
    simp only [mmOpB] at hB
    simp only [Bool.and_eq_true, decide_eq_true_eq] at hB
    obtain ⟨hd, hn⟩ := mmDc_inv hB.1.1
    exact mo_bipush hE hd (mmB32_inv hB.1.2) hB.2 (by rw [← hn]; exact hk) h
  | sipush z =>
    simp only [mmOpB] at hB
    simp only [Bool.and_eq_true, decide_eq_true_eq] at hB
    obtain ⟨hd, hn⟩ := mmDc_inv hB.1.1
    exact mo_sipush hE hd (mmB32_inv hB.1.2) hB.2 (by rw [← hn]; exact hk) h
  | lconst z =>
    simp only [mmOpB] at hB
    obtain ⟨hd, hn⟩ := mmDc_inv hB
    exact mo_lconst hE hd (by rw [← hn]; exact hk) h
  | ldc i =>
    simp only [mmOpB] at hB
    simp only [Bool.and_eq_true, decide_eq_true_eq] at hB
    obtain ⟨hd, hn⟩ := mmDc_inv hB.1.1
    exact mo_ldc hE hd (mmB32_inv hB.1.2) (mmWb_in hB.2) (by rw [← hn]; exact hk) h
  | ldc_w i =>
    simp only [mmOpB] at hB
    simp only [Bool.and_eq_true, decide_eq_true_eq] at hB
    obtain ⟨hd, hn⟩ := mmDc_inv hB.1.1
    exact mo_ldc_w hE hd (mmB32_inv hB.1.2) (mmWb_in hB.2) (by rw [← hn]; exact hk) h
  | ldc2_w i =>
    simp only [mmOpB] at hB
    simp only [Bool.and_eq_true, decide_eq_true_eq] at hB
    obtain ⟨hd, hn⟩ := mmDc_inv hB.1.1
    exact mo_ldc2_w hE hd (mmB64_inv hB.1.2) (mmWb_in hB.2) (by rw [← hn]; exact hk) h
  | iinc i z =>
    simp only [mmOpB] at hB
    simp only [Bool.and_eq_true, decide_eq_true_eq] at hB
    obtain ⟨hd, hn⟩ := mmDc_inv hB.1
    exact mo_iinc hE hd hB.2 (by rw [← hn]; exact hk) h
  | getfield i =>
    simp only [mmOpB] at hB
    simp only [Bool.and_eq_true] at hB
    obtain ⟨h0, hB⟩ := hB
    obtain ⟨hd, hn⟩ := mmDc_inv h0
    split at hB
    · split at hB
      · rename_i cl hcl
        simp only [Bool.and_eq_true, decide_eq_true_eq] at hB
        exact mo_getfield hE hd hcl (mmCl_n _ cl hcl) hB.1.1 hB.1.2 (mmWb_in hB.2) (by rw [← hn]; exact hk) h
      · cases hB
    · cases hB
  | putfield i =>
    simp only [mmOpB] at hB
    simp only [Bool.and_eq_true] at hB
    obtain ⟨h0, hB⟩ := hB
    obtain ⟨hd, hn⟩ := mmDc_inv h0
    split at hB
    · split at hB
      · rename_i cl hcl
        simp only [Bool.and_eq_true, Bool.or_eq_true, decide_eq_true_eq] at hB
        obtain ⟨⟨⟨⟨g1, g2⟩, g3⟩, g4⟩, g5⟩ := hB
        have g6 : (cl.2.1 _).2.2.2 = false ∨ ((cl.2.1 _).2.2.2 = true ∧ meth.name = "<init>" ∧ (cl.2.1 _).1 = own) := g4.imp id (fun q => ⟨q.2.1, hin q.1, q.2.2⟩)
        split at g5
        · simp only [decide_eq_true_eq] at g5
          exact mo_putfield0 hE hd hcl (mmCl_n _ cl hcl) g1 g2 g5 (mmWb_in g3) g6 (by rw [← hn]; exact hk) h
        · simp only [decide_eq_true_eq] at g5
          exact mo_putfield1 hE hd hcl (mmCl_n _ cl hcl) g1 g2 g5 (mmWb_in g3) g6 (by rw [← hn]; exact hk) h
        · exact mo_putfield3 hE hd hcl (mmCl_n _ cl hcl) g1 g2 (mmRefT_inv g5) (mmWb_in g3) g6 (by rw [← hn]; exact hk) h
        · cases g5
      · cases hB
    · cases hB
  | iaload =>
    simp only [mmOpB] at hB
    simp only [Bool.and_eq_true] at hB
    obtain ⟨h0, hB⟩ := hB
    obtain ⟨hd, hn⟩ := mmDc_inv h0
    cases pay with
    | nil => exact mo_iaload hE hd (by rw [← hn]; exact hk) h
    | cons a r => exact mo_ialoadX hE (hSc hB) hd (by rw [← hn]; exact hk) h
  | arraylength =>
    simp only [mmOpB] at hB
    simp only [Bool.and_eq_true] at hB
    obtain ⟨h0, hB⟩ := hB
    obtain ⟨hd, hn⟩ := mmDc_inv h0
    cases pay with
    | nil => exact mo_arraylength hE hd (by rw [← hn]; exact hk) h
    | cons a r => exact mo_arraylengthX hE (hSc hB) hd (by rw [← hn]; exact hk) h
  | ifCond cd off =>
    simp only [mmOpB] at hB
    simp only [Bool.and_eq_true] at hB
    obtain ⟨hd, hn⟩ := mmDc_inv hB.1
    exact mo_ifCond hE hd (mmJb_inv hB.2) (hJ _) (by rw [← hn]; exact hk) h
  | if_icmp cd off =>
    simp only [mmOpB] at hB
    simp only [Bool.and_eq_true] at hB
    obtain ⟨hd, hn⟩ := mmDc_inv hB.1
    exact mo_if_icmp hE hd (mmJb_inv hB.2) (hJ _) (by rw [← hn]; exact hk) h
  | ifnull off =>
    simp only [mmOpB] at hB
    simp only [Bool.and_eq_true] at hB
    obtain ⟨hd, hn⟩ := mmDc_inv hB.1
    exact mo_ifnull hE hd (mmJb_inv hB.2) (hJ _) (by rw [← hn]; exact hk) h
  | goto off =>
    simp only [mmOpB] at hB
    simp only [Bool.and_eq_true] at hB
    obtain ⟨hd, hn⟩ := mmDc_inv hB.1
    exact mo_goto hE hd (mmJb_inv hB.2) (hJ _) h
  | tableswitch df lo hi offs =>
    simp only [mmOpB] at hB
    simp only [Bool.and_eq_true] at hB
    obtain ⟨⟨h0, h1⟩, h2⟩ := hB
    obtain ⟨hd, hn⟩ := mmDc_inv h0
    refine mo_tableswitch hE hd (mmJb_inv h1) hJ (fun i hi9 => ?_) h
    have h3 := List.all_eq_true.mp h2 i (List.mem_range.mpr (by omega))
    split at h3
    · rename_i off t g1 g2
      exact ⟨off, t, g1, g2, mmJb_inv h3⟩
    · cases h3
  | lookupswitch df ps =>
    simp only [mmOpB] at hB
    simp only [Bool.and_eq_true] at hB
    obtain ⟨⟨⟨h0, h1⟩, h2⟩, h3⟩ := hB
    obtain ⟨hd, hn⟩ := mmDc_inv h0
    refine mo_lookupswitch hE hd (mmJb_inv h1) hJ h2 (fun i q hq t ht => ?_) h
    have h4 := List.all_eq_true.mp h3 i (List.mem_range.mpr (List.getElem?_eq_some_iff.mp hq).1)
    rw [hq, ht] at h4
    exact mmJb_inv h4
  | ireturn =>
    simp only [mmOpB] at hB
    simp only [Bool.and_eq_true, Bool.or_eq_true, decide_eq_true_eq] at hB
    exact mo_ireturn hRt (mmDc_inv hB.1).1 hB.2 h
  | lreturn =>
    simp only [mmOpB] at hB
    simp only [Bool.and_eq_true, decide_eq_true_eq] at hB
    exact mo_lreturn hRt (mmDc_inv hB.1).1 hB.2 h
  | areturn =>
    simp only [mmOpB] at hB
    simp only [Bool.and_eq_true] at hB
    obtain ⟨h0, hB⟩ := hB
    refine mo_areturn hRt (mmDc_inv h0).1 ?_ h
    split at hB
    · exact ⟨_, rfl⟩
    · cases hB
  | return_ =>
    simp only [mmOpB] at hB
    simp only [Bool.and_eq_true, decide_eq_true_eq] at hB
    exact mo_return hRt (mmDc_inv hB.1).1 hB.2 h
  | invokevirtual i =>
    simp only [mmOpB] at hB
    simp only [Bool.and_eq_true] at hB
    obtain ⟨h0, hB⟩ := hB
    obtain ⟨hd, hn⟩ := mmDc_inv h0
    split at hB
    · simp only [Bool.and_eq_true, decide_eq_true_eq] at hB
      obtain ⟨⟨⟨⟨g1, g2⟩, g3⟩, g4⟩, g5⟩ := hB
      subst g1
      split at g5
      · rename_i cl hcl
        simp only [decide_eq_true_eq] at g5
        obtain ⟨f1, f2, f3, -⟩ := mmMB_inv g2
        exact mo_invV hE hX hR hd (hMt _ g2) f1 hcl (mmWb_in g4) (f3 g3).1 (by rw [← g5]; exact (f3 g3).2) (by rw [← hn]; exact hk) h
      · cases g5
    · simp only [Bool.and_eq_true, decide_eq_true_eq] at hB
      obtain ⟨⟨⟨⟨g1, g2⟩, g3⟩, g4⟩, g5⟩ := hB
      subst g1
      split at g5
      · rename_i cl hcl
        simp only [decide_eq_true_eq] at g5
        obtain ⟨f1, f2, f3, -⟩ := mmMB_inv g2
        exact mo_invVN hE hX hR hd (hMt _ g2) f1 hcl (mmNb_in g4) (f3 g3).1 (by rw [← g5]; exact (f3 g3).2) (by rw [← hn]; exact hk) h
      · cases g5
    · cases hB
  | invokespecial i =>
    simp only [mmOpB] at hB
    simp only [Bool.and_eq_true] at hB
    obtain ⟨h0, hB⟩ := hB
    obtain ⟨hd, hn⟩ := mmDc_inv h0
    split at hB
    · simp only [Bool.and_eq_true, decide_eq_true_eq] at hB
      obtain ⟨⟨⟨g1, g2⟩, g3⟩, g4⟩ := hB
      subst g1
      obtain ⟨f1, f2, f3, f4, f5⟩ := mmMB_inv g2
      obtain ⟨f6, f7, f8⟩ := f5 g3
      exact mo_invI (ret := none) hE hX hR hd (by rw [← f8]; exact hMt _ g2) (by rw [← f8]; exact f1) f7 (mmWb_in g4) f6 (by rw [← hn]; exact hk) h
    · simp only [Bool.and_eq_true, decide_eq_true_eq] at hB
      obtain ⟨⟨⟨g1, g2⟩, g3⟩, g4⟩ := hB
      subst g1
      obtain ⟨f1, f2, f3, f4, f5⟩ := mmMB_inv g2
      obtain ⟨f6, f7, f8⟩ := f5 g3
      exact mo_invIN (ret := none) hE hX hR hd (by rw [← f8]; exact hMt _ g2) (by rw [← f8]; exact f1) f7 (mmNb_in g4) f6 (by rw [← hn]; exact hk) h
    · exact mo_objInit hE hR hd (mmWb_in hB) mw_obj1 mw_obj2 (by rw [← hn]; exact hk) h
    · cases hB
  | invokestatic i =>
    simp only [mmOpB] at hB
    simp only [Bool.and_eq_true] at hB
    obtain ⟨h0, hB⟩ := hB
    obtain ⟨hd, hn⟩ := mmDc_inv h0
    split at hB
    · simp only [Bool.and_eq_true, decide_eq_true_eq] at hB
      obtain ⟨⟨⟨g1, g2⟩, g3⟩, g4⟩ := hB
      subst g1
      obtain ⟨f1, f2, f3, f4, f5⟩ := mmMB_inv g2
      exact mo_invS hE hX hR hd (hMt _ g2) f1 (mmWb_in g4) (f4 g3) (by rw [← hn]; exact hk) h
    · simp only [Bool.and_eq_true, decide_eq_true_eq] at hB
      obtain ⟨⟨⟨⟨⟨g1, g2⟩, g3⟩, g4⟩, g5⟩, g6⟩ := hB
      subst g2 g3 g4 g5 g6
      exact hLk g1 _ _ _ _ _ _ _ hd (by rw [← hn]; exact hk) h
    · exact mo_max hE hR hd (mmWb_in hB) mw_max1 mw_math mw_max2 (by rw [← hn]; exact hk) h
    · exact mo_min hE hR hd (mmWb_in hB) mw_min1 mw_math mw_min2 (by rw [← hn]; exact hk) h
    · exact mo_copy hE hR hd (mmWb_in hB) mw_cp1 mw_cp2 mw_cp3 (by rw [← hn]; exact hk) h
    · cases hB
  | new i =>
    simp only [mmOpB] at hB
    simp only [Bool.and_eq_true] at hB
    obtain ⟨h0, hB⟩ := hB
    obtain ⟨hd, hn⟩ := mmDc_inv h0
    split at hB
    · rename_i t9 pl9
      split at hB
      · rename_i cl hcl
        have h9 : t9 ≠ 9 := by
          rintro rfl
          have := h.2.2.1
          exact absurd this (by decide)
        exact mo_new hE hX hd hcl (mmWb_in hB) (mw_inst _ cl hcl h9).1 (mw_inst _ cl hcl h9).2 (by rw [← hn]; exact hk) h
      · cases hB
    · cases hB
  | newarray ty =>
    simp only [mmOpB] at hB
    simp only [Bool.and_eq_true] at hB
    obtain ⟨h0, hB⟩ := hB
    obtain ⟨hd, hn⟩ := mmDc_inv h0
    split at hB
    · split at hB
      · simp only [decide_eq_true_eq] at hB
        exact mo_newarrayI hE hX hd hB mw_arrI (by rw [← hn]; exact hk) h
      · simp only [decide_eq_true_eq] at hB
        exact mo_newarrayZ hE hX hd hB mw_arrZ (by rw [← hn]; exact hk) h
      · simp only [decide_eq_true_eq] at hB
        exact mo_newarrayJ hE hX hd hB mw_arrJ (by rw [← hn]; exact hk) h
      · cases hB
    · cases hB
  | anewarray i =>
    simp only [mmOpB] at hB
    simp only [Bool.and_eq_true] at hB
    obtain ⟨hd, hn⟩ := mmDc_inv hB.1
    exact mo_anewarray hE hX hd (mmWb_in hB.2) h00 (by rw [← hn]; exact hk) h
  | aastore =>
    simp only [mmOpB] at hB
    obtain ⟨hd, hn⟩ := mmDc_inv hB
    exact mo_aastore hE hX hd (by rw [← hn]; exact hk) h
  | _ => exact h.elim
end MMX
