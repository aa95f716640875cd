/-! THE CLAIM OUT OF ONE WALK OF THE LAW'S BODY. Your part is whole_start (and what it stands on); all else here is the same for every law, but numbers. -/
def R_law : String := "PostStonesLaw"
def lw_P (b : Addr) (xs : List Int32) (args : Array Value) (s : State) : Prop := args = #[.ref b] ∧ s.IntsAt b xs ∧ xs.length ≤ 3072 ∧ (Jvm.Cond.and given_1 narrow_1).before args s = true
def lw_Q (_ : Array Value) (s : State) (o : Outcome) (t : State) : Prop := o = .returned (some (.int 1)) ∧ Framed s o t [] 601024 7293034
def lw_Z (below : List Frame) (a : Array Value) (s : State) : State → Prop := fun t => ∃ o, t.status = .running ∧ Ended t below o ∧ lw_Q a s o t
/-- the law's own end, with 1 on the stack, nothing written that was there before, its room as the claim has it -/
theorem lw_ret {p : Program} {l : Launch} {e : Env} {s : State} {m : MethodId} {below : List Frame} {meth : Method} {c : Code} {b : Nat} (hx : p.tables.exec = Jvm.exec) (hb : c.code = code) (hr : meth.sig.returnType = ret) (hlocks : meth.locks = false) {pc : Nat} {H : Heap} {ls : Array Slot} (hdg : decode code pc = .ok (.ireturn, 1)) : W p l e room_1 s m #[Value.ref b] below meth c H [] 601024 7293034 (lw_Z below #[Value.ref b] s) (F0 m pc ls [.int 1]) := by
  intro T hT X
  obtain ⟨fs, hret, hrun, hended, hW, hframe⟩ := X.leave (v := some (.int 1)) (hlocks := hlocks) (fun h => by rw [hr] at h; cases h)
  have hmeth' : T.vm.method? m = some meth := X.method'
  refine ⟨T.setFrames fs, ?_, .returned (some (.int 1)), hrun, hended, rfl, ⟨_, rfl⟩, hW, hframe⟩
  jvm_step X.here [X.here.top, hx, hb, hdg, hmeth', hr, ret, narrow_b1]
  (try refine ⟨rfl, ?_⟩); (try refine ⟨rfl, ?_⟩)
  first | (intro acts; rw [hret _ acts rfl rfl rfl]) | rw [hret _ _ rfl rfl rfl]
  exact Steps.refl _
/-- what holds at the law's entry: the machine, the code, the tables' words (any of lw_tbl by 'hts w (by decide +kernel)'), the script of L ints xs at the cell b, what the Statement gives of the start (any of its parts by flat_of_before) -/
def lw_At (p : Program) (s : State) (m : MethodId) (meth : Method) (c : Code) (b L : Nat) (xs : Nat → Int32) : Prop :=
  p.tables.exec = Jvm.exec ∧ c.code = code ∧ meth.sig.returnType = ret ∧ c.maxLocals = 7 ∧ s.vm.findClass R_law = some m.cls ∧ (∀ w ∈ lw_tbl, w.before #[Value.ref b] s = true) ∧ va_X b L xs s s.heap ∧ b < s.heap.size ∧ meth.locks = false ∧ (Jvm.Cond.and given_1 narrow_1).before #[Value.ref b] s = true
theorem jl_fl : ∀ w ∈ lkB, w ∈ lw_tbl ∧ w.onTables = true := by decide +kernel
theorem jl_n : ∀ j : Nat, j < nmL.length → Cond.eq (.elem (.static "PostStones$Words" "NAMES" "[I") (.int (Int32.ofNat j))) (.int (Int32.ofInt (nmL.getD j 0))) ∈ flatC (Jvm.Cond.and given_1 narrow_1) := by decide +kernel
theorem jl_o : ∀ j : Nat, j < otL.length → Cond.eq (.elem (.static "PostStones$Words" "OTHER_WORDS" "[I") (.int (Int32.ofNat j))) (.int (Int32.ofInt (otL.getD j 0))) ∈ flatC (Jvm.Cond.and given_1 narrow_1) := by decide +kernel
theorem jl_na : Cond.arrayOf (.static "PostStones$Words" "NAMES" "[I") .int ∈ flatC (Jvm.Cond.and given_1 narrow_1) := by decide +kernel
theorem jl_oa : Cond.arrayOf (.static "PostStones$Words" "OTHER_WORDS" "[I") .int ∈ flatC (Jvm.Cond.and given_1 narrow_1) := by decide +kernel
theorem jl_nl : Cond.eq (.length (.static "PostStones$Words" "NAMES" "[I")) (.int (Int32.ofNat nmL.length)) ∈ flatC (Jvm.Cond.and given_1 narrow_1) := by decide +kernel
theorem jl_ol : Cond.eq (.length (.static "PostStones$Words" "OTHER_WORDS" "[I")) (.int (Int32.ofNat otL.length)) ∈ flatC (Jvm.Cond.and given_1 narrow_1) := by decide +kernel
theorem jl_u : Cond.isRef (.static Bundle.tN "UNASSIGNED_STACK" Bundle.steD) ∈ flatC (Jvm.Cond.and given_1 narrow_1) := by decide +kernel
theorem jl_s : Cond.isRef (.static Bundle.tN "SUPPRESSED_SENTINEL" Bundle.listD) ∈ flatC (Jvm.Cond.and given_1 narrow_1) := by decide +kernel
theorem jl_c : Cond.not (.castable "java/util/NoSuchElementException" "java/lang/IndexOutOfBoundsException") ∈ flatC (Jvm.Cond.and given_1 narrow_1) := by decide +kernel
theorem jl_1 : Cond.exactly (.string "PostStones" 109) "java/lang/String" ∈ flatC (Jvm.Cond.and given_1 narrow_1) := by decide +kernel
theorem jl_2 : Cond.exactly (.string "PostStones" 126) "java/lang/String" ∈ flatC (Jvm.Cond.and given_1 narrow_1) := by decide +kernel
theorem jw_row : Cond.arrayOver (.object "PostStones$Row") ∈ lw_tbl := List.mem_of_getElem? (i := 397) (by decide +kernel)
theorem jw_arr : Cond.arrayOver (.array .int) ∈ lw_tbl := List.mem_of_getElem? (i := 492) (by decide +kernel)
theorem jw_n : Cond.laysStatic "PostStones$Words" "NAMES" "[I" ∈ lw_tbl := List.mem_of_getElem? (i := 610) (by decide +kernel)
theorem jw_o : Cond.laysStatic "PostStones$Words" "OTHER_WORDS" "[I" ∈ lw_tbl := List.mem_of_getElem? (i := 605) (by decide +kernel)
theorem jw_w : Cond.initialized "PostStones$Words" ∈ lw_tbl := List.mem_of_getElem? (i := 118) (by decide +kernel)
theorem jw_u : Cond.laysStatic Bundle.tN "UNASSIGNED_STACK" Bundle.steD ∈ lw_tbl := List.mem_of_getElem? (i := 1130) (by decide +kernel)
theorem jw_s : Cond.laysStatic Bundle.tN "SUPPRESSED_SENTINEL" Bundle.listD ∈ lw_tbl := List.mem_of_getElem? (i := 1132) (by decide +kernel)
theorem jw_t : Cond.initialized Bundle.tN ∈ lw_tbl := List.mem_of_getElem? (i := 119) (by decide +kernel)
theorem jw_1 : Cond.stringRef "PostStones" 109 "no such kind" ∈ lw_tbl := List.mem_of_getElem? (i := 1143) (by decide +kernel)
theorem jw_2 : Cond.stringRef "PostStones" 126 "no such what" ∈ lw_tbl := List.mem_of_getElem? (i := 1179) (by decide +kernel)
/-- the start says of exceptions what is wanted -/
theorem jn_lkS {s : State} {args : Array Value} (hts : ∀ w ∈ lw_tbl, w.before args s = true) (hs : ∀ w ∈ flatC (Jvm.Cond.and given_1 narrow_1), w.before args s = true) : lkS s := by
  have hA : ∀ a : Nat, a < s.heap.size → ¬ (fun a => s.heap.size ≤ a) a := fun a h q => absurd h (Nat.not_lt.mpr q)
  exact ⟨fun w hw => va_tabs (jl_fl w hw).2 rfl (hts w (jl_fl w hw).1), vx_Zqof (hts _ jw_u) (hts _ jw_t) (hs _ jl_u) hA, vx_Zqof (hts _ jw_s) (hts _ jw_t) (hs _ jl_s) hA, va_Nc.of (hs _ jl_c)⟩
theorem jn_str {s : State} {args : Array Value} {k : Nat} {tx : String} (h1 : (Cond.stringRef "PostStones" k tx).before args s = true) (h2 : (Cond.exactly (.string "PostStones" k) "java/lang/String").before args s = true) : ∃ sa : Nat, vk_R "PostStones" k tx sa s := by
  obtain ⟨a, c, cA, kA, q1, -⟩ := Cond.exactly_spec (args := args) (first := s) (o := none) (s := s) (idx := []) (t := .string "PostStones" k) (cls := "java/lang/String") h2
  exact ⟨a, vk_R.of h1 q1⟩
/-- the memory at the law's start: the script alone -/
def jnI (L : Nat) (xs : Nat → Int32) : Nat → Nat → Int → Int := fun t i k => if t = 1301 ∧ i = 0 then (if 0 ≤ k ∧ k < L then (xs k.toNat).toInt else 0) else if t = 1302 ∧ i = 0 then (if k = 0 then (L : Int) else 0) else 0
theorem jnI_s {L : Nat} {xs : Nat → Int32} {k : Int} : jnI L xs 1301 0 k = if 0 ≤ k ∧ k < L then (xs k.toNat).toInt else 0 := if_pos ⟨rfl, rfl⟩
theorem jnI_l {L : Nat} {xs : Nat → Int32} : jnI L xs 1302 0 0 = L := by
  show (if (1302 : Nat) = 1301 ∧ (0 : Nat) = 0 then (if (0 : Int) ≤ 0 ∧ (0 : Int) < L then (xs (0 : Int).toNat).toInt else 0) else if (1302 : Nat) = 1302 ∧ (0 : Nat) = 0 then (if (0 : Int) = 0 then (L : Int) else 0) else 0) = _
  rw [if_neg (by decide), if_pos ⟨rfl, rfl⟩, if_pos rfl]
theorem jnI_0 {L : Nat} {xs : Nat → Int32} (t i : Nat) (k : Int) (h1 : ¬ t = 1301) (h2 : ¬ t = 1302) : jnI L xs t i k = 0 := by
  show (if t = 1301 ∧ i = 0 then (if 0 ≤ k ∧ k < L then (xs k.toNat).toInt else 0) else if t = 1302 ∧ i = 0 then (if k = 0 then (L : Int) else 0) else 0) = 0
  rw [if_neg (fun q => h1 q.1), if_neg (fun q => h2 q.1)]

