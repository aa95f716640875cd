/-! the law's look: PostStones.look and PostStonesLaw.look -/
/-- what holds where the class's look has thrown -/
def lkX (EC : String → Prop) (D : va_G) (b : Nat) (ids : List mmO) (ad : mmO → Nat) (ca : mmO → ClassId) (μ : mmM) (sz : Nat) : String → State → State → Prop := fun E st t =>
  EC E ∧ (∃ (ids' : List mmO) (ad' : mmO → Nat) (ca' : mmO → ClassId) (tys' : List (ClassId × FieldType)), va_P D mmCl (mmW ids' ad' ca' μ) t.heap ∧ va_D (va_A (mmW ids ad ca μ) sz) (mmW ids' ad' ca' μ) ∧ va_K D mmCl tys' t ∧ mmOk ids' ca' tys' μ ∧ ad' (1301, 0) = b ∧ ∀ o ∈ ids, o ∈ ids' ∧ ad' o = ad o) ∧ va_F (va_A (mmW ids ad ca μ) sz) st t
def lkPc (sa1 sa2 : Nat) (s00 : State) (D : va_G) (b : Nat) (X1 X2 : Int → Int) (ids : List mmO) (ad : mmO → Nat) (ca : mmO → ClassId) (tys : List (ClassId × FieldType)) (μ : mmM) (sz : Nat) (a : List mmV) : Array Value → State → Prop :=
  va_Pc (a.map (mmCv ad)) (fun U => U.heap.size = sz ∧ mmRel s00 D b X1 X2 ids ad ca tys μ U U.heap ∧ (∀ v ∈ a, mmOv ids v) ∧ vk_R "PostStones" 109 "no such kind" sa1 U ∧ vk_R "PostStones" 126 "no such what" sa2 U)
theorem lkPc_blind {sa1 sa2 : Nat} {s00 : State} {D : va_G} {b : Nat} {X1 X2 : Int → Int} {ids : List mmO} {ad : mmO → Nat} {ca : mmO → ClassId} {tys : List (ClassId × FieldType)} {μ : mmM} {sz : Nat} {a : List mmV} : FrameBlind (lkPc sa1 sa2 s00 D b X1 X2 ids ad ca tys μ sz a) := by
  intro a U g mk q
  obtain ⟨q0, q1, ⟨r1, r2, r3, r4, r5, r6, r7, r8, r9, r10⟩, q3, q4, q5⟩ := q
  exact ⟨q0, q1, ⟨r1, va_K.moved (u := U) (U := U.calling g mk a) (Vm.Alike.refl U.vm) r2, r3, r4, r5, r6, r7, r8, r9, r10.same rfl⟩, q3, vk_R.same rfl q4, vk_R.same rfl q5⟩
def lkI : String := "java/lang/IndexOutOfBoundsException"
def lkE : String := "java/util/NoSuchElementException"
def lkB : List Cond := [.castable "java/lang/IndexOutOfBoundsException" "java/lang/IndexOutOfBoundsException", .castable "java/util/NoSuchElementException" "java/util/NoSuchElementException", .declares ⟨"java/lang/RuntimeException", "<init>", "(Ljava/lang/String;)V"⟩, .declares ⟨"java/lang/Exception", "<init>", "(Ljava/lang/String;)V"⟩, .declares ⟨"java/lang/Throwable", "<init>", "(Ljava/lang/String;)V"⟩]
/-- what the start says of exceptions -/
def lkS (s00 : State) : Prop := (∀ w ∈ lkB, w.before #[] s00 = true) ∧ vx_Zq Bundle.tN "UNASSIGNED_STACK" Bundle.steD (fun a => s00.heap.size ≤ a) s00 s00.heap ∧ vx_Zq Bundle.tN "SUPPRESSED_SENTINEL" Bundle.listD (fun a => s00.heap.size ≤ a) s00 s00.heap ∧ va_Nc "java/util/NoSuchElementException" "java/lang/IndexOutOfBoundsException" s00
theorem lk_mv {w : Cond} (hw : w ∈ lkB) {s00 s : State} {args : Array Value} (h : ∀ w ∈ lkB, w.before #[] s00 = true) (hvm : s00.vm.Alike s.vm) : w.before args s = true := by
  have h0 := h w hw
  have hc : (∃ a b, w = .castable a b) ∨ ∃ x, w = .declares x := by
    unfold lkB at hw
    rcases List.mem_cons.mp hw with e | hw
    · exact Or.inl ⟨_, _, e⟩
    rcases List.mem_cons.mp hw with e | hw
    · exact Or.inl ⟨_, _, e⟩
    rcases List.mem_cons.mp hw with e | hw
    · exact Or.inr ⟨_, e⟩
    rcases List.mem_cons.mp hw with e | hw
    · exact Or.inr ⟨_, e⟩
    rcases List.mem_cons.mp hw with e | hw
    · exact Or.inr ⟨_, e⟩
    · cases hw
  rcases hc with ⟨a, b, rfl⟩ | ⟨x, rfl⟩
  · exact va_tabs rfl (rfl : (s00.setVm s.vm).vm = s.vm) ((Cond.castable_setVm (args := #[]) hvm a b).trans h0)
  · exact va_tabs rfl (rfl : (s00.setVm s.vm).vm = s.vm) ((Cond.declares_setVm (args := #[]) hvm x).trans h0)
theorem lk_in1 : ∀ w ∈ (vx_atS "PostStones" 111 "java/lang/IndexOutOfBoundsException" ["java/lang/RuntimeException", "java/lang/Exception"]).filter goodWord, w ∈ lw_tbl := by decide +kernel
theorem lk_in2 : ∀ w ∈ (nx_atS "PostStones" 128 "java/util/NoSuchElementException" 13 prog_22_method_4_code ["java/lang/RuntimeException", "java/lang/Exception"]).filter goodWord, w ∈ lw_tbl := by decide +kernel
theorem lk_b1 : ∀ w ∈ (vx_atS "PostStones" 111 "java/lang/IndexOutOfBoundsException" ["java/lang/RuntimeException", "java/lang/Exception"]).filter (fun w => !goodWord w), w ∈ lkB := by decide +kernel
theorem lk_b2 : ∀ w ∈ (nx_atS "PostStones" 128 "java/util/NoSuchElementException" 13 prog_22_method_4_code ["java/lang/RuntimeException", "java/lang/Exception"]).filter (fun w => !goodWord w), w ∈ lkB := by decide +kernel
theorem lk_o1 : ∀ w ∈ Cond.classLink "PostStones" 107 "java/lang/IndexOutOfBoundsException" :: Cond.initialized "java/lang/IndexOutOfBoundsException" :: vx_atS "PostStones" 111 "java/lang/IndexOutOfBoundsException" ["java/lang/RuntimeException", "java/lang/Exception"], vx_ot w = true := by decide +kernel
theorem lk_o2 : ∀ w ∈ Cond.classLink "PostStones" 124 "java/util/NoSuchElementException" :: Cond.initialized "java/util/NoSuchElementException" :: nx_atS "PostStones" 128 "java/util/NoSuchElementException" 13 prog_22_method_4_code ["java/lang/RuntimeException", "java/lang/Exception"], vx_ot w = true := by decide +kernel
theorem lk_c1 : Cond.classLink "PostStones" 107 "java/lang/IndexOutOfBoundsException" ∈ mmTs := mmWb_in (k := 1103) (by decide +kernel)
theorem lk_c2 : Cond.classLink "PostStones" 124 "java/util/NoSuchElementException" ∈ mmTs := mmWb_in (k := 1170) (by decide +kernel)
theorem lk_i1 : Cond.initialized "java/lang/IndexOutOfBoundsException" ∈ mmTs := mmWb_in (k := 122) (by decide +kernel)
theorem lk_i2 : Cond.initialized "java/util/NoSuchElementException" ∈ mmTs := mmWb_in (k := 123) (by decide +kernel)
theorem lk_l1 : Cond.classLink "PostStonesLaw" 13 "java/lang/IndexOutOfBoundsException" ∈ mmTs := mmWb_in (k := 1097) (by decide +kernel)
theorem lk_l2 : Cond.classLink "PostStonesLaw" 15 "java/util/NoSuchElementException" ∈ mmTs := mmWb_in (k := 1098) (by decide +kernel)
theorem lk_m7 : Cond.methodLink "PostStonesLaw" 7 yX10_look ∈ mmTs := mmWb_in (k := 1099) (by decide +kernel)
theorem lk_n7 : Cond.instanceMethod yX10_look ∈ mmTs := mmWb_in (k := 1100) (by decide +kernel)
theorem lk_s7 : Cond.selects "PostStones" yX10_look yX10_look ∈ mmTs := mmWb_in (k := 1101) (by decide +kernel)
theorem lk_k7 : Cond.code yX10_look cX10_look 3 (some .int) ∈ mmTs := mmWb_in (k := 1102) (by decide +kernel)
theorem lk_ip : Cond.initialized "PostStones" ∈ mmTs := mmWb_in (k := 107) (by decide +kernel)
theorem lk_il : Cond.initialized "PostStonesLaw" ∈ mmTs := mmWb_in (k := 106) (by decide +kernel)
theorem lk_m39 : Cond.methodLink "PostStonesLaw" 39 yL_look ∈ mmTs := mmWb_in (k := 1094) (by decide +kernel)
theorem lk_s39 : Cond.static yL_look ∈ mmTs := mmWb_in (k := 1095) (by decide +kernel)
theorem lk_k39 : Cond.codeWith yL_look cL_look 5 (some .int) [(0, 10, 13, 13), (0, 10, 17, 15)] ∈ mmTs := mmWb_in (k := 1096) (by decide +kernel)
theorem lk_f26 : Cond.fieldLink "PostStones" 26 "PostStones" "rules" "LPostStones$Rules;" ∈ mmTs := mmWb_in (k := 499) (by decide +kernel)
theorem lk_f104 : Cond.fieldLink "PostStones" 104 "PostStones$Rules" "kinds" "I" ∈ mmTs := mmWb_in (k := 250) (by decide +kernel)
theorem lk_f114 : Cond.fieldLink "PostStones" 114 "PostStones$Rules" "runs" "[Z" ∈ mmTs := mmWb_in (k := 270) (by decide +kernel)
theorem lk_f118 : Cond.fieldLink "PostStones" 118 "PostStones$Rules" "steps" "[I" ∈ mmTs := mmWb_in (k := 278) (by decide +kernel)
theorem lk_f121 : Cond.fieldLink "PostStones" 121 "PostStones$Rules" "kings" "[Z" ∈ mmTs := mmWb_in (k := 275) (by decide +kernel)
theorem e104_0 : decode cX10_look 0 = .ok (.iload_n 1, 1) := by decide +kernel
theorem e104_1 : decode cX10_look 1 = .ok (.ifCond .lt 14, 3) := by decide +kernel
theorem e104_4 : decode cX10_look 4 = .ok (.iload_n 1, 1) := by decide +kernel
theorem e104_5 : decode cX10_look 5 = .ok (.aload_n 0, 1) := by decide +kernel
theorem e104_6 : decode cX10_look 6 = .ok (.getfield 26, 3) := by decide +kernel
theorem e104_9 : decode cX10_look 9 = .ok (.getfield 104, 3) := by decide +kernel
theorem e104_12 : decode cX10_look 12 = .ok (.if_icmp .lt 13, 3) := by decide +kernel
theorem e104_15 : decode cX10_look 15 = .ok (.new 107, 3) := by decide +kernel
theorem e104_18 : decode cX10_look 18 = .ok (.dup, 1) := by decide +kernel
theorem e104_19 : decode cX10_look 19 = .ok (.ldc 109, 2) := by decide +kernel
theorem e104_21 : decode cX10_look 21 = .ok (.invokespecial 111, 3) := by decide +kernel
theorem e104_24 : decode cX10_look 24 = .ok (.athrow, 1) := by decide +kernel
theorem e104_25 : decode cX10_look 25 = .ok (.iload_n 2, 1) := by decide +kernel
theorem e104_26 : decode cX10_look 26 = .ok (.tableswitch 72 0 2 #[26, 44, 54], 26) := by decide +kernel
theorem e104_52 : decode cX10_look 52 = .ok (.aload_n 0, 1) := by decide +kernel
theorem e104_53 : decode cX10_look 53 = .ok (.getfield 26, 3) := by decide +kernel
theorem e104_56 : decode cX10_look 56 = .ok (.getfield 114, 3) := by decide +kernel
theorem e104_59 : decode cX10_look 59 = .ok (.iload_n 1, 1) := by decide +kernel
theorem e104_60 : decode cX10_look 60 = .ok (.baload, 1) := by decide +kernel
theorem e104_61 : decode cX10_look 61 = .ok (.ifCond .eq 7, 3) := by decide +kernel
theorem e104_64 : decode cX10_look 64 = .ok (.iconst 1, 1) := by decide +kernel
theorem e104_65 : decode cX10_look 65 = .ok (.goto 4, 3) := by decide +kernel
theorem e104_68 : decode cX10_look 68 = .ok (.iconst 0, 1) := by decide +kernel
theorem e104_69 : decode cX10_look 69 = .ok (.ireturn, 1) := by decide +kernel
theorem e104_70 : decode cX10_look 70 = .ok (.aload_n 0, 1) := by decide +kernel
theorem e104_71 : decode cX10_look 71 = .ok (.getfield 26, 3) := by decide +kernel
theorem e104_74 : decode cX10_look 74 = .ok (.getfield 118, 3) := by decide +kernel
theorem e104_77 : decode cX10_look 77 = .ok (.iload_n 1, 1) := by decide +kernel
theorem e104_78 : decode cX10_look 78 = .ok (.iaload, 1) := by decide +kernel
theorem e104_79 : decode cX10_look 79 = .ok (.ireturn, 1) := by decide +kernel
theorem e104_80 : decode cX10_look 80 = .ok (.aload_n 0, 1) := by decide +kernel
theorem e104_81 : decode cX10_look 81 = .ok (.getfield 26, 3) := by decide +kernel
theorem e104_84 : decode cX10_look 84 = .ok (.getfield 121, 3) := by decide +kernel
theorem e104_87 : decode cX10_look 87 = .ok (.iload_n 1, 1) := by decide +kernel
theorem e104_88 : decode cX10_look 88 = .ok (.baload, 1) := by decide +kernel
theorem e104_89 : decode cX10_look 89 = .ok (.ifCond .eq 7, 3) := by decide +kernel
theorem e104_92 : decode cX10_look 92 = .ok (.iconst 1, 1) := by decide +kernel
theorem e104_93 : decode cX10_look 93 = .ok (.goto 4, 3) := by decide +kernel
theorem e104_96 : decode cX10_look 96 = .ok (.iconst 0, 1) := by decide +kernel
theorem e104_97 : decode cX10_look 97 = .ok (.ireturn, 1) := by decide +kernel
theorem e104_98 : decode cX10_look 98 = .ok (.new 124, 3) := by decide +kernel
theorem e104_101 : decode cX10_look 101 = .ok (.dup, 1) := by decide +kernel
theorem e104_102 : decode cX10_look 102 = .ok (.ldc 126, 2) := by decide +kernel
theorem e104_104 : decode cX10_look 104 = .ok (.invokespecial 128, 3) := by decide +kernel
theorem e104_107 : decode cX10_look 107 = .ok (.athrow, 1) := by decide +kernel
theorem e256_0 : decode cL_look 0 = .ok (.aload_n 3, 1) := by decide +kernel
theorem e256_1 : decode cL_look 1 = .ok (.iconst 0, 1) := by decide +kernel
theorem e256_2 : decode cL_look 2 = .ok (.aload_n 0, 1) := by decide +kernel
theorem e256_3 : decode cL_look 3 = .ok (.iload_n 1, 1) := by decide +kernel
theorem e256_4 : decode cL_look 4 = .ok (.iload_n 2, 1) := by decide +kernel
theorem e256_5 : decode cL_look 5 = .ok (.invokevirtual 7, 3) := by decide +kernel
theorem e256_8 : decode cL_look 8 = .ok (.i2l, 1) := by decide +kernel
theorem e256_9 : decode cL_look 9 = .ok (.lastore, 1) := by decide +kernel
theorem e256_10 : decode cL_look 10 = .ok (.goto 11, 3) := by decide +kernel
theorem e256_13 : decode cL_look 13 = .ok (.astore 4, 2) := by decide +kernel
theorem e256_15 : decode cL_look 15 = .ok (.iconst 1, 1) := by decide +kernel
theorem e256_16 : decode cL_look 16 = .ok (.ireturn, 1) := by decide +kernel
theorem e256_17 : decode cL_look 17 = .ok (.astore 4, 2) := by decide +kernel
theorem e256_19 : decode cL_look 19 = .ok (.iconst 2, 1) := by decide +kernel
theorem e256_20 : decode cL_look 20 = .ok (.ireturn, 1) := by decide +kernel
theorem e256_21 : decode cL_look 21 = .ok (.iconst 0, 1) := by decide +kernel
theorem e256_22 : decode cL_look 22 = .ok (.ireturn, 1) := by decide +kernel
