section S8948
variable {l : Launch} {D : va_G} {b : Nat} {X1 X2 : Int → Int} {s00 : State}
set_option maxHeartbeats 2000000 in
theorem lk_104 (htr : l.stackTraces = false) (hS0 : lkS s00) {sa1 sa2 : Nat} {ids : List mmO} {ad : mmO → Nat} {ca : mmO → ClassId} {tys : List (ClassId × FieldType)} {I0 : Nat → Nat → Int → Int} {R0 : Nat → Nat → Int → Option mmO} {cn : Nat → Nat} {sz : Nat} {Q : Option mmV → mmM → Prop} {EC : String → Prop} {x ru ra rk rs : mmO} {p0 p1 : Int}
    (hx : mmKo x.1 = some 10) (h1 : R0 x.1 x.2 2 = some ru) (h2 : mmKo ru.1 = some 6) (h3 : R0 ru.1 ru.2 9 = some ra) (h4 : mmKe ra.1 = 1) (h5 : mmLen ra.1 = 4) (h6 : R0 ru.1 ru.2 10 = some rk) (h7 : mmKe rk.1 = 1) (h8 : mmLen rk.1 = 4) (h9 : R0 ru.1 ru.2 11 = some rs) (h10 : mmKe rs.1 = 0) (h11 : mmLen rs.1 = 4) (h12 : I0 ru.1 ru.2 2 ≤ 4)
    (kI : p0 < 0 ∨ I0 ru.1 ru.2 2 ≤ p0 → EC "java/lang/IndexOutOfBoundsException") (kN : 0 ≤ p0 → p0 < I0 ru.1 ru.2 2 → p1 < 0 ∨ 2 < p1 → EC "java/util/NoSuchElementException")
    (k0 : 0 ≤ p0 → p0 < I0 ru.1 ru.2 2 → p1 = 0 → Q (some (.inl (if I0 ra.1 ra.2 p0 = 0 then 0 else 1))) (I0, R0, cn, 1, 8)) (k1 : 0 ≤ p0 → p0 < I0 ru.1 ru.2 2 → p1 = 1 → Q (some (.inl (I0 rs.1 rs.2 p0))) (I0, R0, cn, 1, 8)) (k2 : 0 ≤ p0 → p0 < I0 ru.1 ru.2 2 → p1 = 2 → Q (some (.inl (if I0 rk.1 rk.2 p0 = 0 then 0 else 1))) (I0, R0, cn, 1, 8)) :
    vx_Met l yX10_look (Cond.code yX10_look cX10_look 3 (some .int) :: mmTs) (mmRm 6 1 8) (lkPc sa1 sa2 s00 D b X1 X2 ids ad ca tys (I0, R0, cn, 1, 8) sz [.inr (.inr (some x)), .inl p0, .inl p1]) (mmQc s00 D b X1 X2 ids ad ca (I0, R0, cn, 1, 8) sz Q) (lkX EC D b ids ad ca (I0, R0, cn, 1, 8) sz) 1 8 (va_A (mmW ids ad ca (I0, R0, cn, 1, 8)) sz) := by
  refine vx_ofW (cc := cX10_look) (maxL := 3) (ret := some .int) (by decide +kernel) rfl ?_
  intro p e s m args below meth c s₁ B hml hnt hv
  obtain ⟨rfl, rfl, hrel, hargs, hs1, hs2⟩ := hv
  have hts := atoms_spec (ws := Cond.code yX10_look cX10_look 3 (some .int) :: mmTs) B.pre
  have hE : mmEn p s m ([.inr (.inr (some x)), .inl p0, .inl p1].map (mmCv ad)).toArray c cX10_look "PostStones" 3 := ⟨B.exec, B.bytes, hml, findClass_of_methodNamed B.named, fun w hw => hts w (List.mem_cons_of_mem _ hw)⟩
  have hX := mmCtx.ofRel hrel
  obtain ⟨r1, r2, r3, r4, r5, r6, r7, r8, r9, r10⟩ := id hrel
  have hRt0 := mm_ret (p := p) (l := l) (e := e) (R := mmRm 6 1 8) (m := m) (below := below) (args := ([.inr (.inr (some x)), .inl p0, .inl p1].map (mmCv ad)).toArray) (D := D) (b := b) (X1 := X1) (X2 := X2) (Q := Q) (rt := some .int) B.exec B.bytes B.returns B.notSynchronized hX
  have hRt : mmRet p l e (mmRm 6 1 8) s m ([.inr (.inr (some x)), .inl p0, .inl p1].map (mmCv ad)).toArray below meth c (vx_MQ below (mmQc s00 D b X1 X2 ids ad ca (I0, R0, cn, 1, 8) s.heap.size Q) (lkX EC D b ids ad ca (I0, R0, cn, 1, 8) s.heap.size) ([.inr (.inr (some x)), .inl p0, .inl p1].map (mmCv ad)).toArray s 1 8 (va_A (mmW ids ad ca (I0, R0, cn, 1, 8)) s.heap.size)) cX10_look D (va_A (mmW ids ad ca (I0, R0, cn, 1, 8)) s.heap.size) b X1 X2 ids ad (some .int) Q := fun r ν ids' ad' ca' tys' H locs cells slots la pc hQ I hov rc rs hk => vx_ret (hRt0 r ν ids' ad' ca' tys' H locs cells slots la pc hQ I hov rc rs hk)
  have hZU : vx_Zq Bundle.tN "UNASSIGNED_STACK" Bundle.steD (va_A (mmW ids ad ca (I0, R0, cn, 1, 8)) s.heap.size) s s.heap := vx_Zq.narrow (vx_Zq.kept (vx_Zq.moved hX.2.2.2.2.1 hS0.2.1) (fun a ha _ => hX.2.2.2.1 a ha)) (fun a ha => hX.2.1 a ha)
  have hZN : vx_Zq Bundle.tN "SUPPRESSED_SENTINEL" Bundle.listD (va_A (mmW ids ad ca (I0, R0, cn, 1, 8)) s.heap.size) s s.heap := vx_Zq.narrow (vx_Zq.kept (vx_Zq.moved hX.2.2.2.2.1 hS0.2.2.1) (fun a ha _ => hX.2.2.2.1 a ha)) (fun a ha => hX.2.1 a ha)
  have hx9 : ∀ (E : String) (ids' : List mmO) (ad' : mmO → Nat) (ca' : mmO → ClassId) (tys' : List (ClassId × FieldType)) (H : Heap) (locs : List Loc), EC E → mmInv D (va_A (mmW ids ad ca (I0, R0, cn, 1, 8)) s.heap.size) b X1 X2 ids ad s ids' ad' ca' tys' (I0, R0, cn, 1, 8) H locs → ∀ t : State, s.vm.Alike t.vm → H.size ≤ t.heap.size → (∀ q : Nat, q < H.size → t.heap[q]? = H[q]?) → lkX EC D b ids ad ca (I0, R0, cn, 1, 8) s.heap.size E s t := by
    intro E ids' ad' ca' tys' H locs hec I t ht hz hk
    obtain ⟨i1, i2, i3, i4, i5, i6, i7, i8, i9⟩ := I
    exact ⟨hec, ⟨ids', ad', ca', tys', i1.kept (fun k q hq => hk q.1 ((i1 k q hq).lt)), i2, va_K.moved ht i4, i5, i6, i7⟩, Nat.le_trans i3.1 hz, fun q hq hA => (hk q (Nat.lt_of_lt_of_le hq i3.1)).trans (i3.2.1 q hq hA)⟩
  have t15 : (p0 < 0 ∨ I0 ru.1 ru.2 2 ≤ p0) → mmPt p l e (mmRm 6 1 8) s m ([.inr (.inr (some x)), .inl p0, .inl p1].map (mmCv ad)).toArray below meth c (vx_MQ below (mmQc s00 D b X1 X2 ids ad ca (I0, R0, cn, 1, 8) s.heap.size Q) (lkX EC D b ids ad ca (I0, R0, cn, 1, 8) s.heap.size) ([.inr (.inr (some x)), .inl p0, .inl p1].map (mmCv ad)).toArray s 1 8 (va_A (mmW ids ad ca (I0, R0, cn, 1, 8)) s.heap.size)) 3 D (va_A (mmW ids ad ca (I0, R0, cn, 1, 8)) s.heap.size) b X1 X2 ids ad 15 [some (.inr (.inr (some x))), some (.inl p0), some (.inl p1)] [] (I0, R0, cn, 1, 8) := by
    intro hc ids' ad' ca' tys' H locs cells slots la I ho hl Lr rc rs
    have rc' : cells + 1 ≤ 1 := rc
    have rs' : slots + 8 ≤ 8 := rs
    exact vx_throwS (own := "PostStones") (cls := "java/lang/IndexOutOfBoundsException") (names := ["java/lang/RuntimeException", "java/lang/Exception"]) (ik := 107) (is := 109) (ic := 111) (text := "no such kind") (sa := sa1) (A := va_A (mmW ids ad ca (I0, R0, cn, 1, 8)) s.heap.size) B.exec B.bytes htr hE.2.2.2.1 (by decide +kernel) (by decide +kernel) (hE.2.2.2.2 _ lk_c1) (hE.2.2.2.2 _ lk_i1) hs1 (vx_hat (B := lkB) (fun w hw => hE.2.2.2.2 w (List.mem_filter.mpr ⟨lk_in1 w hw, (List.mem_filter.mp hw).2⟩)) lk_b1 (fun w hw => lk_mv hw hS0.1 hX.2.2.2.2.1)) lk_o1 hZU hZN I.2.2.1 (Lr.2.1.trans hml.symm) e104_15 e104_18 e104_19 e104_21 e104_24 (fun z hz => (hnt z hz).elim) (by show 2 + 3 < 6; decide) (by show 0 + (13 * (2 + 1) + 43) ≤ 64 * 6; decide) (by show cells + 1 ≤ 1; omega) (by show slots + 6 ≤ 8; omega) B.notSynchronized (hx9 _ ids' ad' ca' tys' H locs (kI hc) I) I.2.2.1.2.2 rc' (by omega)
  have t98 : (0 ≤ p0 ∧ p0 < I0 ru.1 ru.2 2 ∧ (p1 < 0 ∨ 2 < p1)) → mmPt p l e (mmRm 6 1 8) s m ([.inr (.inr (some x)), .inl p0, .inl p1].map (mmCv ad)).toArray below meth c (vx_MQ below (mmQc s00 D b X1 X2 ids ad ca (I0, R0, cn, 1, 8) s.heap.size Q) (lkX EC D b ids ad ca (I0, R0, cn, 1, 8) s.heap.size) ([.inr (.inr (some x)), .inl p0, .inl p1].map (mmCv ad)).toArray s 1 8 (va_A (mmW ids ad ca (I0, R0, cn, 1, 8)) s.heap.size)) 3 D (va_A (mmW ids ad ca (I0, R0, cn, 1, 8)) s.heap.size) b X1 X2 ids ad 98 [some (.inr (.inr (some x))), some (.inl p0), some (.inl p1)] [] (I0, R0, cn, 1, 8) := by
    intro hc ids' ad' ca' tys' H locs cells slots la I ho hl Lr rc rs
    have rc' : cells + 1 ≤ 1 := rc
    have rs' : slots + 8 ≤ 8 := rs
    exact nx_throwS (ix := 13) (rx := prog_22_method_4_code) (own := "PostStones") (cls := "java/util/NoSuchElementException") (names := ["java/lang/RuntimeException", "java/lang/Exception"]) (ik := 124) (is := 126) (ic := 128) (text := "no such what") (sa := sa2) (A := va_A (mmW ids ad ca (I0, R0, cn, 1, 8)) s.heap.size) B.exec B.bytes htr (by decide +kernel) (by decide +kernel) (by decide +kernel) (by decide +kernel) hE.2.2.2.1 (by decide +kernel) (by decide +kernel) (hE.2.2.2.2 _ lk_c2) (hE.2.2.2.2 _ lk_i2) hs2 (vx_hat (B := lkB) (fun w hw => hE.2.2.2.2 w (List.mem_filter.mpr ⟨lk_in2 w hw, (List.mem_filter.mp hw).2⟩)) lk_b2 (fun w hw => lk_mv hw hS0.1 hX.2.2.2.2.1)) lk_o2 hZU hZN I.2.2.1 (Lr.2.1.trans hml.symm) e104_98 e104_101 e104_102 e104_104 e104_107 (fun z hz => (hnt z hz).elim) (by show 2 + 3 < 6; decide) (by show 0 + (13 * (2 + 1) + 43) ≤ 64 * 6; decide) (by show cells + 1 ≤ 1; omega) (by show slots + 6 ≤ 8; omega) B.notSynchronized (hx9 _ ids' ad' ca' tys' H locs (kN hc.1 hc.2.1 hc.2.2) I) I.2.2.1.2.2 rc' (by omega)
  have t52r : ∀ z : Int, Q (some (.inl z)) (I0, R0, cn, 1, 8) → mmPt p l e (mmRm 6 1 8) s m ([.inr (.inr (some x)), .inl p0, .inl p1].map (mmCv ad)).toArray below meth c (vx_MQ below (mmQc s00 D b X1 X2 ids ad ca (I0, R0, cn, 1, 8) s.heap.size Q) (lkX EC D b ids ad ca (I0, R0, cn, 1, 8) s.heap.size) ([.inr (.inr (some x)), .inl p0, .inl p1].map (mmCv ad)).toArray s 1 8 (va_A (mmW ids ad ca (I0, R0, cn, 1, 8)) s.heap.size)) 3 D (va_A (mmW ids ad ca (I0, R0, cn, 1, 8)) s.heap.size) b X1 X2 ids ad 69 [some (.inr (.inr (some x))), some (.inl p0), some (.inl p1)] [.inl z] (I0, R0, cn, 1, 8) := by
    intro z hz
    refine mo_ireturn (C := fun _ _ _ _ => False) (J := fun _ _ _ _ => False) (κ := fun _ _ _ => False) (pay := [0]) (cst := 0) hRt e104_69 (Or.inl rfl) ?_
    exact ⟨fun q => (by cases q), hz⟩
  have t52 : 0 ≤ p0 → p0 < I0 ru.1 ru.2 2 → p1 = 0 → mmPt p l e (mmRm 6 1 8) s m ([.inr (.inr (some x)), .inl p0, .inl p1].map (mmCv ad)).toArray below meth c (vx_MQ below (mmQc s00 D b X1 X2 ids ad ca (I0, R0, cn, 1, 8) s.heap.size Q) (lkX EC D b ids ad ca (I0, R0, cn, 1, 8) s.heap.size) ([.inr (.inr (some x)), .inl p0, .inl p1].map (mmCv ad)).toArray s 1 8 (va_A (mmW ids ad ca (I0, R0, cn, 1, 8)) s.heap.size)) 3 D (va_A (mmW ids ad ca (I0, R0, cn, 1, 8)) s.heap.size) b X1 X2 ids ad 52 [some (.inr (.inr (some x))), some (.inl p0), some (.inl p1)] [] (I0, R0, cn, 1, 8) := by
    intro c0 c1 c2
    refine mo_aload_n (C := fun _ _ _ _ => False) (J := fun _ _ _ _ => False) (Q := Q) (pay := []) (cst := 0) hE e104_52 (fun _ _ _ q => q) ?_
    refine mo_getA (cx := 10) (f := 2) hE e104_53 rfl rfl (by decide) rfl lk_f26 hx h1 ?_
    refine mo_getA (cx := 6) (f := 9) hE e104_56 rfl rfl (by decide) rfl lk_f114 h2 h3 ?_
    refine mo_iload_n (C := fun _ _ _ _ => False) (J := fun _ _ _ _ => False) (Q := Q) (pay := []) (cst := 0) hE e104_59 (fun _ _ _ q => q) ?_
    refine mo_baload (C := fun _ _ _ _ => False) (J := fun _ _ _ _ => False) (Q := Q) (pay := []) (cst := 0) hE e104_60 (fun _ _ _ q => q) ?_
    refine ⟨h4, c0, by rw [h5]; omega, ?_⟩
    refine mo_ifCond (C := fun _ _ _ _ => False) (J := fun _ ls st μ => mmPt p l e (mmRm 6 1 8) s m ([.inr (.inr (some x)), .inl p0, .inl p1].map (mmCv ad)).toArray below meth c (vx_MQ below (mmQc s00 D b X1 X2 ids ad ca (I0, R0, cn, 1, 8) s.heap.size Q) (lkX EC D b ids ad ca (I0, R0, cn, 1, 8) s.heap.size) ([.inr (.inr (some x)), .inl p0, .inl p1].map (mmCv ad)).toArray s 1 8 (va_A (mmW ids ad ca (I0, R0, cn, 1, 8)) s.heap.size)) 3 D (va_A (mmW ids ad ca (I0, R0, cn, 1, 8)) s.heap.size) b X1 X2 ids ad 68 ls st μ) (Q := Q) (pay := [0]) (cst := 0) hE e104_61 (tgt := 68) rfl (fun _ _ _ q => q) (fun _ _ _ q => q) ?_
    have hq := k0 c0 c1 c2
    refine ⟨fun c9 => ?_, fun c9 => ?_⟩
    · rw [if_pos c9] at hq
      refine mo_iconst (C := fun _ _ _ _ => False) (J := fun _ _ _ _ => False) (Q := Q) (pay := []) (cst := 0) hE e104_68 (by unfold mmR32; decide) (fun _ _ _ q => q) ?_
      exact t52r 0 hq
    · rw [if_neg c9] at hq
      refine mo_iconst (C := fun _ _ _ _ => False) (J := fun _ _ _ _ => False) (Q := Q) (pay := []) (cst := 0) hE e104_64 (by unfold mmR32; decide) (fun _ _ _ q => q) ?_
      refine mo_goto (C := fun _ _ _ _ => False) (J := fun _ ls st μ => mmPt p l e (mmRm 6 1 8) s m ([.inr (.inr (some x)), .inl p0, .inl p1].map (mmCv ad)).toArray below meth c (vx_MQ below (mmQc s00 D b X1 X2 ids ad ca (I0, R0, cn, 1, 8) s.heap.size Q) (lkX EC D b ids ad ca (I0, R0, cn, 1, 8) s.heap.size) ([.inr (.inr (some x)), .inl p0, .inl p1].map (mmCv ad)).toArray s 1 8 (va_A (mmW ids ad ca (I0, R0, cn, 1, 8)) s.heap.size)) 3 D (va_A (mmW ids ad ca (I0, R0, cn, 1, 8)) s.heap.size) b X1 X2 ids ad 69 ls st μ) (Q := Q) (κ := fun _ _ _ => False) (pay := [0]) (cst := 0) hE e104_65 (tgt := 69) rfl (fun _ _ _ q => q) ?_
      exact t52r 1 hq
  have t80r : ∀ z : Int, Q (some (.inl z)) (I0, R0, cn, 1, 8) → mmPt p l e (mmRm 6 1 8) s m ([.inr (.inr (some x)), .inl p0, .inl p1].map (mmCv ad)).toArray below meth c (vx_MQ below (mmQc s00 D b X1 X2 ids ad ca (I0, R0, cn, 1, 8) s.heap.size Q) (lkX EC D b ids ad ca (I0, R0, cn, 1, 8) s.heap.size) ([.inr (.inr (some x)), .inl p0, .inl p1].map (mmCv ad)).toArray s 1 8 (va_A (mmW ids ad ca (I0, R0, cn, 1, 8)) s.heap.size)) 3 D (va_A (mmW ids ad ca (I0, R0, cn, 1, 8)) s.heap.size) b X1 X2 ids ad 97 [some (.inr (.inr (some x))), some (.inl p0), some (.inl p1)] [.inl z] (I0, R0, cn, 1, 8) := by
    intro z hz
    refine mo_ireturn (C := fun _ _ _ _ => False) (J := fun _ _ _ _ => False) (κ := fun _ _ _ => False) (pay := [0]) (cst := 0) hRt e104_97 (Or.inl rfl) ?_
    exact ⟨fun q => (by cases q), hz⟩
  have t80 : 0 ≤ p0 → p0 < I0 ru.1 ru.2 2 → p1 = 2 → mmPt p l e (mmRm 6 1 8) s m ([.inr (.inr (some x)), .inl p0, .inl p1].map (mmCv ad)).toArray below meth c (vx_MQ below (mmQc s00 D b X1 X2 ids ad ca (I0, R0, cn, 1, 8) s.heap.size Q) (lkX EC D b ids ad ca (I0, R0, cn, 1, 8) s.heap.size) ([.inr (.inr (some x)), .inl p0, .inl p1].map (mmCv ad)).toArray s 1 8 (va_A (mmW ids ad ca (I0, R0, cn, 1, 8)) s.heap.size)) 3 D (va_A (mmW ids ad ca (I0, R0, cn, 1, 8)) s.heap.size) b X1 X2 ids ad 80 [some (.inr (.inr (some x))), some (.inl p0), some (.inl p1)] [] (I0, R0, cn, 1, 8) := by
    intro c0 c1 c2
    refine mo_aload_n (C := fun _ _ _ _ => False) (J := fun _ _ _ _ => False) (Q := Q) (pay := []) (cst := 0) hE e104_80 (fun _ _ _ q => q) ?_
    refine mo_getA (cx := 10) (f := 2) hE e104_81 rfl rfl (by decide) rfl lk_f26 hx h1 ?_
    refine mo_getA (cx := 6) (f := 10) hE e104_84 rfl rfl (by decide) rfl lk_f121 h2 h6 ?_
    refine mo_iload_n (C := fun _ _ _ _ => False) (J := fun _ _ _ _ => False) (Q := Q) (pay := []) (cst := 0) hE e104_87 (fun _ _ _ q => q) ?_
    refine mo_baload (C := fun _ _ _ _ => False) (J := fun _ _ _ _ => False) (Q := Q) (pay := []) (cst := 0) hE e104_88 (fun _ _ _ q => q) ?_
    refine ⟨h7, c0, by rw [h8]; omega, ?_⟩
    refine mo_ifCond (C := fun _ _ _ _ => False) (J := fun _ ls st μ => mmPt p l e (mmRm 6 1 8) s m ([.inr (.inr (some x)), .inl p0, .inl p1].map (mmCv ad)).toArray below meth c (vx_MQ below (mmQc s00 D b X1 X2 ids ad ca (I0, R0, cn, 1, 8) s.heap.size Q) (lkX EC D b ids ad ca (I0, R0, cn, 1, 8) s.heap.size) ([.inr (.inr (some x)), .inl p0, .inl p1].map (mmCv ad)).toArray s 1 8 (va_A (mmW ids ad ca (I0, R0, cn, 1, 8)) s.heap.size)) 3 D (va_A (mmW ids ad ca (I0, R0, cn, 1, 8)) s.heap.size) b X1 X2 ids ad 96 ls st μ) (Q := Q) (pay := [0]) (cst := 0) hE e104_89 (tgt := 96) rfl (fun _ _ _ q => q) (fun _ _ _ q => q) ?_
    have hq := k2 c0 c1 c2
    refine ⟨fun c9 => ?_, fun c9 => ?_⟩
    · rw [if_pos c9] at hq
      refine mo_iconst (C := fun _ _ _ _ => False) (J := fun _ _ _ _ => False) (Q := Q) (pay := []) (cst := 0) hE e104_96 (by unfold mmR32; decide) (fun _ _ _ q => q) ?_
      exact t80r 0 hq
    · rw [if_neg c9] at hq
      refine mo_iconst (C := fun _ _ _ _ => False) (J := fun _ _ _ _ => False) (Q := Q) (pay := []) (cst := 0) hE e104_92 (by unfold mmR32; decide) (fun _ _ _ q => q) ?_
      refine mo_goto (C := fun _ _ _ _ => False) (J := fun _ ls st μ => mmPt p l e (mmRm 6 1 8) s m ([.inr (.inr (some x)), .inl p0, .inl p1].map (mmCv ad)).toArray below meth c (vx_MQ below (mmQc s00 D b X1 X2 ids ad ca (I0, R0, cn, 1, 8) s.heap.size Q) (lkX EC D b ids ad ca (I0, R0, cn, 1, 8) s.heap.size) ([.inr (.inr (some x)), .inl p0, .inl p1].map (mmCv ad)).toArray s 1 8 (va_A (mmW ids ad ca (I0, R0, cn, 1, 8)) s.heap.size)) 3 D (va_A (mmW ids ad ca (I0, R0, cn, 1, 8)) s.heap.size) b X1 X2 ids ad 97 ls st μ) (Q := Q) (κ := fun _ _ _ => False) (pay := [0]) (cst := 0) hE e104_93 (tgt := 97) rfl (fun _ _ _ q => q) ?_
      exact t80r 1 hq
  have t70 : 0 ≤ p0 → p0 < I0 ru.1 ru.2 2 → p1 = 1 → mmPt p l e (mmRm 6 1 8) s m ([.inr (.inr (some x)), .inl p0, .inl p1].map (mmCv ad)).toArray below meth c (vx_MQ below (mmQc s00 D b X1 X2 ids ad ca (I0, R0, cn, 1, 8) s.heap.size Q) (lkX EC D b ids ad ca (I0, R0, cn, 1, 8) s.heap.size) ([.inr (.inr (some x)), .inl p0, .inl p1].map (mmCv ad)).toArray s 1 8 (va_A (mmW ids ad ca (I0, R0, cn, 1, 8)) s.heap.size)) 3 D (va_A (mmW ids ad ca (I0, R0, cn, 1, 8)) s.heap.size) b X1 X2 ids ad 70 [some (.inr (.inr (some x))), some (.inl p0), some (.inl p1)] [] (I0, R0, cn, 1, 8) := by
    intro c0 c1 c2
    refine mo_aload_n (C := fun _ _ _ _ => False) (J := fun _ _ _ _ => False) (Q := Q) (pay := []) (cst := 0) hE e104_70 (fun _ _ _ q => q) ?_
    refine mo_getA (cx := 10) (f := 2) hE e104_71 rfl rfl (by decide) rfl lk_f26 hx h1 ?_
    refine mo_getA (cx := 6) (f := 11) hE e104_74 rfl rfl (by decide) rfl lk_f118 h2 h9 ?_
    refine mo_iload_n (C := fun _ _ _ _ => False) (J := fun _ _ _ _ => False) (Q := Q) (pay := []) (cst := 0) hE e104_77 (fun _ _ _ q => q) ?_
    refine mo_iaload (C := fun _ _ _ _ => False) (J := fun _ _ _ _ => False) (Q := Q) (cst := 0) hE e104_78 (fun _ _ _ q => q) ?_
    refine ⟨h10, c0, by rw [h11]; omega, ?_⟩
    refine mo_ireturn (C := fun _ _ _ _ => False) (J := fun _ _ _ _ => False) (κ := fun _ _ _ => False) (pay := [0]) (cst := 0) hRt e104_79 (Or.inl rfl) ?_
    exact ⟨fun q => (by cases q), k1 c0 c1 c2⟩
  have t25 : 0 ≤ p0 → p0 < I0 ru.1 ru.2 2 → mmPt p l e (mmRm 6 1 8) s m ([.inr (.inr (some x)), .inl p0, .inl p1].map (mmCv ad)).toArray below meth c (vx_MQ below (mmQc s00 D b X1 X2 ids ad ca (I0, R0, cn, 1, 8) s.heap.size Q) (lkX EC D b ids ad ca (I0, R0, cn, 1, 8) s.heap.size) ([.inr (.inr (some x)), .inl p0, .inl p1].map (mmCv ad)).toArray s 1 8 (va_A (mmW ids ad ca (I0, R0, cn, 1, 8)) s.heap.size)) 3 D (va_A (mmW ids ad ca (I0, R0, cn, 1, 8)) s.heap.size) b X1 X2 ids ad 25 [some (.inr (.inr (some x))), some (.inl p0), some (.inl p1)] [] (I0, R0, cn, 1, 8) := by
    intro c0 c1
    refine mo_iload_n (C := fun _ _ _ _ => False) (J := fun _ _ _ _ => False) (Q := Q) (pay := []) (cst := 0) hE e104_25 (fun _ _ _ q => q) ?_
    refine mo_tableswitch (C := fun _ _ _ _ => False) (J := fun t ls st μ => mmPt p l e (mmRm 6 1 8) s m ([.inr (.inr (some x)), .inl p0, .inl p1].map (mmCv ad)).toArray below meth c (vx_MQ below (mmQc s00 D b X1 X2 ids ad ca (I0, R0, cn, 1, 8) s.heap.size Q) (lkX EC D b ids ad ca (I0, R0, cn, 1, 8) s.heap.size) ([.inr (.inr (some x)), .inl p0, .inl p1].map (mmCv ad)).toArray s 1 8 (va_A (mmW ids ad ca (I0, R0, cn, 1, 8)) s.heap.size)) 3 D (va_A (mmW ids ad ca (I0, R0, cn, 1, 8)) s.heap.size) b X1 X2 ids ad (([98, 52, 70, 80] : List Nat).getD t 0) ls st μ) (Q := Q) (κ := fun _ _ _ => False) (pay := [0, 1, 2, 3]) (cst := 0) hE e104_26 (pcs := [98, 52, 70, 80]) rfl (fun _ _ _ _ q => q) (fun i hi => ?_) ?_
    · have hi3 : i = 0 ∨ i = 1 ∨ i = 2 := by omega
      rcases hi3 with rfl | rfl | rfl
      · exact ⟨26, 1, rfl, rfl, rfl⟩
      · exact ⟨44, 2, rfl, rfl, rfl⟩
      · exact ⟨54, 3, rfl, rfl, rfl⟩
    · refine ⟨⟨fun c9 => ?_, fun c9 => ?_, fun c9 => ?_, trivial⟩, fun c9 => ?_⟩
      · exact t52 c0 c1 c9
      · exact t70 c0 c1 (by omega)
      · exact t80 c0 c1 (by omega)
      · exact t98 ⟨c0, c1, c9⟩
  have t0 : mmPt p l e (mmRm 6 1 8) s m ([.inr (.inr (some x)), .inl p0, .inl p1].map (mmCv ad)).toArray below meth c (vx_MQ below (mmQc s00 D b X1 X2 ids ad ca (I0, R0, cn, 1, 8) s.heap.size Q) (lkX EC D b ids ad ca (I0, R0, cn, 1, 8) s.heap.size) ([.inr (.inr (some x)), .inl p0, .inl p1].map (mmCv ad)).toArray s 1 8 (va_A (mmW ids ad ca (I0, R0, cn, 1, 8)) s.heap.size)) 3 D (va_A (mmW ids ad ca (I0, R0, cn, 1, 8)) s.heap.size) b X1 X2 ids ad 0 [some (.inr (.inr (some x))), some (.inl p0), some (.inl p1)] [] (I0, R0, cn, 1, 8) := by
    refine mo_iload_n (C := fun _ _ _ _ => False) (J := fun _ _ _ _ => False) (Q := Q) (pay := []) (cst := 0) hE e104_0 (fun _ _ _ q => q) ?_
    refine mo_ifCond (C := fun _ _ _ _ => False) (J := fun _ ls st μ => mmPt p l e (mmRm 6 1 8) s m ([.inr (.inr (some x)), .inl p0, .inl p1].map (mmCv ad)).toArray below meth c (vx_MQ below (mmQc s00 D b X1 X2 ids ad ca (I0, R0, cn, 1, 8) s.heap.size Q) (lkX EC D b ids ad ca (I0, R0, cn, 1, 8) s.heap.size) ([.inr (.inr (some x)), .inl p0, .inl p1].map (mmCv ad)).toArray s 1 8 (va_A (mmW ids ad ca (I0, R0, cn, 1, 8)) s.heap.size)) 3 D (va_A (mmW ids ad ca (I0, R0, cn, 1, 8)) s.heap.size) b X1 X2 ids ad 15 ls st μ) (Q := Q) (pay := [0]) (cst := 0) hE e104_1 (tgt := 15) rfl (fun _ _ _ q => q) (fun _ _ _ q => q) ?_
    refine ⟨fun c9 => t15 (Or.inl c9), fun c9 => ?_⟩
    refine mo_iload_n (C := fun _ _ _ _ => False) (J := fun _ _ _ _ => False) (Q := Q) (pay := []) (cst := 0) hE e104_4 (fun _ _ _ q => q) ?_
    refine mo_aload_n (C := fun _ _ _ _ => False) (J := fun _ _ _ _ => False) (Q := Q) (pay := []) (cst := 0) hE e104_5 (fun _ _ _ q => q) ?_
    refine mo_getA (cx := 10) (f := 2) hE e104_6 rfl rfl (by decide) rfl lk_f26 hx h1 ?_
    refine mo_getI (cx := 6) (f := 2) hE e104_9 rfl rfl (by decide) rfl lk_f104 h2 ?_
    refine mo_if_icmp (C := fun _ _ _ _ => False) (J := fun _ ls st μ => mmPt p l e (mmRm 6 1 8) s m ([.inr (.inr (some x)), .inl p0, .inl p1].map (mmCv ad)).toArray below meth c (vx_MQ below (mmQc s00 D b X1 X2 ids ad ca (I0, R0, cn, 1, 8) s.heap.size Q) (lkX EC D b ids ad ca (I0, R0, cn, 1, 8) s.heap.size) ([.inr (.inr (some x)), .inl p0, .inl p1].map (mmCv ad)).toArray s 1 8 (va_A (mmW ids ad ca (I0, R0, cn, 1, 8)) s.heap.size)) 3 D (va_A (mmW ids ad ca (I0, R0, cn, 1, 8)) s.heap.size) b X1 X2 ids ad 25 ls st μ) (Q := Q) (pay := [0]) (cst := 0) hE e104_12 (tgt := 25) rfl (fun _ _ _ q => q) (fun _ _ _ q => q) ?_
    exact ⟨fun c2 => t25 c9 c2, fun c2 => t15 (Or.inr c2)⟩
  have hl := lv_entry ([.inr (.inr (some x)), .inl p0, .inl p1].map (mmCv ad)) (n := 3) (by rw [mmWd_lg]; exact Nat.le_refl _)
  rw [lg_entry_eq]
  generalize (lg_sl ([.inr (.inr (some x)), .inl p0, .inl p1].map (mmCv ad)) ++ List.replicate (3 - (lg_sl ([.inr (.inr (some x)), .inl p0, .inl p1].map (mmCv ad))).length) Slot.unset).toArray = la at hl ⊢
  have I : mmInv D (va_A (mmW ids ad ca (I0, R0, cn, 1, 8)) s.heap.size) b X1 X2 ids ad s ids ad ca tys (I0, R0, cn, 1, 8) s.heap [] := ⟨r1, r3.self, va_S.rf, r2, r4, r5, fun o ho => ⟨ho, rfl⟩, r6, r7⟩
  exact t0 ids ad ca tys s.heap [] 0 0 la I (fun v hv => by cases hv) (fun v hv => hargs v (mmLs_mem (n := 3) (a := [.inr (.inr (some x)), .inl p0, .inl p1]) hv)) ⟨rfl, (mmLs_lv (ad := ad) (a := [.inr (.inr (some x)), .inl p0, .inl p1]) (n := 3) (i := 0)) ▸ hl⟩ (Nat.le_refl _) (Nat.le_refl _)
end S8948
