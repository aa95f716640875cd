/-- what the small machine says of the law's look -/
def lk256 (a : List mmV) (μ : mmM) (Q : Option mmV → mmM → Prop) : Prop := match a with
  | [.inr (.inr (some x)), .inl p0, .inl p1, .inr (.inr (some u))] => mmKo x.1 = some 10 ∧ mmKe u.1 = 2 ∧ ∃ ru ra rk rs : mmO, μ.2.1 x.1 x.2 2 = some ru ∧ mmKo ru.1 = some 6 ∧ μ.2.1 ru.1 ru.2 9 = some ra ∧ mmKe ra.1 = 1 ∧ mmLen ra.1 = 4 ∧ μ.2.1 ru.1 ru.2 10 = some rk ∧ mmKe rk.1 = 1 ∧ mmLen rk.1 = 4 ∧ μ.2.1 ru.1 ru.2 11 = some rs ∧ mmKe rs.1 = 0 ∧ mmLen rs.1 = 4 ∧ μ.1 ru.1 ru.2 2 ≤ 4 ∧ 1 ≤ mmLen u.1 ∧
        (p0 < 0 ∨ μ.1 ru.1 ru.2 2 ≤ p0 → Q (some (.inl 1)) μ) ∧ (0 ≤ p0 → p0 < μ.1 ru.1 ru.2 2 → (p1 = 0 → Q (some (.inl 0)) (mmU μ.1 u.1 u.2 0 (if μ.1 ra.1 ra.2 p0 = 0 then 0 else 1), μ.2)) ∧ (p1 = 1 → Q (some (.inl 0)) (mmU μ.1 u.1 u.2 0 (μ.1 rs.1 rs.2 p0), μ.2)) ∧
          (p1 = 2 → Q (some (.inl 0)) (mmU μ.1 u.1 u.2 0 (if μ.1 rk.1 rk.2 p0 = 0 then 0 else 1), μ.2)) ∧ (p1 < 0 ∨ 2 < p1 → Q (some (.inl 2)) μ))
  | _ => False
theorem lk256_eq : mmSpc 256 = some lk256 := rfl
def lkEC (kn p0 p1 : Int) (E : String) : Prop := (E = "java/lang/IndexOutOfBoundsException" ∧ (p0 < 0 ∨ kn ≤ p0)) ∨ (E = "java/util/NoSuchElementException" ∧ 0 ≤ p0 ∧ p0 < kn ∧ (p1 < 0 ∨ 2 < p1))
section S8949
variable {l : Launch} {D : va_G} {b : Nat} {X1 X2 : Int → Int} {s00 : State}
set_option maxHeartbeats 2000000 in
theorem lk_256 (htr : l.stackTraces = false) (hS0 : lkS s00) {sa1 sa2 : Nat} {ids : List mmO} {ad : mmO → Nat} {ca : mmO → ClassId} {tys : List (ClassId × FieldType)} {I0 : Nat → Nat → Int → Int} {R0 : Nat → Nat → Int → Option mmO} {cn : Nat → Nat} {sz : Nat} {Q : Option mmV → mmM → Prop} {a : List mmV} (h : lk256 a (I0, R0, cn, 1, 8) Q) :
    Met l yL_look (Cond.codeWith yL_look cL_look 5 (some .int) [(0, 10, 13, 13), (0, 10, 17, 15)] :: mmTs) (mmRm 8 1 8) (lkPc sa1 sa2 s00 D b X1 X2 ids ad ca tys (I0, R0, cn, 1, 8) sz a) (mmQc s00 D b X1 X2 ids ad ca (I0, R0, cn, 1, 8) sz (fun r ν => Q r (ν.1, ν.2.1, ν.2.2.1, 1, 8))) 1 8 (va_A (mmW ids ad ca (I0, R0, cn, 1, 8)) sz) := by
  unfold lk256 at h
  split at h
  rotate_left
  · exact h.elim
  rename_i x p0 p1 u
  obtain ⟨hx, hu, ru, ra, rk, rs, h1, h2, h3, h4, h5, h6, h7, h8, h9, h10, h11, h12, hul, hI, hO⟩ := h
  refine va_MetW (cc := cL_look) (maxL := 5) (ret := some .int) (hh := [(0, 10, 13, 13), (0, 10, 17, 15)]) (by decide +kernel) rfl ?_
  intro p e s m args below meth c s₁ B hml hv
  obtain ⟨rfl, rfl, hrel, hargs, hs1, hs2⟩ := hv
  have hts := atoms_spec (ws := Cond.codeWith yL_look cL_look 5 (some .int) [(0, 10, 13, 13), (0, 10, 17, 15)] :: mmTs) B.pre
  have htb := vx_table (x := yL_look) B (hts _ List.mem_cons_self)
  have hE : mmEn p s m ([.inr (.inr (some x)), .inl p0, .inl p1, .inr (.inr (some u))].map (mmCv ad)).toArray c cL_look "PostStonesLaw" 5 := ⟨B.exec, B.bytes, hml, findClass_of_methodNamed B.named, fun w hw => hts w (List.mem_cons_of_mem _ hw)⟩
  have hX := mmCtx.ofRel hrel
  obtain ⟨r1, r2, r3, r4, r5, r6, r7, r8, r9, r10⟩ := id hrel
  have hRt := mm_ret (p := p) (l := l) (e := e) (R := mmRm 8 1 8) (m := m) (below := below) (args := ([.inr (.inr (some x)), .inl p0, .inl p1, .inr (.inr (some u))].map (mmCv ad)).toArray) (D := D) (b := b) (X1 := X1) (X2 := X2) (Q := (fun r ν => Q r (ν.1, ν.2.1, ν.2.2.1, 1, 8))) (rt := some .int) B.exec B.bytes B.returns B.notSynchronized hX
  have t8 : ∀ v : Int, Q (some (.inl 0)) (mmU I0 u.1 u.2 0 v, R0, cn, 1, 8) → mmPt p l e (mmRm 8 1 8) s m ([.inr (.inr (some x)), .inl p0, .inl p1, .inr (.inr (some u))].map (mmCv ad)).toArray below meth c (MQ below (mmQc s00 D b X1 X2 ids ad ca (I0, R0, cn, 1, 8) s.heap.size (fun r ν => Q r (ν.1, ν.2.1, ν.2.2.1, 1, 8))) ([.inr (.inr (some x)), .inl p0, .inl p1, .inr (.inr (some u))].map (mmCv ad)).toArray s 1 8 (va_A (mmW ids ad ca (I0, R0, cn, 1, 8)) s.heap.size)) 5 D (va_A (mmW ids ad ca (I0, R0, cn, 1, 8)) s.heap.size) b X1 X2 ids ad 8 [some (.inr (.inr (some x))), some (.inl p0), some (.inl p1), some (.inr (.inr (some u))), none] [.inl v, .inl 0, .inr (.inr (some u))] (I0, R0, cn, 0, 0) := by
    intro v hv
    refine mo_i2l (C := fun _ _ _ _ => False) (J := fun _ _ _ _ => False) (Q := (fun r ν => Q r (ν.1, ν.2.1, ν.2.2.1, 1, 8))) (pay := []) (cst := 0) hE e256_8 (fun _ _ _ q => q) ?_
    refine mo_lastore (C := fun _ _ _ _ => False) (J := fun _ _ _ _ => False) (Q := (fun r ν => Q r (ν.1, ν.2.1, ν.2.2.1, 1, 8))) (pay := []) (cst := 0) hE e256_9 (fun _ _ _ q => q) ?_
    refine ⟨hu, Int.le_refl _, by omega, ?_⟩
    refine mo_goto (C := fun _ _ _ _ => False) (J := fun _ ls st μ => mmPt p l e (mmRm 8 1 8) s m ([.inr (.inr (some x)), .inl p0, .inl p1, .inr (.inr (some u))].map (mmCv ad)).toArray below meth c (MQ below (mmQc s00 D b X1 X2 ids ad ca (I0, R0, cn, 1, 8) s.heap.size (fun r ν => Q r (ν.1, ν.2.1, ν.2.2.1, 1, 8))) ([.inr (.inr (some x)), .inl p0, .inl p1, .inr (.inr (some u))].map (mmCv ad)).toArray s 1 8 (va_A (mmW ids ad ca (I0, R0, cn, 1, 8)) s.heap.size)) 5 D (va_A (mmW ids ad ca (I0, R0, cn, 1, 8)) s.heap.size) b X1 X2 ids ad 21 ls st μ) (Q := (fun r ν => Q r (ν.1, ν.2.1, ν.2.2.1, 1, 8))) (κ := fun _ _ _ => False) (pay := [0]) (cst := 0) hE e256_10 (tgt := 21) rfl (fun _ _ _ q => q) ?_
    refine mo_iconst (C := fun _ _ _ _ => False) (J := fun _ _ _ _ => False) (Q := (fun r ν => Q r (ν.1, ν.2.1, ν.2.2.1, 1, 8))) (pay := []) (cst := 0) hE e256_21 (by unfold mmR32; decide) (fun _ _ _ q => q) ?_
    refine mo_ireturn (C := fun _ _ _ _ => False) (J := fun _ _ _ _ => False) (κ := fun _ _ _ => False) (pay := [0]) (cst := 0) hRt e256_22 (Or.inl rfl) ?_
    exact ⟨fun q => (by cases q), hv⟩
  have t15 : Q (some (.inl 1)) (I0, R0, cn, 1, 8) → mmPt p l e (mmRm 8 1 8) s m ([.inr (.inr (some x)), .inl p0, .inl p1, .inr (.inr (some u))].map (mmCv ad)).toArray below meth c (MQ below (mmQc s00 D b X1 X2 ids ad ca (I0, R0, cn, 1, 8) s.heap.size (fun r ν => Q r (ν.1, ν.2.1, ν.2.2.1, 1, 8))) ([.inr (.inr (some x)), .inl p0, .inl p1, .inr (.inr (some u))].map (mmCv ad)).toArray s 1 8 (va_A (mmW ids ad ca (I0, R0, cn, 1, 8)) s.heap.size)) 5 D (va_A (mmW ids ad ca (I0, R0, cn, 1, 8)) s.heap.size) b X1 X2 ids ad 15 [none, none, none, none, none] [] (I0, R0, cn, 0, 0) := by
    intro hv
    refine mo_iconst (C := fun _ _ _ _ => False) (J := fun _ _ _ _ => False) (Q := (fun r ν => Q r (ν.1, ν.2.1, ν.2.2.1, 1, 8))) (pay := []) (cst := 0) hE e256_15 (by unfold mmR32; decide) (fun _ _ _ q => q) ?_
    refine mo_ireturn (C := fun _ _ _ _ => False) (J := fun _ _ _ _ => False) (κ := fun _ _ _ => False) (pay := [0]) (cst := 0) hRt e256_16 (Or.inl rfl) ?_
    exact ⟨fun q => (by cases q), hv⟩
  have t19 : Q (some (.inl 2)) (I0, R0, cn, 1, 8) → mmPt p l e (mmRm 8 1 8) s m ([.inr (.inr (some x)), .inl p0, .inl p1, .inr (.inr (some u))].map (mmCv ad)).toArray below meth c (MQ below (mmQc s00 D b X1 X2 ids ad ca (I0, R0, cn, 1, 8) s.heap.size (fun r ν => Q r (ν.1, ν.2.1, ν.2.2.1, 1, 8))) ([.inr (.inr (some x)), .inl p0, .inl p1, .inr (.inr (some u))].map (mmCv ad)).toArray s 1 8 (va_A (mmW ids ad ca (I0, R0, cn, 1, 8)) s.heap.size)) 5 D (va_A (mmW ids ad ca (I0, R0, cn, 1, 8)) s.heap.size) b X1 X2 ids ad 19 [none, none, none, none, none] [] (I0, R0, cn, 0, 0) := by
    intro hv
    refine mo_iconst (C := fun _ _ _ _ => False) (J := fun _ _ _ _ => False) (Q := (fun r ν => Q r (ν.1, ν.2.1, ν.2.2.1, 1, 8))) (pay := []) (cst := 0) hE e256_19 (by unfold mmR32; decide) (fun _ _ _ q => q) ?_
    refine mo_ireturn (C := fun _ _ _ _ => False) (J := fun _ _ _ _ => False) (κ := fun _ _ _ => False) (pay := [0]) (cst := 0) hRt e256_20 (Or.inl rfl) ?_
    exact ⟨fun q => (by cases q), hv⟩
  have t5 : mmPt p l e (mmRm 8 1 8) s m ([.inr (.inr (some x)), .inl p0, .inl p1, .inr (.inr (some u))].map (mmCv ad)).toArray below meth c (MQ below (mmQc s00 D b X1 X2 ids ad ca (I0, R0, cn, 1, 8) s.heap.size (fun r ν => Q r (ν.1, ν.2.1, ν.2.2.1, 1, 8))) ([.inr (.inr (some x)), .inl p0, .inl p1, .inr (.inr (some u))].map (mmCv ad)).toArray s 1 8 (va_A (mmW ids ad ca (I0, R0, cn, 1, 8)) s.heap.size)) 5 D (va_A (mmW ids ad ca (I0, R0, cn, 1, 8)) s.heap.size) b X1 X2 ids ad 5 [some (.inr (.inr (some x))), some (.inl p0), some (.inl p1), some (.inr (.inr (some u))), none] [.inl p1, .inl p0, .inr (.inr (some x)), .inl 0, .inr (.inr (some u))] (I0, R0, cn, 1, 8) := by
    intro ids' ad' ca' tys' H locs cells slots la I ho hl Lr rc rs
    have rc' : cells + 1 ≤ 1 := rc
    have rs' : slots + 8 ≤ 8 := rs
    have hox : ∀ v ∈ [(.inr (.inr (some x)) : mmV), .inl p0, .inl p1], mmOv ids' v := fun v hv => ho v (by simp at hv ⊢; rcases hv with e | e | e <;> simp [e])
    have hor : ∀ v ∈ [(.inl 0 : mmV), .inr (.inr (some u))], mmOv ids' v := fun v hv => ho v (by simp at hv ⊢; rcases hv with e | e <;> simp [e])
    have hin : x ∈ ids' := mmOv_in (hox (.inr (.inr (some x))) (by simp)) (mm_koS hx)
    obtain ⟨hP, hD, hS, hK, hO9, -⟩ := id I
    obtain ⟨q0, hq, hw⟩ := mmW_get (ad := ad') (ca := ca') (μ := (I0, R0, cn, 1, 8)) hin
    rw [mmE_obj hx] at hw
    refine mx_call (EC := lkEC (I0 ru.1 ru.2 2) p0 p1) (κ := fun ls st μ => mmPt p l e (mmRm 8 1 8) s m ([.inr (.inr (some x)), .inl p0, .inl p1, .inr (.inr (some u))].map (mmCv ad)).toArray below meth c (MQ below (mmQc s00 D b X1 X2 ids ad ca (I0, R0, cn, 1, 8) s.heap.size (fun r ν => Q r (ν.1, ν.2.1, ν.2.2.1, 1, 8))) ([.inr (.inr (some x)), .inl p0, .inl p1, .inr (.inr (some u))].map (mmCv ad)).toArray s 1 8 (va_A (mmW ids ad ca (I0, R0, cn, 1, 8)) s.heap.size)) 5 D (va_A (mmW ids ad ca (I0, R0, cn, 1, 8)) s.heap.size) b X1 X2 ids ad 8 ls st μ) (mc := 1) (ms := 8) (r := [.inl 0, .inr (.inr (some u))]) hX I hor hl Lr rc rs (Nat.le_refl _) (Nat.le_refl _) (fun _ _ _ q => q) (fun q h => h) (vx_runV (As := [.int (Int32.ofInt p0), .int (Int32.ofInt p1)]) (b := ad' x) (C := "PostStones") (n := 2) ⟨hE.1, hE.2.1, hE.2.2.1, hE.2.2.2.1, hE.2.2.2.2⟩
      (lk_104 (sa1 := sa1) (sa2 := sa2) (tys := tys') htr hS0 hx h1 h2 h3 h4 h5 h6 h7 h8 h9 h10 h11 h12 (fun q => Or.inl ⟨rfl, q⟩) (fun q1 q2 q3 => Or.inr ⟨rfl, q1, q2, q3⟩) (fun q1 q2 q3 => t8 _ ((hO q1 q2).1 q3)) (fun q1 q2 q3 => t8 _ ((hO q1 q2).2.1 q3)) (fun q1 q2 q3 => t8 _ ((hO q1 q2).2.2.1 q3)))
      ⟨callB_of 2 hE.2.2.2.2 (mm_goodWs lk_k7) rfl rfl rfl (hE.2.2.2.2 _ lk_ip) (hE.2.2.2.2 _ lk_m7) (by decide +kernel) ⟨by show 6 + 1 ≤ 8; decide, by show 8 + (3 + 11) + 64 * 6 ≤ 64 * 8; decide⟩, hE.2.2.2.2 _ lk_n7, hE.2.2.2.2 _ lk_s7⟩
      ⟨lkPc_blind, va_recv (ci := 10) (q := (RX10, TX10, 12)) hK hP rfl hw, fun U hU hW => ⟨rfl, by rw [hU], by rw [hU]; exact I.rel hX hW, hox, vk_R.warm hW hs1, vk_R.warm hW hs2⟩⟩ rfl rfl Lr.2.1 rfl (lv_room (by simp [mmCv, Value.category])) e256_5 ⟨by show cells + 1 ≤ 1; omega, by show slots + 8 ≤ 8; omega⟩) ?_
    intro E ce q9 H1 locs1 ids2 ad2 ca2 tys2 hec I2 hce hcv hcl
    have hlast : ∀ (pc : Nat), mmPt p l e (mmRm 8 1 8) s m ([.inr (.inr (some x)), .inl p0, .inl p1, .inr (.inr (some u))].map (mmCv ad)).toArray below meth c (MQ below (mmQc s00 D b X1 X2 ids ad ca (I0, R0, cn, 1, 8) s.heap.size (fun r ν => Q r (ν.1, ν.2.1, ν.2.2.1, 1, 8))) ([.inr (.inr (some x)), .inl p0, .inl p1, .inr (.inr (some u))].map (mmCv ad)).toArray s 1 8 (va_A (mmW ids ad ca (I0, R0, cn, 1, 8)) s.heap.size)) 5 D (va_A (mmW ids ad ca (I0, R0, cn, 1, 8)) s.heap.size) b X1 X2 ids ad (pc + 2) [none, none, none, none, none] [] (I0, R0, cn, 0, 0) → decode cL_look pc = .ok (.astore 4, 2) → W p l e (mmRm 8 1 8) s m ([.inr (.inr (some x)), .inl p0, .inl p1, .inr (.inr (some u))].map (mmCv ad)).toArray below meth c H1 locs1 (cells + 1) (slots + 8) (MQ below (mmQc s00 D b X1 X2 ids ad ca (I0, R0, cn, 1, 8) s.heap.size (fun r ν => Q r (ν.1, ν.2.1, ν.2.2.1, 1, 8))) ([.inr (.inr (some x)), .inl p0, .inl p1, .inr (.inr (some u))].map (mmCv ad)).toArray s 1 8 (va_A (mmW ids ad ca (I0, R0, cn, 1, 8)) s.heap.size)) (F0 m pc la [.ref q9]) := by
      intro pc hp hd
      refine lv_astore hE.1 hE.2.1 hd Lr.2 (by decide) rfl (fun la' h2 => ?_)
      exact hp ids2 ad2 ca2 tys2 H1 locs1 (cells + 1) (slots + 8) la' I2 (fun v hv => by cases hv) (fun v hv => by simp at hv) ⟨rfl, h2.1, h2.2.1, fun q hq => by cases hq⟩ (by show cells + 1 + 0 ≤ 1; omega) (by show slots + 8 + 0 ≤ 8; omega)
    rcases hec with ⟨rfl, hc⟩ | ⟨rfl, c0, c1, c2⟩
    · refine vx_catch (own := "PostStonesLaw") (name := "java/lang/IndexOutOfBoundsException") hE.2.2.2.1 [] ⟨0, 10, 13, 13⟩ [⟨0, 10, 17, 15⟩] htb (fun z hz => by cases hz) (by decide) (by decide) (hE.2.2.2.2 _ lk_l1) (lk_mv (by decide) hS0.1 hX.2.2.2.2.1) hce hcv hcl ?_
      exact hlast 13 (t15 (hI hc)) e256_13
    · refine vx_catch (own := "PostStonesLaw") (name := "java/util/NoSuchElementException") hE.2.2.2.1 [⟨0, 10, 13, 13⟩] ⟨0, 10, 17, 15⟩ [] htb (fun z hz => ?_) (by decide) (by decide) (hE.2.2.2.2 _ lk_l2) (lk_mv (by decide) hS0.1 hX.2.2.2.2.1) hce hcv hcl ?_
      · rw [List.mem_singleton.mp hz]
        exact Or.inr ⟨by decide, "java/lang/IndexOutOfBoundsException", hE.2.2.2.2 _ lk_l1, va_Nc.moved hX.2.2.2.2.1 hS0.2.2.2⟩
      · exact hlast 17 (t19 ((hO c0 c1).2.2.2 c2)) e256_17
  have t0 : mmPt p l e (mmRm 8 1 8) s m ([.inr (.inr (some x)), .inl p0, .inl p1, .inr (.inr (some u))].map (mmCv ad)).toArray below meth c (MQ below (mmQc s00 D b X1 X2 ids ad ca (I0, R0, cn, 1, 8) s.heap.size (fun r ν => Q r (ν.1, ν.2.1, ν.2.2.1, 1, 8))) ([.inr (.inr (some x)), .inl p0, .inl p1, .inr (.inr (some u))].map (mmCv ad)).toArray s 1 8 (va_A (mmW ids ad ca (I0, R0, cn, 1, 8)) s.heap.size)) 5 D (va_A (mmW ids ad ca (I0, R0, cn, 1, 8)) s.heap.size) b X1 X2 ids ad 0 [some (.inr (.inr (some x))), some (.inl p0), some (.inl p1), some (.inr (.inr (some u))), none] [] (I0, R0, cn, 1, 8) := by
    refine mo_aload_n (C := fun _ _ _ _ => False) (J := fun _ _ _ _ => False) (Q := (fun r ν => Q r (ν.1, ν.2.1, ν.2.2.1, 1, 8))) (pay := []) (cst := 0) hE e256_0 (fun _ _ _ q => q) ?_
    refine mo_iconst (C := fun _ _ _ _ => False) (J := fun _ _ _ _ => False) (Q := (fun r ν => Q r (ν.1, ν.2.1, ν.2.2.1, 1, 8))) (pay := []) (cst := 0) hE e256_1 (by unfold mmR32; decide) (fun _ _ _ q => q) ?_
    refine mo_aload_n (C := fun _ _ _ _ => False) (J := fun _ _ _ _ => False) (Q := (fun r ν => Q r (ν.1, ν.2.1, ν.2.2.1, 1, 8))) (pay := []) (cst := 0) hE e256_2 (fun _ _ _ q => q) ?_
    refine mo_iload_n (C := fun _ _ _ _ => False) (J := fun _ _ _ _ => False) (Q := (fun r ν => Q r (ν.1, ν.2.1, ν.2.2.1, 1, 8))) (pay := []) (cst := 0) hE e256_3 (fun _ _ _ q => q) ?_
    refine mo_iload_n (C := fun _ _ _ _ => False) (J := fun _ _ _ _ => False) (Q := (fun r ν => Q r (ν.1, ν.2.1, ν.2.2.1, 1, 8))) (pay := []) (cst := 0) hE e256_4 (fun _ _ _ q => q) ?_
    exact t5
  have hl := lv_entry ([.inr (.inr (some x)), .inl p0, .inl p1, .inr (.inr (some u))].map (mmCv ad)) (n := 5) (by rw [mmWd_lg]; exact Nat.le_of_ble_eq_true rfl)
  rw [lg_entry_eq]
  generalize (lg_sl ([.inr (.inr (some x)), .inl p0, .inl p1, .inr (.inr (some u))].map (mmCv ad)) ++ List.replicate (5 - (lg_sl ([.inr (.inr (some x)), .inl p0, .inl p1, .inr (.inr (some u))].map (mmCv ad))).length) Slot.unset).toArray = la at hl ⊢
  have I : mmInv D (va_A (mmW ids ad ca (I0, R0, cn, 1, 8)) s.heap.size) b X1 X2 ids ad s ids ad ca tys (I0, R0, cn, 1, 8) s.heap [] := ⟨r1, r3.self, va_S.rf, r2, r4, r5, fun o ho => ⟨ho, rfl⟩, r6, r7⟩
  exact t0 ids ad ca tys s.heap [] 0 0 la I (fun v hv => by cases hv) (fun v hv => hargs v (mmLs_mem (n := 5) (a := [.inr (.inr (some x)), .inl p0, .inl p1, .inr (.inr (some u))]) hv)) ⟨rfl, (mmLs_lv (ad := ad) (a := [.inr (.inr (some x)), .inl p0, .inl p1, .inr (.inr (some u))]) (n := 5) (i := 0)) ▸ hl⟩ (Nat.le_refl _) (Nat.le_refl _)
/-- the law's call of it -/
theorem lk_law {p : Program} {e : Env} {R : Room} {s : State} {m : MethodId} {args : Array Value} {below : List Frame} {meth : Method} {c : Code} {QW : State → Prop} {cc : ByteArray} {nL : Nat} {A : Nat → Prop} {ids0 : List mmO} {ad0 : mmO → Nat} {Q : Option mmV → mmM → Prop} {d sa1 sa2 : Nat}
    (hE : mmEn p s m args c cc "PostStonesLaw" nL) (hX : mmCtx s00 s A) (htr : l.stackTraces = false) (hS0 : lkS s00) (hR : 9 ≤ R.frames ∧ 576 ≤ R.locals) (hs1 : vk_R "PostStones" 109 "no such kind" sa1 s) (hs2 : vk_R "PostStones" 126 "no such what" sa2 s) (J : Nat → List (Option mmV) → List mmV → mmM → Prop) (pl : Nat) (cst : Int) (κ : List (Option mmV) → List mmV → mmM → Prop) (ls : List (Option mmV)) (st : List mmV) (μ : mmM) (pc : Nat) (hd : decode cc pc = .ok (.invokestatic 39, 3)) (hk : ∀ ls st μ, κ ls st μ → mmPt p l e R s m args below meth c QW nL D A b X1 X2 ids0 ad0 (pc + 3) ls st μ) (h : mmStep (mmC (d + 1)) J Q (.invokestatic 39, [20, 256, 4, 1, 8, pl], cst) κ ls st μ) : mmPt p l e R s m args below meth c QW nL D A b X1 X2 ids0 ad0 pc ls st μ := by
  obtain ⟨p0, r, rfl, hn, h⟩ := mmTk_inv h
  simp only [List.append_nil] at h
  obtain ⟨hr4, hmc, hms, hc⟩ := h
  have hc' : lk256 p0.reverse (μ.1, μ.2.1, μ.2.2.1, 1, 8) (fun v w => κ ls (mmPush v r) (w.1, w.2.1, w.2.2.1, μ.2.2.2.1 - 1, μ.2.2.2.2 - 8)) := by
    have h9 := hc
    unfold mmC mmCall at h9
    rw [lk256_eq] at h9
    exact h9
  intro ids ad ca tys H locs cells slots la I ho hl L rc rs
  have hor : ∀ v ∈ r, mmOv ids v := fun v hv => ho v (List.mem_append_right _ hv)
  have hoa : ∀ v ∈ p0.reverse, mmOv ids v := fun v hv => ho v (List.mem_append_left _ (List.mem_reverse.mp hv))
  have hcat := mm_cat (ad := ad) r
  have hM := lk_256 (l := l) (D := D) (b := b) (X1 := X1) (X2 := X2) (s00 := s00) (sa1 := sa1) (sa2 := sa2) (ids := ids) (ad := ad) (ca := ca) (tys := tys) (sz := H.size) htr hS0 hc'
  refine mm_call hX I hor hl L rc rs hmc hms hk (fun q h => h) (vx_runSW (As := p0.reverse.map (mmCv ad)) (hh := [(0, 10, 13, 13), (0, 10, 17, 15)]) (bytes := cL_look) (maxL := 5) (ret := some .int) ⟨hE.1, hE.2.1, hE.2.2.1, hE.2.2.2.1, hE.2.2.2.2⟩ hM (vx_cwSW 4 hE.2.2.2.2 (fun w hw => ?_) rfl rfl rfl (by decide +kernel) ⟨hR.1, by have := hR.2; show 8 + (5 + 11) + 64 * 8 ≤ _; omega⟩) ⟨lkPc_blind, fun U hU hW => ⟨by simp [mmCv], by rw [hU], by rw [hU]; exact I.rel hX hW, hoa, vk_R.warm hW hs1, vk_R.warm hW hs2⟩⟩ rfl (by simpa using hn) L.2.1 (by show (p0 ++ r).map (mmCv ad) = (p0.reverse.map (mmCv ad)).reverse ++ r.map (mmCv ad); simp) (lv_room (by omega)) hd ⟨by show cells + 1 ≤ _; omega, by show slots + 8 ≤ _; omega⟩)
  have key : ∀ w ∈ mmTs, w ∈ mmTs ∧ ((w.onTables && w.keeps) = true ∨ ∃ ty, w = .arrayClass ty) := fun w hw => ⟨hw, good_of_word (List.mem_filter.mp hw).2⟩
  unfold va_wsS at hw
  rcases List.mem_append.mp hw with hw | hw
  · rcases List.mem_cons.mp hw with e1 | hw
    · rw [e1]; exact key _ lk_m39
    · rcases List.mem_cons.mp hw with e1 | hw
      · rw [e1]; exact key _ lk_s39
      · rw [List.mem_singleton.mp hw]; exact key _ lk_il
  · rcases List.mem_cons.mp hw with e1 | hw
    · rw [e1]; exact key _ lk_k39
    · exact key _ hw
end S8949
