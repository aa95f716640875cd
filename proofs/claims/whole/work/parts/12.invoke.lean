theorem mmPc_blind {s00 : State} {D : va_G} {b : Nat} {X1 X2 : Int → Int} {ids : List mmO} {ad : mmO → Nat} {ca : mmO → ClassId} {tys : List (ClassId × FieldType)} {μ : mmM} {sz : Nat} {a : List mmV} : FrameBlind (mmPc s00 D b X1 X2 ids ad ca tys μ sz a) := by
  intro a U g mk q
  obtain ⟨q0, q1, ⟨r1, r2, r3, r4, r5, r6, r7, r8, r9, r10⟩, q3⟩ := q
  exact ⟨q0, q1, ⟨r1, va_K.moved (u := U) (U := U.calling g mk a) (Vm.Alike.refl U.vm) r2, r3, r4, r5, r6, r7, r8, r9, r10.same rfl⟩, q3⟩
theorem mm_goodWs {yN : MethodName} {bytes : ByteArray} {maxL : Nat} {ret : Option FieldType} (h : Cond.code yN bytes maxL ret ∈ mmTs) : GoodIn mmTs (Cond.code yN bytes maxL ret :: mmTs) := by
  have key : ∀ w ∈ mmTs, w ∈ mmTs ∧ ((w.onTables && w.keeps) = true ∨ ∃ ty, w = .arrayClass ty) := fun w hw => ⟨hw, good_of_word (List.mem_filter.mp hw).2⟩
  exact List.forall_mem_cons.mpr ⟨key _ h, key⟩
/-- a callee's contract, at a depth -/
def mmMt (l : Launch) (s00 : State) (d : Nat) (C : Nat → List mmV → mmM → (Option mmV → mmM → Prop) → Prop) (y : Nat) (yN : MethodName) (bytes : ByteArray) (maxL : Nat) (ret : Option FieldType) : Prop :=
  ∀ (a : List mmV) (μ : mmM) (Q : Option mmV → mmM → Prop), C y a μ Q → ∀ (D : va_G) (b : Nat) (X1 X2 : Int → Int) (ids : List mmO) (ad : mmO → Nat) (ca : mmO → ClassId) (tys : List (ClassId × FieldType)) (sz : Nat),
    Met l yN (Cond.code yN bytes maxL ret :: mmTs) (mmRm d μ.2.2.2.1 μ.2.2.2.2) (mmPc s00 D b X1 X2 ids ad ca tys μ sz a) (mmQc s00 D b X1 X2 ids ad ca μ sz Q) μ.2.2.2.1 μ.2.2.2.2 (va_A (mmW ids ad ca μ) sz)
/-- the words and numbers of a callee -/
def mmMw (yN : MethodName) (bytes : ByteArray) (maxL : Nat) (ret : Option FieldType) (n : Nat) : Prop :=
  Cond.code yN bytes maxL ret ∈ mmTs ∧ Cond.initialized yN.cls ∈ mmTs ∧ maxL ≤ 40 ∧ (yN.cls ≠ "java/lang/invoke/MethodHandle" ∧ yN.cls ≠ "java/lang/invoke/VarHandle" ∧ (parseMethodDescriptor yN.desc).map (fun d => d.parameters.length) = some n)
theorem mmRcv_inv {cls : Nat} {a : List mmV} (h : mmRcv cls a) : ∃ o As, a = .inr (.inr (some o)) :: As ∧ mmKo o.1 = some cls := by
  unfold mmRcv at h
  split at h
  · exact ⟨_, _, rfl, h⟩
  · exact h.elim
section MMD
variable {p : Program} {l : Launch} {e : Env} {R : Room} {s : State} {m : MethodId} {args : Array Value} {below : List Frame} {meth : Method} {c : Code} {QW : State → Prop}
variable {cc : ByteArray} {own : String} {nL : Nat} {D : va_G} {A : Nat → Prop} {b : Nat} {X1 X2 : Int → Int} {ids0 : List mmO} {ad0 : mmO → Nat}
variable {C : Nat → List mmV → mmM → (Option mmV → mmM → Prop) → Prop} {J : Nat → List (Option mmV) → List mmV → mmM → Prop} {Q : Option mmV → mmM → Prop} {κ : List (Option mmV) → List mmV → mmM → Prop}
variable {pc : Nat} {ls : List (Option mmV)} {st : List mmV} {μ : mmM} {pay : List Nat} {cst : Int} {s00 : State} {d : Nat}
theorem mo_invV {idx kd y n mc ms pl cls : Nat} {yN : MethodName} {bytes : ByteArray} {maxL : Nat} {ret : Option FieldType} {cl : vw_C} (hE : mmEn p s m args c cc own nL) (hX : mmCtx s00 s A) (hR : d + 1 ≤ R.frames ∧ 64 * (d + 1) ≤ R.locals) (hd : decode cc pc = .ok (.invokevirtual idx, 3)) (hMt : mmMt l s00 d C y yN bytes maxL ret) (hY : mmMw yN bytes maxL ret n) (hcl : mmCl[cls]? = some cl) (hw2 : Cond.methodLink own idx yN ∈ mmTs) (hw3 : Cond.instanceMethod yN ∈ mmTs) (hw4 : Cond.selects cl.1 yN yN ∈ mmTs) (hk : ∀ ls st μ, κ ls st μ → mmPt p l e R s m args below meth c QW nL D A b X1 X2 ids0 ad0 (pc + 3) ls st μ) (h : mmStep C J Q (.invokevirtual idx, [kd, y, n + 1, mc, ms, pl, cls], cst) κ ls st μ) : mmPt p l e R s m args below meth c QW nL D A b X1 X2 ids0 ad0 pc ls st μ := by
  obtain ⟨p0, r, rfl, hn, h⟩ := mmTk_inv h
  simp only [List.append_nil] at h
  obtain ⟨hr4, hrcv, hmc, hms, hc⟩ := h
  obtain ⟨o, As, e0, hko⟩ := mmRcv_inv hrcv
  have e1 : p0 = As.reverse ++ [.inr (.inr (some o))] := by rw [← List.reverse_reverse p0, e0]; simp
  subst e1
  intro ids ad ca tys H locs cells slots la I ho hl L rc rs
  have hor : ∀ v ∈ r, mmOv ids v := fun v hv => ho v (List.mem_append_right _ hv)
  have hoa : ∀ v ∈ (As.reverse ++ [(Sum.inr (Sum.inr (some o)) : mmV)]).reverse, mmOv ids v := fun v hv => ho v (List.mem_append_left _ (List.mem_reverse.mp hv))
  have hin : o ∈ ids := mmOv_in (hoa (.inr (.inr (some o))) (by simp)) (mm_koS hko)
  obtain ⟨hP, hD, hS, hK, hO, -⟩ := id I
  obtain ⟨q0, hq, hw⟩ := mmW_get (ad := ad) (ca := ca) (μ := μ) hin
  rw [mmE_obj hko] at hw
  have hcat := mm_cat (ad := ad) r
  have hRR : (mmRm d mc ms).frames + 1 ≤ R.frames ∧ 8 + (maxL + 11) + (mmRm d mc ms).locals ≤ R.locals := ⟨hR.1, by have h1 := hY.2.2.1; have h2 := hR.2; show 8 + (maxL + 11) + 64 * d ≤ _; omega⟩
  have hM := hMt _ _ _ hc D b X1 X2 ids ad ca tys H.size
  exact mm_call hX I hor hl L rc rs hmc hms hk (fun q h => h) (va_runV (As := As.map (mmCv ad)) (b := ad o) (C := cl.1) ⟨hE.1, hE.2.1, hE.2.2.1, hE.2.2.2.1, hE.2.2.2.2⟩ hM ⟨callB_of n hE.2.2.2.2 (mm_goodWs hY.1) rfl rfl rfl (hE.2.2.2.2 _ hY.2.1) (hE.2.2.2.2 _ hw2) hY.2.2.2 hRR, hE.2.2.2.2 _ hw3, hE.2.2.2.2 _ hw4⟩ ⟨mmPc_blind, va_recv hK hP hcl hw, fun U hU hW => ⟨by simp [mmCv], by rw [hU], by rw [hU]; exact I.rel hX hW, hoa⟩⟩ rfl (by simpa using hn) L.2.1 (by show ((As.reverse ++ [(Sum.inr (Sum.inr (some o)) : mmV)]) ++ r).map (mmCv ad) = (As.map (mmCv ad)).reverse ++ Value.ref (ad o) :: r.map (mmCv ad); simp [mmCv]) (lv_room (by omega)) hd ⟨by show cells + mc ≤ _; omega, by show slots + ms ≤ _; omega⟩)
theorem mo_invVN {idx kd y n mc ms pl cls : Nat} {yN : MethodName} {bytes : ByteArray} {maxL : Nat} {ret : Option FieldType} {cl : vw_C} {host : String} (hE : mmEn p s m args c cc own nL) (hX : mmCtx s00 s A) (hR : d + 1 ≤ R.frames ∧ 64 * (d + 1) ≤ R.locals) (hd : decode cc pc = .ok (.invokevirtual idx, 3)) (hMt : mmMt l s00 d C y yN bytes maxL ret) (hY : mmMw yN bytes maxL ret n) (hcl : mmCl[cls]? = some cl) (hw2 : Cond.methodLinkNest own idx yN host ∈ lw_tbl) (hw3 : Cond.instanceMethod yN ∈ mmTs) (hw4 : Cond.selects cl.1 yN yN ∈ mmTs) (hk : ∀ ls st μ, κ ls st μ → mmPt p l e R s m args below meth c QW nL D A b X1 X2 ids0 ad0 (pc + 3) ls st μ) (h : mmStep C J Q (.invokevirtual idx, [kd, y, n + 1, mc, ms, pl, cls], cst) κ ls st μ) : mmPt p l e R s m args below meth c QW nL D A b X1 X2 ids0 ad0 pc ls st μ := by
  obtain ⟨p0, r, rfl, hn, h⟩ := mmTk_inv h
  simp only [List.append_nil] at h
  obtain ⟨hr4, hrcv, hmc, hms, hc⟩ := h
  obtain ⟨o, As, e0, hko⟩ := mmRcv_inv hrcv
  have e1 : p0 = As.reverse ++ [.inr (.inr (some o))] := by rw [← List.reverse_reverse p0, e0]; simp
  subst e1
  intro ids ad ca tys H locs cells slots la I ho hl L rc rs
  have hor : ∀ v ∈ r, mmOv ids v := fun v hv => ho v (List.mem_append_right _ hv)
  have hoa : ∀ v ∈ (As.reverse ++ [(Sum.inr (Sum.inr (some o)) : mmV)]).reverse, mmOv ids v := fun v hv => ho v (List.mem_append_left _ (List.mem_reverse.mp hv))
  have hin : o ∈ ids := mmOv_in (hoa (.inr (.inr (some o))) (by simp)) (mm_koS hko)
  obtain ⟨hP, hD, hS, hK, hO, -⟩ := id I
  obtain ⟨q0, hq, hw⟩ := mmW_get (ad := ad) (ca := ca) (μ := μ) hin
  rw [mmE_obj hko] at hw
  have hcat := mm_cat (ad := ad) r
  have hRR : (mmRm d mc ms).frames + 1 ≤ R.frames ∧ 8 + (maxL + 11) + (mmRm d mc ms).locals ≤ R.locals := ⟨hR.1, by have h1 := hY.2.2.1; have h2 := hR.2; show 8 + (maxL + 11) + 64 * d ≤ _; omega⟩
  have hM := hMt _ _ _ hc D b X1 X2 ids ad ca tys H.size
  exact mm_call hX I hor hl L rc rs hmc hms hk (fun q h => h) (va_runVN (As := As.map (mmCv ad)) (b := ad o) (C := cl.1) ⟨hE.1, hE.2.1, hE.2.2.1, hE.2.2.2.1, hE.2.2.2.2⟩ hM ⟨va_cnB (host := host) n hE.2.2.2.2 (mm_goodWs hY.1) rfl rfl rfl (hX.2.2.2.2.2 _ _ _ _ hw2) (hE.2.2.2.2 _ hY.2.1) hY.2.2.2 hRR, hE.2.2.2.2 _ hw3, hE.2.2.2.2 _ hw4⟩ ⟨mmPc_blind, va_recv hK hP hcl hw, fun U hU hW => ⟨by simp [mmCv], by rw [hU], by rw [hU]; exact I.rel hX hW, hoa⟩⟩ rfl (by simpa using hn) L.2.1 (by show ((As.reverse ++ [(Sum.inr (Sum.inr (some o)) : mmV)]) ++ r).map (mmCv ad) = (As.map (mmCv ad)).reverse ++ Value.ref (ad o) :: r.map (mmCv ad); simp [mmCv]) (lv_room (by omega)) hd ⟨by show cells + mc ≤ _; omega, by show slots + ms ≤ _; omega⟩)
theorem mo_invI {idx kd y n mc ms pl cls : Nat} {yN : MethodName} {bytes : ByteArray} {maxL : Nat} {ret : Option FieldType} (hE : mmEn p s m args c cc own nL) (hX : mmCtx s00 s A) (hR : d + 1 ≤ R.frames ∧ 64 * (d + 1) ≤ R.locals) (hd : decode cc pc = .ok (.invokespecial idx, 3)) (hMt : mmMt l s00 d C y yN bytes maxL none) (hY : mmMw yN bytes maxL none n) (hin0 : yN.name = "<init>") (hw2 : Cond.methodLink own idx yN ∈ mmTs) (hw3 : Cond.instanceMethod yN ∈ mmTs) (hk : ∀ ls st μ, κ ls st μ → mmPt p l e R s m args below meth c QW nL D A b X1 X2 ids0 ad0 (pc + 3) ls st μ) (h : mmStep C J Q (.invokespecial idx, [kd, y, n + 1, mc, ms, pl, cls], cst) κ ls st μ) : mmPt p l e R s m args below meth c QW nL D A b X1 X2 ids0 ad0 pc ls st μ := by
  obtain ⟨p0, r, rfl, hn, h⟩ := mmTk_inv h
  simp only [List.append_nil] at h
  obtain ⟨hr4, hrcv, hmc, hms, hc⟩ := h
  obtain ⟨o, As, e0, hko⟩ := mmRcv_inv hrcv
  have e1 : p0 = As.reverse ++ [.inr (.inr (some o))] := by rw [← List.reverse_reverse p0, e0]; simp
  subst e1
  intro ids ad ca tys H locs cells slots la I ho hl L rc rs
  have hor : ∀ v ∈ r, mmOv ids v := fun v hv => ho v (List.mem_append_right _ hv)
  have hoa : ∀ v ∈ (As.reverse ++ [(Sum.inr (Sum.inr (some o)) : mmV)]).reverse, mmOv ids v := fun v hv => ho v (List.mem_append_left _ (List.mem_reverse.mp hv))
  have hin : o ∈ ids := mmOv_in (hoa (.inr (.inr (some o))) (by simp)) (mm_koS hko)
  obtain ⟨hP, hD, hS, hK, hO, -⟩ := id I
  obtain ⟨q0, hq, hw⟩ := mmW_get (ad := ad) (ca := ca) (μ := μ) hin
  rw [mmE_obj hko] at hw
  have hcat := mm_cat (ad := ad) r
  have hRR : (mmRm d mc ms).frames + 1 ≤ R.frames ∧ 8 + (maxL + 11) + (mmRm d mc ms).locals ≤ R.locals := ⟨hR.1, by have h1 := hY.2.2.1; have h2 := hR.2; show 8 + (maxL + 11) + 64 * d ≤ _; omega⟩
  have hM := hMt _ _ _ hc D b X1 X2 ids ad ca tys H.size
  exact mm_call hX I hor hl L rc rs hmc hms hk (fun q h => h) (va_runI (As := As.map (mmCv ad)) (b := ad o) ⟨hE.1, hE.2.1, hE.2.2.1, hE.2.2.2.1, hE.2.2.2.2⟩ hM ⟨callB_of n hE.2.2.2.2 (mm_goodWs hY.1) rfl rfl rfl (hE.2.2.2.2 _ hY.2.1) (hE.2.2.2.2 _ hw2) hY.2.2.2 hRR, hin0, hE.2.2.2.2 _ hw3⟩ ⟨mmPc_blind, fun U hU hW => ⟨by simp [mmCv], by rw [hU], by rw [hU]; exact I.rel hX hW, hoa⟩⟩ rfl (by simpa using hn) L.2.1 (by show ((As.reverse ++ [(Sum.inr (Sum.inr (some o)) : mmV)]) ++ r).map (mmCv ad) = (As.map (mmCv ad)).reverse ++ Value.ref (ad o) :: r.map (mmCv ad); simp [mmCv]) (lv_room (by omega)) hd ⟨by show cells + mc ≤ _; omega, by show slots + ms ≤ _; omega⟩)
theorem mo_invIN {idx kd y n mc ms pl cls : Nat} {yN : MethodName} {bytes : ByteArray} {maxL : Nat} {ret : Option FieldType} {host : String} (hE : mmEn p s m args c cc own nL) (hX : mmCtx s00 s A) (hR : d + 1 ≤ R.frames ∧ 64 * (d + 1) ≤ R.locals) (hd : decode cc pc = .ok (.invokespecial idx, 3)) (hMt : mmMt l s00 d C y yN bytes maxL none) (hY : mmMw yN bytes maxL none n) (hin0 : yN.name = "<init>") (hw2 : Cond.methodLinkNest own idx yN host ∈ lw_tbl) (hw3 : Cond.instanceMethod yN ∈ mmTs) (hk : ∀ ls st μ, κ ls st μ → mmPt p l e R s m args below meth c QW nL D A b X1 X2 ids0 ad0 (pc + 3) ls st μ) (h : mmStep C J Q (.invokespecial idx, [kd, y, n + 1, mc, ms, pl, cls], cst) κ ls st μ) : mmPt p l e R s m args below meth c QW nL D A b X1 X2 ids0 ad0 pc ls st μ := by
  obtain ⟨p0, r, rfl, hn, h⟩ := mmTk_inv h
  simp only [List.append_nil] at h
  obtain ⟨hr4, hrcv, hmc, hms, hc⟩ := h
  obtain ⟨o, As, e0, hko⟩ := mmRcv_inv hrcv
  have e1 : p0 = As.reverse ++ [.inr (.inr (some o))] := by rw [← List.reverse_reverse p0, e0]; simp
  subst e1
  intro ids ad ca tys H locs cells slots la I ho hl L rc rs
  have hor : ∀ v ∈ r, mmOv ids v := fun v hv => ho v (List.mem_append_right _ hv)
  have hoa : ∀ v ∈ (As.reverse ++ [(Sum.inr (Sum.inr (some o)) : mmV)]).reverse, mmOv ids v := fun v hv => ho v (List.mem_append_left _ (List.mem_reverse.mp hv))
  have hin : o ∈ ids := mmOv_in (hoa (.inr (.inr (some o))) (by simp)) (mm_koS hko)
  obtain ⟨hP, hD, hS, hK, hO, -⟩ := id I
  obtain ⟨q0, hq, hw⟩ := mmW_get (ad := ad) (ca := ca) (μ := μ) hin
  rw [mmE_obj hko] at hw
  have hcat := mm_cat (ad := ad) r
  have hRR : (mmRm d mc ms).frames + 1 ≤ R.frames ∧ 8 + (maxL + 11) + (mmRm d mc ms).locals ≤ R.locals := ⟨hR.1, by have h1 := hY.2.2.1; have h2 := hR.2; show 8 + (maxL + 11) + 64 * d ≤ _; omega⟩
  have hM := hMt _ _ _ hc D b X1 X2 ids ad ca tys H.size
  exact mm_call hX I hor hl L rc rs hmc hms hk (fun q h => h) (va_runIN (As := As.map (mmCv ad)) (b := ad o) ⟨hE.1, hE.2.1, hE.2.2.1, hE.2.2.2.1, hE.2.2.2.2⟩ hM ⟨va_cnB (host := host) n hE.2.2.2.2 (mm_goodWs hY.1) rfl rfl rfl (hX.2.2.2.2.2 _ _ _ _ hw2) (hE.2.2.2.2 _ hY.2.1) hY.2.2.2 hRR, hin0, hE.2.2.2.2 _ hw3⟩ ⟨mmPc_blind, fun U hU hW => ⟨by simp [mmCv], by rw [hU], by rw [hU]; exact I.rel hX hW, hoa⟩⟩ rfl (by simpa using hn) L.2.1 (by show ((As.reverse ++ [(Sum.inr (Sum.inr (some o)) : mmV)]) ++ r).map (mmCv ad) = (As.map (mmCv ad)).reverse ++ Value.ref (ad o) :: r.map (mmCv ad); simp [mmCv]) (lv_room (by omega)) hd ⟨by show cells + mc ≤ _; omega, by show slots + ms ≤ _; omega⟩)
theorem mo_invS {idx kd y n mc ms pl : Nat} {yN : MethodName} {bytes : ByteArray} {maxL : Nat} {ret : Option FieldType} (hE : mmEn p s m args c cc own nL) (hX : mmCtx s00 s A) (hR : d + 1 ≤ R.frames ∧ 64 * (d + 1) ≤ R.locals) (hd : decode cc pc = .ok (.invokestatic idx, 3)) (hMt : mmMt l s00 d C y yN bytes maxL ret) (hY : mmMw yN bytes maxL ret n) (hw2 : Cond.methodLink own idx yN ∈ mmTs) (hw3 : Cond.static yN ∈ mmTs) (hk : ∀ ls st μ, κ ls st μ → mmPt p l e R s m args below meth c QW nL D A b X1 X2 ids0 ad0 (pc + 3) ls st μ) (h : mmStep C J Q (.invokestatic idx, [kd, y, n, mc, ms, pl], cst) κ ls st μ) : mmPt p l e R s m args below meth c QW nL D A b X1 X2 ids0 ad0 pc ls st μ := by
  obtain ⟨p0, r, rfl, hn, h⟩ := mmTk_inv h
  simp only [List.append_nil] at h
  obtain ⟨hr4, hmc, hms, hc⟩ := h
  intro ids ad ca tys H locs cells slots la I ho hl L rc rs
  have hor : ∀ v ∈ r, mmOv ids v := fun v hv => ho v (List.mem_append_right _ hv)
  have hoa : ∀ v ∈ p0.reverse, mmOv ids v := fun v hv => ho v (List.mem_append_left _ (List.mem_reverse.mp hv))
  obtain ⟨hP, hD, hS, hK, hO, -⟩ := id I
  have hcat := mm_cat (ad := ad) r
  have hRR : (mmRm d mc ms).frames + 1 ≤ R.frames ∧ 8 + (maxL + 11) + (mmRm d mc ms).locals ≤ R.locals := ⟨hR.1, by have h1 := hY.2.2.1; have h2 := hR.2; show 8 + (maxL + 11) + 64 * d ≤ _; omega⟩
  have hM := hMt _ _ _ hc D b X1 X2 ids ad ca tys H.size
  exact mm_call hX I hor hl L rc rs hmc hms hk (fun q h => h) (va_runS (As := p0.reverse.map (mmCv ad)) ⟨hE.1, hE.2.1, hE.2.2.1, hE.2.2.2.1, hE.2.2.2.2⟩ hM ⟨callB_of n hE.2.2.2.2 (mm_goodWs hY.1) rfl rfl rfl (hE.2.2.2.2 _ hY.2.1) (hE.2.2.2.2 _ hw2) hY.2.2.2 hRR, hE.2.2.2.2 _ hw3⟩ ⟨mmPc_blind, fun U hU hW => ⟨by simp [mmCv], by rw [hU], by rw [hU]; exact I.rel hX hW, hoa⟩⟩ rfl (by simpa using hn) L.2.1 (by show (p0 ++ r).map (mmCv ad) = (p0.reverse.map (mmCv ad)).reverse ++ r.map (mmCv ad); simp) (lv_room (by omega)) hd ⟨by show cells + mc ≤ _; omega, by show slots + ms ≤ _; omega⟩)
theorem mo_max {idx pl : Nat} (hE : mmEn p s m args c cc own nL) (hR : d + 1 ≤ R.frames ∧ 64 * (d + 1) ≤ R.locals) (hd : decode cc pc = .ok (.invokestatic idx, 3)) (hw1 : Cond.methodLink own idx Lib.Math.max.name ∈ mmTs) (hw2 : Cond.static Lib.Math.max.name ∈ mmTs) (hw3 : Cond.initialized "java/lang/Math" ∈ mmTs) (hw4 : Cond.code Lib.Math.max.name Lib.Math.max.code 2 (some .int) ∈ mmTs) (hk : ∀ ls st μ, κ ls st μ → mmPt p l e R s m args below meth c QW nL D A b X1 X2 ids0 ad0 (pc + 3) ls st μ) (h : mmStep C J Q (.invokestatic idx, [10, pl], cst) κ ls st μ) : mmPt p l e R s m args below meth c QW nL D A b X1 X2 ids0 ad0 pc ls st μ := by
  obtain ⟨y, st, rfl, h⟩ := mmPi_inv h
  obtain ⟨x, st, rfl, h4, h⟩ := mmPi_inv h
  intro ids ad ca tys H locs cells slots la I ho hl L rc rs
  obtain ⟨hy, ho8⟩ := List.forall_mem_cons.mp ho
  obtain ⟨hx, ho9⟩ := List.forall_mem_cons.mp ho8
  have hx : mmR32 x := hx
  have hy : mmR32 y := hy
  have hcat := mm_cat (ad := ad) st
  have hv : mmOv ids (.inl (if x < y then y else x)) := by
    show mmR32 _
    split <;> assumption
  have ev : (if Int32.ofInt x < Int32.ofInt y then Int32.ofInt y else Int32.ofInt x) = Int32.ofInt (if x < y then y else x) := by
    by_cases e1 : x < y
    · rw [if_pos e1, if_pos ((mm_lt hx hy).mpr e1)]
    · rw [if_neg e1, if_neg (fun q => e1 ((mm_lt hx hy).mp q))]
  refine va_mmax hE.1 hE.2.1 (by rw [hE.2.2.1]; exact L.2.1.symm) hE.2.2.2.1 (hE.2.2.2.2 _ hw1) (hE.2.2.2.2 _ hw2) (hE.2.2.2.2 _ hw3) (hE.2.2.2.2 _ hw4) (by omega) (by omega) (by omega) (by omega) hd ?_
  rw [ev]
  exact hk _ _ _ h ids ad ca tys H locs cells slots la I (List.forall_mem_cons.mpr ⟨hv, ho9⟩) hl L rc rs
theorem mo_min {idx pl : Nat} (hE : mmEn p s m args c cc own nL) (hR : d + 1 ≤ R.frames ∧ 64 * (d + 1) ≤ R.locals) (hd : decode cc pc = .ok (.invokestatic idx, 3)) (hw1 : Cond.methodLink own idx Lib.Math.min.name ∈ mmTs) (hw2 : Cond.static Lib.Math.min.name ∈ mmTs) (hw3 : Cond.initialized "java/lang/Math" ∈ mmTs) (hw4 : Cond.code Lib.Math.min.name Lib.Math.min.code 2 (some .int) ∈ mmTs) (hk : ∀ ls st μ, κ ls st μ → mmPt p l e R s m args below meth c QW nL D A b X1 X2 ids0 ad0 (pc + 3) ls st μ) (h : mmStep C J Q (.invokestatic idx, [11, pl], cst) κ ls st μ) : mmPt p l e R s m args below meth c QW nL D A b X1 X2 ids0 ad0 pc ls st μ := by
  obtain ⟨y, st, rfl, h⟩ := mmPi_inv h
  obtain ⟨x, st, rfl, h4, h⟩ := mmPi_inv h
  intro ids ad ca tys H locs cells slots la I ho hl L rc rs
  obtain ⟨hy, ho8⟩ := List.forall_mem_cons.mp ho
  obtain ⟨hx, ho9⟩ := List.forall_mem_cons.mp ho8
  have hx : mmR32 x := hx
  have hy : mmR32 y := hy
  have hcat := mm_cat (ad := ad) st
  have hv : mmOv ids (.inl (if y < x then y else x)) := by
    show mmR32 _
    split <;> assumption
  have ev : (if Int32.ofInt y < Int32.ofInt x then Int32.ofInt y else Int32.ofInt x) = Int32.ofInt (if y < x then y else x) := by
    by_cases e1 : y < x
    · rw [if_pos e1, if_pos ((mm_lt hy hx).mpr e1)]
    · rw [if_neg e1, if_neg (fun q => e1 ((mm_lt hy hx).mp q))]
  refine va_mmin hE.1 hE.2.1 (by rw [hE.2.2.1]; exact L.2.1.symm) hE.2.2.2.1 (hE.2.2.2.2 _ hw1) (hE.2.2.2.2 _ hw2) (hE.2.2.2.2 _ hw3) (hE.2.2.2.2 _ hw4) (by omega) (by omega) (by omega) (by omega) hd ?_
  rw [ev]
  exact hk _ _ _ h ids ad ca tys H locs cells slots la I (List.forall_mem_cons.mpr ⟨hv, ho9⟩) hl L rc rs
theorem mo_objInit {idx pl : Nat} (hE : mmEn p s m args c cc own nL) (hR : d + 1 ≤ R.frames ∧ 64 * (d + 1) ≤ R.locals) (hd : decode cc pc = .ok (.invokespecial idx, 3)) (hw1 : Cond.methodLink own idx Lib.objectInit ∈ mmTs) (hw2 : Cond.instanceMethod Lib.objectInit ∈ mmTs) (hw3 : Cond.code Lib.objectInit ⟨#[0xb1]⟩ 1 none ∈ mmTs) (hk : ∀ ls st μ, κ ls st μ → mmPt p l e R s m args below meth c QW nL D A b X1 X2 ids0 ad0 (pc + 3) ls st μ) (h : mmStep C J Q (.invokespecial idx, [13, pl], cst) κ ls st μ) : mmPt p l e R s m args below meth c QW nL D A b X1 X2 ids0 ad0 pc ls st μ := by
  obtain ⟨x, st, rfl, h4, h⟩ := mmPo_inv h
  intro ids ad ca tys H locs cells slots la I ho hl L rc rs
  obtain ⟨hx, ho9⟩ := List.forall_mem_cons.mp ho
  have hcat := mm_cat (ad := ad) st
  refine W.objInit hE.1 hE.2.1 hE.2.2.2.1 (hE.2.2.2.2 _ hw1) (hE.2.2.2.2 _ hw2) (hE.2.2.2.2 _ hw3) rfl (by rw [hE.2.2.1]; exact L.2.1) rfl hd (by omega) (by show 2 * 0 + _ + 12 ≤ _; omega) ?_
  exact hk _ _ _ h ids ad ca tys H locs cells slots la I ho9 hl L rc rs
end MMD
