theorem mm_lenL : ∀ q ∈ mmKA, 0 ≤ q.2.2 ∧ q.2.2 ≤ 20000 := by decide +kernel
theorem mm_lenR (t : Nat) : 0 ≤ mmLen t ∧ mmR32 (mmLen t) := by
  unfold mmLen
  split
  · rename_i q hq
    have := mm_lenL q (List.mem_of_find?_eq_some hq)
    unfold mmR32
    omega
  · unfold mmR32; omega
/-- the invariant behind a write of an int -/
theorem mmInv.putI {D : va_G} {A : Nat → Prop} {b : Nat} {X1 X2 : Int → Int} {ids0 : List mmO} {ad0 : mmO → Nat} {s : State} {ids : List mmO} {ad : mmO → Nat} {ca : mmO → ClassId} {tys : List (ClassId × FieldType)} {μ : mmM} {H H1 : Heap} {locs locs1 : List Loc} (I : mmInv D A b X1 X2 ids0 ad0 s ids ad ca tys μ H locs)
    {o : mmO} (ho : o ∈ ids) {k z : Int} (hz : (mmKe o.1 = 2 → mmR64 z) ∧ (¬ mmKe o.1 = 2 → mmR32 z)) {q0 : Nat} (hq : ids[q0]? = some o) {x : va_E} (hx : mmE ad ca (mmU μ.1 o.1 o.2 k z, μ.2) o = x)
    (hP : va_P D mmCl ((mmW ids ad ca μ).set q0 (ad o, x)) H1) (hD : va_D A ((mmW ids ad ca μ).set q0 (ad o, x))) (hS : va_S A s.heap H1 locs1) : mmInv D A b X1 X2 ids0 ad0 s ids ad ca tys (mmU μ.1 o.1 o.2 k z, μ.2) H1 locs1 := by
  obtain ⟨h1, h2, h3, h4, h5, h6, h7, h8, h9⟩ := I
  subst hx
  have hW := mmW_set (ca := ca) (ad := ad) (μ := μ) (ν := (mmU μ.1 o.1 o.2 k z, μ.2)) h5.1 hq (fun o' ne => mmE_congr (fun k' => mmU_ne ne k') (fun _ => rfl))
  rw [hW] at hP hD
  have hs := mm_scr h5 ho
  refine ⟨hP, hD, hS, h4, h5.putI hz, h6, h7, ?_, ?_⟩
  · rw [← h8]; funext k'
    exact mmU_ne (o := (1301, 0)) (fun q => hs.1 (by rw [← (Prod.mk.inj q).1])) k'
  · rw [← h9]; funext k'
    exact mmU_ne (o := (1302, 0)) (fun q => hs.2 (by rw [← (Prod.mk.inj q).1])) k'
theorem mmInv.putR {D : va_G} {A : Nat → Prop} {b : Nat} {X1 X2 : Int → Int} {ids0 : List mmO} {ad0 : mmO → Nat} {s : State} {ids : List mmO} {ad : mmO → Nat} {ca : mmO → ClassId} {tys : List (ClassId × FieldType)} {μ : mmM} {H H1 : Heap} {locs locs1 : List Loc} (I : mmInv D A b X1 X2 ids0 ad0 s ids ad ca tys μ H locs)
    {o : mmO} {k : Int} {r : Option mmO} (hr : mmOv ids (.inr (.inr r))) {q0 : Nat} (hq : ids[q0]? = some o) {x : va_E} (hx : mmE ad ca (μ.1, mmU μ.2.1 o.1 o.2 k r, μ.2.2) o = x)
    (hP : va_P D mmCl ((mmW ids ad ca μ).set q0 (ad o, x)) H1) (hD : va_D A ((mmW ids ad ca μ).set q0 (ad o, x))) (hS : va_S A s.heap H1 locs1) : mmInv D A b X1 X2 ids0 ad0 s ids ad ca tys (μ.1, mmU μ.2.1 o.1 o.2 k r, μ.2.2) H1 locs1 := by
  obtain ⟨h1, h2, h3, h4, h5, h6, h7, h8, h9⟩ := I
  subst hx
  have hW := mmW_set (ca := ca) (ad := ad) (μ := μ) (ν := (μ.1, mmU μ.2.1 o.1 o.2 k r, μ.2.2)) h5.1 hq (fun o' ne => mmE_congr (fun _ => rfl) (fun k' => mmU_ne ne k'))
  rw [hW] at hP hD
  exact ⟨hP, hD, hS, h4, h5.putR hr, h6, h7, h8, h9⟩
theorem mmU_eq {α : Type} {f : Nat → Nat → Int → α} {t i : Nat} {k k' : Int} {v : α} : mmU f t i k v t i k' = if k' = k then v else f t i k' := by
  unfold mmU; simp
theorem mmFv_putI {ad : mmO → Nat} {μ : mmM} {o : mmO} {f : Nat} {z : Int} {T : Nat → Nat} {n : Nat} (hT : T f ≠ 3) : ((List.range n).map fun j => mmFv ad μ o j (T j)).set f (.int (Int32.ofInt z)) = (List.range n).map fun j => mmFv ad (mmU μ.1 o.1 o.2 f z, μ.2) o j (T j) := by
  have e : Value.int (Int32.ofInt z) = mmFv ad (mmU μ.1 o.1 o.2 f z, μ.2) o f (T f) := by
    unfold mmFv; rw [if_neg hT]; simp only [mmU_eq, if_true]; rfl
  rw [e]
  refine mmFs_set (g := fun j => mmFv ad (mmU μ.1 o.1 o.2 f z, μ.2) o j (T j)) fun j ne => ?_
  unfold mmFv
  have hne : ¬ ((j : Int) = (f : Int)) := by omega
  simp only [mmU_eq, if_neg hne]
theorem mmFv_putR {ad : mmO → Nat} {μ : mmM} {o : mmO} {f : Nat} {r : Option mmO} {T : Nat → Nat} {n : Nat} (hT : T f = 3) : ((List.range n).map fun j => mmFv ad μ o j (T j)).set f (mmCv ad (.inr (.inr r))) = (List.range n).map fun j => mmFv ad (μ.1, mmU μ.2.1 o.1 o.2 f r, μ.2.2) o j (T j) := by
  have e : mmCv ad (.inr (.inr r)) = mmFv ad (μ.1, mmU μ.2.1 o.1 o.2 f r, μ.2.2) o f (T f) := by
    unfold mmFv; rw [if_pos hT]; simp only [mmU_eq, if_true]
  rw [e]
  refine mmFs_set (g := fun j => mmFv ad (μ.1, mmU μ.2.1 o.1 o.2 f r, μ.2.2) o j (T j)) fun j ne => ?_
  unfold mmFv
  have hne : ¬ ((j : Int) = (f : Int)) := by omega
  simp only [mmU_eq, if_neg hne]
theorem mm_upd {I : Nat → Nat → Int → Int} {t i : Nat} {k z : Int} (h0 : 0 ≤ k) : upd (fun j : Nat => Int32.ofInt (I t i j)) k.toNat (Int32.ofInt z) = fun j : Nat => Int32.ofInt (mmU I t i k z t i j) := by
  funext j
  unfold upd
  rw [mmU_eq]
  by_cases e : j = k.toNat
  · rw [if_pos e, if_pos (by omega)]
  · rw [if_neg e, if_neg (by omega)]
theorem mm_updL {I : Nat → Nat → Int → Int} {t i : Nat} {k z : Int} (h0 : 0 ≤ k) : vp_updL (fun j : Nat => Int64.ofInt (I t i j)) k.toNat (Int64.ofInt z) = fun j : Nat => Int64.ofInt (mmU I t i k z t i j) := by
  funext j
  unfold vp_updL
  rw [mmU_eq]
  by_cases e : j = k.toNat
  · rw [if_pos e, if_pos (by omega)]
  · rw [if_neg e, if_neg (by omega)]
theorem mmAc_i {ad : mmO → Nat} {μ : mmM} {o : mmO} (h : mmKe o.1 < 2) : mmAc ad μ o = .inl fun j => Int32.ofInt (μ.1 o.1 o.2 j) := by
  unfold mmAc; rw [if_neg (by omega), if_pos h]
theorem mmAc_l {ad : mmO → Nat} {μ : mmM} {o : mmO} (h : mmKe o.1 = 2) : mmAc ad μ o = .inr (.inl fun j => Int64.ofInt (μ.1 o.1 o.2 j)) := by
  unfold mmAc; rw [if_pos h]
theorem mmAc_r {ad : mmO → Nat} {μ : mmM} {o : mmO} (h : 2 < mmKe o.1) : mmAc ad μ o = .inr (.inr (.inr (.inr fun j => (μ.2.1 o.1 o.2 j).map ad))) := by
  unfold mmAc; rw [if_neg (by omega), if_neg (by omega)]
theorem mm_bool {z : Int} (h : z = 0 ∨ z = 1) : narrow .boolean (.int (Int32.ofInt z)) = .int (Int32.ofInt z) ∧ fits .boolean (.int (Int32.ofInt z)) = true ∧ vp_nar .boolean (Int32.ofInt z) = Int32.ofInt z ∧ mmR32 z := by
  rcases h with rfl | rfl
  · exact ⟨by decide, by decide, by decide, by unfold mmR32; omega⟩
  · exact ⟨by decide, by decide, by decide, by unfold mmR32; omega⟩
theorem mmSw_get {z : Int} {K : Nat → Prop} : ∀ {ts : List Nat} {lo : Int} {i t : Nat}, mmSw z K lo ts → ts[i]? = some t → z = lo + i → K t
  | [], _, _, _, _, h, _ => by simp at h
  | a :: ts, lo, 0, t, h, h2, h3 => by
    have : a = t := by simpa using h2
    subst this
    exact h.1 (by omega)
  | a :: ts, lo, i + 1, t, h, h2, h3 => mmSw_get (lo := lo + 1) (i := i) h.2 (by simpa using h2) (by omega)
theorem mmLk_get {z : Int} {K : Nat → Prop} {d : Nat} {pc : Nat} {dflt : Int} {pcs : List Nat} (hd : (pc : Int) + dflt = (pcs.getD d 0 : Nat)) : ∀ {ps : List (Int × Int)} {ts : List Nat}, mmLk z K d (ps.map Prod.fst) ts → (∀ (i : Nat) (q : Int × Int), ps[i]? = some q → ∀ t, ts[i]? = some t → (pc : Int) + q.2 = (pcs.getD t 0 : Nat)) →
    ∃ t, K t ∧ (pc : Int) + Op.lookupswitch.offset ps dflt z = (pcs.getD t 0 : Nat)
  | [], ts, h, _ => ⟨d, h, by rw [Op.lookupswitch.offset_nil]; exact hd⟩
  | q :: ps, [], h, _ => h.elim
  | (k, off) :: ps, t :: ts, h, hT => by
    rw [Op.lookupswitch.offset_cons]
    by_cases e : z = k
    · refine ⟨t, h.1 e, ?_⟩
      rw [if_pos (by first | exact e | exact e.symm)]
      exact hT 0 (k, off) rfl t rfl
    · obtain ⟨t', h1, h2⟩ := mmLk_get hd (h.2 e) (fun i q hq t ht => hT (i + 1) q hq t ht)
      refine ⟨t', h1, ?_⟩
      rw [if_neg (by first | exact e | exact fun w => e w.symm)]
      exact h2
section MMH
variable {p : Program} {l : Launch} {e : Env} {R : Room} {s : State} {m : MethodId} {args : Array Value} {below : List Frame} {meth : Method} {c : Code} {QW : State → Prop}
variable {cc : ByteArray} {own : String} {nL : Nat} {D : va_G} {A : Nat → Prop} {b : Nat} {X1 X2 : Int → Int} {ids0 : List mmO} {ad0 : mmO → Nat}
variable {C : Nat → List mmV → mmM → (Option mmV → mmM → Prop) → Prop} {J : Nat → List (Option mmV) → List mmV → mmM → Prop} {Q : Option mmV → mmM → Prop} {κ : List (Option mmV) → List mmV → mmM → Prop}
variable {pc : Nat} {ls : List (Option mmV)} {st : List mmV} {μ : mmM} {pay : List Nat} {cst : Int}
theorem mo_getfield {idx cx f ty pl : Nat} {cl : vw_C} (hE : mmEn p s m args c cc own nL) (hd : decode cc pc = .ok (.getfield idx, 3)) (hcl : mmCl[cx]? = some cl) (hN : mmKn cx = cl.2.2) (hf : f < mmKn cx) (hty : mmKt cx f = ty) (hwd : Cond.fieldLink own idx (cl.2.1 f).1 (cl.2.1 f).2.1 (cl.2.1 f).2.2.1 ∈ mmTs) (hk : ∀ ls st μ, κ ls st μ → mmPt p l e R s m args below meth c QW nL D A b X1 X2 ids0 ad0 (pc + 3) ls st μ) (h : mmStep C J Q (.getfield idx, [cx, f, ty, pl], cst) κ ls st μ) : mmPt p l e R s m args below meth c QW nL D A b X1 X2 ids0 ad0 pc ls st μ := by
  obtain ⟨o, st, rfl, hko, h⟩ := mmPo_inv h
  intro ids ad ca tys H locs cells slots la I ho hl L rc rs
  obtain ⟨hv, ho9⟩ := List.forall_mem_cons.mp ho
  have hin := mmOv_in hv (mm_koS hko)
  obtain ⟨hP, hD, hS, hK, hO, -⟩ := id I
  obtain ⟨q0, hq, hw⟩ := mmW_get (ad := ad) (ca := ca) (μ := μ) hin
  rw [mmE_obj hko] at hw
  have hvv : mmOv ids (if ty = 3 then .inr (.inr (μ.2.1 o.1 o.2 f)) else .inl (μ.1 o.1 o.2 f)) := by
    by_cases e3 : ty = 3
    · rw [if_pos e3]; exact hO.2.2.2.2 o hin f
    · rw [if_neg e3]; exact (hO.2.2.2.1 o hin f).2 (by rw [mm_ke9 _ (mm_koL hko).2]; omega)
  refine va_get (D := D) (ci := cx) (v := mmFv ad μ o f (mmKt cx f)) (C := cl.1) (T := cl.2.1) (N := cl.2.2) (ref := (cl.2.1 f).1) hE.1 hE.2.1 hE.2.2.2.2 (mm_hin cx cl hcl) hE.2.2.2.1 hK hP q0 hw hcl f (by rw [hN] at hf; exact hf) (hE.2.2.2.2 _ hwd) (fun _ h9 => h9) (mmFs_get hf) hd ?_
  have := hk _ _ _ h ids ad ca tys H locs cells slots la I (List.forall_mem_cons.mpr ⟨hvv, ho9⟩) hl L rc rs
  unfold mmFv
  rw [hty]
  simp only [List.map_cons] at this
  by_cases e3 : ty = 3
  · rw [if_pos e3] at this ⊢; exact this
  · rw [if_neg e3] at this ⊢; exact this
theorem mo_putfield0 {idx cx f pl : Nat} {cl : vw_C} (hE : mmEn p s m args c cc own nL) (hd : decode cc pc = .ok (.putfield idx, 3)) (hcl : mmCl[cx]? = some cl) (hN : mmKn cx = cl.2.2) (hf : f < mmKn cx) (hty : mmKt cx f = 0) (hft : mmTy cx f = .int) (hwd : Cond.fieldLink own idx (cl.2.1 f).1 (cl.2.1 f).2.1 (cl.2.1 f).2.2.1 ∈ mmTs) (hfin : (cl.2.1 f).2.2.2 = false ∨ ((cl.2.1 f).2.2.2 = true ∧ meth.name = "<init>" ∧ (cl.2.1 f).1 = own)) (hk : ∀ ls st μ, κ ls st μ → mmPt p l e R s m args below meth c QW nL D A b X1 X2 ids0 ad0 (pc + 3) ls st μ) (h : mmStep C J Q (.putfield idx, [cx, f, 0, pl], cst) κ ls st μ) : mmPt p l e R s m args below meth c QW nL D A b X1 X2 ids0 ad0 pc ls st μ := by
  obtain ⟨z, st, rfl, h⟩ := mmPi_inv h
  obtain ⟨o, st, rfl, hko, h⟩ := mmPo_inv h
  intro ids ad ca tys H locs cells slots la I ho hl L rc rs
  obtain ⟨hz, ho8⟩ := List.forall_mem_cons.mp ho
  obtain ⟨hv, ho9⟩ := List.forall_mem_cons.mp ho8
  have hin := mmOv_in hv (mm_koS hko)
  obtain ⟨hP, hD, hS, hK, hO, -⟩ := id I
  obtain ⟨q0, hq, hw⟩ := mmW_get (ad := ad) (ca := ca) (μ := μ) hin
  rw [mmE_obj hko] at hw
  rcases hfin with hfin | ⟨hfin, hi1, hi2⟩
  · refine va_put (D := D) (ci := cx) (v := .int (Int32.ofInt z)) (ty := mmTy cx f) (C := cl.1) (T := cl.2.1) (N := cl.2.2) (ref := (cl.2.1 f).1) hE.1 hE.2.1 hE.2.2.2.2 (mm_hin cx cl hcl) (mmTy cx) (mm_ty cx cl hcl) (mm_nm cx cl hcl) hE.2.2.2.1 hK hP hD hS q0 hw hcl f (by rw [hN] at hf; exact hf) (hE.2.2.2.2 _ hwd) (fun _ h9 => h9) hfin (mm_ty cx cl hcl f (by rw [hN] at hf; exact hf)) (by rw [hft]; rfl) (by rw [hft]; rfl) (by simpa using hf) hd (fun H1 locs1 hP1 hD1 hS1 => ?_)
    rw [mmFv_putI (by rw [hty]; omega)] at hP1 hD1
    exact hk _ _ _ h ids ad ca tys H1 locs1 cells slots la (I.putI hin (k := f) (z := z) ⟨fun e9 => by rw [mm_ke9 _ (mm_koL hko).2] at e9; omega, fun _ => hz⟩ hq (mmE_obj hko) hP1 hD1 hS1) ho9 hl L rc rs
  · refine va_putF (D := D) (ci := cx) (v := .int (Int32.ofInt z)) (ty := mmTy cx f) (C := cl.1) (T := cl.2.1) (N := cl.2.2) (ref := (cl.2.1 f).1) hE.1 hE.2.1 hE.2.2.2.2 (mm_hin cx cl hcl) (mmTy cx) (mm_ty cx cl hcl) (mm_nm cx cl hcl) hE.2.2.2.1 hK hP hD hS q0 hw hcl f (by rw [hN] at hf; exact hf) (hE.2.2.2.2 _ hwd) (fun _ h9 => h9) hfin hi1 hi2 (mm_ty cx cl hcl f (by rw [hN] at hf; exact hf)) (by rw [hft]; rfl) (by rw [hft]; rfl) (by simpa using hf) hd (fun H1 locs1 hP1 hD1 hS1 => ?_)
    rw [mmFv_putI (by rw [hty]; omega)] at hP1 hD1
    exact hk _ _ _ h ids ad ca tys H1 locs1 cells slots la (I.putI hin (k := f) (z := z) ⟨fun e9 => by rw [mm_ke9 _ (mm_koL hko).2] at e9; omega, fun _ => hz⟩ hq (mmE_obj hko) hP1 hD1 hS1) ho9 hl L rc rs
theorem mo_putfield1 {idx cx f pl : Nat} {cl : vw_C} (hE : mmEn p s m args c cc own nL) (hd : decode cc pc = .ok (.putfield idx, 3)) (hcl : mmCl[cx]? = some cl) (hN : mmKn cx = cl.2.2) (hf : f < mmKn cx) (hty : mmKt cx f = 1) (hft : mmTy cx f = .boolean) (hwd : Cond.fieldLink own idx (cl.2.1 f).1 (cl.2.1 f).2.1 (cl.2.1 f).2.2.1 ∈ mmTs) (hfin : (cl.2.1 f).2.2.2 = false ∨ ((cl.2.1 f).2.2.2 = true ∧ meth.name = "<init>" ∧ (cl.2.1 f).1 = own)) (hk : ∀ ls st μ, κ ls st μ → mmPt p l e R s m args below meth c QW nL D A b X1 X2 ids0 ad0 (pc + 3) ls st μ) (h : mmStep C J Q (.putfield idx, [cx, f, 1, pl], cst) κ ls st μ) : mmPt p l e R s m args below meth c QW nL D A b X1 X2 ids0 ad0 pc ls st μ := by
  obtain ⟨z, st, rfl, h⟩ := mmPi_inv h
  obtain ⟨o, st, rfl, hko, h⟩ := mmPo_inv h
  intro ids ad ca tys H locs cells slots la I ho hl L rc rs
  obtain ⟨hz, ho8⟩ := List.forall_mem_cons.mp ho
  obtain ⟨hv, ho9⟩ := List.forall_mem_cons.mp ho8
  obtain ⟨hz01, h⟩ := h
  obtain ⟨hb1, hb2, -, -⟩ := mm_bool hz01
  have hin := mmOv_in hv (mm_koS hko)
  obtain ⟨hP, hD, hS, hK, hO, -⟩ := id I
  obtain ⟨q0, hq, hw⟩ := mmW_get (ad := ad) (ca := ca) (μ := μ) hin
  rw [mmE_obj hko] at hw
  rcases hfin with hfin | ⟨hfin, hi1, hi2⟩
  · refine va_put (D := D) (ci := cx) (v := .int (Int32.ofInt z)) (ty := mmTy cx f) (C := cl.1) (T := cl.2.1) (N := cl.2.2) (ref := (cl.2.1 f).1) hE.1 hE.2.1 hE.2.2.2.2 (mm_hin cx cl hcl) (mmTy cx) (mm_ty cx cl hcl) (mm_nm cx cl hcl) hE.2.2.2.1 hK hP hD hS q0 hw hcl f (by rw [hN] at hf; exact hf) (hE.2.2.2.2 _ hwd) (fun _ h9 => h9) hfin (mm_ty cx cl hcl f (by rw [hN] at hf; exact hf)) (by rw [hft]; exact hb1) (by rw [hft]; exact hb2) (by simpa using hf) hd (fun H1 locs1 hP1 hD1 hS1 => ?_)
    rw [mmFv_putI (by rw [hty]; omega)] at hP1 hD1
    exact hk _ _ _ h ids ad ca tys H1 locs1 cells slots la (I.putI hin (k := f) (z := z) ⟨fun e9 => by rw [mm_ke9 _ (mm_koL hko).2] at e9; omega, fun _ => hz⟩ hq (mmE_obj hko) hP1 hD1 hS1) ho9 hl L rc rs
  · refine va_putF (D := D) (ci := cx) (v := .int (Int32.ofInt z)) (ty := mmTy cx f) (C := cl.1) (T := cl.2.1) (N := cl.2.2) (ref := (cl.2.1 f).1) hE.1 hE.2.1 hE.2.2.2.2 (mm_hin cx cl hcl) (mmTy cx) (mm_ty cx cl hcl) (mm_nm cx cl hcl) hE.2.2.2.1 hK hP hD hS q0 hw hcl f (by rw [hN] at hf; exact hf) (hE.2.2.2.2 _ hwd) (fun _ h9 => h9) hfin hi1 hi2 (mm_ty cx cl hcl f (by rw [hN] at hf; exact hf)) (by rw [hft]; exact hb1) (by rw [hft]; exact hb2) (by simpa using hf) hd (fun H1 locs1 hP1 hD1 hS1 => ?_)
    rw [mmFv_putI (by rw [hty]; omega)] at hP1 hD1
    exact hk _ _ _ h ids ad ca tys H1 locs1 cells slots la (I.putI hin (k := f) (z := z) ⟨fun e9 => by rw [mm_ke9 _ (mm_koL hko).2] at e9; omega, fun _ => hz⟩ hq (mmE_obj hko) hP1 hD1 hS1) ho9 hl L rc rs
theorem mo_putfield3 {idx cx f pl : Nat} {cl : vw_C} (hE : mmEn p s m args c cc own nL) (hd : decode cc pc = .ok (.putfield idx, 3)) (hcl : mmCl[cx]? = some cl) (hN : mmKn cx = cl.2.2) (hf : f < mmKn cx) (hty : mmKt cx f = 3) (hft : (∃ n, mmTy cx f = .object n) ∨ ∃ t, mmTy cx f = .array t) (hwd : Cond.fieldLink own idx (cl.2.1 f).1 (cl.2.1 f).2.1 (cl.2.1 f).2.2.1 ∈ mmTs) (hfin : (cl.2.1 f).2.2.2 = false ∨ ((cl.2.1 f).2.2.2 = true ∧ meth.name = "<init>" ∧ (cl.2.1 f).1 = own)) (hk : ∀ ls st μ, κ ls st μ → mmPt p l e R s m args below meth c QW nL D A b X1 X2 ids0 ad0 (pc + 3) ls st μ) (h : mmStep C J Q (.putfield idx, [cx, f, 3, pl], cst) κ ls st μ) : mmPt p l e R s m args below meth c QW nL D A b X1 X2 ids0 ad0 pc ls st μ := by
  obtain ⟨z, st, rfl, h⟩ := mmPa_inv h
  obtain ⟨o, st, rfl, hko, h⟩ := mmPo_inv h
  intro ids ad ca tys H locs cells slots la I ho hl L rc rs
  obtain ⟨hz, ho8⟩ := List.forall_mem_cons.mp ho
  obtain ⟨hv, ho9⟩ := List.forall_mem_cons.mp ho8
  have hin := mmOv_in hv (mm_koS hko)
  obtain ⟨hP, hD, hS, hK, hO, -⟩ := id I
  obtain ⟨q0, hq, hw⟩ := mmW_get (ad := ad) (ca := ca) (μ := μ) hin
  rw [mmE_obj hko] at hw
  rcases hfin with hfin | ⟨hfin, hi1, hi2⟩
  · refine va_put (D := D) (ci := cx) (v := mmCv ad (.inr (.inr z))) (ty := mmTy cx f) (C := cl.1) (T := cl.2.1) (N := cl.2.2) (ref := (cl.2.1 f).1) hE.1 hE.2.1 hE.2.2.2.2 (mm_hin cx cl hcl) (mmTy cx) (mm_ty cx cl hcl) (mm_nm cx cl hcl) hE.2.2.2.1 hK hP hD hS q0 hw hcl f (by rw [hN] at hf; exact hf) (hE.2.2.2.2 _ hwd) (fun _ h9 => h9) hfin (mm_ty cx cl hcl f (by rw [hN] at hf; exact hf)) (by rcases hft with ⟨n, e1⟩ | ⟨t, e1⟩ <;> rw [e1] <;> rfl) (by rcases hft with ⟨n, e1⟩ | ⟨t, e1⟩ <;> rw [e1] <;> cases z <;> rfl) (by simpa using hf) hd (fun H1 locs1 hP1 hD1 hS1 => ?_)
    rw [mmFv_putR hty] at hP1 hD1
    exact hk _ _ _ h ids ad ca tys H1 locs1 cells slots la (I.putR (k := f) (r := z) hz hq (mmE_obj hko) hP1 hD1 hS1) ho9 hl L rc rs
  · refine va_putF (D := D) (ci := cx) (v := mmCv ad (.inr (.inr z))) (ty := mmTy cx f) (C := cl.1) (T := cl.2.1) (N := cl.2.2) (ref := (cl.2.1 f).1) hE.1 hE.2.1 hE.2.2.2.2 (mm_hin cx cl hcl) (mmTy cx) (mm_ty cx cl hcl) (mm_nm cx cl hcl) hE.2.2.2.1 hK hP hD hS q0 hw hcl f (by rw [hN] at hf; exact hf) (hE.2.2.2.2 _ hwd) (fun _ h9 => h9) hfin hi1 hi2 (mm_ty cx cl hcl f (by rw [hN] at hf; exact hf)) (by rcases hft with ⟨n, e1⟩ | ⟨t, e1⟩ <;> rw [e1] <;> rfl) (by rcases hft with ⟨n, e1⟩ | ⟨t, e1⟩ <;> rw [e1] <;> cases z <;> rfl) (by simpa using hf) hd (fun H1 locs1 hP1 hD1 hS1 => ?_)
    rw [mmFv_putR hty] at hP1 hD1
    exact hk _ _ _ h ids ad ca tys H1 locs1 cells slots la (I.putR (k := f) (r := z) hz hq (mmE_obj hko) hP1 hD1 hS1) ho9 hl L rc rs
theorem mo_iaload (hE : mmEn p s m args c cc own nL) (hd : decode cc pc = .ok (.iaload, 1)) (hk : ∀ ls st μ, κ ls st μ → mmPt p l e R s m args below meth c QW nL D A b X1 X2 ids0 ad0 (pc + 1) ls st μ) (h : mmStep C J Q (.iaload, [], cst) κ ls st μ) : mmPt p l e R s m args below meth c QW nL D A b X1 X2 ids0 ad0 pc ls st μ := by
  obtain ⟨i, st, rfl, h⟩ := mmPi_inv h
  obtain ⟨o, st, rfl, hke, h0, h1, h⟩ := mmPo_inv h
  intro ids ad ca tys H locs cells slots la I ho hl L rc rs
  obtain ⟨hi, ho8⟩ := List.forall_mem_cons.mp ho
  obtain ⟨hv, ho9⟩ := List.forall_mem_cons.mp ho8
  have hkl : mmKe o.1 < 5 := by omega
  have hin := mmOv_in hv (mm_keS hkl)
  obtain ⟨hP, hD, hS, hK, hO, -⟩ := id I
  obtain ⟨q0, hq, hw⟩ := mmW_get (ad := ad) (ca := ca) (μ := μ) hin
  obtain ⟨-, t0, ht0⟩ := hO.2.2.1 o hin (mm_keko hkl)
  rw [mmE_arr (mm_keko hkl), mmAc_i (by omega)] at hw
  have hi : mmR32 i := hi
  have hix : vp_in (Int32.ofInt i) (mmLen o.1).toNat := mm_in hi h0 (by omega)
  have hcl := mm_cl hi
  have hnn : ((i.toNat : Nat) : Int) = i := Int.toNat_of_nonneg h0
  rw [hke] at ht0
  refine va_iald hE.1 hE.2.1 hK hP q0 t0 hw ht0 hix hd ?_
  rw [hcl]
  have := hk _ _ _ h ids ad ca tys H locs cells slots la I (List.forall_mem_cons.mpr ⟨((hO.2.2.2.1 o hin i).2 (by omega) : mmOv ids (.inl (μ.1 o.1 o.2 i))), ho9⟩) hl L rc rs
  simp only [hnn]
  exact this
theorem mo_baload (hE : mmEn p s m args c cc own nL) (hd : decode cc pc = .ok (.baload, 1)) (hk : ∀ ls st μ, κ ls st μ → mmPt p l e R s m args below meth c QW nL D A b X1 X2 ids0 ad0 (pc + 1) ls st μ) (h : mmStep C J Q (.baload, pay, cst) κ ls st μ) : mmPt p l e R s m args below meth c QW nL D A b X1 X2 ids0 ad0 pc ls st μ := by
  obtain ⟨i, st, rfl, h⟩ := mmPi_inv h
  obtain ⟨o, st, rfl, hke, h0, h1, h⟩ := mmPo_inv h
  intro ids ad ca tys H locs cells slots la I ho hl L rc rs
  obtain ⟨hi, ho8⟩ := List.forall_mem_cons.mp ho
  obtain ⟨hv, ho9⟩ := List.forall_mem_cons.mp ho8
  have hkl : mmKe o.1 < 5 := by omega
  have hin := mmOv_in hv (mm_keS hkl)
  obtain ⟨hP, hD, hS, hK, hO, -⟩ := id I
  obtain ⟨q0, hq, hw⟩ := mmW_get (ad := ad) (ca := ca) (μ := μ) hin
  obtain ⟨-, t0, ht0⟩ := hO.2.2.1 o hin (mm_keko hkl)
  rw [mmE_arr (mm_keko hkl), mmAc_i (by omega)] at hw
  have hi : mmR32 i := hi
  have hix : vp_in (Int32.ofInt i) (mmLen o.1).toNat := mm_in hi h0 (by omega)
  have hcl := mm_cl hi
  have hnn : ((i.toNat : Nat) : Int) = i := Int.toNat_of_nonneg h0
  rw [hke] at ht0
  refine va_zald hE.1 hE.2.1 hK hP q0 t0 hw ht0 hix hd ?_
  rw [hcl]
  have := hk _ _ _ h ids ad ca tys H locs cells slots la I (List.forall_mem_cons.mpr ⟨((hO.2.2.2.1 o hin i).2 (by omega) : mmOv ids (.inl (μ.1 o.1 o.2 i))), ho9⟩) hl L rc rs
  simp only [hnn]
  exact this
theorem mo_laload (hE : mmEn p s m args c cc own nL) (hd : decode cc pc = .ok (.laload, 1)) (hk : ∀ ls st μ, κ ls st μ → mmPt p l e R s m args below meth c QW nL D A b X1 X2 ids0 ad0 (pc + 1) ls st μ) (h : mmStep C J Q (.laload, pay, cst) κ ls st μ) : mmPt p l e R s m args below meth c QW nL D A b X1 X2 ids0 ad0 pc ls st μ := by
  obtain ⟨i, st, rfl, h⟩ := mmPi_inv h
  obtain ⟨o, st, rfl, hke, h0, h1, h⟩ := mmPo_inv h
  intro ids ad ca tys H locs cells slots la I ho hl L rc rs
  obtain ⟨hi, ho8⟩ := List.forall_mem_cons.mp ho
  obtain ⟨hv, ho9⟩ := List.forall_mem_cons.mp ho8
  have hkl : mmKe o.1 < 5 := by omega
  have hin := mmOv_in hv (mm_keS hkl)
  obtain ⟨hP, hD, hS, hK, hO, -⟩ := id I
  obtain ⟨q0, hq, hw⟩ := mmW_get (ad := ad) (ca := ca) (μ := μ) hin
  obtain ⟨-, t0, ht0⟩ := hO.2.2.1 o hin (mm_keko hkl)
  rw [mmE_arr (mm_keko hkl), mmAc_l (by omega)] at hw
  have hi : mmR32 i := hi
  have hix : vp_in (Int32.ofInt i) (mmLen o.1).toNat := mm_in hi h0 (by omega)
  have hcl := mm_cl hi
  have hnn : ((i.toNat : Nat) : Int) = i := Int.toNat_of_nonneg h0
  rw [hke] at ht0
  refine va_lald hE.1 hE.2.1 hK hP q0 t0 hw ht0 hix hd ?_
  rw [hcl]
  have := hk _ _ _ h ids ad ca tys H locs cells slots la I (List.forall_mem_cons.mpr ⟨((hO.2.2.2.1 o hin i).1 (by omega) : mmOv ids (.inr (.inl (μ.1 o.1 o.2 i)))), ho9⟩) hl L rc rs
  simp only [hnn]
  exact this
theorem mo_iastore (hE : mmEn p s m args c cc own nL) (hd : decode cc pc = .ok (.iastore, 1)) (hk : ∀ ls st μ, κ ls st μ → mmPt p l e R s m args below meth c QW nL D A b X1 X2 ids0 ad0 (pc + 1) ls st μ) (h : mmStep C J Q (.iastore, pay, cst) κ ls st μ) : mmPt p l e R s m args below meth c QW nL D A b X1 X2 ids0 ad0 pc ls st μ := by
  obtain ⟨z, st, rfl, h⟩ := mmPi_inv h
  obtain ⟨i, st, rfl, h⟩ := mmPi_inv h
  obtain ⟨o, st, rfl, hke, h0, h1, h⟩ := mmPo_inv h
  intro ids ad ca tys H locs cells slots la I ho hl L rc rs
  obtain ⟨hz, ho7⟩ := List.forall_mem_cons.mp ho
  obtain ⟨hi, ho8⟩ := List.forall_mem_cons.mp ho7
  obtain ⟨hv, ho9⟩ := List.forall_mem_cons.mp ho8
  have hkl : mmKe o.1 < 5 := by omega
  have hin := mmOv_in hv (mm_keS hkl)
  obtain ⟨hP, hD, hS, hK, hO, -⟩ := id I
  obtain ⟨q0, hq, hw⟩ := mmW_get (ad := ad) (ca := ca) (μ := μ) hin
  obtain ⟨-, t0, ht0⟩ := hO.2.2.1 o hin (mm_keko hkl)
  rw [mmE_arr (mm_keko hkl), mmAc_i (by omega)] at hw
  have hi : mmR32 i := hi
  have hix : vp_in (Int32.ofInt i) (mmLen o.1).toNat := mm_in hi h0 (by omega)
  have hcl := mm_cl hi
  have hnn : ((i.toNat : Nat) : Int) = i := Int.toNat_of_nonneg h0
  rw [hke] at ht0
  refine va_iast hE.1 hE.2.1 hK hP hD hS q0 t0 hw ht0 hix hd (fun H1 locs1 hP1 hD1 hS1 => ?_)
  rw [hcl, mm_upd h0] at hP1 hD1
  exact hk _ _ _ h ids ad ca tys H1 locs1 cells slots la (I.putI hin (k := i) (z := z) ⟨fun e9 => by first | exact hz | omega, fun e9 => by first | exact hz | exact absurd hke e9 | omega⟩ hq (by rw [mmE_arr (mm_keko hkl), mmAc_i (by omega)]) hP1 hD1 hS1) ho9 hl L rc rs
theorem mo_bastore (hE : mmEn p s m args c cc own nL) (hd : decode cc pc = .ok (.bastore, 1)) (hk : ∀ ls st μ, κ ls st μ → mmPt p l e R s m args below meth c QW nL D A b X1 X2 ids0 ad0 (pc + 1) ls st μ) (h : mmStep C J Q (.bastore, pay, cst) κ ls st μ) : mmPt p l e R s m args below meth c QW nL D A b X1 X2 ids0 ad0 pc ls st μ := by
  obtain ⟨z, st, rfl, h⟩ := mmPi_inv h
  obtain ⟨i, st, rfl, h⟩ := mmPi_inv h
  obtain ⟨o, st, rfl, hke, h0, h1, hz01, h⟩ := mmPo_inv h
  intro ids ad ca tys H locs cells slots la I ho hl L rc rs
  obtain ⟨hz, ho7⟩ := List.forall_mem_cons.mp ho
  obtain ⟨hi, ho8⟩ := List.forall_mem_cons.mp ho7
  obtain ⟨hv, ho9⟩ := List.forall_mem_cons.mp ho8
  obtain ⟨hb1, hb2, hb3, -⟩ := mm_bool hz01
  have hkl : mmKe o.1 < 5 := by omega
  have hin := mmOv_in hv (mm_keS hkl)
  obtain ⟨hP, hD, hS, hK, hO, -⟩ := id I
  obtain ⟨q0, hq, hw⟩ := mmW_get (ad := ad) (ca := ca) (μ := μ) hin
  obtain ⟨-, t0, ht0⟩ := hO.2.2.1 o hin (mm_keko hkl)
  rw [mmE_arr (mm_keko hkl), mmAc_i (by omega)] at hw
  have hi : mmR32 i := hi
  have hix : vp_in (Int32.ofInt i) (mmLen o.1).toNat := mm_in hi h0 (by omega)
  have hcl := mm_cl hi
  have hnn : ((i.toNat : Nat) : Int) = i := Int.toNat_of_nonneg h0
  rw [hke] at ht0
  refine va_zast hE.1 hE.2.1 hK hP hD hS q0 t0 hw ht0 hix hd (fun H1 locs1 hP1 hD1 hS1 => ?_)
  rw [hcl, hb3, mm_upd h0] at hP1 hD1
  exact hk _ _ _ h ids ad ca tys H1 locs1 cells slots la (I.putI hin (k := i) (z := z) ⟨fun e9 => by first | exact hz | omega, fun e9 => by first | exact hz | exact absurd hke e9 | omega⟩ hq (by rw [mmE_arr (mm_keko hkl), mmAc_i (by omega)]) hP1 hD1 hS1) ho9 hl L rc rs
theorem mo_lastore (hE : mmEn p s m args c cc own nL) (hd : decode cc pc = .ok (.lastore, 1)) (hk : ∀ ls st μ, κ ls st μ → mmPt p l e R s m args below meth c QW nL D A b X1 X2 ids0 ad0 (pc + 1) ls st μ) (h : mmStep C J Q (.lastore, pay, cst) κ ls st μ) : mmPt p l e R s m args below meth c QW nL D A b X1 X2 ids0 ad0 pc ls st μ := by
  obtain ⟨z, st, rfl, h⟩ := mmPl_inv h
  obtain ⟨i, st, rfl, h⟩ := mmPi_inv h
  obtain ⟨o, st, rfl, hke, h0, h1, h⟩ := mmPo_inv h
  intro ids ad ca tys H locs cells slots la I ho hl L rc rs
  obtain ⟨hz, ho7⟩ := List.forall_mem_cons.mp ho
  obtain ⟨hi, ho8⟩ := List.forall_mem_cons.mp ho7
  obtain ⟨hv, ho9⟩ := List.forall_mem_cons.mp ho8
  have hkl : mmKe o.1 < 5 := by omega
  have hin := mmOv_in hv (mm_keS hkl)
  obtain ⟨hP, hD, hS, hK, hO, -⟩ := id I
  obtain ⟨q0, hq, hw⟩ := mmW_get (ad := ad) (ca := ca) (μ := μ) hin
  obtain ⟨-, t0, ht0⟩ := hO.2.2.1 o hin (mm_keko hkl)
  rw [mmE_arr (mm_keko hkl), mmAc_l (by omega)] at hw
  have hi : mmR32 i := hi
  have hix : vp_in (Int32.ofInt i) (mmLen o.1).toNat := mm_in hi h0 (by omega)
  have hcl := mm_cl hi
  have hnn : ((i.toNat : Nat) : Int) = i := Int.toNat_of_nonneg h0
  rw [hke] at ht0
  refine va_last hE.1 hE.2.1 hK hP hD hS q0 t0 hw ht0 hix hd (fun H1 locs1 hP1 hD1 hS1 => ?_)
  rw [hcl, mm_updL h0] at hP1 hD1
  exact hk _ _ _ h ids ad ca tys H1 locs1 cells slots la (I.putI hin (k := i) (z := z) ⟨fun e9 => by first | exact hz | omega, fun e9 => by first | exact hz | exact absurd hke e9 | omega⟩ hq (by rw [mmE_arr (mm_keko hkl), mmAc_l (by omega)]) hP1 hD1 hS1) ho9 hl L rc rs
theorem mo_arraylength (hE : mmEn p s m args c cc own nL) (hd : decode cc pc = .ok (.arraylength, 1)) (hk : ∀ ls st μ, κ ls st μ → mmPt p l e R s m args below meth c QW nL D A b X1 X2 ids0 ad0 (pc + 1) ls st μ) (h : mmStep C J Q (.arraylength, [], cst) κ ls st μ) : mmPt p l e R s m args below meth c QW nL D A b X1 X2 ids0 ad0 pc ls st μ := by
  obtain ⟨o, st, rfl, hkl, h⟩ := mmPo_inv h
  intro ids ad ca tys H locs cells slots la I ho hl L rc rs
  obtain ⟨hv, ho9⟩ := List.forall_mem_cons.mp ho
  have hin := mmOv_in hv (mm_keS hkl)
  obtain ⟨hP, hD, hS, hK, hO, -⟩ := id I
  obtain ⟨q0, hq, hw⟩ := mmW_get (ad := ad) (ca := ca) (μ := μ) hin
  obtain ⟨-, t0, ht0⟩ := hO.2.2.1 o hin (mm_keko hkl)
  rw [mmE_arr (mm_keko hkl)] at hw
  have hr := mm_lenR o.1
  refine va_alen (v := Int32.ofInt (mmLen o.1)) hE.1 hE.2.1 hK hP q0 t0 hw ht0 ?_ hd (hk _ _ _ h ids ad ca tys H locs cells slots la I (List.forall_mem_cons.mpr ⟨hr.2, ho9⟩) hl L rc rs)
  show Int32.ofNat (mmLen o.1).toNat = _
  rw [← Int32.ofInt_eq_ofNat, Int.toNat_of_nonneg hr.1]
theorem mo_aaload (hE : mmEn p s m args c cc own nL) (hd : decode cc pc = .ok (.aaload, 1)) (hk : ∀ ls st μ, κ ls st μ → mmPt p l e R s m args below meth c QW nL D A b X1 X2 ids0 ad0 (pc + 1) ls st μ) (h : mmStep C J Q (.aaload, pay, cst) κ ls st μ) : mmPt p l e R s m args below meth c QW nL D A b X1 X2 ids0 ad0 pc ls st μ := by
  obtain ⟨i, st, rfl, h⟩ := mmPi_inv h
  obtain ⟨o, st, rfl, hke, h0, h1, h⟩ := mmPo_inv h
  intro ids ad ca tys H locs cells slots la I ho hl L rc rs
  obtain ⟨hi, ho8⟩ := List.forall_mem_cons.mp ho
  obtain ⟨hv, ho9⟩ := List.forall_mem_cons.mp ho8
  have hkl : mmKe o.1 < 5 := by omega
  have hin := mmOv_in hv (mm_keS hkl)
  obtain ⟨hP, hD, hS, hK, hO, -⟩ := id I
  obtain ⟨q0, hq, hw⟩ := mmW_get (ad := ad) (ca := ca) (μ := μ) hin
  obtain ⟨-, t0, ht0⟩ := hO.2.2.1 o hin (mm_keko hkl)
  rw [mmE_arr (mm_keko hkl), mmAc_r (by omega)] at hw
  have hi : mmR32 i := hi
  have hix : vp_in (Int32.ofInt i) (mmLen o.1).toNat := mm_in hi h0 (by omega)
  have hcl := mm_cl hi
  have hnn : ((i.toNat : Nat) : Int) = i := Int.toNat_of_nonneg h0
  have hlt : (Int32.ofInt i).toNatClampNeg < (mmLen o.1).toNat := by rw [hcl]; omega
  refine W.aald (v := va_rf ((μ.2.1 o.1 o.2 i).map ad)) (ty := mmFt (mmKe o.1)) hE.1 hE.2.1 (hP q0 _ hw) ((hK.2 t0 _ ht0).1 _ (fun j => va_rf ((μ.2.1 o.1 o.2 j).map ad))) (by rcases hke with e1 | e1 <;> rw [e1] <;> rfl) (fun q => by cases q) (by show ¬ (_ ∨ (arrV _ _ _).slots.size ≤ _); rw [arrV_size]; exact hix) (by show (arrV _ _ _).slots[_]? = _; rw [arrV_read _ _ hlt, hcl]; show some (va_rf (Option.map ad (μ.2.1 o.1 o.2 ((i.toNat : Nat) : Int)))) = _; rw [hnn]) rfl rfl hd ?_
  rw [← mmCv_a]
  exact hk _ _ _ h ids ad ca tys H locs cells slots la I (List.forall_mem_cons.mpr ⟨hO.2.2.2.2 o hin i, ho9⟩) hl L rc rs
theorem mo_tableswitch {dflt lo hi : Int} {offs : Array Int} {len : Nat} (hE : mmEn p s m args c cc own nL) (hd : decode cc pc = .ok (.tableswitch dflt lo hi offs, len)) {pcs : List Nat} (hD : (pc : Int) + dflt = (pcs.getD (pay.headD 0) 0 : Nat)) (hJ : ∀ t ls st μ, J t ls st μ → mmPt p l e R s m args below meth c QW nL D A b X1 X2 ids0 ad0 (pcs.getD t 0) ls st μ) (hT : ∀ i : Nat, (i : Int) ≤ hi - lo → ∃ off t, offs[i]? = some off ∧ pay.tail[i]? = some t ∧ (pc : Int) + off = (pcs.getD t 0 : Nat)) (h : mmStep C J Q (.tableswitch dflt lo hi offs, pay, cst) κ ls st μ) : mmPt p l e R s m args below meth c QW nL D A b X1 X2 ids0 ad0 pc ls st μ := by
  obtain ⟨z, st, rfl, h1, h2⟩ := mmPi_inv h
  intro ids ad ca tys H locs cells slots la I ho hl L rc rs
  obtain ⟨hz, ho9⟩ := List.forall_mem_cons.mp ho
  have hz : mmR32 z := hz
  have ez := mm_to32 hz
  by_cases e1 : z < lo ∨ hi < z
  · exact lv_tableOut hE.1 hE.2.1 hd (by rw [ez]; exact e1) hD (hJ _ _ _ _ (h2 e1) ids ad ca tys H locs cells slots la I ho9 hl L rc rs)
  · obtain ⟨off, t, g1, g2, g3⟩ := hT (z - lo).toNat (by omega)
    exact lv_tableIn hE.1 hE.2.1 hd (by rw [ez]; omega) (by rw [ez]; omega) (by rw [ez]; exact g1) g3 (hJ _ _ _ _ (mmSw_get h1 g2 (by omega)) ids ad ca tys H locs cells slots la I ho9 hl L rc rs)
theorem mo_lookupswitch {dflt : Int} {ps : Array (Int × Int)} {len : Nat} (hE : mmEn p s m args c cc own nL) (hd : decode cc pc = .ok (.lookupswitch dflt ps, len)) {pcs : List Nat} (hD : (pc : Int) + dflt = (pcs.getD (pay.headD 0) 0 : Nat)) (hJ : ∀ t ls st μ, J t ls st μ → mmPt p l e R s m args below meth c QW nL D A b X1 X2 ids0 ad0 (pcs.getD t 0) ls st μ) (hp : (ps.toList.zip (ps.toList.drop 1)).all (fun (a, next) => a.1 < next.1) = true) (hT : ∀ (i : Nat) (q : Int × Int), ps.toList[i]? = some q → ∀ t, pay.tail[i]? = some t → (pc : Int) + q.2 = (pcs.getD t 0 : Nat)) (h : mmStep C J Q (.lookupswitch dflt ps, pay, cst) κ ls st μ) : mmPt p l e R s m args below meth c QW nL D A b X1 X2 ids0 ad0 pc ls st μ := by
  obtain ⟨z, st, rfl, h1⟩ := mmPi_inv h
  intro ids ad ca tys H locs cells slots la I ho hl L rc rs
  obtain ⟨hz, ho9⟩ := List.forall_mem_cons.mp ho
  have hz : mmR32 z := hz
  have ez := mm_to32 hz
  obtain ⟨t, g1, g2⟩ := mmLk_get hD h1 hT
  exact lv_lookup hE.1 hE.2.1 hd hp (by rw [ez]) g2 (hJ _ _ _ _ g1 ids ad ca tys H locs cells slots la I ho9 hl L rc rs)
end MMH
