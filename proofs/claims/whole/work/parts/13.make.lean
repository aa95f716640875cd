def mmAp {α : Type} (f : mmO → α) (o : mmO) (v : α) (y : mmO) : α := if y = o then v else f y
theorem mmAp_eq {α : Type} {f : mmO → α} {o : mmO} {v : α} : mmAp f o v o = v := if_pos rfl
theorem mmAp_ne {α : Type} {f : mmO → α} {o y : mmO} {v : α} (h : y ≠ o) : mmAp f o v y = f y := if_neg h
theorem mm_lenB (t : Nat) : (mmLen t).toNat ≤ 20000 := by
  unfold mmLen
  split
  · rename_i q hq
    have := mm_lenL q (List.mem_of_find?_eq_some hq)
    omega
  · omega
theorem mmE_ext {ad ad' : mmO → Nat} {ca ca' : mmO → ClassId} {μ ν : mmM} {o : mmO} (h1 : ∀ k, ν.1 o.1 o.2 k = μ.1 o.1 o.2 k) (h2 : ∀ k, ν.2.1 o.1 o.2 k = μ.2.1 o.1 o.2 k) (h3 : ∀ k x, μ.2.1 o.1 o.2 k = some x → ad' x = ad x) (h4 : ca' o = ca o) : mmE ad' ca' ν o = mmE ad ca μ o := by
  have e1 : ∀ k, mmCv ad' (.inr (.inr (μ.2.1 o.1 o.2 k))) = mmCv ad (.inr (.inr (μ.2.1 o.1 o.2 k))) := by
    intro k
    cases hk : μ.2.1 o.1 o.2 k with
    | none => rfl
    | some x => show Value.ref _ = Value.ref _; rw [h3 k x hk]
  have e2 : ∀ k, (μ.2.1 o.1 o.2 k).map ad' = (μ.2.1 o.1 o.2 k).map ad := by
    intro k
    cases hk : μ.2.1 o.1 o.2 k with
    | none => rfl
    | some x => show some _ = some _; rw [h3 k x hk]
  have e3 : ∀ z, mmCv ad' (.inl z) = mmCv ad (.inl z) := fun _ => rfl
  unfold mmE mmFv mmAc
  simp only [h1, h2, h4, e1, e2, e3]
theorem mmUr_eq {α : Type} {f : Nat → Nat → Int → α} {t i : Nat} {g : Int → α} {k : Int} : mmUr f t i g t i k = g k := by
  unfold mmUr; simp
/-- a new cell -/
theorem mmInv.push {D : va_G} {A : Nat → Prop} {b : Nat} {X1 X2 : Int → Int} {ids0 : List mmO} {ad0 : mmO → Nat} {s : State} {ids : List mmO} {ad : mmO → Nat} {ca : mmO → ClassId} {tys tys' : List (ClassId × FieldType)} {μ : mmM} {H H1 : Heap} {locs : List Loc} (I : mmInv D A b X1 X2 ids0 ad0 s ids ad ca tys μ H locs)
    {t : Nat} (ht : t ≠ 1301 ∧ t ≠ 1302) {q : Nat} {cA : ClassId} (htys : ∀ (i : Nat) (x : ClassId × FieldType), tys[i]? = some x → tys'[i]? = some x) (hnew : mmKo t = none → mmKe t < 5 ∧ ∃ t0 : Nat, tys'[t0]? = some (cA, mmFt (mmKe t))) {x : va_E} {bc bs : Nat}
    (hx : mmE (mmAp ad (t, μ.2.2.1 t) q) (mmAp ca (t, μ.2.2.1 t) cA) (mmUr μ.1 t (μ.2.2.1 t) (fun _ => 0), mmUr μ.2.1 t (μ.2.2.1 t) (fun _ => none), va_up μ.2.2.1 t (μ.2.2.1 t + 1), bc, bs) (t, μ.2.2.1 t) = x)
    (hK : va_K D mmCl tys' s) (hP : va_P D mmCl (mmW ids ad ca μ ++ [(q, x)]) H1) (hD : va_D A (mmW ids ad ca μ ++ [(q, x)])) (hS : va_S A s.heap H1 locs) :
    mmInv D A b X1 X2 ids0 ad0 s (ids ++ [(t, μ.2.2.1 t)]) (mmAp ad (t, μ.2.2.1 t) q) (mmAp ca (t, μ.2.2.1 t) cA) tys' (mmUr μ.1 t (μ.2.2.1 t) (fun _ => 0), mmUr μ.2.1 t (μ.2.2.1 t) (fun _ => none), va_up μ.2.2.1 t (μ.2.2.1 t + 1), bc, bs) H1 locs := by
  obtain ⟨h1, h2, h3, h4, h5, h6, h7, h8, h9⟩ := I
  obtain ⟨o1, o2, o3, o4, o5⟩ := h5
  have hfresh : (t, μ.2.2.1 t) ∉ ids := fun q => absurd ((o2 _).mp q) (Nat.lt_irrefl _)
  have hne : ∀ o ∈ ids, o ≠ (t, μ.2.2.1 t) := fun o ho e => hfresh (e ▸ ho)
  have hs : (1301, 0) ≠ (t, μ.2.2.1 t) := fun e => ht.1 (by rw [← (Prod.mk.inj e).1])
  have hs2 : (1302, 0) ≠ (t, μ.2.2.1 t) := fun e => ht.2 (by rw [← (Prod.mk.inj e).1])
  have hW : mmW ids ad ca μ ++ [(q, x)] = mmW (ids ++ [(t, μ.2.2.1 t)]) (mmAp ad (t, μ.2.2.1 t) q) (mmAp ca (t, μ.2.2.1 t) cA) (mmUr μ.1 t (μ.2.2.1 t) (fun _ => 0), mmUr μ.2.1 t (μ.2.2.1 t) (fun _ => none), va_up μ.2.2.1 t (μ.2.2.1 t + 1), bc, bs) := by
    unfold mmW
    rw [List.map_append, List.map_cons, List.map_nil, hx, mmAp_eq]
    congr 1
    apply List.map_congr_left
    intro o ho
    rw [mmAp_ne (hne o ho)]
    congr 1
    refine (mmE_ext (fun k => mmUr_ne (f := μ.1) (g := fun _ => 0) (hne o ho) k) (fun k => mmUr_ne (f := μ.2.1) (g := fun _ => none) (hne o ho) k) (fun k y hy => ?_) (mmAp_ne (hne o ho))).symm
    have := o5 o ho k
    rw [hy] at this
    rcases this with w | w
    · exact mmAp_ne (hne y w)
    · rw [w]; exact mmAp_ne hs
  rw [hW] at hP hD
  refine ⟨hP, hD, hS, hK, ⟨?_, ?_, ?_, ?_, ?_⟩, by rw [mmAp_ne hs]; exact h6, fun o ho => ?_, ?_, ?_⟩
  · refine List.nodup_append.mpr ⟨o1, by simp, ?_⟩
    intro a ha y hy
    rw [List.mem_singleton.mp hy]
    exact hne a ha
  · intro o
    rw [List.mem_append, List.mem_singleton, o2 o]
    show _ ↔ o.2 < va_up μ.2.2.1 t (μ.2.2.1 t + 1) o.1
    unfold va_up
    constructor
    · rintro (w | w)
      · split
        · rename_i e; rw [e] at w; omega
        · exact w
      · rw [w]; simp
    · intro w
      split at w
      · rename_i e
        by_cases e2 : o.2 = μ.2.2.1 t
        · right; exact Prod.ext e e2
        · left; rw [e]; omega
      · left; exact w
  · intro o ho hk
    rcases List.mem_append.mp ho with w | w
    · rw [mmAp_ne (hne o w)]
      obtain ⟨a1, t0, a2⟩ := o3 o w hk
      exact ⟨a1, t0, htys t0 _ a2⟩
    · rw [List.mem_singleton.mp w] at hk ⊢
      rw [mmAp_eq]
      exact hnew hk
  · intro o ho k
    show (_ → mmR64 (mmUr μ.1 t (μ.2.2.1 t) (fun _ => 0) o.1 o.2 k)) ∧ (_ → mmR32 (mmUr μ.1 t (μ.2.2.1 t) (fun _ => 0) o.1 o.2 k))
    rcases List.mem_append.mp ho with w | w
    · rw [mmUr_ne (hne o w)]; exact o4 o w k
    · rw [List.mem_singleton.mp w, mmUr_eq]; exact ⟨fun _ => mmR64_0, fun _ => mmR32_0⟩
  · intro o ho k
    show mmOv _ (.inr (.inr (mmUr μ.2.1 t (μ.2.2.1 t) (fun _ => none) o.1 o.2 k)))
    rcases List.mem_append.mp ho with w | w
    · rw [mmUr_ne (hne o w)]; exact mmOv_ext (fun o h => List.mem_append_left _ h) (o5 o w k)
    · rw [List.mem_singleton.mp w, mmUr_eq]; trivial
  · obtain ⟨a1, a2⟩ := h7 o ho
    exact ⟨List.mem_append_left _ a1, by rw [mmAp_ne (hne o a1)]; exact a2⟩
  · rw [← h8]; funext k; exact mmUr_ne (f := μ.1) (g := fun _ => 0) (o := (1301, 0)) hs k
  · rw [← h9]; funext k; exact mmUr_ne (f := μ.1) (g := fun _ => 0) (o := (1302, 0)) hs2 k
/-- the stack and the locals over a new cell -/
theorem mm_over {D : va_G} {A : Nat → Prop} {b : Nat} {X1 X2 : Int → Int} {ids0 : List mmO} {ad0 : mmO → Nat} {s : State} {ids : List mmO} {ad : mmO → Nat} {ca : mmO → ClassId} {tys : List (ClassId × FieldType)} {μ : mmM} {H : Heap} {locs : List Loc} (I : mmInv D A b X1 X2 ids0 ad0 s ids ad ca tys μ H locs) {t q : Nat} (ht : t ≠ 1301) {st : List mmV} {ls : List (Option mmV)} {la : Array Slot} {nL : Nat}
    (ho : ∀ v ∈ st, mmOv ids v) (hl : ∀ v, some v ∈ ls → mmOv ids v) (L : mmLr la nL ad ls) :
    (∀ v ∈ (Sum.inr (Sum.inr (some (t, μ.2.2.1 t))) : mmV) :: st, mmOv (ids ++ [(t, μ.2.2.1 t)]) v) ∧ (∀ v, some v ∈ ls → mmOv (ids ++ [(t, μ.2.2.1 t)]) v) ∧ mmLr la nL (mmAp ad (t, μ.2.2.1 t) q) ls ∧
      ((Sum.inr (Sum.inr (some (t, μ.2.2.1 t))) : mmV) :: st).map (mmCv (mmAp ad (t, μ.2.2.1 t) q)) = Value.ref q :: st.map (mmCv ad) := by
  have hfresh : (t, μ.2.2.1 t) ∉ ids := fun q => absurd ((I.2.2.2.2.1.2.1 _).mp q) (Nat.lt_irrefl _)
  have hads : ∀ o ∈ ids, (mmAp ad (t, μ.2.2.1 t) q) o = ad o := fun o h => mmAp_ne (fun e => hfresh (e ▸ h))
  have had : (mmAp ad (t, μ.2.2.1 t) q) (1301, 0) = ad (1301, 0) := mmAp_ne (fun e => ht (by rw [← (Prod.mk.inj e).1]))
  refine ⟨List.forall_mem_cons.mpr ⟨Or.inl (List.mem_append_right _ (List.mem_singleton.mpr rfl)), fun v hv => mmOv_ext (fun o h => List.mem_append_left _ h) (ho v hv)⟩, fun v hv => mmOv_ext (fun o h => List.mem_append_left _ h) (hl v hv), ⟨L.1, by rw [mmLv_ext hads had hl]; exact L.2⟩, ?_⟩
  rw [List.map_cons]
  congr 1
  · show Value.ref (mmAp ad _ q _) = _
    rw [mmAp_eq]
  · exact List.map_congr_left fun v hv => mmCv_ext hads had (ho v hv)
theorem mm_def : ∀ (c : Nat) (q : vw_C), mmCl[c]? = some q → ∀ j, j < q.2.2 → defaultValue (mmTy c j) = if mmKt c j = 3 then .null else .int 0
  | 0, _, h => by cases h; exact (by decide +kernel : ∀ j, j < 7 → defaultValue (mmTy 0 j) = if mmKt 0 j = 3 then .null else .int 0)
  | 1, _, h => by cases h; exact (by decide +kernel : ∀ j, j < 3 → defaultValue (mmTy 1 j) = if mmKt 1 j = 3 then .null else .int 0)
  | 2, _, h => by cases h; exact (by decide +kernel : ∀ j, j < 4 → defaultValue (mmTy 2 j) = if mmKt 2 j = 3 then .null else .int 0)
  | 3, _, h => by cases h; exact (by decide +kernel : ∀ j, j < 15 → defaultValue (mmTy 3 j) = if mmKt 3 j = 3 then .null else .int 0)
  | 4, _, h => by cases h; exact (by decide +kernel : ∀ j, j < 3 → defaultValue (mmTy 4 j) = if mmKt 4 j = 3 then .null else .int 0)
  | 5, _, h => by cases h; exact (by decide +kernel : ∀ j, j < 13 → defaultValue (mmTy 5 j) = if mmKt 5 j = 3 then .null else .int 0)
  | 6, _, h => by cases h; exact (by decide +kernel : ∀ j, j < 17 → defaultValue (mmTy 6 j) = if mmKt 6 j = 3 then .null else .int 0)
  | 7, _, h => by cases h; exact (by decide +kernel : ∀ j, j < 1 → defaultValue (mmTy 7 j) = if mmKt 7 j = 3 then .null else .int 0)
  | 8, _, h => by cases h; exact (by decide +kernel : ∀ j, j < 9 → defaultValue (mmTy 8 j) = if mmKt 8 j = 3 then .null else .int 0)
  | 9, _, h => by cases h; exact (by decide +kernel : ∀ j, j < 0 → defaultValue (mmTy 9 j) = if mmKt 9 j = 3 then .null else .int 0)
  | 10, _, h => by cases h; exact (by decide +kernel : ∀ j, j < 12 → defaultValue (mmTy 10 j) = if mmKt 10 j = 3 then .null else .int 0)
  | 11, _, h => by cases h; exact (by decide +kernel : ∀ j, j < 89 → defaultValue (mmTy 11 j) = if mmKt 11 j = 3 then .null else .int 0)
  | _ + 12, _, h => by simp at h
theorem mmCl_n : ∀ (c : Nat) (q : vw_C), mmCl[c]? = some q → mmKn c = q.2.2
  | 0, _, h => by cases h; rfl
  | 1, _, h => by cases h; rfl
  | 2, _, h => by cases h; rfl
  | 3, _, h => by cases h; rfl
  | 4, _, h => by cases h; rfl
  | 5, _, h => by cases h; rfl
  | 6, _, h => by cases h; rfl
  | 7, _, h => by cases h; rfl
  | 8, _, h => by cases h; rfl
  | 9, _, h => by cases h; rfl
  | 10, _, h => by cases h; rfl
  | 11, _, h => by cases h; rfl
  | _ + 12, _, h => by simp at h
section MMN
variable {p : Program} {l : Launch} {e : Env} {R : Room} {s : State} {m : MethodId} {args : Array Value} {below : List Frame} {meth : Method} {c : Code} {QW : State → Prop}
variable {cc : ByteArray} {own : String} {nL : Nat} {D : va_G} {A : Nat → Prop} {b : Nat} {X1 X2 : Int → Int} {ids0 : List mmO} {ad0 : mmO → Nat}
variable {C : Nat → List mmV → mmM → (Option mmV → mmM → Prop) → Prop} {J : Nat → List (Option mmV) → List mmV → mmM → Prop} {Q : Option mmV → mmM → Prop} {κ : List (Option mmV) → List mmV → mmM → Prop}
variable {pc : Nat} {ls : List (Option mmV)} {st : List mmV} {μ : mmM} {pay : List Nat} {cst : Int} {s00 : State} {d : Nat}
theorem mo_new {idx t pl : Nat} {cl : vw_C} (hE : mmEn p s m args c cc own nL) (hX : mmCtx s00 s A) (hd : decode cc pc = .ok (.new idx, 3)) (hcl : mmCl[t]? = some cl) (hw1 : Cond.classLink own idx cl.1 ∈ mmTs) (hw2 : Cond.instantiable cl.1 cl.2.2 ∈ mmTs) (hw3 : Cond.initialized cl.1 ∈ mmTs) (hk : ∀ ls st μ, κ ls st μ → mmPt p l e R s m args below meth c QW nL D A b X1 X2 ids0 ad0 (pc + 3) ls st μ) (h : mmStep C J Q (.new idx, [t, pl], cst) κ ls st μ) : mmPt p l e R s m args below meth c QW nL D A b X1 X2 ids0 ad0 pc ls st μ := by
  obtain ⟨hbc, hbs, hko, h⟩ := h
  intro ids ad ca tys H locs cells slots la I ho hl L rc rs
  obtain ⟨hP, hD, hS, hK, hO, -⟩ := id I
  have ht : t ≠ 1301 ∧ t ≠ 1302 := by have := (mm_koL hko).2; omega
  have hn := mmCl_n t cl hcl
  refine va_new (ci := t) (fs := (List.range (mmKn t)).map fun f => if mmKt t f = 3 then Value.null else .int 0) (C := cl.1) (T := cl.2.1) (N := cl.2.2) hE.1 hE.2.1 hE.2.2.2.2 (mm_hin t cl hcl) (mmTy t) (mm_ty t cl hcl) hE.2.2.2.1 (hE.2.2.2.2 _ hw1) (hE.2.2.2.2 _ hw2) (hE.2.2.2.2 _ hw3) hK hP hD hS hX.1 hcl (fun j hj => ?_) (by omega) (by omega) hd (fun q H1 hP1 hD1 hS1 => ?_)
  · rw [mm_def t cl hcl j hj]
    unfold vp_V
    rw [List.getD_eq_getElem?_getD, mmFs_get (by rw [hn]; exact hj)]
    rfl
  · have I' := I.push (t := t) ht (q := q) (cA := 0) (tys' := tys) (bc := μ.2.2.2.1 - 1) (bs := μ.2.2.2.2 - mmKn t) (fun _ _ h => h) (fun e => by rw [hko] at e; cases e) (x := .inr (t, (List.range (mmKn t)).map fun f => if mmKt t f = 3 then Value.null else .int 0)) (by
      rw [mmE_obj (c := t) hko]
      congr 2
      apply List.map_congr_left
      intro f _
      unfold mmFv
      simp only [mmUr_eq]
      rfl) hK hP1 hD1 hS1
    obtain ⟨k1, k2, k3, k4⟩ := mm_over (q := q) I ht.1 ho hl L
    have hW := hk _ _ _ h _ _ _ _ H1 locs (cells + 1) (slots + cl.2.2) la I' k1 k2 k3 (by show _ + (_ - 1) ≤ _; omega) (by show _ + (_ - mmKn t) ≤ _; omega)
    rw [k4] at hW
    exact hW
theorem mo_newarrayI {t : Nat} (hE : mmEn p s m args c cc own nL) (hX : mmCtx s00 s A) (hd : decode cc pc = .ok (.newarray .int, 2)) (hke : mmKe t = 0) (hw1 : Cond.arrayClass .int ∈ mmTs) (hk : ∀ ls st μ, κ ls st μ → mmPt p l e R s m args below meth c QW nL D A b X1 X2 ids0 ad0 (pc + 2) ls st μ) (h : mmStep C J Q (.newarray .int, [t], cst) κ ls st μ) : mmPt p l e R s m args below meth c QW nL D A b X1 X2 ids0 ad0 pc ls st μ := by
  obtain ⟨z, st, rfl, rfl, hbc, hbs, h⟩ := mmPi_inv h
  intro ids ad ca tys H locs cells slots la I ho hl L rc rs
  obtain ⟨hz, ho9⟩ := List.forall_mem_cons.mp ho
  obtain ⟨hP, hD, hS, hK, hO, -⟩ := id I
  have hkl : mmKe t < 5 := by omega
  have ht : t ≠ 1301 ∧ t ≠ 1302 := ⟨fun e1 => by rw [e1, mm_ke1301] at hkl; omega, fun e1 => by rw [e1, mm_ke1302] at hkl; omega⟩
  have hlr := mm_lenR t
  have hcl := mm_cl hlr.2
  have hb9 := mm_lenB t
  refine va_newa (atype := .int) hE.1 hE.2.1 (hE.2.2.2.2 _ hw1) (ty := .int) rfl hK hP hD hS hX.1 (N' := (mmLen t).toNat) (a0 := ((mmLen t).toNat, .inl (fun _ => 0))) (fun cA => rfl) (fun q => absurd ((mm_lt hlr.2 mmR32_0).mp q) (by omega)) hcl (by show (mmLen t).toNat * 4 ≤ _; omega) (by omega) (by omega) hd (fun q cA H1 hK1 hP1 hD1 hS1 => ?_)
  have I' := I.push (t := t) ht (q := q) (cA := cA) (tys' := tys ++ [(cA, .int)]) (bc := μ.2.2.2.1 - 1) (bs := μ.2.2.2.2 - (mmLen t).toNat) (fun i x h => by rw [List.getElem?_append_left (List.getElem?_eq_some_iff.mp h).1]; exact h) (fun _ => ⟨hkl, tys.length, by rw [hke]; simp [mmFt]⟩) (x := .inl (cA, (mmLen t).toNat, .inl (fun _ => 0))) (by
      rw [mmE_arr (mm_keko hkl), mmAc_i (by show mmKe t < 2; omega)]
      simp only [mmUr_eq]
      rw [mmAp_eq]
      rfl) hK1 hP1 hD1 hS1
  obtain ⟨k1, k2, k3, k4⟩ := mm_over (q := q) I ht.1 ho9 hl L
  have hW := hk _ _ _ h _ _ _ _ H1 locs (cells + 1) (slots + (mmLen t).toNat) la I' k1 k2 k3 (by show _ + (_ - 1) ≤ _; omega) (by show _ + (_ - (mmLen t).toNat) ≤ _; omega)
  rw [k4] at hW
  exact hW
theorem mo_newarrayZ {t : Nat} (hE : mmEn p s m args c cc own nL) (hX : mmCtx s00 s A) (hd : decode cc pc = .ok (.newarray .boolean, 2)) (hke : mmKe t = 1) (hw1 : Cond.arrayClass .boolean ∈ mmTs) (hk : ∀ ls st μ, κ ls st μ → mmPt p l e R s m args below meth c QW nL D A b X1 X2 ids0 ad0 (pc + 2) ls st μ) (h : mmStep C J Q (.newarray .boolean, [t], cst) κ ls st μ) : mmPt p l e R s m args below meth c QW nL D A b X1 X2 ids0 ad0 pc ls st μ := by
  obtain ⟨z, st, rfl, rfl, hbc, hbs, h⟩ := mmPi_inv h
  intro ids ad ca tys H locs cells slots la I ho hl L rc rs
  obtain ⟨hz, ho9⟩ := List.forall_mem_cons.mp ho
  obtain ⟨hP, hD, hS, hK, hO, -⟩ := id I
  have hkl : mmKe t < 5 := by omega
  have ht : t ≠ 1301 ∧ t ≠ 1302 := ⟨fun e1 => by rw [e1, mm_ke1301] at hkl; omega, fun e1 => by rw [e1, mm_ke1302] at hkl; omega⟩
  have hlr := mm_lenR t
  have hcl := mm_cl hlr.2
  have hb9 := mm_lenB t
  refine va_newa (atype := .boolean) hE.1 hE.2.1 (hE.2.2.2.2 _ hw1) (ty := .boolean) rfl hK hP hD hS hX.1 (N' := (mmLen t).toNat) (a0 := ((mmLen t).toNat, .inl (fun _ => 0))) (fun cA => rfl) (fun q => absurd ((mm_lt hlr.2 mmR32_0).mp q) (by omega)) hcl (by show (mmLen t).toNat * 1 ≤ _; omega) (by omega) (by omega) hd (fun q cA H1 hK1 hP1 hD1 hS1 => ?_)
  have I' := I.push (t := t) ht (q := q) (cA := cA) (tys' := tys ++ [(cA, .boolean)]) (bc := μ.2.2.2.1 - 1) (bs := μ.2.2.2.2 - (mmLen t).toNat) (fun i x h => by rw [List.getElem?_append_left (List.getElem?_eq_some_iff.mp h).1]; exact h) (fun _ => ⟨hkl, tys.length, by rw [hke]; simp [mmFt]⟩) (x := .inl (cA, (mmLen t).toNat, .inl (fun _ => 0))) (by
      rw [mmE_arr (mm_keko hkl), mmAc_i (by show mmKe t < 2; omega)]
      simp only [mmUr_eq]
      rw [mmAp_eq]
      rfl) hK1 hP1 hD1 hS1
  obtain ⟨k1, k2, k3, k4⟩ := mm_over (q := q) I ht.1 ho9 hl L
  have hW := hk _ _ _ h _ _ _ _ H1 locs (cells + 1) (slots + (mmLen t).toNat) la I' k1 k2 k3 (by show _ + (_ - 1) ≤ _; omega) (by show _ + (_ - (mmLen t).toNat) ≤ _; omega)
  rw [k4] at hW
  exact hW
theorem mo_newarrayJ {t : Nat} (hE : mmEn p s m args c cc own nL) (hX : mmCtx s00 s A) (hd : decode cc pc = .ok (.newarray .long, 2)) (hke : mmKe t = 2) (hw1 : Cond.arrayClass .long ∈ mmTs) (hk : ∀ ls st μ, κ ls st μ → mmPt p l e R s m args below meth c QW nL D A b X1 X2 ids0 ad0 (pc + 2) ls st μ) (h : mmStep C J Q (.newarray .long, [t], cst) κ ls st μ) : mmPt p l e R s m args below meth c QW nL D A b X1 X2 ids0 ad0 pc ls st μ := by
  obtain ⟨z, st, rfl, rfl, hbc, hbs, h⟩ := mmPi_inv h
  intro ids ad ca tys H locs cells slots la I ho hl L rc rs
  obtain ⟨hz, ho9⟩ := List.forall_mem_cons.mp ho
  obtain ⟨hP, hD, hS, hK, hO, -⟩ := id I
  have hkl : mmKe t < 5 := by omega
  have ht : t ≠ 1301 ∧ t ≠ 1302 := ⟨fun e1 => by rw [e1, mm_ke1301] at hkl; omega, fun e1 => by rw [e1, mm_ke1302] at hkl; omega⟩
  have hlr := mm_lenR t
  have hcl := mm_cl hlr.2
  have hb9 := mm_lenB t
  refine va_newa (atype := .long) hE.1 hE.2.1 (hE.2.2.2.2 _ hw1) (ty := .long) rfl hK hP hD hS hX.1 (N' := (mmLen t).toNat) (a0 := ((mmLen t).toNat, .inr (.inl (fun _ => 0)))) (fun cA => rfl) (fun q => absurd ((mm_lt hlr.2 mmR32_0).mp q) (by omega)) hcl (by show (mmLen t).toNat * 8 ≤ _; omega) (by omega) (by omega) hd (fun q cA H1 hK1 hP1 hD1 hS1 => ?_)
  have I' := I.push (t := t) ht (q := q) (cA := cA) (tys' := tys ++ [(cA, .long)]) (bc := μ.2.2.2.1 - 1) (bs := μ.2.2.2.2 - (mmLen t).toNat) (fun i x h => by rw [List.getElem?_append_left (List.getElem?_eq_some_iff.mp h).1]; exact h) (fun _ => ⟨hkl, tys.length, by rw [hke]; simp [mmFt]⟩) (x := .inl (cA, (mmLen t).toNat, .inr (.inl (fun _ => 0)))) (by
      rw [mmE_arr (mm_keko hkl), mmAc_l hke]
      simp only [mmUr_eq]
      rw [mmAp_eq]
      rfl) hK1 hP1 hD1 hS1
  obtain ⟨k1, k2, k3, k4⟩ := mm_over (q := q) I ht.1 ho9 hl L
  have hW := hk _ _ _ h _ _ _ _ H1 locs (cells + 1) (slots + (mmLen t).toNat) la I' k1 k2 k3 (by show _ + (_ - 1) ≤ _; omega) (by show _ + (_ - (mmLen t).toNat) ≤ _; omega)
  rw [k4] at hW
  exact hW
theorem mo_anewarray {idx : Nat} (hE : mmEn p s m args c cc own nL) (hX : mmCtx s00 s A) (hd : decode cc pc = .ok (.anewarray idx, 3)) (hw1 : Cond.classLink own idx "PostStones$Row" ∈ mmTs) (hw2 : va_AO "PostStones$Row" s00) (hk : ∀ ls st μ, κ ls st μ → mmPt p l e R s m args below meth c QW nL D A b X1 X2 ids0 ad0 (pc + 3) ls st μ) (h : mmStep C J Q (.anewarray idx, pay, cst) κ ls st μ) : mmPt p l e R s m args below meth c QW nL D A b X1 X2 ids0 ad0 pc ls st μ := by
  obtain ⟨z, st, rfl, rfl, hbc, hbs, h⟩ := mmPi_inv h
  intro ids ad ca tys H locs cells slots la I ho hl L rc rs
  obtain ⟨hz, ho9⟩ := List.forall_mem_cons.mp ho
  obtain ⟨hP, hD, hS, hK, hO, -⟩ := id I
  have hkl : mmKe 1107 < 5 := by rw [mmKe_1107]; omega
  have hlr := mm_lenR 1107
  have hcl := mm_cl hlr.2
  have hb9 := mm_lenB 1107
  refine va_newq hE.1 hE.2.1 hE.2.2.2.1 (hE.2.2.2.2 _ hw1) (va_AO.moved hX.2.2.2.2.1 hw2) hK hP hD hS hX.1 (N' := (mmLen 1107).toNat) (fun q => absurd ((mm_lt hlr.2 mmR32_0).mp q) (by omega)) hcl (by omega) (by omega) (by omega) hd (fun q cA H1 hK1 hP1 hD1 hS1 => ?_)
  have I' := I.push (t := 1107) (by omega) (q := q) (cA := cA) (tys' := tys ++ [(cA, .object "PostStones$Row")]) (bc := μ.2.2.2.1 - 1) (bs := μ.2.2.2.2 - (mmLen 1107).toNat) (fun i x h => by rw [List.getElem?_append_left (List.getElem?_eq_some_iff.mp h).1]; exact h) (fun _ => ⟨hkl, tys.length, by rw [mmKe_1107]; simp [mmFt]⟩) (x := .inl (cA, (mmLen 1107).toNat, .inr (.inr (.inr (.inr (fun _ => none)))))) (by
      rw [mmE_arr (mm_keko hkl), mmAc_r (by show 2 < mmKe 1107; rw [mmKe_1107]; omega)]
      simp only [mmUr_eq]
      rw [mmAp_eq]
      rfl) hK1 hP1 hD1 hS1
  obtain ⟨k1, k2, k3, k4⟩ := mm_over (t := 1107) (q := q) I (by omega) ho9 hl L
  have hW := hk _ _ _ h _ _ _ _ H1 locs (cells + 1) (slots + (mmLen 1107).toNat) la I' k1 k2 k3 (by show _ + (_ - 1) ≤ _; omega) (by show _ + (_ - (mmLen 1107).toNat) ≤ _; omega)
  rw [k4] at hW
  exact hW
theorem mo_aastore (hE : mmEn p s m args c cc own nL) (hX : mmCtx s00 s A) (hd : decode cc pc = .ok (.aastore, 1)) (hk : ∀ ls st μ, κ ls st μ → mmPt p l e R s m args below meth c QW nL D A b X1 X2 ids0 ad0 (pc + 1) ls st μ) (h : mmStep C J Q (.aastore, pay, cst) κ ls st μ) : mmPt p l e R s m args below meth c QW nL D A b X1 X2 ids0 ad0 pc ls st μ := by
  obtain ⟨v, st, rfl, h⟩ := mmPo_inv h
  obtain ⟨i, st, rfl, h⟩ := mmPi_inv h
  obtain ⟨o, st, rfl, hke, hkv, h0, h1, h⟩ := mmPo_inv h
  intro ids ad ca tys H locs cells slots la I ho hl L rc rs
  obtain ⟨hvv, ho7⟩ := List.forall_mem_cons.mp ho
  obtain ⟨hi, ho8⟩ := List.forall_mem_cons.mp ho7
  obtain ⟨hv, ho9⟩ := List.forall_mem_cons.mp ho8
  have hkl : mmKe o.1 < 5 := by omega
  have hin := mmOv_in hv (mm_keS hkl)
  have hinv := mmOv_in hvv (mm_koS hkv)
  obtain ⟨hP, hD, hS, hK, hO, -⟩ := id I
  obtain ⟨q0, hq, hw⟩ := mmW_get (ad := ad) (ca := ca) (μ := μ) hin
  obtain ⟨q1, hq1, hw1⟩ := mmW_get (ad := ad) (ca := ca) (μ := μ) hinv
  obtain ⟨-, t0, ht0⟩ := hO.2.2.1 o hin (mm_keko hkl)
  rw [mmE_arr (mm_keko hkl), mmAc_r (by omega)] at hw
  rw [mmE_obj hkv] at hw1
  have hi : mmR32 i := hi
  have hix : vp_in (Int32.ofInt i) (mmLen o.1).toNat := mm_in hi h0 (by omega)
  have hcl := mm_cl hi
  rw [hke] at ht0
  refine va_astq hE.1 hE.2.1 hK hP hD hS q0 t0 q1 5 (r := (RX5, TX5, 13)) hw ht0 hw1 rfl hix hd (fun H1 locs1 hP1 hD1 hS1 => ?_)
  have e : va_up (fun j : Nat => (μ.2.1 o.1 o.2 j).map ad) (Int32.ofInt i).toNatClampNeg (some (ad v)) = fun j : Nat => (mmU μ.2.1 o.1 o.2 i (some v) o.1 o.2 j).map ad := by
    rw [hcl]
    funext j
    unfold va_up
    rw [mmU_eq]
    by_cases e : j = i.toNat
    · rw [if_pos e, if_pos (by omega)]; rfl
    · rw [if_neg e, if_neg (by omega)]
  rw [e] at hP1 hD1
  exact hk _ _ _ h ids ad ca tys H1 locs1 cells slots la (I.putR (k := i) (r := some v) hvv hq (by rw [mmE_arr (mm_keko hkl), mmAc_r (by omega)]) hP1 hD1 hS1) ho9 hl L rc rs
end MMN
