theorem mmInv.putRow {D : va_G} {A : Nat → Prop} {b : Nat} {X1 X2 : Int → Int} {ids0 : List mmO} {ad0 : mmO → Nat} {s : State} {ids : List mmO} {ad : mmO → Nat} {ca : mmO → ClassId} {tys : List (ClassId × FieldType)} {μ : mmM} {H H1 : Heap} {locs locs1 : List Loc} (I : mmInv D A b X1 X2 ids0 ad0 s ids ad ca tys μ H locs)
    {o : mmO} (ho : o ∈ ids) {g : Int → Int} (hz : ∀ k, (mmKe o.1 = 2 → mmR64 (g k)) ∧ (¬ mmKe o.1 = 2 → mmR32 (g k))) {q0 : Nat} (hq : ids[q0]? = some o) {x : va_E} (hx : mmE ad ca (mmUr μ.1 o.1 o.2 g, μ.2) o = x)
    (hP : va_P D mmCl ((mmW ids ad ca μ).set q0 (ad o, x)) H1) (hD : va_D A ((mmW ids ad ca μ).set q0 (ad o, x))) (hS : va_S A s.heap H1 locs1) : mmInv D A b X1 X2 ids0 ad0 s ids ad ca tys (mmUr μ.1 o.1 o.2 g, μ.2) H1 locs1 := by
  obtain ⟨h1, h2, h3, h4, h5, h6, h7, h8, h9⟩ := I
  subst hx
  have hW := mmW_set (ca := ca) (ad := ad) (μ := μ) (ν := (mmUr μ.1 o.1 o.2 g, μ.2)) h5.1 hq (fun o' ne => mmE_congr (fun k' => mmUr_ne ne k') (fun _ => rfl))
  rw [hW] at hP hD
  have hs := mm_scr h5 ho
  refine ⟨hP, hD, hS, h4, ⟨h5.1, h5.2.1, h5.2.2.1, fun o' ho' k' => ?_, h5.2.2.2.2⟩, h6, h7, ?_, ?_⟩
  · show (_ → mmR64 (mmUr μ.1 o.1 o.2 g o'.1 o'.2 k')) ∧ (_ → mmR32 (mmUr μ.1 o.1 o.2 g o'.1 o'.2 k'))
    unfold mmUr
    split
    · rename_i e
      rw [e.1]; exact hz k'
    · exact h5.2.2.2.1 o' ho' k'
  · rw [← h8]; funext k'
    exact mmUr_ne (f := μ.1) (g := g) (o := (1301, 0)) (fun q => hs.1 (by rw [← (Prod.mk.inj q).1])) k'
  · rw [← h9]; funext k'
    exact mmUr_ne (f := μ.1) (g := g) (o := (1302, 0)) (fun q => hs.2 (by rw [← (Prod.mk.inj q).1])) k'
/-- the script, where there is one -/
def mmScr (s : State) (A : Nat → Prop) (b : Nat) (X1 X2 : Int → Int) : Prop := ∃ (L : Nat) (xs : Nat → Int32), va_X b L xs s s.heap ∧ b < s.heap.size ∧ ¬ A b ∧ X2 0 = L ∧ L < 2147483648 ∧ ∀ j : Nat, j < L → X1 j = (xs j).toInt
def mmRk (cc : ByteArray) (pc : Nat) (rt : Option FieldType) (r : Option mmV) : Prop :=
  (∃ z : Int, r = some (.inl z) ∧ decode cc pc = .ok (.ireturn, 1) ∧ (rt = some .int ∨ (rt = some .boolean ∧ (z = 0 ∨ z = 1)))) ∨ (∃ z : Int, r = some (.inr (.inl z)) ∧ decode cc pc = .ok (.lreturn, 1) ∧ rt = some .long) ∨
  (∃ x : Option mmO, r = some (.inr (.inr x)) ∧ decode cc pc = .ok (.areturn, 1) ∧ ∃ n, rt = some (.object n)) ∨ (r = none ∧ decode cc pc = .ok (.return_, 1) ∧ rt = none)
section MMR
variable {p : Program} {l : Launch} {e : Env} {R : Room} {s : State} {m : MethodId} {args : Array Value} {below : List Frame} {meth : Method} {c : Code} {QW : State → Prop}
variable {cc : ByteArray} {own : String} {nL : Nat} {D : va_G} {A : Nat → Prop} {b : Nat} {X1 X2 : Int → Int} {ids0 : List mmO} {ad0 : mmO → Nat}
variable {C : Nat → List mmV → mmM → (Option mmV → mmM → Prop) → Prop} {J : Nat → List (Option mmV) → List mmV → mmM → Prop} {Q : Option mmV → mmM → Prop} {κ : List (Option mmV) → List mmV → mmM → Prop}
variable {pc : Nat} {ls : List (Option mmV)} {st : List mmV} {μ : mmM} {pay : List Nat} {cst : Int} {s00 : State} {d : Nat} {rt : Option FieldType}
theorem mo_copy {idx pl : Nat} (hE : mmEn p s m args c cc own nL) (hR : d + 1 ≤ R.frames ∧ 64 * (d + 1) ≤ R.locals) (hd : decode cc pc = .ok (.invokestatic idx, 3)) (hw1 : Cond.methodLink own idx arraycopyName ∈ mmTs) (hw2 : Cond.native arraycopyName ∈ mmTs) (hw3 : Cond.static arraycopyName ∈ mmTs) (hw4 : Cond.initialized "java/lang/System" ∈ mmTs)
    (hk : ∀ ls st μ, κ ls st μ → mmPt p l e R s m args below meth c QW nL D A b X1 X2 ids0 ad0 (pc + 3) ls st μ) (h : mmStep C J Q (.invokestatic idx, [12, pl], cst) κ ls st μ) : mmPt p l e R s m args below meth c QW nL D A b X1 X2 ids0 ad0 pc ls st μ := by
  obtain ⟨n, st, rfl, h⟩ := mmPi_inv h
  obtain ⟨dp, st, rfl, h⟩ := mmPi_inv h
  obtain ⟨dd, st, rfl, h⟩ := mmPo_inv h
  obtain ⟨sp, st, rfl, h⟩ := mmPi_inv h
  obtain ⟨o, st, rfl, h4, hkd, hko, hsp, hdp, hn, hb1, hb2, -, h⟩ := mmPo_inv h
  intro ids ad ca tys H locs cells slots la I ho hl L rc rs
  obtain ⟨vn, ho1⟩ := List.forall_mem_cons.mp ho
  obtain ⟨vdp, ho2⟩ := List.forall_mem_cons.mp ho1
  obtain ⟨vd, ho3⟩ := List.forall_mem_cons.mp ho2
  obtain ⟨vsp, ho4⟩ := List.forall_mem_cons.mp ho3
  obtain ⟨vo, ho9⟩ := List.forall_mem_cons.mp ho4
  have vn : mmR32 n := vn
  have vdp : mmR32 dp := vdp
  have vsp : mmR32 sp := vsp
  have hcat := mm_cat (ad := ad) st
  have hkld : mmKe dd.1 < 5 := by omega
  have hklo : mmKe o.1 < 5 := by omega
  have hind := mmOv_in vd (mm_keS hkld)
  have hino := mmOv_in vo (mm_keS hklo)
  obtain ⟨hP, hD, hS, hK, hO, -⟩ := id I
  obtain ⟨q0, hq0, hw0⟩ := mmW_get (ad := ad) (ca := ca) (μ := μ) hino
  obtain ⟨q1, hq1, hw9⟩ := mmW_get (ad := ad) (ca := ca) (μ := μ) hind
  obtain ⟨-, t0, ht0⟩ := hO.2.2.1 o hino (mm_keko hklo)
  obtain ⟨-, t1, ht1⟩ := hO.2.2.1 dd hind (mm_keko hkld)
  rw [mmE_arr (mm_keko hklo), mmAc_i (by omega)] at hw0
  rw [mmE_arr (mm_keko hkld), mmAc_i (by omega)] at hw9
  rw [hko] at ht0
  rw [hkd] at ht1
  have c1 := mm_cl vn
  have c2 := mm_cl vdp
  have c3 := mm_cl vsp
  refine va_copyi hE.1 hE.2.1 (by rw [hE.2.2.1]; exact L.2.1.symm) hE.2.2.2.1 (hE.2.2.2.2 _ hw1) (hE.2.2.2.2 _ hw2) (hE.2.2.2.2 _ hw3) (hE.2.2.2.2 _ hw4) hK hP hD hS q0 q1 t0 t1 hw0 hw9 ht0 ht1 rfl (fun q => absurd ((mm_lt vsp mmR32_0).mp q) (by omega)) (fun q => absurd ((mm_lt vdp mmR32_0).mp q) (by omega)) (fun q => absurd ((mm_lt vn mmR32_0).mp q) (by omega)) (by rw [c1, c3]; omega) (by rw [c1, c2]; omega) (fun _ _ => rfl) (by omega) (by show _ + (7 + 11) ≤ _; omega) hd (fun H1 locs1 hP1 hD1 hS1 => ?_)
  have ef : va_cpy (fun j : Nat => Int32.ofInt (μ.1 o.1 o.2 j)) (fun j : Nat => Int32.ofInt (μ.1 dd.1 dd.2 j)) (Int32.ofInt sp).toNatClampNeg (Int32.ofInt dp).toNatClampNeg (Int32.ofInt n).toNatClampNeg = fun j : Nat => Int32.ofInt (mmUr μ.1 dd.1 dd.2 (fun j => if dp ≤ j ∧ j < dp + n then μ.1 o.1 o.2 (sp + (j - dp)) else μ.1 dd.1 dd.2 j) dd.1 dd.2 j) := by
    rw [c1, c2, c3]
    funext j
    unfold va_cpy
    rw [mmUr_eq]
    by_cases e1 : dp ≤ j ∧ (j : Int) < dp + n
    · have e3 : ((sp.toNat + (j - dp.toNat) : Nat) : Int) = sp + (j - dp) := by omega
      rw [if_pos e1, if_pos (by omega)]
      exact congrArg (fun z => Int32.ofInt (μ.1 o.1 o.2 z)) e3
    · rw [if_neg e1, if_neg (by omega)]
  rw [ef] at hP1 hD1
  refine hk _ _ _ h ids ad ca tys H1 locs1 cells slots la (I.putRow hind (fun k => ⟨fun e9 => by omega, fun _ => ?_⟩) hq1 (by rw [mmE_arr (mm_keko hkld), mmAc_i (by omega)]) hP1 hD1 hS1) ho9 hl L rc rs
  show mmR32 (if _ then _ else _)
  split
  · exact (hO.2.2.2.1 o hino _).2 (by omega)
  · exact (hO.2.2.2.1 dd hind _).2 (by omega)
theorem mo_ialoadX {q9 : Nat} {r9 : List Nat} (hE : mmEn p s m args c cc own nL) (hSc : mmScr s A b X1 X2) (hd : decode cc pc = .ok (.iaload, 1))
    (hk : ∀ ls st μ, κ ls st μ → mmPt p l e R s m args below meth c QW nL D A b X1 X2 ids0 ad0 (pc + 1) ls st μ) (h : mmStep C J Q (.iaload, q9 :: r9, cst) κ ls st μ) : mmPt p l e R s m args below meth c QW nL D A b X1 X2 ids0 ad0 pc ls st μ := by
  obtain ⟨i, st, rfl, h⟩ := mmPi_inv h
  obtain ⟨o, st, rfl, rfl, h0, h1, h⟩ := mmPo_inv h
  intro ids ad ca tys H locs cells slots la I ho hl L rc rs
  obtain ⟨hi, ho8⟩ := List.forall_mem_cons.mp ho
  obtain ⟨hv, ho9⟩ := List.forall_mem_cons.mp ho8
  obtain ⟨LL, xs, x1, x2, x3, x4, x5, x6⟩ := hSc
  obtain ⟨hP, hD, hS, hK, hO, i6, i7, i8, i9⟩ := id I
  have hi : mmR32 i := hi
  have hcl := mm_cl hi
  have e2 : μ.1 1302 0 0 = LL := by rw [← x4, ← i9]
  have hlt : i.toNat < LL := by omega
  have e1 : μ.1 1301 0 i = (xs i.toNat).toInt := by
    rw [← x6 i.toNat hlt, Int.toNat_of_nonneg h0, ← i8]
  subst i6
  refine va_sld hE.1 hE.2.1 x1 x2 x3 hS (mm_in hi h0 (by omega)) hd ?_
  rw [hcl]
  have hW := hk _ _ _ h ids ad ca tys H locs cells slots la I (List.forall_mem_cons.mpr ⟨by rw [e1]; exact mm_r32 _, ho9⟩) hl L rc rs
  rw [e1] at hW
  simp only [List.map_cons, mmCv, Int32.ofInt_toInt] at hW
  exact hW
theorem mo_arraylengthX {q9 : Nat} {r9 : List Nat} (hE : mmEn p s m args c cc own nL) (hSc : mmScr s A b X1 X2) (hd : decode cc pc = .ok (.arraylength, 1))
    (hk : ∀ ls st μ, κ ls st μ → mmPt p l e R s m args below meth c QW nL D A b X1 X2 ids0 ad0 (pc + 1) ls st μ) (h : mmStep C J Q (.arraylength, q9 :: r9, cst) κ ls st μ) : mmPt p l e R s m args below meth c QW nL D A b X1 X2 ids0 ad0 pc ls st μ := by
  obtain ⟨o, st, rfl, e0, h9⟩ := mmPo_inv h
  subst e0
  intro ids ad ca tys H locs cells slots la I ho hl L rc rs
  obtain ⟨hv, ho9⟩ := List.forall_mem_cons.mp ho
  obtain ⟨LL, xs, x1, x2, x3, x4, x5, x6⟩ := hSc
  obtain ⟨hP, hD, hS, hK, hO, i6, i7, i8, i9⟩ := id I
  have e2 : μ.1 1302 0 0 = LL := by rw [← x4, ← i9]
  subst i6
  refine va_slen hE.1 hE.2.1 x1 x2 x3 hS hd ?_
  have hW := hk _ _ _ h9 ids ad ca tys H locs cells slots la I (List.forall_mem_cons.mpr ⟨by show mmR32 _; rw [e2]; unfold mmR32; omega, ho9⟩) hl L rc rs
  rw [e2] at hW
  simp only [List.map_cons, mmCv, Int32.ofInt_eq_ofNat] at hW
  exact hW
/-- what the method's end gives -/
def mmRet (p : Program) (l : Launch) (e : Env) (R : Room) (s : State) (m : MethodId) (args : Array Value) (below : List Frame) (meth : Method) (c : Code) (QW : State → Prop) (cc : ByteArray) (D : va_G) (A : Nat → Prop) (b : Nat) (X1 X2 : Int → Int) (ids0 : List mmO) (ad0 : mmO → Nat) (rt : Option FieldType) (Q : Option mmV → mmM → Prop) : Prop :=
  ∀ (r : Option mmV) (ν : mmM) (ids : List mmO) (ad : mmO → Nat) (ca : mmO → ClassId) (tys : List (ClassId × FieldType)) (H : Heap) (locs : List Loc) (cells slots : Nat) (la : Array Slot) (pc : Nat), Q r ν → mmInv D A b X1 X2 ids0 ad0 s ids ad ca tys ν H locs → (∀ v, r = some v → mmOv ids v) →
    cells + ν.2.2.2.1 ≤ R.cells → slots + ν.2.2.2.2 ≤ R.slots → mmRk cc pc rt r → W p l e R s m args below meth c H locs cells slots QW (F0 m pc la (r.toList.map (mmCv ad)))
theorem mo_ireturn (hRt : mmRet p l e R s m args below meth c QW cc D A b X1 X2 ids0 ad0 rt Q) (hd : decode cc pc = .ok (.ireturn, 1)) (hrt : rt = some .int ∨ (rt = some .boolean ∧ pay.headD 0 = 1)) (h : mmStep C J Q (.ireturn, pay, cst) κ ls st μ) : mmPt p l e R s m args below meth c QW nL D A b X1 X2 ids0 ad0 pc ls st μ := by
  intro ids ad ca tys H locs cells slots la I ho hl L rc rs
  simp only [mmStep] at h
  split at h
  · rename_i z
    refine hRt (some (.inl z)) μ ids ad ca tys H locs cells slots la pc h.2 I (fun v hv => by cases hv; exact ho _ List.mem_cons_self) rc rs (Or.inl ⟨z, rfl, hd, ?_⟩)
    rcases hrt with q | ⟨q1, q2⟩
    · exact Or.inl q
    · exact Or.inr ⟨q1, h.1 q2⟩
  · exact h.elim
theorem mo_lreturn (hRt : mmRet p l e R s m args below meth c QW cc D A b X1 X2 ids0 ad0 rt Q) (hd : decode cc pc = .ok (.lreturn, 1)) (hrt : rt = some .long) (h : mmStep C J Q (.lreturn, pay, cst) κ ls st μ) : mmPt p l e R s m args below meth c QW nL D A b X1 X2 ids0 ad0 pc ls st μ := by
  intro ids ad ca tys H locs cells slots la I ho hl L rc rs
  simp only [mmStep] at h
  split at h
  · rename_i z
    exact hRt (some (.inr (.inl z))) μ ids ad ca tys H locs cells slots la pc h I (fun v hv => by cases hv; exact ho _ List.mem_cons_self) rc rs (Or.inr (Or.inl ⟨z, rfl, hd, hrt⟩))
  · exact h.elim
theorem mo_areturn (hRt : mmRet p l e R s m args below meth c QW cc D A b X1 X2 ids0 ad0 rt Q) (hd : decode cc pc = .ok (.areturn, 1)) (hrt : ∃ n, rt = some (.object n)) (h : mmStep C J Q (.areturn, pay, cst) κ ls st μ) : mmPt p l e R s m args below meth c QW nL D A b X1 X2 ids0 ad0 pc ls st μ := by
  intro ids ad ca tys H locs cells slots la I ho hl L rc rs
  simp only [mmStep] at h
  split at h
  · rename_i z
    exact hRt (some (.inr (.inr z))) μ ids ad ca tys H locs cells slots la pc h I (fun v hv => by cases hv; exact ho _ List.mem_cons_self) rc rs (Or.inr (Or.inr (Or.inl ⟨z, rfl, hd, hrt⟩)))
  · exact h.elim
theorem mo_return (hRt : mmRet p l e R s m args below meth c QW cc D A b X1 X2 ids0 ad0 rt Q) (hd : decode cc pc = .ok (.return_, 1)) (hrt : rt = none) (h : mmStep C J Q (.return_, pay, cst) κ ls st μ) : mmPt p l e R s m args below meth c QW nL D A b X1 X2 ids0 ad0 pc ls st μ := by
  intro ids ad ca tys H locs cells slots la I ho hl L rc rs
  simp only [mmStep] at h
  split at h
  · exact hRt none μ ids ad ca tys H locs cells slots la pc h I (fun v hv => by cases hv) rc rs (Or.inr (Or.inr (Or.inr ⟨rfl, hd, hrt⟩)))
  · exact h.elim
end MMR
/-- the locals with which a method begins -/
def mmWd : List mmV → Nat
  | [] => 0
  | v :: vs => (if mmIsL v then 2 else 1) + mmWd vs
theorem mmLs_len : ∀ {a : List mmV} {n : Nat}, mmWd a ≤ n → (mmLs n a).length = n
  | [], n, _ => by simp [mmLs]
  | .inl z :: a, n, h => by
    have h : 1 + mmWd a ≤ n := h
    show (mmLs (n - 1) a).length + 1 = n
    rw [mmLs_len (by omega)]; omega
  | .inr (.inl z) :: a, n, h => by
    have h : 2 + mmWd a ≤ n := h
    show (mmLs (n - 2) a).length + 1 + 1 = n
    rw [mmLs_len (by omega)]; omega
  | .inr (.inr z) :: a, n, h => by
    have h : 1 + mmWd a ≤ n := h
    show (mmLs (n - 1) a).length + 1 = n
    rw [mmLs_len (by omega)]; omega
theorem mmLs_lv {ad : mmO → Nat} : ∀ {a : List mmV} {n i : Nat}, mmLv ad i (mmLs n a) = lv_args i (a.map (mmCv ad))
  | [], n, i => by
    show mmLv ad i (List.replicate n none) = []
    induction n generalizing i with
    | zero => rfl
    | succ n ih => exact ih (i + 1)
  | .inl z :: a, n, i => by
    show (i, _) :: mmLv ad (i + 1) (mmLs (n - 1) a) = (i, _) :: lv_args (i + 1) _
    rw [mmLs_lv]
  | .inr (.inl z) :: a, n, i => by
    show (i, _) :: mmLv ad (i + 2) (mmLs (n - 2) a) = (i, _) :: lv_args (i + 2) _
    rw [mmLs_lv]
  | .inr (.inr none) :: a, n, i => by
    show (i, _) :: mmLv ad (i + 1) (mmLs (n - 1) a) = (i, _) :: lv_args (i + 1) _
    rw [mmLs_lv]
  | .inr (.inr (some z)) :: a, n, i => by
    show (i, _) :: mmLv ad (i + 1) (mmLs (n - 1) a) = (i, _) :: lv_args (i + 1) _
    rw [mmLs_lv]
theorem mmWd_lg {ad : mmO → Nat} : ∀ {a : List mmV}, (lg_sl (a.map (mmCv ad))).length = mmWd a
  | [] => rfl
  | v :: a => by
    have ih := mmWd_lg (ad := ad) (a := a)
    simp only [lg_sl, List.map_cons, List.flatMap_cons, List.length_append, mmWd, mmCv_cat] at ih ⊢
    rw [ih]
    cases mmIsL v <;> simp
theorem mmLs_mem {v : mmV} : ∀ {a : List mmV} {n : Nat}, some v ∈ mmLs n a → v ∈ a
  | [], n, h => by
    have := List.eq_of_mem_replicate (show some v ∈ List.replicate n none from h)
    cases this
  | .inl z :: a, n, h => by
    rcases List.mem_cons.mp (show some v ∈ some (Sum.inl z) :: mmLs (n - 1) a from h) with q | q
    · cases q; exact List.mem_cons_self
    · exact List.mem_cons_of_mem _ (mmLs_mem q)
  | .inr (.inl z) :: a, n, h => by
    rcases List.mem_cons.mp (show some v ∈ some (Sum.inr (Sum.inl z)) :: none :: mmLs (n - 2) a from h) with q | q
    · cases q; exact List.mem_cons_self
    · rcases List.mem_cons.mp q with q | q
      · cases q
      · exact List.mem_cons_of_mem _ (mmLs_mem q)
  | .inr (.inr z) :: a, n, h => by
    rcases List.mem_cons.mp (show some v ∈ some (Sum.inr (Sum.inr z)) :: mmLs (n - 1) a from h) with q | q
    · cases q; exact List.mem_cons_self
    · exact List.mem_cons_of_mem _ (mmLs_mem q)
