/-! 78: the making of the search's rows -/
def mnN : List mmO := (800, 0) :: (List.range 6).map (fun i => (850, i))
theorem mnN_mem (o : mmO) : o ∈ mnN ↔ (o.1 = 800 ∧ o.2 = 0) ∨ (o.1 = 850 ∧ o.2 < 6) := by
  obtain ⟨t, i⟩ := o
  unfold mnN
  rw [List.mem_cons, List.mem_map]
  constructor
  · rintro (h | ⟨j, hj, h⟩)
    · cases h; exact Or.inl ⟨rfl, rfl⟩
    · cases h; exact Or.inr ⟨rfl, List.mem_range.mp hj⟩
  · rintro (⟨h1, h2⟩ | ⟨h1, h2⟩)
    · left; exact Prod.ext h1 h2
    · right; exact ⟨i, List.mem_range.mpr h2, Prod.ext h1.symm rfl⟩
/-- the memory with the rows made -/
def mnM (μ : mmM) : mmM := (fun t i k => if (t = 850 ∧ i < 6) ∨ (t = 800 ∧ i = 0) then 0 else μ.1 t i k,
  fun t i k => if t = 800 ∧ i = 0 then (if 0 ≤ k ∧ k < 6 then some (850, k.toNat) else none) else if t = 850 ∧ i < 6 then none else μ.2.1 t i k,
  fun t => if t = 800 then 1 else if t = 850 then 6 else μ.2.2.1 t, μ.2.2.2.1 - 7, μ.2.2.2.2 - 1206)
def mnA (ad : mmO → Nat) (q : Nat) (r : Nat → Nat) (o : mmO) : Nat := if o = (800, 0) then q else if o.1 = 850 then r o.2 else ad o
def mnC (ca : mmO → ClassId) (cA cy : ClassId) (o : mmO) : ClassId := if o = (800, 0) then cA else if o.1 = 850 then cy else ca o
theorem mnA_8 {ad : mmO → Nat} {q : Nat} {r : Nat → Nat} : mnA ad q r (800, 0) = q := if_pos rfl
theorem mnA_r {ad : mmO → Nat} {q : Nat} {r : Nat → Nat} {i : Nat} : mnA ad q r (850, i) = r i := by
  unfold mnA
  rw [if_neg (fun h => by have := (Prod.mk.inj h).1; omega), if_pos rfl]
theorem mnA_o {ad : mmO → Nat} {q : Nat} {r : Nat → Nat} {o : mmO} (h1 : ¬ o.1 = 850) (h2 : ¬ o = (800, 0)) : mnA ad q r o = ad o := by
  unfold mnA
  rw [if_neg h2, if_neg h1]
theorem mnC_8 {ca : mmO → ClassId} {cA cy : ClassId} : mnC ca cA cy (800, 0) = cA := if_pos rfl
theorem mnC_r {ca : mmO → ClassId} {cA cy : ClassId} {i : Nat} : mnC ca cA cy (850, i) = cy := by
  unfold mnC
  rw [if_neg (fun h => by have := (Prod.mk.inj h).1; omega), if_pos rfl]
theorem mnC_o {ca : mmO → ClassId} {cA cy : ClassId} {o : mmO} (h1 : ¬ o.1 = 850) (h2 : ¬ o = (800, 0)) : mnC ca cA cy o = ca o := by
  unfold mnC
  rw [if_neg h2, if_neg h1]
theorem mnM_I {μ : mmM} {t i : Nat} {k : Int} (h : (t = 850 ∧ i < 6) ∨ (t = 800 ∧ i = 0)) : (mnM μ).1 t i k = 0 := if_pos h
theorem mnM_Io {μ : mmM} {t i : Nat} {k : Int} (h : ¬ ((t = 850 ∧ i < 6) ∨ (t = 800 ∧ i = 0))) : (mnM μ).1 t i k = μ.1 t i k := if_neg h
theorem mnM_R8 {μ : mmM} {k : Int} : (mnM μ).2.1 800 0 k = if 0 ≤ k ∧ k < 6 then some (850, k.toNat) else none := by
  show (if (800 : Nat) = 800 ∧ (0 : Nat) = 0 then (if 0 ≤ k ∧ k < 6 then some (850, k.toNat) else none) else if (800 : Nat) = 850 ∧ (0 : Nat) < 6 then none else μ.2.1 800 0 k) = _
  rw [if_pos ⟨rfl, rfl⟩]
theorem mnM_Rr {μ : mmM} {i : Nat} {k : Int} (h : i < 6) : (mnM μ).2.1 850 i k = none := by
  show (if (850 : Nat) = 800 ∧ i = 0 then (if 0 ≤ k ∧ k < 6 then some (850, k.toNat) else none) else if (850 : Nat) = 850 ∧ i < 6 then none else μ.2.1 850 i k) = _
  rw [if_neg (by omega), if_pos ⟨rfl, h⟩]
theorem mnM_Ro {μ : mmM} {t i : Nat} {k : Int} (h : ¬ ((t = 850 ∧ i < 6) ∨ (t = 800 ∧ i = 0))) : (mnM μ).2.1 t i k = μ.2.1 t i k := by
  show (if t = 800 ∧ i = 0 then (if 0 ≤ k ∧ k < 6 then some (850, k.toNat) else none) else if t = 850 ∧ i < 6 then none else μ.2.1 t i k) = _
  rw [if_neg (fun q => h (Or.inr q)), if_neg (fun q => h (Or.inl q))]
theorem aw_int : Cond.arrayClass .int ∈ mmTs := mmWb_in (k := 175) (by decide +kernel)
theorem cw_mna : Cond.classLink "PostStones$Search" 11 "[[I" ∈ mmTs := mmWb_in (k := 491) (by decide +kernel)
theorem fl_78 : Cond.fieldLink "PostStones$Search" 13 "PostStones$Search" "lists" "[[I" ∈ mmTs := mmWb_in (k := 493) (by decide +kernel)
theorem ol_78 : Cond.methodLink "PostStones$Search" 3 Lib.objectInit ∈ mmTs := mmWb_in (k := 490) (by decide +kernel)
theorem oi_78 : Cond.instanceMethod Lib.objectInit ∈ mmTs := mmWb_in (k := 132) (by decide +kernel)
theorem oc_78 : Cond.code Lib.objectInit ⟨#[0xb1]⟩ 1 none ∈ mmTs := mmWb_in (k := 133) (by decide +kernel)
section S8944
variable {p : Program} {l : Launch} {e : Env} {RR : Room} {s : State} {m : MethodId} {args : Array Value} {below : List Frame} {meth : Method} {c : Code} {QW : State → Prop}
variable {cc : ByteArray} {own : String} {nL : Nat} {D : va_G} {A : Nat → Prop} {b : Nat} {X1 X2 : Int → Int} {ids0 : List mmO} {ad0 : mmO → Nat}
variable {ls : List (Option mmV)} {st : List mmV} {μ : mmM} {s00 : State} {pc d idx : Nat} {n : String} {L : List Int} {w i : Int}
theorem mn_8 {ad : mmO → Nat} {ca : mmO → ClassId} {q : Nat} {r : Nat → Nat} {cA cy : ClassId} : mmE (mnA ad q r) (mnC ca cA cy) (mnM μ) (800, 0) = .inl (cA, 6, .inr (.inr (.inr (.inr (fun i => if i < 6 then some (r i) else none))))) := by
  have e6 : (mmLen 800).toNat = 6 := by rw [mmLen_800]; rfl
  have ef : (fun j : Nat => ((mnM μ).2.1 800 0 (j : Int)).map (mnA ad q r)) = fun i : Nat => if i < 6 then some (r i) else none := by
    funext j
    rw [mnM_R8]
    by_cases h : j < 6
    · rw [if_pos (by omega), if_pos h]
      show some (mnA ad q r (850, j)) = _
      rw [mnA_r]
    · rw [if_neg (by omega), if_neg h]
      rfl
  rw [mmE_arr (mm_keko (by rw [mmKe_800]; omega)), mmAc_r (by show 2 < mmKe 800; rw [mmKe_800]; omega), mnC_8]
  show (Sum.inl (cA, (mmLen 800).toNat, Sum.inr (Sum.inr (Sum.inr (Sum.inr (fun j : Nat => ((mnM μ).2.1 800 0 (j : Int)).map (mnA ad q r)))))) : va_E) = _
  rw [e6, ef]
theorem mn_r {ad : mmO → Nat} {ca : mmO → ClassId} {q : Nat} {r : Nat → Nat} {cA cy : ClassId} {i : Nat} (h6 : i < 6) : mmE (mnA ad q r) (mnC ca cA cy) (mnM μ) (850, i) = .inl (cy, 200, .inl fun _ => 0) := by
  have e6 : (mmLen 850).toNat = 200 := by rw [mmLen_850]; rfl
  have ef : (fun j : Nat => Int32.ofInt ((mnM μ).1 850 i (j : Int))) = fun _ : Nat => (0 : Int32) := by
    funext j
    rw [mnM_I (Or.inl ⟨rfl, h6⟩)]
    rfl
  rw [mmE_arr (mm_keko (by rw [mmKe_850]; omega)), mmAc_i (by show mmKe 850 < 2; rw [mmKe_850]; omega), mnC_r]
  show (Sum.inl (cy, (mmLen 850).toNat, Sum.inl (fun j : Nat => Int32.ofInt ((mnM μ).1 850 i (j : Int)))) : va_E) = _
  rw [e6, ef]
theorem mn_lay {ad : mmO → Nat} {ca : mmO → ClassId} {q : Nat} {r : Nat → Nat} {cA cy : ClassId} {f : Nat → va_E} : mnN.map (fun o => (mnA ad q r o, mmE (mnA ad q r) (mnC ca cA cy) (mnM μ) o)) = [(q, .inl (cA, 6, .inr (.inr (.inr (.inr (fun i => if i < 6 then some (r i) else none))))))] ++ va_pl ([] ++ (List.range 6).map r) (vr_up f ((List.range 6).map r) (.inl (cy, 200, .inl fun _ => 0))) := by
  unfold mnN va_pl
  rw [List.map_cons, List.singleton_append, List.nil_append, List.map_map, List.map_map, mn_8, mnA_8]
  refine congrArg _ (List.map_congr_left fun i hi => ?_)
  show (mnA ad q r (850, i), mmE (mnA ad q r) (mnC ca cA cy) (mnM μ) (850, i)) = (r i, vr_up f ((List.range 6).map r) (.inl (cy, 200, .inl fun _ => 0)) (r i))
  rw [vr_up_in (List.mem_map.mpr ⟨i, hi, rfl⟩), mnA_r, mn_r (List.mem_range.mp hi)]
theorem mo_mna (hE : mmEn p s m args c cc "PostStones$Search" nL) (hX : mmCtx s00 s A) (h00 : va_AOA .int s00) (hd : decode cc pc = .ok (.multianewarray 11 2, 4)) (c8 : μ.2.2.1 800 = 0) (c85 : μ.2.2.1 850 = 0) (hbc : 7 ≤ μ.2.2.2.1) (hbs : 1206 ≤ μ.2.2.2.2)
    (hk : mmPt p l e RR s m args below meth c QW nL D A b X1 X2 ids0 ad0 (pc + 4) ls (.inr (.inr (some (800, 0))) :: st) (mnM μ)) : mmPt p l e RR s m args below meth c QW nL D A b X1 X2 ids0 ad0 pc ls (.inl 200 :: .inl 6 :: st) μ := by
  intro ids ad ca tys H locs cells slots la I ho hl Lr rc rs
  obtain ⟨hz, ho8⟩ := List.forall_mem_cons.mp ho
  obtain ⟨hz, ho9⟩ := List.forall_mem_cons.mp ho8
  obtain ⟨hP, hD, hS, hK, hO, -⟩ := id I
  obtain ⟨o1, o2, o3, o4, o5⟩ := id hO
  have n85 : ∀ o ∈ ids, ¬ o.1 = 850 := fun o h q => by have := (o2 o).mp h; rw [q, c85] at this; omega
  have n80 : ∀ o ∈ ids, ¬ o.1 = 800 := fun o h q => by have := (o2 o).mp h; rw [q, c8] at this; omega
  have n8 : ∀ o ∈ ids, ¬ o = (800, 0) := fun o h q => n80 o h (by rw [q])
  have nn : ∀ o ∈ ids, ¬ ((o.1 = 850 ∧ o.2 < 6) ∨ (o.1 = 800 ∧ o.2 = 0)) := fun o h q => by
    rcases q with q | q
    · exact n85 o h q.1
    · exact n80 o h q.1
  obtain ⟨cy, kA, comp, hcy, hkA, hkd⟩ := Cond.arrayClass_spec (hE.2.2.2.2 _ aw_int)
  have hK0 : va_K D mmCl (tys ++ [(cy, .int)]) s := va_K.app hK ⟨hK.1, fun k x hx => by
    have hz : k < 1 := (List.getElem?_eq_some_iff.mp hx).1
    rw [show k = 0 by omega] at hx
    cases hx
    exact ⟨fun n z => ⟨fun k h => (by cases h), kA, hkA, comp, hkd⟩, hcy⟩⟩
  refine va_mna (X := mmW ids ad ca μ) (L := []) (f := fun _ => .inl (cy, 0, .inl fun _ => 0)) (ty := .int) (cy := cy) (z := (200, .inl fun _ => 0)) (n := Int32.ofInt 6) (k := Int32.ofInt 200) (N' := 6) (K' := 200) hE.1 hE.2.1 hE.2.2.2.1 (hE.2.2.2.2 _ cw_mna) (va_AOA.moved hX.2.2.2.2.1 h00) (hE.2.2.2.2 _ aw_int) hcy hK0 (by unfold va_pl; rw [List.map_nil, List.append_nil]; exact hP) (by unfold va_pl; rw [List.map_nil, List.append_nil]; exact hD) hS hX.1 (by decide) (by decide) (by decide) (by decide) (by decide) (by decide) (by decide) rfl rfl (by omega) (by omega) (fun c9 => ?_) hd (fun q r cA H1 hin _ hK1 hP1 hD1 hS1 => ?_)
  · show ({ cls := c9, slots := Array.replicate 200 (defaultValue .int), vm := .none } : Cell) = _
    rw [arrV_new]
    rfl
  · rw [List.append_assoc, ← mn_lay (μ := μ) (ad := ad) (ca := ca)] at hP1 hD1
    have hads : ∀ o ∈ ids, mnA ad q r o = ad o := fun o h => mnA_o (n85 o h) (n8 o h)
    have had : mnA ad q r (1301, 0) = ad (1301, 0) := mnA_o (by decide) (by decide)
    have I' : mmInv D A b X1 X2 ids0 ad0 s (ids ++ mnN) (mnA ad q r) (mnC ca cA cy) (tys ++ [(cy, .int)] ++ [(cA, .array .int)]) (mnM μ) H1 locs := by
      refine I.grow (fun i x h => ?_) (by decide) (fun o ho q => ?_) (fun o => ?_) hads (fun o h => mnC_o (n85 o h) (n8 o h)) had (fun o h k => mnM_Io (nn o h)) (fun o h k => mnM_Ro (nn o h)) (funext fun k => mnM_Io (by omega)) (funext fun k => mnM_Io (by omega)) (fun o h _ => ?_) (fun o h k => ?_) (fun o h k => ?_) hK1 hP1 hD1 hS1
      · rw [List.append_assoc, List.getElem?_append_left (List.getElem?_eq_some_iff.mp h).1]; exact h
      · rcases (mnN_mem o).mp q with w | w
        · exact n80 o ho w.1
        · exact n85 o ho w.1
      · rw [mnN_mem o, o2 o]
        show _ ↔ o.2 < if o.1 = 800 then 1 else if o.1 = 850 then 6 else μ.2.2.1 o.1
        by_cases e1 : o.1 = 800
        · rw [if_pos e1, e1, c8]; omega
        · rw [if_neg e1]
          by_cases e2 : o.1 = 850
          · rw [if_pos e2, e2, c85]; omega
          · rw [if_neg e2]; omega
      · rcases (mnN_mem o).mp h with w | w
        · have e0 : o = (800, 0) := Prod.ext w.1 w.2
          subst e0
          refine ⟨by rw [mmKe_800]; omega, tys.length + 1, ?_⟩
          rw [mmKe_800, mnC_8, List.getElem?_append_right (by simp)]
          simp [mmFt]
        · obtain ⟨t, i⟩ := o
          have e0 : t = 850 := w.1
          subst e0
          refine ⟨by rw [mmKe_850]; omega, tys.length, ?_⟩
          rw [mmKe_850, mnC_r, List.append_assoc, List.getElem?_append_right (Nat.le_refl _)]
          simp [mmFt]
      · rw [mnM_I (by rcases (mnN_mem o).mp h with w | w; exact Or.inr w; exact Or.inl w)]
        exact ⟨fun _ => mmR64_0, fun _ => mmR32_0⟩
      · rcases (mnN_mem o).mp h with w | w
        · rw [w.1, w.2, mnM_R8]
          by_cases hk6 : 0 ≤ k ∧ k < 6
          · rw [if_pos hk6]
            exact Or.inl (List.mem_append_right _ ((mnN_mem _).mpr (Or.inr ⟨rfl, by show k.toNat < 6; omega⟩)))
          · rw [if_neg hk6]; trivial
        · rw [w.1, mnM_Rr w.2]; trivial
    have hW := hk (ids ++ mnN) (mnA ad q r) (mnC ca cA cy) _ H1 locs (cells + 1 + 6) (slots + 6 + 6 * 200) la I' (List.forall_mem_cons.mpr ⟨Or.inl (List.mem_append_right _ ((mnN_mem _).mpr (Or.inl ⟨rfl, rfl⟩))), fun v hv => mmOv_ext (fun o h => List.mem_append_left _ h) (ho9 v hv)⟩) (fun v hv => mmOv_ext (fun o h => List.mem_append_left _ h) (hl v hv)) ⟨Lr.1, by rw [mmLv_ext hads had hl]; exact Lr.2⟩ (by show _ + (_ - 7) ≤ _; omega) (by show _ + (_ - 1206) ≤ _; omega)
    rw [List.map_cons, List.map_congr_left (fun v hv => mmCv_ext hads had (ho9 v hv))] at hW
    have e9 : mmCv (mnA ad q r) (.inr (.inr (some (800, 0)))) = .ref q := by show Value.ref _ = _; rw [mnA_8]
    rw [e9] at hW
    exact hW
theorem d78_0 : decode (mmBy 78) 0 = .ok (.aload_n 0, 1) := by decide +kernel
theorem d78_1 : decode (mmBy 78) 1 = .ok (.invokespecial 3, 3) := by decide +kernel
theorem d78_4 : decode (mmBy 78) 4 = .ok (.aload_n 0, 1) := by decide +kernel
theorem d78_5 : decode (mmBy 78) 5 = .ok (.bipush 6, 2) := by decide +kernel
theorem d78_7 : decode (mmBy 78) 7 = .ok (.sipush 200, 3) := by decide +kernel
theorem d78_10 : decode (mmBy 78) 10 = .ok (.multianewarray 11 2, 4) := by decide +kernel
theorem d78_14 : decode (mmBy 78) 14 = .ok (.putfield 13, 3) := by decide +kernel
theorem d78_17 : decode (mmBy 78) 17 = .ok (.return_, 1) := by decide +kernel
theorem sp_78 {d : Nat} (h0 : va_AOA .int s00) : mmMt l s00 (d + 1) (fun _ => fun a μ Q => mmPo a fun o r => r = [] ∧ mmKo o.1 = some 7 ∧ μ.2.2.1 800 = 0 ∧ μ.2.2.1 850 = 0 ∧ 7 ≤ μ.2.2.2.1 ∧ 1206 ≤ μ.2.2.2.2 ∧
    Q none (fun t i k => if (t = 850 ∧ i < 6) ∨ (t = 800 ∧ i = 0) then 0 else μ.1 t i k,
      fun t i k => if t = o.1 ∧ i = o.2 ∧ k = 0 then some (800, 0) else if t = 800 ∧ i = 0 then (if 0 ≤ k ∧ k < 6 then some (850, k.toNat) else none) else if t = 850 ∧ i < 6 then none else μ.2.1 t i k,
      fun t => if t = 800 then 1 else if t = 850 then 6 else μ.2.2.1 t, μ.2.2.2.1 - 7, μ.2.2.2.2 - 1206)) 78 (mmNm 78) (mmBy 78) (mmMl 78) (mmRt 78) := by
  refine mm_enter (by decide +kernel) (fun a μ Q h => ?_)
  obtain ⟨o, r, rfl, rfl, hko, c8, c85, hbc, hbs, hQ⟩ := mmPo_inv h
  refine ⟨Nat.le_of_ble_eq_true rfl, fun p e s m args below meth c QW D A b X1 X2 ids0 ad0 hE hX hnm hRt => ?_⟩
  show mmPt p l e (mmRm (d + 1) μ.2.2.2.1 μ.2.2.2.2) s m args below meth c QW 1 D A b X1 X2 ids0 ad0 0 [some (.inr (.inr (some o)))] [] μ
  refine mo_aload_n (C := fun _ _ _ _ => False) (J := fun _ _ _ _ => False) (Q := Q) (pay := []) (cst := 0) hE d78_0 (fun _ _ _ q => q) ?_
  refine mo_objInit (d := d) (C := fun _ _ _ _ => False) (J := fun _ _ _ _ => False) (Q := Q) (pl := 0) (cst := 0) hE ⟨Nat.le_refl _, Nat.le_refl _⟩ d78_1 ol_78 oi_78 oc_78 (fun _ _ _ q => q) ?_
  refine ⟨Nat.zero_le _, ?_⟩
  refine mo_aload_n (C := fun _ _ _ _ => False) (J := fun _ _ _ _ => False) (Q := Q) (pay := []) (cst := 0) hE d78_4 (fun _ _ _ q => q) ?_
  refine mo_bipush (C := fun _ _ _ _ => False) (J := fun _ _ _ _ => False) (Q := Q) (pay := []) (cst := 0) hE d78_5 (by unfold mmR32; decide) (by decide) (fun _ _ _ q => q) ?_
  refine mo_sipush (C := fun _ _ _ _ => False) (J := fun _ _ _ _ => False) (Q := Q) (pay := []) (cst := 0) hE d78_7 (by unfold mmR32; decide) (by decide) (fun _ _ _ q => q) ?_
  refine mo_mna hE hX h0 d78_10 c8 c85 hbc hbs ?_
  refine mo_putfield3 (cx := 7) (f := 0) (pl := 0) (C := fun _ _ _ _ => False) (J := fun _ _ _ _ => False) (Q := Q) (cst := 0) hE d78_14 rfl rfl (by decide) rfl (Or.inr ⟨_, rfl⟩) fl_78 (Or.inr ⟨rfl, hnm, rfl⟩) (fun _ _ _ q => q) ?_
  refine ⟨hko, ?_⟩
  refine mo_return (C := fun _ _ _ _ => False) (J := fun _ _ _ _ => False) (κ := fun _ _ _ => False) (pay := []) (cst := 0) hRt d78_17 rfl ?_
  exact hQ
end S8944
