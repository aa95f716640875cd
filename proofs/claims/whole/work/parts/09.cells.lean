theorem mmW_get {ids : List mmO} {ad : mmO → Nat} {ca : mmO → ClassId} {μ : mmM} {o : mmO} (h : o ∈ ids) : ∃ q0 : Nat, ids[q0]? = some o ∧ (mmW ids ad ca μ)[q0]? = some (ad o, mmE ad ca μ o) := by
  obtain ⟨q0, hq⟩ := List.getElem?_of_mem h
  exact ⟨q0, hq, by unfold mmW; rw [List.getElem?_map, hq]; rfl⟩
theorem mmE_obj {ad : mmO → Nat} {ca : mmO → ClassId} {μ : mmM} {o : mmO} {c : Nat} (h : mmKo o.1 = some c) : mmE ad ca μ o = .inr (c, (List.range (mmKn c)).map fun f => mmFv ad μ o f (mmKt c f)) := by
  unfold mmE; rw [h]
theorem mmE_arr {ad : mmO → Nat} {ca : mmO → ClassId} {μ : mmM} {o : mmO} (h : mmKo o.1 = none) : mmE ad ca μ o = .inl (ca o, (mmLen o.1).toNat, mmAc ad μ o) := by
  unfold mmE; rw [h]
theorem mm_ke9 : ∀ t : Nat, t < 12 → mmKe t = 9 := by decide +kernel
theorem mm_keko {t : Nat} (h : mmKe t < 5) : mmKo t = none := by
  unfold mmKo
  split
  · rename_i h1
    rw [mm_ke9 t h1.1] at h
    omega
  · rfl
theorem mm_ke1301 : mmKe 1301 = 9 := by decide +kernel
theorem mm_ke1302 : mmKe 1302 = 9 := by decide +kernel
theorem mm_koL {t c : Nat} (h : mmKo t = some c) : t = c ∧ t < 12 := by
  unfold mmKo at h
  split at h
  · rename_i h1
    exact ⟨Option.some.inj h, h1.1⟩
  · cases h
/-- the cells' contents are of the memory at this cell alone -/
theorem mmE_congr {ad : mmO → Nat} {ca : mmO → ClassId} {μ ν : mmM} {o : mmO} (h1 : ∀ k, ν.1 o.1 o.2 k = μ.1 o.1 o.2 k) (h2 : ∀ k, ν.2.1 o.1 o.2 k = μ.2.1 o.1 o.2 k) : mmE ad ca ν o = mmE ad ca μ o := by
  unfold mmE mmFv mmAc
  simp only [h1, h2]
theorem mmW_set {ids : List mmO} {ad : mmO → Nat} {ca : mmO → ClassId} {μ ν : mmM} {o : mmO} {q0 : Nat} (hn : ids.Nodup) (hq : ids[q0]? = some o) (h : ∀ o' : mmO, o' ≠ o → mmE ad ca ν o' = mmE ad ca μ o') :
    (mmW ids ad ca μ).set q0 (ad o, mmE ad ca ν o) = mmW ids ad ca ν := by
  apply List.ext_getElem?
  intro i
  unfold mmW
  rw [List.getElem?_set]
  have hl : q0 < ids.length := (List.getElem?_eq_some_iff.mp hq).1
  by_cases e : q0 = i
  · subst e
    rw [if_pos rfl, if_pos (by simpa using hl), List.getElem?_map, hq]
    rfl
  · rw [if_neg e, List.getElem?_map, List.getElem?_map]
    cases hi : ids[i]? with
    | none => rfl
    | some o' =>
      simp only [Option.map_some, Option.some.injEq, Prod.mk.injEq, true_and]
      refine (h o' ?_).symm
      rintro rfl
      exact e ((List.getElem?_inj hl hn).mp (hq.trans hi.symm))
theorem mmU_ne {α : Type} {f : Nat → Nat → Int → α} {t i : Nat} {k : Int} {v : α} {o : mmO} (h : o ≠ (t, i)) (k' : Int) : mmU f t i k v o.1 o.2 k' = f o.1 o.2 k' := by
  unfold mmU
  rw [if_neg]
  rintro ⟨e1, e2, -⟩
  exact h (Prod.ext e1 e2)
theorem mmUr_ne {α : Type} {f : Nat → Nat → Int → α} {t i : Nat} {g : Int → α} {o : mmO} (h : o ≠ (t, i)) (k' : Int) : mmUr f t i g o.1 o.2 k' = f o.1 o.2 k' := by
  unfold mmUr
  rw [if_neg]
  rintro ⟨e1, e2⟩
  exact h (Prod.ext e1 e2)
theorem mm_scr {ids : List mmO} {ca : mmO → ClassId} {tys : List (ClassId × FieldType)} {μ : mmM} (h : mmOk ids ca tys μ) {o : mmO} (ho : o ∈ ids) : o.1 ≠ 1301 ∧ o.1 ≠ 1302 := by
  have key : ∀ t : Nat, mmKe t = 9 → mmKo t = none → o.1 ≠ t := by
    rintro t h1 h2 rfl
    have := (h.2.2.1 o ho h2).1
    omega
  exact ⟨key 1301 mm_ke1301 (by decide), key 1302 mm_ke1302 (by decide)⟩
theorem mmOv_in {ids : List mmO} {o : mmO} (h : mmOv ids (.inr (.inr (some o)))) (h1 : o.1 ≠ 1301) : o ∈ ids := by
  rcases h with h | h
  · exact h
  · rw [h] at h1; exact absurd rfl h1
theorem mm_koS {o : mmO} {c : Nat} (h : mmKo o.1 = some c) : o.1 ≠ 1301 := fun q => by
  have e : mmKo 1301 = none := by decide
  rw [q, e] at h
  cases h
theorem mm_keS {o : mmO} (h : mmKe o.1 < 5) : o.1 ≠ 1301 := fun q => by rw [q, mm_ke1301] at h; omega
/-- an int is laid -/
theorem mmOk.putI {ids : List mmO} {ca : mmO → ClassId} {tys : List (ClassId × FieldType)} {μ : mmM} (h : mmOk ids ca tys μ) {o : mmO} {k z : Int} (hz : (mmKe o.1 = 2 → mmR64 z) ∧ (¬ mmKe o.1 = 2 → mmR32 z)) : mmOk ids ca tys (mmU μ.1 o.1 o.2 k z, μ.2) := by
  refine ⟨h.1, h.2.1, h.2.2.1, fun o' ho' k' => ?_, h.2.2.2.2⟩
  show (_ → mmR64 (mmU μ.1 o.1 o.2 k z o'.1 o'.2 k')) ∧ (_ → mmR32 (mmU μ.1 o.1 o.2 k z o'.1 o'.2 k'))
  unfold mmU
  split
  · rename_i e
    rw [e.1]; exact hz
  · exact h.2.2.2.1 o' ho' k'
theorem mmOk.putR {ids : List mmO} {ca : mmO → ClassId} {tys : List (ClassId × FieldType)} {μ : mmM} (h : mmOk ids ca tys μ) {o : mmO} {k : Int} {r : Option mmO} (hr : mmOv ids (.inr (.inr r))) : mmOk ids ca tys (μ.1, mmU μ.2.1 o.1 o.2 k r, μ.2.2) := by
  refine ⟨h.1, h.2.1, h.2.2.1, h.2.2.2.1, fun o' ho' k' => ?_⟩
  show mmOv ids (.inr (.inr (mmU μ.2.1 o.1 o.2 k r o'.1 o'.2 k')))
  unfold mmU
  split
  · exact hr
  · exact h.2.2.2.2 o' ho' k'
theorem mmFs_get {n k : Nat} {f : Nat → Value} (h : k < n) : ((List.range n).map f)[k]? = some (f k) := by
  rw [List.getElem?_map, List.getElem?_range h]; rfl
theorem mmFs_set {n k : Nat} {f g : Nat → Value} (h : ∀ j, j ≠ k → g j = f j) : ((List.range n).map f).set k (g k) = (List.range n).map g := by
  apply List.ext_getElem?
  intro i
  rw [List.getElem?_set]
  by_cases e : k = i
  · subst e
    rw [if_pos rfl]
    by_cases hl : k < n
    · rw [if_pos (by simpa using hl), mmFs_get hl]
    · rw [if_neg (by simpa using hl)]
      rw [List.getElem?_eq_none (by simpa using Nat.le_of_not_lt hl)]
  · rw [if_neg e, List.getElem?_map, List.getElem?_map]
    cases hi : (List.range n)[i]? with
    | none => rfl
    | some j =>
      have : j = i := by
        have := List.getElem?_eq_some_iff.mp hi
        obtain ⟨h1, h2⟩ := this
        simpa using h2.symm
      subst this
      simp only [Option.map_some, Option.some.injEq]
      exact (h j (fun q => e q.symm)).symm
def mmTy : Nat → Nat → FieldType
  | 0 => tyX0
  | 1 => tyX1
  | 2 => tyX2
  | 3 => tyX3
  | 4 => tyX4
  | 5 => tyX5
  | 6 => tyX6
  | 7 => tyX7
  | 8 => tyX8
  | 9 => tyX9
  | 10 => tyX10
  | _ => tyX11
theorem mm_ty : ∀ (c : Nat) (q : vw_C), mmCl[c]? = some q → ∀ k, k < q.2.2 → parseFieldDescriptor (q.2.1 k).2.2.1 = some (mmTy c k)
  | 0, _, h => by cases h; exact tyX0_ok
  | 1, _, h => by cases h; exact tyX1_ok
  | 2, _, h => by cases h; exact tyX2_ok
  | 3, _, h => by cases h; exact tyX3_ok
  | 4, _, h => by cases h; exact tyX4_ok
  | 5, _, h => by cases h; exact tyX5_ok
  | 6, _, h => by cases h; exact tyX6_ok
  | 7, _, h => by cases h; exact tyX7_ok
  | 8, _, h => by cases h; exact tyX8_ok
  | 9, _, h => by cases h; exact tyX9_ok
  | 10, _, h => by cases h; exact tyX10_ok
  | 11, _, h => by cases h; exact tyX11_ok
  | _ + 12, _, h => by simp at h
theorem mm_nm : ∀ (c : Nat) (q : vw_C), mmCl[c]? = some q → ∀ a, a < q.2.2 → ∀ b, b < q.2.2 → a ≠ b → (q.2.1 a).2.1 ≠ (q.2.1 b).2.1
  | 0, _, h => by cases h; exact nmX0
  | 1, _, h => by cases h; exact nmX1
  | 2, _, h => by cases h; exact nmX2
  | 3, _, h => by cases h; exact nmX3
  | 4, _, h => by cases h; exact nmX4
  | 5, _, h => by cases h; exact nmX5
  | 6, _, h => by cases h; exact nmX6
  | 7, _, h => by cases h; exact nmX7
  | 8, _, h => by cases h; exact nmX8
  | 9, _, h => by cases h; exact nmX9
  | 10, _, h => by cases h; exact nmX10
  | 11, _, h => by cases h; exact nmX11
  | _ + 12, _, h => by simp at h
theorem mm_hin0 : ∀ w ∈ u_ws RX0 TX0 7, w ∈ mmTs := by decide +kernel
theorem mm_hin1 : ∀ w ∈ u_ws RX1 TX1 3, w ∈ mmTs := by decide +kernel
theorem mm_hin2 : ∀ w ∈ u_ws RX2 TX2 4, w ∈ mmTs := by decide +kernel
theorem mm_hin3 : ∀ w ∈ u_ws RX3 TX3 15, w ∈ mmTs := by decide +kernel
theorem mm_hin4 : ∀ w ∈ u_ws RX4 TX4 3, w ∈ mmTs := by decide +kernel
theorem mm_hin5 : ∀ w ∈ u_ws RX5 TX5 13, w ∈ mmTs := by decide +kernel
theorem mm_hin6 : ∀ w ∈ u_ws RX6 TX6 17, w ∈ mmTs := by decide +kernel
theorem mm_hin7 : ∀ w ∈ u_ws RX7 TX7 1, w ∈ mmTs := by decide +kernel
theorem mm_hin8 : ∀ w ∈ u_ws RX8 TX8 9, w ∈ mmTs := by decide +kernel
theorem mm_hin9 : ∀ w ∈ u_ws RX8 TX9 0, w ∈ mmTs := by decide +kernel
theorem mm_hin10 : ∀ w ∈ u_ws RX10 TX10 12, w ∈ mmTs := by decide +kernel
theorem mm_hin11 : ∀ w ∈ u_ws RX11 TX11 89, w ∈ mmTs := by decide +kernel
theorem mm_hin : ∀ (c : Nat) (q : vw_C), mmCl[c]? = some q → ∀ w ∈ u_ws q.1 q.2.1 q.2.2, w ∈ mmTs
  | 0, _, h => by cases h; exact mm_hin0
  | 1, _, h => by cases h; exact mm_hin1
  | 2, _, h => by cases h; exact mm_hin2
  | 3, _, h => by cases h; exact mm_hin3
  | 4, _, h => by cases h; exact mm_hin4
  | 5, _, h => by cases h; exact mm_hin5
  | 6, _, h => by cases h; exact mm_hin6
  | 7, _, h => by cases h; exact mm_hin7
  | 8, _, h => by cases h; exact mm_hin8
  | 9, _, h => by cases h; exact mm_hin9
  | 10, _, h => by cases h; exact mm_hin10
  | 11, _, h => by cases h; exact mm_hin11
  | _ + 12, _, h => by simp at h
