/-- new cells beside the old ones -/
theorem mmInv.grow {D : va_G} {A : Nat → Prop} {b : Nat} {X1 X2 : Int → Int} {ids0 : List mmO} {ad0 : mmO → Nat} {s : State} {ids : List mmO} {ad : mmO → Nat} {ca : mmO → ClassId} {tys tys' : List (ClassId × FieldType)} {μ μ' : mmM} {H H1 : Heap} {locs : List Loc} (I : mmInv D A b X1 X2 ids0 ad0 s ids ad ca tys μ H locs)
    {N : List mmO} {ad' : mmO → Nat} {ca' : mmO → ClassId} (htys : ∀ (i : Nat) (x : ClassId × FieldType), tys[i]? = some x → tys'[i]? = some x) (hnd : N.Nodup) (hdj : ∀ o ∈ ids, o ∉ N) (hcnt : ∀ o : mmO, (o ∈ ids ∨ o ∈ N) ↔ o.2 < μ'.2.2.1 o.1)
    (had : ∀ o ∈ ids, ad' o = ad o) (hca : ∀ o ∈ ids, ca' o = ca o) (has : ad' (1301, 0) = ad (1301, 0)) (hI : ∀ o ∈ ids, ∀ k, μ'.1 o.1 o.2 k = μ.1 o.1 o.2 k) (hR : ∀ o ∈ ids, ∀ k, μ'.2.1 o.1 o.2 k = μ.2.1 o.1 o.2 k) (e1 : μ'.1 1301 0 = μ.1 1301 0) (e2 : μ'.1 1302 0 = μ.1 1302 0)
    (hn3 : ∀ o ∈ N, mmKo o.1 = none → mmKe o.1 < 5 ∧ ∃ t0 : Nat, tys'[t0]? = some (ca' o, mmFt (mmKe o.1))) (hn4 : ∀ o ∈ N, ∀ k : Int, (mmKe o.1 = 2 → mmR64 (μ'.1 o.1 o.2 k)) ∧ (¬ mmKe o.1 = 2 → mmR32 (μ'.1 o.1 o.2 k))) (hn5 : ∀ o ∈ N, ∀ k : Int, mmOv (ids ++ N) (.inr (.inr (μ'.2.1 o.1 o.2 k))))
    (hK : va_K D mmCl tys' s) (hP : va_P D mmCl (mmW ids ad ca μ ++ N.map (fun o => (ad' o, mmE ad' ca' μ' o))) H1) (hD : va_D A (mmW ids ad ca μ ++ N.map (fun o => (ad' o, mmE ad' ca' μ' o)))) (hS : va_S A s.heap H1 locs) :
    mmInv D A b X1 X2 ids0 ad0 s (ids ++ N) ad' ca' tys' μ' H1 locs := by
  obtain ⟨h1, h2, h3, h4, h5, h6, h7, h8, h9⟩ := I
  obtain ⟨o1, o2, o3, o4, o5⟩ := h5
  have hW : mmW ids ad ca μ ++ N.map (fun o => (ad' o, mmE ad' ca' μ' o)) = mmW (ids ++ N) ad' ca' μ' := by
    unfold mmW
    rw [List.map_append]
    congr 1
    apply List.map_congr_left
    intro o ho
    rw [had o ho]
    congr 1
    refine (mmE_ext (fun k => hI o ho k) (fun k => hR o ho k) (fun k y hy => ?_) (hca o ho)).symm
    have := o5 o ho k
    rw [hy] at this
    rcases this with w | w
    · exact had y w
    · rw [w]; exact has
  rw [hW] at hP hD
  refine ⟨hP, hD, hS, hK, ⟨?_, ?_, ?_, ?_, ?_⟩, has.trans h6, fun o ho => ⟨List.mem_append_left _ (h7 o ho).1, (had o (h7 o ho).1).trans (h7 o ho).2⟩, e1.trans h8, e2.trans h9⟩
  · exact List.nodup_append.mpr ⟨o1, hnd, fun a ha y hy e => hdj a ha (e ▸ hy)⟩
  · intro o
    rw [List.mem_append]
    exact hcnt o
  · intro o ho hk
    rcases List.mem_append.mp ho with w | w
    · obtain ⟨q1, t0, q2⟩ := o3 o w hk
      exact ⟨q1, t0, by rw [hca o w]; exact htys _ _ q2⟩
    · exact hn3 o w hk
  · intro o ho k
    rcases List.mem_append.mp ho with w | w
    · rw [hI o w k]; exact o4 o w k
    · exact hn4 o w k
  · intro o ho k
    rcases List.mem_append.mp ho with w | w
    · rw [hR o w k]
      have := o5 o w k
      generalize μ.2.1 o.1 o.2 k = z at this ⊢
      cases z with
      | none => exact this
      | some y => exact this.elim (fun q => Or.inl (List.mem_append_left _ q)) Or.inr
    · exact hn5 o w k
