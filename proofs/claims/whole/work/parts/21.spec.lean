/-- the language's names, by their numbers -/
def mmName (w : Int) : Int := if w = 672503392 then 0 else if w = 202964992 then 1 else if w = 620462080 then 2 else if w = 378998784 then 3 else if w = 659011763 then 4 else if w = 524555859 then 5 else if w = 550273024 then 6 else if w = 379001856 then 7 else -1
def mmOther (w : Int) : Bool := decide (w = 82888832) || decide (w = 407945824) || decide (w = 626478080) || decide (w = 659011744) || decide (w = 404455424) || decide (w = 553242624) || decide (w = 136104960) || decide (w = 404362240) || decide (w = 522190848) || decide (w = 48365568) || decide (w = 486146048)
def mmLang (w : Int) : Int := if mmOther w then 1 else if mmName w = -1 then 0 else 1
/-- what the special callees do: 97 the number of a name, 98 whether a word is the language's, 78 the making of the search's rows, 256 the law's own look -/
def mmSpc (y : Nat) : Option (List mmV → mmM → (Option mmV → mmM → Prop) → Prop) :=
  if y = 97 then some fun a μ Q => mmI1 a.head? fun w => a.tail = [] ∧ Q (some (.inl (mmName w))) μ
  else if y = 98 then some fun a μ Q => mmI1 a.head? fun w => a.tail = [] ∧ Q (some (.inl (mmLang w))) μ
  else if y = 78 then some fun a μ Q => mmPo a fun o r => r = [] ∧ mmKo o.1 = some 7 ∧ μ.2.2.1 800 = 0 ∧ μ.2.2.1 850 = 0 ∧ 7 ≤ μ.2.2.2.1 ∧ 1206 ≤ μ.2.2.2.2 ∧
    Q none (fun t i k => if (t = 850 ∧ i < 6) ∨ (t = 800 ∧ i = 0) then 0 else μ.1 t i k,
      fun t i k => if t = o.1 ∧ i = o.2 ∧ k = 0 then some (800, 0) else if t = 800 ∧ i = 0 then (if 0 ≤ k ∧ k < 6 then some (850, k.toNat) else none) else if t = 850 ∧ i < 6 then none else μ.2.1 t i k,
      fun t => if t = 800 then 1 else if t = 850 then 6 else μ.2.2.1 t, μ.2.2.2.1 - 7, μ.2.2.2.2 - 1206)
  else if y = 256 then some fun a μ Q => match a with
    | [.inr (.inr (some x)), .inl p0, .inl p1, .inr (.inr (some u))] => mmKo x.1 = some 10 ∧ mmKe u.1 = 2 ∧ ∃ ru ra rk rs : mmO, μ.2.1 x.1 x.2 2 = some ru ∧ mmKo ru.1 = some 6 ∧ μ.2.1 ru.1 ru.2 9 = some ra ∧ mmKe ra.1 = 1 ∧ mmLen ra.1 = 4 ∧ μ.2.1 ru.1 ru.2 10 = some rk ∧ mmKe rk.1 = 1 ∧ mmLen rk.1 = 4 ∧ μ.2.1 ru.1 ru.2 11 = some rs ∧ mmKe rs.1 = 0 ∧ mmLen rs.1 = 4 ∧ μ.1 ru.1 ru.2 2 ≤ 4 ∧ 1 ≤ mmLen u.1 ∧
        (p0 < 0 ∨ μ.1 ru.1 ru.2 2 ≤ p0 → Q (some (.inl 1)) μ) ∧ (0 ≤ p0 → p0 < μ.1 ru.1 ru.2 2 → (p1 = 0 → Q (some (.inl 0)) (mmU μ.1 u.1 u.2 0 (if μ.1 ra.1 ra.2 p0 = 0 then 0 else 1), μ.2)) ∧ (p1 = 1 → Q (some (.inl 0)) (mmU μ.1 u.1 u.2 0 (μ.1 rs.1 rs.2 p0), μ.2)) ∧
          (p1 = 2 → Q (some (.inl 0)) (mmU μ.1 u.1 u.2 0 (if μ.1 rk.1 rk.2 p0 = 0 then 0 else 1), μ.2)) ∧ (p1 < 0 ∨ 2 < p1 → Q (some (.inl 2)) μ))
    | _ => False
  else if y = 104 then some fun _ _ _ => False
  else if y = 257 then some fun _ _ _ => False
  else none
abbrev mmC : Nat → Nat → List mmV → mmM → (Option mmV → mmM → Prop) → Prop := mmCall mmSpc
theorem mmSpc_mono {y : Nat} {f : List mmV → mmM → (Option mmV → mmM → Prop) → Prop} (h : mmSpc y = some f) {a : List mmV} {μ : mmM} {Q Q' : Option mmV → mmM → Prop} (hQ : ∀ r w, Q r w → Q' r w) : f a μ Q → f a μ Q' := by
  unfold mmSpc at h
  split at h
  · cases h
    exact mmI1_mono fun w q => ⟨q.1, hQ _ _ q.2⟩
  · split at h
    · cases h
      exact mmI1_mono fun w q => ⟨q.1, hQ _ _ q.2⟩
    · split at h
      · cases h
        exact mmPo_mono fun o r q => ⟨q.1, q.2.1, q.2.2.1, q.2.2.2.1, q.2.2.2.2.1, q.2.2.2.2.2.1, hQ _ _ q.2.2.2.2.2.2⟩
      · split at h
        · cases h
          simp only
          split
          · rintro ⟨h1, h2, ru, ra, rk, rs, g1, g2, g3, g4, g5, g6, g7, g8, g9, g10, g11, g12, g13, g14, g15⟩
            exact ⟨h1, h2, ru, ra, rk, rs, g1, g2, g3, g4, g5, g6, g7, g8, g9, g10, g11, g12, g13, fun q => hQ _ _ (g14 q), fun q1 q2 => ⟨fun q => hQ _ _ ((g15 q1 q2).1 q), fun q => hQ _ _ ((g15 q1 q2).2.1 q), fun q => hQ _ _ ((g15 q1 q2).2.2.1 q), fun q => hQ _ _ ((g15 q1 q2).2.2.2 q)⟩⟩
          · exact id
        · split at h
          · cases h; exact id
          · split at h
            · cases h; exact id
            · cases h
theorem mmC_up : ∀ (d e : Nat), d ≤ e → ∀ (y : Nat) (a : List mmV) (μ : mmM) (Q Q' : Option mmV → mmM → Prop), (∀ r w, Q r w → Q' r w) → mmC d y a μ Q → mmC e y a μ Q'
  | 0, _, _, _, _, _, _, _, _, h => h.elim
  | d + 1, 0, hd, _, _, _, _, _, _, _ => by omega
  | d + 1, e + 1, hd, y, a, μ, Q, Q', hQ, h => by
    have ih := mmC_up d e (by omega)
    unfold mmC mmCall at h ⊢
    split
    · rename_i f hf
      rw [hf] at h
      exact mmSpc_mono hf hQ h
    · rename_i hf
      rw [hf] at h
      exact ⟨h.1, h.2.mono (fun y a μ P P' hP q => ih y a μ P P' hP q) hQ⟩
theorem mmC_cm (d : Nat) : mmCm (mmC d) := fun y a μ P P' hP h => mmC_up d d (Nat.le_refl d) y a μ P P' hP h
theorem mmC_mono {d y : Nat} {a : List mmV} {μ : mmM} {Q Q' : Option mmV → mmM → Prop} (h : mmC d y a μ Q) (hQ : ∀ r w, Q r w → Q' r w) : mmC d y a μ Q' := mmC_cm d y a μ Q Q' hQ h
/-- from a label of method y on, with callees down to a depth -/
def mmK (d y : Nat) (Q : Option mmV → mmM → Prop) (n : Nat) (ls : List (Option mmV)) (st : List mmV) (μ : mmM) : Prop := mmJ (mmC d) (mmCd y) Q n ls st μ
theorem mmC_in {d y : Nat} {a : List mmV} {μ : mmM} {Q : Option mmV → mmM → Prop} (hs : mmSpc y = none) (hw : mmWd a ≤ mmMl y) (h : mmK d y Q 0 (mmLs (mmMl y) a) [] μ) : mmC (d + 1) y a μ Q := by
  unfold mmC mmCall
  rw [hs]
  exact ⟨hw, h⟩
theorem mmC_step {d y : Nat} {Q : Option mmV → mmM → Prop} {n : Nat} {ls : List (Option mmV)} {st : List mmV} {μ : mmM} (h : mmWp (mmC d) (mmK d y Q) Q (mmDr (mmCd y) n) ls st μ) : mmK d y Q n ls st μ := mmJ.step (mmC_cm d) h
/-- a label that is come to from above is a label that is jumped to -/
theorem mmK_cut {d y : Nat} {Q : Option mmV → mmM → Prop} {c : List mmP} (hc : mmCd y = c) {n : Nat} {ls : List (Option mmV)} {st : List mmV} {μ : mmM} : mmWp (mmC d) (mmK d y Q) Q (mmCut c n) ls st μ = mmK d y Q n ls st μ := by
  subst hc
  apply propext
  constructor
  · exact fun h => mmJ.step (mmC_cm d) h
  · intro h
    refine h (fun n ls st μ => mmWp (mmC d) (mmK d y Q) Q ((mmCd y).drop n) ls st μ) ?_
    intro n ls st μ h2
    exact mmWp_mono (mmC_cm d) (fun n ls st μ q => mmJ.step (mmC_cm d) q) (fun _ _ q => q) _ _ _ _ h2
theorem mmU_rd {α : Type} {f : Nat → Nat → Int → α} {t i : Nat} {k : Int} {v : α} {t' i' : Nat} {k' : Int} : mmU f t i k v t' i' k' = if t' = t ∧ i' = i ∧ k' = k then v else f t' i' k' := rfl
