/-! a row of instructions by the real machine -/
section S8950
variable {p : Program} {l : Launch} {e : Env} {R : Room} {s : State} {m : MethodId} {args : Array Value} {below : List Frame} {meth : Method} {c : Code} {QW : State → Prop}
variable {cc : ByteArray} {own : String} {nL : Nat} {D : va_G} {A : Nat → Prop} {b : Nat} {X1 X2 : Int → Int} {ids0 : List mmO} {ad0 : mmO → Nat}
variable {C : Nat → List mmV → mmM → (Option mmV → mmM → Prop) → Prop} {Q : Option mmV → mmM → Prop} {J : Nat → List (Option mmV) → List mmV → mmM → Prop} {K : List (Option mmV) → List mmV → mmM → Prop}
variable {ls : List (Option mmV)} {st : List mmV} {μ : mmM} {s00 : State} {d : Nat} {rt : Option FieldType} {ini law : Bool} {pcs : List Nat} {code1 : List mmP}
theorem mm_seq (hE : mmEn p s m args c cc own nL) (hX : mmCtx s00 s A) (h00 : va_AO "PostStones$Row" s00) (hR : d + 1 ≤ R.frames ∧ 64 * (d + 1) ≤ R.locals) (hRt : mmRet p l e R s m args below meth c QW cc D A b X1 X2 ids0 ad0 rt Q) (hSc : law = true → mmScr s A b X1 X2) (hin : ini = true → meth.name = "<init>")
    (hMt : ∀ y, mmMB y = true → mmMt l s00 d C y (mmNm y) (mmBy y) (mmMl y) (mmRt y))
    (hLk : law = true → ∀ (J : Nat → List (Option mmV) → List mmV → mmM → Prop) (pl : Nat) (cst : Int) (κ : List (Option mmV) → List mmV → mmM → Prop) (ls : List (Option mmV)) (st : List mmV) (μ : mmM) (pc : Nat), decode cc pc = .ok (.invokestatic 39, 3) → (∀ ls st μ, κ ls st μ → mmPt p l e R s m args below meth c QW nL D A b X1 X2 ids0 ad0 (pc + 3) ls st μ) → mmStep C J Q (.invokestatic 39, [20, 256, 4, 1, 8, pl], cst) κ ls st μ → mmPt p l e R s m args below meth c QW nL D A b X1 X2 ids0 ad0 pc ls st μ)
    (hBs : ∀ (n : Nat) (op : mmP), code1[n]? = some op → mmOpB own cc nL rt ini law pcs n op = true) (hJ : ∀ t ls st μ, J t ls st μ → mmPt p l e R s m args below meth c QW nL D A b X1 X2 ids0 ad0 (pcs.getD t 0) ls st μ)
    (hK : ∀ ls st μ, K ls st μ → mmPt p l e R s m args below meth c QW nL D A b X1 X2 ids0 ad0 (pcs.getD code1.length 0) ls st μ) (h : mmSq C J Q code1 K ls st μ) : mmPt p l e R s m args below meth c QW nL D A b X1 X2 ids0 ad0 (pcs.getD 0 0) ls st μ := by
  have key : ∀ (cd : List mmP) (n : Nat), code1.drop n = cd → n + cd.length = code1.length → ∀ ls st μ, mmSq C J Q cd K ls st μ → mmPt p l e R s m args below meth c QW nL D A b X1 X2 ids0 ad0 (pcs.getD n 0) ls st μ := by
    intro cd
    induction cd with
    | nil =>
      intro n _ hn ls st μ h
      have e0 : n = code1.length := by simpa using hn
      rw [e0]
      exact hK _ _ _ h
    | cons op cd ih =>
      intro n e9 hn ls st μ h
      have e1 : code1[n]? = some op := by
        have := congrArg (fun z : List mmP => z[0]?) e9
        simpa using this
      have e2 : code1.drop (n + 1) = cd := by
        have := congrArg (List.drop 1) e9
        simpa [List.drop_drop] using this
      exact mm_disp hE hX h00 hR hRt hSc hin hMt (fun q => hLk q _) (hBs n op e1) hJ (fun ls st μ q => ih (n + 1) e2 (by rw [List.length_cons] at hn; omega) ls st μ q) h
  exact key code1 0 rfl (Nat.zero_add _) ls st μ h
end S8950
theorem jn_K {s : State} {args : Array Value} (hts : ∀ w ∈ mmTs, w.before args s = true) : ∃ D : va_G, va_K D mmCl [] s := by
  have h : ∀ k : Nat, ∃ q : ClassId × (Nat → Nat), ∀ r : vw_C, mmCl[k]? = some r → u_Kn s r.1 r.2.1 r.2.2 q.1 q.2 := by
    intro k
    cases hk : mmCl[k]? with
    | none => exact ⟨(0, fun _ => 0), fun r hr => by cases hr⟩
    | some r =>
      by_cases h9 : k = 9
      · subst h9
        have e : r = (RX8, TX9, 0) := by cases hk; rfl
        subst e
        obtain ⟨c8, i8, h8⟩ := u_known (C := RX8) (T := TX9) (N := 0) (n := 9) hts mm_hin9 (hts _ mw_inst8.1)
        exact ⟨(c8, i8), fun r hr => by cases hr; exact h8⟩
      · obtain ⟨c, i, h⟩ := u_known (C := r.1) (T := r.2.1) (N := r.2.2) (n := r.2.2) hts (mm_hin k r hk) (hts _ (mw_inst k r hk h9).1)
        exact ⟨(c, i), fun r' hr => by cases hr; exact h⟩
  obtain ⟨f, hf⟩ := Classical.axiomOfChoice h
  exact ⟨(fun k => (f k).1, fun k => (f k).2), fun k r hr => hf k r hr, fun k q h => by simp at h⟩
theorem jn_st {s : State} {args : Array Value} {n : String} {L : List Int} (hN : L.length < 100) (hl : (Cond.laysStatic "PostStones$Words" n "[I").before args s = true) (hi : (Cond.initialized "PostStones$Words").before args s = true) (ha : (Cond.arrayOf (.static "PostStones$Words" n "[I") .int).before args s = true) (hle : (Cond.eq (.length (.static "PostStones$Words" n "[I")) (.int (Int32.ofNat L.length))).before args s = true)
    (hel : ∀ j : Nat, j < L.length → (Cond.eq (.elem (.static "PostStones$Words" n "[I") (.int (Int32.ofNat j))) (.int (Int32.ofInt (L.getD j 0)))).before args s = true) : mmSt s n L := by
  have hA : ∀ a : Nat, a < s.heap.size → ¬ (fun a => s.heap.size ≤ a) a := fun a h q => absurd h (Nat.not_lt.mpr q)
  obtain ⟨t, ht, hT⟩ := va_Tof (f := fun j => .int (Int32.ofInt (L.getD j 0))) (A := fun a => s.heap.size ≤ a) (Nat.lt_of_lt_of_le hN (by decide)) ha (va_eqt hle) (fun j hj => va_eqt (hel j hj)) hA
  exact ⟨t, va_Zof hl hi ht hA, hT⟩
theorem jn_S {l : Launch} {s00 : State} (h1 : mmSt s00 "NAMES" nmL) (h2 : mmSt s00 "OTHER_WORDS" otL) (h3 : va_AOA .int s00) : ∀ (d y : Nat) f, mmMB y = true → mmSpc y = some f → mmMt l s00 (d + 2) (fun _ => f) y (mmNm y) (mmBy y) (mmMl y) (mmRt y) := by
  intro d y f hB h
  unfold mmSpc at h
  split at h
  · rename_i e; subst e; cases h; exact sp_97 (d := d + 1) h1
  · split at h
    · rename_i e; subst e; cases h; exact sp_98 (d := d) h1 h2
    · split at h
      · rename_i e; subst e; cases h; exact sp_78 (d := d + 1) h3
      · split at h
        · rename_i e; subst e; exact absurd hB (by decide +kernel)
        · split at h
          · rename_i e; subst e; exact absurd hB (by decide +kernel)
          · split at h
            · rename_i e; subst e; exact absurd hB (by decide +kernel)
            · cases h

