section MMB
variable {p : Program} {l : Launch} {e : Env} {R : Room} {s : State} {m : MethodId} {args : Array Value} {below : List Frame} {meth : Method} {c : Code} {QW : State → Prop}
variable {cc : ByteArray} {own : String} {nL : Nat} {D : va_G} {A : Nat → Prop} {b : Nat} {X1 X2 : Int → Int} {ids0 : List mmO} {ad0 : mmO → Nat}
variable {C : Nat → List mmV → mmM → (Option mmV → mmM → Prop) → Prop} {Q : Option mmV → mmM → Prop}
variable {ls : List (Option mmV)} {st : List mmV} {μ : mmM} {s00 : State} {d : Nat} {rt : Option FieldType} {ini law : Bool} {pcs : List Nat} {n : Nat} {code0 : List mmP}
theorem mm_body (hE : mmEn p s m args c cc own nL) (hX : mmCtx s00 s A) (h00 : va_AO "PostStones$Row" s00) (hR : d + 1 ≤ R.frames ∧ 64 * (d + 1) ≤ R.locals) (hRt : mmRet p l e R s m args below meth c QW cc D A b X1 X2 ids0 ad0 rt Q) (hSc : law = true → mmScr s A b X1 X2) (hin : ini = true → meth.name = "<init>")
    (hMt : ∀ y, mmMB y = true → mmMt l s00 d C y (mmNm y) (mmBy y) (mmMl y) (mmRt y))
    (hLk : law = true → ∀ (J : Nat → List (Option mmV) → List mmV → mmM → Prop) (pl : Nat) (cst : Int) (κ : List (Option mmV) → List mmV → mmM → Prop) (ls : List (Option mmV)) (st : List mmV) (μ : mmM) (pc : Nat), decode cc pc = .ok (.invokestatic 39, 3) → (∀ ls st μ, κ ls st μ → mmPt p l e R s m args below meth c QW nL D A b X1 X2 ids0 ad0 (pc + 3) ls st μ) → mmStep C J Q (.invokestatic 39, [20, 256, 4, 1, 8, pl], cst) κ ls st μ → mmPt p l e R s m args below meth c QW nL D A b X1 X2 ids0 ad0 pc ls st μ)
    (hBs : ∀ (n : Nat) (op : mmP), code0[n]? = some op → mmOpB own cc nL rt ini law pcs n op = true) (h : mmJ C code0 Q n ls st μ) : mmPt p l e R s m args below meth c QW nL D A b X1 X2 ids0 ad0 (pcs.getD n 0) ls st μ := by
  refine h (fun n ls st μ => mmPt p l e R s m args below meth c QW nL D A b X1 X2 ids0 ad0 (pcs.getD n 0) ls st μ) ?_
  intro n ls st μ hw
  have key : ∀ (cd : List mmP) (n : Nat), code0.drop n = cd → ∀ ls st μ, mmWp C (fun n ls st μ => mmPt p l e R s m args below meth c QW nL D A b X1 X2 ids0 ad0 (pcs.getD n 0) ls st μ) Q cd ls st μ → mmPt p l e R s m args below meth c QW nL D A b X1 X2 ids0 ad0 (pcs.getD n 0) ls st μ := by
    intro cd
    induction cd with
    | nil => intro n _ ls st μ h; exact h.elim
    | cons op cd ih =>
      intro n e9 ls st μ h
      have e1 : code0[n]? = some op := by
        have := congrArg (fun z : List mmP => z[0]?) e9
        simpa using this
      have e2 : code0.drop (n + 1) = cd := by
        have := congrArg (List.drop 1) e9
        simpa [List.drop_drop] using this
      exact mm_disp hE hX h00 hR hRt hSc hin hMt (fun q => hLk q _) (hBs n op e1) (fun t ls st μ q => q) (fun ls st μ q => ih (n + 1) e2 ls st μ q) h
  exact key _ n rfl ls st μ hw
end MMB
def mmLaw : Nat := 257
def mmChk (y : Nat) : Bool := decide ((mmPs y).getD 0 0 = 0) && (mmCd y).zipIdx.all (fun q => mmOpB (mmOwn y) (mmBy y) (mmMl y) (mmRt y) (mmKd y == 2) (y == mmLaw) (mmPs y) q.2 q.1)
theorem mmChk_inv {y : Nat} (h : mmChk y = true) : (mmPs y).getD 0 0 = 0 ∧ ∀ (n : Nat) (op : mmP), (mmCd y)[n]? = some op → mmOpB (mmOwn y) (mmBy y) (mmMl y) (mmRt y) (mmKd y == 2) (y == mmLaw) (mmPs y) n op = true := by
  simp only [mmChk, Bool.and_eq_true, decide_eq_true_eq] at h
  refine ⟨h.1, fun n op hop => ?_⟩
  exact List.all_eq_true.mp h.2 (op, n) (List.mem_zipIdx_iff_getElem?.mpr hop)
/-- a callee, down to a depth; mS says what the special ones do -/
def mmCall (mS : Nat → Option (List mmV → mmM → (Option mmV → mmM → Prop) → Prop)) : Nat → Nat → List mmV → mmM → (Option mmV → mmM → Prop) → Prop
  | 0, _, _, _, _ => False
  | d + 1, y, a, μ, Q => match mS y with
    | some f => f a μ Q
    | none => mmWd a ≤ mmMl y ∧ mmJ (mmCall mS d) (mmCd y) Q 0 (mmLs (mmMl y) a) [] μ
theorem mmCtx.ofRel {s00 s : State} {D : va_G} {b : Nat} {X1 X2 : Int → Int} {ids : List mmO} {ad : mmO → Nat} {ca : mmO → ClassId} {tys : List (ClassId × FieldType)} {μ : mmM} (h : mmRel s00 D b X1 X2 ids ad ca tys μ s s.heap) : mmCtx s00 s (va_A (mmW ids ad ca μ) s.heap.size) := by
  obtain ⟨r1, r2, r3, r4, r5, r6, r7, r8, r9, r10⟩ := h
  refine ⟨fun q h => Or.inr h, fun q h => ?_, r8, r9, r10⟩
  rcases h with ⟨k, e, h⟩ | h
  · exact r3.2 k (q, e) h
  · exact Nat.le_trans r8 h
/-- the end of a method by its contract -/
theorem mm_ret {p : Program} {l : Launch} {e : Env} {R : Room} {s : State} {m : MethodId} {below : List Frame} {meth : Method} {c : Code} {cc : ByteArray} {s00 : State} {D : va_G} {b : Nat} {X1 X2 : Int → Int} {ids : List mmO} {ad : mmO → Nat} {ca : mmO → ClassId} {μ : mmM} {rt : Option FieldType} {Q : Option mmV → mmM → Prop} {args : Array Value}
    (hx : p.tables.exec = Jvm.exec) (hb : c.code = cc) (hr : meth.sig.returnType = rt) (hlk : meth.locks = false) (hX : mmCtx s00 s (va_A (mmW ids ad ca μ) s.heap.size)) :
    mmRet p l e R s m args below meth c (MQ below (mmQc s00 D b X1 X2 ids ad ca μ s.heap.size Q) args s R.cells R.slots (va_A (mmW ids ad ca μ) s.heap.size)) cc D (va_A (mmW ids ad ca μ) s.heap.size) b X1 X2 ids ad rt Q := by
  intro r ν ids' ad' ca' tys' H locs cells slots la pc hQ I hov rc rs hk
  have hS := I.2.2.1
  have fin : ∀ (t : State), t.heap = H → s.WarmedH t.vm → mmQc s00 D b X1 X2 ids ad ca μ s.heap.size Q args s (.returned (r.map (mmCv ad'))) t := by
    intro t ht hW
    refine ⟨⟨r, ν, ids', ad', ca', tys', rfl, hQ, hov, by rw [ht]; exact I.rel hX hW, I.2.1, I.2.2.2.2.2.2.1⟩, hS.F ht⟩
  refine W.widen (k := R.cells) (n := R.slots) (by omega) (by omega) ?_
  rcases hk with ⟨z, rfl, hd, hz⟩ | ⟨z, rfl, hd, hz⟩ | ⟨z, rfl, hd, n, hz⟩ | ⟨rfl, hd, hz⟩
  · rcases hz with hz | ⟨hz, h01⟩
    · subst hz
      exact W.zret (ty := .int) hx hb hr rfl fin hS.2.2 hd hlk
    · subst hz
      exact W.zret (ty := .boolean) hx hb hr (mm_bool h01).1 fin hS.2.2 hd hlk
  · subst hz
    exact W.lret hx hb hr fin hS.2.2 hd hlk
  · subst hz
    exact W.aret hx hb hr (Or.inl ⟨n, rfl⟩) (by cases z with | none => exact Or.inl rfl | some o => exact Or.inr ⟨_, rfl⟩) fin hS.2.2 hd hlk
  · subst hz
    exact W.vret hx hb hr fin hS.2.2 hd hlk
/-- THE SMALL MACHINE IS SOUND: what a call does there, the real one does -/
theorem mm_sound {l : Launch} {s00 : State} {mS : Nat → Option (List mmV → mmM → (Option mmV → mmM → Prop) → Prop)} (h00 : va_AO "PostStones$Row" s00) (hL : ∃ f, mS mmLaw = some f)
    (hC : ∀ y, mmMB y = true → mS y = none → mmChk y = true) (hS : ∀ (d y : Nat) f, mmMB y = true → mS y = some f → mmMt l s00 (d + 1) (fun _ => f) y (mmNm y) (mmBy y) (mmMl y) (mmRt y)) :
    ∀ (d y : Nat), mmMB y = true → mmMt l s00 d (mmCall mS d) y (mmNm y) (mmBy y) (mmMl y) (mmRt y) := by
  intro d
  induction d with
  | zero => intro y _ a μ Q h; exact h.elim
  | succ d ih =>
    intro y hy a μ Q h D b X1 X2 ids ad ca tys sz
    cases hm : mS y with
    | some f =>
      have h' : f a μ Q := by
        have h := h
        simp only [mmCall, hm] at h
        exact h
      exact hS d y f hy hm a μ Q h' D b X1 X2 ids ad ca tys sz
    | none =>
      obtain ⟨hwd, h'⟩ : mmWd a ≤ mmMl y ∧ mmJ (mmCall mS d) (mmCd y) Q 0 (mmLs (mmMl y) a) [] μ := by
        have h := h
        simp only [mmCall, hm] at h
        exact h
      obtain ⟨f1, f2, f3, f4, f5⟩ := mmMB_inv hy
      obtain ⟨hp0, hBs⟩ := mmChk_inv (hC y hy hm)
      refine Met.ofW (cc := mmBy y) (maxL := mmMl y) (ret := mmRt y) f2 rfl ?_
      intro p e s m args below meth c s₁ B hml hv
      obtain ⟨rfl, rfl, hrel, hargs⟩ := hv
      have hts := atoms_spec (ws := Cond.code (mmNm y) (mmBy y) (mmMl y) (mmRt y) :: mmTs) B.pre
      have hE : mmEn p s m (a.map (mmCv ad)).toArray c (mmBy y) (mmOwn y) (mmMl y) := ⟨B.exec, B.bytes, hml, findClass_of_methodNamed B.named, fun w hw => hts w (List.mem_cons_of_mem _ hw)⟩
      have hX := mmCtx.ofRel hrel
      obtain ⟨r1, r2, r3, r4, r5, r6, r7, r8, r9, r10⟩ := id hrel
      have hRt := mm_ret (p := p) (l := l) (e := e) (R := mmRm (d + 1) μ.2.2.2.1 μ.2.2.2.2) (m := m) (below := below) (args := (a.map (mmCv ad)).toArray) (D := D) (b := b) (X1 := X1) (X2 := X2) (Q := Q) (rt := mmRt y) B.exec B.bytes B.returns B.notSynchronized hX
      have hlaw : ¬ (y == mmLaw) = true := by
        intro q
        obtain ⟨f, hf⟩ := hL
        rw [eq_of_beq q, hf] at hm
        cases hm
      have hbd := mm_body (below := below) (d := d) hE hX h00 ⟨Nat.le_refl _, Nat.le_refl _⟩ hRt (fun q => absurd q hlaw) (fun q => by
        have h1 := (name_of_methodNamed B.named B.method).1
        rw [h1]; exact (f5 (eq_of_beq q)).2.1) ih (fun q => absurd q hlaw) hBs h'
      rw [hp0] at hbd
      have hl := lv_entry (a.map (mmCv ad)) (n := mmMl y) (by rw [mmWd_lg]; exact hwd)
      rw [lg_entry_eq]
      generalize (lg_sl (a.map (mmCv ad)) ++ List.replicate (mmMl y - (lg_sl (a.map (mmCv ad))).length) Slot.unset).toArray = la at hl ⊢
      have I : mmInv D (va_A (mmW ids ad ca μ) s.heap.size) b X1 X2 ids ad s ids ad ca tys μ s.heap [] := ⟨r1, r3.self, va_S.rf, r2, r4, r5, fun o ho => ⟨ho, rfl⟩, r6, r7⟩
      exact hbd ids ad ca tys s.heap [] 0 0 la I (fun v hv => by cases hv) (fun v hv => hargs v (mmLs_mem hv)) ⟨mmLs_len hwd, by rw [mmLs_lv]; exact hl⟩ (by show 0 + _ ≤ μ.2.2.2.1; omega) (by show 0 + _ ≤ μ.2.2.2.2; omega)
