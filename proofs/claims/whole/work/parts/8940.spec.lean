/-! methods by their words; the special ones -/
def nmL : List Int := [672503392, 202964992, 620462080, 378998784, 659011763, 524555859, 550273024, 379001856]
def otL : List Int := [82888832, 407945824, 626478080, 659011744, 404455424, 553242624, 136104960, 404362240, 522190848, 48365568, 486146048]
/-- the static rows of words, at the start -/
def mmSt (s00 : State) (n : String) (L : List Int) : Prop := ∃ q : Nat, va_Z "PostStones$Words" n "[I" (.ref q) (fun a => s00.heap.size ≤ a) s00 s00.heap ∧ va_T .int q L.length (fun j => .int (Int32.ofInt (L.getD j 0))) (fun a => s00.heap.size ≤ a) s00 s00.heap
/-- .. and in a method's own state -/
def mmSq2 (s : State) (A : Nat → Prop) (n : String) (L : List Int) : Prop := ∃ q : Nat, va_Z "PostStones$Words" n "[I" (.ref q) A s s.heap ∧ va_T .int q L.length (fun j => .int (Int32.ofInt (L.getD j 0))) A s s.heap
theorem mmSt.use {s00 s : State} {A : Nat → Prop} {n : String} {L : List Int} (h : mmSt s00 n L) (hX : mmCtx s00 s A) : mmSq2 s A n L := by
  obtain ⟨q, h1, h2⟩ := h
  exact ⟨q, va_Z.narrow (va_Z.kept (va_Z.moved hX.2.2.2.2.1 h1) (fun a ha _ => hX.2.2.2.1 a ha)) (fun a ha => hX.2.1 a ha), va_T.narrow (va_T.kept (va_T.moved hX.2.2.2.2.1 h2) (fun a ha _ => hX.2.2.2.1 a ha)) (fun a ha => hX.2.1 a ha)⟩
theorem nmL_R : ∀ j : Nat, j < nmL.length → (-2147483648 ≤ nmL.getD j 0 ∧ nmL.getD j 0 ≤ 2147483647) := by decide
theorem otL_R : ∀ j : Nat, j < otL.length → (-2147483648 ≤ otL.getD j 0 ∧ otL.getD j 0 ≤ 2147483647) := by decide
/-- a method is entered -/
theorem mm_enter {l : Launch} {s00 : State} {dd y : Nat} {F : List mmV → mmM → (Option mmV → mmM → Prop) → Prop} (hy : mmMB y = true)
    (hF : ∀ (a : List mmV) (μ : mmM) (Q : Option mmV → mmM → Prop), F a μ Q → mmWd a ≤ mmMl y ∧ ∀ (p : Program) (e : Env) (s : State) (m : MethodId) (args : Array Value) (below : List Frame) (meth : Method) (c : Code) (QW : State → Prop) (D : va_G) (A : Nat → Prop) (b : Nat) (X1 X2 : Int → Int) (ids0 : List mmO) (ad0 : mmO → Nat), mmEn p s m args c (mmBy y) (mmOwn y) (mmMl y) → mmCtx s00 s A → meth.name = (mmNm y).name →
      mmRet p l e (mmRm dd μ.2.2.2.1 μ.2.2.2.2) s m args below meth c QW (mmBy y) D A b X1 X2 ids0 ad0 (mmRt y) Q → mmPt p l e (mmRm dd μ.2.2.2.1 μ.2.2.2.2) s m args below meth c QW (mmMl y) D A b X1 X2 ids0 ad0 0 (mmLs (mmMl y) a) [] μ) : mmMt l s00 dd (fun _ => F) y (mmNm y) (mmBy y) (mmMl y) (mmRt y) := by
  intro a μ Q h D b X1 X2 ids ad ca tys sz
  obtain ⟨hwd, hG⟩ := hF a μ Q h
  obtain ⟨f1, f2, f3, f4, f5⟩ := mmMB_inv hy
  refine Met.ofW (cc := mmBy y) (maxL := mmMl y) (ret := mmRt y) f2 rfl ?_
  intro p e s m args below meth c s₁ B hml hv
  obtain ⟨rfl, rfl, hrel, hargs⟩ := hv
  have hts := atoms_spec (ws := Cond.code (mmNm y) (mmBy y) (mmMl y) (mmRt y) :: mmTs) B.pre
  have hE : mmEn p s m (a.map (mmCv ad)).toArray c (mmBy y) (mmOwn y) (mmMl y) := ⟨B.exec, B.bytes, hml, findClass_of_methodNamed B.named, fun w hw => hts w (List.mem_cons_of_mem _ hw)⟩
  have hX := mmCtx.ofRel hrel
  obtain ⟨r1, r2, r3, r4, r5, r6, r7, r8, r9, r10⟩ := id hrel
  have hRt := mm_ret (p := p) (l := l) (e := e) (R := mmRm dd μ.2.2.2.1 μ.2.2.2.2) (m := m) (below := below) (args := (a.map (mmCv ad)).toArray) (D := D) (b := b) (X1 := X1) (X2 := X2) (Q := Q) (rt := mmRt y) B.exec B.bytes B.returns B.notSynchronized hX
  have hbd := hG p e s m _ below meth c _ D _ b X1 X2 ids ad hE hX (name_of_methodNamed B.named B.method).1 hRt
  have hl := lv_entry (a.map (mmCv ad)) (n := mmMl y) (by rw [mmWd_lg]; exact hwd)
  rw [lg_entry_eq]
  generalize (lg_sl (a.map (mmCv ad)) ++ List.replicate (mmMl y - (lg_sl (a.map (mmCv ad))).length) Slot.unset).toArray = la at hl ⊢
  have I : mmInv D (va_A (mmW ids ad ca μ) s.heap.size) b X1 X2 ids ad s ids ad ca tys μ s.heap [] := ⟨r1, r3.self, va_S.rf, r2, r4, r5, fun o ho => ⟨ho, rfl⟩, r6, r7⟩
  exact hbd ids ad ca tys s.heap [] 0 0 la I (fun v hv => by cases hv) (fun v hv => hargs v (mmLs_mem hv)) ⟨mmLs_len hwd, by rw [mmLs_lv]; exact hl⟩ (by show 0 + _ ≤ μ.2.2.2.1; omega) (by show 0 + _ ≤ μ.2.2.2.2; omega)
/-- the small machine is sound, with a frame to spare -/
theorem mm_sound2 {l : Launch} {s00 : State} {mS : Nat → Option (List mmV → mmM → (Option mmV → mmM → Prop) → Prop)} (h00 : va_AO "PostStones$Row" s00) (hL : ∃ f, mS mmLaw = some f)
    (hC : ∀ y, mmMB y = true → mS y = none → mmChk y = true) (hS : ∀ (d y : Nat) f, mmMB y = true → mS y = some f → mmMt l s00 (d + 2) (fun _ => f) y (mmNm y) (mmBy y) (mmMl y) (mmRt y)) :
    ∀ (d y : Nat), mmMB y = true → mmMt l s00 (d + 1) (mmCall mS d) y (mmNm y) (mmBy y) (mmMl y) (mmRt y) := by
  intro d
  induction d with
  | zero => intro y _ a μ Q h; exact h.elim
  | succ d ih =>
    intro y hy a μ Q h
    cases hm : mS y with
    | some f =>
      have h' : f a μ Q := by
        have h := h
        simp only [mmCall, hm] at h
        exact h
      exact hS d y f hy hm a μ Q h'
    | none =>
      refine mm_enter (F := mmCall mS (d + 1) y) hy (fun a μ Q h => ?_) a μ Q h
      obtain ⟨hwd, h'⟩ : mmWd a ≤ mmMl y ∧ mmJ (mmCall mS d) (mmCd y) Q 0 (mmLs (mmMl y) a) [] μ := by
        have h := h
        simp only [mmCall, hm] at h
        exact h
      obtain ⟨hp0, hBs⟩ := mmChk_inv (hC y hy hm)
      obtain ⟨f1, f2, f3, f4, f5⟩ := mmMB_inv hy
      refine ⟨hwd, fun p e s m args below meth c QW D A b X1 X2 ids0 ad0 hE hX hnm hRt => ?_⟩
      have hlaw : ¬ (y == mmLaw) = true := by
        intro q
        obtain ⟨f, hf⟩ := hL
        rw [eq_of_beq q, hf] at hm
        cases hm
      have hbd := mm_body (below := below) (d := d + 1) hE hX h00 ⟨Nat.le_refl _, Nat.le_refl _⟩ hRt (fun q => absurd q hlaw) (fun q => by rw [hnm]; exact (f5 (eq_of_beq q)).2.1) ih (fun q => absurd q hlaw) hBs h'
      rw [hp0] at hbd
      exact hbd
section S8940
variable {p : Program} {l : Launch} {e : Env} {RR : Room} {s : State} {m : MethodId} {args : Array Value} {below : List Frame} {meth : Method} {c : Code} {QW : State → Prop}
variable {cc : ByteArray} {own : String} {nL : Nat} {D : va_G} {A : Nat → Prop} {b : Nat} {X1 X2 : Int → Int} {ids0 : List mmO} {ad0 : mmO → Nat}
variable {ls : List (Option mmV)} {st : List mmV} {μ : mmM} {s00 : State} {pc d idx : Nat} {n : String} {L : List Int} {w i : Int}
theorem mo_stLen (hE : mmEn p s m args c cc "PostStones$Words" nL) (hq : mmSq2 s A n L) (hL : L.length < 100) (hw : Cond.fieldLink "PostStones$Words" idx "PostStones$Words" n "[I" ∈ mmTs) (hd1 : decode cc pc = .ok (.getstatic idx, 3)) (hd2 : decode cc (pc + 3) = .ok (.arraylength, 1)) (hk : mmPt p l e RR s m args below meth c QW nL D A b X1 X2 ids0 ad0 (pc + 3 + 1) ls (.inl L.length :: st) μ) : mmPt p l e RR s m args below meth c QW nL D A b X1 X2 ids0 ad0 pc ls st μ := by
  obtain ⟨q, h1, h2⟩ := hq
  intro ids ad ca tys H locs cells slots la I ho hl Lr rc rs
  refine va_gets hE.1 hE.2.1 h1 I.2.2.1 hE.2.2.2.1 (hE.2.2.2.2 _ hw) (fun x h => h) hd1 ?_
  refine va_tlen hE.1 hE.2.1 h2 I.2.2.1 (v := Int32.ofInt (L.length : Int)) (by first | rfl | simp [Int32.ofInt_eq_ofNat]) hd2 ?_
  exact hk ids ad ca tys H locs cells slots la I (List.forall_mem_cons.mpr ⟨by show mmR32 _; unfold mmR32; omega, ho⟩) hl Lr rc rs
theorem mo_stEl (hE : mmEn p s m args c cc "PostStones$Words" 2) (hq : mmSq2 s A n L) (hL : L.length < 100) (hLR : ∀ j : Nat, j < L.length → (-2147483648 ≤ L.getD j 0 ∧ L.getD j 0 ≤ 2147483647)) (hw : Cond.fieldLink "PostStones$Words" idx "PostStones$Words" n "[I" ∈ mmTs) (hd1 : decode cc pc = .ok (.getstatic idx, 3)) (hd2 : decode cc (pc + 3) = .ok (.iload_n 1, 1)) (hd3 : decode cc (pc + 3 + 1) = .ok (.iaload, 1)) (h0 : 0 ≤ i) (h1 : i < L.length) (hk : mmPt p l e RR s m args below meth c QW 2 D A b X1 X2 ids0 ad0 (pc + 3 + 1 + 1) [some (.inl w), some (.inl i)] (.inl (L.getD i.toNat 0) :: st) μ) : mmPt p l e RR s m args below meth c QW 2 D A b X1 X2 ids0 ad0 pc [some (.inl w), some (.inl i)] st μ := by
  obtain ⟨q, g1, g2⟩ := hq
  intro ids ad ca tys H locs cells slots la I ho hl Lr rc rs
  have hi : mmR32 i := by unfold mmR32; omega
  have hcl := mm_cl hi
  refine va_gets hE.1 hE.2.1 g1 I.2.2.1 hE.2.2.2.1 (hE.2.2.2.2 _ hw) (fun x h => h) hd1 ?_
  refine lv_iload_n hE.1 hE.2.1 hd2 rfl (Lr.get (i := 1) (v := .inl i) rfl) ?_
  refine va_ti hE.1 hE.2.1 g2 I.2.2.1 (mm_in hi h0 h1) (v := .int (Int32.ofInt (L.getD i.toNat 0))) (by rw [hcl]) hd3 ?_
  exact hk ids ad ca tys H locs cells slots la I (List.forall_mem_cons.mpr ⟨hLR i.toNat (by omega), ho⟩) hl Lr rc rs
theorem d97_0 : decode (mmBy 97) 0 = .ok (.iconst 0, 1) := by decide +kernel
theorem d97_1 : decode (mmBy 97) 1 = .ok (.istore_n 1, 1) := by decide +kernel
theorem d97_2 : decode (mmBy 97) 2 = .ok (.iload_n 1, 1) := by decide +kernel
theorem d97_3 : decode (mmBy 97) 3 = .ok (.getstatic 9, 3) := by decide +kernel
theorem d97_6 : decode (mmBy 97) 6 = .ok (.arraylength, 1) := by decide +kernel
theorem d97_7 : decode (mmBy 97) 7 = .ok (.if_icmp .ge 20, 3) := by decide +kernel
theorem d97_10 : decode (mmBy 97) 10 = .ok (.getstatic 9, 3) := by decide +kernel
theorem d97_13 : decode (mmBy 97) 13 = .ok (.iload_n 1, 1) := by decide +kernel
theorem d97_14 : decode (mmBy 97) 14 = .ok (.iaload, 1) := by decide +kernel
theorem d97_15 : decode (mmBy 97) 15 = .ok (.iload_n 0, 1) := by decide +kernel
theorem d97_16 : decode (mmBy 97) 16 = .ok (.if_icmp .ne 5, 3) := by decide +kernel
theorem d97_20 : decode (mmBy 97) 20 = .ok (.ireturn, 1) := by decide +kernel
theorem d97_21 : decode (mmBy 97) 21 = .ok (.iinc 1 1, 3) := by decide +kernel
theorem d97_24 : decode (mmBy 97) 24 = .ok (.goto (-22), 3) := by decide +kernel
theorem d97_19 : decode (mmBy 97) 19 = .ok (.iload_n 1, 1) := by decide +kernel
theorem d97_27 : decode (mmBy 97) 27 = .ok (.iconst (-1), 1) := by decide +kernel
theorem d97_28 : decode (mmBy 97) 28 = .ok (.ireturn, 1) := by decide +kernel
theorem d98_0 : decode (mmBy 98) 0 = .ok (.iconst 0, 1) := by decide +kernel
theorem d98_1 : decode (mmBy 98) 1 = .ok (.istore_n 1, 1) := by decide +kernel
theorem d98_2 : decode (mmBy 98) 2 = .ok (.iload_n 1, 1) := by decide +kernel
theorem d98_3 : decode (mmBy 98) 3 = .ok (.getstatic 15, 3) := by decide +kernel
theorem d98_6 : decode (mmBy 98) 6 = .ok (.arraylength, 1) := by decide +kernel
theorem d98_7 : decode (mmBy 98) 7 = .ok (.if_icmp .ge 20, 3) := by decide +kernel
theorem d98_10 : decode (mmBy 98) 10 = .ok (.getstatic 15, 3) := by decide +kernel
theorem d98_13 : decode (mmBy 98) 13 = .ok (.iload_n 1, 1) := by decide +kernel
theorem d98_14 : decode (mmBy 98) 14 = .ok (.iaload, 1) := by decide +kernel
theorem d98_15 : decode (mmBy 98) 15 = .ok (.iload_n 0, 1) := by decide +kernel
theorem d98_16 : decode (mmBy 98) 16 = .ok (.if_icmp .ne 5, 3) := by decide +kernel
theorem d98_20 : decode (mmBy 98) 20 = .ok (.ireturn, 1) := by decide +kernel
theorem d98_21 : decode (mmBy 98) 21 = .ok (.iinc 1 1, 3) := by decide +kernel
theorem d98_24 : decode (mmBy 98) 24 = .ok (.goto (-22), 3) := by decide +kernel
theorem d98_19 : decode (mmBy 98) 19 = .ok (.iconst 1, 1) := by decide +kernel
theorem d98_27 : decode (mmBy 98) 27 = .ok (.iload_n 0, 1) := by decide +kernel
theorem d98_28 : decode (mmBy 98) 28 = .ok (.invokestatic 18, 3) := by decide +kernel
theorem d98_31 : decode (mmBy 98) 31 = .ok (.iconst (-1), 1) := by decide +kernel
theorem d98_32 : decode (mmBy 98) 32 = .ok (.if_icmp .eq 7, 3) := by decide +kernel
theorem d98_35 : decode (mmBy 98) 35 = .ok (.iconst 1, 1) := by decide +kernel
theorem d98_36 : decode (mmBy 98) 36 = .ok (.goto 4, 3) := by decide +kernel
theorem d98_39 : decode (mmBy 98) 39 = .ok (.iconst 0, 1) := by decide +kernel
theorem d98_40 : decode (mmBy 98) 40 = .ok (.ireturn, 1) := by decide +kernel
theorem fl_97 : Cond.fieldLink "PostStones$Words" 9 "PostStones$Words" "NAMES" "[I" ∈ mmTs := mmWb_in (k := 609) (by decide +kernel)
theorem fl_98 : Cond.fieldLink "PostStones$Words" 15 "PostStones$Words" "OTHER_WORDS" "[I" ∈ mmTs := mmWb_in (k := 604) (by decide +kernel)
theorem sp_97 {d : Nat} (h0 : mmSt s00 "NAMES" nmL) : mmMt l s00 (d + 1) (fun _ => fun a μ Q => mmI1 a.head? fun w => a.tail = [] ∧ Q (some (.inl (mmName w))) μ) 97 (mmNm 97) (mmBy 97) (mmMl 97) (mmRt 97) := by
  refine mm_enter (by decide +kernel) (fun a μ Q h => ?_)
  obtain ⟨w, hw, hQ⟩ : ∃ w, a = [.inl w] ∧ Q (some (.inl (mmName w))) μ := by
    obtain ⟨w, e1, e2, e3⟩ := mmI1_inv h
    cases a with
    | nil => cases e1
    | cons x r =>
      have : x = .inl w := by simpa using e1
      have : r = [] := e2
      subst_vars
      exact ⟨w, rfl, e3⟩
  subst hw
  obtain ⟨I, R, X⟩ := μ
  refine ⟨Nat.le_of_ble_eq_true rfl, fun p e s m args below meth c QW D A b X1 X2 ids0 ad0 hE hX _ hRt => ?_⟩
  have hst := h0.use hX
  have s19 : ∀ i : Nat, i < 8 → nmL.getD i 0 = w → (mmPt p l e (mmRm (d + 1) X.2.1 X.2.2) s m args below meth c QW 2 D A b X1 X2 ids0 ad0 19 [some (.inl w), some (.inl (i : Int))] [] (I, R, X)) := by
    intro i hi c9
    refine mo_iload_n (C := fun _ _ _ _ => False) (J := fun _ _ _ _ => False) (Q := Q) (pay := []) (cst := 0) hE d97_19 (fun _ _ _ q => q) ?_
    refine mo_ireturn (C := fun _ _ _ _ => False) (J := fun _ _ _ _ => False) (κ := fun _ _ _ => False) (pay := [0]) (cst := 0) hRt d97_20 (Or.inl rfl) ?_
    refine ⟨fun q => (by cases q), ?_⟩
    have e : mmName w = i := by
      have : i = 0 ∨ i = 1 ∨ i = 2 ∨ i = 3 ∨ i = 4 ∨ i = 5 ∨ i = 6 ∨ i = 7 := by omega
      rcases this with q | q | q | q | q | q | q | q <;> subst q <;> rw [← c9] <;> decide
    rw [← e]; exact hQ
  have s27 : ∀ i : Nat, i + 0 = 8 → (∀ j : Nat, j < i → ¬ nmL.getD j 0 = w) → (mmPt p l e (mmRm (d + 1) X.2.1 X.2.2) s m args below meth c QW 2 D A b X1 X2 ids0 ad0 27 [some (.inl w), some (.inl (i : Int))] [] (I, R, X)) := by
    intro i hi hne
    refine mo_iconst (C := fun _ _ _ _ => False) (J := fun _ _ _ _ => False) (Q := Q) (pay := []) (cst := 0) hE d97_27 (by unfold mmR32; decide) (fun _ _ _ q => q) ?_
    refine mo_ireturn (C := fun _ _ _ _ => False) (J := fun _ _ _ _ => False) (κ := fun _ _ _ => False) (pay := [0]) (cst := 0) hRt d97_28 (Or.inl rfl) ?_
    refine ⟨fun q => (by cases q), ?_⟩
    have e : mmName w = -1 := by
      have g : ∀ (j : Nat) (v : Int), j < 8 → nmL.getD j 0 = v → ¬ w = v := fun j v hj hv q => hne j (by omega) (by rw [hv, q])
      unfold mmName
      rw [if_neg (g 0 672503392 (by decide) rfl), if_neg (g 1 202964992 (by decide) rfl), if_neg (g 2 620462080 (by decide) rfl), if_neg (g 3 378998784 (by decide) rfl), if_neg (g 4 659011763 (by decide) rfl), if_neg (g 5 524555859 (by decide) rfl), if_neg (g 6 550273024 (by decide) rfl), if_neg (g 7 379001856 (by decide) rfl)]
    rw [← e]; exact hQ
  have key : ∀ (r i : Nat), i + r = 8 → (∀ j : Nat, j < i → ¬ nmL.getD j 0 = w) → (mmPt p l e (mmRm (d + 1) X.2.1 X.2.2) s m args below meth c QW 2 D A b X1 X2 ids0 ad0 2 [some (.inl w), some (.inl (i : Int))] [] (I, R, X)) := by
    intro r
    induction r with
    | zero =>
      intro i hi hne
      refine mo_iload_n (C := fun _ _ _ _ => False) (J := fun _ _ _ _ => False) (Q := Q) (pay := []) (cst := 0) hE d97_2 (fun _ _ _ q => q) ?_
      refine mo_stLen hE hst (by decide) fl_97 d97_3 d97_6 ?_
      refine mo_if_icmp (C := fun _ _ _ _ => False) (J := fun _ ls st μ => mmPt p l e (mmRm (d + 1) X.2.1 X.2.2) s m args below meth c QW 2 D A b X1 X2 ids0 ad0 27 ls st μ) (Q := Q) (pay := [0]) (cst := 0) hE d97_7 (tgt := 27) rfl (fun _ _ _ q => q) (fun _ _ _ q => q) ?_
      exact ⟨fun _ => s27 i hi hne, fun c9 => absurd c9 (by show ¬ ((i : Int) < ((nmL.length : Nat) : Int)); have : nmL.length = 8 := rfl; omega)⟩
    | succ r ih =>
      intro i hi hne
      have hlt : (i : Int) < ((nmL.length : Nat) : Int) := by have : nmL.length = 8 := rfl; omega
      refine mo_iload_n (C := fun _ _ _ _ => False) (J := fun _ _ _ _ => False) (Q := Q) (pay := []) (cst := 0) hE d97_2 (fun _ _ _ q => q) ?_
      refine mo_stLen hE hst (by decide) fl_97 d97_3 d97_6 ?_
      refine mo_if_icmp (C := fun _ _ _ _ => False) (J := fun _ ls st μ => mmPt p l e (mmRm (d + 1) X.2.1 X.2.2) s m args below meth c QW 2 D A b X1 X2 ids0 ad0 27 ls st μ) (Q := Q) (pay := [0]) (cst := 0) hE d97_7 (tgt := 27) rfl (fun _ _ _ q => q) (fun _ _ _ q => q) ?_
      refine ⟨fun c9 => absurd hlt (by show ¬ ((i : Int) < ((nmL.length : Nat) : Int)); exact Int.not_lt.mpr c9), fun _ => ?_⟩
      refine mo_stEl (i := (i : Int)) (w := w) hE hst (by decide) nmL_R fl_97 d97_10 d97_13 d97_14 (by omega) hlt ?_
      refine mo_iload_n (C := fun _ _ _ _ => False) (J := fun _ _ _ _ => False) (Q := Q) (pay := []) (cst := 0) hE d97_15 (fun _ _ _ q => q) ?_
      refine mo_if_icmp (C := fun _ _ _ _ => False) (J := fun _ ls st μ => mmPt p l e (mmRm (d + 1) X.2.1 X.2.2) s m args below meth c QW 2 D A b X1 X2 ids0 ad0 21 ls st μ) (Q := Q) (pay := [0]) (cst := 0) hE d97_16 (tgt := 21) rfl (fun _ _ _ q => q) (fun _ _ _ q => q) ?_
      refine ⟨fun c9 => ?_, fun c9 => ?_⟩
      · refine mo_iinc (C := fun _ _ _ _ => False) (J := fun _ _ _ _ => False) (Q := Q) (pay := []) (cst := 0) hE d97_21 (by decide) (fun _ _ _ q => q) ?_
        refine ⟨by unfold mmR32; omega, ?_⟩
        refine mo_goto (C := fun _ _ _ _ => False) (J := fun _ ls st μ => mmPt p l e (mmRm (d + 1) X.2.1 X.2.2) s m args below meth c QW 2 D A b X1 X2 ids0 ad0 2 ls st μ) (Q := Q) (κ := fun _ _ _ => False) (pay := [0]) (cst := 0) hE d97_24 (tgt := 2) rfl (fun _ _ _ q => q) ?_
        exact ih (i + 1) (by omega) (fun j hj => by
          by_cases q : j = i
          · subst q; exact c9
          · exact hne j (by omega))
      · exact s19 i (by omega) c9
  refine mo_iconst (C := fun _ _ _ _ => False) (J := fun _ _ _ _ => False) (Q := Q) (pay := []) (cst := 0) hE d97_0 (by unfold mmR32; decide) (fun _ _ _ q => q) ?_
  refine mo_istore_n (C := fun _ _ _ _ => False) (J := fun _ _ _ _ => False) (Q := Q) (pay := []) (cst := 0) hE d97_1 (by decide) (fun _ _ _ q => q) ?_
  exact key 8 0 rfl (fun j hj => by omega)

theorem ml_97 : Cond.methodLink "PostStones$Words" 18 (mmNm 97) ∈ mmTs := mmWb_in (k := 606) (by decide +kernel)
theorem sp_98 {d : Nat} (hn0 : mmSt s00 "NAMES" nmL) (h0 : mmSt s00 "OTHER_WORDS" otL) : mmMt l s00 (d + 2) (fun _ => fun a μ Q => mmI1 a.head? fun w => a.tail = [] ∧ Q (some (.inl (mmLang w))) μ) 98 (mmNm 98) (mmBy 98) (mmMl 98) (mmRt 98) := by
  refine mm_enter (by decide +kernel) (fun a μ Q h => ?_)
  obtain ⟨w, hw, hQ⟩ : ∃ w, a = [.inl w] ∧ Q (some (.inl (mmLang w))) μ := by
    obtain ⟨w, e1, e2, e3⟩ := mmI1_inv h
    cases a with
    | nil => cases e1
    | cons x r =>
      have : x = .inl w := by simpa using e1
      have : r = [] := e2
      subst_vars
      exact ⟨w, rfl, e3⟩
  subst hw
  obtain ⟨I, R, X⟩ := μ
  refine ⟨Nat.le_of_ble_eq_true rfl, fun p e s m args below meth c QW D A b X1 X2 ids0 ad0 hE hX _ hRt => ?_⟩
  have hst := h0.use hX
  have s19 : ∀ i : Nat, i < 11 → otL.getD i 0 = w → (mmPt p l e (mmRm (d + 2) X.2.1 X.2.2) s m args below meth c QW 2 D A b X1 X2 ids0 ad0 19 [some (.inl w), some (.inl (i : Int))] [] (I, R, X)) := by
    intro i hi c9
    refine mo_iconst (C := fun _ _ _ _ => False) (J := fun _ _ _ _ => False) (Q := Q) (pay := []) (cst := 0) hE d98_19 (by unfold mmR32; decide) (fun _ _ _ q => q) ?_
    refine mo_ireturn (C := fun _ _ _ _ => False) (J := fun _ _ _ _ => False) (κ := fun _ _ _ => False) (pay := [1]) (cst := 0) hRt d98_20 (Or.inr ⟨rfl, rfl⟩) ?_
    refine ⟨fun _ => Or.inr rfl, ?_⟩
    have e : mmLang w = 1 := by
      have : i = 0 ∨ i = 1 ∨ i = 2 ∨ i = 3 ∨ i = 4 ∨ i = 5 ∨ i = 6 ∨ i = 7 ∨ i = 8 ∨ i = 9 ∨ i = 10 := by omega
      rcases this with q | q | q | q | q | q | q | q | q | q | q <;> subst q <;> rw [← c9] <;> decide
    rw [← e]; exact hQ
  have s40 : ∀ (i z : Int), z = mmLang w → z = 0 ∨ z = 1 → (mmPt p l e (mmRm (d + 2) X.2.1 X.2.2) s m args below meth c QW 2 D A b X1 X2 ids0 ad0 40 [some (.inl w), some (.inl i)] [.inl z] (I, R, X)) := by
    intro i z hz h01
    refine mo_ireturn (C := fun _ _ _ _ => False) (J := fun _ _ _ _ => False) (κ := fun _ _ _ => False) (pay := [1]) (cst := 0) hRt d98_40 (Or.inr ⟨rfl, rfl⟩) ?_
    refine ⟨fun _ => h01, ?_⟩
    rw [hz]; exact hQ
  have s27 : ∀ i : Nat, i + 0 = 11 → (∀ j : Nat, j < i → ¬ otL.getD j 0 = w) → (mmPt p l e (mmRm (d + 2) X.2.1 X.2.2) s m args below meth c QW 2 D A b X1 X2 ids0 ad0 27 [some (.inl w), some (.inl (i : Int))] [] (I, R, X)) := by
    intro i hi hne
    have g : ∀ (j : Nat) (v : Int), j < 11 → otL.getD j 0 = v → ¬ w = v := fun j v hj hv q => hne j (by omega) (by rw [hv, q])
    have eo : mmOther w = false := by
      unfold mmOther
      rw [decide_eq_false (g 0 82888832 (by decide) rfl), decide_eq_false (g 1 407945824 (by decide) rfl), decide_eq_false (g 2 626478080 (by decide) rfl), decide_eq_false (g 3 659011744 (by decide) rfl), decide_eq_false (g 4 404455424 (by decide) rfl), decide_eq_false (g 5 553242624 (by decide) rfl), decide_eq_false (g 6 136104960 (by decide) rfl), decide_eq_false (g 7 404362240 (by decide) rfl), decide_eq_false (g 8 522190848 (by decide) rfl), decide_eq_false (g 9 48365568 (by decide) rfl), decide_eq_false (g 10 486146048 (by decide) rfl)]
      rfl
    obtain ⟨f1, f2, f3, f4, f5⟩ := mmMB_inv (y := 97) (by decide +kernel)
    refine mo_iload_n (C := fun _ _ _ _ => False) (J := fun _ _ _ _ => False) (Q := Q) (pay := []) (cst := 0) hE d98_27 (fun _ _ _ q => q) ?_
    refine mo_invS (kd := 1) (y := 97) (n := 1) (mc := 0) (ms := 0) (pl := 0) (C := fun _ => fun a μ Q => mmI1 a.head? fun w => a.tail = [] ∧ Q (some (.inl (mmName w))) μ) (J := fun _ _ _ _ => False) (Q := Q) (cst := 0) (d := d + 1) hE hX ⟨Nat.le_refl _, Nat.le_refl _⟩ d98_28 (sp_97 hn0) f1 ml_97 (f4 (by decide +kernel)) (fun _ _ _ q => q) ?_
    refine ⟨Nat.le_of_ble_eq_true rfl, Nat.zero_le _, Nat.zero_le _, rfl, ?_⟩
    refine mo_iconst (C := fun _ _ _ _ => False) (J := fun _ _ _ _ => False) (Q := Q) (pay := []) (cst := 0) hE d98_31 (by unfold mmR32; decide) (fun _ _ _ q => q) ?_
    refine mo_if_icmp (C := fun _ _ _ _ => False) (J := fun _ ls st μ => mmPt p l e (mmRm (d + 2) X.2.1 X.2.2) s m args below meth c QW 2 D A b X1 X2 ids0 ad0 39 ls st μ) (Q := Q) (pay := [0]) (cst := 0) hE d98_32 (tgt := 39) rfl (fun _ _ _ q => q) (fun _ _ _ q => q) ?_
    refine ⟨fun c9 => ?_, fun c9 => ?_⟩
    · refine mo_iconst (C := fun _ _ _ _ => False) (J := fun _ _ _ _ => False) (Q := Q) (pay := []) (cst := 0) hE d98_39 (by unfold mmR32; decide) (fun _ _ _ q => q) ?_
      exact s40 i 0 (by unfold mmLang; rw [eo, if_neg (by decide), if_pos c9]) (Or.inl rfl)
    · refine mo_iconst (C := fun _ _ _ _ => False) (J := fun _ _ _ _ => False) (Q := Q) (pay := []) (cst := 0) hE d98_35 (by unfold mmR32; decide) (fun _ _ _ q => q) ?_
      refine mo_goto (C := fun _ _ _ _ => False) (J := fun _ ls st μ => mmPt p l e (mmRm (d + 2) X.2.1 X.2.2) s m args below meth c QW 2 D A b X1 X2 ids0 ad0 40 ls st μ) (Q := Q) (κ := fun _ _ _ => False) (pay := [0]) (cst := 0) hE d98_36 (tgt := 40) rfl (fun _ _ _ q => q) ?_
      exact s40 i 1 (by unfold mmLang; rw [eo, if_neg (by decide), if_neg c9]) (Or.inr rfl)
  have key : ∀ (r i : Nat), i + r = 11 → (∀ j : Nat, j < i → ¬ otL.getD j 0 = w) → (mmPt p l e (mmRm (d + 2) X.2.1 X.2.2) s m args below meth c QW 2 D A b X1 X2 ids0 ad0 2 [some (.inl w), some (.inl (i : Int))] [] (I, R, X)) := by
    intro r
    induction r with
    | zero =>
      intro i hi hne
      refine mo_iload_n (C := fun _ _ _ _ => False) (J := fun _ _ _ _ => False) (Q := Q) (pay := []) (cst := 0) hE d98_2 (fun _ _ _ q => q) ?_
      refine mo_stLen hE hst (by decide) fl_98 d98_3 d98_6 ?_
      refine mo_if_icmp (C := fun _ _ _ _ => False) (J := fun _ ls st μ => mmPt p l e (mmRm (d + 2) X.2.1 X.2.2) s m args below meth c QW 2 D A b X1 X2 ids0 ad0 27 ls st μ) (Q := Q) (pay := [0]) (cst := 0) hE d98_7 (tgt := 27) rfl (fun _ _ _ q => q) (fun _ _ _ q => q) ?_
      exact ⟨fun _ => s27 i hi hne, fun c9 => absurd c9 (by show ¬ ((i : Int) < ((otL.length : Nat) : Int)); have : otL.length = 11 := rfl; omega)⟩
    | succ r ih =>
      intro i hi hne
      have hlt : (i : Int) < ((otL.length : Nat) : Int) := by have : otL.length = 11 := rfl; omega
      refine mo_iload_n (C := fun _ _ _ _ => False) (J := fun _ _ _ _ => False) (Q := Q) (pay := []) (cst := 0) hE d98_2 (fun _ _ _ q => q) ?_
      refine mo_stLen hE hst (by decide) fl_98 d98_3 d98_6 ?_
      refine mo_if_icmp (C := fun _ _ _ _ => False) (J := fun _ ls st μ => mmPt p l e (mmRm (d + 2) X.2.1 X.2.2) s m args below meth c QW 2 D A b X1 X2 ids0 ad0 27 ls st μ) (Q := Q) (pay := [0]) (cst := 0) hE d98_7 (tgt := 27) rfl (fun _ _ _ q => q) (fun _ _ _ q => q) ?_
      refine ⟨fun c9 => absurd hlt (by show ¬ ((i : Int) < ((otL.length : Nat) : Int)); exact Int.not_lt.mpr c9), fun _ => ?_⟩
      refine mo_stEl (i := (i : Int)) (w := w) hE hst (by decide) otL_R fl_98 d98_10 d98_13 d98_14 (by omega) hlt ?_
      refine mo_iload_n (C := fun _ _ _ _ => False) (J := fun _ _ _ _ => False) (Q := Q) (pay := []) (cst := 0) hE d98_15 (fun _ _ _ q => q) ?_
      refine mo_if_icmp (C := fun _ _ _ _ => False) (J := fun _ ls st μ => mmPt p l e (mmRm (d + 2) X.2.1 X.2.2) s m args below meth c QW 2 D A b X1 X2 ids0 ad0 21 ls st μ) (Q := Q) (pay := [0]) (cst := 0) hE d98_16 (tgt := 21) rfl (fun _ _ _ q => q) (fun _ _ _ q => q) ?_
      refine ⟨fun c9 => ?_, fun c9 => ?_⟩
      · refine mo_iinc (C := fun _ _ _ _ => False) (J := fun _ _ _ _ => False) (Q := Q) (pay := []) (cst := 0) hE d98_21 (by decide) (fun _ _ _ q => q) ?_
        refine ⟨by unfold mmR32; omega, ?_⟩
        refine mo_goto (C := fun _ _ _ _ => False) (J := fun _ ls st μ => mmPt p l e (mmRm (d + 2) X.2.1 X.2.2) s m args below meth c QW 2 D A b X1 X2 ids0 ad0 2 ls st μ) (Q := Q) (κ := fun _ _ _ => False) (pay := [0]) (cst := 0) hE d98_24 (tgt := 2) rfl (fun _ _ _ q => q) ?_
        exact ih (i + 1) (by omega) (fun j hj => by
          by_cases q : j = i
          · subst q; exact c9
          · exact hne j (by omega))
      · exact s19 i (by omega) c9
  refine mo_iconst (C := fun _ _ _ _ => False) (J := fun _ _ _ _ => False) (Q := Q) (pay := []) (cst := 0) hE d98_0 (by unfold mmR32; decide) (fun _ _ _ q => q) ?_
  refine mo_istore_n (C := fun _ _ _ _ => False) (J := fun _ _ _ _ => False) (Q := Q) (pay := []) (cst := 0) hE d98_1 (by decide) (fun _ _ _ q => q) ?_
  exact key 11 0 rfl (fun j hj => by omega)
end S8940
