theorem mmI1_mono {o : Option mmV} {f g : Int → Prop} (h : ∀ z, f z → g z) : mmI1 o f → mmI1 o g := by
  unfold mmI1; split <;> first | exact h _ | exact id
theorem mmL1_mono {o : Option mmV} {f g : Int → Prop} (h : ∀ z, f z → g z) : mmL1 o f → mmL1 o g := by
  unfold mmL1; split <;> first | exact h _ | exact id
theorem mmA1_mono {o : Option mmV} {f g : Option mmO → Prop} (h : ∀ z, f z → g z) : mmA1 o f → mmA1 o g := by
  unfold mmA1; split <;> first | exact h _ | exact id
theorem mmPi_mono {st : List mmV} {f g : Int → List mmV → Prop} (h : ∀ z r, f z r → g z r) : mmPi st f → mmPi st g := by
  unfold mmPi; split <;> first | exact h _ _ | exact id
theorem mmPl_mono {st : List mmV} {f g : Int → List mmV → Prop} (h : ∀ z r, f z r → g z r) : mmPl st f → mmPl st g := by
  unfold mmPl; split <;> first | exact h _ _ | exact id
theorem mmPa_mono {st : List mmV} {f g : Option mmO → List mmV → Prop} (h : ∀ z r, f z r → g z r) : mmPa st f → mmPa st g := by
  unfold mmPa; split <;> first | exact h _ _ | exact id
theorem mmPo_mono {st : List mmV} {f g : mmO → List mmV → Prop} (h : ∀ z r, f z r → g z r) : mmPo st f → mmPo st g := by
  unfold mmPo; split <;> first | exact h _ _ | exact id
theorem mmP1_mono {st : List mmV} {f g : mmV → List mmV → Prop} (h : ∀ z r, f z r → g z r) : mmP1 st f → mmP1 st g := by
  unfold mmP1; split <;> first | exact h _ _ | exact id
theorem mmTk_mono {f g : List mmV → List mmV → Prop} (h : ∀ a r, f a r → g a r) : ∀ (n : Nat) (st acc : List mmV), mmTk n st acc f → mmTk n st acc g
  | 0, _, _ => h _ _
  | n + 1, v :: st, acc => mmTk_mono h n st (v :: acc)
  | _ + 1, [], _ => id
theorem mmSw_mono {z : Int} {K K' : Nat → Prop} (h : ∀ t, K t → K' t) : ∀ (ts : List Nat) (lo : Int), mmSw z K lo ts → mmSw z K' lo ts
  | [], _ => id
  | t :: ts, lo => fun q => ⟨fun e => h t (q.1 e), mmSw_mono h ts (lo + 1) q.2⟩
theorem mmLk_mono {z : Int} {K K' : Nat → Prop} {d : Nat} (h : ∀ t, K t → K' t) : ∀ (ks : List Int) (ts : List Nat), mmLk z K d ks ts → mmLk z K' d ks ts
  | [], _ => h d
  | k :: ks, t :: ts => fun q => ⟨fun e => h t (q.1 e), fun e => mmLk_mono h ks ts (q.2 e)⟩
  | _ :: _, [] => id
theorem mmIf_mono {c : Jvm.ClassFile.Cond} {x y : Int} {a b a' b' : Prop} (ha : a → a') (hb : b → b') : mmIf c x y a b → mmIf c x y a' b' := by
  cases c <;> exact fun q => ⟨fun e => ha (q.1 e), fun e => hb (q.2 e)⟩
set_option maxHeartbeats 2000000 in
theorem mmStep_mono {C C' : Nat → List mmV → mmM → (Option mmV → mmM → Prop) → Prop} {J J' : Nat → List (Option mmV) → List mmV → mmM → Prop} {Q Q' : Option mmV → mmM → Prop} {k k' : List (Option mmV) → List mmV → mmM → Prop}
    (hC : ∀ y a μ P P', (∀ r w, P r w → P' r w) → C y a μ P → C' y a μ P') (hJ : ∀ t ls st μ, J t ls st μ → J' t ls st μ) (hQ : ∀ r μ, Q r μ → Q' r μ) (hk : ∀ ls st μ, k ls st μ → k' ls st μ)
    (op : mmP) (ls : List (Option mmV)) (st : List mmV) (μ : mmM) : mmStep C J Q op k ls st μ → mmStep C' J' Q' op k' ls st μ := by
  obtain ⟨i, pay, cst⟩ := op
  cases i <;> simp only [mmStep] <;>
    first
    | exact id
    | (repeat' first
        | exact hk _ _ _
        | exact hJ _ _ _ _
        | exact hQ _ _
        | exact id
        | (refine mmI1_mono ?_; intro _)
        | (refine mmL1_mono ?_; intro _)
        | (refine mmA1_mono ?_; intro _)
        | (refine mmPi_mono ?_; intro _ _)
        | (refine mmPl_mono ?_; intro _ _)
        | (refine mmPa_mono ?_; intro _ _)
        | (refine mmPo_mono ?_; intro _ _)
        | (refine mmP1_mono ?_; intro _ _)
        | (refine mmTk_mono ?_ _ _ _; intro _ _)
        | (refine mmIf_mono ?_ ?_)
        | (refine mmLk_mono ?_ _ _; intro _)
        | (exact And.imp (mmSw_mono (fun t => hJ _ _ _ _) _ _) (fun h e => hJ _ _ _ _ (h e)))
        | (refine hC _ _ _ _ _ ?_; intro _ _)
        | (refine And.imp ?_ ?_)
        | (exact fun h e => hJ _ _ _ _ (h e))
        | (exact fun h e => hk _ _ _ (h e))
        | (exact fun e => hJ _ _ _ _ (by assumption))
        | split)
def mmWp (C : Nat → List mmV → mmM → (Option mmV → mmM → Prop) → Prop) (J : Nat → List (Option mmV) → List mmV → mmM → Prop) (Q : Option mmV → mmM → Prop) : List mmP → List (Option mmV) → List mmV → mmM → Prop
  | [], _, _, _ => False
  | op :: c, ls, st, μ => mmStep C J Q op (mmWp C J Q c) ls st μ
theorem mmWp_mono {C C' : Nat → List mmV → mmM → (Option mmV → mmM → Prop) → Prop} {J J' : Nat → List (Option mmV) → List mmV → mmM → Prop} {Q Q' : Option mmV → mmM → Prop}
    (hC : ∀ y a μ P P', (∀ r w, P r w → P' r w) → C y a μ P → C' y a μ P') (hJ : ∀ t ls st μ, J t ls st μ → J' t ls st μ) (hQ : ∀ r μ, Q r μ → Q' r μ) :
    ∀ (c : List mmP) (ls : List (Option mmV)) (st : List mmV) (μ : mmM), mmWp C J Q c ls st μ → mmWp C' J' Q' c ls st μ
  | [], _, _, _ => id
  | op :: c, ls, st, μ => mmStep_mono hC hJ hQ (fun ls st μ => mmWp_mono hC hJ hQ c ls st μ) op ls st μ
/-- from a label on, the method comes to its end with Q: the least such predicate -/
def mmJ (C : Nat → List mmV → mmM → (Option mmV → mmM → Prop) → Prop) (code : List mmP) (Q : Option mmV → mmM → Prop) (n : Nat) (ls : List (Option mmV)) (st : List mmV) (μ : mmM) : Prop :=
  ∀ P : Nat → List (Option mmV) → List mmV → mmM → Prop, (∀ n ls st μ, mmWp C P Q (code.drop n) ls st μ → P n ls st μ) → P n ls st μ
abbrev mmCm (C : Nat → List mmV → mmM → (Option mmV → mmM → Prop) → Prop) : Prop := ∀ y a μ (P P' : Option mmV → mmM → Prop), (∀ r w, P r w → P' r w) → C y a μ P → C y a μ P'
theorem mmJ.step {C : Nat → List mmV → mmM → (Option mmV → mmM → Prop) → Prop} (hC : mmCm C) {code : List mmP} {Q : Option mmV → mmM → Prop} {n : Nat} {ls : List (Option mmV)} {st : List mmV} {μ : mmM}
    (h : mmWp C (mmJ C code Q) Q (code.drop n) ls st μ) : mmJ C code Q n ls st μ :=
  fun P hP => hP n ls st μ (mmWp_mono hC (fun _ _ _ _ q => q P hP) (fun _ _ q => q) _ _ _ _ h)
theorem mmJ.mono {C C' : Nat → List mmV → mmM → (Option mmV → mmM → Prop) → Prop} {code : List mmP} {Q Q' : Option mmV → mmM → Prop} (hC : ∀ y a μ P P', (∀ r w, P r w → P' r w) → C y a μ P → C' y a μ P') (hQ : ∀ r μ, Q r μ → Q' r μ)
    {n : Nat} {ls : List (Option mmV)} {st : List mmV} {μ : mmM} (h : mmJ C code Q n ls st μ) : mmJ C' code Q' n ls st μ :=
  fun P hP => h P fun n ls st μ q => hP n ls st μ (mmWp_mono hC (fun _ _ _ _ q => q) hQ _ _ _ _ q)
/-- the locals with which a method begins -/
def mmLs : Nat → List mmV → List (Option mmV)
  | n, [] => List.replicate n none
  | n, v :: vs => match v with
    | .inr (.inl _) => some v :: none :: mmLs (n - 2) vs
    | _ => some v :: mmLs (n - 1) vs
