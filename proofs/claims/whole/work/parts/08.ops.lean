theorem mmI1_inv {o : Option mmV} {f : Int → Prop} (h : mmI1 o f) : ∃ z, o = some (.inl z) ∧ f z := by
  unfold mmI1 at h; split at h
  · exact ⟨_, rfl, h⟩
  · exact h.elim
theorem mmL1_inv {o : Option mmV} {f : Int → Prop} (h : mmL1 o f) : ∃ z, o = some (.inr (.inl z)) ∧ f z := by
  unfold mmL1 at h; split at h
  · exact ⟨_, rfl, h⟩
  · exact h.elim
theorem mmA1_inv {o : Option mmV} {f : Option mmO → Prop} (h : mmA1 o f) : ∃ z, o = some (.inr (.inr z)) ∧ f z := by
  unfold mmA1 at h; split at h
  · exact ⟨_, rfl, h⟩
  · exact h.elim
theorem mmPi_inv {st : List mmV} {f : Int → List mmV → Prop} (h : mmPi st f) : ∃ z r, st = .inl z :: r ∧ f z r := by
  unfold mmPi at h; split at h
  · exact ⟨_, _, rfl, h⟩
  · exact h.elim
theorem mmPl_inv {st : List mmV} {f : Int → List mmV → Prop} (h : mmPl st f) : ∃ z r, st = .inr (.inl z) :: r ∧ f z r := by
  unfold mmPl at h; split at h
  · exact ⟨_, _, rfl, h⟩
  · exact h.elim
theorem mmPa_inv {st : List mmV} {f : Option mmO → List mmV → Prop} (h : mmPa st f) : ∃ z r, st = .inr (.inr z) :: r ∧ f z r := by
  unfold mmPa at h; split at h
  · exact ⟨_, _, rfl, h⟩
  · exact h.elim
theorem mmPo_inv {st : List mmV} {f : mmO → List mmV → Prop} (h : mmPo st f) : ∃ z r, st = .inr (.inr (some z)) :: r ∧ f z r := by
  unfold mmPo at h; split at h
  · exact ⟨_, _, rfl, h⟩
  · exact h.elim
theorem mmP1_inv {st : List mmV} {f : mmV → List mmV → Prop} (h : mmP1 st f) : ∃ v r, st = v :: r ∧ mmIsL v = false ∧ f v r := by
  unfold mmP1 at h; split at h
  · exact ⟨_, _, rfl, rfl, h⟩
  · exact ⟨_, _, rfl, rfl, h⟩
  · exact h.elim
theorem mmG_mem {w : mmV} : ∀ {ls : List (Option mmV)}, some w ∈ ls ↔ ∃ k, mmG ls k = some w
  | [] => by simp [mmG]
  | a :: r => by
    rw [List.mem_cons, mmG_mem (ls := r)]
    constructor
    · rintro (e | ⟨k, e⟩)
      · exact ⟨0, e.symm⟩
      · exact ⟨k + 1, e⟩
    · rintro ⟨k, e⟩
      cases k with
      | zero => left; exact e.symm
      | succ k => right; exact ⟨k, e⟩
theorem mmOv_set1 {ids : List mmO} {ls : List (Option mmV)} {i : Nat} {v : mmV} (h : ∀ w, some w ∈ ls → mmOv ids w) (hv : mmOv ids v) : ∀ w, some w ∈ mmS1 ls i v → mmOv ids w := by
  intro w hw
  obtain ⟨k, e⟩ := mmG_mem.mp hw
  rcases mmS1_get e with ⟨-, e⟩ | ⟨-, e, -⟩
  · rw [e]; exact hv
  · exact h w (mmG_mem.mpr ⟨k, e⟩)
theorem mmOv_set2 {ids : List mmO} {ls : List (Option mmV)} {i : Nat} {v : mmV} (h : ∀ w, some w ∈ ls → mmOv ids w) (hv : mmOv ids v) : ∀ w, some w ∈ mmS2 ls i v → mmOv ids w := by
  intro w hw
  obtain ⟨k, e⟩ := mmG_mem.mp hw
  rcases mmS2_get e with ⟨-, e⟩ | ⟨-, -, e, -⟩
  · rw [e]; exact hv
  · exact h w (mmG_mem.mpr ⟨k, e⟩)
def mmTs : List Cond := lw_tbl.filter goodWord
theorem mm_w {k : Nat} {w : Cond} (h : lw_tbl[k]? = some w) (hg : goodWord w = true) : w ∈ mmTs := List.mem_filter.mpr ⟨List.mem_of_getElem? h, hg⟩
/-- what stays over a method's run -/
def mmEn (p : Program) (s : State) (m : MethodId) (args : Array Value) (c : Code) (cc : ByteArray) (own : String) (nL : Nat) : Prop :=
  p.tables.exec = Jvm.exec ∧ c.code = cc ∧ c.maxLocals = nL ∧ s.vm.findClass own = some m.cls ∧ ∀ w ∈ mmTs, w.before args s = true
/-- the world at a place of the method -/
def mmInv (D : va_G) (A : Nat → Prop) (b : Nat) (X1 X2 : Int → Int) (ids0 : List mmO) (ad0 : mmO → Nat) (s : State) (ids : List mmO) (ad : mmO → Nat) (ca : mmO → ClassId) (tys : List (ClassId × FieldType)) (μ : mmM) (H : Heap) (locs : List Loc) : Prop :=
  va_P D mmCl (mmW ids ad ca μ) H ∧ va_D A (mmW ids ad ca μ) ∧ va_S A s.heap H locs ∧ va_K D mmCl tys s ∧ mmOk ids ca tys μ ∧ ad (1301, 0) = b ∧ (∀ o ∈ ids0, o ∈ ids ∧ ad o = ad0 o) ∧ μ.1 1301 0 = X1 ∧ μ.1 1302 0 = X2
def mmPt (p : Program) (l : Launch) (e : Env) (R : Room) (s : State) (m : MethodId) (args : Array Value) (below : List Frame) (meth : Method) (c : Code) (QW : State → Prop) (nL : Nat) (D : va_G) (A : Nat → Prop) (b : Nat) (X1 X2 : Int → Int) (ids0 : List mmO) (ad0 : mmO → Nat)
    (pc : Nat) (ls : List (Option mmV)) (st : List mmV) (μ : mmM) : Prop :=
  ∀ (ids : List mmO) (ad : mmO → Nat) (ca : mmO → ClassId) (tys : List (ClassId × FieldType)) (H : Heap) (locs : List Loc) (cells slots : Nat) (la : Array Slot), mmInv D A b X1 X2 ids0 ad0 s ids ad ca tys μ H locs → (∀ v ∈ st, mmOv ids v) → (∀ v, some v ∈ ls → mmOv ids v) → mmLr la nL ad ls →
    cells + μ.2.2.2.1 ≤ R.cells → slots + μ.2.2.2.2 ≤ R.slots → W p l e R s m args below meth c H locs cells slots QW (F0 m pc la (st.map (mmCv ad)))
theorem mmCv_a {ad : mmO → Nat} {r : Option mmO} : mmCv ad (.inr (.inr r)) = va_rf (r.map ad) := by cases r <;> rfl
section MMS
variable {p : Program} {l : Launch} {e : Env} {R : Room} {s : State} {m : MethodId} {args : Array Value} {below : List Frame} {meth : Method} {c : Code} {QW : State → Prop}
variable {cc : ByteArray} {own : String} {nL : Nat} {D : va_G} {A : Nat → Prop} {b : Nat} {X1 X2 : Int → Int} {ids0 : List mmO} {ad0 : mmO → Nat}
variable {C : Nat → List mmV → mmM → (Option mmV → mmM → Prop) → Prop} {J : Nat → List (Option mmV) → List mmV → mmM → Prop} {Q : Option mmV → mmM → Prop} {κ : List (Option mmV) → List mmV → mmM → Prop}
variable {pc : Nat} {ls : List (Option mmV)} {st : List mmV} {μ : mmM} {pay : List Nat} {cst : Int}
theorem mo_iload {i : Nat} (hE : mmEn p s m args c cc own nL) (hd : decode cc pc = .ok (.iload i, 2)) (hk : ∀ ls st μ, κ ls st μ → mmPt p l e R s m args below meth c QW nL D A b X1 X2 ids0 ad0 (pc + 2) ls st μ) (h : mmStep C J Q (.iload i, pay, cst) κ ls st μ) : mmPt p l e R s m args below meth c QW nL D A b X1 X2 ids0 ad0 pc ls st μ := by
  obtain ⟨z, e1, h⟩ := mmI1_inv h
  intro ids ad ca tys H locs cells slots la I ho hl L rc rs
  have hg := L.get e1
  have hz : mmOv ids (.inl z) := hl _ (mmG_mem.mpr ⟨_, e1⟩)
  exact lv_iload hE.1 hE.2.1 hd hg (hk _ _ _ h ids ad ca tys H locs cells slots la I (List.forall_mem_cons.mpr ⟨hz, ho⟩) hl L rc rs)
theorem mo_iload_n {i : Fin 4} (hE : mmEn p s m args c cc own nL) (hd : decode cc pc = .ok (.iload_n i, 1)) (hk : ∀ ls st μ, κ ls st μ → mmPt p l e R s m args below meth c QW nL D A b X1 X2 ids0 ad0 (pc + 1) ls st μ) (h : mmStep C J Q (.iload_n i, pay, cst) κ ls st μ) : mmPt p l e R s m args below meth c QW nL D A b X1 X2 ids0 ad0 pc ls st μ := by
  obtain ⟨z, e1, h⟩ := mmI1_inv h
  intro ids ad ca tys H locs cells slots la I ho hl L rc rs
  have hg := L.get e1
  have hz : mmOv ids (.inl z) := hl _ (mmG_mem.mpr ⟨_, e1⟩)
  exact lv_iload_n hE.1 hE.2.1 hd rfl hg (hk _ _ _ h ids ad ca tys H locs cells slots la I (List.forall_mem_cons.mpr ⟨hz, ho⟩) hl L rc rs)
theorem mo_lload {i : Nat} (hE : mmEn p s m args c cc own nL) (hd : decode cc pc = .ok (.lload i, 2)) (hk : ∀ ls st μ, κ ls st μ → mmPt p l e R s m args below meth c QW nL D A b X1 X2 ids0 ad0 (pc + 2) ls st μ) (h : mmStep C J Q (.lload i, pay, cst) κ ls st μ) : mmPt p l e R s m args below meth c QW nL D A b X1 X2 ids0 ad0 pc ls st μ := by
  obtain ⟨z, e1, h⟩ := mmL1_inv h
  intro ids ad ca tys H locs cells slots la I ho hl L rc rs
  have hg := L.get e1
  have hz : mmOv ids (.inr (.inl z)) := hl _ (mmG_mem.mpr ⟨_, e1⟩)
  exact lv_lload hE.1 hE.2.1 hd hg (hk _ _ _ h ids ad ca tys H locs cells slots la I (List.forall_mem_cons.mpr ⟨hz, ho⟩) hl L rc rs)
theorem mo_lload_n {i : Fin 4} (hE : mmEn p s m args c cc own nL) (hd : decode cc pc = .ok (.lload_n i, 1)) (hk : ∀ ls st μ, κ ls st μ → mmPt p l e R s m args below meth c QW nL D A b X1 X2 ids0 ad0 (pc + 1) ls st μ) (h : mmStep C J Q (.lload_n i, pay, cst) κ ls st μ) : mmPt p l e R s m args below meth c QW nL D A b X1 X2 ids0 ad0 pc ls st μ := by
  obtain ⟨z, e1, h⟩ := mmL1_inv h
  intro ids ad ca tys H locs cells slots la I ho hl L rc rs
  have hg := L.get e1
  have hz : mmOv ids (.inr (.inl z)) := hl _ (mmG_mem.mpr ⟨_, e1⟩)
  exact lv_lload_n hE.1 hE.2.1 hd rfl hg (hk _ _ _ h ids ad ca tys H locs cells slots la I (List.forall_mem_cons.mpr ⟨hz, ho⟩) hl L rc rs)
theorem mo_aload {i : Nat} (hE : mmEn p s m args c cc own nL) (hd : decode cc pc = .ok (.aload i, 2)) (hk : ∀ ls st μ, κ ls st μ → mmPt p l e R s m args below meth c QW nL D A b X1 X2 ids0 ad0 (pc + 2) ls st μ) (h : mmStep C J Q (.aload i, pay, cst) κ ls st μ) : mmPt p l e R s m args below meth c QW nL D A b X1 X2 ids0 ad0 pc ls st μ := by
  obtain ⟨z, e1, h⟩ := mmA1_inv h
  intro ids ad ca tys H locs cells slots la I ho hl L rc rs
  have hg := L.get e1
  have hz : mmOv ids (.inr (.inr z)) := hl _ (mmG_mem.mpr ⟨_, e1⟩)
  have hW := hk _ _ _ h ids ad ca tys H locs cells slots la I (List.forall_mem_cons.mpr ⟨hz, ho⟩) hl L rc rs
  cases z with
  | none => exact lv_aloadN hE.1 hE.2.1 hd hg hW
  | some z => exact lv_aload hE.1 hE.2.1 hd hg hW
theorem mo_istore {i : Nat} (hE : mmEn p s m args c cc own nL) (hd : decode cc pc = .ok (.istore i, 2)) (hi : (i : Nat) < nL) (hk : ∀ ls st μ, κ ls st μ → mmPt p l e R s m args below meth c QW nL D A b X1 X2 ids0 ad0 (pc + 2) ls st μ) (h : mmStep C J Q (.istore i, pay, cst) κ ls st μ) : mmPt p l e R s m args below meth c QW nL D A b X1 X2 ids0 ad0 pc ls st μ := by
  obtain ⟨z, st, rfl, h⟩ := mmPi_inv h
  intro ids ad ca tys H locs cells slots la I ho hl L rc rs
  obtain ⟨hz, ho⟩ := List.forall_mem_cons.mp ho
  exact lv_istore hE.1 hE.2.1 hd L.2 hi rfl (fun la' h2 => hk _ _ _ h ids ad ca tys H locs cells slots la' I ho (mmOv_set1 hl hz) (L.set1 h2) rc rs)
theorem mo_lstore {i : Nat} (hE : mmEn p s m args c cc own nL) (hd : decode cc pc = .ok (.lstore i, 2)) (hi : (i : Nat) + 1 < nL) (hk : ∀ ls st μ, κ ls st μ → mmPt p l e R s m args below meth c QW nL D A b X1 X2 ids0 ad0 (pc + 2) ls st μ) (h : mmStep C J Q (.lstore i, pay, cst) κ ls st μ) : mmPt p l e R s m args below meth c QW nL D A b X1 X2 ids0 ad0 pc ls st μ := by
  obtain ⟨z, st, rfl, h⟩ := mmPl_inv h
  intro ids ad ca tys H locs cells slots la I ho hl L rc rs
  obtain ⟨hz, ho⟩ := List.forall_mem_cons.mp ho
  exact lv_lstore hE.1 hE.2.1 hd L.2 hi rfl (fun la' h2 => hk _ _ _ h ids ad ca tys H locs cells slots la' I ho (mmOv_set2 hl hz) (L.set2 h2) rc rs)
theorem mo_astore {i : Nat} (hE : mmEn p s m args c cc own nL) (hd : decode cc pc = .ok (.astore i, 2)) (hi : (i : Nat) < nL) (hk : ∀ ls st μ, κ ls st μ → mmPt p l e R s m args below meth c QW nL D A b X1 X2 ids0 ad0 (pc + 2) ls st μ) (h : mmStep C J Q (.astore i, pay, cst) κ ls st μ) : mmPt p l e R s m args below meth c QW nL D A b X1 X2 ids0 ad0 pc ls st μ := by
  obtain ⟨z, st, rfl, h⟩ := mmPa_inv h
  intro ids ad ca tys H locs cells slots la I ho hl L rc rs
  obtain ⟨hz, ho9⟩ := List.forall_mem_cons.mp ho
  cases z with
  | none => exact lv_astoreN hE.1 hE.2.1 hd L.2 hi rfl (fun la' h2 => hk _ _ _ h ids ad ca tys H locs cells slots la' I ho9 (mmOv_set1 hl hz) (L.set1 h2) rc rs)
  | some z => exact lv_astore hE.1 hE.2.1 hd L.2 hi rfl (fun la' h2 => hk _ _ _ h ids ad ca tys H locs cells slots la' I ho9 (mmOv_set1 hl hz) (L.set1 h2) rc rs)
theorem mo_aload_n {i : Fin 4} (hE : mmEn p s m args c cc own nL) (hd : decode cc pc = .ok (.aload_n i, 1)) (hk : ∀ ls st μ, κ ls st μ → mmPt p l e R s m args below meth c QW nL D A b X1 X2 ids0 ad0 (pc + 1) ls st μ) (h : mmStep C J Q (.aload_n i, pay, cst) κ ls st μ) : mmPt p l e R s m args below meth c QW nL D A b X1 X2 ids0 ad0 pc ls st μ := by
  obtain ⟨z, e1, h⟩ := mmA1_inv h
  intro ids ad ca tys H locs cells slots la I ho hl L rc rs
  have hg := L.get e1
  have hz : mmOv ids (.inr (.inr z)) := hl _ (mmG_mem.mpr ⟨_, e1⟩)
  have hW := hk _ _ _ h ids ad ca tys H locs cells slots la I (List.forall_mem_cons.mpr ⟨hz, ho⟩) hl L rc rs
  cases z with
  | none => exact lv_aload_nN hE.1 hE.2.1 hd rfl hg hW
  | some z => exact lv_aload_n hE.1 hE.2.1 hd rfl hg hW
theorem mo_istore_n {i : Fin 4} (hE : mmEn p s m args c cc own nL) (hd : decode cc pc = .ok (.istore_n i, 1)) (hi : (i : Nat) < nL) (hk : ∀ ls st μ, κ ls st μ → mmPt p l e R s m args below meth c QW nL D A b X1 X2 ids0 ad0 (pc + 1) ls st μ) (h : mmStep C J Q (.istore_n i, pay, cst) κ ls st μ) : mmPt p l e R s m args below meth c QW nL D A b X1 X2 ids0 ad0 pc ls st μ := by
  obtain ⟨z, st, rfl, h⟩ := mmPi_inv h
  intro ids ad ca tys H locs cells slots la I ho hl L rc rs
  obtain ⟨hz, ho⟩ := List.forall_mem_cons.mp ho
  exact lv_istore_n hE.1 hE.2.1 hd rfl L.2 hi rfl (fun la' h2 => hk _ _ _ h ids ad ca tys H locs cells slots la' I ho (mmOv_set1 hl hz) (L.set1 h2) rc rs)
theorem mo_lstore_n {i : Fin 4} (hE : mmEn p s m args c cc own nL) (hd : decode cc pc = .ok (.lstore_n i, 1)) (hi : (i : Nat) + 1 < nL) (hk : ∀ ls st μ, κ ls st μ → mmPt p l e R s m args below meth c QW nL D A b X1 X2 ids0 ad0 (pc + 1) ls st μ) (h : mmStep C J Q (.lstore_n i, pay, cst) κ ls st μ) : mmPt p l e R s m args below meth c QW nL D A b X1 X2 ids0 ad0 pc ls st μ := by
  obtain ⟨z, st, rfl, h⟩ := mmPl_inv h
  intro ids ad ca tys H locs cells slots la I ho hl L rc rs
  obtain ⟨hz, ho⟩ := List.forall_mem_cons.mp ho
  exact lv_lstore_n hE.1 hE.2.1 hd rfl L.2 hi rfl (fun la' h2 => hk _ _ _ h ids ad ca tys H locs cells slots la' I ho (mmOv_set2 hl hz) (L.set2 h2) rc rs)
theorem mo_astore_n {i : Fin 4} (hE : mmEn p s m args c cc own nL) (hd : decode cc pc = .ok (.astore_n i, 1)) (hi : (i : Nat) < nL) (hk : ∀ ls st μ, κ ls st μ → mmPt p l e R s m args below meth c QW nL D A b X1 X2 ids0 ad0 (pc + 1) ls st μ) (h : mmStep C J Q (.astore_n i, pay, cst) κ ls st μ) : mmPt p l e R s m args below meth c QW nL D A b X1 X2 ids0 ad0 pc ls st μ := by
  obtain ⟨z, st, rfl, h⟩ := mmPa_inv h
  intro ids ad ca tys H locs cells slots la I ho hl L rc rs
  obtain ⟨hz, ho9⟩ := List.forall_mem_cons.mp ho
  cases z with
  | none => exact lv_astore_nN hE.1 hE.2.1 hd rfl L.2 hi rfl (fun la' h2 => hk _ _ _ h ids ad ca tys H locs cells slots la' I ho9 (mmOv_set1 hl hz) (L.set1 h2) rc rs)
  | some z => exact lv_astore_n hE.1 hE.2.1 hd rfl L.2 hi rfl (fun la' h2 => hk _ _ _ h ids ad ca tys H locs cells slots la' I ho9 (mmOv_set1 hl hz) (L.set1 h2) rc rs)
theorem mo_iconst {n : Int} (hE : mmEn p s m args c cc own nL) (hd : decode cc pc = .ok (.iconst n, 1)) (hn : mmR32 n) (hk : ∀ ls st μ, κ ls st μ → mmPt p l e R s m args below meth c QW nL D A b X1 X2 ids0 ad0 (pc + 1) ls st μ) (h : mmStep C J Q (.iconst n, pay, cst) κ ls st μ) : mmPt p l e R s m args below meth c QW nL D A b X1 X2 ids0 ad0 pc ls st μ := by
  intro ids ad ca tys H locs cells slots la I ho hl L rc rs
  exact lv_iconst hE.1 hE.2.1 hd rfl (hk _ _ _ h ids ad ca tys H locs cells slots la I (List.forall_mem_cons.mpr ⟨hn, ho⟩) hl L rc rs)
theorem mo_bipush {n : Int} (hE : mmEn p s m args c cc own nL) (hd : decode cc pc = .ok (.bipush n, 2)) (hn : mmR32 n) (hv : (Int8.ofInt n).toInt32 = Int32.ofInt n) (hk : ∀ ls st μ, κ ls st μ → mmPt p l e R s m args below meth c QW nL D A b X1 X2 ids0 ad0 (pc + 2) ls st μ) (h : mmStep C J Q (.bipush n, pay, cst) κ ls st μ) : mmPt p l e R s m args below meth c QW nL D A b X1 X2 ids0 ad0 pc ls st μ := by
  intro ids ad ca tys H locs cells slots la I ho hl L rc rs
  exact lv_bipush hE.1 hE.2.1 hd hv (hk _ _ _ h ids ad ca tys H locs cells slots la I (List.forall_mem_cons.mpr ⟨hn, ho⟩) hl L rc rs)
theorem mo_sipush {n : Int} (hE : mmEn p s m args c cc own nL) (hd : decode cc pc = .ok (.sipush n, 3)) (hn : mmR32 n) (hv : (Int16.ofInt n).toInt32 = Int32.ofInt n) (hk : ∀ ls st μ, κ ls st μ → mmPt p l e R s m args below meth c QW nL D A b X1 X2 ids0 ad0 (pc + 3) ls st μ) (h : mmStep C J Q (.sipush n, pay, cst) κ ls st μ) : mmPt p l e R s m args below meth c QW nL D A b X1 X2 ids0 ad0 pc ls st μ := by
  intro ids ad ca tys H locs cells slots la I ho hl L rc rs
  exact lv_sipush hE.1 hE.2.1 hd hv (hk _ _ _ h ids ad ca tys H locs cells slots la I (List.forall_mem_cons.mpr ⟨hn, ho⟩) hl L rc rs)
theorem mo_lconst {n : Fin 2} (hE : mmEn p s m args c cc own nL) (hd : decode cc pc = .ok (.lconst n, 1)) (hk : ∀ ls st μ, κ ls st μ → mmPt p l e R s m args below meth c QW nL D A b X1 X2 ids0 ad0 (pc + 1) ls st μ) (h : mmStep C J Q (.lconst n, pay, cst) κ ls st μ) : mmPt p l e R s m args below meth c QW nL D A b X1 X2 ids0 ad0 pc ls st μ := by
  intro ids ad ca tys H locs cells slots la I ho hl L rc rs
  have hn : mmOv ids (.inr (.inl (n.val : Int))) := by
    show mmR64 _
    have := n.isLt
    unfold mmR64
    omega
  exact lv_lconst hE.1 hE.2.1 hd (Int64.ofInt_eq_ofNat).symm (hk _ _ _ h ids ad ca tys H locs cells slots la I (List.forall_mem_cons.mpr ⟨hn, ho⟩) hl L rc rs)
theorem mo_ldc {n : Nat} (hE : mmEn p s m args c cc own nL) (hd : decode cc pc = .ok (.ldc n, 2)) (hn : mmR32 cst) (hw : Cond.constant own n (Int32.ofInt cst) ∈ mmTs) (hk : ∀ ls st μ, κ ls st μ → mmPt p l e R s m args below meth c QW nL D A b X1 X2 ids0 ad0 (pc + 2) ls st μ) (h : mmStep C J Q (.ldc n, pay, cst) κ ls st μ) : mmPt p l e R s m args below meth c QW nL D A b X1 X2 ids0 ad0 pc ls st μ := by
  intro ids ad ca tys H locs cells slots la I ho hl L rc rs
  exact lv_ldc hE.1 hE.2.1 hE.2.2.2.1 (hE.2.2.2.2 _ hw) hd (hk _ _ _ h ids ad ca tys H locs cells slots la I (List.forall_mem_cons.mpr ⟨hn, ho⟩) hl L rc rs)
theorem mo_ldc_w {n : Nat} (hE : mmEn p s m args c cc own nL) (hd : decode cc pc = .ok (.ldc_w n, 3)) (hn : mmR32 cst) (hw : Cond.constant own n (Int32.ofInt cst) ∈ mmTs) (hk : ∀ ls st μ, κ ls st μ → mmPt p l e R s m args below meth c QW nL D A b X1 X2 ids0 ad0 (pc + 3) ls st μ) (h : mmStep C J Q (.ldc_w n, pay, cst) κ ls st μ) : mmPt p l e R s m args below meth c QW nL D A b X1 X2 ids0 ad0 pc ls st μ := by
  intro ids ad ca tys H locs cells slots la I ho hl L rc rs
  exact lv_ldcw hE.1 hE.2.1 hE.2.2.2.1 (hE.2.2.2.2 _ hw) hd (hk _ _ _ h ids ad ca tys H locs cells slots la I (List.forall_mem_cons.mpr ⟨hn, ho⟩) hl L rc rs)
theorem mo_ldc2_w {n : Nat} (hE : mmEn p s m args c cc own nL) (hd : decode cc pc = .ok (.ldc2_w n, 3)) (hn : mmR64 cst) (hw : Cond.constantLong own n (Int64.ofInt cst) ∈ mmTs) (hk : ∀ ls st μ, κ ls st μ → mmPt p l e R s m args below meth c QW nL D A b X1 X2 ids0 ad0 (pc + 3) ls st μ) (h : mmStep C J Q (.ldc2_w n, pay, cst) κ ls st μ) : mmPt p l e R s m args below meth c QW nL D A b X1 X2 ids0 ad0 pc ls st μ := by
  intro ids ad ca tys H locs cells slots la I ho hl L rc rs
  exact lv_ldc2 hE.1 hE.2.1 hE.2.2.2.1 (hE.2.2.2.2 _ hw) hd (hk _ _ _ h ids ad ca tys H locs cells slots la I (List.forall_mem_cons.mpr ⟨hn, ho⟩) hl L rc rs)
theorem mo_aconst_null (hE : mmEn p s m args c cc own nL) (hd : decode cc pc = .ok (.aconst_null, 1)) (hk : ∀ ls st μ, κ ls st μ → mmPt p l e R s m args below meth c QW nL D A b X1 X2 ids0 ad0 (pc + 1) ls st μ) (h : mmStep C J Q (.aconst_null, pay, cst) κ ls st μ) : mmPt p l e R s m args below meth c QW nL D A b X1 X2 ids0 ad0 pc ls st μ := by
  intro ids ad ca tys H locs cells slots la I ho hl L rc rs
  exact lv_null hE.1 hE.2.1 hd (hk _ _ _ h ids ad ca tys H locs cells slots la I (List.forall_mem_cons.mpr ⟨trivial, ho⟩) hl L rc rs)
theorem mo_iinc {i : Nat} {n : Int} (hE : mmEn p s m args c cc own nL) (hd : decode cc pc = .ok (.iinc i n, 3)) (hi : i < nL) (hk : ∀ ls st μ, κ ls st μ → mmPt p l e R s m args below meth c QW nL D A b X1 X2 ids0 ad0 (pc + 3) ls st μ) (h : mmStep C J Q (.iinc i n, pay, cst) κ ls st μ) : mmPt p l e R s m args below meth c QW nL D A b X1 X2 ids0 ad0 pc ls st μ := by
  obtain ⟨z, e1, hr, h⟩ := mmI1_inv h
  intro ids ad ca tys H locs cells slots la I ho hl L rc rs
  have hg := (mmLv_mem (ad := ad) (ls := ls) (j := 0)).mpr ⟨_, _, e1, rfl⟩
  obtain ⟨k9, hk9⟩ := List.getElem?_of_mem hg
  refine lv_iinc (v := Int32.ofInt (z + n)) hE.1 hE.2.1 hd L.2 (k := k9) (x := Int32.ofInt z) (by rw [hk9, Nat.zero_add]; rfl) (by rw [Int32.ofInt_add]) hi rfl (fun la' h2 => hk _ _ _ h ids ad ca tys H locs cells slots la' I ho (mmOv_set1 hl hr) (L.set1 h2) rc rs)
theorem mo_iadd (hE : mmEn p s m args c cc own nL) (hd : decode cc pc = .ok (.iadd, 1)) (hk : ∀ ls st μ, κ ls st μ → mmPt p l e R s m args below meth c QW nL D A b X1 X2 ids0 ad0 (pc + 1) ls st μ) (h : mmStep C J Q (.iadd, pay, cst) κ ls st μ) : mmPt p l e R s m args below meth c QW nL D A b X1 X2 ids0 ad0 pc ls st μ := by
  obtain ⟨y, st, rfl, h⟩ := mmPi_inv h
  obtain ⟨x, st, rfl, h⟩ := mmPi_inv h
  intro ids ad ca tys H locs cells slots la I ho hl L rc rs
  obtain ⟨hy, ho⟩ := List.forall_mem_cons.mp ho
  obtain ⟨hx, ho⟩ := List.forall_mem_cons.mp ho
  have hx : mmR32 x := hx
  have hy : mmR32 y := hy
  obtain ⟨hr, h⟩ := h
  refine lv_iadd hE.1 hE.2.1 hd ?_
  rw [← Int32.ofInt_add]
  exact hk _ _ _ h ids ad ca tys H locs cells slots la I (List.forall_mem_cons.mpr ⟨hr, ho⟩) hl L rc rs
theorem mo_isub (hE : mmEn p s m args c cc own nL) (hd : decode cc pc = .ok (.isub, 1)) (hk : ∀ ls st μ, κ ls st μ → mmPt p l e R s m args below meth c QW nL D A b X1 X2 ids0 ad0 (pc + 1) ls st μ) (h : mmStep C J Q (.isub, pay, cst) κ ls st μ) : mmPt p l e R s m args below meth c QW nL D A b X1 X2 ids0 ad0 pc ls st μ := by
  obtain ⟨y, st, rfl, h⟩ := mmPi_inv h
  obtain ⟨x, st, rfl, h⟩ := mmPi_inv h
  intro ids ad ca tys H locs cells slots la I ho hl L rc rs
  obtain ⟨hy, ho⟩ := List.forall_mem_cons.mp ho
  obtain ⟨hx, ho⟩ := List.forall_mem_cons.mp ho
  have hx : mmR32 x := hx
  have hy : mmR32 y := hy
  obtain ⟨hr, h⟩ := h
  refine lv_isub hE.1 hE.2.1 hd ?_
  rw [← Int32.ofInt_sub]
  exact hk _ _ _ h ids ad ca tys H locs cells slots la I (List.forall_mem_cons.mpr ⟨hr, ho⟩) hl L rc rs
theorem mo_imul (hE : mmEn p s m args c cc own nL) (hd : decode cc pc = .ok (.imul, 1)) (hk : ∀ ls st μ, κ ls st μ → mmPt p l e R s m args below meth c QW nL D A b X1 X2 ids0 ad0 (pc + 1) ls st μ) (h : mmStep C J Q (.imul, pay, cst) κ ls st μ) : mmPt p l e R s m args below meth c QW nL D A b X1 X2 ids0 ad0 pc ls st μ := by
  obtain ⟨y, st, rfl, h⟩ := mmPi_inv h
  obtain ⟨x, st, rfl, h⟩ := mmPi_inv h
  intro ids ad ca tys H locs cells slots la I ho hl L rc rs
  obtain ⟨hy, ho⟩ := List.forall_mem_cons.mp ho
  obtain ⟨hx, ho⟩ := List.forall_mem_cons.mp ho
  have hx : mmR32 x := hx
  have hy : mmR32 y := hy
  obtain ⟨hr, h⟩ := h
  refine lv_imul hE.1 hE.2.1 hd ?_
  rw [← Int32.ofInt_mul]
  exact hk _ _ _ h ids ad ca tys H locs cells slots la I (List.forall_mem_cons.mpr ⟨hr, ho⟩) hl L rc rs
theorem mo_idiv (hE : mmEn p s m args c cc own nL) (hd : decode cc pc = .ok (.idiv, 1)) (hk : ∀ ls st μ, κ ls st μ → mmPt p l e R s m args below meth c QW nL D A b X1 X2 ids0 ad0 (pc + 1) ls st μ) (h : mmStep C J Q (.idiv, pay, cst) κ ls st μ) : mmPt p l e R s m args below meth c QW nL D A b X1 X2 ids0 ad0 pc ls st μ := by
  obtain ⟨y, st, rfl, h⟩ := mmPi_inv h
  obtain ⟨x, st, rfl, h⟩ := mmPi_inv h
  intro ids ad ca tys H locs cells slots la I ho hl L rc rs
  obtain ⟨hy, ho⟩ := List.forall_mem_cons.mp ho
  obtain ⟨hx, ho⟩ := List.forall_mem_cons.mp ho
  have hx : mmR32 x := hx
  have hy : mmR32 y := hy
  obtain ⟨h0, h1, h⟩ := h
  have hr := mm_div_r hx h0 h1
  refine lv_idiv hE.1 hE.2.1 hd (fun q => absurd ((mm_eq hy mmR32_0).mp q) (by omega)) ?_
  rw [mm_div hx hy h0]
  exact hk _ _ _ h ids ad ca tys H locs cells slots la I (List.forall_mem_cons.mpr ⟨hr, ho⟩) hl L rc rs
theorem mo_irem (hE : mmEn p s m args c cc own nL) (hd : decode cc pc = .ok (.irem, 1)) (hk : ∀ ls st μ, κ ls st μ → mmPt p l e R s m args below meth c QW nL D A b X1 X2 ids0 ad0 (pc + 1) ls st μ) (h : mmStep C J Q (.irem, pay, cst) κ ls st μ) : mmPt p l e R s m args below meth c QW nL D A b X1 X2 ids0 ad0 pc ls st μ := by
  obtain ⟨y, st, rfl, h⟩ := mmPi_inv h
  obtain ⟨x, st, rfl, h⟩ := mmPi_inv h
  intro ids ad ca tys H locs cells slots la I ho hl L rc rs
  obtain ⟨hy, ho⟩ := List.forall_mem_cons.mp ho
  obtain ⟨hx, ho⟩ := List.forall_mem_cons.mp ho
  have hx : mmR32 x := hx
  have hy : mmR32 y := hy
  obtain ⟨h0, h1, h⟩ := h
  have hr := mm_rem_r hx h0 h1
  refine lv_irem hE.1 hE.2.1 hd (fun q => absurd ((mm_eq hy mmR32_0).mp q) (by omega)) ?_
  rw [mm_rem hx hy h0]
  exact hk _ _ _ h ids ad ca tys H locs cells slots la I (List.forall_mem_cons.mpr ⟨hr, ho⟩) hl L rc rs
theorem mo_iand (hE : mmEn p s m args c cc own nL) (hd : decode cc pc = .ok (.iand, 1)) (hk : ∀ ls st μ, κ ls st μ → mmPt p l e R s m args below meth c QW nL D A b X1 X2 ids0 ad0 (pc + 1) ls st μ) (h : mmStep C J Q (.iand, pay, cst) κ ls st μ) : mmPt p l e R s m args below meth c QW nL D A b X1 X2 ids0 ad0 pc ls st μ := by
  obtain ⟨y, st, rfl, h⟩ := mmPi_inv h
  obtain ⟨x, st, rfl, h⟩ := mmPi_inv h
  intro ids ad ca tys H locs cells slots la I ho hl L rc rs
  obtain ⟨hy, ho⟩ := List.forall_mem_cons.mp ho
  obtain ⟨hx, ho⟩ := List.forall_mem_cons.mp ho
  have hx : mmR32 x := hx
  have hy : mmR32 y := hy
  have hr : mmR32 (mmAnd x y) := mm_r32 _
  refine lv_iand hE.1 hE.2.1 hd ?_
  rw [show (Int32.ofInt x &&& Int32.ofInt y) = Int32.ofInt (mmAnd x y) from (Int32.ofInt_toInt _).symm]
  exact hk _ _ _ h ids ad ca tys H locs cells slots la I (List.forall_mem_cons.mpr ⟨hr, ho⟩) hl L rc rs
theorem mo_ior (hE : mmEn p s m args c cc own nL) (hd : decode cc pc = .ok (.ior, 1)) (hk : ∀ ls st μ, κ ls st μ → mmPt p l e R s m args below meth c QW nL D A b X1 X2 ids0 ad0 (pc + 1) ls st μ) (h : mmStep C J Q (.ior, pay, cst) κ ls st μ) : mmPt p l e R s m args below meth c QW nL D A b X1 X2 ids0 ad0 pc ls st μ := by
  obtain ⟨y, st, rfl, h⟩ := mmPi_inv h
  obtain ⟨x, st, rfl, h⟩ := mmPi_inv h
  intro ids ad ca tys H locs cells slots la I ho hl L rc rs
  obtain ⟨hy, ho⟩ := List.forall_mem_cons.mp ho
  obtain ⟨hx, ho⟩ := List.forall_mem_cons.mp ho
  have hx : mmR32 x := hx
  have hy : mmR32 y := hy
  have hr : mmR32 (mmOr x y) := mm_r32 _
  refine lv_ior hE.1 hE.2.1 hd ?_
  rw [show (Int32.ofInt x ||| Int32.ofInt y) = Int32.ofInt (mmOr x y) from (Int32.ofInt_toInt _).symm]
  exact hk _ _ _ h ids ad ca tys H locs cells slots la I (List.forall_mem_cons.mpr ⟨hr, ho⟩) hl L rc rs
theorem mo_ishl (hE : mmEn p s m args c cc own nL) (hd : decode cc pc = .ok (.ishl, 1)) (hk : ∀ ls st μ, κ ls st μ → mmPt p l e R s m args below meth c QW nL D A b X1 X2 ids0 ad0 (pc + 1) ls st μ) (h : mmStep C J Q (.ishl, pay, cst) κ ls st μ) : mmPt p l e R s m args below meth c QW nL D A b X1 X2 ids0 ad0 pc ls st μ := by
  obtain ⟨y, st, rfl, h⟩ := mmPi_inv h
  obtain ⟨x, st, rfl, h⟩ := mmPi_inv h
  intro ids ad ca tys H locs cells slots la I ho hl L rc rs
  obtain ⟨hy, ho⟩ := List.forall_mem_cons.mp ho
  obtain ⟨hx, ho⟩ := List.forall_mem_cons.mp ho
  have hx : mmR32 x := hx
  have hy : mmR32 y := hy
  have hr : mmR32 (mmShl x y) := mm_r32 _
  refine lv_ishl hE.1 hE.2.1 hd ?_
  rw [show (Int32.ofInt x <<< (Int32.ofInt y &&& 31)) = Int32.ofInt (mmShl x y) from (Int32.ofInt_toInt _).symm]
  exact hk _ _ _ h ids ad ca tys H locs cells slots la I (List.forall_mem_cons.mpr ⟨hr, ho⟩) hl L rc rs
theorem mo_ishr (hE : mmEn p s m args c cc own nL) (hd : decode cc pc = .ok (.ishr, 1)) (hk : ∀ ls st μ, κ ls st μ → mmPt p l e R s m args below meth c QW nL D A b X1 X2 ids0 ad0 (pc + 1) ls st μ) (h : mmStep C J Q (.ishr, pay, cst) κ ls st μ) : mmPt p l e R s m args below meth c QW nL D A b X1 X2 ids0 ad0 pc ls st μ := by
  obtain ⟨y, st, rfl, h⟩ := mmPi_inv h
  obtain ⟨x, st, rfl, h⟩ := mmPi_inv h
  intro ids ad ca tys H locs cells slots la I ho hl L rc rs
  obtain ⟨hy, ho⟩ := List.forall_mem_cons.mp ho
  obtain ⟨hx, ho⟩ := List.forall_mem_cons.mp ho
  have hx : mmR32 x := hx
  have hy : mmR32 y := hy
  have hr : mmR32 (mmShr x y) := mm_r32 _
  refine lv_ishr hE.1 hE.2.1 hd ?_
  rw [show (Int32.ofInt x >>> (Int32.ofInt y &&& 31)) = Int32.ofInt (mmShr x y) from (Int32.ofInt_toInt _).symm]
  exact hk _ _ _ h ids ad ca tys H locs cells slots la I (List.forall_mem_cons.mpr ⟨hr, ho⟩) hl L rc rs
theorem mo_ineg (hE : mmEn p s m args c cc own nL) (hd : decode cc pc = .ok (.ineg, 1)) (hk : ∀ ls st μ, κ ls st μ → mmPt p l e R s m args below meth c QW nL D A b X1 X2 ids0 ad0 (pc + 1) ls st μ) (h : mmStep C J Q (.ineg, pay, cst) κ ls st μ) : mmPt p l e R s m args below meth c QW nL D A b X1 X2 ids0 ad0 pc ls st μ := by
  obtain ⟨x, st, rfl, hr, h⟩ := mmPi_inv h
  intro ids ad ca tys H locs cells slots la I ho hl L rc rs
  obtain ⟨hx, ho⟩ := List.forall_mem_cons.mp ho
  refine lv_ineg hE.1 hE.2.1 hd ?_
  rw [← Int32.ofInt_neg]
  exact hk _ _ _ h ids ad ca tys H locs cells slots la I (List.forall_mem_cons.mpr ⟨hr, ho⟩) hl L rc rs
theorem mo_ladd (hE : mmEn p s m args c cc own nL) (hd : decode cc pc = .ok (.ladd, 1)) (hk : ∀ ls st μ, κ ls st μ → mmPt p l e R s m args below meth c QW nL D A b X1 X2 ids0 ad0 (pc + 1) ls st μ) (h : mmStep C J Q (.ladd, pay, cst) κ ls st μ) : mmPt p l e R s m args below meth c QW nL D A b X1 X2 ids0 ad0 pc ls st μ := by
  obtain ⟨y, st, rfl, h⟩ := mmPl_inv h
  obtain ⟨x, st, rfl, h⟩ := mmPl_inv h
  intro ids ad ca tys H locs cells slots la I ho hl L rc rs
  obtain ⟨hy, ho⟩ := List.forall_mem_cons.mp ho
  obtain ⟨hx, ho⟩ := List.forall_mem_cons.mp ho
  have hx : mmR64 x := hx
  have hy : mmR64 y := hy
  obtain ⟨hr, h⟩ := h
  refine lv_ladd hE.1 hE.2.1 hd ?_
  rw [← Int64.ofInt_add]
  exact hk _ _ _ h ids ad ca tys H locs cells slots la I (List.forall_mem_cons.mpr ⟨hr, ho⟩) hl L rc rs
theorem mo_lsub (hE : mmEn p s m args c cc own nL) (hd : decode cc pc = .ok (.lsub, 1)) (hk : ∀ ls st μ, κ ls st μ → mmPt p l e R s m args below meth c QW nL D A b X1 X2 ids0 ad0 (pc + 1) ls st μ) (h : mmStep C J Q (.lsub, pay, cst) κ ls st μ) : mmPt p l e R s m args below meth c QW nL D A b X1 X2 ids0 ad0 pc ls st μ := by
  obtain ⟨y, st, rfl, h⟩ := mmPl_inv h
  obtain ⟨x, st, rfl, h⟩ := mmPl_inv h
  intro ids ad ca tys H locs cells slots la I ho hl L rc rs
  obtain ⟨hy, ho⟩ := List.forall_mem_cons.mp ho
  obtain ⟨hx, ho⟩ := List.forall_mem_cons.mp ho
  have hx : mmR64 x := hx
  have hy : mmR64 y := hy
  obtain ⟨hr, h⟩ := h
  refine lv_lsub hE.1 hE.2.1 hd ?_
  rw [← Int64.ofInt_sub]
  exact hk _ _ _ h ids ad ca tys H locs cells slots la I (List.forall_mem_cons.mpr ⟨hr, ho⟩) hl L rc rs
theorem mo_lmul (hE : mmEn p s m args c cc own nL) (hd : decode cc pc = .ok (.lmul, 1)) (hk : ∀ ls st μ, κ ls st μ → mmPt p l e R s m args below meth c QW nL D A b X1 X2 ids0 ad0 (pc + 1) ls st μ) (h : mmStep C J Q (.lmul, pay, cst) κ ls st μ) : mmPt p l e R s m args below meth c QW nL D A b X1 X2 ids0 ad0 pc ls st μ := by
  obtain ⟨y, st, rfl, h⟩ := mmPl_inv h
  obtain ⟨x, st, rfl, h⟩ := mmPl_inv h
  intro ids ad ca tys H locs cells slots la I ho hl L rc rs
  obtain ⟨hy, ho⟩ := List.forall_mem_cons.mp ho
  obtain ⟨hx, ho⟩ := List.forall_mem_cons.mp ho
  have hx : mmR64 x := hx
  have hy : mmR64 y := hy
  obtain ⟨hr, h⟩ := h
  refine lv_lmul hE.1 hE.2.1 hd ?_
  rw [← Int64.ofInt_mul]
  exact hk _ _ _ h ids ad ca tys H locs cells slots la I (List.forall_mem_cons.mpr ⟨hr, ho⟩) hl L rc rs
theorem mo_ldiv (hE : mmEn p s m args c cc own nL) (hd : decode cc pc = .ok (.ldiv, 1)) (hk : ∀ ls st μ, κ ls st μ → mmPt p l e R s m args below meth c QW nL D A b X1 X2 ids0 ad0 (pc + 1) ls st μ) (h : mmStep C J Q (.ldiv, pay, cst) κ ls st μ) : mmPt p l e R s m args below meth c QW nL D A b X1 X2 ids0 ad0 pc ls st μ := by
  obtain ⟨y, st, rfl, h⟩ := mmPl_inv h
  obtain ⟨x, st, rfl, h⟩ := mmPl_inv h
  intro ids ad ca tys H locs cells slots la I ho hl L rc rs
  obtain ⟨hy, ho⟩ := List.forall_mem_cons.mp ho
  obtain ⟨hx, ho⟩ := List.forall_mem_cons.mp ho
  have hx : mmR64 x := hx
  have hy : mmR64 y := hy
  obtain ⟨h0, hr, h⟩ := h
  refine lv_ldiv hE.1 hE.2.1 hd (fun q => h0 ((mm_eqL hy mmR64_0).mp q)) ?_
  rw [mm_divL hx hy]
  exact hk _ _ _ h ids ad ca tys H locs cells slots la I (List.forall_mem_cons.mpr ⟨hr, ho⟩) hl L rc rs
theorem mo_lrem (hE : mmEn p s m args c cc own nL) (hd : decode cc pc = .ok (.lrem, 1)) (hk : ∀ ls st μ, κ ls st μ → mmPt p l e R s m args below meth c QW nL D A b X1 X2 ids0 ad0 (pc + 1) ls st μ) (h : mmStep C J Q (.lrem, pay, cst) κ ls st μ) : mmPt p l e R s m args below meth c QW nL D A b X1 X2 ids0 ad0 pc ls st μ := by
  obtain ⟨y, st, rfl, h⟩ := mmPl_inv h
  obtain ⟨x, st, rfl, h⟩ := mmPl_inv h
  intro ids ad ca tys H locs cells slots la I ho hl L rc rs
  obtain ⟨hy, ho⟩ := List.forall_mem_cons.mp ho
  obtain ⟨hx, ho⟩ := List.forall_mem_cons.mp ho
  have hx : mmR64 x := hx
  have hy : mmR64 y := hy
  obtain ⟨h0, h1, h⟩ := h
  have hr := mm_remL_r hx h0 h1
  refine lv_lrem hE.1 hE.2.1 hd (fun q => absurd ((mm_eqL hy mmR64_0).mp q) (by omega)) ?_
  rw [mm_remL hx hy h0]
  exact hk _ _ _ h ids ad ca tys H locs cells slots la I (List.forall_mem_cons.mpr ⟨hr, ho⟩) hl L rc rs
theorem mo_land (hE : mmEn p s m args c cc own nL) (hd : decode cc pc = .ok (.land, 1)) (hk : ∀ ls st μ, κ ls st μ → mmPt p l e R s m args below meth c QW nL D A b X1 X2 ids0 ad0 (pc + 1) ls st μ) (h : mmStep C J Q (.land, pay, cst) κ ls st μ) : mmPt p l e R s m args below meth c QW nL D A b X1 X2 ids0 ad0 pc ls st μ := by
  obtain ⟨y, st, rfl, h⟩ := mmPl_inv h
  obtain ⟨x, st, rfl, h⟩ := mmPl_inv h
  intro ids ad ca tys H locs cells slots la I ho hl L rc rs
  obtain ⟨hy, ho⟩ := List.forall_mem_cons.mp ho
  obtain ⟨hx, ho⟩ := List.forall_mem_cons.mp ho
  have hx : mmR64 x := hx
  have hy : mmR64 y := hy
  have hr : mmR64 (mmLand x y) := mm_r64 _
  refine lv_land hE.1 hE.2.1 hd ?_
  rw [show (Int64.ofInt x &&& Int64.ofInt y) = Int64.ofInt (mmLand x y) from (Int64.ofInt_toInt _).symm]
  exact hk _ _ _ h ids ad ca tys H locs cells slots la I (List.forall_mem_cons.mpr ⟨hr, ho⟩) hl L rc rs
theorem mo_lor (hE : mmEn p s m args c cc own nL) (hd : decode cc pc = .ok (.lor, 1)) (hk : ∀ ls st μ, κ ls st μ → mmPt p l e R s m args below meth c QW nL D A b X1 X2 ids0 ad0 (pc + 1) ls st μ) (h : mmStep C J Q (.lor, pay, cst) κ ls st μ) : mmPt p l e R s m args below meth c QW nL D A b X1 X2 ids0 ad0 pc ls st μ := by
  obtain ⟨y, st, rfl, h⟩ := mmPl_inv h
  obtain ⟨x, st, rfl, h⟩ := mmPl_inv h
  intro ids ad ca tys H locs cells slots la I ho hl L rc rs
  obtain ⟨hy, ho⟩ := List.forall_mem_cons.mp ho
  obtain ⟨hx, ho⟩ := List.forall_mem_cons.mp ho
  have hx : mmR64 x := hx
  have hy : mmR64 y := hy
  have hr : mmR64 (mmLor x y) := mm_r64 _
  refine lv_lor hE.1 hE.2.1 hd ?_
  rw [show (Int64.ofInt x ||| Int64.ofInt y) = Int64.ofInt (mmLor x y) from (Int64.ofInt_toInt _).symm]
  exact hk _ _ _ h ids ad ca tys H locs cells slots la I (List.forall_mem_cons.mpr ⟨hr, ho⟩) hl L rc rs
theorem mo_lshl (hE : mmEn p s m args c cc own nL) (hd : decode cc pc = .ok (.lshl, 1)) (hk : ∀ ls st μ, κ ls st μ → mmPt p l e R s m args below meth c QW nL D A b X1 X2 ids0 ad0 (pc + 1) ls st μ) (h : mmStep C J Q (.lshl, pay, cst) κ ls st μ) : mmPt p l e R s m args below meth c QW nL D A b X1 X2 ids0 ad0 pc ls st μ := by
  obtain ⟨y, st, rfl, h⟩ := mmPi_inv h
  obtain ⟨x, st, rfl, h⟩ := mmPl_inv h
  intro ids ad ca tys H locs cells slots la I ho hl L rc rs
  obtain ⟨hy, ho⟩ := List.forall_mem_cons.mp ho
  obtain ⟨hx, ho⟩ := List.forall_mem_cons.mp ho
  have hx : mmR64 x := hx
  have hy : mmR32 y := hy
  have hr : mmR64 (mmLshl x y) := mm_r64 _
  refine lv_lshl hE.1 hE.2.1 hd (Int64.ofInt_toInt _).symm ?_
  exact hk _ _ _ h ids ad ca tys H locs cells slots la I (List.forall_mem_cons.mpr ⟨hr, ho⟩) hl L rc rs
theorem mo_lcmp (hE : mmEn p s m args c cc own nL) (hd : decode cc pc = .ok (.lcmp, 1)) (hk : ∀ ls st μ, κ ls st μ → mmPt p l e R s m args below meth c QW nL D A b X1 X2 ids0 ad0 (pc + 1) ls st μ) (h : mmStep C J Q (.lcmp, pay, cst) κ ls st μ) : mmPt p l e R s m args below meth c QW nL D A b X1 X2 ids0 ad0 pc ls st μ := by
  obtain ⟨y, st, rfl, h⟩ := mmPl_inv h
  obtain ⟨x, st, rfl, h⟩ := mmPl_inv h
  intro ids ad ca tys H locs cells slots la I ho hl L rc rs
  obtain ⟨hy, ho⟩ := List.forall_mem_cons.mp ho
  obtain ⟨hx, ho⟩ := List.forall_mem_cons.mp ho
  have hx : mmR64 x := hx
  have hy : mmR64 y := hy
  have hr := mm_cmp_r (x := x) (y := y)
  refine W.lcmp hE.1 hE.2.1 hd ?_
  rw [mm_cmp hx hy]
  exact hk _ _ _ h ids ad ca tys H locs cells slots la I (List.forall_mem_cons.mpr ⟨hr, ho⟩) hl L rc rs
theorem mo_lneg (hE : mmEn p s m args c cc own nL) (hd : decode cc pc = .ok (.lneg, 1)) (hk : ∀ ls st μ, κ ls st μ → mmPt p l e R s m args below meth c QW nL D A b X1 X2 ids0 ad0 (pc + 1) ls st μ) (h : mmStep C J Q (.lneg, pay, cst) κ ls st μ) : mmPt p l e R s m args below meth c QW nL D A b X1 X2 ids0 ad0 pc ls st μ := by
  obtain ⟨x, st, rfl, hr, h⟩ := mmPl_inv h
  intro ids ad ca tys H locs cells slots la I ho hl L rc rs
  obtain ⟨hx, ho⟩ := List.forall_mem_cons.mp ho
  refine lv_lneg hE.1 hE.2.1 hd ?_
  rw [← Int64.ofInt_neg]
  exact hk _ _ _ h ids ad ca tys H locs cells slots la I (List.forall_mem_cons.mpr ⟨hr, ho⟩) hl L rc rs
theorem mo_i2l (hE : mmEn p s m args c cc own nL) (hd : decode cc pc = .ok (.i2l, 1)) (hk : ∀ ls st μ, κ ls st μ → mmPt p l e R s m args below meth c QW nL D A b X1 X2 ids0 ad0 (pc + 1) ls st μ) (h : mmStep C J Q (.i2l, pay, cst) κ ls st μ) : mmPt p l e R s m args below meth c QW nL D A b X1 X2 ids0 ad0 pc ls st μ := by
  obtain ⟨x, st, rfl, h⟩ := mmPi_inv h
  intro ids ad ca tys H locs cells slots la I ho hl L rc rs
  obtain ⟨hx, ho⟩ := List.forall_mem_cons.mp ho
  have hx : mmR32 x := hx
  exact lv_i2l hE.1 hE.2.1 hd (mm_i2l hx) (hk _ _ _ h ids ad ca tys H locs cells slots la I (List.forall_mem_cons.mpr ⟨hx.to64, ho⟩) hl L rc rs)
theorem mo_l2i (hE : mmEn p s m args c cc own nL) (hd : decode cc pc = .ok (.l2i, 1)) (hk : ∀ ls st μ, κ ls st μ → mmPt p l e R s m args below meth c QW nL D A b X1 X2 ids0 ad0 (pc + 1) ls st μ) (h : mmStep C J Q (.l2i, pay, cst) κ ls st μ) : mmPt p l e R s m args below meth c QW nL D A b X1 X2 ids0 ad0 pc ls st μ := by
  obtain ⟨x, st, rfl, hr, h⟩ := mmPl_inv h
  intro ids ad ca tys H locs cells slots la I ho hl L rc rs
  obtain ⟨hx, ho⟩ := List.forall_mem_cons.mp ho
  exact lv_l2i hE.1 hE.2.1 hd (mm_l2i hr) (hk _ _ _ h ids ad ca tys H locs cells slots la I (List.forall_mem_cons.mpr ⟨hr, ho⟩) hl L rc rs)
theorem mo_dup (hE : mmEn p s m args c cc own nL) (hd : decode cc pc = .ok (.dup, 1)) (hk : ∀ ls st μ, κ ls st μ → mmPt p l e R s m args below meth c QW nL D A b X1 X2 ids0 ad0 (pc + 1) ls st μ) (h : mmStep C J Q (.dup, pay, cst) κ ls st μ) : mmPt p l e R s m args below meth c QW nL D A b X1 X2 ids0 ad0 pc ls st μ := by
  obtain ⟨v, st, rfl, e1, h⟩ := mmP1_inv (show mmP1 st (fun v r => κ ls (v :: v :: r) μ) from h)
  intro ids ad ca tys H locs cells slots la I ho hl L rc rs
  obtain ⟨hv, ho⟩ := List.forall_mem_cons.mp ho
  exact lv_dup hE.1 hE.2.1 hd (by rw [mmCv_cat, e1]; rfl) (hk _ _ _ h ids ad ca tys H locs cells slots la I (List.forall_mem_cons.mpr ⟨hv, List.forall_mem_cons.mpr ⟨hv, ho⟩⟩) hl L rc rs)
theorem mo_dup2 (hE : mmEn p s m args c cc own nL) (hd : decode cc pc = .ok (.dup2, 1)) (hk : ∀ ls st μ, κ ls st μ → mmPt p l e R s m args below meth c QW nL D A b X1 X2 ids0 ad0 (pc + 1) ls st μ) (h : mmStep C J Q (.dup2, pay, cst) κ ls st μ) : mmPt p l e R s m args below meth c QW nL D A b X1 X2 ids0 ad0 pc ls st μ := by
  obtain ⟨v, st, rfl, e1, h⟩ := mmP1_inv (show mmP1 st (fun v r => mmP1 r fun w r => κ ls (v :: w :: v :: w :: r) μ) from h)
  obtain ⟨w, st, rfl, e2, h⟩ := mmP1_inv h
  intro ids ad ca tys H locs cells slots la I ho hl L rc rs
  obtain ⟨hv, ho⟩ := List.forall_mem_cons.mp ho
  obtain ⟨hw, ho⟩ := List.forall_mem_cons.mp ho
  exact lv_dup2_11 hE.1 hE.2.1 hd (by rw [mmCv_cat, e1]; rfl) (by rw [mmCv_cat, e2]; rfl) (hk _ _ _ h ids ad ca tys H locs cells slots la I (List.forall_mem_cons.mpr ⟨hv, List.forall_mem_cons.mpr ⟨hw, List.forall_mem_cons.mpr ⟨hv, List.forall_mem_cons.mpr ⟨hw, ho⟩⟩⟩⟩) hl L rc rs)
theorem mo_pop (hE : mmEn p s m args c cc own nL) (hd : decode cc pc = .ok (.pop, 1)) (hk : ∀ ls st μ, κ ls st μ → mmPt p l e R s m args below meth c QW nL D A b X1 X2 ids0 ad0 (pc + 1) ls st μ) (h : mmStep C J Q (.pop, pay, cst) κ ls st μ) : mmPt p l e R s m args below meth c QW nL D A b X1 X2 ids0 ad0 pc ls st μ := by
  obtain ⟨v, st, rfl, e1, h⟩ := mmP1_inv (show mmP1 st (fun _ r => κ ls r μ) from h)
  intro ids ad ca tys H locs cells slots la I ho hl L rc rs
  obtain ⟨hv, ho⟩ := List.forall_mem_cons.mp ho
  exact lv_pop hE.1 hE.2.1 hd (by rw [mmCv_cat, e1]; rfl) (hk _ _ _ h ids ad ca tys H locs cells slots la I ho hl L rc rs)
theorem mo_ifCond {cd : Jvm.ClassFile.Cond} {off : Int} (hE : mmEn p s m args c cc own nL) (hd : decode cc pc = .ok (.ifCond cd off, 3)) {tgt : Nat} (ht : (pc : Int) + off = (tgt : Int)) (hJ : ∀ ls st μ, J (pay.headD 0) ls st μ → mmPt p l e R s m args below meth c QW nL D A b X1 X2 ids0 ad0 tgt ls st μ) (hk : ∀ ls st μ, κ ls st μ → mmPt p l e R s m args below meth c QW nL D A b X1 X2 ids0 ad0 (pc + 3) ls st μ) (h : mmStep C J Q (.ifCond cd off, pay, cst) κ ls st μ) : mmPt p l e R s m args below meth c QW nL D A b X1 X2 ids0 ad0 pc ls st μ := by
  obtain ⟨x, st, rfl, h⟩ := mmPi_inv h
  intro ids ad ca tys H locs cells slots la I ho hl L rc rs
  obtain ⟨hx, ho⟩ := List.forall_mem_cons.mp ho
  have hx : mmR32 x := hx
  cases cd with
  | eq => exact lv_if_eq (tgt := tgt) hE.1 hE.2.1 hd ht (fun q => hJ _ _ _ (h.1 ((mm_eq hx mmR32_0).mp q)) ids ad ca tys H locs cells slots la I ho hl L rc rs) (fun q => hk _ _ _ (h.2 (fun z => q ((mm_eq hx mmR32_0).mpr z))) ids ad ca tys H locs cells slots la I ho hl L rc rs)
  | ne => exact lv_if_ne (tgt := tgt) hE.1 hE.2.1 hd ht (fun q => hJ _ _ _ (h.1 (fun z => q ((mm_eq hx mmR32_0).mpr z))) ids ad ca tys H locs cells slots la I ho hl L rc rs) (fun q => hk _ _ _ (h.2 ((mm_eq hx mmR32_0).mp q)) ids ad ca tys H locs cells slots la I ho hl L rc rs)
  | lt => exact lv_if_lt (tgt := tgt) hE.1 hE.2.1 hd ht (fun q => hJ _ _ _ (h.1 ((mm_lt hx mmR32_0).mp q)) ids ad ca tys H locs cells slots la I ho hl L rc rs) (fun q => hk _ _ _ (h.2 (Int.not_lt.mp (fun z => q ((mm_lt hx mmR32_0).mpr z)))) ids ad ca tys H locs cells slots la I ho hl L rc rs)
  | ge => exact lv_if_ge (tgt := tgt) hE.1 hE.2.1 hd ht (fun q => hJ _ _ _ (h.1 ((mm_le mmR32_0 hx).mp q)) ids ad ca tys H locs cells slots la I ho hl L rc rs) (fun q => hk _ _ _ (h.2 (Int.not_le.mp (fun z => q ((mm_le mmR32_0 hx).mpr z)))) ids ad ca tys H locs cells slots la I ho hl L rc rs)
  | gt => exact lv_if_gt (tgt := tgt) hE.1 hE.2.1 hd ht (fun q => hJ _ _ _ (h.1 ((mm_lt mmR32_0 hx).mp q)) ids ad ca tys H locs cells slots la I ho hl L rc rs) (fun q => hk _ _ _ (h.2 (Int.not_lt.mp (fun z => q ((mm_lt mmR32_0 hx).mpr z)))) ids ad ca tys H locs cells slots la I ho hl L rc rs)
  | le => exact lv_if_le (tgt := tgt) hE.1 hE.2.1 hd ht (fun q => hJ _ _ _ (h.1 ((mm_le hx mmR32_0).mp q)) ids ad ca tys H locs cells slots la I ho hl L rc rs) (fun q => hk _ _ _ (h.2 (Int.not_le.mp (fun z => q ((mm_le hx mmR32_0).mpr z)))) ids ad ca tys H locs cells slots la I ho hl L rc rs)
theorem mo_if_icmp {cd : Jvm.ClassFile.Cond} {off : Int} (hE : mmEn p s m args c cc own nL) (hd : decode cc pc = .ok (.if_icmp cd off, 3)) {tgt : Nat} (ht : (pc : Int) + off = (tgt : Int)) (hJ : ∀ ls st μ, J (pay.headD 0) ls st μ → mmPt p l e R s m args below meth c QW nL D A b X1 X2 ids0 ad0 tgt ls st μ) (hk : ∀ ls st μ, κ ls st μ → mmPt p l e R s m args below meth c QW nL D A b X1 X2 ids0 ad0 (pc + 3) ls st μ) (h : mmStep C J Q (.if_icmp cd off, pay, cst) κ ls st μ) : mmPt p l e R s m args below meth c QW nL D A b X1 X2 ids0 ad0 pc ls st μ := by
  obtain ⟨y, st, rfl, h⟩ := mmPi_inv h
  obtain ⟨x, st, rfl, h⟩ := mmPi_inv h
  intro ids ad ca tys H locs cells slots la I ho hl L rc rs
  obtain ⟨hy, ho⟩ := List.forall_mem_cons.mp ho
  obtain ⟨hx, ho⟩ := List.forall_mem_cons.mp ho
  have hx : mmR32 x := hx
  have hy : mmR32 y := hy
  cases cd with
  | eq => exact lv_icmp_eq (tgt := tgt) hE.1 hE.2.1 hd ht (fun q => hJ _ _ _ (h.1 ((mm_eq hx hy).mp q)) ids ad ca tys H locs cells slots la I ho hl L rc rs) (fun q => hk _ _ _ (h.2 (fun z => q ((mm_eq hx hy).mpr z))) ids ad ca tys H locs cells slots la I ho hl L rc rs)
  | ne => exact lv_icmp_ne (tgt := tgt) hE.1 hE.2.1 hd ht (fun q => hJ _ _ _ (h.1 (fun z => q ((mm_eq hx hy).mpr z))) ids ad ca tys H locs cells slots la I ho hl L rc rs) (fun q => hk _ _ _ (h.2 ((mm_eq hx hy).mp q)) ids ad ca tys H locs cells slots la I ho hl L rc rs)
  | lt => exact lv_icmp_lt (tgt := tgt) hE.1 hE.2.1 hd ht (fun q => hJ _ _ _ (h.1 ((mm_lt hx hy).mp q)) ids ad ca tys H locs cells slots la I ho hl L rc rs) (fun q => hk _ _ _ (h.2 (Int.not_lt.mp (fun z => q ((mm_lt hx hy).mpr z)))) ids ad ca tys H locs cells slots la I ho hl L rc rs)
  | ge => exact lv_icmp_ge (tgt := tgt) hE.1 hE.2.1 hd ht (fun q => hJ _ _ _ (h.1 ((mm_le hy hx).mp q)) ids ad ca tys H locs cells slots la I ho hl L rc rs) (fun q => hk _ _ _ (h.2 (Int.not_le.mp (fun z => q ((mm_le hy hx).mpr z)))) ids ad ca tys H locs cells slots la I ho hl L rc rs)
  | gt => exact lv_icmp_gt (tgt := tgt) hE.1 hE.2.1 hd ht (fun q => hJ _ _ _ (h.1 ((mm_lt hy hx).mp q)) ids ad ca tys H locs cells slots la I ho hl L rc rs) (fun q => hk _ _ _ (h.2 (Int.not_lt.mp (fun z => q ((mm_lt hy hx).mpr z)))) ids ad ca tys H locs cells slots la I ho hl L rc rs)
  | le => exact lv_icmp_le (tgt := tgt) hE.1 hE.2.1 hd ht (fun q => hJ _ _ _ (h.1 ((mm_le hx hy).mp q)) ids ad ca tys H locs cells slots la I ho hl L rc rs) (fun q => hk _ _ _ (h.2 (Int.not_le.mp (fun z => q ((mm_le hx hy).mpr z)))) ids ad ca tys H locs cells slots la I ho hl L rc rs)
theorem mo_ifnull {off : Int} (hE : mmEn p s m args c cc own nL) (hd : decode cc pc = .ok (.ifnull off, 3)) {tgt : Nat} (ht : (pc : Int) + off = (tgt : Int)) (hJ : ∀ ls st μ, J (pay.headD 0) ls st μ → mmPt p l e R s m args below meth c QW nL D A b X1 X2 ids0 ad0 tgt ls st μ) (hk : ∀ ls st μ, κ ls st μ → mmPt p l e R s m args below meth c QW nL D A b X1 X2 ids0 ad0 (pc + 3) ls st μ) (h : mmStep C J Q (.ifnull off, pay, cst) κ ls st μ) : mmPt p l e R s m args below meth c QW nL D A b X1 X2 ids0 ad0 pc ls st μ := by
  obtain ⟨x, st, rfl, h⟩ := mmPa_inv h
  intro ids ad ca tys H locs cells slots la I ho hl L rc rs
  obtain ⟨hx, ho9⟩ := List.forall_mem_cons.mp ho
  cases x with
  | none => exact lv_ifnullN hE.1 hE.2.1 hd ht (hJ _ _ _ (h.1 rfl) ids ad ca tys H locs cells slots la I ho9 hl L rc rs)
  | some x => exact lv_ifnull hE.1 hE.2.1 hd (hk _ _ _ (h.2 (fun q => by cases q)) ids ad ca tys H locs cells slots la I ho9 hl L rc rs)
theorem mo_goto {off : Int} (hE : mmEn p s m args c cc own nL) (hd : decode cc pc = .ok (.goto off, 3)) {tgt : Nat} (ht : (pc : Int) + off = (tgt : Int)) (hJ : ∀ ls st μ, J (pay.headD 0) ls st μ → mmPt p l e R s m args below meth c QW nL D A b X1 X2 ids0 ad0 tgt ls st μ) (h : mmStep C J Q (.goto off, pay, cst) κ ls st μ) : mmPt p l e R s m args below meth c QW nL D A b X1 X2 ids0 ad0 pc ls st μ := by
  intro ids ad ca tys H locs cells slots la I ho hl L rc rs
  exact lv_goto hE.1 hE.2.1 hd ht (hJ _ _ _ h ids ad ca tys H locs cells slots la I ho hl L rc rs)
end MMS
