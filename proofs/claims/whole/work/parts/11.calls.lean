/-- a state that comes of the first one: its tables alike, and the links among nest mates as they were -/
def mmAl (s00 U : State) : Prop := s00.vm.Alike U.vm ∧ ∀ (a : String) (i : Nat) (x : MethodName) (h : String), Cond.methodLinkNest a i x h ∈ lw_tbl → va_Nw (.methodLinkNest a i x h) U
theorem mmAl.warm {s00 s U : State} (h : mmAl s00 s) (hW : s.WarmedH U.vm) : mmAl s00 U := ⟨h.1.trans hW.alike, fun a i x hh hm => va_Nw.warmM hW (h.2 a i x hh hm)⟩
theorem mmAl.same {s00 s U : State} (h : mmAl s00 s) (hv : s.vm = U.vm) : mmAl s00 U := ⟨by rw [← hv]; exact h.1, fun a i x hh hm => va_Nw.same rfl hv (h.2 a i x hh hm)⟩
def mmRel (s00 : State) (D : va_G) (b : Nat) (X1 X2 : Int → Int) (ids : List mmO) (ad : mmO → Nat) (ca : mmO → ClassId) (tys : List (ClassId × FieldType)) (μ : mmM) (U : State) (H : Heap) : Prop :=
  va_P D mmCl (mmW ids ad ca μ) H ∧ va_K D mmCl tys U ∧ va_D (fun q => s00.heap.size ≤ q) (mmW ids ad ca μ) ∧ mmOk ids ca tys μ ∧ ad (1301, 0) = b ∧ μ.1 1301 0 = X1 ∧ μ.1 1302 0 = X2 ∧
  s00.heap.size ≤ H.size ∧ (∀ q : Nat, q < s00.heap.size → H[q]? = s00.heap[q]?) ∧ mmAl s00 U
def mmPc (s00 : State) (D : va_G) (b : Nat) (X1 X2 : Int → Int) (ids : List mmO) (ad : mmO → Nat) (ca : mmO → ClassId) (tys : List (ClassId × FieldType)) (μ : mmM) (sz : Nat) (a : List mmV) : Array Value → State → Prop :=
  va_Pc (a.map (mmCv ad)) (fun U => U.heap.size = sz ∧ mmRel s00 D b X1 X2 ids ad ca tys μ U U.heap ∧ ∀ v ∈ a, mmOv ids v)
def mmQc (s00 : State) (D : va_G) (b : Nat) (X1 X2 : Int → Int) (ids : List mmO) (ad : mmO → Nat) (ca : mmO → ClassId) (μ : mmM) (sz : Nat) (Q : Option mmV → mmM → Prop) : Array Value → State → Outcome → State → Prop := fun _ st oc t =>
  (∃ (r : Option mmV) (ν : mmM) (ids' : List mmO) (ad' : mmO → Nat) (ca' : mmO → ClassId) (tys' : List (ClassId × FieldType)), oc = .returned (r.map (mmCv ad')) ∧ Q r ν ∧ (∀ v, r = some v → mmOv ids' v) ∧ mmRel s00 D b X1 X2 ids' ad' ca' tys' ν t t.heap ∧
    va_D (va_A (mmW ids ad ca μ) sz) (mmW ids' ad' ca' ν) ∧ ∀ o ∈ ids, o ∈ ids' ∧ ad' o = ad o) ∧ va_F (va_A (mmW ids ad ca μ) sz) st t
def mmRm (d mc ms : Nat) : Room := { frames := d, cells := mc, slots := ms, locals := 64 * d }
/-- what stays over a method's run: the cells that it may write, and the start of all -/
def mmCtx (s00 s : State) (A : Nat → Prop) : Prop :=
  (∀ q, s.heap.size ≤ q → A q) ∧ (∀ q, A q → s00.heap.size ≤ q) ∧ s00.heap.size ≤ s.heap.size ∧ (∀ q : Nat, q < s00.heap.size → s.heap[q]? = s00.heap[q]?) ∧ mmAl s00 s
theorem mmCv_ext {ids : List mmO} {ad ad' : mmO → Nat} (h : ∀ o ∈ ids, ad' o = ad o) (h1 : ad' (1301, 0) = ad (1301, 0)) {v : mmV} (hv : mmOv ids v) : mmCv ad' v = mmCv ad v := by
  rcases v with z | z | r
  · rfl
  · rfl
  · cases r with
    | none => rfl
    | some o =>
      show Value.ref _ = Value.ref _
      rcases hv with hv | hv
      · rw [h o hv]
      · rw [hv, h1]
theorem mmOv_ext {ids ids' : List mmO} (h : ∀ o ∈ ids, o ∈ ids') {v : mmV} (hv : mmOv ids v) : mmOv ids' v := by
  rcases v with z | z | r
  · exact hv
  · exact hv
  · cases r with
    | none => trivial
    | some o => exact hv.elim (fun q => Or.inl (h o q)) Or.inr
theorem mmLv_ext {ids : List mmO} {ad ad' : mmO → Nat} (h : ∀ o ∈ ids, ad' o = ad o) (h1 : ad' (1301, 0) = ad (1301, 0)) : ∀ {ls : List (Option mmV)} {i : Nat}, (∀ v, some v ∈ ls → mmOv ids v) → mmLv ad' i ls = mmLv ad i ls
  | [], _, _ => rfl
  | none :: r, i, hl => mmLv_ext h h1 (ls := r) (i := i + 1) (fun v hv => hl v (List.mem_cons_of_mem _ hv))
  | some w :: r, i, hl => by
    show (i, mmCv ad' w) :: mmLv ad' (i + 1) r = (i, mmCv ad w) :: mmLv ad (i + 1) r
    rw [mmCv_ext h h1 (hl w List.mem_cons_self), mmLv_ext h h1 (ls := r) (i := i + 1) (fun v hv => hl v (List.mem_cons_of_mem _ hv))]
theorem mmTk_inv {f : List mmV → List mmV → Prop} : ∀ {n : Nat} {st acc : List mmV}, mmTk n st acc f → ∃ p r, st = p ++ r ∧ p.length = n ∧ f (p.reverse ++ acc) r
  | 0, st, acc, h => ⟨[], st, rfl, rfl, h⟩
  | n + 1, [], _, h => h.elim
  | n + 1, v :: st, acc, h => by
    obtain ⟨p, r, e1, e2, e3⟩ := mmTk_inv (n := n) (st := st) (acc := v :: acc) h
    exact ⟨v :: p, r, by rw [e1]; rfl, by rw [List.length_cons, e2], by simpa using e3⟩
theorem mm_cat {ad : mmO → Nat} : ∀ (st : List mmV), ((st.map (mmCv ad)).map fun v => v.category).sum ≤ 2 * st.length
  | [] => by simp
  | v :: st => by
    have := mm_cat (ad := ad) st
    simp only [List.map_cons, List.sum_cons, List.length_cons, mmCv_cat]
    split <;> omega
section MMC
variable {p : Program} {l : Launch} {e : Env} {R : Room} {s : State} {m : MethodId} {args : Array Value} {below : List Frame} {meth : Method} {c : Code} {QW : State → Prop}
variable {cc : ByteArray} {own : String} {nL : Nat} {D : va_G} {A : Nat → Prop} {b : Nat} {X1 X2 : Int → Int} {ids0 : List mmO} {ad0 : mmO → Nat}
theorem mmInv.rel {s00 : State} {ids : List mmO} {ad : mmO → Nat} {ca : mmO → ClassId} {tys : List (ClassId × FieldType)} {μ : mmM} {H : Heap} {locs : List Loc} (hX : mmCtx s00 s A) (I : mmInv D A b X1 X2 ids0 ad0 s ids ad ca tys μ H locs) {U : State} (hU : s.WarmedH U.vm) : mmRel s00 D b X1 X2 ids ad ca tys μ U H := by
  obtain ⟨h1, h2, h3, h4, h5, h6, h7, h8, h9⟩ := I
  refine ⟨h1, va_K.moved hU.alike h4, h2.weaken (fun _ q _ h => hX.2.1 q.1 h), h5, h6, h8, h9, Nat.le_trans hX.2.2.1 h3.1, fun q hq => ?_, hX.2.2.2.2.warm hU⟩
  rw [h3.2.1 q (Nat.lt_of_lt_of_le hq hX.2.2.1) (fun z => absurd (hX.2.1 q z) (by omega))]
  exact hX.2.2.2.1 q hq
theorem mmInv.free {s00 : State} {ids : List mmO} {ad : mmO → Nat} {ca : mmO → ClassId} {tys : List (ClassId × FieldType)} {μ : mmM} {H : Heap} {locs : List Loc} (hX : mmCtx s00 s A) (I : mmInv D A b X1 X2 ids0 ad0 s ids ad ca tys μ H locs) : ∀ q, va_A (mmW ids ad ca μ) H.size q → A q := by
  rintro q (⟨k, e, h⟩ | h)
  · exact I.2.1.2 k (q, e) h
  · exact hX.1 q (Nat.le_trans I.2.2.1.1 h)
/-- behind a call -/
theorem mm_call {s00 : State} {κ : List (Option mmV) → List mmV → mmM → Prop} {pc mc ms cells slots : Nat} {ls : List (Option mmV)} {r : List mmV} {la : Array Slot} {st0 : List Value} {aa : Array Value} {μ : mmM} {ids : List mmO} {ad : mmO → Nat} {ca : mmO → ClassId} {tys : List (ClassId × FieldType)} {H : Heap} {locs : List Loc} {fr : Addr → Prop}
    (hX : mmCtx s00 s A) (I : mmInv D A b X1 X2 ids0 ad0 s ids ad ca tys μ H locs) (ho : ∀ v ∈ r, mmOv ids v) (hl : ∀ v, some v ∈ ls → mmOv ids v) (L : mmLr la nL ad ls) (rc : cells + μ.2.2.2.1 ≤ R.cells) (rs : slots + μ.2.2.2.2 ≤ R.slots) (hmc : mc ≤ μ.2.2.2.1) (hms : ms ≤ μ.2.2.2.2)
    (hk : ∀ ls st μ, κ ls st μ → mmPt p l e R s m args below meth c QW nL D A b X1 X2 ids0 ad0 (pc + 3) ls st μ) (hfr : ∀ q, fr q → va_A (mmW ids ad ca μ) H.size q)
    (hr : va_Run p l e R s m args below meth c H locs cells slots mc ms (F0 m pc la st0) (r.map (mmCv ad)) (mmQc s00 D b X1 X2 ids ad ca (μ.1, μ.2.1, μ.2.2.1, mc, ms) H.size (fun v w => κ ls (mmPush v r) (w.1, w.2.1, w.2.2.1, μ.2.2.2.1 - mc, μ.2.2.2.2 - ms)) aa) fr) :
    W p l e R s m args below meth c H locs cells slots QW (F0 m pc la st0) := by
  intro T hT X
  obtain ⟨v, st₀, t, T', LL, h0, X', hL, e1, e2, ⟨⟨v', ν, ids', ad', ca', tys', hv, hq, hov, hrel, hD', hext⟩, hz, hk9⟩, st⟩ := hr T hT X
  have hv : v = v'.map (mmCv ad') := by injection hv
  subst hv
  rw [h0] at hz hk9
  have hF := I.free hX
  obtain ⟨i1, i2, i3, i4, i5, i6, i7, i8, i9⟩ := id I
  obtain ⟨g1, g2, g3, g4, g5, g6, g7, g8, g9, g10⟩ := hrel
  have hvm : s.vm.Alike t.vm := by rw [← e2]; exact X'.warmed.alike
  have hS' : va_S A s.heap T'.heap (locs ++ LL) := ⟨Nat.le_trans i3.1 (by rw [e1]; exact hz), fun q h1 h2 => by rw [e1, hk9 q (Nat.lt_of_lt_of_le h1 i3.1) (fun z => h2 (hF q z))]; exact i3.2.1 q h1 h2, fun q hq => by
      rcases List.mem_append.mp hq with h | h
      · exact i3.2.2 q h
      · exact hF _ (hfr _ (hL q h))⟩
  have I' : mmInv D A b X1 X2 ids0 ad0 s ids' ad' ca' tys' (ν.1, ν.2.1, ν.2.2.1, μ.2.2.2.1 - mc, μ.2.2.2.2 - ms) T'.heap (locs ++ LL) := by
    refine ⟨by rw [e1]; exact g1, hD'.weaken (fun _ q _ h => hF q.1 h), hS', va_K.moved hvm.symm g2, g4, g5, fun o ho => ?_, g6, g7⟩
    obtain ⟨a1, a2⟩ := i7 o ho
    obtain ⟨a3, a4⟩ := hext o a1
    exact ⟨a3, a4.trans a2⟩
  have had : ad' (1301, 0) = ad (1301, 0) := by rw [g5, i6]
  have hsub : ∀ o ∈ ids, o ∈ ids' := fun o h => (hext o h).1
  have hads : ∀ o ∈ ids, ad' o = ad o := fun o h => (hext o h).2
  have hrest : r.map (mmCv ad) = r.map (mmCv ad') := List.map_congr_left (fun v hv => (mmCv_ext hads had (ho v hv)).symm)
  have hok : ∀ v ∈ mmPush v' r, mmOv ids' v := by
    cases v' with
    | none => exact fun v hv => mmOv_ext hsub (ho v hv)
    | some w => exact List.forall_mem_cons.mpr ⟨hov w rfl, fun v hv => mmOv_ext hsub (ho v hv)⟩
  obtain ⟨t2, a1, b1⟩ := hk _ _ _ hq ids' ad' ca' tys' T'.heap (locs ++ LL) (cells + mc) (slots + ms) la I' hok (fun v hv => mmOv_ext hsub (hl v hv)) ⟨L.1, by rw [mmLv_ext hads had hl]; exact L.2⟩ (by show _ + (_ - _) ≤ _; omega) (by show _ + (_ - _) ≤ _; omega) T' rfl X'
  refine ⟨t2, st t2 ?_, b1⟩
  have : (v'.map (mmCv ad')).toList ++ r.map (mmCv ad) = (mmPush v' r).map (mmCv ad') := by
    rw [hrest]; cases v' <;> rfl
  show Steps _ _ _ (T'.setTop { F0 m pc la st0 with pc := pc + 3, stack := (v'.map (mmCv ad')).toList ++ r.map (mmCv ad) }) t2
  rw [this]
  exact a1
end MMC
