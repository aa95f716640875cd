section S8947
variable {p : Program} {l : Launch} {e : Env} {R : Room} {s : State} {m : MethodId} {args : Array Value} {below : List Frame} {meth : Method} {c : Code} {QW : State → Prop}
variable {cc : ByteArray} {own : String} {nL : Nat} {D : va_G} {A : Nat → Prop} {b : Nat} {X1 X2 : Int → Int} {ids0 : List mmO} {ad0 : mmO → Nat}
variable {ls : List (Option mmV)} {st : List mmV} {μ : mmM} {s00 : State} {pc d idx : Nat}
theorem mo_getA {cx f : Nat} {cl : vw_C} {o v : mmO} (hE : mmEn p s m args c cc own nL) (hd : decode cc pc = .ok (.getfield idx, 3)) (hcl : mmCl[cx]? = some cl) (hN : mmKn cx = cl.2.2) (hf : f < mmKn cx) (hty : mmKt cx f = 3) (hwd : Cond.fieldLink own idx (cl.2.1 f).1 (cl.2.1 f).2.1 (cl.2.1 f).2.2.1 ∈ mmTs) (hko : mmKo o.1 = some cx) (hv : μ.2.1 o.1 o.2 (f : Int) = some v)
    (hk : mmPt p l e R s m args below meth c QW nL D A b X1 X2 ids0 ad0 (pc + 3) ls (.inr (.inr (some v)) :: st) μ) : mmPt p l e R s m args below meth c QW nL D A b X1 X2 ids0 ad0 pc ls (.inr (.inr (some o)) :: st) μ := by
  refine mo_getfield (cx := cx) (f := f) (ty := 3) (pl := 0) (C := fun _ _ _ _ => False) (J := fun _ _ _ _ => False) (Q := fun _ _ => False) (cst := 0) hE hd hcl hN hf hty hwd (fun _ _ _ q => q) ?_
  refine ⟨hko, ?_⟩
  show mmPt p l e R s m args below meth c QW nL D A b X1 X2 ids0 ad0 (pc + 3) ls (.inr (.inr (μ.2.1 o.1 o.2 (f : Int))) :: st) μ
  rw [hv]
  exact hk
theorem mo_getI {cx f : Nat} {cl : vw_C} {o : mmO} (hE : mmEn p s m args c cc own nL) (hd : decode cc pc = .ok (.getfield idx, 3)) (hcl : mmCl[cx]? = some cl) (hN : mmKn cx = cl.2.2) (hf : f < mmKn cx) (hty : mmKt cx f = 0) (hwd : Cond.fieldLink own idx (cl.2.1 f).1 (cl.2.1 f).2.1 (cl.2.1 f).2.2.1 ∈ mmTs) (hko : mmKo o.1 = some cx)
    (hk : mmPt p l e R s m args below meth c QW nL D A b X1 X2 ids0 ad0 (pc + 3) ls (.inl (μ.1 o.1 o.2 (f : Int)) :: st) μ) : mmPt p l e R s m args below meth c QW nL D A b X1 X2 ids0 ad0 pc ls (.inr (.inr (some o)) :: st) μ := by
  refine mo_getfield (cx := cx) (f := f) (ty := 0) (pl := 0) (C := fun _ _ _ _ => False) (J := fun _ _ _ _ => False) (Q := fun _ _ => False) (cst := 0) hE hd hcl hN hf hty hwd (fun _ _ _ q => q) ?_
  exact ⟨hko, hk⟩
/-- behind a call that returns or throws -/
theorem mx_call {EC : String → Prop} {κ : List (Option mmV) → List mmV → mmM → Prop} {mc ms cells slots : Nat} {r : List mmV} {la : Array Slot} {st0 : List Value} {aa : Array Value} {ids : List mmO} {ad : mmO → Nat} {ca : mmO → ClassId} {tys : List (ClassId × FieldType)} {H : Heap} {locs : List Loc} {fr : Addr → Prop}
    (hX : mmCtx s00 s A) (I : mmInv D A b X1 X2 ids0 ad0 s ids ad ca tys μ H locs) (ho : ∀ v ∈ r, mmOv ids v) (hl : ∀ v, some v ∈ ls → mmOv ids v) (L : mmLr la nL ad ls) (rc : cells + μ.2.2.2.1 ≤ R.cells) (rs : slots + μ.2.2.2.2 ≤ R.slots) (hmc : mc ≤ μ.2.2.2.1) (hms : ms ≤ μ.2.2.2.2)
    (hk : ∀ ls st μ, κ ls st μ → mmPt p l e R s m args below meth c QW nL D A b X1 X2 ids0 ad0 (pc + 3) ls st μ) (hfr : ∀ q, fr q → va_A (mmW ids ad ca μ) H.size q)
    (hr : vx_Run p l e R s m args below meth c H locs cells slots mc ms (F0 m pc la st0) (r.map (mmCv ad)) (mmQc s00 D b X1 X2 ids ad ca (μ.1, μ.2.1, μ.2.2.1, mc, ms) H.size (fun v w => κ ls (mmPush v r) (w.1, w.2.1, w.2.2.1, μ.2.2.2.1 - mc, μ.2.2.2.2 - ms)) aa) (lkX EC D b ids ad ca (μ.1, μ.2.1, μ.2.2.1, mc, ms) H.size) fr)
    (kx : ∀ (E : String) (ce : Cell) (q9 : Addr) (H1 : Heap) (locs1 : List Loc) (ids' : List mmO) (ad' : mmO → Nat) (ca' : mmO → ClassId) (tys' : List (ClassId × FieldType)), EC E → mmInv D A b X1 X2 ids0 ad0 s ids' ad' ca' tys' μ H1 locs1 → H1[q9]? = some ce → ce.vm = .none → s.vm.findClass E = some ce.cls → vx_W p l e R s m args below meth c H1 locs1 (cells + mc) (slots + ms) QW (F0 m pc la (r.map (mmCv ad))) q9) :
    W p l e R s m args below meth c H locs cells slots QW (F0 m pc la st0) := by
  intro T hT X
  have hF := I.free hX
  obtain ⟨i1, i2, i3, i4, i5, i6, i7, i8, i9⟩ := id I
  rcases hr T hT X with ⟨v, st₀, t, T', LL, h0, X', hL, e1, e2, ⟨⟨v', ν, ids', ad', ca', tys', hv, hq, hov, hrel, hD', hext⟩, hz, hk9⟩, st⟩ | ⟨q, st₀, t, T', LL, E, ce, h0, X', hL, e1, e2, ⟨hE9, ⟨ids', ad', ca', tys', g1, g2, g3, g4, g5, g6⟩, hz, hk9⟩, hce, hcv, hcl, st⟩
  · have hv : v = v'.map (mmCv ad') := by injection hv
    subst hv
    rw [h0] at hz hk9
    obtain ⟨g1, g2, g3, g4, g5, g6, g7, g8, g9, g10⟩ := hrel
    have hvm : s.vm.Alike t.vm := by rw [← e2]; exact X'.warmed.alike
    have hS' : va_S A s.heap T'.heap (locs ++ LL) := ⟨Nat.le_trans i3.1 (by rw [e1]; exact hz), fun q h1 h2 => by rw [e1, hk9 q (Nat.lt_of_lt_of_le h1 i3.1) (fun z => h2 (hF q z))]; exact i3.2.1 q h1 h2, fun q hq => by
        rcases List.mem_append.mp hq with h | h
        · exact i3.2.2 q h
        · exact hF _ (hfr _ (hL q h))⟩
    have I' : mmInv D A b X1 X2 ids0 ad0 s ids' ad' ca' tys' (ν.1, ν.2.1, ν.2.2.1, μ.2.2.2.1 - mc, μ.2.2.2.2 - ms) T'.heap (locs ++ LL) := by
      refine ⟨by rw [e1]; exact g1, hD'.weaken (fun _ q _ h => hF q.1 h), hS', va_K.moved hvm.symm g2, g4, g5, fun o ho => ?_, g6, g7⟩
      obtain ⟨a1, a2⟩ := i7 o ho
      obtain ⟨a3, a4⟩ := hext o a1
      exact ⟨a3, a4.trans a2⟩
    have had : ad' (1301, 0) = ad (1301, 0) := by rw [g5, i6]
    have hsub : ∀ o ∈ ids, o ∈ ids' := fun o h => (hext o h).1
    have hads : ∀ o ∈ ids, ad' o = ad o := fun o h => (hext o h).2
    have hrest : r.map (mmCv ad) = r.map (mmCv ad') := List.map_congr_left (fun v hv => (mmCv_ext hads had (ho v hv)).symm)
    have hok : ∀ v ∈ mmPush v' r, mmOv ids' v := by
      cases v' with
      | none => exact fun v hv => mmOv_ext hsub (ho v hv)
      | some w => exact List.forall_mem_cons.mpr ⟨hov w rfl, fun v hv => mmOv_ext hsub (ho v hv)⟩
    obtain ⟨t2, a1, b1⟩ := hk _ _ _ hq ids' ad' ca' tys' T'.heap (locs ++ LL) (cells + mc) (slots + ms) la I' hok (fun v hv => mmOv_ext hsub (hl v hv)) ⟨L.1, by rw [mmLv_ext hads had hl]; exact L.2⟩ (by show _ + (_ - _) ≤ _; omega) (by show _ + (_ - _) ≤ _; omega) T' rfl X'
    refine ⟨t2, st t2 ?_, b1⟩
    have : (v'.map (mmCv ad')).toList ++ r.map (mmCv ad) = (mmPush v' r).map (mmCv ad') := by
      rw [hrest]; cases v' <;> rfl
    show Steps _ _ _ (T'.setTop { F0 m pc la st0 with pc := pc + 3, stack := (v'.map (mmCv ad')).toList ++ r.map (mmCv ad) }) t2
    rw [this]
    exact a1
  · rw [h0] at hz hk9
    have hvm : s.vm.Alike t.vm := by rw [← e2]; exact X'.warmed.alike
    have hS' : va_S A s.heap T'.heap (locs ++ LL) := ⟨Nat.le_trans i3.1 (by rw [e1]; exact hz), fun q h1 h2 => by rw [e1, hk9 q (Nat.lt_of_lt_of_le h1 i3.1) (fun z => h2 (hF q z))]; exact i3.2.1 q h1 h2, fun q hq => by
        rcases List.mem_append.mp hq with h | h
        · exact i3.2.2 q h
        · exact hF _ (hfr _ (hL q h))⟩
    have I' : mmInv D A b X1 X2 ids0 ad0 s ids' ad' ca' tys' μ T'.heap (locs ++ LL) := by
      refine ⟨by rw [e1]; exact g1, g2.weaken (fun _ q _ h => hF q.1 h), hS', va_K.moved hvm.symm g3, g4, g5, fun o ho => ?_, i8, i9⟩
      obtain ⟨a1, a2⟩ := i7 o ho
      obtain ⟨a3, a4⟩ := g6 o a1
      exact ⟨a3, a4.trans a2⟩
    obtain ⟨t2, a1, b1⟩ := kx E ce q T'.heap (locs ++ LL) ids' ad' ca' tys' hE9 I' (by rw [e1]; exact hce) hcv hcl T' rfl X'
    exact ⟨t2, st.trans a1, b1⟩
end S8947
