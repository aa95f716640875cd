section S8953
variable {p : Program} {e : Env} {s : State} {m : MethodId} {below : List Frame} {meth : Method} {c : Code} {l : Launch} {b L : Nat} {xs : Nat → Int32}
def jnQ : Option mmV → mmM → Prop := fun r _ => r = some (.inl 1)
theorem jn_ret {D : va_G} {X1 X2 : Int → Int} {ad0 : mmO → Nat} (hx : p.tables.exec = Jvm.exec) (hb : c.code = code) (hr : meth.sig.returnType = ret) (hlocks : meth.locks = false) : mmRet p l e room_1 s m #[Value.ref b] below meth c (lw_Z below #[Value.ref b] s) code D (fun q => s.heap.size ≤ q) b X1 X2 [] ad0 (some .boolean) jnQ := by
  intro r ν ids ad ca tys H locs cells slots la pc hQ I hov rc rs hk
  have e1 : r = some (.inl 1) := hQ
  subst e1
  have hd : decode code pc = .ok (.ireturn, 1) := by
    rcases hk with ⟨z, -, hd, -⟩ | ⟨z, hz, -⟩ | ⟨z, hz, -⟩ | ⟨hz, -⟩
    · exact hd
    · cases hz
    · cases hz
    · cases hz
  refine va_forget I.2.2.1.2.2 ?_
  refine W.widen (k := 601024) (n := 7293034) ?_ ?_ ?_
  · have h1 : room_1.cells = 601024 := rfl
    omega
  · have h1 : room_1.slots = 7293034 := rfl
    omega
  · exact lw_ret hx hb hr hlocks hd
theorem jm_by : mmBy 257 = code := by rfl
theorem jm_own : mmOwn 257 = "PostStonesLaw" := by rfl
theorem jm_ml : mmMl 257 = 7 := by rfl
theorem jm_rt : mmRt 257 = some .boolean := by rfl
theorem jm_0 : (mmPs 257).getD 0 0 = 0 := by decide +kernel
theorem jn_op (n : Nat) (op : mmP) (h : (mmCd 257)[n]? = some op) : mmOpB "PostStonesLaw" code 7 (some .boolean) false true (mmPs 257) n op = true := cl_op n op h
theorem jn_pr (n : Nat) (op : mmP) (h : lwP[n]? = some op) : mmOpB "PostStonesLaw" code 7 (some .boolean) false true (mmPs 257) n op = true := cl_pr n op h
theorem jn_R : 14 + 1 ≤ room_1.frames ∧ 64 * (14 + 1) ≤ room_1.locals := ⟨Nat.le_of_ble_eq_true rfl, Nat.le_of_ble_eq_true rfl⟩
theorem jn_R9 : 9 ≤ room_1.frames ∧ 576 ≤ room_1.locals := ⟨Nat.le_of_ble_eq_true rfl, Nat.le_of_ble_eq_true rfl⟩
theorem jn_len : lwP.length = 13 := rfl
theorem jn_body {D : va_G} {X1 X2 : Int → Int} {ad0 : mmO → Nat} (hE : mmEn p s m #[Value.ref b] c code "PostStonesLaw" 7) (hX : mmCtx s s (fun q => s.heap.size ≤ q)) (h00 : va_AO "PostStones$Row" s) (hRt : mmRet p l e room_1 s m #[Value.ref b] below meth c (lw_Z below #[Value.ref b] s) code D (fun q => s.heap.size ≤ q) b X1 X2 [] ad0 (some .boolean) jnQ) (hSc : mmScr s (fun q => s.heap.size ≤ q) b X1 X2) (hMt : ∀ y, mmMB y = true → mmMt l s 14 (mmC 13) y (mmNm y) (mmBy y) (mmMl y) (mmRt y)) (hlaw : (∀ (J : Nat → List (Option mmV) → List mmV → mmM → Prop) (pl : Nat) (cst : Int) (κ : List (Option mmV) → List mmV → mmM → Prop) (ls : List (Option mmV)) (st : List mmV) (μ : mmM) (pc : Nat), decode code pc = .ok (.invokestatic 39, 3) → (∀ ls st μ, κ ls st μ → mmPt p l e room_1 s m #[Value.ref b] below meth c (lw_Z below #[Value.ref b] s) 7 D (fun q => s.heap.size ≤ q) b X1 X2 [] ad0 (pc + 3) ls st μ) → mmStep (mmC 13) J jnQ (.invokestatic 39, [20, 256, 4, 1, 8, pl], cst) κ ls st μ → mmPt p l e room_1 s m #[Value.ref b] below meth c (lw_Z below #[Value.ref b] s) 7 D (fun q => s.heap.size ≤ q) b X1 X2 [] ad0 pc ls st μ)) {ls : List (Option mmV)} {st : List mmV} {μ : mmM} (h : mmK 13 257 jnQ 13 ls st μ) : mmPt p l e room_1 s m #[Value.ref b] below meth c (lw_Z below #[Value.ref b] s) 7 D (fun q => s.heap.size ≤ q) b X1 X2 [] ad0 ((mmPs 257).getD 13 0) ls st μ :=
  mm_body (code0 := mmCd 257) (pcs := mmPs 257) (ini := false) (law := true) (d := 14) (n := 13) hE hX h00 jn_R hRt (fun _ => hSc) (fun q => by cases q) hMt (fun _ => hlaw) jn_op h
theorem jn_seq {D : va_G} {X1 X2 : Int → Int} {ad0 : mmO → Nat} (hE : mmEn p s m #[Value.ref b] c code "PostStonesLaw" 7) (hX : mmCtx s s (fun q => s.heap.size ≤ q)) (h00 : va_AO "PostStones$Row" s) (hRt : mmRet p l e room_1 s m #[Value.ref b] below meth c (lw_Z below #[Value.ref b] s) code D (fun q => s.heap.size ≤ q) b X1 X2 [] ad0 (some .boolean) jnQ) (hSc : mmScr s (fun q => s.heap.size ≤ q) b X1 X2) (hMt : ∀ y, mmMB y = true → mmMt l s 14 (mmC 13) y (mmNm y) (mmBy y) (mmMl y) (mmRt y)) (hlaw : (∀ (J : Nat → List (Option mmV) → List mmV → mmM → Prop) (pl : Nat) (cst : Int) (κ : List (Option mmV) → List mmV → mmM → Prop) (ls : List (Option mmV)) (st : List mmV) (μ : mmM) (pc : Nat), decode code pc = .ok (.invokestatic 39, 3) → (∀ ls st μ, κ ls st μ → mmPt p l e room_1 s m #[Value.ref b] below meth c (lw_Z below #[Value.ref b] s) 7 D (fun q => s.heap.size ≤ q) b X1 X2 [] ad0 (pc + 3) ls st μ) → mmStep (mmC 13) J jnQ (.invokestatic 39, [20, 256, 4, 1, 8, pl], cst) κ ls st μ → mmPt p l e room_1 s m #[Value.ref b] below meth c (lw_Z below #[Value.ref b] s) 7 D (fun q => s.heap.size ≤ q) b X1 X2 [] ad0 pc ls st μ)) {ls : List (Option mmV)} {st : List mmV} {μ : mmM} (h : mmSq (mmC 13) (fun _ _ _ _ => False) jnQ lwP (mmK 13 257 jnQ 13) ls st μ) : mmPt p l e room_1 s m #[Value.ref b] below meth c (lw_Z below #[Value.ref b] s) 7 D (fun q => s.heap.size ≤ q) b X1 X2 [] ad0 0 ls st μ := by
  have hpt := mm_seq (code1 := lwP) (pcs := mmPs 257) (ini := false) (law := true) (d := 14) (K := mmK 13 257 jnQ 13) hE hX h00 jn_R hRt (fun _ => hSc) (fun q => by cases q) hMt (fun _ => hlaw) jn_pr (fun t ls st μ q => q.elim) (fun ls st μ h => by rw [jn_len]; exact jn_body hE hX h00 hRt hSc hMt hlaw h) h
  rw [jm_0] at hpt
  exact hpt
theorem jn_pre (hL : L ≤ 3072) : mmSq (mmC 13) (fun _ _ _ _ => False) jnQ lwP (mmK 13 257 jnQ 13) [some (mo 1301 0), none, none, none, none, none, none] [] (jnI L xs, mmRf 0 (fun _ => none), (fun _ => 0), 601024, 7293034) :=
  lw_pre (d := 0) (P := fun _ _ _ _ => False) (Q := jnQ) (I := jnI L xs) (S := jnI L xs 1301 0) (len := (L : Int)) jnI_0 ⟨rfl, jnI_l⟩ ⟨Int.natCast_nonneg _, by omega⟩ (fun k h0 h1 => ⟨h0, by rw [jnI_s, if_pos ⟨h0, h1⟩]; have := (mm_r32 (xs k.toNat)).2; omega⟩) (fun μ => rfl)
theorem jn_inv {D : va_G} {R : Nat → Nat → Int → Option mmO} {bc bs : Nat} (hK : va_K D mmCl [] s) : mmInv D (fun q => s.heap.size ≤ q) b (jnI L xs 1301 0) (jnI L xs 1302 0) [] (fun _ => b) s [] (fun _ => b) (fun _ => 0) [] (jnI L xs, R, (fun _ => 0), bc, bs) s.heap [] := by
  refine ⟨fun k q h => (by simp [mmW] at h), ⟨fun i j p q h => (by simp [mmW] at h), fun k q h => (by simp [mmW] at h)⟩, va_S.rf, hK, ⟨List.nodup_nil, fun o => ⟨fun h => (by cases h), fun h => absurd h (Nat.not_lt_zero _)⟩, fun o h => (by cases h), fun o h => (by cases h), fun o h => (by cases h)⟩, rfl, fun o h => (by cases h), rfl, rfl⟩
theorem jn_mt (h00 : va_AO "PostStones$Row" s) (hn : mmSt s "NAMES" nmL) (ho : mmSt s "OTHER_WORDS" otL) (h03 : va_AOA .int s) : ∀ y, mmMB y = true → mmMt l s 14 (mmC 13) y (mmNm y) (mmBy y) (mmMl y) (mmRt y) := mm_sound2 (l := l) (s00 := s) (mS := mmSpc) h00 ⟨_, rfl⟩ ja (jn_S hn ho h03) 13
theorem jn_scr (hL : L ≤ 3072) (hXs : va_X b L xs s s.heap) (hbl : b < s.heap.size) : mmScr s (fun q => s.heap.size ≤ q) b (jnI L xs 1301 0) (jnI L xs 1302 0) := by
  refine ⟨L, xs, hXs, hbl, Nat.not_le.mpr hbl, jnI_l, by omega, fun j hj => ?_⟩
  rw [jnI_s, if_pos (by omega)]
  rfl
theorem jn_go {D : va_G} {ad0 : mmO → Nat} {μ : mmM} (hc : μ.2.2.2.1 = 601024) (hs : μ.2.2.2.2 = 7293034) (hpt : mmPt p l e room_1 s m #[Value.ref b] below meth c (lw_Z below #[Value.ref b] s) 7 D (fun q => s.heap.size ≤ q) b (jnI L xs 1301 0) (jnI L xs 1302 0) [] ad0 0 [some (mo 1301 0), none, none, none, none, none, none] [] μ) (I : mmInv D (fun q => s.heap.size ≤ q) b (jnI L xs 1301 0) (jnI L xs 1302 0) [] ad0 s [] (fun _ => b) (fun _ => 0) [] μ s.heap []) : W p l e room_1 s m #[Value.ref b] below meth c s.heap [] 0 0 (lw_Z below #[Value.ref b] s) (entryFrame m ([Value.ref b] : List Value).toArray 7) := by
  have hl := lv_entry ([.ref b]) (n := 7) (Nat.le_of_ble_eq_true rfl)
  rw [lg_entry_eq]
  generalize (lg_sl ([.ref b]) ++ List.replicate (7 - (lg_sl ([.ref b])).length) Slot.unset).toArray = la at hl ⊢
  have h1 : room_1.cells = 601024 := rfl
  have h2 : room_1.slots = 7293034 := rfl
  exact hpt [] (fun _ => b) (fun _ => 0) [] s.heap [] 0 0 la I (fun v hv => (by cases hv)) (fun v hv => by
    have e1 : v = .inr (.inr (some (1301, 0))) := by simpa using hv
    rw [e1]
    exact Or.inr rfl) ⟨rfl, hl⟩ (by omega) (by omega)
theorem whole_start (htr : l.stackTraces = false) (hL : L ≤ 3072) (C0 : lw_At p s m meth c b L xs) : W p l e room_1 s m #[Value.ref b] below meth c s.heap [] 0 0 (lw_Z below #[Value.ref b] s) (entryFrame m ([Value.ref b] : List Value).toArray 7) := by
  obtain ⟨hx, hb, hr, hml, hown, hts, hXs, hbl, hlocks, hgv⟩ := id C0
  have hs := flat_of_before _ hgv
  have hE : mmEn p s m #[Value.ref b] c code "PostStonesLaw" 7 := ⟨hx, hb, hml, hown, fun w hw => hts w (List.mem_filter.mp hw).1⟩
  have hX : mmCtx s s (fun q => s.heap.size ≤ q) := ⟨fun q h => h, fun q h => h, Nat.le_refl _, fun q _ => rfl, Vm.Alike.refl _, fun a i x h hm => va_Nw.of rfl (hts _ hm)⟩
  obtain ⟨D, hK⟩ := jn_K hE.2.2.2.2
  have h00 : va_AO "PostStones$Row" s := va_AO.of (hts _ jw_row)
  have h03 : va_AOA .int s := va_AOA.of (hts _ jw_arr)
  have hn : mmSt s "NAMES" nmL := jn_st (by decide) (hts _ jw_n) (hts _ jw_w) (hs _ jl_na) (hs _ jl_nl) (fun j hj => hs _ (jl_n j hj))
  have ho : mmSt s "OTHER_WORDS" otL := jn_st (by decide) (hts _ jw_o) (hts _ jw_w) (hs _ jl_oa) (hs _ jl_ol) (fun j hj => hs _ (jl_o j hj))
  have hlk := jn_lkS hts hs
  obtain ⟨sa1, hs1⟩ := jn_str (hts _ jw_1) (hs _ jl_1)
  obtain ⟨sa2, hs2⟩ := jn_str (hts _ jw_2) (hs _ jl_2)
  have hMt := jn_mt (l := l) h00 hn ho h03
  have hRt := jn_ret (p := p) (l := l) (e := e) (s := s) (m := m) (below := below) (b := b) (D := D) (X1 := jnI L xs 1301 0) (X2 := jnI L xs 1302 0) (ad0 := fun _ => b) hx hb hr hlocks
  have hSc := jn_scr hL hXs hbl
  have hpt := jn_seq (l := l) (e := e) (below := below) hE hX h00 hRt hSc hMt (fun J pl cst κ ls st μ pc hd hk h => lk_law (d := 12) hE hX htr hlk jn_R9 hs1 hs2 J pl cst κ ls st μ pc hd hk h) (jn_pre (xs := xs) hL)
  exact jn_go rfl rfl hpt (jn_inv hK)
end S8953

