section S880
variable {d a D y y' : Nat} {I I1 I2 I' I'' : mMm} {br br' : Nat → Option mmO} {X : mmX} {L L' M M' : Nat → Int → Int} {r : mRu} {S : Int → Int} {len n w k v p q s i m : Int} {T : List Int} {z : mmV} {args args' : List mmV} {Q : Option mmV → mmM → Prop}
/-- the same but for the logs -/
def LgE (L L' : Nat → Int → Int) : Prop := ∀ f, f ≤ 10 ∨ f = 14 → L' f = L f
theorem oW_lg (e : LgE L L') : oW L' = oW L := by
  funext z l; unfold oW; rw [e 2 (by omega)]
theorem odT_lg (e : LgE L L') {z : Int} {K : Int → Bool} : odT L' z K = odT L z K := by
  unfold odT; rw [oW_lg e, e 0 (by omega)]
theorem Kv_lg (e : LgE L L') : Kv L' (L' 3) = Kv L (L 3) := by
  funext w l; unfold Kv; rw [e 1 (by omega), e 2 (by omega), e 3 (by omega), e 14 (by omega)]
theorem fitP_lg (e : LgE L L') : fitP L' = fitP L := by
  funext x l k; unfold fitP; rw [e 9 (by omega), e 6 (by omega)]
theorem nIf_lg (e : LgE L L') : nIf L' = nIf L := by
  funext l; unfold nIf; rw [e 7 (by omega), e 6 (by omega)]
theorem ifP_lg (e : LgE L L') {m : Int} {B : mBd} {la : Int} : ifP r L' m B la = ifP r L m B la := by
  funext l k; unfold ifP; rw [fitP_lg e, e 8 (by omega), e 6 (by omega), e 10 (by omega)]
theorem chF_lg (e : LgE L L') {m : Int} {B : mBd} {la : Int} : chF r L' T m B la = chF r L T m B la := by
  unfold chF; rw [ifP_lg e, nIf_lg e]
theorem vlI_lg (e : LgE L L') : vlI L' = vlI L := by
  funext c; unfold vlI; rw [e 6 (by omega), e 10 (by omega)]
theorem plS_lg (e : LgE L L') : ∀ n : Nat, plS r L' T n = plS r L T n
  | 0 => rfl
  | n + 1 => by
    unfold plS
    rw [plS_lg e n, vlI_lg e, chF_lg e]
theorem rH_lg (e : LgE L L') : rH r L' T = rH r L T := by
  funext i; unfold rH; rw [plS_lg e]
theorem rM_lg (e : LgE L L') : rM r L' T = rM r L T := by
  funext i; unfold rM; rw [plS_lg e]
theorem rC_lg (e : LgE L L') : rC r L' T = rC r L T := by
  funext i; unfold rC; rw [rH_lg e, rM_lg e, chF_lg e]
theorem rV_lg (e : LgE L L') : rV r L' T = rV r L T := by
  funext i; unfold rV; rw [rC_lg e, vlI_lg e]
theorem rG_lg (e : LgE L L') : rG r L' T = rG r L T := by
  funext i; unfold rG; rw [rC_lg e, rH_lg e]
theorem rN_lg (e : LgE L L') : ∀ (q : Nat) (i : Int), rN r L' T q i = rN r L T q i
  | 0, i => rfl
  | q + 1, i => by
    unfold rN
    rw [rG_lg e, rN_lg e q]
theorem rNN_lg (e : LgE L L') : rNN r L' T = rNN r L T := by
  unfold rNN; rw [rN_lg e]
theorem ftV_lg (e : LgE L L') : ftV L' = ftV L := by
  funext z la c l k; unfold ftV befP; rw [fitP_lg e, oW_lg e]
theorem RowV_lg (e : LgE L L') {w : Nat} (h : RowV I br a w r L) : RowV I br a w r L' := by
  unfold RowV RowC RowA at h ⊢
  rw [Kv_lg e, odT_lg e, rNN_lg e, rH_lg e, rV_lg e, rC_lg e, rM_lg e, nIf_lg e, ftV_lg e, e 8 (by omega), e 6 (by omega), e 0 (by omega)]
  exact h
theorem p_log {l e : Int} (hS : SC I S len) (h : CPr I br a r L n) : mmC (d + 13) 127 [mo 10 0, mv l, mv e] (I, mmRf a br, X) (pR X S len n (d + 13) 248 [mo 11 0, mv l, mv e]) := by
  have hW0 := CP_LW h
  have hE0 := CP_LE h
  have h16 : 0 ≤ I 3 0 0 ∧ I 3 0 0 ≤ 16 := hW0.1
  have h20 : 0 ≤ I 3 0 11 ∧ I 3 0 11 ≤ 20 := hW0.2.1
  have e68 : I 11 0 68 = I 3 0 0 := hE0.1
  have e69 : I 11 0 69 = I 3 0 11 := hE0.2.1
  refine sp_log hW0 (fun c => ?_) (fun c1 c2 c3 => ?_)
  · exact ⟨_, I, br, a, rfl, rfl, hS, sq_log (by rw [e69]; exact h20) (fun _ => ⟨rfl, _, br, a, rfl, p_end2 hS h⟩) (fun q1 q2 q3 => absurd ⟨by rw [← e68]; exact q1, q2, by rw [← e69]; exact q3⟩ c)⟩
  · have hl := hW0.2.2.2.2.2
    have hel := hE0.2.2.2.2.2
    simp only [Lc_11, Lc_12, Lc_13, Lc_0] at hl
    simp only [Lc_11, Lc_12, Lc_13, Lm_12, Lm_13] at hel
    generalize hI1 : mmU (mmU (mmU I 412 0 (I 3 0 11) l) 413 0 (I 3 0 11) e) 3 0 11 (I 3 0 11 + 1) = I1
    generalize hs : I 3 0 0 = s at *
    generalize hc : I 3 0 11 = c at *
    have g1 : ∀ t j k, ¬ (t = 412 ∧ j = 0 ∧ k = c) → ¬ (t = 413 ∧ j = 0 ∧ k = c) → ¬ (t = 3 ∧ j = 0 ∧ k = 11) → I1 t j k = I t j k := by
      intro t j k d1 d2 d3
      rw [← hI1, uO d3, uO d2, uO d1]
    have k11 : I1 3 0 11 = c + 1 := by rw [← hI1, uS]
    have k12 : I1 412 0 c = l := by rw [← hI1, uO (by omega), uO (by omega), uS]
    have k13 : I1 413 0 c = e := by rw [← hI1, uO (by omega), uS]
    clear hI1
    have f68 : I1 11 0 68 = s := (g1 _ _ _ (by omega) (by omega) (by omega)).trans e68
    have f69 : I1 11 0 69 = c := (g1 _ _ _ (by omega) (by omega) (by omega)).trans e69
    refine ⟨_, I1, br, a, rfl, rfl, SC_ext hS (fun t i k ht => g1 _ _ _ (by omega) (by omega) (by omega)), sq_log (by rw [f69]; exact h20) (fun z => absurd ⟨by rw [f68]; exact c1, c2, by rw [f69]; exact c3⟩ z) (fun _ _ _ => ?_)⟩
    rw [f69]
    refine ⟨rfl, _, br, a, rfl, ?_⟩
    generalize hI2 : mmU (mmU (mmU (mmU I1 11 0 2 0) 1277 0 c l) 1278 0 c e) 11 0 69 (c + 1) = I2
    have g2 : ∀ t j k, ¬ (t = 11 ∧ j = 0 ∧ (k = 2 ∨ k = 69)) → ¬ (t = 1277 ∧ j = 0 ∧ k = c) → ¬ (t = 1278 ∧ j = 0 ∧ k = c) → I2 t j k = I1 t j k := by
      intro t j k d1 d2 d3
      rw [← hI2, uO (by omega), uO d3, uO d2, uO (by omega)]
    have j11 : I2 11 0 69 = c + 1 := by rw [← hI2, uS]
    have j12 : I2 1277 0 c = l := by rw [← hI2, uO (by omega), uO (by omega), uS]
    have j13 : I2 1278 0 c = e := by rw [← hI2, uO (by omega), uS]
    clear hI2
    have g : ∀ t j k, ¬ (t = 412 ∧ j = 0 ∧ k = c) → ¬ (t = 413 ∧ j = 0 ∧ k = c) → ¬ (t = 3 ∧ j = 0 ∧ k = 11) → ¬ (t = 11 ∧ j = 0 ∧ (k = 2 ∨ k = 69)) → ¬ (t = 1277 ∧ j = 0 ∧ k = c) → ¬ (t = 1278 ∧ j = 0 ∧ k = c) → I2 t j k = I t j k := fun t j k d1 d2 d3 d4 d5 d6 => (g2 t j k d4 d5 d6).trans (g1 t j k d1 d2 d3)
    have hA : ∀ f k, f ≤ 10 ∨ f = 14 → Lc I2 0 f k = Lc I 0 f k := fun f k hf => Lc_cs (fun _ => g _ _ _ (by omega) (by omega) (by omega) (by omega) (by omega) (by omega)) (fun _ => by omega) (fun _ => g _ _ _ (by omega) (by omega) (by omega) (by omega) (by omega) (by omega)) (fun _ _ _ => g _ _ _ (by omega) (by omega) (by omega) (by omega) (by omega) (by omega))
    have hB : ∀ f k, f ≤ 10 ∨ f = 14 → Lm I2 f k = Lm I f k := fun f k hf => Lm_cs (fun _ => g _ _ _ (by omega) (by omega) (by omega) (by omega) (by omega) (by omega)) (fun _ => by omega) (fun _ => g _ _ _ (by omega) (by omega) (by omega) (by omega) (by omega) (by omega)) (fun t _ _ _ => g _ _ _ (by omega) (by omega) (by omega) (by omega) (by omega) (by omega)) (fun _ => g _ _ _ (by omega) (by omega) (by omega) (by omega) (by omega) (by omega)) (fun j _ => g _ _ _ (by omega) (by omega) (by omega) (by omega) (by omega) (by omega)) (fun _ => by omega) (fun _ => by omega) (by omega)
    have q11 : Lc I2 0 11 0 = c + 1 := (g2 3 0 11 (by omega) (by omega) (by omega)).trans k11
    have q12 : Lc I2 0 12 c = l := (g2 412 0 c (by omega) (by omega) (by omega)).trans k12
    have q13 : Lc I2 0 13 c = e := (g2 413 0 c (by omega) (by omega) (by omega)).trans k13
    have p12 : ∀ k, ¬ k = c → Lc I2 0 12 k = I 412 0 k := fun k hk => g 412 0 k (by omega) (by omega) (by omega) (by omega) (by omega) (by omega)
    have p13 : ∀ k, ¬ k = c → Lc I2 0 13 k = I 413 0 k := fun k hk => g 413 0 k (by omega) (by omega) (by omega) (by omega) (by omega) (by omega)
    have p77 : ∀ k, ¬ k = c → Lm I2 12 k = I 1277 0 k := fun k hk => g 1277 0 k (by omega) (by omega) (by omega) (by omega) (by omega) (by omega)
    have p78 : ∀ k, ¬ k = c → Lm I2 13 k = I 1278 0 k := fun k hk => g 1278 0 k (by omega) (by omega) (by omega) (by omega) (by omega) (by omega)
    have q0 : Lc I2 0 0 0 = s := (hA 0 0 (by omega)).trans hs
    have hls : s ≤ Lc I 0 0 0 := by rw [Lc_0, hs]; omega
    have hW2 : LW (Lc I2 0) := by
      refine LW_un hW0 (fun f k hf => hA f k (by omega)) q0 hls h16.1 (by rw [q11]; omega) (fun k k0 k1 => ?_)
      rw [q11] at k1
      by_cases b : k = c
      · rw [b, q12, q13]; exact ⟨c1, c2⟩
      · rw [p12 k b, p13 k b]; exact hl k k0 (by omega)
    have hE2 : LE (Lc I2 0) (Lm I2) := by
      refine LE_un hE0 (fun f k hf => hA f k (by omega)) (fun f k hf => hB f k (by omega)) q0 hls ((hB 0 0 (by omega)).trans e68) (by rw [q11]; exact j11) (fun k k0 k1 => ?_)
      rw [q11] at k1
      by_cases b : k = c
      · rw [b, q12, q13]; exact ⟨j12, j13⟩
      · rw [p12 k b, p13 k b, p77 k b, p78 k b]; exact hel k k0 (by omega)
    obtain ⟨⟨k1, k2, k3, k4, k5, k6, k7⟩, m2, m3, m4, m5, m6, m7⟩ := h
    have hR : RK r I2 := RK_ext m2.1 (fun k hk => g _ _ _ (by omega) (by omega) (by omega) (by omega) (by omega) (by omega)) (fun t k q1 q2 => g _ _ _ (by omega) (by omega) (by omega) (by omega) (by omega) (by omega))
    have hlg : LgE L (Lc I2 0) := fun f hf => funext fun k => (hA f k hf).trans (k4 f k (by omega))
    have e11 : I2 10 0 11 = I 10 0 11 := g _ _ _ (by omega) (by omega) (by omega) (by omega) (by omega) (by omega)
    refine ⟨SC_ext hS (fun t i k ht => g _ _ _ (by omega) (by omega) (by omega) (by omega) (by omega) (by omega)), r, Lc I2 0, ⟨fun t k ht => (g t a k (by unfold rtag at ht; omega) (by unfold rtag at ht; omega) (by unfold rtag at ht; omega) (by unfold rtag at ht; omega) (by unfold rtag at ht; omega) (by unfold rtag at ht; omega)).trans (k1 t k ht), k2, k3, fun _ _ _ => rfl, hW2, by rw [e11]; exact k6, fun w hw => ?_⟩, ⟨hR, m2.2.1, ME_of hE2, hW2⟩, hE2, m4, TpQ_ext m5 (fun t i k ht => g _ _ _ (by omega) (by omega) (by omega) (by omega) (by omega) (by omega)), IM_ext m6 (fun t i k ht => g _ _ _ (by omega) (by omega) (by omega) (by omega) (by omega) (by omega)), by rw [e11]; omega⟩
    rw [e11, g 5 _ _ (by omega) (by omega) (by omega) (by omega) (by omega) (by omega)]
    refine ⟨(k7 w hw).1, fun q => RowV_lg hlg ?_⟩
    have hv := (k7 w hw).2 q
    exact RowV_ext hv rfl (BV_ext (RV_B hv) (fun t z ht => g _ _ _ (by omega) (by omega) (by omega) (by omega) (by omega) (by omega)) (g _ _ _ (by omega) (by omega) (by omega) (by omega) (by omega) (by omega))) (fun t k ht => g _ _ _ (by omega) (by omega) (by omega) (by omega) (by omega) (by omega))
end S880
