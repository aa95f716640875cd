/-- places of the letters that count -/
def rgL (f : Nat) (k : Int) : Prop := f = 0 ∨ f = 11 ∨ f = 14 ∨ ((1 ≤ f ∧ f ≤ 7) ∧ 0 ≤ k ∧ k < 16) ∨ ((8 ≤ f ∧ f ≤ 10) ∧ 0 ≤ k ∧ k < 96) ∨ ((f = 12 ∨ f = 13) ∧ 0 ≤ k ∧ k < 20)
def rgM (s c : Int) (f : Nat) (k : Int) : Prop := f = 0 ∨ f = 11 ∨ f = 14 ∨ ((1 ≤ f ∧ f ≤ 5 ∨ f = 7) ∧ 0 ≤ k ∧ k < s) ∨ ((8 ≤ f ∧ f ≤ 10) ∧ 0 ≤ k ∧ k < 96) ∨ ((f = 12 ∨ f = 13) ∧ 0 ≤ k ∧ k < c)
section S881
variable {d a D y y' : Nat} {I I1 I2 I' I'' : mMm} {br br' : Nat → Option mmO} {X : mmX} {L L' M M' : Nat → Int → Int} {r : mRu} {S : Int → Int} {len n w k v p q s i m : Int} {z : mmV} {args args' : List mmV} {Q : Option mmV → mmM → Prop}
theorem LW_rg (hL : LW L) (e : ∀ f k, rgL f k → L' f k = L f k) : LW L' := by
  obtain ⟨l1, l2, l3, l4, l5, l6⟩ := hL
  have e0 : L' 0 0 = L 0 0 := e _ _ (by unfold rgL; omega)
  have e11 : L' 11 0 = L 11 0 := e _ _ (by unfold rgL; omega)
  have e14 : L' 14 0 = L 14 0 := e _ _ (by unfold rgL; omega)
  refine ⟨by omega, by omega, by omega, fun l q0 q1 => ?_, fun l k q0 q1 k0 k1 => ?_, fun k k0 k1 => ?_⟩
  · have hw := l4 l q0 (by omega)
    have hw' := hw
    obtain ⟨w1, w2, w3, w4, w5, w7, w6, w8, w9, w10, w11⟩ := hw'
    unfold LWl
    rw [e 1 l (by unfold rgL; omega), e 2 l (by unfold rgL; omega), e 3 l (by unfold rgL; omega), e 4 l (by unfold rgL; omega), e 5 l (by unfold rgL; omega), e 6 l (by unfold rgL; omega), e 7 l (by unfold rgL; omega), e 5 (L 6 l) (by unfold rgL; omega), e 1 (L 6 l) (by unfold rgL; omega)]
    refine ⟨w1, w2, w3, w4, w5, w7, w6, w8, fun z => ?_, w10, w11⟩
    rw [e 6 (L 5 l) (by unfold rgL; omega)]
    exact w9 z
  · have hw := (l4 l q0 (by omega)).2.2.2.2.2.1
    rw [e 7 l (by unfold rgL; omega)] at k1
    have := l5 l k q0 (by omega) k0 k1
    unfold LWi at this ⊢
    rw [e 8 (l * 6 + k) (by unfold rgL; omega), e 9 (l * 6 + k) (by unfold rgL; omega), e 10 (l * 6 + k) (by unfold rgL; omega), e 1 l (by unfold rgL; omega)]
    exact this
  · have := l6 k k0 (by omega)
    rw [e 12 k (by unfold rgL; omega), e 13 k (by unfold rgL; omega), e0]
    exact this
theorem LE_rg (hL : LW L) (hE : LE L M) (e : ∀ f k, rgL f k → L' f k = L f k) (g : ∀ f k, rgM (L 0 0) (L 11 0) f k → M' f k = M f k) : LE L' M' := by
  obtain ⟨l1, l2, l3, l4, l5, l6⟩ := hL
  obtain ⟨q1, q2, q3, q4, q5, q6⟩ := hE
  have e0 : L' 0 0 = L 0 0 := e _ _ (by unfold rgL; omega)
  have e11 : L' 11 0 = L 11 0 := e _ _ (by unfold rgL; omega)
  have e14 : L' 14 0 = L 14 0 := e _ _ (by unfold rgL; omega)
  refine ⟨by rw [e0, g 0 0 (by unfold rgM; omega)]; exact q1, by rw [e11, g 11 0 (by unfold rgM; omega)]; exact q2, by rw [e14, g 14 0 (by unfold rgM; omega)]; exact q3, fun l p0 p1 => ?_, fun l k p0 p1 k0 k1 => ?_, fun k k0 k1 => ?_⟩
  · rw [e0] at p1
    rw [e 1 l (by unfold rgL; omega), e 2 l (by unfold rgL; omega), e 3 l (by unfold rgL; omega), e 4 l (by unfold rgL; omega), e 5 l (by unfold rgL; omega), e 7 l (by unfold rgL; omega), g 1 l (by unfold rgM; omega), g 2 l (by unfold rgM; omega), g 3 l (by unfold rgM; omega), g 4 l (by unfold rgM; omega), g 5 l (by unfold rgM; omega), g 7 l (by unfold rgM; omega)]
    exact q4 l p0 p1
  · rw [e0] at p1
    have hw := (l4 l p0 p1).2.2.2.2.2.1
    rw [e 7 l (by unfold rgL; omega)] at k1
    rw [e 8 (l * 6 + k) (by unfold rgL; omega), e 9 (l * 6 + k) (by unfold rgL; omega), e 10 (l * 6 + k) (by unfold rgL; omega), g 8 (l * 6 + k) (by unfold rgM; omega), g 9 (l * 6 + k) (by unfold rgM; omega), g 10 (l * 6 + k) (by unfold rgM; omega)]
    exact q5 l k p0 p1 k0 k1
  · rw [e11] at k1
    rw [e 12 k (by unfold rgL; omega), e 13 k (by unfold rgL; omega), g 12 k (by unfold rgM; omega), g 13 k (by unfold rgM; omega)]
    exact q6 k k0 k1
theorem cpM_o {j i : Nat} {t u : Nat} {k : Int} (h1 : ¬ (t = 3 ∧ u = j)) (h2 : ¬ (401 ≤ t ∧ t ≤ 413 ∧ u = j)) : cpM I j i t u k = I t u k := by
  unfold cpM
  rw [rO (by omega), rO (by omega), rO (by omega), rO (by omega), rO (by omega), rO (by omega), rO (by omega), rO (by omega), rO (by omega), rO (by omega), rO (by omega), rO (by omega), uO (by omega), uO (by omega), uO (by omega)]
theorem cpF_in {N : Int} {g g' : Int → Int} (h : 0 ≤ k ∧ k < N) : cpF N g g' k = g' k := if_pos h
theorem cpM_L {j i f : Nat} (h : rgL f k) : Lc (cpM I j i) j f k = Lc I i f k := by
  have : f = 0 ∨ f = 1 ∨ f = 2 ∨ f = 3 ∨ f = 4 ∨ f = 5 ∨ f = 6 ∨ f = 7 ∨ f = 8 ∨ f = 9 ∨ f = 10 ∨ f = 11 ∨ f = 12 ∨ f = 13 ∨ f = 14 := by unfold rgL at h; omega
  have o : ∀ {J : mMm} {t t' : Nat} {k : Int} {g : Int → Int}, ¬ t = t' → mmUr J t' j g t j k = J t j k := fun hh => rO (by omega)
  have p : ∀ {J : mMm} {t t' : Nat} {k k' : Int} {v : Int}, ¬ (t = t' ∧ k = k') → mmU J t' j k' v t j k = J t j k := fun hh => uO (by omega)
  unfold rgL at h
  rcases this with c | c | c | c | c | c | c | c | c | c | c | c | c | c | c <;> subst c
  · show cpM I j i 3 j 0 = I 3 i 0
    unfold cpM
    rw [o (by omega), o (by omega), o (by omega), o (by omega), o (by omega), o (by omega), o (by omega), o (by omega), o (by omega), o (by omega), o (by omega), o (by omega), p (by omega), p (by omega), uS]
  · show cpM I j i 401 j k = I 401 i k
    unfold cpM
    rw [o (by omega), o (by omega), o (by omega), o (by omega), o (by omega), o (by omega), o (by omega), o (by omega), o (by omega), o (by omega), o (by omega), rS, cpF_in (by omega)]
  · show cpM I j i 402 j k = I 402 i k
    unfold cpM
    rw [o (by omega), o (by omega), o (by omega), o (by omega), o (by omega), o (by omega), o (by omega), o (by omega), o (by omega), o (by omega), rS, cpF_in (by omega)]
  · show cpM I j i 403 j k = I 403 i k
    unfold cpM
    rw [o (by omega), o (by omega), o (by omega), o (by omega), o (by omega), o (by omega), o (by omega), o (by omega), o (by omega), rS, cpF_in (by omega)]
  · show cpM I j i 404 j k = I 404 i k
    unfold cpM
    rw [o (by omega), o (by omega), o (by omega), o (by omega), o (by omega), o (by omega), o (by omega), o (by omega), rS, cpF_in (by omega)]
  · show cpM I j i 405 j k = I 405 i k
    unfold cpM
    rw [o (by omega), o (by omega), o (by omega), o (by omega), o (by omega), o (by omega), o (by omega), rS, cpF_in (by omega)]
  · show cpM I j i 406 j k = I 406 i k
    unfold cpM
    rw [o (by omega), o (by omega), o (by omega), o (by omega), o (by omega), o (by omega), rS, cpF_in (by omega)]
  · show cpM I j i 407 j k = I 407 i k
    unfold cpM
    rw [o (by omega), o (by omega), o (by omega), o (by omega), o (by omega), rS, cpF_in (by omega)]
  · show cpM I j i 408 j k = I 408 i k
    unfold cpM
    rw [o (by omega), o (by omega), o (by omega), o (by omega), rS, cpF_in (by omega)]
  · show cpM I j i 409 j k = I 409 i k
    unfold cpM
    rw [o (by omega), o (by omega), o (by omega), rS, cpF_in (by omega)]
  · show cpM I j i 410 j k = I 410 i k
    unfold cpM
    rw [o (by omega), o (by omega), rS, cpF_in (by omega)]
  · show cpM I j i 3 j 11 = I 3 i 11
    unfold cpM
    rw [o (by omega), o (by omega), o (by omega), o (by omega), o (by omega), o (by omega), o (by omega), o (by omega), o (by omega), o (by omega), o (by omega), o (by omega), p (by omega), uS]
  · show cpM I j i 412 j k = I 412 i k
    unfold cpM
    rw [o (by omega), rS, cpF_in (by omega)]
  · show cpM I j i 413 j k = I 413 i k
    unfold cpM
    rw [rS, cpF_in (by omega)]
  · show cpM I j i 3 j 14 = I 3 i 14
    unfold cpM
    rw [o (by omega), o (by omega), o (by omega), o (by omega), o (by omega), o (by omega), o (by omega), o (by omega), o (by omega), o (by omega), o (by omega), o (by omega), uS]
theorem kpM_o {n1 n2 n3 t u : Nat} (h1 : ¬ (t = 11 ∧ u = 0 ∧ (k = 2 ∨ (82 ≤ k ∧ k ≤ 85)))) (h2 : ¬ (1286 ≤ t ∧ t ≤ 1288 ∧ u = 0)) : kpM I n1 n2 n3 t u k = I t u k := by
  unfold kpM
  rw [rO (by omega), rO (by omega), rO (by omega), uO (by omega), uO (by omega), uO (by omega), uO (by omega), uO (by omega)]
theorem kpM_L {f : Nat} (s0 : 0 ≤ I 11 0 68) (c0 : 0 ≤ I 11 0 69) (h : rgM (I 11 0 68) (I 11 0 69) f k) : Li (kpM I (I 11 0 68).toNat 288 (I 11 0 69).toNat) f k = Lm I f k := by
  have : f = 0 ∨ f = 1 ∨ f = 2 ∨ f = 3 ∨ f = 4 ∨ f = 5 ∨ f = 7 ∨ f = 8 ∨ f = 9 ∨ f = 10 ∨ f = 11 ∨ f = 12 ∨ f = 13 ∨ f = 14 := by unfold rgM at h; omega
  unfold rgM at h
  have h6 := kp6_in (I := I) (I 11 0 68).toNat k
  have h2 := kp2_in (I := I) (I 11 0 69).toNat k
  rcases this with c | c | c | c | c | c | c | c | c | c | c | c | c | c <;> subst c
  · rw [Li_0, Lm_0]
    unfold kpM
    rw [rO (by omega), rO (by omega), rO (by omega), uO (by omega), uS]
  · rw [Li_1, Lm_1]; unfold kpM; rw [rO (by omega), rO (by omega), rS]; exact (h6 (by omega) (by omega)).1
  · rw [Li_2, Lm_2]; unfold kpM; rw [rO (by omega), rO (by omega), rS]; exact (h6 (by omega) (by omega)).2.1
  · rw [Li_3, Lm_3]; unfold kpM; rw [rO (by omega), rO (by omega), rS]; exact (h6 (by omega) (by omega)).2.2.1
  · rw [Li_4, Lm_4]; unfold kpM; rw [rO (by omega), rO (by omega), rS]; exact (h6 (by omega) (by omega)).2.2.2.1
  · rw [Li_5, Lm_5]; unfold kpM; rw [rO (by omega), rO (by omega), rS]; exact (h6 (by omega) (by omega)).2.2.2.2.1
  · rw [Li_7, Lm_7]; unfold kpM; rw [rO (by omega), rO (by omega), rS]; exact (h6 (by omega) (by omega)).2.2.2.2.2
  · rw [Li_8, Lm_8]; unfold kpM; rw [rO (by omega), rS]; exact cpR_in _ _ (by omega) (by omega)
  · rw [Li_9, Lm_9]; unfold kpM; rw [rO (by omega), rS]; exact cpR_in _ _ (by omega) (by omega)
  · rw [Li_10, Lm_10]; unfold kpM; rw [rO (by omega), rS]; exact cpR_in _ _ (by omega) (by omega)
  · rw [Li_11, Lm_11]
    unfold kpM
    rw [rO (by omega), rO (by omega), rO (by omega), uS]
  · rw [Li_12, Lm_12]; unfold kpM; rw [rS]; exact (h2 (by omega) (by omega)).1
  · rw [Li_13, Lm_13]; unfold kpM; rw [rS]; exact (h2 (by omega) (by omega)).2
  · rw [Li_14, Lm_14]
    unfold kpM
    rw [rO (by omega), rO (by omega), rO (by omega), uO (by omega), uO (by omega), uS]
theorem kpM_82 {n1 n2 n3 : Nat} : kpM I n1 n2 n3 11 0 82 = 1 := by
  unfold kpM
  rw [rO (by omega), rO (by omega), rO (by omega), uO (by omega), uO (by omega), uO (by omega), uS]
theorem bkM_o {n1 n2 n3 t u : Nat} (h1 : ¬ (t = 11 ∧ u = 0 ∧ (k = 2 ∨ k = 60 ∨ k = 68 ∨ k = 69))) (h2 : ¬ (1270 ≤ t ∧ t ≤ 1278 ∧ u = 0)) : bkM I n1 n2 n3 t u k = I t u k := by
  unfold bkM
  rw [rO (by omega), rO (by omega), rO (by omega), rO (by omega), rO (by omega), rO (by omega), rO (by omega), rO (by omega), rO (by omega), uO (by omega), uO (by omega), uO (by omega), uO (by omega)]
theorem bkM_L {f : Nat} (s0 : 0 ≤ I 11 0 84) (c0 : 0 ≤ I 11 0 85) (h : rgM (I 11 0 84) (I 11 0 85) f k) : Lm (bkM I (I 11 0 84).toNat 288 (I 11 0 85).toNat) f k = Li I f k := by
  have : f = 0 ∨ f = 1 ∨ f = 2 ∨ f = 3 ∨ f = 4 ∨ f = 5 ∨ f = 7 ∨ f = 8 ∨ f = 9 ∨ f = 10 ∨ f = 11 ∨ f = 12 ∨ f = 13 ∨ f = 14 := by unfold rgM at h; omega
  unfold rgM at h
  rcases this with c | c | c | c | c | c | c | c | c | c | c | c | c | c <;> subst c
  · rw [Li_0, Lm_0]
    unfold bkM
    rw [rO (by omega), rO (by omega), rO (by omega), rO (by omega), rO (by omega), rO (by omega), rO (by omega), rO (by omega), rO (by omega), uO (by omega), uS]
  · rw [Li_1, Lm_1]; unfold bkM; rw [rO (by omega), rO (by omega), rO (by omega), rO (by omega), rO (by omega), rO (by omega), rO (by omega), rO (by omega), rS]; exact cpR_in _ _ (by omega) (by omega)
  · rw [Li_2, Lm_2]; unfold bkM; rw [rO (by omega), rO (by omega), rO (by omega), rO (by omega), rO (by omega), rO (by omega), rO (by omega), rS]; exact cpR_in _ _ (by omega) (by omega)
  · rw [Li_3, Lm_3]; unfold bkM; rw [rO (by omega), rO (by omega), rO (by omega), rO (by omega), rO (by omega), rO (by omega), rS]; exact cpR_in _ _ (by omega) (by omega)
  · rw [Li_4, Lm_4]; unfold bkM; rw [rO (by omega), rO (by omega), rO (by omega), rO (by omega), rO (by omega), rS]; exact cpR_in _ _ (by omega) (by omega)
  · rw [Li_5, Lm_5]; unfold bkM; rw [rO (by omega), rO (by omega), rO (by omega), rO (by omega), rS]; exact cpR_in _ _ (by omega) (by omega)
  · rw [Li_7, Lm_7]; unfold bkM; rw [rO (by omega), rO (by omega), rO (by omega), rS]; exact cpR_in _ _ (by omega) (by omega)
  · rw [Li_8, Lm_8]; unfold bkM; rw [rO (by omega), rO (by omega), rS]; exact cpR_in _ _ (by omega) (by omega)
  · rw [Li_9, Lm_9]; unfold bkM; rw [rO (by omega), rO (by omega), rS]; exact cpR_in _ _ (by omega) (by omega)
  · rw [Li_10, Lm_10]; unfold bkM; rw [rO (by omega), rO (by omega), rS]; exact cpR_in _ _ (by omega) (by omega)
  · rw [Li_11, Lm_11]
    unfold bkM
    rw [rO (by omega), rO (by omega), rO (by omega), rO (by omega), rO (by omega), rO (by omega), rO (by omega), rO (by omega), rO (by omega), uS]
  · rw [Li_12, Lm_12]; unfold bkM; rw [rO (by omega), rS]; exact cpR_in _ _ (by omega) (by omega)
  · rw [Li_13, Lm_13]; unfold bkM; rw [rS]; exact cpR_in _ _ (by omega) (by omega)
  · rw [Li_14, Lm_14]
    unfold bkM
    rw [rO (by omega), rO (by omega), rO (by omega), rO (by omega), rO (by omega), rO (by omega), rO (by omega), rO (by omega), rO (by omega), uO (by omega), uO (by omega), uS]
theorem p_keep (hS : SC I S len) (h : CPr I br a r L n) : mmC (d + 13) 131 [mo 10 0] (I, mmRf a br, X) (pR X S len n (d + 13) 253 [mo 11 0]) := by
  have hW0 := CP_LW h
  have hE0 := CP_LE h
  have h16 : 0 ≤ I 3 0 0 ∧ I 3 0 0 ≤ 16 := hW0.1
  have h20 : 0 ≤ I 3 0 11 ∧ I 3 0 11 ≤ 20 := hW0.2.1
  have e68 : I 11 0 68 = I 3 0 0 := hE0.1
  have e69 : I 11 0 69 = I 3 0 11 := hE0.2.1
  refine sp_keep ?_
  generalize hI1 : mmU (cpM I 1 0) 10 0 6 1 = I1
  have g1 : ∀ t j k, ¬ (t = 3 ∧ j = 1) → ¬ (401 ≤ t ∧ t ≤ 413 ∧ j = 1) → ¬ (t = 10 ∧ j = 0 ∧ k = 6) → I1 t j k = I t j k := by
    intro t j k d1 d2 d3
    rw [← hI1, uO d3, cpM_o d1 d2]
  have k6 : I1 10 0 6 = 1 := by rw [← hI1, uS]
  have kL : ∀ f k, rgL f k → Lc I1 1 f k = Lc I 0 f k := by
    intro f k hf
    rw [← cpM_L (I := I) (j := 1) (i := 0) hf, ← hI1]
    refine Lc_extj (fun t k ht => uO (by omega)) (by unfold rgL at hf; omega)
  clear hI1
  have f68 : I1 11 0 68 = I 3 0 0 := (g1 _ _ _ (by omega) (by omega) (by omega)).trans e68
  have f69 : I1 11 0 69 = I 3 0 11 := (g1 _ _ _ (by omega) (by omega) (by omega)).trans e69
  refine ⟨_, I1, br, a, rfl, rfl, SC_ext hS (fun t i k ht => g1 _ _ _ (by omega) (by omega) (by omega)), sq_keep (by rw [f68]; exact h16) (by rw [f69]; exact h20) ⟨by rw [f68], _, br, a, rfl, ?_⟩⟩
  have hlM : ∀ f k, rgM (Lc I 0 0 0) (Lc I 0 11 0) f k → Li (kpM I1 (I1 11 0 68).toNat 288 (I1 11 0 69).toNat) f k = Lm I f k := by
    intro f k hf
    rw [kpM_L (by omega) (by omega) (by rw [f68, f69]; exact hf)]
    exact Lm_ext (fun t k ht => g1 _ _ _ (by omega) (by omega) (by omega)) f k
  have j82 : kpM I1 (I1 11 0 68).toNat 288 (I1 11 0 69).toNat 11 0 82 = 1 := kpM_82
  have g2 : ∀ t j k, ¬ (t = 11 ∧ j = 0 ∧ (k = 2 ∨ (82 ≤ k ∧ k ≤ 85))) → ¬ (1286 ≤ t ∧ t ≤ 1288 ∧ j = 0) → kpM I1 (I1 11 0 68).toNat 288 (I1 11 0 69).toNat t j k = I1 t j k := fun t j k d1 d2 => kpM_o d1 d2
  generalize kpM I1 (I1 11 0 68).toNat 288 (I1 11 0 69).toNat = I2 at *
  have g : ∀ t j k, ¬ (t = 3 ∧ j = 1) → ¬ (401 ≤ t ∧ t ≤ 413 ∧ j = 1) → ¬ (t = 10 ∧ j = 0 ∧ k = 6) → ¬ (t = 11 ∧ j = 0 ∧ (k = 2 ∨ (82 ≤ k ∧ k ≤ 85))) → ¬ (1286 ≤ t ∧ t ≤ 1288 ∧ j = 0) → I2 t j k = I t j k := fun t j k d1 d2 d3 d4 d5 => (g2 t j k d4 d5).trans (g1 t j k d1 d2 d3)
  have hA : ∀ f k, rgL f k → Lc I2 1 f k = Lc I 0 f k := fun f k hf => (Lc_extj (fun t k ht => g2 _ _ _ (by omega) (by omega)) (by unfold rgL at hf; omega)).trans (kL f k hf)
  obtain ⟨⟨k1, k2, k3, k4, k5, k6', k7⟩, m2, m3, m4, m5, m6, m7⟩ := h
  have hE : LE L (Lm I2) := LE_ext (fun _ _ _ => rfl) (fun f k _ => Lm_ext (fun t k ht => g _ _ _ (by omega) (by omega) (by omega) (by omega) (by omega)) f k) m3
  have hR : RK r I2 := RK_ext m2.1 (fun k hk => g _ _ _ (by omega) (by omega) (by omega) (by omega) (by omega)) (fun t k q1 q2 => g _ _ _ (by omega) (by omega) (by omega) (by omega) (by omega))
  have e11 : I2 10 0 11 = I 10 0 11 := g _ _ _ (by omega) (by omega) (by omega) (by omega) (by omega)
  have q6 : I2 10 0 6 = 1 := (g2 _ _ _ (by omega) (by omega)).trans k6
  refine ⟨SC_ext hS (fun t i k ht => g _ _ _ (by omega) (by omega) (by omega) (by omega) (by omega)), r, L, ⟨fun t k ht => (g t a k (by unfold rtag at ht; omega) (by unfold rtag at ht; omega) (by unfold rtag at ht; omega) (by unfold rtag at ht; omega) (by unfold rtag at ht; omega)).trans (k1 t k ht), k2, k3, CL_ext k4 (fun t k ht => g _ _ _ (by omega) (by omega) (by omega) (by omega) (by omega)), k5, by rw [e11]; exact k6', fun w hw => ?_⟩, ⟨hR, m2.2.1, ME_of hE, m2.2.2.2⟩, hE, m4, TpQ_ext m5 (fun t i k ht => g _ _ _ (by omega) (by omega) (by omega) (by omega) (by omega)), ⟨by rw [j82, q6], by rw [q6]; exact Or.inr rfl, fun _ => ⟨LW_rg hW0 hA, LE_rg hW0 hE0 hA hlM⟩⟩, by rw [e11]; omega⟩
  rw [e11, g 5 _ _ (by omega) (by omega) (by omega) (by omega) (by omega)]
  refine ⟨(k7 w hw).1, fun q => ?_⟩
  have hv := (k7 w hw).2 q
  exact RowV_ext hv rfl (BV_ext (RV_B hv) (fun t z ht => g _ _ _ (by omega) (by omega) (by omega) (by omega) (by omega)) (g _ _ _ (by omega) (by omega) (by omega) (by omega) (by omega))) (fun t k ht => g _ _ _ (by omega) (by omega) (by omega) (by omega) (by omega))
theorem sq_back0 (h82 : I 11 0 82 = 0) (hN : Q (some (mv (-1))) (mmU I 11 0 2 0, mmRf a br, X)) : mmC (d + 1) 254 [mo 11 0] (I, mmRf a br, X) Q := by
  refine mmC_in (by decide) (Nat.le_of_ble_eq_true rfl) (mmC_step ?_)
  simp only [show mmMl 254 = 2 from rfl, mmLs, List.replicate, cd_254, sg_254_0, sg_254_8, sg_254_22, sg_254_98, sg_254_100, sg_254_113, sg_254_115, sg_254_143, mmK_cut cd_254, q_cons, q_G0, q_GS, q_I1, q_L1, q_A1, q_S0, q_S1, q_SS, q_T0, q_T1, q_TS, q_Kn, q_Ki, q_Kl, q_Kr, q_k0, q_kS, q_rc, q_ps, q_pn, q_aload0, q_iconst, q_putfieldI, q_getfieldZ, q_if_ne, q_ireturn0, q_getfieldI, q_istore1, q_iload1, q_icmp_ge, q_getfieldA, q_bipush, q_imul, q_iaload, q_iastore, q_iadd, q_iinc, q_goto, q_sipush, rf_11_70, rf_11_71, rf_11_72, rf_11_73, rf_11_74, rf_11_75, rf_11_76, rf_11_77, rf_11_78, rf_11_86, rf_11_87, rf_11_88, mmKe_1270, mmKe_1271, mmKe_1272, mmKe_1273, mmKe_1274, mmKe_1275, mmKe_1276, mmKe_1277, mmKe_1278, mmKe_1286, mmKe_1287, mmKe_1288, mmKo_11, mmLen_1270, mmLen_1271, mmLen_1272, mmLen_1273, mmLen_1274, mmLen_1275, mmLen_1276, mmLen_1277, mmLen_1278, mmLen_1286, mmLen_1287, mmLen_1288, mmR32, mmR64, Option.some.injEq, Int.cast_ofNat_Int, and_true, true_and, if_true, if_false, List.length_cons, List.length_nil, Nat.le_refl, Nat.zero_le, Nat.sub_zero, forall_const, reduceCtorEq, Nat.reduceAdd, Nat.reduceSub, Nat.reduceLeDiff, Nat.reduceEqDiff, Int.reduceAdd, Int.reduceNeg, Int.reduceSub, Int.reduceLT, Int.reduceLE, Int.reduceMul, Int.reduceEq, List.drop_zero, List.drop_succ_cons, ne_eq, not_false_eq_true, not_true_eq_false, false_and, and_false, false_implies, true_implies, reduceIte, mmU_rd, implies_true, or_false, false_or, or_true, true_or]
  exact ⟨fun h1 => absurd h82 h1, fun _ => hN⟩
theorem p_back (hn : n < 900) (hS : SC I S len) (h : CPr I br a r L n) : mmC (d + 13) 132 [mo 10 0] (I, mmRf a br, X) (pR X S len n (d + 13) 254 [mo 11 0]) := by
  obtain ⟨i1, i2, i3⟩ := h.2.2.2.2.2.1
  by_cases c0 : I 10 0 6 = 0
  · refine sp_back (CP_ch h hn) (fun _ => ?_) (fun c => absurd c0 c)
    have hc : I 11 0 82 = 0 := i1.trans c0
    refine ⟨_, I, br, a, rfl, rfl, hS, ?_⟩
    exact sq_back0 hc ⟨rfl, _, br, a, rfl, p_end2 hS h⟩
  · have hi1 : I 10 0 6 = 1 := by omega
    obtain ⟨hW0, hE0⟩ := i3 hi1
    have h16 : 0 ≤ I 3 1 0 ∧ I 3 1 0 ≤ 16 := hW0.1
    have h20 : 0 ≤ I 3 1 11 ∧ I 3 1 11 ≤ 20 := hW0.2.1
    have e68 : I 11 0 84 = I 3 1 0 := hE0.1
    have e69 : I 11 0 85 = I 3 1 11 := hE0.2.1
    refine sp_back (CP_ch h hn) (fun c => absurd c c0) (fun _ => ?_)
    generalize hI1 : mmU (cpM I 0 1) 10 0 11 (I 10 0 11 + 1) = I1
    have g1 : ∀ t j k, ¬ (t = 3 ∧ j = 0) → ¬ (401 ≤ t ∧ t ≤ 413 ∧ j = 0) → ¬ (t = 10 ∧ j = 0 ∧ k = 11) → I1 t j k = I t j k := by
      intro t j k d1 d2 d3
      rw [← hI1, uO d3, cpM_o d1 d2]
    have k11 : I1 10 0 11 = I 10 0 11 + 1 := by rw [← hI1, uS]
    have kL : ∀ f k, rgL f k → Lc I1 0 f k = Lc I 1 f k := by
      intro f k hf
      rw [← cpM_L (I := I) (j := 0) (i := 1) hf, ← hI1]
      refine Lc_extj (fun t k ht => uO (by omega)) (by unfold rgL at hf; omega)
    clear hI1
    have f68 : I1 11 0 84 = I 3 1 0 := (g1 _ _ _ (by omega) (by omega) (by omega)).trans e68
    have f69 : I1 11 0 85 = I 3 1 11 := (g1 _ _ _ (by omega) (by omega) (by omega)).trans e69
    have f82 : ¬ I1 11 0 82 = 0 := by rw [g1 _ _ _ (by omega) (by omega) (by omega), i1]; exact c0
    refine ⟨_, I1, br, a, rfl, rfl, SC_ext hS (fun t i k ht => g1 _ _ _ (by omega) (by omega) (by omega)), sq_back (by rw [f68]; exact h16) (by rw [f69]; exact h20) (fun c => absurd c f82) (fun _ => ⟨by rw [f68], _, br, a, rfl, ?_⟩)⟩
    have hlM : ∀ f k, rgM (Lc I 1 0 0) (Lc I 1 11 0) f k → Lm (bkM I1 (I1 11 0 84).toNat 288 (I1 11 0 85).toNat) f k = Li I f k := by
      intro f k hf
      rw [bkM_L (by omega) (by omega) (by rw [f68, f69]; exact hf)]
      exact Li_ext (fun t k ht => g1 _ _ _ (by omega) (by omega) (by omega)) f k
    have g2 : ∀ t j k, ¬ (t = 11 ∧ j = 0 ∧ (k = 2 ∨ k = 60 ∨ k = 68 ∨ k = 69)) → ¬ (1270 ≤ t ∧ t ≤ 1278 ∧ j = 0) → bkM I1 (I1 11 0 84).toNat 288 (I1 11 0 85).toNat t j k = I1 t j k := fun t j k d1 d2 => bkM_o d1 d2
    generalize bkM I1 (I1 11 0 84).toNat 288 (I1 11 0 85).toNat = I2 at *
    have g : ∀ t j k, ¬ (t = 3 ∧ j = 0) → ¬ (401 ≤ t ∧ t ≤ 413 ∧ j = 0) → ¬ (t = 10 ∧ j = 0 ∧ k = 11) → ¬ (t = 11 ∧ j = 0 ∧ (k = 2 ∨ k = 60 ∨ k = 68 ∨ k = 69)) → ¬ (1270 ≤ t ∧ t ≤ 1278 ∧ j = 0) → I2 t j k = I t j k := fun t j k d1 d2 d3 d4 d5 => (g2 t j k d4 d5).trans (g1 t j k d1 d2 d3)
    have hA : ∀ f k, rgL f k → Lc I2 0 f k = Lc I 1 f k := fun f k hf => (Lc_extj (fun t k ht => g2 _ _ _ (by omega) (by omega)) (by unfold rgL at hf; omega)).trans (kL f k hf)
    exact ⟨SC_ext hS (fun t i k ht => g _ _ _ (by omega) (by omega) (by omega) (by omega) (by omega)), r, _, CP_new h hn (fun t i k b1 b2 b3 b4 b5 => g _ _ _ (by omega) (by omega) (by omega) (by omega) (by omega)) ((g2 _ _ _ (by omega) (by omega)).trans k11) (LW_rg hW0 hA) (LE_rg hW0 hE0 hA hlM)⟩
end S881
