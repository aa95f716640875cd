section S876
variable {d a D y y' : Nat} {I I1 I2 I' I'' : mMm} {br br' : Nat → Option mmO} {X : mmX} {L L' M M' : Nat → Int → Int} {r : mRu} {S : Int → Int} {len n w k v p q s : Int} {z : mmV} {args args' : List mmV} {Q : Option mmV → mmM → Prop}
theorem p_resent {o m t : Int} (hn : n < 900) (hS : SC I S len) (h : CPr I br a r L n) : mmC (d + 13) 108 [mo 10 0, mv o, mv m, mv t] (I, mmRf a br, X) (pR X S len n (d + 13) 213 [mo 11 0, mv o, mv m, mv t]) := by
  have hW0 := CP_LW h
  have hE0 := CP_LE h
  have h16 : 0 ≤ I 3 0 0 ∧ I 3 0 0 ≤ 16 := hW0.1
  have e68 : I 11 0 68 = I 3 0 0 := hE0.1
  refine sp_resent hW0 (CP_ch h hn) (fun c => ?_) (fun c1 c2 c3 c4 => ?_)
  · exact ⟨_, I, br, a, rfl, rfl, hS, sq_resent (by rw [e68]; exact h16) (fun _ => ⟨rfl, _, br, a, rfl, p_end2 hS h⟩) (fun q1 q2 q3 q4 => absurd ⟨by rw [← e68]; exact q1, q2, q3, by rw [← e68]; exact q4⟩ c)⟩
  · have ho := hE0.2.2.2.1 o c1.1 c1.2
    have e70 : I 1270 0 o = I 401 0 o := ho.1
    have e73 : I 1273 0 o = I 404 0 o := ho.2.2.2.1
    obtain ⟨v1, v2, v3, v4, v5, v7, v6, v8, v9, v10, v11⟩ := hW0.2.2.2.1 o c1.1 c1.2
    simp only [Lc_1, Lc_2, Lc_3, Lc_4, Lc_5, Lc_6, Lc_7] at v1 v2 v3 v4 v5 v6 v7 v8 v9 v10 v11
    generalize hI1 : mmU (mmU (mmU (mmU (mmU (mmU (mmU (mmU (mmU (mmU (mmU I 10 0 11 (I 10 0 11 + 1)) 401 0 (I 3 0 0) (I 401 0 o)) 402 0 (I 3 0 0) m) 403 0 (I 3 0 0) t) 404 0 (I 3 0 0) (I 404 0 o)) 405 0 (I 3 0 0) (-1)) 406 0 (I 3 0 0) (I 3 0 0)) 407 0 (I 3 0 0) 0) 3 0 0 (I 3 0 0 + 1)) 405 0 (I 3 0 0) o) 406 0 (I 3 0 0) (I 406 0 o) = I1
    generalize hs : I 3 0 0 = s at *
    have g1 : ∀ t i k, ¬ (t = 3 ∧ i = 0 ∧ k = 0) → ¬ (401 ≤ t ∧ t ≤ 407 ∧ i = 0 ∧ k = s) → ¬ (t = 10 ∧ i = 0 ∧ k = 11) → I1 t i k = I t i k := by
      intro t i k d1 d2 d3
      rw [← hI1, uO (by omega), uO (by omega), uO d1, uO (by omega), uO (by omega), uO (by omega), uO (by omega), uO (by omega), uO (by omega), uO (by omega), uO d3]
    have k0 : I1 3 0 0 = s + 1 := by rw [← hI1, uO (by omega), uO (by omega), uS]
    have k11 : I1 10 0 11 = I 10 0 11 + 1 := by rw [← hI1, uO (by omega), uO (by omega), uO (by omega), uO (by omega), uO (by omega), uO (by omega), uO (by omega), uO (by omega), uO (by omega), uO (by omega), uS]
    have k1 : I1 401 0 s = I 401 0 o := by rw [← hI1, uO (by omega), uO (by omega), uO (by omega), uO (by omega), uO (by omega), uO (by omega), uO (by omega), uO (by omega), uO (by omega), uS]
    have k2 : I1 402 0 s = m := by rw [← hI1, uO (by omega), uO (by omega), uO (by omega), uO (by omega), uO (by omega), uO (by omega), uO (by omega), uO (by omega), uS]
    have k3 : I1 403 0 s = t := by rw [← hI1, uO (by omega), uO (by omega), uO (by omega), uO (by omega), uO (by omega), uO (by omega), uO (by omega), uS]
    have k4 : I1 404 0 s = I 404 0 o := by rw [← hI1, uO (by omega), uO (by omega), uO (by omega), uO (by omega), uO (by omega), uO (by omega), uS]
    have k5 : I1 405 0 s = o := by rw [← hI1, uO (by omega), uS]
    have k6 : I1 406 0 s = I 406 0 o := by rw [← hI1, uS]
    have k7 : I1 407 0 s = 0 := by rw [← hI1, uO (by omega), uO (by omega), uO (by omega), uS]
    clear hI1
    have f68 : I1 11 0 68 = s := (g1 _ _ _ (by omega) (by omega) (by omega)).trans e68
    have f70 : I1 1270 0 o = I 401 0 o := (g1 _ _ _ (by omega) (by omega) (by omega)).trans e70
    have f73 : I1 1273 0 o = I 404 0 o := (g1 _ _ _ (by omega) (by omega) (by omega)).trans e73
    refine ⟨_, I1, br, a, rfl, rfl, SC_ext hS (fun t i k ht => g1 _ _ _ (by omega) (by omega) (by omega)), sq_resent (by rw [f68]; exact h16) (fun q => absurd ⟨by rw [f68]; exact c1, c2, c3, by rw [f68]; exact c4⟩ q) (fun _ _ _ _ => ?_)⟩
    rw [f68, f70, f73]
    refine ⟨rfl, _, br, a, rfl, ?_⟩
    generalize hI2 : mmU (mmU (mmU (mmU (mmU (mmU (mmU (mmU I1 11 0 2 0) 1270 0 s (I 401 0 o)) 1271 0 s m) 1272 0 s t) 1273 0 s (I 404 0 o)) 1274 0 s o) 1275 0 s 0) 11 0 68 (s + 1) = I2
    have g2 : ∀ t i k, ¬ (t = 11 ∧ i = 0 ∧ (k = 2 ∨ k = 68)) → ¬ (1270 ≤ t ∧ t ≤ 1275 ∧ i = 0 ∧ k = s) → I2 t i k = I1 t i k := by
      intro t i k d1 d2
      rw [← hI2, uO (by omega), uO (by omega), uO (by omega), uO (by omega), uO (by omega), uO (by omega), uO (by omega), uO (by omega)]
    have j68 : I2 11 0 68 = s + 1 := by rw [← hI2, uS]
    have j0 : I2 1270 0 s = I 401 0 o := by rw [← hI2, uO (by omega), uO (by omega), uO (by omega), uO (by omega), uO (by omega), uO (by omega), uS]
    have j1 : I2 1271 0 s = m := by rw [← hI2, uO (by omega), uO (by omega), uO (by omega), uO (by omega), uO (by omega), uS]
    have j2 : I2 1272 0 s = t := by rw [← hI2, uO (by omega), uO (by omega), uO (by omega), uO (by omega), uS]
    have j3 : I2 1273 0 s = I 404 0 o := by rw [← hI2, uO (by omega), uO (by omega), uO (by omega), uS]
    have j4 : I2 1274 0 s = o := by rw [← hI2, uO (by omega), uO (by omega), uS]
    have j5 : I2 1275 0 s = 0 := by rw [← hI2, uO (by omega), uS]
    clear hI2
    have i1 : I2 401 0 s = I 401 0 o := (g2 _ _ _ (by omega) (by omega)).trans k1
    have i2 : I2 402 0 s = m := (g2 _ _ _ (by omega) (by omega)).trans k2
    have i3 : I2 403 0 s = t := (g2 _ _ _ (by omega) (by omega)).trans k3
    have i4 : I2 404 0 s = I 404 0 o := (g2 _ _ _ (by omega) (by omega)).trans k4
    have i5 : I2 405 0 s = o := (g2 _ _ _ (by omega) (by omega)).trans k5
    have i6 : I2 406 0 s = I 406 0 o := (g2 _ _ _ (by omega) (by omega)).trans k6
    have i7 : I2 407 0 s = 0 := (g2 _ _ _ (by omega) (by omega)).trans k7
    have g12 : ∀ t k, (401 ≤ t ∧ t ≤ 407) → ¬ k = s → I2 t 0 k = I t 0 k := fun t k ht hk => (g2 _ _ _ (by omega) (by omega)).trans (g1 _ _ _ (by omega) (by omega) (by omega))
    refine CP_add hn hS h hs c4 (fun t i k d1 d2 d3 d4 d5 => (g2 t i k (by omega) d5).trans (g1 t i k d1 d2 d3)) ((g2 _ _ _ (by omega) (by omega)).trans k0) j68 ((g2 _ _ _ (by omega) (by omega)).trans k11) i7 j5 (j0.trans i1.symm) (j1.trans i2.symm) (j2.trans i3.symm) (j3.trans i4.symm) (j4.trans i5.symm) ?_
    have hso : o < s := c1.2
    have c10 := c1.1
    unfold LWl
    simp only [Lc_1, Lc_2, Lc_3, Lc_4, Lc_5, Lc_6, Lc_7]
    rw [i1, i2, i3, i4, i5, i6, i7, g12 405 _ (by omega) (by omega), g12 401 _ (by omega) (by omega), g12 406 o (by omega) (by omega)]
    exact ⟨v1, c2, c3, by omega, by omega, by omega, by omega, fun q => by omega, fun _ => ⟨rfl, rfl⟩, v10, v11⟩
end S876
