section S875
variable {d a D y y' : Nat} {I I1 I2 I' I'' : mMm} {br br' : Nat → Option mmO} {X : mmX} {L L' M M' : Nat → Int → Int} {r : mRu} {S : Int → Int} {len n w k v p q s : Int} {z : mmV} {args args' : List mmV} {Q : Option mmV → mmM → Prop}
theorem CP_add (hn : n < 900) (hS : SC I S len) (h : CPr I br a r L n) (hs : I 3 0 0 = s) (hs16 : s < 16) (g : ∀ t i k, ¬ (t = 3 ∧ i = 0 ∧ k = 0) → ¬ (401 ≤ t ∧ t ≤ 407 ∧ i = 0 ∧ k = s) → ¬ (t = 10 ∧ i = 0 ∧ k = 11) → ¬ (t = 11 ∧ (k = 2 ∨ k = 68)) → ¬ (1270 ≤ t ∧ t ≤ 1275 ∧ i = 0 ∧ k = s) → I2 t i k = I t i k) (e0 : I2 3 0 0 = s + 1) (e68 : I2 11 0 68 = s + 1) (e11 : I2 10 0 11 = I 10 0 11 + 1) (e7 : I2 407 0 s = 0) (e75 : I2 1275 0 s = 0) (e70 : I2 1270 0 s = I2 401 0 s) (e71 : I2 1271 0 s = I2 402 0 s) (e72 : I2 1272 0 s = I2 403 0 s) (e73 : I2 1273 0 s = I2 404 0 s) (e74 : I2 1274 0 s = I2 405 0 s) (hw : LWl (Lc I2 0) s) : CPx I2 br a S len (n + 1) := by
  have hW0 := CP_LW h
  have hE0 := CP_LE h
  have hL0 : Lc I 0 0 0 = s := hs
  have hM0 : Lm I 0 0 = s := hE0.1.trans hs
  have h16 := hW0.1
  have hA : Add (Lc I 0) (Lc I2 0) := by
    refine ⟨?_, ?_, ?_, fun f k f1 f2 c => ?_, fun f k hf => ?_⟩
    · rw [hL0]; exact e0
    · exact g _ _ _ (by omega) (by omega) (by omega) (by omega) (by omega)
    · exact g _ _ _ (by omega) (by omega) (by omega) (by omega) (by omega)
    · rw [hL0] at c
      unfold Lc
      rw [if_neg (by omega), if_neg (by omega), if_neg (by omega), if_neg (by omega), if_neg (by omega), if_neg (by omega)]
      exact g _ _ _ (by omega) (by omega) (by omega) (by omega) (by omega)
    · unfold Lc
      rw [if_neg (by omega), if_neg (by omega), if_neg (by omega), if_neg (by omega), if_neg (by omega), if_neg (by omega)]
      exact g _ _ _ (by omega) (by omega) (by omega) (by omega) (by omega)
  have hW2 : LW (Lc I2 0) := LW_add hW0 hA (by rw [hL0]; exact hs16) (by rw [hL0]; exact hw) (by rw [hL0]; exact e7)
  have hE2 : LE (Lc I2 0) (Lm I2) := by
    refine LE_add hE0 h16.1 hA ?_ ?_ ?_ (fun f k f1 f2 c => ?_) (fun f k hf => ?_) (fun f hf => ?_) (by rw [hL0]; exact e7)
    · rw [hM0]; exact e68
    · exact g _ _ _ (by omega) (by omega) (by omega) (by omega) (by omega)
    · exact g _ _ _ (by omega) (by omega) (by omega) (by omega) (by omega)
    · rw [hM0] at c
      have : f = 1 ∨ f = 2 ∨ f = 3 ∨ f = 4 ∨ f = 5 ∨ f = 6 ∨ f = 7 := by omega
      rcases this with q | q | q | q | q | q | q <;> subst q
      · exact g 1270 _ _ (by omega) (by omega) (by omega) (by omega) (by omega)
      · exact g 1271 _ _ (by omega) (by omega) (by omega) (by omega) (by omega)
      · exact g 1272 _ _ (by omega) (by omega) (by omega) (by omega) (by omega)
      · exact g 1273 _ _ (by omega) (by omega) (by omega) (by omega) (by omega)
      · exact g 1274 _ _ (by omega) (by omega) (by omega) (by omega) (by omega)
      · rfl
      · exact g 1275 _ _ (by omega) (by omega) (by omega) (by omega) (by omega)
    · rcases hf with q | q | q | q | q <;> subst q
      · exact g 1276 _ _ (by omega) (by omega) (by omega) (by omega) (by omega)
      · exact g 1276 _ _ (by omega) (by omega) (by omega) (by omega) (by omega)
      · exact g 1276 _ _ (by omega) (by omega) (by omega) (by omega) (by omega)
      · exact g 1277 _ _ (by omega) (by omega) (by omega) (by omega) (by omega)
      · exact g 1278 _ _ (by omega) (by omega) (by omega) (by omega) (by omega)
    · rw [hL0]
      rcases hf with q | q | q | q | q | q <;> subst q
      · exact e70
      · exact e71
      · exact e72
      · exact e73
      · exact e74
      · exact e75.trans e7.symm
  exact ⟨SC_ext hS (fun t i k ht => g _ _ _ (by omega) (by omega) (by omega) (by omega) (by omega)), r, _, CP_new h hn (fun t i k c1 c2 c3 c4 c5 => g _ _ _ (by omega) (by omega) (by omega) (by omega) (by omega)) e11 hW2 hE2⟩
theorem p_letter {m t o : Int} (hn : n < 900) (hS : SC I S len) (h : CPr I br a r L n) : mmC (d + 13) 106 [mo 10 0, mv w, mv m, mv t, mv o] (I, mmRf a br, X) (pR X S len n (d + 13) 210 [mo 11 0, mv w, mv m, mv t, mv o]) := by
  have hW0 := CP_LW h
  have hE0 := CP_LE h
  have h16 : 0 ≤ I 3 0 0 ∧ I 3 0 0 ≤ 16 := hW0.1
  have e68 : I 11 0 68 = I 3 0 0 := hE0.1
  have e70 : ∀ l, 0 ≤ l → l < I 3 0 0 → I 1270 0 l = I 401 0 l := fun l l0 l1 => (hE0.2.2.2.1 l l0 l1).1
  refine sp_letter hW0 (CP_ch h hn) (fun c => ?_) (fun c1 c2 c3 c4 c5 => ?_)
  · refine ⟨_, I, br, a, rfl, rfl, hS, sq_letter (by rw [e68]; exact h16) (fun _ => ⟨rfl, _, br, a, rfl, p_end2 hS h⟩) (fun q1 q2 q3 q4 q5 => absurd ⟨q1, q2, q3, by rw [← e68]; exact q4, ?_⟩ c)⟩
    rcases q5 with q | q
    · exact Or.inl q
    · rw [e68, e70 o q.1 (by omega)] at q
      exact Or.inr q
  · generalize hI1 : mmU (mmU (mmU (mmU (mmU (mmU (mmU (mmU (mmU I 10 0 11 (I 10 0 11 + 1)) 401 0 (I 3 0 0) w) 402 0 (I 3 0 0) m) 403 0 (I 3 0 0) t) 404 0 (I 3 0 0) o) 405 0 (I 3 0 0) (-1)) 406 0 (I 3 0 0) (I 3 0 0)) 407 0 (I 3 0 0) 0) 3 0 0 (I 3 0 0 + 1) = I1
    generalize hs : I 3 0 0 = s at *
    have g1 : ∀ t i k, ¬ (t = 3 ∧ i = 0 ∧ k = 0) → ¬ (401 ≤ t ∧ t ≤ 407 ∧ i = 0 ∧ k = s) → ¬ (t = 10 ∧ i = 0 ∧ k = 11) → I1 t i k = I t i k := by
      intro t i k d1 d2 d3
      rw [← hI1, uO d1, uO (by omega), uO (by omega), uO (by omega), uO (by omega), uO (by omega), uO (by omega), uO (by omega), uO d3]
    have k0 : I1 3 0 0 = s + 1 := by rw [← hI1, uS]
    have k11 : I1 10 0 11 = I 10 0 11 + 1 := by rw [← hI1, uO (by omega), uO (by omega), uO (by omega), uO (by omega), uO (by omega), uO (by omega), uO (by omega), uO (by omega), uS]
    have k1 : I1 401 0 s = w := by rw [← hI1, uO (by omega), uO (by omega), uO (by omega), uO (by omega), uO (by omega), uO (by omega), uO (by omega), uS]
    have k2 : I1 402 0 s = m := by rw [← hI1, uO (by omega), uO (by omega), uO (by omega), uO (by omega), uO (by omega), uO (by omega), uS]
    have k3 : I1 403 0 s = t := by rw [← hI1, uO (by omega), uO (by omega), uO (by omega), uO (by omega), uO (by omega), uS]
    have k4 : I1 404 0 s = o := by rw [← hI1, uO (by omega), uO (by omega), uO (by omega), uO (by omega), uS]
    have k5 : I1 405 0 s = -1 := by rw [← hI1, uO (by omega), uO (by omega), uO (by omega), uS]
    have k6 : I1 406 0 s = s := by rw [← hI1, uO (by omega), uO (by omega), uS]
    have k7 : I1 407 0 s = 0 := by rw [← hI1, uO (by omega), uS]
    clear hI1
    have f68 : I1 11 0 68 = s := (g1 _ _ _ (by omega) (by omega) (by omega)).trans e68
    have hor : o = -1 ∨ (0 ≤ o ∧ o < I1 11 0 68 ∧ I1 1270 0 o ≠ w) := by
      rcases c5 with q | q
      · exact Or.inl q
      · refine Or.inr ⟨q.1, by rw [f68]; exact q.2.1, ?_⟩
        rw [g1 _ _ _ (by omega) (by omega) (by omega), e70 o q.1 q.2.1]
        exact q.2.2
    refine ⟨_, I1, br, a, rfl, rfl, SC_ext hS (fun t i k ht => g1 _ _ _ (by omega) (by omega) (by omega)), sq_letter (by rw [f68]; exact h16) (fun q => absurd ⟨c1, c2, c3, by rw [f68]; exact c4, hor⟩ q) (fun _ _ _ _ _ => ?_)⟩
    · rw [f68]
      refine ⟨rfl, _, br, a, rfl, ?_⟩
      generalize hI2 : mmU (mmU (mmU (mmU (mmU (mmU (mmU (mmU I1 11 0 2 0) 1270 0 s w) 1271 0 s m) 1272 0 s t) 1273 0 s o) 1274 0 s (-1)) 1275 0 s 0) 11 0 68 (s + 1) = I2
      have g2 : ∀ t i k, ¬ (t = 11 ∧ i = 0 ∧ (k = 2 ∨ k = 68)) → ¬ (1270 ≤ t ∧ t ≤ 1275 ∧ i = 0 ∧ k = s) → I2 t i k = I1 t i k := by
        intro t i k d1 d2
        rw [← hI2, uO (by omega), uO (by omega), uO (by omega), uO (by omega), uO (by omega), uO (by omega), uO (by omega), uO (by omega)]
      have j68 : I2 11 0 68 = s + 1 := by rw [← hI2, uS]
      have j0 : I2 1270 0 s = w := by rw [← hI2, uO (by omega), uO (by omega), uO (by omega), uO (by omega), uO (by omega), uO (by omega), uS]
      have j1 : I2 1271 0 s = m := by rw [← hI2, uO (by omega), uO (by omega), uO (by omega), uO (by omega), uO (by omega), uS]
      have j2 : I2 1272 0 s = t := by rw [← hI2, uO (by omega), uO (by omega), uO (by omega), uO (by omega), uS]
      have j3 : I2 1273 0 s = o := by rw [← hI2, uO (by omega), uO (by omega), uO (by omega), uS]
      have j4 : I2 1274 0 s = -1 := by rw [← hI2, uO (by omega), uO (by omega), uS]
      have j5 : I2 1275 0 s = 0 := by rw [← hI2, uO (by omega), uS]
      clear hI2
      have i1 : I2 401 0 s = w := (g2 _ _ _ (by omega) (by omega)).trans k1
      have i2 : I2 402 0 s = m := (g2 _ _ _ (by omega) (by omega)).trans k2
      have i3 : I2 403 0 s = t := (g2 _ _ _ (by omega) (by omega)).trans k3
      have i4 : I2 404 0 s = o := (g2 _ _ _ (by omega) (by omega)).trans k4
      have i5 : I2 405 0 s = -1 := (g2 _ _ _ (by omega) (by omega)).trans k5
      have i6 : I2 406 0 s = s := (g2 _ _ _ (by omega) (by omega)).trans k6
      have i7 : I2 407 0 s = 0 := (g2 _ _ _ (by omega) (by omega)).trans k7
      refine CP_add hn hS h hs c4 (fun t i k d1 d2 d3 d4 d5 => (g2 t i k (by omega) d5).trans (g1 t i k d1 d2 d3)) ((g2 _ _ _ (by omega) (by omega)).trans k0) j68 ((g2 _ _ _ (by omega) (by omega)).trans k11) i7 j5 (j0.trans i1.symm) (j1.trans i2.symm) (j2.trans i3.symm) (j3.trans i4.symm) (j4.trans i5.symm) ?_
      unfold LWl
      simp only [Lc_1, Lc_2, Lc_3, Lc_4, Lc_5, Lc_6, Lc_7]
      rw [i1, i2, i3, i4, i5, i6, i7, i5, i1]
      exact ⟨c1, c2, c3, by omega, by omega, by omega, by omega, fun _ => rfl, fun q => by omega, rfl, rfl⟩
end S875
