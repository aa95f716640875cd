section S879
variable {d a D y y' : Nat} {I I1 I2 I' I'' : mMm} {br br' : Nat → Option mmO} {X : mmX} {L L' M M' : Nat → Int → Int} {r : mRu} {S : Int → Int} {len n w k v p q s i m : Int} {z : mmV} {args args' : List mmV} {Q : Option mmV → mmM → Prop}
theorem p_undo (hn : n < 900) (hS : SC I S len) (h : CPr I br a r L n) : mmC (d + 13) 130 [mo 10 0] (I, mmRf a br, X) (pR X S len n (d + 13) 252 [mo 11 0]) := by
  have hW0 := CP_LW h
  have hE0 := CP_LE h
  have h16 : 0 ≤ I 3 0 0 ∧ I 3 0 0 ≤ 16 := hW0.1
  have h20 : 0 ≤ I 3 0 11 ∧ I 3 0 11 ≤ 20 := hW0.2.1
  have e68 : I 11 0 68 = I 3 0 0 := hE0.1
  have e69 : I 11 0 69 = I 3 0 11 := hE0.2.1
  have hh : 0 < I 3 0 0 → I 1275 0 (I 3 0 0 - 1) = I 407 0 (I 3 0 0 - 1) := fun c => (hE0.2.2.2.1 (I 3 0 0 - 1) (by omega) (by show I 3 0 0 - 1 < I 3 0 0; omega)).2.2.2.2.2
  have hw : 0 < I 3 0 0 → 0 ≤ I 407 0 (I 3 0 0 - 1) ∧ I 407 0 (I 3 0 0 - 1) ≤ 6 := fun c => (hW0.2.2.2.1 (I 3 0 0 - 1) (by omega) (by show I 3 0 0 - 1 < I 3 0 0; omega)).2.2.2.2.2.1
  refine sp_undo hW0 (CP_ch h hn) (fun c => ?_) (fun c1 c2 => ?_) (fun c1 c2 => ?_)
  · exact ⟨_, I, br, a, rfl, rfl, hS, sq_undo (by rw [e68]; exact h16) (by rw [e69]; exact h20) (by rw [e68]; exact fun z => by omega) (fun _ => ⟨rfl, _, br, a, rfl, p_end2 hS h⟩) (fun z _ => by omega) (fun z _ => by omega)⟩
  · have e75 := hh c1
    have hw1 := hw c1
    generalize hI1 : mmU (mmU I 10 0 11 (I 10 0 11 + 1)) 407 0 (I 3 0 0 - 1) (I 407 0 (I 3 0 0 - 1) - 1) = I1
    clear hh hw
    generalize hs : I 3 0 0 = s at *
    generalize hi : I 407 0 (s - 1) = i at *
    have g1 : ∀ t j k, ¬ (t = 407 ∧ j = 0 ∧ k = s - 1) → ¬ (t = 10 ∧ j = 0 ∧ k = 11) → I1 t j k = I t j k := by
      intro t j k d1 d3
      rw [← hI1, uO d1, uO d3]
    have k11 : I1 10 0 11 = I 10 0 11 + 1 := by rw [← hI1, uO (by omega), uS]
    have k7 : I1 407 0 (s - 1) = i - 1 := by rw [← hI1, uS]
    clear hI1
    have f68 : I1 11 0 68 = s := (g1 _ _ _ (by omega) (by omega)).trans e68
    have f69 : I1 11 0 69 = I 3 0 11 := (g1 _ _ _ (by omega) (by omega)).trans e69
    have f75 : I1 1275 0 (s - 1) = i := (g1 _ _ _ (by omega) (by omega)).trans e75
    refine ⟨_, I1, br, a, rfl, rfl, SC_ext hS (fun t i k ht => g1 _ _ _ (by omega) (by omega)), sq_undo (by rw [f68]; exact h16) (by rw [f69]; exact h20) (by rw [f68, f75]; exact fun _ => hw1) (fun z => by omega) (fun _ _ => ?_) (fun _ z => by rw [f68, f75] at z; omega)⟩
    rw [f68, f75]
    refine ⟨rfl, _, br, a, rfl, ?_⟩
    generalize hI2 : mmU (mmU I1 11 0 2 0) 1275 0 (s - 1) (i - 1) = I2
    have g2 : ∀ t j k, ¬ (t = 11 ∧ j = 0 ∧ k = 2) → ¬ (t = 1275 ∧ j = 0 ∧ k = s - 1) → I2 t j k = I1 t j k := by
      intro t j k d1 d2
      rw [← hI2, uO d2, uO d1]
    have j5 : I2 1275 0 (s - 1) = i - 1 := by rw [← hI2, uS]
    clear hI2
    have g : ∀ t j k, ¬ (t = 407 ∧ j = 0 ∧ k = s - 1) → ¬ (t = 10 ∧ j = 0 ∧ k = 11) → ¬ (t = 11 ∧ j = 0 ∧ k = 2) → ¬ (t = 1275 ∧ j = 0 ∧ k = s - 1) → I2 t j k = I t j k := fun t j k d1 d2 d3 d4 => (g2 t j k d3 d4).trans (g1 t j k d1 d2)
    have hA : ∀ f k, f ≤ 14 → ¬ (f = 7 ∧ k = s - 1) → Lc I2 0 f k = Lc I 0 f k := fun f k hf d1 => Lc_cs (fun _ => g _ _ _ (by omega) (by omega) (by omega) (by omega)) (fun _ => g _ _ _ (by omega) (by omega) (by omega) (by omega)) (fun _ => g _ _ _ (by omega) (by omega) (by omega) (by omega)) (fun _ _ _ => g _ _ _ (by omega) (by omega) (by omega) (by omega))
    have hB : ∀ f k, f ≤ 14 → ¬ (f = 7 ∧ k = s - 1) → Lm I2 f k = Lm I f k := fun f k hf d1 => Lm_cs (fun _ => g _ _ _ (by omega) (by omega) (by omega) (by omega)) (fun _ => g _ _ _ (by omega) (by omega) (by omega) (by omega)) (fun _ => g _ _ _ (by omega) (by omega) (by omega) (by omega)) (fun t _ _ _ => g _ _ _ (by omega) (by omega) (by omega) (by omega)) (fun _ => g _ _ _ (by omega) (by omega) (by omega) (by omega)) (fun j _ => g _ _ _ (by omega) (by omega) (by omega) (by omega)) (fun _ => g _ _ _ (by omega) (by omega) (by omega) (by omega)) (fun _ => g _ _ _ (by omega) (by omega) (by omega) (by omega)) hf
    have k7' : Lc I2 0 7 (s - 1) = i - 1 := (g2 _ _ _ (by omega) (by omega)).trans k7
    have hW2 : LW (Lc I2 0) := LW_7 hW0 c1 hs hA k7' hi c2
    have hE2 : LE (Lc I2 0) (Lm I2) := LE_7 hE0 c1 hs hA k7' hB j5 hi
    exact ⟨SC_ext hS (fun t i k ht => g _ _ _ (by omega) (by omega) (by omega) (by omega)), r, _, CP_new h hn (fun t i k b1 b2 b3 b4 b5 => g _ _ _ (by omega) (by omega) (by omega) (by omega)) ((g2 _ _ _ (by omega) (by omega)).trans k11) hW2 hE2⟩
  · have e75 := hh c1
    have hw1 := hw c1
    have hl := hW0.2.2.2.2.2
    have hel := hE0.2.2.2.2.2
    simp only [Lc_11, Lc_12, Lc_13, Lc_0] at hl
    simp only [Lc_11, Lc_12, Lc_13, Lm_12, Lm_13] at hel
    generalize hI1 : mmU (mmUr (mmUr (mmU (mmU I 10 0 11 (I 10 0 11 + 1)) 3 0 0 (I 3 0 0 - 1)) 412 0 (dlS (I 3 0 0 - 1) (I 412 0) (I 413 0) (I 3 0 11).toNat).1) 413 0 (dlS (I 3 0 0 - 1) (I 412 0) (I 413 0) (I 3 0 11).toNat).2.1) 3 0 11 (dlS (I 3 0 0 - 1) (I 412 0) (I 413 0) (I 3 0 11).toNat).2.2 = I1
    clear hh hw
    generalize hs : I 3 0 0 = s at *
    generalize hc : I 3 0 11 = c at *
    have hwl := (dlS_well (x := s - 1) (g1 := I 412 0) (g2 := I 413 0) (P := fun u v => (0 ≤ u ∧ u < s) ∧ (0 ≤ v ∧ v ≤ 999)) (N := c.toNat) (fun k k0 k1 => hl k k0 (by omega)) c.toNat (Nat.le_refl _)).1
    have hrl := dlS_rel (x := s - 1) (g1 := I 412 0) (g2 := I 413 0) (h1 := I 1277 0) (h2 := I 1278 0) (N := c.toNat) (fun k k0 k1 => hel k k0 (by omega)) c.toNat (Nat.le_refl _)
    have hle := dlS_le (x := s - 1) (g1 := I 412 0) (g2 := I 413 0) c.toNat
    generalize hD : dlS (s - 1) (I 412 0) (I 413 0) c.toNat = D at *
    have g1 : ∀ t j k, ¬ (t = 412 ∧ j = 0) → ¬ (t = 413 ∧ j = 0) → ¬ (t = 3 ∧ j = 0 ∧ (k = 0 ∨ k = 11)) → ¬ (t = 10 ∧ j = 0 ∧ k = 11) → I1 t j k = I t j k := by
      intro t j k d1 d2 d3 d4
      rw [← hI1, uO (by omega), rO d2, rO d1, uO (by omega), uO d4]
    have k11 : I1 10 0 11 = I 10 0 11 + 1 := by rw [← hI1, uO (by omega), rO (by omega), rO (by omega), uO (by omega), uS]
    have k0 : I1 3 0 0 = s - 1 := by rw [← hI1, uO (by omega), rO (by omega), rO (by omega), uS]
    have k1 : I1 3 0 11 = D.2.2 := by rw [← hI1, uS]
    have k12 : ∀ k, I1 412 0 k = D.1 k := fun k => by rw [← hI1, uO (by omega), rO (by omega), rS]
    have k13 : ∀ k, I1 413 0 k = D.2.1 k := fun k => by rw [← hI1, uO (by omega), rS]
    clear hI1
    have f68 : I1 11 0 68 = s := (g1 _ _ _ (by omega) (by omega) (by omega) (by omega)).trans e68
    have f69 : I1 11 0 69 = c := (g1 _ _ _ (by omega) (by omega) (by omega) (by omega)).trans e69
    have f75 : I1 1275 0 (s - 1) = I 407 0 (s - 1) := (g1 _ _ _ (by omega) (by omega) (by omega) (by omega)).trans e75
    have f77 : I1 1277 0 = I 1277 0 := funext fun k => g1 _ _ _ (by omega) (by omega) (by omega) (by omega)
    have f78 : I1 1278 0 = I 1278 0 := funext fun k => g1 _ _ _ (by omega) (by omega) (by omega) (by omega)
    refine ⟨_, I1, br, a, rfl, rfl, SC_ext hS (fun t i k ht => g1 _ _ _ (by omega) (by omega) (by omega) (by omega)), sq_undo (by rw [f68]; exact h16) (by rw [f69]; exact h20) (by rw [f68, f75]; exact fun _ => hw1) (fun z => by omega) (fun _ z => by rw [f68, f75] at z; omega) (fun _ _ => ?_)⟩
    rw [f68, f69, f77, f78]
    refine ⟨rfl, _, br, a, rfl, ?_⟩
    generalize hE : dlS (s - 1) (I 1277 0) (I 1278 0) c.toNat = E at *
    obtain ⟨r1, r2⟩ := hrl
    generalize hI2 : mmU (mmUr (mmUr (mmU (mmU I1 11 0 2 0) 11 0 68 (s - 1)) 1277 0 E.1) 1278 0 E.2.1) 11 0 69 E.2.2 = I2
    have g2 : ∀ t j k, ¬ (t = 11 ∧ j = 0 ∧ (k = 2 ∨ k = 68 ∨ k = 69)) → ¬ (t = 1277 ∧ j = 0) → ¬ (t = 1278 ∧ j = 0) → I2 t j k = I1 t j k := by
      intro t j k d1 d2 d3
      rw [← hI2, uO (by omega), rO d3, rO d2, uO (by omega), uO (by omega)]
    have j0 : I2 11 0 68 = s - 1 := by rw [← hI2, uO (by omega), rO (by omega), rO (by omega), uS]
    have j1 : I2 11 0 69 = E.2.2 := by rw [← hI2, uS]
    have j12 : ∀ k, I2 1277 0 k = E.1 k := fun k => by rw [← hI2, uO (by omega), rO (by omega), rS]
    have j13 : ∀ k, I2 1278 0 k = E.2.1 k := fun k => by rw [← hI2, uO (by omega), rS]
    clear hI2
    have g : ∀ t j k, ¬ (t = 412 ∧ j = 0) → ¬ (t = 413 ∧ j = 0) → ¬ (t = 3 ∧ j = 0 ∧ (k = 0 ∨ k = 11)) → ¬ (t = 10 ∧ j = 0 ∧ k = 11) → ¬ (t = 11 ∧ j = 0 ∧ (k = 2 ∨ k = 68 ∨ k = 69)) → ¬ (t = 1277 ∧ j = 0) → ¬ (t = 1278 ∧ j = 0) → I2 t j k = I t j k := fun t j k d1 d2 d3 d4 d5 d6 d7 => (g2 t j k d5 d6 d7).trans (g1 t j k d1 d2 d3 d4)
    have hA : ∀ f k, (1 ≤ f ∧ f ≤ 10) ∨ f = 14 → Lc I2 0 f k = Lc I 0 f k := fun f k hf => Lc_cs (fun _ => by omega) (fun _ => by omega) (fun _ => g _ _ _ (by omega) (by omega) (by omega) (by omega) (by omega) (by omega) (by omega)) (fun _ _ _ => g _ _ _ (by omega) (by omega) (by omega) (by omega) (by omega) (by omega) (by omega))
    have hB : ∀ f k, (1 ≤ f ∧ f ≤ 10) ∨ f = 14 → Lm I2 f k = Lm I f k := fun f k hf => Lm_cs (fun _ => by omega) (fun _ => by omega) (fun _ => g _ _ _ (by omega) (by omega) (by omega) (by omega) (by omega) (by omega) (by omega)) (fun t _ _ _ => g _ _ _ (by omega) (by omega) (by omega) (by omega) (by omega) (by omega) (by omega)) (fun _ => g _ _ _ (by omega) (by omega) (by omega) (by omega) (by omega) (by omega) (by omega)) (fun j _ => g _ _ _ (by omega) (by omega) (by omega) (by omega) (by omega) (by omega) (by omega)) (fun _ => by omega) (fun _ => by omega) (by omega)
    have q0 : Lc I2 0 0 0 = s - 1 := (g2 3 0 0 (by omega) (by omega) (by omega)).trans k0
    have q11 : Lc I2 0 11 0 = D.2.2 := (g2 3 0 11 (by omega) (by omega) (by omega)).trans k1
    have q12 : ∀ k, Lc I2 0 12 k = D.1 k := fun k => (g2 412 0 k (by omega) (by omega) (by omega)).trans (k12 k)
    have q13 : ∀ k, Lc I2 0 13 k = D.2.1 k := fun k => (g2 413 0 k (by omega) (by omega) (by omega)).trans (k13 k)
    have hls : s - 1 ≤ Lc I 0 0 0 := by rw [Lc_0, hs]; omega
    have hW2 : LW (Lc I2 0) := by
      refine LW_un hW0 hA q0 hls (by omega) (by rw [q11]; omega) (fun k k0 k1 => ?_)
      rw [q11] at k1
      rw [q12, q13]
      obtain ⟨⟨u1, u2⟩, u3⟩ := hwl k k0 k1
      exact ⟨by omega, u2⟩
    have hE2 : LE (Lc I2 0) (Lm I2) := by
      refine LE_un hE0 hA hB q0 hls j0 (by rw [q11, ← r1]; exact j1) (fun k k0 k1 => ?_)
      rw [q11] at k1
      rw [q12, q13, Lm_12, Lm_13, j12, j13]
      exact r2 k k0 (by omega)
    exact ⟨SC_ext hS (fun t i k ht => g _ _ _ (by omega) (by omega) (by omega) (by omega) (by omega) (by omega) (by omega)), r, _, CP_new h hn (fun t i k b1 b2 b3 b4 b5 => g _ _ _ (by omega) (by omega) (by omega) (by omega) (by omega) (by omega) (by omega)) ((g2 _ _ _ (by omega) (by omega) (by omega)).trans k11) hW2 hE2⟩
end S879
