/-- an if more -/
def AddIf (L L' : Nat → Int → Int) (s i p q m : Int) : Prop := (∀ f k, f ≤ 14 → ¬ (f = 7 ∧ k = s - 1) → ¬ ((f = 8 ∨ f = 9 ∨ f = 10) ∧ k = (s - 1) * 6 + i) → L' f k = L f k) ∧ L' 7 (s - 1) = i + 1 ∧ L' 8 ((s - 1) * 6 + i) = p ∧ L' 9 ((s - 1) * 6 + i) = q ∧ L' 10 ((s - 1) * 6 + i) = m
section S877
variable {d a D y y' : Nat} {I I1 I2 I' I'' : mMm} {br br' : Nat → Option mmO} {X : mmX} {L L' M M' : Nat → Int → Int} {r : mRu} {S : Int → Int} {len n w k v p q s i m : Int} {z : mmV} {args args' : List mmV} {Q : Option mmV → mmM → Prop}
theorem LW_if (hL : LW L) (hA : AddIf L L' s i p q m) (hs : L 0 0 = s) (s0 : 0 < s) (h5 : L 5 (s - 1) = -1) (hi : L 7 (s - 1) = i) (i6 : i < 6) (hp : 0 ≤ p ∧ p < 60 ∧ p % 2 = L 1 (s - 1)) (hq : -1 ≤ q ∧ q ≤ 4095) (hm : 0 ≤ m ∧ m ≤ 4095) : LW L' := by
  obtain ⟨a1, a7, a8, a9, a10⟩ := hA
  obtain ⟨l1, l2, l3, l4, l5, l6⟩ := hL
  have e : ∀ f k, f ≤ 6 ∨ f = 11 ∨ f = 12 ∨ f = 13 ∨ f = 14 → L' f k = L f k := fun f k hf => a1 f k (by omega) (by omega) (by omega)
  have i0 : 0 ≤ i := by
    have := (l4 (s - 1) (by omega) (by omega)).2.2.2.2.2.1
    omega
  refine ⟨by rw [e 0 _ (by omega)]; exact l1, by rw [e 11 _ (by omega)]; exact l2, by rw [e 14 _ (by omega)]; exact l3, fun l q0 q1 => ?_, fun l k q0 q1 k0 k1 => ?_, fun k k0 k1 => ?_⟩
  · rw [e 0 _ (by omega)] at q1
    obtain ⟨w1, w2, w3, w4, w5, w7, w6, w8, w9, w10, w11⟩ := l4 l q0 q1
    unfold LWl
    rw [e 1 _ (by omega), e 2 _ (by omega), e 3 _ (by omega), e 4 _ (by omega), e 5 _ (by omega), e 6 _ (by omega), e 5 _ (by omega), e 1 _ (by omega), e 6 _ (by omega)]
    by_cases c : l = s - 1
    · subst c
      rw [a7]
      exact ⟨w1, w2, w3, w4, w5, by omega, w6, w8, fun z => by omega, w10, w11⟩
    · rw [a1 7 l (by omega) (by omega) (by omega)]
      exact ⟨w1, w2, w3, w4, w5, w7, w6, w8, w9, w10, w11⟩
  · rw [e 0 _ (by omega)] at q1
    by_cases c : l = s - 1 ∧ k = i
    · obtain ⟨c1, c2⟩ := c
      subst c1 c2
      unfold LWi
      rw [a8, a9, a10, e 1 _ (by omega)]
      exact ⟨hp, hq, hm⟩
    · have kk : k < L 7 l := by
        by_cases c1 : l = s - 1
        · subst c1; rw [a7] at k1; omega
        · rw [a1 7 l (by omega) (by omega) (by omega)] at k1; exact k1
      have k6 := (l4 l q0 q1).2.2.2.2.2.1
      have := l5 l k q0 q1 k0 kk
      unfold LWi at this ⊢
      rw [a1 8 _ (by omega) (by omega) (by omega), a1 9 _ (by omega) (by omega) (by omega), a1 10 _ (by omega) (by omega) (by omega), e 1 _ (by omega)]
      exact this
  · rw [e 11 _ (by omega)] at k1
    rw [e 12 _ (by omega), e 13 _ (by omega), e 0 _ (by omega)]
    exact l6 k k0 k1
theorem LE_if (hL : LW L) (hE : LE L M) (hA : AddIf L L' s i p q m) (hB : AddIf M M' s i p q m) (hs : L 0 0 = s) (s0 : 0 < s) (hi : L 7 (s - 1) = i) (i6 : i < 6) : LE L' M' := by
  obtain ⟨a1, a7, a8, a9, a10⟩ := hA
  obtain ⟨b1, b7, b8, b9, b10⟩ := hB
  obtain ⟨q1, q2, q3, q4, q5, q6⟩ := hE
  obtain ⟨l1, l2, l3, l4, l5, l6⟩ := hL
  have e : ∀ f k, f ≤ 6 ∨ f = 11 ∨ f = 12 ∨ f = 13 ∨ f = 14 → L' f k = L f k := fun f k hf => a1 f k (by omega) (by omega) (by omega)
  have g : ∀ f k, f ≤ 6 ∨ f = 11 ∨ f = 12 ∨ f = 13 ∨ f = 14 → M' f k = M f k := fun f k hf => b1 f k (by omega) (by omega) (by omega)
  have i0 : 0 ≤ i := by
    have := (l4 (s - 1) (by omega) (by omega)).2.2.2.2.2.1
    omega
  refine ⟨by rw [e 0 _ (by omega), g 0 _ (by omega)]; exact q1, by rw [e 11 _ (by omega), g 11 _ (by omega)]; exact q2, by rw [e 14 _ (by omega), g 14 _ (by omega)]; exact q3, fun l l0 l1 => ?_, fun l k l0 l1 k0 k1 => ?_, fun k k0 k1 => ?_⟩
  · rw [e 0 _ (by omega)] at l1
    obtain ⟨z1, z2, z3, z4, z5, z7⟩ := q4 l l0 l1
    rw [e 1 _ (by omega), e 2 _ (by omega), e 3 _ (by omega), e 4 _ (by omega), e 5 _ (by omega), g 1 _ (by omega), g 2 _ (by omega), g 3 _ (by omega), g 4 _ (by omega), g 5 _ (by omega)]
    refine ⟨z1, z2, z3, z4, z5, ?_⟩
    by_cases c : l = s - 1
    · subst c; rw [a7, b7]
    · rw [a1 7 l (by omega) (by omega) (by omega), b1 7 l (by omega) (by omega) (by omega)]; exact z7
  · rw [e 0 _ (by omega)] at l1
    by_cases c : l = s - 1 ∧ k = i
    · obtain ⟨c1, c2⟩ := c
      subst c1 c2
      exact ⟨b8.trans a8.symm, b9.trans a9.symm, b10.trans a10.symm⟩
    · have kk : k < L 7 l := by
        by_cases c1 : l = s - 1
        · subst c1; rw [a7] at k1; omega
        · rw [a1 7 l (by omega) (by omega) (by omega)] at k1; exact k1
      have k6 := (l4 l l0 l1).2.2.2.2.2.1
      rw [a1 8 _ (by omega) (by omega) (by omega), a1 9 _ (by omega) (by omega) (by omega), a1 10 _ (by omega) (by omega) (by omega), b1 8 _ (by omega) (by omega) (by omega), b1 9 _ (by omega) (by omega) (by omega), b1 10 _ (by omega) (by omega) (by omega)]
      exact q5 l k l0 l1 k0 kk
  · rw [e 11 _ (by omega)] at k1
    rw [e 12 _ (by omega), e 13 _ (by omega), g 12 _ (by omega), g 13 _ (by omega)]
    exact q6 k k0 k1
theorem p_when (hn : n < 900) (hS : SC I S len) (h : CPr I br a r L n) : mmC (d + 13) 107 [mo 10 0, mv p, mv q, mv m] (I, mmRf a br, X) (pR X S len n (d + 13) 212 [mo 11 0, mv p, mv q, mv m]) := by
  have hW0 := CP_LW h
  have hE0 := CP_LE h
  have h16 : 0 ≤ I 3 0 0 ∧ I 3 0 0 ≤ 16 := hW0.1
  have e68 : I 11 0 68 = I 3 0 0 := hE0.1
  have hh : 0 < I 3 0 0 → I 1270 0 (I 3 0 0 - 1) = I 401 0 (I 3 0 0 - 1) ∧ I 1274 0 (I 3 0 0 - 1) = I 405 0 (I 3 0 0 - 1) ∧ I 1275 0 (I 3 0 0 - 1) = I 407 0 (I 3 0 0 - 1) := fun c => by
    have q := hE0.2.2.2.1 (I 3 0 0 - 1) (by omega) (by show I 3 0 0 - 1 < I 3 0 0; omega)
    exact ⟨q.1, q.2.2.2.2.1, q.2.2.2.2.2⟩
  have hw : 0 < I 3 0 0 → -1 ≤ I 405 0 (I 3 0 0 - 1) ∧ 0 ≤ I 407 0 (I 3 0 0 - 1) ∧ I 407 0 (I 3 0 0 - 1) ≤ 6 := fun c => by
    have q := hW0.2.2.2.1 (I 3 0 0 - 1) (by omega) (by show I 3 0 0 - 1 < I 3 0 0; omega)
    exact ⟨q.2.2.2.2.1.1, q.2.2.2.2.2.1⟩
  refine sp_when hW0 (CP_ch h hn) (fun c => ?_) (fun c1 c2 c3 c4 c5 c6 => ?_)
  · refine ⟨_, I, br, a, rfl, rfl, hS, sq_when (by rw [e68]; exact h16) (by rw [e68]; exact fun z => by rw [(hh z).2.2]; exact (hw z).2) (by rw [e68]; exact fun z => by rw [(hh z).2.1]; exact (hw z).1) (fun _ => ⟨rfl, _, br, a, rfl, p_end2 hS h⟩) (fun q1 q2 q3 q4 q5 q6 => absurd ?_ c)⟩
    rw [e68] at q1 q2 q3 q4
    obtain ⟨e1, e2, e3⟩ := hh q1
    rw [e2] at q2
    rw [e3] at q3
    rw [e1] at q4
    exact ⟨q1, q2, q3, q4, q5, q6⟩
  · obtain ⟨e1, e2, e3⟩ := hh c1
    have hw1 := hw c1
    generalize hI1 : mmU (mmU (mmU (mmU (mmU I 10 0 11 (I 10 0 11 + 1)) 408 0 ((I 3 0 0 - 1) * 6 + I 407 0 (I 3 0 0 - 1)) p) 409 0 ((I 3 0 0 - 1) * 6 + I 407 0 (I 3 0 0 - 1)) q) 410 0 ((I 3 0 0 - 1) * 6 + I 407 0 (I 3 0 0 - 1)) m) 407 0 (I 3 0 0 - 1) (I 407 0 (I 3 0 0 - 1) + 1) = I1
    clear hh hw
    generalize hs : I 3 0 0 = s at *
    generalize hi : I 407 0 (s - 1) = i at *
    have g1 : ∀ t j k, ¬ (t = 407 ∧ j = 0 ∧ k = s - 1) → ¬ ((t = 408 ∨ t = 409 ∨ t = 410) ∧ j = 0 ∧ k = (s - 1) * 6 + i) → ¬ (t = 10 ∧ j = 0 ∧ k = 11) → I1 t j k = I t j k := by
      intro t j k d1 d2 d3
      rw [← hI1, uO d1, uO (by omega), uO (by omega), uO (by omega), uO d3]
    have k11 : I1 10 0 11 = I 10 0 11 + 1 := by rw [← hI1, uO (by omega), uO (by omega), uO (by omega), uO (by omega), uS]
    have k8 : I1 408 0 ((s - 1) * 6 + i) = p := by rw [← hI1, uO (by omega), uO (by omega), uO (by omega), uS]
    have k9 : I1 409 0 ((s - 1) * 6 + i) = q := by rw [← hI1, uO (by omega), uO (by omega), uS]
    have k10 : I1 410 0 ((s - 1) * 6 + i) = m := by rw [← hI1, uO (by omega), uS]
    have k7 : I1 407 0 (s - 1) = i + 1 := by rw [← hI1, uS]
    clear hI1
    have f68 : I1 11 0 68 = s := (g1 _ _ _ (by omega) (by omega) (by omega)).trans e68
    have f70 : I1 1270 0 (s - 1) = I 401 0 (s - 1) := (g1 _ _ _ (by omega) (by omega) (by omega)).trans e1
    have f74 : I1 1274 0 (s - 1) = I 405 0 (s - 1) := (g1 _ _ _ (by omega) (by omega) (by omega)).trans e2
    have f75 : I1 1275 0 (s - 1) = i := (g1 _ _ _ (by omega) (by omega) (by omega)).trans e3
    refine ⟨_, I1, br, a, rfl, rfl, SC_ext hS (fun t i k ht => g1 _ _ _ (by omega) (by omega) (by omega)), sq_when (by rw [f68]; exact h16) (by rw [f68, f75]; exact fun _ => hw1.2) (by rw [f68, f74]; exact fun _ => hw1.1) (fun z => absurd ?_ z) (fun _ _ _ _ _ _ => ?_)⟩
    · rw [f68, f74, f75, f70]; exact ⟨c1, c2, c3, c4, c5, c6⟩
    · rw [f68, f75]
      refine ⟨rfl, _, br, a, rfl, ?_⟩
      generalize hI2 : mmU (mmU (mmU (mmU (mmU I1 11 0 2 0) 1276 0 (18 * (s - 1) + 3 * i) p) 1276 0 (18 * (s - 1) + 3 * i + 1) q) 1276 0 (18 * (s - 1) + 3 * i + 2) m) 1275 0 (s - 1) (i + 1) = I2
      have g2 : ∀ t j k, ¬ (t = 11 ∧ j = 0 ∧ k = 2) → ¬ (t = 1275 ∧ j = 0 ∧ k = s - 1) → ¬ (t = 1276 ∧ j = 0 ∧ (k = 18 * (s - 1) + 3 * i ∨ k = 18 * (s - 1) + 3 * i + 1 ∨ k = 18 * (s - 1) + 3 * i + 2)) → I2 t j k = I1 t j k := by
        intro t j k d1 d2 d3
        rw [← hI2, uO d2, uO (by omega), uO (by omega), uO (by omega), uO d1]
      have j5 : I2 1275 0 (s - 1) = i + 1 := by rw [← hI2, uS]
      have j6 : I2 1276 0 (18 * (s - 1) + 3 * i + 2) = m := by rw [← hI2, uO (by omega), uS]
      have j7 : I2 1276 0 (18 * (s - 1) + 3 * i + 1) = q := by rw [← hI2, uO (by omega), uO (by omega), uS]
      have j8 : I2 1276 0 (18 * (s - 1) + 3 * i) = p := by rw [← hI2, uO (by omega), uO (by omega), uO (by omega), uS]
      clear hI2
      have g : ∀ t j k, ¬ (t = 407 ∧ j = 0 ∧ k = s - 1) → ¬ ((t = 408 ∨ t = 409 ∨ t = 410) ∧ j = 0 ∧ k = (s - 1) * 6 + i) → ¬ (t = 10 ∧ j = 0 ∧ k = 11) → ¬ (t = 11 ∧ j = 0 ∧ k = 2) → ¬ (t = 1275 ∧ j = 0 ∧ k = s - 1) → ¬ (t = 1276 ∧ j = 0 ∧ (k = 18 * (s - 1) + 3 * i ∨ k = 18 * (s - 1) + 3 * i + 1 ∨ k = 18 * (s - 1) + 3 * i + 2)) → I2 t j k = I t j k := fun t j k d1 d2 d3 d4 d5 d6 => (g2 t j k d4 d5 d6).trans (g1 t j k d1 d2 d3)
      have hA : AddIf (Lc I 0) (Lc I2 0) s i p q m := by
        refine ⟨fun f k hf d1 d2 => ?_, (g2 _ _ _ (by omega) (by omega) (by omega)).trans k7, (g2 _ _ _ (by omega) (by omega) (by omega)).trans k8, (g2 _ _ _ (by omega) (by omega) (by omega)).trans k9, (g2 _ _ _ (by omega) (by omega) (by omega)).trans k10⟩
        unfold Lc
        by_cases b0 : f = 0
        · rw [if_pos b0, if_pos b0]; exact g _ _ _ (by omega) (by omega) (by omega) (by omega) (by omega) (by omega)
        · rw [if_neg b0, if_neg b0]
          by_cases b1 : f = 11
          · rw [if_pos b1, if_pos b1]; exact g _ _ _ (by omega) (by omega) (by omega) (by omega) (by omega) (by omega)
          · rw [if_neg b1, if_neg b1]
            by_cases b2 : f = 14
            · rw [if_pos b2, if_pos b2]; exact g _ _ _ (by omega) (by omega) (by omega) (by omega) (by omega) (by omega)
            · rw [if_neg b2, if_neg b2]
              exact g _ _ _ (by omega) (by omega) (by omega) (by omega) (by omega) (by omega)
      have hB : AddIf (Lm I) (Lm I2) s i p q m := by
        refine ⟨fun f k hf d1 d2 => ?_, j5, ?_, ?_, ?_⟩
        · have : f = 0 ∨ f = 1 ∨ f = 2 ∨ f = 3 ∨ f = 4 ∨ f = 5 ∨ f = 6 ∨ f = 7 ∨ f = 8 ∨ f = 9 ∨ f = 10 ∨ f = 11 ∨ f = 12 ∨ f = 13 ∨ f = 14 := by omega
          rcases this with c | c | c | c | c | c | c | c | c | c | c | c | c | c | c <;> subst c
          · exact g 11 0 68 (by omega) (by omega) (by omega) (by omega) (by omega) (by omega)
          · exact g 1270 0 k (by omega) (by omega) (by omega) (by omega) (by omega) (by omega)
          · exact g 1271 0 k (by omega) (by omega) (by omega) (by omega) (by omega) (by omega)
          · exact g 1272 0 k (by omega) (by omega) (by omega) (by omega) (by omega) (by omega)
          · exact g 1273 0 k (by omega) (by omega) (by omega) (by omega) (by omega) (by omega)
          · exact g 1274 0 k (by omega) (by omega) (by omega) (by omega) (by omega) (by omega)
          · rfl
          · exact g 1275 0 k (by omega) (by omega) (by omega) (by omega) (by omega) (by omega)
          · exact g 1276 0 (3 * k) (by omega) (by omega) (by omega) (by omega) (by omega) (by omega)
          · exact g 1276 0 (3 * k + 1) (by omega) (by omega) (by omega) (by omega) (by omega) (by omega)
          · exact g 1276 0 (3 * k + 2) (by omega) (by omega) (by omega) (by omega) (by omega) (by omega)
          · exact g 11 0 69 (by omega) (by omega) (by omega) (by omega) (by omega) (by omega)
          · exact g 1277 0 k (by omega) (by omega) (by omega) (by omega) (by omega) (by omega)
          · exact g 1278 0 k (by omega) (by omega) (by omega) (by omega) (by omega) (by omega)
          · exact g 11 0 60 (by omega) (by omega) (by omega) (by omega) (by omega) (by omega)
        · rw [Lm_8, show 3 * ((s - 1) * 6 + i) = 18 * (s - 1) + 3 * i by omega]; exact j8
        · rw [Lm_9, show 3 * ((s - 1) * 6 + i) + 1 = 18 * (s - 1) + 3 * i + 1 by omega]; exact j7
        · rw [Lm_10, show 3 * ((s - 1) * 6 + i) + 2 = 18 * (s - 1) + 3 * i + 2 by omega]; exact j6
      have hW2 : LW (Lc I2 0) := LW_if hW0 hA hs c1 c2 hi c3 c4 (by omega) c6
      have hE2 : LE (Lc I2 0) (Lm I2) := LE_if hW0 hE0 hA hB hs c1 hi c3
      exact ⟨SC_ext hS (fun t i k ht => g _ _ _ (by omega) (by omega) (by omega) (by omega) (by omega) (by omega)), r, _, CP_new h hn (fun t i k b1 b2 b3 b4 b5 => g _ _ _ (by omega) (by omega) (by omega) (by omega) (by omega) (by omega)) ((g2 _ _ _ (by omega) (by omega) (by omega)).trans k11) hW2 hE2⟩
end S877
