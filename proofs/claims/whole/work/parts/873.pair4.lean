section S873
variable {d a D y y' : Nat} {I I1 I' I'' : mMm} {br br' : Nat → Option mmO} {X : mmX} {L : Nat → Int → Int} {r : mRu} {S : Int → Int} {len n w k v p q : Int} {z : mmV} {args args' : List mmV} {Q : Option mmV → mmM → Prop}
theorem CP_ch (h : CPr I br a r L n) (hn : n < 900) : 0 ≤ I 10 0 11 ∧ I 10 0 11 < 1000 := h.1.2.2.2.2.2.1
/-- letters that differ in today alone -/
theorem LW_14 {L L' : Nat → Int → Int} (hL : LW L) (h : ∀ f k, f ≤ 13 → L' f k = L f k) (h14 : 0 ≤ L' 14 0 ∧ L' 14 0 ≤ 999) : LW L' := by
  have e0 : L' 0 = L 0 := funext fun k => h 0 k (by omega)
  have e1 : L' 1 = L 1 := funext fun k => h 1 k (by omega)
  have e2 : L' 2 = L 2 := funext fun k => h 2 k (by omega)
  have e3 : L' 3 = L 3 := funext fun k => h 3 k (by omega)
  have e4 : L' 4 = L 4 := funext fun k => h 4 k (by omega)
  have e5 : L' 5 = L 5 := funext fun k => h 5 k (by omega)
  have e6 : L' 6 = L 6 := funext fun k => h 6 k (by omega)
  have e7 : L' 7 = L 7 := funext fun k => h 7 k (by omega)
  have e8 : L' 8 = L 8 := funext fun k => h 8 k (by omega)
  have e9 : L' 9 = L 9 := funext fun k => h 9 k (by omega)
  have e10 : L' 10 = L 10 := funext fun k => h 10 k (by omega)
  have e11 : L' 11 = L 11 := funext fun k => h 11 k (by omega)
  have e12 : L' 12 = L 12 := funext fun k => h 12 k (by omega)
  have e13 : L' 13 = L 13 := funext fun k => h 13 k (by omega)
  unfold LW LWl LWi at hL ⊢
  rw [e0, e1, e2, e3, e4, e5, e6, e7, e8, e9, e10, e11, e12, e13]
  exact ⟨hL.1, hL.2.1, h14, hL.2.2.2⟩
theorem p_day (hn : n < 900) (hS : SC I S len) (h : CPr I br a r L n) : mmC (d + 13) 105 [mo 10 0, mv w] (I, mmRf a br, X) (pR X S len n (d + 13) 209 [mo 11 0, mv w]) := by
  have hW0 := CP_LW h
  have hE0 := CP_LE h
  refine sp_day (CP_ch h hn) (fun c => ?_) (fun c => ?_)
  · exact ⟨_, I, br, a, rfl, rfl, hS, sq_day (fun _ => ⟨rfl, _, br, a, rfl, p_end2 hS h⟩) (fun q => absurd q c)⟩
  · have hS1 : SC (mmU (mmU I 3 0 14 w) 10 0 11 (I 10 0 11 + 1)) S len := SC_ext hS (fun t i k ht => by rw [uO (by omega), uO (by omega)])
    refine ⟨_, _, br, a, rfl, rfl, hS1, sq_day (fun q => absurd c q) (fun _ => ⟨rfl, _, br, a, rfl, ?_⟩)⟩
    generalize hI2 : mmU (mmU (mmU (mmU I 3 0 14 w) 10 0 11 (I 10 0 11 + 1)) 11 0 2 0) 11 0 60 w = I2
    have g : ∀ t i k, ¬ (t = 3 ∧ i = 0 ∧ k = 14) → ¬ (t = 10 ∧ i = 0 ∧ k = 11) → ¬ (t = 11 ∧ (k = 2 ∨ k = 60)) → I2 t i k = I t i k := by
      intro t i k c1 c2 c3
      rw [← hI2, uO (by omega), uO (by omega), uO c2, uO c1]
    have e314 : I2 3 0 14 = w := by rw [← hI2, uO (by omega), uO (by omega), uO (by omega), uS]
    have e1011 : I2 10 0 11 = I 10 0 11 + 1 := by rw [← hI2, uO (by omega), uO (by omega), uS]
    have e1160 : I2 11 0 60 = w := by rw [← hI2, uS]
    clear hI2
    have hLc : ∀ f k, f ≤ 13 → Lc I2 0 f k = Lc I 0 f k := by
      intro f k hf
      unfold Lc
      by_cases c0 : f = 0
      · rw [if_pos c0, if_pos c0]; exact g _ _ _ (by omega) (by omega) (by omega)
      · rw [if_neg c0, if_neg c0]
        by_cases c1 : f = 11
        · rw [if_pos c1, if_pos c1]; exact g _ _ _ (by omega) (by omega) (by omega)
        · rw [if_neg c1, if_neg c1, if_neg (by omega), if_neg (by omega)]
          exact g _ _ _ (by omega) (by omega) (by omega)
    have hW2 : LW (Lc I2 0) := LW_14 hW0 hLc (by show 0 ≤ I2 3 0 14 ∧ I2 3 0 14 ≤ 999; rw [e314]; exact c)
    have hE2 : LE (Lc I2 0) (Lm I2) := by
      obtain ⟨q1, q2, q3, q4, q5, q6⟩ := hE0
      have e0 : Lc I2 0 0 0 = Lc I 0 0 0 := hLc 0 0 (by omega)
      refine ⟨?_, ?_, e1160.trans e314.symm, fun l l0 l1 => ?_, fun l k l0 l1 k0 k1 => ?_, fun k k0 k1 => ?_⟩
      · rw [e0, ← q1]; exact g _ _ _ (by omega) (by omega) (by omega)
      · rw [hLc 11 0 (by omega), ← q2]; exact g _ _ _ (by omega) (by omega) (by omega)
      · rw [e0] at l1
        rw [hLc 1 l (by omega), hLc 2 l (by omega), hLc 3 l (by omega), hLc 4 l (by omega), hLc 5 l (by omega), hLc 7 l (by omega)]
        obtain ⟨s1, s2, s3, s4, s5, s6⟩ := q4 l l0 l1
        exact ⟨(g _ _ _ (by omega) (by omega) (by omega)).trans s1, (g _ _ _ (by omega) (by omega) (by omega)).trans s2, (g _ _ _ (by omega) (by omega) (by omega)).trans s3, (g _ _ _ (by omega) (by omega) (by omega)).trans s4, (g _ _ _ (by omega) (by omega) (by omega)).trans s5, (g _ _ _ (by omega) (by omega) (by omega)).trans s6⟩
      · rw [e0] at l1
        rw [hLc 7 l (by omega)] at k1
        rw [hLc 8 _ (by omega), hLc 9 _ (by omega), hLc 10 _ (by omega)]
        obtain ⟨s1, s2, s3⟩ := q5 l k l0 l1 k0 k1
        exact ⟨(g _ _ _ (by omega) (by omega) (by omega)).trans s1, (g _ _ _ (by omega) (by omega) (by omega)).trans s2, (g _ _ _ (by omega) (by omega) (by omega)).trans s3⟩
      · rw [hLc 11 0 (by omega)] at k1
        rw [hLc 12 k (by omega), hLc 13 k (by omega)]
        obtain ⟨s1, s2⟩ := q6 k k0 k1
        exact ⟨(g _ _ _ (by omega) (by omega) (by omega)).trans s1, (g _ _ _ (by omega) (by omega) (by omega)).trans s2⟩
    exact ⟨SC_ext hS (fun t i k ht => g _ _ _ (by omega) (by omega) (by omega)), r, _, CP_new h hn (fun t i k c1 c2 c3 c4 c5 => g _ _ _ (by omega) (by omega) (by omega)) e1011 hW2 hE2⟩
end S873
