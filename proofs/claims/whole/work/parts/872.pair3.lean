section S872
variable {d a D y y' : Nat} {I I1 I' I'' : mMm} {br br' : Nat → Option mmO} {X : mmX} {L : Nat → Int → Int} {r : mRu} {S : Int → Int} {len n w k v p q : Int} {z : mmV} {args args' : List mmV} {Q : Option mmV → mmM → Prop}
theorem uO {J : mMm} {t i t' i' : Nat} {k k' v : Int} (h : ¬ (t = t' ∧ i = i' ∧ k = k')) : mmU J t' i' k' v t i k = J t i k := by unfold mmU; rw [if_neg h]
theorem rO {J : mMm} {t i t' i' : Nat} {k : Int} {g : Int → Int} (h : ¬ (t = t' ∧ i = i')) : mmUr J t' i' g t i k = J t i k := by unfold mmUr; rw [if_neg h]
theorem uS {J : mMm} {t i : Nat} {k v : Int} : mmU J t i k v t i k = v := by unfold mmU; rw [if_pos ⟨rfl, rfl, rfl⟩]
theorem rS {J : mMm} {t i : Nat} {k : Int} {g : Int → Int} : mmUr J t i g t i k = g k := by unfold mmUr; rw [if_pos ⟨rfl, rfl⟩]
/-- new letters: all rows are stale -/
theorem CP_new (h : CPr I br a r L n) (hn : n < 900) (he : ∀ t i k, ¬ (t = 3 ∧ i = 0) → ¬ (401 ≤ t ∧ t ≤ 413 ∧ i = 0) → ¬ (t = 10 ∧ k = 11) → ¬ (t = 11 ∧ (k = 2 ∨ k = 60 ∨ k = 68 ∨ k = 69)) → ¬ (1270 ≤ t ∧ t ≤ 1278) → I' t i k = I t i k) (h11 : I' 10 0 11 = I 10 0 11 + 1) (hW : LW (Lc I' 0)) (hE : LE (Lc I' 0) (Lm I')) : CPr I' br a r (Lc I' 0) (n + 1) := by
  obtain ⟨⟨k1, k2, k3, k4, k5, k6, k7⟩, c2, c3, c4, c5, c6, c7⟩ := h
  have hR : RK r I' := RK_ext c2.1 (fun k hk => he _ _ _ (by omega) (by omega) (by omega) (by omega) (by omega)) (fun t k q1 q2 => he _ _ _ (by omega) (by omega) (by omega) (by omega) (by omega))
  refine ⟨⟨fun t k ht => (he t a k (by unfold rtag at ht; omega) (by unfold rtag at ht; omega) (by unfold rtag at ht; omega) (by unfold rtag at ht; omega) (by unfold rtag at ht; omega)).trans (k1 t k ht), k2, k3, fun _ _ _ => rfl, hW, by omega, fun w hw => ?_⟩, ⟨hR, c2.2.1, ME_of hE, hW⟩, hE, c4, TpQ_ext c5 (fun t i k ht => he _ _ _ (by omega) (by omega) (by omega) (by omega) (by omega)), IM_ext c6 (fun t i k ht => he _ _ _ (by omega) (by omega) (by omega) (by omega) (by omega)), by omega⟩
  have e5 : I' 5 (w + 1) 0 = I 5 (w + 1) 0 := he _ _ _ (by omega) (by omega) (by omega) (by omega) (by omega)
  have := (k7 w hw).1
  rw [e5, h11]
  exact ⟨by omega, fun q => by omega⟩
theorem p_feed {p1 p2 p3 p4 p5 : Int} (hS : SC I S len) (h : CPr I br a r L n) : mmC (d + 13) 100 [mo 10 0, mv p1, mv p2, mv p3, mv p4, mv p5] (I, mmRf a br, X) (pR X S len n (d + 13) 144 [mo 11 0, mv p1, mv p2, mv p3, mv p4, mv p5]) := by
  obtain ⟨t1, t2, t3, t4, t5, t6, t7⟩ := h.2.2.2.2.1
  refine sp_feed t3 (fun c => ?_) (fun c => ?_)
  · generalize hI1 : mmU (mmUr I 900 0 (fdB (w5 p1 p2 p3 p4 p5) (I 900 0) (I 8 0 1))) 8 0 1 (I 8 0 1 + 20) = I1
    have g1 : ∀ t i k, ¬ (t = 900 ∧ i = 0) → ¬ (t = 8 ∧ i = 0 ∧ k = 1) → I1 t i k = I t i k := by
      intro t i k c1 c2
      rw [← hI1]
      unfold mmU mmUr
      rw [if_neg c2, if_neg c1]
    have e900 : I1 900 0 = fdB (w5 p1 p2 p3 p4 p5) (I 900 0) (I 8 0 1) := by
      rw [← hI1]; funext k; unfold mmU mmUr; rw [if_neg (by omega), if_pos ⟨rfl, rfl⟩]
    have e81 : I1 8 0 1 = I 8 0 1 + 20 := by rw [← hI1]; unfold mmU; rw [if_pos ⟨rfl, rfl, rfl⟩]
    have hS1 := SC_ext (I' := I1) hS (fun t i k ht => g1 _ _ _ (by omega) (by omega))
    have er : I1 11 0 1 = I 8 0 1 := (g1 _ _ _ (by omega) (by omega)).trans t2.symm
    refine ⟨_, I1, br, a, rfl, rfl, hS1, sq_feed (by rw [er]; exact t3) (fun c2 => ?_) (fun c2 => absurd c (by rw [er] at c2; exact c2))⟩
    rw [er]
    refine ⟨rfl, _, br, a, rfl, ?_⟩
    have e1200 : I1 1200 0 = I 900 0 := (funext fun k => g1 _ _ _ (by omega) (by omega)).trans t1.symm
    rw [e1200]
    generalize hI2 : mmU (mmUr (mmU I1 11 0 2 0) 1200 0 (fdB (w5 p1 p2 p3 p4 p5) (I 900 0) (I 8 0 1))) 11 0 1 (I 8 0 1 + 20) = I2
    have g2 : ∀ t i k, ¬ (t = 900 ∧ i = 0) → ¬ (t = 8 ∧ i = 0 ∧ k = 1) → ¬ (t = 11 ∧ (k = 1 ∨ k = 2)) → ¬ (t = 1200 ∧ i = 0) → I2 t i k = I t i k := by
      intro t i k c1 c2 c3 c4
      rw [← hI2]
      rw [uO (by omega), rO c4, uO (by omega)]
      exact g1 t i k c1 c2
    have f900 : I2 900 0 = fdB (w5 p1 p2 p3 p4 p5) (I 900 0) (I 8 0 1) := by
      rw [← e900, ← hI2]; funext k; rw [uO (by omega), rO (by omega), uO (by omega)]
    have f1200 : I2 1200 0 = fdB (w5 p1 p2 p3 p4 p5) (I 900 0) (I 8 0 1) := by
      rw [← hI2]; funext k; rw [uO (by omega), rS]
    have f81 : I2 8 0 1 = I 8 0 1 + 20 := by
      rw [← e81, ← hI2, uO (by omega), rO (by omega), uO (by omega)]
    have f111 : I2 11 0 1 = I 8 0 1 + 20 := by rw [← hI2]; unfold mmU; rw [if_pos ⟨rfl, rfl, rfl⟩]
    clear hI1 hI2
    obtain ⟨c1, c2', c3, c4, c5, c6, c7⟩ := h
    have hE : LE L (Lm I2) := LE_ext (fun _ _ _ => rfl) (fun f k _ => Lm_ext (fun t k ht => g2 _ _ _ (by omega) (by omega) (by omega) (by omega)) f k) c3
    refine ⟨SC_ext hS (fun t i k ht => g2 _ _ _ (by omega) (by omega) (by omega) (by omega)), r, L, CI_fr c1 (fun t i k ht h8 => g2 _ _ _ (by omega) (by omega) (by omega) (by omega)), ⟨RK_ext c2'.1 (fun k hk => g2 _ _ _ (by omega) (by omega) (by omega) (by omega)) (fun t k q1 q2 => g2 _ _ _ (by omega) (by omega) (by omega) (by omega)), c2'.2.1, ME_of hE, c2'.2.2.2⟩, hE, c4, ⟨f900.trans f1200.symm, f81.trans f111.symm, by omega, ?_, ?_, fun k hk => (g2 _ _ _ (by omega) (by omega) (by omega) (by omega)).trans (t6 k hk), BL_ext (fun t k ht => g2 _ _ _ (by omega) (by omega) (by omega) (by omega)) t7⟩, IM_ext c6 (fun t i k ht => g2 _ _ _ (by omega) (by omega) (by omega) (by omega)), ?_⟩
    · rw [g2 _ _ _ (by omega) (by omega) (by omega) (by omega), g2 _ _ _ (by omega) (by omega) (by omega) (by omega)]; exact t4
    · rw [g2 _ _ _ (by omega) (by omega) (by omega) (by omega), g2 _ _ _ (by omega) (by omega) (by omega) (by omega)]; exact t5
    · rw [g2 _ _ _ (by omega) (by omega) (by omega) (by omega)]; omega
  · refine ⟨_, I, br, a, rfl, rfl, hS, sq_feed (by rw [← t2]; exact t3) (fun c2 => absurd c2 (by rw [← t2]; exact c)) (fun c2 => ?_)⟩
    exact ⟨rfl, _, br, a, rfl, p_end2 hS h⟩
end S872
