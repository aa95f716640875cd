section S871
variable {d a D y y' : Nat} {I I1 I' I'' : mMm} {br br' : Nat → Option mmO} {X : mmX} {L : Nat → Int → Int} {r : mRu} {S : Int → Int} {len n w k v p q : Int} {z : mmV} {args args' : List mmV} {Q : Option mmV → mmM → Prop}
/-- behind a call that changes nothing but 'thrown' of the reference -/
theorem p_end2 (hS : SC I S len) (h : CPr I br a r L n) {v : Int} : CPx (mmU I 11 0 2 v) br a S len (n + 1) :=
  ⟨SC_ext hS (fun t i k ht => by unfold mmU; rw [if_neg (by omega)]), r, L, CP_up (CP_query h FrG_refl h.1 FrNq_2)⟩
theorem p_same (hS : SC I S len) (h : CPr I br a r L n) {z : Int} (hcl : ∀ Q, Q (some (mv z)) (I, mmRf a br, X) → mmC D y args (I, mmRf a br, X) Q) (href : ∀ Q, Q (some (mv z)) (mmU I 11 0 2 0, mmRf a br, X) → mmC D y' args' (I, mmRf a br, X) Q) : mmC D y args (I, mmRf a br, X) (pR X S len n D y' args') :=
  hcl _ ⟨z, I, br, a, rfl, rfl, hS, href _ ⟨rfl, _, br, a, rfl, p_end2 hS h⟩⟩
theorem CP_LW (h : CPr I br a r L n) : LW (Lc I 0) := LW_ext (fun f k hf => h.1.2.2.2.1 f k hf) h.1.2.2.2.2.1
theorem CP_LE (h : CPr I br a r L n) : LE (Lc I 0) (Lm I) := LE_ext (fun f k hf => h.1.2.2.2.1 f k hf) (fun _ _ _ => rfl) h.2.2.1
theorem CP_6 (h : CPr I br a r L n) (k : Int) : I 6 a k = r 6 k := h.1.1 6 k rt6
theorem p_fault (hS : SC I S len) (h : CPr I br a r L n) : mmC (d + 13) 102 [mo 10 0, mv w] (I, mmRf a br, X) (pR X S len n (d + 13) 169 [mo 11 0, mv w]) := by
  refine p_same hS h (fun Q q => sp_fault q) (fun Q q => sq_fault ?_)
  rw [← h.2.2.2.2.1.2.2.2.1, ← h.2.2.2.2.1.2.2.2.2.1]
  exact q
theorem fdF_ext {g g' : Int → Int} {x : Int} : ∀ (m : Nat) (i : Int), (∀ k, i ≤ k → k < i + m → g k = g' k) → fdF g x m i = fdF g' x m i
  | 0, _, _ => rfl
  | m + 1, i, h => by
    rw [fdF_s, fdF_s, h i (by omega) (by omega), fdF_ext m (i + 1) (fun k k0 k1 => h k (by omega) (by omega))]
theorem p_named (hS : SC I S len) (h : CPr I br a r L n) : mmC (d + 13) 103 [mo 10 0, mv w] (I, mmRf a br, X) (pR X S len n (d + 13) 170 [mo 11 0, mv w]) := by
  have h2 := h.2.1.1.2.2.2.2.1
  have e14 : I 11 0 14 = r 6 2 := h.2.1.1.1.1.2.2.1
  refine p_same hS h (fun Q q => sp_named (by rw [CP_6 h]; exact h2) q) (fun Q q => sq_named (by rw [e14]; exact h2) ?_)
  rw [e14, ← CP_6 h 2]
  rw [fdF_ext (g := I 1235 0) (g' := I 708 a) (I 6 a 2).toNat 0 (fun k k0 k1 => ?_)]
  · exact q
  · rw [CP_6 h 2] at k1
    have e1 : I 1235 0 k = r 708 k := (h.2.1.1.1.2.1 k k0 (by omega)).1
    rw [e1, h.1.1 708 k (rt7 (by decide))]
theorem p_post (hS : SC I S len) (h : CPr I br a r L n) : mmC (d + 13) 109 [mo 10 0, mv w, mv k] (I, mmRf a br, X) (pR X S len n (d + 13) 214 [mo 11 0, mv w, mv k]) :=
  p_same hS h (fun Q q => sp_post (CP_LW h) q) (fun Q q => sq_post (CP_LW h) (CP_LE h) q)
theorem p_count (hS : SC I S len) (h : CPr I br a r L n) : mmC (d + 13) 133 [mo 10 0, mv w] (I, mmRf a br, X) (pR X S len n (d + 13) 255 [mo 11 0, mv w]) := by
  refine p_same hS h (fun Q q => sp_count q) (fun Q q => sq_count ?_)
  have hE := CP_LE h
  obtain ⟨g0, g1, g2, g3, g4, g5, g6, g7⟩ := h.2.1.1.1.1
  have e12 : I 1 a 2 = r 1 2 := h.1.1 1 2 (Or.inr (Or.inl rfl))
  have e16 : I 11 0 16 = r 1 2 := by
    rcases h.2.1.1.2.1 with q | q
    · exact (show I 11 0 16 = 0 from q.2.2).trans q.2.1.symm
    · exact q.2.2.1
  have e : countM I w = countV I a w := by
    unfold countM countV
    rw [show I 11 0 14 = r 6 2 from g2, show I 11 0 15 = r 6 3 from g3, show I 11 0 12 = r 6 0 from g0, show I 11 0 13 = r 6 1 from g1, e16, show I 11 0 68 = I 3 0 0 from hE.1, show I 11 0 69 = I 3 0 11 from hE.2.1, show I 11 0 60 = I 3 0 14 from hE.2.2.1, show I 11 0 19 = r 6 6 from g6, CP_6 h, CP_6 h, CP_6 h, CP_6 h, CP_6 h, e12]
  rw [e]
  exact q
theorem p_clock (hS : SC I S len) (h : CPr I br a r L n) : mmC (d + 13) 126 [mo 10 0, mv p, mv w] (I, mmRf a br, X) (pR X S len n (d + 13) 247 [mo 11 0, mv p, mv w]) := by
  have e19 : I 11 0 19 = I 6 a 6 := (show I 11 0 19 = r 6 6 from h.2.1.1.1.1.2.2.2.2.2.2.1).trans (CP_6 h 6).symm
  by_cases c : (p = 0 ∨ p = 1) ∧ (w = 0 ∨ w = 1)
  · refine p_same hS h (fun Q q => sp_clock (CP_LW h) (fun q1 => absurd c q1) (fun _ _ => q)) (fun Q q => sq_clock (CP_LW h) (CP_LE h) (fun q1 => absurd c q1) (fun _ _ => ?_))
    rw [e19]
    exact q
  · exact p_same hS h (fun Q q => sp_clock (CP_LW h) (fun _ => q) (fun q1 q2 => absurd ⟨q1, q2⟩ c)) (fun Q q => sq_clock (CP_LW h) (CP_LE h) (fun _ => q) (fun q1 q2 => absurd ⟨q1, q2⟩ c))
theorem p_forged (hS : SC I S len) (h : CPr I br a r L n) : mmC (d + 13) 128 [mo 10 0] (I, mmRf a br, X) (pR X S len n (d + 13) 250 [mo 11 0]) := by
  have e17 : I 11 0 17 = I 6 a 4 := (show I 11 0 17 = r 6 4 from h.2.1.1.1.1.2.2.2.2.1).trans (CP_6 h 4).symm
  have e18 : I 11 0 18 = I 6 a 5 := (show I 11 0 18 = r 6 5 from h.2.1.1.1.1.2.2.2.2.2.1).trans (CP_6 h 5).symm
  refine sp_forged (CP_LW h) (fun m h0 h1 h2 h3 => ?_) (fun hall => ?_)
  · refine ⟨_, I, br, a, rfl, rfl, hS, sq_forged (CP_LW h) (CP_LE h) (fun m' g0 g1 g2 g3 => ?_) (fun hall => ?_)⟩
    · rw [e17, e18] at g2 g3
      have em : m' = m := by
        by_cases c1 : m' < m
        · exact absurd (h2 m' g0 c1) g3
        · by_cases c2 : m < m'
          · exact absurd (g2 m h0 c2) h3
          · omega
      rw [em]
      exact ⟨rfl, _, br, a, rfl, p_end2 hS h⟩
    · rw [e17, e18] at hall
      exact absurd (hall m h0 h1) h3
  · refine ⟨_, I, br, a, rfl, rfl, hS, sq_forged (CP_LW h) (CP_LE h) (fun m' g0 g1 g2 g3 => ?_) (fun _ => ⟨rfl, _, br, a, rfl, p_end2 hS h⟩)⟩
    rw [e17, e18] at g3
    exact absurd (hall m' g0 g1) g3
end S871
