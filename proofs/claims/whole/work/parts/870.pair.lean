/-! a call of the class and the same call of the reference -/
section S870
variable {d a D y y' : Nat} {I I1 I' I'' : mMm} {br br' : Nat → Option mmO} {X : mmX} {L : Nat → Int → Int} {r : mRu} {S : Int → Int} {len n w k v p q : Int} {z : Int} {args args' : List mmV} {Q : Option mmV → mmM → Prop}
/-- the script -/
def SC (I : mMm) (S : Int → Int) (len : Int) : Prop := I 1301 0 = S ∧ I 1302 0 0 = len
def CPx (I : mMm) (br : Nat → Option mmO) (a : Nat) (S : Int → Int) (len n : Int) : Prop := SC I S len ∧ ∃ r L, CPr I br a r L n
/-- behind the class's call: the reference answers the same, and all is well again -/
def pR (X : mmX) (S : Int → Int) (len n : Int) (D y' : Nat) (args' : List mmV) (u : Option mmV) (μ : mmM) : Prop :=
  ∃ (z : Int) (I1 : mMm) (br1 : Nat → Option mmO) (a1 : Nat), u = some (mv z) ∧ μ = (I1, mmRf a1 br1, X) ∧ SC I1 S len ∧ mmC D y' args' (I1, mmRf a1 br1, X) (fun u' μ' => u' = some (mv z) ∧ ∃ I2 br2 a2, μ' = (I2, mmRf a2 br2, X) ∧ CPx I2 br2 a2 S len (n + 1))
theorem SC_ext (h : SC I S len) (he : ∀ t i k, t = 1301 ∨ t = 1302 → I' t i k = I t i k) : SC I' S len := ⟨(funext fun k => he 1301 0 k (by omega)).trans h.1, (he _ _ _ (by omega)).trans h.2⟩
theorem CP_up (h : CPr I br a r L n) : CPr I br a r L (n + 1) := by
  obtain ⟨c1, c2, c3, c4, c5, c6, c7⟩ := h
  exact ⟨c1, c2, c3, c4, c5, c6, by omega⟩
theorem FrNq_refl' : FrNq I I := fun _ _ _ _ _ _ => rfl
theorem p_query (hS : SC I S len) (h : CPr I br a r L n) (hcl : ∀ Q, aQ I a r L X Q (mv z) → mmC D y args (I, mmRf a br, X) Q) (href : ∀ I1 br1 Q, FrG I I1 → CPr I1 br1 a r L n → bQ I1 a br1 X Q (mv z) → mmC D y' args' (I1, mmRf a br1, X) Q) : mmC D y args (I, mmRf a br, X) (pR X S len n D y' args') := by
  refine hcl _ (fun I1 b1 f1 h1 => ?_)
  have hP := CP_query h f1 h1 FrNq_refl'
  have hS1 := SC_ext (I' := I1) hS (fun t i k ht => f1 _ _ _ (by omega) (by omega) (by omega) (by omega) (by omega) (by omega) (by omega))
  refine ⟨z, I1, b1, a, rfl, rfl, hS1, href I1 b1 _ f1 hP (fun I2 f2 => ⟨rfl, I2, b1, a, rfl, SC_ext hS1 (fun t i k ht => f2 _ _ _ (by omega) (by omega) (by omega)), r, L, CP_up (CP_query h f1 h1 f2)⟩)⟩
theorem p_plies (hS : SC I S len) (h : CPr I br a r L n) : mmC (d + 13) 111 [mo 10 0, mv w] (I, mmRf a br, X) (pR X S len n (d + 13) 222 [mo 11 0, mv w]) := p_query hS h (fun Q q => c_plies h.1 q) (fun I1 b1 Q f1 h1 q => m_plies h1.2.1 q)
theorem p_row (hS : SC I S len) (h : CPr I br a r L n) : mmC (d + 13) 112 [mo 10 0, mv w, mv k] (I, mmRf a br, X) (pR X S len n (d + 13) 223 [mo 11 0, mv w, mv k]) := p_query hS h (fun Q q => c_row h.1 q) (fun I1 b1 Q f1 h1 q => m_row h1.2.1 q)
theorem p_by (hS : SC I S len) (h : CPr I br a r L n) : mmC (d + 13) 113 [mo 10 0, mv w, mv k] (I, mmRf a br, X) (pR X S len n (d + 13) 224 [mo 11 0, mv w, mv k]) := p_query hS h (fun Q q => c_by h.1 q) (fun I1 b1 Q f1 h1 q => m_by h1.2.1 q)
theorem p_at (hS : SC I S len) (h : CPr I br a r L n) : mmC (d + 13) 114 [mo 10 0, mv w, mv k] (I, mmRf a br, X) (pR X S len n (d + 13) 225 [mo 11 0, mv w, mv k]) := p_query hS h (fun Q q => c_at h.1 q) (fun I1 b1 Q f1 h1 q => m_at h1.2.1 q)
theorem p_turn (hS : SC I S len) (h : CPr I br a r L n) : mmC (d + 13) 115 [mo 10 0, mv w] (I, mmRf a br, X) (pR X S len n (d + 13) 226 [mo 11 0, mv w]) := p_query hS h (fun Q q => c_turn h.1 q) (fun I1 b1 Q f1 h1 q => m_turn h1.2.1 q)
theorem p_end (hS : SC I S len) (h : CPr I br a r L n) : mmC (d + 13) 116 [mo 10 0, mv w] (I, mmRf a br, X) (pR X S len n (d + 13) 227 [mo 11 0, mv w]) := p_query hS h (fun Q q => c_end h.1 q) (fun I1 b1 Q f1 h1 q => m_end h1.2.1 q)
theorem p_moves (hS : SC I S len) (h : CPr I br a r L n) : mmC (d + 13) 117 [mo 10 0, mv w] (I, mmRf a br, X) (pR X S len n (d + 13) 228 [mo 11 0, mv w]) := p_query hS h (fun Q q => c_moves h.1 q) (fun I1 b1 Q f1 h1 q => m_moves h1.2.1 q)
theorem p_move (hS : SC I S len) (h : CPr I br a r L n) : mmC (d + 13) 118 [mo 10 0, mv w, mv k] (I, mmRf a br, X) (pR X S len n (d + 13) 229 [mo 11 0, mv w, mv k]) := p_query hS h (fun Q q => c_move h.1 q) (fun I1 b1 Q f1 h1 q => m_move h1.2.1 q)
def pRl (X : mmX) (S : Int → Int) (len n : Int) (D y' : Nat) (args' : List mmV) (u : Option mmV) (μ : mmM) : Prop :=
  ∃ (z : Int) (I1 : mMm) (br1 : Nat → Option mmO) (a1 : Nat), u = some (ml z) ∧ μ = (I1, mmRf a1 br1, X) ∧ SC I1 S len ∧ mmC D y' args' (I1, mmRf a1 br1, X) (fun u' μ' => u' = some (ml z) ∧ ∃ I2 br2 a2, μ' = (I2, mmRf a2 br2, X) ∧ CPx I2 br2 a2 S len (n + 1))
theorem p_queryl (hS : SC I S len) (h : CPr I br a r L n) (hcl : ∀ Q, aQ I a r L X Q (ml z) → mmC D y args (I, mmRf a br, X) Q) (href : ∀ I1 br1 Q, FrG I I1 → CPr I1 br1 a r L n → bQ I1 a br1 X Q (ml z) → mmC D y' args' (I1, mmRf a br1, X) Q) : mmC D y args (I, mmRf a br, X) (pRl X S len n D y' args') := by
  refine hcl _ (fun I1 b1 f1 h1 => ?_)
  have hP := CP_query h f1 h1 FrNq_refl'
  have hS1 := SC_ext (I' := I1) hS (fun t i k ht => f1 _ _ _ (by omega) (by omega) (by omega) (by omega) (by omega) (by omega) (by omega))
  refine ⟨z, I1, b1, a, rfl, rfl, hS1, href I1 b1 _ f1 hP (fun I2 f2 => ⟨rfl, I2, b1, a, rfl, SC_ext hS1 (fun t i k ht => f2 _ _ _ (by omega) (by omega) (by omega)), r, L, CP_up (CP_query h f1 h1 f2)⟩)⟩
theorem p_law (hS : SC I S len) (h : CPr I br a r L n) : mmC (d + 13) 119 [mo 10 0, mv w, mv k] (I, mmRf a br, X) (pRl X S len n (d + 13) 230 [mo 11 0, mv w, mv k]) := p_queryl hS h (fun Q q => c_lawQ h.1 q) (fun I1 b1 Q f1 h1 q => m_lawQ h1.2.1 q)
theorem p_sure (hS : SC I S len) (h : CPr I br a r L n) : mmC (d + 13) 120 [mo 10 0, mv w, mv p, mv v, mv q] (I, mmRf a br, X) (pR X S len n (d + 13) 231 [mo 11 0, mv w, mv p, mv v, mv q]) := p_query hS h (fun Q q => c_sure h.1 q) (fun I1 b1 Q f1 h1 q => m_sure h1.2.1 q)
theorem p_games (hS : SC I S len) (h : CPr I br a r L n) : mmC (d + 13) 121 [mo 10 0, mv w, mv k] (I, mmRf a br, X) (pR X S len n (d + 13) 234 [mo 11 0, mv w, mv k]) := p_query hS h (fun Q q => c_games h.1 q) (fun I1 b1 Q f1 h1 q => m_games h1.2.1 q)
theorem p_safe (hS : SC I S len) (h : CPr I br a r L n) : mmC (d + 13) 122 [mo 10 0, mv w, mv p, mv v, mv q] (I, mmRf a br, X) (pR X S len n (d + 13) 242 [mo 11 0, mv w, mv p, mv v, mv q]) := p_query hS h (fun Q q => c_safe h.1 q) (fun I1 b1 Q f1 h1 q => m_safe h1.2.1 q)
theorem p_reply (hS : SC I S len) (h : CPr I br a r L n) : mmC (d + 13) 123 [mo 10 0, mv w, mv p, mv v, mv q] (I, mmRf a br, X) (pR X S len n (d + 13) 243 [mo 11 0, mv w, mv p, mv v, mv q]) := p_query hS h (fun Q q => c_reply h.1 q) (fun I1 b1 Q f1 h1 q => m_reply h1.2.1 q)
theorem p_refuted (hS : SC I S len) (h : CPr I br a r L n) : mmC (d + 13) 124 [mo 10 0, mv w, mv p, mv v] (I, mmRf a br, X) (pR X S len n (d + 13) 244 [mo 11 0, mv w, mv p, mv v]) := p_query hS h (fun Q q => c_refuted h.1 q) (fun I1 b1 Q f1 h1 q => m_refuted h1.2.1 q)
theorem p_fewest (hS : SC I S len) (h : CPr I br a r L n) : mmC (d + 13) 125 [mo 10 0, mv w] (I, mmRf a br, X) (pR X S len n (d + 13) 245 [mo 11 0, mv w]) := p_query hS h (fun Q q => c_fewest h.1 q) (fun I1 b1 Q f1 h1 q => m_fewest h1.2.1 q)
theorem p_whence (hS : SC I S len) (h : CPr I br a r L n) : mmC (d + 13) 110 [mo 10 0, mv w, mv k, mv q] (I, mmRf a br, X) (pR X S len n (d + 13) 221 [mo 11 0, mv w, mv k, mv q]) := p_query hS h (fun Q q => c_whence h.1 q) (fun I1 b1 Q f1 h1 q => m_whence h1.2.1 q)
theorem p_lot (hk : k < 2147483648) (hS : SC I S len) (h : CPr I br a r L n) : mmC (d + 13) 129 [mo 10 0, mv w, mv k, mv q] (I, mmRf a br, X) (pR X S len n (d + 13) 251 [mo 11 0, mv w, mv k, mv q]) := p_query hS h (fun Q q => c_lot h.1 hk q) (fun I1 b1 Q f1 h1 q => m_lot h1.2.1 hk q)
end S870
