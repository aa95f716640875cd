abbrev mMm : Type := Nat → Nat → Int → Int
/-- the references and the room are as they were -/
def mT (a : Nat) (br : Nat → Option mmO) (X : mmX) (P : Option mmV → mMm → Prop) (v : Option mmV) (w : mmM) : Prop := w.2 = (mmRf a br, X) ∧ P v w.1
theorem mT_use {d y a : Nat} {br : Nat → Option mmO} {X : mmX} {P : Option mmV → mMm → Prop} {Q : Option mmV → mmM → Prop} {args : List mmV} {μ : mmM} (h : mmC d y args μ (mT a br X P)) (hQ : ∀ v I', P v I' → Q v (I', mmRf a br, X)) : mmC d y args μ Q := by
  refine mmC_mono h (fun v w q => ?_)
  obtain ⟨I', r⟩ := w
  obtain ⟨e, q⟩ := q
  simp only at e q
  subst e
  exact hQ v I' q
theorem mT_in {a : Nat} {br : Nat → Option mmO} {X : mmX} {P : Option mmV → mMm → Prop} {v : Option mmV} {I : mMm} (h : P v I) : mT a br X P v (I, mmRf a br, X) := ⟨rfl, h⟩
/-- the tags of a class's rules -/
def rtag (t : Nat) : Prop := t = 6 ∨ t = 1 ∨ t = 200 ∨ (708 ≤ t ∧ t ≤ 715)
abbrev mRu : Type := Nat → Int → Int
def ru (r : mRu) (t : Nat) (k v : Int) (t' : Nat) (k' : Int) : Int := if t' = t ∧ k' = k then v else r t' k'
def FrC (j : Nat) (I I' : mMm) : Prop := FrT j I I' ∧ I' 8 0 1 = I 8 0 1
def CV (I : mMm) (T : Int → Int) (s p : Int) (r : mRu) (o : Int) (j : Nat) : Prop := PS I T s p ∧ I 8 0 7 = 0 ∧ I 8 0 8 = -1 ∧ I 4 0 1 = o ∧ (∀ t k, rtag t → I t j k = r t k) ∧ 0 ≤ p ∧ p ≤ s ∧ s ≤ 700
def FT (j : Nat) (I : mMm) (e : Int × Int) (I' : mMm) : Prop := FrC j I I' ∧ I' 8 0 7 = e.1 ∧ I' 8 0 8 = e.2
abbrev mPR (α : Type) : Type := (Int × Int) ⊕ α
def nmF (T : Int → Int) (s lo hi p : Int) : mPR (Int × Int) := if ¬ tkS T s p = 2 then .inl (1, skE T s p) else if lo ≤ tkV T s p ∧ tkV T s p ≤ hi then .inr (tkV T s p, tkN T s p) else .inl (2, skE T s p)
theorem FrC_refl {j : Nat} {I : mMm} : FrC j I I := ⟨FrT_refl, rfl⟩
theorem FrC_trans {j : Nat} {I I' I'' : mMm} (h : FrC j I I') (h' : FrC j I' I'') : FrC j I I'' := ⟨FrT_trans h.1 h'.1, h'.2.trans h.2⟩
theorem FT_trans {j : Nat} {I I' I'' : mMm} {e : Int × Int} (h : FrC j I I') (h' : FT j I' e I'') : FT j I e I'' := ⟨FrC_trans h h'.1, h'.2⟩
theorem FrC_8 {j : Nat} {I I' : mMm} (h : ∀ t i k, ¬ t = 8 → I' t i k = I t i k) (h1 : I' 8 0 1 = I 8 0 1) : FrC j I I' := ⟨fun t i k c => h t i k (fun q => c (Or.inl q)), h1⟩
theorem FrC_U {j t : Nat} {I : mMm} {k v : Int} (ht : rtag t) : FrC j I (mmU I t j k v) := by
  refine ⟨fun t' i k' c => ?_, ?_⟩
  · unfold mmU
    rw [if_neg]
    rintro ⟨rfl, rfl, rfl⟩
    unfold rtag at ht
    omega
  · unfold mmU
    rw [if_neg]
    unfold rtag at ht
    omega
theorem FrC_U4 {j i : Nat} {I : mMm} {k v : Int} : FrC j I (mmU I 4 i k v) := by
  refine ⟨fun t' i k' c => ?_, ?_⟩
  · unfold mmU
    rw [if_neg]
    rintro ⟨rfl, rfl, rfl⟩
    omega
  · rfl
theorem CV_U {j t : Nat} {I : mMm} {k v s p o : Int} {T : Int → Int} {r : mRu} (ht : rtag t) (h : CV I T s p r o j) : CV (mmU I t j k v) T s p (ru r t k v) o j := by
  obtain ⟨⟨h1, h2, h3, h4, h5, h6⟩, h7, h8, h9, h10, h11⟩ := h
  have e : ∀ t' i k', (t' = 8 ∨ t' = 900 ∨ t' = 4) → mmU I t j k v t' i k' = I t' i k' := by
    intro t' i k' c
    unfold mmU
    rw [if_neg]
    unfold rtag at ht
    omega
  refine ⟨⟨?_, ?_, ?_, ?_, ?_, ?_⟩, ?_, ?_, ?_, ?_, h11⟩
  · funext k'; rw [e _ _ _ (by omega), h1]
  all_goals first | (rw [e _ _ _ (by omega)]; assumption) | skip
  intro t' k' ht'
  unfold mmU ru
  by_cases c : t' = t ∧ k' = k
  · rw [if_pos ⟨c.1, rfl, c.2⟩, if_pos c]
  · rw [if_neg (fun q => c ⟨q.1, q.2.2⟩), if_neg c]
    exact h10 t' k' ht'
theorem CV_U4 {j : Nat} {I : mMm} {v s p o : Int} {T : Int → Int} {r : mRu} (h : CV I T s p r o j) : CV (mmU I 4 0 2 v) T s p r o j := by
  obtain ⟨⟨h1, h2, h3, h4, h5, h6⟩, h7, h8, h9, h10, h11⟩ := h
  refine ⟨⟨h1, h2, h3, h4, h5, h6⟩, h7, h8, h9, fun t k ht => ?_, h11⟩
  unfold mmU
  rw [if_neg]
  · exact h10 t k ht
  · unfold rtag at ht
    omega
section S57
variable {d a j : Nat} {I : mMm} {br : Nat → Option mmO} {X : mmX} {T : Int → Int} {s p o : Int} {r : mRu}
theorem c_adv (h : CV I T s p r o j) : mmC (d + 2) 93 [mo 8 0] (I, mmRf a br, X) (mT a br X fun v I' => v = none ∧ FrC j I I' ∧ CV I' T s (tkN T s p) r o j) := by
  obtain ⟨h1, h2, h3, h4, h5, h6, h7, h8⟩ := h
  have hn := tk_next (T := T) ⟨h6, h7⟩
  refine sp_advP h1 ⟨h6, h7⟩ h8 (fun I' q1 q2 q3 q4 q5 => mT_in ⟨rfl, FrC_8 q1 q2, q5, by omega, by omega, ?_, fun t k ht => ?_, by omega, by omega, h8⟩)
  · rw [q1 _ _ _ (by omega)]; exact h4
  · rw [q1 _ _ _ (by unfold rtag at ht; omega)]; exact h5 t k ht
theorem c_refuse {x : Int} (h : CV I T s p r o j) : mmC (d + 1) 90 [mo 8 0, mv x] (I, mmRf a br, X) (mT a br X fun v I' => v = some (mv 0) ∧ FT j I (x, skE T s p) I') := by
  refine sp_refuseP (fun I' q1 q2 q3 q4 => mT_in ⟨rfl, FrC_8 q1 q2, q3, q4.trans ?_⟩)
  exact h.1.2.2.2.2.2
theorem c_num {lo hi : Int} (h : CV I T s p r o j) : mmC (d + 2) 55 [mo 4 0, mo 8 0, mv lo, mv hi] (I, mmRf a br, X) (mT a br X fun v I' => (∃ e, nmF T s lo hi p = .inl e ∧ v = some (mv 0) ∧ FT j I e I') ∨ (nmF T s lo hi p = .inr (tkV T s p, tkN T s p) ∧ tkS T s p = 2 ∧ lo ≤ tkV T s p ∧ tkV T s p ≤ hi ∧ v = some (mv 1) ∧ I' = I)) := by
  refine sp_isNumber h.1 (fun c I' q1 q2 q3 q4 => mT_in (Or.inl ⟨(1, skE T s p), ?_, rfl, FrC_8 q1 q2, q3, q4⟩)) (fun c c2 I' q1 q2 q3 q4 => mT_in (Or.inl ⟨(2, skE T s p), ?_, rfl, FrC_8 q1 q2, q3, q4⟩)) (fun c c1 c2 => mT_in (Or.inr ⟨?_, c, c1, c2, rfl, rfl⟩))
  · unfold nmF; rw [if_pos c]
  · unfold nmF; rw [if_neg (fun q => q c), if_neg c2]
  · unfold nmF; rw [if_neg (fun q => q c), if_pos ⟨c1, c2⟩]
theorem c_tell {b : Int} (h : CV I T s p r o j) : mmC (d + 3) 54 [mo 4 0, mo 8 0, mv b] (I, mmRf a br, X) (mT a br X fun v I' => (¬ mmAnd o b = 0 ∧ v = some (mv 0) ∧ FT j I (3, skE T s p) I') ∨ (mmAnd o b = 0 ∧ v = some (mv 1) ∧ FrC j I I' ∧ CV I' T s (tkN T s p) r (mmOr o b) j)) := by
  have ho : I 4 0 1 = o := h.2.2.2.1
  refine mmC_in (by decide) (Nat.le_of_ble_eq_true rfl) (mmC_step ?_)
  simp only [show mmMl 54 = 3 from rfl, mmLs, List.replicate, cd_54, sg_54_0, sg_54_9, mmK_cut cd_54, q_cons, q_G0, q_GS, q_I1, q_L1, q_A1, q_S0, q_S1, q_SS, q_T0, q_T1, q_TS, q_Kn, q_Ki, q_Kl, q_Kr, q_k0, q_kS, q_rc, q_ps, q_pn, q_aload0, q_getfieldI, q_iload2, q_iand, q_if_eq, q_aload1, q_iconst, q_invV, q_ireturn1, q_dupI, q_dupA, q_ior, q_putfieldI, mmKo_4, mmKo_8, mmR32, mmR64, Option.some.injEq, Int.cast_ofNat_Int, and_true, true_and, if_true, if_false, List.length_cons, List.length_nil, Nat.le_refl, Nat.zero_le, Nat.sub_zero, forall_const, reduceCtorEq, Nat.reduceAdd, Nat.reduceSub, Nat.reduceLeDiff, Nat.reduceEqDiff, Int.reduceAdd, Int.reduceNeg, Int.reduceSub, Int.reduceLT, Int.reduceLE, Int.reduceMul, Int.reduceEq, List.drop_zero, List.drop_succ_cons, ne_eq, not_false_eq_true, not_true_eq_false, false_and, and_false, false_implies, true_implies, reduceIte, mmU_rd, implies_true, or_false, false_or, or_true, true_or]
  rw [ho]
  refine ⟨fun c => ?_, fun c => ?_⟩
  · refine mmC_step ?_
    simp only [cd_54, sg_54_0, sg_54_9, mmK_cut cd_54, q_cons, q_G0, q_GS, q_I1, q_L1, q_A1, q_S0, q_S1, q_SS, q_T0, q_T1, q_TS, q_Kn, q_Ki, q_Kl, q_Kr, q_k0, q_kS, q_rc, q_ps, q_pn, q_aload0, q_getfieldI, q_iload2, q_iand, q_if_eq, q_aload1, q_iconst, q_invV, q_ireturn1, q_dupI, q_dupA, q_ior, q_putfieldI, mmKo_4, mmKo_8, mmR32, mmR64, Option.some.injEq, Int.cast_ofNat_Int, and_true, true_and, if_true, if_false, List.length_cons, List.length_nil, Nat.le_refl, Nat.zero_le, Nat.sub_zero, forall_const, reduceCtorEq, Nat.reduceAdd, Nat.reduceSub, Nat.reduceLeDiff, Nat.reduceEqDiff, Int.reduceAdd, Int.reduceNeg, Int.reduceSub, Int.reduceLT, Int.reduceLE, Int.reduceMul, Int.reduceEq, List.drop_zero, List.drop_succ_cons, ne_eq, not_false_eq_true, not_true_eq_false, false_and, and_false, false_implies, true_implies, reduceIte, mmU_rd, implies_true, or_false, false_or, or_true, true_or]
    rw [ho]
    have h' : CV (mmU I 4 0 1 (mmOr o b)) T s p r (mmOr o b) j := by
      obtain ⟨⟨h1, h2, h3, h4, h5, h6⟩, h7, h8, h9, h10, h11⟩ := h
      refine ⟨⟨h1, h2, h3, h4, h5, h6⟩, h7, h8, rfl, fun t k ht => ?_, h11⟩
      unfold mmU
      rw [if_neg]
      · exact h10 t k ht
      · unfold rtag at ht
        omega
    refine mT_use (c_adv h') (fun v I' q => ?_)
    obtain ⟨rfl, q1, q2⟩ := q
    simp only [mmK_cut cd_54, q_cons, q_G0, q_GS, q_I1, q_L1, q_A1, q_S0, q_S1, q_SS, q_T0, q_T1, q_TS, q_Kn, q_Ki, q_Kl, q_Kr, q_k0, q_kS, q_rc, q_ps, q_pn, q_aload0, q_getfieldI, q_iload2, q_iand, q_if_eq, q_aload1, q_iconst, q_invV, q_ireturn1, q_dupI, q_dupA, q_ior, q_putfieldI, mmKo_4, mmKo_8, mmR32, mmR64, Option.some.injEq, Int.cast_ofNat_Int, and_true, true_and, if_true, if_false, List.length_cons, List.length_nil, Nat.le_refl, Nat.zero_le, Nat.sub_zero, forall_const, reduceCtorEq, Nat.reduceAdd, Nat.reduceSub, Nat.reduceLeDiff, Nat.reduceEqDiff, Int.reduceAdd, Int.reduceNeg, Int.reduceSub, Int.reduceLT, Int.reduceLE, Int.reduceMul, Int.reduceEq, List.drop_zero, List.drop_succ_cons, ne_eq, not_false_eq_true, not_true_eq_false, false_and, and_false, false_implies, true_implies, reduceIte, mmU_rd, implies_true, or_false, false_or, or_true, true_or]
    exact mT_in (Or.inr ⟨c, rfl, FrC_trans FrC_U4 q1, q2⟩)
  · refine mT_use (c_refuse h) (fun v I' q => ?_)
    obtain ⟨rfl, q1⟩ := q
    simp only [mmK_cut cd_54, q_cons, q_G0, q_GS, q_I1, q_L1, q_A1, q_S0, q_S1, q_SS, q_T0, q_T1, q_TS, q_Kn, q_Ki, q_Kl, q_Kr, q_k0, q_kS, q_rc, q_ps, q_pn, q_aload0, q_getfieldI, q_iload2, q_iand, q_if_eq, q_aload1, q_iconst, q_invV, q_ireturn1, q_dupI, q_dupA, q_ior, q_putfieldI, mmKo_4, mmKo_8, mmR32, mmR64, Option.some.injEq, Int.cast_ofNat_Int, and_true, true_and, if_true, if_false, List.length_cons, List.length_nil, Nat.le_refl, Nat.zero_le, Nat.sub_zero, forall_const, reduceCtorEq, Nat.reduceAdd, Nat.reduceSub, Nat.reduceLeDiff, Nat.reduceEqDiff, Int.reduceAdd, Int.reduceNeg, Int.reduceSub, Int.reduceLT, Int.reduceLE, Int.reduceMul, Int.reduceEq, List.drop_zero, List.drop_succ_cons, ne_eq, not_false_eq_true, not_true_eq_false, false_and, and_false, false_implies, true_implies, reduceIte, mmU_rd, implies_true, or_false, false_or, or_true, true_or]
    exact mT_in (Or.inl ⟨c, rfl, q1⟩)
end S57
