/-- the tokens stand at p -/
def PS (I : Nat → Nat → Int → Int) (T : Int → Int) (s p : Int) : Prop := I 900 0 = T ∧ I 8 0 2 = s ∧ I 8 0 3 = tkN T s p ∧ I 8 0 4 = tkS T s p ∧ I 8 0 5 = tkV T s p ∧ I 8 0 6 = skE T s p
/-- what reading a text may change -/
def FrT (j : Nat) (I I' : Nat → Nat → Int → Int) : Prop := ∀ t i k, ¬ (t = 8 ∨ t = 4 ∨ t = 2 ∨ (300 ≤ t ∧ t < 400) ∨ (i = j ∧ (t = 6 ∨ t = 1 ∨ (700 ≤ t ∧ t < 800) ∨ (200 ≤ t ∧ t < 300)))) → I' t i k = I t i k
theorem FrT_refl {j : Nat} {I : Nat → Nat → Int → Int} : FrT j I I := fun _ _ _ _ => rfl
theorem FrT_trans {j : Nat} {I I' I'' : Nat → Nat → Int → Int} (h : FrT j I I') (h' : FrT j I' I'') : FrT j I I'' := fun t i k c => (h' t i k c).trans (h t i k c)
section S56
variable {d a j : Nat} {I : Nat → Nat → Int → Int} {br : Nat → Option mmO} {X : mmX} {Q : Option mmV → mmM → Prop} {T : Int → Int} {s p : Int}
theorem sp_advP (h : PS I T s p) (hp : 0 ≤ p ∧ p ≤ s) (hs : s ≤ 700) (hQ : ∀ I', (∀ t i k, ¬ t = 8 → I' t i k = I t i k) → I' 8 0 1 = I 8 0 1 → I' 8 0 7 = I 8 0 7 → I' 8 0 8 = I 8 0 8 → PS I' T s (tkN T s p) → Q none (I', mmRf a br, X)) : mmC (d + 2) 93 [mo 8 0] (I, mmRf a br, X) Q := by
  obtain ⟨hT, h2, h3, h4, h5, h6⟩ := h
  have hn := tk_next (T := T) hp
  have e : I = mmUr I 8 0 (tkG (I 8 0) (tkN T s p) (tkS T s p) (tkV T s p) (skE T s p)) := by
    have : tkG (I 8 0) (tkN T s p) (tkS T s p) (tkV T s p) (skE T s p) = I 8 0 := by
      funext k
      unfold tkG
      split
      · rename_i c; rw [c, h3]
      split
      · rename_i c; rw [c, h4]
      split
      · rename_i c; rw [c, h5]
      split
      · rename_i c; rw [c, h6]
      rfl
    rw [this, mmUr_self]
  subst hT
  subst h2
  rw [e]
  refine sp_advance (by omega) hs ?_
  refine hQ _ (fun t i k c => ?_) rfl rfl rfl ⟨rfl, rfl, rfl, rfl, rfl, rfl⟩
  unfold mmUr
  rw [if_neg (fun q => c q.1)]
theorem sp_refuseP {x : Int} (hQ : ∀ I', (∀ t i k, ¬ t = 8 → I' t i k = I t i k) → I' 8 0 1 = I 8 0 1 → I' 8 0 7 = x → I' 8 0 8 = I 8 0 6 → Q (some (mv 0)) (I', mmRf a br, X)) : mmC (d + 1) 90 [mo 8 0, mv x] (I, mmRf a br, X) Q := by
  refine mmC_in (by decide) (Nat.le_of_ble_eq_true rfl) (mmC_step ?_)
  simp only [show mmMl 90 = 2 from rfl, mmLs, List.replicate, cd_90, sg_90_0, mmK_cut cd_90, q_cons, q_G0, q_GS, q_I1, q_L1, q_A1, q_S0, q_S1, q_SS, q_T0, q_T1, q_TS, q_Kn, q_Ki, q_Kl, q_Kr, q_k0, q_kS, q_rc, q_ps, q_pn, q_aload0, q_iload1, q_putfieldI, q_getfieldI, q_iconst, q_ireturn1, mmKo_8, mmR32, mmR64, Option.some.injEq, Int.cast_ofNat_Int, and_true, true_and, if_true, if_false, List.length_cons, List.length_nil, Nat.le_refl, Nat.zero_le, Nat.sub_zero, forall_const, reduceCtorEq, Nat.reduceAdd, Nat.reduceSub, Nat.reduceLeDiff, Nat.reduceEqDiff, Int.reduceAdd, Int.reduceNeg, Int.reduceSub, Int.reduceLT, Int.reduceLE, Int.reduceMul, Int.reduceEq, List.drop_zero, List.drop_succ_cons, ne_eq, not_false_eq_true, not_true_eq_false, false_and, and_false, false_implies, true_implies, reduceIte, mmU_rd, implies_true, or_false, false_or, or_true, true_or]
  refine hQ _ (fun t i k c => ?_) rfl rfl rfl
  unfold mmU
  rw [if_neg (fun q => c q.1), if_neg (fun q => c q.1)]
theorem sp_isNumber {lo hi : Int} (h : PS I T s p) (hF1 : ¬ tkS T s p = 2 → ∀ I', (∀ t i k, ¬ t = 8 → I' t i k = I t i k) → I' 8 0 1 = I 8 0 1 → I' 8 0 7 = 1 → I' 8 0 8 = skE T s p → Q (some (mv 0)) (I', mmRf a br, X)) (hF2 : tkS T s p = 2 → ¬ (lo ≤ tkV T s p ∧ tkV T s p ≤ hi) → ∀ I', (∀ t i k, ¬ t = 8 → I' t i k = I t i k) → I' 8 0 1 = I 8 0 1 → I' 8 0 7 = 2 → I' 8 0 8 = skE T s p → Q (some (mv 0)) (I', mmRf a br, X)) (hK : tkS T s p = 2 → lo ≤ tkV T s p → tkV T s p ≤ hi → Q (some (mv 1)) (I, mmRf a br, X)) : mmC (d + 2) 55 [mo 4 j, mo 8 0, mv lo, mv hi] (I, mmRf a br, X) Q := by
  obtain ⟨hT, h2, h3, h4, h5, h6⟩ := h
  have w16 : tkS T s p = 2 → ¬ (lo ≤ tkV T s p ∧ tkV T s p ≤ hi) → mmK (d + 1) 55 Q 16 [some (mo 4 j), some (mo 8 0), some (mv lo), some (mv hi)] [] (I, mmRf a br, X) := by
    intro g1 g2
    refine mmC_step ?_
    simp only [cd_55, sg_55_0, sg_55_8, sg_55_16, sg_55_20, sg_55_22, sg_55_23, mmK_cut cd_55, q_cons, q_G0, q_GS, q_I1, q_L1, q_A1, q_S0, q_S1, q_SS, q_T0, q_T1, q_TS, q_Kn, q_Ki, q_Kl, q_Kr, q_k0, q_kS, q_rc, q_ps, q_pn, q_aload1, q_getfieldI, q_iconst, q_icmp_eq, q_invV, q_ireturn1, q_iload2, q_icmp_lt, q_iload3, q_icmp_le, q_if_eq, q_goto, mmKo_8, mmR32, mmR64, Option.some.injEq, Int.cast_ofNat_Int, and_true, true_and, if_true, if_false, List.length_cons, List.length_nil, Nat.le_refl, Nat.zero_le, Nat.sub_zero, forall_const, reduceCtorEq, Nat.reduceAdd, Nat.reduceSub, Nat.reduceLeDiff, Nat.reduceEqDiff, Int.reduceAdd, Int.reduceNeg, Int.reduceSub, Int.reduceLT, Int.reduceLE, Int.reduceMul, Int.reduceEq, List.drop_zero, List.drop_succ_cons, ne_eq, not_false_eq_true, not_true_eq_false, false_and, and_false, false_implies, true_implies, reduceIte, mmU_rd, implies_true, or_false, false_or, or_true, true_or]
    refine sp_refuseP (fun I' q1 q2 q3 q4 => ?_)
    simp only [mmK_cut cd_55, q_cons, q_G0, q_GS, q_I1, q_L1, q_A1, q_S0, q_S1, q_SS, q_T0, q_T1, q_TS, q_Kn, q_Ki, q_Kl, q_Kr, q_k0, q_kS, q_rc, q_ps, q_pn, q_aload1, q_getfieldI, q_iconst, q_icmp_eq, q_invV, q_ireturn1, q_iload2, q_icmp_lt, q_iload3, q_icmp_le, q_if_eq, q_goto, mmKo_8, mmR32, mmR64, Option.some.injEq, Int.cast_ofNat_Int, and_true, true_and, if_true, if_false, List.length_cons, List.length_nil, Nat.le_refl, Nat.zero_le, Nat.sub_zero, forall_const, reduceCtorEq, Nat.reduceAdd, Nat.reduceSub, Nat.reduceLeDiff, Nat.reduceEqDiff, Int.reduceAdd, Int.reduceNeg, Int.reduceSub, Int.reduceLT, Int.reduceLE, Int.reduceMul, Int.reduceEq, List.drop_zero, List.drop_succ_cons, ne_eq, not_false_eq_true, not_true_eq_false, false_and, and_false, false_implies, true_implies, reduceIte, mmU_rd, implies_true, or_false, false_or, or_true, true_or]
    refine mmC_step ?_
    simp only [cd_55, sg_55_0, sg_55_8, sg_55_16, sg_55_20, sg_55_22, sg_55_23, mmK_cut cd_55, q_cons, q_G0, q_GS, q_I1, q_L1, q_A1, q_S0, q_S1, q_SS, q_T0, q_T1, q_TS, q_Kn, q_Ki, q_Kl, q_Kr, q_k0, q_kS, q_rc, q_ps, q_pn, q_aload1, q_getfieldI, q_iconst, q_icmp_eq, q_invV, q_ireturn1, q_iload2, q_icmp_lt, q_iload3, q_icmp_le, q_if_eq, q_goto, mmKo_8, mmR32, mmR64, Option.some.injEq, Int.cast_ofNat_Int, and_true, true_and, if_true, if_false, List.length_cons, List.length_nil, Nat.le_refl, Nat.zero_le, Nat.sub_zero, forall_const, reduceCtorEq, Nat.reduceAdd, Nat.reduceSub, Nat.reduceLeDiff, Nat.reduceEqDiff, Int.reduceAdd, Int.reduceNeg, Int.reduceSub, Int.reduceLT, Int.reduceLE, Int.reduceMul, Int.reduceEq, List.drop_zero, List.drop_succ_cons, ne_eq, not_false_eq_true, not_true_eq_false, false_and, and_false, false_implies, true_implies, reduceIte, mmU_rd, implies_true, or_false, false_or, or_true, true_or]
    refine mmC_step ?_
    simp only [cd_55, sg_55_0, sg_55_8, sg_55_16, sg_55_20, sg_55_22, sg_55_23, mmK_cut cd_55, q_cons, q_G0, q_GS, q_I1, q_L1, q_A1, q_S0, q_S1, q_SS, q_T0, q_T1, q_TS, q_Kn, q_Ki, q_Kl, q_Kr, q_k0, q_kS, q_rc, q_ps, q_pn, q_aload1, q_getfieldI, q_iconst, q_icmp_eq, q_invV, q_ireturn1, q_iload2, q_icmp_lt, q_iload3, q_icmp_le, q_if_eq, q_goto, mmKo_8, mmR32, mmR64, Option.some.injEq, Int.cast_ofNat_Int, and_true, true_and, if_true, if_false, List.length_cons, List.length_nil, Nat.le_refl, Nat.zero_le, Nat.sub_zero, forall_const, reduceCtorEq, Nat.reduceAdd, Nat.reduceSub, Nat.reduceLeDiff, Nat.reduceEqDiff, Int.reduceAdd, Int.reduceNeg, Int.reduceSub, Int.reduceLT, Int.reduceLE, Int.reduceMul, Int.reduceEq, List.drop_zero, List.drop_succ_cons, ne_eq, not_false_eq_true, not_true_eq_false, false_and, and_false, false_implies, true_implies, reduceIte, mmU_rd, implies_true, or_false, false_or, or_true, true_or]
    exact hF2 g1 g2 I' q1 q2 q3 (q4.trans h6)
  refine mmC_in (by decide) (Nat.le_of_ble_eq_true rfl) (mmC_step ?_)
  simp only [show mmMl 55 = 4 from rfl, mmLs, List.replicate, cd_55, sg_55_0, sg_55_8, sg_55_16, sg_55_20, sg_55_22, sg_55_23, mmK_cut cd_55, q_cons, q_G0, q_GS, q_I1, q_L1, q_A1, q_S0, q_S1, q_SS, q_T0, q_T1, q_TS, q_Kn, q_Ki, q_Kl, q_Kr, q_k0, q_kS, q_rc, q_ps, q_pn, q_aload1, q_getfieldI, q_iconst, q_icmp_eq, q_invV, q_ireturn1, q_iload2, q_icmp_lt, q_iload3, q_icmp_le, q_if_eq, q_goto, mmKo_8, mmR32, mmR64, Option.some.injEq, Int.cast_ofNat_Int, and_true, true_and, if_true, if_false, List.length_cons, List.length_nil, Nat.le_refl, Nat.zero_le, Nat.sub_zero, forall_const, reduceCtorEq, Nat.reduceAdd, Nat.reduceSub, Nat.reduceLeDiff, Nat.reduceEqDiff, Int.reduceAdd, Int.reduceNeg, Int.reduceSub, Int.reduceLT, Int.reduceLE, Int.reduceMul, Int.reduceEq, List.drop_zero, List.drop_succ_cons, ne_eq, not_false_eq_true, not_true_eq_false, false_and, and_false, false_implies, true_implies, reduceIte, mmU_rd, implies_true, or_false, false_or, or_true, true_or]
  refine ⟨fun c => ?_, fun c => ?_⟩
  · refine mmC_step ?_
    simp only [cd_55, sg_55_0, sg_55_8, sg_55_16, sg_55_20, sg_55_22, sg_55_23, mmK_cut cd_55, q_cons, q_G0, q_GS, q_I1, q_L1, q_A1, q_S0, q_S1, q_SS, q_T0, q_T1, q_TS, q_Kn, q_Ki, q_Kl, q_Kr, q_k0, q_kS, q_rc, q_ps, q_pn, q_aload1, q_getfieldI, q_iconst, q_icmp_eq, q_invV, q_ireturn1, q_iload2, q_icmp_lt, q_iload3, q_icmp_le, q_if_eq, q_goto, mmKo_8, mmR32, mmR64, Option.some.injEq, Int.cast_ofNat_Int, and_true, true_and, if_true, if_false, List.length_cons, List.length_nil, Nat.le_refl, Nat.zero_le, Nat.sub_zero, forall_const, reduceCtorEq, Nat.reduceAdd, Nat.reduceSub, Nat.reduceLeDiff, Nat.reduceEqDiff, Int.reduceAdd, Int.reduceNeg, Int.reduceSub, Int.reduceLT, Int.reduceLE, Int.reduceMul, Int.reduceEq, List.drop_zero, List.drop_succ_cons, ne_eq, not_false_eq_true, not_true_eq_false, false_and, and_false, false_implies, true_implies, reduceIte, mmU_rd, implies_true, or_false, false_or, or_true, true_or]
    refine ⟨fun c2 => w16 (by omega) (by omega), fun c2 => ⟨fun c3 => ?_, fun c3 => w16 (by omega) (by omega)⟩⟩
    refine mmC_step ?_
    simp only [cd_55, sg_55_0, sg_55_8, sg_55_16, sg_55_20, sg_55_22, sg_55_23, mmK_cut cd_55, q_cons, q_G0, q_GS, q_I1, q_L1, q_A1, q_S0, q_S1, q_SS, q_T0, q_T1, q_TS, q_Kn, q_Ki, q_Kl, q_Kr, q_k0, q_kS, q_rc, q_ps, q_pn, q_aload1, q_getfieldI, q_iconst, q_icmp_eq, q_invV, q_ireturn1, q_iload2, q_icmp_lt, q_iload3, q_icmp_le, q_if_eq, q_goto, mmKo_8, mmR32, mmR64, Option.some.injEq, Int.cast_ofNat_Int, and_true, true_and, if_true, if_false, List.length_cons, List.length_nil, Nat.le_refl, Nat.zero_le, Nat.sub_zero, forall_const, reduceCtorEq, Nat.reduceAdd, Nat.reduceSub, Nat.reduceLeDiff, Nat.reduceEqDiff, Int.reduceAdd, Int.reduceNeg, Int.reduceSub, Int.reduceLT, Int.reduceLE, Int.reduceMul, Int.reduceEq, List.drop_zero, List.drop_succ_cons, ne_eq, not_false_eq_true, not_true_eq_false, false_and, and_false, false_implies, true_implies, reduceIte, mmU_rd, implies_true, or_false, false_or, or_true, true_or]
    refine mmC_step ?_
    simp only [cd_55, sg_55_0, sg_55_8, sg_55_16, sg_55_20, sg_55_22, sg_55_23, mmK_cut cd_55, q_cons, q_G0, q_GS, q_I1, q_L1, q_A1, q_S0, q_S1, q_SS, q_T0, q_T1, q_TS, q_Kn, q_Ki, q_Kl, q_Kr, q_k0, q_kS, q_rc, q_ps, q_pn, q_aload1, q_getfieldI, q_iconst, q_icmp_eq, q_invV, q_ireturn1, q_iload2, q_icmp_lt, q_iload3, q_icmp_le, q_if_eq, q_goto, mmKo_8, mmR32, mmR64, Option.some.injEq, Int.cast_ofNat_Int, and_true, true_and, if_true, if_false, List.length_cons, List.length_nil, Nat.le_refl, Nat.zero_le, Nat.sub_zero, forall_const, reduceCtorEq, Nat.reduceAdd, Nat.reduceSub, Nat.reduceLeDiff, Nat.reduceEqDiff, Int.reduceAdd, Int.reduceNeg, Int.reduceSub, Int.reduceLT, Int.reduceLE, Int.reduceMul, Int.reduceEq, List.drop_zero, List.drop_succ_cons, ne_eq, not_false_eq_true, not_true_eq_false, false_and, and_false, false_implies, true_implies, reduceIte, mmU_rd, implies_true, or_false, false_or, or_true, true_or]
    exact hK (by omega) (by omega) (by omega)
  · refine sp_refuseP (fun I' q1 q2 q3 q4 => ?_)
    simp only [mmK_cut cd_55, q_cons, q_G0, q_GS, q_I1, q_L1, q_A1, q_S0, q_S1, q_SS, q_T0, q_T1, q_TS, q_Kn, q_Ki, q_Kl, q_Kr, q_k0, q_kS, q_rc, q_ps, q_pn, q_aload1, q_getfieldI, q_iconst, q_icmp_eq, q_invV, q_ireturn1, q_iload2, q_icmp_lt, q_iload3, q_icmp_le, q_if_eq, q_goto, mmKo_8, mmR32, mmR64, Option.some.injEq, Int.cast_ofNat_Int, and_true, true_and, if_true, if_false, List.length_cons, List.length_nil, Nat.le_refl, Nat.zero_le, Nat.sub_zero, forall_const, reduceCtorEq, Nat.reduceAdd, Nat.reduceSub, Nat.reduceLeDiff, Nat.reduceEqDiff, Int.reduceAdd, Int.reduceNeg, Int.reduceSub, Int.reduceLT, Int.reduceLE, Int.reduceMul, Int.reduceEq, List.drop_zero, List.drop_succ_cons, ne_eq, not_false_eq_true, not_true_eq_false, false_and, and_false, false_implies, true_implies, reduceIte, mmU_rd, implies_true, or_false, false_or, or_true, true_or]
    exact hF1 (by omega) I' q1 q2 q3 (q4.trans h6)
end S56
