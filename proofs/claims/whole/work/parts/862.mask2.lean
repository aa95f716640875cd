section S862
variable {d a : Nat} {I I1 I' I'' : mMm} {br br' : Nat → Option mmO} {R : Nat → Nat → Int → Option mmO} {X : mmX} {L : Nat → Int → Int} {r : mRu} {w k v p n q : Int} {Q : Option mmV → mmM → Prop}
theorem mK_use {y m0 : Nat} {P : Option mmV → mMm → Prop} {ls : List (Option mmV)} {st : List mmV} {μ : mmM} (h : mmK d y (mT a br X P) m0 ls st μ) (hQ : ∀ v I', P v I' → Q v (I', mmRf a br, X)) : mmK d y Q m0 ls st μ := by
  refine mmJ.mono (mmC_cm d) (fun v w q => ?_) h
  obtain ⟨I', r⟩ := w
  obtain ⟨e, q⟩ := q
  simp only at e q
  subst e
  exact hQ v I' q
theorem m_at (hI : MI I r L) (hQ : bQ I a br X Q (mv (a_at r L w k))) : mmC (d + 11) 225 [mo 11 0, mv w, mv k] (I, mmRf a br, X) Q := by
  have hI2 := MI_N hI (FrNq_2 (v := 0))
  unfold a_at at hQ
  have w12 : ¬ (isW w ∧ 0 ≤ k ∧ k < r 6 0 * r 6 1) → mmK (d + 10) 225 Q 12 [some (mo 11 0), some (mv w), some (mv k), none] [] (mmU I 11 0 2 0, mmRf a br, X) := by
    intro c
    rw [cI_neg c] at hQ
    refine mmC_step ?_
    simp only [cd_225, sg_225_0, sg_225_12, sg_225_14, sg_225_30, sg_225_31, mmK_cut cd_225, q_cons, q_G0, q_GS, q_I1, q_L1, q_A1, q_S0, q_S1, q_SS, q_T0, q_T1, q_TS, q_Kn, q_Ki, q_Kl, q_Kr, q_k0, q_kS, q_rc, q_ps, q_pn, q_aload0, q_iconst, q_putfieldI, q_iload1, q_if_eq, q_iload2, q_if_lt, q_icmp_lt, q_ireturn0, q_getfieldA, q_getfieldI, q_iadd, q_iaload, q_istore3, q_iload3, q_if_ge, q_bipush, q_goto, rf_11_59, mmKe_1259, mmKo_11, mmLen_1259, mmR32, mmR64, Option.some.injEq, Int.cast_ofNat_Int, and_true, true_and, if_true, if_false, List.length_cons, List.length_nil, Nat.le_refl, Nat.zero_le, Nat.sub_zero, forall_const, reduceCtorEq, Nat.reduceAdd, Nat.reduceSub, Nat.reduceLeDiff, Nat.reduceEqDiff, Int.reduceAdd, Int.reduceNeg, Int.reduceSub, Int.reduceLT, Int.reduceLE, Int.reduceMul, Int.reduceEq, List.drop_zero, List.drop_succ_cons, ne_eq, not_false_eq_true, not_true_eq_false, false_and, and_false, false_implies, true_implies, reduceIte, mmU_rd, implies_true, or_false, false_or, or_true, true_or]
    exact hQ _ FrNq_2
  refine mmC_in (by decide) (Nat.le_of_ble_eq_true rfl) (mmC_step ?_)
  simp only [show mmMl 225 = 4 from rfl, mmLs, List.replicate, cd_225, sg_225_0, sg_225_12, sg_225_14, sg_225_30, sg_225_31, mmK_cut cd_225, q_cons, q_G0, q_GS, q_I1, q_L1, q_A1, q_S0, q_S1, q_SS, q_T0, q_T1, q_TS, q_Kn, q_Ki, q_Kl, q_Kr, q_k0, q_kS, q_rc, q_ps, q_pn, q_aload0, q_iconst, q_putfieldI, q_iload1, q_if_eq, q_iload2, q_if_lt, q_icmp_lt, q_ireturn0, q_getfieldA, q_getfieldI, q_iadd, q_iaload, q_istore3, q_iload3, q_if_ge, q_bipush, q_goto, rf_11_59, mmKe_1259, mmKo_11, mmLen_1259, mmR32, mmR64, Option.some.injEq, Int.cast_ofNat_Int, and_true, true_and, if_true, if_false, List.length_cons, List.length_nil, Nat.le_refl, Nat.zero_le, Nat.sub_zero, forall_const, reduceCtorEq, Nat.reduceAdd, Nat.reduceSub, Nat.reduceLeDiff, Nat.reduceEqDiff, Int.reduceAdd, Int.reduceNeg, Int.reduceSub, Int.reduceLT, Int.reduceLE, Int.reduceMul, Int.reduceEq, List.drop_zero, List.drop_succ_cons, ne_eq, not_false_eq_true, not_true_eq_false, false_and, and_false, false_implies, true_implies, reduceIte, mmU_rd, implies_true, or_false, false_or, or_true, true_or]
  rw [q_invS (pay := [])]
  simp only [q_k0, q_kS]
  refine ⟨Nat.le_of_ble_eq_true rfl, Nat.zero_le _, Nat.zero_le _, ?_⟩
  refine m_isView ?_
  simp only [mmK_cut cd_225, q_cons, q_G0, q_GS, q_I1, q_L1, q_A1, q_S0, q_S1, q_SS, q_T0, q_T1, q_TS, q_Kn, q_Ki, q_Kl, q_Kr, q_k0, q_kS, q_rc, q_ps, q_pn, q_aload0, q_iconst, q_putfieldI, q_iload1, q_if_eq, q_iload2, q_if_lt, q_icmp_lt, q_ireturn0, q_getfieldA, q_getfieldI, q_iadd, q_iaload, q_istore3, q_iload3, q_if_ge, q_bipush, q_goto, rf_11_59, mmKe_1259, mmKo_11, mmLen_1259, mmR32, mmR64, Option.some.injEq, Int.cast_ofNat_Int, and_true, true_and, if_true, if_false, List.length_cons, List.length_nil, Nat.le_refl, Nat.zero_le, Nat.sub_zero, forall_const, reduceCtorEq, Nat.reduceAdd, Nat.reduceSub, Nat.reduceLeDiff, Nat.reduceEqDiff, Int.reduceAdd, Int.reduceNeg, Int.reduceSub, Int.reduceLT, Int.reduceLE, Int.reduceMul, Int.reduceEq, List.drop_zero, List.drop_succ_cons, ne_eq, not_false_eq_true, not_true_eq_false, false_and, and_false, false_implies, true_implies, reduceIte, mmU_rd, implies_true, or_false, false_or, or_true, true_or, bI_eq0]
  refine ⟨fun c => w12 (fun q => c q.1), fun c => ⟨fun c2 => w12 (fun q => by omega), fun c2 => ?_⟩⟩
  have c := Classical.not_not.mp c
  rw [q_invV (pay := [])]
  simp only [q_k0, q_kS, q_rc, mmKo_11]
  refine ⟨Nat.le_of_ble_eq_true rfl, by trivial, Nat.zero_le _, Nat.zero_le _, ?_⟩
  refine m_points hI2.1 ?_
  simp only [mmK_cut cd_225, q_cons, q_G0, q_GS, q_I1, q_L1, q_A1, q_S0, q_S1, q_SS, q_T0, q_T1, q_TS, q_Kn, q_Ki, q_Kl, q_Kr, q_k0, q_kS, q_rc, q_ps, q_pn, q_aload0, q_iconst, q_putfieldI, q_iload1, q_if_eq, q_iload2, q_if_lt, q_icmp_lt, q_ireturn0, q_getfieldA, q_getfieldI, q_iadd, q_iaload, q_istore3, q_iload3, q_if_ge, q_bipush, q_goto, rf_11_59, mmKe_1259, mmKo_11, mmLen_1259, mmR32, mmR64, Option.some.injEq, Int.cast_ofNat_Int, and_true, true_and, if_true, if_false, List.length_cons, List.length_nil, Nat.le_refl, Nat.zero_le, Nat.sub_zero, forall_const, reduceCtorEq, Nat.reduceAdd, Nat.reduceSub, Nat.reduceLeDiff, Nat.reduceEqDiff, Int.reduceAdd, Int.reduceNeg, Int.reduceSub, Int.reduceLT, Int.reduceLE, Int.reduceMul, Int.reduceEq, List.drop_zero, List.drop_succ_cons, ne_eq, not_false_eq_true, not_true_eq_false, false_and, and_false, false_implies, true_implies, reduceIte, mmU_rd, implies_true, or_false, false_or, or_true, true_or]
  refine ⟨fun c3 => ?_, fun c3 => w12 (fun q => by have := q.2.2; omega)⟩
  rw [cI_pos ⟨c, c2, c3⟩] at hQ
  refine mmC_step ?_
  simp only [cd_225, sg_225_0, sg_225_12, sg_225_14, sg_225_30, sg_225_31, mmK_cut cd_225, q_cons, q_G0, q_GS, q_I1, q_L1, q_A1, q_S0, q_S1, q_SS, q_T0, q_T1, q_TS, q_Kn, q_Ki, q_Kl, q_Kr, q_k0, q_kS, q_rc, q_ps, q_pn, q_aload0, q_iconst, q_putfieldI, q_iload1, q_if_eq, q_iload2, q_if_lt, q_icmp_lt, q_ireturn0, q_getfieldA, q_getfieldI, q_iadd, q_iaload, q_istore3, q_iload3, q_if_ge, q_bipush, q_goto, rf_11_59, mmKe_1259, mmKo_11, mmLen_1259, mmR32, mmR64, Option.some.injEq, Int.cast_ofNat_Int, and_true, true_and, if_true, if_false, List.length_cons, List.length_nil, Nat.le_refl, Nat.zero_le, Nat.sub_zero, forall_const, reduceCtorEq, Nat.reduceAdd, Nat.reduceSub, Nat.reduceLeDiff, Nat.reduceEqDiff, Int.reduceAdd, Int.reduceNeg, Int.reduceSub, Int.reduceLT, Int.reduceLE, Int.reduceMul, Int.reduceEq, List.drop_zero, List.drop_succ_cons, ne_eq, not_false_eq_true, not_true_eq_false, false_and, and_false, false_implies, true_implies, reduceIte, mmU_rd, implies_true, or_false, false_or, or_true, true_or]
  rw [q_invV (pay := [])]
  simp only [q_k0, q_kS, q_rc, mmKo_11]
  refine ⟨Nat.le_of_ble_eq_true rfl, by trivial, Nat.zero_le _, Nat.zero_le _, ?_⟩
  refine mT_use (m_layRowQ c hI2) (fun u I1 q => ?_)
  obtain ⟨rfl, f1, h1, hR⟩ := q
  have f2 := FrNq_trans (FrNq_2 (I := I) (v := 0)) f1
  obtain ⟨hq, hB, hN, hlen⟩ := vI h1 w
  have h25 := (pt_in hq.1.1 hq.1.2.1 (x := 0) (y := 0) (by have := hq.1.1; omega) (by have := hq.1.2.1; omega)).2.2.1
  have hv := hB.1 k c2 (by omega)
  simp only [mmK_cut cd_225, q_cons, q_G0, q_GS, q_I1, q_L1, q_A1, q_S0, q_S1, q_SS, q_T0, q_T1, q_TS, q_Kn, q_Ki, q_Kl, q_Kr, q_k0, q_kS, q_rc, q_ps, q_pn, q_aload0, q_iconst, q_putfieldI, q_iload1, q_if_eq, q_iload2, q_if_lt, q_icmp_lt, q_ireturn0, q_getfieldA, q_getfieldI, q_iadd, q_iaload, q_istore3, q_iload3, q_if_ge, q_bipush, q_goto, rf_11_59, mmKe_1259, mmKo_11, mmLen_1259, mmR32, mmR64, Option.some.injEq, Int.cast_ofNat_Int, and_true, true_and, if_true, if_false, List.length_cons, List.length_nil, Nat.le_refl, Nat.zero_le, Nat.sub_zero, forall_const, reduceCtorEq, Nat.reduceAdd, Nat.reduceSub, Nat.reduceLeDiff, Nat.reduceEqDiff, Int.reduceAdd, Int.reduceNeg, Int.reduceSub, Int.reduceLT, Int.reduceLE, Int.reduceMul, Int.reduceEq, List.drop_zero, List.drop_succ_cons, ne_eq, not_false_eq_true, not_true_eq_false, false_and, and_false, false_implies, true_implies, reduceIte, mmU_rd, implies_true, or_false, false_or, or_true, true_or]
  rw [q_invS (pay := [])]
  simp only [q_k0, q_kS]
  refine ⟨Nat.le_of_ble_eq_true rfl, Nat.zero_le _, Nat.zero_le _, ?_⟩
  rw [VR_N hR]
  refine sq_base (by omega) ?_
  simp only [mmK_cut cd_225, q_cons, q_G0, q_GS, q_I1, q_L1, q_A1, q_S0, q_S1, q_SS, q_T0, q_T1, q_TS, q_Kn, q_Ki, q_Kl, q_Kr, q_k0, q_kS, q_rc, q_ps, q_pn, q_aload0, q_iconst, q_putfieldI, q_iload1, q_if_eq, q_iload2, q_if_lt, q_icmp_lt, q_ireturn0, q_getfieldA, q_getfieldI, q_iadd, q_iaload, q_istore3, q_iload3, q_if_ge, q_bipush, q_goto, rf_11_59, mmKe_1259, mmKo_11, mmLen_1259, mmR32, mmR64, Option.some.injEq, Int.cast_ofNat_Int, and_true, true_and, if_true, if_false, List.length_cons, List.length_nil, Nat.le_refl, Nat.zero_le, Nat.sub_zero, forall_const, reduceCtorEq, Nat.reduceAdd, Nat.reduceSub, Nat.reduceLeDiff, Nat.reduceEqDiff, Int.reduceAdd, Int.reduceNeg, Int.reduceSub, Int.reduceLT, Int.reduceLE, Int.reduceMul, Int.reduceEq, List.drop_zero, List.drop_succ_cons, ne_eq, not_false_eq_true, not_true_eq_false, false_and, and_false, false_implies, true_implies, reduceIte, mmU_rd, implies_true, or_false, false_or, or_true, true_or]
  rw [VR_B hR hN.1 k c2 (by omega)]
  refine ⟨by omega, by omega, by omega, fun c4 => ?_, fun c4 => ?_⟩
  · have em : mB (vB r L w k) = vB r L w k := by
      unfold mB at c4 ⊢
      split
      · rename_i q; rw [if_pos q] at c4; omega
      · rfl
    refine mmC_step ?_
    simp only [cd_225, sg_225_0, sg_225_12, sg_225_14, sg_225_30, sg_225_31, mmK_cut cd_225, q_cons, q_G0, q_GS, q_I1, q_L1, q_A1, q_S0, q_S1, q_SS, q_T0, q_T1, q_TS, q_Kn, q_Ki, q_Kl, q_Kr, q_k0, q_kS, q_rc, q_ps, q_pn, q_aload0, q_iconst, q_putfieldI, q_iload1, q_if_eq, q_iload2, q_if_lt, q_icmp_lt, q_ireturn0, q_getfieldA, q_getfieldI, q_iadd, q_iaload, q_istore3, q_iload3, q_if_ge, q_bipush, q_goto, rf_11_59, mmKe_1259, mmKo_11, mmLen_1259, mmR32, mmR64, Option.some.injEq, Int.cast_ofNat_Int, and_true, true_and, if_true, if_false, List.length_cons, List.length_nil, Nat.le_refl, Nat.zero_le, Nat.sub_zero, forall_const, reduceCtorEq, Nat.reduceAdd, Nat.reduceSub, Nat.reduceLeDiff, Nat.reduceEqDiff, Int.reduceAdd, Int.reduceNeg, Int.reduceSub, Int.reduceLT, Int.reduceLE, Int.reduceMul, Int.reduceEq, List.drop_zero, List.drop_succ_cons, ne_eq, not_false_eq_true, not_true_eq_false, false_and, and_false, false_implies, true_implies, reduceIte, mmU_rd, implies_true, or_false, false_or, or_true, true_or]
    refine mmC_step ?_
    simp only [cd_225, sg_225_0, sg_225_12, sg_225_14, sg_225_30, sg_225_31, mmK_cut cd_225, q_cons, q_G0, q_GS, q_I1, q_L1, q_A1, q_S0, q_S1, q_SS, q_T0, q_T1, q_TS, q_Kn, q_Ki, q_Kl, q_Kr, q_k0, q_kS, q_rc, q_ps, q_pn, q_aload0, q_iconst, q_putfieldI, q_iload1, q_if_eq, q_iload2, q_if_lt, q_icmp_lt, q_ireturn0, q_getfieldA, q_getfieldI, q_iadd, q_iaload, q_istore3, q_iload3, q_if_ge, q_bipush, q_goto, rf_11_59, mmKe_1259, mmKo_11, mmLen_1259, mmR32, mmR64, Option.some.injEq, Int.cast_ofNat_Int, and_true, true_and, if_true, if_false, List.length_cons, List.length_nil, Nat.le_refl, Nat.zero_le, Nat.sub_zero, forall_const, reduceCtorEq, Nat.reduceAdd, Nat.reduceSub, Nat.reduceLeDiff, Nat.reduceEqDiff, Int.reduceAdd, Int.reduceNeg, Int.reduceSub, Int.reduceLT, Int.reduceLE, Int.reduceMul, Int.reduceEq, List.drop_zero, List.drop_succ_cons, ne_eq, not_false_eq_true, not_true_eq_false, false_and, and_false, false_implies, true_implies, reduceIte, mmU_rd, implies_true, or_false, false_or, or_true, true_or]
    rw [em]
    exact hQ I1 f2
  · have em : vB r L w k = -2 := by
      unfold mB at c4
      split at c4 <;> omega
    rw [em] at hQ
    refine mmC_step ?_
    simp only [cd_225, sg_225_0, sg_225_12, sg_225_14, sg_225_30, sg_225_31, mmK_cut cd_225, q_cons, q_G0, q_GS, q_I1, q_L1, q_A1, q_S0, q_S1, q_SS, q_T0, q_T1, q_TS, q_Kn, q_Ki, q_Kl, q_Kr, q_k0, q_kS, q_rc, q_ps, q_pn, q_aload0, q_iconst, q_putfieldI, q_iload1, q_if_eq, q_iload2, q_if_lt, q_icmp_lt, q_ireturn0, q_getfieldA, q_getfieldI, q_iadd, q_iaload, q_istore3, q_iload3, q_if_ge, q_bipush, q_goto, rf_11_59, mmKe_1259, mmKo_11, mmLen_1259, mmR32, mmR64, Option.some.injEq, Int.cast_ofNat_Int, and_true, true_and, if_true, if_false, List.length_cons, List.length_nil, Nat.le_refl, Nat.zero_le, Nat.sub_zero, forall_const, reduceCtorEq, Nat.reduceAdd, Nat.reduceSub, Nat.reduceLeDiff, Nat.reduceEqDiff, Int.reduceAdd, Int.reduceNeg, Int.reduceSub, Int.reduceLT, Int.reduceLE, Int.reduceMul, Int.reduceEq, List.drop_zero, List.drop_succ_cons, ne_eq, not_false_eq_true, not_true_eq_false, false_and, and_false, false_implies, true_implies, reduceIte, mmU_rd, implies_true, or_false, false_or, or_true, true_or]
    exact hQ I1 f2
theorem lm_0 {fr to : Int} {B : mBd} {m : Int} (h : r 1 2 = 0) : lmV r B m fr to = -9223372036854775808 := by
  have hf : ∀ (p : Int) (q : Nat) (far e : Int), e = -9223372036854775808 → lfV r B m fr to p q far e = -9223372036854775808 := by
    intro p q
    induction q with
    | zero => intro far e he; exact he
    | succ q ih =>
      intro far e he
      rw [lf_s, lwV_0 h]
      by_cases c : far * r 712 p = to % r 6 0 - fr % r 6 0 ∧ far * r 713 p = to / r 6 0 - fr / r 6 0
      · rw [cI_pos c]
      · rw [cI_neg c]; exact ih (far + 1) e he
  have hs : ∀ (c : Nat) (s : Int), lsV r B m fr to c s = -9223372036854775808 := by
    intro c
    induction c with
    | zero => intro s; rfl
    | succ c ih => intro s; rw [ls_s]; exact hf _ _ _ _ (ih (s + 1))
  unfold lmV
  rw [hs]
  by_cases c : ((0 ≤ fr ∧ fr < r 6 0 * r 6 1) ∧ (0 ≤ to ∧ to < r 6 0 * r 6 1)) ∧ B fr / 4 = m % 2
  · rw [cI_pos c]
  · rw [cI_neg c]
theorem m_lawQ (hI : MI I r L) (hQ : bQ I a br X Q (ml (a_law r L w v))) : mmC (d + 11) 230 [mo 11 0, mv w, mv v] (I, mmRf a br, X) Q := by
  have hI2 := MI_N hI (FrNq_2 (v := 0))
  unfold a_law at hQ
  have w12 : a_law r L w v = -9223372036854775808 → mmK (d + 10) 230 Q 12 [some (mo 11 0), some (mv w), some (mv v), none, none, none, none, none, none, none] [] (mmU I 11 0 2 0, mmRf a br, X) := by
    intro c
    unfold a_law at c
    rw [c] at hQ
    refine mmC_step ?_
    simp only [cd_230, sg_230_0, sg_230_12, sg_230_14, sg_230_43, sg_230_45, sg_230_60, sg_230_72, sg_230_85, sg_230_106, sg_230_107, sg_230_108, sg_230_110, sg_230_112, mmK_cut cd_230, q_cons, q_G0, q_GS, q_I1, q_L1, q_A1, q_S0, q_S1, q_SS, q_T0, q_T1, q_TS, q_Kn, q_Ki, q_Kl, q_Kr, q_k0, q_kS, q_rc, q_ps, q_pn, q_aload0, q_iconst, q_putfieldI, q_iload1, q_if_eq, q_getfieldZ, q_iload2, q_if_ne, q_ldc2_w, q_lreturn, q_bipush, q_idiv, q_istore3, q_irem, q_istore, q_iload3, q_icmp_ge, q_iload, q_getfieldI, q_getfieldA, q_iadd, q_iaload, q_imul, q_icmp_gt, q_icmp_eq, q_goto, q_lstore, q_lload, q_iinc, rf_11_38, rf_11_59, mmKe_1238, mmKe_1259, mmKo_11, mmLen_1238, mmLen_1259, mmR32, mmR64, Option.some.injEq, Int.cast_ofNat_Int, and_true, true_and, if_true, if_false, List.length_cons, List.length_nil, Nat.le_refl, Nat.zero_le, Nat.sub_zero, forall_const, reduceCtorEq, Nat.reduceAdd, Nat.reduceSub, Nat.reduceLeDiff, Nat.reduceEqDiff, Int.reduceAdd, Int.reduceNeg, Int.reduceSub, Int.reduceLT, Int.reduceLE, Int.reduceMul, Int.reduceEq, List.drop_zero, List.drop_succ_cons, ne_eq, not_false_eq_true, not_true_eq_false, false_and, and_false, false_implies, true_implies, reduceIte, mmU_rd, implies_true, or_false, false_or, or_true, true_or]
    exact hQ _ FrNq_2
  refine mmC_in (by decide) (Nat.le_of_ble_eq_true rfl) (mmC_step ?_)
  simp only [show mmMl 230 = 10 from rfl, mmLs, List.replicate, cd_230, sg_230_0, sg_230_12, sg_230_14, sg_230_43, sg_230_45, sg_230_60, sg_230_72, sg_230_85, sg_230_106, sg_230_107, sg_230_108, sg_230_110, sg_230_112, mmK_cut cd_230, q_cons, q_G0, q_GS, q_I1, q_L1, q_A1, q_S0, q_S1, q_SS, q_T0, q_T1, q_TS, q_Kn, q_Ki, q_Kl, q_Kr, q_k0, q_kS, q_rc, q_ps, q_pn, q_aload0, q_iconst, q_putfieldI, q_iload1, q_if_eq, q_getfieldZ, q_iload2, q_if_ne, q_ldc2_w, q_lreturn, q_bipush, q_idiv, q_istore3, q_irem, q_istore, q_iload3, q_icmp_ge, q_iload, q_getfieldI, q_getfieldA, q_iadd, q_iaload, q_imul, q_icmp_gt, q_icmp_eq, q_goto, q_lstore, q_lload, q_iinc, rf_11_38, rf_11_59, mmKe_1238, mmKe_1259, mmKo_11, mmLen_1238, mmLen_1259, mmR32, mmR64, Option.some.injEq, Int.cast_ofNat_Int, and_true, true_and, if_true, if_false, List.length_cons, List.length_nil, Nat.le_refl, Nat.zero_le, Nat.sub_zero, forall_const, reduceCtorEq, Nat.reduceAdd, Nat.reduceSub, Nat.reduceLeDiff, Nat.reduceEqDiff, Int.reduceAdd, Int.reduceNeg, Int.reduceSub, Int.reduceLT, Int.reduceLE, Int.reduceMul, Int.reduceEq, List.drop_zero, List.drop_succ_cons, ne_eq, not_false_eq_true, not_true_eq_false, false_and, and_false, false_implies, true_implies, reduceIte, mmU_rd, implies_true, or_false, false_or, or_true, true_or]
  rw [q_invS (pay := [])]
  simp only [q_k0, q_kS]
  refine ⟨Nat.le_of_ble_eq_true rfl, Nat.zero_le _, Nat.zero_le _, ?_⟩
  refine m_isView ?_
  simp only [mmK_cut cd_230, q_cons, q_G0, q_GS, q_I1, q_L1, q_A1, q_S0, q_S1, q_SS, q_T0, q_T1, q_TS, q_Kn, q_Ki, q_Kl, q_Kr, q_k0, q_kS, q_rc, q_ps, q_pn, q_aload0, q_iconst, q_putfieldI, q_iload1, q_if_eq, q_getfieldZ, q_iload2, q_if_ne, q_ldc2_w, q_lreturn, q_bipush, q_idiv, q_istore3, q_irem, q_istore, q_iload3, q_icmp_ge, q_iload, q_getfieldI, q_getfieldA, q_iadd, q_iaload, q_imul, q_icmp_gt, q_icmp_eq, q_goto, q_lstore, q_lload, q_iinc, rf_11_38, rf_11_59, mmKe_1238, mmKe_1259, mmKo_11, mmLen_1238, mmLen_1259, mmR32, mmR64, Option.some.injEq, Int.cast_ofNat_Int, and_true, true_and, if_true, if_false, List.length_cons, List.length_nil, Nat.le_refl, Nat.zero_le, Nat.sub_zero, forall_const, reduceCtorEq, Nat.reduceAdd, Nat.reduceSub, Nat.reduceLeDiff, Nat.reduceEqDiff, Int.reduceAdd, Int.reduceNeg, Int.reduceSub, Int.reduceLT, Int.reduceLE, Int.reduceMul, Int.reduceEq, List.drop_zero, List.drop_succ_cons, ne_eq, not_false_eq_true, not_true_eq_false, false_and, and_false, false_implies, true_implies, reduceIte, mmU_rd, implies_true, or_false, false_or, or_true, true_or, bI_eq0]
  refine ⟨fun c => w12 (by unfold a_law; rw [cI_neg (fun q => c q.1)]), fun c => ⟨fun ct => w12 ?_, fun ct => ?_⟩⟩
  · have h0 : r 1 2 = 0 := by
      rcases hI.1.2.1 with q | q
      · exact q.2.1
      · have : I 11 0 21 = 1 := q.1
        rw [show I 11 0 21 = 0 from ct] at this; omega
    unfold a_law
    rw [lm_0 h0]
    by_cases cc : isW w ∧ 0 ≤ v ∧ v ≤ 4095
    · rw [cI_pos cc]
    · rw [cI_neg cc]
  · have c := Classical.not_not.mp c
    rw [q_invS (pay := [])]
    simp only [q_k0, q_kS]
    refine ⟨Nat.le_of_ble_eq_true rfl, Nat.zero_le _, Nat.zero_le _, ?_⟩
    refine sq_isMove ?_
    simp only [mmK_cut cd_230, q_cons, q_G0, q_GS, q_I1, q_L1, q_A1, q_S0, q_S1, q_SS, q_T0, q_T1, q_TS, q_Kn, q_Ki, q_Kl, q_Kr, q_k0, q_kS, q_rc, q_ps, q_pn, q_aload0, q_iconst, q_putfieldI, q_iload1, q_if_eq, q_getfieldZ, q_iload2, q_if_ne, q_ldc2_w, q_lreturn, q_bipush, q_idiv, q_istore3, q_irem, q_istore, q_iload3, q_icmp_ge, q_iload, q_getfieldI, q_getfieldA, q_iadd, q_iaload, q_imul, q_icmp_gt, q_icmp_eq, q_goto, q_lstore, q_lload, q_iinc, rf_11_38, rf_11_59, mmKe_1238, mmKe_1259, mmKo_11, mmLen_1238, mmLen_1259, mmR32, mmR64, Option.some.injEq, Int.cast_ofNat_Int, and_true, true_and, if_true, if_false, List.length_cons, List.length_nil, Nat.le_refl, Nat.zero_le, Nat.sub_zero, forall_const, reduceCtorEq, Nat.reduceAdd, Nat.reduceSub, Nat.reduceLeDiff, Nat.reduceEqDiff, Int.reduceAdd, Int.reduceNeg, Int.reduceSub, Int.reduceLT, Int.reduceLE, Int.reduceMul, Int.reduceEq, List.drop_zero, List.drop_succ_cons, ne_eq, not_false_eq_true, not_true_eq_false, false_and, and_false, false_implies, true_implies, reduceIte, mmU_rd, implies_true, or_false, false_or, or_true, true_or, bI_eq0]
    refine ⟨fun c2 => ?_, fun c2 => w12 (by unfold a_law; rw [cI_neg (fun q => c2 q.2)])⟩
    have c2 := Classical.not_not.mp c2
    clear w12
    rw [cI_pos ⟨c, c2⟩] at hQ
    refine mmC_step ?_
    simp only [cd_230, sg_230_0, sg_230_12, sg_230_14, sg_230_43, sg_230_45, sg_230_60, sg_230_72, sg_230_85, sg_230_106, sg_230_107, sg_230_108, sg_230_110, sg_230_112, mmK_cut cd_230, q_cons, q_G0, q_GS, q_I1, q_L1, q_A1, q_S0, q_S1, q_SS, q_T0, q_T1, q_TS, q_Kn, q_Ki, q_Kl, q_Kr, q_k0, q_kS, q_rc, q_ps, q_pn, q_aload0, q_iconst, q_putfieldI, q_iload1, q_if_eq, q_getfieldZ, q_iload2, q_if_ne, q_ldc2_w, q_lreturn, q_bipush, q_idiv, q_istore3, q_irem, q_istore, q_iload3, q_icmp_ge, q_iload, q_getfieldI, q_getfieldA, q_iadd, q_iaload, q_imul, q_icmp_gt, q_icmp_eq, q_goto, q_lstore, q_lload, q_iinc, rf_11_38, rf_11_59, mmKe_1238, mmKe_1259, mmKo_11, mmLen_1238, mmLen_1259, mmR32, mmR64, Option.some.injEq, Int.cast_ofNat_Int, and_true, true_and, if_true, if_false, List.length_cons, List.length_nil, Nat.le_refl, Nat.zero_le, Nat.sub_zero, forall_const, reduceCtorEq, Nat.reduceAdd, Nat.reduceSub, Nat.reduceLeDiff, Nat.reduceEqDiff, Int.reduceAdd, Int.reduceNeg, Int.reduceSub, Int.reduceLT, Int.reduceLE, Int.reduceMul, Int.reduceEq, List.drop_zero, List.drop_succ_cons, ne_eq, not_false_eq_true, not_true_eq_false, false_and, and_false, false_implies, true_implies, reduceIte, mmU_rd, implies_true, or_false, false_or, or_true, true_or]
    rw [q_invV (pay := [])]
    simp only [q_k0, q_kS, q_rc, mmKo_11]
    refine ⟨Nat.le_of_ble_eq_true rfl, by trivial, Nat.zero_le _, Nat.zero_le _, ?_⟩
    refine mT_use (m_layRowQ c hI2) (fun u I1 q => ?_)
    obtain ⟨rfl, f1, h1, hR⟩ := q
    have f2 := FrNq_trans (FrNq_2 (I := I) (v := 0)) f1
    obtain ⟨hq, hB, hN, hlen⟩ := vI h1 w
    have h25 := (pt_in hq.1.1 hq.1.2.1 (x := 0) (y := 0) (by have := hq.1.1; omega) (by have := hq.1.2.1; omega)).2.2.1
    have ht1 : I1 11 0 21 = 1 := by
      rcases h1.1.2.1 with q | q
      · have e : I1 11 0 21 = 0 := q.1
        rw [f2 _ _ _ (by omega) (by omega) (by omega)] at e
        exact absurd e ct
      · exact q.1
    simp only [mmK_cut cd_230, q_cons, q_G0, q_GS, q_I1, q_L1, q_A1, q_S0, q_S1, q_SS, q_T0, q_T1, q_TS, q_Kn, q_Ki, q_Kl, q_Kr, q_k0, q_kS, q_rc, q_ps, q_pn, q_aload0, q_iconst, q_putfieldI, q_iload1, q_if_eq, q_getfieldZ, q_iload2, q_if_ne, q_ldc2_w, q_lreturn, q_bipush, q_idiv, q_istore3, q_irem, q_istore, q_iload3, q_icmp_ge, q_iload, q_getfieldI, q_getfieldA, q_iadd, q_iaload, q_imul, q_icmp_gt, q_icmp_eq, q_goto, q_lstore, q_lload, q_iinc, rf_11_38, rf_11_59, mmKe_1238, mmKe_1259, mmKo_11, mmLen_1238, mmLen_1259, mmR32, mmR64, Option.some.injEq, Int.cast_ofNat_Int, and_true, true_and, if_true, if_false, List.length_cons, List.length_nil, Nat.le_refl, Nat.zero_le, Nat.sub_zero, forall_const, reduceCtorEq, Nat.reduceAdd, Nat.reduceSub, Nat.reduceLeDiff, Nat.reduceEqDiff, Int.reduceAdd, Int.reduceNeg, Int.reduceSub, Int.reduceLT, Int.reduceLE, Int.reduceMul, Int.reduceEq, List.drop_zero, List.drop_succ_cons, ne_eq, not_false_eq_true, not_true_eq_false, false_and, and_false, false_implies, true_implies, reduceIte, mmU_rd, implies_true, or_false, false_or, or_true, true_or]
    have hv1 : v / 64 * 64 + v % 64 = v := by omega
    have hv2 : 0 ≤ v / 64 ∧ v / 64 < 64 := by omega
    have hv3 : 0 ≤ v % 64 ∧ v % 64 < 64 := by omega
    generalize v / 64 = fr at *
    generalize v % 64 = to at *
    have w43 : ¬ (((0 ≤ fr ∧ fr < r 6 0 * r 6 1) ∧ (0 ≤ to ∧ to < r 6 0 * r 6 1)) ∧ vB r L w fr / 4 = vN r L w % 2) → mmK (d + 10) 230 Q 43 [some (mo 11 0), some (mv w), some (mv v), some (mv fr), some (mv to), none, none, none, none, none] [] (I1, mmRf a br, X) := by
      intro cc
      unfold lmV at hQ
      rw [cI_neg cc] at hQ
      refine mmC_step ?_
      simp only [cd_230, sg_230_0, sg_230_12, sg_230_14, sg_230_43, sg_230_45, sg_230_60, sg_230_72, sg_230_85, sg_230_106, sg_230_107, sg_230_108, sg_230_110, sg_230_112, mmK_cut cd_230, q_cons, q_G0, q_GS, q_I1, q_L1, q_A1, q_S0, q_S1, q_SS, q_T0, q_T1, q_TS, q_Kn, q_Ki, q_Kl, q_Kr, q_k0, q_kS, q_rc, q_ps, q_pn, q_aload0, q_iconst, q_putfieldI, q_iload1, q_if_eq, q_getfieldZ, q_iload2, q_if_ne, q_ldc2_w, q_lreturn, q_bipush, q_idiv, q_istore3, q_irem, q_istore, q_iload3, q_icmp_ge, q_iload, q_getfieldI, q_getfieldA, q_iadd, q_iaload, q_imul, q_icmp_gt, q_icmp_eq, q_goto, q_lstore, q_lload, q_iinc, rf_11_38, rf_11_59, mmKe_1238, mmKe_1259, mmKo_11, mmLen_1238, mmLen_1259, mmR32, mmR64, Option.some.injEq, Int.cast_ofNat_Int, and_true, true_and, if_true, if_false, List.length_cons, List.length_nil, Nat.le_refl, Nat.zero_le, Nat.sub_zero, forall_const, reduceCtorEq, Nat.reduceAdd, Nat.reduceSub, Nat.reduceLeDiff, Nat.reduceEqDiff, Int.reduceAdd, Int.reduceNeg, Int.reduceSub, Int.reduceLT, Int.reduceLE, Int.reduceMul, Int.reduceEq, List.drop_zero, List.drop_succ_cons, ne_eq, not_false_eq_true, not_true_eq_false, false_and, and_false, false_implies, true_implies, reduceIte, mmU_rd, implies_true, or_false, false_or, or_true, true_or]
      exact hQ I1 f2
    refine ⟨c2.1, c2.1, ?_⟩
    rw [q_invV (pay := [])]
    simp only [q_k0, q_kS, q_rc, mmKo_11]
    refine ⟨Nat.le_of_ble_eq_true rfl, by trivial, Nat.zero_le _, Nat.zero_le _, ?_⟩
    refine m_points h1.1 ?_
    simp only [mmK_cut cd_230, q_cons, q_G0, q_GS, q_I1, q_L1, q_A1, q_S0, q_S1, q_SS, q_T0, q_T1, q_TS, q_Kn, q_Ki, q_Kl, q_Kr, q_k0, q_kS, q_rc, q_ps, q_pn, q_aload0, q_iconst, q_putfieldI, q_iload1, q_if_eq, q_getfieldZ, q_iload2, q_if_ne, q_ldc2_w, q_lreturn, q_bipush, q_idiv, q_istore3, q_irem, q_istore, q_iload3, q_icmp_ge, q_iload, q_getfieldI, q_getfieldA, q_iadd, q_iaload, q_imul, q_icmp_gt, q_icmp_eq, q_goto, q_lstore, q_lload, q_iinc, rf_11_38, rf_11_59, mmKe_1238, mmKe_1259, mmKo_11, mmLen_1238, mmLen_1259, mmR32, mmR64, Option.some.injEq, Int.cast_ofNat_Int, and_true, true_and, if_true, if_false, List.length_cons, List.length_nil, Nat.le_refl, Nat.zero_le, Nat.sub_zero, forall_const, reduceCtorEq, Nat.reduceAdd, Nat.reduceSub, Nat.reduceLeDiff, Nat.reduceEqDiff, Int.reduceAdd, Int.reduceNeg, Int.reduceSub, Int.reduceLT, Int.reduceLE, Int.reduceMul, Int.reduceEq, List.drop_zero, List.drop_succ_cons, ne_eq, not_false_eq_true, not_true_eq_false, false_and, and_false, false_implies, true_implies, reduceIte, mmU_rd, implies_true, or_false, false_or, or_true, true_or]
    refine ⟨fun c3 => w43 (by omega), fun c3 => ?_⟩
    rw [q_invV (pay := [])]
    simp only [q_k0, q_kS, q_rc, mmKo_11]
    refine ⟨Nat.le_of_ble_eq_true rfl, by trivial, Nat.zero_le _, Nat.zero_le _, ?_⟩
    refine m_points h1.1 ?_
    simp only [mmK_cut cd_230, q_cons, q_G0, q_GS, q_I1, q_L1, q_A1, q_S0, q_S1, q_SS, q_T0, q_T1, q_TS, q_Kn, q_Ki, q_Kl, q_Kr, q_k0, q_kS, q_rc, q_ps, q_pn, q_aload0, q_iconst, q_putfieldI, q_iload1, q_if_eq, q_getfieldZ, q_iload2, q_if_ne, q_ldc2_w, q_lreturn, q_bipush, q_idiv, q_istore3, q_irem, q_istore, q_iload3, q_icmp_ge, q_iload, q_getfieldI, q_getfieldA, q_iadd, q_iaload, q_imul, q_icmp_gt, q_icmp_eq, q_goto, q_lstore, q_lload, q_iinc, rf_11_38, rf_11_59, mmKe_1238, mmKe_1259, mmKo_11, mmLen_1238, mmLen_1259, mmR32, mmR64, Option.some.injEq, Int.cast_ofNat_Int, and_true, true_and, if_true, if_false, List.length_cons, List.length_nil, Nat.le_refl, Nat.zero_le, Nat.sub_zero, forall_const, reduceCtorEq, Nat.reduceAdd, Nat.reduceSub, Nat.reduceLeDiff, Nat.reduceEqDiff, Int.reduceAdd, Int.reduceNeg, Int.reduceSub, Int.reduceLT, Int.reduceLE, Int.reduceMul, Int.reduceEq, List.drop_zero, List.drop_succ_cons, ne_eq, not_false_eq_true, not_true_eq_false, false_and, and_false, false_implies, true_implies, reduceIte, mmU_rd, implies_true, or_false, false_or, or_true, true_or]
    rw [VR_N hR]
    refine ⟨fun c4 => w43 (by omega), fun c4 => ⟨hN.1, ?_⟩⟩
    rw [q_invV (pay := [])]
    simp only [q_k0, q_kS, q_rc, mmKo_11]
    refine ⟨Nat.le_of_ble_eq_true rfl, by trivial, Nat.zero_le _, Nat.zero_le _, ?_⟩
    refine m_isOwn (VR_B hR hN.1) hB ⟨hN.1, by omega⟩ ⟨hv2.1, by omega⟩ (by omega) ?_
    simp only [mmK_cut cd_230, q_cons, q_G0, q_GS, q_I1, q_L1, q_A1, q_S0, q_S1, q_SS, q_T0, q_T1, q_TS, q_Kn, q_Ki, q_Kl, q_Kr, q_k0, q_kS, q_rc, q_ps, q_pn, q_aload0, q_iconst, q_putfieldI, q_iload1, q_if_eq, q_getfieldZ, q_iload2, q_if_ne, q_ldc2_w, q_lreturn, q_bipush, q_idiv, q_istore3, q_irem, q_istore, q_iload3, q_icmp_ge, q_iload, q_getfieldI, q_getfieldA, q_iadd, q_iaload, q_imul, q_icmp_gt, q_icmp_eq, q_goto, q_lstore, q_lload, q_iinc, rf_11_38, rf_11_59, mmKe_1238, mmKe_1259, mmKo_11, mmLen_1238, mmLen_1259, mmR32, mmR64, Option.some.injEq, Int.cast_ofNat_Int, and_true, true_and, if_true, if_false, List.length_cons, List.length_nil, Nat.le_refl, Nat.zero_le, Nat.sub_zero, forall_const, reduceCtorEq, Nat.reduceAdd, Nat.reduceSub, Nat.reduceLeDiff, Nat.reduceEqDiff, Int.reduceAdd, Int.reduceNeg, Int.reduceSub, Int.reduceLT, Int.reduceLE, Int.reduceMul, Int.reduceEq, List.drop_zero, List.drop_succ_cons, ne_eq, not_false_eq_true, not_true_eq_false, false_and, and_false, false_implies, true_implies, reduceIte, mmU_rd, implies_true, or_false, false_or, or_true, true_or, bI_eq0]
    refine ⟨fun c5 => ?_, fun c5 => w43 (fun q => c5 q.2)⟩
    have c5 := Classical.not_not.mp c5
    have ho := own_in hB (show 0 ≤ fr ∧ fr < 25 by omega) c5
    have hl : lmV r (vB r L w) (vN r L w) fr to = lsV r (vB r L w) (vN r L w) fr to (r 711 (vB r L w fr % 4)).toNat 0 := by
      unfold lmV; rw [cI_pos ⟨⟨⟨hv2.1, c3⟩, ⟨hv3.1, c4⟩⟩, c5⟩]
    rw [hl] at hQ
    refine mK_use (m_lawS h1.1 ht1 (VR_N hR) (VR_B hR hN.1) hB hN ⟨hv2.1, by omega⟩ ho.1 ho.2 ⟨hv3.1, c4⟩) (fun u I2 q2 => ?_)
    obtain ⟨rfl, f3⟩ := q2
    exact hQ I2 (FrNq_trans f2 (FrNq_L (FrLy_W f3)))
end S862
