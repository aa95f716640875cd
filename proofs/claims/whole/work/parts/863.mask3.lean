section S863
variable {d a : Nat} {I I1 I' I'' : mMm} {br br' : Nat → Option mmO} {R : Nat → Nat → Int → Option mmO} {X : mmX} {L : Nat → Int → Int} {r : mRu} {w k v p n q : Int} {Q : Option mmV → mmM → Prop}
theorem vE_0 (h : vE r L w = 0) (hN : 0 ≤ vN r L w) : ¬ lsP r (vB r L w) (vN r L w) := by
  intro q
  unfold vB at q
  unfold vE enV at h
  rw [cI_pos q] at h
  omega
theorem m_games (hI : MI I r L) (hQ : bQ I a br X Q (mv (a_games r L w n))) : mmC (d + 11) 234 [mo 11 0, mv w, mv n] (I, mmRf a br, X) Q := by
  have hI2 := MI_N hI (FrNq_2 (v := 0))
  unfold a_games at hQ
  have w11 : ¬ (isW w ∧ 0 ≤ n ∧ n ≤ 3) → mmK (d + 10) 234 Q 11 [some (mo 11 0), some (mv w), some (mv n)] [] (mmU I 11 0 2 0, mmRf a br, X) := by
    intro c
    rw [cI_neg c] at hQ
    refine mmC_step ?_
    simp only [cd_234, sg_234_0, sg_234_11, sg_234_13, sg_234_20, sg_234_25, sg_234_30, mmK_cut cd_234, q_cons, q_G0, q_GS, q_I1, q_L1, q_A1, q_S0, q_S1, q_SS, q_T0, q_T1, q_TS, q_Kn, q_Ki, q_Kl, q_Kr, q_k0, q_kS, q_rc, q_ps, q_pn, q_aload0, q_iconst, q_putfieldI, q_iload1, q_if_eq, q_iload2, q_if_ne, q_ireturn0, q_goto, q_getfieldI, mmKo_11, mmR32, mmR64, Option.some.injEq, Int.cast_ofNat_Int, and_true, true_and, if_true, if_false, List.length_cons, List.length_nil, Nat.le_refl, Nat.zero_le, Nat.sub_zero, forall_const, reduceCtorEq, Nat.reduceAdd, Nat.reduceSub, Nat.reduceLeDiff, Nat.reduceEqDiff, Int.reduceAdd, Int.reduceNeg, Int.reduceSub, Int.reduceLT, Int.reduceLE, Int.reduceMul, Int.reduceEq, List.drop_zero, List.drop_succ_cons, ne_eq, not_false_eq_true, not_true_eq_false, false_and, and_false, false_implies, true_implies, reduceIte, mmU_rd, implies_true, or_false, false_or, or_true, true_or]
    exact hQ _ FrNq_2
  refine mmC_in (by decide) (Nat.le_of_ble_eq_true rfl) (mmC_step ?_)
  simp only [show mmMl 234 = 3 from rfl, mmLs, List.replicate, cd_234, sg_234_0, sg_234_11, sg_234_13, sg_234_20, sg_234_25, sg_234_30, mmK_cut cd_234, q_cons, q_G0, q_GS, q_I1, q_L1, q_A1, q_S0, q_S1, q_SS, q_T0, q_T1, q_TS, q_Kn, q_Ki, q_Kl, q_Kr, q_k0, q_kS, q_rc, q_ps, q_pn, q_aload0, q_iconst, q_putfieldI, q_iload1, q_if_eq, q_iload2, q_if_ne, q_ireturn0, q_goto, q_getfieldI, mmKo_11, mmR32, mmR64, Option.some.injEq, Int.cast_ofNat_Int, and_true, true_and, if_true, if_false, List.length_cons, List.length_nil, Nat.le_refl, Nat.zero_le, Nat.sub_zero, forall_const, reduceCtorEq, Nat.reduceAdd, Nat.reduceSub, Nat.reduceLeDiff, Nat.reduceEqDiff, Int.reduceAdd, Int.reduceNeg, Int.reduceSub, Int.reduceLT, Int.reduceLE, Int.reduceMul, Int.reduceEq, List.drop_zero, List.drop_succ_cons, ne_eq, not_false_eq_true, not_true_eq_false, false_and, and_false, false_implies, true_implies, reduceIte, mmU_rd, implies_true, or_false, false_or, or_true, true_or]
  rw [q_invS (pay := [])]
  simp only [q_k0, q_kS]
  refine ⟨Nat.le_of_ble_eq_true rfl, Nat.zero_le _, Nat.zero_le _, ?_⟩
  refine m_isView ?_
  simp only [mmK_cut cd_234, q_cons, q_G0, q_GS, q_I1, q_L1, q_A1, q_S0, q_S1, q_SS, q_T0, q_T1, q_TS, q_Kn, q_Ki, q_Kl, q_Kr, q_k0, q_kS, q_rc, q_ps, q_pn, q_aload0, q_iconst, q_putfieldI, q_iload1, q_if_eq, q_iload2, q_if_ne, q_ireturn0, q_goto, q_getfieldI, mmKo_11, mmR32, mmR64, Option.some.injEq, Int.cast_ofNat_Int, and_true, true_and, if_true, if_false, List.length_cons, List.length_nil, Nat.le_refl, Nat.zero_le, Nat.sub_zero, forall_const, reduceCtorEq, Nat.reduceAdd, Nat.reduceSub, Nat.reduceLeDiff, Nat.reduceEqDiff, Int.reduceAdd, Int.reduceNeg, Int.reduceSub, Int.reduceLT, Int.reduceLE, Int.reduceMul, Int.reduceEq, List.drop_zero, List.drop_succ_cons, ne_eq, not_false_eq_true, not_true_eq_false, false_and, and_false, false_implies, true_implies, reduceIte, mmU_rd, implies_true, or_false, false_or, or_true, true_or, bI_eq0]
  refine ⟨fun c => w11 (fun q => c q.1), fun c => ?_⟩
  have c := Classical.not_not.mp c
  rw [q_invS (pay := [])]
  simp only [q_k0, q_kS]
  refine ⟨Nat.le_of_ble_eq_true rfl, Nat.zero_le _, Nat.zero_le _, ?_⟩
  refine sq_isIn ?_
  simp only [mmK_cut cd_234, q_cons, q_G0, q_GS, q_I1, q_L1, q_A1, q_S0, q_S1, q_SS, q_T0, q_T1, q_TS, q_Kn, q_Ki, q_Kl, q_Kr, q_k0, q_kS, q_rc, q_ps, q_pn, q_aload0, q_iconst, q_putfieldI, q_iload1, q_if_eq, q_iload2, q_if_ne, q_ireturn0, q_goto, q_getfieldI, mmKo_11, mmR32, mmR64, Option.some.injEq, Int.cast_ofNat_Int, and_true, true_and, if_true, if_false, List.length_cons, List.length_nil, Nat.le_refl, Nat.zero_le, Nat.sub_zero, forall_const, reduceCtorEq, Nat.reduceAdd, Nat.reduceSub, Nat.reduceLeDiff, Nat.reduceEqDiff, Int.reduceAdd, Int.reduceNeg, Int.reduceSub, Int.reduceLT, Int.reduceLE, Int.reduceMul, Int.reduceEq, List.drop_zero, List.drop_succ_cons, ne_eq, not_false_eq_true, not_true_eq_false, false_and, and_false, false_implies, true_implies, reduceIte, mmU_rd, implies_true, or_false, false_or, or_true, true_or, bI_eq0]
  refine ⟨fun c2 => ?_, fun c2 => w11 (fun q => c2 q.2)⟩
  have c2 := Classical.not_not.mp c2
  obtain ⟨n, rfl⟩ := Int.eq_ofNat_of_zero_le c2.1
  rw [cI_pos ⟨c, c2⟩, Int.toNat_natCast] at hQ
  clear w11
  refine mmC_step ?_
  simp only [cd_234, sg_234_0, sg_234_11, sg_234_13, sg_234_20, sg_234_25, sg_234_30, mmK_cut cd_234, q_cons, q_G0, q_GS, q_I1, q_L1, q_A1, q_S0, q_S1, q_SS, q_T0, q_T1, q_TS, q_Kn, q_Ki, q_Kl, q_Kr, q_k0, q_kS, q_rc, q_ps, q_pn, q_aload0, q_iconst, q_putfieldI, q_iload1, q_if_eq, q_iload2, q_if_ne, q_ireturn0, q_goto, q_getfieldI, mmKo_11, mmR32, mmR64, Option.some.injEq, Int.cast_ofNat_Int, and_true, true_and, if_true, if_false, List.length_cons, List.length_nil, Nat.le_refl, Nat.zero_le, Nat.sub_zero, forall_const, reduceCtorEq, Nat.reduceAdd, Nat.reduceSub, Nat.reduceLeDiff, Nat.reduceEqDiff, Int.reduceAdd, Int.reduceNeg, Int.reduceSub, Int.reduceLT, Int.reduceLE, Int.reduceMul, Int.reduceEq, List.drop_zero, List.drop_succ_cons, ne_eq, not_false_eq_true, not_true_eq_false, false_and, and_false, false_implies, true_implies, reduceIte, mmU_rd, implies_true, or_false, false_or, or_true, true_or]
  rw [q_invV (pay := [])]
  simp only [q_k0, q_kS, q_rc, mmKo_11]
  refine ⟨Nat.le_of_ble_eq_true rfl, by trivial, Nat.zero_le _, Nat.zero_le _, ?_⟩
  refine mT_use (m_layRowQ c hI2) (fun u I1 q => ?_)
  obtain ⟨rfl, f1, h1, hR⟩ := q
  have f2 := FrNq_trans (FrNq_2 (I := I) (v := 0)) f1
  obtain ⟨hq, hB, hN, hlen⟩ := vI h1 w
  simp only [mmK_cut cd_234, q_cons, q_G0, q_GS, q_I1, q_L1, q_A1, q_S0, q_S1, q_SS, q_T0, q_T1, q_TS, q_Kn, q_Ki, q_Kl, q_Kr, q_k0, q_kS, q_rc, q_ps, q_pn, q_aload0, q_iconst, q_putfieldI, q_iload1, q_if_eq, q_iload2, q_if_ne, q_ireturn0, q_goto, q_getfieldI, mmKo_11, mmR32, mmR64, Option.some.injEq, Int.cast_ofNat_Int, and_true, true_and, if_true, if_false, List.length_cons, List.length_nil, Nat.le_refl, Nat.zero_le, Nat.sub_zero, forall_const, reduceCtorEq, Nat.reduceAdd, Nat.reduceSub, Nat.reduceLeDiff, Nat.reduceEqDiff, Int.reduceAdd, Int.reduceNeg, Int.reduceSub, Int.reduceLT, Int.reduceLE, Int.reduceMul, Int.reduceEq, List.drop_zero, List.drop_succ_cons, ne_eq, not_false_eq_true, not_true_eq_false, false_and, and_false, false_implies, true_implies, reduceIte, mmU_rd, implies_true, or_false, false_or, or_true, true_or]
  refine ⟨fun c3 => ?_, fun c3 => ?_⟩
  · refine mmC_step ?_
    simp only [cd_234, sg_234_0, sg_234_11, sg_234_13, sg_234_20, sg_234_25, sg_234_30, mmK_cut cd_234, q_cons, q_G0, q_GS, q_I1, q_L1, q_A1, q_S0, q_S1, q_SS, q_T0, q_T1, q_TS, q_Kn, q_Ki, q_Kl, q_Kr, q_k0, q_kS, q_rc, q_ps, q_pn, q_aload0, q_iconst, q_putfieldI, q_iload1, q_if_eq, q_iload2, q_if_ne, q_ireturn0, q_goto, q_getfieldI, mmKo_11, mmR32, mmR64, Option.some.injEq, Int.cast_ofNat_Int, and_true, true_and, if_true, if_false, List.length_cons, List.length_nil, Nat.le_refl, Nat.zero_le, Nat.sub_zero, forall_const, reduceCtorEq, Nat.reduceAdd, Nat.reduceSub, Nat.reduceLeDiff, Nat.reduceEqDiff, Int.reduceAdd, Int.reduceNeg, Int.reduceSub, Int.reduceLT, Int.reduceLE, Int.reduceMul, Int.reduceEq, List.drop_zero, List.drop_succ_cons, ne_eq, not_false_eq_true, not_true_eq_false, false_and, and_false, false_implies, true_implies, reduceIte, mmU_rd, implies_true, or_false, false_or, or_true, true_or]
    rw [VR_E hR]
    refine ⟨fun ce => ?_, fun ce => ?_⟩
    · rw [cI_pos ce] at hQ
      refine mmC_step ?_
      simp only [cd_234, sg_234_0, sg_234_11, sg_234_13, sg_234_20, sg_234_25, sg_234_30, mmK_cut cd_234, q_cons, q_G0, q_GS, q_I1, q_L1, q_A1, q_S0, q_S1, q_SS, q_T0, q_T1, q_TS, q_Kn, q_Ki, q_Kl, q_Kr, q_k0, q_kS, q_rc, q_ps, q_pn, q_aload0, q_iconst, q_putfieldI, q_iload1, q_if_eq, q_iload2, q_if_ne, q_ireturn0, q_goto, q_getfieldI, mmKo_11, mmR32, mmR64, Option.some.injEq, Int.cast_ofNat_Int, and_true, true_and, if_true, if_false, List.length_cons, List.length_nil, Nat.le_refl, Nat.zero_le, Nat.sub_zero, forall_const, reduceCtorEq, Nat.reduceAdd, Nat.reduceSub, Nat.reduceLeDiff, Nat.reduceEqDiff, Int.reduceAdd, Int.reduceNeg, Int.reduceSub, Int.reduceLT, Int.reduceLE, Int.reduceMul, Int.reduceEq, List.drop_zero, List.drop_succ_cons, ne_eq, not_false_eq_true, not_true_eq_false, false_and, and_false, false_implies, true_implies, reduceIte, mmU_rd, implies_true, or_false, false_or, or_true, true_or]
      rw [VR_N hR]
      rw [q_invV (pay := [])]
      simp only [q_k0, q_kS, q_rc, mmKo_11]
      refine ⟨Nat.le_of_ble_eq_true rfl, by trivial, Nat.zero_le _, Nat.zero_le _, ?_⟩
      refine mT_use (m_gamesOf (n := n) (by omega) h1.1 (VR_B hR hN.1) hB ⟨hN.1, by omega⟩ (VR_M hR) (fun q => vE_0 ce hN.1 (Or.inl q))) (fun u I2 q2 => ?_)
      obtain ⟨rfl, f3, _⟩ := q2
      simp only [mmK_cut cd_234, q_cons, q_G0, q_GS, q_I1, q_L1, q_A1, q_S0, q_S1, q_SS, q_T0, q_T1, q_TS, q_Kn, q_Ki, q_Kl, q_Kr, q_k0, q_kS, q_rc, q_ps, q_pn, q_aload0, q_iconst, q_putfieldI, q_iload1, q_if_eq, q_iload2, q_if_ne, q_ireturn0, q_goto, q_getfieldI, mmKo_11, mmR32, mmR64, Option.some.injEq, Int.cast_ofNat_Int, and_true, true_and, if_true, if_false, List.length_cons, List.length_nil, Nat.le_refl, Nat.zero_le, Nat.sub_zero, forall_const, reduceCtorEq, Nat.reduceAdd, Nat.reduceSub, Nat.reduceLeDiff, Nat.reduceEqDiff, Int.reduceAdd, Int.reduceNeg, Int.reduceSub, Int.reduceLT, Int.reduceLE, Int.reduceMul, Int.reduceEq, List.drop_zero, List.drop_succ_cons, ne_eq, not_false_eq_true, not_true_eq_false, false_and, and_false, false_implies, true_implies, reduceIte, mmU_rd, implies_true, or_false, false_or, or_true, true_or]
      refine mmC_step ?_
      simp only [cd_234, sg_234_0, sg_234_11, sg_234_13, sg_234_20, sg_234_25, sg_234_30, mmK_cut cd_234, q_cons, q_G0, q_GS, q_I1, q_L1, q_A1, q_S0, q_S1, q_SS, q_T0, q_T1, q_TS, q_Kn, q_Ki, q_Kl, q_Kr, q_k0, q_kS, q_rc, q_ps, q_pn, q_aload0, q_iconst, q_putfieldI, q_iload1, q_if_eq, q_iload2, q_if_ne, q_ireturn0, q_goto, q_getfieldI, mmKo_11, mmR32, mmR64, Option.some.injEq, Int.cast_ofNat_Int, and_true, true_and, if_true, if_false, List.length_cons, List.length_nil, Nat.le_refl, Nat.zero_le, Nat.sub_zero, forall_const, reduceCtorEq, Nat.reduceAdd, Nat.reduceSub, Nat.reduceLeDiff, Nat.reduceEqDiff, Int.reduceAdd, Int.reduceNeg, Int.reduceSub, Int.reduceLT, Int.reduceLE, Int.reduceMul, Int.reduceEq, List.drop_zero, List.drop_succ_cons, ne_eq, not_false_eq_true, not_true_eq_false, false_and, and_false, false_implies, true_implies, reduceIte, mmU_rd, implies_true, or_false, false_or, or_true, true_or]
      exact hQ I2 (FrNq_trans f2 (FrNq_R f3))
    · rw [cI_neg ce, cI_neg c3] at hQ
      refine mmC_step ?_
      simp only [cd_234, sg_234_0, sg_234_11, sg_234_13, sg_234_20, sg_234_25, sg_234_30, mmK_cut cd_234, q_cons, q_G0, q_GS, q_I1, q_L1, q_A1, q_S0, q_S1, q_SS, q_T0, q_T1, q_TS, q_Kn, q_Ki, q_Kl, q_Kr, q_k0, q_kS, q_rc, q_ps, q_pn, q_aload0, q_iconst, q_putfieldI, q_iload1, q_if_eq, q_iload2, q_if_ne, q_ireturn0, q_goto, q_getfieldI, mmKo_11, mmR32, mmR64, Option.some.injEq, Int.cast_ofNat_Int, and_true, true_and, if_true, if_false, List.length_cons, List.length_nil, Nat.le_refl, Nat.zero_le, Nat.sub_zero, forall_const, reduceCtorEq, Nat.reduceAdd, Nat.reduceSub, Nat.reduceLeDiff, Nat.reduceEqDiff, Int.reduceAdd, Int.reduceNeg, Int.reduceSub, Int.reduceLT, Int.reduceLE, Int.reduceMul, Int.reduceEq, List.drop_zero, List.drop_succ_cons, ne_eq, not_false_eq_true, not_true_eq_false, false_and, and_false, false_implies, true_implies, reduceIte, mmU_rd, implies_true, or_false, false_or, or_true, true_or]
      exact hQ I1 f2
  · have e : cI (vE r L w = 0) (gmV r n (vB r L w) (vN r L w)) (cI ((n : Int) = 0) 1 0) = 1 := by
      by_cases ce : vE r L w = 0
      · rw [cI_pos ce]
        have : n = 0 := by omega
        rw [this]; rfl
      · rw [cI_neg ce, cI_pos c3]
    rw [e] at hQ
    refine mmC_step ?_
    simp only [cd_234, sg_234_0, sg_234_11, sg_234_13, sg_234_20, sg_234_25, sg_234_30, mmK_cut cd_234, q_cons, q_G0, q_GS, q_I1, q_L1, q_A1, q_S0, q_S1, q_SS, q_T0, q_T1, q_TS, q_Kn, q_Ki, q_Kl, q_Kr, q_k0, q_kS, q_rc, q_ps, q_pn, q_aload0, q_iconst, q_putfieldI, q_iload1, q_if_eq, q_iload2, q_if_ne, q_ireturn0, q_goto, q_getfieldI, mmKo_11, mmR32, mmR64, Option.some.injEq, Int.cast_ofNat_Int, and_true, true_and, if_true, if_false, List.length_cons, List.length_nil, Nat.le_refl, Nat.zero_le, Nat.sub_zero, forall_const, reduceCtorEq, Nat.reduceAdd, Nat.reduceSub, Nat.reduceLeDiff, Nat.reduceEqDiff, Int.reduceAdd, Int.reduceNeg, Int.reduceSub, Int.reduceLT, Int.reduceLE, Int.reduceMul, Int.reduceEq, List.drop_zero, List.drop_succ_cons, ne_eq, not_false_eq_true, not_true_eq_false, false_and, and_false, false_implies, true_implies, reduceIte, mmU_rd, implies_true, or_false, false_or, or_true, true_or]
    exact hQ I1 f2
theorem m_fewest (hI : MI I r L) (hQ : bQ I a br X Q (mv (a_fewest r L w))) : mmC (d + 12) 245 [mo 11 0, mv w] (I, mmRf a br, X) Q := by
  have hI2 := MI_N hI (FrNq_2 (v := 0))
  unfold a_fewest at hQ
  refine mmC_in (by decide) (Nat.le_of_ble_eq_true rfl) (mmC_step ?_)
  simp only [show mmMl 245 = 2 from rfl, mmLs, List.replicate, cd_245, sg_245_0, sg_245_8, sg_245_16, sg_245_23, sg_245_30, sg_245_31, mmK_cut cd_245, q_cons, q_G0, q_GS, q_I1, q_L1, q_A1, q_S0, q_S1, q_SS, q_T0, q_T1, q_TS, q_Kn, q_Ki, q_Kl, q_Kr, q_k0, q_kS, q_rc, q_ps, q_pn, q_aload0, q_iconst, q_putfieldI, q_iload1, q_if_ne, q_ireturn0, q_getfieldI, q_if_eq, q_bipush, q_goto, mmKo_11, mmR32, mmR64, Option.some.injEq, Int.cast_ofNat_Int, and_true, true_and, if_true, if_false, List.length_cons, List.length_nil, Nat.le_refl, Nat.zero_le, Nat.sub_zero, forall_const, reduceCtorEq, Nat.reduceAdd, Nat.reduceSub, Nat.reduceLeDiff, Nat.reduceEqDiff, Int.reduceAdd, Int.reduceNeg, Int.reduceSub, Int.reduceLT, Int.reduceLE, Int.reduceMul, Int.reduceEq, List.drop_zero, List.drop_succ_cons, ne_eq, not_false_eq_true, not_true_eq_false, false_and, and_false, false_implies, true_implies, reduceIte, mmU_rd, implies_true, or_false, false_or, or_true, true_or]
  rw [q_invS (pay := [])]
  simp only [q_k0, q_kS]
  refine ⟨Nat.le_of_ble_eq_true rfl, Nat.zero_le _, Nat.zero_le _, ?_⟩
  refine m_isView ?_
  simp only [mmK_cut cd_245, q_cons, q_G0, q_GS, q_I1, q_L1, q_A1, q_S0, q_S1, q_SS, q_T0, q_T1, q_TS, q_Kn, q_Ki, q_Kl, q_Kr, q_k0, q_kS, q_rc, q_ps, q_pn, q_aload0, q_iconst, q_putfieldI, q_iload1, q_if_ne, q_ireturn0, q_getfieldI, q_if_eq, q_bipush, q_goto, mmKo_11, mmR32, mmR64, Option.some.injEq, Int.cast_ofNat_Int, and_true, true_and, if_true, if_false, List.length_cons, List.length_nil, Nat.le_refl, Nat.zero_le, Nat.sub_zero, forall_const, reduceCtorEq, Nat.reduceAdd, Nat.reduceSub, Nat.reduceLeDiff, Nat.reduceEqDiff, Int.reduceAdd, Int.reduceNeg, Int.reduceSub, Int.reduceLT, Int.reduceLE, Int.reduceMul, Int.reduceEq, List.drop_zero, List.drop_succ_cons, ne_eq, not_false_eq_true, not_true_eq_false, false_and, and_false, false_implies, true_implies, reduceIte, mmU_rd, implies_true, or_false, false_or, or_true, true_or, bI_eq0]
  refine ⟨fun c => ?_, fun c => ?_⟩
  · have c := Classical.not_not.mp c
    rw [cI_pos c] at hQ
    refine mmC_step ?_
    simp only [cd_245, sg_245_0, sg_245_8, sg_245_16, sg_245_23, sg_245_30, sg_245_31, mmK_cut cd_245, q_cons, q_G0, q_GS, q_I1, q_L1, q_A1, q_S0, q_S1, q_SS, q_T0, q_T1, q_TS, q_Kn, q_Ki, q_Kl, q_Kr, q_k0, q_kS, q_rc, q_ps, q_pn, q_aload0, q_iconst, q_putfieldI, q_iload1, q_if_ne, q_ireturn0, q_getfieldI, q_if_eq, q_bipush, q_goto, mmKo_11, mmR32, mmR64, Option.some.injEq, Int.cast_ofNat_Int, and_true, true_and, if_true, if_false, List.length_cons, List.length_nil, Nat.le_refl, Nat.zero_le, Nat.sub_zero, forall_const, reduceCtorEq, Nat.reduceAdd, Nat.reduceSub, Nat.reduceLeDiff, Nat.reduceEqDiff, Int.reduceAdd, Int.reduceNeg, Int.reduceSub, Int.reduceLT, Int.reduceLE, Int.reduceMul, Int.reduceEq, List.drop_zero, List.drop_succ_cons, ne_eq, not_false_eq_true, not_true_eq_false, false_and, and_false, false_implies, true_implies, reduceIte, mmU_rd, implies_true, or_false, false_or, or_true, true_or]
    rw [q_invV (pay := [])]
    simp only [q_k0, q_kS, q_rc, mmKo_11]
    refine ⟨Nat.le_of_ble_eq_true rfl, by trivial, Nat.zero_le _, Nat.zero_le _, ?_⟩
    refine mT_use (m_layRowQ c hI2) (fun u I1 q => ?_)
    obtain ⟨rfl, f1, h1, hR⟩ := q
    have f2 := FrNq_trans (FrNq_2 (I := I) (v := 0)) f1
    obtain ⟨hq, hB, hN, hlen⟩ := vI h1 w
    simp only [mmK_cut cd_245, q_cons, q_G0, q_GS, q_I1, q_L1, q_A1, q_S0, q_S1, q_SS, q_T0, q_T1, q_TS, q_Kn, q_Ki, q_Kl, q_Kr, q_k0, q_kS, q_rc, q_ps, q_pn, q_aload0, q_iconst, q_putfieldI, q_iload1, q_if_ne, q_ireturn0, q_getfieldI, q_if_eq, q_bipush, q_goto, mmKo_11, mmR32, mmR64, Option.some.injEq, Int.cast_ofNat_Int, and_true, true_and, if_true, if_false, List.length_cons, List.length_nil, Nat.le_refl, Nat.zero_le, Nat.sub_zero, forall_const, reduceCtorEq, Nat.reduceAdd, Nat.reduceSub, Nat.reduceLeDiff, Nat.reduceEqDiff, Int.reduceAdd, Int.reduceNeg, Int.reduceSub, Int.reduceLT, Int.reduceLE, Int.reduceMul, Int.reduceEq, List.drop_zero, List.drop_succ_cons, ne_eq, not_false_eq_true, not_true_eq_false, false_and, and_false, false_implies, true_implies, reduceIte, mmU_rd, implies_true, or_false, false_or, or_true, true_or]
    rw [VR_E hR]
    refine ⟨fun ce => ?_, fun ce => ?_⟩
    · rw [cI_pos ce] at hQ
      refine mmC_step ?_
      simp only [cd_245, sg_245_0, sg_245_8, sg_245_16, sg_245_23, sg_245_30, sg_245_31, mmK_cut cd_245, q_cons, q_G0, q_GS, q_I1, q_L1, q_A1, q_S0, q_S1, q_SS, q_T0, q_T1, q_TS, q_Kn, q_Ki, q_Kl, q_Kr, q_k0, q_kS, q_rc, q_ps, q_pn, q_aload0, q_iconst, q_putfieldI, q_iload1, q_if_ne, q_ireturn0, q_getfieldI, q_if_eq, q_bipush, q_goto, mmKo_11, mmR32, mmR64, Option.some.injEq, Int.cast_ofNat_Int, and_true, true_and, if_true, if_false, List.length_cons, List.length_nil, Nat.le_refl, Nat.zero_le, Nat.sub_zero, forall_const, reduceCtorEq, Nat.reduceAdd, Nat.reduceSub, Nat.reduceLeDiff, Nat.reduceEqDiff, Int.reduceAdd, Int.reduceNeg, Int.reduceSub, Int.reduceLT, Int.reduceLE, Int.reduceMul, Int.reduceEq, List.drop_zero, List.drop_succ_cons, ne_eq, not_false_eq_true, not_true_eq_false, false_and, and_false, false_implies, true_implies, reduceIte, mmU_rd, implies_true, or_false, false_or, or_true, true_or]
      rw [VR_N hR]
      rw [q_invV (pay := [])]
      simp only [q_k0, q_kS, q_rc, mmKo_11]
      refine ⟨Nat.le_of_ble_eq_true rfl, by trivial, Nat.zero_le _, Nat.zero_le _, ?_⟩
      refine mT_use (m_wins1 h1.1 (VR_B hR hN.1) hB ⟨hN.1, by omega⟩) (fun u I2 q2 => ?_)
      obtain ⟨rfl, f3⟩ := q2
      have e63 : I2 11 0 63 = vN r L w := (f3 _ _ _ (by omega) (by omega) (by omega) (by omega) (by omega) (by omega)).trans (VR_N hR)
      simp only [mmK_cut cd_245, q_cons, q_G0, q_GS, q_I1, q_L1, q_A1, q_S0, q_S1, q_SS, q_T0, q_T1, q_TS, q_Kn, q_Ki, q_Kl, q_Kr, q_k0, q_kS, q_rc, q_ps, q_pn, q_aload0, q_iconst, q_putfieldI, q_iload1, q_if_ne, q_ireturn0, q_getfieldI, q_if_eq, q_bipush, q_goto, mmKo_11, mmR32, mmR64, Option.some.injEq, Int.cast_ofNat_Int, and_true, true_and, if_true, if_false, List.length_cons, List.length_nil, Nat.le_refl, Nat.zero_le, Nat.sub_zero, forall_const, reduceCtorEq, Nat.reduceAdd, Nat.reduceSub, Nat.reduceLeDiff, Nat.reduceEqDiff, Int.reduceAdd, Int.reduceNeg, Int.reduceSub, Int.reduceLT, Int.reduceLE, Int.reduceMul, Int.reduceEq, List.drop_zero, List.drop_succ_cons, ne_eq, not_false_eq_true, not_true_eq_false, false_and, and_false, false_implies, true_implies, reduceIte, mmU_rd, implies_true, or_false, false_or, or_true, true_or, bI_eq0]
      refine ⟨fun c1 => ?_, fun c1 => ?_⟩
      · rw [cI_neg c1] at hQ
        refine mmC_step ?_
        simp only [cd_245, sg_245_0, sg_245_8, sg_245_16, sg_245_23, sg_245_30, sg_245_31, mmK_cut cd_245, q_cons, q_G0, q_GS, q_I1, q_L1, q_A1, q_S0, q_S1, q_SS, q_T0, q_T1, q_TS, q_Kn, q_Ki, q_Kl, q_Kr, q_k0, q_kS, q_rc, q_ps, q_pn, q_aload0, q_iconst, q_putfieldI, q_iload1, q_if_ne, q_ireturn0, q_getfieldI, q_if_eq, q_bipush, q_goto, mmKo_11, mmR32, mmR64, Option.some.injEq, Int.cast_ofNat_Int, and_true, true_and, if_true, if_false, List.length_cons, List.length_nil, Nat.le_refl, Nat.zero_le, Nat.sub_zero, forall_const, reduceCtorEq, Nat.reduceAdd, Nat.reduceSub, Nat.reduceLeDiff, Nat.reduceEqDiff, Int.reduceAdd, Int.reduceNeg, Int.reduceSub, Int.reduceLT, Int.reduceLE, Int.reduceMul, Int.reduceEq, List.drop_zero, List.drop_succ_cons, ne_eq, not_false_eq_true, not_true_eq_false, false_and, and_false, false_implies, true_implies, reduceIte, mmU_rd, implies_true, or_false, false_or, or_true, true_or]
        rw [e63]
        rw [q_invV (pay := [])]
        simp only [q_k0, q_kS, q_rc, mmKo_11]
        refine ⟨Nat.le_of_ble_eq_true rfl, by trivial, Nat.zero_le _, Nat.zero_le _, ?_⟩
        refine mT_use (m_wins3 (RK_R h1.1 f3) (MB_R (Int.le_refl _) (VR_B hR hN.1) f3) hB ⟨hN.1, by omega⟩) (fun u I3 q3 => ?_)
        obtain ⟨rfl, f4⟩ := q3
        have f5 := FrNq_trans f2 (FrNq_trans (FrNq_R f3) (FrNq_R f4))
        simp only [mmK_cut cd_245, q_cons, q_G0, q_GS, q_I1, q_L1, q_A1, q_S0, q_S1, q_SS, q_T0, q_T1, q_TS, q_Kn, q_Ki, q_Kl, q_Kr, q_k0, q_kS, q_rc, q_ps, q_pn, q_aload0, q_iconst, q_putfieldI, q_iload1, q_if_ne, q_ireturn0, q_getfieldI, q_if_eq, q_bipush, q_goto, mmKo_11, mmR32, mmR64, Option.some.injEq, Int.cast_ofNat_Int, and_true, true_and, if_true, if_false, List.length_cons, List.length_nil, Nat.le_refl, Nat.zero_le, Nat.sub_zero, forall_const, reduceCtorEq, Nat.reduceAdd, Nat.reduceSub, Nat.reduceLeDiff, Nat.reduceEqDiff, Int.reduceAdd, Int.reduceNeg, Int.reduceSub, Int.reduceLT, Int.reduceLE, Int.reduceMul, Int.reduceEq, List.drop_zero, List.drop_succ_cons, ne_eq, not_false_eq_true, not_true_eq_false, false_and, and_false, false_implies, true_implies, reduceIte, mmU_rd, implies_true, or_false, false_or, or_true, true_or, bI_eq0]
        refine ⟨fun c3 => ?_, fun c3 => ?_⟩
        · rw [cI_neg c3] at hQ
          refine mmC_step ?_
          simp only [cd_245, sg_245_0, sg_245_8, sg_245_16, sg_245_23, sg_245_30, sg_245_31, mmK_cut cd_245, q_cons, q_G0, q_GS, q_I1, q_L1, q_A1, q_S0, q_S1, q_SS, q_T0, q_T1, q_TS, q_Kn, q_Ki, q_Kl, q_Kr, q_k0, q_kS, q_rc, q_ps, q_pn, q_aload0, q_iconst, q_putfieldI, q_iload1, q_if_ne, q_ireturn0, q_getfieldI, q_if_eq, q_bipush, q_goto, mmKo_11, mmR32, mmR64, Option.some.injEq, Int.cast_ofNat_Int, and_true, true_and, if_true, if_false, List.length_cons, List.length_nil, Nat.le_refl, Nat.zero_le, Nat.sub_zero, forall_const, reduceCtorEq, Nat.reduceAdd, Nat.reduceSub, Nat.reduceLeDiff, Nat.reduceEqDiff, Int.reduceAdd, Int.reduceNeg, Int.reduceSub, Int.reduceLT, Int.reduceLE, Int.reduceMul, Int.reduceEq, List.drop_zero, List.drop_succ_cons, ne_eq, not_false_eq_true, not_true_eq_false, false_and, and_false, false_implies, true_implies, reduceIte, mmU_rd, implies_true, or_false, false_or, or_true, true_or]
          refine mmC_step ?_
          simp only [cd_245, sg_245_0, sg_245_8, sg_245_16, sg_245_23, sg_245_30, sg_245_31, mmK_cut cd_245, q_cons, q_G0, q_GS, q_I1, q_L1, q_A1, q_S0, q_S1, q_SS, q_T0, q_T1, q_TS, q_Kn, q_Ki, q_Kl, q_Kr, q_k0, q_kS, q_rc, q_ps, q_pn, q_aload0, q_iconst, q_putfieldI, q_iload1, q_if_ne, q_ireturn0, q_getfieldI, q_if_eq, q_bipush, q_goto, mmKo_11, mmR32, mmR64, Option.some.injEq, Int.cast_ofNat_Int, and_true, true_and, if_true, if_false, List.length_cons, List.length_nil, Nat.le_refl, Nat.zero_le, Nat.sub_zero, forall_const, reduceCtorEq, Nat.reduceAdd, Nat.reduceSub, Nat.reduceLeDiff, Nat.reduceEqDiff, Int.reduceAdd, Int.reduceNeg, Int.reduceSub, Int.reduceLT, Int.reduceLE, Int.reduceMul, Int.reduceEq, List.drop_zero, List.drop_succ_cons, ne_eq, not_false_eq_true, not_true_eq_false, false_and, and_false, false_implies, true_implies, reduceIte, mmU_rd, implies_true, or_false, false_or, or_true, true_or]
          exact hQ I3 f5
        · rw [cI_pos (Classical.not_not.mp c3)] at hQ
          refine mmC_step ?_
          simp only [cd_245, sg_245_0, sg_245_8, sg_245_16, sg_245_23, sg_245_30, sg_245_31, mmK_cut cd_245, q_cons, q_G0, q_GS, q_I1, q_L1, q_A1, q_S0, q_S1, q_SS, q_T0, q_T1, q_TS, q_Kn, q_Ki, q_Kl, q_Kr, q_k0, q_kS, q_rc, q_ps, q_pn, q_aload0, q_iconst, q_putfieldI, q_iload1, q_if_ne, q_ireturn0, q_getfieldI, q_if_eq, q_bipush, q_goto, mmKo_11, mmR32, mmR64, Option.some.injEq, Int.cast_ofNat_Int, and_true, true_and, if_true, if_false, List.length_cons, List.length_nil, Nat.le_refl, Nat.zero_le, Nat.sub_zero, forall_const, reduceCtorEq, Nat.reduceAdd, Nat.reduceSub, Nat.reduceLeDiff, Nat.reduceEqDiff, Int.reduceAdd, Int.reduceNeg, Int.reduceSub, Int.reduceLT, Int.reduceLE, Int.reduceMul, Int.reduceEq, List.drop_zero, List.drop_succ_cons, ne_eq, not_false_eq_true, not_true_eq_false, false_and, and_false, false_implies, true_implies, reduceIte, mmU_rd, implies_true, or_false, false_or, or_true, true_or]
          exact hQ I3 f5
      · rw [cI_pos (Classical.not_not.mp c1)] at hQ
        refine mmC_step ?_
        simp only [cd_245, sg_245_0, sg_245_8, sg_245_16, sg_245_23, sg_245_30, sg_245_31, mmK_cut cd_245, q_cons, q_G0, q_GS, q_I1, q_L1, q_A1, q_S0, q_S1, q_SS, q_T0, q_T1, q_TS, q_Kn, q_Ki, q_Kl, q_Kr, q_k0, q_kS, q_rc, q_ps, q_pn, q_aload0, q_iconst, q_putfieldI, q_iload1, q_if_ne, q_ireturn0, q_getfieldI, q_if_eq, q_bipush, q_goto, mmKo_11, mmR32, mmR64, Option.some.injEq, Int.cast_ofNat_Int, and_true, true_and, if_true, if_false, List.length_cons, List.length_nil, Nat.le_refl, Nat.zero_le, Nat.sub_zero, forall_const, reduceCtorEq, Nat.reduceAdd, Nat.reduceSub, Nat.reduceLeDiff, Nat.reduceEqDiff, Int.reduceAdd, Int.reduceNeg, Int.reduceSub, Int.reduceLT, Int.reduceLE, Int.reduceMul, Int.reduceEq, List.drop_zero, List.drop_succ_cons, ne_eq, not_false_eq_true, not_true_eq_false, false_and, and_false, false_implies, true_implies, reduceIte, mmU_rd, implies_true, or_false, false_or, or_true, true_or]
        exact hQ I2 (FrNq_trans f2 (FrNq_R f3))
    · rw [cI_neg ce] at hQ
      refine mmC_step ?_
      simp only [cd_245, sg_245_0, sg_245_8, sg_245_16, sg_245_23, sg_245_30, sg_245_31, mmK_cut cd_245, q_cons, q_G0, q_GS, q_I1, q_L1, q_A1, q_S0, q_S1, q_SS, q_T0, q_T1, q_TS, q_Kn, q_Ki, q_Kl, q_Kr, q_k0, q_kS, q_rc, q_ps, q_pn, q_aload0, q_iconst, q_putfieldI, q_iload1, q_if_ne, q_ireturn0, q_getfieldI, q_if_eq, q_bipush, q_goto, mmKo_11, mmR32, mmR64, Option.some.injEq, Int.cast_ofNat_Int, and_true, true_and, if_true, if_false, List.length_cons, List.length_nil, Nat.le_refl, Nat.zero_le, Nat.sub_zero, forall_const, reduceCtorEq, Nat.reduceAdd, Nat.reduceSub, Nat.reduceLeDiff, Nat.reduceEqDiff, Int.reduceAdd, Int.reduceNeg, Int.reduceSub, Int.reduceLT, Int.reduceLE, Int.reduceMul, Int.reduceEq, List.drop_zero, List.drop_succ_cons, ne_eq, not_false_eq_true, not_true_eq_false, false_and, and_false, false_implies, true_implies, reduceIte, mmU_rd, implies_true, or_false, false_or, or_true, true_or]
      exact hQ I1 f2
  · rw [cI_neg c] at hQ
    exact hQ _ FrNq_2
theorem m_refuted (hI : MI I r L) (hQ : bQ I a br X Q (mv (a_refuted r L w p n))) : mmC (d + 13) 244 [mo 11 0, mv w, mv p, mv n] (I, mmRf a br, X) Q := by
  have hI2 := MI_N hI (FrNq_2 (v := 0))
  unfold a_refuted at hQ
  refine mmC_in (by decide) (Nat.le_of_ble_eq_true rfl) (mmC_step ?_)
  simp only [show mmMl 244 = 4 from rfl, mmLs, List.replicate, cd_244, sg_244_0, sg_244_10, sg_244_22, sg_244_24, sg_244_27, mmK_cut cd_244, q_cons, q_G0, q_GS, q_I1, q_L1, q_A1, q_S0, q_S1, q_SS, q_T0, q_T1, q_TS, q_Kn, q_Ki, q_Kl, q_Kr, q_k0, q_kS, q_rc, q_ps, q_pn, q_aload0, q_iconst, q_putfieldI, q_iload1, q_iload2, q_iload3, q_if_ne, q_ireturn0, q_getfieldI, q_irem, q_icmp_ne, q_bipush, q_goto, mmKo_11, mmR32, mmR64, Option.some.injEq, Int.cast_ofNat_Int, and_true, true_and, if_true, if_false, List.length_cons, List.length_nil, Nat.le_refl, Nat.zero_le, Nat.sub_zero, forall_const, reduceCtorEq, Nat.reduceAdd, Nat.reduceSub, Nat.reduceLeDiff, Nat.reduceEqDiff, Int.reduceAdd, Int.reduceNeg, Int.reduceSub, Int.reduceLT, Int.reduceLE, Int.reduceMul, Int.reduceEq, List.drop_zero, List.drop_succ_cons, ne_eq, not_false_eq_true, not_true_eq_false, false_and, and_false, false_implies, true_implies, reduceIte, mmU_rd, implies_true, or_false, false_or, or_true, true_or]
  rw [q_invS (pay := [])]
  simp only [q_k0, q_kS]
  refine ⟨Nat.le_of_ble_eq_true rfl, Nat.zero_le _, Nat.zero_le _, ?_⟩
  refine m_isAsked ?_
  simp only [mmK_cut cd_244, q_cons, q_G0, q_GS, q_I1, q_L1, q_A1, q_S0, q_S1, q_SS, q_T0, q_T1, q_TS, q_Kn, q_Ki, q_Kl, q_Kr, q_k0, q_kS, q_rc, q_ps, q_pn, q_aload0, q_iconst, q_putfieldI, q_iload1, q_iload2, q_iload3, q_if_ne, q_ireturn0, q_getfieldI, q_irem, q_icmp_ne, q_bipush, q_goto, mmKo_11, mmR32, mmR64, Option.some.injEq, Int.cast_ofNat_Int, and_true, true_and, if_true, if_false, List.length_cons, List.length_nil, Nat.le_refl, Nat.zero_le, Nat.sub_zero, forall_const, reduceCtorEq, Nat.reduceAdd, Nat.reduceSub, Nat.reduceLeDiff, Nat.reduceEqDiff, Int.reduceAdd, Int.reduceNeg, Int.reduceSub, Int.reduceLT, Int.reduceLE, Int.reduceMul, Int.reduceEq, List.drop_zero, List.drop_succ_cons, ne_eq, not_false_eq_true, not_true_eq_false, false_and, and_false, false_implies, true_implies, reduceIte, mmU_rd, implies_true, or_false, false_or, or_true, true_or, bI_eq0]
  refine ⟨fun c => ?_, fun c => ?_⟩
  · have c := Classical.not_not.mp c
    obtain ⟨n, rfl⟩ := Int.eq_ofNat_of_zero_le c.2.2.1
    rw [cI_pos c, Int.toNat_natCast] at hQ
    refine mmC_step ?_
    simp only [cd_244, sg_244_0, sg_244_10, sg_244_22, sg_244_24, sg_244_27, mmK_cut cd_244, q_cons, q_G0, q_GS, q_I1, q_L1, q_A1, q_S0, q_S1, q_SS, q_T0, q_T1, q_TS, q_Kn, q_Ki, q_Kl, q_Kr, q_k0, q_kS, q_rc, q_ps, q_pn, q_aload0, q_iconst, q_putfieldI, q_iload1, q_iload2, q_iload3, q_if_ne, q_ireturn0, q_getfieldI, q_irem, q_icmp_ne, q_bipush, q_goto, mmKo_11, mmR32, mmR64, Option.some.injEq, Int.cast_ofNat_Int, and_true, true_and, if_true, if_false, List.length_cons, List.length_nil, Nat.le_refl, Nat.zero_le, Nat.sub_zero, forall_const, reduceCtorEq, Nat.reduceAdd, Nat.reduceSub, Nat.reduceLeDiff, Nat.reduceEqDiff, Int.reduceAdd, Int.reduceNeg, Int.reduceSub, Int.reduceLT, Int.reduceLE, Int.reduceMul, Int.reduceEq, List.drop_zero, List.drop_succ_cons, ne_eq, not_false_eq_true, not_true_eq_false, false_and, and_false, false_implies, true_implies, reduceIte, mmU_rd, implies_true, or_false, false_or, or_true, true_or]
    rw [q_invV (pay := [])]
    simp only [q_k0, q_kS, q_rc, mmKo_11]
    refine ⟨Nat.le_of_ble_eq_true rfl, by trivial, Nat.zero_le _, Nat.zero_le _, ?_⟩
    refine mT_use (m_layRowQ c.1 hI2) (fun u I1 q => ?_)
    obtain ⟨rfl, f1, h1, hR⟩ := q
    have f2 := FrNq_trans (FrNq_2 (I := I) (v := 0)) f1
    obtain ⟨hq, hB, hN, hlen⟩ := vI h1 w
    have w22 : ¬ (vE r L w = 0 ∧ ¬ p = vN r L w % 2) → mmK (d + 12) 244 Q 22 [some (mo 11 0), some (mv w), some (mv p), some (mv n)] [] (I1, mmRf a br, X) := by
      intro cc
      rw [cI_neg cc] at hQ
      refine mmC_step ?_
      simp only [cd_244, sg_244_0, sg_244_10, sg_244_22, sg_244_24, sg_244_27, mmK_cut cd_244, q_cons, q_G0, q_GS, q_I1, q_L1, q_A1, q_S0, q_S1, q_SS, q_T0, q_T1, q_TS, q_Kn, q_Ki, q_Kl, q_Kr, q_k0, q_kS, q_rc, q_ps, q_pn, q_aload0, q_iconst, q_putfieldI, q_iload1, q_iload2, q_iload3, q_if_ne, q_ireturn0, q_getfieldI, q_irem, q_icmp_ne, q_bipush, q_goto, mmKo_11, mmR32, mmR64, Option.some.injEq, Int.cast_ofNat_Int, and_true, true_and, if_true, if_false, List.length_cons, List.length_nil, Nat.le_refl, Nat.zero_le, Nat.sub_zero, forall_const, reduceCtorEq, Nat.reduceAdd, Nat.reduceSub, Nat.reduceLeDiff, Nat.reduceEqDiff, Int.reduceAdd, Int.reduceNeg, Int.reduceSub, Int.reduceLT, Int.reduceLE, Int.reduceMul, Int.reduceEq, List.drop_zero, List.drop_succ_cons, ne_eq, not_false_eq_true, not_true_eq_false, false_and, and_false, false_implies, true_implies, reduceIte, mmU_rd, implies_true, or_false, false_or, or_true, true_or]
      refine mmC_step ?_
      simp only [cd_244, sg_244_0, sg_244_10, sg_244_22, sg_244_24, sg_244_27, mmK_cut cd_244, q_cons, q_G0, q_GS, q_I1, q_L1, q_A1, q_S0, q_S1, q_SS, q_T0, q_T1, q_TS, q_Kn, q_Ki, q_Kl, q_Kr, q_k0, q_kS, q_rc, q_ps, q_pn, q_aload0, q_iconst, q_putfieldI, q_iload1, q_iload2, q_iload3, q_if_ne, q_ireturn0, q_getfieldI, q_irem, q_icmp_ne, q_bipush, q_goto, mmKo_11, mmR32, mmR64, Option.some.injEq, Int.cast_ofNat_Int, and_true, true_and, if_true, if_false, List.length_cons, List.length_nil, Nat.le_refl, Nat.zero_le, Nat.sub_zero, forall_const, reduceCtorEq, Nat.reduceAdd, Nat.reduceSub, Nat.reduceLeDiff, Nat.reduceEqDiff, Int.reduceAdd, Int.reduceNeg, Int.reduceSub, Int.reduceLT, Int.reduceLE, Int.reduceMul, Int.reduceEq, List.drop_zero, List.drop_succ_cons, ne_eq, not_false_eq_true, not_true_eq_false, false_and, and_false, false_implies, true_implies, reduceIte, mmU_rd, implies_true, or_false, false_or, or_true, true_or]
      exact hQ I1 f2
    simp only [mmK_cut cd_244, q_cons, q_G0, q_GS, q_I1, q_L1, q_A1, q_S0, q_S1, q_SS, q_T0, q_T1, q_TS, q_Kn, q_Ki, q_Kl, q_Kr, q_k0, q_kS, q_rc, q_ps, q_pn, q_aload0, q_iconst, q_putfieldI, q_iload1, q_iload2, q_iload3, q_if_ne, q_ireturn0, q_getfieldI, q_irem, q_icmp_ne, q_bipush, q_goto, mmKo_11, mmR32, mmR64, Option.some.injEq, Int.cast_ofNat_Int, and_true, true_and, if_true, if_false, List.length_cons, List.length_nil, Nat.le_refl, Nat.zero_le, Nat.sub_zero, forall_const, reduceCtorEq, Nat.reduceAdd, Nat.reduceSub, Nat.reduceLeDiff, Nat.reduceEqDiff, Int.reduceAdd, Int.reduceNeg, Int.reduceSub, Int.reduceLT, Int.reduceLE, Int.reduceMul, Int.reduceEq, List.drop_zero, List.drop_succ_cons, ne_eq, not_false_eq_true, not_true_eq_false, false_and, and_false, false_implies, true_implies, reduceIte, mmU_rd, implies_true, or_false, false_or, or_true, true_or]
    rw [VR_E hR, VR_N hR]
    refine ⟨fun ce => w22 (fun q => ce q.1), fun ce => ⟨hN.1, fun cp => ?_, fun cp => w22 (fun q => q.2 cp)⟩⟩
    rw [cI_pos ⟨ce, cp⟩] at hQ
    refine mmC_step ?_
    simp only [cd_244, sg_244_0, sg_244_10, sg_244_22, sg_244_24, sg_244_27, mmK_cut cd_244, q_cons, q_G0, q_GS, q_I1, q_L1, q_A1, q_S0, q_S1, q_SS, q_T0, q_T1, q_TS, q_Kn, q_Ki, q_Kl, q_Kr, q_k0, q_kS, q_rc, q_ps, q_pn, q_aload0, q_iconst, q_putfieldI, q_iload1, q_iload2, q_iload3, q_if_ne, q_ireturn0, q_getfieldI, q_irem, q_icmp_ne, q_bipush, q_goto, mmKo_11, mmR32, mmR64, Option.some.injEq, Int.cast_ofNat_Int, and_true, true_and, if_true, if_false, List.length_cons, List.length_nil, Nat.le_refl, Nat.zero_le, Nat.sub_zero, forall_const, reduceCtorEq, Nat.reduceAdd, Nat.reduceSub, Nat.reduceLeDiff, Nat.reduceEqDiff, Int.reduceAdd, Int.reduceNeg, Int.reduceSub, Int.reduceLT, Int.reduceLE, Int.reduceMul, Int.reduceEq, List.drop_zero, List.drop_succ_cons, ne_eq, not_false_eq_true, not_true_eq_false, false_and, and_false, false_implies, true_implies, reduceIte, mmU_rd, implies_true, or_false, false_or, or_true, true_or]
    rw [q_invV (pay := [])]
    simp only [q_k0, q_kS, q_rc, mmKo_11]
    refine ⟨Nat.le_of_ble_eq_true rfl, by trivial, Nat.zero_le _, Nat.zero_le _, ?_⟩
    refine mT_use (m_refutedOf (n := n) (by omega) h1.1 (VR_B hR hN.1) hB ⟨hN.1, by omega⟩ (VR_N hR) (VR_M hR)) (fun u I2 q2 => ?_)
    obtain ⟨rfl, f3, _⟩ := q2
    simp only [mmK_cut cd_244, q_cons, q_G0, q_GS, q_I1, q_L1, q_A1, q_S0, q_S1, q_SS, q_T0, q_T1, q_TS, q_Kn, q_Ki, q_Kl, q_Kr, q_k0, q_kS, q_rc, q_ps, q_pn, q_aload0, q_iconst, q_putfieldI, q_iload1, q_iload2, q_iload3, q_if_ne, q_ireturn0, q_getfieldI, q_irem, q_icmp_ne, q_bipush, q_goto, mmKo_11, mmR32, mmR64, Option.some.injEq, Int.cast_ofNat_Int, and_true, true_and, if_true, if_false, List.length_cons, List.length_nil, Nat.le_refl, Nat.zero_le, Nat.sub_zero, forall_const, reduceCtorEq, Nat.reduceAdd, Nat.reduceSub, Nat.reduceLeDiff, Nat.reduceEqDiff, Int.reduceAdd, Int.reduceNeg, Int.reduceSub, Int.reduceLT, Int.reduceLE, Int.reduceMul, Int.reduceEq, List.drop_zero, List.drop_succ_cons, ne_eq, not_false_eq_true, not_true_eq_false, false_and, and_false, false_implies, true_implies, reduceIte, mmU_rd, implies_true, or_false, false_or, or_true, true_or]
    refine mmC_step ?_
    simp only [cd_244, sg_244_0, sg_244_10, sg_244_22, sg_244_24, sg_244_27, mmK_cut cd_244, q_cons, q_G0, q_GS, q_I1, q_L1, q_A1, q_S0, q_S1, q_SS, q_T0, q_T1, q_TS, q_Kn, q_Ki, q_Kl, q_Kr, q_k0, q_kS, q_rc, q_ps, q_pn, q_aload0, q_iconst, q_putfieldI, q_iload1, q_iload2, q_iload3, q_if_ne, q_ireturn0, q_getfieldI, q_irem, q_icmp_ne, q_bipush, q_goto, mmKo_11, mmR32, mmR64, Option.some.injEq, Int.cast_ofNat_Int, and_true, true_and, if_true, if_false, List.length_cons, List.length_nil, Nat.le_refl, Nat.zero_le, Nat.sub_zero, forall_const, reduceCtorEq, Nat.reduceAdd, Nat.reduceSub, Nat.reduceLeDiff, Nat.reduceEqDiff, Int.reduceAdd, Int.reduceNeg, Int.reduceSub, Int.reduceLT, Int.reduceLE, Int.reduceMul, Int.reduceEq, List.drop_zero, List.drop_succ_cons, ne_eq, not_false_eq_true, not_true_eq_false, false_and, and_false, false_implies, true_implies, reduceIte, mmU_rd, implies_true, or_false, false_or, or_true, true_or]
    exact hQ I2 (FrNq_trans f2 (FrNq_R f3))
  · rw [cI_neg c] at hQ
    exact hQ _ FrNq_2
end S863
