section S866
variable {d a : Nat} {I I1 I' I'' : mMm} {br br' : Nat → Option mmO} {R : Nat → Nat → Int → Option mmO} {X : mmX} {L : Nat → Int → Int} {r : mRu} {l w k v p n q : Int} {Q : Option mmV → mmM → Prop}
set_option maxHeartbeats 1000000 in
theorem m_whence (hI : MI I r L) (hQ : bQ I a br X Q (mv (a_whence r L l k q))) : mmC (d + 11) 221 [mo 11 0, mv l, mv k, mv q] (I, mmRf a br, X) Q := by
  have hI2 := MI_N hI (FrNq_2 (v := 0))
  have hW := hI.2.2.2
  have h16 := hW.1
  have hM2 := hI2.2.2.1
  unfold a_whence at hQ
  have w22 : ¬ ((0 ≤ l ∧ l < L 0 0) ∧ (0 ≤ k ∧ k < nIf L l) ∧ (q = 0 ∨ q = 1)) → mmK (d + 10) 221 Q 22 [some (mo 11 0), some (mv l), some (mv k), some (mv q), none, none, none] [] (mmU I 11 0 2 0, mmRf a br, X) := by
    intro c
    rw [cI_neg c] at hQ
    refine mmC_step ?_
    simp only [cd_221, sg_221_0, sg_221_22, sg_221_24, sg_221_48, sg_221_64, sg_221_65, sg_221_66, sg_221_70, sg_221_92, sg_221_94, sg_221_108, sg_221_110, sg_221_117, sg_221_122, sg_221_123, mmK_cut cd_221, q_cons, q_G0, q_GS, q_I1, q_L1, q_A1, q_S0, q_S1, q_SS, q_T0, q_T1, q_TS, q_Kn, q_Ki, q_Kl, q_Kr, q_k0, q_kS, q_rc, q_ps, q_pn, q_aload0, q_iconst, q_putfieldI, q_iload1, q_if_eq, q_iload2, q_if_lt, q_getfieldA, q_iaload, q_icmp_ge, q_iload3, q_if_ne, q_ireturn0, q_bipush, q_imul, q_iadd, q_istore, q_iload, q_getfieldI, q_icmp_lt, q_icmp_ne, q_goto, q_isub, q_icmp_eq, rf_11_65, rf_11_66, rf_11_67, rf_11_75, rf_11_76, mmKe_1265, mmKe_1266, mmKe_1267, mmKe_1275, mmKe_1276, mmKo_11, mmLen_1265, mmLen_1266, mmLen_1267, mmLen_1275, mmLen_1276, mmR32, mmR64, Option.some.injEq, Int.cast_ofNat_Int, and_true, true_and, if_true, if_false, List.length_cons, List.length_nil, Nat.le_refl, Nat.zero_le, Nat.sub_zero, forall_const, reduceCtorEq, Nat.reduceAdd, Nat.reduceSub, Nat.reduceLeDiff, Nat.reduceEqDiff, Int.reduceAdd, Int.reduceNeg, Int.reduceSub, Int.reduceLT, Int.reduceLE, Int.reduceMul, Int.reduceEq, List.drop_zero, List.drop_succ_cons, ne_eq, not_false_eq_true, not_true_eq_false, false_and, and_false, false_implies, true_implies, reduceIte, mmU_rd, implies_true, or_false, false_or, or_true, true_or]
    exact hQ _ FrNq_2
  refine mmC_in (by decide) (Nat.le_of_ble_eq_true rfl) (mmC_step ?_)
  simp only [show mmMl 221 = 7 from rfl, mmLs, List.replicate, cd_221, sg_221_0, sg_221_22, sg_221_24, sg_221_48, sg_221_64, sg_221_65, sg_221_66, sg_221_70, sg_221_92, sg_221_94, sg_221_108, sg_221_110, sg_221_117, sg_221_122, sg_221_123, mmK_cut cd_221, q_cons, q_G0, q_GS, q_I1, q_L1, q_A1, q_S0, q_S1, q_SS, q_T0, q_T1, q_TS, q_Kn, q_Ki, q_Kl, q_Kr, q_k0, q_kS, q_rc, q_ps, q_pn, q_aload0, q_iconst, q_putfieldI, q_iload1, q_if_eq, q_iload2, q_if_lt, q_getfieldA, q_iaload, q_icmp_ge, q_iload3, q_if_ne, q_ireturn0, q_bipush, q_imul, q_iadd, q_istore, q_iload, q_getfieldI, q_icmp_lt, q_icmp_ne, q_goto, q_isub, q_icmp_eq, rf_11_65, rf_11_66, rf_11_67, rf_11_75, rf_11_76, mmKe_1265, mmKe_1266, mmKe_1267, mmKe_1275, mmKe_1276, mmKo_11, mmLen_1265, mmLen_1266, mmLen_1267, mmLen_1275, mmLen_1276, mmR32, mmR64, Option.some.injEq, Int.cast_ofNat_Int, and_true, true_and, if_true, if_false, List.length_cons, List.length_nil, Nat.le_refl, Nat.zero_le, Nat.sub_zero, forall_const, reduceCtorEq, Nat.reduceAdd, Nat.reduceSub, Nat.reduceLeDiff, Nat.reduceEqDiff, Int.reduceAdd, Int.reduceNeg, Int.reduceSub, Int.reduceLT, Int.reduceLE, Int.reduceMul, Int.reduceEq, List.drop_zero, List.drop_succ_cons, ne_eq, not_false_eq_true, not_true_eq_false, false_and, and_false, false_implies, true_implies, reduceIte, mmU_rd, implies_true, or_false, false_or, or_true, true_or]
  rw [q_invV (pay := [])]
  simp only [q_k0, q_kS, q_rc, mmKo_11]
  refine ⟨Nat.le_of_ble_eq_true rfl, by trivial, Nat.zero_le _, Nat.zero_le _, ?_⟩
  refine sq_isLetter ?_
  rw [hM2.1]
  simp only [mmK_cut cd_221, q_cons, q_G0, q_GS, q_I1, q_L1, q_A1, q_S0, q_S1, q_SS, q_T0, q_T1, q_TS, q_Kn, q_Ki, q_Kl, q_Kr, q_k0, q_kS, q_rc, q_ps, q_pn, q_aload0, q_iconst, q_putfieldI, q_iload1, q_if_eq, q_iload2, q_if_lt, q_getfieldA, q_iaload, q_icmp_ge, q_iload3, q_if_ne, q_ireturn0, q_bipush, q_imul, q_iadd, q_istore, q_iload, q_getfieldI, q_icmp_lt, q_icmp_ne, q_goto, q_isub, q_icmp_eq, rf_11_65, rf_11_66, rf_11_67, rf_11_75, rf_11_76, mmKe_1265, mmKe_1266, mmKe_1267, mmKe_1275, mmKe_1276, mmKo_11, mmLen_1265, mmLen_1266, mmLen_1267, mmLen_1275, mmLen_1276, mmR32, mmR64, Option.some.injEq, Int.cast_ofNat_Int, and_true, true_and, if_true, if_false, List.length_cons, List.length_nil, Nat.le_refl, Nat.zero_le, Nat.sub_zero, forall_const, reduceCtorEq, Nat.reduceAdd, Nat.reduceSub, Nat.reduceLeDiff, Nat.reduceEqDiff, Int.reduceAdd, Int.reduceNeg, Int.reduceSub, Int.reduceLT, Int.reduceLE, Int.reduceMul, Int.reduceEq, List.drop_zero, List.drop_succ_cons, ne_eq, not_false_eq_true, not_true_eq_false, false_and, and_false, false_implies, true_implies, reduceIte, mmU_rd, implies_true, or_false, false_or, or_true, true_or, bI_eq0]
  refine ⟨fun c => w22 (fun q => c q.1), fun c => ⟨fun c2 => w22 (fun q => by omega), fun c2 => ?_⟩⟩
  have c := Classical.not_not.mp c
  have hN := nIf_in hW c
  rw [q_invV (pay := [])]
  simp only [q_k0, q_kS, q_rc, mmKo_11]
  refine ⟨Nat.le_of_ble_eq_true rfl, by trivial, Nat.zero_le _, Nat.zero_le _, ?_⟩
  refine sq_source hW (fun l l0 l1 => (hM2.2.2.1 l l0 l1).2.2.2.1) c ?_
  simp only [mmK_cut cd_221, q_cons, q_G0, q_GS, q_I1, q_L1, q_A1, q_S0, q_S1, q_SS, q_T0, q_T1, q_TS, q_Kn, q_Ki, q_Kl, q_Kr, q_k0, q_kS, q_rc, q_ps, q_pn, q_aload0, q_iconst, q_putfieldI, q_iload1, q_if_eq, q_iload2, q_if_lt, q_getfieldA, q_iaload, q_icmp_ge, q_iload3, q_if_ne, q_ireturn0, q_bipush, q_imul, q_iadd, q_istore, q_iload, q_getfieldI, q_icmp_lt, q_icmp_ne, q_goto, q_isub, q_icmp_eq, rf_11_65, rf_11_66, rf_11_67, rf_11_75, rf_11_76, mmKe_1265, mmKe_1266, mmKe_1267, mmKe_1275, mmKe_1276, mmKo_11, mmLen_1265, mmLen_1266, mmLen_1267, mmLen_1275, mmLen_1276, mmR32, mmR64, Option.some.injEq, Int.cast_ofNat_Int, and_true, true_and, if_true, if_false, List.length_cons, List.length_nil, Nat.le_refl, Nat.zero_le, Nat.sub_zero, forall_const, reduceCtorEq, Nat.reduceAdd, Nat.reduceSub, Nat.reduceLeDiff, Nat.reduceEqDiff, Int.reduceAdd, Int.reduceNeg, Int.reduceSub, Int.reduceLT, Int.reduceLE, Int.reduceMul, Int.reduceEq, List.drop_zero, List.drop_succ_cons, ne_eq, not_false_eq_true, not_true_eq_false, false_and, and_false, false_implies, true_implies, reduceIte, mmU_rd, implies_true, or_false, false_or, or_true, true_or]
  have e7 : mmU I 11 0 2 0 1275 0 (L 6 l) = nIf L l := (hM2.2.2.1 _ hN.1.1 hN.1.2).2.2.2.2
  have e7' : I 1275 0 (L 6 l) = nIf L l := e7
  rw [e7']
  refine ⟨by omega, by omega, fun c3 => w22 (fun q => by omega), fun c3 => ?_⟩
  rw [q_invS (pay := [])]
  simp only [q_k0, q_kS]
  refine ⟨Nat.le_of_ble_eq_true rfl, Nat.zero_le _, Nat.zero_le _, ?_⟩
  refine m_isBit ?_
  simp only [mmK_cut cd_221, q_cons, q_G0, q_GS, q_I1, q_L1, q_A1, q_S0, q_S1, q_SS, q_T0, q_T1, q_TS, q_Kn, q_Ki, q_Kl, q_Kr, q_k0, q_kS, q_rc, q_ps, q_pn, q_aload0, q_iconst, q_putfieldI, q_iload1, q_if_eq, q_iload2, q_if_lt, q_getfieldA, q_iaload, q_icmp_ge, q_iload3, q_if_ne, q_ireturn0, q_bipush, q_imul, q_iadd, q_istore, q_iload, q_getfieldI, q_icmp_lt, q_icmp_ne, q_goto, q_isub, q_icmp_eq, rf_11_65, rf_11_66, rf_11_67, rf_11_75, rf_11_76, mmKe_1265, mmKe_1266, mmKe_1267, mmKe_1275, mmKe_1276, mmKo_11, mmLen_1265, mmLen_1266, mmLen_1267, mmLen_1275, mmLen_1276, mmR32, mmR64, Option.some.injEq, Int.cast_ofNat_Int, and_true, true_and, if_true, if_false, List.length_cons, List.length_nil, Nat.le_refl, Nat.zero_le, Nat.sub_zero, forall_const, reduceCtorEq, Nat.reduceAdd, Nat.reduceSub, Nat.reduceLeDiff, Nat.reduceEqDiff, Int.reduceAdd, Int.reduceNeg, Int.reduceSub, Int.reduceLT, Int.reduceLE, Int.reduceMul, Int.reduceEq, List.drop_zero, List.drop_succ_cons, ne_eq, not_false_eq_true, not_true_eq_false, false_and, and_false, false_implies, true_implies, reduceIte, mmU_rd, implies_true, or_false, false_or, or_true, true_or, bI_eq0]
  refine ⟨fun c4 => ?_, fun c4 => w22 (fun q => c4 q.2.2)⟩
  have c4 := Classical.not_not.mp c4
  clear w22 e7 e7'
  rw [cI_pos ⟨c, ⟨c2, c3⟩, c4⟩] at hQ
  refine mmC_step ?_
  simp only [cd_221, sg_221_0, sg_221_22, sg_221_24, sg_221_48, sg_221_64, sg_221_65, sg_221_66, sg_221_70, sg_221_92, sg_221_94, sg_221_108, sg_221_110, sg_221_117, sg_221_122, sg_221_123, mmK_cut cd_221, q_cons, q_G0, q_GS, q_I1, q_L1, q_A1, q_S0, q_S1, q_SS, q_T0, q_T1, q_TS, q_Kn, q_Ki, q_Kl, q_Kr, q_k0, q_kS, q_rc, q_ps, q_pn, q_aload0, q_iconst, q_putfieldI, q_iload1, q_if_eq, q_iload2, q_if_lt, q_getfieldA, q_iaload, q_icmp_ge, q_iload3, q_if_ne, q_ireturn0, q_bipush, q_imul, q_iadd, q_istore, q_iload, q_getfieldI, q_icmp_lt, q_icmp_ne, q_goto, q_isub, q_icmp_eq, rf_11_65, rf_11_66, rf_11_67, rf_11_75, rf_11_76, mmKe_1265, mmKe_1266, mmKe_1267, mmKe_1275, mmKe_1276, mmKo_11, mmLen_1265, mmLen_1266, mmLen_1267, mmLen_1275, mmLen_1276, mmR32, mmR64, Option.some.injEq, Int.cast_ofNat_Int, and_true, true_and, if_true, if_false, List.length_cons, List.length_nil, Nat.le_refl, Nat.zero_le, Nat.sub_zero, forall_const, reduceCtorEq, Nat.reduceAdd, Nat.reduceSub, Nat.reduceLeDiff, Nat.reduceEqDiff, Int.reduceAdd, Int.reduceNeg, Int.reduceSub, Int.reduceLT, Int.reduceLE, Int.reduceMul, Int.reduceEq, List.drop_zero, List.drop_succ_cons, ne_eq, not_false_eq_true, not_true_eq_false, false_and, and_false, false_implies, true_implies, reduceIte, mmU_rd, implies_true, or_false, false_or, or_true, true_or]
  rw [q_invV (pay := [])]
  simp only [q_k0, q_kS, q_rc, mmKo_11]
  refine ⟨Nat.le_of_ble_eq_true rfl, by trivial, Nat.zero_le _, Nat.zero_le _, ?_⟩
  refine mT_use (m_layRowQ (w := 0) ⟨by omega, by omega⟩ hI2) (fun u I1 q1 => ?_)
  obtain ⟨rfl, f1, h1, hR⟩ := q1
  have f2 := FrNq_trans (FrNq_2 (I := I) (v := 0)) f1
  obtain ⟨hq, hB, hNN, hlen⟩ := vI h1 0
  have hM1 := h1.2.2.1
  obtain ⟨g1, g2, g3, g4, g5⟩ := if_in hW c (k := k) ⟨c2, c3⟩
  obtain ⟨i8, i9, i10⟩ := hM1.2.2.2 (L 6 l) k g1.1 g1.2 c2 (by unfold nIf at c3; exact c3)
  have e8 : I1 1276 0 (18 * L 6 l + 3 * k) = L 8 (L 6 l * 6 + k) := by rw [show 18 * L 6 l + 3 * k = 3 * (L 6 l * 6 + k) by omega]; exact i8
  have e9 : I1 1276 0 (18 * L 6 l + 3 * k + 1) = L 9 (L 6 l * 6 + k) := by rw [show 18 * L 6 l + 3 * k = 3 * (L 6 l * 6 + k) by omega]; exact i9
  simp only [mmK_cut cd_221, q_cons, q_G0, q_GS, q_I1, q_L1, q_A1, q_S0, q_S1, q_SS, q_T0, q_T1, q_TS, q_Kn, q_Ki, q_Kl, q_Kr, q_k0, q_kS, q_rc, q_ps, q_pn, q_aload0, q_iconst, q_putfieldI, q_iload1, q_if_eq, q_iload2, q_if_lt, q_getfieldA, q_iaload, q_icmp_ge, q_iload3, q_if_ne, q_ireturn0, q_bipush, q_imul, q_iadd, q_istore, q_iload, q_getfieldI, q_icmp_lt, q_icmp_ne, q_goto, q_isub, q_icmp_eq, rf_11_65, rf_11_66, rf_11_67, rf_11_75, rf_11_76, mmKe_1265, mmKe_1266, mmKe_1267, mmKe_1275, mmKe_1276, mmKo_11, mmLen_1265, mmLen_1266, mmLen_1267, mmLen_1275, mmLen_1276, mmR32, mmR64, Option.some.injEq, Int.cast_ofNat_Int, and_true, true_and, if_true, if_false, List.length_cons, List.length_nil, Nat.le_refl, Nat.zero_le, Nat.sub_zero, forall_const, reduceCtorEq, Nat.reduceAdd, Nat.reduceSub, Nat.reduceLeDiff, Nat.reduceEqDiff, Int.reduceAdd, Int.reduceNeg, Int.reduceSub, Int.reduceLT, Int.reduceLE, Int.reduceMul, Int.reduceEq, List.drop_zero, List.drop_succ_cons, ne_eq, not_false_eq_true, not_true_eq_false, false_and, and_false, false_implies, true_implies, reduceIte, mmU_rd, implies_true, or_false, false_or, or_true, true_or]
  rw [q_invV (pay := [])]
  simp only [q_k0, q_kS, q_rc, mmKo_11]
  refine ⟨Nat.le_of_ble_eq_true rfl, by trivial, Nat.zero_le _, Nat.zero_le _, ?_⟩
  refine sq_source hW (fun l l0 l1 => (hM1.2.2.1 l l0 l1).2.2.2.1) c ?_
  simp only [mmK_cut cd_221, q_cons, q_G0, q_GS, q_I1, q_L1, q_A1, q_S0, q_S1, q_SS, q_T0, q_T1, q_TS, q_Kn, q_Ki, q_Kl, q_Kr, q_k0, q_kS, q_rc, q_ps, q_pn, q_aload0, q_iconst, q_putfieldI, q_iload1, q_if_eq, q_iload2, q_if_lt, q_getfieldA, q_iaload, q_icmp_ge, q_iload3, q_if_ne, q_ireturn0, q_bipush, q_imul, q_iadd, q_istore, q_iload, q_getfieldI, q_icmp_lt, q_icmp_ne, q_goto, q_isub, q_icmp_eq, rf_11_65, rf_11_66, rf_11_67, rf_11_75, rf_11_76, mmKe_1265, mmKe_1266, mmKe_1267, mmKe_1275, mmKe_1276, mmKo_11, mmLen_1265, mmLen_1266, mmLen_1267, mmLen_1275, mmLen_1276, mmR32, mmR64, Option.some.injEq, Int.cast_ofNat_Int, and_true, true_and, if_true, if_false, List.length_cons, List.length_nil, Nat.le_refl, Nat.zero_le, Nat.sub_zero, forall_const, reduceCtorEq, Nat.reduceAdd, Nat.reduceSub, Nat.reduceLeDiff, Nat.reduceEqDiff, Int.reduceAdd, Int.reduceNeg, Int.reduceSub, Int.reduceLT, Int.reduceLE, Int.reduceMul, Int.reduceEq, List.drop_zero, List.drop_succ_cons, ne_eq, not_false_eq_true, not_true_eq_false, false_and, and_false, false_implies, true_implies, reduceIte, mmU_rd, implies_true, or_false, false_or, or_true, true_or]
  rw [e8, VR_N hR]
  have hft : ftA r L l k = cI (L 8 (L 6 l * 6 + k) < vN r L 0) (ftV L (r 6 7) (rM r L (vT r L 0) (L 8 (L 6 l * 6 + k))) (rC r L (vT r L 0) (L 8 (L 6 l * 6 + k))) l k) 0 := rfl
  have hfit : fitP L (rM r L (vT r L 0) (L 8 (L 6 l * 6 + k))) l k ↔ (L 9 (L 6 l * 6 + k) = -1 ∨ L 9 (L 6 l * 6 + k) = rM r L (vT r L 0) (L 8 (L 6 l * 6 + k))) := Iff.rfl
  generalize hp : L 8 (L 6 l * 6 + k) = p at *
  generalize h9 : L 9 (L 6 l * 6 + k) = ah at *
  refine ⟨by omega, by omega, by omega, by omega, by omega, fun cp => ?_, fun cp => ?_⟩
  · have hrg := (rNN_in (r := r) (L := L) (T := vT r L 0)).2.1 p g3.1 cp
    have hTL := (od_TL (z := r 6 7) (K := Kv L (L 3) 0) hW).1
    have hch := ch_in hTL hrg.2
    have hvp := VR_p hR g3.1 cp
    have hc1 : (rC r L (vT r L 0) p).1 ∈ vT r L 0 ∧ (0 ≤ (rC r L (vT r L 0) p).2 ∧ (rC r L (vT r L 0) p).2 < nIf L (rC r L (vT r L 0) p).1) ∧ ifP r L p (rH r L (vT r L 0) p) (rM r L (vT r L 0) p) (rC r L (vT r L 0) p).1 (rC r L (vT r L 0) p).2 := hch
    have hcl := hTL _ hc1.1
    have hrm0 : p = 0 → rM r L (vT r L 0) p = -1 := fun q => by rw [q]; exact rM_0
    have hrm1 : 0 < p → I1 1265 0 (p - 1) = rM r L (vT r L 0) p := fun q => by
      rw [(VR_p hR (i := p - 1) (by omega) (by omega)).1, ← rM_s (by omega), show p - 1 + 1 = p by omega]
    have hrmN : -1 ≤ rM r L (vT r L 0) p := by
      by_cases c0 : p = 0
      · rw [hrm0 c0]
        omega
      · have e := rM_s (r := r) (L := L) (T := vT r L 0) (i := p - 1) (by omega)
        rw [show p - 1 + 1 = p by omega] at e
        have hg2 := (rNN_in (r := r) (L := L) (T := vT r L 0)).2.1 (p - 1) (by omega) (by unfold vN at cp; omega)
        have h3 := ch_in hTL hg2.2
        have h4 := if_in hW (hTL _ h3.1) h3.2.1
        rw [e]
        have h5 : 0 ≤ rV r L (vT r L 0) (p - 1) := h4.2.2.2.2.1
        omega
    rw [cI_pos cp] at hft
    generalize hcc : rC r L (vT r L 0) p = cc at *
    generalize hla : rM r L (vT r L 0) p = la at *
    have w66 : ¬ (l = cc.1 ∧ k = cc.2) → ∀ l6, mmK (d + 10) 221 Q 66 [some (mo 11 0), some (mv l), some (mv k), some (mv q), some (mv (18 * L 6 l + 3 * k)), some (mv p), l6] [] (I1, mmRf a br, X) := by
      intro hne l6
      have hneg : ftA r L l k < 0 := by
        rw [hft]; unfold ftV
        by_cases d1 : fitP L la l k
        · rw [cI_pos d1, cI_neg hne]
          by_cases d2 : befP L (r 6 7) l k cc
          · rw [cI_pos d2]; omega
          · rw [cI_neg d2]; omega
        · rw [cI_neg d1]; omega
      refine mmC_step ?_
      simp only [cd_221, sg_221_0, sg_221_22, sg_221_24, sg_221_48, sg_221_64, sg_221_65, sg_221_66, sg_221_70, sg_221_92, sg_221_94, sg_221_108, sg_221_110, sg_221_117, sg_221_122, sg_221_123, mmK_cut cd_221, q_cons, q_G0, q_GS, q_I1, q_L1, q_A1, q_S0, q_S1, q_SS, q_T0, q_T1, q_TS, q_Kn, q_Ki, q_Kl, q_Kr, q_k0, q_kS, q_rc, q_ps, q_pn, q_aload0, q_iconst, q_putfieldI, q_iload1, q_if_eq, q_iload2, q_if_lt, q_getfieldA, q_iaload, q_icmp_ge, q_iload3, q_if_ne, q_ireturn0, q_bipush, q_imul, q_iadd, q_istore, q_iload, q_getfieldI, q_icmp_lt, q_icmp_ne, q_goto, q_isub, q_icmp_eq, rf_11_65, rf_11_66, rf_11_67, rf_11_75, rf_11_76, mmKe_1265, mmKe_1266, mmKe_1267, mmKe_1275, mmKe_1276, mmKo_11, mmLen_1265, mmLen_1266, mmLen_1267, mmLen_1275, mmLen_1276, mmR32, mmR64, Option.some.injEq, Int.cast_ofNat_Int, and_true, true_and, if_true, if_false, List.length_cons, List.length_nil, Nat.le_refl, Nat.zero_le, Nat.sub_zero, forall_const, reduceCtorEq, Nat.reduceAdd, Nat.reduceSub, Nat.reduceLeDiff, Nat.reduceEqDiff, Int.reduceAdd, Int.reduceNeg, Int.reduceSub, Int.reduceLT, Int.reduceLE, Int.reduceMul, Int.reduceEq, List.drop_zero, List.drop_succ_cons, ne_eq, not_false_eq_true, not_true_eq_false, false_and, and_false, false_implies, true_implies, reduceIte, mmU_rd, implies_true, or_false, false_or, or_true, true_or]
      refine ⟨fun cq => ?_, fun cq => ?_⟩
      · have cq1 : q = 1 := by omega
        rw [cI_pos cq1, cI_pos hneg, hft] at hQ
        unfold ftV at hQ
        have w92 : ¬ fitP L la l k → mmK (d + 10) 221 Q 92 [some (mo 11 0), some (mv l), some (mv k), some (mv q), some (mv (18 * L 6 l + 3 * k)), some (mv p), l6] [] (I1, mmRf a br, X) := by
          intro hnf
          rw [cI_neg hnf] at hQ
          refine mmC_step ?_
          simp only [cd_221, sg_221_0, sg_221_22, sg_221_24, sg_221_48, sg_221_64, sg_221_65, sg_221_66, sg_221_70, sg_221_92, sg_221_94, sg_221_108, sg_221_110, sg_221_117, sg_221_122, sg_221_123, mmK_cut cd_221, q_cons, q_G0, q_GS, q_I1, q_L1, q_A1, q_S0, q_S1, q_SS, q_T0, q_T1, q_TS, q_Kn, q_Ki, q_Kl, q_Kr, q_k0, q_kS, q_rc, q_ps, q_pn, q_aload0, q_iconst, q_putfieldI, q_iload1, q_if_eq, q_iload2, q_if_lt, q_getfieldA, q_iaload, q_icmp_ge, q_iload3, q_if_ne, q_ireturn0, q_bipush, q_imul, q_iadd, q_istore, q_iload, q_getfieldI, q_icmp_lt, q_icmp_ne, q_goto, q_isub, q_icmp_eq, rf_11_65, rf_11_66, rf_11_67, rf_11_75, rf_11_76, mmKe_1265, mmKe_1266, mmKe_1267, mmKe_1275, mmKe_1276, mmKo_11, mmLen_1265, mmLen_1266, mmLen_1267, mmLen_1275, mmLen_1276, mmR32, mmR64, Option.some.injEq, Int.cast_ofNat_Int, and_true, true_and, if_true, if_false, List.length_cons, List.length_nil, Nat.le_refl, Nat.zero_le, Nat.sub_zero, forall_const, reduceCtorEq, Nat.reduceAdd, Nat.reduceSub, Nat.reduceLeDiff, Nat.reduceEqDiff, Int.reduceAdd, Int.reduceNeg, Int.reduceSub, Int.reduceLT, Int.reduceLE, Int.reduceMul, Int.reduceEq, List.drop_zero, List.drop_succ_cons, ne_eq, not_false_eq_true, not_true_eq_false, false_and, and_false, false_implies, true_implies, reduceIte, mmU_rd, implies_true, or_false, false_or, or_true, true_or]
          exact hQ I1 f2
        have w117 : fitP L la l k → ∀ s : Int, (s = 0 ∧ ¬ befP L (r 6 7) l k cc) ∨ (s = 1 ∧ befP L (r 6 7) l k cc) → mmK (d + 10) 221 Q 117 [some (mo 11 0), some (mv l), some (mv k), some (mv q), some (mv (18 * L 6 l + 3 * k)), some (mv p), l6] [mv s] (I1, mmRf a br, X) := by
          intro hf s hs
          rw [cI_pos hf, cI_neg hne] at hQ
          refine mmC_step ?_
          simp only [cd_221, sg_221_0, sg_221_22, sg_221_24, sg_221_48, sg_221_64, sg_221_65, sg_221_66, sg_221_70, sg_221_92, sg_221_94, sg_221_108, sg_221_110, sg_221_117, sg_221_122, sg_221_123, mmK_cut cd_221, q_cons, q_G0, q_GS, q_I1, q_L1, q_A1, q_S0, q_S1, q_SS, q_T0, q_T1, q_TS, q_Kn, q_Ki, q_Kl, q_Kr, q_k0, q_kS, q_rc, q_ps, q_pn, q_aload0, q_iconst, q_putfieldI, q_iload1, q_if_eq, q_iload2, q_if_lt, q_getfieldA, q_iaload, q_icmp_ge, q_iload3, q_if_ne, q_ireturn0, q_bipush, q_imul, q_iadd, q_istore, q_iload, q_getfieldI, q_icmp_lt, q_icmp_ne, q_goto, q_isub, q_icmp_eq, rf_11_65, rf_11_66, rf_11_67, rf_11_75, rf_11_76, mmKe_1265, mmKe_1266, mmKe_1267, mmKe_1275, mmKe_1276, mmKo_11, mmLen_1265, mmLen_1266, mmLen_1267, mmLen_1275, mmLen_1276, mmR32, mmR64, Option.some.injEq, Int.cast_ofNat_Int, and_true, true_and, if_true, if_false, List.length_cons, List.length_nil, Nat.le_refl, Nat.zero_le, Nat.sub_zero, forall_const, reduceCtorEq, Nat.reduceAdd, Nat.reduceSub, Nat.reduceLeDiff, Nat.reduceEqDiff, Int.reduceAdd, Int.reduceNeg, Int.reduceSub, Int.reduceLT, Int.reduceLE, Int.reduceMul, Int.reduceEq, List.drop_zero, List.drop_succ_cons, ne_eq, not_false_eq_true, not_true_eq_false, false_and, and_false, false_implies, true_implies, reduceIte, mmU_rd, implies_true, or_false, false_or, or_true, true_or]
          refine ⟨fun cs => ?_, fun cs => ?_⟩
          · rcases hs with q1 | q1
            · rw [cI_neg q1.2] at hQ
              refine mmC_step ?_
              simp only [cd_221, sg_221_0, sg_221_22, sg_221_24, sg_221_48, sg_221_64, sg_221_65, sg_221_66, sg_221_70, sg_221_92, sg_221_94, sg_221_108, sg_221_110, sg_221_117, sg_221_122, sg_221_123, mmK_cut cd_221, q_cons, q_G0, q_GS, q_I1, q_L1, q_A1, q_S0, q_S1, q_SS, q_T0, q_T1, q_TS, q_Kn, q_Ki, q_Kl, q_Kr, q_k0, q_kS, q_rc, q_ps, q_pn, q_aload0, q_iconst, q_putfieldI, q_iload1, q_if_eq, q_iload2, q_if_lt, q_getfieldA, q_iaload, q_icmp_ge, q_iload3, q_if_ne, q_ireturn0, q_bipush, q_imul, q_iadd, q_istore, q_iload, q_getfieldI, q_icmp_lt, q_icmp_ne, q_goto, q_isub, q_icmp_eq, rf_11_65, rf_11_66, rf_11_67, rf_11_75, rf_11_76, mmKe_1265, mmKe_1266, mmKe_1267, mmKe_1275, mmKe_1276, mmKo_11, mmLen_1265, mmLen_1266, mmLen_1267, mmLen_1275, mmLen_1276, mmR32, mmR64, Option.some.injEq, Int.cast_ofNat_Int, and_true, true_and, if_true, if_false, List.length_cons, List.length_nil, Nat.le_refl, Nat.zero_le, Nat.sub_zero, forall_const, reduceCtorEq, Nat.reduceAdd, Nat.reduceSub, Nat.reduceLeDiff, Nat.reduceEqDiff, Int.reduceAdd, Int.reduceNeg, Int.reduceSub, Int.reduceLT, Int.reduceLE, Int.reduceMul, Int.reduceEq, List.drop_zero, List.drop_succ_cons, ne_eq, not_false_eq_true, not_true_eq_false, false_and, and_false, false_implies, true_implies, reduceIte, mmU_rd, implies_true, or_false, false_or, or_true, true_or]
              refine mmC_step ?_
              simp only [cd_221, sg_221_0, sg_221_22, sg_221_24, sg_221_48, sg_221_64, sg_221_65, sg_221_66, sg_221_70, sg_221_92, sg_221_94, sg_221_108, sg_221_110, sg_221_117, sg_221_122, sg_221_123, mmK_cut cd_221, q_cons, q_G0, q_GS, q_I1, q_L1, q_A1, q_S0, q_S1, q_SS, q_T0, q_T1, q_TS, q_Kn, q_Ki, q_Kl, q_Kr, q_k0, q_kS, q_rc, q_ps, q_pn, q_aload0, q_iconst, q_putfieldI, q_iload1, q_if_eq, q_iload2, q_if_lt, q_getfieldA, q_iaload, q_icmp_ge, q_iload3, q_if_ne, q_ireturn0, q_bipush, q_imul, q_iadd, q_istore, q_iload, q_getfieldI, q_icmp_lt, q_icmp_ne, q_goto, q_isub, q_icmp_eq, rf_11_65, rf_11_66, rf_11_67, rf_11_75, rf_11_76, mmKe_1265, mmKe_1266, mmKe_1267, mmKe_1275, mmKe_1276, mmKo_11, mmLen_1265, mmLen_1266, mmLen_1267, mmLen_1275, mmLen_1276, mmR32, mmR64, Option.some.injEq, Int.cast_ofNat_Int, and_true, true_and, if_true, if_false, List.length_cons, List.length_nil, Nat.le_refl, Nat.zero_le, Nat.sub_zero, forall_const, reduceCtorEq, Nat.reduceAdd, Nat.reduceSub, Nat.reduceLeDiff, Nat.reduceEqDiff, Int.reduceAdd, Int.reduceNeg, Int.reduceSub, Int.reduceLT, Int.reduceLE, Int.reduceMul, Int.reduceEq, List.drop_zero, List.drop_succ_cons, ne_eq, not_false_eq_true, not_true_eq_false, false_and, and_false, false_implies, true_implies, reduceIte, mmU_rd, implies_true, or_false, false_or, or_true, true_or]
              exact hQ I1 f2
            · omega
          · rcases hs with q1 | q1
            · exact absurd q1.1 cs
            · rw [cI_pos q1.2] at hQ
              refine mmC_step ?_
              simp only [cd_221, sg_221_0, sg_221_22, sg_221_24, sg_221_48, sg_221_64, sg_221_65, sg_221_66, sg_221_70, sg_221_92, sg_221_94, sg_221_108, sg_221_110, sg_221_117, sg_221_122, sg_221_123, mmK_cut cd_221, q_cons, q_G0, q_GS, q_I1, q_L1, q_A1, q_S0, q_S1, q_SS, q_T0, q_T1, q_TS, q_Kn, q_Ki, q_Kl, q_Kr, q_k0, q_kS, q_rc, q_ps, q_pn, q_aload0, q_iconst, q_putfieldI, q_iload1, q_if_eq, q_iload2, q_if_lt, q_getfieldA, q_iaload, q_icmp_ge, q_iload3, q_if_ne, q_ireturn0, q_bipush, q_imul, q_iadd, q_istore, q_iload, q_getfieldI, q_icmp_lt, q_icmp_ne, q_goto, q_isub, q_icmp_eq, rf_11_65, rf_11_66, rf_11_67, rf_11_75, rf_11_76, mmKe_1265, mmKe_1266, mmKe_1267, mmKe_1275, mmKe_1276, mmKo_11, mmLen_1265, mmLen_1266, mmLen_1267, mmLen_1275, mmLen_1276, mmR32, mmR64, Option.some.injEq, Int.cast_ofNat_Int, and_true, true_and, if_true, if_false, List.length_cons, List.length_nil, Nat.le_refl, Nat.zero_le, Nat.sub_zero, forall_const, reduceCtorEq, Nat.reduceAdd, Nat.reduceSub, Nat.reduceLeDiff, Nat.reduceEqDiff, Int.reduceAdd, Int.reduceNeg, Int.reduceSub, Int.reduceLT, Int.reduceLE, Int.reduceMul, Int.reduceEq, List.drop_zero, List.drop_succ_cons, ne_eq, not_false_eq_true, not_true_eq_false, false_and, and_false, false_implies, true_implies, reduceIte, mmU_rd, implies_true, or_false, false_or, or_true, true_or]
              exact hQ I1 f2
        have w94 : fitP L la l k → mmK (d + 10) 221 Q 94 [some (mo 11 0), some (mv l), some (mv k), some (mv q), some (mv (18 * L 6 l + 3 * k)), some (mv p), l6] [] (I1, mmRf a br, X) := by
          intro hf
          refine mmC_step ?_
          simp only [cd_221, sg_221_0, sg_221_22, sg_221_24, sg_221_48, sg_221_64, sg_221_65, sg_221_66, sg_221_70, sg_221_92, sg_221_94, sg_221_108, sg_221_110, sg_221_117, sg_221_122, sg_221_123, mmK_cut cd_221, q_cons, q_G0, q_GS, q_I1, q_L1, q_A1, q_S0, q_S1, q_SS, q_T0, q_T1, q_TS, q_Kn, q_Ki, q_Kl, q_Kr, q_k0, q_kS, q_rc, q_ps, q_pn, q_aload0, q_iconst, q_putfieldI, q_iload1, q_if_eq, q_iload2, q_if_lt, q_getfieldA, q_iaload, q_icmp_ge, q_iload3, q_if_ne, q_ireturn0, q_bipush, q_imul, q_iadd, q_istore, q_iload, q_getfieldI, q_icmp_lt, q_icmp_ne, q_goto, q_isub, q_icmp_eq, rf_11_65, rf_11_66, rf_11_67, rf_11_75, rf_11_76, mmKe_1265, mmKe_1266, mmKe_1267, mmKe_1275, mmKe_1276, mmKo_11, mmLen_1265, mmLen_1266, mmLen_1267, mmLen_1275, mmLen_1276, mmR32, mmR64, Option.some.injEq, Int.cast_ofNat_Int, and_true, true_and, if_true, if_false, List.length_cons, List.length_nil, Nat.le_refl, Nat.zero_le, Nat.sub_zero, forall_const, reduceCtorEq, Nat.reduceAdd, Nat.reduceSub, Nat.reduceLeDiff, Nat.reduceEqDiff, Int.reduceAdd, Int.reduceNeg, Int.reduceSub, Int.reduceLT, Int.reduceLE, Int.reduceMul, Int.reduceEq, List.drop_zero, List.drop_succ_cons, ne_eq, not_false_eq_true, not_true_eq_false, false_and, and_false, false_implies, true_implies, reduceIte, mmU_rd, implies_true, or_false, false_or, or_true, true_or]
          rw [hvp.2.1, hvp.2.2]
          refine ⟨g3.1, by omega, fun d1 => ?_, fun d1 => ⟨g3.1, by omega, fun d2 => ?_, fun d2 => ?_⟩⟩
          · refine mmC_step ?_
            simp only [cd_221, sg_221_0, sg_221_22, sg_221_24, sg_221_48, sg_221_64, sg_221_65, sg_221_66, sg_221_70, sg_221_92, sg_221_94, sg_221_108, sg_221_110, sg_221_117, sg_221_122, sg_221_123, mmK_cut cd_221, q_cons, q_G0, q_GS, q_I1, q_L1, q_A1, q_S0, q_S1, q_SS, q_T0, q_T1, q_TS, q_Kn, q_Ki, q_Kl, q_Kr, q_k0, q_kS, q_rc, q_ps, q_pn, q_aload0, q_iconst, q_putfieldI, q_iload1, q_if_eq, q_iload2, q_if_lt, q_getfieldA, q_iaload, q_icmp_ge, q_iload3, q_if_ne, q_ireturn0, q_bipush, q_imul, q_iadd, q_istore, q_iload, q_getfieldI, q_icmp_lt, q_icmp_ne, q_goto, q_isub, q_icmp_eq, rf_11_65, rf_11_66, rf_11_67, rf_11_75, rf_11_76, mmKe_1265, mmKe_1266, mmKe_1267, mmKe_1275, mmKe_1276, mmKo_11, mmLen_1265, mmLen_1266, mmLen_1267, mmLen_1275, mmLen_1276, mmR32, mmR64, Option.some.injEq, Int.cast_ofNat_Int, and_true, true_and, if_true, if_false, List.length_cons, List.length_nil, Nat.le_refl, Nat.zero_le, Nat.sub_zero, forall_const, reduceCtorEq, Nat.reduceAdd, Nat.reduceSub, Nat.reduceLeDiff, Nat.reduceEqDiff, Int.reduceAdd, Int.reduceNeg, Int.reduceSub, Int.reduceLT, Int.reduceLE, Int.reduceMul, Int.reduceEq, List.drop_zero, List.drop_succ_cons, ne_eq, not_false_eq_true, not_true_eq_false, false_and, and_false, false_implies, true_implies, reduceIte, mmU_rd, implies_true, or_false, false_or, or_true, true_or]
            rw [hvp.2.1]
            refine ⟨g3.1, by omega, ?_⟩
            rw [q_invV (pay := [])]
            simp only [q_k0, q_kS, q_rc, mmKo_11]
            refine ⟨Nat.le_of_ble_eq_true rfl, by trivial, Nat.zero_le _, Nat.zero_le _, ?_⟩
            refine m_isAhead (z := r 6 7) hq.1.2.2.2.2.2.2.2 h1.1.1.1.2.2.2.2.2.2.2 hM1 hW c hcl d1 ?_
            simp only [mmK_cut cd_221, q_cons, q_G0, q_GS, q_I1, q_L1, q_A1, q_S0, q_S1, q_SS, q_T0, q_T1, q_TS, q_Kn, q_Ki, q_Kl, q_Kr, q_k0, q_kS, q_rc, q_ps, q_pn, q_aload0, q_iconst, q_putfieldI, q_iload1, q_if_eq, q_iload2, q_if_lt, q_getfieldA, q_iaload, q_icmp_ge, q_iload3, q_if_ne, q_ireturn0, q_bipush, q_imul, q_iadd, q_istore, q_iload, q_getfieldI, q_icmp_lt, q_icmp_ne, q_goto, q_isub, q_icmp_eq, rf_11_65, rf_11_66, rf_11_67, rf_11_75, rf_11_76, mmKe_1265, mmKe_1266, mmKe_1267, mmKe_1275, mmKe_1276, mmKo_11, mmLen_1265, mmLen_1266, mmLen_1267, mmLen_1275, mmLen_1276, mmR32, mmR64, Option.some.injEq, Int.cast_ofNat_Int, and_true, true_and, if_true, if_false, List.length_cons, List.length_nil, Nat.le_refl, Nat.zero_le, Nat.sub_zero, forall_const, reduceCtorEq, Nat.reduceAdd, Nat.reduceSub, Nat.reduceLeDiff, Nat.reduceEqDiff, Int.reduceAdd, Int.reduceNeg, Int.reduceSub, Int.reduceLT, Int.reduceLE, Int.reduceMul, Int.reduceEq, List.drop_zero, List.drop_succ_cons, ne_eq, not_false_eq_true, not_true_eq_false, false_and, and_false, false_implies, true_implies, reduceIte, mmU_rd, implies_true, or_false, false_or, or_true, true_or]
            refine w117 hf _ ?_
            by_cases db : oW L (r 6 7) l < oW L (r 6 7) cc.1
            · rw [bI_pos db]; exact Or.inr ⟨rfl, Or.inr ⟨d1, db⟩⟩
            · rw [bI_neg db]
              refine Or.inl ⟨rfl, fun q => ?_⟩
              rcases q with q | q
              · exact d1 q.1
              · exact db q.2
          · refine mmC_step ?_
            simp only [cd_221, sg_221_0, sg_221_22, sg_221_24, sg_221_48, sg_221_64, sg_221_65, sg_221_66, sg_221_70, sg_221_92, sg_221_94, sg_221_108, sg_221_110, sg_221_117, sg_221_122, sg_221_123, mmK_cut cd_221, q_cons, q_G0, q_GS, q_I1, q_L1, q_A1, q_S0, q_S1, q_SS, q_T0, q_T1, q_TS, q_Kn, q_Ki, q_Kl, q_Kr, q_k0, q_kS, q_rc, q_ps, q_pn, q_aload0, q_iconst, q_putfieldI, q_iload1, q_if_eq, q_iload2, q_if_lt, q_getfieldA, q_iaload, q_icmp_ge, q_iload3, q_if_ne, q_ireturn0, q_bipush, q_imul, q_iadd, q_istore, q_iload, q_getfieldI, q_icmp_lt, q_icmp_ne, q_goto, q_isub, q_icmp_eq, rf_11_65, rf_11_66, rf_11_67, rf_11_75, rf_11_76, mmKe_1265, mmKe_1266, mmKe_1267, mmKe_1275, mmKe_1276, mmKo_11, mmLen_1265, mmLen_1266, mmLen_1267, mmLen_1275, mmLen_1276, mmR32, mmR64, Option.some.injEq, Int.cast_ofNat_Int, and_true, true_and, if_true, if_false, List.length_cons, List.length_nil, Nat.le_refl, Nat.zero_le, Nat.sub_zero, forall_const, reduceCtorEq, Nat.reduceAdd, Nat.reduceSub, Nat.reduceLeDiff, Nat.reduceEqDiff, Int.reduceAdd, Int.reduceNeg, Int.reduceSub, Int.reduceLT, Int.reduceLE, Int.reduceMul, Int.reduceEq, List.drop_zero, List.drop_succ_cons, ne_eq, not_false_eq_true, not_true_eq_false, false_and, and_false, false_implies, true_implies, reduceIte, mmU_rd, implies_true, or_false, false_or, or_true, true_or]
            refine w117 hf 0 (Or.inl ⟨rfl, fun q => ?_⟩)
            rcases q with q | q
            · omega
            · exact q.1 d1
          · exact w117 hf 1 (Or.inr ⟨rfl, Or.inl ⟨d1, d2⟩⟩)
        refine mmC_step ?_
        simp only [cd_221, sg_221_0, sg_221_22, sg_221_24, sg_221_48, sg_221_64, sg_221_65, sg_221_66, sg_221_70, sg_221_92, sg_221_94, sg_221_108, sg_221_110, sg_221_117, sg_221_122, sg_221_123, mmK_cut cd_221, q_cons, q_G0, q_GS, q_I1, q_L1, q_A1, q_S0, q_S1, q_SS, q_T0, q_T1, q_TS, q_Kn, q_Ki, q_Kl, q_Kr, q_k0, q_kS, q_rc, q_ps, q_pn, q_aload0, q_iconst, q_putfieldI, q_iload1, q_if_eq, q_iload2, q_if_lt, q_getfieldA, q_iaload, q_icmp_ge, q_iload3, q_if_ne, q_ireturn0, q_bipush, q_imul, q_iadd, q_istore, q_iload, q_getfieldI, q_icmp_lt, q_icmp_ne, q_goto, q_isub, q_icmp_eq, rf_11_65, rf_11_66, rf_11_67, rf_11_75, rf_11_76, mmKe_1265, mmKe_1266, mmKe_1267, mmKe_1275, mmKe_1276, mmKo_11, mmLen_1265, mmLen_1266, mmLen_1267, mmLen_1275, mmLen_1276, mmR32, mmR64, Option.some.injEq, Int.cast_ofNat_Int, and_true, true_and, if_true, if_false, List.length_cons, List.length_nil, Nat.le_refl, Nat.zero_le, Nat.sub_zero, forall_const, reduceCtorEq, Nat.reduceAdd, Nat.reduceSub, Nat.reduceLeDiff, Nat.reduceEqDiff, Int.reduceAdd, Int.reduceNeg, Int.reduceSub, Int.reduceLT, Int.reduceLE, Int.reduceMul, Int.reduceEq, List.drop_zero, List.drop_succ_cons, ne_eq, not_false_eq_true, not_true_eq_false, false_and, and_false, false_implies, true_implies, reduceIte, mmU_rd, implies_true, or_false, false_or, or_true, true_or]
        rw [e9]
        refine ⟨by omega, by omega, by omega, fun d1 => w94 (hfit.mpr (Or.inl (by omega))), fun d1 => ⟨fun d2 => w92 (fun q => ?_), fun d2 => ⟨by omega, by omega, by omega, by omega, by omega, by omega, fun d3 => ?_, fun d3 => ?_⟩⟩⟩
        · have := hrm0 d2
          rcases hfit.mp q with q | q <;> omega
        · rw [hrm1 (by omega)] at d3
          exact w94 (hfit.mpr (Or.inr d3))
        · rw [hrm1 (by omega)] at d3
          refine w92 (fun q => ?_)
          rcases hfit.mp q with q | q
          · omega
          · exact d3 q
      · rw [cI_neg (by omega), cI_pos hneg] at hQ
        exact hQ I1 f2
    refine mmC_step ?_
    simp only [cd_221, sg_221_0, sg_221_22, sg_221_24, sg_221_48, sg_221_64, sg_221_65, sg_221_66, sg_221_70, sg_221_92, sg_221_94, sg_221_108, sg_221_110, sg_221_117, sg_221_122, sg_221_123, mmK_cut cd_221, q_cons, q_G0, q_GS, q_I1, q_L1, q_A1, q_S0, q_S1, q_SS, q_T0, q_T1, q_TS, q_Kn, q_Ki, q_Kl, q_Kr, q_k0, q_kS, q_rc, q_ps, q_pn, q_aload0, q_iconst, q_putfieldI, q_iload1, q_if_eq, q_iload2, q_if_lt, q_getfieldA, q_iaload, q_icmp_ge, q_iload3, q_if_ne, q_ireturn0, q_bipush, q_imul, q_iadd, q_istore, q_iload, q_getfieldI, q_icmp_lt, q_icmp_ne, q_goto, q_isub, q_icmp_eq, rf_11_65, rf_11_66, rf_11_67, rf_11_75, rf_11_76, mmKe_1265, mmKe_1266, mmKe_1267, mmKe_1275, mmKe_1276, mmKo_11, mmLen_1265, mmLen_1266, mmLen_1267, mmLen_1275, mmLen_1276, mmR32, mmR64, Option.some.injEq, Int.cast_ofNat_Int, and_true, true_and, if_true, if_false, List.length_cons, List.length_nil, Nat.le_refl, Nat.zero_le, Nat.sub_zero, forall_const, reduceCtorEq, Nat.reduceAdd, Nat.reduceSub, Nat.reduceLeDiff, Nat.reduceEqDiff, Int.reduceAdd, Int.reduceNeg, Int.reduceSub, Int.reduceLT, Int.reduceLE, Int.reduceMul, Int.reduceEq, List.drop_zero, List.drop_succ_cons, ne_eq, not_false_eq_true, not_true_eq_false, false_and, and_false, false_implies, true_implies, reduceIte, mmU_rd, implies_true, or_false, false_or, or_true, true_or]
    rw [hvp.2.1, hvp.2.2]
    refine ⟨g3.1, by omega, fun d1 => w66 (fun q => d1 q.1.symm) _, fun d1 => ⟨g3.1, by omega, fun d2 => w66 (fun q => d2 q.2.symm) _, fun d2 => ?_⟩⟩
    have hf1 : ftA r L l k = 1 := by
      rw [hft]; unfold ftV
      have hfi : fitP L la l k := by
        have := hc1.2.2.2.1
        rw [d1, d2] at this
        exact this
      rw [cI_pos hfi, cI_pos ⟨d1.symm, d2.symm⟩]
    rw [hf1] at hQ
    refine ⟨fun cq => ?_, fun cq => ?_⟩
    · rw [cI_pos (by omega), cI_neg (by omega)] at hQ
      refine mmC_step ?_
      simp only [cd_221, sg_221_0, sg_221_22, sg_221_24, sg_221_48, sg_221_64, sg_221_65, sg_221_66, sg_221_70, sg_221_92, sg_221_94, sg_221_108, sg_221_110, sg_221_117, sg_221_122, sg_221_123, mmK_cut cd_221, q_cons, q_G0, q_GS, q_I1, q_L1, q_A1, q_S0, q_S1, q_SS, q_T0, q_T1, q_TS, q_Kn, q_Ki, q_Kl, q_Kr, q_k0, q_kS, q_rc, q_ps, q_pn, q_aload0, q_iconst, q_putfieldI, q_iload1, q_if_eq, q_iload2, q_if_lt, q_getfieldA, q_iaload, q_icmp_ge, q_iload3, q_if_ne, q_ireturn0, q_bipush, q_imul, q_iadd, q_istore, q_iload, q_getfieldI, q_icmp_lt, q_icmp_ne, q_goto, q_isub, q_icmp_eq, rf_11_65, rf_11_66, rf_11_67, rf_11_75, rf_11_76, mmKe_1265, mmKe_1266, mmKe_1267, mmKe_1275, mmKe_1276, mmKo_11, mmLen_1265, mmLen_1266, mmLen_1267, mmLen_1275, mmLen_1276, mmR32, mmR64, Option.some.injEq, Int.cast_ofNat_Int, and_true, true_and, if_true, if_false, List.length_cons, List.length_nil, Nat.le_refl, Nat.zero_le, Nat.sub_zero, forall_const, reduceCtorEq, Nat.reduceAdd, Nat.reduceSub, Nat.reduceLeDiff, Nat.reduceEqDiff, Int.reduceAdd, Int.reduceNeg, Int.reduceSub, Int.reduceLT, Int.reduceLE, Int.reduceMul, Int.reduceEq, List.drop_zero, List.drop_succ_cons, ne_eq, not_false_eq_true, not_true_eq_false, false_and, and_false, false_implies, true_implies, reduceIte, mmU_rd, implies_true, or_false, false_or, or_true, true_or]
      refine mmC_step ?_
      simp only [cd_221, sg_221_0, sg_221_22, sg_221_24, sg_221_48, sg_221_64, sg_221_65, sg_221_66, sg_221_70, sg_221_92, sg_221_94, sg_221_108, sg_221_110, sg_221_117, sg_221_122, sg_221_123, mmK_cut cd_221, q_cons, q_G0, q_GS, q_I1, q_L1, q_A1, q_S0, q_S1, q_SS, q_T0, q_T1, q_TS, q_Kn, q_Ki, q_Kl, q_Kr, q_k0, q_kS, q_rc, q_ps, q_pn, q_aload0, q_iconst, q_putfieldI, q_iload1, q_if_eq, q_iload2, q_if_lt, q_getfieldA, q_iaload, q_icmp_ge, q_iload3, q_if_ne, q_ireturn0, q_bipush, q_imul, q_iadd, q_istore, q_iload, q_getfieldI, q_icmp_lt, q_icmp_ne, q_goto, q_isub, q_icmp_eq, rf_11_65, rf_11_66, rf_11_67, rf_11_75, rf_11_76, mmKe_1265, mmKe_1266, mmKe_1267, mmKe_1275, mmKe_1276, mmKo_11, mmLen_1265, mmLen_1266, mmLen_1267, mmLen_1275, mmLen_1276, mmR32, mmR64, Option.some.injEq, Int.cast_ofNat_Int, and_true, true_and, if_true, if_false, List.length_cons, List.length_nil, Nat.le_refl, Nat.zero_le, Nat.sub_zero, forall_const, reduceCtorEq, Nat.reduceAdd, Nat.reduceSub, Nat.reduceLeDiff, Nat.reduceEqDiff, Int.reduceAdd, Int.reduceNeg, Int.reduceSub, Int.reduceLT, Int.reduceLE, Int.reduceMul, Int.reduceEq, List.drop_zero, List.drop_succ_cons, ne_eq, not_false_eq_true, not_true_eq_false, false_and, and_false, false_implies, true_implies, reduceIte, mmU_rd, implies_true, or_false, false_or, or_true, true_or]
      exact hQ I1 f2
    · rw [cI_neg (by omega), cI_neg (by omega)] at hQ
      refine mmC_step ?_
      simp only [cd_221, sg_221_0, sg_221_22, sg_221_24, sg_221_48, sg_221_64, sg_221_65, sg_221_66, sg_221_70, sg_221_92, sg_221_94, sg_221_108, sg_221_110, sg_221_117, sg_221_122, sg_221_123, mmK_cut cd_221, q_cons, q_G0, q_GS, q_I1, q_L1, q_A1, q_S0, q_S1, q_SS, q_T0, q_T1, q_TS, q_Kn, q_Ki, q_Kl, q_Kr, q_k0, q_kS, q_rc, q_ps, q_pn, q_aload0, q_iconst, q_putfieldI, q_iload1, q_if_eq, q_iload2, q_if_lt, q_getfieldA, q_iaload, q_icmp_ge, q_iload3, q_if_ne, q_ireturn0, q_bipush, q_imul, q_iadd, q_istore, q_iload, q_getfieldI, q_icmp_lt, q_icmp_ne, q_goto, q_isub, q_icmp_eq, rf_11_65, rf_11_66, rf_11_67, rf_11_75, rf_11_76, mmKe_1265, mmKe_1266, mmKe_1267, mmKe_1275, mmKe_1276, mmKo_11, mmLen_1265, mmLen_1266, mmLen_1267, mmLen_1275, mmLen_1276, mmR32, mmR64, Option.some.injEq, Int.cast_ofNat_Int, and_true, true_and, if_true, if_false, List.length_cons, List.length_nil, Nat.le_refl, Nat.zero_le, Nat.sub_zero, forall_const, reduceCtorEq, Nat.reduceAdd, Nat.reduceSub, Nat.reduceLeDiff, Nat.reduceEqDiff, Int.reduceAdd, Int.reduceNeg, Int.reduceSub, Int.reduceLT, Int.reduceLE, Int.reduceMul, Int.reduceEq, List.drop_zero, List.drop_succ_cons, ne_eq, not_false_eq_true, not_true_eq_false, false_and, and_false, false_implies, true_implies, reduceIte, mmU_rd, implies_true, or_false, false_or, or_true, true_or]
      exact hQ I1 f2
  · rw [cI_neg (by omega)] at hft
    rw [hft] at hQ
    have e : cI (q = 1) (cI ((0 : Int) < 0) (-0) 0) (cI ((0 : Int) < 0) (-2) 0) = 0 := by
      rw [cI_neg (show ¬ (0 : Int) < 0 by omega), cI_neg (show ¬ (0 : Int) < 0 by omega)]
      by_cases cq : q = 1
      · rw [cI_pos cq]
      · rw [cI_neg cq]
    rw [e] at hQ
    exact hQ I1 f2
end S866
