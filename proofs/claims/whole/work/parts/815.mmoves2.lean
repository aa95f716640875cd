section S815
variable {d a : Nat} {I I' I'' : mMm} {br : Nat → Option mmO} {R : Nat → Nat → Int → Option mmO} {X : mmX} {B : mBd} {m fr b : Int} {r : mRu} {Q : Option mmV → mmM → Prop}
theorem adM_if {to far : Int} {L : List Int} (h : okM r B m fr to far) : adM r B m fr to far L = if fr * 64 + to ∈ L then L else L ++ [fr * 64 + to] := by
  unfold adM
  by_cases c : fr * 64 + to ∈ L
  · rw [if_neg (fun q => q.2 c), if_pos c]
  · rw [if_pos ⟨h, c⟩, if_neg c]
theorem adM_no {to far : Int} {L : List Int} (h : ¬ okM r B m fr to far) : adM r B m fr to far L = L := by
  unfold adM
  rw [if_neg (fun q => h q.1)]
theorem mB_lt {v : Int} (h : v = -2 ∨ 0 ≤ v) : mB v < 0 ↔ v = -2 := by
  unfold mB
  split <;> omega
set_option maxHeartbeats 1000000 in
theorem m_stepsB {p kd w : Int} {tm : Nat} (hR : RK r I) (hM : MB I b B) (hB : BW r B) (hb : 0 ≤ b ∧ b < 72) (hm : 0 ≤ m ∧ m < 100) (hfr : 0 ≤ fr ∧ fr < 25) (hof : 0 ≤ B fr) (hw : w = m % 2) (hkd : 0 ≤ kd ∧ kd < r 6 2) (htm : tmF r kd = tm) (hp : 0 ≤ p ∧ p < 32) (hx : I 1239 0 p = r 712 p ∧ I 1240 0 p = r 713 p) (hst : (-4 ≤ r 712 p ∧ r 712 p ≤ 4) ∧ (-4 ≤ r 713 p ∧ r 713 p ≤ 4)) :
    ∀ (q : Nat) (far : Int) (L : List Int) (I1 : mMm) (l9 : Option mmV), 1 ≤ far → far + q = tm + 1 → FrV b I I1 → ML I1 b L → (stepL r B m fr p q far L).length ≤ 200 →
      (∀ (I2 : mMm) (l7 l8 l9 : Option mmV), FrV b I I2 → ML I2 b (stepL r B m fr p q far L) → mmK (d + 5) 199 Q 82 [some (mo 11 0), some (mv b), some (mv fr), some (mv w), some (mv m), some (mv kd), some (mv p), l7, l8, l9] [] (I2, mmRf a br, X)) →
      mmK (d + 5) 199 Q 28 [some (mo 11 0), some (mv b), some (mv fr), some (mv w), some (mv m), some (mv kd), some (mv p), some (mv 1), some (mv far), l9] [] (I1, mmRf a br, X) := by
  have htm4 : 1 ≤ tm ∧ tm ≤ 4 := by rw [← htm]; unfold tmF; split <;> omega
  have h2 : w = 0 ∨ w = 1 := by omega
  have w0 := hR.2.2.1
  have w1 := hR.2.2.2.1
  intro q
  induction q with
  | zero =>
    intro far L I1 l9 f1 f2 fr1 ml cap cont
    refine mmC_step ?_
    simp only [cd_199, sg_199_0, sg_199_14, sg_199_28, sg_199_66, sg_199_78, sg_199_79, sg_199_82, sg_199_84, mmK_cut cd_199, q_cons, q_G0, q_GS, q_I1, q_L1, q_A1, q_S0, q_S1, q_SS, q_T0, q_T1, q_TS, q_Kn, q_Ki, q_Kl, q_Kr, q_k0, q_kS, q_rc, q_ps, q_pn, q_aload0, q_getfieldA, q_iload1, q_iload2, q_iadd, q_iaload, q_iconst, q_irem, q_istore, q_bipush, q_iload, q_imul, q_icmp_ge, q_icmp_gt, q_if_eq, q_if_lt, q_iload3, q_if_ne, q_if_ge, q_goto, q_iinc, q_return, rf_11_38, rf_11_59, mmKe_1238, mmKe_1259, mmKo_11, mmLen_1238, mmLen_1259, mmR32, mmR64, Option.some.injEq, Int.cast_ofNat_Int, and_true, true_and, if_true, if_false, List.length_cons, List.length_nil, Nat.le_refl, Nat.zero_le, Nat.sub_zero, forall_const, reduceCtorEq, Nat.reduceAdd, Nat.reduceSub, Nat.reduceLeDiff, Nat.reduceEqDiff, Int.reduceAdd, Int.reduceNeg, Int.reduceSub, Int.reduceLT, Int.reduceLE, Int.reduceMul, Int.reduceEq, List.drop_zero, List.drop_succ_cons, ne_eq, not_false_eq_true, not_true_eq_false, false_and, and_false, false_implies, true_implies, reduceIte, mmU_rd, implies_true, or_false, false_or, or_true, true_or]
    rw [q_invV (pay := [])]
    simp only [q_k0, q_kS, q_rc, mmKo_11]
    refine ⟨Nat.le_of_ble_eq_true rfl, by trivial, Nat.zero_le _, Nat.zero_le _, ?_⟩
    refine m_timesOf (RK_V hR fr1) hkd ?_
    rw [htm]
    simp only [mmK_cut cd_199, q_cons, q_G0, q_GS, q_I1, q_L1, q_A1, q_S0, q_S1, q_SS, q_T0, q_T1, q_TS, q_Kn, q_Ki, q_Kl, q_Kr, q_k0, q_kS, q_rc, q_ps, q_pn, q_aload0, q_getfieldA, q_iload1, q_iload2, q_iadd, q_iaload, q_iconst, q_irem, q_istore, q_bipush, q_iload, q_imul, q_icmp_ge, q_icmp_gt, q_if_eq, q_if_lt, q_iload3, q_if_ne, q_if_ge, q_goto, q_iinc, q_return, rf_11_38, rf_11_59, mmKe_1238, mmKe_1259, mmKo_11, mmLen_1238, mmLen_1259, mmR32, mmR64, Option.some.injEq, Int.cast_ofNat_Int, and_true, true_and, if_true, if_false, List.length_cons, List.length_nil, Nat.le_refl, Nat.zero_le, Nat.sub_zero, forall_const, reduceCtorEq, Nat.reduceAdd, Nat.reduceSub, Nat.reduceLeDiff, Nat.reduceEqDiff, Int.reduceAdd, Int.reduceNeg, Int.reduceSub, Int.reduceLT, Int.reduceLE, Int.reduceMul, Int.reduceEq, List.drop_zero, List.drop_succ_cons, ne_eq, not_false_eq_true, not_true_eq_false, false_and, and_false, false_implies, true_implies, reduceIte, mmU_rd, implies_true, or_false, false_or, or_true, true_or]
    refine ⟨fun _ => cont I1 _ _ _ fr1 ml, fun c => by omega⟩
  | succ q ih =>
    intro far L I1 l9 f1 f2 fr1 ml cap cont
    have hR1 := RK_V hR fr1
    have hM1 := MB_V hM fr1
    have hx1 : I1 1239 0 p = r 712 p ∧ I1 1240 0 p = r 713 p := ⟨(fr1 _ _ _ (by omega) (by decide) (by decide) (by omega) (by omega)).trans hx.1, (fr1 _ _ _ (by omega) (by decide) (by decide) (by omega) (by omega)).trans hx.2⟩
    rw [stepL_s] at cap cont
    have wE : ∀ (I2 : mMm) (far' : Int) (l9 : Option mmV) (L2 : List Int), FrV b I I2 → ML I2 b L2 → (∀ (I2 : mMm) (l7 l8 l9 : Option mmV), FrV b I I2 → ML I2 b L2 → mmK (d + 5) 199 Q 82 [some (mo 11 0), some (mv b), some (mv fr), some (mv w), some (mv m), some (mv kd), some (mv p), l7, l8, l9] [] (I2, mmRf a br, X)) → mmK (d + 5) 199 Q 28 [some (mo 11 0), some (mv b), some (mv fr), some (mv w), some (mv m), some (mv kd), some (mv p), some (mv 0), some (mv far'), l9] [] (I2, mmRf a br, X) := by
      intro I2 far' l9 L2 g1 g2 g3
      refine mmC_step ?_
      simp only [cd_199, sg_199_0, sg_199_14, sg_199_28, sg_199_66, sg_199_78, sg_199_79, sg_199_82, sg_199_84, mmK_cut cd_199, q_cons, q_G0, q_GS, q_I1, q_L1, q_A1, q_S0, q_S1, q_SS, q_T0, q_T1, q_TS, q_Kn, q_Ki, q_Kl, q_Kr, q_k0, q_kS, q_rc, q_ps, q_pn, q_aload0, q_getfieldA, q_iload1, q_iload2, q_iadd, q_iaload, q_iconst, q_irem, q_istore, q_bipush, q_iload, q_imul, q_icmp_ge, q_icmp_gt, q_if_eq, q_if_lt, q_iload3, q_if_ne, q_if_ge, q_goto, q_iinc, q_return, rf_11_38, rf_11_59, mmKe_1238, mmKe_1259, mmKo_11, mmLen_1238, mmLen_1259, mmR32, mmR64, Option.some.injEq, Int.cast_ofNat_Int, and_true, true_and, if_true, if_false, List.length_cons, List.length_nil, Nat.le_refl, Nat.zero_le, Nat.sub_zero, forall_const, reduceCtorEq, Nat.reduceAdd, Nat.reduceSub, Nat.reduceLeDiff, Nat.reduceEqDiff, Int.reduceAdd, Int.reduceNeg, Int.reduceSub, Int.reduceLT, Int.reduceLE, Int.reduceMul, Int.reduceEq, List.drop_zero, List.drop_succ_cons, ne_eq, not_false_eq_true, not_true_eq_false, false_and, and_false, false_implies, true_implies, reduceIte, mmU_rd, implies_true, or_false, false_or, or_true, true_or]
      rw [q_invV (pay := [])]
      simp only [q_k0, q_kS, q_rc, mmKo_11]
      refine ⟨Nat.le_of_ble_eq_true rfl, by trivial, Nat.zero_le _, Nat.zero_le _, ?_⟩
      refine m_timesOf (RK_V hR g1) hkd ?_
      simp only [mmK_cut cd_199, q_cons, q_G0, q_GS, q_I1, q_L1, q_A1, q_S0, q_S1, q_SS, q_T0, q_T1, q_TS, q_Kn, q_Ki, q_Kl, q_Kr, q_k0, q_kS, q_rc, q_ps, q_pn, q_aload0, q_getfieldA, q_iload1, q_iload2, q_iadd, q_iaload, q_iconst, q_irem, q_istore, q_bipush, q_iload, q_imul, q_icmp_ge, q_icmp_gt, q_if_eq, q_if_lt, q_iload3, q_if_ne, q_if_ge, q_goto, q_iinc, q_return, rf_11_38, rf_11_59, mmKe_1238, mmKe_1259, mmKo_11, mmLen_1238, mmLen_1259, mmR32, mmR64, Option.some.injEq, Int.cast_ofNat_Int, and_true, true_and, if_true, if_false, List.length_cons, List.length_nil, Nat.le_refl, Nat.zero_le, Nat.sub_zero, forall_const, reduceCtorEq, Nat.reduceAdd, Nat.reduceSub, Nat.reduceLeDiff, Nat.reduceEqDiff, Int.reduceAdd, Int.reduceNeg, Int.reduceSub, Int.reduceLT, Int.reduceLE, Int.reduceMul, Int.reduceEq, List.drop_zero, List.drop_succ_cons, ne_eq, not_false_eq_true, not_true_eq_false, false_and, and_false, false_implies, true_implies, reduceIte, mmU_rd, implies_true, or_false, false_or, or_true, true_or]
      exact ⟨fun _ => g3 I2 _ _ _ g1 g2, fun _ => g3 I2 _ _ _ g1 g2⟩
    refine mmC_step ?_
    simp only [cd_199, sg_199_0, sg_199_14, sg_199_28, sg_199_66, sg_199_78, sg_199_79, sg_199_82, sg_199_84, mmK_cut cd_199, q_cons, q_G0, q_GS, q_I1, q_L1, q_A1, q_S0, q_S1, q_SS, q_T0, q_T1, q_TS, q_Kn, q_Ki, q_Kl, q_Kr, q_k0, q_kS, q_rc, q_ps, q_pn, q_aload0, q_getfieldA, q_iload1, q_iload2, q_iadd, q_iaload, q_iconst, q_irem, q_istore, q_bipush, q_iload, q_imul, q_icmp_ge, q_icmp_gt, q_if_eq, q_if_lt, q_iload3, q_if_ne, q_if_ge, q_goto, q_iinc, q_return, rf_11_38, rf_11_59, mmKe_1238, mmKe_1259, mmKo_11, mmLen_1238, mmLen_1259, mmR32, mmR64, Option.some.injEq, Int.cast_ofNat_Int, and_true, true_and, if_true, if_false, List.length_cons, List.length_nil, Nat.le_refl, Nat.zero_le, Nat.sub_zero, forall_const, reduceCtorEq, Nat.reduceAdd, Nat.reduceSub, Nat.reduceLeDiff, Nat.reduceEqDiff, Int.reduceAdd, Int.reduceNeg, Int.reduceSub, Int.reduceLT, Int.reduceLE, Int.reduceMul, Int.reduceEq, List.drop_zero, List.drop_succ_cons, ne_eq, not_false_eq_true, not_true_eq_false, false_and, and_false, false_implies, true_implies, reduceIte, mmU_rd, implies_true, or_false, false_or, or_true, true_or]
    rw [q_invV (pay := [])]
    simp only [q_k0, q_kS, q_rc, mmKo_11]
    refine ⟨Nat.le_of_ble_eq_true rfl, by trivial, Nat.zero_le _, Nat.zero_le _, ?_⟩
    refine m_timesOf hR1 hkd ?_
    rw [htm]
    simp only [mmK_cut cd_199, q_cons, q_G0, q_GS, q_I1, q_L1, q_A1, q_S0, q_S1, q_SS, q_T0, q_T1, q_TS, q_Kn, q_Ki, q_Kl, q_Kr, q_k0, q_kS, q_rc, q_ps, q_pn, q_aload0, q_getfieldA, q_iload1, q_iload2, q_iadd, q_iaload, q_iconst, q_irem, q_istore, q_bipush, q_iload, q_imul, q_icmp_ge, q_icmp_gt, q_if_eq, q_if_lt, q_iload3, q_if_ne, q_if_ge, q_goto, q_iinc, q_return, rf_11_38, rf_11_59, mmKe_1238, mmKe_1259, mmKo_11, mmLen_1238, mmLen_1259, mmR32, mmR64, Option.some.injEq, Int.cast_ofNat_Int, and_true, true_and, if_true, if_false, List.length_cons, List.length_nil, Nat.le_refl, Nat.zero_le, Nat.sub_zero, forall_const, reduceCtorEq, Nat.reduceAdd, Nat.reduceSub, Nat.reduceLeDiff, Nat.reduceEqDiff, Int.reduceAdd, Int.reduceNeg, Int.reduceSub, Int.reduceLT, Int.reduceLE, Int.reduceMul, Int.reduceEq, List.drop_zero, List.drop_succ_cons, ne_eq, not_false_eq_true, not_true_eq_false, false_and, and_false, false_implies, true_implies, reduceIte, mmU_rd, implies_true, or_false, false_or, or_true, true_or]
    refine ⟨fun c => by omega, fun _ => ?_⟩
    rw [q_invV (pay := [])]
    simp only [q_k0, q_kS, q_rc, mmKo_11]
    refine ⟨Nat.le_of_ble_eq_true rfl, by trivial, Nat.zero_le _, Nat.zero_le _, ?_⟩
    refine m_pointOf hR1 hfr hp hx1 hst ⟨f1, by omega⟩ ?_
    by_cases hin : inB r (ptX r fr p far) (ptY r fr p far)
    · have hpt := inB_pt w0 w1 hin
      have hto : 0 ≤ ptT r fr p far ∧ ptT r fr p far < 25 := ⟨hpt.1, by omega⟩
      have hty : 0 ≤ ptT r fr p far / r 6 0 ∧ ptT r fr p far / r 6 0 < r 6 1 := by rw [hpt.2.2.2.1]; exact ⟨hin.2.2.1, hin.2.2.2⟩
      rw [if_pos hin]
      rw [if_pos hin] at cap cont
      clear hpt hin
      generalize ptT r fr p far = to at *
      have w66 : ∀ (I2 : mMm), FrV b I I2 → ML I2 b (adM r B m fr to far L) → mmK (d + 5) 199 Q 66 [some (mo 11 0), some (mv b), some (mv fr), some (mv w), some (mv m), some (mv kd), some (mv p), some (mv 1), some (mv far), some (mv to)] [] (I2, mmRf a br, X) := by
        intro I2 g1 g2
        have e := (MB_V hM g1) to hto.1 hto.2
        have hbt := hB.1 to hto.1 hto.2
        have hlt := mB_lt (v := B to) (by omega)
        refine mmC_step ?_
        simp only [cd_199, sg_199_0, sg_199_14, sg_199_28, sg_199_66, sg_199_78, sg_199_79, sg_199_82, sg_199_84, mmK_cut cd_199, q_cons, q_G0, q_GS, q_I1, q_L1, q_A1, q_S0, q_S1, q_SS, q_T0, q_T1, q_TS, q_Kn, q_Ki, q_Kl, q_Kr, q_k0, q_kS, q_rc, q_ps, q_pn, q_aload0, q_getfieldA, q_iload1, q_iload2, q_iadd, q_iaload, q_iconst, q_irem, q_istore, q_bipush, q_iload, q_imul, q_icmp_ge, q_icmp_gt, q_if_eq, q_if_lt, q_iload3, q_if_ne, q_if_ge, q_goto, q_iinc, q_return, rf_11_38, rf_11_59, mmKe_1238, mmKe_1259, mmKo_11, mmLen_1238, mmLen_1259, mmR32, mmR64, Option.some.injEq, Int.cast_ofNat_Int, and_true, true_and, if_true, if_false, List.length_cons, List.length_nil, Nat.le_refl, Nat.zero_le, Nat.sub_zero, forall_const, reduceCtorEq, Nat.reduceAdd, Nat.reduceSub, Nat.reduceLeDiff, Nat.reduceEqDiff, Int.reduceAdd, Int.reduceNeg, Int.reduceSub, Int.reduceLT, Int.reduceLE, Int.reduceMul, Int.reduceEq, List.drop_zero, List.drop_succ_cons, ne_eq, not_false_eq_true, not_true_eq_false, false_and, and_false, false_implies, true_implies, reduceIte, mmU_rd, implies_true, or_false, false_or, or_true, true_or]
        refine ⟨fun c => by omega, fun _ => ?_⟩
        rw [q_invS (pay := [])]
        simp only [q_k0, q_kS]
        refine ⟨Nat.le_of_ble_eq_true rfl, Nat.zero_le _, Nat.zero_le _, ?_⟩
        refine sq_base (by omega) ?_
        simp only [mmK_cut cd_199, q_cons, q_G0, q_GS, q_I1, q_L1, q_A1, q_S0, q_S1, q_SS, q_T0, q_T1, q_TS, q_Kn, q_Ki, q_Kl, q_Kr, q_k0, q_kS, q_rc, q_ps, q_pn, q_aload0, q_getfieldA, q_iload1, q_iload2, q_iadd, q_iaload, q_iconst, q_irem, q_istore, q_bipush, q_iload, q_imul, q_icmp_ge, q_icmp_gt, q_if_eq, q_if_lt, q_iload3, q_if_ne, q_if_ge, q_goto, q_iinc, q_return, rf_11_38, rf_11_59, mmKe_1238, mmKe_1259, mmKo_11, mmLen_1238, mmLen_1259, mmR32, mmR64, Option.some.injEq, Int.cast_ofNat_Int, and_true, true_and, if_true, if_false, List.length_cons, List.length_nil, Nat.le_refl, Nat.zero_le, Nat.sub_zero, forall_const, reduceCtorEq, Nat.reduceAdd, Nat.reduceSub, Nat.reduceLeDiff, Nat.reduceEqDiff, Int.reduceAdd, Int.reduceNeg, Int.reduceSub, Int.reduceLT, Int.reduceLE, Int.reduceMul, Int.reduceEq, List.drop_zero, List.drop_succ_cons, ne_eq, not_false_eq_true, not_true_eq_false, false_and, and_false, false_implies, true_implies, reduceIte, mmU_rd, implies_true, or_false, false_or, or_true, true_or]
        rw [e]
        refine ⟨by omega, by omega, by omega, fun c => ?_, fun c => ?_⟩
        · rw [if_neg (fun q => by have := hlt.mpr q; omega)] at cont
          refine mmC_step ?_
          simp only [cd_199, sg_199_0, sg_199_14, sg_199_28, sg_199_66, sg_199_78, sg_199_79, sg_199_82, sg_199_84, mmK_cut cd_199, q_cons, q_G0, q_GS, q_I1, q_L1, q_A1, q_S0, q_S1, q_SS, q_T0, q_T1, q_TS, q_Kn, q_Ki, q_Kl, q_Kr, q_k0, q_kS, q_rc, q_ps, q_pn, q_aload0, q_getfieldA, q_iload1, q_iload2, q_iadd, q_iaload, q_iconst, q_irem, q_istore, q_bipush, q_iload, q_imul, q_icmp_ge, q_icmp_gt, q_if_eq, q_if_lt, q_iload3, q_if_ne, q_if_ge, q_goto, q_iinc, q_return, rf_11_38, rf_11_59, mmKe_1238, mmKe_1259, mmKo_11, mmLen_1238, mmLen_1259, mmR32, mmR64, Option.some.injEq, Int.cast_ofNat_Int, and_true, true_and, if_true, if_false, List.length_cons, List.length_nil, Nat.le_refl, Nat.zero_le, Nat.sub_zero, forall_const, reduceCtorEq, Nat.reduceAdd, Nat.reduceSub, Nat.reduceLeDiff, Nat.reduceEqDiff, Int.reduceAdd, Int.reduceNeg, Int.reduceSub, Int.reduceLT, Int.reduceLE, Int.reduceMul, Int.reduceEq, List.drop_zero, List.drop_succ_cons, ne_eq, not_false_eq_true, not_true_eq_false, false_and, and_false, false_implies, true_implies, reduceIte, mmU_rd, implies_true, or_false, false_or, or_true, true_or]
          refine mmC_step ?_
          simp only [cd_199, sg_199_0, sg_199_14, sg_199_28, sg_199_66, sg_199_78, sg_199_79, sg_199_82, sg_199_84, mmK_cut cd_199, q_cons, q_G0, q_GS, q_I1, q_L1, q_A1, q_S0, q_S1, q_SS, q_T0, q_T1, q_TS, q_Kn, q_Ki, q_Kl, q_Kr, q_k0, q_kS, q_rc, q_ps, q_pn, q_aload0, q_getfieldA, q_iload1, q_iload2, q_iadd, q_iaload, q_iconst, q_irem, q_istore, q_bipush, q_iload, q_imul, q_icmp_ge, q_icmp_gt, q_if_eq, q_if_lt, q_iload3, q_if_ne, q_if_ge, q_goto, q_iinc, q_return, rf_11_38, rf_11_59, mmKe_1238, mmKe_1259, mmKo_11, mmLen_1238, mmLen_1259, mmR32, mmR64, Option.some.injEq, Int.cast_ofNat_Int, and_true, true_and, if_true, if_false, List.length_cons, List.length_nil, Nat.le_refl, Nat.zero_le, Nat.sub_zero, forall_const, reduceCtorEq, Nat.reduceAdd, Nat.reduceSub, Nat.reduceLeDiff, Nat.reduceEqDiff, Int.reduceAdd, Int.reduceNeg, Int.reduceSub, Int.reduceLT, Int.reduceLE, Int.reduceMul, Int.reduceEq, List.drop_zero, List.drop_succ_cons, ne_eq, not_false_eq_true, not_true_eq_false, false_and, and_false, false_implies, true_implies, reduceIte, mmU_rd, implies_true, or_false, false_or, or_true, true_or]
          exact ⟨by omega, wE I2 _ _ _ g1 g2 cont⟩
        · have c' := hlt.mp c
          rw [if_pos c'] at cap cont
          refine mmC_step ?_
          simp only [cd_199, sg_199_0, sg_199_14, sg_199_28, sg_199_66, sg_199_78, sg_199_79, sg_199_82, sg_199_84, mmK_cut cd_199, q_cons, q_G0, q_GS, q_I1, q_L1, q_A1, q_S0, q_S1, q_SS, q_T0, q_T1, q_TS, q_Kn, q_Ki, q_Kl, q_Kr, q_k0, q_kS, q_rc, q_ps, q_pn, q_aload0, q_getfieldA, q_iload1, q_iload2, q_iadd, q_iaload, q_iconst, q_irem, q_istore, q_bipush, q_iload, q_imul, q_icmp_ge, q_icmp_gt, q_if_eq, q_if_lt, q_iload3, q_if_ne, q_if_ge, q_goto, q_iinc, q_return, rf_11_38, rf_11_59, mmKe_1238, mmKe_1259, mmKo_11, mmLen_1238, mmLen_1259, mmR32, mmR64, Option.some.injEq, Int.cast_ofNat_Int, and_true, true_and, if_true, if_false, List.length_cons, List.length_nil, Nat.le_refl, Nat.zero_le, Nat.sub_zero, forall_const, reduceCtorEq, Nat.reduceAdd, Nat.reduceSub, Nat.reduceLeDiff, Nat.reduceEqDiff, Int.reduceAdd, Int.reduceNeg, Int.reduceSub, Int.reduceLT, Int.reduceLE, Int.reduceMul, Int.reduceEq, List.drop_zero, List.drop_succ_cons, ne_eq, not_false_eq_true, not_true_eq_false, false_and, and_false, false_implies, true_implies, reduceIte, mmU_rd, implies_true, or_false, false_or, or_true, true_or]
          exact ⟨by omega, ih (far + 1) _ I2 _ (by omega) (by omega) g1 g2 cap cont⟩
      simp only [mmK_cut cd_199, q_cons, q_G0, q_GS, q_I1, q_L1, q_A1, q_S0, q_S1, q_SS, q_T0, q_T1, q_TS, q_Kn, q_Ki, q_Kl, q_Kr, q_k0, q_kS, q_rc, q_ps, q_pn, q_aload0, q_getfieldA, q_iload1, q_iload2, q_iadd, q_iaload, q_iconst, q_irem, q_istore, q_bipush, q_iload, q_imul, q_icmp_ge, q_icmp_gt, q_if_eq, q_if_lt, q_iload3, q_if_ne, q_if_ge, q_goto, q_iinc, q_return, rf_11_38, rf_11_59, mmKe_1238, mmKe_1259, mmKo_11, mmLen_1238, mmLen_1259, mmR32, mmR64, Option.some.injEq, Int.cast_ofNat_Int, and_true, true_and, if_true, if_false, List.length_cons, List.length_nil, Nat.le_refl, Nat.zero_le, Nat.sub_zero, forall_const, reduceCtorEq, Nat.reduceAdd, Nat.reduceSub, Nat.reduceLeDiff, Nat.reduceEqDiff, Int.reduceAdd, Int.reduceNeg, Int.reduceSub, Int.reduceLT, Int.reduceLE, Int.reduceMul, Int.reduceEq, List.drop_zero, List.drop_succ_cons, ne_eq, not_false_eq_true, not_true_eq_false, false_and, and_false, false_implies, true_implies, reduceIte, mmU_rd, implies_true, or_false, false_or, or_true, true_or]
      refine ⟨fun c => by omega, fun _ => ?_⟩
      rw [q_invV (pay := [])]
      simp only [q_k0, q_kS, q_rc, mmKo_11]
      refine ⟨Nat.le_of_ble_eq_true rfl, by trivial, Nat.zero_le _, Nat.zero_le _, ?_⟩
      refine m_isOwn hM1 hB hb hto h2 ?_
      simp only [mmK_cut cd_199, q_cons, q_G0, q_GS, q_I1, q_L1, q_A1, q_S0, q_S1, q_SS, q_T0, q_T1, q_TS, q_Kn, q_Ki, q_Kl, q_Kr, q_k0, q_kS, q_rc, q_ps, q_pn, q_aload0, q_getfieldA, q_iload1, q_iload2, q_iadd, q_iaload, q_iconst, q_irem, q_istore, q_bipush, q_iload, q_imul, q_icmp_ge, q_icmp_gt, q_if_eq, q_if_lt, q_iload3, q_if_ne, q_if_ge, q_goto, q_iinc, q_return, rf_11_38, rf_11_59, mmKe_1238, mmKe_1259, mmKo_11, mmLen_1238, mmLen_1259, mmR32, mmR64, Option.some.injEq, Int.cast_ofNat_Int, and_true, true_and, if_true, if_false, List.length_cons, List.length_nil, Nat.le_refl, Nat.zero_le, Nat.sub_zero, forall_const, reduceCtorEq, Nat.reduceAdd, Nat.reduceSub, Nat.reduceLeDiff, Nat.reduceEqDiff, Int.reduceAdd, Int.reduceNeg, Int.reduceSub, Int.reduceLT, Int.reduceLE, Int.reduceMul, Int.reduceEq, List.drop_zero, List.drop_succ_cons, ne_eq, not_false_eq_true, not_true_eq_false, false_and, and_false, false_implies, true_implies, reduceIte, mmU_rd, implies_true, or_false, false_or, or_true, true_or, bI_eq0, Classical.not_not]
      refine ⟨fun c => w66 I1 fr1 (by rw [adM_no (fun q => q.1 (by rw [← hw]; exact c))]; exact ml), fun c => ?_⟩
      rw [q_invV (pay := [])]
      simp only [q_k0, q_kS, q_rc, mmKo_11]
      refine ⟨Nat.le_of_ble_eq_true rfl, by trivial, Nat.zero_le _, Nat.zero_le _, ?_⟩
      refine mT_use (m_isLawful hR1 hM1 hB hm hb hfr hof hto hty ⟨f1, by omega⟩ hw) (fun v I2 q2 => ?_)
      obtain ⟨rfl, g2⟩ := q2
      have fr2 := FrV_trans fr1 (FrV_W g2)
      have ml2 := ML_W ml g2
      simp only [mmK_cut cd_199, q_cons, q_G0, q_GS, q_I1, q_L1, q_A1, q_S0, q_S1, q_SS, q_T0, q_T1, q_TS, q_Kn, q_Ki, q_Kl, q_Kr, q_k0, q_kS, q_rc, q_ps, q_pn, q_aload0, q_getfieldA, q_iload1, q_iload2, q_iadd, q_iaload, q_iconst, q_irem, q_istore, q_bipush, q_iload, q_imul, q_icmp_ge, q_icmp_gt, q_if_eq, q_if_lt, q_iload3, q_if_ne, q_if_ge, q_goto, q_iinc, q_return, rf_11_38, rf_11_59, mmKe_1238, mmKe_1259, mmKo_11, mmLen_1238, mmLen_1259, mmR32, mmR64, Option.some.injEq, Int.cast_ofNat_Int, and_true, true_and, if_true, if_false, List.length_cons, List.length_nil, Nat.le_refl, Nat.zero_le, Nat.sub_zero, forall_const, reduceCtorEq, Nat.reduceAdd, Nat.reduceSub, Nat.reduceLeDiff, Nat.reduceEqDiff, Int.reduceAdd, Int.reduceNeg, Int.reduceSub, Int.reduceLT, Int.reduceLE, Int.reduceMul, Int.reduceEq, List.drop_zero, List.drop_succ_cons, ne_eq, not_false_eq_true, not_true_eq_false, false_and, and_false, false_implies, true_implies, reduceIte, mmU_rd, implies_true, or_false, false_or, or_true, true_or, bI_eq0, Classical.not_not]
      refine ⟨fun c2 => w66 I2 fr2 (by rw [adM_no (fun q => q.2 c2)]; exact ml2), fun c2 => ?_⟩
      have hok : okM r B m fr to far := ⟨fun q => c (by rw [hw]; exact q), c2⟩
      have hadm := adM_if (L := L) hok
      have hlen : (adM r B m fr to far L).length ≤ 200 := by
        by_cases c8 : B to = -2
        · rw [if_pos c8] at cap
          have := (stepL_in w0 w1 (B := B) (m := m) (fr := fr) (p := p) q (far + 1) (adM r B m fr to far L)).2
          exact Nat.le_trans this cap
        · rw [if_neg c8] at cap; exact cap
      have e64 : 64 * fr + to = fr * 64 + to := by omega
      rw [e64]
      refine ⟨by omega, by omega, ?_⟩
      rw [q_invV (pay := [])]
      simp only [q_k0, q_kS, q_rc, mmKo_11]
      refine ⟨Nat.le_of_ble_eq_true rfl, by trivial, Nat.zero_le _, Nat.zero_le _, ?_⟩
      refine mT_use (m_finds (v := fr * 64 + to) ml2 hb (fun hn => ?_) ?_) (fun v I3 q3 => ?_)
      · rw [hadm, if_neg hn, List.length_append, List.length_singleton] at hlen
        omega
      · have := (adM_in (r := r) (B := B) (m := m) (fr := fr) (far := far) (L := L) hto).2
        omega
      · obtain ⟨rfl, g3, ml3⟩ := q3
        simp only [mmK_cut cd_199, q_cons, q_G0, q_GS, q_I1, q_L1, q_A1, q_S0, q_S1, q_SS, q_T0, q_T1, q_TS, q_Kn, q_Ki, q_Kl, q_Kr, q_k0, q_kS, q_rc, q_ps, q_pn, q_aload0, q_getfieldA, q_iload1, q_iload2, q_iadd, q_iaload, q_iconst, q_irem, q_istore, q_bipush, q_iload, q_imul, q_icmp_ge, q_icmp_gt, q_if_eq, q_if_lt, q_iload3, q_if_ne, q_if_ge, q_goto, q_iinc, q_return, rf_11_38, rf_11_59, mmKe_1238, mmKe_1259, mmKo_11, mmLen_1238, mmLen_1259, mmR32, mmR64, Option.some.injEq, Int.cast_ofNat_Int, and_true, true_and, if_true, if_false, List.length_cons, List.length_nil, Nat.le_refl, Nat.zero_le, Nat.sub_zero, forall_const, reduceCtorEq, Nat.reduceAdd, Nat.reduceSub, Nat.reduceLeDiff, Nat.reduceEqDiff, Int.reduceAdd, Int.reduceNeg, Int.reduceSub, Int.reduceLT, Int.reduceLE, Int.reduceMul, Int.reduceEq, List.drop_zero, List.drop_succ_cons, ne_eq, not_false_eq_true, not_true_eq_false, false_and, and_false, false_implies, true_implies, reduceIte, mmU_rd, implies_true, or_false, false_or, or_true, true_or]
        exact w66 I3 (FrV_trans fr2 g3) (by rw [hadm]; exact ml3)
    · rw [if_neg hin]
      rw [if_neg hin] at cap cont
      simp only [mmK_cut cd_199, q_cons, q_G0, q_GS, q_I1, q_L1, q_A1, q_S0, q_S1, q_SS, q_T0, q_T1, q_TS, q_Kn, q_Ki, q_Kl, q_Kr, q_k0, q_kS, q_rc, q_ps, q_pn, q_aload0, q_getfieldA, q_iload1, q_iload2, q_iadd, q_iaload, q_iconst, q_irem, q_istore, q_bipush, q_iload, q_imul, q_icmp_ge, q_icmp_gt, q_if_eq, q_if_lt, q_iload3, q_if_ne, q_if_ge, q_goto, q_iinc, q_return, rf_11_38, rf_11_59, mmKe_1238, mmKe_1259, mmKo_11, mmLen_1238, mmLen_1259, mmR32, mmR64, Option.some.injEq, Int.cast_ofNat_Int, and_true, true_and, if_true, if_false, List.length_cons, List.length_nil, Nat.le_refl, Nat.zero_le, Nat.sub_zero, forall_const, reduceCtorEq, Nat.reduceAdd, Nat.reduceSub, Nat.reduceLeDiff, Nat.reduceEqDiff, Int.reduceAdd, Int.reduceNeg, Int.reduceSub, Int.reduceLT, Int.reduceLE, Int.reduceMul, Int.reduceEq, List.drop_zero, List.drop_succ_cons, ne_eq, not_false_eq_true, not_true_eq_false, false_and, and_false, false_implies, true_implies, reduceIte, mmU_rd, implies_true, or_false, false_or, or_true, true_or]
      refine mmC_step ?_
      simp only [cd_199, sg_199_0, sg_199_14, sg_199_28, sg_199_66, sg_199_78, sg_199_79, sg_199_82, sg_199_84, mmK_cut cd_199, q_cons, q_G0, q_GS, q_I1, q_L1, q_A1, q_S0, q_S1, q_SS, q_T0, q_T1, q_TS, q_Kn, q_Ki, q_Kl, q_Kr, q_k0, q_kS, q_rc, q_ps, q_pn, q_aload0, q_getfieldA, q_iload1, q_iload2, q_iadd, q_iaload, q_iconst, q_irem, q_istore, q_bipush, q_iload, q_imul, q_icmp_ge, q_icmp_gt, q_if_eq, q_if_lt, q_iload3, q_if_ne, q_if_ge, q_goto, q_iinc, q_return, rf_11_38, rf_11_59, mmKe_1238, mmKe_1259, mmKo_11, mmLen_1238, mmLen_1259, mmR32, mmR64, Option.some.injEq, Int.cast_ofNat_Int, and_true, true_and, if_true, if_false, List.length_cons, List.length_nil, Nat.le_refl, Nat.zero_le, Nat.sub_zero, forall_const, reduceCtorEq, Nat.reduceAdd, Nat.reduceSub, Nat.reduceLeDiff, Nat.reduceEqDiff, Int.reduceAdd, Int.reduceNeg, Int.reduceSub, Int.reduceLT, Int.reduceLE, Int.reduceMul, Int.reduceEq, List.drop_zero, List.drop_succ_cons, ne_eq, not_false_eq_true, not_true_eq_false, false_and, and_false, false_implies, true_implies, reduceIte, mmU_rd, implies_true, or_false, false_or, or_true, true_or]
      refine mmC_step ?_
      simp only [cd_199, sg_199_0, sg_199_14, sg_199_28, sg_199_66, sg_199_78, sg_199_79, sg_199_82, sg_199_84, mmK_cut cd_199, q_cons, q_G0, q_GS, q_I1, q_L1, q_A1, q_S0, q_S1, q_SS, q_T0, q_T1, q_TS, q_Kn, q_Ki, q_Kl, q_Kr, q_k0, q_kS, q_rc, q_ps, q_pn, q_aload0, q_getfieldA, q_iload1, q_iload2, q_iadd, q_iaload, q_iconst, q_irem, q_istore, q_bipush, q_iload, q_imul, q_icmp_ge, q_icmp_gt, q_if_eq, q_if_lt, q_iload3, q_if_ne, q_if_ge, q_goto, q_iinc, q_return, rf_11_38, rf_11_59, mmKe_1238, mmKe_1259, mmKo_11, mmLen_1238, mmLen_1259, mmR32, mmR64, Option.some.injEq, Int.cast_ofNat_Int, and_true, true_and, if_true, if_false, List.length_cons, List.length_nil, Nat.le_refl, Nat.zero_le, Nat.sub_zero, forall_const, reduceCtorEq, Nat.reduceAdd, Nat.reduceSub, Nat.reduceLeDiff, Nat.reduceEqDiff, Int.reduceAdd, Int.reduceNeg, Int.reduceSub, Int.reduceLT, Int.reduceLE, Int.reduceMul, Int.reduceEq, List.drop_zero, List.drop_succ_cons, ne_eq, not_false_eq_true, not_true_eq_false, false_and, and_false, false_implies, true_implies, reduceIte, mmU_rd, implies_true, or_false, false_or, or_true, true_or]
      refine mmC_step ?_
      simp only [cd_199, sg_199_0, sg_199_14, sg_199_28, sg_199_66, sg_199_78, sg_199_79, sg_199_82, sg_199_84, mmK_cut cd_199, q_cons, q_G0, q_GS, q_I1, q_L1, q_A1, q_S0, q_S1, q_SS, q_T0, q_T1, q_TS, q_Kn, q_Ki, q_Kl, q_Kr, q_k0, q_kS, q_rc, q_ps, q_pn, q_aload0, q_getfieldA, q_iload1, q_iload2, q_iadd, q_iaload, q_iconst, q_irem, q_istore, q_bipush, q_iload, q_imul, q_icmp_ge, q_icmp_gt, q_if_eq, q_if_lt, q_iload3, q_if_ne, q_if_ge, q_goto, q_iinc, q_return, rf_11_38, rf_11_59, mmKe_1238, mmKe_1259, mmKo_11, mmLen_1238, mmLen_1259, mmR32, mmR64, Option.some.injEq, Int.cast_ofNat_Int, and_true, true_and, if_true, if_false, List.length_cons, List.length_nil, Nat.le_refl, Nat.zero_le, Nat.sub_zero, forall_const, reduceCtorEq, Nat.reduceAdd, Nat.reduceSub, Nat.reduceLeDiff, Nat.reduceEqDiff, Int.reduceAdd, Int.reduceNeg, Int.reduceSub, Int.reduceLT, Int.reduceLE, Int.reduceMul, Int.reduceEq, List.drop_zero, List.drop_succ_cons, ne_eq, not_false_eq_true, not_true_eq_false, false_and, and_false, false_implies, true_implies, reduceIte, mmU_rd, implies_true, or_false, false_or, or_true, true_or]
      exact ⟨by omega, wE I1 _ _ _ fr1 ml cont⟩
end S815
