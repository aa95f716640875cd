/-- the boards agree on the first n points -/
def sN (B C : mBd) (n : Nat) : Prop := ∀ z, 0 ≤ z → z < n → B z = C z
/-- how often the last board stands, every second one back, q of them -/
noncomputable def tsV (H : Int → mBd) (m : Int) : Nat → Int
  | 0 => 0
  | q + 1 => tsV H m q + bI (sN (H (m - 2 * q)) (H m) 25)
theorem tsV_in {H : Int → mBd} {m : Int} : ∀ q : Nat, 0 ≤ tsV H m q ∧ tsV H m q ≤ q
  | 0 => by unfold tsV; omega
  | q + 1 => by
    have := tsV_in (H := H) (m := m) q
    have e : tsV H m (q + 1) = tsV H m q + bI (sN (H (m - 2 * q)) (H m) 25) := rfl
    rcases bI_01 (p := sN (H (m - 2 * q)) (H m) 25) with c | c <;> omega
theorem mB_inj {v w : Int} (hv : v = -2 ∨ 0 ≤ v) (hw : w = -2 ∨ 0 ≤ w) : mB v = mB w ↔ v = w := by
  unfold mB
  split <;> split <;> omega
theorem sN_step {B C : mBd} {n : Nat} : sN B C (n + 1) ↔ sN B C n ∧ B n = C n := by
  refine ⟨fun h => ⟨fun z h0 h1 => h z h0 (by omega), h n (by omega) (by omega)⟩, fun h z h0 h1 => ?_⟩
  by_cases c : z < n
  · exact h.1 z h0 c
  · have e : z = n := by omega
    subst e
    exact h.2
section S832
variable {d a : Nat} {I : mMm} {br : Nat → Option mmO} {X : mmX} {H : Int → mBd} {m : Int} {r : mRu} {Q : Option mmV → mmM → Prop}
theorem m_third1 {i c : Int} (hm : I 11 0 63 = m) (hm1 : 0 ≤ m ∧ m ≤ 60) (hi : 0 ≤ i ∧ i ≤ m) (hM : ∀ i, 0 ≤ i → i ≤ m → MB I i (H i) ∧ BW r (H i)) (hK : ∀ l4, mmK (d + 1) 204 Q 38 [some (mo 11 0), some (mv c), some (mv i), some (mv (bI (sN (H i) (H m) 25))), l4] [] (I, mmRf a br, X)) : ∀ (q n : Nat), n + q = 25 → mmK (d + 1) 204 Q 11 [some (mo 11 0), some (mv c), some (mv i), some (mv (bI (sN (H i) (H m) n))), some (mv n)] [] (I, mmRf a br, X) := by
  intro q
  induction q with
  | zero =>
    intro n hn
    have e : n = 25 := by omega
    subst e
    refine mmC_step ?_
    simp only [cd_204, sg_204_0, sg_204_5, sg_204_11, sg_204_34, sg_204_35, sg_204_38, sg_204_43, sg_204_44, sg_204_48, sg_204_53, sg_204_54, mmK_cut cd_204, q_cons, q_G0, q_GS, q_I1, q_L1, q_A1, q_S0, q_S1, q_SS, q_T0, q_T1, q_TS, q_Kn, q_Ki, q_Kl, q_Kr, q_k0, q_kS, q_rc, q_ps, q_pn, q_iconst, q_istore1, q_aload0, q_getfieldI, q_istore2, q_iload2, q_if_lt, q_istore3, q_istore, q_iload, q_bipush, q_icmp_ge, q_iload3, q_if_eq, q_getfieldA, q_iadd, q_iaload, q_icmp_ne, q_goto, q_iinc, q_iload1, q_icmp_le, q_ireturn1, rf_11_59, mmKe_1259, mmKo_11, mmLen_1259, mmR32, mmR64, Option.some.injEq, Int.cast_ofNat_Int, and_true, true_and, if_true, if_false, List.length_cons, List.length_nil, Nat.le_refl, Nat.zero_le, Nat.sub_zero, forall_const, reduceCtorEq, Nat.reduceAdd, Nat.reduceSub, Nat.reduceLeDiff, Nat.reduceEqDiff, Int.reduceAdd, Int.reduceNeg, Int.reduceSub, Int.reduceLT, Int.reduceLE, Int.reduceMul, Int.reduceEq, List.drop_zero, List.drop_succ_cons, ne_eq, not_false_eq_true, not_true_eq_false, false_and, and_false, false_implies, true_implies, reduceIte, mmU_rd, implies_true, or_false, false_or, or_true, true_or]
    exact hK _
  | succ q ihq =>
    intro n hn
    obtain ⟨m1, b1⟩ := hM i hi.1 hi.2
    obtain ⟨m2, b2⟩ := hM m (by omega) (by omega)
    have w35 : ∀ z, z = bI (sN (H i) (H m) (n + 1)) → mmK (d + 1) 204 Q 35 [some (mo 11 0), some (mv c), some (mv i), some (mv (bI (sN (H i) (H m) n))), some (mv n)] [mv z] (I, mmRf a br, X) := by
      intro z hz
      rw [hz]
      refine mmC_step ?_
      simp only [cd_204, sg_204_0, sg_204_5, sg_204_11, sg_204_34, sg_204_35, sg_204_38, sg_204_43, sg_204_44, sg_204_48, sg_204_53, sg_204_54, mmK_cut cd_204, q_cons, q_G0, q_GS, q_I1, q_L1, q_A1, q_S0, q_S1, q_SS, q_T0, q_T1, q_TS, q_Kn, q_Ki, q_Kl, q_Kr, q_k0, q_kS, q_rc, q_ps, q_pn, q_iconst, q_istore1, q_aload0, q_getfieldI, q_istore2, q_iload2, q_if_lt, q_istore3, q_istore, q_iload, q_bipush, q_icmp_ge, q_iload3, q_if_eq, q_getfieldA, q_iadd, q_iaload, q_icmp_ne, q_goto, q_iinc, q_iload1, q_icmp_le, q_ireturn1, rf_11_59, mmKe_1259, mmKo_11, mmLen_1259, mmR32, mmR64, Option.some.injEq, Int.cast_ofNat_Int, and_true, true_and, if_true, if_false, List.length_cons, List.length_nil, Nat.le_refl, Nat.zero_le, Nat.sub_zero, forall_const, reduceCtorEq, Nat.reduceAdd, Nat.reduceSub, Nat.reduceLeDiff, Nat.reduceEqDiff, Int.reduceAdd, Int.reduceNeg, Int.reduceSub, Int.reduceLT, Int.reduceLE, Int.reduceMul, Int.reduceEq, List.drop_zero, List.drop_succ_cons, ne_eq, not_false_eq_true, not_true_eq_false, false_and, and_false, false_implies, true_implies, reduceIte, mmU_rd, implies_true, or_false, false_or, or_true, true_or]
      exact ⟨by omega, ihq (n + 1) (by omega)⟩
    refine mmC_step ?_
    simp only [cd_204, sg_204_0, sg_204_5, sg_204_11, sg_204_34, sg_204_35, sg_204_38, sg_204_43, sg_204_44, sg_204_48, sg_204_53, sg_204_54, mmK_cut cd_204, q_cons, q_G0, q_GS, q_I1, q_L1, q_A1, q_S0, q_S1, q_SS, q_T0, q_T1, q_TS, q_Kn, q_Ki, q_Kl, q_Kr, q_k0, q_kS, q_rc, q_ps, q_pn, q_iconst, q_istore1, q_aload0, q_getfieldI, q_istore2, q_iload2, q_if_lt, q_istore3, q_istore, q_iload, q_bipush, q_icmp_ge, q_iload3, q_if_eq, q_getfieldA, q_iadd, q_iaload, q_icmp_ne, q_goto, q_iinc, q_iload1, q_icmp_le, q_ireturn1, rf_11_59, mmKe_1259, mmKo_11, mmLen_1259, mmR32, mmR64, Option.some.injEq, Int.cast_ofNat_Int, and_true, true_and, if_true, if_false, List.length_cons, List.length_nil, Nat.le_refl, Nat.zero_le, Nat.sub_zero, forall_const, reduceCtorEq, Nat.reduceAdd, Nat.reduceSub, Nat.reduceLeDiff, Nat.reduceEqDiff, Int.reduceAdd, Int.reduceNeg, Int.reduceSub, Int.reduceLT, Int.reduceLE, Int.reduceMul, Int.reduceEq, List.drop_zero, List.drop_succ_cons, ne_eq, not_false_eq_true, not_true_eq_false, false_and, and_false, false_implies, true_implies, reduceIte, mmU_rd, implies_true, or_false, false_or, or_true, true_or, bI_eq0, Classical.not_not]
    refine ⟨fun c => by omega, fun _ => ⟨fun c1 => ?_, fun c1 => ?_⟩⟩
    · have e : bI (sN (H i) (H m) n) = bI (sN (H i) (H m) 25) := by
        rw [bI_neg c1, bI_neg (fun q => c1 (fun z h0 h1 => q z h0 (by omega)))]
      rw [e]
      exact hK _
    · rw [q_invS (pay := [])]
      simp only [q_k0, q_kS]
      refine ⟨Nat.le_of_ble_eq_true rfl, Nat.zero_le _, Nat.zero_le _, ?_⟩
      refine sq_base (by omega) ?_
      simp only [mmK_cut cd_204, q_cons, q_G0, q_GS, q_I1, q_L1, q_A1, q_S0, q_S1, q_SS, q_T0, q_T1, q_TS, q_Kn, q_Ki, q_Kl, q_Kr, q_k0, q_kS, q_rc, q_ps, q_pn, q_iconst, q_istore1, q_aload0, q_getfieldI, q_istore2, q_iload2, q_if_lt, q_istore3, q_istore, q_iload, q_bipush, q_icmp_ge, q_iload3, q_if_eq, q_getfieldA, q_iadd, q_iaload, q_icmp_ne, q_goto, q_iinc, q_iload1, q_icmp_le, q_ireturn1, rf_11_59, mmKe_1259, mmKo_11, mmLen_1259, mmR32, mmR64, Option.some.injEq, Int.cast_ofNat_Int, and_true, true_and, if_true, if_false, List.length_cons, List.length_nil, Nat.le_refl, Nat.zero_le, Nat.sub_zero, forall_const, reduceCtorEq, Nat.reduceAdd, Nat.reduceSub, Nat.reduceLeDiff, Nat.reduceEqDiff, Int.reduceAdd, Int.reduceNeg, Int.reduceSub, Int.reduceLT, Int.reduceLE, Int.reduceMul, Int.reduceEq, List.drop_zero, List.drop_succ_cons, ne_eq, not_false_eq_true, not_true_eq_false, false_and, and_false, false_implies, true_implies, reduceIte, mmU_rd, implies_true, or_false, false_or, or_true, true_or]
      refine ⟨by omega, by omega, by omega, ?_⟩
      rw [hm, m1 n (by omega) (by omega)]
      rw [q_invS (pay := [])]
      simp only [q_k0, q_kS]
      refine ⟨Nat.le_of_ble_eq_true rfl, Nat.zero_le _, Nat.zero_le _, ?_⟩
      refine sq_base (by omega) ?_
      have e1 := b1.1 n (by omega) (by omega)
      have e2 := b2.1 n (by omega) (by omega)
      have hj := mB_inj (v := H i n) (w := H m n) (by omega) (by omega)
      simp only [mmK_cut cd_204, q_cons, q_G0, q_GS, q_I1, q_L1, q_A1, q_S0, q_S1, q_SS, q_T0, q_T1, q_TS, q_Kn, q_Ki, q_Kl, q_Kr, q_k0, q_kS, q_rc, q_ps, q_pn, q_iconst, q_istore1, q_aload0, q_getfieldI, q_istore2, q_iload2, q_if_lt, q_istore3, q_istore, q_iload, q_bipush, q_icmp_ge, q_iload3, q_if_eq, q_getfieldA, q_iadd, q_iaload, q_icmp_ne, q_goto, q_iinc, q_iload1, q_icmp_le, q_ireturn1, rf_11_59, mmKe_1259, mmKo_11, mmLen_1259, mmR32, mmR64, Option.some.injEq, Int.cast_ofNat_Int, and_true, true_and, if_true, if_false, List.length_cons, List.length_nil, Nat.le_refl, Nat.zero_le, Nat.sub_zero, forall_const, reduceCtorEq, Nat.reduceAdd, Nat.reduceSub, Nat.reduceLeDiff, Nat.reduceEqDiff, Int.reduceAdd, Int.reduceNeg, Int.reduceSub, Int.reduceLT, Int.reduceLE, Int.reduceMul, Int.reduceEq, List.drop_zero, List.drop_succ_cons, ne_eq, not_false_eq_true, not_true_eq_false, false_and, and_false, false_implies, true_implies, reduceIte, mmU_rd, implies_true, or_false, false_or, or_true, true_or]
      rw [m2 n (by omega) (by omega)]
      refine ⟨by omega, by omega, by omega, fun c2 => ?_, fun c2 => ?_⟩
      · have k34 := w35 0 (bI_neg (fun q => c2 (hj.2 (sN_step.1 q).2))).symm
        refine mmC_step ?_
        simp only [cd_204, sg_204_0, sg_204_5, sg_204_11, sg_204_34, sg_204_35, sg_204_38, sg_204_43, sg_204_44, sg_204_48, sg_204_53, sg_204_54, mmK_cut cd_204, q_cons, q_G0, q_GS, q_I1, q_L1, q_A1, q_S0, q_S1, q_SS, q_T0, q_T1, q_TS, q_Kn, q_Ki, q_Kl, q_Kr, q_k0, q_kS, q_rc, q_ps, q_pn, q_iconst, q_istore1, q_aload0, q_getfieldI, q_istore2, q_iload2, q_if_lt, q_istore3, q_istore, q_iload, q_bipush, q_icmp_ge, q_iload3, q_if_eq, q_getfieldA, q_iadd, q_iaload, q_icmp_ne, q_goto, q_iinc, q_iload1, q_icmp_le, q_ireturn1, rf_11_59, mmKe_1259, mmKo_11, mmLen_1259, mmR32, mmR64, Option.some.injEq, Int.cast_ofNat_Int, and_true, true_and, if_true, if_false, List.length_cons, List.length_nil, Nat.le_refl, Nat.zero_le, Nat.sub_zero, forall_const, reduceCtorEq, Nat.reduceAdd, Nat.reduceSub, Nat.reduceLeDiff, Nat.reduceEqDiff, Int.reduceAdd, Int.reduceNeg, Int.reduceSub, Int.reduceLT, Int.reduceLE, Int.reduceMul, Int.reduceEq, List.drop_zero, List.drop_succ_cons, ne_eq, not_false_eq_true, not_true_eq_false, false_and, and_false, false_implies, true_implies, reduceIte, mmU_rd, implies_true, or_false, false_or, or_true, true_or]
        exact k34
      · exact w35 1 (bI_pos (sN_step.2 ⟨c1, hj.1 c2⟩)).symm
theorem m_isThird (hm : I 11 0 63 = m) (hm1 : 0 ≤ m ∧ m ≤ 60) (hM : ∀ i, 0 ≤ i → i ≤ m → MB I i (H i) ∧ BW r (H i)) (hQ : Q (some (mv (bI (2 < tsV H m (m / 2 + 1).toNat)))) (I, mmRf a br, X)) : mmC (d + 2) 204 [mo 11 0] (I, mmRf a br, X) Q := by
  have key : ∀ (q p : Nat) (l3 l4 : Option mmV), (p : Int) + q = m / 2 + 1 → mmK (d + 1) 204 Q 5 [some (mo 11 0), some (mv (tsV H m p)), some (mv (m - 2 * p)), l3, l4] [] (I, mmRf a br, X) := by
    intro q
    induction q with
    | zero =>
      intro p l3 l4 hp
      have e : p = (m / 2 + 1).toNat := by omega
      rw [← e] at hQ
      refine mmC_step ?_
      simp only [cd_204, sg_204_0, sg_204_5, sg_204_11, sg_204_34, sg_204_35, sg_204_38, sg_204_43, sg_204_44, sg_204_48, sg_204_53, sg_204_54, mmK_cut cd_204, q_cons, q_G0, q_GS, q_I1, q_L1, q_A1, q_S0, q_S1, q_SS, q_T0, q_T1, q_TS, q_Kn, q_Ki, q_Kl, q_Kr, q_k0, q_kS, q_rc, q_ps, q_pn, q_iconst, q_istore1, q_aload0, q_getfieldI, q_istore2, q_iload2, q_if_lt, q_istore3, q_istore, q_iload, q_bipush, q_icmp_ge, q_iload3, q_if_eq, q_getfieldA, q_iadd, q_iaload, q_icmp_ne, q_goto, q_iinc, q_iload1, q_icmp_le, q_ireturn1, rf_11_59, mmKe_1259, mmKo_11, mmLen_1259, mmR32, mmR64, Option.some.injEq, Int.cast_ofNat_Int, and_true, true_and, if_true, if_false, List.length_cons, List.length_nil, Nat.le_refl, Nat.zero_le, Nat.sub_zero, forall_const, reduceCtorEq, Nat.reduceAdd, Nat.reduceSub, Nat.reduceLeDiff, Nat.reduceEqDiff, Int.reduceAdd, Int.reduceNeg, Int.reduceSub, Int.reduceLT, Int.reduceLE, Int.reduceMul, Int.reduceEq, List.drop_zero, List.drop_succ_cons, ne_eq, not_false_eq_true, not_true_eq_false, false_and, and_false, false_implies, true_implies, reduceIte, mmU_rd, implies_true, or_false, false_or, or_true, true_or]
      refine ⟨fun _ => ?_, fun c => by omega⟩
      refine mmC_step ?_
      simp only [cd_204, sg_204_0, sg_204_5, sg_204_11, sg_204_34, sg_204_35, sg_204_38, sg_204_43, sg_204_44, sg_204_48, sg_204_53, sg_204_54, mmK_cut cd_204, q_cons, q_G0, q_GS, q_I1, q_L1, q_A1, q_S0, q_S1, q_SS, q_T0, q_T1, q_TS, q_Kn, q_Ki, q_Kl, q_Kr, q_k0, q_kS, q_rc, q_ps, q_pn, q_iconst, q_istore1, q_aload0, q_getfieldI, q_istore2, q_iload2, q_if_lt, q_istore3, q_istore, q_iload, q_bipush, q_icmp_ge, q_iload3, q_if_eq, q_getfieldA, q_iadd, q_iaload, q_icmp_ne, q_goto, q_iinc, q_iload1, q_icmp_le, q_ireturn1, rf_11_59, mmKe_1259, mmKo_11, mmLen_1259, mmR32, mmR64, Option.some.injEq, Int.cast_ofNat_Int, and_true, true_and, if_true, if_false, List.length_cons, List.length_nil, Nat.le_refl, Nat.zero_le, Nat.sub_zero, forall_const, reduceCtorEq, Nat.reduceAdd, Nat.reduceSub, Nat.reduceLeDiff, Nat.reduceEqDiff, Int.reduceAdd, Int.reduceNeg, Int.reduceSub, Int.reduceLT, Int.reduceLE, Int.reduceMul, Int.reduceEq, List.drop_zero, List.drop_succ_cons, ne_eq, not_false_eq_true, not_true_eq_false, false_and, and_false, false_implies, true_implies, reduceIte, mmU_rd, implies_true, or_false, false_or, or_true, true_or]
      refine ⟨fun c => ?_, fun c => ?_⟩
      · refine mmC_step ?_
        simp only [cd_204, sg_204_0, sg_204_5, sg_204_11, sg_204_34, sg_204_35, sg_204_38, sg_204_43, sg_204_44, sg_204_48, sg_204_53, sg_204_54, mmK_cut cd_204, q_cons, q_G0, q_GS, q_I1, q_L1, q_A1, q_S0, q_S1, q_SS, q_T0, q_T1, q_TS, q_Kn, q_Ki, q_Kl, q_Kr, q_k0, q_kS, q_rc, q_ps, q_pn, q_iconst, q_istore1, q_aload0, q_getfieldI, q_istore2, q_iload2, q_if_lt, q_istore3, q_istore, q_iload, q_bipush, q_icmp_ge, q_iload3, q_if_eq, q_getfieldA, q_iadd, q_iaload, q_icmp_ne, q_goto, q_iinc, q_iload1, q_icmp_le, q_ireturn1, rf_11_59, mmKe_1259, mmKo_11, mmLen_1259, mmR32, mmR64, Option.some.injEq, Int.cast_ofNat_Int, and_true, true_and, if_true, if_false, List.length_cons, List.length_nil, Nat.le_refl, Nat.zero_le, Nat.sub_zero, forall_const, reduceCtorEq, Nat.reduceAdd, Nat.reduceSub, Nat.reduceLeDiff, Nat.reduceEqDiff, Int.reduceAdd, Int.reduceNeg, Int.reduceSub, Int.reduceLT, Int.reduceLE, Int.reduceMul, Int.reduceEq, List.drop_zero, List.drop_succ_cons, ne_eq, not_false_eq_true, not_true_eq_false, false_and, and_false, false_implies, true_implies, reduceIte, mmU_rd, implies_true, or_false, false_or, or_true, true_or]
        refine mmC_step ?_
        simp only [cd_204, sg_204_0, sg_204_5, sg_204_11, sg_204_34, sg_204_35, sg_204_38, sg_204_43, sg_204_44, sg_204_48, sg_204_53, sg_204_54, mmK_cut cd_204, q_cons, q_G0, q_GS, q_I1, q_L1, q_A1, q_S0, q_S1, q_SS, q_T0, q_T1, q_TS, q_Kn, q_Ki, q_Kl, q_Kr, q_k0, q_kS, q_rc, q_ps, q_pn, q_iconst, q_istore1, q_aload0, q_getfieldI, q_istore2, q_iload2, q_if_lt, q_istore3, q_istore, q_iload, q_bipush, q_icmp_ge, q_iload3, q_if_eq, q_getfieldA, q_iadd, q_iaload, q_icmp_ne, q_goto, q_iinc, q_iload1, q_icmp_le, q_ireturn1, rf_11_59, mmKe_1259, mmKo_11, mmLen_1259, mmR32, mmR64, Option.some.injEq, Int.cast_ofNat_Int, and_true, true_and, if_true, if_false, List.length_cons, List.length_nil, Nat.le_refl, Nat.zero_le, Nat.sub_zero, forall_const, reduceCtorEq, Nat.reduceAdd, Nat.reduceSub, Nat.reduceLeDiff, Nat.reduceEqDiff, Int.reduceAdd, Int.reduceNeg, Int.reduceSub, Int.reduceLT, Int.reduceLE, Int.reduceMul, Int.reduceEq, List.drop_zero, List.drop_succ_cons, ne_eq, not_false_eq_true, not_true_eq_false, false_and, and_false, false_implies, true_implies, reduceIte, mmU_rd, implies_true, or_false, false_or, or_true, true_or]
        exact q_b0 hQ (by omega)
      · refine mmC_step ?_
        simp only [cd_204, sg_204_0, sg_204_5, sg_204_11, sg_204_34, sg_204_35, sg_204_38, sg_204_43, sg_204_44, sg_204_48, sg_204_53, sg_204_54, mmK_cut cd_204, q_cons, q_G0, q_GS, q_I1, q_L1, q_A1, q_S0, q_S1, q_SS, q_T0, q_T1, q_TS, q_Kn, q_Ki, q_Kl, q_Kr, q_k0, q_kS, q_rc, q_ps, q_pn, q_iconst, q_istore1, q_aload0, q_getfieldI, q_istore2, q_iload2, q_if_lt, q_istore3, q_istore, q_iload, q_bipush, q_icmp_ge, q_iload3, q_if_eq, q_getfieldA, q_iadd, q_iaload, q_icmp_ne, q_goto, q_iinc, q_iload1, q_icmp_le, q_ireturn1, rf_11_59, mmKe_1259, mmKo_11, mmLen_1259, mmR32, mmR64, Option.some.injEq, Int.cast_ofNat_Int, and_true, true_and, if_true, if_false, List.length_cons, List.length_nil, Nat.le_refl, Nat.zero_le, Nat.sub_zero, forall_const, reduceCtorEq, Nat.reduceAdd, Nat.reduceSub, Nat.reduceLeDiff, Nat.reduceEqDiff, Int.reduceAdd, Int.reduceNeg, Int.reduceSub, Int.reduceLT, Int.reduceLE, Int.reduceMul, Int.reduceEq, List.drop_zero, List.drop_succ_cons, ne_eq, not_false_eq_true, not_true_eq_false, false_and, and_false, false_implies, true_implies, reduceIte, mmU_rd, implies_true, or_false, false_or, or_true, true_or]
        exact q_b1 hQ (by omega)
    | succ q ihq =>
      intro p l3 l4 hp
      have ht := tsV_in (H := H) (m := m) p
      have e2 : tsV H m (p + 1) = tsV H m p + bI (sN (H (m - 2 * p)) (H m) 25) := rfl
      have w44 : ∀ l4 z, z = bI (sN (H (m - 2 * p)) (H m) 25) → mmK (d + 1) 204 Q 44 [some (mo 11 0), some (mv (tsV H m p)), some (mv (m - 2 * p)), some (mv (bI (sN (H (m - 2 * p)) (H m) 25))), l4] [mv z, mv (tsV H m p)] (I, mmRf a br, X) := by
        intro l4 z hz
        have hb := bI_01 (p := sN (H (m - 2 * p)) (H m) 25)
        rw [hz]
        refine mmC_step ?_
        simp only [cd_204, sg_204_0, sg_204_5, sg_204_11, sg_204_34, sg_204_35, sg_204_38, sg_204_43, sg_204_44, sg_204_48, sg_204_53, sg_204_54, mmK_cut cd_204, q_cons, q_G0, q_GS, q_I1, q_L1, q_A1, q_S0, q_S1, q_SS, q_T0, q_T1, q_TS, q_Kn, q_Ki, q_Kl, q_Kr, q_k0, q_kS, q_rc, q_ps, q_pn, q_iconst, q_istore1, q_aload0, q_getfieldI, q_istore2, q_iload2, q_if_lt, q_istore3, q_istore, q_iload, q_bipush, q_icmp_ge, q_iload3, q_if_eq, q_getfieldA, q_iadd, q_iaload, q_icmp_ne, q_goto, q_iinc, q_iload1, q_icmp_le, q_ireturn1, rf_11_59, mmKe_1259, mmKo_11, mmLen_1259, mmR32, mmR64, Option.some.injEq, Int.cast_ofNat_Int, and_true, true_and, if_true, if_false, List.length_cons, List.length_nil, Nat.le_refl, Nat.zero_le, Nat.sub_zero, forall_const, reduceCtorEq, Nat.reduceAdd, Nat.reduceSub, Nat.reduceLeDiff, Nat.reduceEqDiff, Int.reduceAdd, Int.reduceNeg, Int.reduceSub, Int.reduceLT, Int.reduceLE, Int.reduceMul, Int.reduceEq, List.drop_zero, List.drop_succ_cons, ne_eq, not_false_eq_true, not_true_eq_false, false_and, and_false, false_implies, true_implies, reduceIte, mmU_rd, implies_true, or_false, false_or, or_true, true_or]
        have k1 := ihq (p + 1) (some (mv (bI (sN (H (m - 2 * p)) (H m) 25)))) l4 (by omega)
        rw [e2, show m - 2 * ((p + 1 : Nat) : Int) = m - 2 * p + -2 by omega] at k1
        exact ⟨by omega, by omega, k1⟩
      refine mmC_step ?_
      simp only [cd_204, sg_204_0, sg_204_5, sg_204_11, sg_204_34, sg_204_35, sg_204_38, sg_204_43, sg_204_44, sg_204_48, sg_204_53, sg_204_54, mmK_cut cd_204, q_cons, q_G0, q_GS, q_I1, q_L1, q_A1, q_S0, q_S1, q_SS, q_T0, q_T1, q_TS, q_Kn, q_Ki, q_Kl, q_Kr, q_k0, q_kS, q_rc, q_ps, q_pn, q_iconst, q_istore1, q_aload0, q_getfieldI, q_istore2, q_iload2, q_if_lt, q_istore3, q_istore, q_iload, q_bipush, q_icmp_ge, q_iload3, q_if_eq, q_getfieldA, q_iadd, q_iaload, q_icmp_ne, q_goto, q_iinc, q_iload1, q_icmp_le, q_ireturn1, rf_11_59, mmKe_1259, mmKo_11, mmLen_1259, mmR32, mmR64, Option.some.injEq, Int.cast_ofNat_Int, and_true, true_and, if_true, if_false, List.length_cons, List.length_nil, Nat.le_refl, Nat.zero_le, Nat.sub_zero, forall_const, reduceCtorEq, Nat.reduceAdd, Nat.reduceSub, Nat.reduceLeDiff, Nat.reduceEqDiff, Int.reduceAdd, Int.reduceNeg, Int.reduceSub, Int.reduceLT, Int.reduceLE, Int.reduceMul, Int.reduceEq, List.drop_zero, List.drop_succ_cons, ne_eq, not_false_eq_true, not_true_eq_false, false_and, and_false, false_implies, true_implies, reduceIte, mmU_rd, implies_true, or_false, false_or, or_true, true_or]
      refine ⟨fun c => by omega, fun _ => ?_⟩
      have k0 := m_third1 (d := d) (a := a) (br := br) (X := X) (Q := Q) (i := m - 2 * p) (c := tsV H m p) hm hm1 (by omega) hM (fun l4 => by
        refine mmC_step ?_
        simp only [cd_204, sg_204_0, sg_204_5, sg_204_11, sg_204_34, sg_204_35, sg_204_38, sg_204_43, sg_204_44, sg_204_48, sg_204_53, sg_204_54, mmK_cut cd_204, q_cons, q_G0, q_GS, q_I1, q_L1, q_A1, q_S0, q_S1, q_SS, q_T0, q_T1, q_TS, q_Kn, q_Ki, q_Kl, q_Kr, q_k0, q_kS, q_rc, q_ps, q_pn, q_iconst, q_istore1, q_aload0, q_getfieldI, q_istore2, q_iload2, q_if_lt, q_istore3, q_istore, q_iload, q_bipush, q_icmp_ge, q_iload3, q_if_eq, q_getfieldA, q_iadd, q_iaload, q_icmp_ne, q_goto, q_iinc, q_iload1, q_icmp_le, q_ireturn1, rf_11_59, mmKe_1259, mmKo_11, mmLen_1259, mmR32, mmR64, Option.some.injEq, Int.cast_ofNat_Int, and_true, true_and, if_true, if_false, List.length_cons, List.length_nil, Nat.le_refl, Nat.zero_le, Nat.sub_zero, forall_const, reduceCtorEq, Nat.reduceAdd, Nat.reduceSub, Nat.reduceLeDiff, Nat.reduceEqDiff, Int.reduceAdd, Int.reduceNeg, Int.reduceSub, Int.reduceLT, Int.reduceLE, Int.reduceMul, Int.reduceEq, List.drop_zero, List.drop_succ_cons, ne_eq, not_false_eq_true, not_true_eq_false, false_and, and_false, false_implies, true_implies, reduceIte, mmU_rd, implies_true, or_false, false_or, or_true, true_or, bI_eq0, Classical.not_not]
        refine ⟨fun c => ?_, fun c => ?_⟩
        · refine mmC_step ?_
          simp only [cd_204, sg_204_0, sg_204_5, sg_204_11, sg_204_34, sg_204_35, sg_204_38, sg_204_43, sg_204_44, sg_204_48, sg_204_53, sg_204_54, mmK_cut cd_204, q_cons, q_G0, q_GS, q_I1, q_L1, q_A1, q_S0, q_S1, q_SS, q_T0, q_T1, q_TS, q_Kn, q_Ki, q_Kl, q_Kr, q_k0, q_kS, q_rc, q_ps, q_pn, q_iconst, q_istore1, q_aload0, q_getfieldI, q_istore2, q_iload2, q_if_lt, q_istore3, q_istore, q_iload, q_bipush, q_icmp_ge, q_iload3, q_if_eq, q_getfieldA, q_iadd, q_iaload, q_icmp_ne, q_goto, q_iinc, q_iload1, q_icmp_le, q_ireturn1, rf_11_59, mmKe_1259, mmKo_11, mmLen_1259, mmR32, mmR64, Option.some.injEq, Int.cast_ofNat_Int, and_true, true_and, if_true, if_false, List.length_cons, List.length_nil, Nat.le_refl, Nat.zero_le, Nat.sub_zero, forall_const, reduceCtorEq, Nat.reduceAdd, Nat.reduceSub, Nat.reduceLeDiff, Nat.reduceEqDiff, Int.reduceAdd, Int.reduceNeg, Int.reduceSub, Int.reduceLT, Int.reduceLE, Int.reduceMul, Int.reduceEq, List.drop_zero, List.drop_succ_cons, ne_eq, not_false_eq_true, not_true_eq_false, false_and, and_false, false_implies, true_implies, reduceIte, mmU_rd, implies_true, or_false, false_or, or_true, true_or]
          exact w44 l4 0 (bI_neg c).symm
        · exact w44 l4 1 (bI_pos c).symm) 25 0 (by omega)
      have e0 : sN (H (m - 2 * p)) (H m) 0 := fun z h0 h1 => by omega
      rw [bI_pos e0] at k0
      exact k0
  refine mmC_in (by decide) (Nat.le_of_ble_eq_true rfl) (mmC_step ?_)
  simp only [show mmMl 204 = 5 from rfl, mmLs, List.replicate, cd_204, sg_204_0, sg_204_5, sg_204_11, sg_204_34, sg_204_35, sg_204_38, sg_204_43, sg_204_44, sg_204_48, sg_204_53, sg_204_54, mmK_cut cd_204, q_cons, q_G0, q_GS, q_I1, q_L1, q_A1, q_S0, q_S1, q_SS, q_T0, q_T1, q_TS, q_Kn, q_Ki, q_Kl, q_Kr, q_k0, q_kS, q_rc, q_ps, q_pn, q_iconst, q_istore1, q_aload0, q_getfieldI, q_istore2, q_iload2, q_if_lt, q_istore3, q_istore, q_iload, q_bipush, q_icmp_ge, q_iload3, q_if_eq, q_getfieldA, q_iadd, q_iaload, q_icmp_ne, q_goto, q_iinc, q_iload1, q_icmp_le, q_ireturn1, rf_11_59, mmKe_1259, mmKo_11, mmLen_1259, mmR32, mmR64, Option.some.injEq, Int.cast_ofNat_Int, and_true, true_and, if_true, if_false, List.length_cons, List.length_nil, Nat.le_refl, Nat.zero_le, Nat.sub_zero, forall_const, reduceCtorEq, Nat.reduceAdd, Nat.reduceSub, Nat.reduceLeDiff, Nat.reduceEqDiff, Int.reduceAdd, Int.reduceNeg, Int.reduceSub, Int.reduceLT, Int.reduceLE, Int.reduceMul, Int.reduceEq, List.drop_zero, List.drop_succ_cons, ne_eq, not_false_eq_true, not_true_eq_false, false_and, and_false, false_implies, true_implies, reduceIte, mmU_rd, implies_true, or_false, false_or, or_true, true_or]
  rw [hm]
  have k0 := key (m / 2 + 1).toNat 0 none none (by omega)
  rw [show m - 2 * ((0 : Nat) : Int) = m by omega] at k0
  exact k0
end S832
