def evW (k : Int) : Int := if k = -11 then 1 else 2
def evJ (k : Int) (E : Int × (Int → Int)) : Int := jnV k (E.2 (E.1 - evW k)) (if k = -11 then 0 else E.2 (E.1 - 1))
/-- one knot: how many values are on the pile (-1: error), and the values -/
def evT (k : Int) (F : Int → Int) (E : Int × (Int → Int)) : Int × (Int → Int) := if E.1 < 0 then E else if -8 ≤ k then (E.1 + 1, fup E.2 E.1 (if 0 ≤ k then k else F (-1 - k))) else if E.1 - evW k < 0 then (-1, E.2) else if -1000000000000 ≤ evJ k E ∧ evJ k E ≤ 1000000000000 then (E.1 - evW k + 1, fup E.2 (E.1 - evW k) (evJ k E)) else (-1, E.2)
def evS (K F V : Int → Int) : Nat → Int × (Int → Int)
  | 0 => (0, V)
  | n + 1 => evT (K n) F (evS K F V n)
theorem evS_s {K F V : Int → Int} {n : Nat} : evS K F V (n + 1) = evT (K n) F (evS K F V n) := rfl
theorem evS_err {K F V : Int → Int} {n : Nat} (h : (evS K F V n).1 < 0) : ∀ r : Nat, evS K F V (n + r) = evS K F V n
  | 0 => rfl
  | r + 1 => by
    have ih := evS_err h r
    rw [← Nat.add_assoc, evS_s, ih]
    unfold evT
    rw [if_pos h]
/-- knots that can be read: numbers, names and signs -/
def KW (K : Int → Int) (n : Int) : Prop := ∀ k, 0 ≤ k → k < n → -21 ≤ K k ∧ K k ≤ 9999
theorem evS_in {K F V : Int → Int} (hF : ∀ k, 0 ≤ k → k < 8 → -2147483648 ≤ F k ∧ F k ≤ 2147483647) : ∀ n : Nat, KW K n → (-1 ≤ (evS K F V n).1 ∧ (evS K F V n).1 ≤ n) ∧ ∀ k, 0 ≤ k → k < (evS K F V n).1 → -1000000000000 ≤ (evS K F V n).2 k ∧ (evS K F V n).2 k ≤ 1000000000000
  | 0, _ => ⟨by unfold evS; omega, fun k h0 h1 => by unfold evS at h1; omega⟩
  | n + 1, hK => by
    have ih := evS_in (V := V) hF n (fun k h0 h1 => hK k h0 (by omega))
    have hk := hK n (by omega) (by omega)
    rw [evS_s]
    generalize evS K F V n = E at *
    have hw : evW (K n) = 1 ∨ evW (K n) = 2 := by unfold evW; split <;> omega
    unfold evT
    split
    · exact ⟨by omega, ih.2⟩
    split
    · refine ⟨by simp only; omega, fun k h0 h1 => ?_⟩
      simp only at h1 ⊢
      unfold fup
      split
      · split
        · omega
        · have := hF (-1 - K n) (by omega) (by omega)
          omega
      · exact ih.2 k h0 (by omega)
    split
    · exact ⟨by simp only; omega, fun k h0 h1 => by simp only at h1; omega⟩
    split
    · rename_i c
      refine ⟨by simp only; omega, fun k h0 h1 => ?_⟩
      simp only at h1 ⊢
      unfold fup
      split
      · exact c
      · exact ih.2 k h0 (by omega)
    · exact ⟨by simp only; omega, fun k h0 h1 => by simp only at h1; omega⟩
def wrV (E : Int × (Int → Int)) : Int := if E.1 = 1 then E.2 0 else -9223372036854775808
section S51
variable {d a j : Nat} {I : Nat → Nat → Int → Int} {br : Nat → Option mmO} {X : mmX} {Q : Option mmV → mmM → Prop}
theorem sp_worth {t i : Nat} (ht : mmKe t = 0) (hl : mmLen t = 8) (htn : ¬ t = 201) (hF : ∀ k, 0 ≤ k → k < 8 → -2147483648 ≤ I t i k ∧ I t i k ≤ 2147483647) (hs : 0 ≤ I 1 j 2 ∧ I 1 j 2 ≤ 64) (hK : KW (I 200 j) (I 1 j 2)) (hQ : Q (some (ml (wrV (evS (I 200 j) (I t i) (I 201 j) (I 1 j 2).toNat)))) (mmUr I 201 j (evS (I 200 j) (I t i) (I 201 j) (I 1 j 2).toNat).2, mmRf a br, X)) : mmC (d + 2) 21 [mo 1 j, mo t i] (I, mmRf a br, X) Q := by
  have key : ∀ (r n : Nat) (l4 l5 l6 : Option mmV), (n : Int) + r = I 1 j 2 → 0 ≤ (evS (I 200 j) (I t i) (I 201 j) n).1 → mmK (d + 1) 21 Q 4 [some (mo 1 j), some (mo t i), some (mv (evS (I 200 j) (I t i) (I 201 j) n).1), some (mv n), l4, l5, l6] [] (mmUr I 201 j (evS (I 200 j) (I t i) (I 201 j) n).2, mmRf a br, X) := by
    intro r
    induction r with
    | zero =>
      intro n l4 l5 l6 hn h0
      have e : (I 1 j 2).toNat = n := by omega
      rw [e] at hQ
      unfold wrV at hQ
      have hb := evS_in (V := I 201 j) hF n (fun k h0 h1 => hK k h0 (by omega))
      refine mmC_step ?_
      simp only [cd_21, sg_21_0, sg_21_4, sg_21_23, sg_21_29, sg_21_31, sg_21_37, sg_21_38, sg_21_44, sg_21_54, sg_21_60, sg_21_62, sg_21_70, sg_21_72, sg_21_80, sg_21_88, sg_21_89, mmK_cut cd_21, q_cons, q_G0, q_GS, q_I1, q_L1, q_A1, q_S0, q_S1, q_SS, q_T0, q_T1, q_TS, q_Kn, q_Ki, q_Kl, q_Kr, q_k0, q_kS, q_rc, q_ps, q_pn, q_iconst, q_istore2, q_istore3, q_iload3, q_aload0, q_getfieldI, q_icmp_ge, q_getfieldA, q_iaload, q_istore, q_ldc2_w, q_lstore, q_iload, q_bipush, q_icmp_lt, q_if_lt, q_i2l, q_goto, q_aload1, q_isub, q_iload2, q_icmp_ne, q_if_ge, q_lreturn, q_laload, q_lconst0, q_iadd, q_invS, q_lload, q_lcmp, q_if_gt, q_lastore, q_iinc, rf_1_0, rf_1_1, mmKe_200, mmKe_201, mmKo_1, mmLen_200, mmLen_201, mmR32, mmR64, Option.some.injEq, Int.cast_ofNat_Int, and_true, true_and, if_true, if_false, List.length_cons, List.length_nil, Nat.le_refl, Nat.zero_le, Nat.sub_zero, forall_const, reduceCtorEq, Nat.reduceAdd, Nat.reduceSub, Nat.reduceLeDiff, Nat.reduceEqDiff, Int.reduceAdd, Int.reduceNeg, Int.reduceSub, Int.reduceLT, Int.reduceLE, Int.reduceMul, Int.reduceEq, List.drop_zero, List.drop_succ_cons, ne_eq, not_false_eq_true, not_true_eq_false, false_and, and_false, false_implies, true_implies, reduceIte, mmU_rd, implies_true, or_false, false_or, or_true, true_or, mmUr_rd]
      refine ⟨fun _ => ?_, fun c => by omega⟩
      refine mmC_step ?_
      simp only [cd_21, sg_21_0, sg_21_4, sg_21_23, sg_21_29, sg_21_31, sg_21_37, sg_21_38, sg_21_44, sg_21_54, sg_21_60, sg_21_62, sg_21_70, sg_21_72, sg_21_80, sg_21_88, sg_21_89, mmK_cut cd_21, q_cons, q_G0, q_GS, q_I1, q_L1, q_A1, q_S0, q_S1, q_SS, q_T0, q_T1, q_TS, q_Kn, q_Ki, q_Kl, q_Kr, q_k0, q_kS, q_rc, q_ps, q_pn, q_iconst, q_istore2, q_istore3, q_iload3, q_aload0, q_getfieldI, q_icmp_ge, q_getfieldA, q_iaload, q_istore, q_ldc2_w, q_lstore, q_iload, q_bipush, q_icmp_lt, q_if_lt, q_i2l, q_goto, q_aload1, q_isub, q_iload2, q_icmp_ne, q_if_ge, q_lreturn, q_laload, q_lconst0, q_iadd, q_invS, q_lload, q_lcmp, q_if_gt, q_lastore, q_iinc, rf_1_0, rf_1_1, mmKe_200, mmKe_201, mmKo_1, mmLen_200, mmLen_201, mmR32, mmR64, Option.some.injEq, Int.cast_ofNat_Int, and_true, true_and, if_true, if_false, List.length_cons, List.length_nil, Nat.le_refl, Nat.zero_le, Nat.sub_zero, forall_const, reduceCtorEq, Nat.reduceAdd, Nat.reduceSub, Nat.reduceLeDiff, Nat.reduceEqDiff, Int.reduceAdd, Int.reduceNeg, Int.reduceSub, Int.reduceLT, Int.reduceLE, Int.reduceMul, Int.reduceEq, List.drop_zero, List.drop_succ_cons, ne_eq, not_false_eq_true, not_true_eq_false, false_and, and_false, false_implies, true_implies, reduceIte, mmU_rd, implies_true, or_false, false_or, or_true, true_or, mmUr_rd]
      refine ⟨fun c => ?_, fun c => ?_⟩
      · rw [if_neg c] at hQ
        refine mmC_step ?_
        simp only [cd_21, sg_21_0, sg_21_4, sg_21_23, sg_21_29, sg_21_31, sg_21_37, sg_21_38, sg_21_44, sg_21_54, sg_21_60, sg_21_62, sg_21_70, sg_21_72, sg_21_80, sg_21_88, sg_21_89, mmK_cut cd_21, q_cons, q_G0, q_GS, q_I1, q_L1, q_A1, q_S0, q_S1, q_SS, q_T0, q_T1, q_TS, q_Kn, q_Ki, q_Kl, q_Kr, q_k0, q_kS, q_rc, q_ps, q_pn, q_iconst, q_istore2, q_istore3, q_iload3, q_aload0, q_getfieldI, q_icmp_ge, q_getfieldA, q_iaload, q_istore, q_ldc2_w, q_lstore, q_iload, q_bipush, q_icmp_lt, q_if_lt, q_i2l, q_goto, q_aload1, q_isub, q_iload2, q_icmp_ne, q_if_ge, q_lreturn, q_laload, q_lconst0, q_iadd, q_invS, q_lload, q_lcmp, q_if_gt, q_lastore, q_iinc, rf_1_0, rf_1_1, mmKe_200, mmKe_201, mmKo_1, mmLen_200, mmLen_201, mmR32, mmR64, Option.some.injEq, Int.cast_ofNat_Int, and_true, true_and, if_true, if_false, List.length_cons, List.length_nil, Nat.le_refl, Nat.zero_le, Nat.sub_zero, forall_const, reduceCtorEq, Nat.reduceAdd, Nat.reduceSub, Nat.reduceLeDiff, Nat.reduceEqDiff, Int.reduceAdd, Int.reduceNeg, Int.reduceSub, Int.reduceLT, Int.reduceLE, Int.reduceMul, Int.reduceEq, List.drop_zero, List.drop_succ_cons, ne_eq, not_false_eq_true, not_true_eq_false, false_and, and_false, false_implies, true_implies, reduceIte, mmU_rd, implies_true, or_false, false_or, or_true, true_or, mmUr_rd]
        refine mmC_step ?_
        simp only [cd_21, sg_21_0, sg_21_4, sg_21_23, sg_21_29, sg_21_31, sg_21_37, sg_21_38, sg_21_44, sg_21_54, sg_21_60, sg_21_62, sg_21_70, sg_21_72, sg_21_80, sg_21_88, sg_21_89, mmK_cut cd_21, q_cons, q_G0, q_GS, q_I1, q_L1, q_A1, q_S0, q_S1, q_SS, q_T0, q_T1, q_TS, q_Kn, q_Ki, q_Kl, q_Kr, q_k0, q_kS, q_rc, q_ps, q_pn, q_iconst, q_istore2, q_istore3, q_iload3, q_aload0, q_getfieldI, q_icmp_ge, q_getfieldA, q_iaload, q_istore, q_ldc2_w, q_lstore, q_iload, q_bipush, q_icmp_lt, q_if_lt, q_i2l, q_goto, q_aload1, q_isub, q_iload2, q_icmp_ne, q_if_ge, q_lreturn, q_laload, q_lconst0, q_iadd, q_invS, q_lload, q_lcmp, q_if_gt, q_lastore, q_iinc, rf_1_0, rf_1_1, mmKe_200, mmKe_201, mmKo_1, mmLen_200, mmLen_201, mmR32, mmR64, Option.some.injEq, Int.cast_ofNat_Int, and_true, true_and, if_true, if_false, List.length_cons, List.length_nil, Nat.le_refl, Nat.zero_le, Nat.sub_zero, forall_const, reduceCtorEq, Nat.reduceAdd, Nat.reduceSub, Nat.reduceLeDiff, Nat.reduceEqDiff, Int.reduceAdd, Int.reduceNeg, Int.reduceSub, Int.reduceLT, Int.reduceLE, Int.reduceMul, Int.reduceEq, List.drop_zero, List.drop_succ_cons, ne_eq, not_false_eq_true, not_true_eq_false, false_and, and_false, false_implies, true_implies, reduceIte, mmU_rd, implies_true, or_false, false_or, or_true, true_or, mmUr_rd]
        exact hQ
      · rw [if_pos c] at hQ
        refine mmC_step ?_
        simp only [cd_21, sg_21_0, sg_21_4, sg_21_23, sg_21_29, sg_21_31, sg_21_37, sg_21_38, sg_21_44, sg_21_54, sg_21_60, sg_21_62, sg_21_70, sg_21_72, sg_21_80, sg_21_88, sg_21_89, mmK_cut cd_21, q_cons, q_G0, q_GS, q_I1, q_L1, q_A1, q_S0, q_S1, q_SS, q_T0, q_T1, q_TS, q_Kn, q_Ki, q_Kl, q_Kr, q_k0, q_kS, q_rc, q_ps, q_pn, q_iconst, q_istore2, q_istore3, q_iload3, q_aload0, q_getfieldI, q_icmp_ge, q_getfieldA, q_iaload, q_istore, q_ldc2_w, q_lstore, q_iload, q_bipush, q_icmp_lt, q_if_lt, q_i2l, q_goto, q_aload1, q_isub, q_iload2, q_icmp_ne, q_if_ge, q_lreturn, q_laload, q_lconst0, q_iadd, q_invS, q_lload, q_lcmp, q_if_gt, q_lastore, q_iinc, rf_1_0, rf_1_1, mmKe_200, mmKe_201, mmKo_1, mmLen_200, mmLen_201, mmR32, mmR64, Option.some.injEq, Int.cast_ofNat_Int, and_true, true_and, if_true, if_false, List.length_cons, List.length_nil, Nat.le_refl, Nat.zero_le, Nat.sub_zero, forall_const, reduceCtorEq, Nat.reduceAdd, Nat.reduceSub, Nat.reduceLeDiff, Nat.reduceEqDiff, Int.reduceAdd, Int.reduceNeg, Int.reduceSub, Int.reduceLT, Int.reduceLE, Int.reduceMul, Int.reduceEq, List.drop_zero, List.drop_succ_cons, ne_eq, not_false_eq_true, not_true_eq_false, false_and, and_false, false_implies, true_implies, reduceIte, mmU_rd, implies_true, or_false, false_or, or_true, true_or, mmUr_rd]
        exact hQ
    | succ r ih =>
      intro n l4 l5 l6 hn h0
      have hb := evS_in (V := I 201 j) hF n (fun k h0 h1 => hK k h0 (by omega))
      have hb' := evS_in (V := I 201 j) hF (n + 1) (fun k h0 h1 => hK k h0 (by omega))
      have hk := hK n (by omega) (by omega)
      have ih := fun l4 l5 l6 => ih (n + 1) l4 l5 l6 (by omega)
      have herr := fun h => evS_err (K := I 200 j) (F := I t i) (V := I 201 j) (n := n + 1) h r
      rw [show n + 1 + r = (I 1 j 2).toNat by omega] at herr
      rw [evS_s] at ih herr hb'
      generalize evS (I 200 j) (I t i) (I 201 j) n = E at *
      have hw : evW (I 200 j n) = 1 ∨ evW (I 200 j n) = 2 := by unfold evW; split <;> omega
      have jErr : ∀ ls, (evT (I 200 j n) (I t i) E).1 < 0 → (evT (I 200 j n) (I t i) E).2 = E.2 → mmK (d + 1) 21 Q 70 ls [] (mmUr I 201 j E.2, mmRf a br, X) := by
        intro ls h1 h2
        have h3 := herr h1
        rw [h3, h2] at hQ
        unfold wrV at hQ
        rw [if_neg (by omega)] at hQ
        refine mmC_step ?_
        simp only [cd_21, sg_21_0, sg_21_4, sg_21_23, sg_21_29, sg_21_31, sg_21_37, sg_21_38, sg_21_44, sg_21_54, sg_21_60, sg_21_62, sg_21_70, sg_21_72, sg_21_80, sg_21_88, sg_21_89, mmK_cut cd_21, q_cons, q_G0, q_GS, q_I1, q_L1, q_A1, q_S0, q_S1, q_SS, q_T0, q_T1, q_TS, q_Kn, q_Ki, q_Kl, q_Kr, q_k0, q_kS, q_rc, q_ps, q_pn, q_iconst, q_istore2, q_istore3, q_iload3, q_aload0, q_getfieldI, q_icmp_ge, q_getfieldA, q_iaload, q_istore, q_ldc2_w, q_lstore, q_iload, q_bipush, q_icmp_lt, q_if_lt, q_i2l, q_goto, q_aload1, q_isub, q_iload2, q_icmp_ne, q_if_ge, q_lreturn, q_laload, q_lconst0, q_iadd, q_invS, q_lload, q_lcmp, q_if_gt, q_lastore, q_iinc, rf_1_0, rf_1_1, mmKe_200, mmKe_201, mmKo_1, mmLen_200, mmLen_201, mmR32, mmR64, Option.some.injEq, Int.cast_ofNat_Int, and_true, true_and, if_true, if_false, List.length_cons, List.length_nil, Nat.le_refl, Nat.zero_le, Nat.sub_zero, forall_const, reduceCtorEq, Nat.reduceAdd, Nat.reduceSub, Nat.reduceLeDiff, Nat.reduceEqDiff, Int.reduceAdd, Int.reduceNeg, Int.reduceSub, Int.reduceLT, Int.reduceLE, Int.reduceMul, Int.reduceEq, List.drop_zero, List.drop_succ_cons, ne_eq, not_false_eq_true, not_true_eq_false, false_and, and_false, false_implies, true_implies, reduceIte, mmU_rd, implies_true, or_false, false_or, or_true, true_or]
        exact hQ
      have j62 : ∀ (top z : Int) (l4 l6 : Option mmV), 0 ≤ top → top < 64 → ((-1000000000000 ≤ z ∧ z ≤ 1000000000000) → evT (I 200 j n) (I t i) E = (top + 1, fup E.2 top z)) → (¬ (-1000000000000 ≤ z ∧ z ≤ 1000000000000) → (evT (I 200 j n) (I t i) E).1 < 0 ∧ (evT (I 200 j n) (I t i) E).2 = E.2) → mmK (d + 1) 21 Q 62 [some (mo 1 j), some (mo t i), some (mv top), some (mv n), l4, some (ml z), l6] [] (mmUr I 201 j E.2, mmRf a br, X) := by
        intro top z l4 l6 h1 h2 hok hbad
        refine mmC_step ?_
        simp only [cd_21, sg_21_0, sg_21_4, sg_21_23, sg_21_29, sg_21_31, sg_21_37, sg_21_38, sg_21_44, sg_21_54, sg_21_60, sg_21_62, sg_21_70, sg_21_72, sg_21_80, sg_21_88, sg_21_89, mmK_cut cd_21, q_cons, q_G0, q_GS, q_I1, q_L1, q_A1, q_S0, q_S1, q_SS, q_T0, q_T1, q_TS, q_Kn, q_Ki, q_Kl, q_Kr, q_k0, q_kS, q_rc, q_ps, q_pn, q_iconst, q_istore2, q_istore3, q_iload3, q_aload0, q_getfieldI, q_icmp_ge, q_getfieldA, q_iaload, q_istore, q_ldc2_w, q_lstore, q_iload, q_bipush, q_icmp_lt, q_if_lt, q_i2l, q_goto, q_aload1, q_isub, q_iload2, q_icmp_ne, q_if_ge, q_lreturn, q_laload, q_lconst0, q_iadd, q_invS, q_lload, q_lcmp, q_if_gt, q_lastore, q_iinc, rf_1_0, rf_1_1, mmKe_200, mmKe_201, mmKo_1, mmLen_200, mmLen_201, mmR32, mmR64, Option.some.injEq, Int.cast_ofNat_Int, and_true, true_and, if_true, if_false, List.length_cons, List.length_nil, Nat.le_refl, Nat.zero_le, Nat.sub_zero, forall_const, reduceCtorEq, Nat.reduceAdd, Nat.reduceSub, Nat.reduceLeDiff, Nat.reduceEqDiff, Int.reduceAdd, Int.reduceNeg, Int.reduceSub, Int.reduceLT, Int.reduceLE, Int.reduceMul, Int.reduceEq, List.drop_zero, List.drop_succ_cons, ne_eq, not_false_eq_true, not_true_eq_false, false_and, and_false, false_implies, true_implies, reduceIte, mmU_rd, implies_true, or_false, false_or, or_true, true_or, mmUr_rd, cmp_e0, cmp_lt, cmp_le, cmp_gt, cmp_ge]
        refine ⟨fun c => jErr _ (hbad (by omega)).1 (hbad (by omega)).2, fun c => ⟨fun c2 => ?_, fun c2 => jErr _ (hbad (by omega)).1 (hbad (by omega)).2⟩⟩
        have hE := hok (by omega)
        rw [hE] at ih
        have ih := fun l4 l5 l6 => ih l4 l5 l6 (by simp only; omega)
        refine mmC_step ?_
        simp only [cd_21, sg_21_0, sg_21_4, sg_21_23, sg_21_29, sg_21_31, sg_21_37, sg_21_38, sg_21_44, sg_21_54, sg_21_60, sg_21_62, sg_21_70, sg_21_72, sg_21_80, sg_21_88, sg_21_89, mmK_cut cd_21, q_cons, q_G0, q_GS, q_I1, q_L1, q_A1, q_S0, q_S1, q_SS, q_T0, q_T1, q_TS, q_Kn, q_Ki, q_Kl, q_Kr, q_k0, q_kS, q_rc, q_ps, q_pn, q_iconst, q_istore2, q_istore3, q_iload3, q_aload0, q_getfieldI, q_icmp_ge, q_getfieldA, q_iaload, q_istore, q_ldc2_w, q_lstore, q_iload, q_bipush, q_icmp_lt, q_if_lt, q_i2l, q_goto, q_aload1, q_isub, q_iload2, q_icmp_ne, q_if_ge, q_lreturn, q_laload, q_lconst0, q_iadd, q_invS, q_lload, q_lcmp, q_if_gt, q_lastore, q_iinc, rf_1_0, rf_1_1, mmKe_200, mmKe_201, mmKo_1, mmLen_200, mmLen_201, mmR32, mmR64, Option.some.injEq, Int.cast_ofNat_Int, and_true, true_and, if_true, if_false, List.length_cons, List.length_nil, Nat.le_refl, Nat.zero_le, Nat.sub_zero, forall_const, reduceCtorEq, Nat.reduceAdd, Nat.reduceSub, Nat.reduceLeDiff, Nat.reduceEqDiff, Int.reduceAdd, Int.reduceNeg, Int.reduceSub, Int.reduceLT, Int.reduceLE, Int.reduceMul, Int.reduceEq, List.drop_zero, List.drop_succ_cons, ne_eq, not_false_eq_true, not_true_eq_false, false_and, and_false, false_implies, true_implies, reduceIte, mmU_rd, implies_true, or_false, false_or, or_true, true_or, mmUr_rd, mmU_Ur2]
        exact ⟨by omega, by omega, by omega, by omega, ih _ _ _⟩
      have j29 : -8 ≤ I 200 j n → ∀ z l4 l5 l6, z = (if 0 ≤ I 200 j n then I 200 j n else I t i (-1 - I 200 j n)) → mmK (d + 1) 21 Q 29 [some (mo 1 j), some (mo t i), some (mv E.1), some (mv n), l4, l5, l6] [ml z] (mmUr I 201 j E.2, mmRf a br, X) := by
        intro h8 z l4 l5 l6 hz
        have hzb : -1000000000000 ≤ z ∧ z ≤ 1000000000000 := by
          rw [hz]
          split
          · omega
          · have := hF (-1 - I 200 j n) (by omega) (by omega)
            omega
        refine mmC_step ?_
        simp only [cd_21, sg_21_0, sg_21_4, sg_21_23, sg_21_29, sg_21_31, sg_21_37, sg_21_38, sg_21_44, sg_21_54, sg_21_60, sg_21_62, sg_21_70, sg_21_72, sg_21_80, sg_21_88, sg_21_89, mmK_cut cd_21, q_cons, q_G0, q_GS, q_I1, q_L1, q_A1, q_S0, q_S1, q_SS, q_T0, q_T1, q_TS, q_Kn, q_Ki, q_Kl, q_Kr, q_k0, q_kS, q_rc, q_ps, q_pn, q_iconst, q_istore2, q_istore3, q_iload3, q_aload0, q_getfieldI, q_icmp_ge, q_getfieldA, q_iaload, q_istore, q_ldc2_w, q_lstore, q_iload, q_bipush, q_icmp_lt, q_if_lt, q_i2l, q_goto, q_aload1, q_isub, q_iload2, q_icmp_ne, q_if_ge, q_lreturn, q_laload, q_lconst0, q_iadd, q_invS, q_lload, q_lcmp, q_if_gt, q_lastore, q_iinc, rf_1_0, rf_1_1, mmKe_200, mmKe_201, mmKo_1, mmLen_200, mmLen_201, mmR32, mmR64, Option.some.injEq, Int.cast_ofNat_Int, and_true, true_and, if_true, if_false, List.length_cons, List.length_nil, Nat.le_refl, Nat.zero_le, Nat.sub_zero, forall_const, reduceCtorEq, Nat.reduceAdd, Nat.reduceSub, Nat.reduceLeDiff, Nat.reduceEqDiff, Int.reduceAdd, Int.reduceNeg, Int.reduceSub, Int.reduceLT, Int.reduceLE, Int.reduceMul, Int.reduceEq, List.drop_zero, List.drop_succ_cons, ne_eq, not_false_eq_true, not_true_eq_false, false_and, and_false, false_implies, true_implies, reduceIte, mmU_rd, implies_true, or_false, false_or, or_true, true_or]
        refine j62 _ _ _ _ h0 (by omega) (fun _ => ?_) (fun q => absurd hzb q)
        unfold evT
        rw [if_neg (by omega), if_pos h8, hz]
      have j60 : ¬ (-8 ≤ I 200 j n) → 0 ≤ E.1 - evW (I 200 j n) → ∀ z l5 l6, z = (if I 200 j n = -11 then 0 else E.2 (E.1 - 1)) → mmK (d + 1) 21 Q 60 [some (mo 1 j), some (mo t i), some (mv (E.1 - evW (I 200 j n))), some (mv n), some (mv (I 200 j n)), l5, l6] [ml z, ml (E.2 (E.1 - evW (I 200 j n))), mv (I 200 j n)] (mmUr I 201 j E.2, mmRf a br, X) := by
        intro h8 hw0 z l5 l6 hz
        have h1 := hb.2 (E.1 - evW (I 200 j n)) hw0 (by omega)
        have h2 : -1000000000000 ≤ z ∧ z ≤ 1000000000000 := by
          rw [hz]
          split
          · omega
          · exact hb.2 (E.1 - 1) (by omega) (by omega)
        refine mmC_step ?_
        simp only [cd_21, sg_21_0, sg_21_4, sg_21_23, sg_21_29, sg_21_31, sg_21_37, sg_21_38, sg_21_44, sg_21_54, sg_21_60, sg_21_62, sg_21_70, sg_21_72, sg_21_80, sg_21_88, sg_21_89, mmK_cut cd_21, q_cons, q_G0, q_GS, q_I1, q_L1, q_A1, q_S0, q_S1, q_SS, q_T0, q_T1, q_TS, q_Kn, q_Ki, q_Kl, q_Kr, q_k0, q_kS, q_rc, q_ps, q_pn, q_iconst, q_istore2, q_istore3, q_iload3, q_aload0, q_getfieldI, q_icmp_ge, q_getfieldA, q_iaload, q_istore, q_ldc2_w, q_lstore, q_iload, q_bipush, q_icmp_lt, q_if_lt, q_i2l, q_goto, q_aload1, q_isub, q_iload2, q_icmp_ne, q_if_ge, q_lreturn, q_laload, q_lconst0, q_iadd, q_invS, q_lload, q_lcmp, q_if_gt, q_lastore, q_iinc, rf_1_0, rf_1_1, mmKe_200, mmKe_201, mmKo_1, mmLen_200, mmLen_201, mmR32, mmR64, Option.some.injEq, Int.cast_ofNat_Int, and_true, true_and, if_true, if_false, List.length_cons, List.length_nil, Nat.le_refl, Nat.zero_le, Nat.sub_zero, forall_const, reduceCtorEq, Nat.reduceAdd, Nat.reduceSub, Nat.reduceLeDiff, Nat.reduceEqDiff, Int.reduceAdd, Int.reduceNeg, Int.reduceSub, Int.reduceLT, Int.reduceLE, Int.reduceMul, Int.reduceEq, List.drop_zero, List.drop_succ_cons, ne_eq, not_false_eq_true, not_true_eq_false, false_and, and_false, false_implies, true_implies, reduceIte, mmU_rd, implies_true, or_false, false_or, or_true, true_or]
        refine sp_joined h1 h2 ?_
        simp only [mmK_cut cd_21, q_cons, q_G0, q_GS, q_I1, q_L1, q_A1, q_S0, q_S1, q_SS, q_T0, q_T1, q_TS, q_Kn, q_Ki, q_Kl, q_Kr, q_k0, q_kS, q_rc, q_ps, q_pn, q_iconst, q_istore2, q_istore3, q_iload3, q_aload0, q_getfieldI, q_icmp_ge, q_getfieldA, q_iaload, q_istore, q_ldc2_w, q_lstore, q_iload, q_bipush, q_icmp_lt, q_if_lt, q_i2l, q_goto, q_aload1, q_isub, q_iload2, q_icmp_ne, q_if_ge, q_lreturn, q_laload, q_lconst0, q_iadd, q_invS, q_lload, q_lcmp, q_if_gt, q_lastore, q_iinc, rf_1_0, rf_1_1, mmKe_200, mmKe_201, mmKo_1, mmLen_200, mmLen_201, mmR32, mmR64, Option.some.injEq, Int.cast_ofNat_Int, and_true, true_and, if_true, if_false, List.length_cons, List.length_nil, Nat.le_refl, Nat.zero_le, Nat.sub_zero, forall_const, reduceCtorEq, Nat.reduceAdd, Nat.reduceSub, Nat.reduceLeDiff, Nat.reduceEqDiff, Int.reduceAdd, Int.reduceNeg, Int.reduceSub, Int.reduceLT, Int.reduceLE, Int.reduceMul, Int.reduceEq, List.drop_zero, List.drop_succ_cons, ne_eq, not_false_eq_true, not_true_eq_false, false_and, and_false, false_implies, true_implies, reduceIte, mmU_rd, implies_true, or_false, false_or, or_true, true_or]
        have ej : jnV (I 200 j n) (E.2 (E.1 - evW (I 200 j n))) z = evJ (I 200 j n) E := by rw [hz]; rfl
        rw [ej]
        refine j62 _ _ _ _ hw0 (by omega) (fun q => ?_) (fun q => ?_)
        · unfold evT
          rw [if_neg (by omega), if_neg h8, if_neg (by omega), if_pos q]
        · unfold evT
          rw [if_neg (by omega), if_neg h8, if_neg (by omega), if_neg q]
          exact ⟨show (-1 : Int) < 0 by decide, rfl⟩
      have j38 : ¬ (-8 ≤ I 200 j n) → ∀ w l5 l6, w = evW (I 200 j n) → mmK (d + 1) 21 Q 38 [some (mo 1 j), some (mo t i), some (mv E.1), some (mv n), some (mv (I 200 j n)), l5, l6] [mv w, mv E.1] (mmUr I 201 j E.2, mmRf a br, X) := by
        intro h8 w l5 l6 hwe
        subst hwe
        refine mmC_step ?_
        simp only [cd_21, sg_21_0, sg_21_4, sg_21_23, sg_21_29, sg_21_31, sg_21_37, sg_21_38, sg_21_44, sg_21_54, sg_21_60, sg_21_62, sg_21_70, sg_21_72, sg_21_80, sg_21_88, sg_21_89, mmK_cut cd_21, q_cons, q_G0, q_GS, q_I1, q_L1, q_A1, q_S0, q_S1, q_SS, q_T0, q_T1, q_TS, q_Kn, q_Ki, q_Kl, q_Kr, q_k0, q_kS, q_rc, q_ps, q_pn, q_iconst, q_istore2, q_istore3, q_iload3, q_aload0, q_getfieldI, q_icmp_ge, q_getfieldA, q_iaload, q_istore, q_ldc2_w, q_lstore, q_iload, q_bipush, q_icmp_lt, q_if_lt, q_i2l, q_goto, q_aload1, q_isub, q_iload2, q_icmp_ne, q_if_ge, q_lreturn, q_laload, q_lconst0, q_iadd, q_invS, q_lload, q_lcmp, q_if_gt, q_lastore, q_iinc, rf_1_0, rf_1_1, mmKe_200, mmKe_201, mmKo_1, mmLen_200, mmLen_201, mmR32, mmR64, Option.some.injEq, Int.cast_ofNat_Int, and_true, true_and, if_true, if_false, List.length_cons, List.length_nil, Nat.le_refl, Nat.zero_le, Nat.sub_zero, forall_const, reduceCtorEq, Nat.reduceAdd, Nat.reduceSub, Nat.reduceLeDiff, Nat.reduceEqDiff, Int.reduceAdd, Int.reduceNeg, Int.reduceSub, Int.reduceLT, Int.reduceLE, Int.reduceMul, Int.reduceEq, List.drop_zero, List.drop_succ_cons, ne_eq, not_false_eq_true, not_true_eq_false, false_and, and_false, false_implies, true_implies, reduceIte, mmU_rd, implies_true, or_false, false_or, or_true, true_or, mmUr_rd]
        refine ⟨by omega, fun c => ?_, fun c => ?_⟩
        · have j60 := j60 h8 c
          refine mmC_step ?_
          simp only [cd_21, sg_21_0, sg_21_4, sg_21_23, sg_21_29, sg_21_31, sg_21_37, sg_21_38, sg_21_44, sg_21_54, sg_21_60, sg_21_62, sg_21_70, sg_21_72, sg_21_80, sg_21_88, sg_21_89, mmK_cut cd_21, q_cons, q_G0, q_GS, q_I1, q_L1, q_A1, q_S0, q_S1, q_SS, q_T0, q_T1, q_TS, q_Kn, q_Ki, q_Kl, q_Kr, q_k0, q_kS, q_rc, q_ps, q_pn, q_iconst, q_istore2, q_istore3, q_iload3, q_aload0, q_getfieldI, q_icmp_ge, q_getfieldA, q_iaload, q_istore, q_ldc2_w, q_lstore, q_iload, q_bipush, q_icmp_lt, q_if_lt, q_i2l, q_goto, q_aload1, q_isub, q_iload2, q_icmp_ne, q_if_ge, q_lreturn, q_laload, q_lconst0, q_iadd, q_invS, q_lload, q_lcmp, q_if_gt, q_lastore, q_iinc, rf_1_0, rf_1_1, mmKe_200, mmKe_201, mmKo_1, mmLen_200, mmLen_201, mmR32, mmR64, Option.some.injEq, Int.cast_ofNat_Int, and_true, true_and, if_true, if_false, List.length_cons, List.length_nil, Nat.le_refl, Nat.zero_le, Nat.sub_zero, forall_const, reduceCtorEq, Nat.reduceAdd, Nat.reduceSub, Nat.reduceLeDiff, Nat.reduceEqDiff, Int.reduceAdd, Int.reduceNeg, Int.reduceSub, Int.reduceLT, Int.reduceLE, Int.reduceMul, Int.reduceEq, List.drop_zero, List.drop_succ_cons, ne_eq, not_false_eq_true, not_true_eq_false, false_and, and_false, false_implies, true_implies, reduceIte, mmU_rd, implies_true, or_false, false_or, or_true, true_or, mmUr_rd]
          refine ⟨by omega, by omega, fun c2 => ?_, fun c2 => ?_⟩
          · have hw2 : evW (I 200 j n) = 2 := if_neg c2
            rw [if_neg c2] at j60
            refine mmC_step ?_
            simp only [cd_21, sg_21_0, sg_21_4, sg_21_23, sg_21_29, sg_21_31, sg_21_37, sg_21_38, sg_21_44, sg_21_54, sg_21_60, sg_21_62, sg_21_70, sg_21_72, sg_21_80, sg_21_88, sg_21_89, mmK_cut cd_21, q_cons, q_G0, q_GS, q_I1, q_L1, q_A1, q_S0, q_S1, q_SS, q_T0, q_T1, q_TS, q_Kn, q_Ki, q_Kl, q_Kr, q_k0, q_kS, q_rc, q_ps, q_pn, q_iconst, q_istore2, q_istore3, q_iload3, q_aload0, q_getfieldI, q_icmp_ge, q_getfieldA, q_iaload, q_istore, q_ldc2_w, q_lstore, q_iload, q_bipush, q_icmp_lt, q_if_lt, q_i2l, q_goto, q_aload1, q_isub, q_iload2, q_icmp_ne, q_if_ge, q_lreturn, q_laload, q_lconst0, q_iadd, q_invS, q_lload, q_lcmp, q_if_gt, q_lastore, q_iinc, rf_1_0, rf_1_1, mmKe_200, mmKe_201, mmKo_1, mmLen_200, mmLen_201, mmR32, mmR64, Option.some.injEq, Int.cast_ofNat_Int, and_true, true_and, if_true, if_false, List.length_cons, List.length_nil, Nat.le_refl, Nat.zero_le, Nat.sub_zero, forall_const, reduceCtorEq, Nat.reduceAdd, Nat.reduceSub, Nat.reduceLeDiff, Nat.reduceEqDiff, Int.reduceAdd, Int.reduceNeg, Int.reduceSub, Int.reduceLT, Int.reduceLE, Int.reduceMul, Int.reduceEq, List.drop_zero, List.drop_succ_cons, ne_eq, not_false_eq_true, not_true_eq_false, false_and, and_false, false_implies, true_implies, reduceIte, mmU_rd, implies_true, or_false, false_or, or_true, true_or, mmUr_rd]
            refine ⟨by omega, by omega, by omega, ?_⟩
            exact j60 _ _ _ (by rw [hw2, show E.1 - 2 + 1 = E.1 - 1 by omega])
          · rw [if_pos c2] at j60
            exact j60 _ _ _ rfl
        · have h1 : evT (I 200 j n) (I t i) E = (-1, E.2) := by
            unfold evT
            rw [if_neg (by omega), if_neg h8, if_pos (by omega)]
          have h3 := herr (by rw [h1]; exact (show (-1 : Int) < 0 by decide))
          rw [h3, h1] at hQ
          exact hQ
      refine mmC_step ?_
      simp only [cd_21, sg_21_0, sg_21_4, sg_21_23, sg_21_29, sg_21_31, sg_21_37, sg_21_38, sg_21_44, sg_21_54, sg_21_60, sg_21_62, sg_21_70, sg_21_72, sg_21_80, sg_21_88, sg_21_89, mmK_cut cd_21, q_cons, q_G0, q_GS, q_I1, q_L1, q_A1, q_S0, q_S1, q_SS, q_T0, q_T1, q_TS, q_Kn, q_Ki, q_Kl, q_Kr, q_k0, q_kS, q_rc, q_ps, q_pn, q_iconst, q_istore2, q_istore3, q_iload3, q_aload0, q_getfieldI, q_icmp_ge, q_getfieldA, q_iaload, q_istore, q_ldc2_w, q_lstore, q_iload, q_bipush, q_icmp_lt, q_if_lt, q_i2l, q_goto, q_aload1, q_isub, q_iload2, q_icmp_ne, q_if_ge, q_lreturn, q_laload, q_lconst0, q_iadd, q_invS, q_lload, q_lcmp, q_if_gt, q_lastore, q_iinc, rf_1_0, rf_1_1, mmKe_200, mmKe_201, mmKo_1, mmLen_200, mmLen_201, mmR32, mmR64, Option.some.injEq, Int.cast_ofNat_Int, and_true, true_and, if_true, if_false, List.length_cons, List.length_nil, Nat.le_refl, Nat.zero_le, Nat.sub_zero, forall_const, reduceCtorEq, Nat.reduceAdd, Nat.reduceSub, Nat.reduceLeDiff, Nat.reduceEqDiff, Int.reduceAdd, Int.reduceNeg, Int.reduceSub, Int.reduceLT, Int.reduceLE, Int.reduceMul, Int.reduceEq, List.drop_zero, List.drop_succ_cons, ne_eq, not_false_eq_true, not_true_eq_false, false_and, and_false, false_implies, true_implies, reduceIte, mmU_rd, implies_true, or_false, false_or, or_true, true_or, mmUr_rd]
      refine ⟨fun c => by omega, fun _ => ⟨by omega, by omega, fun c => ?_, fun c => ⟨fun c2 => ?_, fun c2 => ?_⟩⟩⟩
      · refine mmC_step ?_
        simp only [cd_21, sg_21_0, sg_21_4, sg_21_23, sg_21_29, sg_21_31, sg_21_37, sg_21_38, sg_21_44, sg_21_54, sg_21_60, sg_21_62, sg_21_70, sg_21_72, sg_21_80, sg_21_88, sg_21_89, mmK_cut cd_21, q_cons, q_G0, q_GS, q_I1, q_L1, q_A1, q_S0, q_S1, q_SS, q_T0, q_T1, q_TS, q_Kn, q_Ki, q_Kl, q_Kr, q_k0, q_kS, q_rc, q_ps, q_pn, q_iconst, q_istore2, q_istore3, q_iload3, q_aload0, q_getfieldI, q_icmp_ge, q_getfieldA, q_iaload, q_istore, q_ldc2_w, q_lstore, q_iload, q_bipush, q_icmp_lt, q_if_lt, q_i2l, q_goto, q_aload1, q_isub, q_iload2, q_icmp_ne, q_if_ge, q_lreturn, q_laload, q_lconst0, q_iadd, q_invS, q_lload, q_lcmp, q_if_gt, q_lastore, q_iinc, rf_1_0, rf_1_1, mmKe_200, mmKe_201, mmKo_1, mmLen_200, mmLen_201, mmR32, mmR64, Option.some.injEq, Int.cast_ofNat_Int, and_true, true_and, if_true, if_false, List.length_cons, List.length_nil, Nat.le_refl, Nat.zero_le, Nat.sub_zero, forall_const, reduceCtorEq, Nat.reduceAdd, Nat.reduceSub, Nat.reduceLeDiff, Nat.reduceEqDiff, Int.reduceAdd, Int.reduceNeg, Int.reduceSub, Int.reduceLT, Int.reduceLE, Int.reduceMul, Int.reduceEq, List.drop_zero, List.drop_succ_cons, ne_eq, not_false_eq_true, not_true_eq_false, false_and, and_false, false_implies, true_implies, reduceIte, mmU_rd, implies_true, or_false, false_or, or_true, true_or, mmUr_rd]
        refine ⟨fun c2 => ?_, fun c2 => ?_⟩
        · refine mmC_step ?_
          simp only [cd_21, sg_21_0, sg_21_4, sg_21_23, sg_21_29, sg_21_31, sg_21_37, sg_21_38, sg_21_44, sg_21_54, sg_21_60, sg_21_62, sg_21_70, sg_21_72, sg_21_80, sg_21_88, sg_21_89, mmK_cut cd_21, q_cons, q_G0, q_GS, q_I1, q_L1, q_A1, q_S0, q_S1, q_SS, q_T0, q_T1, q_TS, q_Kn, q_Ki, q_Kl, q_Kr, q_k0, q_kS, q_rc, q_ps, q_pn, q_iconst, q_istore2, q_istore3, q_iload3, q_aload0, q_getfieldI, q_icmp_ge, q_getfieldA, q_iaload, q_istore, q_ldc2_w, q_lstore, q_iload, q_bipush, q_icmp_lt, q_if_lt, q_i2l, q_goto, q_aload1, q_isub, q_iload2, q_icmp_ne, q_if_ge, q_lreturn, q_laload, q_lconst0, q_iadd, q_invS, q_lload, q_lcmp, q_if_gt, q_lastore, q_iinc, rf_1_0, rf_1_1, mmKe_200, mmKe_201, mmKo_1, mmLen_200, mmLen_201, mmR32, mmR64, Option.some.injEq, Int.cast_ofNat_Int, and_true, true_and, if_true, if_false, List.length_cons, List.length_nil, Nat.le_refl, Nat.zero_le, Nat.sub_zero, forall_const, reduceCtorEq, Nat.reduceAdd, Nat.reduceSub, Nat.reduceLeDiff, Nat.reduceEqDiff, Int.reduceAdd, Int.reduceNeg, Int.reduceSub, Int.reduceLT, Int.reduceLE, Int.reduceMul, Int.reduceEq, List.drop_zero, List.drop_succ_cons, ne_eq, not_false_eq_true, not_true_eq_false, false_and, and_false, false_implies, true_implies, reduceIte, mmU_rd, implies_true, or_false, false_or, or_true, true_or, mmUr_rd]
          exact j38 (by omega) _ _ _ (if_neg c2).symm
        · exact j38 (by omega) _ _ _ (if_pos c2).symm
      · refine mmC_step ?_
        simp only [cd_21, sg_21_0, sg_21_4, sg_21_23, sg_21_29, sg_21_31, sg_21_37, sg_21_38, sg_21_44, sg_21_54, sg_21_60, sg_21_62, sg_21_70, sg_21_72, sg_21_80, sg_21_88, sg_21_89, mmK_cut cd_21, q_cons, q_G0, q_GS, q_I1, q_L1, q_A1, q_S0, q_S1, q_SS, q_T0, q_T1, q_TS, q_Kn, q_Ki, q_Kl, q_Kr, q_k0, q_kS, q_rc, q_ps, q_pn, q_iconst, q_istore2, q_istore3, q_iload3, q_aload0, q_getfieldI, q_icmp_ge, q_getfieldA, q_iaload, q_istore, q_ldc2_w, q_lstore, q_iload, q_bipush, q_icmp_lt, q_if_lt, q_i2l, q_goto, q_aload1, q_isub, q_iload2, q_icmp_ne, q_if_ge, q_lreturn, q_laload, q_lconst0, q_iadd, q_invS, q_lload, q_lcmp, q_if_gt, q_lastore, q_iinc, rf_1_0, rf_1_1, mmKe_200, mmKe_201, mmKo_1, mmLen_200, mmLen_201, mmR32, mmR64, Option.some.injEq, Int.cast_ofNat_Int, and_true, true_and, if_true, if_false, List.length_cons, List.length_nil, Nat.le_refl, Nat.zero_le, Nat.sub_zero, forall_const, reduceCtorEq, Nat.reduceAdd, Nat.reduceSub, Nat.reduceLeDiff, Nat.reduceEqDiff, Int.reduceAdd, Int.reduceNeg, Int.reduceSub, Int.reduceLT, Int.reduceLE, Int.reduceMul, Int.reduceEq, List.drop_zero, List.drop_succ_cons, ne_eq, not_false_eq_true, not_true_eq_false, false_and, and_false, false_implies, true_implies, reduceIte, mmU_rd, implies_true, or_false, false_or, or_true, true_or, mmUr_rd, htn, show ¬ (201 = t) from fun q => htn q.symm]
        exact ⟨by omega, ht, by omega, by omega, j29 c _ _ _ _ (if_neg (by omega)).symm⟩
      · exact j29 c _ _ _ _ (if_pos c2).symm
  refine mmC_in (by decide) (Nat.le_of_ble_eq_true rfl) (mmC_step ?_)
  simp only [show mmMl 21 = 7 from rfl, mmLs, List.replicate, cd_21, sg_21_0, sg_21_4, sg_21_23, sg_21_29, sg_21_31, sg_21_37, sg_21_38, sg_21_44, sg_21_54, sg_21_60, sg_21_62, sg_21_70, sg_21_72, sg_21_80, sg_21_88, sg_21_89, mmK_cut cd_21, q_cons, q_G0, q_GS, q_I1, q_L1, q_A1, q_S0, q_S1, q_SS, q_T0, q_T1, q_TS, q_Kn, q_Ki, q_Kl, q_Kr, q_k0, q_kS, q_rc, q_ps, q_pn, q_iconst, q_istore2, q_istore3, q_iload3, q_aload0, q_getfieldI, q_icmp_ge, q_getfieldA, q_iaload, q_istore, q_ldc2_w, q_lstore, q_iload, q_bipush, q_icmp_lt, q_if_lt, q_i2l, q_goto, q_aload1, q_isub, q_iload2, q_icmp_ne, q_if_ge, q_lreturn, q_laload, q_lconst0, q_iadd, q_invS, q_lload, q_lcmp, q_if_gt, q_lastore, q_iinc, rf_1_0, rf_1_1, mmKe_200, mmKe_201, mmKo_1, mmLen_200, mmLen_201, mmR32, mmR64, Option.some.injEq, Int.cast_ofNat_Int, and_true, true_and, if_true, if_false, List.length_cons, List.length_nil, Nat.le_refl, Nat.zero_le, Nat.sub_zero, forall_const, reduceCtorEq, Nat.reduceAdd, Nat.reduceSub, Nat.reduceLeDiff, Nat.reduceEqDiff, Int.reduceAdd, Int.reduceNeg, Int.reduceSub, Int.reduceLT, Int.reduceLE, Int.reduceMul, Int.reduceEq, List.drop_zero, List.drop_succ_cons, ne_eq, not_false_eq_true, not_true_eq_false, false_and, and_false, false_implies, true_implies, reduceIte, mmU_rd, implies_true, or_false, false_or, or_true, true_or]
  have := key (I 1 j 2).toNat 0 none none none (by omega) (by unfold evS; omega)
  unfold evS at this
  rw [mmUr_self] at this
  exact this
end S51
