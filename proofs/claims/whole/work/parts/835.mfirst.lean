def Fr0 (I I' : mMm) : Prop := ∀ t i k, ¬ (t = 1259 ∧ 0 ≤ k ∧ k < 25) → I' t i k = I t i k
section S835
variable {d a : Nat} {I I' : mMm} {br : Nat → Option mmO} {X : mmX} {r : mRu} {Q : Option mmV → mmM → Prop}
theorem Fr0_U {k v : Int} (h : Fr0 I I') (hk : 0 ≤ k ∧ k < 25) : Fr0 I (mmU I' 1259 0 k v) := by
  intro t i z c
  rw [← h t i z c]
  unfold mmU
  rw [if_neg (by rintro ⟨rfl, rfl, rfl⟩; exact c ⟨rfl, hk⟩)]
theorem m_layFirst (hR : RK r I) : mmC (d + 1) 188 [mo 11 0] (I, mmRf a br, X) (mT a br X fun v I' => v = none ∧ Fr0 I I' ∧ MB I' 0 (r 714)) := by
  have hS := hR.1.2.2
  have w3 : 0 ≤ r 6 3 ∧ r 6 3 ≤ 8 := hR.2.2.2.2.2.1
  have e3 : I 11 0 15 = r 6 3 := hR.1.1.2.2.2.1
  have hp : r 6 0 * r 6 1 ≤ 25 := by
    have := (pt_in hR.2.2.1 hR.2.2.2.1 (x := 0) (y := 0) (by have := hR.2.2.1; omega) (by have := hR.2.2.2.1; omega)).2.2.1
    omega
  have k2 : ∀ (q n : Nat) I1, (n : Int) + q = r 6 3 → Fr0 I I1 → MB I1 0 (lyF (Gk I) n) → mmK d 188 (mT a br X fun v I' => v = none ∧ Fr0 I I' ∧ MB I' 0 (r 714)) 14 [some (mo 11 0), some (mv n)] [] (I1, mmRf a br, X) := by
    intro q
    induction q with
    | zero =>
      intro n I1 hn f1 hM
      have e : n = (r 6 3).toNat := by omega
      refine mmC_step ?_
      simp only [cd_188, sg_188_0, sg_188_2, sg_188_12, sg_188_14, sg_188_38, mmK_cut cd_188, q_cons, q_G0, q_GS, q_I1, q_L1, q_A1, q_S0, q_S1, q_SS, q_T0, q_T1, q_TS, q_Kn, q_Ki, q_Kl, q_Kr, q_k0, q_kS, q_rc, q_ps, q_pn, q_iconst, q_istore1, q_iload1, q_bipush, q_icmp_ge, q_aload0, q_getfieldA, q_iastore, q_iinc, q_goto, q_getfieldI, q_iaload, q_imul, q_iadd, q_return, rf_11_41, rf_11_42, rf_11_43, rf_11_59, mmKe_1241, mmKe_1242, mmKe_1243, mmKe_1259, mmKo_11, mmLen_1241, mmLen_1242, mmLen_1243, mmLen_1259, mmR32, mmR64, Option.some.injEq, Int.cast_ofNat_Int, and_true, true_and, if_true, if_false, List.length_cons, List.length_nil, Nat.le_refl, Nat.zero_le, Nat.sub_zero, forall_const, reduceCtorEq, Nat.reduceAdd, Nat.reduceSub, Nat.reduceLeDiff, Nat.reduceEqDiff, Int.reduceAdd, Int.reduceNeg, Int.reduceSub, Int.reduceLT, Int.reduceLE, Int.reduceMul, Int.reduceEq, List.drop_zero, List.drop_succ_cons, ne_eq, not_false_eq_true, not_true_eq_false, false_and, and_false, false_implies, true_implies, reduceIte, mmU_rd, implies_true, or_false, false_or, or_true, true_or]
      rw [f1 11 0 15 (by omega), e3]
      refine ⟨fun _ => ?_, fun c => by omega⟩
      refine mmC_step ?_
      simp only [cd_188, sg_188_0, sg_188_2, sg_188_12, sg_188_14, sg_188_38, mmK_cut cd_188, q_cons, q_G0, q_GS, q_I1, q_L1, q_A1, q_S0, q_S1, q_SS, q_T0, q_T1, q_TS, q_Kn, q_Ki, q_Kl, q_Kr, q_k0, q_kS, q_rc, q_ps, q_pn, q_iconst, q_istore1, q_iload1, q_bipush, q_icmp_ge, q_aload0, q_getfieldA, q_iastore, q_iinc, q_goto, q_getfieldI, q_iaload, q_imul, q_iadd, q_return, rf_11_41, rf_11_42, rf_11_43, rf_11_59, mmKe_1241, mmKe_1242, mmKe_1243, mmKe_1259, mmKo_11, mmLen_1241, mmLen_1242, mmLen_1243, mmLen_1259, mmR32, mmR64, Option.some.injEq, Int.cast_ofNat_Int, and_true, true_and, if_true, if_false, List.length_cons, List.length_nil, Nat.le_refl, Nat.zero_le, Nat.sub_zero, forall_const, reduceCtorEq, Nat.reduceAdd, Nat.reduceSub, Nat.reduceLeDiff, Nat.reduceEqDiff, Int.reduceAdd, Int.reduceNeg, Int.reduceSub, Int.reduceLT, Int.reduceLE, Int.reduceMul, Int.reduceEq, List.drop_zero, List.drop_succ_cons, ne_eq, not_false_eq_true, not_true_eq_false, false_and, and_false, false_implies, true_implies, reduceIte, mmU_rd, implies_true, or_false, false_or, or_true, true_or]
      refine mT_in ⟨rfl, f1, fun z z0 z1 => ?_⟩
      rw [hM z z0 z1, e, ly_all hS w3.1 ⟨z0, z1⟩]
    | succ q ihq =>
      intro n I1 hn f1 hM
      obtain ⟨g1, g2, g3, g4⟩ := hS.1 n (by omega) (by omega)
      have w2 := hR.2.2.2.2.1
      have e20 : Gk I 20 n = I 1241 0 n := rfl
      have e21 : Gk I 21 n = I 1242 0 n := rfl
      have e22 : Gk I 22 n = I 1243 0 n := rfl
      rw [e20] at g1
      rw [e21] at g2
      rw [e22] at g3
      refine mmC_step ?_
      simp only [cd_188, sg_188_0, sg_188_2, sg_188_12, sg_188_14, sg_188_38, mmK_cut cd_188, q_cons, q_G0, q_GS, q_I1, q_L1, q_A1, q_S0, q_S1, q_SS, q_T0, q_T1, q_TS, q_Kn, q_Ki, q_Kl, q_Kr, q_k0, q_kS, q_rc, q_ps, q_pn, q_iconst, q_istore1, q_iload1, q_bipush, q_icmp_ge, q_aload0, q_getfieldA, q_iastore, q_iinc, q_goto, q_getfieldI, q_iaload, q_imul, q_iadd, q_return, rf_11_41, rf_11_42, rf_11_43, rf_11_59, mmKe_1241, mmKe_1242, mmKe_1243, mmKe_1259, mmKo_11, mmLen_1241, mmLen_1242, mmLen_1243, mmLen_1259, mmR32, mmR64, Option.some.injEq, Int.cast_ofNat_Int, and_true, true_and, if_true, if_false, List.length_cons, List.length_nil, Nat.le_refl, Nat.zero_le, Nat.sub_zero, forall_const, reduceCtorEq, Nat.reduceAdd, Nat.reduceSub, Nat.reduceLeDiff, Nat.reduceEqDiff, Int.reduceAdd, Int.reduceNeg, Int.reduceSub, Int.reduceLT, Int.reduceLE, Int.reduceMul, Int.reduceEq, List.drop_zero, List.drop_succ_cons, ne_eq, not_false_eq_true, not_true_eq_false, false_and, and_false, false_implies, true_implies, reduceIte, mmU_rd, implies_true, or_false, false_or, or_true, true_or]
      rw [f1 11 0 15 (by omega), e3, f1 1241 0 n (by omega), f1 1242 0 n (by omega), f1 1243 0 n (by omega)]
      refine ⟨fun c => by omega, fun _ => ⟨by omega, by omega, by omega, by omega, by omega, by omega, by omega, by omega, by omega, by omega, by omega, ihq (n + 1) _ (by omega) (Fr0_U f1 (by omega)) (fun z z0 z1 => ?_)⟩⟩
      show mmU I1 1259 0 (I 1243 0 n) (I 1241 0 n + 4 * I 1242 0 n) 1259 0 (25 * 0 + z) = mB (fup (lyF (Gk I) n) (I 1243 0 n) (I 1241 0 n + 4 * I 1242 0 n) z)
      have hz := hM z z0 z1
      unfold mmU fup
      by_cases c : z = I 1243 0 n
      · rw [if_pos ⟨rfl, rfl, by omega⟩, if_pos c]
        unfold mB
        rw [if_neg (by omega)]
      · rw [if_neg (fun q => c (by omega)), if_neg c]
        exact hz
  have k1 : ∀ (q n : Nat) I1, n + q = 25 → Fr0 I I1 → (∀ z : Int, 0 ≤ z → z < n → I1 1259 0 z = -1) → mmK d 188 (mT a br X fun v I' => v = none ∧ Fr0 I I' ∧ MB I' 0 (r 714)) 2 [some (mo 11 0), some (mv n)] [] (I1, mmRf a br, X) := by
    intro q
    induction q with
    | zero =>
      intro n I1 hn f1 hM
      refine mmC_step ?_
      simp only [cd_188, sg_188_0, sg_188_2, sg_188_12, sg_188_14, sg_188_38, mmK_cut cd_188, q_cons, q_G0, q_GS, q_I1, q_L1, q_A1, q_S0, q_S1, q_SS, q_T0, q_T1, q_TS, q_Kn, q_Ki, q_Kl, q_Kr, q_k0, q_kS, q_rc, q_ps, q_pn, q_iconst, q_istore1, q_iload1, q_bipush, q_icmp_ge, q_aload0, q_getfieldA, q_iastore, q_iinc, q_goto, q_getfieldI, q_iaload, q_imul, q_iadd, q_return, rf_11_41, rf_11_42, rf_11_43, rf_11_59, mmKe_1241, mmKe_1242, mmKe_1243, mmKe_1259, mmKo_11, mmLen_1241, mmLen_1242, mmLen_1243, mmLen_1259, mmR32, mmR64, Option.some.injEq, Int.cast_ofNat_Int, and_true, true_and, if_true, if_false, List.length_cons, List.length_nil, Nat.le_refl, Nat.zero_le, Nat.sub_zero, forall_const, reduceCtorEq, Nat.reduceAdd, Nat.reduceSub, Nat.reduceLeDiff, Nat.reduceEqDiff, Int.reduceAdd, Int.reduceNeg, Int.reduceSub, Int.reduceLT, Int.reduceLE, Int.reduceMul, Int.reduceEq, List.drop_zero, List.drop_succ_cons, ne_eq, not_false_eq_true, not_true_eq_false, false_and, and_false, false_implies, true_implies, reduceIte, mmU_rd, implies_true, or_false, false_or, or_true, true_or]
      refine ⟨fun _ => ?_, fun c => by omega⟩
      refine mmC_step ?_
      simp only [cd_188, sg_188_0, sg_188_2, sg_188_12, sg_188_14, sg_188_38, mmK_cut cd_188, q_cons, q_G0, q_GS, q_I1, q_L1, q_A1, q_S0, q_S1, q_SS, q_T0, q_T1, q_TS, q_Kn, q_Ki, q_Kl, q_Kr, q_k0, q_kS, q_rc, q_ps, q_pn, q_iconst, q_istore1, q_iload1, q_bipush, q_icmp_ge, q_aload0, q_getfieldA, q_iastore, q_iinc, q_goto, q_getfieldI, q_iaload, q_imul, q_iadd, q_return, rf_11_41, rf_11_42, rf_11_43, rf_11_59, mmKe_1241, mmKe_1242, mmKe_1243, mmKe_1259, mmKo_11, mmLen_1241, mmLen_1242, mmLen_1243, mmLen_1259, mmR32, mmR64, Option.some.injEq, Int.cast_ofNat_Int, and_true, true_and, if_true, if_false, List.length_cons, List.length_nil, Nat.le_refl, Nat.zero_le, Nat.sub_zero, forall_const, reduceCtorEq, Nat.reduceAdd, Nat.reduceSub, Nat.reduceLeDiff, Nat.reduceEqDiff, Int.reduceAdd, Int.reduceNeg, Int.reduceSub, Int.reduceLT, Int.reduceLE, Int.reduceMul, Int.reduceEq, List.drop_zero, List.drop_succ_cons, ne_eq, not_false_eq_true, not_true_eq_false, false_and, and_false, false_implies, true_implies, reduceIte, mmU_rd, implies_true, or_false, false_or, or_true, true_or]
      refine k2 (r 6 3).toNat 0 I1 (by omega) f1 (fun z z0 z1 => ?_)
      rw [hM (25 * 0 + z) (by omega) (by omega)]
      rfl
    | succ q ihq =>
      intro n I1 hn f1 hM
      refine mmC_step ?_
      simp only [cd_188, sg_188_0, sg_188_2, sg_188_12, sg_188_14, sg_188_38, mmK_cut cd_188, q_cons, q_G0, q_GS, q_I1, q_L1, q_A1, q_S0, q_S1, q_SS, q_T0, q_T1, q_TS, q_Kn, q_Ki, q_Kl, q_Kr, q_k0, q_kS, q_rc, q_ps, q_pn, q_iconst, q_istore1, q_iload1, q_bipush, q_icmp_ge, q_aload0, q_getfieldA, q_iastore, q_iinc, q_goto, q_getfieldI, q_iaload, q_imul, q_iadd, q_return, rf_11_41, rf_11_42, rf_11_43, rf_11_59, mmKe_1241, mmKe_1242, mmKe_1243, mmKe_1259, mmKo_11, mmLen_1241, mmLen_1242, mmLen_1243, mmLen_1259, mmR32, mmR64, Option.some.injEq, Int.cast_ofNat_Int, and_true, true_and, if_true, if_false, List.length_cons, List.length_nil, Nat.le_refl, Nat.zero_le, Nat.sub_zero, forall_const, reduceCtorEq, Nat.reduceAdd, Nat.reduceSub, Nat.reduceLeDiff, Nat.reduceEqDiff, Int.reduceAdd, Int.reduceNeg, Int.reduceSub, Int.reduceLT, Int.reduceLE, Int.reduceMul, Int.reduceEq, List.drop_zero, List.drop_succ_cons, ne_eq, not_false_eq_true, not_true_eq_false, false_and, and_false, false_implies, true_implies, reduceIte, mmU_rd, implies_true, or_false, false_or, or_true, true_or]
      refine ⟨fun c => by omega, fun _ => ⟨by omega, by omega, by omega, ihq (n + 1) _ (by omega) (Fr0_U f1 (by omega)) (fun z z0 z1 => ?_)⟩⟩
      unfold mmU
      by_cases c : z = n
      · rw [if_pos ⟨rfl, rfl, c⟩]
      · rw [if_neg (fun q => c q.2.2)]
        exact hM z z0 (by omega)
  refine mmC_in (by decide) (Nat.le_of_ble_eq_true rfl) (mmC_step ?_)
  simp only [show mmMl 188 = 2 from rfl, mmLs, List.replicate, cd_188, sg_188_0, sg_188_2, sg_188_12, sg_188_14, sg_188_38, mmK_cut cd_188, q_cons, q_G0, q_GS, q_I1, q_L1, q_A1, q_S0, q_S1, q_SS, q_T0, q_T1, q_TS, q_Kn, q_Ki, q_Kl, q_Kr, q_k0, q_kS, q_rc, q_ps, q_pn, q_iconst, q_istore1, q_iload1, q_bipush, q_icmp_ge, q_aload0, q_getfieldA, q_iastore, q_iinc, q_goto, q_getfieldI, q_iaload, q_imul, q_iadd, q_return, rf_11_41, rf_11_42, rf_11_43, rf_11_59, mmKe_1241, mmKe_1242, mmKe_1243, mmKe_1259, mmKo_11, mmLen_1241, mmLen_1242, mmLen_1243, mmLen_1259, mmR32, mmR64, Option.some.injEq, Int.cast_ofNat_Int, and_true, true_and, if_true, if_false, List.length_cons, List.length_nil, Nat.le_refl, Nat.zero_le, Nat.sub_zero, forall_const, reduceCtorEq, Nat.reduceAdd, Nat.reduceSub, Nat.reduceLeDiff, Nat.reduceEqDiff, Int.reduceAdd, Int.reduceNeg, Int.reduceSub, Int.reduceLT, Int.reduceLE, Int.reduceMul, Int.reduceEq, List.drop_zero, List.drop_succ_cons, ne_eq, not_false_eq_true, not_true_eq_false, false_and, and_false, false_implies, true_implies, reduceIte, mmU_rd, implies_true, or_false, false_or, or_true, true_or]
  exact k1 25 0 I (by omega) (fun _ _ _ _ => rfl) (fun z z0 z1 => by omega)
end S835
