theorem rf_swap {a : Nat} {br : Nat → Option mmO} (ha : a = 0 ∨ a = 1) : mmU (mmU (mmRf a br) 10 0 3 (some (6, a))) 10 0 2 (some (6, 1 - a)) = mmRf (1 - a) br := by
  funext t i k
  unfold mmU
  by_cases c1 : t = 10 ∧ i = 0 ∧ k = 2
  · obtain ⟨rfl, rfl, rfl⟩ := c1
    rfl
  · rw [if_neg c1]
    by_cases c2 : t = 10 ∧ i = 0 ∧ k = 3
    · obtain ⟨rfl, rfl, rfl⟩ := c2
      show some (6, a) = some (6, 1 - (1 - a))
      rcases ha with rfl | rfl <;> rfl
    · rw [if_neg c2]
      have c1' : ¬ (t = 10 ∧ k = 2 ∧ i = 0) := fun q => c1 ⟨q.1, q.2.2, q.2.1⟩
      have c2' : ¬ (t = 10 ∧ k = 3 ∧ i = 0) := fun q => c2 ⟨q.1, q.2.2, q.2.1⟩
      unfold mmRf
      rw [if_neg c1', if_neg c2', if_neg c1', if_neg c2']
section S69
variable {d a : Nat} {I : mMm} {br : Nat → Option mmO} {X : mmX} {Q : Option mmV → mmM → Prop}
set_option maxHeartbeats 1000000 in
theorem c_text {n : Int} (ha : a = 0 ∨ a = 1) (hf : 0 ≤ I 8 0 1 ∧ I 8 0 1 ≤ 700) (hch : -2147483648 ≤ I 10 0 11 + 1 ∧ I 10 0 11 + 1 ≤ 2147483647)
    (hA : (n < 0 ∨ I 8 0 1 < n) → Q (some (mv (-2))) (I, mmRf a br, X))
    (hB : 0 ≤ n → n ≤ I 8 0 1 → ∀ r0 e I', RC r0 → txF (I 900 0) n 701 0 r0 0 0 = .inl e → FrT (1 - a) I I' → I' 8 0 1 = 0 → I' 8 0 7 = e.1 → I' 8 0 8 = e.2 → Q (some (mv (-1))) (I', mmRf a br, X))
    (hC : 0 ≤ n → n ≤ I 8 0 1 → ∀ r0 m r' I1, RC r0 → txF (I 900 0) n 701 0 r0 0 0 = .inr (m, r') → FrT (1 - a) I I1 → I1 8 0 1 = 0 → I1 8 0 7 = 0 → I1 8 0 8 = -1 → (∀ t k, rtag t → I1 t (1 - a) k = r' t k) → Q (some (mv m)) (mmU (mmU (mmU (mmU (mmU I1 3 0 0 0) 3 0 11 0) 3 0 14 0) 10 0 6 0) 10 0 11 (I 10 0 11 + 1), mmRf (1 - a) br, X)) : mmC (d + 8) 101 [mo 10 0, mv n] (I, mmRf a br, X) Q := by
  have w7 : (n < 0 ∨ I 8 0 1 < n) → mmK (d + 7) 101 Q 7 [some (mo 10 0), some (mv n), none, none] [] (I, mmRf a br, X) := by
    intro c
    refine mmC_step ?_
    simp only [cd_101, sg_101_0, sg_101_7, sg_101_9, sg_101_30, mmK_cut cd_101, q_cons, q_G0, q_GS, q_I1, q_L1, q_A1, q_S0, q_S1, q_SS, q_T0, q_T1, q_TS, q_Kn, q_Ki, q_Kl, q_Kr, q_k0, q_kS, q_rc, q_ps, q_pn, q_iload1, q_if_lt, q_aload0, q_getfieldA, q_getfieldI, q_icmp_le, q_bipush, q_ireturn0, q_invV, q_istore2, q_iconst, q_putfieldI, q_iload2, q_icmp_ne, q_astore3, q_putfieldA, q_aload3, q_putfieldZ, q_dupI, q_dupA, q_iadd, rf_10_0, rf_10_1, rf_10_2, rf_10_3, rf_10_4, mmKo_10, mmKo_3, mmKo_4, mmKo_8, mmR32, mmR64, Option.some.injEq, Int.cast_ofNat_Int, and_true, true_and, if_true, if_false, List.length_cons, List.length_nil, Nat.le_refl, Nat.zero_le, Nat.sub_zero, forall_const, reduceCtorEq, Nat.reduceAdd, Nat.reduceSub, Nat.reduceLeDiff, Nat.reduceEqDiff, Int.reduceAdd, Int.reduceNeg, Int.reduceSub, Int.reduceLT, Int.reduceLE, Int.reduceMul, Int.reduceEq, List.drop_zero, List.drop_succ_cons, ne_eq, not_false_eq_true, not_true_eq_false, false_and, and_false, false_implies, true_implies, reduceIte, mmU_rd, implies_true, or_false, false_or, or_true, true_or]
    exact hA c
  refine mmC_in (by decide) (Nat.le_of_ble_eq_true rfl) (mmC_step ?_)
  simp only [show mmMl 101 = 4 from rfl, mmLs, List.replicate, cd_101, sg_101_0, sg_101_7, sg_101_9, sg_101_30, mmK_cut cd_101, q_cons, q_G0, q_GS, q_I1, q_L1, q_A1, q_S0, q_S1, q_SS, q_T0, q_T1, q_TS, q_Kn, q_Ki, q_Kl, q_Kr, q_k0, q_kS, q_rc, q_ps, q_pn, q_iload1, q_if_lt, q_aload0, q_getfieldA, q_getfieldI, q_icmp_le, q_bipush, q_ireturn0, q_invV, q_istore2, q_iconst, q_putfieldI, q_iload2, q_icmp_ne, q_astore3, q_putfieldA, q_aload3, q_putfieldZ, q_dupI, q_dupA, q_iadd, rf_10_0, rf_10_1, rf_10_2, rf_10_3, rf_10_4, mmKo_10, mmKo_3, mmKo_4, mmKo_8, mmR32, mmR64, Option.some.injEq, Int.cast_ofNat_Int, and_true, true_and, if_true, if_false, List.length_cons, List.length_nil, Nat.le_refl, Nat.zero_le, Nat.sub_zero, forall_const, reduceCtorEq, Nat.reduceAdd, Nat.reduceSub, Nat.reduceLeDiff, Nat.reduceEqDiff, Int.reduceAdd, Int.reduceNeg, Int.reduceSub, Int.reduceLT, Int.reduceLE, Int.reduceMul, Int.reduceEq, List.drop_zero, List.drop_succ_cons, ne_eq, not_false_eq_true, not_true_eq_false, false_and, and_false, false_implies, true_implies, reduceIte, mmU_rd, implies_true, or_false, false_or, or_true, true_or]
  refine ⟨fun c => w7 (Or.inl c), fun c => ⟨fun c2 => ?_, fun c2 => w7 (Or.inr c2)⟩⟩
  refine mmC_step ?_
  simp only [cd_101, sg_101_0, sg_101_7, sg_101_9, sg_101_30, mmK_cut cd_101, q_cons, q_G0, q_GS, q_I1, q_L1, q_A1, q_S0, q_S1, q_SS, q_T0, q_T1, q_TS, q_Kn, q_Ki, q_Kl, q_Kr, q_k0, q_kS, q_rc, q_ps, q_pn, q_iload1, q_if_lt, q_aload0, q_getfieldA, q_getfieldI, q_icmp_le, q_bipush, q_ireturn0, q_invV, q_istore2, q_iconst, q_putfieldI, q_iload2, q_icmp_ne, q_astore3, q_putfieldA, q_aload3, q_putfieldZ, q_dupI, q_dupA, q_iadd, rf_10_0, rf_10_1, rf_10_2, rf_10_3, rf_10_4, mmKo_10, mmKo_3, mmKo_4, mmKo_8, mmR32, mmR64, Option.some.injEq, Int.cast_ofNat_Int, and_true, true_and, if_true, if_false, List.length_cons, List.length_nil, Nat.le_refl, Nat.zero_le, Nat.sub_zero, forall_const, reduceCtorEq, Nat.reduceAdd, Nat.reduceSub, Nat.reduceLeDiff, Nat.reduceEqDiff, Int.reduceAdd, Int.reduceNeg, Int.reduceSub, Int.reduceLT, Int.reduceLE, Int.reduceMul, Int.reduceEq, List.drop_zero, List.drop_succ_cons, ne_eq, not_false_eq_true, not_true_eq_false, false_and, and_false, false_implies, true_implies, reduceIte, mmU_rd, implies_true, or_false, false_or, or_true, true_or]
  refine sp_open (by omega) ?_
  simp only [mmK_cut cd_101, q_cons, q_G0, q_GS, q_I1, q_L1, q_A1, q_S0, q_S1, q_SS, q_T0, q_T1, q_TS, q_Kn, q_Ki, q_Kl, q_Kr, q_k0, q_kS, q_rc, q_ps, q_pn, q_iload1, q_if_lt, q_aload0, q_getfieldA, q_getfieldI, q_icmp_le, q_bipush, q_ireturn0, q_invV, q_istore2, q_iconst, q_putfieldI, q_iload2, q_icmp_ne, q_astore3, q_putfieldA, q_aload3, q_putfieldZ, q_dupI, q_dupA, q_iadd, rf_10_0, rf_10_1, rf_10_2, rf_10_3, rf_10_4, mmKo_10, mmKo_3, mmKo_4, mmKo_8, mmR32, mmR64, Option.some.injEq, Int.cast_ofNat_Int, and_true, true_and, if_true, if_false, List.length_cons, List.length_nil, Nat.le_refl, Nat.zero_le, Nat.sub_zero, forall_const, reduceCtorEq, Nat.reduceAdd, Nat.reduceSub, Nat.reduceLeDiff, Nat.reduceEqDiff, Int.reduceAdd, Int.reduceNeg, Int.reduceSub, Int.reduceLT, Int.reduceLE, Int.reduceMul, Int.reduceEq, List.drop_zero, List.drop_succ_cons, ne_eq, not_false_eq_true, not_true_eq_false, false_and, and_false, false_implies, true_implies, reduceIte, mmU_rd, implies_true, or_false, false_or, or_true, true_or]
  have hcw : CW (mmUr I 8 0 (tkA (fup (fup (fup (I 8 0) 2 n) 7 0) 8 (-1)) (I 900 0) 0)) (I 900 0) n := ⟨⟨rfl, rfl, rfl, rfl, rfl, rfl⟩, rfl, rfl, c, by omega⟩
  refine mT_use (c_readText hcw) (fun v I1 q => ?_)
  have f0 : FrT (1 - a) I (mmUr I 8 0 (tkA (fup (fup (fup (I 8 0) 2 n) 7 0) 8 (-1)) (I 900 0) 0)) := by
    intro t i k c
    unfold mmUr
    rw [if_neg (by omega)]
  have f8 : ∀ I2 : mMm, FrT (1 - a) I2 (mmU I2 8 0 1 0) := by
    intro I2 t i k c
    unfold mmU
    rw [if_neg (by omega)]
  obtain ⟨r0, hr0, q⟩ := q
  rcases q with ⟨e, q1, rfl, q2, q3, q4⟩ | ⟨m, r', p', o', q1, q2, rfl, q3, q4⟩
  · simp only [mmK_cut cd_101, q_cons, q_G0, q_GS, q_I1, q_L1, q_A1, q_S0, q_S1, q_SS, q_T0, q_T1, q_TS, q_Kn, q_Ki, q_Kl, q_Kr, q_k0, q_kS, q_rc, q_ps, q_pn, q_iload1, q_if_lt, q_aload0, q_getfieldA, q_getfieldI, q_icmp_le, q_bipush, q_ireturn0, q_invV, q_istore2, q_iconst, q_putfieldI, q_iload2, q_icmp_ne, q_astore3, q_putfieldA, q_aload3, q_putfieldZ, q_dupI, q_dupA, q_iadd, rf_10_0, rf_10_1, rf_10_2, rf_10_3, rf_10_4, mmKo_10, mmKo_3, mmKo_4, mmKo_8, mmR32, mmR64, Option.some.injEq, Int.cast_ofNat_Int, and_true, true_and, if_true, if_false, List.length_cons, List.length_nil, Nat.le_refl, Nat.zero_le, Nat.sub_zero, forall_const, reduceCtorEq, Nat.reduceAdd, Nat.reduceSub, Nat.reduceLeDiff, Nat.reduceEqDiff, Int.reduceAdd, Int.reduceNeg, Int.reduceSub, Int.reduceLT, Int.reduceLE, Int.reduceMul, Int.reduceEq, List.drop_zero, List.drop_succ_cons, ne_eq, not_false_eq_true, not_true_eq_false, false_and, and_false, false_implies, true_implies, reduceIte, mmU_rd, implies_true, or_false, false_or, or_true, true_or]
    exact hB c c2 r0 e _ hr0 q1 (FrT_trans (FrT_trans f0 q2.1) (f8 I1)) rfl q3 q4
  · simp only [mmK_cut cd_101, q_cons, q_G0, q_GS, q_I1, q_L1, q_A1, q_S0, q_S1, q_SS, q_T0, q_T1, q_TS, q_Kn, q_Ki, q_Kl, q_Kr, q_k0, q_kS, q_rc, q_ps, q_pn, q_iload1, q_if_lt, q_aload0, q_getfieldA, q_getfieldI, q_icmp_le, q_bipush, q_ireturn0, q_invV, q_istore2, q_iconst, q_putfieldI, q_iload2, q_icmp_ne, q_astore3, q_putfieldA, q_aload3, q_putfieldZ, q_dupI, q_dupA, q_iadd, rf_10_0, rf_10_1, rf_10_2, rf_10_3, rf_10_4, mmKo_10, mmKo_3, mmKo_4, mmKo_8, mmR32, mmR64, Option.some.injEq, Int.cast_ofNat_Int, and_true, true_and, if_true, if_false, List.length_cons, List.length_nil, Nat.le_refl, Nat.zero_le, Nat.sub_zero, forall_const, reduceCtorEq, Nat.reduceAdd, Nat.reduceSub, Nat.reduceLeDiff, Nat.reduceEqDiff, Int.reduceAdd, Int.reduceNeg, Int.reduceSub, Int.reduceLT, Int.reduceLE, Int.reduceMul, Int.reduceEq, List.drop_zero, List.drop_succ_cons, ne_eq, not_false_eq_true, not_true_eq_false, false_and, and_false, false_implies, true_implies, reduceIte, mmU_rd, implies_true, or_false, false_or, or_true, true_or]
    refine ⟨fun _ => ?_, fun c3 => by omega⟩
    refine mmC_step ?_
    simp only [cd_101, sg_101_0, sg_101_7, sg_101_9, sg_101_30, mmK_cut cd_101, q_cons, q_G0, q_GS, q_I1, q_L1, q_A1, q_S0, q_S1, q_SS, q_T0, q_T1, q_TS, q_Kn, q_Ki, q_Kl, q_Kr, q_k0, q_kS, q_rc, q_ps, q_pn, q_iload1, q_if_lt, q_aload0, q_getfieldA, q_getfieldI, q_icmp_le, q_bipush, q_ireturn0, q_invV, q_istore2, q_iconst, q_putfieldI, q_iload2, q_icmp_ne, q_astore3, q_putfieldA, q_aload3, q_putfieldZ, q_dupI, q_dupA, q_iadd, rf_10_0, rf_10_1, rf_10_2, rf_10_3, rf_10_4, mmKo_10, mmKo_3, mmKo_4, mmKo_8, mmR32, mmR64, Option.some.injEq, Int.cast_ofNat_Int, and_true, true_and, if_true, if_false, List.length_cons, List.length_nil, Nat.le_refl, Nat.zero_le, Nat.sub_zero, forall_const, reduceCtorEq, Nat.reduceAdd, Nat.reduceSub, Nat.reduceLeDiff, Nat.reduceEqDiff, Int.reduceAdd, Int.reduceNeg, Int.reduceSub, Int.reduceLT, Int.reduceLE, Int.reduceMul, Int.reduceEq, List.drop_zero, List.drop_succ_cons, ne_eq, not_false_eq_true, not_true_eq_false, false_and, and_false, false_implies, true_implies, reduceIte, mmU_rd, implies_true, or_false, false_or, or_true, true_or]
    rw [rf_swap ha]
    refine sp_clear3 ?_
    simp only [mmK_cut cd_101, q_cons, q_G0, q_GS, q_I1, q_L1, q_A1, q_S0, q_S1, q_SS, q_T0, q_T1, q_TS, q_Kn, q_Ki, q_Kl, q_Kr, q_k0, q_kS, q_rc, q_ps, q_pn, q_iload1, q_if_lt, q_aload0, q_getfieldA, q_getfieldI, q_icmp_le, q_bipush, q_ireturn0, q_invV, q_istore2, q_iconst, q_putfieldI, q_iload2, q_icmp_ne, q_astore3, q_putfieldA, q_aload3, q_putfieldZ, q_dupI, q_dupA, q_iadd, rf_10_0, rf_10_1, rf_10_2, rf_10_3, rf_10_4, mmKo_10, mmKo_3, mmKo_4, mmKo_8, mmR32, mmR64, Option.some.injEq, Int.cast_ofNat_Int, and_true, true_and, if_true, if_false, List.length_cons, List.length_nil, Nat.le_refl, Nat.zero_le, Nat.sub_zero, forall_const, reduceCtorEq, Nat.reduceAdd, Nat.reduceSub, Nat.reduceLeDiff, Nat.reduceEqDiff, Int.reduceAdd, Int.reduceNeg, Int.reduceSub, Int.reduceLT, Int.reduceLE, Int.reduceMul, Int.reduceEq, List.drop_zero, List.drop_succ_cons, ne_eq, not_false_eq_true, not_true_eq_false, false_and, and_false, false_implies, true_implies, reduceIte, mmU_rd, implies_true, or_false, false_or, or_true, true_or]
    have fr := FrT_trans (FrT_trans f0 q3.1) (f8 I1)
    have e11 : I1 10 0 11 = I 10 0 11 := fr 10 0 11 (by omega)
    rw [e11]
    refine ⟨hch, ?_⟩
    refine hC c c2 r0 m r' (mmU I1 8 0 1 0) hr0 q1 fr rfl q4.2.1 q4.2.2.1 (fun t k ht => ?_)
    unfold mmU
    rw [if_neg (by unfold rtag at ht; omega)]
    exact q4.2.2.2.2.1 t k ht
end S69
