section S45
variable {d a j : Nat} {M : Nat → Nat → Int → Int} {br : Nat → Option mmO} {X : mmX} {Q : Option mmV → mmM → Prop}
theorem sq_isSmall {k : Int} (h : 0 ≤ k) (hs : M 11 0 6 ≤ 700) (hQ : Q (some (mv (bI (k < M 11 0 6 ∧ 97 ≤ M 1200 0 k ∧ M 1200 0 k ≤ 122)))) (M, mmRf a br, X)) : mmC (d + 1) 148 [mo 11 0, mv k] (M, mmRf a br, X) Q := by
  refine mmC_in (by decide) (Nat.le_of_ble_eq_true rfl) (mmC_step ?_)
  simp only [show mmMl 148 = 2 from rfl, mmLs, List.replicate, cd_148, sg_148_0, sg_148_18, sg_148_19, mmK_cut cd_148, q_cons, q_G0, q_GS, q_I1, q_L1, q_A1, q_S0, q_S1, q_SS, q_T0, q_T1, q_TS, q_Kn, q_Ki, q_Kl, q_Kr, q_k0, q_kS, q_rc, q_ps, q_pn, q_iload1, q_aload0, q_getfieldI, q_icmp_ge, q_getfieldA, q_iaload, q_bipush, q_icmp_lt, q_icmp_gt, q_iconst, q_goto, q_ireturn1, rf_11_0, mmKe_1200, mmKo_11, mmLen_1200, mmR32, mmR64, Option.some.injEq, Int.cast_ofNat_Int, and_true, true_and, if_true, if_false, List.length_cons, List.length_nil, Nat.le_refl, Nat.zero_le, Nat.sub_zero, forall_const, reduceCtorEq, Nat.reduceAdd, Nat.reduceSub, Nat.reduceLeDiff, Nat.reduceEqDiff, Int.reduceAdd, Int.reduceNeg, Int.reduceSub, Int.reduceLT, Int.reduceLE, Int.reduceMul, Int.reduceEq, List.drop_zero, List.drop_succ_cons, ne_eq, not_false_eq_true, not_true_eq_false, false_and, and_false, false_implies, true_implies, reduceIte, mmU_rd, implies_true, or_false, false_or, or_true, true_or]
  repeat' (first | (refine mmC_step ?_; simp only [cd_148, sg_148_0, sg_148_18, sg_148_19, mmK_cut cd_148, q_cons, q_G0, q_GS, q_I1, q_L1, q_A1, q_S0, q_S1, q_SS, q_T0, q_T1, q_TS, q_Kn, q_Ki, q_Kl, q_Kr, q_k0, q_kS, q_rc, q_ps, q_pn, q_iload1, q_aload0, q_getfieldI, q_icmp_ge, q_getfieldA, q_iaload, q_bipush, q_icmp_lt, q_icmp_gt, q_iconst, q_goto, q_ireturn1, rf_11_0, mmKe_1200, mmKo_11, mmLen_1200, mmR32, mmR64, Option.some.injEq, Int.cast_ofNat_Int, and_true, true_and, if_true, if_false, List.length_cons, List.length_nil, Nat.le_refl, Nat.zero_le, Nat.sub_zero, forall_const, reduceCtorEq, Nat.reduceAdd, Nat.reduceSub, Nat.reduceLeDiff, Nat.reduceEqDiff, Int.reduceAdd, Int.reduceNeg, Int.reduceSub, Int.reduceLT, Int.reduceLE, Int.reduceMul, Int.reduceEq, List.drop_zero, List.drop_succ_cons, ne_eq, not_false_eq_true, not_true_eq_false, false_and, and_false, false_implies, true_implies, reduceIte, mmU_rd, implies_true, or_false, false_or, or_true, true_or]) | (refine ⟨?_, ?_⟩) | intro _)
  all_goals first | omega | exact q_b0 hQ (by omega) | exact q_b1 hQ (by omega) | exact hQ
theorem sq_isDigit {k : Int} (h : 0 ≤ k) (hs : M 11 0 6 ≤ 700) (hQ : Q (some (mv (bI (k < M 11 0 6 ∧ 48 ≤ M 1200 0 k ∧ M 1200 0 k ≤ 57)))) (M, mmRf a br, X)) : mmC (d + 1) 149 [mo 11 0, mv k] (M, mmRf a br, X) Q := by
  refine mmC_in (by decide) (Nat.le_of_ble_eq_true rfl) (mmC_step ?_)
  simp only [show mmMl 149 = 2 from rfl, mmLs, List.replicate, cd_149, sg_149_0, sg_149_18, sg_149_19, mmK_cut cd_149, q_cons, q_G0, q_GS, q_I1, q_L1, q_A1, q_S0, q_S1, q_SS, q_T0, q_T1, q_TS, q_Kn, q_Ki, q_Kl, q_Kr, q_k0, q_kS, q_rc, q_ps, q_pn, q_iload1, q_aload0, q_getfieldI, q_icmp_ge, q_getfieldA, q_iaload, q_bipush, q_icmp_lt, q_icmp_gt, q_iconst, q_goto, q_ireturn1, rf_11_0, mmKe_1200, mmKo_11, mmLen_1200, mmR32, mmR64, Option.some.injEq, Int.cast_ofNat_Int, and_true, true_and, if_true, if_false, List.length_cons, List.length_nil, Nat.le_refl, Nat.zero_le, Nat.sub_zero, forall_const, reduceCtorEq, Nat.reduceAdd, Nat.reduceSub, Nat.reduceLeDiff, Nat.reduceEqDiff, Int.reduceAdd, Int.reduceNeg, Int.reduceSub, Int.reduceLT, Int.reduceLE, Int.reduceMul, Int.reduceEq, List.drop_zero, List.drop_succ_cons, ne_eq, not_false_eq_true, not_true_eq_false, false_and, and_false, false_implies, true_implies, reduceIte, mmU_rd, implies_true, or_false, false_or, or_true, true_or]
  repeat' (first | (refine mmC_step ?_; simp only [cd_149, sg_149_0, sg_149_18, sg_149_19, mmK_cut cd_149, q_cons, q_G0, q_GS, q_I1, q_L1, q_A1, q_S0, q_S1, q_SS, q_T0, q_T1, q_TS, q_Kn, q_Ki, q_Kl, q_Kr, q_k0, q_kS, q_rc, q_ps, q_pn, q_iload1, q_aload0, q_getfieldI, q_icmp_ge, q_getfieldA, q_iaload, q_bipush, q_icmp_lt, q_icmp_gt, q_iconst, q_goto, q_ireturn1, rf_11_0, mmKe_1200, mmKo_11, mmLen_1200, mmR32, mmR64, Option.some.injEq, Int.cast_ofNat_Int, and_true, true_and, if_true, if_false, List.length_cons, List.length_nil, Nat.le_refl, Nat.zero_le, Nat.sub_zero, forall_const, reduceCtorEq, Nat.reduceAdd, Nat.reduceSub, Nat.reduceLeDiff, Nat.reduceEqDiff, Int.reduceAdd, Int.reduceNeg, Int.reduceSub, Int.reduceLT, Int.reduceLE, Int.reduceMul, Int.reduceEq, List.drop_zero, List.drop_succ_cons, ne_eq, not_false_eq_true, not_true_eq_false, false_and, and_false, false_implies, true_implies, reduceIte, mmU_rd, implies_true, or_false, false_or, or_true, true_or]) | (refine ⟨?_, ?_⟩) | intro _)
  all_goals first | omega | exact q_b0 hQ (by omega) | exact q_b1 hQ (by omega) | exact hQ
theorem sq_isKey {x : Int} (hQ : Q (some (mv (bI (M 11 0 8 = 1 ∧ M 11 0 9 = x)))) (M, mmRf a br, X)) : mmC (d + 1) 153 [mo 11 0, mv x] (M, mmRf a br, X) Q := by
  refine mmC_in (by decide) (Nat.le_of_ble_eq_true rfl) (mmC_step ?_)
  simp only [show mmMl 153 = 2 from rfl, mmLs, List.replicate, cd_153, sg_153_0, sg_153_10, sg_153_11, mmK_cut cd_153, q_cons, q_G0, q_GS, q_I1, q_L1, q_A1, q_S0, q_S1, q_SS, q_T0, q_T1, q_TS, q_Kn, q_Ki, q_Kl, q_Kr, q_k0, q_kS, q_rc, q_ps, q_pn, q_aload0, q_getfieldI, q_iconst, q_icmp_ne, q_iload1, q_goto, q_ireturn1, mmKo_11, mmR32, mmR64, Option.some.injEq, Int.cast_ofNat_Int, and_true, true_and, if_true, if_false, List.length_cons, List.length_nil, Nat.le_refl, Nat.zero_le, Nat.sub_zero, forall_const, reduceCtorEq, Nat.reduceAdd, Nat.reduceSub, Nat.reduceLeDiff, Nat.reduceEqDiff, Int.reduceAdd, Int.reduceNeg, Int.reduceSub, Int.reduceLT, Int.reduceLE, Int.reduceMul, Int.reduceEq, List.drop_zero, List.drop_succ_cons, ne_eq, not_false_eq_true, not_true_eq_false, false_and, and_false, false_implies, true_implies, reduceIte, mmU_rd, implies_true, or_false, false_or, or_true, true_or]
  repeat' (first | (refine mmC_step ?_; simp only [cd_153, sg_153_0, sg_153_10, sg_153_11, mmK_cut cd_153, q_cons, q_G0, q_GS, q_I1, q_L1, q_A1, q_S0, q_S1, q_SS, q_T0, q_T1, q_TS, q_Kn, q_Ki, q_Kl, q_Kr, q_k0, q_kS, q_rc, q_ps, q_pn, q_aload0, q_getfieldI, q_iconst, q_icmp_ne, q_iload1, q_goto, q_ireturn1, mmKo_11, mmR32, mmR64, Option.some.injEq, Int.cast_ofNat_Int, and_true, true_and, if_true, if_false, List.length_cons, List.length_nil, Nat.le_refl, Nat.zero_le, Nat.sub_zero, forall_const, reduceCtorEq, Nat.reduceAdd, Nat.reduceSub, Nat.reduceLeDiff, Nat.reduceEqDiff, Int.reduceAdd, Int.reduceNeg, Int.reduceSub, Int.reduceLT, Int.reduceLE, Int.reduceMul, Int.reduceEq, List.drop_zero, List.drop_succ_cons, ne_eq, not_false_eq_true, not_true_eq_false, false_and, and_false, false_implies, true_implies, reduceIte, mmU_rd, implies_true, or_false, false_or, or_true, true_or]) | (refine ⟨?_, ?_⟩) | intro _)
  all_goals first | omega | exact q_b0 hQ (by omega) | exact q_b1 hQ (by omega) | exact hQ
theorem sq_isSign {x : Int} (hQ : Q (some (mv (bI (M 11 0 8 = 4 ∧ M 11 0 9 = x)))) (M, mmRf a br, X)) : mmC (d + 1) 154 [mo 11 0, mv x] (M, mmRf a br, X) Q := by
  refine mmC_in (by decide) (Nat.le_of_ble_eq_true rfl) (mmC_step ?_)
  simp only [show mmMl 154 = 2 from rfl, mmLs, List.replicate, cd_154, sg_154_0, sg_154_10, sg_154_11, mmK_cut cd_154, q_cons, q_G0, q_GS, q_I1, q_L1, q_A1, q_S0, q_S1, q_SS, q_T0, q_T1, q_TS, q_Kn, q_Ki, q_Kl, q_Kr, q_k0, q_kS, q_rc, q_ps, q_pn, q_aload0, q_getfieldI, q_iconst, q_icmp_ne, q_iload1, q_goto, q_ireturn1, mmKo_11, mmR32, mmR64, Option.some.injEq, Int.cast_ofNat_Int, and_true, true_and, if_true, if_false, List.length_cons, List.length_nil, Nat.le_refl, Nat.zero_le, Nat.sub_zero, forall_const, reduceCtorEq, Nat.reduceAdd, Nat.reduceSub, Nat.reduceLeDiff, Nat.reduceEqDiff, Int.reduceAdd, Int.reduceNeg, Int.reduceSub, Int.reduceLT, Int.reduceLE, Int.reduceMul, Int.reduceEq, List.drop_zero, List.drop_succ_cons, ne_eq, not_false_eq_true, not_true_eq_false, false_and, and_false, false_implies, true_implies, reduceIte, mmU_rd, implies_true, or_false, false_or, or_true, true_or]
  repeat' (first | (refine mmC_step ?_; simp only [cd_154, sg_154_0, sg_154_10, sg_154_11, mmK_cut cd_154, q_cons, q_G0, q_GS, q_I1, q_L1, q_A1, q_S0, q_S1, q_SS, q_T0, q_T1, q_TS, q_Kn, q_Ki, q_Kl, q_Kr, q_k0, q_kS, q_rc, q_ps, q_pn, q_aload0, q_getfieldI, q_iconst, q_icmp_ne, q_iload1, q_goto, q_ireturn1, mmKo_11, mmR32, mmR64, Option.some.injEq, Int.cast_ofNat_Int, and_true, true_and, if_true, if_false, List.length_cons, List.length_nil, Nat.le_refl, Nat.zero_le, Nat.sub_zero, forall_const, reduceCtorEq, Nat.reduceAdd, Nat.reduceSub, Nat.reduceLeDiff, Nat.reduceEqDiff, Int.reduceAdd, Int.reduceNeg, Int.reduceSub, Int.reduceLT, Int.reduceLE, Int.reduceMul, Int.reduceEq, List.drop_zero, List.drop_succ_cons, ne_eq, not_false_eq_true, not_true_eq_false, false_and, and_false, false_implies, true_implies, reduceIte, mmU_rd, implies_true, or_false, false_or, or_true, true_or]) | (refine ⟨?_, ?_⟩) | intro _)
  all_goals first | omega | exact q_b0 hQ (by omega) | exact q_b1 hQ (by omega) | exact hQ
theorem sq_wordAt {p q : Int} (hp : 0 ≤ p ∧ p ≤ q ∧ q ≤ 700) (hl : ∀ i : Int, p ≤ i → i < q → 97 ≤ M 1200 0 i ∧ M 1200 0 i ≤ 122) (hW : ∀ k : Nat, k < 95 → M 1203 0 k = wdL.getD k 0) (hQ : Q (some (mv (if q - p ≤ 6 then kyF (hN (M 1200 0) p (q - p).toNat * pwH (q - p).toNat) else -1))) (M, mmRf a br, X)) : mmC (d + 1) 147 [mo 11 0, mv p, mv q] (M, mmRf a br, X) Q := by
  have step : ∀ (k f n : Int), 0 ≤ k → k ≤ 18 → 0 ≤ f → 0 ≤ n → f + n < 95 → (∀ i, 0 ≤ i → i < n → M 1203 0 (f + i) ≠ 32) → M 1203 0 (f + n) = 32 → ((n = q - p ∧ ∀ i : Int, 0 ≤ i → i < n → M 1203 0 (f + i) = M 1200 0 (p + i)) → Q (some (mv k)) (M, mmRf a br, X)) →
      (¬ (n = q - p ∧ ∀ i : Int, 0 ≤ i → i < n → M 1203 0 (f + i) = M 1200 0 (p + i)) → ∀ l5 l6 l7, mmK d 147 Q 4 [some (mo 11 0), some (mv p), some (mv q), some (mv (k + 1)), some (mv (f + (n + 1))), l5, l6, l7] [] (M, mmRf a br, X)) → ∀ l5 l6 l7, mmK d 147 Q 4 [some (mo 11 0), some (mv p), some (mv q), some (mv k), some (mv f), l5, l6, l7] [] (M, mmRf a br, X) := by
    intro k f n hk hk1 hf hn hfn hno hend hY hN l5 l6 l7
    have j56 : ∀ (s : Int) l7, (s = 0 → ¬ (n = q - p ∧ ∀ i : Int, 0 ≤ i → i < n → M 1203 0 (f + i) = M 1200 0 (p + i))) → (s ≠ 0 → (n = q - p ∧ ∀ i : Int, 0 ≤ i → i < n → M 1203 0 (f + i) = M 1200 0 (p + i))) → mmK d 147 Q 56 [some (mo 11 0), some (mv p), some (mv q), some (mv k), some (mv f), some (mv n), some (mv s), l7] [] (M, mmRf a br, X) := by
      intro s l7 h0 h1
      refine mmC_step ?_
      simp only [cd_147, sg_147_0, sg_147_4, sg_147_11, sg_147_21, sg_147_28, sg_147_29, sg_147_32, sg_147_52, sg_147_53, sg_147_56, sg_147_60, sg_147_68, mmK_cut cd_147, q_cons, q_G0, q_GS, q_I1, q_L1, q_A1, q_S0, q_S1, q_SS, q_T0, q_T1, q_TS, q_Kn, q_Ki, q_Kl, q_Kr, q_k0, q_kS, q_rc, q_ps, q_pn, q_iconst, q_istore3, q_istore, q_iload, q_aload0, q_getfieldA, q_arraylength, q_icmp_ge, q_iadd, q_iaload, q_bipush, q_icmp_eq, q_iinc, q_goto, q_iload2, q_iload1, q_isub, q_icmp_ne, q_if_eq, q_iload3, q_ireturn0, rf_11_0, rf_11_3, mmKe_1200, mmKe_1203, mmKo_11, mmLen_1200, mmLen_1203, mmR32, mmR64, Option.some.injEq, Int.cast_ofNat_Int, and_true, true_and, if_true, if_false, List.length_cons, List.length_nil, Nat.le_refl, Nat.zero_le, Nat.sub_zero, forall_const, reduceCtorEq, Nat.reduceAdd, Nat.reduceSub, Nat.reduceLeDiff, Nat.reduceEqDiff, Int.reduceAdd, Int.reduceNeg, Int.reduceSub, Int.reduceLT, Int.reduceLE, Int.reduceMul, Int.reduceEq, List.drop_zero, List.drop_succ_cons, ne_eq, not_false_eq_true, not_true_eq_false, false_and, and_false, false_implies, true_implies, reduceIte, mmU_rd, implies_true, or_false, false_or, or_true, true_or]
      refine ⟨fun c => ?_, fun c => hY (h1 c)⟩
      refine mmC_step ?_
      simp only [cd_147, sg_147_0, sg_147_4, sg_147_11, sg_147_21, sg_147_28, sg_147_29, sg_147_32, sg_147_52, sg_147_53, sg_147_56, sg_147_60, sg_147_68, mmK_cut cd_147, q_cons, q_G0, q_GS, q_I1, q_L1, q_A1, q_S0, q_S1, q_SS, q_T0, q_T1, q_TS, q_Kn, q_Ki, q_Kl, q_Kr, q_k0, q_kS, q_rc, q_ps, q_pn, q_iconst, q_istore3, q_istore, q_iload, q_aload0, q_getfieldA, q_arraylength, q_icmp_ge, q_iadd, q_iaload, q_bipush, q_icmp_eq, q_iinc, q_goto, q_iload2, q_iload1, q_isub, q_icmp_ne, q_if_eq, q_iload3, q_ireturn0, rf_11_0, rf_11_3, mmKe_1200, mmKe_1203, mmKo_11, mmLen_1200, mmLen_1203, mmR32, mmR64, Option.some.injEq, Int.cast_ofNat_Int, and_true, true_and, if_true, if_false, List.length_cons, List.length_nil, Nat.le_refl, Nat.zero_le, Nat.sub_zero, forall_const, reduceCtorEq, Nat.reduceAdd, Nat.reduceSub, Nat.reduceLeDiff, Nat.reduceEqDiff, Int.reduceAdd, Int.reduceNeg, Int.reduceSub, Int.reduceLT, Int.reduceLE, Int.reduceMul, Int.reduceEq, List.drop_zero, List.drop_succ_cons, ne_eq, not_false_eq_true, not_true_eq_false, false_and, and_false, false_implies, true_implies, reduceIte, mmU_rd, implies_true, or_false, false_or, or_true, true_or]
      exact ⟨by omega, by omega, by omega, hN (h0 c) _ _ _⟩
    have kB : ∀ (r : Nat) (i : Int), 0 ≤ i → i + r = n → n = q - p → (∀ i', 0 ≤ i' → i' < i → M 1203 0 (f + i') = M 1200 0 (p + i')) → mmK d 147 Q 32 [some (mo 11 0), some (mv p), some (mv q), some (mv k), some (mv f), some (mv n), some (mv 1), some (mv i)] [] (M, mmRf a br, X) := by
      intro r
      induction r with
      | zero =>
        intro i h0 hr hq hp'
        refine mmC_step ?_
        simp only [cd_147, sg_147_0, sg_147_4, sg_147_11, sg_147_21, sg_147_28, sg_147_29, sg_147_32, sg_147_52, sg_147_53, sg_147_56, sg_147_60, sg_147_68, mmK_cut cd_147, q_cons, q_G0, q_GS, q_I1, q_L1, q_A1, q_S0, q_S1, q_SS, q_T0, q_T1, q_TS, q_Kn, q_Ki, q_Kl, q_Kr, q_k0, q_kS, q_rc, q_ps, q_pn, q_iconst, q_istore3, q_istore, q_iload, q_aload0, q_getfieldA, q_arraylength, q_icmp_ge, q_iadd, q_iaload, q_bipush, q_icmp_eq, q_iinc, q_goto, q_iload2, q_iload1, q_isub, q_icmp_ne, q_if_eq, q_iload3, q_ireturn0, rf_11_0, rf_11_3, mmKe_1200, mmKe_1203, mmKo_11, mmLen_1200, mmLen_1203, mmR32, mmR64, Option.some.injEq, Int.cast_ofNat_Int, and_true, true_and, if_true, if_false, List.length_cons, List.length_nil, Nat.le_refl, Nat.zero_le, Nat.sub_zero, forall_const, reduceCtorEq, Nat.reduceAdd, Nat.reduceSub, Nat.reduceLeDiff, Nat.reduceEqDiff, Int.reduceAdd, Int.reduceNeg, Int.reduceSub, Int.reduceLT, Int.reduceLE, Int.reduceMul, Int.reduceEq, List.drop_zero, List.drop_succ_cons, ne_eq, not_false_eq_true, not_true_eq_false, false_and, and_false, false_implies, true_implies, reduceIte, mmU_rd, implies_true, or_false, false_or, or_true, true_or]
        refine ⟨fun _ => ?_, fun c => by omega⟩
        exact j56 1 _ (by omega) (fun _ => ⟨hq, fun i' g0 g1 => hp' i' g0 (by omega)⟩)
      | succ r ih =>
        intro i h0 hr hq hp'
        refine mmC_step ?_
        simp only [cd_147, sg_147_0, sg_147_4, sg_147_11, sg_147_21, sg_147_28, sg_147_29, sg_147_32, sg_147_52, sg_147_53, sg_147_56, sg_147_60, sg_147_68, mmK_cut cd_147, q_cons, q_G0, q_GS, q_I1, q_L1, q_A1, q_S0, q_S1, q_SS, q_T0, q_T1, q_TS, q_Kn, q_Ki, q_Kl, q_Kr, q_k0, q_kS, q_rc, q_ps, q_pn, q_iconst, q_istore3, q_istore, q_iload, q_aload0, q_getfieldA, q_arraylength, q_icmp_ge, q_iadd, q_iaload, q_bipush, q_icmp_eq, q_iinc, q_goto, q_iload2, q_iload1, q_isub, q_icmp_ne, q_if_eq, q_iload3, q_ireturn0, rf_11_0, rf_11_3, mmKe_1200, mmKe_1203, mmKo_11, mmLen_1200, mmLen_1203, mmR32, mmR64, Option.some.injEq, Int.cast_ofNat_Int, and_true, true_and, if_true, if_false, List.length_cons, List.length_nil, Nat.le_refl, Nat.zero_le, Nat.sub_zero, forall_const, reduceCtorEq, Nat.reduceAdd, Nat.reduceSub, Nat.reduceLeDiff, Nat.reduceEqDiff, Int.reduceAdd, Int.reduceNeg, Int.reduceSub, Int.reduceLT, Int.reduceLE, Int.reduceMul, Int.reduceEq, List.drop_zero, List.drop_succ_cons, ne_eq, not_false_eq_true, not_true_eq_false, false_and, and_false, false_implies, true_implies, reduceIte, mmU_rd, implies_true, or_false, false_or, or_true, true_or]
        refine ⟨fun c => by omega, fun _ => ⟨by omega, by omega, by omega, by omega, by omega, by omega, fun c => ?_, fun c => ?_⟩⟩
        · refine mmC_step ?_
          simp only [cd_147, sg_147_0, sg_147_4, sg_147_11, sg_147_21, sg_147_28, sg_147_29, sg_147_32, sg_147_52, sg_147_53, sg_147_56, sg_147_60, sg_147_68, mmK_cut cd_147, q_cons, q_G0, q_GS, q_I1, q_L1, q_A1, q_S0, q_S1, q_SS, q_T0, q_T1, q_TS, q_Kn, q_Ki, q_Kl, q_Kr, q_k0, q_kS, q_rc, q_ps, q_pn, q_iconst, q_istore3, q_istore, q_iload, q_aload0, q_getfieldA, q_arraylength, q_icmp_ge, q_iadd, q_iaload, q_bipush, q_icmp_eq, q_iinc, q_goto, q_iload2, q_iload1, q_isub, q_icmp_ne, q_if_eq, q_iload3, q_ireturn0, rf_11_0, rf_11_3, mmKe_1200, mmKe_1203, mmKo_11, mmLen_1200, mmLen_1203, mmR32, mmR64, Option.some.injEq, Int.cast_ofNat_Int, and_true, true_and, if_true, if_false, List.length_cons, List.length_nil, Nat.le_refl, Nat.zero_le, Nat.sub_zero, forall_const, reduceCtorEq, Nat.reduceAdd, Nat.reduceSub, Nat.reduceLeDiff, Nat.reduceEqDiff, Int.reduceAdd, Int.reduceNeg, Int.reduceSub, Int.reduceLT, Int.reduceLE, Int.reduceMul, Int.reduceEq, List.drop_zero, List.drop_succ_cons, ne_eq, not_false_eq_true, not_true_eq_false, false_and, and_false, false_implies, true_implies, reduceIte, mmU_rd, implies_true, or_false, false_or, or_true, true_or]
          refine mmC_step ?_
          simp only [cd_147, sg_147_0, sg_147_4, sg_147_11, sg_147_21, sg_147_28, sg_147_29, sg_147_32, sg_147_52, sg_147_53, sg_147_56, sg_147_60, sg_147_68, mmK_cut cd_147, q_cons, q_G0, q_GS, q_I1, q_L1, q_A1, q_S0, q_S1, q_SS, q_T0, q_T1, q_TS, q_Kn, q_Ki, q_Kl, q_Kr, q_k0, q_kS, q_rc, q_ps, q_pn, q_iconst, q_istore3, q_istore, q_iload, q_aload0, q_getfieldA, q_arraylength, q_icmp_ge, q_iadd, q_iaload, q_bipush, q_icmp_eq, q_iinc, q_goto, q_iload2, q_iload1, q_isub, q_icmp_ne, q_if_eq, q_iload3, q_ireturn0, rf_11_0, rf_11_3, mmKe_1200, mmKe_1203, mmKo_11, mmLen_1200, mmLen_1203, mmR32, mmR64, Option.some.injEq, Int.cast_ofNat_Int, and_true, true_and, if_true, if_false, List.length_cons, List.length_nil, Nat.le_refl, Nat.zero_le, Nat.sub_zero, forall_const, reduceCtorEq, Nat.reduceAdd, Nat.reduceSub, Nat.reduceLeDiff, Nat.reduceEqDiff, Int.reduceAdd, Int.reduceNeg, Int.reduceSub, Int.reduceLT, Int.reduceLE, Int.reduceMul, Int.reduceEq, List.drop_zero, List.drop_succ_cons, ne_eq, not_false_eq_true, not_true_eq_false, false_and, and_false, false_implies, true_implies, reduceIte, mmU_rd, implies_true, or_false, false_or, or_true, true_or]
          refine ⟨by omega, ?_⟩
          have w : ∀ l7, mmK d 147 Q 56 [some (mo 11 0), some (mv p), some (mv q), some (mv k), some (mv f), some (mv n), some (mv 0), l7] [] (M, mmRf a br, X) := fun l7 => j56 0 l7 (fun _ hm => c (hm.2 i h0 (by omega))) (by omega)
          refine mmC_step ?_
          simp only [cd_147, sg_147_0, sg_147_4, sg_147_11, sg_147_21, sg_147_28, sg_147_29, sg_147_32, sg_147_52, sg_147_53, sg_147_56, sg_147_60, sg_147_68, mmK_cut cd_147, q_cons, q_G0, q_GS, q_I1, q_L1, q_A1, q_S0, q_S1, q_SS, q_T0, q_T1, q_TS, q_Kn, q_Ki, q_Kl, q_Kr, q_k0, q_kS, q_rc, q_ps, q_pn, q_iconst, q_istore3, q_istore, q_iload, q_aload0, q_getfieldA, q_arraylength, q_icmp_ge, q_iadd, q_iaload, q_bipush, q_icmp_eq, q_iinc, q_goto, q_iload2, q_iload1, q_isub, q_icmp_ne, q_if_eq, q_iload3, q_ireturn0, rf_11_0, rf_11_3, mmKe_1200, mmKe_1203, mmKo_11, mmLen_1200, mmLen_1203, mmR32, mmR64, Option.some.injEq, Int.cast_ofNat_Int, and_true, true_and, if_true, if_false, List.length_cons, List.length_nil, Nat.le_refl, Nat.zero_le, Nat.sub_zero, forall_const, reduceCtorEq, Nat.reduceAdd, Nat.reduceSub, Nat.reduceLeDiff, Nat.reduceEqDiff, Int.reduceAdd, Int.reduceNeg, Int.reduceSub, Int.reduceLT, Int.reduceLE, Int.reduceMul, Int.reduceEq, List.drop_zero, List.drop_succ_cons, ne_eq, not_false_eq_true, not_true_eq_false, false_and, and_false, false_implies, true_implies, reduceIte, mmU_rd, implies_true, or_false, false_or, or_true, true_or]
          exact ⟨fun _ => w _, fun _ => w _⟩
        · refine mmC_step ?_
          simp only [cd_147, sg_147_0, sg_147_4, sg_147_11, sg_147_21, sg_147_28, sg_147_29, sg_147_32, sg_147_52, sg_147_53, sg_147_56, sg_147_60, sg_147_68, mmK_cut cd_147, q_cons, q_G0, q_GS, q_I1, q_L1, q_A1, q_S0, q_S1, q_SS, q_T0, q_T1, q_TS, q_Kn, q_Ki, q_Kl, q_Kr, q_k0, q_kS, q_rc, q_ps, q_pn, q_iconst, q_istore3, q_istore, q_iload, q_aload0, q_getfieldA, q_arraylength, q_icmp_ge, q_iadd, q_iaload, q_bipush, q_icmp_eq, q_iinc, q_goto, q_iload2, q_iload1, q_isub, q_icmp_ne, q_if_eq, q_iload3, q_ireturn0, rf_11_0, rf_11_3, mmKe_1200, mmKe_1203, mmKo_11, mmLen_1200, mmLen_1203, mmR32, mmR64, Option.some.injEq, Int.cast_ofNat_Int, and_true, true_and, if_true, if_false, List.length_cons, List.length_nil, Nat.le_refl, Nat.zero_le, Nat.sub_zero, forall_const, reduceCtorEq, Nat.reduceAdd, Nat.reduceSub, Nat.reduceLeDiff, Nat.reduceEqDiff, Int.reduceAdd, Int.reduceNeg, Int.reduceSub, Int.reduceLT, Int.reduceLE, Int.reduceMul, Int.reduceEq, List.drop_zero, List.drop_succ_cons, ne_eq, not_false_eq_true, not_true_eq_false, false_and, and_false, false_implies, true_implies, reduceIte, mmU_rd, implies_true, or_false, false_or, or_true, true_or]
          refine ⟨by omega, ih (i + 1) (by omega) (by omega) hq (fun i' g0 g1 => ?_)⟩
          by_cases e : i' = i
          · rw [e]; exact c
          · exact hp' i' g0 (by omega)
    have j21 : ∀ l6 l7, mmK d 147 Q 21 [some (mo 11 0), some (mv p), some (mv q), some (mv k), some (mv f), some (mv n), l6, l7] [] (M, mmRf a br, X) := by
      intro l6 l7
      refine mmC_step ?_
      simp only [cd_147, sg_147_0, sg_147_4, sg_147_11, sg_147_21, sg_147_28, sg_147_29, sg_147_32, sg_147_52, sg_147_53, sg_147_56, sg_147_60, sg_147_68, mmK_cut cd_147, q_cons, q_G0, q_GS, q_I1, q_L1, q_A1, q_S0, q_S1, q_SS, q_T0, q_T1, q_TS, q_Kn, q_Ki, q_Kl, q_Kr, q_k0, q_kS, q_rc, q_ps, q_pn, q_iconst, q_istore3, q_istore, q_iload, q_aload0, q_getfieldA, q_arraylength, q_icmp_ge, q_iadd, q_iaload, q_bipush, q_icmp_eq, q_iinc, q_goto, q_iload2, q_iload1, q_isub, q_icmp_ne, q_if_eq, q_iload3, q_ireturn0, rf_11_0, rf_11_3, mmKe_1200, mmKe_1203, mmKo_11, mmLen_1200, mmLen_1203, mmR32, mmR64, Option.some.injEq, Int.cast_ofNat_Int, and_true, true_and, if_true, if_false, List.length_cons, List.length_nil, Nat.le_refl, Nat.zero_le, Nat.sub_zero, forall_const, reduceCtorEq, Nat.reduceAdd, Nat.reduceSub, Nat.reduceLeDiff, Nat.reduceEqDiff, Int.reduceAdd, Int.reduceNeg, Int.reduceSub, Int.reduceLT, Int.reduceLE, Int.reduceMul, Int.reduceEq, List.drop_zero, List.drop_succ_cons, ne_eq, not_false_eq_true, not_true_eq_false, false_and, and_false, false_implies, true_implies, reduceIte, mmU_rd, implies_true, or_false, false_or, or_true, true_or]
      refine ⟨by omega, fun c => ?_, fun c => ?_⟩
      · refine mmC_step ?_
        simp only [cd_147, sg_147_0, sg_147_4, sg_147_11, sg_147_21, sg_147_28, sg_147_29, sg_147_32, sg_147_52, sg_147_53, sg_147_56, sg_147_60, sg_147_68, mmK_cut cd_147, q_cons, q_G0, q_GS, q_I1, q_L1, q_A1, q_S0, q_S1, q_SS, q_T0, q_T1, q_TS, q_Kn, q_Ki, q_Kl, q_Kr, q_k0, q_kS, q_rc, q_ps, q_pn, q_iconst, q_istore3, q_istore, q_iload, q_aload0, q_getfieldA, q_arraylength, q_icmp_ge, q_iadd, q_iaload, q_bipush, q_icmp_eq, q_iinc, q_goto, q_iload2, q_iload1, q_isub, q_icmp_ne, q_if_eq, q_iload3, q_ireturn0, rf_11_0, rf_11_3, mmKe_1200, mmKe_1203, mmKo_11, mmLen_1200, mmLen_1203, mmR32, mmR64, Option.some.injEq, Int.cast_ofNat_Int, and_true, true_and, if_true, if_false, List.length_cons, List.length_nil, Nat.le_refl, Nat.zero_le, Nat.sub_zero, forall_const, reduceCtorEq, Nat.reduceAdd, Nat.reduceSub, Nat.reduceLeDiff, Nat.reduceEqDiff, Int.reduceAdd, Int.reduceNeg, Int.reduceSub, Int.reduceLT, Int.reduceLE, Int.reduceMul, Int.reduceEq, List.drop_zero, List.drop_succ_cons, ne_eq, not_false_eq_true, not_true_eq_false, false_and, and_false, false_implies, true_implies, reduceIte, mmU_rd, implies_true, or_false, false_or, or_true, true_or]
        refine mmC_step ?_
        simp only [cd_147, sg_147_0, sg_147_4, sg_147_11, sg_147_21, sg_147_28, sg_147_29, sg_147_32, sg_147_52, sg_147_53, sg_147_56, sg_147_60, sg_147_68, mmK_cut cd_147, q_cons, q_G0, q_GS, q_I1, q_L1, q_A1, q_S0, q_S1, q_SS, q_T0, q_T1, q_TS, q_Kn, q_Ki, q_Kl, q_Kr, q_k0, q_kS, q_rc, q_ps, q_pn, q_iconst, q_istore3, q_istore, q_iload, q_aload0, q_getfieldA, q_arraylength, q_icmp_ge, q_iadd, q_iaload, q_bipush, q_icmp_eq, q_iinc, q_goto, q_iload2, q_iload1, q_isub, q_icmp_ne, q_if_eq, q_iload3, q_ireturn0, rf_11_0, rf_11_3, mmKe_1200, mmKe_1203, mmKo_11, mmLen_1200, mmLen_1203, mmR32, mmR64, Option.some.injEq, Int.cast_ofNat_Int, and_true, true_and, if_true, if_false, List.length_cons, List.length_nil, Nat.le_refl, Nat.zero_le, Nat.sub_zero, forall_const, reduceCtorEq, Nat.reduceAdd, Nat.reduceSub, Nat.reduceLeDiff, Nat.reduceEqDiff, Int.reduceAdd, Int.reduceNeg, Int.reduceSub, Int.reduceLT, Int.reduceLE, Int.reduceMul, Int.reduceEq, List.drop_zero, List.drop_succ_cons, ne_eq, not_false_eq_true, not_true_eq_false, false_and, and_false, false_implies, true_implies, reduceIte, mmU_rd, implies_true, or_false, false_or, or_true, true_or]
        have w : ∀ l7, mmK d 147 Q 56 [some (mo 11 0), some (mv p), some (mv q), some (mv k), some (mv f), some (mv n), some (mv 0), l7] [] (M, mmRf a br, X) := fun l7 => j56 0 l7 (fun _ hm => c hm.1) (by omega)
        refine mmC_step ?_
        simp only [cd_147, sg_147_0, sg_147_4, sg_147_11, sg_147_21, sg_147_28, sg_147_29, sg_147_32, sg_147_52, sg_147_53, sg_147_56, sg_147_60, sg_147_68, mmK_cut cd_147, q_cons, q_G0, q_GS, q_I1, q_L1, q_A1, q_S0, q_S1, q_SS, q_T0, q_T1, q_TS, q_Kn, q_Ki, q_Kl, q_Kr, q_k0, q_kS, q_rc, q_ps, q_pn, q_iconst, q_istore3, q_istore, q_iload, q_aload0, q_getfieldA, q_arraylength, q_icmp_ge, q_iadd, q_iaload, q_bipush, q_icmp_eq, q_iinc, q_goto, q_iload2, q_iload1, q_isub, q_icmp_ne, q_if_eq, q_iload3, q_ireturn0, rf_11_0, rf_11_3, mmKe_1200, mmKe_1203, mmKo_11, mmLen_1200, mmLen_1203, mmR32, mmR64, Option.some.injEq, Int.cast_ofNat_Int, and_true, true_and, if_true, if_false, List.length_cons, List.length_nil, Nat.le_refl, Nat.zero_le, Nat.sub_zero, forall_const, reduceCtorEq, Nat.reduceAdd, Nat.reduceSub, Nat.reduceLeDiff, Nat.reduceEqDiff, Int.reduceAdd, Int.reduceNeg, Int.reduceSub, Int.reduceLT, Int.reduceLE, Int.reduceMul, Int.reduceEq, List.drop_zero, List.drop_succ_cons, ne_eq, not_false_eq_true, not_true_eq_false, false_and, and_false, false_implies, true_implies, reduceIte, mmU_rd, implies_true, or_false, false_or, or_true, true_or]
        exact ⟨fun _ => w _, fun _ => w _⟩
      · refine mmC_step ?_
        simp only [cd_147, sg_147_0, sg_147_4, sg_147_11, sg_147_21, sg_147_28, sg_147_29, sg_147_32, sg_147_52, sg_147_53, sg_147_56, sg_147_60, sg_147_68, mmK_cut cd_147, q_cons, q_G0, q_GS, q_I1, q_L1, q_A1, q_S0, q_S1, q_SS, q_T0, q_T1, q_TS, q_Kn, q_Ki, q_Kl, q_Kr, q_k0, q_kS, q_rc, q_ps, q_pn, q_iconst, q_istore3, q_istore, q_iload, q_aload0, q_getfieldA, q_arraylength, q_icmp_ge, q_iadd, q_iaload, q_bipush, q_icmp_eq, q_iinc, q_goto, q_iload2, q_iload1, q_isub, q_icmp_ne, q_if_eq, q_iload3, q_ireturn0, rf_11_0, rf_11_3, mmKe_1200, mmKe_1203, mmKo_11, mmLen_1200, mmLen_1203, mmR32, mmR64, Option.some.injEq, Int.cast_ofNat_Int, and_true, true_and, if_true, if_false, List.length_cons, List.length_nil, Nat.le_refl, Nat.zero_le, Nat.sub_zero, forall_const, reduceCtorEq, Nat.reduceAdd, Nat.reduceSub, Nat.reduceLeDiff, Nat.reduceEqDiff, Int.reduceAdd, Int.reduceNeg, Int.reduceSub, Int.reduceLT, Int.reduceLE, Int.reduceMul, Int.reduceEq, List.drop_zero, List.drop_succ_cons, ne_eq, not_false_eq_true, not_true_eq_false, false_and, and_false, false_implies, true_implies, reduceIte, mmU_rd, implies_true, or_false, false_or, or_true, true_or]
        exact kB n.toNat 0 (by omega) (by omega) c (fun i' g0 g1 => by omega)
    have kA : ∀ (r : Nat) (i : Int) l6 l7, 0 ≤ i → i + r = n → mmK d 147 Q 11 [some (mo 11 0), some (mv p), some (mv q), some (mv k), some (mv f), some (mv i), l6, l7] [] (M, mmRf a br, X) := by
      intro r
      induction r with
      | zero =>
        intro i l6 l7 h0 hr
        have e : i = n := by omega
        subst e
        refine mmC_step ?_
        simp only [cd_147, sg_147_0, sg_147_4, sg_147_11, sg_147_21, sg_147_28, sg_147_29, sg_147_32, sg_147_52, sg_147_53, sg_147_56, sg_147_60, sg_147_68, mmK_cut cd_147, q_cons, q_G0, q_GS, q_I1, q_L1, q_A1, q_S0, q_S1, q_SS, q_T0, q_T1, q_TS, q_Kn, q_Ki, q_Kl, q_Kr, q_k0, q_kS, q_rc, q_ps, q_pn, q_iconst, q_istore3, q_istore, q_iload, q_aload0, q_getfieldA, q_arraylength, q_icmp_ge, q_iadd, q_iaload, q_bipush, q_icmp_eq, q_iinc, q_goto, q_iload2, q_iload1, q_isub, q_icmp_ne, q_if_eq, q_iload3, q_ireturn0, rf_11_0, rf_11_3, mmKe_1200, mmKe_1203, mmKo_11, mmLen_1200, mmLen_1203, mmR32, mmR64, Option.some.injEq, Int.cast_ofNat_Int, and_true, true_and, if_true, if_false, List.length_cons, List.length_nil, Nat.le_refl, Nat.zero_le, Nat.sub_zero, forall_const, reduceCtorEq, Nat.reduceAdd, Nat.reduceSub, Nat.reduceLeDiff, Nat.reduceEqDiff, Int.reduceAdd, Int.reduceNeg, Int.reduceSub, Int.reduceLT, Int.reduceLE, Int.reduceMul, Int.reduceEq, List.drop_zero, List.drop_succ_cons, ne_eq, not_false_eq_true, not_true_eq_false, false_and, and_false, false_implies, true_implies, reduceIte, mmU_rd, implies_true, or_false, false_or, or_true, true_or]
        refine ⟨by omega, by omega, by omega, fun c => j21 _ _, fun c => absurd hend c⟩
      | succ r ih =>
        intro i l6 l7 h0 hr
        have hne := hno i h0 (by omega)
        refine mmC_step ?_
        simp only [cd_147, sg_147_0, sg_147_4, sg_147_11, sg_147_21, sg_147_28, sg_147_29, sg_147_32, sg_147_52, sg_147_53, sg_147_56, sg_147_60, sg_147_68, mmK_cut cd_147, q_cons, q_G0, q_GS, q_I1, q_L1, q_A1, q_S0, q_S1, q_SS, q_T0, q_T1, q_TS, q_Kn, q_Ki, q_Kl, q_Kr, q_k0, q_kS, q_rc, q_ps, q_pn, q_iconst, q_istore3, q_istore, q_iload, q_aload0, q_getfieldA, q_arraylength, q_icmp_ge, q_iadd, q_iaload, q_bipush, q_icmp_eq, q_iinc, q_goto, q_iload2, q_iload1, q_isub, q_icmp_ne, q_if_eq, q_iload3, q_ireturn0, rf_11_0, rf_11_3, mmKe_1200, mmKe_1203, mmKo_11, mmLen_1200, mmLen_1203, mmR32, mmR64, Option.some.injEq, Int.cast_ofNat_Int, and_true, true_and, if_true, if_false, List.length_cons, List.length_nil, Nat.le_refl, Nat.zero_le, Nat.sub_zero, forall_const, reduceCtorEq, Nat.reduceAdd, Nat.reduceSub, Nat.reduceLeDiff, Nat.reduceEqDiff, Int.reduceAdd, Int.reduceNeg, Int.reduceSub, Int.reduceLT, Int.reduceLE, Int.reduceMul, Int.reduceEq, List.drop_zero, List.drop_succ_cons, ne_eq, not_false_eq_true, not_true_eq_false, false_and, and_false, false_implies, true_implies, reduceIte, mmU_rd, implies_true, or_false, false_or, or_true, true_or]
        refine ⟨by omega, by omega, by omega, fun c => absurd c hne, fun c => ⟨by omega, ih (i + 1) _ _ (by omega) (by omega)⟩⟩
    refine mmC_step ?_
    simp only [cd_147, sg_147_0, sg_147_4, sg_147_11, sg_147_21, sg_147_28, sg_147_29, sg_147_32, sg_147_52, sg_147_53, sg_147_56, sg_147_60, sg_147_68, mmK_cut cd_147, q_cons, q_G0, q_GS, q_I1, q_L1, q_A1, q_S0, q_S1, q_SS, q_T0, q_T1, q_TS, q_Kn, q_Ki, q_Kl, q_Kr, q_k0, q_kS, q_rc, q_ps, q_pn, q_iconst, q_istore3, q_istore, q_iload, q_aload0, q_getfieldA, q_arraylength, q_icmp_ge, q_iadd, q_iaload, q_bipush, q_icmp_eq, q_iinc, q_goto, q_iload2, q_iload1, q_isub, q_icmp_ne, q_if_eq, q_iload3, q_ireturn0, rf_11_0, rf_11_3, mmKe_1200, mmKe_1203, mmKo_11, mmLen_1200, mmLen_1203, mmR32, mmR64, Option.some.injEq, Int.cast_ofNat_Int, and_true, true_and, if_true, if_false, List.length_cons, List.length_nil, Nat.le_refl, Nat.zero_le, Nat.sub_zero, forall_const, reduceCtorEq, Nat.reduceAdd, Nat.reduceSub, Nat.reduceLeDiff, Nat.reduceEqDiff, Int.reduceAdd, Int.reduceNeg, Int.reduceSub, Int.reduceLT, Int.reduceLE, Int.reduceMul, Int.reduceEq, List.drop_zero, List.drop_succ_cons, ne_eq, not_false_eq_true, not_true_eq_false, false_and, and_false, false_implies, true_implies, reduceIte, mmU_rd, implies_true, or_false, false_or, or_true, true_or]
    refine ⟨by decide, fun c => by omega, fun c => ?_⟩
    exact kA n.toNat 0 _ _ (by omega) (by omega)
  have fin : Q (some (mv (if q - p ≤ 6 then kyF (hN (M 1200 0) p (q - p).toNat * pwH (q - p).toNat) else -1))) (M, mmRf a br, X) := hQ
  have hl' : ∀ i : Int, p ≤ i → i < p + ((q - p).toNat : Int) → 97 ≤ M 1200 0 i ∧ M 1200 0 i ≤ 122 := fun i h0 h1 => hl i h0 (by omega)
  have e0 : ((5 : Int) = q - p ∧ ∀ i : Int, 0 ≤ i → i < 5 → M 1203 0 (0 + i) = M 1200 0 (p + i)) ↔ (q - p ≤ 6 ∧ hN (M 1200 0) p (q - p).toNat * pwH (q - p).toNat = 82888832) := by
    by_cases c : q - p ≤ 6
    · have := wm_0 (W := M 1203 0) (show (q - p).toNat ≤ 6 by omega) hl' hW
      rw [show (((q - p).toNat : Nat) : Int) = q - p by omega] at this
      exact this.trans ⟨fun h => ⟨c, h⟩, fun h => h.2⟩
    · exact ⟨fun h => by omega, fun h => absurd h.1 c⟩
  have e1 : ((4 : Int) = q - p ∧ ∀ i : Int, 0 ≤ i → i < 4 → M 1203 0 (6 + i) = M 1200 0 (p + i)) ↔ (q - p ≤ 6 ∧ hN (M 1200 0) p (q - p).toNat * pwH (q - p).toNat = 378998784) := by
    by_cases c : q - p ≤ 6
    · have := wm_1 (W := M 1203 0) (show (q - p).toNat ≤ 6 by omega) hl' hW
      rw [show (((q - p).toNat : Nat) : Int) = q - p by omega] at this
      exact this.trans ⟨fun h => ⟨c, h⟩, fun h => h.2⟩
    · exact ⟨fun h => by omega, fun h => absurd h.1 c⟩
  have e2 : ((5 : Int) = q - p ∧ ∀ i : Int, 0 ≤ i → i < 5 → M 1203 0 (11 + i) = M 1200 0 (p + i)) ↔ (q - p ≤ 6 ∧ hN (M 1200 0) p (q - p).toNat * pwH (q - p).toNat = 659011744) := by
    by_cases c : q - p ≤ 6
    · have := wm_2 (W := M 1203 0) (show (q - p).toNat ≤ 6 by omega) hl' hW
      rw [show (((q - p).toNat : Nat) : Int) = q - p by omega] at this
      exact this.trans ⟨fun h => ⟨c, h⟩, fun h => h.2⟩
    · exact ⟨fun h => by omega, fun h => absurd h.1 c⟩
  have e3 : ((3 : Int) = q - p ∧ ∀ i : Int, 0 ≤ i → i < 3 → M 1203 0 (17 + i) = M 1200 0 (p + i)) ↔ (q - p ≤ 6 ∧ hN (M 1200 0) p (q - p).toNat * pwH (q - p).toNat = 404455424) := by
    by_cases c : q - p ≤ 6
    · have := wm_3 (W := M 1203 0) (show (q - p).toNat ≤ 6 by omega) hl' hW
      rw [show (((q - p).toNat : Nat) : Int) = q - p by omega] at this
      exact this.trans ⟨fun h => ⟨c, h⟩, fun h => h.2⟩
    · exact ⟨fun h => by omega, fun h => absurd h.1 c⟩
  have e4 : ((4 : Int) = q - p ∧ ∀ i : Int, 0 ≤ i → i < 4 → M 1203 0 (21 + i) = M 1200 0 (p + i)) ↔ (q - p ≤ 6 ∧ hN (M 1200 0) p (q - p).toNat * pwH (q - p).toNat = 553242624) := by
    by_cases c : q - p ≤ 6
    · have := wm_4 (W := M 1203 0) (show (q - p).toNat ≤ 6 by omega) hl' hW
      rw [show (((q - p).toNat : Nat) : Int) = q - p by omega] at this
      exact this.trans ⟨fun h => ⟨c, h⟩, fun h => h.2⟩
    · exact ⟨fun h => by omega, fun h => absurd h.1 c⟩
  have e5 : ((4 : Int) = q - p ∧ ∀ i : Int, 0 ≤ i → i < 4 → M 1203 0 (26 + i) = M 1200 0 (p + i)) ↔ (q - p ≤ 6 ∧ hN (M 1200 0) p (q - p).toNat * pwH (q - p).toNat = 136104960) := by
    by_cases c : q - p ≤ 6
    · have := wm_5 (W := M 1203 0) (show (q - p).toNat ≤ 6 by omega) hl' hW
      rw [show (((q - p).toNat : Nat) : Int) = q - p by omega] at this
      exact this.trans ⟨fun h => ⟨c, h⟩, fun h => h.2⟩
    · exact ⟨fun h => by omega, fun h => absurd h.1 c⟩
  have e6 : ((4 : Int) = q - p ∧ ∀ i : Int, 0 ≤ i → i < 4 → M 1203 0 (31 + i) = M 1200 0 (p + i)) ↔ (q - p ≤ 6 ∧ hN (M 1200 0) p (q - p).toNat * pwH (q - p).toNat = 404362240) := by
    by_cases c : q - p ≤ 6
    · have := wm_6 (W := M 1203 0) (show (q - p).toNat ≤ 6 by omega) hl' hW
      rw [show (((q - p).toNat : Nat) : Int) = q - p by omega] at this
      exact this.trans ⟨fun h => ⟨c, h⟩, fun h => h.2⟩
    · exact ⟨fun h => by omega, fun h => absurd h.1 c⟩
  have e7 : ((5 : Int) = q - p ∧ ∀ i : Int, 0 ≤ i → i < 5 → M 1203 0 (36 + i) = M 1200 0 (p + i)) ↔ (q - p ≤ 6 ∧ hN (M 1200 0) p (q - p).toNat * pwH (q - p).toNat = 407945824) := by
    by_cases c : q - p ≤ 6
    · have := wm_7 (W := M 1203 0) (show (q - p).toNat ≤ 6 by omega) hl' hW
      rw [show (((q - p).toNat : Nat) : Int) = q - p by omega] at this
      exact this.trans ⟨fun h => ⟨c, h⟩, fun h => h.2⟩
    · exact ⟨fun h => by omega, fun h => absurd h.1 c⟩
  have e8 : ((4 : Int) = q - p ∧ ∀ i : Int, 0 ≤ i → i < 4 → M 1203 0 (42 + i) = M 1200 0 (p + i)) ↔ (q - p ≤ 6 ∧ hN (M 1200 0) p (q - p).toNat * pwH (q - p).toNat = 626478080) := by
    by_cases c : q - p ≤ 6
    · have := wm_8 (W := M 1203 0) (show (q - p).toNat ≤ 6 by omega) hl' hW
      rw [show (((q - p).toNat : Nat) : Int) = q - p by omega] at this
      exact this.trans ⟨fun h => ⟨c, h⟩, fun h => h.2⟩
    · exact ⟨fun h => by omega, fun h => absurd h.1 c⟩
  have e9 : ((4 : Int) = q - p ∧ ∀ i : Int, 0 ≤ i → i < 4 → M 1203 0 (47 + i) = M 1200 0 (p + i)) ↔ (q - p ≤ 6 ∧ hN (M 1200 0) p (q - p).toNat * pwH (q - p).toNat = 379001856) := by
    by_cases c : q - p ≤ 6
    · have := wm_9 (W := M 1203 0) (show (q - p).toNat ≤ 6 by omega) hl' hW
      rw [show (((q - p).toNat : Nat) : Int) = q - p by omega] at this
      exact this.trans ⟨fun h => ⟨c, h⟩, fun h => h.2⟩
    · exact ⟨fun h => by omega, fun h => absurd h.1 c⟩
  have e10 : ((3 : Int) = q - p ∧ ∀ i : Int, 0 ≤ i → i < 3 → M 1203 0 (52 + i) = M 1200 0 (p + i)) ↔ (q - p ≤ 6 ∧ hN (M 1200 0) p (q - p).toNat * pwH (q - p).toNat = 48365568) := by
    by_cases c : q - p ≤ 6
    · have := wm_10 (W := M 1203 0) (show (q - p).toNat ≤ 6 by omega) hl' hW
      rw [show (((q - p).toNat : Nat) : Int) = q - p by omega] at this
      exact this.trans ⟨fun h => ⟨c, h⟩, fun h => h.2⟩
    · exact ⟨fun h => by omega, fun h => absurd h.1 c⟩
  have e11 : ((2 : Int) = q - p ∧ ∀ i : Int, 0 ≤ i → i < 2 → M 1203 0 (56 + i) = M 1200 0 (p + i)) ↔ (q - p ≤ 6 ∧ hN (M 1200 0) p (q - p).toNat * pwH (q - p).toNat = 522190848) := by
    by_cases c : q - p ≤ 6
    · have := wm_11 (W := M 1203 0) (show (q - p).toNat ≤ 6 by omega) hl' hW
      rw [show (((q - p).toNat : Nat) : Int) = q - p by omega] at this
      exact this.trans ⟨fun h => ⟨c, h⟩, fun h => h.2⟩
    · exact ⟨fun h => by omega, fun h => absurd h.1 c⟩
  have e12 : ((3 : Int) = q - p ∧ ∀ i : Int, 0 ≤ i → i < 3 → M 1203 0 (59 + i) = M 1200 0 (p + i)) ↔ (q - p ≤ 6 ∧ hN (M 1200 0) p (q - p).toNat * pwH (q - p).toNat = 486146048) := by
    by_cases c : q - p ≤ 6
    · have := wm_12 (W := M 1203 0) (show (q - p).toNat ≤ 6 by omega) hl' hW
      rw [show (((q - p).toNat : Nat) : Int) = q - p by omega] at this
      exact this.trans ⟨fun h => ⟨c, h⟩, fun h => h.2⟩
    · exact ⟨fun h => by omega, fun h => absurd h.1 c⟩
  have e13 : ((5 : Int) = q - p ∧ ∀ i : Int, 0 ≤ i → i < 5 → M 1203 0 (63 + i) = M 1200 0 (p + i)) ↔ (q - p ≤ 6 ∧ hN (M 1200 0) p (q - p).toNat * pwH (q - p).toNat = 672503392) := by
    by_cases c : q - p ≤ 6
    · have := wm_13 (W := M 1203 0) (show (q - p).toNat ≤ 6 by omega) hl' hW
      rw [show (((q - p).toNat : Nat) : Int) = q - p by omega] at this
      exact this.trans ⟨fun h => ⟨c, h⟩, fun h => h.2⟩
    · exact ⟨fun h => by omega, fun h => absurd h.1 c⟩
  have e14 : ((3 : Int) = q - p ∧ ∀ i : Int, 0 ≤ i → i < 3 → M 1203 0 (69 + i) = M 1200 0 (p + i)) ↔ (q - p ≤ 6 ∧ hN (M 1200 0) p (q - p).toNat * pwH (q - p).toNat = 202964992) := by
    by_cases c : q - p ≤ 6
    · have := wm_14 (W := M 1203 0) (show (q - p).toNat ≤ 6 by omega) hl' hW
      rw [show (((q - p).toNat : Nat) : Int) = q - p by omega] at this
      exact this.trans ⟨fun h => ⟨c, h⟩, fun h => h.2⟩
    · exact ⟨fun h => by omega, fun h => absurd h.1 c⟩
  have e15 : ((3 : Int) = q - p ∧ ∀ i : Int, 0 ≤ i → i < 3 → M 1203 0 (73 + i) = M 1200 0 (p + i)) ↔ (q - p ≤ 6 ∧ hN (M 1200 0) p (q - p).toNat * pwH (q - p).toNat = 620462080) := by
    by_cases c : q - p ≤ 6
    · have := wm_15 (W := M 1203 0) (show (q - p).toNat ≤ 6 by omega) hl' hW
      rw [show (((q - p).toNat : Nat) : Int) = q - p by omega] at this
      exact this.trans ⟨fun h => ⟨c, h⟩, fun h => h.2⟩
    · exact ⟨fun h => by omega, fun h => absurd h.1 c⟩
  have e16 : ((6 : Int) = q - p ∧ ∀ i : Int, 0 ≤ i → i < 6 → M 1203 0 (77 + i) = M 1200 0 (p + i)) ↔ (q - p ≤ 6 ∧ hN (M 1200 0) p (q - p).toNat * pwH (q - p).toNat = 659011763) := by
    by_cases c : q - p ≤ 6
    · have := wm_16 (W := M 1203 0) (show (q - p).toNat ≤ 6 by omega) hl' hW
      rw [show (((q - p).toNat : Nat) : Int) = q - p by omega] at this
      exact this.trans ⟨fun h => ⟨c, h⟩, fun h => h.2⟩
    · exact ⟨fun h => by omega, fun h => absurd h.1 c⟩
  have e17 : ((6 : Int) = q - p ∧ ∀ i : Int, 0 ≤ i → i < 6 → M 1203 0 (84 + i) = M 1200 0 (p + i)) ↔ (q - p ≤ 6 ∧ hN (M 1200 0) p (q - p).toNat * pwH (q - p).toNat = 524555859) := by
    by_cases c : q - p ≤ 6
    · have := wm_17 (W := M 1203 0) (show (q - p).toNat ≤ 6 by omega) hl' hW
      rw [show (((q - p).toNat : Nat) : Int) = q - p by omega] at this
      exact this.trans ⟨fun h => ⟨c, h⟩, fun h => h.2⟩
    · exact ⟨fun h => by omega, fun h => absurd h.1 c⟩
  have e18 : ((3 : Int) = q - p ∧ ∀ i : Int, 0 ≤ i → i < 3 → M 1203 0 (91 + i) = M 1200 0 (p + i)) ↔ (q - p ≤ 6 ∧ hN (M 1200 0) p (q - p).toNat * pwH (q - p).toNat = 550273024) := by
    by_cases c : q - p ≤ 6
    · have := wm_18 (W := M 1203 0) (show (q - p).toNat ≤ 6 by omega) hl' hW
      rw [show (((q - p).toNat : Nat) : Int) = q - p by omega] at this
      exact this.trans ⟨fun h => ⟨c, h⟩, fun h => h.2⟩
    · exact ⟨fun h => by omega, fun h => absurd h.1 c⟩
  generalize hN (M 1200 0) p (q - p).toNat * pwH (q - p).toNat = v at *
  have n0 : ∀ i : Int, 0 ≤ i → i < 5 → M 1203 0 (0 + i) ≠ 32 := by
    intro i h0 h1
    have hi : i = 0 ∨ i = 1 ∨ i = 2 ∨ i = 3 ∨ i = 4 := by omega
    rcases hi with rfl | rfl | rfl | rfl | rfl
    · exact fun h => absurd ((hW 0 (by decide)).symm.trans h) (by decide)
    · exact fun h => absurd ((hW 1 (by decide)).symm.trans h) (by decide)
    · exact fun h => absurd ((hW 2 (by decide)).symm.trans h) (by decide)
    · exact fun h => absurd ((hW 3 (by decide)).symm.trans h) (by decide)
    · exact fun h => absurd ((hW 4 (by decide)).symm.trans h) (by decide)
  have n1 : ∀ i : Int, 0 ≤ i → i < 4 → M 1203 0 (6 + i) ≠ 32 := by
    intro i h0 h1
    have hi : i = 0 ∨ i = 1 ∨ i = 2 ∨ i = 3 := by omega
    rcases hi with rfl | rfl | rfl | rfl
    · exact fun h => absurd ((hW 6 (by decide)).symm.trans h) (by decide)
    · exact fun h => absurd ((hW 7 (by decide)).symm.trans h) (by decide)
    · exact fun h => absurd ((hW 8 (by decide)).symm.trans h) (by decide)
    · exact fun h => absurd ((hW 9 (by decide)).symm.trans h) (by decide)
  have n2 : ∀ i : Int, 0 ≤ i → i < 5 → M 1203 0 (11 + i) ≠ 32 := by
    intro i h0 h1
    have hi : i = 0 ∨ i = 1 ∨ i = 2 ∨ i = 3 ∨ i = 4 := by omega
    rcases hi with rfl | rfl | rfl | rfl | rfl
    · exact fun h => absurd ((hW 11 (by decide)).symm.trans h) (by decide)
    · exact fun h => absurd ((hW 12 (by decide)).symm.trans h) (by decide)
    · exact fun h => absurd ((hW 13 (by decide)).symm.trans h) (by decide)
    · exact fun h => absurd ((hW 14 (by decide)).symm.trans h) (by decide)
    · exact fun h => absurd ((hW 15 (by decide)).symm.trans h) (by decide)
  have n3 : ∀ i : Int, 0 ≤ i → i < 3 → M 1203 0 (17 + i) ≠ 32 := by
    intro i h0 h1
    have hi : i = 0 ∨ i = 1 ∨ i = 2 := by omega
    rcases hi with rfl | rfl | rfl
    · exact fun h => absurd ((hW 17 (by decide)).symm.trans h) (by decide)
    · exact fun h => absurd ((hW 18 (by decide)).symm.trans h) (by decide)
    · exact fun h => absurd ((hW 19 (by decide)).symm.trans h) (by decide)
  have n4 : ∀ i : Int, 0 ≤ i → i < 4 → M 1203 0 (21 + i) ≠ 32 := by
    intro i h0 h1
    have hi : i = 0 ∨ i = 1 ∨ i = 2 ∨ i = 3 := by omega
    rcases hi with rfl | rfl | rfl | rfl
    · exact fun h => absurd ((hW 21 (by decide)).symm.trans h) (by decide)
    · exact fun h => absurd ((hW 22 (by decide)).symm.trans h) (by decide)
    · exact fun h => absurd ((hW 23 (by decide)).symm.trans h) (by decide)
    · exact fun h => absurd ((hW 24 (by decide)).symm.trans h) (by decide)
  have n5 : ∀ i : Int, 0 ≤ i → i < 4 → M 1203 0 (26 + i) ≠ 32 := by
    intro i h0 h1
    have hi : i = 0 ∨ i = 1 ∨ i = 2 ∨ i = 3 := by omega
    rcases hi with rfl | rfl | rfl | rfl
    · exact fun h => absurd ((hW 26 (by decide)).symm.trans h) (by decide)
    · exact fun h => absurd ((hW 27 (by decide)).symm.trans h) (by decide)
    · exact fun h => absurd ((hW 28 (by decide)).symm.trans h) (by decide)
    · exact fun h => absurd ((hW 29 (by decide)).symm.trans h) (by decide)
  have n6 : ∀ i : Int, 0 ≤ i → i < 4 → M 1203 0 (31 + i) ≠ 32 := by
    intro i h0 h1
    have hi : i = 0 ∨ i = 1 ∨ i = 2 ∨ i = 3 := by omega
    rcases hi with rfl | rfl | rfl | rfl
    · exact fun h => absurd ((hW 31 (by decide)).symm.trans h) (by decide)
    · exact fun h => absurd ((hW 32 (by decide)).symm.trans h) (by decide)
    · exact fun h => absurd ((hW 33 (by decide)).symm.trans h) (by decide)
    · exact fun h => absurd ((hW 34 (by decide)).symm.trans h) (by decide)
  have n7 : ∀ i : Int, 0 ≤ i → i < 5 → M 1203 0 (36 + i) ≠ 32 := by
    intro i h0 h1
    have hi : i = 0 ∨ i = 1 ∨ i = 2 ∨ i = 3 ∨ i = 4 := by omega
    rcases hi with rfl | rfl | rfl | rfl | rfl
    · exact fun h => absurd ((hW 36 (by decide)).symm.trans h) (by decide)
    · exact fun h => absurd ((hW 37 (by decide)).symm.trans h) (by decide)
    · exact fun h => absurd ((hW 38 (by decide)).symm.trans h) (by decide)
    · exact fun h => absurd ((hW 39 (by decide)).symm.trans h) (by decide)
    · exact fun h => absurd ((hW 40 (by decide)).symm.trans h) (by decide)
  have n8 : ∀ i : Int, 0 ≤ i → i < 4 → M 1203 0 (42 + i) ≠ 32 := by
    intro i h0 h1
    have hi : i = 0 ∨ i = 1 ∨ i = 2 ∨ i = 3 := by omega
    rcases hi with rfl | rfl | rfl | rfl
    · exact fun h => absurd ((hW 42 (by decide)).symm.trans h) (by decide)
    · exact fun h => absurd ((hW 43 (by decide)).symm.trans h) (by decide)
    · exact fun h => absurd ((hW 44 (by decide)).symm.trans h) (by decide)
    · exact fun h => absurd ((hW 45 (by decide)).symm.trans h) (by decide)
  have n9 : ∀ i : Int, 0 ≤ i → i < 4 → M 1203 0 (47 + i) ≠ 32 := by
    intro i h0 h1
    have hi : i = 0 ∨ i = 1 ∨ i = 2 ∨ i = 3 := by omega
    rcases hi with rfl | rfl | rfl | rfl
    · exact fun h => absurd ((hW 47 (by decide)).symm.trans h) (by decide)
    · exact fun h => absurd ((hW 48 (by decide)).symm.trans h) (by decide)
    · exact fun h => absurd ((hW 49 (by decide)).symm.trans h) (by decide)
    · exact fun h => absurd ((hW 50 (by decide)).symm.trans h) (by decide)
  have n10 : ∀ i : Int, 0 ≤ i → i < 3 → M 1203 0 (52 + i) ≠ 32 := by
    intro i h0 h1
    have hi : i = 0 ∨ i = 1 ∨ i = 2 := by omega
    rcases hi with rfl | rfl | rfl
    · exact fun h => absurd ((hW 52 (by decide)).symm.trans h) (by decide)
    · exact fun h => absurd ((hW 53 (by decide)).symm.trans h) (by decide)
    · exact fun h => absurd ((hW 54 (by decide)).symm.trans h) (by decide)
  have n11 : ∀ i : Int, 0 ≤ i → i < 2 → M 1203 0 (56 + i) ≠ 32 := by
    intro i h0 h1
    have hi : i = 0 ∨ i = 1 := by omega
    rcases hi with rfl | rfl
    · exact fun h => absurd ((hW 56 (by decide)).symm.trans h) (by decide)
    · exact fun h => absurd ((hW 57 (by decide)).symm.trans h) (by decide)
  have n12 : ∀ i : Int, 0 ≤ i → i < 3 → M 1203 0 (59 + i) ≠ 32 := by
    intro i h0 h1
    have hi : i = 0 ∨ i = 1 ∨ i = 2 := by omega
    rcases hi with rfl | rfl | rfl
    · exact fun h => absurd ((hW 59 (by decide)).symm.trans h) (by decide)
    · exact fun h => absurd ((hW 60 (by decide)).symm.trans h) (by decide)
    · exact fun h => absurd ((hW 61 (by decide)).symm.trans h) (by decide)
  have n13 : ∀ i : Int, 0 ≤ i → i < 5 → M 1203 0 (63 + i) ≠ 32 := by
    intro i h0 h1
    have hi : i = 0 ∨ i = 1 ∨ i = 2 ∨ i = 3 ∨ i = 4 := by omega
    rcases hi with rfl | rfl | rfl | rfl | rfl
    · exact fun h => absurd ((hW 63 (by decide)).symm.trans h) (by decide)
    · exact fun h => absurd ((hW 64 (by decide)).symm.trans h) (by decide)
    · exact fun h => absurd ((hW 65 (by decide)).symm.trans h) (by decide)
    · exact fun h => absurd ((hW 66 (by decide)).symm.trans h) (by decide)
    · exact fun h => absurd ((hW 67 (by decide)).symm.trans h) (by decide)
  have n14 : ∀ i : Int, 0 ≤ i → i < 3 → M 1203 0 (69 + i) ≠ 32 := by
    intro i h0 h1
    have hi : i = 0 ∨ i = 1 ∨ i = 2 := by omega
    rcases hi with rfl | rfl | rfl
    · exact fun h => absurd ((hW 69 (by decide)).symm.trans h) (by decide)
    · exact fun h => absurd ((hW 70 (by decide)).symm.trans h) (by decide)
    · exact fun h => absurd ((hW 71 (by decide)).symm.trans h) (by decide)
  have n15 : ∀ i : Int, 0 ≤ i → i < 3 → M 1203 0 (73 + i) ≠ 32 := by
    intro i h0 h1
    have hi : i = 0 ∨ i = 1 ∨ i = 2 := by omega
    rcases hi with rfl | rfl | rfl
    · exact fun h => absurd ((hW 73 (by decide)).symm.trans h) (by decide)
    · exact fun h => absurd ((hW 74 (by decide)).symm.trans h) (by decide)
    · exact fun h => absurd ((hW 75 (by decide)).symm.trans h) (by decide)
  have n16 : ∀ i : Int, 0 ≤ i → i < 6 → M 1203 0 (77 + i) ≠ 32 := by
    intro i h0 h1
    have hi : i = 0 ∨ i = 1 ∨ i = 2 ∨ i = 3 ∨ i = 4 ∨ i = 5 := by omega
    rcases hi with rfl | rfl | rfl | rfl | rfl | rfl
    · exact fun h => absurd ((hW 77 (by decide)).symm.trans h) (by decide)
    · exact fun h => absurd ((hW 78 (by decide)).symm.trans h) (by decide)
    · exact fun h => absurd ((hW 79 (by decide)).symm.trans h) (by decide)
    · exact fun h => absurd ((hW 80 (by decide)).symm.trans h) (by decide)
    · exact fun h => absurd ((hW 81 (by decide)).symm.trans h) (by decide)
    · exact fun h => absurd ((hW 82 (by decide)).symm.trans h) (by decide)
  have n17 : ∀ i : Int, 0 ≤ i → i < 6 → M 1203 0 (84 + i) ≠ 32 := by
    intro i h0 h1
    have hi : i = 0 ∨ i = 1 ∨ i = 2 ∨ i = 3 ∨ i = 4 ∨ i = 5 := by omega
    rcases hi with rfl | rfl | rfl | rfl | rfl | rfl
    · exact fun h => absurd ((hW 84 (by decide)).symm.trans h) (by decide)
    · exact fun h => absurd ((hW 85 (by decide)).symm.trans h) (by decide)
    · exact fun h => absurd ((hW 86 (by decide)).symm.trans h) (by decide)
    · exact fun h => absurd ((hW 87 (by decide)).symm.trans h) (by decide)
    · exact fun h => absurd ((hW 88 (by decide)).symm.trans h) (by decide)
    · exact fun h => absurd ((hW 89 (by decide)).symm.trans h) (by decide)
  have n18 : ∀ i : Int, 0 ≤ i → i < 3 → M 1203 0 (91 + i) ≠ 32 := by
    intro i h0 h1
    have hi : i = 0 ∨ i = 1 ∨ i = 2 := by omega
    rcases hi with rfl | rfl | rfl
    · exact fun h => absurd ((hW 91 (by decide)).symm.trans h) (by decide)
    · exact fun h => absurd ((hW 92 (by decide)).symm.trans h) (by decide)
    · exact fun h => absurd ((hW 93 (by decide)).symm.trans h) (by decide)
  have last : ¬ (q - p ≤ 6 ∧ v = 82888832) → ¬ (q - p ≤ 6 ∧ v = 378998784) → ¬ (q - p ≤ 6 ∧ v = 659011744) → ¬ (q - p ≤ 6 ∧ v = 404455424) → ¬ (q - p ≤ 6 ∧ v = 553242624) → ¬ (q - p ≤ 6 ∧ v = 136104960) → ¬ (q - p ≤ 6 ∧ v = 404362240) → ¬ (q - p ≤ 6 ∧ v = 407945824) → ¬ (q - p ≤ 6 ∧ v = 626478080) → ¬ (q - p ≤ 6 ∧ v = 379001856) → ¬ (q - p ≤ 6 ∧ v = 48365568) → ¬ (q - p ≤ 6 ∧ v = 522190848) → ¬ (q - p ≤ 6 ∧ v = 486146048) → ¬ (q - p ≤ 6 ∧ v = 672503392) → ¬ (q - p ≤ 6 ∧ v = 202964992) → ¬ (q - p ≤ 6 ∧ v = 620462080) → ¬ (q - p ≤ 6 ∧ v = 659011763) → ¬ (q - p ≤ 6 ∧ v = 524555859) → ¬ (q - p ≤ 6 ∧ v = 550273024) → ∀ l5 l6 l7, mmK d 147 Q 4 [some (mo 11 0), some (mv p), some (mv q), some (mv 19), some (mv 95), l5, l6, l7] [] (M, mmRf a br, X) := by
    intro c0 c1 c2 c3 c4 c5 c6 c7 c8 c9 c10 c11 c12 c13 c14 c15 c16 c17 c18 l5 l6 l7
    refine mmC_step ?_
    simp only [cd_147, sg_147_0, sg_147_4, sg_147_11, sg_147_21, sg_147_28, sg_147_29, sg_147_32, sg_147_52, sg_147_53, sg_147_56, sg_147_60, sg_147_68, mmK_cut cd_147, q_cons, q_G0, q_GS, q_I1, q_L1, q_A1, q_S0, q_S1, q_SS, q_T0, q_T1, q_TS, q_Kn, q_Ki, q_Kl, q_Kr, q_k0, q_kS, q_rc, q_ps, q_pn, q_iconst, q_istore3, q_istore, q_iload, q_aload0, q_getfieldA, q_arraylength, q_icmp_ge, q_iadd, q_iaload, q_bipush, q_icmp_eq, q_iinc, q_goto, q_iload2, q_iload1, q_isub, q_icmp_ne, q_if_eq, q_iload3, q_ireturn0, rf_11_0, rf_11_3, mmKe_1200, mmKe_1203, mmKo_11, mmLen_1200, mmLen_1203, mmR32, mmR64, Option.some.injEq, Int.cast_ofNat_Int, and_true, true_and, if_true, if_false, List.length_cons, List.length_nil, Nat.le_refl, Nat.zero_le, Nat.sub_zero, forall_const, reduceCtorEq, Nat.reduceAdd, Nat.reduceSub, Nat.reduceLeDiff, Nat.reduceEqDiff, Int.reduceAdd, Int.reduceNeg, Int.reduceSub, Int.reduceLT, Int.reduceLE, Int.reduceMul, Int.reduceEq, List.drop_zero, List.drop_succ_cons, ne_eq, not_false_eq_true, not_true_eq_false, false_and, and_false, false_implies, true_implies, reduceIte, mmU_rd, implies_true, or_false, false_or, or_true, true_or]
    refine ⟨by decide, ?_⟩
    refine mmC_step ?_
    simp only [cd_147, sg_147_0, sg_147_4, sg_147_11, sg_147_21, sg_147_28, sg_147_29, sg_147_32, sg_147_52, sg_147_53, sg_147_56, sg_147_60, sg_147_68, mmK_cut cd_147, q_cons, q_G0, q_GS, q_I1, q_L1, q_A1, q_S0, q_S1, q_SS, q_T0, q_T1, q_TS, q_Kn, q_Ki, q_Kl, q_Kr, q_k0, q_kS, q_rc, q_ps, q_pn, q_iconst, q_istore3, q_istore, q_iload, q_aload0, q_getfieldA, q_arraylength, q_icmp_ge, q_iadd, q_iaload, q_bipush, q_icmp_eq, q_iinc, q_goto, q_iload2, q_iload1, q_isub, q_icmp_ne, q_if_eq, q_iload3, q_ireturn0, rf_11_0, rf_11_3, mmKe_1200, mmKe_1203, mmKo_11, mmLen_1200, mmLen_1203, mmR32, mmR64, Option.some.injEq, Int.cast_ofNat_Int, and_true, true_and, if_true, if_false, List.length_cons, List.length_nil, Nat.le_refl, Nat.zero_le, Nat.sub_zero, forall_const, reduceCtorEq, Nat.reduceAdd, Nat.reduceSub, Nat.reduceLeDiff, Nat.reduceEqDiff, Int.reduceAdd, Int.reduceNeg, Int.reduceSub, Int.reduceLT, Int.reduceLE, Int.reduceMul, Int.reduceEq, List.drop_zero, List.drop_succ_cons, ne_eq, not_false_eq_true, not_true_eq_false, false_and, and_false, false_implies, true_implies, reduceIte, mmU_rd, implies_true, or_false, false_or, or_true, true_or]
    by_cases c : q - p ≤ 6
    · rw [if_pos c] at hQ
      have : kyF v = -1 := by
        unfold kyF
        rw [if_neg (fun h => c0 ⟨c, h⟩), if_neg (fun h => c1 ⟨c, h⟩), if_neg (fun h => c2 ⟨c, h⟩), if_neg (fun h => c3 ⟨c, h⟩), if_neg (fun h => c4 ⟨c, h⟩), if_neg (fun h => c5 ⟨c, h⟩), if_neg (fun h => c6 ⟨c, h⟩), if_neg (fun h => c7 ⟨c, h⟩), if_neg (fun h => c8 ⟨c, h⟩), if_neg (fun h => c9 ⟨c, h⟩), if_neg (fun h => c10 ⟨c, h⟩), if_neg (fun h => c11 ⟨c, h⟩), if_neg (fun h => c12 ⟨c, h⟩), if_neg (fun h => c13 ⟨c, h⟩), if_neg (fun h => c14 ⟨c, h⟩), if_neg (fun h => c15 ⟨c, h⟩), if_neg (fun h => c16 ⟨c, h⟩), if_neg (fun h => c17 ⟨c, h⟩), if_neg (fun h => c18 ⟨c, h⟩)]
      rw [this] at hQ
      exact hQ
    · rw [if_neg c] at hQ
      exact hQ
  refine mmC_in (by decide) (Nat.le_of_ble_eq_true rfl) (mmC_step ?_)
  simp only [show mmMl 147 = 8 from rfl, mmLs, List.replicate, cd_147, sg_147_0, sg_147_4, sg_147_11, sg_147_21, sg_147_28, sg_147_29, sg_147_32, sg_147_52, sg_147_53, sg_147_56, sg_147_60, sg_147_68, mmK_cut cd_147, q_cons, q_G0, q_GS, q_I1, q_L1, q_A1, q_S0, q_S1, q_SS, q_T0, q_T1, q_TS, q_Kn, q_Ki, q_Kl, q_Kr, q_k0, q_kS, q_rc, q_ps, q_pn, q_iconst, q_istore3, q_istore, q_iload, q_aload0, q_getfieldA, q_arraylength, q_icmp_ge, q_iadd, q_iaload, q_bipush, q_icmp_eq, q_iinc, q_goto, q_iload2, q_iload1, q_isub, q_icmp_ne, q_if_eq, q_iload3, q_ireturn0, rf_11_0, rf_11_3, mmKe_1200, mmKe_1203, mmKo_11, mmLen_1200, mmLen_1203, mmR32, mmR64, Option.some.injEq, Int.cast_ofNat_Int, and_true, true_and, if_true, if_false, List.length_cons, List.length_nil, Nat.le_refl, Nat.zero_le, Nat.sub_zero, forall_const, reduceCtorEq, Nat.reduceAdd, Nat.reduceSub, Nat.reduceLeDiff, Nat.reduceEqDiff, Int.reduceAdd, Int.reduceNeg, Int.reduceSub, Int.reduceLT, Int.reduceLE, Int.reduceMul, Int.reduceEq, List.drop_zero, List.drop_succ_cons, ne_eq, not_false_eq_true, not_true_eq_false, false_and, and_false, false_implies, true_implies, reduceIte, mmU_rd, implies_true, or_false, false_or, or_true, true_or]
  refine step 0 0 5 (by decide) (by decide) (by decide) (by decide) (by decide) n0 (hW 5 (by decide)) (fun h => ?_) (fun c0 => ?_) _ _ _
  · have h := e0.mp h
    rw [if_pos h.1, h.2] at hQ
    exact hQ
  intro l5 l6 l7
  refine step 1 6 4 (by decide) (by decide) (by decide) (by decide) (by decide) n1 (hW 10 (by decide)) (fun h => ?_) (fun c1 => ?_) _ _ _
  · have h := e1.mp h
    rw [if_pos h.1, h.2] at hQ
    exact hQ
  intro l5 l6 l7
  refine step 2 11 5 (by decide) (by decide) (by decide) (by decide) (by decide) n2 (hW 16 (by decide)) (fun h => ?_) (fun c2 => ?_) _ _ _
  · have h := e2.mp h
    rw [if_pos h.1, h.2] at hQ
    exact hQ
  intro l5 l6 l7
  refine step 3 17 3 (by decide) (by decide) (by decide) (by decide) (by decide) n3 (hW 20 (by decide)) (fun h => ?_) (fun c3 => ?_) _ _ _
  · have h := e3.mp h
    rw [if_pos h.1, h.2] at hQ
    exact hQ
  intro l5 l6 l7
  refine step 4 21 4 (by decide) (by decide) (by decide) (by decide) (by decide) n4 (hW 25 (by decide)) (fun h => ?_) (fun c4 => ?_) _ _ _
  · have h := e4.mp h
    rw [if_pos h.1, h.2] at hQ
    exact hQ
  intro l5 l6 l7
  refine step 5 26 4 (by decide) (by decide) (by decide) (by decide) (by decide) n5 (hW 30 (by decide)) (fun h => ?_) (fun c5 => ?_) _ _ _
  · have h := e5.mp h
    rw [if_pos h.1, h.2] at hQ
    exact hQ
  intro l5 l6 l7
  refine step 6 31 4 (by decide) (by decide) (by decide) (by decide) (by decide) n6 (hW 35 (by decide)) (fun h => ?_) (fun c6 => ?_) _ _ _
  · have h := e6.mp h
    rw [if_pos h.1, h.2] at hQ
    exact hQ
  intro l5 l6 l7
  refine step 7 36 5 (by decide) (by decide) (by decide) (by decide) (by decide) n7 (hW 41 (by decide)) (fun h => ?_) (fun c7 => ?_) _ _ _
  · have h := e7.mp h
    rw [if_pos h.1, h.2] at hQ
    exact hQ
  intro l5 l6 l7
  refine step 8 42 4 (by decide) (by decide) (by decide) (by decide) (by decide) n8 (hW 46 (by decide)) (fun h => ?_) (fun c8 => ?_) _ _ _
  · have h := e8.mp h
    rw [if_pos h.1, h.2] at hQ
    exact hQ
  intro l5 l6 l7
  refine step 9 47 4 (by decide) (by decide) (by decide) (by decide) (by decide) n9 (hW 51 (by decide)) (fun h => ?_) (fun c9 => ?_) _ _ _
  · have h := e9.mp h
    rw [if_pos h.1, h.2] at hQ
    exact hQ
  intro l5 l6 l7
  refine step 10 52 3 (by decide) (by decide) (by decide) (by decide) (by decide) n10 (hW 55 (by decide)) (fun h => ?_) (fun c10 => ?_) _ _ _
  · have h := e10.mp h
    rw [if_pos h.1, h.2] at hQ
    exact hQ
  intro l5 l6 l7
  refine step 11 56 2 (by decide) (by decide) (by decide) (by decide) (by decide) n11 (hW 58 (by decide)) (fun h => ?_) (fun c11 => ?_) _ _ _
  · have h := e11.mp h
    rw [if_pos h.1, h.2] at hQ
    exact hQ
  intro l5 l6 l7
  refine step 12 59 3 (by decide) (by decide) (by decide) (by decide) (by decide) n12 (hW 62 (by decide)) (fun h => ?_) (fun c12 => ?_) _ _ _
  · have h := e12.mp h
    rw [if_pos h.1, h.2] at hQ
    exact hQ
  intro l5 l6 l7
  refine step 13 63 5 (by decide) (by decide) (by decide) (by decide) (by decide) n13 (hW 68 (by decide)) (fun h => ?_) (fun c13 => ?_) _ _ _
  · have h := e13.mp h
    rw [if_pos h.1, h.2] at hQ
    exact hQ
  intro l5 l6 l7
  refine step 14 69 3 (by decide) (by decide) (by decide) (by decide) (by decide) n14 (hW 72 (by decide)) (fun h => ?_) (fun c14 => ?_) _ _ _
  · have h := e14.mp h
    rw [if_pos h.1, h.2] at hQ
    exact hQ
  intro l5 l6 l7
  refine step 15 73 3 (by decide) (by decide) (by decide) (by decide) (by decide) n15 (hW 76 (by decide)) (fun h => ?_) (fun c15 => ?_) _ _ _
  · have h := e15.mp h
    rw [if_pos h.1, h.2] at hQ
    exact hQ
  intro l5 l6 l7
  refine step 16 77 6 (by decide) (by decide) (by decide) (by decide) (by decide) n16 (hW 83 (by decide)) (fun h => ?_) (fun c16 => ?_) _ _ _
  · have h := e16.mp h
    rw [if_pos h.1, h.2] at hQ
    exact hQ
  intro l5 l6 l7
  refine step 17 84 6 (by decide) (by decide) (by decide) (by decide) (by decide) n17 (hW 90 (by decide)) (fun h => ?_) (fun c17 => ?_) _ _ _
  · have h := e17.mp h
    rw [if_pos h.1, h.2] at hQ
    exact hQ
  intro l5 l6 l7
  refine step 18 91 3 (by decide) (by decide) (by decide) (by decide) (by decide) n18 (hW 94 (by decide)) (fun h => ?_) (fun c18 => ?_) _ _ _
  · have h := e18.mp h
    rw [if_pos h.1, h.2] at hQ
    exact hQ
  intro l5 l6 l7
  exact last (fun h => c0 (e0.mpr h)) (fun h => c1 (e1.mpr h)) (fun h => c2 (e2.mpr h)) (fun h => c3 (e3.mpr h)) (fun h => c4 (e4.mpr h)) (fun h => c5 (e5.mpr h)) (fun h => c6 (e6.mpr h)) (fun h => c7 (e7.mpr h)) (fun h => c8 (e8.mpr h)) (fun h => c9 (e9.mpr h)) (fun h => c10 (e10.mpr h)) (fun h => c11 (e11.mpr h)) (fun h => c12 (e12.mpr h)) (fun h => c13 (e13.mpr h)) (fun h => c14 (e14.mpr h)) (fun h => c15 (e15.mpr h)) (fun h => c16 (e16.mpr h)) (fun h => c17 (e17.mpr h)) (fun h => c18 (e18.mpr h)) _ _ _
end S45
