/-- what became of an if, as all letters tell: 0 its ply isn't made -/
noncomputable def ftA (r : mRu) (L : Nat → Int → Int) (l k : Int) : Int := cI (L 8 (L 6 l * 6 + k) < vN r L 0) (ftV L (r 6 7) (rM r L (vT r L 0) (L 8 (L 6 l * 6 + k))) (rC r L (vT r L 0) (L 8 (L 6 l * 6 + k))) l k) 0
noncomputable def a_whence (r : mRu) (L : Nat → Int → Int) (l k q : Int) : Int := cI ((0 ≤ l ∧ l < L 0 0) ∧ (0 ≤ k ∧ k < nIf L l) ∧ (q = 0 ∨ q = 1)) (cI (q = 1) (cI (ftA r L l k < 0) (-ftA r L l k) 0) (cI (ftA r L l k < 0) (-2) (ftA r L l k))) (-1)
section S854
variable {d a : Nat} {I I1 I' I'' : mMm} {br br' : Nat → Option mmO} {R : Nat → Nat → Int → Option mmO} {X : mmX} {L : Nat → Int → Int} {r : mRu} {l w k v p n q : Int} {Q : Option mmV → mmM → Prop}
theorem ftV_in {z la : Int} {c : Int × Int} : -3 ≤ ftV L z la c l k ∧ ftV L z la c l k ≤ 1 := by
  unfold ftV
  by_cases h1 : fitP L la l k
  · rw [cI_pos h1]
    by_cases h2 : l = c.1 ∧ k = c.2
    · rw [cI_pos h2]; omega
    · rw [cI_neg h2]
      by_cases h3 : befP L z l k c
      · rw [cI_pos h3]; omega
      · rw [cI_neg h3]; omega
  · rw [cI_neg h1]; omega
theorem ftA_in : -3 ≤ ftA r L l k ∧ ftA r L l k ≤ 1 := by
  unfold ftA
  by_cases h1 : L 8 (L 6 l * 6 + k) < vN r L 0
  · rw [cI_pos h1]; exact ftV_in
  · rw [cI_neg h1]; omega
theorem all_T (hl : 0 ≤ l ∧ l < L 0 0) : l ∈ vT r L 0 := by
  unfold vT odT
  rw [List.mem_filter, od_in]
  exact ⟨⟨hl.1, by omega⟩, by unfold Kv; exact decide_eq_true (Or.inl rfl)⟩
theorem c_fateOf (hL : CL I L) (hW : LW L) (hR : RowV I br a 0 r L) (hl : 0 ≤ l ∧ l < L 0 0) (hk : 0 ≤ k ∧ k < nIf L l) (hQ : Q (some (mv (ftA r L l k))) (I, mmRf a br, X)) : mmC (d + 1) 70 [mo 5 1, mo 3 0, mv l, mv k] (I, mmRf a br, X) Q := by
  have h16 := hW.1
  obtain ⟨g1, g2, g3, g4, g5⟩ := if_in hW hl hk
  have e6 : I 406 0 l = L 6 l := hL 6 l (by omega)
  have e8 : I 408 0 (L 6 l * 6 + k) = L 8 (L 6 l * 6 + k) := hL 8 _ (by omega)
  have eN : I 0 1 4 = vN r L 0 := RV_N hR
  refine mmC_in (by decide) (Nat.le_of_ble_eq_true rfl) (mmC_step ?_)
  simp only [show mmMl 70 = 5 from rfl, mmLs, List.replicate, cd_70, sg_70_0, sg_70_26, sg_70_27, mmK_cut cd_70, q_cons, q_G0, q_GS, q_I1, q_L1, q_A1, q_S0, q_S1, q_SS, q_T0, q_T1, q_TS, q_Kn, q_Ki, q_Kl, q_Kr, q_k0, q_kS, q_rc, q_ps, q_pn, q_aload1, q_getfieldA, q_iload2, q_iaload, q_bipush, q_imul, q_iload3, q_iadd, q_istore, q_iload, q_aload0, q_getfieldI, q_icmp_ge, q_goto, q_iconst, q_ireturn0, rf_3_6, rf_3_8, rf_5_2, rf_5_8, mmKe_406, mmKe_408, mmKe_608, mmKo_0, mmKo_3, mmKo_5, mmLen_406, mmLen_408, mmLen_608, mmR32, mmR64, Option.some.injEq, Int.cast_ofNat_Int, and_true, true_and, if_true, if_false, List.length_cons, List.length_nil, Nat.le_refl, Nat.zero_le, Nat.sub_zero, forall_const, reduceCtorEq, Nat.reduceAdd, Nat.reduceSub, Nat.reduceLeDiff, Nat.reduceEqDiff, Int.reduceAdd, Int.reduceNeg, Int.reduceSub, Int.reduceLT, Int.reduceLE, Int.reduceMul, Int.reduceEq, List.drop_zero, List.drop_succ_cons, ne_eq, not_false_eq_true, not_true_eq_false, false_and, and_false, false_implies, true_implies, reduceIte, mmU_rd, implies_true, or_false, false_or, or_true, true_or]
  rw [e6, e8, eN]
  refine ⟨by omega, by omega, by omega, by omega, by omega, by omega, fun c => ?_, fun c => ?_⟩
  · refine mmC_step ?_
    simp only [cd_70, sg_70_0, sg_70_26, sg_70_27, mmK_cut cd_70, q_cons, q_G0, q_GS, q_I1, q_L1, q_A1, q_S0, q_S1, q_SS, q_T0, q_T1, q_TS, q_Kn, q_Ki, q_Kl, q_Kr, q_k0, q_kS, q_rc, q_ps, q_pn, q_aload1, q_getfieldA, q_iload2, q_iaload, q_bipush, q_imul, q_iload3, q_iadd, q_istore, q_iload, q_aload0, q_getfieldI, q_icmp_ge, q_goto, q_iconst, q_ireturn0, rf_3_6, rf_3_8, rf_5_2, rf_5_8, mmKe_406, mmKe_408, mmKe_608, mmKo_0, mmKo_3, mmKo_5, mmLen_406, mmLen_408, mmLen_608, mmR32, mmR64, Option.some.injEq, Int.cast_ofNat_Int, and_true, true_and, if_true, if_false, List.length_cons, List.length_nil, Nat.le_refl, Nat.zero_le, Nat.sub_zero, forall_const, reduceCtorEq, Nat.reduceAdd, Nat.reduceSub, Nat.reduceLeDiff, Nat.reduceEqDiff, Int.reduceAdd, Int.reduceNeg, Int.reduceSub, Int.reduceLT, Int.reduceLE, Int.reduceMul, Int.reduceEq, List.drop_zero, List.drop_succ_cons, ne_eq, not_false_eq_true, not_true_eq_false, false_and, and_false, false_implies, true_implies, reduceIte, mmU_rd, implies_true, or_false, false_or, or_true, true_or]
    refine mmC_step ?_
    simp only [cd_70, sg_70_0, sg_70_26, sg_70_27, mmK_cut cd_70, q_cons, q_G0, q_GS, q_I1, q_L1, q_A1, q_S0, q_S1, q_SS, q_T0, q_T1, q_TS, q_Kn, q_Ki, q_Kl, q_Kr, q_k0, q_kS, q_rc, q_ps, q_pn, q_aload1, q_getfieldA, q_iload2, q_iaload, q_bipush, q_imul, q_iload3, q_iadd, q_istore, q_iload, q_aload0, q_getfieldI, q_icmp_ge, q_goto, q_iconst, q_ireturn0, rf_3_6, rf_3_8, rf_5_2, rf_5_8, mmKe_406, mmKe_408, mmKe_608, mmKo_0, mmKo_3, mmKo_5, mmLen_406, mmLen_408, mmLen_608, mmR32, mmR64, Option.some.injEq, Int.cast_ofNat_Int, and_true, true_and, if_true, if_false, List.length_cons, List.length_nil, Nat.le_refl, Nat.zero_le, Nat.sub_zero, forall_const, reduceCtorEq, Nat.reduceAdd, Nat.reduceSub, Nat.reduceLeDiff, Nat.reduceEqDiff, Int.reduceAdd, Int.reduceNeg, Int.reduceSub, Int.reduceLT, Int.reduceLE, Int.reduceMul, Int.reduceEq, List.drop_zero, List.drop_succ_cons, ne_eq, not_false_eq_true, not_true_eq_false, false_and, and_false, false_implies, true_implies, reduceIte, mmU_rd, implies_true, or_false, false_or, or_true, true_or]
    unfold ftA at hQ
    rw [cI_neg (by omega)] at hQ
    exact hQ
  · have ef : I 608 1 (l * 6 + k) = ftV L (r 6 7) (rM r L (vT r L 0) (L 8 (L 6 l * 6 + k))) (rC r L (vT r L 0) (L 8 (L 6 l * 6 + k))) l k := hR.2.2.1.2.2 l (all_T hl) k hk.1 hk.2 c
    rw [ef]
    unfold ftA at hQ
    rw [cI_pos c] at hQ
    refine ⟨by omega, by omega, by omega, by omega, ?_⟩
    refine mmC_step ?_
    simp only [cd_70, sg_70_0, sg_70_26, sg_70_27, mmK_cut cd_70, q_cons, q_G0, q_GS, q_I1, q_L1, q_A1, q_S0, q_S1, q_SS, q_T0, q_T1, q_TS, q_Kn, q_Ki, q_Kl, q_Kr, q_k0, q_kS, q_rc, q_ps, q_pn, q_aload1, q_getfieldA, q_iload2, q_iaload, q_bipush, q_imul, q_iload3, q_iadd, q_istore, q_iload, q_aload0, q_getfieldI, q_icmp_ge, q_goto, q_iconst, q_ireturn0, rf_3_6, rf_3_8, rf_5_2, rf_5_8, mmKe_406, mmKe_408, mmKe_608, mmKo_0, mmKo_3, mmKo_5, mmLen_406, mmLen_408, mmLen_608, mmR32, mmR64, Option.some.injEq, Int.cast_ofNat_Int, and_true, true_and, if_true, if_false, List.length_cons, List.length_nil, Nat.le_refl, Nat.zero_le, Nat.sub_zero, forall_const, reduceCtorEq, Nat.reduceAdd, Nat.reduceSub, Nat.reduceLeDiff, Nat.reduceEqDiff, Int.reduceAdd, Int.reduceNeg, Int.reduceSub, Int.reduceLT, Int.reduceLE, Int.reduceMul, Int.reduceEq, List.drop_zero, List.drop_succ_cons, ne_eq, not_false_eq_true, not_true_eq_false, false_and, and_false, false_implies, true_implies, reduceIte, mmU_rd, implies_true, or_false, false_or, or_true, true_or]
    exact hQ
theorem c_whence (hI : CI I br a r L) (hQ : aQ I a r L X Q (mv (a_whence r L l k q))) : mmC (d + 8) 110 [mo 10 0, mv l, mv k, mv q] (I, mmRf a br, X) Q := by
  have hL := hI.2.2.2.1
  have hW := hI.2.2.2.2.1
  have h16 := hW.1
  have e0 : I 3 0 0 = L 0 0 := hL 0 0 (by omega)
  have e6 : I 406 0 l = L 6 l := hL 6 l (by omega)
  have e7 : I 407 0 (L 6 l) = nIf L l := hL 7 _ (by omega)
  have w16 : ¬ ((0 ≤ l ∧ l < L 0 0) ∧ (0 ≤ k ∧ k < nIf L l) ∧ (q = 0 ∨ q = 1)) → mmK (d + 7) 110 Q 16 [some (mo 10 0), some (mv l), some (mv k), some (mv q), none] [] (I, mmRf a br, X) := by
    intro c
    unfold a_whence at hQ
    rw [cI_neg c] at hQ
    refine mmC_step ?_
    simp only [cd_110, sg_110_0, sg_110_16, sg_110_18, sg_110_35, sg_110_36, sg_110_37, sg_110_41, sg_110_42, mmK_cut cd_110, q_cons, q_G0, q_GS, q_I1, q_L1, q_A1, q_S0, q_S1, q_SS, q_T0, q_T1, q_TS, q_Kn, q_Ki, q_Kl, q_Kr, q_k0, q_kS, q_rc, q_ps, q_pn, q_aload0, q_getfieldA, q_iload1, q_if_eq, q_iload2, q_if_lt, q_icmp_ge, q_iload3, q_if_ne, q_iconst, q_ireturn0, q_istore, q_icmp_ne, q_iload, q_if_ge, q_ineg, q_goto, q_bipush, rf_10_4, mmKo_10, mmKo_3, mmKo_5, mmR32, mmR64, Option.some.injEq, Int.cast_ofNat_Int, and_true, true_and, if_true, if_false, List.length_cons, List.length_nil, Nat.le_refl, Nat.zero_le, Nat.sub_zero, forall_const, reduceCtorEq, Nat.reduceAdd, Nat.reduceSub, Nat.reduceLeDiff, Nat.reduceEqDiff, Int.reduceAdd, Int.reduceNeg, Int.reduceSub, Int.reduceLT, Int.reduceLE, Int.reduceMul, Int.reduceEq, List.drop_zero, List.drop_succ_cons, ne_eq, not_false_eq_true, not_true_eq_false, false_and, and_false, false_implies, true_implies, reduceIte, mmU_rd, implies_true, or_false, false_or, or_true, true_or]
    exact hQ I br FrG_refl hI
  refine mmC_in (by decide) (Nat.le_of_ble_eq_true rfl) (mmC_step ?_)
  simp only [show mmMl 110 = 5 from rfl, mmLs, List.replicate, cd_110, sg_110_0, sg_110_16, sg_110_18, sg_110_35, sg_110_36, sg_110_37, sg_110_41, sg_110_42, mmK_cut cd_110, q_cons, q_G0, q_GS, q_I1, q_L1, q_A1, q_S0, q_S1, q_SS, q_T0, q_T1, q_TS, q_Kn, q_Ki, q_Kl, q_Kr, q_k0, q_kS, q_rc, q_ps, q_pn, q_aload0, q_getfieldA, q_iload1, q_if_eq, q_iload2, q_if_lt, q_icmp_ge, q_iload3, q_if_ne, q_iconst, q_ireturn0, q_istore, q_icmp_ne, q_iload, q_if_ge, q_ineg, q_goto, q_bipush, rf_10_4, mmKo_10, mmKo_3, mmKo_5, mmR32, mmR64, Option.some.injEq, Int.cast_ofNat_Int, and_true, true_and, if_true, if_false, List.length_cons, List.length_nil, Nat.le_refl, Nat.zero_le, Nat.sub_zero, forall_const, reduceCtorEq, Nat.reduceAdd, Nat.reduceSub, Nat.reduceLeDiff, Nat.reduceEqDiff, Int.reduceAdd, Int.reduceNeg, Int.reduceSub, Int.reduceLT, Int.reduceLE, Int.reduceMul, Int.reduceEq, List.drop_zero, List.drop_succ_cons, ne_eq, not_false_eq_true, not_true_eq_false, false_and, and_false, false_implies, true_implies, reduceIte, mmU_rd, implies_true, or_false, false_or, or_true, true_or]
  rw [q_invV (pay := [])]
  simp only [q_k0, q_kS, q_rc, mmKo_3]
  refine ⟨Nat.le_of_ble_eq_true rfl, by trivial, Nat.zero_le _, Nat.zero_le _, ?_⟩
  refine sp_has ?_
  rw [e0]
  simp only [mmK_cut cd_110, q_cons, q_G0, q_GS, q_I1, q_L1, q_A1, q_S0, q_S1, q_SS, q_T0, q_T1, q_TS, q_Kn, q_Ki, q_Kl, q_Kr, q_k0, q_kS, q_rc, q_ps, q_pn, q_aload0, q_getfieldA, q_iload1, q_if_eq, q_iload2, q_if_lt, q_icmp_ge, q_iload3, q_if_ne, q_iconst, q_ireturn0, q_istore, q_icmp_ne, q_iload, q_if_ge, q_ineg, q_goto, q_bipush, rf_10_4, mmKo_10, mmKo_3, mmKo_5, mmR32, mmR64, Option.some.injEq, Int.cast_ofNat_Int, and_true, true_and, if_true, if_false, List.length_cons, List.length_nil, Nat.le_refl, Nat.zero_le, Nat.sub_zero, forall_const, reduceCtorEq, Nat.reduceAdd, Nat.reduceSub, Nat.reduceLeDiff, Nat.reduceEqDiff, Int.reduceAdd, Int.reduceNeg, Int.reduceSub, Int.reduceLT, Int.reduceLE, Int.reduceMul, Int.reduceEq, List.drop_zero, List.drop_succ_cons, ne_eq, not_false_eq_true, not_true_eq_false, false_and, and_false, false_implies, true_implies, reduceIte, mmU_rd, implies_true, or_false, false_or, or_true, true_or, bI_eq0]
  refine ⟨fun c => w16 (fun q => c q.1), fun c => ⟨fun c2 => w16 (fun q => by omega), fun c2 => ?_⟩⟩
  have c := Classical.not_not.mp c
  have hN := nIf_in hW c
  rw [q_invV (pay := [])]
  simp only [q_k0, q_kS, q_rc, mmKo_3]
  refine ⟨Nat.le_of_ble_eq_true rfl, by trivial, Nat.zero_le _, Nat.zero_le _, ?_⟩
  refine sp_ifsOf (by omega) (by rw [e6]; omega) ?_
  rw [e6, e7]
  simp only [mmK_cut cd_110, q_cons, q_G0, q_GS, q_I1, q_L1, q_A1, q_S0, q_S1, q_SS, q_T0, q_T1, q_TS, q_Kn, q_Ki, q_Kl, q_Kr, q_k0, q_kS, q_rc, q_ps, q_pn, q_aload0, q_getfieldA, q_iload1, q_if_eq, q_iload2, q_if_lt, q_icmp_ge, q_iload3, q_if_ne, q_iconst, q_ireturn0, q_istore, q_icmp_ne, q_iload, q_if_ge, q_ineg, q_goto, q_bipush, rf_10_4, mmKo_10, mmKo_3, mmKo_5, mmR32, mmR64, Option.some.injEq, Int.cast_ofNat_Int, and_true, true_and, if_true, if_false, List.length_cons, List.length_nil, Nat.le_refl, Nat.zero_le, Nat.sub_zero, forall_const, reduceCtorEq, Nat.reduceAdd, Nat.reduceSub, Nat.reduceLeDiff, Nat.reduceEqDiff, Int.reduceAdd, Int.reduceNeg, Int.reduceSub, Int.reduceLT, Int.reduceLE, Int.reduceMul, Int.reduceEq, List.drop_zero, List.drop_succ_cons, ne_eq, not_false_eq_true, not_true_eq_false, false_and, and_false, false_implies, true_implies, reduceIte, mmU_rd, implies_true, or_false, false_or, or_true, true_or]
  refine ⟨fun c3 => w16 (fun q => by omega), fun c3 => ?_⟩
  rw [q_invS (pay := [])]
  simp only [q_k0, q_kS]
  refine ⟨Nat.le_of_ble_eq_true rfl, Nat.zero_le _, Nat.zero_le _, ?_⟩
  refine sp_isBit ?_
  simp only [mmK_cut cd_110, q_cons, q_G0, q_GS, q_I1, q_L1, q_A1, q_S0, q_S1, q_SS, q_T0, q_T1, q_TS, q_Kn, q_Ki, q_Kl, q_Kr, q_k0, q_kS, q_rc, q_ps, q_pn, q_aload0, q_getfieldA, q_iload1, q_if_eq, q_iload2, q_if_lt, q_icmp_ge, q_iload3, q_if_ne, q_iconst, q_ireturn0, q_istore, q_icmp_ne, q_iload, q_if_ge, q_ineg, q_goto, q_bipush, rf_10_4, mmKo_10, mmKo_3, mmKo_5, mmR32, mmR64, Option.some.injEq, Int.cast_ofNat_Int, and_true, true_and, if_true, if_false, List.length_cons, List.length_nil, Nat.le_refl, Nat.zero_le, Nat.sub_zero, forall_const, reduceCtorEq, Nat.reduceAdd, Nat.reduceSub, Nat.reduceLeDiff, Nat.reduceEqDiff, Int.reduceAdd, Int.reduceNeg, Int.reduceSub, Int.reduceLT, Int.reduceLE, Int.reduceMul, Int.reduceEq, List.drop_zero, List.drop_succ_cons, ne_eq, not_false_eq_true, not_true_eq_false, false_and, and_false, false_implies, true_implies, reduceIte, mmU_rd, implies_true, or_false, false_or, or_true, true_or, bI_eq0]
  refine ⟨fun c4 => ?_, fun c4 => w16 (fun q => c4 q.2.2)⟩
  have c4 := Classical.not_not.mp c4
  unfold a_whence at hQ
  rw [cI_pos ⟨c, ⟨c2, c3⟩, c4⟩] at hQ
  have hf := ftA_in (r := r) (L := L) (l := l) (k := k)
  refine mmC_step ?_
  simp only [cd_110, sg_110_0, sg_110_16, sg_110_18, sg_110_35, sg_110_36, sg_110_37, sg_110_41, sg_110_42, mmK_cut cd_110, q_cons, q_G0, q_GS, q_I1, q_L1, q_A1, q_S0, q_S1, q_SS, q_T0, q_T1, q_TS, q_Kn, q_Ki, q_Kl, q_Kr, q_k0, q_kS, q_rc, q_ps, q_pn, q_aload0, q_getfieldA, q_iload1, q_if_eq, q_iload2, q_if_lt, q_icmp_ge, q_iload3, q_if_ne, q_iconst, q_ireturn0, q_istore, q_icmp_ne, q_iload, q_if_ge, q_ineg, q_goto, q_bipush, rf_10_4, mmKo_10, mmKo_3, mmKo_5, mmR32, mmR64, Option.some.injEq, Int.cast_ofNat_Int, and_true, true_and, if_true, if_false, List.length_cons, List.length_nil, Nat.le_refl, Nat.zero_le, Nat.sub_zero, forall_const, reduceCtorEq, Nat.reduceAdd, Nat.reduceSub, Nat.reduceLeDiff, Nat.reduceEqDiff, Int.reduceAdd, Int.reduceNeg, Int.reduceSub, Int.reduceLT, Int.reduceLE, Int.reduceMul, Int.reduceEq, List.drop_zero, List.drop_succ_cons, ne_eq, not_false_eq_true, not_true_eq_false, false_and, and_false, false_implies, true_implies, reduceIte, mmU_rd, implies_true, or_false, false_or, or_true, true_or]
  rw [q_invV (pay := [])]
  simp only [q_k0, q_kS, q_rc, mmKo_10]
  refine ⟨Nat.le_of_ble_eq_true rfl, by trivial, Nat.zero_le _, Nat.zero_le _, ?_⟩
  refine c_seenI (w := 0) (by omega) hI (fun I1 b1 f1 h1 hR => ?_)
  simp only [mmK_cut cd_110, q_cons, q_G0, q_GS, q_I1, q_L1, q_A1, q_S0, q_S1, q_SS, q_T0, q_T1, q_TS, q_Kn, q_Ki, q_Kl, q_Kr, q_k0, q_kS, q_rc, q_ps, q_pn, q_aload0, q_getfieldA, q_iload1, q_if_eq, q_iload2, q_if_lt, q_icmp_ge, q_iload3, q_if_ne, q_iconst, q_ireturn0, q_istore, q_icmp_ne, q_iload, q_if_ge, q_ineg, q_goto, q_bipush, rf_10_4, mmKo_10, mmKo_3, mmKo_5, mmR32, mmR64, Option.some.injEq, Int.cast_ofNat_Int, and_true, true_and, if_true, if_false, List.length_cons, List.length_nil, Nat.le_refl, Nat.zero_le, Nat.sub_zero, forall_const, reduceCtorEq, Nat.reduceAdd, Nat.reduceSub, Nat.reduceLeDiff, Nat.reduceEqDiff, Int.reduceAdd, Int.reduceNeg, Int.reduceSub, Int.reduceLT, Int.reduceLE, Int.reduceMul, Int.reduceEq, List.drop_zero, List.drop_succ_cons, ne_eq, not_false_eq_true, not_true_eq_false, false_and, and_false, false_implies, true_implies, reduceIte, mmU_rd, implies_true, or_false, false_or, or_true, true_or]
  rw [q_invV (pay := [])]
  simp only [q_k0, q_kS, q_rc, mmKo_5]
  refine ⟨Nat.le_of_ble_eq_true rfl, by trivial, Nat.zero_le _, Nat.zero_le _, ?_⟩
  refine c_fateOf h1.2.2.2.1 hW hR c ⟨c2, c3⟩ ?_
  simp only [mmK_cut cd_110, q_cons, q_G0, q_GS, q_I1, q_L1, q_A1, q_S0, q_S1, q_SS, q_T0, q_T1, q_TS, q_Kn, q_Ki, q_Kl, q_Kr, q_k0, q_kS, q_rc, q_ps, q_pn, q_aload0, q_getfieldA, q_iload1, q_if_eq, q_iload2, q_if_lt, q_icmp_ge, q_iload3, q_if_ne, q_iconst, q_ireturn0, q_istore, q_icmp_ne, q_iload, q_if_ge, q_ineg, q_goto, q_bipush, rf_10_4, mmKo_10, mmKo_3, mmKo_5, mmR32, mmR64, Option.some.injEq, Int.cast_ofNat_Int, and_true, true_and, if_true, if_false, List.length_cons, List.length_nil, Nat.le_refl, Nat.zero_le, Nat.sub_zero, forall_const, reduceCtorEq, Nat.reduceAdd, Nat.reduceSub, Nat.reduceLeDiff, Nat.reduceEqDiff, Int.reduceAdd, Int.reduceNeg, Int.reduceSub, Int.reduceLT, Int.reduceLE, Int.reduceMul, Int.reduceEq, List.drop_zero, List.drop_succ_cons, ne_eq, not_false_eq_true, not_true_eq_false, false_and, and_false, false_implies, true_implies, reduceIte, mmU_rd, implies_true, or_false, false_or, or_true, true_or]
  generalize ftA r L l k = f at *
  refine ⟨fun cq => ?_, fun cq => ⟨fun cf => ?_, fun cf => ⟨by omega, ?_⟩⟩⟩
  · rw [cI_neg cq] at hQ
    refine mmC_step ?_
    simp only [cd_110, sg_110_0, sg_110_16, sg_110_18, sg_110_35, sg_110_36, sg_110_37, sg_110_41, sg_110_42, mmK_cut cd_110, q_cons, q_G0, q_GS, q_I1, q_L1, q_A1, q_S0, q_S1, q_SS, q_T0, q_T1, q_TS, q_Kn, q_Ki, q_Kl, q_Kr, q_k0, q_kS, q_rc, q_ps, q_pn, q_aload0, q_getfieldA, q_iload1, q_if_eq, q_iload2, q_if_lt, q_icmp_ge, q_iload3, q_if_ne, q_iconst, q_ireturn0, q_istore, q_icmp_ne, q_iload, q_if_ge, q_ineg, q_goto, q_bipush, rf_10_4, mmKo_10, mmKo_3, mmKo_5, mmR32, mmR64, Option.some.injEq, Int.cast_ofNat_Int, and_true, true_and, if_true, if_false, List.length_cons, List.length_nil, Nat.le_refl, Nat.zero_le, Nat.sub_zero, forall_const, reduceCtorEq, Nat.reduceAdd, Nat.reduceSub, Nat.reduceLeDiff, Nat.reduceEqDiff, Int.reduceAdd, Int.reduceNeg, Int.reduceSub, Int.reduceLT, Int.reduceLE, Int.reduceMul, Int.reduceEq, List.drop_zero, List.drop_succ_cons, ne_eq, not_false_eq_true, not_true_eq_false, false_and, and_false, false_implies, true_implies, reduceIte, mmU_rd, implies_true, or_false, false_or, or_true, true_or]
    refine ⟨fun cf => ?_, fun cf => ?_⟩
    · rw [cI_neg (by omega)] at hQ
      refine mmC_step ?_
      simp only [cd_110, sg_110_0, sg_110_16, sg_110_18, sg_110_35, sg_110_36, sg_110_37, sg_110_41, sg_110_42, mmK_cut cd_110, q_cons, q_G0, q_GS, q_I1, q_L1, q_A1, q_S0, q_S1, q_SS, q_T0, q_T1, q_TS, q_Kn, q_Ki, q_Kl, q_Kr, q_k0, q_kS, q_rc, q_ps, q_pn, q_aload0, q_getfieldA, q_iload1, q_if_eq, q_iload2, q_if_lt, q_icmp_ge, q_iload3, q_if_ne, q_iconst, q_ireturn0, q_istore, q_icmp_ne, q_iload, q_if_ge, q_ineg, q_goto, q_bipush, rf_10_4, mmKo_10, mmKo_3, mmKo_5, mmR32, mmR64, Option.some.injEq, Int.cast_ofNat_Int, and_true, true_and, if_true, if_false, List.length_cons, List.length_nil, Nat.le_refl, Nat.zero_le, Nat.sub_zero, forall_const, reduceCtorEq, Nat.reduceAdd, Nat.reduceSub, Nat.reduceLeDiff, Nat.reduceEqDiff, Int.reduceAdd, Int.reduceNeg, Int.reduceSub, Int.reduceLT, Int.reduceLE, Int.reduceMul, Int.reduceEq, List.drop_zero, List.drop_succ_cons, ne_eq, not_false_eq_true, not_true_eq_false, false_and, and_false, false_implies, true_implies, reduceIte, mmU_rd, implies_true, or_false, false_or, or_true, true_or]
      refine mmC_step ?_
      simp only [cd_110, sg_110_0, sg_110_16, sg_110_18, sg_110_35, sg_110_36, sg_110_37, sg_110_41, sg_110_42, mmK_cut cd_110, q_cons, q_G0, q_GS, q_I1, q_L1, q_A1, q_S0, q_S1, q_SS, q_T0, q_T1, q_TS, q_Kn, q_Ki, q_Kl, q_Kr, q_k0, q_kS, q_rc, q_ps, q_pn, q_aload0, q_getfieldA, q_iload1, q_if_eq, q_iload2, q_if_lt, q_icmp_ge, q_iload3, q_if_ne, q_iconst, q_ireturn0, q_istore, q_icmp_ne, q_iload, q_if_ge, q_ineg, q_goto, q_bipush, rf_10_4, mmKo_10, mmKo_3, mmKo_5, mmR32, mmR64, Option.some.injEq, Int.cast_ofNat_Int, and_true, true_and, if_true, if_false, List.length_cons, List.length_nil, Nat.le_refl, Nat.zero_le, Nat.sub_zero, forall_const, reduceCtorEq, Nat.reduceAdd, Nat.reduceSub, Nat.reduceLeDiff, Nat.reduceEqDiff, Int.reduceAdd, Int.reduceNeg, Int.reduceSub, Int.reduceLT, Int.reduceLE, Int.reduceMul, Int.reduceEq, List.drop_zero, List.drop_succ_cons, ne_eq, not_false_eq_true, not_true_eq_false, false_and, and_false, false_implies, true_implies, reduceIte, mmU_rd, implies_true, or_false, false_or, or_true, true_or]
      exact hQ I1 b1 f1 h1
    · rw [cI_pos cf] at hQ
      refine mmC_step ?_
      simp only [cd_110, sg_110_0, sg_110_16, sg_110_18, sg_110_35, sg_110_36, sg_110_37, sg_110_41, sg_110_42, mmK_cut cd_110, q_cons, q_G0, q_GS, q_I1, q_L1, q_A1, q_S0, q_S1, q_SS, q_T0, q_T1, q_TS, q_Kn, q_Ki, q_Kl, q_Kr, q_k0, q_kS, q_rc, q_ps, q_pn, q_aload0, q_getfieldA, q_iload1, q_if_eq, q_iload2, q_if_lt, q_icmp_ge, q_iload3, q_if_ne, q_iconst, q_ireturn0, q_istore, q_icmp_ne, q_iload, q_if_ge, q_ineg, q_goto, q_bipush, rf_10_4, mmKo_10, mmKo_3, mmKo_5, mmR32, mmR64, Option.some.injEq, Int.cast_ofNat_Int, and_true, true_and, if_true, if_false, List.length_cons, List.length_nil, Nat.le_refl, Nat.zero_le, Nat.sub_zero, forall_const, reduceCtorEq, Nat.reduceAdd, Nat.reduceSub, Nat.reduceLeDiff, Nat.reduceEqDiff, Int.reduceAdd, Int.reduceNeg, Int.reduceSub, Int.reduceLT, Int.reduceLE, Int.reduceMul, Int.reduceEq, List.drop_zero, List.drop_succ_cons, ne_eq, not_false_eq_true, not_true_eq_false, false_and, and_false, false_implies, true_implies, reduceIte, mmU_rd, implies_true, or_false, false_or, or_true, true_or]
      exact hQ I1 b1 f1 h1
  · rw [cI_pos cq, cI_neg (by omega)] at hQ
    refine mmC_step ?_
    simp only [cd_110, sg_110_0, sg_110_16, sg_110_18, sg_110_35, sg_110_36, sg_110_37, sg_110_41, sg_110_42, mmK_cut cd_110, q_cons, q_G0, q_GS, q_I1, q_L1, q_A1, q_S0, q_S1, q_SS, q_T0, q_T1, q_TS, q_Kn, q_Ki, q_Kl, q_Kr, q_k0, q_kS, q_rc, q_ps, q_pn, q_aload0, q_getfieldA, q_iload1, q_if_eq, q_iload2, q_if_lt, q_icmp_ge, q_iload3, q_if_ne, q_iconst, q_ireturn0, q_istore, q_icmp_ne, q_iload, q_if_ge, q_ineg, q_goto, q_bipush, rf_10_4, mmKo_10, mmKo_3, mmKo_5, mmR32, mmR64, Option.some.injEq, Int.cast_ofNat_Int, and_true, true_and, if_true, if_false, List.length_cons, List.length_nil, Nat.le_refl, Nat.zero_le, Nat.sub_zero, forall_const, reduceCtorEq, Nat.reduceAdd, Nat.reduceSub, Nat.reduceLeDiff, Nat.reduceEqDiff, Int.reduceAdd, Int.reduceNeg, Int.reduceSub, Int.reduceLT, Int.reduceLE, Int.reduceMul, Int.reduceEq, List.drop_zero, List.drop_succ_cons, ne_eq, not_false_eq_true, not_true_eq_false, false_and, and_false, false_implies, true_implies, reduceIte, mmU_rd, implies_true, or_false, false_or, or_true, true_or]
    refine mmC_step ?_
    simp only [cd_110, sg_110_0, sg_110_16, sg_110_18, sg_110_35, sg_110_36, sg_110_37, sg_110_41, sg_110_42, mmK_cut cd_110, q_cons, q_G0, q_GS, q_I1, q_L1, q_A1, q_S0, q_S1, q_SS, q_T0, q_T1, q_TS, q_Kn, q_Ki, q_Kl, q_Kr, q_k0, q_kS, q_rc, q_ps, q_pn, q_aload0, q_getfieldA, q_iload1, q_if_eq, q_iload2, q_if_lt, q_icmp_ge, q_iload3, q_if_ne, q_iconst, q_ireturn0, q_istore, q_icmp_ne, q_iload, q_if_ge, q_ineg, q_goto, q_bipush, rf_10_4, mmKo_10, mmKo_3, mmKo_5, mmR32, mmR64, Option.some.injEq, Int.cast_ofNat_Int, and_true, true_and, if_true, if_false, List.length_cons, List.length_nil, Nat.le_refl, Nat.zero_le, Nat.sub_zero, forall_const, reduceCtorEq, Nat.reduceAdd, Nat.reduceSub, Nat.reduceLeDiff, Nat.reduceEqDiff, Int.reduceAdd, Int.reduceNeg, Int.reduceSub, Int.reduceLT, Int.reduceLE, Int.reduceMul, Int.reduceEq, List.drop_zero, List.drop_succ_cons, ne_eq, not_false_eq_true, not_true_eq_false, false_and, and_false, false_implies, true_implies, reduceIte, mmU_rd, implies_true, or_false, false_or, or_true, true_or]
    exact hQ I1 b1 f1 h1
  · rw [cI_pos cq, cI_pos cf] at hQ
    refine mmC_step ?_
    simp only [cd_110, sg_110_0, sg_110_16, sg_110_18, sg_110_35, sg_110_36, sg_110_37, sg_110_41, sg_110_42, mmK_cut cd_110, q_cons, q_G0, q_GS, q_I1, q_L1, q_A1, q_S0, q_S1, q_SS, q_T0, q_T1, q_TS, q_Kn, q_Ki, q_Kl, q_Kr, q_k0, q_kS, q_rc, q_ps, q_pn, q_aload0, q_getfieldA, q_iload1, q_if_eq, q_iload2, q_if_lt, q_icmp_ge, q_iload3, q_if_ne, q_iconst, q_ireturn0, q_istore, q_icmp_ne, q_iload, q_if_ge, q_ineg, q_goto, q_bipush, rf_10_4, mmKo_10, mmKo_3, mmKo_5, mmR32, mmR64, Option.some.injEq, Int.cast_ofNat_Int, and_true, true_and, if_true, if_false, List.length_cons, List.length_nil, Nat.le_refl, Nat.zero_le, Nat.sub_zero, forall_const, reduceCtorEq, Nat.reduceAdd, Nat.reduceSub, Nat.reduceLeDiff, Nat.reduceEqDiff, Int.reduceAdd, Int.reduceNeg, Int.reduceSub, Int.reduceLT, Int.reduceLE, Int.reduceMul, Int.reduceEq, List.drop_zero, List.drop_succ_cons, ne_eq, not_false_eq_true, not_true_eq_false, false_and, and_false, false_implies, true_implies, reduceIte, mmU_rd, implies_true, or_false, false_or, or_true, true_or]
    exact hQ I1 b1 f1 h1
end S854
