/-- the keys of the boards of a row -/
def KH (I : mMm) (j : Nat) (r : mRu) (H : Int → mBd) (m : Int) : Prop := ∀ i, 0 ≤ i → i ≤ m → I 611 j i = kyV (H i) 0 13 ∧ I 612 j i = kyV (H i) 13 12 ∧ BW r (H i)
theorem cmp_0 {x y : Int} : mmCmp x y = 0 ↔ x = y := by
  unfold mmCmp
  split
  · omega
  · split <;> omega
section S834
variable {d a j x : Nat} {I I' : mMm} {br : Nat → Option mmO} {X : mmX} {H : Int → mBd} {B : mBd} {m : Int} {r : mRu} {Q : Option mmV → mmM → Prop}
theorem c_timesSeen (hm : I 0 j 4 = m) (hm1 : 0 ≤ m ∧ m ≤ 60) (hK : KH I j r H m) (hQ : Q (some (mv (tsV H m (m / 2 + 1).toNat))) (I, mmRf a br, X)) : mmC (d + 1) 68 [mo 5 j] (I, mmRf a br, X) Q := by
  have key : ∀ (q p : Nat) (l3 : Option mmV), (p : Int) + q = m / 2 + 1 → mmK d 68 Q 6 [some (mo 5 j), some (mv (tsV H m p)), some (mv (m - 2 * p)), l3] [] (I, mmRf a br, X) := by
    intro q
    induction q with
    | zero =>
      intro p l3 hp
      have e : p = (m / 2 + 1).toNat := by omega
      rw [← e] at hQ
      refine mmC_step ?_
      simp only [cd_68, sg_68_0, sg_68_6, sg_68_34, sg_68_35, sg_68_41, sg_68_42, sg_68_46, mmK_cut cd_68, q_cons, q_G0, q_GS, q_I1, q_L1, q_A1, q_S0, q_S1, q_SS, q_T0, q_T1, q_TS, q_Kn, q_Ki, q_Kl, q_Kr, q_k0, q_kS, q_rc, q_ps, q_pn, q_iconst, q_istore1, q_aload0, q_getfieldA, q_getfieldI, q_istore2, q_iload2, q_if_lt, q_laload, q_lcmp, q_if_ne, q_goto, q_istore3, q_iload1, q_iload3, q_if_eq, q_iadd, q_iinc, q_ireturn0, rf_5_11, rf_5_12, rf_5_2, mmKe_611, mmKe_612, mmKo_0, mmKo_5, mmLen_611, mmLen_612, mmR32, mmR64, Option.some.injEq, Int.cast_ofNat_Int, and_true, true_and, if_true, if_false, List.length_cons, List.length_nil, Nat.le_refl, Nat.zero_le, Nat.sub_zero, forall_const, reduceCtorEq, Nat.reduceAdd, Nat.reduceSub, Nat.reduceLeDiff, Nat.reduceEqDiff, Int.reduceAdd, Int.reduceNeg, Int.reduceSub, Int.reduceLT, Int.reduceLE, Int.reduceMul, Int.reduceEq, List.drop_zero, List.drop_succ_cons, ne_eq, not_false_eq_true, not_true_eq_false, false_and, and_false, false_implies, true_implies, reduceIte, mmU_rd, implies_true, or_false, false_or, or_true, true_or]
      refine ⟨fun _ => ?_, fun c => by omega⟩
      refine mmC_step ?_
      simp only [cd_68, sg_68_0, sg_68_6, sg_68_34, sg_68_35, sg_68_41, sg_68_42, sg_68_46, mmK_cut cd_68, q_cons, q_G0, q_GS, q_I1, q_L1, q_A1, q_S0, q_S1, q_SS, q_T0, q_T1, q_TS, q_Kn, q_Ki, q_Kl, q_Kr, q_k0, q_kS, q_rc, q_ps, q_pn, q_iconst, q_istore1, q_aload0, q_getfieldA, q_getfieldI, q_istore2, q_iload2, q_if_lt, q_laload, q_lcmp, q_if_ne, q_goto, q_istore3, q_iload1, q_iload3, q_if_eq, q_iadd, q_iinc, q_ireturn0, rf_5_11, rf_5_12, rf_5_2, mmKe_611, mmKe_612, mmKo_0, mmKo_5, mmLen_611, mmLen_612, mmR32, mmR64, Option.some.injEq, Int.cast_ofNat_Int, and_true, true_and, if_true, if_false, List.length_cons, List.length_nil, Nat.le_refl, Nat.zero_le, Nat.sub_zero, forall_const, reduceCtorEq, Nat.reduceAdd, Nat.reduceSub, Nat.reduceLeDiff, Nat.reduceEqDiff, Int.reduceAdd, Int.reduceNeg, Int.reduceSub, Int.reduceLT, Int.reduceLE, Int.reduceMul, Int.reduceEq, List.drop_zero, List.drop_succ_cons, ne_eq, not_false_eq_true, not_true_eq_false, false_and, and_false, false_implies, true_implies, reduceIte, mmU_rd, implies_true, or_false, false_or, or_true, true_or]
      exact hQ
    | succ q ihq =>
      intro p l3 hp
      have ht := tsV_in (H := H) (m := m) p
      have e2 : tsV H m (p + 1) = tsV H m p + bI (sN (H (m - 2 * p)) (H m) 25) := rfl
      have hb := bI_01 (p := sN (H (m - 2 * p)) (H m) 25)
      obtain ⟨k1, k2, b1⟩ := hK (m - 2 * p) (by omega) (by omega)
      obtain ⟨k3, k4, b2⟩ := hK m (by omega) (by omega)
      have hs : (kyV (H (m - 2 * p)) 0 13 = kyV (H m) 0 13 ∧ kyV (H (m - 2 * p)) 13 12 = kyV (H m) 13 12) ↔ sN (H (m - 2 * p)) (H m) 25 := ⟨fun h z h0 h1 => (ky_same b1 b2).1 h z (by omega) (by omega), fun h => (ky_same b1 b2).2 (fun z h0 h1 => by have w := h z.toNat (by omega) (by omega); rw [show ((z.toNat : Nat) : Int) = z by omega] at w; exact w)⟩
      have w42 : ∀ z y, z = bI (sN (H (m - 2 * p)) (H m) 25) → mmK d 68 Q 42 [some (mo 5 j), some (mv (tsV H m p)), some (mv (m - 2 * p)), y] [mv z, mv (tsV H m p)] (I, mmRf a br, X) := by
        intro z y hz
        rw [hz]
        have k1 := ihq (p + 1) y (by omega)
        rw [e2, show m - 2 * ((p + 1 : Nat) : Int) = m - 2 * p + -2 by omega] at k1
        refine mmC_step ?_
        simp only [cd_68, sg_68_0, sg_68_6, sg_68_34, sg_68_35, sg_68_41, sg_68_42, sg_68_46, mmK_cut cd_68, q_cons, q_G0, q_GS, q_I1, q_L1, q_A1, q_S0, q_S1, q_SS, q_T0, q_T1, q_TS, q_Kn, q_Ki, q_Kl, q_Kr, q_k0, q_kS, q_rc, q_ps, q_pn, q_iconst, q_istore1, q_aload0, q_getfieldA, q_getfieldI, q_istore2, q_iload2, q_if_lt, q_laload, q_lcmp, q_if_ne, q_goto, q_istore3, q_iload1, q_iload3, q_if_eq, q_iadd, q_iinc, q_ireturn0, rf_5_11, rf_5_12, rf_5_2, mmKe_611, mmKe_612, mmKo_0, mmKo_5, mmLen_611, mmLen_612, mmR32, mmR64, Option.some.injEq, Int.cast_ofNat_Int, and_true, true_and, if_true, if_false, List.length_cons, List.length_nil, Nat.le_refl, Nat.zero_le, Nat.sub_zero, forall_const, reduceCtorEq, Nat.reduceAdd, Nat.reduceSub, Nat.reduceLeDiff, Nat.reduceEqDiff, Int.reduceAdd, Int.reduceNeg, Int.reduceSub, Int.reduceLT, Int.reduceLE, Int.reduceMul, Int.reduceEq, List.drop_zero, List.drop_succ_cons, ne_eq, not_false_eq_true, not_true_eq_false, false_and, and_false, false_implies, true_implies, reduceIte, mmU_rd, implies_true, or_false, false_or, or_true, true_or]
        exact ⟨by omega, by omega, k1⟩
      have w35 : ∀ z, z = bI (sN (H (m - 2 * p)) (H m) 25) → mmK d 68 Q 35 [some (mo 5 j), some (mv (tsV H m p)), some (mv (m - 2 * p)), l3] [mv z] (I, mmRf a br, X) := by
        intro z hz
        rw [hz]
        refine mmC_step ?_
        simp only [cd_68, sg_68_0, sg_68_6, sg_68_34, sg_68_35, sg_68_41, sg_68_42, sg_68_46, mmK_cut cd_68, q_cons, q_G0, q_GS, q_I1, q_L1, q_A1, q_S0, q_S1, q_SS, q_T0, q_T1, q_TS, q_Kn, q_Ki, q_Kl, q_Kr, q_k0, q_kS, q_rc, q_ps, q_pn, q_iconst, q_istore1, q_aload0, q_getfieldA, q_getfieldI, q_istore2, q_iload2, q_if_lt, q_laload, q_lcmp, q_if_ne, q_goto, q_istore3, q_iload1, q_iload3, q_if_eq, q_iadd, q_iinc, q_ireturn0, rf_5_11, rf_5_12, rf_5_2, mmKe_611, mmKe_612, mmKo_0, mmKo_5, mmLen_611, mmLen_612, mmR32, mmR64, Option.some.injEq, Int.cast_ofNat_Int, and_true, true_and, if_true, if_false, List.length_cons, List.length_nil, Nat.le_refl, Nat.zero_le, Nat.sub_zero, forall_const, reduceCtorEq, Nat.reduceAdd, Nat.reduceSub, Nat.reduceLeDiff, Nat.reduceEqDiff, Int.reduceAdd, Int.reduceNeg, Int.reduceSub, Int.reduceLT, Int.reduceLE, Int.reduceMul, Int.reduceEq, List.drop_zero, List.drop_succ_cons, ne_eq, not_false_eq_true, not_true_eq_false, false_and, and_false, false_implies, true_implies, reduceIte, mmU_rd, implies_true, or_false, false_or, or_true, true_or, bI_eq0, Classical.not_not]
        refine ⟨fun c => ?_, fun c => ?_⟩
        · refine mmC_step ?_
          simp only [cd_68, sg_68_0, sg_68_6, sg_68_34, sg_68_35, sg_68_41, sg_68_42, sg_68_46, mmK_cut cd_68, q_cons, q_G0, q_GS, q_I1, q_L1, q_A1, q_S0, q_S1, q_SS, q_T0, q_T1, q_TS, q_Kn, q_Ki, q_Kl, q_Kr, q_k0, q_kS, q_rc, q_ps, q_pn, q_iconst, q_istore1, q_aload0, q_getfieldA, q_getfieldI, q_istore2, q_iload2, q_if_lt, q_laload, q_lcmp, q_if_ne, q_goto, q_istore3, q_iload1, q_iload3, q_if_eq, q_iadd, q_iinc, q_ireturn0, rf_5_11, rf_5_12, rf_5_2, mmKe_611, mmKe_612, mmKo_0, mmKo_5, mmLen_611, mmLen_612, mmR32, mmR64, Option.some.injEq, Int.cast_ofNat_Int, and_true, true_and, if_true, if_false, List.length_cons, List.length_nil, Nat.le_refl, Nat.zero_le, Nat.sub_zero, forall_const, reduceCtorEq, Nat.reduceAdd, Nat.reduceSub, Nat.reduceLeDiff, Nat.reduceEqDiff, Int.reduceAdd, Int.reduceNeg, Int.reduceSub, Int.reduceLT, Int.reduceLE, Int.reduceMul, Int.reduceEq, List.drop_zero, List.drop_succ_cons, ne_eq, not_false_eq_true, not_true_eq_false, false_and, and_false, false_implies, true_implies, reduceIte, mmU_rd, implies_true, or_false, false_or, or_true, true_or]
          exact w42 0 _ (bI_neg c).symm
        · exact w42 1 _ (bI_pos c).symm
      have w34 : ¬ sN (H (m - 2 * p)) (H m) 25 → mmK d 68 Q 34 [some (mo 5 j), some (mv (tsV H m p)), some (mv (m - 2 * p)), l3] [] (I, mmRf a br, X) := by
        intro c
        have w := w35 0 (bI_neg c).symm
        refine mmC_step ?_
        simp only [cd_68, sg_68_0, sg_68_6, sg_68_34, sg_68_35, sg_68_41, sg_68_42, sg_68_46, mmK_cut cd_68, q_cons, q_G0, q_GS, q_I1, q_L1, q_A1, q_S0, q_S1, q_SS, q_T0, q_T1, q_TS, q_Kn, q_Ki, q_Kl, q_Kr, q_k0, q_kS, q_rc, q_ps, q_pn, q_iconst, q_istore1, q_aload0, q_getfieldA, q_getfieldI, q_istore2, q_iload2, q_if_lt, q_laload, q_lcmp, q_if_ne, q_goto, q_istore3, q_iload1, q_iload3, q_if_eq, q_iadd, q_iinc, q_ireturn0, rf_5_11, rf_5_12, rf_5_2, mmKe_611, mmKe_612, mmKo_0, mmKo_5, mmLen_611, mmLen_612, mmR32, mmR64, Option.some.injEq, Int.cast_ofNat_Int, and_true, true_and, if_true, if_false, List.length_cons, List.length_nil, Nat.le_refl, Nat.zero_le, Nat.sub_zero, forall_const, reduceCtorEq, Nat.reduceAdd, Nat.reduceSub, Nat.reduceLeDiff, Nat.reduceEqDiff, Int.reduceAdd, Int.reduceNeg, Int.reduceSub, Int.reduceLT, Int.reduceLE, Int.reduceMul, Int.reduceEq, List.drop_zero, List.drop_succ_cons, ne_eq, not_false_eq_true, not_true_eq_false, false_and, and_false, false_implies, true_implies, reduceIte, mmU_rd, implies_true, or_false, false_or, or_true, true_or]
        exact w
      refine mmC_step ?_
      simp only [cd_68, sg_68_0, sg_68_6, sg_68_34, sg_68_35, sg_68_41, sg_68_42, sg_68_46, mmK_cut cd_68, q_cons, q_G0, q_GS, q_I1, q_L1, q_A1, q_S0, q_S1, q_SS, q_T0, q_T1, q_TS, q_Kn, q_Ki, q_Kl, q_Kr, q_k0, q_kS, q_rc, q_ps, q_pn, q_iconst, q_istore1, q_aload0, q_getfieldA, q_getfieldI, q_istore2, q_iload2, q_if_lt, q_laload, q_lcmp, q_if_ne, q_goto, q_istore3, q_iload1, q_iload3, q_if_eq, q_iadd, q_iinc, q_ireturn0, rf_5_11, rf_5_12, rf_5_2, mmKe_611, mmKe_612, mmKo_0, mmKo_5, mmLen_611, mmLen_612, mmR32, mmR64, Option.some.injEq, Int.cast_ofNat_Int, and_true, true_and, if_true, if_false, List.length_cons, List.length_nil, Nat.le_refl, Nat.zero_le, Nat.sub_zero, forall_const, reduceCtorEq, Nat.reduceAdd, Nat.reduceSub, Nat.reduceLeDiff, Nat.reduceEqDiff, Int.reduceAdd, Int.reduceNeg, Int.reduceSub, Int.reduceLT, Int.reduceLE, Int.reduceMul, Int.reduceEq, List.drop_zero, List.drop_succ_cons, ne_eq, not_false_eq_true, not_true_eq_false, false_and, and_false, false_implies, true_implies, reduceIte, mmU_rd, implies_true, or_false, false_or, or_true, true_or, cmp_0]
      rw [hm, k1, k2, k3, k4]
      exact ⟨fun c => by omega, fun _ => ⟨by omega, by omega, by omega, by omega, fun c => w34 (fun q => c (hs.2 q).1), fun c => ⟨by omega, by omega, by omega, by omega, fun c2 => w34 (fun q => c2 (hs.2 q).2), fun c2 => w35 1 (bI_pos (hs.1 ⟨c, c2⟩)).symm⟩⟩⟩
  refine mmC_in (by decide) (Nat.le_of_ble_eq_true rfl) (mmC_step ?_)
  simp only [show mmMl 68 = 4 from rfl, mmLs, List.replicate, cd_68, sg_68_0, sg_68_6, sg_68_34, sg_68_35, sg_68_41, sg_68_42, sg_68_46, mmK_cut cd_68, q_cons, q_G0, q_GS, q_I1, q_L1, q_A1, q_S0, q_S1, q_SS, q_T0, q_T1, q_TS, q_Kn, q_Ki, q_Kl, q_Kr, q_k0, q_kS, q_rc, q_ps, q_pn, q_iconst, q_istore1, q_aload0, q_getfieldA, q_getfieldI, q_istore2, q_iload2, q_if_lt, q_laload, q_lcmp, q_if_ne, q_goto, q_istore3, q_iload1, q_iload3, q_if_eq, q_iadd, q_iinc, q_ireturn0, rf_5_11, rf_5_12, rf_5_2, mmKe_611, mmKe_612, mmKo_0, mmKo_5, mmLen_611, mmLen_612, mmR32, mmR64, Option.some.injEq, Int.cast_ofNat_Int, and_true, true_and, if_true, if_false, List.length_cons, List.length_nil, Nat.le_refl, Nat.zero_le, Nat.sub_zero, forall_const, reduceCtorEq, Nat.reduceAdd, Nat.reduceSub, Nat.reduceLeDiff, Nat.reduceEqDiff, Int.reduceAdd, Int.reduceNeg, Int.reduceSub, Int.reduceLT, Int.reduceLE, Int.reduceMul, Int.reduceEq, List.drop_zero, List.drop_succ_cons, ne_eq, not_false_eq_true, not_true_eq_false, false_and, and_false, false_implies, true_implies, reduceIte, mmU_rd, implies_true, or_false, false_or, or_true, true_or]
  rw [hm]
  have k0 := key (m / 2 + 1).toNat 0 none (by omega)
  rw [show m - 2 * ((0 : Nat) : Int) = m by omega] at k0
  exact k0
theorem c_endNow (hb : br j = some (6, x)) (hC : CR I x r) (hq : RQ r) (hV : BV I j (H m) m r) (hB : BW r (H m)) (hm1 : 0 ≤ m ∧ m ≤ 60) (hK : KH I j r H m) : mmC (d + 5) 67 [mo 5 j] (I, mmRf a br, X) (mT a br X fun v I' => v = some (mv (enV r H m)) ∧ FrA j 106 j I I') := by
  refine mmC_in (by decide) (Nat.le_of_ble_eq_true rfl) (mmC_step ?_)
  simp only [show mmMl 67 = 1 from rfl, mmLs, List.replicate, cd_67, sg_67_0, sg_67_10, sg_67_19, sg_67_21, sg_67_22, mmK_cut cd_67, q_cons, q_G0, q_GS, q_I1, q_L1, q_A1, q_S0, q_S1, q_SS, q_T0, q_T1, q_TS, q_Kn, q_Ki, q_Kl, q_Kr, q_k0, q_kS, q_rc, q_ps, q_pn, q_aload0, q_getfieldA, q_if_eq, q_iconst, q_isub, q_ireturn0, q_getfieldI, q_bipush, q_icmp_ge, q_icmp_lt, q_goto, rf_5_2, mmKo_0, mmKo_5, mmR32, mmR64, Option.some.injEq, Int.cast_ofNat_Int, and_true, true_and, if_true, if_false, List.length_cons, List.length_nil, Nat.le_refl, Nat.zero_le, Nat.sub_zero, forall_const, reduceCtorEq, Nat.reduceAdd, Nat.reduceSub, Nat.reduceLeDiff, Nat.reduceEqDiff, Int.reduceAdd, Int.reduceNeg, Int.reduceSub, Int.reduceLT, Int.reduceLE, Int.reduceMul, Int.reduceEq, List.drop_zero, List.drop_succ_cons, ne_eq, not_false_eq_true, not_true_eq_false, false_and, and_false, false_implies, true_implies, reduceIte, mmU_rd, implies_true, or_false, false_or, or_true, true_or]
  rw [q_invV (pay := [])]
  simp only [q_k0, q_kS, q_rc, mmKo_0]
  refine ⟨Nat.le_of_ble_eq_true rfl, by trivial, Nat.zero_le _, Nat.zero_le _, ?_⟩
  refine mT_use (c_hasLost hb hC hq hV hB (by omega)) (fun v I1 q => ?_)
  obtain ⟨rfl, f1⟩ := q
  have hV1 : BV I1 j (H m) m r := BV_A (Or.inl rfl) hV f1
  have hK1 : KH I1 j r H m := fun i h0 h1 => ⟨(f1 _ _ _ (by omega) (by decide) (by omega)).trans (hK i h0 h1).1, (f1 _ _ _ (by omega) (by decide) (by omega)).trans (hK i h0 h1).2.1, (hK i h0 h1).2.2⟩
  have hm' : I1 0 j 4 = m := hV1.2.1
  have w22 : ∀ z, z = enV r H m → mmK (d + 4) 67 (mT a br X fun v I' => v = some (mv (enV r H m)) ∧ FrA j 106 j I I') 22 [some (mo 5 j)] [mv z] (I1, mmRf a br, X) := by
    intro z hz
    rw [hz]
    refine mmC_step ?_
    simp only [cd_67, sg_67_0, sg_67_10, sg_67_19, sg_67_21, sg_67_22, mmK_cut cd_67, q_cons, q_G0, q_GS, q_I1, q_L1, q_A1, q_S0, q_S1, q_SS, q_T0, q_T1, q_TS, q_Kn, q_Ki, q_Kl, q_Kr, q_k0, q_kS, q_rc, q_ps, q_pn, q_aload0, q_getfieldA, q_if_eq, q_iconst, q_isub, q_ireturn0, q_getfieldI, q_bipush, q_icmp_ge, q_icmp_lt, q_goto, rf_5_2, mmKo_0, mmKo_5, mmR32, mmR64, Option.some.injEq, Int.cast_ofNat_Int, and_true, true_and, if_true, if_false, List.length_cons, List.length_nil, Nat.le_refl, Nat.zero_le, Nat.sub_zero, forall_const, reduceCtorEq, Nat.reduceAdd, Nat.reduceSub, Nat.reduceLeDiff, Nat.reduceEqDiff, Int.reduceAdd, Int.reduceNeg, Int.reduceSub, Int.reduceLT, Int.reduceLE, Int.reduceMul, Int.reduceEq, List.drop_zero, List.drop_succ_cons, ne_eq, not_false_eq_true, not_true_eq_false, false_and, and_false, false_implies, true_implies, reduceIte, mmU_rd, implies_true, or_false, false_or, or_true, true_or]
    exact mT_in ⟨rfl, f1⟩
  simp only [mmK_cut cd_67, q_cons, q_G0, q_GS, q_I1, q_L1, q_A1, q_S0, q_S1, q_SS, q_T0, q_T1, q_TS, q_Kn, q_Ki, q_Kl, q_Kr, q_k0, q_kS, q_rc, q_ps, q_pn, q_aload0, q_getfieldA, q_if_eq, q_iconst, q_isub, q_ireturn0, q_getfieldI, q_bipush, q_icmp_ge, q_icmp_lt, q_goto, rf_5_2, mmKo_0, mmKo_5, mmR32, mmR64, Option.some.injEq, Int.cast_ofNat_Int, and_true, true_and, if_true, if_false, List.length_cons, List.length_nil, Nat.le_refl, Nat.zero_le, Nat.sub_zero, forall_const, reduceCtorEq, Nat.reduceAdd, Nat.reduceSub, Nat.reduceLeDiff, Nat.reduceEqDiff, Int.reduceAdd, Int.reduceNeg, Int.reduceSub, Int.reduceLT, Int.reduceLE, Int.reduceMul, Int.reduceEq, List.drop_zero, List.drop_succ_cons, ne_eq, not_false_eq_true, not_true_eq_false, false_and, and_false, false_implies, true_implies, reduceIte, mmU_rd, implies_true, or_false, false_or, or_true, true_or, bI_eq0, Classical.not_not]
  refine ⟨fun c => ?_, fun c => ?_⟩
  · have w19 : (m = 60 ∨ 2 < tsV H m (m / 2 + 1).toNat) → mmK (d + 4) 67 (mT a br X fun v I' => v = some (mv (enV r H m)) ∧ FrA j 106 j I I') 19 [some (mo 5 j)] [] (I1, mmRf a br, X) := by
      intro c1
      have w := w22 3 ((cI_neg c).trans (cI_pos c1)).symm
      refine mmC_step ?_
      simp only [cd_67, sg_67_0, sg_67_10, sg_67_19, sg_67_21, sg_67_22, mmK_cut cd_67, q_cons, q_G0, q_GS, q_I1, q_L1, q_A1, q_S0, q_S1, q_SS, q_T0, q_T1, q_TS, q_Kn, q_Ki, q_Kl, q_Kr, q_k0, q_kS, q_rc, q_ps, q_pn, q_aload0, q_getfieldA, q_if_eq, q_iconst, q_isub, q_ireturn0, q_getfieldI, q_bipush, q_icmp_ge, q_icmp_lt, q_goto, rf_5_2, mmKo_0, mmKo_5, mmR32, mmR64, Option.some.injEq, Int.cast_ofNat_Int, and_true, true_and, if_true, if_false, List.length_cons, List.length_nil, Nat.le_refl, Nat.zero_le, Nat.sub_zero, forall_const, reduceCtorEq, Nat.reduceAdd, Nat.reduceSub, Nat.reduceLeDiff, Nat.reduceEqDiff, Int.reduceAdd, Int.reduceNeg, Int.reduceSub, Int.reduceLT, Int.reduceLE, Int.reduceMul, Int.reduceEq, List.drop_zero, List.drop_succ_cons, ne_eq, not_false_eq_true, not_true_eq_false, false_and, and_false, false_implies, true_implies, reduceIte, mmU_rd, implies_true, or_false, false_or, or_true, true_or]
      exact w
    refine mmC_step ?_
    simp only [cd_67, sg_67_0, sg_67_10, sg_67_19, sg_67_21, sg_67_22, mmK_cut cd_67, q_cons, q_G0, q_GS, q_I1, q_L1, q_A1, q_S0, q_S1, q_SS, q_T0, q_T1, q_TS, q_Kn, q_Ki, q_Kl, q_Kr, q_k0, q_kS, q_rc, q_ps, q_pn, q_aload0, q_getfieldA, q_if_eq, q_iconst, q_isub, q_ireturn0, q_getfieldI, q_bipush, q_icmp_ge, q_icmp_lt, q_goto, rf_5_2, mmKo_0, mmKo_5, mmR32, mmR64, Option.some.injEq, Int.cast_ofNat_Int, and_true, true_and, if_true, if_false, List.length_cons, List.length_nil, Nat.le_refl, Nat.zero_le, Nat.sub_zero, forall_const, reduceCtorEq, Nat.reduceAdd, Nat.reduceSub, Nat.reduceLeDiff, Nat.reduceEqDiff, Int.reduceAdd, Int.reduceNeg, Int.reduceSub, Int.reduceLT, Int.reduceLE, Int.reduceMul, Int.reduceEq, List.drop_zero, List.drop_succ_cons, ne_eq, not_false_eq_true, not_true_eq_false, false_and, and_false, false_implies, true_implies, reduceIte, mmU_rd, implies_true, or_false, false_or, or_true, true_or]
    rw [hm']
    refine ⟨fun c1 => w19 (Or.inl (by omega)), fun c1 => ?_⟩
    rw [q_invV (pay := [])]
    simp only [q_k0, q_kS, q_rc, mmKo_5]
    refine ⟨Nat.le_of_ble_eq_true rfl, by trivial, Nat.zero_le _, Nat.zero_le _, ?_⟩
    refine c_timesSeen hm' hm1 hK1 ?_
    simp only [mmK_cut cd_67, q_cons, q_G0, q_GS, q_I1, q_L1, q_A1, q_S0, q_S1, q_SS, q_T0, q_T1, q_TS, q_Kn, q_Ki, q_Kl, q_Kr, q_k0, q_kS, q_rc, q_ps, q_pn, q_aload0, q_getfieldA, q_if_eq, q_iconst, q_isub, q_ireturn0, q_getfieldI, q_bipush, q_icmp_ge, q_icmp_lt, q_goto, rf_5_2, mmKo_0, mmKo_5, mmR32, mmR64, Option.some.injEq, Int.cast_ofNat_Int, and_true, true_and, if_true, if_false, List.length_cons, List.length_nil, Nat.le_refl, Nat.zero_le, Nat.sub_zero, forall_const, reduceCtorEq, Nat.reduceAdd, Nat.reduceSub, Nat.reduceLeDiff, Nat.reduceEqDiff, Int.reduceAdd, Int.reduceNeg, Int.reduceSub, Int.reduceLT, Int.reduceLE, Int.reduceMul, Int.reduceEq, List.drop_zero, List.drop_succ_cons, ne_eq, not_false_eq_true, not_true_eq_false, false_and, and_false, false_implies, true_implies, reduceIte, mmU_rd, implies_true, or_false, false_or, or_true, true_or]
    refine ⟨fun c2 => ?_, fun c2 => w19 (Or.inr (by omega))⟩
    have w := w22 0 ((cI_neg c).trans (cI_neg (by omega))).symm
    refine mmC_step ?_
    simp only [cd_67, sg_67_0, sg_67_10, sg_67_19, sg_67_21, sg_67_22, mmK_cut cd_67, q_cons, q_G0, q_GS, q_I1, q_L1, q_A1, q_S0, q_S1, q_SS, q_T0, q_T1, q_TS, q_Kn, q_Ki, q_Kl, q_Kr, q_k0, q_kS, q_rc, q_ps, q_pn, q_aload0, q_getfieldA, q_if_eq, q_iconst, q_isub, q_ireturn0, q_getfieldI, q_bipush, q_icmp_ge, q_icmp_lt, q_goto, rf_5_2, mmKo_0, mmKo_5, mmR32, mmR64, Option.some.injEq, Int.cast_ofNat_Int, and_true, true_and, if_true, if_false, List.length_cons, List.length_nil, Nat.le_refl, Nat.zero_le, Nat.sub_zero, forall_const, reduceCtorEq, Nat.reduceAdd, Nat.reduceSub, Nat.reduceLeDiff, Nat.reduceEqDiff, Int.reduceAdd, Int.reduceNeg, Int.reduceSub, Int.reduceLT, Int.reduceLE, Int.reduceMul, Int.reduceEq, List.drop_zero, List.drop_succ_cons, ne_eq, not_false_eq_true, not_true_eq_false, false_and, and_false, false_implies, true_implies, reduceIte, mmU_rd, implies_true, or_false, false_or, or_true, true_or]
    exact w
  · rw [q_invV (pay := [])]
    simp only [q_k0, q_kS, q_rc, mmKo_0]
    refine ⟨Nat.le_of_ble_eq_true rfl, by trivial, Nat.zero_le _, Nat.zero_le _, ?_⟩
    refine sp_toMove hV1 ?_
    simp only [mmK_cut cd_67, q_cons, q_G0, q_GS, q_I1, q_L1, q_A1, q_S0, q_S1, q_SS, q_T0, q_T1, q_TS, q_Kn, q_Ki, q_Kl, q_Kr, q_k0, q_kS, q_rc, q_ps, q_pn, q_aload0, q_getfieldA, q_if_eq, q_iconst, q_isub, q_ireturn0, q_getfieldI, q_bipush, q_icmp_ge, q_icmp_lt, q_goto, rf_5_2, mmKo_0, mmKo_5, mmR32, mmR64, Option.some.injEq, Int.cast_ofNat_Int, and_true, true_and, if_true, if_false, List.length_cons, List.length_nil, Nat.le_refl, Nat.zero_le, Nat.sub_zero, forall_const, reduceCtorEq, Nat.reduceAdd, Nat.reduceSub, Nat.reduceLeDiff, Nat.reduceEqDiff, Int.reduceAdd, Int.reduceNeg, Int.reduceSub, Int.reduceLT, Int.reduceLE, Int.reduceMul, Int.reduceEq, List.drop_zero, List.drop_succ_cons, ne_eq, not_false_eq_true, not_true_eq_false, false_and, and_false, false_implies, true_implies, reduceIte, mmU_rd, implies_true, or_false, false_or, or_true, true_or]
    exact ⟨by omega, mT_in ⟨by rw [show enV r H m = 2 - m % 2 from cI_pos c], f1⟩⟩
end S834
