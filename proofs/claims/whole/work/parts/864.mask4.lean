section S864
variable {d a : Nat} {I I1 I' I'' : mMm} {br br' : Nat → Option mmO} {R : Nat → Nat → Int → Option mmO} {X : mmX} {L : Nat → Int → Int} {r : mRu} {w k v p n q : Int} {Q : Option mmV → mmM → Prop}
/-- an open move is well -/
theorem open_ok (hq : RQ r) {B : mBd} {m : Int} (hB : BW r B) {k : Nat} (hk : k < (mvs r B m).length) : MvOk r B m ((mvs r B m).getD k 0) ((mvs r B m).getD k 0 / 64) ((mvs r B m).getD k 0 % 64) ∧ (0 ≤ (mvs r B m).getD k 0 / 64 ∧ (mvs r B m).getD k 0 / 64 < 25) ∧ (0 ≤ (mvs r B m).getD k 0 % 64 ∧ (mvs r B m).getD k 0 % 64 < 25) := by
  have hmem := getD_mem (L := mvs r B m) (k := k) hk
  have h25 := (pt_in hq.1.1 hq.1.2.1 (x := 0) (y := 0) (by have := hq.1.1; omega) (by have := hq.1.2.1; omega)).2.2.1
  have h0 : 0 ≤ (mvs r B m).getD k 0 := by
    rcases mvL_0 hq.1.1 hq.1.2.1 hmem with q | q
    · exact q.1
    · omega
  have hok := mv_ok hq hB h0 (mvL_lf hq.1.1 hq.1.2.1 25 hmem)
  refine ⟨hok, ⟨hok.2.1.1, ?_⟩, ⟨hok.2.2.1.1, ?_⟩⟩
  · have := hok.2.1.2; omega
  · have := hok.2.2.1.2; omega
theorem m_reply (hI : MI I r L) (hQ : bQ I a br X Q (mv (a_reply r L w p n k))) : mmC (d + 12) 243 [mo 11 0, mv w, mv p, mv n, mv k] (I, mmRf a br, X) Q := by
  have hI2 := MI_N hI (FrNq_2 (v := 0))
  unfold a_reply at hQ
  refine mmC_in (by decide) (Nat.le_of_ble_eq_true rfl) (mmC_step ?_)
  simp only [show mmMl 243 = 6 from rfl, mmLs, List.replicate, cd_243, sg_243_0, sg_243_10, sg_243_21, sg_243_22, sg_243_33, sg_243_38, sg_243_39, sg_243_41, sg_243_49, mmK_cut cd_243, q_cons, q_G0, q_GS, q_I1, q_L1, q_A1, q_S0, q_S1, q_SS, q_T0, q_T1, q_TS, q_Kn, q_Ki, q_Kl, q_Kr, q_k0, q_kS, q_rc, q_ps, q_pn, q_aload0, q_iconst, q_putfieldI, q_iload1, q_iload2, q_iload3, q_if_ne, q_ireturn0, q_getfieldI, q_irem, q_icmp_ne, q_goto, q_istore, q_iload, q_if_lt, q_if_eq, q_getfieldA, q_iaload, q_icmp_lt, q_sipush, q_imul, q_iadd, rf_11_61, rf_11_62, mmKe_1261, mmKe_1262, mmKo_11, mmLen_1261, mmLen_1262, mmR32, mmR64, Option.some.injEq, Int.cast_ofNat_Int, and_true, true_and, if_true, if_false, List.length_cons, List.length_nil, Nat.le_refl, Nat.zero_le, Nat.sub_zero, forall_const, reduceCtorEq, Nat.reduceAdd, Nat.reduceSub, Nat.reduceLeDiff, Nat.reduceEqDiff, Int.reduceAdd, Int.reduceNeg, Int.reduceSub, Int.reduceLT, Int.reduceLE, Int.reduceMul, Int.reduceEq, List.drop_zero, List.drop_succ_cons, ne_eq, not_false_eq_true, not_true_eq_false, false_and, and_false, false_implies, true_implies, reduceIte, mmU_rd, implies_true, or_false, false_or, or_true, true_or]
  rw [q_invS (pay := [])]
  simp only [q_k0, q_kS]
  refine ⟨Nat.le_of_ble_eq_true rfl, Nat.zero_le _, Nat.zero_le _, ?_⟩
  refine m_isAsked ?_
  simp only [mmK_cut cd_243, q_cons, q_G0, q_GS, q_I1, q_L1, q_A1, q_S0, q_S1, q_SS, q_T0, q_T1, q_TS, q_Kn, q_Ki, q_Kl, q_Kr, q_k0, q_kS, q_rc, q_ps, q_pn, q_aload0, q_iconst, q_putfieldI, q_iload1, q_iload2, q_iload3, q_if_ne, q_ireturn0, q_getfieldI, q_irem, q_icmp_ne, q_goto, q_istore, q_iload, q_if_lt, q_if_eq, q_getfieldA, q_iaload, q_icmp_lt, q_sipush, q_imul, q_iadd, rf_11_61, rf_11_62, mmKe_1261, mmKe_1262, mmKo_11, mmLen_1261, mmLen_1262, mmR32, mmR64, Option.some.injEq, Int.cast_ofNat_Int, and_true, true_and, if_true, if_false, List.length_cons, List.length_nil, Nat.le_refl, Nat.zero_le, Nat.sub_zero, forall_const, reduceCtorEq, Nat.reduceAdd, Nat.reduceSub, Nat.reduceLeDiff, Nat.reduceEqDiff, Int.reduceAdd, Int.reduceNeg, Int.reduceSub, Int.reduceLT, Int.reduceLE, Int.reduceMul, Int.reduceEq, List.drop_zero, List.drop_succ_cons, ne_eq, not_false_eq_true, not_true_eq_false, false_and, and_false, false_implies, true_implies, reduceIte, mmU_rd, implies_true, or_false, false_or, or_true, true_or, bI_eq0]
  refine ⟨fun c => ?_, fun c => ?_⟩
  · have c := Classical.not_not.mp c
    obtain ⟨n, rfl⟩ := Int.eq_ofNat_of_zero_le c.2.2.1
    rw [Int.toNat_natCast] at hQ
    refine mmC_step ?_
    simp only [cd_243, sg_243_0, sg_243_10, sg_243_21, sg_243_22, sg_243_33, sg_243_38, sg_243_39, sg_243_41, sg_243_49, mmK_cut cd_243, q_cons, q_G0, q_GS, q_I1, q_L1, q_A1, q_S0, q_S1, q_SS, q_T0, q_T1, q_TS, q_Kn, q_Ki, q_Kl, q_Kr, q_k0, q_kS, q_rc, q_ps, q_pn, q_aload0, q_iconst, q_putfieldI, q_iload1, q_iload2, q_iload3, q_if_ne, q_ireturn0, q_getfieldI, q_irem, q_icmp_ne, q_goto, q_istore, q_iload, q_if_lt, q_if_eq, q_getfieldA, q_iaload, q_icmp_lt, q_sipush, q_imul, q_iadd, rf_11_61, rf_11_62, mmKe_1261, mmKe_1262, mmKo_11, mmLen_1261, mmLen_1262, mmR32, mmR64, Option.some.injEq, Int.cast_ofNat_Int, and_true, true_and, if_true, if_false, List.length_cons, List.length_nil, Nat.le_refl, Nat.zero_le, Nat.sub_zero, forall_const, reduceCtorEq, Nat.reduceAdd, Nat.reduceSub, Nat.reduceLeDiff, Nat.reduceEqDiff, Int.reduceAdd, Int.reduceNeg, Int.reduceSub, Int.reduceLT, Int.reduceLE, Int.reduceMul, Int.reduceEq, List.drop_zero, List.drop_succ_cons, ne_eq, not_false_eq_true, not_true_eq_false, false_and, and_false, false_implies, true_implies, reduceIte, mmU_rd, implies_true, or_false, false_or, or_true, true_or]
    rw [q_invV (pay := [])]
    simp only [q_k0, q_kS, q_rc, mmKo_11]
    refine ⟨Nat.le_of_ble_eq_true rfl, by trivial, Nat.zero_le _, Nat.zero_le _, ?_⟩
    refine mT_use (m_layRowQ c.1 hI2) (fun u I1 q => ?_)
    obtain ⟨rfl, f1, h1, hR⟩ := q
    have f2 := FrNq_trans (FrNq_2 (I := I) (v := 0)) f1
    obtain ⟨hq, hB, hN, hlen⟩ := vI h1 w
    have w22 : ∀ t : Int, (t = 0 ∧ ¬ p = vN r L w % 2) ∨ (t = 1 ∧ p = vN r L w % 2) → mmK (d + 11) 243 Q 22 [some (mo 11 0), some (mv w), some (mv p), some (mv n), some (mv k), none] [mv t] (I1, mmRf a br, X) := by
      intro t ht
      have w39 : ¬ (vE r L w = 0 ∧ 0 ≤ k ∧ k < cI (p = vN r L w % 2) 1 (vM r L w)) → mmK (d + 11) 243 Q 39 [some (mo 11 0), some (mv w), some (mv p), some (mv n), some (mv k), some (mv t)] [] (I1, mmRf a br, X) := by
        intro cc
        have e : (cI (((isW w ∧ (p = 0 ∨ p = 1) ∧ 0 ≤ (n : Int) ∧ (n : Int) ≤ 2) ∧ 0 ≤ k) ∧ vE r L w = 0) (cI (p = vN r L w % 2) (cI (k = 0) (sfV r n (vB r L w) (vN r L w)) (-1)) (cI (k < vM r L w) (sfV r n (aft (vB r L w) ((mvs r (vB r L w) (vN r L w)).getD k.toNat 0)) (vN r L w + 1)) (-1))) (-1)) = -1 := by
          by_cases d1 : ((isW w ∧ (p = 0 ∨ p = 1) ∧ 0 ≤ (n : Int) ∧ (n : Int) ≤ 2) ∧ 0 ≤ k) ∧ vE r L w = 0
          · rw [cI_pos d1]
            by_cases d2 : p = vN r L w % 2
            · rw [cI_pos d2] at cc ⊢
              rw [cI_neg (fun q => cc ⟨d1.2, d1.1.2, by omega⟩)]
            · rw [cI_neg d2] at cc ⊢
              rw [cI_neg (fun q => cc ⟨d1.2, d1.1.2, q⟩)]
          · rw [cI_neg d1]
        rw [e] at hQ
        refine mmC_step ?_
        simp only [cd_243, sg_243_0, sg_243_10, sg_243_21, sg_243_22, sg_243_33, sg_243_38, sg_243_39, sg_243_41, sg_243_49, mmK_cut cd_243, q_cons, q_G0, q_GS, q_I1, q_L1, q_A1, q_S0, q_S1, q_SS, q_T0, q_T1, q_TS, q_Kn, q_Ki, q_Kl, q_Kr, q_k0, q_kS, q_rc, q_ps, q_pn, q_aload0, q_iconst, q_putfieldI, q_iload1, q_iload2, q_iload3, q_if_ne, q_ireturn0, q_getfieldI, q_irem, q_icmp_ne, q_goto, q_istore, q_iload, q_if_lt, q_if_eq, q_getfieldA, q_iaload, q_icmp_lt, q_sipush, q_imul, q_iadd, rf_11_61, rf_11_62, mmKe_1261, mmKe_1262, mmKo_11, mmLen_1261, mmLen_1262, mmR32, mmR64, Option.some.injEq, Int.cast_ofNat_Int, and_true, true_and, if_true, if_false, List.length_cons, List.length_nil, Nat.le_refl, Nat.zero_le, Nat.sub_zero, forall_const, reduceCtorEq, Nat.reduceAdd, Nat.reduceSub, Nat.reduceLeDiff, Nat.reduceEqDiff, Int.reduceAdd, Int.reduceNeg, Int.reduceSub, Int.reduceLT, Int.reduceLE, Int.reduceMul, Int.reduceEq, List.drop_zero, List.drop_succ_cons, ne_eq, not_false_eq_true, not_true_eq_false, false_and, and_false, false_implies, true_implies, reduceIte, mmU_rd, implies_true, or_false, false_or, or_true, true_or]
        exact hQ I1 f2
      have w41 : vE r L w = 0 → 0 ≤ k → k < cI (p = vN r L w % 2) 1 (vM r L w) → mmK (d + 11) 243 Q 41 [some (mo 11 0), some (mv w), some (mv p), some (mv n), some (mv k), some (mv t)] [] (I1, mmRf a br, X) := by
        intro ce ck1 ck2
        rw [cI_pos ⟨⟨c, ck1⟩, ce⟩] at hQ
        refine mmC_step ?_
        simp only [cd_243, sg_243_0, sg_243_10, sg_243_21, sg_243_22, sg_243_33, sg_243_38, sg_243_39, sg_243_41, sg_243_49, mmK_cut cd_243, q_cons, q_G0, q_GS, q_I1, q_L1, q_A1, q_S0, q_S1, q_SS, q_T0, q_T1, q_TS, q_Kn, q_Ki, q_Kl, q_Kr, q_k0, q_kS, q_rc, q_ps, q_pn, q_aload0, q_iconst, q_putfieldI, q_iload1, q_iload2, q_iload3, q_if_ne, q_ireturn0, q_getfieldI, q_irem, q_icmp_ne, q_goto, q_istore, q_iload, q_if_lt, q_if_eq, q_getfieldA, q_iaload, q_icmp_lt, q_sipush, q_imul, q_iadd, rf_11_61, rf_11_62, mmKe_1261, mmKe_1262, mmKo_11, mmLen_1261, mmLen_1262, mmR32, mmR64, Option.some.injEq, Int.cast_ofNat_Int, and_true, true_and, if_true, if_false, List.length_cons, List.length_nil, Nat.le_refl, Nat.zero_le, Nat.sub_zero, forall_const, reduceCtorEq, Nat.reduceAdd, Nat.reduceSub, Nat.reduceLeDiff, Nat.reduceEqDiff, Int.reduceAdd, Int.reduceNeg, Int.reduceSub, Int.reduceLT, Int.reduceLE, Int.reduceMul, Int.reduceEq, List.drop_zero, List.drop_succ_cons, ne_eq, not_false_eq_true, not_true_eq_false, false_and, and_false, false_implies, true_implies, reduceIte, mmU_rd, implies_true, or_false, false_or, or_true, true_or]
        rw [VR_N hR]
        refine ⟨fun ct => ?_, fun ct => ?_⟩
        · have cp : ¬ p = vN r L w % 2 := by omega
          rw [cI_neg cp] at ck2 hQ
          rw [cI_pos ck2] at hQ
          have eM : vM r L w = (mvs r (vB r L w) (vN r L w)).length := by unfold vM; rw [cI_pos ce]
          have hok := open_ok (m := vN r L w) hq hB (k := k.toNat) (by omega)
          have em := (VR_M hR).2 k.toNat (by omega)
          rw [show ((k.toNat : Nat) : Int) = k by omega] at em
          generalize hu : (mvs r (vB r L w) (vN r L w)).getD k.toNat 0 = u0 at *
          refine mmC_step ?_
          simp only [cd_243, sg_243_0, sg_243_10, sg_243_21, sg_243_22, sg_243_33, sg_243_38, sg_243_39, sg_243_41, sg_243_49, mmK_cut cd_243, q_cons, q_G0, q_GS, q_I1, q_L1, q_A1, q_S0, q_S1, q_SS, q_T0, q_T1, q_TS, q_Kn, q_Ki, q_Kl, q_Kr, q_k0, q_kS, q_rc, q_ps, q_pn, q_aload0, q_iconst, q_putfieldI, q_iload1, q_iload2, q_iload3, q_if_ne, q_ireturn0, q_getfieldI, q_irem, q_icmp_ne, q_goto, q_istore, q_iload, q_if_lt, q_if_eq, q_getfieldA, q_iaload, q_icmp_lt, q_sipush, q_imul, q_iadd, rf_11_61, rf_11_62, mmKe_1261, mmKe_1262, mmKo_11, mmLen_1261, mmLen_1262, mmR32, mmR64, Option.some.injEq, Int.cast_ofNat_Int, and_true, true_and, if_true, if_false, List.length_cons, List.length_nil, Nat.le_refl, Nat.zero_le, Nat.sub_zero, forall_const, reduceCtorEq, Nat.reduceAdd, Nat.reduceSub, Nat.reduceLeDiff, Nat.reduceEqDiff, Int.reduceAdd, Int.reduceNeg, Int.reduceSub, Int.reduceLT, Int.reduceLE, Int.reduceMul, Int.reduceEq, List.drop_zero, List.drop_succ_cons, ne_eq, not_false_eq_true, not_true_eq_false, false_and, and_false, false_implies, true_implies, reduceIte, mmU_rd, implies_true, or_false, false_or, or_true, true_or]
          rw [VR_N hR, em]
          refine ⟨by omega, by omega, by omega, by omega, by omega, ?_⟩
          rw [q_invV (pay := [])]
          simp only [q_k0, q_kS, q_rc, mmKo_11]
          refine ⟨Nat.le_of_ble_eq_true rfl, by trivial, Nat.zero_le _, Nat.zero_le _, ?_⟩
          refine mT_use (m_layBehind hok.1.1 (VR_B hR hN.1) ⟨hN.1, by omega⟩ (b' := vN r L w + 1) ⟨by omega, by omega⟩ (by omega) hok.2.1 hok.2.2) (fun u I2 q2 => ?_)
          obtain ⟨rfl, f3, mb3⟩ := q2
          have e63 : I2 11 0 63 = vN r L w := (f3 _ _ _ (by omega)).trans (VR_N hR)
          simp only [mmK_cut cd_243, q_cons, q_G0, q_GS, q_I1, q_L1, q_A1, q_S0, q_S1, q_SS, q_T0, q_T1, q_TS, q_Kn, q_Ki, q_Kl, q_Kr, q_k0, q_kS, q_rc, q_ps, q_pn, q_aload0, q_iconst, q_putfieldI, q_iload1, q_iload2, q_iload3, q_if_ne, q_ireturn0, q_getfieldI, q_irem, q_icmp_ne, q_goto, q_istore, q_iload, q_if_lt, q_if_eq, q_getfieldA, q_iaload, q_icmp_lt, q_sipush, q_imul, q_iadd, rf_11_61, rf_11_62, mmKe_1261, mmKe_1262, mmKo_11, mmLen_1261, mmLen_1262, mmR32, mmR64, Option.some.injEq, Int.cast_ofNat_Int, and_true, true_and, if_true, if_false, List.length_cons, List.length_nil, Nat.le_refl, Nat.zero_le, Nat.sub_zero, forall_const, reduceCtorEq, Nat.reduceAdd, Nat.reduceSub, Nat.reduceLeDiff, Nat.reduceEqDiff, Int.reduceAdd, Int.reduceNeg, Int.reduceSub, Int.reduceLT, Int.reduceLE, Int.reduceMul, Int.reduceEq, List.drop_zero, List.drop_succ_cons, ne_eq, not_false_eq_true, not_true_eq_false, false_and, and_false, false_implies, true_implies, reduceIte, mmU_rd, implies_true, or_false, false_or, or_true, true_or]
          rw [e63]
          refine ⟨by omega, ?_⟩
          rw [q_invV (pay := [])]
          simp only [q_k0, q_kS, q_rc, mmKo_11]
          refine ⟨Nat.le_of_ble_eq_true rfl, by trivial, Nat.zero_le _, Nat.zero_le _, ?_⟩
          refine mT_use (m_safeOf (n := n) (B := aft (vB r L w) u0) (by omega) (RK_H h1.1 f3) mb3 (BW_aft hq hB hok.1) ⟨by omega, by omega⟩) (fun u I3 q3 => ?_)
          obtain ⟨rfl, f4⟩ := q3
          simp only [mmK_cut cd_243, q_cons, q_G0, q_GS, q_I1, q_L1, q_A1, q_S0, q_S1, q_SS, q_T0, q_T1, q_TS, q_Kn, q_Ki, q_Kl, q_Kr, q_k0, q_kS, q_rc, q_ps, q_pn, q_aload0, q_iconst, q_putfieldI, q_iload1, q_iload2, q_iload3, q_if_ne, q_ireturn0, q_getfieldI, q_irem, q_icmp_ne, q_goto, q_istore, q_iload, q_if_lt, q_if_eq, q_getfieldA, q_iaload, q_icmp_lt, q_sipush, q_imul, q_iadd, rf_11_61, rf_11_62, mmKe_1261, mmKe_1262, mmKo_11, mmLen_1261, mmLen_1262, mmR32, mmR64, Option.some.injEq, Int.cast_ofNat_Int, and_true, true_and, if_true, if_false, List.length_cons, List.length_nil, Nat.le_refl, Nat.zero_le, Nat.sub_zero, forall_const, reduceCtorEq, Nat.reduceAdd, Nat.reduceSub, Nat.reduceLeDiff, Nat.reduceEqDiff, Int.reduceAdd, Int.reduceNeg, Int.reduceSub, Int.reduceLT, Int.reduceLE, Int.reduceMul, Int.reduceEq, List.drop_zero, List.drop_succ_cons, ne_eq, not_false_eq_true, not_true_eq_false, false_and, and_false, false_implies, true_implies, reduceIte, mmU_rd, implies_true, or_false, false_or, or_true, true_or]
          exact hQ I3 (FrNq_trans f2 (FrNq_trans (FrNq_L (FrLy_H f3)) (FrNq_R f4)))
        · have cp : p = vN r L w % 2 := by omega
          rw [cI_pos cp] at ck2 hQ
          rw [cI_pos (by omega)] at hQ
          rw [q_invV (pay := [])]
          simp only [q_k0, q_kS, q_rc, mmKo_11]
          refine ⟨Nat.le_of_ble_eq_true rfl, by trivial, Nat.zero_le _, Nat.zero_le _, ?_⟩
          refine mT_use (m_safeOf (n := n) (by omega) h1.1 (VR_B hR hN.1) hB ⟨hN.1, by omega⟩) (fun u I3 q3 => ?_)
          obtain ⟨rfl, f4⟩ := q3
          simp only [mmK_cut cd_243, q_cons, q_G0, q_GS, q_I1, q_L1, q_A1, q_S0, q_S1, q_SS, q_T0, q_T1, q_TS, q_Kn, q_Ki, q_Kl, q_Kr, q_k0, q_kS, q_rc, q_ps, q_pn, q_aload0, q_iconst, q_putfieldI, q_iload1, q_iload2, q_iload3, q_if_ne, q_ireturn0, q_getfieldI, q_irem, q_icmp_ne, q_goto, q_istore, q_iload, q_if_lt, q_if_eq, q_getfieldA, q_iaload, q_icmp_lt, q_sipush, q_imul, q_iadd, rf_11_61, rf_11_62, mmKe_1261, mmKe_1262, mmKo_11, mmLen_1261, mmLen_1262, mmR32, mmR64, Option.some.injEq, Int.cast_ofNat_Int, and_true, true_and, if_true, if_false, List.length_cons, List.length_nil, Nat.le_refl, Nat.zero_le, Nat.sub_zero, forall_const, reduceCtorEq, Nat.reduceAdd, Nat.reduceSub, Nat.reduceLeDiff, Nat.reduceEqDiff, Int.reduceAdd, Int.reduceNeg, Int.reduceSub, Int.reduceLT, Int.reduceLE, Int.reduceMul, Int.reduceEq, List.drop_zero, List.drop_succ_cons, ne_eq, not_false_eq_true, not_true_eq_false, false_and, and_false, false_implies, true_implies, reduceIte, mmU_rd, implies_true, or_false, false_or, or_true, true_or]
          exact hQ I3 (FrNq_trans f2 (FrNq_R f4))
      have w38 : vE r L w = 0 → 0 ≤ k → ∀ s : Int, s = cI (p = vN r L w % 2) 1 (vM r L w) → mmK (d + 11) 243 Q 38 [some (mo 11 0), some (mv w), some (mv p), some (mv n), some (mv k), some (mv t)] [mv s, mv k] (I1, mmRf a br, X) := by
        intro ce ck s hs
        refine mmC_step ?_
        simp only [cd_243, sg_243_0, sg_243_10, sg_243_21, sg_243_22, sg_243_33, sg_243_38, sg_243_39, sg_243_41, sg_243_49, mmK_cut cd_243, q_cons, q_G0, q_GS, q_I1, q_L1, q_A1, q_S0, q_S1, q_SS, q_T0, q_T1, q_TS, q_Kn, q_Ki, q_Kl, q_Kr, q_k0, q_kS, q_rc, q_ps, q_pn, q_aload0, q_iconst, q_putfieldI, q_iload1, q_iload2, q_iload3, q_if_ne, q_ireturn0, q_getfieldI, q_irem, q_icmp_ne, q_goto, q_istore, q_iload, q_if_lt, q_if_eq, q_getfieldA, q_iaload, q_icmp_lt, q_sipush, q_imul, q_iadd, rf_11_61, rf_11_62, mmKe_1261, mmKe_1262, mmKo_11, mmLen_1261, mmLen_1262, mmR32, mmR64, Option.some.injEq, Int.cast_ofNat_Int, and_true, true_and, if_true, if_false, List.length_cons, List.length_nil, Nat.le_refl, Nat.zero_le, Nat.sub_zero, forall_const, reduceCtorEq, Nat.reduceAdd, Nat.reduceSub, Nat.reduceLeDiff, Nat.reduceEqDiff, Int.reduceAdd, Int.reduceNeg, Int.reduceSub, Int.reduceLT, Int.reduceLE, Int.reduceMul, Int.reduceEq, List.drop_zero, List.drop_succ_cons, ne_eq, not_false_eq_true, not_true_eq_false, false_and, and_false, false_implies, true_implies, reduceIte, mmU_rd, implies_true, or_false, false_or, or_true, true_or]
        refine ⟨fun c5 => w41 ce ck (by omega), fun c5 => ?_⟩
        exact w39 (fun q => by have := q.2.2; omega)
      refine mmC_step ?_
      simp only [cd_243, sg_243_0, sg_243_10, sg_243_21, sg_243_22, sg_243_33, sg_243_38, sg_243_39, sg_243_41, sg_243_49, mmK_cut cd_243, q_cons, q_G0, q_GS, q_I1, q_L1, q_A1, q_S0, q_S1, q_SS, q_T0, q_T1, q_TS, q_Kn, q_Ki, q_Kl, q_Kr, q_k0, q_kS, q_rc, q_ps, q_pn, q_aload0, q_iconst, q_putfieldI, q_iload1, q_iload2, q_iload3, q_if_ne, q_ireturn0, q_getfieldI, q_irem, q_icmp_ne, q_goto, q_istore, q_iload, q_if_lt, q_if_eq, q_getfieldA, q_iaload, q_icmp_lt, q_sipush, q_imul, q_iadd, rf_11_61, rf_11_62, mmKe_1261, mmKe_1262, mmKo_11, mmLen_1261, mmLen_1262, mmR32, mmR64, Option.some.injEq, Int.cast_ofNat_Int, and_true, true_and, if_true, if_false, List.length_cons, List.length_nil, Nat.le_refl, Nat.zero_le, Nat.sub_zero, forall_const, reduceCtorEq, Nat.reduceAdd, Nat.reduceSub, Nat.reduceLeDiff, Nat.reduceEqDiff, Int.reduceAdd, Int.reduceNeg, Int.reduceSub, Int.reduceLT, Int.reduceLE, Int.reduceMul, Int.reduceEq, List.drop_zero, List.drop_succ_cons, ne_eq, not_false_eq_true, not_true_eq_false, false_and, and_false, false_implies, true_implies, reduceIte, mmU_rd, implies_true, or_false, false_or, or_true, true_or]
      rw [VR_E hR]
      refine ⟨fun ce => w39 (fun q => ce q.1), fun ce => ⟨fun ck => w39 (fun q => by have := q.2.1; omega), fun ck => ⟨fun ct => ?_, fun ct => w38 ce ck 1 (by rw [cI_pos (by omega)])⟩⟩⟩
      refine mmC_step ?_
      simp only [cd_243, sg_243_0, sg_243_10, sg_243_21, sg_243_22, sg_243_33, sg_243_38, sg_243_39, sg_243_41, sg_243_49, mmK_cut cd_243, q_cons, q_G0, q_GS, q_I1, q_L1, q_A1, q_S0, q_S1, q_SS, q_T0, q_T1, q_TS, q_Kn, q_Ki, q_Kl, q_Kr, q_k0, q_kS, q_rc, q_ps, q_pn, q_aload0, q_iconst, q_putfieldI, q_iload1, q_iload2, q_iload3, q_if_ne, q_ireturn0, q_getfieldI, q_irem, q_icmp_ne, q_goto, q_istore, q_iload, q_if_lt, q_if_eq, q_getfieldA, q_iaload, q_icmp_lt, q_sipush, q_imul, q_iadd, rf_11_61, rf_11_62, mmKe_1261, mmKe_1262, mmKo_11, mmLen_1261, mmLen_1262, mmR32, mmR64, Option.some.injEq, Int.cast_ofNat_Int, and_true, true_and, if_true, if_false, List.length_cons, List.length_nil, Nat.le_refl, Nat.zero_le, Nat.sub_zero, forall_const, reduceCtorEq, Nat.reduceAdd, Nat.reduceSub, Nat.reduceLeDiff, Nat.reduceEqDiff, Int.reduceAdd, Int.reduceNeg, Int.reduceSub, Int.reduceLT, Int.reduceLE, Int.reduceMul, Int.reduceEq, List.drop_zero, List.drop_succ_cons, ne_eq, not_false_eq_true, not_true_eq_false, false_and, and_false, false_implies, true_implies, reduceIte, mmU_rd, implies_true, or_false, false_or, or_true, true_or]
      rw [VR_N hR, (VR_M hR).1]
      refine ⟨hN.1, by omega, w38 ce ck _ ?_⟩
      rw [cI_neg (by omega)]; unfold vM; rw [cI_pos ce]
    simp only [mmK_cut cd_243, q_cons, q_G0, q_GS, q_I1, q_L1, q_A1, q_S0, q_S1, q_SS, q_T0, q_T1, q_TS, q_Kn, q_Ki, q_Kl, q_Kr, q_k0, q_kS, q_rc, q_ps, q_pn, q_aload0, q_iconst, q_putfieldI, q_iload1, q_iload2, q_iload3, q_if_ne, q_ireturn0, q_getfieldI, q_irem, q_icmp_ne, q_goto, q_istore, q_iload, q_if_lt, q_if_eq, q_getfieldA, q_iaload, q_icmp_lt, q_sipush, q_imul, q_iadd, rf_11_61, rf_11_62, mmKe_1261, mmKe_1262, mmKo_11, mmLen_1261, mmLen_1262, mmR32, mmR64, Option.some.injEq, Int.cast_ofNat_Int, and_true, true_and, if_true, if_false, List.length_cons, List.length_nil, Nat.le_refl, Nat.zero_le, Nat.sub_zero, forall_const, reduceCtorEq, Nat.reduceAdd, Nat.reduceSub, Nat.reduceLeDiff, Nat.reduceEqDiff, Int.reduceAdd, Int.reduceNeg, Int.reduceSub, Int.reduceLT, Int.reduceLE, Int.reduceMul, Int.reduceEq, List.drop_zero, List.drop_succ_cons, ne_eq, not_false_eq_true, not_true_eq_false, false_and, and_false, false_implies, true_implies, reduceIte, mmU_rd, implies_true, or_false, false_or, or_true, true_or]
    rw [VR_N hR]
    refine ⟨hN.1, fun cp => ?_, fun cp => w22 1 (Or.inr ⟨rfl, cp⟩)⟩
    refine mmC_step ?_
    simp only [cd_243, sg_243_0, sg_243_10, sg_243_21, sg_243_22, sg_243_33, sg_243_38, sg_243_39, sg_243_41, sg_243_49, mmK_cut cd_243, q_cons, q_G0, q_GS, q_I1, q_L1, q_A1, q_S0, q_S1, q_SS, q_T0, q_T1, q_TS, q_Kn, q_Ki, q_Kl, q_Kr, q_k0, q_kS, q_rc, q_ps, q_pn, q_aload0, q_iconst, q_putfieldI, q_iload1, q_iload2, q_iload3, q_if_ne, q_ireturn0, q_getfieldI, q_irem, q_icmp_ne, q_goto, q_istore, q_iload, q_if_lt, q_if_eq, q_getfieldA, q_iaload, q_icmp_lt, q_sipush, q_imul, q_iadd, rf_11_61, rf_11_62, mmKe_1261, mmKe_1262, mmKo_11, mmLen_1261, mmLen_1262, mmR32, mmR64, Option.some.injEq, Int.cast_ofNat_Int, and_true, true_and, if_true, if_false, List.length_cons, List.length_nil, Nat.le_refl, Nat.zero_le, Nat.sub_zero, forall_const, reduceCtorEq, Nat.reduceAdd, Nat.reduceSub, Nat.reduceLeDiff, Nat.reduceEqDiff, Int.reduceAdd, Int.reduceNeg, Int.reduceSub, Int.reduceLT, Int.reduceLE, Int.reduceMul, Int.reduceEq, List.drop_zero, List.drop_succ_cons, ne_eq, not_false_eq_true, not_true_eq_false, false_and, and_false, false_implies, true_implies, reduceIte, mmU_rd, implies_true, or_false, false_or, or_true, true_or]
    exact w22 0 (Or.inl ⟨rfl, cp⟩)
  · rw [cI_neg (fun q => c q.1.1)] at hQ
    exact hQ _ FrNq_2
end S864
