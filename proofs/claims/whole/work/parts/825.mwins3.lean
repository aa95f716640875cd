section S825
variable {d a : Nat} {I I' I'' : mMm} {br : Nat → Option mmO} {X : mmX} {B : mBd} {b : Int} {r : mRu} {Q : Option mmV → mmM → Prop}
set_option maxHeartbeats 1000000 in
theorem m_lost2 (hR : RK r I) (hM : MB I b B) (hB : BW r B) (hb : 0 ≤ b ∧ b < 69) : mmC (d + 10) 236 [mo 11 0, mv b] (I, mmRf a br, X) (mT a br X fun v I' => v = some (mv (bI ((wlP r 2 B b).2))) ∧ FrR b I I') := by
  have hq := RQ_of hR.1 hR.2.1 hR.2.2
  have w0 := hR.2.2.1
  have w1 := hR.2.2.2.1
  have hlen : ((mvs r B b).length : Int) ≤ 200 := mvL_cap (m := b) hq hB (n := 25) (by omega)
  have h25 := (pt_in w0 w1 (x := 0) (y := 0) (by omega) (by omega)).2.2.1
  have ew : (wlP r 2 B b).2 = (lkP r B b ∨ ∀ v, v ∈ mvs r B b → (wlP r 1 (aft B v) (b + 1)).1) := rfl
  rw [ew]
  refine mmC_in (by decide) (Nat.le_of_ble_eq_true rfl) (mmC_step ?_)
  simp only [show mmMl 236 = 3 from rfl, mmLs, List.replicate, cd_236, sg_236_0, sg_236_10, sg_236_12, sg_236_40, sg_236_42, mmK_cut cd_236, q_cons, q_G0, q_GS, q_I1, q_L1, q_A1, q_S0, q_S1, q_SS, q_T0, q_T1, q_TS, q_Kn, q_Ki, q_Kl, q_Kr, q_k0, q_kS, q_rc, q_ps, q_pn, q_aload0, q_iload1, q_iconst, q_irem, q_if_eq, q_ireturn1, q_istore2, q_iload2, q_getfieldA, q_iaload, q_icmp_ge, q_sipush, q_imul, q_iadd, q_if_ne, q_iinc, q_goto, rf_11_61, rf_11_62, mmKe_1261, mmKe_1262, mmKo_11, mmLen_1261, mmLen_1262, mmR32, mmR64, Option.some.injEq, Int.cast_ofNat_Int, and_true, true_and, if_true, if_false, List.length_cons, List.length_nil, Nat.le_refl, Nat.zero_le, Nat.sub_zero, forall_const, reduceCtorEq, Nat.reduceAdd, Nat.reduceSub, Nat.reduceLeDiff, Nat.reduceEqDiff, Int.reduceAdd, Int.reduceNeg, Int.reduceSub, Int.reduceLT, Int.reduceLE, Int.reduceMul, Int.reduceEq, List.drop_zero, List.drop_succ_cons, ne_eq, not_false_eq_true, not_true_eq_false, false_and, and_false, false_implies, true_implies, reduceIte, mmU_rd, implies_true, or_false, false_or, or_true, true_or]
  refine ⟨hb.1, ?_⟩
  rw [q_invV (pay := [])]
  simp only [q_k0, q_kS, q_rc, mmKo_11]
  refine ⟨Nat.le_of_ble_eq_true rfl, by trivial, Nat.zero_le _, Nat.zero_le _, ?_⟩
  refine mT_use (m_isLost hR hM hB (by omega) (by omega) rfl) (fun v I1 q => ?_)
  obtain ⟨rfl, f1, ml1⟩ := q
  simp only [mmK_cut cd_236, q_cons, q_G0, q_GS, q_I1, q_L1, q_A1, q_S0, q_S1, q_SS, q_T0, q_T1, q_TS, q_Kn, q_Ki, q_Kl, q_Kr, q_k0, q_kS, q_rc, q_ps, q_pn, q_aload0, q_iload1, q_iconst, q_irem, q_if_eq, q_ireturn1, q_istore2, q_iload2, q_getfieldA, q_iaload, q_icmp_ge, q_sipush, q_imul, q_iadd, q_if_ne, q_iinc, q_goto, rf_11_61, rf_11_62, mmKe_1261, mmKe_1262, mmKo_11, mmLen_1261, mmLen_1262, mmR32, mmR64, Option.some.injEq, Int.cast_ofNat_Int, and_true, true_and, if_true, if_false, List.length_cons, List.length_nil, Nat.le_refl, Nat.zero_le, Nat.sub_zero, forall_const, reduceCtorEq, Nat.reduceAdd, Nat.reduceSub, Nat.reduceLeDiff, Nat.reduceEqDiff, Int.reduceAdd, Int.reduceNeg, Int.reduceSub, Int.reduceLT, Int.reduceLE, Int.reduceMul, Int.reduceEq, List.drop_zero, List.drop_succ_cons, ne_eq, not_false_eq_true, not_true_eq_false, false_and, and_false, false_implies, true_implies, reduceIte, mmU_rd, implies_true, or_false, false_or, or_true, true_or, bI_eq0]
  refine ⟨fun c => ?_, fun c => ?_⟩
  · have hlk : ¬ lkP r B b := fun q => c (Or.inl q)
    have key : ∀ (q k : Nat) (I2 : mMm), k + q = (mvs r B b).length → FrR b I I2 → ML I2 b (mvs r B b) → (∀ i : Nat, i < k → (wlP r 1 (aft B ((mvs r B b).getD i 0)) (b + 1)).1) → mmK (d + 9) 236 (mT a br X fun v I' => v = some (mv (bI (lkP r B b ∨ ∀ v, v ∈ mvs r B b → (wlP r 1 (aft B v) (b + 1)).1))) ∧ FrR b I I') 12 [some (mo 11 0), some (mv b), some (mv k)] [] (I2, mmRf a br, X) := by
      intro q
      induction q with
      | zero =>
        intro k I2 hk f2 ml hn
        refine mmC_step ?_
        simp only [cd_236, sg_236_0, sg_236_10, sg_236_12, sg_236_40, sg_236_42, mmK_cut cd_236, q_cons, q_G0, q_GS, q_I1, q_L1, q_A1, q_S0, q_S1, q_SS, q_T0, q_T1, q_TS, q_Kn, q_Ki, q_Kl, q_Kr, q_k0, q_kS, q_rc, q_ps, q_pn, q_aload0, q_iload1, q_iconst, q_irem, q_if_eq, q_ireturn1, q_istore2, q_iload2, q_getfieldA, q_iaload, q_icmp_ge, q_sipush, q_imul, q_iadd, q_if_ne, q_iinc, q_goto, rf_11_61, rf_11_62, mmKe_1261, mmKe_1262, mmKo_11, mmLen_1261, mmLen_1262, mmR32, mmR64, Option.some.injEq, Int.cast_ofNat_Int, and_true, true_and, if_true, if_false, List.length_cons, List.length_nil, Nat.le_refl, Nat.zero_le, Nat.sub_zero, forall_const, reduceCtorEq, Nat.reduceAdd, Nat.reduceSub, Nat.reduceLeDiff, Nat.reduceEqDiff, Int.reduceAdd, Int.reduceNeg, Int.reduceSub, Int.reduceLT, Int.reduceLE, Int.reduceMul, Int.reduceEq, List.drop_zero, List.drop_succ_cons, ne_eq, not_false_eq_true, not_true_eq_false, false_and, and_false, false_implies, true_implies, reduceIte, mmU_rd, implies_true, or_false, false_or, or_true, true_or]
        rw [ml.1]
        refine ⟨by omega, by omega, fun _ => ?_, fun c => by omega⟩
        refine mmC_step ?_
        simp only [cd_236, sg_236_0, sg_236_10, sg_236_12, sg_236_40, sg_236_42, mmK_cut cd_236, q_cons, q_G0, q_GS, q_I1, q_L1, q_A1, q_S0, q_S1, q_SS, q_T0, q_T1, q_TS, q_Kn, q_Ki, q_Kl, q_Kr, q_k0, q_kS, q_rc, q_ps, q_pn, q_aload0, q_iload1, q_iconst, q_irem, q_if_eq, q_ireturn1, q_istore2, q_iload2, q_getfieldA, q_iaload, q_icmp_ge, q_sipush, q_imul, q_iadd, q_if_ne, q_iinc, q_goto, rf_11_61, rf_11_62, mmKe_1261, mmKe_1262, mmKo_11, mmLen_1261, mmLen_1262, mmR32, mmR64, Option.some.injEq, Int.cast_ofNat_Int, and_true, true_and, if_true, if_false, List.length_cons, List.length_nil, Nat.le_refl, Nat.zero_le, Nat.sub_zero, forall_const, reduceCtorEq, Nat.reduceAdd, Nat.reduceSub, Nat.reduceLeDiff, Nat.reduceEqDiff, Int.reduceAdd, Int.reduceNeg, Int.reduceSub, Int.reduceLT, Int.reduceLE, Int.reduceMul, Int.reduceEq, List.drop_zero, List.drop_succ_cons, ne_eq, not_false_eq_true, not_true_eq_false, false_and, and_false, false_implies, true_implies, reduceIte, mmU_rd, implies_true, or_false, false_or, or_true, true_or]
        refine mT_in ⟨?_, f2⟩
        rw [bI_pos]
        refine Or.inr (fun v h1 => ?_)
        obtain ⟨i, hi, e⟩ := mem_getD h1
        have := hn i (by omega)
        rw [e] at this
        exact this
      | succ q ihq =>
        intro k I2 hk f2 ml hn
        have hvm := getD_mem (L := mvs r B b) (k := k) (by omega)
        have ev := ml.2 k (by omega)
        generalize hvv : (mvs r B b).getD k 0 = v at *
        have hv0 : 0 ≤ v ∧ v < 1600 := (mvL_0 w0 w1 hvm).resolve_right (by omega)
        have hok := mv_ok hq hB hv0.1 (mvL_lf w0 w1 25 hvm)
        have hBa := BW_aft hq hB hok
        obtain ⟨o1, o2, o3, o4, o5, o6⟩ := hok
        refine mmC_step ?_
        simp only [cd_236, sg_236_0, sg_236_10, sg_236_12, sg_236_40, sg_236_42, mmK_cut cd_236, q_cons, q_G0, q_GS, q_I1, q_L1, q_A1, q_S0, q_S1, q_SS, q_T0, q_T1, q_TS, q_Kn, q_Ki, q_Kl, q_Kr, q_k0, q_kS, q_rc, q_ps, q_pn, q_aload0, q_iload1, q_iconst, q_irem, q_if_eq, q_ireturn1, q_istore2, q_iload2, q_getfieldA, q_iaload, q_icmp_ge, q_sipush, q_imul, q_iadd, q_if_ne, q_iinc, q_goto, rf_11_61, rf_11_62, mmKe_1261, mmKe_1262, mmKo_11, mmLen_1261, mmLen_1262, mmR32, mmR64, Option.some.injEq, Int.cast_ofNat_Int, and_true, true_and, if_true, if_false, List.length_cons, List.length_nil, Nat.le_refl, Nat.zero_le, Nat.sub_zero, forall_const, reduceCtorEq, Nat.reduceAdd, Nat.reduceSub, Nat.reduceLeDiff, Nat.reduceEqDiff, Int.reduceAdd, Int.reduceNeg, Int.reduceSub, Int.reduceLT, Int.reduceLE, Int.reduceMul, Int.reduceEq, List.drop_zero, List.drop_succ_cons, ne_eq, not_false_eq_true, not_true_eq_false, false_and, and_false, false_implies, true_implies, reduceIte, mmU_rd, implies_true, or_false, false_or, or_true, true_or]
        rw [ml.1, ev]
        refine ⟨by omega, by omega, fun c => by omega, fun _ => ⟨by omega, by omega, by omega, by omega, by omega, ?_⟩⟩
        rw [q_invV (pay := [])]
        simp only [q_k0, q_kS, q_rc, mmKo_11]
        refine ⟨Nat.le_of_ble_eq_true rfl, by trivial, Nat.zero_le _, Nat.zero_le _, ?_⟩
        refine mT_use (m_layBehind o1 (MB_R (Int.le_refl b) hM f2) (by omega) (by omega) (by omega) ⟨o2.1, by omega⟩ ⟨o3.1, by omega⟩) (fun u I3 q3 => ?_)
        obtain ⟨rfl, f3, m3⟩ := q3
        have f23 := FrR_trans f2 (FrR_H f3)
        simp only [mmK_cut cd_236, q_cons, q_G0, q_GS, q_I1, q_L1, q_A1, q_S0, q_S1, q_SS, q_T0, q_T1, q_TS, q_Kn, q_Ki, q_Kl, q_Kr, q_k0, q_kS, q_rc, q_ps, q_pn, q_aload0, q_iload1, q_iconst, q_irem, q_if_eq, q_ireturn1, q_istore2, q_iload2, q_getfieldA, q_iaload, q_icmp_ge, q_sipush, q_imul, q_iadd, q_if_ne, q_iinc, q_goto, rf_11_61, rf_11_62, mmKe_1261, mmKe_1262, mmKo_11, mmLen_1261, mmLen_1262, mmR32, mmR64, Option.some.injEq, Int.cast_ofNat_Int, and_true, true_and, if_true, if_false, List.length_cons, List.length_nil, Nat.le_refl, Nat.zero_le, Nat.sub_zero, forall_const, reduceCtorEq, Nat.reduceAdd, Nat.reduceSub, Nat.reduceLeDiff, Nat.reduceEqDiff, Int.reduceAdd, Int.reduceNeg, Int.reduceSub, Int.reduceLT, Int.reduceLE, Int.reduceMul, Int.reduceEq, List.drop_zero, List.drop_succ_cons, ne_eq, not_false_eq_true, not_true_eq_false, false_and, and_false, false_implies, true_implies, reduceIte, mmU_rd, implies_true, or_false, false_or, or_true, true_or]
        refine ⟨by omega, ?_⟩
        rw [q_invV (pay := [])]
        simp only [q_k0, q_kS, q_rc, mmKo_11]
        refine ⟨Nat.le_of_ble_eq_true rfl, by trivial, Nat.zero_le _, Nat.zero_le _, ?_⟩
        refine mT_use (m_wins1 (B := aft B v) (b := b + 1) (RK_R hR f23) m3 hBa (by omega)) (fun u I4 q4 => ?_)
        obtain ⟨rfl, f4⟩ := q4
        have f24 := FrR_trans f23 (FrR_up f4)
        have ml4 := ML_R (by omega) (ML_H ml f3) f4
        simp only [mmK_cut cd_236, q_cons, q_G0, q_GS, q_I1, q_L1, q_A1, q_S0, q_S1, q_SS, q_T0, q_T1, q_TS, q_Kn, q_Ki, q_Kl, q_Kr, q_k0, q_kS, q_rc, q_ps, q_pn, q_aload0, q_iload1, q_iconst, q_irem, q_if_eq, q_ireturn1, q_istore2, q_iload2, q_getfieldA, q_iaload, q_icmp_ge, q_sipush, q_imul, q_iadd, q_if_ne, q_iinc, q_goto, rf_11_61, rf_11_62, mmKe_1261, mmKe_1262, mmKo_11, mmLen_1261, mmLen_1262, mmR32, mmR64, Option.some.injEq, Int.cast_ofNat_Int, and_true, true_and, if_true, if_false, List.length_cons, List.length_nil, Nat.le_refl, Nat.zero_le, Nat.sub_zero, forall_const, reduceCtorEq, Nat.reduceAdd, Nat.reduceSub, Nat.reduceLeDiff, Nat.reduceEqDiff, Int.reduceAdd, Int.reduceNeg, Int.reduceSub, Int.reduceLT, Int.reduceLE, Int.reduceMul, Int.reduceEq, List.drop_zero, List.drop_succ_cons, ne_eq, not_false_eq_true, not_true_eq_false, false_and, and_false, false_implies, true_implies, reduceIte, mmU_rd, implies_true, or_false, false_or, or_true, true_or, bI_eq0, Classical.not_not]
        refine ⟨fun c2 => ?_, fun c2 => ?_⟩
        · refine mmC_step ?_
          simp only [cd_236, sg_236_0, sg_236_10, sg_236_12, sg_236_40, sg_236_42, mmK_cut cd_236, q_cons, q_G0, q_GS, q_I1, q_L1, q_A1, q_S0, q_S1, q_SS, q_T0, q_T1, q_TS, q_Kn, q_Ki, q_Kl, q_Kr, q_k0, q_kS, q_rc, q_ps, q_pn, q_aload0, q_iload1, q_iconst, q_irem, q_if_eq, q_ireturn1, q_istore2, q_iload2, q_getfieldA, q_iaload, q_icmp_ge, q_sipush, q_imul, q_iadd, q_if_ne, q_iinc, q_goto, rf_11_61, rf_11_62, mmKe_1261, mmKe_1262, mmKo_11, mmLen_1261, mmLen_1262, mmR32, mmR64, Option.some.injEq, Int.cast_ofNat_Int, and_true, true_and, if_true, if_false, List.length_cons, List.length_nil, Nat.le_refl, Nat.zero_le, Nat.sub_zero, forall_const, reduceCtorEq, Nat.reduceAdd, Nat.reduceSub, Nat.reduceLeDiff, Nat.reduceEqDiff, Int.reduceAdd, Int.reduceNeg, Int.reduceSub, Int.reduceLT, Int.reduceLE, Int.reduceMul, Int.reduceEq, List.drop_zero, List.drop_succ_cons, ne_eq, not_false_eq_true, not_true_eq_false, false_and, and_false, false_implies, true_implies, reduceIte, mmU_rd, implies_true, or_false, false_or, or_true, true_or]
          refine ⟨by omega, ihq (k + 1) I4 (by omega) f24 ml4 (fun i hi => ?_)⟩
          by_cases ci : i = k
          · rw [ci, hvv]; exact c2
          · exact hn i (by omega)
        · refine mT_in ⟨?_, f24⟩
          rw [bI_neg]
          rintro (q | q)
          · exact hlk q
          · exact c2 (q v hvm)
    refine mmC_step ?_
    simp only [cd_236, sg_236_0, sg_236_10, sg_236_12, sg_236_40, sg_236_42, mmK_cut cd_236, q_cons, q_G0, q_GS, q_I1, q_L1, q_A1, q_S0, q_S1, q_SS, q_T0, q_T1, q_TS, q_Kn, q_Ki, q_Kl, q_Kr, q_k0, q_kS, q_rc, q_ps, q_pn, q_aload0, q_iload1, q_iconst, q_irem, q_if_eq, q_ireturn1, q_istore2, q_iload2, q_getfieldA, q_iaload, q_icmp_ge, q_sipush, q_imul, q_iadd, q_if_ne, q_iinc, q_goto, rf_11_61, rf_11_62, mmKe_1261, mmKe_1262, mmKo_11, mmLen_1261, mmLen_1262, mmR32, mmR64, Option.some.injEq, Int.cast_ofNat_Int, and_true, true_and, if_true, if_false, List.length_cons, List.length_nil, Nat.le_refl, Nat.zero_le, Nat.sub_zero, forall_const, reduceCtorEq, Nat.reduceAdd, Nat.reduceSub, Nat.reduceLeDiff, Nat.reduceEqDiff, Int.reduceAdd, Int.reduceNeg, Int.reduceSub, Int.reduceLT, Int.reduceLE, Int.reduceMul, Int.reduceEq, List.drop_zero, List.drop_succ_cons, ne_eq, not_false_eq_true, not_true_eq_false, false_and, and_false, false_implies, true_implies, reduceIte, mmU_rd, implies_true, or_false, false_or, or_true, true_or]
    exact key (mvs r B b).length 0 I1 (by omega) (FrR_V f1) ml1 (fun i hi => by omega)
  · have c := Classical.not_not.mp c
    refine mT_in ⟨?_, FrR_V f1⟩
    rw [bI_pos]
    rcases c with q | q
    · exact Or.inl q
    · refine Or.inr (fun v h2 => ?_)
      rw [show mvs r B b = [] from q] at h2
      cases h2
set_option maxHeartbeats 1000000 in
theorem m_wins3 (hR : RK r I) (hM : MB I b B) (hB : BW r B) (hb : 0 ≤ b ∧ b < 68) : mmC (d + 11) 237 [mo 11 0, mv b] (I, mmRf a br, X) (mT a br X fun v I' => v = some (mv (bI ((wlP r 3 B b).1))) ∧ FrR b I I') := by
  have hq := RQ_of hR.1 hR.2.1 hR.2.2
  have w0 := hR.2.2.1
  have w1 := hR.2.2.2.1
  have hlen : ((mvs r B b).length : Int) ≤ 200 := mvL_cap (m := b) hq hB (n := 25) (by omega)
  have h25 := (pt_in w0 w1 (x := 0) (y := 0) (by omega) (by omega)).2.2.1
  have ew : (wlP r 3 B b).1 = (¬ lkP r B b ∧ ∃ v, v ∈ mvs r B b ∧ (wlP r 2 (aft B v) (b + 1)).2) := rfl
  rw [ew]
  refine mmC_in (by decide) (Nat.le_of_ble_eq_true rfl) (mmC_step ?_)
  simp only [show mmMl 237 = 3 from rfl, mmLs, List.replicate, cd_237, sg_237_0, sg_237_10, sg_237_12, sg_237_40, sg_237_42, mmK_cut cd_237, q_cons, q_G0, q_GS, q_I1, q_L1, q_A1, q_S0, q_S1, q_SS, q_T0, q_T1, q_TS, q_Kn, q_Ki, q_Kl, q_Kr, q_k0, q_kS, q_rc, q_ps, q_pn, q_aload0, q_iload1, q_iconst, q_irem, q_if_eq, q_ireturn1, q_istore2, q_iload2, q_getfieldA, q_iaload, q_icmp_ge, q_sipush, q_imul, q_iadd, q_iinc, q_goto, rf_11_61, rf_11_62, mmKe_1261, mmKe_1262, mmKo_11, mmLen_1261, mmLen_1262, mmR32, mmR64, Option.some.injEq, Int.cast_ofNat_Int, and_true, true_and, if_true, if_false, List.length_cons, List.length_nil, Nat.le_refl, Nat.zero_le, Nat.sub_zero, forall_const, reduceCtorEq, Nat.reduceAdd, Nat.reduceSub, Nat.reduceLeDiff, Nat.reduceEqDiff, Int.reduceAdd, Int.reduceNeg, Int.reduceSub, Int.reduceLT, Int.reduceLE, Int.reduceMul, Int.reduceEq, List.drop_zero, List.drop_succ_cons, ne_eq, not_false_eq_true, not_true_eq_false, false_and, and_false, false_implies, true_implies, reduceIte, mmU_rd, implies_true, or_false, false_or, or_true, true_or]
  refine ⟨hb.1, ?_⟩
  rw [q_invV (pay := [])]
  simp only [q_k0, q_kS, q_rc, mmKo_11]
  refine ⟨Nat.le_of_ble_eq_true rfl, by trivial, Nat.zero_le _, Nat.zero_le _, ?_⟩
  refine mT_use (m_isLost hR hM hB (by omega) (by omega) rfl) (fun v I1 q => ?_)
  obtain ⟨rfl, f1, ml1⟩ := q
  simp only [mmK_cut cd_237, q_cons, q_G0, q_GS, q_I1, q_L1, q_A1, q_S0, q_S1, q_SS, q_T0, q_T1, q_TS, q_Kn, q_Ki, q_Kl, q_Kr, q_k0, q_kS, q_rc, q_ps, q_pn, q_aload0, q_iload1, q_iconst, q_irem, q_if_eq, q_ireturn1, q_istore2, q_iload2, q_getfieldA, q_iaload, q_icmp_ge, q_sipush, q_imul, q_iadd, q_iinc, q_goto, rf_11_61, rf_11_62, mmKe_1261, mmKe_1262, mmKo_11, mmLen_1261, mmLen_1262, mmR32, mmR64, Option.some.injEq, Int.cast_ofNat_Int, and_true, true_and, if_true, if_false, List.length_cons, List.length_nil, Nat.le_refl, Nat.zero_le, Nat.sub_zero, forall_const, reduceCtorEq, Nat.reduceAdd, Nat.reduceSub, Nat.reduceLeDiff, Nat.reduceEqDiff, Int.reduceAdd, Int.reduceNeg, Int.reduceSub, Int.reduceLT, Int.reduceLE, Int.reduceMul, Int.reduceEq, List.drop_zero, List.drop_succ_cons, ne_eq, not_false_eq_true, not_true_eq_false, false_and, and_false, false_implies, true_implies, reduceIte, mmU_rd, implies_true, or_false, false_or, or_true, true_or, bI_eq0]
  refine ⟨fun c => ?_, fun c => ?_⟩
  · have hlk : ¬ lkP r B b := fun q => c (Or.inl q)
    have key : ∀ (q k : Nat) (I2 : mMm), k + q = (mvs r B b).length → FrR b I I2 → ML I2 b (mvs r B b) → (∀ i : Nat, i < k → ¬ (wlP r 2 (aft B ((mvs r B b).getD i 0)) (b + 1)).2) → mmK (d + 10) 237 (mT a br X fun v I' => v = some (mv (bI (¬ lkP r B b ∧ ∃ v, v ∈ mvs r B b ∧ (wlP r 2 (aft B v) (b + 1)).2))) ∧ FrR b I I') 12 [some (mo 11 0), some (mv b), some (mv k)] [] (I2, mmRf a br, X) := by
      intro q
      induction q with
      | zero =>
        intro k I2 hk f2 ml hn
        refine mmC_step ?_
        simp only [cd_237, sg_237_0, sg_237_10, sg_237_12, sg_237_40, sg_237_42, mmK_cut cd_237, q_cons, q_G0, q_GS, q_I1, q_L1, q_A1, q_S0, q_S1, q_SS, q_T0, q_T1, q_TS, q_Kn, q_Ki, q_Kl, q_Kr, q_k0, q_kS, q_rc, q_ps, q_pn, q_aload0, q_iload1, q_iconst, q_irem, q_if_eq, q_ireturn1, q_istore2, q_iload2, q_getfieldA, q_iaload, q_icmp_ge, q_sipush, q_imul, q_iadd, q_iinc, q_goto, rf_11_61, rf_11_62, mmKe_1261, mmKe_1262, mmKo_11, mmLen_1261, mmLen_1262, mmR32, mmR64, Option.some.injEq, Int.cast_ofNat_Int, and_true, true_and, if_true, if_false, List.length_cons, List.length_nil, Nat.le_refl, Nat.zero_le, Nat.sub_zero, forall_const, reduceCtorEq, Nat.reduceAdd, Nat.reduceSub, Nat.reduceLeDiff, Nat.reduceEqDiff, Int.reduceAdd, Int.reduceNeg, Int.reduceSub, Int.reduceLT, Int.reduceLE, Int.reduceMul, Int.reduceEq, List.drop_zero, List.drop_succ_cons, ne_eq, not_false_eq_true, not_true_eq_false, false_and, and_false, false_implies, true_implies, reduceIte, mmU_rd, implies_true, or_false, false_or, or_true, true_or]
        rw [ml.1]
        refine ⟨by omega, by omega, fun _ => ?_, fun c => by omega⟩
        refine mmC_step ?_
        simp only [cd_237, sg_237_0, sg_237_10, sg_237_12, sg_237_40, sg_237_42, mmK_cut cd_237, q_cons, q_G0, q_GS, q_I1, q_L1, q_A1, q_S0, q_S1, q_SS, q_T0, q_T1, q_TS, q_Kn, q_Ki, q_Kl, q_Kr, q_k0, q_kS, q_rc, q_ps, q_pn, q_aload0, q_iload1, q_iconst, q_irem, q_if_eq, q_ireturn1, q_istore2, q_iload2, q_getfieldA, q_iaload, q_icmp_ge, q_sipush, q_imul, q_iadd, q_iinc, q_goto, rf_11_61, rf_11_62, mmKe_1261, mmKe_1262, mmKo_11, mmLen_1261, mmLen_1262, mmR32, mmR64, Option.some.injEq, Int.cast_ofNat_Int, and_true, true_and, if_true, if_false, List.length_cons, List.length_nil, Nat.le_refl, Nat.zero_le, Nat.sub_zero, forall_const, reduceCtorEq, Nat.reduceAdd, Nat.reduceSub, Nat.reduceLeDiff, Nat.reduceEqDiff, Int.reduceAdd, Int.reduceNeg, Int.reduceSub, Int.reduceLT, Int.reduceLE, Int.reduceMul, Int.reduceEq, List.drop_zero, List.drop_succ_cons, ne_eq, not_false_eq_true, not_true_eq_false, false_and, and_false, false_implies, true_implies, reduceIte, mmU_rd, implies_true, or_false, false_or, or_true, true_or]
        refine mT_in ⟨?_, f2⟩
        rw [bI_neg]
        rintro ⟨_, v, h1, h2⟩
        obtain ⟨i, hi, e⟩ := mem_getD h1
        have := hn i (by omega)
        rw [e] at this
        exact this h2
      | succ q ihq =>
        intro k I2 hk f2 ml hn
        have hvm := getD_mem (L := mvs r B b) (k := k) (by omega)
        have ev := ml.2 k (by omega)
        generalize hvv : (mvs r B b).getD k 0 = v at *
        have hv0 : 0 ≤ v ∧ v < 1600 := (mvL_0 w0 w1 hvm).resolve_right (by omega)
        have hok := mv_ok hq hB hv0.1 (mvL_lf w0 w1 25 hvm)
        have hBa := BW_aft hq hB hok
        obtain ⟨o1, o2, o3, o4, o5, o6⟩ := hok
        refine mmC_step ?_
        simp only [cd_237, sg_237_0, sg_237_10, sg_237_12, sg_237_40, sg_237_42, mmK_cut cd_237, q_cons, q_G0, q_GS, q_I1, q_L1, q_A1, q_S0, q_S1, q_SS, q_T0, q_T1, q_TS, q_Kn, q_Ki, q_Kl, q_Kr, q_k0, q_kS, q_rc, q_ps, q_pn, q_aload0, q_iload1, q_iconst, q_irem, q_if_eq, q_ireturn1, q_istore2, q_iload2, q_getfieldA, q_iaload, q_icmp_ge, q_sipush, q_imul, q_iadd, q_iinc, q_goto, rf_11_61, rf_11_62, mmKe_1261, mmKe_1262, mmKo_11, mmLen_1261, mmLen_1262, mmR32, mmR64, Option.some.injEq, Int.cast_ofNat_Int, and_true, true_and, if_true, if_false, List.length_cons, List.length_nil, Nat.le_refl, Nat.zero_le, Nat.sub_zero, forall_const, reduceCtorEq, Nat.reduceAdd, Nat.reduceSub, Nat.reduceLeDiff, Nat.reduceEqDiff, Int.reduceAdd, Int.reduceNeg, Int.reduceSub, Int.reduceLT, Int.reduceLE, Int.reduceMul, Int.reduceEq, List.drop_zero, List.drop_succ_cons, ne_eq, not_false_eq_true, not_true_eq_false, false_and, and_false, false_implies, true_implies, reduceIte, mmU_rd, implies_true, or_false, false_or, or_true, true_or]
        rw [ml.1, ev]
        refine ⟨by omega, by omega, fun c => by omega, fun _ => ⟨by omega, by omega, by omega, by omega, by omega, ?_⟩⟩
        rw [q_invV (pay := [])]
        simp only [q_k0, q_kS, q_rc, mmKo_11]
        refine ⟨Nat.le_of_ble_eq_true rfl, by trivial, Nat.zero_le _, Nat.zero_le _, ?_⟩
        refine mT_use (m_layBehind o1 (MB_R (Int.le_refl b) hM f2) (by omega) (by omega) (by omega) ⟨o2.1, by omega⟩ ⟨o3.1, by omega⟩) (fun u I3 q3 => ?_)
        obtain ⟨rfl, f3, m3⟩ := q3
        have f23 := FrR_trans f2 (FrR_H f3)
        simp only [mmK_cut cd_237, q_cons, q_G0, q_GS, q_I1, q_L1, q_A1, q_S0, q_S1, q_SS, q_T0, q_T1, q_TS, q_Kn, q_Ki, q_Kl, q_Kr, q_k0, q_kS, q_rc, q_ps, q_pn, q_aload0, q_iload1, q_iconst, q_irem, q_if_eq, q_ireturn1, q_istore2, q_iload2, q_getfieldA, q_iaload, q_icmp_ge, q_sipush, q_imul, q_iadd, q_iinc, q_goto, rf_11_61, rf_11_62, mmKe_1261, mmKe_1262, mmKo_11, mmLen_1261, mmLen_1262, mmR32, mmR64, Option.some.injEq, Int.cast_ofNat_Int, and_true, true_and, if_true, if_false, List.length_cons, List.length_nil, Nat.le_refl, Nat.zero_le, Nat.sub_zero, forall_const, reduceCtorEq, Nat.reduceAdd, Nat.reduceSub, Nat.reduceLeDiff, Nat.reduceEqDiff, Int.reduceAdd, Int.reduceNeg, Int.reduceSub, Int.reduceLT, Int.reduceLE, Int.reduceMul, Int.reduceEq, List.drop_zero, List.drop_succ_cons, ne_eq, not_false_eq_true, not_true_eq_false, false_and, and_false, false_implies, true_implies, reduceIte, mmU_rd, implies_true, or_false, false_or, or_true, true_or]
        refine ⟨by omega, ?_⟩
        rw [q_invV (pay := [])]
        simp only [q_k0, q_kS, q_rc, mmKo_11]
        refine ⟨Nat.le_of_ble_eq_true rfl, by trivial, Nat.zero_le _, Nat.zero_le _, ?_⟩
        refine mT_use (m_lost2 (B := aft B v) (b := b + 1) (RK_R hR f23) m3 hBa (by omega)) (fun u I4 q4 => ?_)
        obtain ⟨rfl, f4⟩ := q4
        have f24 := FrR_trans f23 (FrR_up f4)
        have ml4 := ML_R (by omega) (ML_H ml f3) f4
        simp only [mmK_cut cd_237, q_cons, q_G0, q_GS, q_I1, q_L1, q_A1, q_S0, q_S1, q_SS, q_T0, q_T1, q_TS, q_Kn, q_Ki, q_Kl, q_Kr, q_k0, q_kS, q_rc, q_ps, q_pn, q_aload0, q_iload1, q_iconst, q_irem, q_if_eq, q_ireturn1, q_istore2, q_iload2, q_getfieldA, q_iaload, q_icmp_ge, q_sipush, q_imul, q_iadd, q_iinc, q_goto, rf_11_61, rf_11_62, mmKe_1261, mmKe_1262, mmKo_11, mmLen_1261, mmLen_1262, mmR32, mmR64, Option.some.injEq, Int.cast_ofNat_Int, and_true, true_and, if_true, if_false, List.length_cons, List.length_nil, Nat.le_refl, Nat.zero_le, Nat.sub_zero, forall_const, reduceCtorEq, Nat.reduceAdd, Nat.reduceSub, Nat.reduceLeDiff, Nat.reduceEqDiff, Int.reduceAdd, Int.reduceNeg, Int.reduceSub, Int.reduceLT, Int.reduceLE, Int.reduceMul, Int.reduceEq, List.drop_zero, List.drop_succ_cons, ne_eq, not_false_eq_true, not_true_eq_false, false_and, and_false, false_implies, true_implies, reduceIte, mmU_rd, implies_true, or_false, false_or, or_true, true_or, bI_eq0]
        refine ⟨fun c2 => ?_, fun c2 => ?_⟩
        · refine mmC_step ?_
          simp only [cd_237, sg_237_0, sg_237_10, sg_237_12, sg_237_40, sg_237_42, mmK_cut cd_237, q_cons, q_G0, q_GS, q_I1, q_L1, q_A1, q_S0, q_S1, q_SS, q_T0, q_T1, q_TS, q_Kn, q_Ki, q_Kl, q_Kr, q_k0, q_kS, q_rc, q_ps, q_pn, q_aload0, q_iload1, q_iconst, q_irem, q_if_eq, q_ireturn1, q_istore2, q_iload2, q_getfieldA, q_iaload, q_icmp_ge, q_sipush, q_imul, q_iadd, q_iinc, q_goto, rf_11_61, rf_11_62, mmKe_1261, mmKe_1262, mmKo_11, mmLen_1261, mmLen_1262, mmR32, mmR64, Option.some.injEq, Int.cast_ofNat_Int, and_true, true_and, if_true, if_false, List.length_cons, List.length_nil, Nat.le_refl, Nat.zero_le, Nat.sub_zero, forall_const, reduceCtorEq, Nat.reduceAdd, Nat.reduceSub, Nat.reduceLeDiff, Nat.reduceEqDiff, Int.reduceAdd, Int.reduceNeg, Int.reduceSub, Int.reduceLT, Int.reduceLE, Int.reduceMul, Int.reduceEq, List.drop_zero, List.drop_succ_cons, ne_eq, not_false_eq_true, not_true_eq_false, false_and, and_false, false_implies, true_implies, reduceIte, mmU_rd, implies_true, or_false, false_or, or_true, true_or]
          refine ⟨by omega, ihq (k + 1) I4 (by omega) f24 ml4 (fun i hi => ?_)⟩
          by_cases ci : i = k
          · rw [ci, hvv]; exact c2
          · exact hn i (by omega)
        · refine mT_in ⟨?_, f24⟩
          rw [bI_pos ⟨hlk, v, hvm, Classical.not_not.mp c2⟩]
    refine mmC_step ?_
    simp only [cd_237, sg_237_0, sg_237_10, sg_237_12, sg_237_40, sg_237_42, mmK_cut cd_237, q_cons, q_G0, q_GS, q_I1, q_L1, q_A1, q_S0, q_S1, q_SS, q_T0, q_T1, q_TS, q_Kn, q_Ki, q_Kl, q_Kr, q_k0, q_kS, q_rc, q_ps, q_pn, q_aload0, q_iload1, q_iconst, q_irem, q_if_eq, q_ireturn1, q_istore2, q_iload2, q_getfieldA, q_iaload, q_icmp_ge, q_sipush, q_imul, q_iadd, q_iinc, q_goto, rf_11_61, rf_11_62, mmKe_1261, mmKe_1262, mmKo_11, mmLen_1261, mmLen_1262, mmR32, mmR64, Option.some.injEq, Int.cast_ofNat_Int, and_true, true_and, if_true, if_false, List.length_cons, List.length_nil, Nat.le_refl, Nat.zero_le, Nat.sub_zero, forall_const, reduceCtorEq, Nat.reduceAdd, Nat.reduceSub, Nat.reduceLeDiff, Nat.reduceEqDiff, Int.reduceAdd, Int.reduceNeg, Int.reduceSub, Int.reduceLT, Int.reduceLE, Int.reduceMul, Int.reduceEq, List.drop_zero, List.drop_succ_cons, ne_eq, not_false_eq_true, not_true_eq_false, false_and, and_false, false_implies, true_implies, reduceIte, mmU_rd, implies_true, or_false, false_or, or_true, true_or]
    exact key (mvs r B b).length 0 I1 (by omega) (FrR_V f1) ml1 (fun i hi => by omega)
  · have c := Classical.not_not.mp c
    refine mT_in ⟨?_, FrR_V f1⟩
    rw [bI_neg]
    rintro ⟨h1, v, h2, _⟩
    rcases c with q | q
    · exact h1 q
    · rw [show mvs r B b = [] from q] at h2
      cases h2
end S825
