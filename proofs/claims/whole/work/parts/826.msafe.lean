section S826
variable {d a : Nat} {I I' I'' : mMm} {br : Nat → Option mmO} {X : mmX} {B : mBd} {b : Int} {r : mRu} {Q : Option mmV → mmM → Prop}
theorem wl_s {n : Nat} {m : Int} (h : 1 ≤ n ∧ n ≤ 2) : (wlP r n B m).1 = (wlP r 1 B m).1 := by
  have : n = 1 ∨ n = 2 := by omega
  rcases this with q | q <;> subst q <;> rfl
theorem m_wins {n : Nat} (hn : n ≤ 2) (hR : RK r I) (hM : MB I b B) (hB : BW r B) (hb : 0 ≤ b ∧ b < 70) : mmC (d + 10) 238 [mo 11 0, mv b, mv n] (I, mmRf a br, X) (mT a br X fun v I' => v = some (mv (bI (wlP r n B b).1)) ∧ FrR b I I') := by
  refine mmC_in (by decide) (Nat.le_of_ble_eq_true rfl) (mmC_step ?_)
  simp only [show mmMl 238 = 3 from rfl, mmLs, List.replicate, cd_238, sg_238_0, sg_238_8, sg_238_9, mmK_cut cd_238, q_cons, q_G0, q_GS, q_I1, q_L1, q_A1, q_S0, q_S1, q_SS, q_T0, q_T1, q_TS, q_Kn, q_Ki, q_Kl, q_Kr, q_k0, q_kS, q_rc, q_ps, q_pn, q_iload2, q_if_le, q_aload0, q_iload1, q_if_eq, q_iconst, q_goto, q_ireturn1, mmKo_11, mmR32, mmR64, Option.some.injEq, Int.cast_ofNat_Int, and_true, true_and, if_true, if_false, List.length_cons, List.length_nil, Nat.le_refl, Nat.zero_le, Nat.sub_zero, forall_const, reduceCtorEq, Nat.reduceAdd, Nat.reduceSub, Nat.reduceLeDiff, Nat.reduceEqDiff, Int.reduceAdd, Int.reduceNeg, Int.reduceSub, Int.reduceLT, Int.reduceLE, Int.reduceMul, Int.reduceEq, List.drop_zero, List.drop_succ_cons, ne_eq, not_false_eq_true, not_true_eq_false, false_and, and_false, false_implies, true_implies, reduceIte, mmU_rd, implies_true, or_false, false_or, or_true, true_or]
  refine ⟨fun c => ?_, fun c => ?_⟩
  · have e : n = 0 := by omega
    subst e
    refine mmC_step ?_
    simp only [cd_238, sg_238_0, sg_238_8, sg_238_9, mmK_cut cd_238, q_cons, q_G0, q_GS, q_I1, q_L1, q_A1, q_S0, q_S1, q_SS, q_T0, q_T1, q_TS, q_Kn, q_Ki, q_Kl, q_Kr, q_k0, q_kS, q_rc, q_ps, q_pn, q_iload2, q_if_le, q_aload0, q_iload1, q_if_eq, q_iconst, q_goto, q_ireturn1, mmKo_11, mmR32, mmR64, Option.some.injEq, Int.cast_ofNat_Int, and_true, true_and, if_true, if_false, List.length_cons, List.length_nil, Nat.le_refl, Nat.zero_le, Nat.sub_zero, forall_const, reduceCtorEq, Nat.reduceAdd, Nat.reduceSub, Nat.reduceLeDiff, Nat.reduceEqDiff, Int.reduceAdd, Int.reduceNeg, Int.reduceSub, Int.reduceLT, Int.reduceLE, Int.reduceMul, Int.reduceEq, List.drop_zero, List.drop_succ_cons, ne_eq, not_false_eq_true, not_true_eq_false, false_and, and_false, false_implies, true_implies, reduceIte, mmU_rd, implies_true, or_false, false_or, or_true, true_or]
    refine mmC_step ?_
    simp only [cd_238, sg_238_0, sg_238_8, sg_238_9, mmK_cut cd_238, q_cons, q_G0, q_GS, q_I1, q_L1, q_A1, q_S0, q_S1, q_SS, q_T0, q_T1, q_TS, q_Kn, q_Ki, q_Kl, q_Kr, q_k0, q_kS, q_rc, q_ps, q_pn, q_iload2, q_if_le, q_aload0, q_iload1, q_if_eq, q_iconst, q_goto, q_ireturn1, mmKo_11, mmR32, mmR64, Option.some.injEq, Int.cast_ofNat_Int, and_true, true_and, if_true, if_false, List.length_cons, List.length_nil, Nat.le_refl, Nat.zero_le, Nat.sub_zero, forall_const, reduceCtorEq, Nat.reduceAdd, Nat.reduceSub, Nat.reduceLeDiff, Nat.reduceEqDiff, Int.reduceAdd, Int.reduceNeg, Int.reduceSub, Int.reduceLT, Int.reduceLE, Int.reduceMul, Int.reduceEq, List.drop_zero, List.drop_succ_cons, ne_eq, not_false_eq_true, not_true_eq_false, false_and, and_false, false_implies, true_implies, reduceIte, mmU_rd, implies_true, or_false, false_or, or_true, true_or]
    refine mT_in ⟨?_, FrR_refl⟩
    rw [bI_neg (show ¬ (wlP r 0 B b).1 from id)]
  · rw [wl_s (by omega)]
    rw [q_invV (pay := [])]
    simp only [q_k0, q_kS, q_rc, mmKo_11]
    refine ⟨Nat.le_of_ble_eq_true rfl, by trivial, Nat.zero_le _, Nat.zero_le _, ?_⟩
    refine mT_use (m_wins1 hR hM hB hb) (fun v I1 q => ?_)
    obtain ⟨rfl, f1⟩ := q
    generalize (wlP r 1 B b).1 = P
    simp only [mmK_cut cd_238, q_cons, q_G0, q_GS, q_I1, q_L1, q_A1, q_S0, q_S1, q_SS, q_T0, q_T1, q_TS, q_Kn, q_Ki, q_Kl, q_Kr, q_k0, q_kS, q_rc, q_ps, q_pn, q_iload2, q_if_le, q_aload0, q_iload1, q_if_eq, q_iconst, q_goto, q_ireturn1, mmKo_11, mmR32, mmR64, Option.some.injEq, Int.cast_ofNat_Int, and_true, true_and, if_true, if_false, List.length_cons, List.length_nil, Nat.le_refl, Nat.zero_le, Nat.sub_zero, forall_const, reduceCtorEq, Nat.reduceAdd, Nat.reduceSub, Nat.reduceLeDiff, Nat.reduceEqDiff, Int.reduceAdd, Int.reduceNeg, Int.reduceSub, Int.reduceLT, Int.reduceLE, Int.reduceMul, Int.reduceEq, List.drop_zero, List.drop_succ_cons, ne_eq, not_false_eq_true, not_true_eq_false, false_and, and_false, false_implies, true_implies, reduceIte, mmU_rd, implies_true, or_false, false_or, or_true, true_or, bI_eq0]
    refine ⟨fun c2 => ?_, fun c2 => ?_⟩
    · refine mmC_step ?_
      simp only [cd_238, sg_238_0, sg_238_8, sg_238_9, mmK_cut cd_238, q_cons, q_G0, q_GS, q_I1, q_L1, q_A1, q_S0, q_S1, q_SS, q_T0, q_T1, q_TS, q_Kn, q_Ki, q_Kl, q_Kr, q_k0, q_kS, q_rc, q_ps, q_pn, q_iload2, q_if_le, q_aload0, q_iload1, q_if_eq, q_iconst, q_goto, q_ireturn1, mmKo_11, mmR32, mmR64, Option.some.injEq, Int.cast_ofNat_Int, and_true, true_and, if_true, if_false, List.length_cons, List.length_nil, Nat.le_refl, Nat.zero_le, Nat.sub_zero, forall_const, reduceCtorEq, Nat.reduceAdd, Nat.reduceSub, Nat.reduceLeDiff, Nat.reduceEqDiff, Int.reduceAdd, Int.reduceNeg, Int.reduceSub, Int.reduceLT, Int.reduceLE, Int.reduceMul, Int.reduceEq, List.drop_zero, List.drop_succ_cons, ne_eq, not_false_eq_true, not_true_eq_false, false_and, and_false, false_implies, true_implies, reduceIte, mmU_rd, implies_true, or_false, false_or, or_true, true_or]
      refine mmC_step ?_
      simp only [cd_238, sg_238_0, sg_238_8, sg_238_9, mmK_cut cd_238, q_cons, q_G0, q_GS, q_I1, q_L1, q_A1, q_S0, q_S1, q_SS, q_T0, q_T1, q_TS, q_Kn, q_Ki, q_Kl, q_Kr, q_k0, q_kS, q_rc, q_ps, q_pn, q_iload2, q_if_le, q_aload0, q_iload1, q_if_eq, q_iconst, q_goto, q_ireturn1, mmKo_11, mmR32, mmR64, Option.some.injEq, Int.cast_ofNat_Int, and_true, true_and, if_true, if_false, List.length_cons, List.length_nil, Nat.le_refl, Nat.zero_le, Nat.sub_zero, forall_const, reduceCtorEq, Nat.reduceAdd, Nat.reduceSub, Nat.reduceLeDiff, Nat.reduceEqDiff, Int.reduceAdd, Int.reduceNeg, Int.reduceSub, Int.reduceLT, Int.reduceLE, Int.reduceMul, Int.reduceEq, List.drop_zero, List.drop_succ_cons, ne_eq, not_false_eq_true, not_true_eq_false, false_and, and_false, false_implies, true_implies, reduceIte, mmU_rd, implies_true, or_false, false_or, or_true, true_or]
      refine mT_in ⟨?_, f1⟩
      rw [bI_neg c2]
    · refine mmC_step ?_
      simp only [cd_238, sg_238_0, sg_238_8, sg_238_9, mmK_cut cd_238, q_cons, q_G0, q_GS, q_I1, q_L1, q_A1, q_S0, q_S1, q_SS, q_T0, q_T1, q_TS, q_Kn, q_Ki, q_Kl, q_Kr, q_k0, q_kS, q_rc, q_ps, q_pn, q_iload2, q_if_le, q_aload0, q_iload1, q_if_eq, q_iconst, q_goto, q_ireturn1, mmKo_11, mmR32, mmR64, Option.some.injEq, Int.cast_ofNat_Int, and_true, true_and, if_true, if_false, List.length_cons, List.length_nil, Nat.le_refl, Nat.zero_le, Nat.sub_zero, forall_const, reduceCtorEq, Nat.reduceAdd, Nat.reduceSub, Nat.reduceLeDiff, Nat.reduceEqDiff, Int.reduceAdd, Int.reduceNeg, Int.reduceSub, Int.reduceLT, Int.reduceLE, Int.reduceMul, Int.reduceEq, List.drop_zero, List.drop_succ_cons, ne_eq, not_false_eq_true, not_true_eq_false, false_and, and_false, false_implies, true_implies, reduceIte, mmU_rd, implies_true, or_false, false_or, or_true, true_or]
      refine mT_in ⟨?_, f1⟩
      rw [bI_pos (Classical.not_not.mp c2)]
set_option maxHeartbeats 1000000 in
theorem m_safeOf {n : Nat} (hn2 : n ≤ 2) (hR : RK r I) (hM : MB I b B) (hB : BW r B) (hb : 0 ≤ b ∧ b < 69) : mmC (d + 11) 239 [mo 11 0, mv b, mv n] (I, mmRf a br, X) (mT a br X fun v I' => v = some (mv (sfV r n B b)) ∧ FrR b I I') := by
  have hq := RQ_of hR.1 hR.2.1 hR.2.2
  have w0 := hR.2.2.1
  have w1 := hR.2.2.2.1
  have hlen : ((mvs r B b).length : Int) ≤ 200 := mvL_cap (m := b) hq hB (n := 25) (by omega)
  have h25 := (pt_in w0 w1 (x := 0) (y := 0) (by omega) (by omega)).2.2.1
  refine mmC_in (by decide) (Nat.le_of_ble_eq_true rfl) (mmC_step ?_)
  simp only [show mmMl 239 = 4 from rfl, mmLs, List.replicate, cd_239, sg_239_0, sg_239_10, sg_239_12, sg_239_48, sg_239_50, mmK_cut cd_239, q_cons, q_G0, q_GS, q_I1, q_L1, q_A1, q_S0, q_S1, q_SS, q_T0, q_T1, q_TS, q_Kn, q_Ki, q_Kl, q_Kr, q_k0, q_kS, q_rc, q_ps, q_pn, q_aload0, q_iload1, q_iconst, q_irem, q_if_eq, q_bipush, q_ireturn0, q_istore3, q_iload3, q_getfieldA, q_iaload, q_icmp_ge, q_sipush, q_imul, q_iadd, q_iload2, q_if_ne, q_iinc, q_goto, rf_11_61, rf_11_62, mmKe_1261, mmKe_1262, mmKo_11, mmLen_1261, mmLen_1262, mmR32, mmR64, Option.some.injEq, Int.cast_ofNat_Int, and_true, true_and, if_true, if_false, List.length_cons, List.length_nil, Nat.le_refl, Nat.zero_le, Nat.sub_zero, forall_const, reduceCtorEq, Nat.reduceAdd, Nat.reduceSub, Nat.reduceLeDiff, Nat.reduceEqDiff, Int.reduceAdd, Int.reduceNeg, Int.reduceSub, Int.reduceLT, Int.reduceLE, Int.reduceMul, Int.reduceEq, List.drop_zero, List.drop_succ_cons, ne_eq, not_false_eq_true, not_true_eq_false, false_and, and_false, false_implies, true_implies, reduceIte, mmU_rd, implies_true, or_false, false_or, or_true, true_or]
  refine ⟨hb.1, ?_⟩
  rw [q_invV (pay := [])]
  simp only [q_k0, q_kS, q_rc, mmKo_11]
  refine ⟨Nat.le_of_ble_eq_true rfl, by trivial, Nat.zero_le _, Nat.zero_le _, ?_⟩
  refine mT_use (m_isLost hR hM hB (by omega) (by omega) rfl) (fun v I1 q => ?_)
  obtain ⟨rfl, f1, ml1⟩ := q
  simp only [mmK_cut cd_239, q_cons, q_G0, q_GS, q_I1, q_L1, q_A1, q_S0, q_S1, q_SS, q_T0, q_T1, q_TS, q_Kn, q_Ki, q_Kl, q_Kr, q_k0, q_kS, q_rc, q_ps, q_pn, q_aload0, q_iload1, q_iconst, q_irem, q_if_eq, q_bipush, q_ireturn0, q_istore3, q_iload3, q_getfieldA, q_iaload, q_icmp_ge, q_sipush, q_imul, q_iadd, q_iload2, q_if_ne, q_iinc, q_goto, rf_11_61, rf_11_62, mmKe_1261, mmKe_1262, mmKo_11, mmLen_1261, mmLen_1262, mmR32, mmR64, Option.some.injEq, Int.cast_ofNat_Int, and_true, true_and, if_true, if_false, List.length_cons, List.length_nil, Nat.le_refl, Nat.zero_le, Nat.sub_zero, forall_const, reduceCtorEq, Nat.reduceAdd, Nat.reduceSub, Nat.reduceLeDiff, Nat.reduceEqDiff, Int.reduceAdd, Int.reduceNeg, Int.reduceSub, Int.reduceLT, Int.reduceLE, Int.reduceMul, Int.reduceEq, List.drop_zero, List.drop_succ_cons, ne_eq, not_false_eq_true, not_true_eq_false, false_and, and_false, false_implies, true_implies, reduceIte, mmU_rd, implies_true, or_false, false_or, or_true, true_or, bI_eq0]
  refine ⟨fun c => ?_, fun c => ?_⟩
  · have hlk : ¬ lkP r B b := fun q => c (Or.inl q)
    have es : sfV r n B b = fsL (fun v => (wlP r n (aft B v) (b + 1)).1) (mvs r B b) := cI_neg hlk
    rw [es]
    have key : ∀ (q k : Nat) (I2 : mMm), k + q = (mvs r B b).length → FrR b I I2 → ML I2 b (mvs r B b) → (∀ i : Nat, i < k → (wlP r n (aft B ((mvs r B b).getD i 0)) (b + 1)).1) → mmK (d + 10) 239 (mT a br X fun v I' => v = some (mv (fsL (fun v => (wlP r n (aft B v) (b + 1)).1) (mvs r B b))) ∧ FrR b I I') 12 [some (mo 11 0), some (mv b), some (mv n), some (mv k)] [] (I2, mmRf a br, X) := by
      intro q
      induction q with
      | zero =>
        intro k I2 hk f2 ml hn
        have hall : ∀ v, v ∈ mvs r B b → (wlP r n (aft B v) (b + 1)).1 := by
          intro v hv
          obtain ⟨i, hi, e⟩ := mem_getD hv
          have := hn i (by omega)
          rw [e] at this
          exact this
        rw [fsL_none _ hall]
        refine mmC_step ?_
        simp only [cd_239, sg_239_0, sg_239_10, sg_239_12, sg_239_48, sg_239_50, mmK_cut cd_239, q_cons, q_G0, q_GS, q_I1, q_L1, q_A1, q_S0, q_S1, q_SS, q_T0, q_T1, q_TS, q_Kn, q_Ki, q_Kl, q_Kr, q_k0, q_kS, q_rc, q_ps, q_pn, q_aload0, q_iload1, q_iconst, q_irem, q_if_eq, q_bipush, q_ireturn0, q_istore3, q_iload3, q_getfieldA, q_iaload, q_icmp_ge, q_sipush, q_imul, q_iadd, q_iload2, q_if_ne, q_iinc, q_goto, rf_11_61, rf_11_62, mmKe_1261, mmKe_1262, mmKo_11, mmLen_1261, mmLen_1262, mmR32, mmR64, Option.some.injEq, Int.cast_ofNat_Int, and_true, true_and, if_true, if_false, List.length_cons, List.length_nil, Nat.le_refl, Nat.zero_le, Nat.sub_zero, forall_const, reduceCtorEq, Nat.reduceAdd, Nat.reduceSub, Nat.reduceLeDiff, Nat.reduceEqDiff, Int.reduceAdd, Int.reduceNeg, Int.reduceSub, Int.reduceLT, Int.reduceLE, Int.reduceMul, Int.reduceEq, List.drop_zero, List.drop_succ_cons, ne_eq, not_false_eq_true, not_true_eq_false, false_and, and_false, false_implies, true_implies, reduceIte, mmU_rd, implies_true, or_false, false_or, or_true, true_or]
        rw [ml.1]
        refine ⟨by omega, by omega, fun _ => ?_, fun c => by omega⟩
        refine mmC_step ?_
        simp only [cd_239, sg_239_0, sg_239_10, sg_239_12, sg_239_48, sg_239_50, mmK_cut cd_239, q_cons, q_G0, q_GS, q_I1, q_L1, q_A1, q_S0, q_S1, q_SS, q_T0, q_T1, q_TS, q_Kn, q_Ki, q_Kl, q_Kr, q_k0, q_kS, q_rc, q_ps, q_pn, q_aload0, q_iload1, q_iconst, q_irem, q_if_eq, q_bipush, q_ireturn0, q_istore3, q_iload3, q_getfieldA, q_iaload, q_icmp_ge, q_sipush, q_imul, q_iadd, q_iload2, q_if_ne, q_iinc, q_goto, rf_11_61, rf_11_62, mmKe_1261, mmKe_1262, mmKo_11, mmLen_1261, mmLen_1262, mmR32, mmR64, Option.some.injEq, Int.cast_ofNat_Int, and_true, true_and, if_true, if_false, List.length_cons, List.length_nil, Nat.le_refl, Nat.zero_le, Nat.sub_zero, forall_const, reduceCtorEq, Nat.reduceAdd, Nat.reduceSub, Nat.reduceLeDiff, Nat.reduceEqDiff, Int.reduceAdd, Int.reduceNeg, Int.reduceSub, Int.reduceLT, Int.reduceLE, Int.reduceMul, Int.reduceEq, List.drop_zero, List.drop_succ_cons, ne_eq, not_false_eq_true, not_true_eq_false, false_and, and_false, false_implies, true_implies, reduceIte, mmU_rd, implies_true, or_false, false_or, or_true, true_or]
        exact mT_in ⟨rfl, f2⟩
      | succ q ihq =>
        intro k I2 hk f2 ml hn
        have hvm := getD_mem (L := mvs r B b) (k := k) (by omega)
        have ev := ml.2 k (by omega)
        have hfs := fsL_at (W := fun v => (wlP r n (aft B v) (b + 1)).1) (mvs r B b) k (by omega) hn
        generalize hvv : (mvs r B b).getD k 0 = v at *
        have hv0 : 0 ≤ v ∧ v < 1600 := (mvL_0 w0 w1 hvm).resolve_right (by omega)
        have hok := mv_ok hq hB hv0.1 (mvL_lf w0 w1 25 hvm)
        have hBa := BW_aft hq hB hok
        obtain ⟨o1, o2, o3, o4, o5, o6⟩ := hok
        refine mmC_step ?_
        simp only [cd_239, sg_239_0, sg_239_10, sg_239_12, sg_239_48, sg_239_50, mmK_cut cd_239, q_cons, q_G0, q_GS, q_I1, q_L1, q_A1, q_S0, q_S1, q_SS, q_T0, q_T1, q_TS, q_Kn, q_Ki, q_Kl, q_Kr, q_k0, q_kS, q_rc, q_ps, q_pn, q_aload0, q_iload1, q_iconst, q_irem, q_if_eq, q_bipush, q_ireturn0, q_istore3, q_iload3, q_getfieldA, q_iaload, q_icmp_ge, q_sipush, q_imul, q_iadd, q_iload2, q_if_ne, q_iinc, q_goto, rf_11_61, rf_11_62, mmKe_1261, mmKe_1262, mmKo_11, mmLen_1261, mmLen_1262, mmR32, mmR64, Option.some.injEq, Int.cast_ofNat_Int, and_true, true_and, if_true, if_false, List.length_cons, List.length_nil, Nat.le_refl, Nat.zero_le, Nat.sub_zero, forall_const, reduceCtorEq, Nat.reduceAdd, Nat.reduceSub, Nat.reduceLeDiff, Nat.reduceEqDiff, Int.reduceAdd, Int.reduceNeg, Int.reduceSub, Int.reduceLT, Int.reduceLE, Int.reduceMul, Int.reduceEq, List.drop_zero, List.drop_succ_cons, ne_eq, not_false_eq_true, not_true_eq_false, false_and, and_false, false_implies, true_implies, reduceIte, mmU_rd, implies_true, or_false, false_or, or_true, true_or]
        rw [ml.1, ev]
        refine ⟨by omega, by omega, fun c => by omega, fun _ => ⟨by omega, by omega, by omega, by omega, by omega, ?_⟩⟩
        rw [q_invV (pay := [])]
        simp only [q_k0, q_kS, q_rc, mmKo_11]
        refine ⟨Nat.le_of_ble_eq_true rfl, by trivial, Nat.zero_le _, Nat.zero_le _, ?_⟩
        refine mT_use (m_layBehind o1 (MB_R (Int.le_refl b) hM f2) (by omega) (by omega) (by omega) ⟨o2.1, by omega⟩ ⟨o3.1, by omega⟩) (fun u I3 q3 => ?_)
        obtain ⟨rfl, f3, m3⟩ := q3
        have f23 := FrR_trans f2 (FrR_H f3)
        simp only [mmK_cut cd_239, q_cons, q_G0, q_GS, q_I1, q_L1, q_A1, q_S0, q_S1, q_SS, q_T0, q_T1, q_TS, q_Kn, q_Ki, q_Kl, q_Kr, q_k0, q_kS, q_rc, q_ps, q_pn, q_aload0, q_iload1, q_iconst, q_irem, q_if_eq, q_bipush, q_ireturn0, q_istore3, q_iload3, q_getfieldA, q_iaload, q_icmp_ge, q_sipush, q_imul, q_iadd, q_iload2, q_if_ne, q_iinc, q_goto, rf_11_61, rf_11_62, mmKe_1261, mmKe_1262, mmKo_11, mmLen_1261, mmLen_1262, mmR32, mmR64, Option.some.injEq, Int.cast_ofNat_Int, and_true, true_and, if_true, if_false, List.length_cons, List.length_nil, Nat.le_refl, Nat.zero_le, Nat.sub_zero, forall_const, reduceCtorEq, Nat.reduceAdd, Nat.reduceSub, Nat.reduceLeDiff, Nat.reduceEqDiff, Int.reduceAdd, Int.reduceNeg, Int.reduceSub, Int.reduceLT, Int.reduceLE, Int.reduceMul, Int.reduceEq, List.drop_zero, List.drop_succ_cons, ne_eq, not_false_eq_true, not_true_eq_false, false_and, and_false, false_implies, true_implies, reduceIte, mmU_rd, implies_true, or_false, false_or, or_true, true_or]
        refine ⟨by omega, ?_⟩
        rw [q_invV (pay := [])]
        simp only [q_k0, q_kS, q_rc, mmKo_11]
        refine ⟨Nat.le_of_ble_eq_true rfl, by trivial, Nat.zero_le _, Nat.zero_le _, ?_⟩
        refine mT_use (m_wins hn2 (B := aft B v) (b := b + 1) (RK_R hR f23) m3 hBa (by omega)) (fun u I4 q4 => ?_)
        obtain ⟨rfl, f4⟩ := q4
        have f24 := FrR_trans f23 (FrR_up f4)
        have ml4 := ML_R (by omega) (ML_H ml f3) f4
        have ev4 := ml4.2 k (by omega)
        rw [hvv] at ev4
        simp only [mmK_cut cd_239, q_cons, q_G0, q_GS, q_I1, q_L1, q_A1, q_S0, q_S1, q_SS, q_T0, q_T1, q_TS, q_Kn, q_Ki, q_Kl, q_Kr, q_k0, q_kS, q_rc, q_ps, q_pn, q_aload0, q_iload1, q_iconst, q_irem, q_if_eq, q_bipush, q_ireturn0, q_istore3, q_iload3, q_getfieldA, q_iaload, q_icmp_ge, q_sipush, q_imul, q_iadd, q_iload2, q_if_ne, q_iinc, q_goto, rf_11_61, rf_11_62, mmKe_1261, mmKe_1262, mmKo_11, mmLen_1261, mmLen_1262, mmR32, mmR64, Option.some.injEq, Int.cast_ofNat_Int, and_true, true_and, if_true, if_false, List.length_cons, List.length_nil, Nat.le_refl, Nat.zero_le, Nat.sub_zero, forall_const, reduceCtorEq, Nat.reduceAdd, Nat.reduceSub, Nat.reduceLeDiff, Nat.reduceEqDiff, Int.reduceAdd, Int.reduceNeg, Int.reduceSub, Int.reduceLT, Int.reduceLE, Int.reduceMul, Int.reduceEq, List.drop_zero, List.drop_succ_cons, ne_eq, not_false_eq_true, not_true_eq_false, false_and, and_false, false_implies, true_implies, reduceIte, mmU_rd, implies_true, or_false, false_or, or_true, true_or, bI_eq0, Classical.not_not]
        refine ⟨fun c2 => ?_, fun c2 => ?_⟩
        · refine mmC_step ?_
          simp only [cd_239, sg_239_0, sg_239_10, sg_239_12, sg_239_48, sg_239_50, mmK_cut cd_239, q_cons, q_G0, q_GS, q_I1, q_L1, q_A1, q_S0, q_S1, q_SS, q_T0, q_T1, q_TS, q_Kn, q_Ki, q_Kl, q_Kr, q_k0, q_kS, q_rc, q_ps, q_pn, q_aload0, q_iload1, q_iconst, q_irem, q_if_eq, q_bipush, q_ireturn0, q_istore3, q_iload3, q_getfieldA, q_iaload, q_icmp_ge, q_sipush, q_imul, q_iadd, q_iload2, q_if_ne, q_iinc, q_goto, rf_11_61, rf_11_62, mmKe_1261, mmKe_1262, mmKo_11, mmLen_1261, mmLen_1262, mmR32, mmR64, Option.some.injEq, Int.cast_ofNat_Int, and_true, true_and, if_true, if_false, List.length_cons, List.length_nil, Nat.le_refl, Nat.zero_le, Nat.sub_zero, forall_const, reduceCtorEq, Nat.reduceAdd, Nat.reduceSub, Nat.reduceLeDiff, Nat.reduceEqDiff, Int.reduceAdd, Int.reduceNeg, Int.reduceSub, Int.reduceLT, Int.reduceLE, Int.reduceMul, Int.reduceEq, List.drop_zero, List.drop_succ_cons, ne_eq, not_false_eq_true, not_true_eq_false, false_and, and_false, false_implies, true_implies, reduceIte, mmU_rd, implies_true, or_false, false_or, or_true, true_or]
          refine ⟨by omega, ihq (k + 1) I4 (by omega) f24 ml4 (fun i hi => ?_)⟩
          by_cases ci : i = k
          · rw [ci, hvv]; exact c2
          · exact hn i (by omega)
        · rw [ev4]
          refine ⟨by omega, by omega, by omega, by omega, mT_in ⟨?_, f24⟩⟩
          rw [hfs c2]
    refine mmC_step ?_
    simp only [cd_239, sg_239_0, sg_239_10, sg_239_12, sg_239_48, sg_239_50, mmK_cut cd_239, q_cons, q_G0, q_GS, q_I1, q_L1, q_A1, q_S0, q_S1, q_SS, q_T0, q_T1, q_TS, q_Kn, q_Ki, q_Kl, q_Kr, q_k0, q_kS, q_rc, q_ps, q_pn, q_aload0, q_iload1, q_iconst, q_irem, q_if_eq, q_bipush, q_ireturn0, q_istore3, q_iload3, q_getfieldA, q_iaload, q_icmp_ge, q_sipush, q_imul, q_iadd, q_iload2, q_if_ne, q_iinc, q_goto, rf_11_61, rf_11_62, mmKe_1261, mmKe_1262, mmKo_11, mmLen_1261, mmLen_1262, mmR32, mmR64, Option.some.injEq, Int.cast_ofNat_Int, and_true, true_and, if_true, if_false, List.length_cons, List.length_nil, Nat.le_refl, Nat.zero_le, Nat.sub_zero, forall_const, reduceCtorEq, Nat.reduceAdd, Nat.reduceSub, Nat.reduceLeDiff, Nat.reduceEqDiff, Int.reduceAdd, Int.reduceNeg, Int.reduceSub, Int.reduceLT, Int.reduceLE, Int.reduceMul, Int.reduceEq, List.drop_zero, List.drop_succ_cons, ne_eq, not_false_eq_true, not_true_eq_false, false_and, and_false, false_implies, true_implies, reduceIte, mmU_rd, implies_true, or_false, false_or, or_true, true_or]
    exact key (mvs r B b).length 0 I1 (by omega) (FrR_V f1) ml1 (fun i hi => by omega)
  · have c := Classical.not_not.mp c
    refine mT_in ⟨?_, FrR_V f1⟩
    have es : sfV r n B b = -2 := by
      by_cases hlk : lkP r B b
      · exact cI_pos hlk
      · have : mvs r B b = [] := c.resolve_left hlk
        unfold sfV
        rw [cI_neg hlk, this]
        rfl
    rw [es]
end S826
