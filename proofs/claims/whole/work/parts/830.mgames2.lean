section S830
variable {d a : Nat} {I I' I'' : mMm} {br : Nat → Option mmO} {X : mmX} {B : mBd} {b : Int} {r : mRu} {Q : Option mmV → mmM → Prop}
set_option maxHeartbeats 1000000 in
theorem m_gamesOf {n : Nat} (hn : 1 ≤ n ∧ n ≤ 3) (hR : RK r I) (hM : MB I b B) (hB : BW r B) (hb : 0 ≤ b ∧ b < 69) (hml : ML I b (mvs r B b)) (hlk0 : ¬ lkP r B b) : mmC (d + 10) 232 [mo 11 0, mv b, mv n] (I, mmRf a br, X) (mT a br X fun v I' => v = some (mv (gmV r n B b)) ∧ FrR b I I' ∧ ML I' b (mvs r B b)) := by
  have hq := RQ_of hR.1 hR.2.1 hR.2.2
  have w0 := hR.2.2.1
  have w1 := hR.2.2.2.1
  have hlen : ((mvs r B b).length : Int) ≤ 200 := mvL_cap (m := b) hq hB (n := 25) (by omega)
  have h25 := (pt_in w0 w1 (x := 0) (y := 0) (by omega) (by omega)).2.2.1
  refine mmC_in (by decide) (Nat.le_of_ble_eq_true rfl) (mmC_step ?_)
  simp only [show mmMl 232 = 5 from rfl, mmLs, List.replicate, cd_232, sg_232_0, sg_232_10, sg_232_12, sg_232_57, sg_232_62, sg_232_64, sg_232_66, mmK_cut cd_232, q_cons, q_G0, q_GS, q_I1, q_L1, q_A1, q_S0, q_S1, q_SS, q_T0, q_T1, q_TS, q_Kn, q_Ki, q_Kl, q_Kr, q_k0, q_kS, q_rc, q_ps, q_pn, q_iconst, q_istore3, q_iload2, q_icmp_ne, q_aload0, q_getfieldA, q_iload1, q_iaload, q_ireturn0, q_istore, q_iload, q_icmp_ge, q_sipush, q_imul, q_iadd, q_irem, q_if_ne, q_iload3, q_goto, q_iinc, rf_11_61, rf_11_62, mmKe_1261, mmKe_1262, mmKo_11, mmLen_1261, mmLen_1262, mmR32, mmR64, Option.some.injEq, Int.cast_ofNat_Int, and_true, true_and, if_true, if_false, List.length_cons, List.length_nil, Nat.le_refl, Nat.zero_le, Nat.sub_zero, forall_const, reduceCtorEq, Nat.reduceAdd, Nat.reduceSub, Nat.reduceLeDiff, Nat.reduceEqDiff, Int.reduceAdd, Int.reduceNeg, Int.reduceSub, Int.reduceLT, Int.reduceLE, Int.reduceMul, Int.reduceEq, List.drop_zero, List.drop_succ_cons, ne_eq, not_false_eq_true, not_true_eq_false, false_and, and_false, false_implies, true_implies, reduceIte, mmU_rd, implies_true, or_false, false_or, or_true, true_or]
  refine ⟨fun c => ?_, fun c => ?_⟩
  · obtain ⟨n', rfl⟩ : ∃ n', n = n' + 2 := ⟨n - 2, by omega⟩
    have eg : gmV r (n' + 2) B b = smN (fun v => gmV r (n' + 1) (aft B v) (b + 1)) (mvs r B b) (mvs r B b).length := cI_neg hlk0
    rw [eg]
    have hf := gm_b (b := b) hq (n := n') (by omega) hB
    have key : ∀ (q k : Nat) (I2 : mMm), k + q = (mvs r B b).length → FrR b I I2 → ML I2 b (mvs r B b) → mmK (d + 9) 232 (mT a br X fun v I' => v = some (mv (smN (fun v => gmV r (n' + 1) (aft B v) (b + 1)) (mvs r B b) (mvs r B b).length)) ∧ FrR b I I' ∧ ML I' b (mvs r B b)) 12 [some (mo 11 0), some (mv b), some (mv ((n' + 2 : Nat) : Int)), some (mv (smN (fun v => gmV r (n' + 1) (aft B v) (b + 1)) (mvs r B b) k)), some (mv k)] [] (I2, mmRf a br, X) := by
      intro q
      induction q with
      | zero =>
        intro k I2 hk f2 ml
        have e : k = (mvs r B b).length := by omega
        subst e
        refine mmC_step ?_
        simp only [cd_232, sg_232_0, sg_232_10, sg_232_12, sg_232_57, sg_232_62, sg_232_64, sg_232_66, mmK_cut cd_232, q_cons, q_G0, q_GS, q_I1, q_L1, q_A1, q_S0, q_S1, q_SS, q_T0, q_T1, q_TS, q_Kn, q_Ki, q_Kl, q_Kr, q_k0, q_kS, q_rc, q_ps, q_pn, q_iconst, q_istore3, q_iload2, q_icmp_ne, q_aload0, q_getfieldA, q_iload1, q_iaload, q_ireturn0, q_istore, q_iload, q_icmp_ge, q_sipush, q_imul, q_iadd, q_irem, q_if_ne, q_iload3, q_goto, q_iinc, rf_11_61, rf_11_62, mmKe_1261, mmKe_1262, mmKo_11, mmLen_1261, mmLen_1262, mmR32, mmR64, Option.some.injEq, Int.cast_ofNat_Int, and_true, true_and, if_true, if_false, List.length_cons, List.length_nil, Nat.le_refl, Nat.zero_le, Nat.sub_zero, forall_const, reduceCtorEq, Nat.reduceAdd, Nat.reduceSub, Nat.reduceLeDiff, Nat.reduceEqDiff, Int.reduceAdd, Int.reduceNeg, Int.reduceSub, Int.reduceLT, Int.reduceLE, Int.reduceMul, Int.reduceEq, List.drop_zero, List.drop_succ_cons, ne_eq, not_false_eq_true, not_true_eq_false, false_and, and_false, false_implies, true_implies, reduceIte, mmU_rd, implies_true, or_false, false_or, or_true, true_or]
        rw [ml.1]
        refine ⟨by omega, by omega, fun _ => ?_, fun c => by omega⟩
        refine mmC_step ?_
        simp only [cd_232, sg_232_0, sg_232_10, sg_232_12, sg_232_57, sg_232_62, sg_232_64, sg_232_66, mmK_cut cd_232, q_cons, q_G0, q_GS, q_I1, q_L1, q_A1, q_S0, q_S1, q_SS, q_T0, q_T1, q_TS, q_Kn, q_Ki, q_Kl, q_Kr, q_k0, q_kS, q_rc, q_ps, q_pn, q_iconst, q_istore3, q_iload2, q_icmp_ne, q_aload0, q_getfieldA, q_iload1, q_iaload, q_ireturn0, q_istore, q_iload, q_icmp_ge, q_sipush, q_imul, q_iadd, q_irem, q_if_ne, q_iload3, q_goto, q_iinc, rf_11_61, rf_11_62, mmKe_1261, mmKe_1262, mmKo_11, mmLen_1261, mmLen_1262, mmR32, mmR64, Option.some.injEq, Int.cast_ofNat_Int, and_true, true_and, if_true, if_false, List.length_cons, List.length_nil, Nat.le_refl, Nat.zero_le, Nat.sub_zero, forall_const, reduceCtorEq, Nat.reduceAdd, Nat.reduceSub, Nat.reduceLeDiff, Nat.reduceEqDiff, Int.reduceAdd, Int.reduceNeg, Int.reduceSub, Int.reduceLT, Int.reduceLE, Int.reduceMul, Int.reduceEq, List.drop_zero, List.drop_succ_cons, ne_eq, not_false_eq_true, not_true_eq_false, false_and, and_false, false_implies, true_implies, reduceIte, mmU_rd, implies_true, or_false, false_or, or_true, true_or]
        exact mT_in ⟨rfl, f2, ml⟩
      | succ q ihq =>
        intro k I2 hk f2 ml
        have hvm := getD_mem (L := mvs r B b) (k := k) (by omega)
        have ev := ml.2 k (by omega)
        have hs := smN_in (f := fun v => gmV r (n' + 1) (aft B v) (b + 1)) (L := mvs r B b) hf k (by omega)
        have hs2 : (k : Int) * 40000 ≤ 8000000 := by omega
        have hfk := hf k (by omega)
        simp only at hfk
        have esn : smN (fun v => gmV r (n' + 1) (aft B v) (b + 1)) (mvs r B b) (k + 1) = smN (fun v => gmV r (n' + 1) (aft B v) (b + 1)) (mvs r B b) k + gmV r (n' + 1) (aft B ((mvs r B b).getD k 0)) (b + 1) := rfl
        generalize hvv : (mvs r B b).getD k 0 = v at *
        have hv0 : 0 ≤ v ∧ v < 1600 := (mvL_0 w0 w1 hvm).resolve_right (by omega)
        have hok := mv_ok hq hB hv0.1 (mvL_lf w0 w1 25 hvm)
        have hBa := BW_aft hq hB hok
        obtain ⟨o1, o2, o3, o4, o5, o6⟩ := hok
        refine mmC_step ?_
        simp only [cd_232, sg_232_0, sg_232_10, sg_232_12, sg_232_57, sg_232_62, sg_232_64, sg_232_66, mmK_cut cd_232, q_cons, q_G0, q_GS, q_I1, q_L1, q_A1, q_S0, q_S1, q_SS, q_T0, q_T1, q_TS, q_Kn, q_Ki, q_Kl, q_Kr, q_k0, q_kS, q_rc, q_ps, q_pn, q_iconst, q_istore3, q_iload2, q_icmp_ne, q_aload0, q_getfieldA, q_iload1, q_iaload, q_ireturn0, q_istore, q_iload, q_icmp_ge, q_sipush, q_imul, q_iadd, q_irem, q_if_ne, q_iload3, q_goto, q_iinc, rf_11_61, rf_11_62, mmKe_1261, mmKe_1262, mmKo_11, mmLen_1261, mmLen_1262, mmR32, mmR64, Option.some.injEq, Int.cast_ofNat_Int, and_true, true_and, if_true, if_false, List.length_cons, List.length_nil, Nat.le_refl, Nat.zero_le, Nat.sub_zero, forall_const, reduceCtorEq, Nat.reduceAdd, Nat.reduceSub, Nat.reduceLeDiff, Nat.reduceEqDiff, Int.reduceAdd, Int.reduceNeg, Int.reduceSub, Int.reduceLT, Int.reduceLE, Int.reduceMul, Int.reduceEq, List.drop_zero, List.drop_succ_cons, ne_eq, not_false_eq_true, not_true_eq_false, false_and, and_false, false_implies, true_implies, reduceIte, mmU_rd, implies_true, or_false, false_or, or_true, true_or]
        rw [ml.1, ev]
        refine ⟨by omega, by omega, fun c => by omega, fun _ => ⟨by omega, by omega, by omega, by omega, by omega, ?_⟩⟩
        rw [q_invV (pay := [])]
        simp only [q_k0, q_kS, q_rc, mmKo_11]
        refine ⟨Nat.le_of_ble_eq_true rfl, by trivial, Nat.zero_le _, Nat.zero_le _, ?_⟩
        refine mT_use (m_layBehind o1 (MB_R (Int.le_refl b) hM f2) (by omega) (by omega) (by omega) ⟨o2.1, by omega⟩ ⟨o3.1, by omega⟩) (fun u I3 q3 => ?_)
        obtain ⟨rfl, f3, m3⟩ := q3
        have f23 := FrR_trans f2 (FrR_H f3)
        simp only [mmK_cut cd_232, q_cons, q_G0, q_GS, q_I1, q_L1, q_A1, q_S0, q_S1, q_SS, q_T0, q_T1, q_TS, q_Kn, q_Ki, q_Kl, q_Kr, q_k0, q_kS, q_rc, q_ps, q_pn, q_iconst, q_istore3, q_iload2, q_icmp_ne, q_aload0, q_getfieldA, q_iload1, q_iaload, q_ireturn0, q_istore, q_iload, q_icmp_ge, q_sipush, q_imul, q_iadd, q_irem, q_if_ne, q_iload3, q_goto, q_iinc, rf_11_61, rf_11_62, mmKe_1261, mmKe_1262, mmKo_11, mmLen_1261, mmLen_1262, mmR32, mmR64, Option.some.injEq, Int.cast_ofNat_Int, and_true, true_and, if_true, if_false, List.length_cons, List.length_nil, Nat.le_refl, Nat.zero_le, Nat.sub_zero, forall_const, reduceCtorEq, Nat.reduceAdd, Nat.reduceSub, Nat.reduceLeDiff, Nat.reduceEqDiff, Int.reduceAdd, Int.reduceNeg, Int.reduceSub, Int.reduceLT, Int.reduceLE, Int.reduceMul, Int.reduceEq, List.drop_zero, List.drop_succ_cons, ne_eq, not_false_eq_true, not_true_eq_false, false_and, and_false, false_implies, true_implies, reduceIte, mmU_rd, implies_true, or_false, false_or, or_true, true_or]
        refine ⟨by omega, by omega, by omega, by omega, ?_⟩
        rw [q_invV (pay := [])]
        simp only [q_k0, q_kS, q_rc, mmKo_11]
        refine ⟨Nat.le_of_ble_eq_true rfl, by trivial, Nat.zero_le _, Nat.zero_le _, ?_⟩
        refine mT_use (m_isLost (B := aft B v) (m := b + 1) (RK_R hR f23) m3 hBa (by omega) (by omega) rfl) (fun u I4 q4 => ?_)
        obtain ⟨rfl, f4, ml5⟩ := q4
        have f24 := FrR_trans f23 (FrR_up (FrR_V f4))
        have ml4 := ML_V (by omega) (ML_H ml f3) f4
        have w64 : ∀ (I5 : mMm) z, z = smN (fun v => gmV r (n' + 1) (aft B v) (b + 1)) (mvs r B b) (k + 1) → FrR b I I5 → ML I5 b (mvs r B b) → mmK (d + 9) 232 (mT a br X fun v I' => v = some (mv (smN (fun v => gmV r (n' + 1) (aft B v) (b + 1)) (mvs r B b) (mvs r B b).length)) ∧ FrR b I I' ∧ ML I' b (mvs r B b)) 64 [some (mo 11 0), some (mv b), some (mv ((n' + 2 : Nat) : Int)), some (mv z), some (mv k)] [] (I5, mmRf a br, X) := by
          intro I5 z hz g1 g2
          rw [hz]
          refine mmC_step ?_
          simp only [cd_232, sg_232_0, sg_232_10, sg_232_12, sg_232_57, sg_232_62, sg_232_64, sg_232_66, mmK_cut cd_232, q_cons, q_G0, q_GS, q_I1, q_L1, q_A1, q_S0, q_S1, q_SS, q_T0, q_T1, q_TS, q_Kn, q_Ki, q_Kl, q_Kr, q_k0, q_kS, q_rc, q_ps, q_pn, q_iconst, q_istore3, q_iload2, q_icmp_ne, q_aload0, q_getfieldA, q_iload1, q_iaload, q_ireturn0, q_istore, q_iload, q_icmp_ge, q_sipush, q_imul, q_iadd, q_irem, q_if_ne, q_iload3, q_goto, q_iinc, rf_11_61, rf_11_62, mmKe_1261, mmKe_1262, mmKo_11, mmLen_1261, mmLen_1262, mmR32, mmR64, Option.some.injEq, Int.cast_ofNat_Int, and_true, true_and, if_true, if_false, List.length_cons, List.length_nil, Nat.le_refl, Nat.zero_le, Nat.sub_zero, forall_const, reduceCtorEq, Nat.reduceAdd, Nat.reduceSub, Nat.reduceLeDiff, Nat.reduceEqDiff, Int.reduceAdd, Int.reduceNeg, Int.reduceSub, Int.reduceLT, Int.reduceLE, Int.reduceMul, Int.reduceEq, List.drop_zero, List.drop_succ_cons, ne_eq, not_false_eq_true, not_true_eq_false, false_and, and_false, false_implies, true_implies, reduceIte, mmU_rd, implies_true, or_false, false_or, or_true, true_or]
          exact ⟨by omega, ihq (k + 1) I5 (by omega) g1 g2⟩
        have w62 : ∀ (I5 : mMm) z, z = gmV r (n' + 1) (aft B v) (b + 1) → FrR b I I5 → ML I5 b (mvs r B b) → mmK (d + 9) 232 (mT a br X fun v I' => v = some (mv (smN (fun v => gmV r (n' + 1) (aft B v) (b + 1)) (mvs r B b) (mvs r B b).length)) ∧ FrR b I I' ∧ ML I' b (mvs r B b)) 62 [some (mo 11 0), some (mv b), some (mv ((n' + 2 : Nat) : Int)), some (mv (smN (fun v => gmV r (n' + 1) (aft B v) (b + 1)) (mvs r B b) k)), some (mv k)] [mv z, mv (smN (fun v => gmV r (n' + 1) (aft B v) (b + 1)) (mvs r B b) k)] (I5, mmRf a br, X) := by
          intro I5 z hz g1 g2
          rw [hz]
          refine mmC_step ?_
          simp only [cd_232, sg_232_0, sg_232_10, sg_232_12, sg_232_57, sg_232_62, sg_232_64, sg_232_66, mmK_cut cd_232, q_cons, q_G0, q_GS, q_I1, q_L1, q_A1, q_S0, q_S1, q_SS, q_T0, q_T1, q_TS, q_Kn, q_Ki, q_Kl, q_Kr, q_k0, q_kS, q_rc, q_ps, q_pn, q_iconst, q_istore3, q_iload2, q_icmp_ne, q_aload0, q_getfieldA, q_iload1, q_iaload, q_ireturn0, q_istore, q_iload, q_icmp_ge, q_sipush, q_imul, q_iadd, q_irem, q_if_ne, q_iload3, q_goto, q_iinc, rf_11_61, rf_11_62, mmKe_1261, mmKe_1262, mmKo_11, mmLen_1261, mmLen_1262, mmR32, mmR64, Option.some.injEq, Int.cast_ofNat_Int, and_true, true_and, if_true, if_false, List.length_cons, List.length_nil, Nat.le_refl, Nat.zero_le, Nat.sub_zero, forall_const, reduceCtorEq, Nat.reduceAdd, Nat.reduceSub, Nat.reduceLeDiff, Nat.reduceEqDiff, Int.reduceAdd, Int.reduceNeg, Int.reduceSub, Int.reduceLT, Int.reduceLE, Int.reduceMul, Int.reduceEq, List.drop_zero, List.drop_succ_cons, ne_eq, not_false_eq_true, not_true_eq_false, false_and, and_false, false_implies, true_implies, reduceIte, mmU_rd, implies_true, or_false, false_or, or_true, true_or]
          exact ⟨by omega, w64 I5 _ (by rw [esn]) g1 g2⟩
        simp only [mmK_cut cd_232, q_cons, q_G0, q_GS, q_I1, q_L1, q_A1, q_S0, q_S1, q_SS, q_T0, q_T1, q_TS, q_Kn, q_Ki, q_Kl, q_Kr, q_k0, q_kS, q_rc, q_ps, q_pn, q_iconst, q_istore3, q_iload2, q_icmp_ne, q_aload0, q_getfieldA, q_iload1, q_iaload, q_ireturn0, q_istore, q_iload, q_icmp_ge, q_sipush, q_imul, q_iadd, q_irem, q_if_ne, q_iload3, q_goto, q_iinc, rf_11_61, rf_11_62, mmKe_1261, mmKe_1262, mmKo_11, mmLen_1261, mmLen_1262, mmR32, mmR64, Option.some.injEq, Int.cast_ofNat_Int, and_true, true_and, if_true, if_false, List.length_cons, List.length_nil, Nat.le_refl, Nat.zero_le, Nat.sub_zero, forall_const, reduceCtorEq, Nat.reduceAdd, Nat.reduceSub, Nat.reduceLeDiff, Nat.reduceEqDiff, Int.reduceAdd, Int.reduceNeg, Int.reduceSub, Int.reduceLT, Int.reduceLE, Int.reduceMul, Int.reduceEq, List.drop_zero, List.drop_succ_cons, ne_eq, not_false_eq_true, not_true_eq_false, false_and, and_false, false_implies, true_implies, reduceIte, mmU_rd, implies_true, or_false, false_or, or_true, true_or, bI_eq0, Classical.not_not]
        refine ⟨fun c2 => w64 I4 _ (by rw [esn, gm_lost c2]; omega) f24 ml4, fun c2 => ?_⟩
        have hlk : ¬ lkP r (aft B v) (b + 1) := fun q => c2 (Or.inl q)
        refine ⟨fun c3 => ?_, fun c3 => ?_⟩
        · have e1 : n' = 1 := by omega
          subst e1
          refine mmC_step ?_
          simp only [cd_232, sg_232_0, sg_232_10, sg_232_12, sg_232_57, sg_232_62, sg_232_64, sg_232_66, mmK_cut cd_232, q_cons, q_G0, q_GS, q_I1, q_L1, q_A1, q_S0, q_S1, q_SS, q_T0, q_T1, q_TS, q_Kn, q_Ki, q_Kl, q_Kr, q_k0, q_kS, q_rc, q_ps, q_pn, q_iconst, q_istore3, q_iload2, q_icmp_ne, q_aload0, q_getfieldA, q_iload1, q_iaload, q_ireturn0, q_istore, q_iload, q_icmp_ge, q_sipush, q_imul, q_iadd, q_irem, q_if_ne, q_iload3, q_goto, q_iinc, rf_11_61, rf_11_62, mmKe_1261, mmKe_1262, mmKo_11, mmLen_1261, mmLen_1262, mmR32, mmR64, Option.some.injEq, Int.cast_ofNat_Int, and_true, true_and, if_true, if_false, List.length_cons, List.length_nil, Nat.le_refl, Nat.zero_le, Nat.sub_zero, forall_const, reduceCtorEq, Nat.reduceAdd, Nat.reduceSub, Nat.reduceLeDiff, Nat.reduceEqDiff, Int.reduceAdd, Int.reduceNeg, Int.reduceSub, Int.reduceLT, Int.reduceLE, Int.reduceMul, Int.reduceEq, List.drop_zero, List.drop_succ_cons, ne_eq, not_false_eq_true, not_true_eq_false, false_and, and_false, false_implies, true_implies, reduceIte, mmU_rd, implies_true, or_false, false_or, or_true, true_or]
          refine ⟨by omega, ?_⟩
          rw [q_invV (pay := [])]
          simp only [q_k0, q_kS, q_rc, mmKo_11]
          refine ⟨Nat.le_of_ble_eq_true rfl, by trivial, Nat.zero_le _, Nat.zero_le _, ?_⟩
          refine mT_use (m_games2 (B := aft B v) (b := b + 1) (RK_R hR f24) (MB_V m3 f4) hBa (by omega) ml5) (fun u I5 q5 => ?_)
          obtain ⟨rfl, f5, _⟩ := q5
          have e2 : gmV r (1 + 1) (aft B v) (b + 1) = smN (fun u => gmV r 1 (aft (aft B v) u) (b + 1 + 1)) (mvs r (aft B v) (b + 1)) (mvs r (aft B v) (b + 1)).length := cI_neg hlk
          rw [← e2]
          simp only [mmK_cut cd_232, q_cons, q_G0, q_GS, q_I1, q_L1, q_A1, q_S0, q_S1, q_SS, q_T0, q_T1, q_TS, q_Kn, q_Ki, q_Kl, q_Kr, q_k0, q_kS, q_rc, q_ps, q_pn, q_iconst, q_istore3, q_iload2, q_icmp_ne, q_aload0, q_getfieldA, q_iload1, q_iaload, q_ireturn0, q_istore, q_iload, q_icmp_ge, q_sipush, q_imul, q_iadd, q_irem, q_if_ne, q_iload3, q_goto, q_iinc, rf_11_61, rf_11_62, mmKe_1261, mmKe_1262, mmKo_11, mmLen_1261, mmLen_1262, mmR32, mmR64, Option.some.injEq, Int.cast_ofNat_Int, and_true, true_and, if_true, if_false, List.length_cons, List.length_nil, Nat.le_refl, Nat.zero_le, Nat.sub_zero, forall_const, reduceCtorEq, Nat.reduceAdd, Nat.reduceSub, Nat.reduceLeDiff, Nat.reduceEqDiff, Int.reduceAdd, Int.reduceNeg, Int.reduceSub, Int.reduceLT, Int.reduceLE, Int.reduceMul, Int.reduceEq, List.drop_zero, List.drop_succ_cons, ne_eq, not_false_eq_true, not_true_eq_false, false_and, and_false, false_implies, true_implies, reduceIte, mmU_rd, implies_true, or_false, false_or, or_true, true_or]
          exact w62 I5 _ rfl (FrR_trans f24 (FrR_up f5)) (ML_R (by omega) ml4 f5)
        · have e1 : n' = 0 := by omega
          subst e1
          have e2 : I4 1261 0 (b + 1) = gmV r (0 + 1) (aft B v) (b + 1) := ml5.1.trans (cI_neg hlk).symm
          rw [e2]
          exact ⟨by omega, by omega, by omega, w62 I4 _ rfl f24 ml4⟩
    refine mmC_step ?_
    simp only [cd_232, sg_232_0, sg_232_10, sg_232_12, sg_232_57, sg_232_62, sg_232_64, sg_232_66, mmK_cut cd_232, q_cons, q_G0, q_GS, q_I1, q_L1, q_A1, q_S0, q_S1, q_SS, q_T0, q_T1, q_TS, q_Kn, q_Ki, q_Kl, q_Kr, q_k0, q_kS, q_rc, q_ps, q_pn, q_iconst, q_istore3, q_iload2, q_icmp_ne, q_aload0, q_getfieldA, q_iload1, q_iaload, q_ireturn0, q_istore, q_iload, q_icmp_ge, q_sipush, q_imul, q_iadd, q_irem, q_if_ne, q_iload3, q_goto, q_iinc, rf_11_61, rf_11_62, mmKe_1261, mmKe_1262, mmKo_11, mmLen_1261, mmLen_1262, mmR32, mmR64, Option.some.injEq, Int.cast_ofNat_Int, and_true, true_and, if_true, if_false, List.length_cons, List.length_nil, Nat.le_refl, Nat.zero_le, Nat.sub_zero, forall_const, reduceCtorEq, Nat.reduceAdd, Nat.reduceSub, Nat.reduceLeDiff, Nat.reduceEqDiff, Int.reduceAdd, Int.reduceNeg, Int.reduceSub, Int.reduceLT, Int.reduceLE, Int.reduceMul, Int.reduceEq, List.drop_zero, List.drop_succ_cons, ne_eq, not_false_eq_true, not_true_eq_false, false_and, and_false, false_implies, true_implies, reduceIte, mmU_rd, implies_true, or_false, false_or, or_true, true_or]
    exact key (mvs r B b).length 0 I (by omega) FrR_refl hml
  · have e : n = 1 := by omega
    subst e
    rw [hml.1]
    refine ⟨by omega, by omega, mT_in ⟨?_, FrR_refl, hml⟩⟩
    have eg : gmV r 1 B b = (mvs r B b).length := cI_neg hlk0
    rw [eg]
end S830
