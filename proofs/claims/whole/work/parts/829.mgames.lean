section S829
variable {d a : Nat} {I I' I'' : mMm} {br : Nat → Option mmO} {X : mmX} {B : mBd} {b : Int} {r : mRu} {Q : Option mmV → mmM → Prop}
theorem gm_lost {n : Nat} {m : Int} (h : lsP r B m) : gmV r (n + 1) B m = 0 := by
  by_cases c : lkP r B m
  · cases n with
    | zero => exact cI_pos c
    | succ n => exact cI_pos c
  · have e : mvs r B m = [] := h.resolve_left c
    cases n with
    | zero =>
      show cI (lkP r B m) 0 (mvs r B m).length = 0
      rw [cI_neg c, e]; rfl
    | succ n =>
      show cI (lkP r B m) 0 (smN _ (mvs r B m) (mvs r B m).length) = 0
      rw [cI_neg c, e]; rfl
theorem gm_b (hq : RQ r) {n : Nat} (hn : n ≤ 1) (hB : BW r B) : ∀ k : Nat, k < (mvs r B b).length → 0 ≤ (fun v => gmV r (n + 1) (aft B v) (b + 1)) ((mvs r B b).getD k 0) ∧ (fun v => gmV r (n + 1) (aft B v) (b + 1)) ((mvs r B b).getD k 0) ≤ 40000 := by
  intro k hk
  have hvm := getD_mem (L := mvs r B b) hk
  have hv0 := (mvL_0 hq.1.1 hq.1.2.1 hvm).resolve_right (by omega)
  have h1 := gm_in hq (n + 1) (aft B ((mvs r B b).getD k 0)) (b + 1) (BW_aft hq hB (mv_ok hq hB hv0.1 (mvL_lf hq.1.1 hq.1.2.1 25 hvm)))
  have h2 : p200 (n + 1) ≤ 40000 := by
    have : n = 0 ∨ n = 1 := by omega
    rcases this with q | q <;> subst q <;> decide
  exact ⟨h1.1, Int.le_trans h1.2 h2⟩
set_option maxHeartbeats 1000000 in
theorem m_games2 (hR : RK r I) (hM : MB I b B) (hB : BW r B) (hb : 0 ≤ b ∧ b < 70) (hml : ML I b (mvs r B b)) : mmC (d + 9) 233 [mo 11 0, mv b] (I, mmRf a br, X) (mT a br X fun v I' => v = some (mv (smN (fun v => gmV r 1 (aft B v) (b + 1)) (mvs r B b) (mvs r B b).length)) ∧ FrR b I I' ∧ ML I' b (mvs r B b)) := by
  have hq := RQ_of hR.1 hR.2.1 hR.2.2
  have w0 := hR.2.2.1
  have w1 := hR.2.2.2.1
  have hlen : ((mvs r B b).length : Int) ≤ 200 := mvL_cap (m := b) hq hB (n := 25) (by omega)
  have h25 := (pt_in w0 w1 (x := 0) (y := 0) (by omega) (by omega)).2.2.1
  have hf := gm_b (b := b) hq (n := 0) (by omega) hB
  have key : ∀ (q k : Nat) (I2 : mMm), k + q = (mvs r B b).length → FrR b I I2 → ML I2 b (mvs r B b) → mmK (d + 8) 233 (mT a br X fun v I' => v = some (mv (smN (fun v => gmV r 1 (aft B v) (b + 1)) (mvs r B b) (mvs r B b).length)) ∧ FrR b I I' ∧ ML I' b (mvs r B b)) 4 [some (mo 11 0), some (mv b), some (mv (smN (fun v => gmV r 1 (aft B v) (b + 1)) (mvs r B b) k)), some (mv k)] [] (I2, mmRf a br, X) := by
    intro q
    induction q with
    | zero =>
      intro k I2 hk f2 ml
      have e : k = (mvs r B b).length := by omega
      subst e
      refine mmC_step ?_
      simp only [cd_233, sg_233_0, sg_233_4, sg_233_47, sg_233_49, mmK_cut cd_233, q_cons, q_G0, q_GS, q_I1, q_L1, q_A1, q_S0, q_S1, q_SS, q_T0, q_T1, q_TS, q_Kn, q_Ki, q_Kl, q_Kr, q_k0, q_kS, q_rc, q_ps, q_pn, q_iconst, q_istore2, q_istore3, q_iload3, q_aload0, q_getfieldA, q_iload1, q_iaload, q_icmp_ge, q_sipush, q_imul, q_iadd, q_irem, q_if_ne, q_iload2, q_iinc, q_goto, q_ireturn0, rf_11_61, rf_11_62, mmKe_1261, mmKe_1262, mmKo_11, mmLen_1261, mmLen_1262, mmR32, mmR64, Option.some.injEq, Int.cast_ofNat_Int, and_true, true_and, if_true, if_false, List.length_cons, List.length_nil, Nat.le_refl, Nat.zero_le, Nat.sub_zero, forall_const, reduceCtorEq, Nat.reduceAdd, Nat.reduceSub, Nat.reduceLeDiff, Nat.reduceEqDiff, Int.reduceAdd, Int.reduceNeg, Int.reduceSub, Int.reduceLT, Int.reduceLE, Int.reduceMul, Int.reduceEq, List.drop_zero, List.drop_succ_cons, ne_eq, not_false_eq_true, not_true_eq_false, false_and, and_false, false_implies, true_implies, reduceIte, mmU_rd, implies_true, or_false, false_or, or_true, true_or]
      rw [ml.1]
      refine ⟨by omega, by omega, fun _ => ?_, fun c => by omega⟩
      refine mmC_step ?_
      simp only [cd_233, sg_233_0, sg_233_4, sg_233_47, sg_233_49, mmK_cut cd_233, q_cons, q_G0, q_GS, q_I1, q_L1, q_A1, q_S0, q_S1, q_SS, q_T0, q_T1, q_TS, q_Kn, q_Ki, q_Kl, q_Kr, q_k0, q_kS, q_rc, q_ps, q_pn, q_iconst, q_istore2, q_istore3, q_iload3, q_aload0, q_getfieldA, q_iload1, q_iaload, q_icmp_ge, q_sipush, q_imul, q_iadd, q_irem, q_if_ne, q_iload2, q_iinc, q_goto, q_ireturn0, rf_11_61, rf_11_62, mmKe_1261, mmKe_1262, mmKo_11, mmLen_1261, mmLen_1262, mmR32, mmR64, Option.some.injEq, Int.cast_ofNat_Int, and_true, true_and, if_true, if_false, List.length_cons, List.length_nil, Nat.le_refl, Nat.zero_le, Nat.sub_zero, forall_const, reduceCtorEq, Nat.reduceAdd, Nat.reduceSub, Nat.reduceLeDiff, Nat.reduceEqDiff, Int.reduceAdd, Int.reduceNeg, Int.reduceSub, Int.reduceLT, Int.reduceLE, Int.reduceMul, Int.reduceEq, List.drop_zero, List.drop_succ_cons, ne_eq, not_false_eq_true, not_true_eq_false, false_and, and_false, false_implies, true_implies, reduceIte, mmU_rd, implies_true, or_false, false_or, or_true, true_or]
      exact mT_in ⟨rfl, f2, ml⟩
    | succ q ihq =>
      intro k I2 hk f2 ml
      have hvm := getD_mem (L := mvs r B b) (k := k) (by omega)
      have ev := ml.2 k (by omega)
      have hs := smN_in (f := fun v => gmV r 1 (aft B v) (b + 1)) (L := mvs r B b) hf k (by omega)
      have hs2 : (k : Int) * 40000 ≤ 8000000 := by omega
      have esn : smN (fun v => gmV r 1 (aft B v) (b + 1)) (mvs r B b) (k + 1) = smN (fun v => gmV r 1 (aft B v) (b + 1)) (mvs r B b) k + gmV r 1 (aft B ((mvs r B b).getD k 0)) (b + 1) := rfl
      generalize hvv : (mvs r B b).getD k 0 = v at *
      have hv0 : 0 ≤ v ∧ v < 1600 := (mvL_0 w0 w1 hvm).resolve_right (by omega)
      have hok := mv_ok hq hB hv0.1 (mvL_lf w0 w1 25 hvm)
      have hBa := BW_aft hq hB hok
      have hla : ((mvs r (aft B v) (b + 1)).length : Int) ≤ 200 := mvL_cap (m := b + 1) hq hBa (n := 25) (by omega)
      obtain ⟨o1, o2, o3, o4, o5, o6⟩ := hok
      refine mmC_step ?_
      simp only [cd_233, sg_233_0, sg_233_4, sg_233_47, sg_233_49, mmK_cut cd_233, q_cons, q_G0, q_GS, q_I1, q_L1, q_A1, q_S0, q_S1, q_SS, q_T0, q_T1, q_TS, q_Kn, q_Ki, q_Kl, q_Kr, q_k0, q_kS, q_rc, q_ps, q_pn, q_iconst, q_istore2, q_istore3, q_iload3, q_aload0, q_getfieldA, q_iload1, q_iaload, q_icmp_ge, q_sipush, q_imul, q_iadd, q_irem, q_if_ne, q_iload2, q_iinc, q_goto, q_ireturn0, rf_11_61, rf_11_62, mmKe_1261, mmKe_1262, mmKo_11, mmLen_1261, mmLen_1262, mmR32, mmR64, Option.some.injEq, Int.cast_ofNat_Int, and_true, true_and, if_true, if_false, List.length_cons, List.length_nil, Nat.le_refl, Nat.zero_le, Nat.sub_zero, forall_const, reduceCtorEq, Nat.reduceAdd, Nat.reduceSub, Nat.reduceLeDiff, Nat.reduceEqDiff, Int.reduceAdd, Int.reduceNeg, Int.reduceSub, Int.reduceLT, Int.reduceLE, Int.reduceMul, Int.reduceEq, List.drop_zero, List.drop_succ_cons, ne_eq, not_false_eq_true, not_true_eq_false, false_and, and_false, false_implies, true_implies, reduceIte, mmU_rd, implies_true, or_false, false_or, or_true, true_or]
      rw [ml.1, ev]
      refine ⟨by omega, by omega, fun c => by omega, fun _ => ⟨by omega, by omega, by omega, by omega, by omega, ?_⟩⟩
      rw [q_invV (pay := [])]
      simp only [q_k0, q_kS, q_rc, mmKo_11]
      refine ⟨Nat.le_of_ble_eq_true rfl, by trivial, Nat.zero_le _, Nat.zero_le _, ?_⟩
      refine mT_use (m_layBehind o1 (MB_R (Int.le_refl b) hM f2) (by omega) (by omega) (by omega) ⟨o2.1, by omega⟩ ⟨o3.1, by omega⟩) (fun u I3 q3 => ?_)
      obtain ⟨rfl, f3, m3⟩ := q3
      have f23 := FrR_trans f2 (FrR_H f3)
      simp only [mmK_cut cd_233, q_cons, q_G0, q_GS, q_I1, q_L1, q_A1, q_S0, q_S1, q_SS, q_T0, q_T1, q_TS, q_Kn, q_Ki, q_Kl, q_Kr, q_k0, q_kS, q_rc, q_ps, q_pn, q_iconst, q_istore2, q_istore3, q_iload3, q_aload0, q_getfieldA, q_iload1, q_iaload, q_icmp_ge, q_sipush, q_imul, q_iadd, q_irem, q_if_ne, q_iload2, q_iinc, q_goto, q_ireturn0, rf_11_61, rf_11_62, mmKe_1261, mmKe_1262, mmKo_11, mmLen_1261, mmLen_1262, mmR32, mmR64, Option.some.injEq, Int.cast_ofNat_Int, and_true, true_and, if_true, if_false, List.length_cons, List.length_nil, Nat.le_refl, Nat.zero_le, Nat.sub_zero, forall_const, reduceCtorEq, Nat.reduceAdd, Nat.reduceSub, Nat.reduceLeDiff, Nat.reduceEqDiff, Int.reduceAdd, Int.reduceNeg, Int.reduceSub, Int.reduceLT, Int.reduceLE, Int.reduceMul, Int.reduceEq, List.drop_zero, List.drop_succ_cons, ne_eq, not_false_eq_true, not_true_eq_false, false_and, and_false, false_implies, true_implies, reduceIte, mmU_rd, implies_true, or_false, false_or, or_true, true_or]
      refine ⟨by omega, by omega, by omega, by omega, ?_⟩
      rw [q_invV (pay := [])]
      simp only [q_k0, q_kS, q_rc, mmKo_11]
      refine ⟨Nat.le_of_ble_eq_true rfl, by trivial, Nat.zero_le _, Nat.zero_le _, ?_⟩
      refine mT_use (m_isLost (B := aft B v) (m := b + 1) (RK_R hR f23) m3 hBa (by omega) (by omega) rfl) (fun u I4 q4 => ?_)
      obtain ⟨rfl, f4, ml5⟩ := q4
      have f24 := FrR_trans f23 (FrR_up (FrR_V f4))
      have ml4 := ML_V (by omega) (ML_H ml f3) f4
      have w47 : ∀ z, z = smN (fun v => gmV r 1 (aft B v) (b + 1)) (mvs r B b) (k + 1) → mmK (d + 8) 233 (mT a br X fun v I' => v = some (mv (smN (fun v => gmV r 1 (aft B v) (b + 1)) (mvs r B b) (mvs r B b).length)) ∧ FrR b I I' ∧ ML I' b (mvs r B b)) 47 [some (mo 11 0), some (mv b), some (mv z), some (mv k)] [] (I4, mmRf a br, X) := by
        intro z hz
        rw [hz]
        refine mmC_step ?_
        simp only [cd_233, sg_233_0, sg_233_4, sg_233_47, sg_233_49, mmK_cut cd_233, q_cons, q_G0, q_GS, q_I1, q_L1, q_A1, q_S0, q_S1, q_SS, q_T0, q_T1, q_TS, q_Kn, q_Ki, q_Kl, q_Kr, q_k0, q_kS, q_rc, q_ps, q_pn, q_iconst, q_istore2, q_istore3, q_iload3, q_aload0, q_getfieldA, q_iload1, q_iaload, q_icmp_ge, q_sipush, q_imul, q_iadd, q_irem, q_if_ne, q_iload2, q_iinc, q_goto, q_ireturn0, rf_11_61, rf_11_62, mmKe_1261, mmKe_1262, mmKo_11, mmLen_1261, mmLen_1262, mmR32, mmR64, Option.some.injEq, Int.cast_ofNat_Int, and_true, true_and, if_true, if_false, List.length_cons, List.length_nil, Nat.le_refl, Nat.zero_le, Nat.sub_zero, forall_const, reduceCtorEq, Nat.reduceAdd, Nat.reduceSub, Nat.reduceLeDiff, Nat.reduceEqDiff, Int.reduceAdd, Int.reduceNeg, Int.reduceSub, Int.reduceLT, Int.reduceLE, Int.reduceMul, Int.reduceEq, List.drop_zero, List.drop_succ_cons, ne_eq, not_false_eq_true, not_true_eq_false, false_and, and_false, false_implies, true_implies, reduceIte, mmU_rd, implies_true, or_false, false_or, or_true, true_or]
        exact ⟨by omega, ihq (k + 1) I4 (by omega) f24 ml4⟩
      simp only [mmK_cut cd_233, q_cons, q_G0, q_GS, q_I1, q_L1, q_A1, q_S0, q_S1, q_SS, q_T0, q_T1, q_TS, q_Kn, q_Ki, q_Kl, q_Kr, q_k0, q_kS, q_rc, q_ps, q_pn, q_iconst, q_istore2, q_istore3, q_iload3, q_aload0, q_getfieldA, q_iload1, q_iaload, q_icmp_ge, q_sipush, q_imul, q_iadd, q_irem, q_if_ne, q_iload2, q_iinc, q_goto, q_ireturn0, rf_11_61, rf_11_62, mmKe_1261, mmKe_1262, mmKo_11, mmLen_1261, mmLen_1262, mmR32, mmR64, Option.some.injEq, Int.cast_ofNat_Int, and_true, true_and, if_true, if_false, List.length_cons, List.length_nil, Nat.le_refl, Nat.zero_le, Nat.sub_zero, forall_const, reduceCtorEq, Nat.reduceAdd, Nat.reduceSub, Nat.reduceLeDiff, Nat.reduceEqDiff, Int.reduceAdd, Int.reduceNeg, Int.reduceSub, Int.reduceLT, Int.reduceLE, Int.reduceMul, Int.reduceEq, List.drop_zero, List.drop_succ_cons, ne_eq, not_false_eq_true, not_true_eq_false, false_and, and_false, false_implies, true_implies, reduceIte, mmU_rd, implies_true, or_false, false_or, or_true, true_or, bI_eq0, Classical.not_not]
      refine ⟨fun c2 => w47 _ (by rw [esn, gm_lost c2]; omega), fun c2 => ?_⟩
      have hlk : ¬ lkP r (aft B v) (b + 1) := fun q => c2 (Or.inl q)
      have e1 : I4 1261 0 (b + 1) = gmV r 1 (aft B v) (b + 1) := ml5.1.trans (cI_neg hlk).symm
      have e2 : gmV r 1 (aft B v) (b + 1) = (mvs r (aft B v) (b + 1)).length := cI_neg hlk
      rw [e1]
      refine ⟨by omega, by omega, by omega, by omega, w47 _ (by rw [esn])⟩
  refine mmC_in (by decide) (Nat.le_of_ble_eq_true rfl) (mmC_step ?_)
  simp only [show mmMl 233 = 4 from rfl, mmLs, List.replicate, cd_233, sg_233_0, sg_233_4, sg_233_47, sg_233_49, mmK_cut cd_233, q_cons, q_G0, q_GS, q_I1, q_L1, q_A1, q_S0, q_S1, q_SS, q_T0, q_T1, q_TS, q_Kn, q_Ki, q_Kl, q_Kr, q_k0, q_kS, q_rc, q_ps, q_pn, q_iconst, q_istore2, q_istore3, q_iload3, q_aload0, q_getfieldA, q_iload1, q_iaload, q_icmp_ge, q_sipush, q_imul, q_iadd, q_irem, q_if_ne, q_iload2, q_iinc, q_goto, q_ireturn0, rf_11_61, rf_11_62, mmKe_1261, mmKe_1262, mmKo_11, mmLen_1261, mmLen_1262, mmR32, mmR64, Option.some.injEq, Int.cast_ofNat_Int, and_true, true_and, if_true, if_false, List.length_cons, List.length_nil, Nat.le_refl, Nat.zero_le, Nat.sub_zero, forall_const, reduceCtorEq, Nat.reduceAdd, Nat.reduceSub, Nat.reduceLeDiff, Nat.reduceEqDiff, Int.reduceAdd, Int.reduceNeg, Int.reduceSub, Int.reduceLT, Int.reduceLE, Int.reduceMul, Int.reduceEq, List.drop_zero, List.drop_succ_cons, ne_eq, not_false_eq_true, not_true_eq_false, false_and, and_false, false_implies, true_implies, reduceIte, mmU_rd, implies_true, or_false, false_or, or_true, true_or]
  exact key (mvs r B b).length 0 I (by omega) FrR_refl hml
end S829
