theorem fsL_in {W : Int → Prop} : ∀ L : List Int, fsL W L = -2 ∨ fsL W L ∈ L
  | [] => Or.inl rfl
  | v :: L => by
    show cI (W v) (fsL W L) v = -2 ∨ cI (W v) (fsL W L) v ∈ v :: L
    by_cases c : W v
    · rw [cI_pos c]
      exact (fsL_in L).imp_right (List.mem_cons_of_mem _)
    · rw [cI_neg c]
      exact Or.inr (List.mem_cons_self ..)
theorem sf_in {r : mRu} (hw : 2 ≤ r 6 0 ∧ r 6 0 ≤ 5) (hh : 2 ≤ r 6 1 ∧ r 6 1 ≤ 5) {n : Nat} {B : mBd} {m : Int} : sfV r n B m = -2 ∨ 0 ≤ sfV r n B m := by
  unfold sfV
  by_cases c : lkP r B m
  · rw [cI_pos c]; exact Or.inl rfl
  · rw [cI_neg c]
    rcases fsL_in (W := fun v => (wlP r n (aft B v) (m + 1)).1) (mvs r B m) with q | q
    · exact Or.inl q
    · exact Or.inr ((mvL_0 hw hh q).resolve_right (by omega)).1
section S827
variable {d a : Nat} {I I' I'' : mMm} {br : Nat → Option mmO} {X : mmX} {B : mBd} {b : Int} {r : mRu} {Q : Option mmV → mmM → Prop}
set_option maxHeartbeats 1000000 in
theorem m_refutedOf {n : Nat} (hn2 : n ≤ 2) (hR : RK r I) (hM : MB I b B) (hB : BW r B) (hb : 0 ≤ b ∧ b < 68) (hp : I 11 0 63 = b) (hml : ML I b (mvs r B b)) : mmC (d + 12) 241 [mo 11 0, mv n] (I, mmRf a br, X) (mT a br X fun v I' => v = some (mv (rfV r n B b)) ∧ FrR b I I' ∧ ML I' b (mvs r B b)) := by
  have hq := RQ_of hR.1 hR.2.1 hR.2.2
  have w0 := hR.2.2.1
  have w1 := hR.2.2.2.1
  have hlen : ((mvs r B b).length : Int) ≤ 200 := mvL_cap (m := b) hq hB (n := 25) (by omega)
  have h25 := (pt_in w0 w1 (x := 0) (y := 0) (by omega) (by omega)).2.2.1
  have e63 : ∀ {I2 : mMm}, FrR b I I2 → I2 11 0 63 = b := fun f => (f _ _ _ (by omega) (by decide) (by decide) (by omega) (by omega) (by omega)).trans hp
  have key : ∀ (q k : Nat) (I2 : mMm), k + q = (mvs r B b).length → FrR b I I2 → ML I2 b (mvs r B b) → (∀ i : Nat, i < k → ¬ sfV r n (aft B ((mvs r B b).getD i 0)) (b + 1) = -2) → mmK (d + 11) 241 (mT a br X fun v I' => v = some (mv (rfV r n B b)) ∧ FrR b I I' ∧ ML I' b (mvs r B b)) 2 [some (mo 11 0), some (mv n), some (mv k)] [] (I2, mmRf a br, X) := by
    intro q
    induction q with
    | zero =>
      intro k I2 hk f2 ml hn
      have hall : ∀ v, v ∈ mvs r B b → ¬ sfV r n (aft B v) (b + 1) = -2 := by
        intro v hv
        obtain ⟨i, hi, e⟩ := mem_getD hv
        have := hn i (by omega)
        rw [e] at this
        exact this
      have e : rfV r n B b = -2 := fsL_none _ hall
      rw [e]
      refine mmC_step ?_
      simp only [cd_241, sg_241_0, sg_241_2, sg_241_44, sg_241_46, mmK_cut cd_241, q_cons, q_G0, q_GS, q_I1, q_L1, q_A1, q_S0, q_S1, q_SS, q_T0, q_T1, q_TS, q_Kn, q_Ki, q_Kl, q_Kr, q_k0, q_kS, q_rc, q_ps, q_pn, q_iconst, q_istore2, q_iload2, q_aload0, q_getfieldA, q_getfieldI, q_iaload, q_icmp_ge, q_sipush, q_imul, q_iadd, q_iload1, q_if_ge, q_ireturn0, q_iinc, q_goto, q_bipush, rf_11_61, rf_11_62, mmKe_1261, mmKe_1262, mmKo_11, mmLen_1261, mmLen_1262, mmR32, mmR64, Option.some.injEq, Int.cast_ofNat_Int, and_true, true_and, if_true, if_false, List.length_cons, List.length_nil, Nat.le_refl, Nat.zero_le, Nat.sub_zero, forall_const, reduceCtorEq, Nat.reduceAdd, Nat.reduceSub, Nat.reduceLeDiff, Nat.reduceEqDiff, Int.reduceAdd, Int.reduceNeg, Int.reduceSub, Int.reduceLT, Int.reduceLE, Int.reduceMul, Int.reduceEq, List.drop_zero, List.drop_succ_cons, ne_eq, not_false_eq_true, not_true_eq_false, false_and, and_false, false_implies, true_implies, reduceIte, mmU_rd, implies_true, or_false, false_or, or_true, true_or]
      rw [e63 f2, ml.1]
      refine ⟨by omega, by omega, fun _ => ?_, fun c => by omega⟩
      refine mmC_step ?_
      simp only [cd_241, sg_241_0, sg_241_2, sg_241_44, sg_241_46, mmK_cut cd_241, q_cons, q_G0, q_GS, q_I1, q_L1, q_A1, q_S0, q_S1, q_SS, q_T0, q_T1, q_TS, q_Kn, q_Ki, q_Kl, q_Kr, q_k0, q_kS, q_rc, q_ps, q_pn, q_iconst, q_istore2, q_iload2, q_aload0, q_getfieldA, q_getfieldI, q_iaload, q_icmp_ge, q_sipush, q_imul, q_iadd, q_iload1, q_if_ge, q_ireturn0, q_iinc, q_goto, q_bipush, rf_11_61, rf_11_62, mmKe_1261, mmKe_1262, mmKo_11, mmLen_1261, mmLen_1262, mmR32, mmR64, Option.some.injEq, Int.cast_ofNat_Int, and_true, true_and, if_true, if_false, List.length_cons, List.length_nil, Nat.le_refl, Nat.zero_le, Nat.sub_zero, forall_const, reduceCtorEq, Nat.reduceAdd, Nat.reduceSub, Nat.reduceLeDiff, Nat.reduceEqDiff, Int.reduceAdd, Int.reduceNeg, Int.reduceSub, Int.reduceLT, Int.reduceLE, Int.reduceMul, Int.reduceEq, List.drop_zero, List.drop_succ_cons, ne_eq, not_false_eq_true, not_true_eq_false, false_and, and_false, false_implies, true_implies, reduceIte, mmU_rd, implies_true, or_false, false_or, or_true, true_or]
      exact mT_in ⟨rfl, f2, ml⟩
    | succ q ihq =>
      intro k I2 hk f2 ml hn
      have hvm := getD_mem (L := mvs r B b) (k := k) (by omega)
      have ev := ml.2 k (by omega)
      have hfs : _ → rfV r n B b = _ := fsL_at (W := fun v => ¬ sfV r n (aft B v) (b + 1) = -2) (mvs r B b) k (by omega) hn
      generalize hvv : (mvs r B b).getD k 0 = v at *
      have hv0 : 0 ≤ v ∧ v < 1600 := (mvL_0 w0 w1 hvm).resolve_right (by omega)
      have hok := mv_ok hq hB hv0.1 (mvL_lf w0 w1 25 hvm)
      have hBa := BW_aft hq hB hok
      obtain ⟨o1, o2, o3, o4, o5, o6⟩ := hok
      refine mmC_step ?_
      simp only [cd_241, sg_241_0, sg_241_2, sg_241_44, sg_241_46, mmK_cut cd_241, q_cons, q_G0, q_GS, q_I1, q_L1, q_A1, q_S0, q_S1, q_SS, q_T0, q_T1, q_TS, q_Kn, q_Ki, q_Kl, q_Kr, q_k0, q_kS, q_rc, q_ps, q_pn, q_iconst, q_istore2, q_iload2, q_aload0, q_getfieldA, q_getfieldI, q_iaload, q_icmp_ge, q_sipush, q_imul, q_iadd, q_iload1, q_if_ge, q_ireturn0, q_iinc, q_goto, q_bipush, rf_11_61, rf_11_62, mmKe_1261, mmKe_1262, mmKo_11, mmLen_1261, mmLen_1262, mmR32, mmR64, Option.some.injEq, Int.cast_ofNat_Int, and_true, true_and, if_true, if_false, List.length_cons, List.length_nil, Nat.le_refl, Nat.zero_le, Nat.sub_zero, forall_const, reduceCtorEq, Nat.reduceAdd, Nat.reduceSub, Nat.reduceLeDiff, Nat.reduceEqDiff, Int.reduceAdd, Int.reduceNeg, Int.reduceSub, Int.reduceLT, Int.reduceLE, Int.reduceMul, Int.reduceEq, List.drop_zero, List.drop_succ_cons, ne_eq, not_false_eq_true, not_true_eq_false, false_and, and_false, false_implies, true_implies, reduceIte, mmU_rd, implies_true, or_false, false_or, or_true, true_or]
      rw [e63 f2, ml.1, ev]
      refine ⟨by omega, by omega, fun c => by omega, fun _ => ⟨by omega, by omega, by omega, by omega, by omega, ?_⟩⟩
      rw [q_invV (pay := [])]
      simp only [q_k0, q_kS, q_rc, mmKo_11]
      refine ⟨Nat.le_of_ble_eq_true rfl, by trivial, Nat.zero_le _, Nat.zero_le _, ?_⟩
      refine mT_use (m_layBehind o1 (MB_R (Int.le_refl b) hM f2) (by omega) (by omega) (by omega) ⟨o2.1, by omega⟩ ⟨o3.1, by omega⟩) (fun u I3 q3 => ?_)
      obtain ⟨rfl, f3, m3⟩ := q3
      have f23 := FrR_trans f2 (FrR_H f3)
      simp only [mmK_cut cd_241, q_cons, q_G0, q_GS, q_I1, q_L1, q_A1, q_S0, q_S1, q_SS, q_T0, q_T1, q_TS, q_Kn, q_Ki, q_Kl, q_Kr, q_k0, q_kS, q_rc, q_ps, q_pn, q_iconst, q_istore2, q_iload2, q_aload0, q_getfieldA, q_getfieldI, q_iaload, q_icmp_ge, q_sipush, q_imul, q_iadd, q_iload1, q_if_ge, q_ireturn0, q_iinc, q_goto, q_bipush, rf_11_61, rf_11_62, mmKe_1261, mmKe_1262, mmKo_11, mmLen_1261, mmLen_1262, mmR32, mmR64, Option.some.injEq, Int.cast_ofNat_Int, and_true, true_and, if_true, if_false, List.length_cons, List.length_nil, Nat.le_refl, Nat.zero_le, Nat.sub_zero, forall_const, reduceCtorEq, Nat.reduceAdd, Nat.reduceSub, Nat.reduceLeDiff, Nat.reduceEqDiff, Int.reduceAdd, Int.reduceNeg, Int.reduceSub, Int.reduceLT, Int.reduceLE, Int.reduceMul, Int.reduceEq, List.drop_zero, List.drop_succ_cons, ne_eq, not_false_eq_true, not_true_eq_false, false_and, and_false, false_implies, true_implies, reduceIte, mmU_rd, implies_true, or_false, false_or, or_true, true_or]
      rw [e63 f23]
      refine ⟨by omega, ?_⟩
      rw [q_invV (pay := [])]
      simp only [q_k0, q_kS, q_rc, mmKo_11]
      refine ⟨Nat.le_of_ble_eq_true rfl, by trivial, Nat.zero_le _, Nat.zero_le _, ?_⟩
      refine mT_use (m_safeOf hn2 (B := aft B v) (b := b + 1) (RK_R hR f23) m3 hBa (by omega)) (fun u I4 q4 => ?_)
      obtain ⟨rfl, f4⟩ := q4
      have f24 := FrR_trans f23 (FrR_up f4)
      have ml4 := ML_R (by omega) (ML_H ml f3) f4
      have ev4 := ml4.2 k (by omega)
      rw [hvv] at ev4
      have hsf := sf_in w0 w1 (n := n) (B := aft B v) (m := b + 1)
      simp only [mmK_cut cd_241, q_cons, q_G0, q_GS, q_I1, q_L1, q_A1, q_S0, q_S1, q_SS, q_T0, q_T1, q_TS, q_Kn, q_Ki, q_Kl, q_Kr, q_k0, q_kS, q_rc, q_ps, q_pn, q_iconst, q_istore2, q_iload2, q_aload0, q_getfieldA, q_getfieldI, q_iaload, q_icmp_ge, q_sipush, q_imul, q_iadd, q_iload1, q_if_ge, q_ireturn0, q_iinc, q_goto, q_bipush, rf_11_61, rf_11_62, mmKe_1261, mmKe_1262, mmKo_11, mmLen_1261, mmLen_1262, mmR32, mmR64, Option.some.injEq, Int.cast_ofNat_Int, and_true, true_and, if_true, if_false, List.length_cons, List.length_nil, Nat.le_refl, Nat.zero_le, Nat.sub_zero, forall_const, reduceCtorEq, Nat.reduceAdd, Nat.reduceSub, Nat.reduceLeDiff, Nat.reduceEqDiff, Int.reduceAdd, Int.reduceNeg, Int.reduceSub, Int.reduceLT, Int.reduceLE, Int.reduceMul, Int.reduceEq, List.drop_zero, List.drop_succ_cons, ne_eq, not_false_eq_true, not_true_eq_false, false_and, and_false, false_implies, true_implies, reduceIte, mmU_rd, implies_true, or_false, false_or, or_true, true_or]
      rw [e63 f24, ev4]
      refine ⟨fun c2 => ?_, fun c2 => ?_⟩
      · refine mmC_step ?_
        simp only [cd_241, sg_241_0, sg_241_2, sg_241_44, sg_241_46, mmK_cut cd_241, q_cons, q_G0, q_GS, q_I1, q_L1, q_A1, q_S0, q_S1, q_SS, q_T0, q_T1, q_TS, q_Kn, q_Ki, q_Kl, q_Kr, q_k0, q_kS, q_rc, q_ps, q_pn, q_iconst, q_istore2, q_iload2, q_aload0, q_getfieldA, q_getfieldI, q_iaload, q_icmp_ge, q_sipush, q_imul, q_iadd, q_iload1, q_if_ge, q_ireturn0, q_iinc, q_goto, q_bipush, rf_11_61, rf_11_62, mmKe_1261, mmKe_1262, mmKo_11, mmLen_1261, mmLen_1262, mmR32, mmR64, Option.some.injEq, Int.cast_ofNat_Int, and_true, true_and, if_true, if_false, List.length_cons, List.length_nil, Nat.le_refl, Nat.zero_le, Nat.sub_zero, forall_const, reduceCtorEq, Nat.reduceAdd, Nat.reduceSub, Nat.reduceLeDiff, Nat.reduceEqDiff, Int.reduceAdd, Int.reduceNeg, Int.reduceSub, Int.reduceLT, Int.reduceLE, Int.reduceMul, Int.reduceEq, List.drop_zero, List.drop_succ_cons, ne_eq, not_false_eq_true, not_true_eq_false, false_and, and_false, false_implies, true_implies, reduceIte, mmU_rd, implies_true, or_false, false_or, or_true, true_or]
        refine ⟨by omega, ihq (k + 1) I4 (by omega) f24 ml4 (fun i hi => ?_)⟩
        by_cases ci : i = k
        · rw [ci, hvv]; omega
        · exact hn i (by omega)
      · refine ⟨by omega, by omega, by omega, by omega, mT_in ⟨?_, f24, ml4⟩⟩
        rw [hfs (fun q => q (by omega))]
  refine mmC_in (by decide) (Nat.le_of_ble_eq_true rfl) (mmC_step ?_)
  simp only [show mmMl 241 = 3 from rfl, mmLs, List.replicate, cd_241, sg_241_0, sg_241_2, sg_241_44, sg_241_46, mmK_cut cd_241, q_cons, q_G0, q_GS, q_I1, q_L1, q_A1, q_S0, q_S1, q_SS, q_T0, q_T1, q_TS, q_Kn, q_Ki, q_Kl, q_Kr, q_k0, q_kS, q_rc, q_ps, q_pn, q_iconst, q_istore2, q_iload2, q_aload0, q_getfieldA, q_getfieldI, q_iaload, q_icmp_ge, q_sipush, q_imul, q_iadd, q_iload1, q_if_ge, q_ireturn0, q_iinc, q_goto, q_bipush, rf_11_61, rf_11_62, mmKe_1261, mmKe_1262, mmKo_11, mmLen_1261, mmLen_1262, mmR32, mmR64, Option.some.injEq, Int.cast_ofNat_Int, and_true, true_and, if_true, if_false, List.length_cons, List.length_nil, Nat.le_refl, Nat.zero_le, Nat.sub_zero, forall_const, reduceCtorEq, Nat.reduceAdd, Nat.reduceSub, Nat.reduceLeDiff, Nat.reduceEqDiff, Int.reduceAdd, Int.reduceNeg, Int.reduceSub, Int.reduceLT, Int.reduceLE, Int.reduceMul, Int.reduceEq, List.drop_zero, List.drop_succ_cons, ne_eq, not_false_eq_true, not_true_eq_false, false_and, and_false, false_implies, true_implies, reduceIte, mmU_rd, implies_true, or_false, false_or, or_true, true_or]
  exact key (mvs r B b).length 0 I (by omega) FrR_refl hml (fun i hi => by omega)
end S827
