section S816
variable {d a : Nat} {I I' I'' : mMm} {br : Nat → Option mmO} {R : Nat → Nat → Int → Option mmO} {X : mmX} {B : mBd} {m fr b : Int} {r : mRu} {Q : Option mmV → mmM → Prop}
set_option maxHeartbeats 1000000 in
theorem m_movesOf {w : Int} {L0 : List Int} (hR : RK r I) (hM : MB I b B) (hB : BW r B) (hb : 0 ≤ b ∧ b < 72) (hm : 0 ≤ m ∧ m < 100) (hfr : 0 ≤ fr ∧ fr < 25) (hof : 0 ≤ B fr) (hw : w = m % 2) (ml : ML I b L0) (hcap : (fromL r B m fr (r 711 (B fr % 4)).toNat 0 L0).length ≤ 200) : mmC (d + 6) 199 [mo 11 0, mv b, mv fr, mv w, mv m] (I, mmRf a br, X) (mT a br X fun v I' => v = none ∧ FrV b I I' ∧ ML I' b (fromL r B m fr (r 711 (B fr % 4)).toNat 0 L0)) := by
  have w0 := hR.2.2.1
  have w1 := hR.2.2.2.1
  have h4 := hR.2.2.2.2.1
  have e := hM fr hfr.1 hfr.2
  have hv := hB.1 fr hfr.1 hfr.2
  have em : mB (B fr) = B fr := if_neg (by omega)
  have hk : 0 ≤ B fr % 4 ∧ B fr % 4 < r 6 2 := by omega
  have hKE := hR.1.2.1 _ hk.1 hk.2
  clear hv
  generalize hkd : B fr % 4 = kd at *
  generalize hFin : fromL r B m fr (r 711 kd).toNat 0 L0 = Lf at *
  have hkd4 : kd < 4 := by omega
  obtain ⟨k1, k2, k3, k4, k5, k6, k7, k8⟩ := hKE
  clear k5 k6
  have k4' : I 1238 0 kd = r 711 kd := k4
  have key : ∀ (c : Nat) (s : Int) (L : List Int) (I1 : mMm) (l7 l8 l9 : Option mmV), 0 ≤ s → s + c = r 711 kd → FrV b I I1 → ML I1 b L → fromL r B m fr c s L = Lf → mmK (d + 5) 199 (mT a br X fun v I' => v = none ∧ FrV b I I' ∧ ML I' b Lf) 14 [some (mo 11 0), some (mv b), some (mv fr), some (mv w), some (mv m), some (mv kd), some (mv (kd * 8 + s)), l7, l8, l9] [] (I1, mmRf a br, X) := by
    intro c
    induction c with
    | zero =>
      intro s L I1 l7 l8 l9 s0 s1 fr1 ml1 hz
      have e38 : I1 1238 0 kd = r 711 kd := (fr1 _ _ _ (by omega) (by decide) (by decide) (by omega) (by omega)).trans k4'
      refine mmC_step ?_
      simp only [cd_199, sg_199_0, sg_199_14, sg_199_28, sg_199_66, sg_199_78, sg_199_79, sg_199_82, sg_199_84, mmK_cut cd_199, q_cons, q_G0, q_GS, q_I1, q_L1, q_A1, q_S0, q_S1, q_SS, q_T0, q_T1, q_TS, q_Kn, q_Ki, q_Kl, q_Kr, q_k0, q_kS, q_rc, q_ps, q_pn, q_aload0, q_getfieldA, q_iload1, q_iload2, q_iadd, q_iaload, q_iconst, q_irem, q_istore, q_bipush, q_iload, q_imul, q_icmp_ge, q_icmp_gt, q_if_eq, q_if_lt, q_iload3, q_if_ne, q_if_ge, q_goto, q_iinc, q_return, rf_11_38, rf_11_59, mmKe_1238, mmKe_1259, mmKo_11, mmLen_1238, mmLen_1259, mmR32, mmR64, Option.some.injEq, Int.cast_ofNat_Int, and_true, true_and, if_true, if_false, List.length_cons, List.length_nil, Nat.le_refl, Nat.zero_le, Nat.sub_zero, forall_const, reduceCtorEq, Nat.reduceAdd, Nat.reduceSub, Nat.reduceLeDiff, Nat.reduceEqDiff, Int.reduceAdd, Int.reduceNeg, Int.reduceSub, Int.reduceLT, Int.reduceLE, Int.reduceMul, Int.reduceEq, List.drop_zero, List.drop_succ_cons, ne_eq, not_false_eq_true, not_true_eq_false, false_and, and_false, false_implies, true_implies, reduceIte, mmU_rd, implies_true, or_false, false_or, or_true, true_or]
      rw [e38]
      refine ⟨by omega, hk.1, by omega, by omega, fun _ => ?_, fun c => by omega⟩
      refine mmC_step ?_
      simp only [cd_199, sg_199_0, sg_199_14, sg_199_28, sg_199_66, sg_199_78, sg_199_79, sg_199_82, sg_199_84, mmK_cut cd_199, q_cons, q_G0, q_GS, q_I1, q_L1, q_A1, q_S0, q_S1, q_SS, q_T0, q_T1, q_TS, q_Kn, q_Ki, q_Kl, q_Kr, q_k0, q_kS, q_rc, q_ps, q_pn, q_aload0, q_getfieldA, q_iload1, q_iload2, q_iadd, q_iaload, q_iconst, q_irem, q_istore, q_bipush, q_iload, q_imul, q_icmp_ge, q_icmp_gt, q_if_eq, q_if_lt, q_iload3, q_if_ne, q_if_ge, q_goto, q_iinc, q_return, rf_11_38, rf_11_59, mmKe_1238, mmKe_1259, mmKo_11, mmLen_1238, mmLen_1259, mmR32, mmR64, Option.some.injEq, Int.cast_ofNat_Int, and_true, true_and, if_true, if_false, List.length_cons, List.length_nil, Nat.le_refl, Nat.zero_le, Nat.sub_zero, forall_const, reduceCtorEq, Nat.reduceAdd, Nat.reduceSub, Nat.reduceLeDiff, Nat.reduceEqDiff, Int.reduceAdd, Int.reduceNeg, Int.reduceSub, Int.reduceLT, Int.reduceLE, Int.reduceMul, Int.reduceEq, List.drop_zero, List.drop_succ_cons, ne_eq, not_false_eq_true, not_true_eq_false, false_and, and_false, false_implies, true_implies, reduceIte, mmU_rd, implies_true, or_false, false_or, or_true, true_or]
      have hz : L = Lf := hz
      rw [hz] at ml1
      exact mT_in ⟨rfl, fr1, ml1⟩
    | succ c ih =>
      intro s L I1 l7 l8 l9 s0 s1 fr1 ml1 hz
      have e38 : I1 1238 0 kd = r 711 kd := (fr1 _ _ _ (by omega) (by decide) (by decide) (by omega) (by omega)).trans k4'
      rw [fromL_s, hkd] at hz
      have hmono := (fromL_in w0 w1 (B := B) (m := m) (fr := fr) c (s + 1) (stepL r B m fr (kd * 8 + s) (tmF r kd) 1 L)).2
      rw [hz] at hmono
      have h8 := k8 s s0 (by omega)
      refine mmC_step ?_
      simp only [cd_199, sg_199_0, sg_199_14, sg_199_28, sg_199_66, sg_199_78, sg_199_79, sg_199_82, sg_199_84, mmK_cut cd_199, q_cons, q_G0, q_GS, q_I1, q_L1, q_A1, q_S0, q_S1, q_SS, q_T0, q_T1, q_TS, q_Kn, q_Ki, q_Kl, q_Kr, q_k0, q_kS, q_rc, q_ps, q_pn, q_aload0, q_getfieldA, q_iload1, q_iload2, q_iadd, q_iaload, q_iconst, q_irem, q_istore, q_bipush, q_iload, q_imul, q_icmp_ge, q_icmp_gt, q_if_eq, q_if_lt, q_iload3, q_if_ne, q_if_ge, q_goto, q_iinc, q_return, rf_11_38, rf_11_59, mmKe_1238, mmKe_1259, mmKo_11, mmLen_1238, mmLen_1259, mmR32, mmR64, Option.some.injEq, Int.cast_ofNat_Int, and_true, true_and, if_true, if_false, List.length_cons, List.length_nil, Nat.le_refl, Nat.zero_le, Nat.sub_zero, forall_const, reduceCtorEq, Nat.reduceAdd, Nat.reduceSub, Nat.reduceLeDiff, Nat.reduceEqDiff, Int.reduceAdd, Int.reduceNeg, Int.reduceSub, Int.reduceLT, Int.reduceLE, Int.reduceMul, Int.reduceEq, List.drop_zero, List.drop_succ_cons, ne_eq, not_false_eq_true, not_true_eq_false, false_and, and_false, false_implies, true_implies, reduceIte, mmU_rd, implies_true, or_false, false_or, or_true, true_or]
      rw [e38]
      refine ⟨by omega, hk.1, by omega, by omega, fun c => by omega, fun _ => ?_⟩
      refine m_stepsB (p := kd * 8 + s) (tm := tmF r kd) hR hM hB hb hm hfr hof hw hk rfl ⟨by omega, by omega⟩ ⟨h8.1, h8.2.1⟩ ⟨h8.2.2.1, h8.2.2.2.1⟩ (tmF r kd) 1 L I1 l9 (by omega) (by omega) fr1 ml1 (Nat.le_trans hmono hcap) (fun I2 l7 l8 l9 fr2 ml2 => ?_)
      refine mmC_step ?_
      simp only [cd_199, sg_199_0, sg_199_14, sg_199_28, sg_199_66, sg_199_78, sg_199_79, sg_199_82, sg_199_84, mmK_cut cd_199, q_cons, q_G0, q_GS, q_I1, q_L1, q_A1, q_S0, q_S1, q_SS, q_T0, q_T1, q_TS, q_Kn, q_Ki, q_Kl, q_Kr, q_k0, q_kS, q_rc, q_ps, q_pn, q_aload0, q_getfieldA, q_iload1, q_iload2, q_iadd, q_iaload, q_iconst, q_irem, q_istore, q_bipush, q_iload, q_imul, q_icmp_ge, q_icmp_gt, q_if_eq, q_if_lt, q_iload3, q_if_ne, q_if_ge, q_goto, q_iinc, q_return, rf_11_38, rf_11_59, mmKe_1238, mmKe_1259, mmKo_11, mmLen_1238, mmLen_1259, mmR32, mmR64, Option.some.injEq, Int.cast_ofNat_Int, and_true, true_and, if_true, if_false, List.length_cons, List.length_nil, Nat.le_refl, Nat.zero_le, Nat.sub_zero, forall_const, reduceCtorEq, Nat.reduceAdd, Nat.reduceSub, Nat.reduceLeDiff, Nat.reduceEqDiff, Int.reduceAdd, Int.reduceNeg, Int.reduceSub, Int.reduceLT, Int.reduceLE, Int.reduceMul, Int.reduceEq, List.drop_zero, List.drop_succ_cons, ne_eq, not_false_eq_true, not_true_eq_false, false_and, and_false, false_implies, true_implies, reduceIte, mmU_rd, implies_true, or_false, false_or, or_true, true_or]
      refine ⟨by omega, ?_⟩
      have := ih (s + 1) _ I2 l7 l8 l9 (by omega) (by omega) fr2 ml2 hz
      rw [show kd * 8 + (s + 1) = kd * 8 + s + 1 by omega] at this
      exact this
  refine mmC_in (by decide) (Nat.le_of_ble_eq_true rfl) (mmC_step ?_)
  simp only [show mmMl 199 = 10 from rfl, mmLs, List.replicate, cd_199, sg_199_0, sg_199_14, sg_199_28, sg_199_66, sg_199_78, sg_199_79, sg_199_82, sg_199_84, mmK_cut cd_199, q_cons, q_G0, q_GS, q_I1, q_L1, q_A1, q_S0, q_S1, q_SS, q_T0, q_T1, q_TS, q_Kn, q_Ki, q_Kl, q_Kr, q_k0, q_kS, q_rc, q_ps, q_pn, q_aload0, q_getfieldA, q_iload1, q_iload2, q_iadd, q_iaload, q_iconst, q_irem, q_istore, q_bipush, q_iload, q_imul, q_icmp_ge, q_icmp_gt, q_if_eq, q_if_lt, q_iload3, q_if_ne, q_if_ge, q_goto, q_iinc, q_return, rf_11_38, rf_11_59, mmKe_1238, mmKe_1259, mmKo_11, mmLen_1238, mmLen_1259, mmR32, mmR64, Option.some.injEq, Int.cast_ofNat_Int, and_true, true_and, if_true, if_false, List.length_cons, List.length_nil, Nat.le_refl, Nat.zero_le, Nat.sub_zero, forall_const, reduceCtorEq, Nat.reduceAdd, Nat.reduceSub, Nat.reduceLeDiff, Nat.reduceEqDiff, Int.reduceAdd, Int.reduceNeg, Int.reduceSub, Int.reduceLT, Int.reduceLE, Int.reduceMul, Int.reduceEq, List.drop_zero, List.drop_succ_cons, ne_eq, not_false_eq_true, not_true_eq_false, false_and, and_false, false_implies, true_implies, reduceIte, mmU_rd, implies_true, or_false, false_or, or_true, true_or]
  rw [q_invS (pay := [])]
  simp only [q_k0, q_kS]
  refine ⟨Nat.le_of_ble_eq_true rfl, Nat.zero_le _, Nat.zero_le _, ?_⟩
  refine sq_base (by omega) ?_
  simp only [mmK_cut cd_199, q_cons, q_G0, q_GS, q_I1, q_L1, q_A1, q_S0, q_S1, q_SS, q_T0, q_T1, q_TS, q_Kn, q_Ki, q_Kl, q_Kr, q_k0, q_kS, q_rc, q_ps, q_pn, q_aload0, q_getfieldA, q_iload1, q_iload2, q_iadd, q_iaload, q_iconst, q_irem, q_istore, q_bipush, q_iload, q_imul, q_icmp_ge, q_icmp_gt, q_if_eq, q_if_lt, q_iload3, q_if_ne, q_if_ge, q_goto, q_iinc, q_return, rf_11_38, rf_11_59, mmKe_1238, mmKe_1259, mmKo_11, mmLen_1238, mmLen_1259, mmR32, mmR64, Option.some.injEq, Int.cast_ofNat_Int, and_true, true_and, if_true, if_false, List.length_cons, List.length_nil, Nat.le_refl, Nat.zero_le, Nat.sub_zero, forall_const, reduceCtorEq, Nat.reduceAdd, Nat.reduceSub, Nat.reduceLeDiff, Nat.reduceEqDiff, Int.reduceAdd, Int.reduceNeg, Int.reduceSub, Int.reduceLT, Int.reduceLE, Int.reduceMul, Int.reduceEq, List.drop_zero, List.drop_succ_cons, ne_eq, not_false_eq_true, not_true_eq_false, false_and, and_false, false_implies, true_implies, reduceIte, mmU_rd, implies_true, or_false, false_or, or_true, true_or]
  rw [e, em, hkd]
  refine ⟨by omega, by omega, by omega, hof, by omega, ?_⟩
  have := key (r 711 kd).toNat 0 L0 I none none none (by omega) (by omega) FrV_refl ml hFin
  rw [show kd * 8 + 0 = 8 * kd by omega] at this
  exact this
theorem mvL_pts {p : Nat} (hp : (p : Int) = r 6 0 * r 6 1) : ∀ q : Nat, mvL r B m (p + q) = mvL r B m p
  | 0 => rfl
  | q + 1 => by
    show mvF r B m ((p + q : Nat) : Int) (mvL r B m (p + q)) = _
    rw [mvF_out (by omega), mvL_pts hp q]
set_option maxHeartbeats 1000000 in
theorem m_layMoves {w : Int} (hR : RK r I) (hM : MB I b B) (hB : BW r B) (hb : 0 ≤ b ∧ b < 72) (hm : 0 ≤ m ∧ m < 100) (hw : w = m % 2) : mmC (d + 7) 200 [mo 11 0, mv b, mv w, mv m] (I, mmRf a br, X) (mT a br X fun v I' => v = none ∧ FrV b I I' ∧ ML I' b (mvL r B m 25)) := by
  have hq := RQ_of hR.1 hR.2.1 hR.2.2
  have w0 := hR.2.2.1
  have w1 := hR.2.2.2.1
  have h25 := (pt_in w0 w1 (x := 0) (y := 0) (by omega) (by omega)).2.2.1
  have hp0 : 0 ≤ r 6 0 * r 6 1 := Int.mul_nonneg (by omega) (by omega)
  have h2 : w = 0 ∨ w = 1 := by omega
  have key : ∀ (q n : Nat) (I1 : mMm), (n : Int) + q = r 6 0 * r 6 1 → FrV b I I1 → ML I1 b (mvL r B m n) → mmK (d + 6) 200 (mT a br X fun v I' => v = none ∧ FrV b I I' ∧ ML I' b (mvL r B m 25)) 7 [some (mo 11 0), some (mv b), some (mv w), some (mv m), some (mv n)] [] (I1, mmRf a br, X) := by
    intro q
    induction q with
    | zero =>
      intro n I1 hn fr1 ml
      have e := mvL_pts (r := r) (B := B) (m := m) (p := n) (by omega) (25 - n)
      rw [show n + (25 - n) = 25 by omega] at e
      refine mmC_step ?_
      simp only [cd_200, sg_200_0, sg_200_7, sg_200_23, sg_200_25, mmK_cut cd_200, q_cons, q_G0, q_GS, q_I1, q_L1, q_A1, q_S0, q_S1, q_SS, q_T0, q_T1, q_TS, q_Kn, q_Ki, q_Kl, q_Kr, q_k0, q_kS, q_rc, q_ps, q_pn, q_aload0, q_getfieldA, q_iload1, q_iconst, q_iastore, q_istore, q_iload, q_icmp_ge, q_iload2, q_if_eq, q_iload3, q_iinc, q_goto, q_return, rf_11_61, mmKe_1261, mmKo_11, mmLen_1261, mmR32, mmR64, Option.some.injEq, Int.cast_ofNat_Int, and_true, true_and, if_true, if_false, List.length_cons, List.length_nil, Nat.le_refl, Nat.zero_le, Nat.sub_zero, forall_const, reduceCtorEq, Nat.reduceAdd, Nat.reduceSub, Nat.reduceLeDiff, Nat.reduceEqDiff, Int.reduceAdd, Int.reduceNeg, Int.reduceSub, Int.reduceLT, Int.reduceLE, Int.reduceMul, Int.reduceEq, List.drop_zero, List.drop_succ_cons, ne_eq, not_false_eq_true, not_true_eq_false, false_and, and_false, false_implies, true_implies, reduceIte, mmU_rd, implies_true, or_false, false_or, or_true, true_or]
      rw [q_invV (pay := [])]
      simp only [q_k0, q_kS, q_rc, mmKo_11]
      refine ⟨Nat.le_of_ble_eq_true rfl, by trivial, Nat.zero_le _, Nat.zero_le _, ?_⟩
      refine m_points (RK_V hR fr1) ?_
      simp only [mmK_cut cd_200, q_cons, q_G0, q_GS, q_I1, q_L1, q_A1, q_S0, q_S1, q_SS, q_T0, q_T1, q_TS, q_Kn, q_Ki, q_Kl, q_Kr, q_k0, q_kS, q_rc, q_ps, q_pn, q_aload0, q_getfieldA, q_iload1, q_iconst, q_iastore, q_istore, q_iload, q_icmp_ge, q_iload2, q_if_eq, q_iload3, q_iinc, q_goto, q_return, rf_11_61, mmKe_1261, mmKo_11, mmLen_1261, mmR32, mmR64, Option.some.injEq, Int.cast_ofNat_Int, and_true, true_and, if_true, if_false, List.length_cons, List.length_nil, Nat.le_refl, Nat.zero_le, Nat.sub_zero, forall_const, reduceCtorEq, Nat.reduceAdd, Nat.reduceSub, Nat.reduceLeDiff, Nat.reduceEqDiff, Int.reduceAdd, Int.reduceNeg, Int.reduceSub, Int.reduceLT, Int.reduceLE, Int.reduceMul, Int.reduceEq, List.drop_zero, List.drop_succ_cons, ne_eq, not_false_eq_true, not_true_eq_false, false_and, and_false, false_implies, true_implies, reduceIte, mmU_rd, implies_true, or_false, false_or, or_true, true_or]
      refine ⟨fun _ => ?_, fun c => by omega⟩
      refine mmC_step ?_
      simp only [cd_200, sg_200_0, sg_200_7, sg_200_23, sg_200_25, mmK_cut cd_200, q_cons, q_G0, q_GS, q_I1, q_L1, q_A1, q_S0, q_S1, q_SS, q_T0, q_T1, q_TS, q_Kn, q_Ki, q_Kl, q_Kr, q_k0, q_kS, q_rc, q_ps, q_pn, q_aload0, q_getfieldA, q_iload1, q_iconst, q_iastore, q_istore, q_iload, q_icmp_ge, q_iload2, q_if_eq, q_iload3, q_iinc, q_goto, q_return, rf_11_61, mmKe_1261, mmKo_11, mmLen_1261, mmR32, mmR64, Option.some.injEq, Int.cast_ofNat_Int, and_true, true_and, if_true, if_false, List.length_cons, List.length_nil, Nat.le_refl, Nat.zero_le, Nat.sub_zero, forall_const, reduceCtorEq, Nat.reduceAdd, Nat.reduceSub, Nat.reduceLeDiff, Nat.reduceEqDiff, Int.reduceAdd, Int.reduceNeg, Int.reduceSub, Int.reduceLT, Int.reduceLE, Int.reduceMul, Int.reduceEq, List.drop_zero, List.drop_succ_cons, ne_eq, not_false_eq_true, not_true_eq_false, false_and, and_false, false_implies, true_implies, reduceIte, mmU_rd, implies_true, or_false, false_or, or_true, true_or]
      rw [e]
      exact mT_in ⟨rfl, fr1, ml⟩
    | succ q ih =>
      intro n I1 hn fr1 ml
      have hcap := mvL_cap (m := m) hq hB (n := n + 1) (by omega)
      have w23 : ∀ I2 : mMm, FrV b I I2 → ML I2 b (mvL r B m (n + 1)) → mmK (d + 6) 200 (mT a br X fun v I' => v = none ∧ FrV b I I' ∧ ML I' b (mvL r B m 25)) 23 [some (mo 11 0), some (mv b), some (mv w), some (mv m), some (mv n)] [] (I2, mmRf a br, X) := by
        intro I2 fr2 ml2
        refine mmC_step ?_
        simp only [cd_200, sg_200_0, sg_200_7, sg_200_23, sg_200_25, mmK_cut cd_200, q_cons, q_G0, q_GS, q_I1, q_L1, q_A1, q_S0, q_S1, q_SS, q_T0, q_T1, q_TS, q_Kn, q_Ki, q_Kl, q_Kr, q_k0, q_kS, q_rc, q_ps, q_pn, q_aload0, q_getfieldA, q_iload1, q_iconst, q_iastore, q_istore, q_iload, q_icmp_ge, q_iload2, q_if_eq, q_iload3, q_iinc, q_goto, q_return, rf_11_61, mmKe_1261, mmKo_11, mmLen_1261, mmR32, mmR64, Option.some.injEq, Int.cast_ofNat_Int, and_true, true_and, if_true, if_false, List.length_cons, List.length_nil, Nat.le_refl, Nat.zero_le, Nat.sub_zero, forall_const, reduceCtorEq, Nat.reduceAdd, Nat.reduceSub, Nat.reduceLeDiff, Nat.reduceEqDiff, Int.reduceAdd, Int.reduceNeg, Int.reduceSub, Int.reduceLT, Int.reduceLE, Int.reduceMul, Int.reduceEq, List.drop_zero, List.drop_succ_cons, ne_eq, not_false_eq_true, not_true_eq_false, false_and, and_false, false_implies, true_implies, reduceIte, mmU_rd, implies_true, or_false, false_or, or_true, true_or]
        exact ⟨by omega, ih (n + 1) I2 (by omega) fr2 ml2⟩
      have em : mvL r B m (n + 1) = mvF r B m n (mvL r B m n) := rfl
      refine mmC_step ?_
      simp only [cd_200, sg_200_0, sg_200_7, sg_200_23, sg_200_25, mmK_cut cd_200, q_cons, q_G0, q_GS, q_I1, q_L1, q_A1, q_S0, q_S1, q_SS, q_T0, q_T1, q_TS, q_Kn, q_Ki, q_Kl, q_Kr, q_k0, q_kS, q_rc, q_ps, q_pn, q_aload0, q_getfieldA, q_iload1, q_iconst, q_iastore, q_istore, q_iload, q_icmp_ge, q_iload2, q_if_eq, q_iload3, q_iinc, q_goto, q_return, rf_11_61, mmKe_1261, mmKo_11, mmLen_1261, mmR32, mmR64, Option.some.injEq, Int.cast_ofNat_Int, and_true, true_and, if_true, if_false, List.length_cons, List.length_nil, Nat.le_refl, Nat.zero_le, Nat.sub_zero, forall_const, reduceCtorEq, Nat.reduceAdd, Nat.reduceSub, Nat.reduceLeDiff, Nat.reduceEqDiff, Int.reduceAdd, Int.reduceNeg, Int.reduceSub, Int.reduceLT, Int.reduceLE, Int.reduceMul, Int.reduceEq, List.drop_zero, List.drop_succ_cons, ne_eq, not_false_eq_true, not_true_eq_false, false_and, and_false, false_implies, true_implies, reduceIte, mmU_rd, implies_true, or_false, false_or, or_true, true_or]
      rw [q_invV (pay := [])]
      simp only [q_k0, q_kS, q_rc, mmKo_11]
      refine ⟨Nat.le_of_ble_eq_true rfl, by trivial, Nat.zero_le _, Nat.zero_le _, ?_⟩
      refine m_points (RK_V hR fr1) ?_
      simp only [mmK_cut cd_200, q_cons, q_G0, q_GS, q_I1, q_L1, q_A1, q_S0, q_S1, q_SS, q_T0, q_T1, q_TS, q_Kn, q_Ki, q_Kl, q_Kr, q_k0, q_kS, q_rc, q_ps, q_pn, q_aload0, q_getfieldA, q_iload1, q_iconst, q_iastore, q_istore, q_iload, q_icmp_ge, q_iload2, q_if_eq, q_iload3, q_iinc, q_goto, q_return, rf_11_61, mmKe_1261, mmKo_11, mmLen_1261, mmR32, mmR64, Option.some.injEq, Int.cast_ofNat_Int, and_true, true_and, if_true, if_false, List.length_cons, List.length_nil, Nat.le_refl, Nat.zero_le, Nat.sub_zero, forall_const, reduceCtorEq, Nat.reduceAdd, Nat.reduceSub, Nat.reduceLeDiff, Nat.reduceEqDiff, Int.reduceAdd, Int.reduceNeg, Int.reduceSub, Int.reduceLT, Int.reduceLE, Int.reduceMul, Int.reduceEq, List.drop_zero, List.drop_succ_cons, ne_eq, not_false_eq_true, not_true_eq_false, false_and, and_false, false_implies, true_implies, reduceIte, mmU_rd, implies_true, or_false, false_or, or_true, true_or]
      refine ⟨fun c => by omega, fun _ => ?_⟩
      rw [q_invV (pay := [])]
      simp only [q_k0, q_kS, q_rc, mmKo_11]
      refine ⟨Nat.le_of_ble_eq_true rfl, by trivial, Nat.zero_le _, Nat.zero_le _, ?_⟩
      refine m_isOwn (MB_V hM fr1) hB hb (by omega) h2 ?_
      simp only [mmK_cut cd_200, q_cons, q_G0, q_GS, q_I1, q_L1, q_A1, q_S0, q_S1, q_SS, q_T0, q_T1, q_TS, q_Kn, q_Ki, q_Kl, q_Kr, q_k0, q_kS, q_rc, q_ps, q_pn, q_aload0, q_getfieldA, q_iload1, q_iconst, q_iastore, q_istore, q_iload, q_icmp_ge, q_iload2, q_if_eq, q_iload3, q_iinc, q_goto, q_return, rf_11_61, mmKe_1261, mmKo_11, mmLen_1261, mmR32, mmR64, Option.some.injEq, Int.cast_ofNat_Int, and_true, true_and, if_true, if_false, List.length_cons, List.length_nil, Nat.le_refl, Nat.zero_le, Nat.sub_zero, forall_const, reduceCtorEq, Nat.reduceAdd, Nat.reduceSub, Nat.reduceLeDiff, Nat.reduceEqDiff, Int.reduceAdd, Int.reduceNeg, Int.reduceSub, Int.reduceLT, Int.reduceLE, Int.reduceMul, Int.reduceEq, List.drop_zero, List.drop_succ_cons, ne_eq, not_false_eq_true, not_true_eq_false, false_and, and_false, false_implies, true_implies, reduceIte, mmU_rd, implies_true, or_false, false_or, or_true, true_or, bI_eq0]
      refine ⟨fun c => w23 I1 fr1 ?_, fun c => ?_⟩
      · rw [em]
        unfold mvF
        rw [if_neg (fun q => c (by rw [hw]; exact q.2))]
        exact ml
      · have c := Classical.not_not.mp c
        have ho := own_in (m := m) hB (show 0 ≤ (n : Int) ∧ (n : Int) < 25 by omega) (by rw [← hw]; exact c)
        have ef : mvF r B m n (mvL r B m n) = fromL r B m n (r 711 (B n % 4)).toNat 0 (mvL r B m n) := by
          unfold mvF
          rw [if_pos ⟨by omega, by rw [← hw]; exact c⟩]
        rw [em, ef] at hcap
        rw [q_invV (pay := [])]
        simp only [q_k0, q_kS, q_rc, mmKo_11]
        refine ⟨Nat.le_of_ble_eq_true rfl, by trivial, Nat.zero_le _, Nat.zero_le _, ?_⟩
        refine mT_use (m_movesOf (L0 := mvL r B m n) (RK_V hR fr1) (MB_V hM fr1) hB hb hm (by omega) ho.1 hw ml (by omega)) (fun v I2 q2 => ?_)
        obtain ⟨rfl, g2, ml2⟩ := q2
        simp only [mmK_cut cd_200, q_cons, q_G0, q_GS, q_I1, q_L1, q_A1, q_S0, q_S1, q_SS, q_T0, q_T1, q_TS, q_Kn, q_Ki, q_Kl, q_Kr, q_k0, q_kS, q_rc, q_ps, q_pn, q_aload0, q_getfieldA, q_iload1, q_iconst, q_iastore, q_istore, q_iload, q_icmp_ge, q_iload2, q_if_eq, q_iload3, q_iinc, q_goto, q_return, rf_11_61, mmKe_1261, mmKo_11, mmLen_1261, mmR32, mmR64, Option.some.injEq, Int.cast_ofNat_Int, and_true, true_and, if_true, if_false, List.length_cons, List.length_nil, Nat.le_refl, Nat.zero_le, Nat.sub_zero, forall_const, reduceCtorEq, Nat.reduceAdd, Nat.reduceSub, Nat.reduceLeDiff, Nat.reduceEqDiff, Int.reduceAdd, Int.reduceNeg, Int.reduceSub, Int.reduceLT, Int.reduceLE, Int.reduceMul, Int.reduceEq, List.drop_zero, List.drop_succ_cons, ne_eq, not_false_eq_true, not_true_eq_false, false_and, and_false, false_implies, true_implies, reduceIte, mmU_rd, implies_true, or_false, false_or, or_true, true_or]
        refine w23 I2 (FrV_trans fr1 g2) ?_
        rw [em, ef]
        exact ml2
  refine mmC_in (by decide) (Nat.le_of_ble_eq_true rfl) (mmC_step ?_)
  simp only [show mmMl 200 = 5 from rfl, mmLs, List.replicate, cd_200, sg_200_0, sg_200_7, sg_200_23, sg_200_25, mmK_cut cd_200, q_cons, q_G0, q_GS, q_I1, q_L1, q_A1, q_S0, q_S1, q_SS, q_T0, q_T1, q_TS, q_Kn, q_Ki, q_Kl, q_Kr, q_k0, q_kS, q_rc, q_ps, q_pn, q_aload0, q_getfieldA, q_iload1, q_iconst, q_iastore, q_istore, q_iload, q_icmp_ge, q_iload2, q_if_eq, q_iload3, q_iinc, q_goto, q_return, rf_11_61, mmKe_1261, mmKo_11, mmLen_1261, mmR32, mmR64, Option.some.injEq, Int.cast_ofNat_Int, and_true, true_and, if_true, if_false, List.length_cons, List.length_nil, Nat.le_refl, Nat.zero_le, Nat.sub_zero, forall_const, reduceCtorEq, Nat.reduceAdd, Nat.reduceSub, Nat.reduceLeDiff, Nat.reduceEqDiff, Int.reduceAdd, Int.reduceNeg, Int.reduceSub, Int.reduceLT, Int.reduceLE, Int.reduceMul, Int.reduceEq, List.drop_zero, List.drop_succ_cons, ne_eq, not_false_eq_true, not_true_eq_false, false_and, and_false, false_implies, true_implies, reduceIte, mmU_rd, implies_true, or_false, false_or, or_true, true_or]
  refine ⟨hb.1, hb.2, ?_⟩
  refine key (r 6 0 * r 6 1).toNat 0 _ (by omega) (fun t i k c1 c2 c3 c4 c5 => ?_) ⟨mmU_same, fun n hn => by cases hn⟩
  unfold mmU
  rw [if_neg (fun q => c4 ⟨q.1, q.2.2⟩)]
end S816
