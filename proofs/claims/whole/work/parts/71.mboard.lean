section S71
variable {d a : Nat} {I I' I'' : mMm} {br : Nat → Option mmO} {X : mmX} {T : Int → Int} {s p o : Int} {r : mRu} {S : Int → Prop}
theorem MF_wrong {x : Int} (h : PSr I T s p) (q : MF I (x, I 11 0 10) I') : MF I (x, skE T s p) I' := by
  rw [h.2.2.2.1] at q; exact q
theorem tb_n0 {o b : Int} : (¬ tb o b = 0) ↔ ¬ mmAnd o b = 0 := by rw [tb_0]
set_option maxHeartbeats 1000000 in
theorem m_board (h : PSr I T s p) (hM : M2 I r o) : mmC (d + 4) 160 [mo 11 0] (I, mmRf a br, X) (mT a br X (MP I T s (bdF T s p r o))) := by
  obtain ⟨g4, g5, hT, ⟨hG, hK, hS⟩, hL, h53, hW⟩ := id hM
  have h30 : I 11 0 30 = tb o 1 := hT.2.1
  have h25 : I 11 0 25 = r 6 3 := hG.2.2.2.1
  generalize hZ : bdF T s p r o = Z
  unfold bdF at hZ
  have w6 : (0 < r 6 3 ∨ ¬ mmAnd o 1 = 0) → mmK (d + 3) 160 (mT a br X (MP I T s Z)) 6 [some (mo 11 0)] [] (I, mmRf a br, X) := by
    intro c
    refine mmC_step ?_
    simp only [cd_160, sg_160_0, sg_160_6, sg_160_10, sg_160_22, sg_160_33, mmK_cut cd_160, q_cons, q_G0, q_GS, q_I1, q_L1, q_A1, q_S0, q_S1, q_SS, q_T0, q_T1, q_TS, q_Kn, q_Ki, q_Kl, q_Kr, q_k0, q_kS, q_rc, q_ps, q_pn, q_aload0, q_getfieldZ, q_if_ne, q_getfieldI, q_if_le, q_iconst, q_invV, q_ireturn1, q_putfieldZ, q_putfieldI, mmKo_11, mmR32, mmR64, Option.some.injEq, Int.cast_ofNat_Int, and_true, true_and, if_true, if_false, List.length_cons, List.length_nil, Nat.le_refl, Nat.zero_le, Nat.sub_zero, forall_const, reduceCtorEq, Nat.reduceAdd, Nat.reduceSub, Nat.reduceLeDiff, Nat.reduceEqDiff, Int.reduceAdd, Int.reduceNeg, Int.reduceSub, Int.reduceLT, Int.reduceLE, Int.reduceMul, Int.reduceEq, List.drop_zero, List.drop_succ_cons, ne_eq, not_false_eq_true, not_true_eq_false, false_and, and_false, false_implies, true_implies, reduceIte, mmU_rd, implies_true, or_false, false_or, or_true, true_or]
    refine mT_use m_wrong (fun v I' q => ?_)
    obtain ⟨rfl, q⟩ := q
    simp only [mmK_cut cd_160, q_cons, q_G0, q_GS, q_I1, q_L1, q_A1, q_S0, q_S1, q_SS, q_T0, q_T1, q_TS, q_Kn, q_Ki, q_Kl, q_Kr, q_k0, q_kS, q_rc, q_ps, q_pn, q_aload0, q_getfieldZ, q_if_ne, q_getfieldI, q_if_le, q_iconst, q_invV, q_ireturn1, q_putfieldZ, q_putfieldI, mmKo_11, mmR32, mmR64, Option.some.injEq, Int.cast_ofNat_Int, and_true, true_and, if_true, if_false, List.length_cons, List.length_nil, Nat.le_refl, Nat.zero_le, Nat.sub_zero, forall_const, reduceCtorEq, Nat.reduceAdd, Nat.reduceSub, Nat.reduceLeDiff, Nat.reduceEqDiff, Int.reduceAdd, Int.reduceNeg, Int.reduceSub, Int.reduceLT, Int.reduceLE, Int.reduceMul, Int.reduceEq, List.drop_zero, List.drop_succ_cons, ne_eq, not_false_eq_true, not_true_eq_false, false_and, and_false, false_implies, true_implies, reduceIte, mmU_rd, implies_true, or_false, false_or, or_true, true_or]
    refine mT_in (MP_l ?_ (MF_wrong h q))
    rw [← hZ]
    by_cases c1 : 0 < r 6 3
    · rw [if_pos c1]
    · rw [if_neg c1, if_pos (by omega)]
  refine mmC_in (by decide) (Nat.le_of_ble_eq_true rfl) (mmC_step ?_)
  simp only [show mmMl 160 = 1 from rfl, mmLs, List.replicate, cd_160, sg_160_0, sg_160_6, sg_160_10, sg_160_22, sg_160_33, mmK_cut cd_160, q_cons, q_G0, q_GS, q_I1, q_L1, q_A1, q_S0, q_S1, q_SS, q_T0, q_T1, q_TS, q_Kn, q_Ki, q_Kl, q_Kr, q_k0, q_kS, q_rc, q_ps, q_pn, q_aload0, q_getfieldZ, q_if_ne, q_getfieldI, q_if_le, q_iconst, q_invV, q_ireturn1, q_putfieldZ, q_putfieldI, mmKo_11, mmR32, mmR64, Option.some.injEq, Int.cast_ofNat_Int, and_true, true_and, if_true, if_false, List.length_cons, List.length_nil, Nat.le_refl, Nat.zero_le, Nat.sub_zero, forall_const, reduceCtorEq, Nat.reduceAdd, Nat.reduceSub, Nat.reduceLeDiff, Nat.reduceEqDiff, Int.reduceAdd, Int.reduceNeg, Int.reduceSub, Int.reduceLT, Int.reduceLE, Int.reduceMul, Int.reduceEq, List.drop_zero, List.drop_succ_cons, ne_eq, not_false_eq_true, not_true_eq_false, false_and, and_false, false_implies, true_implies, reduceIte, mmU_rd, implies_true, or_false, false_or, or_true, true_or]
  rw [h30, h25, tb_0]
  refine ⟨fun c => w6 (Or.inr c), fun c => ⟨fun c2 => ?_, fun c2 => w6 (Or.inl (by omega))⟩⟩
  rw [if_neg (by omega), if_neg (fun q => q c)] at hZ
  refine mmC_step ?_
  simp only [cd_160, sg_160_0, sg_160_6, sg_160_10, sg_160_22, sg_160_33, mmK_cut cd_160, q_cons, q_G0, q_GS, q_I1, q_L1, q_A1, q_S0, q_S1, q_SS, q_T0, q_T1, q_TS, q_Kn, q_Ki, q_Kl, q_Kr, q_k0, q_kS, q_rc, q_ps, q_pn, q_aload0, q_getfieldZ, q_if_ne, q_getfieldI, q_if_le, q_iconst, q_invV, q_ireturn1, q_putfieldZ, q_putfieldI, mmKo_11, mmR32, mmR64, Option.some.injEq, Int.cast_ofNat_Int, and_true, true_and, if_true, if_false, List.length_cons, List.length_nil, Nat.le_refl, Nat.zero_le, Nat.sub_zero, forall_const, reduceCtorEq, Nat.reduceAdd, Nat.reduceSub, Nat.reduceLeDiff, Nat.reduceEqDiff, Int.reduceAdd, Int.reduceNeg, Int.reduceSub, Int.reduceLT, Int.reduceLE, Int.reduceMul, Int.reduceEq, List.drop_zero, List.drop_succ_cons, ne_eq, not_false_eq_true, not_true_eq_false, false_and, and_false, false_implies, true_implies, reduceIte, mmU_rd, implies_true, or_false, false_or, or_true, true_or]
  have f1 : FrS S1 I (mmU I 11 0 30 1) := FrS_U (by unfold S1; omega)
  refine mT_use (m_token (PSr_U (v := 1) h (by omega))) (fun v I1 q => ?_)
  obtain ⟨rfl, q1, -, -, h1⟩ := q
  have f2 := FrS_trans f1 (FrS_7 q1 S1_7)
  have b1 : I1 11 0 30 = 1 := q1 _ _ _ (by omega)
  simp only [mmK_cut cd_160, q_cons, q_G0, q_GS, q_I1, q_L1, q_A1, q_S0, q_S1, q_SS, q_T0, q_T1, q_TS, q_Kn, q_Ki, q_Kl, q_Kr, q_k0, q_kS, q_rc, q_ps, q_pn, q_aload0, q_getfieldZ, q_if_ne, q_getfieldI, q_if_le, q_iconst, q_invV, q_ireturn1, q_putfieldZ, q_putfieldI, mmKo_11, mmR32, mmR64, Option.some.injEq, Int.cast_ofNat_Int, and_true, true_and, if_true, if_false, List.length_cons, List.length_nil, Nat.le_refl, Nat.zero_le, Nat.sub_zero, forall_const, reduceCtorEq, Nat.reduceAdd, Nat.reduceSub, Nat.reduceLeDiff, Nat.reduceEqDiff, Int.reduceAdd, Int.reduceNeg, Int.reduceSub, Int.reduceLT, Int.reduceLE, Int.reduceMul, Int.reduceEq, List.drop_zero, List.drop_succ_cons, ne_eq, not_false_eq_true, not_true_eq_false, false_and, and_false, false_implies, true_implies, reduceIte, mmU_rd, implies_true, or_false, false_or, or_true, true_or]
  refine mT_use (m_num h1 (by omega)) (fun v I2 q => ?_)
  rcases q with ⟨e, hn, rfl, q⟩ | ⟨hn, c3, c4, c5, rfl, q2, q3, -, h2⟩
  · rw [hn, pB_l] at hZ
    simp only [mmK_cut cd_160, q_cons, q_G0, q_GS, q_I1, q_L1, q_A1, q_S0, q_S1, q_SS, q_T0, q_T1, q_TS, q_Kn, q_Ki, q_Kl, q_Kr, q_k0, q_kS, q_rc, q_ps, q_pn, q_aload0, q_getfieldZ, q_if_ne, q_getfieldI, q_if_le, q_iconst, q_invV, q_ireturn1, q_putfieldZ, q_putfieldI, mmKo_11, mmR32, mmR64, Option.some.injEq, Int.cast_ofNat_Int, and_true, true_and, if_true, if_false, List.length_cons, List.length_nil, Nat.le_refl, Nat.zero_le, Nat.sub_zero, forall_const, reduceCtorEq, Nat.reduceAdd, Nat.reduceSub, Nat.reduceLeDiff, Nat.reduceEqDiff, Int.reduceAdd, Int.reduceNeg, Int.reduceSub, Int.reduceLT, Int.reduceLE, Int.reduceMul, Int.reduceEq, List.drop_zero, List.drop_succ_cons, ne_eq, not_false_eq_true, not_true_eq_false, false_and, and_false, false_implies, true_implies, reduceIte, mmU_rd, implies_true, or_false, false_or, or_true, true_or]
    exact mT_in (MP_l hZ.symm (MF_trans (FrM_S f2) q))
  rw [hn, pB_r] at hZ
  have b2 : I2 11 0 30 = 1 := (q2 _ _ _ (by omega)).trans b1
  have f3 := FrS_trans (FrS_trans f2 (FrS_7 q2 S1_7)) (FrS_U (i := 0) (k := 22) (v := I2 11 0 11) (by unfold S1; omega))
  simp only [mmK_cut cd_160, q_cons, q_G0, q_GS, q_I1, q_L1, q_A1, q_S0, q_S1, q_SS, q_T0, q_T1, q_TS, q_Kn, q_Ki, q_Kl, q_Kr, q_k0, q_kS, q_rc, q_ps, q_pn, q_aload0, q_getfieldZ, q_if_ne, q_getfieldI, q_if_le, q_iconst, q_invV, q_ireturn1, q_putfieldZ, q_putfieldI, mmKo_11, mmR32, mmR64, Option.some.injEq, Int.cast_ofNat_Int, and_true, true_and, if_true, if_false, List.length_cons, List.length_nil, Nat.le_refl, Nat.zero_le, Nat.sub_zero, forall_const, reduceCtorEq, Nat.reduceAdd, Nat.reduceSub, Nat.reduceLeDiff, Nat.reduceEqDiff, Int.reduceAdd, Int.reduceNeg, Int.reduceSub, Int.reduceLT, Int.reduceLE, Int.reduceMul, Int.reduceEq, List.drop_zero, List.drop_succ_cons, ne_eq, not_false_eq_true, not_true_eq_false, false_and, and_false, false_implies, true_implies, reduceIte, mmU_rd, implies_true, or_false, false_or, or_true, true_or]
  refine mmC_step ?_
  simp only [cd_160, sg_160_0, sg_160_6, sg_160_10, sg_160_22, sg_160_33, mmK_cut cd_160, q_cons, q_G0, q_GS, q_I1, q_L1, q_A1, q_S0, q_S1, q_SS, q_T0, q_T1, q_TS, q_Kn, q_Ki, q_Kl, q_Kr, q_k0, q_kS, q_rc, q_ps, q_pn, q_aload0, q_getfieldZ, q_if_ne, q_getfieldI, q_if_le, q_iconst, q_invV, q_ireturn1, q_putfieldZ, q_putfieldI, mmKo_11, mmR32, mmR64, Option.some.injEq, Int.cast_ofNat_Int, and_true, true_and, if_true, if_false, List.length_cons, List.length_nil, Nat.le_refl, Nat.zero_le, Nat.sub_zero, forall_const, reduceCtorEq, Nat.reduceAdd, Nat.reduceSub, Nat.reduceLeDiff, Nat.reduceEqDiff, Int.reduceAdd, Int.reduceNeg, Int.reduceSub, Int.reduceLT, Int.reduceLE, Int.reduceMul, Int.reduceEq, List.drop_zero, List.drop_succ_cons, ne_eq, not_false_eq_true, not_true_eq_false, false_and, and_false, false_implies, true_implies, reduceIte, mmU_rd, implies_true, or_false, false_or, or_true, true_or]
  refine mT_use (m_num (PSr_U h2 (by omega)) (by omega)) (fun v I3 q => ?_)
  rcases q with ⟨e, hn, rfl, q⟩ | ⟨hn, c6, c7, c8, rfl, q4, q5, -, h3⟩
  · rw [hn, pB_l] at hZ
    simp only [mmK_cut cd_160, q_cons, q_G0, q_GS, q_I1, q_L1, q_A1, q_S0, q_S1, q_SS, q_T0, q_T1, q_TS, q_Kn, q_Ki, q_Kl, q_Kr, q_k0, q_kS, q_rc, q_ps, q_pn, q_aload0, q_getfieldZ, q_if_ne, q_getfieldI, q_if_le, q_iconst, q_invV, q_ireturn1, q_putfieldZ, q_putfieldI, mmKo_11, mmR32, mmR64, Option.some.injEq, Int.cast_ofNat_Int, and_true, true_and, if_true, if_false, List.length_cons, List.length_nil, Nat.le_refl, Nat.zero_le, Nat.sub_zero, forall_const, reduceCtorEq, Nat.reduceAdd, Nat.reduceSub, Nat.reduceLeDiff, Nat.reduceEqDiff, Int.reduceAdd, Int.reduceNeg, Int.reduceSub, Int.reduceLT, Int.reduceLE, Int.reduceMul, Int.reduceEq, List.drop_zero, List.drop_succ_cons, ne_eq, not_false_eq_true, not_true_eq_false, false_and, and_false, false_implies, true_implies, reduceIte, mmU_rd, implies_true, or_false, false_or, or_true, true_or]
    exact mT_in (MP_l hZ.symm (MF_trans (FrM_S f3) q))
  rw [hn, pB_r] at hZ
  have f4 := FrS_trans (FrS_trans f3 (FrS_7 q4 S1_7)) (FrS_U (i := 0) (k := 23) (v := I3 11 0 11) (by unfold S1; omega))
  simp only [mmK_cut cd_160, q_cons, q_G0, q_GS, q_I1, q_L1, q_A1, q_S0, q_S1, q_SS, q_T0, q_T1, q_TS, q_Kn, q_Ki, q_Kl, q_Kr, q_k0, q_kS, q_rc, q_ps, q_pn, q_aload0, q_getfieldZ, q_if_ne, q_getfieldI, q_if_le, q_iconst, q_invV, q_ireturn1, q_putfieldZ, q_putfieldI, mmKo_11, mmR32, mmR64, Option.some.injEq, Int.cast_ofNat_Int, and_true, true_and, if_true, if_false, List.length_cons, List.length_nil, Nat.le_refl, Nat.zero_le, Nat.sub_zero, forall_const, reduceCtorEq, Nat.reduceAdd, Nat.reduceSub, Nat.reduceLeDiff, Nat.reduceEqDiff, Int.reduceAdd, Int.reduceNeg, Int.reduceSub, Int.reduceLT, Int.reduceLE, Int.reduceMul, Int.reduceEq, List.drop_zero, List.drop_succ_cons, ne_eq, not_false_eq_true, not_true_eq_false, false_and, and_false, false_implies, true_implies, reduceIte, mmU_rd, implies_true, or_false, false_or, or_true, true_or]
  refine mmC_step ?_
  simp only [cd_160, sg_160_0, sg_160_6, sg_160_10, sg_160_22, sg_160_33, mmK_cut cd_160, q_cons, q_G0, q_GS, q_I1, q_L1, q_A1, q_S0, q_S1, q_SS, q_T0, q_T1, q_TS, q_Kn, q_Ki, q_Kl, q_Kr, q_k0, q_kS, q_rc, q_ps, q_pn, q_aload0, q_getfieldZ, q_if_ne, q_getfieldI, q_if_le, q_iconst, q_invV, q_ireturn1, q_putfieldZ, q_putfieldI, mmKo_11, mmR32, mmR64, Option.some.injEq, Int.cast_ofNat_Int, and_true, true_and, if_true, if_false, List.length_cons, List.length_nil, Nat.le_refl, Nat.zero_le, Nat.sub_zero, forall_const, reduceCtorEq, Nat.reduceAdd, Nat.reduceSub, Nat.reduceLeDiff, Nat.reduceEqDiff, Int.reduceAdd, Int.reduceNeg, Int.reduceSub, Int.reduceLT, Int.reduceLE, Int.reduceMul, Int.reduceEq, List.drop_zero, List.drop_succ_cons, ne_eq, not_false_eq_true, not_true_eq_false, false_and, and_false, false_implies, true_implies, reduceIte, mmU_rd, implies_true, or_false, false_or, or_true, true_or]
  have e : ∀ k : Int, ¬ ((7 ≤ k ∧ k ≤ 11) ∨ k = 47) → ¬ k = 23 → ¬ k = 22 → ¬ k = 30 → mmU I3 11 0 23 (I3 11 0 11) 11 0 k = I 11 0 k := by
    intro k d1 d2 d3 d4
    have e1 : mmU I3 11 0 23 (I3 11 0 11) 11 0 k = I3 11 0 k := by unfold mmU; rw [if_neg (by omega)]
    rw [e1, q4 _ _ _ (by omega)]
    have e2 : mmU I2 11 0 22 (I2 11 0 11) 11 0 k = I2 11 0 k := by unfold mmU; rw [if_neg (by omega)]
    rw [e2, q2 _ _ _ (by omega), q1 _ _ _ (by omega)]
    unfold mmU; rw [if_neg (by omega)]
  have e22 : mmU I3 11 0 23 (I3 11 0 11) 11 0 22 = tkV T s (tkN T s p) := (q4 11 0 22 (by omega)).trans q3
  have e23 : mmU I3 11 0 23 (I3 11 0 11) 11 0 23 = tkV T s (tkN T s (tkN T s p)) := q5
  have e30 : mmU I3 11 0 23 (I3 11 0 11) 11 0 30 = 1 := (q4 11 0 30 (by omega)).trans b2
  refine mT_in (Or.inr ⟨_, _, _, hZ.symm, rfl, FrM_S f4, PSr_U h3 (by omega), ?_, BL_S f4⟩)
  refine M2_sc hM f4 ((e 4 (by omega) (by omega) (by omega) (by omega)).trans g4) ((e 5 (by omega) (by omega) (by omega) (by omega)).trans g5) ?_ (e 31 (by omega) (by omega) (by omega) (by omega)) (e 26 (by omega) (by omega) (by omega) (by omega)) (fun t x ht => ?_) rfl rfl (Or.inr ?_) ?_ ⟨e22, e23, ?_⟩
  · refine TO_or (b := 0) hT (fun c => ?_)
    match c with
    | 0 => exact e30
    | 1 => exact e 31 (by omega) (by omega) (by omega) (by omega)
    | 2 => exact e 32 (by omega) (by omega) (by omega) (by omega)
    | 3 => exact e 33 (by omega) (by omega) (by omega) (by omega)
    | 4 => exact e 34 (by omega) (by omega) (by omega) (by omega)
  · unfold ru; rw [if_neg (by omega), if_neg (by omega)]
  · have := hW.2.2.2.1; omega
  · obtain ⟨w0, w1, w2⟩ := hW
    exact ⟨⟨c4, c5⟩, ⟨c7, c8⟩, w2⟩
  · exact ⟨(e 24 (by omega) (by omega) (by omega) (by omega)).trans hG.2.2.1, (e 25 (by omega) (by omega) (by omega) (by omega)).trans hG.2.2.2.1, (e 27 (by omega) (by omega) (by omega) (by omega)).trans hG.2.2.2.2.1, (e 28 (by omega) (by omega) (by omega) (by omega)).trans hG.2.2.2.2.2.1, (e 29 (by omega) (by omega) (by omega) (by omega)).trans hG.2.2.2.2.2.2.1, (e 34 (by omega) (by omega) (by omega) (by omega)).trans hG.2.2.2.2.2.2.2⟩
set_option maxHeartbeats 1000000 in
theorem m_post (h : PSr I T s p) (hM : M2 I r o) : mmC (d + 4) 166 [mo 11 0] (I, mmRf a br, X) (mT a br X (MP I T s (psF T s p r o))) := by
  obtain ⟨g4, g5, hT, ⟨hG, hK, hS⟩, hL, h53, hW⟩ := id hM
  have h32 : I 11 0 32 = tb o 4 := hT.2.2.2.1
  generalize hZ : psF T s p r o = Z
  unfold psF at hZ
  refine mmC_in (by decide) (Nat.le_of_ble_eq_true rfl) (mmC_step ?_)
  simp only [show mmMl 166 = 1 from rfl, mmLs, List.replicate, cd_166, sg_166_0, sg_166_7, sg_166_19, sg_166_31, mmK_cut cd_166, q_cons, q_G0, q_GS, q_I1, q_L1, q_A1, q_S0, q_S1, q_SS, q_T0, q_T1, q_TS, q_Kn, q_Ki, q_Kl, q_Kr, q_k0, q_kS, q_rc, q_ps, q_pn, q_aload0, q_getfieldZ, q_if_eq, q_iconst, q_invV, q_ireturn1, q_putfieldZ, q_bipush, q_if_ne, q_getfieldI, q_putfieldI, mmKo_11, mmR32, mmR64, Option.some.injEq, Int.cast_ofNat_Int, and_true, true_and, if_true, if_false, List.length_cons, List.length_nil, Nat.le_refl, Nat.zero_le, Nat.sub_zero, forall_const, reduceCtorEq, Nat.reduceAdd, Nat.reduceSub, Nat.reduceLeDiff, Nat.reduceEqDiff, Int.reduceAdd, Int.reduceNeg, Int.reduceSub, Int.reduceLT, Int.reduceLE, Int.reduceMul, Int.reduceEq, List.drop_zero, List.drop_succ_cons, ne_eq, not_false_eq_true, not_true_eq_false, false_and, and_false, false_implies, true_implies, reduceIte, mmU_rd, implies_true, or_false, false_or, or_true, true_or]
  rw [h32, tb_0]
  refine ⟨fun c => ?_, fun c => ?_⟩
  · rw [if_neg (fun q => q c)] at hZ
    refine mmC_step ?_
    simp only [cd_166, sg_166_0, sg_166_7, sg_166_19, sg_166_31, mmK_cut cd_166, q_cons, q_G0, q_GS, q_I1, q_L1, q_A1, q_S0, q_S1, q_SS, q_T0, q_T1, q_TS, q_Kn, q_Ki, q_Kl, q_Kr, q_k0, q_kS, q_rc, q_ps, q_pn, q_aload0, q_getfieldZ, q_if_eq, q_iconst, q_invV, q_ireturn1, q_putfieldZ, q_bipush, q_if_ne, q_getfieldI, q_putfieldI, mmKo_11, mmR32, mmR64, Option.some.injEq, Int.cast_ofNat_Int, and_true, true_and, if_true, if_false, List.length_cons, List.length_nil, Nat.le_refl, Nat.zero_le, Nat.sub_zero, forall_const, reduceCtorEq, Nat.reduceAdd, Nat.reduceSub, Nat.reduceLeDiff, Nat.reduceEqDiff, Int.reduceAdd, Int.reduceNeg, Int.reduceSub, Int.reduceLT, Int.reduceLE, Int.reduceMul, Int.reduceEq, List.drop_zero, List.drop_succ_cons, ne_eq, not_false_eq_true, not_true_eq_false, false_and, and_false, false_implies, true_implies, reduceIte, mmU_rd, implies_true, or_false, false_or, or_true, true_or]
    have f1 : FrS S1 I (mmU I 11 0 32 1) := FrS_U (by unfold S1; omega)
    refine mT_use (m_token (PSr_U (v := 1) h (by omega))) (fun v I1 q => ?_)
    obtain ⟨rfl, q1, -, -, h1⟩ := q
    have f2 := FrS_trans f1 (FrS_7 q1 S1_7)
    have b1 : I1 11 0 32 = 1 := q1 _ _ _ (by omega)
    simp only [mmK_cut cd_166, q_cons, q_G0, q_GS, q_I1, q_L1, q_A1, q_S0, q_S1, q_SS, q_T0, q_T1, q_TS, q_Kn, q_Ki, q_Kl, q_Kr, q_k0, q_kS, q_rc, q_ps, q_pn, q_aload0, q_getfieldZ, q_if_eq, q_iconst, q_invV, q_ireturn1, q_putfieldZ, q_bipush, q_if_ne, q_getfieldI, q_putfieldI, mmKo_11, mmR32, mmR64, Option.some.injEq, Int.cast_ofNat_Int, and_true, true_and, if_true, if_false, List.length_cons, List.length_nil, Nat.le_refl, Nat.zero_le, Nat.sub_zero, forall_const, reduceCtorEq, Nat.reduceAdd, Nat.reduceSub, Nat.reduceLeDiff, Nat.reduceEqDiff, Int.reduceAdd, Int.reduceNeg, Int.reduceSub, Int.reduceLT, Int.reduceLE, Int.reduceMul, Int.reduceEq, List.drop_zero, List.drop_succ_cons, ne_eq, not_false_eq_true, not_true_eq_false, false_and, and_false, false_implies, true_implies, reduceIte, mmU_rd, implies_true, or_false, false_or, or_true, true_or]
    refine mT_use (m_num h1 (by omega)) (fun v I2 q => ?_)
    rcases q with ⟨e, hn, rfl, q⟩ | ⟨hn, c3, c4, c5, rfl, q2, q3, -, h2⟩
    · rw [hn, pB_l] at hZ
      simp only [mmK_cut cd_166, q_cons, q_G0, q_GS, q_I1, q_L1, q_A1, q_S0, q_S1, q_SS, q_T0, q_T1, q_TS, q_Kn, q_Ki, q_Kl, q_Kr, q_k0, q_kS, q_rc, q_ps, q_pn, q_aload0, q_getfieldZ, q_if_eq, q_iconst, q_invV, q_ireturn1, q_putfieldZ, q_bipush, q_if_ne, q_getfieldI, q_putfieldI, mmKo_11, mmR32, mmR64, Option.some.injEq, Int.cast_ofNat_Int, and_true, true_and, if_true, if_false, List.length_cons, List.length_nil, Nat.le_refl, Nat.zero_le, Nat.sub_zero, forall_const, reduceCtorEq, Nat.reduceAdd, Nat.reduceSub, Nat.reduceLeDiff, Nat.reduceEqDiff, Int.reduceAdd, Int.reduceNeg, Int.reduceSub, Int.reduceLT, Int.reduceLE, Int.reduceMul, Int.reduceEq, List.drop_zero, List.drop_succ_cons, ne_eq, not_false_eq_true, not_true_eq_false, false_and, and_false, false_implies, true_implies, reduceIte, mmU_rd, implies_true, or_false, false_or, or_true, true_or]
      exact mT_in (MP_l hZ.symm (MF_trans (FrM_S f2) q))
    rw [hn, pB_r] at hZ
    have b2 : I2 11 0 32 = 1 := (q2 _ _ _ (by omega)).trans b1
    have f3 := FrS_trans (FrS_trans f2 (FrS_7 q2 S1_7)) (FrS_U (i := 0) (k := 27) (v := I2 11 0 11) (by unfold S1; omega))
    simp only [mmK_cut cd_166, q_cons, q_G0, q_GS, q_I1, q_L1, q_A1, q_S0, q_S1, q_SS, q_T0, q_T1, q_TS, q_Kn, q_Ki, q_Kl, q_Kr, q_k0, q_kS, q_rc, q_ps, q_pn, q_aload0, q_getfieldZ, q_if_eq, q_iconst, q_invV, q_ireturn1, q_putfieldZ, q_bipush, q_if_ne, q_getfieldI, q_putfieldI, mmKo_11, mmR32, mmR64, Option.some.injEq, Int.cast_ofNat_Int, and_true, true_and, if_true, if_false, List.length_cons, List.length_nil, Nat.le_refl, Nat.zero_le, Nat.sub_zero, forall_const, reduceCtorEq, Nat.reduceAdd, Nat.reduceSub, Nat.reduceLeDiff, Nat.reduceEqDiff, Int.reduceAdd, Int.reduceNeg, Int.reduceSub, Int.reduceLT, Int.reduceLE, Int.reduceMul, Int.reduceEq, List.drop_zero, List.drop_succ_cons, ne_eq, not_false_eq_true, not_true_eq_false, false_and, and_false, false_implies, true_implies, reduceIte, mmU_rd, implies_true, or_false, false_or, or_true, true_or]
    refine mmC_step ?_
    simp only [cd_166, sg_166_0, sg_166_7, sg_166_19, sg_166_31, mmK_cut cd_166, q_cons, q_G0, q_GS, q_I1, q_L1, q_A1, q_S0, q_S1, q_SS, q_T0, q_T1, q_TS, q_Kn, q_Ki, q_Kl, q_Kr, q_k0, q_kS, q_rc, q_ps, q_pn, q_aload0, q_getfieldZ, q_if_eq, q_iconst, q_invV, q_ireturn1, q_putfieldZ, q_bipush, q_if_ne, q_getfieldI, q_putfieldI, mmKo_11, mmR32, mmR64, Option.some.injEq, Int.cast_ofNat_Int, and_true, true_and, if_true, if_false, List.length_cons, List.length_nil, Nat.le_refl, Nat.zero_le, Nat.sub_zero, forall_const, reduceCtorEq, Nat.reduceAdd, Nat.reduceSub, Nat.reduceLeDiff, Nat.reduceEqDiff, Int.reduceAdd, Int.reduceNeg, Int.reduceSub, Int.reduceLT, Int.reduceLE, Int.reduceMul, Int.reduceEq, List.drop_zero, List.drop_succ_cons, ne_eq, not_false_eq_true, not_true_eq_false, false_and, and_false, false_implies, true_implies, reduceIte, mmU_rd, implies_true, or_false, false_or, or_true, true_or]
    refine mT_use (m_num (lo := I2 11 0 11) (PSr_U h2 (by omega)) (by omega)) (fun v I3 q => ?_)
    rw [q3] at q
    rcases q with ⟨e, hn, rfl, q⟩ | ⟨hn, c6, c7, c8, rfl, q4, q5, -, h3⟩
    · rw [hn, pB_l] at hZ
      simp only [mmK_cut cd_166, q_cons, q_G0, q_GS, q_I1, q_L1, q_A1, q_S0, q_S1, q_SS, q_T0, q_T1, q_TS, q_Kn, q_Ki, q_Kl, q_Kr, q_k0, q_kS, q_rc, q_ps, q_pn, q_aload0, q_getfieldZ, q_if_eq, q_iconst, q_invV, q_ireturn1, q_putfieldZ, q_bipush, q_if_ne, q_getfieldI, q_putfieldI, mmKo_11, mmR32, mmR64, Option.some.injEq, Int.cast_ofNat_Int, and_true, true_and, if_true, if_false, List.length_cons, List.length_nil, Nat.le_refl, Nat.zero_le, Nat.sub_zero, forall_const, reduceCtorEq, Nat.reduceAdd, Nat.reduceSub, Nat.reduceLeDiff, Nat.reduceEqDiff, Int.reduceAdd, Int.reduceNeg, Int.reduceSub, Int.reduceLT, Int.reduceLE, Int.reduceMul, Int.reduceEq, List.drop_zero, List.drop_succ_cons, ne_eq, not_false_eq_true, not_true_eq_false, false_and, and_false, false_implies, true_implies, reduceIte, mmU_rd, implies_true, or_false, false_or, or_true, true_or]
      rw [← q3] at q
      exact mT_in (MP_l hZ.symm (MF_trans (FrM_S f3) q))
    rw [← q3] at q4
    rw [hn, pB_r] at hZ
    have f4 := FrS_trans (FrS_trans f3 (FrS_7 q4 S1_7)) (FrS_U (i := 0) (k := 28) (v := I3 11 0 11) (by unfold S1; omega))
    simp only [mmK_cut cd_166, q_cons, q_G0, q_GS, q_I1, q_L1, q_A1, q_S0, q_S1, q_SS, q_T0, q_T1, q_TS, q_Kn, q_Ki, q_Kl, q_Kr, q_k0, q_kS, q_rc, q_ps, q_pn, q_aload0, q_getfieldZ, q_if_eq, q_iconst, q_invV, q_ireturn1, q_putfieldZ, q_bipush, q_if_ne, q_getfieldI, q_putfieldI, mmKo_11, mmR32, mmR64, Option.some.injEq, Int.cast_ofNat_Int, and_true, true_and, if_true, if_false, List.length_cons, List.length_nil, Nat.le_refl, Nat.zero_le, Nat.sub_zero, forall_const, reduceCtorEq, Nat.reduceAdd, Nat.reduceSub, Nat.reduceLeDiff, Nat.reduceEqDiff, Int.reduceAdd, Int.reduceNeg, Int.reduceSub, Int.reduceLT, Int.reduceLE, Int.reduceMul, Int.reduceEq, List.drop_zero, List.drop_succ_cons, ne_eq, not_false_eq_true, not_true_eq_false, false_and, and_false, false_implies, true_implies, reduceIte, mmU_rd, implies_true, or_false, false_or, or_true, true_or]
    refine mmC_step ?_
    simp only [cd_166, sg_166_0, sg_166_7, sg_166_19, sg_166_31, mmK_cut cd_166, q_cons, q_G0, q_GS, q_I1, q_L1, q_A1, q_S0, q_S1, q_SS, q_T0, q_T1, q_TS, q_Kn, q_Ki, q_Kl, q_Kr, q_k0, q_kS, q_rc, q_ps, q_pn, q_aload0, q_getfieldZ, q_if_eq, q_iconst, q_invV, q_ireturn1, q_putfieldZ, q_bipush, q_if_ne, q_getfieldI, q_putfieldI, mmKo_11, mmR32, mmR64, Option.some.injEq, Int.cast_ofNat_Int, and_true, true_and, if_true, if_false, List.length_cons, List.length_nil, Nat.le_refl, Nat.zero_le, Nat.sub_zero, forall_const, reduceCtorEq, Nat.reduceAdd, Nat.reduceSub, Nat.reduceLeDiff, Nat.reduceEqDiff, Int.reduceAdd, Int.reduceNeg, Int.reduceSub, Int.reduceLT, Int.reduceLE, Int.reduceMul, Int.reduceEq, List.drop_zero, List.drop_succ_cons, ne_eq, not_false_eq_true, not_true_eq_false, false_and, and_false, false_implies, true_implies, reduceIte, mmU_rd, implies_true, or_false, false_or, or_true, true_or]
    have e : ∀ k : Int, ¬ ((7 ≤ k ∧ k ≤ 11) ∨ k = 47) → ¬ k = 28 → ¬ k = 27 → ¬ k = 32 → mmU I3 11 0 28 (I3 11 0 11) 11 0 k = I 11 0 k := by
      intro k d1 d2 d3 d4
      have e1 : mmU I3 11 0 28 (I3 11 0 11) 11 0 k = I3 11 0 k := by unfold mmU; rw [if_neg (by omega)]
      rw [e1, q4 _ _ _ (by omega)]
      have e2 : mmU I2 11 0 27 (I2 11 0 11) 11 0 k = I2 11 0 k := by unfold mmU; rw [if_neg (by omega)]
      rw [e2, q2 _ _ _ (by omega), q1 _ _ _ (by omega)]
      unfold mmU; rw [if_neg (by omega)]
    have e27 : mmU I3 11 0 28 (I3 11 0 11) 11 0 27 = tkV T s (tkN T s p) := (q4 11 0 27 (by omega)).trans q3
    have e28 : mmU I3 11 0 28 (I3 11 0 11) 11 0 28 = tkV T s (tkN T s (tkN T s p)) := q5
    have e32 : mmU I3 11 0 28 (I3 11 0 11) 11 0 32 = 1 := (q4 11 0 32 (by omega)).trans b2
    refine mT_in (Or.inr ⟨_, _, _, hZ.symm, rfl, FrM_S f4, PSr_U h3 (by omega), ?_, BL_S f4⟩)
    refine M2_sc hM f4 ((e 4 (by omega) (by omega) (by omega) (by omega)).trans g4) ((e 5 (by omega) (by omega) (by omega) (by omega)).trans g5) ?_ (e 31 (by omega) (by omega) (by omega) (by omega)) (e 26 (by omega) (by omega) (by omega) (by omega)) (fun t x ht => ?_) rfl rfl (Or.inl ⟨rfl, rfl⟩) ?_ ⟨(e 22 (by omega) (by omega) (by omega) (by omega)).trans hG.1, (e 23 (by omega) (by omega) (by omega) (by omega)).trans hG.2.1, (e 24 (by omega) (by omega) (by omega) (by omega)).trans hG.2.2.1, (e 25 (by omega) (by omega) (by omega) (by omega)).trans hG.2.2.2.1, e27, e28, (e 29 (by omega) (by omega) (by omega) (by omega)).trans hG.2.2.2.2.2.2.1, (e 34 (by omega) (by omega) (by omega) (by omega)).trans hG.2.2.2.2.2.2.2⟩
    · refine TO_or (b := 2) hT (fun c => ?_)
      match c with
      | 0 => exact e 30 (by omega) (by omega) (by omega) (by omega)
      | 1 => exact e 31 (by omega) (by omega) (by omega) (by omega)
      | 2 => exact e32
      | 3 => exact e 33 (by omega) (by omega) (by omega) (by omega)
      | 4 => exact e 34 (by omega) (by omega) (by omega) (by omega)
    · unfold ru; rw [if_neg (by omega), if_neg (by omega)]
    · obtain ⟨w0, w1, w2, w3, w4, w5, w6⟩ := hW
      exact ⟨w0, w1, w2, w3, ⟨c4, c5⟩, ⟨c7, c8⟩, w6⟩
  · refine mT_use m_wrong (fun v I' q => ?_)
    obtain ⟨rfl, q⟩ := q
    simp only [mmK_cut cd_166, q_cons, q_G0, q_GS, q_I1, q_L1, q_A1, q_S0, q_S1, q_SS, q_T0, q_T1, q_TS, q_Kn, q_Ki, q_Kl, q_Kr, q_k0, q_kS, q_rc, q_ps, q_pn, q_aload0, q_getfieldZ, q_if_eq, q_iconst, q_invV, q_ireturn1, q_putfieldZ, q_bipush, q_if_ne, q_getfieldI, q_putfieldI, mmKo_11, mmR32, mmR64, Option.some.injEq, Int.cast_ofNat_Int, and_true, true_and, if_true, if_false, List.length_cons, List.length_nil, Nat.le_refl, Nat.zero_le, Nat.sub_zero, forall_const, reduceCtorEq, Nat.reduceAdd, Nat.reduceSub, Nat.reduceLeDiff, Nat.reduceEqDiff, Int.reduceAdd, Int.reduceNeg, Int.reduceSub, Int.reduceLT, Int.reduceLE, Int.reduceMul, Int.reduceEq, List.drop_zero, List.drop_succ_cons, ne_eq, not_false_eq_true, not_true_eq_false, false_and, and_false, false_implies, true_implies, reduceIte, mmU_rd, implies_true, or_false, false_or, or_true, true_or]
    refine mT_in (MP_l ?_ (MF_wrong h q))
    rw [← hZ, if_pos c]
end S71
