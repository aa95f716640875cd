theorem mmU_same {f : mMm} {t i : Nat} {k v : Int} : mmU f t i k v t i k = v := if_pos ⟨rfl, rfl, rfl⟩
section S73
variable {d a : Nat} {I I' I'' : mMm} {br : Nat → Option mmO} {X : mmX} {T : Int → Int} {s p o k : Int} {r r' r'' : mRu} {S : Int → Prop}
theorem TR_isKey {so va ki wh x : Int} (h : TR so va ki wh) (hx : 0 ≤ x) : (ki = 1 ∧ wh = x) ↔ (so = 1 ∧ kyF va = x) := by
  have := TR_key h
  omega
theorem M2_kinc (h : M2 I r o) (hk : k = r 6 2 ∧ k < 4) (hE : KE r (Gr I) k) : M2 (mmU I 11 0 24 (k + 1)) (ru r 6 2 (k + 1)) o := by
  obtain ⟨g1, g2, g3, ⟨g4, g5, g6⟩, g7, g8, g9⟩ := h
  obtain ⟨hk, hk4⟩ := hk
  have r6 : ∀ t x, ¬ (t = 6 ∧ x = 2) → ru r 6 2 (k + 1) t x = r t x := fun t x c => if_neg c
  have r62 : ru r 6 2 (k + 1) 6 2 = k + 1 := if_pos ⟨rfl, rfl⟩
  have eR : ∀ t, ¬ t = 6 → ru r 6 2 (k + 1) t = r t := fun t ht => funext fun x => r6 t x (by omega)
  refine ⟨g1, g2, g3, ⟨?_, fun k' h0 h1 => ?_, ?_⟩, ?_, g8, ?_⟩
  · obtain ⟨t0, t1, t2, t3, t4, t5, t6, t7⟩ := g4
    exact ⟨t0, t1, rfl, t3, t4, t5, t6, t7⟩
  · rw [r62] at h1
    have : KE r (Gr I) k' := by
      by_cases c : k' = k
      · rw [c]; exact hE
      · exact g5 k' h0 (by omega)
    unfold KE at this ⊢
    rw [eR 708 (by omega), eR 709 (by omega), eR 710 (by omega), eR 711 (by omega), eR 712 (by omega), eR 713 (by omega)]
    exact this
  · obtain ⟨s1, s2, s3, s4⟩ := g6
    unfold SE
    rw [eR 710 (by omega), eR 714 (by omega), eR 715 (by omega), r62, r6 6 3 (by omega), r6 6 0 (by omega), r6 6 1 (by omega)]
    refine ⟨fun i h0 h1 => ?_, s2, s3, s4⟩
    have := s1 i h0 h1
    exact ⟨⟨this.1.1, (show Gr I 20 i < k + 1 by omega)⟩, this.2⟩
  · unfold RLw at g7 ⊢
    rw [eR 1 (by omega), eR 200 (by omega)]
    exact g7
  · obtain ⟨w0, w1, w2, w3, w4⟩ := g9
    exact ⟨w0, w1, (by rw [r62]; omega), w3, w4⟩
theorem fdF_congr {g g' : Int → Int} {x : Int} : ∀ (m : Nat) (i : Int), (∀ k, i ≤ k → k < i + m → g k = g' k) → fdF g x m i = fdF g' x m i
  | 0, _, _ => rfl
  | m + 1, i, h => by
    rw [fdF_s, fdF_s, h i (by omega) (by omega), fdF_congr m (i + 1) (fun k h0 h1 => h k (by omega) (by omega))]
theorem m_isStep (h : PSr I T s p) : mmC (d + 2) 161 [mo 11 0] (I, mmRf a br, X) (mT a br X fun v I' => v = some (mv (bI (tkS T s p = 2 ∨ (tkS T s p = 3 ∧ tkV T s p = 45)))) ∧ I' = I) := by
  have hR := h.2.2.2.2.1
  refine mmC_in (by decide) (Nat.le_of_ble_eq_true rfl) (mmC_step ?_)
  simp only [show mmMl 161 = 1 from rfl, mmLs, List.replicate, cd_161, sg_161_0, sg_161_8, sg_161_10, sg_161_11, mmK_cut cd_161, q_cons, q_G0, q_GS, q_I1, q_L1, q_A1, q_S0, q_S1, q_SS, q_T0, q_T1, q_TS, q_Kn, q_Ki, q_Kl, q_Kr, q_k0, q_kS, q_rc, q_ps, q_pn, q_aload0, q_getfieldI, q_iconst, q_icmp_eq, q_bipush, q_invV, q_if_eq, q_goto, q_ireturn1, mmKo_11, mmR32, mmR64, Option.some.injEq, Int.cast_ofNat_Int, and_true, true_and, if_true, if_false, List.length_cons, List.length_nil, Nat.le_refl, Nat.zero_le, Nat.sub_zero, forall_const, reduceCtorEq, Nat.reduceAdd, Nat.reduceSub, Nat.reduceLeDiff, Nat.reduceEqDiff, Int.reduceAdd, Int.reduceNeg, Int.reduceSub, Int.reduceLT, Int.reduceLE, Int.reduceMul, Int.reduceEq, List.drop_zero, List.drop_succ_cons, ne_eq, not_false_eq_true, not_true_eq_false, false_and, and_false, false_implies, true_implies, reduceIte, mmU_rd, implies_true, or_false, false_or, or_true, true_or]
  refine ⟨fun c => ?_, fun c => ?_⟩
  · refine mmC_step ?_
    simp only [cd_161, sg_161_0, sg_161_8, sg_161_10, sg_161_11, mmK_cut cd_161, q_cons, q_G0, q_GS, q_I1, q_L1, q_A1, q_S0, q_S1, q_SS, q_T0, q_T1, q_TS, q_Kn, q_Ki, q_Kl, q_Kr, q_k0, q_kS, q_rc, q_ps, q_pn, q_aload0, q_getfieldI, q_iconst, q_icmp_eq, q_bipush, q_invV, q_if_eq, q_goto, q_ireturn1, mmKo_11, mmR32, mmR64, Option.some.injEq, Int.cast_ofNat_Int, and_true, true_and, if_true, if_false, List.length_cons, List.length_nil, Nat.le_refl, Nat.zero_le, Nat.sub_zero, forall_const, reduceCtorEq, Nat.reduceAdd, Nat.reduceSub, Nat.reduceLeDiff, Nat.reduceEqDiff, Int.reduceAdd, Int.reduceNeg, Int.reduceSub, Int.reduceLT, Int.reduceLE, Int.reduceMul, Int.reduceEq, List.drop_zero, List.drop_succ_cons, ne_eq, not_false_eq_true, not_true_eq_false, false_and, and_false, false_implies, true_implies, reduceIte, mmU_rd, implies_true, or_false, false_or, or_true, true_or]
    refine mmC_step ?_
    simp only [cd_161, sg_161_0, sg_161_8, sg_161_10, sg_161_11, mmK_cut cd_161, q_cons, q_G0, q_GS, q_I1, q_L1, q_A1, q_S0, q_S1, q_SS, q_T0, q_T1, q_TS, q_Kn, q_Ki, q_Kl, q_Kr, q_k0, q_kS, q_rc, q_ps, q_pn, q_aload0, q_getfieldI, q_iconst, q_icmp_eq, q_bipush, q_invV, q_if_eq, q_goto, q_ireturn1, mmKo_11, mmR32, mmR64, Option.some.injEq, Int.cast_ofNat_Int, and_true, true_and, if_true, if_false, List.length_cons, List.length_nil, Nat.le_refl, Nat.zero_le, Nat.sub_zero, forall_const, reduceCtorEq, Nat.reduceAdd, Nat.reduceSub, Nat.reduceLeDiff, Nat.reduceEqDiff, Int.reduceAdd, Int.reduceNeg, Int.reduceSub, Int.reduceLT, Int.reduceLE, Int.reduceMul, Int.reduceEq, List.drop_zero, List.drop_succ_cons, ne_eq, not_false_eq_true, not_true_eq_false, false_and, and_false, false_implies, true_implies, reduceIte, mmU_rd, implies_true, or_false, false_or, or_true, true_or]
    refine mT_in ⟨?_, rfl⟩
    rw [bI_pos (Or.inl ((TR_num hR).mp c))]
  · refine sq_isSign ?_
    rw [show (I 11 0 8 = 4 ∧ I 11 0 9 = 45) = (tkS T s p = 3 ∧ tkV T s p = 45) from propext (TR_sign hR (by omega))]
    have c' : ¬ tkS T s p = 2 := fun q => c ((TR_num hR).mpr q)
    simp only [mmK_cut cd_161, q_cons, q_G0, q_GS, q_I1, q_L1, q_A1, q_S0, q_S1, q_SS, q_T0, q_T1, q_TS, q_Kn, q_Ki, q_Kl, q_Kr, q_k0, q_kS, q_rc, q_ps, q_pn, q_aload0, q_getfieldI, q_iconst, q_icmp_eq, q_bipush, q_invV, q_if_eq, q_goto, q_ireturn1, mmKo_11, mmR32, mmR64, Option.some.injEq, Int.cast_ofNat_Int, and_true, true_and, if_true, if_false, List.length_cons, List.length_nil, Nat.le_refl, Nat.zero_le, Nat.sub_zero, forall_const, reduceCtorEq, Nat.reduceAdd, Nat.reduceSub, Nat.reduceLeDiff, Nat.reduceEqDiff, Int.reduceAdd, Int.reduceNeg, Int.reduceSub, Int.reduceLT, Int.reduceLE, Int.reduceMul, Int.reduceEq, List.drop_zero, List.drop_succ_cons, ne_eq, not_false_eq_true, not_true_eq_false, false_and, and_false, false_implies, true_implies, reduceIte, mmU_rd, implies_true, or_false, false_or, or_true, true_or, bI_eq0]
    refine ⟨fun c2 => ?_, fun c2 => ?_⟩
    · refine mmC_step ?_
      simp only [cd_161, sg_161_0, sg_161_8, sg_161_10, sg_161_11, mmK_cut cd_161, q_cons, q_G0, q_GS, q_I1, q_L1, q_A1, q_S0, q_S1, q_SS, q_T0, q_T1, q_TS, q_Kn, q_Ki, q_Kl, q_Kr, q_k0, q_kS, q_rc, q_ps, q_pn, q_aload0, q_getfieldI, q_iconst, q_icmp_eq, q_bipush, q_invV, q_if_eq, q_goto, q_ireturn1, mmKo_11, mmR32, mmR64, Option.some.injEq, Int.cast_ofNat_Int, and_true, true_and, if_true, if_false, List.length_cons, List.length_nil, Nat.le_refl, Nat.zero_le, Nat.sub_zero, forall_const, reduceCtorEq, Nat.reduceAdd, Nat.reduceSub, Nat.reduceLeDiff, Nat.reduceEqDiff, Int.reduceAdd, Int.reduceNeg, Int.reduceSub, Int.reduceLT, Int.reduceLE, Int.reduceMul, Int.reduceEq, List.drop_zero, List.drop_succ_cons, ne_eq, not_false_eq_true, not_true_eq_false, false_and, and_false, false_implies, true_implies, reduceIte, mmU_rd, implies_true, or_false, false_or, or_true, true_or]
      refine mmC_step ?_
      simp only [cd_161, sg_161_0, sg_161_8, sg_161_10, sg_161_11, mmK_cut cd_161, q_cons, q_G0, q_GS, q_I1, q_L1, q_A1, q_S0, q_S1, q_SS, q_T0, q_T1, q_TS, q_Kn, q_Ki, q_Kl, q_Kr, q_k0, q_kS, q_rc, q_ps, q_pn, q_aload0, q_getfieldI, q_iconst, q_icmp_eq, q_bipush, q_invV, q_if_eq, q_goto, q_ireturn1, mmKo_11, mmR32, mmR64, Option.some.injEq, Int.cast_ofNat_Int, and_true, true_and, if_true, if_false, List.length_cons, List.length_nil, Nat.le_refl, Nat.zero_le, Nat.sub_zero, forall_const, reduceCtorEq, Nat.reduceAdd, Nat.reduceSub, Nat.reduceLeDiff, Nat.reduceEqDiff, Int.reduceAdd, Int.reduceNeg, Int.reduceSub, Int.reduceLT, Int.reduceLE, Int.reduceMul, Int.reduceEq, List.drop_zero, List.drop_succ_cons, ne_eq, not_false_eq_true, not_true_eq_false, false_and, and_false, false_implies, true_implies, reduceIte, mmU_rd, implies_true, or_false, false_or, or_true, true_or]
      refine mT_in ⟨?_, rfl⟩
      rw [bI_neg (by omega)]
    · refine mmC_step ?_
      simp only [cd_161, sg_161_0, sg_161_8, sg_161_10, sg_161_11, mmK_cut cd_161, q_cons, q_G0, q_GS, q_I1, q_L1, q_A1, q_S0, q_S1, q_SS, q_T0, q_T1, q_TS, q_Kn, q_Ki, q_Kl, q_Kr, q_k0, q_kS, q_rc, q_ps, q_pn, q_aload0, q_getfieldI, q_iconst, q_icmp_eq, q_bipush, q_invV, q_if_eq, q_goto, q_ireturn1, mmKo_11, mmR32, mmR64, Option.some.injEq, Int.cast_ofNat_Int, and_true, true_and, if_true, if_false, List.length_cons, List.length_nil, Nat.le_refl, Nat.zero_le, Nat.sub_zero, forall_const, reduceCtorEq, Nat.reduceAdd, Nat.reduceSub, Nat.reduceLeDiff, Nat.reduceEqDiff, Int.reduceAdd, Int.reduceNeg, Int.reduceSub, Int.reduceLT, Int.reduceLE, Int.reduceMul, Int.reduceEq, List.drop_zero, List.drop_succ_cons, ne_eq, not_false_eq_true, not_true_eq_false, false_and, and_false, false_implies, true_implies, reduceIte, mmU_rd, implies_true, or_false, false_or, or_true, true_or]
      refine mmC_step ?_
      simp only [cd_161, sg_161_0, sg_161_8, sg_161_10, sg_161_11, mmK_cut cd_161, q_cons, q_G0, q_GS, q_I1, q_L1, q_A1, q_S0, q_S1, q_SS, q_T0, q_T1, q_TS, q_Kn, q_Ki, q_Kl, q_Kr, q_k0, q_kS, q_rc, q_ps, q_pn, q_aload0, q_getfieldI, q_iconst, q_icmp_eq, q_bipush, q_invV, q_if_eq, q_goto, q_ireturn1, mmKo_11, mmR32, mmR64, Option.some.injEq, Int.cast_ofNat_Int, and_true, true_and, if_true, if_false, List.length_cons, List.length_nil, Nat.le_refl, Nat.zero_le, Nat.sub_zero, forall_const, reduceCtorEq, Nat.reduceAdd, Nat.reduceSub, Nat.reduceLeDiff, Nat.reduceEqDiff, Int.reduceAdd, Int.reduceNeg, Int.reduceSub, Int.reduceLT, Int.reduceLE, Int.reduceMul, Int.reduceEq, List.drop_zero, List.drop_succ_cons, ne_eq, not_false_eq_true, not_true_eq_false, false_and, and_false, false_implies, true_implies, reduceIte, mmU_rd, implies_true, or_false, false_or, or_true, true_or]
      refine mT_in ⟨?_, rfl⟩
      rw [bI_pos (Or.inr (Classical.not_not.mp c2))]
set_option maxHeartbeats 2000000 in
theorem m_kind (h : PSr I T s p) (hM : M2 I r o) : mmC (d + 6) 164 [mo 11 0] (I, mmRf a br, X) (mT a br X (MP I T s (kdF T s p r o))) := by
  obtain ⟨g4, g5, hT, ⟨hG, hK, hS⟩, hL, h53, hW⟩ := id hM
  have h24 : I 11 0 24 = r 6 2 := hG.2.2.1
  have hk4 := hW.2.2.1
  generalize hZ : kdF T s p r o = Z
  unfold kdF at hZ
  refine mmC_in (by decide) (Nat.le_of_ble_eq_true rfl) (mmC_step ?_)
  simp only [show mmMl 164 = 2 from rfl, mmLs, List.replicate, cd_164, sg_164_0, sg_164_8, sg_164_18, sg_164_31, sg_164_56, sg_164_76, sg_164_85, sg_164_99, mmK_cut cd_164, q_cons, q_G0, q_GS, q_I1, q_L1, q_A1, q_S0, q_S1, q_SS, q_T0, q_T1, q_TS, q_Kn, q_Ki, q_Kl, q_Kr, q_k0, q_kS, q_rc, q_ps, q_pn, q_aload0, q_getfieldI, q_iconst, q_icmp_ne, q_invV, q_ireturn1, q_icmp_eq, q_getfieldA, q_invS, q_if_lt, q_iadd, q_istore1, q_iload1, q_iastore, q_bipush, q_if_ne, q_bastore, q_if_eq, q_baload, q_dupI, q_dupA, q_putfieldI, rf_11_35, rf_11_36, rf_11_37, rf_11_38, mmKe_1235, mmKe_1236, mmKe_1237, mmKe_1238, mmKo_11, mmLen_1235, mmLen_1236, mmLen_1237, mmLen_1238, mmR32, mmR64, Option.some.injEq, Int.cast_ofNat_Int, and_true, true_and, if_true, if_false, List.length_cons, List.length_nil, Nat.le_refl, Nat.zero_le, Nat.sub_zero, forall_const, reduceCtorEq, Nat.reduceAdd, Nat.reduceSub, Nat.reduceLeDiff, Nat.reduceEqDiff, Int.reduceAdd, Int.reduceNeg, Int.reduceSub, Int.reduceLT, Int.reduceLE, Int.reduceMul, Int.reduceEq, List.drop_zero, List.drop_succ_cons, ne_eq, not_false_eq_true, not_true_eq_false, false_and, and_false, false_implies, true_implies, reduceIte, mmU_rd, implies_true, or_false, false_or, or_true, true_or]
  rw [h24]
  refine ⟨fun c => ?_, fun c => ?_⟩
  · rw [if_neg (by omega)] at hZ
    refine mmC_step ?_
    simp only [cd_164, sg_164_0, sg_164_8, sg_164_18, sg_164_31, sg_164_56, sg_164_76, sg_164_85, sg_164_99, mmK_cut cd_164, q_cons, q_G0, q_GS, q_I1, q_L1, q_A1, q_S0, q_S1, q_SS, q_T0, q_T1, q_TS, q_Kn, q_Ki, q_Kl, q_Kr, q_k0, q_kS, q_rc, q_ps, q_pn, q_aload0, q_getfieldI, q_iconst, q_icmp_ne, q_invV, q_ireturn1, q_icmp_eq, q_getfieldA, q_invS, q_if_lt, q_iadd, q_istore1, q_iload1, q_iastore, q_bipush, q_if_ne, q_bastore, q_if_eq, q_baload, q_dupI, q_dupA, q_putfieldI, rf_11_35, rf_11_36, rf_11_37, rf_11_38, mmKe_1235, mmKe_1236, mmKe_1237, mmKe_1238, mmKo_11, mmLen_1235, mmLen_1236, mmLen_1237, mmLen_1238, mmR32, mmR64, Option.some.injEq, Int.cast_ofNat_Int, and_true, true_and, if_true, if_false, List.length_cons, List.length_nil, Nat.le_refl, Nat.zero_le, Nat.sub_zero, forall_const, reduceCtorEq, Nat.reduceAdd, Nat.reduceSub, Nat.reduceLeDiff, Nat.reduceEqDiff, Int.reduceAdd, Int.reduceNeg, Int.reduceSub, Int.reduceLT, Int.reduceLE, Int.reduceMul, Int.reduceEq, List.drop_zero, List.drop_succ_cons, ne_eq, not_false_eq_true, not_true_eq_false, false_and, and_false, false_implies, true_implies, reduceIte, mmU_rd, implies_true, or_false, false_or, or_true, true_or]
    refine mT_use (m_token h) (fun v I1 q => ?_)
    obtain ⟨rfl, f1, -, -, h1⟩ := q
    have hR1 := TR_name h1.2.2.2.2.1
    have m1 := M2_7 hM f1
    have h24' : I1 11 0 24 = r 6 2 := m1.2.2.2.1.1.2.2.1
    simp only [mmK_cut cd_164, q_cons, q_G0, q_GS, q_I1, q_L1, q_A1, q_S0, q_S1, q_SS, q_T0, q_T1, q_TS, q_Kn, q_Ki, q_Kl, q_Kr, q_k0, q_kS, q_rc, q_ps, q_pn, q_aload0, q_getfieldI, q_iconst, q_icmp_ne, q_invV, q_ireturn1, q_icmp_eq, q_getfieldA, q_invS, q_if_lt, q_iadd, q_istore1, q_iload1, q_iastore, q_bipush, q_if_ne, q_bastore, q_if_eq, q_baload, q_dupI, q_dupA, q_putfieldI, rf_11_35, rf_11_36, rf_11_37, rf_11_38, mmKe_1235, mmKe_1236, mmKe_1237, mmKe_1238, mmKo_11, mmLen_1235, mmLen_1236, mmLen_1237, mmLen_1238, mmR32, mmR64, Option.some.injEq, Int.cast_ofNat_Int, and_true, true_and, if_true, if_false, List.length_cons, List.length_nil, Nat.le_refl, Nat.zero_le, Nat.sub_zero, forall_const, reduceCtorEq, Nat.reduceAdd, Nat.reduceSub, Nat.reduceLeDiff, Nat.reduceEqDiff, Int.reduceAdd, Int.reduceNeg, Int.reduceSub, Int.reduceLT, Int.reduceLE, Int.reduceMul, Int.reduceEq, List.drop_zero, List.drop_succ_cons, ne_eq, not_false_eq_true, not_true_eq_false, false_and, and_false, false_implies, true_implies, reduceIte, mmU_rd, implies_true, or_false, false_or, or_true, true_or]
    refine ⟨fun c2 => ?_, fun c2 => ?_⟩
    · have c3 := hR1.1.mp c2
      have c4 := hR1.2 c2
      rw [if_neg (fun q => q c3)] at hZ
      refine mmC_step ?_
      simp only [cd_164, sg_164_0, sg_164_8, sg_164_18, sg_164_31, sg_164_56, sg_164_76, sg_164_85, sg_164_99, mmK_cut cd_164, q_cons, q_G0, q_GS, q_I1, q_L1, q_A1, q_S0, q_S1, q_SS, q_T0, q_T1, q_TS, q_Kn, q_Ki, q_Kl, q_Kr, q_k0, q_kS, q_rc, q_ps, q_pn, q_aload0, q_getfieldI, q_iconst, q_icmp_ne, q_invV, q_ireturn1, q_icmp_eq, q_getfieldA, q_invS, q_if_lt, q_iadd, q_istore1, q_iload1, q_iastore, q_bipush, q_if_ne, q_bastore, q_if_eq, q_baload, q_dupI, q_dupA, q_putfieldI, rf_11_35, rf_11_36, rf_11_37, rf_11_38, mmKe_1235, mmKe_1236, mmKe_1237, mmKe_1238, mmKo_11, mmLen_1235, mmLen_1236, mmLen_1237, mmLen_1238, mmR32, mmR64, Option.some.injEq, Int.cast_ofNat_Int, and_true, true_and, if_true, if_false, List.length_cons, List.length_nil, Nat.le_refl, Nat.zero_le, Nat.sub_zero, forall_const, reduceCtorEq, Nat.reduceAdd, Nat.reduceSub, Nat.reduceLeDiff, Nat.reduceEqDiff, Int.reduceAdd, Int.reduceNeg, Int.reduceSub, Int.reduceLT, Int.reduceLE, Int.reduceMul, Int.reduceEq, List.drop_zero, List.drop_succ_cons, ne_eq, not_false_eq_true, not_true_eq_false, false_and, and_false, false_implies, true_implies, reduceIte, mmU_rd, implies_true, or_false, false_or, or_true, true_or]
      rw [h24', c4]
      refine sq_find rfl (by omega) (by omega) (by rw [show mmLen 1235 = 8 from rfl]; omega) ?_
      have efd : fdF (fun k => I1 1235 0 (4 + k)) (tkV T s (tkN T s p)) (r 6 2).toNat 0 = fdF (r 708) (tkV T s (tkN T s p)) (r 6 2).toNat 0 := fdF_congr _ _ (fun k k0 k1 => (m1.2.2.2.1.2.1 k k0 (by omega)).1)
      rw [efd]
      have hfd := fdF_in (g := r 708) (x := tkV T s (tkN T s p)) (r 6 2).toNat 0 (by omega)
      generalize fdF (r 708) (tkV T s (tkN T s p)) (r 6 2).toNat 0 = fd at *
      simp only [mmK_cut cd_164, q_cons, q_G0, q_GS, q_I1, q_L1, q_A1, q_S0, q_S1, q_SS, q_T0, q_T1, q_TS, q_Kn, q_Ki, q_Kl, q_Kr, q_k0, q_kS, q_rc, q_ps, q_pn, q_aload0, q_getfieldI, q_iconst, q_icmp_ne, q_invV, q_ireturn1, q_icmp_eq, q_getfieldA, q_invS, q_if_lt, q_iadd, q_istore1, q_iload1, q_iastore, q_bipush, q_if_ne, q_bastore, q_if_eq, q_baload, q_dupI, q_dupA, q_putfieldI, rf_11_35, rf_11_36, rf_11_37, rf_11_38, mmKe_1235, mmKe_1236, mmKe_1237, mmKe_1238, mmKo_11, mmLen_1235, mmLen_1236, mmLen_1237, mmLen_1238, mmR32, mmR64, Option.some.injEq, Int.cast_ofNat_Int, and_true, true_and, if_true, if_false, List.length_cons, List.length_nil, Nat.le_refl, Nat.zero_le, Nat.sub_zero, forall_const, reduceCtorEq, Nat.reduceAdd, Nat.reduceSub, Nat.reduceLeDiff, Nat.reduceEqDiff, Int.reduceAdd, Int.reduceNeg, Int.reduceSub, Int.reduceLT, Int.reduceLE, Int.reduceMul, Int.reduceEq, List.drop_zero, List.drop_succ_cons, ne_eq, not_false_eq_true, not_true_eq_false, false_and, and_false, false_implies, true_implies, reduceIte, mmU_rd, implies_true, or_false, false_or, or_true, true_or]
      refine ⟨fun c5 => ?_, fun c5 => ?_⟩
      · rw [if_neg (by omega)] at hZ
        refine mmC_step ?_
        simp only [cd_164, sg_164_0, sg_164_8, sg_164_18, sg_164_31, sg_164_56, sg_164_76, sg_164_85, sg_164_99, mmK_cut cd_164, q_cons, q_G0, q_GS, q_I1, q_L1, q_A1, q_S0, q_S1, q_SS, q_T0, q_T1, q_TS, q_Kn, q_Ki, q_Kl, q_Kr, q_k0, q_kS, q_rc, q_ps, q_pn, q_aload0, q_getfieldI, q_iconst, q_icmp_ne, q_invV, q_ireturn1, q_icmp_eq, q_getfieldA, q_invS, q_if_lt, q_iadd, q_istore1, q_iload1, q_iastore, q_bipush, q_if_ne, q_bastore, q_if_eq, q_baload, q_dupI, q_dupA, q_putfieldI, rf_11_35, rf_11_36, rf_11_37, rf_11_38, mmKe_1235, mmKe_1236, mmKe_1237, mmKe_1238, mmKo_11, mmLen_1235, mmLen_1236, mmLen_1237, mmLen_1238, mmR32, mmR64, Option.some.injEq, Int.cast_ofNat_Int, and_true, true_and, if_true, if_false, List.length_cons, List.length_nil, Nat.le_refl, Nat.zero_le, Nat.sub_zero, forall_const, reduceCtorEq, Nat.reduceAdd, Nat.reduceSub, Nat.reduceLeDiff, Nat.reduceEqDiff, Int.reduceAdd, Int.reduceNeg, Int.reduceSub, Int.reduceLT, Int.reduceLE, Int.reduceMul, Int.reduceEq, List.drop_zero, List.drop_succ_cons, ne_eq, not_false_eq_true, not_true_eq_false, false_and, and_false, false_implies, true_implies, reduceIte, mmU_rd, implies_true, or_false, false_or, or_true, true_or]
        rw [h24', c4]
        refine ⟨by omega, by omega, by omega, ?_⟩
        generalize hk : r 6 2 = k at *
        have f2 : FrK k I (mmU I1 1235 0 (4 + k) (tkV T s (tkN T s p))) := FrK_trans (FrK_7 f1) (FrK_U (by unfold KDt; omega))
        refine mT_use (m_token (PSr_U h1 (by omega))) (fun v I2 q => ?_)
        obtain ⟨rfl, f3, -, -, h2⟩ := q
        have f3' : FrK k I I2 := FrK_trans f2 (FrK_7 f3)
        have e35 : I2 1235 0 (4 + k) = tkV T s (tkN T s p) := by
          rw [f3 _ _ _ (by omega)]; exact if_pos ⟨rfl, rfl, rfl⟩
        have hR2 := h2.2.2.2.2.1
        have hq7 : (I2 11 0 8 = 1 ∧ I2 11 0 9 = 7) = (tkS T s (tkN T s (tkN T s p)) = 1 ∧ tkV T s (tkN T s (tkN T s p)) = 407945824) := propext ((TR_isKey hR2 (by omega)).trans (by rw [ky_7]))
        have hq8 : (I2 11 0 8 = 1 ∧ I2 11 0 9 = 8) = (tkS T s (tkN T s (tkN T s p)) = 1 ∧ tkV T s (tkN T s (tkN T s p)) = 626478080) := propext ((TR_isKey hR2 (by omega)).trans (by rw [ky_8]))
        generalize hp2 : tkN T s (tkN T s p) = p2 at *
        have w56 : (tkS T s p2 = 1 ∧ (tkV T s p2 = 407945824 ∨ tkV T s p2 = 626478080)) → mmK (d + 5) 164 (mT a br X (MP I T s Z)) 56 [some (mo 11 0), some (mv (4 + k))] [] (I2, mmRf a br, X) := by
          intro c6
          rw [if_neg (fun q => q c6)] at hZ
          refine mmC_step ?_
          simp only [cd_164, sg_164_0, sg_164_8, sg_164_18, sg_164_31, sg_164_56, sg_164_76, sg_164_85, sg_164_99, mmK_cut cd_164, q_cons, q_G0, q_GS, q_I1, q_L1, q_A1, q_S0, q_S1, q_SS, q_T0, q_T1, q_TS, q_Kn, q_Ki, q_Kl, q_Kr, q_k0, q_kS, q_rc, q_ps, q_pn, q_aload0, q_getfieldI, q_iconst, q_icmp_ne, q_invV, q_ireturn1, q_icmp_eq, q_getfieldA, q_invS, q_if_lt, q_iadd, q_istore1, q_iload1, q_iastore, q_bipush, q_if_ne, q_bastore, q_if_eq, q_baload, q_dupI, q_dupA, q_putfieldI, rf_11_35, rf_11_36, rf_11_37, rf_11_38, mmKe_1235, mmKe_1236, mmKe_1237, mmKe_1238, mmKo_11, mmLen_1235, mmLen_1236, mmLen_1237, mmLen_1238, mmR32, mmR64, Option.some.injEq, Int.cast_ofNat_Int, and_true, true_and, if_true, if_false, List.length_cons, List.length_nil, Nat.le_refl, Nat.zero_le, Nat.sub_zero, forall_const, reduceCtorEq, Nat.reduceAdd, Nat.reduceSub, Nat.reduceLeDiff, Nat.reduceEqDiff, Int.reduceAdd, Int.reduceNeg, Int.reduceSub, Int.reduceLT, Int.reduceLE, Int.reduceMul, Int.reduceEq, List.drop_zero, List.drop_succ_cons, ne_eq, not_false_eq_true, not_true_eq_false, false_and, and_false, false_implies, true_implies, reduceIte, mmU_rd, implies_true, or_false, false_or, or_true, true_or]
          refine sq_isKey ?_
          rw [hq8]
          simp only [mmK_cut cd_164, q_cons, q_G0, q_GS, q_I1, q_L1, q_A1, q_S0, q_S1, q_SS, q_T0, q_T1, q_TS, q_Kn, q_Ki, q_Kl, q_Kr, q_k0, q_kS, q_rc, q_ps, q_pn, q_aload0, q_getfieldI, q_iconst, q_icmp_ne, q_invV, q_ireturn1, q_icmp_eq, q_getfieldA, q_invS, q_if_lt, q_iadd, q_istore1, q_iload1, q_iastore, q_bipush, q_if_ne, q_bastore, q_if_eq, q_baload, q_dupI, q_dupA, q_putfieldI, rf_11_35, rf_11_36, rf_11_37, rf_11_38, mmKe_1235, mmKe_1236, mmKe_1237, mmKe_1238, mmKo_11, mmLen_1235, mmLen_1236, mmLen_1237, mmLen_1238, mmR32, mmR64, Option.some.injEq, Int.cast_ofNat_Int, and_true, true_and, if_true, if_false, List.length_cons, List.length_nil, Nat.le_refl, Nat.zero_le, Nat.sub_zero, forall_const, reduceCtorEq, Nat.reduceAdd, Nat.reduceSub, Nat.reduceLeDiff, Nat.reduceEqDiff, Int.reduceAdd, Int.reduceNeg, Int.reduceSub, Int.reduceLT, Int.reduceLE, Int.reduceMul, Int.reduceEq, List.drop_zero, List.drop_succ_cons, ne_eq, not_false_eq_true, not_true_eq_false, false_and, and_false, false_implies, true_implies, reduceIte, mmU_rd, implies_true, or_false, false_or, or_true, true_or]
          refine ⟨by omega, by omega, bI_01, ?_⟩
          generalize hru : bI (tkS T s p2 = 1 ∧ tkV T s p2 = 626478080) = rn at *
          have hrn : rn = 0 ∨ rn = 1 := by rw [← hru]; exact bI_01
          have f4 : FrK k I (mmU I2 1236 0 (4 + k) rn) := FrK_trans f3' (FrK_U (by unfold KDt; omega))
          refine mT_use (m_token (PSr_U h2 (by omega))) (fun v I3 q => ?_)
          obtain ⟨rfl, f5, -, -, h3⟩ := q
          simp only [mmK_cut cd_164, q_cons, q_G0, q_GS, q_I1, q_L1, q_A1, q_S0, q_S1, q_SS, q_T0, q_T1, q_TS, q_Kn, q_Ki, q_Kl, q_Kr, q_k0, q_kS, q_rc, q_ps, q_pn, q_aload0, q_getfieldI, q_iconst, q_icmp_ne, q_invV, q_ireturn1, q_icmp_eq, q_getfieldA, q_invS, q_if_lt, q_iadd, q_istore1, q_iload1, q_iastore, q_bipush, q_if_ne, q_bastore, q_if_eq, q_baload, q_dupI, q_dupA, q_putfieldI, rf_11_35, rf_11_36, rf_11_37, rf_11_38, mmKe_1235, mmKe_1236, mmKe_1237, mmKe_1238, mmKo_11, mmLen_1235, mmLen_1236, mmLen_1237, mmLen_1238, mmR32, mmR64, Option.some.injEq, Int.cast_ofNat_Int, and_true, true_and, if_true, if_false, List.length_cons, List.length_nil, Nat.le_refl, Nat.zero_le, Nat.sub_zero, forall_const, reduceCtorEq, Nat.reduceAdd, Nat.reduceSub, Nat.reduceLeDiff, Nat.reduceEqDiff, Int.reduceAdd, Int.reduceNeg, Int.reduceSub, Int.reduceLT, Int.reduceLE, Int.reduceMul, Int.reduceEq, List.drop_zero, List.drop_succ_cons, ne_eq, not_false_eq_true, not_true_eq_false, false_and, and_false, false_implies, true_implies, reduceIte, mmU_rd, implies_true, or_false, false_or, or_true, true_or]
          refine ⟨by omega, by omega, ?_⟩
          have f6 : FrK k I (mmU I3 1238 0 (4 + k) 0) := FrK_trans (FrK_trans f4 (FrK_7 f5)) (FrK_U (by unfold KDt; omega))
          generalize hr1 : ru (ru (ru r 708 k (tkV T s (tkN T s p))) 709 k rn) 711 k 0 = r1 at *
          have rr1 : RrK k r r1 := by
            rw [← hr1]
            exact RrK_trans (RrK_trans (RrK_U (by omega)) (RrK_U (by omega))) (RrK_U (by omega))
          have v708 : r1 708 k = tkV T s (tkN T s p) := by rw [← hr1]; unfold ru; rw [if_neg (by omega), if_neg (by omega), if_pos ⟨rfl, rfl⟩]
          have v709 : r1 709 k = rn := by rw [← hr1]; unfold ru; rw [if_neg (by omega), if_pos ⟨rfl, rfl⟩]
          have v711 : r1 711 k = 0 := by rw [← hr1]; unfold ru; rw [if_pos ⟨rfl, rfl⟩]
          have M3 : M2 (mmU I3 1238 0 (4 + k) 0) r1 o := M2_kd hM (by rw [hk]; exact f6) (by rw [hk]; exact rr1)
          have K3 : KP r1 (Gr (mmU I3 1238 0 (4 + k) 0)) k := by
            refine ⟨?_, ?_, ?_, by rw [v709]; exact hrn, by rw [v711]; omega, fun x x0 x1 => by rw [v711] at x1; omega⟩
            · rw [v708]
              show I3 1235 0 (4 + k) = _
              rw [f5 _ _ _ (by omega)]
              exact e35
            · rw [v709]
              show I3 1236 0 (4 + k) = _
              rw [f5 _ _ _ (by omega)]
              exact if_pos ⟨rfl, rfl, rfl⟩
            · rw [v711]
              exact (mmU_same : mmU I3 1238 0 (4 + k) 0 1238 0 (4 + k) = 0)
          have bl4 : BL I → BL (mmU I3 1238 0 (4 + k) 0) := fun hb => BL_U (by omega) (BL_7 f5 (BL_Ub hrn (BL_7 f3 (BL_U (by omega) (BL_7 f1 hb)))))
          have P3 := PSr_U (i := 0) (t := 1238) (k := 4 + k) (v := 0) h3 (by omega)
          generalize mmU I3 1238 0 (4 + k) 0 = I4 at *
          have w85 : ∀ (p6 : Int) (r6 : mRu) (I6 : mMm), FrK k I I6 → PSr I6 T s p6 → M2 I6 r6 o → KP r6 (Gr I6) k → (BL I → BL I6) → r6 6 2 = k → 1 ≤ r6 711 k → pB (.inr (p6, r6)) (fun x : Int × mRu => (.inr (if tkS T s x.1 = 1 ∧ tkV T s x.1 = 379001856 then tkN T s x.1 else x.1, ru (ru x.2 710 k (bI (tkS T s x.1 = 1 ∧ tkV T s x.1 = 379001856))) 6 2 (x.2 6 2 + 1), o) : mPR (Int × mRu × Int))) = Z → mmK (d + 5) 164 (mT a br X (MP I T s Z)) 85 [some (mo 11 0), some (mv (4 + k))] [] (I6, mmRf a br, X) := by
            intro p6 r6 I6 fr6 P6 M6 K6 bl6 e62 hs1 hz
            rw [pB_r] at hz
            simp only at hz
            have hq9 : (I6 11 0 8 = 1 ∧ I6 11 0 9 = 9) = (tkS T s p6 = 1 ∧ tkV T s p6 = 379001856) := propext ((TR_isKey P6.2.2.2.2.1 (by omega)).trans (by rw [ky_9]))
            have w99 : ∀ (I8 : mMm) (p8 kg : Int), (kg = 0 ∨ kg = 1) → FrK k I I8 → PSr I8 T s p8 → M2 I8 (ru r6 710 k kg) o → KE (ru r6 710 k kg) (Gr I8) k → (BL I → BL I8) → .inr (p8, ru (ru r6 710 k kg) 6 2 (r6 6 2 + 1), o) = Z → mmK (d + 5) 164 (mT a br X (MP I T s Z)) 99 [some (mo 11 0), some (mv (4 + k))] [] (I8, mmRf a br, X) := by
              intro I8 p8 kg hkg fr8 P8 M8 K8 bl8 hz8
              have e8 : I8 11 0 24 = k := by
                have e9 : I8 11 0 24 = ru r6 710 k kg 6 2 := M8.2.2.2.1.1.2.2.1
                exact e9.trans ((if_neg (by omega)).trans e62)
              refine mmC_step ?_
              simp only [cd_164, sg_164_0, sg_164_8, sg_164_18, sg_164_31, sg_164_56, sg_164_76, sg_164_85, sg_164_99, mmK_cut cd_164, q_cons, q_G0, q_GS, q_I1, q_L1, q_A1, q_S0, q_S1, q_SS, q_T0, q_T1, q_TS, q_Kn, q_Ki, q_Kl, q_Kr, q_k0, q_kS, q_rc, q_ps, q_pn, q_aload0, q_getfieldI, q_iconst, q_icmp_ne, q_invV, q_ireturn1, q_icmp_eq, q_getfieldA, q_invS, q_if_lt, q_iadd, q_istore1, q_iload1, q_iastore, q_bipush, q_if_ne, q_bastore, q_if_eq, q_baload, q_dupI, q_dupA, q_putfieldI, rf_11_35, rf_11_36, rf_11_37, rf_11_38, mmKe_1235, mmKe_1236, mmKe_1237, mmKe_1238, mmKo_11, mmLen_1235, mmLen_1236, mmLen_1237, mmLen_1238, mmR32, mmR64, Option.some.injEq, Int.cast_ofNat_Int, and_true, true_and, if_true, if_false, List.length_cons, List.length_nil, Nat.le_refl, Nat.zero_le, Nat.sub_zero, forall_const, reduceCtorEq, Nat.reduceAdd, Nat.reduceSub, Nat.reduceLeDiff, Nat.reduceEqDiff, Int.reduceAdd, Int.reduceNeg, Int.reduceSub, Int.reduceLT, Int.reduceLE, Int.reduceMul, Int.reduceEq, List.drop_zero, List.drop_succ_cons, ne_eq, not_false_eq_true, not_true_eq_false, false_and, and_false, false_implies, true_implies, reduceIte, mmU_rd, implies_true, or_false, false_or, or_true, true_or]
              rw [e8]
              refine ⟨by omega, ?_⟩
              rw [e62] at hz8
              refine mT_in (Or.inr ⟨_, _, _, hz8.symm, rfl, FrM_trans (FrM_K hk4.1 fr8) (FrM_U (by unfold Mt; omega)), PSr_U P8 (by omega), ?_, fun hb => BL_U (by omega) (bl8 hb)⟩)
              refine M2_kinc M8 ⟨?_, by omega⟩ K8
              exact ((if_neg (by omega)).trans e62).symm
            refine mmC_step ?_
            simp only [cd_164, sg_164_0, sg_164_8, sg_164_18, sg_164_31, sg_164_56, sg_164_76, sg_164_85, sg_164_99, mmK_cut cd_164, q_cons, q_G0, q_GS, q_I1, q_L1, q_A1, q_S0, q_S1, q_SS, q_T0, q_T1, q_TS, q_Kn, q_Ki, q_Kl, q_Kr, q_k0, q_kS, q_rc, q_ps, q_pn, q_aload0, q_getfieldI, q_iconst, q_icmp_ne, q_invV, q_ireturn1, q_icmp_eq, q_getfieldA, q_invS, q_if_lt, q_iadd, q_istore1, q_iload1, q_iastore, q_bipush, q_if_ne, q_bastore, q_if_eq, q_baload, q_dupI, q_dupA, q_putfieldI, rf_11_35, rf_11_36, rf_11_37, rf_11_38, mmKe_1235, mmKe_1236, mmKe_1237, mmKe_1238, mmKo_11, mmLen_1235, mmLen_1236, mmLen_1237, mmLen_1238, mmR32, mmR64, Option.some.injEq, Int.cast_ofNat_Int, and_true, true_and, if_true, if_false, List.length_cons, List.length_nil, Nat.le_refl, Nat.zero_le, Nat.sub_zero, forall_const, reduceCtorEq, Nat.reduceAdd, Nat.reduceSub, Nat.reduceLeDiff, Nat.reduceEqDiff, Int.reduceAdd, Int.reduceNeg, Int.reduceSub, Int.reduceLT, Int.reduceLE, Int.reduceMul, Int.reduceEq, List.drop_zero, List.drop_succ_cons, ne_eq, not_false_eq_true, not_true_eq_false, false_and, and_false, false_implies, true_implies, reduceIte, mmU_rd, implies_true, or_false, false_or, or_true, true_or]
            refine sq_isKey ?_
            rw [hq9]
            simp only [mmK_cut cd_164, q_cons, q_G0, q_GS, q_I1, q_L1, q_A1, q_S0, q_S1, q_SS, q_T0, q_T1, q_TS, q_Kn, q_Ki, q_Kl, q_Kr, q_k0, q_kS, q_rc, q_ps, q_pn, q_aload0, q_getfieldI, q_iconst, q_icmp_ne, q_invV, q_ireturn1, q_icmp_eq, q_getfieldA, q_invS, q_if_lt, q_iadd, q_istore1, q_iload1, q_iastore, q_bipush, q_if_ne, q_bastore, q_if_eq, q_baload, q_dupI, q_dupA, q_putfieldI, rf_11_35, rf_11_36, rf_11_37, rf_11_38, mmKe_1235, mmKe_1236, mmKe_1237, mmKe_1238, mmKo_11, mmLen_1235, mmLen_1236, mmLen_1237, mmLen_1238, mmR32, mmR64, Option.some.injEq, Int.cast_ofNat_Int, and_true, true_and, if_true, if_false, List.length_cons, List.length_nil, Nat.le_refl, Nat.zero_le, Nat.sub_zero, forall_const, reduceCtorEq, Nat.reduceAdd, Nat.reduceSub, Nat.reduceLeDiff, Nat.reduceEqDiff, Int.reduceAdd, Int.reduceNeg, Int.reduceSub, Int.reduceLT, Int.reduceLE, Int.reduceMul, Int.reduceEq, List.drop_zero, List.drop_succ_cons, ne_eq, not_false_eq_true, not_true_eq_false, false_and, and_false, false_implies, true_implies, reduceIte, mmU_rd, implies_true, or_false, false_or, or_true, true_or]
            generalize hkg : bI (tkS T s p6 = 1 ∧ tkV T s p6 = 379001856) = kg at *
            have hkg' : kg = 0 ∨ kg = 1 := by rw [← hkg]; exact bI_01
            have fr7 : FrK k I (mmU I6 1237 0 (4 + k) kg) := FrK_trans fr6 (FrK_U (by unfold KDt; omega))
            have M7 : M2 (mmU I6 1237 0 (4 + k) kg) (ru r6 710 k kg) o := M2_kd M6 (by rw [e62]; exact FrK_U (by unfold KDt; omega)) (by rw [e62]; exact RrK_U (by omega))
            have K7 : KE (ru r6 710 k kg) (Gr (mmU I6 1237 0 (4 + k) kg)) k := by
              obtain ⟨k1, k2, k3, k4, k5, k6⟩ := K6
              have a1 : ∀ t, ¬ t = 710 → ru r6 710 k kg t = r6 t := fun t ht => funext fun x => if_neg (by omega)
              have a2 : ru r6 710 k kg 710 k = kg := if_pos ⟨rfl, rfl⟩
              unfold KE
              rw [a1 708 (by omega), a1 709 (by omega), a1 711 (by omega), a1 712 (by omega), a1 713 (by omega), a2]
              exact ⟨k1, k2, (mmU_same : mmU I6 1237 0 (4 + k) kg 1237 0 (4 + k) = kg), k3, k4, hkg', ⟨hs1, k5.2⟩, k6⟩
            have P7 := PSr_U (i := 0) (t := 1237) (k := 4 + k) (v := kg) P6 (by omega)
            refine ⟨by omega, by omega, hkg', by omega, by omega, fun c7 => ?_, fun c7 => ?_⟩
            · refine w99 _ p6 kg hkg' fr7 P7 M7 K7 (fun hb => BL_Ub hkg' (bl6 hb)) ?_
              rw [← hz]
              rw [if_neg (bI_eq0.mp (hkg.trans c7))]
            · refine mT_use (m_token P7) (fun v I8 q => ?_)
              obtain ⟨rfl, f8, -, -, P8⟩ := q
              simp only [mmK_cut cd_164, q_cons, q_G0, q_GS, q_I1, q_L1, q_A1, q_S0, q_S1, q_SS, q_T0, q_T1, q_TS, q_Kn, q_Ki, q_Kl, q_Kr, q_k0, q_kS, q_rc, q_ps, q_pn, q_aload0, q_getfieldI, q_iconst, q_icmp_ne, q_invV, q_ireturn1, q_icmp_eq, q_getfieldA, q_invS, q_if_lt, q_iadd, q_istore1, q_iload1, q_iastore, q_bipush, q_if_ne, q_bastore, q_if_eq, q_baload, q_dupI, q_dupA, q_putfieldI, rf_11_35, rf_11_36, rf_11_37, rf_11_38, mmKe_1235, mmKe_1236, mmKe_1237, mmKe_1238, mmKo_11, mmLen_1235, mmLen_1236, mmLen_1237, mmLen_1238, mmR32, mmR64, Option.some.injEq, Int.cast_ofNat_Int, and_true, true_and, if_true, if_false, List.length_cons, List.length_nil, Nat.le_refl, Nat.zero_le, Nat.sub_zero, forall_const, reduceCtorEq, Nat.reduceAdd, Nat.reduceSub, Nat.reduceLeDiff, Nat.reduceEqDiff, Int.reduceAdd, Int.reduceNeg, Int.reduceSub, Int.reduceLT, Int.reduceLE, Int.reduceMul, Int.reduceEq, List.drop_zero, List.drop_succ_cons, ne_eq, not_false_eq_true, not_true_eq_false, false_and, and_false, false_implies, true_implies, reduceIte, mmU_rd, implies_true, or_false, false_or, or_true, true_or]
              refine w99 _ _ kg hkg' (FrK_trans fr7 (FrK_7 f8)) P8 (M2_7 M7 f8) ?_ (fun hb => BL_7 f8 (BL_Ub hkg' (bl6 hb))) ?_
              · rw [Gr_ext (fun t x ht => f8 t 0 x (by unfold Gt at ht; omega))]
                exact K7
              · rw [← hz]
                rw [if_pos (Classical.not_not.mp (fun q => c7 (hkg.symm.trans (bI_neg q))))]
          have key : ∀ (f : Nat) (n p6 : Int) (r6 : mRu) (I6 : mMm), n + f = 10 → 1 ≤ n → n ≤ 8 → FrK k I I6 → PSr I6 T s p6 → M2 I6 r6 o → KP r6 (Gr I6) k → (BL I → BL I6) → r6 6 2 = k → r6 711 k = n → pB (stF T s k f n p6 r6) (fun x : Int × mRu => (.inr (if tkS T s x.1 = 1 ∧ tkV T s x.1 = 379001856 then tkN T s x.1 else x.1, ru (ru x.2 710 k (bI (tkS T s x.1 = 1 ∧ tkV T s x.1 = 379001856))) 6 2 (x.2 6 2 + 1), o) : mPR (Int × mRu × Int))) = Z → mmK (d + 5) 164 (mT a br X (MP I T s Z)) 76 [some (mo 11 0), some (mv (4 + k))] [] (I6, mmRf a br, X) := by
            intro f
            induction f with
            | zero => intro n p6 r6 I6 n1 n2 n3; omega
            | succ f ih =>
              intro n p6 r6 I6 n1 n2 n3 fr6 P6 M6 K6 bl6 e62 e711 hz
              rw [stF_d] at hz
              refine mmC_step ?_
              simp only [cd_164, sg_164_0, sg_164_8, sg_164_18, sg_164_31, sg_164_56, sg_164_76, sg_164_85, sg_164_99, mmK_cut cd_164, q_cons, q_G0, q_GS, q_I1, q_L1, q_A1, q_S0, q_S1, q_SS, q_T0, q_T1, q_TS, q_Kn, q_Ki, q_Kl, q_Kr, q_k0, q_kS, q_rc, q_ps, q_pn, q_aload0, q_getfieldI, q_iconst, q_icmp_ne, q_invV, q_ireturn1, q_icmp_eq, q_getfieldA, q_invS, q_if_lt, q_iadd, q_istore1, q_iload1, q_iastore, q_bipush, q_if_ne, q_bastore, q_if_eq, q_baload, q_dupI, q_dupA, q_putfieldI, rf_11_35, rf_11_36, rf_11_37, rf_11_38, mmKe_1235, mmKe_1236, mmKe_1237, mmKe_1238, mmKo_11, mmLen_1235, mmLen_1236, mmLen_1237, mmLen_1238, mmR32, mmR64, Option.some.injEq, Int.cast_ofNat_Int, and_true, true_and, if_true, if_false, List.length_cons, List.length_nil, Nat.le_refl, Nat.zero_le, Nat.sub_zero, forall_const, reduceCtorEq, Nat.reduceAdd, Nat.reduceSub, Nat.reduceLeDiff, Nat.reduceEqDiff, Int.reduceAdd, Int.reduceNeg, Int.reduceSub, Int.reduceLT, Int.reduceLE, Int.reduceMul, Int.reduceEq, List.drop_zero, List.drop_succ_cons, ne_eq, not_false_eq_true, not_true_eq_false, false_and, and_false, false_implies, true_implies, reduceIte, mmU_rd, implies_true, or_false, false_or, or_true, true_or]
              refine mT_use (m_isStep P6) (fun v I7 q => ?_)
              obtain ⟨rfl, rfl⟩ := q
              simp only [mmK_cut cd_164, q_cons, q_G0, q_GS, q_I1, q_L1, q_A1, q_S0, q_S1, q_SS, q_T0, q_T1, q_TS, q_Kn, q_Ki, q_Kl, q_Kr, q_k0, q_kS, q_rc, q_ps, q_pn, q_aload0, q_getfieldI, q_iconst, q_icmp_ne, q_invV, q_ireturn1, q_icmp_eq, q_getfieldA, q_invS, q_if_lt, q_iadd, q_istore1, q_iload1, q_iastore, q_bipush, q_if_ne, q_bastore, q_if_eq, q_baload, q_dupI, q_dupA, q_putfieldI, rf_11_35, rf_11_36, rf_11_37, rf_11_38, mmKe_1235, mmKe_1236, mmKe_1237, mmKe_1238, mmKo_11, mmLen_1235, mmLen_1236, mmLen_1237, mmLen_1238, mmR32, mmR64, Option.some.injEq, Int.cast_ofNat_Int, and_true, true_and, if_true, if_false, List.length_cons, List.length_nil, Nat.le_refl, Nat.zero_le, Nat.sub_zero, forall_const, reduceCtorEq, Nat.reduceAdd, Nat.reduceSub, Nat.reduceLeDiff, Nat.reduceEqDiff, Int.reduceAdd, Int.reduceNeg, Int.reduceSub, Int.reduceLT, Int.reduceLE, Int.reduceMul, Int.reduceEq, List.drop_zero, List.drop_succ_cons, ne_eq, not_false_eq_true, not_true_eq_false, false_and, and_false, false_implies, true_implies, reduceIte, mmU_rd, implies_true, or_false, false_or, or_true, true_or, bI_eq0]
              refine ⟨fun c7 => ?_, fun c7 => ?_⟩
              · rw [if_neg (by omega)] at hz
                exact w85 p6 r6 I7 fr6 P6 M6 K6 bl6 e62 (by omega) hz
              · rw [if_pos (Or.inr (Classical.not_not.mp c7)), ← e711] at hz
                refine mT_use (m_step ⟨e62.symm, by omega, by omega⟩ P6 M6 K6) (fun v I8 q => ?_)
                rcases q with ⟨e, hn, rfl, q⟩ | ⟨p', r', hn, rfl, q1, q2, q3, q4, q5, q6, qb⟩
                · rw [hn, pB_l, pB_l] at hz
                  simp only [mmK_cut cd_164, q_cons, q_G0, q_GS, q_I1, q_L1, q_A1, q_S0, q_S1, q_SS, q_T0, q_T1, q_TS, q_Kn, q_Ki, q_Kl, q_Kr, q_k0, q_kS, q_rc, q_ps, q_pn, q_aload0, q_getfieldI, q_iconst, q_icmp_ne, q_invV, q_ireturn1, q_icmp_eq, q_getfieldA, q_invS, q_if_lt, q_iadd, q_istore1, q_iload1, q_iastore, q_bipush, q_if_ne, q_bastore, q_if_eq, q_baload, q_dupI, q_dupA, q_putfieldI, rf_11_35, rf_11_36, rf_11_37, rf_11_38, mmKe_1235, mmKe_1236, mmKe_1237, mmKe_1238, mmKo_11, mmLen_1235, mmLen_1236, mmLen_1237, mmLen_1238, mmR32, mmR64, Option.some.injEq, Int.cast_ofNat_Int, and_true, true_and, if_true, if_false, List.length_cons, List.length_nil, Nat.le_refl, Nat.zero_le, Nat.sub_zero, forall_const, reduceCtorEq, Nat.reduceAdd, Nat.reduceSub, Nat.reduceLeDiff, Nat.reduceEqDiff, Int.reduceAdd, Int.reduceNeg, Int.reduceSub, Int.reduceLT, Int.reduceLE, Int.reduceMul, Int.reduceEq, List.drop_zero, List.drop_succ_cons, ne_eq, not_false_eq_true, not_true_eq_false, false_and, and_false, false_implies, true_implies, reduceIte, mmU_rd, implies_true, or_false, false_or, or_true, true_or]
                  exact mT_in (MP_l hz.symm (MF_trans (FrM_K hk4.1 fr6) q))
                · rw [hn, pB_r] at hz
                  simp only [mmK_cut cd_164, q_cons, q_G0, q_GS, q_I1, q_L1, q_A1, q_S0, q_S1, q_SS, q_T0, q_T1, q_TS, q_Kn, q_Ki, q_Kl, q_Kr, q_k0, q_kS, q_rc, q_ps, q_pn, q_aload0, q_getfieldI, q_iconst, q_icmp_ne, q_invV, q_ireturn1, q_icmp_eq, q_getfieldA, q_invS, q_if_lt, q_iadd, q_istore1, q_iload1, q_iastore, q_bipush, q_if_ne, q_bastore, q_if_eq, q_baload, q_dupI, q_dupA, q_putfieldI, rf_11_35, rf_11_36, rf_11_37, rf_11_38, mmKe_1235, mmKe_1236, mmKe_1237, mmKe_1238, mmKo_11, mmLen_1235, mmLen_1236, mmLen_1237, mmLen_1238, mmR32, mmR64, Option.some.injEq, Int.cast_ofNat_Int, and_true, true_and, if_true, if_false, List.length_cons, List.length_nil, Nat.le_refl, Nat.zero_le, Nat.sub_zero, forall_const, reduceCtorEq, Nat.reduceAdd, Nat.reduceSub, Nat.reduceLeDiff, Nat.reduceEqDiff, Int.reduceAdd, Int.reduceNeg, Int.reduceSub, Int.reduceLT, Int.reduceLE, Int.reduceMul, Int.reduceEq, List.drop_zero, List.drop_succ_cons, ne_eq, not_false_eq_true, not_true_eq_false, false_and, and_false, false_implies, true_implies, reduceIte, mmU_rd, implies_true, or_false, false_or, or_true, true_or]
                  have hle := q4.2.2.2.2.1
                  exact ih (n + 1) p' r' I8 (by omega) (by omega) (by omega) (FrK_trans fr6 q1) q2 q3 q4 (fun hb => qb (bl6 hb)) ((q5 6 2 (by omega)).trans e62) (by omega) (by rw [e711] at hz; exact hz)
          rw [stF_d, if_pos (Or.inl rfl)] at hZ
          have e62 : r1 6 2 = k := (rr1 6 2 (by omega)).trans hk
          have q0 := m_step (d := d) (a := a) (br := br) (X := (X.1, 0, 0)) ⟨e62.symm, by omega, by omega⟩ P3 M3 K3
          rw [v711] at q0
          refine mT_use q0 (fun v I8 q => ?_)
          rcases q with ⟨e, hn, rfl, q⟩ | ⟨p', r', hn, rfl, q1, q2, q3, q4, q5, q6, qb⟩
          · rw [hn, pB_l, pB_l] at hZ
            simp only [mmK_cut cd_164, q_cons, q_G0, q_GS, q_I1, q_L1, q_A1, q_S0, q_S1, q_SS, q_T0, q_T1, q_TS, q_Kn, q_Ki, q_Kl, q_Kr, q_k0, q_kS, q_rc, q_ps, q_pn, q_aload0, q_getfieldI, q_iconst, q_icmp_ne, q_invV, q_ireturn1, q_icmp_eq, q_getfieldA, q_invS, q_if_lt, q_iadd, q_istore1, q_iload1, q_iastore, q_bipush, q_if_ne, q_bastore, q_if_eq, q_baload, q_dupI, q_dupA, q_putfieldI, rf_11_35, rf_11_36, rf_11_37, rf_11_38, mmKe_1235, mmKe_1236, mmKe_1237, mmKe_1238, mmKo_11, mmLen_1235, mmLen_1236, mmLen_1237, mmLen_1238, mmR32, mmR64, Option.some.injEq, Int.cast_ofNat_Int, and_true, true_and, if_true, if_false, List.length_cons, List.length_nil, Nat.le_refl, Nat.zero_le, Nat.sub_zero, forall_const, reduceCtorEq, Nat.reduceAdd, Nat.reduceSub, Nat.reduceLeDiff, Nat.reduceEqDiff, Int.reduceAdd, Int.reduceNeg, Int.reduceSub, Int.reduceLT, Int.reduceLE, Int.reduceMul, Int.reduceEq, List.drop_zero, List.drop_succ_cons, ne_eq, not_false_eq_true, not_true_eq_false, false_and, and_false, false_implies, true_implies, reduceIte, mmU_rd, implies_true, or_false, false_or, or_true, true_or]
            exact mT_in (MP_l hZ.symm (MF_trans (FrM_K hk4.1 f6) q))
          · rw [hn, pB_r] at hZ
            simp only [mmK_cut cd_164, q_cons, q_G0, q_GS, q_I1, q_L1, q_A1, q_S0, q_S1, q_SS, q_T0, q_T1, q_TS, q_Kn, q_Ki, q_Kl, q_Kr, q_k0, q_kS, q_rc, q_ps, q_pn, q_aload0, q_getfieldI, q_iconst, q_icmp_ne, q_invV, q_ireturn1, q_icmp_eq, q_getfieldA, q_invS, q_if_lt, q_iadd, q_istore1, q_iload1, q_iastore, q_bipush, q_if_ne, q_bastore, q_if_eq, q_baload, q_dupI, q_dupA, q_putfieldI, rf_11_35, rf_11_36, rf_11_37, rf_11_38, mmKe_1235, mmKe_1236, mmKe_1237, mmKe_1238, mmKo_11, mmLen_1235, mmLen_1236, mmLen_1237, mmLen_1238, mmR32, mmR64, Option.some.injEq, Int.cast_ofNat_Int, and_true, true_and, if_true, if_false, List.length_cons, List.length_nil, Nat.le_refl, Nat.zero_le, Nat.sub_zero, forall_const, reduceCtorEq, Nat.reduceAdd, Nat.reduceSub, Nat.reduceLeDiff, Nat.reduceEqDiff, Int.reduceAdd, Int.reduceNeg, Int.reduceSub, Int.reduceLT, Int.reduceLE, Int.reduceMul, Int.reduceEq, List.drop_zero, List.drop_succ_cons, ne_eq, not_false_eq_true, not_true_eq_false, false_and, and_false, false_implies, true_implies, reduceIte, mmU_rd, implies_true, or_false, false_or, or_true, true_or]
            exact key 9 1 p' r' I8 (by omega) (by omega) (by omega) (FrK_trans f6 q1) q2 q3 q4 (fun hb => qb (bl4 hb)) ((q5 6 2 (by omega)).trans e62) (by omega) hZ
        simp only [mmK_cut cd_164, q_cons, q_G0, q_GS, q_I1, q_L1, q_A1, q_S0, q_S1, q_SS, q_T0, q_T1, q_TS, q_Kn, q_Ki, q_Kl, q_Kr, q_k0, q_kS, q_rc, q_ps, q_pn, q_aload0, q_getfieldI, q_iconst, q_icmp_ne, q_invV, q_ireturn1, q_icmp_eq, q_getfieldA, q_invS, q_if_lt, q_iadd, q_istore1, q_iload1, q_iastore, q_bipush, q_if_ne, q_bastore, q_if_eq, q_baload, q_dupI, q_dupA, q_putfieldI, rf_11_35, rf_11_36, rf_11_37, rf_11_38, mmKe_1235, mmKe_1236, mmKe_1237, mmKe_1238, mmKo_11, mmLen_1235, mmLen_1236, mmLen_1237, mmLen_1238, mmR32, mmR64, Option.some.injEq, Int.cast_ofNat_Int, and_true, true_and, if_true, if_false, List.length_cons, List.length_nil, Nat.le_refl, Nat.zero_le, Nat.sub_zero, forall_const, reduceCtorEq, Nat.reduceAdd, Nat.reduceSub, Nat.reduceLeDiff, Nat.reduceEqDiff, Int.reduceAdd, Int.reduceNeg, Int.reduceSub, Int.reduceLT, Int.reduceLE, Int.reduceMul, Int.reduceEq, List.drop_zero, List.drop_succ_cons, ne_eq, not_false_eq_true, not_true_eq_false, false_and, and_false, false_implies, true_implies, reduceIte, mmU_rd, implies_true, or_false, false_or, or_true, true_or]
        refine sq_isKey ?_
        rw [hq7]
        simp only [mmK_cut cd_164, q_cons, q_G0, q_GS, q_I1, q_L1, q_A1, q_S0, q_S1, q_SS, q_T0, q_T1, q_TS, q_Kn, q_Ki, q_Kl, q_Kr, q_k0, q_kS, q_rc, q_ps, q_pn, q_aload0, q_getfieldI, q_iconst, q_icmp_ne, q_invV, q_ireturn1, q_icmp_eq, q_getfieldA, q_invS, q_if_lt, q_iadd, q_istore1, q_iload1, q_iastore, q_bipush, q_if_ne, q_bastore, q_if_eq, q_baload, q_dupI, q_dupA, q_putfieldI, rf_11_35, rf_11_36, rf_11_37, rf_11_38, mmKe_1235, mmKe_1236, mmKe_1237, mmKe_1238, mmKo_11, mmLen_1235, mmLen_1236, mmLen_1237, mmLen_1238, mmR32, mmR64, Option.some.injEq, Int.cast_ofNat_Int, and_true, true_and, if_true, if_false, List.length_cons, List.length_nil, Nat.le_refl, Nat.zero_le, Nat.sub_zero, forall_const, reduceCtorEq, Nat.reduceAdd, Nat.reduceSub, Nat.reduceLeDiff, Nat.reduceEqDiff, Int.reduceAdd, Int.reduceNeg, Int.reduceSub, Int.reduceLT, Int.reduceLE, Int.reduceMul, Int.reduceEq, List.drop_zero, List.drop_succ_cons, ne_eq, not_false_eq_true, not_true_eq_false, false_and, and_false, false_implies, true_implies, reduceIte, mmU_rd, implies_true, or_false, false_or, or_true, true_or, bI_eq0, Classical.not_not]
        refine ⟨fun c5 => w56 ⟨c5.1, Or.inl c5.2⟩, fun c6 => ?_⟩
        refine sq_isKey ?_
        rw [hq8]
        simp only [mmK_cut cd_164, q_cons, q_G0, q_GS, q_I1, q_L1, q_A1, q_S0, q_S1, q_SS, q_T0, q_T1, q_TS, q_Kn, q_Ki, q_Kl, q_Kr, q_k0, q_kS, q_rc, q_ps, q_pn, q_aload0, q_getfieldI, q_iconst, q_icmp_ne, q_invV, q_ireturn1, q_icmp_eq, q_getfieldA, q_invS, q_if_lt, q_iadd, q_istore1, q_iload1, q_iastore, q_bipush, q_if_ne, q_bastore, q_if_eq, q_baload, q_dupI, q_dupA, q_putfieldI, rf_11_35, rf_11_36, rf_11_37, rf_11_38, mmKe_1235, mmKe_1236, mmKe_1237, mmKe_1238, mmKo_11, mmLen_1235, mmLen_1236, mmLen_1237, mmLen_1238, mmR32, mmR64, Option.some.injEq, Int.cast_ofNat_Int, and_true, true_and, if_true, if_false, List.length_cons, List.length_nil, Nat.le_refl, Nat.zero_le, Nat.sub_zero, forall_const, reduceCtorEq, Nat.reduceAdd, Nat.reduceSub, Nat.reduceLeDiff, Nat.reduceEqDiff, Int.reduceAdd, Int.reduceNeg, Int.reduceSub, Int.reduceLT, Int.reduceLE, Int.reduceMul, Int.reduceEq, List.drop_zero, List.drop_succ_cons, ne_eq, not_false_eq_true, not_true_eq_false, false_and, and_false, false_implies, true_implies, reduceIte, mmU_rd, implies_true, or_false, false_or, or_true, true_or, bI_eq0, Classical.not_not]
        refine ⟨fun c5 => w56 ⟨c5.1, Or.inr c5.2⟩, fun c7 => ?_⟩
        rw [if_pos (by omega)] at hZ
        refine mT_use m_wrong (fun v I' q => ?_)
        obtain ⟨rfl, q⟩ := q
        simp only [mmK_cut cd_164, q_cons, q_G0, q_GS, q_I1, q_L1, q_A1, q_S0, q_S1, q_SS, q_T0, q_T1, q_TS, q_Kn, q_Ki, q_Kl, q_Kr, q_k0, q_kS, q_rc, q_ps, q_pn, q_aload0, q_getfieldI, q_iconst, q_icmp_ne, q_invV, q_ireturn1, q_icmp_eq, q_getfieldA, q_invS, q_if_lt, q_iadd, q_istore1, q_iload1, q_iastore, q_bipush, q_if_ne, q_bastore, q_if_eq, q_baload, q_dupI, q_dupA, q_putfieldI, rf_11_35, rf_11_36, rf_11_37, rf_11_38, mmKe_1235, mmKe_1236, mmKe_1237, mmKe_1238, mmKo_11, mmLen_1235, mmLen_1236, mmLen_1237, mmLen_1238, mmR32, mmR64, Option.some.injEq, Int.cast_ofNat_Int, and_true, true_and, if_true, if_false, List.length_cons, List.length_nil, Nat.le_refl, Nat.zero_le, Nat.sub_zero, forall_const, reduceCtorEq, Nat.reduceAdd, Nat.reduceSub, Nat.reduceLeDiff, Nat.reduceEqDiff, Int.reduceAdd, Int.reduceNeg, Int.reduceSub, Int.reduceLT, Int.reduceLE, Int.reduceMul, Int.reduceEq, List.drop_zero, List.drop_succ_cons, ne_eq, not_false_eq_true, not_true_eq_false, false_and, and_false, false_implies, true_implies, reduceIte, mmU_rd, implies_true, or_false, false_or, or_true, true_or]
        exact mT_in (MP_l hZ.symm (MF_trans (FrM_K hk4.1 f3') (MF_wrong h2 q)))
      · rw [if_pos (by omega)] at hZ
        refine mT_use m_wrong (fun v I' q => ?_)
        obtain ⟨rfl, q⟩ := q
        simp only [mmK_cut cd_164, q_cons, q_G0, q_GS, q_I1, q_L1, q_A1, q_S0, q_S1, q_SS, q_T0, q_T1, q_TS, q_Kn, q_Ki, q_Kl, q_Kr, q_k0, q_kS, q_rc, q_ps, q_pn, q_aload0, q_getfieldI, q_iconst, q_icmp_ne, q_invV, q_ireturn1, q_icmp_eq, q_getfieldA, q_invS, q_if_lt, q_iadd, q_istore1, q_iload1, q_iastore, q_bipush, q_if_ne, q_bastore, q_if_eq, q_baload, q_dupI, q_dupA, q_putfieldI, rf_11_35, rf_11_36, rf_11_37, rf_11_38, mmKe_1235, mmKe_1236, mmKe_1237, mmKe_1238, mmKo_11, mmLen_1235, mmLen_1236, mmLen_1237, mmLen_1238, mmR32, mmR64, Option.some.injEq, Int.cast_ofNat_Int, and_true, true_and, if_true, if_false, List.length_cons, List.length_nil, Nat.le_refl, Nat.zero_le, Nat.sub_zero, forall_const, reduceCtorEq, Nat.reduceAdd, Nat.reduceSub, Nat.reduceLeDiff, Nat.reduceEqDiff, Int.reduceAdd, Int.reduceNeg, Int.reduceSub, Int.reduceLT, Int.reduceLE, Int.reduceMul, Int.reduceEq, List.drop_zero, List.drop_succ_cons, ne_eq, not_false_eq_true, not_true_eq_false, false_and, and_false, false_implies, true_implies, reduceIte, mmU_rd, implies_true, or_false, false_or, or_true, true_or]
        exact mT_in (MP_l hZ.symm (MF_trans (FrM_7 f1) (MF_wrong h1 q)))
    · rw [if_pos (fun q => c2 (hR1.1.mpr q))] at hZ
      refine mT_use m_wrong (fun v I' q => ?_)
      obtain ⟨rfl, q⟩ := q
      simp only [mmK_cut cd_164, q_cons, q_G0, q_GS, q_I1, q_L1, q_A1, q_S0, q_S1, q_SS, q_T0, q_T1, q_TS, q_Kn, q_Ki, q_Kl, q_Kr, q_k0, q_kS, q_rc, q_ps, q_pn, q_aload0, q_getfieldI, q_iconst, q_icmp_ne, q_invV, q_ireturn1, q_icmp_eq, q_getfieldA, q_invS, q_if_lt, q_iadd, q_istore1, q_iload1, q_iastore, q_bipush, q_if_ne, q_bastore, q_if_eq, q_baload, q_dupI, q_dupA, q_putfieldI, rf_11_35, rf_11_36, rf_11_37, rf_11_38, mmKe_1235, mmKe_1236, mmKe_1237, mmKe_1238, mmKo_11, mmLen_1235, mmLen_1236, mmLen_1237, mmLen_1238, mmR32, mmR64, Option.some.injEq, Int.cast_ofNat_Int, and_true, true_and, if_true, if_false, List.length_cons, List.length_nil, Nat.le_refl, Nat.zero_le, Nat.sub_zero, forall_const, reduceCtorEq, Nat.reduceAdd, Nat.reduceSub, Nat.reduceLeDiff, Nat.reduceEqDiff, Int.reduceAdd, Int.reduceNeg, Int.reduceSub, Int.reduceLT, Int.reduceLE, Int.reduceMul, Int.reduceEq, List.drop_zero, List.drop_succ_cons, ne_eq, not_false_eq_true, not_true_eq_false, false_and, and_false, false_implies, true_implies, reduceIte, mmU_rd, implies_true, or_false, false_or, or_true, true_or]
      exact mT_in (MP_l hZ.symm (MF_trans (FrM_7 f1) (MF_wrong h1 q)))
  · rw [if_pos (by omega)] at hZ
    refine mT_use m_wrong (fun v I' q => ?_)
    obtain ⟨rfl, q⟩ := q
    simp only [mmK_cut cd_164, q_cons, q_G0, q_GS, q_I1, q_L1, q_A1, q_S0, q_S1, q_SS, q_T0, q_T1, q_TS, q_Kn, q_Ki, q_Kl, q_Kr, q_k0, q_kS, q_rc, q_ps, q_pn, q_aload0, q_getfieldI, q_iconst, q_icmp_ne, q_invV, q_ireturn1, q_icmp_eq, q_getfieldA, q_invS, q_if_lt, q_iadd, q_istore1, q_iload1, q_iastore, q_bipush, q_if_ne, q_bastore, q_if_eq, q_baload, q_dupI, q_dupA, q_putfieldI, rf_11_35, rf_11_36, rf_11_37, rf_11_38, mmKe_1235, mmKe_1236, mmKe_1237, mmKe_1238, mmKo_11, mmLen_1235, mmLen_1236, mmLen_1237, mmLen_1238, mmR32, mmR64, Option.some.injEq, Int.cast_ofNat_Int, and_true, true_and, if_true, if_false, List.length_cons, List.length_nil, Nat.le_refl, Nat.zero_le, Nat.sub_zero, forall_const, reduceCtorEq, Nat.reduceAdd, Nat.reduceSub, Nat.reduceLeDiff, Nat.reduceEqDiff, Int.reduceAdd, Int.reduceNeg, Int.reduceSub, Int.reduceLT, Int.reduceLE, Int.reduceMul, Int.reduceEq, List.drop_zero, List.drop_succ_cons, ne_eq, not_false_eq_true, not_true_eq_false, false_and, and_false, false_implies, true_implies, reduceIte, mmU_rd, implies_true, or_false, false_or, or_true, true_or]
    exact mT_in (MP_l hZ.symm (MF_wrong h q))
end S73
