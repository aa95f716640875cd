section S818
variable {d a : Nat} {I I' I'' : mMm} {br : Nat → Option mmO} {R : Nat → Nat → Int → Option mmO} {X : mmX} {B : mBd} {m fr b : Int} {r : mRu} {Q : Option mmV → mmM → Prop}
set_option maxHeartbeats 1000000 in
theorem m_can {v w : Int} (hR : RK r I) (hM : MB I b B) (hB : BW r B) (hb : 0 ≤ b ∧ b < 72) (hm : 0 ≤ m ∧ m < 100) (hw : w = m % 2) (hv : 0 ≤ v ∧ v ≤ 4095) : mmC (d + 6) 197 [mo 11 0, mv b, mv w, mv m, mv v] (I, mmRf a br, X) (mT a br X (CQ I (lfP r B m v))) := by
  have w0 := hR.2.2.1
  have w1 := hR.2.2.2.1
  have h4 := hR.2.2.2.2.1
  have h2 : w = 0 ∨ w = 1 := by omega
  have h25 := (pt_in w0 w1 (x := 0) (y := 0) (by omega) (by omega)).2.2.1
  have ev : v = v / 64 * 64 + v % 64 := by omega
  have ht64 : 0 ≤ v % 64 ∧ v % 64 < 64 := by omega
  have hf0 : 0 ≤ v / 64 := by omega
  have hlf := lf_iff (r := r) (B := B) (m := m) ev ht64
  refine mmC_in (by decide) (Nat.le_of_ble_eq_true rfl) (mmC_step ?_)
  simp only [show mmMl 197 = 12 from rfl, mmLs, List.replicate, cd_197, sg_197_0, sg_197_28, sg_197_30, sg_197_44, sg_197_58, sg_197_85, sg_197_97, sg_197_98, sg_197_101, sg_197_103, mmK_cut cd_197, q_cons, q_G0, q_GS, q_I1, q_L1, q_A1, q_S0, q_S1, q_SS, q_T0, q_T1, q_TS, q_Kn, q_Ki, q_Kl, q_Kr, q_k0, q_kS, q_rc, q_ps, q_pn, q_iload, q_bipush, q_idiv, q_istore, q_irem, q_aload0, q_icmp_ge, q_iload1, q_iload2, q_if_eq, q_iconst, q_ireturn1, q_getfieldA, q_iadd, q_iaload, q_imul, q_icmp_gt, q_icmp_ne, q_iload3, q_if_lt, q_if_ge, q_goto, q_iinc, rf_11_38, rf_11_59, mmKe_1238, mmKe_1259, mmKo_11, mmLen_1238, mmLen_1259, mmR32, mmR64, Option.some.injEq, Int.cast_ofNat_Int, and_true, true_and, if_true, if_false, List.length_cons, List.length_nil, Nat.le_refl, Nat.zero_le, Nat.sub_zero, forall_const, reduceCtorEq, Nat.reduceAdd, Nat.reduceSub, Nat.reduceLeDiff, Nat.reduceEqDiff, Int.reduceAdd, Int.reduceNeg, Int.reduceSub, Int.reduceLT, Int.reduceLE, Int.reduceMul, Int.reduceEq, List.drop_zero, List.drop_succ_cons, ne_eq, not_false_eq_true, not_true_eq_false, false_and, and_false, false_implies, true_implies, reduceIte, mmU_rd, implies_true, or_false, false_or, or_true, true_or]
  generalize hF : v / 64 = f at *
  generalize hT : v % 64 = t at *
  generalize lfP r B m v = Z at *
  have w28 : ¬ Z → mmK (d + 5) 197 (mT a br X (CQ I Z)) 28 [some (mo 11 0), some (mv b), some (mv w), some (mv m), some (mv v), some (mv f), some (mv t), none, none, none, none, none] [] (I, mmRf a br, X) := by
    intro c
    refine mmC_step ?_
    simp only [cd_197, sg_197_0, sg_197_28, sg_197_30, sg_197_44, sg_197_58, sg_197_85, sg_197_97, sg_197_98, sg_197_101, sg_197_103, mmK_cut cd_197, q_cons, q_G0, q_GS, q_I1, q_L1, q_A1, q_S0, q_S1, q_SS, q_T0, q_T1, q_TS, q_Kn, q_Ki, q_Kl, q_Kr, q_k0, q_kS, q_rc, q_ps, q_pn, q_iload, q_bipush, q_idiv, q_istore, q_irem, q_aload0, q_icmp_ge, q_iload1, q_iload2, q_if_eq, q_iconst, q_ireturn1, q_getfieldA, q_iadd, q_iaload, q_imul, q_icmp_gt, q_icmp_ne, q_iload3, q_if_lt, q_if_ge, q_goto, q_iinc, rf_11_38, rf_11_59, mmKe_1238, mmKe_1259, mmKo_11, mmLen_1238, mmLen_1259, mmR32, mmR64, Option.some.injEq, Int.cast_ofNat_Int, and_true, true_and, if_true, if_false, List.length_cons, List.length_nil, Nat.le_refl, Nat.zero_le, Nat.sub_zero, forall_const, reduceCtorEq, Nat.reduceAdd, Nat.reduceSub, Nat.reduceLeDiff, Nat.reduceEqDiff, Int.reduceAdd, Int.reduceNeg, Int.reduceSub, Int.reduceLT, Int.reduceLE, Int.reduceMul, Int.reduceEq, List.drop_zero, List.drop_succ_cons, ne_eq, not_false_eq_true, not_true_eq_false, false_and, and_false, false_implies, true_implies, reduceIte, mmU_rd, implies_true, or_false, false_or, or_true, true_or]
    refine mT_in ⟨?_, FrW_refl⟩
    rw [bI_neg c]
  clear hF hT ev
  refine ⟨hv.1, hv.1, ?_⟩
  rw [q_invV (pay := [])]
  simp only [q_k0, q_kS, q_rc, mmKo_11]
  refine ⟨Nat.le_of_ble_eq_true rfl, by trivial, Nat.zero_le _, Nat.zero_le _, ?_⟩
  refine m_points hR ?_
  simp only [mmK_cut cd_197, q_cons, q_G0, q_GS, q_I1, q_L1, q_A1, q_S0, q_S1, q_SS, q_T0, q_T1, q_TS, q_Kn, q_Ki, q_Kl, q_Kr, q_k0, q_kS, q_rc, q_ps, q_pn, q_iload, q_bipush, q_idiv, q_istore, q_irem, q_aload0, q_icmp_ge, q_iload1, q_iload2, q_if_eq, q_iconst, q_ireturn1, q_getfieldA, q_iadd, q_iaload, q_imul, q_icmp_gt, q_icmp_ne, q_iload3, q_if_lt, q_if_ge, q_goto, q_iinc, rf_11_38, rf_11_59, mmKe_1238, mmKe_1259, mmKo_11, mmLen_1238, mmLen_1259, mmR32, mmR64, Option.some.injEq, Int.cast_ofNat_Int, and_true, true_and, if_true, if_false, List.length_cons, List.length_nil, Nat.le_refl, Nat.zero_le, Nat.sub_zero, forall_const, reduceCtorEq, Nat.reduceAdd, Nat.reduceSub, Nat.reduceLeDiff, Nat.reduceEqDiff, Int.reduceAdd, Int.reduceNeg, Int.reduceSub, Int.reduceLT, Int.reduceLE, Int.reduceMul, Int.reduceEq, List.drop_zero, List.drop_succ_cons, ne_eq, not_false_eq_true, not_true_eq_false, false_and, and_false, false_implies, true_implies, reduceIte, mmU_rd, implies_true, or_false, false_or, or_true, true_or]
  refine ⟨fun c => w28 (fun q => by have := (hlf.mp q).1.1.2; omega), fun c => ?_⟩
  rw [q_invV (pay := [])]
  simp only [q_k0, q_kS, q_rc, mmKo_11]
  refine ⟨Nat.le_of_ble_eq_true rfl, by trivial, Nat.zero_le _, Nat.zero_le _, ?_⟩
  refine m_points hR ?_
  simp only [mmK_cut cd_197, q_cons, q_G0, q_GS, q_I1, q_L1, q_A1, q_S0, q_S1, q_SS, q_T0, q_T1, q_TS, q_Kn, q_Ki, q_Kl, q_Kr, q_k0, q_kS, q_rc, q_ps, q_pn, q_iload, q_bipush, q_idiv, q_istore, q_irem, q_aload0, q_icmp_ge, q_iload1, q_iload2, q_if_eq, q_iconst, q_ireturn1, q_getfieldA, q_iadd, q_iaload, q_imul, q_icmp_gt, q_icmp_ne, q_iload3, q_if_lt, q_if_ge, q_goto, q_iinc, rf_11_38, rf_11_59, mmKe_1238, mmKe_1259, mmKo_11, mmLen_1238, mmLen_1259, mmR32, mmR64, Option.some.injEq, Int.cast_ofNat_Int, and_true, true_and, if_true, if_false, List.length_cons, List.length_nil, Nat.le_refl, Nat.zero_le, Nat.sub_zero, forall_const, reduceCtorEq, Nat.reduceAdd, Nat.reduceSub, Nat.reduceLeDiff, Nat.reduceEqDiff, Int.reduceAdd, Int.reduceNeg, Int.reduceSub, Int.reduceLT, Int.reduceLE, Int.reduceMul, Int.reduceEq, List.drop_zero, List.drop_succ_cons, ne_eq, not_false_eq_true, not_true_eq_false, false_and, and_false, false_implies, true_implies, reduceIte, mmU_rd, implies_true, or_false, false_or, or_true, true_or]
  refine ⟨fun c2 => w28 (fun q => fc_out w0 w1 c2 _ _ (hlf.mp q).2), fun c2 => ?_⟩
  have hf25 : 0 ≤ f ∧ f < 25 := by omega
  have ht25 : 0 ≤ t ∧ t < 25 := by omega
  rw [q_invV (pay := [])]
  simp only [q_k0, q_kS, q_rc, mmKo_11]
  refine ⟨Nat.le_of_ble_eq_true rfl, by trivial, Nat.zero_le _, Nat.zero_le _, ?_⟩
  refine m_isOwn hM hB hb hf25 h2 ?_
  simp only [mmK_cut cd_197, q_cons, q_G0, q_GS, q_I1, q_L1, q_A1, q_S0, q_S1, q_SS, q_T0, q_T1, q_TS, q_Kn, q_Ki, q_Kl, q_Kr, q_k0, q_kS, q_rc, q_ps, q_pn, q_iload, q_bipush, q_idiv, q_istore, q_irem, q_aload0, q_icmp_ge, q_iload1, q_iload2, q_if_eq, q_iconst, q_ireturn1, q_getfieldA, q_iadd, q_iaload, q_imul, q_icmp_gt, q_icmp_ne, q_iload3, q_if_lt, q_if_ge, q_goto, q_iinc, rf_11_38, rf_11_59, mmKe_1238, mmKe_1259, mmKo_11, mmLen_1238, mmLen_1259, mmR32, mmR64, Option.some.injEq, Int.cast_ofNat_Int, and_true, true_and, if_true, if_false, List.length_cons, List.length_nil, Nat.le_refl, Nat.zero_le, Nat.sub_zero, forall_const, reduceCtorEq, Nat.reduceAdd, Nat.reduceSub, Nat.reduceLeDiff, Nat.reduceEqDiff, Int.reduceAdd, Int.reduceNeg, Int.reduceSub, Int.reduceLT, Int.reduceLE, Int.reduceMul, Int.reduceEq, List.drop_zero, List.drop_succ_cons, ne_eq, not_false_eq_true, not_true_eq_false, false_and, and_false, false_implies, true_implies, reduceIte, mmU_rd, implies_true, or_false, false_or, or_true, true_or, bI_eq0]
  refine ⟨fun c3 => w28 (fun q => c3 (by rw [hw]; exact (hlf.mp q).1.2)), fun c3 => ?_⟩
  have c3 := Classical.not_not.mp c3
  rw [q_invV (pay := [])]
  simp only [q_k0, q_kS, q_rc, mmKo_11]
  refine ⟨Nat.le_of_ble_eq_true rfl, by trivial, Nat.zero_le _, Nat.zero_le _, ?_⟩
  refine m_isOwn hM hB hb ht25 h2 ?_
  simp only [mmK_cut cd_197, q_cons, q_G0, q_GS, q_I1, q_L1, q_A1, q_S0, q_S1, q_SS, q_T0, q_T1, q_TS, q_Kn, q_Ki, q_Kl, q_Kr, q_k0, q_kS, q_rc, q_ps, q_pn, q_iload, q_bipush, q_idiv, q_istore, q_irem, q_aload0, q_icmp_ge, q_iload1, q_iload2, q_if_eq, q_iconst, q_ireturn1, q_getfieldA, q_iadd, q_iaload, q_imul, q_icmp_gt, q_icmp_ne, q_iload3, q_if_lt, q_if_ge, q_goto, q_iinc, rf_11_38, rf_11_59, mmKe_1238, mmKe_1259, mmKo_11, mmLen_1238, mmLen_1259, mmR32, mmR64, Option.some.injEq, Int.cast_ofNat_Int, and_true, true_and, if_true, if_false, List.length_cons, List.length_nil, Nat.le_refl, Nat.zero_le, Nat.sub_zero, forall_const, reduceCtorEq, Nat.reduceAdd, Nat.reduceSub, Nat.reduceLeDiff, Nat.reduceEqDiff, Int.reduceAdd, Int.reduceNeg, Int.reduceSub, Int.reduceLT, Int.reduceLE, Int.reduceMul, Int.reduceEq, List.drop_zero, List.drop_succ_cons, ne_eq, not_false_eq_true, not_true_eq_false, false_and, and_false, false_implies, true_implies, reduceIte, mmU_rd, implies_true, or_false, false_or, or_true, true_or, bI_eq0]
  refine ⟨fun c4 => ?_, fun c4 => w28 (fun q => fc_own (by rw [← hw]; exact Classical.not_not.mp c4) _ _ (hlf.mp q).2)⟩
  have ho := own_in (m := m) hB hf25 (by rw [← hw]; exact c3)
  have hno : ¬ B t / 4 = m % 2 := by rw [← hw]; exact c4
  have hZ : Z ↔ fcP r B m f t (r 711 (B f % 4)).toNat 0 := hlf.trans ⟨fun q => q.2, fun q => ⟨⟨⟨hf0, c⟩, by rw [← hw]; exact c3⟩, q⟩⟩
  clear hlf w28
  have e := hM f hf25.1 hf25.2
  have em : mB (B f) = B f := if_neg (by omega)
  have hk : 0 ≤ B f % 4 ∧ B f % 4 < r 6 2 := ⟨by omega, ho.2⟩
  have hKE := hR.1.2.1 _ hk.1 hk.2
  have hgen : ∀ c s, fcP r B m f t (c + 1) s = (rcP r B m f (B f % 4 * 8 + s) t (tmF r (B f % 4)) 1 ∨ fcP r B m f t c (s + 1)) := fun _ _ => rfl
  generalize hkd : B f % 4 = kd at *
  have hkd4 : kd < 4 := by omega
  obtain ⟨k1, k2, k3, k4, k5, k6, k7, k8⟩ := hKE
  clear k5 k6
  have k4' : I 1238 0 kd = r 711 kd := k4
  have key : ∀ (c : Nat) (s : Int) (I1 : mMm) (l9 l10 l11 : Option mmV), 0 ≤ s → s + c = r 711 kd → FrW I I1 → (Z ↔ fcP r B m f t c s) → mmK (d + 5) 197 (mT a br X (CQ I Z)) 44 [some (mo 11 0), some (mv b), some (mv w), some (mv m), some (mv v), some (mv f), some (mv t), some (mv kd), some (mv (kd * 8 + s)), l9, l10, l11] [] (I1, mmRf a br, X) := by
    intro c
    induction c with
    | zero =>
      intro s I1 l9 l10 l11 s0 s1 fr1 hz
      have e38 : I1 1238 0 kd = r 711 kd := (fr1 _ _ _ (by omega) (by decide) (by decide)).trans k4'
      refine mmC_step ?_
      simp only [cd_197, sg_197_0, sg_197_28, sg_197_30, sg_197_44, sg_197_58, sg_197_85, sg_197_97, sg_197_98, sg_197_101, sg_197_103, mmK_cut cd_197, q_cons, q_G0, q_GS, q_I1, q_L1, q_A1, q_S0, q_S1, q_SS, q_T0, q_T1, q_TS, q_Kn, q_Ki, q_Kl, q_Kr, q_k0, q_kS, q_rc, q_ps, q_pn, q_iload, q_bipush, q_idiv, q_istore, q_irem, q_aload0, q_icmp_ge, q_iload1, q_iload2, q_if_eq, q_iconst, q_ireturn1, q_getfieldA, q_iadd, q_iaload, q_imul, q_icmp_gt, q_icmp_ne, q_iload3, q_if_lt, q_if_ge, q_goto, q_iinc, rf_11_38, rf_11_59, mmKe_1238, mmKe_1259, mmKo_11, mmLen_1238, mmLen_1259, mmR32, mmR64, Option.some.injEq, Int.cast_ofNat_Int, and_true, true_and, if_true, if_false, List.length_cons, List.length_nil, Nat.le_refl, Nat.zero_le, Nat.sub_zero, forall_const, reduceCtorEq, Nat.reduceAdd, Nat.reduceSub, Nat.reduceLeDiff, Nat.reduceEqDiff, Int.reduceAdd, Int.reduceNeg, Int.reduceSub, Int.reduceLT, Int.reduceLE, Int.reduceMul, Int.reduceEq, List.drop_zero, List.drop_succ_cons, ne_eq, not_false_eq_true, not_true_eq_false, false_and, and_false, false_implies, true_implies, reduceIte, mmU_rd, implies_true, or_false, false_or, or_true, true_or]
      rw [e38]
      refine ⟨by omega, hk.1, by omega, by omega, fun _ => ?_, fun c => by omega⟩
      refine mmC_step ?_
      simp only [cd_197, sg_197_0, sg_197_28, sg_197_30, sg_197_44, sg_197_58, sg_197_85, sg_197_97, sg_197_98, sg_197_101, sg_197_103, mmK_cut cd_197, q_cons, q_G0, q_GS, q_I1, q_L1, q_A1, q_S0, q_S1, q_SS, q_T0, q_T1, q_TS, q_Kn, q_Ki, q_Kl, q_Kr, q_k0, q_kS, q_rc, q_ps, q_pn, q_iload, q_bipush, q_idiv, q_istore, q_irem, q_aload0, q_icmp_ge, q_iload1, q_iload2, q_if_eq, q_iconst, q_ireturn1, q_getfieldA, q_iadd, q_iaload, q_imul, q_icmp_gt, q_icmp_ne, q_iload3, q_if_lt, q_if_ge, q_goto, q_iinc, rf_11_38, rf_11_59, mmKe_1238, mmKe_1259, mmKo_11, mmLen_1238, mmLen_1259, mmR32, mmR64, Option.some.injEq, Int.cast_ofNat_Int, and_true, true_and, if_true, if_false, List.length_cons, List.length_nil, Nat.le_refl, Nat.zero_le, Nat.sub_zero, forall_const, reduceCtorEq, Nat.reduceAdd, Nat.reduceSub, Nat.reduceLeDiff, Nat.reduceEqDiff, Int.reduceAdd, Int.reduceNeg, Int.reduceSub, Int.reduceLT, Int.reduceLE, Int.reduceMul, Int.reduceEq, List.drop_zero, List.drop_succ_cons, ne_eq, not_false_eq_true, not_true_eq_false, false_and, and_false, false_implies, true_implies, reduceIte, mmU_rd, implies_true, or_false, false_or, or_true, true_or]
      refine mT_in ⟨?_, fr1⟩
      rw [bI_neg (fun q => hz.mp q)]
    | succ c ih =>
      intro s I1 l9 l10 l11 s0 s1 fr1 hz
      have e38 : I1 1238 0 kd = r 711 kd := (fr1 _ _ _ (by omega) (by decide) (by decide)).trans k4'
      rw [hgen] at hz
      have h8 := k8 s s0 (by omega)
      refine mmC_step ?_
      simp only [cd_197, sg_197_0, sg_197_28, sg_197_30, sg_197_44, sg_197_58, sg_197_85, sg_197_97, sg_197_98, sg_197_101, sg_197_103, mmK_cut cd_197, q_cons, q_G0, q_GS, q_I1, q_L1, q_A1, q_S0, q_S1, q_SS, q_T0, q_T1, q_TS, q_Kn, q_Ki, q_Kl, q_Kr, q_k0, q_kS, q_rc, q_ps, q_pn, q_iload, q_bipush, q_idiv, q_istore, q_irem, q_aload0, q_icmp_ge, q_iload1, q_iload2, q_if_eq, q_iconst, q_ireturn1, q_getfieldA, q_iadd, q_iaload, q_imul, q_icmp_gt, q_icmp_ne, q_iload3, q_if_lt, q_if_ge, q_goto, q_iinc, rf_11_38, rf_11_59, mmKe_1238, mmKe_1259, mmKo_11, mmLen_1238, mmLen_1259, mmR32, mmR64, Option.some.injEq, Int.cast_ofNat_Int, and_true, true_and, if_true, if_false, List.length_cons, List.length_nil, Nat.le_refl, Nat.zero_le, Nat.sub_zero, forall_const, reduceCtorEq, Nat.reduceAdd, Nat.reduceSub, Nat.reduceLeDiff, Nat.reduceEqDiff, Int.reduceAdd, Int.reduceNeg, Int.reduceSub, Int.reduceLT, Int.reduceLE, Int.reduceMul, Int.reduceEq, List.drop_zero, List.drop_succ_cons, ne_eq, not_false_eq_true, not_true_eq_false, false_and, and_false, false_implies, true_implies, reduceIte, mmU_rd, implies_true, or_false, false_or, or_true, true_or]
      rw [e38]
      refine ⟨by omega, hk.1, by omega, by omega, fun c => by omega, fun _ => ?_⟩
      refine m_canB (p := kd * 8 + s) (tm := tmF r kd) hR hM hB hb hm hf25 ho.1 hw hk rfl ⟨by omega, by omega⟩ ⟨h8.1, h8.2.1⟩ ⟨h8.2.2.1, h8.2.2.2.1⟩ ht25 hno (tmF r kd) 1 I1 l11 (by omega) (by omega) fr1 (fun q => hz.mpr (Or.inl q)) (fun I2 l9 l10 l11 fr2 hn => ?_)
      refine mmC_step ?_
      simp only [cd_197, sg_197_0, sg_197_28, sg_197_30, sg_197_44, sg_197_58, sg_197_85, sg_197_97, sg_197_98, sg_197_101, sg_197_103, mmK_cut cd_197, q_cons, q_G0, q_GS, q_I1, q_L1, q_A1, q_S0, q_S1, q_SS, q_T0, q_T1, q_TS, q_Kn, q_Ki, q_Kl, q_Kr, q_k0, q_kS, q_rc, q_ps, q_pn, q_iload, q_bipush, q_idiv, q_istore, q_irem, q_aload0, q_icmp_ge, q_iload1, q_iload2, q_if_eq, q_iconst, q_ireturn1, q_getfieldA, q_iadd, q_iaload, q_imul, q_icmp_gt, q_icmp_ne, q_iload3, q_if_lt, q_if_ge, q_goto, q_iinc, rf_11_38, rf_11_59, mmKe_1238, mmKe_1259, mmKo_11, mmLen_1238, mmLen_1259, mmR32, mmR64, Option.some.injEq, Int.cast_ofNat_Int, and_true, true_and, if_true, if_false, List.length_cons, List.length_nil, Nat.le_refl, Nat.zero_le, Nat.sub_zero, forall_const, reduceCtorEq, Nat.reduceAdd, Nat.reduceSub, Nat.reduceLeDiff, Nat.reduceEqDiff, Int.reduceAdd, Int.reduceNeg, Int.reduceSub, Int.reduceLT, Int.reduceLE, Int.reduceMul, Int.reduceEq, List.drop_zero, List.drop_succ_cons, ne_eq, not_false_eq_true, not_true_eq_false, false_and, and_false, false_implies, true_implies, reduceIte, mmU_rd, implies_true, or_false, false_or, or_true, true_or]
      refine ⟨by omega, ?_⟩
      have := ih (s + 1) I2 l9 l10 l11 (by omega) (by omega) fr2 ⟨fun q => (hz.mp q).resolve_left hn, fun q => hz.mpr (Or.inr q)⟩
      rw [show kd * 8 + (s + 1) = kd * 8 + s + 1 by omega] at this
      exact this
  refine mmC_step ?_
  simp only [cd_197, sg_197_0, sg_197_28, sg_197_30, sg_197_44, sg_197_58, sg_197_85, sg_197_97, sg_197_98, sg_197_101, sg_197_103, mmK_cut cd_197, q_cons, q_G0, q_GS, q_I1, q_L1, q_A1, q_S0, q_S1, q_SS, q_T0, q_T1, q_TS, q_Kn, q_Ki, q_Kl, q_Kr, q_k0, q_kS, q_rc, q_ps, q_pn, q_iload, q_bipush, q_idiv, q_istore, q_irem, q_aload0, q_icmp_ge, q_iload1, q_iload2, q_if_eq, q_iconst, q_ireturn1, q_getfieldA, q_iadd, q_iaload, q_imul, q_icmp_gt, q_icmp_ne, q_iload3, q_if_lt, q_if_ge, q_goto, q_iinc, rf_11_38, rf_11_59, mmKe_1238, mmKe_1259, mmKo_11, mmLen_1238, mmLen_1259, mmR32, mmR64, Option.some.injEq, Int.cast_ofNat_Int, and_true, true_and, if_true, if_false, List.length_cons, List.length_nil, Nat.le_refl, Nat.zero_le, Nat.sub_zero, forall_const, reduceCtorEq, Nat.reduceAdd, Nat.reduceSub, Nat.reduceLeDiff, Nat.reduceEqDiff, Int.reduceAdd, Int.reduceNeg, Int.reduceSub, Int.reduceLT, Int.reduceLE, Int.reduceMul, Int.reduceEq, List.drop_zero, List.drop_succ_cons, ne_eq, not_false_eq_true, not_true_eq_false, false_and, and_false, false_implies, true_implies, reduceIte, mmU_rd, implies_true, or_false, false_or, or_true, true_or]
  rw [q_invS (pay := [])]
  simp only [q_k0, q_kS]
  refine ⟨Nat.le_of_ble_eq_true rfl, Nat.zero_le _, Nat.zero_le _, ?_⟩
  refine sq_base (by omega) ?_
  simp only [mmK_cut cd_197, q_cons, q_G0, q_GS, q_I1, q_L1, q_A1, q_S0, q_S1, q_SS, q_T0, q_T1, q_TS, q_Kn, q_Ki, q_Kl, q_Kr, q_k0, q_kS, q_rc, q_ps, q_pn, q_iload, q_bipush, q_idiv, q_istore, q_irem, q_aload0, q_icmp_ge, q_iload1, q_iload2, q_if_eq, q_iconst, q_ireturn1, q_getfieldA, q_iadd, q_iaload, q_imul, q_icmp_gt, q_icmp_ne, q_iload3, q_if_lt, q_if_ge, q_goto, q_iinc, rf_11_38, rf_11_59, mmKe_1238, mmKe_1259, mmKo_11, mmLen_1238, mmLen_1259, mmR32, mmR64, Option.some.injEq, Int.cast_ofNat_Int, and_true, true_and, if_true, if_false, List.length_cons, List.length_nil, Nat.le_refl, Nat.zero_le, Nat.sub_zero, forall_const, reduceCtorEq, Nat.reduceAdd, Nat.reduceSub, Nat.reduceLeDiff, Nat.reduceEqDiff, Int.reduceAdd, Int.reduceNeg, Int.reduceSub, Int.reduceLT, Int.reduceLE, Int.reduceMul, Int.reduceEq, List.drop_zero, List.drop_succ_cons, ne_eq, not_false_eq_true, not_true_eq_false, false_and, and_false, false_implies, true_implies, reduceIte, mmU_rd, implies_true, or_false, false_or, or_true, true_or]
  rw [e, em, hkd]
  refine ⟨by omega, by omega, by omega, ho.1, by omega, ?_⟩
  have := key (r 711 kd).toNat 0 I none none none (by omega) (by omega) FrW_refl hZ
  rw [show kd * 8 + 0 = 8 * kd by omega] at this
  exact this
end S818
