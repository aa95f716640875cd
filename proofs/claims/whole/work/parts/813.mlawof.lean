theorem ix_top {K : Int → Int} {n : Nat} : (ixS K (n + 1)).2 ((ixS K (n + 1)).1 - 1) = n := by
  unfold ixS ixT
  split
  · simp only
    unfold fup
    rw [if_pos (by omega)]
  · simp only
    unfold fup
    rw [if_pos (by omega)]
section S813
variable {d a : Nat} {I I' I'' : mMm} {br : Nat → Option mmO} {R : Nat → Nat → Int → Option mmO} {X : mmX} {B : mBd} {m fr b : Int} {r : mRu} {Q : Option mmV → mmM → Prop}
theorem lwV_0 {F : Int → Int} (h : r 1 2 = 0) : lwV r F = -9223372036854775808 := by
  unfold lwV
  rw [h]
  rfl
theorem m_lawOf {F : Int → Int} (h : RK r I) (ht : I 11 0 21 = 1) (hF : ∀ k, 0 ≤ k → k < 8 → I 1256 0 k = F k ∧ -2147483648 ≤ F k ∧ F k ≤ 2147483647) : mmC (d + 3) 194 [mo 11 0] (I, mmRf a br, X) (mT a br X fun v I' => FrW I I' ∧ ((v = some (ml (lwV r F)) ∧ I' 11 0 58 = 0 ∧ -1000000000000 ≤ lwV r F ∧ lwV r F ≤ 1000000000000) ∨ (v = some (ml 0) ∧ I' 11 0 58 = 1 ∧ lwV r F = -9223372036854775808))) := by
  have hL : (1 ≤ r 1 2 ∧ r 1 2 ≤ 64) ∧ I 11 0 16 = r 1 2 ∧ (∀ m : Nat, (m : Int) < r 1 2 → TPn (r 200) (I 1244 0) (I 1245 0) (I 1246 0) m) ∧ (ixS (r 200) (r 1 2).toNat).1 = 1 := by
    rcases h.2.1 with q | q
    · have : I 11 0 21 = 0 := q.1
      omega
    · exact ⟨q.2.1, q.2.2.1, q.2.2.2.1, q.2.2.2.2⟩
  obtain ⟨h64, h16, hT, h1⟩ := hL
  have fw : ∀ (e : Int) (row : Int → Int), FrW I (mmUr (mmU I 11 0 58 e) 1257 0 row) := by
    intro e row t i k c1 c2 c3
    unfold mmUr
    rw [if_neg (fun q => c3 q.1)]
    unfold mmU
    rw [if_neg (fun q => c1 ⟨q.1, q.2.2⟩)]
  refine sq_lawOf (K := r 200) (F := F) (V := fun _ => 0) (by rw [h16]; exact h64) (fun m hm => hT m (by rw [← h16]; exact hm)) hF (fun row hv => mT_in ⟨fw 0 row, Or.inl ⟨?_, rfl, ?_⟩⟩) (fun row hv => mT_in ⟨fw 1 row, Or.inr ⟨rfl, rfl, ?_⟩⟩)
  · rw [h16] at hv ⊢
    have hv1 := hv.1.resolve_right (fun q => absurd q.1 (by decide))
    have et : (ixS (r 200) (r 1 2).toNat).2 0 = r 1 2 - 1 := by
      obtain ⟨n, hn⟩ : ∃ n : Nat, (r 1 2).toNat = n + 1 := ⟨(r 1 2).toNat - 1, by omega⟩
      have := ix_top (K := r 200) (n := n)
      rw [← hn, h1] at this
      have e0 : (1 : Int) - 1 = 0 := by omega
      rw [e0] at this
      rw [this]; omega
    have e2 := hv1.2.2 0 (by omega) (by omega)
    rw [et] at e2
    rw [e2]
    unfold lwV wrV
    rw [if_pos (hv1.2.1.trans h1)]
  · rw [h16] at hv
    have hv1 := hv.1.resolve_right (fun q => absurd q.1 (by decide))
    have hin := evS_in (K := r 200) (F := F) (V := fun _ => 0) (fun k k0 k1 => (hF k k0 k1).2) (r 1 2).toNat (fun k k0 k1 => by
      have := hT k.toNat (by omega)
      unfold TPn at this
      rw [show ((k.toNat : Nat) : Int) = k by omega] at this
      omega)
    unfold lwV wrV
    rw [if_pos (hv1.2.1.trans h1)]
    exact hin.2 0 (by omega) (by rw [hv1.2.1, h1]; omega)
  · rw [h16] at hv
    have hv1 := hv.1.resolve_left (fun q => absurd q.1 (by decide))
    unfold lwV wrV
    rw [if_neg (by have := hv1.2; omega)]
theorem m_isLawful {to far w : Int} (h : RK r I) (hM : MB I b B) (hB : BW r B) (hm : 0 ≤ m ∧ m < 100) (hb : 0 ≤ b ∧ b < 72) (hfr : 0 ≤ fr ∧ fr < 25) (hof : 0 ≤ B fr) (hto : 0 ≤ to ∧ to < 25) (hty : 0 ≤ to / r 6 0 ∧ to / r 6 0 < r 6 1) (hfar : 1 ≤ far ∧ far ≤ 4) (hw : w = m % 2) : mmC (d + 5) 195 [mo 11 0, mv b, mv fr, mv to, mv far, mv w, mv m] (I, mmRf a br, X) (mT a br X fun v I' => v = some (mv (bI (¬ lwV r (fcF r B m fr to far) = 0))) ∧ FrW I I') := by
  have hq := RQ_of h.1 h.2.1 h.2.2
  refine mmC_in (by decide) (Nat.le_of_ble_eq_true rfl) (mmC_step ?_)
  simp only [show mmMl 195 = 7 from rfl, mmLs, List.replicate, cd_195, sg_195_0, sg_195_5, sg_195_21, sg_195_23, sg_195_24, mmK_cut cd_195, q_cons, q_G0, q_GS, q_I1, q_L1, q_A1, q_S0, q_S1, q_SS, q_T0, q_T1, q_TS, q_Kn, q_Ki, q_Kl, q_Kr, q_k0, q_kS, q_rc, q_ps, q_pn, q_aload0, q_getfieldZ, q_if_ne, q_iconst, q_ireturn1, q_iload1, q_iload2, q_iload3, q_iload, q_lconst0, q_lcmp, q_if_eq, q_goto, mmKo_11, mmR32, mmR64, Option.some.injEq, Int.cast_ofNat_Int, and_true, true_and, if_true, if_false, List.length_cons, List.length_nil, Nat.le_refl, Nat.zero_le, Nat.sub_zero, forall_const, reduceCtorEq, Nat.reduceAdd, Nat.reduceSub, Nat.reduceLeDiff, Nat.reduceEqDiff, Int.reduceAdd, Int.reduceNeg, Int.reduceSub, Int.reduceLT, Int.reduceLE, Int.reduceMul, Int.reduceEq, List.drop_zero, List.drop_succ_cons, ne_eq, not_false_eq_true, not_true_eq_false, false_and, and_false, false_implies, true_implies, reduceIte, mmU_rd, implies_true, or_false, false_or, or_true, true_or]
  refine ⟨fun c => ?_, fun c => ?_⟩
  · have ht : I 11 0 21 = 1 := by
      rcases h.2.1 with q | q
      · exact absurd q.1 c
      · exact q.1
    refine mmC_step ?_
    simp only [cd_195, sg_195_0, sg_195_5, sg_195_21, sg_195_23, sg_195_24, mmK_cut cd_195, q_cons, q_G0, q_GS, q_I1, q_L1, q_A1, q_S0, q_S1, q_SS, q_T0, q_T1, q_TS, q_Kn, q_Ki, q_Kl, q_Kr, q_k0, q_kS, q_rc, q_ps, q_pn, q_aload0, q_getfieldZ, q_if_ne, q_iconst, q_ireturn1, q_iload1, q_iload2, q_iload3, q_iload, q_lconst0, q_lcmp, q_if_eq, q_goto, mmKo_11, mmR32, mmR64, Option.some.injEq, Int.cast_ofNat_Int, and_true, true_and, if_true, if_false, List.length_cons, List.length_nil, Nat.le_refl, Nat.zero_le, Nat.sub_zero, forall_const, reduceCtorEq, Nat.reduceAdd, Nat.reduceSub, Nat.reduceLeDiff, Nat.reduceEqDiff, Int.reduceAdd, Int.reduceNeg, Int.reduceSub, Int.reduceLT, Int.reduceLE, Int.reduceMul, Int.reduceEq, List.drop_zero, List.drop_succ_cons, ne_eq, not_false_eq_true, not_true_eq_false, false_and, and_false, false_implies, true_implies, reduceIte, mmU_rd, implies_true, or_false, false_or, or_true, true_or]
    rw [q_invV (pay := [])]
    simp only [q_k0, q_kS, q_rc, mmKo_11]
    refine ⟨Nat.le_of_ble_eq_true rfl, by trivial, Nat.zero_le _, Nat.zero_le _, ?_⟩
    refine mT_use (m_layNames h hM hB hb hfr hof hto hty.2 hw) (fun v I1 q => ?_)
    obtain ⟨rfl, f1, g1⟩ := q
    simp only [mmK_cut cd_195, q_cons, q_G0, q_GS, q_I1, q_L1, q_A1, q_S0, q_S1, q_SS, q_T0, q_T1, q_TS, q_Kn, q_Ki, q_Kl, q_Kr, q_k0, q_kS, q_rc, q_ps, q_pn, q_aload0, q_getfieldZ, q_if_ne, q_iconst, q_ireturn1, q_iload1, q_iload2, q_iload3, q_iload, q_lconst0, q_lcmp, q_if_eq, q_goto, mmKo_11, mmR32, mmR64, Option.some.injEq, Int.cast_ofNat_Int, and_true, true_and, if_true, if_false, List.length_cons, List.length_nil, Nat.le_refl, Nat.zero_le, Nat.sub_zero, forall_const, reduceCtorEq, Nat.reduceAdd, Nat.reduceSub, Nat.reduceLeDiff, Nat.reduceEqDiff, Int.reduceAdd, Int.reduceNeg, Int.reduceSub, Int.reduceLT, Int.reduceLE, Int.reduceMul, Int.reduceEq, List.drop_zero, List.drop_succ_cons, ne_eq, not_false_eq_true, not_true_eq_false, false_and, and_false, false_implies, true_implies, reduceIte, mmU_rd, implies_true, or_false, false_or, or_true, true_or]
    rw [q_invV (pay := [])]
    simp only [q_k0, q_kS, q_rc, mmKo_11]
    refine ⟨Nat.le_of_ble_eq_true rfl, by trivial, Nat.zero_le _, Nat.zero_le _, ?_⟩
    refine mT_use (m_lawOf (RK_W h f1) ((f1 _ _ _ (by decide) (by decide) (by decide)).trans ht) (fun k k0 k1 => ⟨g1 k k0 k1, fc_in hq hB hm hfr hty ⟨by omega, by omega⟩⟩)) (fun v I2 q => ?_)
    obtain ⟨f2, q⟩ := q
    have f3 := FrW_trans f1 f2
    generalize lwV r (fcF r B m fr to far) = z at *
    have w21 : ¬ z = 0 → mmK (d + 4) 195 (mT a br X fun v I' => v = some (mv (bI (¬ z = 0))) ∧ FrW I I') 21 [some (mo 11 0), some (mv b), some (mv fr), some (mv to), some (mv far), some (mv w), some (mv m)] [] (I2, mmRf a br, X) := by
      intro cz
      refine mmC_step ?_
      simp only [cd_195, sg_195_0, sg_195_5, sg_195_21, sg_195_23, sg_195_24, mmK_cut cd_195, q_cons, q_G0, q_GS, q_I1, q_L1, q_A1, q_S0, q_S1, q_SS, q_T0, q_T1, q_TS, q_Kn, q_Ki, q_Kl, q_Kr, q_k0, q_kS, q_rc, q_ps, q_pn, q_aload0, q_getfieldZ, q_if_ne, q_iconst, q_ireturn1, q_iload1, q_iload2, q_iload3, q_iload, q_lconst0, q_lcmp, q_if_eq, q_goto, mmKo_11, mmR32, mmR64, Option.some.injEq, Int.cast_ofNat_Int, and_true, true_and, if_true, if_false, List.length_cons, List.length_nil, Nat.le_refl, Nat.zero_le, Nat.sub_zero, forall_const, reduceCtorEq, Nat.reduceAdd, Nat.reduceSub, Nat.reduceLeDiff, Nat.reduceEqDiff, Int.reduceAdd, Int.reduceNeg, Int.reduceSub, Int.reduceLT, Int.reduceLE, Int.reduceMul, Int.reduceEq, List.drop_zero, List.drop_succ_cons, ne_eq, not_false_eq_true, not_true_eq_false, false_and, and_false, false_implies, true_implies, reduceIte, mmU_rd, implies_true, or_false, false_or, or_true, true_or]
      refine mmC_step ?_
      simp only [cd_195, sg_195_0, sg_195_5, sg_195_21, sg_195_23, sg_195_24, mmK_cut cd_195, q_cons, q_G0, q_GS, q_I1, q_L1, q_A1, q_S0, q_S1, q_SS, q_T0, q_T1, q_TS, q_Kn, q_Ki, q_Kl, q_Kr, q_k0, q_kS, q_rc, q_ps, q_pn, q_aload0, q_getfieldZ, q_if_ne, q_iconst, q_ireturn1, q_iload1, q_iload2, q_iload3, q_iload, q_lconst0, q_lcmp, q_if_eq, q_goto, mmKo_11, mmR32, mmR64, Option.some.injEq, Int.cast_ofNat_Int, and_true, true_and, if_true, if_false, List.length_cons, List.length_nil, Nat.le_refl, Nat.zero_le, Nat.sub_zero, forall_const, reduceCtorEq, Nat.reduceAdd, Nat.reduceSub, Nat.reduceLeDiff, Nat.reduceEqDiff, Int.reduceAdd, Int.reduceNeg, Int.reduceSub, Int.reduceLT, Int.reduceLE, Int.reduceMul, Int.reduceEq, List.drop_zero, List.drop_succ_cons, ne_eq, not_false_eq_true, not_true_eq_false, false_and, and_false, false_implies, true_implies, reduceIte, mmU_rd, implies_true, or_false, false_or, or_true, true_or]
      refine mT_in ⟨?_, f3⟩
      rw [bI_pos cz]
    rcases q with ⟨rfl, q1, q2⟩ | ⟨rfl, q1, q2⟩
    · simp only [mmK_cut cd_195, q_cons, q_G0, q_GS, q_I1, q_L1, q_A1, q_S0, q_S1, q_SS, q_T0, q_T1, q_TS, q_Kn, q_Ki, q_Kl, q_Kr, q_k0, q_kS, q_rc, q_ps, q_pn, q_aload0, q_getfieldZ, q_if_ne, q_iconst, q_ireturn1, q_iload1, q_iload2, q_iload3, q_iload, q_lconst0, q_lcmp, q_if_eq, q_goto, mmKo_11, mmR32, mmR64, Option.some.injEq, Int.cast_ofNat_Int, and_true, true_and, if_true, if_false, List.length_cons, List.length_nil, Nat.le_refl, Nat.zero_le, Nat.sub_zero, forall_const, reduceCtorEq, Nat.reduceAdd, Nat.reduceSub, Nat.reduceLeDiff, Nat.reduceEqDiff, Int.reduceAdd, Int.reduceNeg, Int.reduceSub, Int.reduceLT, Int.reduceLE, Int.reduceMul, Int.reduceEq, List.drop_zero, List.drop_succ_cons, ne_eq, not_false_eq_true, not_true_eq_false, false_and, and_false, false_implies, true_implies, reduceIte, mmU_rd, implies_true, or_false, false_or, or_true, true_or]
      rw [q1]
      refine ⟨fun c2 => w21 (fun q => c2 (mmCmp_0.mpr q)), fun c2 => ⟨fun _ => ?_, fun c3 => absurd rfl c3⟩⟩
      refine mmC_step ?_
      simp only [cd_195, sg_195_0, sg_195_5, sg_195_21, sg_195_23, sg_195_24, mmK_cut cd_195, q_cons, q_G0, q_GS, q_I1, q_L1, q_A1, q_S0, q_S1, q_SS, q_T0, q_T1, q_TS, q_Kn, q_Ki, q_Kl, q_Kr, q_k0, q_kS, q_rc, q_ps, q_pn, q_aload0, q_getfieldZ, q_if_ne, q_iconst, q_ireturn1, q_iload1, q_iload2, q_iload3, q_iload, q_lconst0, q_lcmp, q_if_eq, q_goto, mmKo_11, mmR32, mmR64, Option.some.injEq, Int.cast_ofNat_Int, and_true, true_and, if_true, if_false, List.length_cons, List.length_nil, Nat.le_refl, Nat.zero_le, Nat.sub_zero, forall_const, reduceCtorEq, Nat.reduceAdd, Nat.reduceSub, Nat.reduceLeDiff, Nat.reduceEqDiff, Int.reduceAdd, Int.reduceNeg, Int.reduceSub, Int.reduceLT, Int.reduceLE, Int.reduceMul, Int.reduceEq, List.drop_zero, List.drop_succ_cons, ne_eq, not_false_eq_true, not_true_eq_false, false_and, and_false, false_implies, true_implies, reduceIte, mmU_rd, implies_true, or_false, false_or, or_true, true_or]
      refine mmC_step ?_
      simp only [cd_195, sg_195_0, sg_195_5, sg_195_21, sg_195_23, sg_195_24, mmK_cut cd_195, q_cons, q_G0, q_GS, q_I1, q_L1, q_A1, q_S0, q_S1, q_SS, q_T0, q_T1, q_TS, q_Kn, q_Ki, q_Kl, q_Kr, q_k0, q_kS, q_rc, q_ps, q_pn, q_aload0, q_getfieldZ, q_if_ne, q_iconst, q_ireturn1, q_iload1, q_iload2, q_iload3, q_iload, q_lconst0, q_lcmp, q_if_eq, q_goto, mmKo_11, mmR32, mmR64, Option.some.injEq, Int.cast_ofNat_Int, and_true, true_and, if_true, if_false, List.length_cons, List.length_nil, Nat.le_refl, Nat.zero_le, Nat.sub_zero, forall_const, reduceCtorEq, Nat.reduceAdd, Nat.reduceSub, Nat.reduceLeDiff, Nat.reduceEqDiff, Int.reduceAdd, Int.reduceNeg, Int.reduceSub, Int.reduceLT, Int.reduceLE, Int.reduceMul, Int.reduceEq, List.drop_zero, List.drop_succ_cons, ne_eq, not_false_eq_true, not_true_eq_false, false_and, and_false, false_implies, true_implies, reduceIte, mmU_rd, implies_true, or_false, false_or, or_true, true_or]
      refine mT_in ⟨?_, f3⟩
      rw [bI_neg (fun q => q (mmCmp_0.mp c2))]
    · simp only [mmK_cut cd_195, q_cons, q_G0, q_GS, q_I1, q_L1, q_A1, q_S0, q_S1, q_SS, q_T0, q_T1, q_TS, q_Kn, q_Ki, q_Kl, q_Kr, q_k0, q_kS, q_rc, q_ps, q_pn, q_aload0, q_getfieldZ, q_if_ne, q_iconst, q_ireturn1, q_iload1, q_iload2, q_iload3, q_iload, q_lconst0, q_lcmp, q_if_eq, q_goto, mmKo_11, mmR32, mmR64, Option.some.injEq, Int.cast_ofNat_Int, and_true, true_and, if_true, if_false, List.length_cons, List.length_nil, Nat.le_refl, Nat.zero_le, Nat.sub_zero, forall_const, reduceCtorEq, Nat.reduceAdd, Nat.reduceSub, Nat.reduceLeDiff, Nat.reduceEqDiff, Int.reduceAdd, Int.reduceNeg, Int.reduceSub, Int.reduceLT, Int.reduceLE, Int.reduceMul, Int.reduceEq, List.drop_zero, List.drop_succ_cons, ne_eq, not_false_eq_true, not_true_eq_false, false_and, and_false, false_implies, true_implies, reduceIte, mmU_rd, implies_true, or_false, false_or, or_true, true_or]
      rw [q1]
      exact ⟨fun _ => w21 (by omega), fun c2 => ⟨fun c3 => absurd c3 (by decide), fun _ => w21 (by omega)⟩⟩
  · have h0 : r 1 2 = 0 := by
      rcases h.2.1 with q | q
      · exact q.2.1
      · have : I 11 0 21 = 1 := q.1
        omega
    refine mT_in ⟨?_, FrW_refl⟩
    rw [lwV_0 h0, bI_pos (by decide)]
end S813
