section S66
variable {d a j : Nat} {I I' : mMm} {br : Nat → Option mmO} {R : Nat → Nat → Int → Option mmO} {X : mmX} {T : Int → Int} {s p o op kn : Int} {P : List Int} {r : mRu} {Q : Option mmV → mmM → Prop}
theorem sgO_in {so va : Int} : sgO so va = -1 ∨ (-21 ≤ sgO so va ∧ sgO so va ≤ -9 ∧ ¬ sgO so va = -11 ∧ ¬ so = 0) := by
  unfold sgO
  repeat' split
  all_goals omega
theorem sg_LI {sign st st' p' op' kn' : Int} {P' : List Int} {r' : mRu} (hs : ¬ sign = 0) (h : sgF T s sign st p P op kn r = .inr (st', p', P', op', kn', r')) (hi : LI P op kn r) : LI P' op' kn' r' ∧ st' = st ∧ p' = tkN T s p := by
  unfold sgF at h
  split at h
  · cases h
  · injection h with h
    simp only [Prod.mk.injEq] at h
    obtain ⟨rfl, rfl, rfl, rfl, rfl, rfl⟩ := h
    obtain ⟨i1, i2, i3, i4, i5⟩ := hi
    refine ⟨⟨?_, i2, i3, ?_, by omega⟩, rfl, rfl⟩
    · show (if sign = 0 then 1 else 0) + nO P = _
      rw [if_neg hs]; omega
    · show _ + ((if sign = 0 then 0 else 1) + nS P) = _
      rw [if_neg hs]; omega
theorem lo_LI {b st' p' op' kn' : Int} {P' : List Int} {r' : mRu} (h : loF T s b p P op kn r = .inr (st', p', P', op', kn', r')) (hi : LI P op kn r) : LI P' op' kn' r' ∧ (st' = 0 ∨ st' = 1 ∨ st' = 2) ∧ p' = tkN T s p ∧ ¬ tkS T s p = 0 := by
  unfold loF at h
  split at h
  · split at h
    · cases h
    · injection h with h
      simp only [Prod.mk.injEq] at h
      obtain ⟨rfl, rfl, rfl, rfl, rfl, rfl⟩ := h
      obtain ⟨i1, i2, i3, i4, i5⟩ := hi
      refine ⟨⟨?_, by omega, i3, ?_, i5⟩, Or.inl rfl, rfl, by omega⟩
      · show (if (0 : Int) = 0 then 1 else 0) + nO P = _
        rw [if_pos rfl]; omega
      · show _ + ((if (0 : Int) = 0 then 0 else 1) + nS P) = _
        rw [if_pos rfl]; omega
  split at h
  · have := sg_LI (by omega) h hi
    exact ⟨this.1, Or.inl this.2.1, this.2.2, by omega⟩
  split at h
  · cases h
  split at h
  · cases h
  · rename_i c1 c2 c3 c4
    injection h with h
    simp only [Prod.mk.injEq] at h
    obtain ⟨rfl, rfl, rfl, rfl, rfl, rfl⟩ := h
    obtain ⟨i1, i2, i3, i4, i5⟩ := hi
    refine ⟨⟨i1, i2, ?_, ?_, by omega⟩, Or.inr (Or.inr rfl), rfl, ?_⟩
    · rw [lad_n]; omega
    · rw [lad_n]; omega
    · intro q
      apply c3
      refine ⟨by omega, ?_⟩
      unfold nmO
      rw [if_neg (by omega)]
theorem lb_LI {st' p' op' kn' : Int} {P' : List Int} {r' : mRu} (h : lbF T s p P op kn r = .inr (st', p', P', op', kn', r')) (hi : LI P op kn r) : LI P' op' kn' r' ∧ ((st' = 3 ∧ p' = p ∧ (tkS T s p = 3 ∧ tkV T s p = 59) ∧ op' = 0 ∧ P' = []) ∨ ((st' = 0 ∨ st' = 1 ∨ st' = 2) ∧ p' = tkN T s p ∧ ¬ tkS T s p = 0)) := by
  unfold lbF at h
  have hs := sgO_in (so := tkS T s p) (va := tkV T s p)
  generalize sgO (tkS T s p) (tkV T s p) = sg at *
  split at h
  · rename_i c
    injection h with h
    simp only [Prod.mk.injEq] at h
    obtain ⟨rfl, rfl, rfl, rfl, rfl, rfl⟩ := h
    have h1 := LI_stl (rank := 1) (by omega) hi
    rcases stl_1 P r with e | ⟨P', e⟩
    · rw [e] at h1
      have : nO [] = (0 : Int) := rfl
      have := h1.1
      omega
    · rw [e] at h1 ⊢
      obtain ⟨i1, i2, i3, i4, i5⟩ := h1
      have e1 : nO (0 :: P') = 1 + nO P' := by
        show (if (0 : Int) = 0 then 1 else 0) + nO P' = _
        rw [if_pos rfl]
      have e2 : nS (0 :: P') = nS P' := by
        show (if (0 : Int) = 0 then 0 else 1) + nS P' = _
        rw [if_pos rfl]; omega
      refine ⟨⟨?_, by omega, i3, ?_, i5⟩, Or.inr ⟨Or.inr (Or.inr rfl), rfl, by omega⟩⟩
      · show nO P' = _
        omega
      · show _ + nS P' = _
        omega
  split at h
  · rename_i c
    injection h with h
    simp only [Prod.mk.injEq] at h
    obtain ⟨rfl, rfl, rfl, rfl, rfl, rfl⟩ := h
    have h1 := LI_stl (rank := 1) (by omega) hi
    refine ⟨h1, Or.inl ⟨rfl, rfl, c.1, c.2, ?_⟩⟩
    rcases stl_1 P r with e | ⟨P', e⟩
    · exact e
    · rw [e] at h1
      have e1 : nO (0 :: P') = 1 + nO P' := by
        show (if (0 : Int) = 0 then 1 else 0) + nO P' = _
        rw [if_pos rfl]
      have := nO_nS P'
      have := h1.1
      omega
  split at h
  · cases h
  split at h
  · have hr := rkF_0 (c := sg) (by omega)
    have := sg_LI (by omega) h (LI_stl (rank := rkF sg) hr.1 hi)
    refine ⟨this.1, Or.inr ⟨?_, this.2.2, by omega⟩⟩
    rw [this.2.1]
    split <;> omega
  split at h
  · cases h
  · have := sg_LI (by omega) h (LI_stl (rank := 5) (by omega) hi)
    exact ⟨this.1, Or.inr ⟨Or.inr (Or.inl this.2.1), this.2.2, by omega⟩⟩
theorem hd_top {g : Int → Int} {P : List Int} (h : PL g P) (hp : 0 < P.length) : rkF (g ((P.length : Int) - 1)) = hdR P := by
  cases P with
  | nil => rw [List.length_nil] at hp; omega
  | cons c P =>
    rw [List.length_cons, show ((P.length + 1 : Nat) : Int) - 1 = P.length by omega, h.1]
    rfl
set_option maxHeartbeats 1000000 in
theorem c_behind (h : CV I T s p r o j) (hl : LVc I P op kn) (hi : LI P op kn r) : mmC (d + 4) 27 [mo 2 0, mo 8 0, mo 1 j] (I, mmRf a br, X) (mT a br X (LSt j I T s o (lbF T s p P op kn r))) := by
  obtain ⟨g1, g2, g3, g4⟩ := id hl
  obtain ⟨i1, i2, i3, i4, i5⟩ := id hi
  have hL := LI_len hi
  have hs := sgO_in (so := tkS T s p) (va := tkV T s p)
  generalize hZ : lbF T s p P op kn r = Z
  unfold lbF at hZ
  have w40 : ¬ ((tkS T s p = 3 ∧ tkV T s p = 41) ∧ 0 < op) → ¬ ((tkS T s p = 3 ∧ tkV T s p = 59) ∧ op = 0) → mmK (d + 3) 27 (mT a br X (LSt j I T s o Z)) 40 [some (mo 2 0), some (mo 8 0), some (mo 1 j), none, none] [] (I, mmRf a br, X) := by
    intro c1 c2
    rw [if_neg c1, if_neg c2] at hZ
    refine mmC_step ?_
    simp only [cd_27, sg_27_0, sg_27_27, sg_27_40, sg_27_51, sg_27_69, sg_27_70, sg_27_72, sg_27_94, mmK_cut cd_27, q_cons, q_G0, q_GS, q_I1, q_L1, q_A1, q_S0, q_S1, q_SS, q_T0, q_T1, q_TS, q_Kn, q_Ki, q_Kl, q_Kr, q_k0, q_kS, q_rc, q_ps, q_pn, q_aload1, q_bipush, q_invV, q_if_eq, q_aload0, q_getfieldI, q_if_le, q_aload2, q_iconst, q_dupI, q_dupA, q_isub, q_putfieldI, q_ireturn0, q_if_ne, q_invS, q_istore3, q_iload3, q_icmp_ne, q_istore, q_iload, q_icmp_eq, q_icmp_gt, q_goto, q_getfieldA, q_iaload, rf_2_0, mmKe_300, mmKo_2, mmKo_8, mmLen_300, mmR32, mmR64, Option.some.injEq, Int.cast_ofNat_Int, and_true, true_and, if_true, if_false, List.length_cons, List.length_nil, Nat.le_refl, Nat.zero_le, Nat.sub_zero, forall_const, reduceCtorEq, Nat.reduceAdd, Nat.reduceSub, Nat.reduceLeDiff, Nat.reduceEqDiff, Int.reduceAdd, Int.reduceNeg, Int.reduceSub, Int.reduceLT, Int.reduceLE, Int.reduceMul, Int.reduceEq, List.drop_zero, List.drop_succ_cons, ne_eq, not_false_eq_true, not_true_eq_false, false_and, and_false, false_implies, true_implies, reduceIte, mmU_rd, implies_true, or_false, false_or, or_true, true_or]
    refine sp_signOf ?_
    rw [CV_so h, CV_va h]
    generalize sgO (tkS T s p) (tkV T s p) = sg at *
    simp only [mmK_cut cd_27, q_cons, q_G0, q_GS, q_I1, q_L1, q_A1, q_S0, q_S1, q_SS, q_T0, q_T1, q_TS, q_Kn, q_Ki, q_Kl, q_Kr, q_k0, q_kS, q_rc, q_ps, q_pn, q_aload1, q_bipush, q_invV, q_if_eq, q_aload0, q_getfieldI, q_if_le, q_aload2, q_iconst, q_dupI, q_dupA, q_isub, q_putfieldI, q_ireturn0, q_if_ne, q_invS, q_istore3, q_iload3, q_icmp_ne, q_istore, q_iload, q_icmp_eq, q_icmp_gt, q_goto, q_getfieldA, q_iaload, rf_2_0, mmKe_300, mmKo_2, mmKo_8, mmLen_300, mmR32, mmR64, Option.some.injEq, Int.cast_ofNat_Int, and_true, true_and, if_true, if_false, List.length_cons, List.length_nil, Nat.le_refl, Nat.zero_le, Nat.sub_zero, forall_const, reduceCtorEq, Nat.reduceAdd, Nat.reduceSub, Nat.reduceLeDiff, Nat.reduceEqDiff, Int.reduceAdd, Int.reduceNeg, Int.reduceSub, Int.reduceLT, Int.reduceLE, Int.reduceMul, Int.reduceEq, List.drop_zero, List.drop_succ_cons, ne_eq, not_false_eq_true, not_true_eq_false, false_and, and_false, false_implies, true_implies, reduceIte, mmU_rd, implies_true, or_false, false_or, or_true, true_or]
    refine ⟨fun c3 => ?_, fun c3 => ?_⟩
    · rw [if_neg c3] at hZ
      have hr := rkF_0 (c := sg) (by omega)
      refine mmC_step ?_
      simp only [cd_27, sg_27_0, sg_27_27, sg_27_40, sg_27_51, sg_27_69, sg_27_70, sg_27_72, sg_27_94, mmK_cut cd_27, q_cons, q_G0, q_GS, q_I1, q_L1, q_A1, q_S0, q_S1, q_SS, q_T0, q_T1, q_TS, q_Kn, q_Ki, q_Kl, q_Kr, q_k0, q_kS, q_rc, q_ps, q_pn, q_aload1, q_bipush, q_invV, q_if_eq, q_aload0, q_getfieldI, q_if_le, q_aload2, q_iconst, q_dupI, q_dupA, q_isub, q_putfieldI, q_ireturn0, q_if_ne, q_invS, q_istore3, q_iload3, q_icmp_ne, q_istore, q_iload, q_icmp_eq, q_icmp_gt, q_goto, q_getfieldA, q_iaload, rf_2_0, mmKe_300, mmKo_2, mmKo_8, mmLen_300, mmR32, mmR64, Option.some.injEq, Int.cast_ofNat_Int, and_true, true_and, if_true, if_false, List.length_cons, List.length_nil, Nat.le_refl, Nat.zero_le, Nat.sub_zero, forall_const, reduceCtorEq, Nat.reduceAdd, Nat.reduceSub, Nat.reduceLeDiff, Nat.reduceEqDiff, Int.reduceAdd, Int.reduceNeg, Int.reduceSub, Int.reduceLT, Int.reduceLE, Int.reduceMul, Int.reduceEq, List.drop_zero, List.drop_succ_cons, ne_eq, not_false_eq_true, not_true_eq_false, false_and, and_false, false_implies, true_implies, reduceIte, mmU_rd, implies_true, or_false, false_or, or_true, true_or]
      refine sp_rankOf ?_
      simp only [mmK_cut cd_27, q_cons, q_G0, q_GS, q_I1, q_L1, q_A1, q_S0, q_S1, q_SS, q_T0, q_T1, q_TS, q_Kn, q_Ki, q_Kl, q_Kr, q_k0, q_kS, q_rc, q_ps, q_pn, q_aload1, q_bipush, q_invV, q_if_eq, q_aload0, q_getfieldI, q_if_le, q_aload2, q_iconst, q_dupI, q_dupA, q_isub, q_putfieldI, q_ireturn0, q_if_ne, q_invS, q_istore3, q_iload3, q_icmp_ne, q_istore, q_iload, q_icmp_eq, q_icmp_gt, q_goto, q_getfieldA, q_iaload, rf_2_0, mmKe_300, mmKo_2, mmKo_8, mmLen_300, mmR32, mmR64, Option.some.injEq, Int.cast_ofNat_Int, and_true, true_and, if_true, if_false, List.length_cons, List.length_nil, Nat.le_refl, Nat.zero_le, Nat.sub_zero, forall_const, reduceCtorEq, Nat.reduceAdd, Nat.reduceSub, Nat.reduceLeDiff, Nat.reduceEqDiff, Int.reduceAdd, Int.reduceNeg, Int.reduceSub, Int.reduceLT, Int.reduceLE, Int.reduceMul, Int.reduceEq, List.drop_zero, List.drop_succ_cons, ne_eq, not_false_eq_true, not_true_eq_false, false_and, and_false, false_implies, true_implies, reduceIte, mmU_rd, implies_true, or_false, false_or, or_true, true_or]
      refine ⟨fun c4 => ?_, fun c4 => ?_⟩
      · rw [if_neg (fun q => q c4)] at hZ
        refine mmC_step ?_
        simp only [cd_27, sg_27_0, sg_27_27, sg_27_40, sg_27_51, sg_27_69, sg_27_70, sg_27_72, sg_27_94, mmK_cut cd_27, q_cons, q_G0, q_GS, q_I1, q_L1, q_A1, q_S0, q_S1, q_SS, q_T0, q_T1, q_TS, q_Kn, q_Ki, q_Kl, q_Kr, q_k0, q_kS, q_rc, q_ps, q_pn, q_aload1, q_bipush, q_invV, q_if_eq, q_aload0, q_getfieldI, q_if_le, q_aload2, q_iconst, q_dupI, q_dupA, q_isub, q_putfieldI, q_ireturn0, q_if_ne, q_invS, q_istore3, q_iload3, q_icmp_ne, q_istore, q_iload, q_icmp_eq, q_icmp_gt, q_goto, q_getfieldA, q_iaload, rf_2_0, mmKe_300, mmKo_2, mmKo_8, mmLen_300, mmR32, mmR64, Option.some.injEq, Int.cast_ofNat_Int, and_true, true_and, if_true, if_false, List.length_cons, List.length_nil, Nat.le_refl, Nat.zero_le, Nat.sub_zero, forall_const, reduceCtorEq, Nat.reduceAdd, Nat.reduceSub, Nat.reduceLeDiff, Nat.reduceEqDiff, Int.reduceAdd, Int.reduceNeg, Int.reduceSub, Int.reduceLT, Int.reduceLE, Int.reduceMul, Int.reduceEq, List.drop_zero, List.drop_succ_cons, ne_eq, not_false_eq_true, not_true_eq_false, false_and, and_false, false_implies, true_implies, reduceIte, mmU_rd, implies_true, or_false, false_or, or_true, true_or]
        refine mT_use (c_settle (rank := 5) (by omega) h hl (by omega) (by omega)) (fun v I1 q => ?_)
        obtain ⟨rfl, fr1, h1, l1⟩ := q
        have hi1 := LI_stl (rank := 5) (by omega) hi
        generalize stl 5 P r = Y at *
        have hL1 := LI_len hi1
        have w94 : ¬ hdR Y.1 = 4 → mmK (d + 3) 27 (mT a br X (LSt j I T s o Z)) 94 [some (mo 2 0), some (mo 8 0), some (mo 1 j), some (mv sg), some (mv (rkF sg))] [] (I1, mmRf a br, X) := by
          intro c5
          rw [if_neg c5] at hZ
          refine mmC_step ?_
          simp only [cd_27, sg_27_0, sg_27_27, sg_27_40, sg_27_51, sg_27_69, sg_27_70, sg_27_72, sg_27_94, mmK_cut cd_27, q_cons, q_G0, q_GS, q_I1, q_L1, q_A1, q_S0, q_S1, q_SS, q_T0, q_T1, q_TS, q_Kn, q_Ki, q_Kl, q_Kr, q_k0, q_kS, q_rc, q_ps, q_pn, q_aload1, q_bipush, q_invV, q_if_eq, q_aload0, q_getfieldI, q_if_le, q_aload2, q_iconst, q_dupI, q_dupA, q_isub, q_putfieldI, q_ireturn0, q_if_ne, q_invS, q_istore3, q_iload3, q_icmp_ne, q_istore, q_iload, q_icmp_eq, q_icmp_gt, q_goto, q_getfieldA, q_iaload, rf_2_0, mmKe_300, mmKo_2, mmKo_8, mmLen_300, mmR32, mmR64, Option.some.injEq, Int.cast_ofNat_Int, and_true, true_and, if_true, if_false, List.length_cons, List.length_nil, Nat.le_refl, Nat.zero_le, Nat.sub_zero, forall_const, reduceCtorEq, Nat.reduceAdd, Nat.reduceSub, Nat.reduceLeDiff, Nat.reduceEqDiff, Int.reduceAdd, Int.reduceNeg, Int.reduceSub, Int.reduceLT, Int.reduceLE, Int.reduceMul, Int.reduceEq, List.drop_zero, List.drop_succ_cons, ne_eq, not_false_eq_true, not_true_eq_false, false_and, and_false, false_implies, true_implies, reduceIte, mmU_rd, implies_true, or_false, false_or, or_true, true_or]
          refine mT_use (c_sign h1 l1 hi1) (fun v I' q => ?_)
          rw [hZ] at q
          rcases q with ⟨e, q1, rfl, q2⟩ | ⟨st', p', P', op', kn', r', q1, rfl, q2, q3⟩
          · simp only [mmK_cut cd_27, q_cons, q_G0, q_GS, q_I1, q_L1, q_A1, q_S0, q_S1, q_SS, q_T0, q_T1, q_TS, q_Kn, q_Ki, q_Kl, q_Kr, q_k0, q_kS, q_rc, q_ps, q_pn, q_aload1, q_bipush, q_invV, q_if_eq, q_aload0, q_getfieldI, q_if_le, q_aload2, q_iconst, q_dupI, q_dupA, q_isub, q_putfieldI, q_ireturn0, q_if_ne, q_invS, q_istore3, q_iload3, q_icmp_ne, q_istore, q_iload, q_icmp_eq, q_icmp_gt, q_goto, q_getfieldA, q_iaload, rf_2_0, mmKe_300, mmKo_2, mmKo_8, mmLen_300, mmR32, mmR64, Option.some.injEq, Int.cast_ofNat_Int, and_true, true_and, if_true, if_false, List.length_cons, List.length_nil, Nat.le_refl, Nat.zero_le, Nat.sub_zero, forall_const, reduceCtorEq, Nat.reduceAdd, Nat.reduceSub, Nat.reduceLeDiff, Nat.reduceEqDiff, Int.reduceAdd, Int.reduceNeg, Int.reduceSub, Int.reduceLT, Int.reduceLE, Int.reduceMul, Int.reduceEq, List.drop_zero, List.drop_succ_cons, ne_eq, not_false_eq_true, not_true_eq_false, false_and, and_false, false_implies, true_implies, reduceIte, mmU_rd, implies_true, or_false, false_or, or_true, true_or]
            exact mT_in (Or.inl ⟨e, q1, rfl, FT_trans fr1 q2⟩)
          · simp only [mmK_cut cd_27, q_cons, q_G0, q_GS, q_I1, q_L1, q_A1, q_S0, q_S1, q_SS, q_T0, q_T1, q_TS, q_Kn, q_Ki, q_Kl, q_Kr, q_k0, q_kS, q_rc, q_ps, q_pn, q_aload1, q_bipush, q_invV, q_if_eq, q_aload0, q_getfieldI, q_if_le, q_aload2, q_iconst, q_dupI, q_dupA, q_isub, q_putfieldI, q_ireturn0, q_if_ne, q_invS, q_istore3, q_iload3, q_icmp_ne, q_istore, q_iload, q_icmp_eq, q_icmp_gt, q_goto, q_getfieldA, q_iaload, rf_2_0, mmKe_300, mmKo_2, mmKo_8, mmLen_300, mmR32, mmR64, Option.some.injEq, Int.cast_ofNat_Int, and_true, true_and, if_true, if_false, List.length_cons, List.length_nil, Nat.le_refl, Nat.zero_le, Nat.sub_zero, forall_const, reduceCtorEq, Nat.reduceAdd, Nat.reduceSub, Nat.reduceLeDiff, Nat.reduceEqDiff, Int.reduceAdd, Int.reduceNeg, Int.reduceSub, Int.reduceLT, Int.reduceLE, Int.reduceMul, Int.reduceEq, List.drop_zero, List.drop_succ_cons, ne_eq, not_false_eq_true, not_true_eq_false, false_and, and_false, false_implies, true_implies, reduceIte, mmU_rd, implies_true, or_false, false_or, or_true, true_or]
            exact mT_in (Or.inr ⟨st', p', P', op', kn', r', q1, rfl, FrC_trans fr1 q2, q3⟩)
        simp only [mmK_cut cd_27, q_cons, q_G0, q_GS, q_I1, q_L1, q_A1, q_S0, q_S1, q_SS, q_T0, q_T1, q_TS, q_Kn, q_Ki, q_Kl, q_Kr, q_k0, q_kS, q_rc, q_ps, q_pn, q_aload1, q_bipush, q_invV, q_if_eq, q_aload0, q_getfieldI, q_if_le, q_aload2, q_iconst, q_dupI, q_dupA, q_isub, q_putfieldI, q_ireturn0, q_if_ne, q_invS, q_istore3, q_iload3, q_icmp_ne, q_istore, q_iload, q_icmp_eq, q_icmp_gt, q_goto, q_getfieldA, q_iaload, rf_2_0, mmKe_300, mmKo_2, mmKo_8, mmLen_300, mmR32, mmR64, Option.some.injEq, Int.cast_ofNat_Int, and_true, true_and, if_true, if_false, List.length_cons, List.length_nil, Nat.le_refl, Nat.zero_le, Nat.sub_zero, forall_const, reduceCtorEq, Nat.reduceAdd, Nat.reduceSub, Nat.reduceLeDiff, Nat.reduceEqDiff, Int.reduceAdd, Int.reduceNeg, Int.reduceSub, Int.reduceLT, Int.reduceLE, Int.reduceMul, Int.reduceEq, List.drop_zero, List.drop_succ_cons, ne_eq, not_false_eq_true, not_true_eq_false, false_and, and_false, false_implies, true_implies, reduceIte, mmU_rd, implies_true, or_false, false_or, or_true, true_or]
        obtain ⟨k1, k2, k3, k4⟩ := id l1
        rw [k1]
        refine ⟨fun c5 => w94 ?_, fun c5 => ⟨by omega, by omega, by omega, ?_⟩⟩
        · have : Y.1 = [] := List.eq_nil_of_length_eq_zero (by omega)
          rw [this]
          show ¬ (0 : Int) = 4
          omega
        · refine sp_rankOf ?_
          rw [hd_top k4 (by omega)]
          simp only [mmK_cut cd_27, q_cons, q_G0, q_GS, q_I1, q_L1, q_A1, q_S0, q_S1, q_SS, q_T0, q_T1, q_TS, q_Kn, q_Ki, q_Kl, q_Kr, q_k0, q_kS, q_rc, q_ps, q_pn, q_aload1, q_bipush, q_invV, q_if_eq, q_aload0, q_getfieldI, q_if_le, q_aload2, q_iconst, q_dupI, q_dupA, q_isub, q_putfieldI, q_ireturn0, q_if_ne, q_invS, q_istore3, q_iload3, q_icmp_ne, q_istore, q_iload, q_icmp_eq, q_icmp_gt, q_goto, q_getfieldA, q_iaload, rf_2_0, mmKe_300, mmKo_2, mmKo_8, mmLen_300, mmR32, mmR64, Option.some.injEq, Int.cast_ofNat_Int, and_true, true_and, if_true, if_false, List.length_cons, List.length_nil, Nat.le_refl, Nat.zero_le, Nat.sub_zero, forall_const, reduceCtorEq, Nat.reduceAdd, Nat.reduceSub, Nat.reduceLeDiff, Nat.reduceEqDiff, Int.reduceAdd, Int.reduceNeg, Int.reduceSub, Int.reduceLT, Int.reduceLE, Int.reduceMul, Int.reduceEq, List.drop_zero, List.drop_succ_cons, ne_eq, not_false_eq_true, not_true_eq_false, false_and, and_false, false_implies, true_implies, reduceIte, mmU_rd, implies_true, or_false, false_or, or_true, true_or]
          refine ⟨fun c6 => w94 c6, fun c6 => ?_⟩
          rw [if_pos c6] at hZ
          refine mT_use (c_fail h1) (fun v I' q => ?_)
          obtain ⟨rfl, q1⟩ := q
          simp only [mmK_cut cd_27, q_cons, q_G0, q_GS, q_I1, q_L1, q_A1, q_S0, q_S1, q_SS, q_T0, q_T1, q_TS, q_Kn, q_Ki, q_Kl, q_Kr, q_k0, q_kS, q_rc, q_ps, q_pn, q_aload1, q_bipush, q_invV, q_if_eq, q_aload0, q_getfieldI, q_if_le, q_aload2, q_iconst, q_dupI, q_dupA, q_isub, q_putfieldI, q_ireturn0, q_if_ne, q_invS, q_istore3, q_iload3, q_icmp_ne, q_istore, q_iload, q_icmp_eq, q_icmp_gt, q_goto, q_getfieldA, q_iaload, rf_2_0, mmKe_300, mmKo_2, mmKo_8, mmLen_300, mmR32, mmR64, Option.some.injEq, Int.cast_ofNat_Int, and_true, true_and, if_true, if_false, List.length_cons, List.length_nil, Nat.le_refl, Nat.zero_le, Nat.sub_zero, forall_const, reduceCtorEq, Nat.reduceAdd, Nat.reduceSub, Nat.reduceLeDiff, Nat.reduceEqDiff, Int.reduceAdd, Int.reduceNeg, Int.reduceSub, Int.reduceLT, Int.reduceLE, Int.reduceMul, Int.reduceEq, List.drop_zero, List.drop_succ_cons, ne_eq, not_false_eq_true, not_true_eq_false, false_and, and_false, false_implies, true_implies, reduceIte, mmU_rd, implies_true, or_false, false_or, or_true, true_or]
          exact mT_in (Or.inl ⟨_, hZ.symm, rfl, FT_trans fr1 q1⟩)
      · rw [if_pos c4] at hZ
        refine mT_use (c_settle (rank := rkF sg) hr.1 h hl (by omega) (by omega)) (fun v I1 q => ?_)
        obtain ⟨rfl, fr1, h1, l1⟩ := q
        have hi1 := LI_stl (rank := rkF sg) hr.1 hi
        have w70 : ∀ x, x = (if rkF sg ≤ 2 then 0 else 1) → mmK (d + 3) 27 (mT a br X (LSt j I T s o Z)) 70 [some (mo 2 0), some (mo 8 0), some (mo 1 j), some (mv sg), some (mv (rkF sg))] [mv x, mv sg, mo 8 0, mo 2 0] (I1, mmRf a br, X) := by
          intro x hx
          rw [← hx] at hZ
          refine mmC_step ?_
          simp only [cd_27, sg_27_0, sg_27_27, sg_27_40, sg_27_51, sg_27_69, sg_27_70, sg_27_72, sg_27_94, mmK_cut cd_27, q_cons, q_G0, q_GS, q_I1, q_L1, q_A1, q_S0, q_S1, q_SS, q_T0, q_T1, q_TS, q_Kn, q_Ki, q_Kl, q_Kr, q_k0, q_kS, q_rc, q_ps, q_pn, q_aload1, q_bipush, q_invV, q_if_eq, q_aload0, q_getfieldI, q_if_le, q_aload2, q_iconst, q_dupI, q_dupA, q_isub, q_putfieldI, q_ireturn0, q_if_ne, q_invS, q_istore3, q_iload3, q_icmp_ne, q_istore, q_iload, q_icmp_eq, q_icmp_gt, q_goto, q_getfieldA, q_iaload, rf_2_0, mmKe_300, mmKo_2, mmKo_8, mmLen_300, mmR32, mmR64, Option.some.injEq, Int.cast_ofNat_Int, and_true, true_and, if_true, if_false, List.length_cons, List.length_nil, Nat.le_refl, Nat.zero_le, Nat.sub_zero, forall_const, reduceCtorEq, Nat.reduceAdd, Nat.reduceSub, Nat.reduceLeDiff, Nat.reduceEqDiff, Int.reduceAdd, Int.reduceNeg, Int.reduceSub, Int.reduceLT, Int.reduceLE, Int.reduceMul, Int.reduceEq, List.drop_zero, List.drop_succ_cons, ne_eq, not_false_eq_true, not_true_eq_false, false_and, and_false, false_implies, true_implies, reduceIte, mmU_rd, implies_true, or_false, false_or, or_true, true_or]
          refine mT_use (c_sign h1 l1 hi1) (fun v I' q => ?_)
          rw [hZ] at q
          rcases q with ⟨e, q1, rfl, q2⟩ | ⟨st', p', P', op', kn', r', q1, rfl, q2, q3⟩
          · simp only [mmK_cut cd_27, q_cons, q_G0, q_GS, q_I1, q_L1, q_A1, q_S0, q_S1, q_SS, q_T0, q_T1, q_TS, q_Kn, q_Ki, q_Kl, q_Kr, q_k0, q_kS, q_rc, q_ps, q_pn, q_aload1, q_bipush, q_invV, q_if_eq, q_aload0, q_getfieldI, q_if_le, q_aload2, q_iconst, q_dupI, q_dupA, q_isub, q_putfieldI, q_ireturn0, q_if_ne, q_invS, q_istore3, q_iload3, q_icmp_ne, q_istore, q_iload, q_icmp_eq, q_icmp_gt, q_goto, q_getfieldA, q_iaload, rf_2_0, mmKe_300, mmKo_2, mmKo_8, mmLen_300, mmR32, mmR64, Option.some.injEq, Int.cast_ofNat_Int, and_true, true_and, if_true, if_false, List.length_cons, List.length_nil, Nat.le_refl, Nat.zero_le, Nat.sub_zero, forall_const, reduceCtorEq, Nat.reduceAdd, Nat.reduceSub, Nat.reduceLeDiff, Nat.reduceEqDiff, Int.reduceAdd, Int.reduceNeg, Int.reduceSub, Int.reduceLT, Int.reduceLE, Int.reduceMul, Int.reduceEq, List.drop_zero, List.drop_succ_cons, ne_eq, not_false_eq_true, not_true_eq_false, false_and, and_false, false_implies, true_implies, reduceIte, mmU_rd, implies_true, or_false, false_or, or_true, true_or]
            exact mT_in (Or.inl ⟨e, q1, rfl, FT_trans fr1 q2⟩)
          · simp only [mmK_cut cd_27, q_cons, q_G0, q_GS, q_I1, q_L1, q_A1, q_S0, q_S1, q_SS, q_T0, q_T1, q_TS, q_Kn, q_Ki, q_Kl, q_Kr, q_k0, q_kS, q_rc, q_ps, q_pn, q_aload1, q_bipush, q_invV, q_if_eq, q_aload0, q_getfieldI, q_if_le, q_aload2, q_iconst, q_dupI, q_dupA, q_isub, q_putfieldI, q_ireturn0, q_if_ne, q_invS, q_istore3, q_iload3, q_icmp_ne, q_istore, q_iload, q_icmp_eq, q_icmp_gt, q_goto, q_getfieldA, q_iaload, rf_2_0, mmKe_300, mmKo_2, mmKo_8, mmLen_300, mmR32, mmR64, Option.some.injEq, Int.cast_ofNat_Int, and_true, true_and, if_true, if_false, List.length_cons, List.length_nil, Nat.le_refl, Nat.zero_le, Nat.sub_zero, forall_const, reduceCtorEq, Nat.reduceAdd, Nat.reduceSub, Nat.reduceLeDiff, Nat.reduceEqDiff, Int.reduceAdd, Int.reduceNeg, Int.reduceSub, Int.reduceLT, Int.reduceLE, Int.reduceMul, Int.reduceEq, List.drop_zero, List.drop_succ_cons, ne_eq, not_false_eq_true, not_true_eq_false, false_and, and_false, false_implies, true_implies, reduceIte, mmU_rd, implies_true, or_false, false_or, or_true, true_or]
            exact mT_in (Or.inr ⟨st', p', P', op', kn', r', q1, rfl, FrC_trans fr1 q2, q3⟩)
        simp only [mmK_cut cd_27, q_cons, q_G0, q_GS, q_I1, q_L1, q_A1, q_S0, q_S1, q_SS, q_T0, q_T1, q_TS, q_Kn, q_Ki, q_Kl, q_Kr, q_k0, q_kS, q_rc, q_ps, q_pn, q_aload1, q_bipush, q_invV, q_if_eq, q_aload0, q_getfieldI, q_if_le, q_aload2, q_iconst, q_dupI, q_dupA, q_isub, q_putfieldI, q_ireturn0, q_if_ne, q_invS, q_istore3, q_iload3, q_icmp_ne, q_istore, q_iload, q_icmp_eq, q_icmp_gt, q_goto, q_getfieldA, q_iaload, rf_2_0, mmKe_300, mmKo_2, mmKo_8, mmLen_300, mmR32, mmR64, Option.some.injEq, Int.cast_ofNat_Int, and_true, true_and, if_true, if_false, List.length_cons, List.length_nil, Nat.le_refl, Nat.zero_le, Nat.sub_zero, forall_const, reduceCtorEq, Nat.reduceAdd, Nat.reduceSub, Nat.reduceLeDiff, Nat.reduceEqDiff, Int.reduceAdd, Int.reduceNeg, Int.reduceSub, Int.reduceLT, Int.reduceLE, Int.reduceMul, Int.reduceEq, List.drop_zero, List.drop_succ_cons, ne_eq, not_false_eq_true, not_true_eq_false, false_and, and_false, false_implies, true_implies, reduceIte, mmU_rd, implies_true, or_false, false_or, or_true, true_or]
        refine ⟨fun c5 => ?_, fun c5 => ?_⟩
        · refine mmC_step ?_
          simp only [cd_27, sg_27_0, sg_27_27, sg_27_40, sg_27_51, sg_27_69, sg_27_70, sg_27_72, sg_27_94, mmK_cut cd_27, q_cons, q_G0, q_GS, q_I1, q_L1, q_A1, q_S0, q_S1, q_SS, q_T0, q_T1, q_TS, q_Kn, q_Ki, q_Kl, q_Kr, q_k0, q_kS, q_rc, q_ps, q_pn, q_aload1, q_bipush, q_invV, q_if_eq, q_aload0, q_getfieldI, q_if_le, q_aload2, q_iconst, q_dupI, q_dupA, q_isub, q_putfieldI, q_ireturn0, q_if_ne, q_invS, q_istore3, q_iload3, q_icmp_ne, q_istore, q_iload, q_icmp_eq, q_icmp_gt, q_goto, q_getfieldA, q_iaload, rf_2_0, mmKe_300, mmKo_2, mmKo_8, mmLen_300, mmR32, mmR64, Option.some.injEq, Int.cast_ofNat_Int, and_true, true_and, if_true, if_false, List.length_cons, List.length_nil, Nat.le_refl, Nat.zero_le, Nat.sub_zero, forall_const, reduceCtorEq, Nat.reduceAdd, Nat.reduceSub, Nat.reduceLeDiff, Nat.reduceEqDiff, Int.reduceAdd, Int.reduceNeg, Int.reduceSub, Int.reduceLT, Int.reduceLE, Int.reduceMul, Int.reduceEq, List.drop_zero, List.drop_succ_cons, ne_eq, not_false_eq_true, not_true_eq_false, false_and, and_false, false_implies, true_implies, reduceIte, mmU_rd, implies_true, or_false, false_or, or_true, true_or]
          exact w70 _ (by rw [if_neg (by omega)])
        · exact w70 _ (by rw [if_pos (by omega)])
    · rw [if_pos c3] at hZ
      refine mT_use (c_fail h) (fun v I' q => ?_)
      obtain ⟨rfl, q1⟩ := q
      simp only [mmK_cut cd_27, q_cons, q_G0, q_GS, q_I1, q_L1, q_A1, q_S0, q_S1, q_SS, q_T0, q_T1, q_TS, q_Kn, q_Ki, q_Kl, q_Kr, q_k0, q_kS, q_rc, q_ps, q_pn, q_aload1, q_bipush, q_invV, q_if_eq, q_aload0, q_getfieldI, q_if_le, q_aload2, q_iconst, q_dupI, q_dupA, q_isub, q_putfieldI, q_ireturn0, q_if_ne, q_invS, q_istore3, q_iload3, q_icmp_ne, q_istore, q_iload, q_icmp_eq, q_icmp_gt, q_goto, q_getfieldA, q_iaload, rf_2_0, mmKe_300, mmKo_2, mmKo_8, mmLen_300, mmR32, mmR64, Option.some.injEq, Int.cast_ofNat_Int, and_true, true_and, if_true, if_false, List.length_cons, List.length_nil, Nat.le_refl, Nat.zero_le, Nat.sub_zero, forall_const, reduceCtorEq, Nat.reduceAdd, Nat.reduceSub, Nat.reduceLeDiff, Nat.reduceEqDiff, Int.reduceAdd, Int.reduceNeg, Int.reduceSub, Int.reduceLT, Int.reduceLE, Int.reduceMul, Int.reduceEq, List.drop_zero, List.drop_succ_cons, ne_eq, not_false_eq_true, not_true_eq_false, false_and, and_false, false_implies, true_implies, reduceIte, mmU_rd, implies_true, or_false, false_or, or_true, true_or]
      exact mT_in (Or.inl ⟨_, hZ.symm, rfl, q1⟩)
  have w27 : ¬ ((tkS T s p = 3 ∧ tkV T s p = 41) ∧ 0 < op) → mmK (d + 3) 27 (mT a br X (LSt j I T s o Z)) 27 [some (mo 2 0), some (mo 8 0), some (mo 1 j), none, none] [] (I, mmRf a br, X) := by
    intro c1
    refine mmC_step ?_
    simp only [cd_27, sg_27_0, sg_27_27, sg_27_40, sg_27_51, sg_27_69, sg_27_70, sg_27_72, sg_27_94, mmK_cut cd_27, q_cons, q_G0, q_GS, q_I1, q_L1, q_A1, q_S0, q_S1, q_SS, q_T0, q_T1, q_TS, q_Kn, q_Ki, q_Kl, q_Kr, q_k0, q_kS, q_rc, q_ps, q_pn, q_aload1, q_bipush, q_invV, q_if_eq, q_aload0, q_getfieldI, q_if_le, q_aload2, q_iconst, q_dupI, q_dupA, q_isub, q_putfieldI, q_ireturn0, q_if_ne, q_invS, q_istore3, q_iload3, q_icmp_ne, q_istore, q_iload, q_icmp_eq, q_icmp_gt, q_goto, q_getfieldA, q_iaload, rf_2_0, mmKe_300, mmKo_2, mmKo_8, mmLen_300, mmR32, mmR64, Option.some.injEq, Int.cast_ofNat_Int, and_true, true_and, if_true, if_false, List.length_cons, List.length_nil, Nat.le_refl, Nat.zero_le, Nat.sub_zero, forall_const, reduceCtorEq, Nat.reduceAdd, Nat.reduceSub, Nat.reduceLeDiff, Nat.reduceEqDiff, Int.reduceAdd, Int.reduceNeg, Int.reduceSub, Int.reduceLT, Int.reduceLE, Int.reduceMul, Int.reduceEq, List.drop_zero, List.drop_succ_cons, ne_eq, not_false_eq_true, not_true_eq_false, false_and, and_false, false_implies, true_implies, reduceIte, mmU_rd, implies_true, or_false, false_or, or_true, true_or]
    refine sp_isSign ?_
    rw [CV_so h, CV_va h]
    simp only [mmK_cut cd_27, q_cons, q_G0, q_GS, q_I1, q_L1, q_A1, q_S0, q_S1, q_SS, q_T0, q_T1, q_TS, q_Kn, q_Ki, q_Kl, q_Kr, q_k0, q_kS, q_rc, q_ps, q_pn, q_aload1, q_bipush, q_invV, q_if_eq, q_aload0, q_getfieldI, q_if_le, q_aload2, q_iconst, q_dupI, q_dupA, q_isub, q_putfieldI, q_ireturn0, q_if_ne, q_invS, q_istore3, q_iload3, q_icmp_ne, q_istore, q_iload, q_icmp_eq, q_icmp_gt, q_goto, q_getfieldA, q_iaload, rf_2_0, mmKe_300, mmKo_2, mmKo_8, mmLen_300, mmR32, mmR64, Option.some.injEq, Int.cast_ofNat_Int, and_true, true_and, if_true, if_false, List.length_cons, List.length_nil, Nat.le_refl, Nat.zero_le, Nat.sub_zero, forall_const, reduceCtorEq, Nat.reduceAdd, Nat.reduceSub, Nat.reduceLeDiff, Nat.reduceEqDiff, Int.reduceAdd, Int.reduceNeg, Int.reduceSub, Int.reduceLT, Int.reduceLE, Int.reduceMul, Int.reduceEq, List.drop_zero, List.drop_succ_cons, ne_eq, not_false_eq_true, not_true_eq_false, false_and, and_false, false_implies, true_implies, reduceIte, mmU_rd, implies_true, or_false, false_or, or_true, true_or, bI_eq0]
    refine ⟨fun c2 => w40 c1 (fun q => c2 q.1), fun c2 => ?_⟩
    rw [g2]
    refine ⟨fun c3 => w40 c1 (fun q => c3 q.2), fun c3 => ?_⟩
    rw [if_neg c1, if_pos ⟨Classical.not_not.mp c2, c3⟩] at hZ
    refine mT_use (c_settle (rank := 1) (by omega) h hl (by omega) (by omega)) (fun v I1 q => ?_)
    obtain ⟨rfl, fr1, h1, l1⟩ := q
    simp only [mmK_cut cd_27, q_cons, q_G0, q_GS, q_I1, q_L1, q_A1, q_S0, q_S1, q_SS, q_T0, q_T1, q_TS, q_Kn, q_Ki, q_Kl, q_Kr, q_k0, q_kS, q_rc, q_ps, q_pn, q_aload1, q_bipush, q_invV, q_if_eq, q_aload0, q_getfieldI, q_if_le, q_aload2, q_iconst, q_dupI, q_dupA, q_isub, q_putfieldI, q_ireturn0, q_if_ne, q_invS, q_istore3, q_iload3, q_icmp_ne, q_istore, q_iload, q_icmp_eq, q_icmp_gt, q_goto, q_getfieldA, q_iaload, rf_2_0, mmKe_300, mmKo_2, mmKo_8, mmLen_300, mmR32, mmR64, Option.some.injEq, Int.cast_ofNat_Int, and_true, true_and, if_true, if_false, List.length_cons, List.length_nil, Nat.le_refl, Nat.zero_le, Nat.sub_zero, forall_const, reduceCtorEq, Nat.reduceAdd, Nat.reduceSub, Nat.reduceLeDiff, Nat.reduceEqDiff, Int.reduceAdd, Int.reduceNeg, Int.reduceSub, Int.reduceLT, Int.reduceLE, Int.reduceMul, Int.reduceEq, List.drop_zero, List.drop_succ_cons, ne_eq, not_false_eq_true, not_true_eq_false, false_and, and_false, false_implies, true_implies, reduceIte, mmU_rd, implies_true, or_false, false_or, or_true, true_or]
    exact mT_in (Or.inr ⟨_, _, _, _, _, _, hZ.symm, rfl, fr1, h1, l1⟩)
  refine mmC_in (by decide) (Nat.le_of_ble_eq_true rfl) (mmC_step ?_)
  simp only [show mmMl 27 = 5 from rfl, mmLs, List.replicate, cd_27, sg_27_0, sg_27_27, sg_27_40, sg_27_51, sg_27_69, sg_27_70, sg_27_72, sg_27_94, mmK_cut cd_27, q_cons, q_G0, q_GS, q_I1, q_L1, q_A1, q_S0, q_S1, q_SS, q_T0, q_T1, q_TS, q_Kn, q_Ki, q_Kl, q_Kr, q_k0, q_kS, q_rc, q_ps, q_pn, q_aload1, q_bipush, q_invV, q_if_eq, q_aload0, q_getfieldI, q_if_le, q_aload2, q_iconst, q_dupI, q_dupA, q_isub, q_putfieldI, q_ireturn0, q_if_ne, q_invS, q_istore3, q_iload3, q_icmp_ne, q_istore, q_iload, q_icmp_eq, q_icmp_gt, q_goto, q_getfieldA, q_iaload, rf_2_0, mmKe_300, mmKo_2, mmKo_8, mmLen_300, mmR32, mmR64, Option.some.injEq, Int.cast_ofNat_Int, and_true, true_and, if_true, if_false, List.length_cons, List.length_nil, Nat.le_refl, Nat.zero_le, Nat.sub_zero, forall_const, reduceCtorEq, Nat.reduceAdd, Nat.reduceSub, Nat.reduceLeDiff, Nat.reduceEqDiff, Int.reduceAdd, Int.reduceNeg, Int.reduceSub, Int.reduceLT, Int.reduceLE, Int.reduceMul, Int.reduceEq, List.drop_zero, List.drop_succ_cons, ne_eq, not_false_eq_true, not_true_eq_false, false_and, and_false, false_implies, true_implies, reduceIte, mmU_rd, implies_true, or_false, false_or, or_true, true_or]
  refine sp_isSign ?_
  rw [CV_so h, CV_va h]
  simp only [mmK_cut cd_27, q_cons, q_G0, q_GS, q_I1, q_L1, q_A1, q_S0, q_S1, q_SS, q_T0, q_T1, q_TS, q_Kn, q_Ki, q_Kl, q_Kr, q_k0, q_kS, q_rc, q_ps, q_pn, q_aload1, q_bipush, q_invV, q_if_eq, q_aload0, q_getfieldI, q_if_le, q_aload2, q_iconst, q_dupI, q_dupA, q_isub, q_putfieldI, q_ireturn0, q_if_ne, q_invS, q_istore3, q_iload3, q_icmp_ne, q_istore, q_iload, q_icmp_eq, q_icmp_gt, q_goto, q_getfieldA, q_iaload, rf_2_0, mmKe_300, mmKo_2, mmKo_8, mmLen_300, mmR32, mmR64, Option.some.injEq, Int.cast_ofNat_Int, and_true, true_and, if_true, if_false, List.length_cons, List.length_nil, Nat.le_refl, Nat.zero_le, Nat.sub_zero, forall_const, reduceCtorEq, Nat.reduceAdd, Nat.reduceSub, Nat.reduceLeDiff, Nat.reduceEqDiff, Int.reduceAdd, Int.reduceNeg, Int.reduceSub, Int.reduceLT, Int.reduceLE, Int.reduceMul, Int.reduceEq, List.drop_zero, List.drop_succ_cons, ne_eq, not_false_eq_true, not_true_eq_false, false_and, and_false, false_implies, true_implies, reduceIte, mmU_rd, implies_true, or_false, false_or, or_true, true_or, bI_eq0]
  refine ⟨fun c2 => w27 (fun q => c2 q.1), fun c2 => ?_⟩
  rw [g2]
  refine ⟨fun c3 => w27 (fun q => by omega), fun c3 => ?_⟩
  rw [if_pos ⟨Classical.not_not.mp c2, by omega⟩] at hZ
  refine mT_use (c_settle (rank := 1) (by omega) h hl (by omega) (by omega)) (fun v I1 q => ?_)
  obtain ⟨rfl, fr1, h1, l1⟩ := q
  have hi1 := LI_stl (rank := 1) (by omega) hi
  rcases stl_1 P r with e | ⟨P', e⟩
  · rw [e] at hi1
    have : nO [] = (0 : Int) := rfl
    have := hi1.1
    omega
  · rw [e] at hi1 l1 hZ
    have hL1 := LI_len hi1
    obtain ⟨k1, k2, k3, k4⟩ := id l1
    rw [List.length_cons] at k1 hL1
    simp only [mmK_cut cd_27, q_cons, q_G0, q_GS, q_I1, q_L1, q_A1, q_S0, q_S1, q_SS, q_T0, q_T1, q_TS, q_Kn, q_Ki, q_Kl, q_Kr, q_k0, q_kS, q_rc, q_ps, q_pn, q_aload1, q_bipush, q_invV, q_if_eq, q_aload0, q_getfieldI, q_if_le, q_aload2, q_iconst, q_dupI, q_dupA, q_isub, q_putfieldI, q_ireturn0, q_if_ne, q_invS, q_istore3, q_iload3, q_icmp_ne, q_istore, q_iload, q_icmp_eq, q_icmp_gt, q_goto, q_getfieldA, q_iaload, rf_2_0, mmKe_300, mmKo_2, mmKo_8, mmLen_300, mmR32, mmR64, Option.some.injEq, Int.cast_ofNat_Int, and_true, true_and, if_true, if_false, List.length_cons, List.length_nil, Nat.le_refl, Nat.zero_le, Nat.sub_zero, forall_const, reduceCtorEq, Nat.reduceAdd, Nat.reduceSub, Nat.reduceLeDiff, Nat.reduceEqDiff, Int.reduceAdd, Int.reduceNeg, Int.reduceSub, Int.reduceLT, Int.reduceLE, Int.reduceMul, Int.reduceEq, List.drop_zero, List.drop_succ_cons, ne_eq, not_false_eq_true, not_true_eq_false, false_and, and_false, false_implies, true_implies, reduceIte, mmU_rd, implies_true, or_false, false_or, or_true, true_or]
    rw [k1, k2]
    refine ⟨by omega, by omega, ?_⟩
    refine mT_use (c_adv8 (CV_x (t := 2) (by omega) (CV_x (t := 2) (by omega) h1))) (fun v I2 q => ?_)
    obtain ⟨rfl, fr2, h2, f8⟩ := q
    simp only [mmK_cut cd_27, q_cons, q_G0, q_GS, q_I1, q_L1, q_A1, q_S0, q_S1, q_SS, q_T0, q_T1, q_TS, q_Kn, q_Ki, q_Kl, q_Kr, q_k0, q_kS, q_rc, q_ps, q_pn, q_aload1, q_bipush, q_invV, q_if_eq, q_aload0, q_getfieldI, q_if_le, q_aload2, q_iconst, q_dupI, q_dupA, q_isub, q_putfieldI, q_ireturn0, q_if_ne, q_invS, q_istore3, q_iload3, q_icmp_ne, q_istore, q_iload, q_icmp_eq, q_icmp_gt, q_goto, q_getfieldA, q_iaload, rf_2_0, mmKe_300, mmKo_2, mmKo_8, mmLen_300, mmR32, mmR64, Option.some.injEq, Int.cast_ofNat_Int, and_true, true_and, if_true, if_false, List.length_cons, List.length_nil, Nat.le_refl, Nat.zero_le, Nat.sub_zero, forall_const, reduceCtorEq, Nat.reduceAdd, Nat.reduceSub, Nat.reduceLeDiff, Nat.reduceEqDiff, Int.reduceAdd, Int.reduceNeg, Int.reduceSub, Int.reduceLT, Int.reduceLE, Int.reduceMul, Int.reduceEq, List.drop_zero, List.drop_succ_cons, ne_eq, not_false_eq_true, not_true_eq_false, false_and, and_false, false_implies, true_implies, reduceIte, mmU_rd, implies_true, or_false, false_or, or_true, true_or]
    refine mT_in (Or.inr ⟨_, _, _, _, _, _, hZ.symm, rfl, FrC_trans (FrC_trans (FrC_trans fr1 (FrC_x (by omega))) (FrC_x (by omega))) fr2, h2, ?_⟩)
    refine ⟨?_, ?_, ?_, ?_⟩
    · rw [f8 _ _ _ (by omega)]
      show ((P'.length + 1 : Nat) : Int) - 1 = (P'.length : Int)
      omega
    · rw [f8 _ _ _ (by omega)]; rfl
    · rw [f8 _ _ _ (by omega)]; exact k3
    · exact PL_ext (fun k _ _ => by rw [f8 _ _ _ (by omega)]; rfl) k4.2
end S66
def lwF (T : Int → Int) (s : Int) : Nat → Int → Int → List Int → Int → Int → mRu → mPR (Int × mRu)
  | 0, _, _, _, _, _, _ => .inl (0, 0)
  | f + 1, st, p, P, op, kn, r => pB (if st = 2 then lbF T s p P op kn r else loF T s (if st = 0 then 1 else 0) p P op kn r) fun x => if x.1 = 3 then .inr (x.2.1, x.2.2.2.2.2) else lwF T s f x.1 x.2.1 x.2.2.1 x.2.2.2.1 x.2.2.2.2.1 x.2.2.2.2.2
theorem lwF_s {T : Int → Int} {s st p op kn : Int} {P : List Int} {r : mRu} {f : Nat} : lwF T s (f + 1) st p P op kn r = pB (if st = 2 then lbF T s p P op kn r else loF T s (if st = 0 then 1 else 0) p P op kn r) fun x => if x.1 = 3 then .inr (x.2.1, x.2.2.2.2.2) else lwF T s f x.1 x.2.1 x.2.2.1 x.2.2.2.1 x.2.2.2.2.1 x.2.2.2.2.2 := rfl
section S66b
variable {d a j : Nat} {I I' : mMm} {br : Nat → Option mmO} {R : Nat → Nat → Int → Option mmO} {X : mmX} {T : Int → Int} {s p o op kn : Int} {P : List Int} {r : mRu} {Q : Option mmV → mmM → Prop}
set_option maxHeartbeats 1000000 in
theorem c_law (h : CV I T s p r o j) (h0 : r 1 2 = 0) : mmC (d + 5) 24 [mo 2 0, mo 8 0, mo 1 j] (I, mmRf a br, X) (mT a br X (SP j I T s o (lwF T s 701 0 p [] 0 0 r))) := by
  generalize hZ : lwF T s 701 0 p [] 0 0 r = Z
  have key : ∀ (f : Nat) (i st p1 : Int) (P : List Int) (op kn : Int) (r1 : mRu) (I1 : mMm), i + f = 701 → 0 ≤ i → i ≤ p1 → (st = 0 ∨ st = 1 ∨ st = 2) → FrC j I I1 → CV I1 T s p1 r1 o j → LVc I1 P op kn → LI P op kn r1 → lwF T s f st p1 P op kn r1 = Z → mmK (d + 4) 24 (mT a br X (SP j I T s o Z)) 13 [some (mo 2 0), some (mo 8 0), some (mo 1 j), some (mv st), some (mv i)] [] (I1, mmRf a br, X) := by
    intro f
    induction f with
    | zero =>
      intro i st p1 P op kn r1 I1 h1 h2 h3 h4 fr hc hl hi hz
      have := hc.2.2.2.2.2
      omega
    | succ f ih =>
      intro i st p1 P op kn r1 I1 h1 h2 h3 h4 fr hc hl hi hz
      have hp := hc.2.2.2.2.2
      have hn := tk_next (T := T) (s := s) (p := p1) (by omega)
      rw [lwF_s] at hz
      have w42 : ∀ (st i : Int) (x : Option mmV) (I2 : mMm), (st = 3 → mT a br X (SP j I T s o Z) (some (mv 1)) (I2, mmRf a br, X)) → (¬ st = 3 → mT a br X (SP j I T s o Z) (some (mv 0)) (I2, mmRf a br, X)) → mmK (d + 4) 24 (mT a br X (SP j I T s o Z)) 42 [some (mo 2 0), some (mo 8 0), some (mo 1 j), some (mv st), some (mv i)] [] (I2, mmRf a br, X) := by
        intro st i x I2 q1 q2
        refine mmC_step ?_
        simp only [cd_24, sg_24_0, sg_24_13, sg_24_30, sg_24_37, sg_24_38, sg_24_39, sg_24_42, sg_24_47, sg_24_48, mmK_cut cd_24, q_cons, q_G0, q_GS, q_I1, q_L1, q_A1, q_S0, q_S1, q_SS, q_T0, q_T1, q_TS, q_Kn, q_Ki, q_Kl, q_Kr, q_k0, q_kS, q_rc, q_ps, q_pn, q_aload0, q_iconst, q_putfieldI, q_istore3, q_istore, q_iload, q_sipush, q_icmp_gt, q_iload3, q_icmp_eq, q_icmp_ne, q_aload1, q_aload2, q_invV, q_goto, q_if_ne, q_iinc, q_ireturn1, mmKo_2, mmR32, mmR64, Option.some.injEq, Int.cast_ofNat_Int, and_true, true_and, if_true, if_false, List.length_cons, List.length_nil, Nat.le_refl, Nat.zero_le, Nat.sub_zero, forall_const, reduceCtorEq, Nat.reduceAdd, Nat.reduceSub, Nat.reduceLeDiff, Nat.reduceEqDiff, Int.reduceAdd, Int.reduceNeg, Int.reduceSub, Int.reduceLT, Int.reduceLE, Int.reduceMul, Int.reduceEq, List.drop_zero, List.drop_succ_cons, ne_eq, not_false_eq_true, not_true_eq_false, false_and, and_false, false_implies, true_implies, reduceIte, mmU_rd, implies_true, or_false, false_or, or_true, true_or]
        refine ⟨fun c => ?_, fun c => ?_⟩
        · refine mmC_step ?_
          simp only [cd_24, sg_24_0, sg_24_13, sg_24_30, sg_24_37, sg_24_38, sg_24_39, sg_24_42, sg_24_47, sg_24_48, mmK_cut cd_24, q_cons, q_G0, q_GS, q_I1, q_L1, q_A1, q_S0, q_S1, q_SS, q_T0, q_T1, q_TS, q_Kn, q_Ki, q_Kl, q_Kr, q_k0, q_kS, q_rc, q_ps, q_pn, q_aload0, q_iconst, q_putfieldI, q_istore3, q_istore, q_iload, q_sipush, q_icmp_gt, q_iload3, q_icmp_eq, q_icmp_ne, q_aload1, q_aload2, q_invV, q_goto, q_if_ne, q_iinc, q_ireturn1, mmKo_2, mmR32, mmR64, Option.some.injEq, Int.cast_ofNat_Int, and_true, true_and, if_true, if_false, List.length_cons, List.length_nil, Nat.le_refl, Nat.zero_le, Nat.sub_zero, forall_const, reduceCtorEq, Nat.reduceAdd, Nat.reduceSub, Nat.reduceLeDiff, Nat.reduceEqDiff, Int.reduceAdd, Int.reduceNeg, Int.reduceSub, Int.reduceLT, Int.reduceLE, Int.reduceMul, Int.reduceEq, List.drop_zero, List.drop_succ_cons, ne_eq, not_false_eq_true, not_true_eq_false, false_and, and_false, false_implies, true_implies, reduceIte, mmU_rd, implies_true, or_false, false_or, or_true, true_or]
          refine mmC_step ?_
          simp only [cd_24, sg_24_0, sg_24_13, sg_24_30, sg_24_37, sg_24_38, sg_24_39, sg_24_42, sg_24_47, sg_24_48, mmK_cut cd_24, q_cons, q_G0, q_GS, q_I1, q_L1, q_A1, q_S0, q_S1, q_SS, q_T0, q_T1, q_TS, q_Kn, q_Ki, q_Kl, q_Kr, q_k0, q_kS, q_rc, q_ps, q_pn, q_aload0, q_iconst, q_putfieldI, q_istore3, q_istore, q_iload, q_sipush, q_icmp_gt, q_iload3, q_icmp_eq, q_icmp_ne, q_aload1, q_aload2, q_invV, q_goto, q_if_ne, q_iinc, q_ireturn1, mmKo_2, mmR32, mmR64, Option.some.injEq, Int.cast_ofNat_Int, and_true, true_and, if_true, if_false, List.length_cons, List.length_nil, Nat.le_refl, Nat.zero_le, Nat.sub_zero, forall_const, reduceCtorEq, Nat.reduceAdd, Nat.reduceSub, Nat.reduceLeDiff, Nat.reduceEqDiff, Int.reduceAdd, Int.reduceNeg, Int.reduceSub, Int.reduceLT, Int.reduceLE, Int.reduceMul, Int.reduceEq, List.drop_zero, List.drop_succ_cons, ne_eq, not_false_eq_true, not_true_eq_false, false_and, and_false, false_implies, true_implies, reduceIte, mmU_rd, implies_true, or_false, false_or, or_true, true_or]
          exact q2 c
        · refine mmC_step ?_
          simp only [cd_24, sg_24_0, sg_24_13, sg_24_30, sg_24_37, sg_24_38, sg_24_39, sg_24_42, sg_24_47, sg_24_48, mmK_cut cd_24, q_cons, q_G0, q_GS, q_I1, q_L1, q_A1, q_S0, q_S1, q_SS, q_T0, q_T1, q_TS, q_Kn, q_Ki, q_Kl, q_Kr, q_k0, q_kS, q_rc, q_ps, q_pn, q_aload0, q_iconst, q_putfieldI, q_istore3, q_istore, q_iload, q_sipush, q_icmp_gt, q_iload3, q_icmp_eq, q_icmp_ne, q_aload1, q_aload2, q_invV, q_goto, q_if_ne, q_iinc, q_ireturn1, mmKo_2, mmR32, mmR64, Option.some.injEq, Int.cast_ofNat_Int, and_true, true_and, if_true, if_false, List.length_cons, List.length_nil, Nat.le_refl, Nat.zero_le, Nat.sub_zero, forall_const, reduceCtorEq, Nat.reduceAdd, Nat.reduceSub, Nat.reduceLeDiff, Nat.reduceEqDiff, Int.reduceAdd, Int.reduceNeg, Int.reduceSub, Int.reduceLT, Int.reduceLE, Int.reduceMul, Int.reduceEq, List.drop_zero, List.drop_succ_cons, ne_eq, not_false_eq_true, not_true_eq_false, false_and, and_false, false_implies, true_implies, reduceIte, mmU_rd, implies_true, or_false, false_or, or_true, true_or]
          exact q1 c
      have w39 : ∀ (x : mLS) (v : Option mmV) (I2 : mMm), LSt j I1 T s o x v I2 → pB x (fun x => if x.1 = 3 then .inr (x.2.1, x.2.2.2.2.2) else lwF T s f x.1 x.2.1 x.2.2.1 x.2.2.2.1 x.2.2.2.2.1 x.2.2.2.2.2) = Z → (∀ st' p' P' op' kn' r', x = .inr (st', p', P', op', kn', r') → LI P' op' kn' r' ∧ (st' = 3 ∨ ((st' = 0 ∨ st' = 1 ∨ st' = 2) ∧ p' = tkN T s p1 ∧ ¬ tkS T s p1 = 0))) → ∃ z, v = some (mv z) ∧ mmK (d + 4) 24 (mT a br X (SP j I T s o Z)) 39 [some (mo 2 0), some (mo 8 0), some (mo 1 j), some (mv st), some (mv i)] [mv z] (I2, mmRf a br, X) := by
        intro x v I2 q hx hL
        rcases q with ⟨e, q1, rfl, q2⟩ | ⟨st', p', P', op', kn', r', q1, rfl, q2, q3, q4⟩
        · refine ⟨4, rfl, ?_⟩
          rw [q1, pB_l] at hx
          refine mmC_step ?_
          simp only [cd_24, sg_24_0, sg_24_13, sg_24_30, sg_24_37, sg_24_38, sg_24_39, sg_24_42, sg_24_47, sg_24_48, mmK_cut cd_24, q_cons, q_G0, q_GS, q_I1, q_L1, q_A1, q_S0, q_S1, q_SS, q_T0, q_T1, q_TS, q_Kn, q_Ki, q_Kl, q_Kr, q_k0, q_kS, q_rc, q_ps, q_pn, q_aload0, q_iconst, q_putfieldI, q_istore3, q_istore, q_iload, q_sipush, q_icmp_gt, q_iload3, q_icmp_eq, q_icmp_ne, q_aload1, q_aload2, q_invV, q_goto, q_if_ne, q_iinc, q_ireturn1, mmKo_2, mmR32, mmR64, Option.some.injEq, Int.cast_ofNat_Int, and_true, true_and, if_true, if_false, List.length_cons, List.length_nil, Nat.le_refl, Nat.zero_le, Nat.sub_zero, forall_const, reduceCtorEq, Nat.reduceAdd, Nat.reduceSub, Nat.reduceLeDiff, Nat.reduceEqDiff, Int.reduceAdd, Int.reduceNeg, Int.reduceSub, Int.reduceLT, Int.reduceLE, Int.reduceMul, Int.reduceEq, List.drop_zero, List.drop_succ_cons, ne_eq, not_false_eq_true, not_true_eq_false, false_and, and_false, false_implies, true_implies, reduceIte, mmU_rd, implies_true, or_false, false_or, or_true, true_or]
          refine ⟨by omega, ?_⟩
          refine mmC_step ?_
          simp only [cd_24, sg_24_0, sg_24_13, sg_24_30, sg_24_37, sg_24_38, sg_24_39, sg_24_42, sg_24_47, sg_24_48, mmK_cut cd_24, q_cons, q_G0, q_GS, q_I1, q_L1, q_A1, q_S0, q_S1, q_SS, q_T0, q_T1, q_TS, q_Kn, q_Ki, q_Kl, q_Kr, q_k0, q_kS, q_rc, q_ps, q_pn, q_aload0, q_iconst, q_putfieldI, q_istore3, q_istore, q_iload, q_sipush, q_icmp_gt, q_iload3, q_icmp_eq, q_icmp_ne, q_aload1, q_aload2, q_invV, q_goto, q_if_ne, q_iinc, q_ireturn1, mmKo_2, mmR32, mmR64, Option.some.injEq, Int.cast_ofNat_Int, and_true, true_and, if_true, if_false, List.length_cons, List.length_nil, Nat.le_refl, Nat.zero_le, Nat.sub_zero, forall_const, reduceCtorEq, Nat.reduceAdd, Nat.reduceSub, Nat.reduceLeDiff, Nat.reduceEqDiff, Int.reduceAdd, Int.reduceNeg, Int.reduceSub, Int.reduceLT, Int.reduceLE, Int.reduceMul, Int.reduceEq, List.drop_zero, List.drop_succ_cons, ne_eq, not_false_eq_true, not_true_eq_false, false_and, and_false, false_implies, true_implies, reduceIte, mmU_rd, implies_true, or_false, false_or, or_true, true_or]
          refine ⟨fun c => ?_, fun c => ?_⟩
          · refine w42 4 _ none I2 (fun q => by omega) (fun _ => mT_in (Or.inl ⟨e, hx.symm, rfl, FT_trans fr q2⟩))
          · refine w42 4 _ none I2 (fun q => by omega) (fun _ => mT_in (Or.inl ⟨e, hx.symm, rfl, FT_trans fr q2⟩))
        · refine ⟨st', rfl, ?_⟩
          rw [q1, pB_r] at hx
          have hL := hL _ _ _ _ _ _ q1
          refine mmC_step ?_
          simp only [cd_24, sg_24_0, sg_24_13, sg_24_30, sg_24_37, sg_24_38, sg_24_39, sg_24_42, sg_24_47, sg_24_48, mmK_cut cd_24, q_cons, q_G0, q_GS, q_I1, q_L1, q_A1, q_S0, q_S1, q_SS, q_T0, q_T1, q_TS, q_Kn, q_Ki, q_Kl, q_Kr, q_k0, q_kS, q_rc, q_ps, q_pn, q_aload0, q_iconst, q_putfieldI, q_istore3, q_istore, q_iload, q_sipush, q_icmp_gt, q_iload3, q_icmp_eq, q_icmp_ne, q_aload1, q_aload2, q_invV, q_goto, q_if_ne, q_iinc, q_ireturn1, mmKo_2, mmR32, mmR64, Option.some.injEq, Int.cast_ofNat_Int, and_true, true_and, if_true, if_false, List.length_cons, List.length_nil, Nat.le_refl, Nat.zero_le, Nat.sub_zero, forall_const, reduceCtorEq, Nat.reduceAdd, Nat.reduceSub, Nat.reduceLeDiff, Nat.reduceEqDiff, Int.reduceAdd, Int.reduceNeg, Int.reduceSub, Int.reduceLT, Int.reduceLE, Int.reduceMul, Int.reduceEq, List.drop_zero, List.drop_succ_cons, ne_eq, not_false_eq_true, not_true_eq_false, false_and, and_false, false_implies, true_implies, reduceIte, mmU_rd, implies_true, or_false, false_or, or_true, true_or]
          refine ⟨by omega, ?_⟩
          by_cases c3 : st' = 3
          · rw [if_pos c3] at hx
            refine mmC_step ?_
            simp only [cd_24, sg_24_0, sg_24_13, sg_24_30, sg_24_37, sg_24_38, sg_24_39, sg_24_42, sg_24_47, sg_24_48, mmK_cut cd_24, q_cons, q_G0, q_GS, q_I1, q_L1, q_A1, q_S0, q_S1, q_SS, q_T0, q_T1, q_TS, q_Kn, q_Ki, q_Kl, q_Kr, q_k0, q_kS, q_rc, q_ps, q_pn, q_aload0, q_iconst, q_putfieldI, q_istore3, q_istore, q_iload, q_sipush, q_icmp_gt, q_iload3, q_icmp_eq, q_icmp_ne, q_aload1, q_aload2, q_invV, q_goto, q_if_ne, q_iinc, q_ireturn1, mmKo_2, mmR32, mmR64, Option.some.injEq, Int.cast_ofNat_Int, and_true, true_and, if_true, if_false, List.length_cons, List.length_nil, Nat.le_refl, Nat.zero_le, Nat.sub_zero, forall_const, reduceCtorEq, Nat.reduceAdd, Nat.reduceSub, Nat.reduceLeDiff, Nat.reduceEqDiff, Int.reduceAdd, Int.reduceNeg, Int.reduceSub, Int.reduceLT, Int.reduceLE, Int.reduceMul, Int.reduceEq, List.drop_zero, List.drop_succ_cons, ne_eq, not_false_eq_true, not_true_eq_false, false_and, and_false, false_implies, true_implies, reduceIte, mmU_rd, implies_true, or_false, false_or, or_true, true_or]
            refine ⟨fun c => ?_, fun c => ⟨fun c => ?_, fun c => by omega⟩⟩
            · exact w42 _ _ none I2 (fun _ => mT_in (Or.inr ⟨p', r', hx.symm, rfl, FrC_trans fr q2, q3⟩)) (fun q => absurd c3 q)
            · exact w42 _ _ none I2 (fun _ => mT_in (Or.inr ⟨p', r', hx.symm, rfl, FrC_trans fr q2, q3⟩)) (fun q => absurd c3 q)
          · rw [if_neg c3] at hx
            have hL2 := hL.2.resolve_left c3
            have := hn.2.1 hL2.2.2
            exact ih (i + 1) st' p' P' op' kn' r' I2 (by omega) (by omega) (by omega) hL2.1 (FrC_trans fr q2) q3 q4 hL.1 hx
      refine mmC_step ?_
      simp only [cd_24, sg_24_0, sg_24_13, sg_24_30, sg_24_37, sg_24_38, sg_24_39, sg_24_42, sg_24_47, sg_24_48, mmK_cut cd_24, q_cons, q_G0, q_GS, q_I1, q_L1, q_A1, q_S0, q_S1, q_SS, q_T0, q_T1, q_TS, q_Kn, q_Ki, q_Kl, q_Kr, q_k0, q_kS, q_rc, q_ps, q_pn, q_aload0, q_iconst, q_putfieldI, q_istore3, q_istore, q_iload, q_sipush, q_icmp_gt, q_iload3, q_icmp_eq, q_icmp_ne, q_aload1, q_aload2, q_invV, q_goto, q_if_ne, q_iinc, q_ireturn1, mmKo_2, mmR32, mmR64, Option.some.injEq, Int.cast_ofNat_Int, and_true, true_and, if_true, if_false, List.length_cons, List.length_nil, Nat.le_refl, Nat.zero_le, Nat.sub_zero, forall_const, reduceCtorEq, Nat.reduceAdd, Nat.reduceSub, Nat.reduceLeDiff, Nat.reduceEqDiff, Int.reduceAdd, Int.reduceNeg, Int.reduceSub, Int.reduceLT, Int.reduceLE, Int.reduceMul, Int.reduceEq, List.drop_zero, List.drop_succ_cons, ne_eq, not_false_eq_true, not_true_eq_false, false_and, and_false, false_implies, true_implies, reduceIte, mmU_rd, implies_true, or_false, false_or, or_true, true_or]
      refine ⟨fun c => by omega, fun c => ⟨fun c => by omega, fun _ => ⟨fun c => by omega, fun _ => ⟨fun c => ?_, fun c => ?_⟩⟩⟩⟩
      · rw [if_neg c] at hz
        have w38 : ∀ b, b = (if st = 0 then (1 : Int) else 0) → mmK (d + 4) 24 (mT a br X (SP j I T s o Z)) 38 [some (mo 2 0), some (mo 8 0), some (mo 1 j), some (mv st), some (mv i)] [mv b, mo 1 j, mo 8 0, mo 2 0] (I1, mmRf a br, X) := by
          intro b hb
          rw [← hb] at hz
          refine mmC_step ?_
          simp only [cd_24, sg_24_0, sg_24_13, sg_24_30, sg_24_37, sg_24_38, sg_24_39, sg_24_42, sg_24_47, sg_24_48, mmK_cut cd_24, q_cons, q_G0, q_GS, q_I1, q_L1, q_A1, q_S0, q_S1, q_SS, q_T0, q_T1, q_TS, q_Kn, q_Ki, q_Kl, q_Kr, q_k0, q_kS, q_rc, q_ps, q_pn, q_aload0, q_iconst, q_putfieldI, q_istore3, q_istore, q_iload, q_sipush, q_icmp_gt, q_iload3, q_icmp_eq, q_icmp_ne, q_aload1, q_aload2, q_invV, q_goto, q_if_ne, q_iinc, q_ireturn1, mmKo_2, mmR32, mmR64, Option.some.injEq, Int.cast_ofNat_Int, and_true, true_and, if_true, if_false, List.length_cons, List.length_nil, Nat.le_refl, Nat.zero_le, Nat.sub_zero, forall_const, reduceCtorEq, Nat.reduceAdd, Nat.reduceSub, Nat.reduceLeDiff, Nat.reduceEqDiff, Int.reduceAdd, Int.reduceNeg, Int.reduceSub, Int.reduceLT, Int.reduceLE, Int.reduceMul, Int.reduceEq, List.drop_zero, List.drop_succ_cons, ne_eq, not_false_eq_true, not_true_eq_false, false_and, and_false, false_implies, true_implies, reduceIte, mmU_rd, implies_true, or_false, false_or, or_true, true_or]
          refine mT_use (c_operand hc hl hi) (fun v I2 q => ?_)
          obtain ⟨z, rfl, q2⟩ := w39 _ _ _ q hz (fun st' p' P' op' kn' r' e => by
            have := lo_LI e hi
            exact ⟨this.1, Or.inr this.2⟩)
          simp only [mmK_cut cd_24, q_cons, q_G0, q_GS, q_I1, q_L1, q_A1, q_S0, q_S1, q_SS, q_T0, q_T1, q_TS, q_Kn, q_Ki, q_Kl, q_Kr, q_k0, q_kS, q_rc, q_ps, q_pn, q_aload0, q_iconst, q_putfieldI, q_istore3, q_istore, q_iload, q_sipush, q_icmp_gt, q_iload3, q_icmp_eq, q_icmp_ne, q_aload1, q_aload2, q_invV, q_goto, q_if_ne, q_iinc, q_ireturn1, mmKo_2, mmR32, mmR64, Option.some.injEq, Int.cast_ofNat_Int, and_true, true_and, if_true, if_false, List.length_cons, List.length_nil, Nat.le_refl, Nat.zero_le, Nat.sub_zero, forall_const, reduceCtorEq, Nat.reduceAdd, Nat.reduceSub, Nat.reduceLeDiff, Nat.reduceEqDiff, Int.reduceAdd, Int.reduceNeg, Int.reduceSub, Int.reduceLT, Int.reduceLE, Int.reduceMul, Int.reduceEq, List.drop_zero, List.drop_succ_cons, ne_eq, not_false_eq_true, not_true_eq_false, false_and, and_false, false_implies, true_implies, reduceIte, mmU_rd, implies_true, or_false, false_or, or_true, true_or]
          exact q2
        refine mmC_step ?_
        simp only [cd_24, sg_24_0, sg_24_13, sg_24_30, sg_24_37, sg_24_38, sg_24_39, sg_24_42, sg_24_47, sg_24_48, mmK_cut cd_24, q_cons, q_G0, q_GS, q_I1, q_L1, q_A1, q_S0, q_S1, q_SS, q_T0, q_T1, q_TS, q_Kn, q_Ki, q_Kl, q_Kr, q_k0, q_kS, q_rc, q_ps, q_pn, q_aload0, q_iconst, q_putfieldI, q_istore3, q_istore, q_iload, q_sipush, q_icmp_gt, q_iload3, q_icmp_eq, q_icmp_ne, q_aload1, q_aload2, q_invV, q_goto, q_if_ne, q_iinc, q_ireturn1, mmKo_2, mmR32, mmR64, Option.some.injEq, Int.cast_ofNat_Int, and_true, true_and, if_true, if_false, List.length_cons, List.length_nil, Nat.le_refl, Nat.zero_le, Nat.sub_zero, forall_const, reduceCtorEq, Nat.reduceAdd, Nat.reduceSub, Nat.reduceLeDiff, Nat.reduceEqDiff, Int.reduceAdd, Int.reduceNeg, Int.reduceSub, Int.reduceLT, Int.reduceLE, Int.reduceMul, Int.reduceEq, List.drop_zero, List.drop_succ_cons, ne_eq, not_false_eq_true, not_true_eq_false, false_and, and_false, false_implies, true_implies, reduceIte, mmU_rd, implies_true, or_false, false_or, or_true, true_or]
        refine ⟨fun c2 => ?_, fun c2 => ?_⟩
        · refine mmC_step ?_
          simp only [cd_24, sg_24_0, sg_24_13, sg_24_30, sg_24_37, sg_24_38, sg_24_39, sg_24_42, sg_24_47, sg_24_48, mmK_cut cd_24, q_cons, q_G0, q_GS, q_I1, q_L1, q_A1, q_S0, q_S1, q_SS, q_T0, q_T1, q_TS, q_Kn, q_Ki, q_Kl, q_Kr, q_k0, q_kS, q_rc, q_ps, q_pn, q_aload0, q_iconst, q_putfieldI, q_istore3, q_istore, q_iload, q_sipush, q_icmp_gt, q_iload3, q_icmp_eq, q_icmp_ne, q_aload1, q_aload2, q_invV, q_goto, q_if_ne, q_iinc, q_ireturn1, mmKo_2, mmR32, mmR64, Option.some.injEq, Int.cast_ofNat_Int, and_true, true_and, if_true, if_false, List.length_cons, List.length_nil, Nat.le_refl, Nat.zero_le, Nat.sub_zero, forall_const, reduceCtorEq, Nat.reduceAdd, Nat.reduceSub, Nat.reduceLeDiff, Nat.reduceEqDiff, Int.reduceAdd, Int.reduceNeg, Int.reduceSub, Int.reduceLT, Int.reduceLE, Int.reduceMul, Int.reduceEq, List.drop_zero, List.drop_succ_cons, ne_eq, not_false_eq_true, not_true_eq_false, false_and, and_false, false_implies, true_implies, reduceIte, mmU_rd, implies_true, or_false, false_or, or_true, true_or]
          exact w38 _ (by rw [if_neg c2])
        · exact w38 _ (by rw [if_pos c2])
      · rw [if_pos c] at hz
        refine mT_use (c_behind hc hl hi) (fun v I2 q => ?_)
        obtain ⟨z, rfl, q2⟩ := w39 _ _ _ q hz (fun st' p' P' op' kn' r' e => by
          have := lb_LI e hi
          refine ⟨this.1, this.2.imp (fun q => q.1) id⟩)
        simp only [mmK_cut cd_24, q_cons, q_G0, q_GS, q_I1, q_L1, q_A1, q_S0, q_S1, q_SS, q_T0, q_T1, q_TS, q_Kn, q_Ki, q_Kl, q_Kr, q_k0, q_kS, q_rc, q_ps, q_pn, q_aload0, q_iconst, q_putfieldI, q_istore3, q_istore, q_iload, q_sipush, q_icmp_gt, q_iload3, q_icmp_eq, q_icmp_ne, q_aload1, q_aload2, q_invV, q_goto, q_if_ne, q_iinc, q_ireturn1, mmKo_2, mmR32, mmR64, Option.some.injEq, Int.cast_ofNat_Int, and_true, true_and, if_true, if_false, List.length_cons, List.length_nil, Nat.le_refl, Nat.zero_le, Nat.sub_zero, forall_const, reduceCtorEq, Nat.reduceAdd, Nat.reduceSub, Nat.reduceLeDiff, Nat.reduceEqDiff, Int.reduceAdd, Int.reduceNeg, Int.reduceSub, Int.reduceLT, Int.reduceLE, Int.reduceMul, Int.reduceEq, List.drop_zero, List.drop_succ_cons, ne_eq, not_false_eq_true, not_true_eq_false, false_and, and_false, false_implies, true_implies, reduceIte, mmU_rd, implies_true, or_false, false_or, or_true, true_or]
        exact q2
  refine mmC_in (by decide) (Nat.le_of_ble_eq_true rfl) (mmC_step ?_)
  simp only [show mmMl 24 = 5 from rfl, mmLs, List.replicate, cd_24, sg_24_0, sg_24_13, sg_24_30, sg_24_37, sg_24_38, sg_24_39, sg_24_42, sg_24_47, sg_24_48, mmK_cut cd_24, q_cons, q_G0, q_GS, q_I1, q_L1, q_A1, q_S0, q_S1, q_SS, q_T0, q_T1, q_TS, q_Kn, q_Ki, q_Kl, q_Kr, q_k0, q_kS, q_rc, q_ps, q_pn, q_aload0, q_iconst, q_putfieldI, q_istore3, q_istore, q_iload, q_sipush, q_icmp_gt, q_iload3, q_icmp_eq, q_icmp_ne, q_aload1, q_aload2, q_invV, q_goto, q_if_ne, q_iinc, q_ireturn1, mmKo_2, mmR32, mmR64, Option.some.injEq, Int.cast_ofNat_Int, and_true, true_and, if_true, if_false, List.length_cons, List.length_nil, Nat.le_refl, Nat.zero_le, Nat.sub_zero, forall_const, reduceCtorEq, Nat.reduceAdd, Nat.reduceSub, Nat.reduceLeDiff, Nat.reduceEqDiff, Int.reduceAdd, Int.reduceNeg, Int.reduceSub, Int.reduceLT, Int.reduceLE, Int.reduceMul, Int.reduceEq, List.drop_zero, List.drop_succ_cons, ne_eq, not_false_eq_true, not_true_eq_false, false_and, and_false, false_implies, true_implies, reduceIte, mmU_rd, implies_true, or_false, false_or, or_true, true_or]
  refine key 701 0 0 p [] 0 0 r _ (by omega) (by omega) h.2.2.2.2.2.1 (by omega) (FrC_trans (FrC_trans (FrC_x (by omega)) (FrC_x (by omega))) (FrC_x (by omega))) (CV_x (by omega) (CV_x (by omega) (CV_x (by omega) h))) ⟨rfl, rfl, rfl, trivial⟩ ⟨rfl, by omega, by omega, ?_, by omega⟩ hZ
  rw [h0]; rfl
end S66b
