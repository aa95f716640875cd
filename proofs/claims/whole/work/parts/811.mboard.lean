def mB (v : Int) : Int := if v = -2 then -1 else v
def MB (I : mMm) (b : Int) (B : mBd) : Prop := ∀ z, 0 ≤ z → z < 25 → I 1259 0 (25 * b + z) = mB (B z)
theorem cS_pts {r : mRu} {B : mBd} {w : Int} (hB : BW r B) (hw : w = 0 ∨ w = 1) {p : Nat} (hp : (p : Int) = r 6 0 * r 6 1) : ∀ q : Nat, p + q ≤ 25 → cS B w (p + q) = cS B w p
  | 0, _ => rfl
  | q + 1, h => by
    have ih := cS_pts hB hw hp q (by omega)
    have hz := hB.1 ((p + q : Nat) : Int) (by omega) (by omega)
    have e : B ((p + q : Nat) : Int) = -2 := by omega
    show cS B w (p + q) + oS (B ((p + q : Nat) : Int)) w = _
    rw [ih, e, oS_2 hw]; omega
section S811
variable {d a : Nat} {I I' I'' : mMm} {br : Nat → Option mmO} {R : Nat → Nat → Int → Option mmO} {X : mmX} {B : mBd} {m fr b : Int} {r : mRu} {Q : Option mmV → mmM → Prop}
theorem RK_0 (h : RK r I) : I 11 0 12 = r 6 0 := h.1.1.1
theorem RK_1 (h : RK r I) : I 11 0 13 = r 6 1 := h.1.1.2.1
theorem m_points (h : RK r I) (hQ : Q (some (mv (r 6 0 * r 6 1))) (I, mmRf a br, X)) : mmC (d + 1) 189 [mo 11 0] (I, mmRf a br, X) Q := by
  have hw := h.2.2
  have h1 := pt_in hw.1 hw.2.1 (x := 0) (y := 0) (by have := hw.1; omega) (by have := hw.2.1; omega)
  have h2 : 0 ≤ r 6 0 * r 6 1 := Int.mul_nonneg (by have := hw.1; omega) (by have := hw.2.1; omega)
  refine mmC_in (by decide) (Nat.le_of_ble_eq_true rfl) (mmC_step ?_)
  simp only [show mmMl 189 = 1 from rfl, mmLs, List.replicate, cd_189, sg_189_0, mmK_cut cd_189, q_cons, q_G0, q_GS, q_I1, q_L1, q_A1, q_S0, q_S1, q_SS, q_T0, q_T1, q_TS, q_Kn, q_Ki, q_Kl, q_Kr, q_k0, q_kS, q_rc, q_ps, q_pn, q_aload0, q_getfieldI, q_imul, q_ireturn0, mmKo_11, mmR32, mmR64, Option.some.injEq, Int.cast_ofNat_Int, and_true, true_and, if_true, if_false, List.length_cons, List.length_nil, Nat.le_refl, Nat.zero_le, Nat.sub_zero, forall_const, reduceCtorEq, Nat.reduceAdd, Nat.reduceSub, Nat.reduceLeDiff, Nat.reduceEqDiff, Int.reduceAdd, Int.reduceNeg, Int.reduceSub, Int.reduceLT, Int.reduceLE, Int.reduceMul, Int.reduceEq, List.drop_zero, List.drop_succ_cons, ne_eq, not_false_eq_true, not_true_eq_false, false_and, and_false, false_implies, true_implies, reduceIte, mmU_rd, implies_true, or_false, false_or, or_true, true_or]
  rw [RK_0 h, RK_1 h]
  exact ⟨by omega, hQ⟩
theorem m_isOwn {z w : Int} (hM : MB I b B) (hB : BW r B) (hb : 0 ≤ b ∧ b < 72) (hz : 0 ≤ z ∧ z < 25) (hw : w = 0 ∨ w = 1) (hQ : Q (some (mv (bI (B z / 4 = w)))) (I, mmRf a br, X)) : mmC (d + 2) 190 [mo 11 0, mv b, mv z, mv w] (I, mmRf a br, X) Q := by
  have e := hM z hz.1 hz.2
  have hv := hB.1 z hz.1 hz.2
  have w21 : ¬ B z / 4 = w → mmK (d + 1) 190 Q 21 [some (mo 11 0), some (mv b), some (mv z), some (mv w)] [] (I, mmRf a br, X) := by
    intro c
    refine mmC_step ?_
    simp only [cd_190, sg_190_0, sg_190_21, sg_190_22, mmK_cut cd_190, q_cons, q_G0, q_GS, q_I1, q_L1, q_A1, q_S0, q_S1, q_SS, q_T0, q_T1, q_TS, q_Kn, q_Ki, q_Kl, q_Kr, q_k0, q_kS, q_rc, q_ps, q_pn, q_aload0, q_getfieldA, q_iload1, q_iload2, q_iadd, q_iaload, q_if_lt, q_iconst, q_idiv, q_iload3, q_icmp_ne, q_goto, q_ireturn1, rf_11_59, mmKe_1259, mmKo_11, mmLen_1259, mmR32, mmR64, Option.some.injEq, Int.cast_ofNat_Int, and_true, true_and, if_true, if_false, List.length_cons, List.length_nil, Nat.le_refl, Nat.zero_le, Nat.sub_zero, forall_const, reduceCtorEq, Nat.reduceAdd, Nat.reduceSub, Nat.reduceLeDiff, Nat.reduceEqDiff, Int.reduceAdd, Int.reduceNeg, Int.reduceSub, Int.reduceLT, Int.reduceLE, Int.reduceMul, Int.reduceEq, List.drop_zero, List.drop_succ_cons, ne_eq, not_false_eq_true, not_true_eq_false, false_and, and_false, false_implies, true_implies, reduceIte, mmU_rd, implies_true, or_false, false_or, or_true, true_or]
    refine mmC_step ?_
    simp only [cd_190, sg_190_0, sg_190_21, sg_190_22, mmK_cut cd_190, q_cons, q_G0, q_GS, q_I1, q_L1, q_A1, q_S0, q_S1, q_SS, q_T0, q_T1, q_TS, q_Kn, q_Ki, q_Kl, q_Kr, q_k0, q_kS, q_rc, q_ps, q_pn, q_aload0, q_getfieldA, q_iload1, q_iload2, q_iadd, q_iaload, q_if_lt, q_iconst, q_idiv, q_iload3, q_icmp_ne, q_goto, q_ireturn1, rf_11_59, mmKe_1259, mmKo_11, mmLen_1259, mmR32, mmR64, Option.some.injEq, Int.cast_ofNat_Int, and_true, true_and, if_true, if_false, List.length_cons, List.length_nil, Nat.le_refl, Nat.zero_le, Nat.sub_zero, forall_const, reduceCtorEq, Nat.reduceAdd, Nat.reduceSub, Nat.reduceLeDiff, Nat.reduceEqDiff, Int.reduceAdd, Int.reduceNeg, Int.reduceSub, Int.reduceLT, Int.reduceLE, Int.reduceMul, Int.reduceEq, List.drop_zero, List.drop_succ_cons, ne_eq, not_false_eq_true, not_true_eq_false, false_and, and_false, false_implies, true_implies, reduceIte, mmU_rd, implies_true, or_false, false_or, or_true, true_or]
    exact q_b0 hQ c
  refine mmC_in (by decide) (Nat.le_of_ble_eq_true rfl) (mmC_step ?_)
  simp only [show mmMl 190 = 4 from rfl, mmLs, List.replicate, cd_190, sg_190_0, sg_190_21, sg_190_22, mmK_cut cd_190, q_cons, q_G0, q_GS, q_I1, q_L1, q_A1, q_S0, q_S1, q_SS, q_T0, q_T1, q_TS, q_Kn, q_Ki, q_Kl, q_Kr, q_k0, q_kS, q_rc, q_ps, q_pn, q_aload0, q_getfieldA, q_iload1, q_iload2, q_iadd, q_iaload, q_if_lt, q_iconst, q_idiv, q_iload3, q_icmp_ne, q_goto, q_ireturn1, rf_11_59, mmKe_1259, mmKo_11, mmLen_1259, mmR32, mmR64, Option.some.injEq, Int.cast_ofNat_Int, and_true, true_and, if_true, if_false, List.length_cons, List.length_nil, Nat.le_refl, Nat.zero_le, Nat.sub_zero, forall_const, reduceCtorEq, Nat.reduceAdd, Nat.reduceSub, Nat.reduceLeDiff, Nat.reduceEqDiff, Int.reduceAdd, Int.reduceNeg, Int.reduceSub, Int.reduceLT, Int.reduceLE, Int.reduceMul, Int.reduceEq, List.drop_zero, List.drop_succ_cons, ne_eq, not_false_eq_true, not_true_eq_false, false_and, and_false, false_implies, true_implies, reduceIte, mmU_rd, implies_true, or_false, false_or, or_true, true_or]
  rw [q_invS (pay := [])]
  simp only [q_k0, q_kS]
  refine ⟨Nat.le_of_ble_eq_true rfl, Nat.zero_le _, Nat.zero_le _, ?_⟩
  refine sq_base (by omega) ?_
  simp only [mmK_cut cd_190, q_cons, q_G0, q_GS, q_I1, q_L1, q_A1, q_S0, q_S1, q_SS, q_T0, q_T1, q_TS, q_Kn, q_Ki, q_Kl, q_Kr, q_k0, q_kS, q_rc, q_ps, q_pn, q_aload0, q_getfieldA, q_iload1, q_iload2, q_iadd, q_iaload, q_if_lt, q_iconst, q_idiv, q_iload3, q_icmp_ne, q_goto, q_ireturn1, rf_11_59, mmKe_1259, mmKo_11, mmLen_1259, mmR32, mmR64, Option.some.injEq, Int.cast_ofNat_Int, and_true, true_and, if_true, if_false, List.length_cons, List.length_nil, Nat.le_refl, Nat.zero_le, Nat.sub_zero, forall_const, reduceCtorEq, Nat.reduceAdd, Nat.reduceSub, Nat.reduceLeDiff, Nat.reduceEqDiff, Int.reduceAdd, Int.reduceNeg, Int.reduceSub, Int.reduceLT, Int.reduceLE, Int.reduceMul, Int.reduceEq, List.drop_zero, List.drop_succ_cons, ne_eq, not_false_eq_true, not_true_eq_false, false_and, and_false, false_implies, true_implies, reduceIte, mmU_rd, implies_true, or_false, false_or, or_true, true_or]
  rw [e]
  refine ⟨by omega, by omega, by omega, fun c => w21 ?_, fun c => ?_⟩
  · unfold mB at c
    split at c <;> omega
  · have hv0 : 0 ≤ B z ∧ B z < 8 ∧ mB (B z) = B z := by
      unfold mB at c ⊢
      split at c
      · omega
      · rename_i c2
        exact ⟨by omega, by omega, if_neg c2⟩
    rw [q_invS (pay := [])]
    simp only [q_k0, q_kS]
    refine ⟨Nat.le_of_ble_eq_true rfl, Nat.zero_le _, Nat.zero_le _, ?_⟩
    refine sq_base (by omega) ?_
    simp only [mmK_cut cd_190, q_cons, q_G0, q_GS, q_I1, q_L1, q_A1, q_S0, q_S1, q_SS, q_T0, q_T1, q_TS, q_Kn, q_Ki, q_Kl, q_Kr, q_k0, q_kS, q_rc, q_ps, q_pn, q_aload0, q_getfieldA, q_iload1, q_iload2, q_iadd, q_iaload, q_if_lt, q_iconst, q_idiv, q_iload3, q_icmp_ne, q_goto, q_ireturn1, rf_11_59, mmKe_1259, mmKo_11, mmLen_1259, mmR32, mmR64, Option.some.injEq, Int.cast_ofNat_Int, and_true, true_and, if_true, if_false, List.length_cons, List.length_nil, Nat.le_refl, Nat.zero_le, Nat.sub_zero, forall_const, reduceCtorEq, Nat.reduceAdd, Nat.reduceSub, Nat.reduceLeDiff, Nat.reduceEqDiff, Int.reduceAdd, Int.reduceNeg, Int.reduceSub, Int.reduceLT, Int.reduceLE, Int.reduceMul, Int.reduceEq, List.drop_zero, List.drop_succ_cons, ne_eq, not_false_eq_true, not_true_eq_false, false_and, and_false, false_implies, true_implies, reduceIte, mmU_rd, implies_true, or_false, false_or, or_true, true_or]
    rw [e, hv0.2.2]
    refine ⟨by omega, by omega, by omega, hv0.1, fun c2 => w21 c2, fun c2 => ?_⟩
    refine mmC_step ?_
    simp only [cd_190, sg_190_0, sg_190_21, sg_190_22, mmK_cut cd_190, q_cons, q_G0, q_GS, q_I1, q_L1, q_A1, q_S0, q_S1, q_SS, q_T0, q_T1, q_TS, q_Kn, q_Ki, q_Kl, q_Kr, q_k0, q_kS, q_rc, q_ps, q_pn, q_aload0, q_getfieldA, q_iload1, q_iload2, q_iadd, q_iaload, q_if_lt, q_iconst, q_idiv, q_iload3, q_icmp_ne, q_goto, q_ireturn1, rf_11_59, mmKe_1259, mmKo_11, mmLen_1259, mmR32, mmR64, Option.some.injEq, Int.cast_ofNat_Int, and_true, true_and, if_true, if_false, List.length_cons, List.length_nil, Nat.le_refl, Nat.zero_le, Nat.sub_zero, forall_const, reduceCtorEq, Nat.reduceAdd, Nat.reduceSub, Nat.reduceLeDiff, Nat.reduceEqDiff, Int.reduceAdd, Int.reduceNeg, Int.reduceSub, Int.reduceLT, Int.reduceLE, Int.reduceMul, Int.reduceEq, List.drop_zero, List.drop_succ_cons, ne_eq, not_false_eq_true, not_true_eq_false, false_and, and_false, false_implies, true_implies, reduceIte, mmU_rd, implies_true, or_false, false_or, or_true, true_or]
    exact q_b1 hQ c2
theorem m_manyOf {w : Int} (h : RK r I) (hM : MB I b B) (hB : BW r B) (hb : 0 ≤ b ∧ b < 72) (hw : w = 0 ∨ w = 1) (hQ : Q (some (mv (cS B w 25))) (I, mmRf a br, X)) : mmC (d + 3) 191 [mo 11 0, mv b, mv w] (I, mmRf a br, X) Q := by
  have hW := h.2.2
  have h1 := (pt_in hW.1 hW.2.1 (x := 0) (y := 0) (by have := hW.1; omega) (by have := hW.2.1; omega)).2.2.1
  have h2 : 0 ≤ r 6 0 * r 6 1 := Int.mul_nonneg (by have := hW.1; omega) (by have := hW.2.1; omega)
  have key : ∀ (q n : Nat), (n : Int) + q = r 6 0 * r 6 1 → mmK (d + 2) 191 Q 4 [some (mo 11 0), some (mv b), some (mv w), some (mv (cS B w n)), some (mv n)] [] (I, mmRf a br, X) := by
    intro q
    induction q with
    | zero =>
      intro n hn
      have e := cS_pts hB hw (p := n) (by omega) (25 - n) (by omega)
      rw [show n + (25 - n) = 25 by omega] at e
      rw [e] at hQ
      refine mmC_step ?_
      simp only [cd_191, sg_191_0, sg_191_4, sg_191_17, sg_191_18, sg_191_22, mmK_cut cd_191, q_cons, q_G0, q_GS, q_I1, q_L1, q_A1, q_S0, q_S1, q_SS, q_T0, q_T1, q_TS, q_Kn, q_Ki, q_Kl, q_Kr, q_k0, q_kS, q_rc, q_ps, q_pn, q_iconst, q_istore3, q_istore, q_iload, q_aload0, q_icmp_ge, q_iload3, q_iload1, q_iload2, q_if_eq, q_goto, q_iadd, q_iinc, q_ireturn0, mmKo_11, mmR32, mmR64, Option.some.injEq, Int.cast_ofNat_Int, and_true, true_and, if_true, if_false, List.length_cons, List.length_nil, Nat.le_refl, Nat.zero_le, Nat.sub_zero, forall_const, reduceCtorEq, Nat.reduceAdd, Nat.reduceSub, Nat.reduceLeDiff, Nat.reduceEqDiff, Int.reduceAdd, Int.reduceNeg, Int.reduceSub, Int.reduceLT, Int.reduceLE, Int.reduceMul, Int.reduceEq, List.drop_zero, List.drop_succ_cons, ne_eq, not_false_eq_true, not_true_eq_false, false_and, and_false, false_implies, true_implies, reduceIte, mmU_rd, implies_true, or_false, false_or, or_true, true_or]
      rw [q_invV (pay := [])]
      simp only [q_k0, q_kS, q_rc, mmKo_11]
      refine ⟨Nat.le_of_ble_eq_true rfl, by trivial, Nat.zero_le _, Nat.zero_le _, ?_⟩
      refine m_points h ?_
      simp only [mmK_cut cd_191, q_cons, q_G0, q_GS, q_I1, q_L1, q_A1, q_S0, q_S1, q_SS, q_T0, q_T1, q_TS, q_Kn, q_Ki, q_Kl, q_Kr, q_k0, q_kS, q_rc, q_ps, q_pn, q_iconst, q_istore3, q_istore, q_iload, q_aload0, q_icmp_ge, q_iload3, q_iload1, q_iload2, q_if_eq, q_goto, q_iadd, q_iinc, q_ireturn0, mmKo_11, mmR32, mmR64, Option.some.injEq, Int.cast_ofNat_Int, and_true, true_and, if_true, if_false, List.length_cons, List.length_nil, Nat.le_refl, Nat.zero_le, Nat.sub_zero, forall_const, reduceCtorEq, Nat.reduceAdd, Nat.reduceSub, Nat.reduceLeDiff, Nat.reduceEqDiff, Int.reduceAdd, Int.reduceNeg, Int.reduceSub, Int.reduceLT, Int.reduceLE, Int.reduceMul, Int.reduceEq, List.drop_zero, List.drop_succ_cons, ne_eq, not_false_eq_true, not_true_eq_false, false_and, and_false, false_implies, true_implies, reduceIte, mmU_rd, implies_true, or_false, false_or, or_true, true_or]
      refine ⟨fun _ => ?_, fun c => by omega⟩
      refine mmC_step ?_
      simp only [cd_191, sg_191_0, sg_191_4, sg_191_17, sg_191_18, sg_191_22, mmK_cut cd_191, q_cons, q_G0, q_GS, q_I1, q_L1, q_A1, q_S0, q_S1, q_SS, q_T0, q_T1, q_TS, q_Kn, q_Ki, q_Kl, q_Kr, q_k0, q_kS, q_rc, q_ps, q_pn, q_iconst, q_istore3, q_istore, q_iload, q_aload0, q_icmp_ge, q_iload3, q_iload1, q_iload2, q_if_eq, q_goto, q_iadd, q_iinc, q_ireturn0, mmKo_11, mmR32, mmR64, Option.some.injEq, Int.cast_ofNat_Int, and_true, true_and, if_true, if_false, List.length_cons, List.length_nil, Nat.le_refl, Nat.zero_le, Nat.sub_zero, forall_const, reduceCtorEq, Nat.reduceAdd, Nat.reduceSub, Nat.reduceLeDiff, Nat.reduceEqDiff, Int.reduceAdd, Int.reduceNeg, Int.reduceSub, Int.reduceLT, Int.reduceLE, Int.reduceMul, Int.reduceEq, List.drop_zero, List.drop_succ_cons, ne_eq, not_false_eq_true, not_true_eq_false, false_and, and_false, false_implies, true_implies, reduceIte, mmU_rd, implies_true, or_false, false_or, or_true, true_or]
      exact hQ
    | succ q ih =>
      intro n hn
      have hc := cS_in (B := B) (w := w) n
      have w18 : ∀ e, e = oS (B n) w → mmK (d + 2) 191 Q 18 [some (mo 11 0), some (mv b), some (mv w), some (mv (cS B w n)), some (mv n)] [mv e, mv (cS B w n)] (I, mmRf a br, X) := by
        intro e he
        have hi := oS_in (v := B n) (w := w)
        rw [he]
        refine mmC_step ?_
        simp only [cd_191, sg_191_0, sg_191_4, sg_191_17, sg_191_18, sg_191_22, mmK_cut cd_191, q_cons, q_G0, q_GS, q_I1, q_L1, q_A1, q_S0, q_S1, q_SS, q_T0, q_T1, q_TS, q_Kn, q_Ki, q_Kl, q_Kr, q_k0, q_kS, q_rc, q_ps, q_pn, q_iconst, q_istore3, q_istore, q_iload, q_aload0, q_icmp_ge, q_iload3, q_iload1, q_iload2, q_if_eq, q_goto, q_iadd, q_iinc, q_ireturn0, mmKo_11, mmR32, mmR64, Option.some.injEq, Int.cast_ofNat_Int, and_true, true_and, if_true, if_false, List.length_cons, List.length_nil, Nat.le_refl, Nat.zero_le, Nat.sub_zero, forall_const, reduceCtorEq, Nat.reduceAdd, Nat.reduceSub, Nat.reduceLeDiff, Nat.reduceEqDiff, Int.reduceAdd, Int.reduceNeg, Int.reduceSub, Int.reduceLT, Int.reduceLE, Int.reduceMul, Int.reduceEq, List.drop_zero, List.drop_succ_cons, ne_eq, not_false_eq_true, not_true_eq_false, false_and, and_false, false_implies, true_implies, reduceIte, mmU_rd, implies_true, or_false, false_or, or_true, true_or]
        exact ⟨by omega, by omega, ih (n + 1) (by omega)⟩
      refine mmC_step ?_
      simp only [cd_191, sg_191_0, sg_191_4, sg_191_17, sg_191_18, sg_191_22, mmK_cut cd_191, q_cons, q_G0, q_GS, q_I1, q_L1, q_A1, q_S0, q_S1, q_SS, q_T0, q_T1, q_TS, q_Kn, q_Ki, q_Kl, q_Kr, q_k0, q_kS, q_rc, q_ps, q_pn, q_iconst, q_istore3, q_istore, q_iload, q_aload0, q_icmp_ge, q_iload3, q_iload1, q_iload2, q_if_eq, q_goto, q_iadd, q_iinc, q_ireturn0, mmKo_11, mmR32, mmR64, Option.some.injEq, Int.cast_ofNat_Int, and_true, true_and, if_true, if_false, List.length_cons, List.length_nil, Nat.le_refl, Nat.zero_le, Nat.sub_zero, forall_const, reduceCtorEq, Nat.reduceAdd, Nat.reduceSub, Nat.reduceLeDiff, Nat.reduceEqDiff, Int.reduceAdd, Int.reduceNeg, Int.reduceSub, Int.reduceLT, Int.reduceLE, Int.reduceMul, Int.reduceEq, List.drop_zero, List.drop_succ_cons, ne_eq, not_false_eq_true, not_true_eq_false, false_and, and_false, false_implies, true_implies, reduceIte, mmU_rd, implies_true, or_false, false_or, or_true, true_or]
      rw [q_invV (pay := [])]
      simp only [q_k0, q_kS, q_rc, mmKo_11]
      refine ⟨Nat.le_of_ble_eq_true rfl, by trivial, Nat.zero_le _, Nat.zero_le _, ?_⟩
      refine m_points h ?_
      simp only [mmK_cut cd_191, q_cons, q_G0, q_GS, q_I1, q_L1, q_A1, q_S0, q_S1, q_SS, q_T0, q_T1, q_TS, q_Kn, q_Ki, q_Kl, q_Kr, q_k0, q_kS, q_rc, q_ps, q_pn, q_iconst, q_istore3, q_istore, q_iload, q_aload0, q_icmp_ge, q_iload3, q_iload1, q_iload2, q_if_eq, q_goto, q_iadd, q_iinc, q_ireturn0, mmKo_11, mmR32, mmR64, Option.some.injEq, Int.cast_ofNat_Int, and_true, true_and, if_true, if_false, List.length_cons, List.length_nil, Nat.le_refl, Nat.zero_le, Nat.sub_zero, forall_const, reduceCtorEq, Nat.reduceAdd, Nat.reduceSub, Nat.reduceLeDiff, Nat.reduceEqDiff, Int.reduceAdd, Int.reduceNeg, Int.reduceSub, Int.reduceLT, Int.reduceLE, Int.reduceMul, Int.reduceEq, List.drop_zero, List.drop_succ_cons, ne_eq, not_false_eq_true, not_true_eq_false, false_and, and_false, false_implies, true_implies, reduceIte, mmU_rd, implies_true, or_false, false_or, or_true, true_or]
      refine ⟨fun c => by omega, fun _ => ?_⟩
      rw [q_invV (pay := [])]
      simp only [q_k0, q_kS, q_rc, mmKo_11]
      refine ⟨Nat.le_of_ble_eq_true rfl, by trivial, Nat.zero_le _, Nat.zero_le _, ?_⟩
      refine m_isOwn hM hB hb (by omega) hw ?_
      simp only [mmK_cut cd_191, q_cons, q_G0, q_GS, q_I1, q_L1, q_A1, q_S0, q_S1, q_SS, q_T0, q_T1, q_TS, q_Kn, q_Ki, q_Kl, q_Kr, q_k0, q_kS, q_rc, q_ps, q_pn, q_iconst, q_istore3, q_istore, q_iload, q_aload0, q_icmp_ge, q_iload3, q_iload1, q_iload2, q_if_eq, q_goto, q_iadd, q_iinc, q_ireturn0, mmKo_11, mmR32, mmR64, Option.some.injEq, Int.cast_ofNat_Int, and_true, true_and, if_true, if_false, List.length_cons, List.length_nil, Nat.le_refl, Nat.zero_le, Nat.sub_zero, forall_const, reduceCtorEq, Nat.reduceAdd, Nat.reduceSub, Nat.reduceLeDiff, Nat.reduceEqDiff, Int.reduceAdd, Int.reduceNeg, Int.reduceSub, Int.reduceLT, Int.reduceLE, Int.reduceMul, Int.reduceEq, List.drop_zero, List.drop_succ_cons, ne_eq, not_false_eq_true, not_true_eq_false, false_and, and_false, false_implies, true_implies, reduceIte, mmU_rd, implies_true, or_false, false_or, or_true, true_or, bI_eq0]
      refine ⟨fun c => ?_, fun c => ?_⟩
      · refine mmC_step ?_
        simp only [cd_191, sg_191_0, sg_191_4, sg_191_17, sg_191_18, sg_191_22, mmK_cut cd_191, q_cons, q_G0, q_GS, q_I1, q_L1, q_A1, q_S0, q_S1, q_SS, q_T0, q_T1, q_TS, q_Kn, q_Ki, q_Kl, q_Kr, q_k0, q_kS, q_rc, q_ps, q_pn, q_iconst, q_istore3, q_istore, q_iload, q_aload0, q_icmp_ge, q_iload3, q_iload1, q_iload2, q_if_eq, q_goto, q_iadd, q_iinc, q_ireturn0, mmKo_11, mmR32, mmR64, Option.some.injEq, Int.cast_ofNat_Int, and_true, true_and, if_true, if_false, List.length_cons, List.length_nil, Nat.le_refl, Nat.zero_le, Nat.sub_zero, forall_const, reduceCtorEq, Nat.reduceAdd, Nat.reduceSub, Nat.reduceLeDiff, Nat.reduceEqDiff, Int.reduceAdd, Int.reduceNeg, Int.reduceSub, Int.reduceLT, Int.reduceLE, Int.reduceMul, Int.reduceEq, List.drop_zero, List.drop_succ_cons, ne_eq, not_false_eq_true, not_true_eq_false, false_and, and_false, false_implies, true_implies, reduceIte, mmU_rd, implies_true, or_false, false_or, or_true, true_or]
        exact w18 0 (by unfold oS; rw [if_neg c])
      · exact w18 1 (by unfold oS; rw [if_pos (Classical.not_not.mp c)])
  refine mmC_in (by decide) (Nat.le_of_ble_eq_true rfl) (mmC_step ?_)
  simp only [show mmMl 191 = 5 from rfl, mmLs, List.replicate, cd_191, sg_191_0, sg_191_4, sg_191_17, sg_191_18, sg_191_22, mmK_cut cd_191, q_cons, q_G0, q_GS, q_I1, q_L1, q_A1, q_S0, q_S1, q_SS, q_T0, q_T1, q_TS, q_Kn, q_Ki, q_Kl, q_Kr, q_k0, q_kS, q_rc, q_ps, q_pn, q_iconst, q_istore3, q_istore, q_iload, q_aload0, q_icmp_ge, q_iload3, q_iload1, q_iload2, q_if_eq, q_goto, q_iadd, q_iinc, q_ireturn0, mmKo_11, mmR32, mmR64, Option.some.injEq, Int.cast_ofNat_Int, and_true, true_and, if_true, if_false, List.length_cons, List.length_nil, Nat.le_refl, Nat.zero_le, Nat.sub_zero, forall_const, reduceCtorEq, Nat.reduceAdd, Nat.reduceSub, Nat.reduceLeDiff, Nat.reduceEqDiff, Int.reduceAdd, Int.reduceNeg, Int.reduceSub, Int.reduceLT, Int.reduceLE, Int.reduceMul, Int.reduceEq, List.drop_zero, List.drop_succ_cons, ne_eq, not_false_eq_true, not_true_eq_false, false_and, and_false, false_implies, true_implies, reduceIte, mmU_rd, implies_true, or_false, false_or, or_true, true_or]
  exact key (r 6 0 * r 6 1).toNat 0 (by omega)
theorem m_pointOf {p n : Int} (h : RK r I) (hfr : 0 ≤ fr ∧ fr < 25) (hp : 0 ≤ p ∧ p < 32) (hx : I 1239 0 p = r 712 p ∧ I 1240 0 p = r 713 p) (hst : (-4 ≤ r 712 p ∧ r 712 p ≤ 4) ∧ (-4 ≤ r 713 p ∧ r 713 p ≤ 4)) (hn : 1 ≤ n ∧ n ≤ 4) (hQ : Q (some (mv (if inB r (ptX r fr p n) (ptY r fr p n) then ptT r fr p n else -1))) (I, mmRf a br, X)) : mmC (d + 1) 192 [mo 11 0, mv fr, mv p, mv n] (I, mmRf a br, X) Q := by
  have w0 := h.2.2.1
  have w1 := h.2.2.2.1
  obtain ⟨bX, bY, _, _⟩ := pt_b (p := p) (far := n) w0 hfr hst hn
  have m1 := mul_in (n := n) (a := r 712 p) (by omega) hst.1
  have m2 := mul_in (n := n) (a := r 713 p) (by omega) hst.2
  have h32 : ∀ {z : Int}, (-100 ≤ z ∧ z ≤ 100) → (-2147483648 ≤ z ∧ z ≤ 2147483647) := fun h => ⟨Int.le_trans (by decide) h.1, Int.le_trans h.2 (by decide)⟩
  have w36 : ¬ inB r (ptX r fr p n) (ptY r fr p n) → mmK d 192 Q 36 [some (mo 11 0), some (mv fr), some (mv p), some (mv n), some (mv (ptX r fr p n)), some (mv (ptY r fr p n))] [] (I, mmRf a br, X) := by
    intro c
    rw [if_neg c] at hQ
    refine mmC_step ?_
    simp only [cd_192, sg_192_0, sg_192_36, sg_192_38, sg_192_44, mmK_cut cd_192, q_cons, q_G0, q_GS, q_I1, q_L1, q_A1, q_S0, q_S1, q_SS, q_T0, q_T1, q_TS, q_Kn, q_Ki, q_Kl, q_Kr, q_k0, q_kS, q_rc, q_ps, q_pn, q_iload1, q_aload0, q_getfieldI, q_irem, q_iload3, q_getfieldA, q_iload2, q_iaload, q_imul, q_iadd, q_istore, q_idiv, q_iload, q_if_lt, q_icmp_ge, q_icmp_lt, q_iconst, q_goto, q_ireturn0, rf_11_39, rf_11_40, mmKe_1239, mmKe_1240, mmKo_11, mmLen_1239, mmLen_1240, mmR32, mmR64, Option.some.injEq, Int.cast_ofNat_Int, and_true, true_and, if_true, if_false, List.length_cons, List.length_nil, Nat.le_refl, Nat.zero_le, Nat.sub_zero, forall_const, reduceCtorEq, Nat.reduceAdd, Nat.reduceSub, Nat.reduceLeDiff, Nat.reduceEqDiff, Int.reduceAdd, Int.reduceNeg, Int.reduceSub, Int.reduceLT, Int.reduceLE, Int.reduceMul, Int.reduceEq, List.drop_zero, List.drop_succ_cons, ne_eq, not_false_eq_true, not_true_eq_false, false_and, and_false, false_implies, true_implies, reduceIte, mmU_rd, implies_true, or_false, false_or, or_true, true_or]
    refine mmC_step ?_
    simp only [cd_192, sg_192_0, sg_192_36, sg_192_38, sg_192_44, mmK_cut cd_192, q_cons, q_G0, q_GS, q_I1, q_L1, q_A1, q_S0, q_S1, q_SS, q_T0, q_T1, q_TS, q_Kn, q_Ki, q_Kl, q_Kr, q_k0, q_kS, q_rc, q_ps, q_pn, q_iload1, q_aload0, q_getfieldI, q_irem, q_iload3, q_getfieldA, q_iload2, q_iaload, q_imul, q_iadd, q_istore, q_idiv, q_iload, q_if_lt, q_icmp_ge, q_icmp_lt, q_iconst, q_goto, q_ireturn0, rf_11_39, rf_11_40, mmKe_1239, mmKe_1240, mmKo_11, mmLen_1239, mmLen_1240, mmR32, mmR64, Option.some.injEq, Int.cast_ofNat_Int, and_true, true_and, if_true, if_false, List.length_cons, List.length_nil, Nat.le_refl, Nat.zero_le, Nat.sub_zero, forall_const, reduceCtorEq, Nat.reduceAdd, Nat.reduceSub, Nat.reduceLeDiff, Nat.reduceEqDiff, Int.reduceAdd, Int.reduceNeg, Int.reduceSub, Int.reduceLT, Int.reduceLE, Int.reduceMul, Int.reduceEq, List.drop_zero, List.drop_succ_cons, ne_eq, not_false_eq_true, not_true_eq_false, false_and, and_false, false_implies, true_implies, reduceIte, mmU_rd, implies_true, or_false, false_or, or_true, true_or]
    exact hQ
  refine mmC_in (by decide) (Nat.le_of_ble_eq_true rfl) (mmC_step ?_)
  simp only [show mmMl 192 = 6 from rfl, mmLs, List.replicate, cd_192, sg_192_0, sg_192_36, sg_192_38, sg_192_44, mmK_cut cd_192, q_cons, q_G0, q_GS, q_I1, q_L1, q_A1, q_S0, q_S1, q_SS, q_T0, q_T1, q_TS, q_Kn, q_Ki, q_Kl, q_Kr, q_k0, q_kS, q_rc, q_ps, q_pn, q_iload1, q_aload0, q_getfieldI, q_irem, q_iload3, q_getfieldA, q_iload2, q_iaload, q_imul, q_iadd, q_istore, q_idiv, q_iload, q_if_lt, q_icmp_ge, q_icmp_lt, q_iconst, q_goto, q_ireturn0, rf_11_39, rf_11_40, mmKe_1239, mmKe_1240, mmKo_11, mmLen_1239, mmLen_1240, mmR32, mmR64, Option.some.injEq, Int.cast_ofNat_Int, and_true, true_and, if_true, if_false, List.length_cons, List.length_nil, Nat.le_refl, Nat.zero_le, Nat.sub_zero, forall_const, reduceCtorEq, Nat.reduceAdd, Nat.reduceSub, Nat.reduceLeDiff, Nat.reduceEqDiff, Int.reduceAdd, Int.reduceNeg, Int.reduceSub, Int.reduceLT, Int.reduceLE, Int.reduceMul, Int.reduceEq, List.drop_zero, List.drop_succ_cons, ne_eq, not_false_eq_true, not_true_eq_false, false_and, and_false, false_implies, true_implies, reduceIte, mmU_rd, implies_true, or_false, false_or, or_true, true_or]
  rw [RK_0 h, RK_1 h, hx.1, hx.2]
  refine ⟨hfr.1, by omega, hp.1, by omega, by omega, h32 bX, hfr.1, by omega, hp.1, by omega, by omega, h32 bY, fun c4 => w36 (nin (Or.inl c4)), fun c4 => ⟨fun c5 => w36 (nin (Or.inr (Or.inl c5))), fun c5 => ⟨fun c6 => w36 (nin (Or.inr (Or.inr (Or.inl c6)))), fun c6 => ⟨fun c7 => ?_, fun c7 => w36 (nin (Or.inr (Or.inr (Or.inr c7))))⟩⟩⟩⟩
  have hin : inB r (ptX r fr p n) (ptY r fr p n) := ⟨c4, c5, c6, c7⟩
  have hpt := inB_pt w0 w1 hin
  have h1 : 0 ≤ ptY r fr p n * r 6 0 := Int.mul_nonneg c6 (by omega)
  have h2 : ptY r fr p n * r 6 0 + ptX r fr p n = ptT r fr p n := rfl
  rw [if_pos hin] at hQ
  refine mmC_step ?_
  simp only [cd_192, sg_192_0, sg_192_36, sg_192_38, sg_192_44, mmK_cut cd_192, q_cons, q_G0, q_GS, q_I1, q_L1, q_A1, q_S0, q_S1, q_SS, q_T0, q_T1, q_TS, q_Kn, q_Ki, q_Kl, q_Kr, q_k0, q_kS, q_rc, q_ps, q_pn, q_iload1, q_aload0, q_getfieldI, q_irem, q_iload3, q_getfieldA, q_iload2, q_iaload, q_imul, q_iadd, q_istore, q_idiv, q_iload, q_if_lt, q_icmp_ge, q_icmp_lt, q_iconst, q_goto, q_ireturn0, rf_11_39, rf_11_40, mmKe_1239, mmKe_1240, mmKo_11, mmLen_1239, mmLen_1240, mmR32, mmR64, Option.some.injEq, Int.cast_ofNat_Int, and_true, true_and, if_true, if_false, List.length_cons, List.length_nil, Nat.le_refl, Nat.zero_le, Nat.sub_zero, forall_const, reduceCtorEq, Nat.reduceAdd, Nat.reduceSub, Nat.reduceLeDiff, Nat.reduceEqDiff, Int.reduceAdd, Int.reduceNeg, Int.reduceSub, Int.reduceLT, Int.reduceLE, Int.reduceMul, Int.reduceEq, List.drop_zero, List.drop_succ_cons, ne_eq, not_false_eq_true, not_true_eq_false, false_and, and_false, false_implies, true_implies, reduceIte, mmU_rd, implies_true, or_false, false_or, or_true, true_or]
  rw [RK_0 h]
  have b1 : -2147483648 ≤ ptY r fr p n * r 6 0 ∧ ptY r fr p n * r 6 0 ≤ 2147483647 := ⟨Int.le_trans (by decide) h1, by have := hpt.2.1; omega⟩
  refine ⟨b1, ?_, ?_⟩
  · exact (show -2147483648 ≤ ptT r fr p n ∧ ptT r fr p n ≤ 2147483647 from ⟨Int.le_trans (by decide) hpt.1, by have := hpt.2.1; omega⟩)
  · refine mmC_step ?_
    simp only [cd_192, sg_192_0, sg_192_36, sg_192_38, sg_192_44, mmK_cut cd_192, q_cons, q_G0, q_GS, q_I1, q_L1, q_A1, q_S0, q_S1, q_SS, q_T0, q_T1, q_TS, q_Kn, q_Ki, q_Kl, q_Kr, q_k0, q_kS, q_rc, q_ps, q_pn, q_iload1, q_aload0, q_getfieldI, q_irem, q_iload3, q_getfieldA, q_iload2, q_iaload, q_imul, q_iadd, q_istore, q_idiv, q_iload, q_if_lt, q_icmp_ge, q_icmp_lt, q_iconst, q_goto, q_ireturn0, rf_11_39, rf_11_40, mmKe_1239, mmKe_1240, mmKo_11, mmLen_1239, mmLen_1240, mmR32, mmR64, Option.some.injEq, Int.cast_ofNat_Int, and_true, true_and, if_true, if_false, List.length_cons, List.length_nil, Nat.le_refl, Nat.zero_le, Nat.sub_zero, forall_const, reduceCtorEq, Nat.reduceAdd, Nat.reduceSub, Nat.reduceLeDiff, Nat.reduceEqDiff, Int.reduceAdd, Int.reduceNeg, Int.reduceSub, Int.reduceLT, Int.reduceLE, Int.reduceMul, Int.reduceEq, List.drop_zero, List.drop_succ_cons, ne_eq, not_false_eq_true, not_true_eq_false, false_and, and_false, false_implies, true_implies, reduceIte, mmU_rd, implies_true, or_false, false_or, or_true, true_or]
    exact hQ
end S811
