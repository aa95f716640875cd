/-! answers, purely, and those of the class -/
abbrev isW (w : Int) : Prop := 0 ≤ w ∧ w < 4
noncomputable def a_plies (r : mRu) (L : Nat → Int → Int) (w : Int) : Int := cI (isW w) (vN r L w) (-1)
noncomputable def a_row (r : mRu) (L : Nat → Int → Int) (w k : Int) : Int := cI (isW w ∧ 0 ≤ k ∧ k < vN r L w) (rV r L (vT r L w) k) (-1)
noncomputable def a_by (r : mRu) (L : Nat → Int → Int) (w k : Int) : Int := cI (isW w ∧ 0 ≤ k ∧ k < vN r L w) (rC r L (vT r L w) k).1 (-1)
noncomputable def a_at (r : mRu) (L : Nat → Int → Int) (w p : Int) : Int := cI (isW w ∧ 0 ≤ p ∧ p < r 6 0 * r 6 1) (vB r L w p) (-1)
noncomputable def a_turn (r : mRu) (L : Nat → Int → Int) (w : Int) : Int := cI (isW w) (vN r L w % 2) (-1)
noncomputable def a_end (r : mRu) (L : Nat → Int → Int) (w : Int) : Int := cI (isW w) (vE r L w) (-1)
noncomputable def a_moves (r : mRu) (L : Nat → Int → Int) (w : Int) : Int := cI (isW w) (vM r L w) (-1)
noncomputable def a_move (r : mRu) (L : Nat → Int → Int) (w k : Int) : Int := cI (isW w ∧ 0 ≤ k ∧ k < vM r L w) ((mvs r (vB r L w) (vN r L w)).getD k.toNat 0) (-1)
noncomputable def a_law (r : mRu) (L : Nat → Int → Int) (w v : Int) : Int := cI (isW w ∧ 0 ≤ v ∧ v ≤ 4095) (lmV r (vB r L w) (vN r L w) (v / 64) (v % 64)) (-9223372036854775808)
/-- an answer of the class -/
def aQ (I : mMm) (a : Nat) (r : mRu) (L : Nat → Int → Int) (X : mmX) (Q : Option mmV → mmM → Prop) (v : mmV) : Prop := ∀ I' br', FrG I I' → CI I' br' a r L → Q (some v) (I', mmRf a br', X)
section S850
variable {d a : Nat} {I I1 I' I'' : mMm} {br br' : Nat → Option mmO} {R : Nat → Nat → Int → Option mmO} {X : mmX} {L : Nat → Int → Int} {r : mRu} {w k v : Int} {Q : Option mmV → mmM → Prop}
theorem RV_B {w : Nat} (h : RowV I br a w r L) : BV I (w + 1) (vB r L w) (vN r L w) r := h.2.2.1.1
theorem RV_N {w : Nat} (h : RowV I br a w r L) : I 0 (w + 1) 4 = vN r L w := h.2.2.1.1.2.1
theorem RV_E {w : Nat} (h : RowV I br a w r L) : I 5 (w + 1) 5 = vE r L w := h.2.2.2.1
theorem RV_p {w : Nat} (h : RowV I br a w r L) {i : Int} (h0 : 0 ≤ i) (h1 : i < vN r L w) : I 603 (w + 1) i = rV r L (vT r L w) i ∧ I 604 (w + 1) i = (rC r L (vT r L w) i).1 := h.2.2.1.2.1 i h0 h1
theorem RV_O {w : Nat} (h : RowV I br a w r L) (he : vE r L w = 0) : RO I (w + 1) (mvs r (vB r L w) (vN r L w)) := h.2.2.2.2.1 he
theorem vlen (hq : RQ r) (hB : BW r (r 714)) (hW : LW L) (w : Int) : ((mvs r (vB r L w) (vN r L w)).length : Int) ≤ 200 := mvL_cap (m := vN r L w) hq (vB_in hq hB hW w).1 (n := 25) (by omega)
theorem aQ_to {u u' : mmV} (h : aQ I a r L X Q u) (f : FrG I I') (e : u = u') : aQ I' a r L X Q u' := by
  subst e
  exact fun I2 b2 f2 c2 => h I2 b2 (FrG_trans f f2) c2
theorem c_plies (hI : CI I br a r L) (hQ : aQ I a r L X Q (mv (a_plies r L w))) : mmC (d + 8) 111 [mo 10 0, mv w] (I, mmRf a br, X) Q := by
  refine mmC_in (by decide) (Nat.le_of_ble_eq_true rfl) (mmC_step ?_)
  simp only [show mmMl 111 = 2 from rfl, mmLs, List.replicate, cd_111, sg_111_0, sg_111_9, sg_111_10, mmK_cut cd_111, q_cons, q_G0, q_GS, q_I1, q_L1, q_A1, q_S0, q_S1, q_SS, q_T0, q_T1, q_TS, q_Kn, q_Ki, q_Kl, q_Kr, q_k0, q_kS, q_rc, q_ps, q_pn, q_iload1, q_if_eq, q_aload0, q_getfieldA, q_getfieldI, q_goto, q_iconst, q_ireturn0, rf_5_2, mmKo_0, mmKo_10, mmKo_5, mmR32, mmR64, Option.some.injEq, Int.cast_ofNat_Int, and_true, true_and, if_true, if_false, List.length_cons, List.length_nil, Nat.le_refl, Nat.zero_le, Nat.sub_zero, forall_const, reduceCtorEq, Nat.reduceAdd, Nat.reduceSub, Nat.reduceLeDiff, Nat.reduceEqDiff, Int.reduceAdd, Int.reduceNeg, Int.reduceSub, Int.reduceLT, Int.reduceLE, Int.reduceMul, Int.reduceEq, List.drop_zero, List.drop_succ_cons, ne_eq, not_false_eq_true, not_true_eq_false, false_and, and_false, false_implies, true_implies, reduceIte, mmU_rd, implies_true, or_false, false_or, or_true, true_or]
  rw [q_invS (pay := [])]
  simp only [q_k0, q_kS]
  refine ⟨Nat.le_of_ble_eq_true rfl, Nat.zero_le _, Nat.zero_le _, ?_⟩
  refine sp_isView ?_
  simp only [mmK_cut cd_111, q_cons, q_G0, q_GS, q_I1, q_L1, q_A1, q_S0, q_S1, q_SS, q_T0, q_T1, q_TS, q_Kn, q_Ki, q_Kl, q_Kr, q_k0, q_kS, q_rc, q_ps, q_pn, q_iload1, q_if_eq, q_aload0, q_getfieldA, q_getfieldI, q_goto, q_iconst, q_ireturn0, rf_5_2, mmKo_0, mmKo_10, mmKo_5, mmR32, mmR64, Option.some.injEq, Int.cast_ofNat_Int, and_true, true_and, if_true, if_false, List.length_cons, List.length_nil, Nat.le_refl, Nat.zero_le, Nat.sub_zero, forall_const, reduceCtorEq, Nat.reduceAdd, Nat.reduceSub, Nat.reduceLeDiff, Nat.reduceEqDiff, Int.reduceAdd, Int.reduceNeg, Int.reduceSub, Int.reduceLT, Int.reduceLE, Int.reduceMul, Int.reduceEq, List.drop_zero, List.drop_succ_cons, ne_eq, not_false_eq_true, not_true_eq_false, false_and, and_false, false_implies, true_implies, reduceIte, mmU_rd, implies_true, or_false, false_or, or_true, true_or, bI_eq0]
  refine ⟨fun c => ?_, fun c => ?_⟩
  · unfold a_plies at hQ
    rw [cI_neg c] at hQ
    refine mmC_step ?_
    simp only [cd_111, sg_111_0, sg_111_9, sg_111_10, mmK_cut cd_111, q_cons, q_G0, q_GS, q_I1, q_L1, q_A1, q_S0, q_S1, q_SS, q_T0, q_T1, q_TS, q_Kn, q_Ki, q_Kl, q_Kr, q_k0, q_kS, q_rc, q_ps, q_pn, q_iload1, q_if_eq, q_aload0, q_getfieldA, q_getfieldI, q_goto, q_iconst, q_ireturn0, rf_5_2, mmKo_0, mmKo_10, mmKo_5, mmR32, mmR64, Option.some.injEq, Int.cast_ofNat_Int, and_true, true_and, if_true, if_false, List.length_cons, List.length_nil, Nat.le_refl, Nat.zero_le, Nat.sub_zero, forall_const, reduceCtorEq, Nat.reduceAdd, Nat.reduceSub, Nat.reduceLeDiff, Nat.reduceEqDiff, Int.reduceAdd, Int.reduceNeg, Int.reduceSub, Int.reduceLT, Int.reduceLE, Int.reduceMul, Int.reduceEq, List.drop_zero, List.drop_succ_cons, ne_eq, not_false_eq_true, not_true_eq_false, false_and, and_false, false_implies, true_implies, reduceIte, mmU_rd, implies_true, or_false, false_or, or_true, true_or]
    refine mmC_step ?_
    simp only [cd_111, sg_111_0, sg_111_9, sg_111_10, mmK_cut cd_111, q_cons, q_G0, q_GS, q_I1, q_L1, q_A1, q_S0, q_S1, q_SS, q_T0, q_T1, q_TS, q_Kn, q_Ki, q_Kl, q_Kr, q_k0, q_kS, q_rc, q_ps, q_pn, q_iload1, q_if_eq, q_aload0, q_getfieldA, q_getfieldI, q_goto, q_iconst, q_ireturn0, rf_5_2, mmKo_0, mmKo_10, mmKo_5, mmR32, mmR64, Option.some.injEq, Int.cast_ofNat_Int, and_true, true_and, if_true, if_false, List.length_cons, List.length_nil, Nat.le_refl, Nat.zero_le, Nat.sub_zero, forall_const, reduceCtorEq, Nat.reduceAdd, Nat.reduceSub, Nat.reduceLeDiff, Nat.reduceEqDiff, Int.reduceAdd, Int.reduceNeg, Int.reduceSub, Int.reduceLT, Int.reduceLE, Int.reduceMul, Int.reduceEq, List.drop_zero, List.drop_succ_cons, ne_eq, not_false_eq_true, not_true_eq_false, false_and, and_false, false_implies, true_implies, reduceIte, mmU_rd, implies_true, or_false, false_or, or_true, true_or]
    exact hQ I br FrG_refl hI
  · have c := Classical.not_not.mp c
    obtain ⟨n, rfl⟩ := Int.eq_ofNat_of_zero_le c.1
    unfold a_plies at hQ
    rw [cI_pos c] at hQ
    rw [q_invV (pay := [])]
    simp only [q_k0, q_kS, q_rc, mmKo_10]
    refine ⟨Nat.le_of_ble_eq_true rfl, by trivial, Nat.zero_le _, Nat.zero_le _, ?_⟩
    refine c_seenI (by omega) hI (fun I1 b1 f1 h1 hR => ?_)
    simp only [mmK_cut cd_111, q_cons, q_G0, q_GS, q_I1, q_L1, q_A1, q_S0, q_S1, q_SS, q_T0, q_T1, q_TS, q_Kn, q_Ki, q_Kl, q_Kr, q_k0, q_kS, q_rc, q_ps, q_pn, q_iload1, q_if_eq, q_aload0, q_getfieldA, q_getfieldI, q_goto, q_iconst, q_ireturn0, rf_5_2, mmKo_0, mmKo_10, mmKo_5, mmR32, mmR64, Option.some.injEq, Int.cast_ofNat_Int, and_true, true_and, if_true, if_false, List.length_cons, List.length_nil, Nat.le_refl, Nat.zero_le, Nat.sub_zero, forall_const, reduceCtorEq, Nat.reduceAdd, Nat.reduceSub, Nat.reduceLeDiff, Nat.reduceEqDiff, Int.reduceAdd, Int.reduceNeg, Int.reduceSub, Int.reduceLT, Int.reduceLE, Int.reduceMul, Int.reduceEq, List.drop_zero, List.drop_succ_cons, ne_eq, not_false_eq_true, not_true_eq_false, false_and, and_false, false_implies, true_implies, reduceIte, mmU_rd, implies_true, or_false, false_or, or_true, true_or]
    rw [RV_N hR]
    refine mmC_step ?_
    simp only [cd_111, sg_111_0, sg_111_9, sg_111_10, mmK_cut cd_111, q_cons, q_G0, q_GS, q_I1, q_L1, q_A1, q_S0, q_S1, q_SS, q_T0, q_T1, q_TS, q_Kn, q_Ki, q_Kl, q_Kr, q_k0, q_kS, q_rc, q_ps, q_pn, q_iload1, q_if_eq, q_aload0, q_getfieldA, q_getfieldI, q_goto, q_iconst, q_ireturn0, rf_5_2, mmKo_0, mmKo_10, mmKo_5, mmR32, mmR64, Option.some.injEq, Int.cast_ofNat_Int, and_true, true_and, if_true, if_false, List.length_cons, List.length_nil, Nat.le_refl, Nat.zero_le, Nat.sub_zero, forall_const, reduceCtorEq, Nat.reduceAdd, Nat.reduceSub, Nat.reduceLeDiff, Nat.reduceEqDiff, Int.reduceAdd, Int.reduceNeg, Int.reduceSub, Int.reduceLT, Int.reduceLE, Int.reduceMul, Int.reduceEq, List.drop_zero, List.drop_succ_cons, ne_eq, not_false_eq_true, not_true_eq_false, false_and, and_false, false_implies, true_implies, reduceIte, mmU_rd, implies_true, or_false, false_or, or_true, true_or]
    exact hQ I1 b1 f1 h1
theorem c_turn (hI : CI I br a r L) (hQ : aQ I a r L X Q (mv (a_turn r L w))) : mmC (d + 8) 115 [mo 10 0, mv w] (I, mmRf a br, X) Q := by
  refine mmC_in (by decide) (Nat.le_of_ble_eq_true rfl) (mmC_step ?_)
  simp only [show mmMl 115 = 2 from rfl, mmLs, List.replicate, cd_115, sg_115_0, sg_115_9, sg_115_10, mmK_cut cd_115, q_cons, q_G0, q_GS, q_I1, q_L1, q_A1, q_S0, q_S1, q_SS, q_T0, q_T1, q_TS, q_Kn, q_Ki, q_Kl, q_Kr, q_k0, q_kS, q_rc, q_ps, q_pn, q_iload1, q_if_eq, q_aload0, q_getfieldA, q_goto, q_iconst, q_ireturn0, rf_5_2, mmKo_0, mmKo_10, mmKo_5, mmR32, mmR64, Option.some.injEq, Int.cast_ofNat_Int, and_true, true_and, if_true, if_false, List.length_cons, List.length_nil, Nat.le_refl, Nat.zero_le, Nat.sub_zero, forall_const, reduceCtorEq, Nat.reduceAdd, Nat.reduceSub, Nat.reduceLeDiff, Nat.reduceEqDiff, Int.reduceAdd, Int.reduceNeg, Int.reduceSub, Int.reduceLT, Int.reduceLE, Int.reduceMul, Int.reduceEq, List.drop_zero, List.drop_succ_cons, ne_eq, not_false_eq_true, not_true_eq_false, false_and, and_false, false_implies, true_implies, reduceIte, mmU_rd, implies_true, or_false, false_or, or_true, true_or]
  rw [q_invS (pay := [])]
  simp only [q_k0, q_kS]
  refine ⟨Nat.le_of_ble_eq_true rfl, Nat.zero_le _, Nat.zero_le _, ?_⟩
  refine sp_isView ?_
  simp only [mmK_cut cd_115, q_cons, q_G0, q_GS, q_I1, q_L1, q_A1, q_S0, q_S1, q_SS, q_T0, q_T1, q_TS, q_Kn, q_Ki, q_Kl, q_Kr, q_k0, q_kS, q_rc, q_ps, q_pn, q_iload1, q_if_eq, q_aload0, q_getfieldA, q_goto, q_iconst, q_ireturn0, rf_5_2, mmKo_0, mmKo_10, mmKo_5, mmR32, mmR64, Option.some.injEq, Int.cast_ofNat_Int, and_true, true_and, if_true, if_false, List.length_cons, List.length_nil, Nat.le_refl, Nat.zero_le, Nat.sub_zero, forall_const, reduceCtorEq, Nat.reduceAdd, Nat.reduceSub, Nat.reduceLeDiff, Nat.reduceEqDiff, Int.reduceAdd, Int.reduceNeg, Int.reduceSub, Int.reduceLT, Int.reduceLE, Int.reduceMul, Int.reduceEq, List.drop_zero, List.drop_succ_cons, ne_eq, not_false_eq_true, not_true_eq_false, false_and, and_false, false_implies, true_implies, reduceIte, mmU_rd, implies_true, or_false, false_or, or_true, true_or, bI_eq0]
  refine ⟨fun c => ?_, fun c => ?_⟩
  · unfold a_turn at hQ
    rw [cI_neg c] at hQ
    refine mmC_step ?_
    simp only [cd_115, sg_115_0, sg_115_9, sg_115_10, mmK_cut cd_115, q_cons, q_G0, q_GS, q_I1, q_L1, q_A1, q_S0, q_S1, q_SS, q_T0, q_T1, q_TS, q_Kn, q_Ki, q_Kl, q_Kr, q_k0, q_kS, q_rc, q_ps, q_pn, q_iload1, q_if_eq, q_aload0, q_getfieldA, q_goto, q_iconst, q_ireturn0, rf_5_2, mmKo_0, mmKo_10, mmKo_5, mmR32, mmR64, Option.some.injEq, Int.cast_ofNat_Int, and_true, true_and, if_true, if_false, List.length_cons, List.length_nil, Nat.le_refl, Nat.zero_le, Nat.sub_zero, forall_const, reduceCtorEq, Nat.reduceAdd, Nat.reduceSub, Nat.reduceLeDiff, Nat.reduceEqDiff, Int.reduceAdd, Int.reduceNeg, Int.reduceSub, Int.reduceLT, Int.reduceLE, Int.reduceMul, Int.reduceEq, List.drop_zero, List.drop_succ_cons, ne_eq, not_false_eq_true, not_true_eq_false, false_and, and_false, false_implies, true_implies, reduceIte, mmU_rd, implies_true, or_false, false_or, or_true, true_or]
    refine mmC_step ?_
    simp only [cd_115, sg_115_0, sg_115_9, sg_115_10, mmK_cut cd_115, q_cons, q_G0, q_GS, q_I1, q_L1, q_A1, q_S0, q_S1, q_SS, q_T0, q_T1, q_TS, q_Kn, q_Ki, q_Kl, q_Kr, q_k0, q_kS, q_rc, q_ps, q_pn, q_iload1, q_if_eq, q_aload0, q_getfieldA, q_goto, q_iconst, q_ireturn0, rf_5_2, mmKo_0, mmKo_10, mmKo_5, mmR32, mmR64, Option.some.injEq, Int.cast_ofNat_Int, and_true, true_and, if_true, if_false, List.length_cons, List.length_nil, Nat.le_refl, Nat.zero_le, Nat.sub_zero, forall_const, reduceCtorEq, Nat.reduceAdd, Nat.reduceSub, Nat.reduceLeDiff, Nat.reduceEqDiff, Int.reduceAdd, Int.reduceNeg, Int.reduceSub, Int.reduceLT, Int.reduceLE, Int.reduceMul, Int.reduceEq, List.drop_zero, List.drop_succ_cons, ne_eq, not_false_eq_true, not_true_eq_false, false_and, and_false, false_implies, true_implies, reduceIte, mmU_rd, implies_true, or_false, false_or, or_true, true_or]
    exact hQ I br FrG_refl hI
  · have c := Classical.not_not.mp c
    obtain ⟨n, rfl⟩ := Int.eq_ofNat_of_zero_le c.1
    unfold a_turn at hQ
    rw [cI_pos c] at hQ
    rw [q_invV (pay := [])]
    simp only [q_k0, q_kS, q_rc, mmKo_10]
    refine ⟨Nat.le_of_ble_eq_true rfl, by trivial, Nat.zero_le _, Nat.zero_le _, ?_⟩
    refine c_seenI (by omega) hI (fun I1 b1 f1 h1 hR => ?_)
    simp only [mmK_cut cd_115, q_cons, q_G0, q_GS, q_I1, q_L1, q_A1, q_S0, q_S1, q_SS, q_T0, q_T1, q_TS, q_Kn, q_Ki, q_Kl, q_Kr, q_k0, q_kS, q_rc, q_ps, q_pn, q_iload1, q_if_eq, q_aload0, q_getfieldA, q_goto, q_iconst, q_ireturn0, rf_5_2, mmKo_0, mmKo_10, mmKo_5, mmR32, mmR64, Option.some.injEq, Int.cast_ofNat_Int, and_true, true_and, if_true, if_false, List.length_cons, List.length_nil, Nat.le_refl, Nat.zero_le, Nat.sub_zero, forall_const, reduceCtorEq, Nat.reduceAdd, Nat.reduceSub, Nat.reduceLeDiff, Nat.reduceEqDiff, Int.reduceAdd, Int.reduceNeg, Int.reduceSub, Int.reduceLT, Int.reduceLE, Int.reduceMul, Int.reduceEq, List.drop_zero, List.drop_succ_cons, ne_eq, not_false_eq_true, not_true_eq_false, false_and, and_false, false_implies, true_implies, reduceIte, mmU_rd, implies_true, or_false, false_or, or_true, true_or]
    rw [q_invV (pay := [])]
    simp only [q_k0, q_kS, q_rc, mmKo_0]
    refine ⟨Nat.le_of_ble_eq_true rfl, by trivial, Nat.zero_le _, Nat.zero_le _, ?_⟩
    refine sp_toMove (RV_B hR) ?_
    simp only [mmK_cut cd_115, q_cons, q_G0, q_GS, q_I1, q_L1, q_A1, q_S0, q_S1, q_SS, q_T0, q_T1, q_TS, q_Kn, q_Ki, q_Kl, q_Kr, q_k0, q_kS, q_rc, q_ps, q_pn, q_iload1, q_if_eq, q_aload0, q_getfieldA, q_goto, q_iconst, q_ireturn0, rf_5_2, mmKo_0, mmKo_10, mmKo_5, mmR32, mmR64, Option.some.injEq, Int.cast_ofNat_Int, and_true, true_and, if_true, if_false, List.length_cons, List.length_nil, Nat.le_refl, Nat.zero_le, Nat.sub_zero, forall_const, reduceCtorEq, Nat.reduceAdd, Nat.reduceSub, Nat.reduceLeDiff, Nat.reduceEqDiff, Int.reduceAdd, Int.reduceNeg, Int.reduceSub, Int.reduceLT, Int.reduceLE, Int.reduceMul, Int.reduceEq, List.drop_zero, List.drop_succ_cons, ne_eq, not_false_eq_true, not_true_eq_false, false_and, and_false, false_implies, true_implies, reduceIte, mmU_rd, implies_true, or_false, false_or, or_true, true_or]
    refine mmC_step ?_
    simp only [cd_115, sg_115_0, sg_115_9, sg_115_10, mmK_cut cd_115, q_cons, q_G0, q_GS, q_I1, q_L1, q_A1, q_S0, q_S1, q_SS, q_T0, q_T1, q_TS, q_Kn, q_Ki, q_Kl, q_Kr, q_k0, q_kS, q_rc, q_ps, q_pn, q_iload1, q_if_eq, q_aload0, q_getfieldA, q_goto, q_iconst, q_ireturn0, rf_5_2, mmKo_0, mmKo_10, mmKo_5, mmR32, mmR64, Option.some.injEq, Int.cast_ofNat_Int, and_true, true_and, if_true, if_false, List.length_cons, List.length_nil, Nat.le_refl, Nat.zero_le, Nat.sub_zero, forall_const, reduceCtorEq, Nat.reduceAdd, Nat.reduceSub, Nat.reduceLeDiff, Nat.reduceEqDiff, Int.reduceAdd, Int.reduceNeg, Int.reduceSub, Int.reduceLT, Int.reduceLE, Int.reduceMul, Int.reduceEq, List.drop_zero, List.drop_succ_cons, ne_eq, not_false_eq_true, not_true_eq_false, false_and, and_false, false_implies, true_implies, reduceIte, mmU_rd, implies_true, or_false, false_or, or_true, true_or]
    exact hQ I1 b1 f1 h1
theorem c_end (hI : CI I br a r L) (hQ : aQ I a r L X Q (mv (a_end r L w))) : mmC (d + 8) 116 [mo 10 0, mv w] (I, mmRf a br, X) Q := by
  refine mmC_in (by decide) (Nat.le_of_ble_eq_true rfl) (mmC_step ?_)
  simp only [show mmMl 116 = 2 from rfl, mmLs, List.replicate, cd_116, sg_116_0, sg_116_8, sg_116_9, mmK_cut cd_116, q_cons, q_G0, q_GS, q_I1, q_L1, q_A1, q_S0, q_S1, q_SS, q_T0, q_T1, q_TS, q_Kn, q_Ki, q_Kl, q_Kr, q_k0, q_kS, q_rc, q_ps, q_pn, q_iload1, q_if_eq, q_aload0, q_getfieldI, q_goto, q_iconst, q_ireturn0, mmKo_10, mmKo_5, mmR32, mmR64, Option.some.injEq, Int.cast_ofNat_Int, and_true, true_and, if_true, if_false, List.length_cons, List.length_nil, Nat.le_refl, Nat.zero_le, Nat.sub_zero, forall_const, reduceCtorEq, Nat.reduceAdd, Nat.reduceSub, Nat.reduceLeDiff, Nat.reduceEqDiff, Int.reduceAdd, Int.reduceNeg, Int.reduceSub, Int.reduceLT, Int.reduceLE, Int.reduceMul, Int.reduceEq, List.drop_zero, List.drop_succ_cons, ne_eq, not_false_eq_true, not_true_eq_false, false_and, and_false, false_implies, true_implies, reduceIte, mmU_rd, implies_true, or_false, false_or, or_true, true_or]
  rw [q_invS (pay := [])]
  simp only [q_k0, q_kS]
  refine ⟨Nat.le_of_ble_eq_true rfl, Nat.zero_le _, Nat.zero_le _, ?_⟩
  refine sp_isView ?_
  simp only [mmK_cut cd_116, q_cons, q_G0, q_GS, q_I1, q_L1, q_A1, q_S0, q_S1, q_SS, q_T0, q_T1, q_TS, q_Kn, q_Ki, q_Kl, q_Kr, q_k0, q_kS, q_rc, q_ps, q_pn, q_iload1, q_if_eq, q_aload0, q_getfieldI, q_goto, q_iconst, q_ireturn0, mmKo_10, mmKo_5, mmR32, mmR64, Option.some.injEq, Int.cast_ofNat_Int, and_true, true_and, if_true, if_false, List.length_cons, List.length_nil, Nat.le_refl, Nat.zero_le, Nat.sub_zero, forall_const, reduceCtorEq, Nat.reduceAdd, Nat.reduceSub, Nat.reduceLeDiff, Nat.reduceEqDiff, Int.reduceAdd, Int.reduceNeg, Int.reduceSub, Int.reduceLT, Int.reduceLE, Int.reduceMul, Int.reduceEq, List.drop_zero, List.drop_succ_cons, ne_eq, not_false_eq_true, not_true_eq_false, false_and, and_false, false_implies, true_implies, reduceIte, mmU_rd, implies_true, or_false, false_or, or_true, true_or, bI_eq0]
  refine ⟨fun c => ?_, fun c => ?_⟩
  · unfold a_end at hQ
    rw [cI_neg c] at hQ
    refine mmC_step ?_
    simp only [cd_116, sg_116_0, sg_116_8, sg_116_9, mmK_cut cd_116, q_cons, q_G0, q_GS, q_I1, q_L1, q_A1, q_S0, q_S1, q_SS, q_T0, q_T1, q_TS, q_Kn, q_Ki, q_Kl, q_Kr, q_k0, q_kS, q_rc, q_ps, q_pn, q_iload1, q_if_eq, q_aload0, q_getfieldI, q_goto, q_iconst, q_ireturn0, mmKo_10, mmKo_5, mmR32, mmR64, Option.some.injEq, Int.cast_ofNat_Int, and_true, true_and, if_true, if_false, List.length_cons, List.length_nil, Nat.le_refl, Nat.zero_le, Nat.sub_zero, forall_const, reduceCtorEq, Nat.reduceAdd, Nat.reduceSub, Nat.reduceLeDiff, Nat.reduceEqDiff, Int.reduceAdd, Int.reduceNeg, Int.reduceSub, Int.reduceLT, Int.reduceLE, Int.reduceMul, Int.reduceEq, List.drop_zero, List.drop_succ_cons, ne_eq, not_false_eq_true, not_true_eq_false, false_and, and_false, false_implies, true_implies, reduceIte, mmU_rd, implies_true, or_false, false_or, or_true, true_or]
    refine mmC_step ?_
    simp only [cd_116, sg_116_0, sg_116_8, sg_116_9, mmK_cut cd_116, q_cons, q_G0, q_GS, q_I1, q_L1, q_A1, q_S0, q_S1, q_SS, q_T0, q_T1, q_TS, q_Kn, q_Ki, q_Kl, q_Kr, q_k0, q_kS, q_rc, q_ps, q_pn, q_iload1, q_if_eq, q_aload0, q_getfieldI, q_goto, q_iconst, q_ireturn0, mmKo_10, mmKo_5, mmR32, mmR64, Option.some.injEq, Int.cast_ofNat_Int, and_true, true_and, if_true, if_false, List.length_cons, List.length_nil, Nat.le_refl, Nat.zero_le, Nat.sub_zero, forall_const, reduceCtorEq, Nat.reduceAdd, Nat.reduceSub, Nat.reduceLeDiff, Nat.reduceEqDiff, Int.reduceAdd, Int.reduceNeg, Int.reduceSub, Int.reduceLT, Int.reduceLE, Int.reduceMul, Int.reduceEq, List.drop_zero, List.drop_succ_cons, ne_eq, not_false_eq_true, not_true_eq_false, false_and, and_false, false_implies, true_implies, reduceIte, mmU_rd, implies_true, or_false, false_or, or_true, true_or]
    exact hQ I br FrG_refl hI
  · have c := Classical.not_not.mp c
    obtain ⟨n, rfl⟩ := Int.eq_ofNat_of_zero_le c.1
    unfold a_end at hQ
    rw [cI_pos c] at hQ
    rw [q_invV (pay := [])]
    simp only [q_k0, q_kS, q_rc, mmKo_10]
    refine ⟨Nat.le_of_ble_eq_true rfl, by trivial, Nat.zero_le _, Nat.zero_le _, ?_⟩
    refine c_seenI (by omega) hI (fun I1 b1 f1 h1 hR => ?_)
    simp only [mmK_cut cd_116, q_cons, q_G0, q_GS, q_I1, q_L1, q_A1, q_S0, q_S1, q_SS, q_T0, q_T1, q_TS, q_Kn, q_Ki, q_Kl, q_Kr, q_k0, q_kS, q_rc, q_ps, q_pn, q_iload1, q_if_eq, q_aload0, q_getfieldI, q_goto, q_iconst, q_ireturn0, mmKo_10, mmKo_5, mmR32, mmR64, Option.some.injEq, Int.cast_ofNat_Int, and_true, true_and, if_true, if_false, List.length_cons, List.length_nil, Nat.le_refl, Nat.zero_le, Nat.sub_zero, forall_const, reduceCtorEq, Nat.reduceAdd, Nat.reduceSub, Nat.reduceLeDiff, Nat.reduceEqDiff, Int.reduceAdd, Int.reduceNeg, Int.reduceSub, Int.reduceLT, Int.reduceLE, Int.reduceMul, Int.reduceEq, List.drop_zero, List.drop_succ_cons, ne_eq, not_false_eq_true, not_true_eq_false, false_and, and_false, false_implies, true_implies, reduceIte, mmU_rd, implies_true, or_false, false_or, or_true, true_or]
    rw [RV_E hR]
    refine mmC_step ?_
    simp only [cd_116, sg_116_0, sg_116_8, sg_116_9, mmK_cut cd_116, q_cons, q_G0, q_GS, q_I1, q_L1, q_A1, q_S0, q_S1, q_SS, q_T0, q_T1, q_TS, q_Kn, q_Ki, q_Kl, q_Kr, q_k0, q_kS, q_rc, q_ps, q_pn, q_iload1, q_if_eq, q_aload0, q_getfieldI, q_goto, q_iconst, q_ireturn0, mmKo_10, mmKo_5, mmR32, mmR64, Option.some.injEq, Int.cast_ofNat_Int, and_true, true_and, if_true, if_false, List.length_cons, List.length_nil, Nat.le_refl, Nat.zero_le, Nat.sub_zero, forall_const, reduceCtorEq, Nat.reduceAdd, Nat.reduceSub, Nat.reduceLeDiff, Nat.reduceEqDiff, Int.reduceAdd, Int.reduceNeg, Int.reduceSub, Int.reduceLT, Int.reduceLE, Int.reduceMul, Int.reduceEq, List.drop_zero, List.drop_succ_cons, ne_eq, not_false_eq_true, not_true_eq_false, false_and, and_false, false_implies, true_implies, reduceIte, mmU_rd, implies_true, or_false, false_or, or_true, true_or]
    exact hQ I1 b1 f1 h1
theorem c_moves (hI : CI I br a r L) (hQ : aQ I a r L X Q (mv (a_moves r L w))) : mmC (d + 8) 117 [mo 10 0, mv w] (I, mmRf a br, X) Q := by
  refine mmC_in (by decide) (Nat.le_of_ble_eq_true rfl) (mmC_step ?_)
  simp only [show mmMl 117 = 2 from rfl, mmLs, List.replicate, cd_117, sg_117_0, sg_117_8, sg_117_9, mmK_cut cd_117, q_cons, q_G0, q_GS, q_I1, q_L1, q_A1, q_S0, q_S1, q_SS, q_T0, q_T1, q_TS, q_Kn, q_Ki, q_Kl, q_Kr, q_k0, q_kS, q_rc, q_ps, q_pn, q_iload1, q_if_eq, q_aload0, q_getfieldI, q_goto, q_iconst, q_ireturn0, mmKo_10, mmKo_5, mmR32, mmR64, Option.some.injEq, Int.cast_ofNat_Int, and_true, true_and, if_true, if_false, List.length_cons, List.length_nil, Nat.le_refl, Nat.zero_le, Nat.sub_zero, forall_const, reduceCtorEq, Nat.reduceAdd, Nat.reduceSub, Nat.reduceLeDiff, Nat.reduceEqDiff, Int.reduceAdd, Int.reduceNeg, Int.reduceSub, Int.reduceLT, Int.reduceLE, Int.reduceMul, Int.reduceEq, List.drop_zero, List.drop_succ_cons, ne_eq, not_false_eq_true, not_true_eq_false, false_and, and_false, false_implies, true_implies, reduceIte, mmU_rd, implies_true, or_false, false_or, or_true, true_or]
  rw [q_invS (pay := [])]
  simp only [q_k0, q_kS]
  refine ⟨Nat.le_of_ble_eq_true rfl, Nat.zero_le _, Nat.zero_le _, ?_⟩
  refine sp_isView ?_
  simp only [mmK_cut cd_117, q_cons, q_G0, q_GS, q_I1, q_L1, q_A1, q_S0, q_S1, q_SS, q_T0, q_T1, q_TS, q_Kn, q_Ki, q_Kl, q_Kr, q_k0, q_kS, q_rc, q_ps, q_pn, q_iload1, q_if_eq, q_aload0, q_getfieldI, q_goto, q_iconst, q_ireturn0, mmKo_10, mmKo_5, mmR32, mmR64, Option.some.injEq, Int.cast_ofNat_Int, and_true, true_and, if_true, if_false, List.length_cons, List.length_nil, Nat.le_refl, Nat.zero_le, Nat.sub_zero, forall_const, reduceCtorEq, Nat.reduceAdd, Nat.reduceSub, Nat.reduceLeDiff, Nat.reduceEqDiff, Int.reduceAdd, Int.reduceNeg, Int.reduceSub, Int.reduceLT, Int.reduceLE, Int.reduceMul, Int.reduceEq, List.drop_zero, List.drop_succ_cons, ne_eq, not_false_eq_true, not_true_eq_false, false_and, and_false, false_implies, true_implies, reduceIte, mmU_rd, implies_true, or_false, false_or, or_true, true_or, bI_eq0]
  refine ⟨fun c => ?_, fun c => ?_⟩
  · unfold a_moves at hQ
    rw [cI_neg c] at hQ
    refine mmC_step ?_
    simp only [cd_117, sg_117_0, sg_117_8, sg_117_9, mmK_cut cd_117, q_cons, q_G0, q_GS, q_I1, q_L1, q_A1, q_S0, q_S1, q_SS, q_T0, q_T1, q_TS, q_Kn, q_Ki, q_Kl, q_Kr, q_k0, q_kS, q_rc, q_ps, q_pn, q_iload1, q_if_eq, q_aload0, q_getfieldI, q_goto, q_iconst, q_ireturn0, mmKo_10, mmKo_5, mmR32, mmR64, Option.some.injEq, Int.cast_ofNat_Int, and_true, true_and, if_true, if_false, List.length_cons, List.length_nil, Nat.le_refl, Nat.zero_le, Nat.sub_zero, forall_const, reduceCtorEq, Nat.reduceAdd, Nat.reduceSub, Nat.reduceLeDiff, Nat.reduceEqDiff, Int.reduceAdd, Int.reduceNeg, Int.reduceSub, Int.reduceLT, Int.reduceLE, Int.reduceMul, Int.reduceEq, List.drop_zero, List.drop_succ_cons, ne_eq, not_false_eq_true, not_true_eq_false, false_and, and_false, false_implies, true_implies, reduceIte, mmU_rd, implies_true, or_false, false_or, or_true, true_or]
    refine mmC_step ?_
    simp only [cd_117, sg_117_0, sg_117_8, sg_117_9, mmK_cut cd_117, q_cons, q_G0, q_GS, q_I1, q_L1, q_A1, q_S0, q_S1, q_SS, q_T0, q_T1, q_TS, q_Kn, q_Ki, q_Kl, q_Kr, q_k0, q_kS, q_rc, q_ps, q_pn, q_iload1, q_if_eq, q_aload0, q_getfieldI, q_goto, q_iconst, q_ireturn0, mmKo_10, mmKo_5, mmR32, mmR64, Option.some.injEq, Int.cast_ofNat_Int, and_true, true_and, if_true, if_false, List.length_cons, List.length_nil, Nat.le_refl, Nat.zero_le, Nat.sub_zero, forall_const, reduceCtorEq, Nat.reduceAdd, Nat.reduceSub, Nat.reduceLeDiff, Nat.reduceEqDiff, Int.reduceAdd, Int.reduceNeg, Int.reduceSub, Int.reduceLT, Int.reduceLE, Int.reduceMul, Int.reduceEq, List.drop_zero, List.drop_succ_cons, ne_eq, not_false_eq_true, not_true_eq_false, false_and, and_false, false_implies, true_implies, reduceIte, mmU_rd, implies_true, or_false, false_or, or_true, true_or]
    exact hQ I br FrG_refl hI
  · have c := Classical.not_not.mp c
    obtain ⟨n, rfl⟩ := Int.eq_ofNat_of_zero_le c.1
    unfold a_moves at hQ
    rw [cI_pos c] at hQ
    rw [q_invV (pay := [])]
    simp only [q_k0, q_kS, q_rc, mmKo_10]
    refine ⟨Nat.le_of_ble_eq_true rfl, by trivial, Nat.zero_le _, Nat.zero_le _, ?_⟩
    refine c_seenI (by omega) hI (fun I1 b1 f1 h1 hR => ?_)
    simp only [mmK_cut cd_117, q_cons, q_G0, q_GS, q_I1, q_L1, q_A1, q_S0, q_S1, q_SS, q_T0, q_T1, q_TS, q_Kn, q_Ki, q_Kl, q_Kr, q_k0, q_kS, q_rc, q_ps, q_pn, q_iload1, q_if_eq, q_aload0, q_getfieldI, q_goto, q_iconst, q_ireturn0, mmKo_10, mmKo_5, mmR32, mmR64, Option.some.injEq, Int.cast_ofNat_Int, and_true, true_and, if_true, if_false, List.length_cons, List.length_nil, Nat.le_refl, Nat.zero_le, Nat.sub_zero, forall_const, reduceCtorEq, Nat.reduceAdd, Nat.reduceSub, Nat.reduceLeDiff, Nat.reduceEqDiff, Int.reduceAdd, Int.reduceNeg, Int.reduceSub, Int.reduceLT, Int.reduceLE, Int.reduceMul, Int.reduceEq, List.drop_zero, List.drop_succ_cons, ne_eq, not_false_eq_true, not_true_eq_false, false_and, and_false, false_implies, true_implies, reduceIte, mmU_rd, implies_true, or_false, false_or, or_true, true_or]
    rw [vM_in hR]
    refine mmC_step ?_
    simp only [cd_117, sg_117_0, sg_117_8, sg_117_9, mmK_cut cd_117, q_cons, q_G0, q_GS, q_I1, q_L1, q_A1, q_S0, q_S1, q_SS, q_T0, q_T1, q_TS, q_Kn, q_Ki, q_Kl, q_Kr, q_k0, q_kS, q_rc, q_ps, q_pn, q_iload1, q_if_eq, q_aload0, q_getfieldI, q_goto, q_iconst, q_ireturn0, mmKo_10, mmKo_5, mmR32, mmR64, Option.some.injEq, Int.cast_ofNat_Int, and_true, true_and, if_true, if_false, List.length_cons, List.length_nil, Nat.le_refl, Nat.zero_le, Nat.sub_zero, forall_const, reduceCtorEq, Nat.reduceAdd, Nat.reduceSub, Nat.reduceLeDiff, Nat.reduceEqDiff, Int.reduceAdd, Int.reduceNeg, Int.reduceSub, Int.reduceLT, Int.reduceLE, Int.reduceMul, Int.reduceEq, List.drop_zero, List.drop_succ_cons, ne_eq, not_false_eq_true, not_true_eq_false, false_and, and_false, false_implies, true_implies, reduceIte, mmU_rd, implies_true, or_false, false_or, or_true, true_or]
    exact hQ I1 b1 f1 h1
theorem c_row (hI : CI I br a r L) (hQ : aQ I a r L X Q (mv (a_row r L w k))) : mmC (d + 8) 112 [mo 10 0, mv w, mv k] (I, mmRf a br, X) Q := by
  have w12 : ∀ I1 b1, FrG I I1 → CI I1 b1 a r L → ¬ (isW w ∧ 0 ≤ k ∧ k < vN r L w) → mmK (d + 7) 112 Q 12 [some (mo 10 0), some (mv w), some (mv k)] [] (I1, mmRf a b1, X) := by
    intro I1 b1 f1 h1 c
    unfold a_row at hQ
    rw [cI_neg c] at hQ
    refine mmC_step ?_
    simp only [cd_112, sg_112_0, sg_112_12, sg_112_14, mmK_cut cd_112, q_cons, q_G0, q_GS, q_I1, q_L1, q_A1, q_S0, q_S1, q_SS, q_T0, q_T1, q_TS, q_Kn, q_Ki, q_Kl, q_Kr, q_k0, q_kS, q_rc, q_ps, q_pn, q_iload1, q_if_eq, q_iload2, q_if_lt, q_aload0, q_getfieldA, q_getfieldI, q_icmp_lt, q_iconst, q_ireturn0, q_iaload, rf_5_2, rf_5_3, mmKe_603, mmKo_0, mmKo_10, mmKo_5, mmLen_603, mmR32, mmR64, Option.some.injEq, Int.cast_ofNat_Int, and_true, true_and, if_true, if_false, List.length_cons, List.length_nil, Nat.le_refl, Nat.zero_le, Nat.sub_zero, forall_const, reduceCtorEq, Nat.reduceAdd, Nat.reduceSub, Nat.reduceLeDiff, Nat.reduceEqDiff, Int.reduceAdd, Int.reduceNeg, Int.reduceSub, Int.reduceLT, Int.reduceLE, Int.reduceMul, Int.reduceEq, List.drop_zero, List.drop_succ_cons, ne_eq, not_false_eq_true, not_true_eq_false, false_and, and_false, false_implies, true_implies, reduceIte, mmU_rd, implies_true, or_false, false_or, or_true, true_or]
    exact hQ I1 b1 f1 h1
  refine mmC_in (by decide) (Nat.le_of_ble_eq_true rfl) (mmC_step ?_)
  simp only [show mmMl 112 = 3 from rfl, mmLs, List.replicate, cd_112, sg_112_0, sg_112_12, sg_112_14, mmK_cut cd_112, q_cons, q_G0, q_GS, q_I1, q_L1, q_A1, q_S0, q_S1, q_SS, q_T0, q_T1, q_TS, q_Kn, q_Ki, q_Kl, q_Kr, q_k0, q_kS, q_rc, q_ps, q_pn, q_iload1, q_if_eq, q_iload2, q_if_lt, q_aload0, q_getfieldA, q_getfieldI, q_icmp_lt, q_iconst, q_ireturn0, q_iaload, rf_5_2, rf_5_3, mmKe_603, mmKo_0, mmKo_10, mmKo_5, mmLen_603, mmR32, mmR64, Option.some.injEq, Int.cast_ofNat_Int, and_true, true_and, if_true, if_false, List.length_cons, List.length_nil, Nat.le_refl, Nat.zero_le, Nat.sub_zero, forall_const, reduceCtorEq, Nat.reduceAdd, Nat.reduceSub, Nat.reduceLeDiff, Nat.reduceEqDiff, Int.reduceAdd, Int.reduceNeg, Int.reduceSub, Int.reduceLT, Int.reduceLE, Int.reduceMul, Int.reduceEq, List.drop_zero, List.drop_succ_cons, ne_eq, not_false_eq_true, not_true_eq_false, false_and, and_false, false_implies, true_implies, reduceIte, mmU_rd, implies_true, or_false, false_or, or_true, true_or]
  rw [q_invS (pay := [])]
  simp only [q_k0, q_kS]
  refine ⟨Nat.le_of_ble_eq_true rfl, Nat.zero_le _, Nat.zero_le _, ?_⟩
  refine sp_isView ?_
  simp only [mmK_cut cd_112, q_cons, q_G0, q_GS, q_I1, q_L1, q_A1, q_S0, q_S1, q_SS, q_T0, q_T1, q_TS, q_Kn, q_Ki, q_Kl, q_Kr, q_k0, q_kS, q_rc, q_ps, q_pn, q_iload1, q_if_eq, q_iload2, q_if_lt, q_aload0, q_getfieldA, q_getfieldI, q_icmp_lt, q_iconst, q_ireturn0, q_iaload, rf_5_2, rf_5_3, mmKe_603, mmKo_0, mmKo_10, mmKo_5, mmLen_603, mmR32, mmR64, Option.some.injEq, Int.cast_ofNat_Int, and_true, true_and, if_true, if_false, List.length_cons, List.length_nil, Nat.le_refl, Nat.zero_le, Nat.sub_zero, forall_const, reduceCtorEq, Nat.reduceAdd, Nat.reduceSub, Nat.reduceLeDiff, Nat.reduceEqDiff, Int.reduceAdd, Int.reduceNeg, Int.reduceSub, Int.reduceLT, Int.reduceLE, Int.reduceMul, Int.reduceEq, List.drop_zero, List.drop_succ_cons, ne_eq, not_false_eq_true, not_true_eq_false, false_and, and_false, false_implies, true_implies, reduceIte, mmU_rd, implies_true, or_false, false_or, or_true, true_or, bI_eq0]
  refine ⟨fun c => w12 I br FrG_refl hI (fun q => c q.1), fun c => ⟨fun c2 => w12 I br FrG_refl hI (fun q => by omega), fun c2 => ?_⟩⟩
  have c := Classical.not_not.mp c
  obtain ⟨n, rfl⟩ := Int.eq_ofNat_of_zero_le c.1
  rw [q_invV (pay := [])]
  simp only [q_k0, q_kS, q_rc, mmKo_10]
  refine ⟨Nat.le_of_ble_eq_true rfl, by trivial, Nat.zero_le _, Nat.zero_le _, ?_⟩
  refine c_seenI (by omega) hI (fun I1 b1 f1 h1 hR => ?_)
  simp only [mmK_cut cd_112, q_cons, q_G0, q_GS, q_I1, q_L1, q_A1, q_S0, q_S1, q_SS, q_T0, q_T1, q_TS, q_Kn, q_Ki, q_Kl, q_Kr, q_k0, q_kS, q_rc, q_ps, q_pn, q_iload1, q_if_eq, q_iload2, q_if_lt, q_aload0, q_getfieldA, q_getfieldI, q_icmp_lt, q_iconst, q_ireturn0, q_iaload, rf_5_2, rf_5_3, mmKe_603, mmKo_0, mmKo_10, mmKo_5, mmLen_603, mmR32, mmR64, Option.some.injEq, Int.cast_ofNat_Int, and_true, true_and, if_true, if_false, List.length_cons, List.length_nil, Nat.le_refl, Nat.zero_le, Nat.sub_zero, forall_const, reduceCtorEq, Nat.reduceAdd, Nat.reduceSub, Nat.reduceLeDiff, Nat.reduceEqDiff, Int.reduceAdd, Int.reduceNeg, Int.reduceSub, Int.reduceLT, Int.reduceLE, Int.reduceMul, Int.reduceEq, List.drop_zero, List.drop_succ_cons, ne_eq, not_false_eq_true, not_true_eq_false, false_and, and_false, false_implies, true_implies, reduceIte, mmU_rd, implies_true, or_false, false_or, or_true, true_or]
  rw [RV_N hR]
  refine ⟨fun c3 => ?_, fun c3 => w12 I1 b1 f1 h1 (fun q => by have := q.2.2; omega)⟩
  refine mmC_step ?_
  simp only [cd_112, sg_112_0, sg_112_12, sg_112_14, mmK_cut cd_112, q_cons, q_G0, q_GS, q_I1, q_L1, q_A1, q_S0, q_S1, q_SS, q_T0, q_T1, q_TS, q_Kn, q_Ki, q_Kl, q_Kr, q_k0, q_kS, q_rc, q_ps, q_pn, q_iload1, q_if_eq, q_iload2, q_if_lt, q_aload0, q_getfieldA, q_getfieldI, q_icmp_lt, q_iconst, q_ireturn0, q_iaload, rf_5_2, rf_5_3, mmKe_603, mmKo_0, mmKo_10, mmKo_5, mmLen_603, mmR32, mmR64, Option.some.injEq, Int.cast_ofNat_Int, and_true, true_and, if_true, if_false, List.length_cons, List.length_nil, Nat.le_refl, Nat.zero_le, Nat.sub_zero, forall_const, reduceCtorEq, Nat.reduceAdd, Nat.reduceSub, Nat.reduceLeDiff, Nat.reduceEqDiff, Int.reduceAdd, Int.reduceNeg, Int.reduceSub, Int.reduceLT, Int.reduceLE, Int.reduceMul, Int.reduceEq, List.drop_zero, List.drop_succ_cons, ne_eq, not_false_eq_true, not_true_eq_false, false_and, and_false, false_implies, true_implies, reduceIte, mmU_rd, implies_true, or_false, false_or, or_true, true_or]
  rw [q_invV (pay := [])]
  simp only [q_k0, q_kS, q_rc, mmKo_10]
  refine ⟨Nat.le_of_ble_eq_true rfl, by trivial, Nat.zero_le _, Nat.zero_le _, ?_⟩
  refine c_seenI (by omega) h1 (fun I2 b2 f2 h2 hR2 => ?_)
  simp only [mmK_cut cd_112, q_cons, q_G0, q_GS, q_I1, q_L1, q_A1, q_S0, q_S1, q_SS, q_T0, q_T1, q_TS, q_Kn, q_Ki, q_Kl, q_Kr, q_k0, q_kS, q_rc, q_ps, q_pn, q_iload1, q_if_eq, q_iload2, q_if_lt, q_aload0, q_getfieldA, q_getfieldI, q_icmp_lt, q_iconst, q_ireturn0, q_iaload, rf_5_2, rf_5_3, mmKe_603, mmKo_0, mmKo_10, mmKo_5, mmLen_603, mmR32, mmR64, Option.some.injEq, Int.cast_ofNat_Int, and_true, true_and, if_true, if_false, List.length_cons, List.length_nil, Nat.le_refl, Nat.zero_le, Nat.sub_zero, forall_const, reduceCtorEq, Nat.reduceAdd, Nat.reduceSub, Nat.reduceLeDiff, Nat.reduceEqDiff, Int.reduceAdd, Int.reduceNeg, Int.reduceSub, Int.reduceLT, Int.reduceLE, Int.reduceMul, Int.reduceEq, List.drop_zero, List.drop_succ_cons, ne_eq, not_false_eq_true, not_true_eq_false, false_and, and_false, false_implies, true_implies, reduceIte, mmU_rd, implies_true, or_false, false_or, or_true, true_or]
  have hN := (vB_in h2.2.1 h2.2.2.1 h2.2.2.2.2.1 (n : Int)).2
  rw [(RV_p hR2 c2 c3).1]
  unfold a_row at hQ
  rw [cI_pos ⟨c, c2, c3⟩] at hQ
  refine ⟨c2, by omega, hQ I2 b2 (FrG_trans f1 f2) h2⟩
theorem c_by (hI : CI I br a r L) (hQ : aQ I a r L X Q (mv (a_by r L w k))) : mmC (d + 8) 113 [mo 10 0, mv w, mv k] (I, mmRf a br, X) Q := by
  have w12 : ∀ I1 b1, FrG I I1 → CI I1 b1 a r L → ¬ (isW w ∧ 0 ≤ k ∧ k < vN r L w) → mmK (d + 7) 113 Q 12 [some (mo 10 0), some (mv w), some (mv k)] [] (I1, mmRf a b1, X) := by
    intro I1 b1 f1 h1 c
    unfold a_by at hQ
    rw [cI_neg c] at hQ
    refine mmC_step ?_
    simp only [cd_113, sg_113_0, sg_113_12, sg_113_14, mmK_cut cd_113, q_cons, q_G0, q_GS, q_I1, q_L1, q_A1, q_S0, q_S1, q_SS, q_T0, q_T1, q_TS, q_Kn, q_Ki, q_Kl, q_Kr, q_k0, q_kS, q_rc, q_ps, q_pn, q_iload1, q_if_eq, q_iload2, q_if_lt, q_aload0, q_getfieldA, q_getfieldI, q_icmp_lt, q_iconst, q_ireturn0, q_iaload, rf_5_2, rf_5_4, mmKe_604, mmKo_0, mmKo_10, mmKo_5, mmLen_604, mmR32, mmR64, Option.some.injEq, Int.cast_ofNat_Int, and_true, true_and, if_true, if_false, List.length_cons, List.length_nil, Nat.le_refl, Nat.zero_le, Nat.sub_zero, forall_const, reduceCtorEq, Nat.reduceAdd, Nat.reduceSub, Nat.reduceLeDiff, Nat.reduceEqDiff, Int.reduceAdd, Int.reduceNeg, Int.reduceSub, Int.reduceLT, Int.reduceLE, Int.reduceMul, Int.reduceEq, List.drop_zero, List.drop_succ_cons, ne_eq, not_false_eq_true, not_true_eq_false, false_and, and_false, false_implies, true_implies, reduceIte, mmU_rd, implies_true, or_false, false_or, or_true, true_or]
    exact hQ I1 b1 f1 h1
  refine mmC_in (by decide) (Nat.le_of_ble_eq_true rfl) (mmC_step ?_)
  simp only [show mmMl 113 = 3 from rfl, mmLs, List.replicate, cd_113, sg_113_0, sg_113_12, sg_113_14, mmK_cut cd_113, q_cons, q_G0, q_GS, q_I1, q_L1, q_A1, q_S0, q_S1, q_SS, q_T0, q_T1, q_TS, q_Kn, q_Ki, q_Kl, q_Kr, q_k0, q_kS, q_rc, q_ps, q_pn, q_iload1, q_if_eq, q_iload2, q_if_lt, q_aload0, q_getfieldA, q_getfieldI, q_icmp_lt, q_iconst, q_ireturn0, q_iaload, rf_5_2, rf_5_4, mmKe_604, mmKo_0, mmKo_10, mmKo_5, mmLen_604, mmR32, mmR64, Option.some.injEq, Int.cast_ofNat_Int, and_true, true_and, if_true, if_false, List.length_cons, List.length_nil, Nat.le_refl, Nat.zero_le, Nat.sub_zero, forall_const, reduceCtorEq, Nat.reduceAdd, Nat.reduceSub, Nat.reduceLeDiff, Nat.reduceEqDiff, Int.reduceAdd, Int.reduceNeg, Int.reduceSub, Int.reduceLT, Int.reduceLE, Int.reduceMul, Int.reduceEq, List.drop_zero, List.drop_succ_cons, ne_eq, not_false_eq_true, not_true_eq_false, false_and, and_false, false_implies, true_implies, reduceIte, mmU_rd, implies_true, or_false, false_or, or_true, true_or]
  rw [q_invS (pay := [])]
  simp only [q_k0, q_kS]
  refine ⟨Nat.le_of_ble_eq_true rfl, Nat.zero_le _, Nat.zero_le _, ?_⟩
  refine sp_isView ?_
  simp only [mmK_cut cd_113, q_cons, q_G0, q_GS, q_I1, q_L1, q_A1, q_S0, q_S1, q_SS, q_T0, q_T1, q_TS, q_Kn, q_Ki, q_Kl, q_Kr, q_k0, q_kS, q_rc, q_ps, q_pn, q_iload1, q_if_eq, q_iload2, q_if_lt, q_aload0, q_getfieldA, q_getfieldI, q_icmp_lt, q_iconst, q_ireturn0, q_iaload, rf_5_2, rf_5_4, mmKe_604, mmKo_0, mmKo_10, mmKo_5, mmLen_604, mmR32, mmR64, Option.some.injEq, Int.cast_ofNat_Int, and_true, true_and, if_true, if_false, List.length_cons, List.length_nil, Nat.le_refl, Nat.zero_le, Nat.sub_zero, forall_const, reduceCtorEq, Nat.reduceAdd, Nat.reduceSub, Nat.reduceLeDiff, Nat.reduceEqDiff, Int.reduceAdd, Int.reduceNeg, Int.reduceSub, Int.reduceLT, Int.reduceLE, Int.reduceMul, Int.reduceEq, List.drop_zero, List.drop_succ_cons, ne_eq, not_false_eq_true, not_true_eq_false, false_and, and_false, false_implies, true_implies, reduceIte, mmU_rd, implies_true, or_false, false_or, or_true, true_or, bI_eq0]
  refine ⟨fun c => w12 I br FrG_refl hI (fun q => c q.1), fun c => ⟨fun c2 => w12 I br FrG_refl hI (fun q => by omega), fun c2 => ?_⟩⟩
  have c := Classical.not_not.mp c
  obtain ⟨n, rfl⟩ := Int.eq_ofNat_of_zero_le c.1
  rw [q_invV (pay := [])]
  simp only [q_k0, q_kS, q_rc, mmKo_10]
  refine ⟨Nat.le_of_ble_eq_true rfl, by trivial, Nat.zero_le _, Nat.zero_le _, ?_⟩
  refine c_seenI (by omega) hI (fun I1 b1 f1 h1 hR => ?_)
  simp only [mmK_cut cd_113, q_cons, q_G0, q_GS, q_I1, q_L1, q_A1, q_S0, q_S1, q_SS, q_T0, q_T1, q_TS, q_Kn, q_Ki, q_Kl, q_Kr, q_k0, q_kS, q_rc, q_ps, q_pn, q_iload1, q_if_eq, q_iload2, q_if_lt, q_aload0, q_getfieldA, q_getfieldI, q_icmp_lt, q_iconst, q_ireturn0, q_iaload, rf_5_2, rf_5_4, mmKe_604, mmKo_0, mmKo_10, mmKo_5, mmLen_604, mmR32, mmR64, Option.some.injEq, Int.cast_ofNat_Int, and_true, true_and, if_true, if_false, List.length_cons, List.length_nil, Nat.le_refl, Nat.zero_le, Nat.sub_zero, forall_const, reduceCtorEq, Nat.reduceAdd, Nat.reduceSub, Nat.reduceLeDiff, Nat.reduceEqDiff, Int.reduceAdd, Int.reduceNeg, Int.reduceSub, Int.reduceLT, Int.reduceLE, Int.reduceMul, Int.reduceEq, List.drop_zero, List.drop_succ_cons, ne_eq, not_false_eq_true, not_true_eq_false, false_and, and_false, false_implies, true_implies, reduceIte, mmU_rd, implies_true, or_false, false_or, or_true, true_or]
  rw [RV_N hR]
  refine ⟨fun c3 => ?_, fun c3 => w12 I1 b1 f1 h1 (fun q => by have := q.2.2; omega)⟩
  refine mmC_step ?_
  simp only [cd_113, sg_113_0, sg_113_12, sg_113_14, mmK_cut cd_113, q_cons, q_G0, q_GS, q_I1, q_L1, q_A1, q_S0, q_S1, q_SS, q_T0, q_T1, q_TS, q_Kn, q_Ki, q_Kl, q_Kr, q_k0, q_kS, q_rc, q_ps, q_pn, q_iload1, q_if_eq, q_iload2, q_if_lt, q_aload0, q_getfieldA, q_getfieldI, q_icmp_lt, q_iconst, q_ireturn0, q_iaload, rf_5_2, rf_5_4, mmKe_604, mmKo_0, mmKo_10, mmKo_5, mmLen_604, mmR32, mmR64, Option.some.injEq, Int.cast_ofNat_Int, and_true, true_and, if_true, if_false, List.length_cons, List.length_nil, Nat.le_refl, Nat.zero_le, Nat.sub_zero, forall_const, reduceCtorEq, Nat.reduceAdd, Nat.reduceSub, Nat.reduceLeDiff, Nat.reduceEqDiff, Int.reduceAdd, Int.reduceNeg, Int.reduceSub, Int.reduceLT, Int.reduceLE, Int.reduceMul, Int.reduceEq, List.drop_zero, List.drop_succ_cons, ne_eq, not_false_eq_true, not_true_eq_false, false_and, and_false, false_implies, true_implies, reduceIte, mmU_rd, implies_true, or_false, false_or, or_true, true_or]
  rw [q_invV (pay := [])]
  simp only [q_k0, q_kS, q_rc, mmKo_10]
  refine ⟨Nat.le_of_ble_eq_true rfl, by trivial, Nat.zero_le _, Nat.zero_le _, ?_⟩
  refine c_seenI (by omega) h1 (fun I2 b2 f2 h2 hR2 => ?_)
  simp only [mmK_cut cd_113, q_cons, q_G0, q_GS, q_I1, q_L1, q_A1, q_S0, q_S1, q_SS, q_T0, q_T1, q_TS, q_Kn, q_Ki, q_Kl, q_Kr, q_k0, q_kS, q_rc, q_ps, q_pn, q_iload1, q_if_eq, q_iload2, q_if_lt, q_aload0, q_getfieldA, q_getfieldI, q_icmp_lt, q_iconst, q_ireturn0, q_iaload, rf_5_2, rf_5_4, mmKe_604, mmKo_0, mmKo_10, mmKo_5, mmLen_604, mmR32, mmR64, Option.some.injEq, Int.cast_ofNat_Int, and_true, true_and, if_true, if_false, List.length_cons, List.length_nil, Nat.le_refl, Nat.zero_le, Nat.sub_zero, forall_const, reduceCtorEq, Nat.reduceAdd, Nat.reduceSub, Nat.reduceLeDiff, Nat.reduceEqDiff, Int.reduceAdd, Int.reduceNeg, Int.reduceSub, Int.reduceLT, Int.reduceLE, Int.reduceMul, Int.reduceEq, List.drop_zero, List.drop_succ_cons, ne_eq, not_false_eq_true, not_true_eq_false, false_and, and_false, false_implies, true_implies, reduceIte, mmU_rd, implies_true, or_false, false_or, or_true, true_or]
  have hN := (vB_in h2.2.1 h2.2.2.1 h2.2.2.2.2.1 (n : Int)).2
  rw [(RV_p hR2 c2 c3).2]
  unfold a_by at hQ
  rw [cI_pos ⟨c, c2, c3⟩] at hQ
  refine ⟨c2, by omega, hQ I2 b2 (FrG_trans f1 f2) h2⟩
theorem c_move (hI : CI I br a r L) (hQ : aQ I a r L X Q (mv (a_move r L w k))) : mmC (d + 8) 118 [mo 10 0, mv w, mv k] (I, mmRf a br, X) Q := by
  have w12 : ∀ I1 b1, FrG I I1 → CI I1 b1 a r L → ¬ (isW w ∧ 0 ≤ k ∧ k < vM r L w) → mmK (d + 7) 118 Q 11 [some (mo 10 0), some (mv w), some (mv k)] [] (I1, mmRf a b1, X) := by
    intro I1 b1 f1 h1 c
    unfold a_move at hQ
    rw [cI_neg c] at hQ
    refine mmC_step ?_
    simp only [cd_118, sg_118_0, sg_118_11, sg_118_13, mmK_cut cd_118, q_cons, q_G0, q_GS, q_I1, q_L1, q_A1, q_S0, q_S1, q_SS, q_T0, q_T1, q_TS, q_Kn, q_Ki, q_Kl, q_Kr, q_k0, q_kS, q_rc, q_ps, q_pn, q_iload1, q_if_eq, q_iload2, q_if_lt, q_aload0, q_getfieldI, q_icmp_lt, q_iconst, q_ireturn0, q_getfieldA, q_iaload, rf_5_6, mmKe_606, mmKo_10, mmKo_5, mmLen_606, mmR32, mmR64, Option.some.injEq, Int.cast_ofNat_Int, and_true, true_and, if_true, if_false, List.length_cons, List.length_nil, Nat.le_refl, Nat.zero_le, Nat.sub_zero, forall_const, reduceCtorEq, Nat.reduceAdd, Nat.reduceSub, Nat.reduceLeDiff, Nat.reduceEqDiff, Int.reduceAdd, Int.reduceNeg, Int.reduceSub, Int.reduceLT, Int.reduceLE, Int.reduceMul, Int.reduceEq, List.drop_zero, List.drop_succ_cons, ne_eq, not_false_eq_true, not_true_eq_false, false_and, and_false, false_implies, true_implies, reduceIte, mmU_rd, implies_true, or_false, false_or, or_true, true_or]
    exact hQ I1 b1 f1 h1
  refine mmC_in (by decide) (Nat.le_of_ble_eq_true rfl) (mmC_step ?_)
  simp only [show mmMl 118 = 3 from rfl, mmLs, List.replicate, cd_118, sg_118_0, sg_118_11, sg_118_13, mmK_cut cd_118, q_cons, q_G0, q_GS, q_I1, q_L1, q_A1, q_S0, q_S1, q_SS, q_T0, q_T1, q_TS, q_Kn, q_Ki, q_Kl, q_Kr, q_k0, q_kS, q_rc, q_ps, q_pn, q_iload1, q_if_eq, q_iload2, q_if_lt, q_aload0, q_getfieldI, q_icmp_lt, q_iconst, q_ireturn0, q_getfieldA, q_iaload, rf_5_6, mmKe_606, mmKo_10, mmKo_5, mmLen_606, mmR32, mmR64, Option.some.injEq, Int.cast_ofNat_Int, and_true, true_and, if_true, if_false, List.length_cons, List.length_nil, Nat.le_refl, Nat.zero_le, Nat.sub_zero, forall_const, reduceCtorEq, Nat.reduceAdd, Nat.reduceSub, Nat.reduceLeDiff, Nat.reduceEqDiff, Int.reduceAdd, Int.reduceNeg, Int.reduceSub, Int.reduceLT, Int.reduceLE, Int.reduceMul, Int.reduceEq, List.drop_zero, List.drop_succ_cons, ne_eq, not_false_eq_true, not_true_eq_false, false_and, and_false, false_implies, true_implies, reduceIte, mmU_rd, implies_true, or_false, false_or, or_true, true_or]
  rw [q_invS (pay := [])]
  simp only [q_k0, q_kS]
  refine ⟨Nat.le_of_ble_eq_true rfl, Nat.zero_le _, Nat.zero_le _, ?_⟩
  refine sp_isView ?_
  simp only [mmK_cut cd_118, q_cons, q_G0, q_GS, q_I1, q_L1, q_A1, q_S0, q_S1, q_SS, q_T0, q_T1, q_TS, q_Kn, q_Ki, q_Kl, q_Kr, q_k0, q_kS, q_rc, q_ps, q_pn, q_iload1, q_if_eq, q_iload2, q_if_lt, q_aload0, q_getfieldI, q_icmp_lt, q_iconst, q_ireturn0, q_getfieldA, q_iaload, rf_5_6, mmKe_606, mmKo_10, mmKo_5, mmLen_606, mmR32, mmR64, Option.some.injEq, Int.cast_ofNat_Int, and_true, true_and, if_true, if_false, List.length_cons, List.length_nil, Nat.le_refl, Nat.zero_le, Nat.sub_zero, forall_const, reduceCtorEq, Nat.reduceAdd, Nat.reduceSub, Nat.reduceLeDiff, Nat.reduceEqDiff, Int.reduceAdd, Int.reduceNeg, Int.reduceSub, Int.reduceLT, Int.reduceLE, Int.reduceMul, Int.reduceEq, List.drop_zero, List.drop_succ_cons, ne_eq, not_false_eq_true, not_true_eq_false, false_and, and_false, false_implies, true_implies, reduceIte, mmU_rd, implies_true, or_false, false_or, or_true, true_or, bI_eq0]
  refine ⟨fun c => w12 I br FrG_refl hI (fun q => c q.1), fun c => ⟨fun c2 => w12 I br FrG_refl hI (fun q => by omega), fun c2 => ?_⟩⟩
  have c := Classical.not_not.mp c
  obtain ⟨n, rfl⟩ := Int.eq_ofNat_of_zero_le c.1
  rw [q_invV (pay := [])]
  simp only [q_k0, q_kS, q_rc, mmKo_10]
  refine ⟨Nat.le_of_ble_eq_true rfl, by trivial, Nat.zero_le _, Nat.zero_le _, ?_⟩
  refine c_seenI (by omega) hI (fun I1 b1 f1 h1 hR => ?_)
  simp only [mmK_cut cd_118, q_cons, q_G0, q_GS, q_I1, q_L1, q_A1, q_S0, q_S1, q_SS, q_T0, q_T1, q_TS, q_Kn, q_Ki, q_Kl, q_Kr, q_k0, q_kS, q_rc, q_ps, q_pn, q_iload1, q_if_eq, q_iload2, q_if_lt, q_aload0, q_getfieldI, q_icmp_lt, q_iconst, q_ireturn0, q_getfieldA, q_iaload, rf_5_6, mmKe_606, mmKo_10, mmKo_5, mmLen_606, mmR32, mmR64, Option.some.injEq, Int.cast_ofNat_Int, and_true, true_and, if_true, if_false, List.length_cons, List.length_nil, Nat.le_refl, Nat.zero_le, Nat.sub_zero, forall_const, reduceCtorEq, Nat.reduceAdd, Nat.reduceSub, Nat.reduceLeDiff, Nat.reduceEqDiff, Int.reduceAdd, Int.reduceNeg, Int.reduceSub, Int.reduceLT, Int.reduceLE, Int.reduceMul, Int.reduceEq, List.drop_zero, List.drop_succ_cons, ne_eq, not_false_eq_true, not_true_eq_false, false_and, and_false, false_implies, true_implies, reduceIte, mmU_rd, implies_true, or_false, false_or, or_true, true_or]
  rw [vM_in hR]
  refine ⟨fun c3 => ?_, fun c3 => w12 I1 b1 f1 h1 (fun q => by have := q.2.2; omega)⟩
  refine mmC_step ?_
  simp only [cd_118, sg_118_0, sg_118_11, sg_118_13, mmK_cut cd_118, q_cons, q_G0, q_GS, q_I1, q_L1, q_A1, q_S0, q_S1, q_SS, q_T0, q_T1, q_TS, q_Kn, q_Ki, q_Kl, q_Kr, q_k0, q_kS, q_rc, q_ps, q_pn, q_iload1, q_if_eq, q_iload2, q_if_lt, q_aload0, q_getfieldI, q_icmp_lt, q_iconst, q_ireturn0, q_getfieldA, q_iaload, rf_5_6, mmKe_606, mmKo_10, mmKo_5, mmLen_606, mmR32, mmR64, Option.some.injEq, Int.cast_ofNat_Int, and_true, true_and, if_true, if_false, List.length_cons, List.length_nil, Nat.le_refl, Nat.zero_le, Nat.sub_zero, forall_const, reduceCtorEq, Nat.reduceAdd, Nat.reduceSub, Nat.reduceLeDiff, Nat.reduceEqDiff, Int.reduceAdd, Int.reduceNeg, Int.reduceSub, Int.reduceLT, Int.reduceLE, Int.reduceMul, Int.reduceEq, List.drop_zero, List.drop_succ_cons, ne_eq, not_false_eq_true, not_true_eq_false, false_and, and_false, false_implies, true_implies, reduceIte, mmU_rd, implies_true, or_false, false_or, or_true, true_or]
  rw [q_invV (pay := [])]
  simp only [q_k0, q_kS, q_rc, mmKo_10]
  refine ⟨Nat.le_of_ble_eq_true rfl, by trivial, Nat.zero_le _, Nat.zero_le _, ?_⟩
  refine c_seenI (by omega) h1 (fun I2 b2 f2 h2 hR2 => ?_)
  simp only [mmK_cut cd_118, q_cons, q_G0, q_GS, q_I1, q_L1, q_A1, q_S0, q_S1, q_SS, q_T0, q_T1, q_TS, q_Kn, q_Ki, q_Kl, q_Kr, q_k0, q_kS, q_rc, q_ps, q_pn, q_iload1, q_if_eq, q_iload2, q_if_lt, q_aload0, q_getfieldI, q_icmp_lt, q_iconst, q_ireturn0, q_getfieldA, q_iaload, rf_5_6, mmKe_606, mmKo_10, mmKo_5, mmLen_606, mmR32, mmR64, Option.some.injEq, Int.cast_ofNat_Int, and_true, true_and, if_true, if_false, List.length_cons, List.length_nil, Nat.le_refl, Nat.zero_le, Nat.sub_zero, forall_const, reduceCtorEq, Nat.reduceAdd, Nat.reduceSub, Nat.reduceLeDiff, Nat.reduceEqDiff, Int.reduceAdd, Int.reduceNeg, Int.reduceSub, Int.reduceLT, Int.reduceLE, Int.reduceMul, Int.reduceEq, List.drop_zero, List.drop_succ_cons, ne_eq, not_false_eq_true, not_true_eq_false, false_and, and_false, false_implies, true_implies, reduceIte, mmU_rd, implies_true, or_false, false_or, or_true, true_or]
  have hB := (vB_in h2.2.1 h2.2.2.1 h2.2.2.2.2.1 (n : Int)).1
  have hlen := vlen h2.2.1 h2.2.2.1 h2.2.2.2.2.1 (n : Int)
  unfold a_move at hQ
  rw [cI_pos ⟨c, c2, c3⟩] at hQ
  have hE : vE r L n = 0 := by
    by_cases q : vE r L n = 0
    · exact q
    · unfold vM at c3; rw [cI_neg q] at c3; omega
  unfold vM at c3
  rw [cI_pos hE] at c3
  have hRO := (RV_O hR2 hE).2 k.toNat (by omega)
  rw [show ((k.toNat : Nat) : Int) = k by omega] at hRO
  rw [hRO]
  refine ⟨c2, by omega, hQ I2 b2 (FrG_trans f1 f2) h2⟩
theorem c_at (hI : CI I br a r L) (hQ : aQ I a r L X Q (mv (a_at r L w k))) : mmC (d + 8) 114 [mo 10 0, mv w, mv k] (I, mmRf a br, X) Q := by
  have w10 : ¬ (isW w ∧ 0 ≤ k ∧ k < r 6 0 * r 6 1) → mmK (d + 7) 114 Q 10 [some (mo 10 0), some (mv w), some (mv k)] [] (I, mmRf a br, X) := by
    intro c
    unfold a_at at hQ
    rw [cI_neg c] at hQ
    refine mmC_step ?_
    simp only [cd_114, sg_114_0, sg_114_10, sg_114_12, mmK_cut cd_114, q_cons, q_G0, q_GS, q_I1, q_L1, q_A1, q_S0, q_S1, q_SS, q_T0, q_T1, q_TS, q_Kn, q_Ki, q_Kl, q_Kr, q_k0, q_kS, q_rc, q_ps, q_pn, q_iload1, q_if_eq, q_iload2, q_if_lt, q_aload0, q_getfieldA, q_icmp_lt, q_iconst, q_ireturn0, q_iaload, rf_0_1, rf_10_2, rf_5_2, mmKe_101, mmKo_0, mmKo_10, mmKo_5, mmKo_6, mmLen_101, mmR32, mmR64, Option.some.injEq, Int.cast_ofNat_Int, and_true, true_and, if_true, if_false, List.length_cons, List.length_nil, Nat.le_refl, Nat.zero_le, Nat.sub_zero, forall_const, reduceCtorEq, Nat.reduceAdd, Nat.reduceSub, Nat.reduceLeDiff, Nat.reduceEqDiff, Int.reduceAdd, Int.reduceNeg, Int.reduceSub, Int.reduceLT, Int.reduceLE, Int.reduceMul, Int.reduceEq, List.drop_zero, List.drop_succ_cons, ne_eq, not_false_eq_true, not_true_eq_false, false_and, and_false, false_implies, true_implies, reduceIte, mmU_rd, implies_true, or_false, false_or, or_true, true_or]
    exact hQ I br FrG_refl hI
  refine mmC_in (by decide) (Nat.le_of_ble_eq_true rfl) (mmC_step ?_)
  simp only [show mmMl 114 = 3 from rfl, mmLs, List.replicate, cd_114, sg_114_0, sg_114_10, sg_114_12, mmK_cut cd_114, q_cons, q_G0, q_GS, q_I1, q_L1, q_A1, q_S0, q_S1, q_SS, q_T0, q_T1, q_TS, q_Kn, q_Ki, q_Kl, q_Kr, q_k0, q_kS, q_rc, q_ps, q_pn, q_iload1, q_if_eq, q_iload2, q_if_lt, q_aload0, q_getfieldA, q_icmp_lt, q_iconst, q_ireturn0, q_iaload, rf_0_1, rf_10_2, rf_5_2, mmKe_101, mmKo_0, mmKo_10, mmKo_5, mmKo_6, mmLen_101, mmR32, mmR64, Option.some.injEq, Int.cast_ofNat_Int, and_true, true_and, if_true, if_false, List.length_cons, List.length_nil, Nat.le_refl, Nat.zero_le, Nat.sub_zero, forall_const, reduceCtorEq, Nat.reduceAdd, Nat.reduceSub, Nat.reduceLeDiff, Nat.reduceEqDiff, Int.reduceAdd, Int.reduceNeg, Int.reduceSub, Int.reduceLT, Int.reduceLE, Int.reduceMul, Int.reduceEq, List.drop_zero, List.drop_succ_cons, ne_eq, not_false_eq_true, not_true_eq_false, false_and, and_false, false_implies, true_implies, reduceIte, mmU_rd, implies_true, or_false, false_or, or_true, true_or]
  rw [q_invS (pay := [])]
  simp only [q_k0, q_kS]
  refine ⟨Nat.le_of_ble_eq_true rfl, Nat.zero_le _, Nat.zero_le _, ?_⟩
  refine sp_isView ?_
  simp only [mmK_cut cd_114, q_cons, q_G0, q_GS, q_I1, q_L1, q_A1, q_S0, q_S1, q_SS, q_T0, q_T1, q_TS, q_Kn, q_Ki, q_Kl, q_Kr, q_k0, q_kS, q_rc, q_ps, q_pn, q_iload1, q_if_eq, q_iload2, q_if_lt, q_aload0, q_getfieldA, q_icmp_lt, q_iconst, q_ireturn0, q_iaload, rf_0_1, rf_10_2, rf_5_2, mmKe_101, mmKo_0, mmKo_10, mmKo_5, mmKo_6, mmLen_101, mmR32, mmR64, Option.some.injEq, Int.cast_ofNat_Int, and_true, true_and, if_true, if_false, List.length_cons, List.length_nil, Nat.le_refl, Nat.zero_le, Nat.sub_zero, forall_const, reduceCtorEq, Nat.reduceAdd, Nat.reduceSub, Nat.reduceLeDiff, Nat.reduceEqDiff, Int.reduceAdd, Int.reduceNeg, Int.reduceSub, Int.reduceLT, Int.reduceLE, Int.reduceMul, Int.reduceEq, List.drop_zero, List.drop_succ_cons, ne_eq, not_false_eq_true, not_true_eq_false, false_and, and_false, false_implies, true_implies, reduceIte, mmU_rd, implies_true, or_false, false_or, or_true, true_or, bI_eq0]
  refine ⟨fun c => w10 (fun q => c q.1), fun c => ⟨fun c2 => w10 (fun q => by omega), fun c2 => ?_⟩⟩
  have c := Classical.not_not.mp c
  obtain ⟨n, rfl⟩ := Int.eq_ofNat_of_zero_le c.1
  rw [q_invV (pay := [])]
  simp only [q_k0, q_kS, q_rc, mmKo_6]
  refine ⟨Nat.le_of_ble_eq_true rfl, by trivial, Nat.zero_le _, Nat.zero_le _, ?_⟩
  refine sp_points hI.1 hI.2.1.1 ?_
  simp only [mmK_cut cd_114, q_cons, q_G0, q_GS, q_I1, q_L1, q_A1, q_S0, q_S1, q_SS, q_T0, q_T1, q_TS, q_Kn, q_Ki, q_Kl, q_Kr, q_k0, q_kS, q_rc, q_ps, q_pn, q_iload1, q_if_eq, q_iload2, q_if_lt, q_aload0, q_getfieldA, q_icmp_lt, q_iconst, q_ireturn0, q_iaload, rf_0_1, rf_10_2, rf_5_2, mmKe_101, mmKo_0, mmKo_10, mmKo_5, mmKo_6, mmLen_101, mmR32, mmR64, Option.some.injEq, Int.cast_ofNat_Int, and_true, true_and, if_true, if_false, List.length_cons, List.length_nil, Nat.le_refl, Nat.zero_le, Nat.sub_zero, forall_const, reduceCtorEq, Nat.reduceAdd, Nat.reduceSub, Nat.reduceLeDiff, Nat.reduceEqDiff, Int.reduceAdd, Int.reduceNeg, Int.reduceSub, Int.reduceLT, Int.reduceLE, Int.reduceMul, Int.reduceEq, List.drop_zero, List.drop_succ_cons, ne_eq, not_false_eq_true, not_true_eq_false, false_and, and_false, false_implies, true_implies, reduceIte, mmU_rd, implies_true, or_false, false_or, or_true, true_or]
  refine ⟨fun c3 => ?_, fun c3 => w10 (fun q => by have := q.2.2; omega)⟩
  have h25 := (pt_in hI.2.1.1.1 hI.2.1.1.2.1 (x := 0) (y := 0) (by have := hI.2.1.1.1; omega) (by have := hI.2.1.1.2.1; omega)).2.2.1
  refine mmC_step ?_
  simp only [cd_114, sg_114_0, sg_114_10, sg_114_12, mmK_cut cd_114, q_cons, q_G0, q_GS, q_I1, q_L1, q_A1, q_S0, q_S1, q_SS, q_T0, q_T1, q_TS, q_Kn, q_Ki, q_Kl, q_Kr, q_k0, q_kS, q_rc, q_ps, q_pn, q_iload1, q_if_eq, q_iload2, q_if_lt, q_aload0, q_getfieldA, q_icmp_lt, q_iconst, q_ireturn0, q_iaload, rf_0_1, rf_10_2, rf_5_2, mmKe_101, mmKo_0, mmKo_10, mmKo_5, mmKo_6, mmLen_101, mmR32, mmR64, Option.some.injEq, Int.cast_ofNat_Int, and_true, true_and, if_true, if_false, List.length_cons, List.length_nil, Nat.le_refl, Nat.zero_le, Nat.sub_zero, forall_const, reduceCtorEq, Nat.reduceAdd, Nat.reduceSub, Nat.reduceLeDiff, Nat.reduceEqDiff, Int.reduceAdd, Int.reduceNeg, Int.reduceSub, Int.reduceLT, Int.reduceLE, Int.reduceMul, Int.reduceEq, List.drop_zero, List.drop_succ_cons, ne_eq, not_false_eq_true, not_true_eq_false, false_and, and_false, false_implies, true_implies, reduceIte, mmU_rd, implies_true, or_false, false_or, or_true, true_or]
  rw [q_invV (pay := [])]
  simp only [q_k0, q_kS, q_rc, mmKo_10]
  refine ⟨Nat.le_of_ble_eq_true rfl, by trivial, Nat.zero_le _, Nat.zero_le _, ?_⟩
  refine c_seenI (by omega) hI (fun I1 b1 f1 h1 hR => ?_)
  simp only [mmK_cut cd_114, q_cons, q_G0, q_GS, q_I1, q_L1, q_A1, q_S0, q_S1, q_SS, q_T0, q_T1, q_TS, q_Kn, q_Ki, q_Kl, q_Kr, q_k0, q_kS, q_rc, q_ps, q_pn, q_iload1, q_if_eq, q_iload2, q_if_lt, q_aload0, q_getfieldA, q_icmp_lt, q_iconst, q_ireturn0, q_iaload, rf_0_1, rf_10_2, rf_5_2, mmKe_101, mmKo_0, mmKo_10, mmKo_5, mmKo_6, mmLen_101, mmR32, mmR64, Option.some.injEq, Int.cast_ofNat_Int, and_true, true_and, if_true, if_false, List.length_cons, List.length_nil, Nat.le_refl, Nat.zero_le, Nat.sub_zero, forall_const, reduceCtorEq, Nat.reduceAdd, Nat.reduceSub, Nat.reduceLeDiff, Nat.reduceEqDiff, Int.reduceAdd, Int.reduceNeg, Int.reduceSub, Int.reduceLT, Int.reduceLE, Int.reduceMul, Int.reduceEq, List.drop_zero, List.drop_succ_cons, ne_eq, not_false_eq_true, not_true_eq_false, false_and, and_false, false_implies, true_implies, reduceIte, mmU_rd, implies_true, or_false, false_or, or_true, true_or]
  unfold a_at at hQ
  rw [cI_pos ⟨c, c2, c3⟩] at hQ
  rw [(RV_B hR).1 k c2 (by omega)]
  refine ⟨c2, by omega, hQ I1 b1 f1 h1⟩
theorem c_lawQ (hI : CI I br a r L) (hQ : aQ I a r L X Q (ml (a_law r L w v))) : mmC (d + 8) 119 [mo 10 0, mv w, mv v] (I, mmRf a br, X) Q := by
  have w6 : ¬ (isW w ∧ 0 ≤ v ∧ v ≤ 4095) → mmK (d + 7) 119 Q 6 [some (mo 10 0), some (mv w), some (mv v)] [] (I, mmRf a br, X) := by
    intro c
    unfold a_law at hQ
    rw [cI_neg c] at hQ
    refine mmC_step ?_
    simp only [cd_119, sg_119_0, sg_119_6, sg_119_8, mmK_cut cd_119, q_cons, q_G0, q_GS, q_I1, q_L1, q_A1, q_S0, q_S1, q_SS, q_T0, q_T1, q_TS, q_Kn, q_Ki, q_Kl, q_Kr, q_k0, q_kS, q_rc, q_ps, q_pn, q_iload1, q_if_eq, q_iload2, q_if_ne, q_ldc2_w, q_lreturn, q_aload0, q_getfieldA, rf_5_2, mmKo_0, mmKo_10, mmKo_5, mmR32, mmR64, Option.some.injEq, Int.cast_ofNat_Int, and_true, true_and, if_true, if_false, List.length_cons, List.length_nil, Nat.le_refl, Nat.zero_le, Nat.sub_zero, forall_const, reduceCtorEq, Nat.reduceAdd, Nat.reduceSub, Nat.reduceLeDiff, Nat.reduceEqDiff, Int.reduceAdd, Int.reduceNeg, Int.reduceSub, Int.reduceLT, Int.reduceLE, Int.reduceMul, Int.reduceEq, List.drop_zero, List.drop_succ_cons, ne_eq, not_false_eq_true, not_true_eq_false, false_and, and_false, false_implies, true_implies, reduceIte, mmU_rd, implies_true, or_false, false_or, or_true, true_or]
    exact hQ I br FrG_refl hI
  refine mmC_in (by decide) (Nat.le_of_ble_eq_true rfl) (mmC_step ?_)
  simp only [show mmMl 119 = 3 from rfl, mmLs, List.replicate, cd_119, sg_119_0, sg_119_6, sg_119_8, mmK_cut cd_119, q_cons, q_G0, q_GS, q_I1, q_L1, q_A1, q_S0, q_S1, q_SS, q_T0, q_T1, q_TS, q_Kn, q_Ki, q_Kl, q_Kr, q_k0, q_kS, q_rc, q_ps, q_pn, q_iload1, q_if_eq, q_iload2, q_if_ne, q_ldc2_w, q_lreturn, q_aload0, q_getfieldA, rf_5_2, mmKo_0, mmKo_10, mmKo_5, mmR32, mmR64, Option.some.injEq, Int.cast_ofNat_Int, and_true, true_and, if_true, if_false, List.length_cons, List.length_nil, Nat.le_refl, Nat.zero_le, Nat.sub_zero, forall_const, reduceCtorEq, Nat.reduceAdd, Nat.reduceSub, Nat.reduceLeDiff, Nat.reduceEqDiff, Int.reduceAdd, Int.reduceNeg, Int.reduceSub, Int.reduceLT, Int.reduceLE, Int.reduceMul, Int.reduceEq, List.drop_zero, List.drop_succ_cons, ne_eq, not_false_eq_true, not_true_eq_false, false_and, and_false, false_implies, true_implies, reduceIte, mmU_rd, implies_true, or_false, false_or, or_true, true_or]
  rw [q_invS (pay := [])]
  simp only [q_k0, q_kS]
  refine ⟨Nat.le_of_ble_eq_true rfl, Nat.zero_le _, Nat.zero_le _, ?_⟩
  refine sp_isView ?_
  simp only [mmK_cut cd_119, q_cons, q_G0, q_GS, q_I1, q_L1, q_A1, q_S0, q_S1, q_SS, q_T0, q_T1, q_TS, q_Kn, q_Ki, q_Kl, q_Kr, q_k0, q_kS, q_rc, q_ps, q_pn, q_iload1, q_if_eq, q_iload2, q_if_ne, q_ldc2_w, q_lreturn, q_aload0, q_getfieldA, rf_5_2, mmKo_0, mmKo_10, mmKo_5, mmR32, mmR64, Option.some.injEq, Int.cast_ofNat_Int, and_true, true_and, if_true, if_false, List.length_cons, List.length_nil, Nat.le_refl, Nat.zero_le, Nat.sub_zero, forall_const, reduceCtorEq, Nat.reduceAdd, Nat.reduceSub, Nat.reduceLeDiff, Nat.reduceEqDiff, Int.reduceAdd, Int.reduceNeg, Int.reduceSub, Int.reduceLT, Int.reduceLE, Int.reduceMul, Int.reduceEq, List.drop_zero, List.drop_succ_cons, ne_eq, not_false_eq_true, not_true_eq_false, false_and, and_false, false_implies, true_implies, reduceIte, mmU_rd, implies_true, or_false, false_or, or_true, true_or, bI_eq0]
  refine ⟨fun c => w6 (fun q => c q.1), fun c => ?_⟩
  have c := Classical.not_not.mp c
  obtain ⟨n, rfl⟩ := Int.eq_ofNat_of_zero_le c.1
  rw [q_invS (pay := [])]
  simp only [q_k0, q_kS]
  refine ⟨Nat.le_of_ble_eq_true rfl, Nat.zero_le _, Nat.zero_le _, ?_⟩
  refine sp_isMove ?_
  simp only [mmK_cut cd_119, q_cons, q_G0, q_GS, q_I1, q_L1, q_A1, q_S0, q_S1, q_SS, q_T0, q_T1, q_TS, q_Kn, q_Ki, q_Kl, q_Kr, q_k0, q_kS, q_rc, q_ps, q_pn, q_iload1, q_if_eq, q_iload2, q_if_ne, q_ldc2_w, q_lreturn, q_aload0, q_getfieldA, rf_5_2, mmKo_0, mmKo_10, mmKo_5, mmR32, mmR64, Option.some.injEq, Int.cast_ofNat_Int, and_true, true_and, if_true, if_false, List.length_cons, List.length_nil, Nat.le_refl, Nat.zero_le, Nat.sub_zero, forall_const, reduceCtorEq, Nat.reduceAdd, Nat.reduceSub, Nat.reduceLeDiff, Nat.reduceEqDiff, Int.reduceAdd, Int.reduceNeg, Int.reduceSub, Int.reduceLT, Int.reduceLE, Int.reduceMul, Int.reduceEq, List.drop_zero, List.drop_succ_cons, ne_eq, not_false_eq_true, not_true_eq_false, false_and, and_false, false_implies, true_implies, reduceIte, mmU_rd, implies_true, or_false, false_or, or_true, true_or, bI_eq0]
  refine ⟨fun c2 => ?_, fun c2 => w6 (fun q => c2 q.2)⟩
  have c2 := Classical.not_not.mp c2
  refine mmC_step ?_
  simp only [cd_119, sg_119_0, sg_119_6, sg_119_8, mmK_cut cd_119, q_cons, q_G0, q_GS, q_I1, q_L1, q_A1, q_S0, q_S1, q_SS, q_T0, q_T1, q_TS, q_Kn, q_Ki, q_Kl, q_Kr, q_k0, q_kS, q_rc, q_ps, q_pn, q_iload1, q_if_eq, q_iload2, q_if_ne, q_ldc2_w, q_lreturn, q_aload0, q_getfieldA, rf_5_2, mmKo_0, mmKo_10, mmKo_5, mmR32, mmR64, Option.some.injEq, Int.cast_ofNat_Int, and_true, true_and, if_true, if_false, List.length_cons, List.length_nil, Nat.le_refl, Nat.zero_le, Nat.sub_zero, forall_const, reduceCtorEq, Nat.reduceAdd, Nat.reduceSub, Nat.reduceLeDiff, Nat.reduceEqDiff, Int.reduceAdd, Int.reduceNeg, Int.reduceSub, Int.reduceLT, Int.reduceLE, Int.reduceMul, Int.reduceEq, List.drop_zero, List.drop_succ_cons, ne_eq, not_false_eq_true, not_true_eq_false, false_and, and_false, false_implies, true_implies, reduceIte, mmU_rd, implies_true, or_false, false_or, or_true, true_or]
  rw [q_invV (pay := [])]
  simp only [q_k0, q_kS, q_rc, mmKo_10]
  refine ⟨Nat.le_of_ble_eq_true rfl, by trivial, Nat.zero_le _, Nat.zero_le _, ?_⟩
  refine c_seenI (by omega) hI (fun I1 b1 f1 h1 hR => ?_)
  have hB := vB_in h1.2.1 h1.2.2.1 h1.2.2.2.2.1 (n : Int)
  simp only [mmK_cut cd_119, q_cons, q_G0, q_GS, q_I1, q_L1, q_A1, q_S0, q_S1, q_SS, q_T0, q_T1, q_TS, q_Kn, q_Ki, q_Kl, q_Kr, q_k0, q_kS, q_rc, q_ps, q_pn, q_iload1, q_if_eq, q_iload2, q_if_ne, q_ldc2_w, q_lreturn, q_aload0, q_getfieldA, rf_5_2, mmKo_0, mmKo_10, mmKo_5, mmR32, mmR64, Option.some.injEq, Int.cast_ofNat_Int, and_true, true_and, if_true, if_false, List.length_cons, List.length_nil, Nat.le_refl, Nat.zero_le, Nat.sub_zero, forall_const, reduceCtorEq, Nat.reduceAdd, Nat.reduceSub, Nat.reduceLeDiff, Nat.reduceEqDiff, Int.reduceAdd, Int.reduceNeg, Int.reduceSub, Int.reduceLT, Int.reduceLE, Int.reduceMul, Int.reduceEq, List.drop_zero, List.drop_succ_cons, ne_eq, not_false_eq_true, not_true_eq_false, false_and, and_false, false_implies, true_implies, reduceIte, mmU_rd, implies_true, or_false, false_or, or_true, true_or]
  rw [q_invV (pay := [])]
  simp only [q_k0, q_kS, q_rc, mmKo_0]
  refine ⟨Nat.le_of_ble_eq_true rfl, by trivial, Nat.zero_le _, Nat.zero_le _, ?_⟩
  refine mT_use (c_lawOfMove hR.1 h1.1 h1.2.1 (RV_B hR) hB.1 ⟨hB.2.1, by omega⟩ c2) (fun u I2 q2 => ?_)
  obtain ⟨rfl, f2⟩ := q2
  obtain ⟨g1, g2, g3⟩ := CI_E h1 (by omega) hR (FrE_A f2) (BV_A (Or.inl rfl) (RV_B hR) f2)
  simp only [mmK_cut cd_119, q_cons, q_G0, q_GS, q_I1, q_L1, q_A1, q_S0, q_S1, q_SS, q_T0, q_T1, q_TS, q_Kn, q_Ki, q_Kl, q_Kr, q_k0, q_kS, q_rc, q_ps, q_pn, q_iload1, q_if_eq, q_iload2, q_if_ne, q_ldc2_w, q_lreturn, q_aload0, q_getfieldA, rf_5_2, mmKo_0, mmKo_10, mmKo_5, mmR32, mmR64, Option.some.injEq, Int.cast_ofNat_Int, and_true, true_and, if_true, if_false, List.length_cons, List.length_nil, Nat.le_refl, Nat.zero_le, Nat.sub_zero, forall_const, reduceCtorEq, Nat.reduceAdd, Nat.reduceSub, Nat.reduceLeDiff, Nat.reduceEqDiff, Int.reduceAdd, Int.reduceNeg, Int.reduceSub, Int.reduceLT, Int.reduceLE, Int.reduceMul, Int.reduceEq, List.drop_zero, List.drop_succ_cons, ne_eq, not_false_eq_true, not_true_eq_false, false_and, and_false, false_implies, true_implies, reduceIte, mmU_rd, implies_true, or_false, false_or, or_true, true_or]
  unfold a_law at hQ
  rw [cI_pos ⟨c, c2⟩] at hQ
  exact hQ I2 b1 (FrG_trans f1 g2) g1
end S850
