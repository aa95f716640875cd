/-- the reference is well: it keeps r, its letters are L -/
def MI (I : mMm) (r : mRu) (L : Nat → Int → Int) : Prop := RK r I ∧ BW r (r 714) ∧ ME I L (L 3) ∧ LW L
/-- what queries may change in the reference -/
def FrNq (I I' : mMm) : Prop := ∀ t i k, ¬ (t = 11 ∧ (k = 2 ∨ k = 58 ∨ k = 63 ∨ k = 64)) → ¬ (1256 ≤ t ∧ t ≤ 1267) → ¬ (1279 ≤ t ∧ t ≤ 1281) → I' t i k = I t i k
/-- an answer of the reference -/
def bQ (I : mMm) (a : Nat) (br : Nat → Option mmO) (X : mmX) (Q : Option mmV → mmM → Prop) (v : mmV) : Prop := ∀ I', FrNq I I' → Q (some v) (I', mmRf a br, X)
section S861
variable {d a : Nat} {I I1 I' I'' : mMm} {br br' : Nat → Option mmO} {R : Nat → Nat → Int → Option mmO} {X : mmX} {L : Nat → Int → Int} {r : mRu} {w k v p n q : Int} {Q : Option mmV → mmM → Prop}
theorem FrNq_trans (h : FrNq I I') (h' : FrNq I' I'') : FrNq I I'' := fun t i k c1 c2 c3 => (h' t i k c1 c2 c3).trans (h t i k c1 c2 c3)
theorem FrNq_refl : FrNq I I := fun _ _ _ _ _ _ => rfl
theorem FrNq_L (h : FrLy I I') : FrNq I I' := fun t i k c1 c2 c3 => h t i k (by omega) c2 (by omega)
theorem FrNq_R {b : Int} (h : FrR b I I') : FrNq I I' := fun t i k c1 c2 c3 => h t i k (by omega) (by omega) (by omega) (by omega) (by omega) (by omega)
theorem FrNq_2 {v : Int} : FrNq I (mmU I 11 0 2 v) := fun t i k c1 c2 c3 => by unfold mmU; rw [if_neg (by omega)]
theorem RK_N (h : RK r I) (hf : FrNq I I') : RK r I' := RK_ext h (fun k hk => hf _ _ _ (by omega) (by omega) (by omega)) (fun t k h1 h2 => hf _ _ _ (by omega) (by omega) (by omega))
theorem ME_N {Ar : Int → Int} (h : ME I L Ar) (hf : FrNq I I') : ME I' L Ar := by
  have e : ∀ t k, (1270 ≤ t ∧ t ≤ 1276) ∨ (t = 11 ∧ (k = 68 ∨ k = 60)) → I' t 0 k = I t 0 k := fun t k ht => hf _ _ _ (by omega) (by omega) (by omega)
  obtain ⟨h1, h2, h3, h4⟩ := h
  refine ⟨(e _ _ (by omega)).trans h1, (e _ _ (by omega)).trans h2, fun l l0 l1 => ?_, fun l k l0 l1 k0 k1 => ?_⟩
  · rw [e _ _ (by omega), e _ _ (by omega), e _ _ (by omega), e _ _ (by omega), e _ _ (by omega)]
    exact h3 l l0 l1
  · rw [e _ _ (by omega), e _ _ (by omega), e _ _ (by omega)]
    exact h4 l k l0 l1 k0 k1
theorem MI_N (h : MI I r L) (hf : FrNq I I') : MI I' r L := ⟨RK_N h.1 hf, h.2.1, ME_N h.2.2.1 hf, h.2.2.2⟩
/-- a view's row in the reference -/
def VRow (I : mMm) (r : mRu) (L : Nat → Int → Int) (w : Int) : Prop := MRow I r L (vT r L w) (vN r L w)
theorem m_layRowQ (hw : isW w) (hI : MI I r L) : mmC (d + 10) 219 [mo 11 0, mv w] (I, mmRf a br, X) (mT a br X fun u I' => u = none ∧ FrNq I I' ∧ MI I' r L ∧ VRow I' r L w) := by
  refine mT_use (m_layRow hw hI.1 hI.2.1 hI.2.2.1 hI.2.2.2) (fun u I1 q => ?_)
  obtain ⟨rfl, f1, h1⟩ := q
  exact mT_in ⟨rfl, FrNq_L f1, MI_N hI (FrNq_L f1), h1⟩
theorem VR_N (h : VRow I r L w) : I 11 0 63 = vN r L w := h.1
theorem VR_E (h : VRow I r L w) : I 11 0 64 = vE r L w := h.2.1
theorem VR_B (h : VRow I r L w) (h0 : 0 ≤ vN r L w) : MB I (vN r L w) (vB r L w) := h.2.2.1 (vN r L w) h0 (Int.le_refl _)
theorem VR_p (h : VRow I r L w) {i : Int} (h0 : 0 ≤ i) (h1 : i < vN r L w) : I 1265 0 i = rV r L (vT r L w) i ∧ I 1266 0 i = (rC r L (vT r L w) i).1 ∧ I 1267 0 i = (rC r L (vT r L w) i).2 := h.2.2.2.1 i h0 h1
theorem VR_M (h : VRow I r L w) : ML I (vN r L w) (mvs r (vB r L w) (vN r L w)) := h.2.2.2.2
theorem vI (h : MI I r L) (w : Int) : RQ r ∧ BW r (vB r L w) ∧ (0 ≤ vN r L w ∧ vN r L w ≤ 60) ∧ ((mvs r (vB r L w) (vN r L w)).length : Int) ≤ 200 := by
  have hq := RQ_of h.1.1 h.1.2.1 h.1.2.2
  have hB := vB_in hq h.2.1 h.2.2.2 w
  exact ⟨hq, hB.1, hB.2, vlen hq h.2.1 h.2.2.2 w⟩
theorem m_isView {R : Nat → Nat → Int → Option mmO} (hQ : Q (some (mv (bI (isW v)))) (I, R, X)) : mmC (d + 2) 220 [mv v] (I, R, X) Q := by
  refine sq_isView ?_
  rw [show (0 ≤ v ∧ v ≤ 3) = isW v from propext ⟨fun h => ⟨h.1, by omega⟩, fun h => ⟨h.1, by have := h.2; omega⟩⟩]
  exact hQ
theorem m_isBit {R : Nat → Nat → Int → Option mmO} (hQ : Q (some (mv (bI (v = 0 ∨ v = 1)))) (I, R, X)) : mmC (d + 1) 145 [mv v, mv 0, mv 1] (I, R, X) Q := by
  refine sq_isIn ?_
  rw [show (0 ≤ v ∧ v ≤ 1) = (v = 0 ∨ v = 1) from propext ⟨fun h => by omega, fun h => by omega⟩]
  exact hQ
theorem m_isAsked {R : Nat → Nat → Int → Option mmO} (hQ : Q (some (mv (bI (isW v ∧ (p = 0 ∨ p = 1) ∧ 0 ≤ n ∧ n ≤ 2)))) (I, R, X)) : mmC (d + 3) 240 [mv v, mv p, mv n] (I, R, X) Q := by
  refine sq_isAsked ?_
  rw [show ((0 ≤ v ∧ v ≤ 3) ∧ (0 ≤ p ∧ p ≤ 1) ∧ 0 ≤ n ∧ n ≤ 2) = (isW v ∧ (p = 0 ∨ p = 1) ∧ 0 ≤ n ∧ n ≤ 2) from propext ⟨fun h => ⟨⟨h.1.1, by omega⟩, by omega, h.2.2⟩, fun h => ⟨⟨h.1.1, by have := h.1.2; omega⟩, by omega, h.2.2⟩⟩]
  exact hQ
theorem m_plies (hI : MI I r L) (hQ : bQ I a br X Q (mv (a_plies r L w))) : mmC (d + 11) 222 [mo 11 0, mv w] (I, mmRf a br, X) Q := by
  have hI2 := MI_N hI (FrNq_2 (v := 0))
  refine mmC_in (by decide) (Nat.le_of_ble_eq_true rfl) (mmC_step ?_)
  simp only [show mmMl 222 = 2 from rfl, mmLs, List.replicate, cd_222, sg_222_0, sg_222_8, mmK_cut cd_222, q_cons, q_G0, q_GS, q_I1, q_L1, q_A1, q_S0, q_S1, q_SS, q_T0, q_T1, q_TS, q_Kn, q_Ki, q_Kl, q_Kr, q_k0, q_kS, q_rc, q_ps, q_pn, q_aload0, q_iconst, q_putfieldI, q_iload1, q_if_ne, q_ireturn0, q_getfieldI, mmKo_11, mmR32, mmR64, Option.some.injEq, Int.cast_ofNat_Int, and_true, true_and, if_true, if_false, List.length_cons, List.length_nil, Nat.le_refl, Nat.zero_le, Nat.sub_zero, forall_const, reduceCtorEq, Nat.reduceAdd, Nat.reduceSub, Nat.reduceLeDiff, Nat.reduceEqDiff, Int.reduceAdd, Int.reduceNeg, Int.reduceSub, Int.reduceLT, Int.reduceLE, Int.reduceMul, Int.reduceEq, List.drop_zero, List.drop_succ_cons, ne_eq, not_false_eq_true, not_true_eq_false, false_and, and_false, false_implies, true_implies, reduceIte, mmU_rd, implies_true, or_false, false_or, or_true, true_or]
  rw [q_invS (pay := [])]
  simp only [q_k0, q_kS]
  refine ⟨Nat.le_of_ble_eq_true rfl, Nat.zero_le _, Nat.zero_le _, ?_⟩
  refine m_isView ?_
  simp only [mmK_cut cd_222, q_cons, q_G0, q_GS, q_I1, q_L1, q_A1, q_S0, q_S1, q_SS, q_T0, q_T1, q_TS, q_Kn, q_Ki, q_Kl, q_Kr, q_k0, q_kS, q_rc, q_ps, q_pn, q_aload0, q_iconst, q_putfieldI, q_iload1, q_if_ne, q_ireturn0, q_getfieldI, mmKo_11, mmR32, mmR64, Option.some.injEq, Int.cast_ofNat_Int, and_true, true_and, if_true, if_false, List.length_cons, List.length_nil, Nat.le_refl, Nat.zero_le, Nat.sub_zero, forall_const, reduceCtorEq, Nat.reduceAdd, Nat.reduceSub, Nat.reduceLeDiff, Nat.reduceEqDiff, Int.reduceAdd, Int.reduceNeg, Int.reduceSub, Int.reduceLT, Int.reduceLE, Int.reduceMul, Int.reduceEq, List.drop_zero, List.drop_succ_cons, ne_eq, not_false_eq_true, not_true_eq_false, false_and, and_false, false_implies, true_implies, reduceIte, mmU_rd, implies_true, or_false, false_or, or_true, true_or, bI_eq0]
  unfold a_plies at hQ
  refine ⟨fun c => ?_, fun c => ?_⟩
  · have c := Classical.not_not.mp c
    rw [cI_pos c] at hQ
    refine mmC_step ?_
    simp only [cd_222, sg_222_0, sg_222_8, mmK_cut cd_222, q_cons, q_G0, q_GS, q_I1, q_L1, q_A1, q_S0, q_S1, q_SS, q_T0, q_T1, q_TS, q_Kn, q_Ki, q_Kl, q_Kr, q_k0, q_kS, q_rc, q_ps, q_pn, q_aload0, q_iconst, q_putfieldI, q_iload1, q_if_ne, q_ireturn0, q_getfieldI, mmKo_11, mmR32, mmR64, Option.some.injEq, Int.cast_ofNat_Int, and_true, true_and, if_true, if_false, List.length_cons, List.length_nil, Nat.le_refl, Nat.zero_le, Nat.sub_zero, forall_const, reduceCtorEq, Nat.reduceAdd, Nat.reduceSub, Nat.reduceLeDiff, Nat.reduceEqDiff, Int.reduceAdd, Int.reduceNeg, Int.reduceSub, Int.reduceLT, Int.reduceLE, Int.reduceMul, Int.reduceEq, List.drop_zero, List.drop_succ_cons, ne_eq, not_false_eq_true, not_true_eq_false, false_and, and_false, false_implies, true_implies, reduceIte, mmU_rd, implies_true, or_false, false_or, or_true, true_or]
    rw [q_invV (pay := [])]
    simp only [q_k0, q_kS, q_rc, mmKo_11]
    refine ⟨Nat.le_of_ble_eq_true rfl, by trivial, Nat.zero_le _, Nat.zero_le _, ?_⟩
    refine mT_use (m_layRowQ c hI2) (fun u I1 q => ?_)
    obtain ⟨rfl, f1, h1, hR⟩ := q
    simp only [mmK_cut cd_222, q_cons, q_G0, q_GS, q_I1, q_L1, q_A1, q_S0, q_S1, q_SS, q_T0, q_T1, q_TS, q_Kn, q_Ki, q_Kl, q_Kr, q_k0, q_kS, q_rc, q_ps, q_pn, q_aload0, q_iconst, q_putfieldI, q_iload1, q_if_ne, q_ireturn0, q_getfieldI, mmKo_11, mmR32, mmR64, Option.some.injEq, Int.cast_ofNat_Int, and_true, true_and, if_true, if_false, List.length_cons, List.length_nil, Nat.le_refl, Nat.zero_le, Nat.sub_zero, forall_const, reduceCtorEq, Nat.reduceAdd, Nat.reduceSub, Nat.reduceLeDiff, Nat.reduceEqDiff, Int.reduceAdd, Int.reduceNeg, Int.reduceSub, Int.reduceLT, Int.reduceLE, Int.reduceMul, Int.reduceEq, List.drop_zero, List.drop_succ_cons, ne_eq, not_false_eq_true, not_true_eq_false, false_and, and_false, false_implies, true_implies, reduceIte, mmU_rd, implies_true, or_false, false_or, or_true, true_or]
    rw [VR_N hR]
    exact hQ I1 (FrNq_trans FrNq_2 f1)
  · rw [cI_neg c] at hQ
    exact hQ _ FrNq_2
theorem m_turn (hI : MI I r L) (hQ : bQ I a br X Q (mv (a_turn r L w))) : mmC (d + 11) 226 [mo 11 0, mv w] (I, mmRf a br, X) Q := by
  have hI2 := MI_N hI (FrNq_2 (v := 0))
  refine mmC_in (by decide) (Nat.le_of_ble_eq_true rfl) (mmC_step ?_)
  simp only [show mmMl 226 = 2 from rfl, mmLs, List.replicate, cd_226, sg_226_0, sg_226_8, mmK_cut cd_226, q_cons, q_G0, q_GS, q_I1, q_L1, q_A1, q_S0, q_S1, q_SS, q_T0, q_T1, q_TS, q_Kn, q_Ki, q_Kl, q_Kr, q_k0, q_kS, q_rc, q_ps, q_pn, q_aload0, q_iconst, q_putfieldI, q_iload1, q_if_ne, q_ireturn0, q_getfieldI, q_irem, mmKo_11, mmR32, mmR64, Option.some.injEq, Int.cast_ofNat_Int, and_true, true_and, if_true, if_false, List.length_cons, List.length_nil, Nat.le_refl, Nat.zero_le, Nat.sub_zero, forall_const, reduceCtorEq, Nat.reduceAdd, Nat.reduceSub, Nat.reduceLeDiff, Nat.reduceEqDiff, Int.reduceAdd, Int.reduceNeg, Int.reduceSub, Int.reduceLT, Int.reduceLE, Int.reduceMul, Int.reduceEq, List.drop_zero, List.drop_succ_cons, ne_eq, not_false_eq_true, not_true_eq_false, false_and, and_false, false_implies, true_implies, reduceIte, mmU_rd, implies_true, or_false, false_or, or_true, true_or]
  rw [q_invS (pay := [])]
  simp only [q_k0, q_kS]
  refine ⟨Nat.le_of_ble_eq_true rfl, Nat.zero_le _, Nat.zero_le _, ?_⟩
  refine m_isView ?_
  simp only [mmK_cut cd_226, q_cons, q_G0, q_GS, q_I1, q_L1, q_A1, q_S0, q_S1, q_SS, q_T0, q_T1, q_TS, q_Kn, q_Ki, q_Kl, q_Kr, q_k0, q_kS, q_rc, q_ps, q_pn, q_aload0, q_iconst, q_putfieldI, q_iload1, q_if_ne, q_ireturn0, q_getfieldI, q_irem, mmKo_11, mmR32, mmR64, Option.some.injEq, Int.cast_ofNat_Int, and_true, true_and, if_true, if_false, List.length_cons, List.length_nil, Nat.le_refl, Nat.zero_le, Nat.sub_zero, forall_const, reduceCtorEq, Nat.reduceAdd, Nat.reduceSub, Nat.reduceLeDiff, Nat.reduceEqDiff, Int.reduceAdd, Int.reduceNeg, Int.reduceSub, Int.reduceLT, Int.reduceLE, Int.reduceMul, Int.reduceEq, List.drop_zero, List.drop_succ_cons, ne_eq, not_false_eq_true, not_true_eq_false, false_and, and_false, false_implies, true_implies, reduceIte, mmU_rd, implies_true, or_false, false_or, or_true, true_or, bI_eq0]
  unfold a_turn at hQ
  refine ⟨fun c => ?_, fun c => ?_⟩
  · have c := Classical.not_not.mp c
    refine mmC_step ?_
    simp only [cd_226, sg_226_0, sg_226_8, mmK_cut cd_226, q_cons, q_G0, q_GS, q_I1, q_L1, q_A1, q_S0, q_S1, q_SS, q_T0, q_T1, q_TS, q_Kn, q_Ki, q_Kl, q_Kr, q_k0, q_kS, q_rc, q_ps, q_pn, q_aload0, q_iconst, q_putfieldI, q_iload1, q_if_ne, q_ireturn0, q_getfieldI, q_irem, mmKo_11, mmR32, mmR64, Option.some.injEq, Int.cast_ofNat_Int, and_true, true_and, if_true, if_false, List.length_cons, List.length_nil, Nat.le_refl, Nat.zero_le, Nat.sub_zero, forall_const, reduceCtorEq, Nat.reduceAdd, Nat.reduceSub, Nat.reduceLeDiff, Nat.reduceEqDiff, Int.reduceAdd, Int.reduceNeg, Int.reduceSub, Int.reduceLT, Int.reduceLE, Int.reduceMul, Int.reduceEq, List.drop_zero, List.drop_succ_cons, ne_eq, not_false_eq_true, not_true_eq_false, false_and, and_false, false_implies, true_implies, reduceIte, mmU_rd, implies_true, or_false, false_or, or_true, true_or]
    rw [q_invV (pay := [])]
    simp only [q_k0, q_kS, q_rc, mmKo_11]
    refine ⟨Nat.le_of_ble_eq_true rfl, by trivial, Nat.zero_le _, Nat.zero_le _, ?_⟩
    refine mT_use (m_layRowQ c hI2) (fun u I1 q => ?_)
    obtain ⟨rfl, f1, h1, hR⟩ := q
    have f2 := FrNq_trans (FrNq_2 (I := I) (v := 0)) f1
    obtain ⟨hq, hB, hN, hlen⟩ := vI h1 w
    simp only [mmK_cut cd_226, q_cons, q_G0, q_GS, q_I1, q_L1, q_A1, q_S0, q_S1, q_SS, q_T0, q_T1, q_TS, q_Kn, q_Ki, q_Kl, q_Kr, q_k0, q_kS, q_rc, q_ps, q_pn, q_aload0, q_iconst, q_putfieldI, q_iload1, q_if_ne, q_ireturn0, q_getfieldI, q_irem, mmKo_11, mmR32, mmR64, Option.some.injEq, Int.cast_ofNat_Int, and_true, true_and, if_true, if_false, List.length_cons, List.length_nil, Nat.le_refl, Nat.zero_le, Nat.sub_zero, forall_const, reduceCtorEq, Nat.reduceAdd, Nat.reduceSub, Nat.reduceLeDiff, Nat.reduceEqDiff, Int.reduceAdd, Int.reduceNeg, Int.reduceSub, Int.reduceLT, Int.reduceLE, Int.reduceMul, Int.reduceEq, List.drop_zero, List.drop_succ_cons, ne_eq, not_false_eq_true, not_true_eq_false, false_and, and_false, false_implies, true_implies, reduceIte, mmU_rd, implies_true, or_false, false_or, or_true, true_or]
    rw [VR_N hR]
    rw [cI_pos c] at hQ
    exact ⟨hN.1, hQ I1 f2⟩
  · rw [cI_neg c] at hQ
    exact hQ _ FrNq_2
theorem m_end (hI : MI I r L) (hQ : bQ I a br X Q (mv (a_end r L w))) : mmC (d + 11) 227 [mo 11 0, mv w] (I, mmRf a br, X) Q := by
  have hI2 := MI_N hI (FrNq_2 (v := 0))
  refine mmC_in (by decide) (Nat.le_of_ble_eq_true rfl) (mmC_step ?_)
  simp only [show mmMl 227 = 2 from rfl, mmLs, List.replicate, cd_227, sg_227_0, sg_227_8, mmK_cut cd_227, q_cons, q_G0, q_GS, q_I1, q_L1, q_A1, q_S0, q_S1, q_SS, q_T0, q_T1, q_TS, q_Kn, q_Ki, q_Kl, q_Kr, q_k0, q_kS, q_rc, q_ps, q_pn, q_aload0, q_iconst, q_putfieldI, q_iload1, q_if_ne, q_ireturn0, q_getfieldI, mmKo_11, mmR32, mmR64, Option.some.injEq, Int.cast_ofNat_Int, and_true, true_and, if_true, if_false, List.length_cons, List.length_nil, Nat.le_refl, Nat.zero_le, Nat.sub_zero, forall_const, reduceCtorEq, Nat.reduceAdd, Nat.reduceSub, Nat.reduceLeDiff, Nat.reduceEqDiff, Int.reduceAdd, Int.reduceNeg, Int.reduceSub, Int.reduceLT, Int.reduceLE, Int.reduceMul, Int.reduceEq, List.drop_zero, List.drop_succ_cons, ne_eq, not_false_eq_true, not_true_eq_false, false_and, and_false, false_implies, true_implies, reduceIte, mmU_rd, implies_true, or_false, false_or, or_true, true_or]
  rw [q_invS (pay := [])]
  simp only [q_k0, q_kS]
  refine ⟨Nat.le_of_ble_eq_true rfl, Nat.zero_le _, Nat.zero_le _, ?_⟩
  refine m_isView ?_
  simp only [mmK_cut cd_227, q_cons, q_G0, q_GS, q_I1, q_L1, q_A1, q_S0, q_S1, q_SS, q_T0, q_T1, q_TS, q_Kn, q_Ki, q_Kl, q_Kr, q_k0, q_kS, q_rc, q_ps, q_pn, q_aload0, q_iconst, q_putfieldI, q_iload1, q_if_ne, q_ireturn0, q_getfieldI, mmKo_11, mmR32, mmR64, Option.some.injEq, Int.cast_ofNat_Int, and_true, true_and, if_true, if_false, List.length_cons, List.length_nil, Nat.le_refl, Nat.zero_le, Nat.sub_zero, forall_const, reduceCtorEq, Nat.reduceAdd, Nat.reduceSub, Nat.reduceLeDiff, Nat.reduceEqDiff, Int.reduceAdd, Int.reduceNeg, Int.reduceSub, Int.reduceLT, Int.reduceLE, Int.reduceMul, Int.reduceEq, List.drop_zero, List.drop_succ_cons, ne_eq, not_false_eq_true, not_true_eq_false, false_and, and_false, false_implies, true_implies, reduceIte, mmU_rd, implies_true, or_false, false_or, or_true, true_or, bI_eq0]
  unfold a_end at hQ
  refine ⟨fun c => ?_, fun c => ?_⟩
  · have c := Classical.not_not.mp c
    refine mmC_step ?_
    simp only [cd_227, sg_227_0, sg_227_8, mmK_cut cd_227, q_cons, q_G0, q_GS, q_I1, q_L1, q_A1, q_S0, q_S1, q_SS, q_T0, q_T1, q_TS, q_Kn, q_Ki, q_Kl, q_Kr, q_k0, q_kS, q_rc, q_ps, q_pn, q_aload0, q_iconst, q_putfieldI, q_iload1, q_if_ne, q_ireturn0, q_getfieldI, mmKo_11, mmR32, mmR64, Option.some.injEq, Int.cast_ofNat_Int, and_true, true_and, if_true, if_false, List.length_cons, List.length_nil, Nat.le_refl, Nat.zero_le, Nat.sub_zero, forall_const, reduceCtorEq, Nat.reduceAdd, Nat.reduceSub, Nat.reduceLeDiff, Nat.reduceEqDiff, Int.reduceAdd, Int.reduceNeg, Int.reduceSub, Int.reduceLT, Int.reduceLE, Int.reduceMul, Int.reduceEq, List.drop_zero, List.drop_succ_cons, ne_eq, not_false_eq_true, not_true_eq_false, false_and, and_false, false_implies, true_implies, reduceIte, mmU_rd, implies_true, or_false, false_or, or_true, true_or]
    rw [q_invV (pay := [])]
    simp only [q_k0, q_kS, q_rc, mmKo_11]
    refine ⟨Nat.le_of_ble_eq_true rfl, by trivial, Nat.zero_le _, Nat.zero_le _, ?_⟩
    refine mT_use (m_layRowQ c hI2) (fun u I1 q => ?_)
    obtain ⟨rfl, f1, h1, hR⟩ := q
    have f2 := FrNq_trans (FrNq_2 (I := I) (v := 0)) f1
    obtain ⟨hq, hB, hN, hlen⟩ := vI h1 w
    simp only [mmK_cut cd_227, q_cons, q_G0, q_GS, q_I1, q_L1, q_A1, q_S0, q_S1, q_SS, q_T0, q_T1, q_TS, q_Kn, q_Ki, q_Kl, q_Kr, q_k0, q_kS, q_rc, q_ps, q_pn, q_aload0, q_iconst, q_putfieldI, q_iload1, q_if_ne, q_ireturn0, q_getfieldI, mmKo_11, mmR32, mmR64, Option.some.injEq, Int.cast_ofNat_Int, and_true, true_and, if_true, if_false, List.length_cons, List.length_nil, Nat.le_refl, Nat.zero_le, Nat.sub_zero, forall_const, reduceCtorEq, Nat.reduceAdd, Nat.reduceSub, Nat.reduceLeDiff, Nat.reduceEqDiff, Int.reduceAdd, Int.reduceNeg, Int.reduceSub, Int.reduceLT, Int.reduceLE, Int.reduceMul, Int.reduceEq, List.drop_zero, List.drop_succ_cons, ne_eq, not_false_eq_true, not_true_eq_false, false_and, and_false, false_implies, true_implies, reduceIte, mmU_rd, implies_true, or_false, false_or, or_true, true_or]
    rw [VR_E hR]
    rw [cI_pos c] at hQ
    exact hQ I1 f2
  · rw [cI_neg c] at hQ
    exact hQ _ FrNq_2
theorem m_moves (hI : MI I r L) (hQ : bQ I a br X Q (mv (a_moves r L w))) : mmC (d + 11) 228 [mo 11 0, mv w] (I, mmRf a br, X) Q := by
  have hI2 := MI_N hI (FrNq_2 (v := 0))
  refine mmC_in (by decide) (Nat.le_of_ble_eq_true rfl) (mmC_step ?_)
  simp only [show mmMl 228 = 2 from rfl, mmLs, List.replicate, cd_228, sg_228_0, sg_228_8, sg_228_20, sg_228_21, mmK_cut cd_228, q_cons, q_G0, q_GS, q_I1, q_L1, q_A1, q_S0, q_S1, q_SS, q_T0, q_T1, q_TS, q_Kn, q_Ki, q_Kl, q_Kr, q_k0, q_kS, q_rc, q_ps, q_pn, q_aload0, q_iconst, q_putfieldI, q_iload1, q_if_ne, q_ireturn0, q_getfieldI, q_getfieldA, q_iaload, q_goto, rf_11_61, mmKe_1261, mmKo_11, mmLen_1261, mmR32, mmR64, Option.some.injEq, Int.cast_ofNat_Int, and_true, true_and, if_true, if_false, List.length_cons, List.length_nil, Nat.le_refl, Nat.zero_le, Nat.sub_zero, forall_const, reduceCtorEq, Nat.reduceAdd, Nat.reduceSub, Nat.reduceLeDiff, Nat.reduceEqDiff, Int.reduceAdd, Int.reduceNeg, Int.reduceSub, Int.reduceLT, Int.reduceLE, Int.reduceMul, Int.reduceEq, List.drop_zero, List.drop_succ_cons, ne_eq, not_false_eq_true, not_true_eq_false, false_and, and_false, false_implies, true_implies, reduceIte, mmU_rd, implies_true, or_false, false_or, or_true, true_or]
  rw [q_invS (pay := [])]
  simp only [q_k0, q_kS]
  refine ⟨Nat.le_of_ble_eq_true rfl, Nat.zero_le _, Nat.zero_le _, ?_⟩
  refine m_isView ?_
  simp only [mmK_cut cd_228, q_cons, q_G0, q_GS, q_I1, q_L1, q_A1, q_S0, q_S1, q_SS, q_T0, q_T1, q_TS, q_Kn, q_Ki, q_Kl, q_Kr, q_k0, q_kS, q_rc, q_ps, q_pn, q_aload0, q_iconst, q_putfieldI, q_iload1, q_if_ne, q_ireturn0, q_getfieldI, q_getfieldA, q_iaload, q_goto, rf_11_61, mmKe_1261, mmKo_11, mmLen_1261, mmR32, mmR64, Option.some.injEq, Int.cast_ofNat_Int, and_true, true_and, if_true, if_false, List.length_cons, List.length_nil, Nat.le_refl, Nat.zero_le, Nat.sub_zero, forall_const, reduceCtorEq, Nat.reduceAdd, Nat.reduceSub, Nat.reduceLeDiff, Nat.reduceEqDiff, Int.reduceAdd, Int.reduceNeg, Int.reduceSub, Int.reduceLT, Int.reduceLE, Int.reduceMul, Int.reduceEq, List.drop_zero, List.drop_succ_cons, ne_eq, not_false_eq_true, not_true_eq_false, false_and, and_false, false_implies, true_implies, reduceIte, mmU_rd, implies_true, or_false, false_or, or_true, true_or, bI_eq0]
  unfold a_moves at hQ
  refine ⟨fun c => ?_, fun c => ?_⟩
  · have c := Classical.not_not.mp c
    refine mmC_step ?_
    simp only [cd_228, sg_228_0, sg_228_8, sg_228_20, sg_228_21, mmK_cut cd_228, q_cons, q_G0, q_GS, q_I1, q_L1, q_A1, q_S0, q_S1, q_SS, q_T0, q_T1, q_TS, q_Kn, q_Ki, q_Kl, q_Kr, q_k0, q_kS, q_rc, q_ps, q_pn, q_aload0, q_iconst, q_putfieldI, q_iload1, q_if_ne, q_ireturn0, q_getfieldI, q_getfieldA, q_iaload, q_goto, rf_11_61, mmKe_1261, mmKo_11, mmLen_1261, mmR32, mmR64, Option.some.injEq, Int.cast_ofNat_Int, and_true, true_and, if_true, if_false, List.length_cons, List.length_nil, Nat.le_refl, Nat.zero_le, Nat.sub_zero, forall_const, reduceCtorEq, Nat.reduceAdd, Nat.reduceSub, Nat.reduceLeDiff, Nat.reduceEqDiff, Int.reduceAdd, Int.reduceNeg, Int.reduceSub, Int.reduceLT, Int.reduceLE, Int.reduceMul, Int.reduceEq, List.drop_zero, List.drop_succ_cons, ne_eq, not_false_eq_true, not_true_eq_false, false_and, and_false, false_implies, true_implies, reduceIte, mmU_rd, implies_true, or_false, false_or, or_true, true_or]
    rw [q_invV (pay := [])]
    simp only [q_k0, q_kS, q_rc, mmKo_11]
    refine ⟨Nat.le_of_ble_eq_true rfl, by trivial, Nat.zero_le _, Nat.zero_le _, ?_⟩
    refine mT_use (m_layRowQ c hI2) (fun u I1 q => ?_)
    obtain ⟨rfl, f1, h1, hR⟩ := q
    have f2 := FrNq_trans (FrNq_2 (I := I) (v := 0)) f1
    obtain ⟨hq, hB, hN, hlen⟩ := vI h1 w
    simp only [mmK_cut cd_228, q_cons, q_G0, q_GS, q_I1, q_L1, q_A1, q_S0, q_S1, q_SS, q_T0, q_T1, q_TS, q_Kn, q_Ki, q_Kl, q_Kr, q_k0, q_kS, q_rc, q_ps, q_pn, q_aload0, q_iconst, q_putfieldI, q_iload1, q_if_ne, q_ireturn0, q_getfieldI, q_getfieldA, q_iaload, q_goto, rf_11_61, mmKe_1261, mmKo_11, mmLen_1261, mmR32, mmR64, Option.some.injEq, Int.cast_ofNat_Int, and_true, true_and, if_true, if_false, List.length_cons, List.length_nil, Nat.le_refl, Nat.zero_le, Nat.sub_zero, forall_const, reduceCtorEq, Nat.reduceAdd, Nat.reduceSub, Nat.reduceLeDiff, Nat.reduceEqDiff, Int.reduceAdd, Int.reduceNeg, Int.reduceSub, Int.reduceLT, Int.reduceLE, Int.reduceMul, Int.reduceEq, List.drop_zero, List.drop_succ_cons, ne_eq, not_false_eq_true, not_true_eq_false, false_and, and_false, false_implies, true_implies, reduceIte, mmU_rd, implies_true, or_false, false_or, or_true, true_or]
    rw [VR_E hR, VR_N hR, (VR_M hR).1]
    rw [cI_pos c] at hQ
    unfold vM at hQ
    refine ⟨fun ce => ?_, fun ce => ⟨hN.1, by omega, ?_⟩⟩
    · rw [cI_neg ce] at hQ
      refine mmC_step ?_
      simp only [cd_228, sg_228_0, sg_228_8, sg_228_20, sg_228_21, mmK_cut cd_228, q_cons, q_G0, q_GS, q_I1, q_L1, q_A1, q_S0, q_S1, q_SS, q_T0, q_T1, q_TS, q_Kn, q_Ki, q_Kl, q_Kr, q_k0, q_kS, q_rc, q_ps, q_pn, q_aload0, q_iconst, q_putfieldI, q_iload1, q_if_ne, q_ireturn0, q_getfieldI, q_getfieldA, q_iaload, q_goto, rf_11_61, mmKe_1261, mmKo_11, mmLen_1261, mmR32, mmR64, Option.some.injEq, Int.cast_ofNat_Int, and_true, true_and, if_true, if_false, List.length_cons, List.length_nil, Nat.le_refl, Nat.zero_le, Nat.sub_zero, forall_const, reduceCtorEq, Nat.reduceAdd, Nat.reduceSub, Nat.reduceLeDiff, Nat.reduceEqDiff, Int.reduceAdd, Int.reduceNeg, Int.reduceSub, Int.reduceLT, Int.reduceLE, Int.reduceMul, Int.reduceEq, List.drop_zero, List.drop_succ_cons, ne_eq, not_false_eq_true, not_true_eq_false, false_and, and_false, false_implies, true_implies, reduceIte, mmU_rd, implies_true, or_false, false_or, or_true, true_or]
      refine mmC_step ?_
      simp only [cd_228, sg_228_0, sg_228_8, sg_228_20, sg_228_21, mmK_cut cd_228, q_cons, q_G0, q_GS, q_I1, q_L1, q_A1, q_S0, q_S1, q_SS, q_T0, q_T1, q_TS, q_Kn, q_Ki, q_Kl, q_Kr, q_k0, q_kS, q_rc, q_ps, q_pn, q_aload0, q_iconst, q_putfieldI, q_iload1, q_if_ne, q_ireturn0, q_getfieldI, q_getfieldA, q_iaload, q_goto, rf_11_61, mmKe_1261, mmKo_11, mmLen_1261, mmR32, mmR64, Option.some.injEq, Int.cast_ofNat_Int, and_true, true_and, if_true, if_false, List.length_cons, List.length_nil, Nat.le_refl, Nat.zero_le, Nat.sub_zero, forall_const, reduceCtorEq, Nat.reduceAdd, Nat.reduceSub, Nat.reduceLeDiff, Nat.reduceEqDiff, Int.reduceAdd, Int.reduceNeg, Int.reduceSub, Int.reduceLT, Int.reduceLE, Int.reduceMul, Int.reduceEq, List.drop_zero, List.drop_succ_cons, ne_eq, not_false_eq_true, not_true_eq_false, false_and, and_false, false_implies, true_implies, reduceIte, mmU_rd, implies_true, or_false, false_or, or_true, true_or]
      exact hQ I1 f2
    · rw [cI_pos ce] at hQ
      refine mmC_step ?_
      simp only [cd_228, sg_228_0, sg_228_8, sg_228_20, sg_228_21, mmK_cut cd_228, q_cons, q_G0, q_GS, q_I1, q_L1, q_A1, q_S0, q_S1, q_SS, q_T0, q_T1, q_TS, q_Kn, q_Ki, q_Kl, q_Kr, q_k0, q_kS, q_rc, q_ps, q_pn, q_aload0, q_iconst, q_putfieldI, q_iload1, q_if_ne, q_ireturn0, q_getfieldI, q_getfieldA, q_iaload, q_goto, rf_11_61, mmKe_1261, mmKo_11, mmLen_1261, mmR32, mmR64, Option.some.injEq, Int.cast_ofNat_Int, and_true, true_and, if_true, if_false, List.length_cons, List.length_nil, Nat.le_refl, Nat.zero_le, Nat.sub_zero, forall_const, reduceCtorEq, Nat.reduceAdd, Nat.reduceSub, Nat.reduceLeDiff, Nat.reduceEqDiff, Int.reduceAdd, Int.reduceNeg, Int.reduceSub, Int.reduceLT, Int.reduceLE, Int.reduceMul, Int.reduceEq, List.drop_zero, List.drop_succ_cons, ne_eq, not_false_eq_true, not_true_eq_false, false_and, and_false, false_implies, true_implies, reduceIte, mmU_rd, implies_true, or_false, false_or, or_true, true_or]
      exact hQ I1 f2
  · rw [cI_neg c] at hQ
    exact hQ _ FrNq_2
theorem m_row (hI : MI I r L) (hQ : bQ I a br X Q (mv (a_row r L w k))) : mmC (d + 11) 223 [mo 11 0, mv w, mv k] (I, mmRf a br, X) Q := by
  have hI2 := MI_N hI (FrNq_2 (v := 0))
  refine mmC_in (by decide) (Nat.le_of_ble_eq_true rfl) (mmC_step ?_)
  simp only [show mmMl 223 = 3 from rfl, mmLs, List.replicate, cd_223, sg_223_0, sg_223_8, sg_223_22, sg_223_23, mmK_cut cd_223, q_cons, q_G0, q_GS, q_I1, q_L1, q_A1, q_S0, q_S1, q_SS, q_T0, q_T1, q_TS, q_Kn, q_Ki, q_Kl, q_Kr, q_k0, q_kS, q_rc, q_ps, q_pn, q_aload0, q_iconst, q_putfieldI, q_iload1, q_if_ne, q_ireturn0, q_iload2, q_if_lt, q_getfieldI, q_icmp_ge, q_getfieldA, q_iaload, q_goto, rf_11_65, mmKe_1265, mmKo_11, mmLen_1265, mmR32, mmR64, Option.some.injEq, Int.cast_ofNat_Int, and_true, true_and, if_true, if_false, List.length_cons, List.length_nil, Nat.le_refl, Nat.zero_le, Nat.sub_zero, forall_const, reduceCtorEq, Nat.reduceAdd, Nat.reduceSub, Nat.reduceLeDiff, Nat.reduceEqDiff, Int.reduceAdd, Int.reduceNeg, Int.reduceSub, Int.reduceLT, Int.reduceLE, Int.reduceMul, Int.reduceEq, List.drop_zero, List.drop_succ_cons, ne_eq, not_false_eq_true, not_true_eq_false, false_and, and_false, false_implies, true_implies, reduceIte, mmU_rd, implies_true, or_false, false_or, or_true, true_or]
  rw [q_invS (pay := [])]
  simp only [q_k0, q_kS]
  refine ⟨Nat.le_of_ble_eq_true rfl, Nat.zero_le _, Nat.zero_le _, ?_⟩
  refine m_isView ?_
  simp only [mmK_cut cd_223, q_cons, q_G0, q_GS, q_I1, q_L1, q_A1, q_S0, q_S1, q_SS, q_T0, q_T1, q_TS, q_Kn, q_Ki, q_Kl, q_Kr, q_k0, q_kS, q_rc, q_ps, q_pn, q_aload0, q_iconst, q_putfieldI, q_iload1, q_if_ne, q_ireturn0, q_iload2, q_if_lt, q_getfieldI, q_icmp_ge, q_getfieldA, q_iaload, q_goto, rf_11_65, mmKe_1265, mmKo_11, mmLen_1265, mmR32, mmR64, Option.some.injEq, Int.cast_ofNat_Int, and_true, true_and, if_true, if_false, List.length_cons, List.length_nil, Nat.le_refl, Nat.zero_le, Nat.sub_zero, forall_const, reduceCtorEq, Nat.reduceAdd, Nat.reduceSub, Nat.reduceLeDiff, Nat.reduceEqDiff, Int.reduceAdd, Int.reduceNeg, Int.reduceSub, Int.reduceLT, Int.reduceLE, Int.reduceMul, Int.reduceEq, List.drop_zero, List.drop_succ_cons, ne_eq, not_false_eq_true, not_true_eq_false, false_and, and_false, false_implies, true_implies, reduceIte, mmU_rd, implies_true, or_false, false_or, or_true, true_or, bI_eq0]
  unfold a_row at hQ
  refine ⟨fun c => ?_, fun c => ?_⟩
  · have c := Classical.not_not.mp c
    refine mmC_step ?_
    simp only [cd_223, sg_223_0, sg_223_8, sg_223_22, sg_223_23, mmK_cut cd_223, q_cons, q_G0, q_GS, q_I1, q_L1, q_A1, q_S0, q_S1, q_SS, q_T0, q_T1, q_TS, q_Kn, q_Ki, q_Kl, q_Kr, q_k0, q_kS, q_rc, q_ps, q_pn, q_aload0, q_iconst, q_putfieldI, q_iload1, q_if_ne, q_ireturn0, q_iload2, q_if_lt, q_getfieldI, q_icmp_ge, q_getfieldA, q_iaload, q_goto, rf_11_65, mmKe_1265, mmKo_11, mmLen_1265, mmR32, mmR64, Option.some.injEq, Int.cast_ofNat_Int, and_true, true_and, if_true, if_false, List.length_cons, List.length_nil, Nat.le_refl, Nat.zero_le, Nat.sub_zero, forall_const, reduceCtorEq, Nat.reduceAdd, Nat.reduceSub, Nat.reduceLeDiff, Nat.reduceEqDiff, Int.reduceAdd, Int.reduceNeg, Int.reduceSub, Int.reduceLT, Int.reduceLE, Int.reduceMul, Int.reduceEq, List.drop_zero, List.drop_succ_cons, ne_eq, not_false_eq_true, not_true_eq_false, false_and, and_false, false_implies, true_implies, reduceIte, mmU_rd, implies_true, or_false, false_or, or_true, true_or]
    rw [q_invV (pay := [])]
    simp only [q_k0, q_kS, q_rc, mmKo_11]
    refine ⟨Nat.le_of_ble_eq_true rfl, by trivial, Nat.zero_le _, Nat.zero_le _, ?_⟩
    refine mT_use (m_layRowQ c hI2) (fun u I1 q => ?_)
    obtain ⟨rfl, f1, h1, hR⟩ := q
    have f2 := FrNq_trans (FrNq_2 (I := I) (v := 0)) f1
    obtain ⟨hq, hB, hN, hlen⟩ := vI h1 w
    simp only [mmK_cut cd_223, q_cons, q_G0, q_GS, q_I1, q_L1, q_A1, q_S0, q_S1, q_SS, q_T0, q_T1, q_TS, q_Kn, q_Ki, q_Kl, q_Kr, q_k0, q_kS, q_rc, q_ps, q_pn, q_aload0, q_iconst, q_putfieldI, q_iload1, q_if_ne, q_ireturn0, q_iload2, q_if_lt, q_getfieldI, q_icmp_ge, q_getfieldA, q_iaload, q_goto, rf_11_65, mmKe_1265, mmKo_11, mmLen_1265, mmR32, mmR64, Option.some.injEq, Int.cast_ofNat_Int, and_true, true_and, if_true, if_false, List.length_cons, List.length_nil, Nat.le_refl, Nat.zero_le, Nat.sub_zero, forall_const, reduceCtorEq, Nat.reduceAdd, Nat.reduceSub, Nat.reduceLeDiff, Nat.reduceEqDiff, Int.reduceAdd, Int.reduceNeg, Int.reduceSub, Int.reduceLT, Int.reduceLE, Int.reduceMul, Int.reduceEq, List.drop_zero, List.drop_succ_cons, ne_eq, not_false_eq_true, not_true_eq_false, false_and, and_false, false_implies, true_implies, reduceIte, mmU_rd, implies_true, or_false, false_or, or_true, true_or]
    have w22 : ¬ (0 ≤ k ∧ k < vN r L w) → mmK (d + 10) 223 Q 22 [some (mo 11 0), some (mv w), some (mv k)] [] (I1, mmRf a br, X) := by
      intro cc
      rw [cI_neg (fun q => cc q.2)] at hQ
      refine mmC_step ?_
      simp only [cd_223, sg_223_0, sg_223_8, sg_223_22, sg_223_23, mmK_cut cd_223, q_cons, q_G0, q_GS, q_I1, q_L1, q_A1, q_S0, q_S1, q_SS, q_T0, q_T1, q_TS, q_Kn, q_Ki, q_Kl, q_Kr, q_k0, q_kS, q_rc, q_ps, q_pn, q_aload0, q_iconst, q_putfieldI, q_iload1, q_if_ne, q_ireturn0, q_iload2, q_if_lt, q_getfieldI, q_icmp_ge, q_getfieldA, q_iaload, q_goto, rf_11_65, mmKe_1265, mmKo_11, mmLen_1265, mmR32, mmR64, Option.some.injEq, Int.cast_ofNat_Int, and_true, true_and, if_true, if_false, List.length_cons, List.length_nil, Nat.le_refl, Nat.zero_le, Nat.sub_zero, forall_const, reduceCtorEq, Nat.reduceAdd, Nat.reduceSub, Nat.reduceLeDiff, Nat.reduceEqDiff, Int.reduceAdd, Int.reduceNeg, Int.reduceSub, Int.reduceLT, Int.reduceLE, Int.reduceMul, Int.reduceEq, List.drop_zero, List.drop_succ_cons, ne_eq, not_false_eq_true, not_true_eq_false, false_and, and_false, false_implies, true_implies, reduceIte, mmU_rd, implies_true, or_false, false_or, or_true, true_or]
      refine mmC_step ?_
      simp only [cd_223, sg_223_0, sg_223_8, sg_223_22, sg_223_23, mmK_cut cd_223, q_cons, q_G0, q_GS, q_I1, q_L1, q_A1, q_S0, q_S1, q_SS, q_T0, q_T1, q_TS, q_Kn, q_Ki, q_Kl, q_Kr, q_k0, q_kS, q_rc, q_ps, q_pn, q_aload0, q_iconst, q_putfieldI, q_iload1, q_if_ne, q_ireturn0, q_iload2, q_if_lt, q_getfieldI, q_icmp_ge, q_getfieldA, q_iaload, q_goto, rf_11_65, mmKe_1265, mmKo_11, mmLen_1265, mmR32, mmR64, Option.some.injEq, Int.cast_ofNat_Int, and_true, true_and, if_true, if_false, List.length_cons, List.length_nil, Nat.le_refl, Nat.zero_le, Nat.sub_zero, forall_const, reduceCtorEq, Nat.reduceAdd, Nat.reduceSub, Nat.reduceLeDiff, Nat.reduceEqDiff, Int.reduceAdd, Int.reduceNeg, Int.reduceSub, Int.reduceLT, Int.reduceLE, Int.reduceMul, Int.reduceEq, List.drop_zero, List.drop_succ_cons, ne_eq, not_false_eq_true, not_true_eq_false, false_and, and_false, false_implies, true_implies, reduceIte, mmU_rd, implies_true, or_false, false_or, or_true, true_or]
      exact hQ I1 f2
    rw [VR_N hR]
    refine ⟨fun c2 => w22 (by omega), fun c2 => ⟨fun c3 => w22 (by omega), fun c3 => ⟨c2, by omega, ?_⟩⟩⟩
    rw [(VR_p hR c2 c3).1]
    rw [cI_pos ⟨c, c2, c3⟩] at hQ
    refine mmC_step ?_
    simp only [cd_223, sg_223_0, sg_223_8, sg_223_22, sg_223_23, mmK_cut cd_223, q_cons, q_G0, q_GS, q_I1, q_L1, q_A1, q_S0, q_S1, q_SS, q_T0, q_T1, q_TS, q_Kn, q_Ki, q_Kl, q_Kr, q_k0, q_kS, q_rc, q_ps, q_pn, q_aload0, q_iconst, q_putfieldI, q_iload1, q_if_ne, q_ireturn0, q_iload2, q_if_lt, q_getfieldI, q_icmp_ge, q_getfieldA, q_iaload, q_goto, rf_11_65, mmKe_1265, mmKo_11, mmLen_1265, mmR32, mmR64, Option.some.injEq, Int.cast_ofNat_Int, and_true, true_and, if_true, if_false, List.length_cons, List.length_nil, Nat.le_refl, Nat.zero_le, Nat.sub_zero, forall_const, reduceCtorEq, Nat.reduceAdd, Nat.reduceSub, Nat.reduceLeDiff, Nat.reduceEqDiff, Int.reduceAdd, Int.reduceNeg, Int.reduceSub, Int.reduceLT, Int.reduceLE, Int.reduceMul, Int.reduceEq, List.drop_zero, List.drop_succ_cons, ne_eq, not_false_eq_true, not_true_eq_false, false_and, and_false, false_implies, true_implies, reduceIte, mmU_rd, implies_true, or_false, false_or, or_true, true_or]
    exact hQ I1 f2
  · rw [cI_neg (fun q => c q.1)] at hQ
    exact hQ _ FrNq_2
theorem m_by (hI : MI I r L) (hQ : bQ I a br X Q (mv (a_by r L w k))) : mmC (d + 11) 224 [mo 11 0, mv w, mv k] (I, mmRf a br, X) Q := by
  have hI2 := MI_N hI (FrNq_2 (v := 0))
  refine mmC_in (by decide) (Nat.le_of_ble_eq_true rfl) (mmC_step ?_)
  simp only [show mmMl 224 = 3 from rfl, mmLs, List.replicate, cd_224, sg_224_0, sg_224_8, sg_224_22, sg_224_23, mmK_cut cd_224, q_cons, q_G0, q_GS, q_I1, q_L1, q_A1, q_S0, q_S1, q_SS, q_T0, q_T1, q_TS, q_Kn, q_Ki, q_Kl, q_Kr, q_k0, q_kS, q_rc, q_ps, q_pn, q_aload0, q_iconst, q_putfieldI, q_iload1, q_if_ne, q_ireturn0, q_iload2, q_if_lt, q_getfieldI, q_icmp_ge, q_getfieldA, q_iaload, q_goto, rf_11_66, mmKe_1266, mmKo_11, mmLen_1266, mmR32, mmR64, Option.some.injEq, Int.cast_ofNat_Int, and_true, true_and, if_true, if_false, List.length_cons, List.length_nil, Nat.le_refl, Nat.zero_le, Nat.sub_zero, forall_const, reduceCtorEq, Nat.reduceAdd, Nat.reduceSub, Nat.reduceLeDiff, Nat.reduceEqDiff, Int.reduceAdd, Int.reduceNeg, Int.reduceSub, Int.reduceLT, Int.reduceLE, Int.reduceMul, Int.reduceEq, List.drop_zero, List.drop_succ_cons, ne_eq, not_false_eq_true, not_true_eq_false, false_and, and_false, false_implies, true_implies, reduceIte, mmU_rd, implies_true, or_false, false_or, or_true, true_or]
  rw [q_invS (pay := [])]
  simp only [q_k0, q_kS]
  refine ⟨Nat.le_of_ble_eq_true rfl, Nat.zero_le _, Nat.zero_le _, ?_⟩
  refine m_isView ?_
  simp only [mmK_cut cd_224, q_cons, q_G0, q_GS, q_I1, q_L1, q_A1, q_S0, q_S1, q_SS, q_T0, q_T1, q_TS, q_Kn, q_Ki, q_Kl, q_Kr, q_k0, q_kS, q_rc, q_ps, q_pn, q_aload0, q_iconst, q_putfieldI, q_iload1, q_if_ne, q_ireturn0, q_iload2, q_if_lt, q_getfieldI, q_icmp_ge, q_getfieldA, q_iaload, q_goto, rf_11_66, mmKe_1266, mmKo_11, mmLen_1266, mmR32, mmR64, Option.some.injEq, Int.cast_ofNat_Int, and_true, true_and, if_true, if_false, List.length_cons, List.length_nil, Nat.le_refl, Nat.zero_le, Nat.sub_zero, forall_const, reduceCtorEq, Nat.reduceAdd, Nat.reduceSub, Nat.reduceLeDiff, Nat.reduceEqDiff, Int.reduceAdd, Int.reduceNeg, Int.reduceSub, Int.reduceLT, Int.reduceLE, Int.reduceMul, Int.reduceEq, List.drop_zero, List.drop_succ_cons, ne_eq, not_false_eq_true, not_true_eq_false, false_and, and_false, false_implies, true_implies, reduceIte, mmU_rd, implies_true, or_false, false_or, or_true, true_or, bI_eq0]
  unfold a_by at hQ
  refine ⟨fun c => ?_, fun c => ?_⟩
  · have c := Classical.not_not.mp c
    refine mmC_step ?_
    simp only [cd_224, sg_224_0, sg_224_8, sg_224_22, sg_224_23, mmK_cut cd_224, q_cons, q_G0, q_GS, q_I1, q_L1, q_A1, q_S0, q_S1, q_SS, q_T0, q_T1, q_TS, q_Kn, q_Ki, q_Kl, q_Kr, q_k0, q_kS, q_rc, q_ps, q_pn, q_aload0, q_iconst, q_putfieldI, q_iload1, q_if_ne, q_ireturn0, q_iload2, q_if_lt, q_getfieldI, q_icmp_ge, q_getfieldA, q_iaload, q_goto, rf_11_66, mmKe_1266, mmKo_11, mmLen_1266, mmR32, mmR64, Option.some.injEq, Int.cast_ofNat_Int, and_true, true_and, if_true, if_false, List.length_cons, List.length_nil, Nat.le_refl, Nat.zero_le, Nat.sub_zero, forall_const, reduceCtorEq, Nat.reduceAdd, Nat.reduceSub, Nat.reduceLeDiff, Nat.reduceEqDiff, Int.reduceAdd, Int.reduceNeg, Int.reduceSub, Int.reduceLT, Int.reduceLE, Int.reduceMul, Int.reduceEq, List.drop_zero, List.drop_succ_cons, ne_eq, not_false_eq_true, not_true_eq_false, false_and, and_false, false_implies, true_implies, reduceIte, mmU_rd, implies_true, or_false, false_or, or_true, true_or]
    rw [q_invV (pay := [])]
    simp only [q_k0, q_kS, q_rc, mmKo_11]
    refine ⟨Nat.le_of_ble_eq_true rfl, by trivial, Nat.zero_le _, Nat.zero_le _, ?_⟩
    refine mT_use (m_layRowQ c hI2) (fun u I1 q => ?_)
    obtain ⟨rfl, f1, h1, hR⟩ := q
    have f2 := FrNq_trans (FrNq_2 (I := I) (v := 0)) f1
    obtain ⟨hq, hB, hN, hlen⟩ := vI h1 w
    simp only [mmK_cut cd_224, q_cons, q_G0, q_GS, q_I1, q_L1, q_A1, q_S0, q_S1, q_SS, q_T0, q_T1, q_TS, q_Kn, q_Ki, q_Kl, q_Kr, q_k0, q_kS, q_rc, q_ps, q_pn, q_aload0, q_iconst, q_putfieldI, q_iload1, q_if_ne, q_ireturn0, q_iload2, q_if_lt, q_getfieldI, q_icmp_ge, q_getfieldA, q_iaload, q_goto, rf_11_66, mmKe_1266, mmKo_11, mmLen_1266, mmR32, mmR64, Option.some.injEq, Int.cast_ofNat_Int, and_true, true_and, if_true, if_false, List.length_cons, List.length_nil, Nat.le_refl, Nat.zero_le, Nat.sub_zero, forall_const, reduceCtorEq, Nat.reduceAdd, Nat.reduceSub, Nat.reduceLeDiff, Nat.reduceEqDiff, Int.reduceAdd, Int.reduceNeg, Int.reduceSub, Int.reduceLT, Int.reduceLE, Int.reduceMul, Int.reduceEq, List.drop_zero, List.drop_succ_cons, ne_eq, not_false_eq_true, not_true_eq_false, false_and, and_false, false_implies, true_implies, reduceIte, mmU_rd, implies_true, or_false, false_or, or_true, true_or]
    have w22 : ¬ (0 ≤ k ∧ k < vN r L w) → mmK (d + 10) 224 Q 22 [some (mo 11 0), some (mv w), some (mv k)] [] (I1, mmRf a br, X) := by
      intro cc
      rw [cI_neg (fun q => cc q.2)] at hQ
      refine mmC_step ?_
      simp only [cd_224, sg_224_0, sg_224_8, sg_224_22, sg_224_23, mmK_cut cd_224, q_cons, q_G0, q_GS, q_I1, q_L1, q_A1, q_S0, q_S1, q_SS, q_T0, q_T1, q_TS, q_Kn, q_Ki, q_Kl, q_Kr, q_k0, q_kS, q_rc, q_ps, q_pn, q_aload0, q_iconst, q_putfieldI, q_iload1, q_if_ne, q_ireturn0, q_iload2, q_if_lt, q_getfieldI, q_icmp_ge, q_getfieldA, q_iaload, q_goto, rf_11_66, mmKe_1266, mmKo_11, mmLen_1266, mmR32, mmR64, Option.some.injEq, Int.cast_ofNat_Int, and_true, true_and, if_true, if_false, List.length_cons, List.length_nil, Nat.le_refl, Nat.zero_le, Nat.sub_zero, forall_const, reduceCtorEq, Nat.reduceAdd, Nat.reduceSub, Nat.reduceLeDiff, Nat.reduceEqDiff, Int.reduceAdd, Int.reduceNeg, Int.reduceSub, Int.reduceLT, Int.reduceLE, Int.reduceMul, Int.reduceEq, List.drop_zero, List.drop_succ_cons, ne_eq, not_false_eq_true, not_true_eq_false, false_and, and_false, false_implies, true_implies, reduceIte, mmU_rd, implies_true, or_false, false_or, or_true, true_or]
      refine mmC_step ?_
      simp only [cd_224, sg_224_0, sg_224_8, sg_224_22, sg_224_23, mmK_cut cd_224, q_cons, q_G0, q_GS, q_I1, q_L1, q_A1, q_S0, q_S1, q_SS, q_T0, q_T1, q_TS, q_Kn, q_Ki, q_Kl, q_Kr, q_k0, q_kS, q_rc, q_ps, q_pn, q_aload0, q_iconst, q_putfieldI, q_iload1, q_if_ne, q_ireturn0, q_iload2, q_if_lt, q_getfieldI, q_icmp_ge, q_getfieldA, q_iaload, q_goto, rf_11_66, mmKe_1266, mmKo_11, mmLen_1266, mmR32, mmR64, Option.some.injEq, Int.cast_ofNat_Int, and_true, true_and, if_true, if_false, List.length_cons, List.length_nil, Nat.le_refl, Nat.zero_le, Nat.sub_zero, forall_const, reduceCtorEq, Nat.reduceAdd, Nat.reduceSub, Nat.reduceLeDiff, Nat.reduceEqDiff, Int.reduceAdd, Int.reduceNeg, Int.reduceSub, Int.reduceLT, Int.reduceLE, Int.reduceMul, Int.reduceEq, List.drop_zero, List.drop_succ_cons, ne_eq, not_false_eq_true, not_true_eq_false, false_and, and_false, false_implies, true_implies, reduceIte, mmU_rd, implies_true, or_false, false_or, or_true, true_or]
      exact hQ I1 f2
    rw [VR_N hR]
    refine ⟨fun c2 => w22 (by omega), fun c2 => ⟨fun c3 => w22 (by omega), fun c3 => ⟨c2, by omega, ?_⟩⟩⟩
    rw [(VR_p hR c2 c3).2.1]
    rw [cI_pos ⟨c, c2, c3⟩] at hQ
    refine mmC_step ?_
    simp only [cd_224, sg_224_0, sg_224_8, sg_224_22, sg_224_23, mmK_cut cd_224, q_cons, q_G0, q_GS, q_I1, q_L1, q_A1, q_S0, q_S1, q_SS, q_T0, q_T1, q_TS, q_Kn, q_Ki, q_Kl, q_Kr, q_k0, q_kS, q_rc, q_ps, q_pn, q_aload0, q_iconst, q_putfieldI, q_iload1, q_if_ne, q_ireturn0, q_iload2, q_if_lt, q_getfieldI, q_icmp_ge, q_getfieldA, q_iaload, q_goto, rf_11_66, mmKe_1266, mmKo_11, mmLen_1266, mmR32, mmR64, Option.some.injEq, Int.cast_ofNat_Int, and_true, true_and, if_true, if_false, List.length_cons, List.length_nil, Nat.le_refl, Nat.zero_le, Nat.sub_zero, forall_const, reduceCtorEq, Nat.reduceAdd, Nat.reduceSub, Nat.reduceLeDiff, Nat.reduceEqDiff, Int.reduceAdd, Int.reduceNeg, Int.reduceSub, Int.reduceLT, Int.reduceLE, Int.reduceMul, Int.reduceEq, List.drop_zero, List.drop_succ_cons, ne_eq, not_false_eq_true, not_true_eq_false, false_and, and_false, false_implies, true_implies, reduceIte, mmU_rd, implies_true, or_false, false_or, or_true, true_or]
    exact hQ I1 f2
  · rw [cI_neg (fun q => c q.1)] at hQ
    exact hQ _ FrNq_2
theorem m_move (hI : MI I r L) (hQ : bQ I a br X Q (mv (a_move r L w k))) : mmC (d + 11) 229 [mo 11 0, mv w, mv k] (I, mmRf a br, X) Q := by
  have hI2 := MI_N hI (FrNq_2 (v := 0))
  refine mmC_in (by decide) (Nat.le_of_ble_eq_true rfl) (mmC_step ?_)
  simp only [show mmMl 229 = 3 from rfl, mmLs, List.replicate, cd_229, sg_229_0, sg_229_8, sg_229_33, sg_229_34, mmK_cut cd_229, q_cons, q_G0, q_GS, q_I1, q_L1, q_A1, q_S0, q_S1, q_SS, q_T0, q_T1, q_TS, q_Kn, q_Ki, q_Kl, q_Kr, q_k0, q_kS, q_rc, q_ps, q_pn, q_aload0, q_iconst, q_putfieldI, q_iload1, q_if_ne, q_ireturn0, q_getfieldI, q_iload2, q_if_lt, q_getfieldA, q_iaload, q_icmp_ge, q_sipush, q_imul, q_iadd, q_goto, rf_11_61, rf_11_62, mmKe_1261, mmKe_1262, mmKo_11, mmLen_1261, mmLen_1262, mmR32, mmR64, Option.some.injEq, Int.cast_ofNat_Int, and_true, true_and, if_true, if_false, List.length_cons, List.length_nil, Nat.le_refl, Nat.zero_le, Nat.sub_zero, forall_const, reduceCtorEq, Nat.reduceAdd, Nat.reduceSub, Nat.reduceLeDiff, Nat.reduceEqDiff, Int.reduceAdd, Int.reduceNeg, Int.reduceSub, Int.reduceLT, Int.reduceLE, Int.reduceMul, Int.reduceEq, List.drop_zero, List.drop_succ_cons, ne_eq, not_false_eq_true, not_true_eq_false, false_and, and_false, false_implies, true_implies, reduceIte, mmU_rd, implies_true, or_false, false_or, or_true, true_or]
  rw [q_invS (pay := [])]
  simp only [q_k0, q_kS]
  refine ⟨Nat.le_of_ble_eq_true rfl, Nat.zero_le _, Nat.zero_le _, ?_⟩
  refine m_isView ?_
  simp only [mmK_cut cd_229, q_cons, q_G0, q_GS, q_I1, q_L1, q_A1, q_S0, q_S1, q_SS, q_T0, q_T1, q_TS, q_Kn, q_Ki, q_Kl, q_Kr, q_k0, q_kS, q_rc, q_ps, q_pn, q_aload0, q_iconst, q_putfieldI, q_iload1, q_if_ne, q_ireturn0, q_getfieldI, q_iload2, q_if_lt, q_getfieldA, q_iaload, q_icmp_ge, q_sipush, q_imul, q_iadd, q_goto, rf_11_61, rf_11_62, mmKe_1261, mmKe_1262, mmKo_11, mmLen_1261, mmLen_1262, mmR32, mmR64, Option.some.injEq, Int.cast_ofNat_Int, and_true, true_and, if_true, if_false, List.length_cons, List.length_nil, Nat.le_refl, Nat.zero_le, Nat.sub_zero, forall_const, reduceCtorEq, Nat.reduceAdd, Nat.reduceSub, Nat.reduceLeDiff, Nat.reduceEqDiff, Int.reduceAdd, Int.reduceNeg, Int.reduceSub, Int.reduceLT, Int.reduceLE, Int.reduceMul, Int.reduceEq, List.drop_zero, List.drop_succ_cons, ne_eq, not_false_eq_true, not_true_eq_false, false_and, and_false, false_implies, true_implies, reduceIte, mmU_rd, implies_true, or_false, false_or, or_true, true_or, bI_eq0]
  unfold a_move at hQ
  refine ⟨fun c => ?_, fun c => ?_⟩
  · have c := Classical.not_not.mp c
    refine mmC_step ?_
    simp only [cd_229, sg_229_0, sg_229_8, sg_229_33, sg_229_34, mmK_cut cd_229, q_cons, q_G0, q_GS, q_I1, q_L1, q_A1, q_S0, q_S1, q_SS, q_T0, q_T1, q_TS, q_Kn, q_Ki, q_Kl, q_Kr, q_k0, q_kS, q_rc, q_ps, q_pn, q_aload0, q_iconst, q_putfieldI, q_iload1, q_if_ne, q_ireturn0, q_getfieldI, q_iload2, q_if_lt, q_getfieldA, q_iaload, q_icmp_ge, q_sipush, q_imul, q_iadd, q_goto, rf_11_61, rf_11_62, mmKe_1261, mmKe_1262, mmKo_11, mmLen_1261, mmLen_1262, mmR32, mmR64, Option.some.injEq, Int.cast_ofNat_Int, and_true, true_and, if_true, if_false, List.length_cons, List.length_nil, Nat.le_refl, Nat.zero_le, Nat.sub_zero, forall_const, reduceCtorEq, Nat.reduceAdd, Nat.reduceSub, Nat.reduceLeDiff, Nat.reduceEqDiff, Int.reduceAdd, Int.reduceNeg, Int.reduceSub, Int.reduceLT, Int.reduceLE, Int.reduceMul, Int.reduceEq, List.drop_zero, List.drop_succ_cons, ne_eq, not_false_eq_true, not_true_eq_false, false_and, and_false, false_implies, true_implies, reduceIte, mmU_rd, implies_true, or_false, false_or, or_true, true_or]
    rw [q_invV (pay := [])]
    simp only [q_k0, q_kS, q_rc, mmKo_11]
    refine ⟨Nat.le_of_ble_eq_true rfl, by trivial, Nat.zero_le _, Nat.zero_le _, ?_⟩
    refine mT_use (m_layRowQ c hI2) (fun u I1 q => ?_)
    obtain ⟨rfl, f1, h1, hR⟩ := q
    have f2 := FrNq_trans (FrNq_2 (I := I) (v := 0)) f1
    obtain ⟨hq, hB, hN, hlen⟩ := vI h1 w
    simp only [mmK_cut cd_229, q_cons, q_G0, q_GS, q_I1, q_L1, q_A1, q_S0, q_S1, q_SS, q_T0, q_T1, q_TS, q_Kn, q_Ki, q_Kl, q_Kr, q_k0, q_kS, q_rc, q_ps, q_pn, q_aload0, q_iconst, q_putfieldI, q_iload1, q_if_ne, q_ireturn0, q_getfieldI, q_iload2, q_if_lt, q_getfieldA, q_iaload, q_icmp_ge, q_sipush, q_imul, q_iadd, q_goto, rf_11_61, rf_11_62, mmKe_1261, mmKe_1262, mmKo_11, mmLen_1261, mmLen_1262, mmR32, mmR64, Option.some.injEq, Int.cast_ofNat_Int, and_true, true_and, if_true, if_false, List.length_cons, List.length_nil, Nat.le_refl, Nat.zero_le, Nat.sub_zero, forall_const, reduceCtorEq, Nat.reduceAdd, Nat.reduceSub, Nat.reduceLeDiff, Nat.reduceEqDiff, Int.reduceAdd, Int.reduceNeg, Int.reduceSub, Int.reduceLT, Int.reduceLE, Int.reduceMul, Int.reduceEq, List.drop_zero, List.drop_succ_cons, ne_eq, not_false_eq_true, not_true_eq_false, false_and, and_false, false_implies, true_implies, reduceIte, mmU_rd, implies_true, or_false, false_or, or_true, true_or]
    have w33 : ¬ (0 ≤ k ∧ k < vM r L w) → mmK (d + 10) 229 Q 33 [some (mo 11 0), some (mv w), some (mv k)] [] (I1, mmRf a br, X) := by
      intro cc
      rw [cI_neg (fun q => cc q.2)] at hQ
      refine mmC_step ?_
      simp only [cd_229, sg_229_0, sg_229_8, sg_229_33, sg_229_34, mmK_cut cd_229, q_cons, q_G0, q_GS, q_I1, q_L1, q_A1, q_S0, q_S1, q_SS, q_T0, q_T1, q_TS, q_Kn, q_Ki, q_Kl, q_Kr, q_k0, q_kS, q_rc, q_ps, q_pn, q_aload0, q_iconst, q_putfieldI, q_iload1, q_if_ne, q_ireturn0, q_getfieldI, q_iload2, q_if_lt, q_getfieldA, q_iaload, q_icmp_ge, q_sipush, q_imul, q_iadd, q_goto, rf_11_61, rf_11_62, mmKe_1261, mmKe_1262, mmKo_11, mmLen_1261, mmLen_1262, mmR32, mmR64, Option.some.injEq, Int.cast_ofNat_Int, and_true, true_and, if_true, if_false, List.length_cons, List.length_nil, Nat.le_refl, Nat.zero_le, Nat.sub_zero, forall_const, reduceCtorEq, Nat.reduceAdd, Nat.reduceSub, Nat.reduceLeDiff, Nat.reduceEqDiff, Int.reduceAdd, Int.reduceNeg, Int.reduceSub, Int.reduceLT, Int.reduceLE, Int.reduceMul, Int.reduceEq, List.drop_zero, List.drop_succ_cons, ne_eq, not_false_eq_true, not_true_eq_false, false_and, and_false, false_implies, true_implies, reduceIte, mmU_rd, implies_true, or_false, false_or, or_true, true_or]
      refine mmC_step ?_
      simp only [cd_229, sg_229_0, sg_229_8, sg_229_33, sg_229_34, mmK_cut cd_229, q_cons, q_G0, q_GS, q_I1, q_L1, q_A1, q_S0, q_S1, q_SS, q_T0, q_T1, q_TS, q_Kn, q_Ki, q_Kl, q_Kr, q_k0, q_kS, q_rc, q_ps, q_pn, q_aload0, q_iconst, q_putfieldI, q_iload1, q_if_ne, q_ireturn0, q_getfieldI, q_iload2, q_if_lt, q_getfieldA, q_iaload, q_icmp_ge, q_sipush, q_imul, q_iadd, q_goto, rf_11_61, rf_11_62, mmKe_1261, mmKe_1262, mmKo_11, mmLen_1261, mmLen_1262, mmR32, mmR64, Option.some.injEq, Int.cast_ofNat_Int, and_true, true_and, if_true, if_false, List.length_cons, List.length_nil, Nat.le_refl, Nat.zero_le, Nat.sub_zero, forall_const, reduceCtorEq, Nat.reduceAdd, Nat.reduceSub, Nat.reduceLeDiff, Nat.reduceEqDiff, Int.reduceAdd, Int.reduceNeg, Int.reduceSub, Int.reduceLT, Int.reduceLE, Int.reduceMul, Int.reduceEq, List.drop_zero, List.drop_succ_cons, ne_eq, not_false_eq_true, not_true_eq_false, false_and, and_false, false_implies, true_implies, reduceIte, mmU_rd, implies_true, or_false, false_or, or_true, true_or]
      exact hQ I1 f2
    rw [VR_N hR, VR_E hR, (VR_M hR).1]
    refine ⟨fun ce => w33 (fun q => ?_), fun ce => ⟨fun c2 => w33 (by omega), fun c2 => ⟨hN.1, by omega, fun c3 => w33 (fun q => ?_), fun c3 => ?_⟩⟩⟩
    · unfold vM at q; rw [cI_neg ce] at q; omega
    · unfold vM at q; rw [cI_pos ce] at q; omega
    · have c4 : k < vM r L w := by unfold vM; rw [cI_pos ce]; exact c3
      rw [cI_pos ⟨c, c2, c4⟩] at hQ
      have em := (VR_M hR).2 k.toNat (by omega)
      rw [show ((k.toNat : Nat) : Int) = k by omega] at em
      rw [em]
      refine ⟨by omega, by omega, by omega, by omega, ?_⟩
      refine mmC_step ?_
      simp only [cd_229, sg_229_0, sg_229_8, sg_229_33, sg_229_34, mmK_cut cd_229, q_cons, q_G0, q_GS, q_I1, q_L1, q_A1, q_S0, q_S1, q_SS, q_T0, q_T1, q_TS, q_Kn, q_Ki, q_Kl, q_Kr, q_k0, q_kS, q_rc, q_ps, q_pn, q_aload0, q_iconst, q_putfieldI, q_iload1, q_if_ne, q_ireturn0, q_getfieldI, q_iload2, q_if_lt, q_getfieldA, q_iaload, q_icmp_ge, q_sipush, q_imul, q_iadd, q_goto, rf_11_61, rf_11_62, mmKe_1261, mmKe_1262, mmKo_11, mmLen_1261, mmLen_1262, mmR32, mmR64, Option.some.injEq, Int.cast_ofNat_Int, and_true, true_and, if_true, if_false, List.length_cons, List.length_nil, Nat.le_refl, Nat.zero_le, Nat.sub_zero, forall_const, reduceCtorEq, Nat.reduceAdd, Nat.reduceSub, Nat.reduceLeDiff, Nat.reduceEqDiff, Int.reduceAdd, Int.reduceNeg, Int.reduceSub, Int.reduceLT, Int.reduceLE, Int.reduceMul, Int.reduceEq, List.drop_zero, List.drop_succ_cons, ne_eq, not_false_eq_true, not_true_eq_false, false_and, and_false, false_implies, true_implies, reduceIte, mmU_rd, implies_true, or_false, false_or, or_true, true_or]
      exact hQ I1 f2
  · rw [cI_neg (fun q => c q.1)] at hQ
    exact hQ _ FrNq_2
end S861
