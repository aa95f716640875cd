section S858
variable {d a : Nat} {I I1 I' I'' : mMm} {br br' : Nat → Option mmO} {R : Nat → Nat → Int → Option mmO} {X : mmX} {L : Nat → Int → Int} {r : mRu} {Ar : Int → Int} {B : mBd} {m la l z w : Int} {T : List Int} {Q : Option mmV → mmM → Prop}
/-- what plays leaves behind: f the if that was played, -1 none -/
def PQ (I : mMm) (L : Nat → Int → Int) (m l f : Int) (u : Option mmV) (I' : mMm) : Prop :=
  (f = -1 ∧ u = some (mv 0) ∧ FrW I I') ∨ (¬ f = -1 ∧ u = some (mv 1) ∧ ∃ I1, FrW I I1 ∧ I' = mmU (mmU (mmU I1 1265 0 m (vlI L (l, f))) 1266 0 m l) 1267 0 m f)
set_option maxHeartbeats 1000000 in
theorem m_plays (hR : RK r I) (hMB : MB I m B) (hB : BW r B) (hp : I 11 0 63 = m) (hm : 0 ≤ m ∧ m < 60) (hM : ME I L Ar) (hW : LW L) (hl : 0 ≤ l ∧ l < L 0 0) (hla0 : m = 0 → la = -1) (hla1 : 0 < m → I 1265 0 (m - 1) = la) : mmC (d + 7) 218 [mo 11 0, mv l] (I, mmRf a br, X) (mT a br X (PQ I L m l (fk (ifP r L m B la l) (nIf L l).toNat 0))) := by
  have h16 := hW.1
  have hN := nIf_in hW hl
  generalize hF : fk (ifP r L m B la l) (nIf L l).toNat 0 = F
  have key : ∀ (q : Nat) (k : Int) (I1 : mMm) (l4 l5 : Option mmV), 0 ≤ k → k + q = nIf L l → FrW I I1 → fk (ifP r L m B la l) q k = F → mmK (d + 6) 218 (mT a br X (PQ I L m l F)) 6 [some (mo 11 0), some (mv l), some (mv (L 6 l)), some (mv k), l4, l5] [] (I1, mmRf a br, X) := by
    intro q
    induction q with
    | zero =>
      intro k I1 l4 l5 k0 k1 hf hfk
      have e7 : I1 1275 0 (L 6 l) = nIf L l := (hf _ _ _ (by omega) (by omega) (by omega)).trans (hM.2.2.1 _ hN.1.1 hN.1.2).2.2.2.2
      refine mmC_step ?_
      simp only [cd_218, sg_218_0, sg_218_6, sg_218_51, sg_218_53, sg_218_54, sg_218_75, sg_218_100, sg_218_102, mmK_cut cd_218, q_cons, q_G0, q_GS, q_I1, q_L1, q_A1, q_S0, q_S1, q_SS, q_T0, q_T1, q_TS, q_Kn, q_Ki, q_Kl, q_Kr, q_k0, q_kS, q_rc, q_ps, q_pn, q_aload0, q_iload1, q_istore2, q_iconst, q_istore3, q_iload3, q_getfieldA, q_iload2, q_iaload, q_icmp_ge, q_bipush, q_imul, q_iadd, q_istore, q_iload, q_getfieldI, q_icmp_ne, q_if_lt, q_if_le, q_isub, q_goto, q_if_eq, q_irem, q_if_ne, q_iastore, q_ireturn1, q_iinc, rf_11_65, rf_11_66, rf_11_67, rf_11_75, rf_11_76, mmKe_1265, mmKe_1266, mmKe_1267, mmKe_1275, mmKe_1276, mmKo_11, mmLen_1265, mmLen_1266, mmLen_1267, mmLen_1275, mmLen_1276, mmR32, mmR64, Option.some.injEq, Int.cast_ofNat_Int, and_true, true_and, if_true, if_false, List.length_cons, List.length_nil, Nat.le_refl, Nat.zero_le, Nat.sub_zero, forall_const, reduceCtorEq, Nat.reduceAdd, Nat.reduceSub, Nat.reduceLeDiff, Nat.reduceEqDiff, Int.reduceAdd, Int.reduceNeg, Int.reduceSub, Int.reduceLT, Int.reduceLE, Int.reduceMul, Int.reduceEq, List.drop_zero, List.drop_succ_cons, ne_eq, not_false_eq_true, not_true_eq_false, false_and, and_false, false_implies, true_implies, reduceIte, mmU_rd, implies_true, or_false, false_or, or_true, true_or]
      rw [e7]
      refine ⟨by omega, by omega, fun _ => ?_, fun c => by omega⟩
      refine mmC_step ?_
      simp only [cd_218, sg_218_0, sg_218_6, sg_218_51, sg_218_53, sg_218_54, sg_218_75, sg_218_100, sg_218_102, mmK_cut cd_218, q_cons, q_G0, q_GS, q_I1, q_L1, q_A1, q_S0, q_S1, q_SS, q_T0, q_T1, q_TS, q_Kn, q_Ki, q_Kl, q_Kr, q_k0, q_kS, q_rc, q_ps, q_pn, q_aload0, q_iload1, q_istore2, q_iconst, q_istore3, q_iload3, q_getfieldA, q_iload2, q_iaload, q_icmp_ge, q_bipush, q_imul, q_iadd, q_istore, q_iload, q_getfieldI, q_icmp_ne, q_if_lt, q_if_le, q_isub, q_goto, q_if_eq, q_irem, q_if_ne, q_iastore, q_ireturn1, q_iinc, rf_11_65, rf_11_66, rf_11_67, rf_11_75, rf_11_76, mmKe_1265, mmKe_1266, mmKe_1267, mmKe_1275, mmKe_1276, mmKo_11, mmLen_1265, mmLen_1266, mmLen_1267, mmLen_1275, mmLen_1276, mmR32, mmR64, Option.some.injEq, Int.cast_ofNat_Int, and_true, true_and, if_true, if_false, List.length_cons, List.length_nil, Nat.le_refl, Nat.zero_le, Nat.sub_zero, forall_const, reduceCtorEq, Nat.reduceAdd, Nat.reduceSub, Nat.reduceLeDiff, Nat.reduceEqDiff, Int.reduceAdd, Int.reduceNeg, Int.reduceSub, Int.reduceLT, Int.reduceLE, Int.reduceMul, Int.reduceEq, List.drop_zero, List.drop_succ_cons, ne_eq, not_false_eq_true, not_true_eq_false, false_and, and_false, false_implies, true_implies, reduceIte, mmU_rd, implies_true, or_false, false_or, or_true, true_or]
      exact mT_in (Or.inl ⟨hfk.symm, rfl, hf⟩)
    | succ q ih =>
      intro k I1 l4 l5 k0 k1 hf hfk
      have e7 : I1 1275 0 (L 6 l) = nIf L l := (hf _ _ _ (by omega) (by omega) (by omega)).trans (hM.2.2.1 _ hN.1.1 hN.1.2).2.2.2.2
      obtain ⟨g1, g2, g3, g4, g5⟩ := if_in hW hl (k := k) ⟨k0, by omega⟩
      obtain ⟨i8, i9, i10⟩ := hM.2.2.2 (L 6 l) k g1.1 g1.2 k0 (by unfold nIf at k1; omega)
      have e8 : I1 1276 0 (18 * L 6 l + 3 * k) = L 8 (L 6 l * 6 + k) := by
        rw [hf _ _ _ (by omega) (by omega) (by omega), show 18 * L 6 l + 3 * k = 3 * (L 6 l * 6 + k) by omega]; exact i8
      have e9 : I1 1276 0 (18 * L 6 l + 3 * k + 1) = L 9 (L 6 l * 6 + k) := by
        rw [hf _ _ _ (by omega) (by omega) (by omega), show 18 * L 6 l + 3 * k = 3 * (L 6 l * 6 + k) by omega]; exact i9
      have e10 : I1 1276 0 (18 * L 6 l + 3 * k + 2) = L 10 (L 6 l * 6 + k) := by
        rw [hf _ _ _ (by omega) (by omega) (by omega), show 18 * L 6 l + 3 * k = 3 * (L 6 l * 6 + k) by omega]; exact i10
      have e63 : I1 11 0 63 = m := (hf _ _ _ (by omega) (by omega) (by omega)).trans hp
      rw [fk_s] at hfk
      have w100 : ¬ ifP r L m B la l k → ∀ (I2 : mMm) (l4 l5 : Option mmV), FrW I I2 → mmK (d + 6) 218 (mT a br X (PQ I L m l F)) 100 [some (mo 11 0), some (mv l), some (mv (L 6 l)), some (mv k), l4, l5] [] (I2, mmRf a br, X) := by
        intro hn I2 l4 l5 f2
        rw [cI_neg hn] at hfk
        refine mmC_step ?_
        simp only [cd_218, sg_218_0, sg_218_6, sg_218_51, sg_218_53, sg_218_54, sg_218_75, sg_218_100, sg_218_102, mmK_cut cd_218, q_cons, q_G0, q_GS, q_I1, q_L1, q_A1, q_S0, q_S1, q_SS, q_T0, q_T1, q_TS, q_Kn, q_Ki, q_Kl, q_Kr, q_k0, q_kS, q_rc, q_ps, q_pn, q_aload0, q_iload1, q_istore2, q_iconst, q_istore3, q_iload3, q_getfieldA, q_iload2, q_iaload, q_icmp_ge, q_bipush, q_imul, q_iadd, q_istore, q_iload, q_getfieldI, q_icmp_ne, q_if_lt, q_if_le, q_isub, q_goto, q_if_eq, q_irem, q_if_ne, q_iastore, q_ireturn1, q_iinc, rf_11_65, rf_11_66, rf_11_67, rf_11_75, rf_11_76, mmKe_1265, mmKe_1266, mmKe_1267, mmKe_1275, mmKe_1276, mmKo_11, mmLen_1265, mmLen_1266, mmLen_1267, mmLen_1275, mmLen_1276, mmR32, mmR64, Option.some.injEq, Int.cast_ofNat_Int, and_true, true_and, if_true, if_false, List.length_cons, List.length_nil, Nat.le_refl, Nat.zero_le, Nat.sub_zero, forall_const, reduceCtorEq, Nat.reduceAdd, Nat.reduceSub, Nat.reduceLeDiff, Nat.reduceEqDiff, Int.reduceAdd, Int.reduceNeg, Int.reduceSub, Int.reduceLT, Int.reduceLE, Int.reduceMul, Int.reduceEq, List.drop_zero, List.drop_succ_cons, ne_eq, not_false_eq_true, not_true_eq_false, false_and, and_false, false_implies, true_implies, reduceIte, mmU_rd, implies_true, or_false, false_or, or_true, true_or]
        exact ⟨by omega, ih (k + 1) I2 l4 l5 (by omega) (by omega) f2 hfk⟩
      have w54 : ∀ s : Int, (s = 0 ∧ ¬ (L 8 (L 6 l * 6 + k) = m ∧ fitP L la l k)) ∨ (s = 1 ∧ L 8 (L 6 l * 6 + k) = m ∧ fitP L la l k) → mmK (d + 6) 218 (mT a br X (PQ I L m l F)) 54 [some (mo 11 0), some (mv l), some (mv (L 6 l)), some (mv k), some (mv (18 * L 6 l + 3 * k)), l5] [mv s] (I1, mmRf a br, X) := by
        intro s hs
        refine mmC_step ?_
        simp only [cd_218, sg_218_0, sg_218_6, sg_218_51, sg_218_53, sg_218_54, sg_218_75, sg_218_100, sg_218_102, mmK_cut cd_218, q_cons, q_G0, q_GS, q_I1, q_L1, q_A1, q_S0, q_S1, q_SS, q_T0, q_T1, q_TS, q_Kn, q_Ki, q_Kl, q_Kr, q_k0, q_kS, q_rc, q_ps, q_pn, q_aload0, q_iload1, q_istore2, q_iconst, q_istore3, q_iload3, q_getfieldA, q_iload2, q_iaload, q_icmp_ge, q_bipush, q_imul, q_iadd, q_istore, q_iload, q_getfieldI, q_icmp_ne, q_if_lt, q_if_le, q_isub, q_goto, q_if_eq, q_irem, q_if_ne, q_iastore, q_ireturn1, q_iinc, rf_11_65, rf_11_66, rf_11_67, rf_11_75, rf_11_76, mmKe_1265, mmKe_1266, mmKe_1267, mmKe_1275, mmKe_1276, mmKo_11, mmLen_1265, mmLen_1266, mmLen_1267, mmLen_1275, mmLen_1276, mmR32, mmR64, Option.some.injEq, Int.cast_ofNat_Int, and_true, true_and, if_true, if_false, List.length_cons, List.length_nil, Nat.le_refl, Nat.zero_le, Nat.sub_zero, forall_const, reduceCtorEq, Nat.reduceAdd, Nat.reduceSub, Nat.reduceLeDiff, Nat.reduceEqDiff, Int.reduceAdd, Int.reduceNeg, Int.reduceSub, Int.reduceLT, Int.reduceLE, Int.reduceMul, Int.reduceEq, List.drop_zero, List.drop_succ_cons, ne_eq, not_false_eq_true, not_true_eq_false, false_and, and_false, false_implies, true_implies, reduceIte, mmU_rd, implies_true, or_false, false_or, or_true, true_or]
        rw [e63, e10]
        refine ⟨fun c => w100 (fun q => ?_) I1 _ _ hf, fun c => ⟨hm.1, by omega, by omega, by omega, ?_⟩⟩
        · rcases hs with q1 | q1
          · exact q1.2 ⟨q.1, q.2.1⟩
          · omega
        · have hs2 : L 8 (L 6 l * 6 + k) = m ∧ fitP L la l k := by
            rcases hs with q1 | q1
            · exact absurd q1.1 c
            · exact q1.2
          rw [q_invV (pay := [])]
          simp only [q_k0, q_kS, q_rc, mmKo_11]
          refine ⟨Nat.le_of_ble_eq_true rfl, by trivial, Nat.zero_le _, Nat.zero_le _, ?_⟩
          refine mT_use (m_can (RK_W hR hf) (MB_W hMB hf) hB ⟨hm.1, by omega⟩ ⟨hm.1, by omega⟩ rfl g5) (fun u I2 q2 => ?_)
          obtain ⟨rfl, f2⟩ := q2
          have f3 := FrW_trans hf f2
          simp only [mmK_cut cd_218, q_cons, q_G0, q_GS, q_I1, q_L1, q_A1, q_S0, q_S1, q_SS, q_T0, q_T1, q_TS, q_Kn, q_Ki, q_Kl, q_Kr, q_k0, q_kS, q_rc, q_ps, q_pn, q_aload0, q_iload1, q_istore2, q_iconst, q_istore3, q_iload3, q_getfieldA, q_iload2, q_iaload, q_icmp_ge, q_bipush, q_imul, q_iadd, q_istore, q_iload, q_getfieldI, q_icmp_ne, q_if_lt, q_if_le, q_isub, q_goto, q_if_eq, q_irem, q_if_ne, q_iastore, q_ireturn1, q_iinc, rf_11_65, rf_11_66, rf_11_67, rf_11_75, rf_11_76, mmKe_1265, mmKe_1266, mmKe_1267, mmKe_1275, mmKe_1276, mmKo_11, mmLen_1265, mmLen_1266, mmLen_1267, mmLen_1275, mmLen_1276, mmR32, mmR64, Option.some.injEq, Int.cast_ofNat_Int, and_true, true_and, if_true, if_false, List.length_cons, List.length_nil, Nat.le_refl, Nat.zero_le, Nat.sub_zero, forall_const, reduceCtorEq, Nat.reduceAdd, Nat.reduceSub, Nat.reduceLeDiff, Nat.reduceEqDiff, Int.reduceAdd, Int.reduceNeg, Int.reduceSub, Int.reduceLT, Int.reduceLE, Int.reduceMul, Int.reduceEq, List.drop_zero, List.drop_succ_cons, ne_eq, not_false_eq_true, not_true_eq_false, false_and, and_false, false_implies, true_implies, reduceIte, mmU_rd, implies_true, or_false, false_or, or_true, true_or, bI_eq0]
          refine ⟨fun cl => ?_, fun cl => w100 (fun q => cl q.2.2) I2 _ _ f3⟩
          have hif : ifP r L m B la l k := ⟨hs2.1, hs2.2, Classical.not_not.mp cl⟩
          rw [cI_pos hif] at hfk
          have e63' : I2 11 0 63 = m := (f3 _ _ _ (by omega) (by omega) (by omega)).trans hp
          have e10' : I2 1276 0 (18 * L 6 l + 3 * k + 2) = L 10 (L 6 l * 6 + k) := (f2 _ _ _ (by omega) (by omega) (by omega)).trans e10
          refine mmC_step ?_
          simp only [cd_218, sg_218_0, sg_218_6, sg_218_51, sg_218_53, sg_218_54, sg_218_75, sg_218_100, sg_218_102, mmK_cut cd_218, q_cons, q_G0, q_GS, q_I1, q_L1, q_A1, q_S0, q_S1, q_SS, q_T0, q_T1, q_TS, q_Kn, q_Ki, q_Kl, q_Kr, q_k0, q_kS, q_rc, q_ps, q_pn, q_aload0, q_iload1, q_istore2, q_iconst, q_istore3, q_iload3, q_getfieldA, q_iload2, q_iaload, q_icmp_ge, q_bipush, q_imul, q_iadd, q_istore, q_iload, q_getfieldI, q_icmp_ne, q_if_lt, q_if_le, q_isub, q_goto, q_if_eq, q_irem, q_if_ne, q_iastore, q_ireturn1, q_iinc, rf_11_65, rf_11_66, rf_11_67, rf_11_75, rf_11_76, mmKe_1265, mmKe_1266, mmKe_1267, mmKe_1275, mmKe_1276, mmKo_11, mmLen_1265, mmLen_1266, mmLen_1267, mmLen_1275, mmLen_1276, mmR32, mmR64, Option.some.injEq, Int.cast_ofNat_Int, and_true, true_and, if_true, if_false, List.length_cons, List.length_nil, Nat.le_refl, Nat.zero_le, Nat.sub_zero, forall_const, reduceCtorEq, Nat.reduceAdd, Nat.reduceSub, Nat.reduceLeDiff, Nat.reduceEqDiff, Int.reduceAdd, Int.reduceNeg, Int.reduceSub, Int.reduceLT, Int.reduceLE, Int.reduceMul, Int.reduceEq, List.drop_zero, List.drop_succ_cons, ne_eq, not_false_eq_true, not_true_eq_false, false_and, and_false, false_implies, true_implies, reduceIte, mmU_rd, implies_true, or_false, false_or, or_true, true_or]
          rw [e63', e10']
          refine ⟨by omega, by omega, by omega, hm.1, by omega, hm.1, by omega, hm.1, by omega, ?_⟩
          rw [← hfk]
          exact mT_in (Or.inr ⟨by omega, rfl, I2, f3, rfl⟩)
      have w53 : ¬ (L 8 (L 6 l * 6 + k) = m ∧ fitP L la l k) → mmK (d + 6) 218 (mT a br X (PQ I L m l F)) 53 [some (mo 11 0), some (mv l), some (mv (L 6 l)), some (mv k), some (mv (18 * L 6 l + 3 * k)), l5] [] (I1, mmRf a br, X) := by
        intro hn
        refine mmC_step ?_
        simp only [cd_218, sg_218_0, sg_218_6, sg_218_51, sg_218_53, sg_218_54, sg_218_75, sg_218_100, sg_218_102, mmK_cut cd_218, q_cons, q_G0, q_GS, q_I1, q_L1, q_A1, q_S0, q_S1, q_SS, q_T0, q_T1, q_TS, q_Kn, q_Ki, q_Kl, q_Kr, q_k0, q_kS, q_rc, q_ps, q_pn, q_aload0, q_iload1, q_istore2, q_iconst, q_istore3, q_iload3, q_getfieldA, q_iload2, q_iaload, q_icmp_ge, q_bipush, q_imul, q_iadd, q_istore, q_iload, q_getfieldI, q_icmp_ne, q_if_lt, q_if_le, q_isub, q_goto, q_if_eq, q_irem, q_if_ne, q_iastore, q_ireturn1, q_iinc, rf_11_65, rf_11_66, rf_11_67, rf_11_75, rf_11_76, mmKe_1265, mmKe_1266, mmKe_1267, mmKe_1275, mmKe_1276, mmKo_11, mmLen_1265, mmLen_1266, mmLen_1267, mmLen_1275, mmLen_1276, mmR32, mmR64, Option.some.injEq, Int.cast_ofNat_Int, and_true, true_and, if_true, if_false, List.length_cons, List.length_nil, Nat.le_refl, Nat.zero_le, Nat.sub_zero, forall_const, reduceCtorEq, Nat.reduceAdd, Nat.reduceSub, Nat.reduceLeDiff, Nat.reduceEqDiff, Int.reduceAdd, Int.reduceNeg, Int.reduceSub, Int.reduceLT, Int.reduceLE, Int.reduceMul, Int.reduceEq, List.drop_zero, List.drop_succ_cons, ne_eq, not_false_eq_true, not_true_eq_false, false_and, and_false, false_implies, true_implies, reduceIte, mmU_rd, implies_true, or_false, false_or, or_true, true_or]
        exact w54 0 (Or.inl ⟨rfl, hn⟩)
      have w51 : (L 8 (L 6 l * 6 + k) = m ∧ fitP L la l k) → mmK (d + 6) 218 (mT a br X (PQ I L m l F)) 51 [some (mo 11 0), some (mv l), some (mv (L 6 l)), some (mv k), some (mv (18 * L 6 l + 3 * k)), l5] [] (I1, mmRf a br, X) := by
        intro hn
        refine mmC_step ?_
        simp only [cd_218, sg_218_0, sg_218_6, sg_218_51, sg_218_53, sg_218_54, sg_218_75, sg_218_100, sg_218_102, mmK_cut cd_218, q_cons, q_G0, q_GS, q_I1, q_L1, q_A1, q_S0, q_S1, q_SS, q_T0, q_T1, q_TS, q_Kn, q_Ki, q_Kl, q_Kr, q_k0, q_kS, q_rc, q_ps, q_pn, q_aload0, q_iload1, q_istore2, q_iconst, q_istore3, q_iload3, q_getfieldA, q_iload2, q_iaload, q_icmp_ge, q_bipush, q_imul, q_iadd, q_istore, q_iload, q_getfieldI, q_icmp_ne, q_if_lt, q_if_le, q_isub, q_goto, q_if_eq, q_irem, q_if_ne, q_iastore, q_ireturn1, q_iinc, rf_11_65, rf_11_66, rf_11_67, rf_11_75, rf_11_76, mmKe_1265, mmKe_1266, mmKe_1267, mmKe_1275, mmKe_1276, mmKo_11, mmLen_1265, mmLen_1266, mmLen_1267, mmLen_1275, mmLen_1276, mmR32, mmR64, Option.some.injEq, Int.cast_ofNat_Int, and_true, true_and, if_true, if_false, List.length_cons, List.length_nil, Nat.le_refl, Nat.zero_le, Nat.sub_zero, forall_const, reduceCtorEq, Nat.reduceAdd, Nat.reduceSub, Nat.reduceLeDiff, Nat.reduceEqDiff, Int.reduceAdd, Int.reduceNeg, Int.reduceSub, Int.reduceLT, Int.reduceLE, Int.reduceMul, Int.reduceEq, List.drop_zero, List.drop_succ_cons, ne_eq, not_false_eq_true, not_true_eq_false, false_and, and_false, false_implies, true_implies, reduceIte, mmU_rd, implies_true, or_false, false_or, or_true, true_or]
        exact w54 1 (Or.inr ⟨rfl, hn⟩)
      refine mmC_step ?_
      simp only [cd_218, sg_218_0, sg_218_6, sg_218_51, sg_218_53, sg_218_54, sg_218_75, sg_218_100, sg_218_102, mmK_cut cd_218, q_cons, q_G0, q_GS, q_I1, q_L1, q_A1, q_S0, q_S1, q_SS, q_T0, q_T1, q_TS, q_Kn, q_Ki, q_Kl, q_Kr, q_k0, q_kS, q_rc, q_ps, q_pn, q_aload0, q_iload1, q_istore2, q_iconst, q_istore3, q_iload3, q_getfieldA, q_iload2, q_iaload, q_icmp_ge, q_bipush, q_imul, q_iadd, q_istore, q_iload, q_getfieldI, q_icmp_ne, q_if_lt, q_if_le, q_isub, q_goto, q_if_eq, q_irem, q_if_ne, q_iastore, q_ireturn1, q_iinc, rf_11_65, rf_11_66, rf_11_67, rf_11_75, rf_11_76, mmKe_1265, mmKe_1266, mmKe_1267, mmKe_1275, mmKe_1276, mmKo_11, mmLen_1265, mmLen_1266, mmLen_1267, mmLen_1275, mmLen_1276, mmR32, mmR64, Option.some.injEq, Int.cast_ofNat_Int, and_true, true_and, if_true, if_false, List.length_cons, List.length_nil, Nat.le_refl, Nat.zero_le, Nat.sub_zero, forall_const, reduceCtorEq, Nat.reduceAdd, Nat.reduceSub, Nat.reduceLeDiff, Nat.reduceEqDiff, Int.reduceAdd, Int.reduceNeg, Int.reduceSub, Int.reduceLT, Int.reduceLE, Int.reduceMul, Int.reduceEq, List.drop_zero, List.drop_succ_cons, ne_eq, not_false_eq_true, not_true_eq_false, false_and, and_false, false_implies, true_implies, reduceIte, mmU_rd, implies_true, or_false, false_or, or_true, true_or]
      rw [e7, e8, e9, e63]
      refine ⟨by omega, by omega, fun c => by omega, fun _ => ⟨by omega, by omega, by omega, by omega, by omega, fun c1 => w53 (fun q => c1 q.1), fun c1 => ⟨by omega, by omega, by omega, fun c2 => w51 ⟨c1, Or.inl (by omega)⟩, fun c2 => ⟨fun c3 => w53 (fun q => ?_), fun c3 => ⟨by omega, by omega, by omega, by omega, by omega, by omega, fun c4 => w53 (fun q => ?_), fun c4 => w51 ⟨c1, Or.inr ?_⟩⟩⟩⟩⟩⟩
      · have := hla0 (by omega)
        rcases q.2 with q | q <;> omega
      · rw [hf _ _ _ (by omega) (by omega) (by omega), hla1 c3] at c4
        rcases q.2 with q | q
        · omega
        · exact c4 q
      · rw [hf _ _ _ (by omega) (by omega) (by omega), hla1 c3] at c4
        exact c4
  refine mmC_in (by decide) (Nat.le_of_ble_eq_true rfl) (mmC_step ?_)
  simp only [show mmMl 218 = 6 from rfl, mmLs, List.replicate, cd_218, sg_218_0, sg_218_6, sg_218_51, sg_218_53, sg_218_54, sg_218_75, sg_218_100, sg_218_102, mmK_cut cd_218, q_cons, q_G0, q_GS, q_I1, q_L1, q_A1, q_S0, q_S1, q_SS, q_T0, q_T1, q_TS, q_Kn, q_Ki, q_Kl, q_Kr, q_k0, q_kS, q_rc, q_ps, q_pn, q_aload0, q_iload1, q_istore2, q_iconst, q_istore3, q_iload3, q_getfieldA, q_iload2, q_iaload, q_icmp_ge, q_bipush, q_imul, q_iadd, q_istore, q_iload, q_getfieldI, q_icmp_ne, q_if_lt, q_if_le, q_isub, q_goto, q_if_eq, q_irem, q_if_ne, q_iastore, q_ireturn1, q_iinc, rf_11_65, rf_11_66, rf_11_67, rf_11_75, rf_11_76, mmKe_1265, mmKe_1266, mmKe_1267, mmKe_1275, mmKe_1276, mmKo_11, mmLen_1265, mmLen_1266, mmLen_1267, mmLen_1275, mmLen_1276, mmR32, mmR64, Option.some.injEq, Int.cast_ofNat_Int, and_true, true_and, if_true, if_false, List.length_cons, List.length_nil, Nat.le_refl, Nat.zero_le, Nat.sub_zero, forall_const, reduceCtorEq, Nat.reduceAdd, Nat.reduceSub, Nat.reduceLeDiff, Nat.reduceEqDiff, Int.reduceAdd, Int.reduceNeg, Int.reduceSub, Int.reduceLT, Int.reduceLE, Int.reduceMul, Int.reduceEq, List.drop_zero, List.drop_succ_cons, ne_eq, not_false_eq_true, not_true_eq_false, false_and, and_false, false_implies, true_implies, reduceIte, mmU_rd, implies_true, or_false, false_or, or_true, true_or]
  rw [q_invV (pay := [])]
  simp only [q_k0, q_kS, q_rc, mmKo_11]
  refine ⟨Nat.le_of_ble_eq_true rfl, by trivial, Nat.zero_le _, Nat.zero_le _, ?_⟩
  refine sq_source hW (fun l l0 l1 => (hM.2.2.1 l l0 l1).2.2.2.1) hl ?_
  simp only [mmK_cut cd_218, q_cons, q_G0, q_GS, q_I1, q_L1, q_A1, q_S0, q_S1, q_SS, q_T0, q_T1, q_TS, q_Kn, q_Ki, q_Kl, q_Kr, q_k0, q_kS, q_rc, q_ps, q_pn, q_aload0, q_iload1, q_istore2, q_iconst, q_istore3, q_iload3, q_getfieldA, q_iload2, q_iaload, q_icmp_ge, q_bipush, q_imul, q_iadd, q_istore, q_iload, q_getfieldI, q_icmp_ne, q_if_lt, q_if_le, q_isub, q_goto, q_if_eq, q_irem, q_if_ne, q_iastore, q_ireturn1, q_iinc, rf_11_65, rf_11_66, rf_11_67, rf_11_75, rf_11_76, mmKe_1265, mmKe_1266, mmKe_1267, mmKe_1275, mmKe_1276, mmKo_11, mmLen_1265, mmLen_1266, mmLen_1267, mmLen_1275, mmLen_1276, mmR32, mmR64, Option.some.injEq, Int.cast_ofNat_Int, and_true, true_and, if_true, if_false, List.length_cons, List.length_nil, Nat.le_refl, Nat.zero_le, Nat.sub_zero, forall_const, reduceCtorEq, Nat.reduceAdd, Nat.reduceSub, Nat.reduceLeDiff, Nat.reduceEqDiff, Int.reduceAdd, Int.reduceNeg, Int.reduceSub, Int.reduceLT, Int.reduceLE, Int.reduceMul, Int.reduceEq, List.drop_zero, List.drop_succ_cons, ne_eq, not_false_eq_true, not_true_eq_false, false_and, and_false, false_implies, true_implies, reduceIte, mmU_rd, implies_true, or_false, false_or, or_true, true_or]
  exact key (nIf L l).toNat 0 I _ _ (by omega) (by omega) FrW_refl hF
end S858
