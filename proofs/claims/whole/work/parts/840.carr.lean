def FrO (j : Nat) (I I' : mMm) : Prop := ∀ t i k, ¬ (t = 609 ∧ i = j) → ¬ (t = 5 ∧ i = j ∧ k = 10) → I' t i k = I t i k
/-- bits of known letters -/
def KB (A : Nat) (K : Int → Bool) (n : Int) : Prop := A < 2 ^ 25 ∧ ∀ l : Int, 0 ≤ l → l < n → A.testBit l.toNat = K l
/-- the known letters in their order -/
def odT (L : Nat → Int → Int) (z : Int) (K : Int → Bool) : List Int := (odL (oW L z) (L 0 0).toNat).filter K
theorem Lc_ext {I I' : mMm} (h : ∀ t k, (t = 3 ∨ (401 ≤ t ∧ t ≤ 413)) → I' t 0 k = I t 0 k) {f : Nat} (hf : f ≤ 14) {k : Int} : Lc I' 0 f k = Lc I 0 f k := by
  unfold Lc
  rw [h 3 _ (Or.inl rfl), h 3 _ (Or.inl rfl), h 3 _ (Or.inl rfl)]
  by_cases c0 : f = 0
  · rw [if_pos c0, if_pos c0]
  · rw [if_neg c0, if_neg c0]
    by_cases c1 : f = 11
    · rw [if_pos c1, if_pos c1]
    · rw [if_neg c1, if_neg c1]
      by_cases c2 : f = 14
      · rw [if_pos c2, if_pos c2]
      · rw [if_neg c2, if_neg c2]
        exact h _ _ (Or.inr (by omega))
/-- the class's letters are L -/
def CL (I : mMm) (L : Nat → Int → Int) : Prop := ∀ f k, f ≤ 14 → Lc I 0 f k = L f k
theorem CL_ext {I I' : mMm} {L : Nat → Int → Int} (hL : CL I L) (h : ∀ t k, (t = 3 ∨ (401 ≤ t ∧ t ≤ 413)) → I' t 0 k = I t 0 k) : CL I' L := fun f k hf => (Lc_ext h hf).trans (hL f k hf)
section S840
variable {d a j x : Nat} {I I1 I' I'' : mMm} {br : Nat → Option mmO} {R : Nat → Nat → Int → Option mmO} {X : mmX} {L : Nat → Int → Int} {r : mRu} {Q : Option mmV → mmM → Prop}
theorem FrO_trans (h : FrO j I I') (h' : FrO j I' I'') : FrO j I I'' := fun t i k c1 c2 => (h' t i k c1 c2).trans (h t i k c1 c2)
theorem FrO_refl : FrO j I I := fun _ _ _ _ _ => rfl
theorem c_goesAhead {l e z : Int} (hz : z = 0 ∨ z = 1) (h2 : ∀ l, 0 ≤ l → l < 16 → I 402 0 l = L 2 l) (hl : e < l ∧ l < 16) (he : 0 ≤ e) (hr : (0 ≤ L 2 l ∧ L 2 l ≤ 999) ∧ (0 ≤ L 2 e ∧ L 2 e ≤ 999)) (hQ : Q (some (mv (bI (oW L z l < oW L z e)))) (I, mmRf a br, X)) : mmC (d + 1) 66 [mo 3 0, mv l, mv e, mv z] (I, mmRf a br, X) Q := by
  refine mmC_in (by decide) (Nat.le_of_ble_eq_true rfl) (mmC_step ?_)
  simp only [show mmMl 66 = 5 from rfl, mmLs, List.replicate, cd_66, sg_66_0, sg_66_16, sg_66_18, sg_66_22, sg_66_23, mmK_cut cd_66, q_cons, q_G0, q_GS, q_I1, q_L1, q_A1, q_S0, q_S1, q_SS, q_T0, q_T1, q_TS, q_Kn, q_Ki, q_Kl, q_Kr, q_k0, q_kS, q_rc, q_ps, q_pn, q_aload0, q_getfieldA, q_iload1, q_iaload, q_iload2, q_isub, q_istore, q_iload3, q_if_eq, q_iload, q_if_lt, q_iconst, q_goto, q_if_ge, q_ireturn1, rf_3_2, mmKe_402, mmKo_3, mmLen_402, mmR32, mmR64, Option.some.injEq, Int.cast_ofNat_Int, and_true, true_and, if_true, if_false, List.length_cons, List.length_nil, Nat.le_refl, Nat.zero_le, Nat.sub_zero, forall_const, reduceCtorEq, Nat.reduceAdd, Nat.reduceSub, Nat.reduceLeDiff, Nat.reduceEqDiff, Int.reduceAdd, Int.reduceNeg, Int.reduceSub, Int.reduceLT, Int.reduceLE, Int.reduceMul, Int.reduceEq, List.drop_zero, List.drop_succ_cons, ne_eq, not_false_eq_true, not_true_eq_false, false_and, and_false, false_implies, true_implies, reduceIte, mmU_rd, implies_true, or_false, false_or, or_true, true_or]
  rw [h2 l (by omega) (by omega), h2 e (by omega) (by omega)]
  refine ⟨by omega, by omega, by omega, by omega, by omega, fun c => ?_, fun c => ⟨fun c2 => ?_, fun c2 => ?_⟩⟩
  · refine mmC_step ?_
    simp only [cd_66, sg_66_0, sg_66_16, sg_66_18, sg_66_22, sg_66_23, mmK_cut cd_66, q_cons, q_G0, q_GS, q_I1, q_L1, q_A1, q_S0, q_S1, q_SS, q_T0, q_T1, q_TS, q_Kn, q_Ki, q_Kl, q_Kr, q_k0, q_kS, q_rc, q_ps, q_pn, q_aload0, q_getfieldA, q_iload1, q_iaload, q_iload2, q_isub, q_istore, q_iload3, q_if_eq, q_iload, q_if_lt, q_iconst, q_goto, q_if_ge, q_ireturn1, rf_3_2, mmKe_402, mmKo_3, mmLen_402, mmR32, mmR64, Option.some.injEq, Int.cast_ofNat_Int, and_true, true_and, if_true, if_false, List.length_cons, List.length_nil, Nat.le_refl, Nat.zero_le, Nat.sub_zero, forall_const, reduceCtorEq, Nat.reduceAdd, Nat.reduceSub, Nat.reduceLeDiff, Nat.reduceEqDiff, Int.reduceAdd, Int.reduceNeg, Int.reduceSub, Int.reduceLT, Int.reduceLE, Int.reduceMul, Int.reduceEq, List.drop_zero, List.drop_succ_cons, ne_eq, not_false_eq_true, not_true_eq_false, false_and, and_false, false_implies, true_implies, reduceIte, mmU_rd, implies_true, or_false, false_or, or_true, true_or]
    refine ⟨fun c2 => ?_, fun c2 => ?_⟩
    · refine mmC_step ?_
      simp only [cd_66, sg_66_0, sg_66_16, sg_66_18, sg_66_22, sg_66_23, mmK_cut cd_66, q_cons, q_G0, q_GS, q_I1, q_L1, q_A1, q_S0, q_S1, q_SS, q_T0, q_T1, q_TS, q_Kn, q_Ki, q_Kl, q_Kr, q_k0, q_kS, q_rc, q_ps, q_pn, q_aload0, q_getfieldA, q_iload1, q_iaload, q_iload2, q_isub, q_istore, q_iload3, q_if_eq, q_iload, q_if_lt, q_iconst, q_goto, q_if_ge, q_ireturn1, rf_3_2, mmKe_402, mmKo_3, mmLen_402, mmR32, mmR64, Option.some.injEq, Int.cast_ofNat_Int, and_true, true_and, if_true, if_false, List.length_cons, List.length_nil, Nat.le_refl, Nat.zero_le, Nat.sub_zero, forall_const, reduceCtorEq, Nat.reduceAdd, Nat.reduceSub, Nat.reduceLeDiff, Nat.reduceEqDiff, Int.reduceAdd, Int.reduceNeg, Int.reduceSub, Int.reduceLT, Int.reduceLE, Int.reduceMul, Int.reduceEq, List.drop_zero, List.drop_succ_cons, ne_eq, not_false_eq_true, not_true_eq_false, false_and, and_false, false_implies, true_implies, reduceIte, mmU_rd, implies_true, or_false, false_or, or_true, true_or]
      refine mmC_step ?_
      simp only [cd_66, sg_66_0, sg_66_16, sg_66_18, sg_66_22, sg_66_23, mmK_cut cd_66, q_cons, q_G0, q_GS, q_I1, q_L1, q_A1, q_S0, q_S1, q_SS, q_T0, q_T1, q_TS, q_Kn, q_Ki, q_Kl, q_Kr, q_k0, q_kS, q_rc, q_ps, q_pn, q_aload0, q_getfieldA, q_iload1, q_iaload, q_iload2, q_isub, q_istore, q_iload3, q_if_eq, q_iload, q_if_lt, q_iconst, q_goto, q_if_ge, q_ireturn1, rf_3_2, mmKe_402, mmKo_3, mmLen_402, mmR32, mmR64, Option.some.injEq, Int.cast_ofNat_Int, and_true, true_and, if_true, if_false, List.length_cons, List.length_nil, Nat.le_refl, Nat.zero_le, Nat.sub_zero, forall_const, reduceCtorEq, Nat.reduceAdd, Nat.reduceSub, Nat.reduceLeDiff, Nat.reduceEqDiff, Int.reduceAdd, Int.reduceNeg, Int.reduceSub, Int.reduceLT, Int.reduceLE, Int.reduceMul, Int.reduceEq, List.drop_zero, List.drop_succ_cons, ne_eq, not_false_eq_true, not_true_eq_false, false_and, and_false, false_implies, true_implies, reduceIte, mmU_rd, implies_true, or_false, false_or, or_true, true_or]
      exact q_b0 hQ (by unfold oW; rw [if_pos c, if_pos c]; omega)
    · refine mmC_step ?_
      simp only [cd_66, sg_66_0, sg_66_16, sg_66_18, sg_66_22, sg_66_23, mmK_cut cd_66, q_cons, q_G0, q_GS, q_I1, q_L1, q_A1, q_S0, q_S1, q_SS, q_T0, q_T1, q_TS, q_Kn, q_Ki, q_Kl, q_Kr, q_k0, q_kS, q_rc, q_ps, q_pn, q_aload0, q_getfieldA, q_iload1, q_iaload, q_iload2, q_isub, q_istore, q_iload3, q_if_eq, q_iload, q_if_lt, q_iconst, q_goto, q_if_ge, q_ireturn1, rf_3_2, mmKe_402, mmKo_3, mmLen_402, mmR32, mmR64, Option.some.injEq, Int.cast_ofNat_Int, and_true, true_and, if_true, if_false, List.length_cons, List.length_nil, Nat.le_refl, Nat.zero_le, Nat.sub_zero, forall_const, reduceCtorEq, Nat.reduceAdd, Nat.reduceSub, Nat.reduceLeDiff, Nat.reduceEqDiff, Int.reduceAdd, Int.reduceNeg, Int.reduceSub, Int.reduceLT, Int.reduceLE, Int.reduceMul, Int.reduceEq, List.drop_zero, List.drop_succ_cons, ne_eq, not_false_eq_true, not_true_eq_false, false_and, and_false, false_implies, true_implies, reduceIte, mmU_rd, implies_true, or_false, false_or, or_true, true_or]
      exact q_b1 hQ (by unfold oW; rw [if_pos c, if_pos c]; omega)
  · refine mmC_step ?_
    simp only [cd_66, sg_66_0, sg_66_16, sg_66_18, sg_66_22, sg_66_23, mmK_cut cd_66, q_cons, q_G0, q_GS, q_I1, q_L1, q_A1, q_S0, q_S1, q_SS, q_T0, q_T1, q_TS, q_Kn, q_Ki, q_Kl, q_Kr, q_k0, q_kS, q_rc, q_ps, q_pn, q_aload0, q_getfieldA, q_iload1, q_iaload, q_iload2, q_isub, q_istore, q_iload3, q_if_eq, q_iload, q_if_lt, q_iconst, q_goto, q_if_ge, q_ireturn1, rf_3_2, mmKe_402, mmKo_3, mmLen_402, mmR32, mmR64, Option.some.injEq, Int.cast_ofNat_Int, and_true, true_and, if_true, if_false, List.length_cons, List.length_nil, Nat.le_refl, Nat.zero_le, Nat.sub_zero, forall_const, reduceCtorEq, Nat.reduceAdd, Nat.reduceSub, Nat.reduceLeDiff, Nat.reduceEqDiff, Int.reduceAdd, Int.reduceNeg, Int.reduceSub, Int.reduceLT, Int.reduceLE, Int.reduceMul, Int.reduceEq, List.drop_zero, List.drop_succ_cons, ne_eq, not_false_eq_true, not_true_eq_false, false_and, and_false, false_implies, true_implies, reduceIte, mmU_rd, implies_true, or_false, false_or, or_true, true_or]
    refine mmC_step ?_
    simp only [cd_66, sg_66_0, sg_66_16, sg_66_18, sg_66_22, sg_66_23, mmK_cut cd_66, q_cons, q_G0, q_GS, q_I1, q_L1, q_A1, q_S0, q_S1, q_SS, q_T0, q_T1, q_TS, q_Kn, q_Ki, q_Kl, q_Kr, q_k0, q_kS, q_rc, q_ps, q_pn, q_aload0, q_getfieldA, q_iload1, q_iaload, q_iload2, q_isub, q_istore, q_iload3, q_if_eq, q_iload, q_if_lt, q_iconst, q_goto, q_if_ge, q_ireturn1, rf_3_2, mmKe_402, mmKo_3, mmLen_402, mmR32, mmR64, Option.some.injEq, Int.cast_ofNat_Int, and_true, true_and, if_true, if_false, List.length_cons, List.length_nil, Nat.le_refl, Nat.zero_le, Nat.sub_zero, forall_const, reduceCtorEq, Nat.reduceAdd, Nat.reduceSub, Nat.reduceLeDiff, Nat.reduceEqDiff, Int.reduceAdd, Int.reduceNeg, Int.reduceSub, Int.reduceLT, Int.reduceLE, Int.reduceMul, Int.reduceEq, List.drop_zero, List.drop_succ_cons, ne_eq, not_false_eq_true, not_true_eq_false, false_and, and_false, false_implies, true_implies, reduceIte, mmU_rd, implies_true, or_false, false_or, or_true, true_or]
    exact q_b0 hQ (by unfold oW; rw [if_neg c, if_neg c]; omega)
  · refine mmC_step ?_
    simp only [cd_66, sg_66_0, sg_66_16, sg_66_18, sg_66_22, sg_66_23, mmK_cut cd_66, q_cons, q_G0, q_GS, q_I1, q_L1, q_A1, q_S0, q_S1, q_SS, q_T0, q_T1, q_TS, q_Kn, q_Ki, q_Kl, q_Kr, q_k0, q_kS, q_rc, q_ps, q_pn, q_aload0, q_getfieldA, q_iload1, q_iaload, q_iload2, q_isub, q_istore, q_iload3, q_if_eq, q_iload, q_if_lt, q_iconst, q_goto, q_if_ge, q_ireturn1, rf_3_2, mmKe_402, mmKo_3, mmLen_402, mmR32, mmR64, Option.some.injEq, Int.cast_ofNat_Int, and_true, true_and, if_true, if_false, List.length_cons, List.length_nil, Nat.le_refl, Nat.zero_le, Nat.sub_zero, forall_const, reduceCtorEq, Nat.reduceAdd, Nat.reduceSub, Nat.reduceLeDiff, Nat.reduceEqDiff, Int.reduceAdd, Int.reduceNeg, Int.reduceSub, Int.reduceLT, Int.reduceLE, Int.reduceMul, Int.reduceEq, List.drop_zero, List.drop_succ_cons, ne_eq, not_false_eq_true, not_true_eq_false, false_and, and_false, false_implies, true_implies, reduceIte, mmU_rd, implies_true, or_false, false_or, or_true, true_or]
    exact q_b1 hQ (by unfold oW; rw [if_neg c, if_neg c]; omega)
theorem CL_O (h : CL I L) (hf : FrO j I I') : CL I' L := CL_ext h (fun t k ht => hf _ _ _ (by omega) (by omega))
/-- the place of a letter among those before it -/
theorem c_arrP {l z : Int} {T : List Int} (hz : z = 0 ∨ z = 1) (hL : CL I L) (hW : LW L) (hl : 0 ≤ l ∧ l < L 0 0) (hT : ∀ e, e ∈ T → 0 ≤ e ∧ e < l) (hp : T.Pairwise (fun a b => oW L z a < oW L z b)) (hlen : T.length < 16) (hc : I 5 j 10 = T.length) (hQ : ∀ I' l4, FrO j I I' → LA (I' 609 j) (insL (oW L z) l T) → I' 5 j 10 = (insL (oW L z) l T).length → mmK (d + 1) 65 Q 56 [some (mo 5 j), some (mo 3 0), some (mv z), some (mv l), l4] [] (I', mmRf a br, X)) :
    ∀ (k : Nat) (I1 : mMm), k ≤ T.length → FrO j I I1 → I1 5 j 10 = I 5 j 10 → (∀ n : Nat, n < k → I1 609 j n = T.getD n 0) → (∀ n : Nat, k < n → n ≤ T.length → I1 609 j n = T.getD (n - 1) 0) → (∀ i, k ≤ i → i < T.length → oW L z l < oW L z (T.getD i 0)) → mmK (d + 1) 65 Q 20 [some (mo 5 j), some (mo 3 0), some (mv z), some (mv l), some (mv k)] [] (I1, mmRf a br, X) := by
  have h16 := hW.1
  have w45 : ∀ (k : Nat) (I1 : mMm), k ≤ T.length → FrO j I I1 → I1 5 j 10 = I 5 j 10 → (∀ n : Nat, n < k → I1 609 j n = T.getD n 0) → (∀ n : Nat, k < n → n ≤ T.length → I1 609 j n = T.getD (n - 1) 0) → (∀ i, k ≤ i → i < T.length → oW L z l < oW L z (T.getD i 0)) → (k = 0 ∨ oW L z (T.getD (k - 1) 0) ≤ oW L z l) → mmK (d + 1) 65 Q 45 [some (mo 5 j), some (mo 3 0), some (mv z), some (mv l), some (mv k)] [] (I1, mmRf a br, X) := by
    intro k I1 hk hf h10 hA hB hC h0
    have e := ins_at hp hk h0 hC
    have el := ins_len (l := l) hp
    refine mmC_step ?_
    simp only [cd_65, sg_65_0, sg_65_5, sg_65_20, sg_65_45, sg_65_56, sg_65_58, mmK_cut cd_65, q_cons, q_G0, q_GS, q_I1, q_L1, q_A1, q_S0, q_S1, q_SS, q_T0, q_T1, q_TS, q_Kn, q_Ki, q_Kl, q_Kr, q_k0, q_kS, q_rc, q_ps, q_pn, q_aload0, q_iconst, q_putfieldI, q_istore3, q_iload3, q_aload1, q_getfieldI, q_icmp_ge, q_ishr, q_iand, q_icmp_ne, q_istore, q_iload, q_if_le, q_getfieldA, q_isub, q_iaload, q_iload2, q_if_eq, q_iastore, q_iinc, q_goto, q_dupI, q_dupA, q_iadd, q_return, rf_5_9, mmKe_609, mmKo_3, mmKo_5, mmLen_609, mmR32, mmR64, Option.some.injEq, Int.cast_ofNat_Int, and_true, true_and, if_true, if_false, List.length_cons, List.length_nil, Nat.le_refl, Nat.zero_le, Nat.sub_zero, forall_const, reduceCtorEq, Nat.reduceAdd, Nat.reduceSub, Nat.reduceLeDiff, Nat.reduceEqDiff, Int.reduceAdd, Int.reduceNeg, Int.reduceSub, Int.reduceLT, Int.reduceLE, Int.reduceMul, Int.reduceEq, List.drop_zero, List.drop_succ_cons, ne_eq, not_false_eq_true, not_true_eq_false, false_and, and_false, false_implies, true_implies, reduceIte, mmU_rd, implies_true, or_false, false_or, or_true, true_or]
    rw [h10, hc]
    refine ⟨by omega, by omega, by omega, hQ _ _ ?_ ?_ ?_⟩
    · intro t i q c1 c2
      unfold mmU
      rw [if_neg (by omega), if_neg (by omega)]
      exact hf t i q c1 c2
    · rw [e]
      refine LA_ins (o := I1 609 j) hk (fun n hn => ?_) ?_ (fun n h1 h2 => ?_)
      · rw [← hA n hn]; unfold mmU; rw [if_neg (by omega), if_neg (by omega)]
      · unfold mmU; rw [if_neg (by omega), if_pos ⟨rfl, rfl, rfl⟩]
      · rw [← hB n h1 h2]; unfold mmU; rw [if_neg (by omega), if_neg (by omega)]
    · rw [el]; unfold mmU; rw [if_pos ⟨rfl, rfl, rfl⟩]; omega
  intro k
  induction k with
  | zero =>
    intro I1 hk hf h10 hA hB hC
    refine mmC_step ?_
    simp only [cd_65, sg_65_0, sg_65_5, sg_65_20, sg_65_45, sg_65_56, sg_65_58, mmK_cut cd_65, q_cons, q_G0, q_GS, q_I1, q_L1, q_A1, q_S0, q_S1, q_SS, q_T0, q_T1, q_TS, q_Kn, q_Ki, q_Kl, q_Kr, q_k0, q_kS, q_rc, q_ps, q_pn, q_aload0, q_iconst, q_putfieldI, q_istore3, q_iload3, q_aload1, q_getfieldI, q_icmp_ge, q_ishr, q_iand, q_icmp_ne, q_istore, q_iload, q_if_le, q_getfieldA, q_isub, q_iaload, q_iload2, q_if_eq, q_iastore, q_iinc, q_goto, q_dupI, q_dupA, q_iadd, q_return, rf_5_9, mmKe_609, mmKo_3, mmKo_5, mmLen_609, mmR32, mmR64, Option.some.injEq, Int.cast_ofNat_Int, and_true, true_and, if_true, if_false, List.length_cons, List.length_nil, Nat.le_refl, Nat.zero_le, Nat.sub_zero, forall_const, reduceCtorEq, Nat.reduceAdd, Nat.reduceSub, Nat.reduceLeDiff, Nat.reduceEqDiff, Int.reduceAdd, Int.reduceNeg, Int.reduceSub, Int.reduceLT, Int.reduceLE, Int.reduceMul, Int.reduceEq, List.drop_zero, List.drop_succ_cons, ne_eq, not_false_eq_true, not_true_eq_false, false_and, and_false, false_implies, true_implies, reduceIte, mmU_rd, implies_true, or_false, false_or, or_true, true_or]
    exact w45 0 I1 hk hf h10 hA hB hC (Or.inl rfl)
  | succ k ih =>
    intro I1 hk hf h10 hA hB hC
    have hL1 := CL_O hL hf
    have ek : T.getD k 0 ∈ T := getD_mem (by omega)
    have hek := hT _ ek
    have hwl := (hW.2.2.2.1 l hl.1 hl.2).2.1
    have hwe := (hW.2.2.2.1 (T.getD k 0) hek.1 (by omega)).2.1
    have e1 : I1 609 j ((k + 1 : Nat) - 1 : Int) = T.getD k 0 := by
      rw [show ((k + 1 : Nat) : Int) - 1 = (k : Int) by omega]
      exact hA k (by omega)
    refine mmC_step ?_
    simp only [cd_65, sg_65_0, sg_65_5, sg_65_20, sg_65_45, sg_65_56, sg_65_58, mmK_cut cd_65, q_cons, q_G0, q_GS, q_I1, q_L1, q_A1, q_S0, q_S1, q_SS, q_T0, q_T1, q_TS, q_Kn, q_Ki, q_Kl, q_Kr, q_k0, q_kS, q_rc, q_ps, q_pn, q_aload0, q_iconst, q_putfieldI, q_istore3, q_iload3, q_aload1, q_getfieldI, q_icmp_ge, q_ishr, q_iand, q_icmp_ne, q_istore, q_iload, q_if_le, q_getfieldA, q_isub, q_iaload, q_iload2, q_if_eq, q_iastore, q_iinc, q_goto, q_dupI, q_dupA, q_iadd, q_return, rf_5_9, mmKe_609, mmKo_3, mmKo_5, mmLen_609, mmR32, mmR64, Option.some.injEq, Int.cast_ofNat_Int, and_true, true_and, if_true, if_false, List.length_cons, List.length_nil, Nat.le_refl, Nat.zero_le, Nat.sub_zero, forall_const, reduceCtorEq, Nat.reduceAdd, Nat.reduceSub, Nat.reduceLeDiff, Nat.reduceEqDiff, Int.reduceAdd, Int.reduceNeg, Int.reduceSub, Int.reduceLT, Int.reduceLE, Int.reduceMul, Int.reduceEq, List.drop_zero, List.drop_succ_cons, ne_eq, not_false_eq_true, not_true_eq_false, false_and, and_false, false_implies, true_implies, reduceIte, mmU_rd, implies_true, or_false, false_or, or_true, true_or]
    rw [e1]
    refine ⟨fun c => by omega, fun _ => ⟨by omega, by omega, by omega, ?_⟩⟩
    rw [q_invS (pay := [])]
    simp only [q_k0, q_kS]
    refine ⟨Nat.le_of_ble_eq_true rfl, Nat.zero_le _, Nat.zero_le _, ?_⟩
    refine c_goesAhead hz (fun l _ _ => hL1 2 l (by omega)) ⟨hek.2, by omega⟩ hek.1 ⟨hwl, hwe⟩ ?_
    simp only [mmK_cut cd_65, q_cons, q_G0, q_GS, q_I1, q_L1, q_A1, q_S0, q_S1, q_SS, q_T0, q_T1, q_TS, q_Kn, q_Ki, q_Kl, q_Kr, q_k0, q_kS, q_rc, q_ps, q_pn, q_aload0, q_iconst, q_putfieldI, q_istore3, q_iload3, q_aload1, q_getfieldI, q_icmp_ge, q_ishr, q_iand, q_icmp_ne, q_istore, q_iload, q_if_le, q_getfieldA, q_isub, q_iaload, q_iload2, q_if_eq, q_iastore, q_iinc, q_goto, q_dupI, q_dupA, q_iadd, q_return, rf_5_9, mmKe_609, mmKo_3, mmKo_5, mmLen_609, mmR32, mmR64, Option.some.injEq, Int.cast_ofNat_Int, and_true, true_and, if_true, if_false, List.length_cons, List.length_nil, Nat.le_refl, Nat.zero_le, Nat.sub_zero, forall_const, reduceCtorEq, Nat.reduceAdd, Nat.reduceSub, Nat.reduceLeDiff, Nat.reduceEqDiff, Int.reduceAdd, Int.reduceNeg, Int.reduceSub, Int.reduceLT, Int.reduceLE, Int.reduceMul, Int.reduceEq, List.drop_zero, List.drop_succ_cons, ne_eq, not_false_eq_true, not_true_eq_false, false_and, and_false, false_implies, true_implies, reduceIte, mmU_rd, implies_true, or_false, false_or, or_true, true_or, bI_eq0]
    rw [e1]
    refine ⟨fun c => w45 (k + 1) I1 hk hf h10 hA hB hC (Or.inr (by rw [Nat.add_sub_cancel]; omega)), fun c => ?_⟩
    have c := Classical.not_not.mp c
    refine ⟨by omega, by omega, by omega, by omega, by omega, ?_⟩
    rw [show ((k + 1 : Nat) : Int) + -1 = (k : Int) by omega]
    refine ⟨by omega, ih _ (by omega) ?_ ?_ (fun n hn => ?_) (fun n h1 h2 => ?_) (fun i h1 h2 => ?_)⟩
    · intro t i q c1 c2
      unfold mmU
      rw [if_neg (fun q => c1 ⟨q.1, q.2.1⟩)]
      exact hf t i q c1 c2
    · unfold mmU; rw [if_neg (by omega)]; exact h10
    · rw [← hA n (by omega)]; unfold mmU; rw [if_neg (by omega)]
    · unfold mmU
      by_cases cn : n = k + 1
      · subst cn; rw [if_pos ⟨rfl, rfl, rfl⟩, Nat.add_sub_cancel]
      · rw [if_neg (by omega)]; exact hB n (by omega) h2
    · by_cases ci : i = k
      · subst ci; exact c
      · exact hC i (by omega) h2
theorem od_T {z : Int} {K : Int → Bool} {n : Nat} (hn : n ≤ 16) : ((odL (oW L z) n).filter K).Pairwise (fun a b => oW L z a < oW L z b) ∧ (∀ e, e ∈ (odL (oW L z) n).filter K → 0 ≤ e ∧ e < n ∧ K e = true) ∧ ((odL (oW L z) n).filter K).length ≤ n := by
  have hne : ∀ a b : Int, 0 ≤ a → a < b → b < n → ¬ oW L z a = oW L z b := fun a b h0 h1 h2 => oW_ne h0 h1 (by omega)
  refine ⟨(od_pw n hne).filter _, fun e he => ?_, ?_⟩
  · rw [List.mem_filter, od_in] at he
    exact ⟨he.1.1, he.1.2, he.2⟩
  · have := List.length_filter_le K (odL (oW L z) n)
    rw [od_len n hne] at this
    exact this
theorem c_arrange {z : Int} {A : Nat} {K : Int → Bool} (hz : z = 0 ∨ z = 1) (hL : CL I L) (hW : LW L) (hA : I 5 j 1 = A) (hK : KB A K (L 0 0)) : mmC (d + 2) 65 [mo 5 j, mo 3 0, mv z] (I, mmRf a br, X) (mT a br X fun u I' => u = none ∧ FrO j I I' ∧ LA (I' 609 j) (odT L z K) ∧ I' 5 j 10 = (odT L z K).length) := by
  have h16 := hW.1
  have key : ∀ (q n : Nat) (I1 : mMm) (l4 : Option mmV), (n : Int) + q = L 0 0 → FrO j I I1 → LA (I1 609 j) ((odL (oW L z) n).filter K) → I1 5 j 10 = ((odL (oW L z) n).filter K).length → mmK (d + 1) 65 (mT a br X fun u I' => u = none ∧ FrO j I I' ∧ LA (I' 609 j) (odT L z K) ∧ I' 5 j 10 = (odT L z K).length) 5 [some (mo 5 j), some (mo 3 0), some (mv z), some (mv n), l4] [] (I1, mmRf a br, X) := by
    intro q
    induction q with
    | zero =>
      intro n I1 l4 hn hf hla hc
      have hL1 := CL_O hL hf
      have e0 : I1 3 0 0 = L 0 0 := hL1 0 0 (by omega)
      refine mmC_step ?_
      simp only [cd_65, sg_65_0, sg_65_5, sg_65_20, sg_65_45, sg_65_56, sg_65_58, mmK_cut cd_65, q_cons, q_G0, q_GS, q_I1, q_L1, q_A1, q_S0, q_S1, q_SS, q_T0, q_T1, q_TS, q_Kn, q_Ki, q_Kl, q_Kr, q_k0, q_kS, q_rc, q_ps, q_pn, q_aload0, q_iconst, q_putfieldI, q_istore3, q_iload3, q_aload1, q_getfieldI, q_icmp_ge, q_ishr, q_iand, q_icmp_ne, q_istore, q_iload, q_if_le, q_getfieldA, q_isub, q_iaload, q_iload2, q_if_eq, q_iastore, q_iinc, q_goto, q_dupI, q_dupA, q_iadd, q_return, rf_5_9, mmKe_609, mmKo_3, mmKo_5, mmLen_609, mmR32, mmR64, Option.some.injEq, Int.cast_ofNat_Int, and_true, true_and, if_true, if_false, List.length_cons, List.length_nil, Nat.le_refl, Nat.zero_le, Nat.sub_zero, forall_const, reduceCtorEq, Nat.reduceAdd, Nat.reduceSub, Nat.reduceLeDiff, Nat.reduceEqDiff, Int.reduceAdd, Int.reduceNeg, Int.reduceSub, Int.reduceLT, Int.reduceLE, Int.reduceMul, Int.reduceEq, List.drop_zero, List.drop_succ_cons, ne_eq, not_false_eq_true, not_true_eq_false, false_and, and_false, false_implies, true_implies, reduceIte, mmU_rd, implies_true, or_false, false_or, or_true, true_or]
      rw [e0]
      refine ⟨fun _ => ?_, fun c => by omega⟩
      refine mmC_step ?_
      simp only [cd_65, sg_65_0, sg_65_5, sg_65_20, sg_65_45, sg_65_56, sg_65_58, mmK_cut cd_65, q_cons, q_G0, q_GS, q_I1, q_L1, q_A1, q_S0, q_S1, q_SS, q_T0, q_T1, q_TS, q_Kn, q_Ki, q_Kl, q_Kr, q_k0, q_kS, q_rc, q_ps, q_pn, q_aload0, q_iconst, q_putfieldI, q_istore3, q_iload3, q_aload1, q_getfieldI, q_icmp_ge, q_ishr, q_iand, q_icmp_ne, q_istore, q_iload, q_if_le, q_getfieldA, q_isub, q_iaload, q_iload2, q_if_eq, q_iastore, q_iinc, q_goto, q_dupI, q_dupA, q_iadd, q_return, rf_5_9, mmKe_609, mmKo_3, mmKo_5, mmLen_609, mmR32, mmR64, Option.some.injEq, Int.cast_ofNat_Int, and_true, true_and, if_true, if_false, List.length_cons, List.length_nil, Nat.le_refl, Nat.zero_le, Nat.sub_zero, forall_const, reduceCtorEq, Nat.reduceAdd, Nat.reduceSub, Nat.reduceLeDiff, Nat.reduceEqDiff, Int.reduceAdd, Int.reduceNeg, Int.reduceSub, Int.reduceLT, Int.reduceLE, Int.reduceMul, Int.reduceEq, List.drop_zero, List.drop_succ_cons, ne_eq, not_false_eq_true, not_true_eq_false, false_and, and_false, false_implies, true_implies, reduceIte, mmU_rd, implies_true, or_false, false_or, or_true, true_or]
      have en : (L 0 0).toNat = n := by omega
      exact mT_in ⟨rfl, hf, by unfold odT; rw [en]; exact hla, by unfold odT; rw [en]; exact hc⟩
    | succ q ih =>
      intro n I1 l4 hn hf hla hc
      have hL1 := CL_O hL hf
      have e0 : I1 3 0 0 = L 0 0 := hL1 0 0 (by omega)
      have e1 : I1 5 j 1 = A := (hf 5 j 1 (by omega) (by omega)).trans hA
      have hod := od_T (L := L) (z := z) (K := K) (n := n) (by omega)
      have hbit := bit_get hK.1 (to := n) (by omega)
      have hkk := hK.2 n (by omega) (by omega)
      refine mmC_step ?_
      simp only [cd_65, sg_65_0, sg_65_5, sg_65_20, sg_65_45, sg_65_56, sg_65_58, mmK_cut cd_65, q_cons, q_G0, q_GS, q_I1, q_L1, q_A1, q_S0, q_S1, q_SS, q_T0, q_T1, q_TS, q_Kn, q_Ki, q_Kl, q_Kr, q_k0, q_kS, q_rc, q_ps, q_pn, q_aload0, q_iconst, q_putfieldI, q_istore3, q_iload3, q_aload1, q_getfieldI, q_icmp_ge, q_ishr, q_iand, q_icmp_ne, q_istore, q_iload, q_if_le, q_getfieldA, q_isub, q_iaload, q_iload2, q_if_eq, q_iastore, q_iinc, q_goto, q_dupI, q_dupA, q_iadd, q_return, rf_5_9, mmKe_609, mmKo_3, mmKo_5, mmLen_609, mmR32, mmR64, Option.some.injEq, Int.cast_ofNat_Int, and_true, true_and, if_true, if_false, List.length_cons, List.length_nil, Nat.le_refl, Nat.zero_le, Nat.sub_zero, forall_const, reduceCtorEq, Nat.reduceAdd, Nat.reduceSub, Nat.reduceLeDiff, Nat.reduceEqDiff, Int.reduceAdd, Int.reduceNeg, Int.reduceSub, Int.reduceLT, Int.reduceLE, Int.reduceMul, Int.reduceEq, List.drop_zero, List.drop_succ_cons, ne_eq, not_false_eq_true, not_true_eq_false, false_and, and_false, false_implies, true_implies, reduceIte, mmU_rd, implies_true, or_false, false_or, or_true, true_or]
      rw [e0, e1, hbit]
      refine ⟨fun c => by omega, fun _ => ⟨fun c => ?_, fun c => ?_⟩⟩
      · have hn' : ¬ K n = true := fun q => c (by rw [hkk, if_pos q])
        refine mmC_step ?_
        simp only [cd_65, sg_65_0, sg_65_5, sg_65_20, sg_65_45, sg_65_56, sg_65_58, mmK_cut cd_65, q_cons, q_G0, q_GS, q_I1, q_L1, q_A1, q_S0, q_S1, q_SS, q_T0, q_T1, q_TS, q_Kn, q_Ki, q_Kl, q_Kr, q_k0, q_kS, q_rc, q_ps, q_pn, q_aload0, q_iconst, q_putfieldI, q_istore3, q_iload3, q_aload1, q_getfieldI, q_icmp_ge, q_ishr, q_iand, q_icmp_ne, q_istore, q_iload, q_if_le, q_getfieldA, q_isub, q_iaload, q_iload2, q_if_eq, q_iastore, q_iinc, q_goto, q_dupI, q_dupA, q_iadd, q_return, rf_5_9, mmKe_609, mmKo_3, mmKo_5, mmLen_609, mmR32, mmR64, Option.some.injEq, Int.cast_ofNat_Int, and_true, true_and, if_true, if_false, List.length_cons, List.length_nil, Nat.le_refl, Nat.zero_le, Nat.sub_zero, forall_const, reduceCtorEq, Nat.reduceAdd, Nat.reduceSub, Nat.reduceLeDiff, Nat.reduceEqDiff, Int.reduceAdd, Int.reduceNeg, Int.reduceSub, Int.reduceLT, Int.reduceLE, Int.reduceMul, Int.reduceEq, List.drop_zero, List.drop_succ_cons, ne_eq, not_false_eq_true, not_true_eq_false, false_and, and_false, false_implies, true_implies, reduceIte, mmU_rd, implies_true, or_false, false_or, or_true, true_or]
        refine ⟨by omega, ih (n + 1) I1 _ (by omega) hf ?_ ?_⟩
        · rw [show odL (oW L z) (n + 1) = insL (oW L z) n (odL (oW L z) n) from rfl, ins_filterN (od_pw n (fun a b h0 h1 h2 => oW_ne h0 h1 (by omega))) hn']
          exact hla
        · rw [show odL (oW L z) (n + 1) = insL (oW L z) n (odL (oW L z) n) from rfl, ins_filterN (od_pw n (fun a b h0 h1 h2 => oW_ne h0 h1 (by omega))) hn']
          exact hc
      · have hy : K n = true := by
          rw [← hkk]
          by_cases q : A.testBit (n : Int).toNat = true
          · exact q
          · rw [if_neg q] at c; omega
        rw [hc]
        refine c_arrP hz hL1 hW ⟨by omega, by omega⟩ (fun e he => ⟨(hod.2.1 e he).1, (hod.2.1 e he).2.1⟩) hod.1 (by omega) hc (fun I2 l4 f2 la2 c2 => ?_) ((odL (oW L z) n).filter K).length I1 (Nat.le_refl _) FrO_refl rfl hla (fun n h1 h2 => by omega) (fun i h1 h2 => by omega)
        rw [← ins_filter hy] at la2 c2
        refine mmC_step ?_
        simp only [cd_65, sg_65_0, sg_65_5, sg_65_20, sg_65_45, sg_65_56, sg_65_58, mmK_cut cd_65, q_cons, q_G0, q_GS, q_I1, q_L1, q_A1, q_S0, q_S1, q_SS, q_T0, q_T1, q_TS, q_Kn, q_Ki, q_Kl, q_Kr, q_k0, q_kS, q_rc, q_ps, q_pn, q_aload0, q_iconst, q_putfieldI, q_istore3, q_iload3, q_aload1, q_getfieldI, q_icmp_ge, q_ishr, q_iand, q_icmp_ne, q_istore, q_iload, q_if_le, q_getfieldA, q_isub, q_iaload, q_iload2, q_if_eq, q_iastore, q_iinc, q_goto, q_dupI, q_dupA, q_iadd, q_return, rf_5_9, mmKe_609, mmKo_3, mmKo_5, mmLen_609, mmR32, mmR64, Option.some.injEq, Int.cast_ofNat_Int, and_true, true_and, if_true, if_false, List.length_cons, List.length_nil, Nat.le_refl, Nat.zero_le, Nat.sub_zero, forall_const, reduceCtorEq, Nat.reduceAdd, Nat.reduceSub, Nat.reduceLeDiff, Nat.reduceEqDiff, Int.reduceAdd, Int.reduceNeg, Int.reduceSub, Int.reduceLT, Int.reduceLE, Int.reduceMul, Int.reduceEq, List.drop_zero, List.drop_succ_cons, ne_eq, not_false_eq_true, not_true_eq_false, false_and, and_false, false_implies, true_implies, reduceIte, mmU_rd, implies_true, or_false, false_or, or_true, true_or]
        exact ⟨by omega, ih (n + 1) I2 _ (by omega) (FrO_trans hf f2) la2 c2⟩
  refine mmC_in (by decide) (Nat.le_of_ble_eq_true rfl) (mmC_step ?_)
  simp only [show mmMl 65 = 5 from rfl, mmLs, List.replicate, cd_65, sg_65_0, sg_65_5, sg_65_20, sg_65_45, sg_65_56, sg_65_58, mmK_cut cd_65, q_cons, q_G0, q_GS, q_I1, q_L1, q_A1, q_S0, q_S1, q_SS, q_T0, q_T1, q_TS, q_Kn, q_Ki, q_Kl, q_Kr, q_k0, q_kS, q_rc, q_ps, q_pn, q_aload0, q_iconst, q_putfieldI, q_istore3, q_iload3, q_aload1, q_getfieldI, q_icmp_ge, q_ishr, q_iand, q_icmp_ne, q_istore, q_iload, q_if_le, q_getfieldA, q_isub, q_iaload, q_iload2, q_if_eq, q_iastore, q_iinc, q_goto, q_dupI, q_dupA, q_iadd, q_return, rf_5_9, mmKe_609, mmKo_3, mmKo_5, mmLen_609, mmR32, mmR64, Option.some.injEq, Int.cast_ofNat_Int, and_true, true_and, if_true, if_false, List.length_cons, List.length_nil, Nat.le_refl, Nat.zero_le, Nat.sub_zero, forall_const, reduceCtorEq, Nat.reduceAdd, Nat.reduceSub, Nat.reduceLeDiff, Nat.reduceEqDiff, Int.reduceAdd, Int.reduceNeg, Int.reduceSub, Int.reduceLT, Int.reduceLE, Int.reduceMul, Int.reduceEq, List.drop_zero, List.drop_succ_cons, ne_eq, not_false_eq_true, not_true_eq_false, false_and, and_false, false_implies, true_implies, reduceIte, mmU_rd, implies_true, or_false, false_or, or_true, true_or]
  refine key (L 0 0).toNat 0 _ _ (by omega) ?_ (fun n hn => absurd hn (Nat.not_lt_zero n)) ?_
  · intro t i k c1 c2
    unfold mmU
    rw [if_neg c2]
  · unfold mmU
    rw [if_pos ⟨rfl, rfl, rfl⟩]; rfl
end S840
