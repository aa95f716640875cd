theorem mmUr_rd {α : Type} {f : Nat → Nat → Int → α} {t i : Nat} {g : Int → α} {t' i' : Nat} {k' : Int} : mmUr f t i g t' i' k' = if t' = t ∧ i' = i then g k' else f t' i' k' := rfl
theorem mmUr_self {α : Type} {f : Nat → Nat → Int → α} {t i : Nat} : mmUr f t i (f t i) = f := by
  funext t' i' k'
  unfold mmUr
  split
  · rename_i h; rw [h.1, h.2]
  · rfl
theorem mmU_Ur {α : Type} {f : Nat → Nat → Int → α} {t i : Nat} {g : Int → α} {k : Int} {v : α} : mmU (mmUr f t i g) t i k v = mmUr f t i (fun k' => if k' = k then v else g k') := by
  funext t' i' k'
  unfold mmU mmUr
  by_cases h : t' = t ∧ i' = i
  · by_cases h2 : k' = k
    · simp [h, h2]
    · simp [h, h2]
  · have : ¬ (t' = t ∧ i' = i ∧ k' = k) := fun q => h ⟨q.1, q.2.1⟩
    simp [h, this]
theorem mmU_as {α : Type} {f : Nat → Nat → Int → α} {t i : Nat} {k : Int} {v : α} : mmU f t i k v = mmUr f t i (fun k' => if k' = k then v else f t i k') := by
  conv => lhs; rw [← mmUr_self (f := f) (t := t) (i := i)]
  rw [mmU_Ur]
section S32
variable {d a : Nat} {I : Nat → Nat → Int → Int} {br : Nat → Option mmO} {X : mmX} {Q : Option mmV → mmM → Prop}
theorem sp_hasRoom (h : 0 ≤ I 8 0 1 ∧ I 8 0 1 ≤ 700) (hQ : Q (some (mv (bI (I 8 0 1 + 20 ≤ 700)))) (I, mmRf a br, X)) : mmC (d + 1) 87 [mo 8 0] (I, mmRf a br, X) Q := by
  refine mmC_in (by decide) (Nat.le_of_ble_eq_true rfl) (mmC_step ?_)
  simp only [show mmMl 87 = 1 from rfl, mmLs, List.replicate, cd_87, sg_87_0, sg_87_8, sg_87_9, mmK_cut cd_87, q_cons, q_G0, q_GS, q_I1, q_L1, q_A1, q_S0, q_S1, q_SS, q_T0, q_T1, q_TS, q_Kn, q_Ki, q_Kl, q_Kr, q_k0, q_kS, q_rc, q_ps, q_pn, q_aload0, q_getfieldI, q_bipush, q_iadd, q_sipush, q_icmp_gt, q_iconst, q_goto, q_ireturn1, mmKo_8, mmR32, mmR64, Option.some.injEq, Int.cast_ofNat_Int, and_true, true_and, if_true, if_false, List.length_cons, List.length_nil, Nat.le_refl, Nat.zero_le, Nat.sub_zero, forall_const, reduceCtorEq, Nat.reduceAdd, Nat.reduceSub, Nat.reduceLeDiff, Nat.reduceEqDiff, Int.reduceAdd, Int.reduceNeg, Int.reduceSub, Int.reduceLT, Int.reduceLE, Int.reduceMul, Int.reduceEq, List.drop_zero, List.drop_succ_cons, ne_eq, not_false_eq_true, not_true_eq_false, false_and, and_false, false_implies, true_implies, reduceIte, mmU_rd, implies_true, or_false, false_or, or_true, true_or]
  repeat' (first | (refine mmC_step ?_; simp only [cd_87, sg_87_0, sg_87_8, sg_87_9, mmK_cut cd_87, q_cons, q_G0, q_GS, q_I1, q_L1, q_A1, q_S0, q_S1, q_SS, q_T0, q_T1, q_TS, q_Kn, q_Ki, q_Kl, q_Kr, q_k0, q_kS, q_rc, q_ps, q_pn, q_aload0, q_getfieldI, q_bipush, q_iadd, q_sipush, q_icmp_gt, q_iconst, q_goto, q_ireturn1, mmKo_8, mmR32, mmR64, Option.some.injEq, Int.cast_ofNat_Int, and_true, true_and, if_true, if_false, List.length_cons, List.length_nil, Nat.le_refl, Nat.zero_le, Nat.sub_zero, forall_const, reduceCtorEq, Nat.reduceAdd, Nat.reduceSub, Nat.reduceLeDiff, Nat.reduceEqDiff, Int.reduceAdd, Int.reduceNeg, Int.reduceSub, Int.reduceLT, Int.reduceLE, Int.reduceMul, Int.reduceEq, List.drop_zero, List.drop_succ_cons, ne_eq, not_false_eq_true, not_true_eq_false, false_and, and_false, false_implies, true_implies, reduceIte, mmU_rd, implies_true, or_false, false_or, or_true, true_or]) | (refine ⟨?_, ?_⟩) | intro _)
  all_goals first | omega | exact q_b0 hQ (by omega) | exact q_b1 hQ (by omega) | exact hQ
theorem sp_append {z : Int} (h : 0 ≤ I 8 0 1 ∧ I 8 0 1 + 4 ≤ 700) (hQ : Q none (mmU (mmU (mmU (mmU (mmU (mmU (mmU (mmU I 900 0 (I 8 0 1) (mmAnd (mmShr z 24) 255)) 8 0 1 (I 8 0 1 + 1)) 900 0 (I 8 0 1 + 1) (mmAnd (mmShr z 16) 255)) 8 0 1 (I 8 0 1 + 1 + 1)) 900 0 (I 8 0 1 + 1 + 1) (mmAnd (mmShr z 8) 255)) 8 0 1 (I 8 0 1 + 1 + 1 + 1)) 900 0 (I 8 0 1 + 1 + 1 + 1) (mmAnd (mmShr z 0) 255)) 8 0 1 (I 8 0 1 + 1 + 1 + 1 + 1), mmRf a br, X)) : mmC (d + 1) 88 [mo 8 0, mv z] (I, mmRf a br, X) Q := by
  refine mmC_in (by decide) (Nat.le_of_ble_eq_true rfl) (mmC_step ?_)
  simp only [show mmMl 88 = 3 from rfl, mmLs, List.replicate, cd_88, sg_88_0, sg_88_2, sg_88_26, mmK_cut cd_88, q_cons, q_G0, q_GS, q_I1, q_L1, q_A1, q_S0, q_S1, q_SS, q_T0, q_T1, q_TS, q_Kn, q_Ki, q_Kl, q_Kr, q_k0, q_kS, q_rc, q_ps, q_pn, q_bipush, q_istore2, q_iload2, q_if_lt, q_aload0, q_getfieldI, q_sipush, q_icmp_ge, q_getfieldA, q_iload1, q_ishr, q_iand, q_iastore, q_dupI, q_dupA, q_iconst, q_iadd, q_putfieldI, q_iinc, q_goto, q_return, rf_8_0, mmKe_900, mmKo_8, mmLen_900, mmR32, mmR64, Option.some.injEq, Int.cast_ofNat_Int, and_true, true_and, if_true, if_false, List.length_cons, List.length_nil, Nat.le_refl, Nat.zero_le, Nat.sub_zero, forall_const, reduceCtorEq, Nat.reduceAdd, Nat.reduceSub, Nat.reduceLeDiff, Nat.reduceEqDiff, Int.reduceAdd, Int.reduceNeg, Int.reduceSub, Int.reduceLT, Int.reduceLE, Int.reduceMul, Int.reduceEq, List.drop_zero, List.drop_succ_cons, ne_eq, not_false_eq_true, not_true_eq_false, false_and, and_false, false_implies, true_implies, reduceIte, mmU_rd, implies_true, or_false, false_or, or_true, true_or]
  repeat' (first | (refine mmC_step ?_; simp only [cd_88, sg_88_0, sg_88_2, sg_88_26, mmK_cut cd_88, q_cons, q_G0, q_GS, q_I1, q_L1, q_A1, q_S0, q_S1, q_SS, q_T0, q_T1, q_TS, q_Kn, q_Ki, q_Kl, q_Kr, q_k0, q_kS, q_rc, q_ps, q_pn, q_bipush, q_istore2, q_iload2, q_if_lt, q_aload0, q_getfieldI, q_sipush, q_icmp_ge, q_getfieldA, q_iload1, q_ishr, q_iand, q_iastore, q_dupI, q_dupA, q_iconst, q_iadd, q_putfieldI, q_iinc, q_goto, q_return, rf_8_0, mmKe_900, mmKo_8, mmLen_900, mmR32, mmR64, Option.some.injEq, Int.cast_ofNat_Int, and_true, true_and, if_true, if_false, List.length_cons, List.length_nil, Nat.le_refl, Nat.zero_le, Nat.sub_zero, forall_const, reduceCtorEq, Nat.reduceAdd, Nat.reduceSub, Nat.reduceLeDiff, Nat.reduceEqDiff, Int.reduceAdd, Int.reduceNeg, Int.reduceSub, Int.reduceLT, Int.reduceLE, Int.reduceMul, Int.reduceEq, List.drop_zero, List.drop_succ_cons, ne_eq, not_false_eq_true, not_true_eq_false, false_and, and_false, false_implies, true_implies, reduceIte, mmU_rd, implies_true, or_false, false_or, or_true, true_or]) | (refine ⟨?_, ?_⟩) | intro _)
  all_goals first | omega | exact q_b0 hQ (by omega) | exact q_b1 hQ (by omega) | exact hQ
/-- what becomes of a row when twenty bytes come behind its first n -/
def fdB (w : Int → Int) (g : Int → Int) (n k : Int) : Int := if n ≤ k ∧ k < n + 20 then mmAnd (mmShr (w ((k - n) / 4)) (24 - 8 * ((k - n) % 4))) 255 else g k
theorem sp_append2 {z : Int} {g : Int → Int} {n : Int} (h : 0 ≤ n ∧ n + 4 ≤ 700) (hQ : Q none (mmU (mmUr I 900 0 (fun k => if n ≤ k ∧ k < n + 4 then mmAnd (mmShr z (24 - 8 * (k - n))) 255 else g k)) 8 0 1 (n + 4), mmRf a br, X)) : mmC (d + 1) 88 [mo 8 0, mv z] (mmU (mmUr I 900 0 g) 8 0 1 n, mmRf a br, X) Q := by
  refine sp_append (by simp only [mmU_rd, mmUr_rd]; simpa using h) ?_
  have e : ∀ (J : Nat → Nat → Int → Int), J = mmU (mmUr I 900 0 (fun k => if n ≤ k ∧ k < n + 4 then mmAnd (mmShr z (24 - 8 * (k - n))) 255 else g k)) 8 0 1 (n + 4) → Q none (J, mmRf a br, X) := fun J e => by rw [e]; exact hQ
  apply e
  funext t i k
  simp only [mmU_rd, mmUr_rd, Nat.reduceEqDiff, false_and, if_false, and_true, true_and, if_true, reduceIte]
  by_cases h1 : t = 8 ∧ i = 0 ∧ k = 1
  · obtain ⟨rfl, rfl, rfl⟩ := h1
    simp
    omega
  · by_cases h2 : t = 900 ∧ i = 0
    · obtain ⟨rfl, rfl⟩ := h2
      simp only [Nat.reduceEqDiff, false_and, if_false, true_and]
      by_cases k0 : k = n
      · subst k0; simp [show ¬ (k = k + 1 + 1 + 1) by omega, show ¬ (k = k + 1 + 1) by omega, show ¬ (k = k + 1) by omega]; intro q; omega
      · by_cases k1 : k = n + 1
        · subst k1; simp [show ¬ (n + 1 = n + 1 + 1 + 1) by omega, show ¬ (n + 1 = n + 1 + 1) by omega, show n + 1 - n = 1 by omega]; omega
        · by_cases k2 : k = n + 2
          · subst k2; simp [show (n + 2 = n + 1 + 1) by omega, show ¬ (n + 1 + 1 = n + 1 + 1 + 1) by omega, show n + 1 + 1 - n = 2 by omega]; omega
          · by_cases k3 : k = n + 3
            · subst k3; simp [show (n + 3 = n + 1 + 1 + 1) by omega, show n + 1 + 1 + 1 - n = 3 by omega]; omega
            · rw [if_neg (show ¬ (k = n + 1 + 1 + 1) by omega), if_neg (show ¬ (k = n + 1 + 1) by omega), if_neg (show ¬ (k = n + 1) by omega), if_neg k0, if_neg (show ¬ (n ≤ k ∧ k < n + 4) by omega)]
    · simp only [h1, h2, show ¬ (t = 900 ∧ i = 0 ∧ k = n + 1 + 1 + 1) from fun q => h2 ⟨q.1, q.2.1⟩, show ¬ (t = 900 ∧ i = 0 ∧ k = n + 1 + 1) from fun q => h2 ⟨q.1, q.2.1⟩, show ¬ (t = 900 ∧ i = 0 ∧ k = n + 1) from fun q => h2 ⟨q.1, q.2.1⟩, show ¬ (t = 900 ∧ i = 0 ∧ k = n) from fun q => h2 ⟨q.1, q.2.1⟩, if_false]
def w5 (a b c e f : Int) (i : Int) : Int := if i = 0 then a else if i = 1 then b else if i = 2 then c else if i = 3 then e else f
theorem mmU_self {α : Type} {f : Nat → Nat → Int → α} {t i : Nat} {k : Int} : mmU f t i k (f t i k) = f := by
  funext t' i' k'
  unfold mmU
  split
  · rename_i h; rw [h.1, h.2.1, h.2.2]
  · rfl
theorem sp_feed {p q r u v : Int} (h : 0 ≤ I 8 0 1 ∧ I 8 0 1 ≤ 700) (hQ1 : I 8 0 1 + 20 ≤ 700 → Q (some (mv (I 8 0 1 + 20))) (mmU (mmUr I 900 0 (fdB (w5 p q r u v) (I 900 0) (I 8 0 1))) 8 0 1 (I 8 0 1 + 20), mmRf a br, X)) (hQ2 : ¬ I 8 0 1 + 20 ≤ 700 → Q (some (mv (-1))) (I, mmRf a br, X)) : mmC (d + 2) 100 [mo 10 0, mv p, mv q, mv r, mv u, mv v] (I, mmRf a br, X) Q := by
  refine mmC_in (by decide) (Nat.le_of_ble_eq_true rfl) (mmC_step ?_)
  simp only [show mmMl 100 = 6 from rfl, mmLs, List.replicate, cd_100, sg_100_0, sg_100_6, mmK_cut cd_100, q_cons, q_G0, q_GS, q_I1, q_L1, q_A1, q_S0, q_S1, q_SS, q_T0, q_T1, q_TS, q_Kn, q_Ki, q_Kl, q_Kr, q_k0, q_kS, q_rc, q_ps, q_pn, q_aload0, q_getfieldA, q_invV, q_if_ne, q_iconst, q_ireturn0, q_iload1, q_iload2, q_iload3, q_iload, q_getfieldI, rf_10_0, mmKo_10, mmKo_8, mmR32, mmR64, Option.some.injEq, Int.cast_ofNat_Int, and_true, true_and, if_true, if_false, List.length_cons, List.length_nil, Nat.le_refl, Nat.zero_le, Nat.sub_zero, forall_const, reduceCtorEq, Nat.reduceAdd, Nat.reduceSub, Nat.reduceLeDiff, Nat.reduceEqDiff, Int.reduceAdd, Int.reduceNeg, Int.reduceSub, Int.reduceLT, Int.reduceLE, Int.reduceMul, Int.reduceEq, List.drop_zero, List.drop_succ_cons, ne_eq, not_false_eq_true, not_true_eq_false, false_and, and_false, false_implies, true_implies, reduceIte, mmU_rd, implies_true, or_false, false_or, or_true, true_or]
  refine sp_hasRoom h ?_
  simp only [mmK_cut cd_100, q_cons, q_G0, q_GS, q_I1, q_L1, q_A1, q_S0, q_S1, q_SS, q_T0, q_T1, q_TS, q_Kn, q_Ki, q_Kl, q_Kr, q_k0, q_kS, q_rc, q_ps, q_pn, q_aload0, q_getfieldA, q_invV, q_if_ne, q_iconst, q_ireturn0, q_iload1, q_iload2, q_iload3, q_iload, q_getfieldI, rf_10_0, mmKo_10, mmKo_8, mmR32, mmR64, Option.some.injEq, Int.cast_ofNat_Int, and_true, true_and, if_true, if_false, List.length_cons, List.length_nil, Nat.le_refl, Nat.zero_le, Nat.sub_zero, forall_const, reduceCtorEq, Nat.reduceAdd, Nat.reduceSub, Nat.reduceLeDiff, Nat.reduceEqDiff, Int.reduceAdd, Int.reduceNeg, Int.reduceSub, Int.reduceLT, Int.reduceLE, Int.reduceMul, Int.reduceEq, List.drop_zero, List.drop_succ_cons, ne_eq, not_false_eq_true, not_true_eq_false, false_and, and_false, false_implies, true_implies, reduceIte, mmU_rd, implies_true, or_false, false_or, or_true, true_or, bI_eq0]
  refine ⟨fun h1 => ?_, fun h1 => ?_⟩
  · refine mmC_step ?_
    simp only [cd_100, sg_100_0, sg_100_6, mmK_cut cd_100, q_cons, q_G0, q_GS, q_I1, q_L1, q_A1, q_S0, q_S1, q_SS, q_T0, q_T1, q_TS, q_Kn, q_Ki, q_Kl, q_Kr, q_k0, q_kS, q_rc, q_ps, q_pn, q_aload0, q_getfieldA, q_invV, q_if_ne, q_iconst, q_ireturn0, q_iload1, q_iload2, q_iload3, q_iload, q_getfieldI, rf_10_0, mmKo_10, mmKo_8, mmR32, mmR64, Option.some.injEq, Int.cast_ofNat_Int, and_true, true_and, if_true, if_false, List.length_cons, List.length_nil, Nat.le_refl, Nat.zero_le, Nat.sub_zero, forall_const, reduceCtorEq, Nat.reduceAdd, Nat.reduceSub, Nat.reduceLeDiff, Nat.reduceEqDiff, Int.reduceAdd, Int.reduceNeg, Int.reduceSub, Int.reduceLT, Int.reduceLE, Int.reduceMul, Int.reduceEq, List.drop_zero, List.drop_succ_cons, ne_eq, not_false_eq_true, not_true_eq_false, false_and, and_false, false_implies, true_implies, reduceIte, mmU_rd, implies_true, or_false, false_or, or_true, true_or]
    have hI : (I, mmRf a br, X) = ((mmU (mmUr I 900 0 (I 900 0)) 8 0 1 (I 8 0 1), mmRf a br, X) : mmM) := by rw [mmUr_self, mmU_self]
    have h1 : I 8 0 1 + 20 ≤ 700 := by omega
    have hQ := hQ1 h1
    generalize hn : I 8 0 1 = n at h h1 hQ hI
    have hX : (I, mmRf a br, X.1, 0, 0) = ((mmU (mmUr I 900 0 (I 900 0)) 8 0 1 n, mmRf a br, X.1, 0, 0) : mmM) := by rw [← hn, mmUr_self, mmU_self]
    rw [hX]
    refine sp_append2 (by omega) ?_
    simp only [mmK_cut cd_100, q_cons, q_G0, q_GS, q_I1, q_L1, q_A1, q_S0, q_S1, q_SS, q_T0, q_T1, q_TS, q_Kn, q_Ki, q_Kl, q_Kr, q_k0, q_kS, q_rc, q_ps, q_pn, q_aload0, q_getfieldA, q_invV, q_if_ne, q_iconst, q_ireturn0, q_iload1, q_iload2, q_iload3, q_iload, q_getfieldI, rf_10_0, mmKo_10, mmKo_8, mmR32, mmR64, Option.some.injEq, Int.cast_ofNat_Int, and_true, true_and, if_true, if_false, List.length_cons, List.length_nil, Nat.le_refl, Nat.zero_le, Nat.sub_zero, forall_const, reduceCtorEq, Nat.reduceAdd, Nat.reduceSub, Nat.reduceLeDiff, Nat.reduceEqDiff, Int.reduceAdd, Int.reduceNeg, Int.reduceSub, Int.reduceLT, Int.reduceLE, Int.reduceMul, Int.reduceEq, List.drop_zero, List.drop_succ_cons, ne_eq, not_false_eq_true, not_true_eq_false, false_and, and_false, false_implies, true_implies, reduceIte, mmU_rd, implies_true, or_false, false_or, or_true, true_or]
    refine sp_append2 (by omega) ?_
    simp only [mmK_cut cd_100, q_cons, q_G0, q_GS, q_I1, q_L1, q_A1, q_S0, q_S1, q_SS, q_T0, q_T1, q_TS, q_Kn, q_Ki, q_Kl, q_Kr, q_k0, q_kS, q_rc, q_ps, q_pn, q_aload0, q_getfieldA, q_invV, q_if_ne, q_iconst, q_ireturn0, q_iload1, q_iload2, q_iload3, q_iload, q_getfieldI, rf_10_0, mmKo_10, mmKo_8, mmR32, mmR64, Option.some.injEq, Int.cast_ofNat_Int, and_true, true_and, if_true, if_false, List.length_cons, List.length_nil, Nat.le_refl, Nat.zero_le, Nat.sub_zero, forall_const, reduceCtorEq, Nat.reduceAdd, Nat.reduceSub, Nat.reduceLeDiff, Nat.reduceEqDiff, Int.reduceAdd, Int.reduceNeg, Int.reduceSub, Int.reduceLT, Int.reduceLE, Int.reduceMul, Int.reduceEq, List.drop_zero, List.drop_succ_cons, ne_eq, not_false_eq_true, not_true_eq_false, false_and, and_false, false_implies, true_implies, reduceIte, mmU_rd, implies_true, or_false, false_or, or_true, true_or]
    refine sp_append2 (by omega) ?_
    simp only [mmK_cut cd_100, q_cons, q_G0, q_GS, q_I1, q_L1, q_A1, q_S0, q_S1, q_SS, q_T0, q_T1, q_TS, q_Kn, q_Ki, q_Kl, q_Kr, q_k0, q_kS, q_rc, q_ps, q_pn, q_aload0, q_getfieldA, q_invV, q_if_ne, q_iconst, q_ireturn0, q_iload1, q_iload2, q_iload3, q_iload, q_getfieldI, rf_10_0, mmKo_10, mmKo_8, mmR32, mmR64, Option.some.injEq, Int.cast_ofNat_Int, and_true, true_and, if_true, if_false, List.length_cons, List.length_nil, Nat.le_refl, Nat.zero_le, Nat.sub_zero, forall_const, reduceCtorEq, Nat.reduceAdd, Nat.reduceSub, Nat.reduceLeDiff, Nat.reduceEqDiff, Int.reduceAdd, Int.reduceNeg, Int.reduceSub, Int.reduceLT, Int.reduceLE, Int.reduceMul, Int.reduceEq, List.drop_zero, List.drop_succ_cons, ne_eq, not_false_eq_true, not_true_eq_false, false_and, and_false, false_implies, true_implies, reduceIte, mmU_rd, implies_true, or_false, false_or, or_true, true_or]
    refine sp_append2 (by omega) ?_
    simp only [mmK_cut cd_100, q_cons, q_G0, q_GS, q_I1, q_L1, q_A1, q_S0, q_S1, q_SS, q_T0, q_T1, q_TS, q_Kn, q_Ki, q_Kl, q_Kr, q_k0, q_kS, q_rc, q_ps, q_pn, q_aload0, q_getfieldA, q_invV, q_if_ne, q_iconst, q_ireturn0, q_iload1, q_iload2, q_iload3, q_iload, q_getfieldI, rf_10_0, mmKo_10, mmKo_8, mmR32, mmR64, Option.some.injEq, Int.cast_ofNat_Int, and_true, true_and, if_true, if_false, List.length_cons, List.length_nil, Nat.le_refl, Nat.zero_le, Nat.sub_zero, forall_const, reduceCtorEq, Nat.reduceAdd, Nat.reduceSub, Nat.reduceLeDiff, Nat.reduceEqDiff, Int.reduceAdd, Int.reduceNeg, Int.reduceSub, Int.reduceLT, Int.reduceLE, Int.reduceMul, Int.reduceEq, List.drop_zero, List.drop_succ_cons, ne_eq, not_false_eq_true, not_true_eq_false, false_and, and_false, false_implies, true_implies, reduceIte, mmU_rd, implies_true, or_false, false_or, or_true, true_or]
    refine sp_append2 (by omega) ?_
    simp only [mmK_cut cd_100, q_cons, q_G0, q_GS, q_I1, q_L1, q_A1, q_S0, q_S1, q_SS, q_T0, q_T1, q_TS, q_Kn, q_Ki, q_Kl, q_Kr, q_k0, q_kS, q_rc, q_ps, q_pn, q_aload0, q_getfieldA, q_invV, q_if_ne, q_iconst, q_ireturn0, q_iload1, q_iload2, q_iload3, q_iload, q_getfieldI, rf_10_0, mmKo_10, mmKo_8, mmR32, mmR64, Option.some.injEq, Int.cast_ofNat_Int, and_true, true_and, if_true, if_false, List.length_cons, List.length_nil, Nat.le_refl, Nat.zero_le, Nat.sub_zero, forall_const, reduceCtorEq, Nat.reduceAdd, Nat.reduceSub, Nat.reduceLeDiff, Nat.reduceEqDiff, Int.reduceAdd, Int.reduceNeg, Int.reduceSub, Int.reduceLT, Int.reduceLE, Int.reduceMul, Int.reduceEq, List.drop_zero, List.drop_succ_cons, ne_eq, not_false_eq_true, not_true_eq_false, false_and, and_false, false_implies, true_implies, reduceIte, mmU_rd, implies_true, or_false, false_or, or_true, true_or]
    have e1 : n + 4 + 4 + 4 + 4 + 4 = n + 20 := by omega
    rw [e1]
    have e2 : ∀ (g g' : Int → Int), g = g' → mmUr I 900 0 g = mmUr I 900 0 g' := fun g g' e => by rw [e]
    rw [e2 _ (fdB (w5 p q r u v) (I 900 0) n) ?_]
    · exact hQ
    · funext k
      unfold fdB w5
      by_cases c : n ≤ k ∧ k < n + 20
      · rw [if_pos c]
        by_cases k4 : n + 4 + 4 + 4 + 4 ≤ k
        · rw [if_pos (by omega), show (k - n) / 4 = 4 by omega, show (k - n) % 4 = k - (n + 4 + 4 + 4 + 4) by omega]
          simp
        · rw [if_neg (by omega)]
          by_cases k3 : n + 4 + 4 + 4 ≤ k
          · rw [if_pos (by omega), show (k - n) / 4 = 3 by omega, show (k - n) % 4 = k - (n + 4 + 4 + 4) by omega]
            simp
          · rw [if_neg (by omega)]
            by_cases k2 : n + 4 + 4 ≤ k
            · rw [if_pos (by omega), show (k - n) / 4 = 2 by omega, show (k - n) % 4 = k - (n + 4 + 4) by omega]
              simp
            · rw [if_neg (by omega)]
              by_cases k1 : n + 4 ≤ k
              · rw [if_pos (by omega), show (k - n) / 4 = 1 by omega, show (k - n) % 4 = k - (n + 4) by omega]
                simp
              · rw [if_neg (by omega), if_pos (by omega), show (k - n) / 4 = 0 by omega, show (k - n) % 4 = k - n by omega]
                simp
      · rw [if_neg c, if_neg (by omega), if_neg (by omega), if_neg (by omega), if_neg (by omega), if_neg (by omega)]
  · exact hQ2 h1
end S32
