/-! the making of objects -/
theorem vu_rd {f : Nat → Nat} {t v t' : Nat} : va_up f t v t' = if t' = t then v else f t' := rfl
theorem vu_o {f : Nat → Nat} {t v t' : Nat} (h : ¬ t' = t) : va_up f t v t' = f t' := if_neg h
theorem zr {J : mMm} {t i : Nat} (h : ∀ k, J t i k = 0) : mmUr J t i (fun _ => 0) = J := mmUr_id (funext h)
theorem zu {J : mMm} {t i : Nat} {k : Int} (h : J t i k = 0) : mmU J t i k 0 = J := by
  funext t' i' k'
  unfold mmU
  by_cases c : t' = t ∧ i' = i ∧ k' = k
  · rw [if_pos c, c.1, c.2.1, c.2.2, h]
  · rw [if_neg c]
theorem rr {J : Nat → Nat → Int → Option mmO} {t i : Nat} (h : ∀ k, J t i k = none) : mmUr J t i (fun _ => none) = J := by
  have : J t i = fun _ => none := funext h
  rw [← this]; exact mmUr_self
theorem rw_e {J : Nat → Nat → Int → Option mmO} {t i : Nat} {g : Int → Option mmO} (h : ∀ k, g k = J t i k) : mmUr J t i g = J := by
  rw [funext h]; exact mmUr_self
section S887
variable {d i : Nat} {I : mMm} {R : Nat → Nat → Int → Option mmO} {cnt : Nat → Nat} {Q : Option mmV → mmM → Prop}
theorem k_tok (z8 : ∀ k, I 8 i k = 0) (z900 : ∀ k, I 900 i k = 0) (r900 : ∀ k, R 900 i k = none) (c900 : cnt 900 = i) (r8_0 : R 8 i 0 = some (900, i)) (n8 : ∀ k, ¬ k = 0 → R 8 i k = none) (hQ : ∀ (cnt' : Nat → Nat) (c s : Nat), (∀ t, ¬ t = 900 → cnt' t = cnt t) → cnt' 900 = i + 1 → Q none (mmU I 8 i 8 (-1), R, cnt', c, s)) : mmC (d + 1) 86 [mo 8 i] (I, mmUr R 8 i (fun _ => none), cnt, 1, 700) Q := by
  refine mmC_in (by decide) (Nat.le_of_ble_eq_true rfl) (mmC_step ?_)
  simp only [show mmMl 86 = 1 from rfl, mmLs, List.replicate, cd_86, sg_86_0, mmK_cut cd_86, q_cons, q_G0, q_GS, q_I1, q_L1, q_A1, q_S0, q_S1, q_SS, q_T0, q_T1, q_TS, q_Kn, q_Ki, q_Kl, q_Kr, q_k0, q_kS, q_rc, q_ps, q_pn, q_aload0, q_objInit, q_sipush, q_newarray, q_putfieldA, q_iconst, q_putfieldI, q_return, mmKe_900, mmKo_8, mmLen_900, mmR32, mmR64, Option.some.injEq, Int.cast_ofNat_Int, and_true, true_and, if_true, if_false, List.length_cons, List.length_nil, Nat.le_refl, Nat.zero_le, Nat.sub_zero, forall_const, reduceCtorEq, Nat.reduceAdd, Nat.reduceSub, Nat.reduceLeDiff, Nat.reduceEqDiff, Int.reduceAdd, Int.reduceNeg, Int.reduceSub, Int.reduceLT, Int.reduceLE, Int.reduceMul, Int.reduceEq, List.drop_zero, List.drop_succ_cons, ne_eq, not_false_eq_true, not_true_eq_false, false_and, and_false, false_implies, true_implies, reduceIte, mmU_rd, implies_true, or_false, false_or, or_true, true_or, vu_rd, zr, zu, rr, mmUr_rd, mmU_Ur, Int.reduceToNat, implies_true, z8, z900, r900, c900]
  rw [rw_e (fun k => ?_)]
  · exact hQ _ _ _ (fun t q900 => by rw [vu_o q900]) (by simp only [vu_rd, Nat.reduceEqDiff, if_true, if_false, reduceIte])
  · by_cases q : k = 0
    · subst q
      rw [r8_0]; rfl
    · rw [n8 k (by omega)]
      simp only [show ¬ k = 0 by omega, if_false, reduceIte, ite_self]
theorem k_law (z1 : ∀ k, I 1 i k = 0) (z200 : ∀ k, I 200 i k = 0) (z201 : ∀ k, I 201 i k = 0) (r200 : ∀ k, R 200 i k = none) (r201 : ∀ k, R 201 i k = none) (c200 : cnt 200 = i) (c201 : cnt 201 = i) (r1_0 : R 1 i 0 = some (200, i)) (r1_1 : R 1 i 1 = some (201, i)) (n1 : ∀ k, ¬ k = 0 → ¬ k = 1 → R 1 i k = none) (hQ : ∀ (cnt' : Nat → Nat) (c s : Nat), (∀ t, ¬ t = 200 → ¬ t = 201 → cnt' t = cnt t) → cnt' 200 = i + 1 → cnt' 201 = i + 1 → Q none (I, R, cnt', c, s)) : mmC (d + 1) 19 [mo 1 i] (I, mmUr R 1 i (fun _ => none), cnt, 2, 128) Q := by
  refine mmC_in (by decide) (Nat.le_of_ble_eq_true rfl) (mmC_step ?_)
  simp only [show mmMl 19 = 1 from rfl, mmLs, List.replicate, cd_19, sg_19_0, mmK_cut cd_19, q_cons, q_G0, q_GS, q_I1, q_L1, q_A1, q_S0, q_S1, q_SS, q_T0, q_T1, q_TS, q_Kn, q_Ki, q_Kl, q_Kr, q_k0, q_kS, q_rc, q_ps, q_pn, q_aload0, q_objInit, q_bipush, q_newarray, q_putfieldA, q_iconst, q_putfieldI, q_return, mmKe_200, mmKe_201, mmKo_1, mmLen_200, mmLen_201, mmR32, mmR64, Option.some.injEq, Int.cast_ofNat_Int, and_true, true_and, if_true, if_false, List.length_cons, List.length_nil, Nat.le_refl, Nat.zero_le, Nat.sub_zero, forall_const, reduceCtorEq, Nat.reduceAdd, Nat.reduceSub, Nat.reduceLeDiff, Nat.reduceEqDiff, Int.reduceAdd, Int.reduceNeg, Int.reduceSub, Int.reduceLT, Int.reduceLE, Int.reduceMul, Int.reduceEq, List.drop_zero, List.drop_succ_cons, ne_eq, not_false_eq_true, not_true_eq_false, false_and, and_false, false_implies, true_implies, reduceIte, mmU_rd, implies_true, or_false, false_or, or_true, true_or, vu_rd, zr, zu, rr, mmUr_rd, mmU_Ur, Int.reduceToNat, implies_true, z1, z200, z201, r200, r201, c200, c201]
  rw [rw_e (fun k => ?_)]
  · exact hQ _ _ _ (fun t q200 q201 => by rw [vu_o q201, vu_o q200]) (by simp only [vu_rd, Nat.reduceEqDiff, if_true, if_false, reduceIte]) (by simp only [vu_rd, Nat.reduceEqDiff, if_true, if_false, reduceIte])
  · by_cases q : k = 0 ∨ k = 1
    · rcases q with q | q <;> subst q
      · rw [r1_0]; rfl
      · rw [r1_1]; rfl
    · rw [n1 k (by omega) (by omega)]
      simp only [show ¬ k = 0 by omega, show ¬ k = 1 by omega, if_false, reduceIte, ite_self]
theorem k_rdr (z2 : ∀ k, I 2 i k = 0) (z300 : ∀ k, I 300 i k = 0) (r300 : ∀ k, R 300 i k = none) (c300 : cnt 300 = i) (r2_0 : R 2 i 0 = some (300, i)) (n2 : ∀ k, ¬ k = 0 → R 2 i k = none) (hQ : ∀ (cnt' : Nat → Nat) (c s : Nat), (∀ t, ¬ t = 300 → cnt' t = cnt t) → cnt' 300 = i + 1 → Q none (I, R, cnt', c, s)) : mmC (d + 1) 23 [mo 2 i] (I, mmUr R 2 i (fun _ => none), cnt, 1, 72) Q := by
  refine mmC_in (by decide) (Nat.le_of_ble_eq_true rfl) (mmC_step ?_)
  simp only [show mmMl 23 = 1 from rfl, mmLs, List.replicate, cd_23, sg_23_0, mmK_cut cd_23, q_cons, q_G0, q_GS, q_I1, q_L1, q_A1, q_S0, q_S1, q_SS, q_T0, q_T1, q_TS, q_Kn, q_Ki, q_Kl, q_Kr, q_k0, q_kS, q_rc, q_ps, q_pn, q_aload0, q_objInit, q_bipush, q_newarray, q_putfieldA, q_iconst, q_putfieldI, q_return, mmKe_300, mmKo_2, mmLen_300, mmR32, mmR64, Option.some.injEq, Int.cast_ofNat_Int, and_true, true_and, if_true, if_false, List.length_cons, List.length_nil, Nat.le_refl, Nat.zero_le, Nat.sub_zero, forall_const, reduceCtorEq, Nat.reduceAdd, Nat.reduceSub, Nat.reduceLeDiff, Nat.reduceEqDiff, Int.reduceAdd, Int.reduceNeg, Int.reduceSub, Int.reduceLT, Int.reduceLE, Int.reduceMul, Int.reduceEq, List.drop_zero, List.drop_succ_cons, ne_eq, not_false_eq_true, not_true_eq_false, false_and, and_false, false_implies, true_implies, reduceIte, mmU_rd, implies_true, or_false, false_or, or_true, true_or, vu_rd, zr, zu, rr, mmUr_rd, mmU_Ur, Int.reduceToNat, implies_true, z2, z300, r300, c300]
  rw [rw_e (fun k => ?_)]
  · exact hQ _ _ _ (fun t q300 => by rw [vu_o q300]) (by simp only [vu_rd, Nat.reduceEqDiff, if_true, if_false, reduceIte])
  · by_cases q : k = 0
    · subst q
      rw [r2_0]; rfl
    · rw [n2 k (by omega)]
      simp only [show ¬ k = 0 by omega, if_false, reduceIte, ite_self]
theorem k_let (z3 : ∀ k, I 3 i k = 0) (z401 : ∀ k, I 401 i k = 0) (z402 : ∀ k, I 402 i k = 0) (z403 : ∀ k, I 403 i k = 0) (z404 : ∀ k, I 404 i k = 0) (z405 : ∀ k, I 405 i k = 0) (z406 : ∀ k, I 406 i k = 0) (z407 : ∀ k, I 407 i k = 0) (z408 : ∀ k, I 408 i k = 0) (z409 : ∀ k, I 409 i k = 0) (z410 : ∀ k, I 410 i k = 0) (z412 : ∀ k, I 412 i k = 0) (z413 : ∀ k, I 413 i k = 0) (r401 : ∀ k, R 401 i k = none) (r402 : ∀ k, R 402 i k = none) (r403 : ∀ k, R 403 i k = none) (r404 : ∀ k, R 404 i k = none) (r405 : ∀ k, R 405 i k = none) (r406 : ∀ k, R 406 i k = none) (r407 : ∀ k, R 407 i k = none) (r408 : ∀ k, R 408 i k = none) (r409 : ∀ k, R 409 i k = none) (r410 : ∀ k, R 410 i k = none) (r412 : ∀ k, R 412 i k = none) (r413 : ∀ k, R 413 i k = none) (c401 : cnt 401 = i) (c402 : cnt 402 = i) (c403 : cnt 403 = i) (c404 : cnt 404 = i) (c405 : cnt 405 = i) (c406 : cnt 406 = i) (c407 : cnt 407 = i) (c408 : cnt 408 = i) (c409 : cnt 409 = i) (c410 : cnt 410 = i) (c412 : cnt 412 = i) (c413 : cnt 413 = i) (r3_1 : R 3 i 1 = some (401, i)) (r3_2 : R 3 i 2 = some (402, i)) (r3_3 : R 3 i 3 = some (403, i)) (r3_4 : R 3 i 4 = some (404, i)) (r3_5 : R 3 i 5 = some (405, i)) (r3_6 : R 3 i 6 = some (406, i)) (r3_7 : R 3 i 7 = some (407, i)) (r3_8 : R 3 i 8 = some (408, i)) (r3_9 : R 3 i 9 = some (409, i)) (r3_10 : R 3 i 10 = some (410, i)) (r3_12 : R 3 i 12 = some (412, i)) (r3_13 : R 3 i 13 = some (413, i)) (n3 : ∀ k, ¬ k = 1 → ¬ k = 2 → ¬ k = 3 → ¬ k = 4 → ¬ k = 5 → ¬ k = 6 → ¬ k = 7 → ¬ k = 8 → ¬ k = 9 → ¬ k = 10 → ¬ k = 12 → ¬ k = 13 → R 3 i k = none) (hQ : ∀ (cnt' : Nat → Nat) (c s : Nat), (∀ t, ¬ t = 401 → ¬ t = 402 → ¬ t = 403 → ¬ t = 404 → ¬ t = 405 → ¬ t = 406 → ¬ t = 407 → ¬ t = 408 → ¬ t = 409 → ¬ t = 410 → ¬ t = 412 → ¬ t = 413 → cnt' t = cnt t) → cnt' 401 = i + 1 → cnt' 402 = i + 1 → cnt' 403 = i + 1 → cnt' 404 = i + 1 → cnt' 405 = i + 1 → cnt' 406 = i + 1 → cnt' 407 = i + 1 → cnt' 408 = i + 1 → cnt' 409 = i + 1 → cnt' 410 = i + 1 → cnt' 412 = i + 1 → cnt' 413 = i + 1 → Q none (I, R, cnt', c, s)) : mmC (d + 1) 34 [mo 3 i] (I, mmUr R 3 i (fun _ => none), cnt, 12, 440) Q := by
  refine mmC_in (by decide) (Nat.le_of_ble_eq_true rfl) (mmC_step ?_)
  simp only [show mmMl 34 = 1 from rfl, mmLs, List.replicate, cd_34, sg_34_0, mmK_cut cd_34, q_cons, q_G0, q_GS, q_I1, q_L1, q_A1, q_S0, q_S1, q_SS, q_T0, q_T1, q_TS, q_Kn, q_Ki, q_Kl, q_Kr, q_k0, q_kS, q_rc, q_ps, q_pn, q_aload0, q_objInit, q_iconst, q_putfieldI, q_bipush, q_newarray, q_putfieldA, q_return, mmKe_401, mmKe_402, mmKe_403, mmKe_404, mmKe_405, mmKe_406, mmKe_407, mmKe_408, mmKe_409, mmKe_410, mmKe_412, mmKe_413, mmKo_3, mmLen_401, mmLen_402, mmLen_403, mmLen_404, mmLen_405, mmLen_406, mmLen_407, mmLen_408, mmLen_409, mmLen_410, mmLen_412, mmLen_413, mmR32, mmR64, Option.some.injEq, Int.cast_ofNat_Int, and_true, true_and, if_true, if_false, List.length_cons, List.length_nil, Nat.le_refl, Nat.zero_le, Nat.sub_zero, forall_const, reduceCtorEq, Nat.reduceAdd, Nat.reduceSub, Nat.reduceLeDiff, Nat.reduceEqDiff, Int.reduceAdd, Int.reduceNeg, Int.reduceSub, Int.reduceLT, Int.reduceLE, Int.reduceMul, Int.reduceEq, List.drop_zero, List.drop_succ_cons, ne_eq, not_false_eq_true, not_true_eq_false, false_and, and_false, false_implies, true_implies, reduceIte, mmU_rd, implies_true, or_false, false_or, or_true, true_or, vu_rd, zr, zu, rr, mmUr_rd, mmU_Ur, Int.reduceToNat, implies_true, z3, z401, z402, z403, z404, z405, z406, z407, z408, z409, z410, z412, z413, r401, r402, r403, r404, r405, r406, r407, r408, r409, r410, r412, r413, c401, c402, c403, c404, c405, c406, c407, c408, c409, c410, c412, c413]
  rw [rw_e (fun k => ?_)]
  · exact hQ _ _ _ (fun t q401 q402 q403 q404 q405 q406 q407 q408 q409 q410 q412 q413 => by rw [vu_o q413, vu_o q412, vu_o q410, vu_o q409, vu_o q408, vu_o q407, vu_o q406, vu_o q405, vu_o q404, vu_o q403, vu_o q402, vu_o q401]) (by simp only [vu_rd, Nat.reduceEqDiff, if_true, if_false, reduceIte]) (by simp only [vu_rd, Nat.reduceEqDiff, if_true, if_false, reduceIte]) (by simp only [vu_rd, Nat.reduceEqDiff, if_true, if_false, reduceIte]) (by simp only [vu_rd, Nat.reduceEqDiff, if_true, if_false, reduceIte]) (by simp only [vu_rd, Nat.reduceEqDiff, if_true, if_false, reduceIte]) (by simp only [vu_rd, Nat.reduceEqDiff, if_true, if_false, reduceIte]) (by simp only [vu_rd, Nat.reduceEqDiff, if_true, if_false, reduceIte]) (by simp only [vu_rd, Nat.reduceEqDiff, if_true, if_false, reduceIte]) (by simp only [vu_rd, Nat.reduceEqDiff, if_true, if_false, reduceIte]) (by simp only [vu_rd, Nat.reduceEqDiff, if_true, if_false, reduceIte]) (by simp only [vu_rd, Nat.reduceEqDiff, if_true, if_false, reduceIte]) (by simp only [vu_rd, Nat.reduceEqDiff, if_true, if_false, reduceIte])
  · by_cases q : k = 1 ∨ k = 2 ∨ k = 3 ∨ k = 4 ∨ k = 5 ∨ k = 6 ∨ k = 7 ∨ k = 8 ∨ k = 9 ∨ k = 10 ∨ k = 12 ∨ k = 13
    · rcases q with q | q | q | q | q | q | q | q | q | q | q | q <;> subst q
      · rw [r3_1]; rfl
      · rw [r3_2]; rfl
      · rw [r3_3]; rfl
      · rw [r3_4]; rfl
      · rw [r3_5]; rfl
      · rw [r3_6]; rfl
      · rw [r3_7]; rfl
      · rw [r3_8]; rfl
      · rw [r3_9]; rfl
      · rw [r3_10]; rfl
      · rw [r3_12]; rfl
      · rw [r3_13]; rfl
    · rw [n3 k (by omega) (by omega) (by omega) (by omega) (by omega) (by omega) (by omega) (by omega) (by omega) (by omega) (by omega) (by omega)]
      simp only [show ¬ k = 1 by omega, show ¬ k = 2 by omega, show ¬ k = 3 by omega, show ¬ k = 4 by omega, show ¬ k = 5 by omega, show ¬ k = 6 by omega, show ¬ k = 7 by omega, show ¬ k = 8 by omega, show ¬ k = 9 by omega, show ¬ k = 10 by omega, show ¬ k = 12 by omega, show ¬ k = 13 by omega, if_false, reduceIte, ite_self]
theorem k_brd (z0 : ∀ k, I 0 i k = 0) (z101 : ∀ k, I 101 i k = 0) (z102 : ∀ k, I 102 i k = 0) (z103 : ∀ k, I 103 i k = 0) (z105 : ∀ k, I 105 i k = 0) (z106 : ∀ k, I 106 i k = 0) (r101 : ∀ k, R 101 i k = none) (r102 : ∀ k, R 102 i k = none) (r103 : ∀ k, R 103 i k = none) (r105 : ∀ k, R 105 i k = none) (r106 : ∀ k, R 106 i k = none) (c101 : cnt 101 = i) (c102 : cnt 102 = i) (c103 : cnt 103 = i) (c105 : cnt 105 = i) (c106 : cnt 106 = i) (r0_1 : R 0 i 1 = some (101, i)) (r0_2 : R 0 i 2 = some (102, i)) (r0_3 : R 0 i 3 = some (103, i)) (r0_5 : R 0 i 5 = some (105, i)) (r0_6 : R 0 i 6 = some (106, i)) (n0 : ∀ k, ¬ k = 1 → ¬ k = 2 → ¬ k = 3 → ¬ k = 5 → ¬ k = 6 → R 0 i k = none) (hQ : ∀ (cnt' : Nat → Nat) (c s : Nat), (∀ t, ¬ t = 101 → ¬ t = 102 → ¬ t = 103 → ¬ t = 105 → ¬ t = 106 → cnt' t = cnt t) → cnt' 101 = i + 1 → cnt' 102 = i + 1 → cnt' 103 = i + 1 → cnt' 105 = i + 1 → cnt' 106 = i + 1 → Q none (I, R, cnt', c, s)) : mmC (d + 1) 0 [mo 0 i] (I, mmUr R 0 i (fun _ => none), cnt, 5, 62) Q := by
  refine mmC_in (by decide) (Nat.le_of_ble_eq_true rfl) (mmC_step ?_)
  simp only [show mmMl 0 = 1 from rfl, mmLs, List.replicate, cd_0, sg_0_0, mmK_cut cd_0, q_cons, q_G0, q_GS, q_I1, q_L1, q_A1, q_S0, q_S1, q_SS, q_T0, q_T1, q_TS, q_Kn, q_Ki, q_Kl, q_Kr, q_k0, q_kS, q_rc, q_ps, q_pn, q_aload0, q_objInit, q_aconst_null, q_putfieldA, q_bipush, q_newarray, q_iconst, q_putfieldI, q_return, mmKe_101, mmKe_102, mmKe_103, mmKe_105, mmKe_106, mmKo_0, mmLen_101, mmLen_102, mmLen_103, mmLen_105, mmLen_106, mmR32, mmR64, Option.some.injEq, Int.cast_ofNat_Int, and_true, true_and, if_true, if_false, List.length_cons, List.length_nil, Nat.le_refl, Nat.zero_le, Nat.sub_zero, forall_const, reduceCtorEq, Nat.reduceAdd, Nat.reduceSub, Nat.reduceLeDiff, Nat.reduceEqDiff, Int.reduceAdd, Int.reduceNeg, Int.reduceSub, Int.reduceLT, Int.reduceLE, Int.reduceMul, Int.reduceEq, List.drop_zero, List.drop_succ_cons, ne_eq, not_false_eq_true, not_true_eq_false, false_and, and_false, false_implies, true_implies, reduceIte, mmU_rd, implies_true, or_false, false_or, or_true, true_or, vu_rd, zr, zu, rr, mmUr_rd, mmU_Ur, Int.reduceToNat, implies_true, z0, z101, z102, z103, z105, z106, r101, r102, r103, r105, r106, c101, c102, c103, c105, c106]
  rw [rw_e (fun k => ?_)]
  · exact hQ _ _ _ (fun t q101 q102 q103 q105 q106 => by rw [vu_o q106, vu_o q105, vu_o q103, vu_o q102, vu_o q101]) (by simp only [vu_rd, Nat.reduceEqDiff, if_true, if_false, reduceIte]) (by simp only [vu_rd, Nat.reduceEqDiff, if_true, if_false, reduceIte]) (by simp only [vu_rd, Nat.reduceEqDiff, if_true, if_false, reduceIte]) (by simp only [vu_rd, Nat.reduceEqDiff, if_true, if_false, reduceIte]) (by simp only [vu_rd, Nat.reduceEqDiff, if_true, if_false, reduceIte])
  · by_cases q : k = 1 ∨ k = 2 ∨ k = 3 ∨ k = 5 ∨ k = 6
    · rcases q with q | q | q | q | q <;> subst q
      · rw [r0_1]; rfl
      · rw [r0_2]; rfl
      · rw [r0_3]; rfl
      · rw [r0_5]; rfl
      · rw [r0_6]; rfl
    · rw [n0 k (by omega) (by omega) (by omega) (by omega) (by omega)]
      simp only [show ¬ k = 1 by omega, show ¬ k = 2 by omega, show ¬ k = 3 by omega, show ¬ k = 5 by omega, show ¬ k = 6 by omega, if_false, reduceIte, ite_self]
end S887
