/-- references as they will be, but for the class's own -/
def RfX (R : Nat → Nat → Int → Option mmO) : Prop := ∀ t i k, t < 10 ∨ (11 ≤ t ∧ t ≤ 1100) → R t i k = mmRf 0 (fun _ => none) t i k
section S888
variable {d i j : Nat} {I : mMm} {R : Nat → Nat → Int → Option mmO} {X : mmX} {cnt : Nat → Nat} {Q : Option mmV → mmM → Prop}
theorem rx_o (hR : RfX R) {T i t i' : Nat} {k : Int} {g : Int → Option mmO} {v : Option mmO} (h1 : ¬ t = T) (h2 : t < 10 ∨ (11 ≤ t ∧ t ≤ 1100)) (h3 : mmRf 0 (fun _ => none) t i' k = v) : mmUr R T i g t i' k = v := by
  rw [mmUr_rd, if_neg (fun q => h1 q.1), hR t i' k h2]; exact h3
theorem k_clear (r14 : R 6 j 14 = some (714, j)) (r15 : R 6 j 15 = some (715, j)) (r16 : R 6 j 16 = some (1, j)) (hQ : Q none (mmUr (clM I j) 714 j (cpR (I 714 j) (fun _ => -2) 25), R, X)) : mmC (d + 1) 73 [mo 6 j] (I, R, X) Q := by
  have key : ∀ (r n : Nat), n + r = 25 → mmK d 73 Q 40 [some (mo 6 j), some (mv n)] [] (mmUr (clM I j) 714 j (cpR (I 714 j) (fun _ => -2) n), R, X) := by
    intro r
    induction r with
    | zero =>
      intro n hn
      have e : n = 25 := by omega
      subst e
      refine mmC_step ?_
      simp only [cd_73, sg_73_0, sg_73_40, sg_73_50, mmK_cut cd_73, q_cons, q_G0, q_GS, q_I1, q_L1, q_A1, q_S0, q_S1, q_SS, q_T0, q_T1, q_TS, q_Kn, q_Ki, q_Kl, q_Kr, q_k0, q_kS, q_rc, q_ps, q_pn, q_aload0, q_iconst, q_putfieldI, q_bipush, q_putfieldZ, q_getfieldA, q_bastore, q_istore1, q_iload1, q_icmp_ge, q_iastore, q_iinc, q_goto, q_return, rf_6_14, rf_6_15, rf_6_16, mmKe_714, mmKe_715, mmKo_1, mmKo_6, mmLen_714, mmLen_715, mmR32, mmR64, Option.some.injEq, Int.cast_ofNat_Int, and_true, true_and, if_true, if_false, List.length_cons, List.length_nil, Nat.le_refl, Nat.zero_le, Nat.sub_zero, forall_const, reduceCtorEq, Nat.reduceAdd, Nat.reduceSub, Nat.reduceLeDiff, Nat.reduceEqDiff, Int.reduceAdd, Int.reduceNeg, Int.reduceSub, Int.reduceLT, Int.reduceLE, Int.reduceMul, Int.reduceEq, List.drop_zero, List.drop_succ_cons, ne_eq, not_false_eq_true, not_true_eq_false, false_and, and_false, false_implies, true_implies, reduceIte, mmU_rd, implies_true, or_false, false_or, or_true, true_or, mmUr_rd]
      refine mmC_step ?_
      simp only [cd_73, sg_73_0, sg_73_40, sg_73_50, mmK_cut cd_73, q_cons, q_G0, q_GS, q_I1, q_L1, q_A1, q_S0, q_S1, q_SS, q_T0, q_T1, q_TS, q_Kn, q_Ki, q_Kl, q_Kr, q_k0, q_kS, q_rc, q_ps, q_pn, q_aload0, q_iconst, q_putfieldI, q_bipush, q_putfieldZ, q_getfieldA, q_bastore, q_istore1, q_iload1, q_icmp_ge, q_iastore, q_iinc, q_goto, q_return, rf_6_14, rf_6_15, rf_6_16, mmKe_714, mmKe_715, mmKo_1, mmKo_6, mmLen_714, mmLen_715, mmR32, mmR64, Option.some.injEq, Int.cast_ofNat_Int, and_true, true_and, if_true, if_false, List.length_cons, List.length_nil, Nat.le_refl, Nat.zero_le, Nat.sub_zero, forall_const, reduceCtorEq, Nat.reduceAdd, Nat.reduceSub, Nat.reduceLeDiff, Nat.reduceEqDiff, Int.reduceAdd, Int.reduceNeg, Int.reduceSub, Int.reduceLT, Int.reduceLE, Int.reduceMul, Int.reduceEq, List.drop_zero, List.drop_succ_cons, ne_eq, not_false_eq_true, not_true_eq_false, false_and, and_false, false_implies, true_implies, reduceIte, mmU_rd, implies_true, or_false, false_or, or_true, true_or, mmUr_rd]
      exact hQ
    | succ r ih =>
      intro n hn
      have ih := ih (n + 1) (by omega)
      refine mmC_step ?_
      simp only [cd_73, sg_73_0, sg_73_40, sg_73_50, mmK_cut cd_73, q_cons, q_G0, q_GS, q_I1, q_L1, q_A1, q_S0, q_S1, q_SS, q_T0, q_T1, q_TS, q_Kn, q_Ki, q_Kl, q_Kr, q_k0, q_kS, q_rc, q_ps, q_pn, q_aload0, q_iconst, q_putfieldI, q_bipush, q_putfieldZ, q_getfieldA, q_bastore, q_istore1, q_iload1, q_icmp_ge, q_iastore, q_iinc, q_goto, q_return, rf_6_14, rf_6_15, rf_6_16, mmKe_714, mmKe_715, mmKo_1, mmKo_6, mmLen_714, mmLen_715, mmR32, mmR64, Option.some.injEq, Int.cast_ofNat_Int, and_true, true_and, if_true, if_false, List.length_cons, List.length_nil, Nat.le_refl, Nat.zero_le, Nat.sub_zero, forall_const, reduceCtorEq, Nat.reduceAdd, Nat.reduceSub, Nat.reduceLeDiff, Nat.reduceEqDiff, Int.reduceAdd, Int.reduceNeg, Int.reduceSub, Int.reduceLT, Int.reduceLE, Int.reduceMul, Int.reduceEq, List.drop_zero, List.drop_succ_cons, ne_eq, not_false_eq_true, not_true_eq_false, false_and, and_false, false_implies, true_implies, reduceIte, mmU_rd, implies_true, or_false, false_or, or_true, true_or, mmUr_rd, mmU_Ur2, r14]
      refine ⟨fun c => by omega, fun _ => ?_⟩
      repeat' (first | omega | exact ih | refine ⟨?_, ?_⟩)
  refine mmC_in (by decide) (Nat.le_of_ble_eq_true rfl) (mmC_step ?_)
  simp only [show mmMl 73 = 2 from rfl, mmLs, List.replicate, cd_73, sg_73_0, sg_73_40, sg_73_50, mmK_cut cd_73, q_cons, q_G0, q_GS, q_I1, q_L1, q_A1, q_S0, q_S1, q_SS, q_T0, q_T1, q_TS, q_Kn, q_Ki, q_Kl, q_Kr, q_k0, q_kS, q_rc, q_ps, q_pn, q_aload0, q_iconst, q_putfieldI, q_bipush, q_putfieldZ, q_getfieldA, q_bastore, q_istore1, q_iload1, q_icmp_ge, q_iastore, q_iinc, q_goto, q_return, rf_6_14, rf_6_15, rf_6_16, mmKe_714, mmKe_715, mmKo_1, mmKo_6, mmLen_714, mmLen_715, mmR32, mmR64, Option.some.injEq, Int.cast_ofNat_Int, and_true, true_and, if_true, if_false, List.length_cons, List.length_nil, Nat.le_refl, Nat.zero_le, Nat.sub_zero, forall_const, reduceCtorEq, Nat.reduceAdd, Nat.reduceSub, Nat.reduceLeDiff, Nat.reduceEqDiff, Int.reduceAdd, Int.reduceNeg, Int.reduceSub, Int.reduceLT, Int.reduceLE, Int.reduceMul, Int.reduceEq, List.drop_zero, List.drop_succ_cons, ne_eq, not_false_eq_true, not_true_eq_false, false_and, and_false, false_implies, true_implies, reduceIte, mmU_rd, implies_true, or_false, false_or, or_true, true_or, r15, r16]
  have := key 25 0 (by omega)
  rw [show mmUr (clM I j) 714 j (cpR (I 714 j) (fun _ => -2) 0) = clM I j from mmUr_id rfl] at this
  repeat' (first | omega | exact this | refine ⟨?_, ?_⟩)
theorem k_line (hR : RfX R) (z : ∀ t k, t = 4 ∨ t = 2 ∨ t = 300 → I t i k = 0) (c2 : cnt 2 = i) (c300 : cnt 300 = i) (hQ : ∀ (cnt' : Nat → Nat) (c s : Nat), (∀ t, ¬ t = 2 → ¬ t = 300 → cnt' t = cnt t) → Q none (I, R, cnt', c, s)) : mmC (d + 2) 51 [mo 4 i] (I, mmUr R 4 i (fun _ => none), cnt, 2, 76) Q := by
  have z4 : ∀ k, I 4 i k = 0 := fun k => z 4 k (by omega)
  have z2 : ∀ k, I 2 i k = 0 := fun k => z 2 k (by omega)
  have z300 : ∀ k, I 300 i k = 0 := fun k => z 300 k (by omega)
  refine mmC_in (by decide) (Nat.le_of_ble_eq_true rfl) (mmC_step ?_)
  simp only [show mmMl 51 = 1 from rfl, mmLs, List.replicate, cd_51, sg_51_0, mmK_cut cd_51, q_cons, q_G0, q_GS, q_I1, q_L1, q_A1, q_S0, q_S1, q_SS, q_T0, q_T1, q_TS, q_Kn, q_Ki, q_Kl, q_Kr, q_k0, q_kS, q_rc, q_ps, q_pn, q_aload0, q_objInit, q_new, q_dupI, q_dupA, q_putfieldA, q_iconst, q_putfieldI, q_return, mmKo_2, mmKo_4, mmR32, mmR64, Option.some.injEq, Int.cast_ofNat_Int, and_true, true_and, if_true, if_false, List.length_cons, List.length_nil, Nat.le_refl, Nat.zero_le, Nat.sub_zero, forall_const, reduceCtorEq, Nat.reduceAdd, Nat.reduceSub, Nat.reduceLeDiff, Nat.reduceEqDiff, Int.reduceAdd, Int.reduceNeg, Int.reduceSub, Int.reduceLT, Int.reduceLE, Int.reduceMul, Int.reduceEq, List.drop_zero, List.drop_succ_cons, ne_eq, not_false_eq_true, not_true_eq_false, false_and, and_false, false_implies, true_implies, reduceIte, mmU_rd, implies_true, or_false, false_or, or_true, true_or, vu_rd, zr, zu, mmUr_rd, mmU_Ur, Int.reduceToNat, z4, z2, z300, c2, c300, show mmKn 2 = 4 from rfl]
  rw [q_invI (pay := [])]
  simp only [q_k0, q_kS, q_rc, mmKo_2]
  refine ⟨Nat.le_of_ble_eq_true rfl, by trivial, Nat.le_of_ble_eq_true rfl, Nat.le_of_ble_eq_true rfl, ?_⟩
  refine k_rdr z2 z300 (fun k => rx_o hR (by decide) (by decide) rfl) (by rw [vu_o (by decide)]; exact c300) (rx_o hR (by decide) (by decide) rfl) (fun k q => rx_o hR (by decide) (by decide) (by unfold mmRf; simp [q])) (fun cnt' c s f1 f2 => ?_)
  simp only [mmK_cut cd_51, q_cons, q_G0, q_GS, q_I1, q_L1, q_A1, q_S0, q_S1, q_SS, q_T0, q_T1, q_TS, q_Kn, q_Ki, q_Kl, q_Kr, q_k0, q_kS, q_rc, q_ps, q_pn, q_aload0, q_objInit, q_new, q_dupI, q_dupA, q_putfieldA, q_iconst, q_putfieldI, q_return, mmKo_2, mmKo_4, mmR32, mmR64, Option.some.injEq, Int.cast_ofNat_Int, and_true, true_and, if_true, if_false, List.length_cons, List.length_nil, Nat.le_refl, Nat.zero_le, Nat.sub_zero, forall_const, reduceCtorEq, Nat.reduceAdd, Nat.reduceSub, Nat.reduceLeDiff, Nat.reduceEqDiff, Int.reduceAdd, Int.reduceNeg, Int.reduceSub, Int.reduceLT, Int.reduceLE, Int.reduceMul, Int.reduceEq, List.drop_zero, List.drop_succ_cons, ne_eq, not_false_eq_true, not_true_eq_false, false_and, and_false, false_implies, true_implies, reduceIte, mmU_rd, implies_true, or_false, false_or, or_true, true_or, vu_rd, zr, zu, mmUr_rd, mmU_Ur, z4]
  rw [rw_e (fun k => ?_)]
  · exact hQ _ _ _ (fun t q1 q2 => (f1 t q2).trans (vu_o q1))
  · by_cases q : k = 0
    · subst q; rw [hR 4 i 0 (by decide)]; rfl
    · rw [hR 4 i k (by decide), if_neg q]; unfold mmRf; simp [q]
theorem k_rules (hR : RfX R) (z : ∀ t k, t = 6 ∨ t = 1 ∨ t = 200 ∨ t = 201 ∨ (708 ≤ t ∧ t ≤ 715) → I t i k = 0) (cc : ∀ t, t = 1 ∨ t = 200 ∨ t = 201 ∨ (708 ≤ t ∧ t ≤ 715) → cnt t = i) (hQ : ∀ (cnt' : Nat → Nat) (c s : Nat), (∀ t, ¬ (t = 1 ∨ t = 200 ∨ t = 201 ∨ (708 ≤ t ∧ t ≤ 715)) → cnt' t = cnt t) → (∀ t, t = 1 ∨ t = 200 ∨ t = 201 ∨ (708 ≤ t ∧ t ≤ 715) → cnt' t = i + 1) → Q none (mmUr (clM I i) 714 i (cpR (I 714 i) (fun _ => -2) 25), R, cnt', c, s)) : mmC (d + 2) 72 [mo 6 i] (I, mmUr R 6 i (fun _ => none), cnt, 11, 238) Q := by
  have z6 : ∀ k, I 6 i k = 0 := fun k => z 6 k (by omega)
  have z1 : ∀ k, I 1 i k = 0 := fun k => z 1 k (by omega)
  have z200 : ∀ k, I 200 i k = 0 := fun k => z 200 k (by omega)
  have z201 : ∀ k, I 201 i k = 0 := fun k => z 201 k (by omega)
  have z708 : ∀ k, I 708 i k = 0 := fun k => z 708 k (by omega)
  have z709 : ∀ k, I 709 i k = 0 := fun k => z 709 k (by omega)
  have z710 : ∀ k, I 710 i k = 0 := fun k => z 710 k (by omega)
  have z711 : ∀ k, I 711 i k = 0 := fun k => z 711 k (by omega)
  have z712 : ∀ k, I 712 i k = 0 := fun k => z 712 k (by omega)
  have z713 : ∀ k, I 713 i k = 0 := fun k => z 713 k (by omega)
  have z714 : ∀ k, I 714 i k = 0 := fun k => z 714 k (by omega)
  have z715 : ∀ k, I 715 i k = 0 := fun k => z 715 k (by omega)
  have c1 : cnt 1 = i := cc 1 (by omega)
  have c200 : cnt 200 = i := cc 200 (by omega)
  have c201 : cnt 201 = i := cc 201 (by omega)
  have c708 : cnt 708 = i := cc 708 (by omega)
  have c709 : cnt 709 = i := cc 709 (by omega)
  have c710 : cnt 710 = i := cc 710 (by omega)
  have c711 : cnt 711 = i := cc 711 (by omega)
  have c712 : cnt 712 = i := cc 712 (by omega)
  have c713 : cnt 713 = i := cc 713 (by omega)
  have c714 : cnt 714 = i := cc 714 (by omega)
  have c715 : cnt 715 = i := cc 715 (by omega)
  have r708 : ∀ k, R 708 i k = none := fun k => hR 708 i k (by decide)
  have r709 : ∀ k, R 709 i k = none := fun k => hR 709 i k (by decide)
  have r710 : ∀ k, R 710 i k = none := fun k => hR 710 i k (by decide)
  have r711 : ∀ k, R 711 i k = none := fun k => hR 711 i k (by decide)
  have r712 : ∀ k, R 712 i k = none := fun k => hR 712 i k (by decide)
  have r713 : ∀ k, R 713 i k = none := fun k => hR 713 i k (by decide)
  have r714 : ∀ k, R 714 i k = none := fun k => hR 714 i k (by decide)
  have r715 : ∀ k, R 715 i k = none := fun k => hR 715 i k (by decide)
  refine mmC_in (by decide) (Nat.le_of_ble_eq_true rfl) (mmC_step ?_)
  simp only [show mmMl 72 = 1 from rfl, mmLs, List.replicate, cd_72, sg_72_0, mmK_cut cd_72, q_cons, q_G0, q_GS, q_I1, q_L1, q_A1, q_S0, q_S1, q_SS, q_T0, q_T1, q_TS, q_Kn, q_Ki, q_Kl, q_Kr, q_k0, q_kS, q_rc, q_ps, q_pn, q_aload0, q_objInit, q_iconst, q_newarray, q_putfieldA, q_bipush, q_new, q_dupI, q_dupA, q_return, mmKe_708, mmKe_709, mmKe_710, mmKe_711, mmKe_712, mmKe_713, mmKe_714, mmKe_715, mmKo_1, mmKo_6, mmLen_708, mmLen_709, mmLen_710, mmLen_711, mmLen_712, mmLen_713, mmLen_714, mmLen_715, mmR32, mmR64, Option.some.injEq, Int.cast_ofNat_Int, and_true, true_and, if_true, if_false, List.length_cons, List.length_nil, Nat.le_refl, Nat.zero_le, Nat.sub_zero, forall_const, reduceCtorEq, Nat.reduceAdd, Nat.reduceSub, Nat.reduceLeDiff, Nat.reduceEqDiff, Int.reduceAdd, Int.reduceNeg, Int.reduceSub, Int.reduceLT, Int.reduceLE, Int.reduceMul, Int.reduceEq, List.drop_zero, List.drop_succ_cons, ne_eq, not_false_eq_true, not_true_eq_false, false_and, and_false, false_implies, true_implies, reduceIte, mmU_rd, implies_true, or_false, false_or, or_true, true_or, vu_rd, zr, zu, rr, mmUr_rd, mmU_Ur, Int.reduceToNat, show mmKn 1 = 3 from rfl, z6, z1, z200, z201, z708, z709, z710, z711, z712, z713, z714, z715, c1, c708, c709, c710, c711, c712, c713, c714, c715, r708, r709, r710, r711, r712, r713, r714, r715]
  rw [q_invI (pay := [])]
  simp only [q_k0, q_kS, q_rc, mmKo_1]
  refine ⟨Nat.le_of_ble_eq_true rfl, by trivial, Nat.le_of_ble_eq_true rfl, Nat.le_of_ble_eq_true rfl, ?_⟩
  refine k_law z1 z200 z201 (fun k => rx_o hR (by decide) (by decide) rfl) (fun k => rx_o hR (by decide) (by decide) rfl) (by rw [vu_o (by decide), vu_o (by decide), vu_o (by decide), vu_o (by decide), vu_o (by decide), vu_o (by decide), vu_o (by decide), vu_o (by decide), vu_o (by decide)]; exact c200) (by rw [vu_o (by decide), vu_o (by decide), vu_o (by decide), vu_o (by decide), vu_o (by decide), vu_o (by decide), vu_o (by decide), vu_o (by decide), vu_o (by decide)]; exact c201) (rx_o hR (by decide) (by decide) rfl) (rx_o hR (by decide) (by decide) rfl) (fun k q q' => rx_o hR (by decide) (by decide) (by unfold mmRf; simp [q, q'])) (fun cnt' c s f1 f2 f3 => ?_)
  simp only [mmK_cut cd_72, q_cons, q_G0, q_GS, q_I1, q_L1, q_A1, q_S0, q_S1, q_SS, q_T0, q_T1, q_TS, q_Kn, q_Ki, q_Kl, q_Kr, q_k0, q_kS, q_rc, q_ps, q_pn, q_aload0, q_objInit, q_iconst, q_newarray, q_putfieldA, q_bipush, q_new, q_dupI, q_dupA, q_return, mmKe_708, mmKe_709, mmKe_710, mmKe_711, mmKe_712, mmKe_713, mmKe_714, mmKe_715, mmKo_1, mmKo_6, mmLen_708, mmLen_709, mmLen_710, mmLen_711, mmLen_712, mmLen_713, mmLen_714, mmLen_715, mmR32, mmR64, Option.some.injEq, Int.cast_ofNat_Int, and_true, true_and, if_true, if_false, List.length_cons, List.length_nil, Nat.le_refl, Nat.zero_le, Nat.sub_zero, forall_const, reduceCtorEq, Nat.reduceAdd, Nat.reduceSub, Nat.reduceLeDiff, Nat.reduceEqDiff, Int.reduceAdd, Int.reduceNeg, Int.reduceSub, Int.reduceLT, Int.reduceLE, Int.reduceMul, Int.reduceEq, List.drop_zero, List.drop_succ_cons, ne_eq, not_false_eq_true, not_true_eq_false, false_and, and_false, false_implies, true_implies, reduceIte, mmU_rd, implies_true, or_false, false_or, or_true, true_or, vu_rd, zr, zu, mmUr_rd, mmU_Ur, z6]
  rw [q_invV (pay := [])]
  simp only [q_k0, q_kS, q_rc, mmKo_6]
  refine ⟨Nat.le_of_ble_eq_true rfl, by trivial, Nat.zero_le _, Nat.zero_le _, ?_⟩
  rw [rw_e (fun k => ?_)]
  · refine k_clear ((hR 6 i 14 (by decide)).trans rfl) ((hR 6 i 15 (by decide)).trans rfl) ((hR 6 i 16 (by decide)).trans rfl) ?_
    simp only [mmK_cut cd_72, q_cons, q_G0, q_GS, q_I1, q_L1, q_A1, q_S0, q_S1, q_SS, q_T0, q_T1, q_TS, q_Kn, q_Ki, q_Kl, q_Kr, q_k0, q_kS, q_rc, q_ps, q_pn, q_aload0, q_objInit, q_iconst, q_newarray, q_putfieldA, q_bipush, q_new, q_dupI, q_dupA, q_return, mmKe_708, mmKe_709, mmKe_710, mmKe_711, mmKe_712, mmKe_713, mmKe_714, mmKe_715, mmKo_1, mmKo_6, mmLen_708, mmLen_709, mmLen_710, mmLen_711, mmLen_712, mmLen_713, mmLen_714, mmLen_715, mmR32, mmR64, Option.some.injEq, Int.cast_ofNat_Int, and_true, true_and, if_true, if_false, List.length_cons, List.length_nil, Nat.le_refl, Nat.zero_le, Nat.sub_zero, forall_const, reduceCtorEq, Nat.reduceAdd, Nat.reduceSub, Nat.reduceLeDiff, Nat.reduceEqDiff, Int.reduceAdd, Int.reduceNeg, Int.reduceSub, Int.reduceLT, Int.reduceLE, Int.reduceMul, Int.reduceEq, List.drop_zero, List.drop_succ_cons, ne_eq, not_false_eq_true, not_true_eq_false, false_and, and_false, false_implies, true_implies, reduceIte, mmU_rd, implies_true, or_false, false_or, or_true, true_or]
    refine hQ _ _ _ (fun t q => ?_) (fun t q => ?_)
    · rw [f1 t (by omega) (by omega), vu_o (by omega), vu_o (by omega), vu_o (by omega), vu_o (by omega), vu_o (by omega), vu_o (by omega), vu_o (by omega), vu_o (by omega), vu_o (by omega)]
    · by_cases q0 : t = 200
      · rw [q0]; exact f2
      by_cases q1 : t = 201
      · rw [q1]; exact f3
      rw [f1 t q0 q1]
      have : t = 1 ∨ t = 708 ∨ t = 709 ∨ t = 710 ∨ t = 711 ∨ t = 712 ∨ t = 713 ∨ t = 714 ∨ t = 715 := by omega
      rcases this with q | q | q | q | q | q | q | q | q <;> subst q <;> simp only [vu_rd, Nat.reduceEqDiff, if_true, if_false, reduceIte]
  · rw [hR 6 i k (by decide)]
    by_cases q : 8 ≤ k ∧ k ≤ 16
    · have : k = 8 ∨ k = 9 ∨ k = 10 ∨ k = 11 ∨ k = 12 ∨ k = 13 ∨ k = 14 ∨ k = 15 ∨ k = 16 := by omega
      rcases this with q | q | q | q | q | q | q | q | q <;> subst q <;> rfl
    · have n : ∀ c : Int, 8 ≤ c → c ≤ 16 → ¬ k = c := fun c h1 h2 => by omega
      unfold mmRf
      simp [n 8 (by decide) (by decide), n 9 (by decide) (by decide), n 10 (by decide) (by decide), n 11 (by decide) (by decide), n 12 (by decide) (by decide), n 13 (by decide) (by decide), n 14 (by decide) (by decide), n 15 (by decide) (by decide), n 16 (by decide) (by decide)]
theorem k_row (hR : RfX R) (z : ∀ t k, t = 5 ∨ t = 0 ∨ (101 ≤ t ∧ t ≤ 106) ∨ (603 ≤ t ∧ t ≤ 612) → I t i k = 0) (cc : ∀ t, t = 0 ∨ t = 101 ∨ t = 102 ∨ t = 103 ∨ t = 105 ∨ t = 106 ∨ t = 603 ∨ t = 604 ∨ t = 606 ∨ t = 608 ∨ t = 609 ∨ t = 611 ∨ t = 612 → cnt t = i) (hQ : ∀ (cnt' : Nat → Nat) (c s : Nat), (∀ t, ¬ (t = 0 ∨ (101 ≤ t ∧ t ≤ 106) ∨ (603 ≤ t ∧ t ≤ 612)) → cnt' t = cnt t) → (∀ t, t = 0 ∨ t = 101 ∨ t = 102 ∨ t = 103 ∨ t = 105 ∨ t = 106 ∨ t = 603 ∨ t = 604 ∨ t = 606 ∨ t = 608 ∨ t = 609 ∨ t = 611 ∨ t = 612 → cnt' t = i + 1) → Q none (mmU I 5 i 0 (-1), R, cnt', c, s)) : mmC (d + 2) 63 [mo 5 i] (I, mmUr R 5 i (fun _ => none), cnt, 13, 623) Q := by
  have z5 : ∀ k, I 5 i k = 0 := fun k => z 5 k (by omega)
  have z0 : ∀ k, I 0 i k = 0 := fun k => z 0 k (by omega)
  have z101 : ∀ k, I 101 i k = 0 := fun k => z 101 k (by omega)
  have z102 : ∀ k, I 102 i k = 0 := fun k => z 102 k (by omega)
  have z103 : ∀ k, I 103 i k = 0 := fun k => z 103 k (by omega)
  have z105 : ∀ k, I 105 i k = 0 := fun k => z 105 k (by omega)
  have z106 : ∀ k, I 106 i k = 0 := fun k => z 106 k (by omega)
  have z603 : ∀ k, I 603 i k = 0 := fun k => z 603 k (by omega)
  have z604 : ∀ k, I 604 i k = 0 := fun k => z 604 k (by omega)
  have z606 : ∀ k, I 606 i k = 0 := fun k => z 606 k (by omega)
  have z608 : ∀ k, I 608 i k = 0 := fun k => z 608 k (by omega)
  have z609 : ∀ k, I 609 i k = 0 := fun k => z 609 k (by omega)
  have z611 : ∀ k, I 611 i k = 0 := fun k => z 611 k (by omega)
  have z612 : ∀ k, I 612 i k = 0 := fun k => z 612 k (by omega)
  have c0 : cnt 0 = i := cc 0 (by omega)
  have c101 : cnt 101 = i := cc 101 (by omega)
  have c102 : cnt 102 = i := cc 102 (by omega)
  have c103 : cnt 103 = i := cc 103 (by omega)
  have c105 : cnt 105 = i := cc 105 (by omega)
  have c106 : cnt 106 = i := cc 106 (by omega)
  have c603 : cnt 603 = i := cc 603 (by omega)
  have c604 : cnt 604 = i := cc 604 (by omega)
  have c606 : cnt 606 = i := cc 606 (by omega)
  have c608 : cnt 608 = i := cc 608 (by omega)
  have c609 : cnt 609 = i := cc 609 (by omega)
  have c611 : cnt 611 = i := cc 611 (by omega)
  have c612 : cnt 612 = i := cc 612 (by omega)
  have r101 : ∀ k, R 101 i k = none := fun k => hR 101 i k (by decide)
  have r102 : ∀ k, R 102 i k = none := fun k => hR 102 i k (by decide)
  have r103 : ∀ k, R 103 i k = none := fun k => hR 103 i k (by decide)
  have r105 : ∀ k, R 105 i k = none := fun k => hR 105 i k (by decide)
  have r106 : ∀ k, R 106 i k = none := fun k => hR 106 i k (by decide)
  have r603 : ∀ k, R 603 i k = none := fun k => hR 603 i k (by decide)
  have r604 : ∀ k, R 604 i k = none := fun k => hR 604 i k (by decide)
  have r606 : ∀ k, R 606 i k = none := fun k => hR 606 i k (by decide)
  have r608 : ∀ k, R 608 i k = none := fun k => hR 608 i k (by decide)
  have r609 : ∀ k, R 609 i k = none := fun k => hR 609 i k (by decide)
  have r611 : ∀ k, R 611 i k = none := fun k => hR 611 i k (by decide)
  have r612 : ∀ k, R 612 i k = none := fun k => hR 612 i k (by decide)
  refine mmC_in (by decide) (Nat.le_of_ble_eq_true rfl) (mmC_step ?_)
  simp only [show mmMl 63 = 1 from rfl, mmLs, List.replicate, cd_63, sg_63_0, mmK_cut cd_63, q_cons, q_G0, q_GS, q_I1, q_L1, q_A1, q_S0, q_S1, q_SS, q_T0, q_T1, q_TS, q_Kn, q_Ki, q_Kl, q_Kr, q_k0, q_kS, q_rc, q_ps, q_pn, q_aload0, q_objInit, q_iconst, q_putfieldI, q_new, q_dupI, q_dupA, q_putfieldA, q_bipush, q_newarray, q_sipush, q_return, mmKe_603, mmKe_604, mmKe_606, mmKe_608, mmKe_609, mmKe_611, mmKe_612, mmKo_0, mmKo_5, mmLen_603, mmLen_604, mmLen_606, mmLen_608, mmLen_609, mmLen_611, mmLen_612, mmR32, mmR64, Option.some.injEq, Int.cast_ofNat_Int, and_true, true_and, if_true, if_false, List.length_cons, List.length_nil, Nat.le_refl, Nat.zero_le, Nat.sub_zero, forall_const, reduceCtorEq, Nat.reduceAdd, Nat.reduceSub, Nat.reduceLeDiff, Nat.reduceEqDiff, Int.reduceAdd, Int.reduceNeg, Int.reduceSub, Int.reduceLT, Int.reduceLE, Int.reduceMul, Int.reduceEq, List.drop_zero, List.drop_succ_cons, ne_eq, not_false_eq_true, not_true_eq_false, false_and, and_false, false_implies, true_implies, reduceIte, mmU_rd, implies_true, or_false, false_or, or_true, true_or, vu_rd, zr, zu, rr, mmUr_rd, mmU_Ur, Int.reduceToNat, show mmKn 0 = 7 from rfl, z5, z0, c0]
  rw [q_invI (pay := [])]
  simp only [q_k0, q_kS, q_rc, mmKo_0]
  refine ⟨Nat.le_of_ble_eq_true rfl, by trivial, Nat.le_of_ble_eq_true rfl, Nat.le_of_ble_eq_true rfl, ?_⟩
  refine k_brd (fun k => by rw [uO (by omega)]; exact z0 k) (fun k => by rw [uO (by omega)]; exact z101 k) (fun k => by rw [uO (by omega)]; exact z102 k) (fun k => by rw [uO (by omega)]; exact z103 k) (fun k => by rw [uO (by omega)]; exact z105 k) (fun k => by rw [uO (by omega)]; exact z106 k) (fun k => rx_o hR (by decide) (by decide) rfl) (fun k => rx_o hR (by decide) (by decide) rfl) (fun k => rx_o hR (by decide) (by decide) rfl) (fun k => rx_o hR (by decide) (by decide) rfl) (fun k => rx_o hR (by decide) (by decide) rfl) (by rw [vu_o (by decide)]; exact c101) (by rw [vu_o (by decide)]; exact c102) (by rw [vu_o (by decide)]; exact c103) (by rw [vu_o (by decide)]; exact c105) (by rw [vu_o (by decide)]; exact c106) (rx_o hR (by decide) (by decide) rfl) (rx_o hR (by decide) (by decide) rfl) (rx_o hR (by decide) (by decide) rfl) (rx_o hR (by decide) (by decide) rfl) (rx_o hR (by decide) (by decide) rfl) (fun k q1 q2 q3 q5 q6 => rx_o hR (by decide) (by decide) (by unfold mmRf; simp [q1, q2, q3, q5, q6])) (fun cnt' c s f1 f101 f102 f103 f105 f106 => ?_)
  have g603 : cnt' 603 = i := by rw [f1 603 (by decide) (by decide) (by decide) (by decide) (by decide), vu_o (by decide)]; exact c603
  have g604 : cnt' 604 = i := by rw [f1 604 (by decide) (by decide) (by decide) (by decide) (by decide), vu_o (by decide)]; exact c604
  have g606 : cnt' 606 = i := by rw [f1 606 (by decide) (by decide) (by decide) (by decide) (by decide), vu_o (by decide)]; exact c606
  have g608 : cnt' 608 = i := by rw [f1 608 (by decide) (by decide) (by decide) (by decide) (by decide), vu_o (by decide)]; exact c608
  have g609 : cnt' 609 = i := by rw [f1 609 (by decide) (by decide) (by decide) (by decide) (by decide), vu_o (by decide)]; exact c609
  have g611 : cnt' 611 = i := by rw [f1 611 (by decide) (by decide) (by decide) (by decide) (by decide), vu_o (by decide)]; exact c611
  have g612 : cnt' 612 = i := by rw [f1 612 (by decide) (by decide) (by decide) (by decide) (by decide), vu_o (by decide)]; exact c612
  simp only [mmK_cut cd_63, q_cons, q_G0, q_GS, q_I1, q_L1, q_A1, q_S0, q_S1, q_SS, q_T0, q_T1, q_TS, q_Kn, q_Ki, q_Kl, q_Kr, q_k0, q_kS, q_rc, q_ps, q_pn, q_aload0, q_objInit, q_iconst, q_putfieldI, q_new, q_dupI, q_dupA, q_putfieldA, q_bipush, q_newarray, q_sipush, q_return, mmKe_603, mmKe_604, mmKe_606, mmKe_608, mmKe_609, mmKe_611, mmKe_612, mmKo_0, mmKo_5, mmLen_603, mmLen_604, mmLen_606, mmLen_608, mmLen_609, mmLen_611, mmLen_612, mmR32, mmR64, Option.some.injEq, Int.cast_ofNat_Int, and_true, true_and, if_true, if_false, List.length_cons, List.length_nil, Nat.le_refl, Nat.zero_le, Nat.sub_zero, forall_const, reduceCtorEq, Nat.reduceAdd, Nat.reduceSub, Nat.reduceLeDiff, Nat.reduceEqDiff, Int.reduceAdd, Int.reduceNeg, Int.reduceSub, Int.reduceLT, Int.reduceLE, Int.reduceMul, Int.reduceEq, List.drop_zero, List.drop_succ_cons, ne_eq, not_false_eq_true, not_true_eq_false, false_and, and_false, false_implies, true_implies, reduceIte, mmU_rd, implies_true, or_false, false_or, or_true, true_or, vu_rd, zr, zu, rr, mmUr_rd, mmU_Ur, Int.reduceToNat, z5, z603, z604, z606, z608, z609, z611, z612, g603, g604, g606, g608, g609, g611, g612, r603, r604, r606, r608, r609, r611, r612]
  rw [rw_e (fun k => ?_)]
  · refine hQ _ _ _ (fun t q => ?_) (fun t q => ?_)
    · rw [vu_o (by omega), vu_o (by omega), vu_o (by omega), vu_o (by omega), vu_o (by omega), vu_o (by omega), vu_o (by omega), f1 t (by omega) (by omega) (by omega) (by omega) (by omega), vu_o (by omega)]
    · rcases q with q | q | q | q | q | q | q | q | q | q | q | q | q <;> subst q <;> simp only [vu_rd, Nat.reduceEqDiff, if_true, if_false, reduceIte]
      · rw [f1 0 (by decide) (by decide) (by decide) (by decide) (by decide)]; rfl
      · exact f101
      · exact f102
      · exact f103
      · exact f105
      · exact f106
  · rw [hR 5 i k (by decide)]
    by_cases q : k = 2 ∨ k = 3 ∨ k = 4 ∨ k = 6 ∨ k = 8 ∨ k = 9 ∨ k = 11 ∨ k = 12
    · rcases q with q | q | q | q | q | q | q | q <;> subst q <;> rfl
    · simp only [not_or] at q
      unfold mmRf
      simp [q.1, q.2.1, q.2.2.1, q.2.2.2.1, q.2.2.2.2.1, q.2.2.2.2.2.1, q.2.2.2.2.2.2.1, q.2.2.2.2.2.2.2]
end S888
