def bru (br : Nat → Option mmO) (j x : Nat) (i : Nat) : Option mmO := if i = j then some (6, x) else br i
theorem rf_bru {a j x : Nat} {br : Nat → Option mmO} : mmU (mmRf a br) 0 j 0 (some (6, x)) = mmRf a (bru br j x) := by
  funext t i k
  unfold mmU
  by_cases c : t = 0 ∧ i = j ∧ k = 0
  · obtain ⟨rfl, rfl, rfl⟩ := c
    rw [if_pos ⟨rfl, rfl, rfl⟩]
    show _ = bru br i x i
    unfold bru
    rw [if_pos rfl]
  · rw [if_neg c]
    unfold mmRf
    by_cases c2 : t = 0 ∧ k = 0
    · rw [if_pos c2, if_pos c2]
      unfold bru
      rw [if_neg (fun q => c ⟨c2.1, q, c2.2⟩)]
    · rw [if_neg c2, if_neg c2]
theorem bru_same {br : Nat → Option mmO} {j x : Nat} : bru br j x j = some (6, x) := if_pos rfl
/-- the first n stones of the reference laid -/
def lyF (G : mGv) : Nat → mBd
  | 0 => fun _ => -2
  | n + 1 => fup (lyF G n) (G 22 n) (G 20 n + 4 * G 21 n)
theorem ly_in {r : mRu} {G : mGv} (hS : SE r G) {z : Int} : ∀ n : Nat, (n : Int) ≤ r 6 3 → ((∃ i : Nat, i < n ∧ G 22 i = z) ∧ lyF G n z = r 714 z) ∨ ((∀ i : Nat, i < n → ¬ G 22 i = z) ∧ lyF G n z = -2)
  | 0, _ => Or.inr ⟨fun i hi => by omega, rfl⟩
  | n + 1, hn => by
    have ih := ly_in hS (z := z) n (by omega)
    have hs := (hS.1 n (by omega) (by omega)).2.2.2
    by_cases c : G 22 n = z
    · refine Or.inl ⟨⟨n, by omega, c⟩, ?_⟩
      show fup (lyF G n) (G 22 n) _ z = _
      unfold fup
      rw [if_pos c.symm, ← c, hs]
    · have e : lyF G (n + 1) z = lyF G n z := by
        show fup (lyF G n) (G 22 n) _ z = _
        unfold fup
        rw [if_neg (fun q => c q.symm)]
      rw [e]
      rcases ih with ⟨⟨i, h1, h2⟩, h3⟩ | ⟨h1, h2⟩
      · exact Or.inl ⟨⟨i, by omega, h2⟩, h3⟩
      · refine Or.inr ⟨fun i hi => ?_, h2⟩
        by_cases c2 : i = n
        · rw [c2]; exact c
        · exact h1 i (by omega)
theorem ly_all {r : mRu} {G : mGv} (hS : SE r G) (h8 : 0 ≤ r 6 3) {z : Int} (hz : 0 ≤ z ∧ z < 25) : lyF G (r 6 3).toNat z = r 714 z := by
  rcases ly_in hS (z := z) (r 6 3).toNat (by omega) with ⟨_, h⟩ | ⟨h1, h2⟩
  · exact h
  · rw [h2]
    apply Classical.byContradiction
    intro q
    obtain ⟨i, i0, i1, i2⟩ := hS.2.2.1 z hz.1 hz.2 (fun e => q e.symm)
    have := h1 i.toNat (by omega)
    rw [show ((i.toNat : Nat) : Int) = i by omega] at this
    exact this i2
theorem ly_cS {r : mRu} {G : mGv} (hS : SE r G) (hp : r 6 0 * r 6 1 ≤ 25) : ∀ n : Nat, (n : Int) ≤ r 6 3 → cS (lyF G n) 0 25 + cS (lyF G n) 1 25 ≤ n
  | 0, _ => by
    have h : ∀ w, w = 0 ∨ w = 1 → ∀ k : Nat, cS (lyF G 0) w k = 0 := by
      intro w hw k
      induction k with
      | zero => rfl
      | succ k ih =>
        show cS (lyF G 0) w k + oS (-2) w = 0
        rw [ih, oS_2 hw]; rfl
    rw [h 0 (by omega), h 1 (by omega)]; omega
  | n + 1, hn => by
    have ih := ly_cS hS hp n (by omega)
    have hs := (hS.1 n (by omega) (by omega)).2.2.1
    show cS (fup (lyF G n) (G 22 n) (G 20 n + 4 * G 21 n)) 0 25 + cS (fup (lyF G n) (G 22 n) (G 20 n + 4 * G 21 n)) 1 25 ≤ _
    rw [cS_up hs.1, cS_up hs.1, if_pos (by omega), if_pos (by omega)]
    have h1 := oS_in (v := lyF G n (G 22 n)) (w := 0)
    have h2 := oS_in (v := lyF G n (G 22 n)) (w := 1)
    have h3 : oS (G 20 n + 4 * G 21 n) 0 + oS (G 20 n + 4 * G 21 n) 1 ≤ 1 := by
      unfold oS
      split
      · rw [if_neg (by omega)]; omega
      · split <;> omega
    omega
theorem BW_0 {r : mRu} {G : mGv} (hw : RW r) (hS : SE r G) : BW r (r 714) := by
  have h25 := (pt_in hw.1 hw.2.1 (x := 0) (y := 0) (by have := hw.1; omega) (by have := hw.2.1; omega)).2.2.1
  have h3 := hw.2.2.2.1
  have hk := hw.2.2.1
  refine ⟨fun z z0 z1 => ?_, ?_⟩
  · by_cases c : r 714 z = -2
    · exact Or.inl c
    · obtain ⟨i, i0, i1, i2⟩ := hS.2.2.1 z z0 z1 c
      have := hS.1 i i0 i1
      rw [i2] at this
      omega
  · have h1 := ly_cS hS h25 (r 6 3).toNat (by omega)
    rw [cS_ext (B := r 714) 25 (fun z z0 z1 => ly_all hS h3.1 ⟨z0, z1⟩), cS_ext (B := r 714) 25 (fun z z0 z1 => ly_all hS h3.1 ⟨z0, z1⟩)] at h1
    omega
section S810
variable {d a j x : Nat} {I I' I'' : mMm} {br : Nat → Option mmO} {X : mmX} {r : mRu} {Q : Option mmV → mmM → Prop}
set_option maxHeartbeats 1000000 in
theorem c_begin (hC : CR I x r) (hB : BW r (r 714)) (hQ : ∀ I', FrD j I I' → BV I' j (r 714) 0 r → Q none (I', mmRf a (bru br j x), X)) : mmC (d + 2) 1 [mo 0 j, mo 6 x] (I, mmRf a br, X) Q := by
  have key : ∀ (q n : Nat) (I1 : mMm), n + q = 25 → FrD j I I1 → (∀ z : Int, 0 ≤ z → z < n → I1 101 j z = r 714 z) → I1 0 j 4 = 0 → (∀ w, w = 0 ∨ w = 1 → I1 102 j w = cS (r 714) w n ∧ I1 103 j w = cK r (r 714) w n) → mmK (d + 1) 1 Q 25 [some (mo 0 j), some (mo 6 x), some (mv n)] [] (I1, mmRf a (bru br j x), X) := by
    intro q
    induction q with
    | zero =>
      intro n I1 hn fr1 g1 g2 g3
      have e : n = 25 := by omega
      subst e
      refine mmC_step ?_
      simp only [cd_1, sg_1_0, sg_1_8, sg_1_23, sg_1_25, sg_1_45, mmK_cut cd_1, q_cons, q_G0, q_GS, q_I1, q_L1, q_A1, q_S0, q_S1, q_SS, q_T0, q_T1, q_TS, q_Kn, q_Ki, q_Kl, q_Kr, q_k0, q_kS, q_rc, q_ps, q_pn, q_aload0, q_aload1, q_putfieldA, q_iconst, q_putfieldI, q_istore2, q_iload2, q_icmp_ge, q_getfieldA, q_iastore, q_iinc, q_goto, q_bipush, q_iaload, q_return, rf_0_1, rf_0_2, rf_0_3, rf_6_14, mmKe_101, mmKe_102, mmKe_103, mmKe_714, mmKo_0, mmKo_6, mmLen_101, mmLen_102, mmLen_103, mmLen_714, mmR32, mmR64, Option.some.injEq, Int.cast_ofNat_Int, and_true, true_and, if_true, if_false, List.length_cons, List.length_nil, Nat.le_refl, Nat.zero_le, Nat.sub_zero, forall_const, reduceCtorEq, Nat.reduceAdd, Nat.reduceSub, Nat.reduceLeDiff, Nat.reduceEqDiff, Int.reduceAdd, Int.reduceNeg, Int.reduceSub, Int.reduceLT, Int.reduceLE, Int.reduceMul, Int.reduceEq, List.drop_zero, List.drop_succ_cons, ne_eq, not_false_eq_true, not_true_eq_false, false_and, and_false, false_implies, true_implies, reduceIte, mmU_rd, implies_true, or_false, false_or, or_true, true_or]
      refine mmC_step ?_
      simp only [cd_1, sg_1_0, sg_1_8, sg_1_23, sg_1_25, sg_1_45, mmK_cut cd_1, q_cons, q_G0, q_GS, q_I1, q_L1, q_A1, q_S0, q_S1, q_SS, q_T0, q_T1, q_TS, q_Kn, q_Ki, q_Kl, q_Kr, q_k0, q_kS, q_rc, q_ps, q_pn, q_aload0, q_aload1, q_putfieldA, q_iconst, q_putfieldI, q_istore2, q_iload2, q_icmp_ge, q_getfieldA, q_iastore, q_iinc, q_goto, q_bipush, q_iaload, q_return, rf_0_1, rf_0_2, rf_0_3, rf_6_14, mmKe_101, mmKe_102, mmKe_103, mmKe_714, mmKo_0, mmKo_6, mmLen_101, mmLen_102, mmLen_103, mmLen_714, mmR32, mmR64, Option.some.injEq, Int.cast_ofNat_Int, and_true, true_and, if_true, if_false, List.length_cons, List.length_nil, Nat.le_refl, Nat.zero_le, Nat.sub_zero, forall_const, reduceCtorEq, Nat.reduceAdd, Nat.reduceSub, Nat.reduceLeDiff, Nat.reduceEqDiff, Int.reduceAdd, Int.reduceNeg, Int.reduceSub, Int.reduceLT, Int.reduceLE, Int.reduceMul, Int.reduceEq, List.drop_zero, List.drop_succ_cons, ne_eq, not_false_eq_true, not_true_eq_false, false_and, and_false, false_implies, true_implies, reduceIte, mmU_rd, implies_true, or_false, false_or, or_true, true_or]
      exact hQ I1 fr1 ⟨g1, g2, g3⟩
    | succ q ih =>
      intro n I1 hn fr1 g1 g2 g3
      have hC1 := CR_D hC fr1
      have e714 : I1 714 x n = r 714 n := hC1 714 _ (rt7 (by decide))
      have hs := hB.1 n (by omega) (by omega)
      refine mmC_step ?_
      simp only [cd_1, sg_1_0, sg_1_8, sg_1_23, sg_1_25, sg_1_45, mmK_cut cd_1, q_cons, q_G0, q_GS, q_I1, q_L1, q_A1, q_S0, q_S1, q_SS, q_T0, q_T1, q_TS, q_Kn, q_Ki, q_Kl, q_Kr, q_k0, q_kS, q_rc, q_ps, q_pn, q_aload0, q_aload1, q_putfieldA, q_iconst, q_putfieldI, q_istore2, q_iload2, q_icmp_ge, q_getfieldA, q_iastore, q_iinc, q_goto, q_bipush, q_iaload, q_return, rf_0_1, rf_0_2, rf_0_3, rf_6_14, mmKe_101, mmKe_102, mmKe_103, mmKe_714, mmKo_0, mmKo_6, mmLen_101, mmLen_102, mmLen_103, mmLen_714, mmR32, mmR64, Option.some.injEq, Int.cast_ofNat_Int, and_true, true_and, if_true, if_false, List.length_cons, List.length_nil, Nat.le_refl, Nat.zero_le, Nat.sub_zero, forall_const, reduceCtorEq, Nat.reduceAdd, Nat.reduceSub, Nat.reduceLeDiff, Nat.reduceEqDiff, Int.reduceAdd, Int.reduceNeg, Int.reduceSub, Int.reduceLT, Int.reduceLE, Int.reduceMul, Int.reduceEq, List.drop_zero, List.drop_succ_cons, ne_eq, not_false_eq_true, not_true_eq_false, false_and, and_false, false_implies, true_implies, reduceIte, mmU_rd, implies_true, or_false, false_or, or_true, true_or]
      rw [e714]
      refine ⟨fun c => by omega, fun _ => ⟨by omega, by omega, by omega, by omega, by omega, by omega, ?_⟩⟩
      have fr2 : FrD j I (mmU I1 101 j n (r 714 n)) := FrD_trans fr1 (FrD_U (by omega))
      have c1 : ∀ z : Int, 0 ≤ z → z < ((n + 1 : Nat) : Int) → mmU I1 101 j n (r 714 n) 101 j z = r 714 z := by
        intro z z0 z1
        unfold mmU
        by_cases c : z = n
        · rw [if_pos ⟨rfl, rfl, c⟩, c]
        · rw [if_neg (fun q => c q.2.2)]; exact g1 z z0 (by omega)
      have eS : ∀ w, cS (r 714) w (n + 1) = cS (r 714) w n + oS (r 714 n) w := fun w => rfl
      have eK : ∀ w, cK r (r 714) w (n + 1) = cK r (r 714) w n + oK r (r 714 n) w := fun w => rfl
      rw [q_invV (pay := [])]
      simp only [q_k0, q_kS, q_rc, mmKo_0]
      refine ⟨by decide, by trivial, Nat.zero_le _, Nat.zero_le _, ?_⟩
      refine sp_tally bru_same (CR_D hC fr2) (Or.inl rfl) (by omega) (fun w hw' => ?_) (fun c => ?_) (fun c => ?_)
      · have h1 := cS_in (B := r 714) (w := w) n
        have h2 := cK_in (r := r) (B := r 714) (w := w) n
        have h3 := g3 w hw'
        show (-100 ≤ I1 102 j w ∧ I1 102 j w ≤ 100) ∧ (-100 ≤ I1 103 j w ∧ I1 103 j w ≤ 100)
        omega
      · simp only [mmK_cut cd_1, q_cons, q_G0, q_GS, q_I1, q_L1, q_A1, q_S0, q_S1, q_SS, q_T0, q_T1, q_TS, q_Kn, q_Ki, q_Kl, q_Kr, q_k0, q_kS, q_rc, q_ps, q_pn, q_aload0, q_aload1, q_putfieldA, q_iconst, q_putfieldI, q_istore2, q_iload2, q_icmp_ge, q_getfieldA, q_iastore, q_iinc, q_goto, q_bipush, q_iaload, q_return, rf_0_1, rf_0_2, rf_0_3, rf_6_14, mmKe_101, mmKe_102, mmKe_103, mmKe_714, mmKo_0, mmKo_6, mmLen_101, mmLen_102, mmLen_103, mmLen_714, mmR32, mmR64, Option.some.injEq, Int.cast_ofNat_Int, and_true, true_and, if_true, if_false, List.length_cons, List.length_nil, Nat.le_refl, Nat.zero_le, Nat.sub_zero, forall_const, reduceCtorEq, Nat.reduceAdd, Nat.reduceSub, Nat.reduceLeDiff, Nat.reduceEqDiff, Int.reduceAdd, Int.reduceNeg, Int.reduceSub, Int.reduceLT, Int.reduceLE, Int.reduceMul, Int.reduceEq, List.drop_zero, List.drop_succ_cons, ne_eq, not_false_eq_true, not_true_eq_false, false_and, and_false, false_implies, true_implies, reduceIte, mmU_rd, implies_true, or_false, false_or, or_true, true_or]
        refine ⟨by omega, ih (n + 1) _ (by omega) fr2 c1 g2 (fun w hw' => ?_)⟩
        have h3 := g3 w hw'
        rw [eS, eK, c, oS_2 hw', oK_2 hw']
        show I1 102 j w = _ ∧ I1 103 j w = _
        omega
      · simp only [mmK_cut cd_1, q_cons, q_G0, q_GS, q_I1, q_L1, q_A1, q_S0, q_S1, q_SS, q_T0, q_T1, q_TS, q_Kn, q_Ki, q_Kl, q_Kr, q_k0, q_kS, q_rc, q_ps, q_pn, q_aload0, q_aload1, q_putfieldA, q_iconst, q_putfieldI, q_istore2, q_iload2, q_icmp_ge, q_getfieldA, q_iastore, q_iinc, q_goto, q_bipush, q_iaload, q_return, rf_0_1, rf_0_2, rf_0_3, rf_6_14, mmKe_101, mmKe_102, mmKe_103, mmKe_714, mmKo_0, mmKo_6, mmLen_101, mmLen_102, mmLen_103, mmLen_714, mmR32, mmR64, Option.some.injEq, Int.cast_ofNat_Int, and_true, true_and, if_true, if_false, List.length_cons, List.length_nil, Nat.le_refl, Nat.zero_le, Nat.sub_zero, forall_const, reduceCtorEq, Nat.reduceAdd, Nat.reduceSub, Nat.reduceLeDiff, Nat.reduceEqDiff, Int.reduceAdd, Int.reduceNeg, Int.reduceSub, Int.reduceLT, Int.reduceLE, Int.reduceMul, Int.reduceEq, List.drop_zero, List.drop_succ_cons, ne_eq, not_false_eq_true, not_true_eq_false, false_and, and_false, false_implies, true_implies, reduceIte, mmU_rd, implies_true, or_false, false_or, or_true, true_or]
        have hs2 : 0 ≤ r 714 n ∧ r 714 n < 8 := by omega
        refine ⟨by omega, ih (n + 1) _ (by omega) (FrD_trans (FrD_trans fr2 (FrD_U (by omega))) (FrD_U (by omega))) (fun z z0 z1 => (show _ = mmU I1 101 j n (r 714 n) 101 j z from rfl).trans (c1 z z0 z1)) ((show _ = I1 0 j 4 from rfl).trans g2) (fun w hw' => ?_)⟩
        have h3 := g3 w hw'
        have h1 := tl_up (I := mmU I1 101 j n (r 714 n)) (j := j) (r := r) (e := 1) hs2 hw'
        rw [eS, eK]
        refine ⟨Eq.trans h1.1 ?_, Eq.trans h1.2 ?_⟩
        · show I1 102 j w + 1 * oS (r 714 n) w = _
          omega
        · show I1 103 j w + 1 * oK r (r 714 n) w = _
          omega
  refine mmC_in (by decide) (Nat.le_of_ble_eq_true rfl) (mmC_step ?_)
  simp only [show mmMl 1 = 3 from rfl, mmLs, List.replicate, cd_1, sg_1_0, sg_1_8, sg_1_23, sg_1_25, sg_1_45, mmK_cut cd_1, q_cons, q_G0, q_GS, q_I1, q_L1, q_A1, q_S0, q_S1, q_SS, q_T0, q_T1, q_TS, q_Kn, q_Ki, q_Kl, q_Kr, q_k0, q_kS, q_rc, q_ps, q_pn, q_aload0, q_aload1, q_putfieldA, q_iconst, q_putfieldI, q_istore2, q_iload2, q_icmp_ge, q_getfieldA, q_iastore, q_iinc, q_goto, q_bipush, q_iaload, q_return, rf_0_1, rf_0_2, rf_0_3, rf_6_14, mmKe_101, mmKe_102, mmKe_103, mmKe_714, mmKo_0, mmKo_6, mmLen_101, mmLen_102, mmLen_103, mmLen_714, mmR32, mmR64, Option.some.injEq, Int.cast_ofNat_Int, and_true, true_and, if_true, if_false, List.length_cons, List.length_nil, Nat.le_refl, Nat.zero_le, Nat.sub_zero, forall_const, reduceCtorEq, Nat.reduceAdd, Nat.reduceSub, Nat.reduceLeDiff, Nat.reduceEqDiff, Int.reduceAdd, Int.reduceNeg, Int.reduceSub, Int.reduceLT, Int.reduceLE, Int.reduceMul, Int.reduceEq, List.drop_zero, List.drop_succ_cons, ne_eq, not_false_eq_true, not_true_eq_false, false_and, and_false, false_implies, true_implies, reduceIte, mmU_rd, implies_true, or_false, false_or, or_true, true_or]
  rw [rf_bru]
  generalize hI1 : mmU I 0 j 4 0 = I1
  have f1 : FrD j I I1 := by rw [← hI1]; exact FrD_U (by omega)
  have v1 : I1 0 j 4 = 0 := by rw [← hI1]; exact mmU_same
  have w8 : ∀ (q n : Nat) (I2 : mMm), n + q = 2 → FrD j I I2 → I2 0 j 4 = 0 → (∀ w : Int, 0 ≤ w → w < n → I2 102 j w = 0 ∧ I2 103 j w = 0) → mmK (d + 1) 1 Q 8 [some (mo 0 j), some (mo 6 x), some (mv n)] [] (I2, mmRf a (bru br j x), X) := by
    intro q
    induction q with
    | zero =>
      intro n I2 hn f2 v2 g2
      have e : n = 2 := by omega
      subst e
      refine mmC_step ?_
      simp only [cd_1, sg_1_0, sg_1_8, sg_1_23, sg_1_25, sg_1_45, mmK_cut cd_1, q_cons, q_G0, q_GS, q_I1, q_L1, q_A1, q_S0, q_S1, q_SS, q_T0, q_T1, q_TS, q_Kn, q_Ki, q_Kl, q_Kr, q_k0, q_kS, q_rc, q_ps, q_pn, q_aload0, q_aload1, q_putfieldA, q_iconst, q_putfieldI, q_istore2, q_iload2, q_icmp_ge, q_getfieldA, q_iastore, q_iinc, q_goto, q_bipush, q_iaload, q_return, rf_0_1, rf_0_2, rf_0_3, rf_6_14, mmKe_101, mmKe_102, mmKe_103, mmKe_714, mmKo_0, mmKo_6, mmLen_101, mmLen_102, mmLen_103, mmLen_714, mmR32, mmR64, Option.some.injEq, Int.cast_ofNat_Int, and_true, true_and, if_true, if_false, List.length_cons, List.length_nil, Nat.le_refl, Nat.zero_le, Nat.sub_zero, forall_const, reduceCtorEq, Nat.reduceAdd, Nat.reduceSub, Nat.reduceLeDiff, Nat.reduceEqDiff, Int.reduceAdd, Int.reduceNeg, Int.reduceSub, Int.reduceLT, Int.reduceLE, Int.reduceMul, Int.reduceEq, List.drop_zero, List.drop_succ_cons, ne_eq, not_false_eq_true, not_true_eq_false, false_and, and_false, false_implies, true_implies, reduceIte, mmU_rd, implies_true, or_false, false_or, or_true, true_or]
      refine mmC_step ?_
      simp only [cd_1, sg_1_0, sg_1_8, sg_1_23, sg_1_25, sg_1_45, mmK_cut cd_1, q_cons, q_G0, q_GS, q_I1, q_L1, q_A1, q_S0, q_S1, q_SS, q_T0, q_T1, q_TS, q_Kn, q_Ki, q_Kl, q_Kr, q_k0, q_kS, q_rc, q_ps, q_pn, q_aload0, q_aload1, q_putfieldA, q_iconst, q_putfieldI, q_istore2, q_iload2, q_icmp_ge, q_getfieldA, q_iastore, q_iinc, q_goto, q_bipush, q_iaload, q_return, rf_0_1, rf_0_2, rf_0_3, rf_6_14, mmKe_101, mmKe_102, mmKe_103, mmKe_714, mmKo_0, mmKo_6, mmLen_101, mmLen_102, mmLen_103, mmLen_714, mmR32, mmR64, Option.some.injEq, Int.cast_ofNat_Int, and_true, true_and, if_true, if_false, List.length_cons, List.length_nil, Nat.le_refl, Nat.zero_le, Nat.sub_zero, forall_const, reduceCtorEq, Nat.reduceAdd, Nat.reduceSub, Nat.reduceLeDiff, Nat.reduceEqDiff, Int.reduceAdd, Int.reduceNeg, Int.reduceSub, Int.reduceLT, Int.reduceLE, Int.reduceMul, Int.reduceEq, List.drop_zero, List.drop_succ_cons, ne_eq, not_false_eq_true, not_true_eq_false, false_and, and_false, false_implies, true_implies, reduceIte, mmU_rd, implies_true, or_false, false_or, or_true, true_or]
      exact key 25 0 I2 (by omega) f2 (fun z z0 z1 => by omega) v2 (fun w hw' => g2 w (by omega) (by omega))
    | succ q ih =>
      intro n I2 hn f2 v2 g2
      refine mmC_step ?_
      simp only [cd_1, sg_1_0, sg_1_8, sg_1_23, sg_1_25, sg_1_45, mmK_cut cd_1, q_cons, q_G0, q_GS, q_I1, q_L1, q_A1, q_S0, q_S1, q_SS, q_T0, q_T1, q_TS, q_Kn, q_Ki, q_Kl, q_Kr, q_k0, q_kS, q_rc, q_ps, q_pn, q_aload0, q_aload1, q_putfieldA, q_iconst, q_putfieldI, q_istore2, q_iload2, q_icmp_ge, q_getfieldA, q_iastore, q_iinc, q_goto, q_bipush, q_iaload, q_return, rf_0_1, rf_0_2, rf_0_3, rf_6_14, mmKe_101, mmKe_102, mmKe_103, mmKe_714, mmKo_0, mmKo_6, mmLen_101, mmLen_102, mmLen_103, mmLen_714, mmR32, mmR64, Option.some.injEq, Int.cast_ofNat_Int, and_true, true_and, if_true, if_false, List.length_cons, List.length_nil, Nat.le_refl, Nat.zero_le, Nat.sub_zero, forall_const, reduceCtorEq, Nat.reduceAdd, Nat.reduceSub, Nat.reduceLeDiff, Nat.reduceEqDiff, Int.reduceAdd, Int.reduceNeg, Int.reduceSub, Int.reduceLT, Int.reduceLE, Int.reduceMul, Int.reduceEq, List.drop_zero, List.drop_succ_cons, ne_eq, not_false_eq_true, not_true_eq_false, false_and, and_false, false_implies, true_implies, reduceIte, mmU_rd, implies_true, or_false, false_or, or_true, true_or]
      refine ⟨fun c => by omega, fun _ => ⟨by omega, by omega, by omega, by omega, by omega, ih (n + 1) _ (by omega) (FrD_trans (FrD_trans f2 (FrD_U (by omega))) (FrD_U (by omega))) v2 (fun w w0 w1 => ?_)⟩⟩
      unfold mmU
      by_cases c : w = n
      · rw [if_neg (by omega), if_pos ⟨rfl, rfl, c⟩, if_pos ⟨rfl, rfl, c⟩]; exact ⟨rfl, rfl⟩
      · rw [if_neg (by omega), if_neg (by omega), if_neg (by omega), if_neg (by omega)]
        exact g2 w w0 (by omega)
  exact w8 2 0 I1 (by omega) f1 v1 (fun w w0 w1 => by omega)
end S810
