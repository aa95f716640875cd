def fup (g : Int → Int) (k v : Int) (k' : Int) : Int := if k' = k then v else g k'
theorem mmU_Ur2 {f : Nat → Nat → Int → Int} {t i : Nat} {g : Int → Int} {k v : Int} : mmU (mmUr f t i g) t i k v = mmUr f t i (fup g k v) := mmU_Ur
theorem mmUr_comm {f : Nat → Nat → Int → Int} {t i t' i' : Nat} {g g' : Int → Int} (h : t ≠ t') : mmUr (mmUr f t i g) t' i' g' = mmUr (mmUr f t' i' g') t i g := by
  funext t2 i2 k2
  unfold mmUr
  by_cases h1 : t2 = t' ∧ i2 = i'
  · by_cases h2 : t2 = t ∧ i2 = i
    · exact absurd (h2.1.symm.trans h1.1) h
    · rw [if_pos h1, if_neg h2, if_pos h1]
  · rw [if_neg h1]
    by_cases h2 : t2 = t ∧ i2 = i
    · rw [if_pos h2, if_pos h2]
    · rw [if_neg h2, if_neg h2, if_neg h1]
theorem mmU_Ur_comm {f : Nat → Nat → Int → Int} {t i t' i' : Nat} {g : Int → Int} {k v : Int} (h : t ≠ t') : mmU (mmUr f t i g) t' i' k v = mmUr (mmU f t' i' k v) t i g := by
  funext t2 i2 k2
  simp only [mmUr_rd, mmU_rd]
  by_cases h1 : t2 = t' ∧ i2 = i' ∧ k2 = k
  · by_cases h2 : t2 = t ∧ i2 = i
    · exact absurd (h2.1.symm.trans h1.1) h
    · rw [if_pos h1, if_neg h2, if_pos h1]
  · rw [if_neg h1]
    by_cases h2 : t2 = t ∧ i2 = i
    · rw [if_pos h2, if_pos h2]
    · rw [if_neg h2, if_neg h2, if_neg h1]
theorem mmUr_over {f : Nat → Nat → Int → Int} {t i : Nat} {g g' : Int → Int} : mmUr (mmUr f t i g) t i g' = mmUr f t i g' := by
  funext t2 i2 k2
  unfold mmUr
  by_cases h2 : t2 = t ∧ i2 = i
  · rw [if_pos h2, if_pos h2]
  · rw [if_neg h2, if_neg h2, if_neg h2]
/-- the logs without those of one letter, the first n gone through -/
def dlS (x : Int) (g1 g2 : Int → Int) : Nat → (Int → Int) × (Int → Int) × Int
  | 0 => (g1, g2, 0)
  | n + 1 => if (dlS x g1 g2 n).1 n = x then dlS x g1 g2 n else (fup (dlS x g1 g2 n).1 (dlS x g1 g2 n).2.2 ((dlS x g1 g2 n).1 n), fup (dlS x g1 g2 n).2.1 (dlS x g1 g2 n).2.2 ((dlS x g1 g2 n).2.1 n), (dlS x g1 g2 n).2.2 + 1)
theorem dlS_le {x : Int} {g1 g2 : Int → Int} : ∀ n : Nat, 0 ≤ (dlS x g1 g2 n).2.2 ∧ (dlS x g1 g2 n).2.2 ≤ n
  | 0 => ⟨Int.le_refl 0, Int.le_refl 0⟩
  | n + 1 => by
    have := dlS_le (x := x) (g1 := g1) (g2 := g2) n
    unfold dlS
    split
    · omega
    · simp only; omega
/-- the days of a player's clock after the first n letters -/
def duF (L : Nat → Int → Int) (who : Int) : Nat → Int
  | 0 => 1
  | n + 1 => if L 1 n = who ∧ L 5 n = -1 then 0 else duF L who n
def duD (L : Nat → Int → Int) (who : Int) : Nat → Int
  | 0 => 0
  | n + 1 => duD L who n + (if L 1 n = who ∧ L 5 n = -1 then (if L 4 n = -1 then (if duF L who n = 0 then 0 else L 2 n) else (if L 2 n - L 3 (L 4 n) < 0 then 0 else L 2 n - L 3 (L 4 n))) else 0)
theorem duF_01 {L : Nat → Int → Int} {who : Int} : ∀ n : Nat, duF L who n = 0 ∨ duF L who n = 1
  | 0 => Or.inr rfl
  | n + 1 => by
    unfold duF
    split
    · exact Or.inl rfl
    · exact duF_01 n
theorem duD_le {L : Nat → Int → Int} {who : Int} (hL : LW L) : ∀ n : Nat, (n : Int) ≤ L 0 0 → 0 ≤ duD L who n ∧ duD L who n ≤ 999 * n
  | 0, _ => ⟨Int.le_refl 0, Int.le_refl 0⟩
  | n + 1, h => by
    have ih := duD_le (who := who) hL n (by omega)
    have hw := hL.2.2.2.1 n (by omega) (by omega)
    unfold LWl at hw
    unfold duD
    by_cases c1 : L 1 n = who ∧ L 5 n = -1
    · rw [if_pos c1]
      by_cases c2 : L 4 n = -1
      · rw [if_pos c2]
        split <;> omega
      · rw [if_neg c2]
        have hw2 := hL.2.2.2.1 (L 4 n) (by omega) (by omega)
        unfold LWl at hw2
        split <;> omega
    · rw [if_neg c1]; omega
section S38
variable {d a j : Nat} {I : Nat → Nat → Int → Int} {br : Nat → Option mmO} {X : mmX} {Q : Option mmV → mmM → Prop}
theorem sp_dropLogsOf {x : Int} (h : 0 ≤ I 3 j 11 ∧ I 3 j 11 ≤ 20) (hQ : Q none (mmU (mmUr (mmUr I 412 j (dlS x (I 412 j) (I 413 j) (I 3 j 11).toNat).1) 413 j (dlS x (I 412 j) (I 413 j) (I 3 j 11).toNat).2.1) 3 j 11 (dlS x (I 412 j) (I 413 j) (I 3 j 11).toNat).2.2, mmRf a br, X)) : mmC (d + 1) 45 [mo 3 j, mv x] (I, mmRf a br, X) Q := by
  have key : ∀ (r n : Nat), (n : Int) + r = I 3 j 11 → mmK d 45 Q 4 [some (mo 3 j), some (mv x), some (mv (dlS x (I 412 j) (I 413 j) n).2.2), some (mv n)] [] (mmUr (mmUr I 412 j (dlS x (I 412 j) (I 413 j) n).1) 413 j (dlS x (I 412 j) (I 413 j) n).2.1, mmRf a br, X) := by
    intro r
    induction r with
    | zero =>
      intro n hn
      refine mmC_step ?_
      simp only [cd_45, sg_45_0, sg_45_4, sg_45_31, sg_45_33, mmK_cut cd_45, q_cons, q_G0, q_GS, q_I1, q_L1, q_A1, q_S0, q_S1, q_SS, q_T0, q_T1, q_TS, q_Kn, q_Ki, q_Kl, q_Kr, q_k0, q_kS, q_rc, q_ps, q_pn, q_iconst, q_istore2, q_istore3, q_iload3, q_aload0, q_getfieldI, q_icmp_ge, q_getfieldA, q_iaload, q_iload1, q_icmp_eq, q_iload2, q_iastore, q_iinc, q_goto, q_putfieldI, q_return, rf_3_12, rf_3_13, mmKe_412, mmKe_413, mmKo_3, mmLen_412, mmLen_413, mmR32, mmR64, Option.some.injEq, Int.cast_ofNat_Int, and_true, true_and, if_true, if_false, List.length_cons, List.length_nil, Nat.le_refl, Nat.zero_le, Nat.sub_zero, forall_const, reduceCtorEq, Nat.reduceAdd, Nat.reduceSub, Nat.reduceLeDiff, Nat.reduceEqDiff, Int.reduceAdd, Int.reduceNeg, Int.reduceSub, Int.reduceLT, Int.reduceLE, Int.reduceMul, Int.reduceEq, List.drop_zero, List.drop_succ_cons, ne_eq, not_false_eq_true, not_true_eq_false, false_and, and_false, false_implies, true_implies, reduceIte, mmU_rd, implies_true, or_false, false_or, or_true, true_or, mmUr_rd]
      refine ⟨fun _ => ?_, fun c => by omega⟩
      refine mmC_step ?_
      simp only [cd_45, sg_45_0, sg_45_4, sg_45_31, sg_45_33, mmK_cut cd_45, q_cons, q_G0, q_GS, q_I1, q_L1, q_A1, q_S0, q_S1, q_SS, q_T0, q_T1, q_TS, q_Kn, q_Ki, q_Kl, q_Kr, q_k0, q_kS, q_rc, q_ps, q_pn, q_iconst, q_istore2, q_istore3, q_iload3, q_aload0, q_getfieldI, q_icmp_ge, q_getfieldA, q_iaload, q_iload1, q_icmp_eq, q_iload2, q_iastore, q_iinc, q_goto, q_putfieldI, q_return, rf_3_12, rf_3_13, mmKe_412, mmKe_413, mmKo_3, mmLen_412, mmLen_413, mmR32, mmR64, Option.some.injEq, Int.cast_ofNat_Int, and_true, true_and, if_true, if_false, List.length_cons, List.length_nil, Nat.le_refl, Nat.zero_le, Nat.sub_zero, forall_const, reduceCtorEq, Nat.reduceAdd, Nat.reduceSub, Nat.reduceLeDiff, Nat.reduceEqDiff, Int.reduceAdd, Int.reduceNeg, Int.reduceSub, Int.reduceLT, Int.reduceLE, Int.reduceMul, Int.reduceEq, List.drop_zero, List.drop_succ_cons, ne_eq, not_false_eq_true, not_true_eq_false, false_and, and_false, false_implies, true_implies, reduceIte, mmU_rd, implies_true, or_false, false_or, or_true, true_or, mmUr_rd]
      have e : (I 3 j 11).toNat = n := by omega
      rw [e] at hQ
      exact hQ
    | succ r ih =>
      intro n hn
      have hle := dlS_le (x := x) (g1 := I 412 j) (g2 := I 413 j) n
      have ih := ih (n + 1) (by omega)
      refine mmC_step ?_
      simp only [cd_45, sg_45_0, sg_45_4, sg_45_31, sg_45_33, mmK_cut cd_45, q_cons, q_G0, q_GS, q_I1, q_L1, q_A1, q_S0, q_S1, q_SS, q_T0, q_T1, q_TS, q_Kn, q_Ki, q_Kl, q_Kr, q_k0, q_kS, q_rc, q_ps, q_pn, q_iconst, q_istore2, q_istore3, q_iload3, q_aload0, q_getfieldI, q_icmp_ge, q_getfieldA, q_iaload, q_iload1, q_icmp_eq, q_iload2, q_iastore, q_iinc, q_goto, q_putfieldI, q_return, rf_3_12, rf_3_13, mmKe_412, mmKe_413, mmKo_3, mmLen_412, mmLen_413, mmR32, mmR64, Option.some.injEq, Int.cast_ofNat_Int, and_true, true_and, if_true, if_false, List.length_cons, List.length_nil, Nat.le_refl, Nat.zero_le, Nat.sub_zero, forall_const, reduceCtorEq, Nat.reduceAdd, Nat.reduceSub, Nat.reduceLeDiff, Nat.reduceEqDiff, Int.reduceAdd, Int.reduceNeg, Int.reduceSub, Int.reduceLT, Int.reduceLE, Int.reduceMul, Int.reduceEq, List.drop_zero, List.drop_succ_cons, ne_eq, not_false_eq_true, not_true_eq_false, false_and, and_false, false_implies, true_implies, reduceIte, mmU_rd, implies_true, or_false, false_or, or_true, true_or, mmUr_rd]
      refine ⟨fun c => by omega, fun _ => ⟨by omega, by omega, fun c => ?_, fun c => ?_⟩⟩
      · refine mmC_step ?_
        simp only [cd_45, sg_45_0, sg_45_4, sg_45_31, sg_45_33, mmK_cut cd_45, q_cons, q_G0, q_GS, q_I1, q_L1, q_A1, q_S0, q_S1, q_SS, q_T0, q_T1, q_TS, q_Kn, q_Ki, q_Kl, q_Kr, q_k0, q_kS, q_rc, q_ps, q_pn, q_iconst, q_istore2, q_istore3, q_iload3, q_aload0, q_getfieldI, q_icmp_ge, q_getfieldA, q_iaload, q_iload1, q_icmp_eq, q_iload2, q_iastore, q_iinc, q_goto, q_putfieldI, q_return, rf_3_12, rf_3_13, mmKe_412, mmKe_413, mmKo_3, mmLen_412, mmLen_413, mmR32, mmR64, Option.some.injEq, Int.cast_ofNat_Int, and_true, true_and, if_true, if_false, List.length_cons, List.length_nil, Nat.le_refl, Nat.zero_le, Nat.sub_zero, forall_const, reduceCtorEq, Nat.reduceAdd, Nat.reduceSub, Nat.reduceLeDiff, Nat.reduceEqDiff, Int.reduceAdd, Int.reduceNeg, Int.reduceSub, Int.reduceLT, Int.reduceLE, Int.reduceMul, Int.reduceEq, List.drop_zero, List.drop_succ_cons, ne_eq, not_false_eq_true, not_true_eq_false, false_and, and_false, false_implies, true_implies, reduceIte, mmU_rd, implies_true, or_false, false_or, or_true, true_or, mmUr_rd]
        refine ⟨by omega, ?_⟩
        unfold dlS at ih
        rw [if_pos c] at ih
        exact ih
      · refine ⟨by omega, by omega, by omega, by omega, by omega, by omega, by omega, by omega, by omega, ?_⟩
        refine mmC_step ?_
        simp only [cd_45, sg_45_0, sg_45_4, sg_45_31, sg_45_33, mmK_cut cd_45, q_cons, q_G0, q_GS, q_I1, q_L1, q_A1, q_S0, q_S1, q_SS, q_T0, q_T1, q_TS, q_Kn, q_Ki, q_Kl, q_Kr, q_k0, q_kS, q_rc, q_ps, q_pn, q_iconst, q_istore2, q_istore3, q_iload3, q_aload0, q_getfieldI, q_icmp_ge, q_getfieldA, q_iaload, q_iload1, q_icmp_eq, q_iload2, q_iastore, q_iinc, q_goto, q_putfieldI, q_return, rf_3_12, rf_3_13, mmKe_412, mmKe_413, mmKo_3, mmLen_412, mmLen_413, mmR32, mmR64, Option.some.injEq, Int.cast_ofNat_Int, and_true, true_and, if_true, if_false, List.length_cons, List.length_nil, Nat.le_refl, Nat.zero_le, Nat.sub_zero, forall_const, reduceCtorEq, Nat.reduceAdd, Nat.reduceSub, Nat.reduceLeDiff, Nat.reduceEqDiff, Int.reduceAdd, Int.reduceNeg, Int.reduceSub, Int.reduceLT, Int.reduceLE, Int.reduceMul, Int.reduceEq, List.drop_zero, List.drop_succ_cons, ne_eq, not_false_eq_true, not_true_eq_false, false_and, and_false, false_implies, true_implies, reduceIte, mmU_rd, implies_true, or_false, false_or, or_true, true_or, mmUr_rd]
        refine ⟨by omega, ?_⟩
        unfold dlS at ih
        rw [if_neg c] at ih
        rw [mmU_Ur_comm (show 413 ≠ 412 by decide), mmU_Ur2, mmU_Ur2]
        exact ih
  refine mmC_in (by decide) (Nat.le_of_ble_eq_true rfl) (mmC_step ?_)
  simp only [show mmMl 45 = 4 from rfl, mmLs, List.replicate, cd_45, sg_45_0, sg_45_4, sg_45_31, sg_45_33, mmK_cut cd_45, q_cons, q_G0, q_GS, q_I1, q_L1, q_A1, q_S0, q_S1, q_SS, q_T0, q_T1, q_TS, q_Kn, q_Ki, q_Kl, q_Kr, q_k0, q_kS, q_rc, q_ps, q_pn, q_iconst, q_istore2, q_istore3, q_iload3, q_aload0, q_getfieldI, q_icmp_ge, q_getfieldA, q_iaload, q_iload1, q_icmp_eq, q_iload2, q_iastore, q_iinc, q_goto, q_putfieldI, q_return, rf_3_12, rf_3_13, mmKe_412, mmKe_413, mmKo_3, mmLen_412, mmLen_413, mmR32, mmR64, Option.some.injEq, Int.cast_ofNat_Int, and_true, true_and, if_true, if_false, List.length_cons, List.length_nil, Nat.le_refl, Nat.zero_le, Nat.sub_zero, forall_const, reduceCtorEq, Nat.reduceAdd, Nat.reduceSub, Nat.reduceLeDiff, Nat.reduceEqDiff, Int.reduceAdd, Int.reduceNeg, Int.reduceSub, Int.reduceLT, Int.reduceLE, Int.reduceMul, Int.reduceEq, List.drop_zero, List.drop_succ_cons, ne_eq, not_false_eq_true, not_true_eq_false, false_and, and_false, false_implies, true_implies, reduceIte, mmU_rd, implies_true, or_false, false_or, or_true, true_or]
  have := key (I 3 j 11).toNat 0 (by omega)
  unfold dlS at this
  rw [mmUr_self, mmUr_self] at this
  exact this
theorem sp_takeBack (hL : LW (Lc I j)) (h0 : 0 < I 3 j 0) (hA : 0 < I 407 j (I 3 j 0 - 1) → Q (some (mv (I 3 j 0))) (mmU I 407 j (I 3 j 0 - 1) (I 407 j (I 3 j 0 - 1) - 1), mmRf a br, X))
    (hB : I 407 j (I 3 j 0 - 1) ≤ 0 → Q (some (mv (I 3 j 0 - 1))) (mmU (mmUr (mmUr (mmU I 3 j 0 (I 3 j 0 - 1)) 412 j (dlS (I 3 j 0 - 1) (I 412 j) (I 413 j) (I 3 j 11).toNat).1) 413 j (dlS (I 3 j 0 - 1) (I 412 j) (I 413 j) (I 3 j 11).toNat).2.1) 3 j 11 (dlS (I 3 j 0 - 1) (I 412 j) (I 413 j) (I 3 j 11).toNat).2.2, mmRf a br, X)) : mmC (d + 2) 44 [mo 3 j] (I, mmRf a br, X) Q := by
  have h16 := hL.1
  have h20 := hL.2.1
  have hw := hL.2.2.2.1 (I 3 j 0 - 1) (by omega) (by simp only [Lc_0]; omega)
  simp only [LWl, Lc_1, Lc_2, Lc_3, Lc_4, Lc_5, Lc_6, Lc_7] at hw
  simp only [Lc_0, Lc_11] at h16 h20
  refine mmC_in (by decide) (Nat.le_of_ble_eq_true rfl) (mmC_step ?_)
  simp only [show mmMl 44 = 2 from rfl, mmLs, List.replicate, cd_44, sg_44_0, sg_44_19, sg_44_28, mmK_cut cd_44, q_cons, q_G0, q_GS, q_I1, q_L1, q_A1, q_S0, q_S1, q_SS, q_T0, q_T1, q_TS, q_Kn, q_Ki, q_Kl, q_Kr, q_k0, q_kS, q_rc, q_ps, q_pn, q_aload0, q_getfieldI, q_iconst, q_isub, q_istore1, q_getfieldA, q_iload1, q_iaload, q_if_le, q_dup2, q_iastore, q_goto, q_dupI, q_dupA, q_putfieldI, q_invV, q_ireturn0, rf_3_7, mmKe_407, mmKo_3, mmLen_407, mmR32, mmR64, Option.some.injEq, Int.cast_ofNat_Int, and_true, true_and, if_true, if_false, List.length_cons, List.length_nil, Nat.le_refl, Nat.zero_le, Nat.sub_zero, forall_const, reduceCtorEq, Nat.reduceAdd, Nat.reduceSub, Nat.reduceLeDiff, Nat.reduceEqDiff, Int.reduceAdd, Int.reduceNeg, Int.reduceSub, Int.reduceLT, Int.reduceLE, Int.reduceMul, Int.reduceEq, List.drop_zero, List.drop_succ_cons, ne_eq, not_false_eq_true, not_true_eq_false, false_and, and_false, false_implies, true_implies, reduceIte, mmU_rd, implies_true, or_false, false_or, or_true, true_or]
  refine ⟨by omega, by omega, by omega, fun c => ?_, fun c => ?_⟩
  · refine mmC_step ?_
    simp only [cd_44, sg_44_0, sg_44_19, sg_44_28, mmK_cut cd_44, q_cons, q_G0, q_GS, q_I1, q_L1, q_A1, q_S0, q_S1, q_SS, q_T0, q_T1, q_TS, q_Kn, q_Ki, q_Kl, q_Kr, q_k0, q_kS, q_rc, q_ps, q_pn, q_aload0, q_getfieldI, q_iconst, q_isub, q_istore1, q_getfieldA, q_iload1, q_iaload, q_if_le, q_dup2, q_iastore, q_goto, q_dupI, q_dupA, q_putfieldI, q_invV, q_ireturn0, rf_3_7, mmKe_407, mmKo_3, mmLen_407, mmR32, mmR64, Option.some.injEq, Int.cast_ofNat_Int, and_true, true_and, if_true, if_false, List.length_cons, List.length_nil, Nat.le_refl, Nat.zero_le, Nat.sub_zero, forall_const, reduceCtorEq, Nat.reduceAdd, Nat.reduceSub, Nat.reduceLeDiff, Nat.reduceEqDiff, Int.reduceAdd, Int.reduceNeg, Int.reduceSub, Int.reduceLT, Int.reduceLE, Int.reduceMul, Int.reduceEq, List.drop_zero, List.drop_succ_cons, ne_eq, not_false_eq_true, not_true_eq_false, false_and, and_false, false_implies, true_implies, reduceIte, mmU_rd, implies_true, or_false, false_or, or_true, true_or]
    refine ⟨by omega, ?_⟩
    refine sp_dropLogsOf (by simp only [mmU_rd]; simp; omega) ?_
    simp only [mmK_cut cd_44, q_cons, q_G0, q_GS, q_I1, q_L1, q_A1, q_S0, q_S1, q_SS, q_T0, q_T1, q_TS, q_Kn, q_Ki, q_Kl, q_Kr, q_k0, q_kS, q_rc, q_ps, q_pn, q_aload0, q_getfieldI, q_iconst, q_isub, q_istore1, q_getfieldA, q_iload1, q_iaload, q_if_le, q_dup2, q_iastore, q_goto, q_dupI, q_dupA, q_putfieldI, q_invV, q_ireturn0, rf_3_7, mmKe_407, mmKo_3, mmLen_407, mmR32, mmR64, Option.some.injEq, Int.cast_ofNat_Int, and_true, true_and, if_true, if_false, List.length_cons, List.length_nil, Nat.le_refl, Nat.zero_le, Nat.sub_zero, forall_const, reduceCtorEq, Nat.reduceAdd, Nat.reduceSub, Nat.reduceLeDiff, Nat.reduceEqDiff, Int.reduceAdd, Int.reduceNeg, Int.reduceSub, Int.reduceLT, Int.reduceLE, Int.reduceMul, Int.reduceEq, List.drop_zero, List.drop_succ_cons, ne_eq, not_false_eq_true, not_true_eq_false, false_and, and_false, false_implies, true_implies, reduceIte, mmU_rd, implies_true, or_false, false_or, or_true, true_or, mmUr_rd]
    refine mmC_step ?_
    simp only [cd_44, sg_44_0, sg_44_19, sg_44_28, mmK_cut cd_44, q_cons, q_G0, q_GS, q_I1, q_L1, q_A1, q_S0, q_S1, q_SS, q_T0, q_T1, q_TS, q_Kn, q_Ki, q_Kl, q_Kr, q_k0, q_kS, q_rc, q_ps, q_pn, q_aload0, q_getfieldI, q_iconst, q_isub, q_istore1, q_getfieldA, q_iload1, q_iaload, q_if_le, q_dup2, q_iastore, q_goto, q_dupI, q_dupA, q_putfieldI, q_invV, q_ireturn0, rf_3_7, mmKe_407, mmKo_3, mmLen_407, mmR32, mmR64, Option.some.injEq, Int.cast_ofNat_Int, and_true, true_and, if_true, if_false, List.length_cons, List.length_nil, Nat.le_refl, Nat.zero_le, Nat.sub_zero, forall_const, reduceCtorEq, Nat.reduceAdd, Nat.reduceSub, Nat.reduceLeDiff, Nat.reduceEqDiff, Int.reduceAdd, Int.reduceNeg, Int.reduceSub, Int.reduceLT, Int.reduceLE, Int.reduceMul, Int.reduceEq, List.drop_zero, List.drop_succ_cons, ne_eq, not_false_eq_true, not_true_eq_false, false_and, and_false, false_implies, true_implies, reduceIte, mmU_rd, implies_true, or_false, false_or, or_true, true_or, mmUr_rd]
    exact hB c
  · refine ⟨by omega, by omega, by omega, by omega, by omega, ?_⟩
    refine mmC_step ?_
    simp only [cd_44, sg_44_0, sg_44_19, sg_44_28, mmK_cut cd_44, q_cons, q_G0, q_GS, q_I1, q_L1, q_A1, q_S0, q_S1, q_SS, q_T0, q_T1, q_TS, q_Kn, q_Ki, q_Kl, q_Kr, q_k0, q_kS, q_rc, q_ps, q_pn, q_aload0, q_getfieldI, q_iconst, q_isub, q_istore1, q_getfieldA, q_iload1, q_iaload, q_if_le, q_dup2, q_iastore, q_goto, q_dupI, q_dupA, q_putfieldI, q_invV, q_ireturn0, rf_3_7, mmKe_407, mmKo_3, mmLen_407, mmR32, mmR64, Option.some.injEq, Int.cast_ofNat_Int, and_true, true_and, if_true, if_false, List.length_cons, List.length_nil, Nat.le_refl, Nat.zero_le, Nat.sub_zero, forall_const, reduceCtorEq, Nat.reduceAdd, Nat.reduceSub, Nat.reduceLeDiff, Nat.reduceEqDiff, Int.reduceAdd, Int.reduceNeg, Int.reduceSub, Int.reduceLT, Int.reduceLE, Int.reduceMul, Int.reduceEq, List.drop_zero, List.drop_succ_cons, ne_eq, not_false_eq_true, not_true_eq_false, false_and, and_false, false_implies, true_implies, reduceIte, mmU_rd, implies_true, or_false, false_or, or_true, true_or]
    exact hA c
theorem sp_undo (hL : LW (Lc I 0)) (hc : 0 ≤ I 10 0 11 ∧ I 10 0 11 < 1000) (hN : I 3 0 0 = 0 → Q (some (mv (-1))) (I, mmRf a br, X))
    (hA : 0 < I 3 0 0 → 0 < I 407 0 (I 3 0 0 - 1) → Q (some (mv (I 3 0 0))) (mmU (mmU I 10 0 11 (I 10 0 11 + 1)) 407 0 (I 3 0 0 - 1) (I 407 0 (I 3 0 0 - 1) - 1), mmRf a br, X))
    (hB : 0 < I 3 0 0 → I 407 0 (I 3 0 0 - 1) ≤ 0 → Q (some (mv (I 3 0 0 - 1))) (mmU (mmUr (mmUr (mmU (mmU I 10 0 11 (I 10 0 11 + 1)) 3 0 0 (I 3 0 0 - 1)) 412 0 (dlS (I 3 0 0 - 1) (I 412 0) (I 413 0) (I 3 0 11).toNat).1) 413 0 (dlS (I 3 0 0 - 1) (I 412 0) (I 413 0) (I 3 0 11).toNat).2.1) 3 0 11 (dlS (I 3 0 0 - 1) (I 412 0) (I 413 0) (I 3 0 11).toNat).2.2, mmRf a br, X)) : mmC (d + 3) 130 [mo 10 0] (I, mmRf a br, X) Q := by
  have h16 := hL.1
  simp only [Lc_0] at h16
  refine mmC_in (by decide) (Nat.le_of_ble_eq_true rfl) (mmC_step ?_)
  simp only [show mmMl 130 = 1 from rfl, mmLs, List.replicate, cd_130, sg_130_0, sg_130_6, mmK_cut cd_130, q_cons, q_G0, q_GS, q_I1, q_L1, q_A1, q_S0, q_S1, q_SS, q_T0, q_T1, q_TS, q_Kn, q_Ki, q_Kl, q_Kr, q_k0, q_kS, q_rc, q_ps, q_pn, q_aload0, q_getfieldA, q_getfieldI, q_if_ne, q_iconst, q_ireturn0, q_dupI, q_dupA, q_iadd, q_putfieldI, q_invV, rf_10_4, mmKo_10, mmKo_3, mmR32, mmR64, Option.some.injEq, Int.cast_ofNat_Int, and_true, true_and, if_true, if_false, List.length_cons, List.length_nil, Nat.le_refl, Nat.zero_le, Nat.sub_zero, forall_const, reduceCtorEq, Nat.reduceAdd, Nat.reduceSub, Nat.reduceLeDiff, Nat.reduceEqDiff, Int.reduceAdd, Int.reduceNeg, Int.reduceSub, Int.reduceLT, Int.reduceLE, Int.reduceMul, Int.reduceEq, List.drop_zero, List.drop_succ_cons, ne_eq, not_false_eq_true, not_true_eq_false, false_and, and_false, false_implies, true_implies, reduceIte, mmU_rd, implies_true, or_false, false_or, or_true, true_or]
  refine ⟨fun h1 => ?_, fun h1 => hN h1⟩
  refine mmC_step ?_
  simp only [cd_130, sg_130_0, sg_130_6, mmK_cut cd_130, q_cons, q_G0, q_GS, q_I1, q_L1, q_A1, q_S0, q_S1, q_SS, q_T0, q_T1, q_TS, q_Kn, q_Ki, q_Kl, q_Kr, q_k0, q_kS, q_rc, q_ps, q_pn, q_aload0, q_getfieldA, q_getfieldI, q_if_ne, q_iconst, q_ireturn0, q_dupI, q_dupA, q_iadd, q_putfieldI, q_invV, rf_10_4, mmKo_10, mmKo_3, mmR32, mmR64, Option.some.injEq, Int.cast_ofNat_Int, and_true, true_and, if_true, if_false, List.length_cons, List.length_nil, Nat.le_refl, Nat.zero_le, Nat.sub_zero, forall_const, reduceCtorEq, Nat.reduceAdd, Nat.reduceSub, Nat.reduceLeDiff, Nat.reduceEqDiff, Int.reduceAdd, Int.reduceNeg, Int.reduceSub, Int.reduceLT, Int.reduceLE, Int.reduceMul, Int.reduceEq, List.drop_zero, List.drop_succ_cons, ne_eq, not_false_eq_true, not_true_eq_false, false_and, and_false, false_implies, true_implies, reduceIte, mmU_rd, implies_true, or_false, false_or, or_true, true_or]
  refine ⟨by omega, ?_⟩
  refine sp_takeBack (by exact hL) (by simp only [mmU_rd]; simp; omega) (fun h2 => ?_) (fun h2 => ?_)
  · simp only [mmK_cut cd_130, q_cons, q_G0, q_GS, q_I1, q_L1, q_A1, q_S0, q_S1, q_SS, q_T0, q_T1, q_TS, q_Kn, q_Ki, q_Kl, q_Kr, q_k0, q_kS, q_rc, q_ps, q_pn, q_aload0, q_getfieldA, q_getfieldI, q_if_ne, q_iconst, q_ireturn0, q_dupI, q_dupA, q_iadd, q_putfieldI, q_invV, rf_10_4, mmKo_10, mmKo_3, mmR32, mmR64, Option.some.injEq, Int.cast_ofNat_Int, and_true, true_and, if_true, if_false, List.length_cons, List.length_nil, Nat.le_refl, Nat.zero_le, Nat.sub_zero, forall_const, reduceCtorEq, Nat.reduceAdd, Nat.reduceSub, Nat.reduceLeDiff, Nat.reduceEqDiff, Int.reduceAdd, Int.reduceNeg, Int.reduceSub, Int.reduceLT, Int.reduceLE, Int.reduceMul, Int.reduceEq, List.drop_zero, List.drop_succ_cons, ne_eq, not_false_eq_true, not_true_eq_false, false_and, and_false, false_implies, true_implies, reduceIte, mmU_rd, implies_true, or_false, false_or, or_true, true_or]
    exact hA (by omega) h2
  · simp only [mmK_cut cd_130, q_cons, q_G0, q_GS, q_I1, q_L1, q_A1, q_S0, q_S1, q_SS, q_T0, q_T1, q_TS, q_Kn, q_Ki, q_Kl, q_Kr, q_k0, q_kS, q_rc, q_ps, q_pn, q_aload0, q_getfieldA, q_getfieldI, q_if_ne, q_iconst, q_ireturn0, q_dupI, q_dupA, q_iadd, q_putfieldI, q_invV, rf_10_4, mmKo_10, mmKo_3, mmR32, mmR64, Option.some.injEq, Int.cast_ofNat_Int, and_true, true_and, if_true, if_false, List.length_cons, List.length_nil, Nat.le_refl, Nat.zero_le, Nat.sub_zero, forall_const, reduceCtorEq, Nat.reduceAdd, Nat.reduceSub, Nat.reduceLeDiff, Nat.reduceEqDiff, Int.reduceAdd, Int.reduceNeg, Int.reduceSub, Int.reduceLT, Int.reduceLE, Int.reduceMul, Int.reduceEq, List.drop_zero, List.drop_succ_cons, ne_eq, not_false_eq_true, not_true_eq_false, false_and, and_false, false_implies, true_implies, reduceIte, mmU_rd, implies_true, or_false, false_or, or_true, true_or]
    exact hB (by omega) h2
theorem sq_undo (h16 : 0 ≤ I 11 0 68 ∧ I 11 0 68 ≤ 16) (h20 : 0 ≤ I 11 0 69 ∧ I 11 0 69 ≤ 20) (hi : 0 < I 11 0 68 → 0 ≤ I 1275 0 (I 11 0 68 - 1) ∧ I 1275 0 (I 11 0 68 - 1) ≤ 6) (hN : I 11 0 68 = 0 → Q (some (mv (-1))) (mmU I 11 0 2 0, mmRf a br, X))
    (hA : 0 < I 11 0 68 → 0 < I 1275 0 (I 11 0 68 - 1) → Q (some (mv (I 11 0 68))) (mmU (mmU I 11 0 2 0) 1275 0 (I 11 0 68 - 1) (I 1275 0 (I 11 0 68 - 1) - 1), mmRf a br, X))
    (hB : 0 < I 11 0 68 → I 1275 0 (I 11 0 68 - 1) ≤ 0 → Q (some (mv (I 11 0 68 - 1))) (mmU (mmUr (mmUr (mmU (mmU I 11 0 2 0) 11 0 68 (I 11 0 68 - 1)) 1277 0 (dlS (I 11 0 68 - 1) (I 1277 0) (I 1278 0) (I 11 0 69).toNat).1) 1278 0 (dlS (I 11 0 68 - 1) (I 1277 0) (I 1278 0) (I 11 0 69).toNat).2.1) 11 0 69 (dlS (I 11 0 68 - 1) (I 1277 0) (I 1278 0) (I 11 0 69).toNat).2.2, mmRf a br, X)) : mmC (d + 1) 252 [mo 11 0] (I, mmRf a br, X) Q := by
  refine mmC_in (by decide) (Nat.le_of_ble_eq_true rfl) (mmC_step ?_)
  simp only [show mmMl 252 = 4 from rfl, mmLs, List.replicate, cd_252, sg_252_0, sg_252_8, sg_252_29, sg_252_39, sg_252_50, sg_252_67, sg_252_69, mmK_cut cd_252, q_cons, q_G0, q_GS, q_I1, q_L1, q_A1, q_S0, q_S1, q_SS, q_T0, q_T1, q_TS, q_Kn, q_Ki, q_Kl, q_Kr, q_k0, q_kS, q_rc, q_ps, q_pn, q_aload0, q_iconst, q_putfieldI, q_getfieldI, q_if_ne, q_ireturn0, q_isub, q_istore1, q_getfieldA, q_iload1, q_iaload, q_if_le, q_dup2, q_iastore, q_dupI, q_dupA, q_istore2, q_istore3, q_iload3, q_icmp_ge, q_icmp_ne, q_goto, q_iload2, q_iinc, rf_11_75, rf_11_77, rf_11_78, mmKe_1275, mmKe_1277, mmKe_1278, mmKo_11, mmLen_1275, mmLen_1277, mmLen_1278, mmR32, mmR64, Option.some.injEq, Int.cast_ofNat_Int, and_true, true_and, if_true, if_false, List.length_cons, List.length_nil, Nat.le_refl, Nat.zero_le, Nat.sub_zero, forall_const, reduceCtorEq, Nat.reduceAdd, Nat.reduceSub, Nat.reduceLeDiff, Nat.reduceEqDiff, Int.reduceAdd, Int.reduceNeg, Int.reduceSub, Int.reduceLT, Int.reduceLE, Int.reduceMul, Int.reduceEq, List.drop_zero, List.drop_succ_cons, ne_eq, not_false_eq_true, not_true_eq_false, false_and, and_false, false_implies, true_implies, reduceIte, mmU_rd, implies_true, or_false, false_or, or_true, true_or]
  refine ⟨fun h1 => ?_, fun h1 => hN h1⟩
  have hi := hi (by omega)
  refine mmC_step ?_
  simp only [cd_252, sg_252_0, sg_252_8, sg_252_29, sg_252_39, sg_252_50, sg_252_67, sg_252_69, mmK_cut cd_252, q_cons, q_G0, q_GS, q_I1, q_L1, q_A1, q_S0, q_S1, q_SS, q_T0, q_T1, q_TS, q_Kn, q_Ki, q_Kl, q_Kr, q_k0, q_kS, q_rc, q_ps, q_pn, q_aload0, q_iconst, q_putfieldI, q_getfieldI, q_if_ne, q_ireturn0, q_isub, q_istore1, q_getfieldA, q_iload1, q_iaload, q_if_le, q_dup2, q_iastore, q_dupI, q_dupA, q_istore2, q_istore3, q_iload3, q_icmp_ge, q_icmp_ne, q_goto, q_iload2, q_iinc, rf_11_75, rf_11_77, rf_11_78, mmKe_1275, mmKe_1277, mmKe_1278, mmKo_11, mmLen_1275, mmLen_1277, mmLen_1278, mmR32, mmR64, Option.some.injEq, Int.cast_ofNat_Int, and_true, true_and, if_true, if_false, List.length_cons, List.length_nil, Nat.le_refl, Nat.zero_le, Nat.sub_zero, forall_const, reduceCtorEq, Nat.reduceAdd, Nat.reduceSub, Nat.reduceLeDiff, Nat.reduceEqDiff, Int.reduceAdd, Int.reduceNeg, Int.reduceSub, Int.reduceLT, Int.reduceLE, Int.reduceMul, Int.reduceEq, List.drop_zero, List.drop_succ_cons, ne_eq, not_false_eq_true, not_true_eq_false, false_and, and_false, false_implies, true_implies, reduceIte, mmU_rd, implies_true, or_false, false_or, or_true, true_or]
  refine ⟨by omega, by omega, by omega, fun c => ?_, fun c => ⟨by omega, by omega, by omega, by omega, by omega, hA (by omega) c⟩⟩
  have key : ∀ (r n : Nat), (n : Int) + r = I 11 0 69 → mmK d 252 Q 39 [some (mo 11 0), some (mv (I 11 0 68 - 1)), some (mv (dlS (I 11 0 68 - 1) (I 1277 0) (I 1278 0) n).2.2), some (mv n)] [] (mmUr (mmUr (mmU (mmU I 11 0 2 0) 11 0 68 (I 11 0 68 - 1)) 1277 0 (dlS (I 11 0 68 - 1) (I 1277 0) (I 1278 0) n).1) 1278 0 (dlS (I 11 0 68 - 1) (I 1277 0) (I 1278 0) n).2.1, mmRf a br, X) := by
    intro r
    induction r with
    | zero =>
      intro n hn
      refine mmC_step ?_
      simp only [cd_252, sg_252_0, sg_252_8, sg_252_29, sg_252_39, sg_252_50, sg_252_67, sg_252_69, mmK_cut cd_252, q_cons, q_G0, q_GS, q_I1, q_L1, q_A1, q_S0, q_S1, q_SS, q_T0, q_T1, q_TS, q_Kn, q_Ki, q_Kl, q_Kr, q_k0, q_kS, q_rc, q_ps, q_pn, q_aload0, q_iconst, q_putfieldI, q_getfieldI, q_if_ne, q_ireturn0, q_isub, q_istore1, q_getfieldA, q_iload1, q_iaload, q_if_le, q_dup2, q_iastore, q_dupI, q_dupA, q_istore2, q_istore3, q_iload3, q_icmp_ge, q_icmp_ne, q_goto, q_iload2, q_iinc, rf_11_75, rf_11_77, rf_11_78, mmKe_1275, mmKe_1277, mmKe_1278, mmKo_11, mmLen_1275, mmLen_1277, mmLen_1278, mmR32, mmR64, Option.some.injEq, Int.cast_ofNat_Int, and_true, true_and, if_true, if_false, List.length_cons, List.length_nil, Nat.le_refl, Nat.zero_le, Nat.sub_zero, forall_const, reduceCtorEq, Nat.reduceAdd, Nat.reduceSub, Nat.reduceLeDiff, Nat.reduceEqDiff, Int.reduceAdd, Int.reduceNeg, Int.reduceSub, Int.reduceLT, Int.reduceLE, Int.reduceMul, Int.reduceEq, List.drop_zero, List.drop_succ_cons, ne_eq, not_false_eq_true, not_true_eq_false, false_and, and_false, false_implies, true_implies, reduceIte, mmU_rd, implies_true, or_false, false_or, or_true, true_or, mmUr_rd]
      refine ⟨fun _ => ?_, fun c => by omega⟩
      refine mmC_step ?_
      simp only [cd_252, sg_252_0, sg_252_8, sg_252_29, sg_252_39, sg_252_50, sg_252_67, sg_252_69, mmK_cut cd_252, q_cons, q_G0, q_GS, q_I1, q_L1, q_A1, q_S0, q_S1, q_SS, q_T0, q_T1, q_TS, q_Kn, q_Ki, q_Kl, q_Kr, q_k0, q_kS, q_rc, q_ps, q_pn, q_aload0, q_iconst, q_putfieldI, q_getfieldI, q_if_ne, q_ireturn0, q_isub, q_istore1, q_getfieldA, q_iload1, q_iaload, q_if_le, q_dup2, q_iastore, q_dupI, q_dupA, q_istore2, q_istore3, q_iload3, q_icmp_ge, q_icmp_ne, q_goto, q_iload2, q_iinc, rf_11_75, rf_11_77, rf_11_78, mmKe_1275, mmKe_1277, mmKe_1278, mmKo_11, mmLen_1275, mmLen_1277, mmLen_1278, mmR32, mmR64, Option.some.injEq, Int.cast_ofNat_Int, and_true, true_and, if_true, if_false, List.length_cons, List.length_nil, Nat.le_refl, Nat.zero_le, Nat.sub_zero, forall_const, reduceCtorEq, Nat.reduceAdd, Nat.reduceSub, Nat.reduceLeDiff, Nat.reduceEqDiff, Int.reduceAdd, Int.reduceNeg, Int.reduceSub, Int.reduceLT, Int.reduceLE, Int.reduceMul, Int.reduceEq, List.drop_zero, List.drop_succ_cons, ne_eq, not_false_eq_true, not_true_eq_false, false_and, and_false, false_implies, true_implies, reduceIte, mmU_rd, implies_true, or_false, false_or, or_true, true_or, mmUr_rd]
      have e : (I 11 0 69).toNat = n := by omega
      rw [e] at hB
      exact hB (by omega) c
    | succ r ih =>
      intro n hn
      have hle := dlS_le (x := I 11 0 68 - 1) (g1 := I 1277 0) (g2 := I 1278 0) n
      have ih := ih (n + 1) (by omega)
      refine mmC_step ?_
      simp only [cd_252, sg_252_0, sg_252_8, sg_252_29, sg_252_39, sg_252_50, sg_252_67, sg_252_69, mmK_cut cd_252, q_cons, q_G0, q_GS, q_I1, q_L1, q_A1, q_S0, q_S1, q_SS, q_T0, q_T1, q_TS, q_Kn, q_Ki, q_Kl, q_Kr, q_k0, q_kS, q_rc, q_ps, q_pn, q_aload0, q_iconst, q_putfieldI, q_getfieldI, q_if_ne, q_ireturn0, q_isub, q_istore1, q_getfieldA, q_iload1, q_iaload, q_if_le, q_dup2, q_iastore, q_dupI, q_dupA, q_istore2, q_istore3, q_iload3, q_icmp_ge, q_icmp_ne, q_goto, q_iload2, q_iinc, rf_11_75, rf_11_77, rf_11_78, mmKe_1275, mmKe_1277, mmKe_1278, mmKo_11, mmLen_1275, mmLen_1277, mmLen_1278, mmR32, mmR64, Option.some.injEq, Int.cast_ofNat_Int, and_true, true_and, if_true, if_false, List.length_cons, List.length_nil, Nat.le_refl, Nat.zero_le, Nat.sub_zero, forall_const, reduceCtorEq, Nat.reduceAdd, Nat.reduceSub, Nat.reduceLeDiff, Nat.reduceEqDiff, Int.reduceAdd, Int.reduceNeg, Int.reduceSub, Int.reduceLT, Int.reduceLE, Int.reduceMul, Int.reduceEq, List.drop_zero, List.drop_succ_cons, ne_eq, not_false_eq_true, not_true_eq_false, false_and, and_false, false_implies, true_implies, reduceIte, mmU_rd, implies_true, or_false, false_or, or_true, true_or, mmUr_rd]
      refine ⟨fun c => by omega, fun _ => ⟨by omega, by omega, fun c => ?_, fun c => ?_⟩⟩
      · refine mmC_step ?_
        simp only [cd_252, sg_252_0, sg_252_8, sg_252_29, sg_252_39, sg_252_50, sg_252_67, sg_252_69, mmK_cut cd_252, q_cons, q_G0, q_GS, q_I1, q_L1, q_A1, q_S0, q_S1, q_SS, q_T0, q_T1, q_TS, q_Kn, q_Ki, q_Kl, q_Kr, q_k0, q_kS, q_rc, q_ps, q_pn, q_aload0, q_iconst, q_putfieldI, q_getfieldI, q_if_ne, q_ireturn0, q_isub, q_istore1, q_getfieldA, q_iload1, q_iaload, q_if_le, q_dup2, q_iastore, q_dupI, q_dupA, q_istore2, q_istore3, q_iload3, q_icmp_ge, q_icmp_ne, q_goto, q_iload2, q_iinc, rf_11_75, rf_11_77, rf_11_78, mmKe_1275, mmKe_1277, mmKe_1278, mmKo_11, mmLen_1275, mmLen_1277, mmLen_1278, mmR32, mmR64, Option.some.injEq, Int.cast_ofNat_Int, and_true, true_and, if_true, if_false, List.length_cons, List.length_nil, Nat.le_refl, Nat.zero_le, Nat.sub_zero, forall_const, reduceCtorEq, Nat.reduceAdd, Nat.reduceSub, Nat.reduceLeDiff, Nat.reduceEqDiff, Int.reduceAdd, Int.reduceNeg, Int.reduceSub, Int.reduceLT, Int.reduceLE, Int.reduceMul, Int.reduceEq, List.drop_zero, List.drop_succ_cons, ne_eq, not_false_eq_true, not_true_eq_false, false_and, and_false, false_implies, true_implies, reduceIte, mmU_rd, implies_true, or_false, false_or, or_true, true_or, mmUr_rd]
        refine ⟨by omega, by omega, by omega, by omega, by omega, by omega, by omega, by omega, by omega, ?_⟩
        refine mmC_step ?_
        simp only [cd_252, sg_252_0, sg_252_8, sg_252_29, sg_252_39, sg_252_50, sg_252_67, sg_252_69, mmK_cut cd_252, q_cons, q_G0, q_GS, q_I1, q_L1, q_A1, q_S0, q_S1, q_SS, q_T0, q_T1, q_TS, q_Kn, q_Ki, q_Kl, q_Kr, q_k0, q_kS, q_rc, q_ps, q_pn, q_aload0, q_iconst, q_putfieldI, q_getfieldI, q_if_ne, q_ireturn0, q_isub, q_istore1, q_getfieldA, q_iload1, q_iaload, q_if_le, q_dup2, q_iastore, q_dupI, q_dupA, q_istore2, q_istore3, q_iload3, q_icmp_ge, q_icmp_ne, q_goto, q_iload2, q_iinc, rf_11_75, rf_11_77, rf_11_78, mmKe_1275, mmKe_1277, mmKe_1278, mmKo_11, mmLen_1275, mmLen_1277, mmLen_1278, mmR32, mmR64, Option.some.injEq, Int.cast_ofNat_Int, and_true, true_and, if_true, if_false, List.length_cons, List.length_nil, Nat.le_refl, Nat.zero_le, Nat.sub_zero, forall_const, reduceCtorEq, Nat.reduceAdd, Nat.reduceSub, Nat.reduceLeDiff, Nat.reduceEqDiff, Int.reduceAdd, Int.reduceNeg, Int.reduceSub, Int.reduceLT, Int.reduceLE, Int.reduceMul, Int.reduceEq, List.drop_zero, List.drop_succ_cons, ne_eq, not_false_eq_true, not_true_eq_false, false_and, and_false, false_implies, true_implies, reduceIte, mmU_rd, implies_true, or_false, false_or, or_true, true_or, mmUr_rd]
        refine ⟨by omega, ?_⟩
        unfold dlS at ih
        rw [if_neg c] at ih
        rw [mmU_Ur_comm (show 1278 ≠ 1277 by decide), mmU_Ur2, mmU_Ur2]
        exact ih
      · refine mmC_step ?_
        simp only [cd_252, sg_252_0, sg_252_8, sg_252_29, sg_252_39, sg_252_50, sg_252_67, sg_252_69, mmK_cut cd_252, q_cons, q_G0, q_GS, q_I1, q_L1, q_A1, q_S0, q_S1, q_SS, q_T0, q_T1, q_TS, q_Kn, q_Ki, q_Kl, q_Kr, q_k0, q_kS, q_rc, q_ps, q_pn, q_aload0, q_iconst, q_putfieldI, q_getfieldI, q_if_ne, q_ireturn0, q_isub, q_istore1, q_getfieldA, q_iload1, q_iaload, q_if_le, q_dup2, q_iastore, q_dupI, q_dupA, q_istore2, q_istore3, q_iload3, q_icmp_ge, q_icmp_ne, q_goto, q_iload2, q_iinc, rf_11_75, rf_11_77, rf_11_78, mmKe_1275, mmKe_1277, mmKe_1278, mmKo_11, mmLen_1275, mmLen_1277, mmLen_1278, mmR32, mmR64, Option.some.injEq, Int.cast_ofNat_Int, and_true, true_and, if_true, if_false, List.length_cons, List.length_nil, Nat.le_refl, Nat.zero_le, Nat.sub_zero, forall_const, reduceCtorEq, Nat.reduceAdd, Nat.reduceSub, Nat.reduceLeDiff, Nat.reduceEqDiff, Int.reduceAdd, Int.reduceNeg, Int.reduceSub, Int.reduceLT, Int.reduceLE, Int.reduceMul, Int.reduceEq, List.drop_zero, List.drop_succ_cons, ne_eq, not_false_eq_true, not_true_eq_false, false_and, and_false, false_implies, true_implies, reduceIte, mmU_rd, implies_true, or_false, false_or, or_true, true_or, mmUr_rd]
        refine ⟨by omega, ?_⟩
        unfold dlS at ih
        rw [if_pos c] at ih
        exact ih
  refine mmC_step ?_
  simp only [cd_252, sg_252_0, sg_252_8, sg_252_29, sg_252_39, sg_252_50, sg_252_67, sg_252_69, mmK_cut cd_252, q_cons, q_G0, q_GS, q_I1, q_L1, q_A1, q_S0, q_S1, q_SS, q_T0, q_T1, q_TS, q_Kn, q_Ki, q_Kl, q_Kr, q_k0, q_kS, q_rc, q_ps, q_pn, q_aload0, q_iconst, q_putfieldI, q_getfieldI, q_if_ne, q_ireturn0, q_isub, q_istore1, q_getfieldA, q_iload1, q_iaload, q_if_le, q_dup2, q_iastore, q_dupI, q_dupA, q_istore2, q_istore3, q_iload3, q_icmp_ge, q_icmp_ne, q_goto, q_iload2, q_iinc, rf_11_75, rf_11_77, rf_11_78, mmKe_1275, mmKe_1277, mmKe_1278, mmKo_11, mmLen_1275, mmLen_1277, mmLen_1278, mmR32, mmR64, Option.some.injEq, Int.cast_ofNat_Int, and_true, true_and, if_true, if_false, List.length_cons, List.length_nil, Nat.le_refl, Nat.zero_le, Nat.sub_zero, forall_const, reduceCtorEq, Nat.reduceAdd, Nat.reduceSub, Nat.reduceLeDiff, Nat.reduceEqDiff, Int.reduceAdd, Int.reduceNeg, Int.reduceSub, Int.reduceLT, Int.reduceLE, Int.reduceMul, Int.reduceEq, List.drop_zero, List.drop_succ_cons, ne_eq, not_false_eq_true, not_true_eq_false, false_and, and_false, false_implies, true_implies, reduceIte, mmU_rd, implies_true, or_false, false_or, or_true, true_or]
  refine ⟨by omega, ?_⟩
  have := key (I 11 0 69).toNat 0 (by omega)
  unfold dlS at this
  have e1 : mmUr (mmUr (mmU (mmU I 11 0 2 0) 11 0 68 (I 11 0 68 - 1)) 1277 0 (I 1277 0)) 1278 0 (I 1278 0) = mmU (mmU I 11 0 2 0) 11 0 68 (I 11 0 68 - 1) := by
    rw [show I 1277 0 = (mmU (mmU I 11 0 2 0) 11 0 68 (I 11 0 68 - 1)) 1277 0 from rfl, mmUr_self, show I 1278 0 = (mmU (mmU I 11 0 2 0) 11 0 68 (I 11 0 68 - 1)) 1278 0 from rfl, mmUr_self]
  rw [e1] at this
  exact this
theorem sp_daysUsed {w : Int} (hL : LW (Lc I j)) (hQ : Q (some (mv (duD (Lc I j) w (I 3 j 0).toNat))) (I, mmRf a br, X)) : mmC (d + 1) 47 [mo 3 j, mv w] (I, mmRf a br, X) Q := by
  have h16 := hL.1
  simp only [Lc_0] at h16
  have key : ∀ (r n : Nat) (l5 : Option mmV), (n : Int) + r = I 3 j 0 → mmK d 47 Q 6 [some (mo 3 j), some (mv w), some (mv (duD (Lc I j) w n)), some (mv (duF (Lc I j) w n)), some (mv n), l5] [] (I, mmRf a br, X) := by
    intro r
    induction r with
    | zero =>
      intro n l5 hn
      refine mmC_step ?_
      simp only [cd_47, sg_47_0, sg_47_6, sg_47_45, sg_47_54, sg_47_56, sg_47_58, mmK_cut cd_47, q_cons, q_G0, q_GS, q_I1, q_L1, q_A1, q_S0, q_S1, q_SS, q_T0, q_T1, q_TS, q_Kn, q_Ki, q_Kl, q_Kr, q_k0, q_kS, q_rc, q_ps, q_pn, q_iconst, q_istore2, q_istore3, q_istore, q_iload, q_aload0, q_getfieldI, q_icmp_ge, q_getfieldA, q_iaload, q_iload1, q_icmp_ne, q_icmp_eq, q_iload2, q_isub, q_max, q_iadd, q_goto, q_iload3, q_if_eq, q_iinc, q_ireturn0, rf_3_1, rf_3_2, rf_3_3, rf_3_4, rf_3_5, mmKe_401, mmKe_402, mmKe_403, mmKe_404, mmKe_405, mmKo_3, mmLen_401, mmLen_402, mmLen_403, mmLen_404, mmLen_405, mmR32, mmR64, Option.some.injEq, Int.cast_ofNat_Int, and_true, true_and, if_true, if_false, List.length_cons, List.length_nil, Nat.le_refl, Nat.zero_le, Nat.sub_zero, forall_const, reduceCtorEq, Nat.reduceAdd, Nat.reduceSub, Nat.reduceLeDiff, Nat.reduceEqDiff, Int.reduceAdd, Int.reduceNeg, Int.reduceSub, Int.reduceLT, Int.reduceLE, Int.reduceMul, Int.reduceEq, List.drop_zero, List.drop_succ_cons, ne_eq, not_false_eq_true, not_true_eq_false, false_and, and_false, false_implies, true_implies, reduceIte, mmU_rd, implies_true, or_false, false_or, or_true, true_or]
      refine ⟨fun _ => ?_, fun c => by omega⟩
      refine mmC_step ?_
      simp only [cd_47, sg_47_0, sg_47_6, sg_47_45, sg_47_54, sg_47_56, sg_47_58, mmK_cut cd_47, q_cons, q_G0, q_GS, q_I1, q_L1, q_A1, q_S0, q_S1, q_SS, q_T0, q_T1, q_TS, q_Kn, q_Ki, q_Kl, q_Kr, q_k0, q_kS, q_rc, q_ps, q_pn, q_iconst, q_istore2, q_istore3, q_istore, q_iload, q_aload0, q_getfieldI, q_icmp_ge, q_getfieldA, q_iaload, q_iload1, q_icmp_ne, q_icmp_eq, q_iload2, q_isub, q_max, q_iadd, q_goto, q_iload3, q_if_eq, q_iinc, q_ireturn0, rf_3_1, rf_3_2, rf_3_3, rf_3_4, rf_3_5, mmKe_401, mmKe_402, mmKe_403, mmKe_404, mmKe_405, mmKo_3, mmLen_401, mmLen_402, mmLen_403, mmLen_404, mmLen_405, mmR32, mmR64, Option.some.injEq, Int.cast_ofNat_Int, and_true, true_and, if_true, if_false, List.length_cons, List.length_nil, Nat.le_refl, Nat.zero_le, Nat.sub_zero, forall_const, reduceCtorEq, Nat.reduceAdd, Nat.reduceSub, Nat.reduceLeDiff, Nat.reduceEqDiff, Int.reduceAdd, Int.reduceNeg, Int.reduceSub, Int.reduceLT, Int.reduceLE, Int.reduceMul, Int.reduceEq, List.drop_zero, List.drop_succ_cons, ne_eq, not_false_eq_true, not_true_eq_false, false_and, and_false, false_implies, true_implies, reduceIte, mmU_rd, implies_true, or_false, false_or, or_true, true_or]
      have e : (I 3 j 0).toNat = n := by omega
      rw [e] at hQ
      exact hQ
    | succ r ih =>
      intro n l5 hn
      have hd := duD_le (who := w) hL n (by simp only [Lc_0]; omega)
      have hw := hL.2.2.2.1 n (by omega) (by simp only [Lc_0]; omega)
      simp only [LWl, Lc_1, Lc_2, Lc_3, Lc_4, Lc_5, Lc_6, Lc_7] at hw
      have ih := fun l5 => ih (n + 1) l5 (by omega)
      have j56 : ∀ (x y : Int) (l5 : Option mmV), x = duD (Lc I j) w (n + 1) → y = duF (Lc I j) w (n + 1) → mmK d 47 Q 56 [some (mo 3 j), some (mv w), some (mv x), some (mv y), some (mv n), l5] [] (I, mmRf a br, X) := by
        intro x y l5 hx hy
        subst hx; subst hy
        refine mmC_step ?_
        simp only [cd_47, sg_47_0, sg_47_6, sg_47_45, sg_47_54, sg_47_56, sg_47_58, mmK_cut cd_47, q_cons, q_G0, q_GS, q_I1, q_L1, q_A1, q_S0, q_S1, q_SS, q_T0, q_T1, q_TS, q_Kn, q_Ki, q_Kl, q_Kr, q_k0, q_kS, q_rc, q_ps, q_pn, q_iconst, q_istore2, q_istore3, q_istore, q_iload, q_aload0, q_getfieldI, q_icmp_ge, q_getfieldA, q_iaload, q_iload1, q_icmp_ne, q_icmp_eq, q_iload2, q_isub, q_max, q_iadd, q_goto, q_iload3, q_if_eq, q_iinc, q_ireturn0, rf_3_1, rf_3_2, rf_3_3, rf_3_4, rf_3_5, mmKe_401, mmKe_402, mmKe_403, mmKe_404, mmKe_405, mmKo_3, mmLen_401, mmLen_402, mmLen_403, mmLen_404, mmLen_405, mmR32, mmR64, Option.some.injEq, Int.cast_ofNat_Int, and_true, true_and, if_true, if_false, List.length_cons, List.length_nil, Nat.le_refl, Nat.zero_le, Nat.sub_zero, forall_const, reduceCtorEq, Nat.reduceAdd, Nat.reduceSub, Nat.reduceLeDiff, Nat.reduceEqDiff, Int.reduceAdd, Int.reduceNeg, Int.reduceSub, Int.reduceLT, Int.reduceLE, Int.reduceMul, Int.reduceEq, List.drop_zero, List.drop_succ_cons, ne_eq, not_false_eq_true, not_true_eq_false, false_and, and_false, false_implies, true_implies, reduceIte, mmU_rd, implies_true, or_false, false_or, or_true, true_or]
        exact ⟨by omega, ih l5⟩
      have eD : duD (Lc I j) w (n + 1) = duD (Lc I j) w n + (if I 401 j n = w ∧ I 405 j n = -1 then (if I 404 j n = -1 then (if duF (Lc I j) w n = 0 then 0 else I 402 j n) else (if I 402 j n - I 403 j (I 404 j n) < 0 then 0 else I 402 j n - I 403 j (I 404 j n))) else 0) := rfl
      have eF : duF (Lc I j) w (n + 1) = if I 401 j n = w ∧ I 405 j n = -1 then 0 else duF (Lc I j) w n := rfl
      refine mmC_step ?_
      simp only [cd_47, sg_47_0, sg_47_6, sg_47_45, sg_47_54, sg_47_56, sg_47_58, mmK_cut cd_47, q_cons, q_G0, q_GS, q_I1, q_L1, q_A1, q_S0, q_S1, q_SS, q_T0, q_T1, q_TS, q_Kn, q_Ki, q_Kl, q_Kr, q_k0, q_kS, q_rc, q_ps, q_pn, q_iconst, q_istore2, q_istore3, q_istore, q_iload, q_aload0, q_getfieldI, q_icmp_ge, q_getfieldA, q_iaload, q_iload1, q_icmp_ne, q_icmp_eq, q_iload2, q_isub, q_max, q_iadd, q_goto, q_iload3, q_if_eq, q_iinc, q_ireturn0, rf_3_1, rf_3_2, rf_3_3, rf_3_4, rf_3_5, mmKe_401, mmKe_402, mmKe_403, mmKe_404, mmKe_405, mmKo_3, mmLen_401, mmLen_402, mmLen_403, mmLen_404, mmLen_405, mmR32, mmR64, Option.some.injEq, Int.cast_ofNat_Int, and_true, true_and, if_true, if_false, List.length_cons, List.length_nil, Nat.le_refl, Nat.zero_le, Nat.sub_zero, forall_const, reduceCtorEq, Nat.reduceAdd, Nat.reduceSub, Nat.reduceLeDiff, Nat.reduceEqDiff, Int.reduceAdd, Int.reduceNeg, Int.reduceSub, Int.reduceLT, Int.reduceLE, Int.reduceMul, Int.reduceEq, List.drop_zero, List.drop_succ_cons, ne_eq, not_false_eq_true, not_true_eq_false, false_and, and_false, false_implies, true_implies, reduceIte, mmU_rd, implies_true, or_false, false_or, or_true, true_or]
      refine ⟨fun c => by omega, fun _ => ⟨by omega, by omega, fun c => ?_, fun c => ?_⟩⟩
      · exact j56 _ _ _ (by rw [eD, if_neg (by omega)]; omega) (by rw [eF, if_neg (by omega)])
      · refine ⟨by omega, by omega, fun c2 => ?_, fun c2 => ⟨by omega, by omega, fun c3 => ?_, fun c3 => ?_⟩⟩
        · exact j56 _ _ _ (by rw [eD, if_neg (by omega)]; omega) (by rw [eF, if_neg (by omega)])
        · rw [if_pos ⟨c, c2⟩, if_pos c3] at eD
          rw [if_pos ⟨c, c2⟩] at eF
          refine mmC_step ?_
          simp only [cd_47, sg_47_0, sg_47_6, sg_47_45, sg_47_54, sg_47_56, sg_47_58, mmK_cut cd_47, q_cons, q_G0, q_GS, q_I1, q_L1, q_A1, q_S0, q_S1, q_SS, q_T0, q_T1, q_TS, q_Kn, q_Ki, q_Kl, q_Kr, q_k0, q_kS, q_rc, q_ps, q_pn, q_iconst, q_istore2, q_istore3, q_istore, q_iload, q_aload0, q_getfieldI, q_icmp_ge, q_getfieldA, q_iaload, q_iload1, q_icmp_ne, q_icmp_eq, q_iload2, q_isub, q_max, q_iadd, q_goto, q_iload3, q_if_eq, q_iinc, q_ireturn0, rf_3_1, rf_3_2, rf_3_3, rf_3_4, rf_3_5, mmKe_401, mmKe_402, mmKe_403, mmKe_404, mmKe_405, mmKo_3, mmLen_401, mmLen_402, mmLen_403, mmLen_404, mmLen_405, mmR32, mmR64, Option.some.injEq, Int.cast_ofNat_Int, and_true, true_and, if_true, if_false, List.length_cons, List.length_nil, Nat.le_refl, Nat.zero_le, Nat.sub_zero, forall_const, reduceCtorEq, Nat.reduceAdd, Nat.reduceSub, Nat.reduceLeDiff, Nat.reduceEqDiff, Int.reduceAdd, Int.reduceNeg, Int.reduceSub, Int.reduceLT, Int.reduceLE, Int.reduceMul, Int.reduceEq, List.drop_zero, List.drop_succ_cons, ne_eq, not_false_eq_true, not_true_eq_false, false_and, and_false, false_implies, true_implies, reduceIte, mmU_rd, implies_true, or_false, false_or, or_true, true_or]
          refine ⟨fun c4 => ?_, fun c4 => ?_⟩
          · refine mmC_step ?_
            simp only [cd_47, sg_47_0, sg_47_6, sg_47_45, sg_47_54, sg_47_56, sg_47_58, mmK_cut cd_47, q_cons, q_G0, q_GS, q_I1, q_L1, q_A1, q_S0, q_S1, q_SS, q_T0, q_T1, q_TS, q_Kn, q_Ki, q_Kl, q_Kr, q_k0, q_kS, q_rc, q_ps, q_pn, q_iconst, q_istore2, q_istore3, q_istore, q_iload, q_aload0, q_getfieldI, q_icmp_ge, q_getfieldA, q_iaload, q_iload1, q_icmp_ne, q_icmp_eq, q_iload2, q_isub, q_max, q_iadd, q_goto, q_iload3, q_if_eq, q_iinc, q_ireturn0, rf_3_1, rf_3_2, rf_3_3, rf_3_4, rf_3_5, mmKe_401, mmKe_402, mmKe_403, mmKe_404, mmKe_405, mmKo_3, mmLen_401, mmLen_402, mmLen_403, mmLen_404, mmLen_405, mmR32, mmR64, Option.some.injEq, Int.cast_ofNat_Int, and_true, true_and, if_true, if_false, List.length_cons, List.length_nil, Nat.le_refl, Nat.zero_le, Nat.sub_zero, forall_const, reduceCtorEq, Nat.reduceAdd, Nat.reduceSub, Nat.reduceLeDiff, Nat.reduceEqDiff, Int.reduceAdd, Int.reduceNeg, Int.reduceSub, Int.reduceLT, Int.reduceLE, Int.reduceMul, Int.reduceEq, List.drop_zero, List.drop_succ_cons, ne_eq, not_false_eq_true, not_true_eq_false, false_and, and_false, false_implies, true_implies, reduceIte, mmU_rd, implies_true, or_false, false_or, or_true, true_or]
            rw [if_pos c4] at eD
            exact j56 _ _ _ (by omega) (by omega)
          · refine ⟨by omega, by omega, by omega, ?_⟩
            refine mmC_step ?_
            simp only [cd_47, sg_47_0, sg_47_6, sg_47_45, sg_47_54, sg_47_56, sg_47_58, mmK_cut cd_47, q_cons, q_G0, q_GS, q_I1, q_L1, q_A1, q_S0, q_S1, q_SS, q_T0, q_T1, q_TS, q_Kn, q_Ki, q_Kl, q_Kr, q_k0, q_kS, q_rc, q_ps, q_pn, q_iconst, q_istore2, q_istore3, q_istore, q_iload, q_aload0, q_getfieldI, q_icmp_ge, q_getfieldA, q_iaload, q_iload1, q_icmp_ne, q_icmp_eq, q_iload2, q_isub, q_max, q_iadd, q_goto, q_iload3, q_if_eq, q_iinc, q_ireturn0, rf_3_1, rf_3_2, rf_3_3, rf_3_4, rf_3_5, mmKe_401, mmKe_402, mmKe_403, mmKe_404, mmKe_405, mmKo_3, mmLen_401, mmLen_402, mmLen_403, mmLen_404, mmLen_405, mmR32, mmR64, Option.some.injEq, Int.cast_ofNat_Int, and_true, true_and, if_true, if_false, List.length_cons, List.length_nil, Nat.le_refl, Nat.zero_le, Nat.sub_zero, forall_const, reduceCtorEq, Nat.reduceAdd, Nat.reduceSub, Nat.reduceLeDiff, Nat.reduceEqDiff, Int.reduceAdd, Int.reduceNeg, Int.reduceSub, Int.reduceLT, Int.reduceLE, Int.reduceMul, Int.reduceEq, List.drop_zero, List.drop_succ_cons, ne_eq, not_false_eq_true, not_true_eq_false, false_and, and_false, false_implies, true_implies, reduceIte, mmU_rd, implies_true, or_false, false_or, or_true, true_or]
            rw [if_neg c4] at eD
            exact j56 _ _ _ (by omega) (by omega)
        · have hw2 := hL.2.2.2.1 (I 404 j n) (by omega) (by simp only [Lc_0]; omega)
          simp only [LWl, Lc_1, Lc_2, Lc_3, Lc_4, Lc_5, Lc_6, Lc_7] at hw2
          rw [if_pos ⟨c, c2⟩, if_neg c3] at eD
          rw [if_pos ⟨c, c2⟩] at eF
          refine ⟨by omega, by omega, by omega, by omega, by omega, ?_⟩
          by_cases c4 : I 402 j n - I 403 j (I 404 j n) < 0
          · rw [if_pos c4] at eD
            rw [if_neg (show ¬ (0 < I 402 j n - I 403 j (I 404 j n)) by omega)]
            refine ⟨by omega, ?_⟩
            refine mmC_step ?_
            simp only [cd_47, sg_47_0, sg_47_6, sg_47_45, sg_47_54, sg_47_56, sg_47_58, mmK_cut cd_47, q_cons, q_G0, q_GS, q_I1, q_L1, q_A1, q_S0, q_S1, q_SS, q_T0, q_T1, q_TS, q_Kn, q_Ki, q_Kl, q_Kr, q_k0, q_kS, q_rc, q_ps, q_pn, q_iconst, q_istore2, q_istore3, q_istore, q_iload, q_aload0, q_getfieldI, q_icmp_ge, q_getfieldA, q_iaload, q_iload1, q_icmp_ne, q_icmp_eq, q_iload2, q_isub, q_max, q_iadd, q_goto, q_iload3, q_if_eq, q_iinc, q_ireturn0, rf_3_1, rf_3_2, rf_3_3, rf_3_4, rf_3_5, mmKe_401, mmKe_402, mmKe_403, mmKe_404, mmKe_405, mmKo_3, mmLen_401, mmLen_402, mmLen_403, mmLen_404, mmLen_405, mmR32, mmR64, Option.some.injEq, Int.cast_ofNat_Int, and_true, true_and, if_true, if_false, List.length_cons, List.length_nil, Nat.le_refl, Nat.zero_le, Nat.sub_zero, forall_const, reduceCtorEq, Nat.reduceAdd, Nat.reduceSub, Nat.reduceLeDiff, Nat.reduceEqDiff, Int.reduceAdd, Int.reduceNeg, Int.reduceSub, Int.reduceLT, Int.reduceLE, Int.reduceMul, Int.reduceEq, List.drop_zero, List.drop_succ_cons, ne_eq, not_false_eq_true, not_true_eq_false, false_and, and_false, false_implies, true_implies, reduceIte, mmU_rd, implies_true, or_false, false_or, or_true, true_or]
            exact j56 _ _ _ (by omega) (by omega)
          · rw [if_neg c4] at eD
            have e3 : (if 0 < I 402 j n - I 403 j (I 404 j n) then I 402 j n - I 403 j (I 404 j n) else 0) = I 402 j n - I 403 j (I 404 j n) := by
              split <;> omega
            rw [e3]
            refine ⟨by omega, ?_⟩
            refine mmC_step ?_
            simp only [cd_47, sg_47_0, sg_47_6, sg_47_45, sg_47_54, sg_47_56, sg_47_58, mmK_cut cd_47, q_cons, q_G0, q_GS, q_I1, q_L1, q_A1, q_S0, q_S1, q_SS, q_T0, q_T1, q_TS, q_Kn, q_Ki, q_Kl, q_Kr, q_k0, q_kS, q_rc, q_ps, q_pn, q_iconst, q_istore2, q_istore3, q_istore, q_iload, q_aload0, q_getfieldI, q_icmp_ge, q_getfieldA, q_iaload, q_iload1, q_icmp_ne, q_icmp_eq, q_iload2, q_isub, q_max, q_iadd, q_goto, q_iload3, q_if_eq, q_iinc, q_ireturn0, rf_3_1, rf_3_2, rf_3_3, rf_3_4, rf_3_5, mmKe_401, mmKe_402, mmKe_403, mmKe_404, mmKe_405, mmKo_3, mmLen_401, mmLen_402, mmLen_403, mmLen_404, mmLen_405, mmR32, mmR64, Option.some.injEq, Int.cast_ofNat_Int, and_true, true_and, if_true, if_false, List.length_cons, List.length_nil, Nat.le_refl, Nat.zero_le, Nat.sub_zero, forall_const, reduceCtorEq, Nat.reduceAdd, Nat.reduceSub, Nat.reduceLeDiff, Nat.reduceEqDiff, Int.reduceAdd, Int.reduceNeg, Int.reduceSub, Int.reduceLT, Int.reduceLE, Int.reduceMul, Int.reduceEq, List.drop_zero, List.drop_succ_cons, ne_eq, not_false_eq_true, not_true_eq_false, false_and, and_false, false_implies, true_implies, reduceIte, mmU_rd, implies_true, or_false, false_or, or_true, true_or]
            exact j56 _ _ _ (by omega) (by omega)
  refine mmC_in (by decide) (Nat.le_of_ble_eq_true rfl) (mmC_step ?_)
  simp only [show mmMl 47 = 6 from rfl, mmLs, List.replicate, cd_47, sg_47_0, sg_47_6, sg_47_45, sg_47_54, sg_47_56, sg_47_58, mmK_cut cd_47, q_cons, q_G0, q_GS, q_I1, q_L1, q_A1, q_S0, q_S1, q_SS, q_T0, q_T1, q_TS, q_Kn, q_Ki, q_Kl, q_Kr, q_k0, q_kS, q_rc, q_ps, q_pn, q_iconst, q_istore2, q_istore3, q_istore, q_iload, q_aload0, q_getfieldI, q_icmp_ge, q_getfieldA, q_iaload, q_iload1, q_icmp_ne, q_icmp_eq, q_iload2, q_isub, q_max, q_iadd, q_goto, q_iload3, q_if_eq, q_iinc, q_ireturn0, rf_3_1, rf_3_2, rf_3_3, rf_3_4, rf_3_5, mmKe_401, mmKe_402, mmKe_403, mmKe_404, mmKe_405, mmKo_3, mmLen_401, mmLen_402, mmLen_403, mmLen_404, mmLen_405, mmR32, mmR64, Option.some.injEq, Int.cast_ofNat_Int, and_true, true_and, if_true, if_false, List.length_cons, List.length_nil, Nat.le_refl, Nat.zero_le, Nat.sub_zero, forall_const, reduceCtorEq, Nat.reduceAdd, Nat.reduceSub, Nat.reduceLeDiff, Nat.reduceEqDiff, Int.reduceAdd, Int.reduceNeg, Int.reduceSub, Int.reduceLT, Int.reduceLE, Int.reduceMul, Int.reduceEq, List.drop_zero, List.drop_succ_cons, ne_eq, not_false_eq_true, not_true_eq_false, false_and, and_false, false_implies, true_implies, reduceIte, mmU_rd, implies_true, or_false, false_or, or_true, true_or]
  exact key (I 3 j 0).toNat 0 none (by omega)
theorem sp_clock {p w : Int} (hL : LW (Lc I 0)) (hN : ¬ ((p = 0 ∨ p = 1) ∧ (w = 0 ∨ w = 1)) → Q (some (mv (-1))) (I, mmRf a br, X)) (hY : (p = 0 ∨ p = 1) → (w = 0 ∨ w = 1) → Q (some (mv (if w = 0 then duD (Lc I 0) p (I 3 0 0).toNat else bI (I 6 a 6 < duD (Lc I 0) p (I 3 0 0).toNat)))) (I, mmRf a br, X)) : mmC (d + 3) 126 [mo 10 0, mv p, mv w] (I, mmRf a br, X) Q := by
  have hn : ¬ ((p = 0 ∨ p = 1) ∧ (w = 0 ∨ w = 1)) → mmK (d + 2) 126 Q 6 [some (mo 10 0), some (mv p), some (mv w), none] [] (I, mmRf a br, X) := by
    intro h
    refine mmC_step ?_
    simp only [cd_126, sg_126_0, sg_126_6, sg_126_8, sg_126_17, sg_126_24, sg_126_25, mmK_cut cd_126, q_cons, q_G0, q_GS, q_I1, q_L1, q_A1, q_S0, q_S1, q_SS, q_T0, q_T1, q_TS, q_Kn, q_Ki, q_Kl, q_Kr, q_k0, q_kS, q_rc, q_ps, q_pn, q_iload1, q_invS, q_if_eq, q_iload2, q_if_ne, q_iconst, q_ireturn0, q_aload0, q_getfieldA, q_invV, q_istore3, q_iload3, q_getfieldI, q_icmp_le, q_goto, rf_10_2, rf_10_4, mmKo_10, mmKo_3, mmKo_6, mmR32, mmR64, Option.some.injEq, Int.cast_ofNat_Int, and_true, true_and, if_true, if_false, List.length_cons, List.length_nil, Nat.le_refl, Nat.zero_le, Nat.sub_zero, forall_const, reduceCtorEq, Nat.reduceAdd, Nat.reduceSub, Nat.reduceLeDiff, Nat.reduceEqDiff, Int.reduceAdd, Int.reduceNeg, Int.reduceSub, Int.reduceLT, Int.reduceLE, Int.reduceMul, Int.reduceEq, List.drop_zero, List.drop_succ_cons, ne_eq, not_false_eq_true, not_true_eq_false, false_and, and_false, false_implies, true_implies, reduceIte, mmU_rd, implies_true, or_false, false_or, or_true, true_or]
    exact hN h
  refine mmC_in (by decide) (Nat.le_of_ble_eq_true rfl) (mmC_step ?_)
  simp only [show mmMl 126 = 4 from rfl, mmLs, List.replicate, cd_126, sg_126_0, sg_126_6, sg_126_8, sg_126_17, sg_126_24, sg_126_25, mmK_cut cd_126, q_cons, q_G0, q_GS, q_I1, q_L1, q_A1, q_S0, q_S1, q_SS, q_T0, q_T1, q_TS, q_Kn, q_Ki, q_Kl, q_Kr, q_k0, q_kS, q_rc, q_ps, q_pn, q_iload1, q_invS, q_if_eq, q_iload2, q_if_ne, q_iconst, q_ireturn0, q_aload0, q_getfieldA, q_invV, q_istore3, q_iload3, q_getfieldI, q_icmp_le, q_goto, rf_10_2, rf_10_4, mmKo_10, mmKo_3, mmKo_6, mmR32, mmR64, Option.some.injEq, Int.cast_ofNat_Int, and_true, true_and, if_true, if_false, List.length_cons, List.length_nil, Nat.le_refl, Nat.zero_le, Nat.sub_zero, forall_const, reduceCtorEq, Nat.reduceAdd, Nat.reduceSub, Nat.reduceLeDiff, Nat.reduceEqDiff, Int.reduceAdd, Int.reduceNeg, Int.reduceSub, Int.reduceLT, Int.reduceLE, Int.reduceMul, Int.reduceEq, List.drop_zero, List.drop_succ_cons, ne_eq, not_false_eq_true, not_true_eq_false, false_and, and_false, false_implies, true_implies, reduceIte, mmU_rd, implies_true, or_false, false_or, or_true, true_or]
  refine sp_isPlayer ?_
  simp only [mmK_cut cd_126, q_cons, q_G0, q_GS, q_I1, q_L1, q_A1, q_S0, q_S1, q_SS, q_T0, q_T1, q_TS, q_Kn, q_Ki, q_Kl, q_Kr, q_k0, q_kS, q_rc, q_ps, q_pn, q_iload1, q_invS, q_if_eq, q_iload2, q_if_ne, q_iconst, q_ireturn0, q_aload0, q_getfieldA, q_invV, q_istore3, q_iload3, q_getfieldI, q_icmp_le, q_goto, rf_10_2, rf_10_4, mmKo_10, mmKo_3, mmKo_6, mmR32, mmR64, Option.some.injEq, Int.cast_ofNat_Int, and_true, true_and, if_true, if_false, List.length_cons, List.length_nil, Nat.le_refl, Nat.zero_le, Nat.sub_zero, forall_const, reduceCtorEq, Nat.reduceAdd, Nat.reduceSub, Nat.reduceLeDiff, Nat.reduceEqDiff, Int.reduceAdd, Int.reduceNeg, Int.reduceSub, Int.reduceLT, Int.reduceLE, Int.reduceMul, Int.reduceEq, List.drop_zero, List.drop_succ_cons, ne_eq, not_false_eq_true, not_true_eq_false, false_and, and_false, false_implies, true_implies, reduceIte, mmU_rd, implies_true, or_false, false_or, or_true, true_or, bI_eq0]
  refine ⟨fun h1 => hn (by omega), fun h1 => ?_⟩
  refine sp_isBit ?_
  simp only [mmK_cut cd_126, q_cons, q_G0, q_GS, q_I1, q_L1, q_A1, q_S0, q_S1, q_SS, q_T0, q_T1, q_TS, q_Kn, q_Ki, q_Kl, q_Kr, q_k0, q_kS, q_rc, q_ps, q_pn, q_iload1, q_invS, q_if_eq, q_iload2, q_if_ne, q_iconst, q_ireturn0, q_aload0, q_getfieldA, q_invV, q_istore3, q_iload3, q_getfieldI, q_icmp_le, q_goto, rf_10_2, rf_10_4, mmKo_10, mmKo_3, mmKo_6, mmR32, mmR64, Option.some.injEq, Int.cast_ofNat_Int, and_true, true_and, if_true, if_false, List.length_cons, List.length_nil, Nat.le_refl, Nat.zero_le, Nat.sub_zero, forall_const, reduceCtorEq, Nat.reduceAdd, Nat.reduceSub, Nat.reduceLeDiff, Nat.reduceEqDiff, Int.reduceAdd, Int.reduceNeg, Int.reduceSub, Int.reduceLT, Int.reduceLE, Int.reduceMul, Int.reduceEq, List.drop_zero, List.drop_succ_cons, ne_eq, not_false_eq_true, not_true_eq_false, false_and, and_false, false_implies, true_implies, reduceIte, mmU_rd, implies_true, or_false, false_or, or_true, true_or, bI_eq0]
  refine ⟨fun h2 => ?_, fun h2 => hn (by omega)⟩
  have hQ := hY (by omega) (by omega)
  refine mmC_step ?_
  simp only [cd_126, sg_126_0, sg_126_6, sg_126_8, sg_126_17, sg_126_24, sg_126_25, mmK_cut cd_126, q_cons, q_G0, q_GS, q_I1, q_L1, q_A1, q_S0, q_S1, q_SS, q_T0, q_T1, q_TS, q_Kn, q_Ki, q_Kl, q_Kr, q_k0, q_kS, q_rc, q_ps, q_pn, q_iload1, q_invS, q_if_eq, q_iload2, q_if_ne, q_iconst, q_ireturn0, q_aload0, q_getfieldA, q_invV, q_istore3, q_iload3, q_getfieldI, q_icmp_le, q_goto, rf_10_2, rf_10_4, mmKo_10, mmKo_3, mmKo_6, mmR32, mmR64, Option.some.injEq, Int.cast_ofNat_Int, and_true, true_and, if_true, if_false, List.length_cons, List.length_nil, Nat.le_refl, Nat.zero_le, Nat.sub_zero, forall_const, reduceCtorEq, Nat.reduceAdd, Nat.reduceSub, Nat.reduceLeDiff, Nat.reduceEqDiff, Int.reduceAdd, Int.reduceNeg, Int.reduceSub, Int.reduceLT, Int.reduceLE, Int.reduceMul, Int.reduceEq, List.drop_zero, List.drop_succ_cons, ne_eq, not_false_eq_true, not_true_eq_false, false_and, and_false, false_implies, true_implies, reduceIte, mmU_rd, implies_true, or_false, false_or, or_true, true_or]
  refine sp_daysUsed hL ?_
  simp only [mmK_cut cd_126, q_cons, q_G0, q_GS, q_I1, q_L1, q_A1, q_S0, q_S1, q_SS, q_T0, q_T1, q_TS, q_Kn, q_Ki, q_Kl, q_Kr, q_k0, q_kS, q_rc, q_ps, q_pn, q_iload1, q_invS, q_if_eq, q_iload2, q_if_ne, q_iconst, q_ireturn0, q_aload0, q_getfieldA, q_invV, q_istore3, q_iload3, q_getfieldI, q_icmp_le, q_goto, rf_10_2, rf_10_4, mmKo_10, mmKo_3, mmKo_6, mmR32, mmR64, Option.some.injEq, Int.cast_ofNat_Int, and_true, true_and, if_true, if_false, List.length_cons, List.length_nil, Nat.le_refl, Nat.zero_le, Nat.sub_zero, forall_const, reduceCtorEq, Nat.reduceAdd, Nat.reduceSub, Nat.reduceLeDiff, Nat.reduceEqDiff, Int.reduceAdd, Int.reduceNeg, Int.reduceSub, Int.reduceLT, Int.reduceLE, Int.reduceMul, Int.reduceEq, List.drop_zero, List.drop_succ_cons, ne_eq, not_false_eq_true, not_true_eq_false, false_and, and_false, false_implies, true_implies, reduceIte, mmU_rd, implies_true, or_false, false_or, or_true, true_or]
  refine ⟨fun h3 => ?_, fun h3 => ?_⟩
  · rw [if_neg h3] at hQ
    refine mmC_step ?_
    simp only [cd_126, sg_126_0, sg_126_6, sg_126_8, sg_126_17, sg_126_24, sg_126_25, mmK_cut cd_126, q_cons, q_G0, q_GS, q_I1, q_L1, q_A1, q_S0, q_S1, q_SS, q_T0, q_T1, q_TS, q_Kn, q_Ki, q_Kl, q_Kr, q_k0, q_kS, q_rc, q_ps, q_pn, q_iload1, q_invS, q_if_eq, q_iload2, q_if_ne, q_iconst, q_ireturn0, q_aload0, q_getfieldA, q_invV, q_istore3, q_iload3, q_getfieldI, q_icmp_le, q_goto, rf_10_2, rf_10_4, mmKo_10, mmKo_3, mmKo_6, mmR32, mmR64, Option.some.injEq, Int.cast_ofNat_Int, and_true, true_and, if_true, if_false, List.length_cons, List.length_nil, Nat.le_refl, Nat.zero_le, Nat.sub_zero, forall_const, reduceCtorEq, Nat.reduceAdd, Nat.reduceSub, Nat.reduceLeDiff, Nat.reduceEqDiff, Int.reduceAdd, Int.reduceNeg, Int.reduceSub, Int.reduceLT, Int.reduceLE, Int.reduceMul, Int.reduceEq, List.drop_zero, List.drop_succ_cons, ne_eq, not_false_eq_true, not_true_eq_false, false_and, and_false, false_implies, true_implies, reduceIte, mmU_rd, implies_true, or_false, false_or, or_true, true_or]
    refine ⟨fun h4 => ?_, fun h4 => ?_⟩
    · refine mmC_step ?_
      simp only [cd_126, sg_126_0, sg_126_6, sg_126_8, sg_126_17, sg_126_24, sg_126_25, mmK_cut cd_126, q_cons, q_G0, q_GS, q_I1, q_L1, q_A1, q_S0, q_S1, q_SS, q_T0, q_T1, q_TS, q_Kn, q_Ki, q_Kl, q_Kr, q_k0, q_kS, q_rc, q_ps, q_pn, q_iload1, q_invS, q_if_eq, q_iload2, q_if_ne, q_iconst, q_ireturn0, q_aload0, q_getfieldA, q_invV, q_istore3, q_iload3, q_getfieldI, q_icmp_le, q_goto, rf_10_2, rf_10_4, mmKo_10, mmKo_3, mmKo_6, mmR32, mmR64, Option.some.injEq, Int.cast_ofNat_Int, and_true, true_and, if_true, if_false, List.length_cons, List.length_nil, Nat.le_refl, Nat.zero_le, Nat.sub_zero, forall_const, reduceCtorEq, Nat.reduceAdd, Nat.reduceSub, Nat.reduceLeDiff, Nat.reduceEqDiff, Int.reduceAdd, Int.reduceNeg, Int.reduceSub, Int.reduceLT, Int.reduceLE, Int.reduceMul, Int.reduceEq, List.drop_zero, List.drop_succ_cons, ne_eq, not_false_eq_true, not_true_eq_false, false_and, and_false, false_implies, true_implies, reduceIte, mmU_rd, implies_true, or_false, false_or, or_true, true_or]
      refine mmC_step ?_
      simp only [cd_126, sg_126_0, sg_126_6, sg_126_8, sg_126_17, sg_126_24, sg_126_25, mmK_cut cd_126, q_cons, q_G0, q_GS, q_I1, q_L1, q_A1, q_S0, q_S1, q_SS, q_T0, q_T1, q_TS, q_Kn, q_Ki, q_Kl, q_Kr, q_k0, q_kS, q_rc, q_ps, q_pn, q_iload1, q_invS, q_if_eq, q_iload2, q_if_ne, q_iconst, q_ireturn0, q_aload0, q_getfieldA, q_invV, q_istore3, q_iload3, q_getfieldI, q_icmp_le, q_goto, rf_10_2, rf_10_4, mmKo_10, mmKo_3, mmKo_6, mmR32, mmR64, Option.some.injEq, Int.cast_ofNat_Int, and_true, true_and, if_true, if_false, List.length_cons, List.length_nil, Nat.le_refl, Nat.zero_le, Nat.sub_zero, forall_const, reduceCtorEq, Nat.reduceAdd, Nat.reduceSub, Nat.reduceLeDiff, Nat.reduceEqDiff, Int.reduceAdd, Int.reduceNeg, Int.reduceSub, Int.reduceLT, Int.reduceLE, Int.reduceMul, Int.reduceEq, List.drop_zero, List.drop_succ_cons, ne_eq, not_false_eq_true, not_true_eq_false, false_and, and_false, false_implies, true_implies, reduceIte, mmU_rd, implies_true, or_false, false_or, or_true, true_or]
      exact q_b0 hQ (by omega)
    · refine mmC_step ?_
      simp only [cd_126, sg_126_0, sg_126_6, sg_126_8, sg_126_17, sg_126_24, sg_126_25, mmK_cut cd_126, q_cons, q_G0, q_GS, q_I1, q_L1, q_A1, q_S0, q_S1, q_SS, q_T0, q_T1, q_TS, q_Kn, q_Ki, q_Kl, q_Kr, q_k0, q_kS, q_rc, q_ps, q_pn, q_iload1, q_invS, q_if_eq, q_iload2, q_if_ne, q_iconst, q_ireturn0, q_aload0, q_getfieldA, q_invV, q_istore3, q_iload3, q_getfieldI, q_icmp_le, q_goto, rf_10_2, rf_10_4, mmKo_10, mmKo_3, mmKo_6, mmR32, mmR64, Option.some.injEq, Int.cast_ofNat_Int, and_true, true_and, if_true, if_false, List.length_cons, List.length_nil, Nat.le_refl, Nat.zero_le, Nat.sub_zero, forall_const, reduceCtorEq, Nat.reduceAdd, Nat.reduceSub, Nat.reduceLeDiff, Nat.reduceEqDiff, Int.reduceAdd, Int.reduceNeg, Int.reduceSub, Int.reduceLT, Int.reduceLE, Int.reduceMul, Int.reduceEq, List.drop_zero, List.drop_succ_cons, ne_eq, not_false_eq_true, not_true_eq_false, false_and, and_false, false_implies, true_implies, reduceIte, mmU_rd, implies_true, or_false, false_or, or_true, true_or]
      exact q_b1 hQ (by omega)
  · rw [if_pos h3] at hQ
    exact hQ
end S38
