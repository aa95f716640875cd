def FrH (b : Int) (I I' : mMm) : Prop := ∀ t i k, ¬ (t = 1259 ∧ 25 * b ≤ k ∧ k < 25 * b + 25) → I' t i k = I t i k
theorem cK_0 {r : mRu} {B : mBd} {w : Int} : ∀ n : Nat, cK r B w n = 0 ↔ ∀ z : Nat, z < n → ¬ (B z / 4 = w ∧ ¬ r 710 (B z % 4) = 0)
  | 0 => ⟨fun _ z hz => by omega, fun _ => rfl⟩
  | n + 1 => by
    have ih := cK_0 (r := r) (B := B) (w := w) n
    have hn := cK_in (r := r) (B := B) (w := w) n
    have e : cK r B w (n + 1) = cK r B w n + oK r (B n) w := rfl
    have ho := oK_in (r := r) (v := B n) (w := w)
    rw [e]
    constructor
    · intro h z hz
      by_cases c : z = n
      · subst c
        intro q
        have : oK r (B z) w = 1 := if_pos q
        omega
      · exact ih.mp (by omega) z (by omega)
    · intro h
      rw [ih.mpr (fun z hz => h z (by omega))]
      have : oK r (B n) w = 0 := if_neg (h n (by omega))
      omega
section S819
variable {d a : Nat} {I I' I'' : mMm} {br : Nat → Option mmO} {R : Nat → Nat → Int → Option mmO} {X : mmX} {B : mBd} {m fr b : Int} {r : mRu} {Q : Option mmV → mmM → Prop}
theorem FrH_trans (h : FrH b I I') (h' : FrH b I' I'') : FrH b I I'' := fun t i k c => (h' t i k c).trans (h t i k c)
theorem FrH_U {i : Nat} {k v : Int} (h : 25 * b ≤ k ∧ k < 25 * b + 25) : FrH b I (mmU I 1259 i k v) := by
  intro t' i' k' c
  unfold mmU
  rw [if_neg]
  rintro ⟨rfl, rfl, rfl⟩
  exact c ⟨rfl, h⟩
set_option maxHeartbeats 1000000 in
theorem m_layBehind {b' f t v : Int} (hv : v = f * 64 + t) (hM : MB I b B) (hb : 0 ≤ b ∧ b < 72) (hb' : 0 ≤ b' ∧ b' < 72) (hne : ¬ b = b') (hf : 0 ≤ f ∧ f < 25) (ht : 0 ≤ t ∧ t < 25) : mmC (d + 2) 201 [mo 11 0, mv b, mv v, mv b'] (I, mmRf a br, X) (mT a br X fun u I' => u = none ∧ FrH b' I I' ∧ MB I' b' (bdA B f t)) := by
  have e1 : v / 64 = f := by omega
  have e2 : v % 64 = t := by omega
  have hv0 : 0 ≤ v := by omega
  clear hv
  have key : ∀ (q n : Nat) (I1 : mMm), n + q = 25 → FrH b' I I1 → (∀ z : Int, 0 ≤ z → z < n → I1 1259 0 (25 * b' + z) = mB (B z)) → mmK (d + 1) 201 (mT a br X fun u I' => u = none ∧ FrH b' I I' ∧ MB I' b' (bdA B f t)) 2 [some (mo 11 0), some (mv b), some (mv v), some (mv b'), some (mv n)] [] (I1, mmRf a br, X) := by
    intro q
    induction q with
    | zero =>
      intro n I1 hn fr1 g1
      have e : n = 25 := by omega
      subst e
      have ef : I1 1259 0 (25 * b + f) = mB (B f) := (fr1 _ _ _ (by omega)).trans (hM f hf.1 hf.2)
      refine mmC_step ?_
      simp only [cd_201, sg_201_0, sg_201_2, sg_201_21, mmK_cut cd_201, q_cons, q_G0, q_GS, q_I1, q_L1, q_A1, q_S0, q_S1, q_SS, q_T0, q_T1, q_TS, q_Kn, q_Ki, q_Kl, q_Kr, q_k0, q_kS, q_rc, q_ps, q_pn, q_iconst, q_istore, q_iload, q_bipush, q_icmp_ge, q_aload0, q_getfieldA, q_iload3, q_iadd, q_iload1, q_iaload, q_iastore, q_iinc, q_goto, q_iload2, q_irem, q_idiv, q_return, rf_11_59, mmKe_1259, mmKo_11, mmLen_1259, mmR32, mmR64, Option.some.injEq, Int.cast_ofNat_Int, and_true, true_and, if_true, if_false, List.length_cons, List.length_nil, Nat.le_refl, Nat.zero_le, Nat.sub_zero, forall_const, reduceCtorEq, Nat.reduceAdd, Nat.reduceSub, Nat.reduceLeDiff, Nat.reduceEqDiff, Int.reduceAdd, Int.reduceNeg, Int.reduceSub, Int.reduceLT, Int.reduceLE, Int.reduceMul, Int.reduceEq, List.drop_zero, List.drop_succ_cons, ne_eq, not_false_eq_true, not_true_eq_false, false_and, and_false, false_implies, true_implies, reduceIte, mmU_rd, implies_true, or_false, false_or, or_true, true_or]
      refine mmC_step ?_
      simp only [cd_201, sg_201_0, sg_201_2, sg_201_21, mmK_cut cd_201, q_cons, q_G0, q_GS, q_I1, q_L1, q_A1, q_S0, q_S1, q_SS, q_T0, q_T1, q_TS, q_Kn, q_Ki, q_Kl, q_Kr, q_k0, q_kS, q_rc, q_ps, q_pn, q_iconst, q_istore, q_iload, q_bipush, q_icmp_ge, q_aload0, q_getfieldA, q_iload3, q_iadd, q_iload1, q_iaload, q_iastore, q_iinc, q_goto, q_iload2, q_irem, q_idiv, q_return, rf_11_59, mmKe_1259, mmKo_11, mmLen_1259, mmR32, mmR64, Option.some.injEq, Int.cast_ofNat_Int, and_true, true_and, if_true, if_false, List.length_cons, List.length_nil, Nat.le_refl, Nat.zero_le, Nat.sub_zero, forall_const, reduceCtorEq, Nat.reduceAdd, Nat.reduceSub, Nat.reduceLeDiff, Nat.reduceEqDiff, Int.reduceAdd, Int.reduceNeg, Int.reduceSub, Int.reduceLT, Int.reduceLE, Int.reduceMul, Int.reduceEq, List.drop_zero, List.drop_succ_cons, ne_eq, not_false_eq_true, not_true_eq_false, false_and, and_false, false_implies, true_implies, reduceIte, mmU_rd, implies_true, or_false, false_or, or_true, true_or]
      rw [q_invS (pay := [])]
      simp only [q_k0, q_kS]
      refine ⟨Nat.le_of_ble_eq_true rfl, Nat.zero_le _, Nat.zero_le _, ?_⟩
      refine sq_base (by omega) ?_
      simp only [mmK_cut cd_201, q_cons, q_G0, q_GS, q_I1, q_L1, q_A1, q_S0, q_S1, q_SS, q_T0, q_T1, q_TS, q_Kn, q_Ki, q_Kl, q_Kr, q_k0, q_kS, q_rc, q_ps, q_pn, q_iconst, q_istore, q_iload, q_bipush, q_icmp_ge, q_aload0, q_getfieldA, q_iload3, q_iadd, q_iload1, q_iaload, q_iastore, q_iinc, q_goto, q_iload2, q_irem, q_idiv, q_return, rf_11_59, mmKe_1259, mmKo_11, mmLen_1259, mmR32, mmR64, Option.some.injEq, Int.cast_ofNat_Int, and_true, true_and, if_true, if_false, List.length_cons, List.length_nil, Nat.le_refl, Nat.zero_le, Nat.sub_zero, forall_const, reduceCtorEq, Nat.reduceAdd, Nat.reduceSub, Nat.reduceLeDiff, Nat.reduceEqDiff, Int.reduceAdd, Int.reduceNeg, Int.reduceSub, Int.reduceLT, Int.reduceLE, Int.reduceMul, Int.reduceEq, List.drop_zero, List.drop_succ_cons, ne_eq, not_false_eq_true, not_true_eq_false, false_and, and_false, false_implies, true_implies, reduceIte, mmU_rd, implies_true, or_false, false_or, or_true, true_or]
      rw [e2]
      refine ⟨hv0, by omega, ?_⟩
      rw [q_invS (pay := [])]
      simp only [q_k0, q_kS]
      refine ⟨Nat.le_of_ble_eq_true rfl, Nat.zero_le _, Nat.zero_le _, ?_⟩
      refine sq_base (by omega) ?_
      simp only [mmK_cut cd_201, q_cons, q_G0, q_GS, q_I1, q_L1, q_A1, q_S0, q_S1, q_SS, q_T0, q_T1, q_TS, q_Kn, q_Ki, q_Kl, q_Kr, q_k0, q_kS, q_rc, q_ps, q_pn, q_iconst, q_istore, q_iload, q_bipush, q_icmp_ge, q_aload0, q_getfieldA, q_iload3, q_iadd, q_iload1, q_iaload, q_iastore, q_iinc, q_goto, q_iload2, q_irem, q_idiv, q_return, rf_11_59, mmKe_1259, mmKo_11, mmLen_1259, mmR32, mmR64, Option.some.injEq, Int.cast_ofNat_Int, and_true, true_and, if_true, if_false, List.length_cons, List.length_nil, Nat.le_refl, Nat.zero_le, Nat.sub_zero, forall_const, reduceCtorEq, Nat.reduceAdd, Nat.reduceSub, Nat.reduceLeDiff, Nat.reduceEqDiff, Int.reduceAdd, Int.reduceNeg, Int.reduceSub, Int.reduceLT, Int.reduceLE, Int.reduceMul, Int.reduceEq, List.drop_zero, List.drop_succ_cons, ne_eq, not_false_eq_true, not_true_eq_false, false_and, and_false, false_implies, true_implies, reduceIte, mmU_rd, implies_true, or_false, false_or, or_true, true_or]
      rw [e1, ef]
      refine ⟨hv0, by omega, by omega, by omega, by omega, by omega, ?_⟩
      rw [q_invS (pay := [])]
      simp only [q_k0, q_kS]
      refine ⟨Nat.le_of_ble_eq_true rfl, Nat.zero_le _, Nat.zero_le _, ?_⟩
      refine sq_base (by omega) ?_
      simp only [mmK_cut cd_201, q_cons, q_G0, q_GS, q_I1, q_L1, q_A1, q_S0, q_S1, q_SS, q_T0, q_T1, q_TS, q_Kn, q_Ki, q_Kl, q_Kr, q_k0, q_kS, q_rc, q_ps, q_pn, q_iconst, q_istore, q_iload, q_bipush, q_icmp_ge, q_aload0, q_getfieldA, q_iload3, q_iadd, q_iload1, q_iaload, q_iastore, q_iinc, q_goto, q_iload2, q_irem, q_idiv, q_return, rf_11_59, mmKe_1259, mmKo_11, mmLen_1259, mmR32, mmR64, Option.some.injEq, Int.cast_ofNat_Int, and_true, true_and, if_true, if_false, List.length_cons, List.length_nil, Nat.le_refl, Nat.zero_le, Nat.sub_zero, forall_const, reduceCtorEq, Nat.reduceAdd, Nat.reduceSub, Nat.reduceLeDiff, Nat.reduceEqDiff, Int.reduceAdd, Int.reduceNeg, Int.reduceSub, Int.reduceLT, Int.reduceLE, Int.reduceMul, Int.reduceEq, List.drop_zero, List.drop_succ_cons, ne_eq, not_false_eq_true, not_true_eq_false, false_and, and_false, false_implies, true_implies, reduceIte, mmU_rd, implies_true, or_false, false_or, or_true, true_or]
      rw [e1]
      refine ⟨hv0, by omega, by omega, by omega, ?_⟩
      refine mT_in ⟨rfl, FrH_trans (FrH_trans fr1 (FrH_U (by omega))) (FrH_U (by omega)), fun z z0 z1 => ?_⟩
      unfold mmU bdA
      by_cases c : z = f
      · rw [if_pos ⟨rfl, rfl, by omega⟩, if_pos c]; rfl
      · rw [if_neg (by omega), if_neg c]
        by_cases c2 : z = t
        · rw [if_pos ⟨rfl, rfl, by omega⟩, if_pos c2]
        · rw [if_neg (by omega), if_neg c2]
          exact g1 z z0 z1
    | succ q ih =>
      intro n I1 hn fr1 g1
      have ez : I1 1259 0 (25 * b + n) = mB (B n) := (fr1 _ _ _ (by omega)).trans (hM n (by omega) (by omega))
      refine mmC_step ?_
      simp only [cd_201, sg_201_0, sg_201_2, sg_201_21, mmK_cut cd_201, q_cons, q_G0, q_GS, q_I1, q_L1, q_A1, q_S0, q_S1, q_SS, q_T0, q_T1, q_TS, q_Kn, q_Ki, q_Kl, q_Kr, q_k0, q_kS, q_rc, q_ps, q_pn, q_iconst, q_istore, q_iload, q_bipush, q_icmp_ge, q_aload0, q_getfieldA, q_iload3, q_iadd, q_iload1, q_iaload, q_iastore, q_iinc, q_goto, q_iload2, q_irem, q_idiv, q_return, rf_11_59, mmKe_1259, mmKo_11, mmLen_1259, mmR32, mmR64, Option.some.injEq, Int.cast_ofNat_Int, and_true, true_and, if_true, if_false, List.length_cons, List.length_nil, Nat.le_refl, Nat.zero_le, Nat.sub_zero, forall_const, reduceCtorEq, Nat.reduceAdd, Nat.reduceSub, Nat.reduceLeDiff, Nat.reduceEqDiff, Int.reduceAdd, Int.reduceNeg, Int.reduceSub, Int.reduceLT, Int.reduceLE, Int.reduceMul, Int.reduceEq, List.drop_zero, List.drop_succ_cons, ne_eq, not_false_eq_true, not_true_eq_false, false_and, and_false, false_implies, true_implies, reduceIte, mmU_rd, implies_true, or_false, false_or, or_true, true_or]
      refine ⟨fun c => by omega, fun _ => ?_⟩
      rw [q_invS (pay := [])]
      simp only [q_k0, q_kS]
      refine ⟨Nat.le_of_ble_eq_true rfl, Nat.zero_le _, Nat.zero_le _, ?_⟩
      refine sq_base (by omega) ?_
      simp only [mmK_cut cd_201, q_cons, q_G0, q_GS, q_I1, q_L1, q_A1, q_S0, q_S1, q_SS, q_T0, q_T1, q_TS, q_Kn, q_Ki, q_Kl, q_Kr, q_k0, q_kS, q_rc, q_ps, q_pn, q_iconst, q_istore, q_iload, q_bipush, q_icmp_ge, q_aload0, q_getfieldA, q_iload3, q_iadd, q_iload1, q_iaload, q_iastore, q_iinc, q_goto, q_iload2, q_irem, q_idiv, q_return, rf_11_59, mmKe_1259, mmKo_11, mmLen_1259, mmR32, mmR64, Option.some.injEq, Int.cast_ofNat_Int, and_true, true_and, if_true, if_false, List.length_cons, List.length_nil, Nat.le_refl, Nat.zero_le, Nat.sub_zero, forall_const, reduceCtorEq, Nat.reduceAdd, Nat.reduceSub, Nat.reduceLeDiff, Nat.reduceEqDiff, Int.reduceAdd, Int.reduceNeg, Int.reduceSub, Int.reduceLT, Int.reduceLE, Int.reduceMul, Int.reduceEq, List.drop_zero, List.drop_succ_cons, ne_eq, not_false_eq_true, not_true_eq_false, false_and, and_false, false_implies, true_implies, reduceIte, mmU_rd, implies_true, or_false, false_or, or_true, true_or]
      refine ⟨by omega, ?_⟩
      rw [q_invS (pay := [])]
      simp only [q_k0, q_kS]
      refine ⟨Nat.le_of_ble_eq_true rfl, Nat.zero_le _, Nat.zero_le _, ?_⟩
      refine sq_base (by omega) ?_
      simp only [mmK_cut cd_201, q_cons, q_G0, q_GS, q_I1, q_L1, q_A1, q_S0, q_S1, q_SS, q_T0, q_T1, q_TS, q_Kn, q_Ki, q_Kl, q_Kr, q_k0, q_kS, q_rc, q_ps, q_pn, q_iconst, q_istore, q_iload, q_bipush, q_icmp_ge, q_aload0, q_getfieldA, q_iload3, q_iadd, q_iload1, q_iaload, q_iastore, q_iinc, q_goto, q_iload2, q_irem, q_idiv, q_return, rf_11_59, mmKe_1259, mmKo_11, mmLen_1259, mmR32, mmR64, Option.some.injEq, Int.cast_ofNat_Int, and_true, true_and, if_true, if_false, List.length_cons, List.length_nil, Nat.le_refl, Nat.zero_le, Nat.sub_zero, forall_const, reduceCtorEq, Nat.reduceAdd, Nat.reduceSub, Nat.reduceLeDiff, Nat.reduceEqDiff, Int.reduceAdd, Int.reduceNeg, Int.reduceSub, Int.reduceLT, Int.reduceLE, Int.reduceMul, Int.reduceEq, List.drop_zero, List.drop_succ_cons, ne_eq, not_false_eq_true, not_true_eq_false, false_and, and_false, false_implies, true_implies, reduceIte, mmU_rd, implies_true, or_false, false_or, or_true, true_or]
      rw [ez]
      refine ⟨by omega, by omega, by omega, by omega, by omega, by omega, ?_⟩
      refine ih (n + 1) _ (by omega) (FrH_trans fr1 (FrH_U (by omega))) (fun z z0 z1 => ?_)
      unfold mmU
      by_cases c : z = n
      · rw [if_pos ⟨rfl, rfl, by omega⟩, c]
      · rw [if_neg (by omega)]; exact g1 z z0 (by omega)
  refine mmC_in (by decide) (Nat.le_of_ble_eq_true rfl) (mmC_step ?_)
  simp only [show mmMl 201 = 5 from rfl, mmLs, List.replicate, cd_201, sg_201_0, sg_201_2, sg_201_21, mmK_cut cd_201, q_cons, q_G0, q_GS, q_I1, q_L1, q_A1, q_S0, q_S1, q_SS, q_T0, q_T1, q_TS, q_Kn, q_Ki, q_Kl, q_Kr, q_k0, q_kS, q_rc, q_ps, q_pn, q_iconst, q_istore, q_iload, q_bipush, q_icmp_ge, q_aload0, q_getfieldA, q_iload3, q_iadd, q_iload1, q_iaload, q_iastore, q_iinc, q_goto, q_iload2, q_irem, q_idiv, q_return, rf_11_59, mmKe_1259, mmKo_11, mmLen_1259, mmR32, mmR64, Option.some.injEq, Int.cast_ofNat_Int, and_true, true_and, if_true, if_false, List.length_cons, List.length_nil, Nat.le_refl, Nat.zero_le, Nat.sub_zero, forall_const, reduceCtorEq, Nat.reduceAdd, Nat.reduceSub, Nat.reduceLeDiff, Nat.reduceEqDiff, Int.reduceAdd, Int.reduceNeg, Int.reduceSub, Int.reduceLT, Int.reduceLE, Int.reduceMul, Int.reduceEq, List.drop_zero, List.drop_succ_cons, ne_eq, not_false_eq_true, not_true_eq_false, false_and, and_false, false_implies, true_implies, reduceIte, mmU_rd, implies_true, or_false, false_or, or_true, true_or]
  exact key 25 0 I (by omega) (fun _ _ _ _ => rfl) (fun z z0 z1 => by omega)
set_option maxHeartbeats 1000000 in
theorem m_kingless {w : Int} (hR : RK r I) (hM : MB I b B) (hB : BW r B) (hb : 0 ≤ b ∧ b < 72) (hw : w = m % 2) (hQ : Q (some (mv (bI (lkP r B m)))) (I, mmRf a br, X)) : mmC (d + 3) 202 [mo 11 0, mv b, mv w] (I, mmRf a br, X) Q := by
  have h2 : w = 0 ∨ w = 1 := by omega
  have w0 := hR.2.2.1
  have w1 := hR.2.2.2.1
  have h4 := hR.2.2.2.2.1
  have h8 := hR.2.2.2.2.2.1
  have h25 := (pt_in w0 w1 (x := 0) (y := 0) (by omega) (by omega)).2.2.1
  have hp0 : 0 ≤ r 6 0 * r 6 1 := Int.mul_nonneg (by omega) (by omega)
  obtain ⟨s1, s2, s3, s4⟩ := hR.1.2.2
  have hcr := s4 w h2
  have e15 : I 11 0 15 = r 6 3 := hR.1.1.2.2.2.1
  have hki : ∀ k, 0 ≤ k → k < r 6 2 → I 1237 0 k = r 710 k ∧ (r 710 k = 0 ∨ r 710 k = 1) := fun k k0 k1 => ⟨(hR.1.2.1 k k0 k1).2.2.1, (hR.1.2.1 k k0 k1).2.2.2.2.2.1⟩
  have hlk : lkP r B m ↔ r 715 w = 1 ∧ ∀ z : Nat, (z : Int) < r 6 0 * r 6 1 → ¬ (B z / 4 = w ∧ ¬ r 710 (B z % 4) = 0) := by
    unfold lkP
    rw [← hw, cK_0]
    constructor
    · rintro ⟨h1, h2'⟩
      exact ⟨hcr.1.resolve_left h1, fun z hz => h2' z (by omega)⟩
    · rintro ⟨h1, h2'⟩
      refine ⟨by omega, fun z hz => ?_⟩
      by_cases c : (z : Int) < r 6 0 * r 6 1
      · exact h2' z c
      · have := hB.1 z (by omega) (by omega)
        intro q
        omega
  have lp2 : ∀ (q n : Nat), (n : Int) + q = r 6 0 * r 6 1 → (∀ z : Nat, z < n → ¬ (B z / 4 = w ∧ ¬ r 710 (B z % 4) = 0)) → r 715 w = 1 → mmK (d + 2) 202 Q 32 [some (mo 11 0), some (mv b), some (mv w), some (mv 1), some (mv n)] [] (I, mmRf a br, X) := by
    intro q
    induction q with
    | zero =>
      intro n hn hz h1
      refine mmC_step ?_
      simp only [cd_202, sg_202_0, sg_202_4, sg_202_24, sg_202_26, sg_202_27, sg_202_30, sg_202_32, sg_202_59, sg_202_61, mmK_cut cd_202, q_cons, q_G0, q_GS, q_I1, q_L1, q_A1, q_S0, q_S1, q_SS, q_T0, q_T1, q_TS, q_Kn, q_Ki, q_Kl, q_Kr, q_k0, q_kS, q_rc, q_ps, q_pn, q_iconst, q_istore3, q_istore, q_iload, q_aload0, q_getfieldI, q_icmp_ge, q_iload3, q_if_ne, q_getfieldA, q_iaload, q_iload2, q_icmp_ne, q_baload, q_if_eq, q_goto, q_iinc, q_iload1, q_iadd, q_irem, q_ireturn1, rf_11_37, rf_11_41, rf_11_42, rf_11_59, mmKe_1237, mmKe_1241, mmKe_1242, mmKe_1259, mmKo_11, mmLen_1237, mmLen_1241, mmLen_1242, mmLen_1259, mmR32, mmR64, Option.some.injEq, Int.cast_ofNat_Int, and_true, true_and, if_true, if_false, List.length_cons, List.length_nil, Nat.le_refl, Nat.zero_le, Nat.sub_zero, forall_const, reduceCtorEq, Nat.reduceAdd, Nat.reduceSub, Nat.reduceLeDiff, Nat.reduceEqDiff, Int.reduceAdd, Int.reduceNeg, Int.reduceSub, Int.reduceLT, Int.reduceLE, Int.reduceMul, Int.reduceEq, List.drop_zero, List.drop_succ_cons, ne_eq, not_false_eq_true, not_true_eq_false, false_and, and_false, false_implies, true_implies, reduceIte, mmU_rd, implies_true, or_false, false_or, or_true, true_or]
      rw [q_invV (pay := [])]
      simp only [q_k0, q_kS, q_rc, mmKo_11]
      refine ⟨Nat.le_of_ble_eq_true rfl, by trivial, Nat.zero_le _, Nat.zero_le _, ?_⟩
      refine m_points hR ?_
      simp only [mmK_cut cd_202, q_cons, q_G0, q_GS, q_I1, q_L1, q_A1, q_S0, q_S1, q_SS, q_T0, q_T1, q_TS, q_Kn, q_Ki, q_Kl, q_Kr, q_k0, q_kS, q_rc, q_ps, q_pn, q_iconst, q_istore3, q_istore, q_iload, q_aload0, q_getfieldI, q_icmp_ge, q_iload3, q_if_ne, q_getfieldA, q_iaload, q_iload2, q_icmp_ne, q_baload, q_if_eq, q_goto, q_iinc, q_iload1, q_iadd, q_irem, q_ireturn1, rf_11_37, rf_11_41, rf_11_42, rf_11_59, mmKe_1237, mmKe_1241, mmKe_1242, mmKe_1259, mmKo_11, mmLen_1237, mmLen_1241, mmLen_1242, mmLen_1259, mmR32, mmR64, Option.some.injEq, Int.cast_ofNat_Int, and_true, true_and, if_true, if_false, List.length_cons, List.length_nil, Nat.le_refl, Nat.zero_le, Nat.sub_zero, forall_const, reduceCtorEq, Nat.reduceAdd, Nat.reduceSub, Nat.reduceLeDiff, Nat.reduceEqDiff, Int.reduceAdd, Int.reduceNeg, Int.reduceSub, Int.reduceLT, Int.reduceLE, Int.reduceMul, Int.reduceEq, List.drop_zero, List.drop_succ_cons, ne_eq, not_false_eq_true, not_true_eq_false, false_and, and_false, false_implies, true_implies, reduceIte, mmU_rd, implies_true, or_false, false_or, or_true, true_or]
      refine ⟨fun _ => ?_, fun c => by omega⟩
      refine mmC_step ?_
      simp only [cd_202, sg_202_0, sg_202_4, sg_202_24, sg_202_26, sg_202_27, sg_202_30, sg_202_32, sg_202_59, sg_202_61, mmK_cut cd_202, q_cons, q_G0, q_GS, q_I1, q_L1, q_A1, q_S0, q_S1, q_SS, q_T0, q_T1, q_TS, q_Kn, q_Ki, q_Kl, q_Kr, q_k0, q_kS, q_rc, q_ps, q_pn, q_iconst, q_istore3, q_istore, q_iload, q_aload0, q_getfieldI, q_icmp_ge, q_iload3, q_if_ne, q_getfieldA, q_iaload, q_iload2, q_icmp_ne, q_baload, q_if_eq, q_goto, q_iinc, q_iload1, q_iadd, q_irem, q_ireturn1, rf_11_37, rf_11_41, rf_11_42, rf_11_59, mmKe_1237, mmKe_1241, mmKe_1242, mmKe_1259, mmKo_11, mmLen_1237, mmLen_1241, mmLen_1242, mmLen_1259, mmR32, mmR64, Option.some.injEq, Int.cast_ofNat_Int, and_true, true_and, if_true, if_false, List.length_cons, List.length_nil, Nat.le_refl, Nat.zero_le, Nat.sub_zero, forall_const, reduceCtorEq, Nat.reduceAdd, Nat.reduceSub, Nat.reduceLeDiff, Nat.reduceEqDiff, Int.reduceAdd, Int.reduceNeg, Int.reduceSub, Int.reduceLT, Int.reduceLE, Int.reduceMul, Int.reduceEq, List.drop_zero, List.drop_succ_cons, ne_eq, not_false_eq_true, not_true_eq_false, false_and, and_false, false_implies, true_implies, reduceIte, mmU_rd, implies_true, or_false, false_or, or_true, true_or]
      exact q_b1 hQ (hlk.mpr ⟨h1, fun z hz' => hz z (by omega)⟩)
    | succ q ih =>
      intro n hn hz h1
      have en := hM n (by omega) (by omega)
      have w59 : ¬ (B n / 4 = w ∧ ¬ r 710 (B n % 4) = 0) → mmK (d + 2) 202 Q 59 [some (mo 11 0), some (mv b), some (mv w), some (mv 1), some (mv n)] [] (I, mmRf a br, X) := by
        intro c
        refine mmC_step ?_
        simp only [cd_202, sg_202_0, sg_202_4, sg_202_24, sg_202_26, sg_202_27, sg_202_30, sg_202_32, sg_202_59, sg_202_61, mmK_cut cd_202, q_cons, q_G0, q_GS, q_I1, q_L1, q_A1, q_S0, q_S1, q_SS, q_T0, q_T1, q_TS, q_Kn, q_Ki, q_Kl, q_Kr, q_k0, q_kS, q_rc, q_ps, q_pn, q_iconst, q_istore3, q_istore, q_iload, q_aload0, q_getfieldI, q_icmp_ge, q_iload3, q_if_ne, q_getfieldA, q_iaload, q_iload2, q_icmp_ne, q_baload, q_if_eq, q_goto, q_iinc, q_iload1, q_iadd, q_irem, q_ireturn1, rf_11_37, rf_11_41, rf_11_42, rf_11_59, mmKe_1237, mmKe_1241, mmKe_1242, mmKe_1259, mmKo_11, mmLen_1237, mmLen_1241, mmLen_1242, mmLen_1259, mmR32, mmR64, Option.some.injEq, Int.cast_ofNat_Int, and_true, true_and, if_true, if_false, List.length_cons, List.length_nil, Nat.le_refl, Nat.zero_le, Nat.sub_zero, forall_const, reduceCtorEq, Nat.reduceAdd, Nat.reduceSub, Nat.reduceLeDiff, Nat.reduceEqDiff, Int.reduceAdd, Int.reduceNeg, Int.reduceSub, Int.reduceLT, Int.reduceLE, Int.reduceMul, Int.reduceEq, List.drop_zero, List.drop_succ_cons, ne_eq, not_false_eq_true, not_true_eq_false, false_and, and_false, false_implies, true_implies, reduceIte, mmU_rd, implies_true, or_false, false_or, or_true, true_or]
        refine ⟨by omega, ih (n + 1) (by omega) (fun z hz' => ?_) h1⟩
        by_cases c3 : z = n
        · rw [c3]; exact c
        · exact hz z (by omega)
      refine mmC_step ?_
      simp only [cd_202, sg_202_0, sg_202_4, sg_202_24, sg_202_26, sg_202_27, sg_202_30, sg_202_32, sg_202_59, sg_202_61, mmK_cut cd_202, q_cons, q_G0, q_GS, q_I1, q_L1, q_A1, q_S0, q_S1, q_SS, q_T0, q_T1, q_TS, q_Kn, q_Ki, q_Kl, q_Kr, q_k0, q_kS, q_rc, q_ps, q_pn, q_iconst, q_istore3, q_istore, q_iload, q_aload0, q_getfieldI, q_icmp_ge, q_iload3, q_if_ne, q_getfieldA, q_iaload, q_iload2, q_icmp_ne, q_baload, q_if_eq, q_goto, q_iinc, q_iload1, q_iadd, q_irem, q_ireturn1, rf_11_37, rf_11_41, rf_11_42, rf_11_59, mmKe_1237, mmKe_1241, mmKe_1242, mmKe_1259, mmKo_11, mmLen_1237, mmLen_1241, mmLen_1242, mmLen_1259, mmR32, mmR64, Option.some.injEq, Int.cast_ofNat_Int, and_true, true_and, if_true, if_false, List.length_cons, List.length_nil, Nat.le_refl, Nat.zero_le, Nat.sub_zero, forall_const, reduceCtorEq, Nat.reduceAdd, Nat.reduceSub, Nat.reduceLeDiff, Nat.reduceEqDiff, Int.reduceAdd, Int.reduceNeg, Int.reduceSub, Int.reduceLT, Int.reduceLE, Int.reduceMul, Int.reduceEq, List.drop_zero, List.drop_succ_cons, ne_eq, not_false_eq_true, not_true_eq_false, false_and, and_false, false_implies, true_implies, reduceIte, mmU_rd, implies_true, or_false, false_or, or_true, true_or]
      rw [q_invV (pay := [])]
      simp only [q_k0, q_kS, q_rc, mmKo_11]
      refine ⟨Nat.le_of_ble_eq_true rfl, by trivial, Nat.zero_le _, Nat.zero_le _, ?_⟩
      refine m_points hR ?_
      simp only [mmK_cut cd_202, q_cons, q_G0, q_GS, q_I1, q_L1, q_A1, q_S0, q_S1, q_SS, q_T0, q_T1, q_TS, q_Kn, q_Ki, q_Kl, q_Kr, q_k0, q_kS, q_rc, q_ps, q_pn, q_iconst, q_istore3, q_istore, q_iload, q_aload0, q_getfieldI, q_icmp_ge, q_iload3, q_if_ne, q_getfieldA, q_iaload, q_iload2, q_icmp_ne, q_baload, q_if_eq, q_goto, q_iinc, q_iload1, q_iadd, q_irem, q_ireturn1, rf_11_37, rf_11_41, rf_11_42, rf_11_59, mmKe_1237, mmKe_1241, mmKe_1242, mmKe_1259, mmKo_11, mmLen_1237, mmLen_1241, mmLen_1242, mmLen_1259, mmR32, mmR64, Option.some.injEq, Int.cast_ofNat_Int, and_true, true_and, if_true, if_false, List.length_cons, List.length_nil, Nat.le_refl, Nat.zero_le, Nat.sub_zero, forall_const, reduceCtorEq, Nat.reduceAdd, Nat.reduceSub, Nat.reduceLeDiff, Nat.reduceEqDiff, Int.reduceAdd, Int.reduceNeg, Int.reduceSub, Int.reduceLT, Int.reduceLE, Int.reduceMul, Int.reduceEq, List.drop_zero, List.drop_succ_cons, ne_eq, not_false_eq_true, not_true_eq_false, false_and, and_false, false_implies, true_implies, reduceIte, mmU_rd, implies_true, or_false, false_or, or_true, true_or]
      refine ⟨fun c => by omega, fun _ => ?_⟩
      rw [q_invV (pay := [])]
      simp only [q_k0, q_kS, q_rc, mmKo_11]
      refine ⟨Nat.le_of_ble_eq_true rfl, by trivial, Nat.zero_le _, Nat.zero_le _, ?_⟩
      refine m_isOwn hM hB hb (by omega) h2 ?_
      simp only [mmK_cut cd_202, q_cons, q_G0, q_GS, q_I1, q_L1, q_A1, q_S0, q_S1, q_SS, q_T0, q_T1, q_TS, q_Kn, q_Ki, q_Kl, q_Kr, q_k0, q_kS, q_rc, q_ps, q_pn, q_iconst, q_istore3, q_istore, q_iload, q_aload0, q_getfieldI, q_icmp_ge, q_iload3, q_if_ne, q_getfieldA, q_iaload, q_iload2, q_icmp_ne, q_baload, q_if_eq, q_goto, q_iinc, q_iload1, q_iadd, q_irem, q_ireturn1, rf_11_37, rf_11_41, rf_11_42, rf_11_59, mmKe_1237, mmKe_1241, mmKe_1242, mmKe_1259, mmKo_11, mmLen_1237, mmLen_1241, mmLen_1242, mmLen_1259, mmR32, mmR64, Option.some.injEq, Int.cast_ofNat_Int, and_true, true_and, if_true, if_false, List.length_cons, List.length_nil, Nat.le_refl, Nat.zero_le, Nat.sub_zero, forall_const, reduceCtorEq, Nat.reduceAdd, Nat.reduceSub, Nat.reduceLeDiff, Nat.reduceEqDiff, Int.reduceAdd, Int.reduceNeg, Int.reduceSub, Int.reduceLT, Int.reduceLE, Int.reduceMul, Int.reduceEq, List.drop_zero, List.drop_succ_cons, ne_eq, not_false_eq_true, not_true_eq_false, false_and, and_false, false_implies, true_implies, reduceIte, mmU_rd, implies_true, or_false, false_or, or_true, true_or, bI_eq0]
      refine ⟨fun c => w59 (fun q => c q.1), fun c => ?_⟩
      have c := Classical.not_not.mp c
      have ho := own_in (m := m) hB (show 0 ≤ (n : Int) ∧ (n : Int) < 25 by omega) (by rw [← hw]; exact c)
      have em : mB (B n) = B n := if_neg (by omega)
      have hk := hki (B n % 4) (by omega) ho.2
      rw [q_invS (pay := [])]
      simp only [q_k0, q_kS]
      refine ⟨Nat.le_of_ble_eq_true rfl, Nat.zero_le _, Nat.zero_le _, ?_⟩
      refine sq_base (by omega) ?_
      simp only [mmK_cut cd_202, q_cons, q_G0, q_GS, q_I1, q_L1, q_A1, q_S0, q_S1, q_SS, q_T0, q_T1, q_TS, q_Kn, q_Ki, q_Kl, q_Kr, q_k0, q_kS, q_rc, q_ps, q_pn, q_iconst, q_istore3, q_istore, q_iload, q_aload0, q_getfieldI, q_icmp_ge, q_iload3, q_if_ne, q_getfieldA, q_iaload, q_iload2, q_icmp_ne, q_baload, q_if_eq, q_goto, q_iinc, q_iload1, q_iadd, q_irem, q_ireturn1, rf_11_37, rf_11_41, rf_11_42, rf_11_59, mmKe_1237, mmKe_1241, mmKe_1242, mmKe_1259, mmKo_11, mmLen_1237, mmLen_1241, mmLen_1242, mmLen_1259, mmR32, mmR64, Option.some.injEq, Int.cast_ofNat_Int, and_true, true_and, if_true, if_false, List.length_cons, List.length_nil, Nat.le_refl, Nat.zero_le, Nat.sub_zero, forall_const, reduceCtorEq, Nat.reduceAdd, Nat.reduceSub, Nat.reduceLeDiff, Nat.reduceEqDiff, Int.reduceAdd, Int.reduceNeg, Int.reduceSub, Int.reduceLT, Int.reduceLE, Int.reduceMul, Int.reduceEq, List.drop_zero, List.drop_succ_cons, ne_eq, not_false_eq_true, not_true_eq_false, false_and, and_false, false_implies, true_implies, reduceIte, mmU_rd, implies_true, or_false, false_or, or_true, true_or]
      rw [en, em, hk.1]
      refine ⟨by omega, by omega, by omega, ho.1, by omega, by omega, fun c2 => w59 (fun q => q.2 c2), fun c2 => ?_⟩
      refine q_b0 hQ (fun q => (hlk.mp q).2 n (by omega) ⟨c, c2⟩)
  have lp1 : ∀ (q n : Nat) (hd : Int), (n : Int) + q = r 6 3 → (hd = 0 ∨ hd = 1) → (hd = 1 ↔ ∃ i : Nat, i < n ∧ Gk I 21 i = w ∧ r 710 (Gk I 20 i) = 1) → mmK (d + 2) 202 Q 4 [some (mo 11 0), some (mv b), some (mv w), some (mv hd), some (mv n)] [] (I, mmRf a br, X) := by
    intro q
    induction q with
    | zero =>
      intro n hd hn h01 hh
      have hiff : hd = 1 ↔ r 715 w = 1 := hh.trans (Iff.trans ⟨fun ⟨i, i1, i2, i3⟩ => ⟨i, by omega, by omega, i2, i3⟩, fun ⟨i, i0, i1, i2, i3⟩ => ⟨i.toNat, by omega, by rw [show ((i.toNat : Nat) : Int) = i by omega]; exact i2, by rw [show ((i.toNat : Nat) : Int) = i by omega]; exact i3⟩⟩ hcr.2.symm)
      refine mmC_step ?_
      simp only [cd_202, sg_202_0, sg_202_4, sg_202_24, sg_202_26, sg_202_27, sg_202_30, sg_202_32, sg_202_59, sg_202_61, mmK_cut cd_202, q_cons, q_G0, q_GS, q_I1, q_L1, q_A1, q_S0, q_S1, q_SS, q_T0, q_T1, q_TS, q_Kn, q_Ki, q_Kl, q_Kr, q_k0, q_kS, q_rc, q_ps, q_pn, q_iconst, q_istore3, q_istore, q_iload, q_aload0, q_getfieldI, q_icmp_ge, q_iload3, q_if_ne, q_getfieldA, q_iaload, q_iload2, q_icmp_ne, q_baload, q_if_eq, q_goto, q_iinc, q_iload1, q_iadd, q_irem, q_ireturn1, rf_11_37, rf_11_41, rf_11_42, rf_11_59, mmKe_1237, mmKe_1241, mmKe_1242, mmKe_1259, mmKo_11, mmLen_1237, mmLen_1241, mmLen_1242, mmLen_1259, mmR32, mmR64, Option.some.injEq, Int.cast_ofNat_Int, and_true, true_and, if_true, if_false, List.length_cons, List.length_nil, Nat.le_refl, Nat.zero_le, Nat.sub_zero, forall_const, reduceCtorEq, Nat.reduceAdd, Nat.reduceSub, Nat.reduceLeDiff, Nat.reduceEqDiff, Int.reduceAdd, Int.reduceNeg, Int.reduceSub, Int.reduceLT, Int.reduceLE, Int.reduceMul, Int.reduceEq, List.drop_zero, List.drop_succ_cons, ne_eq, not_false_eq_true, not_true_eq_false, false_and, and_false, false_implies, true_implies, reduceIte, mmU_rd, implies_true, or_false, false_or, or_true, true_or]
      rw [e15]
      refine ⟨fun _ => ?_, fun c => by omega⟩
      refine mmC_step ?_
      simp only [cd_202, sg_202_0, sg_202_4, sg_202_24, sg_202_26, sg_202_27, sg_202_30, sg_202_32, sg_202_59, sg_202_61, mmK_cut cd_202, q_cons, q_G0, q_GS, q_I1, q_L1, q_A1, q_S0, q_S1, q_SS, q_T0, q_T1, q_TS, q_Kn, q_Ki, q_Kl, q_Kr, q_k0, q_kS, q_rc, q_ps, q_pn, q_iconst, q_istore3, q_istore, q_iload, q_aload0, q_getfieldI, q_icmp_ge, q_iload3, q_if_ne, q_getfieldA, q_iaload, q_iload2, q_icmp_ne, q_baload, q_if_eq, q_goto, q_iinc, q_iload1, q_iadd, q_irem, q_ireturn1, rf_11_37, rf_11_41, rf_11_42, rf_11_59, mmKe_1237, mmKe_1241, mmKe_1242, mmKe_1259, mmKo_11, mmLen_1237, mmLen_1241, mmLen_1242, mmLen_1259, mmR32, mmR64, Option.some.injEq, Int.cast_ofNat_Int, and_true, true_and, if_true, if_false, List.length_cons, List.length_nil, Nat.le_refl, Nat.zero_le, Nat.sub_zero, forall_const, reduceCtorEq, Nat.reduceAdd, Nat.reduceSub, Nat.reduceLeDiff, Nat.reduceEqDiff, Int.reduceAdd, Int.reduceNeg, Int.reduceSub, Int.reduceLT, Int.reduceLE, Int.reduceMul, Int.reduceEq, List.drop_zero, List.drop_succ_cons, ne_eq, not_false_eq_true, not_true_eq_false, false_and, and_false, false_implies, true_implies, reduceIte, mmU_rd, implies_true, or_false, false_or, or_true, true_or]
      rcases h01 with q | q
      · subst q
        refine mmC_step ?_
        simp only [cd_202, sg_202_0, sg_202_4, sg_202_24, sg_202_26, sg_202_27, sg_202_30, sg_202_32, sg_202_59, sg_202_61, mmK_cut cd_202, q_cons, q_G0, q_GS, q_I1, q_L1, q_A1, q_S0, q_S1, q_SS, q_T0, q_T1, q_TS, q_Kn, q_Ki, q_Kl, q_Kr, q_k0, q_kS, q_rc, q_ps, q_pn, q_iconst, q_istore3, q_istore, q_iload, q_aload0, q_getfieldI, q_icmp_ge, q_iload3, q_if_ne, q_getfieldA, q_iaload, q_iload2, q_icmp_ne, q_baload, q_if_eq, q_goto, q_iinc, q_iload1, q_iadd, q_irem, q_ireturn1, rf_11_37, rf_11_41, rf_11_42, rf_11_59, mmKe_1237, mmKe_1241, mmKe_1242, mmKe_1259, mmKo_11, mmLen_1237, mmLen_1241, mmLen_1242, mmLen_1259, mmR32, mmR64, Option.some.injEq, Int.cast_ofNat_Int, and_true, true_and, if_true, if_false, List.length_cons, List.length_nil, Nat.le_refl, Nat.zero_le, Nat.sub_zero, forall_const, reduceCtorEq, Nat.reduceAdd, Nat.reduceSub, Nat.reduceLeDiff, Nat.reduceEqDiff, Int.reduceAdd, Int.reduceNeg, Int.reduceSub, Int.reduceLT, Int.reduceLE, Int.reduceMul, Int.reduceEq, List.drop_zero, List.drop_succ_cons, ne_eq, not_false_eq_true, not_true_eq_false, false_and, and_false, false_implies, true_implies, reduceIte, mmU_rd, implies_true, or_false, false_or, or_true, true_or]
        rw [q_invV (pay := [])]
        simp only [q_k0, q_kS, q_rc, mmKo_11]
        refine ⟨Nat.le_of_ble_eq_true rfl, by trivial, Nat.zero_le _, Nat.zero_le _, ?_⟩
        refine m_points hR ?_
        simp only [mmK_cut cd_202, q_cons, q_G0, q_GS, q_I1, q_L1, q_A1, q_S0, q_S1, q_SS, q_T0, q_T1, q_TS, q_Kn, q_Ki, q_Kl, q_Kr, q_k0, q_kS, q_rc, q_ps, q_pn, q_iconst, q_istore3, q_istore, q_iload, q_aload0, q_getfieldI, q_icmp_ge, q_iload3, q_if_ne, q_getfieldA, q_iaload, q_iload2, q_icmp_ne, q_baload, q_if_eq, q_goto, q_iinc, q_iload1, q_iadd, q_irem, q_ireturn1, rf_11_37, rf_11_41, rf_11_42, rf_11_59, mmKe_1237, mmKe_1241, mmKe_1242, mmKe_1259, mmKo_11, mmLen_1237, mmLen_1241, mmLen_1242, mmLen_1259, mmR32, mmR64, Option.some.injEq, Int.cast_ofNat_Int, and_true, true_and, if_true, if_false, List.length_cons, List.length_nil, Nat.le_refl, Nat.zero_le, Nat.sub_zero, forall_const, reduceCtorEq, Nat.reduceAdd, Nat.reduceSub, Nat.reduceLeDiff, Nat.reduceEqDiff, Int.reduceAdd, Int.reduceNeg, Int.reduceSub, Int.reduceLT, Int.reduceLE, Int.reduceMul, Int.reduceEq, List.drop_zero, List.drop_succ_cons, ne_eq, not_false_eq_true, not_true_eq_false, false_and, and_false, false_implies, true_implies, reduceIte, mmU_rd, implies_true, or_false, false_or, or_true, true_or]
        have fin : mmK (d + 2) 202 Q 61 [some (mo 11 0), some (mv b), some (mv w), some (mv 0), some (mv 0)] [] (I, mmRf a br, X) := by
          refine mmC_step ?_
          simp only [cd_202, sg_202_0, sg_202_4, sg_202_24, sg_202_26, sg_202_27, sg_202_30, sg_202_32, sg_202_59, sg_202_61, mmK_cut cd_202, q_cons, q_G0, q_GS, q_I1, q_L1, q_A1, q_S0, q_S1, q_SS, q_T0, q_T1, q_TS, q_Kn, q_Ki, q_Kl, q_Kr, q_k0, q_kS, q_rc, q_ps, q_pn, q_iconst, q_istore3, q_istore, q_iload, q_aload0, q_getfieldI, q_icmp_ge, q_iload3, q_if_ne, q_getfieldA, q_iaload, q_iload2, q_icmp_ne, q_baload, q_if_eq, q_goto, q_iinc, q_iload1, q_iadd, q_irem, q_ireturn1, rf_11_37, rf_11_41, rf_11_42, rf_11_59, mmKe_1237, mmKe_1241, mmKe_1242, mmKe_1259, mmKo_11, mmLen_1237, mmLen_1241, mmLen_1242, mmLen_1259, mmR32, mmR64, Option.some.injEq, Int.cast_ofNat_Int, and_true, true_and, if_true, if_false, List.length_cons, List.length_nil, Nat.le_refl, Nat.zero_le, Nat.sub_zero, forall_const, reduceCtorEq, Nat.reduceAdd, Nat.reduceSub, Nat.reduceLeDiff, Nat.reduceEqDiff, Int.reduceAdd, Int.reduceNeg, Int.reduceSub, Int.reduceLT, Int.reduceLE, Int.reduceMul, Int.reduceEq, List.drop_zero, List.drop_succ_cons, ne_eq, not_false_eq_true, not_true_eq_false, false_and, and_false, false_implies, true_implies, reduceIte, mmU_rd, implies_true, or_false, false_or, or_true, true_or]
          refine q_b0 hQ (fun q => ?_)
          have := hiff.mpr (hlk.mp q).1
          omega
        exact ⟨fun _ => fin, fun _ => fin⟩
      · subst q
        exact lp2 (r 6 0 * r 6 1).toNat 0 (by omega) (fun z hz => by omega) (hiff.mp rfl)
    | succ q ih =>
      intro n hd hn h01 hh
      have hs := s1 n (by omega) (by omega)
      have hk := hki (Gk I 20 n) hs.1.1 hs.1.2
      have e21 : I 1242 0 n = Gk I 21 n := rfl
      have e20 : I 1241 0 n = Gk I 20 n := rfl
      have w27 : ∀ e : Int, (e = 0 ∨ e = 1) → (e = 1 ↔ hd = 1 ∨ (Gk I 21 n = w ∧ r 710 (Gk I 20 n) = 1)) → mmK (d + 2) 202 Q 27 [some (mo 11 0), some (mv b), some (mv w), some (mv hd), some (mv n)] [mv e] (I, mmRf a br, X) := by
        intro e he1 he
        refine mmC_step ?_
        simp only [cd_202, sg_202_0, sg_202_4, sg_202_24, sg_202_26, sg_202_27, sg_202_30, sg_202_32, sg_202_59, sg_202_61, mmK_cut cd_202, q_cons, q_G0, q_GS, q_I1, q_L1, q_A1, q_S0, q_S1, q_SS, q_T0, q_T1, q_TS, q_Kn, q_Ki, q_Kl, q_Kr, q_k0, q_kS, q_rc, q_ps, q_pn, q_iconst, q_istore3, q_istore, q_iload, q_aload0, q_getfieldI, q_icmp_ge, q_iload3, q_if_ne, q_getfieldA, q_iaload, q_iload2, q_icmp_ne, q_baload, q_if_eq, q_goto, q_iinc, q_iload1, q_iadd, q_irem, q_ireturn1, rf_11_37, rf_11_41, rf_11_42, rf_11_59, mmKe_1237, mmKe_1241, mmKe_1242, mmKe_1259, mmKo_11, mmLen_1237, mmLen_1241, mmLen_1242, mmLen_1259, mmR32, mmR64, Option.some.injEq, Int.cast_ofNat_Int, and_true, true_and, if_true, if_false, List.length_cons, List.length_nil, Nat.le_refl, Nat.zero_le, Nat.sub_zero, forall_const, reduceCtorEq, Nat.reduceAdd, Nat.reduceSub, Nat.reduceLeDiff, Nat.reduceEqDiff, Int.reduceAdd, Int.reduceNeg, Int.reduceSub, Int.reduceLT, Int.reduceLE, Int.reduceMul, Int.reduceEq, List.drop_zero, List.drop_succ_cons, ne_eq, not_false_eq_true, not_true_eq_false, false_and, and_false, false_implies, true_implies, reduceIte, mmU_rd, implies_true, or_false, false_or, or_true, true_or]
        refine ⟨by omega, ih (n + 1) e (by omega) he1 (he.trans ⟨?_, ?_⟩)⟩
        · rintro (h1 | h1)
          · obtain ⟨i, i1, i2⟩ := hh.mp h1
            exact ⟨i, by omega, i2⟩
          · exact ⟨n, by omega, h1⟩
        · rintro ⟨i, i1, i2⟩
          by_cases c : i = n
          · subst c; exact Or.inr i2
          · exact Or.inl (hh.mpr ⟨i, by omega, i2⟩)
      have w26 : ¬ hd = 1 → ¬ (Gk I 21 n = w ∧ r 710 (Gk I 20 n) = 1) → mmK (d + 2) 202 Q 26 [some (mo 11 0), some (mv b), some (mv w), some (mv hd), some (mv n)] [] (I, mmRf a br, X) := by
        intro c1 c2
        refine mmC_step ?_
        simp only [cd_202, sg_202_0, sg_202_4, sg_202_24, sg_202_26, sg_202_27, sg_202_30, sg_202_32, sg_202_59, sg_202_61, mmK_cut cd_202, q_cons, q_G0, q_GS, q_I1, q_L1, q_A1, q_S0, q_S1, q_SS, q_T0, q_T1, q_TS, q_Kn, q_Ki, q_Kl, q_Kr, q_k0, q_kS, q_rc, q_ps, q_pn, q_iconst, q_istore3, q_istore, q_iload, q_aload0, q_getfieldI, q_icmp_ge, q_iload3, q_if_ne, q_getfieldA, q_iaload, q_iload2, q_icmp_ne, q_baload, q_if_eq, q_goto, q_iinc, q_iload1, q_iadd, q_irem, q_ireturn1, rf_11_37, rf_11_41, rf_11_42, rf_11_59, mmKe_1237, mmKe_1241, mmKe_1242, mmKe_1259, mmKo_11, mmLen_1237, mmLen_1241, mmLen_1242, mmLen_1259, mmR32, mmR64, Option.some.injEq, Int.cast_ofNat_Int, and_true, true_and, if_true, if_false, List.length_cons, List.length_nil, Nat.le_refl, Nat.zero_le, Nat.sub_zero, forall_const, reduceCtorEq, Nat.reduceAdd, Nat.reduceSub, Nat.reduceLeDiff, Nat.reduceEqDiff, Int.reduceAdd, Int.reduceNeg, Int.reduceSub, Int.reduceLT, Int.reduceLE, Int.reduceMul, Int.reduceEq, List.drop_zero, List.drop_succ_cons, ne_eq, not_false_eq_true, not_true_eq_false, false_and, and_false, false_implies, true_implies, reduceIte, mmU_rd, implies_true, or_false, false_or, or_true, true_or]
        exact w27 0 (Or.inl rfl) ⟨fun q => by omega, fun q => absurd q (by rintro (q | q); exact c1 q; exact c2 q)⟩
      have w24 : (hd = 1 ∨ (Gk I 21 n = w ∧ r 710 (Gk I 20 n) = 1)) → mmK (d + 2) 202 Q 24 [some (mo 11 0), some (mv b), some (mv w), some (mv hd), some (mv n)] [] (I, mmRf a br, X) := by
        intro c
        refine mmC_step ?_
        simp only [cd_202, sg_202_0, sg_202_4, sg_202_24, sg_202_26, sg_202_27, sg_202_30, sg_202_32, sg_202_59, sg_202_61, mmK_cut cd_202, q_cons, q_G0, q_GS, q_I1, q_L1, q_A1, q_S0, q_S1, q_SS, q_T0, q_T1, q_TS, q_Kn, q_Ki, q_Kl, q_Kr, q_k0, q_kS, q_rc, q_ps, q_pn, q_iconst, q_istore3, q_istore, q_iload, q_aload0, q_getfieldI, q_icmp_ge, q_iload3, q_if_ne, q_getfieldA, q_iaload, q_iload2, q_icmp_ne, q_baload, q_if_eq, q_goto, q_iinc, q_iload1, q_iadd, q_irem, q_ireturn1, rf_11_37, rf_11_41, rf_11_42, rf_11_59, mmKe_1237, mmKe_1241, mmKe_1242, mmKe_1259, mmKo_11, mmLen_1237, mmLen_1241, mmLen_1242, mmLen_1259, mmR32, mmR64, Option.some.injEq, Int.cast_ofNat_Int, and_true, true_and, if_true, if_false, List.length_cons, List.length_nil, Nat.le_refl, Nat.zero_le, Nat.sub_zero, forall_const, reduceCtorEq, Nat.reduceAdd, Nat.reduceSub, Nat.reduceLeDiff, Nat.reduceEqDiff, Int.reduceAdd, Int.reduceNeg, Int.reduceSub, Int.reduceLT, Int.reduceLE, Int.reduceMul, Int.reduceEq, List.drop_zero, List.drop_succ_cons, ne_eq, not_false_eq_true, not_true_eq_false, false_and, and_false, false_implies, true_implies, reduceIte, mmU_rd, implies_true, or_false, false_or, or_true, true_or]
        exact w27 1 (Or.inr rfl) ⟨fun _ => c, fun _ => rfl⟩
      refine mmC_step ?_
      simp only [cd_202, sg_202_0, sg_202_4, sg_202_24, sg_202_26, sg_202_27, sg_202_30, sg_202_32, sg_202_59, sg_202_61, mmK_cut cd_202, q_cons, q_G0, q_GS, q_I1, q_L1, q_A1, q_S0, q_S1, q_SS, q_T0, q_T1, q_TS, q_Kn, q_Ki, q_Kl, q_Kr, q_k0, q_kS, q_rc, q_ps, q_pn, q_iconst, q_istore3, q_istore, q_iload, q_aload0, q_getfieldI, q_icmp_ge, q_iload3, q_if_ne, q_getfieldA, q_iaload, q_iload2, q_icmp_ne, q_baload, q_if_eq, q_goto, q_iinc, q_iload1, q_iadd, q_irem, q_ireturn1, rf_11_37, rf_11_41, rf_11_42, rf_11_59, mmKe_1237, mmKe_1241, mmKe_1242, mmKe_1259, mmKo_11, mmLen_1237, mmLen_1241, mmLen_1242, mmLen_1259, mmR32, mmR64, Option.some.injEq, Int.cast_ofNat_Int, and_true, true_and, if_true, if_false, List.length_cons, List.length_nil, Nat.le_refl, Nat.zero_le, Nat.sub_zero, forall_const, reduceCtorEq, Nat.reduceAdd, Nat.reduceSub, Nat.reduceLeDiff, Nat.reduceEqDiff, Int.reduceAdd, Int.reduceNeg, Int.reduceSub, Int.reduceLT, Int.reduceLE, Int.reduceMul, Int.reduceEq, List.drop_zero, List.drop_succ_cons, ne_eq, not_false_eq_true, not_true_eq_false, false_and, and_false, false_implies, true_implies, reduceIte, mmU_rd, implies_true, or_false, false_or, or_true, true_or]
      rw [e15, e21, e20, hk.1]
      refine ⟨fun c => by omega, fun _ => ⟨fun c => w24 (Or.inl (by omega)), fun c => ⟨by omega, by omega, fun c2 => w26 (by omega) (fun q => c2 q.1), fun c2 => ⟨by omega, by omega, hs.1.1, by omega, fun c3 => w26 (by omega) (fun q => by omega), fun c3 => w24 (Or.inr ⟨c2, by omega⟩)⟩⟩⟩⟩
  refine mmC_in (by decide) (Nat.le_of_ble_eq_true rfl) (mmC_step ?_)
  simp only [show mmMl 202 = 5 from rfl, mmLs, List.replicate, cd_202, sg_202_0, sg_202_4, sg_202_24, sg_202_26, sg_202_27, sg_202_30, sg_202_32, sg_202_59, sg_202_61, mmK_cut cd_202, q_cons, q_G0, q_GS, q_I1, q_L1, q_A1, q_S0, q_S1, q_SS, q_T0, q_T1, q_TS, q_Kn, q_Ki, q_Kl, q_Kr, q_k0, q_kS, q_rc, q_ps, q_pn, q_iconst, q_istore3, q_istore, q_iload, q_aload0, q_getfieldI, q_icmp_ge, q_iload3, q_if_ne, q_getfieldA, q_iaload, q_iload2, q_icmp_ne, q_baload, q_if_eq, q_goto, q_iinc, q_iload1, q_iadd, q_irem, q_ireturn1, rf_11_37, rf_11_41, rf_11_42, rf_11_59, mmKe_1237, mmKe_1241, mmKe_1242, mmKe_1259, mmKo_11, mmLen_1237, mmLen_1241, mmLen_1242, mmLen_1259, mmR32, mmR64, Option.some.injEq, Int.cast_ofNat_Int, and_true, true_and, if_true, if_false, List.length_cons, List.length_nil, Nat.le_refl, Nat.zero_le, Nat.sub_zero, forall_const, reduceCtorEq, Nat.reduceAdd, Nat.reduceSub, Nat.reduceLeDiff, Nat.reduceEqDiff, Int.reduceAdd, Int.reduceNeg, Int.reduceSub, Int.reduceLT, Int.reduceLE, Int.reduceMul, Int.reduceEq, List.drop_zero, List.drop_succ_cons, ne_eq, not_false_eq_true, not_true_eq_false, false_and, and_false, false_implies, true_implies, reduceIte, mmU_rd, implies_true, or_false, false_or, or_true, true_or]
  refine lp1 (r 6 3).toNat 0 0 (by omega) (Or.inl rfl) ⟨fun q => by omega, fun ⟨i, i1, _⟩ => by omega⟩
set_option maxHeartbeats 1000000 in
theorem m_isLost {w : Int} (hR : RK r I) (hM : MB I b B) (hB : BW r B) (hb : 0 ≤ b ∧ b < 72) (hm : 0 ≤ m ∧ m < 100) (hw : w = m % 2) : mmC (d + 8) 203 [mo 11 0, mv b, mv w, mv m] (I, mmRf a br, X) (mT a br X fun v I' => v = some (mv (bI (lsP r B m))) ∧ FrV b I I' ∧ ML I' b (mvL r B m 25)) := by
  refine mmC_in (by decide) (Nat.le_of_ble_eq_true rfl) (mmC_step ?_)
  simp only [show mmMl 203 = 4 from rfl, mmLs, List.replicate, cd_203, sg_203_0, sg_203_15, sg_203_17, sg_203_18, mmK_cut cd_203, q_cons, q_G0, q_GS, q_I1, q_L1, q_A1, q_S0, q_S1, q_SS, q_T0, q_T1, q_TS, q_Kn, q_Ki, q_Kl, q_Kr, q_k0, q_kS, q_rc, q_ps, q_pn, q_aload0, q_iload1, q_iload2, q_iload3, q_getfieldA, q_iaload, q_if_eq, q_iconst, q_goto, q_ireturn1, rf_11_61, mmKe_1261, mmKo_11, mmLen_1261, mmR32, mmR64, Option.some.injEq, Int.cast_ofNat_Int, and_true, true_and, if_true, if_false, List.length_cons, List.length_nil, Nat.le_refl, Nat.zero_le, Nat.sub_zero, forall_const, reduceCtorEq, Nat.reduceAdd, Nat.reduceSub, Nat.reduceLeDiff, Nat.reduceEqDiff, Int.reduceAdd, Int.reduceNeg, Int.reduceSub, Int.reduceLT, Int.reduceLE, Int.reduceMul, Int.reduceEq, List.drop_zero, List.drop_succ_cons, ne_eq, not_false_eq_true, not_true_eq_false, false_and, and_false, false_implies, true_implies, reduceIte, mmU_rd, implies_true, or_false, false_or, or_true, true_or]
  rw [q_invV (pay := [])]
  simp only [q_k0, q_kS, q_rc, mmKo_11]
  refine ⟨Nat.le_of_ble_eq_true rfl, by trivial, Nat.zero_le _, Nat.zero_le _, ?_⟩
  refine mT_use (m_layMoves hR hM hB hb hm hw) (fun v I1 q => ?_)
  obtain ⟨rfl, f1, ml⟩ := q
  have w15 : lsP r B m → mmK (d + 7) 203 (mT a br X fun v I' => v = some (mv (bI (lsP r B m))) ∧ FrV b I I' ∧ ML I' b (mvL r B m 25)) 15 [some (mo 11 0), some (mv b), some (mv w), some (mv m)] [] (I1, mmRf a br, X) := by
    intro c
    refine mmC_step ?_
    simp only [cd_203, sg_203_0, sg_203_15, sg_203_17, sg_203_18, mmK_cut cd_203, q_cons, q_G0, q_GS, q_I1, q_L1, q_A1, q_S0, q_S1, q_SS, q_T0, q_T1, q_TS, q_Kn, q_Ki, q_Kl, q_Kr, q_k0, q_kS, q_rc, q_ps, q_pn, q_aload0, q_iload1, q_iload2, q_iload3, q_getfieldA, q_iaload, q_if_eq, q_iconst, q_goto, q_ireturn1, rf_11_61, mmKe_1261, mmKo_11, mmLen_1261, mmR32, mmR64, Option.some.injEq, Int.cast_ofNat_Int, and_true, true_and, if_true, if_false, List.length_cons, List.length_nil, Nat.le_refl, Nat.zero_le, Nat.sub_zero, forall_const, reduceCtorEq, Nat.reduceAdd, Nat.reduceSub, Nat.reduceLeDiff, Nat.reduceEqDiff, Int.reduceAdd, Int.reduceNeg, Int.reduceSub, Int.reduceLT, Int.reduceLE, Int.reduceMul, Int.reduceEq, List.drop_zero, List.drop_succ_cons, ne_eq, not_false_eq_true, not_true_eq_false, false_and, and_false, false_implies, true_implies, reduceIte, mmU_rd, implies_true, or_false, false_or, or_true, true_or]
    refine mmC_step ?_
    simp only [cd_203, sg_203_0, sg_203_15, sg_203_17, sg_203_18, mmK_cut cd_203, q_cons, q_G0, q_GS, q_I1, q_L1, q_A1, q_S0, q_S1, q_SS, q_T0, q_T1, q_TS, q_Kn, q_Ki, q_Kl, q_Kr, q_k0, q_kS, q_rc, q_ps, q_pn, q_aload0, q_iload1, q_iload2, q_iload3, q_getfieldA, q_iaload, q_if_eq, q_iconst, q_goto, q_ireturn1, rf_11_61, mmKe_1261, mmKo_11, mmLen_1261, mmR32, mmR64, Option.some.injEq, Int.cast_ofNat_Int, and_true, true_and, if_true, if_false, List.length_cons, List.length_nil, Nat.le_refl, Nat.zero_le, Nat.sub_zero, forall_const, reduceCtorEq, Nat.reduceAdd, Nat.reduceSub, Nat.reduceLeDiff, Nat.reduceEqDiff, Int.reduceAdd, Int.reduceNeg, Int.reduceSub, Int.reduceLT, Int.reduceLE, Int.reduceMul, Int.reduceEq, List.drop_zero, List.drop_succ_cons, ne_eq, not_false_eq_true, not_true_eq_false, false_and, and_false, false_implies, true_implies, reduceIte, mmU_rd, implies_true, or_false, false_or, or_true, true_or]
    refine mT_in ⟨?_, f1, ml⟩
    rw [bI_pos c]
  simp only [mmK_cut cd_203, q_cons, q_G0, q_GS, q_I1, q_L1, q_A1, q_S0, q_S1, q_SS, q_T0, q_T1, q_TS, q_Kn, q_Ki, q_Kl, q_Kr, q_k0, q_kS, q_rc, q_ps, q_pn, q_aload0, q_iload1, q_iload2, q_iload3, q_getfieldA, q_iaload, q_if_eq, q_iconst, q_goto, q_ireturn1, rf_11_61, mmKe_1261, mmKo_11, mmLen_1261, mmR32, mmR64, Option.some.injEq, Int.cast_ofNat_Int, and_true, true_and, if_true, if_false, List.length_cons, List.length_nil, Nat.le_refl, Nat.zero_le, Nat.sub_zero, forall_const, reduceCtorEq, Nat.reduceAdd, Nat.reduceSub, Nat.reduceLeDiff, Nat.reduceEqDiff, Int.reduceAdd, Int.reduceNeg, Int.reduceSub, Int.reduceLT, Int.reduceLE, Int.reduceMul, Int.reduceEq, List.drop_zero, List.drop_succ_cons, ne_eq, not_false_eq_true, not_true_eq_false, false_and, and_false, false_implies, true_implies, reduceIte, mmU_rd, implies_true, or_false, false_or, or_true, true_or]
  rw [ml.1]
  refine ⟨hb.1, hb.2, fun c => w15 (Or.inr (List.eq_nil_of_length_eq_zero (by omega))), fun c => ?_⟩
  rw [q_invV (pay := [])]
  simp only [q_k0, q_kS, q_rc, mmKo_11]
  refine ⟨Nat.le_of_ble_eq_true rfl, by trivial, Nat.zero_le _, Nat.zero_le _, ?_⟩
  refine m_kingless (RK_V hR f1) (MB_V hM f1) hB hb hw ?_
  simp only [mmK_cut cd_203, q_cons, q_G0, q_GS, q_I1, q_L1, q_A1, q_S0, q_S1, q_SS, q_T0, q_T1, q_TS, q_Kn, q_Ki, q_Kl, q_Kr, q_k0, q_kS, q_rc, q_ps, q_pn, q_aload0, q_iload1, q_iload2, q_iload3, q_getfieldA, q_iaload, q_if_eq, q_iconst, q_goto, q_ireturn1, rf_11_61, mmKe_1261, mmKo_11, mmLen_1261, mmR32, mmR64, Option.some.injEq, Int.cast_ofNat_Int, and_true, true_and, if_true, if_false, List.length_cons, List.length_nil, Nat.le_refl, Nat.zero_le, Nat.sub_zero, forall_const, reduceCtorEq, Nat.reduceAdd, Nat.reduceSub, Nat.reduceLeDiff, Nat.reduceEqDiff, Int.reduceAdd, Int.reduceNeg, Int.reduceSub, Int.reduceLT, Int.reduceLE, Int.reduceMul, Int.reduceEq, List.drop_zero, List.drop_succ_cons, ne_eq, not_false_eq_true, not_true_eq_false, false_and, and_false, false_implies, true_implies, reduceIte, mmU_rd, implies_true, or_false, false_or, or_true, true_or, bI_eq0]
  refine ⟨fun c2 => ?_, fun c2 => w15 (Or.inl (Classical.not_not.mp c2))⟩
  refine mmC_step ?_
  simp only [cd_203, sg_203_0, sg_203_15, sg_203_17, sg_203_18, mmK_cut cd_203, q_cons, q_G0, q_GS, q_I1, q_L1, q_A1, q_S0, q_S1, q_SS, q_T0, q_T1, q_TS, q_Kn, q_Ki, q_Kl, q_Kr, q_k0, q_kS, q_rc, q_ps, q_pn, q_aload0, q_iload1, q_iload2, q_iload3, q_getfieldA, q_iaload, q_if_eq, q_iconst, q_goto, q_ireturn1, rf_11_61, mmKe_1261, mmKo_11, mmLen_1261, mmR32, mmR64, Option.some.injEq, Int.cast_ofNat_Int, and_true, true_and, if_true, if_false, List.length_cons, List.length_nil, Nat.le_refl, Nat.zero_le, Nat.sub_zero, forall_const, reduceCtorEq, Nat.reduceAdd, Nat.reduceSub, Nat.reduceLeDiff, Nat.reduceEqDiff, Int.reduceAdd, Int.reduceNeg, Int.reduceSub, Int.reduceLT, Int.reduceLE, Int.reduceMul, Int.reduceEq, List.drop_zero, List.drop_succ_cons, ne_eq, not_false_eq_true, not_true_eq_false, false_and, and_false, false_implies, true_implies, reduceIte, mmU_rd, implies_true, or_false, false_or, or_true, true_or]
  refine mmC_step ?_
  simp only [cd_203, sg_203_0, sg_203_15, sg_203_17, sg_203_18, mmK_cut cd_203, q_cons, q_G0, q_GS, q_I1, q_L1, q_A1, q_S0, q_S1, q_SS, q_T0, q_T1, q_TS, q_Kn, q_Ki, q_Kl, q_Kr, q_k0, q_kS, q_rc, q_ps, q_pn, q_aload0, q_iload1, q_iload2, q_iload3, q_getfieldA, q_iaload, q_if_eq, q_iconst, q_goto, q_ireturn1, rf_11_61, mmKe_1261, mmKo_11, mmLen_1261, mmR32, mmR64, Option.some.injEq, Int.cast_ofNat_Int, and_true, true_and, if_true, if_false, List.length_cons, List.length_nil, Nat.le_refl, Nat.zero_le, Nat.sub_zero, forall_const, reduceCtorEq, Nat.reduceAdd, Nat.reduceSub, Nat.reduceLeDiff, Nat.reduceEqDiff, Int.reduceAdd, Int.reduceNeg, Int.reduceSub, Int.reduceLT, Int.reduceLE, Int.reduceMul, Int.reduceEq, List.drop_zero, List.drop_succ_cons, ne_eq, not_false_eq_true, not_true_eq_false, false_and, and_false, false_implies, true_implies, reduceIte, mmU_rd, implies_true, or_false, false_or, or_true, true_or]
  refine mT_in ⟨?_, f1, ml⟩
  rw [bI_neg]
  rintro (q | q)
  · exact c2 q
  · rw [q] at c
    exact c rfl
end S819
