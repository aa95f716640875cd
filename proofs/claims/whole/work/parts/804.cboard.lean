def CR (I : mMm) (x : Nat) (r : mRu) : Prop := ∀ t k, rtag t → I t x k = r t k
def cK (r : mRu) (B : mBd) (w : Int) : Nat → Int
  | 0 => 0
  | n + 1 => cK r B w n + (if B n / 4 = w ∧ ¬ r 710 (B n % 4) = 0 then 1 else 0)
def BV (I : mMm) (j : Nat) (B : mBd) (m : Int) (r : mRu) : Prop := (∀ z, 0 ≤ z → z < 25 → I 101 j z = B z) ∧ I 0 j 4 = m ∧ (∀ w, w = 0 ∨ w = 1 → I 102 j w = cS B w 25 ∧ I 103 j w = cK r B w 25)
/-- rules with which one can play -/
def RQ (r : mRu) : Prop := RW r ∧ (∀ k, 0 ≤ k → k < r 6 2 → (r 709 k = 0 ∨ r 709 k = 1) ∧ (r 710 k = 0 ∨ r 710 k = 1) ∧ (1 ≤ r 711 k ∧ r 711 k ≤ 8) ∧ ∀ x, 0 ≤ x → x < r 711 k → (-4 ≤ r 712 (k * 8 + x) ∧ r 712 (k * 8 + x) ≤ 4) ∧ (-4 ≤ r 713 (k * 8 + x) ∧ r 713 (k * 8 + x) ≤ 4)) ∧ (0 ≤ r 1 2 ∧ r 1 2 ≤ 64) ∧ KW (r 200) (r 1 2)
def BW (r : mRu) (B : mBd) : Prop := (∀ z, 0 ≤ z → z < 25 → B z = -2 ∨ (0 ≤ B z ∧ B z < 8 ∧ B z % 4 < r 6 2 ∧ z < r 6 0 * r 6 1)) ∧ cS B 0 25 + cS B 1 25 ≤ 8
theorem cS_in {B : mBd} {w : Int} : ∀ n : Nat, 0 ≤ cS B w n ∧ cS B w n ≤ n
  | 0 => by unfold cS; omega
  | n + 1 => by
    have := cS_in (B := B) (w := w) n
    unfold cS
    split <;> omega
def LA (g : Int → Int) (L : List Int) : Prop := ∀ n : Nat, n < L.length → g n = L.getD n 0
theorem LA_ap {g : Int → Int} {L : List Int} {v : Int} (h : LA g L) : LA (fup g L.length v) (L ++ [v]) := by
  intro n hn
  rw [List.length_append, List.length_singleton] at hn
  unfold fup
  by_cases c : n = L.length
  · subst c
    rw [if_pos rfl]
    simp
  · rw [if_neg (by omega), h n (by omega)]
    rw [List.getD_eq_getElem?_getD, List.getD_eq_getElem?_getD, List.getElem?_append_left (by omega)]
theorem LA_ext {g g' : Int → Int} {L : List Int} (h : LA g L) (he : ∀ k : Int, 0 ≤ k → k < L.length → g' k = g k) : LA g' L := fun n hn => (he n (by omega) (by omega)).trans (h n hn)
theorem bit_get {A : Nat} {to : Int} (hA : A < 2 ^ 25) (ht : 0 ≤ to ∧ to < 25) : mmAnd (mmShr A to) 1 = if A.testBit to.toNat then 1 else 0 := by
  have hA' : (A : Int) < 33554432 := by
    have : (2 : Nat) ^ 25 = 33554432 := by decide
    omega
  rw [mmAnd_1, mmShr_div (k := to.toNat) ⟨by omega, by omega⟩ (by omega) (by omega), Nat.testBit_eq_decide_div_mod_eq]
  have e : ((A : Int) / ((2 ^ to.toNat : Nat) : Int)) % 2 = ((A / 2 ^ to.toNat % 2 : Nat) : Int) := by
    rw [← Int.natCast_ediv]; rfl
  rw [e]
  by_cases c : A / 2 ^ to.toNat % 2 = 1
  · rw [c]; simp
  · have : A / 2 ^ to.toNat % 2 = 0 := by omega
    rw [this]; simp
theorem bit_set {A : Nat} {to : Int} (hA : A < 2 ^ 25) (ht : 0 ≤ to ∧ to < 25) : mmOr A (mmShl 1 to) = ((A ||| 2 ^ to.toNat : Nat) : Int) ∧ A ||| 2 ^ to.toNat < 2 ^ 25 ∧ (0 ≤ mmShl 1 to) := by
  have h25 : (2 : Nat) ^ 25 = 33554432 := by decide
  have h2 : (2 : Nat) ^ to.toNat < 2 ^ 25 := Nat.pow_lt_pow_right (by omega) (by omega)
  have hs : mmShl 1 to = ((2 ^ to.toNat : Nat) : Int) := by
    rw [mmShl_mul (k := to.toNat) (by omega) (by omega) (by omega) (by omega)]; omega
  rw [hs]
  clear hs
  generalize (2 : Nat) ^ to.toNat = P at *
  refine ⟨?_, Nat.or_lt_two_pow hA h2, by omega⟩
  rw [mmOr_nat (by omega) (by omega) (by omega) (by omega)]
  simp
def AB (A : Nat) (fr : Int) (L : List Int) : Prop := A < 2 ^ 25 ∧ ∀ to : Int, 0 ≤ to → to < 25 → (A.testBit to.toNat = true ↔ fr * 64 + to ∈ L)
section S804
variable {d a j x tl il : Nat} {I I' I'' : mMm} {br : Nat → Option mmO} {R : Nat → Nat → Int → Option mmO} {X : mmX} {B : mBd} {m fr : Int} {r : mRu} {Q : Option mmV → mmM → Prop}
theorem AB_ap {A : Nat} {to : Int} {L : List Int} (h : AB A fr L) (ht : 0 ≤ to ∧ to < 25) : AB (A ||| 2 ^ to.toNat) fr (L ++ [fr * 64 + to]) := by
  refine ⟨(bit_set h.1 ht).2.1, fun u u0 u1 => ?_⟩
  rw [Nat.testBit_or, Nat.testBit_two_pow, List.mem_append, List.mem_singleton, Bool.or_eq_true, h.2 u u0 u1, decide_eq_true_eq]
  constructor
  · rintro (q | q)
    · exact Or.inl q
    · exact Or.inr (by omega)
  · rintro (q | q)
    · exact Or.inl q
    · exact Or.inr (by omega)
theorem sp_points (hC : CR I x r) (hw : RW r) (hQ : Q (some (mv (r 6 0 * r 6 1))) (I, mmRf a br, X)) : mmC (d + 1) 74 [mo 6 x] (I, mmRf a br, X) Q := by
  have h1 := pt_in hw.1 hw.2.1 (x := 0) (y := 0) (by have := hw.1; omega) (by have := hw.2.1; omega)
  have h2 : 0 ≤ r 6 0 * r 6 1 := Int.mul_nonneg (by have := hw.1; omega) (by have := hw.2.1; omega)
  refine mmC_in (by decide) (Nat.le_of_ble_eq_true rfl) (mmC_step ?_)
  simp only [show mmMl 74 = 1 from rfl, mmLs, List.replicate, cd_74, sg_74_0, mmK_cut cd_74, q_cons, q_G0, q_GS, q_I1, q_L1, q_A1, q_S0, q_S1, q_SS, q_T0, q_T1, q_TS, q_Kn, q_Ki, q_Kl, q_Kr, q_k0, q_kS, q_rc, q_ps, q_pn, q_aload0, q_getfieldI, q_imul, q_ireturn0, mmKo_6, mmR32, mmR64, Option.some.injEq, Int.cast_ofNat_Int, and_true, true_and, if_true, if_false, List.length_cons, List.length_nil, Nat.le_refl, Nat.zero_le, Nat.sub_zero, forall_const, reduceCtorEq, Nat.reduceAdd, Nat.reduceSub, Nat.reduceLeDiff, Nat.reduceEqDiff, Int.reduceAdd, Int.reduceNeg, Int.reduceSub, Int.reduceLT, Int.reduceLE, Int.reduceMul, Int.reduceEq, List.drop_zero, List.drop_succ_cons, ne_eq, not_false_eq_true, not_true_eq_false, false_and, and_false, false_implies, true_implies, reduceIte, mmU_rd, implies_true, or_false, false_or, or_true, true_or]
  rw [hC 6 0 rt6, hC 6 1 rt6]
  exact ⟨by omega, hQ⟩
theorem sp_isPoint {z : Int} (hb : br j = some (6, x)) (hC : CR I x r) (hw : RW r) (hQ : Q (some (mv (bI (0 ≤ z ∧ z < r 6 0 * r 6 1)))) (I, mmRf a br, X)) : mmC (d + 2) 4 [mo 0 j, mv z] (I, mmRf a br, X) Q := by
  refine mmC_in (by decide) (Nat.le_of_ble_eq_true rfl) (mmC_step ?_)
  simp only [show mmMl 4 = 2 from rfl, mmLs, List.replicate, cd_4, sg_4_0, sg_4_12, sg_4_13, mmK_cut cd_4, q_cons, q_G0, q_GS, q_I1, q_L1, q_A1, q_S0, q_S1, q_SS, q_T0, q_T1, q_TS, q_Kn, q_Ki, q_Kl, q_Kr, q_k0, q_kS, q_rc, q_ps, q_pn, q_aload0, q_getfieldA, q_ifnull, q_iload1, q_if_lt, q_invV, q_icmp_ge, q_iconst, q_goto, q_ireturn1, rf_0_0, mmKo_0, mmKo_6, mmR32, mmR64, Option.some.injEq, Int.cast_ofNat_Int, and_true, true_and, if_true, if_false, List.length_cons, List.length_nil, Nat.le_refl, Nat.zero_le, Nat.sub_zero, forall_const, reduceCtorEq, Nat.reduceAdd, Nat.reduceSub, Nat.reduceLeDiff, Nat.reduceEqDiff, Int.reduceAdd, Int.reduceNeg, Int.reduceSub, Int.reduceLT, Int.reduceLE, Int.reduceMul, Int.reduceEq, List.drop_zero, List.drop_succ_cons, ne_eq, not_false_eq_true, not_true_eq_false, false_and, and_false, false_implies, true_implies, reduceIte, mmU_rd, implies_true, or_false, false_or, or_true, true_or, hb]
  refine ⟨fun c => ?_, fun c => ?_⟩
  · refine mmC_step ?_
    simp only [cd_4, sg_4_0, sg_4_12, sg_4_13, mmK_cut cd_4, q_cons, q_G0, q_GS, q_I1, q_L1, q_A1, q_S0, q_S1, q_SS, q_T0, q_T1, q_TS, q_Kn, q_Ki, q_Kl, q_Kr, q_k0, q_kS, q_rc, q_ps, q_pn, q_aload0, q_getfieldA, q_ifnull, q_iload1, q_if_lt, q_invV, q_icmp_ge, q_iconst, q_goto, q_ireturn1, rf_0_0, mmKo_0, mmKo_6, mmR32, mmR64, Option.some.injEq, Int.cast_ofNat_Int, and_true, true_and, if_true, if_false, List.length_cons, List.length_nil, Nat.le_refl, Nat.zero_le, Nat.sub_zero, forall_const, reduceCtorEq, Nat.reduceAdd, Nat.reduceSub, Nat.reduceLeDiff, Nat.reduceEqDiff, Int.reduceAdd, Int.reduceNeg, Int.reduceSub, Int.reduceLT, Int.reduceLE, Int.reduceMul, Int.reduceEq, List.drop_zero, List.drop_succ_cons, ne_eq, not_false_eq_true, not_true_eq_false, false_and, and_false, false_implies, true_implies, reduceIte, mmU_rd, implies_true, or_false, false_or, or_true, true_or]
    refine mmC_step ?_
    simp only [cd_4, sg_4_0, sg_4_12, sg_4_13, mmK_cut cd_4, q_cons, q_G0, q_GS, q_I1, q_L1, q_A1, q_S0, q_S1, q_SS, q_T0, q_T1, q_TS, q_Kn, q_Ki, q_Kl, q_Kr, q_k0, q_kS, q_rc, q_ps, q_pn, q_aload0, q_getfieldA, q_ifnull, q_iload1, q_if_lt, q_invV, q_icmp_ge, q_iconst, q_goto, q_ireturn1, rf_0_0, mmKo_0, mmKo_6, mmR32, mmR64, Option.some.injEq, Int.cast_ofNat_Int, and_true, true_and, if_true, if_false, List.length_cons, List.length_nil, Nat.le_refl, Nat.zero_le, Nat.sub_zero, forall_const, reduceCtorEq, Nat.reduceAdd, Nat.reduceSub, Nat.reduceLeDiff, Nat.reduceEqDiff, Int.reduceAdd, Int.reduceNeg, Int.reduceSub, Int.reduceLT, Int.reduceLE, Int.reduceMul, Int.reduceEq, List.drop_zero, List.drop_succ_cons, ne_eq, not_false_eq_true, not_true_eq_false, false_and, and_false, false_implies, true_implies, reduceIte, mmU_rd, implies_true, or_false, false_or, or_true, true_or]
    exact q_b0 hQ (by omega)
  · refine sp_points hC hw ?_
    simp only [mmK_cut cd_4, q_cons, q_G0, q_GS, q_I1, q_L1, q_A1, q_S0, q_S1, q_SS, q_T0, q_T1, q_TS, q_Kn, q_Ki, q_Kl, q_Kr, q_k0, q_kS, q_rc, q_ps, q_pn, q_aload0, q_getfieldA, q_ifnull, q_iload1, q_if_lt, q_invV, q_icmp_ge, q_iconst, q_goto, q_ireturn1, rf_0_0, mmKo_0, mmKo_6, mmR32, mmR64, Option.some.injEq, Int.cast_ofNat_Int, and_true, true_and, if_true, if_false, List.length_cons, List.length_nil, Nat.le_refl, Nat.zero_le, Nat.sub_zero, forall_const, reduceCtorEq, Nat.reduceAdd, Nat.reduceSub, Nat.reduceLeDiff, Nat.reduceEqDiff, Int.reduceAdd, Int.reduceNeg, Int.reduceSub, Int.reduceLT, Int.reduceLE, Int.reduceMul, Int.reduceEq, List.drop_zero, List.drop_succ_cons, ne_eq, not_false_eq_true, not_true_eq_false, false_and, and_false, false_implies, true_implies, reduceIte, mmU_rd, implies_true, or_false, false_or, or_true, true_or]
    refine ⟨fun c2 => ?_, fun c2 => ?_⟩
    · refine mmC_step ?_
      simp only [cd_4, sg_4_0, sg_4_12, sg_4_13, mmK_cut cd_4, q_cons, q_G0, q_GS, q_I1, q_L1, q_A1, q_S0, q_S1, q_SS, q_T0, q_T1, q_TS, q_Kn, q_Ki, q_Kl, q_Kr, q_k0, q_kS, q_rc, q_ps, q_pn, q_aload0, q_getfieldA, q_ifnull, q_iload1, q_if_lt, q_invV, q_icmp_ge, q_iconst, q_goto, q_ireturn1, rf_0_0, mmKo_0, mmKo_6, mmR32, mmR64, Option.some.injEq, Int.cast_ofNat_Int, and_true, true_and, if_true, if_false, List.length_cons, List.length_nil, Nat.le_refl, Nat.zero_le, Nat.sub_zero, forall_const, reduceCtorEq, Nat.reduceAdd, Nat.reduceSub, Nat.reduceLeDiff, Nat.reduceEqDiff, Int.reduceAdd, Int.reduceNeg, Int.reduceSub, Int.reduceLT, Int.reduceLE, Int.reduceMul, Int.reduceEq, List.drop_zero, List.drop_succ_cons, ne_eq, not_false_eq_true, not_true_eq_false, false_and, and_false, false_implies, true_implies, reduceIte, mmU_rd, implies_true, or_false, false_or, or_true, true_or]
      refine mmC_step ?_
      simp only [cd_4, sg_4_0, sg_4_12, sg_4_13, mmK_cut cd_4, q_cons, q_G0, q_GS, q_I1, q_L1, q_A1, q_S0, q_S1, q_SS, q_T0, q_T1, q_TS, q_Kn, q_Ki, q_Kl, q_Kr, q_k0, q_kS, q_rc, q_ps, q_pn, q_aload0, q_getfieldA, q_ifnull, q_iload1, q_if_lt, q_invV, q_icmp_ge, q_iconst, q_goto, q_ireturn1, rf_0_0, mmKo_0, mmKo_6, mmR32, mmR64, Option.some.injEq, Int.cast_ofNat_Int, and_true, true_and, if_true, if_false, List.length_cons, List.length_nil, Nat.le_refl, Nat.zero_le, Nat.sub_zero, forall_const, reduceCtorEq, Nat.reduceAdd, Nat.reduceSub, Nat.reduceLeDiff, Nat.reduceEqDiff, Int.reduceAdd, Int.reduceNeg, Int.reduceSub, Int.reduceLT, Int.reduceLE, Int.reduceMul, Int.reduceEq, List.drop_zero, List.drop_succ_cons, ne_eq, not_false_eq_true, not_true_eq_false, false_and, and_false, false_implies, true_implies, reduceIte, mmU_rd, implies_true, or_false, false_or, or_true, true_or]
      exact q_b0 hQ (by omega)
    · refine mmC_step ?_
      simp only [cd_4, sg_4_0, sg_4_12, sg_4_13, mmK_cut cd_4, q_cons, q_G0, q_GS, q_I1, q_L1, q_A1, q_S0, q_S1, q_SS, q_T0, q_T1, q_TS, q_Kn, q_Ki, q_Kl, q_Kr, q_k0, q_kS, q_rc, q_ps, q_pn, q_aload0, q_getfieldA, q_ifnull, q_iload1, q_if_lt, q_invV, q_icmp_ge, q_iconst, q_goto, q_ireturn1, rf_0_0, mmKo_0, mmKo_6, mmR32, mmR64, Option.some.injEq, Int.cast_ofNat_Int, and_true, true_and, if_true, if_false, List.length_cons, List.length_nil, Nat.le_refl, Nat.zero_le, Nat.sub_zero, forall_const, reduceCtorEq, Nat.reduceAdd, Nat.reduceSub, Nat.reduceLeDiff, Nat.reduceEqDiff, Int.reduceAdd, Int.reduceNeg, Int.reduceSub, Int.reduceLT, Int.reduceLE, Int.reduceMul, Int.reduceEq, List.drop_zero, List.drop_succ_cons, ne_eq, not_false_eq_true, not_true_eq_false, false_and, and_false, false_implies, true_implies, reduceIte, mmU_rd, implies_true, or_false, false_or, or_true, true_or]
      exact q_b1 hQ (by omega)
theorem B_r32 {z : Int} (hB : BW r B) (hz : 0 ≤ z ∧ z < 25) : mmR32 (B z) ∧ -2 ≤ B z ∧ B z < 8 := by
  have := hB.1 z hz.1 hz.2
  refine ⟨⟨by omega, by omega⟩, by omega, by omega⟩
theorem sp_isOwn {z : Int} (hV : BV I j B m r) (hB : BW r B) (hz : 0 ≤ z ∧ z < 25) (hQ : Q (some (mv (bI (B z / 4 = m % 2)))) (I, mmRf a br, X)) : mmC (d + 1) 5 [mo 0 j, mv z] (I, mmRf a br, X) Q := by
  have hr := B_r32 hB hz
  refine mmC_in (by decide) (Nat.le_of_ble_eq_true rfl) (mmC_step ?_)
  simp only [show mmMl 5 = 2 from rfl, mmLs, List.replicate, cd_5, sg_5_0, sg_5_13, sg_5_14, mmK_cut cd_5, q_cons, q_G0, q_GS, q_I1, q_L1, q_A1, q_S0, q_S1, q_SS, q_T0, q_T1, q_TS, q_Kn, q_Ki, q_Kl, q_Kr, q_k0, q_kS, q_rc, q_ps, q_pn, q_aload0, q_getfieldA, q_iload1, q_iaload, q_iconst, q_ishr, q_getfieldI, q_iand, q_icmp_ne, q_goto, q_ireturn1, rf_0_1, mmKe_101, mmKo_0, mmLen_101, mmR32, mmR64, Option.some.injEq, Int.cast_ofNat_Int, and_true, true_and, if_true, if_false, List.length_cons, List.length_nil, Nat.le_refl, Nat.zero_le, Nat.sub_zero, forall_const, reduceCtorEq, Nat.reduceAdd, Nat.reduceSub, Nat.reduceLeDiff, Nat.reduceEqDiff, Int.reduceAdd, Int.reduceNeg, Int.reduceSub, Int.reduceLT, Int.reduceLE, Int.reduceMul, Int.reduceEq, List.drop_zero, List.drop_succ_cons, ne_eq, not_false_eq_true, not_true_eq_false, false_and, and_false, false_implies, true_implies, reduceIte, mmU_rd, implies_true, or_false, false_or, or_true, true_or]
  rw [hV.1 z hz.1 hz.2, hV.2.1, mmShr_2 hr.1, mmAnd_1]
  refine ⟨by omega, by omega, fun c => ?_, fun c => ?_⟩
  · refine mmC_step ?_
    simp only [cd_5, sg_5_0, sg_5_13, sg_5_14, mmK_cut cd_5, q_cons, q_G0, q_GS, q_I1, q_L1, q_A1, q_S0, q_S1, q_SS, q_T0, q_T1, q_TS, q_Kn, q_Ki, q_Kl, q_Kr, q_k0, q_kS, q_rc, q_ps, q_pn, q_aload0, q_getfieldA, q_iload1, q_iaload, q_iconst, q_ishr, q_getfieldI, q_iand, q_icmp_ne, q_goto, q_ireturn1, rf_0_1, mmKe_101, mmKo_0, mmLen_101, mmR32, mmR64, Option.some.injEq, Int.cast_ofNat_Int, and_true, true_and, if_true, if_false, List.length_cons, List.length_nil, Nat.le_refl, Nat.zero_le, Nat.sub_zero, forall_const, reduceCtorEq, Nat.reduceAdd, Nat.reduceSub, Nat.reduceLeDiff, Nat.reduceEqDiff, Int.reduceAdd, Int.reduceNeg, Int.reduceSub, Int.reduceLT, Int.reduceLE, Int.reduceMul, Int.reduceEq, List.drop_zero, List.drop_succ_cons, ne_eq, not_false_eq_true, not_true_eq_false, false_and, and_false, false_implies, true_implies, reduceIte, mmU_rd, implies_true, or_false, false_or, or_true, true_or]
    refine mmC_step ?_
    simp only [cd_5, sg_5_0, sg_5_13, sg_5_14, mmK_cut cd_5, q_cons, q_G0, q_GS, q_I1, q_L1, q_A1, q_S0, q_S1, q_SS, q_T0, q_T1, q_TS, q_Kn, q_Ki, q_Kl, q_Kr, q_k0, q_kS, q_rc, q_ps, q_pn, q_aload0, q_getfieldA, q_iload1, q_iaload, q_iconst, q_ishr, q_getfieldI, q_iand, q_icmp_ne, q_goto, q_ireturn1, rf_0_1, mmKe_101, mmKo_0, mmLen_101, mmR32, mmR64, Option.some.injEq, Int.cast_ofNat_Int, and_true, true_and, if_true, if_false, List.length_cons, List.length_nil, Nat.le_refl, Nat.zero_le, Nat.sub_zero, forall_const, reduceCtorEq, Nat.reduceAdd, Nat.reduceSub, Nat.reduceLeDiff, Nat.reduceEqDiff, Int.reduceAdd, Int.reduceNeg, Int.reduceSub, Int.reduceLT, Int.reduceLE, Int.reduceMul, Int.reduceEq, List.drop_zero, List.drop_succ_cons, ne_eq, not_false_eq_true, not_true_eq_false, false_and, and_false, false_implies, true_implies, reduceIte, mmU_rd, implies_true, or_false, false_or, or_true, true_or]
    exact q_b0 hQ c
  · refine mmC_step ?_
    simp only [cd_5, sg_5_0, sg_5_13, sg_5_14, mmK_cut cd_5, q_cons, q_G0, q_GS, q_I1, q_L1, q_A1, q_S0, q_S1, q_SS, q_T0, q_T1, q_TS, q_Kn, q_Ki, q_Kl, q_Kr, q_k0, q_kS, q_rc, q_ps, q_pn, q_aload0, q_getfieldA, q_iload1, q_iaload, q_iconst, q_ishr, q_getfieldI, q_iand, q_icmp_ne, q_goto, q_ireturn1, rf_0_1, mmKe_101, mmKo_0, mmLen_101, mmR32, mmR64, Option.some.injEq, Int.cast_ofNat_Int, and_true, true_and, if_true, if_false, List.length_cons, List.length_nil, Nat.le_refl, Nat.zero_le, Nat.sub_zero, forall_const, reduceCtorEq, Nat.reduceAdd, Nat.reduceSub, Nat.reduceLeDiff, Nat.reduceEqDiff, Int.reduceAdd, Int.reduceNeg, Int.reduceSub, Int.reduceLT, Int.reduceLE, Int.reduceMul, Int.reduceEq, List.drop_zero, List.drop_succ_cons, ne_eq, not_false_eq_true, not_true_eq_false, false_and, and_false, false_implies, true_implies, reduceIte, mmU_rd, implies_true, or_false, false_or, or_true, true_or]
    exact q_b1 hQ c
/-- the facts of a stone -/
def TS (I : mMm) (j : Nat) (r : mRu) (B : mBd) (m k : Int) : Prop := I 105 j 3 = k ∧ I 105 j 4 = cS B (m % 2) 25 ∧ I 105 j 5 = cS B (1 - m % 2) 25 ∧ I 105 j 6 = m ∧ I 105 j 7 = (if r 710 k = 0 then 0 else 1)
theorem c_tellStone {k : Int} (hb : br j = some (6, x)) (hC : CR I x r) (hV : BV I j B m r) (hk : 0 ≤ k ∧ k < 4) : mmC (d + 1) 14 [mo 0 j, mv k] (I, mmRf a br, X) (mT a br X fun v I' => v = none ∧ (∀ t i z, ¬ (t = 105 ∧ i = j) → I' t i z = I t i z) ∧ TS I' j r B m k) := by
  have h2 : m % 2 = 0 ∨ m % 2 = 1 := by omega
  have w46 : ∀ z, z = (if r 710 k = 0 then 0 else 1) → mmK d 14 (mT a br X fun v I' => v = none ∧ (∀ t i z, ¬ (t = 105 ∧ i = j) → I' t i z = I t i z) ∧ TS I' j r B m k) 46 [some (mo 0 j), some (mv k), some (mv (m % 2))] [mv z, mv 7, mo 105 j] (mmU (mmU (mmU (mmU I 105 j 3 k) 105 j 4 (cS B (m % 2) 25)) 105 j 5 (cS B (1 - m % 2) 25)) 105 j 6 m, mmRf a br, X) := by
    intro z hz
    refine mmC_step ?_
    simp only [cd_14, sg_14_0, sg_14_45, sg_14_46, mmK_cut cd_14, q_cons, q_G0, q_GS, q_I1, q_L1, q_A1, q_S0, q_S1, q_SS, q_T0, q_T1, q_TS, q_Kn, q_Ki, q_Kl, q_Kr, q_k0, q_kS, q_rc, q_ps, q_pn, q_aload0, q_getfieldI, q_iconst, q_iand, q_istore2, q_getfieldA, q_iload1, q_iastore, q_iload2, q_iaload, q_isub, q_bipush, q_baload, q_if_eq, q_goto, q_return, rf_0_0, rf_0_2, rf_0_5, rf_6_10, mmKe_102, mmKe_105, mmKe_710, mmKo_0, mmKo_6, mmLen_102, mmLen_105, mmLen_710, mmR32, mmR64, Option.some.injEq, Int.cast_ofNat_Int, and_true, true_and, if_true, if_false, List.length_cons, List.length_nil, Nat.le_refl, Nat.zero_le, Nat.sub_zero, forall_const, reduceCtorEq, Nat.reduceAdd, Nat.reduceSub, Nat.reduceLeDiff, Nat.reduceEqDiff, Int.reduceAdd, Int.reduceNeg, Int.reduceSub, Int.reduceLT, Int.reduceLE, Int.reduceMul, Int.reduceEq, List.drop_zero, List.drop_succ_cons, ne_eq, not_false_eq_true, not_true_eq_false, false_and, and_false, false_implies, true_implies, reduceIte, mmU_rd, implies_true, or_false, false_or, or_true, true_or]
    refine mT_in ⟨rfl, fun t i q c => ?_, ?_, ?_, ?_, ?_, ?_⟩
    · unfold mmU
      rw [if_neg (by omega), if_neg (by omega), if_neg (by omega), if_neg (by omega), if_neg (by omega)]
    all_goals simp [mmU, hz]
  refine mmC_in (by decide) (Nat.le_of_ble_eq_true rfl) (mmC_step ?_)
  simp only [show mmMl 14 = 3 from rfl, mmLs, List.replicate, cd_14, sg_14_0, sg_14_45, sg_14_46, mmK_cut cd_14, q_cons, q_G0, q_GS, q_I1, q_L1, q_A1, q_S0, q_S1, q_SS, q_T0, q_T1, q_TS, q_Kn, q_Ki, q_Kl, q_Kr, q_k0, q_kS, q_rc, q_ps, q_pn, q_aload0, q_getfieldI, q_iconst, q_iand, q_istore2, q_getfieldA, q_iload1, q_iastore, q_iload2, q_iaload, q_isub, q_bipush, q_baload, q_if_eq, q_goto, q_return, rf_0_0, rf_0_2, rf_0_5, rf_6_10, mmKe_102, mmKe_105, mmKe_710, mmKo_0, mmKo_6, mmLen_102, mmLen_105, mmLen_710, mmR32, mmR64, Option.some.injEq, Int.cast_ofNat_Int, and_true, true_and, if_true, if_false, List.length_cons, List.length_nil, Nat.le_refl, Nat.zero_le, Nat.sub_zero, forall_const, reduceCtorEq, Nat.reduceAdd, Nat.reduceSub, Nat.reduceLeDiff, Nat.reduceEqDiff, Int.reduceAdd, Int.reduceNeg, Int.reduceSub, Int.reduceLT, Int.reduceLE, Int.reduceMul, Int.reduceEq, List.drop_zero, List.drop_succ_cons, ne_eq, not_false_eq_true, not_true_eq_false, false_and, and_false, false_implies, true_implies, reduceIte, mmU_rd, implies_true, or_false, false_or, or_true, true_or, hb]
  rw [hV.2.1, mmAnd_1, (hV.2.2 (m % 2) h2).1, (hV.2.2 (1 - m % 2) (by omega)).1, hC 710 k (rt7 (by omega))]
  repeat' (first | omega | refine And.intro ?_ ?_)
  · intro c
    refine mmC_step ?_
    simp only [cd_14, sg_14_0, sg_14_45, sg_14_46, mmK_cut cd_14, q_cons, q_G0, q_GS, q_I1, q_L1, q_A1, q_S0, q_S1, q_SS, q_T0, q_T1, q_TS, q_Kn, q_Ki, q_Kl, q_Kr, q_k0, q_kS, q_rc, q_ps, q_pn, q_aload0, q_getfieldI, q_iconst, q_iand, q_istore2, q_getfieldA, q_iload1, q_iastore, q_iload2, q_iaload, q_isub, q_bipush, q_baload, q_if_eq, q_goto, q_return, rf_0_0, rf_0_2, rf_0_5, rf_6_10, mmKe_102, mmKe_105, mmKe_710, mmKo_0, mmKo_6, mmLen_102, mmLen_105, mmLen_710, mmR32, mmR64, Option.some.injEq, Int.cast_ofNat_Int, and_true, true_and, if_true, if_false, List.length_cons, List.length_nil, Nat.le_refl, Nat.zero_le, Nat.sub_zero, forall_const, reduceCtorEq, Nat.reduceAdd, Nat.reduceSub, Nat.reduceLeDiff, Nat.reduceEqDiff, Int.reduceAdd, Int.reduceNeg, Int.reduceSub, Int.reduceLT, Int.reduceLE, Int.reduceMul, Int.reduceEq, List.drop_zero, List.drop_succ_cons, ne_eq, not_false_eq_true, not_true_eq_false, false_and, and_false, false_implies, true_implies, reduceIte, mmU_rd, implies_true, or_false, false_or, or_true, true_or]
    exact w46 _ (by rw [if_pos c])
  · intro c
    exact w46 _ (by rw [if_neg c])
theorem c_tellWay {there y far : Int} (hb : br j = some (6, x)) (hC : CR I x r) (hw : RW r) (hV : BV I j B m r) (ht : -2 ≤ there ∧ there < 8) (hy : 0 ≤ y ∧ y < r 6 1) : mmC (d + 1) 15 [mo 0 j, mv there, mv y, mv far] (I, mmRf a br, X) (mT a br X fun v I' => v = none ∧ (∀ t i z, ¬ (t = 105 ∧ i = j ∧ 0 ≤ z ∧ z ≤ 2) → I' t i z = I t i z) ∧ I' 105 j 0 = (if there / 4 = 1 - m % 2 then 1 else 0) ∧ I' 105 j 1 = far ∧ I' 105 j 2 = (if m % 2 = 0 then y else r 6 1 - 1 - y)) := by
  have h2 : m % 2 = 0 ∨ m % 2 = 1 := by omega
  have hw1 := hw.2.1
  have w38 : ∀ z0 z, z0 = (if there / 4 = 1 - m % 2 then 1 else 0) → z = (if m % 2 = 0 then y else r 6 1 - 1 - y) → mmK d 15 (mT a br X fun v I' => v = none ∧ (∀ t i z, ¬ (t = 105 ∧ i = j ∧ 0 ≤ z ∧ z ≤ 2) → I' t i z = I t i z) ∧ I' 105 j 0 = (if there / 4 = 1 - m % 2 then 1 else 0) ∧ I' 105 j 1 = far ∧ I' 105 j 2 = (if m % 2 = 0 then y else r 6 1 - 1 - y)) 38 [some (mo 0 j), some (mv there), some (mv y), some (mv far), some (mv (m % 2))] [mv z, mv 2, mo 105 j] (mmU (mmU I 105 j 0 z0) 105 j 1 far, mmRf a br, X) := by
    intro z0 z hz0 hz
    refine mmC_step ?_
    simp only [cd_15, sg_15_0, sg_15_17, sg_15_18, sg_15_31, sg_15_38, mmK_cut cd_15, q_cons, q_G0, q_GS, q_I1, q_L1, q_A1, q_S0, q_S1, q_SS, q_T0, q_T1, q_TS, q_Kn, q_Ki, q_Kl, q_Kr, q_k0, q_kS, q_rc, q_ps, q_pn, q_aload0, q_getfieldI, q_iconst, q_iand, q_istore, q_getfieldA, q_iload1, q_ishr, q_iload, q_isub, q_icmp_ne, q_goto, q_iastore, q_iload3, q_if_ne, q_iload2, q_return, rf_0_0, rf_0_5, mmKe_105, mmKo_0, mmKo_6, mmLen_105, mmR32, mmR64, Option.some.injEq, Int.cast_ofNat_Int, and_true, true_and, if_true, if_false, List.length_cons, List.length_nil, Nat.le_refl, Nat.zero_le, Nat.sub_zero, forall_const, reduceCtorEq, Nat.reduceAdd, Nat.reduceSub, Nat.reduceLeDiff, Nat.reduceEqDiff, Int.reduceAdd, Int.reduceNeg, Int.reduceSub, Int.reduceLT, Int.reduceLE, Int.reduceMul, Int.reduceEq, List.drop_zero, List.drop_succ_cons, ne_eq, not_false_eq_true, not_true_eq_false, false_and, and_false, false_implies, true_implies, reduceIte, mmU_rd, implies_true, or_false, false_or, or_true, true_or]
    refine mT_in ⟨rfl, fun t i q c => ?_, ?_, ?_, ?_⟩
    · unfold mmU
      rw [if_neg (by omega), if_neg (by omega), if_neg (by omega)]
    all_goals simp [mmU, hz, hz0]
  have w18 : ∀ z0, z0 = (if there / 4 = 1 - m % 2 then 1 else 0) → mmK d 15 (mT a br X fun v I' => v = none ∧ (∀ t i z, ¬ (t = 105 ∧ i = j ∧ 0 ≤ z ∧ z ≤ 2) → I' t i z = I t i z) ∧ I' 105 j 0 = (if there / 4 = 1 - m % 2 then 1 else 0) ∧ I' 105 j 1 = far ∧ I' 105 j 2 = (if m % 2 = 0 then y else r 6 1 - 1 - y)) 18 [some (mo 0 j), some (mv there), some (mv y), some (mv far), some (mv (m % 2))] [mv z0, mv 0, mo 105 j] (I, mmRf a br, X) := by
    intro z0 hz0
    refine mmC_step ?_
    simp only [cd_15, sg_15_0, sg_15_17, sg_15_18, sg_15_31, sg_15_38, mmK_cut cd_15, q_cons, q_G0, q_GS, q_I1, q_L1, q_A1, q_S0, q_S1, q_SS, q_T0, q_T1, q_TS, q_Kn, q_Ki, q_Kl, q_Kr, q_k0, q_kS, q_rc, q_ps, q_pn, q_aload0, q_getfieldI, q_iconst, q_iand, q_istore, q_getfieldA, q_iload1, q_ishr, q_iload, q_isub, q_icmp_ne, q_goto, q_iastore, q_iload3, q_if_ne, q_iload2, q_return, rf_0_0, rf_0_5, mmKe_105, mmKo_0, mmKo_6, mmLen_105, mmR32, mmR64, Option.some.injEq, Int.cast_ofNat_Int, and_true, true_and, if_true, if_false, List.length_cons, List.length_nil, Nat.le_refl, Nat.zero_le, Nat.sub_zero, forall_const, reduceCtorEq, Nat.reduceAdd, Nat.reduceSub, Nat.reduceLeDiff, Nat.reduceEqDiff, Int.reduceAdd, Int.reduceNeg, Int.reduceSub, Int.reduceLT, Int.reduceLE, Int.reduceMul, Int.reduceEq, List.drop_zero, List.drop_succ_cons, ne_eq, not_false_eq_true, not_true_eq_false, false_and, and_false, false_implies, true_implies, reduceIte, mmU_rd, implies_true, or_false, false_or, or_true, true_or]
    refine ⟨fun c => ?_, fun c => ?_⟩
    · refine mmC_step ?_
      simp only [cd_15, sg_15_0, sg_15_17, sg_15_18, sg_15_31, sg_15_38, mmK_cut cd_15, q_cons, q_G0, q_GS, q_I1, q_L1, q_A1, q_S0, q_S1, q_SS, q_T0, q_T1, q_TS, q_Kn, q_Ki, q_Kl, q_Kr, q_k0, q_kS, q_rc, q_ps, q_pn, q_aload0, q_getfieldI, q_iconst, q_iand, q_istore, q_getfieldA, q_iload1, q_ishr, q_iload, q_isub, q_icmp_ne, q_goto, q_iastore, q_iload3, q_if_ne, q_iload2, q_return, rf_0_0, rf_0_5, mmKe_105, mmKo_0, mmKo_6, mmLen_105, mmR32, mmR64, Option.some.injEq, Int.cast_ofNat_Int, and_true, true_and, if_true, if_false, List.length_cons, List.length_nil, Nat.le_refl, Nat.zero_le, Nat.sub_zero, forall_const, reduceCtorEq, Nat.reduceAdd, Nat.reduceSub, Nat.reduceLeDiff, Nat.reduceEqDiff, Int.reduceAdd, Int.reduceNeg, Int.reduceSub, Int.reduceLT, Int.reduceLE, Int.reduceMul, Int.reduceEq, List.drop_zero, List.drop_succ_cons, ne_eq, not_false_eq_true, not_true_eq_false, false_and, and_false, false_implies, true_implies, reduceIte, mmU_rd, implies_true, or_false, false_or, or_true, true_or, hb]
      rw [hC 6 1 rt6]
      exact ⟨by omega, by omega, w38 z0 _ hz0 (by rw [if_neg c])⟩
    · exact w38 z0 _ hz0 (by rw [if_pos c])
  refine mmC_in (by decide) (Nat.le_of_ble_eq_true rfl) (mmC_step ?_)
  simp only [show mmMl 15 = 5 from rfl, mmLs, List.replicate, cd_15, sg_15_0, sg_15_17, sg_15_18, sg_15_31, sg_15_38, mmK_cut cd_15, q_cons, q_G0, q_GS, q_I1, q_L1, q_A1, q_S0, q_S1, q_SS, q_T0, q_T1, q_TS, q_Kn, q_Ki, q_Kl, q_Kr, q_k0, q_kS, q_rc, q_ps, q_pn, q_aload0, q_getfieldI, q_iconst, q_iand, q_istore, q_getfieldA, q_iload1, q_ishr, q_iload, q_isub, q_icmp_ne, q_goto, q_iastore, q_iload3, q_if_ne, q_iload2, q_return, rf_0_0, rf_0_5, mmKe_105, mmKo_0, mmKo_6, mmLen_105, mmR32, mmR64, Option.some.injEq, Int.cast_ofNat_Int, and_true, true_and, if_true, if_false, List.length_cons, List.length_nil, Nat.le_refl, Nat.zero_le, Nat.sub_zero, forall_const, reduceCtorEq, Nat.reduceAdd, Nat.reduceSub, Nat.reduceLeDiff, Nat.reduceEqDiff, Int.reduceAdd, Int.reduceNeg, Int.reduceSub, Int.reduceLT, Int.reduceLE, Int.reduceMul, Int.reduceEq, List.drop_zero, List.drop_succ_cons, ne_eq, not_false_eq_true, not_true_eq_false, false_and, and_false, false_implies, true_implies, reduceIte, mmU_rd, implies_true, or_false, false_or, or_true, true_or]
  rw [hV.2.1, mmAnd_1, mmShr_2 ⟨by omega, by omega⟩]
  refine ⟨by omega, fun c => ?_, fun c => ?_⟩
  · refine mmC_step ?_
    simp only [cd_15, sg_15_0, sg_15_17, sg_15_18, sg_15_31, sg_15_38, mmK_cut cd_15, q_cons, q_G0, q_GS, q_I1, q_L1, q_A1, q_S0, q_S1, q_SS, q_T0, q_T1, q_TS, q_Kn, q_Ki, q_Kl, q_Kr, q_k0, q_kS, q_rc, q_ps, q_pn, q_aload0, q_getfieldI, q_iconst, q_iand, q_istore, q_getfieldA, q_iload1, q_ishr, q_iload, q_isub, q_icmp_ne, q_goto, q_iastore, q_iload3, q_if_ne, q_iload2, q_return, rf_0_0, rf_0_5, mmKe_105, mmKo_0, mmKo_6, mmLen_105, mmR32, mmR64, Option.some.injEq, Int.cast_ofNat_Int, and_true, true_and, if_true, if_false, List.length_cons, List.length_nil, Nat.le_refl, Nat.zero_le, Nat.sub_zero, forall_const, reduceCtorEq, Nat.reduceAdd, Nat.reduceSub, Nat.reduceLeDiff, Nat.reduceEqDiff, Int.reduceAdd, Int.reduceNeg, Int.reduceSub, Int.reduceLT, Int.reduceLE, Int.reduceMul, Int.reduceEq, List.drop_zero, List.drop_succ_cons, ne_eq, not_false_eq_true, not_true_eq_false, false_and, and_false, false_implies, true_implies, reduceIte, mmU_rd, implies_true, or_false, false_or, or_true, true_or]
    exact w18 _ (by rw [if_neg c])
  · exact w18 _ (by rw [if_pos c])
theorem c_worth {F : Int → Int} (hC : CR I x r) (hq : RQ r) (hF : ∀ k, 0 ≤ k → k < 8 → I 105 j k = F k ∧ -2147483648 ≤ F k ∧ F k ≤ 2147483647) : mmC (d + 2) 21 [mo 1 x, mo 105 j] (I, mmRf a br, X) (mT a br X fun v I' => v = some (ml (lwV r F)) ∧ ∀ t i z, ¬ t = 201 → I' t i z = I t i z) := by
  have e1 : I 1 x 2 = r 1 2 := hC 1 2 (Or.inr (Or.inl rfl))
  have e2 : I 200 x = r 200 := funext fun z => hC 200 z (Or.inr (Or.inr (Or.inl rfl)))
  refine sp_worth rfl rfl (by omega) (fun k h0 h1 => by have := hF k h0 h1; omega) (by rw [e1]; exact hq.2.2.1) (by rw [e1, e2]; exact hq.2.2.2) (mT_in ⟨?_, fun t i z c => ?_⟩)
  · rw [e1, e2, lwV_eq (F := F) (fun k h0 h1 => (hF k h0 h1).1)]
  · unfold mmUr
    rw [if_neg (fun q => c q.1)]
end S804
