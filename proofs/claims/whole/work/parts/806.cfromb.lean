section S806
variable {d a j x tl il : Nat} {I I' I'' : mMm} {br : Nat → Option mmO} {R : Nat → Nat → Int → Option mmO} {X : mmX} {B : mBd} {m fr : Int} {r : mRu} {Q : Option mmV → mmM → Prop}
theorem pt_b {p far : Int} (w0 : 2 ≤ r 6 0 ∧ r 6 0 ≤ 5) (hfr : 0 ≤ fr ∧ fr < 25) (hst : (-4 ≤ r 712 p ∧ r 712 p ≤ 4) ∧ (-4 ≤ r 713 p ∧ r 713 p ≤ 4)) (hf : 1 ≤ far ∧ far ≤ 4) : (-100 ≤ ptX r fr p far ∧ ptX r fr p far ≤ 100) ∧ (-100 ≤ ptY r fr p far ∧ ptY r fr p far ≤ 100) ∧ ptX r fr p (far - 1) + r 712 p = ptX r fr p far ∧ ptY r fr p (far - 1) + r 713 p = ptY r fr p far := by
  have h1 := mul_in (n := far) (a := r 712 p) (by omega) hst.1
  have h2 := mul_in (n := far) (a := r 713 p) (by omega) hst.2
  have h3 := Int.emod_nonneg fr (show r 6 0 ≠ 0 by omega)
  have h4 := Int.emod_lt_of_pos fr (show 0 < r 6 0 by omega)
  have h5 := Int.ediv_nonneg hfr.1 (show 0 ≤ r 6 0 by omega)
  have h6 := Int.ediv_le_self (r 6 0) hfr.1
  unfold ptX ptY
  rw [Int.sub_mul, Int.sub_mul, Int.one_mul, Int.one_mul]
  omega
theorem nin {px py : Int} (h : px < 0 ∨ r 6 0 ≤ px ∨ py < 0 ∨ r 6 1 ≤ py) : ¬ inB r px py := by unfold inB; omega
theorem cap_lt {a b c : Nat} {z : Int} (h1 : b = a + 1) (h2 : b ≤ c) (h : (c : Int) ≤ z ∨ (b : Int) ≤ z) : (a : Int) < z := by omega
theorem ad_len {L : List Int} {to far : Int} (h : okM r B m fr to far ∧ ¬ fr * 64 + to ∈ L) : (adM r B m fr to far L).length = L.length + 1 := by
  unfold adM
  rw [if_pos h, List.length_append, List.length_singleton]
set_option maxHeartbeats 1000000 in
theorem c_fromB {s kd : Int} {tm : Nat} {l3 l4 l8 : Option mmV} (hl : LTg tl) (hb : br j = some (6, x)) (hC : CR I x r) (hq : RQ r) (hV : BV I j B m r) (hB : BW r B) (hm : 0 ≤ m ∧ m < 100) (hfr : 0 ≤ fr ∧ fr < 25) (hkd : B fr % 4 = kd) (hks : 0 ≤ kd * 8 + s ∧ kd * 8 + s < 32) (hst : (-4 ≤ r 712 (kd * 8 + s) ∧ r 712 (kd * 8 + s) ≤ 4) ∧ (-4 ≤ r 713 (kd * 8 + s) ∧ r 713 (kd * 8 + s) ≤ 4)) (htm : 1 ≤ tm ∧ tm ≤ 4) :
    ∀ (q : Nat) (far : Int) (L : List Int) (A : Nat) (I1 : mMm) (l13 l14 : Option mmV), 1 ≤ far → far + q = tm + 1 → FS I I1 j tl il r B m fr kd L A → ((stepL r B m fr (kd * 8 + s) q far L).length : Int) ≤ mmLen tl →
      (∀ (A2 : Nat) (I2 : mMm) (l10 l11 l12 l13 l14 : Option mmV), FS I I2 j tl il r B m fr kd (stepL r B m fr (kd * 8 + s) q far L) A2 → mmK (d + 2) 12 Q 171 [some (mo 0 j), some (mv fr), some (mo tl il), l3, l4, some (mv tm), some (mv (stepL r B m fr (kd * 8 + s) q far L).length), some (mv A2), l8, some (mv (kd * 8 + s)), l10, l11, l12, l13, l14] [] (I2, mmRf a br, X)) →
      mmK (d + 2) 12 Q 68 [some (mo 0 j), some (mv fr), some (mo tl il), l3, l4, some (mv tm), some (mv L.length), some (mv A), l8, some (mv (kd * 8 + s)), some (mv (ptX r fr (kd * 8 + s) (far - 1))), some (mv (ptY r fr (kd * 8 + s) (far - 1))), some (mv far), l13, l14] [] (I1, mmRf a br, X) := by
  intro q
  induction q with
  | zero =>
    intro far L A I1 l13 l14 f1 f2 fs cap cont
    refine mmC_step ?_
    simp only [cd_12, sg_12_0, sg_12_13, sg_12_15, sg_12_30, sg_12_31, sg_12_41, sg_12_68, sg_12_102, sg_12_130, sg_12_131, sg_12_162, sg_12_169, sg_12_171, sg_12_173, mmK_cut cd_12, q_cons, q_G0, q_GS, q_I1, q_L1, q_A1, q_S0, q_S1, q_SS, q_T0, q_T1, q_TS, q_Kn, q_Ki, q_Kl, q_Kr, q_k0, q_kS, q_rc, q_ps, q_pn, q_aload0, q_iload1, q_invV, q_if_eq, q_getfieldA, q_getfieldI, q_iconst, q_icmp_ge, q_iload3, q_ireturn0, q_iaload, q_iand, q_istore, q_iload, q_baload, q_goto, q_bipush, q_imul, q_iadd, q_irem, q_idiv, q_icmp_gt, q_if_lt, q_icmp_lt, q_ishr, q_if_ne, q_aload2, q_arraylength, q_lconst0, q_lcmp, q_ishl, q_ior, q_iastore, q_iinc, q_icmp_eq, rf_0_0, rf_0_1, rf_0_5, rf_6_11, rf_6_12, rf_6_13, rf_6_16, rf_6_9, mmKe_101, mmKe_105, mmKe_709, mmKe_711, mmKe_712, mmKe_713, mmKo_0, mmKo_1, mmKo_6, mmLen_101, mmLen_105, mmLen_709, mmLen_711, mmLen_712, mmLen_713, mmR32, mmR64, Option.some.injEq, Int.cast_ofNat_Int, and_true, true_and, if_true, if_false, List.length_cons, List.length_nil, Nat.le_refl, Nat.zero_le, Nat.sub_zero, forall_const, reduceCtorEq, Nat.reduceAdd, Nat.reduceSub, Nat.reduceLeDiff, Nat.reduceEqDiff, Int.reduceAdd, Int.reduceNeg, Int.reduceSub, Int.reduceLT, Int.reduceLE, Int.reduceMul, Int.reduceEq, List.drop_zero, List.drop_succ_cons, ne_eq, not_false_eq_true, not_true_eq_false, false_and, and_false, false_implies, true_implies, reduceIte, mmU_rd, implies_true, or_false, false_or, or_true, true_or]
    refine ⟨fun _ => cont A I1 _ _ _ _ _ fs, fun c => by omega⟩
  | succ q ih =>
    intro far L A I1 l13 l14 f1 f2 fs cap cont
    have w0 := hq.1.1
    have w1 := hq.1.2.1
    have hC1 := CR_A hl hC fs.1
    obtain ⟨bX, bY, eX, eY⟩ := pt_b (p := kd * 8 + s) (far := far) w0 hfr hst ⟨f1, by omega⟩
    have e712 : I1 712 x (kd * 8 + s) = r 712 (kd * 8 + s) := hC1 712 _ (rt7 (by decide))
    have e713 : I1 713 x (kd * 8 + s) = r 713 (kd * 8 + s) := hC1 713 _ (rt7 (by decide))
    have e60 : I1 6 x 0 = r 6 0 := hC1 6 0 rt6
    have e61 : I1 6 x 1 = r 6 1 := hC1 6 1 rt6
    rw [stepL_s] at cap cont
    have out : ¬ inB r (ptX r fr (kd * 8 + s) far) (ptY r fr (kd * 8 + s) far) → mmK (d + 2) 12 Q 171 [some (mo 0 j), some (mv fr), some (mo tl il), l3, l4, some (mv tm), some (mv L.length), some (mv A), l8, some (mv (kd * 8 + s)), some (mv (ptX r fr (kd * 8 + s) far)), some (mv (ptY r fr (kd * 8 + s) far)), some (mv far), l13, l14] [] (I1, mmRf a br, X) := by
      intro co
      rw [if_neg co] at cont
      exact cont A I1 _ _ _ _ _ fs
    have go : inB r (ptX r fr (kd * 8 + s) far) (ptY r fr (kd * 8 + s) far) → mmK (d + 2) 12 Q 102 [some (mo 0 j), some (mv fr), some (mo tl il), l3, l4, some (mv tm), some (mv L.length), some (mv A), l8, some (mv (kd * 8 + s)), some (mv (ptX r fr (kd * 8 + s) far)), some (mv (ptY r fr (kd * 8 + s) far)), some (mv far), l13, l14] [] (I1, mmRf a br, X) := by
      intro hin
      have hpt := inB_pt w0 w1 hin
      rw [if_pos hin] at cap cont
      have hto : 0 ≤ ptT r fr (kd * 8 + s) far ∧ ptT r fr (kd * 8 + s) far < 25 := ⟨hpt.1, by omega⟩
      have hpy : 0 ≤ ptY r fr (kd * 8 + s) far * r 6 0 := Int.mul_nonneg hin.2.2.1 (by omega)
      have eto : ptY r fr (kd * 8 + s) far * r 6 0 + ptX r fr (kd * 8 + s) far = ptT r fr (kd * 8 + s) far := rfl
      refine c_fromA (to := ptT r fr (kd * 8 + s) far) hl hb hC hq hV hB hm hto eto ⟨hpy, by have := hin.1; omega⟩ ⟨hin.2.2.1, hin.2.2.2⟩ hpt.2.2.2.1 ⟨f1, by omega⟩ hfr hkd fs (fun hok => ?_) (fun A2 I3 l14 f3 => ?_)
      · have h1 := ad_len hok
        have h2 := (stepL_in w0 w1 (B := B) (m := m) (fr := fr) (p := kd * 8 + s) q (far + 1) (adM r B m fr (ptT r fr (kd * 8 + s) far) far L)).2
        refine cap_lt h1 h2 (by
          by_cases c8 : B (ptT r fr (kd * 8 + s) far) = -2
          · rw [if_pos c8] at cap; exact Or.inl cap
          · rw [if_neg c8] at cap; exact Or.inr cap)
      · have hV3 := BV_A hl hV f3.1
        have e101 : I3 101 j (ptT r fr (kd * 8 + s) far) = B (ptT r fr (kd * 8 + s) far) := hV3.1 _ hto.1 hto.2
        refine mmC_step ?_
        simp only [cd_12, sg_12_0, sg_12_13, sg_12_15, sg_12_30, sg_12_31, sg_12_41, sg_12_68, sg_12_102, sg_12_130, sg_12_131, sg_12_162, sg_12_169, sg_12_171, sg_12_173, mmK_cut cd_12, q_cons, q_G0, q_GS, q_I1, q_L1, q_A1, q_S0, q_S1, q_SS, q_T0, q_T1, q_TS, q_Kn, q_Ki, q_Kl, q_Kr, q_k0, q_kS, q_rc, q_ps, q_pn, q_aload0, q_iload1, q_invV, q_if_eq, q_getfieldA, q_getfieldI, q_iconst, q_icmp_ge, q_iload3, q_ireturn0, q_iaload, q_iand, q_istore, q_iload, q_baload, q_goto, q_bipush, q_imul, q_iadd, q_irem, q_idiv, q_icmp_gt, q_if_lt, q_icmp_lt, q_ishr, q_if_ne, q_aload2, q_arraylength, q_lconst0, q_lcmp, q_ishl, q_ior, q_iastore, q_iinc, q_icmp_eq, rf_0_0, rf_0_1, rf_0_5, rf_6_11, rf_6_12, rf_6_13, rf_6_16, rf_6_9, mmKe_101, mmKe_105, mmKe_709, mmKe_711, mmKe_712, mmKe_713, mmKo_0, mmKo_1, mmKo_6, mmLen_101, mmLen_105, mmLen_709, mmLen_711, mmLen_712, mmLen_713, mmR32, mmR64, Option.some.injEq, Int.cast_ofNat_Int, and_true, true_and, if_true, if_false, List.length_cons, List.length_nil, Nat.le_refl, Nat.zero_le, Nat.sub_zero, forall_const, reduceCtorEq, Nat.reduceAdd, Nat.reduceSub, Nat.reduceLeDiff, Nat.reduceEqDiff, Int.reduceAdd, Int.reduceNeg, Int.reduceSub, Int.reduceLT, Int.reduceLE, Int.reduceMul, Int.reduceEq, List.drop_zero, List.drop_succ_cons, ne_eq, not_false_eq_true, not_true_eq_false, false_and, and_false, false_implies, true_implies, reduceIte, mmU_rd, implies_true, or_false, false_or, or_true, true_or]
        rw [e101]
        refine ⟨hto.1, hto.2, fun c8 => ?_, fun c8 => ?_⟩
        · rw [if_pos c8] at cap cont
          refine mmC_step ?_
          simp only [cd_12, sg_12_0, sg_12_13, sg_12_15, sg_12_30, sg_12_31, sg_12_41, sg_12_68, sg_12_102, sg_12_130, sg_12_131, sg_12_162, sg_12_169, sg_12_171, sg_12_173, mmK_cut cd_12, q_cons, q_G0, q_GS, q_I1, q_L1, q_A1, q_S0, q_S1, q_SS, q_T0, q_T1, q_TS, q_Kn, q_Ki, q_Kl, q_Kr, q_k0, q_kS, q_rc, q_ps, q_pn, q_aload0, q_iload1, q_invV, q_if_eq, q_getfieldA, q_getfieldI, q_iconst, q_icmp_ge, q_iload3, q_ireturn0, q_iaload, q_iand, q_istore, q_iload, q_baload, q_goto, q_bipush, q_imul, q_iadd, q_irem, q_idiv, q_icmp_gt, q_if_lt, q_icmp_lt, q_ishr, q_if_ne, q_aload2, q_arraylength, q_lconst0, q_lcmp, q_ishl, q_ior, q_iastore, q_iinc, q_icmp_eq, rf_0_0, rf_0_1, rf_0_5, rf_6_11, rf_6_12, rf_6_13, rf_6_16, rf_6_9, mmKe_101, mmKe_105, mmKe_709, mmKe_711, mmKe_712, mmKe_713, mmKo_0, mmKo_1, mmKo_6, mmLen_101, mmLen_105, mmLen_709, mmLen_711, mmLen_712, mmLen_713, mmR32, mmR64, Option.some.injEq, Int.cast_ofNat_Int, and_true, true_and, if_true, if_false, List.length_cons, List.length_nil, Nat.le_refl, Nat.zero_le, Nat.sub_zero, forall_const, reduceCtorEq, Nat.reduceAdd, Nat.reduceSub, Nat.reduceLeDiff, Nat.reduceEqDiff, Int.reduceAdd, Int.reduceNeg, Int.reduceSub, Int.reduceLT, Int.reduceLE, Int.reduceMul, Int.reduceEq, List.drop_zero, List.drop_succ_cons, ne_eq, not_false_eq_true, not_true_eq_false, false_and, and_false, false_implies, true_implies, reduceIte, mmU_rd, implies_true, or_false, false_or, or_true, true_or]
          refine ⟨by omega, ?_⟩
          have := ih (far + 1) _ A2 I3 (some (mv (ptT r fr (kd * 8 + s) far))) l14 (by omega) (by omega) f3 cap cont
          rw [show far + 1 - 1 = far by omega] at this
          exact this
        · rw [if_neg c8] at cont
          exact cont A2 I3 _ _ _ _ _ f3
    refine mmC_step ?_
    simp only [cd_12, sg_12_0, sg_12_13, sg_12_15, sg_12_30, sg_12_31, sg_12_41, sg_12_68, sg_12_102, sg_12_130, sg_12_131, sg_12_162, sg_12_169, sg_12_171, sg_12_173, mmK_cut cd_12, q_cons, q_G0, q_GS, q_I1, q_L1, q_A1, q_S0, q_S1, q_SS, q_T0, q_T1, q_TS, q_Kn, q_Ki, q_Kl, q_Kr, q_k0, q_kS, q_rc, q_ps, q_pn, q_aload0, q_iload1, q_invV, q_if_eq, q_getfieldA, q_getfieldI, q_iconst, q_icmp_ge, q_iload3, q_ireturn0, q_iaload, q_iand, q_istore, q_iload, q_baload, q_goto, q_bipush, q_imul, q_iadd, q_irem, q_idiv, q_icmp_gt, q_if_lt, q_icmp_lt, q_ishr, q_if_ne, q_aload2, q_arraylength, q_lconst0, q_lcmp, q_ishl, q_ior, q_iastore, q_iinc, q_icmp_eq, rf_0_0, rf_0_1, rf_0_5, rf_6_11, rf_6_12, rf_6_13, rf_6_16, rf_6_9, mmKe_101, mmKe_105, mmKe_709, mmKe_711, mmKe_712, mmKe_713, mmKo_0, mmKo_1, mmKo_6, mmLen_101, mmLen_105, mmLen_709, mmLen_711, mmLen_712, mmLen_713, mmR32, mmR64, Option.some.injEq, Int.cast_ofNat_Int, and_true, true_and, if_true, if_false, List.length_cons, List.length_nil, Nat.le_refl, Nat.zero_le, Nat.sub_zero, forall_const, reduceCtorEq, Nat.reduceAdd, Nat.reduceSub, Nat.reduceLeDiff, Nat.reduceEqDiff, Int.reduceAdd, Int.reduceNeg, Int.reduceSub, Int.reduceLT, Int.reduceLE, Int.reduceMul, Int.reduceEq, List.drop_zero, List.drop_succ_cons, ne_eq, not_false_eq_true, not_true_eq_false, false_and, and_false, false_implies, true_implies, reduceIte, mmU_rd, implies_true, or_false, false_or, or_true, true_or, hb]
    rw [e712, e713, e60, e61, eX, eY]
    clear cap cont ih
    have h32 : ∀ {z : Int}, (-100 ≤ z ∧ z ≤ 100) → (-2147483648 ≤ z ∧ z ≤ 2147483647) := fun h => ⟨Int.le_trans (by decide) h.1, Int.le_trans h.2 (by decide)⟩
    have hft : far ≤ (tm : Int) := by omega
    refine ⟨fun c => absurd hft (Int.not_le.mpr c), fun _ => ⟨hks.1, hks.2, h32 bX, hks.1, hks.2, h32 bY, fun c4 => out (nin (Or.inl c4)), fun c4 => ⟨fun c5 => out (nin (Or.inr (Or.inl c5))), fun c5 => ⟨fun c6 => out (nin (Or.inr (Or.inr (Or.inl c6)))), fun c6 => ⟨fun c7 => go ⟨c4, c5, c6, c7⟩, fun c7 => out (nin (Or.inr (Or.inr (Or.inr c7))))⟩⟩⟩⟩⟩
end S806
