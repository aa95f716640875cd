theorem mmCmp_0 {z : Int} : mmCmp z 0 = 0 ↔ z = 0 := by
  unfold mmCmp
  split
  · omega
  · split <;> omega
theorem mul_in {n a : Int} (hn : 0 ≤ n ∧ n ≤ 4) (ha : -4 ≤ a ∧ a ≤ 4) : -16 ≤ n * a ∧ n * a ≤ 16 := by
  have : n = 0 ∨ n = 1 ∨ n = 2 ∨ n = 3 ∨ n = 4 := by omega
  rcases this with q | q | q | q | q <;> subst q <;> omega
def FrA (j tl il : Nat) (I I' : mMm) : Prop := ∀ t i k, ¬ (t = 105 ∧ i = j) → ¬ t = 201 → ¬ (t = tl ∧ i = il) → I' t i k = I t i k
theorem FrA_trans {j tl il : Nat} {I I' I'' : mMm} (h : FrA j tl il I I') (h' : FrA j tl il I' I'') : FrA j tl il I I'' := fun t i k c1 c2 c3 => (h' t i k c1 c2 c3).trans (h t i k c1 c2 c3)
theorem FrA_refl {j tl il : Nat} {I : mMm} : FrA j tl il I I := fun _ _ _ _ _ _ => rfl
theorem BV_ext {I I' : mMm} {j : Nat} {B : mBd} {m : Int} {r : mRu} (h : BV I j B m r) (h1 : ∀ t z, (t = 101 ∨ t = 102 ∨ t = 103) → I' t j z = I t j z) (h2 : I' 0 j 4 = I 0 j 4) : BV I' j B m r := by
  refine ⟨fun z z0 z1 => (h1 101 z (by omega)).trans (h.1 z z0 z1), h2.trans h.2.1, fun w hw => ?_⟩
  rw [h1 102 w (by omega), h1 103 w (by omega)]
  exact h.2.2 w hw
/-- a list of moves -/
def LTg (tl : Nat) : Prop := tl = 106 ∨ tl = 606 ∨ tl = 850
theorem LTg_ne {tl : Nat} (h : LTg tl) : ¬ tl = 105 ∧ ¬ tl = 201 ∧ mmKe tl = 0 ∧ 25 ≤ mmLen tl ∧ mmLen tl ≤ 200 := by
  rcases h with q | q | q <;> subst q
  · exact ⟨by omega, by omega, rfl, by rw [show mmLen 106 = 25 from rfl]; omega, by rw [show mmLen 106 = 25 from rfl]; omega⟩
  · exact ⟨by omega, by omega, rfl, by rw [show mmLen 606 = 200 from rfl]; omega, by rw [show mmLen 606 = 200 from rfl]; omega⟩
  · exact ⟨by omega, by omega, rfl, by rw [show mmLen 850 = 200 from rfl]; omega, by rw [show mmLen 850 = 200 from rfl]; omega⟩
section S805
variable {d a j x tl il : Nat} {I I' I'' : mMm} {br : Nat → Option mmO} {R : Nat → Nat → Int → Option mmO} {X : mmX} {B : mBd} {m fr : Int} {r : mRu} {Q : Option mmV → mmM → Prop}
theorem CR_A (hl : LTg tl) (h : CR I x r) (hf : FrA j tl il I I') : CR I' x r := fun t k ht => by
  unfold LTg at hl
  exact (hf t x k (by unfold rtag at ht; omega) (by unfold rtag at ht; omega) (by unfold rtag at ht; omega)).trans (h t k ht)
theorem BV_A (hl : LTg tl) (h : BV I j B m r) (hf : FrA j tl il I I') : BV I' j B m r := by
  unfold LTg at hl
  exact BV_ext h (fun t z ht => hf _ _ _ (by omega) (by omega) (by omega)) (hf _ _ _ (by omega) (by omega) (by omega))
theorem fc_in {to far k : Int} (hq : RQ r) (hB : BW r B) (hm : 0 ≤ m ∧ m < 100) (hf : 0 ≤ fr ∧ fr < 25) (hto : 0 ≤ to / r 6 0 ∧ to / r 6 0 < r 6 1) (hfar : 0 ≤ far ∧ far ≤ 4) : -2147483648 ≤ fcF r B m fr to far k ∧ fcF r B m fr to far k ≤ 2147483647 := by
  have h1 := hq.1.2.1
  have h2 := B_r32 hB hf
  have h3 := cS_in (B := B) (w := m % 2) 25
  have h4 := cS_in (B := B) (w := 1 - m % 2) 25
  unfold fcF
  repeat' split
  all_goals omega
def FS (I I1 : mMm) (j tl il : Nat) (r : mRu) (B : mBd) (m fr kd : Int) (L : List Int) (A : Nat) : Prop := FrA j tl il I I1 ∧ LA (I1 tl il) L ∧ TS I1 j r B m kd ∧ AB A fr L
set_option maxHeartbeats 1000000 in
theorem c_fromA {px py to far kd : Int} {L : List Int} {A : Nat} {I1 : mMm} {tm : Int} {l3 l4 l8 l9 l13 l14 : Option mmV} (hl : LTg tl) (hb : br j = some (6, x)) (hC : CR I x r) (hq : RQ r) (hV : BV I j B m r) (hB : BW r B) (hm : 0 ≤ m ∧ m < 100) (hto : 0 ≤ to ∧ to < 25) (eto : py * r 6 0 + px = to) (hpy : 0 ≤ py * r 6 0 ∧ py * r 6 0 ≤ 25) (hy : 0 ≤ py ∧ py < r 6 1) (hdiv : to / r 6 0 = py) (hfar : 1 ≤ far ∧ far ≤ 4) (hfr : 0 ≤ fr ∧ fr < 25) (hkd : B fr % 4 = kd) (fs : FS I I1 j tl il r B m fr kd L A) (hcap : okM r B m fr to far ∧ ¬ fr * 64 + to ∈ L → (L.length : Int) < mmLen tl)
    (cont : ∀ (A2 : Nat) (I3 : mMm) (l14 : Option mmV), FS I I3 j tl il r B m fr kd (adM r B m fr to far L) A2 → mmK (d + 2) 12 Q 162 [some (mo 0 j), some (mv fr), some (mo tl il), l3, l4, some (mv tm), some (mv (adM r B m fr to far L).length), some (mv A2), l8, l9, some (mv px), some (mv py), some (mv far), some (mv to), l14] [] (I3, mmRf a br, X)) :
    mmK (d + 2) 12 Q 102 [some (mo 0 j), some (mv fr), some (mo tl il), l3, l4, some (mv tm), some (mv L.length), some (mv A), l8, l9, some (mv px), some (mv py), some (mv far), l13, l14] [] (I1, mmRf a br, X) := by
  obtain ⟨fr1, la, ts, ab⟩ := fs
  obtain ⟨hl105, hl201, hke, hcap0, hcap1⟩ := LTg_ne hl
  have hC1 := CR_A hl hC fr1
  have hV1 := BV_A hl hV fr1
  have e60 : I1 6 x 0 = r 6 0 := hC1 6 0 rt6
  have e101 : I1 101 j to = B to := hV1.1 to hto.1 hto.2
  have hBto := B_r32 hB hto
  refine mmC_step ?_
  simp only [cd_12, sg_12_0, sg_12_13, sg_12_15, sg_12_30, sg_12_31, sg_12_41, sg_12_68, sg_12_102, sg_12_130, sg_12_131, sg_12_162, sg_12_169, sg_12_171, sg_12_173, mmK_cut cd_12, q_cons, q_G0, q_GS, q_I1, q_L1, q_A1, q_S0, q_S1, q_SS, q_T0, q_T1, q_TS, q_Kn, q_Ki, q_Kl, q_Kr, q_k0, q_kS, q_rc, q_ps, q_pn, q_aload0, q_iload1, q_invV, q_if_eq, q_getfieldA, q_getfieldI, q_iconst, q_icmp_ge, q_iload3, q_ireturn0, q_iaload, q_iand, q_istore, q_iload, q_baload, q_goto, q_bipush, q_imul, q_iadd, q_irem, q_idiv, q_icmp_gt, q_if_lt, q_icmp_lt, q_ishr, q_if_ne, q_aload2, q_arraylength, q_lconst0, q_lcmp, q_ishl, q_ior, q_iastore, q_iinc, q_icmp_eq, rf_0_0, rf_0_1, rf_0_5, rf_6_11, rf_6_12, rf_6_13, rf_6_16, rf_6_9, mmKe_101, mmKe_105, mmKe_709, mmKe_711, mmKe_712, mmKe_713, mmKo_0, mmKo_1, mmKo_6, mmLen_101, mmLen_105, mmLen_709, mmLen_711, mmLen_712, mmLen_713, mmR32, mmR64, Option.some.injEq, Int.cast_ofNat_Int, and_true, true_and, if_true, if_false, List.length_cons, List.length_nil, Nat.le_refl, Nat.zero_le, Nat.sub_zero, forall_const, reduceCtorEq, Nat.reduceAdd, Nat.reduceSub, Nat.reduceLeDiff, Nat.reduceEqDiff, Int.reduceAdd, Int.reduceNeg, Int.reduceSub, Int.reduceLT, Int.reduceLE, Int.reduceMul, Int.reduceEq, List.drop_zero, List.drop_succ_cons, ne_eq, not_false_eq_true, not_true_eq_false, false_and, and_false, false_implies, true_implies, reduceIte, mmU_rd, implies_true, or_false, false_or, or_true, true_or, hb]
  rw [e60, eto, e101]
  refine ⟨by omega, by omega, by omega, by omega, ?_⟩
  refine mT_use (c_tellWay (y := py) hb hC1 hq.1 hV1 hBto.2 hy) (fun v I2 q2 => ?_)
  obtain ⟨rfl, g1, g2, g3, g4⟩ := q2
  have fr2 : FrA j tl il I I2 := FrA_trans fr1 (fun t i k d1 d2 d3 => g1 t i k (fun q => d1 ⟨q.1, q.2.1⟩))
  have hC2 := CR_A hl hC fr2
  have hV2 := BV_A hl hV fr2
  have la2 : LA (I2 tl il) L := LA_ext la (fun k _ _ => g1 _ _ _ (fun q => hl105 q.1))
  have ts2 : TS I2 j r B m kd := by
    obtain ⟨t3, t4, t5, t6, t7⟩ := ts
    exact ⟨(g1 105 j 3 (fun q => absurd q.2.2.2 (by decide))).trans t3, (g1 105 j 4 (fun q => absurd q.2.2.2 (by decide))).trans t4, (g1 105 j 5 (fun q => absurd q.2.2.2 (by decide))).trans t5, (g1 105 j 6 (fun q => absurd q.2.2.2 (by decide))).trans t6, (g1 105 j 7 (fun q => absurd q.2.2.2 (by decide))).trans t7⟩
  have hF : ∀ k, 0 ≤ k → k < 8 → I2 105 j k = fcF r B m fr to far k ∧ -2147483648 ≤ fcF r B m fr to far k ∧ fcF r B m fr to far k ≤ 2147483647 := by
    intro k k0 k1
    refine ⟨?_, fc_in hq hB hm hfr (by rw [hdiv]; exact hy) ⟨by omega, by omega⟩⟩
    obtain ⟨t3, t4, t5, t6, t7⟩ := ts2
    have : k = 0 ∨ k = 1 ∨ k = 2 ∨ k = 3 ∨ k = 4 ∨ k = 5 ∨ k = 6 ∨ k = 7 := by omega
    rcases this with q | q | q | q | q | q | q | q <;> subst q
    · exact g2
    · exact g3
    · rw [g4]; show _ = (if m % 2 = 0 then to / r 6 0 else r 6 1 - 1 - to / r 6 0); rw [hdiv]
    · rw [t3]; exact hkd.symm
    · exact t4
    · exact t5
    · exact t6
    · rw [t7]; show _ = (if r 710 (B fr % 4) = 0 then 0 else 1); rw [hkd]
  have same : ¬ (okM r B m fr to far ∧ ¬ fr * 64 + to ∈ L) → ∀ (I3 : mMm) (l14 : Option mmV), FS I I3 j tl il r B m fr kd L A → mmK (d + 2) 12 Q 162 [some (mo 0 j), some (mv fr), some (mo tl il), l3, l4, some (mv tm), some (mv L.length), some (mv A), l8, l9, some (mv px), some (mv py), some (mv far), some (mv to), l14] [] (I3, mmRf a br, X) := by
    intro cn I3 l14 f3
    have e : adM r B m fr to far L = L := by unfold adM; rw [if_neg cn]
    have := cont A I3 l14
    rw [e] at this
    exact this f3
  have fs2 : FS I I2 j tl il r B m fr kd L A := ⟨fr2, la2, ts2, ab⟩
  have w130 : ¬ (okM r B m fr to far ∧ ¬ fr * 64 + to ∈ L) → mmK (d + 2) 12 Q 130 [some (mo 0 j), some (mv fr), some (mo tl il), l3, l4, some (mv tm), some (mv L.length), some (mv A), l8, l9, some (mv px), some (mv py), some (mv far), some (mv to), l14] [] (I2, mmRf a br, X) := by
    intro cn
    refine mmC_step ?_
    simp only [cd_12, sg_12_0, sg_12_13, sg_12_15, sg_12_30, sg_12_31, sg_12_41, sg_12_68, sg_12_102, sg_12_130, sg_12_131, sg_12_162, sg_12_169, sg_12_171, sg_12_173, mmK_cut cd_12, q_cons, q_G0, q_GS, q_I1, q_L1, q_A1, q_S0, q_S1, q_SS, q_T0, q_T1, q_TS, q_Kn, q_Ki, q_Kl, q_Kr, q_k0, q_kS, q_rc, q_ps, q_pn, q_aload0, q_iload1, q_invV, q_if_eq, q_getfieldA, q_getfieldI, q_iconst, q_icmp_ge, q_iload3, q_ireturn0, q_iaload, q_iand, q_istore, q_iload, q_baload, q_goto, q_bipush, q_imul, q_iadd, q_irem, q_idiv, q_icmp_gt, q_if_lt, q_icmp_lt, q_ishr, q_if_ne, q_aload2, q_arraylength, q_lconst0, q_lcmp, q_ishl, q_ior, q_iastore, q_iinc, q_icmp_eq, rf_0_0, rf_0_1, rf_0_5, rf_6_11, rf_6_12, rf_6_13, rf_6_16, rf_6_9, mmKe_101, mmKe_105, mmKe_709, mmKe_711, mmKe_712, mmKe_713, mmKo_0, mmKo_1, mmKo_6, mmLen_101, mmLen_105, mmLen_709, mmLen_711, mmLen_712, mmLen_713, mmR32, mmR64, Option.some.injEq, Int.cast_ofNat_Int, and_true, true_and, if_true, if_false, List.length_cons, List.length_nil, Nat.le_refl, Nat.zero_le, Nat.sub_zero, forall_const, reduceCtorEq, Nat.reduceAdd, Nat.reduceSub, Nat.reduceLeDiff, Nat.reduceEqDiff, Int.reduceAdd, Int.reduceNeg, Int.reduceSub, Int.reduceLT, Int.reduceLE, Int.reduceMul, Int.reduceEq, List.drop_zero, List.drop_succ_cons, ne_eq, not_false_eq_true, not_true_eq_false, false_and, and_false, false_implies, true_implies, reduceIte, mmU_rd, implies_true, or_false, false_or, or_true, true_or]
    refine mmC_step ?_
    simp only [cd_12, sg_12_0, sg_12_13, sg_12_15, sg_12_30, sg_12_31, sg_12_41, sg_12_68, sg_12_102, sg_12_130, sg_12_131, sg_12_162, sg_12_169, sg_12_171, sg_12_173, mmK_cut cd_12, q_cons, q_G0, q_GS, q_I1, q_L1, q_A1, q_S0, q_S1, q_SS, q_T0, q_T1, q_TS, q_Kn, q_Ki, q_Kl, q_Kr, q_k0, q_kS, q_rc, q_ps, q_pn, q_aload0, q_iload1, q_invV, q_if_eq, q_getfieldA, q_getfieldI, q_iconst, q_icmp_ge, q_iload3, q_ireturn0, q_iaload, q_iand, q_istore, q_iload, q_baload, q_goto, q_bipush, q_imul, q_iadd, q_irem, q_idiv, q_icmp_gt, q_if_lt, q_icmp_lt, q_ishr, q_if_ne, q_aload2, q_arraylength, q_lconst0, q_lcmp, q_ishl, q_ior, q_iastore, q_iinc, q_icmp_eq, rf_0_0, rf_0_1, rf_0_5, rf_6_11, rf_6_12, rf_6_13, rf_6_16, rf_6_9, mmKe_101, mmKe_105, mmKe_709, mmKe_711, mmKe_712, mmKe_713, mmKo_0, mmKo_1, mmKo_6, mmLen_101, mmLen_105, mmLen_709, mmLen_711, mmLen_712, mmLen_713, mmR32, mmR64, Option.some.injEq, Int.cast_ofNat_Int, and_true, true_and, if_true, if_false, List.length_cons, List.length_nil, Nat.le_refl, Nat.zero_le, Nat.sub_zero, forall_const, reduceCtorEq, Nat.reduceAdd, Nat.reduceSub, Nat.reduceLeDiff, Nat.reduceEqDiff, Int.reduceAdd, Int.reduceNeg, Int.reduceSub, Int.reduceLT, Int.reduceLE, Int.reduceMul, Int.reduceEq, List.drop_zero, List.drop_succ_cons, ne_eq, not_false_eq_true, not_true_eq_false, false_and, and_false, false_implies, true_implies, reduceIte, mmU_rd, implies_true, or_false, false_or, or_true, true_or]
    exact same cn I2 _ fs2
  have eA := bit_get ab.1 hto
  have hmem := ab.2 to hto.1 hto.2
  simp only [mmK_cut cd_12, q_cons, q_G0, q_GS, q_I1, q_L1, q_A1, q_S0, q_S1, q_SS, q_T0, q_T1, q_TS, q_Kn, q_Ki, q_Kl, q_Kr, q_k0, q_kS, q_rc, q_ps, q_pn, q_aload0, q_iload1, q_invV, q_if_eq, q_getfieldA, q_getfieldI, q_iconst, q_icmp_ge, q_iload3, q_ireturn0, q_iaload, q_iand, q_istore, q_iload, q_baload, q_goto, q_bipush, q_imul, q_iadd, q_irem, q_idiv, q_icmp_gt, q_if_lt, q_icmp_lt, q_ishr, q_if_ne, q_aload2, q_arraylength, q_lconst0, q_lcmp, q_ishl, q_ior, q_iastore, q_iinc, q_icmp_eq, rf_0_0, rf_0_1, rf_0_5, rf_6_11, rf_6_12, rf_6_13, rf_6_16, rf_6_9, mmKe_101, mmKe_105, mmKe_709, mmKe_711, mmKe_712, mmKe_713, mmKo_0, mmKo_1, mmKo_6, mmLen_101, mmLen_105, mmLen_709, mmLen_711, mmLen_712, mmLen_713, mmR32, mmR64, Option.some.injEq, Int.cast_ofNat_Int, and_true, true_and, if_true, if_false, List.length_cons, List.length_nil, Nat.le_refl, Nat.zero_le, Nat.sub_zero, forall_const, reduceCtorEq, Nat.reduceAdd, Nat.reduceSub, Nat.reduceLeDiff, Nat.reduceEqDiff, Int.reduceAdd, Int.reduceNeg, Int.reduceSub, Int.reduceLT, Int.reduceLE, Int.reduceMul, Int.reduceEq, List.drop_zero, List.drop_succ_cons, ne_eq, not_false_eq_true, not_true_eq_false, false_and, and_false, false_implies, true_implies, reduceIte, mmU_rd, implies_true, or_false, false_or, or_true, true_or]
  rw [eA, hke]
  by_cases cm : fr * 64 + to ∈ L
  · rw [if_pos (hmem.mpr cm)]
    exact ⟨fun _ => w130 (fun q => q.2 cm), fun c9 => absurd c9 (by decide)⟩
  · rw [if_neg (fun q => cm (hmem.mp q))]
    refine ⟨fun c9 => absurd rfl c9, fun _ => ⟨by decide, fun c9 => w130 (fun qq => ?_), fun c9 => ?_⟩⟩
    · have := hcap qq
      omega
    · refine mmC_step ?_
      simp only [cd_12, sg_12_0, sg_12_13, sg_12_15, sg_12_30, sg_12_31, sg_12_41, sg_12_68, sg_12_102, sg_12_130, sg_12_131, sg_12_162, sg_12_169, sg_12_171, sg_12_173, mmK_cut cd_12, q_cons, q_G0, q_GS, q_I1, q_L1, q_A1, q_S0, q_S1, q_SS, q_T0, q_T1, q_TS, q_Kn, q_Ki, q_Kl, q_Kr, q_k0, q_kS, q_rc, q_ps, q_pn, q_aload0, q_iload1, q_invV, q_if_eq, q_getfieldA, q_getfieldI, q_iconst, q_icmp_ge, q_iload3, q_ireturn0, q_iaload, q_iand, q_istore, q_iload, q_baload, q_goto, q_bipush, q_imul, q_iadd, q_irem, q_idiv, q_icmp_gt, q_if_lt, q_icmp_lt, q_ishr, q_if_ne, q_aload2, q_arraylength, q_lconst0, q_lcmp, q_ishl, q_ior, q_iastore, q_iinc, q_icmp_eq, rf_0_0, rf_0_1, rf_0_5, rf_6_11, rf_6_12, rf_6_13, rf_6_16, rf_6_9, mmKe_101, mmKe_105, mmKe_709, mmKe_711, mmKe_712, mmKe_713, mmKo_0, mmKo_1, mmKo_6, mmLen_101, mmLen_105, mmLen_709, mmLen_711, mmLen_712, mmLen_713, mmR32, mmR64, Option.some.injEq, Int.cast_ofNat_Int, and_true, true_and, if_true, if_false, List.length_cons, List.length_nil, Nat.le_refl, Nat.zero_le, Nat.sub_zero, forall_const, reduceCtorEq, Nat.reduceAdd, Nat.reduceSub, Nat.reduceLeDiff, Nat.reduceEqDiff, Int.reduceAdd, Int.reduceNeg, Int.reduceSub, Int.reduceLT, Int.reduceLE, Int.reduceMul, Int.reduceEq, List.drop_zero, List.drop_succ_cons, ne_eq, not_false_eq_true, not_true_eq_false, false_and, and_false, false_implies, true_implies, reduceIte, mmU_rd, implies_true, or_false, false_or, or_true, true_or]
      refine sp_isOwn hV2 hB hto ?_
      simp only [mmK_cut cd_12, q_cons, q_G0, q_GS, q_I1, q_L1, q_A1, q_S0, q_S1, q_SS, q_T0, q_T1, q_TS, q_Kn, q_Ki, q_Kl, q_Kr, q_k0, q_kS, q_rc, q_ps, q_pn, q_aload0, q_iload1, q_invV, q_if_eq, q_getfieldA, q_getfieldI, q_iconst, q_icmp_ge, q_iload3, q_ireturn0, q_iaload, q_iand, q_istore, q_iload, q_baload, q_goto, q_bipush, q_imul, q_iadd, q_irem, q_idiv, q_icmp_gt, q_if_lt, q_icmp_lt, q_ishr, q_if_ne, q_aload2, q_arraylength, q_lconst0, q_lcmp, q_ishl, q_ior, q_iastore, q_iinc, q_icmp_eq, rf_0_0, rf_0_1, rf_0_5, rf_6_11, rf_6_12, rf_6_13, rf_6_16, rf_6_9, mmKe_101, mmKe_105, mmKe_709, mmKe_711, mmKe_712, mmKe_713, mmKo_0, mmKo_1, mmKo_6, mmLen_101, mmLen_105, mmLen_709, mmLen_711, mmLen_712, mmLen_713, mmR32, mmR64, Option.some.injEq, Int.cast_ofNat_Int, and_true, true_and, if_true, if_false, List.length_cons, List.length_nil, Nat.le_refl, Nat.zero_le, Nat.sub_zero, forall_const, reduceCtorEq, Nat.reduceAdd, Nat.reduceSub, Nat.reduceLeDiff, Nat.reduceEqDiff, Int.reduceAdd, Int.reduceNeg, Int.reduceSub, Int.reduceLT, Int.reduceLE, Int.reduceMul, Int.reduceEq, List.drop_zero, List.drop_succ_cons, ne_eq, not_false_eq_true, not_true_eq_false, false_and, and_false, false_implies, true_implies, reduceIte, mmU_rd, implies_true, or_false, false_or, or_true, true_or, bI_eq0, Classical.not_not, hb]
      refine ⟨fun c10 => same (fun q => q.1.1 c10) I2 _ fs2, fun c10 => ?_⟩
      refine mT_use (c_worth hC2 hq hF) (fun v I3 q3 => ?_)
      obtain ⟨rfl, f3⟩ := q3
      simp only [mmK_cut cd_12, q_cons, q_G0, q_GS, q_I1, q_L1, q_A1, q_S0, q_S1, q_SS, q_T0, q_T1, q_TS, q_Kn, q_Ki, q_Kl, q_Kr, q_k0, q_kS, q_rc, q_ps, q_pn, q_aload0, q_iload1, q_invV, q_if_eq, q_getfieldA, q_getfieldI, q_iconst, q_icmp_ge, q_iload3, q_ireturn0, q_iaload, q_iand, q_istore, q_iload, q_baload, q_goto, q_bipush, q_imul, q_iadd, q_irem, q_idiv, q_icmp_gt, q_if_lt, q_icmp_lt, q_ishr, q_if_ne, q_aload2, q_arraylength, q_lconst0, q_lcmp, q_ishl, q_ior, q_iastore, q_iinc, q_icmp_eq, rf_0_0, rf_0_1, rf_0_5, rf_6_11, rf_6_12, rf_6_13, rf_6_16, rf_6_9, mmKe_101, mmKe_105, mmKe_709, mmKe_711, mmKe_712, mmKe_713, mmKo_0, mmKo_1, mmKo_6, mmLen_101, mmLen_105, mmLen_709, mmLen_711, mmLen_712, mmLen_713, mmR32, mmR64, Option.some.injEq, Int.cast_ofNat_Int, and_true, true_and, if_true, if_false, List.length_cons, List.length_nil, Nat.le_refl, Nat.zero_le, Nat.sub_zero, forall_const, reduceCtorEq, Nat.reduceAdd, Nat.reduceSub, Nat.reduceLeDiff, Nat.reduceEqDiff, Int.reduceAdd, Int.reduceNeg, Int.reduceSub, Int.reduceLT, Int.reduceLE, Int.reduceMul, Int.reduceEq, List.drop_zero, List.drop_succ_cons, ne_eq, not_false_eq_true, not_true_eq_false, false_and, and_false, false_implies, true_implies, reduceIte, mmU_rd, implies_true, or_false, false_or, or_true, true_or]
      have fr3 : FrA j tl il I I3 := FrA_trans fr2 (fun t i k d1 d2 d3 => f3 t i k d2)
      have la3 : LA (I3 tl il) L := LA_ext la2 (fun k _ _ => f3 _ _ _ hl201)
      have ts3 : TS I3 j r B m kd := by
        obtain ⟨t3, t4, t5, t6, t7⟩ := ts2
        exact ⟨(f3 105 j 3 (by decide)).trans t3, (f3 105 j 4 (by decide)).trans t4, (f3 105 j 5 (by decide)).trans t5, (f3 105 j 6 (by decide)).trans t6, (f3 105 j 7 (by decide)).trans t7⟩
      refine ⟨fun c11 => ?_, fun c11 => ?_⟩
      · exact same (fun q => q.1.2 (mmCmp_0.mp c11)) I3 _ ⟨fr3, la3, ts3, ab⟩
      · have hok : okM r B m fr to far ∧ ¬ fr * 64 + to ∈ L := ⟨⟨c10, fun q => c11 (mmCmp_0.mpr q)⟩, cm⟩
        have hlt := hcap hok
        have hbs := bit_set ab.1 hto
        have e64 : mmOr (mmShl fr 6) to = fr * 64 + to := by
          have e6 : mmShl fr 6 = fr * 64 := mmShl_mul (k := 6) hfr.1 rfl (by omega) (by omega)
          rw [e6]
          exact or_add 6 hfr.1 hto.1 (by omega) (by omega)
        have ead : adM r B m fr to far L = L ++ [fr * 64 + to] := by unfold adM; rw [if_pos hok]
        rw [hbs.1, e64]
        clear hbs e64 hF hmem eA hcap hBto
        refine ⟨by omega, by omega, by omega, by omega, ?_⟩
        have := cont (A ||| 2 ^ to.toNat) (mmU I3 tl il L.length (fr * 64 + to)) (some (mv 1))
        rw [ead, List.length_append, List.length_singleton] at this
        refine this ⟨?_, ?_, ?_, AB_ap ab hto⟩
        · exact FrA_trans fr3 (fun t i k d1 d2 d3 => by unfold mmU; rw [if_neg (fun q => d3 ⟨q.1, q.2.1⟩)])
        · have h1 := LA_ap (v := fr * 64 + to) la3
          refine LA_ext h1 (fun k k0 k1 => ?_)
          unfold mmU fup
          by_cases ck : k = L.length
          · rw [if_pos ⟨rfl, rfl, ck⟩, if_pos ck]
          · rw [if_neg (fun q => ck q.2.2), if_neg ck]
        · obtain ⟨t3, t4, t5, t6, t7⟩ := ts3
          have eu : ∀ z, mmU I3 tl il L.length (fr * 64 + to) 105 j z = I3 105 j z := fun z => by unfold mmU; rw [if_neg (fun q => hl105 q.1.symm)]
          exact ⟨(eu _).trans t3, (eu _).trans t4, (eu _).trans t5, (eu _).trans t6, (eu _).trans t7⟩
end S805
