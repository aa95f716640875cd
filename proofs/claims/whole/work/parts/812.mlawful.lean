def FrW (I I' : mMm) : Prop := ∀ t i k, ¬ (t = 11 ∧ k = 58) → ¬ t = 1256 → ¬ t = 1257 → I' t i k = I t i k
section S812
variable {d a : Nat} {I I' I'' : mMm} {br : Nat → Option mmO} {R : Nat → Nat → Int → Option mmO} {X : mmX} {B : mBd} {m fr b : Int} {r : mRu} {Q : Option mmV → mmM → Prop}
theorem FrW_trans (h : FrW I I') (h' : FrW I' I'') : FrW I I'' := fun t i k c1 c2 c3 => (h' t i k c1 c2 c3).trans (h t i k c1 c2 c3)
theorem FrW_refl : FrW I I := fun _ _ _ _ _ _ => rfl
theorem FrW_n {i : Nat} {k v : Int} : FrW I (mmU I 1256 i k v) := fun t i' k' c1 c2 c3 => by
  unfold mmU
  rw [if_neg (fun q => c2 q.1)]
theorem RK_ext (h : RK r I) (hf : ∀ k, (12 ≤ k ∧ k ≤ 21) → I' 11 0 k = I 11 0 k) (hg : ∀ t k, 1235 ≤ t → t ≤ 1246 → I' t 0 k = I t 0 k) : RK r I' := by
  have e : Gk I' = Gk I := by
    funext f k
    unfold Gk
    rw [hf 12 (by omega), hf 13 (by omega), hf 14 (by omega), hf 15 (by omega), hf 16 (by omega), hf 17 (by omega), hf 18 (by omega), hf 19 (by omega), hf 20 (by omega), hf 21 (by omega), hg 1235 _ (by omega) (by omega), hg 1236 _ (by omega) (by omega), hg 1237 _ (by omega) (by omega), hg 1238 _ (by omega) (by omega), hg 1239 _ (by omega) (by omega), hg 1240 _ (by omega) (by omega), hg 1241 _ (by omega) (by omega), hg 1242 _ (by omega) (by omega), hg 1243 _ (by omega) (by omega), hg 1244 _ (by omega) (by omega), hg 1245 _ (by omega) (by omega), hg 1246 _ (by omega) (by omega)]
  unfold RK
  rw [e]
  exact h
theorem RK_W (h : RK r I) (hf : FrW I I') : RK r I' := RK_ext h (fun k hk => hf _ _ _ (by omega) (by omega) (by omega)) (fun t k h1 h2 => hf _ _ _ (by omega) (by omega) (by omega))
theorem MB_W (h : MB I b B) (hf : FrW I I') : MB I' b B := fun z z0 z1 => (hf _ _ _ (by omega) (by omega) (by omega)).trans (h z z0 z1)
/-- rules that can be played, out of the relation -/
theorem RQ_of {G : mGv} (hE : RE r G) (hL : RLw r G) (hw : RW r) : RQ r := by
  refine ⟨hw, fun k k0 k1 => ?_, ?_, ?_⟩
  · have := hE.2.1 k k0 k1
    refine ⟨this.2.2.2.2.1, this.2.2.2.2.2.1, this.2.2.2.2.2.2.1, fun x x0 x1 => ?_⟩
    have h2 := this.2.2.2.2.2.2.2 x x0 x1
    exact ⟨h2.2.2.1, h2.2.2.2.1⟩
  · rcases hL with q | q
    · omega
    · have := q.2.1; omega
  · intro k k0 k1
    rcases hL with q | q
    · omega
    · have := q.2.2.2.1 k.toNat (by omega)
      unfold TPn at this
      rw [show ((k.toNat : Nat) : Int) = k by omega] at this
      omega
theorem cS_b {w : Int} : -2147483648 ≤ cS B w 25 ∧ cS B w 25 ≤ 2147483647 := by
  have := cS_in (B := B) (w := w) 25
  omega
set_option maxHeartbeats 1000000 in
theorem m_layNames {to far w : Int} (h : RK r I) (hM : MB I b B) (hB : BW r B) (hb : 0 ≤ b ∧ b < 72) (hfr : 0 ≤ fr ∧ fr < 25) (hof : 0 ≤ B fr) (hto : 0 ≤ to ∧ to < 25) (hty : to / r 6 0 < r 6 1) (hw : w = m % 2) : mmC (d + 4) 193 [mo 11 0, mv b, mv fr, mv to, mv far, mv w, mv m] (I, mmRf a br, X) (mT a br X fun v I' => v = none ∧ FrW I I' ∧ ∀ k, 0 ≤ k → k < 8 → I' 1256 0 k = fcF r B m fr to far k) := by
  have w0 := h.2.2.1
  have w1 := h.2.2.2.1
  have h2 : w = 0 ∨ w = 1 := by omega
  have e := hM fr hfr.1 hfr.2
  have hv := hB.1 fr hfr.1 hfr.2
  have em : mB (B fr) = B fr := if_neg (by omega)
  have hk : 0 ≤ B fr % 4 ∧ B fr % 4 < r 6 2 := by omega
  have hk8 : B fr % 4 < 8 := by omega
  have eking : I 1237 0 (B fr % 4) = r 710 (B fr % 4) := (h.1.2.1 _ hk.1 hk.2).2.2.1
  have hdiv := Int.ediv_nonneg hto.1 (show 0 ≤ r 6 0 by omega)
  have w96 : ∀ (I1 : mMm) z, z = (if r 710 (B fr % 4) = 0 then (0 : Int) else 1) → FrW I I1 → (∀ k, 0 ≤ k → k < 7 → I1 1256 0 k = fcF r B m fr to far k) → mmK (d + 3) 193 (mT a br X fun v I' => v = none ∧ FrW I I' ∧ ∀ k, 0 ≤ k → k < 8 → I' 1256 0 k = fcF r B m fr to far k) 96 [some (mo 11 0), some (mv b), some (mv fr), some (mv to), some (mv far), some (mv w), some (mv m), some (mv (B fr % 4))] [ml z, mv 7, mo 1256 0] (I1, mmRf a br, X) := by
    intro I1 z hz f1 g1
    refine mmC_step ?_
    simp only [cd_193, sg_193_0, sg_193_23, sg_193_24, sg_193_42, sg_193_52, sg_193_95, sg_193_96, mmK_cut cd_193, q_cons, q_G0, q_GS, q_I1, q_L1, q_A1, q_S0, q_S1, q_SS, q_T0, q_T1, q_TS, q_Kn, q_Ki, q_Kl, q_Kr, q_k0, q_kS, q_rc, q_ps, q_pn, q_aload0, q_getfieldA, q_iload1, q_iload2, q_iadd, q_iaload, q_iconst, q_irem, q_istore, q_iload3, q_iload, q_isub, q_if_eq, q_lconst1, q_goto, q_lconst0, q_lastore, q_i2l, q_if_ne, q_getfieldI, q_idiv, q_bipush, q_baload, q_return, rf_11_37, rf_11_56, rf_11_59, mmKe_1237, mmKe_1256, mmKe_1259, mmKo_11, mmLen_1237, mmLen_1256, mmLen_1259, mmR32, mmR64, Option.some.injEq, Int.cast_ofNat_Int, and_true, true_and, if_true, if_false, List.length_cons, List.length_nil, Nat.le_refl, Nat.zero_le, Nat.sub_zero, forall_const, reduceCtorEq, Nat.reduceAdd, Nat.reduceSub, Nat.reduceLeDiff, Nat.reduceEqDiff, Int.reduceAdd, Int.reduceNeg, Int.reduceSub, Int.reduceLT, Int.reduceLE, Int.reduceMul, Int.reduceEq, List.drop_zero, List.drop_succ_cons, ne_eq, not_false_eq_true, not_true_eq_false, false_and, and_false, false_implies, true_implies, reduceIte, mmU_rd, implies_true, or_false, false_or, or_true, true_or]
    refine mT_in ⟨rfl, FrW_trans f1 FrW_n, fun k k0 k1 => ?_⟩
    unfold mmU
    by_cases c : k = 7
    · rw [if_pos ⟨rfl, rfl, c⟩, c, hz]; rfl
    · rw [if_neg (fun q => c q.2.2)]; exact g1 k k0 (by omega)
  have w52 : ∀ (I1 : mMm) z, z = (if m % 2 = 0 then to / r 6 0 else r 6 1 - 1 - to / r 6 0) → FrW I I1 → (∀ k, 0 ≤ k → k < 2 → I1 1256 0 k = fcF r B m fr to far k) → mmK (d + 3) 193 (mT a br X fun v I' => v = none ∧ FrW I I' ∧ ∀ k, 0 ≤ k → k < 8 → I' 1256 0 k = fcF r B m fr to far k) 52 [some (mo 11 0), some (mv b), some (mv fr), some (mv to), some (mv far), some (mv w), some (mv m), some (mv (B fr % 4))] [ml z, mv 2, mo 1256 0] (I1, mmRf a br, X) := by
    intro I1 z hz f1 g1
    have f2 : FrW I (mmU (mmU I1 1256 0 2 z) 1256 0 3 (B fr % 4)) := FrW_trans (FrW_trans f1 FrW_n) FrW_n
    refine mmC_step ?_
    simp only [cd_193, sg_193_0, sg_193_23, sg_193_24, sg_193_42, sg_193_52, sg_193_95, sg_193_96, mmK_cut cd_193, q_cons, q_G0, q_GS, q_I1, q_L1, q_A1, q_S0, q_S1, q_SS, q_T0, q_T1, q_TS, q_Kn, q_Ki, q_Kl, q_Kr, q_k0, q_kS, q_rc, q_ps, q_pn, q_aload0, q_getfieldA, q_iload1, q_iload2, q_iadd, q_iaload, q_iconst, q_irem, q_istore, q_iload3, q_iload, q_isub, q_if_eq, q_lconst1, q_goto, q_lconst0, q_lastore, q_i2l, q_if_ne, q_getfieldI, q_idiv, q_bipush, q_baload, q_return, rf_11_37, rf_11_56, rf_11_59, mmKe_1237, mmKe_1256, mmKe_1259, mmKo_11, mmLen_1237, mmLen_1256, mmLen_1259, mmR32, mmR64, Option.some.injEq, Int.cast_ofNat_Int, and_true, true_and, if_true, if_false, List.length_cons, List.length_nil, Nat.le_refl, Nat.zero_le, Nat.sub_zero, forall_const, reduceCtorEq, Nat.reduceAdd, Nat.reduceSub, Nat.reduceLeDiff, Nat.reduceEqDiff, Int.reduceAdd, Int.reduceNeg, Int.reduceSub, Int.reduceLT, Int.reduceLE, Int.reduceMul, Int.reduceEq, List.drop_zero, List.drop_succ_cons, ne_eq, not_false_eq_true, not_true_eq_false, false_and, and_false, false_implies, true_implies, reduceIte, mmU_rd, implies_true, or_false, false_or, or_true, true_or]
    rw [q_invV (pay := [])]
    simp only [q_k0, q_kS, q_rc, mmKo_11]
    refine ⟨Nat.le_of_ble_eq_true rfl, by trivial, Nat.zero_le _, Nat.zero_le _, ?_⟩
    refine m_manyOf (RK_W h f2) (MB_W hM f2) hB hb h2 ?_
    simp only [mmK_cut cd_193, q_cons, q_G0, q_GS, q_I1, q_L1, q_A1, q_S0, q_S1, q_SS, q_T0, q_T1, q_TS, q_Kn, q_Ki, q_Kl, q_Kr, q_k0, q_kS, q_rc, q_ps, q_pn, q_aload0, q_getfieldA, q_iload1, q_iload2, q_iadd, q_iaload, q_iconst, q_irem, q_istore, q_iload3, q_iload, q_isub, q_if_eq, q_lconst1, q_goto, q_lconst0, q_lastore, q_i2l, q_if_ne, q_getfieldI, q_idiv, q_bipush, q_baload, q_return, rf_11_37, rf_11_56, rf_11_59, mmKe_1237, mmKe_1256, mmKe_1259, mmKo_11, mmLen_1237, mmLen_1256, mmLen_1259, mmR32, mmR64, Option.some.injEq, Int.cast_ofNat_Int, and_true, true_and, if_true, if_false, List.length_cons, List.length_nil, Nat.le_refl, Nat.zero_le, Nat.sub_zero, forall_const, reduceCtorEq, Nat.reduceAdd, Nat.reduceSub, Nat.reduceLeDiff, Nat.reduceEqDiff, Int.reduceAdd, Int.reduceNeg, Int.reduceSub, Int.reduceLT, Int.reduceLE, Int.reduceMul, Int.reduceEq, List.drop_zero, List.drop_succ_cons, ne_eq, not_false_eq_true, not_true_eq_false, false_and, and_false, false_implies, true_implies, reduceIte, mmU_rd, implies_true, or_false, false_or, or_true, true_or]
    have f3 : FrW I (mmU (mmU (mmU I1 1256 0 2 z) 1256 0 3 (B fr % 4)) 1256 0 4 (cS B w 25)) := FrW_trans f2 FrW_n
    refine ⟨by omega, ?_⟩
    rw [q_invV (pay := [])]
    simp only [q_k0, q_kS, q_rc, mmKo_11]
    refine ⟨Nat.le_of_ble_eq_true rfl, by trivial, Nat.zero_le _, Nat.zero_le _, ?_⟩
    refine m_manyOf (RK_W h f3) (MB_W hM f3) hB hb (by omega) ?_
    simp only [mmK_cut cd_193, q_cons, q_G0, q_GS, q_I1, q_L1, q_A1, q_S0, q_S1, q_SS, q_T0, q_T1, q_TS, q_Kn, q_Ki, q_Kl, q_Kr, q_k0, q_kS, q_rc, q_ps, q_pn, q_aload0, q_getfieldA, q_iload1, q_iload2, q_iadd, q_iaload, q_iconst, q_irem, q_istore, q_iload3, q_iload, q_isub, q_if_eq, q_lconst1, q_goto, q_lconst0, q_lastore, q_i2l, q_if_ne, q_getfieldI, q_idiv, q_bipush, q_baload, q_return, rf_11_37, rf_11_56, rf_11_59, mmKe_1237, mmKe_1256, mmKe_1259, mmKo_11, mmLen_1237, mmLen_1256, mmLen_1259, mmR32, mmR64, Option.some.injEq, Int.cast_ofNat_Int, and_true, true_and, if_true, if_false, List.length_cons, List.length_nil, Nat.le_refl, Nat.zero_le, Nat.sub_zero, forall_const, reduceCtorEq, Nat.reduceAdd, Nat.reduceSub, Nat.reduceLeDiff, Nat.reduceEqDiff, Int.reduceAdd, Int.reduceNeg, Int.reduceSub, Int.reduceLT, Int.reduceLE, Int.reduceMul, Int.reduceEq, List.drop_zero, List.drop_succ_cons, ne_eq, not_false_eq_true, not_true_eq_false, false_and, and_false, false_implies, true_implies, reduceIte, mmU_rd, implies_true, or_false, false_or, or_true, true_or]
    have f4 : FrW I (mmU (mmU (mmU (mmU (mmU I1 1256 0 2 z) 1256 0 3 (B fr % 4)) 1256 0 4 (cS B w 25)) 1256 0 5 (cS B (1 - w) 25)) 1256 0 6 m) := FrW_trans (FrW_trans f3 FrW_n) FrW_n
    have ek : I1 1237 0 (B fr % 4) = r 710 (B fr % 4) := (f1 _ _ _ (by omega) (by omega) (by omega)).trans eking
    rw [ek]
    have g4 : ∀ k, 0 ≤ k → k < 7 → mmU (mmU (mmU (mmU (mmU I1 1256 0 2 z) 1256 0 3 (B fr % 4)) 1256 0 4 (cS B w 25)) 1256 0 5 (cS B (1 - w) 25)) 1256 0 6 m 1256 0 k = fcF r B m fr to far k := by
      intro k k0 k1
      have : k = 0 ∨ k = 1 ∨ k = 2 ∨ k = 3 ∨ k = 4 ∨ k = 5 ∨ k = 6 := by omega
      rcases this with q | q | q | q | q | q | q <;> subst q
      · exact g1 0 (by omega) (by omega)
      · exact g1 1 (by omega) (by omega)
      · exact hz
      · rfl
      · show cS B w 25 = cS B (m % 2) 25; rw [hw]
      · show cS B (1 - w) 25 = cS B (1 - m % 2) 25; rw [hw]
      · rfl
    refine ⟨hk.1, hk8, fun c => ?_, fun c => ?_⟩
    · refine mmC_step ?_
      simp only [cd_193, sg_193_0, sg_193_23, sg_193_24, sg_193_42, sg_193_52, sg_193_95, sg_193_96, mmK_cut cd_193, q_cons, q_G0, q_GS, q_I1, q_L1, q_A1, q_S0, q_S1, q_SS, q_T0, q_T1, q_TS, q_Kn, q_Ki, q_Kl, q_Kr, q_k0, q_kS, q_rc, q_ps, q_pn, q_aload0, q_getfieldA, q_iload1, q_iload2, q_iadd, q_iaload, q_iconst, q_irem, q_istore, q_iload3, q_iload, q_isub, q_if_eq, q_lconst1, q_goto, q_lconst0, q_lastore, q_i2l, q_if_ne, q_getfieldI, q_idiv, q_bipush, q_baload, q_return, rf_11_37, rf_11_56, rf_11_59, mmKe_1237, mmKe_1256, mmKe_1259, mmKo_11, mmLen_1237, mmLen_1256, mmLen_1259, mmR32, mmR64, Option.some.injEq, Int.cast_ofNat_Int, and_true, true_and, if_true, if_false, List.length_cons, List.length_nil, Nat.le_refl, Nat.zero_le, Nat.sub_zero, forall_const, reduceCtorEq, Nat.reduceAdd, Nat.reduceSub, Nat.reduceLeDiff, Nat.reduceEqDiff, Int.reduceAdd, Int.reduceNeg, Int.reduceSub, Int.reduceLT, Int.reduceLE, Int.reduceMul, Int.reduceEq, List.drop_zero, List.drop_succ_cons, ne_eq, not_false_eq_true, not_true_eq_false, false_and, and_false, false_implies, true_implies, reduceIte, mmU_rd, implies_true, or_false, false_or, or_true, true_or]
      exact w96 _ 0 (by rw [if_pos c]) f4 g4
    · exact w96 _ 1 (by rw [if_neg c]) f4 g4
  have w24 : ∀ z, z = (if B to / 4 = 1 - m % 2 then (1 : Int) else 0) → mmK (d + 3) 193 (mT a br X fun v I' => v = none ∧ FrW I I' ∧ ∀ k, 0 ≤ k → k < 8 → I' 1256 0 k = fcF r B m fr to far k) 24 [some (mo 11 0), some (mv b), some (mv fr), some (mv to), some (mv far), some (mv w), some (mv m), some (mv (B fr % 4))] [ml z, mv 0, mo 1256 0] (I, mmRf a br, X) := by
    intro z hz
    have f1 : FrW I (mmU (mmU I 1256 0 0 z) 1256 0 1 far) := FrW_trans FrW_n FrW_n
    have g1 : ∀ k, 0 ≤ k → k < 2 → mmU (mmU I 1256 0 0 z) 1256 0 1 far 1256 0 k = fcF r B m fr to far k := by
      intro k k0 k1
      have : k = 0 ∨ k = 1 := by omega
      rcases this with q | q <;> subst q
      · exact hz
      · rfl
    refine mmC_step ?_
    simp only [cd_193, sg_193_0, sg_193_23, sg_193_24, sg_193_42, sg_193_52, sg_193_95, sg_193_96, mmK_cut cd_193, q_cons, q_G0, q_GS, q_I1, q_L1, q_A1, q_S0, q_S1, q_SS, q_T0, q_T1, q_TS, q_Kn, q_Ki, q_Kl, q_Kr, q_k0, q_kS, q_rc, q_ps, q_pn, q_aload0, q_getfieldA, q_iload1, q_iload2, q_iadd, q_iaload, q_iconst, q_irem, q_istore, q_iload3, q_iload, q_isub, q_if_eq, q_lconst1, q_goto, q_lconst0, q_lastore, q_i2l, q_if_ne, q_getfieldI, q_idiv, q_bipush, q_baload, q_return, rf_11_37, rf_11_56, rf_11_59, mmKe_1237, mmKe_1256, mmKe_1259, mmKo_11, mmLen_1237, mmLen_1256, mmLen_1259, mmR32, mmR64, Option.some.injEq, Int.cast_ofNat_Int, and_true, true_and, if_true, if_false, List.length_cons, List.length_nil, Nat.le_refl, Nat.zero_le, Nat.sub_zero, forall_const, reduceCtorEq, Nat.reduceAdd, Nat.reduceSub, Nat.reduceLeDiff, Nat.reduceEqDiff, Int.reduceAdd, Int.reduceNeg, Int.reduceSub, Int.reduceLT, Int.reduceLE, Int.reduceMul, Int.reduceEq, List.drop_zero, List.drop_succ_cons, ne_eq, not_false_eq_true, not_true_eq_false, false_and, and_false, false_implies, true_implies, reduceIte, mmU_rd, implies_true, or_false, false_or, or_true, true_or]
    rw [RK_0 h]
    refine ⟨fun c => ?_, fun c => ⟨hto.1, by omega, ?_⟩⟩
    · refine mmC_step ?_
      simp only [cd_193, sg_193_0, sg_193_23, sg_193_24, sg_193_42, sg_193_52, sg_193_95, sg_193_96, mmK_cut cd_193, q_cons, q_G0, q_GS, q_I1, q_L1, q_A1, q_S0, q_S1, q_SS, q_T0, q_T1, q_TS, q_Kn, q_Ki, q_Kl, q_Kr, q_k0, q_kS, q_rc, q_ps, q_pn, q_aload0, q_getfieldA, q_iload1, q_iload2, q_iadd, q_iaload, q_iconst, q_irem, q_istore, q_iload3, q_iload, q_isub, q_if_eq, q_lconst1, q_goto, q_lconst0, q_lastore, q_i2l, q_if_ne, q_getfieldI, q_idiv, q_bipush, q_baload, q_return, rf_11_37, rf_11_56, rf_11_59, mmKe_1237, mmKe_1256, mmKe_1259, mmKo_11, mmLen_1237, mmLen_1256, mmLen_1259, mmR32, mmR64, Option.some.injEq, Int.cast_ofNat_Int, and_true, true_and, if_true, if_false, List.length_cons, List.length_nil, Nat.le_refl, Nat.zero_le, Nat.sub_zero, forall_const, reduceCtorEq, Nat.reduceAdd, Nat.reduceSub, Nat.reduceLeDiff, Nat.reduceEqDiff, Int.reduceAdd, Int.reduceNeg, Int.reduceSub, Int.reduceLT, Int.reduceLE, Int.reduceMul, Int.reduceEq, List.drop_zero, List.drop_succ_cons, ne_eq, not_false_eq_true, not_true_eq_false, false_and, and_false, false_implies, true_implies, reduceIte, mmU_rd, implies_true, or_false, false_or, or_true, true_or]
      rw [RK_0 h, RK_1 h]
      refine ⟨by omega, hto.1, by omega, by omega, ?_⟩
      exact w52 _ _ (by rw [if_neg (by omega)]) f1 g1
    · exact w52 _ _ (by rw [if_pos (by omega)]) f1 g1
  refine mmC_in (by decide) (Nat.le_of_ble_eq_true rfl) (mmC_step ?_)
  simp only [show mmMl 193 = 8 from rfl, mmLs, List.replicate, cd_193, sg_193_0, sg_193_23, sg_193_24, sg_193_42, sg_193_52, sg_193_95, sg_193_96, mmK_cut cd_193, q_cons, q_G0, q_GS, q_I1, q_L1, q_A1, q_S0, q_S1, q_SS, q_T0, q_T1, q_TS, q_Kn, q_Ki, q_Kl, q_Kr, q_k0, q_kS, q_rc, q_ps, q_pn, q_aload0, q_getfieldA, q_iload1, q_iload2, q_iadd, q_iaload, q_iconst, q_irem, q_istore, q_iload3, q_iload, q_isub, q_if_eq, q_lconst1, q_goto, q_lconst0, q_lastore, q_i2l, q_if_ne, q_getfieldI, q_idiv, q_bipush, q_baload, q_return, rf_11_37, rf_11_56, rf_11_59, mmKe_1237, mmKe_1256, mmKe_1259, mmKo_11, mmLen_1237, mmLen_1256, mmLen_1259, mmR32, mmR64, Option.some.injEq, Int.cast_ofNat_Int, and_true, true_and, if_true, if_false, List.length_cons, List.length_nil, Nat.le_refl, Nat.zero_le, Nat.sub_zero, forall_const, reduceCtorEq, Nat.reduceAdd, Nat.reduceSub, Nat.reduceLeDiff, Nat.reduceEqDiff, Int.reduceAdd, Int.reduceNeg, Int.reduceSub, Int.reduceLT, Int.reduceLE, Int.reduceMul, Int.reduceEq, List.drop_zero, List.drop_succ_cons, ne_eq, not_false_eq_true, not_true_eq_false, false_and, and_false, false_implies, true_implies, reduceIte, mmU_rd, implies_true, or_false, false_or, or_true, true_or]
  rw [q_invS (pay := [])]
  simp only [q_k0, q_kS]
  refine ⟨Nat.le_of_ble_eq_true rfl, Nat.zero_le _, Nat.zero_le _, ?_⟩
  refine sq_base (by omega) ?_
  simp only [mmK_cut cd_193, q_cons, q_G0, q_GS, q_I1, q_L1, q_A1, q_S0, q_S1, q_SS, q_T0, q_T1, q_TS, q_Kn, q_Ki, q_Kl, q_Kr, q_k0, q_kS, q_rc, q_ps, q_pn, q_aload0, q_getfieldA, q_iload1, q_iload2, q_iadd, q_iaload, q_iconst, q_irem, q_istore, q_iload3, q_iload, q_isub, q_if_eq, q_lconst1, q_goto, q_lconst0, q_lastore, q_i2l, q_if_ne, q_getfieldI, q_idiv, q_bipush, q_baload, q_return, rf_11_37, rf_11_56, rf_11_59, mmKe_1237, mmKe_1256, mmKe_1259, mmKo_11, mmLen_1237, mmLen_1256, mmLen_1259, mmR32, mmR64, Option.some.injEq, Int.cast_ofNat_Int, and_true, true_and, if_true, if_false, List.length_cons, List.length_nil, Nat.le_refl, Nat.zero_le, Nat.sub_zero, forall_const, reduceCtorEq, Nat.reduceAdd, Nat.reduceSub, Nat.reduceLeDiff, Nat.reduceEqDiff, Int.reduceAdd, Int.reduceNeg, Int.reduceSub, Int.reduceLT, Int.reduceLE, Int.reduceMul, Int.reduceEq, List.drop_zero, List.drop_succ_cons, ne_eq, not_false_eq_true, not_true_eq_false, false_and, and_false, false_implies, true_implies, reduceIte, mmU_rd, implies_true, or_false, false_or, or_true, true_or]
  rw [e, em]
  refine ⟨by omega, by omega, by omega, hof, by omega, ?_⟩
  rw [q_invV (pay := [])]
  simp only [q_k0, q_kS, q_rc, mmKo_11]
  refine ⟨Nat.le_of_ble_eq_true rfl, by trivial, Nat.zero_le _, Nat.zero_le _, ?_⟩
  refine m_isOwn hM hB hb hto (by omega) ?_
  simp only [mmK_cut cd_193, q_cons, q_G0, q_GS, q_I1, q_L1, q_A1, q_S0, q_S1, q_SS, q_T0, q_T1, q_TS, q_Kn, q_Ki, q_Kl, q_Kr, q_k0, q_kS, q_rc, q_ps, q_pn, q_aload0, q_getfieldA, q_iload1, q_iload2, q_iadd, q_iaload, q_iconst, q_irem, q_istore, q_iload3, q_iload, q_isub, q_if_eq, q_lconst1, q_goto, q_lconst0, q_lastore, q_i2l, q_if_ne, q_getfieldI, q_idiv, q_bipush, q_baload, q_return, rf_11_37, rf_11_56, rf_11_59, mmKe_1237, mmKe_1256, mmKe_1259, mmKo_11, mmLen_1237, mmLen_1256, mmLen_1259, mmR32, mmR64, Option.some.injEq, Int.cast_ofNat_Int, and_true, true_and, if_true, if_false, List.length_cons, List.length_nil, Nat.le_refl, Nat.zero_le, Nat.sub_zero, forall_const, reduceCtorEq, Nat.reduceAdd, Nat.reduceSub, Nat.reduceLeDiff, Nat.reduceEqDiff, Int.reduceAdd, Int.reduceNeg, Int.reduceSub, Int.reduceLT, Int.reduceLE, Int.reduceMul, Int.reduceEq, List.drop_zero, List.drop_succ_cons, ne_eq, not_false_eq_true, not_true_eq_false, false_and, and_false, false_implies, true_implies, reduceIte, mmU_rd, implies_true, or_false, false_or, or_true, true_or, bI_eq0]
  refine ⟨fun c => ?_, fun c => ?_⟩
  · refine mmC_step ?_
    simp only [cd_193, sg_193_0, sg_193_23, sg_193_24, sg_193_42, sg_193_52, sg_193_95, sg_193_96, mmK_cut cd_193, q_cons, q_G0, q_GS, q_I1, q_L1, q_A1, q_S0, q_S1, q_SS, q_T0, q_T1, q_TS, q_Kn, q_Ki, q_Kl, q_Kr, q_k0, q_kS, q_rc, q_ps, q_pn, q_aload0, q_getfieldA, q_iload1, q_iload2, q_iadd, q_iaload, q_iconst, q_irem, q_istore, q_iload3, q_iload, q_isub, q_if_eq, q_lconst1, q_goto, q_lconst0, q_lastore, q_i2l, q_if_ne, q_getfieldI, q_idiv, q_bipush, q_baload, q_return, rf_11_37, rf_11_56, rf_11_59, mmKe_1237, mmKe_1256, mmKe_1259, mmKo_11, mmLen_1237, mmLen_1256, mmLen_1259, mmR32, mmR64, Option.some.injEq, Int.cast_ofNat_Int, and_true, true_and, if_true, if_false, List.length_cons, List.length_nil, Nat.le_refl, Nat.zero_le, Nat.sub_zero, forall_const, reduceCtorEq, Nat.reduceAdd, Nat.reduceSub, Nat.reduceLeDiff, Nat.reduceEqDiff, Int.reduceAdd, Int.reduceNeg, Int.reduceSub, Int.reduceLT, Int.reduceLE, Int.reduceMul, Int.reduceEq, List.drop_zero, List.drop_succ_cons, ne_eq, not_false_eq_true, not_true_eq_false, false_and, and_false, false_implies, true_implies, reduceIte, mmU_rd, implies_true, or_false, false_or, or_true, true_or]
    exact w24 0 (by rw [if_neg (by rw [← hw]; exact c)])
  · exact w24 1 (by rw [if_pos (by rw [← hw]; exact Classical.not_not.mp c)])
end S812
