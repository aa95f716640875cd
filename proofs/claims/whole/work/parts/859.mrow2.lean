/-- the reference's row with m plies -/
def MRow (I : mMm) (r : mRu) (L : Nat → Int → Int) (T : List Int) (m : Int) : Prop :=
  I 11 0 63 = m ∧ I 11 0 64 = enV r (rH r L T) m ∧ (∀ i, 0 ≤ i → i ≤ m → MB I i (rH r L T i)) ∧ (∀ i, 0 ≤ i → i < m → I 1265 0 i = rV r L T i ∧ I 1266 0 i = (rC r L T i).1 ∧ I 1267 0 i = (rC r L T i).2) ∧ ML I m (mvs r (rH r L T m) m)
section S859
variable {d a : Nat} {I I1 I' I'' : mMm} {br br' : Nat → Option mmO} {R : Nat → Nat → Int → Option mmO} {X : mmX} {L : Nat → Int → Int} {r : mRu} {Ar : Int → Int} {B : mBd} {m la l z w : Int} {T Ta : List Int} {c : Int × Int} {K : Int → Bool} {Q : Option mmV → mmM → Prop}
theorem FrLy_W (h : FrW I I') : FrLy I I' := fun t i k c1 c2 c3 => h t i k (by omega) (by omega) (by omega)
theorem FrLy_V {b : Int} (h : FrV b I I') : FrLy I I' := fun t i k c1 c2 c3 => h t i k (by omega) (by omega) (by omega) (by omega) (by omega)
theorem FrLy_H {b : Int} (h : FrH b I I') : FrLy I I' := fun t i k c1 c2 c3 => h t i k (by omega)
theorem FrLy_0 (h : Fr0 I I') : FrLy I I' := fun t i k c1 c2 c3 => h t i k (by omega)
theorem FrLy_U {t : Nat} {k v : Int} (h : (t = 11 ∧ (k = 58 ∨ k = 63 ∨ k = 64)) ∨ (1256 ≤ t ∧ t ≤ 1267) ∨ t = 1279) : FrLy I (mmU I t 0 k v) := fun t' i' k' c1 c2 c3 => by
  unfold mmU
  rw [if_neg (fun q => by have := q.1; have := q.2.2; omega)]
/-- an if of another player doesn't fit -/
theorem fk_other (hW : LW L) (hl : 0 ≤ l ∧ l < L 0 0) (hp : ¬ L 1 l = m % 2) : fk (ifP r L m B la l) (nIf L l).toNat 0 = -1 := by
  have hN := nIf_in hW hl
  refine fk_none (by omega) (fun k k0 k1 q => ?_)
  have := (if_in hW hl (k := k) ⟨k0, by omega⟩).2.2.1.2.2
  rw [q.1] at this
  omega
set_option maxHeartbeats 1000000 in
theorem m_rowI (hw : 0 ≤ w ∧ w < 4) (hR : RK r I) (hMB : MB I m B) (hB : BW r B) (hp : I 11 0 63 = m) (hm : 0 ≤ m ∧ m < 60) (hM : ME I L Ar) (hW : LW L) (hla0 : m = 0 → la = -1) (hla1 : 0 < m → I 1265 0 (m - 1) = la) (hA : LA (I 1279 0) Ta) (hTa : ∀ e, e ∈ Ta → 0 ≤ e ∧ e < L 0 0) (hlen : (Ta.length : Int) = L 0 0)
    (c0 : ∀ I1 l3 l4, FrW I I1 → c.1 = -1 → mmK (d + 9) 219 Q 55 [some (mo 11 0), some (mv w), some (mv 0), l3, l4] [] (I1, mmRf a br, X))
    (c1 : ∀ I1 I2 l3 l4, FrW I I1 → ¬ c.1 = -1 → I2 = mmU (mmU (mmU I1 1265 0 m (vlI L c)) 1266 0 m c.1) 1267 0 m c.2 → mmK (d + 9) 219 Q 55 [some (mo 11 0), some (mv w), some (mv 1), l3, l4] [] (I2, mmRf a br, X)) :
    ∀ (Ts Td : List Int) (I1 : mMm) (l4 : Option mmV), Td ++ Ts = Ta → FrW I I1 → fl (ifP r L m B la) (nIf L) (Ts.filter (Kv L Ar w)) = c → mmK (d + 9) 219 Q 20 [some (mo 11 0), some (mv w), some (mv 0), some (mv Td.length), l4] [] (I1, mmRf a br, X) := by
  have h16 := hW.1
  intro Ts
  induction Ts with
  | nil =>
    intro Td I1 l4 hT hf hfl
    rw [List.append_nil] at hT
    subst hT
    have e68 : I1 11 0 68 = L 0 0 := (hf _ _ _ (by omega) (by omega) (by omega)).trans hM.1
    refine mmC_step ?_
    simp only [cd_219, sg_219_0, sg_219_11, sg_219_20, sg_219_51, sg_219_52, sg_219_55, sg_219_79, mmK_cut cd_219, q_cons, q_G0, q_GS, q_I1, q_L1, q_A1, q_S0, q_S1, q_SS, q_T0, q_T1, q_TS, q_Kn, q_Ki, q_Kl, q_Kr, q_k0, q_kS, q_rc, q_ps, q_pn, q_aload0, q_iconst, q_putfieldI, q_istore2, q_iload2, q_if_eq, q_getfieldI, q_if_ne, q_istore3, q_iload3, q_icmp_ge, q_getfieldA, q_iaload, q_istore, q_iload, q_irem, q_icmp_ne, q_iload1, q_goto, q_iinc, q_iadd, q_dupI, q_dupA, q_return, rf_11_65, rf_11_70, rf_11_79, mmKe_1265, mmKe_1270, mmKe_1279, mmKo_11, mmLen_1265, mmLen_1270, mmLen_1279, mmR32, mmR64, Option.some.injEq, Int.cast_ofNat_Int, and_true, true_and, if_true, if_false, List.length_cons, List.length_nil, Nat.le_refl, Nat.zero_le, Nat.sub_zero, forall_const, reduceCtorEq, Nat.reduceAdd, Nat.reduceSub, Nat.reduceLeDiff, Nat.reduceEqDiff, Int.reduceAdd, Int.reduceNeg, Int.reduceSub, Int.reduceLT, Int.reduceLE, Int.reduceMul, Int.reduceEq, List.drop_zero, List.drop_succ_cons, ne_eq, not_false_eq_true, not_true_eq_false, false_and, and_false, false_implies, true_implies, reduceIte, mmU_rd, implies_true, or_false, false_or, or_true, true_or]
    rw [e68]
    refine ⟨fun _ => c0 I1 _ _ hf (by rw [← hfl]; rfl), fun c => by omega⟩
  | cons l Ts ih =>
    intro Td I1 l4 hT hf hfl
    have e68 : I1 11 0 68 = L 0 0 := (hf _ _ _ (by omega) (by omega) (by omega)).trans hM.1
    have elen : Ta.length = Td.length + Ts.length + 1 := by rw [← hT, List.length_append, List.length_cons]; omega
    have hl := hTa l (by rw [← hT]; exact List.mem_append_right _ (List.mem_cons_self ..))
    have hM1 := ME_L hM (FrLy_W hf)
    have e79 : I1 1279 0 Td.length = l := by
      rw [hf _ _ _ (by omega) (by omega) (by omega), hA Td.length (by omega), ← hT, List.getD_eq_getElem?_getD, List.getElem?_append_right (Nat.le_refl _), Nat.sub_self]
      rfl
    have e70 : I1 1270 0 l = L 1 l := (hM1.2.2.1 l hl.1 hl.2).1
    have e63 : I1 11 0 63 = m := (hf _ _ _ (by omega) (by omega) (by omega)).trans hp
    have w51 : ∀ I2, FrW I I2 → fl (ifP r L m B la) (nIf L) (Ts.filter (Kv L Ar w)) = c → mmK (d + 9) 219 Q 51 [some (mo 11 0), some (mv w), some (mv 0), some (mv Td.length), some (mv l)] [] (I2, mmRf a br, X) := by
      intro I2 f2 hfl2
      refine mmC_step ?_
      simp only [cd_219, sg_219_0, sg_219_11, sg_219_20, sg_219_51, sg_219_52, sg_219_55, sg_219_79, mmK_cut cd_219, q_cons, q_G0, q_GS, q_I1, q_L1, q_A1, q_S0, q_S1, q_SS, q_T0, q_T1, q_TS, q_Kn, q_Ki, q_Kl, q_Kr, q_k0, q_kS, q_rc, q_ps, q_pn, q_aload0, q_iconst, q_putfieldI, q_istore2, q_iload2, q_if_eq, q_getfieldI, q_if_ne, q_istore3, q_iload3, q_icmp_ge, q_getfieldA, q_iaload, q_istore, q_iload, q_irem, q_icmp_ne, q_iload1, q_goto, q_iinc, q_iadd, q_dupI, q_dupA, q_return, rf_11_65, rf_11_70, rf_11_79, mmKe_1265, mmKe_1270, mmKe_1279, mmKo_11, mmLen_1265, mmLen_1270, mmLen_1279, mmR32, mmR64, Option.some.injEq, Int.cast_ofNat_Int, and_true, true_and, if_true, if_false, List.length_cons, List.length_nil, Nat.le_refl, Nat.zero_le, Nat.sub_zero, forall_const, reduceCtorEq, Nat.reduceAdd, Nat.reduceSub, Nat.reduceLeDiff, Nat.reduceEqDiff, Int.reduceAdd, Int.reduceNeg, Int.reduceSub, Int.reduceLT, Int.reduceLE, Int.reduceMul, Int.reduceEq, List.drop_zero, List.drop_succ_cons, ne_eq, not_false_eq_true, not_true_eq_false, false_and, and_false, false_implies, true_implies, reduceIte, mmU_rd, implies_true, or_false, false_or, or_true, true_or]
      refine mmC_step ?_
      simp only [cd_219, sg_219_0, sg_219_11, sg_219_20, sg_219_51, sg_219_52, sg_219_55, sg_219_79, mmK_cut cd_219, q_cons, q_G0, q_GS, q_I1, q_L1, q_A1, q_S0, q_S1, q_SS, q_T0, q_T1, q_TS, q_Kn, q_Ki, q_Kl, q_Kr, q_k0, q_kS, q_rc, q_ps, q_pn, q_aload0, q_iconst, q_putfieldI, q_istore2, q_iload2, q_if_eq, q_getfieldI, q_if_ne, q_istore3, q_iload3, q_icmp_ge, q_getfieldA, q_iaload, q_istore, q_iload, q_irem, q_icmp_ne, q_iload1, q_goto, q_iinc, q_iadd, q_dupI, q_dupA, q_return, rf_11_65, rf_11_70, rf_11_79, mmKe_1265, mmKe_1270, mmKe_1279, mmKo_11, mmLen_1265, mmLen_1270, mmLen_1279, mmR32, mmR64, Option.some.injEq, Int.cast_ofNat_Int, and_true, true_and, if_true, if_false, List.length_cons, List.length_nil, Nat.le_refl, Nat.zero_le, Nat.sub_zero, forall_const, reduceCtorEq, Nat.reduceAdd, Nat.reduceSub, Nat.reduceLeDiff, Nat.reduceEqDiff, Int.reduceAdd, Int.reduceNeg, Int.reduceSub, Int.reduceLT, Int.reduceLE, Int.reduceMul, Int.reduceEq, List.drop_zero, List.drop_succ_cons, ne_eq, not_false_eq_true, not_true_eq_false, false_and, and_false, false_implies, true_implies, reduceIte, mmU_rd, implies_true, or_false, false_or, or_true, true_or]
      have := ih (Td ++ [l]) I2 (some (mv l)) (by rw [List.append_assoc]; exact hT) f2 hfl2
      rw [List.length_append, List.length_singleton] at this
      exact ⟨by omega, this⟩
    have skipf : fk (ifP r L m B la l) (nIf L l).toNat 0 = -1 → fl (ifP r L m B la) (nIf L) (Ts.filter (Kv L Ar w)) = c := by
      intro h
      by_cases cK : Kv L Ar w l = true
      · rw [List.filter_cons_of_pos cK, fl_pos h] at hfl; exact hfl
      · rw [List.filter_cons_of_neg cK] at hfl; exact hfl
    refine mmC_step ?_
    simp only [cd_219, sg_219_0, sg_219_11, sg_219_20, sg_219_51, sg_219_52, sg_219_55, sg_219_79, mmK_cut cd_219, q_cons, q_G0, q_GS, q_I1, q_L1, q_A1, q_S0, q_S1, q_SS, q_T0, q_T1, q_TS, q_Kn, q_Ki, q_Kl, q_Kr, q_k0, q_kS, q_rc, q_ps, q_pn, q_aload0, q_iconst, q_putfieldI, q_istore2, q_iload2, q_if_eq, q_getfieldI, q_if_ne, q_istore3, q_iload3, q_icmp_ge, q_getfieldA, q_iaload, q_istore, q_iload, q_irem, q_icmp_ne, q_iload1, q_goto, q_iinc, q_iadd, q_dupI, q_dupA, q_return, rf_11_65, rf_11_70, rf_11_79, mmKe_1265, mmKe_1270, mmKe_1279, mmKo_11, mmLen_1265, mmLen_1270, mmLen_1279, mmR32, mmR64, Option.some.injEq, Int.cast_ofNat_Int, and_true, true_and, if_true, if_false, List.length_cons, List.length_nil, Nat.le_refl, Nat.zero_le, Nat.sub_zero, forall_const, reduceCtorEq, Nat.reduceAdd, Nat.reduceSub, Nat.reduceLeDiff, Nat.reduceEqDiff, Int.reduceAdd, Int.reduceNeg, Int.reduceSub, Int.reduceLT, Int.reduceLE, Int.reduceMul, Int.reduceEq, List.drop_zero, List.drop_succ_cons, ne_eq, not_false_eq_true, not_true_eq_false, false_and, and_false, false_implies, true_implies, reduceIte, mmU_rd, implies_true, or_false, false_or, or_true, true_or]
    rw [e68, e79, e70, e63]
    refine ⟨fun c => by omega, fun _ => ⟨by omega, by omega, by omega, by omega, hm.1, fun cp => w51 I1 hf (skipf (fk_other hW hl cp)), fun cp => ?_⟩⟩
    rw [q_invV (pay := [])]
    simp only [q_k0, q_kS, q_rc, mmKo_11]
    refine ⟨Nat.le_of_ble_eq_true rfl, by trivial, Nat.zero_le _, Nat.zero_le _, ?_⟩
    refine m_isSeen hM1 hW hw hl ?_
    simp only [mmK_cut cd_219, q_cons, q_G0, q_GS, q_I1, q_L1, q_A1, q_S0, q_S1, q_SS, q_T0, q_T1, q_TS, q_Kn, q_Ki, q_Kl, q_Kr, q_k0, q_kS, q_rc, q_ps, q_pn, q_aload0, q_iconst, q_putfieldI, q_istore2, q_iload2, q_if_eq, q_getfieldI, q_if_ne, q_istore3, q_iload3, q_icmp_ge, q_getfieldA, q_iaload, q_istore, q_iload, q_irem, q_icmp_ne, q_iload1, q_goto, q_iinc, q_iadd, q_dupI, q_dupA, q_return, rf_11_65, rf_11_70, rf_11_79, mmKe_1265, mmKe_1270, mmKe_1279, mmKo_11, mmLen_1265, mmLen_1270, mmLen_1279, mmR32, mmR64, Option.some.injEq, Int.cast_ofNat_Int, and_true, true_and, if_true, if_false, List.length_cons, List.length_nil, Nat.le_refl, Nat.zero_le, Nat.sub_zero, forall_const, reduceCtorEq, Nat.reduceAdd, Nat.reduceSub, Nat.reduceLeDiff, Nat.reduceEqDiff, Int.reduceAdd, Int.reduceNeg, Int.reduceSub, Int.reduceLT, Int.reduceLE, Int.reduceMul, Int.reduceEq, List.drop_zero, List.drop_succ_cons, ne_eq, not_false_eq_true, not_true_eq_false, false_and, and_false, false_implies, true_implies, reduceIte, mmU_rd, implies_true, or_false, false_or, or_true, true_or, bI_eq0]
    refine ⟨fun cs => w51 I1 hf ?_, fun cs => ?_⟩
    · rw [List.filter_cons_of_neg cs] at hfl; exact hfl
    · have cs := Classical.not_not.mp cs
      rw [q_invV (pay := [])]
      simp only [q_k0, q_kS, q_rc, mmKo_11]
      refine ⟨Nat.le_of_ble_eq_true rfl, by trivial, Nat.zero_le _, Nat.zero_le _, ?_⟩
      refine mT_use (m_plays (la := la) (RK_W hR hf) (MB_W hMB hf) hB e63 hm hM1 hW hl hla0 (fun q => (hf _ _ _ (by omega) (by omega) (by omega)).trans (hla1 q))) (fun u I2 q2 => ?_)
      rcases q2 with ⟨q1, rfl, f2⟩ | ⟨q1, rfl, I3, f3, e3⟩
      · simp only [mmK_cut cd_219, q_cons, q_G0, q_GS, q_I1, q_L1, q_A1, q_S0, q_S1, q_SS, q_T0, q_T1, q_TS, q_Kn, q_Ki, q_Kl, q_Kr, q_k0, q_kS, q_rc, q_ps, q_pn, q_aload0, q_iconst, q_putfieldI, q_istore2, q_iload2, q_if_eq, q_getfieldI, q_if_ne, q_istore3, q_iload3, q_icmp_ge, q_getfieldA, q_iaload, q_istore, q_iload, q_irem, q_icmp_ne, q_iload1, q_goto, q_iinc, q_iadd, q_dupI, q_dupA, q_return, rf_11_65, rf_11_70, rf_11_79, mmKe_1265, mmKe_1270, mmKe_1279, mmKo_11, mmLen_1265, mmLen_1270, mmLen_1279, mmR32, mmR64, Option.some.injEq, Int.cast_ofNat_Int, and_true, true_and, if_true, if_false, List.length_cons, List.length_nil, Nat.le_refl, Nat.zero_le, Nat.sub_zero, forall_const, reduceCtorEq, Nat.reduceAdd, Nat.reduceSub, Nat.reduceLeDiff, Nat.reduceEqDiff, Int.reduceAdd, Int.reduceNeg, Int.reduceSub, Int.reduceLT, Int.reduceLE, Int.reduceMul, Int.reduceEq, List.drop_zero, List.drop_succ_cons, ne_eq, not_false_eq_true, not_true_eq_false, false_and, and_false, false_implies, true_implies, reduceIte, mmU_rd, implies_true, or_false, false_or, or_true, true_or]
        exact w51 I2 (FrW_trans hf f2) (skipf q1)
      · rw [List.filter_cons_of_pos cs, fl_neg q1] at hfl
        simp only [mmK_cut cd_219, q_cons, q_G0, q_GS, q_I1, q_L1, q_A1, q_S0, q_S1, q_SS, q_T0, q_T1, q_TS, q_Kn, q_Ki, q_Kl, q_Kr, q_k0, q_kS, q_rc, q_ps, q_pn, q_aload0, q_iconst, q_putfieldI, q_istore2, q_iload2, q_if_eq, q_getfieldI, q_if_ne, q_istore3, q_iload3, q_icmp_ge, q_getfieldA, q_iaload, q_istore, q_iload, q_irem, q_icmp_ne, q_iload1, q_goto, q_iinc, q_iadd, q_dupI, q_dupA, q_return, rf_11_65, rf_11_70, rf_11_79, mmKe_1265, mmKe_1270, mmKe_1279, mmKo_11, mmLen_1265, mmLen_1270, mmLen_1279, mmR32, mmR64, Option.some.injEq, Int.cast_ofNat_Int, and_true, true_and, if_true, if_false, List.length_cons, List.length_nil, Nat.le_refl, Nat.zero_le, Nat.sub_zero, forall_const, reduceCtorEq, Nat.reduceAdd, Nat.reduceSub, Nat.reduceLeDiff, Nat.reduceEqDiff, Int.reduceAdd, Int.reduceNeg, Int.reduceSub, Int.reduceLT, Int.reduceLE, Int.reduceMul, Int.reduceEq, List.drop_zero, List.drop_succ_cons, ne_eq, not_false_eq_true, not_true_eq_false, false_and, and_false, false_implies, true_implies, reduceIte, mmU_rd, implies_true, or_false, false_or, or_true, true_or]
        refine mmC_step ?_
        simp only [cd_219, sg_219_0, sg_219_11, sg_219_20, sg_219_51, sg_219_52, sg_219_55, sg_219_79, mmK_cut cd_219, q_cons, q_G0, q_GS, q_I1, q_L1, q_A1, q_S0, q_S1, q_SS, q_T0, q_T1, q_TS, q_Kn, q_Ki, q_Kl, q_Kr, q_k0, q_kS, q_rc, q_ps, q_pn, q_aload0, q_iconst, q_putfieldI, q_istore2, q_iload2, q_if_eq, q_getfieldI, q_if_ne, q_istore3, q_iload3, q_icmp_ge, q_getfieldA, q_iaload, q_istore, q_iload, q_irem, q_icmp_ne, q_iload1, q_goto, q_iinc, q_iadd, q_dupI, q_dupA, q_return, rf_11_65, rf_11_70, rf_11_79, mmKe_1265, mmKe_1270, mmKe_1279, mmKo_11, mmLen_1265, mmLen_1270, mmLen_1279, mmR32, mmR64, Option.some.injEq, Int.cast_ofNat_Int, and_true, true_and, if_true, if_false, List.length_cons, List.length_nil, Nat.le_refl, Nat.zero_le, Nat.sub_zero, forall_const, reduceCtorEq, Nat.reduceAdd, Nat.reduceSub, Nat.reduceLeDiff, Nat.reduceEqDiff, Int.reduceAdd, Int.reduceNeg, Int.reduceSub, Int.reduceLT, Int.reduceLE, Int.reduceMul, Int.reduceEq, List.drop_zero, List.drop_succ_cons, ne_eq, not_false_eq_true, not_true_eq_false, false_and, and_false, false_implies, true_implies, reduceIte, mmU_rd, implies_true, or_false, false_or, or_true, true_or]
        refine ⟨by omega, ?_⟩
        have hc1 : ∀ l3 l4, mmK (d + 9) 219 Q 55 [some (mo 11 0), some (mv w), some (mv 1), l3, l4] [] (I2, mmRf a br, X) := fun l3 l4 => c1 I3 I2 l3 l4 (FrW_trans hf f3) (by rw [← hfl]; show ¬ l = -1; omega) (by rw [← hfl]; exact e3)
        have e68' : I2 11 0 68 = L 0 0 := by
          rw [e3]; unfold mmU
          rw [if_neg (by omega), if_neg (by omega), if_neg (by omega)]
          exact (f3 _ _ _ (by omega) (by omega) (by omega)).trans e68
        refine mmC_step ?_
        simp only [cd_219, sg_219_0, sg_219_11, sg_219_20, sg_219_51, sg_219_52, sg_219_55, sg_219_79, mmK_cut cd_219, q_cons, q_G0, q_GS, q_I1, q_L1, q_A1, q_S0, q_S1, q_SS, q_T0, q_T1, q_TS, q_Kn, q_Ki, q_Kl, q_Kr, q_k0, q_kS, q_rc, q_ps, q_pn, q_aload0, q_iconst, q_putfieldI, q_istore2, q_iload2, q_if_eq, q_getfieldI, q_if_ne, q_istore3, q_iload3, q_icmp_ge, q_getfieldA, q_iaload, q_istore, q_iload, q_irem, q_icmp_ne, q_iload1, q_goto, q_iinc, q_iadd, q_dupI, q_dupA, q_return, rf_11_65, rf_11_70, rf_11_79, mmKe_1265, mmKe_1270, mmKe_1279, mmKo_11, mmLen_1265, mmLen_1270, mmLen_1279, mmR32, mmR64, Option.some.injEq, Int.cast_ofNat_Int, and_true, true_and, if_true, if_false, List.length_cons, List.length_nil, Nat.le_refl, Nat.zero_le, Nat.sub_zero, forall_const, reduceCtorEq, Nat.reduceAdd, Nat.reduceSub, Nat.reduceLeDiff, Nat.reduceEqDiff, Int.reduceAdd, Int.reduceNeg, Int.reduceSub, Int.reduceLT, Int.reduceLE, Int.reduceMul, Int.reduceEq, List.drop_zero, List.drop_succ_cons, ne_eq, not_false_eq_true, not_true_eq_false, false_and, and_false, false_implies, true_implies, reduceIte, mmU_rd, implies_true, or_false, false_or, or_true, true_or]
        exact ⟨fun _ => hc1 _ _, fun _ => hc1 _ _⟩
end S859
