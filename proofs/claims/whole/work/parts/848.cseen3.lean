def FrQ (j : Nat) (I I' : mMm) : Prop := ∀ t i k, ¬ (i = j ∧ ((101 ≤ t ∧ t ≤ 106) ∨ (603 ≤ t ∧ t ≤ 612) ∨ (t = 0 ∧ k = 4) ∨ t = 5)) → ¬ t = 201 → I' t i k = I t i k
/-- the row of view w, number w + 1, is as the letters and the rules tell -/
def RowV (I : mMm) (br : Nat → Option mmO) (a w : Nat) (r : mRu) (L : Nat → Int → Int) : Prop :=
  br (w + 1) = some (6, a) ∧ I 5 (w + 1) 1 = knA (Kv L (L 3) w) (L 0 0).toNat ∧ RowC I (w + 1) r L (r 6 7) (odT L (r 6 7) (Kv L (L 3) w))
section S848
variable {d a j x t i w : Nat} {I I1 I' I'' : mMm} {br : Nat → Option mmO} {R : Nat → Nat → Int → Option mmO} {X : mmX} {L : Nat → Int → Int} {r : mRu} {B : mBd} {m la z : Int} {Ar : Int → Int} {Q : Option mmV → mmM → Prop}
theorem rf_1107 (hw : w < 4) : mmRf a br 1107 0 (w : Int) = some (5, w + 1) := by
  show (if 0 ≤ (w : Int) ∧ (w : Int) < 4 then some (5, (w : Int).toNat + 1) else none) = _
  rw [if_pos ⟨by omega, by omega⟩]; rfl
theorem RowC_U0 {T : List Int} {v : Int} (h : RowC I j r L z T) : RowC (mmU I 5 j 0 v) j r L z T := by
  have e : ∀ t k, ¬ (t = 5 ∧ k = 0) → mmU I 5 j 0 v t j k = I t j k := fun t k c => by unfold mmU; rw [if_neg (by omega)]
  refine ⟨RowA_ext h.1 (BV_ext h.1.1 (fun t z ht => e _ _ (by omega)) (e _ _ (by omega))) (fun t k ht => e _ _ (by omega)), (e _ _ (by omega)).trans h.2.1, fun he => ⟨(e _ _ (by omega)).trans (h.2.2.1 he).1, LA_ext (h.2.2.1 he).2 (fun k _ _ => e _ _ (by omega))⟩, fun he => (e _ _ (by omega)).trans (h.2.2.2 he)⟩
theorem c_seen (hw : w < 4) (hC : CR I a r) (hq : RQ r) (hB0 : BW r (r 714)) (hL : CL I L) (hW : LW L) (hch : I 5 (w + 1) 0 = I 10 0 11 → RowV I br a w r L) (hQ : ∀ I' br', FrQ (w + 1) I I' → (∀ i, ¬ i = w + 1 → br' i = br i) → I' 5 (w + 1) 0 = I' 10 0 11 → RowV I' br' a w r L → Q (some (mo 5 (w + 1))) (I', mmRf a br', X)) : mmC (d + 7) 134 [mo 10 0, mv w] (I, mmRf a br, X) Q := by
  have hrf := rf_1107 (a := a) (br := br) hw
  have h16 := hW.1
  refine mmC_in (by decide) (Nat.le_of_ble_eq_true rfl) (mmC_step ?_)
  simp only [show mmMl 134 = 3 from rfl, mmLs, List.replicate, cd_134, sg_134_0, sg_134_27, mmK_cut cd_134, q_cons, q_G0, q_GS, q_I1, q_L1, q_A1, q_S0, q_S1, q_SS, q_T0, q_T1, q_TS, q_Kn, q_Ki, q_Kl, q_Kr, q_k0, q_kS, q_rc, q_ps, q_pn, q_aload0, q_getfieldA, q_iload1, q_aaload, q_astore2, q_aload2, q_getfieldI, q_icmp_eq, q_putfieldI, q_areturn, rf_10_2, rf_10_4, rf_10_7, rf_3_3, mmKe_1107, mmKe_403, mmKo_10, mmKo_3, mmKo_5, mmLen_1107, mmLen_403, mmR32, mmR64, Option.some.injEq, Int.cast_ofNat_Int, and_true, true_and, if_true, if_false, List.length_cons, List.length_nil, Nat.le_refl, Nat.zero_le, Nat.sub_zero, forall_const, reduceCtorEq, Nat.reduceAdd, Nat.reduceSub, Nat.reduceLeDiff, Nat.reduceEqDiff, Int.reduceAdd, Int.reduceNeg, Int.reduceSub, Int.reduceLT, Int.reduceLE, Int.reduceMul, Int.reduceEq, List.drop_zero, List.drop_succ_cons, ne_eq, not_false_eq_true, not_true_eq_false, false_and, and_false, false_implies, true_implies, reduceIte, mmU_rd, implies_true, or_false, false_or, or_true, true_or, hrf]
  refine ⟨by omega, by omega, fun c => ?_, fun c => ?_⟩
  · refine mmC_step ?_
    simp only [cd_134, sg_134_0, sg_134_27, mmK_cut cd_134, q_cons, q_G0, q_GS, q_I1, q_L1, q_A1, q_S0, q_S1, q_SS, q_T0, q_T1, q_TS, q_Kn, q_Ki, q_Kl, q_Kr, q_k0, q_kS, q_rc, q_ps, q_pn, q_aload0, q_getfieldA, q_iload1, q_aaload, q_astore2, q_aload2, q_getfieldI, q_icmp_eq, q_putfieldI, q_areturn, rf_10_2, rf_10_4, rf_10_7, rf_3_3, mmKe_1107, mmKe_403, mmKo_10, mmKo_3, mmKo_5, mmLen_1107, mmLen_403, mmR32, mmR64, Option.some.injEq, Int.cast_ofNat_Int, and_true, true_and, if_true, if_false, List.length_cons, List.length_nil, Nat.le_refl, Nat.zero_le, Nat.sub_zero, forall_const, reduceCtorEq, Nat.reduceAdd, Nat.reduceSub, Nat.reduceLeDiff, Nat.reduceEqDiff, Int.reduceAdd, Int.reduceNeg, Int.reduceSub, Int.reduceLT, Int.reduceLE, Int.reduceMul, Int.reduceEq, List.drop_zero, List.drop_succ_cons, ne_eq, not_false_eq_true, not_true_eq_false, false_and, and_false, false_implies, true_implies, reduceIte, mmU_rd, implies_true, or_false, false_or, or_true, true_or]
    exact hQ I br (fun _ _ _ _ _ => rfl) (fun _ _ => rfl) c (hch c)
  · rw [q_invV (pay := [])]
    simp only [q_k0, q_kS, q_rc, mmKo_3]
    refine ⟨Nat.le_of_ble_eq_true rfl, by trivial, Nat.zero_le _, Nat.zero_le _, ?_⟩
    refine c_known (Ar := L 3) hL hW ⟨by omega, by omega⟩ rfl rfl (fun l _ _ => hL 3 l (by omega)) ?_
    simp only [mmK_cut cd_134, q_cons, q_G0, q_GS, q_I1, q_L1, q_A1, q_S0, q_S1, q_SS, q_T0, q_T1, q_TS, q_Kn, q_Ki, q_Kl, q_Kr, q_k0, q_kS, q_rc, q_ps, q_pn, q_aload0, q_getfieldA, q_iload1, q_aaload, q_astore2, q_aload2, q_getfieldI, q_icmp_eq, q_putfieldI, q_areturn, rf_10_2, rf_10_4, rf_10_7, rf_3_3, mmKe_1107, mmKe_403, mmKo_10, mmKo_3, mmKo_5, mmLen_1107, mmLen_403, mmR32, mmR64, Option.some.injEq, Int.cast_ofNat_Int, and_true, true_and, if_true, if_false, List.length_cons, List.length_nil, Nat.le_refl, Nat.zero_le, Nat.sub_zero, forall_const, reduceCtorEq, Nat.reduceAdd, Nat.reduceSub, Nat.reduceLeDiff, Nat.reduceEqDiff, Int.reduceAdd, Int.reduceNeg, Int.reduceSub, Int.reduceLT, Int.reduceLE, Int.reduceMul, Int.reduceEq, List.drop_zero, List.drop_succ_cons, ne_eq, not_false_eq_true, not_true_eq_false, false_and, and_false, false_implies, true_implies, reduceIte, mmU_rd, implies_true, or_false, false_or, or_true, true_or]
    rw [q_invV (pay := [])]
    simp only [q_k0, q_kS, q_rc, mmKo_5]
    refine ⟨Nat.le_of_ble_eq_true rfl, by trivial, Nat.zero_le _, Nat.zero_le _, ?_⟩
    refine c_replay (K := Kv L (L 3) w) hC hq hB0 hL hW (knA_KB ⟨by omega, by omega⟩) (fun I1 f1 e1 hR => ?_)
    have e11 : I1 10 0 11 = I 10 0 11 := f1 _ _ _ (by omega) (by omega)
    simp only [mmK_cut cd_134, q_cons, q_G0, q_GS, q_I1, q_L1, q_A1, q_S0, q_S1, q_SS, q_T0, q_T1, q_TS, q_Kn, q_Ki, q_Kl, q_Kr, q_k0, q_kS, q_rc, q_ps, q_pn, q_aload0, q_getfieldA, q_iload1, q_aaload, q_astore2, q_aload2, q_getfieldI, q_icmp_eq, q_putfieldI, q_areturn, rf_10_2, rf_10_4, rf_10_7, rf_3_3, mmKe_1107, mmKe_403, mmKo_10, mmKo_3, mmKo_5, mmLen_1107, mmLen_403, mmR32, mmR64, Option.some.injEq, Int.cast_ofNat_Int, and_true, true_and, if_true, if_false, List.length_cons, List.length_nil, Nat.le_refl, Nat.zero_le, Nat.sub_zero, forall_const, reduceCtorEq, Nat.reduceAdd, Nat.reduceSub, Nat.reduceLeDiff, Nat.reduceEqDiff, Int.reduceAdd, Int.reduceNeg, Int.reduceSub, Int.reduceLT, Int.reduceLE, Int.reduceMul, Int.reduceEq, List.drop_zero, List.drop_succ_cons, ne_eq, not_false_eq_true, not_true_eq_false, false_and, and_false, false_implies, true_implies, reduceIte, mmU_rd, implies_true, or_false, false_or, or_true, true_or]
    refine mmC_step ?_
    simp only [cd_134, sg_134_0, sg_134_27, mmK_cut cd_134, q_cons, q_G0, q_GS, q_I1, q_L1, q_A1, q_S0, q_S1, q_SS, q_T0, q_T1, q_TS, q_Kn, q_Ki, q_Kl, q_Kr, q_k0, q_kS, q_rc, q_ps, q_pn, q_aload0, q_getfieldA, q_iload1, q_aaload, q_astore2, q_aload2, q_getfieldI, q_icmp_eq, q_putfieldI, q_areturn, rf_10_2, rf_10_4, rf_10_7, rf_3_3, mmKe_1107, mmKe_403, mmKo_10, mmKo_3, mmKo_5, mmLen_1107, mmLen_403, mmR32, mmR64, Option.some.injEq, Int.cast_ofNat_Int, and_true, true_and, if_true, if_false, List.length_cons, List.length_nil, Nat.le_refl, Nat.zero_le, Nat.sub_zero, forall_const, reduceCtorEq, Nat.reduceAdd, Nat.reduceSub, Nat.reduceLeDiff, Nat.reduceEqDiff, Int.reduceAdd, Int.reduceNeg, Int.reduceSub, Int.reduceLT, Int.reduceLE, Int.reduceMul, Int.reduceEq, List.drop_zero, List.drop_succ_cons, ne_eq, not_false_eq_true, not_true_eq_false, false_and, and_false, false_implies, true_implies, reduceIte, mmU_rd, implies_true, or_false, false_or, or_true, true_or]
    refine hQ _ _ ?_ (fun i hi => if_neg hi) ?_ ⟨bru_same, ?_, RowC_U0 hR⟩
    · intro t i k c1 c2
      unfold mmU
      rw [if_neg (by omega)]
      exact f1 t i k (by omega) c2
    · unfold mmU; rw [if_pos ⟨rfl, rfl, rfl⟩, if_neg (by omega)]
    · unfold mmU; rw [if_neg (by omega)]; exact e1
end S848
