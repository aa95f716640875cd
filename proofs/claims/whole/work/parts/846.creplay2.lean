section S846
variable {d a j x : Nat} {I I1 I' I'' : mMm} {br : Nat → Option mmO} {R : Nat → Nat → Int → Option mmO} {X : mmX} {L : Nat → Int → Int} {r : mRu} {B : mBd} {m la z : Int} {c : Int × Int} {T Td T' : List Int} {Q : Option mmV → mmM → Prop}
def KyL (I : mMm) (j : Nat) (H : Int → mBd) (m : Int) : Prop := ∀ i, 0 ≤ i → i < m → I 611 j i = kyV (H i) 0 13 ∧ I 612 j i = kyV (H i) 13 12
set_option maxHeartbeats 1000000 in
theorem c_replayL {A3 : Int} (hb : br j = some (6, x)) (hC : CR I x r) (hq : RQ r) (hB0 : BW r (r 714)) (hL : CL I L) (hW : LW L) (hT : TL L T) (hp : T.Pairwise (fun a b => oW L z a < oW L z b)) (hT16 : T.length ≤ 16) (hQ : ∀ I', FrRow j I I' → I' 5 j 1 = I 5 j 1 → RowC I' j r L z T → Q none (I', mmRf a br, X)) :
    ∀ (q : Nat) (m : Int) (I1 : mMm), 0 ≤ m → m + q = 60 → (∀ k, 0 ≤ k → k < m → rG r L T k) → FrRow j I I1 → I1 5 j 1 = I 5 j 1 → RowA I1 j r L z T m → RowB I1 j T → KyL I1 j (rH r L T) m → mmK (d + 5) 64 Q 17 [some (mo 5 j), some (mo 6 x), some (mo 3 0), some (mv A3), some (mv m)] [] (I1, mmRf a br, X) := by
  have w48 : ∀ (m : Int) (I1 : mMm) (l4 : Option mmV), 0 ≤ m → m ≤ 60 → BW r (rH r L T m) → m = rNN r L T → FrRow j I I1 → I1 5 j 1 = I 5 j 1 → RowA I1 j r L z T m → I1 5 j 5 = enV r (rH r L T) m → mmK (d + 5) 64 Q 48 [some (mo 5 j), some (mo 6 x), some (mo 3 0), some (mv A3), l4] [] (I1, mmRf a br, X) := by
    intro m I1 l4 h0 h60 hBm hN hf e1 hA e5
    have fin : ∀ (I2 : mMm) (n : Int), FrA j 606 j I1 I2 → (enV r (rH r L T) m = 0 → n = (mvs r (rH r L T m) m).length ∧ LA (I2 606 j) (mvs r (rH r L T m) m)) → (¬ enV r (rH r L T) m = 0 → n = 0) → mmK (d + 5) 64 Q 59 [some (mo 5 j), some (mo 6 x), some (mo 3 0), some (mv A3), l4] [mv n, mo 5 j] (I2, mmRf a br, X) := by
      intro I2 n f2 g1 g2
      have hV2 := BV_A (Or.inr (Or.inl rfl)) hA.1 f2
      refine mmC_step ?_
      simp only [cd_64, sg_64_0, sg_64_17, sg_64_46, sg_64_48, sg_64_58, sg_64_59, mmK_cut cd_64, q_cons, q_G0, q_GS, q_I1, q_L1, q_A1, q_S0, q_S1, q_SS, q_T0, q_T1, q_TS, q_Kn, q_Ki, q_Kl, q_Kr, q_k0, q_kS, q_rc, q_ps, q_pn, q_aload0, q_iload3, q_putfieldI, q_getfieldA, q_aload1, q_aload2, q_getfieldZ, q_iconst, q_istore, q_iload, q_bipush, q_icmp_gt, q_lastore, q_getfieldI, q_if_ne, q_goto, q_iinc, q_return, rf_5_11, rf_5_12, rf_5_2, rf_5_6, mmKe_606, mmKe_611, mmKe_612, mmKo_0, mmKo_5, mmKo_6, mmLen_606, mmLen_611, mmLen_612, mmR32, mmR64, Option.some.injEq, Int.cast_ofNat_Int, and_true, true_and, if_true, if_false, List.length_cons, List.length_nil, Nat.le_refl, Nat.zero_le, Nat.sub_zero, forall_const, reduceCtorEq, Nat.reduceAdd, Nat.reduceSub, Nat.reduceLeDiff, Nat.reduceEqDiff, Int.reduceAdd, Int.reduceNeg, Int.reduceSub, Int.reduceLT, Int.reduceLE, Int.reduceMul, Int.reduceEq, List.drop_zero, List.drop_succ_cons, ne_eq, not_false_eq_true, not_true_eq_false, false_and, and_false, false_implies, true_implies, reduceIte, mmU_rd, implies_true, or_false, false_or, or_true, true_or]
      refine hQ _ (FrRow_trans (FrRow_trans hf (FrRow_A (Or.inr rfl) f2)) (FrRow_U (by omega))) ?_ ?_
      · unfold mmU; rw [if_neg (by omega)]
        exact (f2 _ _ _ (by omega) (by omega) (by omega)).trans e1
      · unfold RowC
        rw [← hN]
        refine ⟨RowA_ext hA (BV_ext hV2 (fun t z ht => by unfold mmU; rw [if_neg (by omega)]) (by unfold mmU; rw [if_neg (by omega)])) (fun t k ht => ?_), ?_, fun he => ⟨?_, ?_⟩, fun he => ?_⟩
        · unfold mmU; rw [if_neg (by omega)]
          exact f2 _ _ _ (by omega) (by omega) (by omega)
        · unfold mmU; rw [if_neg (by omega)]
          exact (f2 _ _ _ (by omega) (by omega) (by omega)).trans e5
        · unfold mmU; rw [if_pos ⟨rfl, rfl, rfl⟩]; exact (g1 he).1
        · exact LA_ext (g1 he).2 (fun k _ _ => by unfold mmU; rw [if_neg (by omega)])
        · unfold mmU; rw [if_pos ⟨rfl, rfl, rfl⟩]; exact g2 he
    refine mmC_step ?_
    simp only [cd_64, sg_64_0, sg_64_17, sg_64_46, sg_64_48, sg_64_58, sg_64_59, mmK_cut cd_64, q_cons, q_G0, q_GS, q_I1, q_L1, q_A1, q_S0, q_S1, q_SS, q_T0, q_T1, q_TS, q_Kn, q_Ki, q_Kl, q_Kr, q_k0, q_kS, q_rc, q_ps, q_pn, q_aload0, q_iload3, q_putfieldI, q_getfieldA, q_aload1, q_aload2, q_getfieldZ, q_iconst, q_istore, q_iload, q_bipush, q_icmp_gt, q_lastore, q_getfieldI, q_if_ne, q_goto, q_iinc, q_return, rf_5_11, rf_5_12, rf_5_2, rf_5_6, mmKe_606, mmKe_611, mmKe_612, mmKo_0, mmKo_5, mmKo_6, mmLen_606, mmLen_611, mmLen_612, mmR32, mmR64, Option.some.injEq, Int.cast_ofNat_Int, and_true, true_and, if_true, if_false, List.length_cons, List.length_nil, Nat.le_refl, Nat.zero_le, Nat.sub_zero, forall_const, reduceCtorEq, Nat.reduceAdd, Nat.reduceSub, Nat.reduceLeDiff, Nat.reduceEqDiff, Int.reduceAdd, Int.reduceNeg, Int.reduceSub, Int.reduceLT, Int.reduceLE, Int.reduceMul, Int.reduceEq, List.drop_zero, List.drop_succ_cons, ne_eq, not_false_eq_true, not_true_eq_false, false_and, and_false, false_implies, true_implies, reduceIte, mmU_rd, implies_true, or_false, false_or, or_true, true_or]
    rw [e5]
    refine ⟨fun ce => ?_, fun ce => ?_⟩
    · refine mmC_step ?_
      simp only [cd_64, sg_64_0, sg_64_17, sg_64_46, sg_64_48, sg_64_58, sg_64_59, mmK_cut cd_64, q_cons, q_G0, q_GS, q_I1, q_L1, q_A1, q_S0, q_S1, q_SS, q_T0, q_T1, q_TS, q_Kn, q_Ki, q_Kl, q_Kr, q_k0, q_kS, q_rc, q_ps, q_pn, q_aload0, q_iload3, q_putfieldI, q_getfieldA, q_aload1, q_aload2, q_getfieldZ, q_iconst, q_istore, q_iload, q_bipush, q_icmp_gt, q_lastore, q_getfieldI, q_if_ne, q_goto, q_iinc, q_return, rf_5_11, rf_5_12, rf_5_2, rf_5_6, mmKe_606, mmKe_611, mmKe_612, mmKo_0, mmKo_5, mmKo_6, mmLen_606, mmLen_611, mmLen_612, mmR32, mmR64, Option.some.injEq, Int.cast_ofNat_Int, and_true, true_and, if_true, if_false, List.length_cons, List.length_nil, Nat.le_refl, Nat.zero_le, Nat.sub_zero, forall_const, reduceCtorEq, Nat.reduceAdd, Nat.reduceSub, Nat.reduceLeDiff, Nat.reduceEqDiff, Int.reduceAdd, Int.reduceNeg, Int.reduceSub, Int.reduceLT, Int.reduceLE, Int.reduceMul, Int.reduceEq, List.drop_zero, List.drop_succ_cons, ne_eq, not_false_eq_true, not_true_eq_false, false_and, and_false, false_implies, true_implies, reduceIte, mmU_rd, implies_true, or_false, false_or, or_true, true_or]
      exact fin I1 0 FrA_refl (fun q => absurd q ce) (fun _ => rfl)
    · rw [q_invV (pay := [])]
      simp only [q_k0, q_kS, q_rc, mmKo_0]
      refine ⟨Nat.le_of_ble_eq_true rfl, by trivial, Nat.zero_le _, Nat.zero_le _, ?_⟩
      refine mT_use (c_listMoves hb (CR_Row hC hf) hq hA.1 hBm ⟨h0, by omega⟩ (Or.inr (Or.inl rfl)) rfl) (fun u I2 q2 => ?_)
      obtain ⟨rfl, f2, la2⟩ := q2
      simp only [mmK_cut cd_64, q_cons, q_G0, q_GS, q_I1, q_L1, q_A1, q_S0, q_S1, q_SS, q_T0, q_T1, q_TS, q_Kn, q_Ki, q_Kl, q_Kr, q_k0, q_kS, q_rc, q_ps, q_pn, q_aload0, q_iload3, q_putfieldI, q_getfieldA, q_aload1, q_aload2, q_getfieldZ, q_iconst, q_istore, q_iload, q_bipush, q_icmp_gt, q_lastore, q_getfieldI, q_if_ne, q_goto, q_iinc, q_return, rf_5_11, rf_5_12, rf_5_2, rf_5_6, mmKe_606, mmKe_611, mmKe_612, mmKo_0, mmKo_5, mmKo_6, mmLen_606, mmLen_611, mmLen_612, mmR32, mmR64, Option.some.injEq, Int.cast_ofNat_Int, and_true, true_and, if_true, if_false, List.length_cons, List.length_nil, Nat.le_refl, Nat.zero_le, Nat.sub_zero, forall_const, reduceCtorEq, Nat.reduceAdd, Nat.reduceSub, Nat.reduceLeDiff, Nat.reduceEqDiff, Int.reduceAdd, Int.reduceNeg, Int.reduceSub, Int.reduceLT, Int.reduceLE, Int.reduceMul, Int.reduceEq, List.drop_zero, List.drop_succ_cons, ne_eq, not_false_eq_true, not_true_eq_false, false_and, and_false, false_implies, true_implies, reduceIte, mmU_rd, implies_true, or_false, false_or, or_true, true_or]
      exact fin I2 _ f2 (fun _ => ⟨rfl, la2⟩) (fun q => absurd ce q)
  have step : ∀ (m : Int) (I1 : mMm), 0 ≤ m → m ≤ 60 → (∀ k, 0 ≤ k → k < m → rG r L T k) → FrRow j I I1 → I1 5 j 1 = I 5 j 1 → RowA I1 j r L z T m → RowB I1 j T → KyL I1 j (rH r L T) m → (∀ I2, m < 60 → rG r L T m → FrRow j I I2 → I2 5 j 1 = I 5 j 1 → RowA I2 j r L z T (m + 1) → RowB I2 j T → KyL I2 j (rH r L T) (m + 1) → mmK (d + 5) 64 Q 17 [some (mo 5 j), some (mo 6 x), some (mo 3 0), some (mv A3), some (mv (m + 1))] [] (I2, mmRf a br, X)) → mmK (d + 5) 64 Q 17 [some (mo 5 j), some (mo 6 x), some (mo 3 0), some (mv A3), some (mv m)] [] (I1, mmRf a br, X) := by
    intro m I1 h0 h60 hG hf e1 hA hR hKy nxt
    have hBW : ∀ i, 0 ≤ i → i ≤ m → BW r (rH r L T i) := by
      intro i i0 i1
      have := rH_BW hq hW hT hB0 i.toNat (fun k k0 k1 => hG k k0 (by omega))
      rw [show ((i.toNat : Nat) : Int) = i by omega] at this
      exact this
    have hBm := hBW m h0 (by omega)
    refine mmC_step ?_
    simp only [cd_64, sg_64_0, sg_64_17, sg_64_46, sg_64_48, sg_64_58, sg_64_59, mmK_cut cd_64, q_cons, q_G0, q_GS, q_I1, q_L1, q_A1, q_S0, q_S1, q_SS, q_T0, q_T1, q_TS, q_Kn, q_Ki, q_Kl, q_Kr, q_k0, q_kS, q_rc, q_ps, q_pn, q_aload0, q_iload3, q_putfieldI, q_getfieldA, q_aload1, q_aload2, q_getfieldZ, q_iconst, q_istore, q_iload, q_bipush, q_icmp_gt, q_lastore, q_getfieldI, q_if_ne, q_goto, q_iinc, q_return, rf_5_11, rf_5_12, rf_5_2, rf_5_6, mmKe_606, mmKe_611, mmKe_612, mmKo_0, mmKo_5, mmKo_6, mmLen_606, mmLen_611, mmLen_612, mmR32, mmR64, Option.some.injEq, Int.cast_ofNat_Int, and_true, true_and, if_true, if_false, List.length_cons, List.length_nil, Nat.le_refl, Nat.zero_le, Nat.sub_zero, forall_const, reduceCtorEq, Nat.reduceAdd, Nat.reduceSub, Nat.reduceLeDiff, Nat.reduceEqDiff, Int.reduceAdd, Int.reduceNeg, Int.reduceSub, Int.reduceLT, Int.reduceLE, Int.reduceMul, Int.reduceEq, List.drop_zero, List.drop_succ_cons, ne_eq, not_false_eq_true, not_true_eq_false, false_and, and_false, false_implies, true_implies, reduceIte, mmU_rd, implies_true, or_false, false_or, or_true, true_or]
    refine ⟨fun c => by omega, fun _ => ?_⟩
    rw [q_invV (pay := [])]
    simp only [q_k0, q_kS, q_rc, mmKo_0]
    refine ⟨Nat.le_of_ble_eq_true rfl, by trivial, Nat.zero_le _, Nat.zero_le _, ?_⟩
    refine c_lowKey hA.1 hBm ?_
    simp only [mmK_cut cd_64, q_cons, q_G0, q_GS, q_I1, q_L1, q_A1, q_S0, q_S1, q_SS, q_T0, q_T1, q_TS, q_Kn, q_Ki, q_Kl, q_Kr, q_k0, q_kS, q_rc, q_ps, q_pn, q_aload0, q_iload3, q_putfieldI, q_getfieldA, q_aload1, q_aload2, q_getfieldZ, q_iconst, q_istore, q_iload, q_bipush, q_icmp_gt, q_lastore, q_getfieldI, q_if_ne, q_goto, q_iinc, q_return, rf_5_11, rf_5_12, rf_5_2, rf_5_6, mmKe_606, mmKe_611, mmKe_612, mmKo_0, mmKo_5, mmKo_6, mmLen_606, mmLen_611, mmLen_612, mmR32, mmR64, Option.some.injEq, Int.cast_ofNat_Int, and_true, true_and, if_true, if_false, List.length_cons, List.length_nil, Nat.le_refl, Nat.zero_le, Nat.sub_zero, forall_const, reduceCtorEq, Nat.reduceAdd, Nat.reduceSub, Nat.reduceLeDiff, Nat.reduceEqDiff, Int.reduceAdd, Int.reduceNeg, Int.reduceSub, Int.reduceLT, Int.reduceLE, Int.reduceMul, Int.reduceEq, List.drop_zero, List.drop_succ_cons, ne_eq, not_false_eq_true, not_true_eq_false, false_and, and_false, false_implies, true_implies, reduceIte, mmU_rd, implies_true, or_false, false_or, or_true, true_or]
    refine ⟨h0, by omega, ?_⟩
    rw [q_invV (pay := [])]
    simp only [q_k0, q_kS, q_rc, mmKo_0]
    refine ⟨Nat.le_of_ble_eq_true rfl, by trivial, Nat.zero_le _, Nat.zero_le _, ?_⟩
    have hV2 : BV (mmU I1 611 j m (kyV (rH r L T m) 0 13)) j (rH r L T m) m r := BV_ext hA.1 (fun t z ht => by unfold mmU; rw [if_neg (by omega)]) (by unfold mmU; rw [if_neg (by omega)])
    refine c_highKey hV2 hBm ?_
    simp only [mmK_cut cd_64, q_cons, q_G0, q_GS, q_I1, q_L1, q_A1, q_S0, q_S1, q_SS, q_T0, q_T1, q_TS, q_Kn, q_Ki, q_Kl, q_Kr, q_k0, q_kS, q_rc, q_ps, q_pn, q_aload0, q_iload3, q_putfieldI, q_getfieldA, q_aload1, q_aload2, q_getfieldZ, q_iconst, q_istore, q_iload, q_bipush, q_icmp_gt, q_lastore, q_getfieldI, q_if_ne, q_goto, q_iinc, q_return, rf_5_11, rf_5_12, rf_5_2, rf_5_6, mmKe_606, mmKe_611, mmKe_612, mmKo_0, mmKo_5, mmKo_6, mmLen_606, mmLen_611, mmLen_612, mmR32, mmR64, Option.some.injEq, Int.cast_ofNat_Int, and_true, true_and, if_true, if_false, List.length_cons, List.length_nil, Nat.le_refl, Nat.zero_le, Nat.sub_zero, forall_const, reduceCtorEq, Nat.reduceAdd, Nat.reduceSub, Nat.reduceLeDiff, Nat.reduceEqDiff, Int.reduceAdd, Int.reduceNeg, Int.reduceSub, Int.reduceLT, Int.reduceLE, Int.reduceMul, Int.reduceEq, List.drop_zero, List.drop_succ_cons, ne_eq, not_false_eq_true, not_true_eq_false, false_and, and_false, false_implies, true_implies, reduceIte, mmU_rd, implies_true, or_false, false_or, or_true, true_or]
    refine ⟨h0, by omega, ?_⟩
    generalize hI3 : mmU (mmU I1 611 j m (kyV (rH r L T m) 0 13)) 612 j m (kyV (rH r L T m) 13 12) = I3
    have g3 : ∀ t i k, ¬ (i = j ∧ k = m ∧ (t = 611 ∨ t = 612)) → I3 t i k = I1 t i k := by
      intro t i k c
      rw [← hI3]
      unfold mmU
      rw [if_neg (by omega), if_neg (by omega)]
    have f3 : FrRow j I I3 := FrRow_trans hf (by rw [← hI3]; exact FrRow_trans (FrRow_U (by omega)) (FrRow_U (by omega)))
    have k3 : KyL I3 j (rH r L T) (m + 1) := by
      intro i i0 i1
      by_cases c : i = m
      · rw [c, ← hI3]
        refine ⟨?_, ?_⟩
        · unfold mmU; rw [if_neg (by omega), if_pos ⟨rfl, rfl, rfl⟩]
        · unfold mmU; rw [if_pos ⟨rfl, rfl, rfl⟩]
      · rw [g3 _ _ _ (by omega), g3 _ _ _ (by omega)]
        exact hKy i i0 (by omega)
    have A3 : RowA I3 j r L z T m := RowA_ext hA (BV_ext hA.1 (fun t z ht => g3 _ _ _ (by omega)) (g3 _ _ _ (by omega))) (fun t k ht => g3 _ _ _ (by omega))
    have R3 : RowB I3 j T := RowB_ext hR (fun k => g3 _ _ _ (by omega)) (g3 _ _ _ (by omega))
    have e3 : I3 5 j 1 = I 5 j 1 := (g3 _ _ _ (by omega)).trans e1
    clear hI3 g3 hV2
    rw [q_invV (pay := [])]
    simp only [q_k0, q_kS, q_rc, mmKo_5]
    refine ⟨Nat.le_of_ble_eq_true rfl, by trivial, Nat.zero_le _, Nat.zero_le _, ?_⟩
    refine mT_use (c_endNow (H := rH r L T) hb (CR_Row hC f3) hq A3.1 hBm ⟨h0, h60⟩ (fun i i0 i1 => ⟨(k3 i i0 (by omega)).1, (k3 i i0 (by omega)).2, hBW i i0 i1⟩)) (fun u I4 q4 => ?_)
    obtain ⟨rfl, f4⟩ := q4
    simp only [mmK_cut cd_64, q_cons, q_G0, q_GS, q_I1, q_L1, q_A1, q_S0, q_S1, q_SS, q_T0, q_T1, q_TS, q_Kn, q_Ki, q_Kl, q_Kr, q_k0, q_kS, q_rc, q_ps, q_pn, q_aload0, q_iload3, q_putfieldI, q_getfieldA, q_aload1, q_aload2, q_getfieldZ, q_iconst, q_istore, q_iload, q_bipush, q_icmp_gt, q_lastore, q_getfieldI, q_if_ne, q_goto, q_iinc, q_return, rf_5_11, rf_5_12, rf_5_2, rf_5_6, mmKe_606, mmKe_611, mmKe_612, mmKo_0, mmKo_5, mmKo_6, mmLen_606, mmLen_611, mmLen_612, mmR32, mmR64, Option.some.injEq, Int.cast_ofNat_Int, and_true, true_and, if_true, if_false, List.length_cons, List.length_nil, Nat.le_refl, Nat.zero_le, Nat.sub_zero, forall_const, reduceCtorEq, Nat.reduceAdd, Nat.reduceSub, Nat.reduceLeDiff, Nat.reduceEqDiff, Int.reduceAdd, Int.reduceNeg, Int.reduceSub, Int.reduceLT, Int.reduceLE, Int.reduceMul, Int.reduceEq, List.drop_zero, List.drop_succ_cons, ne_eq, not_false_eq_true, not_true_eq_false, false_and, and_false, false_implies, true_implies, reduceIte, mmU_rd, implies_true, or_false, false_or, or_true, true_or]
    generalize hI5 : mmU I4 5 j 5 (enV r (rH r L T) m) = I5
    have e55 : I5 5 j 5 = enV r (rH r L T) m := by rw [← hI5]; unfold mmU; rw [if_pos ⟨rfl, rfl, rfl⟩]
    have g5 : ∀ t i k, ¬ (t = 105 ∧ i = j) → ¬ t = 201 → ¬ (t = 106 ∧ i = j) → ¬ (t = 5 ∧ i = j ∧ k = 5) → I5 t i k = I3 t i k := by
      intro t i k c1 c2 c3 c4
      rw [← hI5]
      unfold mmU
      rw [if_neg c4]
      exact f4 t i k c1 c2 c3
    have f5 : FrRow j I I5 := FrRow_trans f3 (FrRow_trans (FrRow_A (Or.inl rfl) f4) (by rw [← hI5]; exact FrRow_U (by omega)))
    have A5 : RowA I5 j r L z T m := RowA_ext A3 (BV_ext A3.1 (fun t z ht => g5 _ _ _ (by omega) (by omega) (by omega) (by omega)) (g5 _ _ _ (by omega) (by omega) (by omega) (by omega))) (fun t k ht => g5 _ _ _ (by omega) (by omega) (by omega) (by omega))
    have R5 : RowB I5 j T := RowB_ext R3 (fun k => g5 _ _ _ (by omega) (by omega) (by omega) (by omega)) (g5 _ _ _ (by omega) (by omega) (by omega) (by omega))
    have k5 : KyL I5 j (rH r L T) (m + 1) := fun i i0 i1 => by
      rw [g5 _ _ _ (by omega) (by omega) (by omega) (by omega), g5 _ _ _ (by omega) (by omega) (by omega) (by omega)]
      exact k3 i i0 i1
    have e51 : I5 5 j 1 = I 5 j 1 := (g5 _ _ _ (by omega) (by omega) (by omega) (by omega)).trans e3
    clear hI5 g5 f4
    refine ⟨fun ce => w48 m I5 _ h0 h60 hBm (rNN_eq h0 hG (fun q => ce q.1)) f5 e51 A5 e55, fun ce => ?_⟩
    have hm60 : m < 60 := by
      by_cases c : m = 60
      · rw [c] at ce; exact absurd ce en_60
      · omega
    rw [q_invV (pay := [])]
    simp only [q_k0, q_kS, q_rc, mmKo_5]
    refine ⟨Nat.le_of_ble_eq_true rfl, by trivial, Nat.zero_le _, Nat.zero_le _, ?_⟩
    refine mT_use (c_playFrom (c := rC r L T m) (la := rM r L T m) hb (CR_Row hC f5) hq A5.1 hBm ⟨h0, hm60⟩ (CL_Row hL f5) hW hT hp (fun q => by rw [q]; exact rM_0) (fun q => ?_) R5.1 R5.2 hT16 rfl) (fun u I6 q6 => ?_)
    · have := (A5.2.1 (m - 1) (by omega) (by omega)).1
      rw [this, ← rM_s (by omega), show m - 1 + 1 = m by omega]
    · rcases q6 with ⟨q1, rfl, hP⟩ | ⟨q1, rfl, I7, hP, hw, fd, hv⟩
      · simp only [mmK_cut cd_64, q_cons, q_G0, q_GS, q_I1, q_L1, q_A1, q_S0, q_S1, q_SS, q_T0, q_T1, q_TS, q_Kn, q_Ki, q_Kl, q_Kr, q_k0, q_kS, q_rc, q_ps, q_pn, q_aload0, q_iload3, q_putfieldI, q_getfieldA, q_aload1, q_aload2, q_getfieldZ, q_iconst, q_istore, q_iload, q_bipush, q_icmp_gt, q_lastore, q_getfieldI, q_if_ne, q_goto, q_iinc, q_return, rf_5_11, rf_5_12, rf_5_2, rf_5_6, mmKe_606, mmKe_611, mmKe_612, mmKo_0, mmKo_5, mmKo_6, mmLen_606, mmLen_611, mmLen_612, mmR32, mmR64, Option.some.injEq, Int.cast_ofNat_Int, and_true, true_and, if_true, if_false, List.length_cons, List.length_nil, Nat.le_refl, Nat.zero_le, Nat.sub_zero, forall_const, reduceCtorEq, Nat.reduceAdd, Nat.reduceSub, Nat.reduceLeDiff, Nat.reduceEqDiff, Int.reduceAdd, Int.reduceNeg, Int.reduceSub, Int.reduceLT, Int.reduceLE, Int.reduceMul, Int.reduceEq, List.drop_zero, List.drop_succ_cons, ne_eq, not_false_eq_true, not_true_eq_false, false_and, and_false, false_implies, true_implies, reduceIte, mmU_rd, implies_true, or_false, false_or, or_true, true_or]
        have g6 : ∀ t k, ¬ t = 105 → ¬ t = 201 → ¬ t = 106 → ¬ t = 608 → ¬ t = 604 → I6 t j k = I5 t j k := fun t k c1 c2 c3 c4 c5 => hP.1 t j k (by omega) c2 (by omega) (by omega) (by omega)
        have A6 : RowA I6 j r L z T m := by
          refine ⟨BV_P A5.1 hP.1, fun i i0 i1 => ?_, fun l hl k k0 k1 k2 => ?_⟩
          · rw [hP.1 603 j i (by omega) (by omega) (by omega) (by omega) (by omega), hP.1 604 j i (by omega) (by omega) (by omega) (by omega) (by omega)]
            exact A5.2.1 i i0 i1
          · rw [hP.2.2 l k k0 (if_in hW (hT l hl) ⟨k0, k1⟩).2.1 (by omega)]
            exact A5.2.2 l hl k k0 k1 k2
        exact w48 m I6 _ h0 h60 hBm (rNN_eq h0 hG (fun q => q.2 q1)) (FrRow_trans f5 (FrRow_P hP.1)) ((g6 5 1 (by omega) (by omega) (by omega) (by omega) (by omega)).trans e51) A6 ((g6 5 5 (by omega) (by omega) (by omega) (by omega) (by omega)).trans e55)
      · simp only [mmK_cut cd_64, q_cons, q_G0, q_GS, q_I1, q_L1, q_A1, q_S0, q_S1, q_SS, q_T0, q_T1, q_TS, q_Kn, q_Ki, q_Kl, q_Kr, q_k0, q_kS, q_rc, q_ps, q_pn, q_aload0, q_iload3, q_putfieldI, q_getfieldA, q_aload1, q_aload2, q_getfieldZ, q_iconst, q_istore, q_iload, q_bipush, q_icmp_gt, q_lastore, q_getfieldI, q_if_ne, q_goto, q_iinc, q_return, rf_5_11, rf_5_12, rf_5_2, rf_5_6, mmKe_606, mmKe_611, mmKe_612, mmKo_0, mmKo_5, mmKo_6, mmLen_606, mmLen_611, mmLen_612, mmR32, mmR64, Option.some.injEq, Int.cast_ofNat_Int, and_true, true_and, if_true, if_false, List.length_cons, List.length_nil, Nat.le_refl, Nat.zero_le, Nat.sub_zero, forall_const, reduceCtorEq, Nat.reduceAdd, Nat.reduceSub, Nat.reduceLeDiff, Nat.reduceEqDiff, Int.reduceAdd, Int.reduceNeg, Int.reduceSub, Int.reduceLT, Int.reduceLE, Int.reduceMul, Int.reduceEq, List.drop_zero, List.drop_succ_cons, ne_eq, not_false_eq_true, not_true_eq_false, false_and, and_false, false_implies, true_implies, reduceIte, mmU_rd, implies_true, or_false, false_or, or_true, true_or]
        refine mmC_step ?_
        simp only [cd_64, sg_64_0, sg_64_17, sg_64_46, sg_64_48, sg_64_58, sg_64_59, mmK_cut cd_64, q_cons, q_G0, q_GS, q_I1, q_L1, q_A1, q_S0, q_S1, q_SS, q_T0, q_T1, q_TS, q_Kn, q_Ki, q_Kl, q_Kr, q_k0, q_kS, q_rc, q_ps, q_pn, q_aload0, q_iload3, q_putfieldI, q_getfieldA, q_aload1, q_aload2, q_getfieldZ, q_iconst, q_istore, q_iload, q_bipush, q_icmp_gt, q_lastore, q_getfieldI, q_if_ne, q_goto, q_iinc, q_return, rf_5_11, rf_5_12, rf_5_2, rf_5_6, mmKe_606, mmKe_611, mmKe_612, mmKo_0, mmKo_5, mmKo_6, mmLen_606, mmLen_611, mmLen_612, mmR32, mmR64, Option.some.injEq, Int.cast_ofNat_Int, and_true, true_and, if_true, if_false, List.length_cons, List.length_nil, Nat.le_refl, Nat.zero_le, Nat.sub_zero, forall_const, reduceCtorEq, Nat.reduceAdd, Nat.reduceSub, Nat.reduceLeDiff, Nat.reduceEqDiff, Int.reduceAdd, Int.reduceNeg, Int.reduceSub, Int.reduceLT, Int.reduceLE, Int.reduceMul, Int.reduceEq, List.drop_zero, List.drop_succ_cons, ne_eq, not_false_eq_true, not_true_eq_false, false_and, and_false, false_implies, true_implies, reduceIte, mmU_rd, implies_true, or_false, false_or, or_true, true_or]
        have g6 : ∀ t k, (t = 609 ∨ t = 5 ∨ t = 611 ∨ t = 612) → I6 t j k = I5 t j k := fun t k ht => (fd _ _ _ (by omega)).trans (by unfold mmU; rw [if_neg (by omega)]; exact hP.1 t j k (by omega) (by omega) (by omega) (by omega) (by omega))
        refine ⟨by omega, nxt I6 hm60 ⟨ce, q1⟩ (FrRow_trans f5 (FrRow_trans (FrRow_P hP.1) (FrRow_trans (FrRow_U (t := 603) (k := m) (v := vlI L (rC r L T m)) (by omega)) (FrRow_D fd)))) ((g6 _ _ (by omega)).trans e51) (RowA_play A5 hW hT h0 q1 hP hw fd hv) (RowB_ext R5 (fun k => g6 _ _ (by omega)) (g6 _ _ (by omega))) (fun i i0 i1 => ?_)⟩
        rw [g6 _ _ (by omega), g6 _ _ (by omega)]
        exact k5 i i0 i1
  intro q
  induction q with
  | zero =>
    intro m I1 h0 hq' hG hf e1 hA hR hKy
    exact step m I1 h0 (by omega) hG hf e1 hA hR hKy (fun I2 c => by omega)
  | succ q ih =>
    intro m I1 h0 hq' hG hf e1 hA hR hKy
    refine step m I1 h0 (by omega) hG hf e1 hA hR hKy (fun I2 c hg f2 e2 A2 R2 K2 => ih (m + 1) I2 (by omega) (by omega) (fun k k0 k1 => ?_) f2 e2 A2 R2 K2)
    by_cases ck : k = m
    · rw [ck]; exact hg
    · exact hG k k0 (by omega)
theorem od_TL {K : Int → Bool} (hW : LW L) : TL L (odT L z K) ∧ (odT L z K).Pairwise (fun a b => oW L z a < oW L z b) ∧ (odT L z K).length ≤ 16 ∧ ∀ e, e ∈ odT L z K → K e = true := by
  have h16 := hW.1
  have h := od_T (L := L) (z := z) (K := K) (n := (L 0 0).toNat) (by omega)
  refine ⟨fun e he => ?_, h.1, ?_, fun e he => (h.2.1 e he).2.2⟩
  · have := h.2.1 e he
    omega
  · have := h.2.2
    unfold odT
    omega
theorem c_replay {A : Nat} {K : Int → Bool} (hC : CR I x r) (hq : RQ r) (hB0 : BW r (r 714)) (hL : CL I L) (hW : LW L) (hK : KB A K (L 0 0)) (hQ : ∀ I', FrRow j I I' → I' 5 j 1 = A → RowC I' j r L (r 6 7) (odT L (r 6 7) K) → Q none (I', mmRf a (bru br j x), X)) : mmC (d + 6) 64 [mo 5 j, mo 6 x, mo 3 0, mv A] (I, mmRf a br, X) Q := by
  have hz : r 6 7 = 0 ∨ r 6 7 = 1 := hq.1.2.2.2.2.2.2.2
  obtain ⟨hT, hp, hT16, _⟩ := od_TL (z := r 6 7) (K := K) hW
  have f0 : FrRow j I (mmU I 5 j 1 A) := FrRow_U (by omega)
  refine mmC_in (by decide) (Nat.le_of_ble_eq_true rfl) (mmC_step ?_)
  simp only [show mmMl 64 = 5 from rfl, mmLs, List.replicate, cd_64, sg_64_0, sg_64_17, sg_64_46, sg_64_48, sg_64_58, sg_64_59, mmK_cut cd_64, q_cons, q_G0, q_GS, q_I1, q_L1, q_A1, q_S0, q_S1, q_SS, q_T0, q_T1, q_TS, q_Kn, q_Ki, q_Kl, q_Kr, q_k0, q_kS, q_rc, q_ps, q_pn, q_aload0, q_iload3, q_putfieldI, q_getfieldA, q_aload1, q_aload2, q_getfieldZ, q_iconst, q_istore, q_iload, q_bipush, q_icmp_gt, q_lastore, q_getfieldI, q_if_ne, q_goto, q_iinc, q_return, rf_5_11, rf_5_12, rf_5_2, rf_5_6, mmKe_606, mmKe_611, mmKe_612, mmKo_0, mmKo_5, mmKo_6, mmLen_606, mmLen_611, mmLen_612, mmR32, mmR64, Option.some.injEq, Int.cast_ofNat_Int, and_true, true_and, if_true, if_false, List.length_cons, List.length_nil, Nat.le_refl, Nat.zero_le, Nat.sub_zero, forall_const, reduceCtorEq, Nat.reduceAdd, Nat.reduceSub, Nat.reduceLeDiff, Nat.reduceEqDiff, Int.reduceAdd, Int.reduceNeg, Int.reduceSub, Int.reduceLT, Int.reduceLE, Int.reduceMul, Int.reduceEq, List.drop_zero, List.drop_succ_cons, ne_eq, not_false_eq_true, not_true_eq_false, false_and, and_false, false_implies, true_implies, reduceIte, mmU_rd, implies_true, or_false, false_or, or_true, true_or]
  rw [q_invV (pay := [])]
  simp only [q_k0, q_kS, q_rc, mmKo_0]
  refine ⟨Nat.le_of_ble_eq_true rfl, by trivial, Nat.zero_le _, Nat.zero_le _, ?_⟩
  refine c_begin (CR_Row hC f0) hB0 (fun I1 f1 v1 => ?_)
  have f1' := FrRow_trans f0 (FrRow_D f1)
  have e67 : I1 6 x 7 = r 6 7 := CR_Row hC f1' 6 7 rt6
  have eA : I1 5 j 1 = A := (f1 _ _ _ (by omega)).trans (by unfold mmU; rw [if_pos ⟨rfl, rfl, rfl⟩])
  simp only [mmK_cut cd_64, q_cons, q_G0, q_GS, q_I1, q_L1, q_A1, q_S0, q_S1, q_SS, q_T0, q_T1, q_TS, q_Kn, q_Ki, q_Kl, q_Kr, q_k0, q_kS, q_rc, q_ps, q_pn, q_aload0, q_iload3, q_putfieldI, q_getfieldA, q_aload1, q_aload2, q_getfieldZ, q_iconst, q_istore, q_iload, q_bipush, q_icmp_gt, q_lastore, q_getfieldI, q_if_ne, q_goto, q_iinc, q_return, rf_5_11, rf_5_12, rf_5_2, rf_5_6, mmKe_606, mmKe_611, mmKe_612, mmKo_0, mmKo_5, mmKo_6, mmLen_606, mmLen_611, mmLen_612, mmR32, mmR64, Option.some.injEq, Int.cast_ofNat_Int, and_true, true_and, if_true, if_false, List.length_cons, List.length_nil, Nat.le_refl, Nat.zero_le, Nat.sub_zero, forall_const, reduceCtorEq, Nat.reduceAdd, Nat.reduceSub, Nat.reduceLeDiff, Nat.reduceEqDiff, Int.reduceAdd, Int.reduceNeg, Int.reduceSub, Int.reduceLT, Int.reduceLE, Int.reduceMul, Int.reduceEq, List.drop_zero, List.drop_succ_cons, ne_eq, not_false_eq_true, not_true_eq_false, false_and, and_false, false_implies, true_implies, reduceIte, mmU_rd, implies_true, or_false, false_or, or_true, true_or]
  rw [e67]
  rw [q_invV (pay := [])]
  simp only [q_k0, q_kS, q_rc, mmKo_5]
  refine ⟨Nat.le_of_ble_eq_true rfl, by trivial, Nat.zero_le _, Nat.zero_le _, ?_⟩
  refine mT_use (c_arrange hz (CL_Row hL f1') hW eA hK) (fun u I2 q2 => ?_)
  obtain ⟨rfl, f2, la2, l2⟩ := q2
  have f2' := FrRow_trans f1' (FrRow_O f2)
  simp only [mmK_cut cd_64, q_cons, q_G0, q_GS, q_I1, q_L1, q_A1, q_S0, q_S1, q_SS, q_T0, q_T1, q_TS, q_Kn, q_Ki, q_Kl, q_Kr, q_k0, q_kS, q_rc, q_ps, q_pn, q_aload0, q_iload3, q_putfieldI, q_getfieldA, q_aload1, q_aload2, q_getfieldZ, q_iconst, q_istore, q_iload, q_bipush, q_icmp_gt, q_lastore, q_getfieldI, q_if_ne, q_goto, q_iinc, q_return, rf_5_11, rf_5_12, rf_5_2, rf_5_6, mmKe_606, mmKe_611, mmKe_612, mmKo_0, mmKo_5, mmKo_6, mmLen_606, mmLen_611, mmLen_612, mmR32, mmR64, Option.some.injEq, Int.cast_ofNat_Int, and_true, true_and, if_true, if_false, List.length_cons, List.length_nil, Nat.le_refl, Nat.zero_le, Nat.sub_zero, forall_const, reduceCtorEq, Nat.reduceAdd, Nat.reduceSub, Nat.reduceLeDiff, Nat.reduceEqDiff, Int.reduceAdd, Int.reduceNeg, Int.reduceSub, Int.reduceLT, Int.reduceLE, Int.reduceMul, Int.reduceEq, List.drop_zero, List.drop_succ_cons, ne_eq, not_false_eq_true, not_true_eq_false, false_and, and_false, false_implies, true_implies, reduceIte, mmU_rd, implies_true, or_false, false_or, or_true, true_or]
  have f3 : FrRow j I (mmU I2 5 j 5 0) := FrRow_trans f2' (FrRow_U (by omega))
  have v3 : BV (mmU I2 5 j 5 0) j (rH r L (odT L (r 6 7) K) 0) 0 r := BV_ext v1 (fun t z ht => by unfold mmU; rw [if_neg (by omega)]; exact f2 _ _ _ (by omega) (by omega)) (by unfold mmU; rw [if_neg (by omega)]; exact f2 _ _ _ (by omega) (by omega))
  have eA3 : mmU I2 5 j 5 0 5 j 1 = A := by unfold mmU; rw [if_neg (by omega)]; exact (f2 _ _ _ (by omega) (by omega)).trans eA
  refine c_replayL (I := mmU I2 5 j 5 0) (T := odT L (r 6 7) K) (z := r 6 7) bru_same (CR_Row hC f3) hq hB0 (CL_Row hL f3) hW hT hp hT16 (fun I' f' e' hR => hQ I' (FrRow_trans f3 f') (e'.trans eA3) hR) 60 0 _ (by omega) (by omega) (fun k k0 k1 => by omega) FrRow_refl rfl ⟨v3, fun i i0 i1 => by omega, fun l hl k k0 k1 k2 => ?_⟩ ⟨LA_ext la2 (fun k _ _ => by unfold mmU; rw [if_neg (by omega)]), ?_⟩ (fun i i0 i1 => by omega)
  · have := (if_in hW (hT l hl) ⟨k0, k1⟩).2.2.1.1
    omega
  · unfold mmU; rw [if_neg (by omega)]; exact l2
end S846
