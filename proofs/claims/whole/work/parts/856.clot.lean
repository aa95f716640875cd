/-- in how many of q draws the row is another -/
noncomputable def ltN (r : mRu) (L : Nat → Int → Int) (w : Int) : Nat → Int → Int
  | 0, _ => 0
  | q + 1, x => cI (sameM r L (odT L (r 6 7) (Kv L (drA r L x) w)) (vT r L w)) 0 1 + ltN r L w q (drN x (L 0 0).toNat)
theorem ltN_s {r : mRu} {L : Nat → Int → Int} {w x : Int} {q : Nat} : ltN r L w (q + 1) x = cI (sameM r L (odT L (r 6 7) (Kv L (drA r L x) w)) (vT r L w)) 0 1 + ltN r L w q (drN x (L 0 0).toNat) := rfl
theorem c01 {P : Prop} : cI P 0 1 = 0 ∨ cI P 0 1 = 1 := by
  by_cases c : P
  · exact Or.inl (cI_pos c)
  · exact Or.inr (cI_neg c)
theorem ltN_in {r : mRu} {L : Nat → Int → Int} {w : Int} : ∀ (q : Nat) (x : Int), 0 ≤ ltN r L w q x ∧ ltN r L w q x ≤ q
  | 0, x => by show (0 : Int) ≤ 0 ∧ (0 : Int) ≤ (0 : Nat); omega
  | q + 1, x => by
    have ih := ltN_in (r := r) (L := L) (w := w) q (drN x (L 0 0).toNat)
    rw [ltN_s]
    rcases c01 (P := sameM r L (odT L (r 6 7) (Kv L (drA r L x) w)) (vT r L w)) with h | h <;> omega
noncomputable def a_lot (r : mRu) (L : Nat → Int → Int) (w x q : Int) : Int := cI (isW w ∧ 0 ≤ x ∧ 1 ≤ q ∧ q ≤ 20) (ltN r L w q.toNat x) (-1)
section S856
variable {d a : Nat} {I I1 I' I'' : mMm} {br br' : Nat → Option mmO} {R : Nat → Nat → Int → Option mmO} {X : mmX} {L : Nat → Int → Int} {r : mRu} {x q : Int} {Q : Option mmV → mmM → Prop}
theorem CI_0 (h : CI I br a r L) (hf : ∀ t i k, ¬ (i = 0 ∧ ((101 ≤ t ∧ t ≤ 106) ∨ (603 ≤ t ∧ t ≤ 612) ∨ (t = 0 ∧ k = 4) ∨ (t = 5 ∧ 1 ≤ k))) → ¬ t = 201 → ¬ (t = 1109 ∧ i = 0) → I' t i k = I t i k) (hb : ∀ i, ¬ i = 0 → br' i = br i) : CI I' br' a r L ∧ FrG I I' ∧ ∀ w : Nat, w < 4 → RowV I br a w r L → RowV I' br' a w r L := by
  have fg : FrG I I' := fun t i k c1 c2 c3 c4 c5 c6 c7 => hf t i k (by omega) c5 (by omega)
  have hv : ∀ w : Nat, w < 4 → RowV I br a w r L → RowV I' br' a w r L := fun w hw hR => RowV_ext hR (hb _ (by omega)) (BV_ext (RV_B hR) (fun t z ht => hf _ _ _ (by omega) (by omega) (by omega)) (hf _ _ _ (by omega) (by omega) (by omega))) (fun t k ht => hf _ _ _ (by omega) (by omega) (by omega))
  obtain ⟨h1, h2, h3, h4, h5, h6, h7⟩ := h
  have e11 : I' 10 0 11 = I 10 0 11 := hf _ _ _ (by omega) (by omega) (by omega)
  refine ⟨⟨CR_G h1 fg, h2, h3, CL_G h4 fg, h5, by rw [e11]; exact h6, fun w hw => ?_⟩, fg, hv⟩
  rw [e11, hf 5 (w + 1) 0 (by omega) (by omega) (by omega)]
  exact ⟨(h7 w hw).1, fun q => hv w hw ((h7 w hw).2 q)⟩
set_option maxHeartbeats 1000000 in
theorem c_lotL {w : Nat} {x0 qq tot : Int} (hw : w < 4) (hqq : 1 ≤ qq ∧ qq ≤ 20) (hQ : aQ I a r L X Q (mv tot)) :
    ∀ (q : Nat) (n x acc : Int) (I1 : mMm) (b1 : Nat → Option mmO) (l8 : Option mmV), 0 ≤ n → n + q = qq → (0 ≤ x ∧ x < 2147483648) → (0 ≤ acc ∧ acc ≤ n) → acc + ltN r L w q x = tot → FrG I I1 → CI I1 b1 a r L → RowV I1 b1 a w r L → mmK (d + 7) 129 Q 23 [some (mo 10 0), some (mv w), some (mv x0), some (mv qq), some (mo 5 (w + 1)), some (mv x), some (mv acc), some (mv n), l8] [] (I1, mmRf a b1, X) := by
  intro q
  induction q with
  | zero =>
    intro n x acc I1 b1 l8 n0 n1 hx hacc htot f1 h1 hR
    refine mmC_step ?_
    simp only [cd_129, sg_129_0, sg_129_11, sg_129_13, sg_129_23, sg_129_57, sg_129_58, sg_129_60, sg_129_62, mmK_cut cd_129, q_cons, q_G0, q_GS, q_I1, q_L1, q_A1, q_S0, q_S1, q_SS, q_T0, q_T1, q_TS, q_Kn, q_Ki, q_Kl, q_Kr, q_k0, q_kS, q_rc, q_ps, q_pn, q_iload1, q_if_eq, q_iload2, q_if_lt, q_iload3, q_iconst, q_icmp_lt, q_bipush, q_icmp_le, q_ireturn0, q_aload0, q_astore, q_istore, q_iload, q_icmp_ge, q_getfieldA, q_aload, q_getfieldI, q_icmp_eq, q_goto, q_iadd, q_iinc, rf_10_2, rf_10_4, rf_10_8, rf_10_9, mmKe_1109, mmKo_10, mmKo_3, mmKo_5, mmLen_1109, mmR32, mmR64, Option.some.injEq, Int.cast_ofNat_Int, and_true, true_and, if_true, if_false, List.length_cons, List.length_nil, Nat.le_refl, Nat.zero_le, Nat.sub_zero, forall_const, reduceCtorEq, Nat.reduceAdd, Nat.reduceSub, Nat.reduceLeDiff, Nat.reduceEqDiff, Int.reduceAdd, Int.reduceNeg, Int.reduceSub, Int.reduceLT, Int.reduceLE, Int.reduceMul, Int.reduceEq, List.drop_zero, List.drop_succ_cons, ne_eq, not_false_eq_true, not_true_eq_false, false_and, and_false, false_implies, true_implies, reduceIte, mmU_rd, implies_true, or_false, false_or, or_true, true_or]
    refine ⟨fun _ => ?_, fun c => by omega⟩
    refine mmC_step ?_
    simp only [cd_129, sg_129_0, sg_129_11, sg_129_13, sg_129_23, sg_129_57, sg_129_58, sg_129_60, sg_129_62, mmK_cut cd_129, q_cons, q_G0, q_GS, q_I1, q_L1, q_A1, q_S0, q_S1, q_SS, q_T0, q_T1, q_TS, q_Kn, q_Ki, q_Kl, q_Kr, q_k0, q_kS, q_rc, q_ps, q_pn, q_iload1, q_if_eq, q_iload2, q_if_lt, q_iload3, q_iconst, q_icmp_lt, q_bipush, q_icmp_le, q_ireturn0, q_aload0, q_astore, q_istore, q_iload, q_icmp_ge, q_getfieldA, q_aload, q_getfieldI, q_icmp_eq, q_goto, q_iadd, q_iinc, rf_10_2, rf_10_4, rf_10_8, rf_10_9, mmKe_1109, mmKo_10, mmKo_3, mmKo_5, mmLen_1109, mmR32, mmR64, Option.some.injEq, Int.cast_ofNat_Int, and_true, true_and, if_true, if_false, List.length_cons, List.length_nil, Nat.le_refl, Nat.zero_le, Nat.sub_zero, forall_const, reduceCtorEq, Nat.reduceAdd, Nat.reduceSub, Nat.reduceLeDiff, Nat.reduceEqDiff, Int.reduceAdd, Int.reduceNeg, Int.reduceSub, Int.reduceLT, Int.reduceLE, Int.reduceMul, Int.reduceEq, List.drop_zero, List.drop_succ_cons, ne_eq, not_false_eq_true, not_true_eq_false, false_and, and_false, false_implies, true_implies, reduceIte, mmU_rd, implies_true, or_false, false_or, or_true, true_or]
    have e : acc = tot := by
      have e0 : ltN r L w 0 x = 0 := rfl
      omega
    rw [e]
    exact hQ I1 b1 f1 h1
  | succ q ih =>
    intro n x acc I1 b1 l8 n0 n1 hx hacc htot f1 h1 hR
    have hW := h1.2.2.2.2.1
    have h16 := hW.1
    have hdN := drN_in hx (L 0 0).toNat
    rw [ltN_s] at htot
    have w60 : ∀ (I3 : mMm) (b3 : Nat → Option mmO) (l8 : Option mmV) (acc' : Int), acc' = acc + cI (sameM r L (odT L (r 6 7) (Kv L (drA r L x) w)) (vT r L w)) 0 1 → FrG I I3 → CI I3 b3 a r L → RowV I3 b3 a w r L → mmK (d + 7) 129 Q 60 [some (mo 10 0), some (mv w), some (mv x0), some (mv qq), some (mo 5 (w + 1)), some (mv (drN x (L 0 0).toNat)), some (mv acc'), some (mv n), l8] [] (I3, mmRf a b3, X) := by
      intro I3 b3 l8 acc' hacc' f3 h3 hR3
      have h01 := c01 (P := sameM r L (odT L (r 6 7) (Kv L (drA r L x) w)) (vT r L w))
      refine mmC_step ?_
      simp only [cd_129, sg_129_0, sg_129_11, sg_129_13, sg_129_23, sg_129_57, sg_129_58, sg_129_60, sg_129_62, mmK_cut cd_129, q_cons, q_G0, q_GS, q_I1, q_L1, q_A1, q_S0, q_S1, q_SS, q_T0, q_T1, q_TS, q_Kn, q_Ki, q_Kl, q_Kr, q_k0, q_kS, q_rc, q_ps, q_pn, q_iload1, q_if_eq, q_iload2, q_if_lt, q_iload3, q_iconst, q_icmp_lt, q_bipush, q_icmp_le, q_ireturn0, q_aload0, q_astore, q_istore, q_iload, q_icmp_ge, q_getfieldA, q_aload, q_getfieldI, q_icmp_eq, q_goto, q_iadd, q_iinc, rf_10_2, rf_10_4, rf_10_8, rf_10_9, mmKe_1109, mmKo_10, mmKo_3, mmKo_5, mmLen_1109, mmR32, mmR64, Option.some.injEq, Int.cast_ofNat_Int, and_true, true_and, if_true, if_false, List.length_cons, List.length_nil, Nat.le_refl, Nat.zero_le, Nat.sub_zero, forall_const, reduceCtorEq, Nat.reduceAdd, Nat.reduceSub, Nat.reduceLeDiff, Nat.reduceEqDiff, Int.reduceAdd, Int.reduceNeg, Int.reduceSub, Int.reduceLT, Int.reduceLE, Int.reduceMul, Int.reduceEq, List.drop_zero, List.drop_succ_cons, ne_eq, not_false_eq_true, not_true_eq_false, false_and, and_false, false_implies, true_implies, reduceIte, mmU_rd, implies_true, or_false, false_or, or_true, true_or]
      exact ⟨by omega, ih (n + 1) _ acc' I3 b3 l8 (by omega) (by omega) hdN (by omega) (by omega) f3 h3 hR3⟩
    refine mmC_step ?_
    simp only [cd_129, sg_129_0, sg_129_11, sg_129_13, sg_129_23, sg_129_57, sg_129_58, sg_129_60, sg_129_62, mmK_cut cd_129, q_cons, q_G0, q_GS, q_I1, q_L1, q_A1, q_S0, q_S1, q_SS, q_T0, q_T1, q_TS, q_Kn, q_Ki, q_Kl, q_Kr, q_k0, q_kS, q_rc, q_ps, q_pn, q_iload1, q_if_eq, q_iload2, q_if_lt, q_iload3, q_iconst, q_icmp_lt, q_bipush, q_icmp_le, q_ireturn0, q_aload0, q_astore, q_istore, q_iload, q_icmp_ge, q_getfieldA, q_aload, q_getfieldI, q_icmp_eq, q_goto, q_iadd, q_iinc, rf_10_2, rf_10_4, rf_10_8, rf_10_9, mmKe_1109, mmKo_10, mmKo_3, mmKo_5, mmLen_1109, mmR32, mmR64, Option.some.injEq, Int.cast_ofNat_Int, and_true, true_and, if_true, if_false, List.length_cons, List.length_nil, Nat.le_refl, Nat.zero_le, Nat.sub_zero, forall_const, reduceCtorEq, Nat.reduceAdd, Nat.reduceSub, Nat.reduceLeDiff, Nat.reduceEqDiff, Int.reduceAdd, Int.reduceNeg, Int.reduceSub, Int.reduceLT, Int.reduceLE, Int.reduceMul, Int.reduceEq, List.drop_zero, List.drop_succ_cons, ne_eq, not_false_eq_true, not_true_eq_false, false_and, and_false, false_implies, true_implies, reduceIte, mmU_rd, implies_true, or_false, false_or, or_true, true_or]
    refine ⟨fun c => by omega, fun _ => ?_⟩
    rw [q_invV (pay := [])]
    simp only [q_k0, q_kS, q_rc, mmKo_10]
    refine ⟨Nat.le_of_ble_eq_true rfl, by trivial, Nat.zero_le _, Nat.zero_le _, ?_⟩
    refine mT_use (c_drawArrivals h1.1 h1.2.1.1 h1.2.2.2.1 hW hx) (fun u I2 q2 => ?_)
    obtain ⟨rfl, f2, hA⟩ := q2
    obtain ⟨h2, g2, hv2⟩ := CI_0 (br' := b1) h1 (fun t i k c1 c2 c3 => f2 t i k c3) (fun _ _ => rfl)
    have hR2 := hv2 w hw hR
    simp only [mmK_cut cd_129, q_cons, q_G0, q_GS, q_I1, q_L1, q_A1, q_S0, q_S1, q_SS, q_T0, q_T1, q_TS, q_Kn, q_Ki, q_Kl, q_Kr, q_k0, q_kS, q_rc, q_ps, q_pn, q_iload1, q_if_eq, q_iload2, q_if_lt, q_iload3, q_iconst, q_icmp_lt, q_bipush, q_icmp_le, q_ireturn0, q_aload0, q_astore, q_istore, q_iload, q_icmp_ge, q_getfieldA, q_aload, q_getfieldI, q_icmp_eq, q_goto, q_iadd, q_iinc, rf_10_2, rf_10_4, rf_10_8, rf_10_9, mmKe_1109, mmKo_10, mmKo_3, mmKo_5, mmLen_1109, mmR32, mmR64, Option.some.injEq, Int.cast_ofNat_Int, and_true, true_and, if_true, if_false, List.length_cons, List.length_nil, Nat.le_refl, Nat.zero_le, Nat.sub_zero, forall_const, reduceCtorEq, Nat.reduceAdd, Nat.reduceSub, Nat.reduceLeDiff, Nat.reduceEqDiff, Int.reduceAdd, Int.reduceNeg, Int.reduceSub, Int.reduceLT, Int.reduceLE, Int.reduceMul, Int.reduceEq, List.drop_zero, List.drop_succ_cons, ne_eq, not_false_eq_true, not_true_eq_false, false_and, and_false, false_implies, true_implies, reduceIte, mmU_rd, implies_true, or_false, false_or, or_true, true_or]
    rw [q_invV (pay := [])]
    simp only [q_k0, q_kS, q_rc, mmKo_3]
    refine ⟨Nat.le_of_ble_eq_true rfl, by trivial, Nat.zero_le _, Nat.zero_le _, ?_⟩
    refine c_known (Ar := drA r L x) h2.2.2.2.1 hW ⟨by omega, by omega⟩ rfl rfl hA ?_
    simp only [mmK_cut cd_129, q_cons, q_G0, q_GS, q_I1, q_L1, q_A1, q_S0, q_S1, q_SS, q_T0, q_T1, q_TS, q_Kn, q_Ki, q_Kl, q_Kr, q_k0, q_kS, q_rc, q_ps, q_pn, q_iload1, q_if_eq, q_iload2, q_if_lt, q_iload3, q_iconst, q_icmp_lt, q_bipush, q_icmp_le, q_ireturn0, q_aload0, q_astore, q_istore, q_iload, q_icmp_ge, q_getfieldA, q_aload, q_getfieldI, q_icmp_eq, q_goto, q_iadd, q_iinc, rf_10_2, rf_10_4, rf_10_8, rf_10_9, mmKe_1109, mmKo_10, mmKo_3, mmKo_5, mmLen_1109, mmR32, mmR64, Option.some.injEq, Int.cast_ofNat_Int, and_true, true_and, if_true, if_false, List.length_cons, List.length_nil, Nat.le_refl, Nat.zero_le, Nat.sub_zero, forall_const, reduceCtorEq, Nat.reduceAdd, Nat.reduceSub, Nat.reduceLeDiff, Nat.reduceEqDiff, Int.reduceAdd, Int.reduceNeg, Int.reduceSub, Int.reduceLT, Int.reduceLE, Int.reduceMul, Int.reduceEq, List.drop_zero, List.drop_succ_cons, ne_eq, not_false_eq_true, not_true_eq_false, false_and, and_false, false_implies, true_implies, reduceIte, mmU_rd, implies_true, or_false, false_or, or_true, true_or]
    rw [hR2.2.1]
    refine ⟨fun ce => ?_, fun ce => ?_⟩
    · refine w60 I2 b1 _ acc ?_ (FrG_trans f1 g2) h2 hR2
      have ek : knA (Kv L (drA r L x) w) (L 0 0).toNat = knA (Kv L (L 3) w) (L 0 0).toNat := by omega
      have eT : odT L (r 6 7) (Kv L (drA r L x) w) = vT r L w := odT_ext (fun l l0 l1 => knA_inj ek l l0 (by omega))
      rw [eT, cI_pos ⟨rfl, fun _ _ _ => rfl⟩]
      omega
    · rw [q_invV (pay := [])]
      simp only [q_k0, q_kS, q_rc, mmKo_5]
      refine ⟨Nat.le_of_ble_eq_true rfl, by trivial, Nat.zero_le _, Nat.zero_le _, ?_⟩
      refine c_replay (K := Kv L (drA r L x) w) h2.1 h2.2.1 h2.2.2.1 h2.2.2.2.1 hW (knA_KB ⟨by omega, by omega⟩) (fun I3 f3 e3 hR3 => ?_)
      obtain ⟨h3, g3, hv3⟩ := CI_0 (I' := I3) (br' := bru b1 0 a) h2 (fun t i k c1 c2 c3 => f3 t i k c1 c2) (fun i hi => if_neg hi)
      have hR4 := hv3 w hw hR2
      simp only [mmK_cut cd_129, q_cons, q_G0, q_GS, q_I1, q_L1, q_A1, q_S0, q_S1, q_SS, q_T0, q_T1, q_TS, q_Kn, q_Ki, q_Kl, q_Kr, q_k0, q_kS, q_rc, q_ps, q_pn, q_iload1, q_if_eq, q_iload2, q_if_lt, q_iload3, q_iconst, q_icmp_lt, q_bipush, q_icmp_le, q_ireturn0, q_aload0, q_astore, q_istore, q_iload, q_icmp_ge, q_getfieldA, q_aload, q_getfieldI, q_icmp_eq, q_goto, q_iadd, q_iinc, rf_10_2, rf_10_4, rf_10_8, rf_10_9, mmKe_1109, mmKo_10, mmKo_3, mmKo_5, mmLen_1109, mmR32, mmR64, Option.some.injEq, Int.cast_ofNat_Int, and_true, true_and, if_true, if_false, List.length_cons, List.length_nil, Nat.le_refl, Nat.zero_le, Nat.sub_zero, forall_const, reduceCtorEq, Nat.reduceAdd, Nat.reduceSub, Nat.reduceLeDiff, Nat.reduceEqDiff, Int.reduceAdd, Int.reduceNeg, Int.reduceSub, Int.reduceLT, Int.reduceLE, Int.reduceMul, Int.reduceEq, List.drop_zero, List.drop_succ_cons, ne_eq, not_false_eq_true, not_true_eq_false, false_and, and_false, false_implies, true_implies, reduceIte, mmU_rd, implies_true, or_false, false_or, or_true, true_or]
      rw [q_invV (pay := [])]
      simp only [q_k0, q_kS, q_rc, mmKo_5]
      refine ⟨Nat.le_of_ble_eq_true rfl, by trivial, Nat.zero_le _, Nat.zero_le _, ?_⟩
      refine c_hasMovesOf (T := odT L (r 6 7) (Kv L (drA r L x) w)) (T' := vT r L w) (r := r) (L := L) hR3.1.1.2.1 (RV_N hR4) (fun i i0 i1 => (hR3.1.2.1 i i0 i1).1) (fun i i0 i1 => (RV_p hR4 i0 i1).1) ?_
      have w58 : ∀ z : Int, z = cI (sameM r L (odT L (r 6 7) (Kv L (drA r L x) w)) (vT r L w)) 0 1 → mmK (d + 7) 129 Q 58 [some (mo 10 0), some (mv w), some (mv x0), some (mv qq), some (mo 5 (w + 1)), some (mv (drN x (L 0 0).toNat)), some (mv acc), some (mv n), some (mv (knA (Kv L (drA r L x) w) (L 0 0).toNat))] [mv z, mv acc] (I3, mmRf a (bru b1 0 a), X) := by
        intro z hz
        have h01 := c01 (P := sameM r L (odT L (r 6 7) (Kv L (drA r L x) w)) (vT r L w))
        refine mmC_step ?_
        simp only [cd_129, sg_129_0, sg_129_11, sg_129_13, sg_129_23, sg_129_57, sg_129_58, sg_129_60, sg_129_62, mmK_cut cd_129, q_cons, q_G0, q_GS, q_I1, q_L1, q_A1, q_S0, q_S1, q_SS, q_T0, q_T1, q_TS, q_Kn, q_Ki, q_Kl, q_Kr, q_k0, q_kS, q_rc, q_ps, q_pn, q_iload1, q_if_eq, q_iload2, q_if_lt, q_iload3, q_iconst, q_icmp_lt, q_bipush, q_icmp_le, q_ireturn0, q_aload0, q_astore, q_istore, q_iload, q_icmp_ge, q_getfieldA, q_aload, q_getfieldI, q_icmp_eq, q_goto, q_iadd, q_iinc, rf_10_2, rf_10_4, rf_10_8, rf_10_9, mmKe_1109, mmKo_10, mmKo_3, mmKo_5, mmLen_1109, mmR32, mmR64, Option.some.injEq, Int.cast_ofNat_Int, and_true, true_and, if_true, if_false, List.length_cons, List.length_nil, Nat.le_refl, Nat.zero_le, Nat.sub_zero, forall_const, reduceCtorEq, Nat.reduceAdd, Nat.reduceSub, Nat.reduceLeDiff, Nat.reduceEqDiff, Int.reduceAdd, Int.reduceNeg, Int.reduceSub, Int.reduceLT, Int.reduceLE, Int.reduceMul, Int.reduceEq, List.drop_zero, List.drop_succ_cons, ne_eq, not_false_eq_true, not_true_eq_false, false_and, and_false, false_implies, true_implies, reduceIte, mmU_rd, implies_true, or_false, false_or, or_true, true_or]
        refine ⟨by omega, w60 I3 _ _ _ ?_ (FrG_trans f1 (FrG_trans g2 g3)) h3 hR4⟩
        rw [hz]
      simp only [mmK_cut cd_129, q_cons, q_G0, q_GS, q_I1, q_L1, q_A1, q_S0, q_S1, q_SS, q_T0, q_T1, q_TS, q_Kn, q_Ki, q_Kl, q_Kr, q_k0, q_kS, q_rc, q_ps, q_pn, q_iload1, q_if_eq, q_iload2, q_if_lt, q_iload3, q_iconst, q_icmp_lt, q_bipush, q_icmp_le, q_ireturn0, q_aload0, q_astore, q_istore, q_iload, q_icmp_ge, q_getfieldA, q_aload, q_getfieldI, q_icmp_eq, q_goto, q_iadd, q_iinc, rf_10_2, rf_10_4, rf_10_8, rf_10_9, mmKe_1109, mmKo_10, mmKo_3, mmKo_5, mmLen_1109, mmR32, mmR64, Option.some.injEq, Int.cast_ofNat_Int, and_true, true_and, if_true, if_false, List.length_cons, List.length_nil, Nat.le_refl, Nat.zero_le, Nat.sub_zero, forall_const, reduceCtorEq, Nat.reduceAdd, Nat.reduceSub, Nat.reduceLeDiff, Nat.reduceEqDiff, Int.reduceAdd, Int.reduceNeg, Int.reduceSub, Int.reduceLT, Int.reduceLE, Int.reduceMul, Int.reduceEq, List.drop_zero, List.drop_succ_cons, ne_eq, not_false_eq_true, not_true_eq_false, false_and, and_false, false_implies, true_implies, reduceIte, mmU_rd, implies_true, or_false, false_or, or_true, true_or, bI_eq0]
      refine ⟨fun cs => ?_, fun cs => ?_⟩
      · refine mmC_step ?_
        simp only [cd_129, sg_129_0, sg_129_11, sg_129_13, sg_129_23, sg_129_57, sg_129_58, sg_129_60, sg_129_62, mmK_cut cd_129, q_cons, q_G0, q_GS, q_I1, q_L1, q_A1, q_S0, q_S1, q_SS, q_T0, q_T1, q_TS, q_Kn, q_Ki, q_Kl, q_Kr, q_k0, q_kS, q_rc, q_ps, q_pn, q_iload1, q_if_eq, q_iload2, q_if_lt, q_iload3, q_iconst, q_icmp_lt, q_bipush, q_icmp_le, q_ireturn0, q_aload0, q_astore, q_istore, q_iload, q_icmp_ge, q_getfieldA, q_aload, q_getfieldI, q_icmp_eq, q_goto, q_iadd, q_iinc, rf_10_2, rf_10_4, rf_10_8, rf_10_9, mmKe_1109, mmKo_10, mmKo_3, mmKo_5, mmLen_1109, mmR32, mmR64, Option.some.injEq, Int.cast_ofNat_Int, and_true, true_and, if_true, if_false, List.length_cons, List.length_nil, Nat.le_refl, Nat.zero_le, Nat.sub_zero, forall_const, reduceCtorEq, Nat.reduceAdd, Nat.reduceSub, Nat.reduceLeDiff, Nat.reduceEqDiff, Int.reduceAdd, Int.reduceNeg, Int.reduceSub, Int.reduceLT, Int.reduceLE, Int.reduceMul, Int.reduceEq, List.drop_zero, List.drop_succ_cons, ne_eq, not_false_eq_true, not_true_eq_false, false_and, and_false, false_implies, true_implies, reduceIte, mmU_rd, implies_true, or_false, false_or, or_true, true_or]
        exact w58 1 (by rw [cI_neg cs])
      · exact w58 0 (by rw [cI_pos (Classical.not_not.mp cs)])
theorem c_lot {w : Int} (hI : CI I br a r L) (hx : x < 2147483648) (hQ : aQ I a r L X Q (mv (a_lot r L w x q))) : mmC (d + 8) 129 [mo 10 0, mv w, mv x, mv q] (I, mmRf a br, X) Q := by
  have w11 : ¬ (isW w ∧ 0 ≤ x ∧ 1 ≤ q ∧ q ≤ 20) → mmK (d + 7) 129 Q 11 [some (mo 10 0), some (mv w), some (mv x), some (mv q), none, none, none, none, none] [] (I, mmRf a br, X) := by
    intro c
    unfold a_lot at hQ
    rw [cI_neg c] at hQ
    refine mmC_step ?_
    simp only [cd_129, sg_129_0, sg_129_11, sg_129_13, sg_129_23, sg_129_57, sg_129_58, sg_129_60, sg_129_62, mmK_cut cd_129, q_cons, q_G0, q_GS, q_I1, q_L1, q_A1, q_S0, q_S1, q_SS, q_T0, q_T1, q_TS, q_Kn, q_Ki, q_Kl, q_Kr, q_k0, q_kS, q_rc, q_ps, q_pn, q_iload1, q_if_eq, q_iload2, q_if_lt, q_iload3, q_iconst, q_icmp_lt, q_bipush, q_icmp_le, q_ireturn0, q_aload0, q_astore, q_istore, q_iload, q_icmp_ge, q_getfieldA, q_aload, q_getfieldI, q_icmp_eq, q_goto, q_iadd, q_iinc, rf_10_2, rf_10_4, rf_10_8, rf_10_9, mmKe_1109, mmKo_10, mmKo_3, mmKo_5, mmLen_1109, mmR32, mmR64, Option.some.injEq, Int.cast_ofNat_Int, and_true, true_and, if_true, if_false, List.length_cons, List.length_nil, Nat.le_refl, Nat.zero_le, Nat.sub_zero, forall_const, reduceCtorEq, Nat.reduceAdd, Nat.reduceSub, Nat.reduceLeDiff, Nat.reduceEqDiff, Int.reduceAdd, Int.reduceNeg, Int.reduceSub, Int.reduceLT, Int.reduceLE, Int.reduceMul, Int.reduceEq, List.drop_zero, List.drop_succ_cons, ne_eq, not_false_eq_true, not_true_eq_false, false_and, and_false, false_implies, true_implies, reduceIte, mmU_rd, implies_true, or_false, false_or, or_true, true_or]
    exact hQ I br FrG_refl hI
  refine mmC_in (by decide) (Nat.le_of_ble_eq_true rfl) (mmC_step ?_)
  simp only [show mmMl 129 = 9 from rfl, mmLs, List.replicate, cd_129, sg_129_0, sg_129_11, sg_129_13, sg_129_23, sg_129_57, sg_129_58, sg_129_60, sg_129_62, mmK_cut cd_129, q_cons, q_G0, q_GS, q_I1, q_L1, q_A1, q_S0, q_S1, q_SS, q_T0, q_T1, q_TS, q_Kn, q_Ki, q_Kl, q_Kr, q_k0, q_kS, q_rc, q_ps, q_pn, q_iload1, q_if_eq, q_iload2, q_if_lt, q_iload3, q_iconst, q_icmp_lt, q_bipush, q_icmp_le, q_ireturn0, q_aload0, q_astore, q_istore, q_iload, q_icmp_ge, q_getfieldA, q_aload, q_getfieldI, q_icmp_eq, q_goto, q_iadd, q_iinc, rf_10_2, rf_10_4, rf_10_8, rf_10_9, mmKe_1109, mmKo_10, mmKo_3, mmKo_5, mmLen_1109, mmR32, mmR64, Option.some.injEq, Int.cast_ofNat_Int, and_true, true_and, if_true, if_false, List.length_cons, List.length_nil, Nat.le_refl, Nat.zero_le, Nat.sub_zero, forall_const, reduceCtorEq, Nat.reduceAdd, Nat.reduceSub, Nat.reduceLeDiff, Nat.reduceEqDiff, Int.reduceAdd, Int.reduceNeg, Int.reduceSub, Int.reduceLT, Int.reduceLE, Int.reduceMul, Int.reduceEq, List.drop_zero, List.drop_succ_cons, ne_eq, not_false_eq_true, not_true_eq_false, false_and, and_false, false_implies, true_implies, reduceIte, mmU_rd, implies_true, or_false, false_or, or_true, true_or]
  rw [q_invS (pay := [])]
  simp only [q_k0, q_kS]
  refine ⟨Nat.le_of_ble_eq_true rfl, Nat.zero_le _, Nat.zero_le _, ?_⟩
  refine sp_isView ?_
  simp only [mmK_cut cd_129, q_cons, q_G0, q_GS, q_I1, q_L1, q_A1, q_S0, q_S1, q_SS, q_T0, q_T1, q_TS, q_Kn, q_Ki, q_Kl, q_Kr, q_k0, q_kS, q_rc, q_ps, q_pn, q_iload1, q_if_eq, q_iload2, q_if_lt, q_iload3, q_iconst, q_icmp_lt, q_bipush, q_icmp_le, q_ireturn0, q_aload0, q_astore, q_istore, q_iload, q_icmp_ge, q_getfieldA, q_aload, q_getfieldI, q_icmp_eq, q_goto, q_iadd, q_iinc, rf_10_2, rf_10_4, rf_10_8, rf_10_9, mmKe_1109, mmKo_10, mmKo_3, mmKo_5, mmLen_1109, mmR32, mmR64, Option.some.injEq, Int.cast_ofNat_Int, and_true, true_and, if_true, if_false, List.length_cons, List.length_nil, Nat.le_refl, Nat.zero_le, Nat.sub_zero, forall_const, reduceCtorEq, Nat.reduceAdd, Nat.reduceSub, Nat.reduceLeDiff, Nat.reduceEqDiff, Int.reduceAdd, Int.reduceNeg, Int.reduceSub, Int.reduceLT, Int.reduceLE, Int.reduceMul, Int.reduceEq, List.drop_zero, List.drop_succ_cons, ne_eq, not_false_eq_true, not_true_eq_false, false_and, and_false, false_implies, true_implies, reduceIte, mmU_rd, implies_true, or_false, false_or, or_true, true_or, bI_eq0]
  refine ⟨fun c => w11 (fun q => c q.1), fun c => ⟨fun c2 => w11 (fun q => by omega), fun c2 => ⟨fun c3 => w11 (fun q => by omega), fun c3 => ⟨fun c4 => ?_, fun c4 => w11 (fun q => by omega)⟩⟩⟩⟩
  have c := Classical.not_not.mp c
  obtain ⟨w, rfl⟩ := Int.eq_ofNat_of_zero_le c.1
  unfold a_lot at hQ
  rw [cI_pos ⟨c, c2, c3, c4⟩] at hQ
  refine mmC_step ?_
  simp only [cd_129, sg_129_0, sg_129_11, sg_129_13, sg_129_23, sg_129_57, sg_129_58, sg_129_60, sg_129_62, mmK_cut cd_129, q_cons, q_G0, q_GS, q_I1, q_L1, q_A1, q_S0, q_S1, q_SS, q_T0, q_T1, q_TS, q_Kn, q_Ki, q_Kl, q_Kr, q_k0, q_kS, q_rc, q_ps, q_pn, q_iload1, q_if_eq, q_iload2, q_if_lt, q_iload3, q_iconst, q_icmp_lt, q_bipush, q_icmp_le, q_ireturn0, q_aload0, q_astore, q_istore, q_iload, q_icmp_ge, q_getfieldA, q_aload, q_getfieldI, q_icmp_eq, q_goto, q_iadd, q_iinc, rf_10_2, rf_10_4, rf_10_8, rf_10_9, mmKe_1109, mmKo_10, mmKo_3, mmKo_5, mmLen_1109, mmR32, mmR64, Option.some.injEq, Int.cast_ofNat_Int, and_true, true_and, if_true, if_false, List.length_cons, List.length_nil, Nat.le_refl, Nat.zero_le, Nat.sub_zero, forall_const, reduceCtorEq, Nat.reduceAdd, Nat.reduceSub, Nat.reduceLeDiff, Nat.reduceEqDiff, Int.reduceAdd, Int.reduceNeg, Int.reduceSub, Int.reduceLT, Int.reduceLE, Int.reduceMul, Int.reduceEq, List.drop_zero, List.drop_succ_cons, ne_eq, not_false_eq_true, not_true_eq_false, false_and, and_false, false_implies, true_implies, reduceIte, mmU_rd, implies_true, or_false, false_or, or_true, true_or]
  rw [q_invV (pay := [])]
  simp only [q_k0, q_kS, q_rc, mmKo_10]
  refine ⟨Nat.le_of_ble_eq_true rfl, by trivial, Nat.zero_le _, Nat.zero_le _, ?_⟩
  refine c_seenI (by omega) hI (fun I1 b1 f1 h1 hR => ?_)
  simp only [mmK_cut cd_129, q_cons, q_G0, q_GS, q_I1, q_L1, q_A1, q_S0, q_S1, q_SS, q_T0, q_T1, q_TS, q_Kn, q_Ki, q_Kl, q_Kr, q_k0, q_kS, q_rc, q_ps, q_pn, q_iload1, q_if_eq, q_iload2, q_if_lt, q_iload3, q_iconst, q_icmp_lt, q_bipush, q_icmp_le, q_ireturn0, q_aload0, q_astore, q_istore, q_iload, q_icmp_ge, q_getfieldA, q_aload, q_getfieldI, q_icmp_eq, q_goto, q_iadd, q_iinc, rf_10_2, rf_10_4, rf_10_8, rf_10_9, mmKe_1109, mmKo_10, mmKo_3, mmKo_5, mmLen_1109, mmR32, mmR64, Option.some.injEq, Int.cast_ofNat_Int, and_true, true_and, if_true, if_false, List.length_cons, List.length_nil, Nat.le_refl, Nat.zero_le, Nat.sub_zero, forall_const, reduceCtorEq, Nat.reduceAdd, Nat.reduceSub, Nat.reduceLeDiff, Nat.reduceEqDiff, Int.reduceAdd, Int.reduceNeg, Int.reduceSub, Int.reduceLT, Int.reduceLE, Int.reduceMul, Int.reduceEq, List.drop_zero, List.drop_succ_cons, ne_eq, not_false_eq_true, not_true_eq_false, false_and, and_false, false_implies, true_implies, reduceIte, mmU_rd, implies_true, or_false, false_or, or_true, true_or]
  exact c_lotL (by omega) ⟨c3, c4⟩ hQ q.toNat 0 x 0 I1 b1 _ (by omega) (by omega) ⟨c2, hx⟩ (by omega) (by omega) f1 h1 hR
end S856
