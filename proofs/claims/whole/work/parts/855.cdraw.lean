theorem land_31 {x : Int} (h0 : 0 ≤ x) (h1 : x < 9223372036854775808) : mmLand x 2147483647 = x % 2147483648 := by
  unfold mmLand
  refine (l_toI (n := x.toNat % 2 ^ 31) ?_ (by omega)).trans (by omega)
  rw [Int64.toBitVec_and, BitVec.toNat_and, l_bv h0 h1, l_bv (by omega) (by omega)]
  exact Nat.and_two_pow_sub_one_eq_mod _ 31
/-- numbers drawn by lot -/
def drX (x : Int) : Int := (x * 1103515245 + 12345) % 2147483648
def drN (x : Int) : Nat → Int
  | 0 => x
  | n + 1 => drX (drN x n)
theorem drN_in {x : Int} (h : 0 ≤ x ∧ x < 2147483648) : ∀ n : Nat, 0 ≤ drN x n ∧ drN x n < 2147483648
  | 0 => h
  | n + 1 => by
    show 0 ≤ drX _ ∧ drX _ < 2147483648
    unfold drX
    omega
def drA (r : mRu) (L : Nat → Int → Int) (x l : Int) : Int := L 2 l + r 6 4 + drN x (l.toNat + 1) / 65536 % (r 6 5 - r 6 4 + 1)
section S855
variable {d a : Nat} {I I1 I' I'' : mMm} {br br' : Nat → Option mmO} {R : Nat → Nat → Int → Option mmO} {X : mmX} {L : Nat → Int → Int} {r : mRu} {l w k v p n q x : Int} {Q : Option mmV → mmM → Prop}
def dP (I : mMm) (r : mRu) (L : Nat → Int → Int) (x : Int) (u : Option mmV) (I' : mMm) : Prop := u = some (mv (drN x (L 0 0).toNat)) ∧ (∀ t i k, ¬ (t = 1109 ∧ i = 0) → I' t i k = I t i k) ∧ ∀ l, 0 ≤ l → l < L 0 0 → I' 1109 0 l = drA r L x l
theorem c_drawArrivals (hC : CR I a r) (hw : RW r) (hL : CL I L) (hW : LW L) (hx : 0 ≤ x ∧ x < 2147483648) : mmC (d + 1) 135 [mo 10 0, mv x] (I, mmRf a br, X) (mT a br X (dP I r L x)) := by
  have h16 := hW.1
  have w4 := hw.2.2.2.2.1
  have w5 := hw.2.2.2.2.2.1
  have key : ∀ (q n : Nat) (I1 : mMm), (n : Int) + q = L 0 0 → (∀ t i k, ¬ (t = 1109 ∧ i = 0) → I1 t i k = I t i k) → (∀ l : Int, 0 ≤ l → l < n → I1 1109 0 l = drA r L x l) → mmK d 135 (mT a br X (dP I r L x)) 20 [some (mo 10 0), some (mv x), some (ml (drN x n)), none, some (mv (r 6 5 - r 6 4 + 1)), some (mv n)] [] (I1, mmRf a br, X) := by
    intro q
    induction q with
    | zero =>
      intro n I1 hn hf hA
      have e0 : I1 3 0 0 = L 0 0 := (hf _ _ _ (by omega)).trans (hL 0 0 (by omega))
      have hd := drN_in hx n
      refine mmC_step ?_
      simp only [cd_135, sg_135_0, sg_135_18, sg_135_20, sg_135_56, mmK_cut cd_135, q_cons, q_G0, q_GS, q_I1, q_L1, q_A1, q_S0, q_S1, q_SS, q_T0, q_T1, q_TS, q_Kn, q_Ki, q_Kl, q_Kr, q_k0, q_kS, q_rc, q_ps, q_pn, q_iload1, q_i2l, q_lstore2, q_aload0, q_getfieldA, q_getfieldI, q_isub, q_iconst, q_iadd, q_istore, q_iload, q_icmp_ge, q_ireturn0, q_lload2, q_ldc2_w, q_lmul, q_ladd, q_land, q_iaload, q_ldiv, q_lrem, q_l2i, q_iastore, q_iinc, q_goto, rf_10_2, rf_10_4, rf_10_9, rf_3_2, mmKe_1109, mmKe_402, mmKo_10, mmKo_3, mmKo_6, mmLen_1109, mmLen_402, mmR32, mmR64, Option.some.injEq, Int.cast_ofNat_Int, and_true, true_and, if_true, if_false, List.length_cons, List.length_nil, Nat.le_refl, Nat.zero_le, Nat.sub_zero, forall_const, reduceCtorEq, Nat.reduceAdd, Nat.reduceSub, Nat.reduceLeDiff, Nat.reduceEqDiff, Int.reduceAdd, Int.reduceNeg, Int.reduceSub, Int.reduceLT, Int.reduceLE, Int.reduceMul, Int.reduceEq, List.drop_zero, List.drop_succ_cons, ne_eq, not_false_eq_true, not_true_eq_false, false_and, and_false, false_implies, true_implies, reduceIte, mmU_rd, implies_true, or_false, false_or, or_true, true_or]
      rw [e0]
      refine ⟨fun _ => ?_, fun c => by omega⟩
      refine mmC_step ?_
      simp only [cd_135, sg_135_0, sg_135_18, sg_135_20, sg_135_56, mmK_cut cd_135, q_cons, q_G0, q_GS, q_I1, q_L1, q_A1, q_S0, q_S1, q_SS, q_T0, q_T1, q_TS, q_Kn, q_Ki, q_Kl, q_Kr, q_k0, q_kS, q_rc, q_ps, q_pn, q_iload1, q_i2l, q_lstore2, q_aload0, q_getfieldA, q_getfieldI, q_isub, q_iconst, q_iadd, q_istore, q_iload, q_icmp_ge, q_ireturn0, q_lload2, q_ldc2_w, q_lmul, q_ladd, q_land, q_iaload, q_ldiv, q_lrem, q_l2i, q_iastore, q_iinc, q_goto, rf_10_2, rf_10_4, rf_10_9, rf_3_2, mmKe_1109, mmKe_402, mmKo_10, mmKo_3, mmKo_6, mmLen_1109, mmLen_402, mmR32, mmR64, Option.some.injEq, Int.cast_ofNat_Int, and_true, true_and, if_true, if_false, List.length_cons, List.length_nil, Nat.le_refl, Nat.zero_le, Nat.sub_zero, forall_const, reduceCtorEq, Nat.reduceAdd, Nat.reduceSub, Nat.reduceLeDiff, Nat.reduceEqDiff, Int.reduceAdd, Int.reduceNeg, Int.reduceSub, Int.reduceLT, Int.reduceLE, Int.reduceMul, Int.reduceEq, List.drop_zero, List.drop_succ_cons, ne_eq, not_false_eq_true, not_true_eq_false, false_and, and_false, false_implies, true_implies, reduceIte, mmU_rd, implies_true, or_false, false_or, or_true, true_or]
      have en : (L 0 0).toNat = n := by omega
      refine ⟨by omega, mT_in ⟨by rw [en], hf, fun l l0 l1 => hA l l0 (by omega)⟩⟩
    | succ q ih =>
      intro n I1 hn hf hA
      have e0 : I1 3 0 0 = L 0 0 := (hf _ _ _ (by omega)).trans (hL 0 0 (by omega))
      have e2 : I1 402 0 n = L 2 n := (hf _ _ _ (by omega)).trans (hL 2 _ (by omega))
      have e64 : I1 6 a 4 = r 6 4 := (hf _ _ _ (by omega)).trans (hC 6 4 rt6)
      have hl2 := (hW.2.2.2.1 n (by omega) (by omega)).2.1
      have hd := drN_in hx n
      have hd1 := drN_in hx (n + 1)
      have hla := land_31 (x := drN x n * 1103515245 + 12345) (by omega) (by omega)
      have hlb : mmLand (drN x n * 1103515245 + 12345) 2147483647 = drN x (n + 1) := hla
      refine mmC_step ?_
      simp only [cd_135, sg_135_0, sg_135_18, sg_135_20, sg_135_56, mmK_cut cd_135, q_cons, q_G0, q_GS, q_I1, q_L1, q_A1, q_S0, q_S1, q_SS, q_T0, q_T1, q_TS, q_Kn, q_Ki, q_Kl, q_Kr, q_k0, q_kS, q_rc, q_ps, q_pn, q_iload1, q_i2l, q_lstore2, q_aload0, q_getfieldA, q_getfieldI, q_isub, q_iconst, q_iadd, q_istore, q_iload, q_icmp_ge, q_ireturn0, q_lload2, q_ldc2_w, q_lmul, q_ladd, q_land, q_iaload, q_ldiv, q_lrem, q_l2i, q_iastore, q_iinc, q_goto, rf_10_2, rf_10_4, rf_10_9, rf_3_2, mmKe_1109, mmKe_402, mmKo_10, mmKo_3, mmKo_6, mmLen_1109, mmLen_402, mmR32, mmR64, Option.some.injEq, Int.cast_ofNat_Int, and_true, true_and, if_true, if_false, List.length_cons, List.length_nil, Nat.le_refl, Nat.zero_le, Nat.sub_zero, forall_const, reduceCtorEq, Nat.reduceAdd, Nat.reduceSub, Nat.reduceLeDiff, Nat.reduceEqDiff, Int.reduceAdd, Int.reduceNeg, Int.reduceSub, Int.reduceLT, Int.reduceLE, Int.reduceMul, Int.reduceEq, List.drop_zero, List.drop_succ_cons, ne_eq, not_false_eq_true, not_true_eq_false, false_and, and_false, false_implies, true_implies, reduceIte, mmU_rd, implies_true, or_false, false_or, or_true, true_or]
      rw [e0, e2, e64, hlb]
      have ht : (drN x (n + 1)).tdiv 65536 = drN x (n + 1) / 65536 := Int.tdiv_eq_ediv_of_nonneg hd1.1
      rw [ht]
      have hm0 := Int.emod_nonneg (drN x (n + 1) / 65536) (b := r 6 5 - r 6 4 + 1) (by omega)
      have hm1 := Int.emod_lt_of_pos (drN x (n + 1) / 65536) (b := r 6 5 - r 6 4 + 1) (by omega)
      have hdA : drA r L x n = L 2 n + r 6 4 + drN x (n + 1) / 65536 % (r 6 5 - r 6 4 + 1) := rfl
      rw [← hdA]
      generalize drN x (n + 1) / 65536 % (r 6 5 - r 6 4 + 1) = z at *
      refine ⟨fun c => by omega, fun _ => ⟨by omega, by omega, by omega, by omega, by omega, by omega, by omega, by omega, by omega, by omega, by omega, by omega, by omega, ih (n + 1) _ (by omega) (fun t i k c => ?_) (fun l l0 l1 => ?_)⟩⟩
      · unfold mmU; rw [if_neg (fun q => c ⟨q.1, q.2.1⟩)]; exact hf t i k c
      · unfold mmU
        by_cases cl : l = n
        · rw [if_pos ⟨rfl, rfl, cl⟩, cl]
        · rw [if_neg (fun q => cl q.2.2)]; exact hA l l0 (by omega)
  refine mmC_in (by decide) (Nat.le_of_ble_eq_true rfl) (mmC_step ?_)
  simp only [show mmMl 135 = 6 from rfl, mmLs, List.replicate, cd_135, sg_135_0, sg_135_18, sg_135_20, sg_135_56, mmK_cut cd_135, q_cons, q_G0, q_GS, q_I1, q_L1, q_A1, q_S0, q_S1, q_SS, q_T0, q_T1, q_TS, q_Kn, q_Ki, q_Kl, q_Kr, q_k0, q_kS, q_rc, q_ps, q_pn, q_iload1, q_i2l, q_lstore2, q_aload0, q_getfieldA, q_getfieldI, q_isub, q_iconst, q_iadd, q_istore, q_iload, q_icmp_ge, q_ireturn0, q_lload2, q_ldc2_w, q_lmul, q_ladd, q_land, q_iaload, q_ldiv, q_lrem, q_l2i, q_iastore, q_iinc, q_goto, rf_10_2, rf_10_4, rf_10_9, rf_3_2, mmKe_1109, mmKe_402, mmKo_10, mmKo_3, mmKo_6, mmLen_1109, mmLen_402, mmR32, mmR64, Option.some.injEq, Int.cast_ofNat_Int, and_true, true_and, if_true, if_false, List.length_cons, List.length_nil, Nat.le_refl, Nat.zero_le, Nat.sub_zero, forall_const, reduceCtorEq, Nat.reduceAdd, Nat.reduceSub, Nat.reduceLeDiff, Nat.reduceEqDiff, Int.reduceAdd, Int.reduceNeg, Int.reduceSub, Int.reduceLT, Int.reduceLE, Int.reduceMul, Int.reduceEq, List.drop_zero, List.drop_succ_cons, ne_eq, not_false_eq_true, not_true_eq_false, false_and, and_false, false_implies, true_implies, reduceIte, mmU_rd, implies_true, or_false, false_or, or_true, true_or]
  rw [hC 6 4 rt6, hC 6 5 rt6]
  refine ⟨by omega, by omega, fun _ => ?_, fun c => by omega⟩
  refine mmC_step ?_
  simp only [cd_135, sg_135_0, sg_135_18, sg_135_20, sg_135_56, mmK_cut cd_135, q_cons, q_G0, q_GS, q_I1, q_L1, q_A1, q_S0, q_S1, q_SS, q_T0, q_T1, q_TS, q_Kn, q_Ki, q_Kl, q_Kr, q_k0, q_kS, q_rc, q_ps, q_pn, q_iload1, q_i2l, q_lstore2, q_aload0, q_getfieldA, q_getfieldI, q_isub, q_iconst, q_iadd, q_istore, q_iload, q_icmp_ge, q_ireturn0, q_lload2, q_ldc2_w, q_lmul, q_ladd, q_land, q_iaload, q_ldiv, q_lrem, q_l2i, q_iastore, q_iinc, q_goto, rf_10_2, rf_10_4, rf_10_9, rf_3_2, mmKe_1109, mmKe_402, mmKo_10, mmKo_3, mmKo_6, mmLen_1109, mmLen_402, mmR32, mmR64, Option.some.injEq, Int.cast_ofNat_Int, and_true, true_and, if_true, if_false, List.length_cons, List.length_nil, Nat.le_refl, Nat.zero_le, Nat.sub_zero, forall_const, reduceCtorEq, Nat.reduceAdd, Nat.reduceSub, Nat.reduceLeDiff, Nat.reduceEqDiff, Int.reduceAdd, Int.reduceNeg, Int.reduceSub, Int.reduceLT, Int.reduceLE, Int.reduceMul, Int.reduceEq, List.drop_zero, List.drop_succ_cons, ne_eq, not_false_eq_true, not_true_eq_false, false_and, and_false, false_implies, true_implies, reduceIte, mmU_rd, implies_true, or_false, false_or, or_true, true_or]
  exact key (L 0 0).toNat 0 I (by omega) (fun _ _ _ _ => rfl) (fun l l0 l1 => by omega)
/-- whether two rows have the same moves -/
def sameM (r : mRu) (L : Nat → Int → Int) (T T' : List Int) : Prop := rNN r L T = rNN r L T' ∧ ∀ i, 0 ≤ i → i < rNN r L T → rV r L T i = rV r L T' i
theorem c_hasMovesOf {j j' : Nat} {T T' : List Int} (hN : I 0 j 4 = rNN r L T) (hN' : I 0 j' 4 = rNN r L T') (hV : ∀ i, 0 ≤ i → i < rNN r L T → I 603 j i = rV r L T i) (hV' : ∀ i, 0 ≤ i → i < rNN r L T' → I 603 j' i = rV r L T' i) (hQ : Q (some (mv (bI (sameM r L T T')))) (I, mmRf a br, X)) : mmC (d + 1) 71 [mo 5 j, mo 5 j'] (I, mmRf a br, X) Q := by
  have h60 := (rNN_in (r := r) (L := L) (T := T)).1
  refine mmC_in (by decide) (Nat.le_of_ble_eq_true rfl) (mmC_step ?_)
  simp only [show mmMl 71 = 3 from rfl, mmLs, List.replicate, cd_71, sg_71_0, sg_71_9, sg_71_11, sg_71_27, sg_71_29, mmK_cut cd_71, q_cons, q_G0, q_GS, q_I1, q_L1, q_A1, q_S0, q_S1, q_SS, q_T0, q_T1, q_TS, q_Kn, q_Ki, q_Kl, q_Kr, q_k0, q_kS, q_rc, q_ps, q_pn, q_aload0, q_getfieldA, q_getfieldI, q_aload1, q_icmp_eq, q_iconst, q_ireturn1, q_istore2, q_iload2, q_icmp_ge, q_iaload, q_iinc, q_goto, rf_5_2, rf_5_3, mmKe_603, mmKo_0, mmKo_5, mmLen_603, mmR32, mmR64, Option.some.injEq, Int.cast_ofNat_Int, and_true, true_and, if_true, if_false, List.length_cons, List.length_nil, Nat.le_refl, Nat.zero_le, Nat.sub_zero, forall_const, reduceCtorEq, Nat.reduceAdd, Nat.reduceSub, Nat.reduceLeDiff, Nat.reduceEqDiff, Int.reduceAdd, Int.reduceNeg, Int.reduceSub, Int.reduceLT, Int.reduceLE, Int.reduceMul, Int.reduceEq, List.drop_zero, List.drop_succ_cons, ne_eq, not_false_eq_true, not_true_eq_false, false_and, and_false, false_implies, true_implies, reduceIte, mmU_rd, implies_true, or_false, false_or, or_true, true_or]
  rw [hN, hN']
  refine ⟨fun c => ?_, fun c => ?_⟩
  · have key : ∀ (q : Nat) (n : Int), 0 ≤ n → n + q = rNN r L T → (∀ i, 0 ≤ i → i < n → rV r L T i = rV r L T' i) → mmK d 71 Q 11 [some (mo 5 j), some (mo 5 j'), some (mv n)] [] (I, mmRf a br, X) := by
      intro q
      induction q with
      | zero =>
        intro n n0 hn hs
        refine mmC_step ?_
        simp only [cd_71, sg_71_0, sg_71_9, sg_71_11, sg_71_27, sg_71_29, mmK_cut cd_71, q_cons, q_G0, q_GS, q_I1, q_L1, q_A1, q_S0, q_S1, q_SS, q_T0, q_T1, q_TS, q_Kn, q_Ki, q_Kl, q_Kr, q_k0, q_kS, q_rc, q_ps, q_pn, q_aload0, q_getfieldA, q_getfieldI, q_aload1, q_icmp_eq, q_iconst, q_ireturn1, q_istore2, q_iload2, q_icmp_ge, q_iaload, q_iinc, q_goto, rf_5_2, rf_5_3, mmKe_603, mmKo_0, mmKo_5, mmLen_603, mmR32, mmR64, Option.some.injEq, Int.cast_ofNat_Int, and_true, true_and, if_true, if_false, List.length_cons, List.length_nil, Nat.le_refl, Nat.zero_le, Nat.sub_zero, forall_const, reduceCtorEq, Nat.reduceAdd, Nat.reduceSub, Nat.reduceLeDiff, Nat.reduceEqDiff, Int.reduceAdd, Int.reduceNeg, Int.reduceSub, Int.reduceLT, Int.reduceLE, Int.reduceMul, Int.reduceEq, List.drop_zero, List.drop_succ_cons, ne_eq, not_false_eq_true, not_true_eq_false, false_and, and_false, false_implies, true_implies, reduceIte, mmU_rd, implies_true, or_false, false_or, or_true, true_or]
        rw [hN]
        refine ⟨fun _ => ?_, fun c => by omega⟩
        refine mmC_step ?_
        simp only [cd_71, sg_71_0, sg_71_9, sg_71_11, sg_71_27, sg_71_29, mmK_cut cd_71, q_cons, q_G0, q_GS, q_I1, q_L1, q_A1, q_S0, q_S1, q_SS, q_T0, q_T1, q_TS, q_Kn, q_Ki, q_Kl, q_Kr, q_k0, q_kS, q_rc, q_ps, q_pn, q_aload0, q_getfieldA, q_getfieldI, q_aload1, q_icmp_eq, q_iconst, q_ireturn1, q_istore2, q_iload2, q_icmp_ge, q_iaload, q_iinc, q_goto, rf_5_2, rf_5_3, mmKe_603, mmKo_0, mmKo_5, mmLen_603, mmR32, mmR64, Option.some.injEq, Int.cast_ofNat_Int, and_true, true_and, if_true, if_false, List.length_cons, List.length_nil, Nat.le_refl, Nat.zero_le, Nat.sub_zero, forall_const, reduceCtorEq, Nat.reduceAdd, Nat.reduceSub, Nat.reduceLeDiff, Nat.reduceEqDiff, Int.reduceAdd, Int.reduceNeg, Int.reduceSub, Int.reduceLT, Int.reduceLE, Int.reduceMul, Int.reduceEq, List.drop_zero, List.drop_succ_cons, ne_eq, not_false_eq_true, not_true_eq_false, false_and, and_false, false_implies, true_implies, reduceIte, mmU_rd, implies_true, or_false, false_or, or_true, true_or]
        exact q_b1 hQ ⟨c, fun i i0 i1 => hs i i0 (by omega)⟩
      | succ q ih =>
        intro n n0 hn hs
        refine mmC_step ?_
        simp only [cd_71, sg_71_0, sg_71_9, sg_71_11, sg_71_27, sg_71_29, mmK_cut cd_71, q_cons, q_G0, q_GS, q_I1, q_L1, q_A1, q_S0, q_S1, q_SS, q_T0, q_T1, q_TS, q_Kn, q_Ki, q_Kl, q_Kr, q_k0, q_kS, q_rc, q_ps, q_pn, q_aload0, q_getfieldA, q_getfieldI, q_aload1, q_icmp_eq, q_iconst, q_ireturn1, q_istore2, q_iload2, q_icmp_ge, q_iaload, q_iinc, q_goto, rf_5_2, rf_5_3, mmKe_603, mmKo_0, mmKo_5, mmLen_603, mmR32, mmR64, Option.some.injEq, Int.cast_ofNat_Int, and_true, true_and, if_true, if_false, List.length_cons, List.length_nil, Nat.le_refl, Nat.zero_le, Nat.sub_zero, forall_const, reduceCtorEq, Nat.reduceAdd, Nat.reduceSub, Nat.reduceLeDiff, Nat.reduceEqDiff, Int.reduceAdd, Int.reduceNeg, Int.reduceSub, Int.reduceLT, Int.reduceLE, Int.reduceMul, Int.reduceEq, List.drop_zero, List.drop_succ_cons, ne_eq, not_false_eq_true, not_true_eq_false, false_and, and_false, false_implies, true_implies, reduceIte, mmU_rd, implies_true, or_false, false_or, or_true, true_or]
        rw [hN, hV n n0 (by omega), hV' n n0 (by omega)]
        refine ⟨fun c => by omega, fun _ => ⟨by omega, by omega, by omega, by omega, fun ce => ?_, fun ce => ?_⟩⟩
        · refine mmC_step ?_
          simp only [cd_71, sg_71_0, sg_71_9, sg_71_11, sg_71_27, sg_71_29, mmK_cut cd_71, q_cons, q_G0, q_GS, q_I1, q_L1, q_A1, q_S0, q_S1, q_SS, q_T0, q_T1, q_TS, q_Kn, q_Ki, q_Kl, q_Kr, q_k0, q_kS, q_rc, q_ps, q_pn, q_aload0, q_getfieldA, q_getfieldI, q_aload1, q_icmp_eq, q_iconst, q_ireturn1, q_istore2, q_iload2, q_icmp_ge, q_iaload, q_iinc, q_goto, rf_5_2, rf_5_3, mmKe_603, mmKo_0, mmKo_5, mmLen_603, mmR32, mmR64, Option.some.injEq, Int.cast_ofNat_Int, and_true, true_and, if_true, if_false, List.length_cons, List.length_nil, Nat.le_refl, Nat.zero_le, Nat.sub_zero, forall_const, reduceCtorEq, Nat.reduceAdd, Nat.reduceSub, Nat.reduceLeDiff, Nat.reduceEqDiff, Int.reduceAdd, Int.reduceNeg, Int.reduceSub, Int.reduceLT, Int.reduceLE, Int.reduceMul, Int.reduceEq, List.drop_zero, List.drop_succ_cons, ne_eq, not_false_eq_true, not_true_eq_false, false_and, and_false, false_implies, true_implies, reduceIte, mmU_rd, implies_true, or_false, false_or, or_true, true_or]
          refine ⟨by omega, ih (n + 1) (by omega) (by omega) (fun i i0 i1 => ?_)⟩
          by_cases ci : i = n
          · rw [ci]; exact ce
          · exact hs i i0 (by omega)
        · exact q_b0 hQ (fun q => ce (q.2 n n0 (by omega)))
    refine mmC_step ?_
    simp only [cd_71, sg_71_0, sg_71_9, sg_71_11, sg_71_27, sg_71_29, mmK_cut cd_71, q_cons, q_G0, q_GS, q_I1, q_L1, q_A1, q_S0, q_S1, q_SS, q_T0, q_T1, q_TS, q_Kn, q_Ki, q_Kl, q_Kr, q_k0, q_kS, q_rc, q_ps, q_pn, q_aload0, q_getfieldA, q_getfieldI, q_aload1, q_icmp_eq, q_iconst, q_ireturn1, q_istore2, q_iload2, q_icmp_ge, q_iaload, q_iinc, q_goto, rf_5_2, rf_5_3, mmKe_603, mmKo_0, mmKo_5, mmLen_603, mmR32, mmR64, Option.some.injEq, Int.cast_ofNat_Int, and_true, true_and, if_true, if_false, List.length_cons, List.length_nil, Nat.le_refl, Nat.zero_le, Nat.sub_zero, forall_const, reduceCtorEq, Nat.reduceAdd, Nat.reduceSub, Nat.reduceLeDiff, Nat.reduceEqDiff, Int.reduceAdd, Int.reduceNeg, Int.reduceSub, Int.reduceLT, Int.reduceLE, Int.reduceMul, Int.reduceEq, List.drop_zero, List.drop_succ_cons, ne_eq, not_false_eq_true, not_true_eq_false, false_and, and_false, false_implies, true_implies, reduceIte, mmU_rd, implies_true, or_false, false_or, or_true, true_or]
    exact key (rNN r L T).toNat 0 (by omega) (by omega) (fun i i0 i1 => by omega)
  · exact q_b0 hQ (fun q => c q.1)
end S855
