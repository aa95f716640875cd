/-- what lot may change while it draws -/
def FrZ (L : Nat → Int → Int) (I I' : mMm) : Prop := ∀ t i k, ¬ (t = 11 ∧ (k = 2 ∨ k = 58 ∨ k = 63 ∨ k = 64)) → ¬ (1256 ≤ t ∧ t ≤ 1267) → ¬ (1279 ≤ t ∧ t ≤ 1281) → ¬ (t = 1272 ∧ i = 0 ∧ 0 ≤ k ∧ k < L 0 0) → I' t i k = I t i k
def LZ (I I1 : mMm) (r : mRu) (L : Nat → Int → Int) (w : Int) : Prop := FrZ L I I1 ∧ (∀ l, 0 ≤ l → l < L 0 0 → I1 1280 0 l = I 1272 0 l) ∧ (∀ k, 0 ≤ k → k < vN r L w → I1 1281 0 k = rV r L (vT r L w) k)
section S867
variable {d a : Nat} {I I1 I' I'' : mMm} {br br' : Nat → Option mmO} {R : Nat → Nat → Int → Option mmO} {X : mmX} {L : Nat → Int → Int} {r : mRu} {Ar : Int → Int} {l w k v p n q x : Int} {T : List Int} {Q : Option mmV → mmM → Prop}
theorem FrZ_trans (h : FrZ L I I') (h' : FrZ L I' I'') : FrZ L I I'' := fun t i k c1 c2 c3 c4 => (h' t i k c1 c2 c3 c4).trans (h t i k c1 c2 c3 c4)
theorem FrZ_N (h : FrNq I I') : FrZ L I I' := fun t i k c1 c2 c3 c4 => h t i k c1 c2 c3
theorem RK_Z (h : RK r I) (hf : FrZ L I I') : RK r I' := RK_ext h (fun k hk => hf _ _ _ (by omega) (by omega) (by omega) (by omega)) (fun t k h1 h2 => hf _ _ _ (by omega) (by omega) (by omega) (by omega))
theorem ME_Z (h : ME I L (L 3)) (hf : FrZ L I I') (hA : ∀ l, 0 ≤ l → l < L 0 0 → I' 1272 0 l = Ar l) : ME I' L Ar := by
  have e : ∀ t k, (t = 1270 ∨ t = 1271 ∨ (1273 ≤ t ∧ t ≤ 1276)) ∨ (t = 11 ∧ (k = 68 ∨ k = 60)) → I' t 0 k = I t 0 k := fun t k ht => hf _ _ _ (by omega) (by omega) (by omega) (by omega)
  obtain ⟨h1, h2, h3, h4⟩ := h
  refine ⟨(e _ _ (by omega)).trans h1, (e _ _ (by omega)).trans h2, fun l l0 l1 => ?_, fun l k l0 l1 k0 k1 => ?_⟩
  · rw [e _ _ (by omega), e _ _ (by omega), e 1274 _ (by omega), e 1275 _ (by omega), hA l l0 l1]
    have := h3 l l0 l1
    exact ⟨this.1, this.2.1, rfl, this.2.2.2.1, this.2.2.2.2⟩
  · rw [e _ _ (by omega), e _ _ (by omega), e _ _ (by omega)]
    exact h4 l k l0 l1 k0 k1
theorem LZ_L (h : LZ I I1 r L w) (hf : FrLy I1 I') : LZ I I' r L w := ⟨FrZ_trans h.1 (FrZ_N (FrNq_L hf)), fun l l0 l1 => (hf _ _ _ (by omega) (by omega) (by omega)).trans (h.2.1 l l0 l1), fun k k0 k1 => (hf _ _ _ (by omega) (by omega) (by omega)).trans (h.2.2 k k0 k1)⟩
theorem LZ_A (h : LZ I I1 r L w) (hl : 0 ≤ l ∧ l < L 0 0) : LZ I (mmU I1 1272 0 l v) r L w := by
  refine ⟨fun t i k c1 c2 c3 c4 => ?_, fun l' l0 l1 => ?_, fun k k0 k1 => ?_⟩
  · unfold mmU
    rw [if_neg (fun q => c4 ⟨q.1, q.2.1, by rw [q.2.2]; exact hl⟩)]
    exact h.1 t i k c1 c2 c3 c4
  · unfold mmU; rw [if_neg (by omega)]; exact h.2.1 l' l0 l1
  · unfold mmU; rw [if_neg (by omega)]; exact h.2.2 k k0 k1
/-- drawing the arrivals -/
theorem m_lotD {l1 l2 l3 l4 l7 l8 : Option mmV} (hI : MI I r L) (hx : 0 ≤ x ∧ x < 2147483648) {acc dd : Int} (hl8 : l8 = some (mv dd)) (hl7 : l7 = some (mv acc)) (cont : ∀ I2 l10, LZ I I2 r L w → (∀ l, 0 ≤ l → l < L 0 0 → I2 1272 0 l = drA r L x l) → ∀ l9, mmK (d + 10) 251 Q 104 [some (mo 11 0), l1, l2, l3, l4, some (ml (drN x (L 0 0).toNat)), none, l7, l8, l9, l10] [] (I2, mmRf a br, X)) (hl4 : mmKl l4 = l4) :
    ∀ (q n : Nat) (I1 : mMm) (l10 : Option mmV), (n : Int) + q = L 0 0 → LZ I I1 r L w → (∀ l : Int, 0 ≤ l → l < n → I1 1272 0 l = drA r L x l) → mmK (d + 10) 251 Q 65 [some (mo 11 0), l1, l2, l3, l4, some (ml (drN x n)), none, l7, l8, some (mv n), l10] [] (I1, mmRf a br, X) := by
  subst hl7 hl8
  have hW := hI.2.2.2
  have h16 := hW.1
  have hw := hI.1.2.2
  have w4 := hw.2.2.2.2.1
  have w5 := hw.2.2.2.2.2.1
  intro q
  induction q with
  | zero =>
    intro n I1 l10 hn hZ hA
    have e0 : I1 11 0 68 = L 0 0 := (hZ.1 _ _ _ (by omega) (by omega) (by omega) (by omega)).trans hI.2.2.1.1
    refine mmC_step ?_
    simp only [cd_251, sg_251_0, sg_251_13, sg_251_15, sg_251_23, sg_251_37, sg_251_39, sg_251_53, sg_251_60, sg_251_65, sg_251_104, sg_251_113, sg_251_114, sg_251_117, sg_251_134, sg_251_135, sg_251_138, sg_251_143, sg_251_144, sg_251_148, sg_251_150, sg_251_164, mmK_cut cd_251, q_cons, q_G0, q_GS, q_I1, q_L1, q_A1, q_S0, q_S1, q_SS, q_T0, q_T1, q_TS, q_Kn, q_Ki, q_Kl, q_Kr, q_k0, q_kS, q_rc, q_ps, q_pn, q_aload0, q_iconst, q_putfieldI, q_iload1, q_if_eq, q_iload2, q_if_lt, q_iload3, q_bipush, q_if_ne, q_ireturn0, q_getfieldI, q_istore, q_iload, q_icmp_ge, q_getfieldA, q_iaload, q_iastore, q_iinc, q_goto, q_i2l, q_lstore, q_lload, q_ldc2_w, q_lmul, q_ladd, q_land, q_iadd, q_ldiv, q_isub, q_lrem, q_l2i, q_icmp_ne, rf_11_65, rf_11_71, rf_11_72, rf_11_80, rf_11_81, mmKe_1265, mmKe_1271, mmKe_1272, mmKe_1280, mmKe_1281, mmKo_11, mmLen_1265, mmLen_1271, mmLen_1272, mmLen_1280, mmLen_1281, mmR32, mmR64, Option.some.injEq, Int.cast_ofNat_Int, and_true, true_and, if_true, if_false, List.length_cons, List.length_nil, Nat.le_refl, Nat.zero_le, Nat.sub_zero, forall_const, reduceCtorEq, Nat.reduceAdd, Nat.reduceSub, Nat.reduceLeDiff, Nat.reduceEqDiff, Int.reduceAdd, Int.reduceNeg, Int.reduceSub, Int.reduceLT, Int.reduceLE, Int.reduceMul, Int.reduceEq, List.drop_zero, List.drop_succ_cons, ne_eq, not_false_eq_true, not_true_eq_false, false_and, and_false, false_implies, true_implies, reduceIte, mmU_rd, implies_true, or_false, false_or, or_true, true_or]
    rw [e0]
    refine ⟨fun _ => ?_, fun c => by omega⟩
    have en : (L 0 0).toNat = n := by omega
    rw [en] at cont
    exact cont I1 _ hZ (fun l l0 l1 => hA l l0 (by omega)) _
  | succ q ih =>
    intro n I1 l10 hn hZ hA
    have e0 : I1 11 0 68 = L 0 0 := (hZ.1 _ _ _ (by omega) (by omega) (by omega) (by omega)).trans hI.2.2.1.1
    have e2 : I1 1271 0 n = L 2 n := (hZ.1 _ _ _ (by omega) (by omega) (by omega) (by omega)).trans (hI.2.2.1.2.2.1 n (by omega) (by omega)).2.1
    have hRK := RK_Z hI.1 hZ.1
    have e17 : I1 11 0 17 = r 6 4 := hRK.1.1.2.2.2.2.1
    have e18 : I1 11 0 18 = r 6 5 := hRK.1.1.2.2.2.2.2.1
    have hl2 := (hW.2.2.2.1 n (by omega) (by omega)).2.1
    have hd := drN_in hx n
    have hd1 := drN_in hx (n + 1)
    have hlb : mmLand (drN x n * 1103515245 + 12345) 2147483647 = drN x (n + 1) := land_31 (x := drN x n * 1103515245 + 12345) (by omega) (by omega)
    refine mmC_step ?_
    simp only [cd_251, sg_251_0, sg_251_13, sg_251_15, sg_251_23, sg_251_37, sg_251_39, sg_251_53, sg_251_60, sg_251_65, sg_251_104, sg_251_113, sg_251_114, sg_251_117, sg_251_134, sg_251_135, sg_251_138, sg_251_143, sg_251_144, sg_251_148, sg_251_150, sg_251_164, mmK_cut cd_251, q_cons, q_G0, q_GS, q_I1, q_L1, q_A1, q_S0, q_S1, q_SS, q_T0, q_T1, q_TS, q_Kn, q_Ki, q_Kl, q_Kr, q_k0, q_kS, q_rc, q_ps, q_pn, q_aload0, q_iconst, q_putfieldI, q_iload1, q_if_eq, q_iload2, q_if_lt, q_iload3, q_bipush, q_if_ne, q_ireturn0, q_getfieldI, q_istore, q_iload, q_icmp_ge, q_getfieldA, q_iaload, q_iastore, q_iinc, q_goto, q_i2l, q_lstore, q_lload, q_ldc2_w, q_lmul, q_ladd, q_land, q_iadd, q_ldiv, q_isub, q_lrem, q_l2i, q_icmp_ne, rf_11_65, rf_11_71, rf_11_72, rf_11_80, rf_11_81, mmKe_1265, mmKe_1271, mmKe_1272, mmKe_1280, mmKe_1281, mmKo_11, mmLen_1265, mmLen_1271, mmLen_1272, mmLen_1280, mmLen_1281, mmR32, mmR64, Option.some.injEq, Int.cast_ofNat_Int, and_true, true_and, if_true, if_false, List.length_cons, List.length_nil, Nat.le_refl, Nat.zero_le, Nat.sub_zero, forall_const, reduceCtorEq, Nat.reduceAdd, Nat.reduceSub, Nat.reduceLeDiff, Nat.reduceEqDiff, Int.reduceAdd, Int.reduceNeg, Int.reduceSub, Int.reduceLT, Int.reduceLE, Int.reduceMul, Int.reduceEq, List.drop_zero, List.drop_succ_cons, ne_eq, not_false_eq_true, not_true_eq_false, false_and, and_false, false_implies, true_implies, reduceIte, mmU_rd, implies_true, or_false, false_or, or_true, true_or, hl4]
    rw [e0, e2, e17, e18, hlb]
    have ht : (drN x (n + 1)).tdiv 65536 = drN x (n + 1) / 65536 := Int.tdiv_eq_ediv_of_nonneg hd1.1
    rw [ht]
    have hm0 := Int.emod_nonneg (drN x (n + 1) / 65536) (b := r 6 5 - r 6 4 + 1) (by omega)
    have hm1 := Int.emod_lt_of_pos (drN x (n + 1) / 65536) (b := r 6 5 - r 6 4 + 1) (by omega)
    have hdA : drA r L x n = L 2 n + r 6 4 + drN x (n + 1) / 65536 % (r 6 5 - r 6 4 + 1) := rfl
    rw [← hdA]
    generalize drN x (n + 1) / 65536 % (r 6 5 - r 6 4 + 1) = z at *
    refine ⟨fun c => by omega, fun _ => ⟨by omega, by omega, by omega, by omega, by omega, by omega, by omega, by omega, by omega, by omega, by omega, by omega, by omega, by omega, by omega, ih (n + 1) _ _ (by omega) (LZ_A hZ ⟨by omega, by omega⟩) (fun l l0 l1 => ?_)⟩⟩
    unfold mmU
    by_cases cl : l = n
    · rw [if_pos ⟨rfl, rfl, cl⟩, cl]
    · rw [if_neg (fun q => cl q.2.2)]; exact hA l l0 (by omega)
/-- whether the moves agree up to k -/
def eqM (r : mRu) (L : Nat → Int → Int) (T T' : List Int) (k : Int) : Prop := rNN r L T = rNN r L T' ∧ ∀ i, 0 ≤ i → i < k → rV r L T i = rV r L T' i
theorem m_lotC {l1 l2 l3 l4 l5 l6 l7 : Option mmV} {dd : Int} (hw0 : isW w) (hMR : MRow I1 r L T (rNN r L T)) (hH : ∀ k, 0 ≤ k → k < vN r L w → I1 1281 0 k = rV r L (vT r L w) k)
    (cont : ∀ l10, mmK (d + 10) 251 Q 138 [some (mo 11 0), l1, l2, l3, l4, l5, l6, l7, some (mv dd), some (mv (bI (sameM r L T (vT r L w)))), l10] [] (I1, mmRf a br, X)) :
    ∀ (q : Nat) (k : Int), 0 ≤ k → k + q = rNN r L T → mmK (d + 10) 251 Q 117 [some (mo 11 0), l1, l2, l3, l4, l5, l6, l7, some (mv dd), some (mv (bI (eqM r L T (vT r L w) k))), some (mv k)] [] (I1, mmRf a br, X) := by
  have h60 := (rNN_in (r := r) (L := L) (T := T)).1
  intro q
  induction q with
  | zero =>
    intro k k0 k1
    have e : bI (eqM r L T (vT r L w) k) = bI (sameM r L T (vT r L w)) := by
      have : k = rNN r L T := by omega
      rw [this]; rfl
    refine mmC_step ?_
    simp only [cd_251, sg_251_0, sg_251_13, sg_251_15, sg_251_23, sg_251_37, sg_251_39, sg_251_53, sg_251_60, sg_251_65, sg_251_104, sg_251_113, sg_251_114, sg_251_117, sg_251_134, sg_251_135, sg_251_138, sg_251_143, sg_251_144, sg_251_148, sg_251_150, sg_251_164, mmK_cut cd_251, q_cons, q_G0, q_GS, q_I1, q_L1, q_A1, q_S0, q_S1, q_SS, q_T0, q_T1, q_TS, q_Kn, q_Ki, q_Kl, q_Kr, q_k0, q_kS, q_rc, q_ps, q_pn, q_aload0, q_iconst, q_putfieldI, q_iload1, q_if_eq, q_iload2, q_if_lt, q_iload3, q_bipush, q_if_ne, q_ireturn0, q_getfieldI, q_istore, q_iload, q_icmp_ge, q_getfieldA, q_iaload, q_iastore, q_iinc, q_goto, q_i2l, q_lstore, q_lload, q_ldc2_w, q_lmul, q_ladd, q_land, q_iadd, q_ldiv, q_isub, q_lrem, q_l2i, q_icmp_ne, rf_11_65, rf_11_71, rf_11_72, rf_11_80, rf_11_81, mmKe_1265, mmKe_1271, mmKe_1272, mmKe_1280, mmKe_1281, mmKo_11, mmLen_1265, mmLen_1271, mmLen_1272, mmLen_1280, mmLen_1281, mmR32, mmR64, Option.some.injEq, Int.cast_ofNat_Int, and_true, true_and, if_true, if_false, List.length_cons, List.length_nil, Nat.le_refl, Nat.zero_le, Nat.sub_zero, forall_const, reduceCtorEq, Nat.reduceAdd, Nat.reduceSub, Nat.reduceLeDiff, Nat.reduceEqDiff, Int.reduceAdd, Int.reduceNeg, Int.reduceSub, Int.reduceLT, Int.reduceLE, Int.reduceMul, Int.reduceEq, List.drop_zero, List.drop_succ_cons, ne_eq, not_false_eq_true, not_true_eq_false, false_and, and_false, false_implies, true_implies, reduceIte, mmU_rd, implies_true, or_false, false_or, or_true, true_or]
    rw [hMR.1, e]
    exact ⟨fun _ => cont _, fun c => by omega⟩
  | succ q ih =>
    intro k k0 k1
    have w135 : ∀ s : Int, s = bI (eqM r L T (vT r L w) (k + 1)) → mmK (d + 10) 251 Q 135 [some (mo 11 0), l1, l2, l3, l4, l5, l6, l7, some (mv dd), some (mv (bI (eqM r L T (vT r L w) k))), some (mv k)] [mv s] (I1, mmRf a br, X) := by
      intro s hs
      rw [hs]
      refine mmC_step ?_
      simp only [cd_251, sg_251_0, sg_251_13, sg_251_15, sg_251_23, sg_251_37, sg_251_39, sg_251_53, sg_251_60, sg_251_65, sg_251_104, sg_251_113, sg_251_114, sg_251_117, sg_251_134, sg_251_135, sg_251_138, sg_251_143, sg_251_144, sg_251_148, sg_251_150, sg_251_164, mmK_cut cd_251, q_cons, q_G0, q_GS, q_I1, q_L1, q_A1, q_S0, q_S1, q_SS, q_T0, q_T1, q_TS, q_Kn, q_Ki, q_Kl, q_Kr, q_k0, q_kS, q_rc, q_ps, q_pn, q_aload0, q_iconst, q_putfieldI, q_iload1, q_if_eq, q_iload2, q_if_lt, q_iload3, q_bipush, q_if_ne, q_ireturn0, q_getfieldI, q_istore, q_iload, q_icmp_ge, q_getfieldA, q_iaload, q_iastore, q_iinc, q_goto, q_i2l, q_lstore, q_lload, q_ldc2_w, q_lmul, q_ladd, q_land, q_iadd, q_ldiv, q_isub, q_lrem, q_l2i, q_icmp_ne, rf_11_65, rf_11_71, rf_11_72, rf_11_80, rf_11_81, mmKe_1265, mmKe_1271, mmKe_1272, mmKe_1280, mmKe_1281, mmKo_11, mmLen_1265, mmLen_1271, mmLen_1272, mmLen_1280, mmLen_1281, mmR32, mmR64, Option.some.injEq, Int.cast_ofNat_Int, and_true, true_and, if_true, if_false, List.length_cons, List.length_nil, Nat.le_refl, Nat.zero_le, Nat.sub_zero, forall_const, reduceCtorEq, Nat.reduceAdd, Nat.reduceSub, Nat.reduceLeDiff, Nat.reduceEqDiff, Int.reduceAdd, Int.reduceNeg, Int.reduceSub, Int.reduceLT, Int.reduceLE, Int.reduceMul, Int.reduceEq, List.drop_zero, List.drop_succ_cons, ne_eq, not_false_eq_true, not_true_eq_false, false_and, and_false, false_implies, true_implies, reduceIte, mmU_rd, implies_true, or_false, false_or, or_true, true_or]
      exact ⟨by omega, ih (k + 1) (by omega) (by omega)⟩
    refine mmC_step ?_
    simp only [cd_251, sg_251_0, sg_251_13, sg_251_15, sg_251_23, sg_251_37, sg_251_39, sg_251_53, sg_251_60, sg_251_65, sg_251_104, sg_251_113, sg_251_114, sg_251_117, sg_251_134, sg_251_135, sg_251_138, sg_251_143, sg_251_144, sg_251_148, sg_251_150, sg_251_164, mmK_cut cd_251, q_cons, q_G0, q_GS, q_I1, q_L1, q_A1, q_S0, q_S1, q_SS, q_T0, q_T1, q_TS, q_Kn, q_Ki, q_Kl, q_Kr, q_k0, q_kS, q_rc, q_ps, q_pn, q_aload0, q_iconst, q_putfieldI, q_iload1, q_if_eq, q_iload2, q_if_lt, q_iload3, q_bipush, q_if_ne, q_ireturn0, q_getfieldI, q_istore, q_iload, q_icmp_ge, q_getfieldA, q_iaload, q_iastore, q_iinc, q_goto, q_i2l, q_lstore, q_lload, q_ldc2_w, q_lmul, q_ladd, q_land, q_iadd, q_ldiv, q_isub, q_lrem, q_l2i, q_icmp_ne, rf_11_65, rf_11_71, rf_11_72, rf_11_80, rf_11_81, mmKe_1265, mmKe_1271, mmKe_1272, mmKe_1280, mmKe_1281, mmKo_11, mmLen_1265, mmLen_1271, mmLen_1272, mmLen_1280, mmLen_1281, mmR32, mmR64, Option.some.injEq, Int.cast_ofNat_Int, and_true, true_and, if_true, if_false, List.length_cons, List.length_nil, Nat.le_refl, Nat.zero_le, Nat.sub_zero, forall_const, reduceCtorEq, Nat.reduceAdd, Nat.reduceSub, Nat.reduceLeDiff, Nat.reduceEqDiff, Int.reduceAdd, Int.reduceNeg, Int.reduceSub, Int.reduceLT, Int.reduceLE, Int.reduceMul, Int.reduceEq, List.drop_zero, List.drop_succ_cons, ne_eq, not_false_eq_true, not_true_eq_false, false_and, and_false, false_implies, true_implies, reduceIte, mmU_rd, implies_true, or_false, false_or, or_true, true_or, bI_eq0]
    rw [hMR.1]
    refine ⟨fun c => by omega, fun _ => ⟨fun cs => ?_, fun cs => ?_⟩⟩
    · have e : bI (eqM r L T (vT r L w) k) = bI (sameM r L T (vT r L w)) := by
        rw [bI_neg cs, bI_neg (fun q => cs ⟨q.1, fun i i0 i1 => q.2 i i0 (by omega)⟩)]
      rw [e]
      exact cont _
    · have cs := Classical.not_not.mp cs
      have hk : k < vN r L w := by have := cs.1; unfold vN; omega
      rw [(hMR.2.2.2.1 k k0 (by omega)).1, hH k k0 hk]
      refine ⟨by omega, by omega, by omega, by omega, fun ce => ?_, fun ce => ?_⟩
      · refine mmC_step ?_
        simp only [cd_251, sg_251_0, sg_251_13, sg_251_15, sg_251_23, sg_251_37, sg_251_39, sg_251_53, sg_251_60, sg_251_65, sg_251_104, sg_251_113, sg_251_114, sg_251_117, sg_251_134, sg_251_135, sg_251_138, sg_251_143, sg_251_144, sg_251_148, sg_251_150, sg_251_164, mmK_cut cd_251, q_cons, q_G0, q_GS, q_I1, q_L1, q_A1, q_S0, q_S1, q_SS, q_T0, q_T1, q_TS, q_Kn, q_Ki, q_Kl, q_Kr, q_k0, q_kS, q_rc, q_ps, q_pn, q_aload0, q_iconst, q_putfieldI, q_iload1, q_if_eq, q_iload2, q_if_lt, q_iload3, q_bipush, q_if_ne, q_ireturn0, q_getfieldI, q_istore, q_iload, q_icmp_ge, q_getfieldA, q_iaload, q_iastore, q_iinc, q_goto, q_i2l, q_lstore, q_lload, q_ldc2_w, q_lmul, q_ladd, q_land, q_iadd, q_ldiv, q_isub, q_lrem, q_l2i, q_icmp_ne, rf_11_65, rf_11_71, rf_11_72, rf_11_80, rf_11_81, mmKe_1265, mmKe_1271, mmKe_1272, mmKe_1280, mmKe_1281, mmKo_11, mmLen_1265, mmLen_1271, mmLen_1272, mmLen_1280, mmLen_1281, mmR32, mmR64, Option.some.injEq, Int.cast_ofNat_Int, and_true, true_and, if_true, if_false, List.length_cons, List.length_nil, Nat.le_refl, Nat.zero_le, Nat.sub_zero, forall_const, reduceCtorEq, Nat.reduceAdd, Nat.reduceSub, Nat.reduceLeDiff, Nat.reduceEqDiff, Int.reduceAdd, Int.reduceNeg, Int.reduceSub, Int.reduceLT, Int.reduceLE, Int.reduceMul, Int.reduceEq, List.drop_zero, List.drop_succ_cons, ne_eq, not_false_eq_true, not_true_eq_false, false_and, and_false, false_implies, true_implies, reduceIte, mmU_rd, implies_true, or_false, false_or, or_true, true_or]
        exact w135 0 (by rw [bI_neg (fun q => ce (q.2 k k0 (by omega)))])
      · have he : eqM r L T (vT r L w) (k + 1) := ⟨cs.1, fun i i0 i1 => by
          by_cases ci : i = k
          · rw [ci]; exact ce
          · exact cs.2 i i0 (by omega)⟩
        exact w135 1 (by rw [bI_pos he])
/-- the days of arrival come back -/
theorem m_lotB {tot : Int} {l1 l2 l3 l4 l5 l6 l9 l10 : Option mmV} (hI : MI I r L) (hQ : bQ I a br X Q (mv tot)) :
    ∀ (q n : Nat) (I1 : mMm), (n : Int) + q = L 0 0 → LZ I I1 r L w → (∀ l : Int, 0 ≤ l → l < n → I1 1272 0 l = I 1272 0 l) → mmK (d + 10) 251 Q 150 [some (mo 11 0), l1, l2, l3, l4, l5, l6, some (mv tot), some (mv n), l9, l10] [] (I1, mmRf a br, X) := by
  have h16 := hI.2.2.2.1
  intro q
  induction q with
  | zero =>
    intro n I1 hn hZ hA
    have e0 : I1 11 0 68 = L 0 0 := (hZ.1 _ _ _ (by omega) (by omega) (by omega) (by omega)).trans hI.2.2.1.1
    refine mmC_step ?_
    simp only [cd_251, sg_251_0, sg_251_13, sg_251_15, sg_251_23, sg_251_37, sg_251_39, sg_251_53, sg_251_60, sg_251_65, sg_251_104, sg_251_113, sg_251_114, sg_251_117, sg_251_134, sg_251_135, sg_251_138, sg_251_143, sg_251_144, sg_251_148, sg_251_150, sg_251_164, mmK_cut cd_251, q_cons, q_G0, q_GS, q_I1, q_L1, q_A1, q_S0, q_S1, q_SS, q_T0, q_T1, q_TS, q_Kn, q_Ki, q_Kl, q_Kr, q_k0, q_kS, q_rc, q_ps, q_pn, q_aload0, q_iconst, q_putfieldI, q_iload1, q_if_eq, q_iload2, q_if_lt, q_iload3, q_bipush, q_if_ne, q_ireturn0, q_getfieldI, q_istore, q_iload, q_icmp_ge, q_getfieldA, q_iaload, q_iastore, q_iinc, q_goto, q_i2l, q_lstore, q_lload, q_ldc2_w, q_lmul, q_ladd, q_land, q_iadd, q_ldiv, q_isub, q_lrem, q_l2i, q_icmp_ne, rf_11_65, rf_11_71, rf_11_72, rf_11_80, rf_11_81, mmKe_1265, mmKe_1271, mmKe_1272, mmKe_1280, mmKe_1281, mmKo_11, mmLen_1265, mmLen_1271, mmLen_1272, mmLen_1280, mmLen_1281, mmR32, mmR64, Option.some.injEq, Int.cast_ofNat_Int, and_true, true_and, if_true, if_false, List.length_cons, List.length_nil, Nat.le_refl, Nat.zero_le, Nat.sub_zero, forall_const, reduceCtorEq, Nat.reduceAdd, Nat.reduceSub, Nat.reduceLeDiff, Nat.reduceEqDiff, Int.reduceAdd, Int.reduceNeg, Int.reduceSub, Int.reduceLT, Int.reduceLE, Int.reduceMul, Int.reduceEq, List.drop_zero, List.drop_succ_cons, ne_eq, not_false_eq_true, not_true_eq_false, false_and, and_false, false_implies, true_implies, reduceIte, mmU_rd, implies_true, or_false, false_or, or_true, true_or]
    rw [e0]
    refine ⟨fun _ => ?_, fun c => by omega⟩
    refine mmC_step ?_
    simp only [cd_251, sg_251_0, sg_251_13, sg_251_15, sg_251_23, sg_251_37, sg_251_39, sg_251_53, sg_251_60, sg_251_65, sg_251_104, sg_251_113, sg_251_114, sg_251_117, sg_251_134, sg_251_135, sg_251_138, sg_251_143, sg_251_144, sg_251_148, sg_251_150, sg_251_164, mmK_cut cd_251, q_cons, q_G0, q_GS, q_I1, q_L1, q_A1, q_S0, q_S1, q_SS, q_T0, q_T1, q_TS, q_Kn, q_Ki, q_Kl, q_Kr, q_k0, q_kS, q_rc, q_ps, q_pn, q_aload0, q_iconst, q_putfieldI, q_iload1, q_if_eq, q_iload2, q_if_lt, q_iload3, q_bipush, q_if_ne, q_ireturn0, q_getfieldI, q_istore, q_iload, q_icmp_ge, q_getfieldA, q_iaload, q_iastore, q_iinc, q_goto, q_i2l, q_lstore, q_lload, q_ldc2_w, q_lmul, q_ladd, q_land, q_iadd, q_ldiv, q_isub, q_lrem, q_l2i, q_icmp_ne, rf_11_65, rf_11_71, rf_11_72, rf_11_80, rf_11_81, mmKe_1265, mmKe_1271, mmKe_1272, mmKe_1280, mmKe_1281, mmKo_11, mmLen_1265, mmLen_1271, mmLen_1272, mmLen_1280, mmLen_1281, mmR32, mmR64, Option.some.injEq, Int.cast_ofNat_Int, and_true, true_and, if_true, if_false, List.length_cons, List.length_nil, Nat.le_refl, Nat.zero_le, Nat.sub_zero, forall_const, reduceCtorEq, Nat.reduceAdd, Nat.reduceSub, Nat.reduceLeDiff, Nat.reduceEqDiff, Int.reduceAdd, Int.reduceNeg, Int.reduceSub, Int.reduceLT, Int.reduceLE, Int.reduceMul, Int.reduceEq, List.drop_zero, List.drop_succ_cons, ne_eq, not_false_eq_true, not_true_eq_false, false_and, and_false, false_implies, true_implies, reduceIte, mmU_rd, implies_true, or_false, false_or, or_true, true_or]
    refine hQ I1 (fun t i k c1 c2 c3 => ?_)
    by_cases c4 : t = 1272 ∧ i = 0 ∧ 0 ≤ k ∧ k < L 0 0
    · obtain ⟨rfl, rfl, k0, k1⟩ := c4
      exact hA k k0 (by omega)
    · exact hZ.1 t i k c1 c2 c3 c4
  | succ q ih =>
    intro n I1 hn hZ hA
    have e0 : I1 11 0 68 = L 0 0 := (hZ.1 _ _ _ (by omega) (by omega) (by omega) (by omega)).trans hI.2.2.1.1
    refine mmC_step ?_
    simp only [cd_251, sg_251_0, sg_251_13, sg_251_15, sg_251_23, sg_251_37, sg_251_39, sg_251_53, sg_251_60, sg_251_65, sg_251_104, sg_251_113, sg_251_114, sg_251_117, sg_251_134, sg_251_135, sg_251_138, sg_251_143, sg_251_144, sg_251_148, sg_251_150, sg_251_164, mmK_cut cd_251, q_cons, q_G0, q_GS, q_I1, q_L1, q_A1, q_S0, q_S1, q_SS, q_T0, q_T1, q_TS, q_Kn, q_Ki, q_Kl, q_Kr, q_k0, q_kS, q_rc, q_ps, q_pn, q_aload0, q_iconst, q_putfieldI, q_iload1, q_if_eq, q_iload2, q_if_lt, q_iload3, q_bipush, q_if_ne, q_ireturn0, q_getfieldI, q_istore, q_iload, q_icmp_ge, q_getfieldA, q_iaload, q_iastore, q_iinc, q_goto, q_i2l, q_lstore, q_lload, q_ldc2_w, q_lmul, q_ladd, q_land, q_iadd, q_ldiv, q_isub, q_lrem, q_l2i, q_icmp_ne, rf_11_65, rf_11_71, rf_11_72, rf_11_80, rf_11_81, mmKe_1265, mmKe_1271, mmKe_1272, mmKe_1280, mmKe_1281, mmKo_11, mmLen_1265, mmLen_1271, mmLen_1272, mmLen_1280, mmLen_1281, mmR32, mmR64, Option.some.injEq, Int.cast_ofNat_Int, and_true, true_and, if_true, if_false, List.length_cons, List.length_nil, Nat.le_refl, Nat.zero_le, Nat.sub_zero, forall_const, reduceCtorEq, Nat.reduceAdd, Nat.reduceSub, Nat.reduceLeDiff, Nat.reduceEqDiff, Int.reduceAdd, Int.reduceNeg, Int.reduceSub, Int.reduceLT, Int.reduceLE, Int.reduceMul, Int.reduceEq, List.drop_zero, List.drop_succ_cons, ne_eq, not_false_eq_true, not_true_eq_false, false_and, and_false, false_implies, true_implies, reduceIte, mmU_rd, implies_true, or_false, false_or, or_true, true_or]
    rw [e0, hZ.2.1 n (by omega) (by omega)]
    refine ⟨fun c => by omega, fun _ => ⟨by omega, by omega, by omega, by omega, by omega, ih (n + 1) _ (by omega) (LZ_A hZ ⟨by omega, by omega⟩) (fun l l0 l1 => ?_)⟩⟩
    unfold mmU
    by_cases cl : l = n
    · rw [if_pos ⟨rfl, rfl, cl⟩, cl]
    · rw [if_neg (fun q => cl q.2.2)]; exact hA l l0 (by omega)
end S867
