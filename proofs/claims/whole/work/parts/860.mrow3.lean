section S860
variable {d a : Nat} {I I1 I' I'' : mMm} {br br' : Nat → Option mmO} {R : Nat → Nat → Int → Option mmO} {X : mmX} {L : Nat → Int → Int} {r : mRu} {Ar : Int → Int} {B : mBd} {m la l z w : Int} {T Ta : List Int} {c : Int × Int} {K : Int → Bool} {Q : Option mmV → mmM → Prop}
theorem MRow_W (h : MRow I r L T m) (hf : FrW I I') : MRow I' r L T m := by
  obtain ⟨h1, h2, h3, h4, h5, h6⟩ := h
  have e : ∀ t k, (1259 ≤ t ∧ t ≤ 1267) ∨ (t = 11 ∧ (k = 63 ∨ k = 64)) → I' t 0 k = I t 0 k := fun t k ht => hf _ _ _ (by omega) (by omega) (by omega)
  refine ⟨(e _ _ (by omega)).trans h1, (e _ _ (by omega)).trans h2, fun i i0 i1 => MB_W (h3 i i0 i1) hf, fun i i0 i1 => ?_, (e _ _ (by omega)).trans h5, fun n hn => (e _ _ (by omega)).trans (h6 n hn)⟩
  rw [e _ _ (by omega), e _ _ (by omega), e _ _ (by omega)]
  exact h4 i i0 i1
set_option maxHeartbeats 1000000 in
theorem m_rowL {l3 l4 : Option mmV} (hw : 0 ≤ w ∧ w < 4) (hR : RK r I) (hB0 : BW r (r 714)) (hM : ME I L Ar) (hW : LW L) (hT : T = Ta.filter (Kv L Ar w)) (hTa : ∀ e, e ∈ Ta → 0 ≤ e ∧ e < L 0 0) (hlen : (Ta.length : Int) = L 0 0) (hQ : ∀ I', FrLy I I' → MRow I' r L T (rNN r L T) → Q none (I', mmRf a br, X)) :
    ∀ (q : Nat) (m : Int) (I1 : mMm) (l3 l4 : Option mmV), 0 ≤ m → m + q = 60 → (∀ k, 0 ≤ k → k < m → rG r L T k) → FrLy I I1 → MRow I1 r L T m → LA (I1 1279 0) Ta → mmK (d + 9) 219 Q 11 [some (mo 11 0), some (mv w), some (mv 1), l3, l4] [] (I1, mmRf a br, X) := by
  have hq := RQ_of hR.1 hR.2.1 hR.2.2
  have hTL : TL L T := fun e he => by rw [hT, List.mem_filter] at he; exact hTa e he.1
  have w79 : ∀ (I1 : mMm) (l2 l3 l4 : Option mmV) (m : Int), FrLy I I1 → MRow I1 r L T m → m = rNN r L T → mmK (d + 9) 219 Q 79 [some (mo 11 0), some (mv w), l2, l3, l4] [] (I1, mmRf a br, X) := by
    intro I1 l2 l3 l4 m hf hMR e
    rw [e] at hMR
    refine mmC_step ?_
    simp only [cd_219, sg_219_0, sg_219_11, sg_219_20, sg_219_51, sg_219_52, sg_219_55, sg_219_79, mmK_cut cd_219, q_cons, q_G0, q_GS, q_I1, q_L1, q_A1, q_S0, q_S1, q_SS, q_T0, q_T1, q_TS, q_Kn, q_Ki, q_Kl, q_Kr, q_k0, q_kS, q_rc, q_ps, q_pn, q_aload0, q_iconst, q_putfieldI, q_istore2, q_iload2, q_if_eq, q_getfieldI, q_if_ne, q_istore3, q_iload3, q_icmp_ge, q_getfieldA, q_iaload, q_istore, q_iload, q_irem, q_icmp_ne, q_iload1, q_goto, q_iinc, q_iadd, q_dupI, q_dupA, q_return, rf_11_65, rf_11_70, rf_11_79, mmKe_1265, mmKe_1270, mmKe_1279, mmKo_11, mmLen_1265, mmLen_1270, mmLen_1279, mmR32, mmR64, Option.some.injEq, Int.cast_ofNat_Int, and_true, true_and, if_true, if_false, List.length_cons, List.length_nil, Nat.le_refl, Nat.zero_le, Nat.sub_zero, forall_const, reduceCtorEq, Nat.reduceAdd, Nat.reduceSub, Nat.reduceLeDiff, Nat.reduceEqDiff, Int.reduceAdd, Int.reduceNeg, Int.reduceSub, Int.reduceLT, Int.reduceLE, Int.reduceMul, Int.reduceEq, List.drop_zero, List.drop_succ_cons, ne_eq, not_false_eq_true, not_true_eq_false, false_and, and_false, false_implies, true_implies, reduceIte, mmU_rd, implies_true, or_false, false_or, or_true, true_or]
    exact hQ I1 hf hMR
  have step : ∀ (m : Int) (I1 : mMm) (l3 l4 : Option mmV), 0 ≤ m → m ≤ 60 → (∀ k, 0 ≤ k → k < m → rG r L T k) → FrLy I I1 → MRow I1 r L T m → LA (I1 1279 0) Ta → (∀ I2 l3 l4, m < 60 → rG r L T m → FrLy I I2 → MRow I2 r L T (m + 1) → LA (I2 1279 0) Ta → mmK (d + 9) 219 Q 11 [some (mo 11 0), some (mv w), some (mv 1), l3, l4] [] (I2, mmRf a br, X)) → mmK (d + 9) 219 Q 11 [some (mo 11 0), some (mv w), some (mv 1), l3, l4] [] (I1, mmRf a br, X) := by
    intro m I1 l3 l4 h0 h60 hG hf hMR hA nxt
    have hBW : ∀ i, 0 ≤ i → i ≤ m → BW r (rH r L T i) := by
      intro i i0 i1
      have := rH_BW hq hW hTL hB0 i.toNat (fun k k0 k1 => hG k k0 (by omega))
      rw [show ((i.toNat : Nat) : Int) = i by omega] at this
      exact this
    have hBm := hBW m h0 (by omega)
    have e64 : I1 11 0 64 = enV r (rH r L T) m := hMR.2.1
    refine mmC_step ?_
    simp only [cd_219, sg_219_0, sg_219_11, sg_219_20, sg_219_51, sg_219_52, sg_219_55, sg_219_79, mmK_cut cd_219, q_cons, q_G0, q_GS, q_I1, q_L1, q_A1, q_S0, q_S1, q_SS, q_T0, q_T1, q_TS, q_Kn, q_Ki, q_Kl, q_Kr, q_k0, q_kS, q_rc, q_ps, q_pn, q_aload0, q_iconst, q_putfieldI, q_istore2, q_iload2, q_if_eq, q_getfieldI, q_if_ne, q_istore3, q_iload3, q_icmp_ge, q_getfieldA, q_iaload, q_istore, q_iload, q_irem, q_icmp_ne, q_iload1, q_goto, q_iinc, q_iadd, q_dupI, q_dupA, q_return, rf_11_65, rf_11_70, rf_11_79, mmKe_1265, mmKe_1270, mmKe_1279, mmKo_11, mmLen_1265, mmLen_1270, mmLen_1279, mmR32, mmR64, Option.some.injEq, Int.cast_ofNat_Int, and_true, true_and, if_true, if_false, List.length_cons, List.length_nil, Nat.le_refl, Nat.zero_le, Nat.sub_zero, forall_const, reduceCtorEq, Nat.reduceAdd, Nat.reduceSub, Nat.reduceLeDiff, Nat.reduceEqDiff, Int.reduceAdd, Int.reduceNeg, Int.reduceSub, Int.reduceLT, Int.reduceLE, Int.reduceMul, Int.reduceEq, List.drop_zero, List.drop_succ_cons, ne_eq, not_false_eq_true, not_true_eq_false, false_and, and_false, false_implies, true_implies, reduceIte, mmU_rd, implies_true, or_false, false_or, or_true, true_or]
    rw [e64]
    refine ⟨fun ce => w79 I1 _ _ _ m hf hMR (rNN_eq h0 hG (fun q => ce q.1)), fun ce => ?_⟩
    have hm60 : m < 60 := by
      by_cases c : m = 60
      · rw [c] at ce; exact absurd ce en_60
      · omega
    have hR1 := RK_L hR hf
    have hM1 := ME_L hM hf
    refine m_rowI (B := rH r L T m) (la := rM r L T m) (c := rC r L T m) (Ta := Ta) hw hR1 (hMR.2.2.1 m h0 (by omega)) hBm hMR.1 ⟨h0, hm60⟩ hM1 hW (fun q => by rw [q]; exact rM_0) (fun q => ?_) hA hTa hlen (fun I2 l3 l4 f2 hc => ?_) (fun I2 I3 l3 l4 f2 hc e3 => ?_) Ta [] I1 _ rfl FrW_refl (by rw [← hT]; rfl)
    · have := (hMR.2.2.2.1 (m - 1) (by omega) (by omega)).1
      rw [this, ← rM_s (by omega), show m - 1 + 1 = m by omega]
    · refine mmC_step ?_
      simp only [cd_219, sg_219_0, sg_219_11, sg_219_20, sg_219_51, sg_219_52, sg_219_55, sg_219_79, mmK_cut cd_219, q_cons, q_G0, q_GS, q_I1, q_L1, q_A1, q_S0, q_S1, q_SS, q_T0, q_T1, q_TS, q_Kn, q_Ki, q_Kl, q_Kr, q_k0, q_kS, q_rc, q_ps, q_pn, q_aload0, q_iconst, q_putfieldI, q_istore2, q_iload2, q_if_eq, q_getfieldI, q_if_ne, q_istore3, q_iload3, q_icmp_ge, q_getfieldA, q_iaload, q_istore, q_iload, q_irem, q_icmp_ne, q_iload1, q_goto, q_iinc, q_iadd, q_dupI, q_dupA, q_return, rf_11_65, rf_11_70, rf_11_79, mmKe_1265, mmKe_1270, mmKe_1279, mmKo_11, mmLen_1265, mmLen_1270, mmLen_1279, mmR32, mmR64, Option.some.injEq, Int.cast_ofNat_Int, and_true, true_and, if_true, if_false, List.length_cons, List.length_nil, Nat.le_refl, Nat.zero_le, Nat.sub_zero, forall_const, reduceCtorEq, Nat.reduceAdd, Nat.reduceSub, Nat.reduceLeDiff, Nat.reduceEqDiff, Int.reduceAdd, Int.reduceNeg, Int.reduceSub, Int.reduceLT, Int.reduceLE, Int.reduceMul, Int.reduceEq, List.drop_zero, List.drop_succ_cons, ne_eq, not_false_eq_true, not_true_eq_false, false_and, and_false, false_implies, true_implies, reduceIte, mmU_rd, implies_true, or_false, false_or, or_true, true_or]
      refine mmC_step ?_
      simp only [cd_219, sg_219_0, sg_219_11, sg_219_20, sg_219_51, sg_219_52, sg_219_55, sg_219_79, mmK_cut cd_219, q_cons, q_G0, q_GS, q_I1, q_L1, q_A1, q_S0, q_S1, q_SS, q_T0, q_T1, q_TS, q_Kn, q_Ki, q_Kl, q_Kr, q_k0, q_kS, q_rc, q_ps, q_pn, q_aload0, q_iconst, q_putfieldI, q_istore2, q_iload2, q_if_eq, q_getfieldI, q_if_ne, q_istore3, q_iload3, q_icmp_ge, q_getfieldA, q_iaload, q_istore, q_iload, q_irem, q_icmp_ne, q_iload1, q_goto, q_iinc, q_iadd, q_dupI, q_dupA, q_return, rf_11_65, rf_11_70, rf_11_79, mmKe_1265, mmKe_1270, mmKe_1279, mmKo_11, mmLen_1265, mmLen_1270, mmLen_1279, mmR32, mmR64, Option.some.injEq, Int.cast_ofNat_Int, and_true, true_and, if_true, if_false, List.length_cons, List.length_nil, Nat.le_refl, Nat.zero_le, Nat.sub_zero, forall_const, reduceCtorEq, Nat.reduceAdd, Nat.reduceSub, Nat.reduceLeDiff, Nat.reduceEqDiff, Int.reduceAdd, Int.reduceNeg, Int.reduceSub, Int.reduceLT, Int.reduceLE, Int.reduceMul, Int.reduceEq, List.drop_zero, List.drop_succ_cons, ne_eq, not_false_eq_true, not_true_eq_false, false_and, and_false, false_implies, true_implies, reduceIte, mmU_rd, implies_true, or_false, false_or, or_true, true_or]
      exact w79 I2 _ _ _ m (FrLy_trans hf (FrLy_W f2)) (MRow_W hMR f2) (rNN_eq h0 hG (fun q => q.2 hc))
    · have hMR2 := MRow_W hMR f2
      have hg : rG r L T m := ⟨ce, hc⟩
      obtain ⟨hok, hv⟩ := rV_ok hq hW hTL hBm hc
      have h25 := (pt_in hq.1.1 hq.1.2.1 (x := 0) (y := 0) (by have := hq.1.1; omega) (by have := hq.1.2.1; omega)).2.2.1
      have f3 : FrLy I1 I3 := by rw [e3]; exact FrLy_trans (FrLy_W f2) (FrLy_trans (FrLy_U (by omega)) (FrLy_trans (FrLy_U (by omega)) (FrLy_U (by omega))))
      have g3 : ∀ t k, ¬ (k = m ∧ (t = 1265 ∨ t = 1266 ∨ t = 1267)) → I3 t 0 k = I2 t 0 k := by
        intro t k c
        rw [e3]; unfold mmU
        rw [if_neg (by omega), if_neg (by omega), if_neg (by omega)]
      have e1265 : I3 1265 0 m = rV r L T m := by rw [e3]; unfold mmU; rw [if_neg (by omega), if_neg (by omega), if_pos ⟨rfl, rfl, rfl⟩]; rfl
      have e1266 : I3 1266 0 m = (rC r L T m).1 := by rw [e3]; unfold mmU; rw [if_neg (by omega), if_pos ⟨rfl, rfl, rfl⟩]
      have e1267 : I3 1267 0 m = (rC r L T m).2 := by rw [e3]; unfold mmU; rw [if_pos ⟨rfl, rfl, rfl⟩]
      have e63 : I3 11 0 63 = m := (g3 _ _ (by omega)).trans hMR2.1
      have hMB3 : ∀ i, 0 ≤ i → i ≤ m → MB I3 i (rH r L T i) := fun i i0 i1 z z0 z1 => (g3 _ _ (by omega)).trans (hMR2.2.2.1 i i0 i1 z z0 z1)
      have hv3 : ∀ i, 0 ≤ i → i < m + 1 → I3 1265 0 i = rV r L T i ∧ I3 1266 0 i = (rC r L T i).1 ∧ I3 1267 0 i = (rC r L T i).2 := by
        intro i i0 i1
        by_cases ci : i = m
        · rw [ci]; exact ⟨e1265, e1266, e1267⟩
        · rw [g3 _ _ (by omega), g3 _ _ (by omega), g3 _ _ (by omega)]
          exact hMR2.2.2.2.1 i i0 (by omega)
      have hA3 : LA (I3 1279 0) Ta := LA_ext hA (fun k _ _ => (g3 _ _ (by omega)).trans (f2 _ _ _ (by omega) (by omega) (by omega)))
      clear g3 e3
      refine mmC_step ?_
      simp only [cd_219, sg_219_0, sg_219_11, sg_219_20, sg_219_51, sg_219_52, sg_219_55, sg_219_79, mmK_cut cd_219, q_cons, q_G0, q_GS, q_I1, q_L1, q_A1, q_S0, q_S1, q_SS, q_T0, q_T1, q_TS, q_Kn, q_Ki, q_Kl, q_Kr, q_k0, q_kS, q_rc, q_ps, q_pn, q_aload0, q_iconst, q_putfieldI, q_istore2, q_iload2, q_if_eq, q_getfieldI, q_if_ne, q_istore3, q_iload3, q_icmp_ge, q_getfieldA, q_iaload, q_istore, q_iload, q_irem, q_icmp_ne, q_iload1, q_goto, q_iinc, q_iadd, q_dupI, q_dupA, q_return, rf_11_65, rf_11_70, rf_11_79, mmKe_1265, mmKe_1270, mmKe_1279, mmKo_11, mmLen_1265, mmLen_1270, mmLen_1279, mmR32, mmR64, Option.some.injEq, Int.cast_ofNat_Int, and_true, true_and, if_true, if_false, List.length_cons, List.length_nil, Nat.le_refl, Nat.zero_le, Nat.sub_zero, forall_const, reduceCtorEq, Nat.reduceAdd, Nat.reduceSub, Nat.reduceLeDiff, Nat.reduceEqDiff, Int.reduceAdd, Int.reduceNeg, Int.reduceSub, Int.reduceLT, Int.reduceLE, Int.reduceMul, Int.reduceEq, List.drop_zero, List.drop_succ_cons, ne_eq, not_false_eq_true, not_true_eq_false, false_and, and_false, false_implies, true_implies, reduceIte, mmU_rd, implies_true, or_false, false_or, or_true, true_or]
      rw [e63, e1265]
      refine ⟨h0, by omega, by omega, ?_⟩
      rw [q_invV (pay := [])]
      simp only [q_k0, q_kS, q_rc, mmKo_11]
      refine ⟨Nat.le_of_ble_eq_true rfl, by trivial, Nat.zero_le _, Nat.zero_le _, ?_⟩
      refine mT_use (m_layBehind hok.1 (hMB3 m h0 (by omega)) ⟨h0, by omega⟩ (b' := m + 1) ⟨by omega, by omega⟩ (by omega) ⟨hok.2.1.1, by have := hok.2.1.2; omega⟩ ⟨hok.2.2.1.1, by have := hok.2.2.1.2; omega⟩) (fun u I4 q4 => ?_)
      obtain ⟨rfl, f4, hB4⟩ := q4
      have e63' : I4 11 0 63 = m := (f4 _ _ _ (by omega)).trans e63
      simp only [mmK_cut cd_219, q_cons, q_G0, q_GS, q_I1, q_L1, q_A1, q_S0, q_S1, q_SS, q_T0, q_T1, q_TS, q_Kn, q_Ki, q_Kl, q_Kr, q_k0, q_kS, q_rc, q_ps, q_pn, q_aload0, q_iconst, q_putfieldI, q_istore2, q_iload2, q_if_eq, q_getfieldI, q_if_ne, q_istore3, q_iload3, q_icmp_ge, q_getfieldA, q_iaload, q_istore, q_iload, q_irem, q_icmp_ne, q_iload1, q_goto, q_iinc, q_iadd, q_dupI, q_dupA, q_return, rf_11_65, rf_11_70, rf_11_79, mmKe_1265, mmKe_1270, mmKe_1279, mmKo_11, mmLen_1265, mmLen_1270, mmLen_1279, mmR32, mmR64, Option.some.injEq, Int.cast_ofNat_Int, and_true, true_and, if_true, if_false, List.length_cons, List.length_nil, Nat.le_refl, Nat.zero_le, Nat.sub_zero, forall_const, reduceCtorEq, Nat.reduceAdd, Nat.reduceSub, Nat.reduceLeDiff, Nat.reduceEqDiff, Int.reduceAdd, Int.reduceNeg, Int.reduceSub, Int.reduceLT, Int.reduceLE, Int.reduceMul, Int.reduceEq, List.drop_zero, List.drop_succ_cons, ne_eq, not_false_eq_true, not_true_eq_false, false_and, and_false, false_implies, true_implies, reduceIte, mmU_rd, implies_true, or_false, false_or, or_true, true_or]
      rw [e63']
      refine ⟨by omega, ?_⟩
      generalize hI5 : mmU I4 11 0 63 (m + 1) = I5
      have g5 : ∀ t k, ¬ (t = 11 ∧ k = 63) → ¬ (t = 1259 ∧ 25 * (m + 1) ≤ k) → I5 t 0 k = I3 t 0 k := by
        intro t k c1 c2
        rw [← hI5]; unfold mmU
        rw [if_neg (by omega)]
        exact f4 _ _ _ (by omega)
      have f5 : FrLy I3 I5 := by rw [← hI5]; exact FrLy_trans (FrLy_H f4) (FrLy_U (by omega))
      have e635 : I5 11 0 63 = m + 1 := by rw [← hI5]; unfold mmU; rw [if_pos ⟨rfl, rfl, rfl⟩]
      have hMB5 : ∀ i, 0 ≤ i → i ≤ m + 1 → MB I5 i (rH r L T i) := by
        intro i i0 i1
        by_cases ci : i = m + 1
        · rw [ci, rH_s h0, ← hI5]
          intro z z0 z1
          unfold mmU
          rw [if_neg (by omega)]
          exact hB4 z z0 z1
        · intro z z0 z1
          rw [g5 _ _ (by omega) (by omega)]
          exact hMB3 i i0 (by omega) z z0 z1
      have hv5 : ∀ i, 0 ≤ i → i < m + 1 → I5 1265 0 i = rV r L T i ∧ I5 1266 0 i = (rC r L T i).1 ∧ I5 1267 0 i = (rC r L T i).2 := by
        intro i i0 i1
        rw [g5 _ _ (by omega) (by omega), g5 _ _ (by omega) (by omega), g5 _ _ (by omega) (by omega)]
        exact hv3 i i0 i1
      have hBm1 : BW r (rH r L T (m + 1)) := by
        have := rH_BW hq hW hTL hB0 (m + 1).toNat (fun k k0 k1 => by
          by_cases ck : k = m
          · rw [ck]; exact hg
          · exact hG k k0 (by omega))
        rw [show (((m + 1).toNat : Nat) : Int) = m + 1 by omega] at this
        exact this
      have hA5 : LA (I5 1279 0) Ta := LA_ext hA3 (fun k _ _ => g5 _ _ (by omega) (by omega))
      have fI5 : FrLy I I5 := FrLy_trans hf (FrLy_trans f3 f5)
      clear hI5 g5
      rw [q_invV (pay := [])]
      simp only [q_k0, q_kS, q_rc, mmKo_11]
      refine ⟨Nat.le_of_ble_eq_true rfl, by trivial, Nat.zero_le _, Nat.zero_le _, ?_⟩
      refine mT_use (m_layEnd (H := rH r L T) (RK_L hR fI5) e635 ⟨by omega, by omega⟩ (fun i i0 i1 => ⟨hMB5 i i0 i1, ?_⟩)) (fun u I6 q6 => ?_)
      · by_cases ci : i = m + 1
        · rw [ci]; exact hBm1
        · exact hBW i i0 (by omega)
      · obtain ⟨rfl, I7, f7, ml7, e6⟩ := q6
        simp only [mmK_cut cd_219, q_cons, q_G0, q_GS, q_I1, q_L1, q_A1, q_S0, q_S1, q_SS, q_T0, q_T1, q_TS, q_Kn, q_Ki, q_Kl, q_Kr, q_k0, q_kS, q_rc, q_ps, q_pn, q_aload0, q_iconst, q_putfieldI, q_istore2, q_iload2, q_if_eq, q_getfieldI, q_if_ne, q_istore3, q_iload3, q_icmp_ge, q_getfieldA, q_iaload, q_istore, q_iload, q_irem, q_icmp_ne, q_iload1, q_goto, q_iinc, q_iadd, q_dupI, q_dupA, q_return, rf_11_65, rf_11_70, rf_11_79, mmKe_1265, mmKe_1270, mmKe_1279, mmKo_11, mmLen_1265, mmLen_1270, mmLen_1279, mmR32, mmR64, Option.some.injEq, Int.cast_ofNat_Int, and_true, true_and, if_true, if_false, List.length_cons, List.length_nil, Nat.le_refl, Nat.zero_le, Nat.sub_zero, forall_const, reduceCtorEq, Nat.reduceAdd, Nat.reduceSub, Nat.reduceLeDiff, Nat.reduceEqDiff, Int.reduceAdd, Int.reduceNeg, Int.reduceSub, Int.reduceLT, Int.reduceLE, Int.reduceMul, Int.reduceEq, List.drop_zero, List.drop_succ_cons, ne_eq, not_false_eq_true, not_true_eq_false, false_and, and_false, false_implies, true_implies, reduceIte, mmU_rd, implies_true, or_false, false_or, or_true, true_or]
        have g6 : ∀ t k, ¬ (t = 11 ∧ (k = 58 ∨ k = 64)) → ¬ t = 1256 → ¬ t = 1257 → ¬ t = 1261 → ¬ t = 1262 → I6 t 0 k = I5 t 0 k := by
          intro t k d1 d2 d3 d4 d5
          rw [e6]; unfold mmU
          rw [if_neg (by omega)]
          exact f7 _ _ _ (by omega) d2 d3 (by omega) (by omega)
        refine nxt I6 _ _ hm60 hg (FrLy_trans fI5 ?_) ⟨(g6 _ _ (by omega) (by omega) (by omega) (by omega) (by omega)).trans e635, ?_, fun i i0 i1 z z0 z1 => ?_, fun i i0 i1 => ?_, ?_, fun n hn => ?_⟩ (LA_ext hA5 (fun k _ _ => g6 _ _ (by omega) (by omega) (by omega) (by omega) (by omega)))
        · rw [e6]; exact FrLy_trans (FrLy_V f7) (FrLy_U (by omega))
        · rw [e6]; unfold mmU; rw [if_pos ⟨rfl, rfl, rfl⟩]
        · rw [g6 _ _ (by omega) (by omega) (by omega) (by omega) (by omega)]
          exact hMB5 i i0 i1 z z0 z1
        · rw [g6 _ _ (by omega) (by omega) (by omega) (by omega) (by omega), g6 _ _ (by omega) (by omega) (by omega) (by omega) (by omega), g6 _ _ (by omega) (by omega) (by omega) (by omega) (by omega)]
          exact hv5 i i0 i1
        · rw [e6]; unfold mmU; rw [if_neg (by omega)]; exact ml7.1
        · rw [e6]; unfold mmU; rw [if_neg (by omega)]; exact ml7.2 n hn
  intro q
  induction q with
  | zero =>
    intro m I1 l3 l4 h0 hq' hG hf hMR hA
    exact step m I1 l3 l4 h0 (by omega) hG hf hMR hA (fun I2 l3 l4 c => by omega)
  | succ q ih =>
    intro m I1 l3 l4 h0 hq' hG hf hMR hA
    refine step m I1 l3 l4 h0 (by omega) hG hf hMR hA (fun I2 l3 l4 c hg f2 hMR2 hA2 => ih (m + 1) I2 l3 l4 (by omega) (by omega) (fun k k0 k1 => ?_) f2 hMR2 hA2)
    by_cases ck : k = m
    · rw [ck]; exact hg
    · exact hG k k0 (by omega)
theorem m_layRow (hw : 0 ≤ w ∧ w < 4) (hR : RK r I) (hB0 : BW r (r 714)) (hM : ME I L Ar) (hW : LW L) : mmC (d + 10) 219 [mo 11 0, mv w] (I, mmRf a br, X) (mT a br X fun u I' => u = none ∧ FrLy I I' ∧ MRow I' r L (odT L (r 6 7) (Kv L Ar w)) (rNN r L (odT L (r 6 7) (Kv L Ar w)))) := by
  have h16 := hW.1
  have hz : r 6 7 = 0 ∨ r 6 7 = 1 := hR.2.2.2.2.2.2.2.2.2
  have h20 : I 11 0 20 = r 6 7 := hR.1.1.2.2.2.2.2.2.2
  have hne : ∀ a b : Int, 0 ≤ a → a < b → b < ((L 0 0).toNat : Nat) → ¬ oW L (r 6 7) a = oW L (r 6 7) b := fun a b h0 h1 h2 => oW_ne h0 h1 (by omega)
  refine mmC_in (by decide) (Nat.le_of_ble_eq_true rfl) (mmC_step ?_)
  simp only [show mmMl 219 = 5 from rfl, mmLs, List.replicate, cd_219, sg_219_0, sg_219_11, sg_219_20, sg_219_51, sg_219_52, sg_219_55, sg_219_79, mmK_cut cd_219, q_cons, q_G0, q_GS, q_I1, q_L1, q_A1, q_S0, q_S1, q_SS, q_T0, q_T1, q_TS, q_Kn, q_Ki, q_Kl, q_Kr, q_k0, q_kS, q_rc, q_ps, q_pn, q_aload0, q_iconst, q_putfieldI, q_istore2, q_iload2, q_if_eq, q_getfieldI, q_if_ne, q_istore3, q_iload3, q_icmp_ge, q_getfieldA, q_iaload, q_istore, q_iload, q_irem, q_icmp_ne, q_iload1, q_goto, q_iinc, q_iadd, q_dupI, q_dupA, q_return, rf_11_65, rf_11_70, rf_11_79, mmKe_1265, mmKe_1270, mmKe_1279, mmKo_11, mmLen_1265, mmLen_1270, mmLen_1279, mmR32, mmR64, Option.some.injEq, Int.cast_ofNat_Int, and_true, true_and, if_true, if_false, List.length_cons, List.length_nil, Nat.le_refl, Nat.zero_le, Nat.sub_zero, forall_const, reduceCtorEq, Nat.reduceAdd, Nat.reduceSub, Nat.reduceLeDiff, Nat.reduceEqDiff, Int.reduceAdd, Int.reduceNeg, Int.reduceSub, Int.reduceLT, Int.reduceLE, Int.reduceMul, Int.reduceEq, List.drop_zero, List.drop_succ_cons, ne_eq, not_false_eq_true, not_true_eq_false, false_and, and_false, false_implies, true_implies, reduceIte, mmU_rd, implies_true, or_false, false_or, or_true, true_or]
  rw [q_invV (pay := [])]
  simp only [q_k0, q_kS, q_rc, mmKo_11]
  refine ⟨Nat.le_of_ble_eq_true rfl, by trivial, Nat.zero_le _, Nat.zero_le _, ?_⟩
  refine mT_use (m_layFirst hR) (fun u I1 q1 => ?_)
  obtain ⟨rfl, f1, mb1⟩ := q1
  have f1' := FrLy_0 f1
  simp only [mmK_cut cd_219, q_cons, q_G0, q_GS, q_I1, q_L1, q_A1, q_S0, q_S1, q_SS, q_T0, q_T1, q_TS, q_Kn, q_Ki, q_Kl, q_Kr, q_k0, q_kS, q_rc, q_ps, q_pn, q_aload0, q_iconst, q_putfieldI, q_istore2, q_iload2, q_if_eq, q_getfieldI, q_if_ne, q_istore3, q_iload3, q_icmp_ge, q_getfieldA, q_iaload, q_istore, q_iload, q_irem, q_icmp_ne, q_iload1, q_goto, q_iinc, q_iadd, q_dupI, q_dupA, q_return, rf_11_65, rf_11_70, rf_11_79, mmKe_1265, mmKe_1270, mmKe_1279, mmKo_11, mmLen_1265, mmLen_1270, mmLen_1279, mmR32, mmR64, Option.some.injEq, Int.cast_ofNat_Int, and_true, true_and, if_true, if_false, List.length_cons, List.length_nil, Nat.le_refl, Nat.zero_le, Nat.sub_zero, forall_const, reduceCtorEq, Nat.reduceAdd, Nat.reduceSub, Nat.reduceLeDiff, Nat.reduceEqDiff, Int.reduceAdd, Int.reduceNeg, Int.reduceSub, Int.reduceLT, Int.reduceLE, Int.reduceMul, Int.reduceEq, List.drop_zero, List.drop_succ_cons, ne_eq, not_false_eq_true, not_true_eq_false, false_and, and_false, false_implies, true_implies, reduceIte, mmU_rd, implies_true, or_false, false_or, or_true, true_or]
  rw [q_invV (pay := [])]
  simp only [q_k0, q_kS, q_rc, mmKo_11]
  refine ⟨Nat.le_of_ble_eq_true rfl, by trivial, Nat.zero_le _, Nat.zero_le _, ?_⟩
  refine mT_use (m_layLetters hz ((f1 _ _ _ (by omega)).trans h20) (ME_L hM f1') hW) (fun u I2 q2 => ?_)
  obtain ⟨rfl, f2, la2⟩ := q2
  have f2' : FrLy I I2 := FrLy_trans f1' (fun t i k c1 c2 c3 => f2 t i k c3)
  simp only [mmK_cut cd_219, q_cons, q_G0, q_GS, q_I1, q_L1, q_A1, q_S0, q_S1, q_SS, q_T0, q_T1, q_TS, q_Kn, q_Ki, q_Kl, q_Kr, q_k0, q_kS, q_rc, q_ps, q_pn, q_aload0, q_iconst, q_putfieldI, q_istore2, q_iload2, q_if_eq, q_getfieldI, q_if_ne, q_istore3, q_iload3, q_icmp_ge, q_getfieldA, q_iaload, q_istore, q_iload, q_irem, q_icmp_ne, q_iload1, q_goto, q_iinc, q_iadd, q_dupI, q_dupA, q_return, rf_11_65, rf_11_70, rf_11_79, mmKe_1265, mmKe_1270, mmKe_1279, mmKo_11, mmLen_1265, mmLen_1270, mmLen_1279, mmR32, mmR64, Option.some.injEq, Int.cast_ofNat_Int, and_true, true_and, if_true, if_false, List.length_cons, List.length_nil, Nat.le_refl, Nat.zero_le, Nat.sub_zero, forall_const, reduceCtorEq, Nat.reduceAdd, Nat.reduceSub, Nat.reduceLeDiff, Nat.reduceEqDiff, Int.reduceAdd, Int.reduceNeg, Int.reduceSub, Int.reduceLT, Int.reduceLE, Int.reduceMul, Int.reduceEq, List.drop_zero, List.drop_succ_cons, ne_eq, not_false_eq_true, not_true_eq_false, false_and, and_false, false_implies, true_implies, reduceIte, mmU_rd, implies_true, or_false, false_or, or_true, true_or]
  generalize hI3 : mmU I2 11 0 63 0 = I3
  have f3 : FrLy I I3 := by rw [← hI3]; exact FrLy_trans f2' (FrLy_U (by omega))
  have e63 : I3 11 0 63 = 0 := by rw [← hI3]; unfold mmU; rw [if_pos ⟨rfl, rfl, rfl⟩]
  have mb3 : MB I3 0 (r 714) := fun z z0 z1 => by
    rw [← hI3]; unfold mmU; rw [if_neg (by omega), f2 _ _ _ (by omega)]; exact mb1 z z0 z1
  have la3 : LA (I3 1279 0) (odL (oW L (r 6 7)) (L 0 0).toNat) := LA_ext la2 (fun k _ _ => by rw [← hI3]; unfold mmU; rw [if_neg (by omega)])
  clear hI3
  rw [q_invV (pay := [])]
  simp only [q_k0, q_kS, q_rc, mmKo_11]
  refine ⟨Nat.le_of_ble_eq_true rfl, by trivial, Nat.zero_le _, Nat.zero_le _, ?_⟩
  refine mT_use (m_layEnd (H := rH r L (odT L (r 6 7) (Kv L Ar w))) (RK_L hR f3) e63 ⟨by omega, by omega⟩ (fun i i0 i1 => ?_)) (fun u I4 q4 => ?_)
  · have ei : i = 0 := by omega
    rw [ei]
    exact ⟨mb3, hB0⟩
  · obtain ⟨rfl, I5, f5, ml5, e4⟩ := q4
    simp only [mmK_cut cd_219, q_cons, q_G0, q_GS, q_I1, q_L1, q_A1, q_S0, q_S1, q_SS, q_T0, q_T1, q_TS, q_Kn, q_Ki, q_Kl, q_Kr, q_k0, q_kS, q_rc, q_ps, q_pn, q_aload0, q_iconst, q_putfieldI, q_istore2, q_iload2, q_if_eq, q_getfieldI, q_if_ne, q_istore3, q_iload3, q_icmp_ge, q_getfieldA, q_iaload, q_istore, q_iload, q_irem, q_icmp_ne, q_iload1, q_goto, q_iinc, q_iadd, q_dupI, q_dupA, q_return, rf_11_65, rf_11_70, rf_11_79, mmKe_1265, mmKe_1270, mmKe_1279, mmKo_11, mmLen_1265, mmLen_1270, mmLen_1279, mmR32, mmR64, Option.some.injEq, Int.cast_ofNat_Int, and_true, true_and, if_true, if_false, List.length_cons, List.length_nil, Nat.le_refl, Nat.zero_le, Nat.sub_zero, forall_const, reduceCtorEq, Nat.reduceAdd, Nat.reduceSub, Nat.reduceLeDiff, Nat.reduceEqDiff, Int.reduceAdd, Int.reduceNeg, Int.reduceSub, Int.reduceLT, Int.reduceLE, Int.reduceMul, Int.reduceEq, List.drop_zero, List.drop_succ_cons, ne_eq, not_false_eq_true, not_true_eq_false, false_and, and_false, false_implies, true_implies, reduceIte, mmU_rd, implies_true, or_false, false_or, or_true, true_or]
    have g4 : ∀ t k, ¬ (t = 11 ∧ (k = 58 ∨ k = 64)) → ¬ t = 1256 → ¬ t = 1257 → ¬ t = 1261 → ¬ t = 1262 → I4 t 0 k = I3 t 0 k := by
      intro t k d1 d2 d3 d4 d5
      rw [e4]; unfold mmU
      rw [if_neg (by omega)]
      exact f5 _ _ _ (by omega) d2 d3 (by omega) (by omega)
    have f4 : FrLy I I4 := FrLy_trans f3 (by rw [e4]; exact FrLy_trans (FrLy_V f5) (FrLy_U (by omega)))
    refine m_rowL (Ta := odL (oW L (r 6 7)) (L 0 0).toNat) (T := odT L (r 6 7) (Kv L Ar w)) (l3 := none) (l4 := none) hw hR hB0 hM hW rfl (fun e he => ?_) ?_ (fun I' f' h' => mT_in ⟨rfl, f', h'⟩) 60 0 I4 _ _ (by omega) (by omega) (fun k k0 k1 => by omega) f4 ⟨(g4 _ _ (by omega) (by omega) (by omega) (by omega) (by omega)).trans e63, ?_, fun i i0 i1 z z0 z1 => ?_, fun i i0 i1 => by omega, ?_, fun n hn => ?_⟩ (LA_ext la3 (fun k _ _ => g4 _ _ (by omega) (by omega) (by omega) (by omega) (by omega)))
    · have := (od_in (g := oW L (r 6 7)) (L 0 0).toNat e).mp he
      omega
    · rw [od_len _ hne]; omega
    · rw [e4]; unfold mmU; rw [if_pos ⟨rfl, rfl, rfl⟩]
    · have ei : i = 0 := by omega
      rw [ei] at *
      rw [g4 _ _ (by omega) (by omega) (by omega) (by omega) (by omega)]
      exact mb3 z z0 z1
    · rw [e4]; unfold mmU; rw [if_neg (by omega)]; exact ml5.1
    · rw [e4]; unfold mmU; rw [if_neg (by omega)]; exact ml5.2 n hn
end S860
