theorem fdF_none {g : Int → Int} {x : Int} : ∀ (m : Nat) (i : Int), 0 ≤ i → fdF g x m i = -1 → ∀ k, i ≤ k → k < i + m → ¬ g k = x
  | 0, _, _, _, k, h0, h1 => by omega
  | m + 1, i, hi, h, k, h0, h1 => by
    rw [fdF_s] at h
    split at h
    · omega
    · by_cases c : k = i
      · rw [c]; assumption
      · exact fdF_none m (i + 1) (by omega) h k (by omega) (by omega)
section S74
variable {d a : Nat} {I I' I'' : mMm} {br : Nat → Option mmO} {X : mmX} {T : Int → Int} {s p o k w x : Int} {r r' r'' : mRu} {S : Int → Prop}
theorem adn_o {t : Nat} {z : Int} (h : ¬ (t = 714 ∧ z = x) ∧ ¬ (t = 6 ∧ z = 3) ∧ ¬ (t = 715 ∧ z = w)) : adn r k w x t z = r t z := by
  obtain ⟨h1, h2, h3⟩ := h
  unfold adn
  split
  · unfold ru; rw [if_neg h2, if_neg h1]
  · unfold ru; rw [if_neg h3, if_neg h2, if_neg h1]
theorem adn_714 : adn r k w x 714 x = k + 4 * w := by
  unfold adn
  split
  · unfold ru; rw [if_neg (by omega), if_pos ⟨rfl, rfl⟩]
  · unfold ru; rw [if_neg (by omega), if_neg (by omega), if_pos ⟨rfl, rfl⟩]
theorem adn_63 : adn r k w x 6 3 = r 6 3 + 1 := by
  unfold adn
  split
  · unfold ru; rw [if_pos ⟨rfl, rfl⟩]
  · unfold ru; rw [if_neg (by omega), if_pos ⟨rfl, rfl⟩]
theorem adn_715 : adn r k w x 715 w = if r 710 k = 0 then r 715 w else 1 := by
  unfold adn
  split
  · unfold ru; rw [if_neg (by omega), if_neg (by omega)]
  · unfold ru; rw [if_pos ⟨rfl, rfl⟩]
set_option maxHeartbeats 1000000 in
theorem M2_stone (h : M2 I r o) (h8 : r 6 3 < 8) (hF : ∀ t i z, ¬ ((t = 11 ∧ ((7 ≤ z ∧ z ≤ 11) ∨ z = 47 ∨ z = 25)) ∨ (1241 ≤ t ∧ t ≤ 1243 ∧ z = 8 + r 6 3)) → I' t i z = I t i z) (e25 : I' 11 0 25 = r 6 3 + 1) (e20 : I' 1241 0 (8 + r 6 3) = k) (e21 : I' 1242 0 (8 + r 6 3) = w) (e22 : I' 1243 0 (8 + r 6 3) = x) (hk : 0 ≤ k ∧ k < r 6 2) (hw : w = 0 ∨ w = 1) (hx : 0 ≤ x ∧ x < r 6 0 * r 6 1) (hx25 : r 6 0 * r 6 1 ≤ 25) (hfree : r 714 x = -2) : M2 I' (adn r k w x) o := by
  obtain ⟨g1, g2, g3, ⟨g4, g5, g6⟩, g7, g8, g9⟩ := h
  have e11 : ∀ z : Int, ¬ ((7 ≤ z ∧ z ≤ 11) ∨ z = 47 ∨ z = 25) → I' 11 0 z = I 11 0 z := fun z hz => hF _ _ _ (by omega)
  have r6 : ∀ z, ¬ z = 3 → adn r k w x 6 z = r 6 z := fun z hz => adn_o (by omega)
  have h710 : adn r k w x 710 = r 710 := funext fun z => adn_o (by omega)
  have hst := g9.2.2.2.1
  refine ⟨(e11 4 (by omega)).trans g1, (e11 5 (by omega)).trans g2, ?_, ⟨?_, fun k' h0 h1 => ?_, ?_⟩, ?_, ?_, ?_⟩
  · obtain ⟨t0, t1, t2, t3, t4, t5⟩ := g3
    exact ⟨t0, (e11 30 (by omega)).trans t1, (e11 31 (by omega)).trans t2, (e11 32 (by omega)).trans t3, (e11 33 (by omega)).trans t4, (e11 34 (by omega)).trans t5⟩
  · obtain ⟨t0, t1, t2, t3, t4, t5, t6, t7⟩ := g4
    rw [r6 0 (by omega), r6 1 (by omega), r6 2 (by omega), adn_63, r6 4 (by omega), r6 5 (by omega), r6 6 (by omega), r6 7 (by omega)]
    exact ⟨(e11 22 (by omega)).trans t0, (e11 23 (by omega)).trans t1, (e11 24 (by omega)).trans t2, e25, (e11 27 (by omega)).trans t4, (e11 28 (by omega)).trans t5, (e11 29 (by omega)).trans t6, (e11 34 (by omega)).trans t7⟩
  · rw [r6 2 (by omega)] at h1
    have eR : ∀ t, (708 ≤ t ∧ t ≤ 713) → adn r k w x t = r t := fun t ht => funext fun z => adn_o (by omega)
    have := g5 k' h0 h1
    unfold KE at this ⊢
    rw [eR 708 (by omega), eR 709 (by omega), eR 710 (by omega), eR 711 (by omega), eR 712 (by omega), eR 713 (by omega)]
    obtain ⟨k1, k2, k3, k4, k5, k6, k7, k8⟩ := this
    refine ⟨(hF 1235 0 (4 + k') (by omega)).trans k1, (hF 1236 0 (4 + k') (by omega)).trans k2, (hF 1237 0 (4 + k') (by omega)).trans k3, (hF 1238 0 (4 + k') (by omega)).trans k4, k5, k6, k7, fun z z0 z1 => ?_⟩
    obtain ⟨k9, k10, k11⟩ := k8 z z0 z1
    exact ⟨(hF 1239 0 (32 + (k' * 8 + z)) (by omega)).trans k9, (hF 1240 0 (32 + (k' * 8 + z)) (by omega)).trans k10, k11⟩
  · obtain ⟨s1, s2, s3, s4⟩ := g6
    have o20 : ∀ i, ¬ i = r 6 3 → Gr I' 20 i = Gr I 20 i := fun i hi => hF 1241 0 (8 + i) (by omega)
    have o21 : ∀ i, ¬ i = r 6 3 → Gr I' 21 i = Gr I 21 i := fun i hi => hF 1242 0 (8 + i) (by omega)
    have o22 : ∀ i, ¬ i = r 6 3 → Gr I' 22 i = Gr I 22 i := fun i hi => hF 1243 0 (8 + i) (by omega)
    have n20 : Gr I' 20 (r 6 3) = k := e20
    have n21 : Gr I' 21 (r 6 3) = w := e21
    have n22 : Gr I' 22 (r 6 3) = x := e22
    have hne : ∀ i, 0 ≤ i → i < r 6 3 → ¬ Gr I 22 i = x := by
      intro i i0 i1 q
      have := s1 i i0 i1
      rw [q, hfree] at this
      omega
    unfold SE
    rw [adn_63, h710, r6 2 (by omega), r6 0 (by omega), r6 1 (by omega)]
    refine ⟨fun i i0 i1 => ?_, fun i i' i0 i1 i2 => ?_, fun z z0 z1 zn => ?_, fun w' hw' => ?_⟩
    · by_cases c : i = r 6 3
      · subst c
        rw [n20, n21, n22, adn_714]
        exact ⟨hk, hw, hx, rfl⟩
      · have := s1 i i0 (by omega)
        rw [o20 i c, o21 i c, o22 i c, adn_o ⟨fun q => hne i i0 (by omega) q.2, by omega, by omega⟩]
        exact this
    · rw [o22 i (by omega)]
      by_cases c : i' = r 6 3
      · subst c
        rw [n22]
        exact hne i i0 i1
      · rw [o22 i' c]
        exact s2 i i' i0 i1 (by omega)
    · by_cases c : z = x
      · subst c
        exact ⟨r 6 3, by omega, by omega, n22⟩
      · rw [adn_o (by omega)] at zn
        obtain ⟨i, i0, i1, i2⟩ := s3 z z0 z1 zn
        exact ⟨i, i0, by omega, by rw [o22 i (by omega)]; exact i2⟩
    · have hs4 := s4 w' hw'
      have hkk := (g5 k hk.1 hk.2).2.2.2.2.2.1
      by_cases c : w' = w
      · subst c
        rw [adn_715]
        by_cases c2 : r 710 k = 0
        · rw [if_pos c2]
          refine ⟨hs4.1, hs4.2.trans ⟨?_, ?_⟩⟩
          · rintro ⟨i, i0, i1, i2, i3⟩
            exact ⟨i, i0, by omega, by rw [o21 i (by omega)]; exact i2, by rw [o20 i (by omega)]; exact i3⟩
          · rintro ⟨i, i0, i1, i2, i3⟩
            by_cases c3 : i = r 6 3
            · subst c3
              rw [n20, c2] at i3
              omega
            · exact ⟨i, i0, by omega, by rw [← o21 i c3]; exact i2, by rw [← o20 i c3]; exact i3⟩
        · rw [if_neg c2]
          exact ⟨Or.inr rfl, fun _ => ⟨r 6 3, by omega, by omega, n21, by rw [n20]; omega⟩, fun _ => rfl⟩
      · rw [adn_o (by omega)]
        refine ⟨hs4.1, hs4.2.trans ⟨?_, ?_⟩⟩
        · rintro ⟨i, i0, i1, i2, i3⟩
          exact ⟨i, i0, by omega, by rw [o21 i (by omega)]; exact i2, by rw [o20 i (by omega)]; exact i3⟩
        · rintro ⟨i, i0, i1, i2, i3⟩
          by_cases c3 : i = r 6 3
          · subst c3
            rw [n21] at i2
            exact absurd i2.symm c
          · exact ⟨i, i0, by omega, by rw [← o21 i c3]; exact i2, by rw [← o20 i c3]; exact i3⟩
  · have e30 : Gr I' 30 = Gr I 30 := funext fun k => hF 1244 0 (64 + k) (by omega)
    have e31 : Gr I' 31 = Gr I 31 := funext fun k => hF 1245 0 (64 + k) (by omega)
    have e32 : Gr I' 32 = Gr I 32 := funext fun k => hF 1246 0 (64 + k) (by omega)
    have e16 : Gr I' 16 0 = Gr I 16 0 := e11 26 (by omega)
    have e17 : Gr I' 17 0 = Gr I 17 0 := e11 31 (by omega)
    have f1 : adn r k w x 1 = r 1 := funext fun z => adn_o (by omega)
    have f2 : adn r k w x 200 = r 200 := funext fun z => adn_o (by omega)
    unfold RLw at g7 ⊢
    rw [e30, e31, e32, e16, e17, f1, f2]
    exact g7
  · rw [e11 31 (by omega), e11 53 (by omega)]
    exact g8
  · unfold RW at g9 ⊢
    rw [r6 0 (by omega), r6 1 (by omega), r6 2 (by omega), adn_63, r6 4 (by omega), r6 5 (by omega), r6 6 (by omega), r6 7 (by omega)]
    obtain ⟨w0, w1, w2, w3, w4⟩ := g9
    exact ⟨w0, w1, w2, by omega, w4⟩
def SNt (st : Int) (t : Nat) (z : Int) : Prop := (t = 11 ∧ ((7 ≤ z ∧ z ≤ 11) ∨ z = 47 ∨ z = 25)) ∨ (1241 ≤ t ∧ t ≤ 1243 ∧ z = 8 + st)
def FrN (st : Int) (I I' : mMm) : Prop := ∀ t i z, ¬ SNt st t z → I' t i z = I t i z
theorem FrN_trans {st : Int} (h : FrN st I I') (h' : FrN st I' I'') : FrN st I I'' := fun t i x c => (h' t i x c).trans (h t i x c)
theorem FrN_7 {st : Int} (h : Fr7 I I') : FrN st I I' := fun t i x c => h t i x (fun q => c (by unfold SNt; omega))
theorem FrN_U {st : Int} {t i : Nat} {x v : Int} (h : SNt st t x) : FrN st I (mmU I t i x v) := by
  intro t' i' k' c
  unfold mmU
  rw [if_neg]
  rintro ⟨rfl, rfl, rfl⟩
  exact c h
theorem BL_N {st : Int} (h : FrN st I I') (hb : BL I) : BL I' := BL_ext (fun t k ht => h _ _ _ (by unfold SNt; omega)) hb
theorem FrM_N {st : Int} (hk : 0 ≤ st) (h : FrN st I I') : FrM I I' := ⟨fun t i x c => h t i x (fun q => c (by unfold SNt at q; unfold Mt; omega)), BL_N h⟩
set_option maxHeartbeats 2000000 in
theorem m_stone (h : PSr I T s p) (hM : M2 I r o) : mmC (d + 6) 165 [mo 11 0] (I, mmRf a br, X) (mT a br X (MP I T s (snF T s p r o))) := by
  obtain ⟨g4, g5, hT, ⟨hG, hK, hS⟩, hL, h53, hW⟩ := id hM
  obtain ⟨w0, w1, w2, w3, w4⟩ := id hW
  have h25 : I 11 0 25 = r 6 3 := hG.2.2.2.1
  generalize hZ : snF T s p r o = Z
  unfold snF at hZ
  refine mmC_in (by decide) (Nat.le_of_ble_eq_true rfl) (mmC_step ?_)
  simp only [show mmMl 165 = 5 from rfl, mmLs, List.replicate, cd_165, sg_165_0, sg_165_8, sg_165_18, sg_165_33, sg_165_52, sg_165_68, sg_165_84, sg_165_113, mmK_cut cd_165, q_cons, q_G0, q_GS, q_I1, q_L1, q_A1, q_S0, q_S1, q_SS, q_T0, q_T1, q_TS, q_Kn, q_Ki, q_Kl, q_Kr, q_k0, q_kS, q_rc, q_ps, q_pn, q_aload0, q_getfieldI, q_bipush, q_icmp_ne, q_iconst, q_invV, q_ireturn1, q_icmp_eq, q_getfieldA, q_invS, q_istore1, q_iload1, q_if_ge, q_iadd, q_istore2, q_iload2, q_iastore, q_if_ne, q_isub, q_istore3, q_istore, q_imul, q_iload3, q_iaload, q_if_lt, q_iload, q_putfieldI, q_dupI, q_dupA, rf_11_35, rf_11_41, rf_11_42, rf_11_43, mmKe_1235, mmKe_1241, mmKe_1242, mmKe_1243, mmKo_11, mmLen_1235, mmLen_1241, mmLen_1242, mmLen_1243, mmR32, mmR64, Option.some.injEq, Int.cast_ofNat_Int, and_true, true_and, if_true, if_false, List.length_cons, List.length_nil, Nat.le_refl, Nat.zero_le, Nat.sub_zero, forall_const, reduceCtorEq, Nat.reduceAdd, Nat.reduceSub, Nat.reduceLeDiff, Nat.reduceEqDiff, Int.reduceAdd, Int.reduceNeg, Int.reduceSub, Int.reduceLT, Int.reduceLE, Int.reduceMul, Int.reduceEq, List.drop_zero, List.drop_succ_cons, ne_eq, not_false_eq_true, not_true_eq_false, false_and, and_false, false_implies, true_implies, reduceIte, mmU_rd, implies_true, or_false, false_or, or_true, true_or]
  rw [h25]
  refine ⟨fun c => ?_, fun c => ?_⟩
  · rw [if_neg (by omega)] at hZ
    refine mmC_step ?_
    simp only [cd_165, sg_165_0, sg_165_8, sg_165_18, sg_165_33, sg_165_52, sg_165_68, sg_165_84, sg_165_113, mmK_cut cd_165, q_cons, q_G0, q_GS, q_I1, q_L1, q_A1, q_S0, q_S1, q_SS, q_T0, q_T1, q_TS, q_Kn, q_Ki, q_Kl, q_Kr, q_k0, q_kS, q_rc, q_ps, q_pn, q_aload0, q_getfieldI, q_bipush, q_icmp_ne, q_iconst, q_invV, q_ireturn1, q_icmp_eq, q_getfieldA, q_invS, q_istore1, q_iload1, q_if_ge, q_iadd, q_istore2, q_iload2, q_iastore, q_if_ne, q_isub, q_istore3, q_istore, q_imul, q_iload3, q_iaload, q_if_lt, q_iload, q_putfieldI, q_dupI, q_dupA, rf_11_35, rf_11_41, rf_11_42, rf_11_43, mmKe_1235, mmKe_1241, mmKe_1242, mmKe_1243, mmKo_11, mmLen_1235, mmLen_1241, mmLen_1242, mmLen_1243, mmR32, mmR64, Option.some.injEq, Int.cast_ofNat_Int, and_true, true_and, if_true, if_false, List.length_cons, List.length_nil, Nat.le_refl, Nat.zero_le, Nat.sub_zero, forall_const, reduceCtorEq, Nat.reduceAdd, Nat.reduceSub, Nat.reduceLeDiff, Nat.reduceEqDiff, Int.reduceAdd, Int.reduceNeg, Int.reduceSub, Int.reduceLT, Int.reduceLE, Int.reduceMul, Int.reduceEq, List.drop_zero, List.drop_succ_cons, ne_eq, not_false_eq_true, not_true_eq_false, false_and, and_false, false_implies, true_implies, reduceIte, mmU_rd, implies_true, or_false, false_or, or_true, true_or]
    refine mT_use (m_token h) (fun v I1 q => ?_)
    obtain ⟨rfl, f1, -, -, h1⟩ := q
    have hR1 := TR_name h1.2.2.2.2.1
    have m1 := M2_7 hM f1
    have h24' : I1 11 0 24 = r 6 2 := m1.2.2.2.1.1.2.2.1
    simp only [mmK_cut cd_165, q_cons, q_G0, q_GS, q_I1, q_L1, q_A1, q_S0, q_S1, q_SS, q_T0, q_T1, q_TS, q_Kn, q_Ki, q_Kl, q_Kr, q_k0, q_kS, q_rc, q_ps, q_pn, q_aload0, q_getfieldI, q_bipush, q_icmp_ne, q_iconst, q_invV, q_ireturn1, q_icmp_eq, q_getfieldA, q_invS, q_istore1, q_iload1, q_if_ge, q_iadd, q_istore2, q_iload2, q_iastore, q_if_ne, q_isub, q_istore3, q_istore, q_imul, q_iload3, q_iaload, q_if_lt, q_iload, q_putfieldI, q_dupI, q_dupA, rf_11_35, rf_11_41, rf_11_42, rf_11_43, mmKe_1235, mmKe_1241, mmKe_1242, mmKe_1243, mmKo_11, mmLen_1235, mmLen_1241, mmLen_1242, mmLen_1243, mmR32, mmR64, Option.some.injEq, Int.cast_ofNat_Int, and_true, true_and, if_true, if_false, List.length_cons, List.length_nil, Nat.le_refl, Nat.zero_le, Nat.sub_zero, forall_const, reduceCtorEq, Nat.reduceAdd, Nat.reduceSub, Nat.reduceLeDiff, Nat.reduceEqDiff, Int.reduceAdd, Int.reduceNeg, Int.reduceSub, Int.reduceLT, Int.reduceLE, Int.reduceMul, Int.reduceEq, List.drop_zero, List.drop_succ_cons, ne_eq, not_false_eq_true, not_true_eq_false, false_and, and_false, false_implies, true_implies, reduceIte, mmU_rd, implies_true, or_false, false_or, or_true, true_or]
    refine ⟨fun c2 => ?_, fun c2 => ?_⟩
    · have c3 := hR1.1.mp c2
      have c4 := hR1.2 c2
      rw [if_neg (fun q => q c3)] at hZ
      refine mmC_step ?_
      simp only [cd_165, sg_165_0, sg_165_8, sg_165_18, sg_165_33, sg_165_52, sg_165_68, sg_165_84, sg_165_113, mmK_cut cd_165, q_cons, q_G0, q_GS, q_I1, q_L1, q_A1, q_S0, q_S1, q_SS, q_T0, q_T1, q_TS, q_Kn, q_Ki, q_Kl, q_Kr, q_k0, q_kS, q_rc, q_ps, q_pn, q_aload0, q_getfieldI, q_bipush, q_icmp_ne, q_iconst, q_invV, q_ireturn1, q_icmp_eq, q_getfieldA, q_invS, q_istore1, q_iload1, q_if_ge, q_iadd, q_istore2, q_iload2, q_iastore, q_if_ne, q_isub, q_istore3, q_istore, q_imul, q_iload3, q_iaload, q_if_lt, q_iload, q_putfieldI, q_dupI, q_dupA, rf_11_35, rf_11_41, rf_11_42, rf_11_43, mmKe_1235, mmKe_1241, mmKe_1242, mmKe_1243, mmKo_11, mmLen_1235, mmLen_1241, mmLen_1242, mmLen_1243, mmR32, mmR64, Option.some.injEq, Int.cast_ofNat_Int, and_true, true_and, if_true, if_false, List.length_cons, List.length_nil, Nat.le_refl, Nat.zero_le, Nat.sub_zero, forall_const, reduceCtorEq, Nat.reduceAdd, Nat.reduceSub, Nat.reduceLeDiff, Nat.reduceEqDiff, Int.reduceAdd, Int.reduceNeg, Int.reduceSub, Int.reduceLT, Int.reduceLE, Int.reduceMul, Int.reduceEq, List.drop_zero, List.drop_succ_cons, ne_eq, not_false_eq_true, not_true_eq_false, false_and, and_false, false_implies, true_implies, reduceIte, mmU_rd, implies_true, or_false, false_or, or_true, true_or]
      rw [h24', c4]
      refine sq_find rfl (by omega) (by omega) (by rw [show mmLen 1235 = 8 from rfl]; omega) ?_
      have efd : fdF (fun k => I1 1235 0 (4 + k)) (tkV T s (tkN T s p)) (r 6 2).toNat 0 = fdF (r 708) (tkV T s (tkN T s p)) (r 6 2).toNat 0 := fdF_congr _ _ (fun k k0 k1 => (m1.2.2.2.1.2.1 k k0 (by omega)).1)
      rw [efd]
      have hfd := fdF_in (g := r 708) (x := tkV T s (tkN T s p)) (r 6 2).toNat 0 (by omega)
      generalize fdF (r 708) (tkV T s (tkN T s p)) (r 6 2).toNat 0 = k at *
      simp only [mmK_cut cd_165, q_cons, q_G0, q_GS, q_I1, q_L1, q_A1, q_S0, q_S1, q_SS, q_T0, q_T1, q_TS, q_Kn, q_Ki, q_Kl, q_Kr, q_k0, q_kS, q_rc, q_ps, q_pn, q_aload0, q_getfieldI, q_bipush, q_icmp_ne, q_iconst, q_invV, q_ireturn1, q_icmp_eq, q_getfieldA, q_invS, q_istore1, q_iload1, q_if_ge, q_iadd, q_istore2, q_iload2, q_iastore, q_if_ne, q_isub, q_istore3, q_istore, q_imul, q_iload3, q_iaload, q_if_lt, q_iload, q_putfieldI, q_dupI, q_dupA, rf_11_35, rf_11_41, rf_11_42, rf_11_43, mmKe_1235, mmKe_1241, mmKe_1242, mmKe_1243, mmKo_11, mmLen_1235, mmLen_1241, mmLen_1242, mmLen_1243, mmR32, mmR64, Option.some.injEq, Int.cast_ofNat_Int, and_true, true_and, if_true, if_false, List.length_cons, List.length_nil, Nat.le_refl, Nat.zero_le, Nat.sub_zero, forall_const, reduceCtorEq, Nat.reduceAdd, Nat.reduceSub, Nat.reduceLeDiff, Nat.reduceEqDiff, Int.reduceAdd, Int.reduceNeg, Int.reduceSub, Int.reduceLT, Int.reduceLE, Int.reduceMul, Int.reduceEq, List.drop_zero, List.drop_succ_cons, ne_eq, not_false_eq_true, not_true_eq_false, false_and, and_false, false_implies, true_implies, reduceIte, mmU_rd, implies_true, or_false, false_or, or_true, true_or]
      refine ⟨fun c5 => ?_, fun c5 => ?_⟩
      · rw [if_neg (by omega)] at hZ
        refine mmC_step ?_
        simp only [cd_165, sg_165_0, sg_165_8, sg_165_18, sg_165_33, sg_165_52, sg_165_68, sg_165_84, sg_165_113, mmK_cut cd_165, q_cons, q_G0, q_GS, q_I1, q_L1, q_A1, q_S0, q_S1, q_SS, q_T0, q_T1, q_TS, q_Kn, q_Ki, q_Kl, q_Kr, q_k0, q_kS, q_rc, q_ps, q_pn, q_aload0, q_getfieldI, q_bipush, q_icmp_ne, q_iconst, q_invV, q_ireturn1, q_icmp_eq, q_getfieldA, q_invS, q_istore1, q_iload1, q_if_ge, q_iadd, q_istore2, q_iload2, q_iastore, q_if_ne, q_isub, q_istore3, q_istore, q_imul, q_iload3, q_iaload, q_if_lt, q_iload, q_putfieldI, q_dupI, q_dupA, rf_11_35, rf_11_41, rf_11_42, rf_11_43, mmKe_1235, mmKe_1241, mmKe_1242, mmKe_1243, mmKo_11, mmLen_1235, mmLen_1241, mmLen_1242, mmLen_1243, mmR32, mmR64, Option.some.injEq, Int.cast_ofNat_Int, and_true, true_and, if_true, if_false, List.length_cons, List.length_nil, Nat.le_refl, Nat.zero_le, Nat.sub_zero, forall_const, reduceCtorEq, Nat.reduceAdd, Nat.reduceSub, Nat.reduceLeDiff, Nat.reduceEqDiff, Int.reduceAdd, Int.reduceNeg, Int.reduceSub, Int.reduceLT, Int.reduceLE, Int.reduceMul, Int.reduceEq, List.drop_zero, List.drop_succ_cons, ne_eq, not_false_eq_true, not_true_eq_false, false_and, and_false, false_implies, true_implies, reduceIte, mmU_rd, implies_true, or_false, false_or, or_true, true_or]
        refine mT_use (m_token h1) (fun v I2 q => ?_)
        obtain ⟨rfl, f2, -, -, h2⟩ := q
        have f2' := Fr7_trans f1 f2
        have h25' : I2 11 0 25 = r 6 3 := (f2' _ _ _ (by omega)).trans h25
        simp only [mmK_cut cd_165, q_cons, q_G0, q_GS, q_I1, q_L1, q_A1, q_S0, q_S1, q_SS, q_T0, q_T1, q_TS, q_Kn, q_Ki, q_Kl, q_Kr, q_k0, q_kS, q_rc, q_ps, q_pn, q_aload0, q_getfieldI, q_bipush, q_icmp_ne, q_iconst, q_invV, q_ireturn1, q_icmp_eq, q_getfieldA, q_invS, q_istore1, q_iload1, q_if_ge, q_iadd, q_istore2, q_iload2, q_iastore, q_if_ne, q_isub, q_istore3, q_istore, q_imul, q_iload3, q_iaload, q_if_lt, q_iload, q_putfieldI, q_dupI, q_dupA, rf_11_35, rf_11_41, rf_11_42, rf_11_43, mmKe_1235, mmKe_1241, mmKe_1242, mmKe_1243, mmKo_11, mmLen_1235, mmLen_1241, mmLen_1242, mmLen_1243, mmR32, mmR64, Option.some.injEq, Int.cast_ofNat_Int, and_true, true_and, if_true, if_false, List.length_cons, List.length_nil, Nat.le_refl, Nat.zero_le, Nat.sub_zero, forall_const, reduceCtorEq, Nat.reduceAdd, Nat.reduceSub, Nat.reduceLeDiff, Nat.reduceEqDiff, Int.reduceAdd, Int.reduceNeg, Int.reduceSub, Int.reduceLT, Int.reduceLE, Int.reduceMul, Int.reduceEq, List.drop_zero, List.drop_succ_cons, ne_eq, not_false_eq_true, not_true_eq_false, false_and, and_false, false_implies, true_implies, reduceIte, mmU_rd, implies_true, or_false, false_or, or_true, true_or]
        rw [h25']
        refine ⟨by omega, by omega, by omega, ?_⟩
        have f3 : FrN (r 6 3) I (mmU I2 1241 0 (8 + r 6 3) k) := FrN_trans (FrN_7 f2') (FrN_U (by unfold SNt; omega))
        refine mT_use (m_num (PSr_U h2 (by omega)) (by omega)) (fun v I3 q => ?_)
        rcases q with ⟨e, hn, rfl, q⟩ | ⟨hn, b1, b2, b3, rfl, q2, q3, -, h3⟩
        · rw [hn, pB_l] at hZ
          simp only [mmK_cut cd_165, q_cons, q_G0, q_GS, q_I1, q_L1, q_A1, q_S0, q_S1, q_SS, q_T0, q_T1, q_TS, q_Kn, q_Ki, q_Kl, q_Kr, q_k0, q_kS, q_rc, q_ps, q_pn, q_aload0, q_getfieldI, q_bipush, q_icmp_ne, q_iconst, q_invV, q_ireturn1, q_icmp_eq, q_getfieldA, q_invS, q_istore1, q_iload1, q_if_ge, q_iadd, q_istore2, q_iload2, q_iastore, q_if_ne, q_isub, q_istore3, q_istore, q_imul, q_iload3, q_iaload, q_if_lt, q_iload, q_putfieldI, q_dupI, q_dupA, rf_11_35, rf_11_41, rf_11_42, rf_11_43, mmKe_1235, mmKe_1241, mmKe_1242, mmKe_1243, mmKo_11, mmLen_1235, mmLen_1241, mmLen_1242, mmLen_1243, mmR32, mmR64, Option.some.injEq, Int.cast_ofNat_Int, and_true, true_and, if_true, if_false, List.length_cons, List.length_nil, Nat.le_refl, Nat.zero_le, Nat.sub_zero, forall_const, reduceCtorEq, Nat.reduceAdd, Nat.reduceSub, Nat.reduceLeDiff, Nat.reduceEqDiff, Int.reduceAdd, Int.reduceNeg, Int.reduceSub, Int.reduceLT, Int.reduceLE, Int.reduceMul, Int.reduceEq, List.drop_zero, List.drop_succ_cons, ne_eq, not_false_eq_true, not_true_eq_false, false_and, and_false, false_implies, true_implies, reduceIte, mmU_rd, implies_true, or_false, false_or, or_true, true_or]
          exact mT_in (MP_l hZ.symm (MF_trans (FrM_N w3.1 f3) q))
        rw [hn, pB_r] at hZ
        simp only [mmK_cut cd_165, q_cons, q_G0, q_GS, q_I1, q_L1, q_A1, q_S0, q_S1, q_SS, q_T0, q_T1, q_TS, q_Kn, q_Ki, q_Kl, q_Kr, q_k0, q_kS, q_rc, q_ps, q_pn, q_aload0, q_getfieldI, q_bipush, q_icmp_ne, q_iconst, q_invV, q_ireturn1, q_icmp_eq, q_getfieldA, q_invS, q_istore1, q_iload1, q_if_ge, q_iadd, q_istore2, q_iload2, q_iastore, q_if_ne, q_isub, q_istore3, q_istore, q_imul, q_iload3, q_iaload, q_if_lt, q_iload, q_putfieldI, q_dupI, q_dupA, rf_11_35, rf_11_41, rf_11_42, rf_11_43, mmKe_1235, mmKe_1241, mmKe_1242, mmKe_1243, mmKo_11, mmLen_1235, mmLen_1241, mmLen_1242, mmLen_1243, mmR32, mmR64, Option.some.injEq, Int.cast_ofNat_Int, and_true, true_and, if_true, if_false, List.length_cons, List.length_nil, Nat.le_refl, Nat.zero_le, Nat.sub_zero, forall_const, reduceCtorEq, Nat.reduceAdd, Nat.reduceSub, Nat.reduceLeDiff, Nat.reduceEqDiff, Int.reduceAdd, Int.reduceNeg, Int.reduceSub, Int.reduceLT, Int.reduceLE, Int.reduceMul, Int.reduceEq, List.drop_zero, List.drop_succ_cons, ne_eq, not_false_eq_true, not_true_eq_false, false_and, and_false, false_implies, true_implies, reduceIte, mmU_rd, implies_true, or_false, false_or, or_true, true_or]
        refine mmC_step ?_
        simp only [cd_165, sg_165_0, sg_165_8, sg_165_18, sg_165_33, sg_165_52, sg_165_68, sg_165_84, sg_165_113, mmK_cut cd_165, q_cons, q_G0, q_GS, q_I1, q_L1, q_A1, q_S0, q_S1, q_SS, q_T0, q_T1, q_TS, q_Kn, q_Ki, q_Kl, q_Kr, q_k0, q_kS, q_rc, q_ps, q_pn, q_aload0, q_getfieldI, q_bipush, q_icmp_ne, q_iconst, q_invV, q_ireturn1, q_icmp_eq, q_getfieldA, q_invS, q_istore1, q_iload1, q_if_ge, q_iadd, q_istore2, q_iload2, q_iastore, q_if_ne, q_isub, q_istore3, q_istore, q_imul, q_iload3, q_iaload, q_if_lt, q_iload, q_putfieldI, q_dupI, q_dupA, rf_11_35, rf_11_41, rf_11_42, rf_11_43, mmKe_1235, mmKe_1241, mmKe_1242, mmKe_1243, mmKo_11, mmLen_1235, mmLen_1241, mmLen_1242, mmLen_1243, mmR32, mmR64, Option.some.injEq, Int.cast_ofNat_Int, and_true, true_and, if_true, if_false, List.length_cons, List.length_nil, Nat.le_refl, Nat.zero_le, Nat.sub_zero, forall_const, reduceCtorEq, Nat.reduceAdd, Nat.reduceSub, Nat.reduceLeDiff, Nat.reduceEqDiff, Int.reduceAdd, Int.reduceNeg, Int.reduceSub, Int.reduceLT, Int.reduceLE, Int.reduceMul, Int.reduceEq, List.drop_zero, List.drop_succ_cons, ne_eq, not_false_eq_true, not_true_eq_false, false_and, and_false, false_implies, true_implies, reduceIte, mmU_rd, implies_true, or_false, false_or, or_true, true_or]
        have e22 : I3 11 0 22 = r 6 0 := by
          rw [q2 _ _ _ (by omega)]
          exact (f2' 11 0 22 (by omega)).trans hG.1
        rw [q3, e22]
        refine ⟨by omega, by omega, by omega, ?_⟩
        have f4 : FrN (r 6 3) I (mmU I3 1242 0 (8 + r 6 3) (tkV T s (tkN T s (tkN T s p)))) := FrN_trans (FrN_trans f3 (FrN_7 q2)) (FrN_U (by unfold SNt; omega))
        refine mT_use (m_num (PSr_U h3 (by omega)) (by omega)) (fun v I4 q => ?_)
        rcases q with ⟨e, hn, rfl, q⟩ | ⟨hn, b4, b5, b6, rfl, q4, q5, -, h4⟩
        · rw [hn, pB_l] at hZ
          simp only [mmK_cut cd_165, q_cons, q_G0, q_GS, q_I1, q_L1, q_A1, q_S0, q_S1, q_SS, q_T0, q_T1, q_TS, q_Kn, q_Ki, q_Kl, q_Kr, q_k0, q_kS, q_rc, q_ps, q_pn, q_aload0, q_getfieldI, q_bipush, q_icmp_ne, q_iconst, q_invV, q_ireturn1, q_icmp_eq, q_getfieldA, q_invS, q_istore1, q_iload1, q_if_ge, q_iadd, q_istore2, q_iload2, q_iastore, q_if_ne, q_isub, q_istore3, q_istore, q_imul, q_iload3, q_iaload, q_if_lt, q_iload, q_putfieldI, q_dupI, q_dupA, rf_11_35, rf_11_41, rf_11_42, rf_11_43, mmKe_1235, mmKe_1241, mmKe_1242, mmKe_1243, mmKo_11, mmLen_1235, mmLen_1241, mmLen_1242, mmLen_1243, mmR32, mmR64, Option.some.injEq, Int.cast_ofNat_Int, and_true, true_and, if_true, if_false, List.length_cons, List.length_nil, Nat.le_refl, Nat.zero_le, Nat.sub_zero, forall_const, reduceCtorEq, Nat.reduceAdd, Nat.reduceSub, Nat.reduceLeDiff, Nat.reduceEqDiff, Int.reduceAdd, Int.reduceNeg, Int.reduceSub, Int.reduceLT, Int.reduceLE, Int.reduceMul, Int.reduceEq, List.drop_zero, List.drop_succ_cons, ne_eq, not_false_eq_true, not_true_eq_false, false_and, and_false, false_implies, true_implies, reduceIte, mmU_rd, implies_true, or_false, false_or, or_true, true_or]
          exact mT_in (MP_l hZ.symm (MF_trans (FrM_N w3.1 f4) q))
        rw [hn, pB_r] at hZ
        have f5 := FrN_trans f4 (FrN_7 q4)
        simp only [mmK_cut cd_165, q_cons, q_G0, q_GS, q_I1, q_L1, q_A1, q_S0, q_S1, q_SS, q_T0, q_T1, q_TS, q_Kn, q_Ki, q_Kl, q_Kr, q_k0, q_kS, q_rc, q_ps, q_pn, q_aload0, q_getfieldI, q_bipush, q_icmp_ne, q_iconst, q_invV, q_ireturn1, q_icmp_eq, q_getfieldA, q_invS, q_istore1, q_iload1, q_if_ge, q_iadd, q_istore2, q_iload2, q_iastore, q_if_ne, q_isub, q_istore3, q_istore, q_imul, q_iload3, q_iaload, q_if_lt, q_iload, q_putfieldI, q_dupI, q_dupA, rf_11_35, rf_11_41, rf_11_42, rf_11_43, mmKe_1235, mmKe_1241, mmKe_1242, mmKe_1243, mmKo_11, mmLen_1235, mmLen_1241, mmLen_1242, mmLen_1243, mmR32, mmR64, Option.some.injEq, Int.cast_ofNat_Int, and_true, true_and, if_true, if_false, List.length_cons, List.length_nil, Nat.le_refl, Nat.zero_le, Nat.sub_zero, forall_const, reduceCtorEq, Nat.reduceAdd, Nat.reduceSub, Nat.reduceLeDiff, Nat.reduceEqDiff, Int.reduceAdd, Int.reduceNeg, Int.reduceSub, Int.reduceLT, Int.reduceLE, Int.reduceMul, Int.reduceEq, List.drop_zero, List.drop_succ_cons, ne_eq, not_false_eq_true, not_true_eq_false, false_and, and_false, false_implies, true_implies, reduceIte, mmU_rd, implies_true, or_false, false_or, or_true, true_or]
        refine mmC_step ?_
        simp only [cd_165, sg_165_0, sg_165_8, sg_165_18, sg_165_33, sg_165_52, sg_165_68, sg_165_84, sg_165_113, mmK_cut cd_165, q_cons, q_G0, q_GS, q_I1, q_L1, q_A1, q_S0, q_S1, q_SS, q_T0, q_T1, q_TS, q_Kn, q_Ki, q_Kl, q_Kr, q_k0, q_kS, q_rc, q_ps, q_pn, q_aload0, q_getfieldI, q_bipush, q_icmp_ne, q_iconst, q_invV, q_ireturn1, q_icmp_eq, q_getfieldA, q_invS, q_istore1, q_iload1, q_if_ge, q_iadd, q_istore2, q_iload2, q_iastore, q_if_ne, q_isub, q_istore3, q_istore, q_imul, q_iload3, q_iaload, q_if_lt, q_iload, q_putfieldI, q_dupI, q_dupA, rf_11_35, rf_11_41, rf_11_42, rf_11_43, mmKe_1235, mmKe_1241, mmKe_1242, mmKe_1243, mmKo_11, mmLen_1235, mmLen_1241, mmLen_1242, mmLen_1243, mmR32, mmR64, Option.some.injEq, Int.cast_ofNat_Int, and_true, true_and, if_true, if_false, List.length_cons, List.length_nil, Nat.le_refl, Nat.zero_le, Nat.sub_zero, forall_const, reduceCtorEq, Nat.reduceAdd, Nat.reduceSub, Nat.reduceLeDiff, Nat.reduceEqDiff, Int.reduceAdd, Int.reduceNeg, Int.reduceSub, Int.reduceLT, Int.reduceLE, Int.reduceMul, Int.reduceEq, List.drop_zero, List.drop_succ_cons, ne_eq, not_false_eq_true, not_true_eq_false, false_and, and_false, false_implies, true_implies, reduceIte, mmU_rd, implies_true, or_false, false_or, or_true, true_or]
        have e23 : I4 11 0 23 = r 6 1 := (f5 11 0 23 (by unfold SNt; omega)).trans hG.2.1
        rw [q5, e23, h4.2.2.2.1]
        refine ⟨by omega, ?_⟩
        refine mT_use (m_num h4 (by omega)) (fun v I5 q => ?_)
        rcases q with ⟨e, hn, rfl, q⟩ | ⟨hn, b7, b8, b9, rfl, q6, q7, -, h5⟩
        · rw [hn, pB_l] at hZ
          simp only [mmK_cut cd_165, q_cons, q_G0, q_GS, q_I1, q_L1, q_A1, q_S0, q_S1, q_SS, q_T0, q_T1, q_TS, q_Kn, q_Ki, q_Kl, q_Kr, q_k0, q_kS, q_rc, q_ps, q_pn, q_aload0, q_getfieldI, q_bipush, q_icmp_ne, q_iconst, q_invV, q_ireturn1, q_icmp_eq, q_getfieldA, q_invS, q_istore1, q_iload1, q_if_ge, q_iadd, q_istore2, q_iload2, q_iastore, q_if_ne, q_isub, q_istore3, q_istore, q_imul, q_iload3, q_iaload, q_if_lt, q_iload, q_putfieldI, q_dupI, q_dupA, rf_11_35, rf_11_41, rf_11_42, rf_11_43, mmKe_1235, mmKe_1241, mmKe_1242, mmKe_1243, mmKo_11, mmLen_1235, mmLen_1241, mmLen_1242, mmLen_1243, mmR32, mmR64, Option.some.injEq, Int.cast_ofNat_Int, and_true, true_and, if_true, if_false, List.length_cons, List.length_nil, Nat.le_refl, Nat.zero_le, Nat.sub_zero, forall_const, reduceCtorEq, Nat.reduceAdd, Nat.reduceSub, Nat.reduceLeDiff, Nat.reduceEqDiff, Int.reduceAdd, Int.reduceNeg, Int.reduceSub, Int.reduceLT, Int.reduceLE, Int.reduceMul, Int.reduceEq, List.drop_zero, List.drop_succ_cons, ne_eq, not_false_eq_true, not_true_eq_false, false_and, and_false, false_implies, true_implies, reduceIte, mmU_rd, implies_true, or_false, false_or, or_true, true_or]
          exact mT_in (MP_l hZ.symm (MF_trans (FrM_N w3.1 f5) q))
        rw [hn, pB_r] at hZ
        have f6 := FrN_trans f5 (FrN_7 q6)
        have hpt := pt_in w0 w1 ⟨b5, b6⟩ ⟨b8, b9⟩
        generalize hx : tkV T s (tkN T s (tkN T s (tkN T s (tkN T s p)))) * r 6 0 + tkV T s (tkN T s (tkN T s (tkN T s p))) = x at *
        simp only [mmK_cut cd_165, q_cons, q_G0, q_GS, q_I1, q_L1, q_A1, q_S0, q_S1, q_SS, q_T0, q_T1, q_TS, q_Kn, q_Ki, q_Kl, q_Kr, q_k0, q_kS, q_rc, q_ps, q_pn, q_aload0, q_getfieldI, q_bipush, q_icmp_ne, q_iconst, q_invV, q_ireturn1, q_icmp_eq, q_getfieldA, q_invS, q_istore1, q_iload1, q_if_ge, q_iadd, q_istore2, q_iload2, q_iastore, q_if_ne, q_isub, q_istore3, q_istore, q_imul, q_iload3, q_iaload, q_if_lt, q_iload, q_putfieldI, q_dupI, q_dupA, rf_11_35, rf_11_41, rf_11_42, rf_11_43, mmKe_1235, mmKe_1241, mmKe_1242, mmKe_1243, mmKo_11, mmLen_1235, mmLen_1241, mmLen_1242, mmLen_1243, mmR32, mmR64, Option.some.injEq, Int.cast_ofNat_Int, and_true, true_and, if_true, if_false, List.length_cons, List.length_nil, Nat.le_refl, Nat.zero_le, Nat.sub_zero, forall_const, reduceCtorEq, Nat.reduceAdd, Nat.reduceSub, Nat.reduceLeDiff, Nat.reduceEqDiff, Int.reduceAdd, Int.reduceNeg, Int.reduceSub, Int.reduceLT, Int.reduceLE, Int.reduceMul, Int.reduceEq, List.drop_zero, List.drop_succ_cons, ne_eq, not_false_eq_true, not_true_eq_false, false_and, and_false, false_implies, true_implies, reduceIte, mmU_rd, implies_true, or_false, false_or, or_true, true_or]
        refine mmC_step ?_
        simp only [cd_165, sg_165_0, sg_165_8, sg_165_18, sg_165_33, sg_165_52, sg_165_68, sg_165_84, sg_165_113, mmK_cut cd_165, q_cons, q_G0, q_GS, q_I1, q_L1, q_A1, q_S0, q_S1, q_SS, q_T0, q_T1, q_TS, q_Kn, q_Ki, q_Kl, q_Kr, q_k0, q_kS, q_rc, q_ps, q_pn, q_aload0, q_getfieldI, q_bipush, q_icmp_ne, q_iconst, q_invV, q_ireturn1, q_icmp_eq, q_getfieldA, q_invS, q_istore1, q_iload1, q_if_ge, q_iadd, q_istore2, q_iload2, q_iastore, q_if_ne, q_isub, q_istore3, q_istore, q_imul, q_iload3, q_iaload, q_if_lt, q_iload, q_putfieldI, q_dupI, q_dupA, rf_11_35, rf_11_41, rf_11_42, rf_11_43, mmKe_1235, mmKe_1241, mmKe_1242, mmKe_1243, mmKo_11, mmLen_1235, mmLen_1241, mmLen_1242, mmLen_1243, mmR32, mmR64, Option.some.injEq, Int.cast_ofNat_Int, and_true, true_and, if_true, if_false, List.length_cons, List.length_nil, Nat.le_refl, Nat.zero_le, Nat.sub_zero, forall_const, reduceCtorEq, Nat.reduceAdd, Nat.reduceSub, Nat.reduceLeDiff, Nat.reduceEqDiff, Int.reduceAdd, Int.reduceNeg, Int.reduceSub, Int.reduceLT, Int.reduceLE, Int.reduceMul, Int.reduceEq, List.drop_zero, List.drop_succ_cons, ne_eq, not_false_eq_true, not_true_eq_false, false_and, and_false, false_implies, true_implies, reduceIte, mmU_rd, implies_true, or_false, false_or, or_true, true_or]
        have e22' : I5 11 0 22 = r 6 0 := (f6 11 0 22 (by unfold SNt; omega)).trans hG.1
        have e25' : I5 11 0 25 = r 6 3 := by
          rw [q6 _ _ _ (by omega), q4 _ _ _ (by omega)]
          show I3 11 0 25 = _
          rw [q2 _ _ _ (by omega)]
          exact h25'
        rw [q7, e22', e25', hx]
        refine ⟨by omega, by omega, by omega, by omega, by omega, by omega, ?_⟩
        have f7 : FrN (r 6 3) I (mmU I5 1243 0 (8 + r 6 3) x) := FrN_trans f6 (FrN_U (by unfold SNt; omega))
        refine sq_find rfl (by omega) (by omega) (by rw [show mmLen 1243 = 16 from rfl]; omega) ?_
        have efd : fdF (fun k => mmU I5 1243 0 (8 + r 6 3) x 1243 0 (8 + k)) x (r 6 3).toNat 0 = fdF (Gr I 22) x (r 6 3).toNat 0 := fdF_congr _ _ (fun k k0 k1 => f7 _ _ _ (by unfold SNt; omega))
        rw [efd]
        have hfx := fdF_in (g := Gr I 22) (x := x) (r 6 3).toNat 0 (by omega)
        have hfn := fdF_none (g := Gr I 22) (x := x) (r 6 3).toNat 0 (by omega)
        generalize fdF (Gr I 22) x (r 6 3).toNat 0 = fx at *
        simp only [mmK_cut cd_165, q_cons, q_G0, q_GS, q_I1, q_L1, q_A1, q_S0, q_S1, q_SS, q_T0, q_T1, q_TS, q_Kn, q_Ki, q_Kl, q_Kr, q_k0, q_kS, q_rc, q_ps, q_pn, q_aload0, q_getfieldI, q_bipush, q_icmp_ne, q_iconst, q_invV, q_ireturn1, q_icmp_eq, q_getfieldA, q_invS, q_istore1, q_iload1, q_if_ge, q_iadd, q_istore2, q_iload2, q_iastore, q_if_ne, q_isub, q_istore3, q_istore, q_imul, q_iload3, q_iaload, q_if_lt, q_iload, q_putfieldI, q_dupI, q_dupA, rf_11_35, rf_11_41, rf_11_42, rf_11_43, mmKe_1235, mmKe_1241, mmKe_1242, mmKe_1243, mmKo_11, mmLen_1235, mmLen_1241, mmLen_1242, mmLen_1243, mmR32, mmR64, Option.some.injEq, Int.cast_ofNat_Int, and_true, true_and, if_true, if_false, List.length_cons, List.length_nil, Nat.le_refl, Nat.zero_le, Nat.sub_zero, forall_const, reduceCtorEq, Nat.reduceAdd, Nat.reduceSub, Nat.reduceLeDiff, Nat.reduceEqDiff, Int.reduceAdd, Int.reduceNeg, Int.reduceSub, Int.reduceLT, Int.reduceLE, Int.reduceMul, Int.reduceEq, List.drop_zero, List.drop_succ_cons, ne_eq, not_false_eq_true, not_true_eq_false, false_and, and_false, false_implies, true_implies, reduceIte, mmU_rd, implies_true, or_false, false_or, or_true, true_or]
        refine ⟨fun c6 => ?_, fun c6 => ?_⟩
        · have hfn := hfn (by omega)
          have hfree : r 714 x = -2 := Classical.byContradiction fun q => by
            obtain ⟨i, i0, i1, i2⟩ := hS.2.2.1 x (by omega) (by omega) q
            exact hfn i i0 (by omega) i2
          rw [if_neg (fun q => q hfree)] at hZ
          refine mmC_step ?_
          simp only [cd_165, sg_165_0, sg_165_8, sg_165_18, sg_165_33, sg_165_52, sg_165_68, sg_165_84, sg_165_113, mmK_cut cd_165, q_cons, q_G0, q_GS, q_I1, q_L1, q_A1, q_S0, q_S1, q_SS, q_T0, q_T1, q_TS, q_Kn, q_Ki, q_Kl, q_Kr, q_k0, q_kS, q_rc, q_ps, q_pn, q_aload0, q_getfieldI, q_bipush, q_icmp_ne, q_iconst, q_invV, q_ireturn1, q_icmp_eq, q_getfieldA, q_invS, q_istore1, q_iload1, q_if_ge, q_iadd, q_istore2, q_iload2, q_iastore, q_if_ne, q_isub, q_istore3, q_istore, q_imul, q_iload3, q_iaload, q_if_lt, q_iload, q_putfieldI, q_dupI, q_dupA, rf_11_35, rf_11_41, rf_11_42, rf_11_43, mmKe_1235, mmKe_1241, mmKe_1242, mmKe_1243, mmKo_11, mmLen_1235, mmLen_1241, mmLen_1242, mmLen_1243, mmR32, mmR64, Option.some.injEq, Int.cast_ofNat_Int, and_true, true_and, if_true, if_false, List.length_cons, List.length_nil, Nat.le_refl, Nat.zero_le, Nat.sub_zero, forall_const, reduceCtorEq, Nat.reduceAdd, Nat.reduceSub, Nat.reduceLeDiff, Nat.reduceEqDiff, Int.reduceAdd, Int.reduceNeg, Int.reduceSub, Int.reduceLT, Int.reduceLE, Int.reduceMul, Int.reduceEq, List.drop_zero, List.drop_succ_cons, ne_eq, not_false_eq_true, not_true_eq_false, false_and, and_false, false_implies, true_implies, reduceIte, mmU_rd, implies_true, or_false, false_or, or_true, true_or]
          rw [e25']
          refine ⟨by omega, ?_⟩
          have f8 : FrN (r 6 3) I (mmU (mmU I5 1243 0 (8 + r 6 3) x) 11 0 25 (r 6 3 + 1)) := FrN_trans f7 (FrN_U (by unfold SNt; omega))
          refine mT_in (Or.inr ⟨_, _, _, hZ.symm, rfl, FrM_N w3.1 f8, PSr_U (PSr_U h5 (by omega)) (by omega), ?_, BL_N f8⟩)
          refine M2_stone hM (by omega) f8 mmU_same ?_ ?_ ?_ (by omega) (by omega) (by omega) (by omega) hfree
          · show I5 1241 0 (8 + r 6 3) = k
            rw [q6 _ _ _ (by omega), q4 _ _ _ (by omega)]
            show I3 1241 0 (8 + r 6 3) = k
            rw [q2 _ _ _ (by omega)]
            exact mmU_same
          · show I5 1242 0 (8 + r 6 3) = _
            rw [q6 _ _ _ (by omega), q4 _ _ _ (by omega)]
            exact mmU_same
          · show mmU I5 1243 0 (8 + r 6 3) x 1243 0 (8 + r 6 3) = x
            exact mmU_same
        · have hb : ¬ r 714 x = -2 := by
            rcases hfx with q | q
            · omega
            · have := hS.1 fx (by omega) (by omega)
              rw [q.2.2] at this
              omega
          rw [if_pos hb] at hZ
          refine mT_use m_wrong (fun v I' q => ?_)
          obtain ⟨rfl, q⟩ := q
          simp only [mmK_cut cd_165, q_cons, q_G0, q_GS, q_I1, q_L1, q_A1, q_S0, q_S1, q_SS, q_T0, q_T1, q_TS, q_Kn, q_Ki, q_Kl, q_Kr, q_k0, q_kS, q_rc, q_ps, q_pn, q_aload0, q_getfieldI, q_bipush, q_icmp_ne, q_iconst, q_invV, q_ireturn1, q_icmp_eq, q_getfieldA, q_invS, q_istore1, q_iload1, q_if_ge, q_iadd, q_istore2, q_iload2, q_iastore, q_if_ne, q_isub, q_istore3, q_istore, q_imul, q_iload3, q_iaload, q_if_lt, q_iload, q_putfieldI, q_dupI, q_dupA, rf_11_35, rf_11_41, rf_11_42, rf_11_43, mmKe_1235, mmKe_1241, mmKe_1242, mmKe_1243, mmKo_11, mmLen_1235, mmLen_1241, mmLen_1242, mmLen_1243, mmR32, mmR64, Option.some.injEq, Int.cast_ofNat_Int, and_true, true_and, if_true, if_false, List.length_cons, List.length_nil, Nat.le_refl, Nat.zero_le, Nat.sub_zero, forall_const, reduceCtorEq, Nat.reduceAdd, Nat.reduceSub, Nat.reduceLeDiff, Nat.reduceEqDiff, Int.reduceAdd, Int.reduceNeg, Int.reduceSub, Int.reduceLT, Int.reduceLE, Int.reduceMul, Int.reduceEq, List.drop_zero, List.drop_succ_cons, ne_eq, not_false_eq_true, not_true_eq_false, false_and, and_false, false_implies, true_implies, reduceIte, mmU_rd, implies_true, or_false, false_or, or_true, true_or]
          refine mT_in (MP_l hZ.symm (MF_trans (FrM_N w3.1 (FrN_trans f7 (FrN_U ?_))) q))
          unfold SNt; omega
      · rw [if_pos (by omega)] at hZ
        refine mT_use m_wrong (fun v I' q => ?_)
        obtain ⟨rfl, q⟩ := q
        simp only [mmK_cut cd_165, q_cons, q_G0, q_GS, q_I1, q_L1, q_A1, q_S0, q_S1, q_SS, q_T0, q_T1, q_TS, q_Kn, q_Ki, q_Kl, q_Kr, q_k0, q_kS, q_rc, q_ps, q_pn, q_aload0, q_getfieldI, q_bipush, q_icmp_ne, q_iconst, q_invV, q_ireturn1, q_icmp_eq, q_getfieldA, q_invS, q_istore1, q_iload1, q_if_ge, q_iadd, q_istore2, q_iload2, q_iastore, q_if_ne, q_isub, q_istore3, q_istore, q_imul, q_iload3, q_iaload, q_if_lt, q_iload, q_putfieldI, q_dupI, q_dupA, rf_11_35, rf_11_41, rf_11_42, rf_11_43, mmKe_1235, mmKe_1241, mmKe_1242, mmKe_1243, mmKo_11, mmLen_1235, mmLen_1241, mmLen_1242, mmLen_1243, mmR32, mmR64, Option.some.injEq, Int.cast_ofNat_Int, and_true, true_and, if_true, if_false, List.length_cons, List.length_nil, Nat.le_refl, Nat.zero_le, Nat.sub_zero, forall_const, reduceCtorEq, Nat.reduceAdd, Nat.reduceSub, Nat.reduceLeDiff, Nat.reduceEqDiff, Int.reduceAdd, Int.reduceNeg, Int.reduceSub, Int.reduceLT, Int.reduceLE, Int.reduceMul, Int.reduceEq, List.drop_zero, List.drop_succ_cons, ne_eq, not_false_eq_true, not_true_eq_false, false_and, and_false, false_implies, true_implies, reduceIte, mmU_rd, implies_true, or_false, false_or, or_true, true_or]
        exact mT_in (MP_l hZ.symm (MF_trans (FrM_7 f1) (MF_wrong h1 q)))
    · rw [if_pos (fun q => c2 (hR1.1.mpr q))] at hZ
      refine mT_use m_wrong (fun v I' q => ?_)
      obtain ⟨rfl, q⟩ := q
      simp only [mmK_cut cd_165, q_cons, q_G0, q_GS, q_I1, q_L1, q_A1, q_S0, q_S1, q_SS, q_T0, q_T1, q_TS, q_Kn, q_Ki, q_Kl, q_Kr, q_k0, q_kS, q_rc, q_ps, q_pn, q_aload0, q_getfieldI, q_bipush, q_icmp_ne, q_iconst, q_invV, q_ireturn1, q_icmp_eq, q_getfieldA, q_invS, q_istore1, q_iload1, q_if_ge, q_iadd, q_istore2, q_iload2, q_iastore, q_if_ne, q_isub, q_istore3, q_istore, q_imul, q_iload3, q_iaload, q_if_lt, q_iload, q_putfieldI, q_dupI, q_dupA, rf_11_35, rf_11_41, rf_11_42, rf_11_43, mmKe_1235, mmKe_1241, mmKe_1242, mmKe_1243, mmKo_11, mmLen_1235, mmLen_1241, mmLen_1242, mmLen_1243, mmR32, mmR64, Option.some.injEq, Int.cast_ofNat_Int, and_true, true_and, if_true, if_false, List.length_cons, List.length_nil, Nat.le_refl, Nat.zero_le, Nat.sub_zero, forall_const, reduceCtorEq, Nat.reduceAdd, Nat.reduceSub, Nat.reduceLeDiff, Nat.reduceEqDiff, Int.reduceAdd, Int.reduceNeg, Int.reduceSub, Int.reduceLT, Int.reduceLE, Int.reduceMul, Int.reduceEq, List.drop_zero, List.drop_succ_cons, ne_eq, not_false_eq_true, not_true_eq_false, false_and, and_false, false_implies, true_implies, reduceIte, mmU_rd, implies_true, or_false, false_or, or_true, true_or]
      exact mT_in (MP_l hZ.symm (MF_trans (FrM_7 f1) (MF_wrong h1 q)))
  · rw [if_pos (by omega)] at hZ
    refine mT_use m_wrong (fun v I' q => ?_)
    obtain ⟨rfl, q⟩ := q
    simp only [mmK_cut cd_165, q_cons, q_G0, q_GS, q_I1, q_L1, q_A1, q_S0, q_S1, q_SS, q_T0, q_T1, q_TS, q_Kn, q_Ki, q_Kl, q_Kr, q_k0, q_kS, q_rc, q_ps, q_pn, q_aload0, q_getfieldI, q_bipush, q_icmp_ne, q_iconst, q_invV, q_ireturn1, q_icmp_eq, q_getfieldA, q_invS, q_istore1, q_iload1, q_if_ge, q_iadd, q_istore2, q_iload2, q_iastore, q_if_ne, q_isub, q_istore3, q_istore, q_imul, q_iload3, q_iaload, q_if_lt, q_iload, q_putfieldI, q_dupI, q_dupA, rf_11_35, rf_11_41, rf_11_42, rf_11_43, mmKe_1235, mmKe_1241, mmKe_1242, mmKe_1243, mmKo_11, mmLen_1235, mmLen_1241, mmLen_1242, mmLen_1243, mmR32, mmR64, Option.some.injEq, Int.cast_ofNat_Int, and_true, true_and, if_true, if_false, List.length_cons, List.length_nil, Nat.le_refl, Nat.zero_le, Nat.sub_zero, forall_const, reduceCtorEq, Nat.reduceAdd, Nat.reduceSub, Nat.reduceLeDiff, Nat.reduceEqDiff, Int.reduceAdd, Int.reduceNeg, Int.reduceSub, Int.reduceLT, Int.reduceLE, Int.reduceMul, Int.reduceEq, List.drop_zero, List.drop_succ_cons, ne_eq, not_false_eq_true, not_true_eq_false, false_and, and_false, false_implies, true_implies, reduceIte, mmU_rd, implies_true, or_false, false_or, or_true, true_or]
    exact mT_in (MP_l hZ.symm (MF_wrong h q))
end S74
