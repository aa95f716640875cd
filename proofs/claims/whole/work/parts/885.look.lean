section S885
variable {d a D y y' : Nat} {I I1 I2 I' I'' : mMm} {br br' : Nat → Option mmO} {X : mmX} {L L' M M' : Nat → Int → Int} {r : mRu} {S : Int → Int} {len n w k v p q s i m : Int} {z : mmV} {args args' : List mmV} {Q : Option mmV → mmM → Prop} {l5 l6 : Option mmV}
/-- behind the law's look: what was thrown, and the reference's look -/
def pRo (X : mmX) (S : Int → Int) (len n : Int) (D : Nat) (p q : Int) (u : Option mmV) (μ : mmM) : Prop :=
  ∃ (z : Int) (I1 : mMm) (br1 : Nat → Option mmO) (a1 : Nat), u = some (mv z) ∧ μ = (I1, mmRf a1 br1, X) ∧ SC I1 S len ∧ ∀ X' : mmX, mmC D 172 [mo 11 0, mv p, mv q] (I1, mmRf a1 br1, X') (fun u' μ' => ∃ b : Int, u' = some (mv b) ∧ ∃ I2 br2 a2, μ' = (I2, mmRf a2 br2, X') ∧ I2 11 0 2 = z ∧ (z = 0 → I2 1300 0 0 = b) ∧ CPx I2 br2 a2 S len (n + 1))
theorem CP_1300 (h : CPr I br a r L n) : CPr (mmU I 1300 0 0 v) br a r L n := by
  have g : ∀ t i k, ¬ t = 1300 → mmU I 1300 0 0 v t i k = I t i k := fun t i k ht => uO (by omega)
  obtain ⟨c1, c2, c3, c4, c5, c6, c7⟩ := h
  have hE : LE L (Lm (mmU I 1300 0 0 v)) := LE_ext (fun _ _ _ => rfl) (fun f k _ => Lm_ext (fun t k ht => g _ _ _ (by omega)) f k) c3
  exact ⟨CI_fr c1 (fun t i k ht _ => g _ _ _ (by omega)), ⟨RK_ext c2.1 (fun k hk => g _ _ _ (by omega)) (fun t k q1 q2 => g _ _ _ (by omega)), c2.2.1, ME_of hE, c2.2.2.2⟩, hE, c4, TpQ_ext c5 (fun t i k ht => g _ _ _ (by omega)), IM_ext c6 (fun t i k ht => g _ _ _ (by omega)), by rw [g _ _ _ (by omega)]; exact c7⟩
theorem p_look (hS : SC I S len) (h : CPr I br a r L n) : mmC (d + 13) 256 [mo 10 0, mv p, mv q, mo 1300 0] (I, mmRf a br, X) (pRo X S len n (d + 13) p q) := by
  have hC := h.1.1
  have hR := h.2.1.1
  obtain ⟨hE, hLw, hw⟩ := id hR
  have e14 : I 11 0 14 = r 6 2 := hE.1.2.2.1
  have w2 : 0 ≤ r 6 2 ∧ r 6 2 ≤ 4 := hw.2.2.1
  have e2 : I 6 a 2 = r 6 2 := hC 6 2 rt6
  have hk : ∀ k, 0 ≤ k → k < r 6 2 → I 1236 0 k = r 709 k ∧ I 1237 0 k = r 710 k ∧ I 1238 0 k = r 711 k := fun k k0 k1 => ⟨(hE.2.1 k k0 k1).2.1, (hE.2.1 k k0 k1).2.2.1, (hE.2.1 k k0 k1).2.2.2.1⟩
  have c9 : ∀ k, I 709 a k = r 709 k := fun k => hC 709 k (by unfold rtag; omega)
  have c10 : ∀ k, I 710 a k = r 710 k := fun k => hC 710 k (by unfold rtag; omega)
  have c11 : ∀ k, I 711 a k = r 711 k := fun k => hC 711 k (by unfold rtag; omega)
  have hthr : ∀ t, CPx (mmU (mmU I 11 0 2 0) 11 0 2 t) br a S len (n + 1) := fun t => by
    have := p_end2 hS h (v := t)
    have e : mmU (mmU I 11 0 2 0) 11 0 2 t = mmU I 11 0 2 t := by
      funext t' i' k'
      unfold mmU
      split <;> rfl
    rw [e]; exact this
  have hb : ∀ x : Int, bI (x ≠ 0) = if x = 0 then 0 else 1 := fun x => by
    by_cases c : x = 0
    · rw [bI_neg (by simp [c]), if_pos c]
    · rw [bI_pos c, if_neg c]
  have fin : ∀ v b : Int, v = b → (∀ (X' : mmX) Q, ¬ (0 ≤ p ∧ p < r 6 2) ∨ Q (some (mv b)) (mmU (mmU I 1300 0 0 v) 11 0 2 0, mmRf a br, X') → mmC (d + 13) 172 [mo 11 0, mv p, mv q] (mmU I 1300 0 0 v, mmRf a br, X') Q) → 0 ≤ p → p < r 6 2 → pRo X S len n (d + 13) p q (some (mv 0)) (mmU I 1300 0 0 v, mmRf a br, X) := by
    intro v b hvb hm p0 p1
    have hS1 : SC (mmU I 1300 0 0 v) S len := SC_ext hS (fun t i k ht => uO (by omega))
    refine ⟨0, _, br, a, rfl, rfl, hS1, fun X' => hm X' _ (Or.inr ⟨b, rfl, _, br, a, rfl, uS, fun _ => ?_, p_end2 hS1 (CP_1300 h)⟩)⟩
    rw [uO (by omega), uS, hvb]
  have hm : ∀ v b : Int, (q = 0 → bI (r 709 p ≠ 0) = b) → (q = 1 → r 711 p = b) → (q = 2 → bI (r 710 p ≠ 0) = b) → (0 ≤ q ∧ q ≤ 2) → ∀ (X' : mmX) Q, ¬ (0 ≤ p ∧ p < r 6 2) ∨ Q (some (mv b)) (mmU (mmU I 1300 0 0 v) 11 0 2 0, mmRf a br, X') → 0 ≤ p → p < r 6 2 → mmC (d + 13) 172 [mo 11 0, mv p, mv q] (mmU I 1300 0 0 v, mmRf a br, X') Q := by
    intro v b b0 b1 b2 hq X' Q hQ p0 p1
    have hQ := hQ.resolve_left (fun c => c ⟨p0, p1⟩)
    have e : mmU I 1300 0 0 v 11 0 14 = r 6 2 := (uO (by omega)).trans e14
    refine sq_look (by rw [e]; exact w2) (fun c => absurd ⟨p0, by rw [e]; exact p1⟩ c) (fun _ c => absurd hq c) (fun _ c => ?_) (fun _ c => ?_) (fun _ c => ?_)
    · rw [uO (by omega), (hk p p0 p1).1, b0 c]; exact hQ
    · rw [uO (by omega), (hk p p0 p1).2.2, b1 c]; exact hQ
    · rw [uO (by omega), (hk p p0 p1).2.1, b2 c]; exact hQ
  show mmKo 10 = some 10 ∧ mmKe 1300 = 2 ∧ ∃ ru ra rk rs : mmO, _
  refine ⟨mmKo_10, mmKe_1300, (6, a), (709, a), (710, a), (711, a), rfl, mmKo_6, rfl, mmKe_709, mmLen_709, rfl, mmKe_710, mmLen_710, rfl, mmKe_711, mmLen_711, ?_, ?_, fun c => ?_, fun p0 p1 => ⟨fun c => ?_, fun c => ?_, fun c => ?_, fun c => ?_⟩⟩
  · show I 6 a 2 ≤ 4
    omega
  · show 1 ≤ mmLen 1300
    rw [mmLen_1300]; omega
  · have c' : p < 0 ∨ r 6 2 ≤ p := by rw [← e2]; exact c
    exact ⟨1, I, br, a, rfl, rfl, hS, fun X' => sq_look (by rw [e14]; exact w2) (fun _ => ⟨0, rfl, _, br, a, rfl, uS, fun z => by omega, hthr 1⟩) (fun z _ => by omega) (fun z _ => by omega) (fun z _ => by omega) (fun z _ => by omega)⟩
  · have p1 : p < r 6 2 := by rw [← e2]; exact p1
    show pRo X S len n (d + 13) p q (some (mv 0)) (mmU I 1300 0 0 (if I 709 a p = 0 then 0 else 1), mmRf a br, X)
    rw [c9]
    exact fin _ (bI (r 709 p ≠ 0)) (hb _).symm (fun X' Q hQ => hm _ _ (fun _ => rfl) (fun _ => by omega) (fun _ => by omega) (by omega) X' Q hQ p0 p1) p0 p1
  · have p1 : p < r 6 2 := by rw [← e2]; exact p1
    show pRo X S len n (d + 13) p q (some (mv 0)) (mmU I 1300 0 0 (I 711 a p), mmRf a br, X)
    rw [c11]
    exact fin _ (r 711 p) rfl (fun X' Q hQ => hm _ _ (fun _ => by omega) (fun _ => rfl) (fun _ => by omega) (by omega) X' Q hQ p0 p1) p0 p1
  · have p1 : p < r 6 2 := by rw [← e2]; exact p1
    show pRo X S len n (d + 13) p q (some (mv 0)) (mmU I 1300 0 0 (if I 710 a p = 0 then 0 else 1), mmRf a br, X)
    rw [c10]
    exact fin _ (bI (r 710 p ≠ 0)) (hb _).symm (fun X' Q hQ => hm _ _ (fun _ => by omega) (fun _ => by omega) (fun _ => rfl) (by omega) X' Q hQ p0 p1) p0 p1
  · have p1 : p < r 6 2 := by rw [← e2]; exact p1
    exact ⟨2, I, br, a, rfl, rfl, hS, fun X' => sq_look (by rw [e14]; exact w2) (fun z => by omega) (fun _ _ => ⟨0, rfl, _, br, a, rfl, uS, fun z => by omega, hthr 2⟩) (fun _ z => by omega) (fun _ z => by omega) (fun _ z => by omega)⟩
theorem lw_133 (hn : n < 900) (hi : 0 ≤ i ∧ i + 6 ≤ len ∧ len ≤ 3072) (hX : 1 ≤ X.2.1 ∧ 8 ≤ X.2.2) (hS : SC I S len) (h : CPr I br a r L n) (hgo : lwG d Q S len n i X) : mmK (d + 13) 257 Q 133 (lwL i l5 l6) [] (I, mmRf a br, X) := by
  refine mmC_step ?_
  simp only [cd_257, sg_257_0, sg_257_13, sg_257_25, sg_257_82, sg_257_99, sg_257_116, sg_257_133, sg_257_166, sg_257_177, sg_257_178, sg_257_195, sg_257_242, sg_257_279, sg_257_316, sg_257_343, sg_257_380, sg_257_397, sg_257_424, sg_257_451, sg_257_478, sg_257_495, sg_257_512, sg_257_529, sg_257_556, sg_257_584, sg_257_631, sg_257_658, sg_257_705, sg_257_752, sg_257_789, sg_257_806, sg_257_833, sg_257_860, sg_257_867, sg_257_904, sg_257_911, sg_257_918, sg_257_925, sg_257_942, sg_257_944, mmK_cut cd_257, q_cons, q_G0, q_GS, q_I1, q_L1, q_A1, q_S0, q_S1, q_SS, q_T0, q_T1, q_TS, q_Kn, q_Ki, q_Kl, q_Kr, q_k0, q_kS, q_rc, q_ps, q_pn, q_new, q_dupI, q_dupA, q_astore1, q_astore2, q_iconst, q_newarray, q_astore3, q_istore, q_iload, q_aload0, q_arraylengthX, q_bipush, q_isub, q_icmp_gt, q_ialoadX, q_iand, q_w0, q_wS, q_l0, q_lS, q_tableswitch, q_aload1, q_iadd, q_aload2, q_icmp_eq, q_ireturn1, q_aload3, q_if_ne, q_laload, q_i2l, q_lcmp, q_if_eq, q_goto, q_iinc, mmKe_1300, mmKo_10, mmKo_11, mmLen_1300, mmR32, mmR64, Option.some.injEq, Int.cast_ofNat_Int, and_true, true_and, if_true, if_false, List.length_cons, List.length_nil, Nat.le_refl, Nat.zero_le, Nat.sub_zero, forall_const, reduceCtorEq, Nat.reduceAdd, Nat.reduceSub, Nat.reduceLeDiff, Nat.reduceEqDiff, Int.reduceAdd, Int.reduceNeg, Int.reduceSub, Int.reduceLT, Int.reduceLE, Int.reduceMul, Int.reduceEq, List.drop_zero, List.drop_succ_cons, ne_eq, not_false_eq_true, not_true_eq_false, false_and, and_false, false_implies, true_implies, reduceIte, mmU_rd, implies_true, or_false, false_or, or_true, true_or, hS.1, hS.2]
  refine ⟨by omega, by omega, by omega, by omega, by omega, by omega, ?_⟩
  rw [q_invS (pay := [])]
  simp only [q_k0, q_kS]
  refine ⟨Nat.le_of_ble_eq_true rfl, hX.1, hX.2, ?_⟩
  refine mmC_mono (p_look hS h) (fun u μ hu => ?_)
  obtain ⟨z, I1, b1, a1, rfl, rfl, hS1, hC1⟩ := hu
  simp only [mmK_cut cd_257, q_cons, q_G0, q_GS, q_I1, q_L1, q_A1, q_S0, q_S1, q_SS, q_T0, q_T1, q_TS, q_Kn, q_Ki, q_Kl, q_Kr, q_k0, q_kS, q_rc, q_ps, q_pn, q_new, q_dupI, q_dupA, q_astore1, q_astore2, q_iconst, q_newarray, q_astore3, q_istore, q_iload, q_aload0, q_arraylengthX, q_bipush, q_isub, q_icmp_gt, q_ialoadX, q_iand, q_w0, q_wS, q_l0, q_lS, q_tableswitch, q_aload1, q_iadd, q_aload2, q_icmp_eq, q_ireturn1, q_aload3, q_if_ne, q_laload, q_i2l, q_lcmp, q_if_eq, q_goto, q_iinc, mmKe_1300, mmKo_10, mmKo_11, mmLen_1300, mmR32, mmR64, Option.some.injEq, Int.cast_ofNat_Int, and_true, true_and, if_true, if_false, List.length_cons, List.length_nil, Nat.le_refl, Nat.zero_le, Nat.sub_zero, forall_const, reduceCtorEq, Nat.reduceAdd, Nat.reduceSub, Nat.reduceLeDiff, Nat.reduceEqDiff, Int.reduceAdd, Int.reduceNeg, Int.reduceSub, Int.reduceLT, Int.reduceLE, Int.reduceMul, Int.reduceEq, List.drop_zero, List.drop_succ_cons, ne_eq, not_false_eq_true, not_true_eq_false, false_and, and_false, false_implies, true_implies, reduceIte, mmU_rd, implies_true, or_false, false_or, or_true, true_or, hS1.1, hS1.2]
  refine ⟨by omega, by omega, by omega, by omega, by omega, by omega, ?_⟩
  rw [q_invV (pay := [])]
  simp only [q_k0, q_kS, q_rc, mmKo_11]
  refine ⟨Nat.le_of_ble_eq_true rfl, by trivial, Nat.zero_le _, Nat.zero_le _, ?_⟩
  refine mmC_mono (hC1 _) (fun u' μ' hu' => ?_)
  obtain ⟨b, rfl, I2, b2, a2, rfl, e2, e3, hC2⟩ := hu'
  simp only [mmK_cut cd_257, q_cons, q_G0, q_GS, q_I1, q_L1, q_A1, q_S0, q_S1, q_SS, q_T0, q_T1, q_TS, q_Kn, q_Ki, q_Kl, q_Kr, q_k0, q_kS, q_rc, q_ps, q_pn, q_new, q_dupI, q_dupA, q_astore1, q_astore2, q_iconst, q_newarray, q_astore3, q_istore, q_iload, q_aload0, q_arraylengthX, q_bipush, q_isub, q_icmp_gt, q_ialoadX, q_iand, q_w0, q_wS, q_l0, q_lS, q_tableswitch, q_aload1, q_iadd, q_aload2, q_icmp_eq, q_ireturn1, q_aload3, q_if_ne, q_laload, q_i2l, q_lcmp, q_if_eq, q_goto, q_iinc, mmKe_1300, mmKo_10, mmKo_11, mmLen_1300, mmR32, mmR64, Option.some.injEq, Int.cast_ofNat_Int, and_true, true_and, if_true, if_false, List.length_cons, List.length_nil, Nat.le_refl, Nat.zero_le, Nat.sub_zero, forall_const, reduceCtorEq, Nat.reduceAdd, Nat.reduceSub, Nat.reduceLeDiff, Nat.reduceEqDiff, Int.reduceAdd, Int.reduceNeg, Int.reduceSub, Int.reduceLT, Int.reduceLE, Int.reduceMul, Int.reduceEq, List.drop_zero, List.drop_succ_cons, ne_eq, not_false_eq_true, not_true_eq_false, false_and, and_false, false_implies, true_implies, reduceIte, mmU_rd, implies_true, or_false, false_or, or_true, true_or]
  rw [q_invV (pay := [])]
  simp only [q_k0, q_kS, q_rc, mmKo_11]
  refine ⟨Nat.le_of_ble_eq_true rfl, by trivial, Nat.zero_le _, Nat.zero_le _, ?_⟩
  refine sq_thrown ?_
  have j177 : mmK (d + 13) 257 Q 177 [some (mo 1301 0), some (mo 10 0), some (mo 11 0), some (mo 1300 0), some (Sum.inl i), some (Sum.inl z), some (Sum.inl b)] [] (I2, mmRf a2 b2, X.1, X.2.1 - 1 - 0 - 0, X.2.2 - 8 - 0 - 0) := by
    refine mmC_step ?_
    simp only [cd_257, sg_257_0, sg_257_13, sg_257_25, sg_257_82, sg_257_99, sg_257_116, sg_257_133, sg_257_166, sg_257_177, sg_257_178, sg_257_195, sg_257_242, sg_257_279, sg_257_316, sg_257_343, sg_257_380, sg_257_397, sg_257_424, sg_257_451, sg_257_478, sg_257_495, sg_257_512, sg_257_529, sg_257_556, sg_257_584, sg_257_631, sg_257_658, sg_257_705, sg_257_752, sg_257_789, sg_257_806, sg_257_833, sg_257_860, sg_257_867, sg_257_904, sg_257_911, sg_257_918, sg_257_925, sg_257_942, sg_257_944, mmK_cut cd_257, q_cons, q_G0, q_GS, q_I1, q_L1, q_A1, q_S0, q_S1, q_SS, q_T0, q_T1, q_TS, q_Kn, q_Ki, q_Kl, q_Kr, q_k0, q_kS, q_rc, q_ps, q_pn, q_new, q_dupI, q_dupA, q_astore1, q_astore2, q_iconst, q_newarray, q_astore3, q_istore, q_iload, q_aload0, q_arraylengthX, q_bipush, q_isub, q_icmp_gt, q_ialoadX, q_iand, q_w0, q_wS, q_l0, q_lS, q_tableswitch, q_aload1, q_iadd, q_aload2, q_icmp_eq, q_ireturn1, q_aload3, q_if_ne, q_laload, q_i2l, q_lcmp, q_if_eq, q_goto, q_iinc, mmKe_1300, mmKo_10, mmKo_11, mmLen_1300, mmR32, mmR64, Option.some.injEq, Int.cast_ofNat_Int, and_true, true_and, if_true, if_false, List.length_cons, List.length_nil, Nat.le_refl, Nat.zero_le, Nat.sub_zero, forall_const, reduceCtorEq, Nat.reduceAdd, Nat.reduceSub, Nat.reduceLeDiff, Nat.reduceEqDiff, Int.reduceAdd, Int.reduceNeg, Int.reduceSub, Int.reduceLT, Int.reduceLE, Int.reduceMul, Int.reduceEq, List.drop_zero, List.drop_succ_cons, ne_eq, not_false_eq_true, not_true_eq_false, false_and, and_false, false_implies, true_implies, reduceIte, mmU_rd, implies_true, or_false, false_or, or_true, true_or]
    exact hgo I2 b2 a2 _ _ _ _ (by omega) (by omega) hC2
  simp only [mmK_cut cd_257, q_cons, q_G0, q_GS, q_I1, q_L1, q_A1, q_S0, q_S1, q_SS, q_T0, q_T1, q_TS, q_Kn, q_Ki, q_Kl, q_Kr, q_k0, q_kS, q_rc, q_ps, q_pn, q_new, q_dupI, q_dupA, q_astore1, q_astore2, q_iconst, q_newarray, q_astore3, q_istore, q_iload, q_aload0, q_arraylengthX, q_bipush, q_isub, q_icmp_gt, q_ialoadX, q_iand, q_w0, q_wS, q_l0, q_lS, q_tableswitch, q_aload1, q_iadd, q_aload2, q_icmp_eq, q_ireturn1, q_aload3, q_if_ne, q_laload, q_i2l, q_lcmp, q_if_eq, q_goto, q_iinc, mmKe_1300, mmKo_10, mmKo_11, mmLen_1300, mmR32, mmR64, Option.some.injEq, Int.cast_ofNat_Int, and_true, true_and, if_true, if_false, List.length_cons, List.length_nil, Nat.le_refl, Nat.zero_le, Nat.sub_zero, forall_const, reduceCtorEq, Nat.reduceAdd, Nat.reduceSub, Nat.reduceLeDiff, Nat.reduceEqDiff, Int.reduceAdd, Int.reduceNeg, Int.reduceSub, Int.reduceLT, Int.reduceLE, Int.reduceMul, Int.reduceEq, List.drop_zero, List.drop_succ_cons, ne_eq, not_false_eq_true, not_true_eq_false, false_and, and_false, false_implies, true_implies, reduceIte, mmU_rd, implies_true, or_false, false_or, or_true, true_or]
  refine ⟨fun _ => ?_, fun c => absurd e2 c⟩
  refine mmC_step ?_
  simp only [cd_257, sg_257_0, sg_257_13, sg_257_25, sg_257_82, sg_257_99, sg_257_116, sg_257_133, sg_257_166, sg_257_177, sg_257_178, sg_257_195, sg_257_242, sg_257_279, sg_257_316, sg_257_343, sg_257_380, sg_257_397, sg_257_424, sg_257_451, sg_257_478, sg_257_495, sg_257_512, sg_257_529, sg_257_556, sg_257_584, sg_257_631, sg_257_658, sg_257_705, sg_257_752, sg_257_789, sg_257_806, sg_257_833, sg_257_860, sg_257_867, sg_257_904, sg_257_911, sg_257_918, sg_257_925, sg_257_942, sg_257_944, mmK_cut cd_257, q_cons, q_G0, q_GS, q_I1, q_L1, q_A1, q_S0, q_S1, q_SS, q_T0, q_T1, q_TS, q_Kn, q_Ki, q_Kl, q_Kr, q_k0, q_kS, q_rc, q_ps, q_pn, q_new, q_dupI, q_dupA, q_astore1, q_astore2, q_iconst, q_newarray, q_astore3, q_istore, q_iload, q_aload0, q_arraylengthX, q_bipush, q_isub, q_icmp_gt, q_ialoadX, q_iand, q_w0, q_wS, q_l0, q_lS, q_tableswitch, q_aload1, q_iadd, q_aload2, q_icmp_eq, q_ireturn1, q_aload3, q_if_ne, q_laload, q_i2l, q_lcmp, q_if_eq, q_goto, q_iinc, mmKe_1300, mmKo_10, mmKo_11, mmLen_1300, mmR32, mmR64, Option.some.injEq, Int.cast_ofNat_Int, and_true, true_and, if_true, if_false, List.length_cons, List.length_nil, Nat.le_refl, Nat.zero_le, Nat.sub_zero, forall_const, reduceCtorEq, Nat.reduceAdd, Nat.reduceSub, Nat.reduceLeDiff, Nat.reduceEqDiff, Int.reduceAdd, Int.reduceNeg, Int.reduceSub, Int.reduceLT, Int.reduceLE, Int.reduceMul, Int.reduceEq, List.drop_zero, List.drop_succ_cons, ne_eq, not_false_eq_true, not_true_eq_false, false_and, and_false, false_implies, true_implies, reduceIte, mmU_rd, implies_true, or_false, false_or, or_true, true_or, mmKe_1300, mmLen_1300]
  refine ⟨fun _ => j177, fun c => ?_⟩
  rw [e3 c]
  exact ⟨fun _ => j177, fun c => absurd (cmp_0.mpr rfl) c⟩
end S885
