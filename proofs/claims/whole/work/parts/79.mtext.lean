section S79
variable {d a : Nat} {I I' I'' J : mMm} {br : Nat → Option mmO} {R : Nat → Nat → Int → Option mmO} {X : mmX} {T : Int → Int} {s p o k w x op kn h : Int} {e : Int × Int} {r r' r'' : mRu} {Q : Option mmV → mmM → Prop} {P : List Int}
theorem MF_U {t i : Nat} {x v : Int} (h : MF I e I') (h1 : Mt t x) (h2 : ¬ (t = 11 ∧ (x = 4 ∨ x = 5))) (hv : (t = 1236 ∨ t = 1237) → (v = 0 ∨ v = 1) := by intros; omega) : MF I e (mmU I' t i x v) := by
  obtain ⟨q1, q2, q3⟩ := h
  refine ⟨FrM_trans q1 (FrM_U h1 hv), ?_, ?_⟩
  · unfold mmU; rw [if_neg (by omega)]; exact q2
  · unfold mmU; rw [if_neg (by omega)]; exact q3
theorem M2_law (hM : M2 I r o) (hF : FrL (mmU I 11 0 31 1) I') (hr : ∀ t x, ¬ (t = 1 ∨ t = 200) → r' t x = r t x) (hl : LMt I' r') (h1 : (ixS (r' 200) (r' 1 2).toNat).1 = 1) (h64 : r' 1 2 ≤ 64) : M2 I' r' (mmOr o 2) := by
  obtain ⟨g1, g2, g3, g4, g7, g8, g9⟩ := hM
  obtain ⟨t0, t1, t2, t4⟩ := hl
  have e11 : ∀ k : Int, ¬ ((7 ≤ k ∧ k ≤ 11) ∨ k = 47 ∨ k = 26 ∨ (50 ≤ k ∧ k ≤ 55)) → ¬ k = 31 → I' 11 0 k = I 11 0 k := by
    intro k hk hk2
    rw [hF 11 0 k (by unfold LWt; omega)]
    unfold mmU; rw [if_neg (by omega)]
  have eo : ∀ t k, (1235 ≤ t ∧ t ≤ 1243) → I' t 0 k = I t 0 k := by
    intro t k ht
    rw [hF t 0 k (by unfold LWt; omega)]
    unfold mmU; rw [if_neg (by omega)]
  have e31 : I' 11 0 31 = 1 := (hF 11 0 31 (by unfold LWt; omega)).trans mmU_same
  have hG : RE r (Gr I') := by
    refine RG g9 (fun f hf => ?_) (fun f k f1 f2 _ _ => ?_) (fun f k f1 f2 _ _ => ?_) (fun f k f1 f2 _ _ => ?_) g4
    · have : f = 0 ∨ f = 1 ∨ f = 2 ∨ f = 3 ∨ f = 4 ∨ f = 5 ∨ f = 6 ∨ f = 7 := by omega
      rcases this with q | q | q | q | q | q | q | q <;> subst q <;> exact e11 _ (by omega) (by omega)
    · have : f = 8 ∨ f = 9 ∨ f = 10 ∨ f = 11 := by omega
      rcases this with q | q | q | q <;> subst q <;> exact eo _ _ (by omega)
    · have : f = 12 ∨ f = 13 := by omega
      rcases this with q | q <;> subst q <;> exact eo _ _ (by omega)
    · have : f = 20 ∨ f = 21 ∨ f = 22 := by omega
      rcases this with q | q | q <;> subst q <;> exact eo _ _ (by omega)
  refine ⟨(e11 4 (by omega) (by omega)).trans g1, (e11 5 (by omega) (by omega)).trans g2, ?_, RR hr hG, ?_, fun q => by omega, ?_⟩
  · refine TO_or (b := 1) g3 (fun c => ?_)
    match c with
    | 0 => exact e11 30 (by omega) (by omega)
    | 1 => exact e31
    | 2 => exact e11 32 (by omega) (by omega)
    | 3 => exact e11 33 (by omega) (by omega)
    | 4 => exact e11 34 (by omega) (by omega)
  · refine Or.inr ⟨e31, ⟨?_, h64⟩, t1, t4, h1⟩
    apply Classical.byContradiction
    intro q
    have : r' 1 2 = 0 := by omega
    rw [this] at h1
    exact absurd h1 (by show ¬ (0 : Int) = 1; omega)
  · have e6 : r' 6 = r 6 := funext fun x => hr 6 x (by omega)
    unfold RW at g9 ⊢
    rw [e6]
    exact g9
set_option maxHeartbeats 2000000 in
theorem m_line (h : PSr I T s p) (hM : M2 I r o) : mmC (d + 7) 167 [mo 11 0] (I, mmRf a br, X) (mT a br X (MP I T s (tlF (lnF T s p r o) T s))) := by
  obtain ⟨g4, g5, hT, ⟨hG, hK, hS⟩, hL, h53, hW⟩ := id hM
  have hR := TR_key h.2.2.2.2.1
  have hat := h.2.2.2.2.2.2
  generalize hZ : tlF (lnF T s p r o) T s = Z
  have w8 : lnF T s p r o = .inl (1, skE T s p) → mmK (d + 6) 167 (mT a br X (MP I T s Z)) 8 [some (mo 11 0), none] [] (I, mmRf a br, X) := by
    intro c
    rw [c] at hZ
    refine mmC_step ?_
    simp only [cd_167, sg_167_0, sg_167_8, sg_167_12, sg_167_17, sg_167_21, sg_167_25, sg_167_29, sg_167_36, sg_167_45, sg_167_49, sg_167_56, sg_167_71, sg_167_78, sg_167_83, sg_167_87, sg_167_95, mmK_cut cd_167, q_cons, q_G0, q_GS, q_I1, q_L1, q_A1, q_S0, q_S1, q_SS, q_T0, q_T1, q_TS, q_Kn, q_Ki, q_Kl, q_Kr, q_k0, q_kS, q_rc, q_ps, q_pn, q_aload0, q_getfieldI, q_iconst, q_icmp_ne, q_bipush, q_icmp_le, q_invV, q_ireturn1, q_istore1, q_w0, q_wS, q_l0, q_lS, q_tableswitch, q_goto, q_getfieldZ, q_if_eq, q_putfieldZ, q_sipush, q_putfieldI, q_iload1, q_if_ne, mmKo_11, mmR32, mmR64, Option.some.injEq, Int.cast_ofNat_Int, and_true, true_and, if_true, if_false, List.length_cons, List.length_nil, Nat.le_refl, Nat.zero_le, Nat.sub_zero, forall_const, reduceCtorEq, Nat.reduceAdd, Nat.reduceSub, Nat.reduceLeDiff, Nat.reduceEqDiff, Int.reduceAdd, Int.reduceNeg, Int.reduceSub, Int.reduceLT, Int.reduceLE, Int.reduceMul, Int.reduceEq, List.drop_zero, List.drop_succ_cons, ne_eq, not_false_eq_true, not_true_eq_false, false_and, and_false, false_implies, true_implies, reduceIte, mmU_rd, implies_true, or_false, false_or, or_true, true_or]
    refine mT_use m_wrong (fun v I' q => ?_)
    obtain ⟨rfl, q⟩ := q
    simp only [mmK_cut cd_167, q_cons, q_G0, q_GS, q_I1, q_L1, q_A1, q_S0, q_S1, q_SS, q_T0, q_T1, q_TS, q_Kn, q_Ki, q_Kl, q_Kr, q_k0, q_kS, q_rc, q_ps, q_pn, q_aload0, q_getfieldI, q_iconst, q_icmp_ne, q_bipush, q_icmp_le, q_invV, q_ireturn1, q_istore1, q_w0, q_wS, q_l0, q_lS, q_tableswitch, q_goto, q_getfieldZ, q_if_eq, q_putfieldZ, q_sipush, q_putfieldI, q_iload1, q_if_ne, mmKo_11, mmR32, mmR64, Option.some.injEq, Int.cast_ofNat_Int, and_true, true_and, if_true, if_false, List.length_cons, List.length_nil, Nat.le_refl, Nat.zero_le, Nat.sub_zero, forall_const, reduceCtorEq, Nat.reduceAdd, Nat.reduceSub, Nat.reduceLeDiff, Nat.reduceEqDiff, Int.reduceAdd, Int.reduceNeg, Int.reduceSub, Int.reduceLT, Int.reduceLE, Int.reduceMul, Int.reduceEq, List.drop_zero, List.drop_succ_cons, ne_eq, not_false_eq_true, not_true_eq_false, false_and, and_false, false_implies, true_implies, reduceIte, mmU_rd, implies_true, or_false, false_or, or_true, true_or]
    exact mT_in (MP_l hZ.symm (MF_wrong h q))
  have w87 : ∀ (I1 : mMm) (p' : Int) (r' : mRu) (o' : Int) (l1 : Option mmV), lnF T s p r o = .inr (p', r', o') → FrM I I1 → PSr I1 T s p' → M2 I1 r' o' → (BL I → BL I1) → mmK (d + 6) 167 (mT a br X (MP I T s Z)) 87 [some (mo 11 0), l1] [] (I1, mmRf a br, X) := by
    intro I1 p' r' o' l1 c q1 q2 q3 qb
    rw [c] at hZ
    unfold tlF at hZ
    rw [pB_r] at hZ
    simp only at hZ
    refine mmC_step ?_
    simp only [cd_167, sg_167_0, sg_167_8, sg_167_12, sg_167_17, sg_167_21, sg_167_25, sg_167_29, sg_167_36, sg_167_45, sg_167_49, sg_167_56, sg_167_71, sg_167_78, sg_167_83, sg_167_87, sg_167_95, mmK_cut cd_167, q_cons, q_G0, q_GS, q_I1, q_L1, q_A1, q_S0, q_S1, q_SS, q_T0, q_T1, q_TS, q_Kn, q_Ki, q_Kl, q_Kr, q_k0, q_kS, q_rc, q_ps, q_pn, q_aload0, q_getfieldI, q_iconst, q_icmp_ne, q_bipush, q_icmp_le, q_invV, q_ireturn1, q_istore1, q_w0, q_wS, q_l0, q_lS, q_tableswitch, q_goto, q_getfieldZ, q_if_eq, q_putfieldZ, q_sipush, q_putfieldI, q_iload1, q_if_ne, mmKo_11, mmR32, mmR64, Option.some.injEq, Int.cast_ofNat_Int, and_true, true_and, if_true, if_false, List.length_cons, List.length_nil, Nat.le_refl, Nat.zero_le, Nat.sub_zero, forall_const, reduceCtorEq, Nat.reduceAdd, Nat.reduceSub, Nat.reduceLeDiff, Nat.reduceEqDiff, Int.reduceAdd, Int.reduceNeg, Int.reduceSub, Int.reduceLT, Int.reduceLE, Int.reduceMul, Int.reduceEq, List.drop_zero, List.drop_succ_cons, ne_eq, not_false_eq_true, not_true_eq_false, false_and, and_false, false_implies, true_implies, reduceIte, mmU_rd, implies_true, or_false, false_or, or_true, true_or]
    refine sq_isSign ?_
    rw [show (I1 11 0 8 = 4 ∧ I1 11 0 9 = 59) = (tkS T s p' = 3 ∧ tkV T s p' = 59) from propext (TR_sign q2.2.2.2.2.1 (by omega))]
    simp only [mmK_cut cd_167, q_cons, q_G0, q_GS, q_I1, q_L1, q_A1, q_S0, q_S1, q_SS, q_T0, q_T1, q_TS, q_Kn, q_Ki, q_Kl, q_Kr, q_k0, q_kS, q_rc, q_ps, q_pn, q_aload0, q_getfieldI, q_iconst, q_icmp_ne, q_bipush, q_icmp_le, q_invV, q_ireturn1, q_istore1, q_w0, q_wS, q_l0, q_lS, q_tableswitch, q_goto, q_getfieldZ, q_if_eq, q_putfieldZ, q_sipush, q_putfieldI, q_iload1, q_if_ne, mmKo_11, mmR32, mmR64, Option.some.injEq, Int.cast_ofNat_Int, and_true, true_and, if_true, if_false, List.length_cons, List.length_nil, Nat.le_refl, Nat.zero_le, Nat.sub_zero, forall_const, reduceCtorEq, Nat.reduceAdd, Nat.reduceSub, Nat.reduceLeDiff, Nat.reduceEqDiff, Int.reduceAdd, Int.reduceNeg, Int.reduceSub, Int.reduceLT, Int.reduceLE, Int.reduceMul, Int.reduceEq, List.drop_zero, List.drop_succ_cons, ne_eq, not_false_eq_true, not_true_eq_false, false_and, and_false, false_implies, true_implies, reduceIte, mmU_rd, implies_true, or_false, false_or, or_true, true_or, bI_eq0, Classical.not_not]
    refine ⟨fun c2 => ?_, fun c2 => ?_⟩
    · rw [if_pos c2] at hZ
      refine mmC_step ?_
      simp only [cd_167, sg_167_0, sg_167_8, sg_167_12, sg_167_17, sg_167_21, sg_167_25, sg_167_29, sg_167_36, sg_167_45, sg_167_49, sg_167_56, sg_167_71, sg_167_78, sg_167_83, sg_167_87, sg_167_95, mmK_cut cd_167, q_cons, q_G0, q_GS, q_I1, q_L1, q_A1, q_S0, q_S1, q_SS, q_T0, q_T1, q_TS, q_Kn, q_Ki, q_Kl, q_Kr, q_k0, q_kS, q_rc, q_ps, q_pn, q_aload0, q_getfieldI, q_iconst, q_icmp_ne, q_bipush, q_icmp_le, q_invV, q_ireturn1, q_istore1, q_w0, q_wS, q_l0, q_lS, q_tableswitch, q_goto, q_getfieldZ, q_if_eq, q_putfieldZ, q_sipush, q_putfieldI, q_iload1, q_if_ne, mmKo_11, mmR32, mmR64, Option.some.injEq, Int.cast_ofNat_Int, and_true, true_and, if_true, if_false, List.length_cons, List.length_nil, Nat.le_refl, Nat.zero_le, Nat.sub_zero, forall_const, reduceCtorEq, Nat.reduceAdd, Nat.reduceSub, Nat.reduceLeDiff, Nat.reduceEqDiff, Int.reduceAdd, Int.reduceNeg, Int.reduceSub, Int.reduceLT, Int.reduceLE, Int.reduceMul, Int.reduceEq, List.drop_zero, List.drop_succ_cons, ne_eq, not_false_eq_true, not_true_eq_false, false_and, and_false, false_implies, true_implies, reduceIte, mmU_rd, implies_true, or_false, false_or, or_true, true_or]
      refine mT_use (m_token q2) (fun v I2 q => ?_)
      obtain ⟨rfl, q4, -, -, q5⟩ := q
      simp only [mmK_cut cd_167, q_cons, q_G0, q_GS, q_I1, q_L1, q_A1, q_S0, q_S1, q_SS, q_T0, q_T1, q_TS, q_Kn, q_Ki, q_Kl, q_Kr, q_k0, q_kS, q_rc, q_ps, q_pn, q_aload0, q_getfieldI, q_iconst, q_icmp_ne, q_bipush, q_icmp_le, q_invV, q_ireturn1, q_istore1, q_w0, q_wS, q_l0, q_lS, q_tableswitch, q_goto, q_getfieldZ, q_if_eq, q_putfieldZ, q_sipush, q_putfieldI, q_iload1, q_if_ne, mmKo_11, mmR32, mmR64, Option.some.injEq, Int.cast_ofNat_Int, and_true, true_and, if_true, if_false, List.length_cons, List.length_nil, Nat.le_refl, Nat.zero_le, Nat.sub_zero, forall_const, reduceCtorEq, Nat.reduceAdd, Nat.reduceSub, Nat.reduceLeDiff, Nat.reduceEqDiff, Int.reduceAdd, Int.reduceNeg, Int.reduceSub, Int.reduceLT, Int.reduceLE, Int.reduceMul, Int.reduceEq, List.drop_zero, List.drop_succ_cons, ne_eq, not_false_eq_true, not_true_eq_false, false_and, and_false, false_implies, true_implies, reduceIte, mmU_rd, implies_true, or_false, false_or, or_true, true_or]
      exact mT_in (Or.inr ⟨_, _, _, hZ.symm, rfl, FrM_trans q1 (FrM_7 q4), q5, M2_7 q3 q4, fun hb => BL_7 q4 (qb hb)⟩)
    · rw [if_neg c2] at hZ
      refine mT_use m_wrong (fun v I' q => ?_)
      obtain ⟨rfl, q⟩ := q
      simp only [mmK_cut cd_167, q_cons, q_G0, q_GS, q_I1, q_L1, q_A1, q_S0, q_S1, q_SS, q_T0, q_T1, q_TS, q_Kn, q_Ki, q_Kl, q_Kr, q_k0, q_kS, q_rc, q_ps, q_pn, q_aload0, q_getfieldI, q_iconst, q_icmp_ne, q_bipush, q_icmp_le, q_invV, q_ireturn1, q_istore1, q_w0, q_wS, q_l0, q_lS, q_tableswitch, q_goto, q_getfieldZ, q_if_eq, q_putfieldZ, q_sipush, q_putfieldI, q_iload1, q_if_ne, mmKo_11, mmR32, mmR64, Option.some.injEq, Int.cast_ofNat_Int, and_true, true_and, if_true, if_false, List.length_cons, List.length_nil, Nat.le_refl, Nat.zero_le, Nat.sub_zero, forall_const, reduceCtorEq, Nat.reduceAdd, Nat.reduceSub, Nat.reduceLeDiff, Nat.reduceEqDiff, Int.reduceAdd, Int.reduceNeg, Int.reduceSub, Int.reduceLT, Int.reduceLE, Int.reduceMul, Int.reduceEq, List.drop_zero, List.drop_succ_cons, ne_eq, not_false_eq_true, not_true_eq_false, false_and, and_false, false_implies, true_implies, reduceIte, mmU_rd, implies_true, or_false, false_or, or_true, true_or]
      exact mT_in (MP_l hZ.symm (MF_trans q1 (MF_wrong q2 q)))
  have wl : ∀ (I1 : mMm) (e : Int × Int), lnF T s p r o = .inl e → MF I e I1 → mmK (d + 6) 167 (mT a br X (MP I T s Z)) 83 [some (mo 11 0), some (mv 0)] [] (I1, mmRf a br, X) := by
    intro I1 e c q
    rw [c] at hZ
    refine mmC_step ?_
    simp only [cd_167, sg_167_0, sg_167_8, sg_167_12, sg_167_17, sg_167_21, sg_167_25, sg_167_29, sg_167_36, sg_167_45, sg_167_49, sg_167_56, sg_167_71, sg_167_78, sg_167_83, sg_167_87, sg_167_95, mmK_cut cd_167, q_cons, q_G0, q_GS, q_I1, q_L1, q_A1, q_S0, q_S1, q_SS, q_T0, q_T1, q_TS, q_Kn, q_Ki, q_Kl, q_Kr, q_k0, q_kS, q_rc, q_ps, q_pn, q_aload0, q_getfieldI, q_iconst, q_icmp_ne, q_bipush, q_icmp_le, q_invV, q_ireturn1, q_istore1, q_w0, q_wS, q_l0, q_lS, q_tableswitch, q_goto, q_getfieldZ, q_if_eq, q_putfieldZ, q_sipush, q_putfieldI, q_iload1, q_if_ne, mmKo_11, mmR32, mmR64, Option.some.injEq, Int.cast_ofNat_Int, and_true, true_and, if_true, if_false, List.length_cons, List.length_nil, Nat.le_refl, Nat.zero_le, Nat.sub_zero, forall_const, reduceCtorEq, Nat.reduceAdd, Nat.reduceSub, Nat.reduceLeDiff, Nat.reduceEqDiff, Int.reduceAdd, Int.reduceNeg, Int.reduceSub, Int.reduceLT, Int.reduceLE, Int.reduceMul, Int.reduceEq, List.drop_zero, List.drop_succ_cons, ne_eq, not_false_eq_true, not_true_eq_false, false_and, and_false, false_implies, true_implies, reduceIte, mmU_rd, implies_true, or_false, false_or, or_true, true_or]
    exact mT_in (MP_l hZ.symm q)
  have wm : ∀ (v : Option mmV) (I1 : mMm), MP I T s (lnF T s p r o) v I1 → ∃ z, v = some (mv z) ∧ mmK (d + 6) 167 (mT a br X (MP I T s Z)) 83 [some (mo 11 0), some (mv z)] [] (I1, mmRf a br, X) := by
    intro v I1 q
    rcases q with ⟨e, q1, rfl, q2⟩ | ⟨p', r', o', q1, rfl, q2, q3, q4, qb⟩
    · exact ⟨0, rfl, wl I1 e q1 q2⟩
    · refine ⟨1, rfl, ?_⟩
      refine mmC_step ?_
      simp only [cd_167, sg_167_0, sg_167_8, sg_167_12, sg_167_17, sg_167_21, sg_167_25, sg_167_29, sg_167_36, sg_167_45, sg_167_49, sg_167_56, sg_167_71, sg_167_78, sg_167_83, sg_167_87, sg_167_95, mmK_cut cd_167, q_cons, q_G0, q_GS, q_I1, q_L1, q_A1, q_S0, q_S1, q_SS, q_T0, q_T1, q_TS, q_Kn, q_Ki, q_Kl, q_Kr, q_k0, q_kS, q_rc, q_ps, q_pn, q_aload0, q_getfieldI, q_iconst, q_icmp_ne, q_bipush, q_icmp_le, q_invV, q_ireturn1, q_istore1, q_w0, q_wS, q_l0, q_lS, q_tableswitch, q_goto, q_getfieldZ, q_if_eq, q_putfieldZ, q_sipush, q_putfieldI, q_iload1, q_if_ne, mmKo_11, mmR32, mmR64, Option.some.injEq, Int.cast_ofNat_Int, and_true, true_and, if_true, if_false, List.length_cons, List.length_nil, Nat.le_refl, Nat.zero_le, Nat.sub_zero, forall_const, reduceCtorEq, Nat.reduceAdd, Nat.reduceSub, Nat.reduceLeDiff, Nat.reduceEqDiff, Int.reduceAdd, Int.reduceNeg, Int.reduceSub, Int.reduceLT, Int.reduceLE, Int.reduceMul, Int.reduceEq, List.drop_zero, List.drop_succ_cons, ne_eq, not_false_eq_true, not_true_eq_false, false_and, and_false, false_implies, true_implies, reduceIte, mmU_rd, implies_true, or_false, false_or, or_true, true_or]
      exact w87 I1 p' r' o' _ q1 q2 q3 q4 qb
  have wf : ∀ {l1 : Option mmV} {x : Int} {I1 : mMm}, lnF T s p r o = .inl (x, skE T s p) → MF I (x, skE T s p) I1 → mT a br X (MP I T s Z) (some (mv 0)) (I1, mmRf a br, X) := by
    intro l1 x I1 c q
    rw [c] at hZ
    exact mT_in (MP_l hZ.symm q)
  refine mmC_in (by decide) (Nat.le_of_ble_eq_true rfl) (mmC_step ?_)
  simp only [show mmMl 167 = 2 from rfl, mmLs, List.replicate, cd_167, sg_167_0, sg_167_8, sg_167_12, sg_167_17, sg_167_21, sg_167_25, sg_167_29, sg_167_36, sg_167_45, sg_167_49, sg_167_56, sg_167_71, sg_167_78, sg_167_83, sg_167_87, sg_167_95, mmK_cut cd_167, q_cons, q_G0, q_GS, q_I1, q_L1, q_A1, q_S0, q_S1, q_SS, q_T0, q_T1, q_TS, q_Kn, q_Ki, q_Kl, q_Kr, q_k0, q_kS, q_rc, q_ps, q_pn, q_aload0, q_getfieldI, q_iconst, q_icmp_ne, q_bipush, q_icmp_le, q_invV, q_ireturn1, q_istore1, q_w0, q_wS, q_l0, q_lS, q_tableswitch, q_goto, q_getfieldZ, q_if_eq, q_putfieldZ, q_sipush, q_putfieldI, q_iload1, q_if_ne, mmKo_11, mmR32, mmR64, Option.some.injEq, Int.cast_ofNat_Int, and_true, true_and, if_true, if_false, List.length_cons, List.length_nil, Nat.le_refl, Nat.zero_le, Nat.sub_zero, forall_const, reduceCtorEq, Nat.reduceAdd, Nat.reduceSub, Nat.reduceLeDiff, Nat.reduceEqDiff, Int.reduceAdd, Int.reduceNeg, Int.reduceSub, Int.reduceLT, Int.reduceLE, Int.reduceMul, Int.reduceEq, List.drop_zero, List.drop_succ_cons, ne_eq, not_false_eq_true, not_true_eq_false, false_and, and_false, false_implies, true_implies, reduceIte, mmU_rd, implies_true, or_false, false_or, or_true, true_or]
  refine ⟨fun c => w8 ?_, fun c => ⟨fun c2 => ?_, fun c2 => w8 ?_⟩⟩
  · unfold lnF
    by_cases c1 : tkS T s p = 1
    · have hky : kyF (tkV T s p) < 0 := by
        have := hR.1
        omega
      have hno := ky_no.mp hky
      simp only [not_or] at hno
      rw [if_neg (fun q => q c1), if_neg hno.1, if_neg hno.2.2.2.2.2.1, if_neg hno.2.1, if_neg hno.2.2.2.2.2.2.1, if_neg hno.2.2.2.1, if_neg hno.2.2.2.2.1, if_neg hno.2.2.1]
    · rw [if_pos c1]
  · have c1 := hR.1.mp c
    have cw := hR.2 c
    have hln : lnF T s p r o = (if tkV T s p = 82888832 then bdF T s p r o else if tkV T s p = 136104960 then dyF T s p r o else if tkV T s p = 378998784 then kdF T s p r o else if tkV T s p = 404362240 then (if ¬ mmAnd o 16 = 0 then .inl (3, skE T s p) else .inr (tkN T s p, ru r 6 7 1, mmOr o 16)) else if tkV T s p = 404455424 then (if ¬ mmAnd o 2 = 0 then .inl (3, skE T s p) else pB (lwF T s 701 0 (tkN T s p) [] 0 0 r) fun x => .inr (x.1, x.2, mmOr o 2)) else if tkV T s p = 553242624 then psF T s p r o else if tkV T s p = 659011744 then snF T s p r o else .inl (1, skE T s p)) := by
      unfold lnF
      rw [if_neg (fun q => q c1.1)]
    rw [cw] at c2
    refine mmC_step ?_
    simp only [cd_167, sg_167_0, sg_167_8, sg_167_12, sg_167_17, sg_167_21, sg_167_25, sg_167_29, sg_167_36, sg_167_45, sg_167_49, sg_167_56, sg_167_71, sg_167_78, sg_167_83, sg_167_87, sg_167_95, mmK_cut cd_167, q_cons, q_G0, q_GS, q_I1, q_L1, q_A1, q_S0, q_S1, q_SS, q_T0, q_T1, q_TS, q_Kn, q_Ki, q_Kl, q_Kr, q_k0, q_kS, q_rc, q_ps, q_pn, q_aload0, q_getfieldI, q_iconst, q_icmp_ne, q_bipush, q_icmp_le, q_invV, q_ireturn1, q_istore1, q_w0, q_wS, q_l0, q_lS, q_tableswitch, q_goto, q_getfieldZ, q_if_eq, q_putfieldZ, q_sipush, q_putfieldI, q_iload1, q_if_ne, mmKo_11, mmR32, mmR64, Option.some.injEq, Int.cast_ofNat_Int, and_true, true_and, if_true, if_false, List.length_cons, List.length_nil, Nat.le_refl, Nat.zero_le, Nat.sub_zero, forall_const, reduceCtorEq, Nat.reduceAdd, Nat.reduceSub, Nat.reduceLeDiff, Nat.reduceEqDiff, Int.reduceAdd, Int.reduceNeg, Int.reduceSub, Int.reduceLT, Int.reduceLE, Int.reduceMul, Int.reduceEq, List.drop_zero, List.drop_succ_cons, ne_eq, not_false_eq_true, not_true_eq_false, false_and, and_false, false_implies, true_implies, reduceIte, mmU_rd, implies_true, or_false, false_or, or_true, true_or]
    rw [cw]
    refine ⟨⟨fun k0 => ?_, fun k1 => ?_, fun k2 => ?_, fun k3 => ?_, fun k4 => ?_, fun k5 => ?_⟩, fun k6 => ?_⟩
    · have k0 := ky_0.mp k0
      rw [if_pos k0] at hln
      refine mmC_step ?_
      simp only [cd_167, sg_167_0, sg_167_8, sg_167_12, sg_167_17, sg_167_21, sg_167_25, sg_167_29, sg_167_36, sg_167_45, sg_167_49, sg_167_56, sg_167_71, sg_167_78, sg_167_83, sg_167_87, sg_167_95, mmK_cut cd_167, q_cons, q_G0, q_GS, q_I1, q_L1, q_A1, q_S0, q_S1, q_SS, q_T0, q_T1, q_TS, q_Kn, q_Ki, q_Kl, q_Kr, q_k0, q_kS, q_rc, q_ps, q_pn, q_aload0, q_getfieldI, q_iconst, q_icmp_ne, q_bipush, q_icmp_le, q_invV, q_ireturn1, q_istore1, q_w0, q_wS, q_l0, q_lS, q_tableswitch, q_goto, q_getfieldZ, q_if_eq, q_putfieldZ, q_sipush, q_putfieldI, q_iload1, q_if_ne, mmKo_11, mmR32, mmR64, Option.some.injEq, Int.cast_ofNat_Int, and_true, true_and, if_true, if_false, List.length_cons, List.length_nil, Nat.le_refl, Nat.zero_le, Nat.sub_zero, forall_const, reduceCtorEq, Nat.reduceAdd, Nat.reduceSub, Nat.reduceLeDiff, Nat.reduceEqDiff, Int.reduceAdd, Int.reduceNeg, Int.reduceSub, Int.reduceLT, Int.reduceLE, Int.reduceMul, Int.reduceEq, List.drop_zero, List.drop_succ_cons, ne_eq, not_false_eq_true, not_true_eq_false, false_and, and_false, false_implies, true_implies, reduceIte, mmU_rd, implies_true, or_false, false_or, or_true, true_or]
      have q0 := m_board (d := d + 2) (a := a) (br := br) (X := (X.1, 0, 0)) h hM
      rw [← hln] at q0
      refine mT_use q0 (fun v I1 q => ?_)
      obtain ⟨z, rfl, q2⟩ := wm v I1 q
      simp only [mmK_cut cd_167, q_cons, q_G0, q_GS, q_I1, q_L1, q_A1, q_S0, q_S1, q_SS, q_T0, q_T1, q_TS, q_Kn, q_Ki, q_Kl, q_Kr, q_k0, q_kS, q_rc, q_ps, q_pn, q_aload0, q_getfieldI, q_iconst, q_icmp_ne, q_bipush, q_icmp_le, q_invV, q_ireturn1, q_istore1, q_w0, q_wS, q_l0, q_lS, q_tableswitch, q_goto, q_getfieldZ, q_if_eq, q_putfieldZ, q_sipush, q_putfieldI, q_iload1, q_if_ne, mmKo_11, mmR32, mmR64, Option.some.injEq, Int.cast_ofNat_Int, and_true, true_and, if_true, if_false, List.length_cons, List.length_nil, Nat.le_refl, Nat.zero_le, Nat.sub_zero, forall_const, reduceCtorEq, Nat.reduceAdd, Nat.reduceSub, Nat.reduceLeDiff, Nat.reduceEqDiff, Int.reduceAdd, Int.reduceNeg, Int.reduceSub, Int.reduceLT, Int.reduceLE, Int.reduceMul, Int.reduceEq, List.drop_zero, List.drop_succ_cons, ne_eq, not_false_eq_true, not_true_eq_false, false_and, and_false, false_implies, true_implies, reduceIte, mmU_rd, implies_true, or_false, false_or, or_true, true_or]
      exact q2
    · have k1 := ky_1.mp k1
      rw [k1, if_neg (by omega), if_neg (by omega), if_pos rfl] at hln
      refine mmC_step ?_
      simp only [cd_167, sg_167_0, sg_167_8, sg_167_12, sg_167_17, sg_167_21, sg_167_25, sg_167_29, sg_167_36, sg_167_45, sg_167_49, sg_167_56, sg_167_71, sg_167_78, sg_167_83, sg_167_87, sg_167_95, mmK_cut cd_167, q_cons, q_G0, q_GS, q_I1, q_L1, q_A1, q_S0, q_S1, q_SS, q_T0, q_T1, q_TS, q_Kn, q_Ki, q_Kl, q_Kr, q_k0, q_kS, q_rc, q_ps, q_pn, q_aload0, q_getfieldI, q_iconst, q_icmp_ne, q_bipush, q_icmp_le, q_invV, q_ireturn1, q_istore1, q_w0, q_wS, q_l0, q_lS, q_tableswitch, q_goto, q_getfieldZ, q_if_eq, q_putfieldZ, q_sipush, q_putfieldI, q_iload1, q_if_ne, mmKo_11, mmR32, mmR64, Option.some.injEq, Int.cast_ofNat_Int, and_true, true_and, if_true, if_false, List.length_cons, List.length_nil, Nat.le_refl, Nat.zero_le, Nat.sub_zero, forall_const, reduceCtorEq, Nat.reduceAdd, Nat.reduceSub, Nat.reduceLeDiff, Nat.reduceEqDiff, Int.reduceAdd, Int.reduceNeg, Int.reduceSub, Int.reduceLT, Int.reduceLE, Int.reduceMul, Int.reduceEq, List.drop_zero, List.drop_succ_cons, ne_eq, not_false_eq_true, not_true_eq_false, false_and, and_false, false_implies, true_implies, reduceIte, mmU_rd, implies_true, or_false, false_or, or_true, true_or]
      have q0 := m_kind (d := d) (a := a) (br := br) (X := (X.1, 0, 0)) h hM
      rw [← hln] at q0
      refine mT_use q0 (fun v I1 q => ?_)
      obtain ⟨z, rfl, q2⟩ := wm v I1 q
      simp only [mmK_cut cd_167, q_cons, q_G0, q_GS, q_I1, q_L1, q_A1, q_S0, q_S1, q_SS, q_T0, q_T1, q_TS, q_Kn, q_Ki, q_Kl, q_Kr, q_k0, q_kS, q_rc, q_ps, q_pn, q_aload0, q_getfieldI, q_iconst, q_icmp_ne, q_bipush, q_icmp_le, q_invV, q_ireturn1, q_istore1, q_w0, q_wS, q_l0, q_lS, q_tableswitch, q_goto, q_getfieldZ, q_if_eq, q_putfieldZ, q_sipush, q_putfieldI, q_iload1, q_if_ne, mmKo_11, mmR32, mmR64, Option.some.injEq, Int.cast_ofNat_Int, and_true, true_and, if_true, if_false, List.length_cons, List.length_nil, Nat.le_refl, Nat.zero_le, Nat.sub_zero, forall_const, reduceCtorEq, Nat.reduceAdd, Nat.reduceSub, Nat.reduceLeDiff, Nat.reduceEqDiff, Int.reduceAdd, Int.reduceNeg, Int.reduceSub, Int.reduceLT, Int.reduceLE, Int.reduceMul, Int.reduceEq, List.drop_zero, List.drop_succ_cons, ne_eq, not_false_eq_true, not_true_eq_false, false_and, and_false, false_implies, true_implies, reduceIte, mmU_rd, implies_true, or_false, false_or, or_true, true_or]
      exact q2
    · have k2 := ky_2.mp k2
      rw [k2, if_neg (by omega), if_neg (by omega), if_neg (by omega), if_neg (by omega), if_neg (by omega), if_neg (by omega), if_pos rfl] at hln
      refine mmC_step ?_
      simp only [cd_167, sg_167_0, sg_167_8, sg_167_12, sg_167_17, sg_167_21, sg_167_25, sg_167_29, sg_167_36, sg_167_45, sg_167_49, sg_167_56, sg_167_71, sg_167_78, sg_167_83, sg_167_87, sg_167_95, mmK_cut cd_167, q_cons, q_G0, q_GS, q_I1, q_L1, q_A1, q_S0, q_S1, q_SS, q_T0, q_T1, q_TS, q_Kn, q_Ki, q_Kl, q_Kr, q_k0, q_kS, q_rc, q_ps, q_pn, q_aload0, q_getfieldI, q_iconst, q_icmp_ne, q_bipush, q_icmp_le, q_invV, q_ireturn1, q_istore1, q_w0, q_wS, q_l0, q_lS, q_tableswitch, q_goto, q_getfieldZ, q_if_eq, q_putfieldZ, q_sipush, q_putfieldI, q_iload1, q_if_ne, mmKo_11, mmR32, mmR64, Option.some.injEq, Int.cast_ofNat_Int, and_true, true_and, if_true, if_false, List.length_cons, List.length_nil, Nat.le_refl, Nat.zero_le, Nat.sub_zero, forall_const, reduceCtorEq, Nat.reduceAdd, Nat.reduceSub, Nat.reduceLeDiff, Nat.reduceEqDiff, Int.reduceAdd, Int.reduceNeg, Int.reduceSub, Int.reduceLT, Int.reduceLE, Int.reduceMul, Int.reduceEq, List.drop_zero, List.drop_succ_cons, ne_eq, not_false_eq_true, not_true_eq_false, false_and, and_false, false_implies, true_implies, reduceIte, mmU_rd, implies_true, or_false, false_or, or_true, true_or]
      have q0 := m_stone (d := d) (a := a) (br := br) (X := (X.1, 0, 0)) h hM
      rw [← hln] at q0
      refine mT_use q0 (fun v I1 q => ?_)
      obtain ⟨z, rfl, q2⟩ := wm v I1 q
      simp only [mmK_cut cd_167, q_cons, q_G0, q_GS, q_I1, q_L1, q_A1, q_S0, q_S1, q_SS, q_T0, q_T1, q_TS, q_Kn, q_Ki, q_Kl, q_Kr, q_k0, q_kS, q_rc, q_ps, q_pn, q_aload0, q_getfieldI, q_iconst, q_icmp_ne, q_bipush, q_icmp_le, q_invV, q_ireturn1, q_istore1, q_w0, q_wS, q_l0, q_lS, q_tableswitch, q_goto, q_getfieldZ, q_if_eq, q_putfieldZ, q_sipush, q_putfieldI, q_iload1, q_if_ne, mmKo_11, mmR32, mmR64, Option.some.injEq, Int.cast_ofNat_Int, and_true, true_and, if_true, if_false, List.length_cons, List.length_nil, Nat.le_refl, Nat.zero_le, Nat.sub_zero, forall_const, reduceCtorEq, Nat.reduceAdd, Nat.reduceSub, Nat.reduceLeDiff, Nat.reduceEqDiff, Int.reduceAdd, Int.reduceNeg, Int.reduceSub, Int.reduceLT, Int.reduceLE, Int.reduceMul, Int.reduceEq, List.drop_zero, List.drop_succ_cons, ne_eq, not_false_eq_true, not_true_eq_false, false_and, and_false, false_implies, true_implies, reduceIte, mmU_rd, implies_true, or_false, false_or, or_true, true_or]
      exact q2
    · have k3 := ky_3.mp k3
      rw [k3, if_neg (by omega), if_neg (by omega), if_neg (by omega), if_neg (by omega), if_pos rfl] at hln
      have e31 : I 11 0 31 = tb o 2 := hT.2.2.1
      refine mmC_step ?_
      simp only [cd_167, sg_167_0, sg_167_8, sg_167_12, sg_167_17, sg_167_21, sg_167_25, sg_167_29, sg_167_36, sg_167_45, sg_167_49, sg_167_56, sg_167_71, sg_167_78, sg_167_83, sg_167_87, sg_167_95, mmK_cut cd_167, q_cons, q_G0, q_GS, q_I1, q_L1, q_A1, q_S0, q_S1, q_SS, q_T0, q_T1, q_TS, q_Kn, q_Ki, q_Kl, q_Kr, q_k0, q_kS, q_rc, q_ps, q_pn, q_aload0, q_getfieldI, q_iconst, q_icmp_ne, q_bipush, q_icmp_le, q_invV, q_ireturn1, q_istore1, q_w0, q_wS, q_l0, q_lS, q_tableswitch, q_goto, q_getfieldZ, q_if_eq, q_putfieldZ, q_sipush, q_putfieldI, q_iload1, q_if_ne, mmKo_11, mmR32, mmR64, Option.some.injEq, Int.cast_ofNat_Int, and_true, true_and, if_true, if_false, List.length_cons, List.length_nil, Nat.le_refl, Nat.zero_le, Nat.sub_zero, forall_const, reduceCtorEq, Nat.reduceAdd, Nat.reduceSub, Nat.reduceLeDiff, Nat.reduceEqDiff, Int.reduceAdd, Int.reduceNeg, Int.reduceSub, Int.reduceLT, Int.reduceLE, Int.reduceMul, Int.reduceEq, List.drop_zero, List.drop_succ_cons, ne_eq, not_false_eq_true, not_true_eq_false, false_and, and_false, false_implies, true_implies, reduceIte, mmU_rd, implies_true, or_false, false_or, or_true, true_or]
      rw [e31, tb_0]
      refine ⟨fun c5 => ?_, fun c5 => ?_⟩
      · rw [if_neg (fun q => q c5)] at hln
        have e0 : I 11 0 31 = 0 := by rw [e31]; exact tb_0.mpr c5
        have hL0 : r 1 2 = 0 ∧ I 11 0 26 = 0 := by
          rcases hL with q | q
          · exact ⟨q.2.1, q.2.2⟩
          · have : I 11 0 31 = 1 := q.1
            omega
        refine mmC_step ?_
        simp only [cd_167, sg_167_0, sg_167_8, sg_167_12, sg_167_17, sg_167_21, sg_167_25, sg_167_29, sg_167_36, sg_167_45, sg_167_49, sg_167_56, sg_167_71, sg_167_78, sg_167_83, sg_167_87, sg_167_95, mmK_cut cd_167, q_cons, q_G0, q_GS, q_I1, q_L1, q_A1, q_S0, q_S1, q_SS, q_T0, q_T1, q_TS, q_Kn, q_Ki, q_Kl, q_Kr, q_k0, q_kS, q_rc, q_ps, q_pn, q_aload0, q_getfieldI, q_iconst, q_icmp_ne, q_bipush, q_icmp_le, q_invV, q_ireturn1, q_istore1, q_w0, q_wS, q_l0, q_lS, q_tableswitch, q_goto, q_getfieldZ, q_if_eq, q_putfieldZ, q_sipush, q_putfieldI, q_iload1, q_if_ne, mmKo_11, mmR32, mmR64, Option.some.injEq, Int.cast_ofNat_Int, and_true, true_and, if_true, if_false, List.length_cons, List.length_nil, Nat.le_refl, Nat.zero_le, Nat.sub_zero, forall_const, reduceCtorEq, Nat.reduceAdd, Nat.reduceSub, Nat.reduceLeDiff, Nat.reduceEqDiff, Int.reduceAdd, Int.reduceNeg, Int.reduceSub, Int.reduceLT, Int.reduceLE, Int.reduceMul, Int.reduceEq, List.drop_zero, List.drop_succ_cons, ne_eq, not_false_eq_true, not_true_eq_false, false_and, and_false, false_implies, true_implies, reduceIte, mmU_rd, implies_true, or_false, false_or, or_true, true_or]
        refine mT_use (m_token (PSr_U (k := 31) (v := 1) h (by omega))) (fun v I1 q => ?_)
        obtain ⟨rfl, q1, -, -, h1⟩ := q
        simp only [mmK_cut cd_167, q_cons, q_G0, q_GS, q_I1, q_L1, q_A1, q_S0, q_S1, q_SS, q_T0, q_T1, q_TS, q_Kn, q_Ki, q_Kl, q_Kr, q_k0, q_kS, q_rc, q_ps, q_pn, q_aload0, q_getfieldI, q_iconst, q_icmp_ne, q_bipush, q_icmp_le, q_invV, q_ireturn1, q_istore1, q_w0, q_wS, q_l0, q_lS, q_tableswitch, q_goto, q_getfieldZ, q_if_eq, q_putfieldZ, q_sipush, q_putfieldI, q_iload1, q_if_ne, mmKo_11, mmR32, mmR64, Option.some.injEq, Int.cast_ofNat_Int, and_true, true_and, if_true, if_false, List.length_cons, List.length_nil, Nat.le_refl, Nat.zero_le, Nat.sub_zero, forall_const, reduceCtorEq, Nat.reduceAdd, Nat.reduceSub, Nat.reduceLeDiff, Nat.reduceEqDiff, Int.reduceAdd, Int.reduceNeg, Int.reduceSub, Int.reduceLT, Int.reduceLE, Int.reduceMul, Int.reduceEq, List.drop_zero, List.drop_succ_cons, ne_eq, not_false_eq_true, not_true_eq_false, false_and, and_false, false_implies, true_implies, reduceIte, mmU_rd, implies_true, or_false, false_or, or_true, true_or]
        refine mT_use (m_sum (r := r) h1 hL0.1 ((q1 _ _ _ (by omega)).trans (h53 e0)) ((q1 _ _ _ (by omega)).trans hL0.2)) (fun v I2 q => ?_)
        rcases q with ⟨e, hn, rfl, q2⟩ | ⟨p', r', hn, rfl, q2, q3, q4, q5⟩
        · rw [hn, pB_l] at hln
          simp only [mmK_cut cd_167, q_cons, q_G0, q_GS, q_I1, q_L1, q_A1, q_S0, q_S1, q_SS, q_T0, q_T1, q_TS, q_Kn, q_Ki, q_Kl, q_Kr, q_k0, q_kS, q_rc, q_ps, q_pn, q_aload0, q_getfieldI, q_iconst, q_icmp_ne, q_bipush, q_icmp_le, q_invV, q_ireturn1, q_istore1, q_w0, q_wS, q_l0, q_lS, q_tableswitch, q_goto, q_getfieldZ, q_if_eq, q_putfieldZ, q_sipush, q_putfieldI, q_iload1, q_if_ne, mmKo_11, mmR32, mmR64, Option.some.injEq, Int.cast_ofNat_Int, and_true, true_and, if_true, if_false, List.length_cons, List.length_nil, Nat.le_refl, Nat.zero_le, Nat.sub_zero, forall_const, reduceCtorEq, Nat.reduceAdd, Nat.reduceSub, Nat.reduceLeDiff, Nat.reduceEqDiff, Int.reduceAdd, Int.reduceNeg, Int.reduceSub, Int.reduceLT, Int.reduceLE, Int.reduceMul, Int.reduceEq, List.drop_zero, List.drop_succ_cons, ne_eq, not_false_eq_true, not_true_eq_false, false_and, and_false, false_implies, true_implies, reduceIte, mmU_rd, implies_true, or_false, false_or, or_true, true_or]
          exact wl I2 e hln (MF_trans (FrM_trans (FrM_U (by unfold Mt; omega)) (FrM_7 q1)) q2)
        · rw [hn, pB_r] at hln
          have hn1 := tk_next (T := T) (s := s) (p := p) (by omega)
          have hlp := lw_p 701 0 _ [] 0 0 _ _ _ (by omega) (by omega) ⟨rfl, by omega, by omega, by rw [hL0.1]; rfl, by omega⟩ hn
          have fr : FrL (mmU I 11 0 31 1) I2 := FrL_trans (FrL_7 q1) q2
          simp only [mmK_cut cd_167, q_cons, q_G0, q_GS, q_I1, q_L1, q_A1, q_S0, q_S1, q_SS, q_T0, q_T1, q_TS, q_Kn, q_Ki, q_Kl, q_Kr, q_k0, q_kS, q_rc, q_ps, q_pn, q_aload0, q_getfieldI, q_iconst, q_icmp_ne, q_bipush, q_icmp_le, q_invV, q_ireturn1, q_istore1, q_w0, q_wS, q_l0, q_lS, q_tableswitch, q_goto, q_getfieldZ, q_if_eq, q_putfieldZ, q_sipush, q_putfieldI, q_iload1, q_if_ne, mmKo_11, mmR32, mmR64, Option.some.injEq, Int.cast_ofNat_Int, and_true, true_and, if_true, if_false, List.length_cons, List.length_nil, Nat.le_refl, Nat.zero_le, Nat.sub_zero, forall_const, reduceCtorEq, Nat.reduceAdd, Nat.reduceSub, Nat.reduceLeDiff, Nat.reduceEqDiff, Int.reduceAdd, Int.reduceNeg, Int.reduceSub, Int.reduceLT, Int.reduceLE, Int.reduceMul, Int.reduceEq, List.drop_zero, List.drop_succ_cons, ne_eq, not_false_eq_true, not_true_eq_false, false_and, and_false, false_implies, true_implies, reduceIte, mmU_rd, implies_true, or_false, false_or, or_true, true_or]
          refine mmC_step ?_
          simp only [cd_167, sg_167_0, sg_167_8, sg_167_12, sg_167_17, sg_167_21, sg_167_25, sg_167_29, sg_167_36, sg_167_45, sg_167_49, sg_167_56, sg_167_71, sg_167_78, sg_167_83, sg_167_87, sg_167_95, mmK_cut cd_167, q_cons, q_G0, q_GS, q_I1, q_L1, q_A1, q_S0, q_S1, q_SS, q_T0, q_T1, q_TS, q_Kn, q_Ki, q_Kl, q_Kr, q_k0, q_kS, q_rc, q_ps, q_pn, q_aload0, q_getfieldI, q_iconst, q_icmp_ne, q_bipush, q_icmp_le, q_invV, q_ireturn1, q_istore1, q_w0, q_wS, q_l0, q_lS, q_tableswitch, q_goto, q_getfieldZ, q_if_eq, q_putfieldZ, q_sipush, q_putfieldI, q_iload1, q_if_ne, mmKo_11, mmR32, mmR64, Option.some.injEq, Int.cast_ofNat_Int, and_true, true_and, if_true, if_false, List.length_cons, List.length_nil, Nat.le_refl, Nat.zero_le, Nat.sub_zero, forall_const, reduceCtorEq, Nat.reduceAdd, Nat.reduceSub, Nat.reduceLeDiff, Nat.reduceEqDiff, Int.reduceAdd, Int.reduceNeg, Int.reduceSub, Int.reduceLT, Int.reduceLE, Int.reduceMul, Int.reduceEq, List.drop_zero, List.drop_succ_cons, ne_eq, not_false_eq_true, not_true_eq_false, false_and, and_false, false_implies, true_implies, reduceIte, mmU_rd, implies_true, or_false, false_or, or_true, true_or]
          exact w87 I2 p' r' _ _ hln (FrM_trans (FrM_U (by unfold Mt; omega)) (FrM_L fr)) q3 (M2_law hM fr (fun t x ht => lw_fr ht _ _ _ _ _ _ _ _ _ hn) q4 q5 hlp.2.2.2) (fun hb => BL_ext (fun t k ht => fr t 0 k (by unfold LWt; omega)) (BL_U (by omega) hb))
      · rw [if_pos c5] at hln
        refine mT_use m_wrong (fun v I' q => ?_)
        obtain ⟨rfl, q⟩ := q
        simp only [mmK_cut cd_167, q_cons, q_G0, q_GS, q_I1, q_L1, q_A1, q_S0, q_S1, q_SS, q_T0, q_T1, q_TS, q_Kn, q_Ki, q_Kl, q_Kr, q_k0, q_kS, q_rc, q_ps, q_pn, q_aload0, q_getfieldI, q_iconst, q_icmp_ne, q_bipush, q_icmp_le, q_invV, q_ireturn1, q_istore1, q_w0, q_wS, q_l0, q_lS, q_tableswitch, q_goto, q_getfieldZ, q_if_eq, q_putfieldZ, q_sipush, q_putfieldI, q_iload1, q_if_ne, mmKo_11, mmR32, mmR64, Option.some.injEq, Int.cast_ofNat_Int, and_true, true_and, if_true, if_false, List.length_cons, List.length_nil, Nat.le_refl, Nat.zero_le, Nat.sub_zero, forall_const, reduceCtorEq, Nat.reduceAdd, Nat.reduceSub, Nat.reduceLeDiff, Nat.reduceEqDiff, Int.reduceAdd, Int.reduceNeg, Int.reduceSub, Int.reduceLT, Int.reduceLE, Int.reduceMul, Int.reduceEq, List.drop_zero, List.drop_succ_cons, ne_eq, not_false_eq_true, not_true_eq_false, false_and, and_false, false_implies, true_implies, reduceIte, mmU_rd, implies_true, or_false, false_or, or_true, true_or]
        exact wf (l1 := none) hln (MF_wrong h q)
    · have k4 := ky_4.mp k4
      rw [k4, if_neg (by omega), if_neg (by omega), if_neg (by omega), if_neg (by omega), if_neg (by omega), if_pos rfl] at hln
      refine mmC_step ?_
      simp only [cd_167, sg_167_0, sg_167_8, sg_167_12, sg_167_17, sg_167_21, sg_167_25, sg_167_29, sg_167_36, sg_167_45, sg_167_49, sg_167_56, sg_167_71, sg_167_78, sg_167_83, sg_167_87, sg_167_95, mmK_cut cd_167, q_cons, q_G0, q_GS, q_I1, q_L1, q_A1, q_S0, q_S1, q_SS, q_T0, q_T1, q_TS, q_Kn, q_Ki, q_Kl, q_Kr, q_k0, q_kS, q_rc, q_ps, q_pn, q_aload0, q_getfieldI, q_iconst, q_icmp_ne, q_bipush, q_icmp_le, q_invV, q_ireturn1, q_istore1, q_w0, q_wS, q_l0, q_lS, q_tableswitch, q_goto, q_getfieldZ, q_if_eq, q_putfieldZ, q_sipush, q_putfieldI, q_iload1, q_if_ne, mmKo_11, mmR32, mmR64, Option.some.injEq, Int.cast_ofNat_Int, and_true, true_and, if_true, if_false, List.length_cons, List.length_nil, Nat.le_refl, Nat.zero_le, Nat.sub_zero, forall_const, reduceCtorEq, Nat.reduceAdd, Nat.reduceSub, Nat.reduceLeDiff, Nat.reduceEqDiff, Int.reduceAdd, Int.reduceNeg, Int.reduceSub, Int.reduceLT, Int.reduceLE, Int.reduceMul, Int.reduceEq, List.drop_zero, List.drop_succ_cons, ne_eq, not_false_eq_true, not_true_eq_false, false_and, and_false, false_implies, true_implies, reduceIte, mmU_rd, implies_true, or_false, false_or, or_true, true_or]
      have q0 := m_post (d := d + 2) (a := a) (br := br) (X := (X.1, 0, 0)) h hM
      rw [← hln] at q0
      refine mT_use q0 (fun v I1 q => ?_)
      obtain ⟨z, rfl, q2⟩ := wm v I1 q
      simp only [mmK_cut cd_167, q_cons, q_G0, q_GS, q_I1, q_L1, q_A1, q_S0, q_S1, q_SS, q_T0, q_T1, q_TS, q_Kn, q_Ki, q_Kl, q_Kr, q_k0, q_kS, q_rc, q_ps, q_pn, q_aload0, q_getfieldI, q_iconst, q_icmp_ne, q_bipush, q_icmp_le, q_invV, q_ireturn1, q_istore1, q_w0, q_wS, q_l0, q_lS, q_tableswitch, q_goto, q_getfieldZ, q_if_eq, q_putfieldZ, q_sipush, q_putfieldI, q_iload1, q_if_ne, mmKo_11, mmR32, mmR64, Option.some.injEq, Int.cast_ofNat_Int, and_true, true_and, if_true, if_false, List.length_cons, List.length_nil, Nat.le_refl, Nat.zero_le, Nat.sub_zero, forall_const, reduceCtorEq, Nat.reduceAdd, Nat.reduceSub, Nat.reduceLeDiff, Nat.reduceEqDiff, Int.reduceAdd, Int.reduceNeg, Int.reduceSub, Int.reduceLT, Int.reduceLE, Int.reduceMul, Int.reduceEq, List.drop_zero, List.drop_succ_cons, ne_eq, not_false_eq_true, not_true_eq_false, false_and, and_false, false_implies, true_implies, reduceIte, mmU_rd, implies_true, or_false, false_or, or_true, true_or]
      exact q2
    · have k5 := ky_5.mp k5
      rw [k5, if_neg (by omega), if_pos rfl] at hln
      unfold dyF at hln
      have e33 : I 11 0 33 = tb o 8 := hT.2.2.2.2.1
      refine mmC_step ?_
      simp only [cd_167, sg_167_0, sg_167_8, sg_167_12, sg_167_17, sg_167_21, sg_167_25, sg_167_29, sg_167_36, sg_167_45, sg_167_49, sg_167_56, sg_167_71, sg_167_78, sg_167_83, sg_167_87, sg_167_95, mmK_cut cd_167, q_cons, q_G0, q_GS, q_I1, q_L1, q_A1, q_S0, q_S1, q_SS, q_T0, q_T1, q_TS, q_Kn, q_Ki, q_Kl, q_Kr, q_k0, q_kS, q_rc, q_ps, q_pn, q_aload0, q_getfieldI, q_iconst, q_icmp_ne, q_bipush, q_icmp_le, q_invV, q_ireturn1, q_istore1, q_w0, q_wS, q_l0, q_lS, q_tableswitch, q_goto, q_getfieldZ, q_if_eq, q_putfieldZ, q_sipush, q_putfieldI, q_iload1, q_if_ne, mmKo_11, mmR32, mmR64, Option.some.injEq, Int.cast_ofNat_Int, and_true, true_and, if_true, if_false, List.length_cons, List.length_nil, Nat.le_refl, Nat.zero_le, Nat.sub_zero, forall_const, reduceCtorEq, Nat.reduceAdd, Nat.reduceSub, Nat.reduceLeDiff, Nat.reduceEqDiff, Int.reduceAdd, Int.reduceNeg, Int.reduceSub, Int.reduceLT, Int.reduceLE, Int.reduceMul, Int.reduceEq, List.drop_zero, List.drop_succ_cons, ne_eq, not_false_eq_true, not_true_eq_false, false_and, and_false, false_implies, true_implies, reduceIte, mmU_rd, implies_true, or_false, false_or, or_true, true_or]
      rw [e33, tb_0]
      refine ⟨fun c5 => ?_, fun c5 => ?_⟩
      · rw [if_neg (fun q => q c5)] at hln
        refine mmC_step ?_
        simp only [cd_167, sg_167_0, sg_167_8, sg_167_12, sg_167_17, sg_167_21, sg_167_25, sg_167_29, sg_167_36, sg_167_45, sg_167_49, sg_167_56, sg_167_71, sg_167_78, sg_167_83, sg_167_87, sg_167_95, mmK_cut cd_167, q_cons, q_G0, q_GS, q_I1, q_L1, q_A1, q_S0, q_S1, q_SS, q_T0, q_T1, q_TS, q_Kn, q_Ki, q_Kl, q_Kr, q_k0, q_kS, q_rc, q_ps, q_pn, q_aload0, q_getfieldI, q_iconst, q_icmp_ne, q_bipush, q_icmp_le, q_invV, q_ireturn1, q_istore1, q_w0, q_wS, q_l0, q_lS, q_tableswitch, q_goto, q_getfieldZ, q_if_eq, q_putfieldZ, q_sipush, q_putfieldI, q_iload1, q_if_ne, mmKo_11, mmR32, mmR64, Option.some.injEq, Int.cast_ofNat_Int, and_true, true_and, if_true, if_false, List.length_cons, List.length_nil, Nat.le_refl, Nat.zero_le, Nat.sub_zero, forall_const, reduceCtorEq, Nat.reduceAdd, Nat.reduceSub, Nat.reduceLeDiff, Nat.reduceEqDiff, Int.reduceAdd, Int.reduceNeg, Int.reduceSub, Int.reduceLT, Int.reduceLE, Int.reduceMul, Int.reduceEq, List.drop_zero, List.drop_succ_cons, ne_eq, not_false_eq_true, not_true_eq_false, false_and, and_false, false_implies, true_implies, reduceIte, mmU_rd, implies_true, or_false, false_or, or_true, true_or]
        refine mT_use (m_token (PSr_U (k := 33) (v := 1) h (by omega))) (fun v I1 q => ?_)
        obtain ⟨rfl, q1, -, -, h1⟩ := q
        have f1 : FrS S1 I I1 := FrS_trans (FrS_U (by unfold S1; omega)) (FrS_7 q1 S1_7)
        have b1 : I1 11 0 33 = 1 := q1 _ _ _ (by omega)
        simp only [mmK_cut cd_167, q_cons, q_G0, q_GS, q_I1, q_L1, q_A1, q_S0, q_S1, q_SS, q_T0, q_T1, q_TS, q_Kn, q_Ki, q_Kl, q_Kr, q_k0, q_kS, q_rc, q_ps, q_pn, q_aload0, q_getfieldI, q_iconst, q_icmp_ne, q_bipush, q_icmp_le, q_invV, q_ireturn1, q_istore1, q_w0, q_wS, q_l0, q_lS, q_tableswitch, q_goto, q_getfieldZ, q_if_eq, q_putfieldZ, q_sipush, q_putfieldI, q_iload1, q_if_ne, mmKo_11, mmR32, mmR64, Option.some.injEq, Int.cast_ofNat_Int, and_true, true_and, if_true, if_false, List.length_cons, List.length_nil, Nat.le_refl, Nat.zero_le, Nat.sub_zero, forall_const, reduceCtorEq, Nat.reduceAdd, Nat.reduceSub, Nat.reduceLeDiff, Nat.reduceEqDiff, Int.reduceAdd, Int.reduceNeg, Int.reduceSub, Int.reduceLT, Int.reduceLE, Int.reduceMul, Int.reduceEq, List.drop_zero, List.drop_succ_cons, ne_eq, not_false_eq_true, not_true_eq_false, false_and, and_false, false_implies, true_implies, reduceIte, mmU_rd, implies_true, or_false, false_or, or_true, true_or]
        refine mT_use (m_num h1 (by omega)) (fun v I2 q => ?_)
        rcases q with ⟨e, hn, rfl, q⟩ | ⟨hn, c6, c7, c8, rfl, q2, q3, -, h2⟩
        · rw [hn, pB_l] at hln
          simp only [mmK_cut cd_167, q_cons, q_G0, q_GS, q_I1, q_L1, q_A1, q_S0, q_S1, q_SS, q_T0, q_T1, q_TS, q_Kn, q_Ki, q_Kl, q_Kr, q_k0, q_kS, q_rc, q_ps, q_pn, q_aload0, q_getfieldI, q_iconst, q_icmp_ne, q_bipush, q_icmp_le, q_invV, q_ireturn1, q_istore1, q_w0, q_wS, q_l0, q_lS, q_tableswitch, q_goto, q_getfieldZ, q_if_eq, q_putfieldZ, q_sipush, q_putfieldI, q_iload1, q_if_ne, mmKo_11, mmR32, mmR64, Option.some.injEq, Int.cast_ofNat_Int, and_true, true_and, if_true, if_false, List.length_cons, List.length_nil, Nat.le_refl, Nat.zero_le, Nat.sub_zero, forall_const, reduceCtorEq, Nat.reduceAdd, Nat.reduceSub, Nat.reduceLeDiff, Nat.reduceEqDiff, Int.reduceAdd, Int.reduceNeg, Int.reduceSub, Int.reduceLT, Int.reduceLE, Int.reduceMul, Int.reduceEq, List.drop_zero, List.drop_succ_cons, ne_eq, not_false_eq_true, not_true_eq_false, false_and, and_false, false_implies, true_implies, reduceIte, mmU_rd, implies_true, or_false, false_or, or_true, true_or]
          exact wl _ e hln (MF_U (MF_trans (FrM_S f1) q) (by unfold Mt; omega) (by omega))
        · rw [hn, pB_r] at hln
          simp only [mmK_cut cd_167, q_cons, q_G0, q_GS, q_I1, q_L1, q_A1, q_S0, q_S1, q_SS, q_T0, q_T1, q_TS, q_Kn, q_Ki, q_Kl, q_Kr, q_k0, q_kS, q_rc, q_ps, q_pn, q_aload0, q_getfieldI, q_iconst, q_icmp_ne, q_bipush, q_icmp_le, q_invV, q_ireturn1, q_istore1, q_w0, q_wS, q_l0, q_lS, q_tableswitch, q_goto, q_getfieldZ, q_if_eq, q_putfieldZ, q_sipush, q_putfieldI, q_iload1, q_if_ne, mmKo_11, mmR32, mmR64, Option.some.injEq, Int.cast_ofNat_Int, and_true, true_and, if_true, if_false, List.length_cons, List.length_nil, Nat.le_refl, Nat.zero_le, Nat.sub_zero, forall_const, reduceCtorEq, Nat.reduceAdd, Nat.reduceSub, Nat.reduceLeDiff, Nat.reduceEqDiff, Int.reduceAdd, Int.reduceNeg, Int.reduceSub, Int.reduceLT, Int.reduceLE, Int.reduceMul, Int.reduceEq, List.drop_zero, List.drop_succ_cons, ne_eq, not_false_eq_true, not_true_eq_false, false_and, and_false, false_implies, true_implies, reduceIte, mmU_rd, implies_true, or_false, false_or, or_true, true_or]
          refine mmC_step ?_
          simp only [cd_167, sg_167_0, sg_167_8, sg_167_12, sg_167_17, sg_167_21, sg_167_25, sg_167_29, sg_167_36, sg_167_45, sg_167_49, sg_167_56, sg_167_71, sg_167_78, sg_167_83, sg_167_87, sg_167_95, mmK_cut cd_167, q_cons, q_G0, q_GS, q_I1, q_L1, q_A1, q_S0, q_S1, q_SS, q_T0, q_T1, q_TS, q_Kn, q_Ki, q_Kl, q_Kr, q_k0, q_kS, q_rc, q_ps, q_pn, q_aload0, q_getfieldI, q_iconst, q_icmp_ne, q_bipush, q_icmp_le, q_invV, q_ireturn1, q_istore1, q_w0, q_wS, q_l0, q_lS, q_tableswitch, q_goto, q_getfieldZ, q_if_eq, q_putfieldZ, q_sipush, q_putfieldI, q_iload1, q_if_ne, mmKo_11, mmR32, mmR64, Option.some.injEq, Int.cast_ofNat_Int, and_true, true_and, if_true, if_false, List.length_cons, List.length_nil, Nat.le_refl, Nat.zero_le, Nat.sub_zero, forall_const, reduceCtorEq, Nat.reduceAdd, Nat.reduceSub, Nat.reduceLeDiff, Nat.reduceEqDiff, Int.reduceAdd, Int.reduceNeg, Int.reduceSub, Int.reduceLT, Int.reduceLE, Int.reduceMul, Int.reduceEq, List.drop_zero, List.drop_succ_cons, ne_eq, not_false_eq_true, not_true_eq_false, false_and, and_false, false_implies, true_implies, reduceIte, mmU_rd, implies_true, or_false, false_or, or_true, true_or]
          have e : ∀ k : Int, ¬ ((7 ≤ k ∧ k ≤ 11) ∨ k = 47) → ¬ k = 29 → ¬ k = 33 → mmU I2 11 0 29 (I2 11 0 11) 11 0 k = I 11 0 k := by
            intro k d1 d2 d3
            have e1 : mmU I2 11 0 29 (I2 11 0 11) 11 0 k = I2 11 0 k := by unfold mmU; rw [if_neg (by omega)]
            rw [e1, q2 _ _ _ (by omega), q1 _ _ _ (by omega)]
            unfold mmU; rw [if_neg (by omega)]
          have f2 : FrS S1 I (mmU I2 11 0 29 (I2 11 0 11)) := FrS_trans (FrS_trans f1 (FrS_7 q2 S1_7)) (FrS_U (by unfold S1; omega))
          refine w87 _ _ _ _ _ hln (FrM_S f2) (PSr_U h2 (by omega)) ?_ (BL_S f2)
          refine M2_sc hM f2 ((e 4 (by omega) (by omega) (by omega)).trans g4) ((e 5 (by omega) (by omega) (by omega)).trans g5) ?_ (e 31 (by omega) (by omega) (by omega)) (e 26 (by omega) (by omega) (by omega)) (fun t x ht => if_neg (by omega)) rfl rfl (Or.inl ⟨rfl, rfl⟩) ?_ ⟨(e 22 (by omega) (by omega) (by omega)).trans hG.1, (e 23 (by omega) (by omega) (by omega)).trans hG.2.1, (e 24 (by omega) (by omega) (by omega)).trans hG.2.2.1, (e 25 (by omega) (by omega) (by omega)).trans hG.2.2.2.1, (e 27 (by omega) (by omega) (by omega)).trans hG.2.2.2.2.1, (e 28 (by omega) (by omega) (by omega)).trans hG.2.2.2.2.2.1, q3, (e 34 (by omega) (by omega) (by omega)).trans hG.2.2.2.2.2.2.2⟩
          · refine TO_or (b := 3) hT (fun c => ?_)
            match c with
            | 0 => exact e 30 (by omega) (by omega) (by omega)
            | 1 => exact e 31 (by omega) (by omega) (by omega)
            | 2 => exact e 32 (by omega) (by omega) (by omega)
            | 3 => exact (q2 11 0 33 (by omega)).trans b1
            | 4 => exact e 34 (by omega) (by omega) (by omega)
          · obtain ⟨w0, w1, w2, w3, w4, w5, w6, w7⟩ := hW
            exact ⟨w0, w1, w2, w3, w4, w5, ⟨c7, c8⟩, w7⟩
      · rw [if_pos c5] at hln
        refine mT_use m_wrong (fun v I' q => ?_)
        obtain ⟨rfl, q⟩ := q
        simp only [mmK_cut cd_167, q_cons, q_G0, q_GS, q_I1, q_L1, q_A1, q_S0, q_S1, q_SS, q_T0, q_T1, q_TS, q_Kn, q_Ki, q_Kl, q_Kr, q_k0, q_kS, q_rc, q_ps, q_pn, q_aload0, q_getfieldI, q_iconst, q_icmp_ne, q_bipush, q_icmp_le, q_invV, q_ireturn1, q_istore1, q_w0, q_wS, q_l0, q_lS, q_tableswitch, q_goto, q_getfieldZ, q_if_eq, q_putfieldZ, q_sipush, q_putfieldI, q_iload1, q_if_ne, mmKo_11, mmR32, mmR64, Option.some.injEq, Int.cast_ofNat_Int, and_true, true_and, if_true, if_false, List.length_cons, List.length_nil, Nat.le_refl, Nat.zero_le, Nat.sub_zero, forall_const, reduceCtorEq, Nat.reduceAdd, Nat.reduceSub, Nat.reduceLeDiff, Nat.reduceEqDiff, Int.reduceAdd, Int.reduceNeg, Int.reduceSub, Int.reduceLT, Int.reduceLE, Int.reduceMul, Int.reduceEq, List.drop_zero, List.drop_succ_cons, ne_eq, not_false_eq_true, not_true_eq_false, false_and, and_false, false_implies, true_implies, reduceIte, mmU_rd, implies_true, or_false, false_or, or_true, true_or]
        exact wf (l1 := none) hln (MF_wrong h q)
    · have k6 := ky_6.mp (show kyF (tkV T s p) = 6 by omega)
      rw [k6, if_neg (by omega), if_neg (by omega), if_neg (by omega), if_pos rfl] at hln
      have e34 : I 11 0 34 = tb o 16 := hT.2.2.2.2.2
      refine mmC_step ?_
      simp only [cd_167, sg_167_0, sg_167_8, sg_167_12, sg_167_17, sg_167_21, sg_167_25, sg_167_29, sg_167_36, sg_167_45, sg_167_49, sg_167_56, sg_167_71, sg_167_78, sg_167_83, sg_167_87, sg_167_95, mmK_cut cd_167, q_cons, q_G0, q_GS, q_I1, q_L1, q_A1, q_S0, q_S1, q_SS, q_T0, q_T1, q_TS, q_Kn, q_Ki, q_Kl, q_Kr, q_k0, q_kS, q_rc, q_ps, q_pn, q_aload0, q_getfieldI, q_iconst, q_icmp_ne, q_bipush, q_icmp_le, q_invV, q_ireturn1, q_istore1, q_w0, q_wS, q_l0, q_lS, q_tableswitch, q_goto, q_getfieldZ, q_if_eq, q_putfieldZ, q_sipush, q_putfieldI, q_iload1, q_if_ne, mmKo_11, mmR32, mmR64, Option.some.injEq, Int.cast_ofNat_Int, and_true, true_and, if_true, if_false, List.length_cons, List.length_nil, Nat.le_refl, Nat.zero_le, Nat.sub_zero, forall_const, reduceCtorEq, Nat.reduceAdd, Nat.reduceSub, Nat.reduceLeDiff, Nat.reduceEqDiff, Int.reduceAdd, Int.reduceNeg, Int.reduceSub, Int.reduceLT, Int.reduceLE, Int.reduceMul, Int.reduceEq, List.drop_zero, List.drop_succ_cons, ne_eq, not_false_eq_true, not_true_eq_false, false_and, and_false, false_implies, true_implies, reduceIte, mmU_rd, implies_true, or_false, false_or, or_true, true_or]
      rw [e34, tb_0]
      refine ⟨fun c5 => ?_, fun c5 => ?_⟩
      · rw [if_neg (fun q => q c5)] at hln
        refine mmC_step ?_
        simp only [cd_167, sg_167_0, sg_167_8, sg_167_12, sg_167_17, sg_167_21, sg_167_25, sg_167_29, sg_167_36, sg_167_45, sg_167_49, sg_167_56, sg_167_71, sg_167_78, sg_167_83, sg_167_87, sg_167_95, mmK_cut cd_167, q_cons, q_G0, q_GS, q_I1, q_L1, q_A1, q_S0, q_S1, q_SS, q_T0, q_T1, q_TS, q_Kn, q_Ki, q_Kl, q_Kr, q_k0, q_kS, q_rc, q_ps, q_pn, q_aload0, q_getfieldI, q_iconst, q_icmp_ne, q_bipush, q_icmp_le, q_invV, q_ireturn1, q_istore1, q_w0, q_wS, q_l0, q_lS, q_tableswitch, q_goto, q_getfieldZ, q_if_eq, q_putfieldZ, q_sipush, q_putfieldI, q_iload1, q_if_ne, mmKo_11, mmR32, mmR64, Option.some.injEq, Int.cast_ofNat_Int, and_true, true_and, if_true, if_false, List.length_cons, List.length_nil, Nat.le_refl, Nat.zero_le, Nat.sub_zero, forall_const, reduceCtorEq, Nat.reduceAdd, Nat.reduceSub, Nat.reduceLeDiff, Nat.reduceEqDiff, Int.reduceAdd, Int.reduceNeg, Int.reduceSub, Int.reduceLT, Int.reduceLE, Int.reduceMul, Int.reduceEq, List.drop_zero, List.drop_succ_cons, ne_eq, not_false_eq_true, not_true_eq_false, false_and, and_false, false_implies, true_implies, reduceIte, mmU_rd, implies_true, or_false, false_or, or_true, true_or]
        refine mT_use (m_token (PSr_U (k := 34) (v := 1) h (by omega))) (fun v I1 q => ?_)
        obtain ⟨rfl, q1, -, -, h1⟩ := q
        have f1 : FrS S1 I I1 := FrS_trans (FrS_U (by unfold S1; omega)) (FrS_7 q1 S1_7)
        have b1 : I1 11 0 34 = 1 := q1 _ _ _ (by omega)
        simp only [mmK_cut cd_167, q_cons, q_G0, q_GS, q_I1, q_L1, q_A1, q_S0, q_S1, q_SS, q_T0, q_T1, q_TS, q_Kn, q_Ki, q_Kl, q_Kr, q_k0, q_kS, q_rc, q_ps, q_pn, q_aload0, q_getfieldI, q_iconst, q_icmp_ne, q_bipush, q_icmp_le, q_invV, q_ireturn1, q_istore1, q_w0, q_wS, q_l0, q_lS, q_tableswitch, q_goto, q_getfieldZ, q_if_eq, q_putfieldZ, q_sipush, q_putfieldI, q_iload1, q_if_ne, mmKo_11, mmR32, mmR64, Option.some.injEq, Int.cast_ofNat_Int, and_true, true_and, if_true, if_false, List.length_cons, List.length_nil, Nat.le_refl, Nat.zero_le, Nat.sub_zero, forall_const, reduceCtorEq, Nat.reduceAdd, Nat.reduceSub, Nat.reduceLeDiff, Nat.reduceEqDiff, Int.reduceAdd, Int.reduceNeg, Int.reduceSub, Int.reduceLT, Int.reduceLE, Int.reduceMul, Int.reduceEq, List.drop_zero, List.drop_succ_cons, ne_eq, not_false_eq_true, not_true_eq_false, false_and, and_false, false_implies, true_implies, reduceIte, mmU_rd, implies_true, or_false, false_or, or_true, true_or]
        refine mmC_step ?_
        simp only [cd_167, sg_167_0, sg_167_8, sg_167_12, sg_167_17, sg_167_21, sg_167_25, sg_167_29, sg_167_36, sg_167_45, sg_167_49, sg_167_56, sg_167_71, sg_167_78, sg_167_83, sg_167_87, sg_167_95, mmK_cut cd_167, q_cons, q_G0, q_GS, q_I1, q_L1, q_A1, q_S0, q_S1, q_SS, q_T0, q_T1, q_TS, q_Kn, q_Ki, q_Kl, q_Kr, q_k0, q_kS, q_rc, q_ps, q_pn, q_aload0, q_getfieldI, q_iconst, q_icmp_ne, q_bipush, q_icmp_le, q_invV, q_ireturn1, q_istore1, q_w0, q_wS, q_l0, q_lS, q_tableswitch, q_goto, q_getfieldZ, q_if_eq, q_putfieldZ, q_sipush, q_putfieldI, q_iload1, q_if_ne, mmKo_11, mmR32, mmR64, Option.some.injEq, Int.cast_ofNat_Int, and_true, true_and, if_true, if_false, List.length_cons, List.length_nil, Nat.le_refl, Nat.zero_le, Nat.sub_zero, forall_const, reduceCtorEq, Nat.reduceAdd, Nat.reduceSub, Nat.reduceLeDiff, Nat.reduceEqDiff, Int.reduceAdd, Int.reduceNeg, Int.reduceSub, Int.reduceLT, Int.reduceLE, Int.reduceMul, Int.reduceEq, List.drop_zero, List.drop_succ_cons, ne_eq, not_false_eq_true, not_true_eq_false, false_and, and_false, false_implies, true_implies, reduceIte, mmU_rd, implies_true, or_false, false_or, or_true, true_or]
        have e : ∀ k : Int, ¬ ((7 ≤ k ∧ k ≤ 11) ∨ k = 47) → ¬ k = 34 → I1 11 0 k = I 11 0 k := by
          intro k d1 d2
          rw [q1 _ _ _ (by omega)]
          unfold mmU; rw [if_neg (by omega)]
        refine w87 _ _ _ _ _ hln (FrM_S f1) h1 ?_ (BL_S f1)
        refine M2_sc hM f1 ((e 4 (by omega) (by omega)).trans g4) ((e 5 (by omega) (by omega)).trans g5) ?_ (e 31 (by omega) (by omega)) (e 26 (by omega) (by omega)) (fun t x ht => if_neg (by omega)) rfl rfl (Or.inl ⟨rfl, rfl⟩) ?_ ⟨(e 22 (by omega) (by omega)).trans hG.1, (e 23 (by omega) (by omega)).trans hG.2.1, (e 24 (by omega) (by omega)).trans hG.2.2.1, (e 25 (by omega) (by omega)).trans hG.2.2.2.1, (e 27 (by omega) (by omega)).trans hG.2.2.2.2.1, (e 28 (by omega) (by omega)).trans hG.2.2.2.2.2.1, (e 29 (by omega) (by omega)).trans hG.2.2.2.2.2.2.1, b1⟩
        · refine TO_or (b := 4) hT (fun c => ?_)
          match c with
          | 0 => exact e 30 (by omega) (by omega)
          | 1 => exact e 31 (by omega) (by omega)
          | 2 => exact e 32 (by omega) (by omega)
          | 3 => exact e 33 (by omega) (by omega)
          | 4 => exact b1
        · obtain ⟨w0, w1, w2, w3, w4, w5, w6, w7⟩ := hW
          exact ⟨w0, w1, w2, w3, w4, w5, w6, Or.inr rfl⟩
      · rw [if_pos c5] at hln
        refine mT_use m_wrong (fun v I' q => ?_)
        obtain ⟨rfl, q⟩ := q
        simp only [mmK_cut cd_167, q_cons, q_G0, q_GS, q_I1, q_L1, q_A1, q_S0, q_S1, q_SS, q_T0, q_T1, q_TS, q_Kn, q_Ki, q_Kl, q_Kr, q_k0, q_kS, q_rc, q_ps, q_pn, q_aload0, q_getfieldI, q_iconst, q_icmp_ne, q_bipush, q_icmp_le, q_invV, q_ireturn1, q_istore1, q_w0, q_wS, q_l0, q_lS, q_tableswitch, q_goto, q_getfieldZ, q_if_eq, q_putfieldZ, q_sipush, q_putfieldI, q_iload1, q_if_ne, mmKo_11, mmR32, mmR64, Option.some.injEq, Int.cast_ofNat_Int, and_true, true_and, if_true, if_false, List.length_cons, List.length_nil, Nat.le_refl, Nat.zero_le, Nat.sub_zero, forall_const, reduceCtorEq, Nat.reduceAdd, Nat.reduceSub, Nat.reduceLeDiff, Nat.reduceEqDiff, Int.reduceAdd, Int.reduceNeg, Int.reduceSub, Int.reduceLT, Int.reduceLE, Int.reduceMul, Int.reduceEq, List.drop_zero, List.drop_succ_cons, ne_eq, not_false_eq_true, not_true_eq_false, false_and, and_false, false_implies, true_implies, reduceIte, mmU_rd, implies_true, or_false, false_or, or_true, true_or]
        exact wf (l1 := none) hln (MF_wrong h q)
  · have cw := hR.2 c
    have c1 := hR.1.mp c
    rw [cw] at c2
    unfold lnF
    rw [if_neg (fun q => q c1.1), if_neg (fun q => by have := ky_0.mpr q; omega), if_neg (fun q => by have := ky_5.mpr q; omega), if_neg (fun q => by have := ky_1.mpr q; omega), if_neg (fun q => by have := ky_6.mpr q; omega), if_neg (fun q => by have := ky_3.mpr q; omega), if_neg (fun q => by have := ky_4.mpr q; omega), if_neg (fun q => by have := ky_2.mpr q; omega)]
end S79
