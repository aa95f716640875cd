def nk (k : Int) : Int := if k = 13 then 0 else if k = 14 then 1 else if k = 15 then 2 else if k = 1 then 3 else if k = 16 then 4 else if k = 17 then 5 else if k = 18 then 6 else if k = 9 then 7 else -1
theorem name_ky {v : Int} : mmName v = nk (kyF v) := by
  by_cases h : kyF v < 0
  · have h2 := ky_no.mp h
    simp only [not_or] at h2
    obtain ⟨a0, a1, a2, a3, a4, a5, a6, a7, a8, a9, a10, a11, a12, a13, a14, a15, a16, a17, a18⟩ := h2
    unfold mmName nk
    simp only [a0, a1, a2, a3, a4, a5, a6, a7, a8, a9, a10, a11, a12, a13, a14, a15, a16, a17, a18, if_false]
    rw [if_neg (by omega), if_neg (by omega), if_neg (by omega), if_neg (by omega), if_neg (by omega), if_neg (by omega), if_neg (by omega), if_neg (by omega)]
  · have h2 : ¬ ¬ (v = 82888832 ∨ v = 378998784 ∨ v = 659011744 ∨ v = 404455424 ∨ v = 553242624 ∨ v = 136104960 ∨ v = 404362240 ∨ v = 407945824 ∨ v = 626478080 ∨ v = 379001856 ∨ v = 48365568 ∨ v = 522190848 ∨ v = 486146048 ∨ v = 672503392 ∨ v = 202964992 ∨ v = 620462080 ∨ v = 659011763 ∨ v = 524555859 ∨ v = 550273024) := fun q => h (ky_no.mpr q)
    rcases Classical.not_not.mp h2 with q | q | q | q | q | q | q | q | q | q | q | q | q | q | q | q | q | q | q <;> subst q <;> decide
def LMf (I : mMm) (st : Int) : Prop := (st = 2 → I 11 0 54 = 0) ∧ (st = 0 → I 11 0 54 = 1 ∧ I 11 0 55 = 1) ∧ (st = 1 → I 11 0 54 = 1 ∧ I 11 0 55 = 0)
def LMS (I : mMm) (T : Int → Int) (s : Int) (x : mLS) (v : Option mmV) (I' : mMm) : Prop := (∃ e, x = .inl e ∧ v = some (mv 0) ∧ MF I e I') ∨ (∃ st' p' P' op' kn' r', x = .inr (st', p', P', op', kn', r') ∧ v = some (mv 1) ∧ FrL I I' ∧ PSr I' T s p' ∧ LM I' P' op' kn' (if st' = 2 then 1 else 0) r' ∧ LMf I' st')
section S76
variable {d a : Nat} {I I' I'' J : mMm} {br : Nat → Option mmO} {R : Nat → Nat → Int → Option mmO} {X : mmX} {T : Int → Int} {s p o k w x op kn e h : Int} {r r' r'' : mRu} {Q : Option mmV → mmM → Prop} {P : List Int}
theorem LM_ext (hl : LM I P op kn e r) (h1 : ∀ k, (k = 26 ∨ (50 ≤ k ∧ k ≤ 53)) → I' 11 0 k = I 11 0 k) (h2 : ∀ t k, (1244 ≤ t ∧ t ≤ 1249) → I' t 0 k = I t 0 k) : LM I' P op kn e r := by
  obtain ⟨g1, g2, g3, g4, ⟨g5, g6, ⟨g7, g8⟩, g9⟩, g10⟩ := hl
  refine ⟨(h1 _ (by omega)).trans g1, PLm_ext (fun k _ _ => h2 _ _ (by omega)) g2, (h1 _ (by omega)).trans g3, (h1 _ (by omega)).trans g4, ⟨g5, (h1 _ (by omega)).trans g6, ⟨(h1 _ (by omega)).trans g7, fun i i0 i1 => ?_⟩, fun m hm => TPn_congr (kn := Gr I 30) (pa := Gr I 31) (ot := Gr I 32) (fun _ _ => rfl) (h2 1244 (64 + m) (by omega)) (h2 1245 (64 + m) (by omega)) (h2 1246 (64 + m) (by omega)) (g9 m hm)⟩, g10⟩
  rw [h1 51 (by omega)] at i1
  rw [h2 1249 _ (by omega)]
  exact g8 i i0 i1
theorem LM_7 (hl : LM I P op kn e r) (h : Fr7 I I') : LM I' P op kn e r := LM_ext hl (fun k hk => h _ _ _ (by omega)) (fun t k ht => h _ _ _ (by omega))
theorem LM_push {e' : Int} (hl : LM I P op kn e r) (hx : x = 0 ∨ (2 ≤ x ∧ x ≤ 14)) (hb : nB (kW x :: P) + e' = nB P + e) : LM (mmU (mmU I 1248 0 P.length x) 11 0 50 (P.length + 1)) (kW x :: P) op kn e' r := by
  obtain ⟨g1, g2, g3, g4, g5, g10⟩ := hl
  refine ⟨?_, ⟨?_, ?_⟩, g3, g4, g5, by rw [g10]; omega⟩
  · rw [mmU_same, List.length_cons]; omega
  · have : mmU (mmU I 1248 0 P.length x) 11 0 50 (P.length + 1) 1248 0 P.length = x := mmU_same
    rw [this]
    exact ⟨hx, rfl⟩
  · refine PLm_ext (fun k k0 k1 => ?_) g2
    unfold mmU
    rw [if_neg (by omega), if_neg (by omega)]
theorem m_waits (hl : I 11 0 50 = P.length) (hP : P.length < 96) (hQ : Q none (mmU (mmU I 1248 0 P.length x) 11 0 50 (P.length + 1), mmRf a br, X)) : mmC (d + 1) 178 [mo 11 0, mv x] (I, mmRf a br, X) Q := by
  refine mmC_in (by decide) (Nat.le_of_ble_eq_true rfl) (mmC_step ?_)
  simp only [show mmMl 178 = 2 from rfl, mmLs, List.replicate, cd_178, sg_178_0, mmK_cut cd_178, q_cons, q_G0, q_GS, q_I1, q_L1, q_A1, q_S0, q_S1, q_SS, q_T0, q_T1, q_TS, q_Kn, q_Ki, q_Kl, q_Kr, q_k0, q_kS, q_rc, q_ps, q_pn, q_aload0, q_getfieldA, q_getfieldI, q_iload1, q_iastore, q_dupI, q_dupA, q_iconst, q_iadd, q_putfieldI, q_return, rf_11_48, mmKe_1248, mmKo_11, mmLen_1248, mmR32, mmR64, Option.some.injEq, Int.cast_ofNat_Int, and_true, true_and, if_true, if_false, List.length_cons, List.length_nil, Nat.le_refl, Nat.zero_le, Nat.sub_zero, forall_const, reduceCtorEq, Nat.reduceAdd, Nat.reduceSub, Nat.reduceLeDiff, Nat.reduceEqDiff, Int.reduceAdd, Int.reduceNeg, Int.reduceSub, Int.reduceLT, Int.reduceLE, Int.reduceMul, Int.reduceEq, List.drop_zero, List.drop_succ_cons, ne_eq, not_false_eq_true, not_true_eq_false, false_and, and_false, false_implies, true_implies, reduceIte, mmU_rd, implies_true, or_false, false_or, or_true, true_or]
  rw [hl]
  refine ⟨by omega, by omega, by omega, hQ⟩
theorem m_counted (h : PSr I T s p) (hk : I 11 0 53 = kn) (hb : 0 ≤ kn ∧ kn ≤ 64) : mmC (d + 2) 177 [mo 11 0] (I, mmRf a br, X) (mT a br X fun v I' => (64 ≤ kn ∧ v = some (mv 0) ∧ MF I (2, skE T s p) I') ∨ (kn < 64 ∧ v = some (mv 1) ∧ I' = mmU I 11 0 53 (kn + 1))) := by
  refine mmC_in (by decide) (Nat.le_of_ble_eq_true rfl) (mmC_step ?_)
  simp only [show mmMl 177 = 1 from rfl, mmLs, List.replicate, cd_177, sg_177_0, sg_177_8, mmK_cut cd_177, q_cons, q_G0, q_GS, q_I1, q_L1, q_A1, q_S0, q_S1, q_SS, q_T0, q_T1, q_TS, q_Kn, q_Ki, q_Kl, q_Kr, q_k0, q_kS, q_rc, q_ps, q_pn, q_aload0, q_getfieldI, q_bipush, q_icmp_ne, q_iconst, q_invV, q_ireturn1, q_dupI, q_dupA, q_iadd, q_putfieldI, mmKo_11, mmR32, mmR64, Option.some.injEq, Int.cast_ofNat_Int, and_true, true_and, if_true, if_false, List.length_cons, List.length_nil, Nat.le_refl, Nat.zero_le, Nat.sub_zero, forall_const, reduceCtorEq, Nat.reduceAdd, Nat.reduceSub, Nat.reduceLeDiff, Nat.reduceEqDiff, Int.reduceAdd, Int.reduceNeg, Int.reduceSub, Int.reduceLT, Int.reduceLE, Int.reduceMul, Int.reduceEq, List.drop_zero, List.drop_succ_cons, ne_eq, not_false_eq_true, not_true_eq_false, false_and, and_false, false_implies, true_implies, reduceIte, mmU_rd, implies_true, or_false, false_or, or_true, true_or]
  rw [hk]
  refine ⟨fun c => ?_, fun c => ?_⟩
  · refine mmC_step ?_
    simp only [cd_177, sg_177_0, sg_177_8, mmK_cut cd_177, q_cons, q_G0, q_GS, q_I1, q_L1, q_A1, q_S0, q_S1, q_SS, q_T0, q_T1, q_TS, q_Kn, q_Ki, q_Kl, q_Kr, q_k0, q_kS, q_rc, q_ps, q_pn, q_aload0, q_getfieldI, q_bipush, q_icmp_ne, q_iconst, q_invV, q_ireturn1, q_dupI, q_dupA, q_iadd, q_putfieldI, mmKo_11, mmR32, mmR64, Option.some.injEq, Int.cast_ofNat_Int, and_true, true_and, if_true, if_false, List.length_cons, List.length_nil, Nat.le_refl, Nat.zero_le, Nat.sub_zero, forall_const, reduceCtorEq, Nat.reduceAdd, Nat.reduceSub, Nat.reduceLeDiff, Nat.reduceEqDiff, Int.reduceAdd, Int.reduceNeg, Int.reduceSub, Int.reduceLT, Int.reduceLE, Int.reduceMul, Int.reduceEq, List.drop_zero, List.drop_succ_cons, ne_eq, not_false_eq_true, not_true_eq_false, false_and, and_false, false_implies, true_implies, reduceIte, mmU_rd, implies_true, or_false, false_or, or_true, true_or]
    rw [hk]
    exact ⟨by omega, mT_in (Or.inr ⟨by omega, rfl, rfl⟩)⟩
  · refine mT_use m_wrong (fun v I' q => ?_)
    obtain ⟨rfl, q⟩ := q
    simp only [mmK_cut cd_177, q_cons, q_G0, q_GS, q_I1, q_L1, q_A1, q_S0, q_S1, q_SS, q_T0, q_T1, q_TS, q_Kn, q_Ki, q_Kl, q_Kr, q_k0, q_kS, q_rc, q_ps, q_pn, q_aload0, q_getfieldI, q_bipush, q_icmp_ne, q_iconst, q_invV, q_ireturn1, q_dupI, q_dupA, q_iadd, q_putfieldI, mmKo_11, mmR32, mmR64, Option.some.injEq, Int.cast_ofNat_Int, and_true, true_and, if_true, if_false, List.length_cons, List.length_nil, Nat.le_refl, Nat.zero_le, Nat.sub_zero, forall_const, reduceCtorEq, Nat.reduceAdd, Nat.reduceSub, Nat.reduceLeDiff, Nat.reduceEqDiff, Int.reduceAdd, Int.reduceNeg, Int.reduceSub, Int.reduceLT, Int.reduceLE, Int.reduceMul, Int.reduceEq, List.drop_zero, List.drop_succ_cons, ne_eq, not_false_eq_true, not_true_eq_false, false_and, and_false, false_implies, true_implies, reduceIte, mmU_rd, implies_true, or_false, false_or, or_true, true_or]
    exact mT_in (Or.inl ⟨by omega, rfl, MF_wrong h q⟩)
theorem m_nameMet (h : PSr I T s p) (hQ : Q (some (mv (nmO T s p))) (I, mmRf a br, X)) : mmC (d + 1) 179 [mo 11 0] (I, mmRf a br, X) Q := by
  have hR := TR_key h.2.2.2.2.1
  refine mmC_in (by decide) (Nat.le_of_ble_eq_true rfl) (mmC_step ?_)
  simp only [show mmMl 179 = 1 from rfl, mmLs, List.replicate, cd_179, sg_179_0, sg_179_6, sg_179_9, sg_179_11, sg_179_13, sg_179_15, sg_179_17, sg_179_19, sg_179_21, sg_179_23, sg_179_25, mmK_cut cd_179, q_cons, q_G0, q_GS, q_I1, q_L1, q_A1, q_S0, q_S1, q_SS, q_T0, q_T1, q_TS, q_Kn, q_Ki, q_Kl, q_Kr, q_k0, q_kS, q_rc, q_ps, q_pn, q_aload0, q_getfieldI, q_iconst, q_icmp_eq, q_ireturn0, q_w0, q_wS, q_l0, q_lS, q_tableswitch, q_bipush, mmKo_11, mmR32, mmR64, Option.some.injEq, Int.cast_ofNat_Int, and_true, true_and, if_true, if_false, List.length_cons, List.length_nil, Nat.le_refl, Nat.zero_le, Nat.sub_zero, forall_const, reduceCtorEq, Nat.reduceAdd, Nat.reduceSub, Nat.reduceLeDiff, Nat.reduceEqDiff, Int.reduceAdd, Int.reduceNeg, Int.reduceSub, Int.reduceLT, Int.reduceLE, Int.reduceMul, Int.reduceEq, List.drop_zero, List.drop_succ_cons, ne_eq, not_false_eq_true, not_true_eq_false, false_and, and_false, false_implies, true_implies, reduceIte, mmU_rd, implies_true, or_false, false_or, or_true, true_or]
  refine ⟨fun c => ?_, fun c => ?_⟩
  · have hQ' : ∀ z, z = nk (I 11 0 9) → Q (some (mv z)) (I, mmRf a br, X) := by
      intro z hz
      have : nmO T s p = z := by
        unfold nmO
        rw [if_pos (hR.1.mp c).1, name_ky, hz, hR.2 c]
      rw [← this]; exact hQ
    repeat' (first | (refine mmC_step ?_; simp only [cd_179, sg_179_0, sg_179_6, sg_179_9, sg_179_11, sg_179_13, sg_179_15, sg_179_17, sg_179_19, sg_179_21, sg_179_23, sg_179_25, mmK_cut cd_179, q_cons, q_G0, q_GS, q_I1, q_L1, q_A1, q_S0, q_S1, q_SS, q_T0, q_T1, q_TS, q_Kn, q_Ki, q_Kl, q_Kr, q_k0, q_kS, q_rc, q_ps, q_pn, q_aload0, q_getfieldI, q_iconst, q_icmp_eq, q_ireturn0, q_w0, q_wS, q_l0, q_lS, q_tableswitch, q_bipush, mmKo_11, mmR32, mmR64, Option.some.injEq, Int.cast_ofNat_Int, and_true, true_and, if_true, if_false, List.length_cons, List.length_nil, Nat.le_refl, Nat.zero_le, Nat.sub_zero, forall_const, reduceCtorEq, Nat.reduceAdd, Nat.reduceSub, Nat.reduceLeDiff, Nat.reduceEqDiff, Int.reduceAdd, Int.reduceNeg, Int.reduceSub, Int.reduceLT, Int.reduceLE, Int.reduceMul, Int.reduceEq, List.drop_zero, List.drop_succ_cons, ne_eq, not_false_eq_true, not_true_eq_false, false_and, and_false, false_implies, true_implies, reduceIte, mmU_rd, implies_true, or_false, false_or, or_true, true_or]) | (refine ⟨?_, ?_⟩) | intro _)
    all_goals first
      | (refine hQ' _ ?_; rename_i h; rw [h]; rfl)
      | (refine hQ' _ ?_; unfold nk; rw [if_neg (by omega), if_neg (by omega), if_neg (by omega), if_neg (by omega), if_neg (by omega), if_neg (by omega), if_neg (by omega), if_neg (by omega)])
  · have : nmO T s p = -1 := by
      unfold nmO
      split
      · rename_i q
        have hlo := kyF_lo (v := tkV T s p)
        have : kyF (tkV T s p) = -1 := by
          have := hR.1
          omega
        rw [name_ky, this]; rfl
      · rfl
    rw [← this]; exact hQ
set_option maxHeartbeats 2000000 in
theorem m_leaf {b : Int} (h : PSr I T s p) (hl : LM I P op kn 0 r) (hi : LI P op kn r) (h54 : I 11 0 54 = 1) (h55 : I 11 0 55 = b) (hb : b = 0 ∨ b = 1) : mmC (d + 3) 180 [mo 11 0] (I, mmRf a br, X) (mT a br X (LMS I T s (loF T s b p P op kn r))) := by
  obtain ⟨g1, g2, g3, g4, g5, g10⟩ := id hl
  obtain ⟨t0, t1, ⟨t2, t3⟩, t4⟩ := id g5
  obtain ⟨i1, i2, i3, i4, i5⟩ := id hi
  have hL := LI_len hi
  have hR := h.2.2.2.2.1
  have hnb := nB_in P
  have hix := ixS_in (K := r 200) (kn := Gr I 30) (pa := Gr I 31) (ot := Gr I 32) (r 1 2).toNat (fun m hm => t4 m (by omega))
  generalize hZ : loF T s b p P op kn r = Z
  unfold loF at hZ
  refine mmC_in (by decide) (Nat.le_of_ble_eq_true rfl) (mmC_step ?_)
  simp only [show mmMl 180 = 2 from rfl, mmLs, List.replicate, cd_180, sg_180_0, sg_180_12, sg_180_28, sg_180_40, sg_180_47, sg_180_60, sg_180_70, sg_180_75, sg_180_80, sg_180_81, sg_180_85, sg_180_87, mmK_cut cd_180, q_cons, q_G0, q_GS, q_I1, q_L1, q_A1, q_S0, q_S1, q_SS, q_T0, q_T1, q_TS, q_Kn, q_Ki, q_Kl, q_Kr, q_k0, q_kS, q_rc, q_ps, q_pn, q_aload0, q_bipush, q_invV, q_if_eq, q_getfieldI, q_icmp_ne, q_iconst, q_ireturn1, q_dupI, q_dupA, q_iadd, q_putfieldI, q_putfieldZ, q_getfieldZ, q_if_ne, q_istore1, q_iload1, q_if_ge, q_icmp_eq, q_sipush, q_icmp_le, q_if_lt, q_goto, mmKo_11, mmR32, mmR64, Option.some.injEq, Int.cast_ofNat_Int, and_true, true_and, if_true, if_false, List.length_cons, List.length_nil, Nat.le_refl, Nat.zero_le, Nat.sub_zero, forall_const, reduceCtorEq, Nat.reduceAdd, Nat.reduceSub, Nat.reduceLeDiff, Nat.reduceEqDiff, Int.reduceAdd, Int.reduceNeg, Int.reduceSub, Int.reduceLT, Int.reduceLE, Int.reduceMul, Int.reduceEq, List.drop_zero, List.drop_succ_cons, ne_eq, not_false_eq_true, not_true_eq_false, false_and, and_false, false_implies, true_implies, reduceIte, mmU_rd, implies_true, or_false, false_or, or_true, true_or]
  refine sq_isSign ?_
  rw [show (I 11 0 8 = 4 ∧ I 11 0 9 = 40) = (tkS T s p = 3 ∧ tkV T s p = 40) from propext (TR_sign hR (by omega))]
  simp only [mmK_cut cd_180, q_cons, q_G0, q_GS, q_I1, q_L1, q_A1, q_S0, q_S1, q_SS, q_T0, q_T1, q_TS, q_Kn, q_Ki, q_Kl, q_Kr, q_k0, q_kS, q_rc, q_ps, q_pn, q_aload0, q_bipush, q_invV, q_if_eq, q_getfieldI, q_icmp_ne, q_iconst, q_ireturn1, q_dupI, q_dupA, q_iadd, q_putfieldI, q_putfieldZ, q_getfieldZ, q_if_ne, q_istore1, q_iload1, q_if_ge, q_icmp_eq, q_sipush, q_icmp_le, q_if_lt, q_goto, mmKo_11, mmR32, mmR64, Option.some.injEq, Int.cast_ofNat_Int, and_true, true_and, if_true, if_false, List.length_cons, List.length_nil, Nat.le_refl, Nat.zero_le, Nat.sub_zero, forall_const, reduceCtorEq, Nat.reduceAdd, Nat.reduceSub, Nat.reduceLeDiff, Nat.reduceEqDiff, Int.reduceAdd, Int.reduceNeg, Int.reduceSub, Int.reduceLT, Int.reduceLE, Int.reduceMul, Int.reduceEq, List.drop_zero, List.drop_succ_cons, ne_eq, not_false_eq_true, not_true_eq_false, false_and, and_false, false_implies, true_implies, reduceIte, mmU_rd, implies_true, or_false, false_or, or_true, true_or, bI_eq0]
  refine ⟨fun c => ?_, fun c => ?_⟩
  · rw [if_neg c] at hZ
    have w47 : ¬ (¬ b = 0 ∧ tkS T s p = 1 ∧ tkV T s p = 486146048) → mmK (d + 2) 180 (mT a br X (LMS I T s Z)) 47 [some (mo 11 0), none] [] (I, mmRf a br, X) := by
      intro c2
      rw [if_neg c2] at hZ
      refine mmC_step ?_
      simp only [cd_180, sg_180_0, sg_180_12, sg_180_28, sg_180_40, sg_180_47, sg_180_60, sg_180_70, sg_180_75, sg_180_80, sg_180_81, sg_180_85, sg_180_87, mmK_cut cd_180, q_cons, q_G0, q_GS, q_I1, q_L1, q_A1, q_S0, q_S1, q_SS, q_T0, q_T1, q_TS, q_Kn, q_Ki, q_Kl, q_Kr, q_k0, q_kS, q_rc, q_ps, q_pn, q_aload0, q_bipush, q_invV, q_if_eq, q_getfieldI, q_icmp_ne, q_iconst, q_ireturn1, q_dupI, q_dupA, q_iadd, q_putfieldI, q_putfieldZ, q_getfieldZ, q_if_ne, q_istore1, q_iload1, q_if_ge, q_icmp_eq, q_sipush, q_icmp_le, q_if_lt, q_goto, mmKo_11, mmR32, mmR64, Option.some.injEq, Int.cast_ofNat_Int, and_true, true_and, if_true, if_false, List.length_cons, List.length_nil, Nat.le_refl, Nat.zero_le, Nat.sub_zero, forall_const, reduceCtorEq, Nat.reduceAdd, Nat.reduceSub, Nat.reduceLeDiff, Nat.reduceEqDiff, Int.reduceAdd, Int.reduceNeg, Int.reduceSub, Int.reduceLT, Int.reduceLE, Int.reduceMul, Int.reduceEq, List.drop_zero, List.drop_succ_cons, ne_eq, not_false_eq_true, not_true_eq_false, false_and, and_false, false_implies, true_implies, reduceIte, mmU_rd, implies_true, or_false, false_or, or_true, true_or]
      refine m_nameMet h ?_
      have hnm : -1 ≤ nmO T s p ∧ nmO T s p ≤ 7 := by
        unfold nmO; split
        · exact mmName_in
        · omega
      have hnn : 0 ≤ nmO T s p → tkS T s p = 1 := by
        unfold nmO
        split
        · exact fun _ => by assumption
        · intro q; omega
      generalize nmO T s p = nm at *
      simp only [mmK_cut cd_180, q_cons, q_G0, q_GS, q_I1, q_L1, q_A1, q_S0, q_S1, q_SS, q_T0, q_T1, q_TS, q_Kn, q_Ki, q_Kl, q_Kr, q_k0, q_kS, q_rc, q_ps, q_pn, q_aload0, q_bipush, q_invV, q_if_eq, q_getfieldI, q_icmp_ne, q_iconst, q_ireturn1, q_dupI, q_dupA, q_iadd, q_putfieldI, q_putfieldZ, q_getfieldZ, q_if_ne, q_istore1, q_iload1, q_if_ge, q_icmp_eq, q_sipush, q_icmp_le, q_if_lt, q_goto, mmKo_11, mmR32, mmR64, Option.some.injEq, Int.cast_ofNat_Int, and_true, true_and, if_true, if_false, List.length_cons, List.length_nil, Nat.le_refl, Nat.zero_le, Nat.sub_zero, forall_const, reduceCtorEq, Nat.reduceAdd, Nat.reduceSub, Nat.reduceLeDiff, Nat.reduceEqDiff, Int.reduceAdd, Int.reduceNeg, Int.reduceSub, Int.reduceLT, Int.reduceLE, Int.reduceMul, Int.reduceEq, List.drop_zero, List.drop_succ_cons, ne_eq, not_false_eq_true, not_true_eq_false, false_and, and_false, false_implies, true_implies, reduceIte, mmU_rd, implies_true, or_false, false_or, or_true, true_or]
      have w70 : ¬ (¬ tkS T s p = 2 ∧ nm = -1) → ¬ (nm = -1 ∧ 9999 < tkV T s p) → mmK (d + 2) 180 (mT a br X (LMS I T s Z)) 70 [some (mo 11 0), some (mv nm)] [] (I, mmRf a br, X) := by
        intro c3 c4
        rw [if_neg c3] at hZ
        have hval : nm = -1 → I 11 0 9 = tkV T s p ∧ 0 ≤ tkV T s p := by
          intro q
          have c5 : tkS T s p = 2 := by omega
          have := TR_in (lo := 0) (hi := 9999) hR c5 (by omega)
          unfold TR at hR
          omega
        refine mmC_step ?_
        simp only [cd_180, sg_180_0, sg_180_12, sg_180_28, sg_180_40, sg_180_47, sg_180_60, sg_180_70, sg_180_75, sg_180_80, sg_180_81, sg_180_85, sg_180_87, mmK_cut cd_180, q_cons, q_G0, q_GS, q_I1, q_L1, q_A1, q_S0, q_S1, q_SS, q_T0, q_T1, q_TS, q_Kn, q_Ki, q_Kl, q_Kr, q_k0, q_kS, q_rc, q_ps, q_pn, q_aload0, q_bipush, q_invV, q_if_eq, q_getfieldI, q_icmp_ne, q_iconst, q_ireturn1, q_dupI, q_dupA, q_iadd, q_putfieldI, q_putfieldZ, q_getfieldZ, q_if_ne, q_istore1, q_iload1, q_if_ge, q_icmp_eq, q_sipush, q_icmp_le, q_if_lt, q_goto, mmKo_11, mmR32, mmR64, Option.some.injEq, Int.cast_ofNat_Int, and_true, true_and, if_true, if_false, List.length_cons, List.length_nil, Nat.le_refl, Nat.zero_le, Nat.sub_zero, forall_const, reduceCtorEq, Nat.reduceAdd, Nat.reduceSub, Nat.reduceLeDiff, Nat.reduceEqDiff, Int.reduceAdd, Int.reduceNeg, Int.reduceSub, Int.reduceLT, Int.reduceLE, Int.reduceMul, Int.reduceEq, List.drop_zero, List.drop_succ_cons, ne_eq, not_false_eq_true, not_true_eq_false, false_and, and_false, false_implies, true_implies, reduceIte, mmU_rd, implies_true, or_false, false_or, or_true, true_or]
        refine mT_use (m_counted h g4 (by omega)) (fun v I1 q => ?_)
        rcases q with ⟨q1, rfl, q2⟩ | ⟨q1, rfl, rfl⟩
        · rw [if_pos (Or.inl q1)] at hZ
          simp only [mmK_cut cd_180, q_cons, q_G0, q_GS, q_I1, q_L1, q_A1, q_S0, q_S1, q_SS, q_T0, q_T1, q_TS, q_Kn, q_Ki, q_Kl, q_Kr, q_k0, q_kS, q_rc, q_ps, q_pn, q_aload0, q_bipush, q_invV, q_if_eq, q_getfieldI, q_icmp_ne, q_iconst, q_ireturn1, q_dupI, q_dupA, q_iadd, q_putfieldI, q_putfieldZ, q_getfieldZ, q_if_ne, q_istore1, q_iload1, q_if_ge, q_icmp_eq, q_sipush, q_icmp_le, q_if_lt, q_goto, mmKo_11, mmR32, mmR64, Option.some.injEq, Int.cast_ofNat_Int, and_true, true_and, if_true, if_false, List.length_cons, List.length_nil, Nat.le_refl, Nat.zero_le, Nat.sub_zero, forall_const, reduceCtorEq, Nat.reduceAdd, Nat.reduceSub, Nat.reduceLeDiff, Nat.reduceEqDiff, Int.reduceAdd, Int.reduceNeg, Int.reduceSub, Int.reduceLT, Int.reduceLE, Int.reduceMul, Int.reduceEq, List.drop_zero, List.drop_succ_cons, ne_eq, not_false_eq_true, not_true_eq_false, false_and, and_false, false_implies, true_implies, reduceIte, mmU_rd, implies_true, or_false, false_or, or_true, true_or]
          exact mT_in (Or.inl ⟨_, hZ.symm, rfl, q2⟩)
        · rw [if_neg (by omega)] at hZ
          have fin : ∀ (z1 z2 : Int), z1 = (if nm = -1 then 0 else 1) → z2 = (if nm = -1 then tkV T s p else nm) → mmK (d + 2) 180 (mT a br X (LMS I T s Z)) 87 [some (mo 11 0), some (mv nm)] [mv z2, mv z1, mo 11 0] (mmU I 11 0 53 (kn + 1), mmRf a br, X) := by
            intro z1 z2 hz1 hz2
            refine mmC_step ?_
            simp only [cd_180, sg_180_0, sg_180_12, sg_180_28, sg_180_40, sg_180_47, sg_180_60, sg_180_70, sg_180_75, sg_180_80, sg_180_81, sg_180_85, sg_180_87, mmK_cut cd_180, q_cons, q_G0, q_GS, q_I1, q_L1, q_A1, q_S0, q_S1, q_SS, q_T0, q_T1, q_TS, q_Kn, q_Ki, q_Kl, q_Kr, q_k0, q_kS, q_rc, q_ps, q_pn, q_aload0, q_bipush, q_invV, q_if_eq, q_getfieldI, q_icmp_ne, q_iconst, q_ireturn1, q_dupI, q_dupA, q_iadd, q_putfieldI, q_putfieldZ, q_getfieldZ, q_if_ne, q_istore1, q_iload1, q_if_ge, q_icmp_eq, q_sipush, q_icmp_le, q_if_lt, q_goto, mmKo_11, mmR32, mmR64, Option.some.injEq, Int.cast_ofNat_Int, and_true, true_and, if_true, if_false, List.length_cons, List.length_nil, Nat.le_refl, Nat.zero_le, Nat.sub_zero, forall_const, reduceCtorEq, Nat.reduceAdd, Nat.reduceSub, Nat.reduceLeDiff, Nat.reduceEqDiff, Int.reduceAdd, Int.reduceNeg, Int.reduceSub, Int.reduceLT, Int.reduceLE, Int.reduceMul, Int.reduceEq, List.drop_zero, List.drop_succ_cons, ne_eq, not_false_eq_true, not_true_eq_false, false_and, and_false, false_implies, true_implies, reduceIte, mmU_rd, implies_true, or_false, false_or, or_true, true_or]
            have e26 : mmU I 11 0 53 (kn + 1) 11 0 26 = r 1 2 := t1
            have e51 : mmU I 11 0 53 (kn + 1) 11 0 51 = nB P := by
              show I 11 0 51 = _
              rw [t2, g10]; omega
            refine m_grown (by rw [e26]; omega) (by rw [e51]; omega) ?_
            simp only [mmK_cut cd_180, q_cons, q_G0, q_GS, q_I1, q_L1, q_A1, q_S0, q_S1, q_SS, q_T0, q_T1, q_TS, q_Kn, q_Ki, q_Kl, q_Kr, q_k0, q_kS, q_rc, q_ps, q_pn, q_aload0, q_bipush, q_invV, q_if_eq, q_getfieldI, q_icmp_ne, q_iconst, q_ireturn1, q_dupI, q_dupA, q_iadd, q_putfieldI, q_putfieldZ, q_getfieldZ, q_if_ne, q_istore1, q_iload1, q_if_ge, q_icmp_eq, q_sipush, q_icmp_le, q_if_lt, q_goto, mmKo_11, mmR32, mmR64, Option.some.injEq, Int.cast_ofNat_Int, and_true, true_and, if_true, if_false, List.length_cons, List.length_nil, Nat.le_refl, Nat.zero_le, Nat.sub_zero, forall_const, reduceCtorEq, Nat.reduceAdd, Nat.reduceSub, Nat.reduceLeDiff, Nat.reduceEqDiff, Int.reduceAdd, Int.reduceNeg, Int.reduceSub, Int.reduceLT, Int.reduceLE, Int.reduceMul, Int.reduceEq, List.drop_zero, List.drop_succ_cons, ne_eq, not_false_eq_true, not_true_eq_false, false_and, and_false, false_implies, true_implies, reduceIte, mmU_rd, implies_true, or_false, false_or, or_true, true_or]
            generalize hJ : gwM (mmU I 11 0 53 (kn + 1)) z1 z2 0 = J
            have j44 : J 1244 0 (64 + r 1 2) = z1 := by
              rw [← hJ, ← e26]; unfold gwM; simp [mmU]
            have j45 : J 1245 0 (64 + r 1 2) = z2 := by
              rw [← hJ, ← e26]; unfold gwM; simp [mmU]
            have j49 : J 1249 0 (nB P) = r 1 2 := by
              rw [← hJ, ← e26, ← e51]; unfold gwM; simp [mmU]
            have j51 : J 11 0 51 = nB P + 1 := by
              rw [← hJ, ← e51]; unfold gwM; simp [mmU]
            have j26 : J 11 0 26 = r 1 2 + 1 := by
              rw [← hJ, ← e26]; unfold gwM; simp [mmU]
            have jo : ∀ t i z, ¬ ((t = 11 ∧ (z = 26 ∨ z = 51)) ∨ (1244 ≤ t ∧ t ≤ 1246 ∧ z = 64 + r 1 2) ∨ (t = 1249 ∧ z = nB P)) → J t i z = mmU I 11 0 53 (kn + 1) t i z := by
              intro t i z hz'
              rw [← hJ]
              unfold gwM
              rw [e26, e51]
              generalize mmU I 11 0 53 (kn + 1) = Y
              unfold mmU
              rw [if_neg (by omega), if_neg (by omega), if_neg (by omega), if_neg (by omega), if_neg (by omega), if_neg (by omega)]
            generalize hc : (if nm = -1 then tkV T s p else -1 - nm) = cc at *
            have hcc : -8 ≤ cc := by rw [← hc]; split <;> omega
            have hg := LMt_grow (J := J) (c := cc) (h := nB P) g5 (by omega) (by omega) (by rw [ixT_leaf hcc, g10, show nB P + 0 = nB P by omega]) ?_ (fun t z ht => by rw [jo t 0 z (by omega)]; unfold mmU; rw [if_neg (by omega)]) j49 j51 j26
            · have hfr : FrL I (mmU J 11 0 54 0) := by
                refine FrL_trans ?_ (FrL_U (by unfold LWt; omega))
                intro t i z hz'
                rw [jo t i z (fun q => hz' (by unfold LWt; omega))]
                unfold mmU
                rw [if_neg (fun q => hz' (by unfold LWt; omega))]
              have hps : PSr (mmU J 11 0 54 0) T s p := by
                refine PSr_ext h (fun k => ?_) (fun k hk => ?_) (fun k => ?_)
                · show J 1200 0 k = _; rw [jo _ _ _ (by omega)]; rfl
                · unfold mmU; rw [if_neg (by omega), jo _ _ _ (by omega)]; unfold mmU; rw [if_neg (by omega)]
                · show J 1203 0 k = _; rw [jo _ _ _ (by omega)]; rfl
              have hlm : LM (mmU J 11 0 54 0) P op (kn + 1) 1 (lad r cc) := by
                refine ⟨?_, ?_, ?_, ?_, ?_, hg.2⟩
                · show J 11 0 50 = _; rw [jo _ _ _ (by omega)]; exact g1
                · refine PLm_ext (fun k _ _ => ?_) g2
                  show J 1248 0 k = _; rw [jo _ _ _ (by omega)]; rfl
                · show J 11 0 52 = _; rw [jo _ _ _ (by omega)]; exact g3
                · show J 11 0 53 = _; rw [jo _ _ _ (by omega)]; exact mmU_same
                · exact hg.1
              refine mT_use (m_token hps) (fun v I2 q => ?_)
              obtain ⟨rfl, q3, -, -, q4⟩ := q
              simp only [mmK_cut cd_180, q_cons, q_G0, q_GS, q_I1, q_L1, q_A1, q_S0, q_S1, q_SS, q_T0, q_T1, q_TS, q_Kn, q_Ki, q_Kl, q_Kr, q_k0, q_kS, q_rc, q_ps, q_pn, q_aload0, q_bipush, q_invV, q_if_eq, q_getfieldI, q_icmp_ne, q_iconst, q_ireturn1, q_dupI, q_dupA, q_iadd, q_putfieldI, q_putfieldZ, q_getfieldZ, q_if_ne, q_istore1, q_iload1, q_if_ge, q_icmp_eq, q_sipush, q_icmp_le, q_if_lt, q_goto, mmKo_11, mmR32, mmR64, Option.some.injEq, Int.cast_ofNat_Int, and_true, true_and, if_true, if_false, List.length_cons, List.length_nil, Nat.le_refl, Nat.zero_le, Nat.sub_zero, forall_const, reduceCtorEq, Nat.reduceAdd, Nat.reduceSub, Nat.reduceLeDiff, Nat.reduceEqDiff, Int.reduceAdd, Int.reduceNeg, Int.reduceSub, Int.reduceLT, Int.reduceLE, Int.reduceMul, Int.reduceEq, List.drop_zero, List.drop_succ_cons, ne_eq, not_false_eq_true, not_true_eq_false, false_and, and_false, false_implies, true_implies, reduceIte, mmU_rd, implies_true, or_false, false_or, or_true, true_or]
              refine mT_in (Or.inr ⟨_, _, _, _, _, _, hZ.symm, rfl, FrL_trans hfr (FrL_7 q3), q4, LM_7 hlm q3, fun _ => ?_, fun q => by omega, fun q => by omega⟩)
              rw [q3 _ _ _ (by omega)]; exact mmU_same
            · unfold TPn
              rw [lad_200, if_pos (by omega)]
              by_cases cn : nm = -1
              · left
                rw [if_pos cn] at hc hz1 hz2
                have := hval cn
                refine ⟨by omega, by omega, ?_, ?_⟩
                · show J 1244 0 (64 + ((r 1 2).toNat : Nat)) = 0; rw [show (((r 1 2).toNat : Nat) : Int) = r 1 2 by omega, j44]; exact hz1
                · show J 1245 0 (64 + ((r 1 2).toNat : Nat)) = cc; rw [show (((r 1 2).toNat : Nat) : Int) = r 1 2 by omega, j45]; omega
              · right; left
                rw [if_neg cn] at hc hz1 hz2
                refine ⟨by omega, by omega, ?_, ?_⟩
                · show J 1244 0 (64 + ((r 1 2).toNat : Nat)) = 1; rw [show (((r 1 2).toNat : Nat) : Int) = r 1 2 by omega, j44]; exact hz1
                · show J 1245 0 (64 + ((r 1 2).toNat : Nat)) = -1 - cc; rw [show (((r 1 2).toNat : Nat) : Int) = r 1 2 by omega, j45]; omega
          simp only [mmK_cut cd_180, q_cons, q_G0, q_GS, q_I1, q_L1, q_A1, q_S0, q_S1, q_SS, q_T0, q_T1, q_TS, q_Kn, q_Ki, q_Kl, q_Kr, q_k0, q_kS, q_rc, q_ps, q_pn, q_aload0, q_bipush, q_invV, q_if_eq, q_getfieldI, q_icmp_ne, q_iconst, q_ireturn1, q_dupI, q_dupA, q_iadd, q_putfieldI, q_putfieldZ, q_getfieldZ, q_if_ne, q_istore1, q_iload1, q_if_ge, q_icmp_eq, q_sipush, q_icmp_le, q_if_lt, q_goto, mmKo_11, mmR32, mmR64, Option.some.injEq, Int.cast_ofNat_Int, and_true, true_and, if_true, if_false, List.length_cons, List.length_nil, Nat.le_refl, Nat.zero_le, Nat.sub_zero, forall_const, reduceCtorEq, Nat.reduceAdd, Nat.reduceSub, Nat.reduceLeDiff, Nat.reduceEqDiff, Int.reduceAdd, Int.reduceNeg, Int.reduceSub, Int.reduceLT, Int.reduceLE, Int.reduceMul, Int.reduceEq, List.drop_zero, List.drop_succ_cons, ne_eq, not_false_eq_true, not_true_eq_false, false_and, and_false, false_implies, true_implies, reduceIte, mmU_rd, implies_true, or_false, false_or, or_true, true_or]
          refine mmC_step ?_
          simp only [cd_180, sg_180_0, sg_180_12, sg_180_28, sg_180_40, sg_180_47, sg_180_60, sg_180_70, sg_180_75, sg_180_80, sg_180_81, sg_180_85, sg_180_87, mmK_cut cd_180, q_cons, q_G0, q_GS, q_I1, q_L1, q_A1, q_S0, q_S1, q_SS, q_T0, q_T1, q_TS, q_Kn, q_Ki, q_Kl, q_Kr, q_k0, q_kS, q_rc, q_ps, q_pn, q_aload0, q_bipush, q_invV, q_if_eq, q_getfieldI, q_icmp_ne, q_iconst, q_ireturn1, q_dupI, q_dupA, q_iadd, q_putfieldI, q_putfieldZ, q_getfieldZ, q_if_ne, q_istore1, q_iload1, q_if_ge, q_icmp_eq, q_sipush, q_icmp_le, q_if_lt, q_goto, mmKo_11, mmR32, mmR64, Option.some.injEq, Int.cast_ofNat_Int, and_true, true_and, if_true, if_false, List.length_cons, List.length_nil, Nat.le_refl, Nat.zero_le, Nat.sub_zero, forall_const, reduceCtorEq, Nat.reduceAdd, Nat.reduceSub, Nat.reduceLeDiff, Nat.reduceEqDiff, Int.reduceAdd, Int.reduceNeg, Int.reduceSub, Int.reduceLT, Int.reduceLE, Int.reduceMul, Int.reduceEq, List.drop_zero, List.drop_succ_cons, ne_eq, not_false_eq_true, not_true_eq_false, false_and, and_false, false_implies, true_implies, reduceIte, mmU_rd, implies_true, or_false, false_or, or_true, true_or]
          refine ⟨fun c5 => ?_, fun c5 => ?_⟩
          · refine mmC_step ?_
            simp only [cd_180, sg_180_0, sg_180_12, sg_180_28, sg_180_40, sg_180_47, sg_180_60, sg_180_70, sg_180_75, sg_180_80, sg_180_81, sg_180_85, sg_180_87, mmK_cut cd_180, q_cons, q_G0, q_GS, q_I1, q_L1, q_A1, q_S0, q_S1, q_SS, q_T0, q_T1, q_TS, q_Kn, q_Ki, q_Kl, q_Kr, q_k0, q_kS, q_rc, q_ps, q_pn, q_aload0, q_bipush, q_invV, q_if_eq, q_getfieldI, q_icmp_ne, q_iconst, q_ireturn1, q_dupI, q_dupA, q_iadd, q_putfieldI, q_putfieldZ, q_getfieldZ, q_if_ne, q_istore1, q_iload1, q_if_ge, q_icmp_eq, q_sipush, q_icmp_le, q_if_lt, q_goto, mmKo_11, mmR32, mmR64, Option.some.injEq, Int.cast_ofNat_Int, and_true, true_and, if_true, if_false, List.length_cons, List.length_nil, Nat.le_refl, Nat.zero_le, Nat.sub_zero, forall_const, reduceCtorEq, Nat.reduceAdd, Nat.reduceSub, Nat.reduceLeDiff, Nat.reduceEqDiff, Int.reduceAdd, Int.reduceNeg, Int.reduceSub, Int.reduceLT, Int.reduceLE, Int.reduceMul, Int.reduceEq, List.drop_zero, List.drop_succ_cons, ne_eq, not_false_eq_true, not_true_eq_false, false_and, and_false, false_implies, true_implies, reduceIte, mmU_rd, implies_true, or_false, false_or, or_true, true_or]
            refine mmC_step ?_
            simp only [cd_180, sg_180_0, sg_180_12, sg_180_28, sg_180_40, sg_180_47, sg_180_60, sg_180_70, sg_180_75, sg_180_80, sg_180_81, sg_180_85, sg_180_87, mmK_cut cd_180, q_cons, q_G0, q_GS, q_I1, q_L1, q_A1, q_S0, q_S1, q_SS, q_T0, q_T1, q_TS, q_Kn, q_Ki, q_Kl, q_Kr, q_k0, q_kS, q_rc, q_ps, q_pn, q_aload0, q_bipush, q_invV, q_if_eq, q_getfieldI, q_icmp_ne, q_iconst, q_ireturn1, q_dupI, q_dupA, q_iadd, q_putfieldI, q_putfieldZ, q_getfieldZ, q_if_ne, q_istore1, q_iload1, q_if_ge, q_icmp_eq, q_sipush, q_icmp_le, q_if_lt, q_goto, mmKo_11, mmR32, mmR64, Option.some.injEq, Int.cast_ofNat_Int, and_true, true_and, if_true, if_false, List.length_cons, List.length_nil, Nat.le_refl, Nat.zero_le, Nat.sub_zero, forall_const, reduceCtorEq, Nat.reduceAdd, Nat.reduceSub, Nat.reduceLeDiff, Nat.reduceEqDiff, Int.reduceAdd, Int.reduceNeg, Int.reduceSub, Int.reduceLT, Int.reduceLE, Int.reduceMul, Int.reduceEq, List.drop_zero, List.drop_succ_cons, ne_eq, not_false_eq_true, not_true_eq_false, false_and, and_false, false_implies, true_implies, reduceIte, mmU_rd, implies_true, or_false, false_or, or_true, true_or]
            refine ⟨fun c6 => ?_, fun c6 => by omega⟩
            refine mmC_step ?_
            simp only [cd_180, sg_180_0, sg_180_12, sg_180_28, sg_180_40, sg_180_47, sg_180_60, sg_180_70, sg_180_75, sg_180_80, sg_180_81, sg_180_85, sg_180_87, mmK_cut cd_180, q_cons, q_G0, q_GS, q_I1, q_L1, q_A1, q_S0, q_S1, q_SS, q_T0, q_T1, q_TS, q_Kn, q_Ki, q_Kl, q_Kr, q_k0, q_kS, q_rc, q_ps, q_pn, q_aload0, q_bipush, q_invV, q_if_eq, q_getfieldI, q_icmp_ne, q_iconst, q_ireturn1, q_dupI, q_dupA, q_iadd, q_putfieldI, q_putfieldZ, q_getfieldZ, q_if_ne, q_istore1, q_iload1, q_if_ge, q_icmp_eq, q_sipush, q_icmp_le, q_if_lt, q_goto, mmKo_11, mmR32, mmR64, Option.some.injEq, Int.cast_ofNat_Int, and_true, true_and, if_true, if_false, List.length_cons, List.length_nil, Nat.le_refl, Nat.zero_le, Nat.sub_zero, forall_const, reduceCtorEq, Nat.reduceAdd, Nat.reduceSub, Nat.reduceLeDiff, Nat.reduceEqDiff, Int.reduceAdd, Int.reduceNeg, Int.reduceSub, Int.reduceLT, Int.reduceLE, Int.reduceMul, Int.reduceEq, List.drop_zero, List.drop_succ_cons, ne_eq, not_false_eq_true, not_true_eq_false, false_and, and_false, false_implies, true_implies, reduceIte, mmU_rd, implies_true, or_false, false_or, or_true, true_or]
            rw [(hval (by omega)).1]
            exact fin _ _ (by rw [if_pos (by omega)]) (by rw [if_pos (by omega)])
          · refine mmC_step ?_
            simp only [cd_180, sg_180_0, sg_180_12, sg_180_28, sg_180_40, sg_180_47, sg_180_60, sg_180_70, sg_180_75, sg_180_80, sg_180_81, sg_180_85, sg_180_87, mmK_cut cd_180, q_cons, q_G0, q_GS, q_I1, q_L1, q_A1, q_S0, q_S1, q_SS, q_T0, q_T1, q_TS, q_Kn, q_Ki, q_Kl, q_Kr, q_k0, q_kS, q_rc, q_ps, q_pn, q_aload0, q_bipush, q_invV, q_if_eq, q_getfieldI, q_icmp_ne, q_iconst, q_ireturn1, q_dupI, q_dupA, q_iadd, q_putfieldI, q_putfieldZ, q_getfieldZ, q_if_ne, q_istore1, q_iload1, q_if_ge, q_icmp_eq, q_sipush, q_icmp_le, q_if_lt, q_goto, mmKo_11, mmR32, mmR64, Option.some.injEq, Int.cast_ofNat_Int, and_true, true_and, if_true, if_false, List.length_cons, List.length_nil, Nat.le_refl, Nat.zero_le, Nat.sub_zero, forall_const, reduceCtorEq, Nat.reduceAdd, Nat.reduceSub, Nat.reduceLeDiff, Nat.reduceEqDiff, Int.reduceAdd, Int.reduceNeg, Int.reduceSub, Int.reduceLT, Int.reduceLE, Int.reduceMul, Int.reduceEq, List.drop_zero, List.drop_succ_cons, ne_eq, not_false_eq_true, not_true_eq_false, false_and, and_false, false_implies, true_implies, reduceIte, mmU_rd, implies_true, or_false, false_or, or_true, true_or]
            refine ⟨fun c6 => by omega, fun c6 => ?_⟩
            exact fin _ _ (by rw [if_neg (by omega)]) (by rw [if_neg (by omega)])
      have w60 : ¬ (¬ tkS T s p = 2 ∧ nm = -1) → mmK (d + 2) 180 (mT a br X (LMS I T s Z)) 60 [some (mo 11 0), some (mv nm)] [] (I, mmRf a br, X) := by
        intro c3
        refine mmC_step ?_
        simp only [cd_180, sg_180_0, sg_180_12, sg_180_28, sg_180_40, sg_180_47, sg_180_60, sg_180_70, sg_180_75, sg_180_80, sg_180_81, sg_180_85, sg_180_87, mmK_cut cd_180, q_cons, q_G0, q_GS, q_I1, q_L1, q_A1, q_S0, q_S1, q_SS, q_T0, q_T1, q_TS, q_Kn, q_Ki, q_Kl, q_Kr, q_k0, q_kS, q_rc, q_ps, q_pn, q_aload0, q_bipush, q_invV, q_if_eq, q_getfieldI, q_icmp_ne, q_iconst, q_ireturn1, q_dupI, q_dupA, q_iadd, q_putfieldI, q_putfieldZ, q_getfieldZ, q_if_ne, q_istore1, q_iload1, q_if_ge, q_icmp_eq, q_sipush, q_icmp_le, q_if_lt, q_goto, mmKo_11, mmR32, mmR64, Option.some.injEq, Int.cast_ofNat_Int, and_true, true_and, if_true, if_false, List.length_cons, List.length_nil, Nat.le_refl, Nat.zero_le, Nat.sub_zero, forall_const, reduceCtorEq, Nat.reduceAdd, Nat.reduceSub, Nat.reduceLeDiff, Nat.reduceEqDiff, Int.reduceAdd, Int.reduceNeg, Int.reduceSub, Int.reduceLT, Int.reduceLE, Int.reduceMul, Int.reduceEq, List.drop_zero, List.drop_succ_cons, ne_eq, not_false_eq_true, not_true_eq_false, false_and, and_false, false_implies, true_implies, reduceIte, mmU_rd, implies_true, or_false, false_or, or_true, true_or]
        refine ⟨fun c4 => w70 c3 (by omega), fun c4 => ?_⟩
        have c5 : tkS T s p = 2 := by omega
        have hin := TR_in (lo := 0) (hi := 9999) hR c5 (by omega)
        have hwh : 0 ≤ I 11 0 9 ∧ 0 ≤ tkV T s p := by unfold TR at hR; omega
        refine ⟨fun c6 => w70 c3 (by omega), fun c6 => ?_⟩
        rw [if_neg c3, if_pos (Or.inr (by omega))] at hZ
        refine mT_use m_wrong (fun v I' q => ?_)
        obtain ⟨rfl, q⟩ := q
        simp only [mmK_cut cd_180, q_cons, q_G0, q_GS, q_I1, q_L1, q_A1, q_S0, q_S1, q_SS, q_T0, q_T1, q_TS, q_Kn, q_Ki, q_Kl, q_Kr, q_k0, q_kS, q_rc, q_ps, q_pn, q_aload0, q_bipush, q_invV, q_if_eq, q_getfieldI, q_icmp_ne, q_iconst, q_ireturn1, q_dupI, q_dupA, q_iadd, q_putfieldI, q_putfieldZ, q_getfieldZ, q_if_ne, q_istore1, q_iload1, q_if_ge, q_icmp_eq, q_sipush, q_icmp_le, q_if_lt, q_goto, mmKo_11, mmR32, mmR64, Option.some.injEq, Int.cast_ofNat_Int, and_true, true_and, if_true, if_false, List.length_cons, List.length_nil, Nat.le_refl, Nat.zero_le, Nat.sub_zero, forall_const, reduceCtorEq, Nat.reduceAdd, Nat.reduceSub, Nat.reduceLeDiff, Nat.reduceEqDiff, Int.reduceAdd, Int.reduceNeg, Int.reduceSub, Int.reduceLT, Int.reduceLE, Int.reduceMul, Int.reduceEq, List.drop_zero, List.drop_succ_cons, ne_eq, not_false_eq_true, not_true_eq_false, false_and, and_false, false_implies, true_implies, reduceIte, mmU_rd, implies_true, or_false, false_or, or_true, true_or]
        exact mT_in (Or.inl ⟨_, hZ.symm, rfl, MF_wrong h q⟩)
      refine ⟨fun c3 => w60 (by omega), fun c3 => ⟨fun c4 => w60 (fun q => q.1 ((TR_num hR).mp c4)), fun c4 => ?_⟩⟩
      rw [if_pos ⟨fun q => c4 ((TR_num hR).mpr q), by omega⟩] at hZ
      refine mT_use m_wrong (fun v I' q => ?_)
      obtain ⟨rfl, q⟩ := q
      simp only [mmK_cut cd_180, q_cons, q_G0, q_GS, q_I1, q_L1, q_A1, q_S0, q_S1, q_SS, q_T0, q_T1, q_TS, q_Kn, q_Ki, q_Kl, q_Kr, q_k0, q_kS, q_rc, q_ps, q_pn, q_aload0, q_bipush, q_invV, q_if_eq, q_getfieldI, q_icmp_ne, q_iconst, q_ireturn1, q_dupI, q_dupA, q_iadd, q_putfieldI, q_putfieldZ, q_getfieldZ, q_if_ne, q_istore1, q_iload1, q_if_ge, q_icmp_eq, q_sipush, q_icmp_le, q_if_lt, q_goto, mmKo_11, mmR32, mmR64, Option.some.injEq, Int.cast_ofNat_Int, and_true, true_and, if_true, if_false, List.length_cons, List.length_nil, Nat.le_refl, Nat.zero_le, Nat.sub_zero, forall_const, reduceCtorEq, Nat.reduceAdd, Nat.reduceSub, Nat.reduceLeDiff, Nat.reduceEqDiff, Int.reduceAdd, Int.reduceNeg, Int.reduceSub, Int.reduceLT, Int.reduceLE, Int.reduceMul, Int.reduceEq, List.drop_zero, List.drop_succ_cons, ne_eq, not_false_eq_true, not_true_eq_false, false_and, and_false, false_implies, true_implies, reduceIte, mmU_rd, implies_true, or_false, false_or, or_true, true_or]
      exact mT_in (Or.inl ⟨_, hZ.symm, rfl, MF_wrong h q⟩)
    refine mmC_step ?_
    simp only [cd_180, sg_180_0, sg_180_12, sg_180_28, sg_180_40, sg_180_47, sg_180_60, sg_180_70, sg_180_75, sg_180_80, sg_180_81, sg_180_85, sg_180_87, mmK_cut cd_180, q_cons, q_G0, q_GS, q_I1, q_L1, q_A1, q_S0, q_S1, q_SS, q_T0, q_T1, q_TS, q_Kn, q_Ki, q_Kl, q_Kr, q_k0, q_kS, q_rc, q_ps, q_pn, q_aload0, q_bipush, q_invV, q_if_eq, q_getfieldI, q_icmp_ne, q_iconst, q_ireturn1, q_dupI, q_dupA, q_iadd, q_putfieldI, q_putfieldZ, q_getfieldZ, q_if_ne, q_istore1, q_iload1, q_if_ge, q_icmp_eq, q_sipush, q_icmp_le, q_if_lt, q_goto, mmKo_11, mmR32, mmR64, Option.some.injEq, Int.cast_ofNat_Int, and_true, true_and, if_true, if_false, List.length_cons, List.length_nil, Nat.le_refl, Nat.zero_le, Nat.sub_zero, forall_const, reduceCtorEq, Nat.reduceAdd, Nat.reduceSub, Nat.reduceLeDiff, Nat.reduceEqDiff, Int.reduceAdd, Int.reduceNeg, Int.reduceSub, Int.reduceLT, Int.reduceLE, Int.reduceMul, Int.reduceEq, List.drop_zero, List.drop_succ_cons, ne_eq, not_false_eq_true, not_true_eq_false, false_and, and_false, false_implies, true_implies, reduceIte, mmU_rd, implies_true, or_false, false_or, or_true, true_or]
    refine sq_isKey ?_
    rw [show (I 11 0 8 = 1 ∧ I 11 0 9 = 12) = (tkS T s p = 1 ∧ tkV T s p = 486146048) from propext ((TR_isKey hR (by omega)).trans (by rw [ky_12]))]
    simp only [mmK_cut cd_180, q_cons, q_G0, q_GS, q_I1, q_L1, q_A1, q_S0, q_S1, q_SS, q_T0, q_T1, q_TS, q_Kn, q_Ki, q_Kl, q_Kr, q_k0, q_kS, q_rc, q_ps, q_pn, q_aload0, q_bipush, q_invV, q_if_eq, q_getfieldI, q_icmp_ne, q_iconst, q_ireturn1, q_dupI, q_dupA, q_iadd, q_putfieldI, q_putfieldZ, q_getfieldZ, q_if_ne, q_istore1, q_iload1, q_if_ge, q_icmp_eq, q_sipush, q_icmp_le, q_if_lt, q_goto, mmKo_11, mmR32, mmR64, Option.some.injEq, Int.cast_ofNat_Int, and_true, true_and, if_true, if_false, List.length_cons, List.length_nil, Nat.le_refl, Nat.zero_le, Nat.sub_zero, forall_const, reduceCtorEq, Nat.reduceAdd, Nat.reduceSub, Nat.reduceLeDiff, Nat.reduceEqDiff, Int.reduceAdd, Int.reduceNeg, Int.reduceSub, Int.reduceLT, Int.reduceLE, Int.reduceMul, Int.reduceEq, List.drop_zero, List.drop_succ_cons, ne_eq, not_false_eq_true, not_true_eq_false, false_and, and_false, false_implies, true_implies, reduceIte, mmU_rd, implies_true, or_false, false_or, or_true, true_or, bI_eq0]
    rw [h55]
    refine ⟨fun c2 => w47 (fun q => c2 q.2), fun c2 => ⟨fun c3 => w47 (fun q => q.1 c3), fun c3 => ?_⟩⟩
    rw [if_pos ⟨c3, Classical.not_not.mp c2⟩] at hZ
    unfold sgF at hZ
    refine mT_use (m_counted h g4 (by omega)) (fun v I1 q => ?_)
    rcases q with ⟨q1, rfl, q2⟩ | ⟨q1, rfl, rfl⟩
    · rw [if_pos q1] at hZ
      simp only [mmK_cut cd_180, q_cons, q_G0, q_GS, q_I1, q_L1, q_A1, q_S0, q_S1, q_SS, q_T0, q_T1, q_TS, q_Kn, q_Ki, q_Kl, q_Kr, q_k0, q_kS, q_rc, q_ps, q_pn, q_aload0, q_bipush, q_invV, q_if_eq, q_getfieldI, q_icmp_ne, q_iconst, q_ireturn1, q_dupI, q_dupA, q_iadd, q_putfieldI, q_putfieldZ, q_getfieldZ, q_if_ne, q_istore1, q_iload1, q_if_ge, q_icmp_eq, q_sipush, q_icmp_le, q_if_lt, q_goto, mmKo_11, mmR32, mmR64, Option.some.injEq, Int.cast_ofNat_Int, and_true, true_and, if_true, if_false, List.length_cons, List.length_nil, Nat.le_refl, Nat.zero_le, Nat.sub_zero, forall_const, reduceCtorEq, Nat.reduceAdd, Nat.reduceSub, Nat.reduceLeDiff, Nat.reduceEqDiff, Int.reduceAdd, Int.reduceNeg, Int.reduceSub, Int.reduceLT, Int.reduceLE, Int.reduceMul, Int.reduceEq, List.drop_zero, List.drop_succ_cons, ne_eq, not_false_eq_true, not_true_eq_false, false_and, and_false, false_implies, true_implies, reduceIte, mmU_rd, implies_true, or_false, false_or, or_true, true_or]
      exact mT_in (Or.inl ⟨_, hZ.symm, rfl, q2⟩)
    · rw [if_neg (by omega)] at hZ
      simp only [mmK_cut cd_180, q_cons, q_G0, q_GS, q_I1, q_L1, q_A1, q_S0, q_S1, q_SS, q_T0, q_T1, q_TS, q_Kn, q_Ki, q_Kl, q_Kr, q_k0, q_kS, q_rc, q_ps, q_pn, q_aload0, q_bipush, q_invV, q_if_eq, q_getfieldI, q_icmp_ne, q_iconst, q_ireturn1, q_dupI, q_dupA, q_iadd, q_putfieldI, q_putfieldZ, q_getfieldZ, q_if_ne, q_istore1, q_iload1, q_if_ge, q_icmp_eq, q_sipush, q_icmp_le, q_if_lt, q_goto, mmKo_11, mmR32, mmR64, Option.some.injEq, Int.cast_ofNat_Int, and_true, true_and, if_true, if_false, List.length_cons, List.length_nil, Nat.le_refl, Nat.zero_le, Nat.sub_zero, forall_const, reduceCtorEq, Nat.reduceAdd, Nat.reduceSub, Nat.reduceLeDiff, Nat.reduceEqDiff, Int.reduceAdd, Int.reduceNeg, Int.reduceSub, Int.reduceLT, Int.reduceLE, Int.reduceMul, Int.reduceEq, List.drop_zero, List.drop_succ_cons, ne_eq, not_false_eq_true, not_true_eq_false, false_and, and_false, false_implies, true_implies, reduceIte, mmU_rd, implies_true, or_false, false_or, or_true, true_or]
      refine mmC_step ?_
      simp only [cd_180, sg_180_0, sg_180_12, sg_180_28, sg_180_40, sg_180_47, sg_180_60, sg_180_70, sg_180_75, sg_180_80, sg_180_81, sg_180_85, sg_180_87, mmK_cut cd_180, q_cons, q_G0, q_GS, q_I1, q_L1, q_A1, q_S0, q_S1, q_SS, q_T0, q_T1, q_TS, q_Kn, q_Ki, q_Kl, q_Kr, q_k0, q_kS, q_rc, q_ps, q_pn, q_aload0, q_bipush, q_invV, q_if_eq, q_getfieldI, q_icmp_ne, q_iconst, q_ireturn1, q_dupI, q_dupA, q_iadd, q_putfieldI, q_putfieldZ, q_getfieldZ, q_if_ne, q_istore1, q_iload1, q_if_ge, q_icmp_eq, q_sipush, q_icmp_le, q_if_lt, q_goto, mmKo_11, mmR32, mmR64, Option.some.injEq, Int.cast_ofNat_Int, and_true, true_and, if_true, if_false, List.length_cons, List.length_nil, Nat.le_refl, Nat.zero_le, Nat.sub_zero, forall_const, reduceCtorEq, Nat.reduceAdd, Nat.reduceSub, Nat.reduceLeDiff, Nat.reduceEqDiff, Int.reduceAdd, Int.reduceNeg, Int.reduceSub, Int.reduceLT, Int.reduceLE, Int.reduceMul, Int.reduceEq, List.drop_zero, List.drop_succ_cons, ne_eq, not_false_eq_true, not_true_eq_false, false_and, and_false, false_implies, true_implies, reduceIte, mmU_rd, implies_true, or_false, false_or, or_true, true_or]
      refine m_waits (P := P) g1 (by omega) ?_
      simp only [mmK_cut cd_180, q_cons, q_G0, q_GS, q_I1, q_L1, q_A1, q_S0, q_S1, q_SS, q_T0, q_T1, q_TS, q_Kn, q_Ki, q_Kl, q_Kr, q_k0, q_kS, q_rc, q_ps, q_pn, q_aload0, q_bipush, q_invV, q_if_eq, q_getfieldI, q_icmp_ne, q_iconst, q_ireturn1, q_dupI, q_dupA, q_iadd, q_putfieldI, q_putfieldZ, q_getfieldZ, q_if_ne, q_istore1, q_iload1, q_if_ge, q_icmp_eq, q_sipush, q_icmp_le, q_if_lt, q_goto, mmKo_11, mmR32, mmR64, Option.some.injEq, Int.cast_ofNat_Int, and_true, true_and, if_true, if_false, List.length_cons, List.length_nil, Nat.le_refl, Nat.zero_le, Nat.sub_zero, forall_const, reduceCtorEq, Nat.reduceAdd, Nat.reduceSub, Nat.reduceLeDiff, Nat.reduceEqDiff, Int.reduceAdd, Int.reduceNeg, Int.reduceSub, Int.reduceLT, Int.reduceLE, Int.reduceMul, Int.reduceEq, List.drop_zero, List.drop_succ_cons, ne_eq, not_false_eq_true, not_true_eq_false, false_and, and_false, false_implies, true_implies, reduceIte, mmU_rd, implies_true, or_false, false_or, or_true, true_or]
      have hl' : LM (mmU I 11 0 53 (kn + 1)) P op (kn + 1) 0 r := ⟨g1, g2, g3, mmU_same, g5, g10⟩
      have hps : PSr (mmU (mmU (mmU I 11 0 53 (kn + 1)) 1248 0 P.length 2) 11 0 50 (P.length + 1)) T s p := PSr_U (PSr_U (PSr_U h (by omega)) (by omega)) (by omega)
      have hlm := LM_push (x := 2) (e' := 0) hl' (by omega) (by rw [show kW 2 = -11 from rfl, nB_c, if_pos (Or.inr rfl)]; omega)
      refine mT_use (m_token hps) (fun v I2 q => ?_)
      obtain ⟨rfl, q3, -, -, q4⟩ := q
      simp only [mmK_cut cd_180, q_cons, q_G0, q_GS, q_I1, q_L1, q_A1, q_S0, q_S1, q_SS, q_T0, q_T1, q_TS, q_Kn, q_Ki, q_Kl, q_Kr, q_k0, q_kS, q_rc, q_ps, q_pn, q_aload0, q_bipush, q_invV, q_if_eq, q_getfieldI, q_icmp_ne, q_iconst, q_ireturn1, q_dupI, q_dupA, q_iadd, q_putfieldI, q_putfieldZ, q_getfieldZ, q_if_ne, q_istore1, q_iload1, q_if_ge, q_icmp_eq, q_sipush, q_icmp_le, q_if_lt, q_goto, mmKo_11, mmR32, mmR64, Option.some.injEq, Int.cast_ofNat_Int, and_true, true_and, if_true, if_false, List.length_cons, List.length_nil, Nat.le_refl, Nat.zero_le, Nat.sub_zero, forall_const, reduceCtorEq, Nat.reduceAdd, Nat.reduceSub, Nat.reduceLeDiff, Nat.reduceEqDiff, Int.reduceAdd, Int.reduceNeg, Int.reduceSub, Int.reduceLT, Int.reduceLE, Int.reduceMul, Int.reduceEq, List.drop_zero, List.drop_succ_cons, ne_eq, not_false_eq_true, not_true_eq_false, false_and, and_false, false_implies, true_implies, reduceIte, mmU_rd, implies_true, or_false, false_or, or_true, true_or]
      have hfr : FrL I (mmU (mmU (mmU I 11 0 53 (kn + 1)) 1248 0 P.length 2) 11 0 50 (P.length + 1)) := FrL_trans (FrL_trans (FrL_U (by unfold LWt; omega)) (FrL_U (by unfold LWt; omega))) (FrL_U (by unfold LWt; omega))
      refine mT_in (Or.inr ⟨_, _, _, _, _, _, hZ.symm, rfl, FrL_trans hfr (FrL_7 q3), q4, LM_7 hlm q3, fun q => by omega, fun _ => ⟨?_, ?_⟩, fun q => by omega⟩)
      · rw [q3 _ _ _ (by omega)]; exact h54
      · rw [q3 _ _ _ (by omega)]; exact h55.trans (by omega)
  · rw [if_pos (Classical.not_not.mp c)] at hZ
    rw [g3]
    refine ⟨fun c2 => ?_, fun c2 => ?_⟩
    · rw [if_neg (by omega)] at hZ
      refine mmC_step ?_
      simp only [cd_180, sg_180_0, sg_180_12, sg_180_28, sg_180_40, sg_180_47, sg_180_60, sg_180_70, sg_180_75, sg_180_80, sg_180_81, sg_180_85, sg_180_87, mmK_cut cd_180, q_cons, q_G0, q_GS, q_I1, q_L1, q_A1, q_S0, q_S1, q_SS, q_T0, q_T1, q_TS, q_Kn, q_Ki, q_Kl, q_Kr, q_k0, q_kS, q_rc, q_ps, q_pn, q_aload0, q_bipush, q_invV, q_if_eq, q_getfieldI, q_icmp_ne, q_iconst, q_ireturn1, q_dupI, q_dupA, q_iadd, q_putfieldI, q_putfieldZ, q_getfieldZ, q_if_ne, q_istore1, q_iload1, q_if_ge, q_icmp_eq, q_sipush, q_icmp_le, q_if_lt, q_goto, mmKo_11, mmR32, mmR64, Option.some.injEq, Int.cast_ofNat_Int, and_true, true_and, if_true, if_false, List.length_cons, List.length_nil, Nat.le_refl, Nat.zero_le, Nat.sub_zero, forall_const, reduceCtorEq, Nat.reduceAdd, Nat.reduceSub, Nat.reduceLeDiff, Nat.reduceEqDiff, Int.reduceAdd, Int.reduceNeg, Int.reduceSub, Int.reduceLT, Int.reduceLE, Int.reduceMul, Int.reduceEq, List.drop_zero, List.drop_succ_cons, ne_eq, not_false_eq_true, not_true_eq_false, false_and, and_false, false_implies, true_implies, reduceIte, mmU_rd, implies_true, or_false, false_or, or_true, true_or]
      rw [g3]
      refine ⟨by omega, ?_⟩
      refine m_waits (P := P) g1 (by omega) ?_
      simp only [mmK_cut cd_180, q_cons, q_G0, q_GS, q_I1, q_L1, q_A1, q_S0, q_S1, q_SS, q_T0, q_T1, q_TS, q_Kn, q_Ki, q_Kl, q_Kr, q_k0, q_kS, q_rc, q_ps, q_pn, q_aload0, q_bipush, q_invV, q_if_eq, q_getfieldI, q_icmp_ne, q_iconst, q_ireturn1, q_dupI, q_dupA, q_iadd, q_putfieldI, q_putfieldZ, q_getfieldZ, q_if_ne, q_istore1, q_iload1, q_if_ge, q_icmp_eq, q_sipush, q_icmp_le, q_if_lt, q_goto, mmKo_11, mmR32, mmR64, Option.some.injEq, Int.cast_ofNat_Int, and_true, true_and, if_true, if_false, List.length_cons, List.length_nil, Nat.le_refl, Nat.zero_le, Nat.sub_zero, forall_const, reduceCtorEq, Nat.reduceAdd, Nat.reduceSub, Nat.reduceLeDiff, Nat.reduceEqDiff, Int.reduceAdd, Int.reduceNeg, Int.reduceSub, Int.reduceLT, Int.reduceLE, Int.reduceMul, Int.reduceEq, List.drop_zero, List.drop_succ_cons, ne_eq, not_false_eq_true, not_true_eq_false, false_and, and_false, false_implies, true_implies, reduceIte, mmU_rd, implies_true, or_false, false_or, or_true, true_or]
      have hl' : LM (mmU I 11 0 52 (op + 1)) P (op + 1) kn 0 r := ⟨g1, g2, mmU_same, g4, g5, g10⟩
      have hlm := LM_push (x := 0) (e' := 0) hl' (by omega) (by rw [show kW 0 = 0 from rfl, nB_c, if_pos (Or.inl rfl)]; omega)
      have hlm2 : LM (mmU (mmU (mmU (mmU I 11 0 52 (op + 1)) 1248 0 P.length 0) 11 0 50 (P.length + 1)) 11 0 55 1) (kW 0 :: P) (op + 1) kn 0 r := LM_ext hlm (fun k hk => by unfold mmU; rw [if_neg (by omega)]) (fun t k ht => by unfold mmU; rw [if_neg (by omega)])
      have hps : PSr (mmU (mmU (mmU (mmU I 11 0 52 (op + 1)) 1248 0 P.length 0) 11 0 50 (P.length + 1)) 11 0 55 1) T s p := PSr_U (PSr_U (PSr_U (PSr_U h (by omega)) (by omega)) (by omega)) (by omega)
      refine mT_use (m_token hps) (fun v I2 q => ?_)
      obtain ⟨rfl, q3, -, -, q4⟩ := q
      simp only [mmK_cut cd_180, q_cons, q_G0, q_GS, q_I1, q_L1, q_A1, q_S0, q_S1, q_SS, q_T0, q_T1, q_TS, q_Kn, q_Ki, q_Kl, q_Kr, q_k0, q_kS, q_rc, q_ps, q_pn, q_aload0, q_bipush, q_invV, q_if_eq, q_getfieldI, q_icmp_ne, q_iconst, q_ireturn1, q_dupI, q_dupA, q_iadd, q_putfieldI, q_putfieldZ, q_getfieldZ, q_if_ne, q_istore1, q_iload1, q_if_ge, q_icmp_eq, q_sipush, q_icmp_le, q_if_lt, q_goto, mmKo_11, mmR32, mmR64, Option.some.injEq, Int.cast_ofNat_Int, and_true, true_and, if_true, if_false, List.length_cons, List.length_nil, Nat.le_refl, Nat.zero_le, Nat.sub_zero, forall_const, reduceCtorEq, Nat.reduceAdd, Nat.reduceSub, Nat.reduceLeDiff, Nat.reduceEqDiff, Int.reduceAdd, Int.reduceNeg, Int.reduceSub, Int.reduceLT, Int.reduceLE, Int.reduceMul, Int.reduceEq, List.drop_zero, List.drop_succ_cons, ne_eq, not_false_eq_true, not_true_eq_false, false_and, and_false, false_implies, true_implies, reduceIte, mmU_rd, implies_true, or_false, false_or, or_true, true_or]
      have hfr : FrL I (mmU (mmU (mmU (mmU I 11 0 52 (op + 1)) 1248 0 P.length 0) 11 0 50 (P.length + 1)) 11 0 55 1) := FrL_trans (FrL_trans (FrL_trans (FrL_U (by unfold LWt; omega)) (FrL_U (by unfold LWt; omega))) (FrL_U (by unfold LWt; omega))) (FrL_U (by unfold LWt; omega))
      refine mT_in (Or.inr ⟨_, _, _, _, _, _, hZ.symm, rfl, FrL_trans hfr (FrL_7 q3), q4, LM_7 hlm2 q3, fun q => by omega, fun _ => ⟨?_, ?_⟩, fun q => by omega⟩)
      · rw [q3 _ _ _ (by omega)]; exact h54
      · rw [q3 _ _ _ (by omega)]; exact mmU_same
    · rw [if_pos (by omega)] at hZ
      refine mT_use m_wrong (fun v I' q => ?_)
      obtain ⟨rfl, q⟩ := q
      simp only [mmK_cut cd_180, q_cons, q_G0, q_GS, q_I1, q_L1, q_A1, q_S0, q_S1, q_SS, q_T0, q_T1, q_TS, q_Kn, q_Ki, q_Kl, q_Kr, q_k0, q_kS, q_rc, q_ps, q_pn, q_aload0, q_bipush, q_invV, q_if_eq, q_getfieldI, q_icmp_ne, q_iconst, q_ireturn1, q_dupI, q_dupA, q_iadd, q_putfieldI, q_putfieldZ, q_getfieldZ, q_if_ne, q_istore1, q_iload1, q_if_ge, q_icmp_eq, q_sipush, q_icmp_le, q_if_lt, q_goto, mmKo_11, mmR32, mmR64, Option.some.injEq, Int.cast_ofNat_Int, and_true, true_and, if_true, if_false, List.length_cons, List.length_nil, Nat.le_refl, Nat.zero_le, Nat.sub_zero, forall_const, reduceCtorEq, Nat.reduceAdd, Nat.reduceSub, Nat.reduceLeDiff, Nat.reduceEqDiff, Int.reduceAdd, Int.reduceNeg, Int.reduceSub, Int.reduceLT, Int.reduceLE, Int.reduceMul, Int.reduceEq, List.drop_zero, List.drop_succ_cons, ne_eq, not_false_eq_true, not_true_eq_false, false_and, and_false, false_implies, true_implies, reduceIte, mmU_rd, implies_true, or_false, false_or, or_true, true_or]
      exact mT_in (Or.inl ⟨_, hZ.symm, rfl, MF_wrong h q⟩)
end S76
