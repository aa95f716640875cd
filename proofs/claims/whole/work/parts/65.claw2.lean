abbrev mLS : Type := mPR (Int × Int × List Int × Int × Int × mRu)
def sgF (T : Int → Int) (s sign st p : Int) (P : List Int) (op kn : Int) (r : mRu) : mLS := if 64 ≤ kn then .inl (2, skE T s p) else .inr (st, tkN T s p, sign :: P, op, kn + 1, r)
def nmO (T : Int → Int) (s p : Int) : Int := if tkS T s p = 1 then mmName (tkV T s p) else -1
def loF (T : Int → Int) (s : Int) (b : Int) (p : Int) (P : List Int) (op kn : Int) (r : mRu) : mLS :=
  if tkS T s p = 3 ∧ tkV T s p = 40 then (if 8 ≤ op then .inl (2, skE T s p) else .inr (0, tkN T s p, 0 :: P, op + 1, kn, r)) else
  if ¬ b = 0 ∧ tkS T s p = 1 ∧ tkV T s p = 486146048 then sgF T s (-11) 0 p P op kn r else
  if ¬ tkS T s p = 2 ∧ nmO T s p = -1 then .inl (1, skE T s p) else
  if 64 ≤ kn ∨ (nmO T s p = -1 ∧ 9999 < tkV T s p) then .inl (2, skE T s p) else
  .inr (2, tkN T s p, P, op, kn + 1, lad r (if nmO T s p = -1 then tkV T s p else -1 - nmO T s p))
def hdR (P : List Int) : Int := match P with
  | [] => 0
  | c :: _ => rkF c
def lbF (T : Int → Int) (s p : Int) (P : List Int) (op kn : Int) (r : mRu) : mLS :=
  if (tkS T s p = 3 ∧ tkV T s p = 41) ∧ 0 < op then .inr (2, tkN T s p, (stl 1 P r).1.tail, op - 1, kn, (stl 1 P r).2) else
  if (tkS T s p = 3 ∧ tkV T s p = 59) ∧ op = 0 then .inr (3, p, (stl 1 P r).1, op, kn, (stl 1 P r).2) else
  if sgO (tkS T s p) (tkV T s p) = -1 then .inl (1, skE T s p) else
  if ¬ rkF (sgO (tkS T s p) (tkV T s p)) = 4 then sgF T s (sgO (tkS T s p) (tkV T s p)) (if rkF (sgO (tkS T s p) (tkV T s p)) ≤ 2 then 0 else 1) p (stl (rkF (sgO (tkS T s p) (tkV T s p))) P r).1 op kn (stl (rkF (sgO (tkS T s p) (tkV T s p))) P r).2 else
  if hdR (stl 5 P r).1 = 4 then .inl (1, skE T s p) else sgF T s (sgO (tkS T s p) (tkV T s p)) 1 p (stl 5 P r).1 op kn (stl 5 P r).2
def LI (P : List Int) (op kn : Int) (r : mRu) : Prop := nO P = op ∧ op ≤ 8 ∧ 0 ≤ r 1 2 ∧ r 1 2 + nS P = kn ∧ kn ≤ 64
theorem rkF_0 {c : Int} (h : ¬ c = 0) : 1 ≤ rkF c ∧ rkF c ≤ 6 := by
  unfold rkF
  rw [if_neg h]
  split
  · omega
  split
  · omega
  split
  · omega
  split
  · omega
  split <;> omega
theorem stl_1 : ∀ (P : List Int) (r : mRu), (stl 1 P r).1 = [] ∨ ∃ P', (stl 1 P r).1 = 0 :: P'
  | [], _ => Or.inl rfl
  | c :: P, r => by
    rw [stl_c]
    split
    · exact stl_1 P _
    · rename_i h
      refine Or.inr ⟨P, ?_⟩
      have : c = 0 := Classical.byContradiction fun q => h (rkF_0 q).1
      rw [this]
theorem LI_len {P : List Int} {op kn : Int} {r : mRu} (h : LI P op kn r) : (P.length : Int) = op + nS P ∧ 0 ≤ op ∧ 0 ≤ nS P ∧ nS P ≤ 64 ∧ op ≤ 8 := by
  have := nO_nS P
  obtain ⟨h1, h2, h3, h4, h5⟩ := h
  omega
theorem LI_stl {P : List Int} {op kn rank : Int} {r : mRu} (hr : 1 ≤ rank) (h : LI P op kn r) : LI (stl rank P r).1 op kn (stl rank P r).2 := by
  obtain ⟨h1, h2, h3, h4, h5⟩ := h
  have := stl_in hr P r
  exact ⟨by omega, h2, by omega, by omega, h5⟩
def LSt (j : Nat) (I : mMm) (T : Int → Int) (s o : Int) (x : mLS) (v : Option mmV) (I' : mMm) : Prop := (∃ e, x = .inl e ∧ v = some (mv 4) ∧ FT j I e I') ∨ (∃ st' p' P' op' kn' r', x = .inr (st', p', P', op', kn', r') ∧ v = some (mv st') ∧ FrC j I I' ∧ CV I' T s p' r' o j ∧ LVc I' P' op' kn')
section S65
variable {d a j : Nat} {I I' : mMm} {br : Nat → Option mmO} {R : Nat → Nat → Int → Option mmO} {X : mmX} {T : Int → Int} {s p o op kn : Int} {P : List Int} {r : mRu} {Q : Option mmV → mmM → Prop}
theorem c_fail {x : Int} (h : CV I T s p r o j) : mmC (d + 2) 29 [mo 2 0, mo 8 0, mv x] (I, mmRf a br, X) (mT a br X fun v I' => v = some (mv 4) ∧ FT j I (x, skE T s p) I') := by
  refine mmC_in (by decide) (Nat.le_of_ble_eq_true rfl) (mmC_step ?_)
  simp only [show mmMl 29 = 3 from rfl, mmLs, List.replicate, cd_29, sg_29_0, mmK_cut cd_29, q_cons, q_G0, q_GS, q_I1, q_L1, q_A1, q_S0, q_S1, q_SS, q_T0, q_T1, q_TS, q_Kn, q_Ki, q_Kl, q_Kr, q_k0, q_kS, q_rc, q_ps, q_pn, q_aload1, q_iload2, q_invV, q_popI, q_popA, q_iconst, q_ireturn0, mmKo_8, mmR32, mmR64, Option.some.injEq, Int.cast_ofNat_Int, and_true, true_and, if_true, if_false, List.length_cons, List.length_nil, Nat.le_refl, Nat.zero_le, Nat.sub_zero, forall_const, reduceCtorEq, Nat.reduceAdd, Nat.reduceSub, Nat.reduceLeDiff, Nat.reduceEqDiff, Int.reduceAdd, Int.reduceNeg, Int.reduceSub, Int.reduceLT, Int.reduceLE, Int.reduceMul, Int.reduceEq, List.drop_zero, List.drop_succ_cons, ne_eq, not_false_eq_true, not_true_eq_false, false_and, and_false, false_implies, true_implies, reduceIte, mmU_rd, implies_true, or_false, false_or, or_true, true_or]
  refine mT_use (c_refuse h) (fun v I' q => ?_)
  obtain ⟨rfl, q1⟩ := q
  simp only [mmK_cut cd_29, q_cons, q_G0, q_GS, q_I1, q_L1, q_A1, q_S0, q_S1, q_SS, q_T0, q_T1, q_TS, q_Kn, q_Ki, q_Kl, q_Kr, q_k0, q_kS, q_rc, q_ps, q_pn, q_aload1, q_iload2, q_invV, q_popI, q_popA, q_iconst, q_ireturn0, mmKo_8, mmR32, mmR64, Option.some.injEq, Int.cast_ofNat_Int, and_true, true_and, if_true, if_false, List.length_cons, List.length_nil, Nat.le_refl, Nat.zero_le, Nat.sub_zero, forall_const, reduceCtorEq, Nat.reduceAdd, Nat.reduceSub, Nat.reduceLeDiff, Nat.reduceEqDiff, Int.reduceAdd, Int.reduceNeg, Int.reduceSub, Int.reduceLT, Int.reduceLE, Int.reduceMul, Int.reduceEq, List.drop_zero, List.drop_succ_cons, ne_eq, not_false_eq_true, not_true_eq_false, false_and, and_false, false_implies, true_implies, reduceIte, mmU_rd, implies_true, or_false, false_or, or_true, true_or]
  exact mT_in ⟨rfl, q1⟩
theorem c_sign {sign st : Int} (h : CV I T s p r o j) (hl : LVc I P op kn) (hi : LI P op kn r) : mmC (d + 3) 28 [mo 2 0, mo 8 0, mv sign, mv st] (I, mmRf a br, X) (mT a br X (LSt j I T s o (sgF T s sign st p P op kn r))) := by
  obtain ⟨g1, g2, g3, g4⟩ := id hl
  obtain ⟨i1, i2, i3, i4, i5⟩ := id hi
  have hL := LI_len hi
  refine mmC_in (by decide) (Nat.le_of_ble_eq_true rfl) (mmC_step ?_)
  simp only [show mmMl 28 = 4 from rfl, mmLs, List.replicate, cd_28, sg_28_0, sg_28_9, mmK_cut cd_28, q_cons, q_G0, q_GS, q_I1, q_L1, q_A1, q_S0, q_S1, q_SS, q_T0, q_T1, q_TS, q_Kn, q_Ki, q_Kl, q_Kr, q_k0, q_kS, q_rc, q_ps, q_pn, q_aload0, q_getfieldI, q_bipush, q_icmp_lt, q_aload1, q_iconst, q_invV, q_ireturn0, q_dupI, q_dupA, q_iadd, q_putfieldI, q_iload2, q_iload3, mmKo_2, mmKo_8, mmR32, mmR64, Option.some.injEq, Int.cast_ofNat_Int, and_true, true_and, if_true, if_false, List.length_cons, List.length_nil, Nat.le_refl, Nat.zero_le, Nat.sub_zero, forall_const, reduceCtorEq, Nat.reduceAdd, Nat.reduceSub, Nat.reduceLeDiff, Nat.reduceEqDiff, Int.reduceAdd, Int.reduceNeg, Int.reduceSub, Int.reduceLT, Int.reduceLE, Int.reduceMul, Int.reduceEq, List.drop_zero, List.drop_succ_cons, ne_eq, not_false_eq_true, not_true_eq_false, false_and, and_false, false_implies, true_implies, reduceIte, mmU_rd, implies_true, or_false, false_or, or_true, true_or]
  rw [g3]
  refine ⟨fun c => ?_, fun c => ?_⟩
  · refine mmC_step ?_
    simp only [cd_28, sg_28_0, sg_28_9, mmK_cut cd_28, q_cons, q_G0, q_GS, q_I1, q_L1, q_A1, q_S0, q_S1, q_SS, q_T0, q_T1, q_TS, q_Kn, q_Ki, q_Kl, q_Kr, q_k0, q_kS, q_rc, q_ps, q_pn, q_aload0, q_getfieldI, q_bipush, q_icmp_lt, q_aload1, q_iconst, q_invV, q_ireturn0, q_dupI, q_dupA, q_iadd, q_putfieldI, q_iload2, q_iload3, mmKo_2, mmKo_8, mmR32, mmR64, Option.some.injEq, Int.cast_ofNat_Int, and_true, true_and, if_true, if_false, List.length_cons, List.length_nil, Nat.le_refl, Nat.zero_le, Nat.sub_zero, forall_const, reduceCtorEq, Nat.reduceAdd, Nat.reduceSub, Nat.reduceLeDiff, Nat.reduceEqDiff, Int.reduceAdd, Int.reduceNeg, Int.reduceSub, Int.reduceLT, Int.reduceLE, Int.reduceMul, Int.reduceEq, List.drop_zero, List.drop_succ_cons, ne_eq, not_false_eq_true, not_true_eq_false, false_and, and_false, false_implies, true_implies, reduceIte, mmU_rd, implies_true, or_false, false_or, or_true, true_or]
    rw [g3]
    refine ⟨by omega, ?_⟩
    refine mT_use (c_push (P := P) (op := op) (kn := kn + 1) (CV_x (by omega) h) ⟨g1, g2, rfl, g4⟩ (by omega)) (fun v I1 q => ?_)
    obtain ⟨rfl, fr1, h1, l1⟩ := q
    simp only [mmK_cut cd_28, q_cons, q_G0, q_GS, q_I1, q_L1, q_A1, q_S0, q_S1, q_SS, q_T0, q_T1, q_TS, q_Kn, q_Ki, q_Kl, q_Kr, q_k0, q_kS, q_rc, q_ps, q_pn, q_aload0, q_getfieldI, q_bipush, q_icmp_lt, q_aload1, q_iconst, q_invV, q_ireturn0, q_dupI, q_dupA, q_iadd, q_putfieldI, q_iload2, q_iload3, mmKo_2, mmKo_8, mmR32, mmR64, Option.some.injEq, Int.cast_ofNat_Int, and_true, true_and, if_true, if_false, List.length_cons, List.length_nil, Nat.le_refl, Nat.zero_le, Nat.sub_zero, forall_const, reduceCtorEq, Nat.reduceAdd, Nat.reduceSub, Nat.reduceLeDiff, Nat.reduceEqDiff, Int.reduceAdd, Int.reduceNeg, Int.reduceSub, Int.reduceLT, Int.reduceLE, Int.reduceMul, Int.reduceEq, List.drop_zero, List.drop_succ_cons, ne_eq, not_false_eq_true, not_true_eq_false, false_and, and_false, false_implies, true_implies, reduceIte, mmU_rd, implies_true, or_false, false_or, or_true, true_or]
    refine mT_use (c_adv8 h1) (fun v I2 q => ?_)
    obtain ⟨rfl, fr2, h2, f8⟩ := q
    simp only [mmK_cut cd_28, q_cons, q_G0, q_GS, q_I1, q_L1, q_A1, q_S0, q_S1, q_SS, q_T0, q_T1, q_TS, q_Kn, q_Ki, q_Kl, q_Kr, q_k0, q_kS, q_rc, q_ps, q_pn, q_aload0, q_getfieldI, q_bipush, q_icmp_lt, q_aload1, q_iconst, q_invV, q_ireturn0, q_dupI, q_dupA, q_iadd, q_putfieldI, q_iload2, q_iload3, mmKo_2, mmKo_8, mmR32, mmR64, Option.some.injEq, Int.cast_ofNat_Int, and_true, true_and, if_true, if_false, List.length_cons, List.length_nil, Nat.le_refl, Nat.zero_le, Nat.sub_zero, forall_const, reduceCtorEq, Nat.reduceAdd, Nat.reduceSub, Nat.reduceLeDiff, Nat.reduceEqDiff, Int.reduceAdd, Int.reduceNeg, Int.reduceSub, Int.reduceLT, Int.reduceLE, Int.reduceMul, Int.reduceEq, List.drop_zero, List.drop_succ_cons, ne_eq, not_false_eq_true, not_true_eq_false, false_and, and_false, false_implies, true_implies, reduceIte, mmU_rd, implies_true, or_false, false_or, or_true, true_or]
    refine mT_in (Or.inr ⟨_, _, _, _, _, _, ?_, rfl, FrC_trans (FrC_trans (FrC_x (by omega)) fr1) fr2, h2, LVc_ext l1 (fun k => f8 _ _ _ (by omega)) (fun k => f8 _ _ _ (by omega))⟩)
    unfold sgF; rw [if_neg (by omega)]
  · refine mT_use (c_fail h) (fun v I' q => ?_)
    obtain ⟨rfl, q1⟩ := q
    simp only [mmK_cut cd_28, q_cons, q_G0, q_GS, q_I1, q_L1, q_A1, q_S0, q_S1, q_SS, q_T0, q_T1, q_TS, q_Kn, q_Ki, q_Kl, q_Kr, q_k0, q_kS, q_rc, q_ps, q_pn, q_aload0, q_getfieldI, q_bipush, q_icmp_lt, q_aload1, q_iconst, q_invV, q_ireturn0, q_dupI, q_dupA, q_iadd, q_putfieldI, q_iload2, q_iload3, mmKo_2, mmKo_8, mmR32, mmR64, Option.some.injEq, Int.cast_ofNat_Int, and_true, true_and, if_true, if_false, List.length_cons, List.length_nil, Nat.le_refl, Nat.zero_le, Nat.sub_zero, forall_const, reduceCtorEq, Nat.reduceAdd, Nat.reduceSub, Nat.reduceLeDiff, Nat.reduceEqDiff, Int.reduceAdd, Int.reduceNeg, Int.reduceSub, Int.reduceLT, Int.reduceLE, Int.reduceMul, Int.reduceEq, List.drop_zero, List.drop_succ_cons, ne_eq, not_false_eq_true, not_true_eq_false, false_and, and_false, false_implies, true_implies, reduceIte, mmU_rd, implies_true, or_false, false_or, or_true, true_or]
    refine mT_in (Or.inl ⟨_, ?_, rfl, q1⟩)
    unfold sgF; rw [if_pos (by omega)]
theorem c_open (h : CV I T s p r o j) (hl : LVc I P op kn) (hi : LI P op kn r) : mmC (d + 3) 26 [mo 2 0, mo 8 0] (I, mmRf a br, X) (mT a br X (LSt j I T s o (if 8 ≤ op then .inl (2, skE T s p) else .inr (0, tkN T s p, 0 :: P, op + 1, kn, r)))) := by
  obtain ⟨g1, g2, g3, g4⟩ := id hl
  obtain ⟨i1, i2, i3, i4, i5⟩ := id hi
  have hL := LI_len hi
  refine mmC_in (by decide) (Nat.le_of_ble_eq_true rfl) (mmC_step ?_)
  simp only [show mmMl 26 = 2 from rfl, mmLs, List.replicate, cd_26, sg_26_0, sg_26_9, mmK_cut cd_26, q_cons, q_G0, q_GS, q_I1, q_L1, q_A1, q_S0, q_S1, q_SS, q_T0, q_T1, q_TS, q_Kn, q_Ki, q_Kl, q_Kr, q_k0, q_kS, q_rc, q_ps, q_pn, q_aload0, q_getfieldI, q_bipush, q_icmp_lt, q_aload1, q_iconst, q_invV, q_ireturn0, q_dupI, q_dupA, q_iadd, q_putfieldI, mmKo_2, mmKo_8, mmR32, mmR64, Option.some.injEq, Int.cast_ofNat_Int, and_true, true_and, if_true, if_false, List.length_cons, List.length_nil, Nat.le_refl, Nat.zero_le, Nat.sub_zero, forall_const, reduceCtorEq, Nat.reduceAdd, Nat.reduceSub, Nat.reduceLeDiff, Nat.reduceEqDiff, Int.reduceAdd, Int.reduceNeg, Int.reduceSub, Int.reduceLT, Int.reduceLE, Int.reduceMul, Int.reduceEq, List.drop_zero, List.drop_succ_cons, ne_eq, not_false_eq_true, not_true_eq_false, false_and, and_false, false_implies, true_implies, reduceIte, mmU_rd, implies_true, or_false, false_or, or_true, true_or]
  rw [g2]
  refine ⟨fun c => ?_, fun c => ?_⟩
  · refine mmC_step ?_
    simp only [cd_26, sg_26_0, sg_26_9, mmK_cut cd_26, q_cons, q_G0, q_GS, q_I1, q_L1, q_A1, q_S0, q_S1, q_SS, q_T0, q_T1, q_TS, q_Kn, q_Ki, q_Kl, q_Kr, q_k0, q_kS, q_rc, q_ps, q_pn, q_aload0, q_getfieldI, q_bipush, q_icmp_lt, q_aload1, q_iconst, q_invV, q_ireturn0, q_dupI, q_dupA, q_iadd, q_putfieldI, mmKo_2, mmKo_8, mmR32, mmR64, Option.some.injEq, Int.cast_ofNat_Int, and_true, true_and, if_true, if_false, List.length_cons, List.length_nil, Nat.le_refl, Nat.zero_le, Nat.sub_zero, forall_const, reduceCtorEq, Nat.reduceAdd, Nat.reduceSub, Nat.reduceLeDiff, Nat.reduceEqDiff, Int.reduceAdd, Int.reduceNeg, Int.reduceSub, Int.reduceLT, Int.reduceLE, Int.reduceMul, Int.reduceEq, List.drop_zero, List.drop_succ_cons, ne_eq, not_false_eq_true, not_true_eq_false, false_and, and_false, false_implies, true_implies, reduceIte, mmU_rd, implies_true, or_false, false_or, or_true, true_or]
    rw [g2]
    refine ⟨by omega, ?_⟩
    refine mT_use (c_push (P := P) (op := op + 1) (kn := kn) (CV_x (by omega) h) ⟨g1, rfl, g3, g4⟩ (by omega)) (fun v I1 q => ?_)
    obtain ⟨rfl, fr1, h1, l1⟩ := q
    simp only [mmK_cut cd_26, q_cons, q_G0, q_GS, q_I1, q_L1, q_A1, q_S0, q_S1, q_SS, q_T0, q_T1, q_TS, q_Kn, q_Ki, q_Kl, q_Kr, q_k0, q_kS, q_rc, q_ps, q_pn, q_aload0, q_getfieldI, q_bipush, q_icmp_lt, q_aload1, q_iconst, q_invV, q_ireturn0, q_dupI, q_dupA, q_iadd, q_putfieldI, mmKo_2, mmKo_8, mmR32, mmR64, Option.some.injEq, Int.cast_ofNat_Int, and_true, true_and, if_true, if_false, List.length_cons, List.length_nil, Nat.le_refl, Nat.zero_le, Nat.sub_zero, forall_const, reduceCtorEq, Nat.reduceAdd, Nat.reduceSub, Nat.reduceLeDiff, Nat.reduceEqDiff, Int.reduceAdd, Int.reduceNeg, Int.reduceSub, Int.reduceLT, Int.reduceLE, Int.reduceMul, Int.reduceEq, List.drop_zero, List.drop_succ_cons, ne_eq, not_false_eq_true, not_true_eq_false, false_and, and_false, false_implies, true_implies, reduceIte, mmU_rd, implies_true, or_false, false_or, or_true, true_or]
    refine mT_use (c_adv8 h1) (fun v I2 q => ?_)
    obtain ⟨rfl, fr2, h2, f8⟩ := q
    simp only [mmK_cut cd_26, q_cons, q_G0, q_GS, q_I1, q_L1, q_A1, q_S0, q_S1, q_SS, q_T0, q_T1, q_TS, q_Kn, q_Ki, q_Kl, q_Kr, q_k0, q_kS, q_rc, q_ps, q_pn, q_aload0, q_getfieldI, q_bipush, q_icmp_lt, q_aload1, q_iconst, q_invV, q_ireturn0, q_dupI, q_dupA, q_iadd, q_putfieldI, mmKo_2, mmKo_8, mmR32, mmR64, Option.some.injEq, Int.cast_ofNat_Int, and_true, true_and, if_true, if_false, List.length_cons, List.length_nil, Nat.le_refl, Nat.zero_le, Nat.sub_zero, forall_const, reduceCtorEq, Nat.reduceAdd, Nat.reduceSub, Nat.reduceLeDiff, Nat.reduceEqDiff, Int.reduceAdd, Int.reduceNeg, Int.reduceSub, Int.reduceLT, Int.reduceLE, Int.reduceMul, Int.reduceEq, List.drop_zero, List.drop_succ_cons, ne_eq, not_false_eq_true, not_true_eq_false, false_and, and_false, false_implies, true_implies, reduceIte, mmU_rd, implies_true, or_false, false_or, or_true, true_or]
    refine mT_in (Or.inr ⟨_, _, _, _, _, _, ?_, rfl, FrC_trans (FrC_trans (FrC_x (by omega)) fr1) fr2, h2, LVc_ext l1 (fun k => f8 _ _ _ (by omega)) (fun k => f8 _ _ _ (by omega))⟩)
    rw [if_neg (by omega)]
  · refine mT_use (c_fail h) (fun v I' q => ?_)
    obtain ⟨rfl, q1⟩ := q
    simp only [mmK_cut cd_26, q_cons, q_G0, q_GS, q_I1, q_L1, q_A1, q_S0, q_S1, q_SS, q_T0, q_T1, q_TS, q_Kn, q_Ki, q_Kl, q_Kr, q_k0, q_kS, q_rc, q_ps, q_pn, q_aload0, q_getfieldI, q_bipush, q_icmp_lt, q_aload1, q_iconst, q_invV, q_ireturn0, q_dupI, q_dupA, q_iadd, q_putfieldI, mmKo_2, mmKo_8, mmR32, mmR64, Option.some.injEq, Int.cast_ofNat_Int, and_true, true_and, if_true, if_false, List.length_cons, List.length_nil, Nat.le_refl, Nat.zero_le, Nat.sub_zero, forall_const, reduceCtorEq, Nat.reduceAdd, Nat.reduceSub, Nat.reduceLeDiff, Nat.reduceEqDiff, Int.reduceAdd, Int.reduceNeg, Int.reduceSub, Int.reduceLT, Int.reduceLE, Int.reduceMul, Int.reduceEq, List.drop_zero, List.drop_succ_cons, ne_eq, not_false_eq_true, not_true_eq_false, false_and, and_false, false_implies, true_implies, reduceIte, mmU_rd, implies_true, or_false, false_or, or_true, true_or]
    refine mT_in (Or.inl ⟨_, ?_, rfl, q1⟩)
    rw [if_pos (by omega)]
theorem mmName_in {w : Int} : -1 ≤ mmName w ∧ mmName w ≤ 7 := by
  unfold mmName
  split
  · omega
  split
  · omega
  split
  · omega
  split
  · omega
  split
  · omega
  split
  · omega
  split
  · omega
  split <;> omega
set_option maxHeartbeats 1000000 in
theorem c_operand {b : Int} (h : CV I T s p r o j) (hl : LVc I P op kn) (hi : LI P op kn r) : mmC (d + 4) 25 [mo 2 0, mo 8 0, mo 1 j, mv b] (I, mmRf a br, X) (mT a br X (LSt j I T s o (loF T s b p P op kn r))) := by
  obtain ⟨g1, g2, g3, g4⟩ := id hl
  obtain ⟨i1, i2, i3, i4, i5⟩ := id hi
  have hL := LI_len hi
  generalize hZ : loF T s b p P op kn r = Z
  unfold loF at hZ
  refine mmC_in (by decide) (Nat.le_of_ble_eq_true rfl) (mmC_step ?_)
  simp only [show mmMl 25 = 5 from rfl, mmLs, List.replicate, cd_25, sg_25_0, sg_25_8, sg_25_20, sg_25_28, sg_25_29, sg_25_42, sg_25_53, sg_25_58, sg_25_65, sg_25_68, mmK_cut cd_25, q_cons, q_G0, q_GS, q_I1, q_L1, q_A1, q_S0, q_S1, q_SS, q_T0, q_T1, q_TS, q_Kn, q_Ki, q_Kl, q_Kr, q_k0, q_kS, q_rc, q_ps, q_pn, q_aload1, q_bipush, q_invV, q_if_eq, q_aload0, q_ireturn0, q_iload3, q_ldc, q_iconst, q_getfieldI, q_icmp_ne, q_invS, q_goto, q_istore, q_icmp_eq, q_iload, q_icmp_ge, q_sipush, q_icmp_le, q_aload2, q_isub, q_dupI, q_dupA, q_iadd, q_putfieldI, mmKo_1, mmKo_2, mmKo_8, mmR32, mmR64, Option.some.injEq, Int.cast_ofNat_Int, and_true, true_and, if_true, if_false, List.length_cons, List.length_nil, Nat.le_refl, Nat.zero_le, Nat.sub_zero, forall_const, reduceCtorEq, Nat.reduceAdd, Nat.reduceSub, Nat.reduceLeDiff, Nat.reduceEqDiff, Int.reduceAdd, Int.reduceNeg, Int.reduceSub, Int.reduceLT, Int.reduceLE, Int.reduceMul, Int.reduceEq, List.drop_zero, List.drop_succ_cons, ne_eq, not_false_eq_true, not_true_eq_false, false_and, and_false, false_implies, true_implies, reduceIte, mmU_rd, implies_true, or_false, false_or, or_true, true_or]
  refine sp_isSign ?_
  rw [CV_so h, CV_va h]
  simp only [mmK_cut cd_25, q_cons, q_G0, q_GS, q_I1, q_L1, q_A1, q_S0, q_S1, q_SS, q_T0, q_T1, q_TS, q_Kn, q_Ki, q_Kl, q_Kr, q_k0, q_kS, q_rc, q_ps, q_pn, q_aload1, q_bipush, q_invV, q_if_eq, q_aload0, q_ireturn0, q_iload3, q_ldc, q_iconst, q_getfieldI, q_icmp_ne, q_invS, q_goto, q_istore, q_icmp_eq, q_iload, q_icmp_ge, q_sipush, q_icmp_le, q_aload2, q_isub, q_dupI, q_dupA, q_iadd, q_putfieldI, mmKo_1, mmKo_2, mmKo_8, mmR32, mmR64, Option.some.injEq, Int.cast_ofNat_Int, and_true, true_and, if_true, if_false, List.length_cons, List.length_nil, Nat.le_refl, Nat.zero_le, Nat.sub_zero, forall_const, reduceCtorEq, Nat.reduceAdd, Nat.reduceSub, Nat.reduceLeDiff, Nat.reduceEqDiff, Int.reduceAdd, Int.reduceNeg, Int.reduceSub, Int.reduceLT, Int.reduceLE, Int.reduceMul, Int.reduceEq, List.drop_zero, List.drop_succ_cons, ne_eq, not_false_eq_true, not_true_eq_false, false_and, and_false, false_implies, true_implies, reduceIte, mmU_rd, implies_true, or_false, false_or, or_true, true_or, bI_eq0]
  refine ⟨fun c => ?_, fun c => ?_⟩
  · rw [if_neg c] at hZ
    have w20 : ¬ (¬ b = 0 ∧ tkS T s p = 1 ∧ tkV T s p = 486146048) → mmK (d + 3) 25 (mT a br X (LSt j I T s o Z)) 20 [some (mo 2 0), some (mo 8 0), some (mo 1 j), some (mv b), none] [] (I, mmRf a br, X) := by
      intro c2
      rw [if_neg c2] at hZ
      have w29 : ∀ nm, nm = nmO T s p → mmK (d + 3) 25 (mT a br X (LSt j I T s o Z)) 29 [some (mo 2 0), some (mo 8 0), some (mo 1 j), some (mv b), none] [mv nm] (I, mmRf a br, X) := by
        intro nm hnm
        rw [← hnm] at hZ
        have hin : -1 ≤ nm ∧ nm ≤ 7 := by
          rw [hnm]; unfold nmO; split
          · exact mmName_in
          · omega
        refine mmC_step ?_
        simp only [cd_25, sg_25_0, sg_25_8, sg_25_20, sg_25_28, sg_25_29, sg_25_42, sg_25_53, sg_25_58, sg_25_65, sg_25_68, mmK_cut cd_25, q_cons, q_G0, q_GS, q_I1, q_L1, q_A1, q_S0, q_S1, q_SS, q_T0, q_T1, q_TS, q_Kn, q_Ki, q_Kl, q_Kr, q_k0, q_kS, q_rc, q_ps, q_pn, q_aload1, q_bipush, q_invV, q_if_eq, q_aload0, q_ireturn0, q_iload3, q_ldc, q_iconst, q_getfieldI, q_icmp_ne, q_invS, q_goto, q_istore, q_icmp_eq, q_iload, q_icmp_ge, q_sipush, q_icmp_le, q_aload2, q_isub, q_dupI, q_dupA, q_iadd, q_putfieldI, mmKo_1, mmKo_2, mmKo_8, mmR32, mmR64, Option.some.injEq, Int.cast_ofNat_Int, and_true, true_and, if_true, if_false, List.length_cons, List.length_nil, Nat.le_refl, Nat.zero_le, Nat.sub_zero, forall_const, reduceCtorEq, Nat.reduceAdd, Nat.reduceSub, Nat.reduceLeDiff, Nat.reduceEqDiff, Int.reduceAdd, Int.reduceNeg, Int.reduceSub, Int.reduceLT, Int.reduceLE, Int.reduceMul, Int.reduceEq, List.drop_zero, List.drop_succ_cons, ne_eq, not_false_eq_true, not_true_eq_false, false_and, and_false, false_implies, true_implies, reduceIte, mmU_rd, implies_true, or_false, false_or, or_true, true_or]
        rw [CV_so h]
        have w42 : ¬ (¬ tkS T s p = 2 ∧ nm = -1) → mmK (d + 3) 25 (mT a br X (LSt j I T s o Z)) 42 [some (mo 2 0), some (mo 8 0), some (mo 1 j), some (mv b), some (mv nm)] [] (I, mmRf a br, X) := by
          intro c3
          rw [if_neg c3] at hZ
          have w53 : (64 ≤ kn ∨ (nm = -1 ∧ 9999 < tkV T s p)) → mmK (d + 3) 25 (mT a br X (LSt j I T s o Z)) 53 [some (mo 2 0), some (mo 8 0), some (mo 1 j), some (mv b), some (mv nm)] [] (I, mmRf a br, X) := by
            intro c4
            rw [if_pos c4] at hZ
            refine mmC_step ?_
            simp only [cd_25, sg_25_0, sg_25_8, sg_25_20, sg_25_28, sg_25_29, sg_25_42, sg_25_53, sg_25_58, sg_25_65, sg_25_68, mmK_cut cd_25, q_cons, q_G0, q_GS, q_I1, q_L1, q_A1, q_S0, q_S1, q_SS, q_T0, q_T1, q_TS, q_Kn, q_Ki, q_Kl, q_Kr, q_k0, q_kS, q_rc, q_ps, q_pn, q_aload1, q_bipush, q_invV, q_if_eq, q_aload0, q_ireturn0, q_iload3, q_ldc, q_iconst, q_getfieldI, q_icmp_ne, q_invS, q_goto, q_istore, q_icmp_eq, q_iload, q_icmp_ge, q_sipush, q_icmp_le, q_aload2, q_isub, q_dupI, q_dupA, q_iadd, q_putfieldI, mmKo_1, mmKo_2, mmKo_8, mmR32, mmR64, Option.some.injEq, Int.cast_ofNat_Int, and_true, true_and, if_true, if_false, List.length_cons, List.length_nil, Nat.le_refl, Nat.zero_le, Nat.sub_zero, forall_const, reduceCtorEq, Nat.reduceAdd, Nat.reduceSub, Nat.reduceLeDiff, Nat.reduceEqDiff, Int.reduceAdd, Int.reduceNeg, Int.reduceSub, Int.reduceLT, Int.reduceLE, Int.reduceMul, Int.reduceEq, List.drop_zero, List.drop_succ_cons, ne_eq, not_false_eq_true, not_true_eq_false, false_and, and_false, false_implies, true_implies, reduceIte, mmU_rd, implies_true, or_false, false_or, or_true, true_or]
            refine mT_use (c_fail h) (fun v I' q => ?_)
            obtain ⟨rfl, q1⟩ := q
            simp only [mmK_cut cd_25, q_cons, q_G0, q_GS, q_I1, q_L1, q_A1, q_S0, q_S1, q_SS, q_T0, q_T1, q_TS, q_Kn, q_Ki, q_Kl, q_Kr, q_k0, q_kS, q_rc, q_ps, q_pn, q_aload1, q_bipush, q_invV, q_if_eq, q_aload0, q_ireturn0, q_iload3, q_ldc, q_iconst, q_getfieldI, q_icmp_ne, q_invS, q_goto, q_istore, q_icmp_eq, q_iload, q_icmp_ge, q_sipush, q_icmp_le, q_aload2, q_isub, q_dupI, q_dupA, q_iadd, q_putfieldI, mmKo_1, mmKo_2, mmKo_8, mmR32, mmR64, Option.some.injEq, Int.cast_ofNat_Int, and_true, true_and, if_true, if_false, List.length_cons, List.length_nil, Nat.le_refl, Nat.zero_le, Nat.sub_zero, forall_const, reduceCtorEq, Nat.reduceAdd, Nat.reduceSub, Nat.reduceLeDiff, Nat.reduceEqDiff, Int.reduceAdd, Int.reduceNeg, Int.reduceSub, Int.reduceLT, Int.reduceLE, Int.reduceMul, Int.reduceEq, List.drop_zero, List.drop_succ_cons, ne_eq, not_false_eq_true, not_true_eq_false, false_and, and_false, false_implies, true_implies, reduceIte, mmU_rd, implies_true, or_false, false_or, or_true, true_or]
            exact mT_in (Or.inl ⟨_, hZ.symm, rfl, q1⟩)
          have w58 : ¬ (64 ≤ kn ∨ (nm = -1 ∧ 9999 < tkV T s p)) → mmK (d + 3) 25 (mT a br X (LSt j I T s o Z)) 58 [some (mo 2 0), some (mo 8 0), some (mo 1 j), some (mv b), some (mv nm)] [] (I, mmRf a br, X) := by
            intro c4
            rw [if_neg c4] at hZ
            have w68 : ∀ x, x = (if nm = -1 then tkV T s p else -1 - nm) → mmK (d + 3) 25 (mT a br X (LSt j I T s o Z)) 68 [some (mo 2 0), some (mo 8 0), some (mo 1 j), some (mv b), some (mv nm)] [mv x, mo 1 j] (I, mmRf a br, X) := by
              intro x hx
              rw [← hx] at hZ
              refine mmC_step ?_
              simp only [cd_25, sg_25_0, sg_25_8, sg_25_20, sg_25_28, sg_25_29, sg_25_42, sg_25_53, sg_25_58, sg_25_65, sg_25_68, mmK_cut cd_25, q_cons, q_G0, q_GS, q_I1, q_L1, q_A1, q_S0, q_S1, q_SS, q_T0, q_T1, q_TS, q_Kn, q_Ki, q_Kl, q_Kr, q_k0, q_kS, q_rc, q_ps, q_pn, q_aload1, q_bipush, q_invV, q_if_eq, q_aload0, q_ireturn0, q_iload3, q_ldc, q_iconst, q_getfieldI, q_icmp_ne, q_invS, q_goto, q_istore, q_icmp_eq, q_iload, q_icmp_ge, q_sipush, q_icmp_le, q_aload2, q_isub, q_dupI, q_dupA, q_iadd, q_putfieldI, mmKo_1, mmKo_2, mmKo_8, mmR32, mmR64, Option.some.injEq, Int.cast_ofNat_Int, and_true, true_and, if_true, if_false, List.length_cons, List.length_nil, Nat.le_refl, Nat.zero_le, Nat.sub_zero, forall_const, reduceCtorEq, Nat.reduceAdd, Nat.reduceSub, Nat.reduceLeDiff, Nat.reduceEqDiff, Int.reduceAdd, Int.reduceNeg, Int.reduceSub, Int.reduceLT, Int.reduceLE, Int.reduceMul, Int.reduceEq, List.drop_zero, List.drop_succ_cons, ne_eq, not_false_eq_true, not_true_eq_false, false_and, and_false, false_implies, true_implies, reduceIte, mmU_rd, implies_true, or_false, false_or, or_true, true_or]
              have en : I 1 j 2 = r 1 2 := CV_r h (Or.inr (Or.inl rfl))
              refine sp_lawAdd (by rw [en]; omega) ?_
              rw [en]
              simp only [mmK_cut cd_25, q_cons, q_G0, q_GS, q_I1, q_L1, q_A1, q_S0, q_S1, q_SS, q_T0, q_T1, q_TS, q_Kn, q_Ki, q_Kl, q_Kr, q_k0, q_kS, q_rc, q_ps, q_pn, q_aload1, q_bipush, q_invV, q_if_eq, q_aload0, q_ireturn0, q_iload3, q_ldc, q_iconst, q_getfieldI, q_icmp_ne, q_invS, q_goto, q_istore, q_icmp_eq, q_iload, q_icmp_ge, q_sipush, q_icmp_le, q_aload2, q_isub, q_dupI, q_dupA, q_iadd, q_putfieldI, mmKo_1, mmKo_2, mmKo_8, mmR32, mmR64, Option.some.injEq, Int.cast_ofNat_Int, and_true, true_and, if_true, if_false, List.length_cons, List.length_nil, Nat.le_refl, Nat.zero_le, Nat.sub_zero, forall_const, reduceCtorEq, Nat.reduceAdd, Nat.reduceSub, Nat.reduceLeDiff, Nat.reduceEqDiff, Int.reduceAdd, Int.reduceNeg, Int.reduceSub, Int.reduceLT, Int.reduceLE, Int.reduceMul, Int.reduceEq, List.drop_zero, List.drop_succ_cons, ne_eq, not_false_eq_true, not_true_eq_false, false_and, and_false, false_implies, true_implies, reduceIte, mmU_rd, implies_true, or_false, false_or, or_true, true_or]
              rw [g3]
              refine ⟨by omega, ?_⟩
              have h1 : CV (mmU (mmU I 200 j (r 1 2) x) 1 j 2 (r 1 2 + 1)) T s p (lad r x) o j := CV_U (Or.inr (Or.inl rfl)) (CV_U (Or.inr (Or.inr (Or.inl rfl))) h)
              refine mT_use (c_adv8 (CV_x (t := 2) (by omega) h1)) (fun v I2 q => ?_)
              obtain ⟨rfl, fr2, h2, f8⟩ := q
              simp only [mmK_cut cd_25, q_cons, q_G0, q_GS, q_I1, q_L1, q_A1, q_S0, q_S1, q_SS, q_T0, q_T1, q_TS, q_Kn, q_Ki, q_Kl, q_Kr, q_k0, q_kS, q_rc, q_ps, q_pn, q_aload1, q_bipush, q_invV, q_if_eq, q_aload0, q_ireturn0, q_iload3, q_ldc, q_iconst, q_getfieldI, q_icmp_ne, q_invS, q_goto, q_istore, q_icmp_eq, q_iload, q_icmp_ge, q_sipush, q_icmp_le, q_aload2, q_isub, q_dupI, q_dupA, q_iadd, q_putfieldI, mmKo_1, mmKo_2, mmKo_8, mmR32, mmR64, Option.some.injEq, Int.cast_ofNat_Int, and_true, true_and, if_true, if_false, List.length_cons, List.length_nil, Nat.le_refl, Nat.zero_le, Nat.sub_zero, forall_const, reduceCtorEq, Nat.reduceAdd, Nat.reduceSub, Nat.reduceLeDiff, Nat.reduceEqDiff, Int.reduceAdd, Int.reduceNeg, Int.reduceSub, Int.reduceLT, Int.reduceLE, Int.reduceMul, Int.reduceEq, List.drop_zero, List.drop_succ_cons, ne_eq, not_false_eq_true, not_true_eq_false, false_and, and_false, false_implies, true_implies, reduceIte, mmU_rd, implies_true, or_false, false_or, or_true, true_or]
              refine mT_in (Or.inr ⟨_, _, _, _, _, _, hZ.symm, rfl, FrC_trans (FrC_trans (FrC_trans (FrC_U (Or.inr (Or.inr (Or.inl rfl)))) (FrC_U (Or.inr (Or.inl rfl)))) (FrC_x (by omega))) fr2, h2, ?_⟩)
              refine ⟨?_, ?_, ?_, ?_⟩
              · rw [f8 _ _ _ (by omega)]; exact g1
              · rw [f8 _ _ _ (by omega)]; exact g2
              · rw [f8 _ _ _ (by omega)]; rfl
              · exact PL_ext (fun k _ _ => by rw [f8 _ _ _ (by omega)]; rfl) g4
            refine mmC_step ?_
            simp only [cd_25, sg_25_0, sg_25_8, sg_25_20, sg_25_28, sg_25_29, sg_25_42, sg_25_53, sg_25_58, sg_25_65, sg_25_68, mmK_cut cd_25, q_cons, q_G0, q_GS, q_I1, q_L1, q_A1, q_S0, q_S1, q_SS, q_T0, q_T1, q_TS, q_Kn, q_Ki, q_Kl, q_Kr, q_k0, q_kS, q_rc, q_ps, q_pn, q_aload1, q_bipush, q_invV, q_if_eq, q_aload0, q_ireturn0, q_iload3, q_ldc, q_iconst, q_getfieldI, q_icmp_ne, q_invS, q_goto, q_istore, q_icmp_eq, q_iload, q_icmp_ge, q_sipush, q_icmp_le, q_aload2, q_isub, q_dupI, q_dupA, q_iadd, q_putfieldI, mmKo_1, mmKo_2, mmKo_8, mmR32, mmR64, Option.some.injEq, Int.cast_ofNat_Int, and_true, true_and, if_true, if_false, List.length_cons, List.length_nil, Nat.le_refl, Nat.zero_le, Nat.sub_zero, forall_const, reduceCtorEq, Nat.reduceAdd, Nat.reduceSub, Nat.reduceLeDiff, Nat.reduceEqDiff, Int.reduceAdd, Int.reduceNeg, Int.reduceSub, Int.reduceLT, Int.reduceLE, Int.reduceMul, Int.reduceEq, List.drop_zero, List.drop_succ_cons, ne_eq, not_false_eq_true, not_true_eq_false, false_and, and_false, false_implies, true_implies, reduceIte, mmU_rd, implies_true, or_false, false_or, or_true, true_or]
            refine ⟨fun c5 => ?_, fun c5 => ?_⟩
            · refine mmC_step ?_
              simp only [cd_25, sg_25_0, sg_25_8, sg_25_20, sg_25_28, sg_25_29, sg_25_42, sg_25_53, sg_25_58, sg_25_65, sg_25_68, mmK_cut cd_25, q_cons, q_G0, q_GS, q_I1, q_L1, q_A1, q_S0, q_S1, q_SS, q_T0, q_T1, q_TS, q_Kn, q_Ki, q_Kl, q_Kr, q_k0, q_kS, q_rc, q_ps, q_pn, q_aload1, q_bipush, q_invV, q_if_eq, q_aload0, q_ireturn0, q_iload3, q_ldc, q_iconst, q_getfieldI, q_icmp_ne, q_invS, q_goto, q_istore, q_icmp_eq, q_iload, q_icmp_ge, q_sipush, q_icmp_le, q_aload2, q_isub, q_dupI, q_dupA, q_iadd, q_putfieldI, mmKo_1, mmKo_2, mmKo_8, mmR32, mmR64, Option.some.injEq, Int.cast_ofNat_Int, and_true, true_and, if_true, if_false, List.length_cons, List.length_nil, Nat.le_refl, Nat.zero_le, Nat.sub_zero, forall_const, reduceCtorEq, Nat.reduceAdd, Nat.reduceSub, Nat.reduceLeDiff, Nat.reduceEqDiff, Int.reduceAdd, Int.reduceNeg, Int.reduceSub, Int.reduceLT, Int.reduceLE, Int.reduceMul, Int.reduceEq, List.drop_zero, List.drop_succ_cons, ne_eq, not_false_eq_true, not_true_eq_false, false_and, and_false, false_implies, true_implies, reduceIte, mmU_rd, implies_true, or_false, false_or, or_true, true_or]
              refine ⟨by omega, w68 _ (by rw [if_neg c5])⟩
            · rw [CV_va h]
              exact w68 _ (by rw [if_pos c5])
          refine mmC_step ?_
          simp only [cd_25, sg_25_0, sg_25_8, sg_25_20, sg_25_28, sg_25_29, sg_25_42, sg_25_53, sg_25_58, sg_25_65, sg_25_68, mmK_cut cd_25, q_cons, q_G0, q_GS, q_I1, q_L1, q_A1, q_S0, q_S1, q_SS, q_T0, q_T1, q_TS, q_Kn, q_Ki, q_Kl, q_Kr, q_k0, q_kS, q_rc, q_ps, q_pn, q_aload1, q_bipush, q_invV, q_if_eq, q_aload0, q_ireturn0, q_iload3, q_ldc, q_iconst, q_getfieldI, q_icmp_ne, q_invS, q_goto, q_istore, q_icmp_eq, q_iload, q_icmp_ge, q_sipush, q_icmp_le, q_aload2, q_isub, q_dupI, q_dupA, q_iadd, q_putfieldI, mmKo_1, mmKo_2, mmKo_8, mmR32, mmR64, Option.some.injEq, Int.cast_ofNat_Int, and_true, true_and, if_true, if_false, List.length_cons, List.length_nil, Nat.le_refl, Nat.zero_le, Nat.sub_zero, forall_const, reduceCtorEq, Nat.reduceAdd, Nat.reduceSub, Nat.reduceLeDiff, Nat.reduceEqDiff, Int.reduceAdd, Int.reduceNeg, Int.reduceSub, Int.reduceLT, Int.reduceLE, Int.reduceMul, Int.reduceEq, List.drop_zero, List.drop_succ_cons, ne_eq, not_false_eq_true, not_true_eq_false, false_and, and_false, false_implies, true_implies, reduceIte, mmU_rd, implies_true, or_false, false_or, or_true, true_or]
          rw [g3, CV_va h]
          exact ⟨fun c4 => w53 (Or.inl c4), fun c4 => ⟨fun c5 => w58 (by omega), fun c5 => ⟨fun c6 => w58 (by omega), fun c6 => w53 (Or.inr ⟨c5, c6⟩)⟩⟩⟩
        refine ⟨fun c3 => w42 (fun q => q.1 c3), fun c3 => ⟨fun c4 => w42 (fun q => c4 q.2), fun c4 => ?_⟩⟩
        rw [if_pos ⟨c3, c4⟩] at hZ
        refine mT_use (c_fail h) (fun v I' q => ?_)
        obtain ⟨rfl, q1⟩ := q
        simp only [mmK_cut cd_25, q_cons, q_G0, q_GS, q_I1, q_L1, q_A1, q_S0, q_S1, q_SS, q_T0, q_T1, q_TS, q_Kn, q_Ki, q_Kl, q_Kr, q_k0, q_kS, q_rc, q_ps, q_pn, q_aload1, q_bipush, q_invV, q_if_eq, q_aload0, q_ireturn0, q_iload3, q_ldc, q_iconst, q_getfieldI, q_icmp_ne, q_invS, q_goto, q_istore, q_icmp_eq, q_iload, q_icmp_ge, q_sipush, q_icmp_le, q_aload2, q_isub, q_dupI, q_dupA, q_iadd, q_putfieldI, mmKo_1, mmKo_2, mmKo_8, mmR32, mmR64, Option.some.injEq, Int.cast_ofNat_Int, and_true, true_and, if_true, if_false, List.length_cons, List.length_nil, Nat.le_refl, Nat.zero_le, Nat.sub_zero, forall_const, reduceCtorEq, Nat.reduceAdd, Nat.reduceSub, Nat.reduceLeDiff, Nat.reduceEqDiff, Int.reduceAdd, Int.reduceNeg, Int.reduceSub, Int.reduceLT, Int.reduceLE, Int.reduceMul, Int.reduceEq, List.drop_zero, List.drop_succ_cons, ne_eq, not_false_eq_true, not_true_eq_false, false_and, and_false, false_implies, true_implies, reduceIte, mmU_rd, implies_true, or_false, false_or, or_true, true_or]
        exact mT_in (Or.inl ⟨_, hZ.symm, rfl, q1⟩)
      refine mmC_step ?_
      simp only [cd_25, sg_25_0, sg_25_8, sg_25_20, sg_25_28, sg_25_29, sg_25_42, sg_25_53, sg_25_58, sg_25_65, sg_25_68, mmK_cut cd_25, q_cons, q_G0, q_GS, q_I1, q_L1, q_A1, q_S0, q_S1, q_SS, q_T0, q_T1, q_TS, q_Kn, q_Ki, q_Kl, q_Kr, q_k0, q_kS, q_rc, q_ps, q_pn, q_aload1, q_bipush, q_invV, q_if_eq, q_aload0, q_ireturn0, q_iload3, q_ldc, q_iconst, q_getfieldI, q_icmp_ne, q_invS, q_goto, q_istore, q_icmp_eq, q_iload, q_icmp_ge, q_sipush, q_icmp_le, q_aload2, q_isub, q_dupI, q_dupA, q_iadd, q_putfieldI, mmKo_1, mmKo_2, mmKo_8, mmR32, mmR64, Option.some.injEq, Int.cast_ofNat_Int, and_true, true_and, if_true, if_false, List.length_cons, List.length_nil, Nat.le_refl, Nat.zero_le, Nat.sub_zero, forall_const, reduceCtorEq, Nat.reduceAdd, Nat.reduceSub, Nat.reduceLeDiff, Nat.reduceEqDiff, Int.reduceAdd, Int.reduceNeg, Int.reduceSub, Int.reduceLT, Int.reduceLE, Int.reduceMul, Int.reduceEq, List.drop_zero, List.drop_succ_cons, ne_eq, not_false_eq_true, not_true_eq_false, false_and, and_false, false_implies, true_implies, reduceIte, mmU_rd, implies_true, or_false, false_or, or_true, true_or]
      rw [CV_so h, CV_va h]
      refine ⟨fun c3 => ?_, fun c3 => ?_⟩
      · refine mmC_step ?_
        simp only [cd_25, sg_25_0, sg_25_8, sg_25_20, sg_25_28, sg_25_29, sg_25_42, sg_25_53, sg_25_58, sg_25_65, sg_25_68, mmK_cut cd_25, q_cons, q_G0, q_GS, q_I1, q_L1, q_A1, q_S0, q_S1, q_SS, q_T0, q_T1, q_TS, q_Kn, q_Ki, q_Kl, q_Kr, q_k0, q_kS, q_rc, q_ps, q_pn, q_aload1, q_bipush, q_invV, q_if_eq, q_aload0, q_ireturn0, q_iload3, q_ldc, q_iconst, q_getfieldI, q_icmp_ne, q_invS, q_goto, q_istore, q_icmp_eq, q_iload, q_icmp_ge, q_sipush, q_icmp_le, q_aload2, q_isub, q_dupI, q_dupA, q_iadd, q_putfieldI, mmKo_1, mmKo_2, mmKo_8, mmR32, mmR64, Option.some.injEq, Int.cast_ofNat_Int, and_true, true_and, if_true, if_false, List.length_cons, List.length_nil, Nat.le_refl, Nat.zero_le, Nat.sub_zero, forall_const, reduceCtorEq, Nat.reduceAdd, Nat.reduceSub, Nat.reduceLeDiff, Nat.reduceEqDiff, Int.reduceAdd, Int.reduceNeg, Int.reduceSub, Int.reduceLT, Int.reduceLE, Int.reduceMul, Int.reduceEq, List.drop_zero, List.drop_succ_cons, ne_eq, not_false_eq_true, not_true_eq_false, false_and, and_false, false_implies, true_implies, reduceIte, mmU_rd, implies_true, or_false, false_or, or_true, true_or]
        exact w29 _ (by unfold nmO; rw [if_neg c3])
      · refine sp_nameNo ?_
        simp only [mmK_cut cd_25, q_cons, q_G0, q_GS, q_I1, q_L1, q_A1, q_S0, q_S1, q_SS, q_T0, q_T1, q_TS, q_Kn, q_Ki, q_Kl, q_Kr, q_k0, q_kS, q_rc, q_ps, q_pn, q_aload1, q_bipush, q_invV, q_if_eq, q_aload0, q_ireturn0, q_iload3, q_ldc, q_iconst, q_getfieldI, q_icmp_ne, q_invS, q_goto, q_istore, q_icmp_eq, q_iload, q_icmp_ge, q_sipush, q_icmp_le, q_aload2, q_isub, q_dupI, q_dupA, q_iadd, q_putfieldI, mmKo_1, mmKo_2, mmKo_8, mmR32, mmR64, Option.some.injEq, Int.cast_ofNat_Int, and_true, true_and, if_true, if_false, List.length_cons, List.length_nil, Nat.le_refl, Nat.zero_le, Nat.sub_zero, forall_const, reduceCtorEq, Nat.reduceAdd, Nat.reduceSub, Nat.reduceLeDiff, Nat.reduceEqDiff, Int.reduceAdd, Int.reduceNeg, Int.reduceSub, Int.reduceLT, Int.reduceLE, Int.reduceMul, Int.reduceEq, List.drop_zero, List.drop_succ_cons, ne_eq, not_false_eq_true, not_true_eq_false, false_and, and_false, false_implies, true_implies, reduceIte, mmU_rd, implies_true, or_false, false_or, or_true, true_or]
        exact w29 _ (by unfold nmO; rw [if_pos c3])
    refine mmC_step ?_
    simp only [cd_25, sg_25_0, sg_25_8, sg_25_20, sg_25_28, sg_25_29, sg_25_42, sg_25_53, sg_25_58, sg_25_65, sg_25_68, mmK_cut cd_25, q_cons, q_G0, q_GS, q_I1, q_L1, q_A1, q_S0, q_S1, q_SS, q_T0, q_T1, q_TS, q_Kn, q_Ki, q_Kl, q_Kr, q_k0, q_kS, q_rc, q_ps, q_pn, q_aload1, q_bipush, q_invV, q_if_eq, q_aload0, q_ireturn0, q_iload3, q_ldc, q_iconst, q_getfieldI, q_icmp_ne, q_invS, q_goto, q_istore, q_icmp_eq, q_iload, q_icmp_ge, q_sipush, q_icmp_le, q_aload2, q_isub, q_dupI, q_dupA, q_iadd, q_putfieldI, mmKo_1, mmKo_2, mmKo_8, mmR32, mmR64, Option.some.injEq, Int.cast_ofNat_Int, and_true, true_and, if_true, if_false, List.length_cons, List.length_nil, Nat.le_refl, Nat.zero_le, Nat.sub_zero, forall_const, reduceCtorEq, Nat.reduceAdd, Nat.reduceSub, Nat.reduceLeDiff, Nat.reduceEqDiff, Int.reduceAdd, Int.reduceNeg, Int.reduceSub, Int.reduceLT, Int.reduceLE, Int.reduceMul, Int.reduceEq, List.drop_zero, List.drop_succ_cons, ne_eq, not_false_eq_true, not_true_eq_false, false_and, and_false, false_implies, true_implies, reduceIte, mmU_rd, implies_true, or_false, false_or, or_true, true_or]
    refine ⟨fun c2 => w20 (fun q => q.1 c2), fun c2 => ?_⟩
    refine sp_isWord ?_
    rw [CV_so h, CV_va h]
    simp only [mmK_cut cd_25, q_cons, q_G0, q_GS, q_I1, q_L1, q_A1, q_S0, q_S1, q_SS, q_T0, q_T1, q_TS, q_Kn, q_Ki, q_Kl, q_Kr, q_k0, q_kS, q_rc, q_ps, q_pn, q_aload1, q_bipush, q_invV, q_if_eq, q_aload0, q_ireturn0, q_iload3, q_ldc, q_iconst, q_getfieldI, q_icmp_ne, q_invS, q_goto, q_istore, q_icmp_eq, q_iload, q_icmp_ge, q_sipush, q_icmp_le, q_aload2, q_isub, q_dupI, q_dupA, q_iadd, q_putfieldI, mmKo_1, mmKo_2, mmKo_8, mmR32, mmR64, Option.some.injEq, Int.cast_ofNat_Int, and_true, true_and, if_true, if_false, List.length_cons, List.length_nil, Nat.le_refl, Nat.zero_le, Nat.sub_zero, forall_const, reduceCtorEq, Nat.reduceAdd, Nat.reduceSub, Nat.reduceLeDiff, Nat.reduceEqDiff, Int.reduceAdd, Int.reduceNeg, Int.reduceSub, Int.reduceLT, Int.reduceLE, Int.reduceMul, Int.reduceEq, List.drop_zero, List.drop_succ_cons, ne_eq, not_false_eq_true, not_true_eq_false, false_and, and_false, false_implies, true_implies, reduceIte, mmU_rd, implies_true, or_false, false_or, or_true, true_or, bI_eq0]
    refine ⟨fun c3 => w20 (fun q => c3 q.2), fun c3 => ?_⟩
    rw [if_pos ⟨c2, Classical.not_not.mp c3⟩] at hZ
    refine mT_use (c_sign h hl hi) (fun v I' q => ?_)
    rw [hZ] at q
    have q' := q
    rcases q with ⟨e, q1, rfl, q2⟩ | ⟨st', p', P', op', kn', r', q1, rfl, q2⟩
    · simp only [mmK_cut cd_25, q_cons, q_G0, q_GS, q_I1, q_L1, q_A1, q_S0, q_S1, q_SS, q_T0, q_T1, q_TS, q_Kn, q_Ki, q_Kl, q_Kr, q_k0, q_kS, q_rc, q_ps, q_pn, q_aload1, q_bipush, q_invV, q_if_eq, q_aload0, q_ireturn0, q_iload3, q_ldc, q_iconst, q_getfieldI, q_icmp_ne, q_invS, q_goto, q_istore, q_icmp_eq, q_iload, q_icmp_ge, q_sipush, q_icmp_le, q_aload2, q_isub, q_dupI, q_dupA, q_iadd, q_putfieldI, mmKo_1, mmKo_2, mmKo_8, mmR32, mmR64, Option.some.injEq, Int.cast_ofNat_Int, and_true, true_and, if_true, if_false, List.length_cons, List.length_nil, Nat.le_refl, Nat.zero_le, Nat.sub_zero, forall_const, reduceCtorEq, Nat.reduceAdd, Nat.reduceSub, Nat.reduceLeDiff, Nat.reduceEqDiff, Int.reduceAdd, Int.reduceNeg, Int.reduceSub, Int.reduceLT, Int.reduceLE, Int.reduceMul, Int.reduceEq, List.drop_zero, List.drop_succ_cons, ne_eq, not_false_eq_true, not_true_eq_false, false_and, and_false, false_implies, true_implies, reduceIte, mmU_rd, implies_true, or_false, false_or, or_true, true_or]
      exact mT_in q'
    · simp only [mmK_cut cd_25, q_cons, q_G0, q_GS, q_I1, q_L1, q_A1, q_S0, q_S1, q_SS, q_T0, q_T1, q_TS, q_Kn, q_Ki, q_Kl, q_Kr, q_k0, q_kS, q_rc, q_ps, q_pn, q_aload1, q_bipush, q_invV, q_if_eq, q_aload0, q_ireturn0, q_iload3, q_ldc, q_iconst, q_getfieldI, q_icmp_ne, q_invS, q_goto, q_istore, q_icmp_eq, q_iload, q_icmp_ge, q_sipush, q_icmp_le, q_aload2, q_isub, q_dupI, q_dupA, q_iadd, q_putfieldI, mmKo_1, mmKo_2, mmKo_8, mmR32, mmR64, Option.some.injEq, Int.cast_ofNat_Int, and_true, true_and, if_true, if_false, List.length_cons, List.length_nil, Nat.le_refl, Nat.zero_le, Nat.sub_zero, forall_const, reduceCtorEq, Nat.reduceAdd, Nat.reduceSub, Nat.reduceLeDiff, Nat.reduceEqDiff, Int.reduceAdd, Int.reduceNeg, Int.reduceSub, Int.reduceLT, Int.reduceLE, Int.reduceMul, Int.reduceEq, List.drop_zero, List.drop_succ_cons, ne_eq, not_false_eq_true, not_true_eq_false, false_and, and_false, false_implies, true_implies, reduceIte, mmU_rd, implies_true, or_false, false_or, or_true, true_or]
      exact mT_in q'
  · rw [if_pos (Classical.not_not.mp c)] at hZ
    refine mT_use (c_open h hl hi) (fun v I' q => ?_)
    rw [hZ] at q
    have q' := q
    rcases q with ⟨e, q1, rfl, q2⟩ | ⟨st', p', P', op', kn', r', q1, rfl, q2⟩
    · simp only [mmK_cut cd_25, q_cons, q_G0, q_GS, q_I1, q_L1, q_A1, q_S0, q_S1, q_SS, q_T0, q_T1, q_TS, q_Kn, q_Ki, q_Kl, q_Kr, q_k0, q_kS, q_rc, q_ps, q_pn, q_aload1, q_bipush, q_invV, q_if_eq, q_aload0, q_ireturn0, q_iload3, q_ldc, q_iconst, q_getfieldI, q_icmp_ne, q_invS, q_goto, q_istore, q_icmp_eq, q_iload, q_icmp_ge, q_sipush, q_icmp_le, q_aload2, q_isub, q_dupI, q_dupA, q_iadd, q_putfieldI, mmKo_1, mmKo_2, mmKo_8, mmR32, mmR64, Option.some.injEq, Int.cast_ofNat_Int, and_true, true_and, if_true, if_false, List.length_cons, List.length_nil, Nat.le_refl, Nat.zero_le, Nat.sub_zero, forall_const, reduceCtorEq, Nat.reduceAdd, Nat.reduceSub, Nat.reduceLeDiff, Nat.reduceEqDiff, Int.reduceAdd, Int.reduceNeg, Int.reduceSub, Int.reduceLT, Int.reduceLE, Int.reduceMul, Int.reduceEq, List.drop_zero, List.drop_succ_cons, ne_eq, not_false_eq_true, not_true_eq_false, false_and, and_false, false_implies, true_implies, reduceIte, mmU_rd, implies_true, or_false, false_or, or_true, true_or]
      exact mT_in q'
    · simp only [mmK_cut cd_25, q_cons, q_G0, q_GS, q_I1, q_L1, q_A1, q_S0, q_S1, q_SS, q_T0, q_T1, q_TS, q_Kn, q_Ki, q_Kl, q_Kr, q_k0, q_kS, q_rc, q_ps, q_pn, q_aload1, q_bipush, q_invV, q_if_eq, q_aload0, q_ireturn0, q_iload3, q_ldc, q_iconst, q_getfieldI, q_icmp_ne, q_invS, q_goto, q_istore, q_icmp_eq, q_iload, q_icmp_ge, q_sipush, q_icmp_le, q_aload2, q_isub, q_dupI, q_dupA, q_iadd, q_putfieldI, mmKo_1, mmKo_2, mmKo_8, mmR32, mmR64, Option.some.injEq, Int.cast_ofNat_Int, and_true, true_and, if_true, if_false, List.length_cons, List.length_nil, Nat.le_refl, Nat.zero_le, Nat.sub_zero, forall_const, reduceCtorEq, Nat.reduceAdd, Nat.reduceSub, Nat.reduceLeDiff, Nat.reduceEqDiff, Int.reduceAdd, Int.reduceNeg, Int.reduceSub, Int.reduceLT, Int.reduceLE, Int.reduceMul, Int.reduceEq, List.drop_zero, List.drop_succ_cons, ne_eq, not_false_eq_true, not_true_eq_false, false_and, and_false, false_implies, true_implies, reduceIte, mmU_rd, implies_true, or_false, false_or, or_true, true_or]
      exact mT_in q'
end S65
