theorem TR_num {so va ki wh : Int} (h : TR so va ki wh) : ki = 3 ↔ so = 2 := by unfold TR at h; omega
theorem TR_end {so va ki wh : Int} (h : TR so va ki wh) : ki = 0 ↔ so = 0 := by unfold TR at h; omega
theorem TR_in {so va ki wh lo hi : Int} (h : TR so va ki wh) (h2 : so = 2) (hh : hi ≤ 9999) : ((lo ≤ wh ∧ wh ≤ hi) ↔ (lo ≤ va ∧ va ≤ hi)) ∧ (wh ≤ 9999 → wh = va) := by
  have h : (0 ≤ wh ∧ wh ≤ 99999) ∧ 0 ≤ va ∧ va ≤ 100000 ∧ ((wh ≤ 9999 ∧ va = wh) ∨ (9999 < wh ∧ 9999 < va)) := by
    unfold TR at h
    rcases h with q | q | q | q | q | q | q
    all_goals first | omega | exact q.2.2
  omega
theorem TR_key {so va ki wh : Int} (h : TR so va ki wh) : (ki = 1 ↔ so = 1 ∧ 0 ≤ kyF va) ∧ (ki = 1 → wh = kyF va) := by
  unfold TR at h
  rcases h with q | q | q | q | q | q | q
  all_goals omega
theorem TR_name {so va ki wh : Int} (h : TR so va ki wh) : (ki = 2 ↔ so = 1 ∧ kyF va < 0) ∧ (ki = 2 → wh = va) := by
  unfold TR at h
  rcases h with q | q | q | q | q | q | q
  all_goals omega
theorem TR_sign {so va ki wh c : Int} (h : TR so va ki wh) (hc : c = 40 ∨ c = 41 ∨ c = 42 ∨ c = 43 ∨ c = 45 ∨ c = 47 ∨ c = 59) : (ki = 4 ∧ wh = c) ↔ (so = 3 ∧ va = c) := by
  unfold TR at h
  rcases h with q | q | q | q | q | q | q
  all_goals omega
theorem TR_cmp {so va ki wh : Int} (h : TR so va ki wh) : (ki = 5 ∧ ((va = 60 ∧ wh = 0) ∨ (va = 256 ∧ wh = 1) ∨ (va = 61 ∧ wh = 2) ∨ (va = 257 ∧ wh = 3) ∨ (va = 258 ∧ wh = 4) ∨ (va = 62 ∧ wh = 5)) ∧ so = 3) ∨ (¬ ki = 5 ∧ ¬ (so = 3 ∧ (va = 60 ∨ va = 256 ∨ va = 61 ∨ va = 257 ∨ va = 258 ∨ va = 62))) := by
  unfold TR at h
  rcases h with q | q | q | q | q | q | q
  all_goals first | (left; exact ⟨q.2.1, q.2.2, q.1⟩) | (right; omega)
def PSr (I : mMm) (T : Int → Int) (s p : Int) : Prop := I 1200 0 = T ∧ I 11 0 6 = s ∧ I 11 0 7 = tkN T s p ∧ I 11 0 10 = skE T s p ∧ TR (tkS T s p) (tkV T s p) (I 11 0 8) (I 11 0 9) ∧ (∀ k : Nat, k < 95 → I 1203 0 k = wdL.getD k 0) ∧ 0 ≤ p ∧ p ≤ s ∧ s ≤ 700
def Fr7 (I I' : mMm) : Prop := ∀ t i k, ¬ (t = 11 ∧ ((7 ≤ k ∧ k ≤ 11) ∨ k = 47)) → I' t i k = I t i k
/-- the flags of kinds are flags -/
def BL (I : mMm) : Prop := ∀ k, 4 ≤ k → (I 1236 0 k = 0 ∨ I 1236 0 k = 1) ∧ (I 1237 0 k = 0 ∨ I 1237 0 k = 1)
theorem BL_ext {I I' : mMm} (h : ∀ t k, (t = 1236 ∨ t = 1237) → I' t 0 k = I t 0 k) (hb : BL I) : BL I' := by
  intro k hk
  rw [h 1236 k (by omega), h 1237 k (by omega)]
  exact hb k hk
theorem BL_7 {I I' : mMm} (h : Fr7 I I') (hb : BL I) : BL I' := BL_ext (fun t k ht => h _ _ _ (by omega)) hb
theorem BL_U {I : mMm} {t i : Nat} {x v : Int} (h : ¬ (t = 1236 ∨ t = 1237)) (hb : BL I) : BL (mmU I t i x v) := BL_ext (fun t' k ht => by unfold mmU; rw [if_neg (by omega)]) hb
theorem BL_Ub {I : mMm} {t i : Nat} {x v : Int} (hv : v = 0 ∨ v = 1) (hb : BL I) : BL (mmU I t i x v) := by
  intro k hk
  have := hb k hk
  unfold mmU
  constructor
  · split
    · exact hv
    · exact this.1
  · split
    · exact hv
    · exact this.2
def Mt (t : Nat) (k : Int) : Prop := (t = 11 ∧ ((4 ≤ k ∧ k ≤ 11) ∨ (22 ≤ k ∧ k ≤ 34) ∨ k = 47 ∨ (50 ≤ k ∧ k ≤ 55))) ∨ (1235 ≤ t ∧ t ≤ 1238 ∧ 4 ≤ k) ∨ (1239 ≤ t ∧ t ≤ 1240 ∧ 32 ≤ k) ∨ (1241 ≤ t ∧ t ≤ 1243 ∧ 8 ≤ k) ∨ (1244 ≤ t ∧ t ≤ 1246 ∧ 64 ≤ k) ∨ t = 1248 ∨ t = 1249
def FrM (I I' : mMm) : Prop := (∀ t i k, ¬ Mt t k → I' t i k = I t i k) ∧ (BL I → BL I')
def MF (I : mMm) (e : Int × Int) (I' : mMm) : Prop := FrM I I' ∧ I' 11 0 4 = e.1 ∧ I' 11 0 5 = e.2
theorem Fr7_refl {I : mMm} : Fr7 I I := fun _ _ _ _ => rfl
theorem Fr7_trans {I I' I'' : mMm} (h : Fr7 I I') (h' : Fr7 I' I'') : Fr7 I I'' := fun t i k c => (h' t i k c).trans (h t i k c)
theorem FrM_refl {I : mMm} : FrM I I := ⟨fun _ _ _ _ => rfl, id⟩
theorem FrM_trans {I I' I'' : mMm} (h : FrM I I') (h' : FrM I' I'') : FrM I I'' := ⟨fun t i k c => (h'.1 t i k c).trans (h.1 t i k c), fun b => h'.2 (h.2 b)⟩
theorem FrM_7 {I I' : mMm} (h : Fr7 I I') : FrM I I' := ⟨fun t i k c => h t i k (fun q => c (by unfold Mt; omega)), BL_7 h⟩
theorem MF_trans {I I' I'' : mMm} {e : Int × Int} (h : FrM I I') (h' : MF I' e I'') : MF I e I'' := ⟨FrM_trans h h'.1, h'.2⟩
theorem BL_Uc {I : mMm} {t i : Nat} {k v : Int} (hv : (t = 1236 ∨ t = 1237) → (v = 0 ∨ v = 1)) (hb : BL I) : BL (mmU I t i k v) := by
  by_cases h : t = 1236 ∨ t = 1237
  · exact BL_Ub (hv h) hb
  · exact BL_U h hb
theorem FrM_U {I : mMm} {t i : Nat} {k v : Int} (h : Mt t k) (hv : (t = 1236 ∨ t = 1237) → (v = 0 ∨ v = 1) := by intros; omega) : FrM I (mmU I t i k v) := by
  refine ⟨?_, BL_Uc hv⟩
  intro t' i' k' c
  unfold mmU
  rw [if_neg]
  rintro ⟨rfl, rfl, rfl⟩
  exact c h
theorem Fr7_U {I : mMm} {i : Nat} {k v : Int} (h : (7 ≤ k ∧ k ≤ 11) ∨ k = 47) : Fr7 I (mmU I 11 i k v) := by
  intro t' i' k' c
  unfold mmU
  rw [if_neg]
  rintro ⟨rfl, rfl, rfl⟩
  exact c ⟨rfl, h⟩
section S59
variable {d a : Nat} {I I' : mMm} {br : Nat → Option mmO} {X : mmX} {T : Int → Int} {s p : Int}
theorem PSr_ext (h : PSr I T s p) (h1 : ∀ k, I' 1200 0 k = I 1200 0 k) (h2 : ∀ k, (6 ≤ k ∧ k ≤ 10) → I' 11 0 k = I 11 0 k) (h3 : ∀ k, I' 1203 0 k = I 1203 0 k) : PSr I' T s p := by
  obtain ⟨g1, g2, g3, g4, g5, g6, g7⟩ := h
  refine ⟨?_, ?_, ?_, ?_, ?_, ?_, g7⟩
  · funext k; rw [h1, g1]
  · rw [h2 _ (by omega), g2]
  · rw [h2 _ (by omega), g3]
  · rw [h2 _ (by omega), g4]
  · rw [h2 _ (by omega), h2 _ (by omega)]; exact g5
  · intro k hk; rw [h3]; exact g6 k hk
theorem m_token (h : PSr I T s p) : mmC (d + 2) 150 [mo 11 0] (I, mmRf a br, X) (mT a br X fun v I' => v = none ∧ Fr7 I I' ∧ I' 11 0 11 = I 11 0 11 ∧ I' 11 0 47 = I 11 0 47 ∧ PSr I' T s (tkN T s p)) := by
  obtain ⟨g1, g2, g3, g4, g5, g6, g7, g8, g9⟩ := h
  have hn := tk_next (T := T) ⟨g7, g8⟩
  have e : I = mmUr I 11 0 (tkH (I 11 0) (tkN T s p) (I 11 0 8) (I 11 0 9) (I 11 0 10)) := by
    have : tkH (I 11 0) (tkN T s p) (I 11 0 8) (I 11 0 9) (I 11 0 10) = I 11 0 := by
      funext k
      unfold tkH
      split
      · rename_i c; rw [c, g3]
      split
      · rename_i c; rw [c]
      split
      · rename_i c; rw [c]
      split
      · rename_i c; rw [c]
      rfl
    rw [this, mmUr_self]
  have hT := tk_rel (T := T) (s := s) (p := tkN T s p) (wh := I 11 0 9) ⟨by omega, by omega⟩
  subst g1
  subst g2
  generalize hg : I 11 0 = g at *
  rw [e]
  refine sq_token (by omega) g9 (fun k hk => g6 k hk) (mT_in ⟨rfl, fun t i k c => ?_, rfl, rfl, rfl, rfl, rfl, rfl, hT, fun k hk => g6 k hk, (show 0 ≤ tkN (I 1200 0) (g 6) p by omega), (show tkN (I 1200 0) (g 6) p ≤ g 6 by omega), g9⟩)
  unfold mmUr
  split
  · rename_i q
    obtain ⟨rfl, rfl⟩ := q
    unfold tkB tkH
    have c7 : ¬ k = 7 := by omega
    have c8 : ¬ k = 8 := by omega
    have c9 : ¬ k = 9 := by omega
    have c10 : ¬ k = 10 := by omega
    simp only [c7, c8, c9, c10, if_false]
  · rfl
theorem m_wrong {x : Int} : mmC (d + 1) 146 [mo 11 0, mv x] (I, mmRf a br, X) (mT a br X fun v I' => v = some (mv 0) ∧ MF I (x, I 11 0 10) I') := by
  refine mmC_in (by decide) (Nat.le_of_ble_eq_true rfl) (mmC_step ?_)
  simp only [show mmMl 146 = 2 from rfl, mmLs, List.replicate, cd_146, sg_146_0, mmK_cut cd_146, q_cons, q_G0, q_GS, q_I1, q_L1, q_A1, q_S0, q_S1, q_SS, q_T0, q_T1, q_TS, q_Kn, q_Ki, q_Kl, q_Kr, q_k0, q_kS, q_rc, q_ps, q_pn, q_aload0, q_iload1, q_putfieldI, q_getfieldI, q_iconst, q_ireturn1, mmKo_11, mmR32, mmR64, Option.some.injEq, Int.cast_ofNat_Int, and_true, true_and, if_true, if_false, List.length_cons, List.length_nil, Nat.le_refl, Nat.zero_le, Nat.sub_zero, forall_const, reduceCtorEq, Nat.reduceAdd, Nat.reduceSub, Nat.reduceLeDiff, Nat.reduceEqDiff, Int.reduceAdd, Int.reduceNeg, Int.reduceSub, Int.reduceLT, Int.reduceLE, Int.reduceMul, Int.reduceEq, List.drop_zero, List.drop_succ_cons, ne_eq, not_false_eq_true, not_true_eq_false, false_and, and_false, false_implies, true_implies, reduceIte, mmU_rd, implies_true, or_false, false_or, or_true, true_or]
  refine mT_in ⟨rfl, ?_, rfl, rfl⟩
  exact FrM_trans (FrM_U (by unfold Mt; omega)) (FrM_U (by unfold Mt; omega))
theorem m_num {lo hi : Int} (h : PSr I T s p) (hh : hi ≤ 9999) : mmC (d + 3) 155 [mo 11 0, mv lo, mv hi] (I, mmRf a br, X) (mT a br X fun v I' => (∃ e, nmF T s lo hi p = .inl e ∧ v = some (mv 0) ∧ MF I e I') ∨ (nmF T s lo hi p = .inr (tkV T s p, tkN T s p) ∧ tkS T s p = 2 ∧ lo ≤ tkV T s p ∧ tkV T s p ≤ hi ∧ v = some (mv 1) ∧ Fr7 I I' ∧ I' 11 0 11 = tkV T s p ∧ I' 11 0 47 = I 11 0 47 ∧ PSr I' T s (tkN T s p))) := by
  have hR := h.2.2.2.2.1
  have hat : I 11 0 10 = skE T s p := h.2.2.2.1
  refine mmC_in (by decide) (Nat.le_of_ble_eq_true rfl) (mmC_step ?_)
  simp only [show mmMl 155 = 3 from rfl, mmLs, List.replicate, cd_155, sg_155_0, sg_155_8, sg_155_18, mmK_cut cd_155, q_cons, q_G0, q_GS, q_I1, q_L1, q_A1, q_S0, q_S1, q_SS, q_T0, q_T1, q_TS, q_Kn, q_Ki, q_Kl, q_Kr, q_k0, q_kS, q_rc, q_ps, q_pn, q_aload0, q_getfieldI, q_iconst, q_icmp_eq, q_invV, q_ireturn1, q_iload1, q_iload2, q_invS, q_if_ne, q_putfieldI, mmKo_11, mmR32, mmR64, Option.some.injEq, Int.cast_ofNat_Int, and_true, true_and, if_true, if_false, List.length_cons, List.length_nil, Nat.le_refl, Nat.zero_le, Nat.sub_zero, forall_const, reduceCtorEq, Nat.reduceAdd, Nat.reduceSub, Nat.reduceLeDiff, Nat.reduceEqDiff, Int.reduceAdd, Int.reduceNeg, Int.reduceSub, Int.reduceLT, Int.reduceLE, Int.reduceMul, Int.reduceEq, List.drop_zero, List.drop_succ_cons, ne_eq, not_false_eq_true, not_true_eq_false, false_and, and_false, false_implies, true_implies, reduceIte, mmU_rd, implies_true, or_false, false_or, or_true, true_or]
  refine ⟨fun c => ?_, fun c => ?_⟩
  · have c2 := (TR_num hR).mp c
    have c3 := TR_in (lo := lo) hR c2 hh
    refine mmC_step ?_
    simp only [cd_155, sg_155_0, sg_155_8, sg_155_18, mmK_cut cd_155, q_cons, q_G0, q_GS, q_I1, q_L1, q_A1, q_S0, q_S1, q_SS, q_T0, q_T1, q_TS, q_Kn, q_Ki, q_Kl, q_Kr, q_k0, q_kS, q_rc, q_ps, q_pn, q_aload0, q_getfieldI, q_iconst, q_icmp_eq, q_invV, q_ireturn1, q_iload1, q_iload2, q_invS, q_if_ne, q_putfieldI, mmKo_11, mmR32, mmR64, Option.some.injEq, Int.cast_ofNat_Int, and_true, true_and, if_true, if_false, List.length_cons, List.length_nil, Nat.le_refl, Nat.zero_le, Nat.sub_zero, forall_const, reduceCtorEq, Nat.reduceAdd, Nat.reduceSub, Nat.reduceLeDiff, Nat.reduceEqDiff, Int.reduceAdd, Int.reduceNeg, Int.reduceSub, Int.reduceLT, Int.reduceLE, Int.reduceMul, Int.reduceEq, List.drop_zero, List.drop_succ_cons, ne_eq, not_false_eq_true, not_true_eq_false, false_and, and_false, false_implies, true_implies, reduceIte, mmU_rd, implies_true, or_false, false_or, or_true, true_or]
    refine sq_isIn ?_
    simp only [mmK_cut cd_155, q_cons, q_G0, q_GS, q_I1, q_L1, q_A1, q_S0, q_S1, q_SS, q_T0, q_T1, q_TS, q_Kn, q_Ki, q_Kl, q_Kr, q_k0, q_kS, q_rc, q_ps, q_pn, q_aload0, q_getfieldI, q_iconst, q_icmp_eq, q_invV, q_ireturn1, q_iload1, q_iload2, q_invS, q_if_ne, q_putfieldI, mmKo_11, mmR32, mmR64, Option.some.injEq, Int.cast_ofNat_Int, and_true, true_and, if_true, if_false, List.length_cons, List.length_nil, Nat.le_refl, Nat.zero_le, Nat.sub_zero, forall_const, reduceCtorEq, Nat.reduceAdd, Nat.reduceSub, Nat.reduceLeDiff, Nat.reduceEqDiff, Int.reduceAdd, Int.reduceNeg, Int.reduceSub, Int.reduceLT, Int.reduceLE, Int.reduceMul, Int.reduceEq, List.drop_zero, List.drop_succ_cons, ne_eq, not_false_eq_true, not_true_eq_false, false_and, and_false, false_implies, true_implies, reduceIte, mmU_rd, implies_true, or_false, false_or, or_true, true_or, bI_eq0, Classical.not_not]
    refine ⟨fun c4 => ?_, fun c4 => ?_⟩
    · have c5 := c3.1.mp c4
      have c6 := c3.2 (by omega)
      refine mmC_step ?_
      simp only [cd_155, sg_155_0, sg_155_8, sg_155_18, mmK_cut cd_155, q_cons, q_G0, q_GS, q_I1, q_L1, q_A1, q_S0, q_S1, q_SS, q_T0, q_T1, q_TS, q_Kn, q_Ki, q_Kl, q_Kr, q_k0, q_kS, q_rc, q_ps, q_pn, q_aload0, q_getfieldI, q_iconst, q_icmp_eq, q_invV, q_ireturn1, q_iload1, q_iload2, q_invS, q_if_ne, q_putfieldI, mmKo_11, mmR32, mmR64, Option.some.injEq, Int.cast_ofNat_Int, and_true, true_and, if_true, if_false, List.length_cons, List.length_nil, Nat.le_refl, Nat.zero_le, Nat.sub_zero, forall_const, reduceCtorEq, Nat.reduceAdd, Nat.reduceSub, Nat.reduceLeDiff, Nat.reduceEqDiff, Int.reduceAdd, Int.reduceNeg, Int.reduceSub, Int.reduceLT, Int.reduceLE, Int.reduceMul, Int.reduceEq, List.drop_zero, List.drop_succ_cons, ne_eq, not_false_eq_true, not_true_eq_false, false_and, and_false, false_implies, true_implies, reduceIte, mmU_rd, implies_true, or_false, false_or, or_true, true_or]
      have h' : PSr (mmU I 11 0 11 (I 11 0 9)) T s p := PSr_ext h (fun _ => rfl) (fun k hk => by unfold mmU; rw [if_neg (by omega)]) (fun _ => rfl)
      refine mT_use (m_token h') (fun v I' q => ?_)
      obtain ⟨rfl, q1, q2, q3, q4⟩ := q
      simp only [mmK_cut cd_155, q_cons, q_G0, q_GS, q_I1, q_L1, q_A1, q_S0, q_S1, q_SS, q_T0, q_T1, q_TS, q_Kn, q_Ki, q_Kl, q_Kr, q_k0, q_kS, q_rc, q_ps, q_pn, q_aload0, q_getfieldI, q_iconst, q_icmp_eq, q_invV, q_ireturn1, q_iload1, q_iload2, q_invS, q_if_ne, q_putfieldI, mmKo_11, mmR32, mmR64, Option.some.injEq, Int.cast_ofNat_Int, and_true, true_and, if_true, if_false, List.length_cons, List.length_nil, Nat.le_refl, Nat.zero_le, Nat.sub_zero, forall_const, reduceCtorEq, Nat.reduceAdd, Nat.reduceSub, Nat.reduceLeDiff, Nat.reduceEqDiff, Int.reduceAdd, Int.reduceNeg, Int.reduceSub, Int.reduceLT, Int.reduceLE, Int.reduceMul, Int.reduceEq, List.drop_zero, List.drop_succ_cons, ne_eq, not_false_eq_true, not_true_eq_false, false_and, and_false, false_implies, true_implies, reduceIte, mmU_rd, implies_true, or_false, false_or, or_true, true_or]
      refine mT_in (Or.inr ⟨?_, c2, c5.1, c5.2, rfl, Fr7_trans (Fr7_U (by omega)) q1, q2.trans c6, q3.trans rfl, q4⟩)
      unfold nmF; rw [if_neg (fun q => q c2), if_pos c5]
    · refine mT_use m_wrong (fun v I' q => ?_)
      obtain ⟨rfl, q⟩ := q
      simp only [mmK_cut cd_155, q_cons, q_G0, q_GS, q_I1, q_L1, q_A1, q_S0, q_S1, q_SS, q_T0, q_T1, q_TS, q_Kn, q_Ki, q_Kl, q_Kr, q_k0, q_kS, q_rc, q_ps, q_pn, q_aload0, q_getfieldI, q_iconst, q_icmp_eq, q_invV, q_ireturn1, q_iload1, q_iload2, q_invS, q_if_ne, q_putfieldI, mmKo_11, mmR32, mmR64, Option.some.injEq, Int.cast_ofNat_Int, and_true, true_and, if_true, if_false, List.length_cons, List.length_nil, Nat.le_refl, Nat.zero_le, Nat.sub_zero, forall_const, reduceCtorEq, Nat.reduceAdd, Nat.reduceSub, Nat.reduceLeDiff, Nat.reduceEqDiff, Int.reduceAdd, Int.reduceNeg, Int.reduceSub, Int.reduceLT, Int.reduceLE, Int.reduceMul, Int.reduceEq, List.drop_zero, List.drop_succ_cons, ne_eq, not_false_eq_true, not_true_eq_false, false_and, and_false, false_implies, true_implies, reduceIte, mmU_rd, implies_true, or_false, false_or, or_true, true_or]
      rw [hat] at q
      refine mT_in (Or.inl ⟨_, ?_, rfl, q⟩)
      unfold nmF; rw [if_neg (fun q => q c2), if_neg (fun q => c4 (c3.1.mpr q))]
  · refine mT_use m_wrong (fun v I' q => ?_)
    obtain ⟨rfl, q⟩ := q
    simp only [mmK_cut cd_155, q_cons, q_G0, q_GS, q_I1, q_L1, q_A1, q_S0, q_S1, q_SS, q_T0, q_T1, q_TS, q_Kn, q_Ki, q_Kl, q_Kr, q_k0, q_kS, q_rc, q_ps, q_pn, q_aload0, q_getfieldI, q_iconst, q_icmp_eq, q_invV, q_ireturn1, q_iload1, q_iload2, q_invS, q_if_ne, q_putfieldI, mmKo_11, mmR32, mmR64, Option.some.injEq, Int.cast_ofNat_Int, and_true, true_and, if_true, if_false, List.length_cons, List.length_nil, Nat.le_refl, Nat.zero_le, Nat.sub_zero, forall_const, reduceCtorEq, Nat.reduceAdd, Nat.reduceSub, Nat.reduceLeDiff, Nat.reduceEqDiff, Int.reduceAdd, Int.reduceNeg, Int.reduceSub, Int.reduceLT, Int.reduceLE, Int.reduceMul, Int.reduceEq, List.drop_zero, List.drop_succ_cons, ne_eq, not_false_eq_true, not_true_eq_false, false_and, and_false, false_implies, true_implies, reduceIte, mmU_rd, implies_true, or_false, false_or, or_true, true_or]
    rw [hat] at q
    refine mT_in (Or.inl ⟨_, ?_, rfl, q⟩)
    unfold nmF; rw [if_pos (fun q => c ((TR_num hR).mpr q))]
end S59
