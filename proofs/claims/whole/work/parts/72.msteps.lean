def KDt (kd : Int) (t : Nat) (k : Int) : Prop := (t = 11 ∧ ((7 ≤ k ∧ k ≤ 11) ∨ k = 47)) ∨ (1235 ≤ t ∧ t ≤ 1238 ∧ k = 4 + kd) ∨ (1239 ≤ t ∧ t ≤ 1240 ∧ 32 + kd * 8 ≤ k ∧ k < 40 + kd * 8)
def FrK (kd : Int) (I I' : mMm) : Prop := (∀ t i k, ¬ KDt kd t k → I' t i k = I t i k) ∧ (BL I → BL I')
def RrK (kd : Int) (r r' : mRu) : Prop := ∀ t x, ¬ ((708 ≤ t ∧ t ≤ 711 ∧ x = kd) ∨ (712 ≤ t ∧ t ≤ 713 ∧ kd * 8 ≤ x ∧ x < kd * 8 + 8)) → r' t x = r t x
/-- a kind that is being read -/
def KP (r : mRu) (G : mGv) (k : Int) : Prop :=
  G 8 k = r 708 k ∧ G 9 k = r 709 k ∧ G 11 k = r 711 k ∧ (r 709 k = 0 ∨ r 709 k = 1) ∧ (0 ≤ r 711 k ∧ r 711 k ≤ 8) ∧
  ∀ x, 0 ≤ x → x < r 711 k → G 12 (k * 8 + x) = r 712 (k * 8 + x) ∧ G 13 (k * 8 + x) = r 713 (k * 8 + x) ∧ (-4 ≤ r 712 (k * 8 + x) ∧ r 712 (k * 8 + x) ≤ 4) ∧ (-4 ≤ r 713 (k * 8 + x) ∧ r 713 (k * 8 + x) ≤ 4) ∧ ¬ (r 712 (k * 8 + x) = 0 ∧ r 713 (k * 8 + x) = 0)
def sdF (T : Int → Int) (s k n p : Int) (r : mRu) : mPR (Int × mRu) := if 8 ≤ n then .inl (2, skE T s p) else pB (ofF T s p) fun x => pB (ofF T s x.2.2) fun y => if x.1 = 0 ∧ y.1 = 0 then .inl (5, skE T s y.2.1) else .inr (y.2.2, ads r k x.1 y.1)
theorem stF_d {T : Int → Int} {s k n p : Int} {f : Nat} {r : mRu} : stF T s k (f + 1) n p r = if n = 0 ∨ tkS T s p = 2 ∨ (tkS T s p = 3 ∧ tkV T s p = 45) then pB (sdF T s k n p r) fun z => stF T s k f (n + 1) z.1 z.2 else .inr (p, r) := by
  rw [stF_s]
  unfold sdF
  split
  · split
    · rfl
    · cases ofF T s p with
      | inl e => rfl
      | inr x =>
        rw [pB_r, pB_r]
        cases ofF T s x.2.2 with
        | inl e => rfl
        | inr y =>
          rw [pB_r, pB_r]
          split <;> rfl
  · rfl
section S72
variable {d a : Nat} {I I' I'' : mMm} {br : Nat → Option mmO} {X : mmX} {T : Int → Int} {s p o k : Int} {r r' r'' : mRu} {S : Int → Prop}
theorem FrK_trans (h : FrK k I I') (h' : FrK k I' I'') : FrK k I I'' := ⟨fun t i x c => (h'.1 t i x c).trans (h.1 t i x c), fun b => h'.2 (h.2 b)⟩
theorem FrK_refl : FrK k I I := ⟨fun t i x c => rfl, id⟩
theorem RrK_trans (h : RrK k r r') (h' : RrK k r' r'') : RrK k r r'' := fun t x c => (h' t x c).trans (h t x c)
theorem FrK_7 (h : Fr7 I I') : FrK k I I' := ⟨fun t i x c => h t i x (fun q => c (Or.inl q)), BL_7 h⟩
theorem FrK_U {t i : Nat} {x v : Int} (h : KDt k t x) (hv : (t = 1236 ∨ t = 1237) → (v = 0 ∨ v = 1) := by intros; omega) : FrK k I (mmU I t i x v) := by
  refine ⟨?_, BL_Uc hv⟩
  intro t' i' k' c
  unfold mmU
  rw [if_neg]
  rintro ⟨rfl, rfl, rfl⟩
  exact c h
theorem RrK_U {t : Nat} {x v : Int} (h : (708 ≤ t ∧ t ≤ 711 ∧ x = k) ∨ (712 ≤ t ∧ t ≤ 713 ∧ k * 8 ≤ x ∧ x < k * 8 + 8)) : RrK k r (ru r t x v) := by
  intro t' x' c
  unfold ru
  rw [if_neg]
  rintro ⟨rfl, rfl⟩
  exact c h
theorem FrM_K (hk : 0 ≤ k) (h : FrK k I I') : FrM I I' := ⟨fun t i x c => h.1 t i x (fun q => c (by unfold KDt at q; unfold Mt; omega)), h.2⟩
theorem M2_kd (h : M2 I r o) (hF : FrK (r 6 2) I I') (hr : RrK (r 6 2) r r') : M2 I' r' o := by
  obtain ⟨g1, g2, g3, ⟨g4, g5, g6⟩, g7, g8, g9⟩ := h
  have hF := hF.1
  have e11 : ∀ k : Int, ¬ ((7 ≤ k ∧ k ≤ 11) ∨ k = 47) → I' 11 0 k = I 11 0 k := fun k hk => hF _ _ _ (by unfold KDt; omega)
  have r6 : ∀ x, r' 6 x = r 6 x := fun x => hr 6 x (by omega)
  have hk := g9.2.2.1
  refine ⟨(e11 4 (by omega)).trans g1, (e11 5 (by omega)).trans g2, ?_, ⟨?_, fun k h0 h1 => ?_, ?_⟩, ?_, ?_, ?_⟩
  · obtain ⟨t0, t1, t2, t3, t4, t5⟩ := g3
    exact ⟨t0, (e11 30 (by omega)).trans t1, (e11 31 (by omega)).trans t2, (e11 32 (by omega)).trans t3, (e11 33 (by omega)).trans t4, (e11 34 (by omega)).trans t5⟩
  · obtain ⟨t0, t1, t2, t3, t4, t5, t6, t7⟩ := g4
    rw [r6, r6, r6, r6, r6, r6, r6, r6]
    exact ⟨(e11 22 (by omega)).trans t0, (e11 23 (by omega)).trans t1, (e11 24 (by omega)).trans t2, (e11 25 (by omega)).trans t3, (e11 27 (by omega)).trans t4, (e11 28 (by omega)).trans t5, (e11 29 (by omega)).trans t6, (e11 34 (by omega)).trans t7⟩
  · rw [r6] at h1
    obtain ⟨k1, k2, k3, k4, k5, k6, k7, k8⟩ := g5 k h0 h1
    have e708 : r' 708 k = r 708 k := hr _ _ (by omega)
    have e709 : r' 709 k = r 709 k := hr _ _ (by omega)
    have e710 : r' 710 k = r 710 k := hr _ _ (by omega)
    have e711 : r' 711 k = r 711 k := hr _ _ (by omega)
    unfold KE
    rw [e708, e709, e710, e711]
    refine ⟨(hF 1235 0 (4 + k) (by unfold KDt; omega)).trans k1, (hF 1236 0 (4 + k) (by unfold KDt; omega)).trans k2, (hF 1237 0 (4 + k) (by unfold KDt; omega)).trans k3, (hF 1238 0 (4 + k) (by unfold KDt; omega)).trans k4, k5, k6, k7, fun x x0 x1 => ?_⟩
    have e712 : r' 712 (k * 8 + x) = r 712 (k * 8 + x) := hr _ _ (by omega)
    have e713 : r' 713 (k * 8 + x) = r 713 (k * 8 + x) := hr _ _ (by omega)
    rw [e712, e713]
    obtain ⟨k9, k10, k11⟩ := k8 x x0 x1
    exact ⟨(hF 1239 0 (32 + (k * 8 + x)) (by unfold KDt; omega)).trans k9, (hF 1240 0 (32 + (k * 8 + x)) (by unfold KDt; omega)).trans k10, k11⟩
  · obtain ⟨s1, s2, s3, s4⟩ := g6
    have e20 : ∀ i, Gr I' 20 i = Gr I 20 i := fun i => hF 1241 0 (8 + i) (by unfold KDt; omega)
    have e21 : ∀ i, Gr I' 21 i = Gr I 21 i := fun i => hF 1242 0 (8 + i) (by unfold KDt; omega)
    have e22 : ∀ i, Gr I' 22 i = Gr I 22 i := fun i => hF 1243 0 (8 + i) (by unfold KDt; omega)
    have e714 : ∀ x, r' 714 x = r 714 x := fun x => hr _ _ (by omega)
    have e715 : ∀ x, r' 715 x = r 715 x := fun x => hr _ _ (by omega)
    unfold SE
    simp only [e20, e21, e22, e714, e715, r6]
    refine ⟨s1, s2, s3, fun w hw => ⟨(s4 w hw).1, (s4 w hw).2.trans ?_⟩⟩
    constructor
    · rintro ⟨i, i0, i1, i2, i3⟩
      have := s1 i i0 i1
      refine ⟨i, i0, i1, i2, ?_⟩
      rw [hr 710 _ (by omega)]
      exact i3
    · rintro ⟨i, i0, i1, i2, i3⟩
      have := s1 i i0 i1
      refine ⟨i, i0, i1, i2, ?_⟩
      rw [hr 710 _ (by omega)] at i3
      exact i3
  · have e30 : Gr I' 30 = Gr I 30 := funext fun k => hF 1244 0 (64 + k) (by unfold KDt; omega)
    have e31 : Gr I' 31 = Gr I 31 := funext fun k => hF 1245 0 (64 + k) (by unfold KDt; omega)
    have e32 : Gr I' 32 = Gr I 32 := funext fun k => hF 1246 0 (64 + k) (by unfold KDt; omega)
    have e16 : Gr I' 16 0 = Gr I 16 0 := e11 26 (by omega)
    have e17 : Gr I' 17 0 = Gr I 17 0 := e11 31 (by omega)
    have f1 : r' 1 = r 1 := funext fun x => hr _ _ (by omega)
    have f2 : r' 200 = r 200 := funext fun x => hr _ _ (by omega)
    unfold RLw at g7 ⊢
    rw [e30, e31, e32, e16, e17, f1, f2]
    exact g7
  · rw [e11 31 (by omega), e11 53 (by omega)]
    exact g8
  · unfold RW at g9 ⊢
    simp only [r6]
    exact g9
theorem m_placed (h : PSr I T s p) : mmC (d + 4) 162 [mo 11 0, mv 4] (I, mmRf a br, X) (mT a br X fun v I' => (∃ e, ofF T s p = .inl e ∧ v = some (mv 0) ∧ MF I e I') ∨ (∃ x q, ofF T s p = .inr (x, q, tkN T s q) ∧ (-4 ≤ x ∧ x ≤ 4) ∧ v = some (mv 1) ∧ Fr7 I I' ∧ PSr I' T s (tkN T s q) ∧ I' 11 0 11 = x ∧ I' 11 0 47 = skE T s q)) := by
  have w8 : ∀ (I1 : mMm) (b : Int), Fr7 I I1 → PSr I1 T s (ngQ T s p) → (b = 0 ↔ ¬ (tkS T s p = 3 ∧ tkV T s p = 45)) → mmK (d + 3) 162 (mT a br X fun v I' => (∃ e, ofF T s p = .inl e ∧ v = some (mv 0) ∧ MF I e I') ∨ (∃ x q, ofF T s p = .inr (x, q, tkN T s q) ∧ (-4 ≤ x ∧ x ≤ 4) ∧ v = some (mv 1) ∧ Fr7 I I' ∧ PSr I' T s (tkN T s q) ∧ I' 11 0 11 = x ∧ I' 11 0 47 = skE T s q)) 8 [some (mo 11 0), some (mv 4), some (mv b)] [] (I1, mmRf a br, X) := by
    intro I1 b q1 q2 hb
    refine mmC_step ?_
    simp only [cd_162, sg_162_0, sg_162_8, sg_162_19, sg_162_26, sg_162_28, mmK_cut cd_162, q_cons, q_G0, q_GS, q_I1, q_L1, q_A1, q_S0, q_S1, q_SS, q_T0, q_T1, q_TS, q_Kn, q_Ki, q_Kl, q_Kr, q_k0, q_kS, q_rc, q_ps, q_pn, q_aload0, q_bipush, q_invV, q_istore2, q_iload2, q_if_eq, q_getfieldI, q_putfieldI, q_iconst, q_iload1, q_if_ne, q_ireturn1, q_ineg, q_goto, mmKo_11, mmR32, mmR64, Option.some.injEq, Int.cast_ofNat_Int, and_true, true_and, if_true, if_false, List.length_cons, List.length_nil, Nat.le_refl, Nat.zero_le, Nat.sub_zero, forall_const, reduceCtorEq, Nat.reduceAdd, Nat.reduceSub, Nat.reduceLeDiff, Nat.reduceEqDiff, Int.reduceAdd, Int.reduceNeg, Int.reduceSub, Int.reduceLT, Int.reduceLE, Int.reduceMul, Int.reduceEq, List.drop_zero, List.drop_succ_cons, ne_eq, not_false_eq_true, not_true_eq_false, false_and, and_false, false_implies, true_implies, reduceIte, mmU_rd, implies_true, or_false, false_or, or_true, true_or]
    rw [q2.2.2.2.1]
    refine mT_use (m_num (lo := 0) (hi := 4) (PSr_U (k := 47) (v := skE T s (ngQ T s p)) q2 (by omega)) (by omega)) (fun v I2 q => ?_)
    rcases q with ⟨e, hn, rfl, q⟩ | ⟨hn, c3, c4, c5, rfl, q2', q3, q4, h2⟩
    · simp only [mmK_cut cd_162, q_cons, q_G0, q_GS, q_I1, q_L1, q_A1, q_S0, q_S1, q_SS, q_T0, q_T1, q_TS, q_Kn, q_Ki, q_Kl, q_Kr, q_k0, q_kS, q_rc, q_ps, q_pn, q_aload0, q_bipush, q_invV, q_istore2, q_iload2, q_if_eq, q_getfieldI, q_putfieldI, q_iconst, q_iload1, q_if_ne, q_ireturn1, q_ineg, q_goto, mmKo_11, mmR32, mmR64, Option.some.injEq, Int.cast_ofNat_Int, and_true, true_and, if_true, if_false, List.length_cons, List.length_nil, Nat.le_refl, Nat.zero_le, Nat.sub_zero, forall_const, reduceCtorEq, Nat.reduceAdd, Nat.reduceSub, Nat.reduceLeDiff, Nat.reduceEqDiff, Int.reduceAdd, Int.reduceNeg, Int.reduceSub, Int.reduceLT, Int.reduceLE, Int.reduceMul, Int.reduceEq, List.drop_zero, List.drop_succ_cons, ne_eq, not_false_eq_true, not_true_eq_false, false_and, and_false, false_implies, true_implies, reduceIte, mmU_rd, implies_true, or_false, false_or, or_true, true_or]
      refine mT_in (Or.inl ⟨e, ?_, rfl, MF_trans (FrM_7 (Fr7_trans q1 (Fr7_U (by omega)))) q⟩)
      unfold ofF; rw [hn, pB_l]
    · have q4 : I2 11 0 47 = skE T s (ngQ T s p) := q4
      have fr := Fr7_trans (Fr7_trans q1 (Fr7_U (by omega))) q2'
      have fin : ∀ x, x = ngV T s p (tkV T s (ngQ T s p)) → mmK (d + 3) 162 (mT a br X fun v I' => (∃ e, ofF T s p = .inl e ∧ v = some (mv 0) ∧ MF I e I') ∨ (∃ x q, ofF T s p = .inr (x, q, tkN T s q) ∧ (-4 ≤ x ∧ x ≤ 4) ∧ v = some (mv 1) ∧ Fr7 I I' ∧ PSr I' T s (tkN T s q) ∧ I' 11 0 11 = x ∧ I' 11 0 47 = skE T s q)) 28 [some (mo 11 0), some (mv 4), some (mv b)] [mv x, mo 11 0] (I2, mmRf a br, X) := by
        intro x hx
        refine mmC_step ?_
        simp only [cd_162, sg_162_0, sg_162_8, sg_162_19, sg_162_26, sg_162_28, mmK_cut cd_162, q_cons, q_G0, q_GS, q_I1, q_L1, q_A1, q_S0, q_S1, q_SS, q_T0, q_T1, q_TS, q_Kn, q_Ki, q_Kl, q_Kr, q_k0, q_kS, q_rc, q_ps, q_pn, q_aload0, q_bipush, q_invV, q_istore2, q_iload2, q_if_eq, q_getfieldI, q_putfieldI, q_iconst, q_iload1, q_if_ne, q_ireturn1, q_ineg, q_goto, mmKo_11, mmR32, mmR64, Option.some.injEq, Int.cast_ofNat_Int, and_true, true_and, if_true, if_false, List.length_cons, List.length_nil, Nat.le_refl, Nat.zero_le, Nat.sub_zero, forall_const, reduceCtorEq, Nat.reduceAdd, Nat.reduceSub, Nat.reduceLeDiff, Nat.reduceEqDiff, Int.reduceAdd, Int.reduceNeg, Int.reduceSub, Int.reduceLT, Int.reduceLE, Int.reduceMul, Int.reduceEq, List.drop_zero, List.drop_succ_cons, ne_eq, not_false_eq_true, not_true_eq_false, false_and, and_false, false_implies, true_implies, reduceIte, mmU_rd, implies_true, or_false, false_or, or_true, true_or]
        refine mT_in (Or.inr ⟨x, ngQ T s p, ?_, ?_, rfl, Fr7_trans fr (Fr7_U (by omega)), PSr_U h2 (by omega), rfl, q4⟩)
        · unfold ofF; rw [hn, pB_r, hx]
        · rw [hx]; unfold ngV; split <;> omega
      simp only [mmK_cut cd_162, q_cons, q_G0, q_GS, q_I1, q_L1, q_A1, q_S0, q_S1, q_SS, q_T0, q_T1, q_TS, q_Kn, q_Ki, q_Kl, q_Kr, q_k0, q_kS, q_rc, q_ps, q_pn, q_aload0, q_bipush, q_invV, q_istore2, q_iload2, q_if_eq, q_getfieldI, q_putfieldI, q_iconst, q_iload1, q_if_ne, q_ireturn1, q_ineg, q_goto, mmKo_11, mmR32, mmR64, Option.some.injEq, Int.cast_ofNat_Int, and_true, true_and, if_true, if_false, List.length_cons, List.length_nil, Nat.le_refl, Nat.zero_le, Nat.sub_zero, forall_const, reduceCtorEq, Nat.reduceAdd, Nat.reduceSub, Nat.reduceLeDiff, Nat.reduceEqDiff, Int.reduceAdd, Int.reduceNeg, Int.reduceSub, Int.reduceLT, Int.reduceLE, Int.reduceMul, Int.reduceEq, List.drop_zero, List.drop_succ_cons, ne_eq, not_false_eq_true, not_true_eq_false, false_and, and_false, false_implies, true_implies, reduceIte, mmU_rd, implies_true, or_false, false_or, or_true, true_or]
      refine mmC_step ?_
      simp only [cd_162, sg_162_0, sg_162_8, sg_162_19, sg_162_26, sg_162_28, mmK_cut cd_162, q_cons, q_G0, q_GS, q_I1, q_L1, q_A1, q_S0, q_S1, q_SS, q_T0, q_T1, q_TS, q_Kn, q_Ki, q_Kl, q_Kr, q_k0, q_kS, q_rc, q_ps, q_pn, q_aload0, q_bipush, q_invV, q_istore2, q_iload2, q_if_eq, q_getfieldI, q_putfieldI, q_iconst, q_iload1, q_if_ne, q_ireturn1, q_ineg, q_goto, mmKo_11, mmR32, mmR64, Option.some.injEq, Int.cast_ofNat_Int, and_true, true_and, if_true, if_false, List.length_cons, List.length_nil, Nat.le_refl, Nat.zero_le, Nat.sub_zero, forall_const, reduceCtorEq, Nat.reduceAdd, Nat.reduceSub, Nat.reduceLeDiff, Nat.reduceEqDiff, Int.reduceAdd, Int.reduceNeg, Int.reduceSub, Int.reduceLT, Int.reduceLE, Int.reduceMul, Int.reduceEq, List.drop_zero, List.drop_succ_cons, ne_eq, not_false_eq_true, not_true_eq_false, false_and, and_false, false_implies, true_implies, reduceIte, mmU_rd, implies_true, or_false, false_or, or_true, true_or]
      rw [q3]
      refine ⟨fun c => ?_, fun c => ⟨by omega, ?_⟩⟩
      · refine mmC_step ?_
        simp only [cd_162, sg_162_0, sg_162_8, sg_162_19, sg_162_26, sg_162_28, mmK_cut cd_162, q_cons, q_G0, q_GS, q_I1, q_L1, q_A1, q_S0, q_S1, q_SS, q_T0, q_T1, q_TS, q_Kn, q_Ki, q_Kl, q_Kr, q_k0, q_kS, q_rc, q_ps, q_pn, q_aload0, q_bipush, q_invV, q_istore2, q_iload2, q_if_eq, q_getfieldI, q_putfieldI, q_iconst, q_iload1, q_if_ne, q_ireturn1, q_ineg, q_goto, mmKo_11, mmR32, mmR64, Option.some.injEq, Int.cast_ofNat_Int, and_true, true_and, if_true, if_false, List.length_cons, List.length_nil, Nat.le_refl, Nat.zero_le, Nat.sub_zero, forall_const, reduceCtorEq, Nat.reduceAdd, Nat.reduceSub, Nat.reduceLeDiff, Nat.reduceEqDiff, Int.reduceAdd, Int.reduceNeg, Int.reduceSub, Int.reduceLT, Int.reduceLE, Int.reduceMul, Int.reduceEq, List.drop_zero, List.drop_succ_cons, ne_eq, not_false_eq_true, not_true_eq_false, false_and, and_false, false_implies, true_implies, reduceIte, mmU_rd, implies_true, or_false, false_or, or_true, true_or]
        rw [q3]
        exact fin _ (by unfold ngV; rw [if_neg (hb.mp c)])
      · exact fin _ (by unfold ngV; rw [if_pos (Classical.not_not.mp (fun q => c (hb.mpr q)))])
  refine mmC_in (by decide) (Nat.le_of_ble_eq_true rfl) (mmC_step ?_)
  simp only [show mmMl 162 = 3 from rfl, mmLs, List.replicate, cd_162, sg_162_0, sg_162_8, sg_162_19, sg_162_26, sg_162_28, mmK_cut cd_162, q_cons, q_G0, q_GS, q_I1, q_L1, q_A1, q_S0, q_S1, q_SS, q_T0, q_T1, q_TS, q_Kn, q_Ki, q_Kl, q_Kr, q_k0, q_kS, q_rc, q_ps, q_pn, q_aload0, q_bipush, q_invV, q_istore2, q_iload2, q_if_eq, q_getfieldI, q_putfieldI, q_iconst, q_iload1, q_if_ne, q_ireturn1, q_ineg, q_goto, mmKo_11, mmR32, mmR64, Option.some.injEq, Int.cast_ofNat_Int, and_true, true_and, if_true, if_false, List.length_cons, List.length_nil, Nat.le_refl, Nat.zero_le, Nat.sub_zero, forall_const, reduceCtorEq, Nat.reduceAdd, Nat.reduceSub, Nat.reduceLeDiff, Nat.reduceEqDiff, Int.reduceAdd, Int.reduceNeg, Int.reduceSub, Int.reduceLT, Int.reduceLE, Int.reduceMul, Int.reduceEq, List.drop_zero, List.drop_succ_cons, ne_eq, not_false_eq_true, not_true_eq_false, false_and, and_false, false_implies, true_implies, reduceIte, mmU_rd, implies_true, or_false, false_or, or_true, true_or]
  refine sq_isSign ?_
  rw [show (I 11 0 8 = 4 ∧ I 11 0 9 = 45) = (tkS T s p = 3 ∧ tkV T s p = 45) from propext (TR_sign h.2.2.2.2.1 (by omega))]
  simp only [mmK_cut cd_162, q_cons, q_G0, q_GS, q_I1, q_L1, q_A1, q_S0, q_S1, q_SS, q_T0, q_T1, q_TS, q_Kn, q_Ki, q_Kl, q_Kr, q_k0, q_kS, q_rc, q_ps, q_pn, q_aload0, q_bipush, q_invV, q_istore2, q_iload2, q_if_eq, q_getfieldI, q_putfieldI, q_iconst, q_iload1, q_if_ne, q_ireturn1, q_ineg, q_goto, mmKo_11, mmR32, mmR64, Option.some.injEq, Int.cast_ofNat_Int, and_true, true_and, if_true, if_false, List.length_cons, List.length_nil, Nat.le_refl, Nat.zero_le, Nat.sub_zero, forall_const, reduceCtorEq, Nat.reduceAdd, Nat.reduceSub, Nat.reduceLeDiff, Nat.reduceEqDiff, Int.reduceAdd, Int.reduceNeg, Int.reduceSub, Int.reduceLT, Int.reduceLE, Int.reduceMul, Int.reduceEq, List.drop_zero, List.drop_succ_cons, ne_eq, not_false_eq_true, not_true_eq_false, false_and, and_false, false_implies, true_implies, reduceIte, mmU_rd, implies_true, or_false, false_or, or_true, true_or, bI_eq0]
  refine ⟨fun c => ?_, fun c => ?_⟩
  · refine w8 I _ Fr7_refl ?_ bI_eq0
    unfold ngQ; rw [if_neg c]; exact h
  · refine mT_use (m_token h) (fun v I1 q => ?_)
    obtain ⟨rfl, q1, -, -, q2⟩ := q
    simp only [mmK_cut cd_162, q_cons, q_G0, q_GS, q_I1, q_L1, q_A1, q_S0, q_S1, q_SS, q_T0, q_T1, q_TS, q_Kn, q_Ki, q_Kl, q_Kr, q_k0, q_kS, q_rc, q_ps, q_pn, q_aload0, q_bipush, q_invV, q_istore2, q_iload2, q_if_eq, q_getfieldI, q_putfieldI, q_iconst, q_iload1, q_if_ne, q_ireturn1, q_ineg, q_goto, mmKo_11, mmR32, mmR64, Option.some.injEq, Int.cast_ofNat_Int, and_true, true_and, if_true, if_false, List.length_cons, List.length_nil, Nat.le_refl, Nat.zero_le, Nat.sub_zero, forall_const, reduceCtorEq, Nat.reduceAdd, Nat.reduceSub, Nat.reduceLeDiff, Nat.reduceEqDiff, Int.reduceAdd, Int.reduceNeg, Int.reduceSub, Int.reduceLT, Int.reduceLE, Int.reduceMul, Int.reduceEq, List.drop_zero, List.drop_succ_cons, ne_eq, not_false_eq_true, not_true_eq_false, false_and, and_false, false_implies, true_implies, reduceIte, mmU_rd, implies_true, or_false, false_or, or_true, true_or]
    refine w8 I1 _ q1 ?_ bI_eq0
    unfold ngQ; rw [if_pos (Classical.not_not.mp c)]; exact q2
set_option maxHeartbeats 1000000 in
theorem m_step (hk : k = r 6 2 ∧ 0 ≤ k ∧ k < 4) (h : PSr I T s p) (hM : M2 I r o) (hP : KP r (Gr I) k) : mmC (d + 5) 163 [mo 11 0, mv (4 + k)] (I, mmRf a br, X) (mT a br X fun v I' => (∃ e, sdF T s k (r 711 k) p r = .inl e ∧ v = some (mv 0) ∧ MF I e I') ∨ (∃ p' r', sdF T s k (r 711 k) p r = .inr (p', r') ∧ v = some (mv 1) ∧ FrK k I I' ∧ PSr I' T s p' ∧ M2 I' r' o ∧ KP r' (Gr I') k ∧ RrK k r r' ∧ r' 711 k = r 711 k + 1 ∧ (BL I → BL I'))) := by
  obtain ⟨hk1, hk2, hk3⟩ := hk
  obtain ⟨p1, p2, p3, p4, p5, p6⟩ := id hP
  have e38 : I 1238 0 (4 + k) = r 711 k := p3
  generalize hZ : sdF T s k (r 711 k) p r = Z
  unfold sdF at hZ
  refine mmC_in (by decide) (Nat.le_of_ble_eq_true rfl) (mmC_step ?_)
  simp only [show mmMl 163 = 3 from rfl, mmLs, List.replicate, cd_163, sg_163_0, sg_163_10, sg_163_25, sg_163_37, sg_163_59, mmK_cut cd_163, q_cons, q_G0, q_GS, q_I1, q_L1, q_A1, q_S0, q_S1, q_SS, q_T0, q_T1, q_TS, q_Kn, q_Ki, q_Kl, q_Kr, q_k0, q_kS, q_rc, q_ps, q_pn, q_aload0, q_getfieldA, q_iload1, q_iaload, q_bipush, q_icmp_ne, q_iconst, q_invV, q_ireturn1, q_imul, q_iadd, q_istore2, q_if_ne, q_iload2, q_getfieldI, q_iastore, q_putfieldI, q_dup2, rf_11_38, rf_11_39, rf_11_40, mmKe_1238, mmKe_1239, mmKe_1240, mmKo_11, mmLen_1238, mmLen_1239, mmLen_1240, mmR32, mmR64, Option.some.injEq, Int.cast_ofNat_Int, and_true, true_and, if_true, if_false, List.length_cons, List.length_nil, Nat.le_refl, Nat.zero_le, Nat.sub_zero, forall_const, reduceCtorEq, Nat.reduceAdd, Nat.reduceSub, Nat.reduceLeDiff, Nat.reduceEqDiff, Int.reduceAdd, Int.reduceNeg, Int.reduceSub, Int.reduceLT, Int.reduceLE, Int.reduceMul, Int.reduceEq, List.drop_zero, List.drop_succ_cons, ne_eq, not_false_eq_true, not_true_eq_false, false_and, and_false, false_implies, true_implies, reduceIte, mmU_rd, implies_true, or_false, false_or, or_true, true_or]
  rw [e38]
  refine ⟨by omega, by omega, fun c => ?_, fun c => ?_⟩
  · rw [if_neg (by omega)] at hZ
    refine mmC_step ?_
    simp only [cd_163, sg_163_0, sg_163_10, sg_163_25, sg_163_37, sg_163_59, mmK_cut cd_163, q_cons, q_G0, q_GS, q_I1, q_L1, q_A1, q_S0, q_S1, q_SS, q_T0, q_T1, q_TS, q_Kn, q_Ki, q_Kl, q_Kr, q_k0, q_kS, q_rc, q_ps, q_pn, q_aload0, q_getfieldA, q_iload1, q_iaload, q_bipush, q_icmp_ne, q_iconst, q_invV, q_ireturn1, q_imul, q_iadd, q_istore2, q_if_ne, q_iload2, q_getfieldI, q_iastore, q_putfieldI, q_dup2, rf_11_38, rf_11_39, rf_11_40, mmKe_1238, mmKe_1239, mmKe_1240, mmKo_11, mmLen_1238, mmLen_1239, mmLen_1240, mmR32, mmR64, Option.some.injEq, Int.cast_ofNat_Int, and_true, true_and, if_true, if_false, List.length_cons, List.length_nil, Nat.le_refl, Nat.zero_le, Nat.sub_zero, forall_const, reduceCtorEq, Nat.reduceAdd, Nat.reduceSub, Nat.reduceLeDiff, Nat.reduceEqDiff, Int.reduceAdd, Int.reduceNeg, Int.reduceSub, Int.reduceLT, Int.reduceLE, Int.reduceMul, Int.reduceEq, List.drop_zero, List.drop_succ_cons, ne_eq, not_false_eq_true, not_true_eq_false, false_and, and_false, false_implies, true_implies, reduceIte, mmU_rd, implies_true, or_false, false_or, or_true, true_or]
    rw [e38]
    refine ⟨by omega, by omega, by omega, by omega, ?_⟩
    refine mT_use (m_placed h) (fun v I1 q => ?_)
    rcases q with ⟨e, hn, rfl, q⟩ | ⟨x, q', hn, hx, rfl, q1, h1, x11, x47⟩
    · rw [hn, pB_l] at hZ
      simp only [mmK_cut cd_163, q_cons, q_G0, q_GS, q_I1, q_L1, q_A1, q_S0, q_S1, q_SS, q_T0, q_T1, q_TS, q_Kn, q_Ki, q_Kl, q_Kr, q_k0, q_kS, q_rc, q_ps, q_pn, q_aload0, q_getfieldA, q_iload1, q_iaload, q_bipush, q_icmp_ne, q_iconst, q_invV, q_ireturn1, q_imul, q_iadd, q_istore2, q_if_ne, q_iload2, q_getfieldI, q_iastore, q_putfieldI, q_dup2, rf_11_38, rf_11_39, rf_11_40, mmKe_1238, mmKe_1239, mmKe_1240, mmKo_11, mmLen_1238, mmLen_1239, mmLen_1240, mmR32, mmR64, Option.some.injEq, Int.cast_ofNat_Int, and_true, true_and, if_true, if_false, List.length_cons, List.length_nil, Nat.le_refl, Nat.zero_le, Nat.sub_zero, forall_const, reduceCtorEq, Nat.reduceAdd, Nat.reduceSub, Nat.reduceLeDiff, Nat.reduceEqDiff, Int.reduceAdd, Int.reduceNeg, Int.reduceSub, Int.reduceLT, Int.reduceLE, Int.reduceMul, Int.reduceEq, List.drop_zero, List.drop_succ_cons, ne_eq, not_false_eq_true, not_true_eq_false, false_and, and_false, false_implies, true_implies, reduceIte, mmU_rd, implies_true, or_false, false_or, or_true, true_or]
      exact mT_in (Or.inl ⟨e, hZ.symm, rfl, q⟩)
    rw [hn, pB_r] at hZ
    simp only [mmK_cut cd_163, q_cons, q_G0, q_GS, q_I1, q_L1, q_A1, q_S0, q_S1, q_SS, q_T0, q_T1, q_TS, q_Kn, q_Ki, q_Kl, q_Kr, q_k0, q_kS, q_rc, q_ps, q_pn, q_aload0, q_getfieldA, q_iload1, q_iaload, q_bipush, q_icmp_ne, q_iconst, q_invV, q_ireturn1, q_imul, q_iadd, q_istore2, q_if_ne, q_iload2, q_getfieldI, q_iastore, q_putfieldI, q_dup2, rf_11_38, rf_11_39, rf_11_40, mmKe_1238, mmKe_1239, mmKe_1240, mmKo_11, mmLen_1238, mmLen_1239, mmLen_1240, mmR32, mmR64, Option.some.injEq, Int.cast_ofNat_Int, and_true, true_and, if_true, if_false, List.length_cons, List.length_nil, Nat.le_refl, Nat.zero_le, Nat.sub_zero, forall_const, reduceCtorEq, Nat.reduceAdd, Nat.reduceSub, Nat.reduceLeDiff, Nat.reduceEqDiff, Int.reduceAdd, Int.reduceNeg, Int.reduceSub, Int.reduceLT, Int.reduceLE, Int.reduceMul, Int.reduceEq, List.drop_zero, List.drop_succ_cons, ne_eq, not_false_eq_true, not_true_eq_false, false_and, and_false, false_implies, true_implies, reduceIte, mmU_rd, implies_true, or_false, false_or, or_true, true_or]
    refine mmC_step ?_
    simp only [cd_163, sg_163_0, sg_163_10, sg_163_25, sg_163_37, sg_163_59, mmK_cut cd_163, q_cons, q_G0, q_GS, q_I1, q_L1, q_A1, q_S0, q_S1, q_SS, q_T0, q_T1, q_TS, q_Kn, q_Ki, q_Kl, q_Kr, q_k0, q_kS, q_rc, q_ps, q_pn, q_aload0, q_getfieldA, q_iload1, q_iaload, q_bipush, q_icmp_ne, q_iconst, q_invV, q_ireturn1, q_imul, q_iadd, q_istore2, q_if_ne, q_iload2, q_getfieldI, q_iastore, q_putfieldI, q_dup2, rf_11_38, rf_11_39, rf_11_40, mmKe_1238, mmKe_1239, mmKe_1240, mmKo_11, mmLen_1238, mmLen_1239, mmLen_1240, mmR32, mmR64, Option.some.injEq, Int.cast_ofNat_Int, and_true, true_and, if_true, if_false, List.length_cons, List.length_nil, Nat.le_refl, Nat.zero_le, Nat.sub_zero, forall_const, reduceCtorEq, Nat.reduceAdd, Nat.reduceSub, Nat.reduceLeDiff, Nat.reduceEqDiff, Int.reduceAdd, Int.reduceNeg, Int.reduceSub, Int.reduceLT, Int.reduceLE, Int.reduceMul, Int.reduceEq, List.drop_zero, List.drop_succ_cons, ne_eq, not_false_eq_true, not_true_eq_false, false_and, and_false, false_implies, true_implies, reduceIte, mmU_rd, implies_true, or_false, false_or, or_true, true_or]
    rw [x11]
    refine ⟨by omega, by omega, ?_⟩
    have f2 : FrK k I (mmU I1 1239 0 (8 * (4 + k) + r 711 k) x) := FrK_trans (FrK_7 q1) (FrK_U (by unfold KDt; omega))
    refine mT_use (m_placed (PSr_U h1 (by omega))) (fun v I2 q => ?_)
    rcases q with ⟨e, hn, rfl, q⟩ | ⟨y, q2', hn, hy, rfl, q2, h2, y11, y47⟩
    · rw [hn, pB_l] at hZ
      simp only [mmK_cut cd_163, q_cons, q_G0, q_GS, q_I1, q_L1, q_A1, q_S0, q_S1, q_SS, q_T0, q_T1, q_TS, q_Kn, q_Ki, q_Kl, q_Kr, q_k0, q_kS, q_rc, q_ps, q_pn, q_aload0, q_getfieldA, q_iload1, q_iaload, q_bipush, q_icmp_ne, q_iconst, q_invV, q_ireturn1, q_imul, q_iadd, q_istore2, q_if_ne, q_iload2, q_getfieldI, q_iastore, q_putfieldI, q_dup2, rf_11_38, rf_11_39, rf_11_40, mmKe_1238, mmKe_1239, mmKe_1240, mmKo_11, mmLen_1238, mmLen_1239, mmLen_1240, mmR32, mmR64, Option.some.injEq, Int.cast_ofNat_Int, and_true, true_and, if_true, if_false, List.length_cons, List.length_nil, Nat.le_refl, Nat.zero_le, Nat.sub_zero, forall_const, reduceCtorEq, Nat.reduceAdd, Nat.reduceSub, Nat.reduceLeDiff, Nat.reduceEqDiff, Int.reduceAdd, Int.reduceNeg, Int.reduceSub, Int.reduceLT, Int.reduceLE, Int.reduceMul, Int.reduceEq, List.drop_zero, List.drop_succ_cons, ne_eq, not_false_eq_true, not_true_eq_false, false_and, and_false, false_implies, true_implies, reduceIte, mmU_rd, implies_true, or_false, false_or, or_true, true_or]
      exact mT_in (Or.inl ⟨e, hZ.symm, rfl, MF_trans (FrM_K hk2 f2) q⟩)
    rw [hn, pB_r] at hZ
    have f3 : FrK k I (mmU I2 1240 0 (8 * (4 + k) + r 711 k) y) := FrK_trans (FrK_trans f2 (FrK_7 q2)) (FrK_U (by unfold KDt; omega))
    have ex : I2 1239 0 (8 * (4 + k) + r 711 k) = x := by
      rw [q2 _ _ _ (by omega)]
      unfold mmU
      rw [if_pos ⟨rfl, rfl, rfl⟩]
    have w59 : ¬ (x = 0 ∧ y = 0) → mmK (d + 4) 163 (mT a br X fun v I' => (∃ e, Z = .inl e ∧ v = some (mv 0) ∧ MF I e I') ∨ (∃ p' r', Z = .inr (p', r') ∧ v = some (mv 1) ∧ FrK k I I' ∧ PSr I' T s p' ∧ M2 I' r' o ∧ KP r' (Gr I') k ∧ RrK k r r' ∧ r' 711 k = r 711 k + 1 ∧ (BL I → BL I'))) 59 [some (mo 11 0), some (mv (4 + k)), some (mv (8 * (4 + k) + r 711 k))] [] (mmU I2 1240 0 (8 * (4 + k) + r 711 k) y, mmRf a br, X) := by
      intro cz
      rw [if_neg cz] at hZ
      refine mmC_step ?_
      simp only [cd_163, sg_163_0, sg_163_10, sg_163_25, sg_163_37, sg_163_59, mmK_cut cd_163, q_cons, q_G0, q_GS, q_I1, q_L1, q_A1, q_S0, q_S1, q_SS, q_T0, q_T1, q_TS, q_Kn, q_Ki, q_Kl, q_Kr, q_k0, q_kS, q_rc, q_ps, q_pn, q_aload0, q_getfieldA, q_iload1, q_iaload, q_bipush, q_icmp_ne, q_iconst, q_invV, q_ireturn1, q_imul, q_iadd, q_istore2, q_if_ne, q_iload2, q_getfieldI, q_iastore, q_putfieldI, q_dup2, rf_11_38, rf_11_39, rf_11_40, mmKe_1238, mmKe_1239, mmKe_1240, mmKo_11, mmLen_1238, mmLen_1239, mmLen_1240, mmR32, mmR64, Option.some.injEq, Int.cast_ofNat_Int, and_true, true_and, if_true, if_false, List.length_cons, List.length_nil, Nat.le_refl, Nat.zero_le, Nat.sub_zero, forall_const, reduceCtorEq, Nat.reduceAdd, Nat.reduceSub, Nat.reduceLeDiff, Nat.reduceEqDiff, Int.reduceAdd, Int.reduceNeg, Int.reduceSub, Int.reduceLT, Int.reduceLE, Int.reduceMul, Int.reduceEq, List.drop_zero, List.drop_succ_cons, ne_eq, not_false_eq_true, not_true_eq_false, false_and, and_false, false_implies, true_implies, reduceIte, mmU_rd, implies_true, or_false, false_or, or_true, true_or]
      have e38' : I2 1238 0 (4 + k) = r 711 k := by
        rw [q2 _ _ _ (by omega)]
        show I1 1238 0 (4 + k) = _
        rw [q1 _ _ _ (by omega)]
        exact e38
      rw [e38']
      refine ⟨by omega, by omega, by omega, by omega, by omega, ?_⟩
      have f4 : FrK k I (mmU (mmU I2 1240 0 (8 * (4 + k) + r 711 k) y) 1238 0 (4 + k) (r 711 k + 1)) := FrK_trans f3 (FrK_U (by unfold KDt; omega))
      have rr : RrK k r (ads r k x y) := RrK_trans (RrK_trans (RrK_U (by omega)) (RrK_U (by omega))) (RrK_U (by omega))
      have e711 : ads r k x y 711 k = r 711 k + 1 := if_pos ⟨rfl, rfl⟩
      refine mT_in (Or.inr ⟨_, _, hZ.symm, rfl, f4, PSr_U (PSr_U h2 (by omega)) (by omega), M2_kd hM (by rw [← hk1]; exact f4) (by rw [← hk1]; exact rr), ?_, rr, e711, fun hb => BL_U (by omega) (BL_U (by omega) (BL_7 q2 (BL_U (by omega) (BL_7 q1 hb))))⟩)
      generalize hJ : mmU (mmU I2 1240 0 (8 * (4 + k) + r 711 k) y) 1238 0 (4 + k) (r 711 k + 1) = J
      have eJ : ∀ t z, ¬ t = 11 → ¬ (t = 1238 ∧ z = 4 + k) → ¬ ((t = 1239 ∨ t = 1240) ∧ z = 8 * (4 + k) + r 711 k) → J t 0 z = I t 0 z := by
        intro t z d1 d2 d3
        rw [← hJ]
        unfold mmU
        rw [if_neg (by omega), if_neg (by omega), q2 _ _ _ (by omega)]
        unfold mmU
        rw [if_neg (by omega), q1 _ _ _ (by omega)]
      have eX : J 1239 0 (8 * (4 + k) + r 711 k) = x := by rw [← hJ]; exact ex
      have eY : J 1240 0 (8 * (4 + k) + r 711 k) = y := by
        rw [← hJ]; unfold mmU; rw [if_neg (by omega), if_pos ⟨rfl, rfl, rfl⟩]
      have eN : J 1238 0 (4 + k) = r 711 k + 1 := by rw [← hJ]; exact if_pos ⟨rfl, rfl, rfl⟩
      have a1 : ∀ t z, ¬ (t = 711 ∧ z = k) → ¬ ((t = 712 ∨ t = 713) ∧ z = k * 8 + r 711 k) → ads r k x y t z = r t z := by
        intro t z d1 d2
        unfold ads ru
        rw [if_neg d1, if_neg (by omega), if_neg (by omega)]
      have a2 : ads r k x y 712 (k * 8 + r 711 k) = x := by unfold ads ru; rw [if_neg (by omega), if_neg (by omega), if_pos ⟨rfl, rfl⟩]
      have a3 : ads r k x y 713 (k * 8 + r 711 k) = y := by unfold ads ru; rw [if_neg (by omega), if_pos ⟨rfl, rfl⟩]
      refine ⟨?_, ?_, ?_, ?_, ?_, fun z z0 z1 => ?_⟩
      · rw [a1 _ _ (by omega) (by omega)]; exact (eJ 1235 (4 + k) (by omega) (by omega) (by omega)).trans p1
      · rw [a1 _ _ (by omega) (by omega)]; exact (eJ 1236 (4 + k) (by omega) (by omega) (by omega)).trans p2
      · rw [e711]; exact eN
      · rw [a1 _ _ (by omega) (by omega)]; exact p4
      · rw [e711]; omega
      · rw [e711] at z1
        by_cases cz2 : z = r 711 k
        · subst cz2
          rw [a2, a3]
          refine ⟨?_, ?_, hx, hy, cz⟩
          · show J 1239 0 (32 + (k * 8 + r 711 k)) = x
            rw [show (32 : Int) + (k * 8 + r 711 k) = 8 * (4 + k) + r 711 k by omega]; exact eX
          · show J 1240 0 (32 + (k * 8 + r 711 k)) = y
            rw [show (32 : Int) + (k * 8 + r 711 k) = 8 * (4 + k) + r 711 k by omega]; exact eY
        · rw [a1 _ _ (by omega) (by omega), a1 _ _ (by omega) (by omega)]
          have := p6 z z0 (by omega)
          refine ⟨?_, ?_, this.2.2⟩
          · exact (eJ 1239 (32 + (k * 8 + z)) (by omega) (by omega) (by omega)).trans this.1
          · exact (eJ 1240 (32 + (k * 8 + z)) (by omega) (by omega) (by omega)).trans this.2.1
    simp only [mmK_cut cd_163, q_cons, q_G0, q_GS, q_I1, q_L1, q_A1, q_S0, q_S1, q_SS, q_T0, q_T1, q_TS, q_Kn, q_Ki, q_Kl, q_Kr, q_k0, q_kS, q_rc, q_ps, q_pn, q_aload0, q_getfieldA, q_iload1, q_iaload, q_bipush, q_icmp_ne, q_iconst, q_invV, q_ireturn1, q_imul, q_iadd, q_istore2, q_if_ne, q_iload2, q_getfieldI, q_iastore, q_putfieldI, q_dup2, rf_11_38, rf_11_39, rf_11_40, mmKe_1238, mmKe_1239, mmKe_1240, mmKo_11, mmLen_1238, mmLen_1239, mmLen_1240, mmR32, mmR64, Option.some.injEq, Int.cast_ofNat_Int, and_true, true_and, if_true, if_false, List.length_cons, List.length_nil, Nat.le_refl, Nat.zero_le, Nat.sub_zero, forall_const, reduceCtorEq, Nat.reduceAdd, Nat.reduceSub, Nat.reduceLeDiff, Nat.reduceEqDiff, Int.reduceAdd, Int.reduceNeg, Int.reduceSub, Int.reduceLT, Int.reduceLE, Int.reduceMul, Int.reduceEq, List.drop_zero, List.drop_succ_cons, ne_eq, not_false_eq_true, not_true_eq_false, false_and, and_false, false_implies, true_implies, reduceIte, mmU_rd, implies_true, or_false, false_or, or_true, true_or]
    refine mmC_step ?_
    simp only [cd_163, sg_163_0, sg_163_10, sg_163_25, sg_163_37, sg_163_59, mmK_cut cd_163, q_cons, q_G0, q_GS, q_I1, q_L1, q_A1, q_S0, q_S1, q_SS, q_T0, q_T1, q_TS, q_Kn, q_Ki, q_Kl, q_Kr, q_k0, q_kS, q_rc, q_ps, q_pn, q_aload0, q_getfieldA, q_iload1, q_iaload, q_bipush, q_icmp_ne, q_iconst, q_invV, q_ireturn1, q_imul, q_iadd, q_istore2, q_if_ne, q_iload2, q_getfieldI, q_iastore, q_putfieldI, q_dup2, rf_11_38, rf_11_39, rf_11_40, mmKe_1238, mmKe_1239, mmKe_1240, mmKo_11, mmLen_1238, mmLen_1239, mmLen_1240, mmR32, mmR64, Option.some.injEq, Int.cast_ofNat_Int, and_true, true_and, if_true, if_false, List.length_cons, List.length_nil, Nat.le_refl, Nat.zero_le, Nat.sub_zero, forall_const, reduceCtorEq, Nat.reduceAdd, Nat.reduceSub, Nat.reduceLeDiff, Nat.reduceEqDiff, Int.reduceAdd, Int.reduceNeg, Int.reduceSub, Int.reduceLT, Int.reduceLE, Int.reduceMul, Int.reduceEq, List.drop_zero, List.drop_succ_cons, ne_eq, not_false_eq_true, not_true_eq_false, false_and, and_false, false_implies, true_implies, reduceIte, mmU_rd, implies_true, or_false, false_or, or_true, true_or]
    rw [ex, y11]
    refine ⟨by omega, by omega, by omega, by omega, fun c1 => w59 (fun q => c1 q.1), fun c1 => ⟨fun c2 => w59 (fun q => c2 q.2), fun c2 => ?_⟩⟩
    rw [if_pos ⟨c1, c2⟩] at hZ
    refine mT_use m_wrong (fun v I' q => ?_)
    obtain ⟨rfl, q⟩ := q
    simp only [mmK_cut cd_163, q_cons, q_G0, q_GS, q_I1, q_L1, q_A1, q_S0, q_S1, q_SS, q_T0, q_T1, q_TS, q_Kn, q_Ki, q_Kl, q_Kr, q_k0, q_kS, q_rc, q_ps, q_pn, q_aload0, q_getfieldA, q_iload1, q_iaload, q_bipush, q_icmp_ne, q_iconst, q_invV, q_ireturn1, q_imul, q_iadd, q_istore2, q_if_ne, q_iload2, q_getfieldI, q_iastore, q_putfieldI, q_dup2, rf_11_38, rf_11_39, rf_11_40, mmKe_1238, mmKe_1239, mmKe_1240, mmKo_11, mmLen_1238, mmLen_1239, mmLen_1240, mmR32, mmR64, Option.some.injEq, Int.cast_ofNat_Int, and_true, true_and, if_true, if_false, List.length_cons, List.length_nil, Nat.le_refl, Nat.zero_le, Nat.sub_zero, forall_const, reduceCtorEq, Nat.reduceAdd, Nat.reduceSub, Nat.reduceLeDiff, Nat.reduceEqDiff, Int.reduceAdd, Int.reduceNeg, Int.reduceSub, Int.reduceLT, Int.reduceLE, Int.reduceMul, Int.reduceEq, List.drop_zero, List.drop_succ_cons, ne_eq, not_false_eq_true, not_true_eq_false, false_and, and_false, false_implies, true_implies, reduceIte, mmU_rd, implies_true, or_false, false_or, or_true, true_or]
    refine mT_in (Or.inl ⟨_, hZ.symm, rfl, ?_⟩)
    have q' : MF (mmU (mmU I2 1240 0 (8 * (4 + k) + r 711 k) y) 11 0 10 (I2 11 0 47)) (5, skE T s q2') I' := by
      rw [← y47]; exact q
    exact MF_trans (FrM_K hk2 (FrK_trans f3 (FrK_U (by unfold KDt; omega)))) q'
  · rw [if_pos (by omega)] at hZ
    refine mT_use m_wrong (fun v I' q => ?_)
    obtain ⟨rfl, q⟩ := q
    simp only [mmK_cut cd_163, q_cons, q_G0, q_GS, q_I1, q_L1, q_A1, q_S0, q_S1, q_SS, q_T0, q_T1, q_TS, q_Kn, q_Ki, q_Kl, q_Kr, q_k0, q_kS, q_rc, q_ps, q_pn, q_aload0, q_getfieldA, q_iload1, q_iaload, q_bipush, q_icmp_ne, q_iconst, q_invV, q_ireturn1, q_imul, q_iadd, q_istore2, q_if_ne, q_iload2, q_getfieldI, q_iastore, q_putfieldI, q_dup2, rf_11_38, rf_11_39, rf_11_40, mmKe_1238, mmKe_1239, mmKe_1240, mmKo_11, mmLen_1238, mmLen_1239, mmLen_1240, mmR32, mmR64, Option.some.injEq, Int.cast_ofNat_Int, and_true, true_and, if_true, if_false, List.length_cons, List.length_nil, Nat.le_refl, Nat.zero_le, Nat.sub_zero, forall_const, reduceCtorEq, Nat.reduceAdd, Nat.reduceSub, Nat.reduceLeDiff, Nat.reduceEqDiff, Int.reduceAdd, Int.reduceNeg, Int.reduceSub, Int.reduceLT, Int.reduceLE, Int.reduceMul, Int.reduceEq, List.drop_zero, List.drop_succ_cons, ne_eq, not_false_eq_true, not_true_eq_false, false_and, and_false, false_implies, true_implies, reduceIte, mmU_rd, implies_true, or_false, false_or, or_true, true_or]
    exact mT_in (Or.inl ⟨_, hZ.symm, rfl, MF_wrong h q⟩)
end S72
