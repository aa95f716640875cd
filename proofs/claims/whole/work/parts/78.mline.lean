/-- the same rules, as far as they reach -/
theorem RG {r : mRu} {G G' : mGv} (hw : RW r) (hs : ∀ f, f ≤ 7 → G' f 0 = G f 0) (h1 : ∀ f k, 8 ≤ f → f ≤ 11 → 0 ≤ k → k < 4 → G' f k = G f k) (h2 : ∀ f k, 12 ≤ f → f ≤ 13 → 0 ≤ k → k < 32 → G' f k = G f k) (h3 : ∀ f k, 20 ≤ f → f ≤ 22 → 0 ≤ k → k < 8 → G' f k = G f k) (h : RE r G) : RE r G' := by
  obtain ⟨g4, g5, g6⟩ := h
  have hk := hw.2.2.1
  have ht := hw.2.2.2.1
  refine ⟨?_, fun k h0 h1' => ?_, ?_⟩
  · rw [hs 0 (by omega), hs 1 (by omega), hs 2 (by omega), hs 3 (by omega), hs 4 (by omega), hs 5 (by omega), hs 6 (by omega), hs 7 (by omega)]
    exact g4
  · obtain ⟨k1, k2, k3, k4, k5, k6, k7, k8⟩ := g5 k h0 h1'
    refine ⟨(h1 8 k (by omega) (by omega) h0 (by omega)).trans k1, (h1 9 k (by omega) (by omega) h0 (by omega)).trans k2, (h1 10 k (by omega) (by omega) h0 (by omega)).trans k3, (h1 11 k (by omega) (by omega) h0 (by omega)).trans k4, k5, k6, k7, fun x x0 x1 => ?_⟩
    obtain ⟨k9, k10, k11⟩ := k8 x x0 x1
    exact ⟨(h2 12 _ (by omega) (by omega) (by omega) (by omega)).trans k9, (h2 13 _ (by omega) (by omega) (by omega) (by omega)).trans k10, k11⟩
  · obtain ⟨s1, s2, s3, s4⟩ := g6
    have e20 : ∀ i, 0 ≤ i → i < r 6 3 → G' 20 i = G 20 i := fun i i0 i1 => h3 20 i (by omega) (by omega) i0 (by omega)
    have e21 : ∀ i, 0 ≤ i → i < r 6 3 → G' 21 i = G 21 i := fun i i0 i1 => h3 21 i (by omega) (by omega) i0 (by omega)
    have e22 : ∀ i, 0 ≤ i → i < r 6 3 → G' 22 i = G 22 i := fun i i0 i1 => h3 22 i (by omega) (by omega) i0 (by omega)
    refine ⟨fun i i0 i1 => ?_, fun i i' i0 i1 i2 => ?_, fun x x0 x1 xn => ?_, fun w hw' => ⟨(s4 w hw').1, (s4 w hw').2.trans ⟨?_, ?_⟩⟩⟩
    · rw [e20 i i0 i1, e21 i i0 i1, e22 i i0 i1]
      exact s1 i i0 i1
    · rw [e22 i i0 (by omega), e22 i' (by omega) i2]
      exact s2 i i' i0 i1 i2
    · obtain ⟨i, i0, i1, i2⟩ := s3 x x0 x1 xn
      exact ⟨i, i0, i1, by rw [e22 i i0 i1]; exact i2⟩
    · rintro ⟨i, i0, i1, i2, i3⟩
      exact ⟨i, i0, i1, by rw [e21 i i0 i1]; exact i2, by rw [e20 i i0 i1]; exact i3⟩
    · rintro ⟨i, i0, i1, i2, i3⟩
      exact ⟨i, i0, i1, by rw [← e21 i i0 i1]; exact i2, by rw [← e20 i i0 i1]; exact i3⟩
theorem RR {r r' : mRu} {G : mGv} (hr : ∀ t x, ¬ (t = 1 ∨ t = 200) → r' t x = r t x) (h : RE r G) : RE r' G := by
  have eR : ∀ t, ¬ (t = 1 ∨ t = 200) → r' t = r t := fun t ht => funext fun x => hr t x ht
  unfold RE SE KE at h ⊢
  rw [eR 6 (by omega), eR 708 (by omega), eR 709 (by omega), eR 710 (by omega), eR 711 (by omega), eR 712 (by omega), eR 713 (by omega), eR 714 (by omega), eR 715 (by omega)]
  exact h
def tlF (x : mPR (Int × mRu × Int)) (T : Int → Int) (s : Int) : mPR (Int × mRu × Int) := pB x fun y => if tkS T s y.1 = 3 ∧ tkV T s y.1 = 59 then .inr (tkN T s y.1, y.2.1, y.2.2) else .inl (1, skE T s y.1)
section S78
variable {d a : Nat} {I I' I'' J : mMm} {br : Nat → Option mmO} {R : Nat → Nat → Int → Option mmO} {X : mmX} {T : Int → Int} {s p o k w x op kn e h : Int} {r r' r'' : mRu} {Q : Option mmV → mmM → Prop} {P : List Int}
def SPm (I : mMm) (T : Int → Int) (s : Int) (x : mPR (Int × mRu)) (v : Option mmV) (I' : mMm) : Prop := (∃ e, x = .inl e ∧ v = some (mv 0) ∧ MF I e I') ∨ (∃ p' r', x = .inr (p', r') ∧ v = some (mv 1) ∧ FrL I I' ∧ PSr I' T s p' ∧ LMt I' r' ∧ (ixS (r' 200) (r' 1 2).toNat).1 = 1)
set_option maxHeartbeats 1000000 in
theorem m_sum (h : PSr I T s p) (h0 : r 1 2 = 0) (h53 : I 11 0 53 = 0) (h26 : I 11 0 26 = 0) : mmC (d + 5) 182 [mo 11 0] (I, mmRf a br, X) (mT a br X (SPm I T s (lwF T s 701 0 p [] 0 0 r))) := by
  generalize hZ : lwF T s 701 0 p [] 0 0 r = Z
  have key : ∀ (f : Nat) (i st p1 : Int) (P : List Int) (op kn : Int) (r1 : mRu) (I1 : mMm), i + f = 701 → 0 ≤ i → i ≤ p1 → (st = 0 ∨ st = 1 ∨ st = 2) → FrL I I1 → PSr I1 T s p1 → LM I1 P op kn (if st = 2 then 1 else 0) r1 → LMf I1 st → LI P op kn r1 → lwF T s f st p1 P op kn r1 = Z → mmK (d + 4) 182 (mT a br X (SPm I T s Z)) 15 [some (mo 11 0)] [] (I1, mmRf a br, X) := by
    intro f
    induction f with
    | zero =>
      intro i st p1 P op kn r1 I1 a1 a2 a3 a4 fr hp hl hf hi hz
      have := hp.2.2.2.2.2.2
      omega
    | succ f ih =>
      intro i st p1 P op kn r1 I1 a1 a2 a3 a4 fr hp hl hf hi hz
      have hpp := hp.2.2.2.2.2.2
      have hn := tk_next (T := T) (s := s) (p := p1) (by omega)
      have hLn := LI_len hi
      obtain ⟨i1, i2, i3, i4, i5⟩ := id hi
      rw [lwF_s] at hz
      have on : ∀ (x : mLS) (v : Option mmV) (I2 : mMm), LMS I1 T s x v I2 → pB x (fun x => if x.1 = 3 then .inr (x.2.1, x.2.2.2.2.2) else lwF T s f x.1 x.2.1 x.2.2.1 x.2.2.2.1 x.2.2.2.2.1 x.2.2.2.2.2) = Z → (∀ st' p' P' op' kn' r', x = .inr (st', p', P', op', kn', r') → LI P' op' kn' r' ∧ ((st' = 0 ∨ st' = 1 ∨ st' = 2) ∧ p' = tkN T s p1 ∧ ¬ tkS T s p1 = 0)) → (v = some (mv 0) ∧ mT a br X (SPm I T s Z) (some (mv 0)) (I2, mmRf a br, X)) ∨ (v = some (mv 1) ∧ mmK (d + 4) 182 (mT a br X (SPm I T s Z)) 15 [some (mo 11 0)] [] (I2, mmRf a br, X)) := by
        intro x v I2 q hx hL
        rcases q with ⟨e, q1, rfl, q2⟩ | ⟨st', p', P', op', kn', r', q1, rfl, q2, q3, q4, q5⟩
        · rw [q1, pB_l] at hx
          exact Or.inl ⟨rfl, mT_in (Or.inl ⟨e, hx.symm, rfl, MF_trans (FrM_L fr) q2⟩)⟩
        · rw [q1, pB_r] at hx
          have hL := hL _ _ _ _ _ _ q1
          simp only at hx
          rw [if_neg (by omega)] at hx
          have := hn.2.1 hL.2.2.2
          exact Or.inr ⟨rfl, ih (i + 1) st' p' P' op' kn' r' I2 (by omega) (by omega) (by omega) hL.2.1 (FrL_trans fr q2) q3 q4 q5 hL.1 hx⟩
      have w25 : ¬ (st = 2 ∧ (tkS T s p1 = 3 ∧ tkV T s p1 = 59) ∧ op = 0) → mmK (d + 4) 182 (mT a br X (SPm I T s Z)) 25 [some (mo 11 0)] [] (I1, mmRf a br, X) := by
        intro c
        by_cases c2 : st = 2
        · rw [if_pos c2] at hz hl
          refine mmC_step ?_
          simp only [cd_182, sg_182_0, sg_182_15, sg_182_25, sg_182_32, sg_182_35, sg_182_37, mmK_cut cd_182, q_cons, q_G0, q_GS, q_I1, q_L1, q_A1, q_S0, q_S1, q_SS, q_T0, q_T1, q_TS, q_Kn, q_Ki, q_Kl, q_Kr, q_k0, q_kS, q_rc, q_ps, q_pn, q_aload0, q_iconst, q_putfieldI, q_putfieldZ, q_bipush, q_invV, q_if_eq, q_getfieldZ, q_if_ne, q_getfieldI, q_if_le, q_goto, q_ireturn1, mmKo_11, mmR32, mmR64, Option.some.injEq, Int.cast_ofNat_Int, and_true, true_and, if_true, if_false, List.length_cons, List.length_nil, Nat.le_refl, Nat.zero_le, Nat.sub_zero, forall_const, reduceCtorEq, Nat.reduceAdd, Nat.reduceSub, Nat.reduceLeDiff, Nat.reduceEqDiff, Int.reduceAdd, Int.reduceNeg, Int.reduceSub, Int.reduceLT, Int.reduceLE, Int.reduceMul, Int.reduceEq, List.drop_zero, List.drop_succ_cons, ne_eq, not_false_eq_true, not_true_eq_false, false_and, and_false, false_implies, true_implies, reduceIte, mmU_rd, implies_true, or_false, false_or, or_true, true_or]
          rw [hf.1 c2]
          refine ⟨fun _ => ?_, fun q => absurd rfl q⟩
          refine mmC_step ?_
          simp only [cd_182, sg_182_0, sg_182_15, sg_182_25, sg_182_32, sg_182_35, sg_182_37, mmK_cut cd_182, q_cons, q_G0, q_GS, q_I1, q_L1, q_A1, q_S0, q_S1, q_SS, q_T0, q_T1, q_TS, q_Kn, q_Ki, q_Kl, q_Kr, q_k0, q_kS, q_rc, q_ps, q_pn, q_aload0, q_iconst, q_putfieldI, q_putfieldZ, q_bipush, q_invV, q_if_eq, q_getfieldZ, q_if_ne, q_getfieldI, q_if_le, q_goto, q_ireturn1, mmKo_11, mmR32, mmR64, Option.some.injEq, Int.cast_ofNat_Int, and_true, true_and, if_true, if_false, List.length_cons, List.length_nil, Nat.le_refl, Nat.zero_le, Nat.sub_zero, forall_const, reduceCtorEq, Nat.reduceAdd, Nat.reduceSub, Nat.reduceLeDiff, Nat.reduceEqDiff, Int.reduceAdd, Int.reduceNeg, Int.reduceSub, Int.reduceLT, Int.reduceLE, Int.reduceMul, Int.reduceEq, List.drop_zero, List.drop_succ_cons, ne_eq, not_false_eq_true, not_true_eq_false, false_and, and_false, false_implies, true_implies, reduceIte, mmU_rd, implies_true, or_false, false_or, or_true, true_or]
          refine mT_use (m_signs hp hl hi (hf.1 c2) (fun q => c ⟨c2, q⟩)) (fun v I2 q => ?_)
          rcases on _ v I2 q hz (fun st' p' P' op' kn' r' e => by
            have := lb_LI e hi
            refine ⟨this.1, this.2.resolve_left (fun q => c ⟨c2, q.2.2.1, ?_⟩)⟩
            have e4 : op' = 0 := q.2.2.2.1
            have := this.1
            unfold lbF at e
            rw [if_neg (by omega)] at e
            by_cases c5 : op = 0
            · exact c5
            · rw [if_neg (fun q => c5 q.2), if_pos (by rw [q.2.2.1.1, q.2.2.1.2]; rfl)] at e
              cases e) with ⟨rfl, q2⟩ | ⟨rfl, q2⟩
          · simp only [mmK_cut cd_182, q_cons, q_G0, q_GS, q_I1, q_L1, q_A1, q_S0, q_S1, q_SS, q_T0, q_T1, q_TS, q_Kn, q_Ki, q_Kl, q_Kr, q_k0, q_kS, q_rc, q_ps, q_pn, q_aload0, q_iconst, q_putfieldI, q_putfieldZ, q_bipush, q_invV, q_if_eq, q_getfieldZ, q_if_ne, q_getfieldI, q_if_le, q_goto, q_ireturn1, mmKo_11, mmR32, mmR64, Option.some.injEq, Int.cast_ofNat_Int, and_true, true_and, if_true, if_false, List.length_cons, List.length_nil, Nat.le_refl, Nat.zero_le, Nat.sub_zero, forall_const, reduceCtorEq, Nat.reduceAdd, Nat.reduceSub, Nat.reduceLeDiff, Nat.reduceEqDiff, Int.reduceAdd, Int.reduceNeg, Int.reduceSub, Int.reduceLT, Int.reduceLE, Int.reduceMul, Int.reduceEq, List.drop_zero, List.drop_succ_cons, ne_eq, not_false_eq_true, not_true_eq_false, false_and, and_false, false_implies, true_implies, reduceIte, mmU_rd, implies_true, or_false, false_or, or_true, true_or]
            refine mmC_step ?_
            simp only [cd_182, sg_182_0, sg_182_15, sg_182_25, sg_182_32, sg_182_35, sg_182_37, mmK_cut cd_182, q_cons, q_G0, q_GS, q_I1, q_L1, q_A1, q_S0, q_S1, q_SS, q_T0, q_T1, q_TS, q_Kn, q_Ki, q_Kl, q_Kr, q_k0, q_kS, q_rc, q_ps, q_pn, q_aload0, q_iconst, q_putfieldI, q_putfieldZ, q_bipush, q_invV, q_if_eq, q_getfieldZ, q_if_ne, q_getfieldI, q_if_le, q_goto, q_ireturn1, mmKo_11, mmR32, mmR64, Option.some.injEq, Int.cast_ofNat_Int, and_true, true_and, if_true, if_false, List.length_cons, List.length_nil, Nat.le_refl, Nat.zero_le, Nat.sub_zero, forall_const, reduceCtorEq, Nat.reduceAdd, Nat.reduceSub, Nat.reduceLeDiff, Nat.reduceEqDiff, Int.reduceAdd, Int.reduceNeg, Int.reduceSub, Int.reduceLT, Int.reduceLE, Int.reduceMul, Int.reduceEq, List.drop_zero, List.drop_succ_cons, ne_eq, not_false_eq_true, not_true_eq_false, false_and, and_false, false_implies, true_implies, reduceIte, mmU_rd, implies_true, or_false, false_or, or_true, true_or]
            exact q2
          · simp only [mmK_cut cd_182, q_cons, q_G0, q_GS, q_I1, q_L1, q_A1, q_S0, q_S1, q_SS, q_T0, q_T1, q_TS, q_Kn, q_Ki, q_Kl, q_Kr, q_k0, q_kS, q_rc, q_ps, q_pn, q_aload0, q_iconst, q_putfieldI, q_putfieldZ, q_bipush, q_invV, q_if_eq, q_getfieldZ, q_if_ne, q_getfieldI, q_if_le, q_goto, q_ireturn1, mmKo_11, mmR32, mmR64, Option.some.injEq, Int.cast_ofNat_Int, and_true, true_and, if_true, if_false, List.length_cons, List.length_nil, Nat.le_refl, Nat.zero_le, Nat.sub_zero, forall_const, reduceCtorEq, Nat.reduceAdd, Nat.reduceSub, Nat.reduceLeDiff, Nat.reduceEqDiff, Int.reduceAdd, Int.reduceNeg, Int.reduceSub, Int.reduceLT, Int.reduceLE, Int.reduceMul, Int.reduceEq, List.drop_zero, List.drop_succ_cons, ne_eq, not_false_eq_true, not_true_eq_false, false_and, and_false, false_implies, true_implies, reduceIte, mmU_rd, implies_true, or_false, false_or, or_true, true_or]
            exact q2
        · rw [if_neg c2] at hz hl
          refine mmC_step ?_
          simp only [cd_182, sg_182_0, sg_182_15, sg_182_25, sg_182_32, sg_182_35, sg_182_37, mmK_cut cd_182, q_cons, q_G0, q_GS, q_I1, q_L1, q_A1, q_S0, q_S1, q_SS, q_T0, q_T1, q_TS, q_Kn, q_Ki, q_Kl, q_Kr, q_k0, q_kS, q_rc, q_ps, q_pn, q_aload0, q_iconst, q_putfieldI, q_putfieldZ, q_bipush, q_invV, q_if_eq, q_getfieldZ, q_if_ne, q_getfieldI, q_if_le, q_goto, q_ireturn1, mmKo_11, mmR32, mmR64, Option.some.injEq, Int.cast_ofNat_Int, and_true, true_and, if_true, if_false, List.length_cons, List.length_nil, Nat.le_refl, Nat.zero_le, Nat.sub_zero, forall_const, reduceCtorEq, Nat.reduceAdd, Nat.reduceSub, Nat.reduceLeDiff, Nat.reduceEqDiff, Int.reduceAdd, Int.reduceNeg, Int.reduceSub, Int.reduceLT, Int.reduceLE, Int.reduceMul, Int.reduceEq, List.drop_zero, List.drop_succ_cons, ne_eq, not_false_eq_true, not_true_eq_false, false_and, and_false, false_implies, true_implies, reduceIte, mmU_rd, implies_true, or_false, false_or, or_true, true_or]
          have h54 : I1 11 0 54 = 1 := by
            rcases a4 with q | q | q
            · exact (hf.2.1 q).1
            · exact (hf.2.2 q).1
            · exact absurd q c2
          rw [h54]
          refine ⟨fun q => by omega, fun _ => ?_⟩
          have h55 : I1 11 0 55 = (if st = 0 then 1 else 0) := by
            rcases a4 with q | q | q
            · rw [if_pos q]; exact (hf.2.1 q).2
            · rw [if_neg (by omega)]; exact (hf.2.2 q).2
            · exact absurd q c2
          refine mT_use (m_leaf hp hl hi h54 h55 (by split <;> omega)) (fun v I2 q => ?_)
          rcases on _ v I2 q hz (fun st' p' P' op' kn' r' e => by
            have := lo_LI e hi
            exact this) with ⟨rfl, q2⟩ | ⟨rfl, q2⟩
          · simp only [mmK_cut cd_182, q_cons, q_G0, q_GS, q_I1, q_L1, q_A1, q_S0, q_S1, q_SS, q_T0, q_T1, q_TS, q_Kn, q_Ki, q_Kl, q_Kr, q_k0, q_kS, q_rc, q_ps, q_pn, q_aload0, q_iconst, q_putfieldI, q_putfieldZ, q_bipush, q_invV, q_if_eq, q_getfieldZ, q_if_ne, q_getfieldI, q_if_le, q_goto, q_ireturn1, mmKo_11, mmR32, mmR64, Option.some.injEq, Int.cast_ofNat_Int, and_true, true_and, if_true, if_false, List.length_cons, List.length_nil, Nat.le_refl, Nat.zero_le, Nat.sub_zero, forall_const, reduceCtorEq, Nat.reduceAdd, Nat.reduceSub, Nat.reduceLeDiff, Nat.reduceEqDiff, Int.reduceAdd, Int.reduceNeg, Int.reduceSub, Int.reduceLT, Int.reduceLE, Int.reduceMul, Int.reduceEq, List.drop_zero, List.drop_succ_cons, ne_eq, not_false_eq_true, not_true_eq_false, false_and, and_false, false_implies, true_implies, reduceIte, mmU_rd, implies_true, or_false, false_or, or_true, true_or]
            refine mmC_step ?_
            simp only [cd_182, sg_182_0, sg_182_15, sg_182_25, sg_182_32, sg_182_35, sg_182_37, mmK_cut cd_182, q_cons, q_G0, q_GS, q_I1, q_L1, q_A1, q_S0, q_S1, q_SS, q_T0, q_T1, q_TS, q_Kn, q_Ki, q_Kl, q_Kr, q_k0, q_kS, q_rc, q_ps, q_pn, q_aload0, q_iconst, q_putfieldI, q_putfieldZ, q_bipush, q_invV, q_if_eq, q_getfieldZ, q_if_ne, q_getfieldI, q_if_le, q_goto, q_ireturn1, mmKo_11, mmR32, mmR64, Option.some.injEq, Int.cast_ofNat_Int, and_true, true_and, if_true, if_false, List.length_cons, List.length_nil, Nat.le_refl, Nat.zero_le, Nat.sub_zero, forall_const, reduceCtorEq, Nat.reduceAdd, Nat.reduceSub, Nat.reduceLeDiff, Nat.reduceEqDiff, Int.reduceAdd, Int.reduceNeg, Int.reduceSub, Int.reduceLT, Int.reduceLE, Int.reduceMul, Int.reduceEq, List.drop_zero, List.drop_succ_cons, ne_eq, not_false_eq_true, not_true_eq_false, false_and, and_false, false_implies, true_implies, reduceIte, mmU_rd, implies_true, or_false, false_or, or_true, true_or]
            exact q2
          · simp only [mmK_cut cd_182, q_cons, q_G0, q_GS, q_I1, q_L1, q_A1, q_S0, q_S1, q_SS, q_T0, q_T1, q_TS, q_Kn, q_Ki, q_Kl, q_Kr, q_k0, q_kS, q_rc, q_ps, q_pn, q_aload0, q_iconst, q_putfieldI, q_putfieldZ, q_bipush, q_invV, q_if_eq, q_getfieldZ, q_if_ne, q_getfieldI, q_if_le, q_goto, q_ireturn1, mmKo_11, mmR32, mmR64, Option.some.injEq, Int.cast_ofNat_Int, and_true, true_and, if_true, if_false, List.length_cons, List.length_nil, Nat.le_refl, Nat.zero_le, Nat.sub_zero, forall_const, reduceCtorEq, Nat.reduceAdd, Nat.reduceSub, Nat.reduceLeDiff, Nat.reduceEqDiff, Int.reduceAdd, Int.reduceNeg, Int.reduceSub, Int.reduceLT, Int.reduceLE, Int.reduceMul, Int.reduceEq, List.drop_zero, List.drop_succ_cons, ne_eq, not_false_eq_true, not_true_eq_false, false_and, and_false, false_implies, true_implies, reduceIte, mmU_rd, implies_true, or_false, false_or, or_true, true_or]
            exact q2
      refine mmC_step ?_
      simp only [cd_182, sg_182_0, sg_182_15, sg_182_25, sg_182_32, sg_182_35, sg_182_37, mmK_cut cd_182, q_cons, q_G0, q_GS, q_I1, q_L1, q_A1, q_S0, q_S1, q_SS, q_T0, q_T1, q_TS, q_Kn, q_Ki, q_Kl, q_Kr, q_k0, q_kS, q_rc, q_ps, q_pn, q_aload0, q_iconst, q_putfieldI, q_putfieldZ, q_bipush, q_invV, q_if_eq, q_getfieldZ, q_if_ne, q_getfieldI, q_if_le, q_goto, q_ireturn1, mmKo_11, mmR32, mmR64, Option.some.injEq, Int.cast_ofNat_Int, and_true, true_and, if_true, if_false, List.length_cons, List.length_nil, Nat.le_refl, Nat.zero_le, Nat.sub_zero, forall_const, reduceCtorEq, Nat.reduceAdd, Nat.reduceSub, Nat.reduceLeDiff, Nat.reduceEqDiff, Int.reduceAdd, Int.reduceNeg, Int.reduceSub, Int.reduceLT, Int.reduceLE, Int.reduceMul, Int.reduceEq, List.drop_zero, List.drop_succ_cons, ne_eq, not_false_eq_true, not_true_eq_false, false_and, and_false, false_implies, true_implies, reduceIte, mmU_rd, implies_true, or_false, false_or, or_true, true_or]
      refine sq_isSign ?_
      rw [show (I1 11 0 8 = 4 ∧ I1 11 0 9 = 59) = (tkS T s p1 = 3 ∧ tkV T s p1 = 59) from propext (TR_sign hp.2.2.2.2.1 (by omega))]
      simp only [mmK_cut cd_182, q_cons, q_G0, q_GS, q_I1, q_L1, q_A1, q_S0, q_S1, q_SS, q_T0, q_T1, q_TS, q_Kn, q_Ki, q_Kl, q_Kr, q_k0, q_kS, q_rc, q_ps, q_pn, q_aload0, q_iconst, q_putfieldI, q_putfieldZ, q_bipush, q_invV, q_if_eq, q_getfieldZ, q_if_ne, q_getfieldI, q_if_le, q_goto, q_ireturn1, mmKo_11, mmR32, mmR64, Option.some.injEq, Int.cast_ofNat_Int, and_true, true_and, if_true, if_false, List.length_cons, List.length_nil, Nat.le_refl, Nat.zero_le, Nat.sub_zero, forall_const, reduceCtorEq, Nat.reduceAdd, Nat.reduceSub, Nat.reduceLeDiff, Nat.reduceEqDiff, Int.reduceAdd, Int.reduceNeg, Int.reduceSub, Int.reduceLT, Int.reduceLE, Int.reduceMul, Int.reduceEq, List.drop_zero, List.drop_succ_cons, ne_eq, not_false_eq_true, not_true_eq_false, false_and, and_false, false_implies, true_implies, reduceIte, mmU_rd, implies_true, or_false, false_or, or_true, true_or, bI_eq0]
      refine ⟨fun c => w25 (fun q => c q.2.1), fun c => ⟨fun c2 => w25 (fun q => c2 (hf.1 q.1)), fun c2 => ?_⟩⟩
      have cs := Classical.not_not.mp c
      have st2 : st = 2 := by
        rcases a4 with q | q | q
        · have := (hf.2.1 q).1; omega
        · have := (hf.2.2 q).1; omega
        · exact q
      have hop : I1 11 0 52 = op := hl.2.2.1
      rw [hop]
      refine ⟨fun c3 => ?_, fun c3 => w25 (fun q => by omega)⟩
      have hop0 : op = 0 := by omega
      rw [if_pos st2] at hz hl
      have hlb : lbF T s p1 P op kn r1 = .inr (3, p1, (stl 1 P r1).1, op, kn, (stl 1 P r1).2) := by
        unfold lbF
        rw [if_neg (by omega), if_pos ⟨cs, hop0⟩]
      rw [hlb, pB_r, if_pos rfl] at hz
      have hLL := lb_LI hlb hi
      refine mmC_step ?_
      simp only [cd_182, sg_182_0, sg_182_15, sg_182_25, sg_182_32, sg_182_35, sg_182_37, mmK_cut cd_182, q_cons, q_G0, q_GS, q_I1, q_L1, q_A1, q_S0, q_S1, q_SS, q_T0, q_T1, q_TS, q_Kn, q_Ki, q_Kl, q_Kr, q_k0, q_kS, q_rc, q_ps, q_pn, q_aload0, q_iconst, q_putfieldI, q_putfieldZ, q_bipush, q_invV, q_if_eq, q_getfieldZ, q_if_ne, q_getfieldI, q_if_le, q_goto, q_ireturn1, mmKo_11, mmR32, mmR64, Option.some.injEq, Int.cast_ofNat_Int, and_true, true_and, if_true, if_false, List.length_cons, List.length_nil, Nat.le_refl, Nat.zero_le, Nat.sub_zero, forall_const, reduceCtorEq, Nat.reduceAdd, Nat.reduceSub, Nat.reduceLeDiff, Nat.reduceEqDiff, Int.reduceAdd, Int.reduceNeg, Int.reduceSub, Int.reduceLT, Int.reduceLE, Int.reduceMul, Int.reduceEq, List.drop_zero, List.drop_succ_cons, ne_eq, not_false_eq_true, not_true_eq_false, false_and, and_false, false_implies, true_implies, reduceIte, mmU_rd, implies_true, or_false, false_or, or_true, true_or]
      refine mT_use (m_bind (rank := 1) (by omega) hl (by omega) (by omega)) (fun v I2 q => ?_)
      obtain ⟨rfl, fr2, l2⟩ := q
      simp only [mmK_cut cd_182, q_cons, q_G0, q_GS, q_I1, q_L1, q_A1, q_S0, q_S1, q_SS, q_T0, q_T1, q_TS, q_Kn, q_Ki, q_Kl, q_Kr, q_k0, q_kS, q_rc, q_ps, q_pn, q_aload0, q_iconst, q_putfieldI, q_putfieldZ, q_bipush, q_invV, q_if_eq, q_getfieldZ, q_if_ne, q_getfieldI, q_if_le, q_goto, q_ireturn1, mmKo_11, mmR32, mmR64, Option.some.injEq, Int.cast_ofNat_Int, and_true, true_and, if_true, if_false, List.length_cons, List.length_nil, Nat.le_refl, Nat.zero_le, Nat.sub_zero, forall_const, reduceCtorEq, Nat.reduceAdd, Nat.reduceSub, Nat.reduceLeDiff, Nat.reduceEqDiff, Int.reduceAdd, Int.reduceNeg, Int.reduceSub, Int.reduceLT, Int.reduceLE, Int.reduceMul, Int.reduceEq, List.drop_zero, List.drop_succ_cons, ne_eq, not_false_eq_true, not_true_eq_false, false_and, and_false, false_implies, true_implies, reduceIte, mmU_rd, implies_true, or_false, false_or, or_true, true_or]
      refine mT_in (Or.inr ⟨_, _, hz.symm, rfl, FrL_trans fr (fun t i k c => fr2 t i k (fun q' => c (by unfold LWt; omega))), PSr_ext hp (fun k => fr2 _ _ _ (by omega)) (fun k hk => fr2 _ _ _ (by omega)) (fun k => fr2 _ _ _ (by omega)), l2.2.2.2.2.1, ?_⟩)
      have hnil : (stl 1 P r1).1 = [] := by
        rcases hLL.2 with q | q
        · exact q.2.2.2.2
        · omega
      have := l2.2.2.2.2.2
      rw [hnil] at this
      exact this
  refine mmC_in (by decide) (Nat.le_of_ble_eq_true rfl) (mmC_step ?_)
  simp only [show mmMl 182 = 1 from rfl, mmLs, List.replicate, cd_182, sg_182_0, sg_182_15, sg_182_25, sg_182_32, sg_182_35, sg_182_37, mmK_cut cd_182, q_cons, q_G0, q_GS, q_I1, q_L1, q_A1, q_S0, q_S1, q_SS, q_T0, q_T1, q_TS, q_Kn, q_Ki, q_Kl, q_Kr, q_k0, q_kS, q_rc, q_ps, q_pn, q_aload0, q_iconst, q_putfieldI, q_putfieldZ, q_bipush, q_invV, q_if_eq, q_getfieldZ, q_if_ne, q_getfieldI, q_if_le, q_goto, q_ireturn1, mmKo_11, mmR32, mmR64, Option.some.injEq, Int.cast_ofNat_Int, and_true, true_and, if_true, if_false, List.length_cons, List.length_nil, Nat.le_refl, Nat.zero_le, Nat.sub_zero, forall_const, reduceCtorEq, Nat.reduceAdd, Nat.reduceSub, Nat.reduceLeDiff, Nat.reduceEqDiff, Int.reduceAdd, Int.reduceNeg, Int.reduceSub, Int.reduceLT, Int.reduceLE, Int.reduceMul, Int.reduceEq, List.drop_zero, List.drop_succ_cons, ne_eq, not_false_eq_true, not_true_eq_false, false_and, and_false, false_implies, true_implies, reduceIte, mmU_rd, implies_true, or_false, false_or, or_true, true_or]
  have hu : ∀ t k, ¬ (t = 11 ∧ 50 ≤ k) → mmU (mmU (mmU (mmU (mmU I 11 0 50 0) 11 0 51 0) 11 0 52 0) 11 0 54 1) 11 0 55 1 t 0 k = I t 0 k := by
    intro t k c
    unfold mmU
    rw [if_neg (by omega), if_neg (by omega), if_neg (by omega), if_neg (by omega), if_neg (by omega)]
  refine key 701 0 0 p [] 0 0 r _ (by omega) (by omega) h.2.2.2.2.2.2.1 (by omega) ?_ ?_ ?_ ⟨fun q => by omega, fun _ => ⟨rfl, rfl⟩, fun q => by omega⟩ ⟨rfl, by omega, by omega, by rw [h0]; rfl, by omega⟩ hZ
  · exact FrL_trans (FrL_trans (FrL_trans (FrL_trans (FrL_U (by unfold LWt; omega)) (FrL_U (by unfold LWt; omega))) (FrL_U (by unfold LWt; omega))) (FrL_U (by unfold LWt; omega))) (FrL_U (by unfold LWt; omega))
  · exact PSr_ext h (fun k => hu _ _ (by omega)) (fun k hk => hu _ _ (by omega)) (fun k => hu _ _ (by omega))
  · refine ⟨rfl, trivial, rfl, h53, ⟨by omega, h26.trans h0.symm, ⟨?_, ?_⟩, fun m hm => by omega⟩, ?_⟩
    · rw [h0]; rfl
    · intro i i0 i1
      have : mmU (mmU (mmU (mmU (mmU I 11 0 50 0) 11 0 51 0) 11 0 52 0) 11 0 54 1) 11 0 55 1 11 0 51 = 0 := rfl
      rw [this] at i1
      omega
    · rw [h0]; rfl
end S78
