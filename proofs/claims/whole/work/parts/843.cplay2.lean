section S843
variable {d a j x : Nat} {I I1 I' I'' : mMm} {br : Nat → Option mmO} {R : Nat → Nat → Int → Option mmO} {X : mmX} {L : Nat → Int → Int} {r : mRu} {B : mBd} {m la z : Int} {c : Int × Int} {T Td T' : List Int} {Q : Option mmV → mmM → Prop}
/-- whether a move is chosen, within a letter's ifs -/
def inA (r : mRu) (L : Nat → Int → Int) (m : Int) (B : mBd) (la z l : Int) (T' : List Int) (c : Int × Int) (w k ch : Int) : Prop :=
  (ch = -1 ∧ (fk (ifP r L m B la l) (nIf L l - k).toNat k = -1 → fl (ifP r L m B la) (nIf L) T' = c) ∧ (¬ fk (ifP r L m B la l) (nIf L l - k).toNat k = -1 → c = (l, fk (ifP r L m B la l) (nIf L l - k).toNat k))) ∨
  (ch = vlI L c ∧ ¬ c.1 = -1 ∧ w = c.1 ∧ ((c.1 = l ∧ c.2 < k) ∨ (¬ c.1 = l ∧ oW L z c.1 < oW L z l)))
theorem inA_no {w l k ch : Int} (h0 : 0 ≤ k ∧ k < nIf L l) (hn : ¬ ifP r L m B la l k) (h : inA r L m B la z l T' c w k ch) : inA r L m B la z l T' c w (k + 1) ch := by
  have e : (nIf L l - k).toNat = (nIf L l - (k + 1)).toNat + 1 := by omega
  rcases h with ⟨h1, h2, h3⟩ | ⟨h1, h2, h3, h4⟩
  · rw [e, fk_s, cI_neg hn] at h2 h3
    exact Or.inl ⟨h1, h2, h3⟩
  · refine Or.inr ⟨h1, h2, h3, ?_⟩
    rcases h4 with q | q
    · exact Or.inl ⟨q.1, by omega⟩
    · exact Or.inr q
theorem inA_yes {w l k ch : Int} (h0 : 0 ≤ k ∧ k < nIf L l) (hp : ifP r L m B la l k) (h : inA r L m B la z l T' c w k ch) (hc : ch = -1) (hc0 : ¬ c.1 = -1 → 0 ≤ vlI L c) : c = (l, k) := by
  have e : (nIf L l - k).toNat = (nIf L l - (k + 1)).toNat + 1 := by omega
  rcases h with ⟨h1, h2, h3⟩ | ⟨h1, h2, h3, h4⟩
  · rw [e, fk_s, cI_pos hp] at h3
    exact h3 (by omega)
  · have := hc0 h2
    omega
theorem ft_n {l k : Int} (h : ¬ fitP L la l k) : ftV L z la c l k = -1 := by unfold ftV; rw [cI_neg h]
theorem ft_1 {l k : Int} (h : fitP L la l k) (hc : c = (l, k)) : ftV L z la c l k = 1 := by unfold ftV; rw [cI_pos h, cI_pos (by rw [hc]; exact ⟨rfl, rfl⟩)]
theorem ft_2 {l k w ch : Int} (h : fitP L la l k) (hi : inA r L m B la z l T' c w k ch) (hc : ¬ ch = -1) : ftV L z la c l k = -2 := by
  unfold ftV
  rcases hi with ⟨h1, h2, h3⟩ | ⟨h1, h2, h3, h4⟩
  · exact absurd h1 hc
  · rw [cI_pos h, cI_neg (by omega), cI_neg]
    unfold befP
    omega
theorem ft_3 {l k w ch : Int} (h0 : 0 ≤ k ∧ k < nIf L l) (h : fitP L la l k) (hi : inA r L m B la z l T' c w k ch) (hc : ch = -1) (hc0 : ¬ c.1 = -1 → 0 ≤ vlI L c) (hn : ¬ ifP r L m B la l k) (hT' : ∀ e, e ∈ T' → ¬ e = l ∧ oW L z l < oW L z e) (h1 : ¬ c.1 = -1) : ftV L z la c l k = -3 := by
  have e : (nIf L l - k).toNat = (nIf L l - (k + 1)).toNat + 1 := by omega
  unfold ftV
  rw [cI_pos h]
  rcases hi with ⟨q1, h2, h3⟩ | ⟨q1, h2, h3, h4⟩
  · rw [e, fk_s, cI_neg hn] at h2 h3
    by_cases cf : fk (ifP r L m B la l) (nIf L l - (k + 1)).toNat (k + 1) = -1
    · have e2 := h2 cf
      rcases fl_in (P := ifP r L m B la) (N := nIf L) T' with q | q
      · rw [← e2, q.1] at h1; exact absurd rfl h1
      · rw [e2] at q
        have := hT' _ q.1
        rw [cI_neg (by omega), cI_pos]
        unfold befP
        omega
    · have e2 := h3 cf
      rcases fk_in (P := ifP r L m B la l) (nIf L l - (k + 1)).toNat (k + 1) (by omega) with q | q
      · exact absurd q.1 cf
      · generalize fk (ifP r L m B la l) (nIf L l - (k + 1)).toNat (k + 1) = f at *
        rw [e2, cI_neg (by simp only; omega), cI_pos]
        exact Or.inl ⟨rfl, show k < f by omega⟩
  · have := hc0 h2
    omega
theorem inA_Y {w l k : Int} (hc : c = (l, k)) (hl : 0 ≤ l) : inA r L m B la z l T' c l (k + 1) (L 10 (L 6 l * 6 + k)) := by
  refine Or.inr ⟨by rw [hc]; rfl, by rw [hc]; simp only; omega, by rw [hc], Or.inl ?_⟩
  rw [hc]
  exact ⟨rfl, show k < k + 1 by omega⟩
def dnA (L : Nat → Int → Int) (Td : List Int) (l k l' k' : Int) : Prop := (l' ∈ Td ∧ 0 ≤ k' ∧ k' < nIf L l') ∨ (l' = l ∧ 0 ≤ k' ∧ k' < k)
set_option maxHeartbeats 1000000 in
theorem c_playI {l : Int} {l5 : Option mmV} (hb : br j = some (6, x)) (hC : CR I x r) (hq : RQ r) (hV : BV I j B m r) (hB : BW r B) (hm : 0 ≤ m ∧ m < 60) (hL : CL I L) (hW : LW L) (hl : 0 ≤ l ∧ l < L 0 0) (hTd : ∀ e, e ∈ Td → (0 ≤ e ∧ e < L 0 0)) (hT' : ∀ e, e ∈ T' → ¬ e = l ∧ oW L z l < oW L z e) (hc0 : ¬ c.1 = -1 → 0 ≤ vlI L c)
    (cont : ∀ (ch : Int) (I1 : mMm) (l8 l9 l10 l11 l12 : Option mmV), PI I I1 j L z m la c (dnA L Td l (nIf L l)) → inA r L m B la z l T' c (I1 604 j m) (nIf L l) ch → mmK (d + 4) 69 Q 104 [some (mo 5 j), some (mo 3 0), some (mv m), some (mv la), some (mv ch), l5, some (mv l), some (mv (L 6 l * 6)), l8, l9, l10, l11, l12] [] (I1, mmRf a br, X)) :
    ∀ (q : Nat) (k ch : Int) (I1 : mMm) (l9 l10 l11 l12 : Option mmV), 0 ≤ k → k + q = nIf L l → PI I I1 j L z m la c (dnA L Td l k) → inA r L m B la z l T' c (I1 604 j m) k ch → mmK (d + 4) 69 Q 37 [some (mo 5 j), some (mo 3 0), some (mv m), some (mv la), some (mv ch), l5, some (mv l), some (mv (L 6 l * 6)), some (mv k), l9, l10, l11, l12] [] (I1, mmRf a br, X) := by
  have h16 := hW.1
  have hN := nIf_in hW hl
  intro q
  induction q with
  | zero =>
    intro k ch I1 l9 l10 l11 l12 k0 k1 hP hi
    have hL1 := CL_P hL hP.1
    have e6 : I1 406 0 l = L 6 l := hL1 6 l (by omega)
    have e7 : I1 407 0 (L 6 l) = nIf L l := hL1 7 _ (by omega)
    refine mmC_step ?_
    simp only [cd_69, sg_69_0, sg_69_13, sg_69_14, sg_69_19, sg_69_37, sg_69_73, sg_69_79, sg_69_93, sg_69_102, sg_69_104, sg_69_106, sg_69_111, mmK_cut cd_69, q_cons, q_G0, q_GS, q_I1, q_L1, q_A1, q_S0, q_S1, q_SS, q_T0, q_T1, q_TS, q_Kn, q_Ki, q_Kl, q_Kr, q_k0, q_kS, q_rc, q_ps, q_pn, q_aload0, q_getfieldA, q_getfieldI, q_istore2, q_iload2, q_if_le, q_iconst, q_isub, q_iaload, q_goto, q_istore3, q_istore, q_iload, q_icmp_ge, q_aload1, q_bipush, q_imul, q_iadd, q_icmp_ne, q_icmp_eq, q_iload3, q_if_eq, q_iastore, q_iinc, q_ireturn1, q_popI, q_popA, rf_3_10, rf_3_6, rf_3_8, rf_3_9, rf_5_2, rf_5_3, rf_5_4, rf_5_8, rf_5_9, mmKe_406, mmKe_408, mmKe_409, mmKe_410, mmKe_603, mmKe_604, mmKe_608, mmKe_609, mmKo_0, mmKo_3, mmKo_5, mmLen_406, mmLen_408, mmLen_409, mmLen_410, mmLen_603, mmLen_604, mmLen_608, mmLen_609, mmR32, mmR64, Option.some.injEq, Int.cast_ofNat_Int, and_true, true_and, if_true, if_false, List.length_cons, List.length_nil, Nat.le_refl, Nat.zero_le, Nat.sub_zero, forall_const, reduceCtorEq, Nat.reduceAdd, Nat.reduceSub, Nat.reduceLeDiff, Nat.reduceEqDiff, Int.reduceAdd, Int.reduceNeg, Int.reduceSub, Int.reduceLT, Int.reduceLE, Int.reduceMul, Int.reduceEq, List.drop_zero, List.drop_succ_cons, ne_eq, not_false_eq_true, not_true_eq_false, false_and, and_false, false_implies, true_implies, reduceIte, mmU_rd, implies_true, or_false, false_or, or_true, true_or]
    rw [q_invV (pay := [])]
    simp only [q_k0, q_kS, q_rc, mmKo_3]
    refine ⟨Nat.le_of_ble_eq_true rfl, by trivial, Nat.zero_le _, Nat.zero_le _, ?_⟩
    refine sp_ifsOf ⟨hl.1, by omega⟩ (by rw [e6]; omega) ?_
    rw [e6, e7]
    simp only [mmK_cut cd_69, q_cons, q_G0, q_GS, q_I1, q_L1, q_A1, q_S0, q_S1, q_SS, q_T0, q_T1, q_TS, q_Kn, q_Ki, q_Kl, q_Kr, q_k0, q_kS, q_rc, q_ps, q_pn, q_aload0, q_getfieldA, q_getfieldI, q_istore2, q_iload2, q_if_le, q_iconst, q_isub, q_iaload, q_goto, q_istore3, q_istore, q_iload, q_icmp_ge, q_aload1, q_bipush, q_imul, q_iadd, q_icmp_ne, q_icmp_eq, q_iload3, q_if_eq, q_iastore, q_iinc, q_ireturn1, q_popI, q_popA, rf_3_10, rf_3_6, rf_3_8, rf_3_9, rf_5_2, rf_5_3, rf_5_4, rf_5_8, rf_5_9, mmKe_406, mmKe_408, mmKe_409, mmKe_410, mmKe_603, mmKe_604, mmKe_608, mmKe_609, mmKo_0, mmKo_3, mmKo_5, mmLen_406, mmLen_408, mmLen_409, mmLen_410, mmLen_603, mmLen_604, mmLen_608, mmLen_609, mmR32, mmR64, Option.some.injEq, Int.cast_ofNat_Int, and_true, true_and, if_true, if_false, List.length_cons, List.length_nil, Nat.le_refl, Nat.zero_le, Nat.sub_zero, forall_const, reduceCtorEq, Nat.reduceAdd, Nat.reduceSub, Nat.reduceLeDiff, Nat.reduceEqDiff, Int.reduceAdd, Int.reduceNeg, Int.reduceSub, Int.reduceLT, Int.reduceLE, Int.reduceMul, Int.reduceEq, List.drop_zero, List.drop_succ_cons, ne_eq, not_false_eq_true, not_true_eq_false, false_and, and_false, false_implies, true_implies, reduceIte, mmU_rd, implies_true, or_false, false_or, or_true, true_or]
    refine ⟨fun _ => ?_, fun c => by omega⟩
    have ek : k = nIf L l := by omega
    rw [ek] at hP hi ⊢
    exact cont ch I1 _ _ _ _ _ hP hi
  | succ q ih =>
    intro k ch I1 l9 l10 l11 l12 k0 k1 hP hi
    have hL1 := CL_P hL hP.1
    have e6 : I1 406 0 l = L 6 l := hL1 6 l (by omega)
    have e7 : I1 407 0 (L 6 l) = nIf L l := hL1 7 _ (by omega)
    have e8 : I1 408 0 (L 6 l * 6 + k) = L 8 (L 6 l * 6 + k) := hL1 8 _ (by omega)
    have e9 : I1 409 0 (L 6 l * 6 + k) = L 9 (L 6 l * 6 + k) := hL1 9 _ (by omega)
    have e10 : I1 410 0 (L 6 l * 6 + k) = L 10 (L 6 l * 6 + k) := hL1 10 _ (by omega)
    obtain ⟨g1, g2, g3, g4, g5⟩ := if_in hW hl (k := k) ⟨k0, by omega⟩
    have w102 : ∀ (ch : Int) (I1 : mMm) (l9 l10 l11 l12 : Option mmV), PI I I1 j L z m la c (dnA L Td l (k + 1)) → inA r L m B la z l T' c (I1 604 j m) (k + 1) ch → mmK (d + 4) 69 Q 102 [some (mo 5 j), some (mo 3 0), some (mv m), some (mv la), some (mv ch), l5, some (mv l), some (mv (L 6 l * 6)), some (mv k), l9, l10, l11, l12] [] (I1, mmRf a br, X) := by
      intro ch I1 l9 l10 l11 l12 hP hi
      refine mmC_step ?_
      simp only [cd_69, sg_69_0, sg_69_13, sg_69_14, sg_69_19, sg_69_37, sg_69_73, sg_69_79, sg_69_93, sg_69_102, sg_69_104, sg_69_106, sg_69_111, mmK_cut cd_69, q_cons, q_G0, q_GS, q_I1, q_L1, q_A1, q_S0, q_S1, q_SS, q_T0, q_T1, q_TS, q_Kn, q_Ki, q_Kl, q_Kr, q_k0, q_kS, q_rc, q_ps, q_pn, q_aload0, q_getfieldA, q_getfieldI, q_istore2, q_iload2, q_if_le, q_iconst, q_isub, q_iaload, q_goto, q_istore3, q_istore, q_iload, q_icmp_ge, q_aload1, q_bipush, q_imul, q_iadd, q_icmp_ne, q_icmp_eq, q_iload3, q_if_eq, q_iastore, q_iinc, q_ireturn1, q_popI, q_popA, rf_3_10, rf_3_6, rf_3_8, rf_3_9, rf_5_2, rf_5_3, rf_5_4, rf_5_8, rf_5_9, mmKe_406, mmKe_408, mmKe_409, mmKe_410, mmKe_603, mmKe_604, mmKe_608, mmKe_609, mmKo_0, mmKo_3, mmKo_5, mmLen_406, mmLen_408, mmLen_409, mmLen_410, mmLen_603, mmLen_604, mmLen_608, mmLen_609, mmR32, mmR64, Option.some.injEq, Int.cast_ofNat_Int, and_true, true_and, if_true, if_false, List.length_cons, List.length_nil, Nat.le_refl, Nat.zero_le, Nat.sub_zero, forall_const, reduceCtorEq, Nat.reduceAdd, Nat.reduceSub, Nat.reduceLeDiff, Nat.reduceEqDiff, Int.reduceAdd, Int.reduceNeg, Int.reduceSub, Int.reduceLT, Int.reduceLE, Int.reduceMul, Int.reduceEq, List.drop_zero, List.drop_succ_cons, ne_eq, not_false_eq_true, not_true_eq_false, false_and, and_false, false_implies, true_implies, reduceIte, mmU_rd, implies_true, or_false, false_or, or_true, true_or]
      exact ⟨by omega, ih (k + 1) ch I1 _ _ _ _ (by omega) (by omega) hP hi⟩
    refine mmC_step ?_
    simp only [cd_69, sg_69_0, sg_69_13, sg_69_14, sg_69_19, sg_69_37, sg_69_73, sg_69_79, sg_69_93, sg_69_102, sg_69_104, sg_69_106, sg_69_111, mmK_cut cd_69, q_cons, q_G0, q_GS, q_I1, q_L1, q_A1, q_S0, q_S1, q_SS, q_T0, q_T1, q_TS, q_Kn, q_Ki, q_Kl, q_Kr, q_k0, q_kS, q_rc, q_ps, q_pn, q_aload0, q_getfieldA, q_getfieldI, q_istore2, q_iload2, q_if_le, q_iconst, q_isub, q_iaload, q_goto, q_istore3, q_istore, q_iload, q_icmp_ge, q_aload1, q_bipush, q_imul, q_iadd, q_icmp_ne, q_icmp_eq, q_iload3, q_if_eq, q_iastore, q_iinc, q_ireturn1, q_popI, q_popA, rf_3_10, rf_3_6, rf_3_8, rf_3_9, rf_5_2, rf_5_3, rf_5_4, rf_5_8, rf_5_9, mmKe_406, mmKe_408, mmKe_409, mmKe_410, mmKe_603, mmKe_604, mmKe_608, mmKe_609, mmKo_0, mmKo_3, mmKo_5, mmLen_406, mmLen_408, mmLen_409, mmLen_410, mmLen_603, mmLen_604, mmLen_608, mmLen_609, mmR32, mmR64, Option.some.injEq, Int.cast_ofNat_Int, and_true, true_and, if_true, if_false, List.length_cons, List.length_nil, Nat.le_refl, Nat.zero_le, Nat.sub_zero, forall_const, reduceCtorEq, Nat.reduceAdd, Nat.reduceSub, Nat.reduceLeDiff, Nat.reduceEqDiff, Int.reduceAdd, Int.reduceNeg, Int.reduceSub, Int.reduceLT, Int.reduceLE, Int.reduceMul, Int.reduceEq, List.drop_zero, List.drop_succ_cons, ne_eq, not_false_eq_true, not_true_eq_false, false_and, and_false, false_implies, true_implies, reduceIte, mmU_rd, implies_true, or_false, false_or, or_true, true_or]
    rw [q_invV (pay := [])]
    simp only [q_k0, q_kS, q_rc, mmKo_3]
    refine ⟨Nat.le_of_ble_eq_true rfl, by trivial, Nat.zero_le _, Nat.zero_le _, ?_⟩
    refine sp_ifsOf ⟨hl.1, by omega⟩ (by rw [e6]; omega) ?_
    rw [e6, e7]
    simp only [mmK_cut cd_69, q_cons, q_G0, q_GS, q_I1, q_L1, q_A1, q_S0, q_S1, q_SS, q_T0, q_T1, q_TS, q_Kn, q_Ki, q_Kl, q_Kr, q_k0, q_kS, q_rc, q_ps, q_pn, q_aload0, q_getfieldA, q_getfieldI, q_istore2, q_iload2, q_if_le, q_iconst, q_isub, q_iaload, q_goto, q_istore3, q_istore, q_iload, q_icmp_ge, q_aload1, q_bipush, q_imul, q_iadd, q_icmp_ne, q_icmp_eq, q_iload3, q_if_eq, q_iastore, q_iinc, q_ireturn1, q_popI, q_popA, rf_3_10, rf_3_6, rf_3_8, rf_3_9, rf_5_2, rf_5_3, rf_5_4, rf_5_8, rf_5_9, mmKe_406, mmKe_408, mmKe_409, mmKe_410, mmKe_603, mmKe_604, mmKe_608, mmKe_609, mmKo_0, mmKo_3, mmKo_5, mmLen_406, mmLen_408, mmLen_409, mmLen_410, mmLen_603, mmLen_604, mmLen_608, mmLen_609, mmR32, mmR64, Option.some.injEq, Int.cast_ofNat_Int, and_true, true_and, if_true, if_false, List.length_cons, List.length_nil, Nat.le_refl, Nat.zero_le, Nat.sub_zero, forall_const, reduceCtorEq, Nat.reduceAdd, Nat.reduceSub, Nat.reduceLeDiff, Nat.reduceEqDiff, Int.reduceAdd, Int.reduceNeg, Int.reduceSub, Int.reduceLT, Int.reduceLE, Int.reduceMul, Int.reduceEq, List.drop_zero, List.drop_succ_cons, ne_eq, not_false_eq_true, not_true_eq_false, false_and, and_false, false_implies, true_implies, reduceIte, mmU_rd, implies_true, or_false, false_or, or_true, true_or]
    rw [e8, e9, e10]
    refine ⟨fun c => by omega, fun _ => ⟨by omega, by omega, by omega, fun cm => ?_, fun cm => ?_⟩⟩
    · refine w102 ch I1 _ _ _ _ (PI_n hP (fun l' k' hd hm' => ?_)) (inA_no ⟨k0, by omega⟩ (fun q => cm q.1) hi)
      rcases hd with q | q
      · exact Or.inl q
      · refine Or.inr ⟨q.1, q.2.1, ?_⟩
        by_cases ck : k' = k
        · rw [q.1, ck] at hm'; exact absurd hm' cm
        · omega
    · have w93 : ∀ (ft ch : Int) (I1 : mMm), PI I I1 j L z m la c (dnA L Td l k) → inA r L m B la z l T' c (I1 604 j m) (k + 1) ch → (¬ c.1 = -1 → ft = ftV L z la c l k) → mmK (d + 4) 69 Q 93 [some (mo 5 j), some (mo 3 0), some (mv m), some (mv la), some (mv ch), l5, some (mv l), some (mv (L 6 l * 6)), some (mv k), some (mv (L 6 l * 6 + k)), some (mv (L 9 (L 6 l * 6 + k))), some (mv (L 10 (L 6 l * 6 + k))), some (mv ft)] [] (I1, mmRf a br, X) := by
        intro ft ch I1 hP hi hft
        refine mmC_step ?_
        simp only [cd_69, sg_69_0, sg_69_13, sg_69_14, sg_69_19, sg_69_37, sg_69_73, sg_69_79, sg_69_93, sg_69_102, sg_69_104, sg_69_106, sg_69_111, mmK_cut cd_69, q_cons, q_G0, q_GS, q_I1, q_L1, q_A1, q_S0, q_S1, q_SS, q_T0, q_T1, q_TS, q_Kn, q_Ki, q_Kl, q_Kr, q_k0, q_kS, q_rc, q_ps, q_pn, q_aload0, q_getfieldA, q_getfieldI, q_istore2, q_iload2, q_if_le, q_iconst, q_isub, q_iaload, q_goto, q_istore3, q_istore, q_iload, q_icmp_ge, q_aload1, q_bipush, q_imul, q_iadd, q_icmp_ne, q_icmp_eq, q_iload3, q_if_eq, q_iastore, q_iinc, q_ireturn1, q_popI, q_popA, rf_3_10, rf_3_6, rf_3_8, rf_3_9, rf_5_2, rf_5_3, rf_5_4, rf_5_8, rf_5_9, mmKe_406, mmKe_408, mmKe_409, mmKe_410, mmKe_603, mmKe_604, mmKe_608, mmKe_609, mmKo_0, mmKo_3, mmKo_5, mmLen_406, mmLen_408, mmLen_409, mmLen_410, mmLen_603, mmLen_604, mmLen_608, mmLen_609, mmR32, mmR64, Option.some.injEq, Int.cast_ofNat_Int, and_true, true_and, if_true, if_false, List.length_cons, List.length_nil, Nat.le_refl, Nat.zero_le, Nat.sub_zero, forall_const, reduceCtorEq, Nat.reduceAdd, Nat.reduceSub, Nat.reduceLeDiff, Nat.reduceEqDiff, Int.reduceAdd, Int.reduceNeg, Int.reduceSub, Int.reduceLT, Int.reduceLE, Int.reduceMul, Int.reduceEq, List.drop_zero, List.drop_succ_cons, ne_eq, not_false_eq_true, not_true_eq_false, false_and, and_false, false_implies, true_implies, reduceIte, mmU_rd, implies_true, or_false, false_or, or_true, true_or]
        refine ⟨by omega, by omega, by omega, by omega, w102 ch _ _ _ _ _ (PI_f hP ⟨k0, g2⟩ cm hft (fun l' k' hd => ?_)) ?_⟩
        · rcases hd with q | q
          · exact ⟨⟨q.2.1, by have := nIf_in hW (hTd l' q.1); omega⟩, Or.inl (Or.inl q)⟩
          · refine ⟨⟨q.2.1, by omega⟩, ?_⟩
            by_cases ck : k' = k
            · exact Or.inr ⟨q.1, ck⟩
            · exact Or.inl (Or.inr ⟨q.1, q.2.1, by omega⟩)
        · have e : mmU I1 608 j (l * 6 + k) ft 604 j m = I1 604 j m := by unfold mmU; rw [if_neg (by omega)]
          rw [e]; exact hi
      have w73 : fitP L la l k → mmK (d + 4) 69 Q 73 [some (mo 5 j), some (mo 3 0), some (mv m), some (mv la), some (mv ch), l5, some (mv l), some (mv (L 6 l * 6)), some (mv k), some (mv (L 6 l * 6 + k)), some (mv (L 9 (L 6 l * 6 + k))), some (mv (L 10 (L 6 l * 6 + k))), some (mv (-3))] [] (I1, mmRf a br, X) := by
        intro hfit
        refine mmC_step ?_
        simp only [cd_69, sg_69_0, sg_69_13, sg_69_14, sg_69_19, sg_69_37, sg_69_73, sg_69_79, sg_69_93, sg_69_102, sg_69_104, sg_69_106, sg_69_111, mmK_cut cd_69, q_cons, q_G0, q_GS, q_I1, q_L1, q_A1, q_S0, q_S1, q_SS, q_T0, q_T1, q_TS, q_Kn, q_Ki, q_Kl, q_Kr, q_k0, q_kS, q_rc, q_ps, q_pn, q_aload0, q_getfieldA, q_getfieldI, q_istore2, q_iload2, q_if_le, q_iconst, q_isub, q_iaload, q_goto, q_istore3, q_istore, q_iload, q_icmp_ge, q_aload1, q_bipush, q_imul, q_iadd, q_icmp_ne, q_icmp_eq, q_iload3, q_if_eq, q_iastore, q_iinc, q_ireturn1, q_popI, q_popA, rf_3_10, rf_3_6, rf_3_8, rf_3_9, rf_5_2, rf_5_3, rf_5_4, rf_5_8, rf_5_9, mmKe_406, mmKe_408, mmKe_409, mmKe_410, mmKe_603, mmKe_604, mmKe_608, mmKe_609, mmKo_0, mmKo_3, mmKo_5, mmLen_406, mmLen_408, mmLen_409, mmLen_410, mmLen_603, mmLen_604, mmLen_608, mmLen_609, mmR32, mmR64, Option.some.injEq, Int.cast_ofNat_Int, and_true, true_and, if_true, if_false, List.length_cons, List.length_nil, Nat.le_refl, Nat.zero_le, Nat.sub_zero, forall_const, reduceCtorEq, Nat.reduceAdd, Nat.reduceSub, Nat.reduceLeDiff, Nat.reduceEqDiff, Int.reduceAdd, Int.reduceNeg, Int.reduceSub, Int.reduceLT, Int.reduceLE, Int.reduceMul, Int.reduceEq, List.drop_zero, List.drop_succ_cons, ne_eq, not_false_eq_true, not_true_eq_false, false_and, and_false, false_implies, true_implies, reduceIte, mmU_rd, implies_true, or_false, false_or, or_true, true_or]
        refine ⟨fun cc => ?_, fun cc => ?_⟩
        · refine mmC_step ?_
          simp only [cd_69, sg_69_0, sg_69_13, sg_69_14, sg_69_19, sg_69_37, sg_69_73, sg_69_79, sg_69_93, sg_69_102, sg_69_104, sg_69_106, sg_69_111, mmK_cut cd_69, q_cons, q_G0, q_GS, q_I1, q_L1, q_A1, q_S0, q_S1, q_SS, q_T0, q_T1, q_TS, q_Kn, q_Ki, q_Kl, q_Kr, q_k0, q_kS, q_rc, q_ps, q_pn, q_aload0, q_getfieldA, q_getfieldI, q_istore2, q_iload2, q_if_le, q_iconst, q_isub, q_iaload, q_goto, q_istore3, q_istore, q_iload, q_icmp_ge, q_aload1, q_bipush, q_imul, q_iadd, q_icmp_ne, q_icmp_eq, q_iload3, q_if_eq, q_iastore, q_iinc, q_ireturn1, q_popI, q_popA, rf_3_10, rf_3_6, rf_3_8, rf_3_9, rf_5_2, rf_5_3, rf_5_4, rf_5_8, rf_5_9, mmKe_406, mmKe_408, mmKe_409, mmKe_410, mmKe_603, mmKe_604, mmKe_608, mmKe_609, mmKo_0, mmKo_3, mmKo_5, mmLen_406, mmLen_408, mmLen_409, mmLen_410, mmLen_603, mmLen_604, mmLen_608, mmLen_609, mmR32, mmR64, Option.some.injEq, Int.cast_ofNat_Int, and_true, true_and, if_true, if_false, List.length_cons, List.length_nil, Nat.le_refl, Nat.zero_le, Nat.sub_zero, forall_const, reduceCtorEq, Nat.reduceAdd, Nat.reduceSub, Nat.reduceLeDiff, Nat.reduceEqDiff, Int.reduceAdd, Int.reduceNeg, Int.reduceSub, Int.reduceLT, Int.reduceLE, Int.reduceMul, Int.reduceEq, List.drop_zero, List.drop_succ_cons, ne_eq, not_false_eq_true, not_true_eq_false, false_and, and_false, false_implies, true_implies, reduceIte, mmU_rd, implies_true, or_false, false_or, or_true, true_or]
          rw [q_invV (pay := [])]
          simp only [q_k0, q_kS, q_rc, mmKo_0]
          refine ⟨Nat.le_of_ble_eq_true rfl, by trivial, Nat.zero_le _, Nat.zero_le _, ?_⟩
          refine mT_use (c_isLawful hb (CR_P hC hP.1) hq (BV_P hV hP.1) hB ⟨hm.1, by omega⟩ ⟨by omega, by omega⟩) (fun u I2 q2 => ?_)
          obtain ⟨rfl, f2⟩ := q2
          have hP2 := PI_A hP f2
          have ew : I2 604 j m = I1 604 j m := f2 _ _ _ (by omega) (by omega) (by omega)
          simp only [mmK_cut cd_69, q_cons, q_G0, q_GS, q_I1, q_L1, q_A1, q_S0, q_S1, q_SS, q_T0, q_T1, q_TS, q_Kn, q_Ki, q_Kl, q_Kr, q_k0, q_kS, q_rc, q_ps, q_pn, q_aload0, q_getfieldA, q_getfieldI, q_istore2, q_iload2, q_if_le, q_iconst, q_isub, q_iaload, q_goto, q_istore3, q_istore, q_iload, q_icmp_ge, q_aload1, q_bipush, q_imul, q_iadd, q_icmp_ne, q_icmp_eq, q_iload3, q_if_eq, q_iastore, q_iinc, q_ireturn1, q_popI, q_popA, rf_3_10, rf_3_6, rf_3_8, rf_3_9, rf_5_2, rf_5_3, rf_5_4, rf_5_8, rf_5_9, mmKe_406, mmKe_408, mmKe_409, mmKe_410, mmKe_603, mmKe_604, mmKe_608, mmKe_609, mmKo_0, mmKo_3, mmKo_5, mmLen_406, mmLen_408, mmLen_409, mmLen_410, mmLen_603, mmLen_604, mmLen_608, mmLen_609, mmR32, mmR64, Option.some.injEq, Int.cast_ofNat_Int, and_true, true_and, if_true, if_false, List.length_cons, List.length_nil, Nat.le_refl, Nat.zero_le, Nat.sub_zero, forall_const, reduceCtorEq, Nat.reduceAdd, Nat.reduceSub, Nat.reduceLeDiff, Nat.reduceEqDiff, Int.reduceAdd, Int.reduceNeg, Int.reduceSub, Int.reduceLT, Int.reduceLE, Int.reduceMul, Int.reduceEq, List.drop_zero, List.drop_succ_cons, ne_eq, not_false_eq_true, not_true_eq_false, false_and, and_false, false_implies, true_implies, reduceIte, mmU_rd, implies_true, or_false, false_or, or_true, true_or, bI_eq0]
          refine ⟨fun cl => ?_, fun cl => ?_⟩
          · have hn : ¬ ifP r L m B la l k := fun q => cl q.2.2
            refine w93 (-3) ch I2 hP2 (by rw [ew]; exact inA_no ⟨k0, by omega⟩ hn hi) (fun h1 => (ft_3 ⟨k0, by omega⟩ hfit hi cc hc0 hn hT' h1).symm)
          · have hp : ifP r L m B la l k := ⟨cm, hfit, Classical.not_not.mp cl⟩
            have ec := inA_yes ⟨k0, by omega⟩ hp hi cc hc0
            refine ⟨by omega, by omega, w93 1 _ _ (PI_w hP2) ?_ (fun h1 => (ft_1 hfit ec).symm)⟩
            have e : mmU I2 604 j m l 604 j m = l := by unfold mmU; rw [if_pos ⟨rfl, rfl, rfl⟩]
            rw [e]
            exact inA_Y (w := 0) ec hl.1
        · refine w93 (-2) ch I1 hP ?_ (fun h1 => (ft_2 hfit hi cc).symm)
          rcases hi with ⟨q1, q2⟩ | ⟨q1, q2, q3, q4⟩
          · exact absurd q1 cc
          · exact Or.inr ⟨q1, q2, q3, by omega⟩
      refine ⟨by omega, by omega, by omega, by omega, fun c1 => w73 (Or.inl c1), fun c1 => ⟨fun c2 => w73 (Or.inr c2), fun c2 => ?_⟩⟩
      have hnf : ¬ fitP L la l k := fun q => q.elim c1 c2
      exact w93 (-1) ch I1 hP (inA_no ⟨k0, by omega⟩ (fun q => hnf q.2.1) hi) (fun _ => (ft_n hnf).symm)
end S843
