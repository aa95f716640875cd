section S844
variable {d a j x : Nat} {I I1 I' I'' : mMm} {br : Nat → Option mmO} {R : Nat → Nat → Int → Option mmO} {X : mmX} {L : Nat → Int → Int} {r : mRu} {B : mBd} {m la z : Int} {c : Int × Int} {T Td T' : List Int} {Q : Option mmV → mmM → Prop}
def dnO (L : Nat → Int → Int) (Td : List Int) (l' k' : Int) : Prop := l' ∈ Td ∧ 0 ≤ k' ∧ k' < nIf L l'
def ouA (r : mRu) (L : Nat → Int → Int) (m : Int) (B : mBd) (la z : Int) (Ts : List Int) (c : Int × Int) (w ch : Int) : Prop :=
  (ch = -1 ∧ fl (ifP r L m B la) (nIf L) Ts = c) ∨ (ch = vlI L c ∧ ¬ c.1 = -1 ∧ w = c.1 ∧ ∀ l, l ∈ Ts → ¬ c.1 = l ∧ oW L z c.1 < oW L z l)
/-- what playFrom leaves behind -/
def PF (I : mMm) (j : Nat) (r : mRu) (L : Nat → Int → Int) (z m la : Int) (B : mBd) (c : Int × Int) (T : List Int) (u : Option mmV) (I' : mMm) : Prop :=
  (c.1 = -1 ∧ u = some (mv 0) ∧ PI I I' j L z m la c (dnO L T)) ∨ (¬ c.1 = -1 ∧ u = some (mv 1) ∧ ∃ I1, PI I I1 j L z m la c (dnO L T) ∧ I1 604 j m = c.1 ∧ FrD j (mmU I1 603 j m (vlI L c)) I' ∧ BV I' j (aft B (vlI L c)) (m + 1) r)
set_option maxHeartbeats 1000000 in
theorem c_playFrom (hb : br j = some (6, x)) (hC : CR I x r) (hq : RQ r) (hV : BV I j B m r) (hB : BW r B) (hm : 0 ≤ m ∧ m < 60) (hL : CL I L) (hW : LW L) (hT : TL L T) (hp : T.Pairwise (fun a b => oW L z a < oW L z b)) (hla0 : m = 0 → la = -1) (hla1 : 0 < m → I 603 j (m - 1) = la) (hA : LA (I 609 j) T) (hlen : I 5 j 10 = T.length) (hT16 : T.length ≤ 16) (hc : chF r L T m B la = c) : mmC (d + 5) 69 [mo 5 j, mo 3 0] (I, mmRf a br, X) (mT a br X (PF I j r L z m la B c T)) := by
  have h16 := hW.1
  have hin : ¬ c.1 = -1 → c.1 ∈ T ∧ (0 ≤ c.2 ∧ c.2 < nIf L c.1) ∧ ifP r L m B la c.1 c.2 := by
    intro h
    have := ch_in (r := r) (m := m) (B := B) (la := la) hT (by rw [hc]; exact h)
    rw [hc] at this
    exact this
  have hc0 : ¬ c.1 = -1 → 0 ≤ vlI L c := fun h => (if_in hW (hT _ (hin h).1) (hin h).2.1).2.2.2.2.1
  have key : ∀ (Ts Td : List Int) (ch : Int) (I1 : mMm) (l6 l7 l8 l9 l10 l11 l12 : Option mmV), Td ++ Ts = T → PI I I1 j L z m la c (dnO L Td) → ouA r L m B la z Ts c (I1 604 j m) ch → mmK (d + 4) 69 (mT a br X (PF I j r L z m la B c T)) 19 [some (mo 5 j), some (mo 3 0), some (mv m), some (mv la), some (mv ch), some (mv Td.length), l6, l7, l8, l9, l10, l11, l12] [] (I1, mmRf a br, X) := by
    intro Ts
    induction Ts with
    | nil =>
      intro Td ch I1 l6 l7 l8 l9 l10 l11 l12 hT hP hi
      rw [List.append_nil] at hT
      subst hT
      have e10 : I1 5 j 10 = Td.length := (hP.1 _ _ _ (by omega) (by omega) (by omega) (by omega) (by omega)).trans hlen
      refine mmC_step ?_
      simp only [cd_69, sg_69_0, sg_69_13, sg_69_14, sg_69_19, sg_69_37, sg_69_73, sg_69_79, sg_69_93, sg_69_102, sg_69_104, sg_69_106, sg_69_111, mmK_cut cd_69, q_cons, q_G0, q_GS, q_I1, q_L1, q_A1, q_S0, q_S1, q_SS, q_T0, q_T1, q_TS, q_Kn, q_Ki, q_Kl, q_Kr, q_k0, q_kS, q_rc, q_ps, q_pn, q_aload0, q_getfieldA, q_getfieldI, q_istore2, q_iload2, q_if_le, q_iconst, q_isub, q_iaload, q_goto, q_istore3, q_istore, q_iload, q_icmp_ge, q_aload1, q_bipush, q_imul, q_iadd, q_icmp_ne, q_icmp_eq, q_iload3, q_if_eq, q_iastore, q_iinc, q_ireturn1, q_popI, q_popA, rf_3_10, rf_3_6, rf_3_8, rf_3_9, rf_5_2, rf_5_3, rf_5_4, rf_5_8, rf_5_9, mmKe_406, mmKe_408, mmKe_409, mmKe_410, mmKe_603, mmKe_604, mmKe_608, mmKe_609, mmKo_0, mmKo_3, mmKo_5, mmLen_406, mmLen_408, mmLen_409, mmLen_410, mmLen_603, mmLen_604, mmLen_608, mmLen_609, mmR32, mmR64, Option.some.injEq, Int.cast_ofNat_Int, and_true, true_and, if_true, if_false, List.length_cons, List.length_nil, Nat.le_refl, Nat.zero_le, Nat.sub_zero, forall_const, reduceCtorEq, Nat.reduceAdd, Nat.reduceSub, Nat.reduceLeDiff, Nat.reduceEqDiff, Int.reduceAdd, Int.reduceNeg, Int.reduceSub, Int.reduceLT, Int.reduceLE, Int.reduceMul, Int.reduceEq, List.drop_zero, List.drop_succ_cons, ne_eq, not_false_eq_true, not_true_eq_false, false_and, and_false, false_implies, true_implies, reduceIte, mmU_rd, implies_true, or_false, false_or, or_true, true_or]
      rw [e10]
      refine ⟨fun _ => ?_, fun c => by omega⟩
      refine mmC_step ?_
      simp only [cd_69, sg_69_0, sg_69_13, sg_69_14, sg_69_19, sg_69_37, sg_69_73, sg_69_79, sg_69_93, sg_69_102, sg_69_104, sg_69_106, sg_69_111, mmK_cut cd_69, q_cons, q_G0, q_GS, q_I1, q_L1, q_A1, q_S0, q_S1, q_SS, q_T0, q_T1, q_TS, q_Kn, q_Ki, q_Kl, q_Kr, q_k0, q_kS, q_rc, q_ps, q_pn, q_aload0, q_getfieldA, q_getfieldI, q_istore2, q_iload2, q_if_le, q_iconst, q_isub, q_iaload, q_goto, q_istore3, q_istore, q_iload, q_icmp_ge, q_aload1, q_bipush, q_imul, q_iadd, q_icmp_ne, q_icmp_eq, q_iload3, q_if_eq, q_iastore, q_iinc, q_ireturn1, q_popI, q_popA, rf_3_10, rf_3_6, rf_3_8, rf_3_9, rf_5_2, rf_5_3, rf_5_4, rf_5_8, rf_5_9, mmKe_406, mmKe_408, mmKe_409, mmKe_410, mmKe_603, mmKe_604, mmKe_608, mmKe_609, mmKo_0, mmKo_3, mmKo_5, mmLen_406, mmLen_408, mmLen_409, mmLen_410, mmLen_603, mmLen_604, mmLen_608, mmLen_609, mmR32, mmR64, Option.some.injEq, Int.cast_ofNat_Int, and_true, true_and, if_true, if_false, List.length_cons, List.length_nil, Nat.le_refl, Nat.zero_le, Nat.sub_zero, forall_const, reduceCtorEq, Nat.reduceAdd, Nat.reduceSub, Nat.reduceLeDiff, Nat.reduceEqDiff, Int.reduceAdd, Int.reduceNeg, Int.reduceSub, Int.reduceLT, Int.reduceLE, Int.reduceMul, Int.reduceEq, List.drop_zero, List.drop_succ_cons, ne_eq, not_false_eq_true, not_true_eq_false, false_and, and_false, false_implies, true_implies, reduceIte, mmU_rd, implies_true, or_false, false_or, or_true, true_or]
      rcases hi with ⟨q1, q2⟩ | ⟨q1, q2, q3, _⟩
      · have ec : c.1 = -1 := by rw [← q2]; rfl
        refine ⟨fun c => absurd q1 c, fun _ => mT_in (Or.inl ⟨ec, rfl, hP⟩)⟩
      · have hv := hc0 q2
        have hif := hin q2
        have hok : MvOk r B m (vlI L c) (vlI L c / 64) (vlI L c % 64) := mv_ok hq hB hv hif.2.2.2.2
        refine ⟨fun _ => ?_, fun c => by omega⟩
        refine mmC_step ?_
        simp only [cd_69, sg_69_0, sg_69_13, sg_69_14, sg_69_19, sg_69_37, sg_69_73, sg_69_79, sg_69_93, sg_69_102, sg_69_104, sg_69_106, sg_69_111, mmK_cut cd_69, q_cons, q_G0, q_GS, q_I1, q_L1, q_A1, q_S0, q_S1, q_SS, q_T0, q_T1, q_TS, q_Kn, q_Ki, q_Kl, q_Kr, q_k0, q_kS, q_rc, q_ps, q_pn, q_aload0, q_getfieldA, q_getfieldI, q_istore2, q_iload2, q_if_le, q_iconst, q_isub, q_iaload, q_goto, q_istore3, q_istore, q_iload, q_icmp_ge, q_aload1, q_bipush, q_imul, q_iadd, q_icmp_ne, q_icmp_eq, q_iload3, q_if_eq, q_iastore, q_iinc, q_ireturn1, q_popI, q_popA, rf_3_10, rf_3_6, rf_3_8, rf_3_9, rf_5_2, rf_5_3, rf_5_4, rf_5_8, rf_5_9, mmKe_406, mmKe_408, mmKe_409, mmKe_410, mmKe_603, mmKe_604, mmKe_608, mmKe_609, mmKo_0, mmKo_3, mmKo_5, mmLen_406, mmLen_408, mmLen_409, mmLen_410, mmLen_603, mmLen_604, mmLen_608, mmLen_609, mmR32, mmR64, Option.some.injEq, Int.cast_ofNat_Int, and_true, true_and, if_true, if_false, List.length_cons, List.length_nil, Nat.le_refl, Nat.zero_le, Nat.sub_zero, forall_const, reduceCtorEq, Nat.reduceAdd, Nat.reduceSub, Nat.reduceLeDiff, Nat.reduceEqDiff, Int.reduceAdd, Int.reduceNeg, Int.reduceSub, Int.reduceLT, Int.reduceLE, Int.reduceMul, Int.reduceEq, List.drop_zero, List.drop_succ_cons, ne_eq, not_false_eq_true, not_true_eq_false, false_and, and_false, false_implies, true_implies, reduceIte, mmU_rd, implies_true, or_false, false_or, or_true, true_or]
        refine ⟨hm.1, by omega, ?_⟩
        rw [q1]
        have hfr : FrP j m I I1 := hP.1
        have hC1 := CR_P hC hfr
        have hV1 := BV_P hV hfr
        have hC2 : CR (mmU I1 603 j m (vlI L c)) x r := fun t k ht => by
          unfold mmU
          rw [if_neg (by unfold rtag at ht; omega)]
          exact hC1 t k ht
        have hV2 : BV (mmU I1 603 j m (vlI L c)) j B m r := BV_ext hV1 (fun t z ht => by unfold mmU; rw [if_neg (by omega)]) (by unfold mmU; rw [if_neg (by omega)])
        rw [q_invV (pay := [])]
        simp only [q_k0, q_kS, q_rc, mmKo_0]
        refine ⟨Nat.le_of_ble_eq_true rfl, by trivial, Nat.zero_le _, Nat.zero_le _, ?_⟩
        refine mT_use (c_make hok.1 hb hC2 hq.1 hV2 hB ⟨hm.1, by omega⟩ hok.2.1 hok.2.2.1 hok.2.2.2.1) (fun u I2 q4 => ?_)
        obtain ⟨rfl, f2, v2⟩ := q4
        simp only [mmK_cut cd_69, q_cons, q_G0, q_GS, q_I1, q_L1, q_A1, q_S0, q_S1, q_SS, q_T0, q_T1, q_TS, q_Kn, q_Ki, q_Kl, q_Kr, q_k0, q_kS, q_rc, q_ps, q_pn, q_aload0, q_getfieldA, q_getfieldI, q_istore2, q_iload2, q_if_le, q_iconst, q_isub, q_iaload, q_goto, q_istore3, q_istore, q_iload, q_icmp_ge, q_aload1, q_bipush, q_imul, q_iadd, q_icmp_ne, q_icmp_eq, q_iload3, q_if_eq, q_iastore, q_iinc, q_ireturn1, q_popI, q_popA, rf_3_10, rf_3_6, rf_3_8, rf_3_9, rf_5_2, rf_5_3, rf_5_4, rf_5_8, rf_5_9, mmKe_406, mmKe_408, mmKe_409, mmKe_410, mmKe_603, mmKe_604, mmKe_608, mmKe_609, mmKo_0, mmKo_3, mmKo_5, mmLen_406, mmLen_408, mmLen_409, mmLen_410, mmLen_603, mmLen_604, mmLen_608, mmLen_609, mmR32, mmR64, Option.some.injEq, Int.cast_ofNat_Int, and_true, true_and, if_true, if_false, List.length_cons, List.length_nil, Nat.le_refl, Nat.zero_le, Nat.sub_zero, forall_const, reduceCtorEq, Nat.reduceAdd, Nat.reduceSub, Nat.reduceLeDiff, Nat.reduceEqDiff, Int.reduceAdd, Int.reduceNeg, Int.reduceSub, Int.reduceLT, Int.reduceLE, Int.reduceMul, Int.reduceEq, List.drop_zero, List.drop_succ_cons, ne_eq, not_false_eq_true, not_true_eq_false, false_and, and_false, false_implies, true_implies, reduceIte, mmU_rd, implies_true, or_false, false_or, or_true, true_or]
        exact mT_in (Or.inr ⟨q2, rfl, I1, hP, q3, f2, v2⟩)
    | cons l T' ih =>
      intro Td ch I1 l6 l7 l8 l9 l10 l11 l12 hTT hP hi
      have hlT : l ∈ T := by rw [← hTT]; exact List.mem_append_right _ (List.mem_cons_self ..)
      have hl := hT l hlT
      have hL1 := CL_P hL hP.1
      have e10 : I1 5 j 10 = T.length := (hP.1 _ _ _ (by omega) (by omega) (by omega) (by omega) (by omega)).trans hlen
      have elen : T.length = Td.length + T'.length + 1 := by rw [← hTT, List.length_append, List.length_cons]; omega
      have e609 : I1 609 j Td.length = l := by
        rw [hP.1 _ _ _ (by omega) (by omega) (by omega) (by omega) (by omega), hA Td.length (by omega), ← hTT, List.getD_eq_getElem?_getD, List.getElem?_append_right (Nat.le_refl _), Nat.sub_self]
        rfl
      have e6 : I1 406 0 l = L 6 l := hL1 6 l (by omega)
      have hN := nIf_in hW hl
      have hT' : ∀ e, e ∈ T' → ¬ e = l ∧ oW L z l < oW L z e := by
        intro e he
        rw [← hTT, List.pairwise_append, List.pairwise_cons] at hp
        have := hp.2.1.1 e he
        exact ⟨fun q => by rw [q] at this; omega, this⟩
      have hTd : ∀ e, e ∈ Td → 0 ≤ e ∧ e < L 0 0 := fun e he => hT e (by rw [← hTT]; exact List.mem_append_left _ he)
      have hi2 : inA r L m B la z l T' c (I1 604 j m) 0 ch := by
        rcases hi with ⟨q1, q2⟩ | ⟨q1, q2, q3, q4⟩
        · refine Or.inl ⟨q1, fun q => ?_, fun q => ?_⟩
          · rw [show nIf L l - 0 = nIf L l by omega] at q
            rw [← q2, fl_pos q]
          · rw [show nIf L l - 0 = nIf L l by omega] at q ⊢
            rw [← q2, fl_neg q]
        · exact Or.inr ⟨q1, q2, q3, Or.inr (q4 l (List.mem_cons_self ..))⟩
      refine mmC_step ?_
      simp only [cd_69, sg_69_0, sg_69_13, sg_69_14, sg_69_19, sg_69_37, sg_69_73, sg_69_79, sg_69_93, sg_69_102, sg_69_104, sg_69_106, sg_69_111, mmK_cut cd_69, q_cons, q_G0, q_GS, q_I1, q_L1, q_A1, q_S0, q_S1, q_SS, q_T0, q_T1, q_TS, q_Kn, q_Ki, q_Kl, q_Kr, q_k0, q_kS, q_rc, q_ps, q_pn, q_aload0, q_getfieldA, q_getfieldI, q_istore2, q_iload2, q_if_le, q_iconst, q_isub, q_iaload, q_goto, q_istore3, q_istore, q_iload, q_icmp_ge, q_aload1, q_bipush, q_imul, q_iadd, q_icmp_ne, q_icmp_eq, q_iload3, q_if_eq, q_iastore, q_iinc, q_ireturn1, q_popI, q_popA, rf_3_10, rf_3_6, rf_3_8, rf_3_9, rf_5_2, rf_5_3, rf_5_4, rf_5_8, rf_5_9, mmKe_406, mmKe_408, mmKe_409, mmKe_410, mmKe_603, mmKe_604, mmKe_608, mmKe_609, mmKo_0, mmKo_3, mmKo_5, mmLen_406, mmLen_408, mmLen_409, mmLen_410, mmLen_603, mmLen_604, mmLen_608, mmLen_609, mmR32, mmR64, Option.some.injEq, Int.cast_ofNat_Int, and_true, true_and, if_true, if_false, List.length_cons, List.length_nil, Nat.le_refl, Nat.zero_le, Nat.sub_zero, forall_const, reduceCtorEq, Nat.reduceAdd, Nat.reduceSub, Nat.reduceLeDiff, Nat.reduceEqDiff, Int.reduceAdd, Int.reduceNeg, Int.reduceSub, Int.reduceLT, Int.reduceLE, Int.reduceMul, Int.reduceEq, List.drop_zero, List.drop_succ_cons, ne_eq, not_false_eq_true, not_true_eq_false, false_and, and_false, false_implies, true_implies, reduceIte, mmU_rd, implies_true, or_false, false_or, or_true, true_or]
      rw [e10, e609, e6]
      refine ⟨fun c => by omega, fun _ => ⟨by omega, by omega, by omega, by omega, by omega, ?_⟩⟩
      refine c_playI (Td := Td) (T' := T') (l := l) hb hC hq hV hB hm hL hW hl hTd hT' hc0 (fun ch I2 l8 l9 l10 l11 l12 hP2 hi3 => ?_) (nIf L l).toNat 0 ch I1 _ _ _ _ (by omega) (by omega) (PI_n hP (fun l' k' hd _ => ?_)) hi2
      · refine mmC_step ?_
        simp only [cd_69, sg_69_0, sg_69_13, sg_69_14, sg_69_19, sg_69_37, sg_69_73, sg_69_79, sg_69_93, sg_69_102, sg_69_104, sg_69_106, sg_69_111, mmK_cut cd_69, q_cons, q_G0, q_GS, q_I1, q_L1, q_A1, q_S0, q_S1, q_SS, q_T0, q_T1, q_TS, q_Kn, q_Ki, q_Kl, q_Kr, q_k0, q_kS, q_rc, q_ps, q_pn, q_aload0, q_getfieldA, q_getfieldI, q_istore2, q_iload2, q_if_le, q_iconst, q_isub, q_iaload, q_goto, q_istore3, q_istore, q_iload, q_icmp_ge, q_aload1, q_bipush, q_imul, q_iadd, q_icmp_ne, q_icmp_eq, q_iload3, q_if_eq, q_iastore, q_iinc, q_ireturn1, q_popI, q_popA, rf_3_10, rf_3_6, rf_3_8, rf_3_9, rf_5_2, rf_5_3, rf_5_4, rf_5_8, rf_5_9, mmKe_406, mmKe_408, mmKe_409, mmKe_410, mmKe_603, mmKe_604, mmKe_608, mmKe_609, mmKo_0, mmKo_3, mmKo_5, mmLen_406, mmLen_408, mmLen_409, mmLen_410, mmLen_603, mmLen_604, mmLen_608, mmLen_609, mmR32, mmR64, Option.some.injEq, Int.cast_ofNat_Int, and_true, true_and, if_true, if_false, List.length_cons, List.length_nil, Nat.le_refl, Nat.zero_le, Nat.sub_zero, forall_const, reduceCtorEq, Nat.reduceAdd, Nat.reduceSub, Nat.reduceLeDiff, Nat.reduceEqDiff, Int.reduceAdd, Int.reduceNeg, Int.reduceSub, Int.reduceLT, Int.reduceLE, Int.reduceMul, Int.reduceEq, List.drop_zero, List.drop_succ_cons, ne_eq, not_false_eq_true, not_true_eq_false, false_and, and_false, false_implies, true_implies, reduceIte, mmU_rd, implies_true, or_false, false_or, or_true, true_or]
        have := ih (Td ++ [l]) ch I2 (some (mv l)) (some (mv (L 6 l * 6))) l8 l9 l10 l11 l12 (by rw [List.append_assoc]; exact hTT) (PI_n hP2 (fun l' k' hd _ => ?_)) ?_
        · rw [List.length_append, List.length_singleton] at this
          exact ⟨by omega, this⟩
        · rcases List.mem_append.mp hd.1 with q | q
          · exact Or.inl ⟨q, hd.2⟩
          · rw [List.mem_singleton] at q
            exact Or.inr ⟨q, hd.2.1, by rw [← q]; exact hd.2.2⟩
        · rcases hi3 with ⟨q1, q2, q3⟩ | ⟨q1, q2, q3, q4⟩
          · refine Or.inl ⟨q1, q2 ?_⟩
            rw [show (nIf L l - nIf L l).toNat = 0 by omega]
            rfl
          · refine Or.inr ⟨q1, q2, q3, fun e he => ?_⟩
            have := hT' e he
            rcases q4 with q | q
            · rw [q.1]; exact ⟨fun q => this.1 q.symm, this.2⟩
            · exact ⟨fun q5 => by rw [q5] at q; omega, by omega⟩
      · rcases hd with q | q
        · exact q
        · omega
  have w14 : mmK (d + 4) 69 (mT a br X (PF I j r L z m la B c T)) 14 [some (mo 5 j), some (mo 3 0), some (mv m), none, none, none, none, none, none, none, none, none, none] [mv la] (I, mmRf a br, X) := by
    refine mmC_step ?_
    simp only [cd_69, sg_69_0, sg_69_13, sg_69_14, sg_69_19, sg_69_37, sg_69_73, sg_69_79, sg_69_93, sg_69_102, sg_69_104, sg_69_106, sg_69_111, mmK_cut cd_69, q_cons, q_G0, q_GS, q_I1, q_L1, q_A1, q_S0, q_S1, q_SS, q_T0, q_T1, q_TS, q_Kn, q_Ki, q_Kl, q_Kr, q_k0, q_kS, q_rc, q_ps, q_pn, q_aload0, q_getfieldA, q_getfieldI, q_istore2, q_iload2, q_if_le, q_iconst, q_isub, q_iaload, q_goto, q_istore3, q_istore, q_iload, q_icmp_ge, q_aload1, q_bipush, q_imul, q_iadd, q_icmp_ne, q_icmp_eq, q_iload3, q_if_eq, q_iastore, q_iinc, q_ireturn1, q_popI, q_popA, rf_3_10, rf_3_6, rf_3_8, rf_3_9, rf_5_2, rf_5_3, rf_5_4, rf_5_8, rf_5_9, mmKe_406, mmKe_408, mmKe_409, mmKe_410, mmKe_603, mmKe_604, mmKe_608, mmKe_609, mmKo_0, mmKo_3, mmKo_5, mmLen_406, mmLen_408, mmLen_409, mmLen_410, mmLen_603, mmLen_604, mmLen_608, mmLen_609, mmR32, mmR64, Option.some.injEq, Int.cast_ofNat_Int, and_true, true_and, if_true, if_false, List.length_cons, List.length_nil, Nat.le_refl, Nat.zero_le, Nat.sub_zero, forall_const, reduceCtorEq, Nat.reduceAdd, Nat.reduceSub, Nat.reduceLeDiff, Nat.reduceEqDiff, Int.reduceAdd, Int.reduceNeg, Int.reduceSub, Int.reduceLT, Int.reduceLE, Int.reduceMul, Int.reduceEq, List.drop_zero, List.drop_succ_cons, ne_eq, not_false_eq_true, not_true_eq_false, false_and, and_false, false_implies, true_implies, reduceIte, mmU_rd, implies_true, or_false, false_or, or_true, true_or]
    exact key T [] (-1) I _ _ _ _ _ _ _ rfl ⟨FrP_refl, fun l k hd => absurd hd.1 List.not_mem_nil, fun _ _ _ _ _ => rfl⟩ (Or.inl ⟨rfl, hc⟩)
  refine mmC_in (by decide) (Nat.le_of_ble_eq_true rfl) (mmC_step ?_)
  simp only [show mmMl 69 = 13 from rfl, mmLs, List.replicate, cd_69, sg_69_0, sg_69_13, sg_69_14, sg_69_19, sg_69_37, sg_69_73, sg_69_79, sg_69_93, sg_69_102, sg_69_104, sg_69_106, sg_69_111, mmK_cut cd_69, q_cons, q_G0, q_GS, q_I1, q_L1, q_A1, q_S0, q_S1, q_SS, q_T0, q_T1, q_TS, q_Kn, q_Ki, q_Kl, q_Kr, q_k0, q_kS, q_rc, q_ps, q_pn, q_aload0, q_getfieldA, q_getfieldI, q_istore2, q_iload2, q_if_le, q_iconst, q_isub, q_iaload, q_goto, q_istore3, q_istore, q_iload, q_icmp_ge, q_aload1, q_bipush, q_imul, q_iadd, q_icmp_ne, q_icmp_eq, q_iload3, q_if_eq, q_iastore, q_iinc, q_ireturn1, q_popI, q_popA, rf_3_10, rf_3_6, rf_3_8, rf_3_9, rf_5_2, rf_5_3, rf_5_4, rf_5_8, rf_5_9, mmKe_406, mmKe_408, mmKe_409, mmKe_410, mmKe_603, mmKe_604, mmKe_608, mmKe_609, mmKo_0, mmKo_3, mmKo_5, mmLen_406, mmLen_408, mmLen_409, mmLen_410, mmLen_603, mmLen_604, mmLen_608, mmLen_609, mmR32, mmR64, Option.some.injEq, Int.cast_ofNat_Int, and_true, true_and, if_true, if_false, List.length_cons, List.length_nil, Nat.le_refl, Nat.zero_le, Nat.sub_zero, forall_const, reduceCtorEq, Nat.reduceAdd, Nat.reduceSub, Nat.reduceLeDiff, Nat.reduceEqDiff, Int.reduceAdd, Int.reduceNeg, Int.reduceSub, Int.reduceLT, Int.reduceLE, Int.reduceMul, Int.reduceEq, List.drop_zero, List.drop_succ_cons, ne_eq, not_false_eq_true, not_true_eq_false, false_and, and_false, false_implies, true_implies, reduceIte, mmU_rd, implies_true, or_false, false_or, or_true, true_or]
  rw [hV.2.1]
  refine ⟨fun c => ?_, fun c => ?_⟩
  · have := hla0 (by omega)
    rw [this] at w14
    refine mmC_step ?_
    simp only [cd_69, sg_69_0, sg_69_13, sg_69_14, sg_69_19, sg_69_37, sg_69_73, sg_69_79, sg_69_93, sg_69_102, sg_69_104, sg_69_106, sg_69_111, mmK_cut cd_69, q_cons, q_G0, q_GS, q_I1, q_L1, q_A1, q_S0, q_S1, q_SS, q_T0, q_T1, q_TS, q_Kn, q_Ki, q_Kl, q_Kr, q_k0, q_kS, q_rc, q_ps, q_pn, q_aload0, q_getfieldA, q_getfieldI, q_istore2, q_iload2, q_if_le, q_iconst, q_isub, q_iaload, q_goto, q_istore3, q_istore, q_iload, q_icmp_ge, q_aload1, q_bipush, q_imul, q_iadd, q_icmp_ne, q_icmp_eq, q_iload3, q_if_eq, q_iastore, q_iinc, q_ireturn1, q_popI, q_popA, rf_3_10, rf_3_6, rf_3_8, rf_3_9, rf_5_2, rf_5_3, rf_5_4, rf_5_8, rf_5_9, mmKe_406, mmKe_408, mmKe_409, mmKe_410, mmKe_603, mmKe_604, mmKe_608, mmKe_609, mmKo_0, mmKo_3, mmKo_5, mmLen_406, mmLen_408, mmLen_409, mmLen_410, mmLen_603, mmLen_604, mmLen_608, mmLen_609, mmR32, mmR64, Option.some.injEq, Int.cast_ofNat_Int, and_true, true_and, if_true, if_false, List.length_cons, List.length_nil, Nat.le_refl, Nat.zero_le, Nat.sub_zero, forall_const, reduceCtorEq, Nat.reduceAdd, Nat.reduceSub, Nat.reduceLeDiff, Nat.reduceEqDiff, Int.reduceAdd, Int.reduceNeg, Int.reduceSub, Int.reduceLT, Int.reduceLE, Int.reduceMul, Int.reduceEq, List.drop_zero, List.drop_succ_cons, ne_eq, not_false_eq_true, not_true_eq_false, false_and, and_false, false_implies, true_implies, reduceIte, mmU_rd, implies_true, or_false, false_or, or_true, true_or]
    rw [this]
    exact w14
  · rw [hla1 (by omega)]
    exact ⟨by omega, by omega, by omega, w14⟩
end S844
