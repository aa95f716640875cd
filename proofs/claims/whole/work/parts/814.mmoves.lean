def FrV (b : Int) (I I' : mMm) : Prop := ∀ t i k, ¬ (t = 11 ∧ k = 58) → ¬ t = 1256 → ¬ t = 1257 → ¬ (t = 1261 ∧ k = b) → ¬ (t = 1262 ∧ 200 * b ≤ k ∧ k < 200 * b + 200) → I' t i k = I t i k
def ML (I : mMm) (b : Int) (L : List Int) : Prop := I 1261 0 b = L.length ∧ ∀ n : Nat, n < L.length → I 1262 0 (200 * b + n) = L.getD n 0
section S814
variable {d a : Nat} {I I' I'' : mMm} {br : Nat → Option mmO} {R : Nat → Nat → Int → Option mmO} {X : mmX} {B : mBd} {m fr b : Int} {r : mRu} {Q : Option mmV → mmM → Prop}
theorem FrV_trans (h : FrV b I I') (h' : FrV b I' I'') : FrV b I I'' := fun t i k c1 c2 c3 c4 c5 => (h' t i k c1 c2 c3 c4 c5).trans (h t i k c1 c2 c3 c4 c5)
theorem FrV_refl : FrV b I I := fun _ _ _ _ _ _ _ _ => rfl
theorem FrV_W (h : FrW I I') : FrV b I I' := fun t i k c1 c2 c3 _ _ => h t i k c1 c2 c3
theorem RK_V (h : RK r I) (hf : FrV b I I') : RK r I' := RK_ext h (fun k hk => hf _ _ _ (by omega) (by decide) (by decide) (by omega) (by omega)) (fun t k h1 h2 => hf _ _ _ (by omega) (by omega) (by omega) (by omega) (by omega))
theorem MB_V {b' : Int} (h : MB I b' B) (hf : FrV b I I') : MB I' b' B := fun z z0 z1 => (hf _ _ _ (by omega) (by decide) (by decide) (by omega) (by omega)).trans (h z z0 z1)
theorem ML_W {L : List Int} (h : ML I b L) (hf : FrW I I') : ML I' b L := ⟨(hf _ _ _ (by omega) (by decide) (by decide)).trans h.1, fun n hn => (hf _ _ _ (by omega) (by decide) (by decide)).trans (h.2 n hn)⟩
theorem m_finds {v : Int} {L : List Int} (hL : ML I b L) (hb : 0 ≤ b ∧ b < 72) (hc : ¬ v ∈ L → L.length < 200) (hl2 : L.length ≤ 200) : mmC (d + 1) 198 [mo 11 0, mv b, mv v] (I, mmRf a br, X) (mT a br X fun u I' => u = none ∧ FrV b I I' ∧ ML I' b (if v ∈ L then L else L ++ [v])) := by
  have key : ∀ (q n : Nat), n + q = L.length → (∀ k : Nat, k < n → ¬ L.getD k 0 = v) → mmK d 198 (mT a br X fun u I' => u = none ∧ FrV b I I' ∧ ML I' b (if v ∈ L then L else L ++ [v])) 2 [some (mo 11 0), some (mv b), some (mv v), some (mv n)] [] (I, mmRf a br, X) := by
    intro q
    induction q with
    | zero =>
      intro n hn hz
      have hv : ¬ v ∈ L := by
        intro h
        obtain ⟨k, hk, e⟩ := List.getElem_of_mem h
        apply hz k (by omega)
        rw [List.getD_eq_getElem?_getD, List.getElem?_eq_getElem hk, e]
        rfl
      have hlt := hc hv
      rw [if_neg hv]
      refine mmC_step ?_
      simp only [cd_198, sg_198_0, sg_198_2, sg_198_19, sg_198_21, mmK_cut cd_198, q_cons, q_G0, q_GS, q_I1, q_L1, q_A1, q_S0, q_S1, q_SS, q_T0, q_T1, q_TS, q_Kn, q_Ki, q_Kl, q_Kr, q_k0, q_kS, q_rc, q_ps, q_pn, q_iconst, q_istore3, q_iload3, q_aload0, q_getfieldA, q_iload1, q_iaload, q_icmp_ge, q_sipush, q_imul, q_iadd, q_iload2, q_icmp_ne, q_return, q_iinc, q_goto, q_iastore, q_dup2, rf_11_61, rf_11_62, mmKe_1261, mmKe_1262, mmKo_11, mmLen_1261, mmLen_1262, mmR32, mmR64, Option.some.injEq, Int.cast_ofNat_Int, and_true, true_and, if_true, if_false, List.length_cons, List.length_nil, Nat.le_refl, Nat.zero_le, Nat.sub_zero, forall_const, reduceCtorEq, Nat.reduceAdd, Nat.reduceSub, Nat.reduceLeDiff, Nat.reduceEqDiff, Int.reduceAdd, Int.reduceNeg, Int.reduceSub, Int.reduceLT, Int.reduceLE, Int.reduceMul, Int.reduceEq, List.drop_zero, List.drop_succ_cons, ne_eq, not_false_eq_true, not_true_eq_false, false_and, and_false, false_implies, true_implies, reduceIte, mmU_rd, implies_true, or_false, false_or, or_true, true_or]
      rw [hL.1]
      refine ⟨hb.1, hb.2, fun _ => ?_, fun c => by omega⟩
      refine mmC_step ?_
      simp only [cd_198, sg_198_0, sg_198_2, sg_198_19, sg_198_21, mmK_cut cd_198, q_cons, q_G0, q_GS, q_I1, q_L1, q_A1, q_S0, q_S1, q_SS, q_T0, q_T1, q_TS, q_Kn, q_Ki, q_Kl, q_Kr, q_k0, q_kS, q_rc, q_ps, q_pn, q_iconst, q_istore3, q_iload3, q_aload0, q_getfieldA, q_iload1, q_iaload, q_icmp_ge, q_sipush, q_imul, q_iadd, q_iload2, q_icmp_ne, q_return, q_iinc, q_goto, q_iastore, q_dup2, rf_11_61, rf_11_62, mmKe_1261, mmKe_1262, mmKo_11, mmLen_1261, mmLen_1262, mmR32, mmR64, Option.some.injEq, Int.cast_ofNat_Int, and_true, true_and, if_true, if_false, List.length_cons, List.length_nil, Nat.le_refl, Nat.zero_le, Nat.sub_zero, forall_const, reduceCtorEq, Nat.reduceAdd, Nat.reduceSub, Nat.reduceLeDiff, Nat.reduceEqDiff, Int.reduceAdd, Int.reduceNeg, Int.reduceSub, Int.reduceLT, Int.reduceLE, Int.reduceMul, Int.reduceEq, List.drop_zero, List.drop_succ_cons, ne_eq, not_false_eq_true, not_true_eq_false, false_and, and_false, false_implies, true_implies, reduceIte, mmU_rd, implies_true, or_false, false_or, or_true, true_or]
      rw [hL.1]
      refine ⟨by omega, hb.1, hb.2, by omega, by omega, by omega, hb.1, hb.2, by omega, hb.1, hb.2, ?_⟩
      refine mT_in ⟨rfl, fun t i k c1 c2 c3 c4 c5 => ?_, ?_, fun k hk => ?_⟩
      · unfold mmU
        rw [if_neg (fun q => c4 ⟨q.1, q.2.2⟩), if_neg (fun q => c5 ⟨q.1, by omega, by omega⟩)]
      · rw [mmU_same, List.length_append, List.length_singleton]; omega
      · rw [List.length_append, List.length_singleton] at hk
        unfold mmU
        rw [if_neg (by omega)]
        by_cases c : k = L.length
        · rw [if_pos ⟨rfl, rfl, by omega⟩, c]; simp
        · rw [if_neg (by omega), hL.2 k (by omega), List.getD_eq_getElem?_getD, List.getD_eq_getElem?_getD, List.getElem?_append_left (by omega)]
    | succ q ih =>
      intro n hn hz
      have e := hL.2 n (by omega)
      refine mmC_step ?_
      simp only [cd_198, sg_198_0, sg_198_2, sg_198_19, sg_198_21, mmK_cut cd_198, q_cons, q_G0, q_GS, q_I1, q_L1, q_A1, q_S0, q_S1, q_SS, q_T0, q_T1, q_TS, q_Kn, q_Ki, q_Kl, q_Kr, q_k0, q_kS, q_rc, q_ps, q_pn, q_iconst, q_istore3, q_iload3, q_aload0, q_getfieldA, q_iload1, q_iaload, q_icmp_ge, q_sipush, q_imul, q_iadd, q_iload2, q_icmp_ne, q_return, q_iinc, q_goto, q_iastore, q_dup2, rf_11_61, rf_11_62, mmKe_1261, mmKe_1262, mmKo_11, mmLen_1261, mmLen_1262, mmR32, mmR64, Option.some.injEq, Int.cast_ofNat_Int, and_true, true_and, if_true, if_false, List.length_cons, List.length_nil, Nat.le_refl, Nat.zero_le, Nat.sub_zero, forall_const, reduceCtorEq, Nat.reduceAdd, Nat.reduceSub, Nat.reduceLeDiff, Nat.reduceEqDiff, Int.reduceAdd, Int.reduceNeg, Int.reduceSub, Int.reduceLT, Int.reduceLE, Int.reduceMul, Int.reduceEq, List.drop_zero, List.drop_succ_cons, ne_eq, not_false_eq_true, not_true_eq_false, false_and, and_false, false_implies, true_implies, reduceIte, mmU_rd, implies_true, or_false, false_or, or_true, true_or]
      rw [hL.1, e]
      refine ⟨hb.1, hb.2, fun c => by omega, fun _ => ⟨by omega, by omega, by omega, by omega, fun c => ?_, fun c => ?_⟩⟩
      · refine mmC_step ?_
        simp only [cd_198, sg_198_0, sg_198_2, sg_198_19, sg_198_21, mmK_cut cd_198, q_cons, q_G0, q_GS, q_I1, q_L1, q_A1, q_S0, q_S1, q_SS, q_T0, q_T1, q_TS, q_Kn, q_Ki, q_Kl, q_Kr, q_k0, q_kS, q_rc, q_ps, q_pn, q_iconst, q_istore3, q_iload3, q_aload0, q_getfieldA, q_iload1, q_iaload, q_icmp_ge, q_sipush, q_imul, q_iadd, q_iload2, q_icmp_ne, q_return, q_iinc, q_goto, q_iastore, q_dup2, rf_11_61, rf_11_62, mmKe_1261, mmKe_1262, mmKo_11, mmLen_1261, mmLen_1262, mmR32, mmR64, Option.some.injEq, Int.cast_ofNat_Int, and_true, true_and, if_true, if_false, List.length_cons, List.length_nil, Nat.le_refl, Nat.zero_le, Nat.sub_zero, forall_const, reduceCtorEq, Nat.reduceAdd, Nat.reduceSub, Nat.reduceLeDiff, Nat.reduceEqDiff, Int.reduceAdd, Int.reduceNeg, Int.reduceSub, Int.reduceLT, Int.reduceLE, Int.reduceMul, Int.reduceEq, List.drop_zero, List.drop_succ_cons, ne_eq, not_false_eq_true, not_true_eq_false, false_and, and_false, false_implies, true_implies, reduceIte, mmU_rd, implies_true, or_false, false_or, or_true, true_or]
        refine ⟨by omega, ih (n + 1) (by omega) (fun k hk => ?_)⟩
        by_cases c3 : k = n
        · rw [c3]; exact c
        · exact hz k (by omega)
      · have hv : v ∈ L := by
          rw [← c, List.getD_eq_getElem?_getD, List.getElem?_eq_getElem (by omega)]
          exact List.getElem_mem _
        refine mT_in ⟨rfl, FrV_refl, ?_⟩
        rw [if_pos hv]
        exact hL
  refine mmC_in (by decide) (Nat.le_of_ble_eq_true rfl) (mmC_step ?_)
  simp only [show mmMl 198 = 4 from rfl, mmLs, List.replicate, cd_198, sg_198_0, sg_198_2, sg_198_19, sg_198_21, mmK_cut cd_198, q_cons, q_G0, q_GS, q_I1, q_L1, q_A1, q_S0, q_S1, q_SS, q_T0, q_T1, q_TS, q_Kn, q_Ki, q_Kl, q_Kr, q_k0, q_kS, q_rc, q_ps, q_pn, q_iconst, q_istore3, q_iload3, q_aload0, q_getfieldA, q_iload1, q_iaload, q_icmp_ge, q_sipush, q_imul, q_iadd, q_iload2, q_icmp_ne, q_return, q_iinc, q_goto, q_iastore, q_dup2, rf_11_61, rf_11_62, mmKe_1261, mmKe_1262, mmKo_11, mmLen_1261, mmLen_1262, mmR32, mmR64, Option.some.injEq, Int.cast_ofNat_Int, and_true, true_and, if_true, if_false, List.length_cons, List.length_nil, Nat.le_refl, Nat.zero_le, Nat.sub_zero, forall_const, reduceCtorEq, Nat.reduceAdd, Nat.reduceSub, Nat.reduceLeDiff, Nat.reduceEqDiff, Int.reduceAdd, Int.reduceNeg, Int.reduceSub, Int.reduceLT, Int.reduceLE, Int.reduceMul, Int.reduceEq, List.drop_zero, List.drop_succ_cons, ne_eq, not_false_eq_true, not_true_eq_false, false_and, and_false, false_implies, true_implies, reduceIte, mmU_rd, implies_true, or_false, false_or, or_true, true_or]
  exact key L.length 0 (by omega) (fun k hk => by omega)
theorem m_timesOf {k : Int} (h : RK r I) (hk : 0 ≤ k ∧ k < r 6 2) (hQ : Q (some (mv (tmF r k))) (I, mmRf a br, X)) : mmC (d + 1) 196 [mo 11 0, mv k] (I, mmRf a br, X) Q := by
  have e : I 1236 0 k = r 709 k := (h.1.2.1 k hk.1 hk.2).2.1
  have h4 := h.2.2.2.2.1
  have hQ' : ∀ z, z = ((tmF r k : Nat) : Int) → Q (some (mv z)) (I, mmRf a br, X) := fun z hz => by rw [hz]; exact hQ
  refine mmC_in (by decide) (Nat.le_of_ble_eq_true rfl) (mmC_step ?_)
  simp only [show mmMl 196 = 2 from rfl, mmLs, List.replicate, cd_196, sg_196_0, sg_196_7, sg_196_8, mmK_cut cd_196, q_cons, q_G0, q_GS, q_I1, q_L1, q_A1, q_S0, q_S1, q_SS, q_T0, q_T1, q_TS, q_Kn, q_Ki, q_Kl, q_Kr, q_k0, q_kS, q_rc, q_ps, q_pn, q_aload0, q_getfieldA, q_iload1, q_baload, q_if_eq, q_iconst, q_goto, q_ireturn0, rf_11_36, mmKe_1236, mmKo_11, mmLen_1236, mmR32, mmR64, Option.some.injEq, Int.cast_ofNat_Int, and_true, true_and, if_true, if_false, List.length_cons, List.length_nil, Nat.le_refl, Nat.zero_le, Nat.sub_zero, forall_const, reduceCtorEq, Nat.reduceAdd, Nat.reduceSub, Nat.reduceLeDiff, Nat.reduceEqDiff, Int.reduceAdd, Int.reduceNeg, Int.reduceSub, Int.reduceLT, Int.reduceLE, Int.reduceMul, Int.reduceEq, List.drop_zero, List.drop_succ_cons, ne_eq, not_false_eq_true, not_true_eq_false, false_and, and_false, false_implies, true_implies, reduceIte, mmU_rd, implies_true, or_false, false_or, or_true, true_or]
  rw [e]
  refine ⟨hk.1, by omega, fun c => ?_, fun c => ?_⟩
  · refine mmC_step ?_
    simp only [cd_196, sg_196_0, sg_196_7, sg_196_8, mmK_cut cd_196, q_cons, q_G0, q_GS, q_I1, q_L1, q_A1, q_S0, q_S1, q_SS, q_T0, q_T1, q_TS, q_Kn, q_Ki, q_Kl, q_Kr, q_k0, q_kS, q_rc, q_ps, q_pn, q_aload0, q_getfieldA, q_iload1, q_baload, q_if_eq, q_iconst, q_goto, q_ireturn0, rf_11_36, mmKe_1236, mmKo_11, mmLen_1236, mmR32, mmR64, Option.some.injEq, Int.cast_ofNat_Int, and_true, true_and, if_true, if_false, List.length_cons, List.length_nil, Nat.le_refl, Nat.zero_le, Nat.sub_zero, forall_const, reduceCtorEq, Nat.reduceAdd, Nat.reduceSub, Nat.reduceLeDiff, Nat.reduceEqDiff, Int.reduceAdd, Int.reduceNeg, Int.reduceSub, Int.reduceLT, Int.reduceLE, Int.reduceMul, Int.reduceEq, List.drop_zero, List.drop_succ_cons, ne_eq, not_false_eq_true, not_true_eq_false, false_and, and_false, false_implies, true_implies, reduceIte, mmU_rd, implies_true, or_false, false_or, or_true, true_or]
    refine mmC_step ?_
    simp only [cd_196, sg_196_0, sg_196_7, sg_196_8, mmK_cut cd_196, q_cons, q_G0, q_GS, q_I1, q_L1, q_A1, q_S0, q_S1, q_SS, q_T0, q_T1, q_TS, q_Kn, q_Ki, q_Kl, q_Kr, q_k0, q_kS, q_rc, q_ps, q_pn, q_aload0, q_getfieldA, q_iload1, q_baload, q_if_eq, q_iconst, q_goto, q_ireturn0, rf_11_36, mmKe_1236, mmKo_11, mmLen_1236, mmR32, mmR64, Option.some.injEq, Int.cast_ofNat_Int, and_true, true_and, if_true, if_false, List.length_cons, List.length_nil, Nat.le_refl, Nat.zero_le, Nat.sub_zero, forall_const, reduceCtorEq, Nat.reduceAdd, Nat.reduceSub, Nat.reduceLeDiff, Nat.reduceEqDiff, Int.reduceAdd, Int.reduceNeg, Int.reduceSub, Int.reduceLT, Int.reduceLE, Int.reduceMul, Int.reduceEq, List.drop_zero, List.drop_succ_cons, ne_eq, not_false_eq_true, not_true_eq_false, false_and, and_false, false_implies, true_implies, reduceIte, mmU_rd, implies_true, or_false, false_or, or_true, true_or]
    exact hQ' 1 (by unfold tmF; rw [if_pos c]; rfl)
  · refine mmC_step ?_
    simp only [cd_196, sg_196_0, sg_196_7, sg_196_8, mmK_cut cd_196, q_cons, q_G0, q_GS, q_I1, q_L1, q_A1, q_S0, q_S1, q_SS, q_T0, q_T1, q_TS, q_Kn, q_Ki, q_Kl, q_Kr, q_k0, q_kS, q_rc, q_ps, q_pn, q_aload0, q_getfieldA, q_iload1, q_baload, q_if_eq, q_iconst, q_goto, q_ireturn0, rf_11_36, mmKe_1236, mmKo_11, mmLen_1236, mmR32, mmR64, Option.some.injEq, Int.cast_ofNat_Int, and_true, true_and, if_true, if_false, List.length_cons, List.length_nil, Nat.le_refl, Nat.zero_le, Nat.sub_zero, forall_const, reduceCtorEq, Nat.reduceAdd, Nat.reduceSub, Nat.reduceLeDiff, Nat.reduceEqDiff, Int.reduceAdd, Int.reduceNeg, Int.reduceSub, Int.reduceLT, Int.reduceLE, Int.reduceMul, Int.reduceEq, List.drop_zero, List.drop_succ_cons, ne_eq, not_false_eq_true, not_true_eq_false, false_and, and_false, false_implies, true_implies, reduceIte, mmU_rd, implies_true, or_false, false_or, or_true, true_or]
    exact hQ' 4 (by unfold tmF; rw [if_neg c]; rfl)
end S814
