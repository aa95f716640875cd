/-- who knows what, if letters arrive on the days Ar -/
def Kv (L : Nat → Int → Int) (Ar : Int → Int) (w l : Int) : Bool := decide (w = 0 ∨ (if w = L 1 l + 1 then L 2 l else Ar l) ≤ L 14 0)
def knA (K : Int → Bool) : Nat → Nat
  | 0 => 0
  | n + 1 => if K n = true then knA K n ||| 2 ^ n else knA K n
theorem knA_lt {K : Int → Bool} : ∀ n : Nat, knA K n < 2 ^ n
  | 0 => by unfold knA; exact Nat.two_pow_pos 0
  | n + 1 => by
    have ih := knA_lt (K := K) n
    have h2 : (2 : Nat) ^ (n + 1) = 2 * 2 ^ n := by rw [Nat.pow_succ, Nat.mul_comm]
    unfold knA
    split
    · exact Nat.or_lt_two_pow (by omega) (by have := Nat.two_pow_pos n; omega)
    · omega
theorem knA_bit {K : Int → Bool} : ∀ (n i : Nat), i < n → (knA K n).testBit i = K i
  | 0, i, h => by omega
  | n + 1, i, h => by
    unfold knA
    by_cases c : i = n
    · subst c
      have h0 : (knA K i).testBit i = false := Nat.testBit_lt_two_pow (knA_lt i)
      split
      · rename_i hk
        rw [Nat.testBit_or, h0, Nat.testBit_two_pow_self, hk]; rfl
      · rename_i hk
        rw [h0]
        exact (Bool.eq_false_iff.mpr hk).symm
    · have ih := knA_bit (K := K) n i (by omega)
      split
      · rw [Nat.testBit_or, ih, Nat.testBit_two_pow_of_ne (by omega), Bool.or_false]
      · exact ih
theorem knA_KB {K : Int → Bool} {n : Int} (h : 0 ≤ n ∧ n ≤ 16) : KB (knA K n.toNat) K n := by
  refine ⟨Nat.lt_of_lt_of_le (knA_lt _) (Nat.pow_le_pow_right (by omega) (by omega)), fun l l0 l1 => ?_⟩
  have := knA_bit (K := K) n.toNat l.toNat (by omega)
  rw [show ((l.toNat : Nat) : Int) = l by omega] at this
  exact this
theorem knA_ext {K K' : Int → Bool} : ∀ n : Nat, (∀ l : Int, 0 ≤ l → l < n → K l = K' l) → knA K n = knA K' n
  | 0, _ => rfl
  | n + 1, h => by
    unfold knA
    rw [knA_ext n (fun l l0 l1 => h l l0 (by omega)), h n (by omega) (by omega)]
theorem knA_inj {K K' : Int → Bool} {n : Nat} (h : knA K n = knA K' n) (l : Int) (l0 : 0 ≤ l) (l1 : l < n) : K l = K' l := by
  have h1 := knA_bit (K := K) n l.toNat (by omega)
  have h2 := knA_bit (K := K') n l.toNat (by omega)
  rw [show ((l.toNat : Nat) : Int) = l by omega] at h1 h2
  rw [← h1, ← h2, h]
section S847
variable {d a j x t i : Nat} {I I1 I' I'' : mMm} {br : Nat → Option mmO} {R : Nat → Nat → Int → Option mmO} {X : mmX} {L : Nat → Int → Int} {r : mRu} {B : mBd} {m la z w : Int} {Ar : Int → Int} {Q : Option mmV → mmM → Prop}
theorem odT_ext {K K' : Int → Bool} (h : ∀ l : Int, 0 ≤ l → l < L 0 0 → K l = K' l) : odT L z K = odT L z K' := by
  unfold odT
  refine List.filter_congr (fun e he => ?_)
  rw [od_in] at he
  exact h e he.1 (by omega)
theorem c_known (hL : CL I L) (hW : LW L) (hw : 0 ≤ w ∧ w < 4) (ht : mmKe t = 0) (htl : mmLen t = 16) (hA : ∀ l, 0 ≤ l → l < L 0 0 → I t i l = Ar l) (hQ : Q (some (mv (knA (Kv L Ar w) (L 0 0).toNat))) (I, mmRf a br, X)) : mmC (d + 1) 46 [mo 3 0, mv w, mo t i] (I, mmRf a br, X) Q := by
  have h16 := hW.1
  have e0 : I 3 0 0 = L 0 0 := hL 0 0 (by omega)
  have e14 : I 3 0 14 = L 14 0 := hL 14 0 (by omega)
  have key : ∀ (q n : Nat) (l5 l6 : Option mmV), (n : Int) + q = L 0 0 → mmK d 46 Q 4 [some (mo 3 0), some (mv w), some (mo t i), some (mv (knA (Kv L Ar w) n)), some (mv n), l5, l6] [] (I, mmRf a br, X) := by
    intro q
    induction q with
    | zero =>
      intro n l5 l6 hn
      refine mmC_step ?_
      simp only [cd_46, sg_46_0, sg_46_4, sg_46_18, sg_46_19, sg_46_27, sg_46_30, sg_46_37, sg_46_43, sg_46_45, mmK_cut cd_46, q_cons, q_G0, q_GS, q_I1, q_L1, q_A1, q_S0, q_S1, q_SS, q_T0, q_T1, q_TS, q_Kn, q_Ki, q_Kl, q_Kr, q_k0, q_kS, q_rc, q_ps, q_pn, q_iconst, q_istore3, q_istore, q_iload, q_aload0, q_getfieldI, q_icmp_ge, q_iload1, q_getfieldA, q_iaload, q_iadd, q_icmp_ne, q_goto, q_if_eq, q_aload2, q_icmp_gt, q_iload3, q_ishl, q_ior, q_iinc, q_ireturn0, rf_3_1, rf_3_2, mmKe_401, mmKe_402, mmKo_3, mmLen_401, mmLen_402, mmR32, mmR64, Option.some.injEq, Int.cast_ofNat_Int, and_true, true_and, if_true, if_false, List.length_cons, List.length_nil, Nat.le_refl, Nat.zero_le, Nat.sub_zero, forall_const, reduceCtorEq, Nat.reduceAdd, Nat.reduceSub, Nat.reduceLeDiff, Nat.reduceEqDiff, Int.reduceAdd, Int.reduceNeg, Int.reduceSub, Int.reduceLT, Int.reduceLE, Int.reduceMul, Int.reduceEq, List.drop_zero, List.drop_succ_cons, ne_eq, not_false_eq_true, not_true_eq_false, false_and, and_false, false_implies, true_implies, reduceIte, mmU_rd, implies_true, or_false, false_or, or_true, true_or]
      rw [e0]
      refine ⟨fun _ => ?_, fun c => by omega⟩
      refine mmC_step ?_
      simp only [cd_46, sg_46_0, sg_46_4, sg_46_18, sg_46_19, sg_46_27, sg_46_30, sg_46_37, sg_46_43, sg_46_45, mmK_cut cd_46, q_cons, q_G0, q_GS, q_I1, q_L1, q_A1, q_S0, q_S1, q_SS, q_T0, q_T1, q_TS, q_Kn, q_Ki, q_Kl, q_Kr, q_k0, q_kS, q_rc, q_ps, q_pn, q_iconst, q_istore3, q_istore, q_iload, q_aload0, q_getfieldI, q_icmp_ge, q_iload1, q_getfieldA, q_iaload, q_iadd, q_icmp_ne, q_goto, q_if_eq, q_aload2, q_icmp_gt, q_iload3, q_ishl, q_ior, q_iinc, q_ireturn0, rf_3_1, rf_3_2, mmKe_401, mmKe_402, mmKo_3, mmLen_401, mmLen_402, mmR32, mmR64, Option.some.injEq, Int.cast_ofNat_Int, and_true, true_and, if_true, if_false, List.length_cons, List.length_nil, Nat.le_refl, Nat.zero_le, Nat.sub_zero, forall_const, reduceCtorEq, Nat.reduceAdd, Nat.reduceSub, Nat.reduceLeDiff, Nat.reduceEqDiff, Int.reduceAdd, Int.reduceNeg, Int.reduceSub, Int.reduceLT, Int.reduceLE, Int.reduceMul, Int.reduceEq, List.drop_zero, List.drop_succ_cons, ne_eq, not_false_eq_true, not_true_eq_false, false_and, and_false, false_implies, true_implies, reduceIte, mmU_rd, implies_true, or_false, false_or, or_true, true_or]
      have en : (L 0 0).toNat = n := by omega
      rw [en] at hQ
      exact hQ
    | succ q ih =>
      intro n l5 l6 hn
      have e1 : I 401 0 n = L 1 n := hL 1 n (by omega)
      have e2 : I 402 0 n = L 2 n := hL 2 n (by omega)
      have hl := (hW.2.2.2.1 n (by omega) (by omega)).1
      have hkn := knA_KB (K := Kv L Ar w) (n := n) (by omega)
      rw [show ((n : Nat) : Int).toNat = n by omega] at hkn
      have hbs := bit_set hkn.1 (to := n) (by omega)
      have w43 : ∀ (A : Nat) (l5 l6 : Option mmV), A = knA (Kv L Ar w) (n + 1) → mmK d 46 Q 43 [some (mo 3 0), some (mv w), some (mo t i), some (mv A), some (mv n), l5, l6] [] (I, mmRf a br, X) := by
        intro A l5 l6 hA
        rw [hA]
        refine mmC_step ?_
        simp only [cd_46, sg_46_0, sg_46_4, sg_46_18, sg_46_19, sg_46_27, sg_46_30, sg_46_37, sg_46_43, sg_46_45, mmK_cut cd_46, q_cons, q_G0, q_GS, q_I1, q_L1, q_A1, q_S0, q_S1, q_SS, q_T0, q_T1, q_TS, q_Kn, q_Ki, q_Kl, q_Kr, q_k0, q_kS, q_rc, q_ps, q_pn, q_iconst, q_istore3, q_istore, q_iload, q_aload0, q_getfieldI, q_icmp_ge, q_iload1, q_getfieldA, q_iaload, q_iadd, q_icmp_ne, q_goto, q_if_eq, q_aload2, q_icmp_gt, q_iload3, q_ishl, q_ior, q_iinc, q_ireturn0, rf_3_1, rf_3_2, mmKe_401, mmKe_402, mmKo_3, mmLen_401, mmLen_402, mmR32, mmR64, Option.some.injEq, Int.cast_ofNat_Int, and_true, true_and, if_true, if_false, List.length_cons, List.length_nil, Nat.le_refl, Nat.zero_le, Nat.sub_zero, forall_const, reduceCtorEq, Nat.reduceAdd, Nat.reduceSub, Nat.reduceLeDiff, Nat.reduceEqDiff, Int.reduceAdd, Int.reduceNeg, Int.reduceSub, Int.reduceLT, Int.reduceLE, Int.reduceMul, Int.reduceEq, List.drop_zero, List.drop_succ_cons, ne_eq, not_false_eq_true, not_true_eq_false, false_and, and_false, false_implies, true_implies, reduceIte, mmU_rd, implies_true, or_false, false_or, or_true, true_or]
        exact ⟨by omega, ih (n + 1) l5 l6 (by omega)⟩
      have w30 : ∀ (s : Int) (l5 : Option mmV), s = (if w = L 1 n + 1 then L 2 n else Ar n) → mmK d 46 Q 30 [some (mo 3 0), some (mv w), some (mo t i), some (mv (knA (Kv L Ar w) n)), some (mv n), l5, l6] [mv s] (I, mmRf a br, X) := by
        intro s l5 hs
        have w37 : (w = 0 ∨ s ≤ L 14 0) → ∀ l5 l6, mmK d 46 Q 37 [some (mo 3 0), some (mv w), some (mo t i), some (mv (knA (Kv L Ar w) n)), some (mv n), l5, l6] [] (I, mmRf a br, X) := by
          intro hk l5 l6
          have hk' : Kv L Ar w n = true := by unfold Kv; rw [← hs]; exact decide_eq_true hk
          refine mmC_step ?_
          simp only [cd_46, sg_46_0, sg_46_4, sg_46_18, sg_46_19, sg_46_27, sg_46_30, sg_46_37, sg_46_43, sg_46_45, mmK_cut cd_46, q_cons, q_G0, q_GS, q_I1, q_L1, q_A1, q_S0, q_S1, q_SS, q_T0, q_T1, q_TS, q_Kn, q_Ki, q_Kl, q_Kr, q_k0, q_kS, q_rc, q_ps, q_pn, q_iconst, q_istore3, q_istore, q_iload, q_aload0, q_getfieldI, q_icmp_ge, q_iload1, q_getfieldA, q_iaload, q_iadd, q_icmp_ne, q_goto, q_if_eq, q_aload2, q_icmp_gt, q_iload3, q_ishl, q_ior, q_iinc, q_ireturn0, rf_3_1, rf_3_2, mmKe_401, mmKe_402, mmKo_3, mmLen_401, mmLen_402, mmR32, mmR64, Option.some.injEq, Int.cast_ofNat_Int, and_true, true_and, if_true, if_false, List.length_cons, List.length_nil, Nat.le_refl, Nat.zero_le, Nat.sub_zero, forall_const, reduceCtorEq, Nat.reduceAdd, Nat.reduceSub, Nat.reduceLeDiff, Nat.reduceEqDiff, Int.reduceAdd, Int.reduceNeg, Int.reduceSub, Int.reduceLT, Int.reduceLE, Int.reduceMul, Int.reduceEq, List.drop_zero, List.drop_succ_cons, ne_eq, not_false_eq_true, not_true_eq_false, false_and, and_false, false_implies, true_implies, reduceIte, mmU_rd, implies_true, or_false, false_or, or_true, true_or]
          rw [hbs.1]
          refine w43 _ _ _ ?_
          show _ = (if Kv L Ar w n = true then _ else _)
          rw [if_pos hk']; rfl
        refine mmC_step ?_
        simp only [cd_46, sg_46_0, sg_46_4, sg_46_18, sg_46_19, sg_46_27, sg_46_30, sg_46_37, sg_46_43, sg_46_45, mmK_cut cd_46, q_cons, q_G0, q_GS, q_I1, q_L1, q_A1, q_S0, q_S1, q_SS, q_T0, q_T1, q_TS, q_Kn, q_Ki, q_Kl, q_Kr, q_k0, q_kS, q_rc, q_ps, q_pn, q_iconst, q_istore3, q_istore, q_iload, q_aload0, q_getfieldI, q_icmp_ge, q_iload1, q_getfieldA, q_iaload, q_iadd, q_icmp_ne, q_goto, q_if_eq, q_aload2, q_icmp_gt, q_iload3, q_ishl, q_ior, q_iinc, q_ireturn0, rf_3_1, rf_3_2, mmKe_401, mmKe_402, mmKo_3, mmLen_401, mmLen_402, mmR32, mmR64, Option.some.injEq, Int.cast_ofNat_Int, and_true, true_and, if_true, if_false, List.length_cons, List.length_nil, Nat.le_refl, Nat.zero_le, Nat.sub_zero, forall_const, reduceCtorEq, Nat.reduceAdd, Nat.reduceSub, Nat.reduceLeDiff, Nat.reduceEqDiff, Int.reduceAdd, Int.reduceNeg, Int.reduceSub, Int.reduceLT, Int.reduceLE, Int.reduceMul, Int.reduceEq, List.drop_zero, List.drop_succ_cons, ne_eq, not_false_eq_true, not_true_eq_false, false_and, and_false, false_implies, true_implies, reduceIte, mmU_rd, implies_true, or_false, false_or, or_true, true_or]
        rw [e14]
        refine ⟨fun c => w37 (Or.inl c) _ _, fun c => ⟨fun c2 => ?_, fun c2 => w37 (Or.inr c2) _ _⟩⟩
        refine w43 _ _ _ ?_
        have hk' : ¬ Kv L Ar w n = true := by
          unfold Kv; rw [← hs]
          intro q
          have := of_decide_eq_true q
          omega
        show _ = (if Kv L Ar w n = true then _ else _)
        rw [if_neg hk']
      have w19 : ∀ v : Int, (v = 0 ∨ v = 1) → (v = 0 ↔ ¬ w = L 1 n + 1) → mmK d 46 Q 19 [some (mo 3 0), some (mv w), some (mo t i), some (mv (knA (Kv L Ar w) n)), some (mv n), l5, l6] [mv v] (I, mmRf a br, X) := by
        intro v hv hv2
        refine mmC_step ?_
        simp only [cd_46, sg_46_0, sg_46_4, sg_46_18, sg_46_19, sg_46_27, sg_46_30, sg_46_37, sg_46_43, sg_46_45, mmK_cut cd_46, q_cons, q_G0, q_GS, q_I1, q_L1, q_A1, q_S0, q_S1, q_SS, q_T0, q_T1, q_TS, q_Kn, q_Ki, q_Kl, q_Kr, q_k0, q_kS, q_rc, q_ps, q_pn, q_iconst, q_istore3, q_istore, q_iload, q_aload0, q_getfieldI, q_icmp_ge, q_iload1, q_getfieldA, q_iaload, q_iadd, q_icmp_ne, q_goto, q_if_eq, q_aload2, q_icmp_gt, q_iload3, q_ishl, q_ior, q_iinc, q_ireturn0, rf_3_1, rf_3_2, mmKe_401, mmKe_402, mmKo_3, mmLen_401, mmLen_402, mmR32, mmR64, Option.some.injEq, Int.cast_ofNat_Int, and_true, true_and, if_true, if_false, List.length_cons, List.length_nil, Nat.le_refl, Nat.zero_le, Nat.sub_zero, forall_const, reduceCtorEq, Nat.reduceAdd, Nat.reduceSub, Nat.reduceLeDiff, Nat.reduceEqDiff, Int.reduceAdd, Int.reduceNeg, Int.reduceSub, Int.reduceLT, Int.reduceLE, Int.reduceMul, Int.reduceEq, List.drop_zero, List.drop_succ_cons, ne_eq, not_false_eq_true, not_true_eq_false, false_and, and_false, false_implies, true_implies, reduceIte, mmU_rd, implies_true, or_false, false_or, or_true, true_or]
        rw [e2]
        refine ⟨fun c => ?_, fun c => ⟨by omega, by omega, w30 _ _ ?_⟩⟩
        · refine mmC_step ?_
          simp only [cd_46, sg_46_0, sg_46_4, sg_46_18, sg_46_19, sg_46_27, sg_46_30, sg_46_37, sg_46_43, sg_46_45, mmK_cut cd_46, q_cons, q_G0, q_GS, q_I1, q_L1, q_A1, q_S0, q_S1, q_SS, q_T0, q_T1, q_TS, q_Kn, q_Ki, q_Kl, q_Kr, q_k0, q_kS, q_rc, q_ps, q_pn, q_iconst, q_istore3, q_istore, q_iload, q_aload0, q_getfieldI, q_icmp_ge, q_iload1, q_getfieldA, q_iaload, q_iadd, q_icmp_ne, q_goto, q_if_eq, q_aload2, q_icmp_gt, q_iload3, q_ishl, q_ior, q_iinc, q_ireturn0, rf_3_1, rf_3_2, mmKe_401, mmKe_402, mmKo_3, mmLen_401, mmLen_402, mmR32, mmR64, Option.some.injEq, Int.cast_ofNat_Int, and_true, true_and, if_true, if_false, List.length_cons, List.length_nil, Nat.le_refl, Nat.zero_le, Nat.sub_zero, forall_const, reduceCtorEq, Nat.reduceAdd, Nat.reduceSub, Nat.reduceLeDiff, Nat.reduceEqDiff, Int.reduceAdd, Int.reduceNeg, Int.reduceSub, Int.reduceLT, Int.reduceLE, Int.reduceMul, Int.reduceEq, List.drop_zero, List.drop_succ_cons, ne_eq, not_false_eq_true, not_true_eq_false, false_and, and_false, false_implies, true_implies, reduceIte, mmU_rd, implies_true, or_false, false_or, or_true, true_or]
          rw [ht, htl, hA n (by omega) (by omega)]
          refine ⟨by trivial, by omega, by omega, w30 _ _ ?_⟩
          rw [if_neg (hv2.mp c)]
        · rw [if_pos (Classical.not_not.mp (fun q => c (hv2.mpr q)))]
      refine mmC_step ?_
      simp only [cd_46, sg_46_0, sg_46_4, sg_46_18, sg_46_19, sg_46_27, sg_46_30, sg_46_37, sg_46_43, sg_46_45, mmK_cut cd_46, q_cons, q_G0, q_GS, q_I1, q_L1, q_A1, q_S0, q_S1, q_SS, q_T0, q_T1, q_TS, q_Kn, q_Ki, q_Kl, q_Kr, q_k0, q_kS, q_rc, q_ps, q_pn, q_iconst, q_istore3, q_istore, q_iload, q_aload0, q_getfieldI, q_icmp_ge, q_iload1, q_getfieldA, q_iaload, q_iadd, q_icmp_ne, q_goto, q_if_eq, q_aload2, q_icmp_gt, q_iload3, q_ishl, q_ior, q_iinc, q_ireturn0, rf_3_1, rf_3_2, mmKe_401, mmKe_402, mmKo_3, mmLen_401, mmLen_402, mmR32, mmR64, Option.some.injEq, Int.cast_ofNat_Int, and_true, true_and, if_true, if_false, List.length_cons, List.length_nil, Nat.le_refl, Nat.zero_le, Nat.sub_zero, forall_const, reduceCtorEq, Nat.reduceAdd, Nat.reduceSub, Nat.reduceLeDiff, Nat.reduceEqDiff, Int.reduceAdd, Int.reduceNeg, Int.reduceSub, Int.reduceLT, Int.reduceLE, Int.reduceMul, Int.reduceEq, List.drop_zero, List.drop_succ_cons, ne_eq, not_false_eq_true, not_true_eq_false, false_and, and_false, false_implies, true_implies, reduceIte, mmU_rd, implies_true, or_false, false_or, or_true, true_or]
      rw [e0, e1]
      refine ⟨fun c => by omega, fun _ => ⟨by omega, by omega, by omega, fun c => ?_, fun c => w19 1 (Or.inr rfl) ⟨fun q => by omega, fun q => absurd c q⟩⟩⟩
      refine mmC_step ?_
      simp only [cd_46, sg_46_0, sg_46_4, sg_46_18, sg_46_19, sg_46_27, sg_46_30, sg_46_37, sg_46_43, sg_46_45, mmK_cut cd_46, q_cons, q_G0, q_GS, q_I1, q_L1, q_A1, q_S0, q_S1, q_SS, q_T0, q_T1, q_TS, q_Kn, q_Ki, q_Kl, q_Kr, q_k0, q_kS, q_rc, q_ps, q_pn, q_iconst, q_istore3, q_istore, q_iload, q_aload0, q_getfieldI, q_icmp_ge, q_iload1, q_getfieldA, q_iaload, q_iadd, q_icmp_ne, q_goto, q_if_eq, q_aload2, q_icmp_gt, q_iload3, q_ishl, q_ior, q_iinc, q_ireturn0, rf_3_1, rf_3_2, mmKe_401, mmKe_402, mmKo_3, mmLen_401, mmLen_402, mmR32, mmR64, Option.some.injEq, Int.cast_ofNat_Int, and_true, true_and, if_true, if_false, List.length_cons, List.length_nil, Nat.le_refl, Nat.zero_le, Nat.sub_zero, forall_const, reduceCtorEq, Nat.reduceAdd, Nat.reduceSub, Nat.reduceLeDiff, Nat.reduceEqDiff, Int.reduceAdd, Int.reduceNeg, Int.reduceSub, Int.reduceLT, Int.reduceLE, Int.reduceMul, Int.reduceEq, List.drop_zero, List.drop_succ_cons, ne_eq, not_false_eq_true, not_true_eq_false, false_and, and_false, false_implies, true_implies, reduceIte, mmU_rd, implies_true, or_false, false_or, or_true, true_or]
      exact w19 0 (Or.inl rfl) ⟨fun _ => c, fun _ => rfl⟩
  refine mmC_in (by decide) (Nat.le_of_ble_eq_true rfl) (mmC_step ?_)
  simp only [show mmMl 46 = 7 from rfl, mmLs, List.replicate, cd_46, sg_46_0, sg_46_4, sg_46_18, sg_46_19, sg_46_27, sg_46_30, sg_46_37, sg_46_43, sg_46_45, mmK_cut cd_46, q_cons, q_G0, q_GS, q_I1, q_L1, q_A1, q_S0, q_S1, q_SS, q_T0, q_T1, q_TS, q_Kn, q_Ki, q_Kl, q_Kr, q_k0, q_kS, q_rc, q_ps, q_pn, q_iconst, q_istore3, q_istore, q_iload, q_aload0, q_getfieldI, q_icmp_ge, q_iload1, q_getfieldA, q_iaload, q_iadd, q_icmp_ne, q_goto, q_if_eq, q_aload2, q_icmp_gt, q_iload3, q_ishl, q_ior, q_iinc, q_ireturn0, rf_3_1, rf_3_2, mmKe_401, mmKe_402, mmKo_3, mmLen_401, mmLen_402, mmR32, mmR64, Option.some.injEq, Int.cast_ofNat_Int, and_true, true_and, if_true, if_false, List.length_cons, List.length_nil, Nat.le_refl, Nat.zero_le, Nat.sub_zero, forall_const, reduceCtorEq, Nat.reduceAdd, Nat.reduceSub, Nat.reduceLeDiff, Nat.reduceEqDiff, Int.reduceAdd, Int.reduceNeg, Int.reduceSub, Int.reduceLT, Int.reduceLE, Int.reduceMul, Int.reduceEq, List.drop_zero, List.drop_succ_cons, ne_eq, not_false_eq_true, not_true_eq_false, false_and, and_false, false_implies, true_implies, reduceIte, mmU_rd, implies_true, or_false, false_or, or_true, true_or]
  exact key (L 0 0).toNat 0 _ _ (by omega)
end S847
