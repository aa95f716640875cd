section S55
variable {d a j : Nat} {I : Nat → Nat → Int → Int} {br : Nat → Option mmO} {X : mmX} {Q : Option mmV → mmM → Prop}
theorem sq_lawOf {K F V : Int → Int} (hs : 1 ≤ I 11 0 16 ∧ I 11 0 16 ≤ 64) (hT : ∀ m : Nat, (m : Int) < I 11 0 16 → TPn K (I 1244 0) (I 1245 0) (I 1246 0) m) (hF : ∀ k, 0 ≤ k → k < 8 → I 1256 0 k = F k ∧ -2147483648 ≤ F k ∧ F k ≤ 2147483647)
    (hA : ∀ row, VI K F V row 0 (I 11 0 16).toNat → Q (some (ml (row (I 11 0 16 - 1)))) (mmUr (mmU I 11 0 58 0) 1257 0 row, mmRf a br, X)) (hB : ∀ row, VI K F V row 1 (I 11 0 16).toNat → Q (some (ml 0)) (mmUr (mmU I 11 0 58 1) 1257 0 row, mmRf a br, X)) : mmC (d + 3) 194 [mo 11 0] (I, mmRf a br, X) Q := by
  have key : ∀ (r n : Nat) (row : Int → Int) (fl : Int), (n : Int) + r = I 11 0 16 → (fl = 0 ∨ fl = 1) → VI K F V row fl n → mmK (d + 2) 194 Q 5 [some (mo 11 0), some (mv n)] [] (mmUr (mmU I 11 0 58 fl) 1257 0 row, mmRf a br, X) := by
    intro r
    induction r with
    | zero =>
      intro n row fl hn hfl hv
      have e : (I 11 0 16).toNat = n := by omega
      rw [e] at hA hB
      refine mmC_step ?_
      simp only [cd_194, sg_194_0, sg_194_5, sg_194_18, sg_194_23, sg_194_30, mmK_cut cd_194, q_cons, q_G0, q_GS, q_I1, q_L1, q_A1, q_S0, q_S1, q_SS, q_T0, q_T1, q_TS, q_Kn, q_Ki, q_Kl, q_Kr, q_k0, q_kS, q_rc, q_ps, q_pn, q_aload0, q_iconst, q_putfieldZ, q_istore1, q_iload1, q_getfieldI, q_icmp_ge, q_getfieldA, q_invV, q_lastore, q_iinc, q_goto, q_getfieldZ, q_if_eq, q_lconst0, q_isub, q_laload, q_lreturn, rf_11_57, mmKe_1257, mmKo_11, mmLen_1257, mmR32, mmR64, Option.some.injEq, Int.cast_ofNat_Int, and_true, true_and, if_true, if_false, List.length_cons, List.length_nil, Nat.le_refl, Nat.zero_le, Nat.sub_zero, forall_const, reduceCtorEq, Nat.reduceAdd, Nat.reduceSub, Nat.reduceLeDiff, Nat.reduceEqDiff, Int.reduceAdd, Int.reduceNeg, Int.reduceSub, Int.reduceLT, Int.reduceLE, Int.reduceMul, Int.reduceEq, List.drop_zero, List.drop_succ_cons, ne_eq, not_false_eq_true, not_true_eq_false, false_and, and_false, false_implies, true_implies, reduceIte, mmU_rd, implies_true, or_false, false_or, or_true, true_or, mmUr_rd]
      refine ⟨fun _ => ?_, fun c => by omega⟩
      refine mmC_step ?_
      simp only [cd_194, sg_194_0, sg_194_5, sg_194_18, sg_194_23, sg_194_30, mmK_cut cd_194, q_cons, q_G0, q_GS, q_I1, q_L1, q_A1, q_S0, q_S1, q_SS, q_T0, q_T1, q_TS, q_Kn, q_Ki, q_Kl, q_Kr, q_k0, q_kS, q_rc, q_ps, q_pn, q_aload0, q_iconst, q_putfieldZ, q_istore1, q_iload1, q_getfieldI, q_icmp_ge, q_getfieldA, q_invV, q_lastore, q_iinc, q_goto, q_getfieldZ, q_if_eq, q_lconst0, q_isub, q_laload, q_lreturn, rf_11_57, mmKe_1257, mmKo_11, mmLen_1257, mmR32, mmR64, Option.some.injEq, Int.cast_ofNat_Int, and_true, true_and, if_true, if_false, List.length_cons, List.length_nil, Nat.le_refl, Nat.zero_le, Nat.sub_zero, forall_const, reduceCtorEq, Nat.reduceAdd, Nat.reduceSub, Nat.reduceLeDiff, Nat.reduceEqDiff, Int.reduceAdd, Int.reduceNeg, Int.reduceSub, Int.reduceLT, Int.reduceLE, Int.reduceMul, Int.reduceEq, List.drop_zero, List.drop_succ_cons, ne_eq, not_false_eq_true, not_true_eq_false, false_and, and_false, false_implies, true_implies, reduceIte, mmU_rd, implies_true, or_false, false_or, or_true, true_or, mmUr_rd]
      refine ⟨fun c => ?_, fun c => ?_⟩
      · subst c
        refine mmC_step ?_
        simp only [cd_194, sg_194_0, sg_194_5, sg_194_18, sg_194_23, sg_194_30, mmK_cut cd_194, q_cons, q_G0, q_GS, q_I1, q_L1, q_A1, q_S0, q_S1, q_SS, q_T0, q_T1, q_TS, q_Kn, q_Ki, q_Kl, q_Kr, q_k0, q_kS, q_rc, q_ps, q_pn, q_aload0, q_iconst, q_putfieldZ, q_istore1, q_iload1, q_getfieldI, q_icmp_ge, q_getfieldA, q_invV, q_lastore, q_iinc, q_goto, q_getfieldZ, q_if_eq, q_lconst0, q_isub, q_laload, q_lreturn, rf_11_57, mmKe_1257, mmKo_11, mmLen_1257, mmR32, mmR64, Option.some.injEq, Int.cast_ofNat_Int, and_true, true_and, if_true, if_false, List.length_cons, List.length_nil, Nat.le_refl, Nat.zero_le, Nat.sub_zero, forall_const, reduceCtorEq, Nat.reduceAdd, Nat.reduceSub, Nat.reduceLeDiff, Nat.reduceEqDiff, Int.reduceAdd, Int.reduceNeg, Int.reduceSub, Int.reduceLT, Int.reduceLE, Int.reduceMul, Int.reduceEq, List.drop_zero, List.drop_succ_cons, ne_eq, not_false_eq_true, not_true_eq_false, false_and, and_false, false_implies, true_implies, reduceIte, mmU_rd, implies_true, or_false, false_or, or_true, true_or, mmUr_rd]
        refine ⟨by omega, by omega, by omega, ?_⟩
        refine mmC_step ?_
        simp only [cd_194, sg_194_0, sg_194_5, sg_194_18, sg_194_23, sg_194_30, mmK_cut cd_194, q_cons, q_G0, q_GS, q_I1, q_L1, q_A1, q_S0, q_S1, q_SS, q_T0, q_T1, q_TS, q_Kn, q_Ki, q_Kl, q_Kr, q_k0, q_kS, q_rc, q_ps, q_pn, q_aload0, q_iconst, q_putfieldZ, q_istore1, q_iload1, q_getfieldI, q_icmp_ge, q_getfieldA, q_invV, q_lastore, q_iinc, q_goto, q_getfieldZ, q_if_eq, q_lconst0, q_isub, q_laload, q_lreturn, rf_11_57, mmKe_1257, mmKo_11, mmLen_1257, mmR32, mmR64, Option.some.injEq, Int.cast_ofNat_Int, and_true, true_and, if_true, if_false, List.length_cons, List.length_nil, Nat.le_refl, Nat.zero_le, Nat.sub_zero, forall_const, reduceCtorEq, Nat.reduceAdd, Nat.reduceSub, Nat.reduceLeDiff, Nat.reduceEqDiff, Int.reduceAdd, Int.reduceNeg, Int.reduceSub, Int.reduceLT, Int.reduceLE, Int.reduceMul, Int.reduceEq, List.drop_zero, List.drop_succ_cons, ne_eq, not_false_eq_true, not_true_eq_false, false_and, and_false, false_implies, true_implies, reduceIte, mmU_rd, implies_true, or_false, false_or, or_true, true_or, mmUr_rd]
        exact hA row hv
      · have c : fl = 1 := by omega
        subst c
        refine mmC_step ?_
        simp only [cd_194, sg_194_0, sg_194_5, sg_194_18, sg_194_23, sg_194_30, mmK_cut cd_194, q_cons, q_G0, q_GS, q_I1, q_L1, q_A1, q_S0, q_S1, q_SS, q_T0, q_T1, q_TS, q_Kn, q_Ki, q_Kl, q_Kr, q_k0, q_kS, q_rc, q_ps, q_pn, q_aload0, q_iconst, q_putfieldZ, q_istore1, q_iload1, q_getfieldI, q_icmp_ge, q_getfieldA, q_invV, q_lastore, q_iinc, q_goto, q_getfieldZ, q_if_eq, q_lconst0, q_isub, q_laload, q_lreturn, rf_11_57, mmKe_1257, mmKo_11, mmLen_1257, mmR32, mmR64, Option.some.injEq, Int.cast_ofNat_Int, and_true, true_and, if_true, if_false, List.length_cons, List.length_nil, Nat.le_refl, Nat.zero_le, Nat.sub_zero, forall_const, reduceCtorEq, Nat.reduceAdd, Nat.reduceSub, Nat.reduceLeDiff, Nat.reduceEqDiff, Int.reduceAdd, Int.reduceNeg, Int.reduceSub, Int.reduceLT, Int.reduceLE, Int.reduceMul, Int.reduceEq, List.drop_zero, List.drop_succ_cons, ne_eq, not_false_eq_true, not_true_eq_false, false_and, and_false, false_implies, true_implies, reduceIte, mmU_rd, implies_true, or_false, false_or, or_true, true_or, mmUr_rd]
        exact hB row hv
    | succ r ih =>
      intro n row fl hn hfl hv
      have ht := hT n (by omega)
      have hTn : ∀ m : Nat, m < n → TPn K (I 1244 0) (I 1245 0) (I 1246 0) m := fun m hm => hT m (by omega)
      have hi := ixS_in n hTn
      have on : ∀ (z fl' : Int), (fl' = 0 ∨ fl' = 1) → VI K F V (fup row n z) fl' (n + 1) → (0 ≤ (n : Int) ∧ (n : Int) < 64 ∧ (-2147483648 ≤ (n : Int) + 1 ∧ (n : Int) + 1 ≤ 2147483647) ∧ mmK (d + 2) 194 Q 5 [some (mo 11 0), some (mv ((n : Int) + 1))] [] (mmUr (mmU I 11 0 58 fl') 1257 0 (fup row n z), mmRf a br, X)) := by
        intro z fl' h1 h2
        exact ⟨by omega, by omega, by omega, ih (n + 1) _ _ (by omega) h1 h2⟩
      have push : ∀ z, -8 ≤ K n → z = (if 0 ≤ K n then K n else F (-1 - K n)) → (-1000000000000 ≤ z ∧ z ≤ 1000000000000) → VI K F V (fup row n z) fl (n + 1) := by
        intro z h8 hz hzb
        rcases hfl with f | f
        · subst f
          rw [hz] at hzb ⊢
          exact VI_push hTn hv h8 hzb
        · subst f
          exact VI_err hv hzb
      refine mmC_step ?_
      simp only [cd_194, sg_194_0, sg_194_5, sg_194_18, sg_194_23, sg_194_30, mmK_cut cd_194, q_cons, q_G0, q_GS, q_I1, q_L1, q_A1, q_S0, q_S1, q_SS, q_T0, q_T1, q_TS, q_Kn, q_Ki, q_Kl, q_Kr, q_k0, q_kS, q_rc, q_ps, q_pn, q_aload0, q_iconst, q_putfieldZ, q_istore1, q_iload1, q_getfieldI, q_icmp_ge, q_getfieldA, q_invV, q_lastore, q_iinc, q_goto, q_getfieldZ, q_if_eq, q_lconst0, q_isub, q_laload, q_lreturn, rf_11_57, mmKe_1257, mmKo_11, mmLen_1257, mmR32, mmR64, Option.some.injEq, Int.cast_ofNat_Int, and_true, true_and, if_true, if_false, List.length_cons, List.length_nil, Nat.le_refl, Nat.zero_le, Nat.sub_zero, forall_const, reduceCtorEq, Nat.reduceAdd, Nat.reduceSub, Nat.reduceLeDiff, Nat.reduceEqDiff, Int.reduceAdd, Int.reduceNeg, Int.reduceSub, Int.reduceLT, Int.reduceLE, Int.reduceMul, Int.reduceEq, List.drop_zero, List.drop_succ_cons, ne_eq, not_false_eq_true, not_true_eq_false, false_and, and_false, false_implies, true_implies, reduceIte, mmU_rd, implies_true, or_false, false_or, or_true, true_or, mmUr_rd]
      refine ⟨fun c => by omega, fun _ => ?_⟩
      unfold TPn at ht
      rcases ht with ⟨k0, k1, k2, k3⟩ | ⟨k0, k1, k2, k3⟩ | ⟨k0, k1, k2, k3, k4, k5, k6, k7⟩
      · refine sq_valueOf0 (by omega) (by exact k2) ?_
        simp only [mmK_cut cd_194, q_cons, q_G0, q_GS, q_I1, q_L1, q_A1, q_S0, q_S1, q_SS, q_T0, q_T1, q_TS, q_Kn, q_Ki, q_Kl, q_Kr, q_k0, q_kS, q_rc, q_ps, q_pn, q_aload0, q_iconst, q_putfieldZ, q_istore1, q_iload1, q_getfieldI, q_icmp_ge, q_getfieldA, q_invV, q_lastore, q_iinc, q_goto, q_getfieldZ, q_if_eq, q_lconst0, q_isub, q_laload, q_lreturn, rf_11_57, mmKe_1257, mmKo_11, mmLen_1257, mmR32, mmR64, Option.some.injEq, Int.cast_ofNat_Int, and_true, true_and, if_true, if_false, List.length_cons, List.length_nil, Nat.le_refl, Nat.zero_le, Nat.sub_zero, forall_const, reduceCtorEq, Nat.reduceAdd, Nat.reduceSub, Nat.reduceLeDiff, Nat.reduceEqDiff, Int.reduceAdd, Int.reduceNeg, Int.reduceSub, Int.reduceLT, Int.reduceLE, Int.reduceMul, Int.reduceEq, List.drop_zero, List.drop_succ_cons, ne_eq, not_false_eq_true, not_true_eq_false, false_and, and_false, false_implies, true_implies, reduceIte, mmU_rd, implies_true, or_false, false_or, or_true, true_or, mmUr_rd, mmU_Ur2]
        have e : I 1245 0 n = if 0 ≤ K n then K n else F (-1 - K n) := by rw [if_pos k0]; exact k3
        exact on _ fl hfl (push _ (by omega) e (by omega))
      · have hf := hF (-1 - K n) (by omega) (by omega)
        refine sq_valueOf1 (by omega) (by exact k2) (by show 0 ≤ I 1245 0 n ∧ I 1245 0 n < 8; omega) ?_
        simp only [mmK_cut cd_194, q_cons, q_G0, q_GS, q_I1, q_L1, q_A1, q_S0, q_S1, q_SS, q_T0, q_T1, q_TS, q_Kn, q_Ki, q_Kl, q_Kr, q_k0, q_kS, q_rc, q_ps, q_pn, q_aload0, q_iconst, q_putfieldZ, q_istore1, q_iload1, q_getfieldI, q_icmp_ge, q_getfieldA, q_invV, q_lastore, q_iinc, q_goto, q_getfieldZ, q_if_eq, q_lconst0, q_isub, q_laload, q_lreturn, rf_11_57, mmKe_1257, mmKo_11, mmLen_1257, mmR32, mmR64, Option.some.injEq, Int.cast_ofNat_Int, and_true, true_and, if_true, if_false, List.length_cons, List.length_nil, Nat.le_refl, Nat.zero_le, Nat.sub_zero, forall_const, reduceCtorEq, Nat.reduceAdd, Nat.reduceSub, Nat.reduceLeDiff, Nat.reduceEqDiff, Int.reduceAdd, Int.reduceNeg, Int.reduceSub, Int.reduceLT, Int.reduceLE, Int.reduceMul, Int.reduceEq, List.drop_zero, List.drop_succ_cons, ne_eq, not_false_eq_true, not_true_eq_false, false_and, and_false, false_implies, true_implies, reduceIte, mmU_rd, implies_true, or_false, false_or, or_true, true_or, mmUr_rd, mmU_Ur2]
        have e : I 1256 0 (I 1245 0 n) = if 0 ≤ K n then K n else F (-1 - K n) := by rw [if_neg (by omega), k3]; exact hf.1
        exact on _ fl hfl (push _ (by omega) e (by rw [k3, hf.1]; omega))
      · have hw := evW_12 (k := K n)
        have hpa : 0 ≤ I 1245 0 n ∧ I 1245 0 n < n := by rw [k6]; exact hi.2 _ (by omega) (by omega)
        have hrx := hv.2 (I 1245 0 n) hpa.1 hpa.2
        by_cases c2 : I 1244 0 n = 2
        · have eK : K n = -11 := by rw [← k4, c2]; rfl
          refine sq_valueOf2 (by omega) (by exact c2) (by show 0 ≤ I 1245 0 n ∧ I 1245 0 n < 64; omega) (fun b => ?_)
          simp only [mmK_cut cd_194, q_cons, q_G0, q_GS, q_I1, q_L1, q_A1, q_S0, q_S1, q_SS, q_T0, q_T1, q_TS, q_Kn, q_Ki, q_Kl, q_Kr, q_k0, q_kS, q_rc, q_ps, q_pn, q_aload0, q_iconst, q_putfieldZ, q_istore1, q_iload1, q_getfieldI, q_icmp_ge, q_getfieldA, q_invV, q_lastore, q_iinc, q_goto, q_getfieldZ, q_if_eq, q_lconst0, q_isub, q_laload, q_lreturn, rf_11_57, mmKe_1257, mmKo_11, mmLen_1257, mmR32, mmR64, Option.some.injEq, Int.cast_ofNat_Int, and_true, true_and, if_true, if_false, List.length_cons, List.length_nil, Nat.le_refl, Nat.zero_le, Nat.sub_zero, forall_const, reduceCtorEq, Nat.reduceAdd, Nat.reduceSub, Nat.reduceLeDiff, Nat.reduceEqDiff, Int.reduceAdd, Int.reduceNeg, Int.reduceSub, Int.reduceLT, Int.reduceLE, Int.reduceMul, Int.reduceEq, List.drop_zero, List.drop_succ_cons, ne_eq, not_false_eq_true, not_true_eq_false, false_and, and_false, false_implies, true_implies, reduceIte, mmU_rd, implies_true, or_false, false_or, or_true, true_or, mmUr_rd, mmU_Ur2]
          have h01 : jnV (-11) (row (I 1245 0 n)) b = 0 ∨ jnV (-11) (row (I 1245 0 n)) b = 1 := by
            rw [jn_11]; split <;> omega
          refine on _ fl hfl ?_
          rcases hfl with f | f
          · subst f
            have hx : row (I 1245 0 n) = (evS K F V n).2 ((evS K F V n).1 - evW (K n)) := by
              rcases hv.1 with q | q
              · rw [k6, q.2.1]; exact q.2.2 _ (by omega) (by omega)
              · omega
            have ej : jnV (-11) (row (I 1245 0 n)) b = evJ (K n) (evS K F V n) := by
              unfold evJ
              rw [hx, eK]; rfl
            rw [ej]
            exact VI_join hTn hv (by omega) k5 (by rw [← ej]; omega)
          · subst f
            exact VI_err hv (by omega)
        · have hne : ¬ K n = -11 := by
            rw [← k4]; unfold kM
            split
            · omega
            · split
              · omega
              · split <;> omega
          have hw2 : evW (K n) = 2 := if_neg hne
          have k7 := k7 hne
          have hpo : 0 ≤ I 1246 0 n ∧ I 1246 0 n < n := by rw [k7]; exact hi.2 _ (by omega) (by omega)
          have hry := hv.2 (I 1246 0 n) hpo.1 hpo.2
          have ej : fl = 0 → jnV (kM (I 1244 0 n)) (row (I 1245 0 n)) (row (I 1246 0 n)) = evJ (K n) (evS K F V n) := by
            intro f
            unfold evJ
            rw [if_neg hne, k4]
            rcases hv.1 with q | q
            · rw [show row (I 1245 0 n) = (evS K F V n).2 ((evS K F V n).1 - evW (K n)) by rw [k6, q.2.1]; exact q.2.2 _ (by omega) (by omega), show row (I 1246 0 n) = (evS K F V n).2 ((evS K F V n).1 - 1) by rw [k7, q.2.1]; exact q.2.2 _ (by omega) (by omega)]
            · omega
          refine sq_valueOf (by omega) (by show 3 ≤ I 1244 0 n ∧ I 1244 0 n ≤ 14; omega) (by show 0 ≤ I 1245 0 n ∧ I 1245 0 n < 64; omega) (by show 0 ≤ I 1246 0 n ∧ I 1246 0 n < 64; omega) (by exact hrx) (by exact hry) (by exact hfl) (fun f hz => ?_) (fun f hz => ?_) (fun f z hz1 hz2 => ?_)
          · have f : fl = 0 := f
            have hz' : -1000000000000 ≤ jnV (kM (I 1244 0 n)) (row (I 1245 0 n)) (row (I 1246 0 n)) ∧ jnV (kM (I 1244 0 n)) (row (I 1245 0 n)) (row (I 1246 0 n)) ≤ 1000000000000 := hz
            simp only [mmK_cut cd_194, q_cons, q_G0, q_GS, q_I1, q_L1, q_A1, q_S0, q_S1, q_SS, q_T0, q_T1, q_TS, q_Kn, q_Ki, q_Kl, q_Kr, q_k0, q_kS, q_rc, q_ps, q_pn, q_aload0, q_iconst, q_putfieldZ, q_istore1, q_iload1, q_getfieldI, q_icmp_ge, q_getfieldA, q_invV, q_lastore, q_iinc, q_goto, q_getfieldZ, q_if_eq, q_lconst0, q_isub, q_laload, q_lreturn, rf_11_57, mmKe_1257, mmKo_11, mmLen_1257, mmR32, mmR64, Option.some.injEq, Int.cast_ofNat_Int, and_true, true_and, if_true, if_false, List.length_cons, List.length_nil, Nat.le_refl, Nat.zero_le, Nat.sub_zero, forall_const, reduceCtorEq, Nat.reduceAdd, Nat.reduceSub, Nat.reduceLeDiff, Nat.reduceEqDiff, Int.reduceAdd, Int.reduceNeg, Int.reduceSub, Int.reduceLT, Int.reduceLE, Int.reduceMul, Int.reduceEq, List.drop_zero, List.drop_succ_cons, ne_eq, not_false_eq_true, not_true_eq_false, false_and, and_false, false_implies, true_implies, reduceIte, mmU_rd, implies_true, or_false, false_or, or_true, true_or, mmUr_rd, mmU_Ur2]
            rw [ej f] at hz' ⊢
            subst f
            exact on _ 0 (by omega) (VI_join hTn hv (by omega) k5 hz')
          · have f : fl = 0 := f
            have hz' : ¬ (-1000000000000 ≤ jnV (kM (I 1244 0 n)) (row (I 1245 0 n)) (row (I 1246 0 n)) ∧ jnV (kM (I 1244 0 n)) (row (I 1245 0 n)) (row (I 1246 0 n)) ≤ 1000000000000) := hz
            rw [ej f] at hz'
            subst f
            rw [mmU_Ur_comm (by decide), mmU_over]
            simp only [mmK_cut cd_194, q_cons, q_G0, q_GS, q_I1, q_L1, q_A1, q_S0, q_S1, q_SS, q_T0, q_T1, q_TS, q_Kn, q_Ki, q_Kl, q_Kr, q_k0, q_kS, q_rc, q_ps, q_pn, q_aload0, q_iconst, q_putfieldZ, q_istore1, q_iload1, q_getfieldI, q_icmp_ge, q_getfieldA, q_invV, q_lastore, q_iinc, q_goto, q_getfieldZ, q_if_eq, q_lconst0, q_isub, q_laload, q_lreturn, rf_11_57, mmKe_1257, mmKo_11, mmLen_1257, mmR32, mmR64, Option.some.injEq, Int.cast_ofNat_Int, and_true, true_and, if_true, if_false, List.length_cons, List.length_nil, Nat.le_refl, Nat.zero_le, Nat.sub_zero, forall_const, reduceCtorEq, Nat.reduceAdd, Nat.reduceSub, Nat.reduceLeDiff, Nat.reduceEqDiff, Int.reduceAdd, Int.reduceNeg, Int.reduceSub, Int.reduceLT, Int.reduceLE, Int.reduceMul, Int.reduceEq, List.drop_zero, List.drop_succ_cons, ne_eq, not_false_eq_true, not_true_eq_false, false_and, and_false, false_implies, true_implies, reduceIte, mmU_rd, implies_true, or_false, false_or, or_true, true_or, mmUr_rd, mmU_Ur2]
            exact on _ 1 (by omega) (VI_bad hv (by omega) hz')
          · have f : fl = 1 := f
            subst f
            simp only [mmK_cut cd_194, q_cons, q_G0, q_GS, q_I1, q_L1, q_A1, q_S0, q_S1, q_SS, q_T0, q_T1, q_TS, q_Kn, q_Ki, q_Kl, q_Kr, q_k0, q_kS, q_rc, q_ps, q_pn, q_aload0, q_iconst, q_putfieldZ, q_istore1, q_iload1, q_getfieldI, q_icmp_ge, q_getfieldA, q_invV, q_lastore, q_iinc, q_goto, q_getfieldZ, q_if_eq, q_lconst0, q_isub, q_laload, q_lreturn, rf_11_57, mmKe_1257, mmKo_11, mmLen_1257, mmR32, mmR64, Option.some.injEq, Int.cast_ofNat_Int, and_true, true_and, if_true, if_false, List.length_cons, List.length_nil, Nat.le_refl, Nat.zero_le, Nat.sub_zero, forall_const, reduceCtorEq, Nat.reduceAdd, Nat.reduceSub, Nat.reduceLeDiff, Nat.reduceEqDiff, Int.reduceAdd, Int.reduceNeg, Int.reduceSub, Int.reduceLT, Int.reduceLE, Int.reduceMul, Int.reduceEq, List.drop_zero, List.drop_succ_cons, ne_eq, not_false_eq_true, not_true_eq_false, false_and, and_false, false_implies, true_implies, reduceIte, mmU_rd, implies_true, or_false, false_or, or_true, true_or, mmUr_rd, mmU_Ur2]
            exact on _ 1 (by omega) (VI_err hv ⟨hz1, hz2⟩)
  refine mmC_in (by decide) (Nat.le_of_ble_eq_true rfl) (mmC_step ?_)
  simp only [show mmMl 194 = 2 from rfl, mmLs, List.replicate, cd_194, sg_194_0, sg_194_5, sg_194_18, sg_194_23, sg_194_30, mmK_cut cd_194, q_cons, q_G0, q_GS, q_I1, q_L1, q_A1, q_S0, q_S1, q_SS, q_T0, q_T1, q_TS, q_Kn, q_Ki, q_Kl, q_Kr, q_k0, q_kS, q_rc, q_ps, q_pn, q_aload0, q_iconst, q_putfieldZ, q_istore1, q_iload1, q_getfieldI, q_icmp_ge, q_getfieldA, q_invV, q_lastore, q_iinc, q_goto, q_getfieldZ, q_if_eq, q_lconst0, q_isub, q_laload, q_lreturn, rf_11_57, mmKe_1257, mmKo_11, mmLen_1257, mmR32, mmR64, Option.some.injEq, Int.cast_ofNat_Int, and_true, true_and, if_true, if_false, List.length_cons, List.length_nil, Nat.le_refl, Nat.zero_le, Nat.sub_zero, forall_const, reduceCtorEq, Nat.reduceAdd, Nat.reduceSub, Nat.reduceLeDiff, Nat.reduceEqDiff, Int.reduceAdd, Int.reduceNeg, Int.reduceSub, Int.reduceLT, Int.reduceLE, Int.reduceMul, Int.reduceEq, List.drop_zero, List.drop_succ_cons, ne_eq, not_false_eq_true, not_true_eq_false, false_and, and_false, false_implies, true_implies, reduceIte, mmU_rd, implies_true, or_false, false_or, or_true, true_or]
  have := key (I 11 0 16).toNat 0 (I 1257 0) 0 (by omega) (by omega) ⟨Or.inl ⟨rfl, rfl, fun i h0 h1 => by unfold ixS at h1; omega⟩, fun m h0 h1 => by omega⟩
  rw [show mmUr (mmU I 11 0 58 0) 1257 0 (I 1257 0) = mmU I 11 0 58 0 from mmUr_id rfl] at this
  exact this
end S55
