def smN (f : Int → Int) (L : List Int) : Nat → Int
  | 0 => 0
  | k + 1 => smN f L k + f (L.getD k 0)
noncomputable def gmV (r : mRu) : Nat → mBd → Int → Int
  | 0, _, _ => 1
  | 1, B, m => cI (lkP r B m) 0 (mvs r B m).length
  | n + 2, B, m => cI (lkP r B m) 0 (smN (fun v => gmV r (n + 1) (aft B v) (m + 1)) (mvs r B m) (mvs r B m).length)
def p200 : Nat → Int
  | 0 => 1
  | n + 1 => 200 * p200 n
theorem smN_in {f : Int → Int} {L : List Int} {C : Int} (h : ∀ k : Nat, k < L.length → 0 ≤ f (L.getD k 0) ∧ f (L.getD k 0) ≤ C) : ∀ k : Nat, k ≤ L.length → 0 ≤ smN f L k ∧ smN f L k ≤ k * C
  | 0, _ => by unfold smN; simp
  | k + 1, hk => by
    have ih := smN_in h k (by omega)
    have hh := h k (by omega)
    have e : ((k + 1 : Nat) : Int) * C = k * C + C := by
      rw [show ((k + 1 : Nat) : Int) = (k : Int) + 1 by omega, Int.add_mul, Int.one_mul]
    show 0 ≤ smN f L k + f (L.getD k 0) ∧ smN f L k + f (L.getD k 0) ≤ ((k + 1 : Nat) : Int) * C
    rw [e]
    omega
theorem p200_in : ∀ n : Nat, 0 ≤ p200 n
  | 0 => by decide
  | n + 1 => by
    have := p200_in n
    show 0 ≤ 200 * p200 n
    omega
theorem gm_in {r : mRu} (hq : RQ r) : ∀ (n : Nat) (B : mBd) (m : Int), BW r B → 0 ≤ gmV r n B m ∧ gmV r n B m ≤ p200 n
  | 0, B, m, hB => by
    show (0 : Int) ≤ 1 ∧ (1 : Int) ≤ 1
    omega
  | 1, B, m, hB => by
    have hlen : ((mvs r B m).length : Int) ≤ 200 := mvL_cap (m := m) hq hB (n := 25) (by omega)
    show 0 ≤ cI (lkP r B m) 0 (mvs r B m).length ∧ cI (lkP r B m) 0 (mvs r B m).length ≤ 200 * 1
    by_cases c : lkP r B m
    · rw [cI_pos c]; omega
    · rw [cI_neg c]; omega
  | n + 2, B, m, hB => by
    have hlen : ((mvs r B m).length : Int) ≤ 200 := mvL_cap (m := m) hq hB (n := 25) (by omega)
    have hp := p200_in (n + 1)
    show 0 ≤ cI (lkP r B m) 0 (smN (fun v => gmV r (n + 1) (aft B v) (m + 1)) (mvs r B m) (mvs r B m).length) ∧ cI (lkP r B m) 0 (smN (fun v => gmV r (n + 1) (aft B v) (m + 1)) (mvs r B m) (mvs r B m).length) ≤ 200 * p200 (n + 1)
    by_cases c : lkP r B m
    · rw [cI_pos c]; omega
    · rw [cI_neg c]
      have h1 := smN_in (f := fun v => gmV r (n + 1) (aft B v) (m + 1)) (L := mvs r B m) (C := p200 (n + 1)) (fun k hk => by
        have hvm := getD_mem (L := mvs r B m) hk
        have hv0 := (mvL_0 hq.1.1 hq.1.2.1 hvm).resolve_right (by omega)
        exact gm_in hq (n + 1) _ _ (BW_aft hq hB (mv_ok hq hB hv0.1 (mvL_lf hq.1.1 hq.1.2.1 25 hvm)))) (mvs r B m).length (Nat.le_refl _)
      have h2 : ((mvs r B m).length : Int) * p200 (n + 1) ≤ 200 * p200 (n + 1) := Int.mul_le_mul_of_nonneg_right hlen hp
      omega
section S828
variable {a j x : Nat} {br : Nat → Option mmO} {r : mRu}
set_option maxHeartbeats 2000000 in
theorem c_rowsOf (hb : br j = some (6, x)) (hq : RQ r) : ∀ (n dd lv : Nat) (B : mBd) (m : Int) (I : mMm) (X : mmX), n + 6 ≤ dd → n ≤ 3 → lv + n ≤ 5 → CR I x r → BV I j B m r → BW r B → 0 ≤ m → m + n < 90 → mmC dd 80 [mo 7 0, mo 0 j, mv n, mv lv] (I, mmRf a br, X) (mT a br X fun v I' => v = some (mv (gmV r n B m)) ∧ FrE j lv I I' ∧ BV I' j B m r) := by
  have w0 := hq.1.1
  have w1 := hq.1.2.1
  intro n
  induction n with
  | zero =>
    intro dd lv B m I X hdd hn hlv hC hV hB hm hmn
    obtain ⟨d, rfl⟩ : ∃ d, dd = d + 6 := ⟨dd - 6, by omega⟩
    refine mmC_in (by decide) (Nat.le_of_ble_eq_true rfl) (mmC_step ?_)
    simp only [show mmMl 80 = 9 from rfl, mmLs, List.replicate, cd_80, sg_80_0, sg_80_4, sg_80_10, sg_80_12, sg_80_26, sg_80_30, sg_80_59, mmK_cut cd_80, q_cons, q_G0, q_GS, q_I1, q_L1, q_A1, q_S0, q_S1, q_SS, q_T0, q_T1, q_TS, q_Kn, q_Ki, q_Kl, q_Kr, q_k0, q_kS, q_rc, q_ps, q_pn, q_iload2, q_if_gt, q_iconst, q_ireturn0, q_iload3, q_bipush, q_icmp_ge, q_aload1, q_if_eq, q_aload0, q_getfieldA, q_aaload, q_astore, q_aload, q_istore, q_icmp_ne, q_iload, q_iaload, q_isub, q_iadd, q_iinc, q_goto, rf_7_0, mmKe_800, mmKo_0, mmKo_7, mmLen_800, mmR32, mmR64, Option.some.injEq, Int.cast_ofNat_Int, and_true, true_and, if_true, if_false, List.length_cons, List.length_nil, Nat.le_refl, Nat.zero_le, Nat.sub_zero, forall_const, reduceCtorEq, Nat.reduceAdd, Nat.reduceSub, Nat.reduceLeDiff, Nat.reduceEqDiff, Int.reduceAdd, Int.reduceNeg, Int.reduceSub, Int.reduceLT, Int.reduceLE, Int.reduceMul, Int.reduceEq, List.drop_zero, List.drop_succ_cons, ne_eq, not_false_eq_true, not_true_eq_false, false_and, and_false, false_implies, true_implies, reduceIte, mmU_rd, implies_true, or_false, false_or, or_true, true_or]
    exact mT_in ⟨rfl, FrE_refl, hV⟩
  | succ n ih =>
    intro dd lv B m I X hdd hn hlv hC hV hB hm hmn
    obtain ⟨d, rfl⟩ : ∃ d, dd = d + 7 := ⟨dd - 7, by omega⟩
    have hlen : ((mvs r B m).length : Int) ≤ 200 := mvL_cap (m := m) hq hB (n := 25) (by omega)
    have h800 : mmRf a br 800 0 (lv : Int) = some (850, lv) := rf_800 (by omega)
    have hlk : lkP r B m → gmV r (n + 1) B m = 0 := by
      intro c
      cases n with
      | zero => exact cI_pos c
      | succ n => exact cI_pos c
    refine mmC_in (by decide) (Nat.le_of_ble_eq_true rfl) (mmC_step ?_)
    simp only [show mmMl 80 = 9 from rfl, mmLs, List.replicate, cd_80, sg_80_0, sg_80_4, sg_80_10, sg_80_12, sg_80_26, sg_80_30, sg_80_59, mmK_cut cd_80, q_cons, q_G0, q_GS, q_I1, q_L1, q_A1, q_S0, q_S1, q_SS, q_T0, q_T1, q_TS, q_Kn, q_Ki, q_Kl, q_Kr, q_k0, q_kS, q_rc, q_ps, q_pn, q_iload2, q_if_gt, q_iconst, q_ireturn0, q_iload3, q_bipush, q_icmp_ge, q_aload1, q_if_eq, q_aload0, q_getfieldA, q_aaload, q_astore, q_aload, q_istore, q_icmp_ne, q_iload, q_iaload, q_isub, q_iadd, q_iinc, q_goto, rf_7_0, mmKe_800, mmKo_0, mmKo_7, mmLen_800, mmR32, mmR64, Option.some.injEq, Int.cast_ofNat_Int, and_true, true_and, if_true, if_false, List.length_cons, List.length_nil, Nat.le_refl, Nat.zero_le, Nat.sub_zero, forall_const, reduceCtorEq, Nat.reduceAdd, Nat.reduceSub, Nat.reduceLeDiff, Nat.reduceEqDiff, Int.reduceAdd, Int.reduceNeg, Int.reduceSub, Int.reduceLT, Int.reduceLE, Int.reduceMul, Int.reduceEq, List.drop_zero, List.drop_succ_cons, ne_eq, not_false_eq_true, not_true_eq_false, false_and, and_false, false_implies, true_implies, reduceIte, mmU_rd, implies_true, or_false, false_or, or_true, true_or]
    refine ⟨fun _ => ?_, fun c => by omega⟩
    refine mmC_step ?_
    simp only [cd_80, sg_80_0, sg_80_4, sg_80_10, sg_80_12, sg_80_26, sg_80_30, sg_80_59, mmK_cut cd_80, q_cons, q_G0, q_GS, q_I1, q_L1, q_A1, q_S0, q_S1, q_SS, q_T0, q_T1, q_TS, q_Kn, q_Ki, q_Kl, q_Kr, q_k0, q_kS, q_rc, q_ps, q_pn, q_iload2, q_if_gt, q_iconst, q_ireturn0, q_iload3, q_bipush, q_icmp_ge, q_aload1, q_if_eq, q_aload0, q_getfieldA, q_aaload, q_astore, q_aload, q_istore, q_icmp_ne, q_iload, q_iaload, q_isub, q_iadd, q_iinc, q_goto, rf_7_0, mmKe_800, mmKo_0, mmKo_7, mmLen_800, mmR32, mmR64, Option.some.injEq, Int.cast_ofNat_Int, and_true, true_and, if_true, if_false, List.length_cons, List.length_nil, Nat.le_refl, Nat.zero_le, Nat.sub_zero, forall_const, reduceCtorEq, Nat.reduceAdd, Nat.reduceSub, Nat.reduceLeDiff, Nat.reduceEqDiff, Int.reduceAdd, Int.reduceNeg, Int.reduceSub, Int.reduceLT, Int.reduceLE, Int.reduceMul, Int.reduceEq, List.drop_zero, List.drop_succ_cons, ne_eq, not_false_eq_true, not_true_eq_false, false_and, and_false, false_implies, true_implies, reduceIte, mmU_rd, implies_true, or_false, false_or, or_true, true_or]
    refine ⟨fun c => by omega, fun _ => ?_⟩
    rw [q_invV (pay := [])]
    simp only [q_k0, q_kS, q_rc, mmKo_0]
    refine ⟨Nat.le_of_ble_eq_true rfl, by trivial, Nat.zero_le _, Nat.zero_le _, ?_⟩
    refine sp_lacksKing hb hC hV ?_
    simp only [mmK_cut cd_80, q_cons, q_G0, q_GS, q_I1, q_L1, q_A1, q_S0, q_S1, q_SS, q_T0, q_T1, q_TS, q_Kn, q_Ki, q_Kl, q_Kr, q_k0, q_kS, q_rc, q_ps, q_pn, q_iload2, q_if_gt, q_iconst, q_ireturn0, q_iload3, q_bipush, q_icmp_ge, q_aload1, q_if_eq, q_aload0, q_getfieldA, q_aaload, q_astore, q_aload, q_istore, q_icmp_ne, q_iload, q_iaload, q_isub, q_iadd, q_iinc, q_goto, rf_7_0, mmKe_800, mmKo_0, mmKo_7, mmLen_800, mmR32, mmR64, Option.some.injEq, Int.cast_ofNat_Int, and_true, true_and, if_true, if_false, List.length_cons, List.length_nil, Nat.le_refl, Nat.zero_le, Nat.sub_zero, forall_const, reduceCtorEq, Nat.reduceAdd, Nat.reduceSub, Nat.reduceLeDiff, Nat.reduceEqDiff, Int.reduceAdd, Int.reduceNeg, Int.reduceSub, Int.reduceLT, Int.reduceLE, Int.reduceMul, Int.reduceEq, List.drop_zero, List.drop_succ_cons, ne_eq, not_false_eq_true, not_true_eq_false, false_and, and_false, false_implies, true_implies, reduceIte, mmU_rd, implies_true, or_false, false_or, or_true, true_or, bI_eq0]
    refine ⟨fun c => ?_, fun c => ?_⟩
    · refine mmC_step ?_
      simp only [cd_80, sg_80_0, sg_80_4, sg_80_10, sg_80_12, sg_80_26, sg_80_30, sg_80_59, mmK_cut cd_80, q_cons, q_G0, q_GS, q_I1, q_L1, q_A1, q_S0, q_S1, q_SS, q_T0, q_T1, q_TS, q_Kn, q_Ki, q_Kl, q_Kr, q_k0, q_kS, q_rc, q_ps, q_pn, q_iload2, q_if_gt, q_iconst, q_ireturn0, q_iload3, q_bipush, q_icmp_ge, q_aload1, q_if_eq, q_aload0, q_getfieldA, q_aaload, q_astore, q_aload, q_istore, q_icmp_ne, q_iload, q_iaload, q_isub, q_iadd, q_iinc, q_goto, rf_7_0, mmKe_800, mmKo_0, mmKo_7, mmLen_800, mmR32, mmR64, Option.some.injEq, Int.cast_ofNat_Int, and_true, true_and, if_true, if_false, List.length_cons, List.length_nil, Nat.le_refl, Nat.zero_le, Nat.sub_zero, forall_const, reduceCtorEq, Nat.reduceAdd, Nat.reduceSub, Nat.reduceLeDiff, Nat.reduceEqDiff, Int.reduceAdd, Int.reduceNeg, Int.reduceSub, Int.reduceLT, Int.reduceLE, Int.reduceMul, Int.reduceEq, List.drop_zero, List.drop_succ_cons, ne_eq, not_false_eq_true, not_true_eq_false, false_and, and_false, false_implies, true_implies, reduceIte, mmU_rd, implies_true, or_false, false_or, or_true, true_or, h800]
      refine ⟨by omega, by omega, ?_⟩
      rw [q_invV (pay := [])]
      simp only [q_k0, q_kS, q_rc, mmKo_0]
      refine ⟨Nat.le_of_ble_eq_true rfl, by trivial, Nat.zero_le _, Nat.zero_le _, ?_⟩
      refine mT_use (c_listMoves (tl := 850) (il := lv) hb hC hq hV hB (by omega) (Or.inr (Or.inr rfl)) rfl) (fun v I1 q => ?_)
      obtain ⟨rfl, f1, la⟩ := q
      have v1 := BV_A (Or.inr (Or.inr rfl)) hV f1
      simp only [mmK_cut cd_80, q_cons, q_G0, q_GS, q_I1, q_L1, q_A1, q_S0, q_S1, q_SS, q_T0, q_T1, q_TS, q_Kn, q_Ki, q_Kl, q_Kr, q_k0, q_kS, q_rc, q_ps, q_pn, q_iload2, q_if_gt, q_iconst, q_ireturn0, q_iload3, q_bipush, q_icmp_ge, q_aload1, q_if_eq, q_aload0, q_getfieldA, q_aaload, q_astore, q_aload, q_istore, q_icmp_ne, q_iload, q_iaload, q_isub, q_iadd, q_iinc, q_goto, rf_7_0, mmKe_800, mmKo_0, mmKo_7, mmLen_800, mmR32, mmR64, Option.some.injEq, Int.cast_ofNat_Int, and_true, true_and, if_true, if_false, List.length_cons, List.length_nil, Nat.le_refl, Nat.zero_le, Nat.sub_zero, forall_const, reduceCtorEq, Nat.reduceAdd, Nat.reduceSub, Nat.reduceLeDiff, Nat.reduceEqDiff, Int.reduceAdd, Int.reduceNeg, Int.reduceSub, Int.reduceLT, Int.reduceLE, Int.reduceMul, Int.reduceEq, List.drop_zero, List.drop_succ_cons, ne_eq, not_false_eq_true, not_true_eq_false, false_and, and_false, false_implies, true_implies, reduceIte, mmU_rd, implies_true, or_false, false_or, or_true, true_or]
      refine ⟨fun c2 => ?_, fun c2 => ?_⟩
      · obtain ⟨n', rfl⟩ : ∃ n', n = n' + 1 := ⟨n - 1, by omega⟩
        have eg : gmV r (n' + 1 + 1) B m = smN (fun v => gmV r (n' + 1) (aft B v) (m + 1)) (mvs r B m) (mvs r B m).length := cI_neg c
        rw [eg]
        have hf : ∀ k : Nat, k < (mvs r B m).length → 0 ≤ (fun v => gmV r (n' + 1) (aft B v) (m + 1)) ((mvs r B m).getD k 0) ∧ (fun v => gmV r (n' + 1) (aft B v) (m + 1)) ((mvs r B m).getD k 0) ≤ 40000 := by
          intro k hk
          have hvm := getD_mem (L := mvs r B m) hk
          have hv0 := (mvL_0 hq.1.1 hq.1.2.1 hvm).resolve_right (by omega)
          have h1 := gm_in hq (n' + 1) (aft B ((mvs r B m).getD k 0)) (m + 1) (BW_aft hq hB (mv_ok hq hB hv0.1 (mvL_lf hq.1.1 hq.1.2.1 25 hvm)))
          have h2 : p200 (n' + 1) ≤ 40000 := by
            have : n' = 0 ∨ n' = 1 := by omega
            rcases this with q | q <;> subst q <;> decide
          exact ⟨h1.1, Int.le_trans h1.2 h2⟩
        have key : ∀ (q k : Nat) (I2 : mMm) (l8 : Option mmV), k + q = (mvs r B m).length → FrE j lv I I2 → BV I2 j B m r → LA (I2 850 lv) (mvs r B m) → mmK (d + 6) 80 (mT a br X fun v I' => v = some (mv (smN (fun v => gmV r (n' + 1) (aft B v) (m + 1)) (mvs r B m) (mvs r B m).length)) ∧ FrE j lv I I' ∧ BV I' j B m r) 30 [some (mo 7 0), some (mo 0 j), some (mv ((n' + 1 + 1 : Nat) : Int)), some (mv lv), some (mo 850 lv), some (mv (mvs r B m).length), some (mv (smN (fun v => gmV r (n' + 1) (aft B v) (m + 1)) (mvs r B m) k)), some (mv k), l8] [] (I2, mmRf a br, X) := by
          intro q
          induction q with
          | zero =>
            intro k I2 l8 hk f2 v2 la2
            have e : k = (mvs r B m).length := by omega
            subst e
            refine mmC_step ?_
            simp only [cd_80, sg_80_0, sg_80_4, sg_80_10, sg_80_12, sg_80_26, sg_80_30, sg_80_59, mmK_cut cd_80, q_cons, q_G0, q_GS, q_I1, q_L1, q_A1, q_S0, q_S1, q_SS, q_T0, q_T1, q_TS, q_Kn, q_Ki, q_Kl, q_Kr, q_k0, q_kS, q_rc, q_ps, q_pn, q_iload2, q_if_gt, q_iconst, q_ireturn0, q_iload3, q_bipush, q_icmp_ge, q_aload1, q_if_eq, q_aload0, q_getfieldA, q_aaload, q_astore, q_aload, q_istore, q_icmp_ne, q_iload, q_iaload, q_isub, q_iadd, q_iinc, q_goto, rf_7_0, mmKe_800, mmKo_0, mmKo_7, mmLen_800, mmR32, mmR64, Option.some.injEq, Int.cast_ofNat_Int, and_true, true_and, if_true, if_false, List.length_cons, List.length_nil, Nat.le_refl, Nat.zero_le, Nat.sub_zero, forall_const, reduceCtorEq, Nat.reduceAdd, Nat.reduceSub, Nat.reduceLeDiff, Nat.reduceEqDiff, Int.reduceAdd, Int.reduceNeg, Int.reduceSub, Int.reduceLT, Int.reduceLE, Int.reduceMul, Int.reduceEq, List.drop_zero, List.drop_succ_cons, ne_eq, not_false_eq_true, not_true_eq_false, false_and, and_false, false_implies, true_implies, reduceIte, mmU_rd, implies_true, or_false, false_or, or_true, true_or]
            refine ⟨fun _ => ?_, fun c => by omega⟩
            refine mmC_step ?_
            simp only [cd_80, sg_80_0, sg_80_4, sg_80_10, sg_80_12, sg_80_26, sg_80_30, sg_80_59, mmK_cut cd_80, q_cons, q_G0, q_GS, q_I1, q_L1, q_A1, q_S0, q_S1, q_SS, q_T0, q_T1, q_TS, q_Kn, q_Ki, q_Kl, q_Kr, q_k0, q_kS, q_rc, q_ps, q_pn, q_iload2, q_if_gt, q_iconst, q_ireturn0, q_iload3, q_bipush, q_icmp_ge, q_aload1, q_if_eq, q_aload0, q_getfieldA, q_aaload, q_astore, q_aload, q_istore, q_icmp_ne, q_iload, q_iaload, q_isub, q_iadd, q_iinc, q_goto, rf_7_0, mmKe_800, mmKo_0, mmKo_7, mmLen_800, mmR32, mmR64, Option.some.injEq, Int.cast_ofNat_Int, and_true, true_and, if_true, if_false, List.length_cons, List.length_nil, Nat.le_refl, Nat.zero_le, Nat.sub_zero, forall_const, reduceCtorEq, Nat.reduceAdd, Nat.reduceSub, Nat.reduceLeDiff, Nat.reduceEqDiff, Int.reduceAdd, Int.reduceNeg, Int.reduceSub, Int.reduceLT, Int.reduceLE, Int.reduceMul, Int.reduceEq, List.drop_zero, List.drop_succ_cons, ne_eq, not_false_eq_true, not_true_eq_false, false_and, and_false, false_implies, true_implies, reduceIte, mmU_rd, implies_true, or_false, false_or, or_true, true_or]
            exact mT_in ⟨rfl, f2, v2⟩
          | succ q ihq =>
            intro k I2 l8 hk f2 v2 la2
            have hvm := getD_mem (L := mvs r B m) (k := k) (by omega)
            have ev := la2 k (by omega)
            have hs := smN_in (f := fun v => gmV r (n' + 1) (aft B v) (m + 1)) (L := mvs r B m) hf k (by omega)
            have hs2 : (k : Int) * 40000 ≤ 8000000 := by omega
            have hfk := hf k (by omega)
            have esn : smN (fun v => gmV r (n' + 1) (aft B v) (m + 1)) (mvs r B m) (k + 1) = smN (fun v => gmV r (n' + 1) (aft B v) (m + 1)) (mvs r B m) k + gmV r (n' + 1) (aft B ((mvs r B m).getD k 0)) (m + 1) := rfl
            simp only at hfk
            generalize hvv : (mvs r B m).getD k 0 = v at *
            have hv0 : 0 ≤ v ∧ v < 1600 := (mvL_0 w0 w1 hvm).resolve_right (by omega)
            have hok := mv_ok hq hB hv0.1 (mvL_lf w0 w1 25 hvm)
            have hBa := BW_aft hq hB hok
            obtain ⟨o1, o2, o3, o4, o5, o6⟩ := hok
            have hC2 := CR_E hC f2
            have hk200 : (k : Int) < mmLen 850 := by rw [show mmLen 850 = 200 from rfl]; omega
            refine mmC_step ?_
            simp only [cd_80, sg_80_0, sg_80_4, sg_80_10, sg_80_12, sg_80_26, sg_80_30, sg_80_59, mmK_cut cd_80, q_cons, q_G0, q_GS, q_I1, q_L1, q_A1, q_S0, q_S1, q_SS, q_T0, q_T1, q_TS, q_Kn, q_Ki, q_Kl, q_Kr, q_k0, q_kS, q_rc, q_ps, q_pn, q_iload2, q_if_gt, q_iconst, q_ireturn0, q_iload3, q_bipush, q_icmp_ge, q_aload1, q_if_eq, q_aload0, q_getfieldA, q_aaload, q_astore, q_aload, q_istore, q_icmp_ne, q_iload, q_iaload, q_isub, q_iadd, q_iinc, q_goto, rf_7_0, mmKe_800, mmKo_0, mmKo_7, mmLen_800, mmR32, mmR64, Option.some.injEq, Int.cast_ofNat_Int, and_true, true_and, if_true, if_false, List.length_cons, List.length_nil, Nat.le_refl, Nat.zero_le, Nat.sub_zero, forall_const, reduceCtorEq, Nat.reduceAdd, Nat.reduceSub, Nat.reduceLeDiff, Nat.reduceEqDiff, Int.reduceAdd, Int.reduceNeg, Int.reduceSub, Int.reduceLT, Int.reduceLE, Int.reduceMul, Int.reduceEq, List.drop_zero, List.drop_succ_cons, ne_eq, not_false_eq_true, not_true_eq_false, false_and, and_false, false_implies, true_implies, reduceIte, mmU_rd, implies_true, or_false, false_or, or_true, true_or]
            rw [ev]
            refine ⟨fun c => by omega, fun _ => ⟨rfl, by omega, hk200, ?_⟩⟩
            rw [q_invV (pay := [])]
            simp only [q_k0, q_kS, q_rc, mmKo_0]
            refine ⟨Nat.le_of_ble_eq_true rfl, by trivial, Nat.zero_le _, Nat.zero_le _, ?_⟩
            refine mT_use (c_make o1 hb hC2 hq.1 v2 hB (by omega) o2 o3 o4) (fun u I3 q3 => ?_)
            obtain ⟨rfl, f3, v3⟩ := q3
            have f3' : FrE j (lv + 1) I2 I3 := FrE_D f3
            simp only [mmK_cut cd_80, q_cons, q_G0, q_GS, q_I1, q_L1, q_A1, q_S0, q_S1, q_SS, q_T0, q_T1, q_TS, q_Kn, q_Ki, q_Kl, q_Kr, q_k0, q_kS, q_rc, q_ps, q_pn, q_iload2, q_if_gt, q_iconst, q_ireturn0, q_iload3, q_bipush, q_icmp_ge, q_aload1, q_if_eq, q_aload0, q_getfieldA, q_aaload, q_astore, q_aload, q_istore, q_icmp_ne, q_iload, q_iaload, q_isub, q_iadd, q_iinc, q_goto, rf_7_0, mmKe_800, mmKo_0, mmKo_7, mmLen_800, mmR32, mmR64, Option.some.injEq, Int.cast_ofNat_Int, and_true, true_and, if_true, if_false, List.length_cons, List.length_nil, Nat.le_refl, Nat.zero_le, Nat.sub_zero, forall_const, reduceCtorEq, Nat.reduceAdd, Nat.reduceSub, Nat.reduceLeDiff, Nat.reduceEqDiff, Int.reduceAdd, Int.reduceNeg, Int.reduceSub, Int.reduceLT, Int.reduceLE, Int.reduceMul, Int.reduceEq, List.drop_zero, List.drop_succ_cons, ne_eq, not_false_eq_true, not_true_eq_false, false_and, and_false, false_implies, true_implies, reduceIte, mmU_rd, implies_true, or_false, false_or, or_true, true_or]
            have ihc := ih (d + 6) (lv + 1) (aft B v) (m + 1) I3 (X.1, 0, 0) (by omega) (by omega) (by omega) (CR_E hC2 f3') v3 hBa (by omega) (by omega)
            rw [show ((n' + 1 + 1 : Nat) : Int) - 1 = ((n' + 1 : Nat) : Int) by omega, show ((lv : Nat) : Int) + 1 = ((lv + 1 : Nat) : Int) by omega]
            refine ⟨by omega, by omega, ?_⟩
            rw [q_invV (pay := [])]
            simp only [q_k0, q_kS, q_rc, mmKo_7]
            refine ⟨Nat.le_of_ble_eq_true rfl, by trivial, Nat.zero_le _, Nat.zero_le _, ?_⟩
            refine mT_use ihc (fun u I4 q4 => ?_)
            obtain ⟨rfl, f4, v4⟩ := q4
            have f24 : FrE j (lv + 1) I2 I4 := FrE_trans f3' f4
            have ev4 : I4 850 lv k = v := (f24 _ _ _ (by omega) (by omega) (by omega)).trans ev
            simp only [mmK_cut cd_80, q_cons, q_G0, q_GS, q_I1, q_L1, q_A1, q_S0, q_S1, q_SS, q_T0, q_T1, q_TS, q_Kn, q_Ki, q_Kl, q_Kr, q_k0, q_kS, q_rc, q_ps, q_pn, q_iload2, q_if_gt, q_iconst, q_ireturn0, q_iload3, q_bipush, q_icmp_ge, q_aload1, q_if_eq, q_aload0, q_getfieldA, q_aaload, q_astore, q_aload, q_istore, q_icmp_ne, q_iload, q_iaload, q_isub, q_iadd, q_iinc, q_goto, rf_7_0, mmKe_800, mmKo_0, mmKo_7, mmLen_800, mmR32, mmR64, Option.some.injEq, Int.cast_ofNat_Int, and_true, true_and, if_true, if_false, List.length_cons, List.length_nil, Nat.le_refl, Nat.zero_le, Nat.sub_zero, forall_const, reduceCtorEq, Nat.reduceAdd, Nat.reduceSub, Nat.reduceLeDiff, Nat.reduceEqDiff, Int.reduceAdd, Int.reduceNeg, Int.reduceSub, Int.reduceLT, Int.reduceLE, Int.reduceMul, Int.reduceEq, List.drop_zero, List.drop_succ_cons, ne_eq, not_false_eq_true, not_true_eq_false, false_and, and_false, false_implies, true_implies, reduceIte, mmU_rd, implies_true, or_false, false_or, or_true, true_or]
            rw [ev4]
            refine ⟨by omega, rfl, by omega, hk200, ?_⟩
            rw [q_invV (pay := [])]
            simp only [q_k0, q_kS, q_rc, mmKo_0]
            refine ⟨Nat.le_of_ble_eq_true rfl, by trivial, Nat.zero_le _, Nat.zero_le _, ?_⟩
            refine mT_use (c_unmake o1 hb (CR_E hC2 f24) hq.1 v4 hB (by omega) o2 o3 o4) (fun u I5 q5 => ?_)
            obtain ⟨rfl, f5, v5⟩ := q5
            have f25 : FrE j (lv + 1) I2 I5 := FrE_trans f24 (FrE_D f5)
            simp only [mmK_cut cd_80, q_cons, q_G0, q_GS, q_I1, q_L1, q_A1, q_S0, q_S1, q_SS, q_T0, q_T1, q_TS, q_Kn, q_Ki, q_Kl, q_Kr, q_k0, q_kS, q_rc, q_ps, q_pn, q_iload2, q_if_gt, q_iconst, q_ireturn0, q_iload3, q_bipush, q_icmp_ge, q_aload1, q_if_eq, q_aload0, q_getfieldA, q_aaload, q_astore, q_aload, q_istore, q_icmp_ne, q_iload, q_iaload, q_isub, q_iadd, q_iinc, q_goto, rf_7_0, mmKe_800, mmKo_0, mmKo_7, mmLen_800, mmR32, mmR64, Option.some.injEq, Int.cast_ofNat_Int, and_true, true_and, if_true, if_false, List.length_cons, List.length_nil, Nat.le_refl, Nat.zero_le, Nat.sub_zero, forall_const, reduceCtorEq, Nat.reduceAdd, Nat.reduceSub, Nat.reduceLeDiff, Nat.reduceEqDiff, Int.reduceAdd, Int.reduceNeg, Int.reduceSub, Int.reduceLT, Int.reduceLE, Int.reduceMul, Int.reduceEq, List.drop_zero, List.drop_succ_cons, ne_eq, not_false_eq_true, not_true_eq_false, false_and, and_false, false_implies, true_implies, reduceIte, mmU_rd, implies_true, or_false, false_or, or_true, true_or]
            refine ⟨by omega, ?_⟩
            have := ihq (k + 1) I5 (some (mv (B (v % 64)))) (by omega) (FrE_trans f2 (FrE_up f25)) v5 (LA_ext la2 (fun i _ _ => f25 _ _ _ (by omega) (by omega) (by omega)))
            rw [esn] at this
            exact this
        refine mmC_step ?_
        simp only [cd_80, sg_80_0, sg_80_4, sg_80_10, sg_80_12, sg_80_26, sg_80_30, sg_80_59, mmK_cut cd_80, q_cons, q_G0, q_GS, q_I1, q_L1, q_A1, q_S0, q_S1, q_SS, q_T0, q_T1, q_TS, q_Kn, q_Ki, q_Kl, q_Kr, q_k0, q_kS, q_rc, q_ps, q_pn, q_iload2, q_if_gt, q_iconst, q_ireturn0, q_iload3, q_bipush, q_icmp_ge, q_aload1, q_if_eq, q_aload0, q_getfieldA, q_aaload, q_astore, q_aload, q_istore, q_icmp_ne, q_iload, q_iaload, q_isub, q_iadd, q_iinc, q_goto, rf_7_0, mmKe_800, mmKo_0, mmKo_7, mmLen_800, mmR32, mmR64, Option.some.injEq, Int.cast_ofNat_Int, and_true, true_and, if_true, if_false, List.length_cons, List.length_nil, Nat.le_refl, Nat.zero_le, Nat.sub_zero, forall_const, reduceCtorEq, Nat.reduceAdd, Nat.reduceSub, Nat.reduceLeDiff, Nat.reduceEqDiff, Int.reduceAdd, Int.reduceNeg, Int.reduceSub, Int.reduceLT, Int.reduceLE, Int.reduceMul, Int.reduceEq, List.drop_zero, List.drop_succ_cons, ne_eq, not_false_eq_true, not_true_eq_false, false_and, and_false, false_implies, true_implies, reduceIte, mmU_rd, implies_true, or_false, false_or, or_true, true_or]
        exact key (mvs r B m).length 0 I1 _ (by omega) (FrE_L f1) v1 la
      · have e : n = 0 := by omega
        subst e
        have eg : gmV r (0 + 1) B m = (mvs r B m).length := cI_neg c
        rw [eg]
        exact mT_in ⟨rfl, FrE_L f1, v1⟩
    · refine mmC_step ?_
      simp only [cd_80, sg_80_0, sg_80_4, sg_80_10, sg_80_12, sg_80_26, sg_80_30, sg_80_59, mmK_cut cd_80, q_cons, q_G0, q_GS, q_I1, q_L1, q_A1, q_S0, q_S1, q_SS, q_T0, q_T1, q_TS, q_Kn, q_Ki, q_Kl, q_Kr, q_k0, q_kS, q_rc, q_ps, q_pn, q_iload2, q_if_gt, q_iconst, q_ireturn0, q_iload3, q_bipush, q_icmp_ge, q_aload1, q_if_eq, q_aload0, q_getfieldA, q_aaload, q_astore, q_aload, q_istore, q_icmp_ne, q_iload, q_iaload, q_isub, q_iadd, q_iinc, q_goto, rf_7_0, mmKe_800, mmKo_0, mmKo_7, mmLen_800, mmR32, mmR64, Option.some.injEq, Int.cast_ofNat_Int, and_true, true_and, if_true, if_false, List.length_cons, List.length_nil, Nat.le_refl, Nat.zero_le, Nat.sub_zero, forall_const, reduceCtorEq, Nat.reduceAdd, Nat.reduceSub, Nat.reduceLeDiff, Nat.reduceEqDiff, Int.reduceAdd, Int.reduceNeg, Int.reduceSub, Int.reduceLT, Int.reduceLE, Int.reduceMul, Int.reduceEq, List.drop_zero, List.drop_succ_cons, ne_eq, not_false_eq_true, not_true_eq_false, false_and, and_false, false_implies, true_implies, reduceIte, mmU_rd, implies_true, or_false, false_or, or_true, true_or]
      refine mT_in ⟨?_, FrE_refl, hV⟩
      rw [hlk (Classical.not_not.mp c)]
end S828
