noncomputable def rfV (r : mRu) (n : Nat) (B : mBd) (m : Int) : Int := fsL (fun v => ¬ sfV r n (aft B v) (m + 1) = -2) (mvs r B m)
/-- how many of the first k of a list are P -/
noncomputable def cnN (P : Int → Prop) (L : List Int) : Nat → Int
  | 0 => 0
  | k + 1 => cnN P L k + bI (P (L.getD k 0))
theorem cnN_in {P : Int → Prop} {L : List Int} : ∀ k : Nat, 0 ≤ cnN P L k ∧ cnN P L k ≤ k
  | 0 => by unfold cnN; omega
  | k + 1 => by
    have := cnN_in (P := P) (L := L) k
    have h := bI_01 (p := P (L.getD k 0))
    show 0 ≤ cnN P L k + bI (P (L.getD k 0)) ∧ cnN P L k + bI (P (L.getD k 0)) ≤ ((k + 1 : Nat) : Int)
    omega
/-- the open moves of a row -/
def RO (I : mMm) (j : Nat) (L : List Int) : Prop := I 5 j 7 = L.length ∧ LA (I 606 j) L
section S823
variable {d a j x : Nat} {I I' I'' : mMm} {br : Nat → Option mmO} {X : mmX} {B : mBd} {m : Int} {r : mRu} {Q : Option mmV → mmM → Prop}
theorem RO_E {L : List Int} {lv : Nat} (h : RO I j L) (hf : FrE j lv I I') : RO I' j L := ⟨(hf _ _ _ (by omega) (by omega) (by omega)).trans h.1, LA_ext h.2 (fun k _ _ => hf _ _ _ (by omega) (by omega) (by omega))⟩
set_option maxHeartbeats 1000000 in
theorem c_refutation {n : Nat} (hn : n ≤ 2) (hb : br j = some (6, x)) (hq : RQ r) (hC : CR I x r) (hV : BV I j B m r) (hB : BW r B) (hm : 0 ≤ m ∧ m < 79) (hO : RO I j (mvs r B m)) : mmC (d + 10) 85 [mo 7 0, mo 5 j, mv n] (I, mmRf a br, X) (mT a br X fun v I' => v = some (mv (rfV r n B m)) ∧ FrE j 0 I I' ∧ BV I' j B m r) := by
  have w0 := hq.1.1
  have w1 := hq.1.2.1
  have hlen : ((mvs r B m).length : Int) ≤ 200 := mvL_cap (m := m) hq hB (n := 25) (by omega)
  have key : ∀ (q k : Nat) (I2 : mMm) (l4 l5 : Option mmV), k + q = (mvs r B m).length → FrE j 0 I I2 → BV I2 j B m r → RO I2 j (mvs r B m) → (∀ i : Nat, i < k → ¬ sfV r n (aft B ((mvs r B m).getD i 0)) (m + 1) = -2) → mmK (d + 9) 85 (mT a br X fun v I' => v = some (mv (rfV r n B m)) ∧ FrE j 0 I I' ∧ BV I' j B m r) 2 [some (mo 7 0), some (mo 5 j), some (mv n), some (mv k), l4, l5] [] (I2, mmRf a br, X) := by
    intro q
    induction q with
    | zero =>
      intro k I2 l4 l5 hk f2 v2 ro2 hn2
      have hall : ∀ v, v ∈ mvs r B m → ¬ sfV r n (aft B v) (m + 1) = -2 := by
        intro v hv
        obtain ⟨i, hi, e⟩ := mem_getD hv
        have := hn2 i (by omega)
        rw [e] at this
        exact this
      have e : rfV r n B m = -2 := fsL_none _ hall
      rw [e]
      refine mmC_step ?_
      simp only [cd_85, sg_85_0, sg_85_2, sg_85_36, sg_85_38, mmK_cut cd_85, q_cons, q_G0, q_GS, q_I1, q_L1, q_A1, q_S0, q_S1, q_SS, q_T0, q_T1, q_TS, q_Kn, q_Ki, q_Kl, q_Kr, q_k0, q_kS, q_rc, q_ps, q_pn, q_iconst, q_istore3, q_iload3, q_aload1, q_getfieldI, q_icmp_ge, q_getfieldA, q_iaload, q_istore, q_aload0, q_iload2, q_iload, q_bipush, q_icmp_ne, q_ireturn0, q_iinc, q_goto, rf_5_2, rf_5_6, mmKe_606, mmKo_0, mmKo_5, mmKo_7, mmLen_606, mmR32, mmR64, Option.some.injEq, Int.cast_ofNat_Int, and_true, true_and, if_true, if_false, List.length_cons, List.length_nil, Nat.le_refl, Nat.zero_le, Nat.sub_zero, forall_const, reduceCtorEq, Nat.reduceAdd, Nat.reduceSub, Nat.reduceLeDiff, Nat.reduceEqDiff, Int.reduceAdd, Int.reduceNeg, Int.reduceSub, Int.reduceLT, Int.reduceLE, Int.reduceMul, Int.reduceEq, List.drop_zero, List.drop_succ_cons, ne_eq, not_false_eq_true, not_true_eq_false, false_and, and_false, false_implies, true_implies, reduceIte, mmU_rd, implies_true, or_false, false_or, or_true, true_or]
      rw [ro2.1]
      refine ⟨fun _ => ?_, fun c => by omega⟩
      refine mmC_step ?_
      simp only [cd_85, sg_85_0, sg_85_2, sg_85_36, sg_85_38, mmK_cut cd_85, q_cons, q_G0, q_GS, q_I1, q_L1, q_A1, q_S0, q_S1, q_SS, q_T0, q_T1, q_TS, q_Kn, q_Ki, q_Kl, q_Kr, q_k0, q_kS, q_rc, q_ps, q_pn, q_iconst, q_istore3, q_iload3, q_aload1, q_getfieldI, q_icmp_ge, q_getfieldA, q_iaload, q_istore, q_aload0, q_iload2, q_iload, q_bipush, q_icmp_ne, q_ireturn0, q_iinc, q_goto, rf_5_2, rf_5_6, mmKe_606, mmKo_0, mmKo_5, mmKo_7, mmLen_606, mmR32, mmR64, Option.some.injEq, Int.cast_ofNat_Int, and_true, true_and, if_true, if_false, List.length_cons, List.length_nil, Nat.le_refl, Nat.zero_le, Nat.sub_zero, forall_const, reduceCtorEq, Nat.reduceAdd, Nat.reduceSub, Nat.reduceLeDiff, Nat.reduceEqDiff, Int.reduceAdd, Int.reduceNeg, Int.reduceSub, Int.reduceLT, Int.reduceLE, Int.reduceMul, Int.reduceEq, List.drop_zero, List.drop_succ_cons, ne_eq, not_false_eq_true, not_true_eq_false, false_and, and_false, false_implies, true_implies, reduceIte, mmU_rd, implies_true, or_false, false_or, or_true, true_or]
      exact mT_in ⟨rfl, f2, v2⟩
    | succ q ihq =>
      intro k I2 l4 l5 hk f2 v2 ro2 hn2
      have hvm := getD_mem (L := mvs r B m) (k := k) (by omega)
      have ev := ro2.2 k (by omega)
      have hfs : _ → rfV r n B m = _ := fsL_at (W := fun v => ¬ sfV r n (aft B v) (m + 1) = -2) (mvs r B m) k (by omega) hn2
      generalize hvv : (mvs r B m).getD k 0 = v at *
      have hv0 : 0 ≤ v ∧ v < 1600 := (mvL_0 w0 w1 hvm).resolve_right (by omega)
      have hok := mv_ok hq hB hv0.1 (mvL_lf w0 w1 25 hvm)
      have hBa := BW_aft hq hB hok
      obtain ⟨o1, o2, o3, o4, o5, o6⟩ := hok
      have hC2 := CR_E hC f2
      refine mmC_step ?_
      simp only [cd_85, sg_85_0, sg_85_2, sg_85_36, sg_85_38, mmK_cut cd_85, q_cons, q_G0, q_GS, q_I1, q_L1, q_A1, q_S0, q_S1, q_SS, q_T0, q_T1, q_TS, q_Kn, q_Ki, q_Kl, q_Kr, q_k0, q_kS, q_rc, q_ps, q_pn, q_iconst, q_istore3, q_iload3, q_aload1, q_getfieldI, q_icmp_ge, q_getfieldA, q_iaload, q_istore, q_aload0, q_iload2, q_iload, q_bipush, q_icmp_ne, q_ireturn0, q_iinc, q_goto, rf_5_2, rf_5_6, mmKe_606, mmKo_0, mmKo_5, mmKo_7, mmLen_606, mmR32, mmR64, Option.some.injEq, Int.cast_ofNat_Int, and_true, true_and, if_true, if_false, List.length_cons, List.length_nil, Nat.le_refl, Nat.zero_le, Nat.sub_zero, forall_const, reduceCtorEq, Nat.reduceAdd, Nat.reduceSub, Nat.reduceLeDiff, Nat.reduceEqDiff, Int.reduceAdd, Int.reduceNeg, Int.reduceSub, Int.reduceLT, Int.reduceLE, Int.reduceMul, Int.reduceEq, List.drop_zero, List.drop_succ_cons, ne_eq, not_false_eq_true, not_true_eq_false, false_and, and_false, false_implies, true_implies, reduceIte, mmU_rd, implies_true, or_false, false_or, or_true, true_or]
      rw [ro2.1, ev]
      refine ⟨fun c => by omega, fun _ => ⟨by omega, by omega, ?_⟩⟩
      rw [q_invV (pay := [])]
      simp only [q_k0, q_kS, q_rc, mmKo_0]
      refine ⟨Nat.le_of_ble_eq_true rfl, by trivial, Nat.zero_le _, Nat.zero_le _, ?_⟩
      refine mT_use (c_make o1 hb hC2 hq.1 v2 hB (by omega) o2 o3 o4) (fun u I3 q3 => ?_)
      obtain ⟨rfl, f3, v3⟩ := q3
      have f3' : FrE j 0 I2 I3 := FrE_D f3
      simp only [mmK_cut cd_85, q_cons, q_G0, q_GS, q_I1, q_L1, q_A1, q_S0, q_S1, q_SS, q_T0, q_T1, q_TS, q_Kn, q_Ki, q_Kl, q_Kr, q_k0, q_kS, q_rc, q_ps, q_pn, q_iconst, q_istore3, q_iload3, q_aload1, q_getfieldI, q_icmp_ge, q_getfieldA, q_iaload, q_istore, q_aload0, q_iload2, q_iload, q_bipush, q_icmp_ne, q_ireturn0, q_iinc, q_goto, rf_5_2, rf_5_6, mmKe_606, mmKo_0, mmKo_5, mmKo_7, mmLen_606, mmR32, mmR64, Option.some.injEq, Int.cast_ofNat_Int, and_true, true_and, if_true, if_false, List.length_cons, List.length_nil, Nat.le_refl, Nat.zero_le, Nat.sub_zero, forall_const, reduceCtorEq, Nat.reduceAdd, Nat.reduceSub, Nat.reduceLeDiff, Nat.reduceEqDiff, Int.reduceAdd, Int.reduceNeg, Int.reduceSub, Int.reduceLT, Int.reduceLE, Int.reduceMul, Int.reduceEq, List.drop_zero, List.drop_succ_cons, ne_eq, not_false_eq_true, not_true_eq_false, false_and, and_false, false_implies, true_implies, reduceIte, mmU_rd, implies_true, or_false, false_or, or_true, true_or]
      rw [q_invV (pay := [])]
      simp only [q_k0, q_kS, q_rc, mmKo_7]
      refine ⟨Nat.le_of_ble_eq_true rfl, by trivial, Nat.zero_le _, Nat.zero_le _, ?_⟩
      refine mT_use (c_firstSafe hn hb hq (CR_E hC2 f3') v3 hBa (by omega)) (fun u I4 q4 => ?_)
      obtain ⟨rfl, f4, v4⟩ := q4
      have f24 : FrE j 0 I2 I4 := FrE_trans f3' f4
      have ev4 := (RO_E ro2 f24).2 k (by omega)
      rw [hvv] at ev4
      simp only [mmK_cut cd_85, q_cons, q_G0, q_GS, q_I1, q_L1, q_A1, q_S0, q_S1, q_SS, q_T0, q_T1, q_TS, q_Kn, q_Ki, q_Kl, q_Kr, q_k0, q_kS, q_rc, q_ps, q_pn, q_iconst, q_istore3, q_iload3, q_aload1, q_getfieldI, q_icmp_ge, q_getfieldA, q_iaload, q_istore, q_aload0, q_iload2, q_iload, q_bipush, q_icmp_ne, q_ireturn0, q_iinc, q_goto, rf_5_2, rf_5_6, mmKe_606, mmKo_0, mmKo_5, mmKo_7, mmLen_606, mmR32, mmR64, Option.some.injEq, Int.cast_ofNat_Int, and_true, true_and, if_true, if_false, List.length_cons, List.length_nil, Nat.le_refl, Nat.zero_le, Nat.sub_zero, forall_const, reduceCtorEq, Nat.reduceAdd, Nat.reduceSub, Nat.reduceLeDiff, Nat.reduceEqDiff, Int.reduceAdd, Int.reduceNeg, Int.reduceSub, Int.reduceLT, Int.reduceLE, Int.reduceMul, Int.reduceEq, List.drop_zero, List.drop_succ_cons, ne_eq, not_false_eq_true, not_true_eq_false, false_and, and_false, false_implies, true_implies, reduceIte, mmU_rd, implies_true, or_false, false_or, or_true, true_or]
      rw [ev4]
      refine ⟨by omega, by omega, ?_⟩
      rw [q_invV (pay := [])]
      simp only [q_k0, q_kS, q_rc, mmKo_0]
      refine ⟨Nat.le_of_ble_eq_true rfl, by trivial, Nat.zero_le _, Nat.zero_le _, ?_⟩
      refine mT_use (c_unmake o1 hb (CR_E hC2 f24) hq.1 v4 hB (by omega) o2 o3 o4) (fun u I5 q5 => ?_)
      obtain ⟨rfl, f5, v5⟩ := q5
      have f25 : FrE j 0 I2 I5 := FrE_trans f24 (FrE_D f5)
      have f15 : FrE j 0 I I5 := FrE_trans f2 f25
      have ro5 := RO_E ro2 f25
      have ev5 := ro5.2 k (by omega)
      rw [hvv] at ev5
      have hea : sfV r n (bdA B (v / 64) (v % 64)) (m + 1) = sfV r n (aft B v) (m + 1) := rfl
      simp only [mmK_cut cd_85, q_cons, q_G0, q_GS, q_I1, q_L1, q_A1, q_S0, q_S1, q_SS, q_T0, q_T1, q_TS, q_Kn, q_Ki, q_Kl, q_Kr, q_k0, q_kS, q_rc, q_ps, q_pn, q_iconst, q_istore3, q_iload3, q_aload1, q_getfieldI, q_icmp_ge, q_getfieldA, q_iaload, q_istore, q_aload0, q_iload2, q_iload, q_bipush, q_icmp_ne, q_ireturn0, q_iinc, q_goto, rf_5_2, rf_5_6, mmKe_606, mmKo_0, mmKo_5, mmKo_7, mmLen_606, mmR32, mmR64, Option.some.injEq, Int.cast_ofNat_Int, and_true, true_and, if_true, if_false, List.length_cons, List.length_nil, Nat.le_refl, Nat.zero_le, Nat.sub_zero, forall_const, reduceCtorEq, Nat.reduceAdd, Nat.reduceSub, Nat.reduceLeDiff, Nat.reduceEqDiff, Int.reduceAdd, Int.reduceNeg, Int.reduceSub, Int.reduceLT, Int.reduceLE, Int.reduceMul, Int.reduceEq, List.drop_zero, List.drop_succ_cons, ne_eq, not_false_eq_true, not_true_eq_false, false_and, and_false, false_implies, true_implies, reduceIte, mmU_rd, implies_true, or_false, false_or, or_true, true_or]
      refine ⟨fun c2 => ?_, fun c2 => ⟨by omega, by omega, ?_⟩⟩
      · refine mmC_step ?_
        simp only [cd_85, sg_85_0, sg_85_2, sg_85_36, sg_85_38, mmK_cut cd_85, q_cons, q_G0, q_GS, q_I1, q_L1, q_A1, q_S0, q_S1, q_SS, q_T0, q_T1, q_TS, q_Kn, q_Ki, q_Kl, q_Kr, q_k0, q_kS, q_rc, q_ps, q_pn, q_iconst, q_istore3, q_iload3, q_aload1, q_getfieldI, q_icmp_ge, q_getfieldA, q_iaload, q_istore, q_aload0, q_iload2, q_iload, q_bipush, q_icmp_ne, q_ireturn0, q_iinc, q_goto, rf_5_2, rf_5_6, mmKe_606, mmKo_0, mmKo_5, mmKo_7, mmLen_606, mmR32, mmR64, Option.some.injEq, Int.cast_ofNat_Int, and_true, true_and, if_true, if_false, List.length_cons, List.length_nil, Nat.le_refl, Nat.zero_le, Nat.sub_zero, forall_const, reduceCtorEq, Nat.reduceAdd, Nat.reduceSub, Nat.reduceLeDiff, Nat.reduceEqDiff, Int.reduceAdd, Int.reduceNeg, Int.reduceSub, Int.reduceLT, Int.reduceLE, Int.reduceMul, Int.reduceEq, List.drop_zero, List.drop_succ_cons, ne_eq, not_false_eq_true, not_true_eq_false, false_and, and_false, false_implies, true_implies, reduceIte, mmU_rd, implies_true, or_false, false_or, or_true, true_or]
        refine ⟨by omega, ihq (k + 1) I5 _ _ (by omega) f15 v5 ro5 (fun i hi => ?_)⟩
        by_cases ci : i = k
        · rw [ci, hvv]; exact c2
        · exact hn2 i (by omega)
      · rw [ev5]
        refine mT_in ⟨?_, f15, v5⟩
        rw [hfs (fun q => q c2)]
  refine mmC_in (by decide) (Nat.le_of_ble_eq_true rfl) (mmC_step ?_)
  simp only [show mmMl 85 = 6 from rfl, mmLs, List.replicate, cd_85, sg_85_0, sg_85_2, sg_85_36, sg_85_38, mmK_cut cd_85, q_cons, q_G0, q_GS, q_I1, q_L1, q_A1, q_S0, q_S1, q_SS, q_T0, q_T1, q_TS, q_Kn, q_Ki, q_Kl, q_Kr, q_k0, q_kS, q_rc, q_ps, q_pn, q_iconst, q_istore3, q_iload3, q_aload1, q_getfieldI, q_icmp_ge, q_getfieldA, q_iaload, q_istore, q_aload0, q_iload2, q_iload, q_bipush, q_icmp_ne, q_ireturn0, q_iinc, q_goto, rf_5_2, rf_5_6, mmKe_606, mmKo_0, mmKo_5, mmKo_7, mmLen_606, mmR32, mmR64, Option.some.injEq, Int.cast_ofNat_Int, and_true, true_and, if_true, if_false, List.length_cons, List.length_nil, Nat.le_refl, Nat.zero_le, Nat.sub_zero, forall_const, reduceCtorEq, Nat.reduceAdd, Nat.reduceSub, Nat.reduceLeDiff, Nat.reduceEqDiff, Int.reduceAdd, Int.reduceNeg, Int.reduceSub, Int.reduceLT, Int.reduceLE, Int.reduceMul, Int.reduceEq, List.drop_zero, List.drop_succ_cons, ne_eq, not_false_eq_true, not_true_eq_false, false_and, and_false, false_implies, true_implies, reduceIte, mmU_rd, implies_true, or_false, false_or, or_true, true_or]
  exact key (mvs r B m).length 0 I none none (by omega) FrE_refl hV hO (fun i hi => by omega)
set_option maxHeartbeats 1000000 in
theorem c_lawfulBehind {v0 : Int} (hv0' : mmR32 v0) (hb : br j = some (6, x)) (hq : RQ r) (hC : CR I x r) (hV : BV I j B m r) (hB : BW r B) (hm : 0 ≤ m ∧ m < 79) (hO : RO I j (mvs r B m)) : mmC (d + 5) 79 [mo 7 0, mo 5 j, mv v0] (I, mmRf a br, X) (mT a br X fun v I' => v = some (mv (cnN (fun v => lfP r (aft B v) (m + 1) v0) (mvs r B m) (mvs r B m).length)) ∧ FrE j 0 I I' ∧ BV I' j B m r) := by
  have w0 := hq.1.1
  have w1 := hq.1.2.1
  have hlen : ((mvs r B m).length : Int) ≤ 200 := mvL_cap (m := m) hq hB (n := 25) (by omega)
  have key : ∀ (q k : Nat) (I2 : mMm) (l5 : Option mmV), k + q = (mvs r B m).length → FrE j 0 I I2 → BV I2 j B m r → RO I2 j (mvs r B m) → mmK (d + 4) 79 (mT a br X fun v I' => v = some (mv (cnN (fun v => lfP r (aft B v) (m + 1) v0) (mvs r B m) (mvs r B m).length)) ∧ FrE j 0 I I' ∧ BV I' j B m r) 4 [some (mo 7 0), some (mo 5 j), some (mv v0), some (mv (cnN (fun v => lfP r (aft B v) (m + 1) v0) (mvs r B m) k)), some (mv k), l5] [] (I2, mmRf a br, X) := by
    intro q
    induction q with
    | zero =>
      intro k I2 l5 hk f2 v2 ro2
      have e : k = (mvs r B m).length := by omega
      subst e
      refine mmC_step ?_
      simp only [cd_79, sg_79_0, sg_79_4, sg_79_24, sg_79_25, sg_79_37, mmK_cut cd_79, q_cons, q_G0, q_GS, q_I1, q_L1, q_A1, q_S0, q_S1, q_SS, q_T0, q_T1, q_TS, q_Kn, q_Ki, q_Kl, q_Kr, q_k0, q_kS, q_rc, q_ps, q_pn, q_iconst, q_istore3, q_istore, q_iload, q_aload1, q_getfieldI, q_icmp_ge, q_getfieldA, q_iaload, q_iload3, q_iload2, q_if_eq, q_goto, q_iadd, q_iinc, q_ireturn0, rf_5_2, rf_5_6, mmKe_606, mmKo_0, mmKo_5, mmLen_606, mmR32, mmR64, Option.some.injEq, Int.cast_ofNat_Int, and_true, true_and, if_true, if_false, List.length_cons, List.length_nil, Nat.le_refl, Nat.zero_le, Nat.sub_zero, forall_const, reduceCtorEq, Nat.reduceAdd, Nat.reduceSub, Nat.reduceLeDiff, Nat.reduceEqDiff, Int.reduceAdd, Int.reduceNeg, Int.reduceSub, Int.reduceLT, Int.reduceLE, Int.reduceMul, Int.reduceEq, List.drop_zero, List.drop_succ_cons, ne_eq, not_false_eq_true, not_true_eq_false, false_and, and_false, false_implies, true_implies, reduceIte, mmU_rd, implies_true, or_false, false_or, or_true, true_or]
      rw [ro2.1]
      refine ⟨fun _ => ?_, fun c => by omega⟩
      refine mmC_step ?_
      simp only [cd_79, sg_79_0, sg_79_4, sg_79_24, sg_79_25, sg_79_37, mmK_cut cd_79, q_cons, q_G0, q_GS, q_I1, q_L1, q_A1, q_S0, q_S1, q_SS, q_T0, q_T1, q_TS, q_Kn, q_Ki, q_Kl, q_Kr, q_k0, q_kS, q_rc, q_ps, q_pn, q_iconst, q_istore3, q_istore, q_iload, q_aload1, q_getfieldI, q_icmp_ge, q_getfieldA, q_iaload, q_iload3, q_iload2, q_if_eq, q_goto, q_iadd, q_iinc, q_ireturn0, rf_5_2, rf_5_6, mmKe_606, mmKo_0, mmKo_5, mmLen_606, mmR32, mmR64, Option.some.injEq, Int.cast_ofNat_Int, and_true, true_and, if_true, if_false, List.length_cons, List.length_nil, Nat.le_refl, Nat.zero_le, Nat.sub_zero, forall_const, reduceCtorEq, Nat.reduceAdd, Nat.reduceSub, Nat.reduceLeDiff, Nat.reduceEqDiff, Int.reduceAdd, Int.reduceNeg, Int.reduceSub, Int.reduceLT, Int.reduceLE, Int.reduceMul, Int.reduceEq, List.drop_zero, List.drop_succ_cons, ne_eq, not_false_eq_true, not_true_eq_false, false_and, and_false, false_implies, true_implies, reduceIte, mmU_rd, implies_true, or_false, false_or, or_true, true_or]
      exact mT_in ⟨rfl, f2, v2⟩
    | succ q ihq =>
      intro k I2 l5 hk f2 v2 ro2
      have hvm := getD_mem (L := mvs r B m) (k := k) (by omega)
      have ev := ro2.2 k (by omega)
      have hcn := cnN_in (P := fun v => lfP r (aft B v) (m + 1) v0) (L := mvs r B m) k
      have esn : cnN (fun v => lfP r (aft B v) (m + 1) v0) (mvs r B m) (k + 1) = cnN (fun v => lfP r (aft B v) (m + 1) v0) (mvs r B m) k + bI (lfP r (aft B ((mvs r B m).getD k 0)) (m + 1) v0) := rfl
      generalize hvv : (mvs r B m).getD k 0 = v at *
      have hv0 : 0 ≤ v ∧ v < 1600 := (mvL_0 w0 w1 hvm).resolve_right (by omega)
      have hok := mv_ok hq hB hv0.1 (mvL_lf w0 w1 25 hvm)
      have hBa := BW_aft hq hB hok
      obtain ⟨o1, o2, o3, o4, o5, o6⟩ := hok
      have hC2 := CR_E hC f2
      refine mmC_step ?_
      simp only [cd_79, sg_79_0, sg_79_4, sg_79_24, sg_79_25, sg_79_37, mmK_cut cd_79, q_cons, q_G0, q_GS, q_I1, q_L1, q_A1, q_S0, q_S1, q_SS, q_T0, q_T1, q_TS, q_Kn, q_Ki, q_Kl, q_Kr, q_k0, q_kS, q_rc, q_ps, q_pn, q_iconst, q_istore3, q_istore, q_iload, q_aload1, q_getfieldI, q_icmp_ge, q_getfieldA, q_iaload, q_iload3, q_iload2, q_if_eq, q_goto, q_iadd, q_iinc, q_ireturn0, rf_5_2, rf_5_6, mmKe_606, mmKo_0, mmKo_5, mmLen_606, mmR32, mmR64, Option.some.injEq, Int.cast_ofNat_Int, and_true, true_and, if_true, if_false, List.length_cons, List.length_nil, Nat.le_refl, Nat.zero_le, Nat.sub_zero, forall_const, reduceCtorEq, Nat.reduceAdd, Nat.reduceSub, Nat.reduceLeDiff, Nat.reduceEqDiff, Int.reduceAdd, Int.reduceNeg, Int.reduceSub, Int.reduceLT, Int.reduceLE, Int.reduceMul, Int.reduceEq, List.drop_zero, List.drop_succ_cons, ne_eq, not_false_eq_true, not_true_eq_false, false_and, and_false, false_implies, true_implies, reduceIte, mmU_rd, implies_true, or_false, false_or, or_true, true_or]
      rw [ro2.1, ev]
      refine ⟨fun c => by omega, fun _ => ⟨by omega, by omega, ?_⟩⟩
      rw [q_invV (pay := [])]
      simp only [q_k0, q_kS, q_rc, mmKo_0]
      refine ⟨Nat.le_of_ble_eq_true rfl, by trivial, Nat.zero_le _, Nat.zero_le _, ?_⟩
      refine mT_use (c_make o1 hb hC2 hq.1 v2 hB (by omega) o2 o3 o4) (fun u I3 q3 => ?_)
      obtain ⟨rfl, f3, v3⟩ := q3
      have f3' : FrE j 0 I2 I3 := FrE_D f3
      simp only [mmK_cut cd_79, q_cons, q_G0, q_GS, q_I1, q_L1, q_A1, q_S0, q_S1, q_SS, q_T0, q_T1, q_TS, q_Kn, q_Ki, q_Kl, q_Kr, q_k0, q_kS, q_rc, q_ps, q_pn, q_iconst, q_istore3, q_istore, q_iload, q_aload1, q_getfieldI, q_icmp_ge, q_getfieldA, q_iaload, q_iload3, q_iload2, q_if_eq, q_goto, q_iadd, q_iinc, q_ireturn0, rf_5_2, rf_5_6, mmKe_606, mmKo_0, mmKo_5, mmLen_606, mmR32, mmR64, Option.some.injEq, Int.cast_ofNat_Int, and_true, true_and, if_true, if_false, List.length_cons, List.length_nil, Nat.le_refl, Nat.zero_le, Nat.sub_zero, forall_const, reduceCtorEq, Nat.reduceAdd, Nat.reduceSub, Nat.reduceLeDiff, Nat.reduceEqDiff, Int.reduceAdd, Int.reduceNeg, Int.reduceSub, Int.reduceLT, Int.reduceLE, Int.reduceMul, Int.reduceEq, List.drop_zero, List.drop_succ_cons, ne_eq, not_false_eq_true, not_true_eq_false, false_and, and_false, false_implies, true_implies, reduceIte, mmU_rd, implies_true, or_false, false_or, or_true, true_or]
      rw [q_invV (pay := [])]
      simp only [q_k0, q_kS, q_rc, mmKo_0]
      refine ⟨Nat.le_of_ble_eq_true rfl, by trivial, Nat.zero_le _, Nat.zero_le _, ?_⟩
      refine mT_use (c_isLawful hb (CR_E hC2 f3') hq v3 hBa (by omega) hv0') (fun u I4 q4 => ?_)
      obtain ⟨rfl, f4⟩ := q4
      have v4 := BV_A (Or.inl rfl) v3 f4
      have f24 : FrE j 0 I2 I4 := FrE_trans f3' (FrE_A f4)
      have ev4 := (RO_E ro2 f24).2 k (by omega)
      rw [hvv] at ev4
      have hea : bdA B (v / 64) (v % 64) = aft B v := rfl
      rw [hea]
      generalize hP : lfP r (aft B v) (m + 1) v0 = P at *
      have w25 : ∀ z, z = bI P → mmK (d + 4) 79 (mT a br X fun v I' => v = some (mv (cnN (fun v => lfP r (aft B v) (m + 1) v0) (mvs r B m) (mvs r B m).length)) ∧ FrE j 0 I I' ∧ BV I' j B m r) 25 [some (mo 7 0), some (mo 5 j), some (mv v0), some (mv (cnN (fun v => lfP r (aft B v) (m + 1) v0) (mvs r B m) k)), some (mv k), some (mv (B (v % 64)))] [mv z, mv (cnN (fun v => lfP r (aft B v) (m + 1) v0) (mvs r B m) k)] (I4, mmRf a br, X) := by
        intro z hz
        have hb01 := bI_01 (p := P)
        subst hz
        refine mmC_step ?_
        simp only [cd_79, sg_79_0, sg_79_4, sg_79_24, sg_79_25, sg_79_37, mmK_cut cd_79, q_cons, q_G0, q_GS, q_I1, q_L1, q_A1, q_S0, q_S1, q_SS, q_T0, q_T1, q_TS, q_Kn, q_Ki, q_Kl, q_Kr, q_k0, q_kS, q_rc, q_ps, q_pn, q_iconst, q_istore3, q_istore, q_iload, q_aload1, q_getfieldI, q_icmp_ge, q_getfieldA, q_iaload, q_iload3, q_iload2, q_if_eq, q_goto, q_iadd, q_iinc, q_ireturn0, rf_5_2, rf_5_6, mmKe_606, mmKo_0, mmKo_5, mmLen_606, mmR32, mmR64, Option.some.injEq, Int.cast_ofNat_Int, and_true, true_and, if_true, if_false, List.length_cons, List.length_nil, Nat.le_refl, Nat.zero_le, Nat.sub_zero, forall_const, reduceCtorEq, Nat.reduceAdd, Nat.reduceSub, Nat.reduceLeDiff, Nat.reduceEqDiff, Int.reduceAdd, Int.reduceNeg, Int.reduceSub, Int.reduceLT, Int.reduceLE, Int.reduceMul, Int.reduceEq, List.drop_zero, List.drop_succ_cons, ne_eq, not_false_eq_true, not_true_eq_false, false_and, and_false, false_implies, true_implies, reduceIte, mmU_rd, implies_true, or_false, false_or, or_true, true_or]
        rw [ev4]
        refine ⟨by omega, by omega, by omega, ?_⟩
        rw [q_invV (pay := [])]
        simp only [q_k0, q_kS, q_rc, mmKo_0]
        refine ⟨Nat.le_of_ble_eq_true rfl, by trivial, Nat.zero_le _, Nat.zero_le _, ?_⟩
        refine mT_use (c_unmake o1 hb (CR_E hC2 f24) hq.1 v4 hB (by omega) o2 o3 o4) (fun u I5 q5 => ?_)
        obtain ⟨rfl, f5, v5⟩ := q5
        have f25 : FrE j 0 I2 I5 := FrE_trans f24 (FrE_D f5)
        simp only [mmK_cut cd_79, q_cons, q_G0, q_GS, q_I1, q_L1, q_A1, q_S0, q_S1, q_SS, q_T0, q_T1, q_TS, q_Kn, q_Ki, q_Kl, q_Kr, q_k0, q_kS, q_rc, q_ps, q_pn, q_iconst, q_istore3, q_istore, q_iload, q_aload1, q_getfieldI, q_icmp_ge, q_getfieldA, q_iaload, q_iload3, q_iload2, q_if_eq, q_goto, q_iadd, q_iinc, q_ireturn0, rf_5_2, rf_5_6, mmKe_606, mmKo_0, mmKo_5, mmLen_606, mmR32, mmR64, Option.some.injEq, Int.cast_ofNat_Int, and_true, true_and, if_true, if_false, List.length_cons, List.length_nil, Nat.le_refl, Nat.zero_le, Nat.sub_zero, forall_const, reduceCtorEq, Nat.reduceAdd, Nat.reduceSub, Nat.reduceLeDiff, Nat.reduceEqDiff, Int.reduceAdd, Int.reduceNeg, Int.reduceSub, Int.reduceLT, Int.reduceLE, Int.reduceMul, Int.reduceEq, List.drop_zero, List.drop_succ_cons, ne_eq, not_false_eq_true, not_true_eq_false, false_and, and_false, false_implies, true_implies, reduceIte, mmU_rd, implies_true, or_false, false_or, or_true, true_or]
        refine ⟨by omega, ?_⟩
        have := ihq (k + 1) I5 (some (mv (B (v % 64)))) (by omega) (FrE_trans f2 f25) v5 (RO_E ro2 f25)
        rw [esn] at this
        exact this
      simp only [mmK_cut cd_79, q_cons, q_G0, q_GS, q_I1, q_L1, q_A1, q_S0, q_S1, q_SS, q_T0, q_T1, q_TS, q_Kn, q_Ki, q_Kl, q_Kr, q_k0, q_kS, q_rc, q_ps, q_pn, q_iconst, q_istore3, q_istore, q_iload, q_aload1, q_getfieldI, q_icmp_ge, q_getfieldA, q_iaload, q_iload3, q_iload2, q_if_eq, q_goto, q_iadd, q_iinc, q_ireturn0, rf_5_2, rf_5_6, mmKe_606, mmKo_0, mmKo_5, mmLen_606, mmR32, mmR64, Option.some.injEq, Int.cast_ofNat_Int, and_true, true_and, if_true, if_false, List.length_cons, List.length_nil, Nat.le_refl, Nat.zero_le, Nat.sub_zero, forall_const, reduceCtorEq, Nat.reduceAdd, Nat.reduceSub, Nat.reduceLeDiff, Nat.reduceEqDiff, Int.reduceAdd, Int.reduceNeg, Int.reduceSub, Int.reduceLT, Int.reduceLE, Int.reduceMul, Int.reduceEq, List.drop_zero, List.drop_succ_cons, ne_eq, not_false_eq_true, not_true_eq_false, false_and, and_false, false_implies, true_implies, reduceIte, mmU_rd, implies_true, or_false, false_or, or_true, true_or, bI_eq0]
      refine ⟨fun c => ?_, fun c => ?_⟩
      · refine mmC_step ?_
        simp only [cd_79, sg_79_0, sg_79_4, sg_79_24, sg_79_25, sg_79_37, mmK_cut cd_79, q_cons, q_G0, q_GS, q_I1, q_L1, q_A1, q_S0, q_S1, q_SS, q_T0, q_T1, q_TS, q_Kn, q_Ki, q_Kl, q_Kr, q_k0, q_kS, q_rc, q_ps, q_pn, q_iconst, q_istore3, q_istore, q_iload, q_aload1, q_getfieldI, q_icmp_ge, q_getfieldA, q_iaload, q_iload3, q_iload2, q_if_eq, q_goto, q_iadd, q_iinc, q_ireturn0, rf_5_2, rf_5_6, mmKe_606, mmKo_0, mmKo_5, mmLen_606, mmR32, mmR64, Option.some.injEq, Int.cast_ofNat_Int, and_true, true_and, if_true, if_false, List.length_cons, List.length_nil, Nat.le_refl, Nat.zero_le, Nat.sub_zero, forall_const, reduceCtorEq, Nat.reduceAdd, Nat.reduceSub, Nat.reduceLeDiff, Nat.reduceEqDiff, Int.reduceAdd, Int.reduceNeg, Int.reduceSub, Int.reduceLT, Int.reduceLE, Int.reduceMul, Int.reduceEq, List.drop_zero, List.drop_succ_cons, ne_eq, not_false_eq_true, not_true_eq_false, false_and, and_false, false_implies, true_implies, reduceIte, mmU_rd, implies_true, or_false, false_or, or_true, true_or]
        exact w25 0 (by rw [bI_neg c])
      · exact w25 1 (by rw [bI_pos (Classical.not_not.mp c)])
  refine mmC_in (by decide) (Nat.le_of_ble_eq_true rfl) (mmC_step ?_)
  simp only [show mmMl 79 = 6 from rfl, mmLs, List.replicate, cd_79, sg_79_0, sg_79_4, sg_79_24, sg_79_25, sg_79_37, mmK_cut cd_79, q_cons, q_G0, q_GS, q_I1, q_L1, q_A1, q_S0, q_S1, q_SS, q_T0, q_T1, q_TS, q_Kn, q_Ki, q_Kl, q_Kr, q_k0, q_kS, q_rc, q_ps, q_pn, q_iconst, q_istore3, q_istore, q_iload, q_aload1, q_getfieldI, q_icmp_ge, q_getfieldA, q_iaload, q_iload3, q_iload2, q_if_eq, q_goto, q_iadd, q_iinc, q_ireturn0, rf_5_2, rf_5_6, mmKe_606, mmKo_0, mmKo_5, mmLen_606, mmR32, mmR64, Option.some.injEq, Int.cast_ofNat_Int, and_true, true_and, if_true, if_false, List.length_cons, List.length_nil, Nat.le_refl, Nat.zero_le, Nat.sub_zero, forall_const, reduceCtorEq, Nat.reduceAdd, Nat.reduceSub, Nat.reduceLeDiff, Nat.reduceEqDiff, Int.reduceAdd, Int.reduceNeg, Int.reduceSub, Int.reduceLT, Int.reduceLE, Int.reduceMul, Int.reduceEq, List.drop_zero, List.drop_succ_cons, ne_eq, not_false_eq_true, not_true_eq_false, false_and, and_false, false_implies, true_implies, reduceIte, mmU_rd, implies_true, or_false, false_or, or_true, true_or]
  exact key (mvs r B m).length 0 I none (by omega) FrE_refl hV hO
end S823
