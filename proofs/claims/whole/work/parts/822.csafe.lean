noncomputable def cI (P : Prop) (a b : Int) : Int := @ite Int P (Classical.propDecidable P) a b
theorem cI_pos {P : Prop} {a b : Int} (h : P) : cI P a b = a := if_pos h
theorem cI_neg {P : Prop} {a b : Int} (h : ¬ P) : cI P a b = b := if_neg h
/-- the first of a list that isn't W; -2: there is none -/
noncomputable def fsL (W : Int → Prop) : List Int → Int
  | [] => -2
  | v :: L => cI (W v) (fsL W L) v
theorem fsL_none {W : Int → Prop} : ∀ L : List Int, (∀ v, v ∈ L → W v) → fsL W L = -2
  | [], _ => rfl
  | v :: L, h => by
    show cI (W v) (fsL W L) v = -2
    rw [cI_pos (h v (List.mem_cons_self ..)), fsL_none L (fun u hu => h u (List.mem_cons_of_mem _ hu))]
theorem fsL_at {W : Int → Prop} : ∀ (L : List Int) (k : Nat), k < L.length → (∀ i : Nat, i < k → W (L.getD i 0)) → ¬ W (L.getD k 0) → fsL W L = L.getD k 0
  | [], k, hk, _, _ => by cases hk
  | v :: L, 0, _, _, hn => cI_neg hn
  | v :: L, k + 1, hk, h, hn => by
    show cI (W v) (fsL W L) v = L.getD k 0
    rw [cI_pos (show W v from h 0 (by omega))]
    exact fsL_at L k (by rw [List.length_cons] at hk; omega) (fun i hi => h (i + 1) (by omega)) hn
noncomputable def sfV (r : mRu) (n : Nat) (B : mBd) (m : Int) : Int := cI (lkP r B m) (-2) (fsL (fun v => (wlP r n (aft B v) (m + 1)).1) (mvs r B m))
section S822
variable {d a j x : Nat} {I I' I'' : mMm} {br : Nat → Option mmO} {X : mmX} {B : mBd} {m : Int} {r : mRu} {Q : Option mmV → mmM → Prop}
theorem wZ_1 {n : Nat} : wZ r 1 n B m ↔ (wlP r n B m).1 := ⟨fun q => q.elim (fun q => q.2) (fun q => absurd q.1 (by decide)), fun q => Or.inl ⟨rfl, q⟩⟩
theorem c_wins {n : Nat} (hn : n ≤ 3) (hb : br j = some (6, x)) (hq : RQ r) (hC : CR I x r) (hV : BV I j B m r) (hB : BW r B) (hm : 0 ≤ m ∧ m < 80) : mmC (d + 10) 82 [mo 7 0, mo 0 j, mv n] (I, mmRf a br, X) (mT a br X fun v I' => v = some (mv (bI (wlP r n B m).1)) ∧ FrE j 0 I I' ∧ BV I' j B m r) := by
  refine mmC_in (by decide) (Nat.le_of_ble_eq_true rfl) (mmC_step ?_)
  simp only [show mmMl 82 = 3 from rfl, mmLs, List.replicate, cd_82, sg_82_0, mmK_cut cd_82, q_cons, q_G0, q_GS, q_I1, q_L1, q_A1, q_S0, q_S1, q_SS, q_T0, q_T1, q_TS, q_Kn, q_Ki, q_Kl, q_Kr, q_k0, q_kS, q_rc, q_ps, q_pn, q_aload0, q_aload1, q_iconst, q_iload2, q_ireturn1, mmKo_7, mmR32, mmR64, Option.some.injEq, Int.cast_ofNat_Int, and_true, true_and, if_true, if_false, List.length_cons, List.length_nil, Nat.le_refl, Nat.zero_le, Nat.sub_zero, forall_const, reduceCtorEq, Nat.reduceAdd, Nat.reduceSub, Nat.reduceLeDiff, Nat.reduceEqDiff, Int.reduceAdd, Int.reduceNeg, Int.reduceSub, Int.reduceLT, Int.reduceLE, Int.reduceMul, Int.reduceEq, List.drop_zero, List.drop_succ_cons, ne_eq, not_false_eq_true, not_true_eq_false, false_and, and_false, false_implies, true_implies, reduceIte, mmU_rd, implies_true, or_false, false_or, or_true, true_or]
  rw [q_invV (pay := [])]
  simp only [q_k0, q_kS, q_rc, mmKo_7]
  refine ⟨Nat.le_of_ble_eq_true rfl, by trivial, Nat.zero_le _, Nat.zero_le _, ?_⟩
  have q0 := c_decided (a := a) hb hq n (d + 9) 1 0 B m I (X.1, 0, 0) (by omega) (by omega) (by omega) hC hV hB hm.1 (by omega)
  refine mT_use q0 (fun v I1 q => ?_)
  obtain ⟨rfl, f1, v1⟩ := q
  simp only [mmK_cut cd_82, q_cons, q_G0, q_GS, q_I1, q_L1, q_A1, q_S0, q_S1, q_SS, q_T0, q_T1, q_TS, q_Kn, q_Ki, q_Kl, q_Kr, q_k0, q_kS, q_rc, q_ps, q_pn, q_aload0, q_aload1, q_iconst, q_iload2, q_ireturn1, mmKo_7, mmR32, mmR64, Option.some.injEq, Int.cast_ofNat_Int, and_true, true_and, if_true, if_false, List.length_cons, List.length_nil, Nat.le_refl, Nat.zero_le, Nat.sub_zero, forall_const, reduceCtorEq, Nat.reduceAdd, Nat.reduceSub, Nat.reduceLeDiff, Nat.reduceEqDiff, Int.reduceAdd, Int.reduceNeg, Int.reduceSub, Int.reduceLT, Int.reduceLE, Int.reduceMul, Int.reduceEq, List.drop_zero, List.drop_succ_cons, ne_eq, not_false_eq_true, not_true_eq_false, false_and, and_false, false_implies, true_implies, reduceIte, mmU_rd, implies_true, or_false, false_or, or_true, true_or]
  refine ⟨bI_01, mT_in ⟨?_, f1, v1⟩⟩
  rw [bI_congr wZ_1]
set_option maxHeartbeats 1000000 in
theorem c_firstSafe {n : Nat} (hn : n ≤ 2) (hb : br j = some (6, x)) (hq : RQ r) (hC : CR I x r) (hV : BV I j B m r) (hB : BW r B) (hm : 0 ≤ m ∧ m < 80) : mmC (d + 9) 83 [mo 7 0, mo 0 j, mv n] (I, mmRf a br, X) (mT a br X fun v I' => v = some (mv (sfV r n B m)) ∧ FrE j 0 I I' ∧ BV I' j B m r) := by
  have w0 := hq.1.1
  have w1 := hq.1.2.1
  have hlen : ((mvs r B m).length : Int) ≤ 200 := mvL_cap (m := m) hq hB (n := 25) (by omega)
  refine mmC_in (by decide) (Nat.le_of_ble_eq_true rfl) (mmC_step ?_)
  simp only [show mmMl 83 = 8 from rfl, mmLs, List.replicate, cd_83, sg_83_0, sg_83_5, sg_83_16, sg_83_44, sg_83_46, mmK_cut cd_83, q_cons, q_G0, q_GS, q_I1, q_L1, q_A1, q_S0, q_S1, q_SS, q_T0, q_T1, q_TS, q_Kn, q_Ki, q_Kl, q_Kr, q_k0, q_kS, q_rc, q_ps, q_pn, q_aload1, q_if_eq, q_bipush, q_ireturn0, q_aload0, q_getfieldA, q_iconst, q_aaload, q_astore3, q_aload3, q_istore, q_iload, q_icmp_ge, q_iaload, q_iload2, q_if_ne, q_iinc, q_goto, rf_7_0, mmKe_800, mmKo_0, mmKo_7, mmLen_800, mmR32, mmR64, Option.some.injEq, Int.cast_ofNat_Int, and_true, true_and, if_true, if_false, List.length_cons, List.length_nil, Nat.le_refl, Nat.zero_le, Nat.sub_zero, forall_const, reduceCtorEq, Nat.reduceAdd, Nat.reduceSub, Nat.reduceLeDiff, Nat.reduceEqDiff, Int.reduceAdd, Int.reduceNeg, Int.reduceSub, Int.reduceLT, Int.reduceLE, Int.reduceMul, Int.reduceEq, List.drop_zero, List.drop_succ_cons, ne_eq, not_false_eq_true, not_true_eq_false, false_and, and_false, false_implies, true_implies, reduceIte, mmU_rd, implies_true, or_false, false_or, or_true, true_or]
  rw [q_invV (pay := [])]
  simp only [q_k0, q_kS, q_rc, mmKo_0]
  refine ⟨Nat.le_of_ble_eq_true rfl, by trivial, Nat.zero_le _, Nat.zero_le _, ?_⟩
  refine sp_lacksKing hb hC hV ?_
  simp only [mmK_cut cd_83, q_cons, q_G0, q_GS, q_I1, q_L1, q_A1, q_S0, q_S1, q_SS, q_T0, q_T1, q_TS, q_Kn, q_Ki, q_Kl, q_Kr, q_k0, q_kS, q_rc, q_ps, q_pn, q_aload1, q_if_eq, q_bipush, q_ireturn0, q_aload0, q_getfieldA, q_iconst, q_aaload, q_astore3, q_aload3, q_istore, q_iload, q_icmp_ge, q_iaload, q_iload2, q_if_ne, q_iinc, q_goto, rf_7_0, mmKe_800, mmKo_0, mmKo_7, mmLen_800, mmR32, mmR64, Option.some.injEq, Int.cast_ofNat_Int, and_true, true_and, if_true, if_false, List.length_cons, List.length_nil, Nat.le_refl, Nat.zero_le, Nat.sub_zero, forall_const, reduceCtorEq, Nat.reduceAdd, Nat.reduceSub, Nat.reduceLeDiff, Nat.reduceEqDiff, Int.reduceAdd, Int.reduceNeg, Int.reduceSub, Int.reduceLT, Int.reduceLE, Int.reduceMul, Int.reduceEq, List.drop_zero, List.drop_succ_cons, ne_eq, not_false_eq_true, not_true_eq_false, false_and, and_false, false_implies, true_implies, reduceIte, mmU_rd, implies_true, or_false, false_or, or_true, true_or, bI_eq0]
  refine ⟨fun c => ?_, fun c => ?_⟩
  · have es : sfV r n B m = fsL (fun v => (wlP r n (aft B v) (m + 1)).1) (mvs r B m) := cI_neg c
    rw [es]
    have h800 : mmRf a br 800 0 0 = some (850, 0) := rfl
    refine mmC_step ?_
    simp only [cd_83, sg_83_0, sg_83_5, sg_83_16, sg_83_44, sg_83_46, mmK_cut cd_83, q_cons, q_G0, q_GS, q_I1, q_L1, q_A1, q_S0, q_S1, q_SS, q_T0, q_T1, q_TS, q_Kn, q_Ki, q_Kl, q_Kr, q_k0, q_kS, q_rc, q_ps, q_pn, q_aload1, q_if_eq, q_bipush, q_ireturn0, q_aload0, q_getfieldA, q_iconst, q_aaload, q_astore3, q_aload3, q_istore, q_iload, q_icmp_ge, q_iaload, q_iload2, q_if_ne, q_iinc, q_goto, rf_7_0, mmKe_800, mmKo_0, mmKo_7, mmLen_800, mmR32, mmR64, Option.some.injEq, Int.cast_ofNat_Int, and_true, true_and, if_true, if_false, List.length_cons, List.length_nil, Nat.le_refl, Nat.zero_le, Nat.sub_zero, forall_const, reduceCtorEq, Nat.reduceAdd, Nat.reduceSub, Nat.reduceLeDiff, Nat.reduceEqDiff, Int.reduceAdd, Int.reduceNeg, Int.reduceSub, Int.reduceLT, Int.reduceLE, Int.reduceMul, Int.reduceEq, List.drop_zero, List.drop_succ_cons, ne_eq, not_false_eq_true, not_true_eq_false, false_and, and_false, false_implies, true_implies, reduceIte, mmU_rd, implies_true, or_false, false_or, or_true, true_or, h800]
    rw [q_invV (pay := [])]
    simp only [q_k0, q_kS, q_rc, mmKo_0]
    refine ⟨Nat.le_of_ble_eq_true rfl, by trivial, Nat.zero_le _, Nat.zero_le _, ?_⟩
    refine mT_use (c_listMoves (tl := 850) (il := 0) hb hC hq hV hB (by omega) (Or.inr (Or.inr rfl)) rfl) (fun v I1 q => ?_)
    obtain ⟨rfl, f1, la⟩ := q
    simp only [mmK_cut cd_83, q_cons, q_G0, q_GS, q_I1, q_L1, q_A1, q_S0, q_S1, q_SS, q_T0, q_T1, q_TS, q_Kn, q_Ki, q_Kl, q_Kr, q_k0, q_kS, q_rc, q_ps, q_pn, q_aload1, q_if_eq, q_bipush, q_ireturn0, q_aload0, q_getfieldA, q_iconst, q_aaload, q_astore3, q_aload3, q_istore, q_iload, q_icmp_ge, q_iaload, q_iload2, q_if_ne, q_iinc, q_goto, rf_7_0, mmKe_800, mmKo_0, mmKo_7, mmLen_800, mmR32, mmR64, Option.some.injEq, Int.cast_ofNat_Int, and_true, true_and, if_true, if_false, List.length_cons, List.length_nil, Nat.le_refl, Nat.zero_le, Nat.sub_zero, forall_const, reduceCtorEq, Nat.reduceAdd, Nat.reduceSub, Nat.reduceLeDiff, Nat.reduceEqDiff, Int.reduceAdd, Int.reduceNeg, Int.reduceSub, Int.reduceLT, Int.reduceLE, Int.reduceMul, Int.reduceEq, List.drop_zero, List.drop_succ_cons, ne_eq, not_false_eq_true, not_true_eq_false, false_and, and_false, false_implies, true_implies, reduceIte, mmU_rd, implies_true, or_false, false_or, or_true, true_or]
    have key : ∀ (q k : Nat) (I2 : mMm) (l6 l7 : Option mmV), k + q = (mvs r B m).length → FrE j 0 I I2 → BV I2 j B m r → LA (I2 850 0) (mvs r B m) → (∀ i : Nat, i < k → (wlP r n (aft B ((mvs r B m).getD i 0)) (m + 1)).1) → mmK (d + 8) 83 (mT a br X fun v I' => v = some (mv (fsL (fun v => (wlP r n (aft B v) (m + 1)).1) (mvs r B m))) ∧ FrE j 0 I I' ∧ BV I' j B m r) 16 [some (mo 7 0), some (mo 0 j), some (mv n), some (mo 850 0), some (mv (mvs r B m).length), some (mv k), l6, l7] [] (I2, mmRf a br, X) := by
      intro q
      induction q with
      | zero =>
        intro k I2 l6 l7 hk f2 v2 la2 hn2
        have hall : ∀ v, v ∈ mvs r B m → (wlP r n (aft B v) (m + 1)).1 := by
          intro v hv
          obtain ⟨i, hi, e⟩ := mem_getD hv
          have := hn2 i (by omega)
          rw [e] at this
          exact this
        rw [fsL_none _ hall]
        refine mmC_step ?_
        simp only [cd_83, sg_83_0, sg_83_5, sg_83_16, sg_83_44, sg_83_46, mmK_cut cd_83, q_cons, q_G0, q_GS, q_I1, q_L1, q_A1, q_S0, q_S1, q_SS, q_T0, q_T1, q_TS, q_Kn, q_Ki, q_Kl, q_Kr, q_k0, q_kS, q_rc, q_ps, q_pn, q_aload1, q_if_eq, q_bipush, q_ireturn0, q_aload0, q_getfieldA, q_iconst, q_aaload, q_astore3, q_aload3, q_istore, q_iload, q_icmp_ge, q_iaload, q_iload2, q_if_ne, q_iinc, q_goto, rf_7_0, mmKe_800, mmKo_0, mmKo_7, mmLen_800, mmR32, mmR64, Option.some.injEq, Int.cast_ofNat_Int, and_true, true_and, if_true, if_false, List.length_cons, List.length_nil, Nat.le_refl, Nat.zero_le, Nat.sub_zero, forall_const, reduceCtorEq, Nat.reduceAdd, Nat.reduceSub, Nat.reduceLeDiff, Nat.reduceEqDiff, Int.reduceAdd, Int.reduceNeg, Int.reduceSub, Int.reduceLT, Int.reduceLE, Int.reduceMul, Int.reduceEq, List.drop_zero, List.drop_succ_cons, ne_eq, not_false_eq_true, not_true_eq_false, false_and, and_false, false_implies, true_implies, reduceIte, mmU_rd, implies_true, or_false, false_or, or_true, true_or]
        refine ⟨fun _ => ?_, fun c => by omega⟩
        refine mmC_step ?_
        simp only [cd_83, sg_83_0, sg_83_5, sg_83_16, sg_83_44, sg_83_46, mmK_cut cd_83, q_cons, q_G0, q_GS, q_I1, q_L1, q_A1, q_S0, q_S1, q_SS, q_T0, q_T1, q_TS, q_Kn, q_Ki, q_Kl, q_Kr, q_k0, q_kS, q_rc, q_ps, q_pn, q_aload1, q_if_eq, q_bipush, q_ireturn0, q_aload0, q_getfieldA, q_iconst, q_aaload, q_astore3, q_aload3, q_istore, q_iload, q_icmp_ge, q_iaload, q_iload2, q_if_ne, q_iinc, q_goto, rf_7_0, mmKe_800, mmKo_0, mmKo_7, mmLen_800, mmR32, mmR64, Option.some.injEq, Int.cast_ofNat_Int, and_true, true_and, if_true, if_false, List.length_cons, List.length_nil, Nat.le_refl, Nat.zero_le, Nat.sub_zero, forall_const, reduceCtorEq, Nat.reduceAdd, Nat.reduceSub, Nat.reduceLeDiff, Nat.reduceEqDiff, Int.reduceAdd, Int.reduceNeg, Int.reduceSub, Int.reduceLT, Int.reduceLE, Int.reduceMul, Int.reduceEq, List.drop_zero, List.drop_succ_cons, ne_eq, not_false_eq_true, not_true_eq_false, false_and, and_false, false_implies, true_implies, reduceIte, mmU_rd, implies_true, or_false, false_or, or_true, true_or]
        exact mT_in ⟨rfl, f2, v2⟩
      | succ q ihq =>
        intro k I2 l6 l7 hk f2 v2 la2 hn2
        have hvm := getD_mem (L := mvs r B m) (k := k) (by omega)
        have ev := la2 k (by omega)
        have hfs := fsL_at (W := fun v => (wlP r n (aft B v) (m + 1)).1) (mvs r B m) k (by omega) hn2
        generalize hvv : (mvs r B m).getD k 0 = v at *
        have hv0 : 0 ≤ v ∧ v < 1600 := (mvL_0 w0 w1 hvm).resolve_right (by omega)
        have hok := mv_ok hq hB hv0.1 (mvL_lf w0 w1 25 hvm)
        have hBa := BW_aft hq hB hok
        obtain ⟨o1, o2, o3, o4, o5, o6⟩ := hok
        have hC2 := CR_E hC f2
        have hk200 : (k : Int) < mmLen 850 := by rw [show mmLen 850 = 200 from rfl]; omega
        refine mmC_step ?_
        simp only [cd_83, sg_83_0, sg_83_5, sg_83_16, sg_83_44, sg_83_46, mmK_cut cd_83, q_cons, q_G0, q_GS, q_I1, q_L1, q_A1, q_S0, q_S1, q_SS, q_T0, q_T1, q_TS, q_Kn, q_Ki, q_Kl, q_Kr, q_k0, q_kS, q_rc, q_ps, q_pn, q_aload1, q_if_eq, q_bipush, q_ireturn0, q_aload0, q_getfieldA, q_iconst, q_aaload, q_astore3, q_aload3, q_istore, q_iload, q_icmp_ge, q_iaload, q_iload2, q_if_ne, q_iinc, q_goto, rf_7_0, mmKe_800, mmKo_0, mmKo_7, mmLen_800, mmR32, mmR64, Option.some.injEq, Int.cast_ofNat_Int, and_true, true_and, if_true, if_false, List.length_cons, List.length_nil, Nat.le_refl, Nat.zero_le, Nat.sub_zero, forall_const, reduceCtorEq, Nat.reduceAdd, Nat.reduceSub, Nat.reduceLeDiff, Nat.reduceEqDiff, Int.reduceAdd, Int.reduceNeg, Int.reduceSub, Int.reduceLT, Int.reduceLE, Int.reduceMul, Int.reduceEq, List.drop_zero, List.drop_succ_cons, ne_eq, not_false_eq_true, not_true_eq_false, false_and, and_false, false_implies, true_implies, reduceIte, mmU_rd, implies_true, or_false, false_or, or_true, true_or]
        rw [ev]
        refine ⟨fun c => by omega, fun _ => ⟨rfl, by omega, hk200, ?_⟩⟩
        rw [q_invV (pay := [])]
        simp only [q_k0, q_kS, q_rc, mmKo_0]
        refine ⟨Nat.le_of_ble_eq_true rfl, by trivial, Nat.zero_le _, Nat.zero_le _, ?_⟩
        refine mT_use (c_make o1 hb hC2 hq.1 v2 hB (by omega) o2 o3 o4) (fun u I3 q3 => ?_)
        obtain ⟨rfl, f3, v3⟩ := q3
        have f3' : FrE j 1 I2 I3 := FrE_D f3
        simp only [mmK_cut cd_83, q_cons, q_G0, q_GS, q_I1, q_L1, q_A1, q_S0, q_S1, q_SS, q_T0, q_T1, q_TS, q_Kn, q_Ki, q_Kl, q_Kr, q_k0, q_kS, q_rc, q_ps, q_pn, q_aload1, q_if_eq, q_bipush, q_ireturn0, q_aload0, q_getfieldA, q_iconst, q_aaload, q_astore3, q_aload3, q_istore, q_iload, q_icmp_ge, q_iaload, q_iload2, q_if_ne, q_iinc, q_goto, rf_7_0, mmKe_800, mmKo_0, mmKo_7, mmLen_800, mmR32, mmR64, Option.some.injEq, Int.cast_ofNat_Int, and_true, true_and, if_true, if_false, List.length_cons, List.length_nil, Nat.le_refl, Nat.zero_le, Nat.sub_zero, forall_const, reduceCtorEq, Nat.reduceAdd, Nat.reduceSub, Nat.reduceLeDiff, Nat.reduceEqDiff, Int.reduceAdd, Int.reduceNeg, Int.reduceSub, Int.reduceLT, Int.reduceLE, Int.reduceMul, Int.reduceEq, List.drop_zero, List.drop_succ_cons, ne_eq, not_false_eq_true, not_true_eq_false, false_and, and_false, false_implies, true_implies, reduceIte, mmU_rd, implies_true, or_false, false_or, or_true, true_or]
        rw [q_invV (pay := [])]
        simp only [q_k0, q_kS, q_rc, mmKo_7]
        refine ⟨Nat.le_of_ble_eq_true rfl, by trivial, Nat.zero_le _, Nat.zero_le _, ?_⟩
        have q0 := c_decided (a := a) hb hq n (d + 8) 1 1 (aft B v) (m + 1) I3 (X.1, 0, 0) (by omega) (by omega) (by omega) (CR_E hC2 f3') v3 hBa (by omega) (by omega)
        refine mT_use q0 (fun u I4 q4 => ?_)
        obtain ⟨rfl, f4, v4⟩ := q4
        rw [bI_congr wZ_1]
        have f24 : FrE j 1 I2 I4 := FrE_trans f3' f4
        have ev4 : I4 850 0 k = v := (f24 _ _ _ (by omega) (by omega) (by omega)).trans ev
        simp only [mmK_cut cd_83, q_cons, q_G0, q_GS, q_I1, q_L1, q_A1, q_S0, q_S1, q_SS, q_T0, q_T1, q_TS, q_Kn, q_Ki, q_Kl, q_Kr, q_k0, q_kS, q_rc, q_ps, q_pn, q_aload1, q_if_eq, q_bipush, q_ireturn0, q_aload0, q_getfieldA, q_iconst, q_aaload, q_astore3, q_aload3, q_istore, q_iload, q_icmp_ge, q_iaload, q_iload2, q_if_ne, q_iinc, q_goto, rf_7_0, mmKe_800, mmKo_0, mmKo_7, mmLen_800, mmR32, mmR64, Option.some.injEq, Int.cast_ofNat_Int, and_true, true_and, if_true, if_false, List.length_cons, List.length_nil, Nat.le_refl, Nat.zero_le, Nat.sub_zero, forall_const, reduceCtorEq, Nat.reduceAdd, Nat.reduceSub, Nat.reduceLeDiff, Nat.reduceEqDiff, Int.reduceAdd, Int.reduceNeg, Int.reduceSub, Int.reduceLT, Int.reduceLE, Int.reduceMul, Int.reduceEq, List.drop_zero, List.drop_succ_cons, ne_eq, not_false_eq_true, not_true_eq_false, false_and, and_false, false_implies, true_implies, reduceIte, mmU_rd, implies_true, or_false, false_or, or_true, true_or]
        rw [ev4]
        refine ⟨rfl, by omega, hk200, ?_⟩
        rw [q_invV (pay := [])]
        simp only [q_k0, q_kS, q_rc, mmKo_0]
        refine ⟨Nat.le_of_ble_eq_true rfl, by trivial, Nat.zero_le _, Nat.zero_le _, ?_⟩
        refine mT_use (c_unmake o1 hb (CR_E hC2 f24) hq.1 v4 hB (by omega) o2 o3 o4) (fun u I5 q5 => ?_)
        obtain ⟨rfl, f5, v5⟩ := q5
        have f25 : FrE j 1 I2 I5 := FrE_trans f24 (FrE_D f5)
        have f15 : FrE j 0 I I5 := FrE_trans f2 (FrE_up f25)
        have ev5 : I5 850 0 k = v := (f25 _ _ _ (by omega) (by omega) (by omega)).trans ev
        simp only [mmK_cut cd_83, q_cons, q_G0, q_GS, q_I1, q_L1, q_A1, q_S0, q_S1, q_SS, q_T0, q_T1, q_TS, q_Kn, q_Ki, q_Kl, q_Kr, q_k0, q_kS, q_rc, q_ps, q_pn, q_aload1, q_if_eq, q_bipush, q_ireturn0, q_aload0, q_getfieldA, q_iconst, q_aaload, q_astore3, q_aload3, q_istore, q_iload, q_icmp_ge, q_iaload, q_iload2, q_if_ne, q_iinc, q_goto, rf_7_0, mmKe_800, mmKo_0, mmKo_7, mmLen_800, mmR32, mmR64, Option.some.injEq, Int.cast_ofNat_Int, and_true, true_and, if_true, if_false, List.length_cons, List.length_nil, Nat.le_refl, Nat.zero_le, Nat.sub_zero, forall_const, reduceCtorEq, Nat.reduceAdd, Nat.reduceSub, Nat.reduceLeDiff, Nat.reduceEqDiff, Int.reduceAdd, Int.reduceNeg, Int.reduceSub, Int.reduceLT, Int.reduceLE, Int.reduceMul, Int.reduceEq, List.drop_zero, List.drop_succ_cons, ne_eq, not_false_eq_true, not_true_eq_false, false_and, and_false, false_implies, true_implies, reduceIte, mmU_rd, implies_true, or_false, false_or, or_true, true_or, bI_eq0, Classical.not_not]
        refine ⟨fun c2 => ?_, fun c2 => ⟨rfl, by omega, hk200, ?_⟩⟩
        · refine mmC_step ?_
          simp only [cd_83, sg_83_0, sg_83_5, sg_83_16, sg_83_44, sg_83_46, mmK_cut cd_83, q_cons, q_G0, q_GS, q_I1, q_L1, q_A1, q_S0, q_S1, q_SS, q_T0, q_T1, q_TS, q_Kn, q_Ki, q_Kl, q_Kr, q_k0, q_kS, q_rc, q_ps, q_pn, q_aload1, q_if_eq, q_bipush, q_ireturn0, q_aload0, q_getfieldA, q_iconst, q_aaload, q_astore3, q_aload3, q_istore, q_iload, q_icmp_ge, q_iaload, q_iload2, q_if_ne, q_iinc, q_goto, rf_7_0, mmKe_800, mmKo_0, mmKo_7, mmLen_800, mmR32, mmR64, Option.some.injEq, Int.cast_ofNat_Int, and_true, true_and, if_true, if_false, List.length_cons, List.length_nil, Nat.le_refl, Nat.zero_le, Nat.sub_zero, forall_const, reduceCtorEq, Nat.reduceAdd, Nat.reduceSub, Nat.reduceLeDiff, Nat.reduceEqDiff, Int.reduceAdd, Int.reduceNeg, Int.reduceSub, Int.reduceLT, Int.reduceLE, Int.reduceMul, Int.reduceEq, List.drop_zero, List.drop_succ_cons, ne_eq, not_false_eq_true, not_true_eq_false, false_and, and_false, false_implies, true_implies, reduceIte, mmU_rd, implies_true, or_false, false_or, or_true, true_or]
          refine ⟨by omega, ihq (k + 1) I5 _ _ (by omega) f15 v5 (LA_ext la2 (fun i _ _ => f25 _ _ _ (by omega) (by omega) (by omega))) (fun i hi => ?_)⟩
          by_cases ci : i = k
          · rw [ci, hvv]; exact c2
          · exact hn2 i (by omega)
        · rw [ev5]
          refine mT_in ⟨?_, f15, v5⟩
          rw [hfs c2]
    exact key (mvs r B m).length 0 I1 _ _ (by omega) (FrE_L f1) (BV_A (Or.inr (Or.inr rfl)) hV f1) la (fun i hi => by omega)
  · refine mT_in ⟨?_, FrE_refl, hV⟩
    have es : sfV r n B m = -2 := cI_pos (Classical.not_not.mp c)
    rw [es]
theorem c_safeBehind {n : Nat} {v : Int} (hn : n ≤ 2) (hb : br j = some (6, x)) (hq : RQ r) (hC : CR I x r) (hV : BV I j B m r) (hB : BW r B) (hm : 0 ≤ m ∧ m < 79) (hok : MvOk r B m v (v / 64) (v % 64)) : mmC (d + 10) 84 [mo 7 0, mo 0 j, mv v, mv n] (I, mmRf a br, X) (mT a br X fun u I' => u = some (mv (sfV r n (aft B v) (m + 1))) ∧ FrE j 0 I I' ∧ BV I' j B m r) := by
  have hBa := BW_aft hq hB hok
  obtain ⟨o1, o2, o3, o4, o5, o6⟩ := hok
  refine mmC_in (by decide) (Nat.le_of_ble_eq_true rfl) (mmC_step ?_)
  simp only [show mmMl 84 = 6 from rfl, mmLs, List.replicate, cd_84, sg_84_0, mmK_cut cd_84, q_cons, q_G0, q_GS, q_I1, q_L1, q_A1, q_S0, q_S1, q_SS, q_T0, q_T1, q_TS, q_Kn, q_Ki, q_Kl, q_Kr, q_k0, q_kS, q_rc, q_ps, q_pn, q_aload1, q_iload2, q_istore, q_aload0, q_iload3, q_iload, q_ireturn0, mmKo_0, mmKo_7, mmR32, mmR64, Option.some.injEq, Int.cast_ofNat_Int, and_true, true_and, if_true, if_false, List.length_cons, List.length_nil, Nat.le_refl, Nat.zero_le, Nat.sub_zero, forall_const, reduceCtorEq, Nat.reduceAdd, Nat.reduceSub, Nat.reduceLeDiff, Nat.reduceEqDiff, Int.reduceAdd, Int.reduceNeg, Int.reduceSub, Int.reduceLT, Int.reduceLE, Int.reduceMul, Int.reduceEq, List.drop_zero, List.drop_succ_cons, ne_eq, not_false_eq_true, not_true_eq_false, false_and, and_false, false_implies, true_implies, reduceIte, mmU_rd, implies_true, or_false, false_or, or_true, true_or]
  rw [q_invV (pay := [])]
  simp only [q_k0, q_kS, q_rc, mmKo_0]
  refine ⟨Nat.le_of_ble_eq_true rfl, by trivial, Nat.zero_le _, Nat.zero_le _, ?_⟩
  refine mT_use (c_make o1 hb hC hq.1 hV hB (by omega) o2 o3 o4) (fun u I3 q3 => ?_)
  obtain ⟨rfl, f3, v3⟩ := q3
  simp only [mmK_cut cd_84, q_cons, q_G0, q_GS, q_I1, q_L1, q_A1, q_S0, q_S1, q_SS, q_T0, q_T1, q_TS, q_Kn, q_Ki, q_Kl, q_Kr, q_k0, q_kS, q_rc, q_ps, q_pn, q_aload1, q_iload2, q_istore, q_aload0, q_iload3, q_iload, q_ireturn0, mmKo_0, mmKo_7, mmR32, mmR64, Option.some.injEq, Int.cast_ofNat_Int, and_true, true_and, if_true, if_false, List.length_cons, List.length_nil, Nat.le_refl, Nat.zero_le, Nat.sub_zero, forall_const, reduceCtorEq, Nat.reduceAdd, Nat.reduceSub, Nat.reduceLeDiff, Nat.reduceEqDiff, Int.reduceAdd, Int.reduceNeg, Int.reduceSub, Int.reduceLT, Int.reduceLE, Int.reduceMul, Int.reduceEq, List.drop_zero, List.drop_succ_cons, ne_eq, not_false_eq_true, not_true_eq_false, false_and, and_false, false_implies, true_implies, reduceIte, mmU_rd, implies_true, or_false, false_or, or_true, true_or]
  rw [q_invV (pay := [])]
  simp only [q_k0, q_kS, q_rc, mmKo_7]
  refine ⟨Nat.le_of_ble_eq_true rfl, by trivial, Nat.zero_le _, Nat.zero_le _, ?_⟩
  refine mT_use (c_firstSafe hn hb hq (CR_D hC f3) v3 hBa (by omega)) (fun u I4 q4 => ?_)
  obtain ⟨rfl, f4, v4⟩ := q4
  simp only [mmK_cut cd_84, q_cons, q_G0, q_GS, q_I1, q_L1, q_A1, q_S0, q_S1, q_SS, q_T0, q_T1, q_TS, q_Kn, q_Ki, q_Kl, q_Kr, q_k0, q_kS, q_rc, q_ps, q_pn, q_aload1, q_iload2, q_istore, q_aload0, q_iload3, q_iload, q_ireturn0, mmKo_0, mmKo_7, mmR32, mmR64, Option.some.injEq, Int.cast_ofNat_Int, and_true, true_and, if_true, if_false, List.length_cons, List.length_nil, Nat.le_refl, Nat.zero_le, Nat.sub_zero, forall_const, reduceCtorEq, Nat.reduceAdd, Nat.reduceSub, Nat.reduceLeDiff, Nat.reduceEqDiff, Int.reduceAdd, Int.reduceNeg, Int.reduceSub, Int.reduceLT, Int.reduceLE, Int.reduceMul, Int.reduceEq, List.drop_zero, List.drop_succ_cons, ne_eq, not_false_eq_true, not_true_eq_false, false_and, and_false, false_implies, true_implies, reduceIte, mmU_rd, implies_true, or_false, false_or, or_true, true_or]
  rw [q_invV (pay := [])]
  simp only [q_k0, q_kS, q_rc, mmKo_0]
  refine ⟨Nat.le_of_ble_eq_true rfl, by trivial, Nat.zero_le _, Nat.zero_le _, ?_⟩
  refine mT_use (c_unmake o1 hb (CR_E (CR_D hC f3) f4) hq.1 v4 hB (by omega) o2 o3 o4) (fun u I5 q5 => ?_)
  obtain ⟨rfl, f5, v5⟩ := q5
  simp only [mmK_cut cd_84, q_cons, q_G0, q_GS, q_I1, q_L1, q_A1, q_S0, q_S1, q_SS, q_T0, q_T1, q_TS, q_Kn, q_Ki, q_Kl, q_Kr, q_k0, q_kS, q_rc, q_ps, q_pn, q_aload1, q_iload2, q_istore, q_aload0, q_iload3, q_iload, q_ireturn0, mmKo_0, mmKo_7, mmR32, mmR64, Option.some.injEq, Int.cast_ofNat_Int, and_true, true_and, if_true, if_false, List.length_cons, List.length_nil, Nat.le_refl, Nat.zero_le, Nat.sub_zero, forall_const, reduceCtorEq, Nat.reduceAdd, Nat.reduceSub, Nat.reduceLeDiff, Nat.reduceEqDiff, Int.reduceAdd, Int.reduceNeg, Int.reduceSub, Int.reduceLT, Int.reduceLE, Int.reduceMul, Int.reduceEq, List.drop_zero, List.drop_succ_cons, ne_eq, not_false_eq_true, not_true_eq_false, false_and, and_false, false_implies, true_implies, reduceIte, mmU_rd, implies_true, or_false, false_or, or_true, true_or]
  exact mT_in ⟨rfl, FrE_trans (FrE_trans (FrE_D f3) f4) (FrE_D f5), v5⟩
end S822
