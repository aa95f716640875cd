def FrE (j lv : Nat) (I I' : mMm) : Prop := ∀ t i k, ¬ (i = j ∧ ((101 ≤ t ∧ t ≤ 103) ∨ t = 105 ∨ t = 106 ∨ (t = 0 ∧ k = 4))) → ¬ t = 201 → ¬ (t = 850 ∧ lv ≤ i) → I' t i k = I t i k
theorem rf_800 {a : Nat} {br : Nat → Option mmO} {lv : Nat} (h : lv < 6) : mmRf a br 800 0 (lv : Int) = some (850, lv) := by
  have e : mmRf a br 800 0 (lv : Int) = if 0 ≤ (lv : Int) ∧ (lv : Int) < 6 then some (850, (lv : Int).toNat) else none := rfl
  rw [e, if_pos (by omega)]
  rfl
section S821
variable {d a j x : Nat} {I I' I'' : mMm} {br : Nat → Option mmO} {X : mmX} {B : mBd} {m : Int} {r : mRu} {Q : Option mmV → mmM → Prop}
theorem FrE_trans {lv : Nat} (h : FrE j lv I I') (h' : FrE j lv I' I'') : FrE j lv I I'' := fun t i k c1 c2 c3 => (h' t i k c1 c2 c3).trans (h t i k c1 c2 c3)
theorem FrE_refl {lv : Nat} : FrE j lv I I := fun _ _ _ _ _ _ => rfl
theorem FrE_up {lv : Nat} (h : FrE j (lv + 1) I I') : FrE j lv I I' := fun t i k c1 c2 c3 => h t i k c1 c2 (fun q => c3 ⟨q.1, by omega⟩)
theorem FrE_A {lv : Nat} (h : FrA j 106 j I I') : FrE j lv I I' := fun t i k c1 c2 c3 => h t i k (fun q => c1 ⟨q.2, by omega⟩) c2 (fun q => c1 ⟨q.2, by omega⟩)
theorem FrE_L {lv : Nat} (h : FrA j 850 lv I I') : FrE j lv I I' := fun t i k c1 c2 c3 => h t i k (fun q => c1 ⟨q.2, by omega⟩) c2 (fun q => c3 ⟨q.1, by omega⟩)
theorem FrE_D {lv : Nat} (h : FrD j I I') : FrE j lv I I' := fun t i k c1 c2 c3 => h t i k (fun q => c1 ⟨q.1, by omega⟩)
theorem CR_E {lv : Nat} (h : CR I x r) (hf : FrE j lv I I') : CR I' x r := fun t k ht => (hf t x k (by unfold rtag at ht; omega) (by unfold rtag at ht; omega) (by unfold rtag at ht; omega)).trans (h t k ht)
theorem wl_1 {k : Nat} : (wlP r (k + 1) B m).1 = (¬ lkP r B m ∧ ∃ v, v ∈ mvs r B m ∧ (wlP r k (aft B v) (m + 1)).2) := by
  cases k with
  | zero => rfl
  | succ k => rfl
theorem wl_2 {k : Nat} : (wlP r (k + 2) B m).2 = (lkP r B m ∨ ∀ v, v ∈ mvs r B m → (wlP r (k + 1) (aft B v) (m + 1)).1) := rfl
theorem wl_0 {n : Nat} (h : n < 2) : (wlP r n B m).2 = lsP r B m := by
  have : n = 0 ∨ n = 1 := by omega
  rcases this with q | q <;> subst q <;> rfl
/-- what is asked: to win (w = 1) or to be lost (w = 0) -/
def wZ (r : mRu) (w : Int) (n : Nat) (B : mBd) (m : Int) : Prop := (w = 1 ∧ (wlP r n B m).1) ∨ (w = 0 ∧ (wlP r n B m).2)
set_option maxHeartbeats 2000000 in
theorem c_decided (hb : br j = some (6, x)) (hq : RQ r) : ∀ (n dd : Nat) (w : Int) (lv : Nat) (B : mBd) (m : Int) (I : mMm) (X : mmX), n + 6 ≤ dd → (w = 0 ∨ w = 1) → lv + n ≤ 5 → CR I x r → BV I j B m r → BW r B → 0 ≤ m → m + n < 90 → mmC dd 81 [mo 7 0, mo 0 j, mv w, mv n, mv lv] (I, mmRf a br, X) (mT a br X fun v I' => v = some (mv (bI (wZ r w n B m))) ∧ FrE j lv I I' ∧ BV I' j B m r) := by
  have w0 := hq.1.1
  have w1 := hq.1.2.1
  intro n
  induction n with
  | zero =>
    intro dd w lv B m I X hdd hw hlv hC hV hB hm hmn
    obtain ⟨d, rfl⟩ : ∃ d, dd = d + 6 := ⟨dd - 6, by omega⟩
    rcases hw with q | q
    · subst q
      refine mmC_in (by decide) (Nat.le_of_ble_eq_true rfl) (mmC_step ?_)
      simp only [show mmMl 81 = 10 from rfl, mmLs, List.replicate, cd_81, sg_81_0, sg_81_8, sg_81_10, sg_81_18, sg_81_25, sg_81_26, sg_81_27, sg_81_38, sg_81_53, sg_81_54, sg_81_73, sg_81_75, sg_81_79, sg_81_80, mmK_cut cd_81, q_cons, q_G0, q_GS, q_I1, q_L1, q_A1, q_S0, q_S1, q_SS, q_T0, q_T1, q_TS, q_Kn, q_Ki, q_Kl, q_Kr, q_k0, q_kS, q_rc, q_ps, q_pn, q_iload, q_bipush, q_icmp_ge, q_iload2, q_if_eq, q_iload3, q_iconst, q_ireturn1, q_if_ne, q_aload1, q_goto, q_aload0, q_getfieldA, q_aaload, q_astore, q_aload, q_istore, q_iaload, q_isub, q_iadd, q_icmp_ne, q_iinc, rf_7_0, mmKe_800, mmKo_0, mmKo_7, mmLen_800, mmR32, mmR64, Option.some.injEq, Int.cast_ofNat_Int, and_true, true_and, if_true, if_false, List.length_cons, List.length_nil, Nat.le_refl, Nat.zero_le, Nat.sub_zero, forall_const, reduceCtorEq, Nat.reduceAdd, Nat.reduceSub, Nat.reduceLeDiff, Nat.reduceEqDiff, Int.reduceAdd, Int.reduceNeg, Int.reduceSub, Int.reduceLT, Int.reduceLE, Int.reduceMul, Int.reduceEq, List.drop_zero, List.drop_succ_cons, ne_eq, not_false_eq_true, not_true_eq_false, false_and, and_false, false_implies, true_implies, reduceIte, mmU_rd, implies_true, or_false, false_or, or_true, true_or]
      refine ⟨fun c => by omega, fun _ => ?_⟩
      refine mmC_step ?_
      simp only [cd_81, sg_81_0, sg_81_8, sg_81_10, sg_81_18, sg_81_25, sg_81_26, sg_81_27, sg_81_38, sg_81_53, sg_81_54, sg_81_73, sg_81_75, sg_81_79, sg_81_80, mmK_cut cd_81, q_cons, q_G0, q_GS, q_I1, q_L1, q_A1, q_S0, q_S1, q_SS, q_T0, q_T1, q_TS, q_Kn, q_Ki, q_Kl, q_Kr, q_k0, q_kS, q_rc, q_ps, q_pn, q_iload, q_bipush, q_icmp_ge, q_iload2, q_if_eq, q_iload3, q_iconst, q_ireturn1, q_if_ne, q_aload1, q_goto, q_aload0, q_getfieldA, q_aaload, q_astore, q_aload, q_istore, q_iaload, q_isub, q_iadd, q_icmp_ne, q_iinc, rf_7_0, mmKe_800, mmKo_0, mmKo_7, mmLen_800, mmR32, mmR64, Option.some.injEq, Int.cast_ofNat_Int, and_true, true_and, if_true, if_false, List.length_cons, List.length_nil, Nat.le_refl, Nat.zero_le, Nat.sub_zero, forall_const, reduceCtorEq, Nat.reduceAdd, Nat.reduceSub, Nat.reduceLeDiff, Nat.reduceEqDiff, Int.reduceAdd, Int.reduceNeg, Int.reduceSub, Int.reduceLT, Int.reduceLE, Int.reduceMul, Int.reduceEq, List.drop_zero, List.drop_succ_cons, ne_eq, not_false_eq_true, not_true_eq_false, false_and, and_false, false_implies, true_implies, reduceIte, mmU_rd, implies_true, or_false, false_or, or_true, true_or]
      rw [q_invV (pay := [])]
      simp only [q_k0, q_kS, q_rc, mmKo_0]
      refine ⟨Nat.le_of_ble_eq_true rfl, by trivial, Nat.zero_le _, Nat.zero_le _, ?_⟩
      refine mT_use (c_hasLost (d := d + 1) hb hC hq hV hB (by omega)) (fun v I1 q => ?_)
      obtain ⟨rfl, f1⟩ := q
      simp only [mmK_cut cd_81, q_cons, q_G0, q_GS, q_I1, q_L1, q_A1, q_S0, q_S1, q_SS, q_T0, q_T1, q_TS, q_Kn, q_Ki, q_Kl, q_Kr, q_k0, q_kS, q_rc, q_ps, q_pn, q_iload, q_bipush, q_icmp_ge, q_iload2, q_if_eq, q_iload3, q_iconst, q_ireturn1, q_if_ne, q_aload1, q_goto, q_aload0, q_getfieldA, q_aaload, q_astore, q_aload, q_istore, q_iaload, q_isub, q_iadd, q_icmp_ne, q_iinc, rf_7_0, mmKe_800, mmKo_0, mmKo_7, mmLen_800, mmR32, mmR64, Option.some.injEq, Int.cast_ofNat_Int, and_true, true_and, if_true, if_false, List.length_cons, List.length_nil, Nat.le_refl, Nat.zero_le, Nat.sub_zero, forall_const, reduceCtorEq, Nat.reduceAdd, Nat.reduceSub, Nat.reduceLeDiff, Nat.reduceEqDiff, Int.reduceAdd, Int.reduceNeg, Int.reduceSub, Int.reduceLT, Int.reduceLE, Int.reduceMul, Int.reduceEq, List.drop_zero, List.drop_succ_cons, ne_eq, not_false_eq_true, not_true_eq_false, false_and, and_false, false_implies, true_implies, reduceIte, mmU_rd, implies_true, or_false, false_or, or_true, true_or]
      refine ⟨bI_01, mT_in ⟨?_, FrE_A f1, BV_A (Or.inl rfl) hV f1⟩⟩
      rw [bI_congr (show lsP r B m ↔ wZ r 0 0 B m from ⟨fun q => Or.inr ⟨rfl, q⟩, fun q => q.elim (fun q => absurd q.1 (by decide)) (fun q => q.2)⟩)]
    · subst q
      have fin : mmK (d + 5) 81 (mT a br X fun v I' => v = some (mv (bI (wZ r 1 0 B m))) ∧ FrE j lv I I' ∧ BV I' j B m r) 8 [some (mo 7 0), some (mo 0 j), some (mv 1), some (mv 0), some (mv lv), none, none, none, none, none] [] (I, mmRf a br, X) := by
        refine mmC_step ?_
        simp only [cd_81, sg_81_0, sg_81_8, sg_81_10, sg_81_18, sg_81_25, sg_81_26, sg_81_27, sg_81_38, sg_81_53, sg_81_54, sg_81_73, sg_81_75, sg_81_79, sg_81_80, mmK_cut cd_81, q_cons, q_G0, q_GS, q_I1, q_L1, q_A1, q_S0, q_S1, q_SS, q_T0, q_T1, q_TS, q_Kn, q_Ki, q_Kl, q_Kr, q_k0, q_kS, q_rc, q_ps, q_pn, q_iload, q_bipush, q_icmp_ge, q_iload2, q_if_eq, q_iload3, q_iconst, q_ireturn1, q_if_ne, q_aload1, q_goto, q_aload0, q_getfieldA, q_aaload, q_astore, q_aload, q_istore, q_iaload, q_isub, q_iadd, q_icmp_ne, q_iinc, rf_7_0, mmKe_800, mmKo_0, mmKo_7, mmLen_800, mmR32, mmR64, Option.some.injEq, Int.cast_ofNat_Int, and_true, true_and, if_true, if_false, List.length_cons, List.length_nil, Nat.le_refl, Nat.zero_le, Nat.sub_zero, forall_const, reduceCtorEq, Nat.reduceAdd, Nat.reduceSub, Nat.reduceLeDiff, Nat.reduceEqDiff, Int.reduceAdd, Int.reduceNeg, Int.reduceSub, Int.reduceLT, Int.reduceLE, Int.reduceMul, Int.reduceEq, List.drop_zero, List.drop_succ_cons, ne_eq, not_false_eq_true, not_true_eq_false, false_and, and_false, false_implies, true_implies, reduceIte, mmU_rd, implies_true, or_false, false_or, or_true, true_or]
        refine mT_in ⟨?_, FrE_refl, hV⟩
        rw [bI_neg]
        rintro (q | q)
        · exact q.2
        · exact absurd q.1 (by decide)
      refine mmC_in (by decide) (Nat.le_of_ble_eq_true rfl) (mmC_step ?_)
      simp only [show mmMl 81 = 10 from rfl, mmLs, List.replicate, cd_81, sg_81_0, sg_81_8, sg_81_10, sg_81_18, sg_81_25, sg_81_26, sg_81_27, sg_81_38, sg_81_53, sg_81_54, sg_81_73, sg_81_75, sg_81_79, sg_81_80, mmK_cut cd_81, q_cons, q_G0, q_GS, q_I1, q_L1, q_A1, q_S0, q_S1, q_SS, q_T0, q_T1, q_TS, q_Kn, q_Ki, q_Kl, q_Kr, q_k0, q_kS, q_rc, q_ps, q_pn, q_iload, q_bipush, q_icmp_ge, q_iload2, q_if_eq, q_iload3, q_iconst, q_ireturn1, q_if_ne, q_aload1, q_goto, q_aload0, q_getfieldA, q_aaload, q_astore, q_aload, q_istore, q_iaload, q_isub, q_iadd, q_icmp_ne, q_iinc, rf_7_0, mmKe_800, mmKo_0, mmKo_7, mmLen_800, mmR32, mmR64, Option.some.injEq, Int.cast_ofNat_Int, and_true, true_and, if_true, if_false, List.length_cons, List.length_nil, Nat.le_refl, Nat.zero_le, Nat.sub_zero, forall_const, reduceCtorEq, Nat.reduceAdd, Nat.reduceSub, Nat.reduceLeDiff, Nat.reduceEqDiff, Int.reduceAdd, Int.reduceNeg, Int.reduceSub, Int.reduceLT, Int.reduceLE, Int.reduceMul, Int.reduceEq, List.drop_zero, List.drop_succ_cons, ne_eq, not_false_eq_true, not_true_eq_false, false_and, and_false, false_implies, true_implies, reduceIte, mmU_rd, implies_true, or_false, false_or, or_true, true_or]
      exact ⟨fun _ => fin, fun _ => fin⟩
  | succ n ih =>
    intro dd w lv B m I X hdd hw hlv hC hV hB hm hmn
    obtain ⟨d, rfl⟩ : ∃ d, dd = d + 7 := ⟨dd - 7, by omega⟩
    have hlk : ∀ (c : ¬ lkP r B m), (wZ r w (n + 1) B m ↔ (w = 1 ∧ ∃ v, v ∈ mvs r B m ∧ (wlP r n (aft B v) (m + 1)).2) ∨ (w = 0 ∧ (wlP r (n + 1) B m).2)) := by
      intro c
      unfold wZ
      rw [wl_1]
      exact ⟨fun q => q.imp (fun q => ⟨q.1, q.2.2⟩) id, fun q => q.imp (fun q => ⟨q.1, c, q.2⟩) id⟩
    have w18 : (w = 1 ∨ 2 ≤ n + 1) → mmK (d + 6) 81 (mT a br X fun v I' => v = some (mv (bI (wZ r w (n + 1) B m))) ∧ FrE j lv I I' ∧ BV I' j B m r) 18 [some (mo 7 0), some (mo 0 j), some (mv w), some (mv ((n + 1 : Nat) : Int)), some (mv lv), none, none, none, none, none] [] (I, mmRf a br, X) := by
      intro hcase
      -- the answer where there is a king: one for w = 1, all for w = 0
      have hZ : ¬ lkP r B m → (wZ r w (n + 1) B m ↔ (w = 1 ∧ ∃ v, v ∈ mvs r B m ∧ wZ r (1 - w) n (aft B v) (m + 1)) ∨ (w = 0 ∧ ∀ v, v ∈ mvs r B m → wZ r (1 - w) n (aft B v) (m + 1))) := by
        intro c
        rw [hlk c]
        rcases hw with q | q
        · subst q
          obtain ⟨n', rfl⟩ : ∃ n', n = n' + 1 := ⟨n - 1, by omega⟩
          rw [wl_2]
          constructor
          · rintro (q | q)
            · exact absurd q.1 (by decide)
            · exact Or.inr ⟨rfl, fun v hv => Or.inl ⟨by omega, q.2.resolve_left c v hv⟩⟩
          · rintro (q | q)
            · exact absurd q.1 (by decide)
            · exact Or.inr ⟨rfl, Or.inr (fun v hv => (q.2 v hv).elim (fun q => q.2) (fun q => absurd q.1 (by decide)))⟩
        · subst q
          constructor
          · rintro (q | q)
            · obtain ⟨_, v, h1, h2⟩ := q
              exact Or.inl ⟨rfl, v, h1, Or.inr ⟨by omega, h2⟩⟩
            · exact absurd q.1 (by decide)
          · rintro (q | q)
            · obtain ⟨_, v, h1, h2⟩ := q
              exact Or.inl ⟨rfl, v, h1, h2.elim (fun q => absurd q.1 (by decide)) (fun q => q.2)⟩
            · exact absurd q.1 (by decide)
      have fin : ∀ (I1 : mMm) (z : Int), (z = 0 ∨ z = 1) → (z = 1 ↔ wZ r w (n + 1) B m) → FrE j lv I I1 → BV I1 j B m r → mT a br X (fun v I' => v = some (mv (bI (wZ r w (n + 1) B m))) ∧ FrE j lv I I' ∧ BV I' j B m r) (some (mv z)) (I1, mmRf a br, X) := by
        intro I1 z hz h1 h2 h3
        refine mT_in ⟨?_, h2, h3⟩
        by_cases c : wZ r w (n + 1) B m
        · rw [bI_pos c, h1.mpr c]
        · rw [bI_neg c, hz.resolve_right (fun q => c (h1.mp q))]
      have hlen : ((mvs r B m).length : Int) ≤ 200 := mvL_cap (m := m) hq hB (n := 25) (by omega)
      refine mmC_step ?_
      simp only [cd_81, sg_81_0, sg_81_8, sg_81_10, sg_81_18, sg_81_25, sg_81_26, sg_81_27, sg_81_38, sg_81_53, sg_81_54, sg_81_73, sg_81_75, sg_81_79, sg_81_80, mmK_cut cd_81, q_cons, q_G0, q_GS, q_I1, q_L1, q_A1, q_S0, q_S1, q_SS, q_T0, q_T1, q_TS, q_Kn, q_Ki, q_Kl, q_Kr, q_k0, q_kS, q_rc, q_ps, q_pn, q_iload, q_bipush, q_icmp_ge, q_iload2, q_if_eq, q_iload3, q_iconst, q_ireturn1, q_if_ne, q_aload1, q_goto, q_aload0, q_getfieldA, q_aaload, q_astore, q_aload, q_istore, q_iaload, q_isub, q_iadd, q_icmp_ne, q_iinc, rf_7_0, mmKe_800, mmKo_0, mmKo_7, mmLen_800, mmR32, mmR64, Option.some.injEq, Int.cast_ofNat_Int, and_true, true_and, if_true, if_false, List.length_cons, List.length_nil, Nat.le_refl, Nat.zero_le, Nat.sub_zero, forall_const, reduceCtorEq, Nat.reduceAdd, Nat.reduceSub, Nat.reduceLeDiff, Nat.reduceEqDiff, Int.reduceAdd, Int.reduceNeg, Int.reduceSub, Int.reduceLT, Int.reduceLE, Int.reduceMul, Int.reduceEq, List.drop_zero, List.drop_succ_cons, ne_eq, not_false_eq_true, not_true_eq_false, false_and, and_false, false_implies, true_implies, reduceIte, mmU_rd, implies_true, or_false, false_or, or_true, true_or]
      rw [q_invV (pay := [])]
      simp only [q_k0, q_kS, q_rc, mmKo_0]
      refine ⟨Nat.le_of_ble_eq_true rfl, by trivial, Nat.zero_le _, Nat.zero_le _, ?_⟩
      refine sp_lacksKing hb hC hV ?_
      simp only [mmK_cut cd_81, q_cons, q_G0, q_GS, q_I1, q_L1, q_A1, q_S0, q_S1, q_SS, q_T0, q_T1, q_TS, q_Kn, q_Ki, q_Kl, q_Kr, q_k0, q_kS, q_rc, q_ps, q_pn, q_iload, q_bipush, q_icmp_ge, q_iload2, q_if_eq, q_iload3, q_iconst, q_ireturn1, q_if_ne, q_aload1, q_goto, q_aload0, q_getfieldA, q_aaload, q_astore, q_aload, q_istore, q_iaload, q_isub, q_iadd, q_icmp_ne, q_iinc, rf_7_0, mmKe_800, mmKo_0, mmKo_7, mmLen_800, mmR32, mmR64, Option.some.injEq, Int.cast_ofNat_Int, and_true, true_and, if_true, if_false, List.length_cons, List.length_nil, Nat.le_refl, Nat.zero_le, Nat.sub_zero, forall_const, reduceCtorEq, Nat.reduceAdd, Nat.reduceSub, Nat.reduceLeDiff, Nat.reduceEqDiff, Int.reduceAdd, Int.reduceNeg, Int.reduceSub, Int.reduceLT, Int.reduceLE, Int.reduceMul, Int.reduceEq, List.drop_zero, List.drop_succ_cons, ne_eq, not_false_eq_true, not_true_eq_false, false_and, and_false, false_implies, true_implies, reduceIte, mmU_rd, implies_true, or_false, false_or, or_true, true_or, bI_eq0]
      refine ⟨fun c => ?_, fun c => ?_⟩
      · have hZ := hZ c
        have h800 : mmRf a br 800 0 (lv : Int) = some (850, lv) := rf_800 (by omega)
        refine mmC_step ?_
        simp only [cd_81, sg_81_0, sg_81_8, sg_81_10, sg_81_18, sg_81_25, sg_81_26, sg_81_27, sg_81_38, sg_81_53, sg_81_54, sg_81_73, sg_81_75, sg_81_79, sg_81_80, mmK_cut cd_81, q_cons, q_G0, q_GS, q_I1, q_L1, q_A1, q_S0, q_S1, q_SS, q_T0, q_T1, q_TS, q_Kn, q_Ki, q_Kl, q_Kr, q_k0, q_kS, q_rc, q_ps, q_pn, q_iload, q_bipush, q_icmp_ge, q_iload2, q_if_eq, q_iload3, q_iconst, q_ireturn1, q_if_ne, q_aload1, q_goto, q_aload0, q_getfieldA, q_aaload, q_astore, q_aload, q_istore, q_iaload, q_isub, q_iadd, q_icmp_ne, q_iinc, rf_7_0, mmKe_800, mmKo_0, mmKo_7, mmLen_800, mmR32, mmR64, Option.some.injEq, Int.cast_ofNat_Int, and_true, true_and, if_true, if_false, List.length_cons, List.length_nil, Nat.le_refl, Nat.zero_le, Nat.sub_zero, forall_const, reduceCtorEq, Nat.reduceAdd, Nat.reduceSub, Nat.reduceLeDiff, Nat.reduceEqDiff, Int.reduceAdd, Int.reduceNeg, Int.reduceSub, Int.reduceLT, Int.reduceLE, Int.reduceMul, Int.reduceEq, List.drop_zero, List.drop_succ_cons, ne_eq, not_false_eq_true, not_true_eq_false, false_and, and_false, false_implies, true_implies, reduceIte, mmU_rd, implies_true, or_false, false_or, or_true, true_or, h800]
        refine ⟨by omega, by omega, ?_⟩
        rw [q_invV (pay := [])]
        simp only [q_k0, q_kS, q_rc, mmKo_0]
        refine ⟨Nat.le_of_ble_eq_true rfl, by trivial, Nat.zero_le _, Nat.zero_le _, ?_⟩
        refine mT_use (c_listMoves (tl := 850) (il := lv) hb hC hq hV hB (by omega) (Or.inr (Or.inr rfl)) rfl) (fun v I1 q => ?_)
        obtain ⟨rfl, f1, la⟩ := q
        simp only [mmK_cut cd_81, q_cons, q_G0, q_GS, q_I1, q_L1, q_A1, q_S0, q_S1, q_SS, q_T0, q_T1, q_TS, q_Kn, q_Ki, q_Kl, q_Kr, q_k0, q_kS, q_rc, q_ps, q_pn, q_iload, q_bipush, q_icmp_ge, q_iload2, q_if_eq, q_iload3, q_iconst, q_ireturn1, q_if_ne, q_aload1, q_goto, q_aload0, q_getfieldA, q_aaload, q_astore, q_aload, q_istore, q_iaload, q_isub, q_iadd, q_icmp_ne, q_iinc, rf_7_0, mmKe_800, mmKo_0, mmKo_7, mmLen_800, mmR32, mmR64, Option.some.injEq, Int.cast_ofNat_Int, and_true, true_and, if_true, if_false, List.length_cons, List.length_nil, Nat.le_refl, Nat.zero_le, Nat.sub_zero, forall_const, reduceCtorEq, Nat.reduceAdd, Nat.reduceSub, Nat.reduceLeDiff, Nat.reduceEqDiff, Int.reduceAdd, Int.reduceNeg, Int.reduceSub, Int.reduceLT, Int.reduceLE, Int.reduceMul, Int.reduceEq, List.drop_zero, List.drop_succ_cons, ne_eq, not_false_eq_true, not_true_eq_false, false_and, and_false, false_implies, true_implies, reduceIte, mmU_rd, implies_true, or_false, false_or, or_true, true_or]
        have key : ∀ (q k : Nat) (I2 : mMm) (l8 l9 : Option mmV), k + q = (mvs r B m).length → FrE j lv I I2 → BV I2 j B m r → LA (I2 850 lv) (mvs r B m) → (∀ i : Nat, i < k → (wZ r (1 - w) n (aft B ((mvs r B m).getD i 0)) (m + 1) ↔ w = 0)) → mmK (d + 6) 81 (mT a br X fun v I' => v = some (mv (bI (wZ r w (n + 1) B m))) ∧ FrE j lv I I' ∧ BV I' j B m r) 38 [some (mo 7 0), some (mo 0 j), some (mv w), some (mv ((n + 1 : Nat) : Int)), some (mv lv), some (mo 850 lv), some (mv (mvs r B m).length), some (mv k), l8, l9] [] (I2, mmRf a br, X) := by
          intro q
          induction q with
          | zero =>
            intro k I2 l8 l9 hk f2 v2 la2 hn
            have hall : ∀ v, v ∈ mvs r B m → (wZ r (1 - w) n (aft B v) (m + 1) ↔ w = 0) := by
              intro v hv
              obtain ⟨i, hi, e⟩ := mem_getD hv
              have := hn i (by omega)
              rw [e] at this
              exact this
            refine mmC_step ?_
            simp only [cd_81, sg_81_0, sg_81_8, sg_81_10, sg_81_18, sg_81_25, sg_81_26, sg_81_27, sg_81_38, sg_81_53, sg_81_54, sg_81_73, sg_81_75, sg_81_79, sg_81_80, mmK_cut cd_81, q_cons, q_G0, q_GS, q_I1, q_L1, q_A1, q_S0, q_S1, q_SS, q_T0, q_T1, q_TS, q_Kn, q_Ki, q_Kl, q_Kr, q_k0, q_kS, q_rc, q_ps, q_pn, q_iload, q_bipush, q_icmp_ge, q_iload2, q_if_eq, q_iload3, q_iconst, q_ireturn1, q_if_ne, q_aload1, q_goto, q_aload0, q_getfieldA, q_aaload, q_astore, q_aload, q_istore, q_iaload, q_isub, q_iadd, q_icmp_ne, q_iinc, rf_7_0, mmKe_800, mmKo_0, mmKo_7, mmLen_800, mmR32, mmR64, Option.some.injEq, Int.cast_ofNat_Int, and_true, true_and, if_true, if_false, List.length_cons, List.length_nil, Nat.le_refl, Nat.zero_le, Nat.sub_zero, forall_const, reduceCtorEq, Nat.reduceAdd, Nat.reduceSub, Nat.reduceLeDiff, Nat.reduceEqDiff, Int.reduceAdd, Int.reduceNeg, Int.reduceSub, Int.reduceLT, Int.reduceLE, Int.reduceMul, Int.reduceEq, List.drop_zero, List.drop_succ_cons, ne_eq, not_false_eq_true, not_true_eq_false, false_and, and_false, false_implies, true_implies, reduceIte, mmU_rd, implies_true, or_false, false_or, or_true, true_or]
            refine ⟨fun _ => ?_, fun c => by omega⟩
            refine mmC_step ?_
            simp only [cd_81, sg_81_0, sg_81_8, sg_81_10, sg_81_18, sg_81_25, sg_81_26, sg_81_27, sg_81_38, sg_81_53, sg_81_54, sg_81_73, sg_81_75, sg_81_79, sg_81_80, mmK_cut cd_81, q_cons, q_G0, q_GS, q_I1, q_L1, q_A1, q_S0, q_S1, q_SS, q_T0, q_T1, q_TS, q_Kn, q_Ki, q_Kl, q_Kr, q_k0, q_kS, q_rc, q_ps, q_pn, q_iload, q_bipush, q_icmp_ge, q_iload2, q_if_eq, q_iload3, q_iconst, q_ireturn1, q_if_ne, q_aload1, q_goto, q_aload0, q_getfieldA, q_aaload, q_astore, q_aload, q_istore, q_iaload, q_isub, q_iadd, q_icmp_ne, q_iinc, rf_7_0, mmKe_800, mmKo_0, mmKo_7, mmLen_800, mmR32, mmR64, Option.some.injEq, Int.cast_ofNat_Int, and_true, true_and, if_true, if_false, List.length_cons, List.length_nil, Nat.le_refl, Nat.zero_le, Nat.sub_zero, forall_const, reduceCtorEq, Nat.reduceAdd, Nat.reduceSub, Nat.reduceLeDiff, Nat.reduceEqDiff, Int.reduceAdd, Int.reduceNeg, Int.reduceSub, Int.reduceLT, Int.reduceLE, Int.reduceMul, Int.reduceEq, List.drop_zero, List.drop_succ_cons, ne_eq, not_false_eq_true, not_true_eq_false, false_and, and_false, false_implies, true_implies, reduceIte, mmU_rd, implies_true, or_false, false_or, or_true, true_or]
            refine ⟨fun c2 => ?_, fun c2 => ?_⟩
            · refine mmC_step ?_
              simp only [cd_81, sg_81_0, sg_81_8, sg_81_10, sg_81_18, sg_81_25, sg_81_26, sg_81_27, sg_81_38, sg_81_53, sg_81_54, sg_81_73, sg_81_75, sg_81_79, sg_81_80, mmK_cut cd_81, q_cons, q_G0, q_GS, q_I1, q_L1, q_A1, q_S0, q_S1, q_SS, q_T0, q_T1, q_TS, q_Kn, q_Ki, q_Kl, q_Kr, q_k0, q_kS, q_rc, q_ps, q_pn, q_iload, q_bipush, q_icmp_ge, q_iload2, q_if_eq, q_iload3, q_iconst, q_ireturn1, q_if_ne, q_aload1, q_goto, q_aload0, q_getfieldA, q_aaload, q_astore, q_aload, q_istore, q_iaload, q_isub, q_iadd, q_icmp_ne, q_iinc, rf_7_0, mmKe_800, mmKo_0, mmKo_7, mmLen_800, mmR32, mmR64, Option.some.injEq, Int.cast_ofNat_Int, and_true, true_and, if_true, if_false, List.length_cons, List.length_nil, Nat.le_refl, Nat.zero_le, Nat.sub_zero, forall_const, reduceCtorEq, Nat.reduceAdd, Nat.reduceSub, Nat.reduceLeDiff, Nat.reduceEqDiff, Int.reduceAdd, Int.reduceNeg, Int.reduceSub, Int.reduceLT, Int.reduceLE, Int.reduceMul, Int.reduceEq, List.drop_zero, List.drop_succ_cons, ne_eq, not_false_eq_true, not_true_eq_false, false_and, and_false, false_implies, true_implies, reduceIte, mmU_rd, implies_true, or_false, false_or, or_true, true_or]
              refine mmC_step ?_
              simp only [cd_81, sg_81_0, sg_81_8, sg_81_10, sg_81_18, sg_81_25, sg_81_26, sg_81_27, sg_81_38, sg_81_53, sg_81_54, sg_81_73, sg_81_75, sg_81_79, sg_81_80, mmK_cut cd_81, q_cons, q_G0, q_GS, q_I1, q_L1, q_A1, q_S0, q_S1, q_SS, q_T0, q_T1, q_TS, q_Kn, q_Ki, q_Kl, q_Kr, q_k0, q_kS, q_rc, q_ps, q_pn, q_iload, q_bipush, q_icmp_ge, q_iload2, q_if_eq, q_iload3, q_iconst, q_ireturn1, q_if_ne, q_aload1, q_goto, q_aload0, q_getfieldA, q_aaload, q_astore, q_aload, q_istore, q_iaload, q_isub, q_iadd, q_icmp_ne, q_iinc, rf_7_0, mmKe_800, mmKo_0, mmKo_7, mmLen_800, mmR32, mmR64, Option.some.injEq, Int.cast_ofNat_Int, and_true, true_and, if_true, if_false, List.length_cons, List.length_nil, Nat.le_refl, Nat.zero_le, Nat.sub_zero, forall_const, reduceCtorEq, Nat.reduceAdd, Nat.reduceSub, Nat.reduceLeDiff, Nat.reduceEqDiff, Int.reduceAdd, Int.reduceNeg, Int.reduceSub, Int.reduceLT, Int.reduceLE, Int.reduceMul, Int.reduceEq, List.drop_zero, List.drop_succ_cons, ne_eq, not_false_eq_true, not_true_eq_false, false_and, and_false, false_implies, true_implies, reduceIte, mmU_rd, implies_true, or_false, false_or, or_true, true_or]
              refine fin I2 0 (Or.inl rfl) ⟨fun q => by omega, fun q => ?_⟩ f2 v2
              rcases hZ.mp q with ⟨_, v, h1, h2⟩ | ⟨h1, _⟩
              · exact absurd ((hall v h1).mp h2) c2
              · exact absurd h1 c2
            · refine mmC_step ?_
              simp only [cd_81, sg_81_0, sg_81_8, sg_81_10, sg_81_18, sg_81_25, sg_81_26, sg_81_27, sg_81_38, sg_81_53, sg_81_54, sg_81_73, sg_81_75, sg_81_79, sg_81_80, mmK_cut cd_81, q_cons, q_G0, q_GS, q_I1, q_L1, q_A1, q_S0, q_S1, q_SS, q_T0, q_T1, q_TS, q_Kn, q_Ki, q_Kl, q_Kr, q_k0, q_kS, q_rc, q_ps, q_pn, q_iload, q_bipush, q_icmp_ge, q_iload2, q_if_eq, q_iload3, q_iconst, q_ireturn1, q_if_ne, q_aload1, q_goto, q_aload0, q_getfieldA, q_aaload, q_astore, q_aload, q_istore, q_iaload, q_isub, q_iadd, q_icmp_ne, q_iinc, rf_7_0, mmKe_800, mmKo_0, mmKo_7, mmLen_800, mmR32, mmR64, Option.some.injEq, Int.cast_ofNat_Int, and_true, true_and, if_true, if_false, List.length_cons, List.length_nil, Nat.le_refl, Nat.zero_le, Nat.sub_zero, forall_const, reduceCtorEq, Nat.reduceAdd, Nat.reduceSub, Nat.reduceLeDiff, Nat.reduceEqDiff, Int.reduceAdd, Int.reduceNeg, Int.reduceSub, Int.reduceLT, Int.reduceLE, Int.reduceMul, Int.reduceEq, List.drop_zero, List.drop_succ_cons, ne_eq, not_false_eq_true, not_true_eq_false, false_and, and_false, false_implies, true_implies, reduceIte, mmU_rd, implies_true, or_false, false_or, or_true, true_or]
              exact fin I2 1 (Or.inr rfl) ⟨fun _ => hZ.mpr (Or.inr ⟨c2, fun v hv => (hall v hv).mpr c2⟩), fun _ => rfl⟩ f2 v2
          | succ q ihq =>
            intro k I2 l8 l9 hk f2 v2 la2 hn
            have hvm := getD_mem (L := mvs r B m) (k := k) (by omega)
            have ev := la2 k (by omega)
            generalize hvv : (mvs r B m).getD k 0 = v at *
            have hv0 : 0 ≤ v ∧ v < 1600 := (mvL_0 w0 w1 hvm).resolve_right (by omega)
            have hok := mv_ok hq hB hv0.1 (mvL_lf w0 w1 25 hvm)
            have hBa := BW_aft hq hB hok
            obtain ⟨o1, o2, o3, o4, o5, o6⟩ := hok
            have hC2 := CR_E hC f2
            have hk200 : (k : Int) < mmLen 850 := by rw [show mmLen 850 = 200 from rfl]; omega
            refine mmC_step ?_
            simp only [cd_81, sg_81_0, sg_81_8, sg_81_10, sg_81_18, sg_81_25, sg_81_26, sg_81_27, sg_81_38, sg_81_53, sg_81_54, sg_81_73, sg_81_75, sg_81_79, sg_81_80, mmK_cut cd_81, q_cons, q_G0, q_GS, q_I1, q_L1, q_A1, q_S0, q_S1, q_SS, q_T0, q_T1, q_TS, q_Kn, q_Ki, q_Kl, q_Kr, q_k0, q_kS, q_rc, q_ps, q_pn, q_iload, q_bipush, q_icmp_ge, q_iload2, q_if_eq, q_iload3, q_iconst, q_ireturn1, q_if_ne, q_aload1, q_goto, q_aload0, q_getfieldA, q_aaload, q_astore, q_aload, q_istore, q_iaload, q_isub, q_iadd, q_icmp_ne, q_iinc, rf_7_0, mmKe_800, mmKo_0, mmKo_7, mmLen_800, mmR32, mmR64, Option.some.injEq, Int.cast_ofNat_Int, and_true, true_and, if_true, if_false, List.length_cons, List.length_nil, Nat.le_refl, Nat.zero_le, Nat.sub_zero, forall_const, reduceCtorEq, Nat.reduceAdd, Nat.reduceSub, Nat.reduceLeDiff, Nat.reduceEqDiff, Int.reduceAdd, Int.reduceNeg, Int.reduceSub, Int.reduceLT, Int.reduceLE, Int.reduceMul, Int.reduceEq, List.drop_zero, List.drop_succ_cons, ne_eq, not_false_eq_true, not_true_eq_false, false_and, and_false, false_implies, true_implies, reduceIte, mmU_rd, implies_true, or_false, false_or, or_true, true_or]
            rw [ev]
            refine ⟨fun c => by omega, fun _ => ⟨rfl, by omega, hk200, ?_⟩⟩
            rw [q_invV (pay := [])]
            simp only [q_k0, q_kS, q_rc, mmKo_0]
            refine ⟨Nat.le_of_ble_eq_true rfl, by trivial, Nat.zero_le _, Nat.zero_le _, ?_⟩
            refine mT_use (c_make o1 hb hC2 hq.1 v2 hB (by omega) o2 o3 o4) (fun u I3 q3 => ?_)
            obtain ⟨rfl, f3, v3⟩ := q3
            have f3' : FrE j (lv + 1) I2 I3 := FrE_D f3
            have w54 : ∀ z, z = 1 - w → mmK (d + 6) 81 (mT a br X fun v I' => v = some (mv (bI (wZ r w (n + 1) B m))) ∧ FrE j lv I I' ∧ BV I' j B m r) 54 [some (mo 7 0), some (mo 0 j), some (mv w), some (mv ((n + 1 : Nat) : Int)), some (mv lv), some (mo 850 lv), some (mv (mvs r B m).length), some (mv k), some (mv (B (v % 64))), l9] [mv z, mo 0 j, mo 7 0] (I3, mmRf a br, X) := by
              intro z hz
              subst hz
              refine mmC_step ?_
              simp only [cd_81, sg_81_0, sg_81_8, sg_81_10, sg_81_18, sg_81_25, sg_81_26, sg_81_27, sg_81_38, sg_81_53, sg_81_54, sg_81_73, sg_81_75, sg_81_79, sg_81_80, mmK_cut cd_81, q_cons, q_G0, q_GS, q_I1, q_L1, q_A1, q_S0, q_S1, q_SS, q_T0, q_T1, q_TS, q_Kn, q_Ki, q_Kl, q_Kr, q_k0, q_kS, q_rc, q_ps, q_pn, q_iload, q_bipush, q_icmp_ge, q_iload2, q_if_eq, q_iload3, q_iconst, q_ireturn1, q_if_ne, q_aload1, q_goto, q_aload0, q_getfieldA, q_aaload, q_astore, q_aload, q_istore, q_iaload, q_isub, q_iadd, q_icmp_ne, q_iinc, rf_7_0, mmKe_800, mmKo_0, mmKo_7, mmLen_800, mmR32, mmR64, Option.some.injEq, Int.cast_ofNat_Int, and_true, true_and, if_true, if_false, List.length_cons, List.length_nil, Nat.le_refl, Nat.zero_le, Nat.sub_zero, forall_const, reduceCtorEq, Nat.reduceAdd, Nat.reduceSub, Nat.reduceLeDiff, Nat.reduceEqDiff, Int.reduceAdd, Int.reduceNeg, Int.reduceSub, Int.reduceLT, Int.reduceLE, Int.reduceMul, Int.reduceEq, List.drop_zero, List.drop_succ_cons, ne_eq, not_false_eq_true, not_true_eq_false, false_and, and_false, false_implies, true_implies, reduceIte, mmU_rd, implies_true, or_false, false_or, or_true, true_or]
              have ihc := ih (d + 6) (1 - w) (lv + 1) (aft B v) (m + 1) I3 (X.1, 0, 0) (by omega) (by omega) (by omega) (CR_E hC2 f3') v3 hBa (by omega) (by omega)
              rw [show ((n + 1 : Nat) : Int) - 1 = (n : Int) by omega, show ((lv : Nat) : Int) + 1 = ((lv + 1 : Nat) : Int) by omega]
              refine ⟨by omega, by omega, ?_⟩
              rw [q_invV (pay := [])]
              simp only [q_k0, q_kS, q_rc, mmKo_7]
              refine ⟨Nat.le_of_ble_eq_true rfl, by trivial, Nat.zero_le _, Nat.zero_le _, ?_⟩
              refine mT_use ihc (fun u I4 q4 => ?_)
              obtain ⟨rfl, f4, v4⟩ := q4
              have f24 : FrE j (lv + 1) I2 I4 := FrE_trans f3' f4
              have ev4 : I4 850 lv k = v := (f24 _ _ _ (by omega) (by omega) (by omega)).trans ev
              simp only [mmK_cut cd_81, q_cons, q_G0, q_GS, q_I1, q_L1, q_A1, q_S0, q_S1, q_SS, q_T0, q_T1, q_TS, q_Kn, q_Ki, q_Kl, q_Kr, q_k0, q_kS, q_rc, q_ps, q_pn, q_iload, q_bipush, q_icmp_ge, q_iload2, q_if_eq, q_iload3, q_iconst, q_ireturn1, q_if_ne, q_aload1, q_goto, q_aload0, q_getfieldA, q_aaload, q_astore, q_aload, q_istore, q_iaload, q_isub, q_iadd, q_icmp_ne, q_iinc, rf_7_0, mmKe_800, mmKo_0, mmKo_7, mmLen_800, mmR32, mmR64, Option.some.injEq, Int.cast_ofNat_Int, and_true, true_and, if_true, if_false, List.length_cons, List.length_nil, Nat.le_refl, Nat.zero_le, Nat.sub_zero, forall_const, reduceCtorEq, Nat.reduceAdd, Nat.reduceSub, Nat.reduceLeDiff, Nat.reduceEqDiff, Int.reduceAdd, Int.reduceNeg, Int.reduceSub, Int.reduceLT, Int.reduceLE, Int.reduceMul, Int.reduceEq, List.drop_zero, List.drop_succ_cons, ne_eq, not_false_eq_true, not_true_eq_false, false_and, and_false, false_implies, true_implies, reduceIte, mmU_rd, implies_true, or_false, false_or, or_true, true_or]
              rw [ev4]
              refine ⟨rfl, by omega, hk200, ?_⟩
              rw [q_invV (pay := [])]
              simp only [q_k0, q_kS, q_rc, mmKo_0]
              refine ⟨Nat.le_of_ble_eq_true rfl, by trivial, Nat.zero_le _, Nat.zero_le _, ?_⟩
              refine mT_use (c_unmake o1 hb (CR_E hC2 f24) hq.1 v4 hB (by omega) o2 o3 o4) (fun u I5 q5 => ?_)
              obtain ⟨rfl, f5, v5⟩ := q5
              have f25 : FrE j (lv + 1) I2 I5 := FrE_trans f24 (FrE_D f5)
              have f15 : FrE j lv I I5 := FrE_trans f2 (FrE_up f25)
              generalize hnx : wZ r (1 - w) n (aft B v) (m + 1) = nx at *
              have hb01 := bI_01 (p := nx)
              simp only [mmK_cut cd_81, q_cons, q_G0, q_GS, q_I1, q_L1, q_A1, q_S0, q_S1, q_SS, q_T0, q_T1, q_TS, q_Kn, q_Ki, q_Kl, q_Kr, q_k0, q_kS, q_rc, q_ps, q_pn, q_iload, q_bipush, q_icmp_ge, q_iload2, q_if_eq, q_iload3, q_iconst, q_ireturn1, q_if_ne, q_aload1, q_goto, q_aload0, q_getfieldA, q_aaload, q_astore, q_aload, q_istore, q_iaload, q_isub, q_iadd, q_icmp_ne, q_iinc, rf_7_0, mmKe_800, mmKo_0, mmKo_7, mmLen_800, mmR32, mmR64, Option.some.injEq, Int.cast_ofNat_Int, and_true, true_and, if_true, if_false, List.length_cons, List.length_nil, Nat.le_refl, Nat.zero_le, Nat.sub_zero, forall_const, reduceCtorEq, Nat.reduceAdd, Nat.reduceSub, Nat.reduceLeDiff, Nat.reduceEqDiff, Int.reduceAdd, Int.reduceNeg, Int.reduceSub, Int.reduceLT, Int.reduceLE, Int.reduceMul, Int.reduceEq, List.drop_zero, List.drop_succ_cons, ne_eq, not_false_eq_true, not_true_eq_false, false_and, and_false, false_implies, true_implies, reduceIte, mmU_rd, implies_true, or_false, false_or, or_true, true_or]
              refine ⟨fun c2 => ?_, fun c2 => ?_⟩
              · refine mmC_step ?_
                simp only [cd_81, sg_81_0, sg_81_8, sg_81_10, sg_81_18, sg_81_25, sg_81_26, sg_81_27, sg_81_38, sg_81_53, sg_81_54, sg_81_73, sg_81_75, sg_81_79, sg_81_80, mmK_cut cd_81, q_cons, q_G0, q_GS, q_I1, q_L1, q_A1, q_S0, q_S1, q_SS, q_T0, q_T1, q_TS, q_Kn, q_Ki, q_Kl, q_Kr, q_k0, q_kS, q_rc, q_ps, q_pn, q_iload, q_bipush, q_icmp_ge, q_iload2, q_if_eq, q_iload3, q_iconst, q_ireturn1, q_if_ne, q_aload1, q_goto, q_aload0, q_getfieldA, q_aaload, q_astore, q_aload, q_istore, q_iaload, q_isub, q_iadd, q_icmp_ne, q_iinc, rf_7_0, mmKe_800, mmKo_0, mmKo_7, mmLen_800, mmR32, mmR64, Option.some.injEq, Int.cast_ofNat_Int, and_true, true_and, if_true, if_false, List.length_cons, List.length_nil, Nat.le_refl, Nat.zero_le, Nat.sub_zero, forall_const, reduceCtorEq, Nat.reduceAdd, Nat.reduceSub, Nat.reduceLeDiff, Nat.reduceEqDiff, Int.reduceAdd, Int.reduceNeg, Int.reduceSub, Int.reduceLT, Int.reduceLE, Int.reduceMul, Int.reduceEq, List.drop_zero, List.drop_succ_cons, ne_eq, not_false_eq_true, not_true_eq_false, false_and, and_false, false_implies, true_implies, reduceIte, mmU_rd, implies_true, or_false, false_or, or_true, true_or]
                refine ⟨by omega, ihq (k + 1) I5 _ _ (by omega) f15 v5 (LA_ext la2 (fun i _ _ => f25 _ _ _ (by omega) (by omega) (by omega))) (fun i hi => ?_)⟩
                by_cases ci : i = k
                · rw [ci, hvv, hnx]
                  rcases hw with q | q
                  · exact ⟨fun _ => q, fun _ => Classical.byContradiction fun h => c2 (by rw [bI_neg h, q])⟩
                  · exact ⟨fun h => absurd (bI_pos h) (by rw [← q]; exact c2), fun h => by omega⟩
                · exact hn i (by omega)
              · refine ⟨by omega, fin I5 w hw ⟨fun q => hZ.mpr (Or.inl ⟨q, v, hvm, ?_⟩), fun q => ?_⟩ f15 v5⟩
                · rw [hnx]; exact bI_eq1.mp (c2.trans q)
                · rcases hZ.mp q with ⟨h1, _⟩ | ⟨h1, h2⟩
                  · exact h1
                  · have := h2 v hvm
                    rw [hnx] at this
                    rw [bI_pos this] at c2
                    exact c2.symm
            simp only [mmK_cut cd_81, q_cons, q_G0, q_GS, q_I1, q_L1, q_A1, q_S0, q_S1, q_SS, q_T0, q_T1, q_TS, q_Kn, q_Ki, q_Kl, q_Kr, q_k0, q_kS, q_rc, q_ps, q_pn, q_iload, q_bipush, q_icmp_ge, q_iload2, q_if_eq, q_iload3, q_iconst, q_ireturn1, q_if_ne, q_aload1, q_goto, q_aload0, q_getfieldA, q_aaload, q_astore, q_aload, q_istore, q_iaload, q_isub, q_iadd, q_icmp_ne, q_iinc, rf_7_0, mmKe_800, mmKo_0, mmKo_7, mmLen_800, mmR32, mmR64, Option.some.injEq, Int.cast_ofNat_Int, and_true, true_and, if_true, if_false, List.length_cons, List.length_nil, Nat.le_refl, Nat.zero_le, Nat.sub_zero, forall_const, reduceCtorEq, Nat.reduceAdd, Nat.reduceSub, Nat.reduceLeDiff, Nat.reduceEqDiff, Int.reduceAdd, Int.reduceNeg, Int.reduceSub, Int.reduceLT, Int.reduceLE, Int.reduceMul, Int.reduceEq, List.drop_zero, List.drop_succ_cons, ne_eq, not_false_eq_true, not_true_eq_false, false_and, and_false, false_implies, true_implies, reduceIte, mmU_rd, implies_true, or_false, false_or, or_true, true_or]
            refine ⟨fun c2 => ?_, fun c2 => ?_⟩
            · refine mmC_step ?_
              simp only [cd_81, sg_81_0, sg_81_8, sg_81_10, sg_81_18, sg_81_25, sg_81_26, sg_81_27, sg_81_38, sg_81_53, sg_81_54, sg_81_73, sg_81_75, sg_81_79, sg_81_80, mmK_cut cd_81, q_cons, q_G0, q_GS, q_I1, q_L1, q_A1, q_S0, q_S1, q_SS, q_T0, q_T1, q_TS, q_Kn, q_Ki, q_Kl, q_Kr, q_k0, q_kS, q_rc, q_ps, q_pn, q_iload, q_bipush, q_icmp_ge, q_iload2, q_if_eq, q_iload3, q_iconst, q_ireturn1, q_if_ne, q_aload1, q_goto, q_aload0, q_getfieldA, q_aaload, q_astore, q_aload, q_istore, q_iaload, q_isub, q_iadd, q_icmp_ne, q_iinc, rf_7_0, mmKe_800, mmKo_0, mmKo_7, mmLen_800, mmR32, mmR64, Option.some.injEq, Int.cast_ofNat_Int, and_true, true_and, if_true, if_false, List.length_cons, List.length_nil, Nat.le_refl, Nat.zero_le, Nat.sub_zero, forall_const, reduceCtorEq, Nat.reduceAdd, Nat.reduceSub, Nat.reduceLeDiff, Nat.reduceEqDiff, Int.reduceAdd, Int.reduceNeg, Int.reduceSub, Int.reduceLT, Int.reduceLE, Int.reduceMul, Int.reduceEq, List.drop_zero, List.drop_succ_cons, ne_eq, not_false_eq_true, not_true_eq_false, false_and, and_false, false_implies, true_implies, reduceIte, mmU_rd, implies_true, or_false, false_or, or_true, true_or]
              exact w54 0 (by omega)
            · exact w54 1 (by omega)
        exact key (mvs r B m).length 0 I1 _ _ (by omega) (FrE_L f1) (BV_A (Or.inr (Or.inr rfl)) hV f1) la (fun i hi => by omega)
      · have c := Classical.not_not.mp c
        refine ⟨fun c2 => ?_, fun c2 => ?_⟩
        · refine mmC_step ?_
          simp only [cd_81, sg_81_0, sg_81_8, sg_81_10, sg_81_18, sg_81_25, sg_81_26, sg_81_27, sg_81_38, sg_81_53, sg_81_54, sg_81_73, sg_81_75, sg_81_79, sg_81_80, mmK_cut cd_81, q_cons, q_G0, q_GS, q_I1, q_L1, q_A1, q_S0, q_S1, q_SS, q_T0, q_T1, q_TS, q_Kn, q_Ki, q_Kl, q_Kr, q_k0, q_kS, q_rc, q_ps, q_pn, q_iload, q_bipush, q_icmp_ge, q_iload2, q_if_eq, q_iload3, q_iconst, q_ireturn1, q_if_ne, q_aload1, q_goto, q_aload0, q_getfieldA, q_aaload, q_astore, q_aload, q_istore, q_iaload, q_isub, q_iadd, q_icmp_ne, q_iinc, rf_7_0, mmKe_800, mmKo_0, mmKo_7, mmLen_800, mmR32, mmR64, Option.some.injEq, Int.cast_ofNat_Int, and_true, true_and, if_true, if_false, List.length_cons, List.length_nil, Nat.le_refl, Nat.zero_le, Nat.sub_zero, forall_const, reduceCtorEq, Nat.reduceAdd, Nat.reduceSub, Nat.reduceLeDiff, Nat.reduceEqDiff, Int.reduceAdd, Int.reduceNeg, Int.reduceSub, Int.reduceLT, Int.reduceLE, Int.reduceMul, Int.reduceEq, List.drop_zero, List.drop_succ_cons, ne_eq, not_false_eq_true, not_true_eq_false, false_and, and_false, false_implies, true_implies, reduceIte, mmU_rd, implies_true, or_false, false_or, or_true, true_or]
          refine mmC_step ?_
          simp only [cd_81, sg_81_0, sg_81_8, sg_81_10, sg_81_18, sg_81_25, sg_81_26, sg_81_27, sg_81_38, sg_81_53, sg_81_54, sg_81_73, sg_81_75, sg_81_79, sg_81_80, mmK_cut cd_81, q_cons, q_G0, q_GS, q_I1, q_L1, q_A1, q_S0, q_S1, q_SS, q_T0, q_T1, q_TS, q_Kn, q_Ki, q_Kl, q_Kr, q_k0, q_kS, q_rc, q_ps, q_pn, q_iload, q_bipush, q_icmp_ge, q_iload2, q_if_eq, q_iload3, q_iconst, q_ireturn1, q_if_ne, q_aload1, q_goto, q_aload0, q_getfieldA, q_aaload, q_astore, q_aload, q_istore, q_iaload, q_isub, q_iadd, q_icmp_ne, q_iinc, rf_7_0, mmKe_800, mmKo_0, mmKo_7, mmLen_800, mmR32, mmR64, Option.some.injEq, Int.cast_ofNat_Int, and_true, true_and, if_true, if_false, List.length_cons, List.length_nil, Nat.le_refl, Nat.zero_le, Nat.sub_zero, forall_const, reduceCtorEq, Nat.reduceAdd, Nat.reduceSub, Nat.reduceLeDiff, Nat.reduceEqDiff, Int.reduceAdd, Int.reduceNeg, Int.reduceSub, Int.reduceLT, Int.reduceLE, Int.reduceMul, Int.reduceEq, List.drop_zero, List.drop_succ_cons, ne_eq, not_false_eq_true, not_true_eq_false, false_and, and_false, false_implies, true_implies, reduceIte, mmU_rd, implies_true, or_false, false_or, or_true, true_or]
          refine fin I 0 (Or.inl rfl) ⟨fun q => by omega, fun q => ?_⟩ FrE_refl hV
          rcases q with ⟨_, h2⟩ | ⟨h1, _⟩
          · rw [wl_1] at h2
            exact absurd c h2.1
          · exact absurd h1 c2
        · refine mmC_step ?_
          simp only [cd_81, sg_81_0, sg_81_8, sg_81_10, sg_81_18, sg_81_25, sg_81_26, sg_81_27, sg_81_38, sg_81_53, sg_81_54, sg_81_73, sg_81_75, sg_81_79, sg_81_80, mmK_cut cd_81, q_cons, q_G0, q_GS, q_I1, q_L1, q_A1, q_S0, q_S1, q_SS, q_T0, q_T1, q_TS, q_Kn, q_Ki, q_Kl, q_Kr, q_k0, q_kS, q_rc, q_ps, q_pn, q_iload, q_bipush, q_icmp_ge, q_iload2, q_if_eq, q_iload3, q_iconst, q_ireturn1, q_if_ne, q_aload1, q_goto, q_aload0, q_getfieldA, q_aaload, q_astore, q_aload, q_istore, q_iaload, q_isub, q_iadd, q_icmp_ne, q_iinc, rf_7_0, mmKe_800, mmKo_0, mmKo_7, mmLen_800, mmR32, mmR64, Option.some.injEq, Int.cast_ofNat_Int, and_true, true_and, if_true, if_false, List.length_cons, List.length_nil, Nat.le_refl, Nat.zero_le, Nat.sub_zero, forall_const, reduceCtorEq, Nat.reduceAdd, Nat.reduceSub, Nat.reduceLeDiff, Nat.reduceEqDiff, Int.reduceAdd, Int.reduceNeg, Int.reduceSub, Int.reduceLT, Int.reduceLE, Int.reduceMul, Int.reduceEq, List.drop_zero, List.drop_succ_cons, ne_eq, not_false_eq_true, not_true_eq_false, false_and, and_false, false_implies, true_implies, reduceIte, mmU_rd, implies_true, or_false, false_or, or_true, true_or]
          refine fin I 1 (Or.inr rfl) ⟨fun _ => Or.inr ⟨c2, ?_⟩, fun _ => rfl⟩ FrE_refl hV
          obtain ⟨n', rfl⟩ : ∃ n', n = n' + 1 := ⟨n - 1, by omega⟩
          rw [wl_2]
          exact Or.inl c
    have w10 : mmK (d + 6) 81 (mT a br X fun v I' => v = some (mv (bI (wZ r w (n + 1) B m))) ∧ FrE j lv I I' ∧ BV I' j B m r) 10 [some (mo 7 0), some (mo 0 j), some (mv w), some (mv ((n + 1 : Nat) : Int)), some (mv lv), none, none, none, none, none] [] (I, mmRf a br, X) := by
      refine mmC_step ?_
      simp only [cd_81, sg_81_0, sg_81_8, sg_81_10, sg_81_18, sg_81_25, sg_81_26, sg_81_27, sg_81_38, sg_81_53, sg_81_54, sg_81_73, sg_81_75, sg_81_79, sg_81_80, mmK_cut cd_81, q_cons, q_G0, q_GS, q_I1, q_L1, q_A1, q_S0, q_S1, q_SS, q_T0, q_T1, q_TS, q_Kn, q_Ki, q_Kl, q_Kr, q_k0, q_kS, q_rc, q_ps, q_pn, q_iload, q_bipush, q_icmp_ge, q_iload2, q_if_eq, q_iload3, q_iconst, q_ireturn1, q_if_ne, q_aload1, q_goto, q_aload0, q_getfieldA, q_aaload, q_astore, q_aload, q_istore, q_iaload, q_isub, q_iadd, q_icmp_ne, q_iinc, rf_7_0, mmKe_800, mmKo_0, mmKo_7, mmLen_800, mmR32, mmR64, Option.some.injEq, Int.cast_ofNat_Int, and_true, true_and, if_true, if_false, List.length_cons, List.length_nil, Nat.le_refl, Nat.zero_le, Nat.sub_zero, forall_const, reduceCtorEq, Nat.reduceAdd, Nat.reduceSub, Nat.reduceLeDiff, Nat.reduceEqDiff, Int.reduceAdd, Int.reduceNeg, Int.reduceSub, Int.reduceLT, Int.reduceLE, Int.reduceMul, Int.reduceEq, List.drop_zero, List.drop_succ_cons, ne_eq, not_false_eq_true, not_true_eq_false, false_and, and_false, false_implies, true_implies, reduceIte, mmU_rd, implies_true, or_false, false_or, or_true, true_or]
      refine ⟨fun c => w18 (by omega), fun c => ⟨fun c2 => w18 (by omega), fun c2 => ?_⟩⟩
      rw [q_invV (pay := [])]
      simp only [q_k0, q_kS, q_rc, mmKo_0]
      refine ⟨Nat.le_of_ble_eq_true rfl, by trivial, Nat.zero_le _, Nat.zero_le _, ?_⟩
      refine mT_use (c_hasLost (d := d + 2) hb hC hq hV hB (by omega)) (fun v I1 q => ?_)
      obtain ⟨rfl, f1⟩ := q
      simp only [mmK_cut cd_81, q_cons, q_G0, q_GS, q_I1, q_L1, q_A1, q_S0, q_S1, q_SS, q_T0, q_T1, q_TS, q_Kn, q_Ki, q_Kl, q_Kr, q_k0, q_kS, q_rc, q_ps, q_pn, q_iload, q_bipush, q_icmp_ge, q_iload2, q_if_eq, q_iload3, q_iconst, q_ireturn1, q_if_ne, q_aload1, q_goto, q_aload0, q_getfieldA, q_aaload, q_astore, q_aload, q_istore, q_iaload, q_isub, q_iadd, q_icmp_ne, q_iinc, rf_7_0, mmKe_800, mmKo_0, mmKo_7, mmLen_800, mmR32, mmR64, Option.some.injEq, Int.cast_ofNat_Int, and_true, true_and, if_true, if_false, List.length_cons, List.length_nil, Nat.le_refl, Nat.zero_le, Nat.sub_zero, forall_const, reduceCtorEq, Nat.reduceAdd, Nat.reduceSub, Nat.reduceLeDiff, Nat.reduceEqDiff, Int.reduceAdd, Int.reduceNeg, Int.reduceSub, Int.reduceLT, Int.reduceLE, Int.reduceMul, Int.reduceEq, List.drop_zero, List.drop_succ_cons, ne_eq, not_false_eq_true, not_true_eq_false, false_and, and_false, false_implies, true_implies, reduceIte, mmU_rd, implies_true, or_false, false_or, or_true, true_or]
      refine ⟨bI_01, mT_in ⟨?_, FrE_A f1, BV_A (Or.inl rfl) hV f1⟩⟩
      have e : (wlP r (n + 1) B m).2 = lsP r B m := wl_0 (by omega)
      rw [bI_congr (show lsP r B m ↔ wZ r w (n + 1) B m from ⟨fun q => Or.inr ⟨c, by rw [e]; exact q⟩, fun q => q.elim (fun q => by omega) (fun q => by rw [← e]; exact q.2)⟩)]
    refine mmC_in (by decide) (Nat.le_of_ble_eq_true rfl) (mmC_step ?_)
    simp only [show mmMl 81 = 10 from rfl, mmLs, List.replicate, cd_81, sg_81_0, sg_81_8, sg_81_10, sg_81_18, sg_81_25, sg_81_26, sg_81_27, sg_81_38, sg_81_53, sg_81_54, sg_81_73, sg_81_75, sg_81_79, sg_81_80, mmK_cut cd_81, q_cons, q_G0, q_GS, q_I1, q_L1, q_A1, q_S0, q_S1, q_SS, q_T0, q_T1, q_TS, q_Kn, q_Ki, q_Kl, q_Kr, q_k0, q_kS, q_rc, q_ps, q_pn, q_iload, q_bipush, q_icmp_ge, q_iload2, q_if_eq, q_iload3, q_iconst, q_ireturn1, q_if_ne, q_aload1, q_goto, q_aload0, q_getfieldA, q_aaload, q_astore, q_aload, q_istore, q_iaload, q_isub, q_iadd, q_icmp_ne, q_iinc, rf_7_0, mmKe_800, mmKo_0, mmKo_7, mmLen_800, mmR32, mmR64, Option.some.injEq, Int.cast_ofNat_Int, and_true, true_and, if_true, if_false, List.length_cons, List.length_nil, Nat.le_refl, Nat.zero_le, Nat.sub_zero, forall_const, reduceCtorEq, Nat.reduceAdd, Nat.reduceSub, Nat.reduceLeDiff, Nat.reduceEqDiff, Int.reduceAdd, Int.reduceNeg, Int.reduceSub, Int.reduceLT, Int.reduceLE, Int.reduceMul, Int.reduceEq, List.drop_zero, List.drop_succ_cons, ne_eq, not_false_eq_true, not_true_eq_false, false_and, and_false, false_implies, true_implies, reduceIte, mmU_rd, implies_true, or_false, false_or, or_true, true_or]
    exact ⟨fun c => by omega, fun _ => ⟨fun _ => w10, fun _ => ⟨fun _ => w10, fun c => by omega⟩⟩⟩
end S821
