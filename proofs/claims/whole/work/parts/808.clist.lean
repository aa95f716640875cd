theorem adM_mem {r : mRu} {B : mBd} {m fr to far v : Int} {L : List Int} (h : v ∈ adM r B m fr to far L) : v ∈ L ∨ v = fr * 64 + to := by
  unfold adM at h
  split at h
  · rw [List.mem_append, List.mem_singleton] at h
    exact h
  · exact Or.inl h
theorem stepL_mem {r : mRu} (hw : 2 ≤ r 6 0 ∧ r 6 0 ≤ 5) (hh : 2 ≤ r 6 1 ∧ r 6 1 ≤ 5) {B : mBd} {m fr p v : Int} : ∀ (q : Nat) (far : Int) (L : List Int), v ∈ stepL r B m fr p q far L → v ∈ L ∨ ∃ t, 0 ≤ t ∧ t < 25 ∧ v = fr * 64 + t
  | 0, _, L, h => Or.inl h
  | q + 1, far, L, h => by
    rw [stepL_s] at h
    split at h
    · rename_i c
      have hp := inB_pt hw hh c
      have ad : v ∈ adM r B m fr (ptT r fr p far) far L → v ∈ L ∨ ∃ t, 0 ≤ t ∧ t < 25 ∧ v = fr * 64 + t := fun h => by
        rcases adM_mem h with q | q
        · exact Or.inl q
        · exact Or.inr ⟨_, hp.1, by omega, q⟩
      split at h
      · rcases stepL_mem hw hh q _ _ h with q | q
        · exact ad q
        · exact Or.inr q
      · exact ad h
    · exact Or.inl h
theorem fromL_mem {r : mRu} (hw : 2 ≤ r 6 0 ∧ r 6 0 ≤ 5) (hh : 2 ≤ r 6 1 ∧ r 6 1 ≤ 5) {B : mBd} {m fr v : Int} : ∀ (c : Nat) (s : Int) (L : List Int), v ∈ fromL r B m fr c s L → v ∈ L ∨ ∃ t, 0 ≤ t ∧ t < 25 ∧ v = fr * 64 + t
  | 0, _, L, h => Or.inl h
  | c + 1, s, L, h => by
    rw [fromL_s] at h
    rcases fromL_mem hw hh c _ _ h with q | q
    · exact stepL_mem hw hh _ _ _ q
    · exact Or.inr q
theorem mvF_mem {r : mRu} (hw : 2 ≤ r 6 0 ∧ r 6 0 ≤ 5) (hh : 2 ≤ r 6 1 ∧ r 6 1 ≤ 5) {B : mBd} {m fr v : Int} {L : List Int} (h : v ∈ mvF r B m fr L) : v ∈ L ∨ ((0 ≤ fr ∧ fr < r 6 0 * r 6 1) ∧ B fr / 4 = m % 2 ∧ ∃ t, 0 ≤ t ∧ t < 25 ∧ v = fr * 64 + t) := by
  unfold mvF at h
  split at h
  · rename_i c
    rcases fromL_mem hw hh _ _ _ h with q | q
    · exact Or.inl q
    · exact Or.inr ⟨c.1, c.2, q⟩
  · exact Or.inl h
theorem mvL_mem {r : mRu} (hw : 2 ≤ r 6 0 ∧ r 6 0 ≤ 5) (hh : 2 ≤ r 6 1 ∧ r 6 1 ≤ 5) {B : mBd} {m v : Int} : ∀ n : Nat, v ∈ mvL r B m n → ∃ f t : Int, (0 ≤ f ∧ f < n ∧ f < r 6 0 * r 6 1) ∧ B f / 4 = m % 2 ∧ 0 ≤ t ∧ t < 25 ∧ v = f * 64 + t
  | 0, h => by cases h
  | n + 1, h => by
    rcases mvF_mem hw hh (show v ∈ mvF r B m n (mvL r B m n) from h) with q | ⟨q1, q2, t, q3, q4, q5⟩
    · obtain ⟨f, t, h1, h2⟩ := mvL_mem hw hh n q
      exact ⟨f, t, ⟨h1.1, by omega, h1.2.2⟩, h2⟩
    · exact ⟨n, t, ⟨q1.1, by omega, q1.2⟩, q2, q3, q4, q5⟩
theorem mvL_nil {r : mRu} (hw : 2 ≤ r 6 0 ∧ r 6 0 ≤ 5) (hh : 2 ≤ r 6 1 ∧ r 6 1 ≤ 5) {B : mBd} {m : Int} : ∀ n : Nat, mvL r B m n = [] ↔ ∀ f : Nat, f < n → mvF r B m f [] = []
  | 0 => ⟨fun _ f hf => by omega, fun _ => rfl⟩
  | n + 1 => by
    have ih := mvL_nil hw hh (B := B) (m := m) n
    have hi := (mvF_in hw hh (B := B) (m := m) (fr := n) (L := mvL r B m n)).1
    constructor
    · intro h f hf
      have h1 : mvF r B m n (mvL r B m n) = [] := h
      rw [h1, List.length_nil] at hi
      have h2 : mvL r B m n = [] := List.eq_nil_of_length_eq_zero (by omega)
      by_cases c : f = n
      · subst c
        rw [h2] at h1
        exact h1
      · exact ih.mp h2 f (by omega)
    · intro h
      show mvF r B m n (mvL r B m n) = []
      rw [ih.mpr (fun f hf => h f (by omega))]
      exact h n (by omega)
theorem mvF_out {r : mRu} {B : mBd} {m fr : Int} {L : List Int} (h : r 6 0 * r 6 1 ≤ fr) : mvF r B m fr L = L := by
  unfold mvF
  rw [if_neg (by omega)]
/-- who is to move had a king at first and has none -/
def lkP (r : mRu) (B : mBd) (m : Int) : Prop := ¬ r 715 (m % 2) = 0 ∧ cK r B (m % 2) 25 = 0
/-- who is to move has lost -/
def lsP (r : mRu) (B : mBd) (m : Int) : Prop := lkP r B m ∨ mvL r B m 25 = []
section S808
variable {d a j x tl il : Nat} {I I' I'' : mMm} {br : Nat → Option mmO} {R : Nat → Nat → Int → Option mmO} {X : mmX} {B : mBd} {m fr : Int} {r : mRu} {Q : Option mmV → mmM → Prop}
theorem sp_toMove (hV : BV I j B m r) (hQ : Q (some (mv (m % 2))) (I, mmRf a br, X)) : mmC (d + 1) 2 [mo 0 j] (I, mmRf a br, X) Q := by
  refine mmC_in (by decide) (Nat.le_of_ble_eq_true rfl) (mmC_step ?_)
  simp only [show mmMl 2 = 1 from rfl, mmLs, List.replicate, cd_2, sg_2_0, mmK_cut cd_2, q_cons, q_G0, q_GS, q_I1, q_L1, q_A1, q_S0, q_S1, q_SS, q_T0, q_T1, q_TS, q_Kn, q_Ki, q_Kl, q_Kr, q_k0, q_kS, q_rc, q_ps, q_pn, q_aload0, q_getfieldI, q_iconst, q_iand, q_ireturn0, mmKo_0, mmR32, mmR64, Option.some.injEq, Int.cast_ofNat_Int, and_true, true_and, if_true, if_false, List.length_cons, List.length_nil, Nat.le_refl, Nat.zero_le, Nat.sub_zero, forall_const, reduceCtorEq, Nat.reduceAdd, Nat.reduceSub, Nat.reduceLeDiff, Nat.reduceEqDiff, Int.reduceAdd, Int.reduceNeg, Int.reduceSub, Int.reduceLT, Int.reduceLE, Int.reduceMul, Int.reduceEq, List.drop_zero, List.drop_succ_cons, ne_eq, not_false_eq_true, not_true_eq_false, false_and, and_false, false_implies, true_implies, reduceIte, mmU_rd, implies_true, or_false, false_or, or_true, true_or]
  rw [hV.2.1, mmAnd_1]
  exact hQ
theorem sp_lacksKing (hb : br j = some (6, x)) (hC : CR I x r) (hV : BV I j B m r) (hQ : Q (some (mv (bI (lkP r B m)))) (I, mmRf a br, X)) : mmC (d + 2) 8 [mo 0 j] (I, mmRf a br, X) Q := by
  have h2 : m % 2 = 0 ∨ m % 2 = 1 := by omega
  have h01 : 0 ≤ m % 2 ∧ m % 2 < 2 := by omega
  have w19 : ¬ lkP r B m → mmK (d + 1) 8 Q 19 [some (mo 0 j), some (mv (m % 2))] [] (I, mmRf a br, X) := by
    intro c
    refine mmC_step ?_
    simp only [cd_8, sg_8_0, sg_8_19, sg_8_20, mmK_cut cd_8, q_cons, q_G0, q_GS, q_I1, q_L1, q_A1, q_S0, q_S1, q_SS, q_T0, q_T1, q_TS, q_Kn, q_Ki, q_Kl, q_Kr, q_k0, q_kS, q_rc, q_ps, q_pn, q_aload0, q_invV, q_istore1, q_getfieldA, q_ifnull, q_iload1, q_baload, q_if_eq, q_iaload, q_if_ne, q_iconst, q_goto, q_ireturn1, rf_0_0, rf_0_3, rf_6_15, mmKe_103, mmKe_715, mmKo_0, mmKo_6, mmLen_103, mmLen_715, mmR32, mmR64, Option.some.injEq, Int.cast_ofNat_Int, and_true, true_and, if_true, if_false, List.length_cons, List.length_nil, Nat.le_refl, Nat.zero_le, Nat.sub_zero, forall_const, reduceCtorEq, Nat.reduceAdd, Nat.reduceSub, Nat.reduceLeDiff, Nat.reduceEqDiff, Int.reduceAdd, Int.reduceNeg, Int.reduceSub, Int.reduceLT, Int.reduceLE, Int.reduceMul, Int.reduceEq, List.drop_zero, List.drop_succ_cons, ne_eq, not_false_eq_true, not_true_eq_false, false_and, and_false, false_implies, true_implies, reduceIte, mmU_rd, implies_true, or_false, false_or, or_true, true_or]
    refine mmC_step ?_
    simp only [cd_8, sg_8_0, sg_8_19, sg_8_20, mmK_cut cd_8, q_cons, q_G0, q_GS, q_I1, q_L1, q_A1, q_S0, q_S1, q_SS, q_T0, q_T1, q_TS, q_Kn, q_Ki, q_Kl, q_Kr, q_k0, q_kS, q_rc, q_ps, q_pn, q_aload0, q_invV, q_istore1, q_getfieldA, q_ifnull, q_iload1, q_baload, q_if_eq, q_iaload, q_if_ne, q_iconst, q_goto, q_ireturn1, rf_0_0, rf_0_3, rf_6_15, mmKe_103, mmKe_715, mmKo_0, mmKo_6, mmLen_103, mmLen_715, mmR32, mmR64, Option.some.injEq, Int.cast_ofNat_Int, and_true, true_and, if_true, if_false, List.length_cons, List.length_nil, Nat.le_refl, Nat.zero_le, Nat.sub_zero, forall_const, reduceCtorEq, Nat.reduceAdd, Nat.reduceSub, Nat.reduceLeDiff, Nat.reduceEqDiff, Int.reduceAdd, Int.reduceNeg, Int.reduceSub, Int.reduceLT, Int.reduceLE, Int.reduceMul, Int.reduceEq, List.drop_zero, List.drop_succ_cons, ne_eq, not_false_eq_true, not_true_eq_false, false_and, and_false, false_implies, true_implies, reduceIte, mmU_rd, implies_true, or_false, false_or, or_true, true_or]
    exact q_b0 hQ c
  refine mmC_in (by decide) (Nat.le_of_ble_eq_true rfl) (mmC_step ?_)
  simp only [show mmMl 8 = 2 from rfl, mmLs, List.replicate, cd_8, sg_8_0, sg_8_19, sg_8_20, mmK_cut cd_8, q_cons, q_G0, q_GS, q_I1, q_L1, q_A1, q_S0, q_S1, q_SS, q_T0, q_T1, q_TS, q_Kn, q_Ki, q_Kl, q_Kr, q_k0, q_kS, q_rc, q_ps, q_pn, q_aload0, q_invV, q_istore1, q_getfieldA, q_ifnull, q_iload1, q_baload, q_if_eq, q_iaload, q_if_ne, q_iconst, q_goto, q_ireturn1, rf_0_0, rf_0_3, rf_6_15, mmKe_103, mmKe_715, mmKo_0, mmKo_6, mmLen_103, mmLen_715, mmR32, mmR64, Option.some.injEq, Int.cast_ofNat_Int, and_true, true_and, if_true, if_false, List.length_cons, List.length_nil, Nat.le_refl, Nat.zero_le, Nat.sub_zero, forall_const, reduceCtorEq, Nat.reduceAdd, Nat.reduceSub, Nat.reduceLeDiff, Nat.reduceEqDiff, Int.reduceAdd, Int.reduceNeg, Int.reduceSub, Int.reduceLT, Int.reduceLE, Int.reduceMul, Int.reduceEq, List.drop_zero, List.drop_succ_cons, ne_eq, not_false_eq_true, not_true_eq_false, false_and, and_false, false_implies, true_implies, reduceIte, mmU_rd, implies_true, or_false, false_or, or_true, true_or]
  refine sp_toMove hV ?_
  simp only [mmK_cut cd_8, q_cons, q_G0, q_GS, q_I1, q_L1, q_A1, q_S0, q_S1, q_SS, q_T0, q_T1, q_TS, q_Kn, q_Ki, q_Kl, q_Kr, q_k0, q_kS, q_rc, q_ps, q_pn, q_aload0, q_invV, q_istore1, q_getfieldA, q_ifnull, q_iload1, q_baload, q_if_eq, q_iaload, q_if_ne, q_iconst, q_goto, q_ireturn1, rf_0_0, rf_0_3, rf_6_15, mmKe_103, mmKe_715, mmKo_0, mmKo_6, mmLen_103, mmLen_715, mmR32, mmR64, Option.some.injEq, Int.cast_ofNat_Int, and_true, true_and, if_true, if_false, List.length_cons, List.length_nil, Nat.le_refl, Nat.zero_le, Nat.sub_zero, forall_const, reduceCtorEq, Nat.reduceAdd, Nat.reduceSub, Nat.reduceLeDiff, Nat.reduceEqDiff, Int.reduceAdd, Int.reduceNeg, Int.reduceSub, Int.reduceLT, Int.reduceLE, Int.reduceMul, Int.reduceEq, List.drop_zero, List.drop_succ_cons, ne_eq, not_false_eq_true, not_true_eq_false, false_and, and_false, false_implies, true_implies, reduceIte, mmU_rd, implies_true, or_false, false_or, or_true, true_or, hb]
  rw [hC 715 _ (rt7 (by decide)), (hV.2.2 _ h2).2]
  refine ⟨h01.1, h01.2, fun c => w19 (fun q => q.1 c), fun c => ⟨h01.1, h01.2, fun c2 => w19 (fun q => c2 q.2), fun c2 => ?_⟩⟩
  refine mmC_step ?_
  simp only [cd_8, sg_8_0, sg_8_19, sg_8_20, mmK_cut cd_8, q_cons, q_G0, q_GS, q_I1, q_L1, q_A1, q_S0, q_S1, q_SS, q_T0, q_T1, q_TS, q_Kn, q_Ki, q_Kl, q_Kr, q_k0, q_kS, q_rc, q_ps, q_pn, q_aload0, q_invV, q_istore1, q_getfieldA, q_ifnull, q_iload1, q_baload, q_if_eq, q_iaload, q_if_ne, q_iconst, q_goto, q_ireturn1, rf_0_0, rf_0_3, rf_6_15, mmKe_103, mmKe_715, mmKo_0, mmKo_6, mmLen_103, mmLen_715, mmR32, mmR64, Option.some.injEq, Int.cast_ofNat_Int, and_true, true_and, if_true, if_false, List.length_cons, List.length_nil, Nat.le_refl, Nat.zero_le, Nat.sub_zero, forall_const, reduceCtorEq, Nat.reduceAdd, Nat.reduceSub, Nat.reduceLeDiff, Nat.reduceEqDiff, Int.reduceAdd, Int.reduceNeg, Int.reduceSub, Int.reduceLT, Int.reduceLE, Int.reduceMul, Int.reduceEq, List.drop_zero, List.drop_succ_cons, ne_eq, not_false_eq_true, not_true_eq_false, false_and, and_false, false_implies, true_implies, reduceIte, mmU_rd, implies_true, or_false, false_or, or_true, true_or]
  exact q_b1 hQ ⟨c, c2⟩
set_option maxHeartbeats 1000000 in
theorem c_hasLost (hb : br j = some (6, x)) (hC : CR I x r) (hq : RQ r) (hV : BV I j B m r) (hB : BW r B) (hm : 0 ≤ m ∧ m < 100) : mmC (d + 4) 9 [mo 0 j] (I, mmRf a br, X) (mT a br X fun v I' => v = some (mv (bI (lsP r B m))) ∧ FrA j 106 j I I') := by
  have hl : LTg 106 := Or.inl rfl
  have w0 := hq.1.1
  have w1 := hq.1.2.1
  have h25 := pt_in w0 w1 (x := 0) (y := 0) (by omega) (by omega)
  have hfull : mvL r B m 25 = [] ↔ ∀ f : Nat, (f : Int) < r 6 0 * r 6 1 → mvF r B m f [] = [] := by
    rw [mvL_nil w0 w1]
    constructor
    · intro h f hf; exact h f (by omega)
    · intro h f hf
      by_cases c : (f : Int) < r 6 0 * r 6 1
      · exact h f c
      · exact mvF_out (by omega)
  refine mmC_in (by decide) (Nat.le_of_ble_eq_true rfl) (mmC_step ?_)
  simp only [show mmMl 9 = 2 from rfl, mmLs, List.replicate, cd_9, sg_9_0, sg_9_6, sg_9_8, sg_9_10, sg_9_24, sg_9_26, mmK_cut cd_9, q_cons, q_G0, q_GS, q_I1, q_L1, q_A1, q_S0, q_S1, q_SS, q_T0, q_T1, q_TS, q_Kn, q_Ki, q_Kl, q_Kr, q_k0, q_kS, q_rc, q_ps, q_pn, q_aload0, q_getfieldA, q_ifnull, q_invV, q_if_eq, q_iconst, q_ireturn1, q_istore1, q_iload1, q_icmp_ge, q_if_le, q_iinc, q_goto, rf_0_0, rf_0_6, mmKe_106, mmKo_0, mmKo_6, mmLen_106, mmR32, mmR64, Option.some.injEq, Int.cast_ofNat_Int, and_true, true_and, if_true, if_false, List.length_cons, List.length_nil, Nat.le_refl, Nat.zero_le, Nat.sub_zero, forall_const, reduceCtorEq, Nat.reduceAdd, Nat.reduceSub, Nat.reduceLeDiff, Nat.reduceEqDiff, Int.reduceAdd, Int.reduceNeg, Int.reduceSub, Int.reduceLT, Int.reduceLE, Int.reduceMul, Int.reduceEq, List.drop_zero, List.drop_succ_cons, ne_eq, not_false_eq_true, not_true_eq_false, false_and, and_false, false_implies, true_implies, reduceIte, mmU_rd, implies_true, or_false, false_or, or_true, true_or, hb]
  refine sp_lacksKing hb hC hV ?_
  simp only [mmK_cut cd_9, q_cons, q_G0, q_GS, q_I1, q_L1, q_A1, q_S0, q_S1, q_SS, q_T0, q_T1, q_TS, q_Kn, q_Ki, q_Kl, q_Kr, q_k0, q_kS, q_rc, q_ps, q_pn, q_aload0, q_getfieldA, q_ifnull, q_invV, q_if_eq, q_iconst, q_ireturn1, q_istore1, q_iload1, q_icmp_ge, q_if_le, q_iinc, q_goto, rf_0_0, rf_0_6, mmKe_106, mmKo_0, mmKo_6, mmLen_106, mmR32, mmR64, Option.some.injEq, Int.cast_ofNat_Int, and_true, true_and, if_true, if_false, List.length_cons, List.length_nil, Nat.le_refl, Nat.zero_le, Nat.sub_zero, forall_const, reduceCtorEq, Nat.reduceAdd, Nat.reduceSub, Nat.reduceLeDiff, Nat.reduceEqDiff, Int.reduceAdd, Int.reduceNeg, Int.reduceSub, Int.reduceLT, Int.reduceLE, Int.reduceMul, Int.reduceEq, List.drop_zero, List.drop_succ_cons, ne_eq, not_false_eq_true, not_true_eq_false, false_and, and_false, false_implies, true_implies, reduceIte, mmU_rd, implies_true, or_false, false_or, or_true, true_or, bI_eq0]
  refine ⟨fun c => ?_, fun c => ?_⟩
  · have key : ∀ (q n : Nat) (I1 : mMm), (n : Int) + q = r 6 0 * r 6 1 → FrA j 106 j I I1 → (∀ f : Nat, f < n → mvF r B m f [] = []) → mmK (d + 3) 9 (mT a br X fun v I' => v = some (mv (bI (lsP r B m))) ∧ FrA j 106 j I I') 10 [some (mo 0 j), some (mv n)] [] (I1, mmRf a br, X) := by
      intro q
      induction q with
      | zero =>
        intro n I1 hn fr1 hz
        have hC1 := CR_A hl hC fr1
        refine mmC_step ?_
        simp only [cd_9, sg_9_0, sg_9_6, sg_9_8, sg_9_10, sg_9_24, sg_9_26, mmK_cut cd_9, q_cons, q_G0, q_GS, q_I1, q_L1, q_A1, q_S0, q_S1, q_SS, q_T0, q_T1, q_TS, q_Kn, q_Ki, q_Kl, q_Kr, q_k0, q_kS, q_rc, q_ps, q_pn, q_aload0, q_getfieldA, q_ifnull, q_invV, q_if_eq, q_iconst, q_ireturn1, q_istore1, q_iload1, q_icmp_ge, q_if_le, q_iinc, q_goto, rf_0_0, rf_0_6, mmKe_106, mmKo_0, mmKo_6, mmLen_106, mmR32, mmR64, Option.some.injEq, Int.cast_ofNat_Int, and_true, true_and, if_true, if_false, List.length_cons, List.length_nil, Nat.le_refl, Nat.zero_le, Nat.sub_zero, forall_const, reduceCtorEq, Nat.reduceAdd, Nat.reduceSub, Nat.reduceLeDiff, Nat.reduceEqDiff, Int.reduceAdd, Int.reduceNeg, Int.reduceSub, Int.reduceLT, Int.reduceLE, Int.reduceMul, Int.reduceEq, List.drop_zero, List.drop_succ_cons, ne_eq, not_false_eq_true, not_true_eq_false, false_and, and_false, false_implies, true_implies, reduceIte, mmU_rd, implies_true, or_false, false_or, or_true, true_or, hb]
        refine sp_points hC1 hq.1 ?_
        simp only [mmK_cut cd_9, q_cons, q_G0, q_GS, q_I1, q_L1, q_A1, q_S0, q_S1, q_SS, q_T0, q_T1, q_TS, q_Kn, q_Ki, q_Kl, q_Kr, q_k0, q_kS, q_rc, q_ps, q_pn, q_aload0, q_getfieldA, q_ifnull, q_invV, q_if_eq, q_iconst, q_ireturn1, q_istore1, q_iload1, q_icmp_ge, q_if_le, q_iinc, q_goto, rf_0_0, rf_0_6, mmKe_106, mmKo_0, mmKo_6, mmLen_106, mmR32, mmR64, Option.some.injEq, Int.cast_ofNat_Int, and_true, true_and, if_true, if_false, List.length_cons, List.length_nil, Nat.le_refl, Nat.zero_le, Nat.sub_zero, forall_const, reduceCtorEq, Nat.reduceAdd, Nat.reduceSub, Nat.reduceLeDiff, Nat.reduceEqDiff, Int.reduceAdd, Int.reduceNeg, Int.reduceSub, Int.reduceLT, Int.reduceLE, Int.reduceMul, Int.reduceEq, List.drop_zero, List.drop_succ_cons, ne_eq, not_false_eq_true, not_true_eq_false, false_and, and_false, false_implies, true_implies, reduceIte, mmU_rd, implies_true, or_false, false_or, or_true, true_or]
        refine ⟨fun _ => ?_, fun c => by omega⟩
        refine mmC_step ?_
        simp only [cd_9, sg_9_0, sg_9_6, sg_9_8, sg_9_10, sg_9_24, sg_9_26, mmK_cut cd_9, q_cons, q_G0, q_GS, q_I1, q_L1, q_A1, q_S0, q_S1, q_SS, q_T0, q_T1, q_TS, q_Kn, q_Ki, q_Kl, q_Kr, q_k0, q_kS, q_rc, q_ps, q_pn, q_aload0, q_getfieldA, q_ifnull, q_invV, q_if_eq, q_iconst, q_ireturn1, q_istore1, q_iload1, q_icmp_ge, q_if_le, q_iinc, q_goto, rf_0_0, rf_0_6, mmKe_106, mmKo_0, mmKo_6, mmLen_106, mmR32, mmR64, Option.some.injEq, Int.cast_ofNat_Int, and_true, true_and, if_true, if_false, List.length_cons, List.length_nil, Nat.le_refl, Nat.zero_le, Nat.sub_zero, forall_const, reduceCtorEq, Nat.reduceAdd, Nat.reduceSub, Nat.reduceLeDiff, Nat.reduceEqDiff, Int.reduceAdd, Int.reduceNeg, Int.reduceSub, Int.reduceLT, Int.reduceLE, Int.reduceMul, Int.reduceEq, List.drop_zero, List.drop_succ_cons, ne_eq, not_false_eq_true, not_true_eq_false, false_and, and_false, false_implies, true_implies, reduceIte, mmU_rd, implies_true, or_false, false_or, or_true, true_or]
        refine mT_in ⟨?_, fr1⟩
        rw [bI_pos (show lsP r B m from Or.inr (hfull.mpr (fun f hf => hz f (by omega))))]
      | succ q ih =>
        intro n I1 hn fr1 hz
        have hC1 := CR_A hl hC fr1
        have hV1 := BV_A hl hV fr1
        refine mmC_step ?_
        simp only [cd_9, sg_9_0, sg_9_6, sg_9_8, sg_9_10, sg_9_24, sg_9_26, mmK_cut cd_9, q_cons, q_G0, q_GS, q_I1, q_L1, q_A1, q_S0, q_S1, q_SS, q_T0, q_T1, q_TS, q_Kn, q_Ki, q_Kl, q_Kr, q_k0, q_kS, q_rc, q_ps, q_pn, q_aload0, q_getfieldA, q_ifnull, q_invV, q_if_eq, q_iconst, q_ireturn1, q_istore1, q_iload1, q_icmp_ge, q_if_le, q_iinc, q_goto, rf_0_0, rf_0_6, mmKe_106, mmKo_0, mmKo_6, mmLen_106, mmR32, mmR64, Option.some.injEq, Int.cast_ofNat_Int, and_true, true_and, if_true, if_false, List.length_cons, List.length_nil, Nat.le_refl, Nat.zero_le, Nat.sub_zero, forall_const, reduceCtorEq, Nat.reduceAdd, Nat.reduceSub, Nat.reduceLeDiff, Nat.reduceEqDiff, Int.reduceAdd, Int.reduceNeg, Int.reduceSub, Int.reduceLT, Int.reduceLE, Int.reduceMul, Int.reduceEq, List.drop_zero, List.drop_succ_cons, ne_eq, not_false_eq_true, not_true_eq_false, false_and, and_false, false_implies, true_implies, reduceIte, mmU_rd, implies_true, or_false, false_or, or_true, true_or, hb]
        refine sp_points hC1 hq.1 ?_
        simp only [mmK_cut cd_9, q_cons, q_G0, q_GS, q_I1, q_L1, q_A1, q_S0, q_S1, q_SS, q_T0, q_T1, q_TS, q_Kn, q_Ki, q_Kl, q_Kr, q_k0, q_kS, q_rc, q_ps, q_pn, q_aload0, q_getfieldA, q_ifnull, q_invV, q_if_eq, q_iconst, q_ireturn1, q_istore1, q_iload1, q_icmp_ge, q_if_le, q_iinc, q_goto, rf_0_0, rf_0_6, mmKe_106, mmKo_0, mmKo_6, mmLen_106, mmR32, mmR64, Option.some.injEq, Int.cast_ofNat_Int, and_true, true_and, if_true, if_false, List.length_cons, List.length_nil, Nat.le_refl, Nat.zero_le, Nat.sub_zero, forall_const, reduceCtorEq, Nat.reduceAdd, Nat.reduceSub, Nat.reduceLeDiff, Nat.reduceEqDiff, Int.reduceAdd, Int.reduceNeg, Int.reduceSub, Int.reduceLT, Int.reduceLE, Int.reduceMul, Int.reduceEq, List.drop_zero, List.drop_succ_cons, ne_eq, not_false_eq_true, not_true_eq_false, false_and, and_false, false_implies, true_implies, reduceIte, mmU_rd, implies_true, or_false, false_or, or_true, true_or]
        refine ⟨fun c => by omega, fun _ => ?_⟩
        have hlen := (mvF_in w0 w1 (B := B) (m := m) (fr := n) (L := [])).2
        refine mT_use (c_from (L0 := []) (fr := n) hb hC1 hq hV1 hB hm hl (fun k hk => by rw [List.length_nil] at hk; omega) (fun to _ _ => List.not_mem_nil) (by rw [show mmLen 106 = 25 from rfl]; rw [List.length_nil] at hlen; split at hlen <;> omega)) (fun v I2 q2 => ?_)
        obtain ⟨rfl, f2, l2⟩ := q2
        simp only [mmK_cut cd_9, q_cons, q_G0, q_GS, q_I1, q_L1, q_A1, q_S0, q_S1, q_SS, q_T0, q_T1, q_TS, q_Kn, q_Ki, q_Kl, q_Kr, q_k0, q_kS, q_rc, q_ps, q_pn, q_aload0, q_getfieldA, q_ifnull, q_invV, q_if_eq, q_iconst, q_ireturn1, q_istore1, q_iload1, q_icmp_ge, q_if_le, q_iinc, q_goto, rf_0_0, rf_0_6, mmKe_106, mmKo_0, mmKo_6, mmLen_106, mmR32, mmR64, Option.some.injEq, Int.cast_ofNat_Int, and_true, true_and, if_true, if_false, List.length_cons, List.length_nil, Nat.le_refl, Nat.zero_le, Nat.sub_zero, forall_const, reduceCtorEq, Nat.reduceAdd, Nat.reduceSub, Nat.reduceLeDiff, Nat.reduceEqDiff, Int.reduceAdd, Int.reduceNeg, Int.reduceSub, Int.reduceLT, Int.reduceLE, Int.reduceMul, Int.reduceEq, List.drop_zero, List.drop_succ_cons, ne_eq, not_false_eq_true, not_true_eq_false, false_and, and_false, false_implies, true_implies, reduceIte, mmU_rd, implies_true, or_false, false_or, or_true, true_or]
        refine ⟨fun c2 => ?_, fun c2 => ?_⟩
        · refine mmC_step ?_
          simp only [cd_9, sg_9_0, sg_9_6, sg_9_8, sg_9_10, sg_9_24, sg_9_26, mmK_cut cd_9, q_cons, q_G0, q_GS, q_I1, q_L1, q_A1, q_S0, q_S1, q_SS, q_T0, q_T1, q_TS, q_Kn, q_Ki, q_Kl, q_Kr, q_k0, q_kS, q_rc, q_ps, q_pn, q_aload0, q_getfieldA, q_ifnull, q_invV, q_if_eq, q_iconst, q_ireturn1, q_istore1, q_iload1, q_icmp_ge, q_if_le, q_iinc, q_goto, rf_0_0, rf_0_6, mmKe_106, mmKo_0, mmKo_6, mmLen_106, mmR32, mmR64, Option.some.injEq, Int.cast_ofNat_Int, and_true, true_and, if_true, if_false, List.length_cons, List.length_nil, Nat.le_refl, Nat.zero_le, Nat.sub_zero, forall_const, reduceCtorEq, Nat.reduceAdd, Nat.reduceSub, Nat.reduceLeDiff, Nat.reduceEqDiff, Int.reduceAdd, Int.reduceNeg, Int.reduceSub, Int.reduceLT, Int.reduceLE, Int.reduceMul, Int.reduceEq, List.drop_zero, List.drop_succ_cons, ne_eq, not_false_eq_true, not_true_eq_false, false_and, and_false, false_implies, true_implies, reduceIte, mmU_rd, implies_true, or_false, false_or, or_true, true_or]
          refine ⟨by omega, ih (n + 1) I2 (by omega) (FrA_trans fr1 f2) (fun f hf => ?_)⟩
          by_cases c3 : f = n
          · subst c3
            exact List.eq_nil_of_length_eq_zero (by omega)
          · exact hz f (by omega)
        · refine mT_in ⟨?_, FrA_trans fr1 f2⟩
          rw [bI_neg]
          rintro (q3 | q3)
          · exact c q3
          · have := hfull.mp q3 n (by omega)
            rw [this, List.length_nil] at c2
            omega
    refine mmC_step ?_
    simp only [cd_9, sg_9_0, sg_9_6, sg_9_8, sg_9_10, sg_9_24, sg_9_26, mmK_cut cd_9, q_cons, q_G0, q_GS, q_I1, q_L1, q_A1, q_S0, q_S1, q_SS, q_T0, q_T1, q_TS, q_Kn, q_Ki, q_Kl, q_Kr, q_k0, q_kS, q_rc, q_ps, q_pn, q_aload0, q_getfieldA, q_ifnull, q_invV, q_if_eq, q_iconst, q_ireturn1, q_istore1, q_iload1, q_icmp_ge, q_if_le, q_iinc, q_goto, rf_0_0, rf_0_6, mmKe_106, mmKo_0, mmKo_6, mmLen_106, mmR32, mmR64, Option.some.injEq, Int.cast_ofNat_Int, and_true, true_and, if_true, if_false, List.length_cons, List.length_nil, Nat.le_refl, Nat.zero_le, Nat.sub_zero, forall_const, reduceCtorEq, Nat.reduceAdd, Nat.reduceSub, Nat.reduceLeDiff, Nat.reduceEqDiff, Int.reduceAdd, Int.reduceNeg, Int.reduceSub, Int.reduceLT, Int.reduceLE, Int.reduceMul, Int.reduceEq, List.drop_zero, List.drop_succ_cons, ne_eq, not_false_eq_true, not_true_eq_false, false_and, and_false, false_implies, true_implies, reduceIte, mmU_rd, implies_true, or_false, false_or, or_true, true_or]
    exact key (r 6 0 * r 6 1).toNat 0 I (by have : 0 ≤ r 6 0 * r 6 1 := Int.mul_nonneg (by omega) (by omega); omega) FrA_refl (fun f hf => by omega)
  · refine mmC_step ?_
    simp only [cd_9, sg_9_0, sg_9_6, sg_9_8, sg_9_10, sg_9_24, sg_9_26, mmK_cut cd_9, q_cons, q_G0, q_GS, q_I1, q_L1, q_A1, q_S0, q_S1, q_SS, q_T0, q_T1, q_TS, q_Kn, q_Ki, q_Kl, q_Kr, q_k0, q_kS, q_rc, q_ps, q_pn, q_aload0, q_getfieldA, q_ifnull, q_invV, q_if_eq, q_iconst, q_ireturn1, q_istore1, q_iload1, q_icmp_ge, q_if_le, q_iinc, q_goto, rf_0_0, rf_0_6, mmKe_106, mmKo_0, mmKo_6, mmLen_106, mmR32, mmR64, Option.some.injEq, Int.cast_ofNat_Int, and_true, true_and, if_true, if_false, List.length_cons, List.length_nil, Nat.le_refl, Nat.zero_le, Nat.sub_zero, forall_const, reduceCtorEq, Nat.reduceAdd, Nat.reduceSub, Nat.reduceLeDiff, Nat.reduceEqDiff, Int.reduceAdd, Int.reduceNeg, Int.reduceSub, Int.reduceLT, Int.reduceLE, Int.reduceMul, Int.reduceEq, List.drop_zero, List.drop_succ_cons, ne_eq, not_false_eq_true, not_true_eq_false, false_and, and_false, false_implies, true_implies, reduceIte, mmU_rd, implies_true, or_false, false_or, or_true, true_or]
    refine mT_in ⟨?_, FrA_refl⟩
    rw [bI_pos (show lsP r B m from Or.inl (Classical.not_not.mp c))]
theorem mvL_cap (hq : RQ r) (hB : BW r B) {n : Nat} (hn : n ≤ 25) : ((mvL r B m n).length : Int) ≤ 200 := by
  have h1 := mvL_in hq.1.1 hq.1.2.1 (B := B) (m := m) n
  have mono : ∀ w (q n : Nat), cS B w n ≤ cS B w (n + q) := by
    intro w q n
    induction q with
    | zero => exact Int.le_refl _
    | succ q ih =>
      rw [← Nat.add_assoc]
      show cS B w n ≤ cS B w (n + q) + (if B ((n + q : Nat) : Int) / 4 = w then 1 else 0)
      split <;> omega
  have h2 := mono (m % 2) (25 - n) n
  rw [show n + (25 - n) = 25 by omega] at h2
  have h3 := hB.2
  have h4 := cS_in (B := B) (w := 0) 25
  have h5 := cS_in (B := B) (w := 1) 25
  have h6 : m % 2 = 0 ∨ m % 2 = 1 := by omega
  rcases h6 with q | q <;> rw [q] at h1 h2 <;> omega
set_option maxHeartbeats 1000000 in
theorem c_listMoves (hb : br j = some (6, x)) (hC : CR I x r) (hq : RQ r) (hV : BV I j B m r) (hB : BW r B) (hm : 0 ≤ m ∧ m < 100) (hl : LTg tl) (hl2 : mmLen tl = 200) : mmC (d + 4) 11 [mo 0 j, mo tl il] (I, mmRf a br, X) (mT a br X fun v I' => v = some (mv (mvL r B m 25).length) ∧ FrA j tl il I I' ∧ LA (I' tl il) (mvL r B m 25)) := by
  have w0 := hq.1.1
  have w1 := hq.1.2.1
  have key : ∀ (q n : Nat) (I1 : mMm), n + q = 25 → FrA j tl il I I1 → LA (I1 tl il) (mvL r B m n) → mmK (d + 3) 11 (mT a br X fun v I' => v = some (mv (mvL r B m 25).length) ∧ FrA j tl il I I' ∧ LA (I' tl il) (mvL r B m 25)) 4 [some (mo 0 j), some (mo tl il), some (mv (mvL r B m n).length), some (mv n)] [] (I1, mmRf a br, X) := by
    intro q
    induction q with
    | zero =>
      intro n I1 hn fr1 la
      have e : n = 25 := by omega
      subst e
      refine mmC_step ?_
      simp only [cd_11, sg_11_0, sg_11_4, sg_11_15, mmK_cut cd_11, q_cons, q_G0, q_GS, q_I1, q_L1, q_A1, q_S0, q_S1, q_SS, q_T0, q_T1, q_TS, q_Kn, q_Ki, q_Kl, q_Kr, q_k0, q_kS, q_rc, q_ps, q_pn, q_iconst, q_istore2, q_istore3, q_iload3, q_bipush, q_icmp_ge, q_aload0, q_aload1, q_iload2, q_invV, q_iinc, q_goto, q_ireturn0, mmKo_0, mmR32, mmR64, Option.some.injEq, Int.cast_ofNat_Int, and_true, true_and, if_true, if_false, List.length_cons, List.length_nil, Nat.le_refl, Nat.zero_le, Nat.sub_zero, forall_const, reduceCtorEq, Nat.reduceAdd, Nat.reduceSub, Nat.reduceLeDiff, Nat.reduceEqDiff, Int.reduceAdd, Int.reduceNeg, Int.reduceSub, Int.reduceLT, Int.reduceLE, Int.reduceMul, Int.reduceEq, List.drop_zero, List.drop_succ_cons, ne_eq, not_false_eq_true, not_true_eq_false, false_and, and_false, false_implies, true_implies, reduceIte, mmU_rd, implies_true, or_false, false_or, or_true, true_or]
      refine mmC_step ?_
      simp only [cd_11, sg_11_0, sg_11_4, sg_11_15, mmK_cut cd_11, q_cons, q_G0, q_GS, q_I1, q_L1, q_A1, q_S0, q_S1, q_SS, q_T0, q_T1, q_TS, q_Kn, q_Ki, q_Kl, q_Kr, q_k0, q_kS, q_rc, q_ps, q_pn, q_iconst, q_istore2, q_istore3, q_iload3, q_bipush, q_icmp_ge, q_aload0, q_aload1, q_iload2, q_invV, q_iinc, q_goto, q_ireturn0, mmKo_0, mmR32, mmR64, Option.some.injEq, Int.cast_ofNat_Int, and_true, true_and, if_true, if_false, List.length_cons, List.length_nil, Nat.le_refl, Nat.zero_le, Nat.sub_zero, forall_const, reduceCtorEq, Nat.reduceAdd, Nat.reduceSub, Nat.reduceLeDiff, Nat.reduceEqDiff, Int.reduceAdd, Int.reduceNeg, Int.reduceSub, Int.reduceLT, Int.reduceLE, Int.reduceMul, Int.reduceEq, List.drop_zero, List.drop_succ_cons, ne_eq, not_false_eq_true, not_true_eq_false, false_and, and_false, false_implies, true_implies, reduceIte, mmU_rd, implies_true, or_false, false_or, or_true, true_or]
      exact mT_in ⟨rfl, fr1, la⟩
    | succ q ih =>
      intro n I1 hn fr1 la
      have hC1 := CR_A hl hC fr1
      have hV1 := BV_A hl hV fr1
      have hcap := mvL_cap (m := m) hq hB (n := n + 1) (by omega)
      refine mmC_step ?_
      simp only [cd_11, sg_11_0, sg_11_4, sg_11_15, mmK_cut cd_11, q_cons, q_G0, q_GS, q_I1, q_L1, q_A1, q_S0, q_S1, q_SS, q_T0, q_T1, q_TS, q_Kn, q_Ki, q_Kl, q_Kr, q_k0, q_kS, q_rc, q_ps, q_pn, q_iconst, q_istore2, q_istore3, q_iload3, q_bipush, q_icmp_ge, q_aload0, q_aload1, q_iload2, q_iinc, q_goto, q_ireturn0, mmKo_0, mmR32, mmR64, Option.some.injEq, Int.cast_ofNat_Int, and_true, true_and, if_true, if_false, List.length_cons, List.length_nil, Nat.le_refl, Nat.zero_le, Nat.sub_zero, forall_const, reduceCtorEq, Nat.reduceAdd, Nat.reduceSub, Nat.reduceLeDiff, Nat.reduceEqDiff, Int.reduceAdd, Int.reduceNeg, Int.reduceSub, Int.reduceLT, Int.reduceLE, Int.reduceMul, Int.reduceEq, List.drop_zero, List.drop_succ_cons, ne_eq, not_false_eq_true, not_true_eq_false, false_and, and_false, false_implies, true_implies, reduceIte, mmU_rd, implies_true, or_false, false_or, or_true, true_or]
      refine ⟨fun c => by omega, fun _ => ?_⟩
      rw [q_invV (pay := [])]
      simp only [q_k0, q_kS, q_rc, mmKo_0]
      refine ⟨by decide, by trivial, Nat.zero_le _, Nat.zero_le _, ?_⟩
      refine mT_use (c_from (L0 := mvL r B m n) (fr := n) hb hC1 hq hV1 hB hm hl la (fun to t0 t1 h => ?_) (by rw [hl2]; exact hcap)) (fun v I2 q2 => ?_)
      · obtain ⟨f, t, h1, h2, h3, h4, h5⟩ := mvL_mem w0 w1 n h
        omega
      · obtain ⟨rfl, f2, l2⟩ := q2
        simp only [mmK_cut cd_11, q_cons, q_G0, q_GS, q_I1, q_L1, q_A1, q_S0, q_S1, q_SS, q_T0, q_T1, q_TS, q_Kn, q_Ki, q_Kl, q_Kr, q_k0, q_kS, q_rc, q_ps, q_pn, q_iconst, q_istore2, q_istore3, q_iload3, q_bipush, q_icmp_ge, q_aload0, q_aload1, q_iload2, q_invV, q_iinc, q_goto, q_ireturn0, mmKo_0, mmR32, mmR64, Option.some.injEq, Int.cast_ofNat_Int, and_true, true_and, if_true, if_false, List.length_cons, List.length_nil, Nat.le_refl, Nat.zero_le, Nat.sub_zero, forall_const, reduceCtorEq, Nat.reduceAdd, Nat.reduceSub, Nat.reduceLeDiff, Nat.reduceEqDiff, Int.reduceAdd, Int.reduceNeg, Int.reduceSub, Int.reduceLT, Int.reduceLE, Int.reduceMul, Int.reduceEq, List.drop_zero, List.drop_succ_cons, ne_eq, not_false_eq_true, not_true_eq_false, false_and, and_false, false_implies, true_implies, reduceIte, mmU_rd, implies_true, or_false, false_or, or_true, true_or]
        exact ⟨by omega, ih (n + 1) I2 (by omega) (FrA_trans fr1 f2) l2⟩
  refine mmC_in (by decide) (Nat.le_of_ble_eq_true rfl) (mmC_step ?_)
  simp only [show mmMl 11 = 4 from rfl, mmLs, List.replicate, cd_11, sg_11_0, sg_11_4, sg_11_15, mmK_cut cd_11, q_cons, q_G0, q_GS, q_I1, q_L1, q_A1, q_S0, q_S1, q_SS, q_T0, q_T1, q_TS, q_Kn, q_Ki, q_Kl, q_Kr, q_k0, q_kS, q_rc, q_ps, q_pn, q_iconst, q_istore2, q_istore3, q_iload3, q_bipush, q_icmp_ge, q_aload0, q_aload1, q_iload2, q_invV, q_iinc, q_goto, q_ireturn0, mmKo_0, mmR32, mmR64, Option.some.injEq, Int.cast_ofNat_Int, and_true, true_and, if_true, if_false, List.length_cons, List.length_nil, Nat.le_refl, Nat.zero_le, Nat.sub_zero, forall_const, reduceCtorEq, Nat.reduceAdd, Nat.reduceSub, Nat.reduceLeDiff, Nat.reduceEqDiff, Int.reduceAdd, Int.reduceNeg, Int.reduceSub, Int.reduceLT, Int.reduceLE, Int.reduceMul, Int.reduceEq, List.drop_zero, List.drop_succ_cons, ne_eq, not_false_eq_true, not_true_eq_false, false_and, and_false, false_implies, true_implies, reduceIte, mmU_rd, implies_true, or_false, false_or, or_true, true_or]
  exact key 25 0 I (by omega) FrA_refl (fun k hk => by cases hk)
/-- a move is lawful -/
def lfP (r : mRu) (B : mBd) (m mv' : Int) : Prop := mv' ∈ mvF r B m (mv' / 64) []
set_option maxHeartbeats 1000000 in
theorem c_isLawful {v : Int} (hb : br j = some (6, x)) (hC : CR I x r) (hq : RQ r) (hV : BV I j B m r) (hB : BW r B) (hm : 0 ≤ m ∧ m < 100) (hv : mmR32 v) : mmC (d + 4) 10 [mo 0 j, mv v] (I, mmRf a br, X) (mT a br X fun u I' => u = some (mv (bI (lfP r B m v))) ∧ FrA j 106 j I I') := by
  have hl : LTg 106 := Or.inl rfl
  have w0 := hq.1.1
  have w1 := hq.1.2.1
  have hlen := (mvF_in w0 w1 (B := B) (m := m) (fr := v / 64) (L := [])).2
  have hlen' : ((mvF r B m (v / 64) []).length : Int) ≤ 25 := by
    rw [List.length_nil] at hlen
    split at hlen <;> omega
  refine mmC_in (by decide) (Nat.le_of_ble_eq_true rfl) (mmC_step ?_)
  simp only [show mmMl 10 = 4 from rfl, mmLs, List.replicate, cd_10, sg_10_0, sg_10_11, sg_10_22, sg_10_24, mmK_cut cd_10, q_cons, q_G0, q_GS, q_I1, q_L1, q_A1, q_S0, q_S1, q_SS, q_T0, q_T1, q_TS, q_Kn, q_Ki, q_Kl, q_Kr, q_k0, q_kS, q_rc, q_ps, q_pn, q_aload0, q_iload1, q_bipush, q_ishr, q_getfieldA, q_iconst, q_invV, q_istore2, q_istore3, q_iload3, q_iload2, q_icmp_ge, q_iaload, q_icmp_ne, q_ireturn1, q_iinc, q_goto, rf_0_6, mmKe_106, mmKo_0, mmLen_106, mmR32, mmR64, Option.some.injEq, Int.cast_ofNat_Int, and_true, true_and, if_true, if_false, List.length_cons, List.length_nil, Nat.le_refl, Nat.zero_le, Nat.sub_zero, forall_const, reduceCtorEq, Nat.reduceAdd, Nat.reduceSub, Nat.reduceLeDiff, Nat.reduceEqDiff, Int.reduceAdd, Int.reduceNeg, Int.reduceSub, Int.reduceLT, Int.reduceLE, Int.reduceMul, Int.reduceEq, List.drop_zero, List.drop_succ_cons, ne_eq, not_false_eq_true, not_true_eq_false, false_and, and_false, false_implies, true_implies, reduceIte, mmU_rd, implies_true, or_false, false_or, or_true, true_or]
  rw [mmShr_6 hv]
  refine mT_use (c_from (L0 := []) (fr := v / 64) hb hC hq hV hB hm hl (fun k hk => by rw [List.length_nil] at hk; omega) (fun to _ _ => List.not_mem_nil) (by rw [show mmLen 106 = 25 from rfl]; exact hlen')) (fun u I2 q2 => ?_)
  obtain ⟨rfl, f2, l2⟩ := q2
  simp only [mmK_cut cd_10, q_cons, q_G0, q_GS, q_I1, q_L1, q_A1, q_S0, q_S1, q_SS, q_T0, q_T1, q_TS, q_Kn, q_Ki, q_Kl, q_Kr, q_k0, q_kS, q_rc, q_ps, q_pn, q_aload0, q_iload1, q_bipush, q_ishr, q_getfieldA, q_iconst, q_invV, q_istore2, q_istore3, q_iload3, q_iload2, q_icmp_ge, q_iaload, q_icmp_ne, q_ireturn1, q_iinc, q_goto, rf_0_6, mmKe_106, mmKo_0, mmLen_106, mmR32, mmR64, Option.some.injEq, Int.cast_ofNat_Int, and_true, true_and, if_true, if_false, List.length_cons, List.length_nil, Nat.le_refl, Nat.zero_le, Nat.sub_zero, forall_const, reduceCtorEq, Nat.reduceAdd, Nat.reduceSub, Nat.reduceLeDiff, Nat.reduceEqDiff, Int.reduceAdd, Int.reduceNeg, Int.reduceSub, Int.reduceLT, Int.reduceLE, Int.reduceMul, Int.reduceEq, List.drop_zero, List.drop_succ_cons, ne_eq, not_false_eq_true, not_true_eq_false, false_and, and_false, false_implies, true_implies, reduceIte, mmU_rd, implies_true, or_false, false_or, or_true, true_or]
  unfold lfP
  generalize mvF r B m (v / 64) [] = L at *
  have key : ∀ (q n : Nat), n + q = L.length → (∀ k : Nat, k < n → ¬ L.getD k 0 = v) → mmK (d + 3) 10 (mT a br X fun u I' => u = some (mv (bI (v ∈ L))) ∧ FrA j 106 j I I') 11 [some (mo 0 j), some (mv v), some (mv L.length), some (mv n)] [] (I2, mmRf a br, X) := by
    intro q
    induction q with
    | zero =>
      intro n hn hz
      refine mmC_step ?_
      simp only [cd_10, sg_10_0, sg_10_11, sg_10_22, sg_10_24, mmK_cut cd_10, q_cons, q_G0, q_GS, q_I1, q_L1, q_A1, q_S0, q_S1, q_SS, q_T0, q_T1, q_TS, q_Kn, q_Ki, q_Kl, q_Kr, q_k0, q_kS, q_rc, q_ps, q_pn, q_aload0, q_iload1, q_bipush, q_ishr, q_getfieldA, q_iconst, q_invV, q_istore2, q_istore3, q_iload3, q_iload2, q_icmp_ge, q_iaload, q_icmp_ne, q_ireturn1, q_iinc, q_goto, rf_0_6, mmKe_106, mmKo_0, mmLen_106, mmR32, mmR64, Option.some.injEq, Int.cast_ofNat_Int, and_true, true_and, if_true, if_false, List.length_cons, List.length_nil, Nat.le_refl, Nat.zero_le, Nat.sub_zero, forall_const, reduceCtorEq, Nat.reduceAdd, Nat.reduceSub, Nat.reduceLeDiff, Nat.reduceEqDiff, Int.reduceAdd, Int.reduceNeg, Int.reduceSub, Int.reduceLT, Int.reduceLE, Int.reduceMul, Int.reduceEq, List.drop_zero, List.drop_succ_cons, ne_eq, not_false_eq_true, not_true_eq_false, false_and, and_false, false_implies, true_implies, reduceIte, mmU_rd, implies_true, or_false, false_or, or_true, true_or]
      refine ⟨fun _ => ?_, fun c => by omega⟩
      refine mmC_step ?_
      simp only [cd_10, sg_10_0, sg_10_11, sg_10_22, sg_10_24, mmK_cut cd_10, q_cons, q_G0, q_GS, q_I1, q_L1, q_A1, q_S0, q_S1, q_SS, q_T0, q_T1, q_TS, q_Kn, q_Ki, q_Kl, q_Kr, q_k0, q_kS, q_rc, q_ps, q_pn, q_aload0, q_iload1, q_bipush, q_ishr, q_getfieldA, q_iconst, q_invV, q_istore2, q_istore3, q_iload3, q_iload2, q_icmp_ge, q_iaload, q_icmp_ne, q_ireturn1, q_iinc, q_goto, rf_0_6, mmKe_106, mmKo_0, mmLen_106, mmR32, mmR64, Option.some.injEq, Int.cast_ofNat_Int, and_true, true_and, if_true, if_false, List.length_cons, List.length_nil, Nat.le_refl, Nat.zero_le, Nat.sub_zero, forall_const, reduceCtorEq, Nat.reduceAdd, Nat.reduceSub, Nat.reduceLeDiff, Nat.reduceEqDiff, Int.reduceAdd, Int.reduceNeg, Int.reduceSub, Int.reduceLT, Int.reduceLE, Int.reduceMul, Int.reduceEq, List.drop_zero, List.drop_succ_cons, ne_eq, not_false_eq_true, not_true_eq_false, false_and, and_false, false_implies, true_implies, reduceIte, mmU_rd, implies_true, or_false, false_or, or_true, true_or]
      refine mT_in ⟨?_, f2⟩
      rw [bI_neg]
      intro h
      obtain ⟨k, hk, e⟩ := List.getElem_of_mem h
      apply hz k (by omega)
      rw [List.getD_eq_getElem?_getD, List.getElem?_eq_getElem hk, e]
      rfl
    | succ q ih =>
      intro n hn hz
      have e := l2 n (by omega)
      refine mmC_step ?_
      simp only [cd_10, sg_10_0, sg_10_11, sg_10_22, sg_10_24, mmK_cut cd_10, q_cons, q_G0, q_GS, q_I1, q_L1, q_A1, q_S0, q_S1, q_SS, q_T0, q_T1, q_TS, q_Kn, q_Ki, q_Kl, q_Kr, q_k0, q_kS, q_rc, q_ps, q_pn, q_aload0, q_iload1, q_bipush, q_ishr, q_getfieldA, q_iconst, q_invV, q_istore2, q_istore3, q_iload3, q_iload2, q_icmp_ge, q_iaload, q_icmp_ne, q_ireturn1, q_iinc, q_goto, rf_0_6, mmKe_106, mmKo_0, mmLen_106, mmR32, mmR64, Option.some.injEq, Int.cast_ofNat_Int, and_true, true_and, if_true, if_false, List.length_cons, List.length_nil, Nat.le_refl, Nat.zero_le, Nat.sub_zero, forall_const, reduceCtorEq, Nat.reduceAdd, Nat.reduceSub, Nat.reduceLeDiff, Nat.reduceEqDiff, Int.reduceAdd, Int.reduceNeg, Int.reduceSub, Int.reduceLT, Int.reduceLE, Int.reduceMul, Int.reduceEq, List.drop_zero, List.drop_succ_cons, ne_eq, not_false_eq_true, not_true_eq_false, false_and, and_false, false_implies, true_implies, reduceIte, mmU_rd, implies_true, or_false, false_or, or_true, true_or]
      rw [e]
      refine ⟨fun c => by omega, fun _ => ⟨by omega, by omega, fun c => ?_, fun c => ?_⟩⟩
      · refine mmC_step ?_
        simp only [cd_10, sg_10_0, sg_10_11, sg_10_22, sg_10_24, mmK_cut cd_10, q_cons, q_G0, q_GS, q_I1, q_L1, q_A1, q_S0, q_S1, q_SS, q_T0, q_T1, q_TS, q_Kn, q_Ki, q_Kl, q_Kr, q_k0, q_kS, q_rc, q_ps, q_pn, q_aload0, q_iload1, q_bipush, q_ishr, q_getfieldA, q_iconst, q_invV, q_istore2, q_istore3, q_iload3, q_iload2, q_icmp_ge, q_iaload, q_icmp_ne, q_ireturn1, q_iinc, q_goto, rf_0_6, mmKe_106, mmKo_0, mmLen_106, mmR32, mmR64, Option.some.injEq, Int.cast_ofNat_Int, and_true, true_and, if_true, if_false, List.length_cons, List.length_nil, Nat.le_refl, Nat.zero_le, Nat.sub_zero, forall_const, reduceCtorEq, Nat.reduceAdd, Nat.reduceSub, Nat.reduceLeDiff, Nat.reduceEqDiff, Int.reduceAdd, Int.reduceNeg, Int.reduceSub, Int.reduceLT, Int.reduceLE, Int.reduceMul, Int.reduceEq, List.drop_zero, List.drop_succ_cons, ne_eq, not_false_eq_true, not_true_eq_false, false_and, and_false, false_implies, true_implies, reduceIte, mmU_rd, implies_true, or_false, false_or, or_true, true_or]
        refine ⟨by omega, ih (n + 1) (by omega) (fun k hk => ?_)⟩
        by_cases c3 : k = n
        · rw [c3]; exact c
        · exact hz k (by omega)
      · refine mT_in ⟨?_, f2⟩
        rw [bI_pos]
        rw [← c, List.getD_eq_getElem?_getD, List.getElem?_eq_getElem (by omega)]
        exact List.getElem_mem _
  exact key L.length 0 (by omega) (fun k hk => by omega)
end S808
