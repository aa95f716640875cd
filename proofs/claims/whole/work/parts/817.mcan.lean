/-- a way comes to a point, and the move is allowed there -/
def rcP (r : mRu) (B : mBd) (m fr p to : Int) : Nat → Int → Prop
  | 0, _ => False
  | q + 1, far => inB r (ptX r fr p far) (ptY r fr p far) ∧ ((ptT r fr p far = to ∧ okM r B m fr to far) ∨ (B (ptT r fr p far) = -2 ∧ rcP r B m fr p to q (far + 1)))
def fcP (r : mRu) (B : mBd) (m fr to : Int) : Nat → Int → Prop
  | 0, _ => False
  | c + 1, s => rcP r B m fr (B fr % 4 * 8 + s) to (tmF r (B fr % 4)) 1 ∨ fcP r B m fr to c (s + 1)
theorem mem_adM {r : mRu} {B : mBd} {m fr t to far : Int} {L : List Int} : fr * 64 + to ∈ adM r B m fr t far L ↔ fr * 64 + to ∈ L ∨ (t = to ∧ okM r B m fr to far) := by
  unfold adM
  by_cases c : okM r B m fr t far ∧ ¬ fr * 64 + t ∈ L
  · rw [if_pos c, List.mem_append, List.mem_singleton]
    constructor
    · rintro (q | q)
      · exact Or.inl q
      · have : t = to := by omega
        subst this
        exact Or.inr ⟨rfl, c.1⟩
    · rintro (q | q)
      · exact Or.inl q
      · exact Or.inr (by rw [q.1])
  · rw [if_neg c]
    constructor
    · exact Or.inl
    · rintro (q | ⟨rfl, q⟩)
      · exact q
      · exact Classical.byContradiction fun h => c ⟨q, h⟩
theorem mem_stepL {r : mRu} {B : mBd} {m fr p to : Int} : ∀ (q : Nat) (far : Int) (L : List Int), fr * 64 + to ∈ stepL r B m fr p q far L ↔ fr * 64 + to ∈ L ∨ rcP r B m fr p to q far
  | 0, far, L => ⟨Or.inl, fun h => h.elim id False.elim⟩
  | q + 1, far, L => by
    rw [stepL_s]
    unfold rcP
    by_cases c : inB r (ptX r fr p far) (ptY r fr p far)
    · rw [if_pos c]
      by_cases c2 : B (ptT r fr p far) = -2
      · rw [if_pos c2, mem_stepL q, mem_adM]
        constructor
        · rintro ((h | h) | h)
          · exact Or.inl h
          · exact Or.inr ⟨c, Or.inl h⟩
          · exact Or.inr ⟨c, Or.inr ⟨c2, h⟩⟩
        · rintro (h | ⟨_, h | h⟩)
          · exact Or.inl (Or.inl h)
          · exact Or.inl (Or.inr h)
          · exact Or.inr h.2
      · rw [if_neg c2, mem_adM]
        constructor
        · rintro (h | h)
          · exact Or.inl h
          · exact Or.inr ⟨c, Or.inl h⟩
        · rintro (h | ⟨_, h | h⟩)
          · exact Or.inl h
          · exact Or.inr h
          · exact absurd h.1 c2
    · rw [if_neg c]
      exact ⟨Or.inl, fun h => h.elim id (fun h => absurd h.1 c)⟩
theorem mem_fromL {r : mRu} {B : mBd} {m fr to : Int} : ∀ (c : Nat) (s : Int) (L : List Int), fr * 64 + to ∈ fromL r B m fr c s L ↔ fr * 64 + to ∈ L ∨ fcP r B m fr to c s
  | 0, s, L => ⟨Or.inl, fun h => h.elim id False.elim⟩
  | c + 1, s, L => by
    rw [fromL_s, mem_fromL c, mem_stepL, show fcP r B m fr to (c + 1) s = (rcP r B m fr (B fr % 4 * 8 + s) to (tmF r (B fr % 4)) 1 ∨ fcP r B m fr to c (s + 1)) from rfl]
    constructor
    · rintro ((h | h) | h)
      · exact Or.inl h
      · exact Or.inr (Or.inl h)
      · exact Or.inr (Or.inr h)
    · rintro (h | h | h)
      · exact Or.inl (Or.inl h)
      · exact Or.inl (Or.inr h)
      · exact Or.inr h
theorem lf_iff {r : mRu} {B : mBd} {m f t v : Int} (hv : v = f * 64 + t) (ht : 0 ≤ t ∧ t < 64) : lfP r B m v ↔ ((0 ≤ f ∧ f < r 6 0 * r 6 1) ∧ B f / 4 = m % 2) ∧ fcP r B m f t (r 711 (B f % 4)).toNat 0 := by
  have e : v / 64 = f := by omega
  unfold lfP
  rw [e]
  unfold mvF
  by_cases c : (0 ≤ f ∧ f < r 6 0 * r 6 1) ∧ B f / 4 = m % 2
  · rw [if_pos c, hv, mem_fromL]
    exact ⟨fun h => ⟨c, h.elim (fun q => absurd q List.not_mem_nil) id⟩, fun h => Or.inr h.2⟩
  · rw [if_neg c]
    exact ⟨fun h => absurd h List.not_mem_nil, fun h => absurd h.1 c⟩
theorem rc_own {r : mRu} {B : mBd} {m fr p to : Int} (h : B to / 4 = m % 2) : ∀ (q : Nat) (far : Int), ¬ rcP r B m fr p to q far
  | 0, _ => id
  | q + 1, far => by
    unfold rcP
    rintro ⟨_, h1 | h1⟩
    · exact h1.2.1 h
    · exact rc_own h q _ h1.2
theorem fc_own {r : mRu} {B : mBd} {m fr to : Int} (h : B to / 4 = m % 2) : ∀ (c : Nat) (s : Int), ¬ fcP r B m fr to c s
  | 0, _ => id
  | c + 1, s => by
    unfold fcP
    rintro (h1 | h1)
    · exact rc_own h _ _ h1
    · exact fc_own h c _ h1
theorem rc_out {r : mRu} (hw : 2 ≤ r 6 0 ∧ r 6 0 ≤ 5) (hh : 2 ≤ r 6 1 ∧ r 6 1 ≤ 5) {B : mBd} {m fr p to : Int} (h : r 6 0 * r 6 1 ≤ to) : ∀ (q : Nat) (far : Int), ¬ rcP r B m fr p to q far
  | 0, _ => id
  | q + 1, far => by
    unfold rcP
    rintro ⟨c, h1 | h1⟩
    · have := (inB_pt hw hh c).2.1
      rw [h1.1] at this
      omega
    · exact rc_out hw hh h q _ h1.2
theorem fc_out {r : mRu} (hw : 2 ≤ r 6 0 ∧ r 6 0 ≤ 5) (hh : 2 ≤ r 6 1 ∧ r 6 1 ≤ 5) {B : mBd} {m fr to : Int} (h : r 6 0 * r 6 1 ≤ to) : ∀ (c : Nat) (s : Int), ¬ fcP r B m fr to c s
  | 0, _ => id
  | c + 1, s => by
    unfold fcP
    rintro (h1 | h1)
    · exact rc_out hw hh h _ _ h1
    · exact fc_out hw hh h c _ h1
section S817
variable {d a : Nat} {I I' I'' : mMm} {br : Nat → Option mmO} {R : Nat → Nat → Int → Option mmO} {X : mmX} {B : mBd} {m fr b : Int} {r : mRu} {Q : Option mmV → mmM → Prop}
/-- the answer of the search for a way; P: what is left -/
def CQ (I : mMm) (P : Prop) (v : Option mmV) (I' : mMm) : Prop := v = some (mv (bI P)) ∧ FrW I I'
set_option maxHeartbeats 1000000 in
theorem m_canB {p kd w to : Int} {tm : Nat} {Z : Prop} {l4 : Option mmV} (hR : RK r I) (hM : MB I b B) (hB : BW r B) (hb : 0 ≤ b ∧ b < 72) (hm : 0 ≤ m ∧ m < 100) (hfr : 0 ≤ fr ∧ fr < 25) (hof : 0 ≤ B fr) (hw : w = m % 2) (hkd : 0 ≤ kd ∧ kd < r 6 2) (htm : tmF r kd = tm) (hp : 0 ≤ p ∧ p < 32) (hx : I 1239 0 p = r 712 p ∧ I 1240 0 p = r 713 p) (hst : (-4 ≤ r 712 p ∧ r 712 p ≤ 4) ∧ (-4 ≤ r 713 p ∧ r 713 p ≤ 4)) (hto : 0 ≤ to ∧ to < 25) (hno : ¬ B to / 4 = m % 2) :
    ∀ (q : Nat) (far : Int) (I1 : mMm) (l11 : Option mmV), 1 ≤ far → far + q = tm + 1 → FrW I I1 → (rcP r B m fr p to q far → Z) →
      (∀ (I2 : mMm) (l9 l10 l11 : Option mmV), FrW I I2 → ¬ rcP r B m fr p to q far → mmK (d + 5) 197 (mT a br X (CQ I Z)) 101 [some (mo 11 0), some (mv b), some (mv w), some (mv m), l4, some (mv fr), some (mv to), some (mv kd), some (mv p), l9, l10, l11] [] (I2, mmRf a br, X)) →
      mmK (d + 5) 197 (mT a br X (CQ I Z)) 58 [some (mo 11 0), some (mv b), some (mv w), some (mv m), l4, some (mv fr), some (mv to), some (mv kd), some (mv p), some (mv 1), some (mv far), l11] [] (I1, mmRf a br, X) := by
  have htm4 : 1 ≤ tm ∧ tm ≤ 4 := by rw [← htm]; unfold tmF; split <;> omega
  have w0 := hR.2.2.1
  have w1 := hR.2.2.2.1
  intro q
  induction q with
  | zero =>
    intro far I1 l11 f1 f2 fr1 hz cont
    refine mmC_step ?_
    simp only [cd_197, sg_197_0, sg_197_28, sg_197_30, sg_197_44, sg_197_58, sg_197_85, sg_197_97, sg_197_98, sg_197_101, sg_197_103, mmK_cut cd_197, q_cons, q_G0, q_GS, q_I1, q_L1, q_A1, q_S0, q_S1, q_SS, q_T0, q_T1, q_TS, q_Kn, q_Ki, q_Kl, q_Kr, q_k0, q_kS, q_rc, q_ps, q_pn, q_iload, q_bipush, q_idiv, q_istore, q_irem, q_aload0, q_icmp_ge, q_iload1, q_iload2, q_if_eq, q_iconst, q_ireturn1, q_getfieldA, q_iadd, q_iaload, q_imul, q_icmp_gt, q_icmp_ne, q_iload3, q_if_lt, q_if_ge, q_goto, q_iinc, rf_11_38, rf_11_59, mmKe_1238, mmKe_1259, mmKo_11, mmLen_1238, mmLen_1259, mmR32, mmR64, Option.some.injEq, Int.cast_ofNat_Int, and_true, true_and, if_true, if_false, List.length_cons, List.length_nil, Nat.le_refl, Nat.zero_le, Nat.sub_zero, forall_const, reduceCtorEq, Nat.reduceAdd, Nat.reduceSub, Nat.reduceLeDiff, Nat.reduceEqDiff, Int.reduceAdd, Int.reduceNeg, Int.reduceSub, Int.reduceLT, Int.reduceLE, Int.reduceMul, Int.reduceEq, List.drop_zero, List.drop_succ_cons, ne_eq, not_false_eq_true, not_true_eq_false, false_and, and_false, false_implies, true_implies, reduceIte, mmU_rd, implies_true, or_false, false_or, or_true, true_or]
    rw [q_invV (pay := [])]
    simp only [q_k0, q_kS, q_rc, mmKo_11]
    refine ⟨Nat.le_of_ble_eq_true rfl, by trivial, Nat.zero_le _, Nat.zero_le _, ?_⟩
    refine m_timesOf (RK_W hR fr1) hkd ?_
    rw [htm]
    simp only [mmK_cut cd_197, q_cons, q_G0, q_GS, q_I1, q_L1, q_A1, q_S0, q_S1, q_SS, q_T0, q_T1, q_TS, q_Kn, q_Ki, q_Kl, q_Kr, q_k0, q_kS, q_rc, q_ps, q_pn, q_iload, q_bipush, q_idiv, q_istore, q_irem, q_aload0, q_icmp_ge, q_iload1, q_iload2, q_if_eq, q_iconst, q_ireturn1, q_getfieldA, q_iadd, q_iaload, q_imul, q_icmp_gt, q_icmp_ne, q_iload3, q_if_lt, q_if_ge, q_goto, q_iinc, rf_11_38, rf_11_59, mmKe_1238, mmKe_1259, mmKo_11, mmLen_1238, mmLen_1259, mmR32, mmR64, Option.some.injEq, Int.cast_ofNat_Int, and_true, true_and, if_true, if_false, List.length_cons, List.length_nil, Nat.le_refl, Nat.zero_le, Nat.sub_zero, forall_const, reduceCtorEq, Nat.reduceAdd, Nat.reduceSub, Nat.reduceLeDiff, Nat.reduceEqDiff, Int.reduceAdd, Int.reduceNeg, Int.reduceSub, Int.reduceLT, Int.reduceLE, Int.reduceMul, Int.reduceEq, List.drop_zero, List.drop_succ_cons, ne_eq, not_false_eq_true, not_true_eq_false, false_and, and_false, false_implies, true_implies, reduceIte, mmU_rd, implies_true, or_false, false_or, or_true, true_or]
    refine ⟨fun _ => cont I1 _ _ _ fr1 id, fun c => by omega⟩
  | succ q ih =>
    intro far I1 l11 f1 f2 fr1 hz cont
    have hR1 := RK_W hR fr1
    have hM1 := MB_W hM fr1
    have hx1 : I1 1239 0 p = r 712 p ∧ I1 1240 0 p = r 713 p := ⟨(fr1 _ _ _ (by omega) (by decide) (by decide)).trans hx.1, (fr1 _ _ _ (by omega) (by decide) (by decide)).trans hx.2⟩
    unfold rcP at hz cont
    have wE : ∀ (I2 : mMm) (far' : Int) (l11 : Option mmV), FrW I I2 → ¬ (inB r (ptX r fr p far) (ptY r fr p far) ∧ ((ptT r fr p far = to ∧ okM r B m fr to far) ∨ (B (ptT r fr p far) = -2 ∧ rcP r B m fr p to q (far + 1)))) → mmK (d + 5) 197 (mT a br X (CQ I Z)) 58 [some (mo 11 0), some (mv b), some (mv w), some (mv m), l4, some (mv fr), some (mv to), some (mv kd), some (mv p), some (mv 0), some (mv far'), l11] [] (I2, mmRf a br, X) := by
      intro I2 far' l11 g1 g3
      refine mmC_step ?_
      simp only [cd_197, sg_197_0, sg_197_28, sg_197_30, sg_197_44, sg_197_58, sg_197_85, sg_197_97, sg_197_98, sg_197_101, sg_197_103, mmK_cut cd_197, q_cons, q_G0, q_GS, q_I1, q_L1, q_A1, q_S0, q_S1, q_SS, q_T0, q_T1, q_TS, q_Kn, q_Ki, q_Kl, q_Kr, q_k0, q_kS, q_rc, q_ps, q_pn, q_iload, q_bipush, q_idiv, q_istore, q_irem, q_aload0, q_icmp_ge, q_iload1, q_iload2, q_if_eq, q_iconst, q_ireturn1, q_getfieldA, q_iadd, q_iaload, q_imul, q_icmp_gt, q_icmp_ne, q_iload3, q_if_lt, q_if_ge, q_goto, q_iinc, rf_11_38, rf_11_59, mmKe_1238, mmKe_1259, mmKo_11, mmLen_1238, mmLen_1259, mmR32, mmR64, Option.some.injEq, Int.cast_ofNat_Int, and_true, true_and, if_true, if_false, List.length_cons, List.length_nil, Nat.le_refl, Nat.zero_le, Nat.sub_zero, forall_const, reduceCtorEq, Nat.reduceAdd, Nat.reduceSub, Nat.reduceLeDiff, Nat.reduceEqDiff, Int.reduceAdd, Int.reduceNeg, Int.reduceSub, Int.reduceLT, Int.reduceLE, Int.reduceMul, Int.reduceEq, List.drop_zero, List.drop_succ_cons, ne_eq, not_false_eq_true, not_true_eq_false, false_and, and_false, false_implies, true_implies, reduceIte, mmU_rd, implies_true, or_false, false_or, or_true, true_or]
      rw [q_invV (pay := [])]
      simp only [q_k0, q_kS, q_rc, mmKo_11]
      refine ⟨Nat.le_of_ble_eq_true rfl, by trivial, Nat.zero_le _, Nat.zero_le _, ?_⟩
      refine m_timesOf (RK_W hR g1) hkd ?_
      simp only [mmK_cut cd_197, q_cons, q_G0, q_GS, q_I1, q_L1, q_A1, q_S0, q_S1, q_SS, q_T0, q_T1, q_TS, q_Kn, q_Ki, q_Kl, q_Kr, q_k0, q_kS, q_rc, q_ps, q_pn, q_iload, q_bipush, q_idiv, q_istore, q_irem, q_aload0, q_icmp_ge, q_iload1, q_iload2, q_if_eq, q_iconst, q_ireturn1, q_getfieldA, q_iadd, q_iaload, q_imul, q_icmp_gt, q_icmp_ne, q_iload3, q_if_lt, q_if_ge, q_goto, q_iinc, rf_11_38, rf_11_59, mmKe_1238, mmKe_1259, mmKo_11, mmLen_1238, mmLen_1259, mmR32, mmR64, Option.some.injEq, Int.cast_ofNat_Int, and_true, true_and, if_true, if_false, List.length_cons, List.length_nil, Nat.le_refl, Nat.zero_le, Nat.sub_zero, forall_const, reduceCtorEq, Nat.reduceAdd, Nat.reduceSub, Nat.reduceLeDiff, Nat.reduceEqDiff, Int.reduceAdd, Int.reduceNeg, Int.reduceSub, Int.reduceLT, Int.reduceLE, Int.reduceMul, Int.reduceEq, List.drop_zero, List.drop_succ_cons, ne_eq, not_false_eq_true, not_true_eq_false, false_and, and_false, false_implies, true_implies, reduceIte, mmU_rd, implies_true, or_false, false_or, or_true, true_or]
      exact ⟨fun _ => cont I2 _ _ _ g1 g3, fun _ => cont I2 _ _ _ g1 g3⟩
    refine mmC_step ?_
    simp only [cd_197, sg_197_0, sg_197_28, sg_197_30, sg_197_44, sg_197_58, sg_197_85, sg_197_97, sg_197_98, sg_197_101, sg_197_103, mmK_cut cd_197, q_cons, q_G0, q_GS, q_I1, q_L1, q_A1, q_S0, q_S1, q_SS, q_T0, q_T1, q_TS, q_Kn, q_Ki, q_Kl, q_Kr, q_k0, q_kS, q_rc, q_ps, q_pn, q_iload, q_bipush, q_idiv, q_istore, q_irem, q_aload0, q_icmp_ge, q_iload1, q_iload2, q_if_eq, q_iconst, q_ireturn1, q_getfieldA, q_iadd, q_iaload, q_imul, q_icmp_gt, q_icmp_ne, q_iload3, q_if_lt, q_if_ge, q_goto, q_iinc, rf_11_38, rf_11_59, mmKe_1238, mmKe_1259, mmKo_11, mmLen_1238, mmLen_1259, mmR32, mmR64, Option.some.injEq, Int.cast_ofNat_Int, and_true, true_and, if_true, if_false, List.length_cons, List.length_nil, Nat.le_refl, Nat.zero_le, Nat.sub_zero, forall_const, reduceCtorEq, Nat.reduceAdd, Nat.reduceSub, Nat.reduceLeDiff, Nat.reduceEqDiff, Int.reduceAdd, Int.reduceNeg, Int.reduceSub, Int.reduceLT, Int.reduceLE, Int.reduceMul, Int.reduceEq, List.drop_zero, List.drop_succ_cons, ne_eq, not_false_eq_true, not_true_eq_false, false_and, and_false, false_implies, true_implies, reduceIte, mmU_rd, implies_true, or_false, false_or, or_true, true_or]
    rw [q_invV (pay := [])]
    simp only [q_k0, q_kS, q_rc, mmKo_11]
    refine ⟨Nat.le_of_ble_eq_true rfl, by trivial, Nat.zero_le _, Nat.zero_le _, ?_⟩
    refine m_timesOf hR1 hkd ?_
    rw [htm]
    simp only [mmK_cut cd_197, q_cons, q_G0, q_GS, q_I1, q_L1, q_A1, q_S0, q_S1, q_SS, q_T0, q_T1, q_TS, q_Kn, q_Ki, q_Kl, q_Kr, q_k0, q_kS, q_rc, q_ps, q_pn, q_iload, q_bipush, q_idiv, q_istore, q_irem, q_aload0, q_icmp_ge, q_iload1, q_iload2, q_if_eq, q_iconst, q_ireturn1, q_getfieldA, q_iadd, q_iaload, q_imul, q_icmp_gt, q_icmp_ne, q_iload3, q_if_lt, q_if_ge, q_goto, q_iinc, rf_11_38, rf_11_59, mmKe_1238, mmKe_1259, mmKo_11, mmLen_1238, mmLen_1259, mmR32, mmR64, Option.some.injEq, Int.cast_ofNat_Int, and_true, true_and, if_true, if_false, List.length_cons, List.length_nil, Nat.le_refl, Nat.zero_le, Nat.sub_zero, forall_const, reduceCtorEq, Nat.reduceAdd, Nat.reduceSub, Nat.reduceLeDiff, Nat.reduceEqDiff, Int.reduceAdd, Int.reduceNeg, Int.reduceSub, Int.reduceLT, Int.reduceLE, Int.reduceMul, Int.reduceEq, List.drop_zero, List.drop_succ_cons, ne_eq, not_false_eq_true, not_true_eq_false, false_and, and_false, false_implies, true_implies, reduceIte, mmU_rd, implies_true, or_false, false_or, or_true, true_or]
    refine ⟨fun c => by omega, fun _ => ?_⟩
    rw [q_invV (pay := [])]
    simp only [q_k0, q_kS, q_rc, mmKo_11]
    refine ⟨Nat.le_of_ble_eq_true rfl, by trivial, Nat.zero_le _, Nat.zero_le _, ?_⟩
    refine m_pointOf hR1 hfr hp hx1 hst ⟨f1, by omega⟩ ?_
    by_cases hin : inB r (ptX r fr p far) (ptY r fr p far)
    · have hpt := inB_pt w0 w1 hin
      have hpp : 0 ≤ ptT r fr p far ∧ ptT r fr p far < 25 := ⟨hpt.1, by omega⟩
      have hty : 0 ≤ ptT r fr p far / r 6 0 ∧ ptT r fr p far / r 6 0 < r 6 1 := by rw [hpt.2.2.2.1]; exact ⟨hin.2.2.1, hin.2.2.2⟩
      rw [if_pos hin]
      clear hpt
      generalize hpt' : ptT r fr p far = pt at *
      have w85 : ∀ (I2 : mMm), FrW I I2 → ¬ (pt = to ∧ okM r B m fr to far) → mmK (d + 5) 197 (mT a br X (CQ I Z)) 85 [some (mo 11 0), some (mv b), some (mv w), some (mv m), l4, some (mv fr), some (mv to), some (mv kd), some (mv p), some (mv 1), some (mv far), some (mv pt)] [] (I2, mmRf a br, X) := by
        intro I2 g1 g2
        have e := (MB_W hM g1) pt hpp.1 hpp.2
        have hbt := hB.1 pt hpp.1 hpp.2
        have hlt := mB_lt (v := B pt) (by omega)
        refine mmC_step ?_
        simp only [cd_197, sg_197_0, sg_197_28, sg_197_30, sg_197_44, sg_197_58, sg_197_85, sg_197_97, sg_197_98, sg_197_101, sg_197_103, mmK_cut cd_197, q_cons, q_G0, q_GS, q_I1, q_L1, q_A1, q_S0, q_S1, q_SS, q_T0, q_T1, q_TS, q_Kn, q_Ki, q_Kl, q_Kr, q_k0, q_kS, q_rc, q_ps, q_pn, q_iload, q_bipush, q_idiv, q_istore, q_irem, q_aload0, q_icmp_ge, q_iload1, q_iload2, q_if_eq, q_iconst, q_ireturn1, q_getfieldA, q_iadd, q_iaload, q_imul, q_icmp_gt, q_icmp_ne, q_iload3, q_if_lt, q_if_ge, q_goto, q_iinc, rf_11_38, rf_11_59, mmKe_1238, mmKe_1259, mmKo_11, mmLen_1238, mmLen_1259, mmR32, mmR64, Option.some.injEq, Int.cast_ofNat_Int, and_true, true_and, if_true, if_false, List.length_cons, List.length_nil, Nat.le_refl, Nat.zero_le, Nat.sub_zero, forall_const, reduceCtorEq, Nat.reduceAdd, Nat.reduceSub, Nat.reduceLeDiff, Nat.reduceEqDiff, Int.reduceAdd, Int.reduceNeg, Int.reduceSub, Int.reduceLT, Int.reduceLE, Int.reduceMul, Int.reduceEq, List.drop_zero, List.drop_succ_cons, ne_eq, not_false_eq_true, not_true_eq_false, false_and, and_false, false_implies, true_implies, reduceIte, mmU_rd, implies_true, or_false, false_or, or_true, true_or]
        refine ⟨fun c => by omega, fun _ => ?_⟩
        rw [q_invS (pay := [])]
        simp only [q_k0, q_kS]
        refine ⟨Nat.le_of_ble_eq_true rfl, Nat.zero_le _, Nat.zero_le _, ?_⟩
        refine sq_base (by omega) ?_
        simp only [mmK_cut cd_197, q_cons, q_G0, q_GS, q_I1, q_L1, q_A1, q_S0, q_S1, q_SS, q_T0, q_T1, q_TS, q_Kn, q_Ki, q_Kl, q_Kr, q_k0, q_kS, q_rc, q_ps, q_pn, q_iload, q_bipush, q_idiv, q_istore, q_irem, q_aload0, q_icmp_ge, q_iload1, q_iload2, q_if_eq, q_iconst, q_ireturn1, q_getfieldA, q_iadd, q_iaload, q_imul, q_icmp_gt, q_icmp_ne, q_iload3, q_if_lt, q_if_ge, q_goto, q_iinc, rf_11_38, rf_11_59, mmKe_1238, mmKe_1259, mmKo_11, mmLen_1238, mmLen_1259, mmR32, mmR64, Option.some.injEq, Int.cast_ofNat_Int, and_true, true_and, if_true, if_false, List.length_cons, List.length_nil, Nat.le_refl, Nat.zero_le, Nat.sub_zero, forall_const, reduceCtorEq, Nat.reduceAdd, Nat.reduceSub, Nat.reduceLeDiff, Nat.reduceEqDiff, Int.reduceAdd, Int.reduceNeg, Int.reduceSub, Int.reduceLT, Int.reduceLE, Int.reduceMul, Int.reduceEq, List.drop_zero, List.drop_succ_cons, ne_eq, not_false_eq_true, not_true_eq_false, false_and, and_false, false_implies, true_implies, reduceIte, mmU_rd, implies_true, or_false, false_or, or_true, true_or]
        rw [e]
        refine ⟨by omega, by omega, by omega, fun c => ?_, fun c => ?_⟩
        · have c' : ¬ B pt = -2 := fun q => by have := hlt.mpr q; omega
          refine mmC_step ?_
          simp only [cd_197, sg_197_0, sg_197_28, sg_197_30, sg_197_44, sg_197_58, sg_197_85, sg_197_97, sg_197_98, sg_197_101, sg_197_103, mmK_cut cd_197, q_cons, q_G0, q_GS, q_I1, q_L1, q_A1, q_S0, q_S1, q_SS, q_T0, q_T1, q_TS, q_Kn, q_Ki, q_Kl, q_Kr, q_k0, q_kS, q_rc, q_ps, q_pn, q_iload, q_bipush, q_idiv, q_istore, q_irem, q_aload0, q_icmp_ge, q_iload1, q_iload2, q_if_eq, q_iconst, q_ireturn1, q_getfieldA, q_iadd, q_iaload, q_imul, q_icmp_gt, q_icmp_ne, q_iload3, q_if_lt, q_if_ge, q_goto, q_iinc, rf_11_38, rf_11_59, mmKe_1238, mmKe_1259, mmKo_11, mmLen_1238, mmLen_1259, mmR32, mmR64, Option.some.injEq, Int.cast_ofNat_Int, and_true, true_and, if_true, if_false, List.length_cons, List.length_nil, Nat.le_refl, Nat.zero_le, Nat.sub_zero, forall_const, reduceCtorEq, Nat.reduceAdd, Nat.reduceSub, Nat.reduceLeDiff, Nat.reduceEqDiff, Int.reduceAdd, Int.reduceNeg, Int.reduceSub, Int.reduceLT, Int.reduceLE, Int.reduceMul, Int.reduceEq, List.drop_zero, List.drop_succ_cons, ne_eq, not_false_eq_true, not_true_eq_false, false_and, and_false, false_implies, true_implies, reduceIte, mmU_rd, implies_true, or_false, false_or, or_true, true_or]
          refine mmC_step ?_
          simp only [cd_197, sg_197_0, sg_197_28, sg_197_30, sg_197_44, sg_197_58, sg_197_85, sg_197_97, sg_197_98, sg_197_101, sg_197_103, mmK_cut cd_197, q_cons, q_G0, q_GS, q_I1, q_L1, q_A1, q_S0, q_S1, q_SS, q_T0, q_T1, q_TS, q_Kn, q_Ki, q_Kl, q_Kr, q_k0, q_kS, q_rc, q_ps, q_pn, q_iload, q_bipush, q_idiv, q_istore, q_irem, q_aload0, q_icmp_ge, q_iload1, q_iload2, q_if_eq, q_iconst, q_ireturn1, q_getfieldA, q_iadd, q_iaload, q_imul, q_icmp_gt, q_icmp_ne, q_iload3, q_if_lt, q_if_ge, q_goto, q_iinc, rf_11_38, rf_11_59, mmKe_1238, mmKe_1259, mmKo_11, mmLen_1238, mmLen_1259, mmR32, mmR64, Option.some.injEq, Int.cast_ofNat_Int, and_true, true_and, if_true, if_false, List.length_cons, List.length_nil, Nat.le_refl, Nat.zero_le, Nat.sub_zero, forall_const, reduceCtorEq, Nat.reduceAdd, Nat.reduceSub, Nat.reduceLeDiff, Nat.reduceEqDiff, Int.reduceAdd, Int.reduceNeg, Int.reduceSub, Int.reduceLT, Int.reduceLE, Int.reduceMul, Int.reduceEq, List.drop_zero, List.drop_succ_cons, ne_eq, not_false_eq_true, not_true_eq_false, false_and, and_false, false_implies, true_implies, reduceIte, mmU_rd, implies_true, or_false, false_or, or_true, true_or]
          exact ⟨by omega, wE I2 _ _ g1 (fun q => q.2.elim g2 (fun q => c' q.1))⟩
        · have c' := hlt.mp c
          refine mmC_step ?_
          simp only [cd_197, sg_197_0, sg_197_28, sg_197_30, sg_197_44, sg_197_58, sg_197_85, sg_197_97, sg_197_98, sg_197_101, sg_197_103, mmK_cut cd_197, q_cons, q_G0, q_GS, q_I1, q_L1, q_A1, q_S0, q_S1, q_SS, q_T0, q_T1, q_TS, q_Kn, q_Ki, q_Kl, q_Kr, q_k0, q_kS, q_rc, q_ps, q_pn, q_iload, q_bipush, q_idiv, q_istore, q_irem, q_aload0, q_icmp_ge, q_iload1, q_iload2, q_if_eq, q_iconst, q_ireturn1, q_getfieldA, q_iadd, q_iaload, q_imul, q_icmp_gt, q_icmp_ne, q_iload3, q_if_lt, q_if_ge, q_goto, q_iinc, rf_11_38, rf_11_59, mmKe_1238, mmKe_1259, mmKo_11, mmLen_1238, mmLen_1259, mmR32, mmR64, Option.some.injEq, Int.cast_ofNat_Int, and_true, true_and, if_true, if_false, List.length_cons, List.length_nil, Nat.le_refl, Nat.zero_le, Nat.sub_zero, forall_const, reduceCtorEq, Nat.reduceAdd, Nat.reduceSub, Nat.reduceLeDiff, Nat.reduceEqDiff, Int.reduceAdd, Int.reduceNeg, Int.reduceSub, Int.reduceLT, Int.reduceLE, Int.reduceMul, Int.reduceEq, List.drop_zero, List.drop_succ_cons, ne_eq, not_false_eq_true, not_true_eq_false, false_and, and_false, false_implies, true_implies, reduceIte, mmU_rd, implies_true, or_false, false_or, or_true, true_or]
          exact ⟨by omega, ih (far + 1) I2 _ (by omega) (by omega) g1 (fun q => hz ⟨hin, Or.inr ⟨c', q⟩⟩) (fun I3 l9 l10 l11 g3 g4 => cont I3 l9 l10 l11 g3 (fun q => q.2.elim g2 (fun q => g4 q.2)))⟩
      simp only [mmK_cut cd_197, q_cons, q_G0, q_GS, q_I1, q_L1, q_A1, q_S0, q_S1, q_SS, q_T0, q_T1, q_TS, q_Kn, q_Ki, q_Kl, q_Kr, q_k0, q_kS, q_rc, q_ps, q_pn, q_iload, q_bipush, q_idiv, q_istore, q_irem, q_aload0, q_icmp_ge, q_iload1, q_iload2, q_if_eq, q_iconst, q_ireturn1, q_getfieldA, q_iadd, q_iaload, q_imul, q_icmp_gt, q_icmp_ne, q_iload3, q_if_lt, q_if_ge, q_goto, q_iinc, rf_11_38, rf_11_59, mmKe_1238, mmKe_1259, mmKo_11, mmLen_1238, mmLen_1259, mmR32, mmR64, Option.some.injEq, Int.cast_ofNat_Int, and_true, true_and, if_true, if_false, List.length_cons, List.length_nil, Nat.le_refl, Nat.zero_le, Nat.sub_zero, forall_const, reduceCtorEq, Nat.reduceAdd, Nat.reduceSub, Nat.reduceLeDiff, Nat.reduceEqDiff, Int.reduceAdd, Int.reduceNeg, Int.reduceSub, Int.reduceLT, Int.reduceLE, Int.reduceMul, Int.reduceEq, List.drop_zero, List.drop_succ_cons, ne_eq, not_false_eq_true, not_true_eq_false, false_and, and_false, false_implies, true_implies, reduceIte, mmU_rd, implies_true, or_false, false_or, or_true, true_or]
      refine ⟨fun c => w85 I1 fr1 (fun q => c q.1), fun c => ?_⟩
      subst c
      rw [q_invV (pay := [])]
      simp only [q_k0, q_kS, q_rc, mmKo_11]
      refine ⟨Nat.le_of_ble_eq_true rfl, by trivial, Nat.zero_le _, Nat.zero_le _, ?_⟩
      refine mT_use (m_isLawful hR1 hM1 hB hm hb hfr hof hpp hty ⟨f1, by omega⟩ hw) (fun v I2 q2 => ?_)
      obtain ⟨rfl, g2⟩ := q2
      have fr2 := FrW_trans fr1 g2
      simp only [mmK_cut cd_197, q_cons, q_G0, q_GS, q_I1, q_L1, q_A1, q_S0, q_S1, q_SS, q_T0, q_T1, q_TS, q_Kn, q_Ki, q_Kl, q_Kr, q_k0, q_kS, q_rc, q_ps, q_pn, q_iload, q_bipush, q_idiv, q_istore, q_irem, q_aload0, q_icmp_ge, q_iload1, q_iload2, q_if_eq, q_iconst, q_ireturn1, q_getfieldA, q_iadd, q_iaload, q_imul, q_icmp_gt, q_icmp_ne, q_iload3, q_if_lt, q_if_ge, q_goto, q_iinc, rf_11_38, rf_11_59, mmKe_1238, mmKe_1259, mmKo_11, mmLen_1238, mmLen_1259, mmR32, mmR64, Option.some.injEq, Int.cast_ofNat_Int, and_true, true_and, if_true, if_false, List.length_cons, List.length_nil, Nat.le_refl, Nat.zero_le, Nat.sub_zero, forall_const, reduceCtorEq, Nat.reduceAdd, Nat.reduceSub, Nat.reduceLeDiff, Nat.reduceEqDiff, Int.reduceAdd, Int.reduceNeg, Int.reduceSub, Int.reduceLT, Int.reduceLE, Int.reduceMul, Int.reduceEq, List.drop_zero, List.drop_succ_cons, ne_eq, not_false_eq_true, not_true_eq_false, false_and, and_false, false_implies, true_implies, reduceIte, mmU_rd, implies_true, or_false, false_or, or_true, true_or, bI_eq0, Classical.not_not]
      refine ⟨fun c2 => w85 I2 fr2 (fun q => q.2.2 c2), fun c2 => ?_⟩
      refine mT_in ⟨?_, fr2⟩
      rw [bI_pos (hz ⟨hin, Or.inl ⟨rfl, hno, c2⟩⟩)]
    · rw [if_neg hin]
      simp only [mmK_cut cd_197, q_cons, q_G0, q_GS, q_I1, q_L1, q_A1, q_S0, q_S1, q_SS, q_T0, q_T1, q_TS, q_Kn, q_Ki, q_Kl, q_Kr, q_k0, q_kS, q_rc, q_ps, q_pn, q_iload, q_bipush, q_idiv, q_istore, q_irem, q_aload0, q_icmp_ge, q_iload1, q_iload2, q_if_eq, q_iconst, q_ireturn1, q_getfieldA, q_iadd, q_iaload, q_imul, q_icmp_gt, q_icmp_ne, q_iload3, q_if_lt, q_if_ge, q_goto, q_iinc, rf_11_38, rf_11_59, mmKe_1238, mmKe_1259, mmKo_11, mmLen_1238, mmLen_1259, mmR32, mmR64, Option.some.injEq, Int.cast_ofNat_Int, and_true, true_and, if_true, if_false, List.length_cons, List.length_nil, Nat.le_refl, Nat.zero_le, Nat.sub_zero, forall_const, reduceCtorEq, Nat.reduceAdd, Nat.reduceSub, Nat.reduceLeDiff, Nat.reduceEqDiff, Int.reduceAdd, Int.reduceNeg, Int.reduceSub, Int.reduceLT, Int.reduceLE, Int.reduceMul, Int.reduceEq, List.drop_zero, List.drop_succ_cons, ne_eq, not_false_eq_true, not_true_eq_false, false_and, and_false, false_implies, true_implies, reduceIte, mmU_rd, implies_true, or_false, false_or, or_true, true_or]
      refine ⟨fun _ => ?_, fun c => by omega⟩
      refine mmC_step ?_
      simp only [cd_197, sg_197_0, sg_197_28, sg_197_30, sg_197_44, sg_197_58, sg_197_85, sg_197_97, sg_197_98, sg_197_101, sg_197_103, mmK_cut cd_197, q_cons, q_G0, q_GS, q_I1, q_L1, q_A1, q_S0, q_S1, q_SS, q_T0, q_T1, q_TS, q_Kn, q_Ki, q_Kl, q_Kr, q_k0, q_kS, q_rc, q_ps, q_pn, q_iload, q_bipush, q_idiv, q_istore, q_irem, q_aload0, q_icmp_ge, q_iload1, q_iload2, q_if_eq, q_iconst, q_ireturn1, q_getfieldA, q_iadd, q_iaload, q_imul, q_icmp_gt, q_icmp_ne, q_iload3, q_if_lt, q_if_ge, q_goto, q_iinc, rf_11_38, rf_11_59, mmKe_1238, mmKe_1259, mmKo_11, mmLen_1238, mmLen_1259, mmR32, mmR64, Option.some.injEq, Int.cast_ofNat_Int, and_true, true_and, if_true, if_false, List.length_cons, List.length_nil, Nat.le_refl, Nat.zero_le, Nat.sub_zero, forall_const, reduceCtorEq, Nat.reduceAdd, Nat.reduceSub, Nat.reduceLeDiff, Nat.reduceEqDiff, Int.reduceAdd, Int.reduceNeg, Int.reduceSub, Int.reduceLT, Int.reduceLE, Int.reduceMul, Int.reduceEq, List.drop_zero, List.drop_succ_cons, ne_eq, not_false_eq_true, not_true_eq_false, false_and, and_false, false_implies, true_implies, reduceIte, mmU_rd, implies_true, or_false, false_or, or_true, true_or]
      refine mmC_step ?_
      simp only [cd_197, sg_197_0, sg_197_28, sg_197_30, sg_197_44, sg_197_58, sg_197_85, sg_197_97, sg_197_98, sg_197_101, sg_197_103, mmK_cut cd_197, q_cons, q_G0, q_GS, q_I1, q_L1, q_A1, q_S0, q_S1, q_SS, q_T0, q_T1, q_TS, q_Kn, q_Ki, q_Kl, q_Kr, q_k0, q_kS, q_rc, q_ps, q_pn, q_iload, q_bipush, q_idiv, q_istore, q_irem, q_aload0, q_icmp_ge, q_iload1, q_iload2, q_if_eq, q_iconst, q_ireturn1, q_getfieldA, q_iadd, q_iaload, q_imul, q_icmp_gt, q_icmp_ne, q_iload3, q_if_lt, q_if_ge, q_goto, q_iinc, rf_11_38, rf_11_59, mmKe_1238, mmKe_1259, mmKo_11, mmLen_1238, mmLen_1259, mmR32, mmR64, Option.some.injEq, Int.cast_ofNat_Int, and_true, true_and, if_true, if_false, List.length_cons, List.length_nil, Nat.le_refl, Nat.zero_le, Nat.sub_zero, forall_const, reduceCtorEq, Nat.reduceAdd, Nat.reduceSub, Nat.reduceLeDiff, Nat.reduceEqDiff, Int.reduceAdd, Int.reduceNeg, Int.reduceSub, Int.reduceLT, Int.reduceLE, Int.reduceMul, Int.reduceEq, List.drop_zero, List.drop_succ_cons, ne_eq, not_false_eq_true, not_true_eq_false, false_and, and_false, false_implies, true_implies, reduceIte, mmU_rd, implies_true, or_false, false_or, or_true, true_or]
      refine mmC_step ?_
      simp only [cd_197, sg_197_0, sg_197_28, sg_197_30, sg_197_44, sg_197_58, sg_197_85, sg_197_97, sg_197_98, sg_197_101, sg_197_103, mmK_cut cd_197, q_cons, q_G0, q_GS, q_I1, q_L1, q_A1, q_S0, q_S1, q_SS, q_T0, q_T1, q_TS, q_Kn, q_Ki, q_Kl, q_Kr, q_k0, q_kS, q_rc, q_ps, q_pn, q_iload, q_bipush, q_idiv, q_istore, q_irem, q_aload0, q_icmp_ge, q_iload1, q_iload2, q_if_eq, q_iconst, q_ireturn1, q_getfieldA, q_iadd, q_iaload, q_imul, q_icmp_gt, q_icmp_ne, q_iload3, q_if_lt, q_if_ge, q_goto, q_iinc, rf_11_38, rf_11_59, mmKe_1238, mmKe_1259, mmKo_11, mmLen_1238, mmLen_1259, mmR32, mmR64, Option.some.injEq, Int.cast_ofNat_Int, and_true, true_and, if_true, if_false, List.length_cons, List.length_nil, Nat.le_refl, Nat.zero_le, Nat.sub_zero, forall_const, reduceCtorEq, Nat.reduceAdd, Nat.reduceSub, Nat.reduceLeDiff, Nat.reduceEqDiff, Int.reduceAdd, Int.reduceNeg, Int.reduceSub, Int.reduceLT, Int.reduceLE, Int.reduceMul, Int.reduceEq, List.drop_zero, List.drop_succ_cons, ne_eq, not_false_eq_true, not_true_eq_false, false_and, and_false, false_implies, true_implies, reduceIte, mmU_rd, implies_true, or_false, false_or, or_true, true_or]
      exact ⟨by omega, wE I1 _ _ fr1 (fun q => hin q.1)⟩
end S817
