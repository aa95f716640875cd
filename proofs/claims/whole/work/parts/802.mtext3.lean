section S802
variable {d a : Nat} {I I' I'' J : mMm} {br : Nat → Option mmO} {R : Nat → Nat → Int → Option mmO} {X : mmX} {T : Int → Int} {s p o k w x op kn h : Int} {e : Int × Int} {r r' r'' r0 : mRu} {Q : Option mmV → mmM → Prop} {P : List Int}
def plM (I : mMm) : mMm := mmU (mmU (mmU (mmU (mmU (mmU (mmU (mmU (mmU (mmU (mmU (mmU (mmU (mmU I 11 0 22 3) 11 0 23 3) 11 0 24 0) 11 0 25 0) 11 0 26 0) 11 0 53 0) 11 0 27 4) 11 0 28 11) 11 0 29 60) 11 0 30 0) 11 0 31 0) 11 0 32 0) 11 0 33 0) 11 0 34 0
theorem m_plain (hQ : Q none (plM I, mmRf a br, X)) : mmC (d + 1) 156 [mo 11 0] (I, mmRf a br, X) Q := by
  refine mmC_in (by decide) (Nat.le_of_ble_eq_true rfl) (mmC_step ?_)
  simp only [show mmMl 156 = 1 from rfl, mmLs, List.replicate, cd_156, sg_156_0, mmK_cut cd_156, q_cons, q_G0, q_GS, q_I1, q_L1, q_A1, q_S0, q_S1, q_SS, q_T0, q_T1, q_TS, q_Kn, q_Ki, q_Kl, q_Kr, q_k0, q_kS, q_rc, q_ps, q_pn, q_aload0, q_iconst, q_putfieldI, q_bipush, q_putfieldZ, q_return, mmKo_11, mmR32, mmR64, Option.some.injEq, Int.cast_ofNat_Int, and_true, true_and, if_true, if_false, List.length_cons, List.length_nil, Nat.le_refl, Nat.zero_le, Nat.sub_zero, forall_const, reduceCtorEq, Nat.reduceAdd, Nat.reduceSub, Nat.reduceLeDiff, Nat.reduceEqDiff, Int.reduceAdd, Int.reduceNeg, Int.reduceSub, Int.reduceLT, Int.reduceLE, Int.reduceMul, Int.reduceEq, List.drop_zero, List.drop_succ_cons, ne_eq, not_false_eq_true, not_true_eq_false, false_and, and_false, false_implies, true_implies, reduceIte, mmU_rd, implies_true, or_false, false_or, or_true, true_or]
  exact hQ
theorem plM_o {t i : Nat} {k : Int} (h : ¬ (t = 11 ∧ ((22 ≤ k ∧ k ≤ 34) ∨ k = 53))) : plM I t i k = I t i k := by
  unfold plM mmU
  rw [if_neg (by omega), if_neg (by omega), if_neg (by omega), if_neg (by omega), if_neg (by omega), if_neg (by omega), if_neg (by omega), if_neg (by omega), if_neg (by omega), if_neg (by omega), if_neg (by omega), if_neg (by omega), if_neg (by omega), if_neg (by omega)]
/-- cleared rules stand in the reference -/
theorem M2_plain (hr : RC r0) (h4 : I 11 0 4 = 0) (h5 : I 11 0 5 = -1) (hg : I 11 0 22 = 3 ∧ I 11 0 23 = 3 ∧ I 11 0 24 = 0 ∧ I 11 0 25 = 0 ∧ I 11 0 26 = 0 ∧ I 11 0 27 = 4 ∧ I 11 0 28 = 11 ∧ I 11 0 29 = 60 ∧ I 11 0 30 = 0 ∧ I 11 0 31 = 0 ∧ I 11 0 32 = 0 ∧ I 11 0 33 = 0 ∧ I 11 0 34 = 0 ∧ I 11 0 53 = 0) : M2 I r0 0 := by
  obtain ⟨e22, e23, e24, e25, e26, e27, e28, e29, e30, e31, e32, e33, e34, e53⟩ := hg
  have hx := RC_RX hr
  obtain ⟨⟨h0, h1, h2, h3, h4', h5', h6, h7⟩, h8, h9, h10, h11⟩ := hr
  refine ⟨h4, h5, ⟨by omega, e30.trans rfl, e31.trans rfl, e32.trans rfl, e33.trans rfl, e34.trans rfl⟩, ⟨⟨?_, ?_, ?_, ?_, ?_, ?_, ?_, ?_⟩, fun k k0 k1 => by omega, fun i i0 i1 => by omega, fun i i' i0 i1 i2 => by omega, fun x x0 x1 xn => absurd (h11 x x0 x1) xn, fun w hw => ?_⟩, Or.inl ⟨e31, h10, e26⟩, fun _ => e53, hx.1⟩
  · exact e22.trans h0.symm
  · exact e23.trans h1.symm
  · exact e24.trans h2.symm
  · exact e25.trans h3.symm
  · exact e27.trans h4'.symm
  · exact e28.trans h5'.symm
  · exact e29.trans h6.symm
  · exact e34.trans h7.symm
  · have : r0 715 w = 0 := by
      rcases hw with q | q <;> subst q <;> assumption
    rw [this]
    refine ⟨Or.inl rfl, fun q => by omega, ?_⟩
    rintro ⟨i, i0, i1, _⟩
    omega
/-- what the reference keeps tells the rules -/
def RK (r : mRu) (I : mMm) : Prop := RE r (Gk I) ∧ RLw r (Gk I) ∧ RW r
theorem RK_kept (hM : M2 I r o) (hk : KT I I') : RK r I' := by
  obtain ⟨g1, g2, g3, g4, g7, g8, g9⟩ := hM
  obtain ⟨k0, ⟨s0, s1, s2, s3, s4, s5, s6, s7, s8, s9⟩, _, k1, k2, k3, k4, _⟩ := hk
  refine ⟨RG g9 (fun f hf => ?_) (fun f k f1 f2 q0 q1 => ?_) (fun f k f1 f2 q0 q1 => ?_) (fun f k f1 f2 q0 q1 => ?_) g4, ?_, g9⟩
  · have : f = 0 ∨ f = 1 ∨ f = 2 ∨ f = 3 ∨ f = 4 ∨ f = 5 ∨ f = 6 ∨ f = 7 := by omega
    rcases this with q | q | q | q | q | q | q | q <;> subst q <;> assumption
  · have : f = 8 ∨ f = 9 ∨ f = 10 ∨ f = 11 := by omega
    rcases this with q | q | q | q <;> subst q <;> exact k1 _ _ (by omega) (by omega) q0 q1
  · have : f = 12 ∨ f = 13 := by omega
    rcases this with q | q <;> subst q <;> exact k2 _ _ (by omega) (by omega) q0 q1
  · have : f = 20 ∨ f = 21 ∨ f = 22 := by omega
    rcases this with q | q | q <;> subst q <;> exact k3 _ _ (by omega) (by omega) q0 q1
  · rcases g7 with q | q
    · exact Or.inl ⟨s9.trans q.1, q.2.1, s4.trans q.2.2⟩
    · refine Or.inr ⟨s9.trans q.1, q.2.1, s4.trans q.2.2.1, fun m hm => ?_, q.2.2.2.2⟩
      refine TPn_congr (kn := Gr I 30) (pa := Gr I 31) (ot := Gr I 32) (fun _ _ => rfl) ?_ ?_ ?_ (q.2.2.2.1 m hm)
      · exact k4 1244 m (by omega) (by omega) (by omega) (by omega)
      · exact k4 1245 m (by omega) (by omega) (by omega) (by omega)
      · exact k4 1246 m (by omega) (by omega) (by omega) (by omega)
def FrX (I I' : mMm) : Prop := ∀ t i k, ¬ (Mt t k ∨ (t = 11 ∧ (k = 1 ∨ k = 2))) → I' t i k = I t i k
def FrY (I I' : mMm) : Prop := ∀ t i k, ¬ (Mt t k ∨ (t = 11 ∧ (k = 1 ∨ k = 2 ∨ (12 ≤ k ∧ k ≤ 21) ∨ k = 60 ∨ k = 68 ∨ k = 69 ∨ k = 82)) ∨ (1235 ≤ t ∧ t ≤ 1246)) → I' t i k = I t i k
set_option maxHeartbeats 1000000 in
theorem m_text {n : Int} (hr0 : RC r0) (hf : 0 ≤ I 11 0 1 ∧ I 11 0 1 ≤ 700) (hW : ∀ k : Nat, k < 95 → I 1203 0 k = wdL.getD k 0) (hbl : BL I)
    (hA : (n < 0 ∨ I 11 0 1 < n) → Q (some (mv (-2))) (mmU I 11 0 2 0, mmRf a br, X))
    (hB : 0 ≤ n → n ≤ I 11 0 1 → ∀ e I', txF (I 1200 0) n 701 0 r0 0 0 = .inl e → FrX I I' → I' 11 0 1 = 0 → I' 11 0 2 = 0 → I' 11 0 4 = e.1 → I' 11 0 5 = e.2 → BL I' → Q (some (mv (-1))) (I', mmRf a br, X))
    (hC : 0 ≤ n → n ≤ I 11 0 1 → ∀ m r' I', txF (I 1200 0) n 701 0 r0 0 0 = .inr (m, r') → FrY I I' → I' 11 0 1 = 0 → I' 11 0 2 = 0 → I' 11 0 4 = 0 → I' 11 0 5 = -1 → I' 11 0 60 = 0 → I' 11 0 68 = 0 → I' 11 0 69 = 0 → I' 11 0 82 = 0 → RK r' I' → BL I' → Q (some (mv m)) (I', mmRf a br, X)) : mmC (d + 8) 168 [mo 11 0, mv n] (I, mmRf a br, X) Q := by
  have w9 : (n < 0 ∨ I 11 0 1 < n) → mmK (d + 7) 168 Q 9 [some (mo 11 0), some (mv n), none] [] (mmU I 11 0 2 0, mmRf a br, X) := by
    intro c
    refine mmC_step ?_
    simp only [cd_168, sg_168_0, sg_168_9, sg_168_11, sg_168_32, sg_168_40, sg_168_42, mmK_cut cd_168, q_cons, q_G0, q_GS, q_I1, q_L1, q_A1, q_S0, q_S1, q_SS, q_T0, q_T1, q_TS, q_Kn, q_Ki, q_Kl, q_Kr, q_k0, q_kS, q_rc, q_ps, q_pn, q_aload0, q_iconst, q_putfieldI, q_iload1, q_if_lt, q_getfieldI, q_icmp_le, q_bipush, q_ireturn0, q_invV, q_istore2, q_if_eq, q_if_ne, q_iinc, q_goto, q_iload2, mmKo_11, mmR32, mmR64, Option.some.injEq, Int.cast_ofNat_Int, and_true, true_and, if_true, if_false, List.length_cons, List.length_nil, Nat.le_refl, Nat.zero_le, Nat.sub_zero, forall_const, reduceCtorEq, Nat.reduceAdd, Nat.reduceSub, Nat.reduceLeDiff, Nat.reduceEqDiff, Int.reduceAdd, Int.reduceNeg, Int.reduceSub, Int.reduceLT, Int.reduceLE, Int.reduceMul, Int.reduceEq, List.drop_zero, List.drop_succ_cons, ne_eq, not_false_eq_true, not_true_eq_false, false_and, and_false, false_implies, true_implies, reduceIte, mmU_rd, implies_true, or_false, false_or, or_true, true_or]
    exact hA c
  refine mmC_in (by decide) (Nat.le_of_ble_eq_true rfl) (mmC_step ?_)
  simp only [show mmMl 168 = 3 from rfl, mmLs, List.replicate, cd_168, sg_168_0, sg_168_9, sg_168_11, sg_168_32, sg_168_40, sg_168_42, mmK_cut cd_168, q_cons, q_G0, q_GS, q_I1, q_L1, q_A1, q_S0, q_S1, q_SS, q_T0, q_T1, q_TS, q_Kn, q_Ki, q_Kl, q_Kr, q_k0, q_kS, q_rc, q_ps, q_pn, q_aload0, q_iconst, q_putfieldI, q_iload1, q_if_lt, q_getfieldI, q_icmp_le, q_bipush, q_ireturn0, q_invV, q_istore2, q_if_eq, q_if_ne, q_iinc, q_goto, q_iload2, mmKo_11, mmR32, mmR64, Option.some.injEq, Int.cast_ofNat_Int, and_true, true_and, if_true, if_false, List.length_cons, List.length_nil, Nat.le_refl, Nat.zero_le, Nat.sub_zero, forall_const, reduceCtorEq, Nat.reduceAdd, Nat.reduceSub, Nat.reduceLeDiff, Nat.reduceEqDiff, Int.reduceAdd, Int.reduceNeg, Int.reduceSub, Int.reduceLT, Int.reduceLE, Int.reduceMul, Int.reduceEq, List.drop_zero, List.drop_succ_cons, ne_eq, not_false_eq_true, not_true_eq_false, false_and, and_false, false_implies, true_implies, reduceIte, mmU_rd, implies_true, or_false, false_or, or_true, true_or]
  refine ⟨fun c => w9 (Or.inl c), fun c => ⟨fun c2 => ?_, fun c2 => w9 (Or.inr c2)⟩⟩
  refine mmC_step ?_
  simp only [cd_168, sg_168_0, sg_168_9, sg_168_11, sg_168_32, sg_168_40, sg_168_42, mmK_cut cd_168, q_cons, q_G0, q_GS, q_I1, q_L1, q_A1, q_S0, q_S1, q_SS, q_T0, q_T1, q_TS, q_Kn, q_Ki, q_Kl, q_Kr, q_k0, q_kS, q_rc, q_ps, q_pn, q_aload0, q_iconst, q_putfieldI, q_iload1, q_if_lt, q_getfieldI, q_icmp_le, q_bipush, q_ireturn0, q_invV, q_istore2, q_if_eq, q_if_ne, q_iinc, q_goto, q_iload2, mmKo_11, mmR32, mmR64, Option.some.injEq, Int.cast_ofNat_Int, and_true, true_and, if_true, if_false, List.length_cons, List.length_nil, Nat.le_refl, Nat.zero_le, Nat.sub_zero, forall_const, reduceCtorEq, Nat.reduceAdd, Nat.reduceSub, Nat.reduceLeDiff, Nat.reduceEqDiff, Int.reduceAdd, Int.reduceNeg, Int.reduceSub, Int.reduceLT, Int.reduceLE, Int.reduceMul, Int.reduceEq, List.drop_zero, List.drop_succ_cons, ne_eq, not_false_eq_true, not_true_eq_false, false_and, and_false, false_implies, true_implies, reduceIte, mmU_rd, implies_true, or_false, false_or, or_true, true_or]
  refine m_plain ?_
  simp only [mmK_cut cd_168, q_cons, q_G0, q_GS, q_I1, q_L1, q_A1, q_S0, q_S1, q_SS, q_T0, q_T1, q_TS, q_Kn, q_Ki, q_Kl, q_Kr, q_k0, q_kS, q_rc, q_ps, q_pn, q_aload0, q_iconst, q_putfieldI, q_iload1, q_if_lt, q_getfieldI, q_icmp_le, q_bipush, q_ireturn0, q_invV, q_istore2, q_if_eq, q_if_ne, q_iinc, q_goto, q_iload2, mmKo_11, mmR32, mmR64, Option.some.injEq, Int.cast_ofNat_Int, and_true, true_and, if_true, if_false, List.length_cons, List.length_nil, Nat.le_refl, Nat.zero_le, Nat.sub_zero, forall_const, reduceCtorEq, Nat.reduceAdd, Nat.reduceSub, Nat.reduceLeDiff, Nat.reduceEqDiff, Int.reduceAdd, Int.reduceNeg, Int.reduceSub, Int.reduceLT, Int.reduceLE, Int.reduceMul, Int.reduceEq, List.drop_zero, List.drop_succ_cons, ne_eq, not_false_eq_true, not_true_eq_false, false_and, and_false, false_implies, true_implies, reduceIte, mmU_rd, implies_true, or_false, false_or, or_true, true_or]
  generalize hI1 : mmU (mmU (mmU (mmU (mmU (mmU I 11 0 2 0) 11 0 6 n) 11 0 1 0) 11 0 4 0) 11 0 5 (-1)) 11 0 7 0 = I1
  have o1 : ∀ t i k, ¬ (t = 11 ∧ (k = 1 ∨ k = 2 ∨ (4 ≤ k ∧ k ≤ 7))) → I1 t i k = I t i k := by
    intro t i k ck
    rw [← hI1]
    unfold mmU
    rw [if_neg (by omega), if_neg (by omega), if_neg (by omega), if_neg (by omega), if_neg (by omega), if_neg (by omega)]
  have v1 : I1 11 0 6 = n ∧ I1 11 0 7 = 0 ∧ I1 11 0 4 = 0 ∧ I1 11 0 5 = -1 ∧ I1 11 0 1 = 0 ∧ I1 11 0 2 = 0 := by
    rw [← hI1]; exact ⟨rfl, rfl, rfl, rfl, rfl, rfl⟩
  have e2 : plM I1 = mmUr (plM I1) 11 0 (tkH (plM I1 11 0) 0 (plM I1 11 0 8) (plM I1 11 0 9) (plM I1 11 0 10)) := by
    have : tkH (plM I1 11 0) 0 (plM I1 11 0 8) (plM I1 11 0 9) (plM I1 11 0 10) = plM I1 11 0 := by
      funext k
      unfold tkH
      split
      · rename_i c; rw [c, plM_o (by omega), v1.2.1]
      split
      · rename_i c; rw [c]
      split
      · rename_i c; rw [c]
      split
      · rename_i c; rw [c]
      rfl
    rw [this, mmUr_self]
  have e6 : plM I1 11 0 6 = n := by rw [plM_o (by omega)]; exact v1.1
  have eT : plM I1 1200 0 = I 1200 0 := by
    funext k
    rw [plM_o (by omega), o1 _ _ _ (by omega)]
  have eW : ∀ k : Nat, k < 95 → plM I1 1203 0 k = wdL.getD k 0 := by
    intro k hk
    rw [plM_o (by omega), o1 _ _ _ (by omega)]
    exact hW k hk
  have hT := tk_rel (T := I 1200 0) (s := n) (p := 0) (wh := plM I1 11 0 9) ⟨by omega, c⟩
  generalize hI2 : plM I1 = I2 at *
  have q2 : mmC (d + 7) 150 [mo 11 0] (I2, mmRf a br, (X.1, 0, 0)) (mT a br (X.1, 0, 0) fun v I' => v = none ∧ Fr7 I2 I' ∧ PSr I' (I 1200 0) n 0) := by
    have hgo : mmC (d + 7) 150 [mo 11 0] (mmUr I2 11 0 (tkH (I2 11 0) 0 (I2 11 0 8) (I2 11 0 9) (I2 11 0 10)), mmRf a br, (X.1, 0, 0)) (mT a br (X.1, 0, 0) fun v I' => v = none ∧ Fr7 I2 I' ∧ PSr I' (I 1200 0) n 0) := by
      refine sq_token (by rw [e6]; omega) (by rw [e6]; omega) eW (mT_in ⟨rfl, fun t i k ck => ?_, ?_⟩)
      · unfold mmUr
        split
        · rename_i q
          obtain ⟨rfl, rfl⟩ := q
          have c7 : ¬ k = 7 := by omega
          have c8 : ¬ k = 8 := by omega
          have c9 : ¬ k = 9 := by omega
          have c10 : ¬ k = 10 := by omega
          unfold tkB tkH
          simp only [c7, c8, c9, c10, if_false]
        · rfl
      · rw [eT]
        refine ⟨eT, e6, ?_, ?_, ?_, fun k hk => eW k hk, by omega, c, by omega⟩
        · show tkN (I 1200 0) (I2 11 0 6) 0 = _; rw [e6]
        · show skE (I 1200 0) (I2 11 0 6) 0 = _; rw [e6]
        · show TR _ _ (rkK (I 1200 0) (I2 11 0 6) 0) (rkW (I 1200 0) (I2 11 0 6) 0 (I2 11 0 9)); rw [e6]; exact hT
    rw [← e2] at hgo
    exact hgo
  refine mT_use q2 (fun v I3 q => ?_)
  obtain ⟨rfl, f3, p3⟩ := q
  simp only [mmK_cut cd_168, q_cons, q_G0, q_GS, q_I1, q_L1, q_A1, q_S0, q_S1, q_SS, q_T0, q_T1, q_TS, q_Kn, q_Ki, q_Kl, q_Kr, q_k0, q_kS, q_rc, q_ps, q_pn, q_aload0, q_iconst, q_putfieldI, q_iload1, q_if_lt, q_getfieldI, q_icmp_le, q_bipush, q_ireturn0, q_invV, q_istore2, q_if_eq, q_if_ne, q_iinc, q_goto, q_iload2, mmKo_11, mmR32, mmR64, Option.some.injEq, Int.cast_ofNat_Int, and_true, true_and, if_true, if_false, List.length_cons, List.length_nil, Nat.le_refl, Nat.zero_le, Nat.sub_zero, forall_const, reduceCtorEq, Nat.reduceAdd, Nat.reduceSub, Nat.reduceLeDiff, Nat.reduceEqDiff, Int.reduceAdd, Int.reduceNeg, Int.reduceSub, Int.reduceLT, Int.reduceLE, Int.reduceMul, Int.reduceEq, List.drop_zero, List.drop_succ_cons, ne_eq, not_false_eq_true, not_true_eq_false, false_and, and_false, false_implies, true_implies, reduceIte, mmU_rd, implies_true, or_false, false_or, or_true, true_or]
  have b3 : BL I3 := BL_7 f3 (by
    rw [← hI2]
    refine BL_ext (fun t k ht => ?_) hbl
    rw [plM_o (by omega), o1 _ _ _ (by omega)])
  have m3 : M2 I3 r0 0 := by
    refine M2_7 ?_ f3
    rw [← hI2]
    refine M2_plain hr0 ?_ ?_ ⟨rfl, rfl, rfl, rfl, rfl, rfl, rfl, rfl, rfl, rfl, rfl, rfl, rfl, rfl⟩
    · rw [plM_o (by omega)]; exact v1.2.2.1
    · rw [plM_o (by omega)]; exact v1.2.2.2.1
  have x3 : FrX I I3 := by
    intro t i k ck
    unfold Mt at ck
    rw [f3 _ _ _ (by omega), ← hI2, plM_o (by omega), o1 _ _ _ (by omega)]
  have y3 : I3 11 0 1 = 0 ∧ I3 11 0 2 = 0 := by
    rw [f3 _ _ _ (by omega), f3 _ _ _ (by omega), ← hI2, plM_o (by omega), plM_o (by omega)]
    exact ⟨v1.2.2.2.2.1, v1.2.2.2.2.2⟩
  have key : ∀ (f : Nat) (m p1 o1 : Int) (r1 : mRu) (I4 : mMm), m + f = 701 → 0 ≤ m → m ≤ p1 → FrM I3 I4 → PSr I4 (I 1200 0) n p1 → M2 I4 r1 o1 → BL I4 → RX r1 o1 → txF (I 1200 0) n f p1 r1 o1 m = txF (I 1200 0) n 701 0 r0 0 0 → mmK (d + 7) 168 Q 32 [some (mo 11 0), some (mv n), some (mv m)] [] (I4, mmRf a br, X) := by
    intro f
    induction f with
    | zero =>
      intro m p1 o1 r1 I4 a1 a2 a3 fr hp hM hb hx hz
      have := hp.2.2.2.2.2.2
      omega
    | succ f ih =>
      intro m p1 o1 r1 I4 a1 a2 a3 fr hp hM hb hx hz
      have hpp := hp.2.2.2.2.2.2
      have hn := tk_next (T := I 1200 0) (s := n) (p := p1) (by omega)
      have hE := TR_end hp.2.2.2.2.1
      rw [txF_s] at hz
      have x4 : FrX I I4 := fun t i k ck => (fr.1 t i k (fun q => ck (Or.inl q))).trans (x3 t i k ck)
      have y4 : I4 11 0 1 = 0 ∧ I4 11 0 2 = 0 := by
        rw [fr.1 _ _ _ (by unfold Mt; omega), fr.1 _ _ _ (by unfold Mt; omega)]
        exact y3
      refine mmC_step ?_
      simp only [cd_168, sg_168_0, sg_168_9, sg_168_11, sg_168_32, sg_168_40, sg_168_42, mmK_cut cd_168, q_cons, q_G0, q_GS, q_I1, q_L1, q_A1, q_S0, q_S1, q_SS, q_T0, q_T1, q_TS, q_Kn, q_Ki, q_Kl, q_Kr, q_k0, q_kS, q_rc, q_ps, q_pn, q_aload0, q_iconst, q_putfieldI, q_iload1, q_if_lt, q_getfieldI, q_icmp_le, q_bipush, q_ireturn0, q_invV, q_istore2, q_if_eq, q_if_ne, q_iinc, q_goto, q_iload2, mmKo_11, mmR32, mmR64, Option.some.injEq, Int.cast_ofNat_Int, and_true, true_and, if_true, if_false, List.length_cons, List.length_nil, Nat.le_refl, Nat.zero_le, Nat.sub_zero, forall_const, reduceCtorEq, Nat.reduceAdd, Nat.reduceSub, Nat.reduceLeDiff, Nat.reduceEqDiff, Int.reduceAdd, Int.reduceNeg, Int.reduceSub, Int.reduceLT, Int.reduceLE, Int.reduceMul, Int.reduceEq, List.drop_zero, List.drop_succ_cons, ne_eq, not_false_eq_true, not_true_eq_false, false_and, and_false, false_implies, true_implies, reduceIte, mmU_rd, implies_true, or_false, false_or, or_true, true_or]
      refine ⟨fun c3 => ?_, fun c3 => ?_⟩
      · rw [if_pos (hE.mp c3)] at hz
        refine mmC_step ?_
        simp only [cd_168, sg_168_0, sg_168_9, sg_168_11, sg_168_32, sg_168_40, sg_168_42, mmK_cut cd_168, q_cons, q_G0, q_GS, q_I1, q_L1, q_A1, q_S0, q_S1, q_SS, q_T0, q_T1, q_TS, q_Kn, q_Ki, q_Kl, q_Kr, q_k0, q_kS, q_rc, q_ps, q_pn, q_aload0, q_iconst, q_putfieldI, q_iload1, q_if_lt, q_getfieldI, q_icmp_le, q_bipush, q_ireturn0, q_invV, q_istore2, q_if_eq, q_if_ne, q_iinc, q_goto, q_iload2, mmKo_11, mmR32, mmR64, Option.some.injEq, Int.cast_ofNat_Int, and_true, true_and, if_true, if_false, List.length_cons, List.length_nil, Nat.le_refl, Nat.zero_le, Nat.sub_zero, forall_const, reduceCtorEq, Nat.reduceAdd, Nat.reduceSub, Nat.reduceLeDiff, Nat.reduceEqDiff, Int.reduceAdd, Int.reduceNeg, Int.reduceSub, Int.reduceLT, Int.reduceLE, Int.reduceMul, Int.reduceEq, List.drop_zero, List.drop_succ_cons, ne_eq, not_false_eq_true, not_true_eq_false, false_and, and_false, false_implies, true_implies, reduceIte, mmU_rd, implies_true, or_false, false_or, or_true, true_or]
        obtain ⟨g4, g5, hTo, _⟩ := id hM
        have t31 : I4 11 0 31 = 0 ∨ I4 11 0 31 = 1 := by rw [hTo.2.2.1]; exact tb_01
        have t34 : I4 11 0 34 = 0 ∨ I4 11 0 34 = 1 := by rw [hTo.2.2.2.2.2]; exact tb_01
        refine mT_use (m_keepText t34 t31 (fun k k4 _ => hb k k4)) (fun v I5 q => ?_)
        obtain ⟨rfl, hk⟩ := q
        simp only [mmK_cut cd_168, q_cons, q_G0, q_GS, q_I1, q_L1, q_A1, q_S0, q_S1, q_SS, q_T0, q_T1, q_TS, q_Kn, q_Ki, q_Kl, q_Kr, q_k0, q_kS, q_rc, q_ps, q_pn, q_aload0, q_iconst, q_putfieldI, q_iload1, q_if_lt, q_getfieldI, q_icmp_le, q_bipush, q_ireturn0, q_invV, q_istore2, q_if_eq, q_if_ne, q_iinc, q_goto, q_iload2, mmKo_11, mmR32, mmR64, Option.some.injEq, Int.cast_ofNat_Int, and_true, true_and, if_true, if_false, List.length_cons, List.length_nil, Nat.le_refl, Nat.zero_le, Nat.sub_zero, forall_const, reduceCtorEq, Nat.reduceAdd, Nat.reduceSub, Nat.reduceLeDiff, Nat.reduceEqDiff, Int.reduceAdd, Int.reduceNeg, Int.reduceSub, Int.reduceLT, Int.reduceLE, Int.reduceMul, Int.reduceEq, List.drop_zero, List.drop_succ_cons, ne_eq, not_false_eq_true, not_true_eq_false, false_and, and_false, false_implies, true_implies, reduceIte, mmU_rd, implies_true, or_false, false_or, or_true, true_or]
        have hk' := hk
        obtain ⟨k0, _, ⟨v60, v68, v69, v82⟩, k1, _, _, _, k5⟩ := hk'
        refine hC c c2 m r1 I5 hz.symm (fun t i k ck => ?_) ?_ ?_ ?_ ?_ v60 v68 v69 v82 (RK_kept hM hk) (fun k k4 => by rw [(k5 k k4).1, (k5 k k4).2]; exact hb k k4)
        · rw [k0 t i k (fun q => ck (Or.inr (Or.inl (by omega)))) (fun q => ck (Or.inr (Or.inr q)))]
          exact x4 t i k (fun q => ck (q.imp_right (fun q => Or.inl (by omega))))
        · rw [k0 _ _ _ (by omega) (by omega)]; exact y4.1
        · rw [k0 _ _ _ (by omega) (by omega)]; exact y4.2
        · rw [k0 _ _ _ (by omega) (by omega)]; exact g4
        · rw [k0 _ _ _ (by omega) (by omega)]; exact g5
      · rw [if_neg (fun q => c3 (hE.mpr q))] at hz
        have := hn.2.1 (fun q => c3 (hE.mpr q))
        refine mT_use (m_line hp hM) (fun v I5 q => ?_)
        have ez : ∀ g : Int × mRu × Int → mPR (Int × mRu), pB (tlF (lnF (I 1200 0) n p1 r1 o1) (I 1200 0) n) g = pB (lnF (I 1200 0) n p1 r1 o1) fun x => if tkS (I 1200 0) n x.1 = 3 ∧ tkV (I 1200 0) n x.1 = 59 then g (tkN (I 1200 0) n x.1, x.2.1, x.2.2) else .inl (1, skE (I 1200 0) n x.1) := by
          intro g
          unfold tlF
          cases lnF (I 1200 0) n p1 r1 o1 with
          | inl e => rfl
          | inr y =>
            rw [pB_r, pB_r]
            split <;> rfl
        have hz2 := (ez (fun y => txF (I 1200 0) n f y.1 y.2.1 y.2.2 (m + 1))).trans hz
        rcases q with ⟨e, q1, rfl, q2⟩ | ⟨p', r', o', q1, rfl, q2, q3, q4, q5⟩
        · rw [q1, pB_l] at hz2
          simp only [mmK_cut cd_168, q_cons, q_G0, q_GS, q_I1, q_L1, q_A1, q_S0, q_S1, q_SS, q_T0, q_T1, q_TS, q_Kn, q_Ki, q_Kl, q_Kr, q_k0, q_kS, q_rc, q_ps, q_pn, q_aload0, q_iconst, q_putfieldI, q_iload1, q_if_lt, q_getfieldI, q_icmp_le, q_bipush, q_ireturn0, q_invV, q_istore2, q_if_eq, q_if_ne, q_iinc, q_goto, q_iload2, mmKo_11, mmR32, mmR64, Option.some.injEq, Int.cast_ofNat_Int, and_true, true_and, if_true, if_false, List.length_cons, List.length_nil, Nat.le_refl, Nat.zero_le, Nat.sub_zero, forall_const, reduceCtorEq, Nat.reduceAdd, Nat.reduceSub, Nat.reduceLeDiff, Nat.reduceEqDiff, Int.reduceAdd, Int.reduceNeg, Int.reduceSub, Int.reduceLT, Int.reduceLE, Int.reduceMul, Int.reduceEq, List.drop_zero, List.drop_succ_cons, ne_eq, not_false_eq_true, not_true_eq_false, false_and, and_false, false_implies, true_implies, reduceIte, mmU_rd, implies_true, or_false, false_or, or_true, true_or]
          obtain ⟨u1, u2, u3⟩ := q2
          refine hB c c2 e I5 hz2.symm (fun t i k ck => (u1.1 t i k (fun q => ck (Or.inl q))).trans (x4 t i k ck)) ?_ ?_ u2 u3 ?_
          · rw [u1.1 _ _ _ (by unfold Mt; omega)]; exact y4.1
          · rw [u1.1 _ _ _ (by unfold Mt; omega)]; exact y4.2
          · exact u1.2 hb
        · rw [q1, pB_r] at hz2
          simp only [mmK_cut cd_168, q_cons, q_G0, q_GS, q_I1, q_L1, q_A1, q_S0, q_S1, q_SS, q_T0, q_T1, q_TS, q_Kn, q_Ki, q_Kl, q_Kr, q_k0, q_kS, q_rc, q_ps, q_pn, q_aload0, q_iconst, q_putfieldI, q_iload1, q_if_lt, q_getfieldI, q_icmp_le, q_bipush, q_ireturn0, q_invV, q_istore2, q_if_eq, q_if_ne, q_iinc, q_goto, q_iload2, mmKo_11, mmR32, mmR64, Option.some.injEq, Int.cast_ofNat_Int, and_true, true_and, if_true, if_false, List.length_cons, List.length_nil, Nat.le_refl, Nat.zero_le, Nat.sub_zero, forall_const, reduceCtorEq, Nat.reduceAdd, Nat.reduceSub, Nat.reduceLeDiff, Nat.reduceEqDiff, Int.reduceAdd, Int.reduceNeg, Int.reduceSub, Int.reduceLT, Int.reduceLE, Int.reduceMul, Int.reduceEq, List.drop_zero, List.drop_succ_cons, ne_eq, not_false_eq_true, not_true_eq_false, false_and, and_false, false_implies, true_implies, reduceIte, mmU_rd, implies_true, or_false, false_or, or_true, true_or]
          refine mmC_step ?_
          simp only [cd_168, sg_168_0, sg_168_9, sg_168_11, sg_168_32, sg_168_40, sg_168_42, mmK_cut cd_168, q_cons, q_G0, q_GS, q_I1, q_L1, q_A1, q_S0, q_S1, q_SS, q_T0, q_T1, q_TS, q_Kn, q_Ki, q_Kl, q_Kr, q_k0, q_kS, q_rc, q_ps, q_pn, q_aload0, q_iconst, q_putfieldI, q_iload1, q_if_lt, q_getfieldI, q_icmp_le, q_bipush, q_ireturn0, q_invV, q_istore2, q_if_eq, q_if_ne, q_iinc, q_goto, q_iload2, mmKo_11, mmR32, mmR64, Option.some.injEq, Int.cast_ofNat_Int, and_true, true_and, if_true, if_false, List.length_cons, List.length_nil, Nat.le_refl, Nat.zero_le, Nat.sub_zero, forall_const, reduceCtorEq, Nat.reduceAdd, Nat.reduceSub, Nat.reduceLeDiff, Nat.reduceEqDiff, Int.reduceAdd, Int.reduceNeg, Int.reduceSub, Int.reduceLT, Int.reduceLE, Int.reduceMul, Int.reduceEq, List.drop_zero, List.drop_succ_cons, ne_eq, not_false_eq_true, not_true_eq_false, false_and, and_false, false_implies, true_implies, reduceIte, mmU_rd, implies_true, or_false, false_or, or_true, true_or]
          have hx2 : RX r' o' ∧ p1 < p' ∧ p' ≤ n := by
            unfold tlF at q1
            cases hl : lnF (I 1200 0) n p1 r1 o1 with
            | inl e => rw [hl, pB_l] at q1; cases q1
            | inr y =>
              obtain ⟨y1, y2, y3⟩ := y
              rw [hl, pB_r] at q1
              simp only at q1
              split at q1
              · rename_i c5
                injection q1 with q1
                simp only [Prod.mk.injEq] at q1
                obtain ⟨rfl, rfl, rfl⟩ := q1
                have hh := ln_RX (by omega) hl hx
                have hn2 := tk_next (T := I 1200 0) (s := n) (p := y1) (by omega)
                have := hn2.2.1 (by omega)
                exact ⟨hh.1, by omega, by omega⟩
              · cases q1
          refine ⟨by omega, ih (m + 1) p' o' r' I5 (by omega) (by omega) (by omega) (FrM_trans fr q2) q3 q4 (q5 hb) hx2.1 hz2⟩
  exact key 701 0 0 0 r0 I3 (by omega) (by omega) (by omega) FrM_refl p3 m3 b3 (RC_RX hr0) rfl
end S802
