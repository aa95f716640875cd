def rkF (c : Int) : Int := if c = 0 then 0 else if c = -9 then 1 else if c = -10 then 2 else if c = -11 then 3 else if c = -18 ∨ c = -19 then 5 else if c = -20 ∨ c = -21 then 6 else 4
def sgO (so va : Int) : Int := if so = 1 then (if va = 522190848 then -9 else if va = 48365568 then -10 else -1) else if so = 3 then (if va = 60 then -12 else if va = 256 then -13 else if va = 61 then -14 else if va = 257 then -15 else if va = 258 then -16 else if va = 62 then -17 else if va = 43 then -18 else if va = 45 then -19 else if va = 42 then -20 else if va = 47 then -21 else -1) else -1
def PL (g : Int → Int) : List Int → Prop
  | [] => True
  | c :: P => g P.length = c ∧ PL g P
def nO : List Int → Int
  | [] => 0
  | c :: P => (if c = 0 then 1 else 0) + nO P
def nS : List Int → Int
  | [] => 0
  | c :: P => (if c = 0 then 0 else 1) + nS P
theorem nO_nS : ∀ P : List Int, (P.length : Int) = nO P + nS P ∧ 0 ≤ nO P ∧ 0 ≤ nS P
  | [] => by unfold nO nS; simp
  | c :: P => by
    have := nO_nS P
    unfold nO nS
    rw [List.length_cons]
    split <;> omega
def lad (r : mRu) (c : Int) : mRu := ru (ru r 200 (r 1 2) c) 1 2 (r 1 2 + 1)
def stl (rank : Int) : List Int → mRu → List Int × mRu
  | [], r => ([], r)
  | c :: P, r => if rank ≤ rkF c then stl rank P (lad r c) else (c :: P, r)
theorem stl_c {rank c : Int} {P : List Int} {r : mRu} : stl rank (c :: P) r = if rank ≤ rkF c then stl rank P (lad r c) else (c :: P, r) := rfl
theorem lad_n {r : mRu} {c : Int} : lad r c 1 2 = r 1 2 + 1 := by
  unfold lad ru
  rw [if_pos ⟨rfl, rfl⟩]
theorem lad_o {r : mRu} {c x : Int} {t : Nat} (h : ¬ (t = 1 ∨ t = 200)) : lad r c t x = r t x := by
  unfold lad ru
  rw [if_neg (by omega), if_neg (by omega)]
theorem PL_ext {g g' : Int → Int} : ∀ {P : List Int}, (∀ k, 0 ≤ k → k < P.length → g' k = g k) → PL g P → PL g' P
  | [], _, _ => trivial
  | c :: P, h, q => by
    rw [List.length_cons] at h
    refine ⟨?_, PL_ext (fun k h0 h1 => h k h0 (by omega)) q.2⟩
    rw [h _ (by omega) (by omega)]
    exact q.1
def LVc (I : mMm) (P : List Int) (op kn : Int) : Prop := I 2 0 1 = P.length ∧ I 2 0 2 = op ∧ I 2 0 3 = kn ∧ PL (I 300 0) P
section S64
variable {d a j : Nat} {I I' : mMm} {br : Nat → Option mmO} {R : Nat → Nat → Int → Option mmO} {X : mmX} {T : Int → Int} {s p o : Int} {r : mRu} {Q : Option mmV → mmM → Prop}
theorem sp_rankOf {c : Int} (hQ : Q (some (mv (rkF c))) (I, R, X)) : mmC (d + 1) 33 [mv c] (I, R, X) Q := by
  have hQ' : ∀ z, z = rkF c → Q (some (mv z)) (I, R, X) := fun z hz => by rw [hz]; exact hQ
  refine mmC_in (by decide) (Nat.le_of_ble_eq_true rfl) (mmC_step ?_)
  simp only [show mmMl 33 = 1 from rfl, mmLs, List.replicate, cd_33, sg_33_0, sg_33_2, sg_33_4, sg_33_6, sg_33_8, sg_33_10, sg_33_12, sg_33_14, mmK_cut cd_33, q_cons, q_G0, q_GS, q_I1, q_L1, q_A1, q_S0, q_S1, q_SS, q_T0, q_T1, q_TS, q_Kn, q_Ki, q_Kl, q_Kr, q_k0, q_kS, q_rc, q_ps, q_pn, q_iload0, q_w0, q_wS, q_l0, q_lS, q_tableswitch, q_iconst, q_ireturn0, q_bipush, mmR32, mmR64, Option.some.injEq, Int.cast_ofNat_Int, and_true, true_and, if_true, if_false, List.length_cons, List.length_nil, Nat.le_refl, Nat.zero_le, Nat.sub_zero, forall_const, reduceCtorEq, Nat.reduceAdd, Nat.reduceSub, Nat.reduceLeDiff, Nat.reduceEqDiff, Int.reduceAdd, Int.reduceNeg, Int.reduceSub, Int.reduceLT, Int.reduceLE, Int.reduceMul, Int.reduceEq, List.drop_zero, List.drop_succ_cons, ne_eq, not_false_eq_true, not_true_eq_false, false_and, and_false, false_implies, true_implies, reduceIte, mmU_rd, implies_true, or_false, false_or, or_true, true_or]
  repeat' (first | (refine mmC_step ?_; simp only [cd_33, sg_33_0, sg_33_2, sg_33_4, sg_33_6, sg_33_8, sg_33_10, sg_33_12, sg_33_14, mmK_cut cd_33, q_cons, q_G0, q_GS, q_I1, q_L1, q_A1, q_S0, q_S1, q_SS, q_T0, q_T1, q_TS, q_Kn, q_Ki, q_Kl, q_Kr, q_k0, q_kS, q_rc, q_ps, q_pn, q_iload0, q_w0, q_wS, q_l0, q_lS, q_tableswitch, q_iconst, q_ireturn0, q_bipush, mmR32, mmR64, Option.some.injEq, Int.cast_ofNat_Int, and_true, true_and, if_true, if_false, List.length_cons, List.length_nil, Nat.le_refl, Nat.zero_le, Nat.sub_zero, forall_const, reduceCtorEq, Nat.reduceAdd, Nat.reduceSub, Nat.reduceLeDiff, Nat.reduceEqDiff, Int.reduceAdd, Int.reduceNeg, Int.reduceSub, Int.reduceLT, Int.reduceLE, Int.reduceMul, Int.reduceEq, List.drop_zero, List.drop_succ_cons, ne_eq, not_false_eq_true, not_true_eq_false, false_and, and_false, false_implies, true_implies, reduceIte, mmU_rd, implies_true, or_false, false_or, or_true, true_or]) | (refine ⟨?_, ?_⟩) | intro _)
  all_goals first
    | (refine hQ' _ ?_; rename_i h; rw [h]; rfl)
    | (refine hQ' _ ?_; unfold rkF; rw [if_neg (by omega), if_neg (by omega), if_neg (by omega), if_neg (by omega), if_neg (by omega), if_neg (by omega)])
theorem sp_signOf (hQ : Q (some (mv (sgO (I 8 0 4) (I 8 0 5)))) (I, mmRf a br, X)) : mmC (d + 1) 32 [mo 8 0] (I, mmRf a br, X) Q := by
  have hQ' : ∀ z, z = sgO (I 8 0 4) (I 8 0 5) → Q (some (mv z)) (I, mmRf a br, X) := fun z hz => by rw [hz]; exact hQ
  refine mmC_in (by decide) (Nat.le_of_ble_eq_true rfl) (mmC_step ?_)
  simp only [show mmMl 32 = 1 from rfl, mmLs, List.replicate, cd_32, sg_32_0, sg_32_10, sg_32_16, sg_32_17, sg_32_18, sg_32_24, sg_32_27, sg_32_29, sg_32_31, sg_32_33, sg_32_35, sg_32_37, sg_32_39, sg_32_41, sg_32_43, sg_32_45, sg_32_47, mmK_cut cd_32, q_cons, q_G0, q_GS, q_I1, q_L1, q_A1, q_S0, q_S1, q_SS, q_T0, q_T1, q_TS, q_Kn, q_Ki, q_Kl, q_Kr, q_k0, q_kS, q_rc, q_ps, q_pn, q_aload0, q_getfieldI, q_iconst, q_icmp_ne, q_ldc, q_bipush, q_ireturn0, q_goto, q_icmp_eq, q_w0, q_wS, q_l0, q_lS, q_lookupswitch, mmKo_8, mmR32, mmR64, Option.some.injEq, Int.cast_ofNat_Int, and_true, true_and, if_true, if_false, List.length_cons, List.length_nil, Nat.le_refl, Nat.zero_le, Nat.sub_zero, forall_const, reduceCtorEq, Nat.reduceAdd, Nat.reduceSub, Nat.reduceLeDiff, Nat.reduceEqDiff, Int.reduceAdd, Int.reduceNeg, Int.reduceSub, Int.reduceLT, Int.reduceLE, Int.reduceMul, Int.reduceEq, List.drop_zero, List.drop_succ_cons, ne_eq, not_false_eq_true, not_true_eq_false, false_and, and_false, false_implies, true_implies, reduceIte, mmU_rd, implies_true, or_false, false_or, or_true, true_or]
  repeat' (first | (refine mmC_step ?_; simp only [cd_32, sg_32_0, sg_32_10, sg_32_16, sg_32_17, sg_32_18, sg_32_24, sg_32_27, sg_32_29, sg_32_31, sg_32_33, sg_32_35, sg_32_37, sg_32_39, sg_32_41, sg_32_43, sg_32_45, sg_32_47, mmK_cut cd_32, q_cons, q_G0, q_GS, q_I1, q_L1, q_A1, q_S0, q_S1, q_SS, q_T0, q_T1, q_TS, q_Kn, q_Ki, q_Kl, q_Kr, q_k0, q_kS, q_rc, q_ps, q_pn, q_aload0, q_getfieldI, q_iconst, q_icmp_ne, q_ldc, q_bipush, q_ireturn0, q_goto, q_icmp_eq, q_w0, q_wS, q_l0, q_lS, q_lookupswitch, mmKo_8, mmR32, mmR64, Option.some.injEq, Int.cast_ofNat_Int, and_true, true_and, if_true, if_false, List.length_cons, List.length_nil, Nat.le_refl, Nat.zero_le, Nat.sub_zero, forall_const, reduceCtorEq, Nat.reduceAdd, Nat.reduceSub, Nat.reduceLeDiff, Nat.reduceEqDiff, Int.reduceAdd, Int.reduceNeg, Int.reduceSub, Int.reduceLT, Int.reduceLE, Int.reduceMul, Int.reduceEq, List.drop_zero, List.drop_succ_cons, ne_eq, not_false_eq_true, not_true_eq_false, false_and, and_false, false_implies, true_implies, reduceIte, mmU_rd, implies_true, or_false, false_or, or_true, true_or]) | (refine ⟨?_, ?_⟩) | intro _)
  all_goals (refine hQ' _ ?_; unfold sgO; simp (config := { decide := true }) only [*, if_true, if_false])
theorem LVc_ext {P : List Int} {op kn : Int} (h : LVc I P op kn) (h1 : ∀ k, I' 2 0 k = I 2 0 k) (h2 : ∀ k, I' 300 0 k = I 300 0 k) : LVc I' P op kn := by
  obtain ⟨g1, g2, g3, g4⟩ := h
  exact ⟨(h1 _).trans g1, (h1 _).trans g2, (h1 _).trans g3, PL_ext (fun k _ _ => h2 k) g4⟩
theorem FrC_x {t i : Nat} {k v : Int} (ht : t = 2 ∨ t = 300) : FrC j I (mmU I t i k v) := by
  refine ⟨fun t' i k' c => ?_, ?_⟩
  · unfold mmU
    rw [if_neg]
    rintro ⟨rfl, rfl, rfl⟩
    omega
  · unfold mmU
    rw [if_neg (by omega)]
theorem CV_x {t i : Nat} {k v : Int} (ht : t = 2 ∨ t = 300) (h : CV I T s p r o j) : CV (mmU I t i k v) T s p r o j := by
  obtain ⟨⟨h1, h2, h3, h4, h5, h6⟩, h7, h8, h9, h10, h11⟩ := h
  have e : ∀ t' i' k', (t' = 8 ∨ t' = 900 ∨ t' = 4 ∨ rtag t') → mmU I t i k v t' i' k' = I t' i' k' := by
    intro t' i' k' c
    unfold mmU
    rw [if_neg]
    unfold rtag at c
    omega
  refine ⟨⟨?_, ?_, ?_, ?_, ?_, ?_⟩, ?_, ?_, ?_, ?_, h11⟩
  · funext k'; rw [e _ _ _ (by omega), h1]
  all_goals first | (rw [e _ _ _ (by omega)]; assumption) | skip
  intro t' k' ht'
  rw [e _ _ _ (Or.inr (Or.inr (Or.inr ht')))]
  exact h10 t' k' ht'
theorem c_adv8 (h : CV I T s p r o j) : mmC (d + 2) 93 [mo 8 0] (I, mmRf a br, X) (mT a br X fun v I' => v = none ∧ FrC j I I' ∧ CV I' T s (tkN T s p) r o j ∧ ∀ t i k, ¬ t = 8 → I' t i k = I t i k) := by
  obtain ⟨h1, h2, h3, h4, h5, h6, h7, h8⟩ := h
  have hn := tk_next (T := T) ⟨h6, h7⟩
  refine sp_advP h1 ⟨h6, h7⟩ h8 (fun I' q1 q2 q3 q4 q5 => mT_in ⟨rfl, FrC_8 q1 q2, ⟨q5, by omega, by omega, ?_, fun t k ht => ?_, by omega, by omega, h8⟩, q1⟩)
  · rw [q1 _ _ _ (by omega)]; exact h4
  · rw [q1 _ _ _ (by unfold rtag at ht; omega)]; exact h5 t k ht
theorem c_push {P : List Int} {op kn c : Int} (h : CV I T s p r o j) (hl : LVc I P op kn) (hP : P.length < 72) : mmC (d + 1) 30 [mo 2 0, mv c] (I, mmRf a br, X) (mT a br X fun v I' => v = none ∧ FrC j I I' ∧ CV I' T s p r o j ∧ LVc I' (c :: P) op kn) := by
  obtain ⟨g1, g2, g3, g4⟩ := hl
  refine mmC_in (by decide) (Nat.le_of_ble_eq_true rfl) (mmC_step ?_)
  simp only [show mmMl 30 = 2 from rfl, mmLs, List.replicate, cd_30, sg_30_0, sg_30_18, mmK_cut cd_30, q_cons, q_G0, q_GS, q_I1, q_L1, q_A1, q_S0, q_S1, q_SS, q_T0, q_T1, q_TS, q_Kn, q_Ki, q_Kl, q_Kr, q_k0, q_kS, q_rc, q_ps, q_pn, q_aload0, q_getfieldI, q_getfieldA, q_arraylength, q_icmp_ge, q_iload1, q_iastore, q_dupI, q_dupA, q_iconst, q_iadd, q_putfieldI, q_return, rf_2_0, mmKe_300, mmKo_2, mmLen_300, mmR32, mmR64, Option.some.injEq, Int.cast_ofNat_Int, and_true, true_and, if_true, if_false, List.length_cons, List.length_nil, Nat.le_refl, Nat.zero_le, Nat.sub_zero, forall_const, reduceCtorEq, Nat.reduceAdd, Nat.reduceSub, Nat.reduceLeDiff, Nat.reduceEqDiff, Int.reduceAdd, Int.reduceNeg, Int.reduceSub, Int.reduceLT, Int.reduceLE, Int.reduceMul, Int.reduceEq, List.drop_zero, List.drop_succ_cons, ne_eq, not_false_eq_true, not_true_eq_false, false_and, and_false, false_implies, true_implies, reduceIte, mmU_rd, implies_true, or_false, false_or, or_true, true_or]
  rw [g1]
  refine ⟨by omega, fun q => by omega, fun q => ⟨by omega, by omega, by omega, ?_⟩⟩
  refine mmC_step ?_
  simp only [cd_30, sg_30_0, sg_30_18, mmK_cut cd_30, q_cons, q_G0, q_GS, q_I1, q_L1, q_A1, q_S0, q_S1, q_SS, q_T0, q_T1, q_TS, q_Kn, q_Ki, q_Kl, q_Kr, q_k0, q_kS, q_rc, q_ps, q_pn, q_aload0, q_getfieldI, q_getfieldA, q_arraylength, q_icmp_ge, q_iload1, q_iastore, q_dupI, q_dupA, q_iconst, q_iadd, q_putfieldI, q_return, rf_2_0, mmKe_300, mmKo_2, mmLen_300, mmR32, mmR64, Option.some.injEq, Int.cast_ofNat_Int, and_true, true_and, if_true, if_false, List.length_cons, List.length_nil, Nat.le_refl, Nat.zero_le, Nat.sub_zero, forall_const, reduceCtorEq, Nat.reduceAdd, Nat.reduceSub, Nat.reduceLeDiff, Nat.reduceEqDiff, Int.reduceAdd, Int.reduceNeg, Int.reduceSub, Int.reduceLT, Int.reduceLE, Int.reduceMul, Int.reduceEq, List.drop_zero, List.drop_succ_cons, ne_eq, not_false_eq_true, not_true_eq_false, false_and, and_false, false_implies, true_implies, reduceIte, mmU_rd, implies_true, or_false, false_or, or_true, true_or]
  refine mT_in ⟨rfl, FrC_trans (FrC_x (by omega)) (FrC_x (by omega)), CV_x (by omega) (CV_x (by omega) h), ?_, g2, g3, ?_, ?_⟩
  · rw [List.length_cons]
    show (P.length : Int) + 1 = _
    omega
  · unfold mmU
    rw [if_neg (by omega), if_pos ⟨rfl, rfl, rfl⟩]
  · refine PL_ext (fun k h0 h1 => ?_) g4
    unfold mmU
    rw [if_neg (by omega), if_neg (by omega)]
theorem stl_fr {rank : Int} : ∀ (P : List Int) (r : mRu) (t : Nat) (x : Int), ¬ (t = 1 ∨ t = 200) → (stl rank P r).2 t x = r t x
  | [], r, t, x, _ => rfl
  | c :: P, r, t, x, h => by
    rw [stl_c]
    split
    · rw [stl_fr P _ t x h, lad_o h]
    · rfl
theorem stl_in {rank : Int} (hr : 1 ≤ rank) : ∀ (P : List Int) (r : mRu), nO (stl rank P r).1 = nO P ∧ (stl rank P r).2 1 2 + nS (stl rank P r).1 = r 1 2 + nS P ∧ r 1 2 ≤ (stl rank P r).2 1 2
  | [], r => ⟨rfl, rfl, Int.le_refl _⟩
  | c :: P, r => by
    rw [stl_c]
    split
    · rename_i h
      have ih := stl_in hr P (lad r c)
      have hc : ¬ c = 0 := by
        intro q
        subst q
        unfold rkF at h
        rw [if_pos rfl] at h
        omega
      rw [lad_n] at ih
      have e1 : nO (c :: P) = nO P := by
        show (if c = 0 then 1 else 0) + nO P = _
        rw [if_neg hc]; omega
      have e2 : nS (c :: P) = 1 + nS P := by
        show (if c = 0 then 0 else 1) + nS P = _
        rw [if_neg hc]
      rw [e1, e2]
      omega
    · exact ⟨rfl, rfl, Int.le_refl _⟩
set_option maxHeartbeats 1000000 in
theorem c_settle {rank op kn : Int} (hr : 1 ≤ rank) {P : List Int} (h : CV I T s p r o j) (hl : LVc I P op kn) (hP : P.length ≤ 72) (hn : 0 ≤ r 1 2 ∧ r 1 2 + nS P ≤ 64) : mmC (d + 2) 31 [mo 2 0, mo 1 j, mv rank] (I, mmRf a br, X) (mT a br X fun v I' => v = none ∧ FrC j I I' ∧ CV I' T s p (stl rank P r).2 o j ∧ LVc I' (stl rank P r).1 op kn) := by
  generalize hZ : stl rank P r = Z
  have key : ∀ (P1 : List Int) (r1 : mRu) (I1 : mMm), FrC j I I1 → CV I1 T s p r1 o j → LVc I1 P1 op kn → P1.length ≤ 72 → (0 ≤ r1 1 2 ∧ r1 1 2 + nS P1 ≤ 64) → stl rank P1 r1 = Z → mmK (d + 1) 31 (mT a br X fun v I' => v = none ∧ FrC j I I' ∧ CV I' T s p Z.2 o j ∧ LVc I' Z.1 op kn) 0 [some (mo 2 0), some (mo 1 j), some (mv rank)] [] (I1, mmRf a br, X) := by
    intro P1
    induction P1 with
    | nil =>
      intro r1 I1 fr hc hl hP1 hn1 hz
      refine mmC_step ?_
      simp only [cd_31, sg_31_0, sg_31_27, mmK_cut cd_31, q_cons, q_G0, q_GS, q_I1, q_L1, q_A1, q_S0, q_S1, q_SS, q_T0, q_T1, q_TS, q_Kn, q_Ki, q_Kl, q_Kr, q_k0, q_kS, q_rc, q_ps, q_pn, q_aload0, q_getfieldI, q_if_le, q_getfieldA, q_iconst, q_isub, q_iaload, q_invS, q_iload2, q_icmp_lt, q_dupI, q_dupA, q_putfieldI, q_aload1, q_invV, q_goto, q_return, rf_2_0, mmKe_300, mmKo_1, mmKo_2, mmLen_300, mmR32, mmR64, Option.some.injEq, Int.cast_ofNat_Int, and_true, true_and, if_true, if_false, List.length_cons, List.length_nil, Nat.le_refl, Nat.zero_le, Nat.sub_zero, forall_const, reduceCtorEq, Nat.reduceAdd, Nat.reduceSub, Nat.reduceLeDiff, Nat.reduceEqDiff, Int.reduceAdd, Int.reduceNeg, Int.reduceSub, Int.reduceLT, Int.reduceLE, Int.reduceMul, Int.reduceEq, List.drop_zero, List.drop_succ_cons, ne_eq, not_false_eq_true, not_true_eq_false, false_and, and_false, false_implies, true_implies, reduceIte, mmU_rd, implies_true, or_false, false_or, or_true, true_or]
      rw [hl.1]
      refine ⟨fun _ => ?_, fun q => by rw [List.length_nil] at q; omega⟩
      refine mmC_step ?_
      simp only [cd_31, sg_31_0, sg_31_27, mmK_cut cd_31, q_cons, q_G0, q_GS, q_I1, q_L1, q_A1, q_S0, q_S1, q_SS, q_T0, q_T1, q_TS, q_Kn, q_Ki, q_Kl, q_Kr, q_k0, q_kS, q_rc, q_ps, q_pn, q_aload0, q_getfieldI, q_if_le, q_getfieldA, q_iconst, q_isub, q_iaload, q_invS, q_iload2, q_icmp_lt, q_dupI, q_dupA, q_putfieldI, q_aload1, q_invV, q_goto, q_return, rf_2_0, mmKe_300, mmKo_1, mmKo_2, mmLen_300, mmR32, mmR64, Option.some.injEq, Int.cast_ofNat_Int, and_true, true_and, if_true, if_false, List.length_cons, List.length_nil, Nat.le_refl, Nat.zero_le, Nat.sub_zero, forall_const, reduceCtorEq, Nat.reduceAdd, Nat.reduceSub, Nat.reduceLeDiff, Nat.reduceEqDiff, Int.reduceAdd, Int.reduceNeg, Int.reduceSub, Int.reduceLT, Int.reduceLE, Int.reduceMul, Int.reduceEq, List.drop_zero, List.drop_succ_cons, ne_eq, not_false_eq_true, not_true_eq_false, false_and, and_false, false_implies, true_implies, reduceIte, mmU_rd, implies_true, or_false, false_or, or_true, true_or]
      rw [← hz]
      exact mT_in ⟨rfl, fr, hc, hl⟩
    | cons c P1 ih =>
      intro r1 I1 fr hc hl hP1 hn1 hz
      obtain ⟨g1, g2, g3, g4, g5⟩ := id hl
      rw [List.length_cons] at g1 hP1
      have hns := nO_nS P1
      have e1 : I1 2 0 1 = (P1.length : Int) + 1 := by rw [g1]; omega
      rw [stl_c] at hz
      refine mmC_step ?_
      simp only [cd_31, sg_31_0, sg_31_27, mmK_cut cd_31, q_cons, q_G0, q_GS, q_I1, q_L1, q_A1, q_S0, q_S1, q_SS, q_T0, q_T1, q_TS, q_Kn, q_Ki, q_Kl, q_Kr, q_k0, q_kS, q_rc, q_ps, q_pn, q_aload0, q_getfieldI, q_if_le, q_getfieldA, q_iconst, q_isub, q_iaload, q_invS, q_iload2, q_icmp_lt, q_dupI, q_dupA, q_putfieldI, q_aload1, q_invV, q_goto, q_return, rf_2_0, mmKe_300, mmKo_1, mmKo_2, mmLen_300, mmR32, mmR64, Option.some.injEq, Int.cast_ofNat_Int, and_true, true_and, if_true, if_false, List.length_cons, List.length_nil, Nat.le_refl, Nat.zero_le, Nat.sub_zero, forall_const, reduceCtorEq, Nat.reduceAdd, Nat.reduceSub, Nat.reduceLeDiff, Nat.reduceEqDiff, Int.reduceAdd, Int.reduceNeg, Int.reduceSub, Int.reduceLT, Int.reduceLE, Int.reduceMul, Int.reduceEq, List.drop_zero, List.drop_succ_cons, ne_eq, not_false_eq_true, not_true_eq_false, false_and, and_false, false_implies, true_implies, reduceIte, mmU_rd, implies_true, or_false, false_or, or_true, true_or]
      rw [e1]
      refine ⟨fun q => by omega, fun _ => ⟨by omega, by omega, by omega, ?_⟩⟩
      rw [show (P1.length : Int) + 1 - 1 = P1.length by omega, g4]
      refine sp_rankOf ?_
      simp only [mmK_cut cd_31, q_cons, q_G0, q_GS, q_I1, q_L1, q_A1, q_S0, q_S1, q_SS, q_T0, q_T1, q_TS, q_Kn, q_Ki, q_Kl, q_Kr, q_k0, q_kS, q_rc, q_ps, q_pn, q_aload0, q_getfieldI, q_if_le, q_getfieldA, q_iconst, q_isub, q_iaload, q_invS, q_iload2, q_icmp_lt, q_dupI, q_dupA, q_putfieldI, q_aload1, q_invV, q_goto, q_return, rf_2_0, mmKe_300, mmKo_1, mmKo_2, mmLen_300, mmR32, mmR64, Option.some.injEq, Int.cast_ofNat_Int, and_true, true_and, if_true, if_false, List.length_cons, List.length_nil, Nat.le_refl, Nat.zero_le, Nat.sub_zero, forall_const, reduceCtorEq, Nat.reduceAdd, Nat.reduceSub, Nat.reduceLeDiff, Nat.reduceEqDiff, Int.reduceAdd, Int.reduceNeg, Int.reduceSub, Int.reduceLT, Int.reduceLE, Int.reduceMul, Int.reduceEq, List.drop_zero, List.drop_succ_cons, ne_eq, not_false_eq_true, not_true_eq_false, false_and, and_false, false_implies, true_implies, reduceIte, mmU_rd, implies_true, or_false, false_or, or_true, true_or]
      refine ⟨fun q => ?_, fun q => ?_⟩
      · refine mmC_step ?_
        simp only [cd_31, sg_31_0, sg_31_27, mmK_cut cd_31, q_cons, q_G0, q_GS, q_I1, q_L1, q_A1, q_S0, q_S1, q_SS, q_T0, q_T1, q_TS, q_Kn, q_Ki, q_Kl, q_Kr, q_k0, q_kS, q_rc, q_ps, q_pn, q_aload0, q_getfieldI, q_if_le, q_getfieldA, q_iconst, q_isub, q_iaload, q_invS, q_iload2, q_icmp_lt, q_dupI, q_dupA, q_putfieldI, q_aload1, q_invV, q_goto, q_return, rf_2_0, mmKe_300, mmKo_1, mmKo_2, mmLen_300, mmR32, mmR64, Option.some.injEq, Int.cast_ofNat_Int, and_true, true_and, if_true, if_false, List.length_cons, List.length_nil, Nat.le_refl, Nat.zero_le, Nat.sub_zero, forall_const, reduceCtorEq, Nat.reduceAdd, Nat.reduceSub, Nat.reduceLeDiff, Nat.reduceEqDiff, Int.reduceAdd, Int.reduceNeg, Int.reduceSub, Int.reduceLT, Int.reduceLE, Int.reduceMul, Int.reduceEq, List.drop_zero, List.drop_succ_cons, ne_eq, not_false_eq_true, not_true_eq_false, false_and, and_false, false_implies, true_implies, reduceIte, mmU_rd, implies_true, or_false, false_or, or_true, true_or]
        rw [if_neg (by omega)] at hz
        rw [← hz]
        exact mT_in ⟨rfl, fr, hc, hl⟩
      · rw [if_pos q] at hz
        have hc0 : ¬ c = 0 := by
          intro q'
          subst q'
          unfold rkF at q
          rw [if_pos rfl] at q
          omega
        have hns2 : nS (c :: P1) = 1 + nS P1 := by
          show (if c = 0 then 0 else 1) + nS P1 = _
          rw [if_neg hc0]
        rw [e1]
        refine ⟨by omega, by omega, by omega, ?_⟩
        rw [show (P1.length : Int) + 1 - 1 = P1.length by omega, g4]
        have en : (mmU I1 2 0 1 P1.length) 1 j 2 = r1 1 2 := CV_r hc (Or.inr (Or.inl rfl))
        have en' : I1 1 j 2 = r1 1 2 := en
        refine sp_lawAdd (by rw [en]; omega) ?_
        simp only [mmK_cut cd_31, q_cons, q_G0, q_GS, q_I1, q_L1, q_A1, q_S0, q_S1, q_SS, q_T0, q_T1, q_TS, q_Kn, q_Ki, q_Kl, q_Kr, q_k0, q_kS, q_rc, q_ps, q_pn, q_aload0, q_getfieldI, q_if_le, q_getfieldA, q_iconst, q_isub, q_iaload, q_invS, q_iload2, q_icmp_lt, q_dupI, q_dupA, q_putfieldI, q_aload1, q_invV, q_goto, q_return, rf_2_0, mmKe_300, mmKo_1, mmKo_2, mmLen_300, mmR32, mmR64, Option.some.injEq, Int.cast_ofNat_Int, and_true, true_and, if_true, if_false, List.length_cons, List.length_nil, Nat.le_refl, Nat.zero_le, Nat.sub_zero, forall_const, reduceCtorEq, Nat.reduceAdd, Nat.reduceSub, Nat.reduceLeDiff, Nat.reduceEqDiff, Int.reduceAdd, Int.reduceNeg, Int.reduceSub, Int.reduceLT, Int.reduceLE, Int.reduceMul, Int.reduceEq, List.drop_zero, List.drop_succ_cons, ne_eq, not_false_eq_true, not_true_eq_false, false_and, and_false, false_implies, true_implies, reduceIte, mmU_rd, implies_true, or_false, false_or, or_true, true_or]
        rw [en']
        refine ih (lad r1 c) _ ?_ ?_ ?_ (by omega) (by rw [lad_n]; omega) hz
        · exact FrC_trans (FrC_trans (FrC_trans fr (FrC_x (by omega))) (FrC_U (Or.inr (Or.inr (Or.inl rfl))))) (FrC_U (Or.inr (Or.inl rfl)))
        · exact CV_U (Or.inr (Or.inl rfl)) (CV_U (Or.inr (Or.inr (Or.inl rfl))) (CV_x (by omega) hc))
        · refine ⟨?_, ?_, ?_, ?_⟩
          · rfl
          · exact g2
          · exact g3
          · exact PL_ext (fun k h0 h1 => rfl) g5
  refine mmC_in (by decide) (Nat.le_of_ble_eq_true rfl) ?_
  exact key P r I FrC_refl h hl hP hn hZ
end S64
