def pkN (T : Int → Int) (p : Int) (n : Nat) : Nat → Int
  | 0 => 0
  | i + 1 => pkN T p n i * 32 + cW T p n i
theorem pkN_lt {T : Int → Int} {p : Int} {n : Nat} (hl : ∀ i : Int, p ≤ i → i < p + n → 97 ≤ T i ∧ T i ≤ 122) : ∀ i : Nat, 0 ≤ pkN T p n i ∧ pkN T p n i + 1 ≤ p32 i
  | 0 => ⟨Int.le_refl 0, Int.le_refl 1⟩
  | i + 1 => by
    have ih := pkN_lt hl i
    have hc := cW_b hl i
    unfold pkN p32
    omega
theorem p32_le : ∀ i : Nat, i < 6 → p32 i ≤ 33554432
  | 0, _ | 1, _ | 2, _ | 3, _ | 4, _ | 5, _ => by decide
  | i + 6, h => by omega
theorem pkN_6 {T : Int → Int} {p : Int} {n : Nat} (hn : n ≤ 6) : pkN T p n 6 = hN T p n * pwH n := by
  rw [wd7 n hn]
  simp only [pkN]
  omega
def sqK (x : Int) : Int := if x = 60 ∨ x = 61 ∨ x = 62 then 5 else if x = 59 ∨ x = 40 ∨ x = 41 ∨ x = 43 ∨ x = 45 ∨ x = 42 ∨ x = 47 ∨ x = 37 then 4 else 6
def sqW (x y : Int) : Int := if x = 61 then 2 else if x = 60 then (if y = 61 then 1 else if y = 62 then 3 else 0) else if x = 62 then (if y = 61 then 4 else 5) else x
def rnV (T : Int → Int) (p : Int) : Nat → Int
  | 0 => 0
  | k + 1 => if rnV T p k ≤ 9999 then 10 * rnV T p k + T (p + k) - 48 else rnV T p k
theorem rnV_nu {T : Int → Int} {p : Int} : ∀ k : Nat, (∀ i : Int, p ≤ i → i < p + k → 48 ≤ T i ∧ T i ≤ 57) → (0 ≤ rnV T p k ∧ rnV T p k ≤ 99999) ∧ ((rnV T p k ≤ 9999 ∧ nuV T p k = rnV T p k) ∨ (9999 < rnV T p k ∧ 9999 < nuV T p k))
  | 0, _ => by unfold rnV nuV; omega
  | k + 1, h => by
    have ih := rnV_nu (T := T) (p := p) k (fun i h0 h1 => h i h0 (by omega))
    have hc := h (p + k) (by omega) (by omega)
    have hle := nuV_le (T := T) (p := p) k (fun i h0 h1 => h i h0 (by omega))
    unfold rnV nuV
    split <;> split <;> omega
/-- the fields of the reference's token -/
def tkH (g : Int → Int) (nx ki wh at_ : Int) (k : Int) : Int := if k = 7 then nx else if k = 8 then ki else if k = 9 then wh else if k = 10 then at_ else g k
section T46
variable {g : Int → Int} {nx ki wh at_ v : Int}
theorem tkH_r6 : tkH g nx ki wh at_ 6 = g 6 := rfl
theorem tkH_r7 : tkH g nx ki wh at_ 7 = nx := rfl
theorem tkH_r8 : tkH g nx ki wh at_ 8 = ki := rfl
theorem tkH_r9 : tkH g nx ki wh at_ 9 = wh := rfl
theorem tkH_r10 : tkH g nx ki wh at_ 10 = at_ := rfl
theorem tkH_u7 : fup (tkH g nx ki wh at_) 7 v = tkH g v ki wh at_ := by
  funext k; unfold fup tkH; split <;> rfl
theorem tkH_u8 : fup (tkH g nx ki wh at_) 8 v = tkH g nx v wh at_ := by
  funext k; unfold fup tkH; by_cases e : k = 8
  · subst e; rfl
  · simp only [if_neg e]
theorem tkH_u9 : fup (tkH g nx ki wh at_) 9 v = tkH g nx ki v at_ := by
  funext k; unfold fup tkH; by_cases e : k = 9
  · subst e; rfl
  · simp only [if_neg e]
theorem tkH_u10 : fup (tkH g nx ki wh at_) 10 v = tkH g nx ki wh v := by
  funext k; unfold fup tkH; by_cases e : k = 10
  · subst e; rfl
  · simp only [if_neg e]
end T46
section S46
variable {d a j : Nat} {M : Nat → Nat → Int → Int} {br : Nat → Option mmO} {X : mmX} {Q : Option mmV → mmM → Prop} {g : Int → Int} {ki wh at_ : Int}
theorem sq_packed {p q : Int} (hp : 0 ≤ p ∧ p ≤ q ∧ q ≤ 700) (hq : q - p ≤ 6) (hl : ∀ i : Int, p ≤ i → i < q → 97 ≤ M 1200 0 i ∧ M 1200 0 i ≤ 122) (hQ : Q (some (mv (hN (M 1200 0) p (q - p).toNat * pwH (q - p).toNat))) (M, mmRf a br, X)) : mmC (d + 1) 152 [mo 11 0, mv p, mv q] (M, mmRf a br, X) Q := by
  rw [← pkN_6 (by omega)] at hQ
  have hl' : ∀ i : Int, p ≤ i → i < p + ((q - p).toNat : Int) → 97 ≤ M 1200 0 i ∧ M 1200 0 i ≤ 122 := fun i h0 h1 => hl i h0 (by omega)
  have key : ∀ (r i : Nat), i + r = 6 → mmK d 152 Q 4 [some (mo 11 0), some (mv p), some (mv q), some (mv (pkN (M 1200 0) p (q - p).toNat i)), some (mv (p + i))] [] (M, mmRf a br, X) := by
    intro r
    induction r with
    | zero =>
      intro i hi
      have e : i = 6 := by omega
      subst e
      refine mmC_step ?_
      simp only [cd_152, sg_152_0, sg_152_4, sg_152_22, sg_152_23, sg_152_27, mmK_cut cd_152, q_cons, q_G0, q_GS, q_I1, q_L1, q_A1, q_S0, q_S1, q_SS, q_T0, q_T1, q_TS, q_Kn, q_Ki, q_Kl, q_Kr, q_k0, q_kS, q_rc, q_ps, q_pn, q_iconst, q_istore3, q_iload1, q_istore, q_iload, q_bipush, q_iadd, q_icmp_ge, q_iload3, q_ishl, q_iload2, q_aload0, q_getfieldA, q_iaload, q_isub, q_goto, q_ior, q_iinc, q_ireturn0, rf_11_0, mmKe_1200, mmKo_11, mmLen_1200, mmR32, mmR64, Option.some.injEq, Int.cast_ofNat_Int, and_true, true_and, if_true, if_false, List.length_cons, List.length_nil, Nat.le_refl, Nat.zero_le, Nat.sub_zero, forall_const, reduceCtorEq, Nat.reduceAdd, Nat.reduceSub, Nat.reduceLeDiff, Nat.reduceEqDiff, Int.reduceAdd, Int.reduceNeg, Int.reduceSub, Int.reduceLT, Int.reduceLE, Int.reduceMul, Int.reduceEq, List.drop_zero, List.drop_succ_cons, ne_eq, not_false_eq_true, not_true_eq_false, false_and, and_false, false_implies, true_implies, reduceIte, mmU_rd, implies_true, or_false, false_or, or_true, true_or]
      refine ⟨by omega, fun _ => ?_, fun c => by omega⟩
      refine mmC_step ?_
      simp only [cd_152, sg_152_0, sg_152_4, sg_152_22, sg_152_23, sg_152_27, mmK_cut cd_152, q_cons, q_G0, q_GS, q_I1, q_L1, q_A1, q_S0, q_S1, q_SS, q_T0, q_T1, q_TS, q_Kn, q_Ki, q_Kl, q_Kr, q_k0, q_kS, q_rc, q_ps, q_pn, q_iconst, q_istore3, q_iload1, q_istore, q_iload, q_bipush, q_iadd, q_icmp_ge, q_iload3, q_ishl, q_iload2, q_aload0, q_getfieldA, q_iaload, q_isub, q_goto, q_ior, q_iinc, q_ireturn0, rf_11_0, mmKe_1200, mmKo_11, mmLen_1200, mmR32, mmR64, Option.some.injEq, Int.cast_ofNat_Int, and_true, true_and, if_true, if_false, List.length_cons, List.length_nil, Nat.le_refl, Nat.zero_le, Nat.sub_zero, forall_const, reduceCtorEq, Nat.reduceAdd, Nat.reduceSub, Nat.reduceLeDiff, Nat.reduceEqDiff, Int.reduceAdd, Int.reduceNeg, Int.reduceSub, Int.reduceLT, Int.reduceLE, Int.reduceMul, Int.reduceEq, List.drop_zero, List.drop_succ_cons, ne_eq, not_false_eq_true, not_true_eq_false, false_and, and_false, false_implies, true_implies, reduceIte, mmU_rd, implies_true, or_false, false_or, or_true, true_or]
      exact hQ
    | succ r ih =>
      intro i hi
      have hlt := pkN_lt hl' i
      have h32 := p32_le i (by omega)
      have hc := cW_b hl' i
      have ih := ih (i + 1) (by omega)
      rw [show p + ((i + 1 : Nat) : Int) = p + i + 1 by omega] at ih
      have j23 : ∀ v, v = cW (M 1200 0) p (q - p).toNat i → mmK d 152 Q 23 [some (mo 11 0), some (mv p), some (mv q), some (mv (pkN (M 1200 0) p (q - p).toNat i)), some (mv (p + i))] [mv v, mv (mmShl (pkN (M 1200 0) p (q - p).toNat i) 5)] (M, mmRf a br, X) := by
        intro v hv
        subst hv
        refine mmC_step ?_
        simp only [cd_152, sg_152_0, sg_152_4, sg_152_22, sg_152_23, sg_152_27, mmK_cut cd_152, q_cons, q_G0, q_GS, q_I1, q_L1, q_A1, q_S0, q_S1, q_SS, q_T0, q_T1, q_TS, q_Kn, q_Ki, q_Kl, q_Kr, q_k0, q_kS, q_rc, q_ps, q_pn, q_iconst, q_istore3, q_iload1, q_istore, q_iload, q_bipush, q_iadd, q_icmp_ge, q_iload3, q_ishl, q_iload2, q_aload0, q_getfieldA, q_iaload, q_isub, q_goto, q_ior, q_iinc, q_ireturn0, rf_11_0, mmKe_1200, mmKo_11, mmLen_1200, mmR32, mmR64, Option.some.injEq, Int.cast_ofNat_Int, and_true, true_and, if_true, if_false, List.length_cons, List.length_nil, Nat.le_refl, Nat.zero_le, Nat.sub_zero, forall_const, reduceCtorEq, Nat.reduceAdd, Nat.reduceSub, Nat.reduceLeDiff, Nat.reduceEqDiff, Int.reduceAdd, Int.reduceNeg, Int.reduceSub, Int.reduceLT, Int.reduceLE, Int.reduceMul, Int.reduceEq, List.drop_zero, List.drop_succ_cons, ne_eq, not_false_eq_true, not_true_eq_false, false_and, and_false, false_implies, true_implies, reduceIte, mmU_rd, implies_true, or_false, false_or, or_true, true_or]
        have es : mmOr (mmShl (pkN (M 1200 0) p (q - p).toNat i) 5) (cW (M 1200 0) p (q - p).toNat i) = pkN (M 1200 0) p (q - p).toNat i * 32 + cW (M 1200 0) p (q - p).toNat i := by
          rw [mmShl_mul (y := 5) hlt.1 5 rfl (by omega) (by omega)]
          exact or_add 5 hlt.1 (by omega) (by omega) (by omega)
        rw [es]
        refine ⟨by omega, ?_⟩
        exact ih
      refine mmC_step ?_
      simp only [cd_152, sg_152_0, sg_152_4, sg_152_22, sg_152_23, sg_152_27, mmK_cut cd_152, q_cons, q_G0, q_GS, q_I1, q_L1, q_A1, q_S0, q_S1, q_SS, q_T0, q_T1, q_TS, q_Kn, q_Ki, q_Kl, q_Kr, q_k0, q_kS, q_rc, q_ps, q_pn, q_iconst, q_istore3, q_iload1, q_istore, q_iload, q_bipush, q_iadd, q_icmp_ge, q_iload3, q_ishl, q_iload2, q_aload0, q_getfieldA, q_iaload, q_isub, q_goto, q_ior, q_iinc, q_ireturn0, rf_11_0, mmKe_1200, mmKo_11, mmLen_1200, mmR32, mmR64, Option.some.injEq, Int.cast_ofNat_Int, and_true, true_and, if_true, if_false, List.length_cons, List.length_nil, Nat.le_refl, Nat.zero_le, Nat.sub_zero, forall_const, reduceCtorEq, Nat.reduceAdd, Nat.reduceSub, Nat.reduceLeDiff, Nat.reduceEqDiff, Int.reduceAdd, Int.reduceNeg, Int.reduceSub, Int.reduceLT, Int.reduceLE, Int.reduceMul, Int.reduceEq, List.drop_zero, List.drop_succ_cons, ne_eq, not_false_eq_true, not_true_eq_false, false_and, and_false, false_implies, true_implies, reduceIte, mmU_rd, implies_true, or_false, false_or, or_true, true_or]
      refine ⟨by omega, fun c => by omega, fun _ => ⟨fun c => ?_, fun c => ?_⟩⟩
      · refine mmC_step ?_
        simp only [cd_152, sg_152_0, sg_152_4, sg_152_22, sg_152_23, sg_152_27, mmK_cut cd_152, q_cons, q_G0, q_GS, q_I1, q_L1, q_A1, q_S0, q_S1, q_SS, q_T0, q_T1, q_TS, q_Kn, q_Ki, q_Kl, q_Kr, q_k0, q_kS, q_rc, q_ps, q_pn, q_iconst, q_istore3, q_iload1, q_istore, q_iload, q_bipush, q_iadd, q_icmp_ge, q_iload3, q_ishl, q_iload2, q_aload0, q_getfieldA, q_iaload, q_isub, q_goto, q_ior, q_iinc, q_ireturn0, rf_11_0, mmKe_1200, mmKo_11, mmLen_1200, mmR32, mmR64, Option.some.injEq, Int.cast_ofNat_Int, and_true, true_and, if_true, if_false, List.length_cons, List.length_nil, Nat.le_refl, Nat.zero_le, Nat.sub_zero, forall_const, reduceCtorEq, Nat.reduceAdd, Nat.reduceSub, Nat.reduceLeDiff, Nat.reduceEqDiff, Int.reduceAdd, Int.reduceNeg, Int.reduceSub, Int.reduceLT, Int.reduceLE, Int.reduceMul, Int.reduceEq, List.drop_zero, List.drop_succ_cons, ne_eq, not_false_eq_true, not_true_eq_false, false_and, and_false, false_implies, true_implies, reduceIte, mmU_rd, implies_true, or_false, false_or, or_true, true_or]
        exact j23 _ (hc.2 (by omega)).symm
      · have := hc.1 (by omega)
        exact ⟨by omega, by omega, by omega, j23 _ (by omega)⟩
  refine mmC_in (by decide) (Nat.le_of_ble_eq_true rfl) (mmC_step ?_)
  simp only [show mmMl 152 = 5 from rfl, mmLs, List.replicate, cd_152, sg_152_0, sg_152_4, sg_152_22, sg_152_23, sg_152_27, mmK_cut cd_152, q_cons, q_G0, q_GS, q_I1, q_L1, q_A1, q_S0, q_S1, q_SS, q_T0, q_T1, q_TS, q_Kn, q_Ki, q_Kl, q_Kr, q_k0, q_kS, q_rc, q_ps, q_pn, q_iconst, q_istore3, q_iload1, q_istore, q_iload, q_bipush, q_iadd, q_icmp_ge, q_iload3, q_ishl, q_iload2, q_aload0, q_getfieldA, q_iaload, q_isub, q_goto, q_ior, q_iinc, q_ireturn0, rf_11_0, mmKe_1200, mmKo_11, mmLen_1200, mmR32, mmR64, Option.some.injEq, Int.cast_ofNat_Int, and_true, true_and, if_true, if_false, List.length_cons, List.length_nil, Nat.le_refl, Nat.zero_le, Nat.sub_zero, forall_const, reduceCtorEq, Nat.reduceAdd, Nat.reduceSub, Nat.reduceLeDiff, Nat.reduceEqDiff, Int.reduceAdd, Int.reduceNeg, Int.reduceSub, Int.reduceLT, Int.reduceLE, Int.reduceMul, Int.reduceEq, List.drop_zero, List.drop_succ_cons, ne_eq, not_false_eq_true, not_true_eq_false, false_and, and_false, false_implies, true_implies, reduceIte, mmU_rd, implies_true, or_false, false_or, or_true, true_or]
  have := key 6 0 (by omega)
  simp only [Int.ofNat_zero, Int.add_zero] at this
  exact this
theorem sq_signToken {p : Int} (hp : 0 ≤ p ∧ p < g 6) (hs : g 6 ≤ 700) (hQ : Q none (mmUr M 11 0 (tkH g (p + sgN (M 1200 0 p) (bhT (M 1200 0) (g 6) p)) (sqK (M 1200 0 p)) (sqW (M 1200 0 p) (bhT (M 1200 0) (g 6) p)) at_), mmRf a br, X)) : mmC (d + 1) 151 [mo 11 0] (mmUr M 11 0 (tkH g p ki wh at_), mmRf a br, X) Q := by
  have hy : ∃ y, y = bhT (M 1200 0) (g 6) p := ⟨_, rfl⟩
  obtain ⟨y, hy⟩ := hy
  rw [← hy] at hQ
  have hy1 : p + 1 < g 6 → y = M 1200 0 (p + 1) := fun h => by rw [hy]; unfold bhT; rw [if_pos h]
  have hy2 : ¬ (p + 1 < g 6) → y = -1 := fun h => by rw [hy]; unfold bhT; rw [if_neg h]
  have fin : ∀ n k w : Int, n = p + sgN (M 1200 0 p) y → k = sqK (M 1200 0 p) → w = sqW (M 1200 0 p) y → Q none (mmUr M 11 0 (tkH g n k w at_), mmRf a br, X) := by
    intro n k w h1 h2 h3
    rw [h1, h2, h3]; exact hQ
  clear hQ hy
  refine mmC_in (by decide) (Nat.le_of_ble_eq_true rfl) (mmC_step ?_)
  simp only [show mmMl 151 = 4 from rfl, mmLs, List.replicate, cd_151, sg_151_0, sg_151_25, sg_151_36, sg_151_37, sg_151_47, sg_151_48, sg_151_58, sg_151_59, sg_151_64, sg_151_70, sg_151_80, sg_151_88, sg_151_92, sg_151_94, sg_151_98, sg_151_99, sg_151_101, sg_151_133, sg_151_135, sg_151_136, sg_151_142, sg_151_143, sg_151_144, mmK_cut cd_151, q_cons, q_G0, q_GS, q_I1, q_L1, q_A1, q_S0, q_S1, q_SS, q_T0, q_T1, q_TS, q_Kn, q_Ki, q_Kl, q_Kr, q_k0, q_kS, q_rc, q_ps, q_pn, q_aload0, q_getfieldA, q_getfieldI, q_iaload, q_putfieldI, q_dupI, q_dupA, q_iconst, q_iadd, q_bipush, q_icmp_eq, q_icmp_ne, q_icmp_ge, q_goto, q_istore1, q_iload1, q_istore2, q_istore3, q_iload2, q_if_ne, q_iload3, q_if_eq, q_return, rf_11_0, mmKe_1200, mmKo_11, mmLen_1200, mmR32, mmR64, Option.some.injEq, Int.cast_ofNat_Int, and_true, true_and, if_true, if_false, List.length_cons, List.length_nil, Nat.le_refl, Nat.zero_le, Nat.sub_zero, forall_const, reduceCtorEq, Nat.reduceAdd, Nat.reduceSub, Nat.reduceLeDiff, Nat.reduceEqDiff, Int.reduceAdd, Int.reduceNeg, Int.reduceSub, Int.reduceLT, Int.reduceLE, Int.reduceMul, Int.reduceEq, List.drop_zero, List.drop_succ_cons, ne_eq, not_false_eq_true, not_true_eq_false, false_and, and_false, false_implies, true_implies, reduceIte, mmU_rd, implies_true, or_false, false_or, or_true, true_or, mmUr_rd, mmU_Ur2, tkH_r6, tkH_r7, tkH_r8, tkH_r9, tkH_r10, tkH_u7, tkH_u8, tkH_u9, tkH_u10]
  repeat' (first | (refine mmC_step ?_; simp only [cd_151, sg_151_0, sg_151_25, sg_151_36, sg_151_37, sg_151_47, sg_151_48, sg_151_58, sg_151_59, sg_151_64, sg_151_70, sg_151_80, sg_151_88, sg_151_92, sg_151_94, sg_151_98, sg_151_99, sg_151_101, sg_151_133, sg_151_135, sg_151_136, sg_151_142, sg_151_143, sg_151_144, mmK_cut cd_151, q_cons, q_G0, q_GS, q_I1, q_L1, q_A1, q_S0, q_S1, q_SS, q_T0, q_T1, q_TS, q_Kn, q_Ki, q_Kl, q_Kr, q_k0, q_kS, q_rc, q_ps, q_pn, q_aload0, q_getfieldA, q_getfieldI, q_iaload, q_putfieldI, q_dupI, q_dupA, q_iconst, q_iadd, q_bipush, q_icmp_eq, q_icmp_ne, q_icmp_ge, q_goto, q_istore1, q_iload1, q_istore2, q_istore3, q_iload2, q_if_ne, q_iload3, q_if_eq, q_return, rf_11_0, mmKe_1200, mmKo_11, mmLen_1200, mmR32, mmR64, Option.some.injEq, Int.cast_ofNat_Int, and_true, true_and, if_true, if_false, List.length_cons, List.length_nil, Nat.le_refl, Nat.zero_le, Nat.sub_zero, forall_const, reduceCtorEq, Nat.reduceAdd, Nat.reduceSub, Nat.reduceLeDiff, Nat.reduceEqDiff, Int.reduceAdd, Int.reduceNeg, Int.reduceSub, Int.reduceLT, Int.reduceLE, Int.reduceMul, Int.reduceEq, List.drop_zero, List.drop_succ_cons, ne_eq, not_false_eq_true, not_true_eq_false, false_and, and_false, false_implies, true_implies, reduceIte, mmU_rd, implies_true, or_false, false_or, or_true, true_or, mmUr_rd, mmU_Ur2, tkH_r6, tkH_r7, tkH_r8, tkH_r9, tkH_r10, tkH_u7, tkH_u8, tkH_u9, tkH_u10]) | (refine ⟨?_, ?_⟩) | intro _)
  all_goals first | omega | exact fin _ _ _ (by unfold sgN; (repeat' split) <;> omega) (by unfold sqK; (repeat' split) <;> omega) (by unfold sqW; (repeat' split) <;> omega)
end S46
