theorem l_toI {z : Int64} {n : Nat} (h : z.toBitVec.toNat = n) (hn : n < 2 ^ 63) : z.toInt = n := by
  show z.toBitVec.toInt = n
  rw [BitVec.toInt_eq_toNat_of_lt (by omega), h]
theorem l_bv {x : Int} (h0 : 0 ≤ x) (h1 : x < 9223372036854775808) : (Int64.ofInt x).toBitVec.toNat = x.toNat := by
  rw [Int64.toBitVec_ofInt, BitVec.toNat_ofInt]
  omega
theorem ls4 {x : Int} (h0 : 0 ≤ x) (h1 : x < 288230376151711744) : mmLshl x 4 = x * 16 := by
  unfold mmLshl
  have e : (Int32.ofInt 4).toInt64 &&& 63 = 4 := by decide
  have e2 : ((4 : Int64).toBitVec.smod 64).toNat = 4 := by decide
  rw [e]
  refine (l_toI (n := x.toNat * 16) ?_ (by omega)).trans (by omega)
  rw [Int64.toBitVec_shiftLeft, BitVec.shiftLeft_eq', BitVec.toNat_shiftLeft, e2, l_bv h0 (by omega), Nat.shiftLeft_eq]
  omega
theorem lo4 {x y : Int} (h0 : 0 ≤ x) (h1 : x < 288230376151711744) (hy : 0 ≤ y ∧ y < 16) : mmLor (x * 16) y = x * 16 + y := by
  unfold mmLor
  refine (l_toI (n := x.toNat * 16 + y.toNat) ?_ (by omega)).trans (by omega)
  rw [Int64.toBitVec_or, BitVec.toNat_or, l_bv (by omega) (by omega), l_bv hy.1 (by omega)]
  have e : (x * 16).toNat = x.toNat * 2 ^ 4 := by omega
  rw [e, ← Nat.shiftLeft_eq, ← Nat.shiftLeft_add_eq_or_of_lt (by omega), Nat.shiftLeft_eq]
/-- a board as a number, 4 bits a point -/
def kyV (B : mBd) (lo : Int) : Nat → Int
  | 0 => 0
  | n + 1 => kyV B lo n * 16 + (B (lo + n) + 2)
def p16 : Nat → Int
  | 0 => 1
  | n + 1 => 16 * p16 n
theorem p16_mono {n : Nat} : ∀ {m : Nat}, n ≤ m → 1 ≤ p16 n ∧ p16 n ≤ p16 m := by
  have h1 : ∀ k : Nat, 1 ≤ p16 k := by
    intro k
    induction k with
    | zero => decide
    | succ k ih =>
      have e : p16 (k + 1) = 16 * p16 k := rfl
      omega
  intro m
  induction m with
  | zero =>
    intro h
    have e : n = 0 := by omega
    subst e
    exact ⟨by decide, by decide⟩
  | succ m ih =>
    intro h
    have hm := h1 m
    have e : p16 (m + 1) = 16 * p16 m := rfl
    rcases Nat.eq_or_lt_of_le h with q | q
    · subst q
      exact ⟨h1 _, by omega⟩
    · have := ih (by omega)
      exact ⟨this.1, by omega⟩
theorem kyV_in {B : mBd} {lo : Int} : ∀ n : Nat, (∀ k : Nat, k < n → -2 ≤ B (lo + k) ∧ B (lo + k) < 8) → 0 ≤ kyV B lo n ∧ kyV B lo n < p16 n
  | 0, _ => by unfold kyV p16; omega
  | n + 1, h => by
    have ih := kyV_in n (fun k hk => h k (by omega))
    have hh := h n (by omega)
    have e : p16 (n + 1) = 16 * p16 n := rfl
    have e2 : kyV B lo (n + 1) = kyV B lo n * 16 + (B (lo + n) + 2) := rfl
    omega
/-- equal numbers, equal boards -/
theorem kyV_inj {B C : mBd} {lo : Int} : ∀ n : Nat, (∀ k : Nat, k < n → -2 ≤ B (lo + k) ∧ B (lo + k) < 8) → (∀ k : Nat, k < n → -2 ≤ C (lo + k) ∧ C (lo + k) < 8) → kyV B lo n = kyV C lo n → ∀ k : Nat, k < n → B (lo + k) = C (lo + k)
  | 0, _, _, _, k, hk => by omega
  | n + 1, h, g, e, k, hk => by
    have hh := h n (by omega)
    have gg := g n (by omega)
    have e2 : kyV B lo (n + 1) = kyV B lo n * 16 + (B (lo + n) + 2) := rfl
    have e3 : kyV C lo (n + 1) = kyV C lo n * 16 + (C (lo + n) + 2) := rfl
    rcases Nat.eq_or_lt_of_le (Nat.le_of_lt_succ hk) with q | q
    · subst q
      omega
    · exact kyV_inj n (fun k hk => h k (by omega)) (fun k hk => g k (by omega)) (by omega) k q
theorem kyV_ext {B C : mBd} {lo : Int} : ∀ n : Nat, (∀ k : Nat, k < n → B (lo + k) = C (lo + k)) → kyV B lo n = kyV C lo n
  | 0, _ => rfl
  | n + 1, h => by
    have e2 : kyV B lo (n + 1) = kyV B lo n * 16 + (B (lo + n) + 2) := rfl
    have e3 : kyV C lo (n + 1) = kyV C lo n * 16 + (C (lo + n) + 2) := rfl
    rw [e2, e3, kyV_ext n (fun k hk => h k (by omega)), h n (by omega)]
section S831
variable {d a j : Nat} {I : mMm} {br : Nat → Option mmO} {X : mmX} {B : mBd} {m : Int} {r : mRu} {Q : Option mmV → mmM → Prop}
theorem c_key {lo : Int} {n : Nat} (hV : BV I j B m r) (hB : BW r B) (hlo : 0 ≤ lo) (hn : n ≤ 13) (hh : lo + n ≤ 25) (hQ : Q (some (ml (kyV B lo n))) (I, mmRf a br, X)) : mmC (d + 1) 18 [mo 0 j, mv lo, mv (lo + n)] (I, mmRf a br, X) Q := by
  have hb : ∀ k : Nat, k < n → -2 ≤ B (lo + k) ∧ B (lo + k) < 8 := fun k hk => (B_r32 hB (z := lo + k) (by omega)).2
  have key : ∀ (q k : Nat), k + q = n → mmK d 18 Q 4 [some (mo 0 j), some (mv lo), some (mv (lo + n)), some (ml (kyV B lo k)), none, some (mv (lo + k))] [] (I, mmRf a br, X) := by
    intro q
    induction q with
    | zero =>
      intro k hk
      have e : k = n := by omega
      subst e
      refine mmC_step ?_
      simp only [cd_18, sg_18_0, sg_18_4, sg_18_21, mmK_cut cd_18, q_cons, q_G0, q_GS, q_I1, q_L1, q_A1, q_S0, q_S1, q_SS, q_T0, q_T1, q_TS, q_Kn, q_Ki, q_Kl, q_Kr, q_k0, q_kS, q_rc, q_ps, q_pn, q_lconst0, q_lstore3, q_iload1, q_istore, q_iload, q_iload2, q_icmp_ge, q_lload3, q_iconst, q_lshl, q_aload0, q_getfieldA, q_iaload, q_iadd, q_i2l, q_lor, q_iinc, q_goto, q_lreturn, rf_0_1, mmKe_101, mmKo_0, mmLen_101, mmR32, mmR64, Option.some.injEq, Int.cast_ofNat_Int, and_true, true_and, if_true, if_false, List.length_cons, List.length_nil, Nat.le_refl, Nat.zero_le, Nat.sub_zero, forall_const, reduceCtorEq, Nat.reduceAdd, Nat.reduceSub, Nat.reduceLeDiff, Nat.reduceEqDiff, Int.reduceAdd, Int.reduceNeg, Int.reduceSub, Int.reduceLT, Int.reduceLE, Int.reduceMul, Int.reduceEq, List.drop_zero, List.drop_succ_cons, ne_eq, not_false_eq_true, not_true_eq_false, false_and, and_false, false_implies, true_implies, reduceIte, mmU_rd, implies_true, or_false, false_or, or_true, true_or]
      refine ⟨fun _ => ?_, fun c => by omega⟩
      refine mmC_step ?_
      simp only [cd_18, sg_18_0, sg_18_4, sg_18_21, mmK_cut cd_18, q_cons, q_G0, q_GS, q_I1, q_L1, q_A1, q_S0, q_S1, q_SS, q_T0, q_T1, q_TS, q_Kn, q_Ki, q_Kl, q_Kr, q_k0, q_kS, q_rc, q_ps, q_pn, q_lconst0, q_lstore3, q_iload1, q_istore, q_iload, q_iload2, q_icmp_ge, q_lload3, q_iconst, q_lshl, q_aload0, q_getfieldA, q_iaload, q_iadd, q_i2l, q_lor, q_iinc, q_goto, q_lreturn, rf_0_1, mmKe_101, mmKo_0, mmLen_101, mmR32, mmR64, Option.some.injEq, Int.cast_ofNat_Int, and_true, true_and, if_true, if_false, List.length_cons, List.length_nil, Nat.le_refl, Nat.zero_le, Nat.sub_zero, forall_const, reduceCtorEq, Nat.reduceAdd, Nat.reduceSub, Nat.reduceLeDiff, Nat.reduceEqDiff, Int.reduceAdd, Int.reduceNeg, Int.reduceSub, Int.reduceLT, Int.reduceLE, Int.reduceMul, Int.reduceEq, List.drop_zero, List.drop_succ_cons, ne_eq, not_false_eq_true, not_true_eq_false, false_and, and_false, false_implies, true_implies, reduceIte, mmU_rd, implies_true, or_false, false_or, or_true, true_or]
      exact hQ
    | succ q ihq =>
      intro k hk
      have ih := kyV_in k (fun i hi => hb i (by omega))
      have hp := (p16_mono (n := k) (m := 13) (by omega)).2
      have e13 : p16 13 = 4503599627370496 := by decide
      have h1 := hb k (by omega)
      have e2 : kyV B lo (k + 1) = kyV B lo k * 16 + (B (lo + k) + 2) := rfl
      refine mmC_step ?_
      simp only [cd_18, sg_18_0, sg_18_4, sg_18_21, mmK_cut cd_18, q_cons, q_G0, q_GS, q_I1, q_L1, q_A1, q_S0, q_S1, q_SS, q_T0, q_T1, q_TS, q_Kn, q_Ki, q_Kl, q_Kr, q_k0, q_kS, q_rc, q_ps, q_pn, q_lconst0, q_lstore3, q_iload1, q_istore, q_iload, q_iload2, q_icmp_ge, q_lload3, q_iconst, q_lshl, q_aload0, q_getfieldA, q_iaload, q_iadd, q_i2l, q_lor, q_iinc, q_goto, q_lreturn, rf_0_1, mmKe_101, mmKo_0, mmLen_101, mmR32, mmR64, Option.some.injEq, Int.cast_ofNat_Int, and_true, true_and, if_true, if_false, List.length_cons, List.length_nil, Nat.le_refl, Nat.zero_le, Nat.sub_zero, forall_const, reduceCtorEq, Nat.reduceAdd, Nat.reduceSub, Nat.reduceLeDiff, Nat.reduceEqDiff, Int.reduceAdd, Int.reduceNeg, Int.reduceSub, Int.reduceLT, Int.reduceLE, Int.reduceMul, Int.reduceEq, List.drop_zero, List.drop_succ_cons, ne_eq, not_false_eq_true, not_true_eq_false, false_and, and_false, false_implies, true_implies, reduceIte, mmU_rd, implies_true, or_false, false_or, or_true, true_or]
      rw [hV.1 (lo + k) (by omega) (by omega), ls4 ih.1 (by omega), lo4 ih.1 (by omega) (by omega), ← e2, show lo + (k : Int) + 1 = lo + ((k + 1 : Nat) : Int) by omega]
      exact ⟨fun c => by omega, fun _ => ⟨by omega, by omega, by omega, by omega, ihq (k + 1) (by omega)⟩⟩
  refine mmC_in (by decide) (Nat.le_of_ble_eq_true rfl) (mmC_step ?_)
  simp only [show mmMl 18 = 6 from rfl, mmLs, List.replicate, cd_18, sg_18_0, sg_18_4, sg_18_21, mmK_cut cd_18, q_cons, q_G0, q_GS, q_I1, q_L1, q_A1, q_S0, q_S1, q_SS, q_T0, q_T1, q_TS, q_Kn, q_Ki, q_Kl, q_Kr, q_k0, q_kS, q_rc, q_ps, q_pn, q_lconst0, q_lstore3, q_iload1, q_istore, q_iload, q_iload2, q_icmp_ge, q_lload3, q_iconst, q_lshl, q_aload0, q_getfieldA, q_iaload, q_iadd, q_i2l, q_lor, q_iinc, q_goto, q_lreturn, rf_0_1, mmKe_101, mmKo_0, mmLen_101, mmR32, mmR64, Option.some.injEq, Int.cast_ofNat_Int, and_true, true_and, if_true, if_false, List.length_cons, List.length_nil, Nat.le_refl, Nat.zero_le, Nat.sub_zero, forall_const, reduceCtorEq, Nat.reduceAdd, Nat.reduceSub, Nat.reduceLeDiff, Nat.reduceEqDiff, Int.reduceAdd, Int.reduceNeg, Int.reduceSub, Int.reduceLT, Int.reduceLE, Int.reduceMul, Int.reduceEq, List.drop_zero, List.drop_succ_cons, ne_eq, not_false_eq_true, not_true_eq_false, false_and, and_false, false_implies, true_implies, reduceIte, mmU_rd, implies_true, or_false, false_or, or_true, true_or]
  have k0 := key n 0 (by omega)
  rw [show lo + ((0 : Nat) : Int) = lo by omega] at k0
  exact k0
theorem c_lowKey (hV : BV I j B m r) (hB : BW r B) (hQ : Q (some (ml (kyV B 0 13))) (I, mmRf a br, X)) : mmC (d + 2) 16 [mo 0 j] (I, mmRf a br, X) Q := by
  refine mmC_in (by decide) (Nat.le_of_ble_eq_true rfl) (mmC_step ?_)
  simp only [show mmMl 16 = 1 from rfl, mmLs, List.replicate, cd_16, sg_16_0, mmK_cut cd_16, q_cons, q_G0, q_GS, q_I1, q_L1, q_A1, q_S0, q_S1, q_SS, q_T0, q_T1, q_TS, q_Kn, q_Ki, q_Kl, q_Kr, q_k0, q_kS, q_rc, q_ps, q_pn, q_aload0, q_iconst, q_bipush, q_lreturn, mmKo_0, mmR32, mmR64, Option.some.injEq, Int.cast_ofNat_Int, and_true, true_and, if_true, if_false, List.length_cons, List.length_nil, Nat.le_refl, Nat.zero_le, Nat.sub_zero, forall_const, reduceCtorEq, Nat.reduceAdd, Nat.reduceSub, Nat.reduceLeDiff, Nat.reduceEqDiff, Int.reduceAdd, Int.reduceNeg, Int.reduceSub, Int.reduceLT, Int.reduceLE, Int.reduceMul, Int.reduceEq, List.drop_zero, List.drop_succ_cons, ne_eq, not_false_eq_true, not_true_eq_false, false_and, and_false, false_implies, true_implies, reduceIte, mmU_rd, implies_true, or_false, false_or, or_true, true_or]
  rw [q_invV (pay := [])]
  simp only [q_k0, q_kS, q_rc, mmKo_0]
  refine ⟨Nat.le_of_ble_eq_true rfl, by trivial, Nat.zero_le _, Nat.zero_le _, ?_⟩
  refine c_key (lo := 0) (n := 13) hV hB (by omega) (by omega) (by omega) ?_
  simp only [mmK_cut cd_16, q_cons, q_G0, q_GS, q_I1, q_L1, q_A1, q_S0, q_S1, q_SS, q_T0, q_T1, q_TS, q_Kn, q_Ki, q_Kl, q_Kr, q_k0, q_kS, q_rc, q_ps, q_pn, q_aload0, q_iconst, q_bipush, q_lreturn, mmKo_0, mmR32, mmR64, Option.some.injEq, Int.cast_ofNat_Int, and_true, true_and, if_true, if_false, List.length_cons, List.length_nil, Nat.le_refl, Nat.zero_le, Nat.sub_zero, forall_const, reduceCtorEq, Nat.reduceAdd, Nat.reduceSub, Nat.reduceLeDiff, Nat.reduceEqDiff, Int.reduceAdd, Int.reduceNeg, Int.reduceSub, Int.reduceLT, Int.reduceLE, Int.reduceMul, Int.reduceEq, List.drop_zero, List.drop_succ_cons, ne_eq, not_false_eq_true, not_true_eq_false, false_and, and_false, false_implies, true_implies, reduceIte, mmU_rd, implies_true, or_false, false_or, or_true, true_or]
  exact hQ
theorem c_highKey (hV : BV I j B m r) (hB : BW r B) (hQ : Q (some (ml (kyV B 13 12))) (I, mmRf a br, X)) : mmC (d + 2) 17 [mo 0 j] (I, mmRf a br, X) Q := by
  refine mmC_in (by decide) (Nat.le_of_ble_eq_true rfl) (mmC_step ?_)
  simp only [show mmMl 17 = 1 from rfl, mmLs, List.replicate, cd_17, sg_17_0, mmK_cut cd_17, q_cons, q_G0, q_GS, q_I1, q_L1, q_A1, q_S0, q_S1, q_SS, q_T0, q_T1, q_TS, q_Kn, q_Ki, q_Kl, q_Kr, q_k0, q_kS, q_rc, q_ps, q_pn, q_aload0, q_bipush, q_lreturn, mmKo_0, mmR32, mmR64, Option.some.injEq, Int.cast_ofNat_Int, and_true, true_and, if_true, if_false, List.length_cons, List.length_nil, Nat.le_refl, Nat.zero_le, Nat.sub_zero, forall_const, reduceCtorEq, Nat.reduceAdd, Nat.reduceSub, Nat.reduceLeDiff, Nat.reduceEqDiff, Int.reduceAdd, Int.reduceNeg, Int.reduceSub, Int.reduceLT, Int.reduceLE, Int.reduceMul, Int.reduceEq, List.drop_zero, List.drop_succ_cons, ne_eq, not_false_eq_true, not_true_eq_false, false_and, and_false, false_implies, true_implies, reduceIte, mmU_rd, implies_true, or_false, false_or, or_true, true_or]
  rw [q_invV (pay := [])]
  simp only [q_k0, q_kS, q_rc, mmKo_0]
  refine ⟨Nat.le_of_ble_eq_true rfl, by trivial, Nat.zero_le _, Nat.zero_le _, ?_⟩
  refine c_key (lo := 13) (n := 12) hV hB (by omega) (by omega) (by omega) ?_
  simp only [mmK_cut cd_17, q_cons, q_G0, q_GS, q_I1, q_L1, q_A1, q_S0, q_S1, q_SS, q_T0, q_T1, q_TS, q_Kn, q_Ki, q_Kl, q_Kr, q_k0, q_kS, q_rc, q_ps, q_pn, q_aload0, q_bipush, q_lreturn, mmKo_0, mmR32, mmR64, Option.some.injEq, Int.cast_ofNat_Int, and_true, true_and, if_true, if_false, List.length_cons, List.length_nil, Nat.le_refl, Nat.zero_le, Nat.sub_zero, forall_const, reduceCtorEq, Nat.reduceAdd, Nat.reduceSub, Nat.reduceLeDiff, Nat.reduceEqDiff, Int.reduceAdd, Int.reduceNeg, Int.reduceSub, Int.reduceLT, Int.reduceLE, Int.reduceMul, Int.reduceEq, List.drop_zero, List.drop_succ_cons, ne_eq, not_false_eq_true, not_true_eq_false, false_and, and_false, false_implies, true_implies, reduceIte, mmU_rd, implies_true, or_false, false_or, or_true, true_or]
  exact hQ
/-- equal keys, equal boards -/
theorem ky_same {C : mBd} (hB : BW r B) (hC : BW r C) : (kyV B 0 13 = kyV C 0 13 ∧ kyV B 13 12 = kyV C 13 12) ↔ ∀ z, 0 ≤ z → z < 25 → B z = C z := by
  refine ⟨fun h z h0 h1 => ?_, fun h => ⟨kyV_ext 13 (fun k hk => h _ (by omega) (by omega)), kyV_ext 12 (fun k hk => h _ (by omega) (by omega))⟩⟩
  by_cases c : z < 13
  · have := kyV_inj (lo := 0) 13 (fun k hk => (B_r32 hB (z := 0 + k) (by omega)).2) (fun k hk => (B_r32 hC (z := 0 + k) (by omega)).2) h.1 z.toNat (by omega)
    rw [show (0 : Int) + (z.toNat : Int) = z by omega] at this
    exact this
  · have := kyV_inj (lo := 13) 12 (fun k hk => (B_r32 hB (z := 13 + k) (by omega)).2) (fun k hk => (B_r32 hC (z := 13 + k) (by omega)).2) h.2 (z - 13).toNat (by omega)
    rw [show (13 : Int) + ((z - 13).toNat : Int) = z by omega] at this
    exact this
end S831
