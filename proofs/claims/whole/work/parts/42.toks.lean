/-- the end of the run of places with B, from p on, below s -/
def rnE (B : Int → Prop) [DecidablePred B] (s : Int) : Nat → Int → Int
  | 0, p => p
  | n + 1, p => if p < s ∧ B p then rnE B s n (p + 1) else p
theorem rnE_s {B : Int → Prop} [DecidablePred B] {s p : Int} {n : Nat} : rnE B s (n + 1) p = if p < s ∧ B p then rnE B s n (p + 1) else p := rfl
theorem rnE_le {B : Int → Prop} [DecidablePred B] {s : Int} : ∀ (n : Nat) (p : Int), p ≤ s → p ≤ rnE B s n p ∧ rnE B s n p ≤ s
  | 0, p, h => ⟨Int.le_refl p, h⟩
  | n + 1, p, h => by
    rw [rnE_s]
    split
    · have := rnE_le (B := B) (s := s) n (p + 1) (by omega); omega
    · omega
theorem rnE_in {B : Int → Prop} [DecidablePred B] {s : Int} : ∀ (n : Nat) (p k : Int), p ≤ k → k < rnE B s n p → B k
  | 0, p, k, h0, h1 => by unfold rnE at h1; omega
  | n + 1, p, k, h0, h1 => by
    rw [rnE_s] at h1
    split at h1
    · rename_i c
      by_cases e : k = p
      · rw [e]; exact c.2
      · exact rnE_in n (p + 1) k (by omega) h1
    · omega
theorem rnE_out {B : Int → Prop} [DecidablePred B] {s : Int} : ∀ (n : Nat) (p : Int), p + n = s → rnE B s n p < s → ¬ B (rnE B s n p)
  | 0, p, h0, h1 => by unfold rnE at h1; omega
  | n + 1, p, h0, h1 => by
    rw [rnE_s] at h1 ⊢
    split at h1
    · rename_i c
      rw [if_pos c]
      exact rnE_out n (p + 1) (by omega) h1
    · rename_i c
      rw [if_neg c]
      exact fun q => c ⟨h1, q⟩
def skE (T : Int → Int) (s p : Int) : Int := rnE (fun k => T k = 10 ∨ T k = 32) s (s - p).toNat p
def wdE (T : Int → Int) (s p : Int) : Int := rnE (fun k => 97 ≤ T k ∧ T k ≤ 122) s (s - p).toNat p
def nuE (T : Int → Int) (s p : Int) : Int := rnE (fun k => 48 ≤ T k ∧ T k ≤ 57) s (s - p).toNat p
def p32 : Nat → Int
  | 0 => 1
  | k + 1 => 32 * p32 k
def pwH : Nat → Int
  | 0 => 1073741824
  | 1 => 33554432
  | 2 => 1048576
  | 3 => 32768
  | 4 => 1024
  | 5 => 32
  | _ => 1
/-- n letters in fives of bits -/
def hN (T : Int → Int) (p : Int) : Nat → Int
  | 0 => 0
  | k + 1 => hN T p k * 32 + (T (p + k) - 96)
theorem hN_lt {T : Int → Int} {p : Int} : ∀ k : Nat, (∀ i : Int, p ≤ i → i < p + k → 97 ≤ T i ∧ T i ≤ 122) → 0 ≤ hN T p k ∧ hN T p k + 1 ≤ p32 k
  | 0, _ => ⟨Int.le_refl 0, Int.le_refl 1⟩
  | k + 1, h => by
    have ih := hN_lt (T := T) (p := p) k (fun i h0 h1 => h i h0 (by omega))
    have hc := h (p + k) (by omega) (by omega)
    unfold hN p32
    omega
theorem or_add {a b : Int} (m : Nat) (ha : 0 ≤ a) (hb : 0 ≤ b) (hb1 : b < (2 ^ m : Nat)) (h : a * (2 ^ m : Nat) + b < 2147483648) : mmOr (a * (2 ^ m : Nat)) b = a * (2 ^ m : Nat) + b := by
  have hp : (0 : Int) ≤ a * (2 ^ m : Nat) := Int.mul_nonneg ha (Int.natCast_nonneg _)
  rw [mmOr_nat hp (by omega) hb (by omega)]
  obtain ⟨x, rfl⟩ := Int.eq_ofNat_of_zero_le ha
  obtain ⟨y, rfl⟩ := Int.eq_ofNat_of_zero_le hb
  rw [← Int.natCast_mul, Int.toNat_natCast, Int.toNat_natCast, ← Nat.shiftLeft_eq, ← Nat.shiftLeft_add_eq_or_of_lt (Int.ofNat_lt.mp hb1)]
  rfl
theorem wd_step {h c : Int} : ∀ k : Nat, k < 6 → 0 ≤ h → h + 1 ≤ p32 k → 1 ≤ c → c ≤ 26 → mmOr (h * pwH k) (mmShl c (25 - 5 * (k : Int))) = (h * 32 + c) * pwH (k + 1)
  | 0, _, h0, h1, c0, c1 => by
    unfold p32 at h1
    rw [mmShl_mul (by omega) 25 (by omega) (by omega) (by omega)]
    have := or_add (a := h) (b := c * ((2 ^ 25 : Nat) : Int)) 30 (by omega) (by omega) (by omega) (by omega)
    simp only [pwH, Nat.reduceAdd]
    exact this.trans (by omega)
  | 1, _, h0, h1, c0, c1 => by
    simp only [p32] at h1
    rw [mmShl_mul (by omega) 20 (by omega) (by omega) (by omega)]
    have := or_add (a := h) (b := c * ((2 ^ 20 : Nat) : Int)) 25 (by omega) (by omega) (by omega) (by omega)
    simp only [pwH, Nat.reduceAdd]
    exact this.trans (by omega)
  | 2, _, h0, h1, c0, c1 => by
    simp only [p32] at h1
    rw [mmShl_mul (by omega) 15 (by omega) (by omega) (by omega)]
    have := or_add (a := h) (b := c * ((2 ^ 15 : Nat) : Int)) 20 (by omega) (by omega) (by omega) (by omega)
    simp only [pwH, Nat.reduceAdd]
    exact this.trans (by omega)
  | 3, _, h0, h1, c0, c1 => by
    simp only [p32] at h1
    rw [mmShl_mul (by omega) 10 (by omega) (by omega) (by omega)]
    have := or_add (a := h) (b := c * ((2 ^ 10 : Nat) : Int)) 15 (by omega) (by omega) (by omega) (by omega)
    simp only [pwH, Nat.reduceAdd]
    exact this.trans (by omega)
  | 4, _, h0, h1, c0, c1 => by
    simp only [p32] at h1
    rw [mmShl_mul (by omega) 5 (by omega) (by omega) (by omega)]
    have := or_add (a := h) (b := c * ((2 ^ 5 : Nat) : Int)) 10 (by omega) (by omega) (by omega) (by omega)
    simp only [pwH, Nat.reduceAdd]
    exact this.trans (by omega)
  | 5, _, h0, h1, c0, c1 => by
    simp only [p32] at h1
    rw [mmShl_mul (by omega) 0 (by omega) (by omega) (by omega)]
    have := or_add (a := h) (b := c * ((2 ^ 0 : Nat) : Int)) 5 (by omega) (by omega) (by omega) (by omega)
    simp only [pwH, Nat.reduceAdd]
    exact this.trans (by omega)
  | k + 6, hk, _, _, _, _ => by omega
/-- a word's value: at most six letters -/
def wdV (T : Int → Int) (p : Int) (n : Nat) : Int := if n ≤ 6 then hN T p n * pwH n else hN T p 6
def nuV (T : Int → Int) (p : Int) : Nat → Int
  | 0 => 0
  | k + 1 => if nuV T p k * 10 + T (p + k) - 48 ≤ 100000 then nuV T p k * 10 + T (p + k) - 48 else 100000
theorem nuV_le {T : Int → Int} {p : Int} : ∀ k : Nat, (∀ i : Int, p ≤ i → i < p + k → 48 ≤ T i ∧ T i ≤ 57) → 0 ≤ nuV T p k ∧ nuV T p k ≤ 100000
  | 0, _ => ⟨Int.le_refl 0, by unfold nuV; omega⟩
  | k + 1, h => by
    have ih := nuV_le (T := T) (p := p) k (fun i h0 h1 => h i h0 (by omega))
    have hc := h (p + k) (by omega) (by omega)
    unfold nuV
    split <;> omega
/-- the fields of tokens -/
def tkG (g : Int → Int) (nx so va pl : Int) (k : Int) : Int := if k = 3 then nx else if k = 4 then so else if k = 5 then va else if k = 6 then pl else g k
section T42
variable {g : Int → Int} {nx so va pl v : Int}
theorem tkG_r2 : tkG g nx so va pl 2 = g 2 := rfl
theorem tkG_r3 : tkG g nx so va pl 3 = nx := rfl
theorem tkG_r4 : tkG g nx so va pl 4 = so := rfl
theorem tkG_r5 : tkG g nx so va pl 5 = va := rfl
theorem tkG_r6 : tkG g nx so va pl 6 = pl := rfl
theorem tkG_r7 : tkG g nx so va pl 7 = g 7 := rfl
theorem tkG_r8 : tkG g nx so va pl 8 = g 8 := rfl
theorem tkG_u3 : fup (tkG g nx so va pl) 3 v = tkG g v so va pl := by
  funext k; unfold fup tkG; split
  · rename_i e; rfl
  · rfl
theorem tkG_u4 : fup (tkG g nx so va pl) 4 v = tkG g nx v va pl := by
  funext k; unfold fup tkG; by_cases e : k = 4
  · subst e; rfl
  · simp only [if_neg e]
theorem tkG_u5 : fup (tkG g nx so va pl) 5 v = tkG g nx so v pl := by
  funext k; unfold fup tkG; by_cases e : k = 5
  · subst e; rfl
  · simp only [if_neg e]
theorem tkG_u6 : fup (tkG g nx so va pl) 6 v = tkG g nx so va v := by
  funext k; unfold fup tkG; by_cases e : k = 6
  · subst e; rfl
  · simp only [if_neg e]
end T42
section S42
variable {d a j : Nat} {I : Nat → Nat → Int → Int} {br : Nat → Option mmO} {X : mmX} {Q : Option mmV → mmM → Prop} {g : Int → Int} {so va pl : Int}
theorem sp_readWord {p : Int} (hp : 0 ≤ p ∧ p < g 2) (hs : g 2 ≤ 700) (hQ : Q none (mmUr I 8 0 (tkG g (wdE (I 900 0) (g 2) p) (if wdE (I 900 0) (g 2) p - p ≤ 6 then 1 else 4) (wdV (I 900 0) p (wdE (I 900 0) (g 2) p - p).toNat) pl), mmRf a br, X)) : mmC (d + 1) 94 [mo 8 0] (mmUr I 8 0 (tkG g p so 0 pl), mmRf a br, X) Q := by
  have j54 : ∀ n : Nat, p + n = wdE (I 900 0) (g 2) p → ∀ l1, mmK d 94 Q 54 [some (mo 8 0), l1] [] (mmUr I 8 0 (tkG g (p + n) (if n ≤ 6 then 1 else 4) (wdV (I 900 0) p n) pl), mmRf a br, X) := by
    intro n he l1
    refine mmC_step ?_
    simp only [cd_94, sg_94_0, sg_94_5, sg_94_30, sg_94_47, sg_94_54, mmK_cut cd_94, q_cons, q_G0, q_GS, q_I1, q_L1, q_A1, q_S0, q_S1, q_SS, q_T0, q_T1, q_TS, q_Kn, q_Ki, q_Kl, q_Kr, q_k0, q_kS, q_rc, q_ps, q_pn, q_bipush, q_istore1, q_aload0, q_iconst, q_putfieldI, q_getfieldI, q_icmp_ge, q_getfieldA, q_iaload, q_icmp_lt, q_icmp_gt, q_iload1, q_if_ge, q_goto, q_dupI, q_dupA, q_isub, q_iadd, q_ishl, q_ior, q_iinc, q_return, rf_8_0, mmKe_900, mmKo_8, mmLen_900, mmR32, mmR64, Option.some.injEq, Int.cast_ofNat_Int, and_true, true_and, if_true, if_false, List.length_cons, List.length_nil, Nat.le_refl, Nat.zero_le, Nat.sub_zero, forall_const, reduceCtorEq, Nat.reduceAdd, Nat.reduceSub, Nat.reduceLeDiff, Nat.reduceEqDiff, Int.reduceAdd, Int.reduceNeg, Int.reduceSub, Int.reduceLT, Int.reduceLE, Int.reduceMul, Int.reduceEq, List.drop_zero, List.drop_succ_cons, ne_eq, not_false_eq_true, not_true_eq_false, false_and, and_false, false_implies, true_implies, reduceIte, mmU_rd, implies_true, or_false, false_or, or_true, true_or]
    rw [← he, show (p + n - p).toNat = n by omega] at hQ
    by_cases c : n ≤ 6
    · rw [if_pos c]
      rw [if_pos (by omega)] at hQ
      exact hQ
    · rw [if_neg c]
      rw [if_neg (by omega)] at hQ
      exact hQ
  have key : ∀ (r n : Nat), p + n + r = g 2 → (∀ i : Int, p ≤ i → i < p + n → 97 ≤ I 900 0 i ∧ I 900 0 i ≤ 122) → rnE (fun k => 97 ≤ I 900 0 k ∧ I 900 0 k ≤ 122) (g 2) r (p + n) = wdE (I 900 0) (g 2) p → mmK d 94 Q 5 [some (mo 8 0), some (mv (if n ≤ 6 then 25 - 5 * (n : Int) else -5))] [] (mmUr I 8 0 (tkG g (p + n) (if n ≤ 6 then 1 else 4) (wdV (I 900 0) p n) pl), mmRf a br, X) := by
    intro r
    induction r with
    | zero =>
      intro n hn hl he
      unfold rnE at he
      refine mmC_step ?_
      simp only [cd_94, sg_94_0, sg_94_5, sg_94_30, sg_94_47, sg_94_54, mmK_cut cd_94, q_cons, q_G0, q_GS, q_I1, q_L1, q_A1, q_S0, q_S1, q_SS, q_T0, q_T1, q_TS, q_Kn, q_Ki, q_Kl, q_Kr, q_k0, q_kS, q_rc, q_ps, q_pn, q_bipush, q_istore1, q_aload0, q_iconst, q_putfieldI, q_getfieldI, q_icmp_ge, q_getfieldA, q_iaload, q_icmp_lt, q_icmp_gt, q_iload1, q_if_ge, q_goto, q_dupI, q_dupA, q_isub, q_iadd, q_ishl, q_ior, q_iinc, q_return, rf_8_0, mmKe_900, mmKo_8, mmLen_900, mmR32, mmR64, Option.some.injEq, Int.cast_ofNat_Int, and_true, true_and, if_true, if_false, List.length_cons, List.length_nil, Nat.le_refl, Nat.zero_le, Nat.sub_zero, forall_const, reduceCtorEq, Nat.reduceAdd, Nat.reduceSub, Nat.reduceLeDiff, Nat.reduceEqDiff, Int.reduceAdd, Int.reduceNeg, Int.reduceSub, Int.reduceLT, Int.reduceLE, Int.reduceMul, Int.reduceEq, List.drop_zero, List.drop_succ_cons, ne_eq, not_false_eq_true, not_true_eq_false, false_and, and_false, false_implies, true_implies, reduceIte, mmU_rd, implies_true, or_false, false_or, or_true, true_or, mmUr_rd, mmU_Ur2, tkG_r2, tkG_r3, tkG_r4, tkG_r5, tkG_r6, tkG_r7, tkG_r8, tkG_u3, tkG_u4, tkG_u5, tkG_u6]
      refine ⟨fun _ => ?_, fun c => by omega⟩
      exact j54 n he _
    | succ r ih =>
      intro n hn hl he
      rw [rnE_s] at he
      refine mmC_step ?_
      simp only [cd_94, sg_94_0, sg_94_5, sg_94_30, sg_94_47, sg_94_54, mmK_cut cd_94, q_cons, q_G0, q_GS, q_I1, q_L1, q_A1, q_S0, q_S1, q_SS, q_T0, q_T1, q_TS, q_Kn, q_Ki, q_Kl, q_Kr, q_k0, q_kS, q_rc, q_ps, q_pn, q_bipush, q_istore1, q_aload0, q_iconst, q_putfieldI, q_getfieldI, q_icmp_ge, q_getfieldA, q_iaload, q_icmp_lt, q_icmp_gt, q_iload1, q_if_ge, q_goto, q_dupI, q_dupA, q_isub, q_iadd, q_ishl, q_ior, q_iinc, q_return, rf_8_0, mmKe_900, mmKo_8, mmLen_900, mmR32, mmR64, Option.some.injEq, Int.cast_ofNat_Int, and_true, true_and, if_true, if_false, List.length_cons, List.length_nil, Nat.le_refl, Nat.zero_le, Nat.sub_zero, forall_const, reduceCtorEq, Nat.reduceAdd, Nat.reduceSub, Nat.reduceLeDiff, Nat.reduceEqDiff, Int.reduceAdd, Int.reduceNeg, Int.reduceSub, Int.reduceLT, Int.reduceLE, Int.reduceMul, Int.reduceEq, List.drop_zero, List.drop_succ_cons, ne_eq, not_false_eq_true, not_true_eq_false, false_and, and_false, false_implies, true_implies, reduceIte, mmU_rd, implies_true, or_false, false_or, or_true, true_or, mmUr_rd, mmU_Ur2, tkG_r2, tkG_r3, tkG_r4, tkG_r5, tkG_r6, tkG_r7, tkG_r8, tkG_u3, tkG_u4, tkG_u5, tkG_u6]
      refine ⟨fun c => by omega, fun c => ⟨by omega, by omega, fun c2 => ?_, fun c2 => ⟨by omega, by omega, fun c3 => ?_, fun c3 => ?_⟩⟩⟩
      · rw [if_neg (by omega)] at he
        exact j54 n he _
      · rw [if_neg (by omega)] at he
        exact j54 n he _
      rw [if_pos (by omega)] at he
      have hl' : ∀ i : Int, p ≤ i → i < p + (n + 1 : Nat) → 97 ≤ I 900 0 i ∧ I 900 0 i ≤ 122 := by
        intro i h0 h1
        by_cases e : i = p + n
        · rw [e]; exact ⟨c2, c3⟩
        · exact hl i h0 (by omega)
      have ih := ih (n + 1) (by omega) hl' (by rw [show p + ((n + 1 : Nat) : Int) = p + n + 1 by omega]; exact he)
      refine ⟨fun c4 => ?_, fun c4 => ?_⟩
      · have hn5 : n < 6 := by
          split at c4 <;> omega
        rw [if_pos (by omega)]
        refine mmC_step ?_
        simp only [cd_94, sg_94_0, sg_94_5, sg_94_30, sg_94_47, sg_94_54, mmK_cut cd_94, q_cons, q_G0, q_GS, q_I1, q_L1, q_A1, q_S0, q_S1, q_SS, q_T0, q_T1, q_TS, q_Kn, q_Ki, q_Kl, q_Kr, q_k0, q_kS, q_rc, q_ps, q_pn, q_bipush, q_istore1, q_aload0, q_iconst, q_putfieldI, q_getfieldI, q_icmp_ge, q_getfieldA, q_iaload, q_icmp_lt, q_icmp_gt, q_iload1, q_if_ge, q_goto, q_dupI, q_dupA, q_isub, q_iadd, q_ishl, q_ior, q_iinc, q_return, rf_8_0, mmKe_900, mmKo_8, mmLen_900, mmR32, mmR64, Option.some.injEq, Int.cast_ofNat_Int, and_true, true_and, if_true, if_false, List.length_cons, List.length_nil, Nat.le_refl, Nat.zero_le, Nat.sub_zero, forall_const, reduceCtorEq, Nat.reduceAdd, Nat.reduceSub, Nat.reduceLeDiff, Nat.reduceEqDiff, Int.reduceAdd, Int.reduceNeg, Int.reduceSub, Int.reduceLT, Int.reduceLE, Int.reduceMul, Int.reduceEq, List.drop_zero, List.drop_succ_cons, ne_eq, not_false_eq_true, not_true_eq_false, false_and, and_false, false_implies, true_implies, reduceIte, mmU_rd, implies_true, or_false, false_or, or_true, true_or, mmUr_rd, mmU_Ur2, tkG_r2, tkG_r3, tkG_r4, tkG_r5, tkG_r6, tkG_r7, tkG_r8, tkG_u3, tkG_u4, tkG_u5, tkG_u6]
        rw [show wdV (I 900 0) p n = hN (I 900 0) p n * pwH n from if_pos (by omega), show I 900 0 (p + n) - 97 + 1 = I 900 0 (p + n) - 96 by omega]
        have hlt := hN_lt n hl
        rw [wd_step n hn5 hlt.1 hlt.2 (by omega) (by omega)]
        refine ⟨by omega, by omega, by omega, by omega, by omega, ?_⟩
        refine mmC_step ?_
        simp only [cd_94, sg_94_0, sg_94_5, sg_94_30, sg_94_47, sg_94_54, mmK_cut cd_94, q_cons, q_G0, q_GS, q_I1, q_L1, q_A1, q_S0, q_S1, q_SS, q_T0, q_T1, q_TS, q_Kn, q_Ki, q_Kl, q_Kr, q_k0, q_kS, q_rc, q_ps, q_pn, q_bipush, q_istore1, q_aload0, q_iconst, q_putfieldI, q_getfieldI, q_icmp_ge, q_getfieldA, q_iaload, q_icmp_lt, q_icmp_gt, q_iload1, q_if_ge, q_goto, q_dupI, q_dupA, q_isub, q_iadd, q_ishl, q_ior, q_iinc, q_return, rf_8_0, mmKe_900, mmKo_8, mmLen_900, mmR32, mmR64, Option.some.injEq, Int.cast_ofNat_Int, and_true, true_and, if_true, if_false, List.length_cons, List.length_nil, Nat.le_refl, Nat.zero_le, Nat.sub_zero, forall_const, reduceCtorEq, Nat.reduceAdd, Nat.reduceSub, Nat.reduceLeDiff, Nat.reduceEqDiff, Int.reduceAdd, Int.reduceNeg, Int.reduceSub, Int.reduceLT, Int.reduceLE, Int.reduceMul, Int.reduceEq, List.drop_zero, List.drop_succ_cons, ne_eq, not_false_eq_true, not_true_eq_false, false_and, and_false, false_implies, true_implies, reduceIte, mmU_rd, implies_true, or_false, false_or, or_true, true_or, mmUr_rd, mmU_Ur2, tkG_r2, tkG_r3, tkG_r4, tkG_r5, tkG_r6, tkG_r7, tkG_r8, tkG_u3, tkG_u4, tkG_u5, tkG_u6]
        refine ⟨by omega, ?_⟩
        rw [if_pos (by omega), if_pos (by omega), show wdV (I 900 0) p (n + 1) = hN (I 900 0) p (n + 1) * pwH (n + 1) from if_pos (by omega), show p + ((n + 1 : Nat) : Int) = p + n + 1 by omega, show 25 - 5 * ((n + 1 : Nat) : Int) = 25 - 5 * (n : Int) + -5 by omega] at ih
        rw [if_pos (by omega)]
        exact ih
      · have hn5 : 6 ≤ n := by
          split at c4 <;> omega
        refine mmC_step ?_
        simp only [cd_94, sg_94_0, sg_94_5, sg_94_30, sg_94_47, sg_94_54, mmK_cut cd_94, q_cons, q_G0, q_GS, q_I1, q_L1, q_A1, q_S0, q_S1, q_SS, q_T0, q_T1, q_TS, q_Kn, q_Ki, q_Kl, q_Kr, q_k0, q_kS, q_rc, q_ps, q_pn, q_bipush, q_istore1, q_aload0, q_iconst, q_putfieldI, q_getfieldI, q_icmp_ge, q_getfieldA, q_iaload, q_icmp_lt, q_icmp_gt, q_iload1, q_if_ge, q_goto, q_dupI, q_dupA, q_isub, q_iadd, q_ishl, q_ior, q_iinc, q_return, rf_8_0, mmKe_900, mmKo_8, mmLen_900, mmR32, mmR64, Option.some.injEq, Int.cast_ofNat_Int, and_true, true_and, if_true, if_false, List.length_cons, List.length_nil, Nat.le_refl, Nat.zero_le, Nat.sub_zero, forall_const, reduceCtorEq, Nat.reduceAdd, Nat.reduceSub, Nat.reduceLeDiff, Nat.reduceEqDiff, Int.reduceAdd, Int.reduceNeg, Int.reduceSub, Int.reduceLT, Int.reduceLE, Int.reduceMul, Int.reduceEq, List.drop_zero, List.drop_succ_cons, ne_eq, not_false_eq_true, not_true_eq_false, false_and, and_false, false_implies, true_implies, reduceIte, mmU_rd, implies_true, or_false, false_or, or_true, true_or, mmUr_rd, mmU_Ur2, tkG_r2, tkG_r3, tkG_r4, tkG_r5, tkG_r6, tkG_r7, tkG_r8, tkG_u3, tkG_u4, tkG_u5, tkG_u6]
        refine ⟨by omega, ?_⟩
        rw [if_neg (by omega), if_neg (by omega), show p + ((n + 1 : Nat) : Int) = p + n + 1 by omega] at ih
        have e1 : wdV (I 900 0) p n = wdV (I 900 0) p (n + 1) := by
          unfold wdV
          rw [if_neg (show ¬ (n + 1 ≤ 6) by omega)]
          by_cases c6 : n = 6
          · subst c6
            rw [if_pos (Nat.le_refl 6)]
            simp only [pwH, Int.mul_one]
          · rw [if_neg (by omega)]
        have e2 : (if n ≤ 6 then 25 - 5 * (n : Int) else -5) = -5 := by
          split <;> omega
        rw [e1, e2]
        exact ih
  refine mmC_in (by decide) (Nat.le_of_ble_eq_true rfl) (mmC_step ?_)
  simp only [show mmMl 94 = 2 from rfl, mmLs, List.replicate, cd_94, sg_94_0, sg_94_5, sg_94_30, sg_94_47, sg_94_54, mmK_cut cd_94, q_cons, q_G0, q_GS, q_I1, q_L1, q_A1, q_S0, q_S1, q_SS, q_T0, q_T1, q_TS, q_Kn, q_Ki, q_Kl, q_Kr, q_k0, q_kS, q_rc, q_ps, q_pn, q_bipush, q_istore1, q_aload0, q_iconst, q_putfieldI, q_getfieldI, q_icmp_ge, q_getfieldA, q_iaload, q_icmp_lt, q_icmp_gt, q_iload1, q_if_ge, q_goto, q_dupI, q_dupA, q_isub, q_iadd, q_ishl, q_ior, q_iinc, q_return, rf_8_0, mmKe_900, mmKo_8, mmLen_900, mmR32, mmR64, Option.some.injEq, Int.cast_ofNat_Int, and_true, true_and, if_true, if_false, List.length_cons, List.length_nil, Nat.le_refl, Nat.zero_le, Nat.sub_zero, forall_const, reduceCtorEq, Nat.reduceAdd, Nat.reduceSub, Nat.reduceLeDiff, Nat.reduceEqDiff, Int.reduceAdd, Int.reduceNeg, Int.reduceSub, Int.reduceLT, Int.reduceLE, Int.reduceMul, Int.reduceEq, List.drop_zero, List.drop_succ_cons, ne_eq, not_false_eq_true, not_true_eq_false, false_and, and_false, false_implies, true_implies, reduceIte, mmU_rd, implies_true, or_false, false_or, or_true, true_or, mmUr_rd, mmU_Ur2, tkG_r2, tkG_r3, tkG_r4, tkG_r5, tkG_r6, tkG_r7, tkG_r8, tkG_u3, tkG_u4, tkG_u5, tkG_u6]
  have := key (g 2 - p).toNat 0 (by omega) (fun i h0 h1 => by omega) (by simp only [Int.ofNat_zero, Int.add_zero]; rfl)
  simp only [Int.ofNat_zero, Int.add_zero] at this
  exact this
theorem sp_readNumber {p : Int} (hp : 0 ≤ p ∧ p < g 2) (hs : g 2 ≤ 700) (hQ : Q none (mmUr I 8 0 (tkG g (nuE (I 900 0) (g 2) p) 2 (nuV (I 900 0) p (nuE (I 900 0) (g 2) p - p).toNat) pl), mmRf a br, X)) : mmC (d + 1) 95 [mo 8 0] (mmUr I 8 0 (tkG g p so 0 pl), mmRf a br, X) Q := by
  have j50 : ∀ n : Nat, p + n = nuE (I 900 0) (g 2) p → ∀ l1, mmK d 95 Q 50 [some (mo 8 0), l1] [] (mmUr I 8 0 (tkG g (p + n) 2 (nuV (I 900 0) p n) pl), mmRf a br, X) := by
    intro n he l1
    refine mmC_step ?_
    simp only [cd_95, sg_95_0, sg_95_3, sg_95_41, sg_95_42, sg_95_50, mmK_cut cd_95, q_cons, q_G0, q_GS, q_I1, q_L1, q_A1, q_S0, q_S1, q_SS, q_T0, q_T1, q_TS, q_Kn, q_Ki, q_Kl, q_Kr, q_k0, q_kS, q_rc, q_ps, q_pn, q_aload0, q_iconst, q_putfieldI, q_getfieldI, q_icmp_ge, q_getfieldA, q_iaload, q_bipush, q_icmp_lt, q_icmp_gt, q_imul, q_iadd, q_isub, q_istore1, q_iload1, q_ldc, q_icmp_le, q_goto, q_dupI, q_dupA, q_return, rf_8_0, mmKe_900, mmKo_8, mmLen_900, mmR32, mmR64, Option.some.injEq, Int.cast_ofNat_Int, and_true, true_and, if_true, if_false, List.length_cons, List.length_nil, Nat.le_refl, Nat.zero_le, Nat.sub_zero, forall_const, reduceCtorEq, Nat.reduceAdd, Nat.reduceSub, Nat.reduceLeDiff, Nat.reduceEqDiff, Int.reduceAdd, Int.reduceNeg, Int.reduceSub, Int.reduceLT, Int.reduceLE, Int.reduceMul, Int.reduceEq, List.drop_zero, List.drop_succ_cons, ne_eq, not_false_eq_true, not_true_eq_false, false_and, and_false, false_implies, true_implies, reduceIte, mmU_rd, implies_true, or_false, false_or, or_true, true_or]
    rw [← he, show (p + n - p).toNat = n by omega] at hQ
    exact hQ
  have key : ∀ (r n : Nat) (l1 : Option mmV), p + n + r = g 2 → (∀ i : Int, p ≤ i → i < p + n → 48 ≤ I 900 0 i ∧ I 900 0 i ≤ 57) → rnE (fun k => 48 ≤ I 900 0 k ∧ I 900 0 k ≤ 57) (g 2) r (p + n) = nuE (I 900 0) (g 2) p → mmK d 95 Q 3 [some (mo 8 0), l1] [] (mmUr I 8 0 (tkG g (p + n) 2 (nuV (I 900 0) p n) pl), mmRf a br, X) := by
    intro r
    induction r with
    | zero =>
      intro n l1 hn hl he
      unfold rnE at he
      refine mmC_step ?_
      simp only [cd_95, sg_95_0, sg_95_3, sg_95_41, sg_95_42, sg_95_50, mmK_cut cd_95, q_cons, q_G0, q_GS, q_I1, q_L1, q_A1, q_S0, q_S1, q_SS, q_T0, q_T1, q_TS, q_Kn, q_Ki, q_Kl, q_Kr, q_k0, q_kS, q_rc, q_ps, q_pn, q_aload0, q_iconst, q_putfieldI, q_getfieldI, q_icmp_ge, q_getfieldA, q_iaload, q_bipush, q_icmp_lt, q_icmp_gt, q_imul, q_iadd, q_isub, q_istore1, q_iload1, q_ldc, q_icmp_le, q_goto, q_dupI, q_dupA, q_return, rf_8_0, mmKe_900, mmKo_8, mmLen_900, mmR32, mmR64, Option.some.injEq, Int.cast_ofNat_Int, and_true, true_and, if_true, if_false, List.length_cons, List.length_nil, Nat.le_refl, Nat.zero_le, Nat.sub_zero, forall_const, reduceCtorEq, Nat.reduceAdd, Nat.reduceSub, Nat.reduceLeDiff, Nat.reduceEqDiff, Int.reduceAdd, Int.reduceNeg, Int.reduceSub, Int.reduceLT, Int.reduceLE, Int.reduceMul, Int.reduceEq, List.drop_zero, List.drop_succ_cons, ne_eq, not_false_eq_true, not_true_eq_false, false_and, and_false, false_implies, true_implies, reduceIte, mmU_rd, implies_true, or_false, false_or, or_true, true_or, mmUr_rd, mmU_Ur2, tkG_r2, tkG_r3, tkG_r4, tkG_r5, tkG_r6, tkG_r7, tkG_r8, tkG_u3, tkG_u4, tkG_u5, tkG_u6]
      refine ⟨fun _ => ?_, fun c => by omega⟩
      exact j50 n he _
    | succ r ih =>
      intro n l1 hn hl he
      rw [rnE_s] at he
      refine mmC_step ?_
      simp only [cd_95, sg_95_0, sg_95_3, sg_95_41, sg_95_42, sg_95_50, mmK_cut cd_95, q_cons, q_G0, q_GS, q_I1, q_L1, q_A1, q_S0, q_S1, q_SS, q_T0, q_T1, q_TS, q_Kn, q_Ki, q_Kl, q_Kr, q_k0, q_kS, q_rc, q_ps, q_pn, q_aload0, q_iconst, q_putfieldI, q_getfieldI, q_icmp_ge, q_getfieldA, q_iaload, q_bipush, q_icmp_lt, q_icmp_gt, q_imul, q_iadd, q_isub, q_istore1, q_iload1, q_ldc, q_icmp_le, q_goto, q_dupI, q_dupA, q_return, rf_8_0, mmKe_900, mmKo_8, mmLen_900, mmR32, mmR64, Option.some.injEq, Int.cast_ofNat_Int, and_true, true_and, if_true, if_false, List.length_cons, List.length_nil, Nat.le_refl, Nat.zero_le, Nat.sub_zero, forall_const, reduceCtorEq, Nat.reduceAdd, Nat.reduceSub, Nat.reduceLeDiff, Nat.reduceEqDiff, Int.reduceAdd, Int.reduceNeg, Int.reduceSub, Int.reduceLT, Int.reduceLE, Int.reduceMul, Int.reduceEq, List.drop_zero, List.drop_succ_cons, ne_eq, not_false_eq_true, not_true_eq_false, false_and, and_false, false_implies, true_implies, reduceIte, mmU_rd, implies_true, or_false, false_or, or_true, true_or, mmUr_rd, mmU_Ur2, tkG_r2, tkG_r3, tkG_r4, tkG_r5, tkG_r6, tkG_r7, tkG_r8, tkG_u3, tkG_u4, tkG_u5, tkG_u6]
      refine ⟨fun c => by omega, fun c => ⟨by omega, by omega, fun c2 => ?_, fun c2 => ⟨by omega, by omega, fun c3 => ?_, fun c3 => ?_⟩⟩⟩
      · rw [if_neg (by omega)] at he
        exact j50 n he _
      · rw [if_neg (by omega)] at he
        exact j50 n he _
      rw [if_pos (by omega)] at he
      have hl' : ∀ i : Int, p ≤ i → i < p + (n + 1 : Nat) → 48 ≤ I 900 0 i ∧ I 900 0 i ≤ 57 := by
        intro i h0 h1
        by_cases e : i = p + n
        · rw [e]; exact ⟨c2, c3⟩
        · exact hl i h0 (by omega)
      have ih := fun l1 => ih (n + 1) l1 (by omega) hl' (by rw [show p + ((n + 1 : Nat) : Int) = p + n + 1 by omega]; exact he)
      have hle := nuV_le n hl
      rw [show p + ((n + 1 : Nat) : Int) = p + n + 1 by omega] at ih
      have j42 : ∀ (v : Int) (l1 : Option mmV), v = nuV (I 900 0) p (n + 1) → mmK d 95 Q 42 [some (mo 8 0), l1] [mv v, mo 8 0] (mmUr I 8 0 (tkG g (p + n) 2 (nuV (I 900 0) p n) pl), mmRf a br, X) := by
        intro v l1 hv
        subst hv
        refine mmC_step ?_
        simp only [cd_95, sg_95_0, sg_95_3, sg_95_41, sg_95_42, sg_95_50, mmK_cut cd_95, q_cons, q_G0, q_GS, q_I1, q_L1, q_A1, q_S0, q_S1, q_SS, q_T0, q_T1, q_TS, q_Kn, q_Ki, q_Kl, q_Kr, q_k0, q_kS, q_rc, q_ps, q_pn, q_aload0, q_iconst, q_putfieldI, q_getfieldI, q_icmp_ge, q_getfieldA, q_iaload, q_bipush, q_icmp_lt, q_icmp_gt, q_imul, q_iadd, q_isub, q_istore1, q_iload1, q_ldc, q_icmp_le, q_goto, q_dupI, q_dupA, q_return, rf_8_0, mmKe_900, mmKo_8, mmLen_900, mmR32, mmR64, Option.some.injEq, Int.cast_ofNat_Int, and_true, true_and, if_true, if_false, List.length_cons, List.length_nil, Nat.le_refl, Nat.zero_le, Nat.sub_zero, forall_const, reduceCtorEq, Nat.reduceAdd, Nat.reduceSub, Nat.reduceLeDiff, Nat.reduceEqDiff, Int.reduceAdd, Int.reduceNeg, Int.reduceSub, Int.reduceLT, Int.reduceLE, Int.reduceMul, Int.reduceEq, List.drop_zero, List.drop_succ_cons, ne_eq, not_false_eq_true, not_true_eq_false, false_and, and_false, false_implies, true_implies, reduceIte, mmU_rd, implies_true, or_false, false_or, or_true, true_or, mmUr_rd, mmU_Ur2, tkG_r2, tkG_r3, tkG_r4, tkG_r5, tkG_r6, tkG_r7, tkG_r8, tkG_u3, tkG_u4, tkG_u5, tkG_u6]
        exact ⟨by omega, ih _⟩
      have e1 : nuV (I 900 0) p (n + 1) = if nuV (I 900 0) p n * 10 + I 900 0 (p + n) - 48 ≤ 100000 then nuV (I 900 0) p n * 10 + I 900 0 (p + n) - 48 else 100000 := rfl
      refine ⟨by omega, by omega, by omega, by omega, by omega, fun c4 => ?_, fun c4 => ?_⟩
      · rw [if_pos c4] at e1
        refine mmC_step ?_
        simp only [cd_95, sg_95_0, sg_95_3, sg_95_41, sg_95_42, sg_95_50, mmK_cut cd_95, q_cons, q_G0, q_GS, q_I1, q_L1, q_A1, q_S0, q_S1, q_SS, q_T0, q_T1, q_TS, q_Kn, q_Ki, q_Kl, q_Kr, q_k0, q_kS, q_rc, q_ps, q_pn, q_aload0, q_iconst, q_putfieldI, q_getfieldI, q_icmp_ge, q_getfieldA, q_iaload, q_bipush, q_icmp_lt, q_icmp_gt, q_imul, q_iadd, q_isub, q_istore1, q_iload1, q_ldc, q_icmp_le, q_goto, q_dupI, q_dupA, q_return, rf_8_0, mmKe_900, mmKo_8, mmLen_900, mmR32, mmR64, Option.some.injEq, Int.cast_ofNat_Int, and_true, true_and, if_true, if_false, List.length_cons, List.length_nil, Nat.le_refl, Nat.zero_le, Nat.sub_zero, forall_const, reduceCtorEq, Nat.reduceAdd, Nat.reduceSub, Nat.reduceLeDiff, Nat.reduceEqDiff, Int.reduceAdd, Int.reduceNeg, Int.reduceSub, Int.reduceLT, Int.reduceLE, Int.reduceMul, Int.reduceEq, List.drop_zero, List.drop_succ_cons, ne_eq, not_false_eq_true, not_true_eq_false, false_and, and_false, false_implies, true_implies, reduceIte, mmU_rd, implies_true, or_false, false_or, or_true, true_or, mmUr_rd, mmU_Ur2, tkG_r2, tkG_r3, tkG_r4, tkG_r5, tkG_r6, tkG_r7, tkG_r8, tkG_u3, tkG_u4, tkG_u5, tkG_u6]
        exact j42 _ _ e1.symm
      · rw [if_neg (by omega)] at e1
        exact j42 _ _ e1.symm
  refine mmC_in (by decide) (Nat.le_of_ble_eq_true rfl) (mmC_step ?_)
  simp only [show mmMl 95 = 2 from rfl, mmLs, List.replicate, cd_95, sg_95_0, sg_95_3, sg_95_41, sg_95_42, sg_95_50, mmK_cut cd_95, q_cons, q_G0, q_GS, q_I1, q_L1, q_A1, q_S0, q_S1, q_SS, q_T0, q_T1, q_TS, q_Kn, q_Ki, q_Kl, q_Kr, q_k0, q_kS, q_rc, q_ps, q_pn, q_aload0, q_iconst, q_putfieldI, q_getfieldI, q_icmp_ge, q_getfieldA, q_iaload, q_bipush, q_icmp_lt, q_icmp_gt, q_imul, q_iadd, q_isub, q_istore1, q_iload1, q_ldc, q_icmp_le, q_goto, q_dupI, q_dupA, q_return, rf_8_0, mmKe_900, mmKo_8, mmLen_900, mmR32, mmR64, Option.some.injEq, Int.cast_ofNat_Int, and_true, true_and, if_true, if_false, List.length_cons, List.length_nil, Nat.le_refl, Nat.zero_le, Nat.sub_zero, forall_const, reduceCtorEq, Nat.reduceAdd, Nat.reduceSub, Nat.reduceLeDiff, Nat.reduceEqDiff, Int.reduceAdd, Int.reduceNeg, Int.reduceSub, Int.reduceLT, Int.reduceLE, Int.reduceMul, Int.reduceEq, List.drop_zero, List.drop_succ_cons, ne_eq, not_false_eq_true, not_true_eq_false, false_and, and_false, false_implies, true_implies, reduceIte, mmU_rd, implies_true, or_false, false_or, or_true, true_or, mmUr_rd, mmU_Ur2, tkG_r2, tkG_r3, tkG_r4, tkG_r5, tkG_r6, tkG_r7, tkG_r8, tkG_u3, tkG_u4, tkG_u5, tkG_u6]
  have := key (g 2 - p).toNat 0 none (by omega) (fun i h0 h1 => by omega) (by simp only [Int.ofNat_zero, Int.add_zero]; rfl)
  simp only [Int.ofNat_zero, Int.add_zero] at this
  exact this
end S42
