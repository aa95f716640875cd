def bdA (B : mBd) (f t z : Int) : Int := if z = f then -2 else if z = t then B f else B z
theorem cS_ext {B B' : mBd} {w : Int} : ∀ n : Nat, (∀ z : Int, 0 ≤ z → z < n → B' z = B z) → cS B' w n = cS B w n
  | 0, _ => rfl
  | n + 1, h => by
    show cS B' w n + _ = cS B w n + _
    rw [cS_ext n (fun z h0 h1 => h z h0 (by omega)), h n (by omega) (by omega)]
theorem cK_ext {r : mRu} {B B' : mBd} {w : Int} : ∀ n : Nat, (∀ z : Int, 0 ≤ z → z < n → B' z = B z) → cK r B' w n = cK r B w n
  | 0, _ => rfl
  | n + 1, h => by
    show cK r B' w n + _ = cK r B w n + _
    rw [cK_ext n (fun z h0 h1 => h z h0 (by omega)), h n (by omega) (by omega)]
def oS (v w : Int) : Int := if v / 4 = w then 1 else 0
def oK (r : mRu) (v w : Int) : Int := if v / 4 = w ∧ ¬ r 710 (v % 4) = 0 then 1 else 0
theorem cS_up {B : mBd} {w z v : Int} (h0 : 0 ≤ z) : ∀ n : Nat, cS (fup B z v) w n = cS B w n + (if z < n then oS v w - oS (B z) w else 0)
  | 0 => by rw [if_neg (by omega)]; rfl
  | n + 1 => by
    have ih := cS_up (B := B) (w := w) (v := v) h0 n
    have e1 : cS (fup B z v) w (n + 1) = cS (fup B z v) w n + oS (fup B z v n) w := rfl
    have e2 : cS B w (n + 1) = cS B w n + oS (B n) w := rfl
    rw [e1, e2, ih]
    by_cases c : z = n
    · have ef : fup B z v n = v := if_pos c.symm
      rw [ef, if_neg (by omega), if_pos (by omega), c]
      omega
    · have ef : fup B z v n = B n := if_neg (fun q => c q.symm)
      rw [ef]
      by_cases c2 : z < n
      · rw [if_pos c2, if_pos (by omega)]; omega
      · rw [if_neg c2, if_neg (by omega)]; omega
theorem cK_up {r : mRu} {B : mBd} {w z v : Int} (h0 : 0 ≤ z) : ∀ n : Nat, cK r (fup B z v) w n = cK r B w n + (if z < n then oK r v w - oK r (B z) w else 0)
  | 0 => by rw [if_neg (by omega)]; rfl
  | n + 1 => by
    have ih := cK_up (r := r) (B := B) (w := w) (v := v) h0 n
    have e1 : cK r (fup B z v) w (n + 1) = cK r (fup B z v) w n + oK r (fup B z v n) w := rfl
    have e2 : cK r B w (n + 1) = cK r B w n + oK r (B n) w := rfl
    rw [e1, e2, ih]
    by_cases c : z = n
    · have ef : fup B z v n = v := if_pos c.symm
      rw [ef, if_neg (by omega), if_pos (by omega), c]
      omega
    · have ef : fup B z v n = B n := if_neg (fun q => c q.symm)
      rw [ef]
      by_cases c2 : z < n
      · rw [if_pos c2, if_pos (by omega)]; omega
      · rw [if_neg c2, if_neg (by omega)]; omega
theorem oS_2 {w : Int} (hw : w = 0 ∨ w = 1) : oS (-2) w = 0 := by
  unfold oS; rw [if_neg]; omega
theorem oK_2 {r : mRu} {w : Int} (hw : w = 0 ∨ w = 1) : oK r (-2) w = 0 := by
  unfold oK; rw [if_neg]; omega
theorem bdA_up {B : mBd} {f t : Int} : bdA B f t = fup (fup B t (B f)) f (-2) := rfl
theorem cS_bd {B : mBd} {f t w : Int} (hf : 0 ≤ f ∧ f < 25) (ht : 0 ≤ t ∧ t < 25) (hne : ¬ f = t) (hw : w = 0 ∨ w = 1) : cS (bdA B f t) w 25 = cS B w 25 - oS (B t) w := by
  rw [bdA_up, cS_up hf.1, cS_up ht.1, if_pos (by omega), if_pos (by omega), oS_2 hw, show fup B t (B f) f = B f from if_neg hne]
  omega
theorem cK_bd {r : mRu} {B : mBd} {f t w : Int} (hf : 0 ≤ f ∧ f < 25) (ht : 0 ≤ t ∧ t < 25) (hne : ¬ f = t) (hw : w = 0 ∨ w = 1) : cK r (bdA B f t) w 25 = cK r B w 25 - oK r (B t) w := by
  rw [bdA_up, cK_up hf.1, cK_up ht.1, if_pos (by omega), if_pos (by omega), oK_2 hw, show fup B t (B f) f = B f from if_neg hne]
  omega
theorem oS_in {v w : Int} : 0 ≤ oS v w ∧ oS v w ≤ 1 := by unfold oS; split <;> omega
theorem oK_in {r : mRu} {v w : Int} : 0 ≤ oK r v w ∧ oK r v w ≤ 1 := by unfold oK; split <;> omega
theorem cK_in {r : mRu} {B : mBd} {w : Int} : ∀ n : Nat, 0 ≤ cK r B w n ∧ cK r B w n ≤ n
  | 0 => by unfold cK; omega
  | n + 1 => by
    have := cK_in (r := r) (B := B) (w := w) n
    unfold cK
    split <;> omega
theorem BW_bd {r : mRu} {B : mBd} {f t : Int} (hB : BW r B) (hf : 0 ≤ f ∧ f < 25) (ht : 0 ≤ t ∧ t < 25) (htp : t < r 6 0 * r 6 1) (hne : ¬ f = t) (h0 : 0 ≤ B f) : BW r (bdA B f t) := by
  refine ⟨fun z z0 z1 => ?_, ?_⟩
  · have h1 := hB.1 f hf.1 hf.2
    have h2 := hB.1 z z0 z1
    unfold bdA
    by_cases c : z = f
    · rw [if_pos c]; exact Or.inl rfl
    · rw [if_neg c]
      by_cases c2 : z = t
      · rw [if_pos c2]
        rcases h1 with q | q
        · omega
        · exact Or.inr ⟨q.1, q.2.1, q.2.2.1, by omega⟩
      · rw [if_neg c2]; exact h2
  · rw [cS_bd hf ht hne (by omega), cS_bd hf ht hne (by omega)]
    have h1 := hB.2
    have h2 := oS_in (v := B t) (w := 0)
    have h3 := oS_in (v := B t) (w := 1)
    omega
def FrD (j : Nat) (I I' : mMm) : Prop := ∀ t i k, ¬ (i = j ∧ ((101 ≤ t ∧ t ≤ 103) ∨ (t = 0 ∧ k = 4))) → I' t i k = I t i k
section S809
variable {d a j x tl il : Nat} {I I' I'' : mMm} {br : Nat → Option mmO} {R : Nat → Nat → Int → Option mmO} {X : mmX} {B : mBd} {m fr f t : Int} {r : mRu} {Q : Option mmV → mmM → Prop}
theorem FrD_trans (h : FrD j I I') (h' : FrD j I' I'') : FrD j I I'' := fun t i k c => (h' t i k c).trans (h t i k c)
theorem FrD_U {t : Nat} {k v : Int} (h : (101 ≤ t ∧ t ≤ 103) ∨ (t = 0 ∧ k = 4)) : FrD j I (mmU I t j k v) := by
  intro t' i' k' c
  unfold mmU
  rw [if_neg]
  rintro ⟨rfl, rfl, rfl⟩
  exact c ⟨rfl, h⟩
theorem CR_D (h : CR I x r) (hf : FrD j I I') : CR I' x r := fun t k ht => (hf t x k (by unfold rtag at ht; omega)).trans (h t k ht)
theorem sp_tally {s e : Int} (hb : br j = some (6, x)) (hC : CR I x r) (he : e = 1 ∨ e = -1) (hs : s = -2 ∨ (0 ≤ s ∧ s < 8)) (h2 : ∀ w, w = 0 ∨ w = 1 → (-100 ≤ I 102 j w ∧ I 102 j w ≤ 100) ∧ (-100 ≤ I 103 j w ∧ I 103 j w ≤ 100)) (hQ1 : s = -2 → Q none (I, mmRf a br, X)) (hQ2 : 0 ≤ s → Q none (mmU (mmU I 102 j (s / 4) (I 102 j (s / 4) + e)) 103 j (s / 4) (I 103 j (s / 4) + (if r 710 (s % 4) = 0 then 0 else e)), mmRf a br, X)) : mmC (d + 1) 3 [mo 0 j, mv s, mv e] (I, mmRf a br, X) Q := by
  refine mmC_in (by decide) (Nat.le_of_ble_eq_true rfl) (mmC_step ?_)
  simp only [show mmMl 3 = 3 from rfl, mmLs, List.replicate, cd_3, sg_3_0, sg_3_30, sg_3_31, sg_3_33, mmK_cut cd_3, q_cons, q_G0, q_GS, q_I1, q_L1, q_A1, q_S0, q_S1, q_SS, q_T0, q_T1, q_TS, q_Kn, q_Ki, q_Kl, q_Kr, q_k0, q_kS, q_rc, q_ps, q_pn, q_iload1, q_bipush, q_icmp_eq, q_aload0, q_getfieldA, q_iconst, q_ishr, q_dup2, q_iaload, q_iload2, q_iadd, q_iastore, q_iand, q_baload, q_if_eq, q_goto, q_return, rf_0_0, rf_0_2, rf_0_3, rf_6_10, mmKe_102, mmKe_103, mmKe_710, mmKo_0, mmKo_6, mmLen_102, mmLen_103, mmLen_710, mmR32, mmR64, Option.some.injEq, Int.cast_ofNat_Int, and_true, true_and, if_true, if_false, List.length_cons, List.length_nil, Nat.le_refl, Nat.zero_le, Nat.sub_zero, forall_const, reduceCtorEq, Nat.reduceAdd, Nat.reduceSub, Nat.reduceLeDiff, Nat.reduceEqDiff, Int.reduceAdd, Int.reduceNeg, Int.reduceSub, Int.reduceLT, Int.reduceLE, Int.reduceMul, Int.reduceEq, List.drop_zero, List.drop_succ_cons, ne_eq, not_false_eq_true, not_true_eq_false, false_and, and_false, false_implies, true_implies, reduceIte, mmU_rd, implies_true, or_false, false_or, or_true, true_or, hb]
  refine ⟨fun c => ?_, fun c => ?_⟩
  · refine mmC_step ?_
    simp only [cd_3, sg_3_0, sg_3_30, sg_3_31, sg_3_33, mmK_cut cd_3, q_cons, q_G0, q_GS, q_I1, q_L1, q_A1, q_S0, q_S1, q_SS, q_T0, q_T1, q_TS, q_Kn, q_Ki, q_Kl, q_Kr, q_k0, q_kS, q_rc, q_ps, q_pn, q_iload1, q_bipush, q_icmp_eq, q_aload0, q_getfieldA, q_iconst, q_ishr, q_dup2, q_iaload, q_iload2, q_iadd, q_iastore, q_iand, q_baload, q_if_eq, q_goto, q_return, rf_0_0, rf_0_2, rf_0_3, rf_6_10, mmKe_102, mmKe_103, mmKe_710, mmKo_0, mmKo_6, mmLen_102, mmLen_103, mmLen_710, mmR32, mmR64, Option.some.injEq, Int.cast_ofNat_Int, and_true, true_and, if_true, if_false, List.length_cons, List.length_nil, Nat.le_refl, Nat.zero_le, Nat.sub_zero, forall_const, reduceCtorEq, Nat.reduceAdd, Nat.reduceSub, Nat.reduceLeDiff, Nat.reduceEqDiff, Int.reduceAdd, Int.reduceNeg, Int.reduceSub, Int.reduceLT, Int.reduceLE, Int.reduceMul, Int.reduceEq, List.drop_zero, List.drop_succ_cons, ne_eq, not_false_eq_true, not_true_eq_false, false_and, and_false, false_implies, true_implies, reduceIte, mmU_rd, implies_true, or_false, false_or, or_true, true_or]
    exact hQ1 c
  · have hs0 : 0 ≤ s ∧ s < 8 := hs.resolve_left c
    have h4 : s / 4 = 0 ∨ s / 4 = 1 := by omega
    have hh := h2 _ h4
    have h41 : 0 ≤ s / 4 ∧ s / 4 < 2 := by omega
    have h4m : 0 ≤ s % 4 ∧ s % 4 < 4 := by omega
    have w : ∀ z, z = (if r 710 (s % 4) = 0 then 0 else e) → mmR32 (I 103 j (s / 4) + z) := by
      intro z hz
      unfold mmR32
      rw [hz]
      split <;> omega
    have e710 : I 710 x (s % 4) = r 710 (s % 4) := hC 710 _ (rt7 (by decide))
    have w31 : ∀ z, z = (if r 710 (s % 4) = 0 then 0 else e) → mmK d 3 Q 31 [some (mo 0 j), some (mv s), some (mv e)] [mv z, mv (I 103 j (s / 4)), mv (s / 4), mo 103 j] (mmU I 102 j (s / 4) (I 102 j (s / 4) + e), mmRf a br, X) := by
      intro z hz
      have hw := w z hz
      refine mmC_step ?_
      simp only [cd_3, sg_3_0, sg_3_30, sg_3_31, sg_3_33, mmK_cut cd_3, q_cons, q_G0, q_GS, q_I1, q_L1, q_A1, q_S0, q_S1, q_SS, q_T0, q_T1, q_TS, q_Kn, q_Ki, q_Kl, q_Kr, q_k0, q_kS, q_rc, q_ps, q_pn, q_iload1, q_bipush, q_icmp_eq, q_aload0, q_getfieldA, q_iconst, q_ishr, q_dup2, q_iaload, q_iload2, q_iadd, q_iastore, q_iand, q_baload, q_if_eq, q_goto, q_return, rf_0_0, rf_0_2, rf_0_3, rf_6_10, mmKe_102, mmKe_103, mmKe_710, mmKo_0, mmKo_6, mmLen_102, mmLen_103, mmLen_710, mmR32, mmR64, Option.some.injEq, Int.cast_ofNat_Int, and_true, true_and, if_true, if_false, List.length_cons, List.length_nil, Nat.le_refl, Nat.zero_le, Nat.sub_zero, forall_const, reduceCtorEq, Nat.reduceAdd, Nat.reduceSub, Nat.reduceLeDiff, Nat.reduceEqDiff, Int.reduceAdd, Int.reduceNeg, Int.reduceSub, Int.reduceLT, Int.reduceLE, Int.reduceMul, Int.reduceEq, List.drop_zero, List.drop_succ_cons, ne_eq, not_false_eq_true, not_true_eq_false, false_and, and_false, false_implies, true_implies, reduceIte, mmU_rd, implies_true, or_false, false_or, or_true, true_or]
      refine ⟨hw, h41.1, h41.2, ?_⟩
      refine mmC_step ?_
      simp only [cd_3, sg_3_0, sg_3_30, sg_3_31, sg_3_33, mmK_cut cd_3, q_cons, q_G0, q_GS, q_I1, q_L1, q_A1, q_S0, q_S1, q_SS, q_T0, q_T1, q_TS, q_Kn, q_Ki, q_Kl, q_Kr, q_k0, q_kS, q_rc, q_ps, q_pn, q_iload1, q_bipush, q_icmp_eq, q_aload0, q_getfieldA, q_iconst, q_ishr, q_dup2, q_iaload, q_iload2, q_iadd, q_iastore, q_iand, q_baload, q_if_eq, q_goto, q_return, rf_0_0, rf_0_2, rf_0_3, rf_6_10, mmKe_102, mmKe_103, mmKe_710, mmKo_0, mmKo_6, mmLen_102, mmLen_103, mmLen_710, mmR32, mmR64, Option.some.injEq, Int.cast_ofNat_Int, and_true, true_and, if_true, if_false, List.length_cons, List.length_nil, Nat.le_refl, Nat.zero_le, Nat.sub_zero, forall_const, reduceCtorEq, Nat.reduceAdd, Nat.reduceSub, Nat.reduceLeDiff, Nat.reduceEqDiff, Int.reduceAdd, Int.reduceNeg, Int.reduceSub, Int.reduceLT, Int.reduceLE, Int.reduceMul, Int.reduceEq, List.drop_zero, List.drop_succ_cons, ne_eq, not_false_eq_true, not_true_eq_false, false_and, and_false, false_implies, true_implies, reduceIte, mmU_rd, implies_true, or_false, false_or, or_true, true_or]
      rw [hz]
      exact hQ2 hs0.1
    rw [mmShr_2 ⟨by omega, by omega⟩, mmAnd_3, e710]
    refine ⟨h41.1, h41.2, by omega, h41.1, h41.2, h41.1, h41.2, h4m.1, h4m.2, fun c2 => ?_, fun c2 => ?_⟩
    · refine mmC_step ?_
      simp only [cd_3, sg_3_0, sg_3_30, sg_3_31, sg_3_33, mmK_cut cd_3, q_cons, q_G0, q_GS, q_I1, q_L1, q_A1, q_S0, q_S1, q_SS, q_T0, q_T1, q_TS, q_Kn, q_Ki, q_Kl, q_Kr, q_k0, q_kS, q_rc, q_ps, q_pn, q_iload1, q_bipush, q_icmp_eq, q_aload0, q_getfieldA, q_iconst, q_ishr, q_dup2, q_iaload, q_iload2, q_iadd, q_iastore, q_iand, q_baload, q_if_eq, q_goto, q_return, rf_0_0, rf_0_2, rf_0_3, rf_6_10, mmKe_102, mmKe_103, mmKe_710, mmKo_0, mmKo_6, mmLen_102, mmLen_103, mmLen_710, mmR32, mmR64, Option.some.injEq, Int.cast_ofNat_Int, and_true, true_and, if_true, if_false, List.length_cons, List.length_nil, Nat.le_refl, Nat.zero_le, Nat.sub_zero, forall_const, reduceCtorEq, Nat.reduceAdd, Nat.reduceSub, Nat.reduceLeDiff, Nat.reduceEqDiff, Int.reduceAdd, Int.reduceNeg, Int.reduceSub, Int.reduceLT, Int.reduceLE, Int.reduceMul, Int.reduceEq, List.drop_zero, List.drop_succ_cons, ne_eq, not_false_eq_true, not_true_eq_false, false_and, and_false, false_implies, true_implies, reduceIte, mmU_rd, implies_true, or_false, false_or, or_true, true_or]
      exact w31 0 (by rw [if_pos c2])
    · exact w31 e (by rw [if_neg c2])
/-- tallies of a board behind a stone that came or went -/
theorem tl_up {s e w : Int} (hs : 0 ≤ s ∧ s < 8) (hw : w = 0 ∨ w = 1) : (mmU (mmU I 102 j (s / 4) (I 102 j (s / 4) + e)) 103 j (s / 4) (I 103 j (s / 4) + (if r 710 (s % 4) = 0 then 0 else e))) 102 j w = I 102 j w + e * oS s w ∧ (mmU (mmU I 102 j (s / 4) (I 102 j (s / 4) + e)) 103 j (s / 4) (I 103 j (s / 4) + (if r 710 (s % 4) = 0 then 0 else e))) 103 j w = I 103 j w + e * oK r s w := by
  unfold oS oK
  by_cases c : s / 4 = w
  · rw [c]
    constructor
    · rw [if_pos rfl]
      unfold mmU
      rw [if_neg (by omega), if_pos ⟨rfl, rfl, rfl⟩]; omega
    · rw [mmU_same]
      by_cases c2 : r 710 (s % 4) = 0
      · rw [if_pos c2, if_neg (fun q => q.2 c2)]; omega
      · rw [if_neg c2, if_pos ⟨rfl, c2⟩]; omega
  · rw [show (if s / 4 = w then (1 : Int) else 0) = 0 from if_neg c, show (if s / 4 = w ∧ ¬ r 710 (s % 4) = 0 then (1 : Int) else 0) = 0 from if_neg (fun q => c q.1)]
    constructor
    · unfold mmU
      rw [if_neg (by omega), if_neg (by omega)]
      omega
    · unfold mmU
      rw [if_neg (by omega), if_neg (by omega)]
      omega
theorem BV_b (hV : BV I j B m r) : ∀ w, w = 0 ∨ w = 1 → (-50 ≤ I 102 j w ∧ I 102 j w ≤ 50) ∧ (-50 ≤ I 103 j w ∧ I 103 j w ≤ 50) := by
  intro w hw
  rw [(hV.2.2 w hw).1, (hV.2.2 w hw).2]
  have h1 := cS_in (B := B) (w := w) 25
  have h2 := cK_in (r := r) (B := B) (w := w) 25
  omega
theorem mv_hi {f t : Int} (hf : 0 ≤ f ∧ f < 25) (ht : 0 ≤ t ∧ t < 25) : mmShr (f * 64 + t) 6 = f := by
  rw [mmShr_6 ⟨by omega, by omega⟩]
  omega
theorem mv_lo {f t : Int} (hf : 0 ≤ f ∧ f < 25) (ht : 0 ≤ t ∧ t < 25) : mmAnd (f * 64 + t) 63 = t := by
  rw [mmAnd_63]
  omega
set_option maxHeartbeats 1000000 in
theorem c_make {v0 : Int} (hv0 : v0 = f * 64 + t) (hb : br j = some (6, x)) (hC : CR I x r) (hw : RW r) (hV : BV I j B m r) (hB : BW r B) (hm : 0 ≤ m ∧ m < 100) (hf : 0 ≤ f ∧ f < r 6 0 * r 6 1) (ht : 0 ≤ t ∧ t < r 6 0 * r 6 1) (hne : ¬ f = t) : mmC (d + 3) 6 [mo 0 j, mv v0] (I, mmRf a br, X) (mT a br X fun v I' => v = some (mv (B t)) ∧ FrD j I I' ∧ BV I' j (bdA B f t) (m + 1) r) := by
  have h25 := (pt_in hw.1 hw.2.1 (x := 0) (y := 0) (by have := hw.1; omega) (by have := hw.2.1; omega)).2.2.1
  have f25 : 0 ≤ f ∧ f < 25 := by omega
  have t25 : 0 ≤ t ∧ t < 25 := by omega
  have e1 : mmShr v0 6 = f := by rw [hv0]; exact mv_hi f25 t25
  have e2 : mmAnd v0 63 = t := by rw [hv0]; exact mv_lo f25 t25
  clear hv0
  have et : I 101 j t = B t := hV.1 t t25.1 t25.2
  have hbt := hB.1 t t25.1 t25.2
  refine mmC_in (by decide) (Nat.le_of_ble_eq_true rfl) (mmC_step ?_)
  simp only [show mmMl 6 = 5 from rfl, mmLs, List.replicate, cd_6, sg_6_0, sg_6_16, sg_6_18, mmK_cut cd_6, q_cons, q_G0, q_GS, q_I1, q_L1, q_A1, q_S0, q_S1, q_SS, q_T0, q_T1, q_TS, q_Kn, q_Ki, q_Kl, q_Kr, q_k0, q_kS, q_rc, q_ps, q_pn, q_iload1, q_bipush, q_ishr, q_istore2, q_iand, q_istore3, q_aload0, q_iload2, q_if_eq, q_iload3, q_if_ne, q_ireturn0, q_getfieldA, q_iaload, q_istore, q_iload, q_iconst, q_iastore, q_dupI, q_dupA, q_getfieldI, q_iadd, q_putfieldI, rf_0_1, mmKe_101, mmKo_0, mmLen_101, mmR32, mmR64, Option.some.injEq, Int.cast_ofNat_Int, and_true, true_and, if_true, if_false, List.length_cons, List.length_nil, Nat.le_refl, Nat.zero_le, Nat.sub_zero, forall_const, reduceCtorEq, Nat.reduceAdd, Nat.reduceSub, Nat.reduceLeDiff, Nat.reduceEqDiff, Int.reduceAdd, Int.reduceNeg, Int.reduceSub, Int.reduceLT, Int.reduceLE, Int.reduceMul, Int.reduceEq, List.drop_zero, List.drop_succ_cons, ne_eq, not_false_eq_true, not_true_eq_false, false_and, and_false, false_implies, true_implies, reduceIte, mmU_rd, implies_true, or_false, false_or, or_true, true_or]
  rw [e1, e2]
  rw [q_invV (pay := [])]
  simp only [q_k0, q_kS, q_rc, mmKo_0]
  refine ⟨by decide, by trivial, Nat.zero_le _, Nat.zero_le _, ?_⟩
  refine sp_isPoint hb hC hw ?_
  rw [bI_pos hf]
  simp only [mmK_cut cd_6, q_cons, q_G0, q_GS, q_I1, q_L1, q_A1, q_S0, q_S1, q_SS, q_T0, q_T1, q_TS, q_Kn, q_Ki, q_Kl, q_Kr, q_k0, q_kS, q_rc, q_ps, q_pn, q_iload1, q_bipush, q_ishr, q_istore2, q_iand, q_istore3, q_aload0, q_iload2, q_if_eq, q_iload3, q_if_ne, q_ireturn0, q_getfieldA, q_iaload, q_istore, q_iload, q_iconst, q_iastore, q_dupI, q_dupA, q_getfieldI, q_iadd, q_putfieldI, rf_0_1, mmKe_101, mmKo_0, mmLen_101, mmR32, mmR64, Option.some.injEq, Int.cast_ofNat_Int, and_true, true_and, if_true, if_false, List.length_cons, List.length_nil, Nat.le_refl, Nat.zero_le, Nat.sub_zero, forall_const, reduceCtorEq, Nat.reduceAdd, Nat.reduceSub, Nat.reduceLeDiff, Nat.reduceEqDiff, Int.reduceAdd, Int.reduceNeg, Int.reduceSub, Int.reduceLT, Int.reduceLE, Int.reduceMul, Int.reduceEq, List.drop_zero, List.drop_succ_cons, ne_eq, not_false_eq_true, not_true_eq_false, false_and, and_false, false_implies, true_implies, reduceIte, mmU_rd, implies_true, or_false, false_or, or_true, true_or]
  rw [q_invV (pay := [])]
  simp only [q_k0, q_kS, q_rc, mmKo_0]
  refine ⟨by decide, by trivial, Nat.zero_le _, Nat.zero_le _, ?_⟩
  refine sp_isPoint hb hC hw ?_
  rw [bI_pos ht]
  simp only [mmK_cut cd_6, q_cons, q_G0, q_GS, q_I1, q_L1, q_A1, q_S0, q_S1, q_SS, q_T0, q_T1, q_TS, q_Kn, q_Ki, q_Kl, q_Kr, q_k0, q_kS, q_rc, q_ps, q_pn, q_iload1, q_bipush, q_ishr, q_istore2, q_iand, q_istore3, q_aload0, q_iload2, q_if_eq, q_iload3, q_if_ne, q_ireturn0, q_getfieldA, q_iaload, q_istore, q_iload, q_iconst, q_iastore, q_dupI, q_dupA, q_getfieldI, q_iadd, q_putfieldI, rf_0_1, mmKe_101, mmKo_0, mmLen_101, mmR32, mmR64, Option.some.injEq, Int.cast_ofNat_Int, and_true, true_and, if_true, if_false, List.length_cons, List.length_nil, Nat.le_refl, Nat.zero_le, Nat.sub_zero, forall_const, reduceCtorEq, Nat.reduceAdd, Nat.reduceSub, Nat.reduceLeDiff, Nat.reduceEqDiff, Int.reduceAdd, Int.reduceNeg, Int.reduceSub, Int.reduceLT, Int.reduceLE, Int.reduceMul, Int.reduceEq, List.drop_zero, List.drop_succ_cons, ne_eq, not_false_eq_true, not_true_eq_false, false_and, and_false, false_implies, true_implies, reduceIte, mmU_rd, implies_true, or_false, false_or, or_true, true_or]
  have fin : ∀ I1 : mMm, FrD j I I1 → (∀ z, I1 101 j z = I 101 j z) → I1 0 j 4 = I 0 j 4 → (∀ w, w = 0 ∨ w = 1 → I1 102 j w = I 102 j w - oS (B t) w ∧ I1 103 j w = I 103 j w - oK r (B t) w) → mmR32 (I1 0 j 4 + 1) ∧ mT a br X (fun v I' => v = some (mv (B t)) ∧ FrD j I I' ∧ BV I' j (bdA B f t) (m + 1) r) (some (mv (B t))) (mmU (mmU (mmU I1 101 j t (I1 101 j f)) 101 j f (-2)) 0 j 4 (I1 0 j 4 + 1), mmRf a br, X) := by
    intro I1 fr1 g1 g2 g3
    have e4 : I1 0 j 4 = m := g2.trans hV.2.1
    rw [e4]
    refine ⟨⟨by omega, by omega⟩, mT_in ⟨rfl, FrD_trans (FrD_trans (FrD_trans fr1 (FrD_U (by omega))) (FrD_U (by omega))) (FrD_U (by omega)), fun z z0 z1 => ?_, mmU_same, fun w hw' => ?_⟩⟩
    · unfold mmU bdA
      rw [if_neg (by omega)]
      by_cases c : z = f
      · rw [if_pos ⟨rfl, rfl, c⟩, if_pos c]
      · rw [if_neg (fun q => c q.2.2), if_neg c]
        by_cases c2 : z = t
        · rw [if_pos ⟨rfl, rfl, c2⟩, if_pos c2, g1, hV.1 f f25.1 f25.2]
        · rw [if_neg (fun q => c2 q.2.2), if_neg c2, g1, hV.1 z z0 z1]
    · rw [cS_bd f25 t25 hne hw', cK_bd f25 t25 hne hw', ← (hV.2.2 w hw').1, ← (hV.2.2 w hw').2]
      exact g3 w hw'
  refine mmC_step ?_
  simp only [cd_6, sg_6_0, sg_6_16, sg_6_18, mmK_cut cd_6, q_cons, q_G0, q_GS, q_I1, q_L1, q_A1, q_S0, q_S1, q_SS, q_T0, q_T1, q_TS, q_Kn, q_Ki, q_Kl, q_Kr, q_k0, q_kS, q_rc, q_ps, q_pn, q_iload1, q_bipush, q_ishr, q_istore2, q_iand, q_istore3, q_aload0, q_iload2, q_if_eq, q_iload3, q_if_ne, q_ireturn0, q_getfieldA, q_iaload, q_istore, q_iload, q_iconst, q_iastore, q_dupI, q_dupA, q_getfieldI, q_iadd, q_putfieldI, rf_0_1, mmKe_101, mmKo_0, mmLen_101, mmR32, mmR64, Option.some.injEq, Int.cast_ofNat_Int, and_true, true_and, if_true, if_false, List.length_cons, List.length_nil, Nat.le_refl, Nat.zero_le, Nat.sub_zero, forall_const, reduceCtorEq, Nat.reduceAdd, Nat.reduceSub, Nat.reduceLeDiff, Nat.reduceEqDiff, Int.reduceAdd, Int.reduceNeg, Int.reduceSub, Int.reduceLT, Int.reduceLE, Int.reduceMul, Int.reduceEq, List.drop_zero, List.drop_succ_cons, ne_eq, not_false_eq_true, not_true_eq_false, false_and, and_false, false_implies, true_implies, reduceIte, mmU_rd, implies_true, or_false, false_or, or_true, true_or]
  rw [et]
  refine ⟨t25.1, t25.2, ?_⟩
  rw [q_invV (pay := [])]
  simp only [q_k0, q_kS, q_rc, mmKo_0]
  refine ⟨by decide, by trivial, Nat.zero_le _, Nat.zero_le _, ?_⟩
  refine sp_tally hb hC (Or.inr rfl) (by omega) (fun w hw' => by have := BV_b hV w hw'; omega) (fun c => ?_) (fun c => ?_)
  · simp only [mmK_cut cd_6, q_cons, q_G0, q_GS, q_I1, q_L1, q_A1, q_S0, q_S1, q_SS, q_T0, q_T1, q_TS, q_Kn, q_Ki, q_Kl, q_Kr, q_k0, q_kS, q_rc, q_ps, q_pn, q_iload1, q_bipush, q_ishr, q_istore2, q_iand, q_istore3, q_aload0, q_iload2, q_if_eq, q_iload3, q_if_ne, q_ireturn0, q_getfieldA, q_iaload, q_istore, q_iload, q_iconst, q_iastore, q_dupI, q_dupA, q_getfieldI, q_iadd, q_putfieldI, rf_0_1, mmKe_101, mmKo_0, mmLen_101, mmR32, mmR64, Option.some.injEq, Int.cast_ofNat_Int, and_true, true_and, if_true, if_false, List.length_cons, List.length_nil, Nat.le_refl, Nat.zero_le, Nat.sub_zero, forall_const, reduceCtorEq, Nat.reduceAdd, Nat.reduceSub, Nat.reduceLeDiff, Nat.reduceEqDiff, Int.reduceAdd, Int.reduceNeg, Int.reduceSub, Int.reduceLT, Int.reduceLE, Int.reduceMul, Int.reduceEq, List.drop_zero, List.drop_succ_cons, ne_eq, not_false_eq_true, not_true_eq_false, false_and, and_false, false_implies, true_implies, reduceIte, mmU_rd, implies_true, or_false, false_or, or_true, true_or]
    have hfin := fin I (fun _ _ _ _ => rfl) (fun _ => rfl) rfl (fun w hw' => by rw [c, oS_2 hw', oK_2 hw']; omega)
    refine ⟨f25.1, f25.2, t25.1, t25.2, f25.1, f25.2, ?_⟩
    exact hfin
  · simp only [mmK_cut cd_6, q_cons, q_G0, q_GS, q_I1, q_L1, q_A1, q_S0, q_S1, q_SS, q_T0, q_T1, q_TS, q_Kn, q_Ki, q_Kl, q_Kr, q_k0, q_kS, q_rc, q_ps, q_pn, q_iload1, q_bipush, q_ishr, q_istore2, q_iand, q_istore3, q_aload0, q_iload2, q_if_eq, q_iload3, q_if_ne, q_ireturn0, q_getfieldA, q_iaload, q_istore, q_iload, q_iconst, q_iastore, q_dupI, q_dupA, q_getfieldI, q_iadd, q_putfieldI, rf_0_1, mmKe_101, mmKo_0, mmLen_101, mmR32, mmR64, Option.some.injEq, Int.cast_ofNat_Int, and_true, true_and, if_true, if_false, List.length_cons, List.length_nil, Nat.le_refl, Nat.zero_le, Nat.sub_zero, forall_const, reduceCtorEq, Nat.reduceAdd, Nat.reduceSub, Nat.reduceLeDiff, Nat.reduceEqDiff, Int.reduceAdd, Int.reduceNeg, Int.reduceSub, Int.reduceLT, Int.reduceLE, Int.reduceMul, Int.reduceEq, List.drop_zero, List.drop_succ_cons, ne_eq, not_false_eq_true, not_true_eq_false, false_and, and_false, false_implies, true_implies, reduceIte, mmU_rd, implies_true, or_false, false_or, or_true, true_or]
    have hs : 0 ≤ B t ∧ B t < 8 := by omega
    have hfin := fin _ (FrD_trans (FrD_U (j := j) (t := 102) (k := B t / 4) (v := I 102 j (B t / 4) + -1) (by omega)) (FrD_U (t := 103) (k := B t / 4) (v := I 103 j (B t / 4) + (if r 710 (B t % 4) = 0 then 0 else -1)) (by omega))) (fun _ => rfl) rfl (fun w hw' => by
      have := tl_up (I := I) (j := j) (r := r) (e := -1) hs hw'
      rw [this.1, this.2]
      omega)
    refine ⟨f25.1, f25.2, t25.1, t25.2, f25.1, f25.2, ?_⟩
    exact hfin
set_option maxHeartbeats 1000000 in
theorem c_unmake {v0 : Int} (hv0 : v0 = f * 64 + t) (hb : br j = some (6, x)) (hC : CR I x r) (hw : RW r) (hV : BV I j (bdA B f t) (m + 1) r) (hB : BW r B) (hm : 0 ≤ m ∧ m < 100) (hf : 0 ≤ f ∧ f < r 6 0 * r 6 1) (ht : 0 ≤ t ∧ t < r 6 0 * r 6 1) (hne : ¬ f = t) : mmC (d + 3) 7 [mo 0 j, mv v0, mv (B t)] (I, mmRf a br, X) (mT a br X fun v I' => v = none ∧ FrD j I I' ∧ BV I' j B m r) := by
  have h25 := (pt_in hw.1 hw.2.1 (x := 0) (y := 0) (by have := hw.1; omega) (by have := hw.2.1; omega)).2.2.1
  have f25 : 0 ≤ f ∧ f < 25 := by omega
  have t25 : 0 ≤ t ∧ t < 25 := by omega
  have e1 : mmShr v0 6 = f := by rw [hv0]; exact mv_hi f25 t25
  have e2 : mmAnd v0 63 = t := by rw [hv0]; exact mv_lo f25 t25
  clear hv0
  have hbt := hB.1 t t25.1 t25.2
  have e4 : I 0 j 4 = m + 1 := hV.2.1
  have et : I 101 j t = B f := by
    rw [hV.1 t t25.1 t25.2]
    unfold bdA
    rw [if_neg (fun q => hne q.symm), if_pos rfl]
  refine mmC_in (by decide) (Nat.le_of_ble_eq_true rfl) (mmC_step ?_)
  simp only [show mmMl 7 = 5 from rfl, mmLs, List.replicate, cd_7, sg_7_0, sg_7_39, mmK_cut cd_7, q_cons, q_G0, q_GS, q_I1, q_L1, q_A1, q_S0, q_S1, q_SS, q_T0, q_T1, q_TS, q_Kn, q_Ki, q_Kl, q_Kr, q_k0, q_kS, q_rc, q_ps, q_pn, q_iload1, q_bipush, q_ishr, q_istore3, q_iand, q_istore, q_aload0, q_iload3, q_if_eq, q_iload, q_dupI, q_dupA, q_getfieldI, q_iconst, q_isub, q_putfieldI, q_getfieldA, q_iaload, q_iastore, q_iload2, q_return, rf_0_1, mmKe_101, mmKo_0, mmLen_101, mmR32, mmR64, Option.some.injEq, Int.cast_ofNat_Int, and_true, true_and, if_true, if_false, List.length_cons, List.length_nil, Nat.le_refl, Nat.zero_le, Nat.sub_zero, forall_const, reduceCtorEq, Nat.reduceAdd, Nat.reduceSub, Nat.reduceLeDiff, Nat.reduceEqDiff, Int.reduceAdd, Int.reduceNeg, Int.reduceSub, Int.reduceLT, Int.reduceLE, Int.reduceMul, Int.reduceEq, List.drop_zero, List.drop_succ_cons, ne_eq, not_false_eq_true, not_true_eq_false, false_and, and_false, false_implies, true_implies, reduceIte, mmU_rd, implies_true, or_false, false_or, or_true, true_or]
  rw [e1, e2]
  rw [q_invV (pay := [])]
  simp only [q_k0, q_kS, q_rc, mmKo_0]
  refine ⟨by decide, by trivial, Nat.zero_le _, Nat.zero_le _, ?_⟩
  refine sp_isPoint hb hC hw ?_
  rw [bI_pos hf]
  simp only [mmK_cut cd_7, q_cons, q_G0, q_GS, q_I1, q_L1, q_A1, q_S0, q_S1, q_SS, q_T0, q_T1, q_TS, q_Kn, q_Ki, q_Kl, q_Kr, q_k0, q_kS, q_rc, q_ps, q_pn, q_iload1, q_bipush, q_ishr, q_istore3, q_iand, q_istore, q_aload0, q_iload3, q_if_eq, q_iload, q_dupI, q_dupA, q_getfieldI, q_iconst, q_isub, q_putfieldI, q_getfieldA, q_iaload, q_iastore, q_iload2, q_return, rf_0_1, mmKe_101, mmKo_0, mmLen_101, mmR32, mmR64, Option.some.injEq, Int.cast_ofNat_Int, and_true, true_and, if_true, if_false, List.length_cons, List.length_nil, Nat.le_refl, Nat.zero_le, Nat.sub_zero, forall_const, reduceCtorEq, Nat.reduceAdd, Nat.reduceSub, Nat.reduceLeDiff, Nat.reduceEqDiff, Int.reduceAdd, Int.reduceNeg, Int.reduceSub, Int.reduceLT, Int.reduceLE, Int.reduceMul, Int.reduceEq, List.drop_zero, List.drop_succ_cons, ne_eq, not_false_eq_true, not_true_eq_false, false_and, and_false, false_implies, true_implies, reduceIte, mmU_rd, implies_true, or_false, false_or, or_true, true_or]
  rw [q_invV (pay := [])]
  simp only [q_k0, q_kS, q_rc, mmKo_0]
  refine ⟨by decide, by trivial, Nat.zero_le _, Nat.zero_le _, ?_⟩
  refine sp_isPoint hb hC hw ?_
  rw [bI_pos ht]
  simp only [mmK_cut cd_7, q_cons, q_G0, q_GS, q_I1, q_L1, q_A1, q_S0, q_S1, q_SS, q_T0, q_T1, q_TS, q_Kn, q_Ki, q_Kl, q_Kr, q_k0, q_kS, q_rc, q_ps, q_pn, q_iload1, q_bipush, q_ishr, q_istore3, q_iand, q_istore, q_aload0, q_iload3, q_if_eq, q_iload, q_dupI, q_dupA, q_getfieldI, q_iconst, q_isub, q_putfieldI, q_getfieldA, q_iaload, q_iastore, q_iload2, q_return, rf_0_1, mmKe_101, mmKo_0, mmLen_101, mmR32, mmR64, Option.some.injEq, Int.cast_ofNat_Int, and_true, true_and, if_true, if_false, List.length_cons, List.length_nil, Nat.le_refl, Nat.zero_le, Nat.sub_zero, forall_const, reduceCtorEq, Nat.reduceAdd, Nat.reduceSub, Nat.reduceLeDiff, Nat.reduceEqDiff, Int.reduceAdd, Int.reduceNeg, Int.reduceSub, Int.reduceLT, Int.reduceLE, Int.reduceMul, Int.reduceEq, List.drop_zero, List.drop_succ_cons, ne_eq, not_false_eq_true, not_true_eq_false, false_and, and_false, false_implies, true_implies, reduceIte, mmU_rd, implies_true, or_false, false_or, or_true, true_or]
  rw [e4, et]
  refine ⟨by omega, t25.1, t25.2, f25.1, f25.2, t25.1, t25.2, ?_⟩
  rw [show m + 1 - 1 = m by omega]
  generalize hI1 : mmU (mmU (mmU I 0 j 4 m) 101 j f (B f)) 101 j t (B t) = I1
  have fr1 : FrD j I I1 := by
    rw [← hI1]
    exact FrD_trans (FrD_trans (FrD_U (by omega)) (FrD_U (by omega))) (FrD_U (by omega))
  have v4 : I1 0 j 4 = m := by rw [← hI1]; unfold mmU; rw [if_neg (by omega), if_neg (by omega), if_pos ⟨rfl, rfl, rfl⟩]
  have v101 : ∀ z, 0 ≤ z → z < 25 → I1 101 j z = B z := by
    intro z z0 z1
    have hz := hV.1 z z0 z1
    unfold bdA at hz
    rw [← hI1]
    unfold mmU
    by_cases c2 : z = t
    · rw [if_pos ⟨rfl, rfl, c2⟩, c2]
    · rw [if_neg (fun q => c2 q.2.2)]
      by_cases c : z = f
      · rw [if_pos ⟨rfl, rfl, c⟩, c]
      · rw [if_neg (fun q => c q.2.2), if_neg (by omega), hz, if_neg c, if_neg c2]
  have v102 : ∀ w, w = 0 ∨ w = 1 → I1 102 j w = cS B w 25 - oS (B t) w ∧ I1 103 j w = cK r B w 25 - oK r (B t) w := by
    intro w hw'
    have := hV.2.2 w hw'
    rw [cS_bd f25 t25 hne hw', cK_bd f25 t25 hne hw'] at this
    rw [← hI1]
    unfold mmU
    rw [if_neg (by omega), if_neg (by omega), if_neg (by omega), if_neg (by omega), if_neg (by omega), if_neg (by omega)]
    exact this
  rw [q_invV (pay := [])]
  simp only [q_k0, q_kS, q_rc, mmKo_0]
  refine ⟨by decide, by trivial, Nat.zero_le _, Nat.zero_le _, ?_⟩
  refine sp_tally hb (CR_D hC fr1) (Or.inl rfl) (by omega) (fun w hw' => ?_) (fun c => ?_) (fun c => ?_)
  · rw [(v102 w hw').1, (v102 w hw').2]
    have h1 := cS_in (B := B) (w := w) 25
    have h2 := cK_in (r := r) (B := B) (w := w) 25
    have h3 := oS_in (v := B t) (w := w)
    have h4 := oK_in (r := r) (v := B t) (w := w)
    omega
  · simp only [mmK_cut cd_7, q_cons, q_G0, q_GS, q_I1, q_L1, q_A1, q_S0, q_S1, q_SS, q_T0, q_T1, q_TS, q_Kn, q_Ki, q_Kl, q_Kr, q_k0, q_kS, q_rc, q_ps, q_pn, q_iload1, q_bipush, q_ishr, q_istore3, q_iand, q_istore, q_aload0, q_iload3, q_if_eq, q_iload, q_dupI, q_dupA, q_getfieldI, q_iconst, q_isub, q_putfieldI, q_getfieldA, q_iaload, q_iastore, q_iload2, q_return, rf_0_1, mmKe_101, mmKo_0, mmLen_101, mmR32, mmR64, Option.some.injEq, Int.cast_ofNat_Int, and_true, true_and, if_true, if_false, List.length_cons, List.length_nil, Nat.le_refl, Nat.zero_le, Nat.sub_zero, forall_const, reduceCtorEq, Nat.reduceAdd, Nat.reduceSub, Nat.reduceLeDiff, Nat.reduceEqDiff, Int.reduceAdd, Int.reduceNeg, Int.reduceSub, Int.reduceLT, Int.reduceLE, Int.reduceMul, Int.reduceEq, List.drop_zero, List.drop_succ_cons, ne_eq, not_false_eq_true, not_true_eq_false, false_and, and_false, false_implies, true_implies, reduceIte, mmU_rd, implies_true, or_false, false_or, or_true, true_or]
    refine mmC_step ?_
    simp only [cd_7, sg_7_0, sg_7_39, mmK_cut cd_7, q_cons, q_G0, q_GS, q_I1, q_L1, q_A1, q_S0, q_S1, q_SS, q_T0, q_T1, q_TS, q_Kn, q_Ki, q_Kl, q_Kr, q_k0, q_kS, q_rc, q_ps, q_pn, q_iload1, q_bipush, q_ishr, q_istore3, q_iand, q_istore, q_aload0, q_iload3, q_if_eq, q_iload, q_dupI, q_dupA, q_getfieldI, q_iconst, q_isub, q_putfieldI, q_getfieldA, q_iaload, q_iastore, q_iload2, q_return, rf_0_1, mmKe_101, mmKo_0, mmLen_101, mmR32, mmR64, Option.some.injEq, Int.cast_ofNat_Int, and_true, true_and, if_true, if_false, List.length_cons, List.length_nil, Nat.le_refl, Nat.zero_le, Nat.sub_zero, forall_const, reduceCtorEq, Nat.reduceAdd, Nat.reduceSub, Nat.reduceLeDiff, Nat.reduceEqDiff, Int.reduceAdd, Int.reduceNeg, Int.reduceSub, Int.reduceLT, Int.reduceLE, Int.reduceMul, Int.reduceEq, List.drop_zero, List.drop_succ_cons, ne_eq, not_false_eq_true, not_true_eq_false, false_and, and_false, false_implies, true_implies, reduceIte, mmU_rd, implies_true, or_false, false_or, or_true, true_or]
    refine mT_in ⟨rfl, fr1, v101, v4, fun w hw' => ?_⟩
    have := v102 w hw'
    rw [c, oS_2 hw', oK_2 hw'] at this
    omega
  · simp only [mmK_cut cd_7, q_cons, q_G0, q_GS, q_I1, q_L1, q_A1, q_S0, q_S1, q_SS, q_T0, q_T1, q_TS, q_Kn, q_Ki, q_Kl, q_Kr, q_k0, q_kS, q_rc, q_ps, q_pn, q_iload1, q_bipush, q_ishr, q_istore3, q_iand, q_istore, q_aload0, q_iload3, q_if_eq, q_iload, q_dupI, q_dupA, q_getfieldI, q_iconst, q_isub, q_putfieldI, q_getfieldA, q_iaload, q_iastore, q_iload2, q_return, rf_0_1, mmKe_101, mmKo_0, mmLen_101, mmR32, mmR64, Option.some.injEq, Int.cast_ofNat_Int, and_true, true_and, if_true, if_false, List.length_cons, List.length_nil, Nat.le_refl, Nat.zero_le, Nat.sub_zero, forall_const, reduceCtorEq, Nat.reduceAdd, Nat.reduceSub, Nat.reduceLeDiff, Nat.reduceEqDiff, Int.reduceAdd, Int.reduceNeg, Int.reduceSub, Int.reduceLT, Int.reduceLE, Int.reduceMul, Int.reduceEq, List.drop_zero, List.drop_succ_cons, ne_eq, not_false_eq_true, not_true_eq_false, false_and, and_false, false_implies, true_implies, reduceIte, mmU_rd, implies_true, or_false, false_or, or_true, true_or]
    refine mmC_step ?_
    simp only [cd_7, sg_7_0, sg_7_39, mmK_cut cd_7, q_cons, q_G0, q_GS, q_I1, q_L1, q_A1, q_S0, q_S1, q_SS, q_T0, q_T1, q_TS, q_Kn, q_Ki, q_Kl, q_Kr, q_k0, q_kS, q_rc, q_ps, q_pn, q_iload1, q_bipush, q_ishr, q_istore3, q_iand, q_istore, q_aload0, q_iload3, q_if_eq, q_iload, q_dupI, q_dupA, q_getfieldI, q_iconst, q_isub, q_putfieldI, q_getfieldA, q_iaload, q_iastore, q_iload2, q_return, rf_0_1, mmKe_101, mmKo_0, mmLen_101, mmR32, mmR64, Option.some.injEq, Int.cast_ofNat_Int, and_true, true_and, if_true, if_false, List.length_cons, List.length_nil, Nat.le_refl, Nat.zero_le, Nat.sub_zero, forall_const, reduceCtorEq, Nat.reduceAdd, Nat.reduceSub, Nat.reduceLeDiff, Nat.reduceEqDiff, Int.reduceAdd, Int.reduceNeg, Int.reduceSub, Int.reduceLT, Int.reduceLE, Int.reduceMul, Int.reduceEq, List.drop_zero, List.drop_succ_cons, ne_eq, not_false_eq_true, not_true_eq_false, false_and, and_false, false_implies, true_implies, reduceIte, mmU_rd, implies_true, or_false, false_or, or_true, true_or]
    have hs : 0 ≤ B t ∧ B t < 8 := by omega
    refine mT_in ⟨rfl, FrD_trans (FrD_trans fr1 (FrD_U (by omega))) (FrD_U (by omega)), fun z z0 z1 => (show _ = I1 101 j z from rfl).trans (v101 z z0 z1), (show _ = I1 0 j 4 from rfl).trans v4, fun w hw' => ?_⟩
    have h1 := tl_up (I := I1) (j := j) (r := r) (e := 1) hs hw'
    rw [h1.1, h1.2, (v102 w hw').1, (v102 w hw').2]
    omega
end S809
