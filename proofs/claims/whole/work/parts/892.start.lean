/-- a row of instructions, and what comes behind it -/
def mmSq (C : Nat → List mmV → mmM → (Option mmV → mmM → Prop) → Prop) (J : Nat → List (Option mmV) → List mmV → mmM → Prop) (Q : Option mmV → mmM → Prop) : List mmP → (List (Option mmV) → List mmV → mmM → Prop) → List (Option mmV) → List mmV → mmM → Prop
  | [], K => K
  | op :: cd, K => mmStep C J Q op (mmSq C J Q cd K)
section S892
variable {d i j a b : Nat} {I J J' : mMm} {R : Nat → Nat → Int → Option mmO} {X : mmX} {cnt : Nat → Nat} {Q : Option mmV → mmM → Prop} {S : Int → Int} {len : Int}
theorem sq_c {C : Nat → List mmV → mmM → (Option mmV → mmM → Prop) → Prop} {J : Nat → List (Option mmV) → List mmV → mmM → Prop} {op : mmP} {cd : List mmP} {K : List (Option mmV) → List mmV → mmM → Prop} {ls : List (Option mmV)} {st : List mmV} {μ : mmM} : mmSq C J Q (op :: cd) K ls st μ = mmStep C J Q op (mmSq C J Q cd K) ls st μ := rfl
theorem sq_n {C : Nat → List mmV → mmM → (Option mmV → mmM → Prop) → Prop} {J : Nat → List (Option mmV) → List mmV → mmM → Prop} {K : List (Option mmV) → List mmV → mmM → Prop} {ls : List (Option mmV)} {st : List mmV} {μ : mmM} : mmSq C J Q [] K ls st μ = K ls st μ := rfl
theorem CP_start (hI : ∀ t i k, ¬ t = 1301 → ¬ t = 1302 → I t i k = 0) (hC : CM I J 2 5) (hM : MM J J') : CPr J' (fun _ => none) 0 (fun t k => J' t 0 k) (Lc J' 0) 0 := by
  obtain ⟨h1, h2, h3, h4, h5, h6⟩ := hC
  obtain ⟨g1, g2, ⟨g11, g14, g15, g60, g68, g69, g82⟩, gB, gR⟩ := hM
  have e : ∀ t i k, t < 1200 → ¬ t = 11 → J' t i k = J t i k := fun t i k c1 c2 => g1 t i k c2 (by omega)
  have z : ∀ t i k, t < 1200 → ¬ t = 8 → ¬ t = 11 → ¬ (t = 6 ∨ t = 714) → ¬ t = 5 → J' t i k = 0 := fun t i k c1 c2 c3 c4 c5 => (e t i k c1 c3).trans (h2 t i k c1 c2 (by omega) (by omega))
  obtain ⟨q0, q1, q2, q3, q4, q5, q6, q7, q8⟩ := h5 0 (by omega)
  have hRC : RC (fun t k => J' t 0 k) := ⟨⟨(e _ _ _ (by decide) (by decide)).trans q0, (e _ _ _ (by decide) (by decide)).trans q1, (e _ _ _ (by decide) (by decide)).trans q2, (e _ _ _ (by decide) (by decide)).trans q3, (e _ _ _ (by decide) (by decide)).trans q4, (e _ _ _ (by decide) (by decide)).trans q5, (e _ _ _ (by decide) (by decide)).trans q6, (e _ _ _ (by decide) (by decide)).trans q7⟩, z _ _ _ (by decide) (by decide) (by decide) (by decide) (by decide), z _ _ _ (by decide) (by decide) (by decide) (by decide) (by decide), z _ _ _ (by decide) (by decide) (by decide) (by decide) (by decide), fun x x0 x1 => (e _ _ _ (by decide) (by decide)).trans (q8 x x0 x1)⟩
  have hR := gR _ hRC
  have hB := BW_of hR.1 hR.2.2
  have l0 : Lc J' 0 0 0 = 0 := z 3 0 0 (by decide) (by decide) (by decide) (by decide) (by decide)
  have l11 : Lc J' 0 11 0 = 0 := z 3 0 11 (by decide) (by decide) (by decide) (by decide) (by decide)
  have l14 : Lc J' 0 14 0 = 0 := z 3 0 14 (by decide) (by decide) (by decide) (by decide) (by decide)
  have hW : LW (Lc J' 0) := ⟨by omega, by omega, by omega, fun l _ _ => by omega, fun l k _ _ _ _ => by omega, fun k _ _ => by omega⟩
  have hE : LE (Lc J' 0) (Lm J') := ⟨g68.trans l0.symm, g69.trans l11.symm, g60.trans l14.symm, fun l _ _ => by omega, fun l k _ _ _ _ => by omega, fun k _ _ => by omega⟩
  have c11 : J' 10 0 11 = 0 := z _ _ _ (by decide) (by decide) (by decide) (by decide) (by decide)
  have c6 : J' 10 0 6 = 0 := z _ _ _ (by decide) (by decide) (by decide) (by decide) (by decide)
  have e8 : ∀ k, J' 8 0 k = J 8 0 k := fun k => e _ _ _ (by decide) (by decide)
  refine ⟨⟨fun _ _ _ => rfl, RQ_of hR.1 hR.2.1 hR.2.2, hB, fun _ _ _ => rfl, hW, by omega, fun w hw => ?_⟩, ⟨hR, hB, ME_of hE, hW⟩, hE, Or.inl rfl, ⟨?_, ?_, ?_, ?_, ?_, g2, gB⟩, ⟨g82.trans c6.symm, Or.inl c6, fun q => by omega⟩, by omega⟩
  · have : J' 5 (w + 1) 0 = -1 := (e _ _ _ (by decide) (by decide)).trans (h6 (w + 1) (by omega))
    exact ⟨by omega, fun q => by omega⟩
  · funext k
    rw [z 900 0 k (by decide) (by decide) (by decide) (by decide) (by decide), g1 1200 0 k (by decide) (by omega), h1 1200 0 k (by decide), hI 1200 0 k (by decide) (by decide)]
  · rw [g11, e8, h4 1 (by decide)]
  · rw [e8, h4 1 (by decide)]; omega
  · rw [g14, e8, h4 7 (by decide)]
  · rw [g15, e8, h3]
/-- the first instructions of the law -/
def lwP : List mmP := [(.new 8, [10, 126], 0), (.dup, [], 0), (.invokespecial 17, [2, 99, 1, 135, 6615, 128, 10], 0), (.astore_n 1, [], 0), (.new 18, [11, 1186], 0), (.dup, [], 0), (.invokespecial 20, [2, 142, 1, 39, 19043, 1188, 11], 0), (.astore_n 2, [], 0), (.iconst 1, [], 0), (.newarray .long, [1300], 0), (.astore_n 3, [], 0), (.iconst 0, [], 0), (.istore 4, [], 0)]
set_option maxHeartbeats 1000000 in
theorem lw_pre {P : Nat → List (Option mmV) → List mmV → mmM → Prop} (hI : ∀ t i k, ¬ t = 1301 → ¬ t = 1302 → I t i k = 0) (hS : SC I S len) (hlen : 0 ≤ len ∧ len ≤ 3072) (hv : ∀ k, 0 ≤ k → k < len → 0 ≤ k ∧ S k < 2147483648) (hQ : ∀ μ, Q (some (mv 1)) μ) : mmSq (mmC (d + 13)) P Q lwP (mmK (d + 13) 257 Q 13) [some (mo 1301 0), none, none, none, none, none, none] [] (I, mmRf 0 (fun _ => none), (fun _ => 0), 601024, 7293034) := by
  unfold lwP
  have zI : ∀ t i, ¬ t = 1301 → ¬ t = 1302 → ∀ k, I t i k = 0 := fun t i h1 h2 k => hI t i k h1 h2
  have z10 : ∀ k, I 10 0 k = 0 := zI 10 0 (by decide) (by decide)
  simp only [sq_c, q_cons, q_G0, q_GS, q_I1, q_L1, q_A1, q_S0, q_S1, q_SS, q_T0, q_T1, q_TS, q_Kn, q_Ki, q_Kl, q_Kr, q_k0, q_kS, q_rc, q_ps, q_pn, q_new, q_dupI, q_dupA, q_astore1, q_astore2, q_iconst, q_newarray, q_astore3, q_istore, q_iload, q_aload0, q_arraylengthX, q_bipush, q_isub, q_icmp_gt, q_ialoadX, q_iand, q_w0, q_wS, q_l0, q_lS, q_tableswitch, q_aload1, q_iadd, q_aload2, q_icmp_eq, q_ireturn1, q_aload3, q_if_ne, q_laload, q_i2l, q_lcmp, q_if_eq, q_goto, q_iinc, mmKe_1300, mmKo_10, mmKo_11, mmLen_1300, mmR32, mmR64, Option.some.injEq, Int.cast_ofNat_Int, and_true, true_and, if_true, if_false, List.length_cons, List.length_nil, Nat.le_refl, Nat.zero_le, Nat.sub_zero, forall_const, reduceCtorEq, Nat.reduceAdd, Nat.reduceSub, Nat.reduceLeDiff, Nat.reduceEqDiff, Int.reduceAdd, Int.reduceNeg, Int.reduceSub, Int.reduceLT, Int.reduceLE, Int.reduceMul, Int.reduceEq, List.drop_zero, List.drop_succ_cons, ne_eq, not_false_eq_true, not_true_eq_false, false_and, and_false, false_implies, true_implies, reduceIte, mmU_rd, implies_true, or_false, false_or, or_true, true_or, vu_rd, zr, mmUr_rd, z10, show mmKn 10 = 12 from rfl]
  rw [q_invI (pay := [])]
  simp only [q_k0, q_kS, q_rc, mmKo_10]
  refine ⟨Nat.le_of_ble_eq_true rfl, by trivial, Nat.le_of_ble_eq_true rfl, Nat.le_of_ble_eq_true rfl, ?_⟩
  refine k_class (fun t i k ht => hI t i k (by omega) (by omega)) (fun t ht => vu_o ht) (fun J c1 _ _ hC hc1 => ?_)
  have z11 : ∀ k, J 11 0 k = 0 := fun k => hC.2.1 _ _ _ (by decide) (by decide) (by decide) (by decide)
  have d11 : c1 11 = 0 := hc1 _ (by decide)
  simp only [sq_c, q_cons, q_G0, q_GS, q_I1, q_L1, q_A1, q_S0, q_S1, q_SS, q_T0, q_T1, q_TS, q_Kn, q_Ki, q_Kl, q_Kr, q_k0, q_kS, q_rc, q_ps, q_pn, q_new, q_dupI, q_dupA, q_astore1, q_astore2, q_iconst, q_newarray, q_astore3, q_istore, q_iload, q_aload0, q_arraylengthX, q_bipush, q_isub, q_icmp_gt, q_ialoadX, q_iand, q_w0, q_wS, q_l0, q_lS, q_tableswitch, q_aload1, q_iadd, q_aload2, q_icmp_eq, q_ireturn1, q_aload3, q_if_ne, q_laload, q_i2l, q_lcmp, q_if_eq, q_goto, q_iinc, mmKe_1300, mmKo_10, mmKo_11, mmLen_1300, mmR32, mmR64, Option.some.injEq, Int.cast_ofNat_Int, and_true, true_and, if_true, if_false, List.length_cons, List.length_nil, Nat.le_refl, Nat.zero_le, Nat.sub_zero, forall_const, reduceCtorEq, Nat.reduceAdd, Nat.reduceSub, Nat.reduceLeDiff, Nat.reduceEqDiff, Int.reduceAdd, Int.reduceNeg, Int.reduceSub, Int.reduceLT, Int.reduceLE, Int.reduceMul, Int.reduceEq, List.drop_zero, List.drop_succ_cons, ne_eq, not_false_eq_true, not_true_eq_false, false_and, and_false, false_implies, true_implies, reduceIte, mmU_rd, implies_true, or_false, false_or, or_true, true_or, vu_rd, zr, mmUr_rd, z11, d11, show mmKn 11 = 89 from rfl]
  rw [q_invI (pay := [])]
  simp only [q_k0, q_kS, q_rc, mmKo_11]
  refine ⟨Nat.le_of_ble_eq_true rfl, by trivial, Nat.le_of_ble_eq_true rfl, Nat.le_of_ble_eq_true rfl, ?_⟩
  refine k_model z11 (fun t k h1 h2 => (hC.1 t 0 k h1).trans (hI t 0 k (by omega) (by omega))) (fun t ht => (vu_o (by omega)).trans (hc1 t (by omega))) (fun J' c2 _ _ hM hc2 => ?_)
  have hCP := CP_start hI hC hM
  have eS : ∀ t i k, t = 1301 ∨ t = 1302 → J' t i k = I t i k := fun t i k ht => (hM.1 t i k (by omega) (by omega)).trans (hC.1 t i k (by omega))
  have hS' := SC_ext hS eS
  have z1300 : ∀ k, J' 1300 0 k = 0 := fun k => (hM.1 1300 0 k (by decide) (by decide)).trans ((hC.1 1300 0 k (by decide)).trans (hI _ _ _ (by decide) (by decide)))
  have r1300 : ∀ k, mmRf 0 (fun _ => none) 1300 0 k = none := fun k => rfl
  simp only [sq_c, sq_n, q_cons, q_G0, q_GS, q_I1, q_L1, q_A1, q_S0, q_S1, q_SS, q_T0, q_T1, q_TS, q_Kn, q_Ki, q_Kl, q_Kr, q_k0, q_kS, q_rc, q_ps, q_pn, q_new, q_dupI, q_dupA, q_astore1, q_astore2, q_iconst, q_newarray, q_astore3, q_istore, q_iload, q_aload0, q_arraylengthX, q_bipush, q_isub, q_icmp_gt, q_ialoadX, q_iand, q_w0, q_wS, q_l0, q_lS, q_tableswitch, q_aload1, q_iadd, q_aload2, q_icmp_eq, q_ireturn1, q_aload3, q_if_ne, q_laload, q_i2l, q_lcmp, q_if_eq, q_goto, q_iinc, mmKe_1300, mmKo_10, mmKo_11, mmLen_1300, mmR32, mmR64, Option.some.injEq, Int.cast_ofNat_Int, and_true, true_and, if_true, if_false, List.length_cons, List.length_nil, Nat.le_refl, Nat.zero_le, Nat.sub_zero, forall_const, reduceCtorEq, Nat.reduceAdd, Nat.reduceSub, Nat.reduceLeDiff, Nat.reduceEqDiff, Int.reduceAdd, Int.reduceNeg, Int.reduceSub, Int.reduceLT, Int.reduceLE, Int.reduceMul, Int.reduceEq, List.drop_zero, List.drop_succ_cons, ne_eq, not_false_eq_true, not_true_eq_false, false_and, and_false, false_implies, true_implies, reduceIte, mmU_rd, implies_true, or_false, false_or, or_true, true_or, vu_rd, zr, rr, mmUr_rd, z1300, r1300, hc2, mmKe_1300, mmLen_1300, Int.reduceToNat]
  exact lw_13 hlen hv hQ 513 0 J' (fun _ => none) 0 none none _ _ (by omega) (by omega) (by omega) ⟨hS', _, _, hCP⟩ (by omega) (by omega)
end S892
