def kW (x : Int) : Int := if x = 0 then 0 else kM x
def PLm (g : Int → Int) : List Int → Prop
  | [] => True
  | c :: P => ((g P.length = 0 ∨ (2 ≤ g P.length ∧ g P.length ≤ 14)) ∧ kW (g P.length) = c) ∧ PLm g P
def nB : List Int → Int
  | [] => 0
  | c :: P => (if c = 0 ∨ c = -11 then 0 else 1) + nB P
theorem nB_c {c : Int} {P : List Int} : nB (c :: P) = (if c = 0 ∨ c = -11 then 0 else 1) + nB P := rfl
theorem nB_in : ∀ P : List Int, 0 ≤ nB P ∧ nB P ≤ nS P
  | [] => ⟨Int.le_refl _, Int.le_refl _⟩
  | c :: P => by
    have := nB_in P
    rw [nB_c, show nS (c :: P) = (if c = 0 then 0 else 1) + nS P from rfl]
    by_cases h : c = 0
    · rw [if_pos (Or.inl h), if_pos h]; omega
    · rw [if_neg h]; split <;> omega
def rkM (x : Int) : Int := if 13 ≤ x then 6 else if 11 ≤ x then 5 else if 5 ≤ x then 4 else if x = 2 then 3 else if x = 3 then 2 else if x = 4 then 1 else 0
theorem rkM_W {x : Int} (h : x = 0 ∨ (2 ≤ x ∧ x ≤ 14)) : rkM x = rkF (kW x) := by
  have : x = 0 ∨ x = 2 ∨ x = 3 ∨ x = 4 ∨ x = 5 ∨ x = 6 ∨ x = 7 ∨ x = 8 ∨ x = 9 ∨ x = 10 ∨ x = 11 ∨ x = 12 ∨ x = 13 ∨ x = 14 := by omega
  rcases this with q | q | q | q | q | q | q | q | q | q | q | q | q | q <;> subst q <;> decide
theorem kW_in {x : Int} (h : 2 ≤ x ∧ x ≤ 14) : -21 ≤ kW x ∧ kW x ≤ -9 ∧ (kW x = -11 ↔ x = 2) ∧ kM x = kW x ∧ (kW x < -8) := by
  have : x = 2 ∨ x = 3 ∨ x = 4 ∨ x = 5 ∨ x = 6 ∨ x = 7 ∨ x = 8 ∨ x = 9 ∨ x = 10 ∨ x = 11 ∨ x = 12 ∨ x = 13 ∨ x = 14 := by omega
  rcases this with q | q | q | q | q | q | q | q | q | q | q | q | q <;> subst q <;> decide
theorem PLm_ext {g g' : Int → Int} : ∀ {P : List Int}, (∀ k, 0 ≤ k → k < P.length → g' k = g k) → PLm g P → PLm g' P
  | [], _, _ => trivial
  | c :: P, h, q => by
    rw [List.length_cons] at h
    refine ⟨?_, PLm_ext (fun k h0 h1 => h k h0 (by omega)) q.2⟩
    rw [h _ (by omega) (by omega)]
    exact q.1
theorem ixS_congr {K K' : Int → Int} : ∀ n : Nat, (∀ m : Nat, m < n → K' m = K m) → ixS K' n = ixS K n
  | 0, _ => rfl
  | n + 1, h => by
    show ixT (K' n) n (ixS K' n) = ixT (K n) n (ixS K n)
    rw [h n (by omega), ixS_congr n (fun m hm => h m (by omega))]
theorem TPn_congr {K K' kn kn' pa pa' ot ot' : Int → Int} {m : Nat} (h : ∀ q : Nat, q ≤ m → K' q = K q) (h1 : kn' m = kn m) (h2 : pa' m = pa m) (h3 : ot' m = ot m) (ht : TPn K kn pa ot m) : TPn K' kn' pa' ot' m := by
  unfold TPn at ht ⊢
  rw [h m (by omega), h1, h2, h3, ixS_congr m (fun q hq => h q (by omega))]
  exact ht
def HM (h : Int) (g : Int → Int) (r : mRu) : Prop := h = (ixS (r 200) (r 1 2).toNat).1 ∧ ∀ i, 0 ≤ i → i < h → g i = (ixS (r 200) (r 1 2).toNat).2 i
def LMt (I : mMm) (r : mRu) : Prop := 0 ≤ r 1 2 ∧ I 11 0 26 = r 1 2 ∧ HM (I 11 0 51) (I 1249 0) r ∧ ∀ m : Nat, (m : Int) < r 1 2 → TPn (r 200) (Gr I 30) (Gr I 31) (Gr I 32) m
def LM (I : mMm) (P : List Int) (op kn e : Int) (r : mRu) : Prop :=
  I 11 0 50 = P.length ∧ PLm (I 1248 0) P ∧ I 11 0 52 = op ∧ I 11 0 53 = kn ∧ LMt I r ∧ (ixS (r 200) (r 1 2).toNat).1 = nB P + e
def LWt (t : Nat) (k : Int) : Prop := (t = 11 ∧ ((7 ≤ k ∧ k ≤ 11) ∨ k = 47 ∨ k = 26 ∨ (50 ≤ k ∧ k ≤ 55))) ∨ (1244 ≤ t ∧ t ≤ 1246 ∧ 64 ≤ k) ∨ t = 1248 ∨ t = 1249
def FrL (I I' : mMm) : Prop := ∀ t i k, ¬ LWt t k → I' t i k = I t i k
theorem lad_200 {r : mRu} {c x : Int} : lad r c 200 x = if x = r 1 2 then c else r 200 x := by
  unfold lad ru
  rw [if_neg (by omega)]
  by_cases h : x = r 1 2
  · rw [if_pos ⟨rfl, h⟩, if_pos h]
  · rw [if_neg (fun q => h q.2), if_neg h]
section S75
variable {d a : Nat} {I I' I'' J : mMm} {br : Nat → Option mmO} {R : Nat → Nat → Int → Option mmO} {X : mmX} {T : Int → Int} {s p o k w x op kn e h : Int} {r r' r'' : mRu} {Q : Option mmV → mmM → Prop} {P : List Int}
theorem FrL_trans (h : FrL I I') (h' : FrL I' I'') : FrL I I'' := fun t i x c => (h' t i x c).trans (h t i x c)
theorem FrL_refl : FrL I I := fun t i x c => rfl
theorem FrL_7 (h : Fr7 I I') : FrL I I' := fun t i x c => h t i x (fun q => c (by unfold LWt; omega))
theorem FrL_U {t i : Nat} {x v : Int} (h : LWt t x) : FrL I (mmU I t i x v) := by
  intro t' i' k' c
  unfold mmU
  rw [if_neg]
  rintro ⟨rfl, rfl, rfl⟩
  exact c h
theorem FrM_L (h : FrL I I') : FrM I I' := ⟨fun t i x c => h t i x (fun q => c (by unfold LWt at q; unfold Mt; omega)), BL_ext (fun t k ht => h t 0 k (by unfold LWt; omega))⟩
theorem LMt_grow {c : Int} (hT : LMt I r) (hh : 0 ≤ h) (hle : h ≤ I 11 0 51) (hE : ixT c (r 1 2) (ixS (r 200) (r 1 2).toNat) = (h + 1, fup (ixS (r 200) (r 1 2).toNat).2 h (r 1 2))) (hnew : TPn (lad r c 200) (Gr J 30) (Gr J 31) (Gr J 32) (r 1 2).toNat)
    (hJ : ∀ t z, (1244 ≤ t ∧ t ≤ 1246 ∧ ¬ z = 64 + r 1 2) ∨ (t = 1249 ∧ ¬ z = h) → J t 0 z = I t 0 z) (h49 : J 1249 0 h = r 1 2) (h51 : J 11 0 51 = h + 1) (h26 : J 11 0 26 = r 1 2 + 1) : LMt J (lad r c) ∧ (ixS (lad r c 200) (lad r c 1 2).toNat).1 = h + 1 := by
  obtain ⟨t0, t1, ⟨t2, t3⟩, t4⟩ := hT
  have en : (lad r c 1 2).toNat = (r 1 2).toNat + 1 := by rw [lad_n]; omega
  have eK : ∀ m : Nat, m < (r 1 2).toNat → lad r c 200 m = r 200 m := fun m hm => by rw [lad_200, if_neg (by omega)]
  have eC : lad r c 200 ((r 1 2).toNat : Nat) = c := by rw [lad_200, if_pos (by omega)]
  have eS : ixS (lad r c 200) (lad r c 1 2).toNat = (h + 1, fup (ixS (r 200) (r 1 2).toNat).2 h (r 1 2)) := by
    rw [en]
    show ixT (lad r c 200 ((r 1 2).toNat : Nat)) ((r 1 2).toNat : Nat) (ixS (lad r c 200) (r 1 2).toNat) = _
    rw [eC, ixS_congr _ eK, show (((r 1 2).toNat : Nat) : Int) = r 1 2 by omega]
    exact hE
  refine ⟨⟨by rw [lad_n]; omega, by rw [lad_n]; exact h26, ⟨by rw [eS]; exact h51, fun i i0 i1 => ?_⟩, fun m hm => ?_⟩, by rw [eS]⟩
  · rw [eS]
    simp only
    unfold fup
    by_cases c1 : i = h
    · rw [if_pos c1, c1]; exact h49
    · rw [if_neg c1, hJ 1249 i (Or.inr ⟨rfl, c1⟩)]
      rw [h51] at i1
      exact t3 i i0 (by omega)
  · rw [lad_n] at hm
    by_cases c1 : m = (r 1 2).toNat
    · rw [c1]; exact hnew
    · refine TPn_congr (fun q hq => eK q (by omega)) ?_ ?_ ?_ (t4 m (by omega))
      · exact hJ 1244 (64 + m) (Or.inl (by omega))
      · exact hJ 1245 (64 + m) (Or.inl (by omega))
      · exact hJ 1246 (64 + m) (Or.inl (by omega))
def gwM (I : mMm) (k a b : Int) : mMm := mmU (mmU (mmU (mmU (mmU (mmU I 1244 0 (64 + I 11 0 26) k) 1245 0 (64 + I 11 0 26) a) 1246 0 (64 + I 11 0 26) b) 1249 0 (I 11 0 51) (I 11 0 26)) 11 0 51 (I 11 0 51 + 1)) 11 0 26 (I 11 0 26 + 1)
theorem m_grown {k x y : Int} (h1 : 0 ≤ I 11 0 26 ∧ I 11 0 26 < 64) (h2 : 0 ≤ I 11 0 51 ∧ I 11 0 51 < 96) (hQ : Q none (gwM I k x y, mmRf a br, X)) : mmC (d + 1) 174 [mo 11 0, mv k, mv x, mv y] (I, mmRf a br, X) Q := by
  refine mmC_in (by decide) (Nat.le_of_ble_eq_true rfl) (mmC_step ?_)
  simp only [show mmMl 174 = 4 from rfl, mmLs, List.replicate, cd_174, sg_174_0, mmK_cut cd_174, q_cons, q_G0, q_GS, q_I1, q_L1, q_A1, q_S0, q_S1, q_SS, q_T0, q_T1, q_TS, q_Kn, q_Ki, q_Kl, q_Kr, q_k0, q_kS, q_rc, q_ps, q_pn, q_aload0, q_getfieldA, q_bipush, q_getfieldI, q_iadd, q_iload1, q_iastore, q_iload2, q_iload3, q_dupI, q_dupA, q_iconst, q_putfieldI, q_return, rf_11_44, rf_11_45, rf_11_46, rf_11_49, mmKe_1244, mmKe_1245, mmKe_1246, mmKe_1249, mmKo_11, mmLen_1244, mmLen_1245, mmLen_1246, mmLen_1249, mmR32, mmR64, Option.some.injEq, Int.cast_ofNat_Int, and_true, true_and, if_true, if_false, List.length_cons, List.length_nil, Nat.le_refl, Nat.zero_le, Nat.sub_zero, forall_const, reduceCtorEq, Nat.reduceAdd, Nat.reduceSub, Nat.reduceLeDiff, Nat.reduceEqDiff, Int.reduceAdd, Int.reduceNeg, Int.reduceSub, Int.reduceLT, Int.reduceLE, Int.reduceMul, Int.reduceEq, List.drop_zero, List.drop_succ_cons, ne_eq, not_false_eq_true, not_true_eq_false, false_and, and_false, false_implies, true_implies, reduceIte, mmU_rd, implies_true, or_false, false_or, or_true, true_or]
  repeat' (first | omega | exact hQ | refine ⟨?_, ?_⟩)
theorem m_drop (h2 : 1 ≤ I 11 0 51 ∧ I 11 0 51 ≤ 96) (hQ : Q (some (mv (I 1249 0 (I 11 0 51 - 1)))) (mmU I 11 0 51 (I 11 0 51 - 1), mmRf a br, X)) : mmC (d + 1) 175 [mo 11 0] (I, mmRf a br, X) Q := by
  refine mmC_in (by decide) (Nat.le_of_ble_eq_true rfl) (mmC_step ?_)
  simp only [show mmMl 175 = 1 from rfl, mmLs, List.replicate, cd_175, sg_175_0, mmK_cut cd_175, q_cons, q_G0, q_GS, q_I1, q_L1, q_A1, q_S0, q_S1, q_SS, q_T0, q_T1, q_TS, q_Kn, q_Ki, q_Kl, q_Kr, q_k0, q_kS, q_rc, q_ps, q_pn, q_aload0, q_dupI, q_dupA, q_getfieldI, q_iconst, q_isub, q_putfieldI, q_getfieldA, q_iaload, q_ireturn0, rf_11_49, mmKe_1249, mmKo_11, mmLen_1249, mmR32, mmR64, Option.some.injEq, Int.cast_ofNat_Int, and_true, true_and, if_true, if_false, List.length_cons, List.length_nil, Nat.le_refl, Nat.zero_le, Nat.sub_zero, forall_const, reduceCtorEq, Nat.reduceAdd, Nat.reduceSub, Nat.reduceLeDiff, Nat.reduceEqDiff, Int.reduceAdd, Int.reduceNeg, Int.reduceSub, Int.reduceLT, Int.reduceLE, Int.reduceMul, Int.reduceEq, List.drop_zero, List.drop_succ_cons, ne_eq, not_false_eq_true, not_true_eq_false, false_and, and_false, false_implies, true_implies, reduceIte, mmU_rd, implies_true, or_false, false_or, or_true, true_or]
  repeat' (first | omega | exact hQ | refine ⟨?_, ?_⟩)
theorem m_rank {x : Int} (hQ : Q (some (mv (rkM x))) (I, R, X)) : mmC (d + 1) 173 [mv x] (I, R, X) Q := by
  have hQ' : ∀ z, z = rkM x → Q (some (mv z)) (I, R, X) := fun z hz => by rw [hz]; exact hQ
  refine mmC_in (by decide) (Nat.le_of_ble_eq_true rfl) (mmC_step ?_)
  simp only [show mmMl 173 = 1 from rfl, mmLs, List.replicate, cd_173, sg_173_0, sg_173_5, sg_173_10, sg_173_15, sg_173_20, sg_173_25, sg_173_30, sg_173_31, mmK_cut cd_173, q_cons, q_G0, q_GS, q_I1, q_L1, q_A1, q_S0, q_S1, q_SS, q_T0, q_T1, q_TS, q_Kn, q_Ki, q_Kl, q_Kr, q_k0, q_kS, q_rc, q_ps, q_pn, q_iload0, q_bipush, q_icmp_lt, q_goto, q_iconst, q_icmp_ne, q_ireturn0, mmR32, mmR64, Option.some.injEq, Int.cast_ofNat_Int, and_true, true_and, if_true, if_false, List.length_cons, List.length_nil, Nat.le_refl, Nat.zero_le, Nat.sub_zero, forall_const, reduceCtorEq, Nat.reduceAdd, Nat.reduceSub, Nat.reduceLeDiff, Nat.reduceEqDiff, Int.reduceAdd, Int.reduceNeg, Int.reduceSub, Int.reduceLT, Int.reduceLE, Int.reduceMul, Int.reduceEq, List.drop_zero, List.drop_succ_cons, ne_eq, not_false_eq_true, not_true_eq_false, false_and, and_false, false_implies, true_implies, reduceIte, mmU_rd, implies_true, or_false, false_or, or_true, true_or]
  repeat' (first | (refine mmC_step ?_; simp only [cd_173, sg_173_0, sg_173_5, sg_173_10, sg_173_15, sg_173_20, sg_173_25, sg_173_30, sg_173_31, mmK_cut cd_173, q_cons, q_G0, q_GS, q_I1, q_L1, q_A1, q_S0, q_S1, q_SS, q_T0, q_T1, q_TS, q_Kn, q_Ki, q_Kl, q_Kr, q_k0, q_kS, q_rc, q_ps, q_pn, q_iload0, q_bipush, q_icmp_lt, q_goto, q_iconst, q_icmp_ne, q_ireturn0, mmR32, mmR64, Option.some.injEq, Int.cast_ofNat_Int, and_true, true_and, if_true, if_false, List.length_cons, List.length_nil, Nat.le_refl, Nat.zero_le, Nat.sub_zero, forall_const, reduceCtorEq, Nat.reduceAdd, Nat.reduceSub, Nat.reduceLeDiff, Nat.reduceEqDiff, Int.reduceAdd, Int.reduceNeg, Int.reduceSub, Int.reduceLT, Int.reduceLE, Int.reduceMul, Int.reduceEq, List.drop_zero, List.drop_succ_cons, ne_eq, not_false_eq_true, not_true_eq_false, false_and, and_false, false_implies, true_implies, reduceIte, mmU_rd, implies_true, or_false, false_or, or_true, true_or]) | (refine ⟨?_, ?_⟩) | intro _)
  all_goals (refine hQ' _ ?_; unfold rkM; repeat (first | rw [if_pos (by omega)] | rw [if_neg (by omega)]))
theorem ixT_sign {c n : Int} {E : Int × (Int → Int)} (h : c < -8) : ixT c n E = (E.1 - evW c + 1, fup E.2 (E.1 - evW c) n) := if_neg (by omega)
theorem ixT_leaf {c n : Int} {E : Int × (Int → Int)} (h : -8 ≤ c) : ixT c n E = (E.1 + 1, fup E.2 E.1 n) := if_pos h
set_option maxHeartbeats 1000000 in
theorem m_bind {rank : Int} (hr : 1 ≤ rank) (hl : LM I P op kn 1 r) (hP : P.length ≤ 72) (hn : r 1 2 + nS P ≤ 64) : mmC (d + 2) 176 [mo 11 0, mv rank] (I, mmRf a br, X) (mT a br X fun v I' => v = none ∧ (∀ t i k, ¬ ((t = 11 ∧ (k = 26 ∨ k = 50 ∨ k = 51)) ∨ (1244 ≤ t ∧ t ≤ 1246 ∧ 64 ≤ k) ∨ t = 1249) → I' t i k = I t i k) ∧ LM I' (stl rank P r).1 op kn 1 (stl rank P r).2) := by
  generalize hZ : stl rank P r = Z
  have key : ∀ (P1 : List Int) (r1 : mRu) (I1 : mMm) (l2 l3 l4 : Option mmV), (∀ t i k, ¬ ((t = 11 ∧ (k = 26 ∨ k = 50 ∨ k = 51)) ∨ (1244 ≤ t ∧ t ≤ 1246 ∧ 64 ≤ k) ∨ t = 1249) → I1 t i k = I t i k) → LM I1 P1 op kn 1 r1 → P1.length ≤ 72 → r1 1 2 + nS P1 ≤ 64 → stl rank P1 r1 = Z → mmK (d + 1) 176 (mT a br X fun v I' => v = none ∧ (∀ t i k, ¬ ((t = 11 ∧ (k = 26 ∨ k = 50 ∨ k = 51)) ∨ (1244 ≤ t ∧ t ≤ 1246 ∧ 64 ≤ k) ∨ t = 1249) → I' t i k = I t i k) ∧ LM I' Z.1 op kn 1 Z.2) 0 [some (mo 11 0), some (mv rank), l2, l3, l4] [] (I1, mmRf a br, X) := by
    intro P1
    induction P1 with
    | nil =>
      intro r1 I1 l2 l3 l4 fr hl hP1 hn1 hz
      refine mmC_step ?_
      simp only [cd_176, sg_176_0, sg_176_30, sg_176_32, sg_176_42, mmK_cut cd_176, q_cons, q_G0, q_GS, q_I1, q_L1, q_A1, q_S0, q_S1, q_SS, q_T0, q_T1, q_TS, q_Kn, q_Ki, q_Kl, q_Kr, q_k0, q_kS, q_rc, q_ps, q_pn, q_aload0, q_getfieldI, q_if_le, q_getfieldA, q_iconst, q_isub, q_iaload, q_invS, q_iload1, q_icmp_lt, q_dupI, q_dupA, q_putfieldI, q_istore2, q_iload2, q_icmp_ne, q_goto, q_invV, q_istore3, q_istore, q_iload, q_iload3, q_return, rf_11_48, mmKe_1248, mmKo_11, mmLen_1248, mmR32, mmR64, Option.some.injEq, Int.cast_ofNat_Int, and_true, true_and, if_true, if_false, List.length_cons, List.length_nil, Nat.le_refl, Nat.zero_le, Nat.sub_zero, forall_const, reduceCtorEq, Nat.reduceAdd, Nat.reduceSub, Nat.reduceLeDiff, Nat.reduceEqDiff, Int.reduceAdd, Int.reduceNeg, Int.reduceSub, Int.reduceLT, Int.reduceLE, Int.reduceMul, Int.reduceEq, List.drop_zero, List.drop_succ_cons, ne_eq, not_false_eq_true, not_true_eq_false, false_and, and_false, false_implies, true_implies, reduceIte, mmU_rd, implies_true, or_false, false_or, or_true, true_or]
      rw [hl.1]
      refine ⟨fun _ => ?_, fun q => by rw [List.length_nil] at q; omega⟩
      refine mmC_step ?_
      simp only [cd_176, sg_176_0, sg_176_30, sg_176_32, sg_176_42, mmK_cut cd_176, q_cons, q_G0, q_GS, q_I1, q_L1, q_A1, q_S0, q_S1, q_SS, q_T0, q_T1, q_TS, q_Kn, q_Ki, q_Kl, q_Kr, q_k0, q_kS, q_rc, q_ps, q_pn, q_aload0, q_getfieldI, q_if_le, q_getfieldA, q_iconst, q_isub, q_iaload, q_invS, q_iload1, q_icmp_lt, q_dupI, q_dupA, q_putfieldI, q_istore2, q_iload2, q_icmp_ne, q_goto, q_invV, q_istore3, q_istore, q_iload, q_iload3, q_return, rf_11_48, mmKe_1248, mmKo_11, mmLen_1248, mmR32, mmR64, Option.some.injEq, Int.cast_ofNat_Int, and_true, true_and, if_true, if_false, List.length_cons, List.length_nil, Nat.le_refl, Nat.zero_le, Nat.sub_zero, forall_const, reduceCtorEq, Nat.reduceAdd, Nat.reduceSub, Nat.reduceLeDiff, Nat.reduceEqDiff, Int.reduceAdd, Int.reduceNeg, Int.reduceSub, Int.reduceLT, Int.reduceLE, Int.reduceMul, Int.reduceEq, List.drop_zero, List.drop_succ_cons, ne_eq, not_false_eq_true, not_true_eq_false, false_and, and_false, false_implies, true_implies, reduceIte, mmU_rd, implies_true, or_false, false_or, or_true, true_or]
      rw [← hz]
      exact mT_in ⟨rfl, fr, hl⟩
    | cons c P1 ih =>
      intro r1 I1 l2 l3 l4 fr hl hP1 hn1 hz
      obtain ⟨g1, ⟨⟨g2, g3⟩, g4⟩, g5, g6, g7, g8⟩ := id hl
      obtain ⟨t0, t1, ⟨t2, t3⟩, t4⟩ := id g7
      rw [List.length_cons] at g1 hP1
      have hns := nO_nS P1
      have hnb := nB_in P1
      have e1 : I1 11 0 50 = (P1.length : Int) + 1 := by rw [g1]; omega
      rw [stl_c] at hz
      have hix := ixS_in (K := r1 200) (kn := Gr I1 30) (pa := Gr I1 31) (ot := Gr I1 32) (r1 1 2).toNat (fun m hm => t4 m (by omega))
      refine mmC_step ?_
      simp only [cd_176, sg_176_0, sg_176_30, sg_176_32, sg_176_42, mmK_cut cd_176, q_cons, q_G0, q_GS, q_I1, q_L1, q_A1, q_S0, q_S1, q_SS, q_T0, q_T1, q_TS, q_Kn, q_Ki, q_Kl, q_Kr, q_k0, q_kS, q_rc, q_ps, q_pn, q_aload0, q_getfieldI, q_if_le, q_getfieldA, q_iconst, q_isub, q_iaload, q_invS, q_iload1, q_icmp_lt, q_dupI, q_dupA, q_putfieldI, q_istore2, q_iload2, q_icmp_ne, q_goto, q_invV, q_istore3, q_istore, q_iload, q_iload3, q_return, rf_11_48, mmKe_1248, mmKo_11, mmLen_1248, mmR32, mmR64, Option.some.injEq, Int.cast_ofNat_Int, and_true, true_and, if_true, if_false, List.length_cons, List.length_nil, Nat.le_refl, Nat.zero_le, Nat.sub_zero, forall_const, reduceCtorEq, Nat.reduceAdd, Nat.reduceSub, Nat.reduceLeDiff, Nat.reduceEqDiff, Int.reduceAdd, Int.reduceNeg, Int.reduceSub, Int.reduceLT, Int.reduceLE, Int.reduceMul, Int.reduceEq, List.drop_zero, List.drop_succ_cons, ne_eq, not_false_eq_true, not_true_eq_false, false_and, and_false, false_implies, true_implies, reduceIte, mmU_rd, implies_true, or_false, false_or, or_true, true_or]
      rw [e1]
      refine ⟨fun q => by omega, fun _ => ⟨by omega, by omega, by omega, ?_⟩⟩
      rw [show (P1.length : Int) + 1 - 1 = P1.length by omega]
      generalize hx : I1 1248 0 P1.length = x at *
      refine m_rank ?_
      rw [rkM_W g2, g3]
      simp only [mmK_cut cd_176, q_cons, q_G0, q_GS, q_I1, q_L1, q_A1, q_S0, q_S1, q_SS, q_T0, q_T1, q_TS, q_Kn, q_Ki, q_Kl, q_Kr, q_k0, q_kS, q_rc, q_ps, q_pn, q_aload0, q_getfieldI, q_if_le, q_getfieldA, q_iconst, q_isub, q_iaload, q_invS, q_iload1, q_icmp_lt, q_dupI, q_dupA, q_putfieldI, q_istore2, q_iload2, q_icmp_ne, q_goto, q_invV, q_istore3, q_istore, q_iload, q_iload3, q_return, rf_11_48, mmKe_1248, mmKo_11, mmLen_1248, mmR32, mmR64, Option.some.injEq, Int.cast_ofNat_Int, and_true, true_and, if_true, if_false, List.length_cons, List.length_nil, Nat.le_refl, Nat.zero_le, Nat.sub_zero, forall_const, reduceCtorEq, Nat.reduceAdd, Nat.reduceSub, Nat.reduceLeDiff, Nat.reduceEqDiff, Int.reduceAdd, Int.reduceNeg, Int.reduceSub, Int.reduceLT, Int.reduceLE, Int.reduceMul, Int.reduceEq, List.drop_zero, List.drop_succ_cons, ne_eq, not_false_eq_true, not_true_eq_false, false_and, and_false, false_implies, true_implies, reduceIte, mmU_rd, implies_true, or_false, false_or, or_true, true_or]
      refine ⟨fun q => ?_, fun q => ?_⟩
      · refine mmC_step ?_
        simp only [cd_176, sg_176_0, sg_176_30, sg_176_32, sg_176_42, mmK_cut cd_176, q_cons, q_G0, q_GS, q_I1, q_L1, q_A1, q_S0, q_S1, q_SS, q_T0, q_T1, q_TS, q_Kn, q_Ki, q_Kl, q_Kr, q_k0, q_kS, q_rc, q_ps, q_pn, q_aload0, q_getfieldI, q_if_le, q_getfieldA, q_iconst, q_isub, q_iaload, q_invS, q_iload1, q_icmp_lt, q_dupI, q_dupA, q_putfieldI, q_istore2, q_iload2, q_icmp_ne, q_goto, q_invV, q_istore3, q_istore, q_iload, q_iload3, q_return, rf_11_48, mmKe_1248, mmKo_11, mmLen_1248, mmR32, mmR64, Option.some.injEq, Int.cast_ofNat_Int, and_true, true_and, if_true, if_false, List.length_cons, List.length_nil, Nat.le_refl, Nat.zero_le, Nat.sub_zero, forall_const, reduceCtorEq, Nat.reduceAdd, Nat.reduceSub, Nat.reduceLeDiff, Nat.reduceEqDiff, Int.reduceAdd, Int.reduceNeg, Int.reduceSub, Int.reduceLT, Int.reduceLE, Int.reduceMul, Int.reduceEq, List.drop_zero, List.drop_succ_cons, ne_eq, not_false_eq_true, not_true_eq_false, false_and, and_false, false_implies, true_implies, reduceIte, mmU_rd, implies_true, or_false, false_or, or_true, true_or]
        rw [if_neg (by omega)] at hz
        rw [← hz]
        exact mT_in ⟨rfl, fr, hl⟩
      · rw [if_pos q] at hz
        have hc0 : ¬ c = 0 := by
          intro q'
          subst q'
          unfold rkF at q
          rw [if_pos rfl] at q
          omega
        have hx2 : 2 ≤ x ∧ x ≤ 14 := by
          rcases g2 with q' | q'
          · exfalso
            apply hc0
            rw [← g3, q']; rfl
          · exact q'
        have hkw := kW_in hx2
        rw [g3] at hkw
        have hns2 : nS (c :: P1) = 1 + nS P1 := by
          show (if c = 0 then 0 else 1) + nS P1 = _
          rw [if_neg hc0]
        have hw := evW_12 (k := c)
        have hnb2 : nB (c :: P1) = evW c - 1 + nB P1 := by
          rw [nB_c]
          unfold evW
          by_cases q' : c = -11
          · rw [if_pos (Or.inr q'), if_pos q']; omega
          · rw [if_neg (by omega), if_neg q']; omega
        have h51 : I1 11 0 51 = nB P1 + evW c := by rw [t2, g8, hnb2]; omega
        rw [e1]
        refine ⟨by omega, by omega, by omega, ?_⟩
        rw [show (P1.length : Int) + 1 - 1 = P1.length by omega, hx]
        have fin : ∀ (I2 : mMm) (b : Int), (∀ t i k, ¬ (t = 11 ∧ (k = 50 ∨ k = 51)) → I2 t i k = I1 t i k) → I2 11 0 50 = P1.length → I2 11 0 51 = nB P1 + 1 → (¬ c = -11 → b = (ixS (r1 200) (r1 1 2).toNat).2 ((ixS (r1 200) (r1 1 2).toNat).1 - 1)) → mmK (d + 1) 176 (mT a br X fun v I' => v = none ∧ (∀ t i k, ¬ ((t = 11 ∧ (k = 26 ∨ k = 50 ∨ k = 51)) ∨ (1244 ≤ t ∧ t ≤ 1246 ∧ 64 ≤ k) ∨ t = 1249) → I' t i k = I t i k) ∧ LM I' Z.1 op kn 1 Z.2) 32 [some (mo 11 0), some (mv rank), some (mv x), l3, l4] [mv b] (I2, mmRf a br, X) := by
          intro I2 b f2 b1 b2 b3
          refine mmC_step ?_
          simp only [cd_176, sg_176_0, sg_176_30, sg_176_32, sg_176_42, mmK_cut cd_176, q_cons, q_G0, q_GS, q_I1, q_L1, q_A1, q_S0, q_S1, q_SS, q_T0, q_T1, q_TS, q_Kn, q_Ki, q_Kl, q_Kr, q_k0, q_kS, q_rc, q_ps, q_pn, q_aload0, q_getfieldI, q_if_le, q_getfieldA, q_iconst, q_isub, q_iaload, q_invS, q_iload1, q_icmp_lt, q_dupI, q_dupA, q_putfieldI, q_istore2, q_iload2, q_icmp_ne, q_goto, q_invV, q_istore3, q_istore, q_iload, q_iload3, q_return, rf_11_48, mmKe_1248, mmKo_11, mmLen_1248, mmR32, mmR64, Option.some.injEq, Int.cast_ofNat_Int, and_true, true_and, if_true, if_false, List.length_cons, List.length_nil, Nat.le_refl, Nat.zero_le, Nat.sub_zero, forall_const, reduceCtorEq, Nat.reduceAdd, Nat.reduceSub, Nat.reduceLeDiff, Nat.reduceEqDiff, Int.reduceAdd, Int.reduceNeg, Int.reduceSub, Int.reduceLT, Int.reduceLE, Int.reduceMul, Int.reduceEq, List.drop_zero, List.drop_succ_cons, ne_eq, not_false_eq_true, not_true_eq_false, false_and, and_false, false_implies, true_implies, reduceIte, mmU_rd, implies_true, or_false, false_or, or_true, true_or]
          refine m_drop (by rw [b2]; omega) ?_
          rw [b2, show nB P1 + 1 - 1 = nB P1 by omega]
          simp only [mmK_cut cd_176, q_cons, q_G0, q_GS, q_I1, q_L1, q_A1, q_S0, q_S1, q_SS, q_T0, q_T1, q_TS, q_Kn, q_Ki, q_Kl, q_Kr, q_k0, q_kS, q_rc, q_ps, q_pn, q_aload0, q_getfieldI, q_if_le, q_getfieldA, q_iconst, q_isub, q_iaload, q_invS, q_iload1, q_icmp_lt, q_dupI, q_dupA, q_putfieldI, q_istore2, q_iload2, q_icmp_ne, q_goto, q_invV, q_istore3, q_istore, q_iload, q_iload3, q_return, rf_11_48, mmKe_1248, mmKo_11, mmLen_1248, mmR32, mmR64, Option.some.injEq, Int.cast_ofNat_Int, and_true, true_and, if_true, if_false, List.length_cons, List.length_nil, Nat.le_refl, Nat.zero_le, Nat.sub_zero, forall_const, reduceCtorEq, Nat.reduceAdd, Nat.reduceSub, Nat.reduceLeDiff, Nat.reduceEqDiff, Int.reduceAdd, Int.reduceNeg, Int.reduceSub, Int.reduceLT, Int.reduceLE, Int.reduceMul, Int.reduceEq, List.drop_zero, List.drop_succ_cons, ne_eq, not_false_eq_true, not_true_eq_false, false_and, and_false, false_implies, true_implies, reduceIte, mmU_rd, implies_true, or_false, false_or, or_true, true_or]
          have e26 : I2 11 0 26 = r1 1 2 := (f2 _ _ _ (by omega)).trans t1
          have ea : I2 1249 0 (nB P1) = (ixS (r1 200) (r1 1 2).toNat).2 (nB P1) := (f2 1249 0 _ (by omega)).trans (t3 _ (by omega) (by omega))
          refine m_grown (by show 0 ≤ I2 11 0 26 ∧ I2 11 0 26 < 64; rw [e26]; omega) (by show 0 ≤ nB P1 ∧ nB P1 < 96; omega) ?_
          simp only [mmK_cut cd_176, q_cons, q_G0, q_GS, q_I1, q_L1, q_A1, q_S0, q_S1, q_SS, q_T0, q_T1, q_TS, q_Kn, q_Ki, q_Kl, q_Kr, q_k0, q_kS, q_rc, q_ps, q_pn, q_aload0, q_getfieldI, q_if_le, q_getfieldA, q_iconst, q_isub, q_iaload, q_invS, q_iload1, q_icmp_lt, q_dupI, q_dupA, q_putfieldI, q_istore2, q_iload2, q_icmp_ne, q_goto, q_invV, q_istore3, q_istore, q_iload, q_iload3, q_return, rf_11_48, mmKe_1248, mmKo_11, mmLen_1248, mmR32, mmR64, Option.some.injEq, Int.cast_ofNat_Int, and_true, true_and, if_true, if_false, List.length_cons, List.length_nil, Nat.le_refl, Nat.zero_le, Nat.sub_zero, forall_const, reduceCtorEq, Nat.reduceAdd, Nat.reduceSub, Nat.reduceLeDiff, Nat.reduceEqDiff, Int.reduceAdd, Int.reduceNeg, Int.reduceSub, Int.reduceLT, Int.reduceLE, Int.reduceMul, Int.reduceEq, List.drop_zero, List.drop_succ_cons, ne_eq, not_false_eq_true, not_true_eq_false, false_and, and_false, false_implies, true_implies, reduceIte, mmU_rd, implies_true, or_false, false_or, or_true, true_or]
          rw [ea]
          generalize hJ : gwM (mmU I2 11 0 51 (nB P1)) x ((ixS (r1 200) (r1 1 2).toNat).2 (nB P1)) b = J
          have j44 : J 1244 0 (64 + r1 1 2) = x := by
            rw [← hJ, ← e26]; unfold gwM; simp [mmU]
          have j45 : J 1245 0 (64 + r1 1 2) = (ixS (r1 200) (r1 1 2).toNat).2 (nB P1) := by
            rw [← hJ, ← e26]; unfold gwM; simp [mmU]
          have j46 : J 1246 0 (64 + r1 1 2) = b := by
            rw [← hJ, ← e26]; unfold gwM; simp [mmU]
          have j49 : J 1249 0 (nB P1) = r1 1 2 := by
            rw [← hJ, ← e26]; unfold gwM; simp [mmU]
          have j51 : J 11 0 51 = nB P1 + 1 := by
            rw [← hJ]; unfold gwM; simp [mmU]
          have j26 : J 11 0 26 = r1 1 2 + 1 := by
            rw [← hJ, ← e26]; unfold gwM; simp [mmU]
          have jo : ∀ t i z, ¬ ((t = 11 ∧ (z = 26 ∨ z = 51)) ∨ (1244 ≤ t ∧ t ≤ 1246 ∧ z = 64 + r1 1 2) ∨ (t = 1249 ∧ z = nB P1)) → J t i z = I2 t i z := by
            intro t i z hz'
            rw [← hJ]
            unfold gwM
            have e26' : mmU I2 11 0 51 (nB P1) 11 0 26 = r1 1 2 := e26
            have e51' : mmU I2 11 0 51 (nB P1) 11 0 51 = nB P1 := mmU_same
            rw [e26', e51']
            unfold mmU
            rw [if_neg (by omega), if_neg (by omega), if_neg (by omega), if_neg (by omega), if_neg (by omega), if_neg (by omega), if_neg (by omega)]
          have hg := LMt_grow (J := J) (c := c) (h := nB P1) g7 (by omega) (by omega) (by rw [ixT_sign (by omega), show (ixS (r1 200) (r1 1 2).toNat).1 - evW c = nB P1 by omega]) ?_ (fun t z ht => by rw [jo t 0 z (by omega), f2 t 0 z (by omega)]) j49 j51 j26
          · refine ih (lad r1 c) J _ _ _ (fun t i z ht => ?_) ?_ (by omega) (by rw [lad_n]; omega) hz
            · rw [jo t i z (by omega), f2 t i z (by omega)]; exact fr t i z ht
            · refine ⟨?_, ?_, ?_, ?_, hg.1, by rw [hg.2]⟩
              · rw [jo _ _ _ (by omega)]; exact b1
              · exact PLm_ext (fun z _ _ => by rw [jo _ _ _ (by omega), f2 _ _ _ (by omega)]) g4
              · rw [jo _ _ _ (by omega), f2 _ _ _ (by omega)]; exact g5
              · rw [jo _ _ _ (by omega), f2 _ _ _ (by omega)]; exact g6
          · have eK : ∀ m : Nat, m < (r1 1 2).toNat → lad r1 c 200 m = r1 200 m := fun m hm => by rw [lad_200, if_neg (by omega)]
            unfold TPn
            rw [ixS_congr _ eK, lad_200, if_pos (by omega)]
            refine Or.inr (Or.inr ⟨by omega, by omega, ?_, ?_, ?_, by omega, ?_, fun hne => ?_⟩)
            · show 2 ≤ J 1244 0 (64 + ((r1 1 2).toNat : Nat)); rw [show (((r1 1 2).toNat : Nat) : Int) = r1 1 2 by omega, j44]; exact hx2.1
            · show J 1244 0 (64 + ((r1 1 2).toNat : Nat)) ≤ 14; rw [show (((r1 1 2).toNat : Nat) : Int) = r1 1 2 by omega, j44]; exact hx2.2
            · show kM (J 1244 0 (64 + ((r1 1 2).toNat : Nat))) = c; rw [show (((r1 1 2).toNat : Nat) : Int) = r1 1 2 by omega, j44]; exact hkw.2.2.2.1
            · show J 1245 0 (64 + ((r1 1 2).toNat : Nat)) = _; rw [show (((r1 1 2).toNat : Nat) : Int) = r1 1 2 by omega, j45, show (ixS (r1 200) (r1 1 2).toNat).1 - evW c = nB P1 by omega]
            · show J 1246 0 (64 + ((r1 1 2).toNat : Nat)) = _; rw [show (((r1 1 2).toNat : Nat) : Int) = r1 1 2 by omega, j46]; exact b3 hne
        refine ⟨fun c2 => ?_, fun c2 => ?_⟩
        · have hw2 : evW c = 2 := if_neg (fun q' => c2 (hkw.2.2.1.mp q'))
          refine mmC_step ?_
          simp only [cd_176, sg_176_0, sg_176_30, sg_176_32, sg_176_42, mmK_cut cd_176, q_cons, q_G0, q_GS, q_I1, q_L1, q_A1, q_S0, q_S1, q_SS, q_T0, q_T1, q_TS, q_Kn, q_Ki, q_Kl, q_Kr, q_k0, q_kS, q_rc, q_ps, q_pn, q_aload0, q_getfieldI, q_if_le, q_getfieldA, q_iconst, q_isub, q_iaload, q_invS, q_iload1, q_icmp_lt, q_dupI, q_dupA, q_putfieldI, q_istore2, q_iload2, q_icmp_ne, q_goto, q_invV, q_istore3, q_istore, q_iload, q_iload3, q_return, rf_11_48, mmKe_1248, mmKo_11, mmLen_1248, mmR32, mmR64, Option.some.injEq, Int.cast_ofNat_Int, and_true, true_and, if_true, if_false, List.length_cons, List.length_nil, Nat.le_refl, Nat.zero_le, Nat.sub_zero, forall_const, reduceCtorEq, Nat.reduceAdd, Nat.reduceSub, Nat.reduceLeDiff, Nat.reduceEqDiff, Int.reduceAdd, Int.reduceNeg, Int.reduceSub, Int.reduceLT, Int.reduceLE, Int.reduceMul, Int.reduceEq, List.drop_zero, List.drop_succ_cons, ne_eq, not_false_eq_true, not_true_eq_false, false_and, and_false, false_implies, true_implies, reduceIte, mmU_rd, implies_true, or_false, false_or, or_true, true_or]
          refine m_drop (by show 1 ≤ I1 11 0 51 ∧ I1 11 0 51 ≤ 96; omega) ?_
          simp only [mmK_cut cd_176, q_cons, q_G0, q_GS, q_I1, q_L1, q_A1, q_S0, q_S1, q_SS, q_T0, q_T1, q_TS, q_Kn, q_Ki, q_Kl, q_Kr, q_k0, q_kS, q_rc, q_ps, q_pn, q_aload0, q_getfieldI, q_if_le, q_getfieldA, q_iconst, q_isub, q_iaload, q_invS, q_iload1, q_icmp_lt, q_dupI, q_dupA, q_putfieldI, q_istore2, q_iload2, q_icmp_ne, q_goto, q_invV, q_istore3, q_istore, q_iload, q_iload3, q_return, rf_11_48, mmKe_1248, mmKo_11, mmLen_1248, mmR32, mmR64, Option.some.injEq, Int.cast_ofNat_Int, and_true, true_and, if_true, if_false, List.length_cons, List.length_nil, Nat.le_refl, Nat.zero_le, Nat.sub_zero, forall_const, reduceCtorEq, Nat.reduceAdd, Nat.reduceSub, Nat.reduceLeDiff, Nat.reduceEqDiff, Int.reduceAdd, Int.reduceNeg, Int.reduceSub, Int.reduceLT, Int.reduceLE, Int.reduceMul, Int.reduceEq, List.drop_zero, List.drop_succ_cons, ne_eq, not_false_eq_true, not_true_eq_false, false_and, and_false, false_implies, true_implies, reduceIte, mmU_rd, implies_true, or_false, false_or, or_true, true_or]
          refine fin _ _ (fun t i z hz' => ?_) rfl ?_ (fun _ => ?_)
          · unfold mmU; rw [if_neg (by omega), if_neg (by omega)]
          · show I1 11 0 51 - 1 = _; omega
          · rw [t3 _ (by omega) (by omega), t2]
        · have hw1 : evW c = 1 := if_pos (hkw.2.2.1.mpr c2)
          refine fin _ _ (fun t i z hz' => ?_) rfl ?_ (fun hne => absurd (hkw.2.2.1.mpr c2) hne)
          · unfold mmU; rw [if_neg (by omega)]
          · show I1 11 0 51 = _; omega
  refine mmC_in (by decide) (Nat.le_of_ble_eq_true rfl) ?_
  exact key P r I none none none (fun _ _ _ _ => rfl) hl hP hn hZ
end S75
