/-! class and reference side by side -/
section S869
variable {d a : Nat} {I I1 I' I'' : mMm} {br br' : Nat → Option mmO} {X : mmX} {L L' M M' : Nat → Int → Int} {r : mRu} {n : Int}
theorem LW_ext (h : ∀ f k, f ≤ 14 → L' f k = L f k) (hL : LW L) : LW L' := by
  have e0 : L' 0 = L 0 := funext fun k => h 0 k (by omega)
  have e1 : L' 1 = L 1 := funext fun k => h 1 k (by omega)
  have e2 : L' 2 = L 2 := funext fun k => h 2 k (by omega)
  have e3 : L' 3 = L 3 := funext fun k => h 3 k (by omega)
  have e4 : L' 4 = L 4 := funext fun k => h 4 k (by omega)
  have e5 : L' 5 = L 5 := funext fun k => h 5 k (by omega)
  have e6 : L' 6 = L 6 := funext fun k => h 6 k (by omega)
  have e7 : L' 7 = L 7 := funext fun k => h 7 k (by omega)
  have e8 : L' 8 = L 8 := funext fun k => h 8 k (by omega)
  have e9 : L' 9 = L 9 := funext fun k => h 9 k (by omega)
  have e10 : L' 10 = L 10 := funext fun k => h 10 k (by omega)
  have e11 : L' 11 = L 11 := funext fun k => h 11 k (by omega)
  have e12 : L' 12 = L 12 := funext fun k => h 12 k (by omega)
  have e13 : L' 13 = L 13 := funext fun k => h 13 k (by omega)
  have e14 : L' 14 = L 14 := funext fun k => h 14 k (by omega)
  unfold LW LWl LWi at hL ⊢
  rw [e0, e1, e2, e3, e4, e5, e6, e7, e8, e9, e10, e11, e12, e13, e14]
  exact hL
theorem LE_ext (h : ∀ f k, f ≤ 14 → L' f k = L f k) (g : ∀ f k, f ≤ 14 → M' f k = M f k) (hE : LE L M) : LE L' M' := by
  have e0 : L' 0 = L 0 := funext fun k => h 0 k (by omega)
  have e1 : L' 1 = L 1 := funext fun k => h 1 k (by omega)
  have e2 : L' 2 = L 2 := funext fun k => h 2 k (by omega)
  have e3 : L' 3 = L 3 := funext fun k => h 3 k (by omega)
  have e4 : L' 4 = L 4 := funext fun k => h 4 k (by omega)
  have e5 : L' 5 = L 5 := funext fun k => h 5 k (by omega)
  have e7 : L' 7 = L 7 := funext fun k => h 7 k (by omega)
  have e8 : L' 8 = L 8 := funext fun k => h 8 k (by omega)
  have e9 : L' 9 = L 9 := funext fun k => h 9 k (by omega)
  have e10 : L' 10 = L 10 := funext fun k => h 10 k (by omega)
  have e11 : L' 11 = L 11 := funext fun k => h 11 k (by omega)
  have e12 : L' 12 = L 12 := funext fun k => h 12 k (by omega)
  have e13 : L' 13 = L 13 := funext fun k => h 13 k (by omega)
  have e14 : L' 14 = L 14 := funext fun k => h 14 k (by omega)
  have g0 : M' 0 = M 0 := funext fun k => g 0 k (by omega)
  have g1 : M' 1 = M 1 := funext fun k => g 1 k (by omega)
  have g2 : M' 2 = M 2 := funext fun k => g 2 k (by omega)
  have g3 : M' 3 = M 3 := funext fun k => g 3 k (by omega)
  have g4 : M' 4 = M 4 := funext fun k => g 4 k (by omega)
  have g5 : M' 5 = M 5 := funext fun k => g 5 k (by omega)
  have g7 : M' 7 = M 7 := funext fun k => g 7 k (by omega)
  have g8 : M' 8 = M 8 := funext fun k => g 8 k (by omega)
  have g9 : M' 9 = M 9 := funext fun k => g 9 k (by omega)
  have g10 : M' 10 = M 10 := funext fun k => g 10 k (by omega)
  have g11 : M' 11 = M 11 := funext fun k => g 11 k (by omega)
  have g12 : M' 12 = M 12 := funext fun k => g 12 k (by omega)
  have g13 : M' 13 = M 13 := funext fun k => g 13 k (by omega)
  have g14 : M' 14 = M 14 := funext fun k => g 14 k (by omega)
  unfold LE at hE ⊢
  rw [e0, e1, e2, e3, e4, e5, e7, e8, e9, e10, e11, e12, e13, e14, g0, g1, g2, g3, g4, g5, g7, g8, g9, g10, g11, g12, g13, g14]
  exact hE
theorem Lm_ext (h : ∀ t k, (1270 ≤ t ∧ t ≤ 1278) ∨ (t = 11 ∧ (k = 68 ∨ k = 69 ∨ k = 60)) → I' t 0 k = I t 0 k) (f : Nat) (k : Int) : Lm I' f k = Lm I f k := by
  unfold Lm
  rw [h 11 68 (by omega), h 11 69 (by omega), h 11 60 (by omega), h 1270 k (by omega), h 1271 k (by omega), h 1272 k (by omega), h 1273 k (by omega), h 1274 k (by omega), h 1275 k (by omega), h 1276 (3 * k) (by omega), h 1276 (3 * k + 1) (by omega), h 1276 (3 * k + 2) (by omega), h 1277 k (by omega), h 1278 k (by omega)]
theorem Li_ext (h : ∀ t k, (1286 ≤ t ∧ t ≤ 1288) ∨ (t = 11 ∧ (83 ≤ k ∧ k ≤ 85)) → I' t 0 k = I t 0 k) (f : Nat) (k : Int) : Li I' f k = Li I f k := by
  unfold Li
  rw [h 11 84 (by omega), h 11 85 (by omega), h 11 83 (by omega), h 1286 (6 * k) (by omega), h 1286 (6 * k + 1) (by omega), h 1286 (6 * k + 2) (by omega), h 1286 (6 * k + 3) (by omega), h 1286 (6 * k + 4) (by omega), h 1286 (6 * k + 5) (by omega), h 1287 (3 * k) (by omega), h 1287 (3 * k + 1) (by omega), h 1287 (3 * k + 2) (by omega), h 1288 (2 * k) (by omega), h 1288 (2 * k + 1) (by omega)]
theorem Lc_extj {j : Nat} (h : ∀ t k, (t = 3 ∨ (401 ≤ t ∧ t ≤ 413)) → I' t j k = I t j k) {f : Nat} (hf : f ≤ 14) {k : Int} : Lc I' j f k = Lc I j f k := by
  unfold Lc
  rw [h 3 _ (Or.inl rfl), h 3 _ (Or.inl rfl), h 3 _ (Or.inl rfl)]
  by_cases c0 : f = 0
  · rw [if_pos c0, if_pos c0]
  · rw [if_neg c0, if_neg c0]
    by_cases c1 : f = 11
    · rw [if_pos c1, if_pos c1]
    · rw [if_neg c1, if_neg c1]
      by_cases c2 : f = 14
      · rw [if_pos c2, if_pos c2]
      · rw [if_neg c2, if_neg c2]
        exact h _ _ (Or.inr (by omega))
theorem ME_of (hE : LE L (Lm I)) : ME I L (L 3) := by
  obtain ⟨h1, h2, h3, h4, h5, h6⟩ := hE
  refine ⟨h1, h3, fun l l0 l1 => ?_, fun l k l0 l1 k0 k1 => h5 l k l0 l1 k0 k1⟩
  obtain ⟨q1, q2, q3, q4, q5, q6⟩ := h4 l l0 l1
  exact ⟨q1, q2, q3, q5, q6⟩
/-- tapes and faults -/
def TpQ (I : mMm) : Prop := I 900 0 = I 1200 0 ∧ I 8 0 1 = I 11 0 1 ∧ (0 ≤ I 8 0 1 ∧ I 8 0 1 ≤ 700) ∧ I 8 0 7 = I 11 0 4 ∧ I 8 0 8 = I 11 0 5 ∧ (∀ k : Nat, k < 95 → I 1203 0 k = wdL.getD k 0) ∧ BL I
/-- images -/
def IM (I : mMm) : Prop := I 11 0 82 = I 10 0 6 ∧ (I 10 0 6 = 0 ∨ I 10 0 6 = 1) ∧ (I 10 0 6 = 1 → LW (Lc I 1) ∧ LE (Lc I 1) (Li I))
/-- class and reference hold the same -/
def CPr (I : mMm) (br : Nat → Option mmO) (a : Nat) (r : mRu) (L : Nat → Int → Int) (n : Int) : Prop := CI I br a r L ∧ MI I r L ∧ LE L (Lm I) ∧ (a = 0 ∨ a = 1) ∧ TpQ I ∧ IM I ∧ I 10 0 11 ≤ n
theorem TpQ_ext (h : TpQ I) (he : ∀ t i k, (t = 900 ∨ t = 1200 ∨ t = 8 ∨ (t = 11 ∧ (k = 1 ∨ k = 4 ∨ k = 5)) ∨ t = 1203 ∨ t = 1236 ∨ t = 1237) → I' t i k = I t i k) : TpQ I' := by
  obtain ⟨h1, h2, h3, h4, h5, h6, h7⟩ := h
  have e1 : I' 900 0 = I 900 0 := funext fun k => he _ _ _ (by omega)
  have e2 : I' 1200 0 = I 1200 0 := funext fun k => he _ _ _ (by omega)
  unfold TpQ
  rw [e1, e2, he 8 0 1 (by omega), he 8 0 7 (by omega), he 8 0 8 (by omega), he 11 0 1 (by omega), he 11 0 4 (by omega), he 11 0 5 (by omega)]
  exact ⟨h1, h2, h3, h4, h5, fun k hk => (he _ _ _ (by omega)).trans (h6 k hk), BL_ext (fun t k ht => he _ _ _ (by omega)) h7⟩
theorem IM_ext (h : IM I) (he : ∀ t i k, ((t = 3 ∧ i = 1) ∨ (401 ≤ t ∧ t ≤ 413 ∧ i = 1) ∨ (t = 10 ∧ k = 6) ∨ (t = 11 ∧ 82 ≤ k ∧ k ≤ 85) ∨ (1286 ≤ t ∧ t ≤ 1288)) → I' t i k = I t i k) : IM I' := by
  obtain ⟨h1, h2, h3⟩ := h
  unfold IM
  rw [he 11 0 82 (by omega), he 10 0 6 (by omega)]
  refine ⟨h1, h2, fun q => ⟨LW_ext (fun f k hf => Lc_extj (fun t k ht => he _ _ _ (by omega)) hf) (h3 q).1, LE_ext (fun f k hf => Lc_extj (fun t k ht => he _ _ _ (by omega)) hf) (fun f k hf => Li_ext (fun t k ht => he _ _ _ (by omega)) f k) (h3 q).2⟩⟩
/-- the class stays well where only the reference is changed -/
theorem CI_fr (h : CI I br a r L) (hf : ∀ t i k, t ≤ 10 ∨ (101 ≤ t ∧ t ≤ 850) → ¬ t = 8 → I' t i k = I t i k) : CI I' br a r L := by
  obtain ⟨h1, h2, h3, h4, h5, h6, h7⟩ := h
  have e11 : I' 10 0 11 = I 10 0 11 := hf _ _ _ (by omega) (by omega)
  refine ⟨fun t k ht => (hf t a k (by unfold rtag at ht; omega) (by unfold rtag at ht; omega)).trans (h1 t k ht), h2, h3, CL_ext h4 (fun t k ht => hf _ _ _ (by omega) (by omega)), h5, by rw [e11]; exact h6, fun w hw => ?_⟩
  rw [e11, hf 5 _ _ (by omega) (by omega)]
  refine ⟨(h7 w hw).1, fun q => ?_⟩
  have hv := (h7 w hw).2 q
  exact RowV_ext hv rfl (BV_ext (RV_B hv) (fun t z ht => hf _ _ _ (by omega) (by omega)) (hf _ _ _ (by omega) (by omega))) (fun t k ht => hf _ _ _ (by omega) (by omega))
theorem CI_N (h : CI I br a r L) (hf : FrNq I I') : CI I' br a r L := CI_fr h (fun t i k ht _ => hf _ _ _ (by omega) (by omega) (by omega))
/-- behind a query of both -/
theorem CP_query (h : CPr I br a r L n) (f1 : FrG I I1) (h1 : CI I1 br' a r L) (f2 : FrNq I1 I') : CPr I' br' a r L n := by
  obtain ⟨c1, c2, c3, c4, c5, c6, c7⟩ := h
  have e : ∀ t i k, ¬ (101 ≤ t ∧ t ≤ 106) → ¬ (603 ≤ t ∧ t ≤ 612) → ¬ (t = 0 ∧ k = 4) → ¬ t = 5 → ¬ t = 201 → ¬ t = 850 → ¬ t = 1109 → ¬ (t = 11 ∧ (k = 2 ∨ k = 58 ∨ k = 63 ∨ k = 64)) → ¬ (1256 ≤ t ∧ t ≤ 1267) → ¬ (1279 ≤ t ∧ t ≤ 1281) → I' t i k = I t i k := fun t i k d1 d2 d3 d4 d5 d6 d7 d8 d9 d10 => (f2 t i k d8 d9 d10).trans (f1 t i k d1 d2 d3 d4 d5 d6 d7)
  have eL : ∀ t k, (1270 ≤ t ∧ t ≤ 1278) ∨ (t = 11 ∧ (k = 68 ∨ k = 69 ∨ k = 60)) → I' t 0 k = I t 0 k := fun t k ht => e _ _ _ (by omega) (by omega) (by omega) (by omega) (by omega) (by omega) (by omega) (by omega) (by omega) (by omega)
  have hE : LE L (Lm I') := LE_ext (fun _ _ _ => rfl) (fun f k _ => Lm_ext eL f k) c3
  have hR : RK r I' := RK_ext c2.1 (fun k hk => e _ _ _ (by omega) (by omega) (by omega) (by omega) (by omega) (by omega) (by omega) (by omega) (by omega) (by omega)) (fun t k q1 q2 => e _ _ _ (by omega) (by omega) (by omega) (by omega) (by omega) (by omega) (by omega) (by omega) (by omega) (by omega))
  have hC : CI I' br' a r L := CI_N h1 f2
  refine ⟨hC, ⟨hR, c2.2.1, ME_of hE, c2.2.2.2⟩, hE, c4, TpQ_ext c5 (fun t i k ht => e _ _ _ (by omega) (by omega) (by omega) (by omega) (by omega) (by omega) (by omega) (by omega) (by omega) (by omega)), IM_ext c6 (fun t i k ht => e _ _ _ (by omega) (by omega) (by omega) (by omega) (by omega) (by omega) (by omega) (by omega) (by omega) (by omega)), ?_⟩
  rw [e 10 0 11 (by omega) (by omega) (by omega) (by omega) (by omega) (by omega) (by omega) (by omega) (by omega) (by omega)]
  exact c7
end S869
