/-- rules as clear leaves them -/
def CLr (J : mMm) (j : Nat) : Prop := J 6 j 0 = 3 ∧ J 6 j 1 = 3 ∧ J 6 j 2 = 0 ∧ J 6 j 3 = 0 ∧ J 6 j 4 = 4 ∧ J 6 j 5 = 11 ∧ J 6 j 6 = 60 ∧ J 6 j 7 = 0 ∧ ∀ x, 0 ≤ x → x < 25 → J 714 j x = -2
/-- the class while it is made: a rules, b rows -/
def CM (I J : mMm) (a b : Nat) : Prop := (∀ t i k, 1200 ≤ t → J t i k = I t i k) ∧ (∀ t i k, t < 1200 → ¬ t = 8 → ¬ ((t = 6 ∨ t = 714) ∧ i < a) → ¬ (t = 5 ∧ i < b) → J t i k = 0) ∧ J 8 0 8 = -1 ∧ (∀ k, ¬ k = 8 → J 8 0 k = 0) ∧ (∀ j, j < a → CLr J j) ∧ ∀ j, j < b → J 5 j 0 = -1
section S889
variable {d i j a b : Nat} {I J : mMm} {R : Nat → Nat → Int → Option mmO} {X : mmX} {cnt : Nat → Nat} {Q : Option mmV → mmM → Prop}
theorem CM_tok (hz : ∀ t i k, t < 1200 → I t i k = 0) : CM I (mmU I 8 0 8 (-1)) 0 0 :=
  ⟨fun t i k ht => uO (by omega), fun t i k h1 h2 _ _ => (uO (by omega)).trans (hz t i k h1), uS, fun k hk => (uO (by omega)).trans (hz 8 0 k (by omega)), fun j hj => by omega, fun j hj => by omega⟩
theorem clM_o {t : Nat} {k : Int} (h : ¬ (i = j ∧ (t = 6 ∨ t = 715 ∨ t = 1))) : clM I j t i k = I t i k := by
  unfold clM
  rw [uO (by omega), uO (by omega), uO (by omega), uO (by omega), uO (by omega), uO (by omega), uO (by omega), uO (by omega), uO (by omega), uO (by omega), uO (by omega)]
theorem CM_rules (h : CM I J a b) : CM I (mmUr (clM J a) 714 a (cpR (J 714 a) (fun _ => -2) 25)) (a + 1) b := by
  obtain ⟨h1, h2, h3, h4, h5, h6⟩ := h
  have g : ∀ t i k, ¬ (i = a ∧ (t = 6 ∨ t = 715 ∨ t = 1 ∨ t = 714)) → mmUr (clM J a) 714 a (cpR (J 714 a) (fun _ => -2) 25) t i k = J t i k := fun t i k c => (rO (by omega)).trans (clM_o (by omega))
  refine ⟨fun t i k ht => (g t i k (by omega)).trans (h1 t i k ht), fun t i k c1 c2 c3 c4 => ?_, (g _ _ _ (by omega)).trans h3, fun k hk => (g _ _ _ (by omega)).trans (h4 k hk), fun j hj => ?_, fun j hj => (g _ _ _ (by omega)).trans (h6 j hj)⟩
  · by_cases c : i = a ∧ (t = 715 ∨ t = 1)
    · obtain ⟨rfl, c⟩ := c
      have z := h2 t i k c1 c2 (by omega) (by omega)
      rw [rO (by omega)]
      unfold clM
      rcases c with rfl | rfl
      · rw [uO (by omega)]
        by_cases q : k = 1
        · rw [q, uS]
        · rw [uO (by omega)]
          by_cases q0 : k = 0
          · rw [q0, uS]
          · rw [uO (by omega), uO (by omega), uO (by omega), uO (by omega), uO (by omega), uO (by omega), uO (by omega), uO (by omega), uO (by omega)]; exact z
      · by_cases q : k = 2
        · rw [q, uS]
        · rw [uO (by omega), uO (by omega), uO (by omega), uO (by omega), uO (by omega), uO (by omega), uO (by omega), uO (by omega), uO (by omega), uO (by omega), uO (by omega)]; exact z
    · rw [g t i k (by omega)]
      exact h2 t i k c1 c2 (by omega) c4
  · by_cases c : j = a
    · subst c
      refine ⟨?_, ?_, ?_, ?_, ?_, ?_, ?_, ?_, fun x x0 x1 => by rw [rS]; exact cpR_in _ _ x0 (by omega)⟩
      · rw [rO (by omega)]; unfold clM; rw [uO (by omega), uO (by omega), uO (by omega), uO (by omega), uO (by omega), uO (by omega), uO (by omega), uO (by omega), uO (by omega), uO (by omega), uS]
      · rw [rO (by omega)]; unfold clM; rw [uO (by omega), uO (by omega), uO (by omega), uO (by omega), uO (by omega), uO (by omega), uO (by omega), uO (by omega), uO (by omega), uS]
      · rw [rO (by omega)]; unfold clM; rw [uO (by omega), uO (by omega), uO (by omega), uO (by omega), uO (by omega), uO (by omega), uO (by omega), uO (by omega), uS]
      · rw [rO (by omega)]; unfold clM; rw [uO (by omega), uO (by omega), uO (by omega), uO (by omega), uO (by omega), uO (by omega), uO (by omega), uS]
      · rw [rO (by omega)]; unfold clM; rw [uO (by omega), uO (by omega), uO (by omega), uO (by omega), uO (by omega), uO (by omega), uS]
      · rw [rO (by omega)]; unfold clM; rw [uO (by omega), uO (by omega), uO (by omega), uO (by omega), uO (by omega), uS]
      · rw [rO (by omega)]; unfold clM; rw [uO (by omega), uO (by omega), uO (by omega), uO (by omega), uS]
      · rw [rO (by omega)]; unfold clM; rw [uO (by omega), uO (by omega), uO (by omega), uS]
    · obtain ⟨q0, q1, q2, q3, q4, q5, q6, q7, q8⟩ := h5 j (by omega)
      exact ⟨(g _ _ _ (by omega)).trans q0, (g _ _ _ (by omega)).trans q1, (g _ _ _ (by omega)).trans q2, (g _ _ _ (by omega)).trans q3, (g _ _ _ (by omega)).trans q4, (g _ _ _ (by omega)).trans q5, (g _ _ _ (by omega)).trans q6, (g _ _ _ (by omega)).trans q7, fun x x0 x1 => (g _ _ _ (by omega)).trans (q8 x x0 x1)⟩
theorem CM_row (h : CM I J a b) : CM I (mmU J 5 b 0 (-1)) a (b + 1) := by
  obtain ⟨h1, h2, h3, h4, h5, h6⟩ := h
  have g : ∀ t i k, ¬ (t = 5 ∧ i = b ∧ k = 0) → mmU J 5 b 0 (-1) t i k = J t i k := fun t i k c => uO c
  refine ⟨fun t i k ht => (g t i k (by omega)).trans (h1 t i k ht), fun t i k c1 c2 c3 c4 => (g t i k (by omega)).trans (h2 t i k c1 c2 c3 (by omega)), (g _ _ _ (by omega)).trans h3, fun k hk => (g _ _ _ (by omega)).trans (h4 k hk), fun j hj => ?_, fun j hj => ?_⟩
  · obtain ⟨q0, q1, q2, q3, q4, q5, q6, q7, q8⟩ := h5 j hj
    exact ⟨(g _ _ _ (by omega)).trans q0, (g _ _ _ (by omega)).trans q1, (g _ _ _ (by omega)).trans q2, (g _ _ _ (by omega)).trans q3, (g _ _ _ (by omega)).trans q4, (g _ _ _ (by omega)).trans q5, (g _ _ _ (by omega)).trans q6, (g _ _ _ (by omega)).trans q7, fun x x0 x1 => (g _ _ _ (by omega)).trans (q8 x x0 x1)⟩
  · by_cases c : j = b
    · rw [c, uS]
    · exact (g _ _ _ (by omega)).trans (h6 j (by omega))
theorem RfX_g {g : Int → Option mmO} : RfX (mmUr (mmRf 0 (fun _ => none)) 10 0 g) := fun t i k ht => by rw [mmUr_rd, if_neg (by omega)]
theorem RfX_h {g h : Int → Option mmO} : RfX (mmUr (mmUr (mmRf 0 (fun _ => none)) 10 0 g) 1107 0 h) := fun t i k ht => by rw [mmUr_rd, if_neg (by omega), mmUr_rd, if_neg (by omega)]
theorem k_search {c s : Nat} (hR : RfX R) (z : ∀ t i k, t = 800 ∨ t = 850 → I t i k = 0) (c8 : cnt 800 = 0) (c85 : cnt 850 = 0) (hc : 7 ≤ c) (hs : 1206 ≤ s) (hQ : ∀ (cnt' : Nat → Nat) (c s : Nat), (∀ t, ¬ t = 800 → ¬ t = 850 → cnt' t = cnt t) → Q none (I, R, cnt', c, s)) : mmC (d + 1) 78 [mo 7 0] (I, mmUr R 7 0 (fun _ => none), cnt, c, s) Q := by
  show ([] : List mmV) = [] ∧ mmKo 7 = some 7 ∧ cnt 800 = 0 ∧ cnt 850 = 0 ∧ 7 ≤ c ∧ 1206 ≤ s ∧ _
  refine ⟨rfl, mmKo_7, c8, c85, hc, hs, ?_⟩
  have e1 : (fun (t i : Nat) (k : Int) => if (t = 850 ∧ i < 6) ∨ (t = 800 ∧ i = 0) then 0 else I t i k) = I := by
    funext t i k
    by_cases q : (t = 850 ∧ i < 6) ∨ (t = 800 ∧ i = 0)
    · rw [if_pos q, z t i k (by omega)]
    · rw [if_neg q]
  have e2 : (fun (t i : Nat) (k : Int) => if t = 7 ∧ i = 0 ∧ k = 0 then some (800, 0) else if t = 800 ∧ i = 0 then (if 0 ≤ k ∧ k < 6 then some (850, k.toNat) else none) else if t = 850 ∧ i < 6 then none else mmUr R 7 0 (fun _ => none) t i k) = R := by
    funext t i k
    by_cases q : t = 7 ∧ i = 0 ∧ k = 0
    · rw [if_pos q]; obtain ⟨rfl, rfl, rfl⟩ := q; rw [hR 7 0 0 (by decide)]; rfl
    · rw [if_neg q]
      by_cases q1 : t = 800 ∧ i = 0
      · rw [if_pos q1]; obtain ⟨rfl, rfl⟩ := q1; rw [hR 800 0 k (by decide)]; rfl
      · rw [if_neg q1]
        by_cases q2 : t = 850 ∧ i < 6
        · rw [if_pos q2, q2.1, hR 850 i k (by decide)]; rfl
        · rw [if_neg q2, mmUr_rd]
          by_cases q3 : t = 7 ∧ i = 0
          · rw [if_pos q3]; obtain ⟨rfl, rfl⟩ := q3
            have : ¬ k = 0 := fun c => q ⟨rfl, rfl, c⟩
            rw [hR 7 0 k (by decide)]; unfold mmRf; simp [this]
          · rw [if_neg q3]
  have := hQ (fun t => if t = 800 then 1 else if t = 850 then 6 else cnt t) (c - 7) (s - 1206) (fun t q1 q2 => by rw [if_neg q1, if_neg q2])
  have goal : Q none ((fun (t i : Nat) (k : Int) => if (t = 850 ∧ i < 6) ∨ (t = 800 ∧ i = 0) then 0 else I t i k), (fun (t i : Nat) (k : Int) => if t = 7 ∧ i = 0 ∧ k = 0 then some (800, 0) else if t = 800 ∧ i = 0 then (if 0 ≤ k ∧ k < 6 then some (850, k.toNat) else none) else if t = 850 ∧ i < 6 then none else mmUr R 7 0 (fun _ => none) t i k), (fun t => if t = 800 then 1 else if t = 850 then 6 else cnt t), c - 7, s - 1206) := by
    rw [e1, e2]; exact this
  exact goal
end S889
