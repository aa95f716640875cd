def sI (f : Int → Int) : Nat → Int
  | 0 => 0
  | n + 1 => sI f n + f n
section S882
variable {f g : Int → Int} {r : mRu} {G : mGv}
theorem sI_le : ∀ N : Nat, (∀ i : Int, 0 ≤ i → i < N → f i ≤ g i) → sI f N ≤ sI g N
  | 0, _ => Int.le_refl 0
  | n + 1, h => by
    have h1 := sI_le n (fun i i0 i1 => h i i0 (by omega))
    have h2 := h n (by omega) (by omega)
    unfold sI
    omega
theorem sI_lt : ∀ N : Nat, (∀ i : Int, 0 ≤ i → i < N → f i ≤ g i) → (∃ i : Int, 0 ≤ i ∧ i < N ∧ f i + 1 ≤ g i) → sI f N + 1 ≤ sI g N
  | 0, _, ⟨i, h0, h1, _⟩ => by omega
  | n + 1, h, ⟨i, h0, h1, h2⟩ => by
    have h3 := h n (by omega) (by omega)
    unfold sI
    by_cases c : i = n
    · subst c
      have h4 := sI_le (f := f) (g := g) n (fun i i0 i1 => h i i0 (by omega))
      omega
    · have h4 := sI_lt n (fun i i0 i1 => h i i0 (by omega)) ⟨i, h0, by omega, h2⟩
      omega
theorem sI_1 : ∀ N : Nat, (∀ i : Int, 0 ≤ i → i < N → f i ≤ 1) → sI f N ≤ N
  | 0, _ => Int.le_refl 0
  | n + 1, h => by
    have h1 := sI_1 n (fun i i0 i1 => h i i0 (by omega))
    have h2 := h n (by omega) (by omega)
    unfold sI
    omega
theorem BW_of (hE : RE r G) (hw : RW r) : BW r (r 714) := by
  obtain ⟨_, _, h1, h2, h3, _⟩ := hE
  obtain ⟨w0, w1, w2, w3, _⟩ := hw
  have hv : ∀ z, 0 ≤ z → z < 25 → r 714 z = -2 ∨ (0 ≤ r 714 z ∧ r 714 z < 8 ∧ r 714 z % 4 < r 6 2 ∧ z < r 6 0 * r 6 1) := by
    intro z z0 z1
    by_cases c : r 714 z = -2
    · exact Or.inl c
    · obtain ⟨i, i0, i1, e⟩ := h3 z z0 z1 c
      obtain ⟨q1, q2, q3, q4⟩ := h1 i i0 i1
      rw [e] at q3 q4
      refine Or.inr ⟨by omega, by omega, by omega, q3.2⟩
  refine ⟨hv, ?_⟩
  have key : ∀ n : Nat, n ≤ 25 → cS (r 714) 0 n + cS (r 714) 1 n ≤ sI (fun i => if G 22 i < n then 1 else 0) (r 6 3).toNat := by
    intro n
    induction n with
    | zero =>
      intro _
      have : sI (fun _ => 0) (r 6 3).toNat ≤ sI (fun i => if G 22 i < ((0 : Nat) : Int) then 1 else 0) (r 6 3).toNat := sI_le _ (fun i i0 i1 => by split <;> omega)
      have e : ∀ N : Nat, sI (fun _ => 0) N = 0 := by
        intro N
        induction N with
        | zero => rfl
        | succ N ih => unfold sI; omega
      rw [e] at this
      exact this
    | succ n ih =>
      intro hn
      have ih := ih (by omega)
      have hle : ∀ i : Int, 0 ≤ i → i < (r 6 3).toNat → (if G 22 i < (n : Int) then (1 : Int) else 0) ≤ (if G 22 i < ((n + 1 : Nat) : Int) then (1 : Int) else 0) := by
        intro i _ _
        by_cases c : G 22 i < (n : Int)
        · rw [if_pos c, if_pos (by omega)]; omega
        · rw [if_neg c]; split <;> omega
      unfold cS
      rcases hv n (by omega) (by omega) with c | c
      · rw [c, if_neg (by decide), if_neg (by decide)]
        have := sI_le (f := fun i => if G 22 i < (n : Int) then 1 else 0) (g := fun i => if G 22 i < ((n + 1 : Nat) : Int) then 1 else 0) (r 6 3).toNat hle
        omega
      · have := sI_lt (f := fun i => if G 22 i < (n : Int) then 1 else 0) (g := fun i => if G 22 i < ((n + 1 : Nat) : Int) then 1 else 0) (r 6 3).toNat hle (by
          obtain ⟨i, i0, i1, e⟩ := h3 n (by omega) (by omega) (by omega)
          refine ⟨i, i0, by omega, ?_⟩

          rw [e, if_neg (by omega), if_pos (by omega)]
          omega)
        have : (if r 714 n / 4 = 0 then (1 : Int) else 0) + (if r 714 n / 4 = 1 then (1 : Int) else 0) ≤ 1 := by
          by_cases c0 : r 714 n / 4 = 0
          · rw [if_pos c0, if_neg (by omega)]; omega
          · rw [if_neg c0]; split <;> omega
        omega
  have h25 := key 25 (Nat.le_refl _)
  have hb := sI_1 (f := fun i => if G 22 i < ((25 : Nat) : Int) then 1 else 0) (r 6 3).toNat (fun i _ _ => by split <;> omega)
  omega
end S882
/-- places of the reference's rules that count -/
def rgK (f : Nat) (k : Int) : Prop := f ≤ 7 ∨ f = 16 ∨ f = 17 ∨ ((8 ≤ f ∧ f ≤ 11) ∧ 0 ≤ k ∧ k < 4) ∨ ((f = 12 ∨ f = 13) ∧ 0 ≤ k ∧ k < 32) ∨ ((20 ≤ f ∧ f ≤ 22) ∧ 0 ≤ k ∧ k < 8) ∨ ((30 ≤ f ∧ f ≤ 32) ∧ 0 ≤ k ∧ k < 64)
section S882b
variable {r : mRu} {I I' I1 I2 : mMm} {G G' : mGv}
theorem RE_rg (h : RE r G) (hw : RW r) (e : ∀ f k, rgK f k → G' f k = G f k) : RE r G' := by
  obtain ⟨⟨a0, a1, a2, a3, a4, a5, a6, a7⟩, h2, h3, h4, h5, h6⟩ := h
  obtain ⟨w0, w1, w2, w3, _⟩ := hw
  refine ⟨⟨?_, ?_, ?_, ?_, ?_, ?_, ?_, ?_⟩, fun k k0 k1 => ?_, fun i i0 i1 => ?_, fun i i' i0 i1 i2 => ?_, fun x x0 x1 x2 => ?_, fun w hw => ⟨(h6 w hw).1, ?_⟩⟩
  · rw [e 0 0 (by unfold rgK; omega)]; exact a0
  · rw [e 1 0 (by unfold rgK; omega)]; exact a1
  · rw [e 2 0 (by unfold rgK; omega)]; exact a2
  · rw [e 3 0 (by unfold rgK; omega)]; exact a3
  · rw [e 4 0 (by unfold rgK; omega)]; exact a4
  · rw [e 5 0 (by unfold rgK; omega)]; exact a5
  · rw [e 6 0 (by unfold rgK; omega)]; exact a6
  · rw [e 7 0 (by unfold rgK; omega)]; exact a7
  · obtain ⟨q1, q2, q3, q4, q5, q6, q7, q8⟩ := h2 k k0 k1
    refine ⟨?_, ?_, ?_, ?_, q5, q6, q7, fun x x0 x1 => ?_⟩
    · rw [e 8 k (by unfold rgK; omega)]; exact q1
    · rw [e 9 k (by unfold rgK; omega)]; exact q2
    · rw [e 10 k (by unfold rgK; omega)]; exact q3
    · rw [e 11 k (by unfold rgK; omega)]; exact q4
    · rw [e 12 (k * 8 + x) (by unfold rgK; omega), e 13 (k * 8 + x) (by unfold rgK; omega)]
      exact q8 x x0 x1
  · rw [e 20 i (by unfold rgK; omega), e 21 i (by unfold rgK; omega), e 22 i (by unfold rgK; omega)]
    exact h3 i i0 i1
  · rw [e 22 i (by unfold rgK; omega), e 22 i' (by unfold rgK; omega)]
    exact h4 i i' i0 i1 i2
  · obtain ⟨i, i0, i1, i2⟩ := h5 x x0 x1 x2
    exact ⟨i, i0, i1, by rw [e 22 i (by unfold rgK; omega)]; exact i2⟩
  · rw [(h6 w hw).2]
    constructor
    · rintro ⟨i, i0, i1, i2, i3⟩
      exact ⟨i, i0, i1, by rw [e 21 i (by unfold rgK; omega)]; exact i2, by rw [e 20 i (by unfold rgK; omega)]; exact i3⟩
    · rintro ⟨i, i0, i1, i2, i3⟩
      rw [e 21 i (by unfold rgK; omega)] at i2
      rw [e 20 i (by unfold rgK; omega)] at i3
      exact ⟨i, i0, i1, i2, i3⟩
theorem RLw_rg (h : RLw r G) (e : ∀ f k, rgK f k → G' f k = G f k) : RLw r G' := by
  unfold RLw at h ⊢
  rw [e 17 0 (by unfold rgK; omega), e 16 0 (by unfold rgK; omega)]
  rcases h with h | ⟨h1, h2, h3, h4, h5⟩
  · exact Or.inl h
  · refine Or.inr ⟨h1, h2, h3, fun m hm => ?_, h5⟩
    have := h4 m hm
    unfold TPn at this ⊢
    rw [e 30 m (by unfold rgK; omega), e 31 m (by unfold rgK; omega), e 32 m (by unfold rgK; omega)]
    exact this
theorem RK_rg (h : RK r I) (e : ∀ f k, rgK f k → Gk I' f k = Gk I f k) : RK r I' := ⟨RE_rg h.1 h.2.2 e, RLw_rg h.2.1 e, h.2.2⟩
theorem RK_fx {j : Nat} (h : RK r I) (f2 : FrX I1 I2) (f1 : FrT j I I1) : RK r I2 := by
  have g : ∀ t k, ¬ (Mt t k ∨ (t = 11 ∧ (k = 1 ∨ k = 2))) → t = 11 ∨ (1235 ≤ t ∧ t ≤ 1246) → I2 t 0 k = I t 0 k := fun t k d1 d2 => (f2 t 0 k d1).trans (f1 t 0 k (by omega))
  refine RK_rg h (fun f k hf => ?_)
  unfold rgK at hf
  have : f = 0 ∨ f = 1 ∨ f = 2 ∨ f = 3 ∨ f = 4 ∨ f = 5 ∨ f = 6 ∨ f = 7 ∨ f = 16 ∨ f = 17 ∨ f = 8 ∨ f = 9 ∨ f = 10 ∨ f = 11 ∨ f = 12 ∨ f = 13 ∨ f = 20 ∨ f = 21 ∨ f = 22 ∨ f = 30 ∨ f = 31 ∨ f = 32 := by omega
  rcases this with c | c | c | c | c | c | c | c | c | c | c | c | c | c | c | c | c | c | c | c | c | c <;> subst c
  · exact g 11 12 (by unfold Mt; omega) (by omega)
  · exact g 11 13 (by unfold Mt; omega) (by omega)
  · exact g 11 14 (by unfold Mt; omega) (by omega)
  · exact g 11 15 (by unfold Mt; omega) (by omega)
  · exact g 11 17 (by unfold Mt; omega) (by omega)
  · exact g 11 18 (by unfold Mt; omega) (by omega)
  · exact g 11 19 (by unfold Mt; omega) (by omega)
  · exact g 11 20 (by unfold Mt; omega) (by omega)
  · exact g 11 16 (by unfold Mt; omega) (by omega)
  · exact g 11 21 (by unfold Mt; omega) (by omega)
  · exact g 1235 k (by unfold Mt; omega) (by omega)
  · exact g 1236 k (by unfold Mt; omega) (by omega)
  · exact g 1237 k (by unfold Mt; omega) (by omega)
  · exact g 1238 k (by unfold Mt; omega) (by omega)
  · exact g 1239 k (by unfold Mt; omega) (by omega)
  · exact g 1240 k (by unfold Mt; omega) (by omega)
  · exact g 1241 k (by unfold Mt; omega) (by omega)
  · exact g 1242 k (by unfold Mt; omega) (by omega)
  · exact g 1243 k (by unfold Mt; omega) (by omega)
  · exact g 1244 k (by unfold Mt; omega) (by omega)
  · exact g 1245 k (by unfold Mt; omega) (by omega)
  · exact g 1246 k (by unfold Mt; omega) (by omega)
end S882b
