section S878
variable {d a D y y' : Nat} {I I1 I2 I' I'' : mMm} {br br' : Nat → Option mmO} {X : mmX} {L L' M M' : Nat → Int → Int} {r : mRu} {S : Int → Int} {len n w k v p q s i m : Int} {z : mmV} {args args' : List mmV} {Q : Option mmV → mmM → Prop}
theorem Lc_cs {f : Nat} {k : Int} (h0 : f = 0 → I' 3 0 0 = I 3 0 0) (h11 : f = 11 → I' 3 0 11 = I 3 0 11) (h14 : f = 14 → I' 3 0 14 = I 3 0 14) (h : ¬ f = 0 → ¬ f = 11 → ¬ f = 14 → I' (400 + f) 0 k = I (400 + f) 0 k) : Lc I' 0 f k = Lc I 0 f k := by
  unfold Lc
  by_cases b0 : f = 0
  · rw [if_pos b0, if_pos b0]; exact h0 b0
  · rw [if_neg b0, if_neg b0]
    by_cases b1 : f = 11
    · rw [if_pos b1, if_pos b1]; exact h11 b1
    · rw [if_neg b1, if_neg b1]
      by_cases b2 : f = 14
      · rw [if_pos b2, if_pos b2]; exact h14 b2
      · rw [if_neg b2, if_neg b2]; exact h b0 b1 b2
theorem Lm_cs {f : Nat} {k : Int} (h0 : f = 0 → I' 11 0 68 = I 11 0 68) (h11 : f = 11 → I' 11 0 69 = I 11 0 69) (h14 : f = 14 → I' 11 0 60 = I 11 0 60) (h1 : ∀ t, 1270 ≤ t → t ≤ 1274 → f + 1269 = t → I' t 0 k = I t 0 k) (h7 : f = 7 → I' 1275 0 k = I 1275 0 k) (h8 : ∀ j, f = 8 ∧ j = 3 * k ∨ f = 9 ∧ j = 3 * k + 1 ∨ f = 10 ∧ j = 3 * k + 2 → I' 1276 0 j = I 1276 0 j) (h12 : f = 12 → I' 1277 0 k = I 1277 0 k) (h13 : f = 13 → I' 1278 0 k = I 1278 0 k) (hf : f ≤ 14) : Lm I' f k = Lm I f k := by
  have : f = 0 ∨ f = 1 ∨ f = 2 ∨ f = 3 ∨ f = 4 ∨ f = 5 ∨ f = 6 ∨ f = 7 ∨ f = 8 ∨ f = 9 ∨ f = 10 ∨ f = 11 ∨ f = 12 ∨ f = 13 ∨ f = 14 := by omega
  rcases this with c | c | c | c | c | c | c | c | c | c | c | c | c | c | c <;> subst c
  · exact h0 rfl
  · exact h1 1270 (by omega) (by omega) (by omega)
  · exact h1 1271 (by omega) (by omega) (by omega)
  · exact h1 1272 (by omega) (by omega) (by omega)
  · exact h1 1273 (by omega) (by omega) (by omega)
  · exact h1 1274 (by omega) (by omega) (by omega)
  · rfl
  · exact h7 rfl
  · exact h8 _ (by omega)
  · exact h8 _ (by omega)
  · exact h8 _ (by omega)
  · exact h11 rfl
  · exact h12 rfl
  · exact h13 rfl
  · exact h14 rfl
theorem dlS_rel {x : Int} {g1 g2 h1 h2 : Int → Int} {N : Nat} (e : ∀ k : Int, 0 ≤ k → k < N → h1 k = g1 k ∧ h2 k = g2 k) : ∀ n : Nat, n ≤ N → (dlS x h1 h2 n).2.2 = (dlS x g1 g2 n).2.2 ∧ ∀ k : Int, 0 ≤ k → k < N → (dlS x h1 h2 n).1 k = (dlS x g1 g2 n).1 k ∧ (dlS x h1 h2 n).2.1 k = (dlS x g1 g2 n).2.1 k
  | 0, _ => ⟨rfl, e⟩
  | n + 1, hn => by
    obtain ⟨e1, e2⟩ := dlS_rel (x := x) e n (by omega)
    have e3 := e2 n (by omega) (by omega)
    unfold dlS
    rw [e3.1, e3.2, e1]
    by_cases c : (dlS x g1 g2 n).1 n = x
    · rw [if_pos c, if_pos c]; exact ⟨e1, e2⟩
    · rw [if_neg c, if_neg c]
      refine ⟨rfl, fun k k0 k1 => ?_⟩
      have := e2 k k0 k1
      unfold fup
      simp only
      rw [this.1, this.2]
      exact ⟨rfl, rfl⟩
theorem dlS_well {x : Int} {g1 g2 : Int → Int} {P : Int → Int → Prop} {N : Nat} (e : ∀ k : Int, 0 ≤ k → k < N → P (g1 k) (g2 k)) : ∀ n : Nat, n ≤ N → (∀ k : Int, 0 ≤ k → k < (dlS x g1 g2 n).2.2 → P ((dlS x g1 g2 n).1 k) ((dlS x g1 g2 n).2.1 k) ∧ ¬ (dlS x g1 g2 n).1 k = x) ∧ ∀ k : Int, n ≤ k → (dlS x g1 g2 n).1 k = g1 k ∧ (dlS x g1 g2 n).2.1 k = g2 k
  | 0, _ => ⟨fun k k0 k1 => by have : k < 0 := k1; omega, fun k _ => ⟨rfl, rfl⟩⟩
  | n + 1, hn => by
    obtain ⟨e1, e2⟩ := dlS_well (x := x) e n (by omega)
    have hle := dlS_le (x := x) (g1 := g1) (g2 := g2) n
    have e3 := e2 n (by omega)
    have e4 := e n (by omega) (by omega)
    unfold dlS
    by_cases c : (dlS x g1 g2 n).1 n = x
    · rw [if_pos c]; exact ⟨e1, fun k hk => e2 k (by omega)⟩
    · rw [if_neg c]
      simp only
      refine ⟨fun k k0 k1 => ?_, fun k hk => ?_⟩
      · unfold fup
        by_cases c1 : k = (dlS x g1 g2 n).2.2
        · rw [if_pos c1, if_pos c1, e3.1, e3.2]
          rw [e3.1] at c
          exact ⟨e4, c⟩
        · rw [if_neg c1, if_neg c1]
          exact e1 k k0 (by omega)
      · unfold fup
        rw [if_neg (by omega), if_neg (by omega)]
        exact e2 k (by omega)
theorem LW_7 (hL : LW L) (s0 : 0 < s) (hs : L 0 0 = s) (hA : ∀ f k, f ≤ 14 → ¬ (f = 7 ∧ k = s - 1) → L' f k = L f k) (h7 : L' 7 (s - 1) = i - 1) (hi : L 7 (s - 1) = i) (i0 : 0 < i) : LW L' := by
  obtain ⟨l1, l2, l3, l4, l5, l6⟩ := hL
  have e : ∀ f k, f ≤ 6 ∨ (8 ≤ f ∧ f ≤ 14) → L' f k = L f k := fun f k hf => hA f k (by omega) (by omega)
  refine ⟨by rw [e 0 _ (by omega)]; exact l1, by rw [e 11 _ (by omega)]; exact l2, by rw [e 14 _ (by omega)]; exact l3, fun l q0 q1 => ?_, fun l k q0 q1 k0 k1 => ?_, fun k k0 k1 => ?_⟩
  · rw [e 0 _ (by omega)] at q1
    obtain ⟨w1, w2, w3, w4, w5, w7, w6, w8, w9, w10, w11⟩ := l4 l q0 q1
    unfold LWl
    rw [e 1 _ (by omega), e 2 _ (by omega), e 3 _ (by omega), e 4 _ (by omega), e 5 _ (by omega), e 6 _ (by omega), e 5 _ (by omega), e 1 _ (by omega), e 6 _ (by omega)]
    by_cases c : l = s - 1
    · subst c
      rw [h7]
      exact ⟨w1, w2, w3, w4, w5, by omega, w6, w8, fun z => by have := (w9 z).2; omega, w10, w11⟩
    · rw [hA 7 l (by omega) (by omega)]
      exact ⟨w1, w2, w3, w4, w5, w7, w6, w8, w9, w10, w11⟩
  · rw [e 0 _ (by omega)] at q1
    have kk : k < L 7 l := by
      by_cases c1 : l = s - 1
      · subst c1; rw [h7] at k1; omega
      · rw [hA 7 l (by omega) (by omega)] at k1; exact k1
    have := l5 l k q0 q1 k0 kk
    unfold LWi at this ⊢
    rw [e 8 _ (by omega), e 9 _ (by omega), e 10 _ (by omega), e 1 _ (by omega)]
    exact this
  · rw [e 11 _ (by omega)] at k1
    rw [e 12 _ (by omega), e 13 _ (by omega), e 0 _ (by omega)]
    exact l6 k k0 k1
theorem LE_7 (hE : LE L M) (s0 : 0 < s) (hs : L 0 0 = s) (hA : ∀ f k, f ≤ 14 → ¬ (f = 7 ∧ k = s - 1) → L' f k = L f k) (h7 : L' 7 (s - 1) = i - 1) (hB : ∀ f k, f ≤ 14 → ¬ (f = 7 ∧ k = s - 1) → M' f k = M f k) (m7 : M' 7 (s - 1) = i - 1) (hi : L 7 (s - 1) = i) : LE L' M' := by
  obtain ⟨q1, q2, q3, q4, q5, q6⟩ := hE
  have e : ∀ f k, f ≤ 6 ∨ (8 ≤ f ∧ f ≤ 14) → L' f k = L f k := fun f k hf => hA f k (by omega) (by omega)
  have g : ∀ f k, f ≤ 6 ∨ (8 ≤ f ∧ f ≤ 14) → M' f k = M f k := fun f k hf => hB f k (by omega) (by omega)
  refine ⟨by rw [e 0 _ (by omega), g 0 _ (by omega)]; exact q1, by rw [e 11 _ (by omega), g 11 _ (by omega)]; exact q2, by rw [e 14 _ (by omega), g 14 _ (by omega)]; exact q3, fun l l0 l1 => ?_, fun l k l0 l1 k0 k1 => ?_, fun k k0 k1 => ?_⟩
  · rw [e 0 _ (by omega)] at l1
    obtain ⟨z1, z2, z3, z4, z5, z7⟩ := q4 l l0 l1
    rw [e 1 _ (by omega), e 2 _ (by omega), e 3 _ (by omega), e 4 _ (by omega), e 5 _ (by omega), g 1 _ (by omega), g 2 _ (by omega), g 3 _ (by omega), g 4 _ (by omega), g 5 _ (by omega)]
    refine ⟨z1, z2, z3, z4, z5, ?_⟩
    by_cases c : l = s - 1
    · subst c; rw [h7, m7]
    · rw [hA 7 l (by omega) (by omega), hB 7 l (by omega) (by omega)]; exact z7
  · rw [e 0 _ (by omega)] at l1
    have kk : k < L 7 l := by
      by_cases c1 : l = s - 1
      · subst c1; rw [h7] at k1; omega
      · rw [hA 7 l (by omega) (by omega)] at k1; exact k1
    rw [e 8 _ (by omega), e 9 _ (by omega), e 10 _ (by omega), g 8 _ (by omega), g 9 _ (by omega), g 10 _ (by omega)]
    exact q5 l k l0 l1 k0 kk
  · rw [e 11 _ (by omega)] at k1
    rw [e 12 _ (by omega), e 13 _ (by omega), g 12 _ (by omega), g 13 _ (by omega)]
    exact q6 k k0 k1
theorem LW_un (hL : LW L) (hA : ∀ f k, (1 ≤ f ∧ f ≤ 10) ∨ f = 14 → L' f k = L f k) (h0 : L' 0 0 = s) (hs : s ≤ L 0 0) (s0 : 0 ≤ s) (h11 : 0 ≤ L' 11 0 ∧ L' 11 0 ≤ 20) (hl : ∀ k, 0 ≤ k → k < L' 11 0 → (0 ≤ L' 12 k ∧ L' 12 k < s) ∧ (0 ≤ L' 13 k ∧ L' 13 k ≤ 999)) : LW L' := by
  obtain ⟨l1, l2, l3, l4, l5, l6⟩ := hL
  refine ⟨by omega, h11, by rw [hA 14 _ (by omega)]; exact l3, fun l q0 q1 => ?_, fun l k q0 q1 k0 k1 => ?_, fun k k0 k1 => ?_⟩
  · have := l4 l q0 (by omega)
    unfold LWl at this ⊢
    rw [hA 1 _ (by omega), hA 2 _ (by omega), hA 3 _ (by omega), hA 4 _ (by omega), hA 5 _ (by omega), hA 6 _ (by omega), hA 5 _ (by omega), hA 1 _ (by omega), hA 6 _ (by omega), hA 7 _ (by omega)]
    exact this
  · rw [hA 7 _ (by omega)] at k1
    have := l5 l k q0 (by omega) k0 k1
    unfold LWi at this ⊢
    rw [hA 8 _ (by omega), hA 9 _ (by omega), hA 10 _ (by omega), hA 1 _ (by omega)]
    exact this
  · rw [h0]; exact hl k k0 k1
theorem LE_un (hE : LE L M) (hA : ∀ f k, (1 ≤ f ∧ f ≤ 10) ∨ f = 14 → L' f k = L f k) (hB : ∀ f k, (1 ≤ f ∧ f ≤ 10) ∨ f = 14 → M' f k = M f k) (h0 : L' 0 0 = s) (hs : s ≤ L 0 0) (m0 : M' 0 0 = s) (h11 : M' 11 0 = L' 11 0) (hl : ∀ k, 0 ≤ k → k < L' 11 0 → M' 12 k = L' 12 k ∧ M' 13 k = L' 13 k) : LE L' M' := by
  obtain ⟨q1, q2, q3, q4, q5, q6⟩ := hE
  refine ⟨by omega, h11, by rw [hA 14 _ (by omega), hB 14 _ (by omega)]; exact q3, fun l l0 l1 => ?_, fun l k l0 l1 k0 k1 => ?_, hl⟩
  · rw [hA 1 _ (by omega), hA 2 _ (by omega), hA 3 _ (by omega), hA 4 _ (by omega), hA 5 _ (by omega), hA 7 _ (by omega), hB 1 _ (by omega), hB 2 _ (by omega), hB 3 _ (by omega), hB 4 _ (by omega), hB 5 _ (by omega), hB 7 _ (by omega)]
    exact q4 l l0 (by omega)
  · rw [hA 7 _ (by omega)] at k1
    rw [hA 8 _ (by omega), hA 9 _ (by omega), hA 10 _ (by omega), hB 8 _ (by omega), hB 9 _ (by omega), hB 10 _ (by omega)]
    exact q5 l k l0 (by omega) k0 k1
end S878
