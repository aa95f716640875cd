/-- a letter more -/
def Add (L L' : Nat → Int → Int) : Prop := L' 0 0 = L 0 0 + 1 ∧ L' 11 0 = L 11 0 ∧ L' 14 0 = L 14 0 ∧ (∀ f k, 1 ≤ f → f ≤ 7 → ¬ k = L 0 0 → L' f k = L f k) ∧ (∀ f k, f = 8 ∨ f = 9 ∨ f = 10 ∨ f = 12 ∨ f = 13 → L' f k = L f k)
section S874
variable {d a D y y' : Nat} {I I1 I' I'' : mMm} {br br' : Nat → Option mmO} {X : mmX} {L L' M M' : Nat → Int → Int} {r : mRu} {S : Int → Int} {len n w k v p q : Int} {z : mmV} {args args' : List mmV} {Q : Option mmV → mmM → Prop}
theorem LW_add (hL : LW L) (hA : Add L L') (h16 : L 0 0 < 16) (hs : LWl L' (L 0 0)) (h7 : L' 7 (L 0 0) = 0) : LW L' := by
  obtain ⟨a0, a11, a14, a1, a8⟩ := hA
  obtain ⟨l1, l2, l3, l4, l5, l6⟩ := hL
  refine ⟨by omega, by omega, by omega, fun l q0 q1 => ?_, fun l k q0 q1 k0 k1 => ?_, fun k k0 k1 => ?_⟩
  · by_cases c : l = L 0 0
    · rw [c]; exact hs
    · obtain ⟨w1, w2, w3, w4, w5, w7, w6, w8, w9, w10, w11⟩ := l4 l q0 (by omega)
      have e : ∀ f, 1 ≤ f → f ≤ 7 → L' f l = L f l := fun f f1 f2 => a1 f l f1 f2 c
      unfold LWl
      rw [e 1 (by omega) (by omega), e 2 (by omega) (by omega), e 3 (by omega) (by omega), e 4 (by omega) (by omega), e 5 (by omega) (by omega), e 6 (by omega) (by omega), e 7 (by omega) (by omega), a1 5 (L 6 l) (by omega) (by omega) (by omega), a1 1 (L 6 l) (by omega) (by omega) (by omega)]
      refine ⟨w1, w2, w3, w4, w5, w7, w6, w8, fun h5 => ?_, w10, w11⟩
      rw [a1 6 (L 5 l) (by omega) (by omega) (by omega)]
      exact w9 h5
  · by_cases c : l = L 0 0
    · rw [c, h7] at k1; omega
    · rw [a1 7 l (by omega) (by omega) c] at k1
      have := l5 l k q0 (by omega) k0 k1
      unfold LWi at this ⊢
      rw [a8 8 _ (by omega), a8 9 _ (by omega), a8 10 _ (by omega), a1 1 l (by omega) (by omega) c]
      exact this
  · rw [a11] at k1
    have := l6 k k0 k1
    rw [a8 12 _ (by omega), a8 13 _ (by omega), a0]
    omega
theorem LE_add (hE : LE L M) (h0 : 0 ≤ L 0 0) (hA : Add L L') (m0 : M' 0 0 = M 0 0 + 1) (m11 : M' 11 0 = M 11 0) (m14 : M' 14 0 = M 14 0) (m1 : ∀ f k, 1 ≤ f → f ≤ 7 → ¬ k = M 0 0 → M' f k = M f k) (m8 : ∀ f k, f = 8 ∨ f = 9 ∨ f = 10 ∨ f = 12 ∨ f = 13 → M' f k = M f k) (hs : ∀ f, f = 1 ∨ f = 2 ∨ f = 3 ∨ f = 4 ∨ f = 5 ∨ f = 7 → M' f (L 0 0) = L' f (L 0 0)) (h7 : L' 7 (L 0 0) = 0) : LE L' M' := by
  obtain ⟨a0, a11, a14, a1, a8⟩ := hA
  obtain ⟨q1, q2, q3, q4, q5, q6⟩ := hE
  refine ⟨by omega, by omega, by omega, fun l l0 l1 => ?_, fun l k l0 l1 k0 k1 => ?_, fun k k0 k1 => ?_⟩
  · by_cases c : l = L 0 0
    · rw [c]
      exact ⟨hs 1 (by omega), hs 2 (by omega), hs 3 (by omega), hs 4 (by omega), hs 5 (by omega), hs 7 (by omega)⟩
    · have c' : ¬ l = M 0 0 := by omega
      rw [a1 1 l (by omega) (by omega) c, a1 2 l (by omega) (by omega) c, a1 3 l (by omega) (by omega) c, a1 4 l (by omega) (by omega) c, a1 5 l (by omega) (by omega) c, a1 7 l (by omega) (by omega) c, m1 1 l (by omega) (by omega) c', m1 2 l (by omega) (by omega) c', m1 3 l (by omega) (by omega) c', m1 4 l (by omega) (by omega) c', m1 5 l (by omega) (by omega) c', m1 7 l (by omega) (by omega) c']
      exact q4 l l0 (by omega)
  · by_cases c : l = L 0 0
    · rw [c, h7] at k1; omega
    · rw [a1 7 l (by omega) (by omega) c] at k1
      rw [a8 8 _ (by omega), a8 9 _ (by omega), a8 10 _ (by omega), m8 8 _ (by omega), m8 9 _ (by omega), m8 10 _ (by omega)]
      exact q5 l k l0 (by omega) k0 k1
  · rw [a11] at k1
    rw [a8 12 _ (by omega), a8 13 _ (by omega), m8 12 _ (by omega), m8 13 _ (by omega)]
    exact q6 k k0 k1
end S874
