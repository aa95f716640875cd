def FrP (j : Nat) (m : Int) (I I' : mMm) : Prop := ∀ t i k, ¬ (t = 105 ∧ i = j) → ¬ t = 201 → ¬ (t = 106 ∧ i = j) → ¬ (t = 608 ∧ i = j) → ¬ (t = 604 ∧ i = j ∧ k = m) → I' t i k = I t i k
/-- what is done with the ifs of a ply: dn those that are through -/
def PI (I I1 : mMm) (j : Nat) (L : Nat → Int → Int) (z m la : Int) (c : Int × Int) (dn : Int → Int → Prop) : Prop :=
  FrP j m I I1 ∧ (∀ l k, dn l k → L 8 (L 6 l * 6 + k) = m → ¬ c.1 = -1 → I1 608 j (l * 6 + k) = ftV L z la c l k) ∧ (∀ l k, 0 ≤ k → k < 6 → ¬ L 8 (L 6 l * 6 + k) = m → I1 608 j (l * 6 + k) = I 608 j (l * 6 + k))
section S842
variable {d a j x : Nat} {I I1 I' I'' : mMm} {br : Nat → Option mmO} {R : Nat → Nat → Int → Option mmO} {X : mmX} {L : Nat → Int → Int} {r : mRu} {B : mBd} {m la z : Int} {c : Int × Int} {T : List Int} {Q : Option mmV → mmM → Prop}
theorem FrP_trans (h : FrP j m I I') (h' : FrP j m I' I'') : FrP j m I I'' := fun t i k c1 c2 c3 c4 c5 => (h' t i k c1 c2 c3 c4 c5).trans (h t i k c1 c2 c3 c4 c5)
theorem FrP_refl : FrP j m I I := fun _ _ _ _ _ _ _ _ => rfl
theorem FrP_A (h : FrA j 106 j I I') : FrP j m I I' := fun t i k c1 c2 c3 c4 c5 => h t i k c1 c2 c3
theorem CL_P (h : CL I L) (hf : FrP j m I I') : CL I' L := CL_ext h (fun t k ht => hf _ _ _ (by omega) (by omega) (by omega) (by omega) (by omega))
theorem CR_P (h : CR I x r) (hf : FrP j m I I') : CR I' x r := fun t k ht => (hf t x k (by unfold rtag at ht; omega) (by unfold rtag at ht; omega) (by unfold rtag at ht; omega) (by unfold rtag at ht; omega) (by unfold rtag at ht; omega)).trans (h t k ht)
theorem BV_P (h : BV I j B m r) {m' : Int} (hf : FrP j m' I I') : BV I' j B m r := BV_ext h (fun t z ht => hf _ _ _ (by omega) (by omega) (by omega) (by omega) (by omega)) (hf _ _ _ (by omega) (by omega) (by omega) (by omega) (by omega))
theorem PI_A {dn : Int → Int → Prop} (h : PI I I1 j L z m la c dn) (hf : FrA j 106 j I1 I') : PI I I' j L z m la c dn := by
  have e : ∀ k, I' 608 j k = I1 608 j k := fun k => hf _ _ _ (by omega) (by omega) (by omega)
  exact ⟨FrP_trans h.1 (FrP_A hf), fun l k h1 h2 h3 => (e _).trans (h.2.1 l k h1 h2 h3), fun l k h1 h2 h3 => (e _).trans (h.2.2 l k h1 h2 h3)⟩
theorem PI_w {dn : Int → Int → Prop} {v : Int} (h : PI I I1 j L z m la c dn) : PI I (mmU I1 604 j m v) j L z m la c dn := by
  refine ⟨FrP_trans h.1 (fun t i k c1 c2 c3 c4 c5 => by unfold mmU; rw [if_neg c5]), fun l k h1 h2 h3 => ?_, fun l k h1 h2 h3 => ?_⟩
  · rw [← h.2.1 l k h1 h2 h3]; unfold mmU; rw [if_neg (by omega)]
  · rw [← h.2.2 l k h1 h2 h3]; unfold mmU; rw [if_neg (by omega)]
/-- an if of this ply is through -/
theorem PI_f {dn dn' : Int → Int → Prop} {l k v : Int} (h : PI I I1 j L z m la c dn) (hk : 0 ≤ k ∧ k < 6) (hm : L 8 (L 6 l * 6 + k) = m) (hv : ¬ c.1 = -1 → v = ftV L z la c l k) (hd : ∀ l' k', dn' l' k' → (0 ≤ k' ∧ k' < 6) ∧ (dn l' k' ∨ (l' = l ∧ k' = k))) : PI I (mmU I1 608 j (l * 6 + k) v) j L z m la c dn' := by
  refine ⟨FrP_trans h.1 (fun t i k c1 c2 c3 c4 c5 => by unfold mmU; rw [if_neg (fun q => c4 ⟨q.1, q.2.1⟩)]), fun l' k' h1 h2 h3 => ?_, fun l' k' h1 h2 h3 => ?_⟩
  · have hd' := hd l' k' h1
    unfold mmU
    by_cases e : l' * 6 + k' = l * 6 + k
    · have e1 : l' = l := by omega
      have e2 : k' = k := by omega
      rw [if_pos ⟨rfl, rfl, e⟩, e1, e2]
      exact hv h3
    · rw [if_neg (fun q => e q.2.2)]
      rcases hd'.2 with q | q
      · exact h.2.1 l' k' q h2 h3
      · exact absurd (by rw [q.1, q.2]) e
  · unfold mmU
    rw [if_neg (fun q => ?_)]
    · exact h.2.2 l' k' h1 h2 h3
    · have e1 : l' = l := by omega
      have e2 : k' = k := by omega
      rw [e1, e2] at h3
      exact h3 hm
theorem PI_n {dn dn' : Int → Int → Prop} (h : PI I I1 j L z m la c dn) (hd : ∀ l' k', dn' l' k' → L 8 (L 6 l' * 6 + k') = m → dn l' k') : PI I I1 j L z m la c dn' := ⟨h.1, fun l k h1 h2 h3 => h.2.1 l k (hd l k h1 h2) h2 h3, h.2.2⟩
end S842
