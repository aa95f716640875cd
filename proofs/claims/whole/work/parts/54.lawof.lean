theorem mmU_over {f : Nat → Nat → Int → Int} {t i : Nat} {k v w : Int} : mmU (mmU f t i k v) t i k w = mmU f t i k w := by
  funext t' i' k'
  unfold mmU
  split <;> rfl
/-- which knot lies where on the pile -/
def ixT (k n : Int) (E : Int × (Int → Int)) : Int × (Int → Int) := if -8 ≤ k then (E.1 + 1, fup E.2 E.1 n) else (E.1 - evW k + 1, fup E.2 (E.1 - evW k) n)
def ixS (K : Int → Int) : Nat → Int × (Int → Int)
  | 0 => (0, fun _ => 0)
  | n + 1 => ixT (K n) n (ixS K n)
/-- the class's row of knots and the reference's tree tell the same -/
def TPn (K kn pa ot : Int → Int) (m : Nat) : Prop :=
  (0 ≤ K m ∧ K m ≤ 9999 ∧ kn m = 0 ∧ pa m = K m) ∨ (-8 ≤ K m ∧ K m < 0 ∧ kn m = 1 ∧ pa m = -1 - K m) ∨ (-21 ≤ K m ∧ K m < -8 ∧ 2 ≤ kn m ∧ kn m ≤ 14 ∧ kM (kn m) = K m ∧ evW (K m) ≤ (ixS K m).1 ∧ pa m = (ixS K m).2 ((ixS K m).1 - evW (K m)) ∧ (¬ K m = -11 → ot m = (ixS K m).2 ((ixS K m).1 - 1)))
theorem evW_12 {k : Int} : evW k = 1 ∨ evW k = 2 := by unfold evW; split <;> omega
theorem ixS_in {K kn pa ot : Int → Int} : ∀ n : Nat, (∀ m : Nat, m < n → TPn K kn pa ot m) → (0 ≤ (ixS K n).1 ∧ (ixS K n).1 ≤ n) ∧ ∀ i, 0 ≤ i → i < (ixS K n).1 → 0 ≤ (ixS K n).2 i ∧ (ixS K n).2 i < n
  | 0, _ => ⟨by unfold ixS; omega, fun i h0 h1 => by unfold ixS at h1; omega⟩
  | n + 1, h => by
    have ih := ixS_in (K := K) (kn := kn) (pa := pa) (ot := ot) n (fun m hm => h m (by omega))
    have ht := h n (by omega)
    unfold TPn at ht
    have hw := evW_12 (k := K n)
    unfold ixS ixT
    generalize ixS K n = E at *
    split
    · refine ⟨by simp only; omega, fun i h0 h1 => ?_⟩
      simp only at h1 ⊢
      unfold fup
      split
      · omega
      · have := ih.2 i h0 (by omega); omega
    · refine ⟨by simp only; omega, fun i h0 h1 => ?_⟩
      simp only at h1 ⊢
      unfold fup
      split
      · omega
      · have := ih.2 i h0 (by omega); omega
/-- the reference's values and flag behind n knots -/
def VI (K F V row : Int → Int) (fl : Int) (n : Nat) : Prop :=
  ((fl = 0 ∧ (evS K F V n).1 = (ixS K n).1 ∧ ∀ i, 0 ≤ i → i < (ixS K n).1 → row ((ixS K n).2 i) = (evS K F V n).2 i) ∨ (fl = 1 ∧ (evS K F V n).1 < 0)) ∧ ∀ m, 0 ≤ m → m < (n : Int) → -1000000000000 ≤ row m ∧ row m ≤ 1000000000000
theorem VI_err {K F V row : Int → Int} {n : Nat} {z : Int} (h : VI K F V row 1 n) (hz : -1000000000000 ≤ z ∧ z ≤ 1000000000000) : VI K F V (fup row n z) 1 (n + 1) := by
  refine ⟨Or.inr ⟨rfl, ?_⟩, fun m h0 h1 => ?_⟩
  · rw [evS_s]
    have h2 : (evS K F V n).1 < 0 := by
      rcases h.1 with q | q
      · omega
      · exact q.2
    unfold evT
    rw [if_pos h2]
    exact h2
  · unfold fup
    split
    · exact hz
    · exact h.2 m h0 (by omega)
section S54
variable {d a j : Nat} {I : Nat → Nat → Int → Int} {br : Nat → Option mmO} {X : mmX} {Q : Option mmV → mmM → Prop}
theorem VI_push {K F V row kn pa ot : Int → Int} {n : Nat} (hT : ∀ m : Nat, m < n → TPn K kn pa ot m) (h : VI K F V row 0 n) (h8 : -8 ≤ K n) (hz : -1000000000000 ≤ (if 0 ≤ K n then K n else F (-1 - K n)) ∧ (if 0 ≤ K n then K n else F (-1 - K n)) ≤ 1000000000000) : VI K F V (fup row n (if 0 ≤ K n then K n else F (-1 - K n))) 0 (n + 1) := by
  have hi := ixS_in n hT
  have h1 := h.1
  refine ⟨Or.inl ⟨rfl, ?_⟩, fun m h0 h1 => ?_⟩
  · rw [evS_s]
    unfold ixS evT ixT
    generalize evS K F V n = E at *
    generalize ixS K n = E' at *
    rw [if_neg (by omega), if_pos h8, if_pos h8]
    refine ⟨by simp only; omega, fun i g0 g1 => ?_⟩
    simp only at g1 ⊢
    have e1 : E.1 = E'.1 := by omega
    unfold fup
    rw [e1]
    by_cases c : i = E'.1
    · rw [if_pos c, if_pos c, if_pos rfl]
    · have := hi.2 i g0 (by omega)
      rw [if_neg c, if_neg c, if_neg (by omega)]
      rcases h1 with q | q
      · exact q.2.2 i g0 (by omega)
      · omega
  · unfold fup
    split
    · exact hz
    · exact h.2 m h0 (by omega)
theorem VI_join {K F V row kn pa ot : Int → Int} {n : Nat} (hT : ∀ m : Nat, m < n → TPn K kn pa ot m) (h : VI K F V row 0 n) (h8 : ¬ -8 ≤ K n) (hw0 : evW (K n) ≤ (ixS K n).1) (hz : -1000000000000 ≤ evJ (K n) (evS K F V n) ∧ evJ (K n) (evS K F V n) ≤ 1000000000000) : VI K F V (fup row n (evJ (K n) (evS K F V n))) 0 (n + 1) := by
  have hi := ixS_in n hT
  have h1 := h.1
  have hw := evW_12 (k := K n)
  refine ⟨Or.inl ⟨rfl, ?_⟩, fun m h0 h1 => ?_⟩
  · rw [evS_s]
    unfold ixS evT ixT
    generalize evS K F V n = E at *
    generalize ixS K n = E' at *
    have e1 : E.1 = E'.1 := by omega
    rw [if_neg (by omega), if_neg h8, if_neg h8, if_neg (by omega), if_pos hz]
    refine ⟨by simp only; omega, fun i g0 g1 => ?_⟩
    simp only at g1 ⊢
    generalize evJ (K n) E = z at *
    unfold fup
    rw [e1]
    by_cases c : i = E'.1 - evW (K n)
    · rw [if_pos c, if_pos c, if_pos rfl]
    · have := hi.2 i g0 (by omega)
      rw [if_neg c, if_neg c, if_neg (by omega)]
      rcases h1 with q | q
      · exact q.2.2 i g0 (by omega)
      · omega
  · unfold fup
    split
    · exact hz
    · exact h.2 m h0 (by omega)
theorem VI_bad {K F V row : Int → Int} {n : Nat} (h : VI K F V row 0 n) (h8 : ¬ -8 ≤ K n) (hz : ¬ (-1000000000000 ≤ evJ (K n) (evS K F V n) ∧ evJ (K n) (evS K F V n) ≤ 1000000000000)) : VI K F V (fup row n 0) 1 (n + 1) := by
  refine ⟨Or.inr ⟨rfl, ?_⟩, fun m h0 h1 => ?_⟩
  · rw [evS_s]
    unfold evT
    split
    · rename_i q; exact q
    · split <;> exact (show (-1 : Int) < 0 by decide)
  · unfold fup
    split
    · omega
    · exact h.2 m h0 (by omega)
end S54
