theorem ky_all {v : Int} : (kyF v = 0 ∧ v = 82888832) ∨ (kyF v = 1 ∧ v = 378998784) ∨ (kyF v = 2 ∧ v = 659011744) ∨ (kyF v = 3 ∧ v = 404455424) ∨ (kyF v = 4 ∧ v = 553242624) ∨ (kyF v = 5 ∧ v = 136104960) ∨ (kyF v = 6 ∧ v = 404362240) ∨ (kyF v = 7 ∧ v = 407945824) ∨ (kyF v = 8 ∧ v = 626478080) ∨ (kyF v = 9 ∧ v = 379001856) ∨ (kyF v = 10 ∧ v = 48365568) ∨ (kyF v = 11 ∧ v = 522190848) ∨ (kyF v = 12 ∧ v = 486146048) ∨ (kyF v = 13 ∧ v = 672503392) ∨ (kyF v = 14 ∧ v = 202964992) ∨ (kyF v = 15 ∧ v = 620462080) ∨ (kyF v = 16 ∧ v = 659011763) ∨ (kyF v = 17 ∧ v = 524555859) ∨ (kyF v = 18 ∧ v = 550273024) ∨ (kyF v = -1 ∧ ¬ v = 82888832 ∧ ¬ v = 378998784 ∧ ¬ v = 659011744 ∧ ¬ v = 404455424 ∧ ¬ v = 553242624 ∧ ¬ v = 136104960 ∧ ¬ v = 404362240 ∧ ¬ v = 407945824 ∧ ¬ v = 626478080 ∧ ¬ v = 379001856 ∧ ¬ v = 48365568 ∧ ¬ v = 522190848 ∧ ¬ v = 486146048 ∧ ¬ v = 672503392 ∧ ¬ v = 202964992 ∧ ¬ v = 620462080 ∧ ¬ v = 659011763 ∧ ¬ v = 524555859 ∧ ¬ v = 550273024) := by
  by_cases h0 : v = 82888832
  · subst h0; exact Or.inl ⟨rfl, rfl⟩
  by_cases h1 : v = 378998784
  · subst h1; exact Or.inr (Or.inl ⟨rfl, rfl⟩)
  by_cases h2 : v = 659011744
  · subst h2; exact Or.inr (Or.inr (Or.inl ⟨rfl, rfl⟩))
  by_cases h3 : v = 404455424
  · subst h3; exact Or.inr (Or.inr (Or.inr (Or.inl ⟨rfl, rfl⟩)))
  by_cases h4 : v = 553242624
  · subst h4; exact Or.inr (Or.inr (Or.inr (Or.inr (Or.inl ⟨rfl, rfl⟩))))
  by_cases h5 : v = 136104960
  · subst h5; exact Or.inr (Or.inr (Or.inr (Or.inr (Or.inr (Or.inl ⟨rfl, rfl⟩)))))
  by_cases h6 : v = 404362240
  · subst h6; exact Or.inr (Or.inr (Or.inr (Or.inr (Or.inr (Or.inr (Or.inl ⟨rfl, rfl⟩))))))
  by_cases h7 : v = 407945824
  · subst h7; exact Or.inr (Or.inr (Or.inr (Or.inr (Or.inr (Or.inr (Or.inr (Or.inl ⟨rfl, rfl⟩)))))))
  by_cases h8 : v = 626478080
  · subst h8; exact Or.inr (Or.inr (Or.inr (Or.inr (Or.inr (Or.inr (Or.inr (Or.inr (Or.inl ⟨rfl, rfl⟩))))))))
  by_cases h9 : v = 379001856
  · subst h9; exact Or.inr (Or.inr (Or.inr (Or.inr (Or.inr (Or.inr (Or.inr (Or.inr (Or.inr (Or.inl ⟨rfl, rfl⟩)))))))))
  by_cases h10 : v = 48365568
  · subst h10; exact Or.inr (Or.inr (Or.inr (Or.inr (Or.inr (Or.inr (Or.inr (Or.inr (Or.inr (Or.inr (Or.inl ⟨rfl, rfl⟩))))))))))
  by_cases h11 : v = 522190848
  · subst h11; exact Or.inr (Or.inr (Or.inr (Or.inr (Or.inr (Or.inr (Or.inr (Or.inr (Or.inr (Or.inr (Or.inr (Or.inl ⟨rfl, rfl⟩)))))))))))
  by_cases h12 : v = 486146048
  · subst h12; exact Or.inr (Or.inr (Or.inr (Or.inr (Or.inr (Or.inr (Or.inr (Or.inr (Or.inr (Or.inr (Or.inr (Or.inr (Or.inl ⟨rfl, rfl⟩))))))))))))
  by_cases h13 : v = 672503392
  · subst h13; exact Or.inr (Or.inr (Or.inr (Or.inr (Or.inr (Or.inr (Or.inr (Or.inr (Or.inr (Or.inr (Or.inr (Or.inr (Or.inr (Or.inl ⟨rfl, rfl⟩)))))))))))))
  by_cases h14 : v = 202964992
  · subst h14; exact Or.inr (Or.inr (Or.inr (Or.inr (Or.inr (Or.inr (Or.inr (Or.inr (Or.inr (Or.inr (Or.inr (Or.inr (Or.inr (Or.inr (Or.inl ⟨rfl, rfl⟩))))))))))))))
  by_cases h15 : v = 620462080
  · subst h15; exact Or.inr (Or.inr (Or.inr (Or.inr (Or.inr (Or.inr (Or.inr (Or.inr (Or.inr (Or.inr (Or.inr (Or.inr (Or.inr (Or.inr (Or.inr (Or.inl ⟨rfl, rfl⟩)))))))))))))))
  by_cases h16 : v = 659011763
  · subst h16; exact Or.inr (Or.inr (Or.inr (Or.inr (Or.inr (Or.inr (Or.inr (Or.inr (Or.inr (Or.inr (Or.inr (Or.inr (Or.inr (Or.inr (Or.inr (Or.inr (Or.inl ⟨rfl, rfl⟩))))))))))))))))
  by_cases h17 : v = 524555859
  · subst h17; exact Or.inr (Or.inr (Or.inr (Or.inr (Or.inr (Or.inr (Or.inr (Or.inr (Or.inr (Or.inr (Or.inr (Or.inr (Or.inr (Or.inr (Or.inr (Or.inr (Or.inr (Or.inl ⟨rfl, rfl⟩)))))))))))))))))
  by_cases h18 : v = 550273024
  · subst h18; exact Or.inr (Or.inr (Or.inr (Or.inr (Or.inr (Or.inr (Or.inr (Or.inr (Or.inr (Or.inr (Or.inr (Or.inr (Or.inr (Or.inr (Or.inr (Or.inr (Or.inr (Or.inr (Or.inl ⟨rfl, rfl⟩))))))))))))))))))
  refine Or.inr (Or.inr (Or.inr (Or.inr (Or.inr (Or.inr (Or.inr (Or.inr (Or.inr (Or.inr (Or.inr (Or.inr (Or.inr (Or.inr (Or.inr (Or.inr (Or.inr (Or.inr (Or.inr (⟨?_, h0, h1, h2, h3, h4, h5, h6, h7, h8, h9, h10, h11, h12, h13, h14, h15, h16, h17, h18⟩)))))))))))))))))))
  unfold kyF
  rw [if_neg h0, if_neg h1, if_neg h2, if_neg h3, if_neg h4, if_neg h5, if_neg h6, if_neg h7, if_neg h8, if_neg h9, if_neg h10, if_neg h11, if_neg h12, if_neg h13, if_neg h14, if_neg h15, if_neg h16, if_neg h17, if_neg h18]
theorem kyF_lo {v : Int} : -1 ≤ kyF v ∧ kyF v ≤ 18 := by
  rcases ky_all (v := v) with ⟨e, h2⟩ | ⟨e, h2⟩ | ⟨e, h2⟩ | ⟨e, h2⟩ | ⟨e, h2⟩ | ⟨e, h2⟩ | ⟨e, h2⟩ | ⟨e, h2⟩ | ⟨e, h2⟩ | ⟨e, h2⟩ | ⟨e, h2⟩ | ⟨e, h2⟩ | ⟨e, h2⟩ | ⟨e, h2⟩ | ⟨e, h2⟩ | ⟨e, h2⟩ | ⟨e, h2⟩ | ⟨e, h2⟩ | ⟨e, h2⟩ | ⟨e, h2⟩ <;> (rw [e]; decide)
theorem ky_0 {v : Int} : kyF v = 0 ↔ v = 82888832 := by
  constructor
  · intro h
    rcases ky_all (v := v) with ⟨e, h2⟩ | ⟨e, h2⟩ | ⟨e, h2⟩ | ⟨e, h2⟩ | ⟨e, h2⟩ | ⟨e, h2⟩ | ⟨e, h2⟩ | ⟨e, h2⟩ | ⟨e, h2⟩ | ⟨e, h2⟩ | ⟨e, h2⟩ | ⟨e, h2⟩ | ⟨e, h2⟩ | ⟨e, h2⟩ | ⟨e, h2⟩ | ⟨e, h2⟩ | ⟨e, h2⟩ | ⟨e, h2⟩ | ⟨e, h2⟩ | ⟨e, h2⟩ <;> first | exact h2 | exact absurd (e.symm.trans h) (by decide)
  · intro h
    subst h
    rfl
theorem ky_1 {v : Int} : kyF v = 1 ↔ v = 378998784 := by
  constructor
  · intro h
    rcases ky_all (v := v) with ⟨e, h2⟩ | ⟨e, h2⟩ | ⟨e, h2⟩ | ⟨e, h2⟩ | ⟨e, h2⟩ | ⟨e, h2⟩ | ⟨e, h2⟩ | ⟨e, h2⟩ | ⟨e, h2⟩ | ⟨e, h2⟩ | ⟨e, h2⟩ | ⟨e, h2⟩ | ⟨e, h2⟩ | ⟨e, h2⟩ | ⟨e, h2⟩ | ⟨e, h2⟩ | ⟨e, h2⟩ | ⟨e, h2⟩ | ⟨e, h2⟩ | ⟨e, h2⟩ <;> first | exact h2 | exact absurd (e.symm.trans h) (by decide)
  · intro h
    subst h
    rfl
theorem ky_2 {v : Int} : kyF v = 2 ↔ v = 659011744 := by
  constructor
  · intro h
    rcases ky_all (v := v) with ⟨e, h2⟩ | ⟨e, h2⟩ | ⟨e, h2⟩ | ⟨e, h2⟩ | ⟨e, h2⟩ | ⟨e, h2⟩ | ⟨e, h2⟩ | ⟨e, h2⟩ | ⟨e, h2⟩ | ⟨e, h2⟩ | ⟨e, h2⟩ | ⟨e, h2⟩ | ⟨e, h2⟩ | ⟨e, h2⟩ | ⟨e, h2⟩ | ⟨e, h2⟩ | ⟨e, h2⟩ | ⟨e, h2⟩ | ⟨e, h2⟩ | ⟨e, h2⟩ <;> first | exact h2 | exact absurd (e.symm.trans h) (by decide)
  · intro h
    subst h
    rfl
theorem ky_3 {v : Int} : kyF v = 3 ↔ v = 404455424 := by
  constructor
  · intro h
    rcases ky_all (v := v) with ⟨e, h2⟩ | ⟨e, h2⟩ | ⟨e, h2⟩ | ⟨e, h2⟩ | ⟨e, h2⟩ | ⟨e, h2⟩ | ⟨e, h2⟩ | ⟨e, h2⟩ | ⟨e, h2⟩ | ⟨e, h2⟩ | ⟨e, h2⟩ | ⟨e, h2⟩ | ⟨e, h2⟩ | ⟨e, h2⟩ | ⟨e, h2⟩ | ⟨e, h2⟩ | ⟨e, h2⟩ | ⟨e, h2⟩ | ⟨e, h2⟩ | ⟨e, h2⟩ <;> first | exact h2 | exact absurd (e.symm.trans h) (by decide)
  · intro h
    subst h
    rfl
theorem ky_4 {v : Int} : kyF v = 4 ↔ v = 553242624 := by
  constructor
  · intro h
    rcases ky_all (v := v) with ⟨e, h2⟩ | ⟨e, h2⟩ | ⟨e, h2⟩ | ⟨e, h2⟩ | ⟨e, h2⟩ | ⟨e, h2⟩ | ⟨e, h2⟩ | ⟨e, h2⟩ | ⟨e, h2⟩ | ⟨e, h2⟩ | ⟨e, h2⟩ | ⟨e, h2⟩ | ⟨e, h2⟩ | ⟨e, h2⟩ | ⟨e, h2⟩ | ⟨e, h2⟩ | ⟨e, h2⟩ | ⟨e, h2⟩ | ⟨e, h2⟩ | ⟨e, h2⟩ <;> first | exact h2 | exact absurd (e.symm.trans h) (by decide)
  · intro h
    subst h
    rfl
theorem ky_5 {v : Int} : kyF v = 5 ↔ v = 136104960 := by
  constructor
  · intro h
    rcases ky_all (v := v) with ⟨e, h2⟩ | ⟨e, h2⟩ | ⟨e, h2⟩ | ⟨e, h2⟩ | ⟨e, h2⟩ | ⟨e, h2⟩ | ⟨e, h2⟩ | ⟨e, h2⟩ | ⟨e, h2⟩ | ⟨e, h2⟩ | ⟨e, h2⟩ | ⟨e, h2⟩ | ⟨e, h2⟩ | ⟨e, h2⟩ | ⟨e, h2⟩ | ⟨e, h2⟩ | ⟨e, h2⟩ | ⟨e, h2⟩ | ⟨e, h2⟩ | ⟨e, h2⟩ <;> first | exact h2 | exact absurd (e.symm.trans h) (by decide)
  · intro h
    subst h
    rfl
theorem ky_6 {v : Int} : kyF v = 6 ↔ v = 404362240 := by
  constructor
  · intro h
    rcases ky_all (v := v) with ⟨e, h2⟩ | ⟨e, h2⟩ | ⟨e, h2⟩ | ⟨e, h2⟩ | ⟨e, h2⟩ | ⟨e, h2⟩ | ⟨e, h2⟩ | ⟨e, h2⟩ | ⟨e, h2⟩ | ⟨e, h2⟩ | ⟨e, h2⟩ | ⟨e, h2⟩ | ⟨e, h2⟩ | ⟨e, h2⟩ | ⟨e, h2⟩ | ⟨e, h2⟩ | ⟨e, h2⟩ | ⟨e, h2⟩ | ⟨e, h2⟩ | ⟨e, h2⟩ <;> first | exact h2 | exact absurd (e.symm.trans h) (by decide)
  · intro h
    subst h
    rfl
theorem ky_7 {v : Int} : kyF v = 7 ↔ v = 407945824 := by
  constructor
  · intro h
    rcases ky_all (v := v) with ⟨e, h2⟩ | ⟨e, h2⟩ | ⟨e, h2⟩ | ⟨e, h2⟩ | ⟨e, h2⟩ | ⟨e, h2⟩ | ⟨e, h2⟩ | ⟨e, h2⟩ | ⟨e, h2⟩ | ⟨e, h2⟩ | ⟨e, h2⟩ | ⟨e, h2⟩ | ⟨e, h2⟩ | ⟨e, h2⟩ | ⟨e, h2⟩ | ⟨e, h2⟩ | ⟨e, h2⟩ | ⟨e, h2⟩ | ⟨e, h2⟩ | ⟨e, h2⟩ <;> first | exact h2 | exact absurd (e.symm.trans h) (by decide)
  · intro h
    subst h
    rfl
theorem ky_8 {v : Int} : kyF v = 8 ↔ v = 626478080 := by
  constructor
  · intro h
    rcases ky_all (v := v) with ⟨e, h2⟩ | ⟨e, h2⟩ | ⟨e, h2⟩ | ⟨e, h2⟩ | ⟨e, h2⟩ | ⟨e, h2⟩ | ⟨e, h2⟩ | ⟨e, h2⟩ | ⟨e, h2⟩ | ⟨e, h2⟩ | ⟨e, h2⟩ | ⟨e, h2⟩ | ⟨e, h2⟩ | ⟨e, h2⟩ | ⟨e, h2⟩ | ⟨e, h2⟩ | ⟨e, h2⟩ | ⟨e, h2⟩ | ⟨e, h2⟩ | ⟨e, h2⟩ <;> first | exact h2 | exact absurd (e.symm.trans h) (by decide)
  · intro h
    subst h
    rfl
theorem ky_9 {v : Int} : kyF v = 9 ↔ v = 379001856 := by
  constructor
  · intro h
    rcases ky_all (v := v) with ⟨e, h2⟩ | ⟨e, h2⟩ | ⟨e, h2⟩ | ⟨e, h2⟩ | ⟨e, h2⟩ | ⟨e, h2⟩ | ⟨e, h2⟩ | ⟨e, h2⟩ | ⟨e, h2⟩ | ⟨e, h2⟩ | ⟨e, h2⟩ | ⟨e, h2⟩ | ⟨e, h2⟩ | ⟨e, h2⟩ | ⟨e, h2⟩ | ⟨e, h2⟩ | ⟨e, h2⟩ | ⟨e, h2⟩ | ⟨e, h2⟩ | ⟨e, h2⟩ <;> first | exact h2 | exact absurd (e.symm.trans h) (by decide)
  · intro h
    subst h
    rfl
theorem ky_10 {v : Int} : kyF v = 10 ↔ v = 48365568 := by
  constructor
  · intro h
    rcases ky_all (v := v) with ⟨e, h2⟩ | ⟨e, h2⟩ | ⟨e, h2⟩ | ⟨e, h2⟩ | ⟨e, h2⟩ | ⟨e, h2⟩ | ⟨e, h2⟩ | ⟨e, h2⟩ | ⟨e, h2⟩ | ⟨e, h2⟩ | ⟨e, h2⟩ | ⟨e, h2⟩ | ⟨e, h2⟩ | ⟨e, h2⟩ | ⟨e, h2⟩ | ⟨e, h2⟩ | ⟨e, h2⟩ | ⟨e, h2⟩ | ⟨e, h2⟩ | ⟨e, h2⟩ <;> first | exact h2 | exact absurd (e.symm.trans h) (by decide)
  · intro h
    subst h
    rfl
theorem ky_11 {v : Int} : kyF v = 11 ↔ v = 522190848 := by
  constructor
  · intro h
    rcases ky_all (v := v) with ⟨e, h2⟩ | ⟨e, h2⟩ | ⟨e, h2⟩ | ⟨e, h2⟩ | ⟨e, h2⟩ | ⟨e, h2⟩ | ⟨e, h2⟩ | ⟨e, h2⟩ | ⟨e, h2⟩ | ⟨e, h2⟩ | ⟨e, h2⟩ | ⟨e, h2⟩ | ⟨e, h2⟩ | ⟨e, h2⟩ | ⟨e, h2⟩ | ⟨e, h2⟩ | ⟨e, h2⟩ | ⟨e, h2⟩ | ⟨e, h2⟩ | ⟨e, h2⟩ <;> first | exact h2 | exact absurd (e.symm.trans h) (by decide)
  · intro h
    subst h
    rfl
theorem ky_12 {v : Int} : kyF v = 12 ↔ v = 486146048 := by
  constructor
  · intro h
    rcases ky_all (v := v) with ⟨e, h2⟩ | ⟨e, h2⟩ | ⟨e, h2⟩ | ⟨e, h2⟩ | ⟨e, h2⟩ | ⟨e, h2⟩ | ⟨e, h2⟩ | ⟨e, h2⟩ | ⟨e, h2⟩ | ⟨e, h2⟩ | ⟨e, h2⟩ | ⟨e, h2⟩ | ⟨e, h2⟩ | ⟨e, h2⟩ | ⟨e, h2⟩ | ⟨e, h2⟩ | ⟨e, h2⟩ | ⟨e, h2⟩ | ⟨e, h2⟩ | ⟨e, h2⟩ <;> first | exact h2 | exact absurd (e.symm.trans h) (by decide)
  · intro h
    subst h
    rfl
theorem ky_13 {v : Int} : kyF v = 13 ↔ v = 672503392 := by
  constructor
  · intro h
    rcases ky_all (v := v) with ⟨e, h2⟩ | ⟨e, h2⟩ | ⟨e, h2⟩ | ⟨e, h2⟩ | ⟨e, h2⟩ | ⟨e, h2⟩ | ⟨e, h2⟩ | ⟨e, h2⟩ | ⟨e, h2⟩ | ⟨e, h2⟩ | ⟨e, h2⟩ | ⟨e, h2⟩ | ⟨e, h2⟩ | ⟨e, h2⟩ | ⟨e, h2⟩ | ⟨e, h2⟩ | ⟨e, h2⟩ | ⟨e, h2⟩ | ⟨e, h2⟩ | ⟨e, h2⟩ <;> first | exact h2 | exact absurd (e.symm.trans h) (by decide)
  · intro h
    subst h
    rfl
theorem ky_14 {v : Int} : kyF v = 14 ↔ v = 202964992 := by
  constructor
  · intro h
    rcases ky_all (v := v) with ⟨e, h2⟩ | ⟨e, h2⟩ | ⟨e, h2⟩ | ⟨e, h2⟩ | ⟨e, h2⟩ | ⟨e, h2⟩ | ⟨e, h2⟩ | ⟨e, h2⟩ | ⟨e, h2⟩ | ⟨e, h2⟩ | ⟨e, h2⟩ | ⟨e, h2⟩ | ⟨e, h2⟩ | ⟨e, h2⟩ | ⟨e, h2⟩ | ⟨e, h2⟩ | ⟨e, h2⟩ | ⟨e, h2⟩ | ⟨e, h2⟩ | ⟨e, h2⟩ <;> first | exact h2 | exact absurd (e.symm.trans h) (by decide)
  · intro h
    subst h
    rfl
theorem ky_15 {v : Int} : kyF v = 15 ↔ v = 620462080 := by
  constructor
  · intro h
    rcases ky_all (v := v) with ⟨e, h2⟩ | ⟨e, h2⟩ | ⟨e, h2⟩ | ⟨e, h2⟩ | ⟨e, h2⟩ | ⟨e, h2⟩ | ⟨e, h2⟩ | ⟨e, h2⟩ | ⟨e, h2⟩ | ⟨e, h2⟩ | ⟨e, h2⟩ | ⟨e, h2⟩ | ⟨e, h2⟩ | ⟨e, h2⟩ | ⟨e, h2⟩ | ⟨e, h2⟩ | ⟨e, h2⟩ | ⟨e, h2⟩ | ⟨e, h2⟩ | ⟨e, h2⟩ <;> first | exact h2 | exact absurd (e.symm.trans h) (by decide)
  · intro h
    subst h
    rfl
theorem ky_16 {v : Int} : kyF v = 16 ↔ v = 659011763 := by
  constructor
  · intro h
    rcases ky_all (v := v) with ⟨e, h2⟩ | ⟨e, h2⟩ | ⟨e, h2⟩ | ⟨e, h2⟩ | ⟨e, h2⟩ | ⟨e, h2⟩ | ⟨e, h2⟩ | ⟨e, h2⟩ | ⟨e, h2⟩ | ⟨e, h2⟩ | ⟨e, h2⟩ | ⟨e, h2⟩ | ⟨e, h2⟩ | ⟨e, h2⟩ | ⟨e, h2⟩ | ⟨e, h2⟩ | ⟨e, h2⟩ | ⟨e, h2⟩ | ⟨e, h2⟩ | ⟨e, h2⟩ <;> first | exact h2 | exact absurd (e.symm.trans h) (by decide)
  · intro h
    subst h
    rfl
theorem ky_17 {v : Int} : kyF v = 17 ↔ v = 524555859 := by
  constructor
  · intro h
    rcases ky_all (v := v) with ⟨e, h2⟩ | ⟨e, h2⟩ | ⟨e, h2⟩ | ⟨e, h2⟩ | ⟨e, h2⟩ | ⟨e, h2⟩ | ⟨e, h2⟩ | ⟨e, h2⟩ | ⟨e, h2⟩ | ⟨e, h2⟩ | ⟨e, h2⟩ | ⟨e, h2⟩ | ⟨e, h2⟩ | ⟨e, h2⟩ | ⟨e, h2⟩ | ⟨e, h2⟩ | ⟨e, h2⟩ | ⟨e, h2⟩ | ⟨e, h2⟩ | ⟨e, h2⟩ <;> first | exact h2 | exact absurd (e.symm.trans h) (by decide)
  · intro h
    subst h
    rfl
theorem ky_18 {v : Int} : kyF v = 18 ↔ v = 550273024 := by
  constructor
  · intro h
    rcases ky_all (v := v) with ⟨e, h2⟩ | ⟨e, h2⟩ | ⟨e, h2⟩ | ⟨e, h2⟩ | ⟨e, h2⟩ | ⟨e, h2⟩ | ⟨e, h2⟩ | ⟨e, h2⟩ | ⟨e, h2⟩ | ⟨e, h2⟩ | ⟨e, h2⟩ | ⟨e, h2⟩ | ⟨e, h2⟩ | ⟨e, h2⟩ | ⟨e, h2⟩ | ⟨e, h2⟩ | ⟨e, h2⟩ | ⟨e, h2⟩ | ⟨e, h2⟩ | ⟨e, h2⟩ <;> first | exact h2 | exact absurd (e.symm.trans h) (by decide)
  · intro h
    subst h
    rfl
theorem ky_no {v : Int} : kyF v < 0 ↔ ¬ (v = 82888832 ∨ v = 378998784 ∨ v = 659011744 ∨ v = 404455424 ∨ v = 553242624 ∨ v = 136104960 ∨ v = 404362240 ∨ v = 407945824 ∨ v = 626478080 ∨ v = 379001856 ∨ v = 48365568 ∨ v = 522190848 ∨ v = 486146048 ∨ v = 672503392 ∨ v = 202964992 ∨ v = 620462080 ∨ v = 659011763 ∨ v = 524555859 ∨ v = 550273024) := by
  constructor
  · intro h hh
    rcases hh with rfl | rfl | rfl | rfl | rfl | rfl | rfl | rfl | rfl | rfl | rfl | rfl | rfl | rfl | rfl | rfl | rfl | rfl | rfl <;> exact absurd h (by decide)
  · intro h
    unfold kyF
    rw [if_neg (fun e => h (Or.inl e)), if_neg (fun e => h (Or.inr (Or.inl e))), if_neg (fun e => h (Or.inr (Or.inr (Or.inl e)))), if_neg (fun e => h (Or.inr (Or.inr (Or.inr (Or.inl e))))), if_neg (fun e => h (Or.inr (Or.inr (Or.inr (Or.inr (Or.inl e)))))), if_neg (fun e => h (Or.inr (Or.inr (Or.inr (Or.inr (Or.inr (Or.inl e))))))), if_neg (fun e => h (Or.inr (Or.inr (Or.inr (Or.inr (Or.inr (Or.inr (Or.inl e)))))))), if_neg (fun e => h (Or.inr (Or.inr (Or.inr (Or.inr (Or.inr (Or.inr (Or.inr (Or.inl e))))))))), if_neg (fun e => h (Or.inr (Or.inr (Or.inr (Or.inr (Or.inr (Or.inr (Or.inr (Or.inr (Or.inl e)))))))))), if_neg (fun e => h (Or.inr (Or.inr (Or.inr (Or.inr (Or.inr (Or.inr (Or.inr (Or.inr (Or.inr (Or.inl e))))))))))), if_neg (fun e => h (Or.inr (Or.inr (Or.inr (Or.inr (Or.inr (Or.inr (Or.inr (Or.inr (Or.inr (Or.inr (Or.inl e)))))))))))), if_neg (fun e => h (Or.inr (Or.inr (Or.inr (Or.inr (Or.inr (Or.inr (Or.inr (Or.inr (Or.inr (Or.inr (Or.inr (Or.inl e))))))))))))), if_neg (fun e => h (Or.inr (Or.inr (Or.inr (Or.inr (Or.inr (Or.inr (Or.inr (Or.inr (Or.inr (Or.inr (Or.inr (Or.inr (Or.inl e)))))))))))))), if_neg (fun e => h (Or.inr (Or.inr (Or.inr (Or.inr (Or.inr (Or.inr (Or.inr (Or.inr (Or.inr (Or.inr (Or.inr (Or.inr (Or.inr (Or.inl e))))))))))))))), if_neg (fun e => h (Or.inr (Or.inr (Or.inr (Or.inr (Or.inr (Or.inr (Or.inr (Or.inr (Or.inr (Or.inr (Or.inr (Or.inr (Or.inr (Or.inr (Or.inl e)))))))))))))))), if_neg (fun e => h (Or.inr (Or.inr (Or.inr (Or.inr (Or.inr (Or.inr (Or.inr (Or.inr (Or.inr (Or.inr (Or.inr (Or.inr (Or.inr (Or.inr (Or.inr (Or.inl e))))))))))))))))), if_neg (fun e => h (Or.inr (Or.inr (Or.inr (Or.inr (Or.inr (Or.inr (Or.inr (Or.inr (Or.inr (Or.inr (Or.inr (Or.inr (Or.inr (Or.inr (Or.inr (Or.inr (Or.inl e)))))))))))))))))), if_neg (fun e => h (Or.inr (Or.inr (Or.inr (Or.inr (Or.inr (Or.inr (Or.inr (Or.inr (Or.inr (Or.inr (Or.inr (Or.inr (Or.inr (Or.inr (Or.inr (Or.inr (Or.inr (Or.inl e))))))))))))))))))), if_neg (fun e => h (Or.inr (Or.inr (Or.inr (Or.inr (Or.inr (Or.inr (Or.inr (Or.inr (Or.inr (Or.inr (Or.inr (Or.inr (Or.inr (Or.inr (Or.inr (Or.inr (Or.inr (Or.inr (e))))))))))))))))))))]
    decide
/-- what the two tokens have to do with each other: sort and value of the class, kind and number of the reference -/
def TR (so va ki wh : Int) : Prop :=
  (so = 0 ∧ ki = 0) ∨ (so = 1 ∧ 0 ≤ kyF va ∧ ki = 1 ∧ wh = kyF va) ∨ (so = 1 ∧ kyF va < 0 ∧ ki = 2 ∧ wh = va) ∨ (so = 2 ∧ ki = 3 ∧ (0 ≤ wh ∧ wh ≤ 99999) ∧ 0 ≤ va ∧ va ≤ 100000 ∧ ((wh ≤ 9999 ∧ va = wh) ∨ (9999 < wh ∧ 9999 < va))) ∨
  (so = 3 ∧ ki = 4 ∧ wh = va ∧ (va = 40 ∨ va = 41 ∨ va = 42 ∨ va = 43 ∨ va = 45 ∨ va = 47 ∨ va = 59)) ∨
  (so = 3 ∧ ki = 5 ∧ ((va = 60 ∧ wh = 0) ∨ (va = 256 ∧ wh = 1) ∨ (va = 61 ∧ wh = 2) ∨ (va = 257 ∧ wh = 3) ∨ (va = 258 ∧ wh = 4) ∨ (va = 62 ∧ wh = 5))) ∨
  (so = 4 ∧ (ki = 6 ∨ (ki = 4 ∧ wh = 37)))
theorem tk_rel {T : Int → Int} {s p wh : Int} (hp : 0 ≤ p ∧ p ≤ s) : TR (tkS T s p) (tkV T s p) (rkK T s p) (rkW T s p wh) := by
  unfold tkS tkV rkK rkW TR
  by_cases c : skE T s p < s
  · simp only [if_pos c]
    generalize skE T s p = q at *
    by_cases c1 : 97 ≤ T q ∧ T q ≤ 122
    · simp only [if_pos c1]
      by_cases c2 : wdE T s q - q ≤ 6
      · simp only [if_pos c2]
        generalize wdV T q (wdE T s q - q).toNat = v
        by_cases c3 : 0 ≤ kyF v
        · simp only [if_pos c3]; exact Or.inr (Or.inl ⟨by trivial, c3, by trivial, by trivial⟩)
        · simp only [if_neg c3]; exact Or.inr (Or.inr (Or.inl ⟨by trivial, by omega, by trivial, by trivial⟩))
      · simp only [if_neg c2]; exact Or.inr (Or.inr (Or.inr (Or.inr (Or.inr (Or.inr ⟨by trivial, Or.inl (by trivial)⟩)))))
    · simp only [if_neg c1]
      by_cases c2 : 48 ≤ T q ∧ T q ≤ 57
      · simp only [if_pos c2]
        have hin : ∀ i : Int, q ≤ i → i < q + ((nuE T s q - q).toNat : Int) → 48 ≤ T i ∧ T i ≤ 57 := fun i g0 g1 => rnE_in (B := fun k => 48 ≤ T k ∧ T k ≤ 57) (s := s) (s - q).toNat q i g0 (by show i < nuE T s q; omega)
        have h1 := rnV_nu (nuE T s q - q).toNat hin
        have h2 := nuV_le (nuE T s q - q).toNat hin
        generalize nuV T q (nuE T s q - q).toNat = v1 at *
        generalize rnV T q (nuE T s q - q).toNat = v2 at *
        exact Or.inr (Or.inr (Or.inr (Or.inl ⟨by trivial, by trivial, h1.1, h2.1, h2.2, by omega⟩)))
      · simp only [if_neg c2]
        generalize bhT T s q = y
        generalize T q = x at *
        unfold sgS sgV sqK sqW
        by_cases x0 : x = 60
        · subst x0
          simp only [Int.reduceEq, true_or, or_true, if_true, true_and, if_false, false_and, false_or, or_false]
          by_cases y1 : y = 61
          · subst y1; simp
          · by_cases y2 : y = 62
            · subst y2; simp
            · simp only [if_neg y1, if_neg y2]; simp
        · by_cases x1 : x = 62
          · subst x1
            by_cases y1 : y = 61
            · subst y1; simp
            · simp [y1]
          · simp only [x0, x1, false_and, if_false, false_or, or_false]
            by_cases x2 : x = 61
            · subst x2; simp
            · simp only [x2, if_false, false_or, or_false]
              by_cases x3 : x = 40 ∨ x = 41 ∨ x = 42 ∨ x = 43 ∨ x = 45 ∨ x = 47 ∨ x = 59
              · rw [if_pos x3, if_pos (by omega)]
                exact Or.inr (Or.inr (Or.inr (Or.inr (Or.inl ⟨by trivial, by trivial, by trivial, x3⟩))))
              · rw [if_neg x3]
                by_cases x4 : x = 37
                · rw [if_pos (by omega)]
                  exact Or.inr (Or.inr (Or.inr (Or.inr (Or.inr (Or.inr ⟨by trivial, Or.inr ⟨by trivial, x4⟩⟩)))))
                · rw [if_neg (by omega)]
                  exact Or.inr (Or.inr (Or.inr (Or.inr (Or.inr (Or.inr ⟨by trivial, Or.inl (by trivial)⟩)))))
  · simp only [if_neg c]; exact Or.inl ⟨by trivial, by trivial⟩
theorem tk_next {T : Int → Int} {s p : Int} (hp : 0 ≤ p ∧ p ≤ s) : (p ≤ skE T s p ∧ skE T s p ≤ tkN T s p ∧ tkN T s p ≤ s) ∧ (tkS T s p ≠ 0 → skE T s p < tkN T s p) ∧ (tkS T s p = 0 → skE T s p = s) := by
  have hk : p ≤ skE T s p ∧ skE T s p ≤ s := rnE_le _ p hp.2
  unfold tkN tkS
  by_cases c : skE T s p < s
  · simp only [if_pos c]
    generalize skE T s p = q at *
    have hw : q ≤ wdE T s q ∧ wdE T s q ≤ s := rnE_le _ q hk.2
    have hn : q ≤ nuE T s q ∧ nuE T s q ≤ s := rnE_le _ q hk.2
    by_cases c1 : 97 ≤ T q ∧ T q ≤ 122
    · simp only [if_pos c1]
      have h1 : q < wdE T s q := by
        have := rnE_out (B := fun k => 97 ≤ T k ∧ T k ≤ 122) (s := s) (s - q).toNat q (by omega)
        by_cases e : wdE T s q = q
        · exact absurd c1 (by rw [show rnE (fun k => 97 ≤ T k ∧ T k ≤ 122) s (s - q).toNat q = q from e] at this; exact this c)
        · omega
      split <;> omega
    · simp only [if_neg c1]
      by_cases c2 : 48 ≤ T q ∧ T q ≤ 57
      · simp only [if_pos c2]
        have h1 : q < nuE T s q := by
          have := rnE_out (B := fun k => 48 ≤ T k ∧ T k ≤ 57) (s := s) (s - q).toNat q (by omega)
          by_cases e : nuE T s q = q
          · exact absurd c2 (by rw [show rnE (fun k => 48 ≤ T k ∧ T k ≤ 57) s (s - q).toNat q = q from e] at this; exact this c)
          · omega
        omega
      · simp only [if_neg c2]
        have h3 : (q + 1 < s → sgN (T q) (bhT T s q) = 1 ∨ sgN (T q) (bhT T s q) = 2) ∧ (¬ (q + 1 < s) → sgN (T q) (bhT T s q) = 1) := by
          unfold sgN bhT
          refine ⟨fun h => ?_, fun h => ?_⟩
          · split <;> omega
          · rw [if_neg h, if_neg (by omega)]
        have h4 : sgS (T q) = 3 ∨ sgS (T q) = 4 := by
          unfold sgS; split <;> omega
        omega
  · simp only [if_neg c]
    omega
