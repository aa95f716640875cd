/-- a point is reached by a step, in the reference's words and in the class's -/
theorem pt_to {r : mRu} {fr p n to : Int} (hw : 2 ≤ r 6 0) (hto : 0 ≤ to ∧ to < r 6 0 * r 6 1) : (inB r (ptX r fr p n) (ptY r fr p n) ∧ ptT r fr p n = to) ↔ (n * r 712 p = to % r 6 0 - fr % r 6 0 ∧ n * r 713 p = to / r 6 0 - fr / r 6 0) := by
  have hx : ptX r fr p n = fr % r 6 0 + n * r 712 p := by unfold ptX; first | rfl | omega | (rw [Int.mul_comm])
  have hy : ptY r fr p n = fr / r 6 0 + n * r 713 p := by unfold ptY; first | rfl | omega | (rw [Int.mul_comm])
  have ht : ptT r fr p n = ptY r fr p n * r 6 0 + ptX r fr p n := by unfold ptT; first | rfl | omega | (rw [Int.mul_comm])
  rw [ht]
  generalize ptX r fr p n = x at *
  generalize ptY r fr p n = y at *
  constructor
  · rintro ⟨⟨x0, x1, y0, y1⟩, e⟩
    have m1 : to % r 6 0 = x := by
      rw [← e, Int.add_comm, Int.add_mul_emod_self_right]
      exact Int.emod_eq_of_lt x0 x1
    have d1 : to / r 6 0 = y := by
      rw [← e, Int.add_comm, Int.add_mul_ediv_right _ _ (by omega), Int.ediv_eq_zero_of_lt x0 x1]
      omega
    omega
  · rintro ⟨e1, e2⟩
    have ex : x = to % r 6 0 := by omega
    have ey : y = to / r 6 0 := by omega
    have m0 := Int.emod_nonneg to (b := r 6 0) (by omega)
    have m1 := Int.emod_lt_of_pos to (b := r 6 0) (by omega)
    have d0 : 0 ≤ to / r 6 0 := Int.ediv_nonneg hto.1 (by omega)
    have d1 : to / r 6 0 < r 6 1 := Int.ediv_lt_of_lt_mul (by omega) (by rw [Int.mul_comm]; exact hto.2)
    have hs : to / r 6 0 * r 6 0 + to % r 6 0 = to := Int.mul_comm (r 6 0) (to / r 6 0) ▸ Int.mul_ediv_add_emod to (r 6 0)
    rw [ex, ey]
    exact ⟨⟨m0, m1, d0, d1⟩, hs⟩
/-- the law of a move: the first step and the first far that reach it -/
noncomputable def lfV (r : mRu) (B : mBd) (m fr to p : Int) : Nat → Int → Int → Int
  | 0, _, e => e
  | q + 1, far, e => cI (far * r 712 p = to % r 6 0 - fr % r 6 0 ∧ far * r 713 p = to / r 6 0 - fr / r 6 0) (lwV r (fcF r B m fr to far)) (lfV r B m fr to p q (far + 1) e)
noncomputable def lsV (r : mRu) (B : mBd) (m fr to : Int) : Nat → Int → Int
  | 0, _ => -9223372036854775808
  | c + 1, s => lfV r B m fr to (B fr % 4 * 8 + s) (tmF r (B fr % 4)) 1 (lsV r B m fr to c (s + 1))
noncomputable def lmV (r : mRu) (B : mBd) (m fr to : Int) : Int := cI (((0 ≤ fr ∧ fr < r 6 0 * r 6 1) ∧ (0 ≤ to ∧ to < r 6 0 * r 6 1)) ∧ B fr / 4 = m % 2) (lsV r B m fr to (r 711 (B fr % 4)).toNat 0) (-9223372036854775808)
