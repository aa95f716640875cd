theorem mm_min32 : Int32.minValue.toInt = -2147483648 := by decide
theorem mm_max32 : Int32.maxValue.toInt = 2147483647 := by decide
theorem mm_min64 : Int64.minValue.toInt = -9223372036854775808 := by decide
theorem mm_max64 : Int64.maxValue.toInt = 9223372036854775807 := by decide
theorem mm_to32 {x : Int} (hx : mmR32 x) : (Int32.ofInt x).toInt = x := Int32.toInt_ofInt_of_le (by unfold mmR32 at hx; omega) (by unfold mmR32 at hx; omega)
theorem mm_to64 {x : Int} (hx : mmR64 x) : (Int64.ofInt x).toInt = x := Int64.toInt_ofInt_of_le (by unfold mmR64 at hx; omega) (by unfold mmR64 at hx; omega)
theorem mm_r32 (x : Int32) : mmR32 x.toInt := by
  have h1 := x.minValue_le_toInt
  have h2 := x.toInt_le
  rw [mm_min32] at h1
  rw [mm_max32] at h2
  exact ⟨h1, h2⟩
theorem mm_r64 (x : Int64) : mmR64 x.toInt := by
  have h1 := x.minValue_le_toInt
  have h2 := x.toInt_le
  rw [mm_min64] at h1
  rw [mm_max64] at h2
  exact ⟨h1, h2⟩
theorem mm_le {x y : Int} (hx : mmR32 x) (hy : mmR32 y) : Int32.ofInt x ≤ Int32.ofInt y ↔ x ≤ y := by rw [Int32.le_iff_toInt_le, mm_to32 hx, mm_to32 hy]
theorem mm_lt {x y : Int} (hx : mmR32 x) (hy : mmR32 y) : Int32.ofInt x < Int32.ofInt y ↔ x < y := by rw [Int32.lt_iff_toInt_lt, mm_to32 hx, mm_to32 hy]
theorem mm_eq {x y : Int} (hx : mmR32 x) (hy : mmR32 y) : Int32.ofInt x = Int32.ofInt y ↔ x = y := by rw [← Int32.toInt_inj, mm_to32 hx, mm_to32 hy]
theorem mm_leL {x y : Int} (hx : mmR64 x) (hy : mmR64 y) : Int64.ofInt x ≤ Int64.ofInt y ↔ x ≤ y := by rw [Int64.le_iff_toInt_le, mm_to64 hx, mm_to64 hy]
theorem mm_ltL {x y : Int} (hx : mmR64 x) (hy : mmR64 y) : Int64.ofInt x < Int64.ofInt y ↔ x < y := by rw [Int64.lt_iff_toInt_lt, mm_to64 hx, mm_to64 hy]
theorem mm_eqL {x y : Int} (hx : mmR64 x) (hy : mmR64 y) : Int64.ofInt x = Int64.ofInt y ↔ x = y := by rw [← Int64.toInt_inj, mm_to64 hx, mm_to64 hy]
theorem mm_z32 : (0 : Int32) = Int32.ofInt 0 := rfl
theorem mmR32_0 : mmR32 0 := ⟨by omega, by omega⟩
theorem mmR64_0 : mmR64 0 := ⟨by omega, by omega⟩
theorem mmR32.to64 {x : Int} (h : mmR32 x) : mmR64 x := by unfold mmR32 at h; unfold mmR64; omega
theorem mm_div {x y : Int} (hx : mmR32 x) (hy : mmR32 y) (h0 : 0 ≤ x) : Int32.ofInt x / Int32.ofInt y = Int32.ofInt (x / y) := by
  rw [← Int.tdiv_eq_ediv_of_nonneg h0, Int32.ofInt_tdiv (by rw [mm_min32]; exact hx.1) (by rw [mm_max32]; exact hx.2) (by rw [mm_min32]; exact hy.1) (by rw [mm_max32]; exact hy.2)]
theorem mm_rem {x y : Int} (hx : mmR32 x) (hy : mmR32 y) (h0 : 0 ≤ x) : Int32.ofInt x - Int32.ofInt x / Int32.ofInt y * Int32.ofInt y = Int32.ofInt (x % y) := by
  rw [mm_div hx hy h0, ← Int32.ofInt_mul, ← Int32.ofInt_sub, Int.emod_def, Int.mul_comm]
theorem mm_div_r {x y : Int} (hx : mmR32 x) (h0 : 0 ≤ x) (hy : 0 < y) : mmR32 (x / y) := by
  have h1 := Int.ediv_nonneg h0 (Int.le_of_lt hy)
  have h2 := Int.ediv_le_self y h0
  unfold mmR32 at *
  omega
theorem mm_rem_r {x y : Int} (hx : mmR32 x) (h0 : 0 ≤ x) (hy : 0 < y) : mmR32 (x % y) := by
  have h1 := Int.emod_nonneg x (by omega : y ≠ 0)
  have h2 : x % y ≤ x := by
    have := Int.emod_add_mul_ediv x y
    have h3 := Int.mul_nonneg (Int.le_of_lt hy) (Int.ediv_nonneg h0 (Int.le_of_lt hy))
    omega
  unfold mmR32 at *
  omega
theorem mm_divL {x y : Int} (hx : mmR64 x) (hy : mmR64 y) : Int64.ofInt x / Int64.ofInt y = Int64.ofInt (x.tdiv y) := by
  rw [Int64.ofInt_tdiv (by rw [mm_min64]; exact hx.1) (by rw [mm_max64]; exact hx.2) (by rw [mm_min64]; exact hy.1) (by rw [mm_max64]; exact hy.2)]
theorem mm_remL {x y : Int} (hx : mmR64 x) (hy : mmR64 y) (h0 : 0 ≤ x) : Int64.ofInt x - Int64.ofInt x / Int64.ofInt y * Int64.ofInt y = Int64.ofInt (x % y) := by
  rw [mm_divL hx hy, ← Int64.ofInt_mul, ← Int64.ofInt_sub, Int.tdiv_eq_ediv_of_nonneg h0, Int.emod_def, Int.mul_comm]
theorem mm_remL_r {x y : Int} (hx : mmR64 x) (h0 : 0 ≤ x) (hy : 0 < y) : mmR64 (x % y) := by
  have h1 := Int.emod_nonneg x (by omega : y ≠ 0)
  have h2 : x % y ≤ x := by
    have := Int.emod_add_mul_ediv x y
    have h3 := Int.mul_nonneg (Int.le_of_lt hy) (Int.ediv_nonneg h0 (Int.le_of_lt hy))
    omega
  unfold mmR64 at *
  omega
theorem mm_in {i : Int} {n : Nat} (hi : mmR32 i) (h0 : 0 ≤ i) (h1 : i < n) : vp_in (Int32.ofInt i) n := by
  rw [vp_in_iff, mm_to32 hi]; exact ⟨h0, h1⟩
theorem mm_cl {i : Int} (hi : mmR32 i) : (Int32.ofInt i).toNatClampNeg = i.toNat := Int32.toNatClampNeg_ofInt_of_le (by unfold mmR32 at hi; omega) (by unfold mmR32 at hi; omega)
theorem mm_i2l {x : Int} (hx : mmR32 x) : (Int32.ofInt x).toInt64 = Int64.ofInt x := Int32.toInt64_ofInt (by rw [mm_min32]; exact hx.1) (by rw [mm_max32]; exact hx.2)
theorem mm_l2i {x : Int} (hx : mmR32 x) : (Int64.ofInt x).toInt32 = Int32.ofInt x := by
  rw [← mm_i2l hx]; exact lg_l2i_i2l _
theorem mm_cmp {x y : Int} (hx : mmR64 x) (hy : mmR64 y) : lg_cmp (Int64.ofInt x) (Int64.ofInt y) = Int32.ofInt (mmCmp x y) := by
  unfold lg_cmp mmCmp
  by_cases h : y < x
  · rw [if_pos h, if_pos ((mm_ltL hy hx).mpr h)]; rfl
  · rw [if_neg h, if_neg (fun q => h ((mm_ltL hy hx).mp q))]
    by_cases h2 : x = y
    · rw [if_pos h2, if_pos (by rw [h2])]; rfl
    · rw [if_neg h2, if_neg (fun q => h2 ((mm_eqL hx hy).mp q))]; rfl
theorem mm_cmp_r {x y : Int} : mmR32 (mmCmp x y) := by
  unfold mmCmp mmR32
  split
  · omega
  · split <;> omega
