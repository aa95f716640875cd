theorem mm_bv {x : Int} (h0 : 0 ≤ x) (h1 : x < 2147483648) : (Int32.ofInt x).toBitVec.toNat = x.toNat := by
  rw [Int32.toBitVec_ofInt, BitVec.toNat_ofInt]
  omega
theorem mm_bvAll {x : Int} : ((Int32.ofInt x).toBitVec.toNat : Int) = x % 4294967296 := by
  rw [Int32.toBitVec_ofInt, BitVec.toNat_ofInt]
  omega
theorem mm_nI {n : Nat} (h : n < 2 ^ 31) : (nI n).toInt = n := nI_toInt h
theorem mmAnd_mask {x m : Int} (k : Nat) (hk : k ≤ 30) (hm : (Int32.ofInt m).toBitVec.toNat = 2 ^ k - 1) : mmAnd x m = x % (2 ^ k : Nat) := by
  unfold mmAnd
  rw [pk_and _ k hm]
  have hp : 2 ^ k ≤ 2 ^ 30 := Nat.pow_le_pow_right (by omega) hk
  have hpos : 0 < 2 ^ k := Nat.pow_pos (by omega)
  have h1 : (Int32.ofInt x).toBitVec.toNat % 2 ^ k < 2 ^ k := Nat.mod_lt _ hpos
  rw [mm_nI (by omega), Int.natCast_emod, mm_bvAll]
  rw [Int.emod_emod_of_dvd]
  have : (2 ^ k : Nat) ∣ 4294967296 := by
    rw [show (4294967296 : Nat) = 2 ^ 32 by decide]
    exact Nat.pow_dvd_pow 2 (by omega)
  exact Int.ofNat_dvd.mpr this
theorem mmAnd_1 {x : Int} : mmAnd x 1 = x % 2 := mmAnd_mask 1 (by omega) (by decide)
theorem mmAnd_3 {x : Int} : mmAnd x 3 = x % 4 := mmAnd_mask 2 (by omega) (by decide)
theorem mmAnd_63 {x : Int} : mmAnd x 63 = x % 64 := mmAnd_mask 6 (by omega) (by decide)
theorem mmAnd_255 {x : Int} : mmAnd x 255 = x % 256 := mmAnd_mask 8 (by omega) (by decide)
theorem mmShr_div {x y : Int} (hx : mmR32 x) (k : Nat) (hy : y = k) (hk : k < 32) : mmShr x y = x / (2 ^ k : Nat) := by
  subst hy
  unfold mmShr
  rw [pk_shr _ _ k, mm_to32 hx, Int.shiftRight_eq_div_pow]
  · have key : ∀ k : Nat, k < 32 → ((Int32.ofInt (k : Int) &&& 31).toBitVec.smod 32).toNat = k := by decide
    exact key k hk
theorem mmShr_2 {x : Int} (hx : mmR32 x) : mmShr x 2 = x / 4 := mmShr_div hx 2 rfl (by omega)
theorem mmShr_6 {x : Int} (hx : mmR32 x) : mmShr x 6 = x / 64 := mmShr_div hx 6 rfl (by omega)
theorem mmShl_mul {x y : Int} (h0 : 0 ≤ x) (k : Nat) (hy : y = k) (hk : k < 31) (h1 : x * (2 ^ k : Nat) < 2147483648) : mmShl x y = x * (2 ^ k : Nat) := by
  subst hy
  unfold mmShl
  obtain ⟨n, rfl⟩ := Int.eq_ofNat_of_zero_le h0
  have h2 : n * 2 ^ k < 2147483648 := by
    rw [← Int.natCast_mul] at h1
    exact Int.ofNat_lt.mp h1
  have e : Int32.ofInt (n : Int) = nI n := Int32.ofInt_eq_ofNat
  have key : ∀ k : Nat, k < 32 → ((Int32.ofInt (k : Int) &&& 31).toBitVec.smod 32).toNat = k := by decide
  rw [e, pk_shlN _ k (key k (by omega)) (by omega), mm_nI (by omega)]
  rw [Int.natCast_mul]
theorem mmOr_nat {x y : Int} (hx : 0 ≤ x) (hx1 : x < 2147483648) (hy : 0 ≤ y) (hy1 : y < 2147483648) : mmOr x y = ((x.toNat ||| y.toNat : Nat) : Int) := by
  unfold mmOr
  have h1 : x.toNat ||| y.toNat < 2 ^ 31 := Nat.or_lt_two_pow (by omega) (by omega)
  have e : (Int32.ofInt x ||| Int32.ofInt y) = nI (x.toNat ||| y.toNat) := by
    apply Int32.toBitVec.inj
    apply BitVec.eq_of_toNat_eq
    rw [Int32.toBitVec_or, BitVec.toNat_or, mm_bv hx hx1, mm_bv hy hy1, pk_tn (by omega)]
  rw [e, mm_nI h1]
theorem mmAnd_nat {x y : Int} (hx : 0 ≤ x) (hx1 : x < 2147483648) (hy : 0 ≤ y) (hy1 : y < 2147483648) : mmAnd x y = ((x.toNat &&& y.toNat : Nat) : Int) := by
  unfold mmAnd
  have h1 : x.toNat &&& y.toNat < 2 ^ 31 := Nat.lt_of_le_of_lt Nat.and_le_left (by omega)
  have e : (Int32.ofInt x &&& Int32.ofInt y) = nI (x.toNat &&& y.toNat) := by
    apply Int32.toBitVec.inj
    apply BitVec.eq_of_toNat_eq
    rw [Int32.toBitVec_and, BitVec.toNat_and, mm_bv hx hx1, mm_bv hy hy1, pk_tn (by omega)]
  rw [e, mm_nI h1]
theorem mmAnd_r {x y : Int} : mmR32 (mmAnd x y) := mm_r32 _
theorem mmOr_r {x y : Int} : mmR32 (mmOr x y) := mm_r32 _
theorem mmShr_r {x y : Int} : mmR32 (mmShr x y) := mm_r32 _
theorem mmShl_r {x y : Int} : mmR32 (mmShl x y) := mm_r32 _
