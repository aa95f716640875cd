/-- the words in a row, each with a blank behind it -/
def wdL : List Int := [98, 111, 97, 114, 100, 32, 107, 105, 110, 100, 32, 115, 116, 111, 110, 101, 32, 108, 97, 119, 32, 112, 111, 115, 116, 32, 100, 97, 121, 115, 32, 108, 97, 116, 101, 32, 108, 101, 97, 112, 115, 32, 114, 117, 110, 115, 32, 107, 105, 110, 103, 32, 97, 110, 100, 32, 111, 114, 32, 110, 111, 116, 32, 116, 97, 107, 101, 115, 32, 102, 97, 114, 32, 114, 111, 119, 32, 115, 116, 111, 110, 101, 115, 32, 111, 116, 104, 101, 114, 115, 32, 112, 108, 121, 32]
/-- the number of the word with this value -/
def kyF (v : Int) : Int := if v = 82888832 then 0 else if v = 378998784 then 1 else if v = 659011744 then 2 else if v = 404455424 then 3 else if v = 553242624 then 4 else if v = 136104960 then 5 else if v = 404362240 then 6 else if v = 407945824 then 7 else if v = 626478080 then 8 else if v = 379001856 then 9 else if v = 48365568 then 10 else if v = 522190848 then 11 else if v = 486146048 then 12 else if v = 672503392 then 13 else if v = 202964992 then 14 else if v = 620462080 then 15 else if v = 659011763 then 16 else if v = 524555859 then 17 else if v = 550273024 then 18 else -1
def cW (T : Int → Int) (a : Int) (n i : Nat) : Int := if i < n then T (a + i) - 96 else 0
theorem cW_b {T : Int → Int} {a : Int} {n : Nat} (hl : ∀ i : Int, a ≤ i → i < a + n → 97 ≤ T i ∧ T i ≤ 122) (i : Nat) : (i < n → 1 ≤ cW T a n i ∧ cW T a n i ≤ 26 ∧ T (a + i) = cW T a n i + 96) ∧ (¬ i < n → cW T a n i = 0) := by
  unfold cW
  refine ⟨fun h => ?_, fun h => if_neg h⟩
  have := hl (a + i) (by omega) (by omega)
  rw [if_pos h]
  omega
theorem wd7 {T : Int → Int} {a : Int} : ∀ n : Nat, n ≤ 6 → hN T a n * pwH n = cW T a n 0 * 33554432 + cW T a n 1 * 1048576 + cW T a n 2 * 32768 + cW T a n 3 * 1024 + cW T a n 4 * 32 + cW T a n 5
  | 0, _ => by
    simp only [hN, pwH, cW, Nat.reduceLT, if_true, if_false]
    omega
  | 1, _ => by
    simp only [hN, pwH, cW, Nat.reduceLT, if_true, if_false]
    omega
  | 2, _ => by
    simp only [hN, pwH, cW, Nat.reduceLT, if_true, if_false]
    omega
  | 3, _ => by
    simp only [hN, pwH, cW, Nat.reduceLT, if_true, if_false]
    omega
  | 4, _ => by
    simp only [hN, pwH, cW, Nat.reduceLT, if_true, if_false]
    omega
  | 5, _ => by
    simp only [hN, pwH, cW, Nat.reduceLT, if_true, if_false]
    omega
  | 6, _ => by
    simp only [hN, pwH, cW, Nat.reduceLT, if_true, if_false]
    omega
  | n + 7, h => by omega
theorem wm_0 {T W : Int → Int} {a : Int} {n : Nat} (hn : n ≤ 6) (hl : ∀ i : Int, a ≤ i → i < a + n → 97 ≤ T i ∧ T i ≤ 122) (hW : ∀ k : Nat, k < 95 → W k = wdL.getD k 0) : ((5 : Int) = n ∧ ∀ i : Int, 0 ≤ i → i < 5 → W (0 + i) = T (a + i)) ↔ hN T a n * pwH n = 82888832 := by
  rw [wd7 n hn]
  have b0 := cW_b hl 0
  have b1 := cW_b hl 1
  have b2 := cW_b hl 2
  have b3 := cW_b hl 3
  have b4 := cW_b hl 4
  have b5 := cW_b hl 5
  have w0 : W 0 = 98 := hW 0 (by decide)
  have w1 : W 1 = 111 := hW 1 (by decide)
  have w2 : W 2 = 97 := hW 2 (by decide)
  have w3 : W 3 = 114 := hW 3 (by decide)
  have w4 : W 4 = 100 := hW 4 (by decide)
  simp only [Int.cast_ofNat_Int, Int.add_zero] at b0 b1 b2 b3 b4 b5
  constructor
  · intro ⟨h1, h2⟩
    have e0 := h2 0 (by omega) (by omega)
    have e1 := h2 1 (by omega) (by omega)
    have e2 := h2 2 (by omega) (by omega)
    have e3 := h2 3 (by omega) (by omega)
    have e4 := h2 4 (by omega) (by omega)
    simp only [Int.add_zero, Int.reduceAdd, w0, w1, w2, w3, w4] at e0 e1 e2 e3 e4
    omega
  · intro h
    have hd : cW T a n 0 = 2 ∧ cW T a n 1 = 15 ∧ cW T a n 2 = 1 ∧ cW T a n 3 = 18 ∧ cW T a n 4 = 4 ∧ cW T a n 5 = 0 := by omega
    refine ⟨by omega, fun i h0 h1 => ?_⟩
    have hi : i = 0 ∨ i = 1 ∨ i = 2 ∨ i = 3 ∨ i = 4 := by omega
    rcases hi with rfl | rfl | rfl | rfl | rfl
    · simp only [Int.add_zero, Int.reduceAdd, w0]; omega
    · simp only [Int.add_zero, Int.reduceAdd, w1]; omega
    · simp only [Int.add_zero, Int.reduceAdd, w2]; omega
    · simp only [Int.add_zero, Int.reduceAdd, w3]; omega
    · simp only [Int.add_zero, Int.reduceAdd, w4]; omega
theorem wm_1 {T W : Int → Int} {a : Int} {n : Nat} (hn : n ≤ 6) (hl : ∀ i : Int, a ≤ i → i < a + n → 97 ≤ T i ∧ T i ≤ 122) (hW : ∀ k : Nat, k < 95 → W k = wdL.getD k 0) : ((4 : Int) = n ∧ ∀ i : Int, 0 ≤ i → i < 4 → W (6 + i) = T (a + i)) ↔ hN T a n * pwH n = 378998784 := by
  rw [wd7 n hn]
  have b0 := cW_b hl 0
  have b1 := cW_b hl 1
  have b2 := cW_b hl 2
  have b3 := cW_b hl 3
  have b4 := cW_b hl 4
  have b5 := cW_b hl 5
  have w0 : W 6 = 107 := hW 6 (by decide)
  have w1 : W 7 = 105 := hW 7 (by decide)
  have w2 : W 8 = 110 := hW 8 (by decide)
  have w3 : W 9 = 100 := hW 9 (by decide)
  simp only [Int.cast_ofNat_Int, Int.add_zero] at b0 b1 b2 b3 b4 b5
  constructor
  · intro ⟨h1, h2⟩
    have e0 := h2 0 (by omega) (by omega)
    have e1 := h2 1 (by omega) (by omega)
    have e2 := h2 2 (by omega) (by omega)
    have e3 := h2 3 (by omega) (by omega)
    simp only [Int.add_zero, Int.reduceAdd, w0, w1, w2, w3] at e0 e1 e2 e3
    omega
  · intro h
    have hd : cW T a n 0 = 11 ∧ cW T a n 1 = 9 ∧ cW T a n 2 = 14 ∧ cW T a n 3 = 4 ∧ cW T a n 4 = 0 ∧ cW T a n 5 = 0 := by omega
    refine ⟨by omega, fun i h0 h1 => ?_⟩
    have hi : i = 0 ∨ i = 1 ∨ i = 2 ∨ i = 3 := by omega
    rcases hi with rfl | rfl | rfl | rfl
    · simp only [Int.add_zero, Int.reduceAdd, w0]; omega
    · simp only [Int.add_zero, Int.reduceAdd, w1]; omega
    · simp only [Int.add_zero, Int.reduceAdd, w2]; omega
    · simp only [Int.add_zero, Int.reduceAdd, w3]; omega
theorem wm_2 {T W : Int → Int} {a : Int} {n : Nat} (hn : n ≤ 6) (hl : ∀ i : Int, a ≤ i → i < a + n → 97 ≤ T i ∧ T i ≤ 122) (hW : ∀ k : Nat, k < 95 → W k = wdL.getD k 0) : ((5 : Int) = n ∧ ∀ i : Int, 0 ≤ i → i < 5 → W (11 + i) = T (a + i)) ↔ hN T a n * pwH n = 659011744 := by
  rw [wd7 n hn]
  have b0 := cW_b hl 0
  have b1 := cW_b hl 1
  have b2 := cW_b hl 2
  have b3 := cW_b hl 3
  have b4 := cW_b hl 4
  have b5 := cW_b hl 5
  have w0 : W 11 = 115 := hW 11 (by decide)
  have w1 : W 12 = 116 := hW 12 (by decide)
  have w2 : W 13 = 111 := hW 13 (by decide)
  have w3 : W 14 = 110 := hW 14 (by decide)
  have w4 : W 15 = 101 := hW 15 (by decide)
  simp only [Int.cast_ofNat_Int, Int.add_zero] at b0 b1 b2 b3 b4 b5
  constructor
  · intro ⟨h1, h2⟩
    have e0 := h2 0 (by omega) (by omega)
    have e1 := h2 1 (by omega) (by omega)
    have e2 := h2 2 (by omega) (by omega)
    have e3 := h2 3 (by omega) (by omega)
    have e4 := h2 4 (by omega) (by omega)
    simp only [Int.add_zero, Int.reduceAdd, w0, w1, w2, w3, w4] at e0 e1 e2 e3 e4
    omega
  · intro h
    have hd : cW T a n 0 = 19 ∧ cW T a n 1 = 20 ∧ cW T a n 2 = 15 ∧ cW T a n 3 = 14 ∧ cW T a n 4 = 5 ∧ cW T a n 5 = 0 := by omega
    refine ⟨by omega, fun i h0 h1 => ?_⟩
    have hi : i = 0 ∨ i = 1 ∨ i = 2 ∨ i = 3 ∨ i = 4 := by omega
    rcases hi with rfl | rfl | rfl | rfl | rfl
    · simp only [Int.add_zero, Int.reduceAdd, w0]; omega
    · simp only [Int.add_zero, Int.reduceAdd, w1]; omega
    · simp only [Int.add_zero, Int.reduceAdd, w2]; omega
    · simp only [Int.add_zero, Int.reduceAdd, w3]; omega
    · simp only [Int.add_zero, Int.reduceAdd, w4]; omega
theorem wm_3 {T W : Int → Int} {a : Int} {n : Nat} (hn : n ≤ 6) (hl : ∀ i : Int, a ≤ i → i < a + n → 97 ≤ T i ∧ T i ≤ 122) (hW : ∀ k : Nat, k < 95 → W k = wdL.getD k 0) : ((3 : Int) = n ∧ ∀ i : Int, 0 ≤ i → i < 3 → W (17 + i) = T (a + i)) ↔ hN T a n * pwH n = 404455424 := by
  rw [wd7 n hn]
  have b0 := cW_b hl 0
  have b1 := cW_b hl 1
  have b2 := cW_b hl 2
  have b3 := cW_b hl 3
  have b4 := cW_b hl 4
  have b5 := cW_b hl 5
  have w0 : W 17 = 108 := hW 17 (by decide)
  have w1 : W 18 = 97 := hW 18 (by decide)
  have w2 : W 19 = 119 := hW 19 (by decide)
  simp only [Int.cast_ofNat_Int, Int.add_zero] at b0 b1 b2 b3 b4 b5
  constructor
  · intro ⟨h1, h2⟩
    have e0 := h2 0 (by omega) (by omega)
    have e1 := h2 1 (by omega) (by omega)
    have e2 := h2 2 (by omega) (by omega)
    simp only [Int.add_zero, Int.reduceAdd, w0, w1, w2] at e0 e1 e2
    omega
  · intro h
    have hd : cW T a n 0 = 12 ∧ cW T a n 1 = 1 ∧ cW T a n 2 = 23 ∧ cW T a n 3 = 0 ∧ cW T a n 4 = 0 ∧ cW T a n 5 = 0 := by omega
    refine ⟨by omega, fun i h0 h1 => ?_⟩
    have hi : i = 0 ∨ i = 1 ∨ i = 2 := by omega
    rcases hi with rfl | rfl | rfl
    · simp only [Int.add_zero, Int.reduceAdd, w0]; omega
    · simp only [Int.add_zero, Int.reduceAdd, w1]; omega
    · simp only [Int.add_zero, Int.reduceAdd, w2]; omega
theorem wm_4 {T W : Int → Int} {a : Int} {n : Nat} (hn : n ≤ 6) (hl : ∀ i : Int, a ≤ i → i < a + n → 97 ≤ T i ∧ T i ≤ 122) (hW : ∀ k : Nat, k < 95 → W k = wdL.getD k 0) : ((4 : Int) = n ∧ ∀ i : Int, 0 ≤ i → i < 4 → W (21 + i) = T (a + i)) ↔ hN T a n * pwH n = 553242624 := by
  rw [wd7 n hn]
  have b0 := cW_b hl 0
  have b1 := cW_b hl 1
  have b2 := cW_b hl 2
  have b3 := cW_b hl 3
  have b4 := cW_b hl 4
  have b5 := cW_b hl 5
  have w0 : W 21 = 112 := hW 21 (by decide)
  have w1 : W 22 = 111 := hW 22 (by decide)
  have w2 : W 23 = 115 := hW 23 (by decide)
  have w3 : W 24 = 116 := hW 24 (by decide)
  simp only [Int.cast_ofNat_Int, Int.add_zero] at b0 b1 b2 b3 b4 b5
  constructor
  · intro ⟨h1, h2⟩
    have e0 := h2 0 (by omega) (by omega)
    have e1 := h2 1 (by omega) (by omega)
    have e2 := h2 2 (by omega) (by omega)
    have e3 := h2 3 (by omega) (by omega)
    simp only [Int.add_zero, Int.reduceAdd, w0, w1, w2, w3] at e0 e1 e2 e3
    omega
  · intro h
    have hd : cW T a n 0 = 16 ∧ cW T a n 1 = 15 ∧ cW T a n 2 = 19 ∧ cW T a n 3 = 20 ∧ cW T a n 4 = 0 ∧ cW T a n 5 = 0 := by omega
    refine ⟨by omega, fun i h0 h1 => ?_⟩
    have hi : i = 0 ∨ i = 1 ∨ i = 2 ∨ i = 3 := by omega
    rcases hi with rfl | rfl | rfl | rfl
    · simp only [Int.add_zero, Int.reduceAdd, w0]; omega
    · simp only [Int.add_zero, Int.reduceAdd, w1]; omega
    · simp only [Int.add_zero, Int.reduceAdd, w2]; omega
    · simp only [Int.add_zero, Int.reduceAdd, w3]; omega
theorem wm_5 {T W : Int → Int} {a : Int} {n : Nat} (hn : n ≤ 6) (hl : ∀ i : Int, a ≤ i → i < a + n → 97 ≤ T i ∧ T i ≤ 122) (hW : ∀ k : Nat, k < 95 → W k = wdL.getD k 0) : ((4 : Int) = n ∧ ∀ i : Int, 0 ≤ i → i < 4 → W (26 + i) = T (a + i)) ↔ hN T a n * pwH n = 136104960 := by
  rw [wd7 n hn]
  have b0 := cW_b hl 0
  have b1 := cW_b hl 1
  have b2 := cW_b hl 2
  have b3 := cW_b hl 3
  have b4 := cW_b hl 4
  have b5 := cW_b hl 5
  have w0 : W 26 = 100 := hW 26 (by decide)
  have w1 : W 27 = 97 := hW 27 (by decide)
  have w2 : W 28 = 121 := hW 28 (by decide)
  have w3 : W 29 = 115 := hW 29 (by decide)
  simp only [Int.cast_ofNat_Int, Int.add_zero] at b0 b1 b2 b3 b4 b5
  constructor
  · intro ⟨h1, h2⟩
    have e0 := h2 0 (by omega) (by omega)
    have e1 := h2 1 (by omega) (by omega)
    have e2 := h2 2 (by omega) (by omega)
    have e3 := h2 3 (by omega) (by omega)
    simp only [Int.add_zero, Int.reduceAdd, w0, w1, w2, w3] at e0 e1 e2 e3
    omega
  · intro h
    have hd : cW T a n 0 = 4 ∧ cW T a n 1 = 1 ∧ cW T a n 2 = 25 ∧ cW T a n 3 = 19 ∧ cW T a n 4 = 0 ∧ cW T a n 5 = 0 := by omega
    refine ⟨by omega, fun i h0 h1 => ?_⟩
    have hi : i = 0 ∨ i = 1 ∨ i = 2 ∨ i = 3 := by omega
    rcases hi with rfl | rfl | rfl | rfl
    · simp only [Int.add_zero, Int.reduceAdd, w0]; omega
    · simp only [Int.add_zero, Int.reduceAdd, w1]; omega
    · simp only [Int.add_zero, Int.reduceAdd, w2]; omega
    · simp only [Int.add_zero, Int.reduceAdd, w3]; omega
theorem wm_6 {T W : Int → Int} {a : Int} {n : Nat} (hn : n ≤ 6) (hl : ∀ i : Int, a ≤ i → i < a + n → 97 ≤ T i ∧ T i ≤ 122) (hW : ∀ k : Nat, k < 95 → W k = wdL.getD k 0) : ((4 : Int) = n ∧ ∀ i : Int, 0 ≤ i → i < 4 → W (31 + i) = T (a + i)) ↔ hN T a n * pwH n = 404362240 := by
  rw [wd7 n hn]
  have b0 := cW_b hl 0
  have b1 := cW_b hl 1
  have b2 := cW_b hl 2
  have b3 := cW_b hl 3
  have b4 := cW_b hl 4
  have b5 := cW_b hl 5
  have w0 : W 31 = 108 := hW 31 (by decide)
  have w1 : W 32 = 97 := hW 32 (by decide)
  have w2 : W 33 = 116 := hW 33 (by decide)
  have w3 : W 34 = 101 := hW 34 (by decide)
  simp only [Int.cast_ofNat_Int, Int.add_zero] at b0 b1 b2 b3 b4 b5
  constructor
  · intro ⟨h1, h2⟩
    have e0 := h2 0 (by omega) (by omega)
    have e1 := h2 1 (by omega) (by omega)
    have e2 := h2 2 (by omega) (by omega)
    have e3 := h2 3 (by omega) (by omega)
    simp only [Int.add_zero, Int.reduceAdd, w0, w1, w2, w3] at e0 e1 e2 e3
    omega
  · intro h
    have hd : cW T a n 0 = 12 ∧ cW T a n 1 = 1 ∧ cW T a n 2 = 20 ∧ cW T a n 3 = 5 ∧ cW T a n 4 = 0 ∧ cW T a n 5 = 0 := by omega
    refine ⟨by omega, fun i h0 h1 => ?_⟩
    have hi : i = 0 ∨ i = 1 ∨ i = 2 ∨ i = 3 := by omega
    rcases hi with rfl | rfl | rfl | rfl
    · simp only [Int.add_zero, Int.reduceAdd, w0]; omega
    · simp only [Int.add_zero, Int.reduceAdd, w1]; omega
    · simp only [Int.add_zero, Int.reduceAdd, w2]; omega
    · simp only [Int.add_zero, Int.reduceAdd, w3]; omega
theorem wm_7 {T W : Int → Int} {a : Int} {n : Nat} (hn : n ≤ 6) (hl : ∀ i : Int, a ≤ i → i < a + n → 97 ≤ T i ∧ T i ≤ 122) (hW : ∀ k : Nat, k < 95 → W k = wdL.getD k 0) : ((5 : Int) = n ∧ ∀ i : Int, 0 ≤ i → i < 5 → W (36 + i) = T (a + i)) ↔ hN T a n * pwH n = 407945824 := by
  rw [wd7 n hn]
  have b0 := cW_b hl 0
  have b1 := cW_b hl 1
  have b2 := cW_b hl 2
  have b3 := cW_b hl 3
  have b4 := cW_b hl 4
  have b5 := cW_b hl 5
  have w0 : W 36 = 108 := hW 36 (by decide)
  have w1 : W 37 = 101 := hW 37 (by decide)
  have w2 : W 38 = 97 := hW 38 (by decide)
  have w3 : W 39 = 112 := hW 39 (by decide)
  have w4 : W 40 = 115 := hW 40 (by decide)
  simp only [Int.cast_ofNat_Int, Int.add_zero] at b0 b1 b2 b3 b4 b5
  constructor
  · intro ⟨h1, h2⟩
    have e0 := h2 0 (by omega) (by omega)
    have e1 := h2 1 (by omega) (by omega)
    have e2 := h2 2 (by omega) (by omega)
    have e3 := h2 3 (by omega) (by omega)
    have e4 := h2 4 (by omega) (by omega)
    simp only [Int.add_zero, Int.reduceAdd, w0, w1, w2, w3, w4] at e0 e1 e2 e3 e4
    omega
  · intro h
    have hd : cW T a n 0 = 12 ∧ cW T a n 1 = 5 ∧ cW T a n 2 = 1 ∧ cW T a n 3 = 16 ∧ cW T a n 4 = 19 ∧ cW T a n 5 = 0 := by omega
    refine ⟨by omega, fun i h0 h1 => ?_⟩
    have hi : i = 0 ∨ i = 1 ∨ i = 2 ∨ i = 3 ∨ i = 4 := by omega
    rcases hi with rfl | rfl | rfl | rfl | rfl
    · simp only [Int.add_zero, Int.reduceAdd, w0]; omega
    · simp only [Int.add_zero, Int.reduceAdd, w1]; omega
    · simp only [Int.add_zero, Int.reduceAdd, w2]; omega
    · simp only [Int.add_zero, Int.reduceAdd, w3]; omega
    · simp only [Int.add_zero, Int.reduceAdd, w4]; omega
theorem wm_8 {T W : Int → Int} {a : Int} {n : Nat} (hn : n ≤ 6) (hl : ∀ i : Int, a ≤ i → i < a + n → 97 ≤ T i ∧ T i ≤ 122) (hW : ∀ k : Nat, k < 95 → W k = wdL.getD k 0) : ((4 : Int) = n ∧ ∀ i : Int, 0 ≤ i → i < 4 → W (42 + i) = T (a + i)) ↔ hN T a n * pwH n = 626478080 := by
  rw [wd7 n hn]
  have b0 := cW_b hl 0
  have b1 := cW_b hl 1
  have b2 := cW_b hl 2
  have b3 := cW_b hl 3
  have b4 := cW_b hl 4
  have b5 := cW_b hl 5
  have w0 : W 42 = 114 := hW 42 (by decide)
  have w1 : W 43 = 117 := hW 43 (by decide)
  have w2 : W 44 = 110 := hW 44 (by decide)
  have w3 : W 45 = 115 := hW 45 (by decide)
  simp only [Int.cast_ofNat_Int, Int.add_zero] at b0 b1 b2 b3 b4 b5
  constructor
  · intro ⟨h1, h2⟩
    have e0 := h2 0 (by omega) (by omega)
    have e1 := h2 1 (by omega) (by omega)
    have e2 := h2 2 (by omega) (by omega)
    have e3 := h2 3 (by omega) (by omega)
    simp only [Int.add_zero, Int.reduceAdd, w0, w1, w2, w3] at e0 e1 e2 e3
    omega
  · intro h
    have hd : cW T a n 0 = 18 ∧ cW T a n 1 = 21 ∧ cW T a n 2 = 14 ∧ cW T a n 3 = 19 ∧ cW T a n 4 = 0 ∧ cW T a n 5 = 0 := by omega
    refine ⟨by omega, fun i h0 h1 => ?_⟩
    have hi : i = 0 ∨ i = 1 ∨ i = 2 ∨ i = 3 := by omega
    rcases hi with rfl | rfl | rfl | rfl
    · simp only [Int.add_zero, Int.reduceAdd, w0]; omega
    · simp only [Int.add_zero, Int.reduceAdd, w1]; omega
    · simp only [Int.add_zero, Int.reduceAdd, w2]; omega
    · simp only [Int.add_zero, Int.reduceAdd, w3]; omega
theorem wm_9 {T W : Int → Int} {a : Int} {n : Nat} (hn : n ≤ 6) (hl : ∀ i : Int, a ≤ i → i < a + n → 97 ≤ T i ∧ T i ≤ 122) (hW : ∀ k : Nat, k < 95 → W k = wdL.getD k 0) : ((4 : Int) = n ∧ ∀ i : Int, 0 ≤ i → i < 4 → W (47 + i) = T (a + i)) ↔ hN T a n * pwH n = 379001856 := by
  rw [wd7 n hn]
  have b0 := cW_b hl 0
  have b1 := cW_b hl 1
  have b2 := cW_b hl 2
  have b3 := cW_b hl 3
  have b4 := cW_b hl 4
  have b5 := cW_b hl 5
  have w0 : W 47 = 107 := hW 47 (by decide)
  have w1 : W 48 = 105 := hW 48 (by decide)
  have w2 : W 49 = 110 := hW 49 (by decide)
  have w3 : W 50 = 103 := hW 50 (by decide)
  simp only [Int.cast_ofNat_Int, Int.add_zero] at b0 b1 b2 b3 b4 b5
  constructor
  · intro ⟨h1, h2⟩
    have e0 := h2 0 (by omega) (by omega)
    have e1 := h2 1 (by omega) (by omega)
    have e2 := h2 2 (by omega) (by omega)
    have e3 := h2 3 (by omega) (by omega)
    simp only [Int.add_zero, Int.reduceAdd, w0, w1, w2, w3] at e0 e1 e2 e3
    omega
  · intro h
    have hd : cW T a n 0 = 11 ∧ cW T a n 1 = 9 ∧ cW T a n 2 = 14 ∧ cW T a n 3 = 7 ∧ cW T a n 4 = 0 ∧ cW T a n 5 = 0 := by omega
    refine ⟨by omega, fun i h0 h1 => ?_⟩
    have hi : i = 0 ∨ i = 1 ∨ i = 2 ∨ i = 3 := by omega
    rcases hi with rfl | rfl | rfl | rfl
    · simp only [Int.add_zero, Int.reduceAdd, w0]; omega
    · simp only [Int.add_zero, Int.reduceAdd, w1]; omega
    · simp only [Int.add_zero, Int.reduceAdd, w2]; omega
    · simp only [Int.add_zero, Int.reduceAdd, w3]; omega
theorem wm_10 {T W : Int → Int} {a : Int} {n : Nat} (hn : n ≤ 6) (hl : ∀ i : Int, a ≤ i → i < a + n → 97 ≤ T i ∧ T i ≤ 122) (hW : ∀ k : Nat, k < 95 → W k = wdL.getD k 0) : ((3 : Int) = n ∧ ∀ i : Int, 0 ≤ i → i < 3 → W (52 + i) = T (a + i)) ↔ hN T a n * pwH n = 48365568 := by
  rw [wd7 n hn]
  have b0 := cW_b hl 0
  have b1 := cW_b hl 1
  have b2 := cW_b hl 2
  have b3 := cW_b hl 3
  have b4 := cW_b hl 4
  have b5 := cW_b hl 5
  have w0 : W 52 = 97 := hW 52 (by decide)
  have w1 : W 53 = 110 := hW 53 (by decide)
  have w2 : W 54 = 100 := hW 54 (by decide)
  simp only [Int.cast_ofNat_Int, Int.add_zero] at b0 b1 b2 b3 b4 b5
  constructor
  · intro ⟨h1, h2⟩
    have e0 := h2 0 (by omega) (by omega)
    have e1 := h2 1 (by omega) (by omega)
    have e2 := h2 2 (by omega) (by omega)
    simp only [Int.add_zero, Int.reduceAdd, w0, w1, w2] at e0 e1 e2
    omega
  · intro h
    have hd : cW T a n 0 = 1 ∧ cW T a n 1 = 14 ∧ cW T a n 2 = 4 ∧ cW T a n 3 = 0 ∧ cW T a n 4 = 0 ∧ cW T a n 5 = 0 := by omega
    refine ⟨by omega, fun i h0 h1 => ?_⟩
    have hi : i = 0 ∨ i = 1 ∨ i = 2 := by omega
    rcases hi with rfl | rfl | rfl
    · simp only [Int.add_zero, Int.reduceAdd, w0]; omega
    · simp only [Int.add_zero, Int.reduceAdd, w1]; omega
    · simp only [Int.add_zero, Int.reduceAdd, w2]; omega
theorem wm_11 {T W : Int → Int} {a : Int} {n : Nat} (hn : n ≤ 6) (hl : ∀ i : Int, a ≤ i → i < a + n → 97 ≤ T i ∧ T i ≤ 122) (hW : ∀ k : Nat, k < 95 → W k = wdL.getD k 0) : ((2 : Int) = n ∧ ∀ i : Int, 0 ≤ i → i < 2 → W (56 + i) = T (a + i)) ↔ hN T a n * pwH n = 522190848 := by
  rw [wd7 n hn]
  have b0 := cW_b hl 0
  have b1 := cW_b hl 1
  have b2 := cW_b hl 2
  have b3 := cW_b hl 3
  have b4 := cW_b hl 4
  have b5 := cW_b hl 5
  have w0 : W 56 = 111 := hW 56 (by decide)
  have w1 : W 57 = 114 := hW 57 (by decide)
  simp only [Int.cast_ofNat_Int, Int.add_zero] at b0 b1 b2 b3 b4 b5
  constructor
  · intro ⟨h1, h2⟩
    have e0 := h2 0 (by omega) (by omega)
    have e1 := h2 1 (by omega) (by omega)
    simp only [Int.add_zero, Int.reduceAdd, w0, w1] at e0 e1
    omega
  · intro h
    have hd : cW T a n 0 = 15 ∧ cW T a n 1 = 18 ∧ cW T a n 2 = 0 ∧ cW T a n 3 = 0 ∧ cW T a n 4 = 0 ∧ cW T a n 5 = 0 := by omega
    refine ⟨by omega, fun i h0 h1 => ?_⟩
    have hi : i = 0 ∨ i = 1 := by omega
    rcases hi with rfl | rfl
    · simp only [Int.add_zero, Int.reduceAdd, w0]; omega
    · simp only [Int.add_zero, Int.reduceAdd, w1]; omega
theorem wm_12 {T W : Int → Int} {a : Int} {n : Nat} (hn : n ≤ 6) (hl : ∀ i : Int, a ≤ i → i < a + n → 97 ≤ T i ∧ T i ≤ 122) (hW : ∀ k : Nat, k < 95 → W k = wdL.getD k 0) : ((3 : Int) = n ∧ ∀ i : Int, 0 ≤ i → i < 3 → W (59 + i) = T (a + i)) ↔ hN T a n * pwH n = 486146048 := by
  rw [wd7 n hn]
  have b0 := cW_b hl 0
  have b1 := cW_b hl 1
  have b2 := cW_b hl 2
  have b3 := cW_b hl 3
  have b4 := cW_b hl 4
  have b5 := cW_b hl 5
  have w0 : W 59 = 110 := hW 59 (by decide)
  have w1 : W 60 = 111 := hW 60 (by decide)
  have w2 : W 61 = 116 := hW 61 (by decide)
  simp only [Int.cast_ofNat_Int, Int.add_zero] at b0 b1 b2 b3 b4 b5
  constructor
  · intro ⟨h1, h2⟩
    have e0 := h2 0 (by omega) (by omega)
    have e1 := h2 1 (by omega) (by omega)
    have e2 := h2 2 (by omega) (by omega)
    simp only [Int.add_zero, Int.reduceAdd, w0, w1, w2] at e0 e1 e2
    omega
  · intro h
    have hd : cW T a n 0 = 14 ∧ cW T a n 1 = 15 ∧ cW T a n 2 = 20 ∧ cW T a n 3 = 0 ∧ cW T a n 4 = 0 ∧ cW T a n 5 = 0 := by omega
    refine ⟨by omega, fun i h0 h1 => ?_⟩
    have hi : i = 0 ∨ i = 1 ∨ i = 2 := by omega
    rcases hi with rfl | rfl | rfl
    · simp only [Int.add_zero, Int.reduceAdd, w0]; omega
    · simp only [Int.add_zero, Int.reduceAdd, w1]; omega
    · simp only [Int.add_zero, Int.reduceAdd, w2]; omega
theorem wm_13 {T W : Int → Int} {a : Int} {n : Nat} (hn : n ≤ 6) (hl : ∀ i : Int, a ≤ i → i < a + n → 97 ≤ T i ∧ T i ≤ 122) (hW : ∀ k : Nat, k < 95 → W k = wdL.getD k 0) : ((5 : Int) = n ∧ ∀ i : Int, 0 ≤ i → i < 5 → W (63 + i) = T (a + i)) ↔ hN T a n * pwH n = 672503392 := by
  rw [wd7 n hn]
  have b0 := cW_b hl 0
  have b1 := cW_b hl 1
  have b2 := cW_b hl 2
  have b3 := cW_b hl 3
  have b4 := cW_b hl 4
  have b5 := cW_b hl 5
  have w0 : W 63 = 116 := hW 63 (by decide)
  have w1 : W 64 = 97 := hW 64 (by decide)
  have w2 : W 65 = 107 := hW 65 (by decide)
  have w3 : W 66 = 101 := hW 66 (by decide)
  have w4 : W 67 = 115 := hW 67 (by decide)
  simp only [Int.cast_ofNat_Int, Int.add_zero] at b0 b1 b2 b3 b4 b5
  constructor
  · intro ⟨h1, h2⟩
    have e0 := h2 0 (by omega) (by omega)
    have e1 := h2 1 (by omega) (by omega)
    have e2 := h2 2 (by omega) (by omega)
    have e3 := h2 3 (by omega) (by omega)
    have e4 := h2 4 (by omega) (by omega)
    simp only [Int.add_zero, Int.reduceAdd, w0, w1, w2, w3, w4] at e0 e1 e2 e3 e4
    omega
  · intro h
    have hd : cW T a n 0 = 20 ∧ cW T a n 1 = 1 ∧ cW T a n 2 = 11 ∧ cW T a n 3 = 5 ∧ cW T a n 4 = 19 ∧ cW T a n 5 = 0 := by omega
    refine ⟨by omega, fun i h0 h1 => ?_⟩
    have hi : i = 0 ∨ i = 1 ∨ i = 2 ∨ i = 3 ∨ i = 4 := by omega
    rcases hi with rfl | rfl | rfl | rfl | rfl
    · simp only [Int.add_zero, Int.reduceAdd, w0]; omega
    · simp only [Int.add_zero, Int.reduceAdd, w1]; omega
    · simp only [Int.add_zero, Int.reduceAdd, w2]; omega
    · simp only [Int.add_zero, Int.reduceAdd, w3]; omega
    · simp only [Int.add_zero, Int.reduceAdd, w4]; omega
theorem wm_14 {T W : Int → Int} {a : Int} {n : Nat} (hn : n ≤ 6) (hl : ∀ i : Int, a ≤ i → i < a + n → 97 ≤ T i ∧ T i ≤ 122) (hW : ∀ k : Nat, k < 95 → W k = wdL.getD k 0) : ((3 : Int) = n ∧ ∀ i : Int, 0 ≤ i → i < 3 → W (69 + i) = T (a + i)) ↔ hN T a n * pwH n = 202964992 := by
  rw [wd7 n hn]
  have b0 := cW_b hl 0
  have b1 := cW_b hl 1
  have b2 := cW_b hl 2
  have b3 := cW_b hl 3
  have b4 := cW_b hl 4
  have b5 := cW_b hl 5
  have w0 : W 69 = 102 := hW 69 (by decide)
  have w1 : W 70 = 97 := hW 70 (by decide)
  have w2 : W 71 = 114 := hW 71 (by decide)
  simp only [Int.cast_ofNat_Int, Int.add_zero] at b0 b1 b2 b3 b4 b5
  constructor
  · intro ⟨h1, h2⟩
    have e0 := h2 0 (by omega) (by omega)
    have e1 := h2 1 (by omega) (by omega)
    have e2 := h2 2 (by omega) (by omega)
    simp only [Int.add_zero, Int.reduceAdd, w0, w1, w2] at e0 e1 e2
    omega
  · intro h
    have hd : cW T a n 0 = 6 ∧ cW T a n 1 = 1 ∧ cW T a n 2 = 18 ∧ cW T a n 3 = 0 ∧ cW T a n 4 = 0 ∧ cW T a n 5 = 0 := by omega
    refine ⟨by omega, fun i h0 h1 => ?_⟩
    have hi : i = 0 ∨ i = 1 ∨ i = 2 := by omega
    rcases hi with rfl | rfl | rfl
    · simp only [Int.add_zero, Int.reduceAdd, w0]; omega
    · simp only [Int.add_zero, Int.reduceAdd, w1]; omega
    · simp only [Int.add_zero, Int.reduceAdd, w2]; omega
theorem wm_15 {T W : Int → Int} {a : Int} {n : Nat} (hn : n ≤ 6) (hl : ∀ i : Int, a ≤ i → i < a + n → 97 ≤ T i ∧ T i ≤ 122) (hW : ∀ k : Nat, k < 95 → W k = wdL.getD k 0) : ((3 : Int) = n ∧ ∀ i : Int, 0 ≤ i → i < 3 → W (73 + i) = T (a + i)) ↔ hN T a n * pwH n = 620462080 := by
  rw [wd7 n hn]
  have b0 := cW_b hl 0
  have b1 := cW_b hl 1
  have b2 := cW_b hl 2
  have b3 := cW_b hl 3
  have b4 := cW_b hl 4
  have b5 := cW_b hl 5
  have w0 : W 73 = 114 := hW 73 (by decide)
  have w1 : W 74 = 111 := hW 74 (by decide)
  have w2 : W 75 = 119 := hW 75 (by decide)
  simp only [Int.cast_ofNat_Int, Int.add_zero] at b0 b1 b2 b3 b4 b5
  constructor
  · intro ⟨h1, h2⟩
    have e0 := h2 0 (by omega) (by omega)
    have e1 := h2 1 (by omega) (by omega)
    have e2 := h2 2 (by omega) (by omega)
    simp only [Int.add_zero, Int.reduceAdd, w0, w1, w2] at e0 e1 e2
    omega
  · intro h
    have hd : cW T a n 0 = 18 ∧ cW T a n 1 = 15 ∧ cW T a n 2 = 23 ∧ cW T a n 3 = 0 ∧ cW T a n 4 = 0 ∧ cW T a n 5 = 0 := by omega
    refine ⟨by omega, fun i h0 h1 => ?_⟩
    have hi : i = 0 ∨ i = 1 ∨ i = 2 := by omega
    rcases hi with rfl | rfl | rfl
    · simp only [Int.add_zero, Int.reduceAdd, w0]; omega
    · simp only [Int.add_zero, Int.reduceAdd, w1]; omega
    · simp only [Int.add_zero, Int.reduceAdd, w2]; omega
theorem wm_16 {T W : Int → Int} {a : Int} {n : Nat} (hn : n ≤ 6) (hl : ∀ i : Int, a ≤ i → i < a + n → 97 ≤ T i ∧ T i ≤ 122) (hW : ∀ k : Nat, k < 95 → W k = wdL.getD k 0) : ((6 : Int) = n ∧ ∀ i : Int, 0 ≤ i → i < 6 → W (77 + i) = T (a + i)) ↔ hN T a n * pwH n = 659011763 := by
  rw [wd7 n hn]
  have b0 := cW_b hl 0
  have b1 := cW_b hl 1
  have b2 := cW_b hl 2
  have b3 := cW_b hl 3
  have b4 := cW_b hl 4
  have b5 := cW_b hl 5
  have w0 : W 77 = 115 := hW 77 (by decide)
  have w1 : W 78 = 116 := hW 78 (by decide)
  have w2 : W 79 = 111 := hW 79 (by decide)
  have w3 : W 80 = 110 := hW 80 (by decide)
  have w4 : W 81 = 101 := hW 81 (by decide)
  have w5 : W 82 = 115 := hW 82 (by decide)
  simp only [Int.cast_ofNat_Int, Int.add_zero] at b0 b1 b2 b3 b4 b5
  constructor
  · intro ⟨h1, h2⟩
    have e0 := h2 0 (by omega) (by omega)
    have e1 := h2 1 (by omega) (by omega)
    have e2 := h2 2 (by omega) (by omega)
    have e3 := h2 3 (by omega) (by omega)
    have e4 := h2 4 (by omega) (by omega)
    have e5 := h2 5 (by omega) (by omega)
    simp only [Int.add_zero, Int.reduceAdd, w0, w1, w2, w3, w4, w5] at e0 e1 e2 e3 e4 e5
    omega
  · intro h
    have hd : cW T a n 0 = 19 ∧ cW T a n 1 = 20 ∧ cW T a n 2 = 15 ∧ cW T a n 3 = 14 ∧ cW T a n 4 = 5 ∧ cW T a n 5 = 19 := by omega
    refine ⟨by omega, fun i h0 h1 => ?_⟩
    have hi : i = 0 ∨ i = 1 ∨ i = 2 ∨ i = 3 ∨ i = 4 ∨ i = 5 := by omega
    rcases hi with rfl | rfl | rfl | rfl | rfl | rfl
    · simp only [Int.add_zero, Int.reduceAdd, w0]; omega
    · simp only [Int.add_zero, Int.reduceAdd, w1]; omega
    · simp only [Int.add_zero, Int.reduceAdd, w2]; omega
    · simp only [Int.add_zero, Int.reduceAdd, w3]; omega
    · simp only [Int.add_zero, Int.reduceAdd, w4]; omega
    · simp only [Int.add_zero, Int.reduceAdd, w5]; omega
theorem wm_17 {T W : Int → Int} {a : Int} {n : Nat} (hn : n ≤ 6) (hl : ∀ i : Int, a ≤ i → i < a + n → 97 ≤ T i ∧ T i ≤ 122) (hW : ∀ k : Nat, k < 95 → W k = wdL.getD k 0) : ((6 : Int) = n ∧ ∀ i : Int, 0 ≤ i → i < 6 → W (84 + i) = T (a + i)) ↔ hN T a n * pwH n = 524555859 := by
  rw [wd7 n hn]
  have b0 := cW_b hl 0
  have b1 := cW_b hl 1
  have b2 := cW_b hl 2
  have b3 := cW_b hl 3
  have b4 := cW_b hl 4
  have b5 := cW_b hl 5
  have w0 : W 84 = 111 := hW 84 (by decide)
  have w1 : W 85 = 116 := hW 85 (by decide)
  have w2 : W 86 = 104 := hW 86 (by decide)
  have w3 : W 87 = 101 := hW 87 (by decide)
  have w4 : W 88 = 114 := hW 88 (by decide)
  have w5 : W 89 = 115 := hW 89 (by decide)
  simp only [Int.cast_ofNat_Int, Int.add_zero] at b0 b1 b2 b3 b4 b5
  constructor
  · intro ⟨h1, h2⟩
    have e0 := h2 0 (by omega) (by omega)
    have e1 := h2 1 (by omega) (by omega)
    have e2 := h2 2 (by omega) (by omega)
    have e3 := h2 3 (by omega) (by omega)
    have e4 := h2 4 (by omega) (by omega)
    have e5 := h2 5 (by omega) (by omega)
    simp only [Int.add_zero, Int.reduceAdd, w0, w1, w2, w3, w4, w5] at e0 e1 e2 e3 e4 e5
    omega
  · intro h
    have hd : cW T a n 0 = 15 ∧ cW T a n 1 = 20 ∧ cW T a n 2 = 8 ∧ cW T a n 3 = 5 ∧ cW T a n 4 = 18 ∧ cW T a n 5 = 19 := by omega
    refine ⟨by omega, fun i h0 h1 => ?_⟩
    have hi : i = 0 ∨ i = 1 ∨ i = 2 ∨ i = 3 ∨ i = 4 ∨ i = 5 := by omega
    rcases hi with rfl | rfl | rfl | rfl | rfl | rfl
    · simp only [Int.add_zero, Int.reduceAdd, w0]; omega
    · simp only [Int.add_zero, Int.reduceAdd, w1]; omega
    · simp only [Int.add_zero, Int.reduceAdd, w2]; omega
    · simp only [Int.add_zero, Int.reduceAdd, w3]; omega
    · simp only [Int.add_zero, Int.reduceAdd, w4]; omega
    · simp only [Int.add_zero, Int.reduceAdd, w5]; omega
theorem wm_18 {T W : Int → Int} {a : Int} {n : Nat} (hn : n ≤ 6) (hl : ∀ i : Int, a ≤ i → i < a + n → 97 ≤ T i ∧ T i ≤ 122) (hW : ∀ k : Nat, k < 95 → W k = wdL.getD k 0) : ((3 : Int) = n ∧ ∀ i : Int, 0 ≤ i → i < 3 → W (91 + i) = T (a + i)) ↔ hN T a n * pwH n = 550273024 := by
  rw [wd7 n hn]
  have b0 := cW_b hl 0
  have b1 := cW_b hl 1
  have b2 := cW_b hl 2
  have b3 := cW_b hl 3
  have b4 := cW_b hl 4
  have b5 := cW_b hl 5
  have w0 : W 91 = 112 := hW 91 (by decide)
  have w1 : W 92 = 108 := hW 92 (by decide)
  have w2 : W 93 = 121 := hW 93 (by decide)
  simp only [Int.cast_ofNat_Int, Int.add_zero] at b0 b1 b2 b3 b4 b5
  constructor
  · intro ⟨h1, h2⟩
    have e0 := h2 0 (by omega) (by omega)
    have e1 := h2 1 (by omega) (by omega)
    have e2 := h2 2 (by omega) (by omega)
    simp only [Int.add_zero, Int.reduceAdd, w0, w1, w2] at e0 e1 e2
    omega
  · intro h
    have hd : cW T a n 0 = 16 ∧ cW T a n 1 = 12 ∧ cW T a n 2 = 25 ∧ cW T a n 3 = 0 ∧ cW T a n 4 = 0 ∧ cW T a n 5 = 0 := by omega
    refine ⟨by omega, fun i h0 h1 => ?_⟩
    have hi : i = 0 ∨ i = 1 ∨ i = 2 := by omega
    rcases hi with rfl | rfl | rfl
    · simp only [Int.add_zero, Int.reduceAdd, w0]; omega
    · simp only [Int.add_zero, Int.reduceAdd, w1]; omega
    · simp only [Int.add_zero, Int.reduceAdd, w2]; omega
