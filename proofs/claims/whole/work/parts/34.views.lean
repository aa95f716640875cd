/-- the heap of letters number j of the class, by fields -/
def Lc (I : Nat → Nat → Int → Int) (j f : Nat) (k : Int) : Int := if f = 0 then I 3 j 0 else if f = 11 then I 3 j 11 else if f = 14 then I 3 j 14 else I (400 + f) j k
/-- the reference's letters, by the same fields -/
def Lm (I : Nat → Nat → Int → Int) (f : Nat) (k : Int) : Int :=
  if f = 0 then I 11 0 68 else if f = 11 then I 11 0 69 else if f = 14 then I 11 0 60 else if f = 1 then I 1270 0 k else if f = 2 then I 1271 0 k else if f = 3 then I 1272 0 k else if f = 4 then I 1273 0 k else if f = 5 then I 1274 0 k
  else if f = 7 then I 1275 0 k else if f = 8 then I 1276 0 (3 * k) else if f = 9 then I 1276 0 (3 * k + 1) else if f = 10 then I 1276 0 (3 * k + 2) else if f = 12 then I 1277 0 k else if f = 13 then I 1278 0 k else 0
/-- the reference's image -/
def Li (I : Nat → Nat → Int → Int) (f : Nat) (k : Int) : Int :=
  if f = 0 then I 11 0 84 else if f = 11 then I 11 0 85 else if f = 14 then I 11 0 83 else if f = 1 then I 1286 0 (6 * k) else if f = 2 then I 1286 0 (6 * k + 1) else if f = 3 then I 1286 0 (6 * k + 2) else if f = 4 then I 1286 0 (6 * k + 3) else if f = 5 then I 1286 0 (6 * k + 4)
  else if f = 7 then I 1286 0 (6 * k + 5) else if f = 8 then I 1287 0 (3 * k) else if f = 9 then I 1287 0 (3 * k + 1) else if f = 10 then I 1287 0 (3 * k + 2) else if f = 12 then I 1288 0 (2 * k) else if f = 13 then I 1288 0 (2 * k + 1) else 0
/-- a letter by itself is well -/
def LWl (L : Nat → Int → Int) (l : Int) : Prop :=
  (L 1 l = 0 ∨ L 1 l = 1) ∧ (0 ≤ L 2 l ∧ L 2 l ≤ 999) ∧ (0 ≤ L 3 l ∧ L 3 l ≤ 999) ∧ (-1 ≤ L 4 l ∧ L 4 l < l) ∧ (-1 ≤ L 5 l ∧ L 5 l < l) ∧ (0 ≤ L 7 l ∧ L 7 l ≤ 6) ∧ (0 ≤ L 6 l ∧ L 6 l ≤ l) ∧ (L 5 l = -1 → L 6 l = l) ∧ (0 ≤ L 5 l → L 6 l = L 6 (L 5 l) ∧ L 7 l = 0) ∧ L 5 (L 6 l) = -1 ∧ L 1 (L 6 l) = L 1 l
def LWi (L : Nat → Int → Int) (l k : Int) : Prop :=
  (0 ≤ L 8 (l * 6 + k) ∧ L 8 (l * 6 + k) < 60 ∧ L 8 (l * 6 + k) % 2 = L 1 l) ∧ (-1 ≤ L 9 (l * 6 + k) ∧ L 9 (l * 6 + k) ≤ 4095) ∧ (0 ≤ L 10 (l * 6 + k) ∧ L 10 (l * 6 + k) ≤ 4095)
def LW (L : Nat → Int → Int) : Prop :=
  (0 ≤ L 0 0 ∧ L 0 0 ≤ 16) ∧ (0 ≤ L 11 0 ∧ L 11 0 ≤ 20) ∧ (0 ≤ L 14 0 ∧ L 14 0 ≤ 999) ∧ (∀ l, 0 ≤ l → l < L 0 0 → LWl L l) ∧ (∀ l k, 0 ≤ l → l < L 0 0 → 0 ≤ k → k < L 7 l → LWi L l k) ∧ (∀ k, 0 ≤ k → k < L 11 0 → (0 ≤ L 12 k ∧ L 12 k < L 0 0) ∧ (0 ≤ L 13 k ∧ L 13 k ≤ 999))
/-- the same letters -/
def LE (L M : Nat → Int → Int) : Prop :=
  M 0 0 = L 0 0 ∧ M 11 0 = L 11 0 ∧ M 14 0 = L 14 0 ∧ (∀ l, 0 ≤ l → l < L 0 0 → M 1 l = L 1 l ∧ M 2 l = L 2 l ∧ M 3 l = L 3 l ∧ M 4 l = L 4 l ∧ M 5 l = L 5 l ∧ M 7 l = L 7 l) ∧
  (∀ l k, 0 ≤ l → l < L 0 0 → 0 ≤ k → k < L 7 l → M 8 (l * 6 + k) = L 8 (l * 6 + k) ∧ M 9 (l * 6 + k) = L 9 (l * 6 + k) ∧ M 10 (l * 6 + k) = L 10 (l * 6 + k)) ∧ (∀ k, 0 ≤ k → k < L 11 0 → M 12 k = L 12 k ∧ M 13 k = L 13 k)
section S34
variable {I : Nat → Nat → Int → Int} {j : Nat} {k : Int}
theorem Lc_0 : Lc I j 0 k = I 3 j 0 := rfl
theorem Lc_1 : Lc I j 1 k = I 401 j k := rfl
theorem Lc_2 : Lc I j 2 k = I 402 j k := rfl
theorem Lc_3 : Lc I j 3 k = I 403 j k := rfl
theorem Lc_4 : Lc I j 4 k = I 404 j k := rfl
theorem Lc_5 : Lc I j 5 k = I 405 j k := rfl
theorem Lc_6 : Lc I j 6 k = I 406 j k := rfl
theorem Lc_7 : Lc I j 7 k = I 407 j k := rfl
theorem Lc_8 : Lc I j 8 k = I 408 j k := rfl
theorem Lc_9 : Lc I j 9 k = I 409 j k := rfl
theorem Lc_10 : Lc I j 10 k = I 410 j k := rfl
theorem Lc_11 : Lc I j 11 k = I 3 j 11 := rfl
theorem Lc_12 : Lc I j 12 k = I 412 j k := rfl
theorem Lc_13 : Lc I j 13 k = I 413 j k := rfl
theorem Lc_14 : Lc I j 14 k = I 3 j 14 := rfl
theorem Lm_0 : Lm I 0 k = I 11 0 68 := rfl
theorem Lm_1 : Lm I 1 k = I 1270 0 k := rfl
theorem Lm_2 : Lm I 2 k = I 1271 0 k := rfl
theorem Lm_3 : Lm I 3 k = I 1272 0 k := rfl
theorem Lm_4 : Lm I 4 k = I 1273 0 k := rfl
theorem Lm_5 : Lm I 5 k = I 1274 0 k := rfl
theorem Lm_7 : Lm I 7 k = I 1275 0 k := rfl
theorem Lm_8 : Lm I 8 k = I 1276 0 (3 * k) := rfl
theorem Lm_9 : Lm I 9 k = I 1276 0 (3 * k + 1) := rfl
theorem Lm_10 : Lm I 10 k = I 1276 0 (3 * k + 2) := rfl
theorem Lm_11 : Lm I 11 k = I 11 0 69 := rfl
theorem Lm_12 : Lm I 12 k = I 1277 0 k := rfl
theorem Lm_13 : Lm I 13 k = I 1278 0 k := rfl
theorem Lm_14 : Lm I 14 k = I 11 0 60 := rfl
theorem Li_0 : Li I 0 k = I 11 0 84 := rfl
theorem Li_1 : Li I 1 k = I 1286 0 (6 * k) := rfl
theorem Li_2 : Li I 2 k = I 1286 0 (6 * k + 1) := rfl
theorem Li_3 : Li I 3 k = I 1286 0 (6 * k + 2) := rfl
theorem Li_4 : Li I 4 k = I 1286 0 (6 * k + 3) := rfl
theorem Li_5 : Li I 5 k = I 1286 0 (6 * k + 4) := rfl
theorem Li_7 : Li I 7 k = I 1286 0 (6 * k + 5) := rfl
theorem Li_8 : Li I 8 k = I 1287 0 (3 * k) := rfl
theorem Li_9 : Li I 9 k = I 1287 0 (3 * k + 1) := rfl
theorem Li_10 : Li I 10 k = I 1287 0 (3 * k + 2) := rfl
theorem Li_11 : Li I 11 k = I 11 0 85 := rfl
theorem Li_12 : Li I 12 k = I 1288 0 (2 * k) := rfl
theorem Li_13 : Li I 13 k = I 1288 0 (2 * k + 1) := rfl
theorem Li_14 : Li I 14 k = I 11 0 83 := rfl
end S34
