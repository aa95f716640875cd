/-- what the reference has read of a text, by fields -/
def Gr (I : mMm) (f : Nat) (k : Int) : Int :=
  if f = 0 then I 11 0 22 else if f = 1 then I 11 0 23 else if f = 2 then I 11 0 24 else if f = 3 then I 11 0 25 else if f = 4 then I 11 0 27 else if f = 5 then I 11 0 28 else if f = 6 then I 11 0 29 else if f = 7 then I 11 0 34
  else if f = 16 then I 11 0 26 else if f = 17 then I 11 0 31 else if f = 8 then I 1235 0 (4 + k) else if f = 9 then I 1236 0 (4 + k) else if f = 10 then I 1237 0 (4 + k) else if f = 11 then I 1238 0 (4 + k) else if f = 12 then I 1239 0 (32 + k) else if f = 13 then I 1240 0 (32 + k)
  else if f = 20 then I 1241 0 (8 + k) else if f = 21 then I 1242 0 (8 + k) else if f = 22 then I 1243 0 (8 + k) else if f = 30 then I 1244 0 (64 + k) else if f = 31 then I 1245 0 (64 + k) else if f = 32 then I 1246 0 (64 + k) else 0
/-- what it keeps -/
def Gk (I : mMm) (f : Nat) (k : Int) : Int :=
  if f = 0 then I 11 0 12 else if f = 1 then I 11 0 13 else if f = 2 then I 11 0 14 else if f = 3 then I 11 0 15 else if f = 4 then I 11 0 17 else if f = 5 then I 11 0 18 else if f = 6 then I 11 0 19 else if f = 7 then I 11 0 20
  else if f = 16 then I 11 0 16 else if f = 17 then I 11 0 21 else if f = 8 then I 1235 0 k else if f = 9 then I 1236 0 k else if f = 10 then I 1237 0 k else if f = 11 then I 1238 0 k else if f = 12 then I 1239 0 k else if f = 13 then I 1240 0 k
  else if f = 20 then I 1241 0 k else if f = 21 then I 1242 0 k else if f = 22 then I 1243 0 k else if f = 30 then I 1244 0 k else if f = 31 then I 1245 0 k else if f = 32 then I 1246 0 k else 0
abbrev mGv : Type := Nat → Int → Int
/-- rules by themselves are well -/
def RW (r : mRu) : Prop :=
  (2 ≤ r 6 0 ∧ r 6 0 ≤ 5) ∧ (2 ≤ r 6 1 ∧ r 6 1 ≤ 5) ∧ (0 ≤ r 6 2 ∧ r 6 2 ≤ 4) ∧ (0 ≤ r 6 3 ∧ r 6 3 ≤ 8) ∧ (0 ≤ r 6 4 ∧ r 6 4 ≤ 30) ∧ (r 6 4 ≤ r 6 5 ∧ r 6 5 ≤ 60) ∧ (0 ≤ r 6 6 ∧ r 6 6 ≤ 999) ∧ (r 6 7 = 0 ∨ r 6 7 = 1)
/-- a kind of the class and of the reference -/
def KE (r : mRu) (G : mGv) (k : Int) : Prop :=
  G 8 k = r 708 k ∧ G 9 k = r 709 k ∧ G 10 k = r 710 k ∧ G 11 k = r 711 k ∧ (r 709 k = 0 ∨ r 709 k = 1) ∧ (r 710 k = 0 ∨ r 710 k = 1) ∧ (1 ≤ r 711 k ∧ r 711 k ≤ 8) ∧
  ∀ x, 0 ≤ x → x < r 711 k → G 12 (k * 8 + x) = r 712 (k * 8 + x) ∧ G 13 (k * 8 + x) = r 713 (k * 8 + x) ∧ (-4 ≤ r 712 (k * 8 + x) ∧ r 712 (k * 8 + x) ≤ 4) ∧ (-4 ≤ r 713 (k * 8 + x) ∧ r 713 (k * 8 + x) ≤ 4) ∧ ¬ (r 712 (k * 8 + x) = 0 ∧ r 713 (k * 8 + x) = 0)
/-- the stones -/
def SE (r : mRu) (G : mGv) : Prop :=
  (∀ i, 0 ≤ i → i < r 6 3 → (0 ≤ G 20 i ∧ G 20 i < r 6 2) ∧ (G 21 i = 0 ∨ G 21 i = 1) ∧ (0 ≤ G 22 i ∧ G 22 i < r 6 0 * r 6 1) ∧ r 714 (G 22 i) = G 20 i + 4 * G 21 i) ∧
  (∀ i i', 0 ≤ i → i < i' → i' < r 6 3 → ¬ G 22 i = G 22 i') ∧
  (∀ x, 0 ≤ x → x < 25 → ¬ r 714 x = -2 → ∃ i, 0 ≤ i ∧ i < r 6 3 ∧ G 22 i = x) ∧
  (∀ w, w = 0 ∨ w = 1 → (r 715 w = 0 ∨ r 715 w = 1) ∧ (r 715 w = 1 ↔ ∃ i, 0 ≤ i ∧ i < r 6 3 ∧ G 21 i = w ∧ r 710 (G 20 i) = 1))
def RE (r : mRu) (G : mGv) : Prop :=
  (G 0 0 = r 6 0 ∧ G 1 0 = r 6 1 ∧ G 2 0 = r 6 2 ∧ G 3 0 = r 6 3 ∧ G 4 0 = r 6 4 ∧ G 5 0 = r 6 5 ∧ G 6 0 = r 6 6 ∧ G 7 0 = r 6 7) ∧ (∀ k, 0 ≤ k → k < r 6 2 → KE r G k) ∧ SE r G
/-- the law -/
def RLw (r : mRu) (G : mGv) : Prop :=
  (G 17 0 = 0 ∧ r 1 2 = 0 ∧ G 16 0 = 0) ∨ (G 17 0 = 1 ∧ (1 ≤ r 1 2 ∧ r 1 2 ≤ 64) ∧ G 16 0 = r 1 2 ∧ (∀ m : Nat, (m : Int) < r 1 2 → TPn (r 200) (G 30) (G 31) (G 32) m) ∧ (ixS (r 200) (r 1 2).toNat).1 = 1)
def tb (o b : Int) : Int := if mmAnd o b = 0 then 0 else 1
def TO (o : Int) (I : mMm) : Prop := (0 ≤ o ∧ o < 32) ∧ I 11 0 30 = tb o 1 ∧ I 11 0 31 = tb o 2 ∧ I 11 0 32 = tb o 4 ∧ I 11 0 33 = tb o 8 ∧ I 11 0 34 = tb o 16
def M2 (I : mMm) (r : mRu) (o : Int) : Prop := I 11 0 4 = 0 ∧ I 11 0 5 = -1 ∧ TO o I ∧ RE r (Gr I) ∧ RLw r (Gr I) ∧ (I 11 0 31 = 0 → I 11 0 53 = 0) ∧ RW r
def Gt (t : Nat) (k : Int) : Prop := (t = 11 ∧ 22 ≤ k ∧ k ≤ 34) ∨ (1235 ≤ t ∧ t ≤ 1246)
set_option maxHeartbeats 1000000 in
theorem Gr_ext {I I' : mMm} (h : ∀ t k, Gt t k → I' t 0 k = I t 0 k) : Gr I' = Gr I := by
  funext f k
  unfold Gr
  rw [h 11 22 (by unfold Gt; omega), h 11 23 (by unfold Gt; omega), h 11 24 (by unfold Gt; omega), h 11 25 (by unfold Gt; omega), h 11 27 (by unfold Gt; omega), h 11 28 (by unfold Gt; omega), h 11 29 (by unfold Gt; omega), h 11 34 (by unfold Gt; omega), h 11 26 (by unfold Gt; omega), h 11 31 (by unfold Gt; omega), h 1235 _ (by unfold Gt; omega), h 1236 _ (by unfold Gt; omega), h 1237 _ (by unfold Gt; omega), h 1238 _ (by unfold Gt; omega), h 1239 _ (by unfold Gt; omega), h 1240 _ (by unfold Gt; omega), h 1241 _ (by unfold Gt; omega), h 1242 _ (by unfold Gt; omega), h 1243 _ (by unfold Gt; omega), h 1244 _ (by unfold Gt; omega), h 1245 _ (by unfold Gt; omega), h 1246 _ (by unfold Gt; omega)]
section S60
variable {I I' : mMm} {r : mRu} {o : Int}
theorem M2_ext (h : M2 I r o) (h1 : ∀ t k, Gt t k → I' t 0 k = I t 0 k) (h2 : I' 11 0 4 = I 11 0 4) (h3 : I' 11 0 5 = I 11 0 5) (h4 : I' 11 0 53 = I 11 0 53) : M2 I' r o := by
  obtain ⟨g1, g2, ⟨g3, g4, g5, g6, g7, g8⟩, g9, g10, g11, g12⟩ := h
  have e := Gr_ext h1
  refine ⟨h2.trans g1, h3.trans g2, ⟨g3, ?_, ?_, ?_, ?_, ?_⟩, by rw [e]; exact g9, by rw [e]; exact g10, ?_, g12⟩
  · rw [h1 11 30 (by unfold Gt; omega)]; exact g4
  · rw [h1 11 31 (by unfold Gt; omega)]; exact g5
  · rw [h1 11 32 (by unfold Gt; omega)]; exact g6
  · rw [h1 11 33 (by unfold Gt; omega)]; exact g7
  · rw [h1 11 34 (by unfold Gt; omega)]; exact g8
  · rw [h1 11 31 (by unfold Gt; omega), h4]; exact g11
theorem M2_7 (h : M2 I r o) (h1 : Fr7 I I') : M2 I' r o := by
  refine M2_ext h (fun t k c => h1 t 0 k ?_) (h1 _ _ _ (by omega)) (h1 _ _ _ (by omega)) (h1 _ _ _ (by omega))
  unfold Gt at c
  omega
theorem tb_or : ∀ (o : Fin 32) (b c : Fin 5), tb (mmOr (o.val : Int) (2 ^ b.val : Nat)) (2 ^ c.val : Nat) = (if b = c then 1 else tb (o.val : Int) (2 ^ c.val : Nat)) ∧ 0 ≤ mmOr (o.val : Int) (2 ^ b.val : Nat) ∧ mmOr (o.val : Int) (2 ^ b.val : Nat) < 32 := by decide +kernel
theorem tb_or' {o : Int} (ho : 0 ≤ o ∧ o < 32) (b c : Fin 5) : tb (mmOr o (2 ^ b.val : Nat)) (2 ^ c.val : Nat) = (if b = c then 1 else tb o (2 ^ c.val : Nat)) ∧ 0 ≤ mmOr o (2 ^ b.val : Nat) ∧ mmOr o (2 ^ b.val : Nat) < 32 := by
  have h := tb_or ⟨o.toNat, by omega⟩ b c
  have e : ((o.toNat : Nat) : Int) = o := by omega
  simp only [e] at h
  exact h
end S60
