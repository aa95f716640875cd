/-- only these fields of the reference change -/
def FrS (S : Int → Prop) (I I' : mMm) : Prop := ∀ t i k, ¬ (t = 11 ∧ S k) → I' t i k = I t i k
def MP (I : mMm) (T : Int → Int) (s : Int) (x : mPR (Int × mRu × Int)) (v : Option mmV) (I' : mMm) : Prop := (∃ e, x = .inl e ∧ v = some (mv 0) ∧ MF I e I') ∨ (∃ p' r' o', x = .inr (p', r', o') ∧ v = some (mv 1) ∧ FrM I I' ∧ PSr I' T s p' ∧ M2 I' r' o' ∧ (BL I → BL I'))
def S1 (k : Int) : Prop := (4 ≤ k ∧ k ≤ 11) ∨ (22 ≤ k ∧ k ≤ 34) ∨ k = 47
section S70
variable {d a : Nat} {I I' I'' : mMm} {br : Nat → Option mmO} {X : mmX} {T : Int → Int} {s p o : Int} {r : mRu} {S : Int → Prop}
theorem FrS_trans (h : FrS S I I') (h' : FrS S I' I'') : FrS S I I'' := fun t i k c => (h' t i k c).trans (h t i k c)
theorem FrS_U {i : Nat} {k v : Int} (h : S k) : FrS S I (mmU I 11 i k v) := by
  intro t' i' k' c
  unfold mmU
  rw [if_neg]
  rintro ⟨rfl, rfl, rfl⟩
  exact c ⟨rfl, h⟩
theorem FrS_7 (h : Fr7 I I') (hS : ∀ k, ((7 ≤ k ∧ k ≤ 11) ∨ k = 47) → S k) : FrS S I I' := fun t i k c => h t i k (fun q => c ⟨q.1, hS k q.2⟩)
theorem BL_S (h : FrS S1 I I') (hb : BL I) : BL I' := BL_ext (fun t k ht => h _ _ _ (by omega)) hb
theorem FrM_S (h : FrS S1 I I') : FrM I I' := ⟨fun t i k c => h t i k (fun q => c (by obtain ⟨q1, q2⟩ := q; unfold S1 at q2; unfold Mt; omega)), BL_S h⟩
theorem S1_7 : ∀ k, ((7 ≤ k ∧ k ≤ 11) ∨ k = 47) → S1 k := fun k h => by unfold S1; omega
theorem PSr_U {i : Nat} {t : Nat} {k v : Int} (h : PSr I T s p) (hk : ¬ (t = 11 ∧ 6 ≤ k ∧ k ≤ 10) ∧ ¬ t = 1200 ∧ ¬ t = 1203) : PSr (mmU I t i k v) T s p := by
  refine PSr_ext h (fun k' => ?_) (fun k' hk' => ?_) (fun k' => ?_)
  · unfold mmU; rw [if_neg (by omega)]
  · unfold mmU; rw [if_neg (by omega)]
  · unfold mmU; rw [if_neg (by omega)]
/-- scalar fields of the rules change alike -/
theorem M2_sc {r' : mRu} {o' : Int} (h : M2 I r o) (hF : FrS S1 I I') (h4 : I' 11 0 4 = 0) (h5 : I' 11 0 5 = -1) (hT : TO o' I') (h31 : I' 11 0 31 = I 11 0 31) (h26 : I' 11 0 26 = I 11 0 26)
    (hr : ∀ t x, ¬ t = 6 → r' t x = r t x) (h2 : r' 6 2 = r 6 2) (h3 : r' 6 3 = r 6 3) (hpt : (r' 6 0 = r 6 0 ∧ r' 6 1 = r 6 1) ∨ r 6 3 = 0) (hw : RW r')
    (hg : I' 11 0 22 = r' 6 0 ∧ I' 11 0 23 = r' 6 1 ∧ I' 11 0 24 = r' 6 2 ∧ I' 11 0 25 = r' 6 3 ∧ I' 11 0 27 = r' 6 4 ∧ I' 11 0 28 = r' 6 5 ∧ I' 11 0 29 = r' 6 6 ∧ I' 11 0 34 = r' 6 7) : M2 I' r' o' := by
  obtain ⟨g1, g2, g3, ⟨g4, g5, g6⟩, g7, g8, g9⟩ := h
  have eA : ∀ f k, (f = 8 ∨ f = 9 ∨ f = 10 ∨ f = 11 ∨ f = 12 ∨ f = 13 ∨ f = 20 ∨ f = 21 ∨ f = 22 ∨ f = 30 ∨ f = 31 ∨ f = 32) → Gr I' f k = Gr I f k := by
    intro f k hf
    rcases hf with q | q | q | q | q | q | q | q | q | q | q | q <;> subst q <;> exact hF _ _ _ (by omega)
  have eR : ∀ t, ¬ t = 6 → r' t = r t := fun t ht => funext fun x => hr t x ht
  refine ⟨h4, h5, hT, ⟨hg, fun k h0 h1 => ?_, ?_⟩, ?_, ?_, hw⟩
  · have := g5 k h0 (by omega)
    unfold KE at this ⊢
    simp only [eA _ _ (show 8 = 8 ∨ _ from Or.inl rfl), eA 9 _ (by omega), eA 10 _ (by omega), eA 11 _ (by omega), eA 12 _ (by omega), eA 13 _ (by omega), eR 708 (by omega), eR 709 (by omega), eR 710 (by omega), eR 711 (by omega), eR 712 (by omega), eR 713 (by omega)]
    exact this
  · obtain ⟨s1, s2, s3, s4⟩ := g6
    unfold SE
    simp only [eA 20 _ (by omega), eA 21 _ (by omega), eA 22 _ (by omega), eR 714 (by omega), eR 715 (by omega), eR 710 (by omega), h2, h3]
    refine ⟨fun i h0 h1 => ?_, s2, s3, s4⟩
    have := s1 i h0 h1
    rcases hpt with q | q
    · rw [q.1, q.2]; exact this
    · omega
  · have e30 : Gr I' 30 = Gr I 30 := funext fun k => eA 30 k (by omega)
    have e31 : Gr I' 31 = Gr I 31 := funext fun k => eA 31 k (by omega)
    have e32 : Gr I' 32 = Gr I 32 := funext fun k => eA 32 k (by omega)
    have e16 : Gr I' 16 0 = Gr I 16 0 := h26
    have e17 : Gr I' 17 0 = Gr I 17 0 := h31
    unfold RLw at g7 ⊢
    rw [e30, e31, e32, e16, e17, eR 1 (by omega), eR 200 (by omega)]
    exact g7
  · rw [h31, hF 11 0 53 (by unfold S1; omega)]
    exact g8
theorem MP_l {e : Int × Int} {x : mPR (Int × mRu × Int)} (hx : x = .inl e) (h : MF I e I') : MP I T s x (some (mv 0)) I' := Or.inl ⟨e, hx, rfl, h⟩
theorem tb_01 {o b : Int} : tb o b = 0 ∨ tb o b = 1 := by unfold tb; split <;> simp
theorem TO_or {o : Int} (h : TO o I) (b : Fin 5) (hF : ∀ c : Fin 5, I' 11 0 (30 + c.val) = if b = c then 1 else I 11 0 (30 + c.val)) : TO (mmOr o (2 ^ b.val : Nat)) I' := by
  obtain ⟨h0, h1, h2, h3, h4, h5⟩ := h
  have k0 := tb_or' h0 b 0
  have k1 := tb_or' h0 b 1
  have k2 := tb_or' h0 b 2
  have k3 := tb_or' h0 b 3
  have k4 := tb_or' h0 b 4
  refine ⟨k0.2, ?_, ?_, ?_, ?_, ?_⟩
  · have e := hF 0
    rw [show I 11 0 (30 + ((0 : Fin 5).val : Int)) = tb o 1 from h1] at e
    exact e.trans k0.1.symm
  · have e := hF 1
    rw [show I 11 0 (30 + ((1 : Fin 5).val : Int)) = tb o 2 from h2] at e
    exact e.trans k1.1.symm
  · have e := hF 2
    rw [show I 11 0 (30 + ((2 : Fin 5).val : Int)) = tb o 4 from h3] at e
    exact e.trans k2.1.symm
  · have e := hF 3
    rw [show I 11 0 (30 + ((3 : Fin 5).val : Int)) = tb o 8 from h4] at e
    exact e.trans k3.1.symm
  · have e := hF 4
    rw [show I 11 0 (30 + ((4 : Fin 5).val : Int)) = tb o 16 from h5] at e
    exact e.trans k4.1.symm
end S70
