/-- the letters that view w knows, in their order -/
def vT (r : mRu) (L : Nat → Int → Int) (w : Int) : List Int := odT L (r 6 7) (Kv L (L 3) w)
noncomputable def vN (r : mRu) (L : Nat → Int → Int) (w : Int) : Int := rNN r L (vT r L w)
noncomputable def vB (r : mRu) (L : Nat → Int → Int) (w : Int) : mBd := rH r L (vT r L w) (vN r L w)
noncomputable def vE (r : mRu) (L : Nat → Int → Int) (w : Int) : Int := enV r (rH r L (vT r L w)) (vN r L w)
/-- how many moves are open -/
noncomputable def vM (r : mRu) (L : Nat → Int → Int) (w : Int) : Int := cI (vE r L w = 0) (mvs r (vB r L w) (vN r L w)).length 0
/-- what queries may change in the class -/
def FrG (I I' : mMm) : Prop := ∀ t i k, ¬ (101 ≤ t ∧ t ≤ 106) → ¬ (603 ≤ t ∧ t ≤ 612) → ¬ (t = 0 ∧ k = 4) → ¬ t = 5 → ¬ t = 201 → ¬ t = 850 → ¬ t = 1109 → I' t i k = I t i k
/-- the class is well: rules r in number a, letters L, rows as they tell -/
def CI (I : mMm) (br : Nat → Option mmO) (a : Nat) (r : mRu) (L : Nat → Int → Int) : Prop :=
  CR I a r ∧ RQ r ∧ BW r (r 714) ∧ CL I L ∧ LW L ∧ (0 ≤ I 10 0 11 ∧ I 10 0 11 < 1000) ∧ ∀ w : Nat, w < 4 → (I 5 (w + 1) 0 ≤ I 10 0 11) ∧ (I 5 (w + 1) 0 = I 10 0 11 → RowV I br a w r L)
section S849
variable {d a j x t i w : Nat} {I I1 I' I'' : mMm} {br br' : Nat → Option mmO} {R : Nat → Nat → Int → Option mmO} {X : mmX} {L : Nat → Int → Int} {r : mRu} {B : mBd} {m la z : Int} {T : List Int} {Q : Option mmV → mmM → Prop}
theorem FrG_trans (h : FrG I I') (h' : FrG I' I'') : FrG I I'' := fun t i k c1 c2 c3 c4 c5 c6 c7 => (h' t i k c1 c2 c3 c4 c5 c6 c7).trans (h t i k c1 c2 c3 c4 c5 c6 c7)
theorem FrG_refl : FrG I I := fun _ _ _ _ _ _ _ _ _ _ => rfl
theorem FrG_Q (h : FrQ j I I') : FrG I I' := fun t i k c1 c2 c3 c4 c5 c6 c7 => h t i k (by omega) c5
theorem FrG_E {lv : Nat} (h : FrE j lv I I') : FrG I I' := fun t i k c1 c2 c3 c4 c5 c6 c7 => h t i k (by omega) c5 (by omega)
theorem CL_G (h : CL I L) (hf : FrG I I') : CL I' L := CL_ext h (fun t k ht => hf _ _ _ (by omega) (by omega) (by omega) (by omega) (by omega) (by omega) (by omega))
theorem CR_G (h : CR I x r) (hf : FrG I I') : CR I' x r := fun t k ht => (hf t x k (by unfold rtag at ht; omega) (by unfold rtag at ht; omega) (by unfold rtag at ht; omega) (by unfold rtag at ht; omega) (by unfold rtag at ht; omega) (by unfold rtag at ht; omega) (by unfold rtag at ht; omega)).trans (h t k ht)
theorem RowC_ext (h : RowC I j r L z T) (hV : BV I' j (rH r L T (rNN r L T)) (rNN r L T) r) (he : ∀ t k, (t = 603 ∨ t = 604 ∨ t = 606 ∨ t = 608 ∨ t = 5) → I' t j k = I t j k) : RowC I' j r L z T :=
  ⟨RowA_ext h.1 hV (fun t k ht => he _ _ (by omega)), (he _ _ (by omega)).trans h.2.1, fun q => ⟨(he _ _ (by omega)).trans (h.2.2.1 q).1, LA_ext (h.2.2.1 q).2 (fun k _ _ => he _ _ (by omega))⟩, fun q => (he _ _ (by omega)).trans (h.2.2.2 q)⟩
theorem RowV_ext (h : RowV I br a w r L) (hb : br' (w + 1) = br (w + 1)) (hV : BV I' (w + 1) (vB r L w) (vN r L w) r) (he : ∀ t k, (t = 603 ∨ t = 604 ∨ t = 606 ∨ t = 608 ∨ t = 5) → I' t (w + 1) k = I t (w + 1) k) : RowV I' br' a w r L := ⟨hb.trans h.1, (he _ _ (by omega)).trans h.2.1, RowC_ext h.2.2 hV he⟩
theorem CI_seen (h : CI I br a r L) (hf : FrQ (w + 1) I I') (hb : ∀ i, ¬ i = w + 1 → br' i = br i) (h0 : I' 5 (w + 1) 0 = I' 10 0 11) (hR : RowV I' br' a w r L) : CI I' br' a r L := by
  obtain ⟨h1, h2, h3, h4, h5, h6, h7⟩ := h
  have e11 : I' 10 0 11 = I 10 0 11 := hf _ _ _ (by omega) (by omega)
  refine ⟨CR_G h1 (FrG_Q hf), h2, h3, CL_G h4 (FrG_Q hf), h5, by rw [e11]; exact h6, fun w' hw' => ?_⟩
  by_cases c : w' = w
  · rw [c]
    exact ⟨by rw [h0]; omega, fun _ => hR⟩
  · have e : ∀ t k, (t = 5 ∨ (t = 0 ∧ k = 4) ∨ (101 ≤ t ∧ t ≤ 106) ∨ (603 ≤ t ∧ t ≤ 612)) → I' t (w' + 1) k = I t (w' + 1) k := fun t k ht => hf _ _ _ (by omega) (by omega)
    have h8 := h7 w' hw'
    rw [e 5 0 (by omega), e11]
    refine ⟨h8.1, fun q => ?_⟩
    have hv := h8.2 q
    exact RowV_ext hv (hb _ (by omega)) (BV_ext hv.2.2.1.1 (fun t z ht => e _ _ (by omega)) (e _ _ (by omega))) (fun t k ht => e _ _ (by omega))
theorem CI_E (h : CI I br a r L) (hw : w < 4) (hR : RowV I br a w r L) (hf : FrE (w + 1) 0 I I') (hV : BV I' (w + 1) (vB r L w) (vN r L w) r) : CI I' br a r L ∧ FrG I I' ∧ RowV I' br a w r L := by
  obtain ⟨h1, h2, h3, h4, h5, h6, h7⟩ := h
  have fg := FrG_E hf
  have e11 : I' 10 0 11 = I 10 0 11 := hf _ _ _ (by omega) (by omega) (by omega)
  have hR' : RowV I' br a w r L := RowV_ext hR rfl hV (fun t k ht => hf _ _ _ (by omega) (by omega) (by omega))
  refine ⟨⟨CR_G h1 fg, h2, h3, CL_G h4 fg, h5, by rw [e11]; exact h6, fun w' hw' => ?_⟩, fg, hR'⟩
  rw [e11, hf 5 _ _ (by omega) (by omega) (by omega)]
  refine ⟨(h7 w' hw').1, fun q => ?_⟩
  by_cases c : w' = w
  · rw [c]; exact hR'
  · have hv := (h7 w' hw').2 q
    exact RowV_ext hv rfl (BV_ext hv.2.2.1.1 (fun t z ht => hf _ _ _ (by omega) (by omega) (by omega)) (hf _ _ _ (by omega) (by omega) (by omega))) (fun t k ht => hf _ _ _ (by omega) (by omega) (by omega))
theorem c_seenI (hw : w < 4) (hI : CI I br a r L) (hQ : ∀ I' br', FrG I I' → CI I' br' a r L → RowV I' br' a w r L → Q (some (mo 5 (w + 1))) (I', mmRf a br', X)) : mmC (d + 7) 134 [mo 10 0, mv w] (I, mmRf a br, X) Q :=
  c_seen hw hI.1 hI.2.1 hI.2.2.1 hI.2.2.2.1 hI.2.2.2.2.1 (hI.2.2.2.2.2.2 w hw).2 (fun I' br' f b e hR => hQ I' br' (FrG_Q f) (CI_seen hI f b e hR) hR)
/-- what is well with a view's board -/
theorem vB_in (hq : RQ r) (hB : BW r (r 714)) (hW : LW L) (w : Int) : BW r (vB r L w) ∧ (0 ≤ vN r L w ∧ vN r L w ≤ 60) := by
  obtain ⟨h1, h2, h3⟩ := rNN_in (r := r) (L := L) (T := vT r L w)
  have hT := (od_TL (z := r 6 7) (K := Kv L (L 3) w) hW).1
  have := rH_BW hq hW hT hB (rNN r L (vT r L w)).toNat (fun k k0 k1 => h2 k k0 (by omega))
  rw [show (((rNN r L (vT r L w)).toNat : Nat) : Int) = rNN r L (vT r L w) by omega] at this
  exact ⟨this, h1⟩
theorem vM_in (h : RowV I br a w r L) : I 5 (w + 1) 7 = vM r L w := by
  unfold vM
  by_cases c : vE r L w = 0
  · rw [cI_pos c]; exact (h.2.2.2.2.1 c).1
  · rw [cI_neg c]; exact h.2.2.2.2.2 c
end S849
