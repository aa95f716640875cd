def FrRow (j : Nat) (I I' : mMm) : Prop := ∀ t i k, ¬ (i = j ∧ ((101 ≤ t ∧ t ≤ 106) ∨ (603 ≤ t ∧ t ≤ 612) ∨ (t = 0 ∧ k = 4) ∨ (t = 5 ∧ 1 ≤ k))) → ¬ t = 201 → I' t i k = I t i k
/-- a row of the class with m plies behind it -/
def RowA (I : mMm) (j : Nat) (r : mRu) (L : Nat → Int → Int) (z : Int) (T : List Int) (m : Int) : Prop :=
  BV I j (rH r L T m) m r ∧ (∀ i, 0 ≤ i → i < m → I 603 j i = rV r L T i ∧ I 604 j i = (rC r L T i).1) ∧ (∀ l, l ∈ T → ∀ k, 0 ≤ k → k < nIf L l → L 8 (L 6 l * 6 + k) < m → I 608 j (l * 6 + k) = ftV L z (rM r L T (L 8 (L 6 l * 6 + k))) (rC r L T (L 8 (L 6 l * 6 + k))) l k)
def RowB (I : mMm) (j : Nat) (T : List Int) : Prop := LA (I 609 j) T ∧ I 5 j 10 = T.length
/-- a row of the class -/
def RowC (I : mMm) (j : Nat) (r : mRu) (L : Nat → Int → Int) (z : Int) (T : List Int) : Prop :=
  RowA I j r L z T (rNN r L T) ∧ I 5 j 5 = enV r (rH r L T) (rNN r L T) ∧ (enV r (rH r L T) (rNN r L T) = 0 → RO I j (mvs r (rH r L T (rNN r L T)) (rNN r L T))) ∧ (¬ enV r (rH r L T) (rNN r L T) = 0 → I 5 j 7 = 0)
section S845
variable {d a j x : Nat} {I I1 I' I'' : mMm} {br : Nat → Option mmO} {R : Nat → Nat → Int → Option mmO} {X : mmX} {L : Nat → Int → Int} {r : mRu} {B : mBd} {m la z : Int} {c : Int × Int} {T Td T' : List Int} {Q : Option mmV → mmM → Prop}
theorem FrRow_trans (h : FrRow j I I') (h' : FrRow j I' I'') : FrRow j I I'' := fun t i k c1 c2 => (h' t i k c1 c2).trans (h t i k c1 c2)
theorem FrRow_refl : FrRow j I I := fun _ _ _ _ _ => rfl
theorem FrRow_A {tl : Nat} (ht : tl = 106 ∨ tl = 606) (h : FrA j tl j I I') : FrRow j I I' := fun t i k c1 c2 => h t i k (by omega) c2 (by omega)
theorem FrRow_D (h : FrD j I I') : FrRow j I I' := fun t i k c1 c2 => h t i k (by omega)
theorem FrRow_O (h : FrO j I I') : FrRow j I I' := fun t i k c1 c2 => h t i k (by omega) (by omega)
theorem FrRow_P (h : FrP j m I I') : FrRow j I I' := fun t i k c1 c2 => h t i k (by omega) c2 (by omega) (by omega) (by omega)
theorem FrRow_U {t : Nat} {k v : Int} (h : (603 ≤ t ∧ t ≤ 612) ∨ (t = 5 ∧ 1 ≤ k)) : FrRow j I (mmU I t j k v) := fun t' i k' c1 c2 => by
  unfold mmU
  rw [if_neg (fun q => c1 ⟨q.2.1, by rw [q.1, q.2.2]; omega⟩)]
theorem CL_Row (h : CL I L) (hf : FrRow j I I') : CL I' L := CL_ext h (fun t k ht => hf _ _ _ (by omega) (by omega))
theorem CR_Row (h : CR I x r) (hf : FrRow j I I') : CR I' x r := fun t k ht => (hf t x k (by unfold rtag at ht; omega) (by unfold rtag at ht; omega)).trans (h t k ht)
theorem BV_Row {i : Nat} (hij : ¬ i = j) (h : BV I i B m r) (hf : FrRow j I I') : BV I' i B m r := BV_ext h (fun t z ht => hf _ _ _ (by omega) (by omega)) (hf _ _ _ (by omega) (by omega))
theorem rNN_eq (h0 : 0 ≤ m) (h1 : ∀ k, 0 ≤ k → k < m → rG r L T k) (h2 : ¬ rG r L T m) : m = rNN r L T := by
  obtain ⟨q1, q2, q3⟩ := rNN_in (r := r) (L := L) (T := T)
  by_cases c : m < rNN r L T
  · exact absurd (q2 m h0 c) h2
  · by_cases c2 : rNN r L T < m
    · exact absurd (h1 _ q1.1 c2) q3
    · omega
theorem RowA_ext (hA : RowA I j r L z T m) (h1 : BV I' j (rH r L T m) m r) (h2 : ∀ t k, t = 603 ∨ t = 604 ∨ t = 608 → I' t j k = I t j k) : RowA I' j r L z T m := by
  refine ⟨h1, fun i i0 i1 => ?_, fun l hl k k0 k1 k2 => ?_⟩
  · rw [h2 603 i (by omega), h2 604 i (by omega)]; exact hA.2.1 i i0 i1
  · rw [h2 608 _ (by omega)]; exact hA.2.2 l hl k k0 k1 k2
theorem RowB_ext (hA : RowB I j T) (h2 : ∀ k, I' 609 j k = I 609 j k) (h3 : I' 5 j 10 = I 5 j 10) : RowB I' j T := ⟨LA_ext hA.1 (fun k _ _ => h2 k), h3.trans hA.2⟩
/-- one ply more -/
theorem RowA_play (hA : RowA I j r L z T m) (hW : LW L) (hT : TL L T) (hm : 0 ≤ m) (hne : ¬ (rC r L T m).1 = -1) (hP : PI I I1 j L z m (rM r L T m) (rC r L T m) (dnO L T)) (hw : I1 604 j m = (rC r L T m).1) (hf : FrD j (mmU I1 603 j m (vlI L (rC r L T m))) I') (hV : BV I' j (aft (rH r L T m) (vlI L (rC r L T m))) (m + 1) r) : RowA I' j r L z T (m + 1) := by
  have e608 : ∀ k, I' 608 j k = I1 608 j k := fun k => (hf _ _ _ (by omega)).trans (by unfold mmU; rw [if_neg (by omega)])
  refine ⟨by rw [rH_s hm]; exact hV, fun i i0 i1 => ?_, fun l hl k k0 k1 k2 => ?_⟩
  · rw [hf 603 j i (by omega), hf 604 j i (by omega)]
    by_cases c : i = m
    · rw [c]
      refine ⟨by unfold mmU; rw [if_pos ⟨rfl, rfl, rfl⟩]; rfl, ?_⟩
      rw [← hw]; unfold mmU; rw [if_neg (by omega)]
    · have := hA.2.1 i i0 (by omega)
      rw [← this.1, ← this.2]
      refine ⟨?_, ?_⟩
      · unfold mmU; rw [if_neg (by omega)]; exact hP.1 _ _ _ (by omega) (by omega) (by omega) (by omega) (by omega)
      · unfold mmU; rw [if_neg (by omega)]; exact hP.1 _ _ _ (by omega) (by omega) (by omega) (by omega) (by omega)
  · rw [e608]
    by_cases c : L 8 (L 6 l * 6 + k) = m
    · rw [hP.2.1 l k ⟨hl, k0, k1⟩ c hne, c]
    · rw [hP.2.2 l k k0 (if_in hW (hT l hl) ⟨k0, k1⟩).2.1 c]
      exact hA.2.2 l hl k k0 k1 (by omega)
end S845
