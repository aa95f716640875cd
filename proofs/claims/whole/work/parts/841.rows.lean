/-! a ROW, purely: r the rules, L the letters, T the known ones in their order -/
noncomputable def fk (P : Int → Prop) : Nat → Int → Int
  | 0, _ => -1
  | c + 1, k => cI (P k) k (fk P c (k + 1))
theorem fk_s {P : Int → Prop} {c : Nat} {k : Int} : fk P (c + 1) k = cI (P k) k (fk P c (k + 1)) := rfl
theorem fk_in {P : Int → Prop} : ∀ (c : Nat) (k : Int), 0 ≤ k → (fk P c k = -1 ∧ ∀ i, k ≤ i → i < k + c → ¬ P i) ∨ ((k ≤ fk P c k ∧ fk P c k < k + c) ∧ P (fk P c k) ∧ ∀ i, k ≤ i → i < fk P c k → ¬ P i)
  | 0, k, h0 => Or.inl ⟨rfl, fun i h1 h2 => by omega⟩
  | c + 1, k, h0 => by
    rw [fk_s]
    by_cases hp : P k
    · rw [cI_pos hp]
      exact Or.inr ⟨⟨by omega, by omega⟩, hp, fun i h1 h2 => by omega⟩
    · rw [cI_neg hp]
      rcases fk_in (P := P) c (k + 1) (by omega) with ⟨h1, h2⟩ | ⟨h1, h2, h3⟩
      · refine Or.inl ⟨h1, fun i i0 i1 => ?_⟩
        by_cases ci : i = k
        · rw [ci]; exact hp
        · exact h2 i (by omega) (by omega)
      · refine Or.inr ⟨⟨by omega, by omega⟩, h2, fun i i0 i1 => ?_⟩
        by_cases ci : i = k
        · rw [ci]; exact hp
        · exact h3 i (by omega) i1
theorem fk_none {P : Int → Prop} {c : Nat} {k : Int} (h0 : 0 ≤ k) (h : ∀ i, k ≤ i → i < k + c → ¬ P i) : fk P c k = -1 := by
  rcases fk_in (P := P) c k h0 with h1 | ⟨h1, h2, _⟩
  · exact h1.1
  · exact absurd h2 (h _ h1.1 h1.2)
noncomputable def fl (P : Int → Int → Prop) (N : Int → Int) : List Int → Int × Int
  | [] => (-1, -1)
  | l :: T => (cI (fk (P l) (N l).toNat 0 = -1) (fl P N T).1 l, cI (fk (P l) (N l).toNat 0 = -1) (fl P N T).2 (fk (P l) (N l).toNat 0))
theorem fl_pos {P : Int → Int → Prop} {N : Int → Int} {l : Int} {T : List Int} (h : fk (P l) (N l).toNat 0 = -1) : fl P N (l :: T) = fl P N T := by
  show ((cI _ _ _, cI _ _ _) : Int × Int) = _
  rw [cI_pos h, cI_pos h]
theorem fl_neg {P : Int → Int → Prop} {N : Int → Int} {l : Int} {T : List Int} (h : ¬ fk (P l) (N l).toNat 0 = -1) : fl P N (l :: T) = (l, fk (P l) (N l).toNat 0) := by
  show ((cI _ _ _, cI _ _ _) : Int × Int) = _
  rw [cI_neg h, cI_neg h]
theorem fl_in {P : Int → Int → Prop} {N : Int → Int} : ∀ T : List Int, (fl P N T = (-1, -1) ∧ ∀ l, l ∈ T → ∀ k, 0 ≤ k → k < N l → ¬ P l k) ∨ ((fl P N T).1 ∈ T ∧ (0 ≤ (fl P N T).2 ∧ (fl P N T).2 < N (fl P N T).1) ∧ P (fl P N T).1 (fl P N T).2)
  | [] => Or.inl ⟨rfl, fun l hl => absurd hl List.not_mem_nil⟩
  | l :: T => by
    rcases fk_in (P := P l) (N l).toNat 0 (by omega) with ⟨h1, h2⟩ | ⟨h1, h2, h3⟩
    · rw [fl_pos h1]
      rcases fl_in (P := P) (N := N) T with ⟨q1, q2⟩ | ⟨q1, q2⟩
      · refine Or.inl ⟨q1, fun e he k k0 k1 => ?_⟩
        rcases List.mem_cons.mp he with q | q
        · rw [q] at k1 ⊢; exact h2 k k0 (by omega)
        · exact q2 e q k k0 k1
      · exact Or.inr ⟨List.mem_cons_of_mem _ q1, q2⟩
    · rw [fl_neg (by omega)]
      exact Or.inr ⟨List.mem_cons_self .., ⟨h1.1, by show _ < N l; omega⟩, h2⟩
/-- an if fits and is lawful -/
def fitP (L : Nat → Int → Int) (la l k : Int) : Prop := L 9 (L 6 l * 6 + k) = -1 ∨ L 9 (L 6 l * 6 + k) = la
def ifP (r : mRu) (L : Nat → Int → Int) (m : Int) (B : mBd) (la l k : Int) : Prop := L 8 (L 6 l * 6 + k) = m ∧ fitP L la l k ∧ lfP r B m (L 10 (L 6 l * 6 + k))
def nIf (L : Nat → Int → Int) (l : Int) : Int := L 7 (L 6 l)
noncomputable def chF (r : mRu) (L : Nat → Int → Int) (T : List Int) (m : Int) (B : mBd) (la : Int) : Int × Int := fl (ifP r L m B la) (nIf L) T
def vlI (L : Nat → Int → Int) (c : Int × Int) : Int := L 10 (L 6 c.1 * 6 + c.2)
noncomputable def plS (r : mRu) (L : Nat → Int → Int) (T : List Int) : Nat → mBd × Int
  | 0 => (r 714, -1)
  | n + 1 => (aft (plS r L T n).1 (vlI L (chF r L T n (plS r L T n).1 (plS r L T n).2)), vlI L (chF r L T n (plS r L T n).1 (plS r L T n).2))
noncomputable def rH (r : mRu) (L : Nat → Int → Int) (T : List Int) (i : Int) : mBd := (plS r L T i.toNat).1
noncomputable def rM (r : mRu) (L : Nat → Int → Int) (T : List Int) (i : Int) : Int := (plS r L T i.toNat).2
noncomputable def rC (r : mRu) (L : Nat → Int → Int) (T : List Int) (i : Int) : Int × Int := chF r L T i (rH r L T i) (rM r L T i)
noncomputable def rV (r : mRu) (L : Nat → Int → Int) (T : List Int) (i : Int) : Int := vlI L (rC r L T i)
def rG (r : mRu) (L : Nat → Int → Int) (T : List Int) (i : Int) : Prop := enV r (rH r L T) i = 0 ∧ ¬ (rC r L T i).1 = -1
noncomputable def rN (r : mRu) (L : Nat → Int → Int) (T : List Int) : Nat → Int → Int
  | 0, i => i
  | q + 1, i => cI (rG r L T i) (rN r L T q (i + 1)) i
section S841
variable {r : mRu} {L : Nat → Int → Int} {T : List Int} {i : Int}
theorem rH_0 : rH r L T 0 = r 714 := rfl
theorem rM_0 : rM r L T 0 = -1 := rfl
theorem rH_s (h : 0 ≤ i) : rH r L T (i + 1) = aft (rH r L T i) (rV r L T i) := by
  obtain ⟨n, rfl⟩ := Int.eq_ofNat_of_zero_le h
  rfl
theorem rM_s (h : 0 ≤ i) : rM r L T (i + 1) = rV r L T i := by
  obtain ⟨n, rfl⟩ := Int.eq_ofNat_of_zero_le h
  rfl
theorem rN_s {q : Nat} : rN r L T (q + 1) i = cI (rG r L T i) (rN r L T q (i + 1)) i := rfl
theorem rN_in : ∀ (q : Nat) (i : Int), (i ≤ rN r L T q i ∧ rN r L T q i ≤ i + q) ∧ (∀ k, i ≤ k → k < rN r L T q i → rG r L T k) ∧ (rN r L T q i < i + q → ¬ rG r L T (rN r L T q i))
  | 0, i => ⟨⟨by show i ≤ i; omega, by show i ≤ i + (0 : Nat); omega⟩, fun k h0 h1 => by have h1 : k < i := h1; omega, fun h => by have h : i < i + (0 : Nat) := h; omega⟩
  | q + 1, i => by
    rw [rN_s]
    by_cases c : rG r L T i
    · rw [cI_pos c]
      have ih := rN_in q (i + 1)
      refine ⟨by omega, fun k h0 h1 => ?_, fun h => ih.2.2 (by omega)⟩
      by_cases ck : k = i
      · rw [ck]; exact c
      · exact ih.2.1 k (by omega) h1
    · rw [cI_neg c]
      exact ⟨by omega, fun k h0 h1 => by omega, fun _ => c⟩
/-- the list holds letters -/
def TL (L : Nat → Int → Int) (T : List Int) : Prop := ∀ l, l ∈ T → 0 ≤ l ∧ l < L 0 0
theorem ch_in (hT : TL L T) {m : Int} {B : mBd} {la : Int} (h : ¬ (chF r L T m B la).1 = -1) : (chF r L T m B la).1 ∈ T ∧ (0 ≤ (chF r L T m B la).2 ∧ (chF r L T m B la).2 < nIf L (chF r L T m B la).1) ∧ ifP r L m B la (chF r L T m B la).1 (chF r L T m B la).2 := by
  unfold chF at h ⊢
  rcases fl_in (P := ifP r L m B la) (N := nIf L) T with q | q
  · rw [q.1] at h; exact absurd rfl h
  · exact q
theorem ch_none (hT : TL L T) {m : Int} {B : mBd} {la : Int} (h : (chF r L T m B la).1 = -1) : ∀ l, l ∈ T → ∀ k, 0 ≤ k → k < nIf L l → ¬ ifP r L m B la l k := by
  unfold chF at h
  rcases fl_in (P := ifP r L m B la) (N := nIf L) T with q | q
  · exact q.2
  · have := hT _ q.1
    omega
/-- what is well with a letter's if -/
theorem if_in (hW : LW L) {l k : Int} (hl : 0 ≤ l ∧ l < L 0 0) (hk : 0 ≤ k ∧ k < nIf L l) : (0 ≤ L 6 l ∧ L 6 l < L 0 0) ∧ k < 6 ∧ (0 ≤ L 8 (L 6 l * 6 + k) ∧ L 8 (L 6 l * 6 + k) < 60 ∧ L 8 (L 6 l * 6 + k) % 2 = L 1 l) ∧ (-1 ≤ L 9 (L 6 l * 6 + k) ∧ L 9 (L 6 l * 6 + k) ≤ 4095) ∧ (0 ≤ L 10 (L 6 l * 6 + k) ∧ L 10 (L 6 l * 6 + k) ≤ 4095) := by
  obtain ⟨h1, _, _, _, _, _, h6, _, _, _, h11⟩ := hW.2.2.2.1 l hl.1 hl.2
  have hs : 0 ≤ L 6 l ∧ L 6 l < L 0 0 := ⟨h6.1, by omega⟩
  have h7 := (hW.2.2.2.1 _ hs.1 hs.2).2.2.2.2.2.1
  unfold nIf at hk
  obtain ⟨q1, q2, q3⟩ := hW.2.2.2.2.1 (L 6 l) k hs.1 hs.2 hk.1 hk.2
  exact ⟨hs, by omega, ⟨q1.1, q1.2.1, by rw [q1.2.2, h11]⟩, q2, q3⟩
theorem nIf_in (hW : LW L) {l : Int} (hl : 0 ≤ l ∧ l < L 0 0) : (0 ≤ L 6 l ∧ L 6 l < L 0 0) ∧ 0 ≤ nIf L l ∧ nIf L l ≤ 6 := by
  obtain ⟨h1, _, _, _, _, _, h6, _, _, _, h11⟩ := hW.2.2.2.1 l hl.1 hl.2
  have hs : 0 ≤ L 6 l ∧ L 6 l < L 0 0 := ⟨h6.1, by omega⟩
  exact ⟨hs, (hW.2.2.2.1 _ hs.1 hs.2).2.2.2.2.2.1⟩
theorem rV_ok (hq : RQ r) (hW : LW L) (hT : TL L T) (hB : BW r (rH r L T i)) (h : ¬ (rC r L T i).1 = -1) : MvOk r (rH r L T i) i (rV r L T i) (rV r L T i / 64) (rV r L T i % 64) ∧ (0 ≤ rV r L T i ∧ rV r L T i ≤ 4095) := by
  obtain ⟨h1, h2, h3⟩ := ch_in hT h
  have h4 := if_in hW (hT _ h1) h2
  exact ⟨mv_ok hq hB h4.2.2.2.2.1 h3.2.2, h4.2.2.2.2⟩
theorem rH_BW (hq : RQ r) (hW : LW L) (hT : TL L T) (hB : BW r (r 714)) : ∀ n : Nat, (∀ k : Int, 0 ≤ k → k < n → rG r L T k) → BW r (rH r L T n)
  | 0, _ => hB
  | n + 1, h => by
    have ih := rH_BW hq hW hT hB n (fun k h0 h1 => h k h0 (by omega))
    have hg := h n (by omega) (by omega)
    have := BW_aft hq ih (rV_ok hq hW hT ih hg.2).1
    rw [← rH_s (by omega)] at this
    exact this
/-- what became of an if: at ply p, of row T in the order of z -/
def befP (L : Nat → Int → Int) (z : Int) (l k : Int) (c : Int × Int) : Prop := (l = c.1 ∧ k < c.2) ∨ (¬ l = c.1 ∧ oW L z l < oW L z c.1)
noncomputable def ftV (L : Nat → Int → Int) (z la : Int) (c : Int × Int) (l k : Int) : Int := cI (fitP L la l k) (cI (l = c.1 ∧ k = c.2) 1 (cI (befP L z l k c) (-3) (-2))) (-1)
theorem en_60 {H : Int → mBd} : ¬ enV r H 60 = 0 := by
  unfold enV
  by_cases c : lsP r (H 60) 60
  · rw [cI_pos c]; decide
  · rw [cI_neg c, cI_pos (Or.inl rfl)]; decide
/-- the row's plies -/
noncomputable def rNN (r : mRu) (L : Nat → Int → Int) (T : List Int) : Int := rN r L T 60 0
theorem rNN_in : (0 ≤ rNN r L T ∧ rNN r L T ≤ 60) ∧ (∀ k, 0 ≤ k → k < rNN r L T → rG r L T k) ∧ ¬ rG r L T (rNN r L T) := by
  have h := rN_in (r := r) (L := L) (T := T) 60 0
  unfold rNN
  refine ⟨by omega, h.2.1, ?_⟩
  by_cases c : rN r L T 60 0 = 60
  · rw [c]; exact fun q => en_60 q.1
  · exact h.2.2 (by omega)
end S841
