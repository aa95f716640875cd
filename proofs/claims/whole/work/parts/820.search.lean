theorem rc_pt {r : mRu} (hw : 2 ≤ r 6 0 ∧ r 6 0 ≤ 5) (hh : 2 ≤ r 6 1 ∧ r 6 1 ≤ 5) {B : mBd} {m fr p to : Int} : ∀ (q : Nat) (far : Int), rcP r B m fr p to q far → (0 ≤ to ∧ to < r 6 0 * r 6 1) ∧ ¬ B to / 4 = m % 2
  | 0, _ => False.elim
  | q + 1, far => by
    unfold rcP
    rintro ⟨c, h1 | h1⟩
    · have := inB_pt hw hh c
      rw [h1.1] at this
      exact ⟨⟨this.1, this.2.1⟩, h1.2.1⟩
    · exact rc_pt hw hh q _ h1.2
theorem fc_pt {r : mRu} (hw : 2 ≤ r 6 0 ∧ r 6 0 ≤ 5) (hh : 2 ≤ r 6 1 ∧ r 6 1 ≤ 5) {B : mBd} {m fr to : Int} : ∀ (c : Nat) (s : Int), fcP r B m fr to c s → (0 ≤ to ∧ to < r 6 0 * r 6 1) ∧ ¬ B to / 4 = m % 2
  | 0, _ => False.elim
  | c + 1, s => by
    unfold fcP
    rintro (h1 | h1)
    · exact rc_pt hw hh _ _ h1
    · exact fc_pt hw hh c _ h1
theorem mvL_lf {r : mRu} (hw : 2 ≤ r 6 0 ∧ r 6 0 ≤ 5) (hh : 2 ≤ r 6 1 ∧ r 6 1 ≤ 5) {B : mBd} {m v : Int} : ∀ n : Nat, v ∈ mvL r B m n → lfP r B m v
  | 0, h => by cases h
  | n + 1, h => by
    have h1 : v ∈ mvF r B m n (mvL r B m n) := h
    unfold mvF at h1
    by_cases c : (0 ≤ (n : Int) ∧ (n : Int) < r 6 0 * r 6 1) ∧ B n / 4 = m % 2
    · rw [if_pos c] at h1
      rcases fromL_mem hw hh _ _ _ h1 with q | ⟨t, t0, t1, e⟩
      · exact mvL_lf hw hh n q
      · rw [e, mem_fromL] at h1
        rcases h1 with q | q
        · exact mvL_lf hw hh n (by rw [e]; exact q)
        · exact (lf_iff e ⟨t0, by omega⟩).mpr ⟨c, q⟩
    · rw [if_neg c] at h1
      exact mvL_lf hw hh n h1
/-- what a lawful move is -/
def MvOk (r : mRu) (B : mBd) (m v f t : Int) : Prop := v = f * 64 + t ∧ (0 ≤ f ∧ f < r 6 0 * r 6 1) ∧ (0 ≤ t ∧ t < r 6 0 * r 6 1) ∧ ¬ f = t ∧ 0 ≤ B f ∧ B f / 4 = m % 2
theorem mv_ok {r : mRu} {B : mBd} {m v : Int} (hq : RQ r) (hB : BW r B) (hv : 0 ≤ v) (h : lfP r B m v) : MvOk r B m v (v / 64) (v % 64) := by
  have w0 := hq.1.1
  have w1 := hq.1.2.1
  have h25 := (pt_in w0 w1 (x := 0) (y := 0) (by omega) (by omega)).2.2.1
  have e : v = v / 64 * 64 + v % 64 := by omega
  have h1 := (lf_iff e (by omega)).mp h
  have h2 := fc_pt w0 w1 _ _ h1.2
  have ho := own_in hB (show 0 ≤ v / 64 ∧ v / 64 < 25 by omega) h1.1.2
  refine ⟨e, h1.1.1, h2.1, fun q => ?_, ho.1, h1.1.2⟩
  rw [← q] at h2
  exact h2.2 h1.1.2
theorem mvL_0 {r : mRu} (hw : 2 ≤ r 6 0 ∧ r 6 0 ≤ 5) (hh : 2 ≤ r 6 1 ∧ r 6 1 ≤ 5) {B : mBd} {m v : Int} {n : Nat} (h : v ∈ mvL r B m n) : 0 ≤ v ∧ v < 1600 ∨ ¬ n ≤ 25 := by
  obtain ⟨f, t, h1, h2, h3, h4, h5⟩ := mvL_mem hw hh n h
  omega
abbrev mvs (r : mRu) (B : mBd) (m : Int) : List Int := mvL r B m 25
def aft (B : mBd) (v : Int) : mBd := bdA B (v / 64) (v % 64)
theorem BW_aft {r : mRu} {B : mBd} {m v : Int} (hq : RQ r) (hB : BW r B) (h : MvOk r B m v (v / 64) (v % 64)) : BW r (aft B v) := by
  have h25 := (pt_in hq.1.1 hq.1.2.1 (x := 0) (y := 0) (by have := hq.1.1; omega) (by have := hq.1.2.1; omega)).2.2.1
  obtain ⟨e, h1, h2, h3, h4, _⟩ := h
  exact BW_bd hB ⟨h1.1, by omega⟩ ⟨h2.1, by omega⟩ h2.2 h3 h4
/-- (wins in n, lost in n) -/
def wlP (r : mRu) : Nat → mBd → Int → Prop × Prop
  | 0, B, m => (False, lsP r B m)
  | 1, B, m => (¬ lkP r B m ∧ ∃ v, v ∈ mvs r B m ∧ lsP r (aft B v) (m + 1), lsP r B m)
  | n + 2, B, m => (¬ lkP r B m ∧ ∃ v, v ∈ mvs r B m ∧ (wlP r (n + 1) (aft B v) (m + 1)).2, lkP r B m ∨ ∀ v, v ∈ mvs r B m → (wlP r (n + 1) (aft B v) (m + 1)).1)
theorem getD_mem {L : List Int} {k : Nat} (h : k < L.length) : L.getD k 0 ∈ L := by
  rw [List.getD_eq_getElem?_getD, List.getElem?_eq_getElem h]
  exact List.getElem_mem _
theorem mem_getD {L : List Int} {v : Int} (h : v ∈ L) : ∃ k, k < L.length ∧ L.getD k 0 = v := by
  obtain ⟨k, hk, e⟩ := List.getElem_of_mem h
  refine ⟨k, hk, ?_⟩
  rw [List.getD_eq_getElem?_getD, List.getElem?_eq_getElem hk]
  exact e
