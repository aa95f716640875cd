def mmCv (ad : mmO → Nat) : mmV → Value
  | .inl z => .int (Int32.ofInt z)
  | .inr (.inl z) => .long (Int64.ofInt z)
  | .inr (.inr none) => .null
  | .inr (.inr (some o)) => .ref (ad o)
def mmFv (ad : mmO → Nat) (μ : mmM) (o : mmO) (f ty : Nat) : Value := if ty = 3 then mmCv ad (.inr (.inr (μ.2.1 o.1 o.2 f))) else mmCv ad (.inl (μ.1 o.1 o.2 f))
def mmAc (ad : mmO → Nat) (μ : mmM) (o : mmO) : (Nat → Int32) ⊕ (Nat → Int64) ⊕ (Nat → UInt32) ⊕ (Nat → UInt64) ⊕ (Nat → Option Nat) :=
  if mmKe o.1 = 2 then .inr (.inl fun j => Int64.ofInt (μ.1 o.1 o.2 j))
  else if mmKe o.1 < 2 then .inl fun j => Int32.ofInt (μ.1 o.1 o.2 j)
  else .inr (.inr (.inr (.inr fun j => (μ.2.1 o.1 o.2 j).map ad)))
def mmE (ad : mmO → Nat) (ca : mmO → ClassId) (μ : mmM) (o : mmO) : va_E := match mmKo o.1 with
  | some c => .inr (c, (List.range (mmKn c)).map fun f => mmFv ad μ o f (mmKt c f))
  | none => .inl (ca o, (mmLen o.1).toNat, mmAc ad μ o)
def mmW (ids : List mmO) (ad : mmO → Nat) (ca : mmO → ClassId) (μ : mmM) : va_W := ids.map fun o => (ad o, mmE ad ca μ o)
def mmFt : Nat → FieldType
  | 0 => .int
  | 1 => .boolean
  | 2 => .long
  | 3 => .object "PostStones$Row"
  | _ => .array .int
/-- a value that can be: numbers in their bounds, cells that are there -/
def mmOv (ids : List mmO) : mmV → Prop
  | .inl z => mmR32 z
  | .inr (.inl z) => mmR64 z
  | .inr (.inr none) => True
  | .inr (.inr (some o)) => o ∈ ids ∨ o = (1301, 0)
def mmOk (ids : List mmO) (ca : mmO → ClassId) (tys : List (ClassId × FieldType)) (μ : mmM) : Prop :=
  ids.Nodup ∧ (∀ o : mmO, o ∈ ids ↔ o.2 < μ.2.2.1 o.1) ∧ (∀ o ∈ ids, mmKo o.1 = none → mmKe o.1 < 5 ∧ ∃ t0 : Nat, tys[t0]? = some (ca o, mmFt (mmKe o.1))) ∧
  (∀ o ∈ ids, ∀ k : Int, (mmKe o.1 = 2 → mmR64 (μ.1 o.1 o.2 k)) ∧ (¬ mmKe o.1 = 2 → mmR32 (μ.1 o.1 o.2 k))) ∧ (∀ o ∈ ids, ∀ k : Int, mmOv ids (.inr (.inr (μ.2.1 o.1 o.2 k))))
def mmLv (ad : mmO → Nat) : Nat → List (Option mmV) → List (Nat × Value)
  | _, [] => []
  | i, none :: r => mmLv ad (i + 1) r
  | i, some v :: r => (i, mmCv ad v) :: mmLv ad (i + 1) r
def mmLr (la : Array Slot) (nL : Nat) (ad : mmO → Nat) (ls : List (Option mmV)) : Prop := ls.length = nL ∧ lv_has la nL (mmLv ad 0 ls)
theorem mmLv_mem {ad : mmO → Nat} {q : Nat × Value} : ∀ {ls : List (Option mmV)} {j : Nat}, q ∈ mmLv ad j ls ↔ ∃ (k : Nat) (v : mmV), mmG ls k = some v ∧ q = (j + k, mmCv ad v)
  | [], j => by simp [mmLv, mmG]
  | none :: r, j => by
    simp only [mmLv, mmLv_mem (ls := r)]
    constructor
    · rintro ⟨k, v, h, e⟩
      exact ⟨k + 1, v, h, by rw [e]; congr 1; omega⟩
    · rintro ⟨k, v, h, e⟩
      cases k with
      | zero => simp [mmG] at h
      | succ k => exact ⟨k, v, h, by rw [e]; congr 1; omega⟩
  | some w :: r, j => by
    simp only [mmLv, List.mem_cons, mmLv_mem (ls := r)]
    constructor
    · rintro (e | ⟨k, v, h, e⟩)
      · exact ⟨0, w, rfl, e⟩
      · exact ⟨k + 1, v, h, by rw [e]; congr 1; omega⟩
    · rintro ⟨k, v, h, e⟩
      cases k with
      | zero => left; simp [mmG] at h; rw [e, h]; rfl
      | succ k => right; exact ⟨k, v, h, by rw [e]; congr 1; omega⟩
theorem mmLr.get {la : Array Slot} {nL : Nat} {ad : mmO → Nat} {ls : List (Option mmV)} (h : mmLr la nL ad ls) {i : Nat} {v : mmV} (e : mmG ls i = some v) : la[i]? = some (.val (mmCv ad v)) := by
  have := h.2.2.2 (0 + i, mmCv ad v) (mmLv_mem.mpr ⟨i, v, e, rfl⟩)
  simpa using this
def mmIsL : mmV → Bool
  | .inr (.inl _) => true
  | _ => false
theorem mmCv_cat {ad : mmO → Nat} (v : mmV) : (mmCv ad v).category = if mmIsL v then 2 else 1 := by
  rcases v with z | z | r
  · rfl
  · rfl
  · cases r <;> rfl
theorem mmKl_some {a : Option mmV} {w : mmV} (h : mmKl a = some w) : a = some w ∧ mmIsL w = false := by
  unfold mmKl at h
  split at h
  · cases h
  · rename_i h1
    subst h
    refine ⟨rfl, ?_⟩
    rcases w with z | z | r
    · rfl
    · exact absurd rfl (h1 z)
    · rfl
theorem mmS1_get {v : mmV} : ∀ {ls : List (Option mmV)} {i k : Nat} {w : mmV}, mmG (mmS1 ls i v) k = some w → (k = i ∧ w = v) ∨ (k ≠ i ∧ mmG ls k = some w ∧ (k + 1 = i → mmIsL w = false))
  | [], i, k, w, h => by simp [mmS1, mmG] at h
  | a :: r, 0, 0, w, h => by left; simp [mmS1, mmG] at h; exact ⟨rfl, h.symm⟩
  | a :: r, 0, k + 1, w, h => by right; exact ⟨by omega, h, by omega⟩
  | a :: r, 1, 0, w, h => by
    right
    obtain ⟨e1, e2⟩ := mmKl_some (show mmKl a = some w from h)
    exact ⟨by omega, e1, fun _ => e2⟩
  | a :: r, 1, k + 1, w, h => by
    rcases mmS1_get (ls := r) (i := 0) (k := k) (show mmG (mmS1 r 0 v) k = some w from h) with ⟨e1, e2⟩ | ⟨e1, e2, e3⟩
    · left; exact ⟨by omega, e2⟩
    · right; exact ⟨by omega, e2, by omega⟩
  | a :: r, i + 2, 0, w, h => by right; exact ⟨by omega, h, by omega⟩
  | a :: r, i + 2, k + 1, w, h => by
    rcases mmS1_get (ls := r) (i := i + 1) (k := k) (show mmG (mmS1 r (i + 1) v) k = some w from h) with ⟨e1, e2⟩ | ⟨e1, e2, e3⟩
    · left; exact ⟨by omega, e2⟩
    · right; exact ⟨by omega, e2, fun q => e3 (by omega)⟩
theorem mmS1_len {v : mmV} : ∀ {ls : List (Option mmV)} {i : Nat}, (mmS1 ls i v).length = ls.length
  | [], _ => rfl
  | _ :: _, 0 => rfl
  | a :: r, 1 => by simp [mmS1, mmS1_len (ls := r)]
  | a :: r, i + 2 => by simp [mmS1, mmS1_len (ls := r)]
theorem mmS2_get {v : mmV} : ∀ {ls : List (Option mmV)} {i k : Nat} {w : mmV}, mmG (mmS2 ls i v) k = some w → (k = i ∧ w = v) ∨ (k ≠ i ∧ k ≠ i + 1 ∧ mmG ls k = some w ∧ (k + 1 = i → mmIsL w = false))
  | [], i, k, w, h => by simp [mmS2, mmG] at h
  | [a], 0, 0, w, h => by simp [mmS2, mmG] at h
  | [a], 0, k + 1, w, h => by simp [mmS2, mmG] at h
  | a :: b :: r, 0, 0, w, h => by left; simp [mmS2, mmG] at h; exact ⟨rfl, h.symm⟩
  | a :: b :: r, 0, 1, w, h => by simp [mmS2, mmG] at h
  | a :: b :: r, 0, k + 2, w, h => by right; exact ⟨by omega, by omega, h, by omega⟩
  | a :: r, 1, 0, w, h => by
    right
    obtain ⟨e1, e2⟩ := mmKl_some (show mmKl a = some w from by cases r <;> exact h)
    exact ⟨by omega, by omega, e1, fun _ => e2⟩
  | a :: r, 1, k + 1, w, h => by
    rcases mmS2_get (ls := r) (i := 0) (k := k) (show mmG (mmS2 r 0 v) k = some w from by cases r <;> exact h) with ⟨e1, e2⟩ | ⟨e1, e2, e3, e4⟩
    · left; exact ⟨by omega, e2⟩
    · right; exact ⟨by omega, by omega, e3, by omega⟩
  | a :: r, i + 2, 0, w, h => by right; exact ⟨by omega, by omega, by cases r <;> exact h, by omega⟩
  | a :: r, i + 2, k + 1, w, h => by
    rcases mmS2_get (ls := r) (i := i + 1) (k := k) (show mmG (mmS2 r (i + 1) v) k = some w from by cases r <;> exact h) with ⟨e1, e2⟩ | ⟨e1, e2, e3, e4⟩
    · left; exact ⟨by omega, e2⟩
    · right; exact ⟨by omega, by omega, e3, fun q => e4 (by omega)⟩
theorem mmS2_len {v : mmV} : ∀ {ls : List (Option mmV)} {i : Nat}, (mmS2 ls i v).length = ls.length
  | [], _ => rfl
  | [_], 0 => rfl
  | _ :: _ :: _, 0 => rfl
  | a :: r, 1 => by cases r <;> simp [mmS2, mmS2_len]
  | a :: r, i + 2 => by cases r <;> simp [mmS2, mmS2_len]
theorem mmLr.set1 {la la' : Array Slot} {nL i : Nat} {ad : mmO → Nat} {ls : List (Option mmV)} {v : mmV} (h : mmLr la nL ad ls)
    (h2 : lv_has la' nL ((i, mmCv ad v) :: (mmLv ad 0 ls).filter (fun q => !(q.1 == i) && !(q.1 + 1 == i && q.2.category == 2)))) : mmLr la' nL ad (mmS1 ls i v) := by
  refine ⟨by rw [mmS1_len]; exact h.1, h2.1, h2.2.1, fun q hq => h2.2.2 q ?_⟩
  obtain ⟨k, w, e1, e2⟩ := mmLv_mem.mp hq
  rcases mmS1_get e1 with ⟨e3, e4⟩ | ⟨e3, e4, e5⟩
  · subst e3; subst e4
    simp [e2]
  · refine List.mem_cons_of_mem _ (List.mem_filter.mpr ⟨mmLv_mem.mpr ⟨k, w, e4, e2⟩, ?_⟩)
    subst e2
    simp only [Nat.zero_add, mmCv_cat]
    have : (k == i) = false := by simpa using e3
    simp only [this, Bool.not_false, Bool.true_and]
    by_cases e6 : k + 1 = i
    · simp [e5 e6]
    · simp [e6]
theorem mmLr.set2 {la la' : Array Slot} {nL i : Nat} {ad : mmO → Nat} {ls : List (Option mmV)} {v : mmV} (h : mmLr la nL ad ls)
    (h2 : lv_has la' nL ((i, mmCv ad v) :: (mmLv ad 0 ls).filter (fun q => !(q.1 == i) && (!(q.1 == i + 1) && !(q.1 + 1 == i && q.2.category == 2))))) : mmLr la' nL ad (mmS2 ls i v) := by
  refine ⟨by rw [mmS2_len]; exact h.1, h2.1, h2.2.1, fun q hq => h2.2.2 q ?_⟩
  obtain ⟨k, w, e1, e2⟩ := mmLv_mem.mp hq
  rcases mmS2_get e1 with ⟨e3, e4⟩ | ⟨e3, e3', e4, e5⟩
  · subst e3; subst e4
    simp [e2]
  · refine List.mem_cons_of_mem _ (List.mem_filter.mpr ⟨mmLv_mem.mpr ⟨k, w, e4, e2⟩, ?_⟩)
    subst e2
    simp only [Nat.zero_add, mmCv_cat]
    have : (k == i) = false := by simpa using e3
    have h' : (k == i + 1) = false := by simpa using e3'
    simp only [this, h', Bool.not_false, Bool.true_and]
    by_cases e6 : k + 1 = i
    · simp [e5 e6]
    · simp [e6]
