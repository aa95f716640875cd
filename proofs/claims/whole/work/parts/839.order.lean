/-! the order of letters, purely -/
/-- a letter's place in the order: the smaller goes ahead -/
def oW (L : Nat → Int → Int) (z l : Int) : Int := if z = 0 then L 2 l * 16 + l else -(L 2 l * 16 + l)
def insL (g : Int → Int) (l : Int) (T : List Int) : List Int := T.filter (fun e => decide (g e ≤ g l)) ++ l :: T.filter (fun e => decide (g l < g e))
def odL (g : Int → Int) : Nat → List Int
  | 0 => []
  | n + 1 => insL g n (odL g n)
section S839
variable {g : Int → Int} {l : Int} {T : List Int}
theorem ins_mem {e : Int} : e ∈ insL g l T ↔ e = l ∨ e ∈ T := by
  unfold insL
  rw [List.mem_append, List.mem_cons, List.mem_filter, List.mem_filter]
  constructor
  · rintro (h | h | h)
    · exact Or.inr h.1
    · exact Or.inl h
    · exact Or.inr h.1
  · rintro (h | h)
    · exact Or.inr (Or.inl h)
    · by_cases c : g e ≤ g l
      · exact Or.inl ⟨h, decide_eq_true c⟩
      · exact Or.inr (Or.inr ⟨h, decide_eq_true (by omega)⟩)
theorem ins_pw (h : T.Pairwise (fun a b => g a < g b)) (hn : ∀ e, e ∈ T → ¬ g e = g l) : (insL g l T).Pairwise (fun a b => g a < g b) := by
  unfold insL
  rw [List.pairwise_append, List.pairwise_cons]
  refine ⟨h.filter _, ⟨fun e he => ?_, h.filter _⟩, fun a ha b hb => ?_⟩
  · rw [List.mem_filter] at he
    exact of_decide_eq_true he.2
  · rw [List.mem_filter] at ha
    have h1 := of_decide_eq_true ha.2
    have h2 := hn a ha.1
    rcases List.mem_cons.mp hb with q | q
    · subst q; omega
    · rw [List.mem_filter] at q
      have := of_decide_eq_true q.2
      omega
theorem part_eq (h : T.Pairwise (fun a b => g a < g b)) : T.filter (fun e => decide (g e ≤ g l)) ++ T.filter (fun e => decide (g l < g e)) = T := by
  induction T with
  | nil => rfl
  | cons a t ih =>
    rw [List.pairwise_cons] at h
    have ih := ih h.2
    by_cases c : g a ≤ g l
    · rw [List.filter_cons_of_pos (by simpa using c), List.filter_cons_of_neg (by simpa using c), List.cons_append, ih]
    · have hall : ∀ e, e ∈ t → g l < g e := fun e he => by have := h.1 e he; omega
      rw [List.filter_cons_of_neg (by simpa using c), List.filter_cons_of_pos (by simpa using Int.not_le.mp c)]
      have e1 : t.filter (fun e => decide (g e ≤ g l)) = [] := List.filter_eq_nil_iff.mpr (fun e he => by have := hall e he; simp; omega)
      have e2 : t.filter (fun e => decide (g l < g e)) = t := List.filter_eq_self.mpr (fun e he => by simpa using hall e he)
      rw [e1, e2]; rfl
theorem ins_len (h : T.Pairwise (fun a b => g a < g b)) : (insL g l T).length = T.length + 1 := by
  have := congrArg List.length (part_eq (l := l) h)
  unfold insL
  rw [List.length_append, List.length_cons]
  rw [List.length_append] at this
  omega
theorem ins_at {k : Nat} (h : T.Pairwise (fun a b => g a < g b)) (hk : k ≤ T.length) (h0 : k = 0 ∨ g (T.getD (k - 1) 0) ≤ g l) (h1 : ∀ i, k ≤ i → i < T.length → g l < g (T.getD i 0)) : insL g l T = T.take k ++ l :: T.drop k := by
  have hp := List.pairwise_iff_getElem.mp h
  have a1 : ∀ e, e ∈ T.take k → g e ≤ g l := by
    intro e he
    obtain ⟨i, hi, rfl⟩ := List.mem_iff_getElem.mp he
    rw [List.length_take] at hi
    rw [List.getElem_take]
    rcases h0 with q | q
    · omega
    · rw [List.getD_eq_getElem?_getD, List.getElem?_eq_getElem (by omega)] at q
      have q : g (T[k - 1]'(by omega)) ≤ g l := q
      by_cases c : i = k - 1
      · subst c; exact q
      · have := hp i (k - 1) (by omega) (by omega) (by omega)
        omega
  have a2 : ∀ e, e ∈ T.drop k → g l < g e := by
    intro e he
    obtain ⟨i, hi, rfl⟩ := List.mem_iff_getElem.mp he
    rw [List.length_drop] at hi
    rw [List.getElem_drop]
    have := h1 (k + i) (by omega) (by omega)
    rw [List.getD_eq_getElem?_getD, List.getElem?_eq_getElem (by omega)] at this
    exact this
  have e1 : T.filter (fun e => decide (g e ≤ g l)) = T.take k := by
    conv => lhs; rw [← List.take_append_drop k T]
    rw [List.filter_append, List.filter_eq_self.mpr (fun e he => by simpa using a1 e he), List.filter_eq_nil_iff.mpr (fun e he => by have := a2 e he; simp; omega), List.append_nil]
  have e2 : T.filter (fun e => decide (g l < g e)) = T.drop k := by
    conv => lhs; rw [← List.take_append_drop k T]
    rw [List.filter_append, List.filter_eq_nil_iff.mpr (fun e he => by have := a1 e he; simp; omega), List.filter_eq_self.mpr (fun e he => by simpa using a2 e he), List.nil_append]
  unfold insL
  rw [e1, e2]
theorem ins_filter {K : Int → Bool} (hK : K l = true) : (insL g l T).filter K = insL g l (T.filter K) := by
  unfold insL
  rw [List.filter_append, List.filter_cons_of_pos hK, List.filter_filter, List.filter_filter, List.filter_filter, List.filter_filter]
  simp only [Bool.and_comm]
theorem ins_filterN {K : Int → Bool} (h : T.Pairwise (fun a b => g a < g b)) (hK : ¬ K l = true) : (insL g l T).filter K = T.filter K := by
  have e := part_eq (l := l) h
  conv => rhs; rw [← e]
  unfold insL
  rw [List.filter_append, List.filter_cons_of_neg hK, List.filter_append]
theorem od_in : ∀ (n : Nat) (e : Int), e ∈ odL g n ↔ 0 ≤ e ∧ e < n
  | 0, e => ⟨fun h => absurd h List.not_mem_nil, fun h => by omega⟩
  | n + 1, e => by
    unfold odL
    rw [ins_mem, od_in n e]
    omega
theorem od_pw : ∀ n : Nat, (∀ a b : Int, 0 ≤ a → a < b → b < n → ¬ g a = g b) → (odL g n).Pairwise (fun a b => g a < g b)
  | 0, _ => List.Pairwise.nil
  | n + 1, h => by
    unfold odL
    refine ins_pw (od_pw n (fun a b h0 h1 h2 => h a b h0 h1 (by omega))) (fun e he => ?_)
    rw [od_in] at he
    exact h e n he.1 he.2 (by omega)
theorem od_len : ∀ n : Nat, (∀ a b : Int, 0 ≤ a → a < b → b < n → ¬ g a = g b) → (odL g n).length = n
  | 0, _ => rfl
  | n + 1, h => by
    unfold odL
    rw [ins_len (od_pw n (fun a b h0 h1 h2 => h a b h0 h1 (by omega))), od_len n (fun a b h0 h1 h2 => h a b h0 h1 (by omega))]
theorem oW_ne {L : Nat → Int → Int} {z a b : Int} (h0 : 0 ≤ a) (h1 : a < b) (h2 : b < 16) : ¬ oW L z a = oW L z b := by
  unfold oW
  split <;> omega
/-- a known letter put into the array of those before it -/
theorem LA_ins {o o' : Int → Int} {k : Nat} (hk : k ≤ T.length) (hA : ∀ n : Nat, n < k → o' n = T.getD n 0) (hl : o' k = l) (hB : ∀ n : Nat, k < n → n ≤ T.length → o' n = T.getD (n - 1) 0) : LA o' (T.take k ++ l :: T.drop k) := by
  intro n hn
  rw [List.length_append, List.length_cons, List.length_take, List.length_drop] at hn
  rw [List.getD_eq_getElem?_getD]
  by_cases c : n < k
  · rw [List.getElem?_append_left (by rw [List.length_take]; omega), List.getElem?_take_of_lt c, hA n c, List.getD_eq_getElem?_getD]
  · rw [List.getElem?_append_right (by rw [List.length_take]; omega), List.length_take, Nat.min_eq_left hk]
    by_cases c2 : n = k
    · subst c2
      rw [Nat.sub_self, hl]; rfl
    · obtain ⟨i, hi⟩ : ∃ i, n = k + (i + 1) := ⟨n - k - 1, by omega⟩
      rw [hB n (by omega) (by omega), hi, show k + (i + 1) - k = i + 1 by omega, List.getElem?_cons_succ, List.getElem?_drop, List.getD_eq_getElem?_getD, show k + (i + 1) - 1 = k + i by omega]
end S839
