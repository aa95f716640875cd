/-! MOVES, purely: r the rules, B the board (-2: empty), m how many moves are made -/
theorem evS_F {K F F' V : Int → Int} (hF : ∀ k, 0 ≤ k → k < 8 → F k = F' k) : ∀ n : Nat, evS K F V n = evS K F' V n
  | 0 => rfl
  | n + 1 => by
    rw [evS_s, evS_s, evS_F hF n]
    unfold evT
    by_cases h : -8 ≤ K n
    · by_cases h2 : 0 ≤ K n
      · simp only [h, h2, if_true]
      · rw [hF (-1 - K n) (by omega) (by omega)]
    · simp only [h, if_false]
theorem evS_V {K F V V' : Int → Int} : ∀ n : Nat, (evS K F V n).1 = (evS K F V' n).1 ∧ ∀ k, 0 ≤ k → k < (evS K F V n).1 → (evS K F V n).2 k = (evS K F V' n).2 k
  | 0 => ⟨rfl, fun k h0 h1 => by unfold evS at h1; omega⟩
  | n + 1 => by
    have ih := evS_V (K := K) (F := F) (V := V) (V' := V') n
    rw [evS_s, evS_s]
    generalize evS K F V n = E at *
    generalize evS K F V' n = E' at *
    obtain ⟨ih1, ih2⟩ := ih
    have hw := evW_12 (k := K n)
    by_cases c1 : E.1 < 0
    · have c1' : E'.1 < 0 := by omega
      unfold evT
      rw [if_pos c1, if_pos c1']
      exact ⟨ih1, ih2⟩
    · have c1' : ¬ E'.1 < 0 := by omega
      by_cases c2 : -8 ≤ K n
      · unfold evT
        rw [if_neg c1, if_neg c1', if_pos c2, if_pos c2]
        refine ⟨by simp only; omega, fun k h0 h1 => ?_⟩
        simp only at h1 ⊢
        unfold fup
        rw [← ih1]
        split
        · rfl
        · exact ih2 k h0 (by omega)
      · by_cases c3 : E.1 - evW (K n) < 0
        · have c3' : E'.1 - evW (K n) < 0 := by omega
          unfold evT
          rw [if_neg c1, if_neg c1', if_neg c2, if_neg c2, if_pos c3, if_pos c3']
          exact ⟨rfl, fun k h0 h1 => by simp only at h1; omega⟩
        · have c3' : ¬ E'.1 - evW (K n) < 0 := by omega
          have ej : evJ (K n) E = evJ (K n) E' := by
            unfold evJ
            rw [← ih1, ih2 (E.1 - evW (K n)) (by omega) (by omega)]
            split
            · rfl
            · rw [ih2 (E.1 - 1) (by omega) (by omega)]
          unfold evT
          rw [if_neg c1, if_neg c1', if_neg c2, if_neg c2, if_neg c3, if_neg c3', ← ej]
          by_cases c4 : -1000000000000 ≤ evJ (K n) E ∧ evJ (K n) E ≤ 1000000000000
          · rw [if_pos c4, if_pos c4]
            refine ⟨by simp only; omega, fun k h0 h1 => ?_⟩
            simp only at h1 ⊢
            unfold fup
            rw [← ih1]
            split
            · rfl
            · exact ih2 k h0 (by omega)
          · rw [if_neg c4, if_neg c4]
            exact ⟨rfl, fun k h0 h1 => by simp only at h1; omega⟩
/-- the value of the law with these facts -/
def lwV (r : mRu) (F : Int → Int) : Int := wrV (evS (r 200) F (fun _ => 0) (r 1 2).toNat)
theorem lwV_eq {r : mRu} {F F' V : Int → Int} (hF : ∀ k, 0 ≤ k → k < 8 → F' k = F k) : wrV (evS (r 200) F' V (r 1 2).toNat) = lwV r F := by
  unfold lwV
  rw [evS_F hF]
  have h := evS_V (K := r 200) (F := F) (V := V) (V' := fun _ => 0) (r 1 2).toNat
  unfold wrV
  rw [← h.1]
  split
  · exact h.2 0 (by omega) (by omega)
  · rfl
abbrev mBd : Type := Int → Int
def ptX (r : mRu) (fr p n : Int) : Int := fr % r 6 0 + n * r 712 p
def ptY (r : mRu) (fr p n : Int) : Int := fr / r 6 0 + n * r 713 p
def ptT (r : mRu) (fr p n : Int) : Int := ptY r fr p n * r 6 0 + ptX r fr p n
abbrev inB (r : mRu) (x y : Int) : Prop := 0 ≤ x ∧ x < r 6 0 ∧ 0 ≤ y ∧ y < r 6 1
/-- stones of a player on the first n points -/
def cS (B : mBd) (w : Int) : Nat → Int
  | 0 => 0
  | n + 1 => cS B w n + (if B n / 4 = w then 1 else 0)
def fcF (r : mRu) (B : mBd) (m fr to far k : Int) : Int :=
  if k = 0 then (if B to / 4 = 1 - m % 2 then 1 else 0) else if k = 1 then far else if k = 2 then (if m % 2 = 0 then to / r 6 0 else r 6 1 - 1 - to / r 6 0) else if k = 3 then B fr % 4 else if k = 4 then cS B (m % 2) 25 else if k = 5 then cS B (1 - m % 2) 25 else if k = 6 then m else (if r 710 (B fr % 4) = 0 then 0 else 1)
abbrev okM (r : mRu) (B : mBd) (m fr to far : Int) : Prop := ¬ B to / 4 = m % 2 ∧ ¬ lwV r (fcF r B m fr to far) = 0
def adM (r : mRu) (B : mBd) (m fr to far : Int) (L : List Int) : List Int := if okM r B m fr to far ∧ ¬ (fr * 64 + to) ∈ L then L ++ [fr * 64 + to] else L
def stepL (r : mRu) (B : mBd) (m fr p : Int) : Nat → Int → List Int → List Int
  | 0, _, L => L
  | q + 1, far, L => if inB r (ptX r fr p far) (ptY r fr p far) then (if B (ptT r fr p far) = -2 then stepL r B m fr p q (far + 1) (adM r B m fr (ptT r fr p far) far L) else adM r B m fr (ptT r fr p far) far L) else L
def tmF (r : mRu) (k : Int) : Nat := if r 709 k = 0 then 1 else 4
def fromL (r : mRu) (B : mBd) (m fr : Int) : Nat → Int → List Int → List Int
  | 0, _, L => L
  | c + 1, s, L => fromL r B m fr c (s + 1) (stepL r B m fr (B fr % 4 * 8 + s) (tmF r (B fr % 4)) 1 L)
def mvF (r : mRu) (B : mBd) (m fr : Int) (L : List Int) : List Int := if (0 ≤ fr ∧ fr < r 6 0 * r 6 1) ∧ B fr / 4 = m % 2 then fromL r B m fr (r 711 (B fr % 4)).toNat 0 L else L
def mvL (r : mRu) (B : mBd) (m : Int) : Nat → List Int
  | 0 => []
  | n + 1 => mvF r B m n (mvL r B m n)
theorem stepL_s {r : mRu} {B : mBd} {m fr p far : Int} {q : Nat} {L : List Int} : stepL r B m fr p (q + 1) far L = if inB r (ptX r fr p far) (ptY r fr p far) then (if B (ptT r fr p far) = -2 then stepL r B m fr p q (far + 1) (adM r B m fr (ptT r fr p far) far L) else adM r B m fr (ptT r fr p far) far L) else L := rfl
theorem fromL_s {r : mRu} {B : mBd} {m fr s : Int} {c : Nat} {L : List Int} : fromL r B m fr (c + 1) s L = fromL r B m fr c (s + 1) (stepL r B m fr (B fr % 4 * 8 + s) (tmF r (B fr % 4)) 1 L) := rfl
/-- how many points have a move from fr in the list -/
def ctM (fr : Int) (L : List Int) : Nat → Int
  | 0 => 0
  | n + 1 => ctM fr L n + (if fr * 64 + n ∈ L then 1 else 0)
theorem ctM_in {fr : Int} {L : List Int} : ∀ n : Nat, 0 ≤ ctM fr L n ∧ ctM fr L n ≤ n
  | 0 => by unfold ctM; omega
  | n + 1 => by
    have := ctM_in (fr := fr) (L := L) n
    unfold ctM
    split <;> omega
theorem ctM_ap {fr to : Int} {L : List Int} (h0 : 0 ≤ to) (hn : ¬ (fr * 64 + to) ∈ L) : ∀ n : Nat, ctM fr (L ++ [fr * 64 + to]) n = ctM fr L n + (if to < n then 1 else 0)
  | 0 => by unfold ctM; rw [if_neg (by omega)]; rfl
  | n + 1 => by
    have ih := ctM_ap h0 hn n
    unfold ctM
    rw [ih]
    by_cases c : to = n
    · subst c
      rw [if_neg (by omega), if_pos (by simp), if_neg hn, if_pos (by omega)]
    · have e : (fr * 64 + (n : Int) ∈ L ++ [fr * 64 + to]) ↔ fr * 64 + (n : Int) ∈ L := by
        rw [List.mem_append, List.mem_singleton]
        constructor
        · rintro (q | q)
          · exact q
          · omega
        · exact Or.inl
      simp only [e]
      by_cases c2 : to < n
      · rw [if_pos c2, if_pos (show to < ((n + 1 : Nat) : Int) by omega)]; omega
      · rw [if_neg c2, if_neg (show ¬ to < ((n + 1 : Nat) : Int) by omega)]; omega
theorem inB_pt {r : mRu} (hw : 2 ≤ r 6 0 ∧ r 6 0 ≤ 5) (hh : 2 ≤ r 6 1 ∧ r 6 1 ≤ 5) {fr p n : Int} (h : inB r (ptX r fr p n) (ptY r fr p n)) : 0 ≤ ptT r fr p n ∧ ptT r fr p n < r 6 0 * r 6 1 ∧ r 6 0 * r 6 1 ≤ 25 ∧ ptT r fr p n / r 6 0 = ptY r fr p n ∧ ptT r fr p n % r 6 0 = ptX r fr p n := by
  have h1 := pt_in hw hh ⟨h.1, by omega⟩ ⟨h.2.2.1, by have := h.2.2.2; omega⟩
  unfold ptT
  refine ⟨h1.1, h1.2.1, h1.2.2.1, ?_, ?_⟩
  · rw [Int.add_comm, Int.add_mul_ediv_right _ _ (by omega), Int.ediv_eq_zero_of_lt h.1 h.2.1]; omega
  · rw [Int.add_comm, Int.add_mul_emod_self_right, Int.emod_eq_of_lt h.1 h.2.1]
theorem adM_in {r : mRu} {B : mBd} {m fr to far : Int} {L : List Int} (h0 : 0 ≤ to ∧ to < 25) : ((adM r B m fr to far L).length : Int) - ctM fr (adM r B m fr to far L) 25 = L.length - ctM fr L 25 ∧ L.length ≤ (adM r B m fr to far L).length := by
  unfold adM
  split
  · rename_i c
    rw [ctM_ap h0.1 c.2, if_pos (by omega), List.length_append, List.length_singleton]
    omega
  · exact ⟨rfl, Nat.le_refl _⟩
theorem stepL_in {r : mRu} (hw : 2 ≤ r 6 0 ∧ r 6 0 ≤ 5) (hh : 2 ≤ r 6 1 ∧ r 6 1 ≤ 5) {B : mBd} {m fr p : Int} : ∀ (q : Nat) (far : Int) (L : List Int), ((stepL r B m fr p q far L).length : Int) - ctM fr (stepL r B m fr p q far L) 25 = L.length - ctM fr L 25 ∧ L.length ≤ (stepL r B m fr p q far L).length
  | 0, _, L => ⟨rfl, Nat.le_refl _⟩
  | q + 1, far, L => by
    rw [stepL_s]
    split
    · rename_i c
      have hp := inB_pt hw hh c
      have ha := adM_in (r := r) (B := B) (m := m) (fr := fr) (far := far) (L := L) (show 0 ≤ ptT r fr p far ∧ ptT r fr p far < 25 by omega)
      split
      · have := stepL_in hw hh (B := B) (m := m) (fr := fr) (p := p) q (far + 1) (adM r B m fr (ptT r fr p far) far L)
        omega
      · exact ha
    · exact ⟨rfl, Nat.le_refl _⟩
theorem fromL_in {r : mRu} (hw : 2 ≤ r 6 0 ∧ r 6 0 ≤ 5) (hh : 2 ≤ r 6 1 ∧ r 6 1 ≤ 5) {B : mBd} {m fr : Int} : ∀ (c : Nat) (s : Int) (L : List Int), ((fromL r B m fr c s L).length : Int) - ctM fr (fromL r B m fr c s L) 25 = L.length - ctM fr L 25 ∧ L.length ≤ (fromL r B m fr c s L).length
  | 0, _, L => ⟨rfl, Nat.le_refl _⟩
  | c + 1, s, L => by
    rw [fromL_s]
    have h1 := fromL_in hw hh (B := B) (m := m) (fr := fr) c (s + 1) (stepL r B m fr (B fr % 4 * 8 + s) (tmF r (B fr % 4)) 1 L)
    have h2 := stepL_in hw hh (B := B) (m := m) (fr := fr) (p := B fr % 4 * 8 + s) (tmF r (B fr % 4)) 1 L
    omega
theorem mvF_in {r : mRu} (hw : 2 ≤ r 6 0 ∧ r 6 0 ≤ 5) (hh : 2 ≤ r 6 1 ∧ r 6 1 ≤ 5) {B : mBd} {m fr : Int} {L : List Int} : L.length ≤ (mvF r B m fr L).length ∧ ((mvF r B m fr L).length : Int) ≤ L.length + (if B fr / 4 = m % 2 then 25 else 0) := by
  unfold mvF
  split
  · rename_i c
    rw [if_pos c.2]
    have h1 := fromL_in hw hh (B := B) (m := m) (fr := fr) (r 711 (B fr % 4)).toNat 0 L
    have h2 := ctM_in (fr := fr) (L := fromL r B m fr (r 711 (B fr % 4)).toNat 0 L) 25
    have h3 := ctM_in (fr := fr) (L := L) 25
    exact ⟨h1.2, by omega⟩
  · refine ⟨Nat.le_refl _, ?_⟩
    split <;> omega
theorem mvL_in {r : mRu} (hw : 2 ≤ r 6 0 ∧ r 6 0 ≤ 5) (hh : 2 ≤ r 6 1 ∧ r 6 1 ≤ 5) {B : mBd} {m : Int} : ∀ n : Nat, ((mvL r B m n).length : Int) ≤ 25 * cS B (m % 2) n
  | 0 => by unfold mvL cS; simp
  | n + 1 => by
    have ih := mvL_in hw hh (B := B) (m := m) n
    have h := mvF_in hw hh (B := B) (m := m) (fr := n) (L := mvL r B m n)
    show ((mvF r B m n (mvL r B m n)).length : Int) ≤ 25 * (cS B (m % 2) n + (if B n / 4 = m % 2 then 1 else 0))
    by_cases c : B n / 4 = m % 2
    · rw [if_pos c] at h ⊢; omega
    · rw [if_neg c] at h ⊢; omega
