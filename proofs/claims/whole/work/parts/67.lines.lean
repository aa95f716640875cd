noncomputable def lnF (T : Int → Int) (s p : Int) (r : mRu) (o : Int) : mPR (Int × mRu × Int) :=
  if ¬ tkS T s p = 1 then .inl (1, skE T s p) else
  if tkV T s p = 82888832 then bdF T s p r o else
  if tkV T s p = 136104960 then dyF T s p r o else
  if tkV T s p = 378998784 then kdF T s p r o else
  if tkV T s p = 404362240 then (if ¬ mmAnd o 16 = 0 then .inl (3, skE T s p) else .inr (tkN T s p, ru r 6 7 1, mmOr o 16)) else
  if tkV T s p = 404455424 then (if ¬ mmAnd o 2 = 0 then .inl (3, skE T s p) else pB (lwF T s 701 0 (tkN T s p) [] 0 0 r) fun x => .inr (x.1, x.2, mmOr o 2)) else
  if tkV T s p = 553242624 then psF T s p r o else
  if tkV T s p = 659011744 then snF T s p r o else .inl (1, skE T s p)
noncomputable def txF (T : Int → Int) (s : Int) : Nat → Int → mRu → Int → Int → mPR (Int × mRu)
  | 0, _, _, _, _ => .inl (0, 0)
  | f + 1, p, r, o, n => if tkS T s p = 0 then .inr (n, r) else pB (lnF T s p r o) fun x => if tkS T s x.1 = 3 ∧ tkV T s x.1 = 59 then txF T s f (tkN T s x.1) x.2.1 x.2.2 (n + 1) else .inl (1, skE T s x.1)
theorem txF_s {T : Int → Int} {s p o n : Int} {f : Nat} {r : mRu} : txF T s (f + 1) p r o n = if tkS T s p = 0 then .inr (n, r) else pB (lnF T s p r o) fun x => if tkS T s x.1 = 3 ∧ tkV T s x.1 = 59 then txF T s f (tkN T s x.1) x.2.1 x.2.2 (n + 1) else .inl (1, skE T s x.1) := rfl
def RX (r : mRu) (o : Int) : Prop := RW r ∧ (mmAnd o 2 = 0 → r 1 2 = 0) ∧ 0 ≤ o ∧ o < 32
theorem tb_0 {o b : Int} : tb o b = 0 ↔ mmAnd o b = 0 := by unfold tb; split <;> simp_all
theorem RX_or {r : mRu} {o : Int} (h : RX r o) (b : Fin 5) (hb : ¬ b = 1) : (mmAnd (mmOr o (2 ^ b.val : Nat)) 2 = 0 → r 1 2 = 0) ∧ 0 ≤ mmOr o (2 ^ b.val : Nat) ∧ mmOr o (2 ^ b.val : Nat) < 32 := by
  have := tb_or' h.2.2 b 1
  rw [if_neg hb] at this
  refine ⟨fun q => h.2.1 ?_, this.2⟩
  have q2 := tb_0.mpr q
  have e : ((2 ^ (1 : Fin 5).val : Nat) : Int) = 2 := rfl
  rw [e, q2] at this
  exact tb_0.mp this.1.symm
section S67
variable {T : Int → Int} {s p o op kn : Int} {P : List Int} {r : mRu}
theorem nm_p {lo hi : Int} {x : Int × Int} (hp : 0 ≤ p ∧ p ≤ s) (h : nmF T s lo hi p = .inr x) : p ≤ x.2 ∧ x.2 ≤ s ∧ lo ≤ x.1 ∧ x.1 ≤ hi := by
  have := tk_next (T := T) hp
  unfold nmF at h
  split at h
  · cases h
  split at h
  · cases h
    simp only
    omega
  · cases h
theorem of_p {x : Int × Int × Int} (hp : 0 ≤ p ∧ p ≤ s) (h : ofF T s p = .inr x) : p ≤ x.2.2 ∧ x.2.2 ≤ s ∧ -4 ≤ x.1 ∧ x.1 ≤ 4 := by
  have := tk_next (T := T) hp
  unfold ofF at h
  have hq : p ≤ ngQ T s p ∧ ngQ T s p ≤ s := by unfold ngQ; split <;> omega
  cases hn : nmF T s 0 4 (ngQ T s p) with
  | inl e => rw [hn, pB_l] at h; cases h
  | inr y =>
    rw [hn, pB_r] at h
    have := nm_p (by omega) hn
    cases h
    simp only
    unfold ngV
    split <;> omega
theorem st_p {k : Int} : ∀ (f : Nat) (n p : Int) (r : mRu) (p' : Int) (r' : mRu), 0 ≤ p → p ≤ s → stF T s k f n p r = .inr (p', r') → p ≤ p' ∧ p' ≤ s
  | 0, n, p, r, p', r', h0, h1, h => by
    unfold stF at h
    cases h
    omega
  | f + 1, n, p, r, p', r', h0, h1, h => by
    rw [stF_s] at h
    split at h
    · split at h
      · cases h
      · cases hx : ofF T s p with
        | inl e => rw [hx, pB_l] at h; cases h
        | inr x1 =>
          have a1 := of_p ⟨h0, h1⟩ hx
          rw [hx, pB_r] at h
          cases hy : ofF T s x1.2.2 with
          | inl e => rw [hy, pB_l] at h; cases h
          | inr y1 =>
            have a2 := of_p (by omega) hy
            rw [hy, pB_r] at h
            split at h
            · cases h
            · have := st_p f _ _ _ _ _ (by omega) (by omega) h
              omega
    · cases h
      omega
theorem lw_p : ∀ (f : Nat) (st p : Int) (P : List Int) (op kn : Int) (r : mRu) (p' : Int) (r' : mRu), 0 ≤ p → p ≤ s → LI P op kn r → lwF T s f st p P op kn r = .inr (p', r') → p ≤ p' ∧ p' ≤ s ∧ 0 ≤ r' 1 2 ∧ r' 1 2 ≤ 64
  | 0, st, p, P, op, kn, r, p', r', h0, h1, hi, h => by cases h
  | f + 1, st, p, P, op, kn, r, p', r', h0, h1, hi, h => by
    have hn := tk_next (T := T) ⟨h0, h1⟩
    rw [lwF_s] at h
    have fin : ∀ x : mLS, pB x (fun x => if x.1 = 3 then .inr (x.2.1, x.2.2.2.2.2) else lwF T s f x.1 x.2.1 x.2.2.1 x.2.2.2.1 x.2.2.2.2.1 x.2.2.2.2.2) = .inr (p', r') → (∀ st' p' P' op' kn' r', x = .inr (st', p', P', op', kn', r') → LI P' op' kn' r' ∧ p ≤ p' ∧ p' ≤ s) → p ≤ p' ∧ p' ≤ s ∧ 0 ≤ r' 1 2 ∧ r' 1 2 ≤ 64 := by
      intro x hx hL
      cases x with
      | inl e => cases hx
      | inr y =>
        obtain ⟨st1, p1, P1, op1, kn1, r1⟩ := y
        have hL := hL _ _ _ _ _ _ rfl
        rw [pB_r] at hx
        simp only at hx
        split at hx
        · cases hx
          obtain ⟨i1, i2, i3, i4, i5⟩ := hL.1
          have := nO_nS P1
          exact ⟨hL.2.1, hL.2.2, i3, by omega⟩
        · have := lw_p f _ _ _ _ _ _ _ _ (by omega) (by omega) hL.1 hx
          omega
    split at h
    · refine fin _ h (fun st' p' P' op' kn' r' e => ?_)
      have := lb_LI e hi
      refine ⟨this.1, ?_⟩
      rcases this.2 with q | q
      · omega
      · omega
    · refine fin _ h (fun st' p' P' op' kn' r' e => ?_)
      have := lo_LI e hi
      exact ⟨this.1, by omega, by omega⟩
theorem lw_fr {t : Nat} {x : Int} (ht : ¬ (t = 1 ∨ t = 200)) : ∀ (f : Nat) (st p : Int) (P : List Int) (op kn : Int) (r : mRu) (p' : Int) (r' : mRu), lwF T s f st p P op kn r = .inr (p', r') → r' t x = r t x
  | 0, st, p, P, op, kn, r, p', r', h => by cases h
  | f + 1, st, p, P, op, kn, r, p', r', h => by
    rw [lwF_s] at h
    have sg : ∀ (sign st p : Int) (P : List Int) (r1 : mRu) y, sgF T s sign st p P op kn r1 = .inr y → y.2.2.2.2.2 = r1 := by
      intro sign st p P r1 y hy
      unfold sgF at hy
      split at hy
      · cases hy
      · cases hy; rfl
    have fin : ∀ z : mLS, pB z (fun x => if x.1 = 3 then .inr (x.2.1, x.2.2.2.2.2) else lwF T s f x.1 x.2.1 x.2.2.1 x.2.2.2.1 x.2.2.2.2.1 x.2.2.2.2.2) = .inr (p', r') → (∀ y, z = .inr y → y.2.2.2.2.2 t x = r t x) → r' t x = r t x := by
      intro z hx hL
      cases z with
      | inl e => cases hx
      | inr y =>
        have hL := hL _ rfl
        rw [pB_r] at hx
        split at hx
        · cases hx
          exact hL
        · rw [lw_fr ht f _ _ _ _ _ _ _ _ hx]
          exact hL
    split at h
    · refine fin _ h (fun y e => ?_)
      unfold lbF at e
      split at e
      · cases e; exact stl_fr _ _ _ _ ht
      split at e
      · cases e; exact stl_fr _ _ _ _ ht
      split at e
      · cases e
      split at e
      · rw [sg _ _ _ _ _ _ e]; exact stl_fr _ _ _ _ ht
      split at e
      · cases e
      · rw [sg _ _ _ _ _ _ e]; exact stl_fr _ _ _ _ ht
    · refine fin _ h (fun y e => ?_)
      generalize (if st = 0 then (1 : Int) else 0) = b at e
      unfold loF at e
      split at e
      · split at e
        · cases e
        · cases e; rfl
      split at e
      · rw [sg _ _ _ _ _ _ e]
      split at e
      · cases e
      split at e
      · cases e
      · cases e; exact lad_o ht
theorem ln_RX {p' o' : Int} {r' : mRu} (hp : 0 ≤ p ∧ p ≤ s) (h : lnF T s p r o = .inr (p', r', o')) (hx : RX r o) : RX r' o' ∧ p ≤ p' ∧ p' ≤ s := by
  have hn := tk_next (T := T) hp
  have hn1 := tk_next (T := T) (s := s) (p := tkN T s p) (by omega)
  have hn2 := tk_next (T := T) (s := s) (p := tkN T s (tkN T s p)) (by omega)
  obtain ⟨⟨w0, w1, w2, w3, w4, w5, w6, w7⟩, x1, x2⟩ := id hx
  unfold lnF at h
  split at h
  · cases h
  split at h
  · unfold bdF at h
    split at h
    · cases h
    split at h
    · cases h
    cases hn : nmF T s 2 5 (tkN T s p) with
    | inl e => rw [hn, pB_l] at h; cases h
    | inr x =>
      rw [hn, pB_r] at h
      have a1 := nm_p (by omega) hn
      cases hm : nmF T s 2 5 x.2 with
      | inl e => rw [hm, pB_l] at h; cases h
      | inr y =>
        rw [hm, pB_r] at h
        have a2 := nm_p (by omega) hm
        cases h
        have hb := RX_or hx 0 (by decide)
        refine ⟨⟨⟨?_, ?_, w2, w3, w4, w5, w6, w7⟩, hb⟩, by omega, by omega⟩
        · show 2 ≤ x.1 ∧ x.1 ≤ 5; omega
        · show 2 ≤ y.1 ∧ y.1 ≤ 5; omega
  split at h
  · unfold dyF at h
    split at h
    · cases h
    cases hn : nmF T s 0 999 (tkN T s p) with
    | inl e => rw [hn, pB_l] at h; cases h
    | inr x =>
      rw [hn, pB_r] at h
      have a1 := nm_p (by omega) hn
      cases h
      have hb := RX_or hx 3 (by decide)
      refine ⟨⟨⟨w0, w1, w2, w3, w4, w5, ?_, w7⟩, hb⟩, by omega, by omega⟩
      show 0 ≤ x.1 ∧ x.1 ≤ 999; omega
  split at h
  · unfold kdF at h
    split at h
    · cases h
    split at h
    · cases h
    split at h
    · cases h
    split at h
    · cases h
    generalize hr1 : ru (ru (ru r 708 (r 6 2) (tkV T s (tkN T s p))) 709 (r 6 2) (bI (tkS T s (tkN T s (tkN T s p)) = 1 ∧ tkV T s (tkN T s (tkN T s p)) = 626478080))) 711 (r 6 2) 0 = r1 at h
    have e1 : ∀ t x, (t = 6 ∨ t = 1) → r1 t x = r t x := by
      intro t x ht
      rw [← hr1]
      unfold ru
      rw [if_neg (by omega), if_neg (by omega), if_neg (by omega)]
    cases hn : stF T s (r 6 2) 10 0 (tkN T s (tkN T s (tkN T s p))) r1 with
    | inl e => rw [hn, pB_l] at h; cases h
    | inr x =>
      obtain ⟨y1, y2⟩ := x
      rw [hn, pB_r] at h
      have a1 := st_p _ _ _ _ _ _ (by omega) (by omega) hn
      have a2 := stF_fr _ _ _ _ _ _ hn
      have hnx := tk_next (T := T) (s := s) (p := y1) (by omega)
      simp only at h
      injection h with h
      simp only [Prod.mk.injEq] at h
      obtain ⟨rfl, rfl, rfl⟩ := h
      have e2 : ∀ t x, (t = 6 ∨ t = 1) → y2 t x = r t x := by
        intro t x ht
        rw [a2 t x (by omega), e1 t x ht]
      have e3 : ∀ t x, (t = 6 ∨ t = 1) → ¬ (t = 6 ∧ x = 2) → ru (ru y2 710 (r 6 2) (bI (tkS T s y1 = 1 ∧ tkV T s y1 = 379001856))) 6 2 (y2 6 2 + 1) t x = r t x := by
        intro t x ht hne
        unfold ru
        rw [if_neg hne, if_neg (by omega), e2 t x ht]
      have e4 : ru (ru y2 710 (r 6 2) (bI (tkS T s y1 = 1 ∧ tkV T s y1 = 379001856))) 6 2 (y2 6 2 + 1) 6 2 = r 6 2 + 1 := by
        unfold ru
        rw [if_pos ⟨rfl, rfl⟩, e2 _ _ (by omega)]
      refine ⟨⟨⟨?_, ?_, ?_, ?_, ?_, ?_, ?_, ?_⟩, ?_, x2⟩, ?_⟩
      · rw [e3 _ _ (by omega) (by omega)]; exact w0
      · rw [e3 _ _ (by omega) (by omega)]; exact w1
      · rw [e4]; omega
      · rw [e3 _ _ (by omega) (by omega)]; exact w3
      · rw [e3 _ _ (by omega) (by omega)]; exact w4
      · rw [e3 _ _ (by omega) (by omega), e3 _ _ (by omega) (by omega)]; exact w5
      · rw [e3 _ _ (by omega) (by omega)]; exact w6
      · rw [e3 _ _ (by omega) (by omega)]; exact w7
      · rw [e3 _ _ (by omega) (by omega)]; exact x1
      · split <;> omega
  split at h
  · split at h
    · cases h
    · cases h
      have hb := RX_or hx 4 (by decide)
      refine ⟨⟨⟨w0, w1, w2, w3, w4, w5, w6, Or.inr rfl⟩, hb⟩, by omega, by omega⟩
  split at h
  · split at h
    · cases h
    · rename_i c
      cases hn : lwF T s 701 0 (tkN T s p) [] 0 0 r with
      | inl e => rw [hn, pB_l] at h; cases h
      | inr x =>
        obtain ⟨p1, r1⟩ := x
        rw [hn, pB_r] at h
        simp only at h
        injection h with h
        simp only [Prod.mk.injEq] at h
        obtain ⟨rfl, rfl, rfl⟩ := h
        have h12 := x1 (Classical.not_not.mp c)
        have a1 := lw_p 701 0 _ [] 0 0 _ _ _ (by omega) (by omega) ⟨rfl, by omega, by omega, by rw [h12]; rfl, by omega⟩ hn
        have e3 : ∀ x, r1 6 x = r 6 x := fun x => lw_fr (by omega) _ _ _ _ _ _ _ _ _ hn
        have hb := tb_or' x2 1 1
        rw [if_pos rfl] at hb
        refine ⟨⟨?_, ?_, hb.2⟩, by omega, by omega⟩
        · unfold RW
          simp only [e3]
          exact ⟨w0, w1, w2, w3, w4, w5, w6, w7⟩
        · intro q
          have q2 : tb (mmOr o 2) 2 = 0 := tb_0.mpr q
          have q3 : tb (mmOr o 2) 2 = 1 := hb.1
          omega
  split at h
  · unfold psF at h
    split at h
    · cases h
    cases hn : nmF T s 0 30 (tkN T s p) with
    | inl e => rw [hn, pB_l] at h; cases h
    | inr x =>
      rw [hn, pB_r] at h
      have a1 := nm_p (by omega) hn
      cases hm : nmF T s x.1 60 x.2 with
      | inl e => rw [hm, pB_l] at h; cases h
      | inr y =>
        rw [hm, pB_r] at h
        have a2 := nm_p (by omega) hm
        cases h
        have hb := RX_or hx 2 (by decide)
        refine ⟨⟨⟨w0, w1, w2, w3, ?_, ?_, w6, w7⟩, hb⟩, by omega, by omega⟩
        · show 0 ≤ x.1 ∧ x.1 ≤ 30; omega
        · show x.1 ≤ y.1 ∧ y.1 ≤ 60; omega
  split at h
  · unfold snF at h
    split at h
    · cases h
    split at h
    · cases h
    split at h
    · cases h
    cases hn : nmF T s 0 1 (tkN T s (tkN T s p)) with
    | inl e => rw [hn, pB_l] at h; cases h
    | inr w =>
      rw [hn, pB_r] at h
      have a1 := nm_p (by omega) hn
      cases hm : nmF T s 0 (r 6 0 - 1) w.2 with
      | inl e => rw [hm, pB_l] at h; cases h
      | inr x =>
        rw [hm, pB_r] at h
        have a2 := nm_p (by omega) hm
        cases hk : nmF T s 0 (r 6 1 - 1) x.2 with
        | inl e => rw [hk, pB_l] at h; cases h
        | inr y =>
          rw [hk, pB_r] at h
          have a3 := nm_p (by omega) hk
          split at h
          · cases h
          · injection h with h
            simp only [Prod.mk.injEq] at h
            obtain ⟨rfl, rfl, rfl⟩ := h
            have e3 : ∀ t z, (t = 6 ∨ t = 1) → ¬ (t = 6 ∧ z = 3) → adn r (fdF (r 708) (tkV T s (tkN T s p)) (r 6 2).toNat 0) w.1 (y.1 * r 6 0 + x.1) t z = r t z := by
              intro t z ht hne
              unfold adn
              split
              · unfold ru; rw [if_neg hne, if_neg (by omega)]
              · unfold ru; rw [if_neg (by omega), if_neg hne, if_neg (by omega)]
            have e4 : adn r (fdF (r 708) (tkV T s (tkN T s p)) (r 6 2).toNat 0) w.1 (y.1 * r 6 0 + x.1) 6 3 = r 6 3 + 1 := by
              unfold adn
              split
              · unfold ru; rw [if_pos ⟨rfl, rfl⟩]
              · unfold ru; rw [if_neg (by omega), if_pos ⟨rfl, rfl⟩]
            refine ⟨⟨⟨?_, ?_, ?_, ?_, ?_, ?_, ?_, ?_⟩, ?_, x2⟩, by omega, by omega⟩
            · rw [e3 _ _ (by omega) (by omega)]; exact w0
            · rw [e3 _ _ (by omega) (by omega)]; exact w1
            · rw [e3 _ _ (by omega) (by omega)]; exact w2
            · rw [e4]; omega
            · rw [e3 _ _ (by omega) (by omega)]; exact w4
            · rw [e3 _ _ (by omega) (by omega), e3 _ _ (by omega) (by omega)]; exact w5
            · rw [e3 _ _ (by omega) (by omega)]; exact w6
            · rw [e3 _ _ (by omega) (by omega)]; exact w7
            · rw [e3 _ _ (by omega) (by omega)]; exact x1
  · cases h
end S67
