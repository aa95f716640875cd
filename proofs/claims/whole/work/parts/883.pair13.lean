section S883
variable {d a D y y' : Nat} {I I1 I2 I' I'' : mMm} {br br' : Nat → Option mmO} {X : mmX} {L L' M M' : Nat → Int → Int} {r : mRu} {S : Int → Int} {len n w k v p q s i m : Int} {z : mmV} {args args' : List mmV} {Q : Option mmV → mmM → Prop}
theorem p_text {x : Int} (hn : n < 900) (hS : SC I S len) (h : CPr I br a r L n) : mmC (d + 13) 101 [mo 10 0, mv x] (I, mmRf a br, X) (pR X S len n (d + 13) 168 [mo 11 0, mv x]) := by
  obtain ⟨⟨k1, k2, k3, k4, k5, k6, k7⟩, m2, m3, m4, ⟨t1, t2, t3, t4, t5, t6, t7⟩, m6, m7⟩ := id h
  refine c_text m4 t3 (by omega) (fun c => ?_) (fun c1 c2 r0 e I1 hr0 he f1 v1 v2 v3 => ?_) (fun c1 c2 r0 mm r' I0 hr0 he f0 v1 v2 v3 hr' => ?_)
  · have : mmC (d + 5 + 8) 168 [mo 11 0, mv x] (I, mmRf a br, X) (fun u' μ' => u' = some (mv (-2)) ∧ ∃ I2 br2 a2, μ' = (I2, mmRf a2 br2, X) ∧ CPx I2 br2 a2 S len (n + 1)) := by
      have hx : x < 0 ∨ I 11 0 1 < x := by rw [← t2]; exact c
      refine m_text (r0 := fun t k => if t = 714 then -2 else if t = 6 then (if k = 0 then 3 else if k = 1 then 3 else if k = 4 then 4 else if k = 5 then 11 else if k = 6 then 60 else 0) else 0) ⟨⟨rfl, rfl, rfl, rfl, rfl, rfl, rfl, rfl⟩, rfl, rfl, rfl, fun _ _ _ => rfl⟩ (by rw [← t2]; exact t3) t6 t7 (fun _ => ⟨rfl, _, br, a, rfl, p_end2 hS h⟩) (fun q1 q2 => by omega) (fun q1 q2 => by omega)
    exact ⟨_, I, br, a, rfl, rfl, hS, this⟩
  · have g1 : ∀ t i k, ¬ (t = 8 ∨ t = 4 ∨ t = 2 ∨ (300 ≤ t ∧ t < 400) ∨ (i = 1 - a ∧ (t = 6 ∨ t = 1 ∨ (700 ≤ t ∧ t < 800) ∨ (200 ≤ t ∧ t < 300)))) → I1 t i k = I t i k := f1
    have e1200 : I1 1200 0 = I 900 0 := (funext fun k => g1 _ _ _ (by omega)).trans t1.symm
    have e111 : I1 11 0 1 = I 8 0 1 := (g1 _ _ _ (by omega)).trans t2.symm
    have : mmC (d + 5 + 8) 168 [mo 11 0, mv x] (I1, mmRf a br, X) (fun u' μ' => u' = some (mv (-1)) ∧ ∃ I2 br2 a2, μ' = (I2, mmRf a2 br2, X) ∧ CPx I2 br2 a2 S len (n + 1)) := by
      refine m_text hr0 (by rw [e111]; exact t3) (fun k hk => (g1 _ _ _ (by omega)).trans (t6 k hk)) (BL_ext (fun t k ht => g1 _ _ _ (by omega)) t7) (fun q => by omega) (fun _ _ e' I2 he' f2 u1 u2 u3 u4 u5 => ?_) (fun _ _ m' r' I2 he' => ?_)
      · rw [e1200, he] at he'
        cases he'
        refine ⟨rfl, I2, br, a, rfl, ?_⟩
        have g2 : ∀ t i k, ¬ (Mt t k ∨ (t = 11 ∧ (k = 1 ∨ k = 2))) → I2 t i k = I1 t i k := f2
        have g : ∀ t i k, ¬ (t = 8 ∨ t = 4 ∨ t = 2 ∨ (300 ≤ t ∧ t < 400) ∨ (i = 1 - a ∧ (t = 6 ∨ t = 1 ∨ (700 ≤ t ∧ t < 800) ∨ (200 ≤ t ∧ t < 300)))) → ¬ (Mt t k ∨ (t = 11 ∧ (k = 1 ∨ k = 2))) → I2 t i k = I t i k := fun t i k d1 d2 => (g2 t i k d2).trans (g1 t i k d1)
        have hE : LE L (Lm I2) := LE_ext (fun _ _ _ => rfl) (fun f k _ => Lm_ext (fun t k ht => g _ _ _ (by omega) (by unfold Mt; omega)) f k) m3
        have hR : RK r I2 := RK_fx m2.1 f2 f1
        have e11 : I2 10 0 11 = I 10 0 11 := g _ _ _ (by omega) (by unfold Mt; omega)
        refine ⟨SC_ext hS (fun t i k ht => g _ _ _ (by omega) (by unfold Mt; omega)), r, L, ⟨fun t k ht => (g t a k (by unfold rtag at ht; omega) (by unfold rtag at ht; unfold Mt; omega)).trans (k1 t k ht), k2, k3, CL_ext k4 (fun t k ht => g _ _ _ (by omega) (by unfold Mt; omega)), k5, by rw [e11]; exact k6, fun w hw => ?_⟩, ⟨hR, m2.2.1, ME_of hE, m2.2.2.2⟩, hE, m4, ⟨?_, ?_, ?_, ?_, ?_, fun k hk => (g _ _ _ (by omega) (by unfold Mt; omega)).trans (t6 k hk), u5⟩, IM_ext m6 (fun t i k ht => g _ _ _ (by omega) (by unfold Mt; omega)), by rw [e11]; omega⟩
        · rw [e11, g 5 _ _ (by omega) (by unfold Mt; omega)]
          refine ⟨(k7 w hw).1, fun q => ?_⟩
          have hv := (k7 w hw).2 q
          exact RowV_ext hv rfl (BV_ext (RV_B hv) (fun t z ht => g _ _ _ (by omega) (by unfold Mt; omega)) (g _ _ _ (by omega) (by unfold Mt; omega))) (fun t k ht => g _ _ _ (by omega) (by unfold Mt; omega))
        · funext k
          rw [g 900 0 k (by omega) (by unfold Mt; omega), g 1200 0 k (by omega) (by unfold Mt; omega), t1]
        · rw [u1, g2 8 0 1 (by unfold Mt; omega), v1]
        · rw [g2 8 0 1 (by unfold Mt; omega), v1]; omega
        · rw [u3, g2 8 0 7 (by unfold Mt; omega), v2]
        · rw [u4, g2 8 0 8 (by unfold Mt; omega), v3]
      · rw [e1200, he] at he'
        cases he'
    exact ⟨_, I1, br, a, rfl, rfl, SC_ext hS (fun t i k ht => g1 _ _ _ (by omega)), this⟩
  · have g0 : ∀ t i k, ¬ (t = 8 ∨ t = 4 ∨ t = 2 ∨ (300 ≤ t ∧ t < 400) ∨ (i = 1 - a ∧ (t = 6 ∨ t = 1 ∨ (700 ≤ t ∧ t < 800) ∨ (200 ≤ t ∧ t < 300)))) → I0 t i k = I t i k := f0
    generalize hI1 : mmU (mmU (mmU (mmU (mmU I0 3 0 0 0) 3 0 11 0) 3 0 14 0) 10 0 6 0) 10 0 11 (I 10 0 11 + 1) = I1
    have g1 : ∀ t i k, ¬ (t = 3 ∧ i = 0) → ¬ (t = 10 ∧ i = 0) → I1 t i k = I0 t i k := by
      intro t i k d1 d2
      rw [← hI1, uO (by omega), uO (by omega), uO (by omega), uO (by omega), uO (by omega)]
    have j0 : I1 3 0 0 = 0 := by rw [← hI1, uO (by omega), uO (by omega), uO (by omega), uO (by omega), uS]
    have j11 : I1 3 0 11 = 0 := by rw [← hI1, uO (by omega), uO (by omega), uO (by omega), uS]
    have j14 : I1 3 0 14 = 0 := by rw [← hI1, uO (by omega), uO (by omega), uS]
    have j6 : I1 10 0 6 = 0 := by rw [← hI1, uO (by omega), uS]
    have jc : I1 10 0 11 = I 10 0 11 + 1 := by rw [← hI1, uS]
    clear hI1
    have e1200 : I1 1200 0 = I 900 0 := (funext fun k => (g1 _ _ _ (by omega) (by omega)).trans (g0 _ _ _ (by omega))).trans t1.symm
    have e111 : I1 11 0 1 = I 8 0 1 := ((g1 _ _ _ (by omega) (by omega)).trans (g0 _ _ _ (by omega))).trans t2.symm
    have : mmC (d + 5 + 8) 168 [mo 11 0, mv x] (I1, mmRf (1 - a) br, X) (fun u' μ' => u' = some (mv mm) ∧ ∃ I2 br2 a2, μ' = (I2, mmRf a2 br2, X) ∧ CPx I2 br2 a2 S len (n + 1)) := by
      refine m_text hr0 (by rw [e111]; exact t3) (fun k hk => ((g1 _ _ _ (by omega) (by omega)).trans (g0 _ _ _ (by omega))).trans (t6 k hk)) (BL_ext (fun t k ht => (g1 _ _ _ (by omega) (by omega)).trans (g0 _ _ _ (by omega))) t7) (fun q => by omega) (fun _ _ e' I2 he' => ?_) (fun _ _ m' r'' I2 he' f2 u1 u2 u3 u4 u60 u68 u69 u82 hR hBL => ?_)
      · rw [e1200, he] at he'
        cases he'
      · rw [e1200, he] at he'
        cases he'
        refine ⟨rfl, I2, br, 1 - a, rfl, ?_⟩
        have g2 : ∀ t i k, ¬ (Mt t k ∨ (t = 11 ∧ (k = 1 ∨ k = 2 ∨ (12 ≤ k ∧ k ≤ 21) ∨ k = 60 ∨ k = 68 ∨ k = 69 ∨ k = 82)) ∨ (1235 ≤ t ∧ t ≤ 1246)) → I2 t i k = I1 t i k := f2
        have gA : ∀ t i k, t ≤ 10 ∨ (101 ≤ t ∧ t ≤ 1200) ∨ t = 1203 ∨ t = 1301 ∨ t = 1302 → I2 t i k = I1 t i k := fun t i k ht => g2 t i k (by unfold Mt; omega)
        have q0 : Lc I2 0 0 0 = 0 := (gA 3 0 0 (by omega)).trans j0
        have q11 : Lc I2 0 11 0 = 0 := (gA 3 0 11 (by omega)).trans j11
        have q14 : Lc I2 0 14 0 = 0 := (gA 3 0 14 (by omega)).trans j14
        have hW2 : LW (Lc I2 0) := ⟨by omega, by omega, by omega, fun l _ _ => by omega, fun l k _ _ _ _ => by omega, fun k _ _ => by omega⟩
        have hE2 : LE (Lc I2 0) (Lm I2) := ⟨u68.trans q0.symm, u69.trans q11.symm, u60.trans q14.symm, fun l _ _ => by omega, fun l k _ _ _ _ => by omega, fun k _ _ => by omega⟩
        have hBW := BW_of hR.1 hR.2.2
        have e11 : I2 10 0 11 = I 10 0 11 + 1 := (gA _ _ _ (by omega)).trans jc
        have e6 : I2 10 0 6 = 0 := (gA _ _ _ (by omega)).trans j6
        have gS : ∀ t i k, t = 1301 ∨ t = 1302 → I2 t i k = I t i k := fun t i k ht => ((gA _ _ _ (by omega)).trans (g1 _ _ _ (by omega) (by omega))).trans (g0 _ _ _ (by omega))
        refine ⟨SC_ext hS gS, r', Lc I2 0, ⟨fun t k ht => ((gA t _ k (by unfold rtag at ht; omega)).trans (g1 _ _ _ (by unfold rtag at ht; omega) (by unfold rtag at ht; omega))).trans (hr' t k ht), RQ_of hR.1 hR.2.1 hR.2.2, hBW, fun _ _ _ => rfl, hW2, by omega, fun w hw => ?_⟩, ⟨hR, hBW, ME_of hE2, hW2⟩, hE2, by omega, ⟨?_, ?_, ?_, ?_, ?_, fun k hk => (((gA _ _ _ (by omega)).trans (g1 _ _ _ (by omega) (by omega))).trans (g0 _ _ _ (by omega))).trans (t6 k hk), hBL⟩, ⟨u82.trans e6.symm, Or.inl e6, fun q => by omega⟩, by omega⟩
        · have e5 : I2 5 (w + 1) 0 = I 5 (w + 1) 0 := ((gA _ _ _ (by omega)).trans (g1 _ _ _ (by omega) (by omega))).trans (g0 _ _ _ (by omega))
          have := (k7 w hw).1
          rw [e5, e11]
          exact ⟨by omega, fun q => by omega⟩
        · have e9 : I2 900 0 = I 900 0 := funext fun k => ((gA _ _ _ (by omega)).trans (g1 _ _ _ (by omega) (by omega))).trans (g0 _ _ _ (by omega))
          have e12 : I2 1200 0 = I1 1200 0 := funext fun k => gA _ _ _ (by omega)
          rw [e9, e12, e1200]
        · rw [u1, gA 8 0 1 (by omega), g1 8 0 1 (by omega) (by omega), v1]
        · rw [gA 8 0 1 (by omega), g1 8 0 1 (by omega) (by omega), v1]; omega
        · rw [u3, gA 8 0 7 (by omega), g1 8 0 7 (by omega) (by omega), v2]
        · rw [u4, gA 8 0 8 (by omega), g1 8 0 8 (by omega) (by omega), v3]
    exact ⟨_, I1, br, 1 - a, rfl, rfl, SC_ext hS (fun t i k ht => (g1 _ _ _ (by omega) (by omega)).trans (g0 _ _ _ (by omega))), this⟩
end S883
