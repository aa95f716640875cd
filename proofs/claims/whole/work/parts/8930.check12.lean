theorem mk_2 : ((((mmCd 142).zipIdx.drop 140).drop 140).take 140).all mkB = true := by decide +kernel
theorem mk_3 : ((((mmCd 142).zipIdx.drop 140).drop 140).drop 140).all mkB = true := by decide +kernel
theorem ck_142 : mmChk 142 = true := by
  unfold mmChk
  rw [Bool.and_eq_true]
  exact ⟨by decide +kernel, all_td (f := mkB) 140 mk_0 (all_td 140 mk_1 (all_td 140 mk_2 mk_3))⟩
