def lwY : List (mmP × Nat) := ((mmCd 257).zipIdx.drop 240).drop 240
theorem all_dm {α : Type} {f : α → Bool} {X : List α} (n m : Nat) (h1 : ((X.drop n).take m).all f = true) (h2 : (X.drop (n + m)).all f = true) : (X.drop n).all f = true := by
  refine all_td m h1 ?_
  rw [List.drop_drop]
  first | exact h2 | (rw [Nat.add_comm]; exact h2)
theorem cm_0 : ((lwY.drop 0).take 60).all lwB = true := by decide +kernel
theorem cm_60 : ((lwY.drop 60).take 60).all lwB = true := by decide +kernel
