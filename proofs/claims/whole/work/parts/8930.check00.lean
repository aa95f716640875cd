theorem all_td {α : Type} {f : α → Bool} {X : List α} (n : Nat) (h1 : (X.take n).all f = true) (h2 : (X.drop n).all f = true) : X.all f = true := by
  rw [← List.take_append_drop n X, List.all_append, h1, h2]; rfl
