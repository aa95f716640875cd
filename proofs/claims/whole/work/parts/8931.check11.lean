/-- an instruction of the law is as the small machine takes it -/
def lwB (q : mmP × Nat) : Bool := mmOpB (mmOwn 257) (mmBy 257) (mmMl 257) (mmRt 257) false true (mmPs 257) q.2 q.1
theorem cl_0 : ((mmCd 257).zipIdx.take 240).all lwB = true := by decide +kernel
theorem cl_1 : (((mmCd 257).zipIdx.drop 240).take 240).all lwB = true := by decide +kernel
theorem cl_2 : ((((mmCd 257).zipIdx.drop 240).drop 240).take 240).all lwB = true := by decide +kernel
theorem cl_3 : ((((mmCd 257).zipIdx.drop 240).drop 240).drop 240).all lwB = true := by decide +kernel
theorem cl_p : lwP.zipIdx.all lwB = true := by decide +kernel
theorem all_td {α : Type} {f : α → Bool} {X : List α} (n : Nat) (h1 : (X.take n).all f = true) (h2 : (X.drop n).all f = true) : X.all f = true := by
  rw [← List.take_append_drop n X, List.all_append, h1, h2]; rfl
theorem cl_all : (mmCd 257).zipIdx.all lwB = true := all_td 240 cl_0 (all_td 240 cl_1 (all_td 240 cl_2 cl_3))
theorem cl_op (n : Nat) (op : mmP) (h : (mmCd 257)[n]? = some op) : mmOpB (mmOwn 257) (mmBy 257) (mmMl 257) (mmRt 257) false true (mmPs 257) n op = true := List.all_eq_true.mp cl_all (op, n) (List.mem_zipIdx_iff_getElem?.mpr h)
theorem cl_pr (n : Nat) (op : mmP) (h : lwP[n]? = some op) : mmOpB (mmOwn 257) (mmBy 257) (mmMl 257) (mmRt 257) false true (mmPs 257) n op = true := List.all_eq_true.mp cl_p (op, n) (List.mem_zipIdx_iff_getElem?.mpr h)
