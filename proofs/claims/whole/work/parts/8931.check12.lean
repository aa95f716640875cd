theorem cl_2 : ((((mmCd 257).zipIdx.drop 240).drop 240).take 240).all lwB = true := by decide +kernel
theorem cl_3 : ((((mmCd 257).zipIdx.drop 240).drop 240).drop 240).all lwB = true := by decide +kernel
theorem cl_p : lwP.zipIdx.all lwB = true := by decide +kernel
theorem cl_all : (mmCd 257).zipIdx.all lwB = true := all_td 240 cl_0 (all_td 240 cl_1 (all_td 240 cl_2 cl_3))
theorem cl_op (n : Nat) (op : mmP) (h : (mmCd 257)[n]? = some op) : mmOpB (mmOwn 257) (mmBy 257) (mmMl 257) (mmRt 257) false true (mmPs 257) n op = true := List.all_eq_true.mp cl_all (op, n) (List.mem_zipIdx_iff_getElem?.mpr h)
theorem cl_pr (n : Nat) (op : mmP) (h : lwP[n]? = some op) : mmOpB (mmOwn 257) (mmBy 257) (mmMl 257) (mmRt 257) false true (mmPs 257) n op = true := List.all_eq_true.mp cl_p (op, n) (List.mem_zipIdx_iff_getElem?.mpr h)
