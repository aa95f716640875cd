theorem cl_p : lwP.zipIdx.all lwB = true := by decide +kernel
theorem cl_y : lwY.all lwB = true := all_dm 0 60 cm_0 (all_dm 60 60 cm_60 (all_dm 120 60 cm_120 (all_dm 180 60 cm_180 (all_dm 240 60 cm_240 (all_dm 300 60 cm_300 (all_dm 360 60 cm_360 (cm_420)))))))
theorem cl_all : (mmCd 257).zipIdx.all lwB = true := all_td 240 cl_0 (all_td 240 cl_1 cl_y)
theorem cl_op (n : Nat) (op : mmP) (h : (mmCd 257)[n]? = some op) : mmOpB (mmOwn 257) (mmBy 257) (mmMl 257) (mmRt 257) false true (mmPs 257) n op = true := List.all_eq_true.mp cl_all (op, n) (List.mem_zipIdx_iff_getElem?.mpr h)
theorem cl_pr (n : Nat) (op : mmP) (h : lwP[n]? = some op) : mmOpB (mmOwn 257) (mmBy 257) (mmMl 257) (mmRt 257) false true (mmPs 257) n op = true := List.all_eq_true.mp cl_p (op, n) (List.mem_zipIdx_iff_getElem?.mpr h)
