/-- an instruction of the law is as the small machine takes it -/
def lwB (q : mmP × Nat) : Bool := mmOpB (mmOwn 257) (mmBy 257) (mmMl 257) (mmRt 257) false true (mmPs 257) q.2 q.1
theorem cl_0 : ((mmCd 257).zipIdx.take 240).all lwB = true := by decide +kernel
theorem cl_1 : (((mmCd 257).zipIdx.drop 240).take 240).all lwB = true := by decide +kernel
