/-- an instruction of the reference's making is as the small machine takes it -/
def mkB (q : mmP × Nat) : Bool := mmOpB (mmOwn 142) (mmBy 142) (mmMl 142) (mmRt 142) (mmKd 142 == 2) (142 == mmLaw) (mmPs 142) q.2 q.1
theorem mk_0 : ((mmCd 142).zipIdx.take 140).all mkB = true := by decide +kernel
theorem mk_1 : (((mmCd 142).zipIdx.drop 140).take 140).all mkB = true := by decide +kernel
