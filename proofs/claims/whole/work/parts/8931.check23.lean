theorem cm_240 : ((lwY.drop 240).take 60).all lwB = true := by decide +kernel
theorem cm_300 : ((lwY.drop 300).take 60).all lwB = true := by decide +kernel
