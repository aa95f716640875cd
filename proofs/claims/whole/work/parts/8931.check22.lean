theorem cm_120 : ((lwY.drop 120).take 60).all lwB = true := by decide +kernel
theorem cm_180 : ((lwY.drop 180).take 60).all lwB = true := by decide +kernel
