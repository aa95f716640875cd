theorem cm_360 : ((lwY.drop 360).take 60).all lwB = true := by decide +kernel
theorem cm_420 : (lwY.drop 420).all lwB = true := by decide +kernel
