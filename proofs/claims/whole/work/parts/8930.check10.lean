theorem ck_251 : mmChk 251 = true := by decide +kernel
theorem ck_252 : mmChk 252 = true := by decide +kernel
theorem ck_253 : mmChk 253 = true := by decide +kernel
theorem ck_254 : mmChk 254 = true := by decide +kernel
theorem ck_255 : mmChk 255 = true := by decide +kernel
