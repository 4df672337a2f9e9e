theorem ck60_150 : allC ck60 150 10 = true := by decide +kernel
theorem ck60_160 : allC ck60 160 10 = true := by decide +kernel
theorem ck60_170 : allC ck60 170 10 = true := by decide +kernel
theorem ck60_180 : allC ck60 180 10 = true := by decide +kernel
theorem ck60_190 : allC ck60 190 10 = true := by decide +kernel
