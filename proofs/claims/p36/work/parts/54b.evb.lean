theorem ck60_50 : allC ck60 50 10 = true := by decide +kernel
theorem ck60_60 : allC ck60 60 10 = true := by decide +kernel
theorem ck60_70 : allC ck60 70 10 = true := by decide +kernel
theorem ck60_80 : allC ck60 80 10 = true := by decide +kernel
theorem ck60_90 : allC ck60 90 10 = true := by decide +kernel
