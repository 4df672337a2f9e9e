theorem ck60_0 : allC ck60 0 10 = true := by decide +kernel
theorem ck60_10 : allC ck60 10 10 = true := by decide +kernel
theorem ck60_20 : allC ck60 20 10 = true := by decide +kernel
theorem ck60_30 : allC ck60 30 10 = true := by decide +kernel
theorem ck60_40 : allC ck60 40 10 = true := by decide +kernel
