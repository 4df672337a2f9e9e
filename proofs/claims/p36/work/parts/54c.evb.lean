theorem ck60_100 : allC ck60 100 10 = true := by decide +kernel
theorem ck60_110 : allC ck60 110 10 = true := by decide +kernel
theorem ck60_120 : allC ck60 120 10 = true := by decide +kernel
theorem ck60_130 : allC ck60 130 10 = true := by decide +kernel
theorem ck60_140 : allC ck60 140 10 = true := by decide +kernel
