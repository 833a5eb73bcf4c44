theorem t2 : xall (xSp 2) = true := by decide +kernel
theorem t5 : xall (xSp 5) = true := by decide +kernel
theorem t6 : xall (xSp 6) = true := by decide +kernel
theorem t9 : xall (xSp 9) = true := by decide +kernel
theorem t10 : xall (xSp 10) = true := by decide +kernel
theorem t34 : xall (xSp 34) = true := by decide +kernel
