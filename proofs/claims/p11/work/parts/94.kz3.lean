theorem kz_m1000000 : (-1000000 : Int32).toInt = -1000000 := by decide +kernel
theorem kz_90 : (90 : Int32).toInt = 90 := by decide +kernel
theorem kz_1690 : (1690 : Int32).toInt = 1690 := by decide +kernel
