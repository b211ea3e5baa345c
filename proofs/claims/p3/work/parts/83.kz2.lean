theorem kz_37 : (37 : Int32).toInt = 37 := by decide +kernel
theorem kz_108 : (108 : Int32).toInt = 108 := by decide +kernel
theorem kz_120 : (120 : Int32).toInt = 120 := by decide +kernel
theorem kz_1000000 : (1000000 : Int32).toInt = 1000000 := by decide +kernel
