theorem kz_28 : (28 : Int32).toInt = 28 := by decide +kernel
theorem kz_37 : (37 : Int32).toInt = 37 := by decide +kernel
theorem kz_108 : (108 : Int32).toInt = 108 := by decide +kernel
theorem kz_120 : (120 : Int32).toInt = 120 := by decide +kernel
theorem kz_270 : (270 : Int32).toInt = 270 := by decide +kernel
theorem kz_600 : (600 : Int32).toInt = 600 := by decide +kernel
theorem kz_1000000 : (1000000 : Int32).toInt = 1000000 := by decide +kernel
