theorem kz_37 : (37 : Int32).toInt = 37 := by decide +kernel
