set_option maxRecDepth 100000 in
theorem pg_kl18 : (List.range' 1260 70).all (pg_chk1 318) = true := by decide +kernel
set_option maxRecDepth 100000 in
theorem pg_kl19 : (List.range' 1330 70).all (pg_chk1 318) = true := by decide +kernel
set_option maxRecDepth 100000 in
theorem pg_kl20 : (List.range' 1400 70).all (pg_chk1 318) = true := by decide +kernel
set_option maxRecDepth 100000 in
theorem pg_kl21 : (List.range' 1470 70).all (pg_chk1 318) = true := by decide +kernel
set_option maxRecDepth 100000 in
theorem pg_kl22 : (List.range' 1540 70).all (pg_chk1 318) = true := by decide +kernel
set_option maxRecDepth 100000 in
theorem pg_kl23 : (List.range' 1610 70).all (pg_chk1 318) = true := by decide +kernel
set_option maxRecDepth 100000 in
theorem pg_kl24 : (List.range' 1680 70).all (pg_chk1 318) = true := by decide +kernel
set_option maxRecDepth 100000 in
theorem pg_kl25 : (List.range' 1750 70).all (pg_chk1 318) = true := by decide +kernel
set_option maxRecDepth 100000 in
theorem pg_kl26 : (List.range' 1820 70).all (pg_chk1 318) = true := by decide +kernel
