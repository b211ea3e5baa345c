set_option maxRecDepth 100000 in
theorem pg_kl0 : (List.range' 0 70).all (pg_chk1 318) = true := by decide +kernel
set_option maxRecDepth 100000 in
theorem pg_kl1 : (List.range' 70 70).all (pg_chk1 318) = true := by decide +kernel
set_option maxRecDepth 100000 in
theorem pg_kl2 : (List.range' 140 70).all (pg_chk1 318) = true := by decide +kernel
set_option maxRecDepth 100000 in
theorem pg_kl3 : (List.range' 210 70).all (pg_chk1 318) = true := by decide +kernel
set_option maxRecDepth 100000 in
theorem pg_kl4 : (List.range' 280 70).all (pg_chk1 318) = true := by decide +kernel
set_option maxRecDepth 100000 in
theorem pg_kl5 : (List.range' 350 70).all (pg_chk1 318) = true := by decide +kernel
set_option maxRecDepth 100000 in
theorem pg_kl6 : (List.range' 420 70).all (pg_chk1 318) = true := by decide +kernel
set_option maxRecDepth 100000 in
theorem pg_kl7 : (List.range' 490 70).all (pg_chk1 318) = true := by decide +kernel
set_option maxRecDepth 100000 in
theorem pg_kl8 : (List.range' 560 70).all (pg_chk1 318) = true := by decide +kernel
