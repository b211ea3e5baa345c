set_option maxRecDepth 100000 in
theorem pg_kl27 : (List.range' 1890 70).all (pg_chk1 318) = true := by decide +kernel
set_option maxRecDepth 100000 in
theorem pg_kl28 : (List.range' 1960 70).all (pg_chk1 318) = true := by decide +kernel
set_option maxRecDepth 100000 in
theorem pg_kl29 : (List.range' 2030 70).all (pg_chk1 318) = true := by decide +kernel
set_option maxRecDepth 100000 in
theorem pg_kl30 : (List.range' 2100 70).all (pg_chk1 318) = true := by decide +kernel
set_option maxRecDepth 100000 in
theorem pg_kl31 : (List.range' 2170 70).all (pg_chk1 318) = true := by decide +kernel
set_option maxRecDepth 100000 in
theorem pg_kl32 : (List.range' 2240 70).all (pg_chk1 318) = true := by decide +kernel
set_option maxRecDepth 100000 in
theorem pg_kl33 : (List.range' 2310 70).all (pg_chk1 318) = true := by decide +kernel
set_option maxRecDepth 100000 in
theorem pg_kl34 : (List.range' 2380 70).all (pg_chk1 318) = true := by decide +kernel
set_option maxRecDepth 100000 in
theorem pg_kl35 : (List.range' 2450 34).all (pg_chk1 318) = true := by decide +kernel
