set_option maxRecDepth 100000 in
theorem pg_kl9 : (List.range' 630 70).all (pg_chk1 318) = true := by decide +kernel
set_option maxRecDepth 100000 in
theorem pg_kl10 : (List.range' 700 70).all (pg_chk1 318) = true := by decide +kernel
set_option maxRecDepth 100000 in
theorem pg_kl11 : (List.range' 770 70).all (pg_chk1 318) = true := by decide +kernel
set_option maxRecDepth 100000 in
theorem pg_kl12 : (List.range' 840 70).all (pg_chk1 318) = true := by decide +kernel
set_option maxRecDepth 100000 in
theorem pg_kl13 : (List.range' 910 70).all (pg_chk1 318) = true := by decide +kernel
set_option maxRecDepth 100000 in
theorem pg_kl14 : (List.range' 980 70).all (pg_chk1 318) = true := by decide +kernel
set_option maxRecDepth 100000 in
theorem pg_kl15 : (List.range' 1050 70).all (pg_chk1 318) = true := by decide +kernel
set_option maxRecDepth 100000 in
theorem pg_kl16 : (List.range' 1120 70).all (pg_chk1 318) = true := by decide +kernel
set_option maxRecDepth 100000 in
theorem pg_kl17 : (List.range' 1190 70).all (pg_chk1 318) = true := by decide +kernel
