set_option maxRecDepth 100000 in
theorem pg_k0 : (List.range' 1 29).all (fun mi => (List.range' 0 (pg_len mi)).all (pg_chk1 mi)) = true := by decide +kernel
set_option maxRecDepth 100000 in
theorem pg_k1 : (List.range' 30 33).all (fun mi => (List.range' 0 (pg_len mi)).all (pg_chk1 mi)) = true := by decide +kernel
set_option maxRecDepth 100000 in
theorem pg_k2 : (List.range' 63 29).all (fun mi => (List.range' 0 (pg_len mi)).all (pg_chk1 mi)) = true := by decide +kernel
set_option maxRecDepth 100000 in
theorem pg_k3 : (List.range' 92 28).all (fun mi => (List.range' 0 (pg_len mi)).all (pg_chk1 mi)) = true := by decide +kernel
set_option maxRecDepth 100000 in
theorem pg_k4 : (List.range' 120 26).all (fun mi => (List.range' 0 (pg_len mi)).all (pg_chk1 mi)) = true := by decide +kernel
set_option maxRecDepth 100000 in
theorem pg_k5 : (List.range' 146 21).all (fun mi => (List.range' 0 (pg_len mi)).all (pg_chk1 mi)) = true := by decide +kernel
set_option maxRecDepth 100000 in
theorem pg_k6 : (List.range' 167 26).all (fun mi => (List.range' 0 (pg_len mi)).all (pg_chk1 mi)) = true := by decide +kernel
set_option maxRecDepth 100000 in
theorem pg_k7 : (List.range' 193 15).all (fun mi => (List.range' 0 (pg_len mi)).all (pg_chk1 mi)) = true := by decide +kernel
