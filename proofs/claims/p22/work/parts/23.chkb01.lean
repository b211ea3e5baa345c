set_option maxRecDepth 100000 in
theorem pg_k8 : (List.range' 208 23).all (fun mi => (List.range' 0 (pg_len mi)).all (pg_chk1 mi)) = true := by decide +kernel
set_option maxRecDepth 100000 in
theorem pg_k9 : (List.range' 231 26).all (fun mi => (List.range' 0 (pg_len mi)).all (pg_chk1 mi)) = true := by decide +kernel
set_option maxRecDepth 100000 in
theorem pg_k10 : (List.range' 257 18).all (fun mi => (List.range' 0 (pg_len mi)).all (pg_chk1 mi)) = true := by decide +kernel
set_option maxRecDepth 100000 in
theorem pg_k11 : (List.range' 275 16).all (fun mi => (List.range' 0 (pg_len mi)).all (pg_chk1 mi)) = true := by decide +kernel
set_option maxRecDepth 100000 in
theorem pg_k12 : (List.range' 291 12).all (fun mi => (List.range' 0 (pg_len mi)).all (pg_chk1 mi)) = true := by decide +kernel
set_option maxRecDepth 100000 in
theorem pg_k13 : (List.range' 303 15).all (fun mi => (List.range' 0 (pg_len mi)).all (pg_chk1 mi)) = true := by decide +kernel
