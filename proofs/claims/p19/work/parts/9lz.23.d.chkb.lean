set_option maxRecDepth 100000 in
theorem pg_k0 : allUp (fun j => allUp (pg_chkN (1 + j)) (pg_len (1 + j))) 29 = true := by decide +kernel
set_option maxRecDepth 100000 in
theorem pg_k1 : allUp (fun j => allUp (pg_chkN (30 + j)) (pg_len (30 + j))) 33 = true := by decide +kernel
set_option maxRecDepth 100000 in
theorem pg_k2 : allUp (fun j => allUp (pg_chkN (63 + j)) (pg_len (63 + j))) 29 = true := by decide +kernel
set_option maxRecDepth 100000 in
theorem pg_k3 : allUp (fun j => allUp (pg_chkN (92 + j)) (pg_len (92 + j))) 28 = true := by decide +kernel
set_option maxRecDepth 100000 in
theorem pg_k4 : allUp (fun j => allUp (pg_chkN (120 + j)) (pg_len (120 + j))) 26 = true := by decide +kernel
set_option maxRecDepth 100000 in
theorem pg_k5 : allUp (fun j => allUp (pg_chkN (146 + j)) (pg_len (146 + j))) 21 = true := by decide +kernel
set_option maxRecDepth 100000 in
theorem pg_k6 : allUp (fun j => allUp (pg_chkN (167 + j)) (pg_len (167 + j))) 26 = true := by decide +kernel
set_option maxRecDepth 100000 in
theorem pg_k7 : allUp (fun j => allUp (pg_chkN (193 + j)) (pg_len (193 + j))) 15 = true := by decide +kernel
set_option maxRecDepth 100000 in
theorem pg_k8 : allUp (fun j => allUp (pg_chkN (208 + j)) (pg_len (208 + j))) 23 = true := by decide +kernel
set_option maxRecDepth 100000 in
theorem pg_k9 : allUp (fun j => allUp (pg_chkN (231 + j)) (pg_len (231 + j))) 26 = true := by decide +kernel
set_option maxRecDepth 100000 in
theorem pg_k10 : allUp (fun j => allUp (pg_chkN (257 + j)) (pg_len (257 + j))) 18 = true := by decide +kernel
set_option maxRecDepth 100000 in
theorem pg_k11 : allUp (fun j => allUp (pg_chkN (275 + j)) (pg_len (275 + j))) 16 = true := by decide +kernel
set_option maxRecDepth 100000 in
theorem pg_k12 : allUp (fun j => allUp (pg_chkN (291 + j)) (pg_len (291 + j))) 12 = true := by decide +kernel
set_option maxRecDepth 100000 in
theorem pg_k13 : allUp (fun j => allUp (pg_chkN (303 + j)) (pg_len (303 + j))) 15 = true := by decide +kernel
set_option maxRecDepth 100000 in
theorem pg_kl0 : allUp (fun j => pg_chkN 318 (0 + j)) 300 = true := by decide +kernel
set_option maxRecDepth 100000 in
theorem pg_kl1 : allUp (fun j => pg_chkN 318 (300 + j)) 300 = true := by decide +kernel
set_option maxRecDepth 100000 in
theorem pg_kl2 : allUp (fun j => pg_chkN 318 (600 + j)) 300 = true := by decide +kernel
set_option maxRecDepth 100000 in
theorem pg_kl3 : allUp (fun j => pg_chkN 318 (900 + j)) 300 = true := by decide +kernel
set_option maxRecDepth 100000 in
theorem pg_kl4 : allUp (fun j => pg_chkN 318 (1200 + j)) 300 = true := by decide +kernel
set_option maxRecDepth 100000 in
theorem pg_kl5 : allUp (fun j => pg_chkN 318 (1500 + j)) 300 = true := by decide +kernel
set_option maxRecDepth 100000 in
theorem pg_kl6 : allUp (fun j => pg_chkN 318 (1800 + j)) 300 = true := by decide +kernel
set_option maxRecDepth 100000 in
theorem pg_kl7 : allUp (fun j => pg_chkN 318 (2100 + j)) 300 = true := by decide +kernel
set_option maxRecDepth 100000 in
theorem pg_kl8 : allUp (fun j => pg_chkN 318 (2400 + j)) 85 = true := by decide +kernel
