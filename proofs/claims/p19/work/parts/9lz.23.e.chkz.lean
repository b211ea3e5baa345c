theorem pg_all {mi pc : Nat} (h : mi < 319) (hp : pc < pg_len mi) : pg_chk1 mi pc = true := by
  refine pg_chkO h ?_
  rcases Nat.eq_zero_or_pos mi with h0 | h0
  · subst h0
    exact absurd (show pc < 0 from hp) (Nat.not_lt_zero _)
  rcases (show (1 ≤ mi ∧ mi < 1 + 29) ∨ (30 ≤ mi ∧ mi < 30 + 33) ∨ (63 ≤ mi ∧ mi < 63 + 29) ∨ (92 ≤ mi ∧ mi < 92 + 28) ∨ (120 ≤ mi ∧ mi < 120 + 26) ∨ (146 ≤ mi ∧ mi < 146 + 21) ∨ (167 ≤ mi ∧ mi < 167 + 26) ∨ (193 ≤ mi ∧ mi < 193 + 15) ∨ (208 ≤ mi ∧ mi < 208 + 23) ∨ (231 ≤ mi ∧ mi < 231 + 26) ∨ (257 ≤ mi ∧ mi < 257 + 18) ∨ (275 ≤ mi ∧ mi < 275 + 16) ∨ (291 ≤ mi ∧ mi < 291 + 12) ∨ (303 ≤ mi ∧ mi < 303 + 15) ∨ mi = 318 by omega) with q | q | q | q | q | q | q | q | q | q | q | q | q | q | q
  · have z := allUp_ok _ pg_k0 (mi - 1) (by omega)
    have z : allUp (pg_chkN (1 + (mi - 1))) (pg_len (1 + (mi - 1))) = true := z
    rw [show 1 + (mi - 1) = mi by omega] at z
    exact allUp_ok _ z pc hp
  · have z := allUp_ok _ pg_k1 (mi - 30) (by omega)
    have z : allUp (pg_chkN (30 + (mi - 30))) (pg_len (30 + (mi - 30))) = true := z
    rw [show 30 + (mi - 30) = mi by omega] at z
    exact allUp_ok _ z pc hp
  · have z := allUp_ok _ pg_k2 (mi - 63) (by omega)
    have z : allUp (pg_chkN (63 + (mi - 63))) (pg_len (63 + (mi - 63))) = true := z
    rw [show 63 + (mi - 63) = mi by omega] at z
    exact allUp_ok _ z pc hp
  · have z := allUp_ok _ pg_k3 (mi - 92) (by omega)
    have z : allUp (pg_chkN (92 + (mi - 92))) (pg_len (92 + (mi - 92))) = true := z
    rw [show 92 + (mi - 92) = mi by omega] at z
    exact allUp_ok _ z pc hp
  · have z := allUp_ok _ pg_k4 (mi - 120) (by omega)
    have z : allUp (pg_chkN (120 + (mi - 120))) (pg_len (120 + (mi - 120))) = true := z
    rw [show 120 + (mi - 120) = mi by omega] at z
    exact allUp_ok _ z pc hp
  · have z := allUp_ok _ pg_k5 (mi - 146) (by omega)
    have z : allUp (pg_chkN (146 + (mi - 146))) (pg_len (146 + (mi - 146))) = true := z
    rw [show 146 + (mi - 146) = mi by omega] at z
    exact allUp_ok _ z pc hp
  · have z := allUp_ok _ pg_k6 (mi - 167) (by omega)
    have z : allUp (pg_chkN (167 + (mi - 167))) (pg_len (167 + (mi - 167))) = true := z
    rw [show 167 + (mi - 167) = mi by omega] at z
    exact allUp_ok _ z pc hp
  · have z := allUp_ok _ pg_k7 (mi - 193) (by omega)
    have z : allUp (pg_chkN (193 + (mi - 193))) (pg_len (193 + (mi - 193))) = true := z
    rw [show 193 + (mi - 193) = mi by omega] at z
    exact allUp_ok _ z pc hp
  · have z := allUp_ok _ pg_k8 (mi - 208) (by omega)
    have z : allUp (pg_chkN (208 + (mi - 208))) (pg_len (208 + (mi - 208))) = true := z
    rw [show 208 + (mi - 208) = mi by omega] at z
    exact allUp_ok _ z pc hp
  · have z := allUp_ok _ pg_k9 (mi - 231) (by omega)
    have z : allUp (pg_chkN (231 + (mi - 231))) (pg_len (231 + (mi - 231))) = true := z
    rw [show 231 + (mi - 231) = mi by omega] at z
    exact allUp_ok _ z pc hp
  · have z := allUp_ok _ pg_k10 (mi - 257) (by omega)
    have z : allUp (pg_chkN (257 + (mi - 257))) (pg_len (257 + (mi - 257))) = true := z
    rw [show 257 + (mi - 257) = mi by omega] at z
    exact allUp_ok _ z pc hp
  · have z := allUp_ok _ pg_k11 (mi - 275) (by omega)
    have z : allUp (pg_chkN (275 + (mi - 275))) (pg_len (275 + (mi - 275))) = true := z
    rw [show 275 + (mi - 275) = mi by omega] at z
    exact allUp_ok _ z pc hp
  · have z := allUp_ok _ pg_k12 (mi - 291) (by omega)
    have z : allUp (pg_chkN (291 + (mi - 291))) (pg_len (291 + (mi - 291))) = true := z
    rw [show 291 + (mi - 291) = mi by omega] at z
    exact allUp_ok _ z pc hp
  · have z := allUp_ok _ pg_k13 (mi - 303) (by omega)
    have z : allUp (pg_chkN (303 + (mi - 303))) (pg_len (303 + (mi - 303))) = true := z
    rw [show 303 + (mi - 303) = mi by omega] at z
    exact allUp_ok _ z pc hp
  · subst q
    have hp : pc < 2485 := hp
    rcases (show (0 ≤ pc ∧ pc < 0 + 300) ∨ (300 ≤ pc ∧ pc < 300 + 300) ∨ (600 ≤ pc ∧ pc < 600 + 300) ∨ (900 ≤ pc ∧ pc < 900 + 300) ∨ (1200 ≤ pc ∧ pc < 1200 + 300) ∨ (1500 ≤ pc ∧ pc < 1500 + 300) ∨ (1800 ≤ pc ∧ pc < 1800 + 300) ∨ (2100 ≤ pc ∧ pc < 2100 + 300) ∨ (2400 ≤ pc ∧ pc < 2400 + 85) by omega) with q | q | q | q | q | q | q | q | q
    · have z := allUp_ok _ pg_kl0 (pc - 0) (by omega)
      have z : pg_chkN 318 (0 + (pc - 0)) = true := z
      rw [show 0 + (pc - 0) = pc by omega] at z
      exact z
    · have z := allUp_ok _ pg_kl1 (pc - 300) (by omega)
      have z : pg_chkN 318 (300 + (pc - 300)) = true := z
      rw [show 300 + (pc - 300) = pc by omega] at z
      exact z
    · have z := allUp_ok _ pg_kl2 (pc - 600) (by omega)
      have z : pg_chkN 318 (600 + (pc - 600)) = true := z
      rw [show 600 + (pc - 600) = pc by omega] at z
      exact z
    · have z := allUp_ok _ pg_kl3 (pc - 900) (by omega)
      have z : pg_chkN 318 (900 + (pc - 900)) = true := z
      rw [show 900 + (pc - 900) = pc by omega] at z
      exact z
    · have z := allUp_ok _ pg_kl4 (pc - 1200) (by omega)
      have z : pg_chkN 318 (1200 + (pc - 1200)) = true := z
      rw [show 1200 + (pc - 1200) = pc by omega] at z
      exact z
    · have z := allUp_ok _ pg_kl5 (pc - 1500) (by omega)
      have z : pg_chkN 318 (1500 + (pc - 1500)) = true := z
      rw [show 1500 + (pc - 1500) = pc by omega] at z
      exact z
    · have z := allUp_ok _ pg_kl6 (pc - 1800) (by omega)
      have z : pg_chkN 318 (1800 + (pc - 1800)) = true := z
      rw [show 1800 + (pc - 1800) = pc by omega] at z
      exact z
    · have z := allUp_ok _ pg_kl7 (pc - 2100) (by omega)
      have z : pg_chkN 318 (2100 + (pc - 2100)) = true := z
      rw [show 2100 + (pc - 2100) = pc by omega] at z
      exact z
    · have z := allUp_ok _ pg_kl8 (pc - 2400) (by omega)
      have z : pg_chkN 318 (2400 + (pc - 2400)) = true := z
      rw [show 2400 + (pc - 2400) = pc by omega] at z
      exact z
