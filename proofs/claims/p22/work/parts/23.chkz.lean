theorem pg_all {mi pc : Nat} (h : mi < 319) (hp : pc < pg_len mi) : pg_chk1 mi pc = true := by
  rcases Nat.eq_zero_or_pos mi with h0 | h0
  · subst h0
    exact absurd (show pc < 0 from hp) (Nat.not_lt_zero _)
  rcases (show (1 ≤ mi ∧ mi < 1 + 29) ∨ (30 ≤ mi ∧ mi < 30 + 33) ∨ (63 ≤ mi ∧ mi < 63 + 29) ∨ (92 ≤ mi ∧ mi < 92 + 28) ∨ (120 ≤ mi ∧ mi < 120 + 26) ∨ (146 ≤ mi ∧ mi < 146 + 21) ∨ (167 ≤ mi ∧ mi < 167 + 26) ∨ (193 ≤ mi ∧ mi < 193 + 15) ∨ (208 ≤ mi ∧ mi < 208 + 23) ∨ (231 ≤ mi ∧ mi < 231 + 26) ∨ (257 ≤ mi ∧ mi < 257 + 18) ∨ (275 ≤ mi ∧ mi < 275 + 16) ∨ (291 ≤ mi ∧ mi < 291 + 12) ∨ (303 ≤ mi ∧ mi < 303 + 15) ∨ mi = 318 by omega) with q | q | q | q | q | q | q | q | q | q | q | q | q | q | q
  · exact pg_range (pg_range pg_k0 q.1 q.2) (Nat.zero_le _) (by omega)
  · exact pg_range (pg_range pg_k1 q.1 q.2) (Nat.zero_le _) (by omega)
  · exact pg_range (pg_range pg_k2 q.1 q.2) (Nat.zero_le _) (by omega)
  · exact pg_range (pg_range pg_k3 q.1 q.2) (Nat.zero_le _) (by omega)
  · exact pg_range (pg_range pg_k4 q.1 q.2) (Nat.zero_le _) (by omega)
  · exact pg_range (pg_range pg_k5 q.1 q.2) (Nat.zero_le _) (by omega)
  · exact pg_range (pg_range pg_k6 q.1 q.2) (Nat.zero_le _) (by omega)
  · exact pg_range (pg_range pg_k7 q.1 q.2) (Nat.zero_le _) (by omega)
  · exact pg_range (pg_range pg_k8 q.1 q.2) (Nat.zero_le _) (by omega)
  · exact pg_range (pg_range pg_k9 q.1 q.2) (Nat.zero_le _) (by omega)
  · exact pg_range (pg_range pg_k10 q.1 q.2) (Nat.zero_le _) (by omega)
  · exact pg_range (pg_range pg_k11 q.1 q.2) (Nat.zero_le _) (by omega)
  · exact pg_range (pg_range pg_k12 q.1 q.2) (Nat.zero_le _) (by omega)
  · exact pg_range (pg_range pg_k13 q.1 q.2) (Nat.zero_le _) (by omega)
  · subst q
    have hp : pc < 2484 := hp
    rcases (show (0 ≤ pc ∧ pc < 0 + 70) ∨ (70 ≤ pc ∧ pc < 70 + 70) ∨ (140 ≤ pc ∧ pc < 140 + 70) ∨ (210 ≤ pc ∧ pc < 210 + 70) ∨ (280 ≤ pc ∧ pc < 280 + 70) ∨ (350 ≤ pc ∧ pc < 350 + 70) ∨ (420 ≤ pc ∧ pc < 420 + 70) ∨ (490 ≤ pc ∧ pc < 490 + 70) ∨ (560 ≤ pc ∧ pc < 560 + 70) ∨ (630 ≤ pc ∧ pc < 630 + 70) ∨ (700 ≤ pc ∧ pc < 700 + 70) ∨ (770 ≤ pc ∧ pc < 770 + 70) ∨ (840 ≤ pc ∧ pc < 840 + 70) ∨ (910 ≤ pc ∧ pc < 910 + 70) ∨ (980 ≤ pc ∧ pc < 980 + 70) ∨ (1050 ≤ pc ∧ pc < 1050 + 70) ∨ (1120 ≤ pc ∧ pc < 1120 + 70) ∨ (1190 ≤ pc ∧ pc < 1190 + 70) ∨ (1260 ≤ pc ∧ pc < 1260 + 70) ∨ (1330 ≤ pc ∧ pc < 1330 + 70) ∨ (1400 ≤ pc ∧ pc < 1400 + 70) ∨ (1470 ≤ pc ∧ pc < 1470 + 70) ∨ (1540 ≤ pc ∧ pc < 1540 + 70) ∨ (1610 ≤ pc ∧ pc < 1610 + 70) ∨ (1680 ≤ pc ∧ pc < 1680 + 70) ∨ (1750 ≤ pc ∧ pc < 1750 + 70) ∨ (1820 ≤ pc ∧ pc < 1820 + 70) ∨ (1890 ≤ pc ∧ pc < 1890 + 70) ∨ (1960 ≤ pc ∧ pc < 1960 + 70) ∨ (2030 ≤ pc ∧ pc < 2030 + 70) ∨ (2100 ≤ pc ∧ pc < 2100 + 70) ∨ (2170 ≤ pc ∧ pc < 2170 + 70) ∨ (2240 ≤ pc ∧ pc < 2240 + 70) ∨ (2310 ≤ pc ∧ pc < 2310 + 70) ∨ (2380 ≤ pc ∧ pc < 2380 + 70) ∨ (2450 ≤ pc ∧ pc < 2450 + 34) by omega) with q | q | q | q | q | q | q | q | q | q | q | q | q | q | q | q | q | q | q | q | q | q | q | q | q | q | q | q | q | q | q | q | q | q | q | q
    · exact pg_range pg_kl0 q.1 q.2
    · exact pg_range pg_kl1 q.1 q.2
    · exact pg_range pg_kl2 q.1 q.2
    · exact pg_range pg_kl3 q.1 q.2
    · exact pg_range pg_kl4 q.1 q.2
    · exact pg_range pg_kl5 q.1 q.2
    · exact pg_range pg_kl6 q.1 q.2
    · exact pg_range pg_kl7 q.1 q.2
    · exact pg_range pg_kl8 q.1 q.2
    · exact pg_range pg_kl9 q.1 q.2
    · exact pg_range pg_kl10 q.1 q.2
    · exact pg_range pg_kl11 q.1 q.2
    · exact pg_range pg_kl12 q.1 q.2
    · exact pg_range pg_kl13 q.1 q.2
    · exact pg_range pg_kl14 q.1 q.2
    · exact pg_range pg_kl15 q.1 q.2
    · exact pg_range pg_kl16 q.1 q.2
    · exact pg_range pg_kl17 q.1 q.2
    · exact pg_range pg_kl18 q.1 q.2
    · exact pg_range pg_kl19 q.1 q.2
    · exact pg_range pg_kl20 q.1 q.2
    · exact pg_range pg_kl21 q.1 q.2
    · exact pg_range pg_kl22 q.1 q.2
    · exact pg_range pg_kl23 q.1 q.2
    · exact pg_range pg_kl24 q.1 q.2
    · exact pg_range pg_kl25 q.1 q.2
    · exact pg_range pg_kl26 q.1 q.2
    · exact pg_range pg_kl27 q.1 q.2
    · exact pg_range pg_kl28 q.1 q.2
    · exact pg_range pg_kl29 q.1 q.2
    · exact pg_range pg_kl30 q.1 q.2
    · exact pg_range pg_kl31 q.1 q.2
    · exact pg_range pg_kl32 q.1 q.2
    · exact pg_range pg_kl33 q.1 q.2
    · exact pg_range pg_kl34 q.1 q.2
    · exact pg_range pg_kl35 q.1 q.2
