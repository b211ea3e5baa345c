set_option maxRecDepth 1000000 in
theorem p1_s0 : pmE pg (pg_X []) pg_tyl pg_cl 41 318 18 [.retAddr 0, .ref 0, .ref 147, .int 0] [] fw_0 (fun q => q.1 = some (.int 1) ∧ 167 + q.2.2.1 ≤ 600000 ∧ 18328 + q.2.2.2 ≤ 7302250) := by
  refine pe_iload_n (j := 3) (by decide +kernel) rfl ?_
  refine pe_aloadX_n (j := 0) (by decide +kernel) rfl ?_
  refine pe_alenXv (v := 0) (by decide +kernel) rfl (by decide) rfl ?_
  refine pe_bipushv (n := 7) (v := 7) (by decide +kernel) (by decide +kernel) ?_
  refine pe_isub (by decide +kernel) ?_
  refine pe_top (v := (-7)) (by decide +kernel) ?_
  refine pe_icmp_gt (off := 2459) (t := 2483) (by decide +kernel) (by decide) rfl (fun h1 => ?_) (fun h1 => ?_)
  rotate_left
  · exact absurd h1 (by decide)
  refine pe_iconstv (n := 1) (v := 1) (by decide +kernel) (by decide +kernel) ?_
  refine pe_iret (by decide +kernel) rfl rfl ?_
  exact ⟨rfl, Nat.le_of_ble_eq_true rfl, Nat.le_of_ble_eq_true rfl⟩
set_option maxRecDepth 1000000 in
theorem p1_s1 (x0 : Int32) : pmE pg (pg_X [x0]) pg_tyl pg_cl 41 318 18 [.retAddr 0, .ref 0, .ref 147, .int 0] [] fw_0 (fun q => q.1 = some (.int 1) ∧ 167 + q.2.2.1 ≤ 600000 ∧ 18328 + q.2.2.2 ≤ 7302250) := by
  refine pe_iload_n (j := 3) (by decide +kernel) rfl ?_
  refine pe_aloadX_n (j := 0) (by decide +kernel) rfl ?_
  refine pe_alenXv (v := 1) (by decide +kernel) rfl (by decide) rfl ?_
  refine pe_bipushv (n := 7) (v := 7) (by decide +kernel) (by decide +kernel) ?_
  refine pe_isub (by decide +kernel) ?_
  refine pe_top (v := (-6)) (by decide +kernel) ?_
  refine pe_icmp_gt (off := 2459) (t := 2483) (by decide +kernel) (by decide) rfl (fun h2 => ?_) (fun h2 => ?_)
  rotate_left
  · exact absurd h2 (by decide)
  refine pe_iconstv (n := 1) (v := 1) (by decide +kernel) (by decide +kernel) ?_
  refine pe_iret (by decide +kernel) rfl rfl ?_
  exact ⟨rfl, Nat.le_of_ble_eq_true rfl, Nat.le_of_ble_eq_true rfl⟩
set_option maxRecDepth 1000000 in
theorem p1_s2 (x0 x1 : Int32) : pmE pg (pg_X [x0, x1]) pg_tyl pg_cl 41 318 18 [.retAddr 0, .ref 0, .ref 147, .int 0] [] fw_0 (fun q => q.1 = some (.int 1) ∧ 167 + q.2.2.1 ≤ 600000 ∧ 18328 + q.2.2.2 ≤ 7302250) := by
  refine pe_iload_n (j := 3) (by decide +kernel) rfl ?_
  refine pe_aloadX_n (j := 0) (by decide +kernel) rfl ?_
  refine pe_alenXv (v := 2) (by decide +kernel) rfl (by decide) rfl ?_
  refine pe_bipushv (n := 7) (v := 7) (by decide +kernel) (by decide +kernel) ?_
  refine pe_isub (by decide +kernel) ?_
  refine pe_top (v := (-5)) (by decide +kernel) ?_
  refine pe_icmp_gt (off := 2459) (t := 2483) (by decide +kernel) (by decide) rfl (fun h3 => ?_) (fun h3 => ?_)
  rotate_left
  · exact absurd h3 (by decide)
  refine pe_iconstv (n := 1) (v := 1) (by decide +kernel) (by decide +kernel) ?_
  refine pe_iret (by decide +kernel) rfl rfl ?_
  exact ⟨rfl, Nat.le_of_ble_eq_true rfl, Nat.le_of_ble_eq_true rfl⟩
set_option maxRecDepth 1000000 in
theorem p1_s3 (x0 x1 x2 : Int32) : pmE pg (pg_X [x0, x1, x2]) pg_tyl pg_cl 41 318 18 [.retAddr 0, .ref 0, .ref 147, .int 0] [] fw_0 (fun q => q.1 = some (.int 1) ∧ 167 + q.2.2.1 ≤ 600000 ∧ 18328 + q.2.2.2 ≤ 7302250) := by
  refine pe_iload_n (j := 3) (by decide +kernel) rfl ?_
  refine pe_aloadX_n (j := 0) (by decide +kernel) rfl ?_
  refine pe_alenXv (v := 3) (by decide +kernel) rfl (by decide) rfl ?_
  refine pe_bipushv (n := 7) (v := 7) (by decide +kernel) (by decide +kernel) ?_
  refine pe_isub (by decide +kernel) ?_
  refine pe_top (v := (-4)) (by decide +kernel) ?_
  refine pe_icmp_gt (off := 2459) (t := 2483) (by decide +kernel) (by decide) rfl (fun h4 => ?_) (fun h4 => ?_)
  rotate_left
  · exact absurd h4 (by decide)
  refine pe_iconstv (n := 1) (v := 1) (by decide +kernel) (by decide +kernel) ?_
  refine pe_iret (by decide +kernel) rfl rfl ?_
  exact ⟨rfl, Nat.le_of_ble_eq_true rfl, Nat.le_of_ble_eq_true rfl⟩
set_option maxRecDepth 1000000 in
theorem p1_s4 (x0 x1 x2 x3 : Int32) : pmE pg (pg_X [x0, x1, x2, x3]) pg_tyl pg_cl 41 318 18 [.retAddr 0, .ref 0, .ref 147, .int 0] [] fw_0 (fun q => q.1 = some (.int 1) ∧ 167 + q.2.2.1 ≤ 600000 ∧ 18328 + q.2.2.2 ≤ 7302250) := by
  refine pe_iload_n (j := 3) (by decide +kernel) rfl ?_
  refine pe_aloadX_n (j := 0) (by decide +kernel) rfl ?_
  refine pe_alenXv (v := 4) (by decide +kernel) rfl (by decide) rfl ?_
  refine pe_bipushv (n := 7) (v := 7) (by decide +kernel) (by decide +kernel) ?_
  refine pe_isub (by decide +kernel) ?_
  refine pe_top (v := (-3)) (by decide +kernel) ?_
  refine pe_icmp_gt (off := 2459) (t := 2483) (by decide +kernel) (by decide) rfl (fun h5 => ?_) (fun h5 => ?_)
  rotate_left
  · exact absurd h5 (by decide)
  refine pe_iconstv (n := 1) (v := 1) (by decide +kernel) (by decide +kernel) ?_
  refine pe_iret (by decide +kernel) rfl rfl ?_
  exact ⟨rfl, Nat.le_of_ble_eq_true rfl, Nat.le_of_ble_eq_true rfl⟩
set_option maxRecDepth 1000000 in
theorem p1_s5 (x0 x1 x2 x3 x4 : Int32) : pmE pg (pg_X [x0, x1, x2, x3, x4]) pg_tyl pg_cl 41 318 18 [.retAddr 0, .ref 0, .ref 147, .int 0] [] fw_0 (fun q => q.1 = some (.int 1) ∧ 167 + q.2.2.1 ≤ 600000 ∧ 18328 + q.2.2.2 ≤ 7302250) := by
  refine pe_iload_n (j := 3) (by decide +kernel) rfl ?_
  refine pe_aloadX_n (j := 0) (by decide +kernel) rfl ?_
  refine pe_alenXv (v := 5) (by decide +kernel) rfl (by decide) rfl ?_
  refine pe_bipushv (n := 7) (v := 7) (by decide +kernel) (by decide +kernel) ?_
  refine pe_isub (by decide +kernel) ?_
  refine pe_top (v := (-2)) (by decide +kernel) ?_
  refine pe_icmp_gt (off := 2459) (t := 2483) (by decide +kernel) (by decide) rfl (fun h6 => ?_) (fun h6 => ?_)
  rotate_left
  · exact absurd h6 (by decide)
  refine pe_iconstv (n := 1) (v := 1) (by decide +kernel) (by decide +kernel) ?_
  refine pe_iret (by decide +kernel) rfl rfl ?_
  exact ⟨rfl, Nat.le_of_ble_eq_true rfl, Nat.le_of_ble_eq_true rfl⟩
set_option maxRecDepth 1000000 in
theorem p1_s6 (x0 x1 x2 x3 x4 x5 : Int32) : pmE pg (pg_X [x0, x1, x2, x3, x4, x5]) pg_tyl pg_cl 41 318 18 [.retAddr 0, .ref 0, .ref 147, .int 0] [] fw_0 (fun q => q.1 = some (.int 1) ∧ 167 + q.2.2.1 ≤ 600000 ∧ 18328 + q.2.2.2 ≤ 7302250) := by
  refine pe_iload_n (j := 3) (by decide +kernel) rfl ?_
  refine pe_aloadX_n (j := 0) (by decide +kernel) rfl ?_
  refine pe_alenXv (v := 6) (by decide +kernel) rfl (by decide) rfl ?_
  refine pe_bipushv (n := 7) (v := 7) (by decide +kernel) (by decide +kernel) ?_
  refine pe_isub (by decide +kernel) ?_
  refine pe_top (v := (-1)) (by decide +kernel) ?_
  refine pe_icmp_gt (off := 2459) (t := 2483) (by decide +kernel) (by decide) rfl (fun h7 => ?_) (fun h7 => ?_)
  rotate_left
  · exact absurd h7 (by decide)
  refine pe_iconstv (n := 1) (v := 1) (by decide +kernel) (by decide +kernel) ?_
  refine pe_iret (by decide +kernel) rfl rfl ?_
  exact ⟨rfl, Nat.le_of_ble_eq_true rfl, Nat.le_of_ble_eq_true rfl⟩
set_option maxRecDepth 1000000 in
theorem p1_df (x0 x1 x2 x3 x4 x5 x6 : Int32) : pmE pg (pg_X [x0, x1, x2, x3, x4, x5, x6]) pg_tyl pg_cl 41 318 2477 [.retAddr 0, .ref 0, .ref 147, .int 0] [] fw_0 (fun q => q.1 = some (.int 1) ∧ 167 + q.2.2.1 ≤ 600000 ∧ 18328 + q.2.2.2 ≤ 7302250) := by
  refine pe_iincv (j := 3) (n := 7) (v := 7) (ls' := [_, _, _, _]) (by decide +kernel) rfl (by decide +kernel) rfl ?_
  refine pe_goto (off := (-2462)) (t := 18) (by decide +kernel) (by decide) rfl ?_
  refine pe_iload_n (j := 3) (by decide +kernel) rfl ?_
  refine pe_aloadX_n (j := 0) (by decide +kernel) rfl ?_
  refine pe_alenXv (v := 7) (by decide +kernel) rfl (by decide) rfl ?_
  refine pe_bipushv (n := 7) (v := 7) (by decide +kernel) (by decide +kernel) ?_
  refine pe_isub (by decide +kernel) ?_
  refine pe_top (v := 0) (by decide +kernel) ?_
  refine pe_icmp_gt (off := 2459) (t := 2483) (by decide +kernel) (by decide) rfl (fun h8 => ?_) (fun h8 => ?_)
  rotate_left
  · exact absurd h8 (by decide)
  refine pe_iconstv (n := 1) (v := 1) (by decide +kernel) (by decide +kernel) ?_
  refine pe_iret (by decide +kernel) rfl rfl ?_
  exact ⟨rfl, Nat.le_of_ble_eq_true rfl, Nat.le_of_ble_eq_true rfl⟩
set_option maxRecDepth 1000000 in
set_option maxHeartbeats 4000000 in
theorem p1_s7_open (hc0 : ∀ x0 x1 x2 x3 x4 x5 x6 : Int32, pmE pg (pg_X [x0, x1, x2, x3, x4, x5, x6]) pg_tyl pg_cl 41 318 216 [.retAddr 0, .ref 0, .ref 147, .int 0] [] fw_0 (fun q => q.1 = some (.int 1) ∧ q.2.2.1 = 0 ∧ q.2.2.2 = 0)) (x0 x1 x2 x3 x4 x5 x6 : Int32) : pmE pg (pg_X [x0, x1, x2, x3, x4, x5, x6]) pg_tyl pg_cl 41 318 18 [.retAddr 0, .ref 0, .ref 147, .int 0] [] fw_0 (fun q => q.1 = some (.int 1) ∧ 167 + q.2.2.1 ≤ 600000 ∧ 18328 + q.2.2.2 ≤ 7302250) := by
  have fin : ∀ {pc : Nat}, pmE pg (pg_X [x0, x1, x2, x3, x4, x5, x6]) pg_tyl pg_cl 41 318 pc [.retAddr 0, .ref 0, .ref 147, .int 0] [] fw_0 (fun q => q.1 = some (.int 1) ∧ q.2.2.1 = 0 ∧ q.2.2.2 = 0) → pmE pg (pg_X [x0, x1, x2, x3, x4, x5, x6]) pg_tyl pg_cl 41 318 pc [.retAddr 0, .ref 0, .ref 147, .int 0] [] fw_0 (fun q => q.1 = some (.int 1) ∧ 167 + q.2.2.1 ≤ 600000 ∧ 18328 + q.2.2.2 ≤ 7302250) := by
    intro pc h
    refine pmE.imp h (fun q hq => ⟨hq.1, ?_, ?_⟩)
    · rw [hq.2.1]; exact Nat.le_of_ble_eq_true rfl
    · rw [hq.2.2]; exact Nat.le_of_ble_eq_true rfl
  refine pe_iload_n (j := 3) (by decide +kernel) rfl ?_
  refine pe_aloadX_n (j := 0) (by decide +kernel) rfl ?_
  refine pe_alenXv (v := 7) (by decide +kernel) rfl (by decide) rfl ?_
  refine pe_bipushv (n := 7) (v := 7) (by decide +kernel) (by decide +kernel) ?_
  refine pe_isub (by decide +kernel) ?_
  refine pe_top (v := 0) (by decide +kernel) ?_
  refine pe_icmp_gt (off := 2459) (t := 2483) (by decide +kernel) (by decide) rfl (fun h => absurd h (by decide)) (fun _ => ?_)
  refine pe_aloadX_n (j := 0) (by decide +kernel) rfl ?_
  refine pe_iload_n (j := 3) (by decide +kernel) rfl ?_
  refine pe_ialdXv (n := 7) (v := x0) (by decide +kernel) rfl rfl (by decide +kernel) rfl ?_
  refine pe_bipushv (n := 63) (v := 63) (by decide +kernel) (by decide +kernel) ?_
  refine pe_iand (by decide +kernel) ?_
  obtain ⟨j, hj, e⟩ := pk_andE x0 (m := 63) 6 (by decide +kernel)
  refine pe_top (v := nI j) e ?_
  match j, hj with
  | 0, _ => exact pe_tableIn (df := 2444) (lo := 0) (hi := 41) (off := 183) (offs := #[183, 246, 269, 302, 325, 358, 401, 444, 487, 520, 553, 616, 679, 732, 775, 828, 891, 966, 1058, 1111, 1164, 1243, 1338, 1381, 1434, 1487, 1510, 1589, 1652, 1727, 1802, 1877, 1940, 1983, 2046, 2115, 2168, 2231, 2300, 2375, 2398, 2421]) (t := 216) (by decide +kernel) (by decide +kernel) (by decide +kernel) (by decide) rfl (fin (hc0 x0 x1 x2 x3 x4 x5 x6))
  | 1, _ => exact pe_tableIn (df := 2444) (lo := 0) (hi := 41) (off := 246) (offs := #[183, 246, 269, 302, 325, 358, 401, 444, 487, 520, 553, 616, 679, 732, 775, 828, 891, 966, 1058, 1111, 1164, 1243, 1338, 1381, 1434, 1487, 1510, 1589, 1652, 1727, 1802, 1877, 1940, 1983, 2046, 2115, 2168, 2231, 2300, 2375, 2398, 2421]) (t := 279) (by decide +kernel) (by decide +kernel) (by decide +kernel) (by decide) rfl (fin (p1_c1 x0 x1 x2 x3 x4 x5 x6))
  | 2, _ => exact pe_tableIn (df := 2444) (lo := 0) (hi := 41) (off := 269) (offs := #[183, 246, 269, 302, 325, 358, 401, 444, 487, 520, 553, 616, 679, 732, 775, 828, 891, 966, 1058, 1111, 1164, 1243, 1338, 1381, 1434, 1487, 1510, 1589, 1652, 1727, 1802, 1877, 1940, 1983, 2046, 2115, 2168, 2231, 2300, 2375, 2398, 2421]) (t := 302) (by decide +kernel) (by decide +kernel) (by decide +kernel) (by decide) rfl (fin (p1_c2 x0 x1 x2 x3 x4 x5 x6))
  | 3, _ => exact pe_tableIn (df := 2444) (lo := 0) (hi := 41) (off := 302) (offs := #[183, 246, 269, 302, 325, 358, 401, 444, 487, 520, 553, 616, 679, 732, 775, 828, 891, 966, 1058, 1111, 1164, 1243, 1338, 1381, 1434, 1487, 1510, 1589, 1652, 1727, 1802, 1877, 1940, 1983, 2046, 2115, 2168, 2231, 2300, 2375, 2398, 2421]) (t := 335) (by decide +kernel) (by decide +kernel) (by decide +kernel) (by decide) rfl (fin (p1_c3 x0 x1 x2 x3 x4 x5 x6))
  | 4, _ => exact pe_tableIn (df := 2444) (lo := 0) (hi := 41) (off := 325) (offs := #[183, 246, 269, 302, 325, 358, 401, 444, 487, 520, 553, 616, 679, 732, 775, 828, 891, 966, 1058, 1111, 1164, 1243, 1338, 1381, 1434, 1487, 1510, 1589, 1652, 1727, 1802, 1877, 1940, 1983, 2046, 2115, 2168, 2231, 2300, 2375, 2398, 2421]) (t := 358) (by decide +kernel) (by decide +kernel) (by decide +kernel) (by decide) rfl (fin (p1_c4 x0 x1 x2 x3 x4 x5 x6))
  | 5, _ => exact pe_tableIn (df := 2444) (lo := 0) (hi := 41) (off := 358) (offs := #[183, 246, 269, 302, 325, 358, 401, 444, 487, 520, 553, 616, 679, 732, 775, 828, 891, 966, 1058, 1111, 1164, 1243, 1338, 1381, 1434, 1487, 1510, 1589, 1652, 1727, 1802, 1877, 1940, 1983, 2046, 2115, 2168, 2231, 2300, 2375, 2398, 2421]) (t := 391) (by decide +kernel) (by decide +kernel) (by decide +kernel) (by decide) rfl (fin (p1_c5 x0 x1 x2 x3 x4 x5 x6))
  | 6, _ => exact pe_tableIn (df := 2444) (lo := 0) (hi := 41) (off := 401) (offs := #[183, 246, 269, 302, 325, 358, 401, 444, 487, 520, 553, 616, 679, 732, 775, 828, 891, 966, 1058, 1111, 1164, 1243, 1338, 1381, 1434, 1487, 1510, 1589, 1652, 1727, 1802, 1877, 1940, 1983, 2046, 2115, 2168, 2231, 2300, 2375, 2398, 2421]) (t := 434) (by decide +kernel) (by decide +kernel) (by decide +kernel) (by decide) rfl (fin (p1_c6 x0 x1 x2 x3 x4 x5 x6))
  | 7, _ => exact pe_tableIn (df := 2444) (lo := 0) (hi := 41) (off := 444) (offs := #[183, 246, 269, 302, 325, 358, 401, 444, 487, 520, 553, 616, 679, 732, 775, 828, 891, 966, 1058, 1111, 1164, 1243, 1338, 1381, 1434, 1487, 1510, 1589, 1652, 1727, 1802, 1877, 1940, 1983, 2046, 2115, 2168, 2231, 2300, 2375, 2398, 2421]) (t := 477) (by decide +kernel) (by decide +kernel) (by decide +kernel) (by decide) rfl (fin (p1_c7 x0 x1 x2 x3 x4 x5 x6))
  | 8, _ => exact pe_tableIn (df := 2444) (lo := 0) (hi := 41) (off := 487) (offs := #[183, 246, 269, 302, 325, 358, 401, 444, 487, 520, 553, 616, 679, 732, 775, 828, 891, 966, 1058, 1111, 1164, 1243, 1338, 1381, 1434, 1487, 1510, 1589, 1652, 1727, 1802, 1877, 1940, 1983, 2046, 2115, 2168, 2231, 2300, 2375, 2398, 2421]) (t := 520) (by decide +kernel) (by decide +kernel) (by decide +kernel) (by decide) rfl (fin (p1_c8 x0 x1 x2 x3 x4 x5 x6))
  | 9, _ => exact pe_tableIn (df := 2444) (lo := 0) (hi := 41) (off := 520) (offs := #[183, 246, 269, 302, 325, 358, 401, 444, 487, 520, 553, 616, 679, 732, 775, 828, 891, 966, 1058, 1111, 1164, 1243, 1338, 1381, 1434, 1487, 1510, 1589, 1652, 1727, 1802, 1877, 1940, 1983, 2046, 2115, 2168, 2231, 2300, 2375, 2398, 2421]) (t := 553) (by decide +kernel) (by decide +kernel) (by decide +kernel) (by decide) rfl (fin (p1_c9 x0 x1 x2 x3 x4 x5 x6))
  | 10, _ => exact pe_tableIn (df := 2444) (lo := 0) (hi := 41) (off := 553) (offs := #[183, 246, 269, 302, 325, 358, 401, 444, 487, 520, 553, 616, 679, 732, 775, 828, 891, 966, 1058, 1111, 1164, 1243, 1338, 1381, 1434, 1487, 1510, 1589, 1652, 1727, 1802, 1877, 1940, 1983, 2046, 2115, 2168, 2231, 2300, 2375, 2398, 2421]) (t := 586) (by decide +kernel) (by decide +kernel) (by decide +kernel) (by decide) rfl (fin (p1_c10 x0 x1 x2 x3 x4 x5 x6))
  | 11, _ => exact pe_tableIn (df := 2444) (lo := 0) (hi := 41) (off := 616) (offs := #[183, 246, 269, 302, 325, 358, 401, 444, 487, 520, 553, 616, 679, 732, 775, 828, 891, 966, 1058, 1111, 1164, 1243, 1338, 1381, 1434, 1487, 1510, 1589, 1652, 1727, 1802, 1877, 1940, 1983, 2046, 2115, 2168, 2231, 2300, 2375, 2398, 2421]) (t := 649) (by decide +kernel) (by decide +kernel) (by decide +kernel) (by decide) rfl (fin (p1_c11 x0 x1 x2 x3 x4 x5 x6))
  | 12, _ => exact pe_tableIn (df := 2444) (lo := 0) (hi := 41) (off := 679) (offs := #[183, 246, 269, 302, 325, 358, 401, 444, 487, 520, 553, 616, 679, 732, 775, 828, 891, 966, 1058, 1111, 1164, 1243, 1338, 1381, 1434, 1487, 1510, 1589, 1652, 1727, 1802, 1877, 1940, 1983, 2046, 2115, 2168, 2231, 2300, 2375, 2398, 2421]) (t := 712) (by decide +kernel) (by decide +kernel) (by decide +kernel) (by decide) rfl (fin (p1_c12 x0 x1 x2 x3 x4 x5 x6))
  | 13, _ => exact pe_tableIn (df := 2444) (lo := 0) (hi := 41) (off := 732) (offs := #[183, 246, 269, 302, 325, 358, 401, 444, 487, 520, 553, 616, 679, 732, 775, 828, 891, 966, 1058, 1111, 1164, 1243, 1338, 1381, 1434, 1487, 1510, 1589, 1652, 1727, 1802, 1877, 1940, 1983, 2046, 2115, 2168, 2231, 2300, 2375, 2398, 2421]) (t := 765) (by decide +kernel) (by decide +kernel) (by decide +kernel) (by decide) rfl (fin (p1_c13 x0 x1 x2 x3 x4 x5 x6))
  | 14, _ => exact pe_tableIn (df := 2444) (lo := 0) (hi := 41) (off := 775) (offs := #[183, 246, 269, 302, 325, 358, 401, 444, 487, 520, 553, 616, 679, 732, 775, 828, 891, 966, 1058, 1111, 1164, 1243, 1338, 1381, 1434, 1487, 1510, 1589, 1652, 1727, 1802, 1877, 1940, 1983, 2046, 2115, 2168, 2231, 2300, 2375, 2398, 2421]) (t := 808) (by decide +kernel) (by decide +kernel) (by decide +kernel) (by decide) rfl (fin (p1_c14 x0 x1 x2 x3 x4 x5 x6))
  | 15, _ => exact pe_tableIn (df := 2444) (lo := 0) (hi := 41) (off := 828) (offs := #[183, 246, 269, 302, 325, 358, 401, 444, 487, 520, 553, 616, 679, 732, 775, 828, 891, 966, 1058, 1111, 1164, 1243, 1338, 1381, 1434, 1487, 1510, 1589, 1652, 1727, 1802, 1877, 1940, 1983, 2046, 2115, 2168, 2231, 2300, 2375, 2398, 2421]) (t := 861) (by decide +kernel) (by decide +kernel) (by decide +kernel) (by decide) rfl (fin (p1_c15 x0 x1 x2 x3 x4 x5 x6))
  | 16, _ => exact pe_tableIn (df := 2444) (lo := 0) (hi := 41) (off := 891) (offs := #[183, 246, 269, 302, 325, 358, 401, 444, 487, 520, 553, 616, 679, 732, 775, 828, 891, 966, 1058, 1111, 1164, 1243, 1338, 1381, 1434, 1487, 1510, 1589, 1652, 1727, 1802, 1877, 1940, 1983, 2046, 2115, 2168, 2231, 2300, 2375, 2398, 2421]) (t := 924) (by decide +kernel) (by decide +kernel) (by decide +kernel) (by decide) rfl (fin (p1_c16 x0 x1 x2 x3 x4 x5 x6))
  | 17, _ => exact pe_tableIn (df := 2444) (lo := 0) (hi := 41) (off := 966) (offs := #[183, 246, 269, 302, 325, 358, 401, 444, 487, 520, 553, 616, 679, 732, 775, 828, 891, 966, 1058, 1111, 1164, 1243, 1338, 1381, 1434, 1487, 1510, 1589, 1652, 1727, 1802, 1877, 1940, 1983, 2046, 2115, 2168, 2231, 2300, 2375, 2398, 2421]) (t := 999) (by decide +kernel) (by decide +kernel) (by decide +kernel) (by decide) rfl (fin (p1_c17 x0 x1 x2 x3 x4 x5 x6))
  | 18, _ => exact pe_tableIn (df := 2444) (lo := 0) (hi := 41) (off := 1058) (offs := #[183, 246, 269, 302, 325, 358, 401, 444, 487, 520, 553, 616, 679, 732, 775, 828, 891, 966, 1058, 1111, 1164, 1243, 1338, 1381, 1434, 1487, 1510, 1589, 1652, 1727, 1802, 1877, 1940, 1983, 2046, 2115, 2168, 2231, 2300, 2375, 2398, 2421]) (t := 1091) (by decide +kernel) (by decide +kernel) (by decide +kernel) (by decide) rfl (fin (p1_c18 x0 x1 x2 x3 x4 x5 x6))
  | 19, _ => exact pe_tableIn (df := 2444) (lo := 0) (hi := 41) (off := 1111) (offs := #[183, 246, 269, 302, 325, 358, 401, 444, 487, 520, 553, 616, 679, 732, 775, 828, 891, 966, 1058, 1111, 1164, 1243, 1338, 1381, 1434, 1487, 1510, 1589, 1652, 1727, 1802, 1877, 1940, 1983, 2046, 2115, 2168, 2231, 2300, 2375, 2398, 2421]) (t := 1144) (by decide +kernel) (by decide +kernel) (by decide +kernel) (by decide) rfl (fin (p1_c19 x0 x1 x2 x3 x4 x5 x6))
  | 20, _ => exact pe_tableIn (df := 2444) (lo := 0) (hi := 41) (off := 1164) (offs := #[183, 246, 269, 302, 325, 358, 401, 444, 487, 520, 553, 616, 679, 732, 775, 828, 891, 966, 1058, 1111, 1164, 1243, 1338, 1381, 1434, 1487, 1510, 1589, 1652, 1727, 1802, 1877, 1940, 1983, 2046, 2115, 2168, 2231, 2300, 2375, 2398, 2421]) (t := 1197) (by decide +kernel) (by decide +kernel) (by decide +kernel) (by decide) rfl (fin (p1_c20 x0 x1 x2 x3 x4 x5 x6))
  | 21, _ => exact pe_tableIn (df := 2444) (lo := 0) (hi := 41) (off := 1243) (offs := #[183, 246, 269, 302, 325, 358, 401, 444, 487, 520, 553, 616, 679, 732, 775, 828, 891, 966, 1058, 1111, 1164, 1243, 1338, 1381, 1434, 1487, 1510, 1589, 1652, 1727, 1802, 1877, 1940, 1983, 2046, 2115, 2168, 2231, 2300, 2375, 2398, 2421]) (t := 1276) (by decide +kernel) (by decide +kernel) (by decide +kernel) (by decide) rfl (fin (p1_c21 x0 x1 x2 x3 x4 x5 x6))
  | 22, _ => exact pe_tableIn (df := 2444) (lo := 0) (hi := 41) (off := 1338) (offs := #[183, 246, 269, 302, 325, 358, 401, 444, 487, 520, 553, 616, 679, 732, 775, 828, 891, 966, 1058, 1111, 1164, 1243, 1338, 1381, 1434, 1487, 1510, 1589, 1652, 1727, 1802, 1877, 1940, 1983, 2046, 2115, 2168, 2231, 2300, 2375, 2398, 2421]) (t := 1371) (by decide +kernel) (by decide +kernel) (by decide +kernel) (by decide) rfl (fin (p1_c22 x0 x1 x2 x3 x4 x5 x6))
  | 23, _ => exact pe_tableIn (df := 2444) (lo := 0) (hi := 41) (off := 1381) (offs := #[183, 246, 269, 302, 325, 358, 401, 444, 487, 520, 553, 616, 679, 732, 775, 828, 891, 966, 1058, 1111, 1164, 1243, 1338, 1381, 1434, 1487, 1510, 1589, 1652, 1727, 1802, 1877, 1940, 1983, 2046, 2115, 2168, 2231, 2300, 2375, 2398, 2421]) (t := 1414) (by decide +kernel) (by decide +kernel) (by decide +kernel) (by decide) rfl (fin (p1_c23 x0 x1 x2 x3 x4 x5 x6))
  | 24, _ => exact pe_tableIn (df := 2444) (lo := 0) (hi := 41) (off := 1434) (offs := #[183, 246, 269, 302, 325, 358, 401, 444, 487, 520, 553, 616, 679, 732, 775, 828, 891, 966, 1058, 1111, 1164, 1243, 1338, 1381, 1434, 1487, 1510, 1589, 1652, 1727, 1802, 1877, 1940, 1983, 2046, 2115, 2168, 2231, 2300, 2375, 2398, 2421]) (t := 1467) (by decide +kernel) (by decide +kernel) (by decide +kernel) (by decide) rfl (fin (p1_c24 x0 x1 x2 x3 x4 x5 x6))
  | 25, _ => exact pe_tableIn (df := 2444) (lo := 0) (hi := 41) (off := 1487) (offs := #[183, 246, 269, 302, 325, 358, 401, 444, 487, 520, 553, 616, 679, 732, 775, 828, 891, 966, 1058, 1111, 1164, 1243, 1338, 1381, 1434, 1487, 1510, 1589, 1652, 1727, 1802, 1877, 1940, 1983, 2046, 2115, 2168, 2231, 2300, 2375, 2398, 2421]) (t := 1520) (by decide +kernel) (by decide +kernel) (by decide +kernel) (by decide) rfl (fin (p1_c25 x0 x1 x2 x3 x4 x5 x6))
  | 26, _ => exact pe_tableIn (df := 2444) (lo := 0) (hi := 41) (off := 1510) (offs := #[183, 246, 269, 302, 325, 358, 401, 444, 487, 520, 553, 616, 679, 732, 775, 828, 891, 966, 1058, 1111, 1164, 1243, 1338, 1381, 1434, 1487, 1510, 1589, 1652, 1727, 1802, 1877, 1940, 1983, 2046, 2115, 2168, 2231, 2300, 2375, 2398, 2421]) (t := 1543) (by decide +kernel) (by decide +kernel) (by decide +kernel) (by decide) rfl (fin (p1_c26 x0 x1 x2 x3 x4 x5 x6))
  | 27, _ => exact pe_tableIn (df := 2444) (lo := 0) (hi := 41) (off := 1589) (offs := #[183, 246, 269, 302, 325, 358, 401, 444, 487, 520, 553, 616, 679, 732, 775, 828, 891, 966, 1058, 1111, 1164, 1243, 1338, 1381, 1434, 1487, 1510, 1589, 1652, 1727, 1802, 1877, 1940, 1983, 2046, 2115, 2168, 2231, 2300, 2375, 2398, 2421]) (t := 1622) (by decide +kernel) (by decide +kernel) (by decide +kernel) (by decide) rfl (fin (p1_c27 x0 x1 x2 x3 x4 x5 x6))
  | 28, _ => exact pe_tableIn (df := 2444) (lo := 0) (hi := 41) (off := 1652) (offs := #[183, 246, 269, 302, 325, 358, 401, 444, 487, 520, 553, 616, 679, 732, 775, 828, 891, 966, 1058, 1111, 1164, 1243, 1338, 1381, 1434, 1487, 1510, 1589, 1652, 1727, 1802, 1877, 1940, 1983, 2046, 2115, 2168, 2231, 2300, 2375, 2398, 2421]) (t := 1685) (by decide +kernel) (by decide +kernel) (by decide +kernel) (by decide) rfl (fin (p1_c28 x0 x1 x2 x3 x4 x5 x6))
  | 29, _ => exact pe_tableIn (df := 2444) (lo := 0) (hi := 41) (off := 1727) (offs := #[183, 246, 269, 302, 325, 358, 401, 444, 487, 520, 553, 616, 679, 732, 775, 828, 891, 966, 1058, 1111, 1164, 1243, 1338, 1381, 1434, 1487, 1510, 1589, 1652, 1727, 1802, 1877, 1940, 1983, 2046, 2115, 2168, 2231, 2300, 2375, 2398, 2421]) (t := 1760) (by decide +kernel) (by decide +kernel) (by decide +kernel) (by decide) rfl (fin (p1_c29 x0 x1 x2 x3 x4 x5 x6))
  | 30, _ => exact pe_tableIn (df := 2444) (lo := 0) (hi := 41) (off := 1802) (offs := #[183, 246, 269, 302, 325, 358, 401, 444, 487, 520, 553, 616, 679, 732, 775, 828, 891, 966, 1058, 1111, 1164, 1243, 1338, 1381, 1434, 1487, 1510, 1589, 1652, 1727, 1802, 1877, 1940, 1983, 2046, 2115, 2168, 2231, 2300, 2375, 2398, 2421]) (t := 1835) (by decide +kernel) (by decide +kernel) (by decide +kernel) (by decide) rfl (fin (p1_c30 x0 x1 x2 x3 x4 x5 x6))
  | 31, _ => exact pe_tableIn (df := 2444) (lo := 0) (hi := 41) (off := 1877) (offs := #[183, 246, 269, 302, 325, 358, 401, 444, 487, 520, 553, 616, 679, 732, 775, 828, 891, 966, 1058, 1111, 1164, 1243, 1338, 1381, 1434, 1487, 1510, 1589, 1652, 1727, 1802, 1877, 1940, 1983, 2046, 2115, 2168, 2231, 2300, 2375, 2398, 2421]) (t := 1910) (by decide +kernel) (by decide +kernel) (by decide +kernel) (by decide) rfl (fin (p1_c31 x0 x1 x2 x3 x4 x5 x6))
  | 32, _ => exact pe_tableIn (df := 2444) (lo := 0) (hi := 41) (off := 1940) (offs := #[183, 246, 269, 302, 325, 358, 401, 444, 487, 520, 553, 616, 679, 732, 775, 828, 891, 966, 1058, 1111, 1164, 1243, 1338, 1381, 1434, 1487, 1510, 1589, 1652, 1727, 1802, 1877, 1940, 1983, 2046, 2115, 2168, 2231, 2300, 2375, 2398, 2421]) (t := 1973) (by decide +kernel) (by decide +kernel) (by decide +kernel) (by decide) rfl (fin (p1_c32 x0 x1 x2 x3 x4 x5 x6))
  | 33, _ => exact pe_tableIn (df := 2444) (lo := 0) (hi := 41) (off := 1983) (offs := #[183, 246, 269, 302, 325, 358, 401, 444, 487, 520, 553, 616, 679, 732, 775, 828, 891, 966, 1058, 1111, 1164, 1243, 1338, 1381, 1434, 1487, 1510, 1589, 1652, 1727, 1802, 1877, 1940, 1983, 2046, 2115, 2168, 2231, 2300, 2375, 2398, 2421]) (t := 2016) (by decide +kernel) (by decide +kernel) (by decide +kernel) (by decide) rfl (fin (p1_c33 x0 x1 x2 x3 x4 x5 x6))
  | 34, _ => exact pe_tableIn (df := 2444) (lo := 0) (hi := 41) (off := 2046) (offs := #[183, 246, 269, 302, 325, 358, 401, 444, 487, 520, 553, 616, 679, 732, 775, 828, 891, 966, 1058, 1111, 1164, 1243, 1338, 1381, 1434, 1487, 1510, 1589, 1652, 1727, 1802, 1877, 1940, 1983, 2046, 2115, 2168, 2231, 2300, 2375, 2398, 2421]) (t := 2079) (by decide +kernel) (by decide +kernel) (by decide +kernel) (by decide) rfl (fin (p1_c34 x0 x1 x2 x3 x4 x5 x6))
  | 35, _ => exact pe_tableIn (df := 2444) (lo := 0) (hi := 41) (off := 2115) (offs := #[183, 246, 269, 302, 325, 358, 401, 444, 487, 520, 553, 616, 679, 732, 775, 828, 891, 966, 1058, 1111, 1164, 1243, 1338, 1381, 1434, 1487, 1510, 1589, 1652, 1727, 1802, 1877, 1940, 1983, 2046, 2115, 2168, 2231, 2300, 2375, 2398, 2421]) (t := 2148) (by decide +kernel) (by decide +kernel) (by decide +kernel) (by decide) rfl (fin (p1_c35 x0 x1 x2 x3 x4 x5 x6))
  | 36, _ => exact pe_tableIn (df := 2444) (lo := 0) (hi := 41) (off := 2168) (offs := #[183, 246, 269, 302, 325, 358, 401, 444, 487, 520, 553, 616, 679, 732, 775, 828, 891, 966, 1058, 1111, 1164, 1243, 1338, 1381, 1434, 1487, 1510, 1589, 1652, 1727, 1802, 1877, 1940, 1983, 2046, 2115, 2168, 2231, 2300, 2375, 2398, 2421]) (t := 2201) (by decide +kernel) (by decide +kernel) (by decide +kernel) (by decide) rfl (fin (p1_c36 x0 x1 x2 x3 x4 x5 x6))
  | 37, _ => exact pe_tableIn (df := 2444) (lo := 0) (hi := 41) (off := 2231) (offs := #[183, 246, 269, 302, 325, 358, 401, 444, 487, 520, 553, 616, 679, 732, 775, 828, 891, 966, 1058, 1111, 1164, 1243, 1338, 1381, 1434, 1487, 1510, 1589, 1652, 1727, 1802, 1877, 1940, 1983, 2046, 2115, 2168, 2231, 2300, 2375, 2398, 2421]) (t := 2264) (by decide +kernel) (by decide +kernel) (by decide +kernel) (by decide) rfl (fin (p1_c37 x0 x1 x2 x3 x4 x5 x6))
  | 38, _ => exact pe_tableIn (df := 2444) (lo := 0) (hi := 41) (off := 2300) (offs := #[183, 246, 269, 302, 325, 358, 401, 444, 487, 520, 553, 616, 679, 732, 775, 828, 891, 966, 1058, 1111, 1164, 1243, 1338, 1381, 1434, 1487, 1510, 1589, 1652, 1727, 1802, 1877, 1940, 1983, 2046, 2115, 2168, 2231, 2300, 2375, 2398, 2421]) (t := 2333) (by decide +kernel) (by decide +kernel) (by decide +kernel) (by decide) rfl (fin (p1_c38 x0 x1 x2 x3 x4 x5 x6))
  | 39, _ => exact pe_tableIn (df := 2444) (lo := 0) (hi := 41) (off := 2375) (offs := #[183, 246, 269, 302, 325, 358, 401, 444, 487, 520, 553, 616, 679, 732, 775, 828, 891, 966, 1058, 1111, 1164, 1243, 1338, 1381, 1434, 1487, 1510, 1589, 1652, 1727, 1802, 1877, 1940, 1983, 2046, 2115, 2168, 2231, 2300, 2375, 2398, 2421]) (t := 2408) (by decide +kernel) (by decide +kernel) (by decide +kernel) (by decide) rfl (fin (p1_c39 x0 x1 x2 x3 x4 x5 x6))
  | 40, _ => exact pe_tableIn (df := 2444) (lo := 0) (hi := 41) (off := 2398) (offs := #[183, 246, 269, 302, 325, 358, 401, 444, 487, 520, 553, 616, 679, 732, 775, 828, 891, 966, 1058, 1111, 1164, 1243, 1338, 1381, 1434, 1487, 1510, 1589, 1652, 1727, 1802, 1877, 1940, 1983, 2046, 2115, 2168, 2231, 2300, 2375, 2398, 2421]) (t := 2431) (by decide +kernel) (by decide +kernel) (by decide +kernel) (by decide) rfl (fin (p1_c40 x0 x1 x2 x3 x4 x5 x6))
  | 41, _ => exact pe_tableIn (df := 2444) (lo := 0) (hi := 41) (off := 2421) (offs := #[183, 246, 269, 302, 325, 358, 401, 444, 487, 520, 553, 616, 679, 732, 775, 828, 891, 966, 1058, 1111, 1164, 1243, 1338, 1381, 1434, 1487, 1510, 1589, 1652, 1727, 1802, 1877, 1940, 1983, 2046, 2115, 2168, 2231, 2300, 2375, 2398, 2421]) (t := 2454) (by decide +kernel) (by decide +kernel) (by decide +kernel) (by decide) rfl (fin (p1_c41 x0 x1 x2 x3 x4 x5 x6))
  | k + 42, hk =>
    refine pe_tableOut (df := 2444) (lo := 0) (hi := 41) (offs := #[183, 246, 269, 302, 325, 358, 401, 444, 487, 520, 553, 616, 679, 732, 775, 828, 891, 966, 1058, 1111, 1164, 1243, 1338, 1381, 1434, 1487, 1510, 1589, 1652, 1727, 1802, 1877, 1940, 1983, 2046, 2115, 2168, 2231, 2300, 2375, 2398, 2421]) (t := 2477) (by decide +kernel) (Or.inr ?_) (by decide) rfl (p1_df x0 x1 x2 x3 x4 x5 x6)
    rw [nI_toInt (by omega)]
    omega
theorem p1_run_open (hc0 : ∀ x0 x1 x2 x3 x4 x5 x6 : Int32, pmE pg (pg_X [x0, x1, x2, x3, x4, x5, x6]) pg_tyl pg_cl 41 318 216 [.retAddr 0, .ref 0, .ref 147, .int 0] [] fw_0 (fun q => q.1 = some (.int 1) ∧ q.2.2.1 = 0 ∧ q.2.2.2 = 0)) (xs : List Int32) (h : xs.length ≤ 7) : ∃ (f d : Nat) (w' : pm_W) (mc ms : Nat), pm pg (pg_X xs) pg_tyl pg_cl f d 318 0 (pm_ent (pm_max pg 318) [.retAddr 0]) [] [] = some (some (.int 1), w', mc, ms) ∧ mc ≤ 600000 ∧ ms ≤ 7302250 ∧ d ≤ 1000 := by
  have key : pmE pg (pg_X xs) pg_tyl pg_cl 41 318 0 (pm_ent 4 [.retAddr 0]) [] [] (fun q => q.1 = some (.int 1) ∧ q.2.2.1 ≤ 600000 ∧ q.2.2.2 ≤ 7302250) := by
    refine law_pre ?_
    match xs, h with
    | [], _ => exact p1_s0
    | [x0], _ => exact p1_s1 x0
    | [x0, x1], _ => exact p1_s2 x0 x1
    | [x0, x1, x2], _ => exact p1_s3 x0 x1 x2
    | [x0, x1, x2, x3], _ => exact p1_s4 x0 x1 x2 x3
    | [x0, x1, x2, x3, x4], _ => exact p1_s5 x0 x1 x2 x3 x4
    | [x0, x1, x2, x3, x4, x5], _ => exact p1_s6 x0 x1 x2 x3 x4 x5
    | [x0, x1, x2, x3, x4, x5, x6], _ => exact p1_s7_open hc0 x0 x1 x2 x3 x4 x5 x6
    | _ :: _ :: _ :: _ :: _ :: _ :: _ :: _ :: _, h => simp at h
  obtain ⟨f, ⟨r, w', mc, ms⟩, h1, h2, h3, h4⟩ := key
  have h2 : r = some (.int 1) := h2
  subst h2
  exact ⟨f, 41, w', mc, ms, h1, h3, h4, by decide⟩
