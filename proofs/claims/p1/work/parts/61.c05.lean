set_option maxRecDepth 1000000 in
set_option maxHeartbeats 4000000 in
theorem p1_c5 (x0 x1 x2 x3 x4 x5 x6 : Int32) : pmE pg (pg_X [x0, x1, x2, x3, x4, x5, x6]) pg_tyl pg_cl 41 318 391 [.retAddr 0, .ref 0, .ref 147, .int 0] [] fw_0 (fun q => q.1 = some (.int 1) ∧ q.2.2.1 = 0 ∧ q.2.2.2 = 0) := by
  refine pe_aload_n (j := 1) (by decide +kernel) rfl ?_
  refine pe_aloadX_n (j := 0) (by decide +kernel) rfl ?_
  refine pe_iload_n (j := 3) (by decide +kernel) rfl ?_
  refine pe_iconstv (n := 1) (v := 1) (by decide +kernel) (by decide +kernel) ?_
  refine pe_iadd (by decide +kernel) ?_
  refine pe_top (v := 1) (by decide +kernel) ?_
  refine pe_ialdXv (n := 7) (v := x1) (by decide +kernel) rfl rfl (by decide +kernel) rfl ?_
  refine pe_aloadX_n (j := 0) (by decide +kernel) rfl ?_
  refine pe_iload_n (j := 3) (by decide +kernel) rfl ?_
  refine pe_iconstv (n := 2) (v := 2) (by decide +kernel) (by decide +kernel) ?_
  refine pe_iadd (by decide +kernel) ?_
  refine pe_top (v := 2) (by decide +kernel) ?_
  refine pe_ialdXv (n := 7) (v := x2) (by decide +kernel) rfl rfl (by decide +kernel) rfl ?_
  refine pe_aloadX_n (j := 0) (by decide +kernel) rfl ?_
  refine pe_iload_n (j := 3) (by decide +kernel) rfl ?_
  refine pe_iconstv (n := 3) (v := 3) (by decide +kernel) (by decide +kernel) ?_
  refine pe_iadd (by decide +kernel) ?_
  refine pe_top (v := 3) (by decide +kernel) ?_
  refine pe_ialdXv (n := 7) (v := x3) (by decide +kernel) rfl rfl (by decide +kernel) rfl ?_
  refine pe_callV (j := 36) (mj := 62) (by decide +kernel) rfl ?_
  refine pe_aload_n (j := 0) (by decide +kernel) rfl ?_
  refine pe_get (j := 12) (ci := 11) (n := 0) (by decide +kernel) (by decide +kernel) rfl rfl ?_
  refine pe_iload_n (j := 1) (by decide +kernel) rfl ?_
  refine pe_callV (j := 111) (mj := 60) (by decide +kernel) rfl ?_
  refine pe_iload_n (j := 1) (by decide +kernel) rfl ?_
  refine pe_if_lt (off := 20) (t := 21) (by decide +kernel) (by decide) rfl (fun h1 => ?_) (fun h1 => ?_)
  · skip
    refine pe_null (by decide +kernel) ?_
    refine pe_nret (by decide +kernel) rfl ?_
    show pmE pg _ pg_tyl pg_cl _ 62 8 _ _ _ _
    refine pe_astoreN (j := 4) (ls' := [_, _, _, _, _]) (by decide +kernel) (Nat.le_of_ble_eq_true rfl) rfl ?_
    refine pe_aloadN (j := 4) (by decide +kernel) rfl ?_
    refine pe_ifnullN (off := 21) (t := 33) (by decide +kernel) (by decide) rfl ?_
    refine pe_iconstv (n := (-1)) (v := (-1)) (by decide +kernel) (by decide +kernel) ?_
    refine pe_iret (by decide +kernel) rfl rfl ?_
    show pmE pg _ pg_tyl pg_cl _ 318 410 _ _ _ _
    refine pe_aload_n (j := 2) (by decide +kernel) rfl ?_
    refine pe_aloadX_n (j := 0) (by decide +kernel) rfl ?_
    refine pe_iload_n (j := 3) (by decide +kernel) rfl ?_
    refine pe_iconstv (n := 1) (v := 1) (by decide +kernel) (by decide +kernel) ?_
    refine pe_iadd (by decide +kernel) ?_
    refine pe_top (v := 1) (by decide +kernel) ?_
    refine pe_ialdXv (n := 7) (v := x1) (by decide +kernel) rfl rfl (by decide +kernel) rfl ?_
    refine pe_aloadX_n (j := 0) (by decide +kernel) rfl ?_
    refine pe_iload_n (j := 3) (by decide +kernel) rfl ?_
    refine pe_iconstv (n := 2) (v := 2) (by decide +kernel) (by decide +kernel) ?_
    refine pe_iadd (by decide +kernel) ?_
    refine pe_top (v := 2) (by decide +kernel) ?_
    refine pe_ialdXv (n := 7) (v := x2) (by decide +kernel) rfl rfl (by decide +kernel) rfl ?_
    refine pe_aloadX_n (j := 0) (by decide +kernel) rfl ?_
    refine pe_iload_n (j := 3) (by decide +kernel) rfl ?_
    refine pe_iconstv (n := 3) (v := 3) (by decide +kernel) (by decide +kernel) ?_
    refine pe_iadd (by decide +kernel) ?_
    refine pe_top (v := 3) (by decide +kernel) ?_
    refine pe_ialdXv (n := 7) (v := x3) (by decide +kernel) rfl rfl (by decide +kernel) rfl ?_
    refine pe_callV (j := 40) (mj := 220) (by decide +kernel) rfl ?_
    refine pe_aload_n (j := 0) (by decide +kernel) rfl ?_
    refine pe_iconstv (n := 0) (v := 0) (by decide +kernel) (by decide +kernel) ?_
    refine pe_iload_n (j := 1) (by decide +kernel) rfl ?_
    refine pe_callV (j := 153) (mj := 200) (by decide +kernel) rfl ?_
    refine pe_iload_n (j := 2) (by decide +kernel) rfl ?_
    refine pe_iconstv (n := 0) (v := 0) (by decide +kernel) (by decide +kernel) ?_
    refine pe_aload_n (j := 0) (by decide +kernel) rfl ?_
    refine pe_get (j := 7) (ci := 12) (n := 0) (by decide +kernel) (by decide +kernel) rfl rfl ?_
    refine pe_iload_n (j := 1) (by decide +kernel) rfl ?_
    refine pe_ialdv (n := 6760) (v := 0) (by decide +kernel) rfl rfl (by decide +kernel) rfl ?_
    refine pe_iconstv (n := 1) (v := 1) (by decide +kernel) (by decide +kernel) ?_
    refine pe_isub (by decide +kernel) ?_
    refine pe_top (v := (-1)) (by decide +kernel) ?_
    refine pe_callS (j := 119) (mj := 199) (by decide +kernel) (by decide +kernel) rfl ?_
    refine pe_iload_n (j := 0) (by decide +kernel) rfl ?_
    refine pe_iload_n (j := 1) (by decide +kernel) rfl ?_
    refine pe_icmp_lt (off := 12) (t := 14) (by decide +kernel) (by decide) rfl (fun h2 => ?_) (fun h2 => ?_)
    · skip
      refine pe_iconstv (n := 0) (v := 0) (by decide +kernel) (by decide +kernel) ?_
      refine pe_iret (by decide +kernel) rfl rfl ?_
      show pmE pg _ pg_tyl pg_cl _ 200 13 _ _ _ _
      refine pe_iret (by decide +kernel) rfl rfl ?_
      show pmE pg _ pg_tyl pg_cl _ 220 6 _ _ _ _
      refine pe_if_eq (off := 29) (t := 35) (by decide +kernel) (by decide) rfl (fun h3 => ?_) (fun h3 => ?_)
      rotate_left
      · exact absurd h3 (by decide)
      refine pe_iconstv (n := (-1)) (v := (-1)) (by decide +kernel) (by decide +kernel) ?_
      refine pe_iret (by decide +kernel) rfl rfl ?_
      show pmE pg _ pg_tyl pg_cl _ 318 429 _ _ _ _
      refine pe_icmp_eq (off := 2048) (t := 2477) (by decide +kernel) (by decide) rfl (fun h4 => ?_) (fun h4 => ?_)
      rotate_left
      · exact absurd h4 (by decide)
      refine pe_iincv (j := 3) (n := 7) (v := 7) (ls' := [_, _, _, _]) (by decide +kernel) rfl (by decide +kernel) rfl ?_
      refine pe_goto (off := (-2462)) (t := 18) (by decide +kernel) (by decide) rfl ?_
      refine pe_iload_n (j := 3) (by decide +kernel) rfl ?_
      refine pe_aloadX_n (j := 0) (by decide +kernel) rfl ?_
      refine pe_alenXv (v := 7) (by decide +kernel) rfl (by decide) rfl ?_
      refine pe_bipushv (n := 7) (v := 7) (by decide +kernel) (by decide +kernel) ?_
      refine pe_isub (by decide +kernel) ?_
      refine pe_top (v := 0) (by decide +kernel) ?_
      refine pe_icmp_gt (off := 2459) (t := 2483) (by decide +kernel) (by decide) rfl (fun h5 => ?_) (fun h5 => ?_)
      rotate_left
      · exact absurd h5 (by decide)
      refine pe_iconstv (n := 1) (v := 1) (by decide +kernel) (by decide +kernel) ?_
      refine pe_iret (by decide +kernel) rfl rfl ?_
      exact ⟨rfl, rfl, rfl⟩
    · skip
      first | exact absurd rfl (by assumption) | (exfalso; simp only [Int32.lt_iff_toInt_lt, Int32.le_iff_toInt_le, ← Int32.toInt_inj, kl_m100000, kl_m3, kl_m2, kl_m1, kl_0, kl_1, kl_2, kl_3, kl_4, kl_5, kl_6, kl_7, kl_8, kl_9, kl_10, kl_11, kl_12, kl_13, kl_14, kl_15, kl_16, kl_17, kl_18, kl_19, kl_20, kl_21, kl_22, kl_23, kl_24, kl_25, kl_26, kl_27, kl_28, kl_29, kl_30, kl_99, kl_100, kl_600, kl_999] at *; omega)
  · skip
    refine pe_iload_n (j := 1) (by decide +kernel) rfl ?_
    refine pe_aload_n (j := 0) (by decide +kernel) rfl ?_
    refine pe_get (j := 33) (ci := 8) (n := 2) (by decide +kernel) (by decide +kernel) rfl rfl ?_
    refine pe_icmp_ge (off := 12) (t := 21) (by decide +kernel) (by decide) rfl (fun h6 => ?_) (fun h6 => ?_)
    · skip
      refine pe_null (by decide +kernel) ?_
      refine pe_nret (by decide +kernel) rfl ?_
      show pmE pg _ pg_tyl pg_cl _ 62 8 _ _ _ _
      refine pe_astoreN (j := 4) (ls' := [_, _, _, _, _]) (by decide +kernel) (Nat.le_of_ble_eq_true rfl) rfl ?_
      refine pe_aloadN (j := 4) (by decide +kernel) rfl ?_
      refine pe_ifnullN (off := 21) (t := 33) (by decide +kernel) (by decide) rfl ?_
      refine pe_iconstv (n := (-1)) (v := (-1)) (by decide +kernel) (by decide +kernel) ?_
      refine pe_iret (by decide +kernel) rfl rfl ?_
      show pmE pg _ pg_tyl pg_cl _ 318 410 _ _ _ _
      refine pe_aload_n (j := 2) (by decide +kernel) rfl ?_
      refine pe_aloadX_n (j := 0) (by decide +kernel) rfl ?_
      refine pe_iload_n (j := 3) (by decide +kernel) rfl ?_
      refine pe_iconstv (n := 1) (v := 1) (by decide +kernel) (by decide +kernel) ?_
      refine pe_iadd (by decide +kernel) ?_
      refine pe_top (v := 1) (by decide +kernel) ?_
      refine pe_ialdXv (n := 7) (v := x1) (by decide +kernel) rfl rfl (by decide +kernel) rfl ?_
      refine pe_aloadX_n (j := 0) (by decide +kernel) rfl ?_
      refine pe_iload_n (j := 3) (by decide +kernel) rfl ?_
      refine pe_iconstv (n := 2) (v := 2) (by decide +kernel) (by decide +kernel) ?_
      refine pe_iadd (by decide +kernel) ?_
      refine pe_top (v := 2) (by decide +kernel) ?_
      refine pe_ialdXv (n := 7) (v := x2) (by decide +kernel) rfl rfl (by decide +kernel) rfl ?_
      refine pe_aloadX_n (j := 0) (by decide +kernel) rfl ?_
      refine pe_iload_n (j := 3) (by decide +kernel) rfl ?_
      refine pe_iconstv (n := 3) (v := 3) (by decide +kernel) (by decide +kernel) ?_
      refine pe_iadd (by decide +kernel) ?_
      refine pe_top (v := 3) (by decide +kernel) ?_
      refine pe_ialdXv (n := 7) (v := x3) (by decide +kernel) rfl rfl (by decide +kernel) rfl ?_
      refine pe_callV (j := 40) (mj := 220) (by decide +kernel) rfl ?_
      refine pe_aload_n (j := 0) (by decide +kernel) rfl ?_
      refine pe_iconstv (n := 0) (v := 0) (by decide +kernel) (by decide +kernel) ?_
      refine pe_iload_n (j := 1) (by decide +kernel) rfl ?_
      refine pe_callV (j := 153) (mj := 200) (by decide +kernel) rfl ?_
      refine pe_iload_n (j := 2) (by decide +kernel) rfl ?_
      refine pe_iconstv (n := 0) (v := 0) (by decide +kernel) (by decide +kernel) ?_
      refine pe_aload_n (j := 0) (by decide +kernel) rfl ?_
      refine pe_get (j := 7) (ci := 12) (n := 0) (by decide +kernel) (by decide +kernel) rfl rfl ?_
      refine pe_iload_n (j := 1) (by decide +kernel) rfl ?_
      refine pe_ialdv (n := 6760) (v := 0) (by decide +kernel) rfl rfl (by decide +kernel) rfl ?_
      refine pe_iconstv (n := 1) (v := 1) (by decide +kernel) (by decide +kernel) ?_
      refine pe_isub (by decide +kernel) ?_
      refine pe_top (v := (-1)) (by decide +kernel) ?_
      refine pe_callS (j := 119) (mj := 199) (by decide +kernel) (by decide +kernel) rfl ?_
      refine pe_iload_n (j := 0) (by decide +kernel) rfl ?_
      refine pe_iload_n (j := 1) (by decide +kernel) rfl ?_
      refine pe_icmp_lt (off := 12) (t := 14) (by decide +kernel) (by decide) rfl (fun h7 => ?_) (fun h7 => ?_)
      · skip
        first | exact absurd rfl (by assumption) | (exfalso; simp only [Int32.lt_iff_toInt_lt, Int32.le_iff_toInt_le, ← Int32.toInt_inj, kl_m100000, kl_m3, kl_m2, kl_m1, kl_0, kl_1, kl_2, kl_3, kl_4, kl_5, kl_6, kl_7, kl_8, kl_9, kl_10, kl_11, kl_12, kl_13, kl_14, kl_15, kl_16, kl_17, kl_18, kl_19, kl_20, kl_21, kl_22, kl_23, kl_24, kl_25, kl_26, kl_27, kl_28, kl_29, kl_30, kl_99, kl_100, kl_600, kl_999] at *; omega)
      · skip
        refine pe_iload_n (j := 0) (by decide +kernel) rfl ?_
        refine pe_iload_n (j := 2) (by decide +kernel) rfl ?_
        refine pe_icmp_gt (off := 7) (t := 14) (by decide +kernel) (by decide) rfl (fun h8 => ?_) (fun h8 => ?_)
        · skip
          refine pe_iconstv (n := 0) (v := 0) (by decide +kernel) (by decide +kernel) ?_
          refine pe_iret (by decide +kernel) rfl rfl ?_
          show pmE pg _ pg_tyl pg_cl _ 200 13 _ _ _ _
          refine pe_iret (by decide +kernel) rfl rfl ?_
          show pmE pg _ pg_tyl pg_cl _ 220 6 _ _ _ _
          refine pe_if_eq (off := 29) (t := 35) (by decide +kernel) (by decide) rfl (fun h9 => ?_) (fun h9 => ?_)
          rotate_left
          · exact absurd h9 (by decide)
          refine pe_iconstv (n := (-1)) (v := (-1)) (by decide +kernel) (by decide +kernel) ?_
          refine pe_iret (by decide +kernel) rfl rfl ?_
          show pmE pg _ pg_tyl pg_cl _ 318 429 _ _ _ _
          refine pe_icmp_eq (off := 2048) (t := 2477) (by decide +kernel) (by decide) rfl (fun h10 => ?_) (fun h10 => ?_)
          rotate_left
          · exact absurd h10 (by decide)
          refine pe_iincv (j := 3) (n := 7) (v := 7) (ls' := [_, _, _, _]) (by decide +kernel) rfl (by decide +kernel) rfl ?_
          refine pe_goto (off := (-2462)) (t := 18) (by decide +kernel) (by decide) rfl ?_
          refine pe_iload_n (j := 3) (by decide +kernel) rfl ?_
          refine pe_aloadX_n (j := 0) (by decide +kernel) rfl ?_
          refine pe_alenXv (v := 7) (by decide +kernel) rfl (by decide) rfl ?_
          refine pe_bipushv (n := 7) (v := 7) (by decide +kernel) (by decide +kernel) ?_
          refine pe_isub (by decide +kernel) ?_
          refine pe_top (v := 0) (by decide +kernel) ?_
          refine pe_icmp_gt (off := 2459) (t := 2483) (by decide +kernel) (by decide) rfl (fun h11 => ?_) (fun h11 => ?_)
          rotate_left
          · exact absurd h11 (by decide)
          refine pe_iconstv (n := 1) (v := 1) (by decide +kernel) (by decide +kernel) ?_
          refine pe_iret (by decide +kernel) rfl rfl ?_
          exact ⟨rfl, rfl, rfl⟩
        · skip
          first | exact absurd rfl (by assumption) | (exfalso; simp only [Int32.lt_iff_toInt_lt, Int32.le_iff_toInt_le, ← Int32.toInt_inj, kl_m100000, kl_m3, kl_m2, kl_m1, kl_0, kl_1, kl_2, kl_3, kl_4, kl_5, kl_6, kl_7, kl_8, kl_9, kl_10, kl_11, kl_12, kl_13, kl_14, kl_15, kl_16, kl_17, kl_18, kl_19, kl_20, kl_21, kl_22, kl_23, kl_24, kl_25, kl_26, kl_27, kl_28, kl_29, kl_30, kl_99, kl_100, kl_600, kl_999] at *; omega)
    · skip
      first | exact absurd rfl (by assumption) | (exfalso; simp only [Int32.lt_iff_toInt_lt, Int32.le_iff_toInt_le, ← Int32.toInt_inj, kl_m100000, kl_m3, kl_m2, kl_m1, kl_0, kl_1, kl_2, kl_3, kl_4, kl_5, kl_6, kl_7, kl_8, kl_9, kl_10, kl_11, kl_12, kl_13, kl_14, kl_15, kl_16, kl_17, kl_18, kl_19, kl_20, kl_21, kl_22, kl_23, kl_24, kl_25, kl_26, kl_27, kl_28, kl_29, kl_30, kl_99, kl_100, kl_600, kl_999] at *; omega)
