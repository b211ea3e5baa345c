set_option maxRecDepth 1000000 in
set_option maxHeartbeats 4000000 in
theorem p1_c27 (x0 x1 x2 x3 x4 x5 x6 : Int32) : pmE pg (pg_X [x0, x1, x2, x3, x4, x5, x6]) pg_tyl pg_cl 41 318 1622 [.retAddr 0, .ref 0, .ref 147, .int 0] [] fw_0 (fun q => q.1 = some (.int 1) ∧ q.2.2.1 = 0 ∧ q.2.2.2 = 0) := by
  refine pe_aload_n (j := 1) (by decide +kernel) rfl ?_
  refine pe_aloadX_n (j := 0) (by decide +kernel) rfl ?_
  refine pe_iload_n (j := 3) (by decide +kernel) rfl ?_
  refine pe_iconstv (n := 1) (v := 1) (by decide +kernel) (by decide +kernel) ?_
  refine pe_iadd (by decide +kernel) ?_
  refine pe_top (v := 1) (by decide +kernel) ?_
  refine pe_ialdXv (n := 7) (v := x1) (by decide +kernel) rfl rfl (by decide +kernel) rfl ?_
  refine pe_aloadX_n (j := 0) (by decide +kernel) rfl ?_
  refine pe_iload_n (j := 3) (by decide +kernel) rfl ?_
  refine pe_iconstv (n := 2) (v := 2) (by decide +kernel) (by decide +kernel) ?_
  refine pe_iadd (by decide +kernel) ?_
  refine pe_top (v := 2) (by decide +kernel) ?_
  refine pe_ialdXv (n := 7) (v := x2) (by decide +kernel) rfl rfl (by decide +kernel) rfl ?_
  refine pe_aloadX_n (j := 0) (by decide +kernel) rfl ?_
  refine pe_iload_n (j := 3) (by decide +kernel) rfl ?_
  refine pe_iconstv (n := 3) (v := 3) (by decide +kernel) (by decide +kernel) ?_
  refine pe_iadd (by decide +kernel) ?_
  refine pe_top (v := 3) (by decide +kernel) ?_
  refine pe_ialdXv (n := 7) (v := x3) (by decide +kernel) rfl rfl (by decide +kernel) rfl ?_
  refine pe_aloadX_n (j := 0) (by decide +kernel) rfl ?_
  refine pe_iload_n (j := 3) (by decide +kernel) rfl ?_
  refine pe_iconstv (n := 4) (v := 4) (by decide +kernel) (by decide +kernel) ?_
  refine pe_iadd (by decide +kernel) ?_
  refine pe_top (v := 4) (by decide +kernel) ?_
  refine pe_ialdXv (n := 7) (v := x4) (by decide +kernel) rfl rfl (by decide +kernel) rfl ?_
  refine pe_aloadX_n (j := 0) (by decide +kernel) rfl ?_
  refine pe_iload_n (j := 3) (by decide +kernel) rfl ?_
  refine pe_iconstv (n := 5) (v := 5) (by decide +kernel) (by decide +kernel) ?_
  refine pe_iadd (by decide +kernel) ?_
  refine pe_top (v := 5) (by decide +kernel) ?_
  refine pe_ialdXv (n := 7) (v := x5) (by decide +kernel) rfl rfl (by decide +kernel) rfl ?_
  refine pe_callV (j := 132) (mj := 145) (by decide +kernel) rfl ?_
  refine pe_aload_n (j := 0) (by decide +kernel) rfl ?_
  refine pe_iload_n (j := 1) (by decide +kernel) rfl ?_
  refine pe_iload_n (j := 2) (by decide +kernel) rfl ?_
  refine pe_iload_n (j := 3) (by decide +kernel) rfl ?_
  refine pe_iload (j := 4) (by decide +kernel) rfl ?_
  refine pe_callV (j := 284) (mj := 141) (by decide +kernel) rfl ?_
  refine pe_aload_n (j := 0) (by decide +kernel) rfl ?_
  refine pe_iload_n (j := 1) (by decide +kernel) rfl ?_
  refine pe_iload_n (j := 2) (by decide +kernel) rfl ?_
  refine pe_iload_n (j := 3) (by decide +kernel) rfl ?_
  refine pe_callV (j := 201) (mj := 98) (by decide +kernel) rfl ?_
  refine pe_aload_n (j := 0) (by decide +kernel) rfl ?_
  refine pe_get (j := 12) (ci := 11) (n := 0) (by decide +kernel) (by decide +kernel) rfl rfl ?_
  refine pe_iload_n (j := 1) (by decide +kernel) rfl ?_
  refine pe_callV (j := 111) (mj := 60) (by decide +kernel) rfl ?_
  refine pe_iload_n (j := 1) (by decide +kernel) rfl ?_
  refine pe_if_lt (off := 20) (t := 21) (by decide +kernel) (by decide) rfl (fun h1 => ?_) (fun h1 => ?_)
  · skip
    refine pe_null (by decide +kernel) ?_
    refine pe_nret (by decide +kernel) rfl ?_
    show pmE pg _ pg_tyl pg_cl _ 98 8 _ _ _ _
    refine pe_astoreN (j := 4) (ls' := [_, _, _, _, _, _, _]) (by decide +kernel) (Nat.le_of_ble_eq_true rfl) rfl ?_
    refine pe_aloadN (j := 4) (by decide +kernel) rfl ?_
    refine pe_ifnonnullN (off := 5) (by decide +kernel) ?_
    refine pe_iconstv (n := 0) (v := 0) (by decide +kernel) (by decide +kernel) ?_
    refine pe_iret (by decide +kernel) rfl rfl ?_
    show pmE pg _ pg_tyl pg_cl _ 141 7 _ _ _ _
    refine pe_if_eq (off := 22) (t := 29) (by decide +kernel) (by decide) rfl (fun h2 => ?_) (fun h2 => ?_)
    rotate_left
    · exact absurd h2 (by decide)
    refine pe_iconstv (n := 0) (v := 0) (by decide +kernel) (by decide +kernel) ?_
    refine pe_iret (by decide +kernel) rfl rfl ?_
    show pmE pg _ pg_tyl pg_cl _ 145 9 _ _ _ _
    refine pe_if_eq (off := 18) (t := 27) (by decide +kernel) (by decide) rfl (fun h3 => ?_) (fun h3 => ?_)
    rotate_left
    · exact absurd h3 (by decide)
    refine pe_iconstv (n := (-1)) (v := (-1)) (by decide +kernel) (by decide +kernel) ?_
    refine pe_iret (by decide +kernel) rfl rfl ?_
    show pmE pg _ pg_tyl pg_cl _ 318 1651 _ _ _ _
    refine pe_aload_n (j := 2) (by decide +kernel) rfl ?_
    refine pe_aloadX_n (j := 0) (by decide +kernel) rfl ?_
    refine pe_iload_n (j := 3) (by decide +kernel) rfl ?_
    refine pe_iconstv (n := 1) (v := 1) (by decide +kernel) (by decide +kernel) ?_
    refine pe_iadd (by decide +kernel) ?_
    refine pe_top (v := 1) (by decide +kernel) ?_
    refine pe_ialdXv (n := 7) (v := x1) (by decide +kernel) rfl rfl (by decide +kernel) rfl ?_
    refine pe_aloadX_n (j := 0) (by decide +kernel) rfl ?_
    refine pe_iload_n (j := 3) (by decide +kernel) rfl ?_
    refine pe_iconstv (n := 2) (v := 2) (by decide +kernel) (by decide +kernel) ?_
    refine pe_iadd (by decide +kernel) ?_
    refine pe_top (v := 2) (by decide +kernel) ?_
    refine pe_ialdXv (n := 7) (v := x2) (by decide +kernel) rfl rfl (by decide +kernel) rfl ?_
    refine pe_aloadX_n (j := 0) (by decide +kernel) rfl ?_
    refine pe_iload_n (j := 3) (by decide +kernel) rfl ?_
    refine pe_iconstv (n := 3) (v := 3) (by decide +kernel) (by decide +kernel) ?_
    refine pe_iadd (by decide +kernel) ?_
    refine pe_top (v := 3) (by decide +kernel) ?_
    refine pe_ialdXv (n := 7) (v := x3) (by decide +kernel) rfl rfl (by decide +kernel) rfl ?_
    refine pe_aloadX_n (j := 0) (by decide +kernel) rfl ?_
    refine pe_iload_n (j := 3) (by decide +kernel) rfl ?_
    refine pe_iconstv (n := 4) (v := 4) (by decide +kernel) (by decide +kernel) ?_
    refine pe_iadd (by decide +kernel) ?_
    refine pe_top (v := 4) (by decide +kernel) ?_
    refine pe_ialdXv (n := 7) (v := x4) (by decide +kernel) rfl rfl (by decide +kernel) rfl ?_
    refine pe_aloadX_n (j := 0) (by decide +kernel) rfl ?_
    refine pe_iload_n (j := 3) (by decide +kernel) rfl ?_
    refine pe_iconstv (n := 5) (v := 5) (by decide +kernel) (by decide +kernel) ?_
    refine pe_iadd (by decide +kernel) ?_
    refine pe_top (v := 5) (by decide +kernel) ?_
    refine pe_ialdXv (n := 7) (v := x5) (by decide +kernel) rfl rfl (by decide +kernel) rfl ?_
    refine pe_callV (j := 135) (mj := 273) (by decide +kernel) rfl ?_
    refine pe_aload_n (j := 0) (by decide +kernel) rfl ?_
    refine pe_iload_n (j := 1) (by decide +kernel) rfl ?_
    refine pe_iload_n (j := 2) (by decide +kernel) rfl ?_
    refine pe_iload_n (j := 3) (by decide +kernel) rfl ?_
    refine pe_iload (j := 4) (by decide +kernel) rfl ?_
    refine pe_callV (j := 303) (mj := 265) (by decide +kernel) rfl ?_
    refine pe_aload_n (j := 0) (by decide +kernel) rfl ?_
    refine pe_iload_n (j := 1) (by decide +kernel) rfl ?_
    refine pe_iload_n (j := 2) (by decide +kernel) rfl ?_
    refine pe_iload_n (j := 3) (by decide +kernel) rfl ?_
    refine pe_callV (j := 232) (mj := 246) (by decide +kernel) rfl ?_
    refine pe_aload_n (j := 0) (by decide +kernel) rfl ?_
    refine pe_iconstv (n := 0) (v := 0) (by decide +kernel) (by decide +kernel) ?_
    refine pe_iload_n (j := 1) (by decide +kernel) rfl ?_
    refine pe_callV (j := 153) (mj := 200) (by decide +kernel) rfl ?_
    refine pe_iload_n (j := 2) (by decide +kernel) rfl ?_
    refine pe_iconstv (n := 0) (v := 0) (by decide +kernel) (by decide +kernel) ?_
    refine pe_aload_n (j := 0) (by decide +kernel) rfl ?_
    refine pe_get (j := 7) (ci := 12) (n := 0) (by decide +kernel) (by decide +kernel) rfl rfl ?_
    refine pe_iload_n (j := 1) (by decide +kernel) rfl ?_
    refine pe_ialdv (n := 6760) (v := 0) (by decide +kernel) rfl rfl (by decide +kernel) rfl ?_
    refine pe_iconstv (n := 1) (v := 1) (by decide +kernel) (by decide +kernel) ?_
    refine pe_isub (by decide +kernel) ?_
    refine pe_top (v := (-1)) (by decide +kernel) ?_
    refine pe_callS (j := 119) (mj := 199) (by decide +kernel) (by decide +kernel) rfl ?_
    refine pe_iload_n (j := 0) (by decide +kernel) rfl ?_
    refine pe_iload_n (j := 1) (by decide +kernel) rfl ?_
    refine pe_icmp_lt (off := 12) (t := 14) (by decide +kernel) (by decide) rfl (fun h4 => ?_) (fun h4 => ?_)
    · skip
      refine pe_iconstv (n := 0) (v := 0) (by decide +kernel) (by decide +kernel) ?_
      refine pe_iret (by decide +kernel) rfl rfl ?_
      show pmE pg _ pg_tyl pg_cl _ 200 13 _ _ _ _
      refine pe_iret (by decide +kernel) rfl rfl ?_
      show pmE pg _ pg_tyl pg_cl _ 246 6 _ _ _ _
      refine pe_if_eq (off := 21) (t := 27) (by decide +kernel) (by decide) rfl (fun h5 => ?_) (fun h5 => ?_)
      rotate_left
      · exact absurd h5 (by decide)
      refine pe_iconstv (n := 0) (v := 0) (by decide +kernel) (by decide +kernel) ?_
      refine pe_iret (by decide +kernel) rfl rfl ?_
      show pmE pg _ pg_tyl pg_cl _ 265 7 _ _ _ _
      refine pe_if_eq (off := 21) (t := 28) (by decide +kernel) (by decide) rfl (fun h6 => ?_) (fun h6 => ?_)
      rotate_left
      · exact absurd h6 (by decide)
      refine pe_iconstv (n := 0) (v := 0) (by decide +kernel) (by decide +kernel) ?_
      refine pe_iret (by decide +kernel) rfl rfl ?_
      show pmE pg _ pg_tyl pg_cl _ 273 9 _ _ _ _
      refine pe_if_eq (off := 17) (t := 26) (by decide +kernel) (by decide) rfl (fun h7 => ?_) (fun h7 => ?_)
      rotate_left
      · exact absurd h7 (by decide)
      refine pe_iconstv (n := (-1)) (v := (-1)) (by decide +kernel) (by decide +kernel) ?_
      refine pe_iret (by decide +kernel) rfl rfl ?_
      show pmE pg _ pg_tyl pg_cl _ 318 1680 _ _ _ _
      refine pe_icmp_eq (off := 797) (t := 2477) (by decide +kernel) (by decide) rfl (fun h8 => ?_) (fun h8 => ?_)
      rotate_left
      · exact absurd h8 (by decide)
      refine pe_iincv (j := 3) (n := 7) (v := 7) (ls' := [_, _, _, _]) (by decide +kernel) rfl (by decide +kernel) rfl ?_
      refine pe_goto (off := (-2462)) (t := 18) (by decide +kernel) (by decide) rfl ?_
      refine pe_iload_n (j := 3) (by decide +kernel) rfl ?_
      refine pe_aloadX_n (j := 0) (by decide +kernel) rfl ?_
      refine pe_alenXv (v := 7) (by decide +kernel) rfl (by decide) rfl ?_
      refine pe_bipushv (n := 7) (v := 7) (by decide +kernel) (by decide +kernel) ?_
      refine pe_isub (by decide +kernel) ?_
      refine pe_top (v := 0) (by decide +kernel) ?_
      refine pe_icmp_gt (off := 2459) (t := 2483) (by decide +kernel) (by decide) rfl (fun h9 => ?_) (fun h9 => ?_)
      rotate_left
      · exact absurd h9 (by decide)
      refine pe_iconstv (n := 1) (v := 1) (by decide +kernel) (by decide +kernel) ?_
      refine pe_iret (by decide +kernel) rfl rfl ?_
      exact ⟨rfl, rfl, rfl⟩
    · skip
      first | exact absurd rfl (by assumption) | (exfalso; simp only [Int32.lt_iff_toInt_lt, Int32.le_iff_toInt_le, ← Int32.toInt_inj, kl_m100000, kl_m3, kl_m2, kl_m1, kl_0, kl_1, kl_2, kl_3, kl_4, kl_5, kl_6, kl_7, kl_8, kl_9, kl_10, kl_11, kl_12, kl_13, kl_14, kl_15, kl_16, kl_17, kl_18, kl_19, kl_20, kl_21, kl_22, kl_23, kl_24, kl_25, kl_26, kl_27, kl_28, kl_29, kl_30, kl_99, kl_100, kl_600, kl_999] at *; omega)
  · skip
    refine pe_iload_n (j := 1) (by decide +kernel) rfl ?_
    refine pe_aload_n (j := 0) (by decide +kernel) rfl ?_
    refine pe_get (j := 33) (ci := 8) (n := 2) (by decide +kernel) (by decide +kernel) rfl rfl ?_
    refine pe_icmp_ge (off := 12) (t := 21) (by decide +kernel) (by decide) rfl (fun h10 => ?_) (fun h10 => ?_)
    · skip
      refine pe_null (by decide +kernel) ?_
      refine pe_nret (by decide +kernel) rfl ?_
      show pmE pg _ pg_tyl pg_cl _ 98 8 _ _ _ _
      refine pe_astoreN (j := 4) (ls' := [_, _, _, _, _, _, _]) (by decide +kernel) (Nat.le_of_ble_eq_true rfl) rfl ?_
      refine pe_aloadN (j := 4) (by decide +kernel) rfl ?_
      refine pe_ifnonnullN (off := 5) (by decide +kernel) ?_
      refine pe_iconstv (n := 0) (v := 0) (by decide +kernel) (by decide +kernel) ?_
      refine pe_iret (by decide +kernel) rfl rfl ?_
      show pmE pg _ pg_tyl pg_cl _ 141 7 _ _ _ _
      refine pe_if_eq (off := 22) (t := 29) (by decide +kernel) (by decide) rfl (fun h11 => ?_) (fun h11 => ?_)
      rotate_left
      · exact absurd h11 (by decide)
      refine pe_iconstv (n := 0) (v := 0) (by decide +kernel) (by decide +kernel) ?_
      refine pe_iret (by decide +kernel) rfl rfl ?_
      show pmE pg _ pg_tyl pg_cl _ 145 9 _ _ _ _
      refine pe_if_eq (off := 18) (t := 27) (by decide +kernel) (by decide) rfl (fun h12 => ?_) (fun h12 => ?_)
      rotate_left
      · exact absurd h12 (by decide)
      refine pe_iconstv (n := (-1)) (v := (-1)) (by decide +kernel) (by decide +kernel) ?_
      refine pe_iret (by decide +kernel) rfl rfl ?_
      show pmE pg _ pg_tyl pg_cl _ 318 1651 _ _ _ _
      refine pe_aload_n (j := 2) (by decide +kernel) rfl ?_
      refine pe_aloadX_n (j := 0) (by decide +kernel) rfl ?_
      refine pe_iload_n (j := 3) (by decide +kernel) rfl ?_
      refine pe_iconstv (n := 1) (v := 1) (by decide +kernel) (by decide +kernel) ?_
      refine pe_iadd (by decide +kernel) ?_
      refine pe_top (v := 1) (by decide +kernel) ?_
      refine pe_ialdXv (n := 7) (v := x1) (by decide +kernel) rfl rfl (by decide +kernel) rfl ?_
      refine pe_aloadX_n (j := 0) (by decide +kernel) rfl ?_
      refine pe_iload_n (j := 3) (by decide +kernel) rfl ?_
      refine pe_iconstv (n := 2) (v := 2) (by decide +kernel) (by decide +kernel) ?_
      refine pe_iadd (by decide +kernel) ?_
      refine pe_top (v := 2) (by decide +kernel) ?_
      refine pe_ialdXv (n := 7) (v := x2) (by decide +kernel) rfl rfl (by decide +kernel) rfl ?_
      refine pe_aloadX_n (j := 0) (by decide +kernel) rfl ?_
      refine pe_iload_n (j := 3) (by decide +kernel) rfl ?_
      refine pe_iconstv (n := 3) (v := 3) (by decide +kernel) (by decide +kernel) ?_
      refine pe_iadd (by decide +kernel) ?_
      refine pe_top (v := 3) (by decide +kernel) ?_
      refine pe_ialdXv (n := 7) (v := x3) (by decide +kernel) rfl rfl (by decide +kernel) rfl ?_
      refine pe_aloadX_n (j := 0) (by decide +kernel) rfl ?_
      refine pe_iload_n (j := 3) (by decide +kernel) rfl ?_
      refine pe_iconstv (n := 4) (v := 4) (by decide +kernel) (by decide +kernel) ?_
      refine pe_iadd (by decide +kernel) ?_
      refine pe_top (v := 4) (by decide +kernel) ?_
      refine pe_ialdXv (n := 7) (v := x4) (by decide +kernel) rfl rfl (by decide +kernel) rfl ?_
      refine pe_aloadX_n (j := 0) (by decide +kernel) rfl ?_
      refine pe_iload_n (j := 3) (by decide +kernel) rfl ?_
      refine pe_iconstv (n := 5) (v := 5) (by decide +kernel) (by decide +kernel) ?_
      refine pe_iadd (by decide +kernel) ?_
      refine pe_top (v := 5) (by decide +kernel) ?_
      refine pe_ialdXv (n := 7) (v := x5) (by decide +kernel) rfl rfl (by decide +kernel) rfl ?_
      refine pe_callV (j := 135) (mj := 273) (by decide +kernel) rfl ?_
      refine pe_aload_n (j := 0) (by decide +kernel) rfl ?_
      refine pe_iload_n (j := 1) (by decide +kernel) rfl ?_
      refine pe_iload_n (j := 2) (by decide +kernel) rfl ?_
      refine pe_iload_n (j := 3) (by decide +kernel) rfl ?_
      refine pe_iload (j := 4) (by decide +kernel) rfl ?_
      refine pe_callV (j := 303) (mj := 265) (by decide +kernel) rfl ?_
      refine pe_aload_n (j := 0) (by decide +kernel) rfl ?_
      refine pe_iload_n (j := 1) (by decide +kernel) rfl ?_
      refine pe_iload_n (j := 2) (by decide +kernel) rfl ?_
      refine pe_iload_n (j := 3) (by decide +kernel) rfl ?_
      refine pe_callV (j := 232) (mj := 246) (by decide +kernel) rfl ?_
      refine pe_aload_n (j := 0) (by decide +kernel) rfl ?_
      refine pe_iconstv (n := 0) (v := 0) (by decide +kernel) (by decide +kernel) ?_
      refine pe_iload_n (j := 1) (by decide +kernel) rfl ?_
      refine pe_callV (j := 153) (mj := 200) (by decide +kernel) rfl ?_
      refine pe_iload_n (j := 2) (by decide +kernel) rfl ?_
      refine pe_iconstv (n := 0) (v := 0) (by decide +kernel) (by decide +kernel) ?_
      refine pe_aload_n (j := 0) (by decide +kernel) rfl ?_
      refine pe_get (j := 7) (ci := 12) (n := 0) (by decide +kernel) (by decide +kernel) rfl rfl ?_
      refine pe_iload_n (j := 1) (by decide +kernel) rfl ?_
      refine pe_ialdv (n := 6760) (v := 0) (by decide +kernel) rfl rfl (by decide +kernel) rfl ?_
      refine pe_iconstv (n := 1) (v := 1) (by decide +kernel) (by decide +kernel) ?_
      refine pe_isub (by decide +kernel) ?_
      refine pe_top (v := (-1)) (by decide +kernel) ?_
      refine pe_callS (j := 119) (mj := 199) (by decide +kernel) (by decide +kernel) rfl ?_
      refine pe_iload_n (j := 0) (by decide +kernel) rfl ?_
      refine pe_iload_n (j := 1) (by decide +kernel) rfl ?_
      refine pe_icmp_lt (off := 12) (t := 14) (by decide +kernel) (by decide) rfl (fun h13 => ?_) (fun h13 => ?_)
      · skip
        first | exact absurd rfl (by assumption) | (exfalso; simp only [Int32.lt_iff_toInt_lt, Int32.le_iff_toInt_le, ← Int32.toInt_inj, kl_m100000, kl_m3, kl_m2, kl_m1, kl_0, kl_1, kl_2, kl_3, kl_4, kl_5, kl_6, kl_7, kl_8, kl_9, kl_10, kl_11, kl_12, kl_13, kl_14, kl_15, kl_16, kl_17, kl_18, kl_19, kl_20, kl_21, kl_22, kl_23, kl_24, kl_25, kl_26, kl_27, kl_28, kl_29, kl_30, kl_99, kl_100, kl_600, kl_999] at *; omega)
      · skip
        refine pe_iload_n (j := 0) (by decide +kernel) rfl ?_
        refine pe_iload_n (j := 2) (by decide +kernel) rfl ?_
        refine pe_icmp_gt (off := 7) (t := 14) (by decide +kernel) (by decide) rfl (fun h14 => ?_) (fun h14 => ?_)
        · skip
          refine pe_iconstv (n := 0) (v := 0) (by decide +kernel) (by decide +kernel) ?_
          refine pe_iret (by decide +kernel) rfl rfl ?_
          show pmE pg _ pg_tyl pg_cl _ 200 13 _ _ _ _
          refine pe_iret (by decide +kernel) rfl rfl ?_
          show pmE pg _ pg_tyl pg_cl _ 246 6 _ _ _ _
          refine pe_if_eq (off := 21) (t := 27) (by decide +kernel) (by decide) rfl (fun h15 => ?_) (fun h15 => ?_)
          rotate_left
          · exact absurd h15 (by decide)
          refine pe_iconstv (n := 0) (v := 0) (by decide +kernel) (by decide +kernel) ?_
          refine pe_iret (by decide +kernel) rfl rfl ?_
          show pmE pg _ pg_tyl pg_cl _ 265 7 _ _ _ _
          refine pe_if_eq (off := 21) (t := 28) (by decide +kernel) (by decide) rfl (fun h16 => ?_) (fun h16 => ?_)
          rotate_left
          · exact absurd h16 (by decide)
          refine pe_iconstv (n := 0) (v := 0) (by decide +kernel) (by decide +kernel) ?_
          refine pe_iret (by decide +kernel) rfl rfl ?_
          show pmE pg _ pg_tyl pg_cl _ 273 9 _ _ _ _
          refine pe_if_eq (off := 17) (t := 26) (by decide +kernel) (by decide) rfl (fun h17 => ?_) (fun h17 => ?_)
          rotate_left
          · exact absurd h17 (by decide)
          refine pe_iconstv (n := (-1)) (v := (-1)) (by decide +kernel) (by decide +kernel) ?_
          refine pe_iret (by decide +kernel) rfl rfl ?_
          show pmE pg _ pg_tyl pg_cl _ 318 1680 _ _ _ _
          refine pe_icmp_eq (off := 797) (t := 2477) (by decide +kernel) (by decide) rfl (fun h18 => ?_) (fun h18 => ?_)
          rotate_left
          · exact absurd h18 (by decide)
          refine pe_iincv (j := 3) (n := 7) (v := 7) (ls' := [_, _, _, _]) (by decide +kernel) rfl (by decide +kernel) rfl ?_
          refine pe_goto (off := (-2462)) (t := 18) (by decide +kernel) (by decide) rfl ?_
          refine pe_iload_n (j := 3) (by decide +kernel) rfl ?_
          refine pe_aloadX_n (j := 0) (by decide +kernel) rfl ?_
          refine pe_alenXv (v := 7) (by decide +kernel) rfl (by decide) rfl ?_
          refine pe_bipushv (n := 7) (v := 7) (by decide +kernel) (by decide +kernel) ?_
          refine pe_isub (by decide +kernel) ?_
          refine pe_top (v := 0) (by decide +kernel) ?_
          refine pe_icmp_gt (off := 2459) (t := 2483) (by decide +kernel) (by decide) rfl (fun h19 => ?_) (fun h19 => ?_)
          rotate_left
          · exact absurd h19 (by decide)
          refine pe_iconstv (n := 1) (v := 1) (by decide +kernel) (by decide +kernel) ?_
          refine pe_iret (by decide +kernel) rfl rfl ?_
          exact ⟨rfl, rfl, rfl⟩
        · skip
          first | exact absurd rfl (by assumption) | (exfalso; simp only [Int32.lt_iff_toInt_lt, Int32.le_iff_toInt_le, ← Int32.toInt_inj, kl_m100000, kl_m3, kl_m2, kl_m1, kl_0, kl_1, kl_2, kl_3, kl_4, kl_5, kl_6, kl_7, kl_8, kl_9, kl_10, kl_11, kl_12, kl_13, kl_14, kl_15, kl_16, kl_17, kl_18, kl_19, kl_20, kl_21, kl_22, kl_23, kl_24, kl_25, kl_26, kl_27, kl_28, kl_29, kl_30, kl_99, kl_100, kl_600, kl_999] at *; omega)
    · skip
      first | exact absurd rfl (by assumption) | (exfalso; simp only [Int32.lt_iff_toInt_lt, Int32.le_iff_toInt_le, ← Int32.toInt_inj, kl_m100000, kl_m3, kl_m2, kl_m1, kl_0, kl_1, kl_2, kl_3, kl_4, kl_5, kl_6, kl_7, kl_8, kl_9, kl_10, kl_11, kl_12, kl_13, kl_14, kl_15, kl_16, kl_17, kl_18, kl_19, kl_20, kl_21, kl_22, kl_23, kl_24, kl_25, kl_26, kl_27, kl_28, kl_29, kl_30, kl_99, kl_100, kl_600, kl_999] at *; omega)
